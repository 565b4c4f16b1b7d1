theorem dX11_kin_0 : decode cX11_kin 0 = .ok (.iload_n 1, 1) := by decide +kernel
theorem dX11_kin_1 : decode cX11_kin 1 = .ok (.iload_n 2, 1) := by decide +kernel
theorem dX11_kin_2 : decode cX11_kin 2 = .ok (.invokestatic 84, 3) := by decide +kernel
theorem dX11_kin_5 : decode cX11_kin 5 = .ok (.ifCond .eq 11, 3) := by decide +kernel
theorem dX11_kin_8 : decode cX11_kin 8 = .ok (.iload_n 3, 1) := by decide +kernel
theorem dX11_kin_9 : decode cX11_kin 9 = .ok (.iconst 1, 1) := by decide +kernel
theorem dX11_kin_10 : decode cX11_kin 10 = .ok (.invokestatic 73, 3) := by decide +kernel
theorem dX11_kin_13 : decode cX11_kin 13 = .ok (.ifCond .ne 5, 3) := by decide +kernel
theorem dX11_kin_16 : decode cX11_kin 16 = .ok (.iconst 0, 1) := by decide +kernel
theorem dX11_kin_17 : decode cX11_kin 17 = .ok (.ireturn, 1) := by decide +kernel
theorem dX11_kin_18 : decode cX11_kin 18 = .ok (.iload 4, 2) := by decide +kernel
theorem dX11_kin_20 : decode cX11_kin 20 = .ok (.ifCond .eq 7, 3) := by decide +kernel
theorem dX11_kin_23 : decode cX11_kin 23 = .ok (.iconst 1, 1) := by decide +kernel
theorem dX11_kin_24 : decode cX11_kin 24 = .ok (.goto 4, 3) := by decide +kernel
theorem dX11_kin_27 : decode cX11_kin 27 = .ok (.iconst 0, 1) := by decide +kernel
theorem dX11_kin_28 : decode cX11_kin 28 = .ok (.istore 5, 2) := by decide +kernel
theorem dX11_kin_30 : decode cX11_kin 30 = .ok (.iload_n 3, 1) := by decide +kernel
theorem dX11_kin_31 : decode cX11_kin 31 = .ok (.ifCond .ne 40, 3) := by decide +kernel
theorem dX11_kin_34 : decode cX11_kin 34 = .ok (.aload_n 0, 1) := by decide +kernel
theorem dX11_kin_35 : decode cX11_kin 35 = .ok (.getfield 34, 3) := by decide +kernel
theorem dX11_kin_38 : decode cX11_kin 38 = .ok (.bipush 20, 2) := by decide +kernel
theorem dX11_kin_40 : decode cX11_kin 40 = .ok (.iconst 3, 1) := by decide +kernel
theorem dX11_kin_41 : decode cX11_kin 41 = .ok (.iload_n 1, 1) := by decide +kernel
theorem dX11_kin_42 : decode cX11_kin 42 = .ok (.imul, 1) := by decide +kernel
theorem dX11_kin_43 : decode cX11_kin 43 = .ok (.iadd, 1) := by decide +kernel
theorem dX11_kin_44 : decode cX11_kin 44 = .ok (.iload_n 2, 1) := by decide +kernel
theorem dX11_kin_45 : decode cX11_kin 45 = .ok (.iadd, 1) := by decide +kernel
theorem dX11_kin_46 : decode cX11_kin 46 = .ok (.iload 5, 2) := by decide +kernel
theorem dX11_kin_48 : decode cX11_kin 48 = .ok (.invokevirtual 77, 3) := by decide +kernel
theorem dX11_kin_51 : decode cX11_kin 51 = .ok (.aload_n 0, 1) := by decide +kernel
theorem dX11_kin_52 : decode cX11_kin 52 = .ok (.getfield 34, 3) := by decide +kernel
theorem dX11_kin_55 : decode cX11_kin 55 = .ok (.bipush 20, 2) := by decide +kernel
theorem dX11_kin_57 : decode cX11_kin 57 = .ok (.iconst 3, 1) := by decide +kernel
theorem dX11_kin_58 : decode cX11_kin 58 = .ok (.iload_n 2, 1) := by decide +kernel
theorem dX11_kin_59 : decode cX11_kin 59 = .ok (.imul, 1) := by decide +kernel
theorem dX11_kin_60 : decode cX11_kin 60 = .ok (.iadd, 1) := by decide +kernel
theorem dX11_kin_61 : decode cX11_kin 61 = .ok (.iload_n 1, 1) := by decide +kernel
theorem dX11_kin_62 : decode cX11_kin 62 = .ok (.iadd, 1) := by decide +kernel
theorem dX11_kin_63 : decode cX11_kin 63 = .ok (.iload 5, 2) := by decide +kernel
theorem dX11_kin_65 : decode cX11_kin 65 = .ok (.invokevirtual 77, 3) := by decide +kernel
theorem dX11_kin_68 : decode cX11_kin 68 = .ok (.goto 20, 3) := by decide +kernel
theorem dX11_kin_71 : decode cX11_kin 71 = .ok (.aload_n 0, 1) := by decide +kernel
theorem dX11_kin_72 : decode cX11_kin 72 = .ok (.getfield 34, 3) := by decide +kernel
theorem dX11_kin_75 : decode cX11_kin 75 = .ok (.bipush 30, 2) := by decide +kernel
theorem dX11_kin_77 : decode cX11_kin 77 = .ok (.iconst 3, 1) := by decide +kernel
theorem dX11_kin_78 : decode cX11_kin 78 = .ok (.iload_n 1, 1) := by decide +kernel
theorem dX11_kin_79 : decode cX11_kin 79 = .ok (.imul, 1) := by decide +kernel
theorem dX11_kin_80 : decode cX11_kin 80 = .ok (.iadd, 1) := by decide +kernel
theorem dX11_kin_81 : decode cX11_kin 81 = .ok (.iload_n 2, 1) := by decide +kernel
theorem dX11_kin_82 : decode cX11_kin 82 = .ok (.iadd, 1) := by decide +kernel
theorem dX11_kin_83 : decode cX11_kin 83 = .ok (.iload 5, 2) := by decide +kernel
theorem dX11_kin_85 : decode cX11_kin 85 = .ok (.invokevirtual 77, 3) := by decide +kernel
theorem dX11_kin_88 : decode cX11_kin 88 = .ok (.aload_n 0, 1) := by decide +kernel
theorem dX11_kin_89 : decode cX11_kin 89 = .ok (.getfield 52, 3) := by decide +kernel
theorem dX11_kin_92 : decode cX11_kin 92 = .ok (.invokevirtual 81, 3) := by decide +kernel
theorem dX11_kin_95 : decode cX11_kin 95 = .ok (.iconst 1, 1) := by decide +kernel
theorem dX11_kin_96 : decode cX11_kin 96 = .ok (.ireturn, 1) := by decide +kernel
theorem dX12_kin_0 : decode cX12_kin 0 = .ok (.iload_n 1, 1) := by decide +kernel
theorem dX12_kin_1 : decode cX12_kin 1 = .ok (.invokestatic 170, 3) := by decide +kernel
theorem dX12_kin_4 : decode cX12_kin 4 = .ok (.ifCond .eq 24, 3) := by decide +kernel
theorem dX12_kin_7 : decode cX12_kin 7 = .ok (.iload_n 2, 1) := by decide +kernel
theorem dX12_kin_8 : decode cX12_kin 8 = .ok (.invokestatic 170, 3) := by decide +kernel
theorem dX12_kin_11 : decode cX12_kin 11 = .ok (.ifCond .eq 17, 3) := by decide +kernel
theorem dX12_kin_14 : decode cX12_kin 14 = .ok (.iload_n 1, 1) := by decide +kernel
theorem dX12_kin_15 : decode cX12_kin 15 = .ok (.iload_n 2, 1) := by decide +kernel
theorem dX12_kin_16 : decode cX12_kin 16 = .ok (.if_icmp .eq 12, 3) := by decide +kernel
theorem dX12_kin_19 : decode cX12_kin 19 = .ok (.iload_n 3, 1) := by decide +kernel
theorem dX12_kin_20 : decode cX12_kin 20 = .ok (.iconst 0, 1) := by decide +kernel
theorem dX12_kin_21 : decode cX12_kin 21 = .ok (.iconst 1, 1) := by decide +kernel
theorem dX12_kin_22 : decode cX12_kin 22 = .ok (.invokestatic 1, 3) := by decide +kernel
theorem dX12_kin_25 : decode cX12_kin 25 = .ok (.ifCond .ne 5, 3) := by decide +kernel
theorem dX12_kin_28 : decode cX12_kin 28 = .ok (.iconst 0, 1) := by decide +kernel
theorem dX12_kin_29 : decode cX12_kin 29 = .ok (.ireturn, 1) := by decide +kernel
theorem dX12_kin_30 : decode cX12_kin 30 = .ok (.aload_n 0, 1) := by decide +kernel
theorem dX12_kin_31 : decode cX12_kin 31 = .ok (.aload_n 0, 1) := by decide +kernel
theorem dX12_kin_32 : decode cX12_kin 32 = .ok (.getfield 153, 3) := by decide +kernel
theorem dX12_kin_35 : decode cX12_kin 35 = .ok (.invokevirtual 174, 3) := by decide +kernel
theorem dX12_kin_38 : decode cX12_kin 38 = .ok (.iload_n 3, 1) := by decide +kernel
theorem dX12_kin_39 : decode cX12_kin 39 = .ok (.iconst 1, 1) := by decide +kernel
theorem dX12_kin_40 : decode cX12_kin 40 = .ok (.if_icmp .ne 18, 3) := by decide +kernel
theorem dX12_kin_43 : decode cX12_kin 43 = .ok (.aload_n 0, 1) := by decide +kernel
theorem dX12_kin_44 : decode cX12_kin 44 = .ok (.getfield 27, 3) := by decide +kernel
theorem dX12_kin_47 : decode cX12_kin 47 = .ok (.iconst 3, 1) := by decide +kernel
theorem dX12_kin_48 : decode cX12_kin 48 = .ok (.iload_n 1, 1) := by decide +kernel
theorem dX12_kin_49 : decode cX12_kin 49 = .ok (.imul, 1) := by decide +kernel
theorem dX12_kin_50 : decode cX12_kin 50 = .ok (.iload_n 2, 1) := by decide +kernel
theorem dX12_kin_51 : decode cX12_kin 51 = .ok (.iadd, 1) := by decide +kernel
theorem dX12_kin_52 : decode cX12_kin 52 = .ok (.iload 4, 2) := by decide +kernel
theorem dX12_kin_54 : decode cX12_kin 54 = .ok (.bastore, 1) := by decide +kernel
theorem dX12_kin_55 : decode cX12_kin 55 = .ok (.goto 27, 3) := by decide +kernel
theorem dX12_kin_58 : decode cX12_kin 58 = .ok (.aload_n 0, 1) := by decide +kernel
theorem dX12_kin_59 : decode cX12_kin 59 = .ok (.getfield 23, 3) := by decide +kernel
theorem dX12_kin_62 : decode cX12_kin 62 = .ok (.iconst 3, 1) := by decide +kernel
theorem dX12_kin_63 : decode cX12_kin 63 = .ok (.iload_n 1, 1) := by decide +kernel
theorem dX12_kin_64 : decode cX12_kin 64 = .ok (.imul, 1) := by decide +kernel
theorem dX12_kin_65 : decode cX12_kin 65 = .ok (.iload_n 2, 1) := by decide +kernel
theorem dX12_kin_66 : decode cX12_kin 66 = .ok (.iadd, 1) := by decide +kernel
theorem dX12_kin_67 : decode cX12_kin 67 = .ok (.iload 4, 2) := by decide +kernel
theorem dX12_kin_69 : decode cX12_kin 69 = .ok (.bastore, 1) := by decide +kernel
theorem dX12_kin_70 : decode cX12_kin 70 = .ok (.aload_n 0, 1) := by decide +kernel
theorem dX12_kin_71 : decode cX12_kin 71 = .ok (.getfield 23, 3) := by decide +kernel
theorem dX12_kin_74 : decode cX12_kin 74 = .ok (.iconst 3, 1) := by decide +kernel
theorem dX12_kin_75 : decode cX12_kin 75 = .ok (.iload_n 2, 1) := by decide +kernel
theorem dX12_kin_76 : decode cX12_kin 76 = .ok (.imul, 1) := by decide +kernel
theorem dX12_kin_77 : decode cX12_kin 77 = .ok (.iload_n 1, 1) := by decide +kernel
theorem dX12_kin_78 : decode cX12_kin 78 = .ok (.iadd, 1) := by decide +kernel
theorem dX12_kin_79 : decode cX12_kin 79 = .ok (.iload 4, 2) := by decide +kernel
theorem dX12_kin_81 : decode cX12_kin 81 = .ok (.bastore, 1) := by decide +kernel
theorem dX12_kin_82 : decode cX12_kin 82 = .ok (.aload_n 0, 1) := by decide +kernel
theorem dX12_kin_83 : decode cX12_kin 83 = .ok (.invokevirtual 178, 3) := by decide +kernel
theorem dX12_kin_86 : decode cX12_kin 86 = .ok (.ireturn, 1) := by decide +kernel
set_option maxHeartbeats 4000000 in
set_option maxRecDepth 100000 in
theorem c_X11_kin {l : Launch} {D : va_G} {cy : Nat → ClassId} {T0 tB tE : Nat} {a : Nat → Nat} {rw : Nat → Option Nat} (S : GS) (p0 : Int32) (p1 : Int32) (p2 : Int32)  (hr_p0 : (-2147483648) ≤ p0.toInt ∧ p0.toInt ≤ (-1)) : Ct l D cy T0 tB tE yX11_kin cX11_kin 6 (some .boolean) 2 41 0 0 (cw cy tE a rw S) [.ref (a 0), .int p0, .int p1, .int p2, .int 0] (QI D (U := GS) (fun r u => 0 = r ∧ S = u) (cw cy tE a rw)) := by
  refine Ct.ofZ RX11 "kin" [(0, .ref (a 0)), (1, .int p0), (2, .int p1), (3, .int p2), (4, .int 0)] rfl rfl rfl rfl (Nat.le_of_ble_eq_true rfl) ?_
  intro p e R s m args below meth c A b
  refine z_iload_n b dX11_kin_0 rfl rfl ?_
  refine z_iload_n b dX11_kin_1 rfl rfl ?_
  refine z_calli b (z_runS (As := [.int p0, .int p1]) (st := []) b (c_X11_arePair S p0 p1 ) cf_X11_arePair wm_X11_84 ws_X11_arePair dX11_kin_2 rfl (Nat.le_of_ble_eq_true rfl) ⟨by decide, by decide, by decide, by decide⟩) (fun r1776 u1777 h1775 => ?_)
  rcases h1775 with ⟨c1778, rfl, rfl⟩ | ⟨c1779, rfl, rfl⟩
  · refine z_if_eq_t (tgt := 16) b dX11_kin_5 (by decide) (by decide) ?_
    refine z_iconst (v := 0) b dX11_kin_16 (by decide) ?_
    exact z_zret (u := S) b rfl (by decide) dX11_kin_17 ⟨rfl, rfl⟩ rfl (by decide) (by decide)
  · exfalso; omega

set_option maxHeartbeats 4000000 in
set_option maxRecDepth 100000 in
theorem c_X12_kin {l : Launch} {D : va_G} {cy : Nat → ClassId} {T0 tB tE : Nat} {a : Nat → Nat} (S : GS) (p0 : Int32) (p1 : Int32) (p2 : Int32)  (hr_p0 : (-2147483648) ≤ p0.toInt ∧ p0.toInt ≤ (-1)) : Ct l D cy T0 tB tE yX12_kin cX12_kin 5 (some .boolean) 2 42 0 0 (mw cy a S) [.ref (a 0), .int p0, .int p1, .int p2, .int 0] (QI D (U := GS) (fun r u => 0 = r ∧ S = u) (mw cy a)) := by
  refine Ct.ofZ RX12 "kin" [(0, .ref (a 0)), (1, .int p0), (2, .int p1), (3, .int p2), (4, .int 0)] rfl rfl rfl rfl (Nat.le_of_ble_eq_true rfl) ?_
  intro p e R s m args below meth c A b
  refine z_iload_n b dX12_kin_0 rfl rfl ?_
  refine z_calli b (z_runS (As := [.int p0]) (st := []) b (c_X12_isOne S p0 ) cf_X12_isOne wm_X12_170 ws_X12_isOne dX12_kin_1 rfl (Nat.le_of_ble_eq_true rfl) ⟨by decide, by decide, by decide, by decide⟩) (fun r1781 u1782 h1780 => ?_)
  rcases h1780 with ⟨c1783, rfl, rfl⟩ | ⟨c1784, rfl, rfl⟩
  · refine z_if_eq_t (tgt := 28) b dX12_kin_4 (by decide) (by decide) ?_
    refine z_iconst (v := 0) b dX12_kin_28 (by decide) ?_
    exact z_zret (u := S) b rfl (by decide) dX12_kin_29 ⟨rfl, rfl⟩ rfl (by decide) (by decide)
  · exfalso; omega

set_option maxHeartbeats 4000000 in
set_option maxRecDepth 100000 in
theorem c_X11_kin_2 {l : Launch} {D : va_G} {cy : Nat → ClassId} {T0 tB tE : Nat} {a : Nat → Nat} {rw : Nat → Option Nat} (S : GS) (p0 : Int32) (p1 : Int32) (p2 : Int32)  (hr_p0 : (-2147483648) ≤ p0.toInt ∧ p0.toInt ≤ (-1)) : Ct l D cy T0 tB tE yX11_kin cX11_kin 6 (some .boolean) 2 41 0 0 (cw cy tE a rw S) [.ref (a 0), .int p0, .int p1, .int p2, .int 1] (QI D (U := GS) (fun r u => 0 = r ∧ S = u) (cw cy tE a rw)) := by
  refine Ct.ofZ RX11 "kin" [(0, .ref (a 0)), (1, .int p0), (2, .int p1), (3, .int p2), (4, .int 1)] rfl rfl rfl rfl (Nat.le_of_ble_eq_true rfl) ?_
  intro p e R s m args below meth c A b
  refine z_iload_n b dX11_kin_0 rfl rfl ?_
  refine z_iload_n b dX11_kin_1 rfl rfl ?_
  refine z_calli b (z_runS (As := [.int p0, .int p1]) (st := []) b (c_X11_arePair S p0 p1 ) cf_X11_arePair wm_X11_84 ws_X11_arePair dX11_kin_2 rfl (Nat.le_of_ble_eq_true rfl) ⟨by decide, by decide, by decide, by decide⟩) (fun r1786 u1787 h1785 => ?_)
  rcases h1785 with ⟨c1788, rfl, rfl⟩ | ⟨c1789, rfl, rfl⟩
  · refine z_if_eq_t (tgt := 16) b dX11_kin_5 (by decide) (by decide) ?_
    refine z_iconst (v := 0) b dX11_kin_16 (by decide) ?_
    exact z_zret (u := S) b rfl (by decide) dX11_kin_17 ⟨rfl, rfl⟩ rfl (by decide) (by decide)
  · exfalso; omega

set_option maxHeartbeats 4000000 in
set_option maxRecDepth 100000 in
theorem c_X12_kin_2 {l : Launch} {D : va_G} {cy : Nat → ClassId} {T0 tB tE : Nat} {a : Nat → Nat} (S : GS) (p0 : Int32) (p1 : Int32) (p2 : Int32)  (hr_p0 : (-2147483648) ≤ p0.toInt ∧ p0.toInt ≤ (-1)) : Ct l D cy T0 tB tE yX12_kin cX12_kin 5 (some .boolean) 2 42 0 0 (mw cy a S) [.ref (a 0), .int p0, .int p1, .int p2, .int 1] (QI D (U := GS) (fun r u => 0 = r ∧ S = u) (mw cy a)) := by
  refine Ct.ofZ RX12 "kin" [(0, .ref (a 0)), (1, .int p0), (2, .int p1), (3, .int p2), (4, .int 1)] rfl rfl rfl rfl (Nat.le_of_ble_eq_true rfl) ?_
  intro p e R s m args below meth c A b
  refine z_iload_n b dX12_kin_0 rfl rfl ?_
  refine z_calli b (z_runS (As := [.int p0]) (st := []) b (c_X12_isOne S p0 ) cf_X12_isOne wm_X12_170 ws_X12_isOne dX12_kin_1 rfl (Nat.le_of_ble_eq_true rfl) ⟨by decide, by decide, by decide, by decide⟩) (fun r1791 u1792 h1790 => ?_)
  rcases h1790 with ⟨c1793, rfl, rfl⟩ | ⟨c1794, rfl, rfl⟩
  · refine z_if_eq_t (tgt := 28) b dX12_kin_4 (by decide) (by decide) ?_
    refine z_iconst (v := 0) b dX12_kin_28 (by decide) ?_
    exact z_zret (u := S) b rfl (by decide) dX12_kin_29 ⟨rfl, rfl⟩ rfl (by decide) (by decide)
  · exfalso; omega

set_option maxHeartbeats 4000000 in
set_option maxRecDepth 100000 in
theorem c_X11_kin_3 {l : Launch} {D : va_G} {cy : Nat → ClassId} {T0 tB tE : Nat} {a : Nat → Nat} {rw : Nat → Option Nat} (S : GS) (p0 : Int32) (p1 : Int32) (p2 : Int32)  (hr_p0 : 3 ≤ p0.toInt ∧ p0.toInt ≤ 2147483647) : Ct l D cy T0 tB tE yX11_kin cX11_kin 6 (some .boolean) 2 41 0 0 (cw cy tE a rw S) [.ref (a 0), .int p0, .int p1, .int p2, .int 0] (QI D (U := GS) (fun r u => 0 = r ∧ S = u) (cw cy tE a rw)) := by
  refine Ct.ofZ RX11 "kin" [(0, .ref (a 0)), (1, .int p0), (2, .int p1), (3, .int p2), (4, .int 0)] rfl rfl rfl rfl (Nat.le_of_ble_eq_true rfl) ?_
  intro p e R s m args below meth c A b
  refine z_iload_n b dX11_kin_0 rfl rfl ?_
  refine z_iload_n b dX11_kin_1 rfl rfl ?_
  refine z_calli b (z_runS (As := [.int p0, .int p1]) (st := []) b (c_X11_arePair S p0 p1 ) cf_X11_arePair wm_X11_84 ws_X11_arePair dX11_kin_2 rfl (Nat.le_of_ble_eq_true rfl) ⟨by decide, by decide, by decide, by decide⟩) (fun r1796 u1797 h1795 => ?_)
  rcases h1795 with ⟨c1798, rfl, rfl⟩ | ⟨c1799, rfl, rfl⟩
  · refine z_if_eq_t (tgt := 16) b dX11_kin_5 (by decide) (by decide) ?_
    refine z_iconst (v := 0) b dX11_kin_16 (by decide) ?_
    exact z_zret (u := S) b rfl (by decide) dX11_kin_17 ⟨rfl, rfl⟩ rfl (by decide) (by decide)
  · exfalso; omega

set_option maxHeartbeats 4000000 in
set_option maxRecDepth 100000 in
theorem c_X12_kin_3 {l : Launch} {D : va_G} {cy : Nat → ClassId} {T0 tB tE : Nat} {a : Nat → Nat} (S : GS) (p0 : Int32) (p1 : Int32) (p2 : Int32)  (hr_p0 : 3 ≤ p0.toInt ∧ p0.toInt ≤ 2147483647) : Ct l D cy T0 tB tE yX12_kin cX12_kin 5 (some .boolean) 2 42 0 0 (mw cy a S) [.ref (a 0), .int p0, .int p1, .int p2, .int 0] (QI D (U := GS) (fun r u => 0 = r ∧ S = u) (mw cy a)) := by
  refine Ct.ofZ RX12 "kin" [(0, .ref (a 0)), (1, .int p0), (2, .int p1), (3, .int p2), (4, .int 0)] rfl rfl rfl rfl (Nat.le_of_ble_eq_true rfl) ?_
  intro p e R s m args below meth c A b
  refine z_iload_n b dX12_kin_0 rfl rfl ?_
  refine z_calli b (z_runS (As := [.int p0]) (st := []) b (c_X12_isOne S p0 ) cf_X12_isOne wm_X12_170 ws_X12_isOne dX12_kin_1 rfl (Nat.le_of_ble_eq_true rfl) ⟨by decide, by decide, by decide, by decide⟩) (fun r1801 u1802 h1800 => ?_)
  rcases h1800 with ⟨c1803, rfl, rfl⟩ | ⟨c1804, rfl, rfl⟩
  · refine z_if_eq_t (tgt := 28) b dX12_kin_4 (by decide) (by decide) ?_
    refine z_iconst (v := 0) b dX12_kin_28 (by decide) ?_
    exact z_zret (u := S) b rfl (by decide) dX12_kin_29 ⟨rfl, rfl⟩ rfl (by decide) (by decide)
  · exfalso; omega

set_option maxHeartbeats 4000000 in
set_option maxRecDepth 100000 in
theorem c_X11_kin_4 {l : Launch} {D : va_G} {cy : Nat → ClassId} {T0 tB tE : Nat} {a : Nat → Nat} {rw : Nat → Option Nat} (S : GS) (p0 : Int32) (p1 : Int32) (p2 : Int32)  (hr_p0 : 3 ≤ p0.toInt ∧ p0.toInt ≤ 2147483647) : Ct l D cy T0 tB tE yX11_kin cX11_kin 6 (some .boolean) 2 41 0 0 (cw cy tE a rw S) [.ref (a 0), .int p0, .int p1, .int p2, .int 1] (QI D (U := GS) (fun r u => 0 = r ∧ S = u) (cw cy tE a rw)) := by
  refine Ct.ofZ RX11 "kin" [(0, .ref (a 0)), (1, .int p0), (2, .int p1), (3, .int p2), (4, .int 1)] rfl rfl rfl rfl (Nat.le_of_ble_eq_true rfl) ?_
  intro p e R s m args below meth c A b
  refine z_iload_n b dX11_kin_0 rfl rfl ?_
  refine z_iload_n b dX11_kin_1 rfl rfl ?_
  refine z_calli b (z_runS (As := [.int p0, .int p1]) (st := []) b (c_X11_arePair S p0 p1 ) cf_X11_arePair wm_X11_84 ws_X11_arePair dX11_kin_2 rfl (Nat.le_of_ble_eq_true rfl) ⟨by decide, by decide, by decide, by decide⟩) (fun r1806 u1807 h1805 => ?_)
  rcases h1805 with ⟨c1808, rfl, rfl⟩ | ⟨c1809, rfl, rfl⟩
  · refine z_if_eq_t (tgt := 16) b dX11_kin_5 (by decide) (by decide) ?_
    refine z_iconst (v := 0) b dX11_kin_16 (by decide) ?_
    exact z_zret (u := S) b rfl (by decide) dX11_kin_17 ⟨rfl, rfl⟩ rfl (by decide) (by decide)
  · exfalso; omega

set_option maxHeartbeats 4000000 in
set_option maxRecDepth 100000 in
theorem c_X12_kin_4 {l : Launch} {D : va_G} {cy : Nat → ClassId} {T0 tB tE : Nat} {a : Nat → Nat} (S : GS) (p0 : Int32) (p1 : Int32) (p2 : Int32)  (hr_p0 : 3 ≤ p0.toInt ∧ p0.toInt ≤ 2147483647) : Ct l D cy T0 tB tE yX12_kin cX12_kin 5 (some .boolean) 2 42 0 0 (mw cy a S) [.ref (a 0), .int p0, .int p1, .int p2, .int 1] (QI D (U := GS) (fun r u => 0 = r ∧ S = u) (mw cy a)) := by
  refine Ct.ofZ RX12 "kin" [(0, .ref (a 0)), (1, .int p0), (2, .int p1), (3, .int p2), (4, .int 1)] rfl rfl rfl rfl (Nat.le_of_ble_eq_true rfl) ?_
  intro p e R s m args below meth c A b
  refine z_iload_n b dX12_kin_0 rfl rfl ?_
  refine z_calli b (z_runS (As := [.int p0]) (st := []) b (c_X12_isOne S p0 ) cf_X12_isOne wm_X12_170 ws_X12_isOne dX12_kin_1 rfl (Nat.le_of_ble_eq_true rfl) ⟨by decide, by decide, by decide, by decide⟩) (fun r1811 u1812 h1810 => ?_)
  rcases h1810 with ⟨c1813, rfl, rfl⟩ | ⟨c1814, rfl, rfl⟩
  · refine z_if_eq_t (tgt := 28) b dX12_kin_4 (by decide) (by decide) ?_
    refine z_iconst (v := 0) b dX12_kin_28 (by decide) ?_
    exact z_zret (u := S) b rfl (by decide) dX12_kin_29 ⟨rfl, rfl⟩ rfl (by decide) (by decide)
  · exfalso; omega

set_option maxHeartbeats 4000000 in
set_option maxRecDepth 100000 in
theorem c_X11_kin_5 {l : Launch} {D : va_G} {cy : Nat → ClassId} {T0 tB tE : Nat} {a : Nat → Nat} {rw : Nat → Option Nat} (S : GS) (p0 : Int32) (p1 : Int32)  (hr_p0 : (-2147483648) ≤ p0.toInt ∧ p0.toInt ≤ (-1)) : Ct l D cy T0 tB tE yX11_kin cX11_kin 6 (some .boolean) 2 41 0 0 (cw cy tE a rw S) [.ref (a 0), .int 0, .int p0, .int p1, .int 0] (QI D (U := GS) (fun r u => 0 = r ∧ S = u) (cw cy tE a rw)) := by
  refine Ct.ofZ RX11 "kin" [(0, .ref (a 0)), (1, .int 0), (2, .int p0), (3, .int p1), (4, .int 0)] rfl rfl rfl rfl (Nat.le_of_ble_eq_true rfl) ?_
  intro p e R s m args below meth c A b
  refine z_iload_n b dX11_kin_0 rfl rfl ?_
  refine z_iload_n b dX11_kin_1 rfl rfl ?_
  refine z_calli b (z_runS (As := [.int 0, .int p0]) (st := []) b (c_X11_arePair_2 S p0 ) cf_X11_arePair wm_X11_84 ws_X11_arePair dX11_kin_2 rfl (Nat.le_of_ble_eq_true rfl) ⟨by decide, by decide, by decide, by decide⟩) (fun r1816 u1817 h1815 => ?_)
  rcases h1815 with ⟨c1818, rfl, rfl⟩ | ⟨c1819, rfl, rfl⟩
  · refine z_if_eq_t (tgt := 16) b dX11_kin_5 (by decide) (by decide) ?_
    refine z_iconst (v := 0) b dX11_kin_16 (by decide) ?_
    exact z_zret (u := S) b rfl (by decide) dX11_kin_17 ⟨rfl, rfl⟩ rfl (by decide) (by decide)
  · exfalso; omega

set_option maxHeartbeats 4000000 in
set_option maxRecDepth 100000 in
theorem c_X12_kin_5 {l : Launch} {D : va_G} {cy : Nat → ClassId} {T0 tB tE : Nat} {a : Nat → Nat} (S : GS) (p0 : Int32) (p1 : Int32)  (hr_p0 : (-2147483648) ≤ p0.toInt ∧ p0.toInt ≤ (-1)) : Ct l D cy T0 tB tE yX12_kin cX12_kin 5 (some .boolean) 2 42 0 0 (mw cy a S) [.ref (a 0), .int 0, .int p0, .int p1, .int 0] (QI D (U := GS) (fun r u => 0 = r ∧ S = u) (mw cy a)) := by
  refine Ct.ofZ RX12 "kin" [(0, .ref (a 0)), (1, .int 0), (2, .int p0), (3, .int p1), (4, .int 0)] rfl rfl rfl rfl (Nat.le_of_ble_eq_true rfl) ?_
  intro p e R s m args below meth c A b
  refine z_iload_n b dX12_kin_0 rfl rfl ?_
  refine z_calli b (z_runS (As := [.int 0]) (st := []) b (c_X12_isOne_2 S ) cf_X12_isOne wm_X12_170 ws_X12_isOne dX12_kin_1 rfl (Nat.le_of_ble_eq_true rfl) ⟨by decide, by decide, by decide, by decide⟩) (fun r1821 u1822 h1820 => ?_)
  obtain ⟨rfl, rfl⟩ := h1820
  refine z_if_eq_f (tgt := 28) b dX12_kin_4 (by decide) (by decide) ?_
  refine z_iload_n b dX12_kin_7 rfl rfl ?_
  refine z_calli b (z_runS (As := [.int p0]) (st := []) b (c_X12_isOne S p0 ) cf_X12_isOne wm_X12_170 ws_X12_isOne dX12_kin_8 rfl (Nat.le_of_ble_eq_true rfl) ⟨by decide, by decide, by decide, by decide⟩) (fun r1824 u1825 h1823 => ?_)
  rcases h1823 with ⟨c1826, rfl, rfl⟩ | ⟨c1827, rfl, rfl⟩
  · refine z_if_eq_t (tgt := 28) b dX12_kin_11 (by decide) (by decide) ?_
    refine z_iconst (v := 0) b dX12_kin_28 (by decide) ?_
    exact z_zret (u := S) b rfl (by decide) dX12_kin_29 ⟨rfl, rfl⟩ rfl (by decide) (by decide)
  · exfalso; omega

set_option maxHeartbeats 4000000 in
set_option maxRecDepth 100000 in
theorem c_X11_kin_6 {l : Launch} {D : va_G} {cy : Nat → ClassId} {T0 tB tE : Nat} {a : Nat → Nat} {rw : Nat → Option Nat} (S : GS) (p0 : Int32) (p1 : Int32)  (hr_p0 : (-2147483648) ≤ p0.toInt ∧ p0.toInt ≤ (-1)) : Ct l D cy T0 tB tE yX11_kin cX11_kin 6 (some .boolean) 2 41 0 0 (cw cy tE a rw S) [.ref (a 0), .int 0, .int p0, .int p1, .int 1] (QI D (U := GS) (fun r u => 0 = r ∧ S = u) (cw cy tE a rw)) := by
  refine Ct.ofZ RX11 "kin" [(0, .ref (a 0)), (1, .int 0), (2, .int p0), (3, .int p1), (4, .int 1)] rfl rfl rfl rfl (Nat.le_of_ble_eq_true rfl) ?_
  intro p e R s m args below meth c A b
  refine z_iload_n b dX11_kin_0 rfl rfl ?_
  refine z_iload_n b dX11_kin_1 rfl rfl ?_
  refine z_calli b (z_runS (As := [.int 0, .int p0]) (st := []) b (c_X11_arePair_2 S p0 ) cf_X11_arePair wm_X11_84 ws_X11_arePair dX11_kin_2 rfl (Nat.le_of_ble_eq_true rfl) ⟨by decide, by decide, by decide, by decide⟩) (fun r1829 u1830 h1828 => ?_)
  rcases h1828 with ⟨c1831, rfl, rfl⟩ | ⟨c1832, rfl, rfl⟩
  · refine z_if_eq_t (tgt := 16) b dX11_kin_5 (by decide) (by decide) ?_
    refine z_iconst (v := 0) b dX11_kin_16 (by decide) ?_
    exact z_zret (u := S) b rfl (by decide) dX11_kin_17 ⟨rfl, rfl⟩ rfl (by decide) (by decide)
  · exfalso; omega

set_option maxHeartbeats 4000000 in
set_option maxRecDepth 100000 in
theorem c_X12_kin_6 {l : Launch} {D : va_G} {cy : Nat → ClassId} {T0 tB tE : Nat} {a : Nat → Nat} (S : GS) (p0 : Int32) (p1 : Int32)  (hr_p0 : (-2147483648) ≤ p0.toInt ∧ p0.toInt ≤ (-1)) : Ct l D cy T0 tB tE yX12_kin cX12_kin 5 (some .boolean) 2 42 0 0 (mw cy a S) [.ref (a 0), .int 0, .int p0, .int p1, .int 1] (QI D (U := GS) (fun r u => 0 = r ∧ S = u) (mw cy a)) := by
  refine Ct.ofZ RX12 "kin" [(0, .ref (a 0)), (1, .int 0), (2, .int p0), (3, .int p1), (4, .int 1)] rfl rfl rfl rfl (Nat.le_of_ble_eq_true rfl) ?_
  intro p e R s m args below meth c A b
  refine z_iload_n b dX12_kin_0 rfl rfl ?_
  refine z_calli b (z_runS (As := [.int 0]) (st := []) b (c_X12_isOne_2 S ) cf_X12_isOne wm_X12_170 ws_X12_isOne dX12_kin_1 rfl (Nat.le_of_ble_eq_true rfl) ⟨by decide, by decide, by decide, by decide⟩) (fun r1834 u1835 h1833 => ?_)
  obtain ⟨rfl, rfl⟩ := h1833
  refine z_if_eq_f (tgt := 28) b dX12_kin_4 (by decide) (by decide) ?_
  refine z_iload_n b dX12_kin_7 rfl rfl ?_
  refine z_calli b (z_runS (As := [.int p0]) (st := []) b (c_X12_isOne S p0 ) cf_X12_isOne wm_X12_170 ws_X12_isOne dX12_kin_8 rfl (Nat.le_of_ble_eq_true rfl) ⟨by decide, by decide, by decide, by decide⟩) (fun r1837 u1838 h1836 => ?_)
  rcases h1836 with ⟨c1839, rfl, rfl⟩ | ⟨c1840, rfl, rfl⟩
  · refine z_if_eq_t (tgt := 28) b dX12_kin_11 (by decide) (by decide) ?_
    refine z_iconst (v := 0) b dX12_kin_28 (by decide) ?_
    exact z_zret (u := S) b rfl (by decide) dX12_kin_29 ⟨rfl, rfl⟩ rfl (by decide) (by decide)
  · exfalso; omega

set_option maxHeartbeats 4000000 in
set_option maxRecDepth 100000 in
theorem c_X11_kin_7 {l : Launch} {D : va_G} {cy : Nat → ClassId} {T0 tB tE : Nat} {a : Nat → Nat} {rw : Nat → Option Nat} (S : GS) (p0 : Int32) (p1 : Int32)  (hr_p0 : 3 ≤ p0.toInt ∧ p0.toInt ≤ 2147483647) : Ct l D cy T0 tB tE yX11_kin cX11_kin 6 (some .boolean) 2 41 0 0 (cw cy tE a rw S) [.ref (a 0), .int 0, .int p0, .int p1, .int 0] (QI D (U := GS) (fun r u => 0 = r ∧ S = u) (cw cy tE a rw)) := by
  refine Ct.ofZ RX11 "kin" [(0, .ref (a 0)), (1, .int 0), (2, .int p0), (3, .int p1), (4, .int 0)] rfl rfl rfl rfl (Nat.le_of_ble_eq_true rfl) ?_
  intro p e R s m args below meth c A b
  refine z_iload_n b dX11_kin_0 rfl rfl ?_
  refine z_iload_n b dX11_kin_1 rfl rfl ?_
  refine z_calli b (z_runS (As := [.int 0, .int p0]) (st := []) b (c_X11_arePair_2 S p0 ) cf_X11_arePair wm_X11_84 ws_X11_arePair dX11_kin_2 rfl (Nat.le_of_ble_eq_true rfl) ⟨by decide, by decide, by decide, by decide⟩) (fun r1842 u1843 h1841 => ?_)
  rcases h1841 with ⟨c1844, rfl, rfl⟩ | ⟨c1845, rfl, rfl⟩
  · refine z_if_eq_t (tgt := 16) b dX11_kin_5 (by decide) (by decide) ?_
    refine z_iconst (v := 0) b dX11_kin_16 (by decide) ?_
    exact z_zret (u := S) b rfl (by decide) dX11_kin_17 ⟨rfl, rfl⟩ rfl (by decide) (by decide)
  · exfalso; omega

set_option maxHeartbeats 4000000 in
set_option maxRecDepth 100000 in
theorem c_X12_kin_7 {l : Launch} {D : va_G} {cy : Nat → ClassId} {T0 tB tE : Nat} {a : Nat → Nat} (S : GS) (p0 : Int32) (p1 : Int32)  (hr_p0 : 3 ≤ p0.toInt ∧ p0.toInt ≤ 2147483647) : Ct l D cy T0 tB tE yX12_kin cX12_kin 5 (some .boolean) 2 42 0 0 (mw cy a S) [.ref (a 0), .int 0, .int p0, .int p1, .int 0] (QI D (U := GS) (fun r u => 0 = r ∧ S = u) (mw cy a)) := by
  refine Ct.ofZ RX12 "kin" [(0, .ref (a 0)), (1, .int 0), (2, .int p0), (3, .int p1), (4, .int 0)] rfl rfl rfl rfl (Nat.le_of_ble_eq_true rfl) ?_
  intro p e R s m args below meth c A b
  refine z_iload_n b dX12_kin_0 rfl rfl ?_
  refine z_calli b (z_runS (As := [.int 0]) (st := []) b (c_X12_isOne_2 S ) cf_X12_isOne wm_X12_170 ws_X12_isOne dX12_kin_1 rfl (Nat.le_of_ble_eq_true rfl) ⟨by decide, by decide, by decide, by decide⟩) (fun r1847 u1848 h1846 => ?_)
  obtain ⟨rfl, rfl⟩ := h1846
  refine z_if_eq_f (tgt := 28) b dX12_kin_4 (by decide) (by decide) ?_
  refine z_iload_n b dX12_kin_7 rfl rfl ?_
  refine z_calli b (z_runS (As := [.int p0]) (st := []) b (c_X12_isOne S p0 ) cf_X12_isOne wm_X12_170 ws_X12_isOne dX12_kin_8 rfl (Nat.le_of_ble_eq_true rfl) ⟨by decide, by decide, by decide, by decide⟩) (fun r1850 u1851 h1849 => ?_)
  rcases h1849 with ⟨c1852, rfl, rfl⟩ | ⟨c1853, rfl, rfl⟩
  · refine z_if_eq_t (tgt := 28) b dX12_kin_11 (by decide) (by decide) ?_
    refine z_iconst (v := 0) b dX12_kin_28 (by decide) ?_
    exact z_zret (u := S) b rfl (by decide) dX12_kin_29 ⟨rfl, rfl⟩ rfl (by decide) (by decide)
  · exfalso; omega

set_option maxHeartbeats 4000000 in
set_option maxRecDepth 100000 in
theorem c_X11_kin_8 {l : Launch} {D : va_G} {cy : Nat → ClassId} {T0 tB tE : Nat} {a : Nat → Nat} {rw : Nat → Option Nat} (S : GS) (p0 : Int32) (p1 : Int32)  (hr_p0 : 3 ≤ p0.toInt ∧ p0.toInt ≤ 2147483647) : Ct l D cy T0 tB tE yX11_kin cX11_kin 6 (some .boolean) 2 41 0 0 (cw cy tE a rw S) [.ref (a 0), .int 0, .int p0, .int p1, .int 1] (QI D (U := GS) (fun r u => 0 = r ∧ S = u) (cw cy tE a rw)) := by
  refine Ct.ofZ RX11 "kin" [(0, .ref (a 0)), (1, .int 0), (2, .int p0), (3, .int p1), (4, .int 1)] rfl rfl rfl rfl (Nat.le_of_ble_eq_true rfl) ?_
  intro p e R s m args below meth c A b
  refine z_iload_n b dX11_kin_0 rfl rfl ?_
  refine z_iload_n b dX11_kin_1 rfl rfl ?_
  refine z_calli b (z_runS (As := [.int 0, .int p0]) (st := []) b (c_X11_arePair_2 S p0 ) cf_X11_arePair wm_X11_84 ws_X11_arePair dX11_kin_2 rfl (Nat.le_of_ble_eq_true rfl) ⟨by decide, by decide, by decide, by decide⟩) (fun r1855 u1856 h1854 => ?_)
  rcases h1854 with ⟨c1857, rfl, rfl⟩ | ⟨c1858, rfl, rfl⟩
  · refine z_if_eq_t (tgt := 16) b dX11_kin_5 (by decide) (by decide) ?_
    refine z_iconst (v := 0) b dX11_kin_16 (by decide) ?_
    exact z_zret (u := S) b rfl (by decide) dX11_kin_17 ⟨rfl, rfl⟩ rfl (by decide) (by decide)
  · exfalso; omega

set_option maxHeartbeats 4000000 in
set_option maxRecDepth 100000 in
theorem c_X12_kin_8 {l : Launch} {D : va_G} {cy : Nat → ClassId} {T0 tB tE : Nat} {a : Nat → Nat} (S : GS) (p0 : Int32) (p1 : Int32)  (hr_p0 : 3 ≤ p0.toInt ∧ p0.toInt ≤ 2147483647) : Ct l D cy T0 tB tE yX12_kin cX12_kin 5 (some .boolean) 2 42 0 0 (mw cy a S) [.ref (a 0), .int 0, .int p0, .int p1, .int 1] (QI D (U := GS) (fun r u => 0 = r ∧ S = u) (mw cy a)) := by
  refine Ct.ofZ RX12 "kin" [(0, .ref (a 0)), (1, .int 0), (2, .int p0), (3, .int p1), (4, .int 1)] rfl rfl rfl rfl (Nat.le_of_ble_eq_true rfl) ?_
  intro p e R s m args below meth c A b
  refine z_iload_n b dX12_kin_0 rfl rfl ?_
  refine z_calli b (z_runS (As := [.int 0]) (st := []) b (c_X12_isOne_2 S ) cf_X12_isOne wm_X12_170 ws_X12_isOne dX12_kin_1 rfl (Nat.le_of_ble_eq_true rfl) ⟨by decide, by decide, by decide, by decide⟩) (fun r1860 u1861 h1859 => ?_)
  obtain ⟨rfl, rfl⟩ := h1859
  refine z_if_eq_f (tgt := 28) b dX12_kin_4 (by decide) (by decide) ?_
  refine z_iload_n b dX12_kin_7 rfl rfl ?_
  refine z_calli b (z_runS (As := [.int p0]) (st := []) b (c_X12_isOne S p0 ) cf_X12_isOne wm_X12_170 ws_X12_isOne dX12_kin_8 rfl (Nat.le_of_ble_eq_true rfl) ⟨by decide, by decide, by decide, by decide⟩) (fun r1863 u1864 h1862 => ?_)
  rcases h1862 with ⟨c1865, rfl, rfl⟩ | ⟨c1866, rfl, rfl⟩
  · refine z_if_eq_t (tgt := 28) b dX12_kin_11 (by decide) (by decide) ?_
    refine z_iconst (v := 0) b dX12_kin_28 (by decide) ?_
    exact z_zret (u := S) b rfl (by decide) dX12_kin_29 ⟨rfl, rfl⟩ rfl (by decide) (by decide)
  · exfalso; omega

set_option maxHeartbeats 4000000 in
set_option maxRecDepth 100000 in
theorem c_X11_kin_9 {l : Launch} {D : va_G} {cy : Nat → ClassId} {T0 tB tE : Nat} {a : Nat → Nat} {rw : Nat → Option Nat} (S : GS) (p0 : Int32)  : Ct l D cy T0 tB tE yX11_kin cX11_kin 6 (some .boolean) 2 41 0 0 (cw cy tE a rw S) [.ref (a 0), .int 0, .int 0, .int p0, .int 0] (QI D (U := GS) (fun r u => 0 = r ∧ S = u) (cw cy tE a rw)) := by
  refine Ct.ofZ RX11 "kin" [(0, .ref (a 0)), (1, .int 0), (2, .int 0), (3, .int p0), (4, .int 0)] rfl rfl rfl rfl (Nat.le_of_ble_eq_true rfl) ?_
  intro p e R s m args below meth c A b
  refine z_iload_n b dX11_kin_0 rfl rfl ?_
  refine z_iload_n b dX11_kin_1 rfl rfl ?_
  refine z_calli b (z_runS (As := [.int 0, .int 0]) (st := []) b (c_X11_arePair_5 S ) cf_X11_arePair wm_X11_84 ws_X11_arePair dX11_kin_2 rfl (Nat.le_of_ble_eq_true rfl) ⟨by decide, by decide, by decide, by decide⟩) (fun r1868 u1869 h1867 => ?_)
  obtain ⟨rfl, rfl⟩ := h1867
  refine z_if_eq_t (tgt := 16) b dX11_kin_5 (by decide) (by decide) ?_
  refine z_iconst (v := 0) b dX11_kin_16 (by decide) ?_
  exact z_zret (u := S) b rfl (by decide) dX11_kin_17 ⟨rfl, rfl⟩ rfl (by decide) (by decide)

set_option maxHeartbeats 4000000 in
set_option maxRecDepth 100000 in
theorem c_X12_kin_9 {l : Launch} {D : va_G} {cy : Nat → ClassId} {T0 tB tE : Nat} {a : Nat → Nat} (S : GS) (p0 : Int32)  : Ct l D cy T0 tB tE yX12_kin cX12_kin 5 (some .boolean) 2 42 0 0 (mw cy a S) [.ref (a 0), .int 0, .int 0, .int p0, .int 0] (QI D (U := GS) (fun r u => 0 = r ∧ S = u) (mw cy a)) := by
  refine Ct.ofZ RX12 "kin" [(0, .ref (a 0)), (1, .int 0), (2, .int 0), (3, .int p0), (4, .int 0)] rfl rfl rfl rfl (Nat.le_of_ble_eq_true rfl) ?_
  intro p e R s m args below meth c A b
  refine z_iload_n b dX12_kin_0 rfl rfl ?_
  refine z_calli b (z_runS (As := [.int 0]) (st := []) b (c_X12_isOne_2 S ) cf_X12_isOne wm_X12_170 ws_X12_isOne dX12_kin_1 rfl (Nat.le_of_ble_eq_true rfl) ⟨by decide, by decide, by decide, by decide⟩) (fun r1871 u1872 h1870 => ?_)
  obtain ⟨rfl, rfl⟩ := h1870
  refine z_if_eq_f (tgt := 28) b dX12_kin_4 (by decide) (by decide) ?_
  refine z_iload_n b dX12_kin_7 rfl rfl ?_
  refine z_calli b (z_runS (As := [.int 0]) (st := []) b (c_X12_isOne_2 S ) cf_X12_isOne wm_X12_170 ws_X12_isOne dX12_kin_8 rfl (Nat.le_of_ble_eq_true rfl) ⟨by decide, by decide, by decide, by decide⟩) (fun r1874 u1875 h1873 => ?_)
  obtain ⟨rfl, rfl⟩ := h1873
  refine z_if_eq_f (tgt := 28) b dX12_kin_11 (by decide) (by decide) ?_
  refine z_iload_n b dX12_kin_14 rfl rfl ?_
  refine z_iload_n b dX12_kin_15 rfl rfl ?_
  refine z_icmp_eq_t (tgt := 28) b dX12_kin_16 (by decide) (by decide) ?_
  refine z_iconst (v := 0) b dX12_kin_28 (by decide) ?_
  exact z_zret (u := S) b rfl (by decide) dX12_kin_29 ⟨rfl, rfl⟩ rfl (by decide) (by decide)

set_option maxHeartbeats 4000000 in
set_option maxRecDepth 100000 in
theorem c_X11_kin_10 {l : Launch} {D : va_G} {cy : Nat → ClassId} {T0 tB tE : Nat} {a : Nat → Nat} {rw : Nat → Option Nat} (S : GS) (p0 : Int32)  : Ct l D cy T0 tB tE yX11_kin cX11_kin 6 (some .boolean) 2 41 0 0 (cw cy tE a rw S) [.ref (a 0), .int 0, .int 0, .int p0, .int 1] (QI D (U := GS) (fun r u => 0 = r ∧ S = u) (cw cy tE a rw)) := by
  refine Ct.ofZ RX11 "kin" [(0, .ref (a 0)), (1, .int 0), (2, .int 0), (3, .int p0), (4, .int 1)] rfl rfl rfl rfl (Nat.le_of_ble_eq_true rfl) ?_
  intro p e R s m args below meth c A b
  refine z_iload_n b dX11_kin_0 rfl rfl ?_
  refine z_iload_n b dX11_kin_1 rfl rfl ?_
  refine z_calli b (z_runS (As := [.int 0, .int 0]) (st := []) b (c_X11_arePair_5 S ) cf_X11_arePair wm_X11_84 ws_X11_arePair dX11_kin_2 rfl (Nat.le_of_ble_eq_true rfl) ⟨by decide, by decide, by decide, by decide⟩) (fun r1877 u1878 h1876 => ?_)
  obtain ⟨rfl, rfl⟩ := h1876
  refine z_if_eq_t (tgt := 16) b dX11_kin_5 (by decide) (by decide) ?_
  refine z_iconst (v := 0) b dX11_kin_16 (by decide) ?_
  exact z_zret (u := S) b rfl (by decide) dX11_kin_17 ⟨rfl, rfl⟩ rfl (by decide) (by decide)

set_option maxHeartbeats 4000000 in
set_option maxRecDepth 100000 in
theorem c_X12_kin_10 {l : Launch} {D : va_G} {cy : Nat → ClassId} {T0 tB tE : Nat} {a : Nat → Nat} (S : GS) (p0 : Int32)  : Ct l D cy T0 tB tE yX12_kin cX12_kin 5 (some .boolean) 2 42 0 0 (mw cy a S) [.ref (a 0), .int 0, .int 0, .int p0, .int 1] (QI D (U := GS) (fun r u => 0 = r ∧ S = u) (mw cy a)) := by
  refine Ct.ofZ RX12 "kin" [(0, .ref (a 0)), (1, .int 0), (2, .int 0), (3, .int p0), (4, .int 1)] rfl rfl rfl rfl (Nat.le_of_ble_eq_true rfl) ?_
  intro p e R s m args below meth c A b
  refine z_iload_n b dX12_kin_0 rfl rfl ?_
  refine z_calli b (z_runS (As := [.int 0]) (st := []) b (c_X12_isOne_2 S ) cf_X12_isOne wm_X12_170 ws_X12_isOne dX12_kin_1 rfl (Nat.le_of_ble_eq_true rfl) ⟨by decide, by decide, by decide, by decide⟩) (fun r1880 u1881 h1879 => ?_)
  obtain ⟨rfl, rfl⟩ := h1879
  refine z_if_eq_f (tgt := 28) b dX12_kin_4 (by decide) (by decide) ?_
  refine z_iload_n b dX12_kin_7 rfl rfl ?_
  refine z_calli b (z_runS (As := [.int 0]) (st := []) b (c_X12_isOne_2 S ) cf_X12_isOne wm_X12_170 ws_X12_isOne dX12_kin_8 rfl (Nat.le_of_ble_eq_true rfl) ⟨by decide, by decide, by decide, by decide⟩) (fun r1883 u1884 h1882 => ?_)
  obtain ⟨rfl, rfl⟩ := h1882
  refine z_if_eq_f (tgt := 28) b dX12_kin_11 (by decide) (by decide) ?_
  refine z_iload_n b dX12_kin_14 rfl rfl ?_
  refine z_iload_n b dX12_kin_15 rfl rfl ?_
  refine z_icmp_eq_t (tgt := 28) b dX12_kin_16 (by decide) (by decide) ?_
  refine z_iconst (v := 0) b dX12_kin_28 (by decide) ?_
  exact z_zret (u := S) b rfl (by decide) dX12_kin_29 ⟨rfl, rfl⟩ rfl (by decide) (by decide)

set_option maxHeartbeats 4000000 in
set_option maxRecDepth 100000 in
theorem c_X11_kin_11 {l : Launch} {D : va_G} {cy : Nat → ClassId} {T0 tB tE : Nat} {a : Nat → Nat} {rw : Nat → Option Nat} (S : GS) (p0 : Int32) (p1 : Int32)  (hr_p0 : (-2147483648) ≤ p0.toInt ∧ p0.toInt ≤ (-1)) : Ct l D cy T0 tB tE yX11_kin cX11_kin 6 (some .boolean) 2 41 0 0 (cw cy tE a rw S) [.ref (a 0), .int 1, .int p0, .int p1, .int 0] (QI D (U := GS) (fun r u => 0 = r ∧ S = u) (cw cy tE a rw)) := by
  refine Ct.ofZ RX11 "kin" [(0, .ref (a 0)), (1, .int 1), (2, .int p0), (3, .int p1), (4, .int 0)] rfl rfl rfl rfl (Nat.le_of_ble_eq_true rfl) ?_
  intro p e R s m args below meth c A b
  refine z_iload_n b dX11_kin_0 rfl rfl ?_
  refine z_iload_n b dX11_kin_1 rfl rfl ?_
  refine z_calli b (z_runS (As := [.int 1, .int p0]) (st := []) b (c_X11_arePair_3 S p0 ) cf_X11_arePair wm_X11_84 ws_X11_arePair dX11_kin_2 rfl (Nat.le_of_ble_eq_true rfl) ⟨by decide, by decide, by decide, by decide⟩) (fun r1886 u1887 h1885 => ?_)
  rcases h1885 with ⟨c1888, rfl, rfl⟩ | ⟨c1889, rfl, rfl⟩
  · refine z_if_eq_t (tgt := 16) b dX11_kin_5 (by decide) (by decide) ?_
    refine z_iconst (v := 0) b dX11_kin_16 (by decide) ?_
    exact z_zret (u := S) b rfl (by decide) dX11_kin_17 ⟨rfl, rfl⟩ rfl (by decide) (by decide)
  · exfalso; omega

set_option maxHeartbeats 4000000 in
set_option maxRecDepth 100000 in
theorem c_X12_kin_11 {l : Launch} {D : va_G} {cy : Nat → ClassId} {T0 tB tE : Nat} {a : Nat → Nat} (S : GS) (p0 : Int32) (p1 : Int32)  (hr_p0 : (-2147483648) ≤ p0.toInt ∧ p0.toInt ≤ (-1)) : Ct l D cy T0 tB tE yX12_kin cX12_kin 5 (some .boolean) 2 42 0 0 (mw cy a S) [.ref (a 0), .int 1, .int p0, .int p1, .int 0] (QI D (U := GS) (fun r u => 0 = r ∧ S = u) (mw cy a)) := by
  refine Ct.ofZ RX12 "kin" [(0, .ref (a 0)), (1, .int 1), (2, .int p0), (3, .int p1), (4, .int 0)] rfl rfl rfl rfl (Nat.le_of_ble_eq_true rfl) ?_
  intro p e R s m args below meth c A b
  refine z_iload_n b dX12_kin_0 rfl rfl ?_
  refine z_calli b (z_runS (As := [.int 1]) (st := []) b (c_X12_isOne_3 S ) cf_X12_isOne wm_X12_170 ws_X12_isOne dX12_kin_1 rfl (Nat.le_of_ble_eq_true rfl) ⟨by decide, by decide, by decide, by decide⟩) (fun r1891 u1892 h1890 => ?_)
  obtain ⟨rfl, rfl⟩ := h1890
  refine z_if_eq_f (tgt := 28) b dX12_kin_4 (by decide) (by decide) ?_
  refine z_iload_n b dX12_kin_7 rfl rfl ?_
  refine z_calli b (z_runS (As := [.int p0]) (st := []) b (c_X12_isOne S p0 ) cf_X12_isOne wm_X12_170 ws_X12_isOne dX12_kin_8 rfl (Nat.le_of_ble_eq_true rfl) ⟨by decide, by decide, by decide, by decide⟩) (fun r1894 u1895 h1893 => ?_)
  rcases h1893 with ⟨c1896, rfl, rfl⟩ | ⟨c1897, rfl, rfl⟩
  · refine z_if_eq_t (tgt := 28) b dX12_kin_11 (by decide) (by decide) ?_
    refine z_iconst (v := 0) b dX12_kin_28 (by decide) ?_
    exact z_zret (u := S) b rfl (by decide) dX12_kin_29 ⟨rfl, rfl⟩ rfl (by decide) (by decide)
  · exfalso; omega

set_option maxHeartbeats 4000000 in
set_option maxRecDepth 100000 in
theorem c_X11_kin_12 {l : Launch} {D : va_G} {cy : Nat → ClassId} {T0 tB tE : Nat} {a : Nat → Nat} {rw : Nat → Option Nat} (S : GS) (p0 : Int32) (p1 : Int32)  (hr_p0 : (-2147483648) ≤ p0.toInt ∧ p0.toInt ≤ (-1)) : Ct l D cy T0 tB tE yX11_kin cX11_kin 6 (some .boolean) 2 41 0 0 (cw cy tE a rw S) [.ref (a 0), .int 1, .int p0, .int p1, .int 1] (QI D (U := GS) (fun r u => 0 = r ∧ S = u) (cw cy tE a rw)) := by
  refine Ct.ofZ RX11 "kin" [(0, .ref (a 0)), (1, .int 1), (2, .int p0), (3, .int p1), (4, .int 1)] rfl rfl rfl rfl (Nat.le_of_ble_eq_true rfl) ?_
  intro p e R s m args below meth c A b
  refine z_iload_n b dX11_kin_0 rfl rfl ?_
  refine z_iload_n b dX11_kin_1 rfl rfl ?_
  refine z_calli b (z_runS (As := [.int 1, .int p0]) (st := []) b (c_X11_arePair_3 S p0 ) cf_X11_arePair wm_X11_84 ws_X11_arePair dX11_kin_2 rfl (Nat.le_of_ble_eq_true rfl) ⟨by decide, by decide, by decide, by decide⟩) (fun r1899 u1900 h1898 => ?_)
  rcases h1898 with ⟨c1901, rfl, rfl⟩ | ⟨c1902, rfl, rfl⟩
  · refine z_if_eq_t (tgt := 16) b dX11_kin_5 (by decide) (by decide) ?_
    refine z_iconst (v := 0) b dX11_kin_16 (by decide) ?_
    exact z_zret (u := S) b rfl (by decide) dX11_kin_17 ⟨rfl, rfl⟩ rfl (by decide) (by decide)
  · exfalso; omega

set_option maxHeartbeats 4000000 in
set_option maxRecDepth 100000 in
theorem c_X12_kin_12 {l : Launch} {D : va_G} {cy : Nat → ClassId} {T0 tB tE : Nat} {a : Nat → Nat} (S : GS) (p0 : Int32) (p1 : Int32)  (hr_p0 : (-2147483648) ≤ p0.toInt ∧ p0.toInt ≤ (-1)) : Ct l D cy T0 tB tE yX12_kin cX12_kin 5 (some .boolean) 2 42 0 0 (mw cy a S) [.ref (a 0), .int 1, .int p0, .int p1, .int 1] (QI D (U := GS) (fun r u => 0 = r ∧ S = u) (mw cy a)) := by
  refine Ct.ofZ RX12 "kin" [(0, .ref (a 0)), (1, .int 1), (2, .int p0), (3, .int p1), (4, .int 1)] rfl rfl rfl rfl (Nat.le_of_ble_eq_true rfl) ?_
  intro p e R s m args below meth c A b
  refine z_iload_n b dX12_kin_0 rfl rfl ?_
  refine z_calli b (z_runS (As := [.int 1]) (st := []) b (c_X12_isOne_3 S ) cf_X12_isOne wm_X12_170 ws_X12_isOne dX12_kin_1 rfl (Nat.le_of_ble_eq_true rfl) ⟨by decide, by decide, by decide, by decide⟩) (fun r1904 u1905 h1903 => ?_)
  obtain ⟨rfl, rfl⟩ := h1903
  refine z_if_eq_f (tgt := 28) b dX12_kin_4 (by decide) (by decide) ?_
  refine z_iload_n b dX12_kin_7 rfl rfl ?_
  refine z_calli b (z_runS (As := [.int p0]) (st := []) b (c_X12_isOne S p0 ) cf_X12_isOne wm_X12_170 ws_X12_isOne dX12_kin_8 rfl (Nat.le_of_ble_eq_true rfl) ⟨by decide, by decide, by decide, by decide⟩) (fun r1907 u1908 h1906 => ?_)
  rcases h1906 with ⟨c1909, rfl, rfl⟩ | ⟨c1910, rfl, rfl⟩
  · refine z_if_eq_t (tgt := 28) b dX12_kin_11 (by decide) (by decide) ?_
    refine z_iconst (v := 0) b dX12_kin_28 (by decide) ?_
    exact z_zret (u := S) b rfl (by decide) dX12_kin_29 ⟨rfl, rfl⟩ rfl (by decide) (by decide)
  · exfalso; omega

set_option maxHeartbeats 4000000 in
set_option maxRecDepth 100000 in
theorem c_X11_kin_13 {l : Launch} {D : va_G} {cy : Nat → ClassId} {T0 tB tE : Nat} {a : Nat → Nat} {rw : Nat → Option Nat} (S : GS) (p0 : Int32) (p1 : Int32)  (hr_p0 : 3 ≤ p0.toInt ∧ p0.toInt ≤ 2147483647) : Ct l D cy T0 tB tE yX11_kin cX11_kin 6 (some .boolean) 2 41 0 0 (cw cy tE a rw S) [.ref (a 0), .int 1, .int p0, .int p1, .int 0] (QI D (U := GS) (fun r u => 0 = r ∧ S = u) (cw cy tE a rw)) := by
  refine Ct.ofZ RX11 "kin" [(0, .ref (a 0)), (1, .int 1), (2, .int p0), (3, .int p1), (4, .int 0)] rfl rfl rfl rfl (Nat.le_of_ble_eq_true rfl) ?_
  intro p e R s m args below meth c A b
  refine z_iload_n b dX11_kin_0 rfl rfl ?_
  refine z_iload_n b dX11_kin_1 rfl rfl ?_
  refine z_calli b (z_runS (As := [.int 1, .int p0]) (st := []) b (c_X11_arePair_3 S p0 ) cf_X11_arePair wm_X11_84 ws_X11_arePair dX11_kin_2 rfl (Nat.le_of_ble_eq_true rfl) ⟨by decide, by decide, by decide, by decide⟩) (fun r1912 u1913 h1911 => ?_)
  rcases h1911 with ⟨c1914, rfl, rfl⟩ | ⟨c1915, rfl, rfl⟩
  · refine z_if_eq_t (tgt := 16) b dX11_kin_5 (by decide) (by decide) ?_
    refine z_iconst (v := 0) b dX11_kin_16 (by decide) ?_
    exact z_zret (u := S) b rfl (by decide) dX11_kin_17 ⟨rfl, rfl⟩ rfl (by decide) (by decide)
  · exfalso; omega

set_option maxHeartbeats 4000000 in
set_option maxRecDepth 100000 in
theorem c_X12_kin_13 {l : Launch} {D : va_G} {cy : Nat → ClassId} {T0 tB tE : Nat} {a : Nat → Nat} (S : GS) (p0 : Int32) (p1 : Int32)  (hr_p0 : 3 ≤ p0.toInt ∧ p0.toInt ≤ 2147483647) : Ct l D cy T0 tB tE yX12_kin cX12_kin 5 (some .boolean) 2 42 0 0 (mw cy a S) [.ref (a 0), .int 1, .int p0, .int p1, .int 0] (QI D (U := GS) (fun r u => 0 = r ∧ S = u) (mw cy a)) := by
  refine Ct.ofZ RX12 "kin" [(0, .ref (a 0)), (1, .int 1), (2, .int p0), (3, .int p1), (4, .int 0)] rfl rfl rfl rfl (Nat.le_of_ble_eq_true rfl) ?_
  intro p e R s m args below meth c A b
  refine z_iload_n b dX12_kin_0 rfl rfl ?_
  refine z_calli b (z_runS (As := [.int 1]) (st := []) b (c_X12_isOne_3 S ) cf_X12_isOne wm_X12_170 ws_X12_isOne dX12_kin_1 rfl (Nat.le_of_ble_eq_true rfl) ⟨by decide, by decide, by decide, by decide⟩) (fun r1917 u1918 h1916 => ?_)
  obtain ⟨rfl, rfl⟩ := h1916
  refine z_if_eq_f (tgt := 28) b dX12_kin_4 (by decide) (by decide) ?_
  refine z_iload_n b dX12_kin_7 rfl rfl ?_
  refine z_calli b (z_runS (As := [.int p0]) (st := []) b (c_X12_isOne S p0 ) cf_X12_isOne wm_X12_170 ws_X12_isOne dX12_kin_8 rfl (Nat.le_of_ble_eq_true rfl) ⟨by decide, by decide, by decide, by decide⟩) (fun r1920 u1921 h1919 => ?_)
  rcases h1919 with ⟨c1922, rfl, rfl⟩ | ⟨c1923, rfl, rfl⟩
  · refine z_if_eq_t (tgt := 28) b dX12_kin_11 (by decide) (by decide) ?_
    refine z_iconst (v := 0) b dX12_kin_28 (by decide) ?_
    exact z_zret (u := S) b rfl (by decide) dX12_kin_29 ⟨rfl, rfl⟩ rfl (by decide) (by decide)
  · exfalso; omega

set_option maxHeartbeats 4000000 in
set_option maxRecDepth 100000 in
theorem c_X11_kin_14 {l : Launch} {D : va_G} {cy : Nat → ClassId} {T0 tB tE : Nat} {a : Nat → Nat} {rw : Nat → Option Nat} (S : GS) (p0 : Int32) (p1 : Int32)  (hr_p0 : 3 ≤ p0.toInt ∧ p0.toInt ≤ 2147483647) : Ct l D cy T0 tB tE yX11_kin cX11_kin 6 (some .boolean) 2 41 0 0 (cw cy tE a rw S) [.ref (a 0), .int 1, .int p0, .int p1, .int 1] (QI D (U := GS) (fun r u => 0 = r ∧ S = u) (cw cy tE a rw)) := by
  refine Ct.ofZ RX11 "kin" [(0, .ref (a 0)), (1, .int 1), (2, .int p0), (3, .int p1), (4, .int 1)] rfl rfl rfl rfl (Nat.le_of_ble_eq_true rfl) ?_
  intro p e R s m args below meth c A b
  refine z_iload_n b dX11_kin_0 rfl rfl ?_
  refine z_iload_n b dX11_kin_1 rfl rfl ?_
  refine z_calli b (z_runS (As := [.int 1, .int p0]) (st := []) b (c_X11_arePair_3 S p0 ) cf_X11_arePair wm_X11_84 ws_X11_arePair dX11_kin_2 rfl (Nat.le_of_ble_eq_true rfl) ⟨by decide, by decide, by decide, by decide⟩) (fun r1925 u1926 h1924 => ?_)
  rcases h1924 with ⟨c1927, rfl, rfl⟩ | ⟨c1928, rfl, rfl⟩
  · refine z_if_eq_t (tgt := 16) b dX11_kin_5 (by decide) (by decide) ?_
    refine z_iconst (v := 0) b dX11_kin_16 (by decide) ?_
    exact z_zret (u := S) b rfl (by decide) dX11_kin_17 ⟨rfl, rfl⟩ rfl (by decide) (by decide)
  · exfalso; omega

set_option maxHeartbeats 4000000 in
set_option maxRecDepth 100000 in
theorem c_X12_kin_14 {l : Launch} {D : va_G} {cy : Nat → ClassId} {T0 tB tE : Nat} {a : Nat → Nat} (S : GS) (p0 : Int32) (p1 : Int32)  (hr_p0 : 3 ≤ p0.toInt ∧ p0.toInt ≤ 2147483647) : Ct l D cy T0 tB tE yX12_kin cX12_kin 5 (some .boolean) 2 42 0 0 (mw cy a S) [.ref (a 0), .int 1, .int p0, .int p1, .int 1] (QI D (U := GS) (fun r u => 0 = r ∧ S = u) (mw cy a)) := by
  refine Ct.ofZ RX12 "kin" [(0, .ref (a 0)), (1, .int 1), (2, .int p0), (3, .int p1), (4, .int 1)] rfl rfl rfl rfl (Nat.le_of_ble_eq_true rfl) ?_
  intro p e R s m args below meth c A b
  refine z_iload_n b dX12_kin_0 rfl rfl ?_
  refine z_calli b (z_runS (As := [.int 1]) (st := []) b (c_X12_isOne_3 S ) cf_X12_isOne wm_X12_170 ws_X12_isOne dX12_kin_1 rfl (Nat.le_of_ble_eq_true rfl) ⟨by decide, by decide, by decide, by decide⟩) (fun r1930 u1931 h1929 => ?_)
  obtain ⟨rfl, rfl⟩ := h1929
  refine z_if_eq_f (tgt := 28) b dX12_kin_4 (by decide) (by decide) ?_
  refine z_iload_n b dX12_kin_7 rfl rfl ?_
  refine z_calli b (z_runS (As := [.int p0]) (st := []) b (c_X12_isOne S p0 ) cf_X12_isOne wm_X12_170 ws_X12_isOne dX12_kin_8 rfl (Nat.le_of_ble_eq_true rfl) ⟨by decide, by decide, by decide, by decide⟩) (fun r1933 u1934 h1932 => ?_)
  rcases h1932 with ⟨c1935, rfl, rfl⟩ | ⟨c1936, rfl, rfl⟩
  · refine z_if_eq_t (tgt := 28) b dX12_kin_11 (by decide) (by decide) ?_
    refine z_iconst (v := 0) b dX12_kin_28 (by decide) ?_
    exact z_zret (u := S) b rfl (by decide) dX12_kin_29 ⟨rfl, rfl⟩ rfl (by decide) (by decide)
  · exfalso; omega

set_option maxHeartbeats 4000000 in
set_option maxRecDepth 100000 in
theorem c_X11_kin_15 {l : Launch} {D : va_G} {cy : Nat → ClassId} {T0 tB tE : Nat} {a : Nat → Nat} {rw : Nat → Option Nat} (S : GS) (p0 : Int32)  : Ct l D cy T0 tB tE yX11_kin cX11_kin 6 (some .boolean) 2 41 0 0 (cw cy tE a rw S) [.ref (a 0), .int 1, .int 1, .int p0, .int 0] (QI D (U := GS) (fun r u => 0 = r ∧ S = u) (cw cy tE a rw)) := by
  refine Ct.ofZ RX11 "kin" [(0, .ref (a 0)), (1, .int 1), (2, .int 1), (3, .int p0), (4, .int 0)] rfl rfl rfl rfl (Nat.le_of_ble_eq_true rfl) ?_
  intro p e R s m args below meth c A b
  refine z_iload_n b dX11_kin_0 rfl rfl ?_
  refine z_iload_n b dX11_kin_1 rfl rfl ?_
  refine z_calli b (z_runS (As := [.int 1, .int 1]) (st := []) b (c_X11_arePair_6 S ) cf_X11_arePair wm_X11_84 ws_X11_arePair dX11_kin_2 rfl (Nat.le_of_ble_eq_true rfl) ⟨by decide, by decide, by decide, by decide⟩) (fun r1938 u1939 h1937 => ?_)
  obtain ⟨rfl, rfl⟩ := h1937
  refine z_if_eq_t (tgt := 16) b dX11_kin_5 (by decide) (by decide) ?_
  refine z_iconst (v := 0) b dX11_kin_16 (by decide) ?_
  exact z_zret (u := S) b rfl (by decide) dX11_kin_17 ⟨rfl, rfl⟩ rfl (by decide) (by decide)

set_option maxHeartbeats 4000000 in
set_option maxRecDepth 100000 in
theorem c_X12_kin_15 {l : Launch} {D : va_G} {cy : Nat → ClassId} {T0 tB tE : Nat} {a : Nat → Nat} (S : GS) (p0 : Int32)  : Ct l D cy T0 tB tE yX12_kin cX12_kin 5 (some .boolean) 2 42 0 0 (mw cy a S) [.ref (a 0), .int 1, .int 1, .int p0, .int 0] (QI D (U := GS) (fun r u => 0 = r ∧ S = u) (mw cy a)) := by
  refine Ct.ofZ RX12 "kin" [(0, .ref (a 0)), (1, .int 1), (2, .int 1), (3, .int p0), (4, .int 0)] rfl rfl rfl rfl (Nat.le_of_ble_eq_true rfl) ?_
  intro p e R s m args below meth c A b
  refine z_iload_n b dX12_kin_0 rfl rfl ?_
  refine z_calli b (z_runS (As := [.int 1]) (st := []) b (c_X12_isOne_3 S ) cf_X12_isOne wm_X12_170 ws_X12_isOne dX12_kin_1 rfl (Nat.le_of_ble_eq_true rfl) ⟨by decide, by decide, by decide, by decide⟩) (fun r1941 u1942 h1940 => ?_)
  obtain ⟨rfl, rfl⟩ := h1940
  refine z_if_eq_f (tgt := 28) b dX12_kin_4 (by decide) (by decide) ?_
  refine z_iload_n b dX12_kin_7 rfl rfl ?_
  refine z_calli b (z_runS (As := [.int 1]) (st := []) b (c_X12_isOne_3 S ) cf_X12_isOne wm_X12_170 ws_X12_isOne dX12_kin_8 rfl (Nat.le_of_ble_eq_true rfl) ⟨by decide, by decide, by decide, by decide⟩) (fun r1944 u1945 h1943 => ?_)
  obtain ⟨rfl, rfl⟩ := h1943
  refine z_if_eq_f (tgt := 28) b dX12_kin_11 (by decide) (by decide) ?_
  refine z_iload_n b dX12_kin_14 rfl rfl ?_
  refine z_iload_n b dX12_kin_15 rfl rfl ?_
  refine z_icmp_eq_t (tgt := 28) b dX12_kin_16 (by decide) (by decide) ?_
  refine z_iconst (v := 0) b dX12_kin_28 (by decide) ?_
  exact z_zret (u := S) b rfl (by decide) dX12_kin_29 ⟨rfl, rfl⟩ rfl (by decide) (by decide)

set_option maxHeartbeats 4000000 in
set_option maxRecDepth 100000 in
theorem c_X11_kin_16 {l : Launch} {D : va_G} {cy : Nat → ClassId} {T0 tB tE : Nat} {a : Nat → Nat} {rw : Nat → Option Nat} (S : GS) (p0 : Int32)  : Ct l D cy T0 tB tE yX11_kin cX11_kin 6 (some .boolean) 2 41 0 0 (cw cy tE a rw S) [.ref (a 0), .int 1, .int 1, .int p0, .int 1] (QI D (U := GS) (fun r u => 0 = r ∧ S = u) (cw cy tE a rw)) := by
  refine Ct.ofZ RX11 "kin" [(0, .ref (a 0)), (1, .int 1), (2, .int 1), (3, .int p0), (4, .int 1)] rfl rfl rfl rfl (Nat.le_of_ble_eq_true rfl) ?_
  intro p e R s m args below meth c A b
  refine z_iload_n b dX11_kin_0 rfl rfl ?_
  refine z_iload_n b dX11_kin_1 rfl rfl ?_
  refine z_calli b (z_runS (As := [.int 1, .int 1]) (st := []) b (c_X11_arePair_6 S ) cf_X11_arePair wm_X11_84 ws_X11_arePair dX11_kin_2 rfl (Nat.le_of_ble_eq_true rfl) ⟨by decide, by decide, by decide, by decide⟩) (fun r1947 u1948 h1946 => ?_)
  obtain ⟨rfl, rfl⟩ := h1946
  refine z_if_eq_t (tgt := 16) b dX11_kin_5 (by decide) (by decide) ?_
  refine z_iconst (v := 0) b dX11_kin_16 (by decide) ?_
  exact z_zret (u := S) b rfl (by decide) dX11_kin_17 ⟨rfl, rfl⟩ rfl (by decide) (by decide)

set_option maxHeartbeats 4000000 in
set_option maxRecDepth 100000 in
theorem c_X12_kin_16 {l : Launch} {D : va_G} {cy : Nat → ClassId} {T0 tB tE : Nat} {a : Nat → Nat} (S : GS) (p0 : Int32)  : Ct l D cy T0 tB tE yX12_kin cX12_kin 5 (some .boolean) 2 42 0 0 (mw cy a S) [.ref (a 0), .int 1, .int 1, .int p0, .int 1] (QI D (U := GS) (fun r u => 0 = r ∧ S = u) (mw cy a)) := by
  refine Ct.ofZ RX12 "kin" [(0, .ref (a 0)), (1, .int 1), (2, .int 1), (3, .int p0), (4, .int 1)] rfl rfl rfl rfl (Nat.le_of_ble_eq_true rfl) ?_
  intro p e R s m args below meth c A b
  refine z_iload_n b dX12_kin_0 rfl rfl ?_
  refine z_calli b (z_runS (As := [.int 1]) (st := []) b (c_X12_isOne_3 S ) cf_X12_isOne wm_X12_170 ws_X12_isOne dX12_kin_1 rfl (Nat.le_of_ble_eq_true rfl) ⟨by decide, by decide, by decide, by decide⟩) (fun r1950 u1951 h1949 => ?_)
  obtain ⟨rfl, rfl⟩ := h1949
  refine z_if_eq_f (tgt := 28) b dX12_kin_4 (by decide) (by decide) ?_
  refine z_iload_n b dX12_kin_7 rfl rfl ?_
  refine z_calli b (z_runS (As := [.int 1]) (st := []) b (c_X12_isOne_3 S ) cf_X12_isOne wm_X12_170 ws_X12_isOne dX12_kin_8 rfl (Nat.le_of_ble_eq_true rfl) ⟨by decide, by decide, by decide, by decide⟩) (fun r1953 u1954 h1952 => ?_)
  obtain ⟨rfl, rfl⟩ := h1952
  refine z_if_eq_f (tgt := 28) b dX12_kin_11 (by decide) (by decide) ?_
  refine z_iload_n b dX12_kin_14 rfl rfl ?_
  refine z_iload_n b dX12_kin_15 rfl rfl ?_
  refine z_icmp_eq_t (tgt := 28) b dX12_kin_16 (by decide) (by decide) ?_
  refine z_iconst (v := 0) b dX12_kin_28 (by decide) ?_
  exact z_zret (u := S) b rfl (by decide) dX12_kin_29 ⟨rfl, rfl⟩ rfl (by decide) (by decide)

set_option maxHeartbeats 4000000 in
set_option maxRecDepth 100000 in
theorem c_X11_kin_17 {l : Launch} {D : va_G} {cy : Nat → ClassId} {T0 tB tE : Nat} {a : Nat → Nat} {rw : Nat → Option Nat} (S : GS) (p0 : Int32) (p1 : Int32)  (hr_p0 : (-2147483648) ≤ p0.toInt ∧ p0.toInt ≤ (-1)) : Ct l D cy T0 tB tE yX11_kin cX11_kin 6 (some .boolean) 2 41 0 0 (cw cy tE a rw S) [.ref (a 0), .int 2, .int p0, .int p1, .int 0] (QI D (U := GS) (fun r u => 0 = r ∧ S = u) (cw cy tE a rw)) := by
  refine Ct.ofZ RX11 "kin" [(0, .ref (a 0)), (1, .int 2), (2, .int p0), (3, .int p1), (4, .int 0)] rfl rfl rfl rfl (Nat.le_of_ble_eq_true rfl) ?_
  intro p e R s m args below meth c A b
  refine z_iload_n b dX11_kin_0 rfl rfl ?_
  refine z_iload_n b dX11_kin_1 rfl rfl ?_
  refine z_calli b (z_runS (As := [.int 2, .int p0]) (st := []) b (c_X11_arePair_4 S p0 ) cf_X11_arePair wm_X11_84 ws_X11_arePair dX11_kin_2 rfl (Nat.le_of_ble_eq_true rfl) ⟨by decide, by decide, by decide, by decide⟩) (fun r1956 u1957 h1955 => ?_)
  rcases h1955 with ⟨c1958, rfl, rfl⟩ | ⟨c1959, rfl, rfl⟩
  · refine z_if_eq_t (tgt := 16) b dX11_kin_5 (by decide) (by decide) ?_
    refine z_iconst (v := 0) b dX11_kin_16 (by decide) ?_
    exact z_zret (u := S) b rfl (by decide) dX11_kin_17 ⟨rfl, rfl⟩ rfl (by decide) (by decide)
  · exfalso; omega

set_option maxHeartbeats 4000000 in
set_option maxRecDepth 100000 in
theorem c_X12_kin_17 {l : Launch} {D : va_G} {cy : Nat → ClassId} {T0 tB tE : Nat} {a : Nat → Nat} (S : GS) (p0 : Int32) (p1 : Int32)  (hr_p0 : (-2147483648) ≤ p0.toInt ∧ p0.toInt ≤ (-1)) : Ct l D cy T0 tB tE yX12_kin cX12_kin 5 (some .boolean) 2 42 0 0 (mw cy a S) [.ref (a 0), .int 2, .int p0, .int p1, .int 0] (QI D (U := GS) (fun r u => 0 = r ∧ S = u) (mw cy a)) := by
  refine Ct.ofZ RX12 "kin" [(0, .ref (a 0)), (1, .int 2), (2, .int p0), (3, .int p1), (4, .int 0)] rfl rfl rfl rfl (Nat.le_of_ble_eq_true rfl) ?_
  intro p e R s m args below meth c A b
  refine z_iload_n b dX12_kin_0 rfl rfl ?_
  refine z_calli b (z_runS (As := [.int 2]) (st := []) b (c_X12_isOne_4 S ) cf_X12_isOne wm_X12_170 ws_X12_isOne dX12_kin_1 rfl (Nat.le_of_ble_eq_true rfl) ⟨by decide, by decide, by decide, by decide⟩) (fun r1961 u1962 h1960 => ?_)
  obtain ⟨rfl, rfl⟩ := h1960
  refine z_if_eq_f (tgt := 28) b dX12_kin_4 (by decide) (by decide) ?_
  refine z_iload_n b dX12_kin_7 rfl rfl ?_
  refine z_calli b (z_runS (As := [.int p0]) (st := []) b (c_X12_isOne S p0 ) cf_X12_isOne wm_X12_170 ws_X12_isOne dX12_kin_8 rfl (Nat.le_of_ble_eq_true rfl) ⟨by decide, by decide, by decide, by decide⟩) (fun r1964 u1965 h1963 => ?_)
  rcases h1963 with ⟨c1966, rfl, rfl⟩ | ⟨c1967, rfl, rfl⟩
  · refine z_if_eq_t (tgt := 28) b dX12_kin_11 (by decide) (by decide) ?_
    refine z_iconst (v := 0) b dX12_kin_28 (by decide) ?_
    exact z_zret (u := S) b rfl (by decide) dX12_kin_29 ⟨rfl, rfl⟩ rfl (by decide) (by decide)
  · exfalso; omega

set_option maxHeartbeats 4000000 in
set_option maxRecDepth 100000 in
theorem c_X11_kin_18 {l : Launch} {D : va_G} {cy : Nat → ClassId} {T0 tB tE : Nat} {a : Nat → Nat} {rw : Nat → Option Nat} (S : GS) (p0 : Int32) (p1 : Int32)  (hr_p0 : (-2147483648) ≤ p0.toInt ∧ p0.toInt ≤ (-1)) : Ct l D cy T0 tB tE yX11_kin cX11_kin 6 (some .boolean) 2 41 0 0 (cw cy tE a rw S) [.ref (a 0), .int 2, .int p0, .int p1, .int 1] (QI D (U := GS) (fun r u => 0 = r ∧ S = u) (cw cy tE a rw)) := by
  refine Ct.ofZ RX11 "kin" [(0, .ref (a 0)), (1, .int 2), (2, .int p0), (3, .int p1), (4, .int 1)] rfl rfl rfl rfl (Nat.le_of_ble_eq_true rfl) ?_
  intro p e R s m args below meth c A b
  refine z_iload_n b dX11_kin_0 rfl rfl ?_
  refine z_iload_n b dX11_kin_1 rfl rfl ?_
  refine z_calli b (z_runS (As := [.int 2, .int p0]) (st := []) b (c_X11_arePair_4 S p0 ) cf_X11_arePair wm_X11_84 ws_X11_arePair dX11_kin_2 rfl (Nat.le_of_ble_eq_true rfl) ⟨by decide, by decide, by decide, by decide⟩) (fun r1969 u1970 h1968 => ?_)
  rcases h1968 with ⟨c1971, rfl, rfl⟩ | ⟨c1972, rfl, rfl⟩
  · refine z_if_eq_t (tgt := 16) b dX11_kin_5 (by decide) (by decide) ?_
    refine z_iconst (v := 0) b dX11_kin_16 (by decide) ?_
    exact z_zret (u := S) b rfl (by decide) dX11_kin_17 ⟨rfl, rfl⟩ rfl (by decide) (by decide)
  · exfalso; omega

set_option maxHeartbeats 4000000 in
set_option maxRecDepth 100000 in
theorem c_X12_kin_18 {l : Launch} {D : va_G} {cy : Nat → ClassId} {T0 tB tE : Nat} {a : Nat → Nat} (S : GS) (p0 : Int32) (p1 : Int32)  (hr_p0 : (-2147483648) ≤ p0.toInt ∧ p0.toInt ≤ (-1)) : Ct l D cy T0 tB tE yX12_kin cX12_kin 5 (some .boolean) 2 42 0 0 (mw cy a S) [.ref (a 0), .int 2, .int p0, .int p1, .int 1] (QI D (U := GS) (fun r u => 0 = r ∧ S = u) (mw cy a)) := by
  refine Ct.ofZ RX12 "kin" [(0, .ref (a 0)), (1, .int 2), (2, .int p0), (3, .int p1), (4, .int 1)] rfl rfl rfl rfl (Nat.le_of_ble_eq_true rfl) ?_
  intro p e R s m args below meth c A b
  refine z_iload_n b dX12_kin_0 rfl rfl ?_
  refine z_calli b (z_runS (As := [.int 2]) (st := []) b (c_X12_isOne_4 S ) cf_X12_isOne wm_X12_170 ws_X12_isOne dX12_kin_1 rfl (Nat.le_of_ble_eq_true rfl) ⟨by decide, by decide, by decide, by decide⟩) (fun r1974 u1975 h1973 => ?_)
  obtain ⟨rfl, rfl⟩ := h1973
  refine z_if_eq_f (tgt := 28) b dX12_kin_4 (by decide) (by decide) ?_
  refine z_iload_n b dX12_kin_7 rfl rfl ?_
  refine z_calli b (z_runS (As := [.int p0]) (st := []) b (c_X12_isOne S p0 ) cf_X12_isOne wm_X12_170 ws_X12_isOne dX12_kin_8 rfl (Nat.le_of_ble_eq_true rfl) ⟨by decide, by decide, by decide, by decide⟩) (fun r1977 u1978 h1976 => ?_)
  rcases h1976 with ⟨c1979, rfl, rfl⟩ | ⟨c1980, rfl, rfl⟩
  · refine z_if_eq_t (tgt := 28) b dX12_kin_11 (by decide) (by decide) ?_
    refine z_iconst (v := 0) b dX12_kin_28 (by decide) ?_
    exact z_zret (u := S) b rfl (by decide) dX12_kin_29 ⟨rfl, rfl⟩ rfl (by decide) (by decide)
  · exfalso; omega

set_option maxHeartbeats 4000000 in
set_option maxRecDepth 100000 in
theorem c_X11_kin_19 {l : Launch} {D : va_G} {cy : Nat → ClassId} {T0 tB tE : Nat} {a : Nat → Nat} {rw : Nat → Option Nat} (S : GS) (p0 : Int32) (p1 : Int32)  (hr_p0 : 3 ≤ p0.toInt ∧ p0.toInt ≤ 2147483647) : Ct l D cy T0 tB tE yX11_kin cX11_kin 6 (some .boolean) 2 41 0 0 (cw cy tE a rw S) [.ref (a 0), .int 2, .int p0, .int p1, .int 0] (QI D (U := GS) (fun r u => 0 = r ∧ S = u) (cw cy tE a rw)) := by
  refine Ct.ofZ RX11 "kin" [(0, .ref (a 0)), (1, .int 2), (2, .int p0), (3, .int p1), (4, .int 0)] rfl rfl rfl rfl (Nat.le_of_ble_eq_true rfl) ?_
  intro p e R s m args below meth c A b
  refine z_iload_n b dX11_kin_0 rfl rfl ?_
  refine z_iload_n b dX11_kin_1 rfl rfl ?_
  refine z_calli b (z_runS (As := [.int 2, .int p0]) (st := []) b (c_X11_arePair_4 S p0 ) cf_X11_arePair wm_X11_84 ws_X11_arePair dX11_kin_2 rfl (Nat.le_of_ble_eq_true rfl) ⟨by decide, by decide, by decide, by decide⟩) (fun r1982 u1983 h1981 => ?_)
  rcases h1981 with ⟨c1984, rfl, rfl⟩ | ⟨c1985, rfl, rfl⟩
  · refine z_if_eq_t (tgt := 16) b dX11_kin_5 (by decide) (by decide) ?_
    refine z_iconst (v := 0) b dX11_kin_16 (by decide) ?_
    exact z_zret (u := S) b rfl (by decide) dX11_kin_17 ⟨rfl, rfl⟩ rfl (by decide) (by decide)
  · exfalso; omega

set_option maxHeartbeats 4000000 in
set_option maxRecDepth 100000 in
theorem c_X12_kin_19 {l : Launch} {D : va_G} {cy : Nat → ClassId} {T0 tB tE : Nat} {a : Nat → Nat} (S : GS) (p0 : Int32) (p1 : Int32)  (hr_p0 : 3 ≤ p0.toInt ∧ p0.toInt ≤ 2147483647) : Ct l D cy T0 tB tE yX12_kin cX12_kin 5 (some .boolean) 2 42 0 0 (mw cy a S) [.ref (a 0), .int 2, .int p0, .int p1, .int 0] (QI D (U := GS) (fun r u => 0 = r ∧ S = u) (mw cy a)) := by
  refine Ct.ofZ RX12 "kin" [(0, .ref (a 0)), (1, .int 2), (2, .int p0), (3, .int p1), (4, .int 0)] rfl rfl rfl rfl (Nat.le_of_ble_eq_true rfl) ?_
  intro p e R s m args below meth c A b
  refine z_iload_n b dX12_kin_0 rfl rfl ?_
  refine z_calli b (z_runS (As := [.int 2]) (st := []) b (c_X12_isOne_4 S ) cf_X12_isOne wm_X12_170 ws_X12_isOne dX12_kin_1 rfl (Nat.le_of_ble_eq_true rfl) ⟨by decide, by decide, by decide, by decide⟩) (fun r1987 u1988 h1986 => ?_)
  obtain ⟨rfl, rfl⟩ := h1986
  refine z_if_eq_f (tgt := 28) b dX12_kin_4 (by decide) (by decide) ?_
  refine z_iload_n b dX12_kin_7 rfl rfl ?_
  refine z_calli b (z_runS (As := [.int p0]) (st := []) b (c_X12_isOne S p0 ) cf_X12_isOne wm_X12_170 ws_X12_isOne dX12_kin_8 rfl (Nat.le_of_ble_eq_true rfl) ⟨by decide, by decide, by decide, by decide⟩) (fun r1990 u1991 h1989 => ?_)
  rcases h1989 with ⟨c1992, rfl, rfl⟩ | ⟨c1993, rfl, rfl⟩
  · refine z_if_eq_t (tgt := 28) b dX12_kin_11 (by decide) (by decide) ?_
    refine z_iconst (v := 0) b dX12_kin_28 (by decide) ?_
    exact z_zret (u := S) b rfl (by decide) dX12_kin_29 ⟨rfl, rfl⟩ rfl (by decide) (by decide)
  · exfalso; omega

set_option maxHeartbeats 4000000 in
set_option maxRecDepth 100000 in
theorem c_X11_kin_20 {l : Launch} {D : va_G} {cy : Nat → ClassId} {T0 tB tE : Nat} {a : Nat → Nat} {rw : Nat → Option Nat} (S : GS) (p0 : Int32) (p1 : Int32)  (hr_p0 : 3 ≤ p0.toInt ∧ p0.toInt ≤ 2147483647) : Ct l D cy T0 tB tE yX11_kin cX11_kin 6 (some .boolean) 2 41 0 0 (cw cy tE a rw S) [.ref (a 0), .int 2, .int p0, .int p1, .int 1] (QI D (U := GS) (fun r u => 0 = r ∧ S = u) (cw cy tE a rw)) := by
  refine Ct.ofZ RX11 "kin" [(0, .ref (a 0)), (1, .int 2), (2, .int p0), (3, .int p1), (4, .int 1)] rfl rfl rfl rfl (Nat.le_of_ble_eq_true rfl) ?_
  intro p e R s m args below meth c A b
  refine z_iload_n b dX11_kin_0 rfl rfl ?_
  refine z_iload_n b dX11_kin_1 rfl rfl ?_
  refine z_calli b (z_runS (As := [.int 2, .int p0]) (st := []) b (c_X11_arePair_4 S p0 ) cf_X11_arePair wm_X11_84 ws_X11_arePair dX11_kin_2 rfl (Nat.le_of_ble_eq_true rfl) ⟨by decide, by decide, by decide, by decide⟩) (fun r1995 u1996 h1994 => ?_)
  rcases h1994 with ⟨c1997, rfl, rfl⟩ | ⟨c1998, rfl, rfl⟩
  · refine z_if_eq_t (tgt := 16) b dX11_kin_5 (by decide) (by decide) ?_
    refine z_iconst (v := 0) b dX11_kin_16 (by decide) ?_
    exact z_zret (u := S) b rfl (by decide) dX11_kin_17 ⟨rfl, rfl⟩ rfl (by decide) (by decide)
  · exfalso; omega

set_option maxHeartbeats 4000000 in
set_option maxRecDepth 100000 in
theorem c_X12_kin_20 {l : Launch} {D : va_G} {cy : Nat → ClassId} {T0 tB tE : Nat} {a : Nat → Nat} (S : GS) (p0 : Int32) (p1 : Int32)  (hr_p0 : 3 ≤ p0.toInt ∧ p0.toInt ≤ 2147483647) : Ct l D cy T0 tB tE yX12_kin cX12_kin 5 (some .boolean) 2 42 0 0 (mw cy a S) [.ref (a 0), .int 2, .int p0, .int p1, .int 1] (QI D (U := GS) (fun r u => 0 = r ∧ S = u) (mw cy a)) := by
  refine Ct.ofZ RX12 "kin" [(0, .ref (a 0)), (1, .int 2), (2, .int p0), (3, .int p1), (4, .int 1)] rfl rfl rfl rfl (Nat.le_of_ble_eq_true rfl) ?_
  intro p e R s m args below meth c A b
  refine z_iload_n b dX12_kin_0 rfl rfl ?_
  refine z_calli b (z_runS (As := [.int 2]) (st := []) b (c_X12_isOne_4 S ) cf_X12_isOne wm_X12_170 ws_X12_isOne dX12_kin_1 rfl (Nat.le_of_ble_eq_true rfl) ⟨by decide, by decide, by decide, by decide⟩) (fun r2000 u2001 h1999 => ?_)
  obtain ⟨rfl, rfl⟩ := h1999
  refine z_if_eq_f (tgt := 28) b dX12_kin_4 (by decide) (by decide) ?_
  refine z_iload_n b dX12_kin_7 rfl rfl ?_
  refine z_calli b (z_runS (As := [.int p0]) (st := []) b (c_X12_isOne S p0 ) cf_X12_isOne wm_X12_170 ws_X12_isOne dX12_kin_8 rfl (Nat.le_of_ble_eq_true rfl) ⟨by decide, by decide, by decide, by decide⟩) (fun r2003 u2004 h2002 => ?_)
  rcases h2002 with ⟨c2005, rfl, rfl⟩ | ⟨c2006, rfl, rfl⟩
  · refine z_if_eq_t (tgt := 28) b dX12_kin_11 (by decide) (by decide) ?_
    refine z_iconst (v := 0) b dX12_kin_28 (by decide) ?_
    exact z_zret (u := S) b rfl (by decide) dX12_kin_29 ⟨rfl, rfl⟩ rfl (by decide) (by decide)
  · exfalso; omega

set_option maxHeartbeats 4000000 in
set_option maxRecDepth 100000 in
theorem c_X11_kin_21 {l : Launch} {D : va_G} {cy : Nat → ClassId} {T0 tB tE : Nat} {a : Nat → Nat} {rw : Nat → Option Nat} (S : GS) (p0 : Int32)  : Ct l D cy T0 tB tE yX11_kin cX11_kin 6 (some .boolean) 2 41 0 0 (cw cy tE a rw S) [.ref (a 0), .int 2, .int 2, .int p0, .int 0] (QI D (U := GS) (fun r u => 0 = r ∧ S = u) (cw cy tE a rw)) := by
  refine Ct.ofZ RX11 "kin" [(0, .ref (a 0)), (1, .int 2), (2, .int 2), (3, .int p0), (4, .int 0)] rfl rfl rfl rfl (Nat.le_of_ble_eq_true rfl) ?_
  intro p e R s m args below meth c A b
  refine z_iload_n b dX11_kin_0 rfl rfl ?_
  refine z_iload_n b dX11_kin_1 rfl rfl ?_
  refine z_calli b (z_runS (As := [.int 2, .int 2]) (st := []) b (c_X11_arePair_7 S ) cf_X11_arePair wm_X11_84 ws_X11_arePair dX11_kin_2 rfl (Nat.le_of_ble_eq_true rfl) ⟨by decide, by decide, by decide, by decide⟩) (fun r2008 u2009 h2007 => ?_)
  obtain ⟨rfl, rfl⟩ := h2007
  refine z_if_eq_t (tgt := 16) b dX11_kin_5 (by decide) (by decide) ?_
  refine z_iconst (v := 0) b dX11_kin_16 (by decide) ?_
  exact z_zret (u := S) b rfl (by decide) dX11_kin_17 ⟨rfl, rfl⟩ rfl (by decide) (by decide)

set_option maxHeartbeats 4000000 in
set_option maxRecDepth 100000 in
theorem c_X12_kin_21 {l : Launch} {D : va_G} {cy : Nat → ClassId} {T0 tB tE : Nat} {a : Nat → Nat} (S : GS) (p0 : Int32)  : Ct l D cy T0 tB tE yX12_kin cX12_kin 5 (some .boolean) 2 42 0 0 (mw cy a S) [.ref (a 0), .int 2, .int 2, .int p0, .int 0] (QI D (U := GS) (fun r u => 0 = r ∧ S = u) (mw cy a)) := by
  refine Ct.ofZ RX12 "kin" [(0, .ref (a 0)), (1, .int 2), (2, .int 2), (3, .int p0), (4, .int 0)] rfl rfl rfl rfl (Nat.le_of_ble_eq_true rfl) ?_
  intro p e R s m args below meth c A b
  refine z_iload_n b dX12_kin_0 rfl rfl ?_
  refine z_calli b (z_runS (As := [.int 2]) (st := []) b (c_X12_isOne_4 S ) cf_X12_isOne wm_X12_170 ws_X12_isOne dX12_kin_1 rfl (Nat.le_of_ble_eq_true rfl) ⟨by decide, by decide, by decide, by decide⟩) (fun r2011 u2012 h2010 => ?_)
  obtain ⟨rfl, rfl⟩ := h2010
  refine z_if_eq_f (tgt := 28) b dX12_kin_4 (by decide) (by decide) ?_
  refine z_iload_n b dX12_kin_7 rfl rfl ?_
  refine z_calli b (z_runS (As := [.int 2]) (st := []) b (c_X12_isOne_4 S ) cf_X12_isOne wm_X12_170 ws_X12_isOne dX12_kin_8 rfl (Nat.le_of_ble_eq_true rfl) ⟨by decide, by decide, by decide, by decide⟩) (fun r2014 u2015 h2013 => ?_)
  obtain ⟨rfl, rfl⟩ := h2013
  refine z_if_eq_f (tgt := 28) b dX12_kin_11 (by decide) (by decide) ?_
  refine z_iload_n b dX12_kin_14 rfl rfl ?_
  refine z_iload_n b dX12_kin_15 rfl rfl ?_
  refine z_icmp_eq_t (tgt := 28) b dX12_kin_16 (by decide) (by decide) ?_
  refine z_iconst (v := 0) b dX12_kin_28 (by decide) ?_
  exact z_zret (u := S) b rfl (by decide) dX12_kin_29 ⟨rfl, rfl⟩ rfl (by decide) (by decide)

set_option maxHeartbeats 4000000 in
set_option maxRecDepth 100000 in
theorem c_X11_kin_22 {l : Launch} {D : va_G} {cy : Nat → ClassId} {T0 tB tE : Nat} {a : Nat → Nat} {rw : Nat → Option Nat} (S : GS) (p0 : Int32)  : Ct l D cy T0 tB tE yX11_kin cX11_kin 6 (some .boolean) 2 41 0 0 (cw cy tE a rw S) [.ref (a 0), .int 2, .int 2, .int p0, .int 1] (QI D (U := GS) (fun r u => 0 = r ∧ S = u) (cw cy tE a rw)) := by
  refine Ct.ofZ RX11 "kin" [(0, .ref (a 0)), (1, .int 2), (2, .int 2), (3, .int p0), (4, .int 1)] rfl rfl rfl rfl (Nat.le_of_ble_eq_true rfl) ?_
  intro p e R s m args below meth c A b
  refine z_iload_n b dX11_kin_0 rfl rfl ?_
  refine z_iload_n b dX11_kin_1 rfl rfl ?_
  refine z_calli b (z_runS (As := [.int 2, .int 2]) (st := []) b (c_X11_arePair_7 S ) cf_X11_arePair wm_X11_84 ws_X11_arePair dX11_kin_2 rfl (Nat.le_of_ble_eq_true rfl) ⟨by decide, by decide, by decide, by decide⟩) (fun r2017 u2018 h2016 => ?_)
  obtain ⟨rfl, rfl⟩ := h2016
  refine z_if_eq_t (tgt := 16) b dX11_kin_5 (by decide) (by decide) ?_
  refine z_iconst (v := 0) b dX11_kin_16 (by decide) ?_
  exact z_zret (u := S) b rfl (by decide) dX11_kin_17 ⟨rfl, rfl⟩ rfl (by decide) (by decide)

set_option maxHeartbeats 4000000 in
set_option maxRecDepth 100000 in
theorem c_X12_kin_22 {l : Launch} {D : va_G} {cy : Nat → ClassId} {T0 tB tE : Nat} {a : Nat → Nat} (S : GS) (p0 : Int32)  : Ct l D cy T0 tB tE yX12_kin cX12_kin 5 (some .boolean) 2 42 0 0 (mw cy a S) [.ref (a 0), .int 2, .int 2, .int p0, .int 1] (QI D (U := GS) (fun r u => 0 = r ∧ S = u) (mw cy a)) := by
  refine Ct.ofZ RX12 "kin" [(0, .ref (a 0)), (1, .int 2), (2, .int 2), (3, .int p0), (4, .int 1)] rfl rfl rfl rfl (Nat.le_of_ble_eq_true rfl) ?_
  intro p e R s m args below meth c A b
  refine z_iload_n b dX12_kin_0 rfl rfl ?_
  refine z_calli b (z_runS (As := [.int 2]) (st := []) b (c_X12_isOne_4 S ) cf_X12_isOne wm_X12_170 ws_X12_isOne dX12_kin_1 rfl (Nat.le_of_ble_eq_true rfl) ⟨by decide, by decide, by decide, by decide⟩) (fun r2020 u2021 h2019 => ?_)
  obtain ⟨rfl, rfl⟩ := h2019
  refine z_if_eq_f (tgt := 28) b dX12_kin_4 (by decide) (by decide) ?_
  refine z_iload_n b dX12_kin_7 rfl rfl ?_
  refine z_calli b (z_runS (As := [.int 2]) (st := []) b (c_X12_isOne_4 S ) cf_X12_isOne wm_X12_170 ws_X12_isOne dX12_kin_8 rfl (Nat.le_of_ble_eq_true rfl) ⟨by decide, by decide, by decide, by decide⟩) (fun r2023 u2024 h2022 => ?_)
  obtain ⟨rfl, rfl⟩ := h2022
  refine z_if_eq_f (tgt := 28) b dX12_kin_11 (by decide) (by decide) ?_
  refine z_iload_n b dX12_kin_14 rfl rfl ?_
  refine z_iload_n b dX12_kin_15 rfl rfl ?_
  refine z_icmp_eq_t (tgt := 28) b dX12_kin_16 (by decide) (by decide) ?_
  refine z_iconst (v := 0) b dX12_kin_28 (by decide) ?_
  exact z_zret (u := S) b rfl (by decide) dX12_kin_29 ⟨rfl, rfl⟩ rfl (by decide) (by decide)

set_option maxHeartbeats 4000000 in
set_option maxRecDepth 100000 in
theorem c_X11_isWithin_4 {l : Launch} {D : va_G} {cy : Nat → ClassId} {T0 tB tE : Nat} {a : Nat → Nat} {rw : Nat → Option Nat} (S : GS) (p0 : Int32)  : Ct l D cy T0 tB tE yX11_isWithin cX11_isWithin 2 (some .boolean) 0 0 0 0 (cw cy tE a rw S) [.int p0, .int 1] (QI D (U := GS) (fun r u => ((((p0.toInt < 0)) ∨ ((0 ≤ p0.toInt) ∧ (1 < p0.toInt))) ∧ 0 = r ∧ S = u) ∨ (((0 ≤ p0.toInt) ∧ (p0.toInt ≤ 1)) ∧ 1 = r ∧ S = u)) (cw cy tE a rw)) := by
  refine Ct.ofZ RX11 "isWithin" [(0, .int p0), (1, .int 1)] rfl rfl rfl rfl (Nat.le_of_ble_eq_true rfl) ?_
  intro p e R s m args below meth c A b
  refine z_iload_n b dX11_isWithin_0 rfl rfl ?_
  refine y_if_lt (tgt := 13) (xl := p0.toInt) b rfl dX11_isWithin_1 (by decide) (fun c2028 => ?_) (fun c2028 => ?_)
  · refine z_iconst (v := 0) b dX11_isWithin_13 (by decide) ?_
    exact z_zret (u := S) b rfl (by decide) dX11_isWithin_14 (Or.inl ⟨(Or.inl c2028), rfl, rfl⟩) rfl (by decide) (by decide)
  · refine z_iload_n b dX11_isWithin_4 rfl rfl ?_
    refine z_iload_n b dX11_isWithin_5 rfl rfl ?_
    refine y_icmp_gt (tgt := 13) (xl := p0.toInt) (yl := 1) b rfl (by decide) dX11_isWithin_6 (by decide) (fun c2029 => ?_) (fun c2029 => ?_)
    · refine z_iconst (v := 0) b dX11_isWithin_13 (by decide) ?_
      exact z_zret (u := S) b rfl (by decide) dX11_isWithin_14 (Or.inl ⟨(Or.inr ⟨c2028, c2029⟩), rfl, rfl⟩) rfl (by decide) (by decide)
    · refine z_iconst (v := 1) b dX11_isWithin_9 (by decide) ?_
      refine z_goto (tgt := 14) b dX11_isWithin_10 (by decide) ?_
      exact z_zret (u := S) b rfl (by decide) dX11_isWithin_14 (Or.inr ⟨⟨c2028, c2029⟩, rfl, rfl⟩) rfl (by decide) (by decide)

set_option maxHeartbeats 4000000 in
set_option maxRecDepth 100000 in
theorem c_X11_kin_23 {l : Launch} {D : va_G} {cy : Nat → ClassId} {T0 tB tE : Nat} {a : Nat → Nat} {rw : Nat → Option Nat} (S : GS) (p0 : Int32)  (hr_p0 : (-2147483648) ≤ p0.toInt ∧ p0.toInt ≤ (-1)) : Ct l D cy T0 tB tE yX11_kin cX11_kin 6 (some .boolean) 2 41 0 0 (cw cy tE a rw S) [.ref (a 0), .int 0, .int 1, .int p0, .int 0] (QI D (U := GS) (fun r u => 0 = r ∧ S = u) (cw cy tE a rw)) := by
  refine Ct.ofZ RX11 "kin" [(0, .ref (a 0)), (1, .int 0), (2, .int 1), (3, .int p0), (4, .int 0)] rfl rfl rfl rfl (Nat.le_of_ble_eq_true rfl) ?_
  intro p e R s m args below meth c A b
  refine z_iload_n b dX11_kin_0 rfl rfl ?_
  refine z_iload_n b dX11_kin_1 rfl rfl ?_
  refine z_calli b (z_runS (As := [.int 0, .int 1]) (st := []) b (c_X11_arePair_8 S ) cf_X11_arePair wm_X11_84 ws_X11_arePair dX11_kin_2 rfl (Nat.le_of_ble_eq_true rfl) ⟨by decide, by decide, by decide, by decide⟩) (fun r2026 u2027 h2025 => ?_)
  obtain ⟨rfl, rfl⟩ := h2025
  refine z_if_eq_f (tgt := 16) b dX11_kin_5 (by decide) (by decide) ?_
  refine z_iload_n b dX11_kin_8 rfl rfl ?_
  refine z_iconst (v := 1) b dX11_kin_9 (by decide) ?_
  refine z_calli b (z_runS (As := [.int p0, .int 1]) (st := []) b (c_X11_isWithin_4 S p0 ) cf_X11_isWithin wm_X11_73 ws_X11_isWithin dX11_kin_10 rfl (Nat.le_of_ble_eq_true rfl) ⟨by decide, by decide, by decide, by decide⟩) (fun r2031 u2032 h2030 => ?_)
  rcases h2030 with ⟨c2033, rfl, rfl⟩ | ⟨c2034, rfl, rfl⟩
  · refine z_if_ne_f (tgt := 18) b dX11_kin_13 (by decide) (by decide) ?_
    refine z_iconst (v := 0) b dX11_kin_16 (by decide) ?_
    exact z_zret (u := S) b rfl (by decide) dX11_kin_17 ⟨rfl, rfl⟩ rfl (by decide) (by decide)
  · exfalso; omega

set_option maxHeartbeats 4000000 in
set_option maxRecDepth 100000 in
theorem c_X12_isIn_8 {l : Launch} {D : va_G} {cy : Nat → ClassId} {T0 tB tE : Nat} {a : Nat → Nat} (S : GS) (p0 : Int32)  : Ct l D cy T0 tB tE yX12_isIn cX12_isIn 3 (some .boolean) 0 0 0 0 (mw cy a S) [.int p0, .int 0, .int 1] (QI D (U := GS) (fun r u => ((((p0.toInt < 0)) ∨ ((0 ≤ p0.toInt) ∧ (1 < p0.toInt))) ∧ 0 = r ∧ S = u) ∨ (((0 ≤ p0.toInt) ∧ (p0.toInt ≤ 1)) ∧ 1 = r ∧ S = u)) (mw cy a)) := by
  refine Ct.ofZ RX12 "isIn" [(0, .int p0), (1, .int 0), (2, .int 1)] rfl rfl rfl rfl (Nat.le_of_ble_eq_true rfl) ?_
  intro p e R s m args below meth c A b
  refine z_iload_n b dX12_isIn_0 rfl rfl ?_
  refine z_iload_n b dX12_isIn_1 rfl rfl ?_
  refine y_icmp_lt (tgt := 14) (xl := p0.toInt) (yl := 0) b rfl (by decide) dX12_isIn_2 (by decide) (fun c2041 => ?_) (fun c2041 => ?_)
  · refine z_iconst (v := 0) b dX12_isIn_14 (by decide) ?_
    exact z_zret (u := S) b rfl (by decide) dX12_isIn_15 (Or.inl ⟨(Or.inl c2041), rfl, rfl⟩) rfl (by decide) (by decide)
  · refine z_iload_n b dX12_isIn_5 rfl rfl ?_
    refine z_iload_n b dX12_isIn_6 rfl rfl ?_
    refine y_icmp_gt (tgt := 14) (xl := p0.toInt) (yl := 1) b rfl (by decide) dX12_isIn_7 (by decide) (fun c2042 => ?_) (fun c2042 => ?_)
    · refine z_iconst (v := 0) b dX12_isIn_14 (by decide) ?_
      exact z_zret (u := S) b rfl (by decide) dX12_isIn_15 (Or.inl ⟨(Or.inr ⟨c2041, c2042⟩), rfl, rfl⟩) rfl (by decide) (by decide)
    · refine z_iconst (v := 1) b dX12_isIn_10 (by decide) ?_
      refine z_goto (tgt := 15) b dX12_isIn_11 (by decide) ?_
      exact z_zret (u := S) b rfl (by decide) dX12_isIn_15 (Or.inr ⟨⟨c2041, c2042⟩, rfl, rfl⟩) rfl (by decide) (by decide)

set_option maxHeartbeats 4000000 in
set_option maxRecDepth 100000 in
theorem c_X12_kin_23 {l : Launch} {D : va_G} {cy : Nat → ClassId} {T0 tB tE : Nat} {a : Nat → Nat} (S : GS) (p0 : Int32)  (hr_p0 : (-2147483648) ≤ p0.toInt ∧ p0.toInt ≤ (-1)) : Ct l D cy T0 tB tE yX12_kin cX12_kin 5 (some .boolean) 2 42 0 0 (mw cy a S) [.ref (a 0), .int 0, .int 1, .int p0, .int 0] (QI D (U := GS) (fun r u => 0 = r ∧ S = u) (mw cy a)) := by
  refine Ct.ofZ RX12 "kin" [(0, .ref (a 0)), (1, .int 0), (2, .int 1), (3, .int p0), (4, .int 0)] rfl rfl rfl rfl (Nat.le_of_ble_eq_true rfl) ?_
  intro p e R s m args below meth c A b
  refine z_iload_n b dX12_kin_0 rfl rfl ?_
  refine z_calli b (z_runS (As := [.int 0]) (st := []) b (c_X12_isOne_2 S ) cf_X12_isOne wm_X12_170 ws_X12_isOne dX12_kin_1 rfl (Nat.le_of_ble_eq_true rfl) ⟨by decide, by decide, by decide, by decide⟩) (fun r2036 u2037 h2035 => ?_)
  obtain ⟨rfl, rfl⟩ := h2035
  refine z_if_eq_f (tgt := 28) b dX12_kin_4 (by decide) (by decide) ?_
  refine z_iload_n b dX12_kin_7 rfl rfl ?_
  refine z_calli b (z_runS (As := [.int 1]) (st := []) b (c_X12_isOne_3 S ) cf_X12_isOne wm_X12_170 ws_X12_isOne dX12_kin_8 rfl (Nat.le_of_ble_eq_true rfl) ⟨by decide, by decide, by decide, by decide⟩) (fun r2039 u2040 h2038 => ?_)
  obtain ⟨rfl, rfl⟩ := h2038
  refine z_if_eq_f (tgt := 28) b dX12_kin_11 (by decide) (by decide) ?_
  refine z_iload_n b dX12_kin_14 rfl rfl ?_
  refine z_iload_n b dX12_kin_15 rfl rfl ?_
  refine z_icmp_eq_f (tgt := 28) b dX12_kin_16 (by decide) (by decide) ?_
  refine z_iload_n b dX12_kin_19 rfl rfl ?_
  refine z_iconst (v := 0) b dX12_kin_20 (by decide) ?_
  refine z_iconst (v := 1) b dX12_kin_21 (by decide) ?_
  refine z_calli b (z_runS (As := [.int p0, .int 0, .int 1]) (st := []) b (c_X12_isIn_8 S p0 ) cf_X12_isIn wm_X12_1 ws_X12_isIn dX12_kin_22 rfl (Nat.le_of_ble_eq_true rfl) ⟨by decide, by decide, by decide, by decide⟩) (fun r2044 u2045 h2043 => ?_)
  rcases h2043 with ⟨c2046, rfl, rfl⟩ | ⟨c2047, rfl, rfl⟩
  · refine z_if_ne_f (tgt := 30) b dX12_kin_25 (by decide) (by decide) ?_
    refine z_iconst (v := 0) b dX12_kin_28 (by decide) ?_
    exact z_zret (u := S) b rfl (by decide) dX12_kin_29 ⟨rfl, rfl⟩ rfl (by decide) (by decide)
  · exfalso; omega

set_option maxHeartbeats 4000000 in
set_option maxRecDepth 100000 in
theorem c_X11_kin_24 {l : Launch} {D : va_G} {cy : Nat → ClassId} {T0 tB tE : Nat} {a : Nat → Nat} {rw : Nat → Option Nat} (S : GS) (p0 : Int32)  (hr_p0 : (-2147483648) ≤ p0.toInt ∧ p0.toInt ≤ (-1)) : Ct l D cy T0 tB tE yX11_kin cX11_kin 6 (some .boolean) 2 41 0 0 (cw cy tE a rw S) [.ref (a 0), .int 0, .int 1, .int p0, .int 1] (QI D (U := GS) (fun r u => 0 = r ∧ S = u) (cw cy tE a rw)) := by
  refine Ct.ofZ RX11 "kin" [(0, .ref (a 0)), (1, .int 0), (2, .int 1), (3, .int p0), (4, .int 1)] rfl rfl rfl rfl (Nat.le_of_ble_eq_true rfl) ?_
  intro p e R s m args below meth c A b
  refine z_iload_n b dX11_kin_0 rfl rfl ?_
  refine z_iload_n b dX11_kin_1 rfl rfl ?_
  refine z_calli b (z_runS (As := [.int 0, .int 1]) (st := []) b (c_X11_arePair_8 S ) cf_X11_arePair wm_X11_84 ws_X11_arePair dX11_kin_2 rfl (Nat.le_of_ble_eq_true rfl) ⟨by decide, by decide, by decide, by decide⟩) (fun r2049 u2050 h2048 => ?_)
  obtain ⟨rfl, rfl⟩ := h2048
  refine z_if_eq_f (tgt := 16) b dX11_kin_5 (by decide) (by decide) ?_
  refine z_iload_n b dX11_kin_8 rfl rfl ?_
  refine z_iconst (v := 1) b dX11_kin_9 (by decide) ?_
  refine z_calli b (z_runS (As := [.int p0, .int 1]) (st := []) b (c_X11_isWithin_4 S p0 ) cf_X11_isWithin wm_X11_73 ws_X11_isWithin dX11_kin_10 rfl (Nat.le_of_ble_eq_true rfl) ⟨by decide, by decide, by decide, by decide⟩) (fun r2052 u2053 h2051 => ?_)
  rcases h2051 with ⟨c2054, rfl, rfl⟩ | ⟨c2055, rfl, rfl⟩
  · refine z_if_ne_f (tgt := 18) b dX11_kin_13 (by decide) (by decide) ?_
    refine z_iconst (v := 0) b dX11_kin_16 (by decide) ?_
    exact z_zret (u := S) b rfl (by decide) dX11_kin_17 ⟨rfl, rfl⟩ rfl (by decide) (by decide)
  · exfalso; omega

set_option maxHeartbeats 4000000 in
set_option maxRecDepth 100000 in
theorem c_X12_kin_24 {l : Launch} {D : va_G} {cy : Nat → ClassId} {T0 tB tE : Nat} {a : Nat → Nat} (S : GS) (p0 : Int32)  (hr_p0 : (-2147483648) ≤ p0.toInt ∧ p0.toInt ≤ (-1)) : Ct l D cy T0 tB tE yX12_kin cX12_kin 5 (some .boolean) 2 42 0 0 (mw cy a S) [.ref (a 0), .int 0, .int 1, .int p0, .int 1] (QI D (U := GS) (fun r u => 0 = r ∧ S = u) (mw cy a)) := by
  refine Ct.ofZ RX12 "kin" [(0, .ref (a 0)), (1, .int 0), (2, .int 1), (3, .int p0), (4, .int 1)] rfl rfl rfl rfl (Nat.le_of_ble_eq_true rfl) ?_
  intro p e R s m args below meth c A b
  refine z_iload_n b dX12_kin_0 rfl rfl ?_
  refine z_calli b (z_runS (As := [.int 0]) (st := []) b (c_X12_isOne_2 S ) cf_X12_isOne wm_X12_170 ws_X12_isOne dX12_kin_1 rfl (Nat.le_of_ble_eq_true rfl) ⟨by decide, by decide, by decide, by decide⟩) (fun r2057 u2058 h2056 => ?_)
  obtain ⟨rfl, rfl⟩ := h2056
  refine z_if_eq_f (tgt := 28) b dX12_kin_4 (by decide) (by decide) ?_
  refine z_iload_n b dX12_kin_7 rfl rfl ?_
  refine z_calli b (z_runS (As := [.int 1]) (st := []) b (c_X12_isOne_3 S ) cf_X12_isOne wm_X12_170 ws_X12_isOne dX12_kin_8 rfl (Nat.le_of_ble_eq_true rfl) ⟨by decide, by decide, by decide, by decide⟩) (fun r2060 u2061 h2059 => ?_)
  obtain ⟨rfl, rfl⟩ := h2059
  refine z_if_eq_f (tgt := 28) b dX12_kin_11 (by decide) (by decide) ?_
  refine z_iload_n b dX12_kin_14 rfl rfl ?_
  refine z_iload_n b dX12_kin_15 rfl rfl ?_
  refine z_icmp_eq_f (tgt := 28) b dX12_kin_16 (by decide) (by decide) ?_
  refine z_iload_n b dX12_kin_19 rfl rfl ?_
  refine z_iconst (v := 0) b dX12_kin_20 (by decide) ?_
  refine z_iconst (v := 1) b dX12_kin_21 (by decide) ?_
  refine z_calli b (z_runS (As := [.int p0, .int 0, .int 1]) (st := []) b (c_X12_isIn_8 S p0 ) cf_X12_isIn wm_X12_1 ws_X12_isIn dX12_kin_22 rfl (Nat.le_of_ble_eq_true rfl) ⟨by decide, by decide, by decide, by decide⟩) (fun r2063 u2064 h2062 => ?_)
  rcases h2062 with ⟨c2065, rfl, rfl⟩ | ⟨c2066, rfl, rfl⟩
  · refine z_if_ne_f (tgt := 30) b dX12_kin_25 (by decide) (by decide) ?_
    refine z_iconst (v := 0) b dX12_kin_28 (by decide) ?_
    exact z_zret (u := S) b rfl (by decide) dX12_kin_29 ⟨rfl, rfl⟩ rfl (by decide) (by decide)
  · exfalso; omega

set_option maxHeartbeats 4000000 in
set_option maxRecDepth 100000 in
theorem c_X11_isWithin_5 {l : Launch} {D : va_G} {cy : Nat → ClassId} {T0 tB tE : Nat} {a : Nat → Nat} {rw : Nat → Option Nat} (S : GS)   : Ct l D cy T0 tB tE yX11_isWithin cX11_isWithin 2 (some .boolean) 0 0 0 0 (cw cy tE a rw S) [.int 0, .int 1] (QI D (U := GS) (fun r u => 1 = r ∧ S = u) (cw cy tE a rw)) := by
  refine Ct.ofZ RX11 "isWithin" [(0, .int 0), (1, .int 1)] rfl rfl rfl rfl (Nat.le_of_ble_eq_true rfl) ?_
  intro p e R s m args below meth c A b
  refine z_iload_n b dX11_isWithin_0 rfl rfl ?_
  refine z_if_lt_f (tgt := 13) b dX11_isWithin_1 (by decide) (by decide) ?_
  refine z_iload_n b dX11_isWithin_4 rfl rfl ?_
  refine z_iload_n b dX11_isWithin_5 rfl rfl ?_
  refine z_icmp_gt_f (tgt := 13) b dX11_isWithin_6 (by decide) (by decide) ?_
  refine z_iconst (v := 1) b dX11_isWithin_9 (by decide) ?_
  refine z_goto (tgt := 14) b dX11_isWithin_10 (by decide) ?_
  exact z_zret (u := S) b rfl (by decide) dX11_isWithin_14 ⟨rfl, rfl⟩ rfl (by decide) (by decide)

set_option maxHeartbeats 4000000 in
set_option maxRecDepth 100000 in
theorem c_X9_set_14 {l : Launch} {D : va_G} {cy : Nat → ClassId} {T0 tB tE : Nat} {a : Nat → Nat} {rw : Nat → Option Nat} (S : GS)  (h_a_4_21 : ar S 4 21 = 0) : Ct l D cy T0 tB tE yX9_set cX9_set 3 none 0 0 0 0 (cw cy tE a rw S) [.ref (a 14), .int 21, .int 0] (QV D (U := GS) (fun u => S = u) (cw cy tE a rw)) := by
  refine Ct.ofZ RX9 "set" [(0, .ref (a 14)), (1, .int 21), (2, .int 0)] rfl rfl rfl rfl (Nat.le_of_ble_eq_true rfl) ?_
  intro p e R s m args below meth c A b
  refine z_iload_n b dX9_set_0 rfl rfl ?_
  refine z_if_lt_f (tgt := 20) b dX9_set_1 (by decide) (by decide) ?_
  refine z_iload_n b dX9_set_4 rfl rfl ?_
  refine z_aload_n b dX9_set_5 rfl rfl ?_
  refine z_get (q0 := 14) (k9 := 0) (v := .ref (a 15)) b (cw_14 cy tE a rw S) rfl in_X9 (by decide) wf_X9_11 rfl dX9_set_6 ?_
  refine z_alen (q0 := 15) (t0 := 0) (v := 51) b (cw_15 cy tE a rw S) rfl rfl dX9_set_9 ?_
  refine z_icmp_ge_f (tgt := 20) b dX9_set_10 (by decide) (by decide) ?_
  refine z_aload_n b dX9_set_13 rfl rfl ?_
  refine z_get (q0 := 14) (k9 := 0) (v := .ref (a 15)) b (cw_14 cy tE a rw S) rfl in_X9 (by decide) wf_X9_11 rfl dX9_set_14 ?_
  refine z_iload_n b dX9_set_17 rfl rfl ?_
  refine z_iload_n b dX9_set_18 rfl rfl ?_
  refine y_iast (q0 := 15) (j := 21) b (cw_15 cy tE a rw S) (by decide) dX9_set_19 ((cwa_15 cy tE a rw S 21 0).trans (congrArg (cw cy tE a rw) (su_same h_a_4_21))) ?_
  exact z_vret (u := S) b rfl dX9_set_20 rfl rfl (by decide) (by decide)

set_option maxHeartbeats 4000000 in
set_option maxRecDepth 100000 in
theorem c_X9_set_15 {l : Launch} {D : va_G} {cy : Nat → ClassId} {T0 tB tE : Nat} {a : Nat → Nat} {rw : Nat → Option Nat} (S : GS)  (h_a_4_23 : ar S 4 23 = 0) : Ct l D cy T0 tB tE yX9_set cX9_set 3 none 0 0 0 0 (cw cy tE a rw S) [.ref (a 14), .int 23, .int 0] (QV D (U := GS) (fun u => S = u) (cw cy tE a rw)) := by
  refine Ct.ofZ RX9 "set" [(0, .ref (a 14)), (1, .int 23), (2, .int 0)] rfl rfl rfl rfl (Nat.le_of_ble_eq_true rfl) ?_
  intro p e R s m args below meth c A b
  refine z_iload_n b dX9_set_0 rfl rfl ?_
  refine z_if_lt_f (tgt := 20) b dX9_set_1 (by decide) (by decide) ?_
  refine z_iload_n b dX9_set_4 rfl rfl ?_
  refine z_aload_n b dX9_set_5 rfl rfl ?_
  refine z_get (q0 := 14) (k9 := 0) (v := .ref (a 15)) b (cw_14 cy tE a rw S) rfl in_X9 (by decide) wf_X9_11 rfl dX9_set_6 ?_
  refine z_alen (q0 := 15) (t0 := 0) (v := 51) b (cw_15 cy tE a rw S) rfl rfl dX9_set_9 ?_
  refine z_icmp_ge_f (tgt := 20) b dX9_set_10 (by decide) (by decide) ?_
  refine z_aload_n b dX9_set_13 rfl rfl ?_
  refine z_get (q0 := 14) (k9 := 0) (v := .ref (a 15)) b (cw_14 cy tE a rw S) rfl in_X9 (by decide) wf_X9_11 rfl dX9_set_14 ?_
  refine z_iload_n b dX9_set_17 rfl rfl ?_
  refine z_iload_n b dX9_set_18 rfl rfl ?_
  refine y_iast (q0 := 15) (j := 23) b (cw_15 cy tE a rw S) (by decide) dX9_set_19 ((cwa_15 cy tE a rw S 23 0).trans (congrArg (cw cy tE a rw) (su_same h_a_4_23))) ?_
  exact z_vret (u := S) b rfl dX9_set_20 rfl rfl (by decide) (by decide)

set_option maxHeartbeats 4000000 in
set_option maxRecDepth 100000 in
theorem c_X11_kin_25 {l : Launch} {D : va_G} {cy : Nat → ClassId} {T0 tB tE : Nat} {a : Nat → Nat} {rw : Nat → Option Nat} (S : GS)  (h_a_4_21 : ar S 4 21 = 0) (h_a_4_23 : ar S 4 23 = 0) (h_i_24 : fi S 24 = 0) : Ct l D cy T0 tB tE yX11_kin cX11_kin 6 (some .boolean) 2 41 0 0 (cw cy tE a rw S) [.ref (a 0), .int 0, .int 1, .int 0, .int 0] (QI D (U := GS) (fun r u => 1 = r ∧ S = u) (cw cy tE a rw)) := by
  refine Ct.ofZ RX11 "kin" [(0, .ref (a 0)), (1, .int 0), (2, .int 1), (3, .int 0), (4, .int 0)] rfl rfl rfl rfl (Nat.le_of_ble_eq_true rfl) ?_
  intro p e R s m args below meth c A b
  refine z_iload_n b dX11_kin_0 rfl rfl ?_
  refine z_iload_n b dX11_kin_1 rfl rfl ?_
  refine z_calli b (z_runS (As := [.int 0, .int 1]) (st := []) b (c_X11_arePair_8 S ) cf_X11_arePair wm_X11_84 ws_X11_arePair dX11_kin_2 rfl (Nat.le_of_ble_eq_true rfl) ⟨by decide, by decide, by decide, by decide⟩) (fun r2068 u2069 h2067 => ?_)
  obtain ⟨rfl, rfl⟩ := h2067
  refine z_if_eq_f (tgt := 16) b dX11_kin_5 (by decide) (by decide) ?_
  refine z_iload_n b dX11_kin_8 rfl rfl ?_
  refine z_iconst (v := 1) b dX11_kin_9 (by decide) ?_
  refine z_calli b (z_runS (As := [.int 0, .int 1]) (st := []) b (c_X11_isWithin_5 S ) cf_X11_isWithin wm_X11_73 ws_X11_isWithin dX11_kin_10 rfl (Nat.le_of_ble_eq_true rfl) ⟨by decide, by decide, by decide, by decide⟩) (fun r2071 u2072 h2070 => ?_)
  obtain ⟨rfl, rfl⟩ := h2070
  refine z_if_ne_t (tgt := 18) b dX11_kin_13 (by decide) (by decide) ?_
  refine z_iload b dX11_kin_18 rfl ?_
  refine z_if_eq_t (tgt := 27) b dX11_kin_20 (by decide) (by decide) ?_
  refine z_iconst (v := 0) b dX11_kin_27 (by decide) ?_
  refine z_istore (lv' := [(5, .int 0), (0, .ref (a 0)), (1, .int 0), (2, .int 1), (3, .int 0), (4, .int 0)]) b dX11_kin_28 (by decide) rfl ?_
  refine z_iload_n b dX11_kin_30 rfl rfl ?_
  refine z_if_ne_f (tgt := 71) b dX11_kin_31 (by decide) (by decide) ?_
  refine z_aload_n b dX11_kin_34 rfl rfl ?_
  refine z_get (q0 := 0) (k9 := 4) (v := .ref (a 14)) b (cw_0 cy tE a rw S) rfl in_X11 (by decide) wf_X11_34 rfl dX11_kin_35 ?_
  refine z_bipush (v := 20) b dX11_kin_38 (by decide) ?_
  refine z_iconst (v := 3) b dX11_kin_40 (by decide) ?_
  refine z_iload_n b dX11_kin_41 rfl rfl ?_
  refine z_imul (v := 0) b dX11_kin_42 (by decide) ?_
  refine z_iadd (v := 20) b dX11_kin_43 (by decide) ?_
  refine z_iload_n b dX11_kin_44 rfl rfl ?_
  refine z_iadd (v := 21) b dX11_kin_45 (by decide) ?_
  refine z_iload b dX11_kin_46 rfl ?_
  refine z_callv b (z_runV (q0 := 14) (As := [.int 21, .int 0]) (st := []) b (c_X9_set_14 S h_a_4_21) cf_X9_set (cw_14 cy tE a rw S) rfl wm_X11_77 wi_X9_set ws_X9_set dX11_kin_48 rfl (Nat.le_of_ble_eq_true rfl) ⟨by decide, by decide, by decide, by decide⟩) (fun u2075 h2073 => ?_)
  obtain rfl := h2073
  refine z_aload_n b dX11_kin_51 rfl rfl ?_
  refine z_get (q0 := 0) (k9 := 4) (v := .ref (a 14)) b (cw_0 cy tE a rw S) rfl in_X11 (by decide) wf_X11_34 rfl dX11_kin_52 ?_
  refine z_bipush (v := 20) b dX11_kin_55 (by decide) ?_
  refine z_iconst (v := 3) b dX11_kin_57 (by decide) ?_
  refine z_iload_n b dX11_kin_58 rfl rfl ?_
  refine z_imul (v := 3) b dX11_kin_59 (by decide) ?_
  refine z_iadd (v := 23) b dX11_kin_60 (by decide) ?_
  refine z_iload_n b dX11_kin_61 rfl rfl ?_
  refine z_iadd (v := 23) b dX11_kin_62 (by decide) ?_
  refine z_iload b dX11_kin_63 rfl ?_
  refine z_callv b (z_runV (q0 := 14) (As := [.int 23, .int 0]) (st := []) b (c_X9_set_15 S h_a_4_23) cf_X9_set (cw_14 cy tE a rw S) rfl wm_X11_77 wi_X9_set ws_X9_set dX11_kin_65 rfl (Nat.le_of_ble_eq_true rfl) ⟨by decide, by decide, by decide, by decide⟩) (fun u2078 h2076 => ?_)
  obtain rfl := h2076
  refine z_goto (tgt := 88) b dX11_kin_68 (by decide) ?_
  refine z_aload_n b dX11_kin_88 rfl rfl ?_
  refine z_get (q0 := 0) (k9 := 6) (v := .ref (a 25)) b (cw_0 cy tE a rw S) rfl in_X11 (by decide) wf_X11_52 rfl dX11_kin_89 ?_
  refine z_callv b (z_runV (q0 := 25) (As := []) (st := []) b (c_X8_forget S h_i_24) cf_X8_forget (cw_25 cy tE a rw S) rfl wm_X11_81 wi_X8_forget ws_X8_forget dX11_kin_92 rfl (Nat.le_of_ble_eq_true rfl) ⟨by decide, by decide, by decide, by decide⟩) (fun u2081 h2079 => ?_)
  obtain rfl := h2079
  refine z_iconst (v := 1) b dX11_kin_95 (by decide) ?_
  exact z_zret (u := S) b rfl (by decide) dX11_kin_96 ⟨rfl, rfl⟩ rfl (by decide) (by decide)

set_option maxHeartbeats 4000000 in
set_option maxRecDepth 100000 in
theorem c_X12_isIn_9 {l : Launch} {D : va_G} {cy : Nat → ClassId} {T0 tB tE : Nat} {a : Nat → Nat} (S : GS)   : Ct l D cy T0 tB tE yX12_isIn cX12_isIn 3 (some .boolean) 0 0 0 0 (mw cy a S) [.int 0, .int 0, .int 1] (QI D (U := GS) (fun r u => 1 = r ∧ S = u) (mw cy a)) := by
  refine Ct.ofZ RX12 "isIn" [(0, .int 0), (1, .int 0), (2, .int 1)] rfl rfl rfl rfl (Nat.le_of_ble_eq_true rfl) ?_
  intro p e R s m args below meth c A b
  refine z_iload_n b dX12_isIn_0 rfl rfl ?_
  refine z_iload_n b dX12_isIn_1 rfl rfl ?_
  refine z_icmp_lt_f (tgt := 14) b dX12_isIn_2 (by decide) (by decide) ?_
  refine z_iload_n b dX12_isIn_5 rfl rfl ?_
  refine z_iload_n b dX12_isIn_6 rfl rfl ?_
  refine z_icmp_gt_f (tgt := 14) b dX12_isIn_7 (by decide) (by decide) ?_
  refine z_iconst (v := 1) b dX12_isIn_10 (by decide) ?_
  refine z_goto (tgt := 15) b dX12_isIn_11 (by decide) ?_
  exact z_zret (u := S) b rfl (by decide) dX12_isIn_15 ⟨rfl, rfl⟩ rfl (by decide) (by decide)

set_option maxHeartbeats 4000000 in
set_option maxRecDepth 100000 in
theorem ch_X12_packs_30 {p : Program} {l : Launch} {e : Env} {R : Room} {s : State} {m : MethodId} {args : Array Value} {below : List Frame} {meth : Method} {c : Code} {D : va_G} {cy : Nat → ClassId} {T0 tB tE : Nat} {A : Nat → Prop} {Q : State → Prop} {a : Nat → Nat} (S : GS)  (h_a_0_0 : ar S 0 0 = 0) (h_a_1_1 : ar S 1 1 = 0) (h_a_1_2 : ar S 1 2 = 0) (h_a_2_0 : ar S 2 0 = 3) (h_a_3_1 : ar S 3 1 = 0) (h_a_4_1 : ar S 4 1 = 0) (h_a_4_2 : ar S 4 2 = 0) (h_i_0 : fi S 0 = 0) (b : Bz p R s m args meth c D cy T0 tB tE A 5 cX12_packs RX12 (some .long) "packs" 1 21 0 0) (k : Z p l e R s m args below meth c D A 5 Q 0 0 (mw cy a S) [(3, .int 1), (4, .int 2), (1, .long 1536), (0, .ref (a 0))] 21 [.int 1, .ref (a 1), .long 24576]) : Z p l e R s m args below meth c D A 5 Q 0 0 (mw cy a S) [(0, .ref (a 0))] 0 [] := by
  refine z_aload_n b dX12_packs_0 rfl rfl ?_
  refine z_get (q0 := 0) (k9 := 5) (v := .int (fi S 0)) b (mw_0 cy a S) rfl in_X12 (by decide) wf_X12_157 rfl dX12_packs_1 ?_
  refine z_eqi h_i_0 ?_
  refine z_i2l (v := 0) b dX12_packs_4 (by decide) ?_
  refine z_lstore_n (lv' := [(1, .long 0), (0, .ref (a 0))]) b dX12_packs_5 rfl (by decide) rfl ?_
  refine z_iconst (v := 0) b dX12_packs_6 (by decide) ?_
  refine z_istore_n (lv' := [(3, .int 0), (1, .long 0), (0, .ref (a 0))]) b dX12_packs_7 rfl (by decide) rfl ?_
  refine z_iload_n b dX12_packs_8 rfl rfl ?_
  refine z_iconst (v := 3) b dX12_packs_9 (by decide) ?_
  refine z_icmp_ge_f (tgt := 134) b dX12_packs_10 (by decide) (by decide) ?_
  refine z_lload_n b dX12_packs_13 rfl rfl ?_
  refine z_iconst (v := 4) b dX12_packs_14 (by decide) ?_
  refine z_lshl (v := 0) b dX12_packs_15 (by decide) ?_
  refine z_aload_n b dX12_packs_16 rfl rfl ?_
  refine z_get (q0 := 0) (k9 := 0) (v := .ref (a 1)) b (mw_0 cy a S) rfl in_X12 (by decide) wf_X12_13 rfl dX12_packs_17 ?_
  refine z_iload_n b dX12_packs_20 rfl rfl ?_
  refine y_iald (q0 := 1) (j := 0) (v := (ar S 0 0)) b (mw_1 cy a S) (by decide) rfl dX12_packs_21 ?_
  refine z_eqi h_a_0_0 ?_
  refine z_i2l (v := 0) b dX12_packs_22 (by decide) ?_
  refine z_lor (v := 0) b dX12_packs_23 (by decide) ?_
  refine z_lstore_n (lv' := [(1, .long 0), (3, .int 0), (0, .ref (a 0))]) b dX12_packs_24 rfl (by decide) rfl ?_
  refine z_lload_n b dX12_packs_25 rfl rfl ?_
  refine z_iconst (v := 2) b dX12_packs_26 (by decide) ?_
  refine z_lshl (v := 0) b dX12_packs_27 (by decide) ?_
  refine z_aload_n b dX12_packs_28 rfl rfl ?_
  refine z_get (q0 := 0) (k9 := 2) (v := .ref (a 3)) b (mw_0 cy a S) rfl in_X12 (by decide) wf_X12_20 rfl dX12_packs_29 ?_
  refine z_iload_n b dX12_packs_32 rfl rfl ?_
  refine y_iald (q0 := 3) (j := 0) (v := (ar S 2 0)) b (mw_3 cy a S) (by decide) rfl dX12_packs_33 ?_
  refine z_eqi h_a_2_0 ?_
  refine z_i2l (v := 3) b dX12_packs_34 (by decide) ?_
  refine z_lor (v := 3) b dX12_packs_35 (by decide) ?_
  refine z_lstore_n (lv' := [(1, .long 3), (3, .int 0), (0, .ref (a 0))]) b dX12_packs_36 rfl (by decide) rfl ?_
  refine z_lload_n b dX12_packs_37 rfl rfl ?_
  refine z_iconst (v := 1) b dX12_packs_38 (by decide) ?_
  refine z_lshl (v := 6) b dX12_packs_39 (by decide) ?_
  refine z_aload_n b dX12_packs_40 rfl rfl ?_
  refine z_get (q0 := 0) (k9 := 3) (v := .ref (a 4)) b (mw_0 cy a S) rfl in_X12 (by decide) wf_X12_23 rfl dX12_packs_41 ?_
  refine z_iconst (v := 3) b dX12_packs_44 (by decide) ?_
  refine z_iload_n b dX12_packs_45 rfl rfl ?_
  refine z_imul (v := 0) b dX12_packs_46 (by decide) ?_
  refine z_iload_n b dX12_packs_47 rfl rfl ?_
  refine z_iconst (v := 0) b dX12_packs_48 (by decide) ?_
  refine z_calli b (z_runS (As := [.int 0, .int 0]) (st := [.int 0, .ref (a 4), .long 6]) b (c_X12_other_6 S ) cf_X12_other wm_X12_160 ws_X12_other dX12_packs_49 rfl (Nat.le_of_ble_eq_true rfl) ⟨by decide, by decide, by decide, by decide⟩) (fun r2095 u2096 h2094 => ?_)
  obtain ⟨rfl, rfl⟩ := h2094
  refine z_iadd (v := 1) b dX12_packs_52 (by decide) ?_
  refine y_zald (q0 := 4) (j := 1) (v := (ar S 3 1)) b (mw_4 cy a S) (by decide) rfl dX12_packs_53 ?_
  refine z_eqi h_a_3_1 ?_
  refine z_if_eq_t (tgt := 61) b dX12_packs_54 (by decide) (by decide) ?_
  refine z_lconst (v := 0) b dX12_packs_61 (by decide) ?_
  refine z_lor (v := 6) b dX12_packs_62 (by decide) ?_
  refine z_lstore_n (lv' := [(1, .long 6), (3, .int 0), (0, .ref (a 0))]) b dX12_packs_63 rfl (by decide) rfl ?_
  refine z_iconst (v := 0) b dX12_packs_64 (by decide) ?_
  refine z_istore (lv' := [(4, .int 0), (1, .long 6), (3, .int 0), (0, .ref (a 0))]) b dX12_packs_65 (by decide) rfl ?_
  refine z_iload b dX12_packs_67 rfl ?_
  refine z_iconst (v := 2) b dX12_packs_69 (by decide) ?_
  refine z_icmp_ge_f (tgt := 128) b dX12_packs_70 (by decide) (by decide) ?_
  refine z_lload_n b dX12_packs_73 rfl rfl ?_
  refine z_iconst (v := 3) b dX12_packs_74 (by decide) ?_
  refine z_lshl (v := 48) b dX12_packs_75 (by decide) ?_
  refine z_aload_n b dX12_packs_76 rfl rfl ?_
  refine z_get (q0 := 0) (k9 := 1) (v := .ref (a 2)) b (mw_0 cy a S) rfl in_X12 (by decide) wf_X12_17 rfl dX12_packs_77 ?_
  refine z_iconst (v := 3) b dX12_packs_80 (by decide) ?_
  refine z_iload_n b dX12_packs_81 rfl rfl ?_
  refine z_imul (v := 0) b dX12_packs_82 (by decide) ?_
  refine z_iload_n b dX12_packs_83 rfl rfl ?_
  refine z_iload b dX12_packs_84 rfl ?_
  refine z_calli b (z_runS (As := [.int 0, .int 0]) (st := [.int 0, .ref (a 2), .long 48]) b (c_X12_other_6 S ) cf_X12_other wm_X12_160 ws_X12_other dX12_packs_86 rfl (Nat.le_of_ble_eq_true rfl) ⟨by decide, by decide, by decide, by decide⟩) (fun r2098 u2099 h2097 => ?_)
  obtain ⟨rfl, rfl⟩ := h2097
  refine z_iadd (v := 1) b dX12_packs_89 (by decide) ?_
  refine y_iald (q0 := 2) (j := 1) (v := (ar S 1 1)) b (mw_2 cy a S) (by decide) rfl dX12_packs_90 ?_
  refine z_eqi h_a_1_1 ?_
  refine z_i2l (v := 0) b dX12_packs_91 (by decide) ?_
  refine z_lor (v := 48) b dX12_packs_92 (by decide) ?_
  refine z_lstore_n (lv' := [(1, .long 48), (4, .int 0), (3, .int 0), (0, .ref (a 0))]) b dX12_packs_93 rfl (by decide) rfl ?_
  refine z_lload_n b dX12_packs_94 rfl rfl ?_
  refine z_iconst (v := 1) b dX12_packs_95 (by decide) ?_
  refine z_lshl (v := 96) b dX12_packs_96 (by decide) ?_
  refine z_aload_n b dX12_packs_97 rfl rfl ?_
  refine z_get (q0 := 0) (k9 := 4) (v := .ref (a 5)) b (mw_0 cy a S) rfl in_X12 (by decide) wf_X12_27 rfl dX12_packs_98 ?_
  refine z_iconst (v := 3) b dX12_packs_101 (by decide) ?_
  refine z_iload_n b dX12_packs_102 rfl rfl ?_
  refine z_imul (v := 0) b dX12_packs_103 (by decide) ?_
  refine z_iload_n b dX12_packs_104 rfl rfl ?_
  refine z_iload b dX12_packs_105 rfl ?_
  refine z_calli b (z_runS (As := [.int 0, .int 0]) (st := [.int 0, .ref (a 5), .long 96]) b (c_X12_other_6 S ) cf_X12_other wm_X12_160 ws_X12_other dX12_packs_107 rfl (Nat.le_of_ble_eq_true rfl) ⟨by decide, by decide, by decide, by decide⟩) (fun r2101 u2102 h2100 => ?_)
  obtain ⟨rfl, rfl⟩ := h2100
  refine z_iadd (v := 1) b dX12_packs_110 (by decide) ?_
  refine y_zald (q0 := 5) (j := 1) (v := (ar S 4 1)) b (mw_5 cy a S) (by decide) rfl dX12_packs_111 ?_
  refine z_eqi h_a_4_1 ?_
  refine z_if_eq_t (tgt := 119) b dX12_packs_112 (by decide) (by decide) ?_
  refine z_lconst (v := 0) b dX12_packs_119 (by decide) ?_
  refine z_lor (v := 96) b dX12_packs_120 (by decide) ?_
  refine z_lstore_n (lv' := [(1, .long 96), (4, .int 0), (3, .int 0), (0, .ref (a 0))]) b dX12_packs_121 rfl (by decide) rfl ?_
  refine z_iinc (k9 := 1) (v := 1) (lv' := [(4, .int 1), (1, .long 96), (3, .int 0), (0, .ref (a 0))]) b dX12_packs_122 rfl (by decide) (by decide) rfl ?_
  refine z_goto (tgt := 67) b dX12_packs_125 (by decide) ?_
  refine z_iload b dX12_packs_67 rfl ?_
  refine z_iconst (v := 2) b dX12_packs_69 (by decide) ?_
  refine z_icmp_ge_f (tgt := 128) b dX12_packs_70 (by decide) (by decide) ?_
  refine z_lload_n b dX12_packs_73 rfl rfl ?_
  refine z_iconst (v := 3) b dX12_packs_74 (by decide) ?_
  refine z_lshl (v := 768) b dX12_packs_75 (by decide) ?_
  refine z_aload_n b dX12_packs_76 rfl rfl ?_
  refine z_get (q0 := 0) (k9 := 1) (v := .ref (a 2)) b (mw_0 cy a S) rfl in_X12 (by decide) wf_X12_17 rfl dX12_packs_77 ?_
  refine z_iconst (v := 3) b dX12_packs_80 (by decide) ?_
  refine z_iload_n b dX12_packs_81 rfl rfl ?_
  refine z_imul (v := 0) b dX12_packs_82 (by decide) ?_
  refine z_iload_n b dX12_packs_83 rfl rfl ?_
  refine z_iload b dX12_packs_84 rfl ?_
  refine z_calli b (z_runS (As := [.int 0, .int 1]) (st := [.int 0, .ref (a 2), .long 768]) b (c_X12_other_5 S ) cf_X12_other wm_X12_160 ws_X12_other dX12_packs_86 rfl (Nat.le_of_ble_eq_true rfl) ⟨by decide, by decide, by decide, by decide⟩) (fun r2104 u2105 h2103 => ?_)
  obtain ⟨rfl, rfl⟩ := h2103
  refine z_iadd (v := 2) b dX12_packs_89 (by decide) ?_
  refine y_iald (q0 := 2) (j := 2) (v := (ar S 1 2)) b (mw_2 cy a S) (by decide) rfl dX12_packs_90 ?_
  refine z_eqi h_a_1_2 ?_
  refine z_i2l (v := 0) b dX12_packs_91 (by decide) ?_
  refine z_lor (v := 768) b dX12_packs_92 (by decide) ?_
  refine z_lstore_n (lv' := [(1, .long 768), (4, .int 1), (3, .int 0), (0, .ref (a 0))]) b dX12_packs_93 rfl (by decide) rfl ?_
  refine z_lload_n b dX12_packs_94 rfl rfl ?_
  refine z_iconst (v := 1) b dX12_packs_95 (by decide) ?_
  refine z_lshl (v := 1536) b dX12_packs_96 (by decide) ?_
  refine z_aload_n b dX12_packs_97 rfl rfl ?_
  refine z_get (q0 := 0) (k9 := 4) (v := .ref (a 5)) b (mw_0 cy a S) rfl in_X12 (by decide) wf_X12_27 rfl dX12_packs_98 ?_
  refine z_iconst (v := 3) b dX12_packs_101 (by decide) ?_
  refine z_iload_n b dX12_packs_102 rfl rfl ?_
  refine z_imul (v := 0) b dX12_packs_103 (by decide) ?_
  refine z_iload_n b dX12_packs_104 rfl rfl ?_
  refine z_iload b dX12_packs_105 rfl ?_
  refine z_calli b (z_runS (As := [.int 0, .int 1]) (st := [.int 0, .ref (a 5), .long 1536]) b (c_X12_other_5 S ) cf_X12_other wm_X12_160 ws_X12_other dX12_packs_107 rfl (Nat.le_of_ble_eq_true rfl) ⟨by decide, by decide, by decide, by decide⟩) (fun r2107 u2108 h2106 => ?_)
  obtain ⟨rfl, rfl⟩ := h2106
  refine z_iadd (v := 2) b dX12_packs_110 (by decide) ?_
  refine y_zald (q0 := 5) (j := 2) (v := (ar S 4 2)) b (mw_5 cy a S) (by decide) rfl dX12_packs_111 ?_
  refine z_eqi h_a_4_2 ?_
  refine z_if_eq_t (tgt := 119) b dX12_packs_112 (by decide) (by decide) ?_
  refine z_lconst (v := 0) b dX12_packs_119 (by decide) ?_
  refine z_lor (v := 1536) b dX12_packs_120 (by decide) ?_
  refine z_lstore_n (lv' := [(1, .long 1536), (4, .int 1), (3, .int 0), (0, .ref (a 0))]) b dX12_packs_121 rfl (by decide) rfl ?_
  refine z_iinc (k9 := 1) (v := 2) (lv' := [(4, .int 2), (1, .long 1536), (3, .int 0), (0, .ref (a 0))]) b dX12_packs_122 rfl (by decide) (by decide) rfl ?_
  refine z_goto (tgt := 67) b dX12_packs_125 (by decide) ?_
  refine z_iload b dX12_packs_67 rfl ?_
  refine z_iconst (v := 2) b dX12_packs_69 (by decide) ?_
  refine z_icmp_ge_t (tgt := 128) b dX12_packs_70 (by decide) (by decide) ?_
  refine z_iinc (k9 := 2) (v := 1) (lv' := [(3, .int 1), (4, .int 2), (1, .long 1536), (0, .ref (a 0))]) b dX12_packs_128 rfl (by decide) (by decide) rfl ?_
  refine z_goto (tgt := 8) b dX12_packs_131 (by decide) ?_
  refine z_iload_n b dX12_packs_8 rfl rfl ?_
  refine z_iconst (v := 3) b dX12_packs_9 (by decide) ?_
  refine z_icmp_ge_f (tgt := 134) b dX12_packs_10 (by decide) (by decide) ?_
  refine z_lload_n b dX12_packs_13 rfl rfl ?_
  refine z_iconst (v := 4) b dX12_packs_14 (by decide) ?_
  refine z_lshl (v := 24576) b dX12_packs_15 (by decide) ?_
  refine z_aload_n b dX12_packs_16 rfl rfl ?_
  refine z_get (q0 := 0) (k9 := 0) (v := .ref (a 1)) b (mw_0 cy a S) rfl in_X12 (by decide) wf_X12_13 rfl dX12_packs_17 ?_
  refine z_iload_n b dX12_packs_20 rfl rfl ?_
  exact k

set_option maxHeartbeats 4000000 in
set_option maxRecDepth 100000 in
theorem ch_X12_packs_31 {p : Program} {l : Launch} {e : Env} {R : Room} {s : State} {m : MethodId} {args : Array Value} {below : List Frame} {meth : Method} {c : Code} {D : va_G} {cy : Nat → ClassId} {T0 tB tE : Nat} {A : Nat → Prop} {Q : State → Prop} {a : Nat → Nat} (S : GS)  (h_a_0_1 : ar S 0 1 = 0) (h_a_0_2 : ar S 0 2 = 0) (h_a_1_3 : ar S 1 3 = 0) (h_a_1_5 : ar S 1 5 = 0) (h_a_2_1 : ar S 2 1 = 3) (h_a_2_2 : ar S 2 2 = 3) (h_a_3_5 : ar S 3 5 = 0) (h_a_4_3 : ar S 4 3 = 0) (h_a_4_5 : ar S 4 5 = 0) (b : Bz p R s m args meth c D cy T0 tB tE A 5 cX12_packs RX12 (some .long) "packs" 1 21 0 0) (k : Z p l e R s m args below meth c D A 5 Q 0 0 (mw cy a S) [(1, .long 3221323779), (3, .int 2), (4, .int 2), (0, .ref (a 0))] 37 []) : Z p l e R s m args below meth c D A 5 Q 0 0 (mw cy a S) [(3, .int 1), (4, .int 2), (1, .long 1536), (0, .ref (a 0))] 21 [.int 1, .ref (a 1), .long 24576] := by
  refine y_iald (q0 := 1) (j := 1) (v := (ar S 0 1)) b (mw_1 cy a S) (by decide) rfl dX12_packs_21 ?_
  refine z_eqi h_a_0_1 ?_
  refine z_i2l (v := 0) b dX12_packs_22 (by decide) ?_
  refine z_lor (v := 24576) b dX12_packs_23 (by decide) ?_
  refine z_lstore_n (lv' := [(1, .long 24576), (3, .int 1), (4, .int 2), (0, .ref (a 0))]) b dX12_packs_24 rfl (by decide) rfl ?_
  refine z_lload_n b dX12_packs_25 rfl rfl ?_
  refine z_iconst (v := 2) b dX12_packs_26 (by decide) ?_
  refine z_lshl (v := 98304) b dX12_packs_27 (by decide) ?_
  refine z_aload_n b dX12_packs_28 rfl rfl ?_
  refine z_get (q0 := 0) (k9 := 2) (v := .ref (a 3)) b (mw_0 cy a S) rfl in_X12 (by decide) wf_X12_20 rfl dX12_packs_29 ?_
  refine z_iload_n b dX12_packs_32 rfl rfl ?_
  refine y_iald (q0 := 3) (j := 1) (v := (ar S 2 1)) b (mw_3 cy a S) (by decide) rfl dX12_packs_33 ?_
  refine z_eqi h_a_2_1 ?_
  refine z_i2l (v := 3) b dX12_packs_34 (by decide) ?_
  refine z_lor (v := 98307) b dX12_packs_35 (by decide) ?_
  refine z_lstore_n (lv' := [(1, .long 98307), (3, .int 1), (4, .int 2), (0, .ref (a 0))]) b dX12_packs_36 rfl (by decide) rfl ?_
  refine z_lload_n b dX12_packs_37 rfl rfl ?_
  refine z_iconst (v := 1) b dX12_packs_38 (by decide) ?_
  refine z_lshl (v := 196614) b dX12_packs_39 (by decide) ?_
  refine z_aload_n b dX12_packs_40 rfl rfl ?_
  refine z_get (q0 := 0) (k9 := 3) (v := .ref (a 4)) b (mw_0 cy a S) rfl in_X12 (by decide) wf_X12_23 rfl dX12_packs_41 ?_
  refine z_iconst (v := 3) b dX12_packs_44 (by decide) ?_
  refine z_iload_n b dX12_packs_45 rfl rfl ?_
  refine z_imul (v := 3) b dX12_packs_46 (by decide) ?_
  refine z_iload_n b dX12_packs_47 rfl rfl ?_
  refine z_iconst (v := 0) b dX12_packs_48 (by decide) ?_
  refine z_calli b (z_runS (As := [.int 1, .int 0]) (st := [.int 3, .ref (a 4), .long 196614]) b (c_X12_other_4 S ) cf_X12_other wm_X12_160 ws_X12_other dX12_packs_49 rfl (Nat.le_of_ble_eq_true rfl) ⟨by decide, by decide, by decide, by decide⟩) (fun r2110 u2111 h2109 => ?_)
  obtain ⟨rfl, rfl⟩ := h2109
  refine z_iadd (v := 5) b dX12_packs_52 (by decide) ?_
  refine y_zald (q0 := 4) (j := 5) (v := (ar S 3 5)) b (mw_4 cy a S) (by decide) rfl dX12_packs_53 ?_
  refine z_eqi h_a_3_5 ?_
  refine z_if_eq_t (tgt := 61) b dX12_packs_54 (by decide) (by decide) ?_
  refine z_lconst (v := 0) b dX12_packs_61 (by decide) ?_
  refine z_lor (v := 196614) b dX12_packs_62 (by decide) ?_
  refine z_lstore_n (lv' := [(1, .long 196614), (3, .int 1), (4, .int 2), (0, .ref (a 0))]) b dX12_packs_63 rfl (by decide) rfl ?_
  refine z_iconst (v := 0) b dX12_packs_64 (by decide) ?_
  refine z_istore (lv' := [(4, .int 0), (1, .long 196614), (3, .int 1), (0, .ref (a 0))]) b dX12_packs_65 (by decide) rfl ?_
  refine z_iload b dX12_packs_67 rfl ?_
  refine z_iconst (v := 2) b dX12_packs_69 (by decide) ?_
  refine z_icmp_ge_f (tgt := 128) b dX12_packs_70 (by decide) (by decide) ?_
  refine z_lload_n b dX12_packs_73 rfl rfl ?_
  refine z_iconst (v := 3) b dX12_packs_74 (by decide) ?_
  refine z_lshl (v := 1572912) b dX12_packs_75 (by decide) ?_
  refine z_aload_n b dX12_packs_76 rfl rfl ?_
  refine z_get (q0 := 0) (k9 := 1) (v := .ref (a 2)) b (mw_0 cy a S) rfl in_X12 (by decide) wf_X12_17 rfl dX12_packs_77 ?_
  refine z_iconst (v := 3) b dX12_packs_80 (by decide) ?_
  refine z_iload_n b dX12_packs_81 rfl rfl ?_
  refine z_imul (v := 3) b dX12_packs_82 (by decide) ?_
  refine z_iload_n b dX12_packs_83 rfl rfl ?_
  refine z_iload b dX12_packs_84 rfl ?_
  refine z_calli b (z_runS (As := [.int 1, .int 0]) (st := [.int 3, .ref (a 2), .long 1572912]) b (c_X12_other_4 S ) cf_X12_other wm_X12_160 ws_X12_other dX12_packs_86 rfl (Nat.le_of_ble_eq_true rfl) ⟨by decide, by decide, by decide, by decide⟩) (fun r2113 u2114 h2112 => ?_)
  obtain ⟨rfl, rfl⟩ := h2112
  refine z_iadd (v := 5) b dX12_packs_89 (by decide) ?_
  refine y_iald (q0 := 2) (j := 5) (v := (ar S 1 5)) b (mw_2 cy a S) (by decide) rfl dX12_packs_90 ?_
  refine z_eqi h_a_1_5 ?_
  refine z_i2l (v := 0) b dX12_packs_91 (by decide) ?_
  refine z_lor (v := 1572912) b dX12_packs_92 (by decide) ?_
  refine z_lstore_n (lv' := [(1, .long 1572912), (4, .int 0), (3, .int 1), (0, .ref (a 0))]) b dX12_packs_93 rfl (by decide) rfl ?_
  refine z_lload_n b dX12_packs_94 rfl rfl ?_
  refine z_iconst (v := 1) b dX12_packs_95 (by decide) ?_
  refine z_lshl (v := 3145824) b dX12_packs_96 (by decide) ?_
  refine z_aload_n b dX12_packs_97 rfl rfl ?_
  refine z_get (q0 := 0) (k9 := 4) (v := .ref (a 5)) b (mw_0 cy a S) rfl in_X12 (by decide) wf_X12_27 rfl dX12_packs_98 ?_
  refine z_iconst (v := 3) b dX12_packs_101 (by decide) ?_
  refine z_iload_n b dX12_packs_102 rfl rfl ?_
  refine z_imul (v := 3) b dX12_packs_103 (by decide) ?_
  refine z_iload_n b dX12_packs_104 rfl rfl ?_
  refine z_iload b dX12_packs_105 rfl ?_
  refine z_calli b (z_runS (As := [.int 1, .int 0]) (st := [.int 3, .ref (a 5), .long 3145824]) b (c_X12_other_4 S ) cf_X12_other wm_X12_160 ws_X12_other dX12_packs_107 rfl (Nat.le_of_ble_eq_true rfl) ⟨by decide, by decide, by decide, by decide⟩) (fun r2116 u2117 h2115 => ?_)
  obtain ⟨rfl, rfl⟩ := h2115
  refine z_iadd (v := 5) b dX12_packs_110 (by decide) ?_
  refine y_zald (q0 := 5) (j := 5) (v := (ar S 4 5)) b (mw_5 cy a S) (by decide) rfl dX12_packs_111 ?_
  refine z_eqi h_a_4_5 ?_
  refine z_if_eq_t (tgt := 119) b dX12_packs_112 (by decide) (by decide) ?_
  refine z_lconst (v := 0) b dX12_packs_119 (by decide) ?_
  refine z_lor (v := 3145824) b dX12_packs_120 (by decide) ?_
  refine z_lstore_n (lv' := [(1, .long 3145824), (4, .int 0), (3, .int 1), (0, .ref (a 0))]) b dX12_packs_121 rfl (by decide) rfl ?_
  refine z_iinc (k9 := 1) (v := 1) (lv' := [(4, .int 1), (1, .long 3145824), (3, .int 1), (0, .ref (a 0))]) b dX12_packs_122 rfl (by decide) (by decide) rfl ?_
  refine z_goto (tgt := 67) b dX12_packs_125 (by decide) ?_
  refine z_iload b dX12_packs_67 rfl ?_
  refine z_iconst (v := 2) b dX12_packs_69 (by decide) ?_
  refine z_icmp_ge_f (tgt := 128) b dX12_packs_70 (by decide) (by decide) ?_
  refine z_lload_n b dX12_packs_73 rfl rfl ?_
  refine z_iconst (v := 3) b dX12_packs_74 (by decide) ?_
  refine z_lshl (v := 25166592) b dX12_packs_75 (by decide) ?_
  refine z_aload_n b dX12_packs_76 rfl rfl ?_
  refine z_get (q0 := 0) (k9 := 1) (v := .ref (a 2)) b (mw_0 cy a S) rfl in_X12 (by decide) wf_X12_17 rfl dX12_packs_77 ?_
  refine z_iconst (v := 3) b dX12_packs_80 (by decide) ?_
  refine z_iload_n b dX12_packs_81 rfl rfl ?_
  refine z_imul (v := 3) b dX12_packs_82 (by decide) ?_
  refine z_iload_n b dX12_packs_83 rfl rfl ?_
  refine z_iload b dX12_packs_84 rfl ?_
  refine z_calli b (z_runS (As := [.int 1, .int 1]) (st := [.int 3, .ref (a 2), .long 25166592]) b (c_X12_other_3 S ) cf_X12_other wm_X12_160 ws_X12_other dX12_packs_86 rfl (Nat.le_of_ble_eq_true rfl) ⟨by decide, by decide, by decide, by decide⟩) (fun r2119 u2120 h2118 => ?_)
  obtain ⟨rfl, rfl⟩ := h2118
  refine z_iadd (v := 3) b dX12_packs_89 (by decide) ?_
  refine y_iald (q0 := 2) (j := 3) (v := (ar S 1 3)) b (mw_2 cy a S) (by decide) rfl dX12_packs_90 ?_
  refine z_eqi h_a_1_3 ?_
  refine z_i2l (v := 0) b dX12_packs_91 (by decide) ?_
  refine z_lor (v := 25166592) b dX12_packs_92 (by decide) ?_
  refine z_lstore_n (lv' := [(1, .long 25166592), (4, .int 1), (3, .int 1), (0, .ref (a 0))]) b dX12_packs_93 rfl (by decide) rfl ?_
  refine z_lload_n b dX12_packs_94 rfl rfl ?_
  refine z_iconst (v := 1) b dX12_packs_95 (by decide) ?_
  refine z_lshl (v := 50333184) b dX12_packs_96 (by decide) ?_
  refine z_aload_n b dX12_packs_97 rfl rfl ?_
  refine z_get (q0 := 0) (k9 := 4) (v := .ref (a 5)) b (mw_0 cy a S) rfl in_X12 (by decide) wf_X12_27 rfl dX12_packs_98 ?_
  refine z_iconst (v := 3) b dX12_packs_101 (by decide) ?_
  refine z_iload_n b dX12_packs_102 rfl rfl ?_
  refine z_imul (v := 3) b dX12_packs_103 (by decide) ?_
  refine z_iload_n b dX12_packs_104 rfl rfl ?_
  refine z_iload b dX12_packs_105 rfl ?_
  refine z_calli b (z_runS (As := [.int 1, .int 1]) (st := [.int 3, .ref (a 5), .long 50333184]) b (c_X12_other_3 S ) cf_X12_other wm_X12_160 ws_X12_other dX12_packs_107 rfl (Nat.le_of_ble_eq_true rfl) ⟨by decide, by decide, by decide, by decide⟩) (fun r2122 u2123 h2121 => ?_)
  obtain ⟨rfl, rfl⟩ := h2121
  refine z_iadd (v := 3) b dX12_packs_110 (by decide) ?_
  refine y_zald (q0 := 5) (j := 3) (v := (ar S 4 3)) b (mw_5 cy a S) (by decide) rfl dX12_packs_111 ?_
  refine z_eqi h_a_4_3 ?_
  refine z_if_eq_t (tgt := 119) b dX12_packs_112 (by decide) (by decide) ?_
  refine z_lconst (v := 0) b dX12_packs_119 (by decide) ?_
  refine z_lor (v := 50333184) b dX12_packs_120 (by decide) ?_
  refine z_lstore_n (lv' := [(1, .long 50333184), (4, .int 1), (3, .int 1), (0, .ref (a 0))]) b dX12_packs_121 rfl (by decide) rfl ?_
  refine z_iinc (k9 := 1) (v := 2) (lv' := [(4, .int 2), (1, .long 50333184), (3, .int 1), (0, .ref (a 0))]) b dX12_packs_122 rfl (by decide) (by decide) rfl ?_
  refine z_goto (tgt := 67) b dX12_packs_125 (by decide) ?_
  refine z_iload b dX12_packs_67 rfl ?_
  refine z_iconst (v := 2) b dX12_packs_69 (by decide) ?_
  refine z_icmp_ge_t (tgt := 128) b dX12_packs_70 (by decide) (by decide) ?_
  refine z_iinc (k9 := 2) (v := 2) (lv' := [(3, .int 2), (4, .int 2), (1, .long 50333184), (0, .ref (a 0))]) b dX12_packs_128 rfl (by decide) (by decide) rfl ?_
  refine z_goto (tgt := 8) b dX12_packs_131 (by decide) ?_
  refine z_iload_n b dX12_packs_8 rfl rfl ?_
  refine z_iconst (v := 3) b dX12_packs_9 (by decide) ?_
  refine z_icmp_ge_f (tgt := 134) b dX12_packs_10 (by decide) (by decide) ?_
  refine z_lload_n b dX12_packs_13 rfl rfl ?_
  refine z_iconst (v := 4) b dX12_packs_14 (by decide) ?_
  refine z_lshl (v := 805330944) b dX12_packs_15 (by decide) ?_
  refine z_aload_n b dX12_packs_16 rfl rfl ?_
  refine z_get (q0 := 0) (k9 := 0) (v := .ref (a 1)) b (mw_0 cy a S) rfl in_X12 (by decide) wf_X12_13 rfl dX12_packs_17 ?_
  refine z_iload_n b dX12_packs_20 rfl rfl ?_
  refine y_iald (q0 := 1) (j := 2) (v := (ar S 0 2)) b (mw_1 cy a S) (by decide) rfl dX12_packs_21 ?_
  refine z_eqi h_a_0_2 ?_
  refine z_i2l (v := 0) b dX12_packs_22 (by decide) ?_
  refine z_lor (v := 805330944) b dX12_packs_23 (by decide) ?_
  refine z_lstore_n (lv' := [(1, .long 805330944), (3, .int 2), (4, .int 2), (0, .ref (a 0))]) b dX12_packs_24 rfl (by decide) rfl ?_
  refine z_lload_n b dX12_packs_25 rfl rfl ?_
  refine z_iconst (v := 2) b dX12_packs_26 (by decide) ?_
  refine z_lshl (v := 3221323776) b dX12_packs_27 (by decide) ?_
  refine z_aload_n b dX12_packs_28 rfl rfl ?_
  refine z_get (q0 := 0) (k9 := 2) (v := .ref (a 3)) b (mw_0 cy a S) rfl in_X12 (by decide) wf_X12_20 rfl dX12_packs_29 ?_
  refine z_iload_n b dX12_packs_32 rfl rfl ?_
  refine y_iald (q0 := 3) (j := 2) (v := (ar S 2 2)) b (mw_3 cy a S) (by decide) rfl dX12_packs_33 ?_
  refine z_eqi h_a_2_2 ?_
  refine z_i2l (v := 3) b dX12_packs_34 (by decide) ?_
  refine z_lor (v := 3221323779) b dX12_packs_35 (by decide) ?_
  refine z_lstore_n (lv' := [(1, .long 3221323779), (3, .int 2), (4, .int 2), (0, .ref (a 0))]) b dX12_packs_36 rfl (by decide) rfl ?_
  exact k

set_option maxHeartbeats 4000000 in
set_option maxRecDepth 100000 in
theorem c_X12_packs_14 {l : Launch} {D : va_G} {cy : Nat → ClassId} {T0 tB tE : Nat} {a : Nat → Nat} (S : GS)  (h_i_0 : fi S 0 = 0) (h_a_0_0 : ar S 0 0 = 0) (h_a_2_0 : ar S 2 0 = 3) (h_a_3_1 : ar S 3 1 = 0) (h_a_1_1 : ar S 1 1 = 0) (h_a_4_1 : ar S 4 1 = 0) (h_a_1_2 : ar S 1 2 = 0) (h_a_4_2 : ar S 4 2 = 0) (h_a_0_1 : ar S 0 1 = 0) (h_a_2_1 : ar S 2 1 = 3) (h_a_3_5 : ar S 3 5 = 0) (h_a_1_5 : ar S 1 5 = 0) (h_a_4_5 : ar S 4 5 = 0) (h_a_1_3 : ar S 1 3 = 0) (h_a_4_3 : ar S 4 3 = 0) (h_a_0_2 : ar S 0 2 = 0) (h_a_2_2 : ar S 2 2 = 3) (h_a_3_6 : ar S 3 6 = 0) (h_a_1_6 : ar S 1 6 = 0) (h_a_4_6 : ar S 4 6 = 0) (h_a_1_7 : ar S 1 7 = 0) (h_a_4_7 : ar S 4 7 = 0) : Ct l D cy T0 tB tE yX12_packs cX12_packs 5 (some .long) 1 21 0 0 (mw cy a S) [.ref (a 0)] (QL D (U := GS) (fun r u => 1649317774848 = r ∧ S = u) (mw cy a)) := by
  refine Ct.ofZ RX12 "packs" [(0, .ref (a 0))] rfl rfl rfl rfl (Nat.le_of_ble_eq_true rfl) ?_
  intro p e R s m args below meth c A b
  refine ch_X12_packs_30 S  h_a_0_0 h_a_1_1 h_a_1_2 h_a_2_0 h_a_3_1 h_a_4_1 h_a_4_2 h_i_0  b ?_
  refine ch_X12_packs_31 S  h_a_0_1 h_a_0_2 h_a_1_3 h_a_1_5 h_a_2_1 h_a_2_2 h_a_3_5 h_a_4_3 h_a_4_5  b ?_
  refine z_lload_n b dX12_packs_37 rfl rfl ?_
  refine z_iconst (v := 1) b dX12_packs_38 (by decide) ?_
  refine z_lshl (v := 6442647558) b dX12_packs_39 (by decide) ?_
  refine z_aload_n b dX12_packs_40 rfl rfl ?_
  refine z_get (q0 := 0) (k9 := 3) (v := .ref (a 4)) b (mw_0 cy a S) rfl in_X12 (by decide) wf_X12_23 rfl dX12_packs_41 ?_
  refine z_iconst (v := 3) b dX12_packs_44 (by decide) ?_
  refine z_iload_n b dX12_packs_45 rfl rfl ?_
  refine z_imul (v := 6) b dX12_packs_46 (by decide) ?_
  refine z_iload_n b dX12_packs_47 rfl rfl ?_
  refine z_iconst (v := 0) b dX12_packs_48 (by decide) ?_
  refine z_calli b (z_runS (As := [.int 2, .int 0]) (st := [.int 6, .ref (a 4), .long 6442647558]) b (c_X12_other_2 S ) cf_X12_other wm_X12_160 ws_X12_other dX12_packs_49 rfl (Nat.le_of_ble_eq_true rfl) ⟨by decide, by decide, by decide, by decide⟩) (fun r2125 u2126 h2124 => ?_)
  obtain ⟨rfl, rfl⟩ := h2124
  refine z_iadd (v := 6) b dX12_packs_52 (by decide) ?_
  refine y_zald (q0 := 4) (j := 6) (v := (ar S 3 6)) b (mw_4 cy a S) (by decide) rfl dX12_packs_53 ?_
  refine z_eqi h_a_3_6 ?_
  refine z_if_eq_t (tgt := 61) b dX12_packs_54 (by decide) (by decide) ?_
  refine z_lconst (v := 0) b dX12_packs_61 (by decide) ?_
  refine z_lor (v := 6442647558) b dX12_packs_62 (by decide) ?_
  refine z_lstore_n (lv' := [(1, .long 6442647558), (3, .int 2), (4, .int 2), (0, .ref (a 0))]) b dX12_packs_63 rfl (by decide) rfl ?_
  refine z_iconst (v := 0) b dX12_packs_64 (by decide) ?_
  refine z_istore (lv' := [(4, .int 0), (1, .long 6442647558), (3, .int 2), (0, .ref (a 0))]) b dX12_packs_65 (by decide) rfl ?_
  refine z_iload b dX12_packs_67 rfl ?_
  refine z_iconst (v := 2) b dX12_packs_69 (by decide) ?_
  refine z_icmp_ge_f (tgt := 128) b dX12_packs_70 (by decide) (by decide) ?_
  refine z_lload_n b dX12_packs_73 rfl rfl ?_
  refine z_iconst (v := 3) b dX12_packs_74 (by decide) ?_
  refine z_lshl (v := 51541180464) b dX12_packs_75 (by decide) ?_
  refine z_aload_n b dX12_packs_76 rfl rfl ?_
  refine z_get (q0 := 0) (k9 := 1) (v := .ref (a 2)) b (mw_0 cy a S) rfl in_X12 (by decide) wf_X12_17 rfl dX12_packs_77 ?_
  refine z_iconst (v := 3) b dX12_packs_80 (by decide) ?_
  refine z_iload_n b dX12_packs_81 rfl rfl ?_
  refine z_imul (v := 6) b dX12_packs_82 (by decide) ?_
  refine z_iload_n b dX12_packs_83 rfl rfl ?_
  refine z_iload b dX12_packs_84 rfl ?_
  refine z_calli b (z_runS (As := [.int 2, .int 0]) (st := [.int 6, .ref (a 2), .long 51541180464]) b (c_X12_other_2 S ) cf_X12_other wm_X12_160 ws_X12_other dX12_packs_86 rfl (Nat.le_of_ble_eq_true rfl) ⟨by decide, by decide, by decide, by decide⟩) (fun r2128 u2129 h2127 => ?_)
  obtain ⟨rfl, rfl⟩ := h2127
  refine z_iadd (v := 6) b dX12_packs_89 (by decide) ?_
  refine y_iald (q0 := 2) (j := 6) (v := (ar S 1 6)) b (mw_2 cy a S) (by decide) rfl dX12_packs_90 ?_
  refine z_eqi h_a_1_6 ?_
  refine z_i2l (v := 0) b dX12_packs_91 (by decide) ?_
  refine z_lor (v := 51541180464) b dX12_packs_92 (by decide) ?_
  refine z_lstore_n (lv' := [(1, .long 51541180464), (4, .int 0), (3, .int 2), (0, .ref (a 0))]) b dX12_packs_93 rfl (by decide) rfl ?_
  refine z_lload_n b dX12_packs_94 rfl rfl ?_
  refine z_iconst (v := 1) b dX12_packs_95 (by decide) ?_
  refine z_lshl (v := 103082360928) b dX12_packs_96 (by decide) ?_
  refine z_aload_n b dX12_packs_97 rfl rfl ?_
  refine z_get (q0 := 0) (k9 := 4) (v := .ref (a 5)) b (mw_0 cy a S) rfl in_X12 (by decide) wf_X12_27 rfl dX12_packs_98 ?_
  refine z_iconst (v := 3) b dX12_packs_101 (by decide) ?_
  refine z_iload_n b dX12_packs_102 rfl rfl ?_
  refine z_imul (v := 6) b dX12_packs_103 (by decide) ?_
  refine z_iload_n b dX12_packs_104 rfl rfl ?_
  refine z_iload b dX12_packs_105 rfl ?_
  refine z_calli b (z_runS (As := [.int 2, .int 0]) (st := [.int 6, .ref (a 5), .long 103082360928]) b (c_X12_other_2 S ) cf_X12_other wm_X12_160 ws_X12_other dX12_packs_107 rfl (Nat.le_of_ble_eq_true rfl) ⟨by decide, by decide, by decide, by decide⟩) (fun r2131 u2132 h2130 => ?_)
  obtain ⟨rfl, rfl⟩ := h2130
  refine z_iadd (v := 6) b dX12_packs_110 (by decide) ?_
  refine y_zald (q0 := 5) (j := 6) (v := (ar S 4 6)) b (mw_5 cy a S) (by decide) rfl dX12_packs_111 ?_
  refine z_eqi h_a_4_6 ?_
  refine z_if_eq_t (tgt := 119) b dX12_packs_112 (by decide) (by decide) ?_
  refine z_lconst (v := 0) b dX12_packs_119 (by decide) ?_
  refine z_lor (v := 103082360928) b dX12_packs_120 (by decide) ?_
  refine z_lstore_n (lv' := [(1, .long 103082360928), (4, .int 0), (3, .int 2), (0, .ref (a 0))]) b dX12_packs_121 rfl (by decide) rfl ?_
  refine z_iinc (k9 := 1) (v := 1) (lv' := [(4, .int 1), (1, .long 103082360928), (3, .int 2), (0, .ref (a 0))]) b dX12_packs_122 rfl (by decide) (by decide) rfl ?_
  refine z_goto (tgt := 67) b dX12_packs_125 (by decide) ?_
  refine z_iload b dX12_packs_67 rfl ?_
  refine z_iconst (v := 2) b dX12_packs_69 (by decide) ?_
  refine z_icmp_ge_f (tgt := 128) b dX12_packs_70 (by decide) (by decide) ?_
  refine z_lload_n b dX12_packs_73 rfl rfl ?_
  refine z_iconst (v := 3) b dX12_packs_74 (by decide) ?_
  refine z_lshl (v := 824658887424) b dX12_packs_75 (by decide) ?_
  refine z_aload_n b dX12_packs_76 rfl rfl ?_
  refine z_get (q0 := 0) (k9 := 1) (v := .ref (a 2)) b (mw_0 cy a S) rfl in_X12 (by decide) wf_X12_17 rfl dX12_packs_77 ?_
  refine z_iconst (v := 3) b dX12_packs_80 (by decide) ?_
  refine z_iload_n b dX12_packs_81 rfl rfl ?_
  refine z_imul (v := 6) b dX12_packs_82 (by decide) ?_
  refine z_iload_n b dX12_packs_83 rfl rfl ?_
  refine z_iload b dX12_packs_84 rfl ?_
  refine z_calli b (z_runS (As := [.int 2, .int 1]) (st := [.int 6, .ref (a 2), .long 824658887424]) b (c_X12_other S ) cf_X12_other wm_X12_160 ws_X12_other dX12_packs_86 rfl (Nat.le_of_ble_eq_true rfl) ⟨by decide, by decide, by decide, by decide⟩) (fun r2134 u2135 h2133 => ?_)
  obtain ⟨rfl, rfl⟩ := h2133
  refine z_iadd (v := 7) b dX12_packs_89 (by decide) ?_
  refine y_iald (q0 := 2) (j := 7) (v := (ar S 1 7)) b (mw_2 cy a S) (by decide) rfl dX12_packs_90 ?_
  refine z_eqi h_a_1_7 ?_
  refine z_i2l (v := 0) b dX12_packs_91 (by decide) ?_
  refine z_lor (v := 824658887424) b dX12_packs_92 (by decide) ?_
  refine z_lstore_n (lv' := [(1, .long 824658887424), (4, .int 1), (3, .int 2), (0, .ref (a 0))]) b dX12_packs_93 rfl (by decide) rfl ?_
  refine z_lload_n b dX12_packs_94 rfl rfl ?_
  refine z_iconst (v := 1) b dX12_packs_95 (by decide) ?_
  refine z_lshl (v := 1649317774848) b dX12_packs_96 (by decide) ?_
  refine z_aload_n b dX12_packs_97 rfl rfl ?_
  refine z_get (q0 := 0) (k9 := 4) (v := .ref (a 5)) b (mw_0 cy a S) rfl in_X12 (by decide) wf_X12_27 rfl dX12_packs_98 ?_
  refine z_iconst (v := 3) b dX12_packs_101 (by decide) ?_
  refine z_iload_n b dX12_packs_102 rfl rfl ?_
  refine z_imul (v := 6) b dX12_packs_103 (by decide) ?_
  refine z_iload_n b dX12_packs_104 rfl rfl ?_
  refine z_iload b dX12_packs_105 rfl ?_
  refine z_calli b (z_runS (As := [.int 2, .int 1]) (st := [.int 6, .ref (a 5), .long 1649317774848]) b (c_X12_other S ) cf_X12_other wm_X12_160 ws_X12_other dX12_packs_107 rfl (Nat.le_of_ble_eq_true rfl) ⟨by decide, by decide, by decide, by decide⟩) (fun r2137 u2138 h2136 => ?_)
  obtain ⟨rfl, rfl⟩ := h2136
  refine z_iadd (v := 7) b dX12_packs_110 (by decide) ?_
  refine y_zald (q0 := 5) (j := 7) (v := (ar S 4 7)) b (mw_5 cy a S) (by decide) rfl dX12_packs_111 ?_
  refine z_eqi h_a_4_7 ?_
  refine z_if_eq_t (tgt := 119) b dX12_packs_112 (by decide) (by decide) ?_
  refine z_lconst (v := 0) b dX12_packs_119 (by decide) ?_
  refine z_lor (v := 1649317774848) b dX12_packs_120 (by decide) ?_
  refine z_lstore_n (lv' := [(1, .long 1649317774848), (4, .int 1), (3, .int 2), (0, .ref (a 0))]) b dX12_packs_121 rfl (by decide) rfl ?_
  refine z_iinc (k9 := 1) (v := 2) (lv' := [(4, .int 2), (1, .long 1649317774848), (3, .int 2), (0, .ref (a 0))]) b dX12_packs_122 rfl (by decide) (by decide) rfl ?_
  refine z_goto (tgt := 67) b dX12_packs_125 (by decide) ?_
  refine z_iload b dX12_packs_67 rfl ?_
  refine z_iconst (v := 2) b dX12_packs_69 (by decide) ?_
  refine z_icmp_ge_t (tgt := 128) b dX12_packs_70 (by decide) (by decide) ?_
  refine z_iinc (k9 := 2) (v := 3) (lv' := [(3, .int 3), (4, .int 2), (1, .long 1649317774848), (0, .ref (a 0))]) b dX12_packs_128 rfl (by decide) (by decide) rfl ?_
  refine z_goto (tgt := 8) b dX12_packs_131 (by decide) ?_
  refine z_iload_n b dX12_packs_8 rfl rfl ?_
  refine z_iconst (v := 3) b dX12_packs_9 (by decide) ?_
  refine z_icmp_ge_t (tgt := 134) b dX12_packs_10 (by decide) (by decide) ?_
  refine z_lload_n b dX12_packs_134 rfl rfl ?_
  exact z_lret (u := S) b rfl dX12_packs_135 ⟨rfl, rfl⟩ rfl (by decide) (by decide)

set_option maxHeartbeats 4000000 in
set_option maxRecDepth 100000 in
theorem c_X12_told_14 {l : Launch} {D : va_G} {cy : Nat → ClassId} {T0 tB tE : Nat} {a : Nat → Nat} (S : GS)  (h_i_0 : fi S 0 = 0) (h_a_0_0 : ar S 0 0 = 0) (h_a_2_0 : ar S 2 0 = 3) (h_a_3_1 : ar S 3 1 = 0) (h_a_1_1 : ar S 1 1 = 0) (h_a_4_1 : ar S 4 1 = 0) (h_a_1_2 : ar S 1 2 = 0) (h_a_4_2 : ar S 4 2 = 0) (h_a_0_1 : ar S 0 1 = 0) (h_a_2_1 : ar S 2 1 = 3) (h_a_3_5 : ar S 3 5 = 0) (h_a_1_5 : ar S 1 5 = 0) (h_a_4_5 : ar S 4 5 = 0) (h_a_1_3 : ar S 1 3 = 0) (h_a_4_3 : ar S 4 3 = 0) (h_a_0_2 : ar S 0 2 = 0) (h_a_2_2 : ar S 2 2 = 3) (h_a_3_6 : ar S 3 6 = 0) (h_a_1_6 : ar S 1 6 = 0) (h_a_4_6 : ar S 4 6 = 0) (h_a_1_7 : ar S 1 7 = 0) (h_a_4_7 : ar S 4 7 = 0) (h_l_0 : fl S 0 = 1649317774848) : Ct l D cy T0 tB tE yX12_told cX12_told 1 (some .boolean) 2 45 0 0 (mw cy a S) [.ref (a 0)] (QI D (U := GS) (fun r u => 1 = r ∧ S = u) (mw cy a)) := by
  refine Ct.ofZ RX12 "told" [(0, .ref (a 0))] rfl rfl rfl rfl (Nat.le_of_ble_eq_true rfl) ?_
  intro p e R s m args below meth c A b
  refine z_aload_n b dX12_told_0 rfl rfl ?_
  refine z_aload_n b dX12_told_1 rfl rfl ?_
  refine z_calll b (z_runV (q0 := 0) (As := []) (st := [.ref (a 0)]) b (c_X12_packs_14 S h_i_0 h_a_0_0 h_a_2_0 h_a_3_1 h_a_1_1 h_a_4_1 h_a_1_2 h_a_4_2 h_a_0_1 h_a_2_1 h_a_3_5 h_a_1_5 h_a_4_5 h_a_1_3 h_a_4_3 h_a_0_2 h_a_2_2 h_a_3_6 h_a_1_6 h_a_4_6 h_a_1_7 h_a_4_7) cf_X12_packs (mw_0 cy a S) rfl wm_X12_149 wi_X12_packs ws_X12_packs dX12_told_2 rfl (Nat.le_of_ble_eq_true rfl) ⟨by decide, by decide, by decide, by decide⟩) (fun r2140 u2141 h2139 => ?_)
  obtain ⟨rfl, rfl⟩ := h2139
  refine z_put (q0 := 0) (k9 := 6) tyX12 b (mw_0 cy a S) rfl in_X12 tyX12_ok nmX12 (by decide) wf_X12_153 rfl rfl rfl rfl (Nat.le_of_ble_eq_true rfl) dX12_told_5 ((mwp_0_6 cy a S 1649317774848).trans (congrArg (mw cy a) (sl_same h_l_0))) ?_
  refine z_iconst (v := 1) b dX12_told_8 (by decide) ?_
  exact z_zret (u := S) b rfl (by decide) dX12_told_9 ⟨rfl, rfl⟩ rfl (by decide) (by decide)

set_option maxHeartbeats 4000000 in
set_option maxRecDepth 100000 in
theorem c_X12_kin_25 {l : Launch} {D : va_G} {cy : Nat → ClassId} {T0 tB tE : Nat} {a : Nat → Nat} (S : GS)  (h_l_0 : fl S 0 = 1649317774848) (h_a_4_7 : ar S 4 7 = 0) (h_a_1_7 : ar S 1 7 = 0) (h_a_4_6 : ar S 4 6 = 0) (h_a_1_6 : ar S 1 6 = 0) (h_a_3_6 : ar S 3 6 = 0) (h_a_3_2 : ar S 3 2 = 0) (h_a_2_2 : ar S 2 2 = 3) (h_a_0_2 : ar S 0 2 = 0) (h_a_4_3 : ar S 4 3 = 0) (h_a_1_3 : ar S 1 3 = 0) (h_a_4_5 : ar S 4 5 = 0) (h_a_1_5 : ar S 1 5 = 0) (h_a_3_5 : ar S 3 5 = 0) (h_a_3_7 : ar S 3 7 = 0) (h_a_2_1 : ar S 2 1 = 3) (h_a_0_1 : ar S 0 1 = 0) (h_a_4_2 : ar S 4 2 = 0) (h_a_1_2 : ar S 1 2 = 0) (h_a_4_1 : ar S 4 1 = 0) (h_a_1_1 : ar S 1 1 = 0) (h_a_3_1 : ar S 3 1 = 0) (h_a_3_3 : ar S 3 3 = 0) (h_a_2_0 : ar S 2 0 = 3) (h_a_0_0 : ar S 0 0 = 0) (h_i_0 : fi S 0 = 0) : Ct l D cy T0 tB tE yX12_kin cX12_kin 5 (some .boolean) 3 65 0 0 (mw cy a S) [.ref (a 0), .int 0, .int 1, .int 0, .int 0] (QI D (U := GS) (fun r u => 1 = r ∧ S = u) (mw cy a)) := by
  refine Ct.ofZ RX12 "kin" [(0, .ref (a 0)), (1, .int 0), (2, .int 1), (3, .int 0), (4, .int 0)] rfl rfl rfl rfl (Nat.le_of_ble_eq_true rfl) ?_
  intro p e R s m args below meth c A b
  refine z_iload_n b dX12_kin_0 rfl rfl ?_
  refine z_calli b (z_runS (As := [.int 0]) (st := []) b (c_X12_isOne_2 S ) cf_X12_isOne wm_X12_170 ws_X12_isOne dX12_kin_1 rfl (Nat.le_of_ble_eq_true rfl) ⟨by decide, by decide, by decide, by decide⟩) (fun r2083 u2084 h2082 => ?_)
  obtain ⟨rfl, rfl⟩ := h2082
  refine z_if_eq_f (tgt := 28) b dX12_kin_4 (by decide) (by decide) ?_
  refine z_iload_n b dX12_kin_7 rfl rfl ?_
  refine z_calli b (z_runS (As := [.int 1]) (st := []) b (c_X12_isOne_3 S ) cf_X12_isOne wm_X12_170 ws_X12_isOne dX12_kin_8 rfl (Nat.le_of_ble_eq_true rfl) ⟨by decide, by decide, by decide, by decide⟩) (fun r2086 u2087 h2085 => ?_)
  obtain ⟨rfl, rfl⟩ := h2085
  refine z_if_eq_f (tgt := 28) b dX12_kin_11 (by decide) (by decide) ?_
  refine z_iload_n b dX12_kin_14 rfl rfl ?_
  refine z_iload_n b dX12_kin_15 rfl rfl ?_
  refine z_icmp_eq_f (tgt := 28) b dX12_kin_16 (by decide) (by decide) ?_
  refine z_iload_n b dX12_kin_19 rfl rfl ?_
  refine z_iconst (v := 0) b dX12_kin_20 (by decide) ?_
  refine z_iconst (v := 1) b dX12_kin_21 (by decide) ?_
  refine z_calli b (z_runS (As := [.int 0, .int 0, .int 1]) (st := []) b (c_X12_isIn_9 S ) cf_X12_isIn wm_X12_1 ws_X12_isIn dX12_kin_22 rfl (Nat.le_of_ble_eq_true rfl) ⟨by decide, by decide, by decide, by decide⟩) (fun r2089 u2090 h2088 => ?_)
  obtain ⟨rfl, rfl⟩ := h2088
  refine z_if_ne_t (tgt := 30) b dX12_kin_25 (by decide) (by decide) ?_
  refine z_aload_n b dX12_kin_30 rfl rfl ?_
  refine z_aload_n b dX12_kin_31 rfl rfl ?_
  refine z_get (q0 := 0) (k9 := 6) (v := .long (fl S 0)) b (mw_0 cy a S) rfl in_X12 (by decide) wf_X12_153 rfl dX12_kin_32 ?_
  refine z_eql h_l_0 ?_
  refine z_callv b (z_runV (q0 := 0) (As := [.long 1649317774848]) (st := []) b (c_X12_takes S h_a_4_7 h_a_1_7 h_a_4_6 h_a_1_6 h_a_3_6 h_a_3_2 h_a_2_2 h_a_0_2 h_a_4_3 h_a_1_3 h_a_4_5 h_a_1_5 h_a_3_5 h_a_3_7 h_a_2_1 h_a_0_1 h_a_4_2 h_a_1_2 h_a_4_1 h_a_1_1 h_a_3_1 h_a_3_3 h_a_2_0 h_a_0_0 h_i_0) cf_X12_takes (mw_0 cy a S) rfl wm_X12_174 wi_X12_takes ws_X12_takes dX12_kin_35 rfl (Nat.le_of_ble_eq_true rfl) ⟨by decide, by decide, by decide, by decide⟩) (fun u2093 h2091 => ?_)
  obtain rfl := h2091
  refine z_iload_n b dX12_kin_38 rfl rfl ?_
  refine z_iconst (v := 1) b dX12_kin_39 (by decide) ?_
  refine z_icmp_ne_t (tgt := 58) b dX12_kin_40 (by decide) (by decide) ?_
  refine z_aload_n b dX12_kin_58 rfl rfl ?_
  refine z_get (q0 := 0) (k9 := 3) (v := .ref (a 4)) b (mw_0 cy a S) rfl in_X12 (by decide) wf_X12_23 rfl dX12_kin_59 ?_
  refine z_iconst (v := 3) b dX12_kin_62 (by decide) ?_
  refine z_iload_n b dX12_kin_63 rfl rfl ?_
  refine z_imul (v := 0) b dX12_kin_64 (by decide) ?_
  refine z_iload_n b dX12_kin_65 rfl rfl ?_
  refine z_iadd (v := 1) b dX12_kin_66 (by decide) ?_
  refine z_iload b dX12_kin_67 rfl ?_
  refine y_zast (q0 := 4) (j := 1) b (mw_4 cy a S) (by decide) (by decide) dX12_kin_69 ((mwa_4 cy a S 1 0).trans (congrArg (mw cy a) (su_same h_a_3_1))) ?_
  refine z_aload_n b dX12_kin_70 rfl rfl ?_
  refine z_get (q0 := 0) (k9 := 3) (v := .ref (a 4)) b (mw_0 cy a S) rfl in_X12 (by decide) wf_X12_23 rfl dX12_kin_71 ?_
  refine z_iconst (v := 3) b dX12_kin_74 (by decide) ?_
  refine z_iload_n b dX12_kin_75 rfl rfl ?_
  refine z_imul (v := 3) b dX12_kin_76 (by decide) ?_
  refine z_iload_n b dX12_kin_77 rfl rfl ?_
  refine z_iadd (v := 3) b dX12_kin_78 (by decide) ?_
  refine z_iload b dX12_kin_79 rfl ?_
  refine y_zast (q0 := 4) (j := 3) b (mw_4 cy a S) (by decide) (by decide) dX12_kin_81 ((mwa_4 cy a S 3 0).trans (congrArg (mw cy a) (su_same h_a_3_3))) ?_
  refine z_aload_n b dX12_kin_82 rfl rfl ?_
  refine z_calli b (z_runV (q0 := 0) (As := []) (st := []) b (c_X12_told_14 S h_i_0 h_a_0_0 h_a_2_0 h_a_3_1 h_a_1_1 h_a_4_1 h_a_1_2 h_a_4_2 h_a_0_1 h_a_2_1 h_a_3_5 h_a_1_5 h_a_4_5 h_a_1_3 h_a_4_3 h_a_0_2 h_a_2_2 h_a_3_6 h_a_1_6 h_a_4_6 h_a_1_7 h_a_4_7 h_l_0) cf_X12_told (mw_0 cy a S) rfl wm_X12_178 wi_X12_told ws_X12_told dX12_kin_83 rfl (Nat.le_of_ble_eq_true rfl) ⟨by decide, by decide, by decide, by decide⟩) (fun r2143 u2144 h2142 => ?_)
  obtain ⟨rfl, rfl⟩ := h2142
  exact z_zret (u := S) b rfl (by decide) dX12_kin_86 ⟨rfl, rfl⟩ rfl (by decide) (by decide)

set_option maxHeartbeats 4000000 in
set_option maxRecDepth 100000 in
theorem c_X9_set_16 {l : Launch} {D : va_G} {cy : Nat → ClassId} {T0 tB tE : Nat} {a : Nat → Nat} {rw : Nat → Option Nat} (S : GS)   : Ct l D cy T0 tB tE yX9_set cX9_set 3 none 0 0 0 0 (cw cy tE a rw S) [.ref (a 14), .int 21, .int 1] (QV D (U := GS) (fun u => su S 4 21 1 = u) (cw cy tE a rw)) := by
  refine Ct.ofZ RX9 "set" [(0, .ref (a 14)), (1, .int 21), (2, .int 1)] rfl rfl rfl rfl (Nat.le_of_ble_eq_true rfl) ?_
  intro p e R s m args below meth c A b
  refine z_iload_n b dX9_set_0 rfl rfl ?_
  refine z_if_lt_f (tgt := 20) b dX9_set_1 (by decide) (by decide) ?_
  refine z_iload_n b dX9_set_4 rfl rfl ?_
  refine z_aload_n b dX9_set_5 rfl rfl ?_
  refine z_get (q0 := 14) (k9 := 0) (v := .ref (a 15)) b (cw_14 cy tE a rw S) rfl in_X9 (by decide) wf_X9_11 rfl dX9_set_6 ?_
  refine z_alen (q0 := 15) (t0 := 0) (v := 51) b (cw_15 cy tE a rw S) rfl rfl dX9_set_9 ?_
  refine z_icmp_ge_f (tgt := 20) b dX9_set_10 (by decide) (by decide) ?_
  refine z_aload_n b dX9_set_13 rfl rfl ?_
  refine z_get (q0 := 14) (k9 := 0) (v := .ref (a 15)) b (cw_14 cy tE a rw S) rfl in_X9 (by decide) wf_X9_11 rfl dX9_set_14 ?_
  refine z_iload_n b dX9_set_17 rfl rfl ?_
  refine z_iload_n b dX9_set_18 rfl rfl ?_
  refine y_iast (q0 := 15) (j := 21) b (cw_15 cy tE a rw S) (by decide) dX9_set_19 (cwa_15 cy tE a rw S 21 1) ?_
  exact z_vret (u := (su S 4 21 1)) b rfl dX9_set_20 rfl rfl (by decide) (by decide)

set_option maxHeartbeats 4000000 in
set_option maxRecDepth 100000 in
theorem c_X9_set_17 {l : Launch} {D : va_G} {cy : Nat → ClassId} {T0 tB tE : Nat} {a : Nat → Nat} {rw : Nat → Option Nat} (S : GS)   : Ct l D cy T0 tB tE yX9_set cX9_set 3 none 0 0 0 0 (cw cy tE a rw S) [.ref (a 14), .int 23, .int 1] (QV D (U := GS) (fun u => su S 4 23 1 = u) (cw cy tE a rw)) := by
  refine Ct.ofZ RX9 "set" [(0, .ref (a 14)), (1, .int 23), (2, .int 1)] rfl rfl rfl rfl (Nat.le_of_ble_eq_true rfl) ?_
  intro p e R s m args below meth c A b
  refine z_iload_n b dX9_set_0 rfl rfl ?_
  refine z_if_lt_f (tgt := 20) b dX9_set_1 (by decide) (by decide) ?_
  refine z_iload_n b dX9_set_4 rfl rfl ?_
  refine z_aload_n b dX9_set_5 rfl rfl ?_
  refine z_get (q0 := 14) (k9 := 0) (v := .ref (a 15)) b (cw_14 cy tE a rw S) rfl in_X9 (by decide) wf_X9_11 rfl dX9_set_6 ?_
  refine z_alen (q0 := 15) (t0 := 0) (v := 51) b (cw_15 cy tE a rw S) rfl rfl dX9_set_9 ?_
  refine z_icmp_ge_f (tgt := 20) b dX9_set_10 (by decide) (by decide) ?_
  refine z_aload_n b dX9_set_13 rfl rfl ?_
  refine z_get (q0 := 14) (k9 := 0) (v := .ref (a 15)) b (cw_14 cy tE a rw S) rfl in_X9 (by decide) wf_X9_11 rfl dX9_set_14 ?_
  refine z_iload_n b dX9_set_17 rfl rfl ?_
  refine z_iload_n b dX9_set_18 rfl rfl ?_
  refine y_iast (q0 := 15) (j := 23) b (cw_15 cy tE a rw S) (by decide) dX9_set_19 (cwa_15 cy tE a rw S 23 1) ?_
  exact z_vret (u := (su S 4 23 1)) b rfl dX9_set_20 rfl rfl (by decide) (by decide)

set_option maxHeartbeats 4000000 in
set_option maxRecDepth 100000 in
theorem c_X11_kin_26 {l : Launch} {D : va_G} {cy : Nat → ClassId} {T0 tB tE : Nat} {a : Nat → Nat} {rw : Nat → Option Nat} (S : GS)  (h_i_24 : fi S 24 = 0) : Ct l D cy T0 tB tE yX11_kin cX11_kin 6 (some .boolean) 2 41 0 0 (cw cy tE a rw S) [.ref (a 0), .int 0, .int 1, .int 0, .int 1] (QI D (U := GS) (fun r u => 1 = r ∧ (su (su S 4 21 1) 4 23 1) = u) (cw cy tE a rw)) := by
  refine Ct.ofZ RX11 "kin" [(0, .ref (a 0)), (1, .int 0), (2, .int 1), (3, .int 0), (4, .int 1)] rfl rfl rfl rfl (Nat.le_of_ble_eq_true rfl) ?_
  intro p e R s m args below meth c A b
  refine z_iload_n b dX11_kin_0 rfl rfl ?_
  refine z_iload_n b dX11_kin_1 rfl rfl ?_
  refine z_calli b (z_runS (As := [.int 0, .int 1]) (st := []) b (c_X11_arePair_8 S ) cf_X11_arePair wm_X11_84 ws_X11_arePair dX11_kin_2 rfl (Nat.le_of_ble_eq_true rfl) ⟨by decide, by decide, by decide, by decide⟩) (fun r2146 u2147 h2145 => ?_)
  obtain ⟨rfl, rfl⟩ := h2145
  refine z_if_eq_f (tgt := 16) b dX11_kin_5 (by decide) (by decide) ?_
  refine z_iload_n b dX11_kin_8 rfl rfl ?_
  refine z_iconst (v := 1) b dX11_kin_9 (by decide) ?_
  refine z_calli b (z_runS (As := [.int 0, .int 1]) (st := []) b (c_X11_isWithin_5 S ) cf_X11_isWithin wm_X11_73 ws_X11_isWithin dX11_kin_10 rfl (Nat.le_of_ble_eq_true rfl) ⟨by decide, by decide, by decide, by decide⟩) (fun r2149 u2150 h2148 => ?_)
  obtain ⟨rfl, rfl⟩ := h2148
  refine z_if_ne_t (tgt := 18) b dX11_kin_13 (by decide) (by decide) ?_
  refine z_iload b dX11_kin_18 rfl ?_
  refine z_if_eq_f (tgt := 27) b dX11_kin_20 (by decide) (by decide) ?_
  refine z_iconst (v := 1) b dX11_kin_23 (by decide) ?_
  refine z_goto (tgt := 28) b dX11_kin_24 (by decide) ?_
  refine z_istore (lv' := [(5, .int 1), (0, .ref (a 0)), (1, .int 0), (2, .int 1), (3, .int 0), (4, .int 1)]) b dX11_kin_28 (by decide) rfl ?_
  refine z_iload_n b dX11_kin_30 rfl rfl ?_
  refine z_if_ne_f (tgt := 71) b dX11_kin_31 (by decide) (by decide) ?_
  refine z_aload_n b dX11_kin_34 rfl rfl ?_
  refine z_get (q0 := 0) (k9 := 4) (v := .ref (a 14)) b (cw_0 cy tE a rw S) rfl in_X11 (by decide) wf_X11_34 rfl dX11_kin_35 ?_
  refine z_bipush (v := 20) b dX11_kin_38 (by decide) ?_
  refine z_iconst (v := 3) b dX11_kin_40 (by decide) ?_
  refine z_iload_n b dX11_kin_41 rfl rfl ?_
  refine z_imul (v := 0) b dX11_kin_42 (by decide) ?_
  refine z_iadd (v := 20) b dX11_kin_43 (by decide) ?_
  refine z_iload_n b dX11_kin_44 rfl rfl ?_
  refine z_iadd (v := 21) b dX11_kin_45 (by decide) ?_
  refine z_iload b dX11_kin_46 rfl ?_
  refine z_callv b (z_runV (q0 := 14) (As := [.int 21, .int 1]) (st := []) b (c_X9_set_16 S ) cf_X9_set (cw_14 cy tE a rw S) rfl wm_X11_77 wi_X9_set ws_X9_set dX11_kin_48 rfl (Nat.le_of_ble_eq_true rfl) ⟨by decide, by decide, by decide, by decide⟩) (fun u2153 h2151 => ?_)
  obtain rfl := h2151
  refine z_aload_n b dX11_kin_51 rfl rfl ?_
  refine z_get (q0 := 0) (k9 := 4) (v := .ref (a 14)) b (cw_0 cy tE a rw (su S 4 21 1)) rfl in_X11 (by decide) wf_X11_34 rfl dX11_kin_52 ?_
  refine z_bipush (v := 20) b dX11_kin_55 (by decide) ?_
  refine z_iconst (v := 3) b dX11_kin_57 (by decide) ?_
  refine z_iload_n b dX11_kin_58 rfl rfl ?_
  refine z_imul (v := 3) b dX11_kin_59 (by decide) ?_
  refine z_iadd (v := 23) b dX11_kin_60 (by decide) ?_
  refine z_iload_n b dX11_kin_61 rfl rfl ?_
  refine z_iadd (v := 23) b dX11_kin_62 (by decide) ?_
  refine z_iload b dX11_kin_63 rfl ?_
  refine z_callv b (z_runV (q0 := 14) (As := [.int 23, .int 1]) (st := []) b (c_X9_set_17 (su S 4 21 1) ) cf_X9_set (cw_14 cy tE a rw (su S 4 21 1)) rfl wm_X11_77 wi_X9_set ws_X9_set dX11_kin_65 rfl (Nat.le_of_ble_eq_true rfl) ⟨by decide, by decide, by decide, by decide⟩) (fun u2156 h2154 => ?_)
  obtain rfl := h2154
  refine z_goto (tgt := 88) b dX11_kin_68 (by decide) ?_
  refine z_aload_n b dX11_kin_88 rfl rfl ?_
  refine z_get (q0 := 0) (k9 := 6) (v := .ref (a 25)) b (cw_0 cy tE a rw (su (su S 4 21 1) 4 23 1)) rfl in_X11 (by decide) wf_X11_52 rfl dX11_kin_89 ?_
  refine z_callv b (z_runV (q0 := 25) (As := []) (st := []) b (c_X8_forget (su (su S 4 21 1) 4 23 1) h_i_24) cf_X8_forget (cw_25 cy tE a rw (su (su S 4 21 1) 4 23 1)) rfl wm_X11_81 wi_X8_forget ws_X8_forget dX11_kin_92 rfl (Nat.le_of_ble_eq_true rfl) ⟨by decide, by decide, by decide, by decide⟩) (fun u2159 h2157 => ?_)
  obtain rfl := h2157
  refine z_iconst (v := 1) b dX11_kin_95 (by decide) ?_
  exact z_zret (u := (su (su S 4 21 1) 4 23 1)) b rfl (by decide) dX11_kin_96 ⟨rfl, rfl⟩ rfl (by decide) (by decide)

set_option maxHeartbeats 4000000 in
set_option maxRecDepth 100000 in
theorem ch_X12_packs_32 {p : Program} {l : Launch} {e : Env} {R : Room} {s : State} {m : MethodId} {args : Array Value} {below : List Frame} {meth : Method} {c : Code} {D : va_G} {cy : Nat → ClassId} {T0 tB tE : Nat} {A : Nat → Prop} {Q : State → Prop} {a : Nat → Nat} (S : GS)  (h_a_0_0 : ar S 0 0 = 0) (h_a_1_1 : ar S 1 1 = 0) (h_a_1_2 : ar S 1 2 = 0) (h_a_2_0 : ar S 2 0 = 3) (h_a_3_1 : ar S 3 1 = 1) (h_a_4_1 : ar S 4 1 = 0) (h_a_4_2 : ar S 4 2 = 0) (h_i_0 : fi S 0 = 0) (b : Bz p R s m args meth c D cy T0 tB tE A 5 cX12_packs RX12 (some .long) "packs" 1 21 0 0) (k : Z p l e R s m args below meth c D A 5 Q 0 0 (mw cy a S) [(3, .int 1), (4, .int 2), (1, .long 1792), (0, .ref (a 0))] 20 [.ref (a 1), .long 28672]) : Z p l e R s m args below meth c D A 5 Q 0 0 (mw cy a S) [(0, .ref (a 0))] 0 [] := by
  refine z_aload_n b dX12_packs_0 rfl rfl ?_
  refine z_get (q0 := 0) (k9 := 5) (v := .int (fi S 0)) b (mw_0 cy a S) rfl in_X12 (by decide) wf_X12_157 rfl dX12_packs_1 ?_
  refine z_eqi h_i_0 ?_
  refine z_i2l (v := 0) b dX12_packs_4 (by decide) ?_
  refine z_lstore_n (lv' := [(1, .long 0), (0, .ref (a 0))]) b dX12_packs_5 rfl (by decide) rfl ?_
  refine z_iconst (v := 0) b dX12_packs_6 (by decide) ?_
  refine z_istore_n (lv' := [(3, .int 0), (1, .long 0), (0, .ref (a 0))]) b dX12_packs_7 rfl (by decide) rfl ?_
  refine z_iload_n b dX12_packs_8 rfl rfl ?_
  refine z_iconst (v := 3) b dX12_packs_9 (by decide) ?_
  refine z_icmp_ge_f (tgt := 134) b dX12_packs_10 (by decide) (by decide) ?_
  refine z_lload_n b dX12_packs_13 rfl rfl ?_
  refine z_iconst (v := 4) b dX12_packs_14 (by decide) ?_
  refine z_lshl (v := 0) b dX12_packs_15 (by decide) ?_
  refine z_aload_n b dX12_packs_16 rfl rfl ?_
  refine z_get (q0 := 0) (k9 := 0) (v := .ref (a 1)) b (mw_0 cy a S) rfl in_X12 (by decide) wf_X12_13 rfl dX12_packs_17 ?_
  refine z_iload_n b dX12_packs_20 rfl rfl ?_
  refine y_iald (q0 := 1) (j := 0) (v := (ar S 0 0)) b (mw_1 cy a S) (by decide) rfl dX12_packs_21 ?_
  refine z_eqi h_a_0_0 ?_
  refine z_i2l (v := 0) b dX12_packs_22 (by decide) ?_
  refine z_lor (v := 0) b dX12_packs_23 (by decide) ?_
  refine z_lstore_n (lv' := [(1, .long 0), (3, .int 0), (0, .ref (a 0))]) b dX12_packs_24 rfl (by decide) rfl ?_
  refine z_lload_n b dX12_packs_25 rfl rfl ?_
  refine z_iconst (v := 2) b dX12_packs_26 (by decide) ?_
  refine z_lshl (v := 0) b dX12_packs_27 (by decide) ?_
  refine z_aload_n b dX12_packs_28 rfl rfl ?_
  refine z_get (q0 := 0) (k9 := 2) (v := .ref (a 3)) b (mw_0 cy a S) rfl in_X12 (by decide) wf_X12_20 rfl dX12_packs_29 ?_
  refine z_iload_n b dX12_packs_32 rfl rfl ?_
  refine y_iald (q0 := 3) (j := 0) (v := (ar S 2 0)) b (mw_3 cy a S) (by decide) rfl dX12_packs_33 ?_
  refine z_eqi h_a_2_0 ?_
  refine z_i2l (v := 3) b dX12_packs_34 (by decide) ?_
  refine z_lor (v := 3) b dX12_packs_35 (by decide) ?_
  refine z_lstore_n (lv' := [(1, .long 3), (3, .int 0), (0, .ref (a 0))]) b dX12_packs_36 rfl (by decide) rfl ?_
  refine z_lload_n b dX12_packs_37 rfl rfl ?_
  refine z_iconst (v := 1) b dX12_packs_38 (by decide) ?_
  refine z_lshl (v := 6) b dX12_packs_39 (by decide) ?_
  refine z_aload_n b dX12_packs_40 rfl rfl ?_
  refine z_get (q0 := 0) (k9 := 3) (v := .ref (a 4)) b (mw_0 cy a S) rfl in_X12 (by decide) wf_X12_23 rfl dX12_packs_41 ?_
  refine z_iconst (v := 3) b dX12_packs_44 (by decide) ?_
  refine z_iload_n b dX12_packs_45 rfl rfl ?_
  refine z_imul (v := 0) b dX12_packs_46 (by decide) ?_
  refine z_iload_n b dX12_packs_47 rfl rfl ?_
  refine z_iconst (v := 0) b dX12_packs_48 (by decide) ?_
  refine z_calli b (z_runS (As := [.int 0, .int 0]) (st := [.int 0, .ref (a 4), .long 6]) b (c_X12_other_6 S ) cf_X12_other wm_X12_160 ws_X12_other dX12_packs_49 rfl (Nat.le_of_ble_eq_true rfl) ⟨by decide, by decide, by decide, by decide⟩) (fun r2173 u2174 h2172 => ?_)
  obtain ⟨rfl, rfl⟩ := h2172
  refine z_iadd (v := 1) b dX12_packs_52 (by decide) ?_
  refine y_zald (q0 := 4) (j := 1) (v := (ar S 3 1)) b (mw_4 cy a S) (by decide) rfl dX12_packs_53 ?_
  refine z_eqi h_a_3_1 ?_
  refine z_if_eq_f (tgt := 61) b dX12_packs_54 (by decide) (by decide) ?_
  refine z_lconst (v := 1) b dX12_packs_57 (by decide) ?_
  refine z_goto (tgt := 62) b dX12_packs_58 (by decide) ?_
  refine z_lor (v := 7) b dX12_packs_62 (by decide) ?_
  refine z_lstore_n (lv' := [(1, .long 7), (3, .int 0), (0, .ref (a 0))]) b dX12_packs_63 rfl (by decide) rfl ?_
  refine z_iconst (v := 0) b dX12_packs_64 (by decide) ?_
  refine z_istore (lv' := [(4, .int 0), (1, .long 7), (3, .int 0), (0, .ref (a 0))]) b dX12_packs_65 (by decide) rfl ?_
  refine z_iload b dX12_packs_67 rfl ?_
  refine z_iconst (v := 2) b dX12_packs_69 (by decide) ?_
  refine z_icmp_ge_f (tgt := 128) b dX12_packs_70 (by decide) (by decide) ?_
  refine z_lload_n b dX12_packs_73 rfl rfl ?_
  refine z_iconst (v := 3) b dX12_packs_74 (by decide) ?_
  refine z_lshl (v := 56) b dX12_packs_75 (by decide) ?_
  refine z_aload_n b dX12_packs_76 rfl rfl ?_
  refine z_get (q0 := 0) (k9 := 1) (v := .ref (a 2)) b (mw_0 cy a S) rfl in_X12 (by decide) wf_X12_17 rfl dX12_packs_77 ?_
  refine z_iconst (v := 3) b dX12_packs_80 (by decide) ?_
  refine z_iload_n b dX12_packs_81 rfl rfl ?_
  refine z_imul (v := 0) b dX12_packs_82 (by decide) ?_
  refine z_iload_n b dX12_packs_83 rfl rfl ?_
  refine z_iload b dX12_packs_84 rfl ?_
  refine z_calli b (z_runS (As := [.int 0, .int 0]) (st := [.int 0, .ref (a 2), .long 56]) b (c_X12_other_6 S ) cf_X12_other wm_X12_160 ws_X12_other dX12_packs_86 rfl (Nat.le_of_ble_eq_true rfl) ⟨by decide, by decide, by decide, by decide⟩) (fun r2176 u2177 h2175 => ?_)
  obtain ⟨rfl, rfl⟩ := h2175
  refine z_iadd (v := 1) b dX12_packs_89 (by decide) ?_
  refine y_iald (q0 := 2) (j := 1) (v := (ar S 1 1)) b (mw_2 cy a S) (by decide) rfl dX12_packs_90 ?_
  refine z_eqi h_a_1_1 ?_
  refine z_i2l (v := 0) b dX12_packs_91 (by decide) ?_
  refine z_lor (v := 56) b dX12_packs_92 (by decide) ?_
  refine z_lstore_n (lv' := [(1, .long 56), (4, .int 0), (3, .int 0), (0, .ref (a 0))]) b dX12_packs_93 rfl (by decide) rfl ?_
  refine z_lload_n b dX12_packs_94 rfl rfl ?_
  refine z_iconst (v := 1) b dX12_packs_95 (by decide) ?_
  refine z_lshl (v := 112) b dX12_packs_96 (by decide) ?_
  refine z_aload_n b dX12_packs_97 rfl rfl ?_
  refine z_get (q0 := 0) (k9 := 4) (v := .ref (a 5)) b (mw_0 cy a S) rfl in_X12 (by decide) wf_X12_27 rfl dX12_packs_98 ?_
  refine z_iconst (v := 3) b dX12_packs_101 (by decide) ?_
  refine z_iload_n b dX12_packs_102 rfl rfl ?_
  refine z_imul (v := 0) b dX12_packs_103 (by decide) ?_
  refine z_iload_n b dX12_packs_104 rfl rfl ?_
  refine z_iload b dX12_packs_105 rfl ?_
  refine z_calli b (z_runS (As := [.int 0, .int 0]) (st := [.int 0, .ref (a 5), .long 112]) b (c_X12_other_6 S ) cf_X12_other wm_X12_160 ws_X12_other dX12_packs_107 rfl (Nat.le_of_ble_eq_true rfl) ⟨by decide, by decide, by decide, by decide⟩) (fun r2179 u2180 h2178 => ?_)
  obtain ⟨rfl, rfl⟩ := h2178
  refine z_iadd (v := 1) b dX12_packs_110 (by decide) ?_
  refine y_zald (q0 := 5) (j := 1) (v := (ar S 4 1)) b (mw_5 cy a S) (by decide) rfl dX12_packs_111 ?_
  refine z_eqi h_a_4_1 ?_
  refine z_if_eq_t (tgt := 119) b dX12_packs_112 (by decide) (by decide) ?_
  refine z_lconst (v := 0) b dX12_packs_119 (by decide) ?_
  refine z_lor (v := 112) b dX12_packs_120 (by decide) ?_
  refine z_lstore_n (lv' := [(1, .long 112), (4, .int 0), (3, .int 0), (0, .ref (a 0))]) b dX12_packs_121 rfl (by decide) rfl ?_
  refine z_iinc (k9 := 1) (v := 1) (lv' := [(4, .int 1), (1, .long 112), (3, .int 0), (0, .ref (a 0))]) b dX12_packs_122 rfl (by decide) (by decide) rfl ?_
  refine z_goto (tgt := 67) b dX12_packs_125 (by decide) ?_
  refine z_iload b dX12_packs_67 rfl ?_
  refine z_iconst (v := 2) b dX12_packs_69 (by decide) ?_
  refine z_icmp_ge_f (tgt := 128) b dX12_packs_70 (by decide) (by decide) ?_
  refine z_lload_n b dX12_packs_73 rfl rfl ?_
  refine z_iconst (v := 3) b dX12_packs_74 (by decide) ?_
  refine z_lshl (v := 896) b dX12_packs_75 (by decide) ?_
  refine z_aload_n b dX12_packs_76 rfl rfl ?_
  refine z_get (q0 := 0) (k9 := 1) (v := .ref (a 2)) b (mw_0 cy a S) rfl in_X12 (by decide) wf_X12_17 rfl dX12_packs_77 ?_
  refine z_iconst (v := 3) b dX12_packs_80 (by decide) ?_
  refine z_iload_n b dX12_packs_81 rfl rfl ?_
  refine z_imul (v := 0) b dX12_packs_82 (by decide) ?_
  refine z_iload_n b dX12_packs_83 rfl rfl ?_
  refine z_iload b dX12_packs_84 rfl ?_
  refine z_calli b (z_runS (As := [.int 0, .int 1]) (st := [.int 0, .ref (a 2), .long 896]) b (c_X12_other_5 S ) cf_X12_other wm_X12_160 ws_X12_other dX12_packs_86 rfl (Nat.le_of_ble_eq_true rfl) ⟨by decide, by decide, by decide, by decide⟩) (fun r2182 u2183 h2181 => ?_)
  obtain ⟨rfl, rfl⟩ := h2181
  refine z_iadd (v := 2) b dX12_packs_89 (by decide) ?_
  refine y_iald (q0 := 2) (j := 2) (v := (ar S 1 2)) b (mw_2 cy a S) (by decide) rfl dX12_packs_90 ?_
  refine z_eqi h_a_1_2 ?_
  refine z_i2l (v := 0) b dX12_packs_91 (by decide) ?_
  refine z_lor (v := 896) b dX12_packs_92 (by decide) ?_
  refine z_lstore_n (lv' := [(1, .long 896), (4, .int 1), (3, .int 0), (0, .ref (a 0))]) b dX12_packs_93 rfl (by decide) rfl ?_
  refine z_lload_n b dX12_packs_94 rfl rfl ?_
  refine z_iconst (v := 1) b dX12_packs_95 (by decide) ?_
  refine z_lshl (v := 1792) b dX12_packs_96 (by decide) ?_
  refine z_aload_n b dX12_packs_97 rfl rfl ?_
  refine z_get (q0 := 0) (k9 := 4) (v := .ref (a 5)) b (mw_0 cy a S) rfl in_X12 (by decide) wf_X12_27 rfl dX12_packs_98 ?_
  refine z_iconst (v := 3) b dX12_packs_101 (by decide) ?_
  refine z_iload_n b dX12_packs_102 rfl rfl ?_
  refine z_imul (v := 0) b dX12_packs_103 (by decide) ?_
  refine z_iload_n b dX12_packs_104 rfl rfl ?_
  refine z_iload b dX12_packs_105 rfl ?_
  refine z_calli b (z_runS (As := [.int 0, .int 1]) (st := [.int 0, .ref (a 5), .long 1792]) b (c_X12_other_5 S ) cf_X12_other wm_X12_160 ws_X12_other dX12_packs_107 rfl (Nat.le_of_ble_eq_true rfl) ⟨by decide, by decide, by decide, by decide⟩) (fun r2185 u2186 h2184 => ?_)
  obtain ⟨rfl, rfl⟩ := h2184
  refine z_iadd (v := 2) b dX12_packs_110 (by decide) ?_
  refine y_zald (q0 := 5) (j := 2) (v := (ar S 4 2)) b (mw_5 cy a S) (by decide) rfl dX12_packs_111 ?_
  refine z_eqi h_a_4_2 ?_
  refine z_if_eq_t (tgt := 119) b dX12_packs_112 (by decide) (by decide) ?_
  refine z_lconst (v := 0) b dX12_packs_119 (by decide) ?_
  refine z_lor (v := 1792) b dX12_packs_120 (by decide) ?_
  refine z_lstore_n (lv' := [(1, .long 1792), (4, .int 1), (3, .int 0), (0, .ref (a 0))]) b dX12_packs_121 rfl (by decide) rfl ?_
  refine z_iinc (k9 := 1) (v := 2) (lv' := [(4, .int 2), (1, .long 1792), (3, .int 0), (0, .ref (a 0))]) b dX12_packs_122 rfl (by decide) (by decide) rfl ?_
  refine z_goto (tgt := 67) b dX12_packs_125 (by decide) ?_
  refine z_iload b dX12_packs_67 rfl ?_
  refine z_iconst (v := 2) b dX12_packs_69 (by decide) ?_
  refine z_icmp_ge_t (tgt := 128) b dX12_packs_70 (by decide) (by decide) ?_
  refine z_iinc (k9 := 2) (v := 1) (lv' := [(3, .int 1), (4, .int 2), (1, .long 1792), (0, .ref (a 0))]) b dX12_packs_128 rfl (by decide) (by decide) rfl ?_
  refine z_goto (tgt := 8) b dX12_packs_131 (by decide) ?_
  refine z_iload_n b dX12_packs_8 rfl rfl ?_
  refine z_iconst (v := 3) b dX12_packs_9 (by decide) ?_
  refine z_icmp_ge_f (tgt := 134) b dX12_packs_10 (by decide) (by decide) ?_
  refine z_lload_n b dX12_packs_13 rfl rfl ?_
  refine z_iconst (v := 4) b dX12_packs_14 (by decide) ?_
  refine z_lshl (v := 28672) b dX12_packs_15 (by decide) ?_
  refine z_aload_n b dX12_packs_16 rfl rfl ?_
  refine z_get (q0 := 0) (k9 := 0) (v := .ref (a 1)) b (mw_0 cy a S) rfl in_X12 (by decide) wf_X12_13 rfl dX12_packs_17 ?_
  exact k

set_option maxHeartbeats 4000000 in
set_option maxRecDepth 100000 in
theorem ch_X12_packs_33 {p : Program} {l : Launch} {e : Env} {R : Room} {s : State} {m : MethodId} {args : Array Value} {below : List Frame} {meth : Method} {c : Code} {D : va_G} {cy : Nat → ClassId} {T0 tB tE : Nat} {A : Nat → Prop} {Q : State → Prop} {a : Nat → Nat} (S : GS)  (h_a_0_1 : ar S 0 1 = 0) (h_a_0_2 : ar S 0 2 = 0) (h_a_1_3 : ar S 1 3 = 0) (h_a_1_5 : ar S 1 5 = 0) (h_a_2_1 : ar S 2 1 = 3) (h_a_2_2 : ar S 2 2 = 3) (h_a_3_5 : ar S 3 5 = 0) (h_a_4_3 : ar S 4 3 = 0) (h_a_4_5 : ar S 4 5 = 0) (b : Bz p R s m args meth c D cy T0 tB tE A 5 cX12_packs RX12 (some .long) "packs" 1 21 0 0) (k : Z p l e R s m args below meth c D A 5 Q 0 0 (mw cy a S) [(1, .long 939548672), (3, .int 2), (4, .int 2), (0, .ref (a 0))] 36 [.long 3758194691]) : Z p l e R s m args below meth c D A 5 Q 0 0 (mw cy a S) [(3, .int 1), (4, .int 2), (1, .long 1792), (0, .ref (a 0))] 20 [.ref (a 1), .long 28672] := by
  refine z_iload_n b dX12_packs_20 rfl rfl ?_
  refine y_iald (q0 := 1) (j := 1) (v := (ar S 0 1)) b (mw_1 cy a S) (by decide) rfl dX12_packs_21 ?_
  refine z_eqi h_a_0_1 ?_
  refine z_i2l (v := 0) b dX12_packs_22 (by decide) ?_
  refine z_lor (v := 28672) b dX12_packs_23 (by decide) ?_
  refine z_lstore_n (lv' := [(1, .long 28672), (3, .int 1), (4, .int 2), (0, .ref (a 0))]) b dX12_packs_24 rfl (by decide) rfl ?_
  refine z_lload_n b dX12_packs_25 rfl rfl ?_
  refine z_iconst (v := 2) b dX12_packs_26 (by decide) ?_
  refine z_lshl (v := 114688) b dX12_packs_27 (by decide) ?_
  refine z_aload_n b dX12_packs_28 rfl rfl ?_
  refine z_get (q0 := 0) (k9 := 2) (v := .ref (a 3)) b (mw_0 cy a S) rfl in_X12 (by decide) wf_X12_20 rfl dX12_packs_29 ?_
  refine z_iload_n b dX12_packs_32 rfl rfl ?_
  refine y_iald (q0 := 3) (j := 1) (v := (ar S 2 1)) b (mw_3 cy a S) (by decide) rfl dX12_packs_33 ?_
  refine z_eqi h_a_2_1 ?_
  refine z_i2l (v := 3) b dX12_packs_34 (by decide) ?_
  refine z_lor (v := 114691) b dX12_packs_35 (by decide) ?_
  refine z_lstore_n (lv' := [(1, .long 114691), (3, .int 1), (4, .int 2), (0, .ref (a 0))]) b dX12_packs_36 rfl (by decide) rfl ?_
  refine z_lload_n b dX12_packs_37 rfl rfl ?_
  refine z_iconst (v := 1) b dX12_packs_38 (by decide) ?_
  refine z_lshl (v := 229382) b dX12_packs_39 (by decide) ?_
  refine z_aload_n b dX12_packs_40 rfl rfl ?_
  refine z_get (q0 := 0) (k9 := 3) (v := .ref (a 4)) b (mw_0 cy a S) rfl in_X12 (by decide) wf_X12_23 rfl dX12_packs_41 ?_
  refine z_iconst (v := 3) b dX12_packs_44 (by decide) ?_
  refine z_iload_n b dX12_packs_45 rfl rfl ?_
  refine z_imul (v := 3) b dX12_packs_46 (by decide) ?_
  refine z_iload_n b dX12_packs_47 rfl rfl ?_
  refine z_iconst (v := 0) b dX12_packs_48 (by decide) ?_
  refine z_calli b (z_runS (As := [.int 1, .int 0]) (st := [.int 3, .ref (a 4), .long 229382]) b (c_X12_other_4 S ) cf_X12_other wm_X12_160 ws_X12_other dX12_packs_49 rfl (Nat.le_of_ble_eq_true rfl) ⟨by decide, by decide, by decide, by decide⟩) (fun r2188 u2189 h2187 => ?_)
  obtain ⟨rfl, rfl⟩ := h2187
  refine z_iadd (v := 5) b dX12_packs_52 (by decide) ?_
  refine y_zald (q0 := 4) (j := 5) (v := (ar S 3 5)) b (mw_4 cy a S) (by decide) rfl dX12_packs_53 ?_
  refine z_eqi h_a_3_5 ?_
  refine z_if_eq_t (tgt := 61) b dX12_packs_54 (by decide) (by decide) ?_
  refine z_lconst (v := 0) b dX12_packs_61 (by decide) ?_
  refine z_lor (v := 229382) b dX12_packs_62 (by decide) ?_
  refine z_lstore_n (lv' := [(1, .long 229382), (3, .int 1), (4, .int 2), (0, .ref (a 0))]) b dX12_packs_63 rfl (by decide) rfl ?_
  refine z_iconst (v := 0) b dX12_packs_64 (by decide) ?_
  refine z_istore (lv' := [(4, .int 0), (1, .long 229382), (3, .int 1), (0, .ref (a 0))]) b dX12_packs_65 (by decide) rfl ?_
  refine z_iload b dX12_packs_67 rfl ?_
  refine z_iconst (v := 2) b dX12_packs_69 (by decide) ?_
  refine z_icmp_ge_f (tgt := 128) b dX12_packs_70 (by decide) (by decide) ?_
  refine z_lload_n b dX12_packs_73 rfl rfl ?_
  refine z_iconst (v := 3) b dX12_packs_74 (by decide) ?_
  refine z_lshl (v := 1835056) b dX12_packs_75 (by decide) ?_
  refine z_aload_n b dX12_packs_76 rfl rfl ?_
  refine z_get (q0 := 0) (k9 := 1) (v := .ref (a 2)) b (mw_0 cy a S) rfl in_X12 (by decide) wf_X12_17 rfl dX12_packs_77 ?_
  refine z_iconst (v := 3) b dX12_packs_80 (by decide) ?_
  refine z_iload_n b dX12_packs_81 rfl rfl ?_
  refine z_imul (v := 3) b dX12_packs_82 (by decide) ?_
  refine z_iload_n b dX12_packs_83 rfl rfl ?_
  refine z_iload b dX12_packs_84 rfl ?_
  refine z_calli b (z_runS (As := [.int 1, .int 0]) (st := [.int 3, .ref (a 2), .long 1835056]) b (c_X12_other_4 S ) cf_X12_other wm_X12_160 ws_X12_other dX12_packs_86 rfl (Nat.le_of_ble_eq_true rfl) ⟨by decide, by decide, by decide, by decide⟩) (fun r2191 u2192 h2190 => ?_)
  obtain ⟨rfl, rfl⟩ := h2190
  refine z_iadd (v := 5) b dX12_packs_89 (by decide) ?_
  refine y_iald (q0 := 2) (j := 5) (v := (ar S 1 5)) b (mw_2 cy a S) (by decide) rfl dX12_packs_90 ?_
  refine z_eqi h_a_1_5 ?_
  refine z_i2l (v := 0) b dX12_packs_91 (by decide) ?_
  refine z_lor (v := 1835056) b dX12_packs_92 (by decide) ?_
  refine z_lstore_n (lv' := [(1, .long 1835056), (4, .int 0), (3, .int 1), (0, .ref (a 0))]) b dX12_packs_93 rfl (by decide) rfl ?_
  refine z_lload_n b dX12_packs_94 rfl rfl ?_
  refine z_iconst (v := 1) b dX12_packs_95 (by decide) ?_
  refine z_lshl (v := 3670112) b dX12_packs_96 (by decide) ?_
  refine z_aload_n b dX12_packs_97 rfl rfl ?_
  refine z_get (q0 := 0) (k9 := 4) (v := .ref (a 5)) b (mw_0 cy a S) rfl in_X12 (by decide) wf_X12_27 rfl dX12_packs_98 ?_
  refine z_iconst (v := 3) b dX12_packs_101 (by decide) ?_
  refine z_iload_n b dX12_packs_102 rfl rfl ?_
  refine z_imul (v := 3) b dX12_packs_103 (by decide) ?_
  refine z_iload_n b dX12_packs_104 rfl rfl ?_
  refine z_iload b dX12_packs_105 rfl ?_
  refine z_calli b (z_runS (As := [.int 1, .int 0]) (st := [.int 3, .ref (a 5), .long 3670112]) b (c_X12_other_4 S ) cf_X12_other wm_X12_160 ws_X12_other dX12_packs_107 rfl (Nat.le_of_ble_eq_true rfl) ⟨by decide, by decide, by decide, by decide⟩) (fun r2194 u2195 h2193 => ?_)
  obtain ⟨rfl, rfl⟩ := h2193
  refine z_iadd (v := 5) b dX12_packs_110 (by decide) ?_
  refine y_zald (q0 := 5) (j := 5) (v := (ar S 4 5)) b (mw_5 cy a S) (by decide) rfl dX12_packs_111 ?_
  refine z_eqi h_a_4_5 ?_
  refine z_if_eq_t (tgt := 119) b dX12_packs_112 (by decide) (by decide) ?_
  refine z_lconst (v := 0) b dX12_packs_119 (by decide) ?_
  refine z_lor (v := 3670112) b dX12_packs_120 (by decide) ?_
  refine z_lstore_n (lv' := [(1, .long 3670112), (4, .int 0), (3, .int 1), (0, .ref (a 0))]) b dX12_packs_121 rfl (by decide) rfl ?_
  refine z_iinc (k9 := 1) (v := 1) (lv' := [(4, .int 1), (1, .long 3670112), (3, .int 1), (0, .ref (a 0))]) b dX12_packs_122 rfl (by decide) (by decide) rfl ?_
  refine z_goto (tgt := 67) b dX12_packs_125 (by decide) ?_
  refine z_iload b dX12_packs_67 rfl ?_
  refine z_iconst (v := 2) b dX12_packs_69 (by decide) ?_
  refine z_icmp_ge_f (tgt := 128) b dX12_packs_70 (by decide) (by decide) ?_
  refine z_lload_n b dX12_packs_73 rfl rfl ?_
  refine z_iconst (v := 3) b dX12_packs_74 (by decide) ?_
  refine z_lshl (v := 29360896) b dX12_packs_75 (by decide) ?_
  refine z_aload_n b dX12_packs_76 rfl rfl ?_
  refine z_get (q0 := 0) (k9 := 1) (v := .ref (a 2)) b (mw_0 cy a S) rfl in_X12 (by decide) wf_X12_17 rfl dX12_packs_77 ?_
  refine z_iconst (v := 3) b dX12_packs_80 (by decide) ?_
  refine z_iload_n b dX12_packs_81 rfl rfl ?_
  refine z_imul (v := 3) b dX12_packs_82 (by decide) ?_
  refine z_iload_n b dX12_packs_83 rfl rfl ?_
  refine z_iload b dX12_packs_84 rfl ?_
  refine z_calli b (z_runS (As := [.int 1, .int 1]) (st := [.int 3, .ref (a 2), .long 29360896]) b (c_X12_other_3 S ) cf_X12_other wm_X12_160 ws_X12_other dX12_packs_86 rfl (Nat.le_of_ble_eq_true rfl) ⟨by decide, by decide, by decide, by decide⟩) (fun r2197 u2198 h2196 => ?_)
  obtain ⟨rfl, rfl⟩ := h2196
  refine z_iadd (v := 3) b dX12_packs_89 (by decide) ?_
  refine y_iald (q0 := 2) (j := 3) (v := (ar S 1 3)) b (mw_2 cy a S) (by decide) rfl dX12_packs_90 ?_
  refine z_eqi h_a_1_3 ?_
  refine z_i2l (v := 0) b dX12_packs_91 (by decide) ?_
  refine z_lor (v := 29360896) b dX12_packs_92 (by decide) ?_
  refine z_lstore_n (lv' := [(1, .long 29360896), (4, .int 1), (3, .int 1), (0, .ref (a 0))]) b dX12_packs_93 rfl (by decide) rfl ?_
  refine z_lload_n b dX12_packs_94 rfl rfl ?_
  refine z_iconst (v := 1) b dX12_packs_95 (by decide) ?_
  refine z_lshl (v := 58721792) b dX12_packs_96 (by decide) ?_
  refine z_aload_n b dX12_packs_97 rfl rfl ?_
  refine z_get (q0 := 0) (k9 := 4) (v := .ref (a 5)) b (mw_0 cy a S) rfl in_X12 (by decide) wf_X12_27 rfl dX12_packs_98 ?_
  refine z_iconst (v := 3) b dX12_packs_101 (by decide) ?_
  refine z_iload_n b dX12_packs_102 rfl rfl ?_
  refine z_imul (v := 3) b dX12_packs_103 (by decide) ?_
  refine z_iload_n b dX12_packs_104 rfl rfl ?_
  refine z_iload b dX12_packs_105 rfl ?_
  refine z_calli b (z_runS (As := [.int 1, .int 1]) (st := [.int 3, .ref (a 5), .long 58721792]) b (c_X12_other_3 S ) cf_X12_other wm_X12_160 ws_X12_other dX12_packs_107 rfl (Nat.le_of_ble_eq_true rfl) ⟨by decide, by decide, by decide, by decide⟩) (fun r2200 u2201 h2199 => ?_)
  obtain ⟨rfl, rfl⟩ := h2199
  refine z_iadd (v := 3) b dX12_packs_110 (by decide) ?_
  refine y_zald (q0 := 5) (j := 3) (v := (ar S 4 3)) b (mw_5 cy a S) (by decide) rfl dX12_packs_111 ?_
  refine z_eqi h_a_4_3 ?_
  refine z_if_eq_t (tgt := 119) b dX12_packs_112 (by decide) (by decide) ?_
  refine z_lconst (v := 0) b dX12_packs_119 (by decide) ?_
  refine z_lor (v := 58721792) b dX12_packs_120 (by decide) ?_
  refine z_lstore_n (lv' := [(1, .long 58721792), (4, .int 1), (3, .int 1), (0, .ref (a 0))]) b dX12_packs_121 rfl (by decide) rfl ?_
  refine z_iinc (k9 := 1) (v := 2) (lv' := [(4, .int 2), (1, .long 58721792), (3, .int 1), (0, .ref (a 0))]) b dX12_packs_122 rfl (by decide) (by decide) rfl ?_
  refine z_goto (tgt := 67) b dX12_packs_125 (by decide) ?_
  refine z_iload b dX12_packs_67 rfl ?_
  refine z_iconst (v := 2) b dX12_packs_69 (by decide) ?_
  refine z_icmp_ge_t (tgt := 128) b dX12_packs_70 (by decide) (by decide) ?_
  refine z_iinc (k9 := 2) (v := 2) (lv' := [(3, .int 2), (4, .int 2), (1, .long 58721792), (0, .ref (a 0))]) b dX12_packs_128 rfl (by decide) (by decide) rfl ?_
  refine z_goto (tgt := 8) b dX12_packs_131 (by decide) ?_
  refine z_iload_n b dX12_packs_8 rfl rfl ?_
  refine z_iconst (v := 3) b dX12_packs_9 (by decide) ?_
  refine z_icmp_ge_f (tgt := 134) b dX12_packs_10 (by decide) (by decide) ?_
  refine z_lload_n b dX12_packs_13 rfl rfl ?_
  refine z_iconst (v := 4) b dX12_packs_14 (by decide) ?_
  refine z_lshl (v := 939548672) b dX12_packs_15 (by decide) ?_
  refine z_aload_n b dX12_packs_16 rfl rfl ?_
  refine z_get (q0 := 0) (k9 := 0) (v := .ref (a 1)) b (mw_0 cy a S) rfl in_X12 (by decide) wf_X12_13 rfl dX12_packs_17 ?_
  refine z_iload_n b dX12_packs_20 rfl rfl ?_
  refine y_iald (q0 := 1) (j := 2) (v := (ar S 0 2)) b (mw_1 cy a S) (by decide) rfl dX12_packs_21 ?_
  refine z_eqi h_a_0_2 ?_
  refine z_i2l (v := 0) b dX12_packs_22 (by decide) ?_
  refine z_lor (v := 939548672) b dX12_packs_23 (by decide) ?_
  refine z_lstore_n (lv' := [(1, .long 939548672), (3, .int 2), (4, .int 2), (0, .ref (a 0))]) b dX12_packs_24 rfl (by decide) rfl ?_
  refine z_lload_n b dX12_packs_25 rfl rfl ?_
  refine z_iconst (v := 2) b dX12_packs_26 (by decide) ?_
  refine z_lshl (v := 3758194688) b dX12_packs_27 (by decide) ?_
  refine z_aload_n b dX12_packs_28 rfl rfl ?_
  refine z_get (q0 := 0) (k9 := 2) (v := .ref (a 3)) b (mw_0 cy a S) rfl in_X12 (by decide) wf_X12_20 rfl dX12_packs_29 ?_
  refine z_iload_n b dX12_packs_32 rfl rfl ?_
  refine y_iald (q0 := 3) (j := 2) (v := (ar S 2 2)) b (mw_3 cy a S) (by decide) rfl dX12_packs_33 ?_
  refine z_eqi h_a_2_2 ?_
  refine z_i2l (v := 3) b dX12_packs_34 (by decide) ?_
  refine z_lor (v := 3758194691) b dX12_packs_35 (by decide) ?_
  exact k

set_option maxHeartbeats 4000000 in
set_option maxRecDepth 100000 in
theorem c_X12_packs_15 {l : Launch} {D : va_G} {cy : Nat → ClassId} {T0 tB tE : Nat} {a : Nat → Nat} (S : GS)  (h_i_0 : fi S 0 = 0) (h_a_0_0 : ar S 0 0 = 0) (h_a_2_0 : ar S 2 0 = 3) (h_a_3_1 : ar S 3 1 = 1) (h_a_1_1 : ar S 1 1 = 0) (h_a_4_1 : ar S 4 1 = 0) (h_a_1_2 : ar S 1 2 = 0) (h_a_4_2 : ar S 4 2 = 0) (h_a_0_1 : ar S 0 1 = 0) (h_a_2_1 : ar S 2 1 = 3) (h_a_3_5 : ar S 3 5 = 0) (h_a_1_5 : ar S 1 5 = 0) (h_a_4_5 : ar S 4 5 = 0) (h_a_1_3 : ar S 1 3 = 0) (h_a_4_3 : ar S 4 3 = 0) (h_a_0_2 : ar S 0 2 = 0) (h_a_2_2 : ar S 2 2 = 3) (h_a_3_6 : ar S 3 6 = 0) (h_a_1_6 : ar S 1 6 = 0) (h_a_4_6 : ar S 4 6 = 0) (h_a_1_7 : ar S 1 7 = 0) (h_a_4_7 : ar S 4 7 = 0) : Ct l D cy T0 tB tE yX12_packs cX12_packs 5 (some .long) 1 21 0 0 (mw cy a S) [.ref (a 0)] (QL D (U := GS) (fun r u => 1924195681792 = r ∧ S = u) (mw cy a)) := by
  refine Ct.ofZ RX12 "packs" [(0, .ref (a 0))] rfl rfl rfl rfl (Nat.le_of_ble_eq_true rfl) ?_
  intro p e R s m args below meth c A b
  refine ch_X12_packs_32 S  h_a_0_0 h_a_1_1 h_a_1_2 h_a_2_0 h_a_3_1 h_a_4_1 h_a_4_2 h_i_0  b ?_
  refine ch_X12_packs_33 S  h_a_0_1 h_a_0_2 h_a_1_3 h_a_1_5 h_a_2_1 h_a_2_2 h_a_3_5 h_a_4_3 h_a_4_5  b ?_
  refine z_lstore_n (lv' := [(1, .long 3758194691), (3, .int 2), (4, .int 2), (0, .ref (a 0))]) b dX12_packs_36 rfl (by decide) rfl ?_
  refine z_lload_n b dX12_packs_37 rfl rfl ?_
  refine z_iconst (v := 1) b dX12_packs_38 (by decide) ?_
  refine z_lshl (v := 7516389382) b dX12_packs_39 (by decide) ?_
  refine z_aload_n b dX12_packs_40 rfl rfl ?_
  refine z_get (q0 := 0) (k9 := 3) (v := .ref (a 4)) b (mw_0 cy a S) rfl in_X12 (by decide) wf_X12_23 rfl dX12_packs_41 ?_
  refine z_iconst (v := 3) b dX12_packs_44 (by decide) ?_
  refine z_iload_n b dX12_packs_45 rfl rfl ?_
  refine z_imul (v := 6) b dX12_packs_46 (by decide) ?_
  refine z_iload_n b dX12_packs_47 rfl rfl ?_
  refine z_iconst (v := 0) b dX12_packs_48 (by decide) ?_
  refine z_calli b (z_runS (As := [.int 2, .int 0]) (st := [.int 6, .ref (a 4), .long 7516389382]) b (c_X12_other_2 S ) cf_X12_other wm_X12_160 ws_X12_other dX12_packs_49 rfl (Nat.le_of_ble_eq_true rfl) ⟨by decide, by decide, by decide, by decide⟩) (fun r2203 u2204 h2202 => ?_)
  obtain ⟨rfl, rfl⟩ := h2202
  refine z_iadd (v := 6) b dX12_packs_52 (by decide) ?_
  refine y_zald (q0 := 4) (j := 6) (v := (ar S 3 6)) b (mw_4 cy a S) (by decide) rfl dX12_packs_53 ?_
  refine z_eqi h_a_3_6 ?_
  refine z_if_eq_t (tgt := 61) b dX12_packs_54 (by decide) (by decide) ?_
  refine z_lconst (v := 0) b dX12_packs_61 (by decide) ?_
  refine z_lor (v := 7516389382) b dX12_packs_62 (by decide) ?_
  refine z_lstore_n (lv' := [(1, .long 7516389382), (3, .int 2), (4, .int 2), (0, .ref (a 0))]) b dX12_packs_63 rfl (by decide) rfl ?_
  refine z_iconst (v := 0) b dX12_packs_64 (by decide) ?_
  refine z_istore (lv' := [(4, .int 0), (1, .long 7516389382), (3, .int 2), (0, .ref (a 0))]) b dX12_packs_65 (by decide) rfl ?_
  refine z_iload b dX12_packs_67 rfl ?_
  refine z_iconst (v := 2) b dX12_packs_69 (by decide) ?_
  refine z_icmp_ge_f (tgt := 128) b dX12_packs_70 (by decide) (by decide) ?_
  refine z_lload_n b dX12_packs_73 rfl rfl ?_
  refine z_iconst (v := 3) b dX12_packs_74 (by decide) ?_
  refine z_lshl (v := 60131115056) b dX12_packs_75 (by decide) ?_
  refine z_aload_n b dX12_packs_76 rfl rfl ?_
  refine z_get (q0 := 0) (k9 := 1) (v := .ref (a 2)) b (mw_0 cy a S) rfl in_X12 (by decide) wf_X12_17 rfl dX12_packs_77 ?_
  refine z_iconst (v := 3) b dX12_packs_80 (by decide) ?_
  refine z_iload_n b dX12_packs_81 rfl rfl ?_
  refine z_imul (v := 6) b dX12_packs_82 (by decide) ?_
  refine z_iload_n b dX12_packs_83 rfl rfl ?_
  refine z_iload b dX12_packs_84 rfl ?_
  refine z_calli b (z_runS (As := [.int 2, .int 0]) (st := [.int 6, .ref (a 2), .long 60131115056]) b (c_X12_other_2 S ) cf_X12_other wm_X12_160 ws_X12_other dX12_packs_86 rfl (Nat.le_of_ble_eq_true rfl) ⟨by decide, by decide, by decide, by decide⟩) (fun r2206 u2207 h2205 => ?_)
  obtain ⟨rfl, rfl⟩ := h2205
  refine z_iadd (v := 6) b dX12_packs_89 (by decide) ?_
  refine y_iald (q0 := 2) (j := 6) (v := (ar S 1 6)) b (mw_2 cy a S) (by decide) rfl dX12_packs_90 ?_
  refine z_eqi h_a_1_6 ?_
  refine z_i2l (v := 0) b dX12_packs_91 (by decide) ?_
  refine z_lor (v := 60131115056) b dX12_packs_92 (by decide) ?_
  refine z_lstore_n (lv' := [(1, .long 60131115056), (4, .int 0), (3, .int 2), (0, .ref (a 0))]) b dX12_packs_93 rfl (by decide) rfl ?_
  refine z_lload_n b dX12_packs_94 rfl rfl ?_
  refine z_iconst (v := 1) b dX12_packs_95 (by decide) ?_
  refine z_lshl (v := 120262230112) b dX12_packs_96 (by decide) ?_
  refine z_aload_n b dX12_packs_97 rfl rfl ?_
  refine z_get (q0 := 0) (k9 := 4) (v := .ref (a 5)) b (mw_0 cy a S) rfl in_X12 (by decide) wf_X12_27 rfl dX12_packs_98 ?_
  refine z_iconst (v := 3) b dX12_packs_101 (by decide) ?_
  refine z_iload_n b dX12_packs_102 rfl rfl ?_
  refine z_imul (v := 6) b dX12_packs_103 (by decide) ?_
  refine z_iload_n b dX12_packs_104 rfl rfl ?_
  refine z_iload b dX12_packs_105 rfl ?_
  refine z_calli b (z_runS (As := [.int 2, .int 0]) (st := [.int 6, .ref (a 5), .long 120262230112]) b (c_X12_other_2 S ) cf_X12_other wm_X12_160 ws_X12_other dX12_packs_107 rfl (Nat.le_of_ble_eq_true rfl) ⟨by decide, by decide, by decide, by decide⟩) (fun r2209 u2210 h2208 => ?_)
  obtain ⟨rfl, rfl⟩ := h2208
  refine z_iadd (v := 6) b dX12_packs_110 (by decide) ?_
  refine y_zald (q0 := 5) (j := 6) (v := (ar S 4 6)) b (mw_5 cy a S) (by decide) rfl dX12_packs_111 ?_
  refine z_eqi h_a_4_6 ?_
  refine z_if_eq_t (tgt := 119) b dX12_packs_112 (by decide) (by decide) ?_
  refine z_lconst (v := 0) b dX12_packs_119 (by decide) ?_
  refine z_lor (v := 120262230112) b dX12_packs_120 (by decide) ?_
  refine z_lstore_n (lv' := [(1, .long 120262230112), (4, .int 0), (3, .int 2), (0, .ref (a 0))]) b dX12_packs_121 rfl (by decide) rfl ?_
  refine z_iinc (k9 := 1) (v := 1) (lv' := [(4, .int 1), (1, .long 120262230112), (3, .int 2), (0, .ref (a 0))]) b dX12_packs_122 rfl (by decide) (by decide) rfl ?_
  refine z_goto (tgt := 67) b dX12_packs_125 (by decide) ?_
  refine z_iload b dX12_packs_67 rfl ?_
  refine z_iconst (v := 2) b dX12_packs_69 (by decide) ?_
  refine z_icmp_ge_f (tgt := 128) b dX12_packs_70 (by decide) (by decide) ?_
  refine z_lload_n b dX12_packs_73 rfl rfl ?_
  refine z_iconst (v := 3) b dX12_packs_74 (by decide) ?_
  refine z_lshl (v := 962097840896) b dX12_packs_75 (by decide) ?_
  refine z_aload_n b dX12_packs_76 rfl rfl ?_
  refine z_get (q0 := 0) (k9 := 1) (v := .ref (a 2)) b (mw_0 cy a S) rfl in_X12 (by decide) wf_X12_17 rfl dX12_packs_77 ?_
  refine z_iconst (v := 3) b dX12_packs_80 (by decide) ?_
  refine z_iload_n b dX12_packs_81 rfl rfl ?_
  refine z_imul (v := 6) b dX12_packs_82 (by decide) ?_
  refine z_iload_n b dX12_packs_83 rfl rfl ?_
  refine z_iload b dX12_packs_84 rfl ?_
  refine z_calli b (z_runS (As := [.int 2, .int 1]) (st := [.int 6, .ref (a 2), .long 962097840896]) b (c_X12_other S ) cf_X12_other wm_X12_160 ws_X12_other dX12_packs_86 rfl (Nat.le_of_ble_eq_true rfl) ⟨by decide, by decide, by decide, by decide⟩) (fun r2212 u2213 h2211 => ?_)
  obtain ⟨rfl, rfl⟩ := h2211
  refine z_iadd (v := 7) b dX12_packs_89 (by decide) ?_
  refine y_iald (q0 := 2) (j := 7) (v := (ar S 1 7)) b (mw_2 cy a S) (by decide) rfl dX12_packs_90 ?_
  refine z_eqi h_a_1_7 ?_
  refine z_i2l (v := 0) b dX12_packs_91 (by decide) ?_
  refine z_lor (v := 962097840896) b dX12_packs_92 (by decide) ?_
  refine z_lstore_n (lv' := [(1, .long 962097840896), (4, .int 1), (3, .int 2), (0, .ref (a 0))]) b dX12_packs_93 rfl (by decide) rfl ?_
  refine z_lload_n b dX12_packs_94 rfl rfl ?_
  refine z_iconst (v := 1) b dX12_packs_95 (by decide) ?_
  refine z_lshl (v := 1924195681792) b dX12_packs_96 (by decide) ?_
  refine z_aload_n b dX12_packs_97 rfl rfl ?_
  refine z_get (q0 := 0) (k9 := 4) (v := .ref (a 5)) b (mw_0 cy a S) rfl in_X12 (by decide) wf_X12_27 rfl dX12_packs_98 ?_
  refine z_iconst (v := 3) b dX12_packs_101 (by decide) ?_
  refine z_iload_n b dX12_packs_102 rfl rfl ?_
  refine z_imul (v := 6) b dX12_packs_103 (by decide) ?_
  refine z_iload_n b dX12_packs_104 rfl rfl ?_
  refine z_iload b dX12_packs_105 rfl ?_
  refine z_calli b (z_runS (As := [.int 2, .int 1]) (st := [.int 6, .ref (a 5), .long 1924195681792]) b (c_X12_other S ) cf_X12_other wm_X12_160 ws_X12_other dX12_packs_107 rfl (Nat.le_of_ble_eq_true rfl) ⟨by decide, by decide, by decide, by decide⟩) (fun r2215 u2216 h2214 => ?_)
  obtain ⟨rfl, rfl⟩ := h2214
  refine z_iadd (v := 7) b dX12_packs_110 (by decide) ?_
  refine y_zald (q0 := 5) (j := 7) (v := (ar S 4 7)) b (mw_5 cy a S) (by decide) rfl dX12_packs_111 ?_
  refine z_eqi h_a_4_7 ?_
  refine z_if_eq_t (tgt := 119) b dX12_packs_112 (by decide) (by decide) ?_
  refine z_lconst (v := 0) b dX12_packs_119 (by decide) ?_
  refine z_lor (v := 1924195681792) b dX12_packs_120 (by decide) ?_
  refine z_lstore_n (lv' := [(1, .long 1924195681792), (4, .int 1), (3, .int 2), (0, .ref (a 0))]) b dX12_packs_121 rfl (by decide) rfl ?_
  refine z_iinc (k9 := 1) (v := 2) (lv' := [(4, .int 2), (1, .long 1924195681792), (3, .int 2), (0, .ref (a 0))]) b dX12_packs_122 rfl (by decide) (by decide) rfl ?_
  refine z_goto (tgt := 67) b dX12_packs_125 (by decide) ?_
  refine z_iload b dX12_packs_67 rfl ?_
  refine z_iconst (v := 2) b dX12_packs_69 (by decide) ?_
  refine z_icmp_ge_t (tgt := 128) b dX12_packs_70 (by decide) (by decide) ?_
  refine z_iinc (k9 := 2) (v := 3) (lv' := [(3, .int 3), (4, .int 2), (1, .long 1924195681792), (0, .ref (a 0))]) b dX12_packs_128 rfl (by decide) (by decide) rfl ?_
  refine z_goto (tgt := 8) b dX12_packs_131 (by decide) ?_
  refine z_iload_n b dX12_packs_8 rfl rfl ?_
  refine z_iconst (v := 3) b dX12_packs_9 (by decide) ?_
  refine z_icmp_ge_t (tgt := 134) b dX12_packs_10 (by decide) (by decide) ?_
  refine z_lload_n b dX12_packs_134 rfl rfl ?_
  exact z_lret (u := S) b rfl dX12_packs_135 ⟨rfl, rfl⟩ rfl (by decide) (by decide)

set_option maxHeartbeats 4000000 in
set_option maxRecDepth 100000 in
theorem c_X12_told_15 {l : Launch} {D : va_G} {cy : Nat → ClassId} {T0 tB tE : Nat} {a : Nat → Nat} (S : GS)  (h_i_0 : fi S 0 = 0) (h_a_0_0 : ar S 0 0 = 0) (h_a_2_0 : ar S 2 0 = 3) (h_a_3_1 : ar S 3 1 = 1) (h_a_1_1 : ar S 1 1 = 0) (h_a_4_1 : ar S 4 1 = 0) (h_a_1_2 : ar S 1 2 = 0) (h_a_4_2 : ar S 4 2 = 0) (h_a_0_1 : ar S 0 1 = 0) (h_a_2_1 : ar S 2 1 = 3) (h_a_3_5 : ar S 3 5 = 0) (h_a_1_5 : ar S 1 5 = 0) (h_a_4_5 : ar S 4 5 = 0) (h_a_1_3 : ar S 1 3 = 0) (h_a_4_3 : ar S 4 3 = 0) (h_a_0_2 : ar S 0 2 = 0) (h_a_2_2 : ar S 2 2 = 3) (h_a_3_6 : ar S 3 6 = 0) (h_a_1_6 : ar S 1 6 = 0) (h_a_4_6 : ar S 4 6 = 0) (h_a_1_7 : ar S 1 7 = 0) (h_a_4_7 : ar S 4 7 = 0) : Ct l D cy T0 tB tE yX12_told cX12_told 1 (some .boolean) 2 45 0 0 (mw cy a S) [.ref (a 0)] (QI D (U := GS) (fun r u => 1 = r ∧ sl S 0 1924195681792 = u) (mw cy a)) := by
  refine Ct.ofZ RX12 "told" [(0, .ref (a 0))] rfl rfl rfl rfl (Nat.le_of_ble_eq_true rfl) ?_
  intro p e R s m args below meth c A b
  refine z_aload_n b dX12_told_0 rfl rfl ?_
  refine z_aload_n b dX12_told_1 rfl rfl ?_
  refine z_calll b (z_runV (q0 := 0) (As := []) (st := [.ref (a 0)]) b (c_X12_packs_15 S h_i_0 h_a_0_0 h_a_2_0 h_a_3_1 h_a_1_1 h_a_4_1 h_a_1_2 h_a_4_2 h_a_0_1 h_a_2_1 h_a_3_5 h_a_1_5 h_a_4_5 h_a_1_3 h_a_4_3 h_a_0_2 h_a_2_2 h_a_3_6 h_a_1_6 h_a_4_6 h_a_1_7 h_a_4_7) cf_X12_packs (mw_0 cy a S) rfl wm_X12_149 wi_X12_packs ws_X12_packs dX12_told_2 rfl (Nat.le_of_ble_eq_true rfl) ⟨by decide, by decide, by decide, by decide⟩) (fun r2218 u2219 h2217 => ?_)
  obtain ⟨rfl, rfl⟩ := h2217
  refine z_put (q0 := 0) (k9 := 6) tyX12 b (mw_0 cy a S) rfl in_X12 tyX12_ok nmX12 (by decide) wf_X12_153 rfl rfl rfl rfl (Nat.le_of_ble_eq_true rfl) dX12_told_5 (mwp_0_6 cy a S 1924195681792) ?_
  refine z_iconst (v := 1) b dX12_told_8 (by decide) ?_
  exact z_zret (u := (sl S 0 1924195681792)) b rfl (by decide) dX12_told_9 ⟨rfl, rfl⟩ rfl (by decide) (by decide)

set_option maxHeartbeats 4000000 in
set_option maxRecDepth 100000 in
theorem c_X12_kin_26 {l : Launch} {D : va_G} {cy : Nat → ClassId} {T0 tB tE : Nat} {a : Nat → Nat} (S : GS)  (h_l_0 : fl S 0 = 1649317774848) (h_a_4_7 : ar S 4 7 = 0) (h_a_1_7 : ar S 1 7 = 0) (h_a_4_6 : ar S 4 6 = 0) (h_a_1_6 : ar S 1 6 = 0) (h_a_3_6 : ar S 3 6 = 0) (h_a_3_2 : ar S 3 2 = 0) (h_a_2_2 : ar S 2 2 = 3) (h_a_0_2 : ar S 0 2 = 0) (h_a_4_3 : ar S 4 3 = 0) (h_a_1_3 : ar S 1 3 = 0) (h_a_4_5 : ar S 4 5 = 0) (h_a_1_5 : ar S 1 5 = 0) (h_a_3_5 : ar S 3 5 = 0) (h_a_3_7 : ar S 3 7 = 0) (h_a_2_1 : ar S 2 1 = 3) (h_a_0_1 : ar S 0 1 = 0) (h_a_4_2 : ar S 4 2 = 0) (h_a_1_2 : ar S 1 2 = 0) (h_a_4_1 : ar S 4 1 = 0) (h_a_1_1 : ar S 1 1 = 0) (h_a_3_1 : ar S 3 1 = 0) (h_a_3_3 : ar S 3 3 = 0) (h_a_2_0 : ar S 2 0 = 3) (h_a_0_0 : ar S 0 0 = 0) (h_i_0 : fi S 0 = 0) : Ct l D cy T0 tB tE yX12_kin cX12_kin 5 (some .boolean) 3 65 0 0 (mw cy a S) [.ref (a 0), .int 0, .int 1, .int 0, .int 1] (QI D (U := GS) (fun r u => 1 = r ∧ sl (su (su S 3 1 1) 3 3 1) 0 1924195681792 = u) (mw cy a)) := by
  refine Ct.ofZ RX12 "kin" [(0, .ref (a 0)), (1, .int 0), (2, .int 1), (3, .int 0), (4, .int 1)] rfl rfl rfl rfl (Nat.le_of_ble_eq_true rfl) ?_
  intro p e R s m args below meth c A b
  refine z_iload_n b dX12_kin_0 rfl rfl ?_
  refine z_calli b (z_runS (As := [.int 0]) (st := []) b (c_X12_isOne_2 S ) cf_X12_isOne wm_X12_170 ws_X12_isOne dX12_kin_1 rfl (Nat.le_of_ble_eq_true rfl) ⟨by decide, by decide, by decide, by decide⟩) (fun r2161 u2162 h2160 => ?_)
  obtain ⟨rfl, rfl⟩ := h2160
  refine z_if_eq_f (tgt := 28) b dX12_kin_4 (by decide) (by decide) ?_
  refine z_iload_n b dX12_kin_7 rfl rfl ?_
  refine z_calli b (z_runS (As := [.int 1]) (st := []) b (c_X12_isOne_3 S ) cf_X12_isOne wm_X12_170 ws_X12_isOne dX12_kin_8 rfl (Nat.le_of_ble_eq_true rfl) ⟨by decide, by decide, by decide, by decide⟩) (fun r2164 u2165 h2163 => ?_)
  obtain ⟨rfl, rfl⟩ := h2163
  refine z_if_eq_f (tgt := 28) b dX12_kin_11 (by decide) (by decide) ?_
  refine z_iload_n b dX12_kin_14 rfl rfl ?_
  refine z_iload_n b dX12_kin_15 rfl rfl ?_
  refine z_icmp_eq_f (tgt := 28) b dX12_kin_16 (by decide) (by decide) ?_
  refine z_iload_n b dX12_kin_19 rfl rfl ?_
  refine z_iconst (v := 0) b dX12_kin_20 (by decide) ?_
  refine z_iconst (v := 1) b dX12_kin_21 (by decide) ?_
  refine z_calli b (z_runS (As := [.int 0, .int 0, .int 1]) (st := []) b (c_X12_isIn_9 S ) cf_X12_isIn wm_X12_1 ws_X12_isIn dX12_kin_22 rfl (Nat.le_of_ble_eq_true rfl) ⟨by decide, by decide, by decide, by decide⟩) (fun r2167 u2168 h2166 => ?_)
  obtain ⟨rfl, rfl⟩ := h2166
  refine z_if_ne_t (tgt := 30) b dX12_kin_25 (by decide) (by decide) ?_
  refine z_aload_n b dX12_kin_30 rfl rfl ?_
  refine z_aload_n b dX12_kin_31 rfl rfl ?_
  refine z_get (q0 := 0) (k9 := 6) (v := .long (fl S 0)) b (mw_0 cy a S) rfl in_X12 (by decide) wf_X12_153 rfl dX12_kin_32 ?_
  refine z_eql h_l_0 ?_
  refine z_callv b (z_runV (q0 := 0) (As := [.long 1649317774848]) (st := []) b (c_X12_takes S h_a_4_7 h_a_1_7 h_a_4_6 h_a_1_6 h_a_3_6 h_a_3_2 h_a_2_2 h_a_0_2 h_a_4_3 h_a_1_3 h_a_4_5 h_a_1_5 h_a_3_5 h_a_3_7 h_a_2_1 h_a_0_1 h_a_4_2 h_a_1_2 h_a_4_1 h_a_1_1 h_a_3_1 h_a_3_3 h_a_2_0 h_a_0_0 h_i_0) cf_X12_takes (mw_0 cy a S) rfl wm_X12_174 wi_X12_takes ws_X12_takes dX12_kin_35 rfl (Nat.le_of_ble_eq_true rfl) ⟨by decide, by decide, by decide, by decide⟩) (fun u2171 h2169 => ?_)
  obtain rfl := h2169
  refine z_iload_n b dX12_kin_38 rfl rfl ?_
  refine z_iconst (v := 1) b dX12_kin_39 (by decide) ?_
  refine z_icmp_ne_t (tgt := 58) b dX12_kin_40 (by decide) (by decide) ?_
  refine z_aload_n b dX12_kin_58 rfl rfl ?_
  refine z_get (q0 := 0) (k9 := 3) (v := .ref (a 4)) b (mw_0 cy a S) rfl in_X12 (by decide) wf_X12_23 rfl dX12_kin_59 ?_
  refine z_iconst (v := 3) b dX12_kin_62 (by decide) ?_
  refine z_iload_n b dX12_kin_63 rfl rfl ?_
  refine z_imul (v := 0) b dX12_kin_64 (by decide) ?_
  refine z_iload_n b dX12_kin_65 rfl rfl ?_
  refine z_iadd (v := 1) b dX12_kin_66 (by decide) ?_
  refine z_iload b dX12_kin_67 rfl ?_
  refine y_zast (q0 := 4) (j := 1) b (mw_4 cy a S) (by decide) (by decide) dX12_kin_69 (mwa_4 cy a S 1 1) ?_
  refine z_aload_n b dX12_kin_70 rfl rfl ?_
  refine z_get (q0 := 0) (k9 := 3) (v := .ref (a 4)) b (mw_0 cy a (su S 3 1 1)) rfl in_X12 (by decide) wf_X12_23 rfl dX12_kin_71 ?_
  refine z_iconst (v := 3) b dX12_kin_74 (by decide) ?_
  refine z_iload_n b dX12_kin_75 rfl rfl ?_
  refine z_imul (v := 3) b dX12_kin_76 (by decide) ?_
  refine z_iload_n b dX12_kin_77 rfl rfl ?_
  refine z_iadd (v := 3) b dX12_kin_78 (by decide) ?_
  refine z_iload b dX12_kin_79 rfl ?_
  refine y_zast (q0 := 4) (j := 3) b (mw_4 cy a (su S 3 1 1)) (by decide) (by decide) dX12_kin_81 (mwa_4 cy a (su S 3 1 1) 3 1) ?_
  refine z_aload_n b dX12_kin_82 rfl rfl ?_
  refine z_calli b (z_runV (q0 := 0) (As := []) (st := []) b (c_X12_told_15 (su (su S 3 1 1) 3 3 1) h_i_0 h_a_0_0 h_a_2_0 rfl h_a_1_1 h_a_4_1 h_a_1_2 h_a_4_2 h_a_0_1 h_a_2_1 h_a_3_5 h_a_1_5 h_a_4_5 h_a_1_3 h_a_4_3 h_a_0_2 h_a_2_2 h_a_3_6 h_a_1_6 h_a_4_6 h_a_1_7 h_a_4_7) cf_X12_told (mw_0 cy a (su (su S 3 1 1) 3 3 1)) rfl wm_X12_178 wi_X12_told ws_X12_told dX12_kin_83 rfl (Nat.le_of_ble_eq_true rfl) ⟨by decide, by decide, by decide, by decide⟩) (fun r2221 u2222 h2220 => ?_)
  obtain ⟨rfl, rfl⟩ := h2220
  exact z_zret (u := (sl (su (su S 3 1 1) 3 3 1) 0 1924195681792)) b rfl (by decide) dX12_kin_86 ⟨rfl, rfl⟩ rfl (by decide) (by decide)

set_option maxHeartbeats 4000000 in
set_option maxRecDepth 100000 in
theorem c_X11_isWithin_6 {l : Launch} {D : va_G} {cy : Nat → ClassId} {T0 tB tE : Nat} {a : Nat → Nat} {rw : Nat → Option Nat} (S : GS)   : Ct l D cy T0 tB tE yX11_isWithin cX11_isWithin 2 (some .boolean) 0 0 0 0 (cw cy tE a rw S) [.int 1, .int 1] (QI D (U := GS) (fun r u => 1 = r ∧ S = u) (cw cy tE a rw)) := by
  refine Ct.ofZ RX11 "isWithin" [(0, .int 1), (1, .int 1)] rfl rfl rfl rfl (Nat.le_of_ble_eq_true rfl) ?_
  intro p e R s m args below meth c A b
  refine z_iload_n b dX11_isWithin_0 rfl rfl ?_
  refine z_if_lt_f (tgt := 13) b dX11_isWithin_1 (by decide) (by decide) ?_
  refine z_iload_n b dX11_isWithin_4 rfl rfl ?_
  refine z_iload_n b dX11_isWithin_5 rfl rfl ?_
  refine z_icmp_gt_f (tgt := 13) b dX11_isWithin_6 (by decide) (by decide) ?_
  refine z_iconst (v := 1) b dX11_isWithin_9 (by decide) ?_
  refine z_goto (tgt := 14) b dX11_isWithin_10 (by decide) ?_
  exact z_zret (u := S) b rfl (by decide) dX11_isWithin_14 ⟨rfl, rfl⟩ rfl (by decide) (by decide)

set_option maxHeartbeats 4000000 in
set_option maxRecDepth 100000 in
theorem c_X9_set_18 {l : Launch} {D : va_G} {cy : Nat → ClassId} {T0 tB tE : Nat} {a : Nat → Nat} {rw : Nat → Option Nat} (S : GS)  (h_a_4_31 : ar S 4 31 = 0) : Ct l D cy T0 tB tE yX9_set cX9_set 3 none 0 0 0 0 (cw cy tE a rw S) [.ref (a 14), .int 31, .int 0] (QV D (U := GS) (fun u => S = u) (cw cy tE a rw)) := by
  refine Ct.ofZ RX9 "set" [(0, .ref (a 14)), (1, .int 31), (2, .int 0)] rfl rfl rfl rfl (Nat.le_of_ble_eq_true rfl) ?_
  intro p e R s m args below meth c A b
  refine z_iload_n b dX9_set_0 rfl rfl ?_
  refine z_if_lt_f (tgt := 20) b dX9_set_1 (by decide) (by decide) ?_
  refine z_iload_n b dX9_set_4 rfl rfl ?_
  refine z_aload_n b dX9_set_5 rfl rfl ?_
  refine z_get (q0 := 14) (k9 := 0) (v := .ref (a 15)) b (cw_14 cy tE a rw S) rfl in_X9 (by decide) wf_X9_11 rfl dX9_set_6 ?_
  refine z_alen (q0 := 15) (t0 := 0) (v := 51) b (cw_15 cy tE a rw S) rfl rfl dX9_set_9 ?_
  refine z_icmp_ge_f (tgt := 20) b dX9_set_10 (by decide) (by decide) ?_
  refine z_aload_n b dX9_set_13 rfl rfl ?_
  refine z_get (q0 := 14) (k9 := 0) (v := .ref (a 15)) b (cw_14 cy tE a rw S) rfl in_X9 (by decide) wf_X9_11 rfl dX9_set_14 ?_
  refine z_iload_n b dX9_set_17 rfl rfl ?_
  refine z_iload_n b dX9_set_18 rfl rfl ?_
  refine y_iast (q0 := 15) (j := 31) b (cw_15 cy tE a rw S) (by decide) dX9_set_19 ((cwa_15 cy tE a rw S 31 0).trans (congrArg (cw cy tE a rw) (su_same h_a_4_31))) ?_
  exact z_vret (u := S) b rfl dX9_set_20 rfl rfl (by decide) (by decide)

set_option maxHeartbeats 4000000 in
set_option maxRecDepth 100000 in
theorem c_X11_kin_27 {l : Launch} {D : va_G} {cy : Nat → ClassId} {T0 tB tE : Nat} {a : Nat → Nat} {rw : Nat → Option Nat} (S : GS)  (h_a_4_31 : ar S 4 31 = 0) (h_i_24 : fi S 24 = 0) : Ct l D cy T0 tB tE yX11_kin cX11_kin 6 (some .boolean) 2 41 0 0 (cw cy tE a rw S) [.ref (a 0), .int 0, .int 1, .int 1, .int 0] (QI D (U := GS) (fun r u => 1 = r ∧ S = u) (cw cy tE a rw)) := by
  refine Ct.ofZ RX11 "kin" [(0, .ref (a 0)), (1, .int 0), (2, .int 1), (3, .int 1), (4, .int 0)] rfl rfl rfl rfl (Nat.le_of_ble_eq_true rfl) ?_
  intro p e R s m args below meth c A b
  refine z_iload_n b dX11_kin_0 rfl rfl ?_
  refine z_iload_n b dX11_kin_1 rfl rfl ?_
  refine z_calli b (z_runS (As := [.int 0, .int 1]) (st := []) b (c_X11_arePair_8 S ) cf_X11_arePair wm_X11_84 ws_X11_arePair dX11_kin_2 rfl (Nat.le_of_ble_eq_true rfl) ⟨by decide, by decide, by decide, by decide⟩) (fun r2224 u2225 h2223 => ?_)
  obtain ⟨rfl, rfl⟩ := h2223
  refine z_if_eq_f (tgt := 16) b dX11_kin_5 (by decide) (by decide) ?_
  refine z_iload_n b dX11_kin_8 rfl rfl ?_
  refine z_iconst (v := 1) b dX11_kin_9 (by decide) ?_
  refine z_calli b (z_runS (As := [.int 1, .int 1]) (st := []) b (c_X11_isWithin_6 S ) cf_X11_isWithin wm_X11_73 ws_X11_isWithin dX11_kin_10 rfl (Nat.le_of_ble_eq_true rfl) ⟨by decide, by decide, by decide, by decide⟩) (fun r2227 u2228 h2226 => ?_)
  obtain ⟨rfl, rfl⟩ := h2226
  refine z_if_ne_t (tgt := 18) b dX11_kin_13 (by decide) (by decide) ?_
  refine z_iload b dX11_kin_18 rfl ?_
  refine z_if_eq_t (tgt := 27) b dX11_kin_20 (by decide) (by decide) ?_
  refine z_iconst (v := 0) b dX11_kin_27 (by decide) ?_
  refine z_istore (lv' := [(5, .int 0), (0, .ref (a 0)), (1, .int 0), (2, .int 1), (3, .int 1), (4, .int 0)]) b dX11_kin_28 (by decide) rfl ?_
  refine z_iload_n b dX11_kin_30 rfl rfl ?_
  refine z_if_ne_t (tgt := 71) b dX11_kin_31 (by decide) (by decide) ?_
  refine z_aload_n b dX11_kin_71 rfl rfl ?_
  refine z_get (q0 := 0) (k9 := 4) (v := .ref (a 14)) b (cw_0 cy tE a rw S) rfl in_X11 (by decide) wf_X11_34 rfl dX11_kin_72 ?_
  refine z_bipush (v := 30) b dX11_kin_75 (by decide) ?_
  refine z_iconst (v := 3) b dX11_kin_77 (by decide) ?_
  refine z_iload_n b dX11_kin_78 rfl rfl ?_
  refine z_imul (v := 0) b dX11_kin_79 (by decide) ?_
  refine z_iadd (v := 30) b dX11_kin_80 (by decide) ?_
  refine z_iload_n b dX11_kin_81 rfl rfl ?_
  refine z_iadd (v := 31) b dX11_kin_82 (by decide) ?_
  refine z_iload b dX11_kin_83 rfl ?_
  refine z_callv b (z_runV (q0 := 14) (As := [.int 31, .int 0]) (st := []) b (c_X9_set_18 S h_a_4_31) cf_X9_set (cw_14 cy tE a rw S) rfl wm_X11_77 wi_X9_set ws_X9_set dX11_kin_85 rfl (Nat.le_of_ble_eq_true rfl) ⟨by decide, by decide, by decide, by decide⟩) (fun u2231 h2229 => ?_)
  obtain rfl := h2229
  refine z_aload_n b dX11_kin_88 rfl rfl ?_
  refine z_get (q0 := 0) (k9 := 6) (v := .ref (a 25)) b (cw_0 cy tE a rw S) rfl in_X11 (by decide) wf_X11_52 rfl dX11_kin_89 ?_
  refine z_callv b (z_runV (q0 := 25) (As := []) (st := []) b (c_X8_forget S h_i_24) cf_X8_forget (cw_25 cy tE a rw S) rfl wm_X11_81 wi_X8_forget ws_X8_forget dX11_kin_92 rfl (Nat.le_of_ble_eq_true rfl) ⟨by decide, by decide, by decide, by decide⟩) (fun u2234 h2232 => ?_)
  obtain rfl := h2232
  refine z_iconst (v := 1) b dX11_kin_95 (by decide) ?_
  exact z_zret (u := S) b rfl (by decide) dX11_kin_96 ⟨rfl, rfl⟩ rfl (by decide) (by decide)

set_option maxHeartbeats 4000000 in
set_option maxRecDepth 100000 in
theorem c_X12_isIn_10 {l : Launch} {D : va_G} {cy : Nat → ClassId} {T0 tB tE : Nat} {a : Nat → Nat} (S : GS)   : Ct l D cy T0 tB tE yX12_isIn cX12_isIn 3 (some .boolean) 0 0 0 0 (mw cy a S) [.int 1, .int 0, .int 1] (QI D (U := GS) (fun r u => 1 = r ∧ S = u) (mw cy a)) := by
  refine Ct.ofZ RX12 "isIn" [(0, .int 1), (1, .int 0), (2, .int 1)] rfl rfl rfl rfl (Nat.le_of_ble_eq_true rfl) ?_
  intro p e R s m args below meth c A b
  refine z_iload_n b dX12_isIn_0 rfl rfl ?_
  refine z_iload_n b dX12_isIn_1 rfl rfl ?_
  refine z_icmp_lt_f (tgt := 14) b dX12_isIn_2 (by decide) (by decide) ?_
  refine z_iload_n b dX12_isIn_5 rfl rfl ?_
  refine z_iload_n b dX12_isIn_6 rfl rfl ?_
  refine z_icmp_gt_f (tgt := 14) b dX12_isIn_7 (by decide) (by decide) ?_
  refine z_iconst (v := 1) b dX12_isIn_10 (by decide) ?_
  refine z_goto (tgt := 15) b dX12_isIn_11 (by decide) ?_
  exact z_zret (u := S) b rfl (by decide) dX12_isIn_15 ⟨rfl, rfl⟩ rfl (by decide) (by decide)

set_option maxHeartbeats 4000000 in
set_option maxRecDepth 100000 in
theorem c_X12_kin_27 {l : Launch} {D : va_G} {cy : Nat → ClassId} {T0 tB tE : Nat} {a : Nat → Nat} (S : GS)  (h_l_0 : fl S 0 = 1649317774848) (h_a_4_7 : ar S 4 7 = 0) (h_a_1_7 : ar S 1 7 = 0) (h_a_4_6 : ar S 4 6 = 0) (h_a_1_6 : ar S 1 6 = 0) (h_a_3_6 : ar S 3 6 = 0) (h_a_3_2 : ar S 3 2 = 0) (h_a_2_2 : ar S 2 2 = 3) (h_a_0_2 : ar S 0 2 = 0) (h_a_4_3 : ar S 4 3 = 0) (h_a_1_3 : ar S 1 3 = 0) (h_a_4_5 : ar S 4 5 = 0) (h_a_1_5 : ar S 1 5 = 0) (h_a_3_5 : ar S 3 5 = 0) (h_a_3_7 : ar S 3 7 = 0) (h_a_2_1 : ar S 2 1 = 3) (h_a_0_1 : ar S 0 1 = 0) (h_a_4_2 : ar S 4 2 = 0) (h_a_1_2 : ar S 1 2 = 0) (h_a_4_1 : ar S 4 1 = 0) (h_a_1_1 : ar S 1 1 = 0) (h_a_3_1 : ar S 3 1 = 0) (h_a_3_3 : ar S 3 3 = 0) (h_a_2_0 : ar S 2 0 = 3) (h_a_0_0 : ar S 0 0 = 0) (h_i_0 : fi S 0 = 0) : Ct l D cy T0 tB tE yX12_kin cX12_kin 5 (some .boolean) 3 65 0 0 (mw cy a S) [.ref (a 0), .int 0, .int 1, .int 1, .int 0] (QI D (U := GS) (fun r u => 1 = r ∧ S = u) (mw cy a)) := by
  refine Ct.ofZ RX12 "kin" [(0, .ref (a 0)), (1, .int 0), (2, .int 1), (3, .int 1), (4, .int 0)] rfl rfl rfl rfl (Nat.le_of_ble_eq_true rfl) ?_
  intro p e R s m args below meth c A b
  refine z_iload_n b dX12_kin_0 rfl rfl ?_
  refine z_calli b (z_runS (As := [.int 0]) (st := []) b (c_X12_isOne_2 S ) cf_X12_isOne wm_X12_170 ws_X12_isOne dX12_kin_1 rfl (Nat.le_of_ble_eq_true rfl) ⟨by decide, by decide, by decide, by decide⟩) (fun r2236 u2237 h2235 => ?_)
  obtain ⟨rfl, rfl⟩ := h2235
  refine z_if_eq_f (tgt := 28) b dX12_kin_4 (by decide) (by decide) ?_
  refine z_iload_n b dX12_kin_7 rfl rfl ?_
  refine z_calli b (z_runS (As := [.int 1]) (st := []) b (c_X12_isOne_3 S ) cf_X12_isOne wm_X12_170 ws_X12_isOne dX12_kin_8 rfl (Nat.le_of_ble_eq_true rfl) ⟨by decide, by decide, by decide, by decide⟩) (fun r2239 u2240 h2238 => ?_)
  obtain ⟨rfl, rfl⟩ := h2238
  refine z_if_eq_f (tgt := 28) b dX12_kin_11 (by decide) (by decide) ?_
  refine z_iload_n b dX12_kin_14 rfl rfl ?_
  refine z_iload_n b dX12_kin_15 rfl rfl ?_
  refine z_icmp_eq_f (tgt := 28) b dX12_kin_16 (by decide) (by decide) ?_
  refine z_iload_n b dX12_kin_19 rfl rfl ?_
  refine z_iconst (v := 0) b dX12_kin_20 (by decide) ?_
  refine z_iconst (v := 1) b dX12_kin_21 (by decide) ?_
  refine z_calli b (z_runS (As := [.int 1, .int 0, .int 1]) (st := []) b (c_X12_isIn_10 S ) cf_X12_isIn wm_X12_1 ws_X12_isIn dX12_kin_22 rfl (Nat.le_of_ble_eq_true rfl) ⟨by decide, by decide, by decide, by decide⟩) (fun r2242 u2243 h2241 => ?_)
  obtain ⟨rfl, rfl⟩ := h2241
  refine z_if_ne_t (tgt := 30) b dX12_kin_25 (by decide) (by decide) ?_
  refine z_aload_n b dX12_kin_30 rfl rfl ?_
  refine z_aload_n b dX12_kin_31 rfl rfl ?_
  refine z_get (q0 := 0) (k9 := 6) (v := .long (fl S 0)) b (mw_0 cy a S) rfl in_X12 (by decide) wf_X12_153 rfl dX12_kin_32 ?_
  refine z_eql h_l_0 ?_
  refine z_callv b (z_runV (q0 := 0) (As := [.long 1649317774848]) (st := []) b (c_X12_takes S h_a_4_7 h_a_1_7 h_a_4_6 h_a_1_6 h_a_3_6 h_a_3_2 h_a_2_2 h_a_0_2 h_a_4_3 h_a_1_3 h_a_4_5 h_a_1_5 h_a_3_5 h_a_3_7 h_a_2_1 h_a_0_1 h_a_4_2 h_a_1_2 h_a_4_1 h_a_1_1 h_a_3_1 h_a_3_3 h_a_2_0 h_a_0_0 h_i_0) cf_X12_takes (mw_0 cy a S) rfl wm_X12_174 wi_X12_takes ws_X12_takes dX12_kin_35 rfl (Nat.le_of_ble_eq_true rfl) ⟨by decide, by decide, by decide, by decide⟩) (fun u2246 h2244 => ?_)
  obtain rfl := h2244
  refine z_iload_n b dX12_kin_38 rfl rfl ?_
  refine z_iconst (v := 1) b dX12_kin_39 (by decide) ?_
  refine z_icmp_ne_f (tgt := 58) b dX12_kin_40 (by decide) (by decide) ?_
  refine z_aload_n b dX12_kin_43 rfl rfl ?_
  refine z_get (q0 := 0) (k9 := 4) (v := .ref (a 5)) b (mw_0 cy a S) rfl in_X12 (by decide) wf_X12_27 rfl dX12_kin_44 ?_
  refine z_iconst (v := 3) b dX12_kin_47 (by decide) ?_
  refine z_iload_n b dX12_kin_48 rfl rfl ?_
  refine z_imul (v := 0) b dX12_kin_49 (by decide) ?_
  refine z_iload_n b dX12_kin_50 rfl rfl ?_
  refine z_iadd (v := 1) b dX12_kin_51 (by decide) ?_
  refine z_iload b dX12_kin_52 rfl ?_
  refine y_zast (q0 := 5) (j := 1) b (mw_5 cy a S) (by decide) (by decide) dX12_kin_54 ((mwa_5 cy a S 1 0).trans (congrArg (mw cy a) (su_same h_a_4_1))) ?_
  refine z_goto (tgt := 82) b dX12_kin_55 (by decide) ?_
  refine z_aload_n b dX12_kin_82 rfl rfl ?_
  refine z_calli b (z_runV (q0 := 0) (As := []) (st := []) b (c_X12_told_14 S h_i_0 h_a_0_0 h_a_2_0 h_a_3_1 h_a_1_1 h_a_4_1 h_a_1_2 h_a_4_2 h_a_0_1 h_a_2_1 h_a_3_5 h_a_1_5 h_a_4_5 h_a_1_3 h_a_4_3 h_a_0_2 h_a_2_2 h_a_3_6 h_a_1_6 h_a_4_6 h_a_1_7 h_a_4_7 h_l_0) cf_X12_told (mw_0 cy a S) rfl wm_X12_178 wi_X12_told ws_X12_told dX12_kin_83 rfl (Nat.le_of_ble_eq_true rfl) ⟨by decide, by decide, by decide, by decide⟩) (fun r2248 u2249 h2247 => ?_)
  obtain ⟨rfl, rfl⟩ := h2247
  exact z_zret (u := S) b rfl (by decide) dX12_kin_86 ⟨rfl, rfl⟩ rfl (by decide) (by decide)

set_option maxHeartbeats 4000000 in
set_option maxRecDepth 100000 in
theorem c_X9_set_19 {l : Launch} {D : va_G} {cy : Nat → ClassId} {T0 tB tE : Nat} {a : Nat → Nat} {rw : Nat → Option Nat} (S : GS)   : Ct l D cy T0 tB tE yX9_set cX9_set 3 none 0 0 0 0 (cw cy tE a rw S) [.ref (a 14), .int 31, .int 1] (QV D (U := GS) (fun u => su S 4 31 1 = u) (cw cy tE a rw)) := by
  refine Ct.ofZ RX9 "set" [(0, .ref (a 14)), (1, .int 31), (2, .int 1)] rfl rfl rfl rfl (Nat.le_of_ble_eq_true rfl) ?_
  intro p e R s m args below meth c A b
  refine z_iload_n b dX9_set_0 rfl rfl ?_
  refine z_if_lt_f (tgt := 20) b dX9_set_1 (by decide) (by decide) ?_
  refine z_iload_n b dX9_set_4 rfl rfl ?_
  refine z_aload_n b dX9_set_5 rfl rfl ?_
  refine z_get (q0 := 14) (k9 := 0) (v := .ref (a 15)) b (cw_14 cy tE a rw S) rfl in_X9 (by decide) wf_X9_11 rfl dX9_set_6 ?_
  refine z_alen (q0 := 15) (t0 := 0) (v := 51) b (cw_15 cy tE a rw S) rfl rfl dX9_set_9 ?_
  refine z_icmp_ge_f (tgt := 20) b dX9_set_10 (by decide) (by decide) ?_
  refine z_aload_n b dX9_set_13 rfl rfl ?_
  refine z_get (q0 := 14) (k9 := 0) (v := .ref (a 15)) b (cw_14 cy tE a rw S) rfl in_X9 (by decide) wf_X9_11 rfl dX9_set_14 ?_
  refine z_iload_n b dX9_set_17 rfl rfl ?_
  refine z_iload_n b dX9_set_18 rfl rfl ?_
  refine y_iast (q0 := 15) (j := 31) b (cw_15 cy tE a rw S) (by decide) dX9_set_19 (cwa_15 cy tE a rw S 31 1) ?_
  exact z_vret (u := (su S 4 31 1)) b rfl dX9_set_20 rfl rfl (by decide) (by decide)

set_option maxHeartbeats 4000000 in
set_option maxRecDepth 100000 in
theorem c_X11_kin_28 {l : Launch} {D : va_G} {cy : Nat → ClassId} {T0 tB tE : Nat} {a : Nat → Nat} {rw : Nat → Option Nat} (S : GS)  (h_i_24 : fi S 24 = 0) : Ct l D cy T0 tB tE yX11_kin cX11_kin 6 (some .boolean) 2 41 0 0 (cw cy tE a rw S) [.ref (a 0), .int 0, .int 1, .int 1, .int 1] (QI D (U := GS) (fun r u => 1 = r ∧ (su S 4 31 1) = u) (cw cy tE a rw)) := by
  refine Ct.ofZ RX11 "kin" [(0, .ref (a 0)), (1, .int 0), (2, .int 1), (3, .int 1), (4, .int 1)] rfl rfl rfl rfl (Nat.le_of_ble_eq_true rfl) ?_
  intro p e R s m args below meth c A b
  refine z_iload_n b dX11_kin_0 rfl rfl ?_
  refine z_iload_n b dX11_kin_1 rfl rfl ?_
  refine z_calli b (z_runS (As := [.int 0, .int 1]) (st := []) b (c_X11_arePair_8 S ) cf_X11_arePair wm_X11_84 ws_X11_arePair dX11_kin_2 rfl (Nat.le_of_ble_eq_true rfl) ⟨by decide, by decide, by decide, by decide⟩) (fun r2251 u2252 h2250 => ?_)
  obtain ⟨rfl, rfl⟩ := h2250
  refine z_if_eq_f (tgt := 16) b dX11_kin_5 (by decide) (by decide) ?_
  refine z_iload_n b dX11_kin_8 rfl rfl ?_
  refine z_iconst (v := 1) b dX11_kin_9 (by decide) ?_
  refine z_calli b (z_runS (As := [.int 1, .int 1]) (st := []) b (c_X11_isWithin_6 S ) cf_X11_isWithin wm_X11_73 ws_X11_isWithin dX11_kin_10 rfl (Nat.le_of_ble_eq_true rfl) ⟨by decide, by decide, by decide, by decide⟩) (fun r2254 u2255 h2253 => ?_)
  obtain ⟨rfl, rfl⟩ := h2253
  refine z_if_ne_t (tgt := 18) b dX11_kin_13 (by decide) (by decide) ?_
  refine z_iload b dX11_kin_18 rfl ?_
  refine z_if_eq_f (tgt := 27) b dX11_kin_20 (by decide) (by decide) ?_
  refine z_iconst (v := 1) b dX11_kin_23 (by decide) ?_
  refine z_goto (tgt := 28) b dX11_kin_24 (by decide) ?_
  refine z_istore (lv' := [(5, .int 1), (0, .ref (a 0)), (1, .int 0), (2, .int 1), (3, .int 1), (4, .int 1)]) b dX11_kin_28 (by decide) rfl ?_
  refine z_iload_n b dX11_kin_30 rfl rfl ?_
  refine z_if_ne_t (tgt := 71) b dX11_kin_31 (by decide) (by decide) ?_
  refine z_aload_n b dX11_kin_71 rfl rfl ?_
  refine z_get (q0 := 0) (k9 := 4) (v := .ref (a 14)) b (cw_0 cy tE a rw S) rfl in_X11 (by decide) wf_X11_34 rfl dX11_kin_72 ?_
  refine z_bipush (v := 30) b dX11_kin_75 (by decide) ?_
  refine z_iconst (v := 3) b dX11_kin_77 (by decide) ?_
  refine z_iload_n b dX11_kin_78 rfl rfl ?_
  refine z_imul (v := 0) b dX11_kin_79 (by decide) ?_
  refine z_iadd (v := 30) b dX11_kin_80 (by decide) ?_
  refine z_iload_n b dX11_kin_81 rfl rfl ?_
  refine z_iadd (v := 31) b dX11_kin_82 (by decide) ?_
  refine z_iload b dX11_kin_83 rfl ?_
  refine z_callv b (z_runV (q0 := 14) (As := [.int 31, .int 1]) (st := []) b (c_X9_set_19 S ) cf_X9_set (cw_14 cy tE a rw S) rfl wm_X11_77 wi_X9_set ws_X9_set dX11_kin_85 rfl (Nat.le_of_ble_eq_true rfl) ⟨by decide, by decide, by decide, by decide⟩) (fun u2258 h2256 => ?_)
  obtain rfl := h2256
  refine z_aload_n b dX11_kin_88 rfl rfl ?_
  refine z_get (q0 := 0) (k9 := 6) (v := .ref (a 25)) b (cw_0 cy tE a rw (su S 4 31 1)) rfl in_X11 (by decide) wf_X11_52 rfl dX11_kin_89 ?_
  refine z_callv b (z_runV (q0 := 25) (As := []) (st := []) b (c_X8_forget (su S 4 31 1) h_i_24) cf_X8_forget (cw_25 cy tE a rw (su S 4 31 1)) rfl wm_X11_81 wi_X8_forget ws_X8_forget dX11_kin_92 rfl (Nat.le_of_ble_eq_true rfl) ⟨by decide, by decide, by decide, by decide⟩) (fun u2261 h2259 => ?_)
  obtain rfl := h2259
  refine z_iconst (v := 1) b dX11_kin_95 (by decide) ?_
  exact z_zret (u := (su S 4 31 1)) b rfl (by decide) dX11_kin_96 ⟨rfl, rfl⟩ rfl (by decide) (by decide)

set_option maxHeartbeats 4000000 in
set_option maxRecDepth 100000 in
theorem ch_X12_packs_34 {p : Program} {l : Launch} {e : Env} {R : Room} {s : State} {m : MethodId} {args : Array Value} {below : List Frame} {meth : Method} {c : Code} {D : va_G} {cy : Nat → ClassId} {T0 tB tE : Nat} {A : Nat → Prop} {Q : State → Prop} {a : Nat → Nat} (S : GS)  (h_a_0_0 : ar S 0 0 = 0) (h_a_1_1 : ar S 1 1 = 0) (h_a_1_2 : ar S 1 2 = 0) (h_a_2_0 : ar S 2 0 = 3) (h_a_3_1 : ar S 3 1 = 0) (h_a_4_1 : ar S 4 1 = 1) (h_a_4_2 : ar S 4 2 = 0) (h_i_0 : fi S 0 = 0) (b : Bz p R s m args meth c D cy T0 tB tE A 5 cX12_packs RX12 (some .long) "packs" 1 21 0 0) (k : Z p l e R s m args below meth c D A 5 Q 0 0 (mw cy a S) [(3, .int 1), (4, .int 2), (1, .long 1552), (0, .ref (a 0))] 20 [.ref (a 1), .long 24832]) : Z p l e R s m args below meth c D A 5 Q 0 0 (mw cy a S) [(0, .ref (a 0))] 0 [] := by
  refine z_aload_n b dX12_packs_0 rfl rfl ?_
  refine z_get (q0 := 0) (k9 := 5) (v := .int (fi S 0)) b (mw_0 cy a S) rfl in_X12 (by decide) wf_X12_157 rfl dX12_packs_1 ?_
  refine z_eqi h_i_0 ?_
  refine z_i2l (v := 0) b dX12_packs_4 (by decide) ?_
  refine z_lstore_n (lv' := [(1, .long 0), (0, .ref (a 0))]) b dX12_packs_5 rfl (by decide) rfl ?_
  refine z_iconst (v := 0) b dX12_packs_6 (by decide) ?_
  refine z_istore_n (lv' := [(3, .int 0), (1, .long 0), (0, .ref (a 0))]) b dX12_packs_7 rfl (by decide) rfl ?_
  refine z_iload_n b dX12_packs_8 rfl rfl ?_
  refine z_iconst (v := 3) b dX12_packs_9 (by decide) ?_
  refine z_icmp_ge_f (tgt := 134) b dX12_packs_10 (by decide) (by decide) ?_
  refine z_lload_n b dX12_packs_13 rfl rfl ?_
  refine z_iconst (v := 4) b dX12_packs_14 (by decide) ?_
  refine z_lshl (v := 0) b dX12_packs_15 (by decide) ?_
  refine z_aload_n b dX12_packs_16 rfl rfl ?_
  refine z_get (q0 := 0) (k9 := 0) (v := .ref (a 1)) b (mw_0 cy a S) rfl in_X12 (by decide) wf_X12_13 rfl dX12_packs_17 ?_
  refine z_iload_n b dX12_packs_20 rfl rfl ?_
  refine y_iald (q0 := 1) (j := 0) (v := (ar S 0 0)) b (mw_1 cy a S) (by decide) rfl dX12_packs_21 ?_
  refine z_eqi h_a_0_0 ?_
  refine z_i2l (v := 0) b dX12_packs_22 (by decide) ?_
  refine z_lor (v := 0) b dX12_packs_23 (by decide) ?_
  refine z_lstore_n (lv' := [(1, .long 0), (3, .int 0), (0, .ref (a 0))]) b dX12_packs_24 rfl (by decide) rfl ?_
  refine z_lload_n b dX12_packs_25 rfl rfl ?_
  refine z_iconst (v := 2) b dX12_packs_26 (by decide) ?_
  refine z_lshl (v := 0) b dX12_packs_27 (by decide) ?_
  refine z_aload_n b dX12_packs_28 rfl rfl ?_
  refine z_get (q0 := 0) (k9 := 2) (v := .ref (a 3)) b (mw_0 cy a S) rfl in_X12 (by decide) wf_X12_20 rfl dX12_packs_29 ?_
  refine z_iload_n b dX12_packs_32 rfl rfl ?_
  refine y_iald (q0 := 3) (j := 0) (v := (ar S 2 0)) b (mw_3 cy a S) (by decide) rfl dX12_packs_33 ?_
  refine z_eqi h_a_2_0 ?_
  refine z_i2l (v := 3) b dX12_packs_34 (by decide) ?_
  refine z_lor (v := 3) b dX12_packs_35 (by decide) ?_
  refine z_lstore_n (lv' := [(1, .long 3), (3, .int 0), (0, .ref (a 0))]) b dX12_packs_36 rfl (by decide) rfl ?_
  refine z_lload_n b dX12_packs_37 rfl rfl ?_
  refine z_iconst (v := 1) b dX12_packs_38 (by decide) ?_
  refine z_lshl (v := 6) b dX12_packs_39 (by decide) ?_
  refine z_aload_n b dX12_packs_40 rfl rfl ?_
  refine z_get (q0 := 0) (k9 := 3) (v := .ref (a 4)) b (mw_0 cy a S) rfl in_X12 (by decide) wf_X12_23 rfl dX12_packs_41 ?_
  refine z_iconst (v := 3) b dX12_packs_44 (by decide) ?_
  refine z_iload_n b dX12_packs_45 rfl rfl ?_
  refine z_imul (v := 0) b dX12_packs_46 (by decide) ?_
  refine z_iload_n b dX12_packs_47 rfl rfl ?_
  refine z_iconst (v := 0) b dX12_packs_48 (by decide) ?_
  refine z_calli b (z_runS (As := [.int 0, .int 0]) (st := [.int 0, .ref (a 4), .long 6]) b (c_X12_other_6 S ) cf_X12_other wm_X12_160 ws_X12_other dX12_packs_49 rfl (Nat.le_of_ble_eq_true rfl) ⟨by decide, by decide, by decide, by decide⟩) (fun r2275 u2276 h2274 => ?_)
  obtain ⟨rfl, rfl⟩ := h2274
  refine z_iadd (v := 1) b dX12_packs_52 (by decide) ?_
  refine y_zald (q0 := 4) (j := 1) (v := (ar S 3 1)) b (mw_4 cy a S) (by decide) rfl dX12_packs_53 ?_
  refine z_eqi h_a_3_1 ?_
  refine z_if_eq_t (tgt := 61) b dX12_packs_54 (by decide) (by decide) ?_
  refine z_lconst (v := 0) b dX12_packs_61 (by decide) ?_
  refine z_lor (v := 6) b dX12_packs_62 (by decide) ?_
  refine z_lstore_n (lv' := [(1, .long 6), (3, .int 0), (0, .ref (a 0))]) b dX12_packs_63 rfl (by decide) rfl ?_
  refine z_iconst (v := 0) b dX12_packs_64 (by decide) ?_
  refine z_istore (lv' := [(4, .int 0), (1, .long 6), (3, .int 0), (0, .ref (a 0))]) b dX12_packs_65 (by decide) rfl ?_
  refine z_iload b dX12_packs_67 rfl ?_
  refine z_iconst (v := 2) b dX12_packs_69 (by decide) ?_
  refine z_icmp_ge_f (tgt := 128) b dX12_packs_70 (by decide) (by decide) ?_
  refine z_lload_n b dX12_packs_73 rfl rfl ?_
  refine z_iconst (v := 3) b dX12_packs_74 (by decide) ?_
  refine z_lshl (v := 48) b dX12_packs_75 (by decide) ?_
  refine z_aload_n b dX12_packs_76 rfl rfl ?_
  refine z_get (q0 := 0) (k9 := 1) (v := .ref (a 2)) b (mw_0 cy a S) rfl in_X12 (by decide) wf_X12_17 rfl dX12_packs_77 ?_
  refine z_iconst (v := 3) b dX12_packs_80 (by decide) ?_
  refine z_iload_n b dX12_packs_81 rfl rfl ?_
  refine z_imul (v := 0) b dX12_packs_82 (by decide) ?_
  refine z_iload_n b dX12_packs_83 rfl rfl ?_
  refine z_iload b dX12_packs_84 rfl ?_
  refine z_calli b (z_runS (As := [.int 0, .int 0]) (st := [.int 0, .ref (a 2), .long 48]) b (c_X12_other_6 S ) cf_X12_other wm_X12_160 ws_X12_other dX12_packs_86 rfl (Nat.le_of_ble_eq_true rfl) ⟨by decide, by decide, by decide, by decide⟩) (fun r2278 u2279 h2277 => ?_)
  obtain ⟨rfl, rfl⟩ := h2277
  refine z_iadd (v := 1) b dX12_packs_89 (by decide) ?_
  refine y_iald (q0 := 2) (j := 1) (v := (ar S 1 1)) b (mw_2 cy a S) (by decide) rfl dX12_packs_90 ?_
  refine z_eqi h_a_1_1 ?_
  refine z_i2l (v := 0) b dX12_packs_91 (by decide) ?_
  refine z_lor (v := 48) b dX12_packs_92 (by decide) ?_
  refine z_lstore_n (lv' := [(1, .long 48), (4, .int 0), (3, .int 0), (0, .ref (a 0))]) b dX12_packs_93 rfl (by decide) rfl ?_
  refine z_lload_n b dX12_packs_94 rfl rfl ?_
  refine z_iconst (v := 1) b dX12_packs_95 (by decide) ?_
  refine z_lshl (v := 96) b dX12_packs_96 (by decide) ?_
  refine z_aload_n b dX12_packs_97 rfl rfl ?_
  refine z_get (q0 := 0) (k9 := 4) (v := .ref (a 5)) b (mw_0 cy a S) rfl in_X12 (by decide) wf_X12_27 rfl dX12_packs_98 ?_
  refine z_iconst (v := 3) b dX12_packs_101 (by decide) ?_
  refine z_iload_n b dX12_packs_102 rfl rfl ?_
  refine z_imul (v := 0) b dX12_packs_103 (by decide) ?_
  refine z_iload_n b dX12_packs_104 rfl rfl ?_
  refine z_iload b dX12_packs_105 rfl ?_
  refine z_calli b (z_runS (As := [.int 0, .int 0]) (st := [.int 0, .ref (a 5), .long 96]) b (c_X12_other_6 S ) cf_X12_other wm_X12_160 ws_X12_other dX12_packs_107 rfl (Nat.le_of_ble_eq_true rfl) ⟨by decide, by decide, by decide, by decide⟩) (fun r2281 u2282 h2280 => ?_)
  obtain ⟨rfl, rfl⟩ := h2280
  refine z_iadd (v := 1) b dX12_packs_110 (by decide) ?_
  refine y_zald (q0 := 5) (j := 1) (v := (ar S 4 1)) b (mw_5 cy a S) (by decide) rfl dX12_packs_111 ?_
  refine z_eqi h_a_4_1 ?_
  refine z_if_eq_f (tgt := 119) b dX12_packs_112 (by decide) (by decide) ?_
  refine z_lconst (v := 1) b dX12_packs_115 (by decide) ?_
  refine z_goto (tgt := 120) b dX12_packs_116 (by decide) ?_
  refine z_lor (v := 97) b dX12_packs_120 (by decide) ?_
  refine z_lstore_n (lv' := [(1, .long 97), (4, .int 0), (3, .int 0), (0, .ref (a 0))]) b dX12_packs_121 rfl (by decide) rfl ?_
  refine z_iinc (k9 := 1) (v := 1) (lv' := [(4, .int 1), (1, .long 97), (3, .int 0), (0, .ref (a 0))]) b dX12_packs_122 rfl (by decide) (by decide) rfl ?_
  refine z_goto (tgt := 67) b dX12_packs_125 (by decide) ?_
  refine z_iload b dX12_packs_67 rfl ?_
  refine z_iconst (v := 2) b dX12_packs_69 (by decide) ?_
  refine z_icmp_ge_f (tgt := 128) b dX12_packs_70 (by decide) (by decide) ?_
  refine z_lload_n b dX12_packs_73 rfl rfl ?_
  refine z_iconst (v := 3) b dX12_packs_74 (by decide) ?_
  refine z_lshl (v := 776) b dX12_packs_75 (by decide) ?_
  refine z_aload_n b dX12_packs_76 rfl rfl ?_
  refine z_get (q0 := 0) (k9 := 1) (v := .ref (a 2)) b (mw_0 cy a S) rfl in_X12 (by decide) wf_X12_17 rfl dX12_packs_77 ?_
  refine z_iconst (v := 3) b dX12_packs_80 (by decide) ?_
  refine z_iload_n b dX12_packs_81 rfl rfl ?_
  refine z_imul (v := 0) b dX12_packs_82 (by decide) ?_
  refine z_iload_n b dX12_packs_83 rfl rfl ?_
  refine z_iload b dX12_packs_84 rfl ?_
  refine z_calli b (z_runS (As := [.int 0, .int 1]) (st := [.int 0, .ref (a 2), .long 776]) b (c_X12_other_5 S ) cf_X12_other wm_X12_160 ws_X12_other dX12_packs_86 rfl (Nat.le_of_ble_eq_true rfl) ⟨by decide, by decide, by decide, by decide⟩) (fun r2284 u2285 h2283 => ?_)
  obtain ⟨rfl, rfl⟩ := h2283
  refine z_iadd (v := 2) b dX12_packs_89 (by decide) ?_
  refine y_iald (q0 := 2) (j := 2) (v := (ar S 1 2)) b (mw_2 cy a S) (by decide) rfl dX12_packs_90 ?_
  refine z_eqi h_a_1_2 ?_
  refine z_i2l (v := 0) b dX12_packs_91 (by decide) ?_
  refine z_lor (v := 776) b dX12_packs_92 (by decide) ?_
  refine z_lstore_n (lv' := [(1, .long 776), (4, .int 1), (3, .int 0), (0, .ref (a 0))]) b dX12_packs_93 rfl (by decide) rfl ?_
  refine z_lload_n b dX12_packs_94 rfl rfl ?_
  refine z_iconst (v := 1) b dX12_packs_95 (by decide) ?_
  refine z_lshl (v := 1552) b dX12_packs_96 (by decide) ?_
  refine z_aload_n b dX12_packs_97 rfl rfl ?_
  refine z_get (q0 := 0) (k9 := 4) (v := .ref (a 5)) b (mw_0 cy a S) rfl in_X12 (by decide) wf_X12_27 rfl dX12_packs_98 ?_
  refine z_iconst (v := 3) b dX12_packs_101 (by decide) ?_
  refine z_iload_n b dX12_packs_102 rfl rfl ?_
  refine z_imul (v := 0) b dX12_packs_103 (by decide) ?_
  refine z_iload_n b dX12_packs_104 rfl rfl ?_
  refine z_iload b dX12_packs_105 rfl ?_
  refine z_calli b (z_runS (As := [.int 0, .int 1]) (st := [.int 0, .ref (a 5), .long 1552]) b (c_X12_other_5 S ) cf_X12_other wm_X12_160 ws_X12_other dX12_packs_107 rfl (Nat.le_of_ble_eq_true rfl) ⟨by decide, by decide, by decide, by decide⟩) (fun r2287 u2288 h2286 => ?_)
  obtain ⟨rfl, rfl⟩ := h2286
  refine z_iadd (v := 2) b dX12_packs_110 (by decide) ?_
  refine y_zald (q0 := 5) (j := 2) (v := (ar S 4 2)) b (mw_5 cy a S) (by decide) rfl dX12_packs_111 ?_
  refine z_eqi h_a_4_2 ?_
  refine z_if_eq_t (tgt := 119) b dX12_packs_112 (by decide) (by decide) ?_
  refine z_lconst (v := 0) b dX12_packs_119 (by decide) ?_
  refine z_lor (v := 1552) b dX12_packs_120 (by decide) ?_
  refine z_lstore_n (lv' := [(1, .long 1552), (4, .int 1), (3, .int 0), (0, .ref (a 0))]) b dX12_packs_121 rfl (by decide) rfl ?_
  refine z_iinc (k9 := 1) (v := 2) (lv' := [(4, .int 2), (1, .long 1552), (3, .int 0), (0, .ref (a 0))]) b dX12_packs_122 rfl (by decide) (by decide) rfl ?_
  refine z_goto (tgt := 67) b dX12_packs_125 (by decide) ?_
  refine z_iload b dX12_packs_67 rfl ?_
  refine z_iconst (v := 2) b dX12_packs_69 (by decide) ?_
  refine z_icmp_ge_t (tgt := 128) b dX12_packs_70 (by decide) (by decide) ?_
  refine z_iinc (k9 := 2) (v := 1) (lv' := [(3, .int 1), (4, .int 2), (1, .long 1552), (0, .ref (a 0))]) b dX12_packs_128 rfl (by decide) (by decide) rfl ?_
  refine z_goto (tgt := 8) b dX12_packs_131 (by decide) ?_
  refine z_iload_n b dX12_packs_8 rfl rfl ?_
  refine z_iconst (v := 3) b dX12_packs_9 (by decide) ?_
  refine z_icmp_ge_f (tgt := 134) b dX12_packs_10 (by decide) (by decide) ?_
  refine z_lload_n b dX12_packs_13 rfl rfl ?_
  refine z_iconst (v := 4) b dX12_packs_14 (by decide) ?_
  refine z_lshl (v := 24832) b dX12_packs_15 (by decide) ?_
  refine z_aload_n b dX12_packs_16 rfl rfl ?_
  refine z_get (q0 := 0) (k9 := 0) (v := .ref (a 1)) b (mw_0 cy a S) rfl in_X12 (by decide) wf_X12_13 rfl dX12_packs_17 ?_
  exact k

set_option maxHeartbeats 4000000 in
set_option maxRecDepth 100000 in
theorem ch_X12_packs_35 {p : Program} {l : Launch} {e : Env} {R : Room} {s : State} {m : MethodId} {args : Array Value} {below : List Frame} {meth : Method} {c : Code} {D : va_G} {cy : Nat → ClassId} {T0 tB tE : Nat} {A : Nat → Prop} {Q : State → Prop} {a : Nat → Nat} (S : GS)  (h_a_0_1 : ar S 0 1 = 0) (h_a_0_2 : ar S 0 2 = 0) (h_a_1_3 : ar S 1 3 = 0) (h_a_1_5 : ar S 1 5 = 0) (h_a_2_1 : ar S 2 1 = 3) (h_a_2_2 : ar S 2 2 = 3) (h_a_3_5 : ar S 3 5 = 0) (h_a_4_3 : ar S 4 3 = 0) (h_a_4_5 : ar S 4 5 = 0) (b : Bz p R s m args meth c D cy T0 tB tE A 5 cX12_packs RX12 (some .long) "packs" 1 21 0 0) (k : Z p l e R s m args below meth c D A 5 Q 0 0 (mw cy a S) [(1, .long 813719552), (3, .int 2), (4, .int 2), (0, .ref (a 0))] 36 [.long 3254878211]) : Z p l e R s m args below meth c D A 5 Q 0 0 (mw cy a S) [(3, .int 1), (4, .int 2), (1, .long 1552), (0, .ref (a 0))] 20 [.ref (a 1), .long 24832] := by
  refine z_iload_n b dX12_packs_20 rfl rfl ?_
  refine y_iald (q0 := 1) (j := 1) (v := (ar S 0 1)) b (mw_1 cy a S) (by decide) rfl dX12_packs_21 ?_
  refine z_eqi h_a_0_1 ?_
  refine z_i2l (v := 0) b dX12_packs_22 (by decide) ?_
  refine z_lor (v := 24832) b dX12_packs_23 (by decide) ?_
  refine z_lstore_n (lv' := [(1, .long 24832), (3, .int 1), (4, .int 2), (0, .ref (a 0))]) b dX12_packs_24 rfl (by decide) rfl ?_
  refine z_lload_n b dX12_packs_25 rfl rfl ?_
  refine z_iconst (v := 2) b dX12_packs_26 (by decide) ?_
  refine z_lshl (v := 99328) b dX12_packs_27 (by decide) ?_
  refine z_aload_n b dX12_packs_28 rfl rfl ?_
  refine z_get (q0 := 0) (k9 := 2) (v := .ref (a 3)) b (mw_0 cy a S) rfl in_X12 (by decide) wf_X12_20 rfl dX12_packs_29 ?_
  refine z_iload_n b dX12_packs_32 rfl rfl ?_
  refine y_iald (q0 := 3) (j := 1) (v := (ar S 2 1)) b (mw_3 cy a S) (by decide) rfl dX12_packs_33 ?_
  refine z_eqi h_a_2_1 ?_
  refine z_i2l (v := 3) b dX12_packs_34 (by decide) ?_
  refine z_lor (v := 99331) b dX12_packs_35 (by decide) ?_
  refine z_lstore_n (lv' := [(1, .long 99331), (3, .int 1), (4, .int 2), (0, .ref (a 0))]) b dX12_packs_36 rfl (by decide) rfl ?_
  refine z_lload_n b dX12_packs_37 rfl rfl ?_
  refine z_iconst (v := 1) b dX12_packs_38 (by decide) ?_
  refine z_lshl (v := 198662) b dX12_packs_39 (by decide) ?_
  refine z_aload_n b dX12_packs_40 rfl rfl ?_
  refine z_get (q0 := 0) (k9 := 3) (v := .ref (a 4)) b (mw_0 cy a S) rfl in_X12 (by decide) wf_X12_23 rfl dX12_packs_41 ?_
  refine z_iconst (v := 3) b dX12_packs_44 (by decide) ?_
  refine z_iload_n b dX12_packs_45 rfl rfl ?_
  refine z_imul (v := 3) b dX12_packs_46 (by decide) ?_
  refine z_iload_n b dX12_packs_47 rfl rfl ?_
  refine z_iconst (v := 0) b dX12_packs_48 (by decide) ?_
  refine z_calli b (z_runS (As := [.int 1, .int 0]) (st := [.int 3, .ref (a 4), .long 198662]) b (c_X12_other_4 S ) cf_X12_other wm_X12_160 ws_X12_other dX12_packs_49 rfl (Nat.le_of_ble_eq_true rfl) ⟨by decide, by decide, by decide, by decide⟩) (fun r2290 u2291 h2289 => ?_)
  obtain ⟨rfl, rfl⟩ := h2289
  refine z_iadd (v := 5) b dX12_packs_52 (by decide) ?_
  refine y_zald (q0 := 4) (j := 5) (v := (ar S 3 5)) b (mw_4 cy a S) (by decide) rfl dX12_packs_53 ?_
  refine z_eqi h_a_3_5 ?_
  refine z_if_eq_t (tgt := 61) b dX12_packs_54 (by decide) (by decide) ?_
  refine z_lconst (v := 0) b dX12_packs_61 (by decide) ?_
  refine z_lor (v := 198662) b dX12_packs_62 (by decide) ?_
  refine z_lstore_n (lv' := [(1, .long 198662), (3, .int 1), (4, .int 2), (0, .ref (a 0))]) b dX12_packs_63 rfl (by decide) rfl ?_
  refine z_iconst (v := 0) b dX12_packs_64 (by decide) ?_
  refine z_istore (lv' := [(4, .int 0), (1, .long 198662), (3, .int 1), (0, .ref (a 0))]) b dX12_packs_65 (by decide) rfl ?_
  refine z_iload b dX12_packs_67 rfl ?_
  refine z_iconst (v := 2) b dX12_packs_69 (by decide) ?_
  refine z_icmp_ge_f (tgt := 128) b dX12_packs_70 (by decide) (by decide) ?_
  refine z_lload_n b dX12_packs_73 rfl rfl ?_
  refine z_iconst (v := 3) b dX12_packs_74 (by decide) ?_
  refine z_lshl (v := 1589296) b dX12_packs_75 (by decide) ?_
  refine z_aload_n b dX12_packs_76 rfl rfl ?_
  refine z_get (q0 := 0) (k9 := 1) (v := .ref (a 2)) b (mw_0 cy a S) rfl in_X12 (by decide) wf_X12_17 rfl dX12_packs_77 ?_
  refine z_iconst (v := 3) b dX12_packs_80 (by decide) ?_
  refine z_iload_n b dX12_packs_81 rfl rfl ?_
  refine z_imul (v := 3) b dX12_packs_82 (by decide) ?_
  refine z_iload_n b dX12_packs_83 rfl rfl ?_
  refine z_iload b dX12_packs_84 rfl ?_
  refine z_calli b (z_runS (As := [.int 1, .int 0]) (st := [.int 3, .ref (a 2), .long 1589296]) b (c_X12_other_4 S ) cf_X12_other wm_X12_160 ws_X12_other dX12_packs_86 rfl (Nat.le_of_ble_eq_true rfl) ⟨by decide, by decide, by decide, by decide⟩) (fun r2293 u2294 h2292 => ?_)
  obtain ⟨rfl, rfl⟩ := h2292
  refine z_iadd (v := 5) b dX12_packs_89 (by decide) ?_
  refine y_iald (q0 := 2) (j := 5) (v := (ar S 1 5)) b (mw_2 cy a S) (by decide) rfl dX12_packs_90 ?_
  refine z_eqi h_a_1_5 ?_
  refine z_i2l (v := 0) b dX12_packs_91 (by decide) ?_
  refine z_lor (v := 1589296) b dX12_packs_92 (by decide) ?_
  refine z_lstore_n (lv' := [(1, .long 1589296), (4, .int 0), (3, .int 1), (0, .ref (a 0))]) b dX12_packs_93 rfl (by decide) rfl ?_
  refine z_lload_n b dX12_packs_94 rfl rfl ?_
  refine z_iconst (v := 1) b dX12_packs_95 (by decide) ?_
  refine z_lshl (v := 3178592) b dX12_packs_96 (by decide) ?_
  refine z_aload_n b dX12_packs_97 rfl rfl ?_
  refine z_get (q0 := 0) (k9 := 4) (v := .ref (a 5)) b (mw_0 cy a S) rfl in_X12 (by decide) wf_X12_27 rfl dX12_packs_98 ?_
  refine z_iconst (v := 3) b dX12_packs_101 (by decide) ?_
  refine z_iload_n b dX12_packs_102 rfl rfl ?_
  refine z_imul (v := 3) b dX12_packs_103 (by decide) ?_
  refine z_iload_n b dX12_packs_104 rfl rfl ?_
  refine z_iload b dX12_packs_105 rfl ?_
  refine z_calli b (z_runS (As := [.int 1, .int 0]) (st := [.int 3, .ref (a 5), .long 3178592]) b (c_X12_other_4 S ) cf_X12_other wm_X12_160 ws_X12_other dX12_packs_107 rfl (Nat.le_of_ble_eq_true rfl) ⟨by decide, by decide, by decide, by decide⟩) (fun r2296 u2297 h2295 => ?_)
  obtain ⟨rfl, rfl⟩ := h2295
  refine z_iadd (v := 5) b dX12_packs_110 (by decide) ?_
  refine y_zald (q0 := 5) (j := 5) (v := (ar S 4 5)) b (mw_5 cy a S) (by decide) rfl dX12_packs_111 ?_
  refine z_eqi h_a_4_5 ?_
  refine z_if_eq_t (tgt := 119) b dX12_packs_112 (by decide) (by decide) ?_
  refine z_lconst (v := 0) b dX12_packs_119 (by decide) ?_
  refine z_lor (v := 3178592) b dX12_packs_120 (by decide) ?_
  refine z_lstore_n (lv' := [(1, .long 3178592), (4, .int 0), (3, .int 1), (0, .ref (a 0))]) b dX12_packs_121 rfl (by decide) rfl ?_
  refine z_iinc (k9 := 1) (v := 1) (lv' := [(4, .int 1), (1, .long 3178592), (3, .int 1), (0, .ref (a 0))]) b dX12_packs_122 rfl (by decide) (by decide) rfl ?_
  refine z_goto (tgt := 67) b dX12_packs_125 (by decide) ?_
  refine z_iload b dX12_packs_67 rfl ?_
  refine z_iconst (v := 2) b dX12_packs_69 (by decide) ?_
  refine z_icmp_ge_f (tgt := 128) b dX12_packs_70 (by decide) (by decide) ?_
  refine z_lload_n b dX12_packs_73 rfl rfl ?_
  refine z_iconst (v := 3) b dX12_packs_74 (by decide) ?_
  refine z_lshl (v := 25428736) b dX12_packs_75 (by decide) ?_
  refine z_aload_n b dX12_packs_76 rfl rfl ?_
  refine z_get (q0 := 0) (k9 := 1) (v := .ref (a 2)) b (mw_0 cy a S) rfl in_X12 (by decide) wf_X12_17 rfl dX12_packs_77 ?_
  refine z_iconst (v := 3) b dX12_packs_80 (by decide) ?_
  refine z_iload_n b dX12_packs_81 rfl rfl ?_
  refine z_imul (v := 3) b dX12_packs_82 (by decide) ?_
  refine z_iload_n b dX12_packs_83 rfl rfl ?_
  refine z_iload b dX12_packs_84 rfl ?_
  refine z_calli b (z_runS (As := [.int 1, .int 1]) (st := [.int 3, .ref (a 2), .long 25428736]) b (c_X12_other_3 S ) cf_X12_other wm_X12_160 ws_X12_other dX12_packs_86 rfl (Nat.le_of_ble_eq_true rfl) ⟨by decide, by decide, by decide, by decide⟩) (fun r2299 u2300 h2298 => ?_)
  obtain ⟨rfl, rfl⟩ := h2298
  refine z_iadd (v := 3) b dX12_packs_89 (by decide) ?_
  refine y_iald (q0 := 2) (j := 3) (v := (ar S 1 3)) b (mw_2 cy a S) (by decide) rfl dX12_packs_90 ?_
  refine z_eqi h_a_1_3 ?_
  refine z_i2l (v := 0) b dX12_packs_91 (by decide) ?_
  refine z_lor (v := 25428736) b dX12_packs_92 (by decide) ?_
  refine z_lstore_n (lv' := [(1, .long 25428736), (4, .int 1), (3, .int 1), (0, .ref (a 0))]) b dX12_packs_93 rfl (by decide) rfl ?_
  refine z_lload_n b dX12_packs_94 rfl rfl ?_
  refine z_iconst (v := 1) b dX12_packs_95 (by decide) ?_
  refine z_lshl (v := 50857472) b dX12_packs_96 (by decide) ?_
  refine z_aload_n b dX12_packs_97 rfl rfl ?_
  refine z_get (q0 := 0) (k9 := 4) (v := .ref (a 5)) b (mw_0 cy a S) rfl in_X12 (by decide) wf_X12_27 rfl dX12_packs_98 ?_
  refine z_iconst (v := 3) b dX12_packs_101 (by decide) ?_
  refine z_iload_n b dX12_packs_102 rfl rfl ?_
  refine z_imul (v := 3) b dX12_packs_103 (by decide) ?_
  refine z_iload_n b dX12_packs_104 rfl rfl ?_
  refine z_iload b dX12_packs_105 rfl ?_
  refine z_calli b (z_runS (As := [.int 1, .int 1]) (st := [.int 3, .ref (a 5), .long 50857472]) b (c_X12_other_3 S ) cf_X12_other wm_X12_160 ws_X12_other dX12_packs_107 rfl (Nat.le_of_ble_eq_true rfl) ⟨by decide, by decide, by decide, by decide⟩) (fun r2302 u2303 h2301 => ?_)
  obtain ⟨rfl, rfl⟩ := h2301
  refine z_iadd (v := 3) b dX12_packs_110 (by decide) ?_
  refine y_zald (q0 := 5) (j := 3) (v := (ar S 4 3)) b (mw_5 cy a S) (by decide) rfl dX12_packs_111 ?_
  refine z_eqi h_a_4_3 ?_
  refine z_if_eq_t (tgt := 119) b dX12_packs_112 (by decide) (by decide) ?_
  refine z_lconst (v := 0) b dX12_packs_119 (by decide) ?_
  refine z_lor (v := 50857472) b dX12_packs_120 (by decide) ?_
  refine z_lstore_n (lv' := [(1, .long 50857472), (4, .int 1), (3, .int 1), (0, .ref (a 0))]) b dX12_packs_121 rfl (by decide) rfl ?_
  refine z_iinc (k9 := 1) (v := 2) (lv' := [(4, .int 2), (1, .long 50857472), (3, .int 1), (0, .ref (a 0))]) b dX12_packs_122 rfl (by decide) (by decide) rfl ?_
  refine z_goto (tgt := 67) b dX12_packs_125 (by decide) ?_
  refine z_iload b dX12_packs_67 rfl ?_
  refine z_iconst (v := 2) b dX12_packs_69 (by decide) ?_
  refine z_icmp_ge_t (tgt := 128) b dX12_packs_70 (by decide) (by decide) ?_
  refine z_iinc (k9 := 2) (v := 2) (lv' := [(3, .int 2), (4, .int 2), (1, .long 50857472), (0, .ref (a 0))]) b dX12_packs_128 rfl (by decide) (by decide) rfl ?_
  refine z_goto (tgt := 8) b dX12_packs_131 (by decide) ?_
  refine z_iload_n b dX12_packs_8 rfl rfl ?_
  refine z_iconst (v := 3) b dX12_packs_9 (by decide) ?_
  refine z_icmp_ge_f (tgt := 134) b dX12_packs_10 (by decide) (by decide) ?_
  refine z_lload_n b dX12_packs_13 rfl rfl ?_
  refine z_iconst (v := 4) b dX12_packs_14 (by decide) ?_
  refine z_lshl (v := 813719552) b dX12_packs_15 (by decide) ?_
  refine z_aload_n b dX12_packs_16 rfl rfl ?_
  refine z_get (q0 := 0) (k9 := 0) (v := .ref (a 1)) b (mw_0 cy a S) rfl in_X12 (by decide) wf_X12_13 rfl dX12_packs_17 ?_
  refine z_iload_n b dX12_packs_20 rfl rfl ?_
  refine y_iald (q0 := 1) (j := 2) (v := (ar S 0 2)) b (mw_1 cy a S) (by decide) rfl dX12_packs_21 ?_
  refine z_eqi h_a_0_2 ?_
  refine z_i2l (v := 0) b dX12_packs_22 (by decide) ?_
  refine z_lor (v := 813719552) b dX12_packs_23 (by decide) ?_
  refine z_lstore_n (lv' := [(1, .long 813719552), (3, .int 2), (4, .int 2), (0, .ref (a 0))]) b dX12_packs_24 rfl (by decide) rfl ?_
  refine z_lload_n b dX12_packs_25 rfl rfl ?_
  refine z_iconst (v := 2) b dX12_packs_26 (by decide) ?_
  refine z_lshl (v := 3254878208) b dX12_packs_27 (by decide) ?_
  refine z_aload_n b dX12_packs_28 rfl rfl ?_
  refine z_get (q0 := 0) (k9 := 2) (v := .ref (a 3)) b (mw_0 cy a S) rfl in_X12 (by decide) wf_X12_20 rfl dX12_packs_29 ?_
  refine z_iload_n b dX12_packs_32 rfl rfl ?_
  refine y_iald (q0 := 3) (j := 2) (v := (ar S 2 2)) b (mw_3 cy a S) (by decide) rfl dX12_packs_33 ?_
  refine z_eqi h_a_2_2 ?_
  refine z_i2l (v := 3) b dX12_packs_34 (by decide) ?_
  refine z_lor (v := 3254878211) b dX12_packs_35 (by decide) ?_
  exact k

set_option maxHeartbeats 4000000 in
set_option maxRecDepth 100000 in
theorem c_X12_packs_16 {l : Launch} {D : va_G} {cy : Nat → ClassId} {T0 tB tE : Nat} {a : Nat → Nat} (S : GS)  (h_i_0 : fi S 0 = 0) (h_a_0_0 : ar S 0 0 = 0) (h_a_2_0 : ar S 2 0 = 3) (h_a_3_1 : ar S 3 1 = 0) (h_a_1_1 : ar S 1 1 = 0) (h_a_4_1 : ar S 4 1 = 1) (h_a_1_2 : ar S 1 2 = 0) (h_a_4_2 : ar S 4 2 = 0) (h_a_0_1 : ar S 0 1 = 0) (h_a_2_1 : ar S 2 1 = 3) (h_a_3_5 : ar S 3 5 = 0) (h_a_1_5 : ar S 1 5 = 0) (h_a_4_5 : ar S 4 5 = 0) (h_a_1_3 : ar S 1 3 = 0) (h_a_4_3 : ar S 4 3 = 0) (h_a_0_2 : ar S 0 2 = 0) (h_a_2_2 : ar S 2 2 = 3) (h_a_3_6 : ar S 3 6 = 0) (h_a_1_6 : ar S 1 6 = 0) (h_a_4_6 : ar S 4 6 = 0) (h_a_1_7 : ar S 1 7 = 0) (h_a_4_7 : ar S 4 7 = 0) : Ct l D cy T0 tB tE yX12_packs cX12_packs 5 (some .long) 1 21 0 0 (mw cy a S) [.ref (a 0)] (QL D (U := GS) (fun r u => 1666497644032 = r ∧ S = u) (mw cy a)) := by
  refine Ct.ofZ RX12 "packs" [(0, .ref (a 0))] rfl rfl rfl rfl (Nat.le_of_ble_eq_true rfl) ?_
  intro p e R s m args below meth c A b
  refine ch_X12_packs_34 S  h_a_0_0 h_a_1_1 h_a_1_2 h_a_2_0 h_a_3_1 h_a_4_1 h_a_4_2 h_i_0  b ?_
  refine ch_X12_packs_35 S  h_a_0_1 h_a_0_2 h_a_1_3 h_a_1_5 h_a_2_1 h_a_2_2 h_a_3_5 h_a_4_3 h_a_4_5  b ?_
  refine z_lstore_n (lv' := [(1, .long 3254878211), (3, .int 2), (4, .int 2), (0, .ref (a 0))]) b dX12_packs_36 rfl (by decide) rfl ?_
  refine z_lload_n b dX12_packs_37 rfl rfl ?_
  refine z_iconst (v := 1) b dX12_packs_38 (by decide) ?_
  refine z_lshl (v := 6509756422) b dX12_packs_39 (by decide) ?_
  refine z_aload_n b dX12_packs_40 rfl rfl ?_
  refine z_get (q0 := 0) (k9 := 3) (v := .ref (a 4)) b (mw_0 cy a S) rfl in_X12 (by decide) wf_X12_23 rfl dX12_packs_41 ?_
  refine z_iconst (v := 3) b dX12_packs_44 (by decide) ?_
  refine z_iload_n b dX12_packs_45 rfl rfl ?_
  refine z_imul (v := 6) b dX12_packs_46 (by decide) ?_
  refine z_iload_n b dX12_packs_47 rfl rfl ?_
  refine z_iconst (v := 0) b dX12_packs_48 (by decide) ?_
  refine z_calli b (z_runS (As := [.int 2, .int 0]) (st := [.int 6, .ref (a 4), .long 6509756422]) b (c_X12_other_2 S ) cf_X12_other wm_X12_160 ws_X12_other dX12_packs_49 rfl (Nat.le_of_ble_eq_true rfl) ⟨by decide, by decide, by decide, by decide⟩) (fun r2305 u2306 h2304 => ?_)
  obtain ⟨rfl, rfl⟩ := h2304
  refine z_iadd (v := 6) b dX12_packs_52 (by decide) ?_
  refine y_zald (q0 := 4) (j := 6) (v := (ar S 3 6)) b (mw_4 cy a S) (by decide) rfl dX12_packs_53 ?_
  refine z_eqi h_a_3_6 ?_
  refine z_if_eq_t (tgt := 61) b dX12_packs_54 (by decide) (by decide) ?_
  refine z_lconst (v := 0) b dX12_packs_61 (by decide) ?_
  refine z_lor (v := 6509756422) b dX12_packs_62 (by decide) ?_
  refine z_lstore_n (lv' := [(1, .long 6509756422), (3, .int 2), (4, .int 2), (0, .ref (a 0))]) b dX12_packs_63 rfl (by decide) rfl ?_
  refine z_iconst (v := 0) b dX12_packs_64 (by decide) ?_
  refine z_istore (lv' := [(4, .int 0), (1, .long 6509756422), (3, .int 2), (0, .ref (a 0))]) b dX12_packs_65 (by decide) rfl ?_
  refine z_iload b dX12_packs_67 rfl ?_
  refine z_iconst (v := 2) b dX12_packs_69 (by decide) ?_
  refine z_icmp_ge_f (tgt := 128) b dX12_packs_70 (by decide) (by decide) ?_
  refine z_lload_n b dX12_packs_73 rfl rfl ?_
  refine z_iconst (v := 3) b dX12_packs_74 (by decide) ?_
  refine z_lshl (v := 52078051376) b dX12_packs_75 (by decide) ?_
  refine z_aload_n b dX12_packs_76 rfl rfl ?_
  refine z_get (q0 := 0) (k9 := 1) (v := .ref (a 2)) b (mw_0 cy a S) rfl in_X12 (by decide) wf_X12_17 rfl dX12_packs_77 ?_
  refine z_iconst (v := 3) b dX12_packs_80 (by decide) ?_
  refine z_iload_n b dX12_packs_81 rfl rfl ?_
  refine z_imul (v := 6) b dX12_packs_82 (by decide) ?_
  refine z_iload_n b dX12_packs_83 rfl rfl ?_
  refine z_iload b dX12_packs_84 rfl ?_
  refine z_calli b (z_runS (As := [.int 2, .int 0]) (st := [.int 6, .ref (a 2), .long 52078051376]) b (c_X12_other_2 S ) cf_X12_other wm_X12_160 ws_X12_other dX12_packs_86 rfl (Nat.le_of_ble_eq_true rfl) ⟨by decide, by decide, by decide, by decide⟩) (fun r2308 u2309 h2307 => ?_)
  obtain ⟨rfl, rfl⟩ := h2307
  refine z_iadd (v := 6) b dX12_packs_89 (by decide) ?_
  refine y_iald (q0 := 2) (j := 6) (v := (ar S 1 6)) b (mw_2 cy a S) (by decide) rfl dX12_packs_90 ?_
  refine z_eqi h_a_1_6 ?_
  refine z_i2l (v := 0) b dX12_packs_91 (by decide) ?_
  refine z_lor (v := 52078051376) b dX12_packs_92 (by decide) ?_
  refine z_lstore_n (lv' := [(1, .long 52078051376), (4, .int 0), (3, .int 2), (0, .ref (a 0))]) b dX12_packs_93 rfl (by decide) rfl ?_
  refine z_lload_n b dX12_packs_94 rfl rfl ?_
  refine z_iconst (v := 1) b dX12_packs_95 (by decide) ?_
  refine z_lshl (v := 104156102752) b dX12_packs_96 (by decide) ?_
  refine z_aload_n b dX12_packs_97 rfl rfl ?_
  refine z_get (q0 := 0) (k9 := 4) (v := .ref (a 5)) b (mw_0 cy a S) rfl in_X12 (by decide) wf_X12_27 rfl dX12_packs_98 ?_
  refine z_iconst (v := 3) b dX12_packs_101 (by decide) ?_
  refine z_iload_n b dX12_packs_102 rfl rfl ?_
  refine z_imul (v := 6) b dX12_packs_103 (by decide) ?_
  refine z_iload_n b dX12_packs_104 rfl rfl ?_
  refine z_iload b dX12_packs_105 rfl ?_
  refine z_calli b (z_runS (As := [.int 2, .int 0]) (st := [.int 6, .ref (a 5), .long 104156102752]) b (c_X12_other_2 S ) cf_X12_other wm_X12_160 ws_X12_other dX12_packs_107 rfl (Nat.le_of_ble_eq_true rfl) ⟨by decide, by decide, by decide, by decide⟩) (fun r2311 u2312 h2310 => ?_)
  obtain ⟨rfl, rfl⟩ := h2310
  refine z_iadd (v := 6) b dX12_packs_110 (by decide) ?_
  refine y_zald (q0 := 5) (j := 6) (v := (ar S 4 6)) b (mw_5 cy a S) (by decide) rfl dX12_packs_111 ?_
  refine z_eqi h_a_4_6 ?_
  refine z_if_eq_t (tgt := 119) b dX12_packs_112 (by decide) (by decide) ?_
  refine z_lconst (v := 0) b dX12_packs_119 (by decide) ?_
  refine z_lor (v := 104156102752) b dX12_packs_120 (by decide) ?_
  refine z_lstore_n (lv' := [(1, .long 104156102752), (4, .int 0), (3, .int 2), (0, .ref (a 0))]) b dX12_packs_121 rfl (by decide) rfl ?_
  refine z_iinc (k9 := 1) (v := 1) (lv' := [(4, .int 1), (1, .long 104156102752), (3, .int 2), (0, .ref (a 0))]) b dX12_packs_122 rfl (by decide) (by decide) rfl ?_
  refine z_goto (tgt := 67) b dX12_packs_125 (by decide) ?_
  refine z_iload b dX12_packs_67 rfl ?_
  refine z_iconst (v := 2) b dX12_packs_69 (by decide) ?_
  refine z_icmp_ge_f (tgt := 128) b dX12_packs_70 (by decide) (by decide) ?_
  refine z_lload_n b dX12_packs_73 rfl rfl ?_
  refine z_iconst (v := 3) b dX12_packs_74 (by decide) ?_
  refine z_lshl (v := 833248822016) b dX12_packs_75 (by decide) ?_
  refine z_aload_n b dX12_packs_76 rfl rfl ?_
  refine z_get (q0 := 0) (k9 := 1) (v := .ref (a 2)) b (mw_0 cy a S) rfl in_X12 (by decide) wf_X12_17 rfl dX12_packs_77 ?_
  refine z_iconst (v := 3) b dX12_packs_80 (by decide) ?_
  refine z_iload_n b dX12_packs_81 rfl rfl ?_
  refine z_imul (v := 6) b dX12_packs_82 (by decide) ?_
  refine z_iload_n b dX12_packs_83 rfl rfl ?_
  refine z_iload b dX12_packs_84 rfl ?_
  refine z_calli b (z_runS (As := [.int 2, .int 1]) (st := [.int 6, .ref (a 2), .long 833248822016]) b (c_X12_other S ) cf_X12_other wm_X12_160 ws_X12_other dX12_packs_86 rfl (Nat.le_of_ble_eq_true rfl) ⟨by decide, by decide, by decide, by decide⟩) (fun r2314 u2315 h2313 => ?_)
  obtain ⟨rfl, rfl⟩ := h2313
  refine z_iadd (v := 7) b dX12_packs_89 (by decide) ?_
  refine y_iald (q0 := 2) (j := 7) (v := (ar S 1 7)) b (mw_2 cy a S) (by decide) rfl dX12_packs_90 ?_
  refine z_eqi h_a_1_7 ?_
  refine z_i2l (v := 0) b dX12_packs_91 (by decide) ?_
  refine z_lor (v := 833248822016) b dX12_packs_92 (by decide) ?_
  refine z_lstore_n (lv' := [(1, .long 833248822016), (4, .int 1), (3, .int 2), (0, .ref (a 0))]) b dX12_packs_93 rfl (by decide) rfl ?_
  refine z_lload_n b dX12_packs_94 rfl rfl ?_
  refine z_iconst (v := 1) b dX12_packs_95 (by decide) ?_
  refine z_lshl (v := 1666497644032) b dX12_packs_96 (by decide) ?_
  refine z_aload_n b dX12_packs_97 rfl rfl ?_
  refine z_get (q0 := 0) (k9 := 4) (v := .ref (a 5)) b (mw_0 cy a S) rfl in_X12 (by decide) wf_X12_27 rfl dX12_packs_98 ?_
  refine z_iconst (v := 3) b dX12_packs_101 (by decide) ?_
  refine z_iload_n b dX12_packs_102 rfl rfl ?_
  refine z_imul (v := 6) b dX12_packs_103 (by decide) ?_
  refine z_iload_n b dX12_packs_104 rfl rfl ?_
  refine z_iload b dX12_packs_105 rfl ?_
  refine z_calli b (z_runS (As := [.int 2, .int 1]) (st := [.int 6, .ref (a 5), .long 1666497644032]) b (c_X12_other S ) cf_X12_other wm_X12_160 ws_X12_other dX12_packs_107 rfl (Nat.le_of_ble_eq_true rfl) ⟨by decide, by decide, by decide, by decide⟩) (fun r2317 u2318 h2316 => ?_)
  obtain ⟨rfl, rfl⟩ := h2316
  refine z_iadd (v := 7) b dX12_packs_110 (by decide) ?_
  refine y_zald (q0 := 5) (j := 7) (v := (ar S 4 7)) b (mw_5 cy a S) (by decide) rfl dX12_packs_111 ?_
  refine z_eqi h_a_4_7 ?_
  refine z_if_eq_t (tgt := 119) b dX12_packs_112 (by decide) (by decide) ?_
  refine z_lconst (v := 0) b dX12_packs_119 (by decide) ?_
  refine z_lor (v := 1666497644032) b dX12_packs_120 (by decide) ?_
  refine z_lstore_n (lv' := [(1, .long 1666497644032), (4, .int 1), (3, .int 2), (0, .ref (a 0))]) b dX12_packs_121 rfl (by decide) rfl ?_
  refine z_iinc (k9 := 1) (v := 2) (lv' := [(4, .int 2), (1, .long 1666497644032), (3, .int 2), (0, .ref (a 0))]) b dX12_packs_122 rfl (by decide) (by decide) rfl ?_
  refine z_goto (tgt := 67) b dX12_packs_125 (by decide) ?_
  refine z_iload b dX12_packs_67 rfl ?_
  refine z_iconst (v := 2) b dX12_packs_69 (by decide) ?_
  refine z_icmp_ge_t (tgt := 128) b dX12_packs_70 (by decide) (by decide) ?_
  refine z_iinc (k9 := 2) (v := 3) (lv' := [(3, .int 3), (4, .int 2), (1, .long 1666497644032), (0, .ref (a 0))]) b dX12_packs_128 rfl (by decide) (by decide) rfl ?_
  refine z_goto (tgt := 8) b dX12_packs_131 (by decide) ?_
  refine z_iload_n b dX12_packs_8 rfl rfl ?_
  refine z_iconst (v := 3) b dX12_packs_9 (by decide) ?_
  refine z_icmp_ge_t (tgt := 134) b dX12_packs_10 (by decide) (by decide) ?_
  refine z_lload_n b dX12_packs_134 rfl rfl ?_
  exact z_lret (u := S) b rfl dX12_packs_135 ⟨rfl, rfl⟩ rfl (by decide) (by decide)

set_option maxHeartbeats 4000000 in
set_option maxRecDepth 100000 in
theorem c_X12_told_16 {l : Launch} {D : va_G} {cy : Nat → ClassId} {T0 tB tE : Nat} {a : Nat → Nat} (S : GS)  (h_i_0 : fi S 0 = 0) (h_a_0_0 : ar S 0 0 = 0) (h_a_2_0 : ar S 2 0 = 3) (h_a_3_1 : ar S 3 1 = 0) (h_a_1_1 : ar S 1 1 = 0) (h_a_4_1 : ar S 4 1 = 1) (h_a_1_2 : ar S 1 2 = 0) (h_a_4_2 : ar S 4 2 = 0) (h_a_0_1 : ar S 0 1 = 0) (h_a_2_1 : ar S 2 1 = 3) (h_a_3_5 : ar S 3 5 = 0) (h_a_1_5 : ar S 1 5 = 0) (h_a_4_5 : ar S 4 5 = 0) (h_a_1_3 : ar S 1 3 = 0) (h_a_4_3 : ar S 4 3 = 0) (h_a_0_2 : ar S 0 2 = 0) (h_a_2_2 : ar S 2 2 = 3) (h_a_3_6 : ar S 3 6 = 0) (h_a_1_6 : ar S 1 6 = 0) (h_a_4_6 : ar S 4 6 = 0) (h_a_1_7 : ar S 1 7 = 0) (h_a_4_7 : ar S 4 7 = 0) : Ct l D cy T0 tB tE yX12_told cX12_told 1 (some .boolean) 2 45 0 0 (mw cy a S) [.ref (a 0)] (QI D (U := GS) (fun r u => 1 = r ∧ sl S 0 1666497644032 = u) (mw cy a)) := by
  refine Ct.ofZ RX12 "told" [(0, .ref (a 0))] rfl rfl rfl rfl (Nat.le_of_ble_eq_true rfl) ?_
  intro p e R s m args below meth c A b
  refine z_aload_n b dX12_told_0 rfl rfl ?_
  refine z_aload_n b dX12_told_1 rfl rfl ?_
  refine z_calll b (z_runV (q0 := 0) (As := []) (st := [.ref (a 0)]) b (c_X12_packs_16 S h_i_0 h_a_0_0 h_a_2_0 h_a_3_1 h_a_1_1 h_a_4_1 h_a_1_2 h_a_4_2 h_a_0_1 h_a_2_1 h_a_3_5 h_a_1_5 h_a_4_5 h_a_1_3 h_a_4_3 h_a_0_2 h_a_2_2 h_a_3_6 h_a_1_6 h_a_4_6 h_a_1_7 h_a_4_7) cf_X12_packs (mw_0 cy a S) rfl wm_X12_149 wi_X12_packs ws_X12_packs dX12_told_2 rfl (Nat.le_of_ble_eq_true rfl) ⟨by decide, by decide, by decide, by decide⟩) (fun r2320 u2321 h2319 => ?_)
  obtain ⟨rfl, rfl⟩ := h2319
  refine z_put (q0 := 0) (k9 := 6) tyX12 b (mw_0 cy a S) rfl in_X12 tyX12_ok nmX12 (by decide) wf_X12_153 rfl rfl rfl rfl (Nat.le_of_ble_eq_true rfl) dX12_told_5 (mwp_0_6 cy a S 1666497644032) ?_
  refine z_iconst (v := 1) b dX12_told_8 (by decide) ?_
  exact z_zret (u := (sl S 0 1666497644032)) b rfl (by decide) dX12_told_9 ⟨rfl, rfl⟩ rfl (by decide) (by decide)

set_option maxHeartbeats 4000000 in
set_option maxRecDepth 100000 in
theorem c_X12_kin_28 {l : Launch} {D : va_G} {cy : Nat → ClassId} {T0 tB tE : Nat} {a : Nat → Nat} (S : GS)  (h_l_0 : fl S 0 = 1649317774848) (h_a_4_7 : ar S 4 7 = 0) (h_a_1_7 : ar S 1 7 = 0) (h_a_4_6 : ar S 4 6 = 0) (h_a_1_6 : ar S 1 6 = 0) (h_a_3_6 : ar S 3 6 = 0) (h_a_3_2 : ar S 3 2 = 0) (h_a_2_2 : ar S 2 2 = 3) (h_a_0_2 : ar S 0 2 = 0) (h_a_4_3 : ar S 4 3 = 0) (h_a_1_3 : ar S 1 3 = 0) (h_a_4_5 : ar S 4 5 = 0) (h_a_1_5 : ar S 1 5 = 0) (h_a_3_5 : ar S 3 5 = 0) (h_a_3_7 : ar S 3 7 = 0) (h_a_2_1 : ar S 2 1 = 3) (h_a_0_1 : ar S 0 1 = 0) (h_a_4_2 : ar S 4 2 = 0) (h_a_1_2 : ar S 1 2 = 0) (h_a_4_1 : ar S 4 1 = 0) (h_a_1_1 : ar S 1 1 = 0) (h_a_3_1 : ar S 3 1 = 0) (h_a_3_3 : ar S 3 3 = 0) (h_a_2_0 : ar S 2 0 = 3) (h_a_0_0 : ar S 0 0 = 0) (h_i_0 : fi S 0 = 0) : Ct l D cy T0 tB tE yX12_kin cX12_kin 5 (some .boolean) 3 65 0 0 (mw cy a S) [.ref (a 0), .int 0, .int 1, .int 1, .int 1] (QI D (U := GS) (fun r u => 1 = r ∧ sl (su S 4 1 1) 0 1666497644032 = u) (mw cy a)) := by
  refine Ct.ofZ RX12 "kin" [(0, .ref (a 0)), (1, .int 0), (2, .int 1), (3, .int 1), (4, .int 1)] rfl rfl rfl rfl (Nat.le_of_ble_eq_true rfl) ?_
  intro p e R s m args below meth c A b
  refine z_iload_n b dX12_kin_0 rfl rfl ?_
  refine z_calli b (z_runS (As := [.int 0]) (st := []) b (c_X12_isOne_2 S ) cf_X12_isOne wm_X12_170 ws_X12_isOne dX12_kin_1 rfl (Nat.le_of_ble_eq_true rfl) ⟨by decide, by decide, by decide, by decide⟩) (fun r2263 u2264 h2262 => ?_)
  obtain ⟨rfl, rfl⟩ := h2262
  refine z_if_eq_f (tgt := 28) b dX12_kin_4 (by decide) (by decide) ?_
  refine z_iload_n b dX12_kin_7 rfl rfl ?_
  refine z_calli b (z_runS (As := [.int 1]) (st := []) b (c_X12_isOne_3 S ) cf_X12_isOne wm_X12_170 ws_X12_isOne dX12_kin_8 rfl (Nat.le_of_ble_eq_true rfl) ⟨by decide, by decide, by decide, by decide⟩) (fun r2266 u2267 h2265 => ?_)
  obtain ⟨rfl, rfl⟩ := h2265
  refine z_if_eq_f (tgt := 28) b dX12_kin_11 (by decide) (by decide) ?_
  refine z_iload_n b dX12_kin_14 rfl rfl ?_
  refine z_iload_n b dX12_kin_15 rfl rfl ?_
  refine z_icmp_eq_f (tgt := 28) b dX12_kin_16 (by decide) (by decide) ?_
  refine z_iload_n b dX12_kin_19 rfl rfl ?_
  refine z_iconst (v := 0) b dX12_kin_20 (by decide) ?_
  refine z_iconst (v := 1) b dX12_kin_21 (by decide) ?_
  refine z_calli b (z_runS (As := [.int 1, .int 0, .int 1]) (st := []) b (c_X12_isIn_10 S ) cf_X12_isIn wm_X12_1 ws_X12_isIn dX12_kin_22 rfl (Nat.le_of_ble_eq_true rfl) ⟨by decide, by decide, by decide, by decide⟩) (fun r2269 u2270 h2268 => ?_)
  obtain ⟨rfl, rfl⟩ := h2268
  refine z_if_ne_t (tgt := 30) b dX12_kin_25 (by decide) (by decide) ?_
  refine z_aload_n b dX12_kin_30 rfl rfl ?_
  refine z_aload_n b dX12_kin_31 rfl rfl ?_
  refine z_get (q0 := 0) (k9 := 6) (v := .long (fl S 0)) b (mw_0 cy a S) rfl in_X12 (by decide) wf_X12_153 rfl dX12_kin_32 ?_
  refine z_eql h_l_0 ?_
  refine z_callv b (z_runV (q0 := 0) (As := [.long 1649317774848]) (st := []) b (c_X12_takes S h_a_4_7 h_a_1_7 h_a_4_6 h_a_1_6 h_a_3_6 h_a_3_2 h_a_2_2 h_a_0_2 h_a_4_3 h_a_1_3 h_a_4_5 h_a_1_5 h_a_3_5 h_a_3_7 h_a_2_1 h_a_0_1 h_a_4_2 h_a_1_2 h_a_4_1 h_a_1_1 h_a_3_1 h_a_3_3 h_a_2_0 h_a_0_0 h_i_0) cf_X12_takes (mw_0 cy a S) rfl wm_X12_174 wi_X12_takes ws_X12_takes dX12_kin_35 rfl (Nat.le_of_ble_eq_true rfl) ⟨by decide, by decide, by decide, by decide⟩) (fun u2273 h2271 => ?_)
  obtain rfl := h2271
  refine z_iload_n b dX12_kin_38 rfl rfl ?_
  refine z_iconst (v := 1) b dX12_kin_39 (by decide) ?_
  refine z_icmp_ne_f (tgt := 58) b dX12_kin_40 (by decide) (by decide) ?_
  refine z_aload_n b dX12_kin_43 rfl rfl ?_
  refine z_get (q0 := 0) (k9 := 4) (v := .ref (a 5)) b (mw_0 cy a S) rfl in_X12 (by decide) wf_X12_27 rfl dX12_kin_44 ?_
  refine z_iconst (v := 3) b dX12_kin_47 (by decide) ?_
  refine z_iload_n b dX12_kin_48 rfl rfl ?_
  refine z_imul (v := 0) b dX12_kin_49 (by decide) ?_
  refine z_iload_n b dX12_kin_50 rfl rfl ?_
  refine z_iadd (v := 1) b dX12_kin_51 (by decide) ?_
  refine z_iload b dX12_kin_52 rfl ?_
  refine y_zast (q0 := 5) (j := 1) b (mw_5 cy a S) (by decide) (by decide) dX12_kin_54 (mwa_5 cy a S 1 1) ?_
  refine z_goto (tgt := 82) b dX12_kin_55 (by decide) ?_
  refine z_aload_n b dX12_kin_82 rfl rfl ?_
  refine z_calli b (z_runV (q0 := 0) (As := []) (st := []) b (c_X12_told_16 (su S 4 1 1) h_i_0 h_a_0_0 h_a_2_0 h_a_3_1 h_a_1_1 rfl h_a_1_2 h_a_4_2 h_a_0_1 h_a_2_1 h_a_3_5 h_a_1_5 h_a_4_5 h_a_1_3 h_a_4_3 h_a_0_2 h_a_2_2 h_a_3_6 h_a_1_6 h_a_4_6 h_a_1_7 h_a_4_7) cf_X12_told (mw_0 cy a (su S 4 1 1)) rfl wm_X12_178 wi_X12_told ws_X12_told dX12_kin_83 rfl (Nat.le_of_ble_eq_true rfl) ⟨by decide, by decide, by decide, by decide⟩) (fun r2323 u2324 h2322 => ?_)
  obtain ⟨rfl, rfl⟩ := h2322
  exact z_zret (u := (sl (su S 4 1 1) 0 1666497644032)) b rfl (by decide) dX12_kin_86 ⟨rfl, rfl⟩ rfl (by decide) (by decide)

set_option maxHeartbeats 4000000 in
set_option maxRecDepth 100000 in
theorem c_X11_kin_29 {l : Launch} {D : va_G} {cy : Nat → ClassId} {T0 tB tE : Nat} {a : Nat → Nat} {rw : Nat → Option Nat} (S : GS) (p0 : Int32)  (hr_p0 : 2 ≤ p0.toInt ∧ p0.toInt ≤ 2147483647) : Ct l D cy T0 tB tE yX11_kin cX11_kin 6 (some .boolean) 2 41 0 0 (cw cy tE a rw S) [.ref (a 0), .int 0, .int 1, .int p0, .int 0] (QI D (U := GS) (fun r u => 0 = r ∧ S = u) (cw cy tE a rw)) := by
  refine Ct.ofZ RX11 "kin" [(0, .ref (a 0)), (1, .int 0), (2, .int 1), (3, .int p0), (4, .int 0)] rfl rfl rfl rfl (Nat.le_of_ble_eq_true rfl) ?_
  intro p e R s m args below meth c A b
  refine z_iload_n b dX11_kin_0 rfl rfl ?_
  refine z_iload_n b dX11_kin_1 rfl rfl ?_
  refine z_calli b (z_runS (As := [.int 0, .int 1]) (st := []) b (c_X11_arePair_8 S ) cf_X11_arePair wm_X11_84 ws_X11_arePair dX11_kin_2 rfl (Nat.le_of_ble_eq_true rfl) ⟨by decide, by decide, by decide, by decide⟩) (fun r2326 u2327 h2325 => ?_)
  obtain ⟨rfl, rfl⟩ := h2325
  refine z_if_eq_f (tgt := 16) b dX11_kin_5 (by decide) (by decide) ?_
  refine z_iload_n b dX11_kin_8 rfl rfl ?_
  refine z_iconst (v := 1) b dX11_kin_9 (by decide) ?_
  refine z_calli b (z_runS (As := [.int p0, .int 1]) (st := []) b (c_X11_isWithin_4 S p0 ) cf_X11_isWithin wm_X11_73 ws_X11_isWithin dX11_kin_10 rfl (Nat.le_of_ble_eq_true rfl) ⟨by decide, by decide, by decide, by decide⟩) (fun r2329 u2330 h2328 => ?_)
  rcases h2328 with ⟨c2331, rfl, rfl⟩ | ⟨c2332, rfl, rfl⟩
  · refine z_if_ne_f (tgt := 18) b dX11_kin_13 (by decide) (by decide) ?_
    refine z_iconst (v := 0) b dX11_kin_16 (by decide) ?_
    exact z_zret (u := S) b rfl (by decide) dX11_kin_17 ⟨rfl, rfl⟩ rfl (by decide) (by decide)
  · exfalso; omega

set_option maxHeartbeats 4000000 in
set_option maxRecDepth 100000 in
theorem c_X12_kin_29 {l : Launch} {D : va_G} {cy : Nat → ClassId} {T0 tB tE : Nat} {a : Nat → Nat} (S : GS) (p0 : Int32)  (hr_p0 : 2 ≤ p0.toInt ∧ p0.toInt ≤ 2147483647) : Ct l D cy T0 tB tE yX12_kin cX12_kin 5 (some .boolean) 2 42 0 0 (mw cy a S) [.ref (a 0), .int 0, .int 1, .int p0, .int 0] (QI D (U := GS) (fun r u => 0 = r ∧ S = u) (mw cy a)) := by
  refine Ct.ofZ RX12 "kin" [(0, .ref (a 0)), (1, .int 0), (2, .int 1), (3, .int p0), (4, .int 0)] rfl rfl rfl rfl (Nat.le_of_ble_eq_true rfl) ?_
  intro p e R s m args below meth c A b
  refine z_iload_n b dX12_kin_0 rfl rfl ?_
  refine z_calli b (z_runS (As := [.int 0]) (st := []) b (c_X12_isOne_2 S ) cf_X12_isOne wm_X12_170 ws_X12_isOne dX12_kin_1 rfl (Nat.le_of_ble_eq_true rfl) ⟨by decide, by decide, by decide, by decide⟩) (fun r2334 u2335 h2333 => ?_)
  obtain ⟨rfl, rfl⟩ := h2333
  refine z_if_eq_f (tgt := 28) b dX12_kin_4 (by decide) (by decide) ?_
  refine z_iload_n b dX12_kin_7 rfl rfl ?_
  refine z_calli b (z_runS (As := [.int 1]) (st := []) b (c_X12_isOne_3 S ) cf_X12_isOne wm_X12_170 ws_X12_isOne dX12_kin_8 rfl (Nat.le_of_ble_eq_true rfl) ⟨by decide, by decide, by decide, by decide⟩) (fun r2337 u2338 h2336 => ?_)
  obtain ⟨rfl, rfl⟩ := h2336
  refine z_if_eq_f (tgt := 28) b dX12_kin_11 (by decide) (by decide) ?_
  refine z_iload_n b dX12_kin_14 rfl rfl ?_
  refine z_iload_n b dX12_kin_15 rfl rfl ?_
  refine z_icmp_eq_f (tgt := 28) b dX12_kin_16 (by decide) (by decide) ?_
  refine z_iload_n b dX12_kin_19 rfl rfl ?_
  refine z_iconst (v := 0) b dX12_kin_20 (by decide) ?_
  refine z_iconst (v := 1) b dX12_kin_21 (by decide) ?_
  refine z_calli b (z_runS (As := [.int p0, .int 0, .int 1]) (st := []) b (c_X12_isIn_8 S p0 ) cf_X12_isIn wm_X12_1 ws_X12_isIn dX12_kin_22 rfl (Nat.le_of_ble_eq_true rfl) ⟨by decide, by decide, by decide, by decide⟩) (fun r2340 u2341 h2339 => ?_)
  rcases h2339 with ⟨c2342, rfl, rfl⟩ | ⟨c2343, rfl, rfl⟩
  · refine z_if_ne_f (tgt := 30) b dX12_kin_25 (by decide) (by decide) ?_
    refine z_iconst (v := 0) b dX12_kin_28 (by decide) ?_
    exact z_zret (u := S) b rfl (by decide) dX12_kin_29 ⟨rfl, rfl⟩ rfl (by decide) (by decide)
  · exfalso; omega

set_option maxHeartbeats 4000000 in
set_option maxRecDepth 100000 in
theorem c_X11_kin_30 {l : Launch} {D : va_G} {cy : Nat → ClassId} {T0 tB tE : Nat} {a : Nat → Nat} {rw : Nat → Option Nat} (S : GS) (p0 : Int32)  (hr_p0 : 2 ≤ p0.toInt ∧ p0.toInt ≤ 2147483647) : Ct l D cy T0 tB tE yX11_kin cX11_kin 6 (some .boolean) 2 41 0 0 (cw cy tE a rw S) [.ref (a 0), .int 0, .int 1, .int p0, .int 1] (QI D (U := GS) (fun r u => 0 = r ∧ S = u) (cw cy tE a rw)) := by
  refine Ct.ofZ RX11 "kin" [(0, .ref (a 0)), (1, .int 0), (2, .int 1), (3, .int p0), (4, .int 1)] rfl rfl rfl rfl (Nat.le_of_ble_eq_true rfl) ?_
  intro p e R s m args below meth c A b
  refine z_iload_n b dX11_kin_0 rfl rfl ?_
  refine z_iload_n b dX11_kin_1 rfl rfl ?_
  refine z_calli b (z_runS (As := [.int 0, .int 1]) (st := []) b (c_X11_arePair_8 S ) cf_X11_arePair wm_X11_84 ws_X11_arePair dX11_kin_2 rfl (Nat.le_of_ble_eq_true rfl) ⟨by decide, by decide, by decide, by decide⟩) (fun r2345 u2346 h2344 => ?_)
  obtain ⟨rfl, rfl⟩ := h2344
  refine z_if_eq_f (tgt := 16) b dX11_kin_5 (by decide) (by decide) ?_
  refine z_iload_n b dX11_kin_8 rfl rfl ?_
  refine z_iconst (v := 1) b dX11_kin_9 (by decide) ?_
  refine z_calli b (z_runS (As := [.int p0, .int 1]) (st := []) b (c_X11_isWithin_4 S p0 ) cf_X11_isWithin wm_X11_73 ws_X11_isWithin dX11_kin_10 rfl (Nat.le_of_ble_eq_true rfl) ⟨by decide, by decide, by decide, by decide⟩) (fun r2348 u2349 h2347 => ?_)
  rcases h2347 with ⟨c2350, rfl, rfl⟩ | ⟨c2351, rfl, rfl⟩
  · refine z_if_ne_f (tgt := 18) b dX11_kin_13 (by decide) (by decide) ?_
    refine z_iconst (v := 0) b dX11_kin_16 (by decide) ?_
    exact z_zret (u := S) b rfl (by decide) dX11_kin_17 ⟨rfl, rfl⟩ rfl (by decide) (by decide)
  · exfalso; omega

set_option maxHeartbeats 4000000 in
set_option maxRecDepth 100000 in
theorem c_X12_kin_30 {l : Launch} {D : va_G} {cy : Nat → ClassId} {T0 tB tE : Nat} {a : Nat → Nat} (S : GS) (p0 : Int32)  (hr_p0 : 2 ≤ p0.toInt ∧ p0.toInt ≤ 2147483647) : Ct l D cy T0 tB tE yX12_kin cX12_kin 5 (some .boolean) 2 42 0 0 (mw cy a S) [.ref (a 0), .int 0, .int 1, .int p0, .int 1] (QI D (U := GS) (fun r u => 0 = r ∧ S = u) (mw cy a)) := by
  refine Ct.ofZ RX12 "kin" [(0, .ref (a 0)), (1, .int 0), (2, .int 1), (3, .int p0), (4, .int 1)] rfl rfl rfl rfl (Nat.le_of_ble_eq_true rfl) ?_
  intro p e R s m args below meth c A b
  refine z_iload_n b dX12_kin_0 rfl rfl ?_
  refine z_calli b (z_runS (As := [.int 0]) (st := []) b (c_X12_isOne_2 S ) cf_X12_isOne wm_X12_170 ws_X12_isOne dX12_kin_1 rfl (Nat.le_of_ble_eq_true rfl) ⟨by decide, by decide, by decide, by decide⟩) (fun r2353 u2354 h2352 => ?_)
  obtain ⟨rfl, rfl⟩ := h2352
  refine z_if_eq_f (tgt := 28) b dX12_kin_4 (by decide) (by decide) ?_
  refine z_iload_n b dX12_kin_7 rfl rfl ?_
  refine z_calli b (z_runS (As := [.int 1]) (st := []) b (c_X12_isOne_3 S ) cf_X12_isOne wm_X12_170 ws_X12_isOne dX12_kin_8 rfl (Nat.le_of_ble_eq_true rfl) ⟨by decide, by decide, by decide, by decide⟩) (fun r2356 u2357 h2355 => ?_)
  obtain ⟨rfl, rfl⟩ := h2355
  refine z_if_eq_f (tgt := 28) b dX12_kin_11 (by decide) (by decide) ?_
  refine z_iload_n b dX12_kin_14 rfl rfl ?_
  refine z_iload_n b dX12_kin_15 rfl rfl ?_
  refine z_icmp_eq_f (tgt := 28) b dX12_kin_16 (by decide) (by decide) ?_
  refine z_iload_n b dX12_kin_19 rfl rfl ?_
  refine z_iconst (v := 0) b dX12_kin_20 (by decide) ?_
  refine z_iconst (v := 1) b dX12_kin_21 (by decide) ?_
  refine z_calli b (z_runS (As := [.int p0, .int 0, .int 1]) (st := []) b (c_X12_isIn_8 S p0 ) cf_X12_isIn wm_X12_1 ws_X12_isIn dX12_kin_22 rfl (Nat.le_of_ble_eq_true rfl) ⟨by decide, by decide, by decide, by decide⟩) (fun r2359 u2360 h2358 => ?_)
  rcases h2358 with ⟨c2361, rfl, rfl⟩ | ⟨c2362, rfl, rfl⟩
  · refine z_if_ne_f (tgt := 30) b dX12_kin_25 (by decide) (by decide) ?_
    refine z_iconst (v := 0) b dX12_kin_28 (by decide) ?_
    exact z_zret (u := S) b rfl (by decide) dX12_kin_29 ⟨rfl, rfl⟩ rfl (by decide) (by decide)
  · exfalso; omega

set_option maxHeartbeats 4000000 in
set_option maxRecDepth 100000 in
theorem c_X11_kin_31 {l : Launch} {D : va_G} {cy : Nat → ClassId} {T0 tB tE : Nat} {a : Nat → Nat} {rw : Nat → Option Nat} (S : GS) (p0 : Int32)  (hr_p0 : (-2147483648) ≤ p0.toInt ∧ p0.toInt ≤ (-1)) : Ct l D cy T0 tB tE yX11_kin cX11_kin 6 (some .boolean) 2 41 0 0 (cw cy tE a rw S) [.ref (a 0), .int 0, .int 2, .int p0, .int 0] (QI D (U := GS) (fun r u => 0 = r ∧ S = u) (cw cy tE a rw)) := by
  refine Ct.ofZ RX11 "kin" [(0, .ref (a 0)), (1, .int 0), (2, .int 2), (3, .int p0), (4, .int 0)] rfl rfl rfl rfl (Nat.le_of_ble_eq_true rfl) ?_
  intro p e R s m args below meth c A b
  refine z_iload_n b dX11_kin_0 rfl rfl ?_
  refine z_iload_n b dX11_kin_1 rfl rfl ?_
  refine z_calli b (z_runS (As := [.int 0, .int 2]) (st := []) b (c_X11_arePair_9 S ) cf_X11_arePair wm_X11_84 ws_X11_arePair dX11_kin_2 rfl (Nat.le_of_ble_eq_true rfl) ⟨by decide, by decide, by decide, by decide⟩) (fun r2364 u2365 h2363 => ?_)
  obtain ⟨rfl, rfl⟩ := h2363
  refine z_if_eq_f (tgt := 16) b dX11_kin_5 (by decide) (by decide) ?_
  refine z_iload_n b dX11_kin_8 rfl rfl ?_
  refine z_iconst (v := 1) b dX11_kin_9 (by decide) ?_
  refine z_calli b (z_runS (As := [.int p0, .int 1]) (st := []) b (c_X11_isWithin_4 S p0 ) cf_X11_isWithin wm_X11_73 ws_X11_isWithin dX11_kin_10 rfl (Nat.le_of_ble_eq_true rfl) ⟨by decide, by decide, by decide, by decide⟩) (fun r2367 u2368 h2366 => ?_)
  rcases h2366 with ⟨c2369, rfl, rfl⟩ | ⟨c2370, rfl, rfl⟩
  · refine z_if_ne_f (tgt := 18) b dX11_kin_13 (by decide) (by decide) ?_
    refine z_iconst (v := 0) b dX11_kin_16 (by decide) ?_
    exact z_zret (u := S) b rfl (by decide) dX11_kin_17 ⟨rfl, rfl⟩ rfl (by decide) (by decide)
  · exfalso; omega

set_option maxHeartbeats 4000000 in
set_option maxRecDepth 100000 in
theorem c_X12_kin_31 {l : Launch} {D : va_G} {cy : Nat → ClassId} {T0 tB tE : Nat} {a : Nat → Nat} (S : GS) (p0 : Int32)  (hr_p0 : (-2147483648) ≤ p0.toInt ∧ p0.toInt ≤ (-1)) : Ct l D cy T0 tB tE yX12_kin cX12_kin 5 (some .boolean) 2 42 0 0 (mw cy a S) [.ref (a 0), .int 0, .int 2, .int p0, .int 0] (QI D (U := GS) (fun r u => 0 = r ∧ S = u) (mw cy a)) := by
  refine Ct.ofZ RX12 "kin" [(0, .ref (a 0)), (1, .int 0), (2, .int 2), (3, .int p0), (4, .int 0)] rfl rfl rfl rfl (Nat.le_of_ble_eq_true rfl) ?_
  intro p e R s m args below meth c A b
  refine z_iload_n b dX12_kin_0 rfl rfl ?_
  refine z_calli b (z_runS (As := [.int 0]) (st := []) b (c_X12_isOne_2 S ) cf_X12_isOne wm_X12_170 ws_X12_isOne dX12_kin_1 rfl (Nat.le_of_ble_eq_true rfl) ⟨by decide, by decide, by decide, by decide⟩) (fun r2372 u2373 h2371 => ?_)
  obtain ⟨rfl, rfl⟩ := h2371
  refine z_if_eq_f (tgt := 28) b dX12_kin_4 (by decide) (by decide) ?_
  refine z_iload_n b dX12_kin_7 rfl rfl ?_
  refine z_calli b (z_runS (As := [.int 2]) (st := []) b (c_X12_isOne_4 S ) cf_X12_isOne wm_X12_170 ws_X12_isOne dX12_kin_8 rfl (Nat.le_of_ble_eq_true rfl) ⟨by decide, by decide, by decide, by decide⟩) (fun r2375 u2376 h2374 => ?_)
  obtain ⟨rfl, rfl⟩ := h2374
  refine z_if_eq_f (tgt := 28) b dX12_kin_11 (by decide) (by decide) ?_
  refine z_iload_n b dX12_kin_14 rfl rfl ?_
  refine z_iload_n b dX12_kin_15 rfl rfl ?_
  refine z_icmp_eq_f (tgt := 28) b dX12_kin_16 (by decide) (by decide) ?_
  refine z_iload_n b dX12_kin_19 rfl rfl ?_
  refine z_iconst (v := 0) b dX12_kin_20 (by decide) ?_
  refine z_iconst (v := 1) b dX12_kin_21 (by decide) ?_
  refine z_calli b (z_runS (As := [.int p0, .int 0, .int 1]) (st := []) b (c_X12_isIn_8 S p0 ) cf_X12_isIn wm_X12_1 ws_X12_isIn dX12_kin_22 rfl (Nat.le_of_ble_eq_true rfl) ⟨by decide, by decide, by decide, by decide⟩) (fun r2378 u2379 h2377 => ?_)
  rcases h2377 with ⟨c2380, rfl, rfl⟩ | ⟨c2381, rfl, rfl⟩
  · refine z_if_ne_f (tgt := 30) b dX12_kin_25 (by decide) (by decide) ?_
    refine z_iconst (v := 0) b dX12_kin_28 (by decide) ?_
    exact z_zret (u := S) b rfl (by decide) dX12_kin_29 ⟨rfl, rfl⟩ rfl (by decide) (by decide)
  · exfalso; omega

set_option maxHeartbeats 4000000 in
set_option maxRecDepth 100000 in
theorem c_X11_kin_32 {l : Launch} {D : va_G} {cy : Nat → ClassId} {T0 tB tE : Nat} {a : Nat → Nat} {rw : Nat → Option Nat} (S : GS) (p0 : Int32)  (hr_p0 : (-2147483648) ≤ p0.toInt ∧ p0.toInt ≤ (-1)) : Ct l D cy T0 tB tE yX11_kin cX11_kin 6 (some .boolean) 2 41 0 0 (cw cy tE a rw S) [.ref (a 0), .int 0, .int 2, .int p0, .int 1] (QI D (U := GS) (fun r u => 0 = r ∧ S = u) (cw cy tE a rw)) := by
  refine Ct.ofZ RX11 "kin" [(0, .ref (a 0)), (1, .int 0), (2, .int 2), (3, .int p0), (4, .int 1)] rfl rfl rfl rfl (Nat.le_of_ble_eq_true rfl) ?_
  intro p e R s m args below meth c A b
  refine z_iload_n b dX11_kin_0 rfl rfl ?_
  refine z_iload_n b dX11_kin_1 rfl rfl ?_
  refine z_calli b (z_runS (As := [.int 0, .int 2]) (st := []) b (c_X11_arePair_9 S ) cf_X11_arePair wm_X11_84 ws_X11_arePair dX11_kin_2 rfl (Nat.le_of_ble_eq_true rfl) ⟨by decide, by decide, by decide, by decide⟩) (fun r2383 u2384 h2382 => ?_)
  obtain ⟨rfl, rfl⟩ := h2382
  refine z_if_eq_f (tgt := 16) b dX11_kin_5 (by decide) (by decide) ?_
  refine z_iload_n b dX11_kin_8 rfl rfl ?_
  refine z_iconst (v := 1) b dX11_kin_9 (by decide) ?_
  refine z_calli b (z_runS (As := [.int p0, .int 1]) (st := []) b (c_X11_isWithin_4 S p0 ) cf_X11_isWithin wm_X11_73 ws_X11_isWithin dX11_kin_10 rfl (Nat.le_of_ble_eq_true rfl) ⟨by decide, by decide, by decide, by decide⟩) (fun r2386 u2387 h2385 => ?_)
  rcases h2385 with ⟨c2388, rfl, rfl⟩ | ⟨c2389, rfl, rfl⟩
  · refine z_if_ne_f (tgt := 18) b dX11_kin_13 (by decide) (by decide) ?_
    refine z_iconst (v := 0) b dX11_kin_16 (by decide) ?_
    exact z_zret (u := S) b rfl (by decide) dX11_kin_17 ⟨rfl, rfl⟩ rfl (by decide) (by decide)
  · exfalso; omega

set_option maxHeartbeats 4000000 in
set_option maxRecDepth 100000 in
theorem c_X12_kin_32 {l : Launch} {D : va_G} {cy : Nat → ClassId} {T0 tB tE : Nat} {a : Nat → Nat} (S : GS) (p0 : Int32)  (hr_p0 : (-2147483648) ≤ p0.toInt ∧ p0.toInt ≤ (-1)) : Ct l D cy T0 tB tE yX12_kin cX12_kin 5 (some .boolean) 2 42 0 0 (mw cy a S) [.ref (a 0), .int 0, .int 2, .int p0, .int 1] (QI D (U := GS) (fun r u => 0 = r ∧ S = u) (mw cy a)) := by
  refine Ct.ofZ RX12 "kin" [(0, .ref (a 0)), (1, .int 0), (2, .int 2), (3, .int p0), (4, .int 1)] rfl rfl rfl rfl (Nat.le_of_ble_eq_true rfl) ?_
  intro p e R s m args below meth c A b
  refine z_iload_n b dX12_kin_0 rfl rfl ?_
  refine z_calli b (z_runS (As := [.int 0]) (st := []) b (c_X12_isOne_2 S ) cf_X12_isOne wm_X12_170 ws_X12_isOne dX12_kin_1 rfl (Nat.le_of_ble_eq_true rfl) ⟨by decide, by decide, by decide, by decide⟩) (fun r2391 u2392 h2390 => ?_)
  obtain ⟨rfl, rfl⟩ := h2390
  refine z_if_eq_f (tgt := 28) b dX12_kin_4 (by decide) (by decide) ?_
  refine z_iload_n b dX12_kin_7 rfl rfl ?_
  refine z_calli b (z_runS (As := [.int 2]) (st := []) b (c_X12_isOne_4 S ) cf_X12_isOne wm_X12_170 ws_X12_isOne dX12_kin_8 rfl (Nat.le_of_ble_eq_true rfl) ⟨by decide, by decide, by decide, by decide⟩) (fun r2394 u2395 h2393 => ?_)
  obtain ⟨rfl, rfl⟩ := h2393
  refine z_if_eq_f (tgt := 28) b dX12_kin_11 (by decide) (by decide) ?_
  refine z_iload_n b dX12_kin_14 rfl rfl ?_
  refine z_iload_n b dX12_kin_15 rfl rfl ?_
  refine z_icmp_eq_f (tgt := 28) b dX12_kin_16 (by decide) (by decide) ?_
  refine z_iload_n b dX12_kin_19 rfl rfl ?_
  refine z_iconst (v := 0) b dX12_kin_20 (by decide) ?_
  refine z_iconst (v := 1) b dX12_kin_21 (by decide) ?_
  refine z_calli b (z_runS (As := [.int p0, .int 0, .int 1]) (st := []) b (c_X12_isIn_8 S p0 ) cf_X12_isIn wm_X12_1 ws_X12_isIn dX12_kin_22 rfl (Nat.le_of_ble_eq_true rfl) ⟨by decide, by decide, by decide, by decide⟩) (fun r2397 u2398 h2396 => ?_)
  rcases h2396 with ⟨c2399, rfl, rfl⟩ | ⟨c2400, rfl, rfl⟩
  · refine z_if_ne_f (tgt := 30) b dX12_kin_25 (by decide) (by decide) ?_
    refine z_iconst (v := 0) b dX12_kin_28 (by decide) ?_
    exact z_zret (u := S) b rfl (by decide) dX12_kin_29 ⟨rfl, rfl⟩ rfl (by decide) (by decide)
  · exfalso; omega

set_option maxHeartbeats 4000000 in
set_option maxRecDepth 100000 in
theorem c_X9_set_20 {l : Launch} {D : va_G} {cy : Nat → ClassId} {T0 tB tE : Nat} {a : Nat → Nat} {rw : Nat → Option Nat} (S : GS)  (h_a_4_22 : ar S 4 22 = 0) : Ct l D cy T0 tB tE yX9_set cX9_set 3 none 0 0 0 0 (cw cy tE a rw S) [.ref (a 14), .int 22, .int 0] (QV D (U := GS) (fun u => S = u) (cw cy tE a rw)) := by
  refine Ct.ofZ RX9 "set" [(0, .ref (a 14)), (1, .int 22), (2, .int 0)] rfl rfl rfl rfl (Nat.le_of_ble_eq_true rfl) ?_
  intro p e R s m args below meth c A b
  refine z_iload_n b dX9_set_0 rfl rfl ?_
  refine z_if_lt_f (tgt := 20) b dX9_set_1 (by decide) (by decide) ?_
  refine z_iload_n b dX9_set_4 rfl rfl ?_
  refine z_aload_n b dX9_set_5 rfl rfl ?_
  refine z_get (q0 := 14) (k9 := 0) (v := .ref (a 15)) b (cw_14 cy tE a rw S) rfl in_X9 (by decide) wf_X9_11 rfl dX9_set_6 ?_
  refine z_alen (q0 := 15) (t0 := 0) (v := 51) b (cw_15 cy tE a rw S) rfl rfl dX9_set_9 ?_
  refine z_icmp_ge_f (tgt := 20) b dX9_set_10 (by decide) (by decide) ?_
  refine z_aload_n b dX9_set_13 rfl rfl ?_
  refine z_get (q0 := 14) (k9 := 0) (v := .ref (a 15)) b (cw_14 cy tE a rw S) rfl in_X9 (by decide) wf_X9_11 rfl dX9_set_14 ?_
  refine z_iload_n b dX9_set_17 rfl rfl ?_
  refine z_iload_n b dX9_set_18 rfl rfl ?_
  refine y_iast (q0 := 15) (j := 22) b (cw_15 cy tE a rw S) (by decide) dX9_set_19 ((cwa_15 cy tE a rw S 22 0).trans (congrArg (cw cy tE a rw) (su_same h_a_4_22))) ?_
  exact z_vret (u := S) b rfl dX9_set_20 rfl rfl (by decide) (by decide)

set_option maxHeartbeats 4000000 in
set_option maxRecDepth 100000 in
theorem c_X9_set_21 {l : Launch} {D : va_G} {cy : Nat → ClassId} {T0 tB tE : Nat} {a : Nat → Nat} {rw : Nat → Option Nat} (S : GS)  (h_a_4_26 : ar S 4 26 = 0) : Ct l D cy T0 tB tE yX9_set cX9_set 3 none 0 0 0 0 (cw cy tE a rw S) [.ref (a 14), .int 26, .int 0] (QV D (U := GS) (fun u => S = u) (cw cy tE a rw)) := by
  refine Ct.ofZ RX9 "set" [(0, .ref (a 14)), (1, .int 26), (2, .int 0)] rfl rfl rfl rfl (Nat.le_of_ble_eq_true rfl) ?_
  intro p e R s m args below meth c A b
  refine z_iload_n b dX9_set_0 rfl rfl ?_
  refine z_if_lt_f (tgt := 20) b dX9_set_1 (by decide) (by decide) ?_
  refine z_iload_n b dX9_set_4 rfl rfl ?_
  refine z_aload_n b dX9_set_5 rfl rfl ?_
  refine z_get (q0 := 14) (k9 := 0) (v := .ref (a 15)) b (cw_14 cy tE a rw S) rfl in_X9 (by decide) wf_X9_11 rfl dX9_set_6 ?_
  refine z_alen (q0 := 15) (t0 := 0) (v := 51) b (cw_15 cy tE a rw S) rfl rfl dX9_set_9 ?_
  refine z_icmp_ge_f (tgt := 20) b dX9_set_10 (by decide) (by decide) ?_
  refine z_aload_n b dX9_set_13 rfl rfl ?_
  refine z_get (q0 := 14) (k9 := 0) (v := .ref (a 15)) b (cw_14 cy tE a rw S) rfl in_X9 (by decide) wf_X9_11 rfl dX9_set_14 ?_
  refine z_iload_n b dX9_set_17 rfl rfl ?_
  refine z_iload_n b dX9_set_18 rfl rfl ?_
  refine y_iast (q0 := 15) (j := 26) b (cw_15 cy tE a rw S) (by decide) dX9_set_19 ((cwa_15 cy tE a rw S 26 0).trans (congrArg (cw cy tE a rw) (su_same h_a_4_26))) ?_
  exact z_vret (u := S) b rfl dX9_set_20 rfl rfl (by decide) (by decide)

set_option maxHeartbeats 4000000 in
set_option maxRecDepth 100000 in
theorem c_X11_kin_33 {l : Launch} {D : va_G} {cy : Nat → ClassId} {T0 tB tE : Nat} {a : Nat → Nat} {rw : Nat → Option Nat} (S : GS)  (h_a_4_22 : ar S 4 22 = 0) (h_a_4_26 : ar S 4 26 = 0) (h_i_24 : fi S 24 = 0) : Ct l D cy T0 tB tE yX11_kin cX11_kin 6 (some .boolean) 2 41 0 0 (cw cy tE a rw S) [.ref (a 0), .int 0, .int 2, .int 0, .int 0] (QI D (U := GS) (fun r u => 1 = r ∧ S = u) (cw cy tE a rw)) := by
  refine Ct.ofZ RX11 "kin" [(0, .ref (a 0)), (1, .int 0), (2, .int 2), (3, .int 0), (4, .int 0)] rfl rfl rfl rfl (Nat.le_of_ble_eq_true rfl) ?_
  intro p e R s m args below meth c A b
  refine z_iload_n b dX11_kin_0 rfl rfl ?_
  refine z_iload_n b dX11_kin_1 rfl rfl ?_
  refine z_calli b (z_runS (As := [.int 0, .int 2]) (st := []) b (c_X11_arePair_9 S ) cf_X11_arePair wm_X11_84 ws_X11_arePair dX11_kin_2 rfl (Nat.le_of_ble_eq_true rfl) ⟨by decide, by decide, by decide, by decide⟩) (fun r2402 u2403 h2401 => ?_)
  obtain ⟨rfl, rfl⟩ := h2401
  refine z_if_eq_f (tgt := 16) b dX11_kin_5 (by decide) (by decide) ?_
  refine z_iload_n b dX11_kin_8 rfl rfl ?_
  refine z_iconst (v := 1) b dX11_kin_9 (by decide) ?_
  refine z_calli b (z_runS (As := [.int 0, .int 1]) (st := []) b (c_X11_isWithin_5 S ) cf_X11_isWithin wm_X11_73 ws_X11_isWithin dX11_kin_10 rfl (Nat.le_of_ble_eq_true rfl) ⟨by decide, by decide, by decide, by decide⟩) (fun r2405 u2406 h2404 => ?_)
  obtain ⟨rfl, rfl⟩ := h2404
  refine z_if_ne_t (tgt := 18) b dX11_kin_13 (by decide) (by decide) ?_
  refine z_iload b dX11_kin_18 rfl ?_
  refine z_if_eq_t (tgt := 27) b dX11_kin_20 (by decide) (by decide) ?_
  refine z_iconst (v := 0) b dX11_kin_27 (by decide) ?_
  refine z_istore (lv' := [(5, .int 0), (0, .ref (a 0)), (1, .int 0), (2, .int 2), (3, .int 0), (4, .int 0)]) b dX11_kin_28 (by decide) rfl ?_
  refine z_iload_n b dX11_kin_30 rfl rfl ?_
  refine z_if_ne_f (tgt := 71) b dX11_kin_31 (by decide) (by decide) ?_
  refine z_aload_n b dX11_kin_34 rfl rfl ?_
  refine z_get (q0 := 0) (k9 := 4) (v := .ref (a 14)) b (cw_0 cy tE a rw S) rfl in_X11 (by decide) wf_X11_34 rfl dX11_kin_35 ?_
  refine z_bipush (v := 20) b dX11_kin_38 (by decide) ?_
  refine z_iconst (v := 3) b dX11_kin_40 (by decide) ?_
  refine z_iload_n b dX11_kin_41 rfl rfl ?_
  refine z_imul (v := 0) b dX11_kin_42 (by decide) ?_
  refine z_iadd (v := 20) b dX11_kin_43 (by decide) ?_
  refine z_iload_n b dX11_kin_44 rfl rfl ?_
  refine z_iadd (v := 22) b dX11_kin_45 (by decide) ?_
  refine z_iload b dX11_kin_46 rfl ?_
  refine z_callv b (z_runV (q0 := 14) (As := [.int 22, .int 0]) (st := []) b (c_X9_set_20 S h_a_4_22) cf_X9_set (cw_14 cy tE a rw S) rfl wm_X11_77 wi_X9_set ws_X9_set dX11_kin_48 rfl (Nat.le_of_ble_eq_true rfl) ⟨by decide, by decide, by decide, by decide⟩) (fun u2409 h2407 => ?_)
  obtain rfl := h2407
  refine z_aload_n b dX11_kin_51 rfl rfl ?_
  refine z_get (q0 := 0) (k9 := 4) (v := .ref (a 14)) b (cw_0 cy tE a rw S) rfl in_X11 (by decide) wf_X11_34 rfl dX11_kin_52 ?_
  refine z_bipush (v := 20) b dX11_kin_55 (by decide) ?_
  refine z_iconst (v := 3) b dX11_kin_57 (by decide) ?_
  refine z_iload_n b dX11_kin_58 rfl rfl ?_
  refine z_imul (v := 6) b dX11_kin_59 (by decide) ?_
  refine z_iadd (v := 26) b dX11_kin_60 (by decide) ?_
  refine z_iload_n b dX11_kin_61 rfl rfl ?_
  refine z_iadd (v := 26) b dX11_kin_62 (by decide) ?_
  refine z_iload b dX11_kin_63 rfl ?_
  refine z_callv b (z_runV (q0 := 14) (As := [.int 26, .int 0]) (st := []) b (c_X9_set_21 S h_a_4_26) cf_X9_set (cw_14 cy tE a rw S) rfl wm_X11_77 wi_X9_set ws_X9_set dX11_kin_65 rfl (Nat.le_of_ble_eq_true rfl) ⟨by decide, by decide, by decide, by decide⟩) (fun u2412 h2410 => ?_)
  obtain rfl := h2410
  refine z_goto (tgt := 88) b dX11_kin_68 (by decide) ?_
  refine z_aload_n b dX11_kin_88 rfl rfl ?_
  refine z_get (q0 := 0) (k9 := 6) (v := .ref (a 25)) b (cw_0 cy tE a rw S) rfl in_X11 (by decide) wf_X11_52 rfl dX11_kin_89 ?_
  refine z_callv b (z_runV (q0 := 25) (As := []) (st := []) b (c_X8_forget S h_i_24) cf_X8_forget (cw_25 cy tE a rw S) rfl wm_X11_81 wi_X8_forget ws_X8_forget dX11_kin_92 rfl (Nat.le_of_ble_eq_true rfl) ⟨by decide, by decide, by decide, by decide⟩) (fun u2415 h2413 => ?_)
  obtain rfl := h2413
  refine z_iconst (v := 1) b dX11_kin_95 (by decide) ?_
  exact z_zret (u := S) b rfl (by decide) dX11_kin_96 ⟨rfl, rfl⟩ rfl (by decide) (by decide)

set_option maxHeartbeats 4000000 in
set_option maxRecDepth 100000 in
theorem c_X12_kin_33 {l : Launch} {D : va_G} {cy : Nat → ClassId} {T0 tB tE : Nat} {a : Nat → Nat} (S : GS)  (h_l_0 : fl S 0 = 1649317774848) (h_a_4_7 : ar S 4 7 = 0) (h_a_1_7 : ar S 1 7 = 0) (h_a_4_6 : ar S 4 6 = 0) (h_a_1_6 : ar S 1 6 = 0) (h_a_3_6 : ar S 3 6 = 0) (h_a_3_2 : ar S 3 2 = 0) (h_a_2_2 : ar S 2 2 = 3) (h_a_0_2 : ar S 0 2 = 0) (h_a_4_3 : ar S 4 3 = 0) (h_a_1_3 : ar S 1 3 = 0) (h_a_4_5 : ar S 4 5 = 0) (h_a_1_5 : ar S 1 5 = 0) (h_a_3_5 : ar S 3 5 = 0) (h_a_3_7 : ar S 3 7 = 0) (h_a_2_1 : ar S 2 1 = 3) (h_a_0_1 : ar S 0 1 = 0) (h_a_4_2 : ar S 4 2 = 0) (h_a_1_2 : ar S 1 2 = 0) (h_a_4_1 : ar S 4 1 = 0) (h_a_1_1 : ar S 1 1 = 0) (h_a_3_1 : ar S 3 1 = 0) (h_a_3_3 : ar S 3 3 = 0) (h_a_2_0 : ar S 2 0 = 3) (h_a_0_0 : ar S 0 0 = 0) (h_i_0 : fi S 0 = 0) : Ct l D cy T0 tB tE yX12_kin cX12_kin 5 (some .boolean) 3 65 0 0 (mw cy a S) [.ref (a 0), .int 0, .int 2, .int 0, .int 0] (QI D (U := GS) (fun r u => 1 = r ∧ S = u) (mw cy a)) := by
  refine Ct.ofZ RX12 "kin" [(0, .ref (a 0)), (1, .int 0), (2, .int 2), (3, .int 0), (4, .int 0)] rfl rfl rfl rfl (Nat.le_of_ble_eq_true rfl) ?_
  intro p e R s m args below meth c A b
  refine z_iload_n b dX12_kin_0 rfl rfl ?_
  refine z_calli b (z_runS (As := [.int 0]) (st := []) b (c_X12_isOne_2 S ) cf_X12_isOne wm_X12_170 ws_X12_isOne dX12_kin_1 rfl (Nat.le_of_ble_eq_true rfl) ⟨by decide, by decide, by decide, by decide⟩) (fun r2417 u2418 h2416 => ?_)
  obtain ⟨rfl, rfl⟩ := h2416
  refine z_if_eq_f (tgt := 28) b dX12_kin_4 (by decide) (by decide) ?_
  refine z_iload_n b dX12_kin_7 rfl rfl ?_
  refine z_calli b (z_runS (As := [.int 2]) (st := []) b (c_X12_isOne_4 S ) cf_X12_isOne wm_X12_170 ws_X12_isOne dX12_kin_8 rfl (Nat.le_of_ble_eq_true rfl) ⟨by decide, by decide, by decide, by decide⟩) (fun r2420 u2421 h2419 => ?_)
  obtain ⟨rfl, rfl⟩ := h2419
  refine z_if_eq_f (tgt := 28) b dX12_kin_11 (by decide) (by decide) ?_
  refine z_iload_n b dX12_kin_14 rfl rfl ?_
  refine z_iload_n b dX12_kin_15 rfl rfl ?_
  refine z_icmp_eq_f (tgt := 28) b dX12_kin_16 (by decide) (by decide) ?_
  refine z_iload_n b dX12_kin_19 rfl rfl ?_
  refine z_iconst (v := 0) b dX12_kin_20 (by decide) ?_
  refine z_iconst (v := 1) b dX12_kin_21 (by decide) ?_
  refine z_calli b (z_runS (As := [.int 0, .int 0, .int 1]) (st := []) b (c_X12_isIn_9 S ) cf_X12_isIn wm_X12_1 ws_X12_isIn dX12_kin_22 rfl (Nat.le_of_ble_eq_true rfl) ⟨by decide, by decide, by decide, by decide⟩) (fun r2423 u2424 h2422 => ?_)
  obtain ⟨rfl, rfl⟩ := h2422
  refine z_if_ne_t (tgt := 30) b dX12_kin_25 (by decide) (by decide) ?_
  refine z_aload_n b dX12_kin_30 rfl rfl ?_
  refine z_aload_n b dX12_kin_31 rfl rfl ?_
  refine z_get (q0 := 0) (k9 := 6) (v := .long (fl S 0)) b (mw_0 cy a S) rfl in_X12 (by decide) wf_X12_153 rfl dX12_kin_32 ?_
  refine z_eql h_l_0 ?_
  refine z_callv b (z_runV (q0 := 0) (As := [.long 1649317774848]) (st := []) b (c_X12_takes S h_a_4_7 h_a_1_7 h_a_4_6 h_a_1_6 h_a_3_6 h_a_3_2 h_a_2_2 h_a_0_2 h_a_4_3 h_a_1_3 h_a_4_5 h_a_1_5 h_a_3_5 h_a_3_7 h_a_2_1 h_a_0_1 h_a_4_2 h_a_1_2 h_a_4_1 h_a_1_1 h_a_3_1 h_a_3_3 h_a_2_0 h_a_0_0 h_i_0) cf_X12_takes (mw_0 cy a S) rfl wm_X12_174 wi_X12_takes ws_X12_takes dX12_kin_35 rfl (Nat.le_of_ble_eq_true rfl) ⟨by decide, by decide, by decide, by decide⟩) (fun u2427 h2425 => ?_)
  obtain rfl := h2425
  refine z_iload_n b dX12_kin_38 rfl rfl ?_
  refine z_iconst (v := 1) b dX12_kin_39 (by decide) ?_
  refine z_icmp_ne_t (tgt := 58) b dX12_kin_40 (by decide) (by decide) ?_
  refine z_aload_n b dX12_kin_58 rfl rfl ?_
  refine z_get (q0 := 0) (k9 := 3) (v := .ref (a 4)) b (mw_0 cy a S) rfl in_X12 (by decide) wf_X12_23 rfl dX12_kin_59 ?_
  refine z_iconst (v := 3) b dX12_kin_62 (by decide) ?_
  refine z_iload_n b dX12_kin_63 rfl rfl ?_
  refine z_imul (v := 0) b dX12_kin_64 (by decide) ?_
  refine z_iload_n b dX12_kin_65 rfl rfl ?_
  refine z_iadd (v := 2) b dX12_kin_66 (by decide) ?_
  refine z_iload b dX12_kin_67 rfl ?_
  refine y_zast (q0 := 4) (j := 2) b (mw_4 cy a S) (by decide) (by decide) dX12_kin_69 ((mwa_4 cy a S 2 0).trans (congrArg (mw cy a) (su_same h_a_3_2))) ?_
  refine z_aload_n b dX12_kin_70 rfl rfl ?_
  refine z_get (q0 := 0) (k9 := 3) (v := .ref (a 4)) b (mw_0 cy a S) rfl in_X12 (by decide) wf_X12_23 rfl dX12_kin_71 ?_
  refine z_iconst (v := 3) b dX12_kin_74 (by decide) ?_
  refine z_iload_n b dX12_kin_75 rfl rfl ?_
  refine z_imul (v := 6) b dX12_kin_76 (by decide) ?_
  refine z_iload_n b dX12_kin_77 rfl rfl ?_
  refine z_iadd (v := 6) b dX12_kin_78 (by decide) ?_
  refine z_iload b dX12_kin_79 rfl ?_
  refine y_zast (q0 := 4) (j := 6) b (mw_4 cy a S) (by decide) (by decide) dX12_kin_81 ((mwa_4 cy a S 6 0).trans (congrArg (mw cy a) (su_same h_a_3_6))) ?_
  refine z_aload_n b dX12_kin_82 rfl rfl ?_
  refine z_calli b (z_runV (q0 := 0) (As := []) (st := []) b (c_X12_told_14 S h_i_0 h_a_0_0 h_a_2_0 h_a_3_1 h_a_1_1 h_a_4_1 h_a_1_2 h_a_4_2 h_a_0_1 h_a_2_1 h_a_3_5 h_a_1_5 h_a_4_5 h_a_1_3 h_a_4_3 h_a_0_2 h_a_2_2 h_a_3_6 h_a_1_6 h_a_4_6 h_a_1_7 h_a_4_7 h_l_0) cf_X12_told (mw_0 cy a S) rfl wm_X12_178 wi_X12_told ws_X12_told dX12_kin_83 rfl (Nat.le_of_ble_eq_true rfl) ⟨by decide, by decide, by decide, by decide⟩) (fun r2429 u2430 h2428 => ?_)
  obtain ⟨rfl, rfl⟩ := h2428
  exact z_zret (u := S) b rfl (by decide) dX12_kin_86 ⟨rfl, rfl⟩ rfl (by decide) (by decide)

set_option maxHeartbeats 4000000 in
set_option maxRecDepth 100000 in
theorem c_X9_set_22 {l : Launch} {D : va_G} {cy : Nat → ClassId} {T0 tB tE : Nat} {a : Nat → Nat} {rw : Nat → Option Nat} (S : GS)   : Ct l D cy T0 tB tE yX9_set cX9_set 3 none 0 0 0 0 (cw cy tE a rw S) [.ref (a 14), .int 22, .int 1] (QV D (U := GS) (fun u => su S 4 22 1 = u) (cw cy tE a rw)) := by
  refine Ct.ofZ RX9 "set" [(0, .ref (a 14)), (1, .int 22), (2, .int 1)] rfl rfl rfl rfl (Nat.le_of_ble_eq_true rfl) ?_
  intro p e R s m args below meth c A b
  refine z_iload_n b dX9_set_0 rfl rfl ?_
  refine z_if_lt_f (tgt := 20) b dX9_set_1 (by decide) (by decide) ?_
  refine z_iload_n b dX9_set_4 rfl rfl ?_
  refine z_aload_n b dX9_set_5 rfl rfl ?_
  refine z_get (q0 := 14) (k9 := 0) (v := .ref (a 15)) b (cw_14 cy tE a rw S) rfl in_X9 (by decide) wf_X9_11 rfl dX9_set_6 ?_
  refine z_alen (q0 := 15) (t0 := 0) (v := 51) b (cw_15 cy tE a rw S) rfl rfl dX9_set_9 ?_
  refine z_icmp_ge_f (tgt := 20) b dX9_set_10 (by decide) (by decide) ?_
  refine z_aload_n b dX9_set_13 rfl rfl ?_
  refine z_get (q0 := 14) (k9 := 0) (v := .ref (a 15)) b (cw_14 cy tE a rw S) rfl in_X9 (by decide) wf_X9_11 rfl dX9_set_14 ?_
  refine z_iload_n b dX9_set_17 rfl rfl ?_
  refine z_iload_n b dX9_set_18 rfl rfl ?_
  refine y_iast (q0 := 15) (j := 22) b (cw_15 cy tE a rw S) (by decide) dX9_set_19 (cwa_15 cy tE a rw S 22 1) ?_
  exact z_vret (u := (su S 4 22 1)) b rfl dX9_set_20 rfl rfl (by decide) (by decide)

set_option maxHeartbeats 4000000 in
set_option maxRecDepth 100000 in
theorem c_X9_set_23 {l : Launch} {D : va_G} {cy : Nat → ClassId} {T0 tB tE : Nat} {a : Nat → Nat} {rw : Nat → Option Nat} (S : GS)   : Ct l D cy T0 tB tE yX9_set cX9_set 3 none 0 0 0 0 (cw cy tE a rw S) [.ref (a 14), .int 26, .int 1] (QV D (U := GS) (fun u => su S 4 26 1 = u) (cw cy tE a rw)) := by
  refine Ct.ofZ RX9 "set" [(0, .ref (a 14)), (1, .int 26), (2, .int 1)] rfl rfl rfl rfl (Nat.le_of_ble_eq_true rfl) ?_
  intro p e R s m args below meth c A b
  refine z_iload_n b dX9_set_0 rfl rfl ?_
  refine z_if_lt_f (tgt := 20) b dX9_set_1 (by decide) (by decide) ?_
  refine z_iload_n b dX9_set_4 rfl rfl ?_
  refine z_aload_n b dX9_set_5 rfl rfl ?_
  refine z_get (q0 := 14) (k9 := 0) (v := .ref (a 15)) b (cw_14 cy tE a rw S) rfl in_X9 (by decide) wf_X9_11 rfl dX9_set_6 ?_
  refine z_alen (q0 := 15) (t0 := 0) (v := 51) b (cw_15 cy tE a rw S) rfl rfl dX9_set_9 ?_
  refine z_icmp_ge_f (tgt := 20) b dX9_set_10 (by decide) (by decide) ?_
  refine z_aload_n b dX9_set_13 rfl rfl ?_
  refine z_get (q0 := 14) (k9 := 0) (v := .ref (a 15)) b (cw_14 cy tE a rw S) rfl in_X9 (by decide) wf_X9_11 rfl dX9_set_14 ?_
  refine z_iload_n b dX9_set_17 rfl rfl ?_
  refine z_iload_n b dX9_set_18 rfl rfl ?_
  refine y_iast (q0 := 15) (j := 26) b (cw_15 cy tE a rw S) (by decide) dX9_set_19 (cwa_15 cy tE a rw S 26 1) ?_
  exact z_vret (u := (su S 4 26 1)) b rfl dX9_set_20 rfl rfl (by decide) (by decide)

set_option maxHeartbeats 4000000 in
set_option maxRecDepth 100000 in
theorem c_X11_kin_34 {l : Launch} {D : va_G} {cy : Nat → ClassId} {T0 tB tE : Nat} {a : Nat → Nat} {rw : Nat → Option Nat} (S : GS)  (h_i_24 : fi S 24 = 0) : Ct l D cy T0 tB tE yX11_kin cX11_kin 6 (some .boolean) 2 41 0 0 (cw cy tE a rw S) [.ref (a 0), .int 0, .int 2, .int 0, .int 1] (QI D (U := GS) (fun r u => 1 = r ∧ (su (su S 4 22 1) 4 26 1) = u) (cw cy tE a rw)) := by
  refine Ct.ofZ RX11 "kin" [(0, .ref (a 0)), (1, .int 0), (2, .int 2), (3, .int 0), (4, .int 1)] rfl rfl rfl rfl (Nat.le_of_ble_eq_true rfl) ?_
  intro p e R s m args below meth c A b
  refine z_iload_n b dX11_kin_0 rfl rfl ?_
  refine z_iload_n b dX11_kin_1 rfl rfl ?_
  refine z_calli b (z_runS (As := [.int 0, .int 2]) (st := []) b (c_X11_arePair_9 S ) cf_X11_arePair wm_X11_84 ws_X11_arePair dX11_kin_2 rfl (Nat.le_of_ble_eq_true rfl) ⟨by decide, by decide, by decide, by decide⟩) (fun r2432 u2433 h2431 => ?_)
  obtain ⟨rfl, rfl⟩ := h2431
  refine z_if_eq_f (tgt := 16) b dX11_kin_5 (by decide) (by decide) ?_
  refine z_iload_n b dX11_kin_8 rfl rfl ?_
  refine z_iconst (v := 1) b dX11_kin_9 (by decide) ?_
  refine z_calli b (z_runS (As := [.int 0, .int 1]) (st := []) b (c_X11_isWithin_5 S ) cf_X11_isWithin wm_X11_73 ws_X11_isWithin dX11_kin_10 rfl (Nat.le_of_ble_eq_true rfl) ⟨by decide, by decide, by decide, by decide⟩) (fun r2435 u2436 h2434 => ?_)
  obtain ⟨rfl, rfl⟩ := h2434
  refine z_if_ne_t (tgt := 18) b dX11_kin_13 (by decide) (by decide) ?_
  refine z_iload b dX11_kin_18 rfl ?_
  refine z_if_eq_f (tgt := 27) b dX11_kin_20 (by decide) (by decide) ?_
  refine z_iconst (v := 1) b dX11_kin_23 (by decide) ?_
  refine z_goto (tgt := 28) b dX11_kin_24 (by decide) ?_
  refine z_istore (lv' := [(5, .int 1), (0, .ref (a 0)), (1, .int 0), (2, .int 2), (3, .int 0), (4, .int 1)]) b dX11_kin_28 (by decide) rfl ?_
  refine z_iload_n b dX11_kin_30 rfl rfl ?_
  refine z_if_ne_f (tgt := 71) b dX11_kin_31 (by decide) (by decide) ?_
  refine z_aload_n b dX11_kin_34 rfl rfl ?_
  refine z_get (q0 := 0) (k9 := 4) (v := .ref (a 14)) b (cw_0 cy tE a rw S) rfl in_X11 (by decide) wf_X11_34 rfl dX11_kin_35 ?_
  refine z_bipush (v := 20) b dX11_kin_38 (by decide) ?_
  refine z_iconst (v := 3) b dX11_kin_40 (by decide) ?_
  refine z_iload_n b dX11_kin_41 rfl rfl ?_
  refine z_imul (v := 0) b dX11_kin_42 (by decide) ?_
  refine z_iadd (v := 20) b dX11_kin_43 (by decide) ?_
  refine z_iload_n b dX11_kin_44 rfl rfl ?_
  refine z_iadd (v := 22) b dX11_kin_45 (by decide) ?_
  refine z_iload b dX11_kin_46 rfl ?_
  refine z_callv b (z_runV (q0 := 14) (As := [.int 22, .int 1]) (st := []) b (c_X9_set_22 S ) cf_X9_set (cw_14 cy tE a rw S) rfl wm_X11_77 wi_X9_set ws_X9_set dX11_kin_48 rfl (Nat.le_of_ble_eq_true rfl) ⟨by decide, by decide, by decide, by decide⟩) (fun u2439 h2437 => ?_)
  obtain rfl := h2437
  refine z_aload_n b dX11_kin_51 rfl rfl ?_
  refine z_get (q0 := 0) (k9 := 4) (v := .ref (a 14)) b (cw_0 cy tE a rw (su S 4 22 1)) rfl in_X11 (by decide) wf_X11_34 rfl dX11_kin_52 ?_
  refine z_bipush (v := 20) b dX11_kin_55 (by decide) ?_
  refine z_iconst (v := 3) b dX11_kin_57 (by decide) ?_
  refine z_iload_n b dX11_kin_58 rfl rfl ?_
  refine z_imul (v := 6) b dX11_kin_59 (by decide) ?_
  refine z_iadd (v := 26) b dX11_kin_60 (by decide) ?_
  refine z_iload_n b dX11_kin_61 rfl rfl ?_
  refine z_iadd (v := 26) b dX11_kin_62 (by decide) ?_
  refine z_iload b dX11_kin_63 rfl ?_
  refine z_callv b (z_runV (q0 := 14) (As := [.int 26, .int 1]) (st := []) b (c_X9_set_23 (su S 4 22 1) ) cf_X9_set (cw_14 cy tE a rw (su S 4 22 1)) rfl wm_X11_77 wi_X9_set ws_X9_set dX11_kin_65 rfl (Nat.le_of_ble_eq_true rfl) ⟨by decide, by decide, by decide, by decide⟩) (fun u2442 h2440 => ?_)
  obtain rfl := h2440
  refine z_goto (tgt := 88) b dX11_kin_68 (by decide) ?_
  refine z_aload_n b dX11_kin_88 rfl rfl ?_
  refine z_get (q0 := 0) (k9 := 6) (v := .ref (a 25)) b (cw_0 cy tE a rw (su (su S 4 22 1) 4 26 1)) rfl in_X11 (by decide) wf_X11_52 rfl dX11_kin_89 ?_
  refine z_callv b (z_runV (q0 := 25) (As := []) (st := []) b (c_X8_forget (su (su S 4 22 1) 4 26 1) h_i_24) cf_X8_forget (cw_25 cy tE a rw (su (su S 4 22 1) 4 26 1)) rfl wm_X11_81 wi_X8_forget ws_X8_forget dX11_kin_92 rfl (Nat.le_of_ble_eq_true rfl) ⟨by decide, by decide, by decide, by decide⟩) (fun u2445 h2443 => ?_)
  obtain rfl := h2443
  refine z_iconst (v := 1) b dX11_kin_95 (by decide) ?_
  exact z_zret (u := (su (su S 4 22 1) 4 26 1)) b rfl (by decide) dX11_kin_96 ⟨rfl, rfl⟩ rfl (by decide) (by decide)

set_option maxHeartbeats 4000000 in
set_option maxRecDepth 100000 in
theorem ch_X12_packs_36 {p : Program} {l : Launch} {e : Env} {R : Room} {s : State} {m : MethodId} {args : Array Value} {below : List Frame} {meth : Method} {c : Code} {D : va_G} {cy : Nat → ClassId} {T0 tB tE : Nat} {A : Nat → Prop} {Q : State → Prop} {a : Nat → Nat} (S : GS)  (h_a_0_0 : ar S 0 0 = 0) (h_a_1_1 : ar S 1 1 = 0) (h_a_1_2 : ar S 1 2 = 0) (h_a_2_0 : ar S 2 0 = 3) (h_a_3_1 : ar S 3 1 = 0) (h_a_4_1 : ar S 4 1 = 0) (h_a_4_2 : ar S 4 2 = 0) (h_i_0 : fi S 0 = 0) (b : Bz p R s m args meth c D cy T0 tB tE A 5 cX12_packs RX12 (some .long) "packs" 1 21 0 0) (k : Z p l e R s m args below meth c D A 5 Q 0 0 (mw cy a S) [(3, .int 1), (4, .int 2), (1, .long 1536), (0, .ref (a 0))] 21 [.int 1, .ref (a 1), .long 24576]) : Z p l e R s m args below meth c D A 5 Q 0 0 (mw cy a S) [(0, .ref (a 0))] 0 [] := by
  refine z_aload_n b dX12_packs_0 rfl rfl ?_
  refine z_get (q0 := 0) (k9 := 5) (v := .int (fi S 0)) b (mw_0 cy a S) rfl in_X12 (by decide) wf_X12_157 rfl dX12_packs_1 ?_
  refine z_eqi h_i_0 ?_
  refine z_i2l (v := 0) b dX12_packs_4 (by decide) ?_
  refine z_lstore_n (lv' := [(1, .long 0), (0, .ref (a 0))]) b dX12_packs_5 rfl (by decide) rfl ?_
  refine z_iconst (v := 0) b dX12_packs_6 (by decide) ?_
  refine z_istore_n (lv' := [(3, .int 0), (1, .long 0), (0, .ref (a 0))]) b dX12_packs_7 rfl (by decide) rfl ?_
  refine z_iload_n b dX12_packs_8 rfl rfl ?_
  refine z_iconst (v := 3) b dX12_packs_9 (by decide) ?_
  refine z_icmp_ge_f (tgt := 134) b dX12_packs_10 (by decide) (by decide) ?_
  refine z_lload_n b dX12_packs_13 rfl rfl ?_
  refine z_iconst (v := 4) b dX12_packs_14 (by decide) ?_
  refine z_lshl (v := 0) b dX12_packs_15 (by decide) ?_
  refine z_aload_n b dX12_packs_16 rfl rfl ?_
  refine z_get (q0 := 0) (k9 := 0) (v := .ref (a 1)) b (mw_0 cy a S) rfl in_X12 (by decide) wf_X12_13 rfl dX12_packs_17 ?_
  refine z_iload_n b dX12_packs_20 rfl rfl ?_
  refine y_iald (q0 := 1) (j := 0) (v := (ar S 0 0)) b (mw_1 cy a S) (by decide) rfl dX12_packs_21 ?_
  refine z_eqi h_a_0_0 ?_
  refine z_i2l (v := 0) b dX12_packs_22 (by decide) ?_
  refine z_lor (v := 0) b dX12_packs_23 (by decide) ?_
  refine z_lstore_n (lv' := [(1, .long 0), (3, .int 0), (0, .ref (a 0))]) b dX12_packs_24 rfl (by decide) rfl ?_
  refine z_lload_n b dX12_packs_25 rfl rfl ?_
  refine z_iconst (v := 2) b dX12_packs_26 (by decide) ?_
  refine z_lshl (v := 0) b dX12_packs_27 (by decide) ?_
  refine z_aload_n b dX12_packs_28 rfl rfl ?_
  refine z_get (q0 := 0) (k9 := 2) (v := .ref (a 3)) b (mw_0 cy a S) rfl in_X12 (by decide) wf_X12_20 rfl dX12_packs_29 ?_
  refine z_iload_n b dX12_packs_32 rfl rfl ?_
  refine y_iald (q0 := 3) (j := 0) (v := (ar S 2 0)) b (mw_3 cy a S) (by decide) rfl dX12_packs_33 ?_
  refine z_eqi h_a_2_0 ?_
  refine z_i2l (v := 3) b dX12_packs_34 (by decide) ?_
  refine z_lor (v := 3) b dX12_packs_35 (by decide) ?_
  refine z_lstore_n (lv' := [(1, .long 3), (3, .int 0), (0, .ref (a 0))]) b dX12_packs_36 rfl (by decide) rfl ?_
  refine z_lload_n b dX12_packs_37 rfl rfl ?_
  refine z_iconst (v := 1) b dX12_packs_38 (by decide) ?_
  refine z_lshl (v := 6) b dX12_packs_39 (by decide) ?_
  refine z_aload_n b dX12_packs_40 rfl rfl ?_
  refine z_get (q0 := 0) (k9 := 3) (v := .ref (a 4)) b (mw_0 cy a S) rfl in_X12 (by decide) wf_X12_23 rfl dX12_packs_41 ?_
  refine z_iconst (v := 3) b dX12_packs_44 (by decide) ?_
  refine z_iload_n b dX12_packs_45 rfl rfl ?_
  refine z_imul (v := 0) b dX12_packs_46 (by decide) ?_
  refine z_iload_n b dX12_packs_47 rfl rfl ?_
  refine z_iconst (v := 0) b dX12_packs_48 (by decide) ?_
  refine z_calli b (z_runS (As := [.int 0, .int 0]) (st := [.int 0, .ref (a 4), .long 6]) b (c_X12_other_6 S ) cf_X12_other wm_X12_160 ws_X12_other dX12_packs_49 rfl (Nat.le_of_ble_eq_true rfl) ⟨by decide, by decide, by decide, by decide⟩) (fun r2459 u2460 h2458 => ?_)
  obtain ⟨rfl, rfl⟩ := h2458
  refine z_iadd (v := 1) b dX12_packs_52 (by decide) ?_
  refine y_zald (q0 := 4) (j := 1) (v := (ar S 3 1)) b (mw_4 cy a S) (by decide) rfl dX12_packs_53 ?_
  refine z_eqi h_a_3_1 ?_
  refine z_if_eq_t (tgt := 61) b dX12_packs_54 (by decide) (by decide) ?_
  refine z_lconst (v := 0) b dX12_packs_61 (by decide) ?_
  refine z_lor (v := 6) b dX12_packs_62 (by decide) ?_
  refine z_lstore_n (lv' := [(1, .long 6), (3, .int 0), (0, .ref (a 0))]) b dX12_packs_63 rfl (by decide) rfl ?_
  refine z_iconst (v := 0) b dX12_packs_64 (by decide) ?_
  refine z_istore (lv' := [(4, .int 0), (1, .long 6), (3, .int 0), (0, .ref (a 0))]) b dX12_packs_65 (by decide) rfl ?_
  refine z_iload b dX12_packs_67 rfl ?_
  refine z_iconst (v := 2) b dX12_packs_69 (by decide) ?_
  refine z_icmp_ge_f (tgt := 128) b dX12_packs_70 (by decide) (by decide) ?_
  refine z_lload_n b dX12_packs_73 rfl rfl ?_
  refine z_iconst (v := 3) b dX12_packs_74 (by decide) ?_
  refine z_lshl (v := 48) b dX12_packs_75 (by decide) ?_
  refine z_aload_n b dX12_packs_76 rfl rfl ?_
  refine z_get (q0 := 0) (k9 := 1) (v := .ref (a 2)) b (mw_0 cy a S) rfl in_X12 (by decide) wf_X12_17 rfl dX12_packs_77 ?_
  refine z_iconst (v := 3) b dX12_packs_80 (by decide) ?_
  refine z_iload_n b dX12_packs_81 rfl rfl ?_
  refine z_imul (v := 0) b dX12_packs_82 (by decide) ?_
  refine z_iload_n b dX12_packs_83 rfl rfl ?_
  refine z_iload b dX12_packs_84 rfl ?_
  refine z_calli b (z_runS (As := [.int 0, .int 0]) (st := [.int 0, .ref (a 2), .long 48]) b (c_X12_other_6 S ) cf_X12_other wm_X12_160 ws_X12_other dX12_packs_86 rfl (Nat.le_of_ble_eq_true rfl) ⟨by decide, by decide, by decide, by decide⟩) (fun r2462 u2463 h2461 => ?_)
  obtain ⟨rfl, rfl⟩ := h2461
  refine z_iadd (v := 1) b dX12_packs_89 (by decide) ?_
  refine y_iald (q0 := 2) (j := 1) (v := (ar S 1 1)) b (mw_2 cy a S) (by decide) rfl dX12_packs_90 ?_
  refine z_eqi h_a_1_1 ?_
  refine z_i2l (v := 0) b dX12_packs_91 (by decide) ?_
  refine z_lor (v := 48) b dX12_packs_92 (by decide) ?_
  refine z_lstore_n (lv' := [(1, .long 48), (4, .int 0), (3, .int 0), (0, .ref (a 0))]) b dX12_packs_93 rfl (by decide) rfl ?_
  refine z_lload_n b dX12_packs_94 rfl rfl ?_
  refine z_iconst (v := 1) b dX12_packs_95 (by decide) ?_
  refine z_lshl (v := 96) b dX12_packs_96 (by decide) ?_
  refine z_aload_n b dX12_packs_97 rfl rfl ?_
  refine z_get (q0 := 0) (k9 := 4) (v := .ref (a 5)) b (mw_0 cy a S) rfl in_X12 (by decide) wf_X12_27 rfl dX12_packs_98 ?_
  refine z_iconst (v := 3) b dX12_packs_101 (by decide) ?_
  refine z_iload_n b dX12_packs_102 rfl rfl ?_
  refine z_imul (v := 0) b dX12_packs_103 (by decide) ?_
  refine z_iload_n b dX12_packs_104 rfl rfl ?_
  refine z_iload b dX12_packs_105 rfl ?_
  refine z_calli b (z_runS (As := [.int 0, .int 0]) (st := [.int 0, .ref (a 5), .long 96]) b (c_X12_other_6 S ) cf_X12_other wm_X12_160 ws_X12_other dX12_packs_107 rfl (Nat.le_of_ble_eq_true rfl) ⟨by decide, by decide, by decide, by decide⟩) (fun r2465 u2466 h2464 => ?_)
  obtain ⟨rfl, rfl⟩ := h2464
  refine z_iadd (v := 1) b dX12_packs_110 (by decide) ?_
  refine y_zald (q0 := 5) (j := 1) (v := (ar S 4 1)) b (mw_5 cy a S) (by decide) rfl dX12_packs_111 ?_
  refine z_eqi h_a_4_1 ?_
  refine z_if_eq_t (tgt := 119) b dX12_packs_112 (by decide) (by decide) ?_
  refine z_lconst (v := 0) b dX12_packs_119 (by decide) ?_
  refine z_lor (v := 96) b dX12_packs_120 (by decide) ?_
  refine z_lstore_n (lv' := [(1, .long 96), (4, .int 0), (3, .int 0), (0, .ref (a 0))]) b dX12_packs_121 rfl (by decide) rfl ?_
  refine z_iinc (k9 := 1) (v := 1) (lv' := [(4, .int 1), (1, .long 96), (3, .int 0), (0, .ref (a 0))]) b dX12_packs_122 rfl (by decide) (by decide) rfl ?_
  refine z_goto (tgt := 67) b dX12_packs_125 (by decide) ?_
  refine z_iload b dX12_packs_67 rfl ?_
  refine z_iconst (v := 2) b dX12_packs_69 (by decide) ?_
  refine z_icmp_ge_f (tgt := 128) b dX12_packs_70 (by decide) (by decide) ?_
  refine z_lload_n b dX12_packs_73 rfl rfl ?_
  refine z_iconst (v := 3) b dX12_packs_74 (by decide) ?_
  refine z_lshl (v := 768) b dX12_packs_75 (by decide) ?_
  refine z_aload_n b dX12_packs_76 rfl rfl ?_
  refine z_get (q0 := 0) (k9 := 1) (v := .ref (a 2)) b (mw_0 cy a S) rfl in_X12 (by decide) wf_X12_17 rfl dX12_packs_77 ?_
  refine z_iconst (v := 3) b dX12_packs_80 (by decide) ?_
  refine z_iload_n b dX12_packs_81 rfl rfl ?_
  refine z_imul (v := 0) b dX12_packs_82 (by decide) ?_
  refine z_iload_n b dX12_packs_83 rfl rfl ?_
  refine z_iload b dX12_packs_84 rfl ?_
  refine z_calli b (z_runS (As := [.int 0, .int 1]) (st := [.int 0, .ref (a 2), .long 768]) b (c_X12_other_5 S ) cf_X12_other wm_X12_160 ws_X12_other dX12_packs_86 rfl (Nat.le_of_ble_eq_true rfl) ⟨by decide, by decide, by decide, by decide⟩) (fun r2468 u2469 h2467 => ?_)
  obtain ⟨rfl, rfl⟩ := h2467
  refine z_iadd (v := 2) b dX12_packs_89 (by decide) ?_
  refine y_iald (q0 := 2) (j := 2) (v := (ar S 1 2)) b (mw_2 cy a S) (by decide) rfl dX12_packs_90 ?_
  refine z_eqi h_a_1_2 ?_
  refine z_i2l (v := 0) b dX12_packs_91 (by decide) ?_
  refine z_lor (v := 768) b dX12_packs_92 (by decide) ?_
  refine z_lstore_n (lv' := [(1, .long 768), (4, .int 1), (3, .int 0), (0, .ref (a 0))]) b dX12_packs_93 rfl (by decide) rfl ?_
  refine z_lload_n b dX12_packs_94 rfl rfl ?_
  refine z_iconst (v := 1) b dX12_packs_95 (by decide) ?_
  refine z_lshl (v := 1536) b dX12_packs_96 (by decide) ?_
  refine z_aload_n b dX12_packs_97 rfl rfl ?_
  refine z_get (q0 := 0) (k9 := 4) (v := .ref (a 5)) b (mw_0 cy a S) rfl in_X12 (by decide) wf_X12_27 rfl dX12_packs_98 ?_
  refine z_iconst (v := 3) b dX12_packs_101 (by decide) ?_
  refine z_iload_n b dX12_packs_102 rfl rfl ?_
  refine z_imul (v := 0) b dX12_packs_103 (by decide) ?_
  refine z_iload_n b dX12_packs_104 rfl rfl ?_
  refine z_iload b dX12_packs_105 rfl ?_
  refine z_calli b (z_runS (As := [.int 0, .int 1]) (st := [.int 0, .ref (a 5), .long 1536]) b (c_X12_other_5 S ) cf_X12_other wm_X12_160 ws_X12_other dX12_packs_107 rfl (Nat.le_of_ble_eq_true rfl) ⟨by decide, by decide, by decide, by decide⟩) (fun r2471 u2472 h2470 => ?_)
  obtain ⟨rfl, rfl⟩ := h2470
  refine z_iadd (v := 2) b dX12_packs_110 (by decide) ?_
  refine y_zald (q0 := 5) (j := 2) (v := (ar S 4 2)) b (mw_5 cy a S) (by decide) rfl dX12_packs_111 ?_
  refine z_eqi h_a_4_2 ?_
  refine z_if_eq_t (tgt := 119) b dX12_packs_112 (by decide) (by decide) ?_
  refine z_lconst (v := 0) b dX12_packs_119 (by decide) ?_
  refine z_lor (v := 1536) b dX12_packs_120 (by decide) ?_
  refine z_lstore_n (lv' := [(1, .long 1536), (4, .int 1), (3, .int 0), (0, .ref (a 0))]) b dX12_packs_121 rfl (by decide) rfl ?_
  refine z_iinc (k9 := 1) (v := 2) (lv' := [(4, .int 2), (1, .long 1536), (3, .int 0), (0, .ref (a 0))]) b dX12_packs_122 rfl (by decide) (by decide) rfl ?_
  refine z_goto (tgt := 67) b dX12_packs_125 (by decide) ?_
  refine z_iload b dX12_packs_67 rfl ?_
  refine z_iconst (v := 2) b dX12_packs_69 (by decide) ?_
  refine z_icmp_ge_t (tgt := 128) b dX12_packs_70 (by decide) (by decide) ?_
  refine z_iinc (k9 := 2) (v := 1) (lv' := [(3, .int 1), (4, .int 2), (1, .long 1536), (0, .ref (a 0))]) b dX12_packs_128 rfl (by decide) (by decide) rfl ?_
  refine z_goto (tgt := 8) b dX12_packs_131 (by decide) ?_
  refine z_iload_n b dX12_packs_8 rfl rfl ?_
  refine z_iconst (v := 3) b dX12_packs_9 (by decide) ?_
  refine z_icmp_ge_f (tgt := 134) b dX12_packs_10 (by decide) (by decide) ?_
  refine z_lload_n b dX12_packs_13 rfl rfl ?_
  refine z_iconst (v := 4) b dX12_packs_14 (by decide) ?_
  refine z_lshl (v := 24576) b dX12_packs_15 (by decide) ?_
  refine z_aload_n b dX12_packs_16 rfl rfl ?_
  refine z_get (q0 := 0) (k9 := 0) (v := .ref (a 1)) b (mw_0 cy a S) rfl in_X12 (by decide) wf_X12_13 rfl dX12_packs_17 ?_
  refine z_iload_n b dX12_packs_20 rfl rfl ?_
  exact k

set_option maxHeartbeats 4000000 in
set_option maxRecDepth 100000 in
theorem ch_X12_packs_37 {p : Program} {l : Launch} {e : Env} {R : Room} {s : State} {m : MethodId} {args : Array Value} {below : List Frame} {meth : Method} {c : Code} {D : va_G} {cy : Nat → ClassId} {T0 tB tE : Nat} {A : Nat → Prop} {Q : State → Prop} {a : Nat → Nat} (S : GS)  (h_a_0_1 : ar S 0 1 = 0) (h_a_0_2 : ar S 0 2 = 0) (h_a_1_3 : ar S 1 3 = 0) (h_a_1_5 : ar S 1 5 = 0) (h_a_2_1 : ar S 2 1 = 3) (h_a_2_2 : ar S 2 2 = 3) (h_a_3_5 : ar S 3 5 = 0) (h_a_4_3 : ar S 4 3 = 0) (h_a_4_5 : ar S 4 5 = 0) (b : Bz p R s m args meth c D cy T0 tB tE A 5 cX12_packs RX12 (some .long) "packs" 1 21 0 0) (k : Z p l e R s m args below meth c D A 5 Q 0 0 (mw cy a S) [(1, .long 3221323779), (3, .int 2), (4, .int 2), (0, .ref (a 0))] 37 []) : Z p l e R s m args below meth c D A 5 Q 0 0 (mw cy a S) [(3, .int 1), (4, .int 2), (1, .long 1536), (0, .ref (a 0))] 21 [.int 1, .ref (a 1), .long 24576] := by
  refine y_iald (q0 := 1) (j := 1) (v := (ar S 0 1)) b (mw_1 cy a S) (by decide) rfl dX12_packs_21 ?_
  refine z_eqi h_a_0_1 ?_
  refine z_i2l (v := 0) b dX12_packs_22 (by decide) ?_
  refine z_lor (v := 24576) b dX12_packs_23 (by decide) ?_
  refine z_lstore_n (lv' := [(1, .long 24576), (3, .int 1), (4, .int 2), (0, .ref (a 0))]) b dX12_packs_24 rfl (by decide) rfl ?_
  refine z_lload_n b dX12_packs_25 rfl rfl ?_
  refine z_iconst (v := 2) b dX12_packs_26 (by decide) ?_
  refine z_lshl (v := 98304) b dX12_packs_27 (by decide) ?_
  refine z_aload_n b dX12_packs_28 rfl rfl ?_
  refine z_get (q0 := 0) (k9 := 2) (v := .ref (a 3)) b (mw_0 cy a S) rfl in_X12 (by decide) wf_X12_20 rfl dX12_packs_29 ?_
  refine z_iload_n b dX12_packs_32 rfl rfl ?_
  refine y_iald (q0 := 3) (j := 1) (v := (ar S 2 1)) b (mw_3 cy a S) (by decide) rfl dX12_packs_33 ?_
  refine z_eqi h_a_2_1 ?_
  refine z_i2l (v := 3) b dX12_packs_34 (by decide) ?_
  refine z_lor (v := 98307) b dX12_packs_35 (by decide) ?_
  refine z_lstore_n (lv' := [(1, .long 98307), (3, .int 1), (4, .int 2), (0, .ref (a 0))]) b dX12_packs_36 rfl (by decide) rfl ?_
  refine z_lload_n b dX12_packs_37 rfl rfl ?_
  refine z_iconst (v := 1) b dX12_packs_38 (by decide) ?_
  refine z_lshl (v := 196614) b dX12_packs_39 (by decide) ?_
  refine z_aload_n b dX12_packs_40 rfl rfl ?_
  refine z_get (q0 := 0) (k9 := 3) (v := .ref (a 4)) b (mw_0 cy a S) rfl in_X12 (by decide) wf_X12_23 rfl dX12_packs_41 ?_
  refine z_iconst (v := 3) b dX12_packs_44 (by decide) ?_
  refine z_iload_n b dX12_packs_45 rfl rfl ?_
  refine z_imul (v := 3) b dX12_packs_46 (by decide) ?_
  refine z_iload_n b dX12_packs_47 rfl rfl ?_
  refine z_iconst (v := 0) b dX12_packs_48 (by decide) ?_
  refine z_calli b (z_runS (As := [.int 1, .int 0]) (st := [.int 3, .ref (a 4), .long 196614]) b (c_X12_other_4 S ) cf_X12_other wm_X12_160 ws_X12_other dX12_packs_49 rfl (Nat.le_of_ble_eq_true rfl) ⟨by decide, by decide, by decide, by decide⟩) (fun r2474 u2475 h2473 => ?_)
  obtain ⟨rfl, rfl⟩ := h2473
  refine z_iadd (v := 5) b dX12_packs_52 (by decide) ?_
  refine y_zald (q0 := 4) (j := 5) (v := (ar S 3 5)) b (mw_4 cy a S) (by decide) rfl dX12_packs_53 ?_
  refine z_eqi h_a_3_5 ?_
  refine z_if_eq_t (tgt := 61) b dX12_packs_54 (by decide) (by decide) ?_
  refine z_lconst (v := 0) b dX12_packs_61 (by decide) ?_
  refine z_lor (v := 196614) b dX12_packs_62 (by decide) ?_
  refine z_lstore_n (lv' := [(1, .long 196614), (3, .int 1), (4, .int 2), (0, .ref (a 0))]) b dX12_packs_63 rfl (by decide) rfl ?_
  refine z_iconst (v := 0) b dX12_packs_64 (by decide) ?_
  refine z_istore (lv' := [(4, .int 0), (1, .long 196614), (3, .int 1), (0, .ref (a 0))]) b dX12_packs_65 (by decide) rfl ?_
  refine z_iload b dX12_packs_67 rfl ?_
  refine z_iconst (v := 2) b dX12_packs_69 (by decide) ?_
  refine z_icmp_ge_f (tgt := 128) b dX12_packs_70 (by decide) (by decide) ?_
  refine z_lload_n b dX12_packs_73 rfl rfl ?_
  refine z_iconst (v := 3) b dX12_packs_74 (by decide) ?_
  refine z_lshl (v := 1572912) b dX12_packs_75 (by decide) ?_
  refine z_aload_n b dX12_packs_76 rfl rfl ?_
  refine z_get (q0 := 0) (k9 := 1) (v := .ref (a 2)) b (mw_0 cy a S) rfl in_X12 (by decide) wf_X12_17 rfl dX12_packs_77 ?_
  refine z_iconst (v := 3) b dX12_packs_80 (by decide) ?_
  refine z_iload_n b dX12_packs_81 rfl rfl ?_
  refine z_imul (v := 3) b dX12_packs_82 (by decide) ?_
  refine z_iload_n b dX12_packs_83 rfl rfl ?_
  refine z_iload b dX12_packs_84 rfl ?_
  refine z_calli b (z_runS (As := [.int 1, .int 0]) (st := [.int 3, .ref (a 2), .long 1572912]) b (c_X12_other_4 S ) cf_X12_other wm_X12_160 ws_X12_other dX12_packs_86 rfl (Nat.le_of_ble_eq_true rfl) ⟨by decide, by decide, by decide, by decide⟩) (fun r2477 u2478 h2476 => ?_)
  obtain ⟨rfl, rfl⟩ := h2476
  refine z_iadd (v := 5) b dX12_packs_89 (by decide) ?_
  refine y_iald (q0 := 2) (j := 5) (v := (ar S 1 5)) b (mw_2 cy a S) (by decide) rfl dX12_packs_90 ?_
  refine z_eqi h_a_1_5 ?_
  refine z_i2l (v := 0) b dX12_packs_91 (by decide) ?_
  refine z_lor (v := 1572912) b dX12_packs_92 (by decide) ?_
  refine z_lstore_n (lv' := [(1, .long 1572912), (4, .int 0), (3, .int 1), (0, .ref (a 0))]) b dX12_packs_93 rfl (by decide) rfl ?_
  refine z_lload_n b dX12_packs_94 rfl rfl ?_
  refine z_iconst (v := 1) b dX12_packs_95 (by decide) ?_
  refine z_lshl (v := 3145824) b dX12_packs_96 (by decide) ?_
  refine z_aload_n b dX12_packs_97 rfl rfl ?_
  refine z_get (q0 := 0) (k9 := 4) (v := .ref (a 5)) b (mw_0 cy a S) rfl in_X12 (by decide) wf_X12_27 rfl dX12_packs_98 ?_
  refine z_iconst (v := 3) b dX12_packs_101 (by decide) ?_
  refine z_iload_n b dX12_packs_102 rfl rfl ?_
  refine z_imul (v := 3) b dX12_packs_103 (by decide) ?_
  refine z_iload_n b dX12_packs_104 rfl rfl ?_
  refine z_iload b dX12_packs_105 rfl ?_
  refine z_calli b (z_runS (As := [.int 1, .int 0]) (st := [.int 3, .ref (a 5), .long 3145824]) b (c_X12_other_4 S ) cf_X12_other wm_X12_160 ws_X12_other dX12_packs_107 rfl (Nat.le_of_ble_eq_true rfl) ⟨by decide, by decide, by decide, by decide⟩) (fun r2480 u2481 h2479 => ?_)
  obtain ⟨rfl, rfl⟩ := h2479
  refine z_iadd (v := 5) b dX12_packs_110 (by decide) ?_
  refine y_zald (q0 := 5) (j := 5) (v := (ar S 4 5)) b (mw_5 cy a S) (by decide) rfl dX12_packs_111 ?_
  refine z_eqi h_a_4_5 ?_
  refine z_if_eq_t (tgt := 119) b dX12_packs_112 (by decide) (by decide) ?_
  refine z_lconst (v := 0) b dX12_packs_119 (by decide) ?_
  refine z_lor (v := 3145824) b dX12_packs_120 (by decide) ?_
  refine z_lstore_n (lv' := [(1, .long 3145824), (4, .int 0), (3, .int 1), (0, .ref (a 0))]) b dX12_packs_121 rfl (by decide) rfl ?_
  refine z_iinc (k9 := 1) (v := 1) (lv' := [(4, .int 1), (1, .long 3145824), (3, .int 1), (0, .ref (a 0))]) b dX12_packs_122 rfl (by decide) (by decide) rfl ?_
  refine z_goto (tgt := 67) b dX12_packs_125 (by decide) ?_
  refine z_iload b dX12_packs_67 rfl ?_
  refine z_iconst (v := 2) b dX12_packs_69 (by decide) ?_
  refine z_icmp_ge_f (tgt := 128) b dX12_packs_70 (by decide) (by decide) ?_
  refine z_lload_n b dX12_packs_73 rfl rfl ?_
  refine z_iconst (v := 3) b dX12_packs_74 (by decide) ?_
  refine z_lshl (v := 25166592) b dX12_packs_75 (by decide) ?_
  refine z_aload_n b dX12_packs_76 rfl rfl ?_
  refine z_get (q0 := 0) (k9 := 1) (v := .ref (a 2)) b (mw_0 cy a S) rfl in_X12 (by decide) wf_X12_17 rfl dX12_packs_77 ?_
  refine z_iconst (v := 3) b dX12_packs_80 (by decide) ?_
  refine z_iload_n b dX12_packs_81 rfl rfl ?_
  refine z_imul (v := 3) b dX12_packs_82 (by decide) ?_
  refine z_iload_n b dX12_packs_83 rfl rfl ?_
  refine z_iload b dX12_packs_84 rfl ?_
  refine z_calli b (z_runS (As := [.int 1, .int 1]) (st := [.int 3, .ref (a 2), .long 25166592]) b (c_X12_other_3 S ) cf_X12_other wm_X12_160 ws_X12_other dX12_packs_86 rfl (Nat.le_of_ble_eq_true rfl) ⟨by decide, by decide, by decide, by decide⟩) (fun r2483 u2484 h2482 => ?_)
  obtain ⟨rfl, rfl⟩ := h2482
  refine z_iadd (v := 3) b dX12_packs_89 (by decide) ?_
  refine y_iald (q0 := 2) (j := 3) (v := (ar S 1 3)) b (mw_2 cy a S) (by decide) rfl dX12_packs_90 ?_
  refine z_eqi h_a_1_3 ?_
  refine z_i2l (v := 0) b dX12_packs_91 (by decide) ?_
  refine z_lor (v := 25166592) b dX12_packs_92 (by decide) ?_
  refine z_lstore_n (lv' := [(1, .long 25166592), (4, .int 1), (3, .int 1), (0, .ref (a 0))]) b dX12_packs_93 rfl (by decide) rfl ?_
  refine z_lload_n b dX12_packs_94 rfl rfl ?_
  refine z_iconst (v := 1) b dX12_packs_95 (by decide) ?_
  refine z_lshl (v := 50333184) b dX12_packs_96 (by decide) ?_
  refine z_aload_n b dX12_packs_97 rfl rfl ?_
  refine z_get (q0 := 0) (k9 := 4) (v := .ref (a 5)) b (mw_0 cy a S) rfl in_X12 (by decide) wf_X12_27 rfl dX12_packs_98 ?_
  refine z_iconst (v := 3) b dX12_packs_101 (by decide) ?_
  refine z_iload_n b dX12_packs_102 rfl rfl ?_
  refine z_imul (v := 3) b dX12_packs_103 (by decide) ?_
  refine z_iload_n b dX12_packs_104 rfl rfl ?_
  refine z_iload b dX12_packs_105 rfl ?_
  refine z_calli b (z_runS (As := [.int 1, .int 1]) (st := [.int 3, .ref (a 5), .long 50333184]) b (c_X12_other_3 S ) cf_X12_other wm_X12_160 ws_X12_other dX12_packs_107 rfl (Nat.le_of_ble_eq_true rfl) ⟨by decide, by decide, by decide, by decide⟩) (fun r2486 u2487 h2485 => ?_)
  obtain ⟨rfl, rfl⟩ := h2485
  refine z_iadd (v := 3) b dX12_packs_110 (by decide) ?_
  refine y_zald (q0 := 5) (j := 3) (v := (ar S 4 3)) b (mw_5 cy a S) (by decide) rfl dX12_packs_111 ?_
  refine z_eqi h_a_4_3 ?_
  refine z_if_eq_t (tgt := 119) b dX12_packs_112 (by decide) (by decide) ?_
  refine z_lconst (v := 0) b dX12_packs_119 (by decide) ?_
  refine z_lor (v := 50333184) b dX12_packs_120 (by decide) ?_
  refine z_lstore_n (lv' := [(1, .long 50333184), (4, .int 1), (3, .int 1), (0, .ref (a 0))]) b dX12_packs_121 rfl (by decide) rfl ?_
  refine z_iinc (k9 := 1) (v := 2) (lv' := [(4, .int 2), (1, .long 50333184), (3, .int 1), (0, .ref (a 0))]) b dX12_packs_122 rfl (by decide) (by decide) rfl ?_
  refine z_goto (tgt := 67) b dX12_packs_125 (by decide) ?_
  refine z_iload b dX12_packs_67 rfl ?_
  refine z_iconst (v := 2) b dX12_packs_69 (by decide) ?_
  refine z_icmp_ge_t (tgt := 128) b dX12_packs_70 (by decide) (by decide) ?_
  refine z_iinc (k9 := 2) (v := 2) (lv' := [(3, .int 2), (4, .int 2), (1, .long 50333184), (0, .ref (a 0))]) b dX12_packs_128 rfl (by decide) (by decide) rfl ?_
  refine z_goto (tgt := 8) b dX12_packs_131 (by decide) ?_
  refine z_iload_n b dX12_packs_8 rfl rfl ?_
  refine z_iconst (v := 3) b dX12_packs_9 (by decide) ?_
  refine z_icmp_ge_f (tgt := 134) b dX12_packs_10 (by decide) (by decide) ?_
  refine z_lload_n b dX12_packs_13 rfl rfl ?_
  refine z_iconst (v := 4) b dX12_packs_14 (by decide) ?_
  refine z_lshl (v := 805330944) b dX12_packs_15 (by decide) ?_
  refine z_aload_n b dX12_packs_16 rfl rfl ?_
  refine z_get (q0 := 0) (k9 := 0) (v := .ref (a 1)) b (mw_0 cy a S) rfl in_X12 (by decide) wf_X12_13 rfl dX12_packs_17 ?_
  refine z_iload_n b dX12_packs_20 rfl rfl ?_
  refine y_iald (q0 := 1) (j := 2) (v := (ar S 0 2)) b (mw_1 cy a S) (by decide) rfl dX12_packs_21 ?_
  refine z_eqi h_a_0_2 ?_
  refine z_i2l (v := 0) b dX12_packs_22 (by decide) ?_
  refine z_lor (v := 805330944) b dX12_packs_23 (by decide) ?_
  refine z_lstore_n (lv' := [(1, .long 805330944), (3, .int 2), (4, .int 2), (0, .ref (a 0))]) b dX12_packs_24 rfl (by decide) rfl ?_
  refine z_lload_n b dX12_packs_25 rfl rfl ?_
  refine z_iconst (v := 2) b dX12_packs_26 (by decide) ?_
  refine z_lshl (v := 3221323776) b dX12_packs_27 (by decide) ?_
  refine z_aload_n b dX12_packs_28 rfl rfl ?_
  refine z_get (q0 := 0) (k9 := 2) (v := .ref (a 3)) b (mw_0 cy a S) rfl in_X12 (by decide) wf_X12_20 rfl dX12_packs_29 ?_
  refine z_iload_n b dX12_packs_32 rfl rfl ?_
  refine y_iald (q0 := 3) (j := 2) (v := (ar S 2 2)) b (mw_3 cy a S) (by decide) rfl dX12_packs_33 ?_
  refine z_eqi h_a_2_2 ?_
  refine z_i2l (v := 3) b dX12_packs_34 (by decide) ?_
  refine z_lor (v := 3221323779) b dX12_packs_35 (by decide) ?_
  refine z_lstore_n (lv' := [(1, .long 3221323779), (3, .int 2), (4, .int 2), (0, .ref (a 0))]) b dX12_packs_36 rfl (by decide) rfl ?_
  exact k

set_option maxHeartbeats 4000000 in
set_option maxRecDepth 100000 in
theorem c_X12_packs_17 {l : Launch} {D : va_G} {cy : Nat → ClassId} {T0 tB tE : Nat} {a : Nat → Nat} (S : GS)  (h_i_0 : fi S 0 = 0) (h_a_0_0 : ar S 0 0 = 0) (h_a_2_0 : ar S 2 0 = 3) (h_a_3_1 : ar S 3 1 = 0) (h_a_1_1 : ar S 1 1 = 0) (h_a_4_1 : ar S 4 1 = 0) (h_a_1_2 : ar S 1 2 = 0) (h_a_4_2 : ar S 4 2 = 0) (h_a_0_1 : ar S 0 1 = 0) (h_a_2_1 : ar S 2 1 = 3) (h_a_3_5 : ar S 3 5 = 0) (h_a_1_5 : ar S 1 5 = 0) (h_a_4_5 : ar S 4 5 = 0) (h_a_1_3 : ar S 1 3 = 0) (h_a_4_3 : ar S 4 3 = 0) (h_a_0_2 : ar S 0 2 = 0) (h_a_2_2 : ar S 2 2 = 3) (h_a_3_6 : ar S 3 6 = 1) (h_a_1_6 : ar S 1 6 = 0) (h_a_4_6 : ar S 4 6 = 0) (h_a_1_7 : ar S 1 7 = 0) (h_a_4_7 : ar S 4 7 = 0) : Ct l D cy T0 tB tE yX12_packs cX12_packs 5 (some .long) 1 21 0 0 (mw cy a S) [.ref (a 0)] (QL D (U := GS) (fun r u => 1649317775104 = r ∧ S = u) (mw cy a)) := by
  refine Ct.ofZ RX12 "packs" [(0, .ref (a 0))] rfl rfl rfl rfl (Nat.le_of_ble_eq_true rfl) ?_
  intro p e R s m args below meth c A b
  refine ch_X12_packs_36 S  h_a_0_0 h_a_1_1 h_a_1_2 h_a_2_0 h_a_3_1 h_a_4_1 h_a_4_2 h_i_0  b ?_
  refine ch_X12_packs_37 S  h_a_0_1 h_a_0_2 h_a_1_3 h_a_1_5 h_a_2_1 h_a_2_2 h_a_3_5 h_a_4_3 h_a_4_5  b ?_
  refine z_lload_n b dX12_packs_37 rfl rfl ?_
  refine z_iconst (v := 1) b dX12_packs_38 (by decide) ?_
  refine z_lshl (v := 6442647558) b dX12_packs_39 (by decide) ?_
  refine z_aload_n b dX12_packs_40 rfl rfl ?_
  refine z_get (q0 := 0) (k9 := 3) (v := .ref (a 4)) b (mw_0 cy a S) rfl in_X12 (by decide) wf_X12_23 rfl dX12_packs_41 ?_
  refine z_iconst (v := 3) b dX12_packs_44 (by decide) ?_
  refine z_iload_n b dX12_packs_45 rfl rfl ?_
  refine z_imul (v := 6) b dX12_packs_46 (by decide) ?_
  refine z_iload_n b dX12_packs_47 rfl rfl ?_
  refine z_iconst (v := 0) b dX12_packs_48 (by decide) ?_
  refine z_calli b (z_runS (As := [.int 2, .int 0]) (st := [.int 6, .ref (a 4), .long 6442647558]) b (c_X12_other_2 S ) cf_X12_other wm_X12_160 ws_X12_other dX12_packs_49 rfl (Nat.le_of_ble_eq_true rfl) ⟨by decide, by decide, by decide, by decide⟩) (fun r2489 u2490 h2488 => ?_)
  obtain ⟨rfl, rfl⟩ := h2488
  refine z_iadd (v := 6) b dX12_packs_52 (by decide) ?_
  refine y_zald (q0 := 4) (j := 6) (v := (ar S 3 6)) b (mw_4 cy a S) (by decide) rfl dX12_packs_53 ?_
  refine z_eqi h_a_3_6 ?_
  refine z_if_eq_f (tgt := 61) b dX12_packs_54 (by decide) (by decide) ?_
  refine z_lconst (v := 1) b dX12_packs_57 (by decide) ?_
  refine z_goto (tgt := 62) b dX12_packs_58 (by decide) ?_
  refine z_lor (v := 6442647559) b dX12_packs_62 (by decide) ?_
  refine z_lstore_n (lv' := [(1, .long 6442647559), (3, .int 2), (4, .int 2), (0, .ref (a 0))]) b dX12_packs_63 rfl (by decide) rfl ?_
  refine z_iconst (v := 0) b dX12_packs_64 (by decide) ?_
  refine z_istore (lv' := [(4, .int 0), (1, .long 6442647559), (3, .int 2), (0, .ref (a 0))]) b dX12_packs_65 (by decide) rfl ?_
  refine z_iload b dX12_packs_67 rfl ?_
  refine z_iconst (v := 2) b dX12_packs_69 (by decide) ?_
  refine z_icmp_ge_f (tgt := 128) b dX12_packs_70 (by decide) (by decide) ?_
  refine z_lload_n b dX12_packs_73 rfl rfl ?_
  refine z_iconst (v := 3) b dX12_packs_74 (by decide) ?_
  refine z_lshl (v := 51541180472) b dX12_packs_75 (by decide) ?_
  refine z_aload_n b dX12_packs_76 rfl rfl ?_
  refine z_get (q0 := 0) (k9 := 1) (v := .ref (a 2)) b (mw_0 cy a S) rfl in_X12 (by decide) wf_X12_17 rfl dX12_packs_77 ?_
  refine z_iconst (v := 3) b dX12_packs_80 (by decide) ?_
  refine z_iload_n b dX12_packs_81 rfl rfl ?_
  refine z_imul (v := 6) b dX12_packs_82 (by decide) ?_
  refine z_iload_n b dX12_packs_83 rfl rfl ?_
  refine z_iload b dX12_packs_84 rfl ?_
  refine z_calli b (z_runS (As := [.int 2, .int 0]) (st := [.int 6, .ref (a 2), .long 51541180472]) b (c_X12_other_2 S ) cf_X12_other wm_X12_160 ws_X12_other dX12_packs_86 rfl (Nat.le_of_ble_eq_true rfl) ⟨by decide, by decide, by decide, by decide⟩) (fun r2492 u2493 h2491 => ?_)
  obtain ⟨rfl, rfl⟩ := h2491
  refine z_iadd (v := 6) b dX12_packs_89 (by decide) ?_
  refine y_iald (q0 := 2) (j := 6) (v := (ar S 1 6)) b (mw_2 cy a S) (by decide) rfl dX12_packs_90 ?_
  refine z_eqi h_a_1_6 ?_
  refine z_i2l (v := 0) b dX12_packs_91 (by decide) ?_
  refine z_lor (v := 51541180472) b dX12_packs_92 (by decide) ?_
  refine z_lstore_n (lv' := [(1, .long 51541180472), (4, .int 0), (3, .int 2), (0, .ref (a 0))]) b dX12_packs_93 rfl (by decide) rfl ?_
  refine z_lload_n b dX12_packs_94 rfl rfl ?_
  refine z_iconst (v := 1) b dX12_packs_95 (by decide) ?_
  refine z_lshl (v := 103082360944) b dX12_packs_96 (by decide) ?_
  refine z_aload_n b dX12_packs_97 rfl rfl ?_
  refine z_get (q0 := 0) (k9 := 4) (v := .ref (a 5)) b (mw_0 cy a S) rfl in_X12 (by decide) wf_X12_27 rfl dX12_packs_98 ?_
  refine z_iconst (v := 3) b dX12_packs_101 (by decide) ?_
  refine z_iload_n b dX12_packs_102 rfl rfl ?_
  refine z_imul (v := 6) b dX12_packs_103 (by decide) ?_
  refine z_iload_n b dX12_packs_104 rfl rfl ?_
  refine z_iload b dX12_packs_105 rfl ?_
  refine z_calli b (z_runS (As := [.int 2, .int 0]) (st := [.int 6, .ref (a 5), .long 103082360944]) b (c_X12_other_2 S ) cf_X12_other wm_X12_160 ws_X12_other dX12_packs_107 rfl (Nat.le_of_ble_eq_true rfl) ⟨by decide, by decide, by decide, by decide⟩) (fun r2495 u2496 h2494 => ?_)
  obtain ⟨rfl, rfl⟩ := h2494
  refine z_iadd (v := 6) b dX12_packs_110 (by decide) ?_
  refine y_zald (q0 := 5) (j := 6) (v := (ar S 4 6)) b (mw_5 cy a S) (by decide) rfl dX12_packs_111 ?_
  refine z_eqi h_a_4_6 ?_
  refine z_if_eq_t (tgt := 119) b dX12_packs_112 (by decide) (by decide) ?_
  refine z_lconst (v := 0) b dX12_packs_119 (by decide) ?_
  refine z_lor (v := 103082360944) b dX12_packs_120 (by decide) ?_
  refine z_lstore_n (lv' := [(1, .long 103082360944), (4, .int 0), (3, .int 2), (0, .ref (a 0))]) b dX12_packs_121 rfl (by decide) rfl ?_
  refine z_iinc (k9 := 1) (v := 1) (lv' := [(4, .int 1), (1, .long 103082360944), (3, .int 2), (0, .ref (a 0))]) b dX12_packs_122 rfl (by decide) (by decide) rfl ?_
  refine z_goto (tgt := 67) b dX12_packs_125 (by decide) ?_
  refine z_iload b dX12_packs_67 rfl ?_
  refine z_iconst (v := 2) b dX12_packs_69 (by decide) ?_
  refine z_icmp_ge_f (tgt := 128) b dX12_packs_70 (by decide) (by decide) ?_
  refine z_lload_n b dX12_packs_73 rfl rfl ?_
  refine z_iconst (v := 3) b dX12_packs_74 (by decide) ?_
  refine z_lshl (v := 824658887552) b dX12_packs_75 (by decide) ?_
  refine z_aload_n b dX12_packs_76 rfl rfl ?_
  refine z_get (q0 := 0) (k9 := 1) (v := .ref (a 2)) b (mw_0 cy a S) rfl in_X12 (by decide) wf_X12_17 rfl dX12_packs_77 ?_
  refine z_iconst (v := 3) b dX12_packs_80 (by decide) ?_
  refine z_iload_n b dX12_packs_81 rfl rfl ?_
  refine z_imul (v := 6) b dX12_packs_82 (by decide) ?_
  refine z_iload_n b dX12_packs_83 rfl rfl ?_
  refine z_iload b dX12_packs_84 rfl ?_
  refine z_calli b (z_runS (As := [.int 2, .int 1]) (st := [.int 6, .ref (a 2), .long 824658887552]) b (c_X12_other S ) cf_X12_other wm_X12_160 ws_X12_other dX12_packs_86 rfl (Nat.le_of_ble_eq_true rfl) ⟨by decide, by decide, by decide, by decide⟩) (fun r2498 u2499 h2497 => ?_)
  obtain ⟨rfl, rfl⟩ := h2497
  refine z_iadd (v := 7) b dX12_packs_89 (by decide) ?_
  refine y_iald (q0 := 2) (j := 7) (v := (ar S 1 7)) b (mw_2 cy a S) (by decide) rfl dX12_packs_90 ?_
  refine z_eqi h_a_1_7 ?_
  refine z_i2l (v := 0) b dX12_packs_91 (by decide) ?_
  refine z_lor (v := 824658887552) b dX12_packs_92 (by decide) ?_
  refine z_lstore_n (lv' := [(1, .long 824658887552), (4, .int 1), (3, .int 2), (0, .ref (a 0))]) b dX12_packs_93 rfl (by decide) rfl ?_
  refine z_lload_n b dX12_packs_94 rfl rfl ?_
  refine z_iconst (v := 1) b dX12_packs_95 (by decide) ?_
  refine z_lshl (v := 1649317775104) b dX12_packs_96 (by decide) ?_
  refine z_aload_n b dX12_packs_97 rfl rfl ?_
  refine z_get (q0 := 0) (k9 := 4) (v := .ref (a 5)) b (mw_0 cy a S) rfl in_X12 (by decide) wf_X12_27 rfl dX12_packs_98 ?_
  refine z_iconst (v := 3) b dX12_packs_101 (by decide) ?_
  refine z_iload_n b dX12_packs_102 rfl rfl ?_
  refine z_imul (v := 6) b dX12_packs_103 (by decide) ?_
  refine z_iload_n b dX12_packs_104 rfl rfl ?_
  refine z_iload b dX12_packs_105 rfl ?_
  refine z_calli b (z_runS (As := [.int 2, .int 1]) (st := [.int 6, .ref (a 5), .long 1649317775104]) b (c_X12_other S ) cf_X12_other wm_X12_160 ws_X12_other dX12_packs_107 rfl (Nat.le_of_ble_eq_true rfl) ⟨by decide, by decide, by decide, by decide⟩) (fun r2501 u2502 h2500 => ?_)
  obtain ⟨rfl, rfl⟩ := h2500
  refine z_iadd (v := 7) b dX12_packs_110 (by decide) ?_
  refine y_zald (q0 := 5) (j := 7) (v := (ar S 4 7)) b (mw_5 cy a S) (by decide) rfl dX12_packs_111 ?_
  refine z_eqi h_a_4_7 ?_
  refine z_if_eq_t (tgt := 119) b dX12_packs_112 (by decide) (by decide) ?_
  refine z_lconst (v := 0) b dX12_packs_119 (by decide) ?_
  refine z_lor (v := 1649317775104) b dX12_packs_120 (by decide) ?_
  refine z_lstore_n (lv' := [(1, .long 1649317775104), (4, .int 1), (3, .int 2), (0, .ref (a 0))]) b dX12_packs_121 rfl (by decide) rfl ?_
  refine z_iinc (k9 := 1) (v := 2) (lv' := [(4, .int 2), (1, .long 1649317775104), (3, .int 2), (0, .ref (a 0))]) b dX12_packs_122 rfl (by decide) (by decide) rfl ?_
  refine z_goto (tgt := 67) b dX12_packs_125 (by decide) ?_
  refine z_iload b dX12_packs_67 rfl ?_
  refine z_iconst (v := 2) b dX12_packs_69 (by decide) ?_
  refine z_icmp_ge_t (tgt := 128) b dX12_packs_70 (by decide) (by decide) ?_
  refine z_iinc (k9 := 2) (v := 3) (lv' := [(3, .int 3), (4, .int 2), (1, .long 1649317775104), (0, .ref (a 0))]) b dX12_packs_128 rfl (by decide) (by decide) rfl ?_
  refine z_goto (tgt := 8) b dX12_packs_131 (by decide) ?_
  refine z_iload_n b dX12_packs_8 rfl rfl ?_
  refine z_iconst (v := 3) b dX12_packs_9 (by decide) ?_
  refine z_icmp_ge_t (tgt := 134) b dX12_packs_10 (by decide) (by decide) ?_
  refine z_lload_n b dX12_packs_134 rfl rfl ?_
  exact z_lret (u := S) b rfl dX12_packs_135 ⟨rfl, rfl⟩ rfl (by decide) (by decide)

set_option maxHeartbeats 4000000 in
set_option maxRecDepth 100000 in
theorem c_X12_told_17 {l : Launch} {D : va_G} {cy : Nat → ClassId} {T0 tB tE : Nat} {a : Nat → Nat} (S : GS)  (h_i_0 : fi S 0 = 0) (h_a_0_0 : ar S 0 0 = 0) (h_a_2_0 : ar S 2 0 = 3) (h_a_3_1 : ar S 3 1 = 0) (h_a_1_1 : ar S 1 1 = 0) (h_a_4_1 : ar S 4 1 = 0) (h_a_1_2 : ar S 1 2 = 0) (h_a_4_2 : ar S 4 2 = 0) (h_a_0_1 : ar S 0 1 = 0) (h_a_2_1 : ar S 2 1 = 3) (h_a_3_5 : ar S 3 5 = 0) (h_a_1_5 : ar S 1 5 = 0) (h_a_4_5 : ar S 4 5 = 0) (h_a_1_3 : ar S 1 3 = 0) (h_a_4_3 : ar S 4 3 = 0) (h_a_0_2 : ar S 0 2 = 0) (h_a_2_2 : ar S 2 2 = 3) (h_a_3_6 : ar S 3 6 = 1) (h_a_1_6 : ar S 1 6 = 0) (h_a_4_6 : ar S 4 6 = 0) (h_a_1_7 : ar S 1 7 = 0) (h_a_4_7 : ar S 4 7 = 0) : Ct l D cy T0 tB tE yX12_told cX12_told 1 (some .boolean) 2 45 0 0 (mw cy a S) [.ref (a 0)] (QI D (U := GS) (fun r u => 1 = r ∧ sl S 0 1649317775104 = u) (mw cy a)) := by
  refine Ct.ofZ RX12 "told" [(0, .ref (a 0))] rfl rfl rfl rfl (Nat.le_of_ble_eq_true rfl) ?_
  intro p e R s m args below meth c A b
  refine z_aload_n b dX12_told_0 rfl rfl ?_
  refine z_aload_n b dX12_told_1 rfl rfl ?_
  refine z_calll b (z_runV (q0 := 0) (As := []) (st := [.ref (a 0)]) b (c_X12_packs_17 S h_i_0 h_a_0_0 h_a_2_0 h_a_3_1 h_a_1_1 h_a_4_1 h_a_1_2 h_a_4_2 h_a_0_1 h_a_2_1 h_a_3_5 h_a_1_5 h_a_4_5 h_a_1_3 h_a_4_3 h_a_0_2 h_a_2_2 h_a_3_6 h_a_1_6 h_a_4_6 h_a_1_7 h_a_4_7) cf_X12_packs (mw_0 cy a S) rfl wm_X12_149 wi_X12_packs ws_X12_packs dX12_told_2 rfl (Nat.le_of_ble_eq_true rfl) ⟨by decide, by decide, by decide, by decide⟩) (fun r2504 u2505 h2503 => ?_)
  obtain ⟨rfl, rfl⟩ := h2503
  refine z_put (q0 := 0) (k9 := 6) tyX12 b (mw_0 cy a S) rfl in_X12 tyX12_ok nmX12 (by decide) wf_X12_153 rfl rfl rfl rfl (Nat.le_of_ble_eq_true rfl) dX12_told_5 (mwp_0_6 cy a S 1649317775104) ?_
  refine z_iconst (v := 1) b dX12_told_8 (by decide) ?_
  exact z_zret (u := (sl S 0 1649317775104)) b rfl (by decide) dX12_told_9 ⟨rfl, rfl⟩ rfl (by decide) (by decide)

set_option maxHeartbeats 4000000 in
set_option maxRecDepth 100000 in
theorem c_X12_kin_34 {l : Launch} {D : va_G} {cy : Nat → ClassId} {T0 tB tE : Nat} {a : Nat → Nat} (S : GS)  (h_l_0 : fl S 0 = 1649317774848) (h_a_4_7 : ar S 4 7 = 0) (h_a_1_7 : ar S 1 7 = 0) (h_a_4_6 : ar S 4 6 = 0) (h_a_1_6 : ar S 1 6 = 0) (h_a_3_6 : ar S 3 6 = 0) (h_a_3_2 : ar S 3 2 = 0) (h_a_2_2 : ar S 2 2 = 3) (h_a_0_2 : ar S 0 2 = 0) (h_a_4_3 : ar S 4 3 = 0) (h_a_1_3 : ar S 1 3 = 0) (h_a_4_5 : ar S 4 5 = 0) (h_a_1_5 : ar S 1 5 = 0) (h_a_3_5 : ar S 3 5 = 0) (h_a_3_7 : ar S 3 7 = 0) (h_a_2_1 : ar S 2 1 = 3) (h_a_0_1 : ar S 0 1 = 0) (h_a_4_2 : ar S 4 2 = 0) (h_a_1_2 : ar S 1 2 = 0) (h_a_4_1 : ar S 4 1 = 0) (h_a_1_1 : ar S 1 1 = 0) (h_a_3_1 : ar S 3 1 = 0) (h_a_3_3 : ar S 3 3 = 0) (h_a_2_0 : ar S 2 0 = 3) (h_a_0_0 : ar S 0 0 = 0) (h_i_0 : fi S 0 = 0) : Ct l D cy T0 tB tE yX12_kin cX12_kin 5 (some .boolean) 3 65 0 0 (mw cy a S) [.ref (a 0), .int 0, .int 2, .int 0, .int 1] (QI D (U := GS) (fun r u => 1 = r ∧ sl (su (su S 3 2 1) 3 6 1) 0 1649317775104 = u) (mw cy a)) := by
  refine Ct.ofZ RX12 "kin" [(0, .ref (a 0)), (1, .int 0), (2, .int 2), (3, .int 0), (4, .int 1)] rfl rfl rfl rfl (Nat.le_of_ble_eq_true rfl) ?_
  intro p e R s m args below meth c A b
  refine z_iload_n b dX12_kin_0 rfl rfl ?_
  refine z_calli b (z_runS (As := [.int 0]) (st := []) b (c_X12_isOne_2 S ) cf_X12_isOne wm_X12_170 ws_X12_isOne dX12_kin_1 rfl (Nat.le_of_ble_eq_true rfl) ⟨by decide, by decide, by decide, by decide⟩) (fun r2447 u2448 h2446 => ?_)
  obtain ⟨rfl, rfl⟩ := h2446
  refine z_if_eq_f (tgt := 28) b dX12_kin_4 (by decide) (by decide) ?_
  refine z_iload_n b dX12_kin_7 rfl rfl ?_
  refine z_calli b (z_runS (As := [.int 2]) (st := []) b (c_X12_isOne_4 S ) cf_X12_isOne wm_X12_170 ws_X12_isOne dX12_kin_8 rfl (Nat.le_of_ble_eq_true rfl) ⟨by decide, by decide, by decide, by decide⟩) (fun r2450 u2451 h2449 => ?_)
  obtain ⟨rfl, rfl⟩ := h2449
  refine z_if_eq_f (tgt := 28) b dX12_kin_11 (by decide) (by decide) ?_
  refine z_iload_n b dX12_kin_14 rfl rfl ?_
  refine z_iload_n b dX12_kin_15 rfl rfl ?_
  refine z_icmp_eq_f (tgt := 28) b dX12_kin_16 (by decide) (by decide) ?_
  refine z_iload_n b dX12_kin_19 rfl rfl ?_
  refine z_iconst (v := 0) b dX12_kin_20 (by decide) ?_
  refine z_iconst (v := 1) b dX12_kin_21 (by decide) ?_
  refine z_calli b (z_runS (As := [.int 0, .int 0, .int 1]) (st := []) b (c_X12_isIn_9 S ) cf_X12_isIn wm_X12_1 ws_X12_isIn dX12_kin_22 rfl (Nat.le_of_ble_eq_true rfl) ⟨by decide, by decide, by decide, by decide⟩) (fun r2453 u2454 h2452 => ?_)
  obtain ⟨rfl, rfl⟩ := h2452
  refine z_if_ne_t (tgt := 30) b dX12_kin_25 (by decide) (by decide) ?_
  refine z_aload_n b dX12_kin_30 rfl rfl ?_
  refine z_aload_n b dX12_kin_31 rfl rfl ?_
  refine z_get (q0 := 0) (k9 := 6) (v := .long (fl S 0)) b (mw_0 cy a S) rfl in_X12 (by decide) wf_X12_153 rfl dX12_kin_32 ?_
  refine z_eql h_l_0 ?_
  refine z_callv b (z_runV (q0 := 0) (As := [.long 1649317774848]) (st := []) b (c_X12_takes S h_a_4_7 h_a_1_7 h_a_4_6 h_a_1_6 h_a_3_6 h_a_3_2 h_a_2_2 h_a_0_2 h_a_4_3 h_a_1_3 h_a_4_5 h_a_1_5 h_a_3_5 h_a_3_7 h_a_2_1 h_a_0_1 h_a_4_2 h_a_1_2 h_a_4_1 h_a_1_1 h_a_3_1 h_a_3_3 h_a_2_0 h_a_0_0 h_i_0) cf_X12_takes (mw_0 cy a S) rfl wm_X12_174 wi_X12_takes ws_X12_takes dX12_kin_35 rfl (Nat.le_of_ble_eq_true rfl) ⟨by decide, by decide, by decide, by decide⟩) (fun u2457 h2455 => ?_)
  obtain rfl := h2455
  refine z_iload_n b dX12_kin_38 rfl rfl ?_
  refine z_iconst (v := 1) b dX12_kin_39 (by decide) ?_
  refine z_icmp_ne_t (tgt := 58) b dX12_kin_40 (by decide) (by decide) ?_
  refine z_aload_n b dX12_kin_58 rfl rfl ?_
  refine z_get (q0 := 0) (k9 := 3) (v := .ref (a 4)) b (mw_0 cy a S) rfl in_X12 (by decide) wf_X12_23 rfl dX12_kin_59 ?_
  refine z_iconst (v := 3) b dX12_kin_62 (by decide) ?_
  refine z_iload_n b dX12_kin_63 rfl rfl ?_
  refine z_imul (v := 0) b dX12_kin_64 (by decide) ?_
  refine z_iload_n b dX12_kin_65 rfl rfl ?_
  refine z_iadd (v := 2) b dX12_kin_66 (by decide) ?_
  refine z_iload b dX12_kin_67 rfl ?_
  refine y_zast (q0 := 4) (j := 2) b (mw_4 cy a S) (by decide) (by decide) dX12_kin_69 (mwa_4 cy a S 2 1) ?_
  refine z_aload_n b dX12_kin_70 rfl rfl ?_
  refine z_get (q0 := 0) (k9 := 3) (v := .ref (a 4)) b (mw_0 cy a (su S 3 2 1)) rfl in_X12 (by decide) wf_X12_23 rfl dX12_kin_71 ?_
  refine z_iconst (v := 3) b dX12_kin_74 (by decide) ?_
  refine z_iload_n b dX12_kin_75 rfl rfl ?_
  refine z_imul (v := 6) b dX12_kin_76 (by decide) ?_
  refine z_iload_n b dX12_kin_77 rfl rfl ?_
  refine z_iadd (v := 6) b dX12_kin_78 (by decide) ?_
  refine z_iload b dX12_kin_79 rfl ?_
  refine y_zast (q0 := 4) (j := 6) b (mw_4 cy a (su S 3 2 1)) (by decide) (by decide) dX12_kin_81 (mwa_4 cy a (su S 3 2 1) 6 1) ?_
  refine z_aload_n b dX12_kin_82 rfl rfl ?_
  refine z_calli b (z_runV (q0 := 0) (As := []) (st := []) b (c_X12_told_17 (su (su S 3 2 1) 3 6 1) h_i_0 h_a_0_0 h_a_2_0 h_a_3_1 h_a_1_1 h_a_4_1 h_a_1_2 h_a_4_2 h_a_0_1 h_a_2_1 h_a_3_5 h_a_1_5 h_a_4_5 h_a_1_3 h_a_4_3 h_a_0_2 h_a_2_2 rfl h_a_1_6 h_a_4_6 h_a_1_7 h_a_4_7) cf_X12_told (mw_0 cy a (su (su S 3 2 1) 3 6 1)) rfl wm_X12_178 wi_X12_told ws_X12_told dX12_kin_83 rfl (Nat.le_of_ble_eq_true rfl) ⟨by decide, by decide, by decide, by decide⟩) (fun r2507 u2508 h2506 => ?_)
  obtain ⟨rfl, rfl⟩ := h2506
  exact z_zret (u := (sl (su (su S 3 2 1) 3 6 1) 0 1649317775104)) b rfl (by decide) dX12_kin_86 ⟨rfl, rfl⟩ rfl (by decide) (by decide)

set_option maxHeartbeats 4000000 in
set_option maxRecDepth 100000 in
theorem c_X9_set_24 {l : Launch} {D : va_G} {cy : Nat → ClassId} {T0 tB tE : Nat} {a : Nat → Nat} {rw : Nat → Option Nat} (S : GS)  (h_a_4_32 : ar S 4 32 = 0) : Ct l D cy T0 tB tE yX9_set cX9_set 3 none 0 0 0 0 (cw cy tE a rw S) [.ref (a 14), .int 32, .int 0] (QV D (U := GS) (fun u => S = u) (cw cy tE a rw)) := by
  refine Ct.ofZ RX9 "set" [(0, .ref (a 14)), (1, .int 32), (2, .int 0)] rfl rfl rfl rfl (Nat.le_of_ble_eq_true rfl) ?_
  intro p e R s m args below meth c A b
  refine z_iload_n b dX9_set_0 rfl rfl ?_
  refine z_if_lt_f (tgt := 20) b dX9_set_1 (by decide) (by decide) ?_
  refine z_iload_n b dX9_set_4 rfl rfl ?_
  refine z_aload_n b dX9_set_5 rfl rfl ?_
  refine z_get (q0 := 14) (k9 := 0) (v := .ref (a 15)) b (cw_14 cy tE a rw S) rfl in_X9 (by decide) wf_X9_11 rfl dX9_set_6 ?_
  refine z_alen (q0 := 15) (t0 := 0) (v := 51) b (cw_15 cy tE a rw S) rfl rfl dX9_set_9 ?_
  refine z_icmp_ge_f (tgt := 20) b dX9_set_10 (by decide) (by decide) ?_
  refine z_aload_n b dX9_set_13 rfl rfl ?_
  refine z_get (q0 := 14) (k9 := 0) (v := .ref (a 15)) b (cw_14 cy tE a rw S) rfl in_X9 (by decide) wf_X9_11 rfl dX9_set_14 ?_
  refine z_iload_n b dX9_set_17 rfl rfl ?_
  refine z_iload_n b dX9_set_18 rfl rfl ?_
  refine y_iast (q0 := 15) (j := 32) b (cw_15 cy tE a rw S) (by decide) dX9_set_19 ((cwa_15 cy tE a rw S 32 0).trans (congrArg (cw cy tE a rw) (su_same h_a_4_32))) ?_
  exact z_vret (u := S) b rfl dX9_set_20 rfl rfl (by decide) (by decide)

set_option maxHeartbeats 4000000 in
set_option maxRecDepth 100000 in
theorem c_X11_kin_35 {l : Launch} {D : va_G} {cy : Nat → ClassId} {T0 tB tE : Nat} {a : Nat → Nat} {rw : Nat → Option Nat} (S : GS)  (h_a_4_32 : ar S 4 32 = 0) (h_i_24 : fi S 24 = 0) : Ct l D cy T0 tB tE yX11_kin cX11_kin 6 (some .boolean) 2 41 0 0 (cw cy tE a rw S) [.ref (a 0), .int 0, .int 2, .int 1, .int 0] (QI D (U := GS) (fun r u => 1 = r ∧ S = u) (cw cy tE a rw)) := by
  refine Ct.ofZ RX11 "kin" [(0, .ref (a 0)), (1, .int 0), (2, .int 2), (3, .int 1), (4, .int 0)] rfl rfl rfl rfl (Nat.le_of_ble_eq_true rfl) ?_
  intro p e R s m args below meth c A b
  refine z_iload_n b dX11_kin_0 rfl rfl ?_
  refine z_iload_n b dX11_kin_1 rfl rfl ?_
  refine z_calli b (z_runS (As := [.int 0, .int 2]) (st := []) b (c_X11_arePair_9 S ) cf_X11_arePair wm_X11_84 ws_X11_arePair dX11_kin_2 rfl (Nat.le_of_ble_eq_true rfl) ⟨by decide, by decide, by decide, by decide⟩) (fun r2510 u2511 h2509 => ?_)
  obtain ⟨rfl, rfl⟩ := h2509
  refine z_if_eq_f (tgt := 16) b dX11_kin_5 (by decide) (by decide) ?_
  refine z_iload_n b dX11_kin_8 rfl rfl ?_
  refine z_iconst (v := 1) b dX11_kin_9 (by decide) ?_
  refine z_calli b (z_runS (As := [.int 1, .int 1]) (st := []) b (c_X11_isWithin_6 S ) cf_X11_isWithin wm_X11_73 ws_X11_isWithin dX11_kin_10 rfl (Nat.le_of_ble_eq_true rfl) ⟨by decide, by decide, by decide, by decide⟩) (fun r2513 u2514 h2512 => ?_)
  obtain ⟨rfl, rfl⟩ := h2512
  refine z_if_ne_t (tgt := 18) b dX11_kin_13 (by decide) (by decide) ?_
  refine z_iload b dX11_kin_18 rfl ?_
  refine z_if_eq_t (tgt := 27) b dX11_kin_20 (by decide) (by decide) ?_
  refine z_iconst (v := 0) b dX11_kin_27 (by decide) ?_
  refine z_istore (lv' := [(5, .int 0), (0, .ref (a 0)), (1, .int 0), (2, .int 2), (3, .int 1), (4, .int 0)]) b dX11_kin_28 (by decide) rfl ?_
  refine z_iload_n b dX11_kin_30 rfl rfl ?_
  refine z_if_ne_t (tgt := 71) b dX11_kin_31 (by decide) (by decide) ?_
  refine z_aload_n b dX11_kin_71 rfl rfl ?_
  refine z_get (q0 := 0) (k9 := 4) (v := .ref (a 14)) b (cw_0 cy tE a rw S) rfl in_X11 (by decide) wf_X11_34 rfl dX11_kin_72 ?_
  refine z_bipush (v := 30) b dX11_kin_75 (by decide) ?_
  refine z_iconst (v := 3) b dX11_kin_77 (by decide) ?_
  refine z_iload_n b dX11_kin_78 rfl rfl ?_
  refine z_imul (v := 0) b dX11_kin_79 (by decide) ?_
  refine z_iadd (v := 30) b dX11_kin_80 (by decide) ?_
  refine z_iload_n b dX11_kin_81 rfl rfl ?_
  refine z_iadd (v := 32) b dX11_kin_82 (by decide) ?_
  refine z_iload b dX11_kin_83 rfl ?_
  refine z_callv b (z_runV (q0 := 14) (As := [.int 32, .int 0]) (st := []) b (c_X9_set_24 S h_a_4_32) cf_X9_set (cw_14 cy tE a rw S) rfl wm_X11_77 wi_X9_set ws_X9_set dX11_kin_85 rfl (Nat.le_of_ble_eq_true rfl) ⟨by decide, by decide, by decide, by decide⟩) (fun u2517 h2515 => ?_)
  obtain rfl := h2515
  refine z_aload_n b dX11_kin_88 rfl rfl ?_
  refine z_get (q0 := 0) (k9 := 6) (v := .ref (a 25)) b (cw_0 cy tE a rw S) rfl in_X11 (by decide) wf_X11_52 rfl dX11_kin_89 ?_
  refine z_callv b (z_runV (q0 := 25) (As := []) (st := []) b (c_X8_forget S h_i_24) cf_X8_forget (cw_25 cy tE a rw S) rfl wm_X11_81 wi_X8_forget ws_X8_forget dX11_kin_92 rfl (Nat.le_of_ble_eq_true rfl) ⟨by decide, by decide, by decide, by decide⟩) (fun u2520 h2518 => ?_)
  obtain rfl := h2518
  refine z_iconst (v := 1) b dX11_kin_95 (by decide) ?_
  exact z_zret (u := S) b rfl (by decide) dX11_kin_96 ⟨rfl, rfl⟩ rfl (by decide) (by decide)

set_option maxHeartbeats 4000000 in
set_option maxRecDepth 100000 in
theorem c_X12_kin_35 {l : Launch} {D : va_G} {cy : Nat → ClassId} {T0 tB tE : Nat} {a : Nat → Nat} (S : GS)  (h_l_0 : fl S 0 = 1649317774848) (h_a_4_7 : ar S 4 7 = 0) (h_a_1_7 : ar S 1 7 = 0) (h_a_4_6 : ar S 4 6 = 0) (h_a_1_6 : ar S 1 6 = 0) (h_a_3_6 : ar S 3 6 = 0) (h_a_3_2 : ar S 3 2 = 0) (h_a_2_2 : ar S 2 2 = 3) (h_a_0_2 : ar S 0 2 = 0) (h_a_4_3 : ar S 4 3 = 0) (h_a_1_3 : ar S 1 3 = 0) (h_a_4_5 : ar S 4 5 = 0) (h_a_1_5 : ar S 1 5 = 0) (h_a_3_5 : ar S 3 5 = 0) (h_a_3_7 : ar S 3 7 = 0) (h_a_2_1 : ar S 2 1 = 3) (h_a_0_1 : ar S 0 1 = 0) (h_a_4_2 : ar S 4 2 = 0) (h_a_1_2 : ar S 1 2 = 0) (h_a_4_1 : ar S 4 1 = 0) (h_a_1_1 : ar S 1 1 = 0) (h_a_3_1 : ar S 3 1 = 0) (h_a_3_3 : ar S 3 3 = 0) (h_a_2_0 : ar S 2 0 = 3) (h_a_0_0 : ar S 0 0 = 0) (h_i_0 : fi S 0 = 0) : Ct l D cy T0 tB tE yX12_kin cX12_kin 5 (some .boolean) 3 65 0 0 (mw cy a S) [.ref (a 0), .int 0, .int 2, .int 1, .int 0] (QI D (U := GS) (fun r u => 1 = r ∧ S = u) (mw cy a)) := by
  refine Ct.ofZ RX12 "kin" [(0, .ref (a 0)), (1, .int 0), (2, .int 2), (3, .int 1), (4, .int 0)] rfl rfl rfl rfl (Nat.le_of_ble_eq_true rfl) ?_
  intro p e R s m args below meth c A b
  refine z_iload_n b dX12_kin_0 rfl rfl ?_
  refine z_calli b (z_runS (As := [.int 0]) (st := []) b (c_X12_isOne_2 S ) cf_X12_isOne wm_X12_170 ws_X12_isOne dX12_kin_1 rfl (Nat.le_of_ble_eq_true rfl) ⟨by decide, by decide, by decide, by decide⟩) (fun r2522 u2523 h2521 => ?_)
  obtain ⟨rfl, rfl⟩ := h2521
  refine z_if_eq_f (tgt := 28) b dX12_kin_4 (by decide) (by decide) ?_
  refine z_iload_n b dX12_kin_7 rfl rfl ?_
  refine z_calli b (z_runS (As := [.int 2]) (st := []) b (c_X12_isOne_4 S ) cf_X12_isOne wm_X12_170 ws_X12_isOne dX12_kin_8 rfl (Nat.le_of_ble_eq_true rfl) ⟨by decide, by decide, by decide, by decide⟩) (fun r2525 u2526 h2524 => ?_)
  obtain ⟨rfl, rfl⟩ := h2524
  refine z_if_eq_f (tgt := 28) b dX12_kin_11 (by decide) (by decide) ?_
  refine z_iload_n b dX12_kin_14 rfl rfl ?_
  refine z_iload_n b dX12_kin_15 rfl rfl ?_
  refine z_icmp_eq_f (tgt := 28) b dX12_kin_16 (by decide) (by decide) ?_
  refine z_iload_n b dX12_kin_19 rfl rfl ?_
  refine z_iconst (v := 0) b dX12_kin_20 (by decide) ?_
  refine z_iconst (v := 1) b dX12_kin_21 (by decide) ?_
  refine z_calli b (z_runS (As := [.int 1, .int 0, .int 1]) (st := []) b (c_X12_isIn_10 S ) cf_X12_isIn wm_X12_1 ws_X12_isIn dX12_kin_22 rfl (Nat.le_of_ble_eq_true rfl) ⟨by decide, by decide, by decide, by decide⟩) (fun r2528 u2529 h2527 => ?_)
  obtain ⟨rfl, rfl⟩ := h2527
  refine z_if_ne_t (tgt := 30) b dX12_kin_25 (by decide) (by decide) ?_
  refine z_aload_n b dX12_kin_30 rfl rfl ?_
  refine z_aload_n b dX12_kin_31 rfl rfl ?_
  refine z_get (q0 := 0) (k9 := 6) (v := .long (fl S 0)) b (mw_0 cy a S) rfl in_X12 (by decide) wf_X12_153 rfl dX12_kin_32 ?_
  refine z_eql h_l_0 ?_
  refine z_callv b (z_runV (q0 := 0) (As := [.long 1649317774848]) (st := []) b (c_X12_takes S h_a_4_7 h_a_1_7 h_a_4_6 h_a_1_6 h_a_3_6 h_a_3_2 h_a_2_2 h_a_0_2 h_a_4_3 h_a_1_3 h_a_4_5 h_a_1_5 h_a_3_5 h_a_3_7 h_a_2_1 h_a_0_1 h_a_4_2 h_a_1_2 h_a_4_1 h_a_1_1 h_a_3_1 h_a_3_3 h_a_2_0 h_a_0_0 h_i_0) cf_X12_takes (mw_0 cy a S) rfl wm_X12_174 wi_X12_takes ws_X12_takes dX12_kin_35 rfl (Nat.le_of_ble_eq_true rfl) ⟨by decide, by decide, by decide, by decide⟩) (fun u2532 h2530 => ?_)
  obtain rfl := h2530
  refine z_iload_n b dX12_kin_38 rfl rfl ?_
  refine z_iconst (v := 1) b dX12_kin_39 (by decide) ?_
  refine z_icmp_ne_f (tgt := 58) b dX12_kin_40 (by decide) (by decide) ?_
  refine z_aload_n b dX12_kin_43 rfl rfl ?_
  refine z_get (q0 := 0) (k9 := 4) (v := .ref (a 5)) b (mw_0 cy a S) rfl in_X12 (by decide) wf_X12_27 rfl dX12_kin_44 ?_
  refine z_iconst (v := 3) b dX12_kin_47 (by decide) ?_
  refine z_iload_n b dX12_kin_48 rfl rfl ?_
  refine z_imul (v := 0) b dX12_kin_49 (by decide) ?_
  refine z_iload_n b dX12_kin_50 rfl rfl ?_
  refine z_iadd (v := 2) b dX12_kin_51 (by decide) ?_
  refine z_iload b dX12_kin_52 rfl ?_
  refine y_zast (q0 := 5) (j := 2) b (mw_5 cy a S) (by decide) (by decide) dX12_kin_54 ((mwa_5 cy a S 2 0).trans (congrArg (mw cy a) (su_same h_a_4_2))) ?_
  refine z_goto (tgt := 82) b dX12_kin_55 (by decide) ?_
  refine z_aload_n b dX12_kin_82 rfl rfl ?_
  refine z_calli b (z_runV (q0 := 0) (As := []) (st := []) b (c_X12_told_14 S h_i_0 h_a_0_0 h_a_2_0 h_a_3_1 h_a_1_1 h_a_4_1 h_a_1_2 h_a_4_2 h_a_0_1 h_a_2_1 h_a_3_5 h_a_1_5 h_a_4_5 h_a_1_3 h_a_4_3 h_a_0_2 h_a_2_2 h_a_3_6 h_a_1_6 h_a_4_6 h_a_1_7 h_a_4_7 h_l_0) cf_X12_told (mw_0 cy a S) rfl wm_X12_178 wi_X12_told ws_X12_told dX12_kin_83 rfl (Nat.le_of_ble_eq_true rfl) ⟨by decide, by decide, by decide, by decide⟩) (fun r2534 u2535 h2533 => ?_)
  obtain ⟨rfl, rfl⟩ := h2533
  exact z_zret (u := S) b rfl (by decide) dX12_kin_86 ⟨rfl, rfl⟩ rfl (by decide) (by decide)

set_option maxHeartbeats 4000000 in
set_option maxRecDepth 100000 in
theorem c_X9_set_25 {l : Launch} {D : va_G} {cy : Nat → ClassId} {T0 tB tE : Nat} {a : Nat → Nat} {rw : Nat → Option Nat} (S : GS)   : Ct l D cy T0 tB tE yX9_set cX9_set 3 none 0 0 0 0 (cw cy tE a rw S) [.ref (a 14), .int 32, .int 1] (QV D (U := GS) (fun u => su S 4 32 1 = u) (cw cy tE a rw)) := by
  refine Ct.ofZ RX9 "set" [(0, .ref (a 14)), (1, .int 32), (2, .int 1)] rfl rfl rfl rfl (Nat.le_of_ble_eq_true rfl) ?_
  intro p e R s m args below meth c A b
  refine z_iload_n b dX9_set_0 rfl rfl ?_
  refine z_if_lt_f (tgt := 20) b dX9_set_1 (by decide) (by decide) ?_
  refine z_iload_n b dX9_set_4 rfl rfl ?_
  refine z_aload_n b dX9_set_5 rfl rfl ?_
  refine z_get (q0 := 14) (k9 := 0) (v := .ref (a 15)) b (cw_14 cy tE a rw S) rfl in_X9 (by decide) wf_X9_11 rfl dX9_set_6 ?_
  refine z_alen (q0 := 15) (t0 := 0) (v := 51) b (cw_15 cy tE a rw S) rfl rfl dX9_set_9 ?_
  refine z_icmp_ge_f (tgt := 20) b dX9_set_10 (by decide) (by decide) ?_
  refine z_aload_n b dX9_set_13 rfl rfl ?_
  refine z_get (q0 := 14) (k9 := 0) (v := .ref (a 15)) b (cw_14 cy tE a rw S) rfl in_X9 (by decide) wf_X9_11 rfl dX9_set_14 ?_
  refine z_iload_n b dX9_set_17 rfl rfl ?_
  refine z_iload_n b dX9_set_18 rfl rfl ?_
  refine y_iast (q0 := 15) (j := 32) b (cw_15 cy tE a rw S) (by decide) dX9_set_19 (cwa_15 cy tE a rw S 32 1) ?_
  exact z_vret (u := (su S 4 32 1)) b rfl dX9_set_20 rfl rfl (by decide) (by decide)

set_option maxHeartbeats 4000000 in
set_option maxRecDepth 100000 in
theorem c_X11_kin_36 {l : Launch} {D : va_G} {cy : Nat → ClassId} {T0 tB tE : Nat} {a : Nat → Nat} {rw : Nat → Option Nat} (S : GS)  (h_i_24 : fi S 24 = 0) : Ct l D cy T0 tB tE yX11_kin cX11_kin 6 (some .boolean) 2 41 0 0 (cw cy tE a rw S) [.ref (a 0), .int 0, .int 2, .int 1, .int 1] (QI D (U := GS) (fun r u => 1 = r ∧ (su S 4 32 1) = u) (cw cy tE a rw)) := by
  refine Ct.ofZ RX11 "kin" [(0, .ref (a 0)), (1, .int 0), (2, .int 2), (3, .int 1), (4, .int 1)] rfl rfl rfl rfl (Nat.le_of_ble_eq_true rfl) ?_
  intro p e R s m args below meth c A b
  refine z_iload_n b dX11_kin_0 rfl rfl ?_
  refine z_iload_n b dX11_kin_1 rfl rfl ?_
  refine z_calli b (z_runS (As := [.int 0, .int 2]) (st := []) b (c_X11_arePair_9 S ) cf_X11_arePair wm_X11_84 ws_X11_arePair dX11_kin_2 rfl (Nat.le_of_ble_eq_true rfl) ⟨by decide, by decide, by decide, by decide⟩) (fun r2537 u2538 h2536 => ?_)
  obtain ⟨rfl, rfl⟩ := h2536
  refine z_if_eq_f (tgt := 16) b dX11_kin_5 (by decide) (by decide) ?_
  refine z_iload_n b dX11_kin_8 rfl rfl ?_
  refine z_iconst (v := 1) b dX11_kin_9 (by decide) ?_
  refine z_calli b (z_runS (As := [.int 1, .int 1]) (st := []) b (c_X11_isWithin_6 S ) cf_X11_isWithin wm_X11_73 ws_X11_isWithin dX11_kin_10 rfl (Nat.le_of_ble_eq_true rfl) ⟨by decide, by decide, by decide, by decide⟩) (fun r2540 u2541 h2539 => ?_)
  obtain ⟨rfl, rfl⟩ := h2539
  refine z_if_ne_t (tgt := 18) b dX11_kin_13 (by decide) (by decide) ?_
  refine z_iload b dX11_kin_18 rfl ?_
  refine z_if_eq_f (tgt := 27) b dX11_kin_20 (by decide) (by decide) ?_
  refine z_iconst (v := 1) b dX11_kin_23 (by decide) ?_
  refine z_goto (tgt := 28) b dX11_kin_24 (by decide) ?_
  refine z_istore (lv' := [(5, .int 1), (0, .ref (a 0)), (1, .int 0), (2, .int 2), (3, .int 1), (4, .int 1)]) b dX11_kin_28 (by decide) rfl ?_
  refine z_iload_n b dX11_kin_30 rfl rfl ?_
  refine z_if_ne_t (tgt := 71) b dX11_kin_31 (by decide) (by decide) ?_
  refine z_aload_n b dX11_kin_71 rfl rfl ?_
  refine z_get (q0 := 0) (k9 := 4) (v := .ref (a 14)) b (cw_0 cy tE a rw S) rfl in_X11 (by decide) wf_X11_34 rfl dX11_kin_72 ?_
  refine z_bipush (v := 30) b dX11_kin_75 (by decide) ?_
  refine z_iconst (v := 3) b dX11_kin_77 (by decide) ?_
  refine z_iload_n b dX11_kin_78 rfl rfl ?_
  refine z_imul (v := 0) b dX11_kin_79 (by decide) ?_
  refine z_iadd (v := 30) b dX11_kin_80 (by decide) ?_
  refine z_iload_n b dX11_kin_81 rfl rfl ?_
  refine z_iadd (v := 32) b dX11_kin_82 (by decide) ?_
  refine z_iload b dX11_kin_83 rfl ?_
  refine z_callv b (z_runV (q0 := 14) (As := [.int 32, .int 1]) (st := []) b (c_X9_set_25 S ) cf_X9_set (cw_14 cy tE a rw S) rfl wm_X11_77 wi_X9_set ws_X9_set dX11_kin_85 rfl (Nat.le_of_ble_eq_true rfl) ⟨by decide, by decide, by decide, by decide⟩) (fun u2544 h2542 => ?_)
  obtain rfl := h2542
  refine z_aload_n b dX11_kin_88 rfl rfl ?_
  refine z_get (q0 := 0) (k9 := 6) (v := .ref (a 25)) b (cw_0 cy tE a rw (su S 4 32 1)) rfl in_X11 (by decide) wf_X11_52 rfl dX11_kin_89 ?_
  refine z_callv b (z_runV (q0 := 25) (As := []) (st := []) b (c_X8_forget (su S 4 32 1) h_i_24) cf_X8_forget (cw_25 cy tE a rw (su S 4 32 1)) rfl wm_X11_81 wi_X8_forget ws_X8_forget dX11_kin_92 rfl (Nat.le_of_ble_eq_true rfl) ⟨by decide, by decide, by decide, by decide⟩) (fun u2547 h2545 => ?_)
  obtain rfl := h2545
  refine z_iconst (v := 1) b dX11_kin_95 (by decide) ?_
  exact z_zret (u := (su S 4 32 1)) b rfl (by decide) dX11_kin_96 ⟨rfl, rfl⟩ rfl (by decide) (by decide)

set_option maxHeartbeats 4000000 in
set_option maxRecDepth 100000 in
theorem ch_X12_packs_38 {p : Program} {l : Launch} {e : Env} {R : Room} {s : State} {m : MethodId} {args : Array Value} {below : List Frame} {meth : Method} {c : Code} {D : va_G} {cy : Nat → ClassId} {T0 tB tE : Nat} {A : Nat → Prop} {Q : State → Prop} {a : Nat → Nat} (S : GS)  (h_a_0_0 : ar S 0 0 = 0) (h_a_1_1 : ar S 1 1 = 0) (h_a_1_2 : ar S 1 2 = 0) (h_a_2_0 : ar S 2 0 = 3) (h_a_3_1 : ar S 3 1 = 0) (h_a_4_1 : ar S 4 1 = 0) (h_a_4_2 : ar S 4 2 = 1) (h_i_0 : fi S 0 = 0) (b : Bz p R s m args meth c D cy T0 tB tE A 5 cX12_packs RX12 (some .long) "packs" 1 21 0 0) (k : Z p l e R s m args below meth c D A 5 Q 0 0 (mw cy a S) [(3, .int 1), (4, .int 2), (1, .long 1537), (0, .ref (a 0))] 20 [.ref (a 1), .long 24592]) : Z p l e R s m args below meth c D A 5 Q 0 0 (mw cy a S) [(0, .ref (a 0))] 0 [] := by
  refine z_aload_n b dX12_packs_0 rfl rfl ?_
  refine z_get (q0 := 0) (k9 := 5) (v := .int (fi S 0)) b (mw_0 cy a S) rfl in_X12 (by decide) wf_X12_157 rfl dX12_packs_1 ?_
  refine z_eqi h_i_0 ?_
  refine z_i2l (v := 0) b dX12_packs_4 (by decide) ?_
  refine z_lstore_n (lv' := [(1, .long 0), (0, .ref (a 0))]) b dX12_packs_5 rfl (by decide) rfl ?_
  refine z_iconst (v := 0) b dX12_packs_6 (by decide) ?_
  refine z_istore_n (lv' := [(3, .int 0), (1, .long 0), (0, .ref (a 0))]) b dX12_packs_7 rfl (by decide) rfl ?_
  refine z_iload_n b dX12_packs_8 rfl rfl ?_
  refine z_iconst (v := 3) b dX12_packs_9 (by decide) ?_
  refine z_icmp_ge_f (tgt := 134) b dX12_packs_10 (by decide) (by decide) ?_
  refine z_lload_n b dX12_packs_13 rfl rfl ?_
  refine z_iconst (v := 4) b dX12_packs_14 (by decide) ?_
  refine z_lshl (v := 0) b dX12_packs_15 (by decide) ?_
  refine z_aload_n b dX12_packs_16 rfl rfl ?_
  refine z_get (q0 := 0) (k9 := 0) (v := .ref (a 1)) b (mw_0 cy a S) rfl in_X12 (by decide) wf_X12_13 rfl dX12_packs_17 ?_
  refine z_iload_n b dX12_packs_20 rfl rfl ?_
  refine y_iald (q0 := 1) (j := 0) (v := (ar S 0 0)) b (mw_1 cy a S) (by decide) rfl dX12_packs_21 ?_
  refine z_eqi h_a_0_0 ?_
  refine z_i2l (v := 0) b dX12_packs_22 (by decide) ?_
  refine z_lor (v := 0) b dX12_packs_23 (by decide) ?_
  refine z_lstore_n (lv' := [(1, .long 0), (3, .int 0), (0, .ref (a 0))]) b dX12_packs_24 rfl (by decide) rfl ?_
  refine z_lload_n b dX12_packs_25 rfl rfl ?_
  refine z_iconst (v := 2) b dX12_packs_26 (by decide) ?_
  refine z_lshl (v := 0) b dX12_packs_27 (by decide) ?_
  refine z_aload_n b dX12_packs_28 rfl rfl ?_
  refine z_get (q0 := 0) (k9 := 2) (v := .ref (a 3)) b (mw_0 cy a S) rfl in_X12 (by decide) wf_X12_20 rfl dX12_packs_29 ?_
  refine z_iload_n b dX12_packs_32 rfl rfl ?_
  refine y_iald (q0 := 3) (j := 0) (v := (ar S 2 0)) b (mw_3 cy a S) (by decide) rfl dX12_packs_33 ?_
  refine z_eqi h_a_2_0 ?_
  refine z_i2l (v := 3) b dX12_packs_34 (by decide) ?_
  refine z_lor (v := 3) b dX12_packs_35 (by decide) ?_
  refine z_lstore_n (lv' := [(1, .long 3), (3, .int 0), (0, .ref (a 0))]) b dX12_packs_36 rfl (by decide) rfl ?_
  refine z_lload_n b dX12_packs_37 rfl rfl ?_
  refine z_iconst (v := 1) b dX12_packs_38 (by decide) ?_
  refine z_lshl (v := 6) b dX12_packs_39 (by decide) ?_
  refine z_aload_n b dX12_packs_40 rfl rfl ?_
  refine z_get (q0 := 0) (k9 := 3) (v := .ref (a 4)) b (mw_0 cy a S) rfl in_X12 (by decide) wf_X12_23 rfl dX12_packs_41 ?_
  refine z_iconst (v := 3) b dX12_packs_44 (by decide) ?_
  refine z_iload_n b dX12_packs_45 rfl rfl ?_
  refine z_imul (v := 0) b dX12_packs_46 (by decide) ?_
  refine z_iload_n b dX12_packs_47 rfl rfl ?_
  refine z_iconst (v := 0) b dX12_packs_48 (by decide) ?_
  refine z_calli b (z_runS (As := [.int 0, .int 0]) (st := [.int 0, .ref (a 4), .long 6]) b (c_X12_other_6 S ) cf_X12_other wm_X12_160 ws_X12_other dX12_packs_49 rfl (Nat.le_of_ble_eq_true rfl) ⟨by decide, by decide, by decide, by decide⟩) (fun r2561 u2562 h2560 => ?_)
  obtain ⟨rfl, rfl⟩ := h2560
  refine z_iadd (v := 1) b dX12_packs_52 (by decide) ?_
  refine y_zald (q0 := 4) (j := 1) (v := (ar S 3 1)) b (mw_4 cy a S) (by decide) rfl dX12_packs_53 ?_
  refine z_eqi h_a_3_1 ?_
  refine z_if_eq_t (tgt := 61) b dX12_packs_54 (by decide) (by decide) ?_
  refine z_lconst (v := 0) b dX12_packs_61 (by decide) ?_
  refine z_lor (v := 6) b dX12_packs_62 (by decide) ?_
  refine z_lstore_n (lv' := [(1, .long 6), (3, .int 0), (0, .ref (a 0))]) b dX12_packs_63 rfl (by decide) rfl ?_
  refine z_iconst (v := 0) b dX12_packs_64 (by decide) ?_
  refine z_istore (lv' := [(4, .int 0), (1, .long 6), (3, .int 0), (0, .ref (a 0))]) b dX12_packs_65 (by decide) rfl ?_
  refine z_iload b dX12_packs_67 rfl ?_
  refine z_iconst (v := 2) b dX12_packs_69 (by decide) ?_
  refine z_icmp_ge_f (tgt := 128) b dX12_packs_70 (by decide) (by decide) ?_
  refine z_lload_n b dX12_packs_73 rfl rfl ?_
  refine z_iconst (v := 3) b dX12_packs_74 (by decide) ?_
  refine z_lshl (v := 48) b dX12_packs_75 (by decide) ?_
  refine z_aload_n b dX12_packs_76 rfl rfl ?_
  refine z_get (q0 := 0) (k9 := 1) (v := .ref (a 2)) b (mw_0 cy a S) rfl in_X12 (by decide) wf_X12_17 rfl dX12_packs_77 ?_
  refine z_iconst (v := 3) b dX12_packs_80 (by decide) ?_
  refine z_iload_n b dX12_packs_81 rfl rfl ?_
  refine z_imul (v := 0) b dX12_packs_82 (by decide) ?_
  refine z_iload_n b dX12_packs_83 rfl rfl ?_
  refine z_iload b dX12_packs_84 rfl ?_
  refine z_calli b (z_runS (As := [.int 0, .int 0]) (st := [.int 0, .ref (a 2), .long 48]) b (c_X12_other_6 S ) cf_X12_other wm_X12_160 ws_X12_other dX12_packs_86 rfl (Nat.le_of_ble_eq_true rfl) ⟨by decide, by decide, by decide, by decide⟩) (fun r2564 u2565 h2563 => ?_)
  obtain ⟨rfl, rfl⟩ := h2563
  refine z_iadd (v := 1) b dX12_packs_89 (by decide) ?_
  refine y_iald (q0 := 2) (j := 1) (v := (ar S 1 1)) b (mw_2 cy a S) (by decide) rfl dX12_packs_90 ?_
  refine z_eqi h_a_1_1 ?_
  refine z_i2l (v := 0) b dX12_packs_91 (by decide) ?_
  refine z_lor (v := 48) b dX12_packs_92 (by decide) ?_
  refine z_lstore_n (lv' := [(1, .long 48), (4, .int 0), (3, .int 0), (0, .ref (a 0))]) b dX12_packs_93 rfl (by decide) rfl ?_
  refine z_lload_n b dX12_packs_94 rfl rfl ?_
  refine z_iconst (v := 1) b dX12_packs_95 (by decide) ?_
  refine z_lshl (v := 96) b dX12_packs_96 (by decide) ?_
  refine z_aload_n b dX12_packs_97 rfl rfl ?_
  refine z_get (q0 := 0) (k9 := 4) (v := .ref (a 5)) b (mw_0 cy a S) rfl in_X12 (by decide) wf_X12_27 rfl dX12_packs_98 ?_
  refine z_iconst (v := 3) b dX12_packs_101 (by decide) ?_
  refine z_iload_n b dX12_packs_102 rfl rfl ?_
  refine z_imul (v := 0) b dX12_packs_103 (by decide) ?_
  refine z_iload_n b dX12_packs_104 rfl rfl ?_
  refine z_iload b dX12_packs_105 rfl ?_
  refine z_calli b (z_runS (As := [.int 0, .int 0]) (st := [.int 0, .ref (a 5), .long 96]) b (c_X12_other_6 S ) cf_X12_other wm_X12_160 ws_X12_other dX12_packs_107 rfl (Nat.le_of_ble_eq_true rfl) ⟨by decide, by decide, by decide, by decide⟩) (fun r2567 u2568 h2566 => ?_)
  obtain ⟨rfl, rfl⟩ := h2566
  refine z_iadd (v := 1) b dX12_packs_110 (by decide) ?_
  refine y_zald (q0 := 5) (j := 1) (v := (ar S 4 1)) b (mw_5 cy a S) (by decide) rfl dX12_packs_111 ?_
  refine z_eqi h_a_4_1 ?_
  refine z_if_eq_t (tgt := 119) b dX12_packs_112 (by decide) (by decide) ?_
  refine z_lconst (v := 0) b dX12_packs_119 (by decide) ?_
  refine z_lor (v := 96) b dX12_packs_120 (by decide) ?_
  refine z_lstore_n (lv' := [(1, .long 96), (4, .int 0), (3, .int 0), (0, .ref (a 0))]) b dX12_packs_121 rfl (by decide) rfl ?_
  refine z_iinc (k9 := 1) (v := 1) (lv' := [(4, .int 1), (1, .long 96), (3, .int 0), (0, .ref (a 0))]) b dX12_packs_122 rfl (by decide) (by decide) rfl ?_
  refine z_goto (tgt := 67) b dX12_packs_125 (by decide) ?_
  refine z_iload b dX12_packs_67 rfl ?_
  refine z_iconst (v := 2) b dX12_packs_69 (by decide) ?_
  refine z_icmp_ge_f (tgt := 128) b dX12_packs_70 (by decide) (by decide) ?_
  refine z_lload_n b dX12_packs_73 rfl rfl ?_
  refine z_iconst (v := 3) b dX12_packs_74 (by decide) ?_
  refine z_lshl (v := 768) b dX12_packs_75 (by decide) ?_
  refine z_aload_n b dX12_packs_76 rfl rfl ?_
  refine z_get (q0 := 0) (k9 := 1) (v := .ref (a 2)) b (mw_0 cy a S) rfl in_X12 (by decide) wf_X12_17 rfl dX12_packs_77 ?_
  refine z_iconst (v := 3) b dX12_packs_80 (by decide) ?_
  refine z_iload_n b dX12_packs_81 rfl rfl ?_
  refine z_imul (v := 0) b dX12_packs_82 (by decide) ?_
  refine z_iload_n b dX12_packs_83 rfl rfl ?_
  refine z_iload b dX12_packs_84 rfl ?_
  refine z_calli b (z_runS (As := [.int 0, .int 1]) (st := [.int 0, .ref (a 2), .long 768]) b (c_X12_other_5 S ) cf_X12_other wm_X12_160 ws_X12_other dX12_packs_86 rfl (Nat.le_of_ble_eq_true rfl) ⟨by decide, by decide, by decide, by decide⟩) (fun r2570 u2571 h2569 => ?_)
  obtain ⟨rfl, rfl⟩ := h2569
  refine z_iadd (v := 2) b dX12_packs_89 (by decide) ?_
  refine y_iald (q0 := 2) (j := 2) (v := (ar S 1 2)) b (mw_2 cy a S) (by decide) rfl dX12_packs_90 ?_
  refine z_eqi h_a_1_2 ?_
  refine z_i2l (v := 0) b dX12_packs_91 (by decide) ?_
  refine z_lor (v := 768) b dX12_packs_92 (by decide) ?_
  refine z_lstore_n (lv' := [(1, .long 768), (4, .int 1), (3, .int 0), (0, .ref (a 0))]) b dX12_packs_93 rfl (by decide) rfl ?_
  refine z_lload_n b dX12_packs_94 rfl rfl ?_
  refine z_iconst (v := 1) b dX12_packs_95 (by decide) ?_
  refine z_lshl (v := 1536) b dX12_packs_96 (by decide) ?_
  refine z_aload_n b dX12_packs_97 rfl rfl ?_
  refine z_get (q0 := 0) (k9 := 4) (v := .ref (a 5)) b (mw_0 cy a S) rfl in_X12 (by decide) wf_X12_27 rfl dX12_packs_98 ?_
  refine z_iconst (v := 3) b dX12_packs_101 (by decide) ?_
  refine z_iload_n b dX12_packs_102 rfl rfl ?_
  refine z_imul (v := 0) b dX12_packs_103 (by decide) ?_
  refine z_iload_n b dX12_packs_104 rfl rfl ?_
  refine z_iload b dX12_packs_105 rfl ?_
  refine z_calli b (z_runS (As := [.int 0, .int 1]) (st := [.int 0, .ref (a 5), .long 1536]) b (c_X12_other_5 S ) cf_X12_other wm_X12_160 ws_X12_other dX12_packs_107 rfl (Nat.le_of_ble_eq_true rfl) ⟨by decide, by decide, by decide, by decide⟩) (fun r2573 u2574 h2572 => ?_)
  obtain ⟨rfl, rfl⟩ := h2572
  refine z_iadd (v := 2) b dX12_packs_110 (by decide) ?_
  refine y_zald (q0 := 5) (j := 2) (v := (ar S 4 2)) b (mw_5 cy a S) (by decide) rfl dX12_packs_111 ?_
  refine z_eqi h_a_4_2 ?_
  refine z_if_eq_f (tgt := 119) b dX12_packs_112 (by decide) (by decide) ?_
  refine z_lconst (v := 1) b dX12_packs_115 (by decide) ?_
  refine z_goto (tgt := 120) b dX12_packs_116 (by decide) ?_
  refine z_lor (v := 1537) b dX12_packs_120 (by decide) ?_
  refine z_lstore_n (lv' := [(1, .long 1537), (4, .int 1), (3, .int 0), (0, .ref (a 0))]) b dX12_packs_121 rfl (by decide) rfl ?_
  refine z_iinc (k9 := 1) (v := 2) (lv' := [(4, .int 2), (1, .long 1537), (3, .int 0), (0, .ref (a 0))]) b dX12_packs_122 rfl (by decide) (by decide) rfl ?_
  refine z_goto (tgt := 67) b dX12_packs_125 (by decide) ?_
  refine z_iload b dX12_packs_67 rfl ?_
  refine z_iconst (v := 2) b dX12_packs_69 (by decide) ?_
  refine z_icmp_ge_t (tgt := 128) b dX12_packs_70 (by decide) (by decide) ?_
  refine z_iinc (k9 := 2) (v := 1) (lv' := [(3, .int 1), (4, .int 2), (1, .long 1537), (0, .ref (a 0))]) b dX12_packs_128 rfl (by decide) (by decide) rfl ?_
  refine z_goto (tgt := 8) b dX12_packs_131 (by decide) ?_
  refine z_iload_n b dX12_packs_8 rfl rfl ?_
  refine z_iconst (v := 3) b dX12_packs_9 (by decide) ?_
  refine z_icmp_ge_f (tgt := 134) b dX12_packs_10 (by decide) (by decide) ?_
  refine z_lload_n b dX12_packs_13 rfl rfl ?_
  refine z_iconst (v := 4) b dX12_packs_14 (by decide) ?_
  refine z_lshl (v := 24592) b dX12_packs_15 (by decide) ?_
  refine z_aload_n b dX12_packs_16 rfl rfl ?_
  refine z_get (q0 := 0) (k9 := 0) (v := .ref (a 1)) b (mw_0 cy a S) rfl in_X12 (by decide) wf_X12_13 rfl dX12_packs_17 ?_
  exact k

set_option maxHeartbeats 4000000 in
set_option maxRecDepth 100000 in
theorem ch_X12_packs_39 {p : Program} {l : Launch} {e : Env} {R : Room} {s : State} {m : MethodId} {args : Array Value} {below : List Frame} {meth : Method} {c : Code} {D : va_G} {cy : Nat → ClassId} {T0 tB tE : Nat} {A : Nat → Prop} {Q : State → Prop} {a : Nat → Nat} (S : GS)  (h_a_0_1 : ar S 0 1 = 0) (h_a_0_2 : ar S 0 2 = 0) (h_a_1_3 : ar S 1 3 = 0) (h_a_1_5 : ar S 1 5 = 0) (h_a_2_1 : ar S 2 1 = 3) (h_a_2_2 : ar S 2 2 = 3) (h_a_3_5 : ar S 3 5 = 0) (h_a_4_3 : ar S 4 3 = 0) (h_a_4_5 : ar S 4 5 = 0) (b : Bz p R s m args meth c D cy T0 tB tE A 5 cX12_packs RX12 (some .long) "packs" 1 21 0 0) (k : Z p l e R s m args below meth c D A 5 Q 0 0 (mw cy a S) [(1, .long 805855232), (3, .int 2), (4, .int 2), (0, .ref (a 0))] 36 [.long 3223420931]) : Z p l e R s m args below meth c D A 5 Q 0 0 (mw cy a S) [(3, .int 1), (4, .int 2), (1, .long 1537), (0, .ref (a 0))] 20 [.ref (a 1), .long 24592] := by
  refine z_iload_n b dX12_packs_20 rfl rfl ?_
  refine y_iald (q0 := 1) (j := 1) (v := (ar S 0 1)) b (mw_1 cy a S) (by decide) rfl dX12_packs_21 ?_
  refine z_eqi h_a_0_1 ?_
  refine z_i2l (v := 0) b dX12_packs_22 (by decide) ?_
  refine z_lor (v := 24592) b dX12_packs_23 (by decide) ?_
  refine z_lstore_n (lv' := [(1, .long 24592), (3, .int 1), (4, .int 2), (0, .ref (a 0))]) b dX12_packs_24 rfl (by decide) rfl ?_
  refine z_lload_n b dX12_packs_25 rfl rfl ?_
  refine z_iconst (v := 2) b dX12_packs_26 (by decide) ?_
  refine z_lshl (v := 98368) b dX12_packs_27 (by decide) ?_
  refine z_aload_n b dX12_packs_28 rfl rfl ?_
  refine z_get (q0 := 0) (k9 := 2) (v := .ref (a 3)) b (mw_0 cy a S) rfl in_X12 (by decide) wf_X12_20 rfl dX12_packs_29 ?_
  refine z_iload_n b dX12_packs_32 rfl rfl ?_
  refine y_iald (q0 := 3) (j := 1) (v := (ar S 2 1)) b (mw_3 cy a S) (by decide) rfl dX12_packs_33 ?_
  refine z_eqi h_a_2_1 ?_
  refine z_i2l (v := 3) b dX12_packs_34 (by decide) ?_
  refine z_lor (v := 98371) b dX12_packs_35 (by decide) ?_
  refine z_lstore_n (lv' := [(1, .long 98371), (3, .int 1), (4, .int 2), (0, .ref (a 0))]) b dX12_packs_36 rfl (by decide) rfl ?_
  refine z_lload_n b dX12_packs_37 rfl rfl ?_
  refine z_iconst (v := 1) b dX12_packs_38 (by decide) ?_
  refine z_lshl (v := 196742) b dX12_packs_39 (by decide) ?_
  refine z_aload_n b dX12_packs_40 rfl rfl ?_
  refine z_get (q0 := 0) (k9 := 3) (v := .ref (a 4)) b (mw_0 cy a S) rfl in_X12 (by decide) wf_X12_23 rfl dX12_packs_41 ?_
  refine z_iconst (v := 3) b dX12_packs_44 (by decide) ?_
  refine z_iload_n b dX12_packs_45 rfl rfl ?_
  refine z_imul (v := 3) b dX12_packs_46 (by decide) ?_
  refine z_iload_n b dX12_packs_47 rfl rfl ?_
  refine z_iconst (v := 0) b dX12_packs_48 (by decide) ?_
  refine z_calli b (z_runS (As := [.int 1, .int 0]) (st := [.int 3, .ref (a 4), .long 196742]) b (c_X12_other_4 S ) cf_X12_other wm_X12_160 ws_X12_other dX12_packs_49 rfl (Nat.le_of_ble_eq_true rfl) ⟨by decide, by decide, by decide, by decide⟩) (fun r2576 u2577 h2575 => ?_)
  obtain ⟨rfl, rfl⟩ := h2575
  refine z_iadd (v := 5) b dX12_packs_52 (by decide) ?_
  refine y_zald (q0 := 4) (j := 5) (v := (ar S 3 5)) b (mw_4 cy a S) (by decide) rfl dX12_packs_53 ?_
  refine z_eqi h_a_3_5 ?_
  refine z_if_eq_t (tgt := 61) b dX12_packs_54 (by decide) (by decide) ?_
  refine z_lconst (v := 0) b dX12_packs_61 (by decide) ?_
  refine z_lor (v := 196742) b dX12_packs_62 (by decide) ?_
  refine z_lstore_n (lv' := [(1, .long 196742), (3, .int 1), (4, .int 2), (0, .ref (a 0))]) b dX12_packs_63 rfl (by decide) rfl ?_
  refine z_iconst (v := 0) b dX12_packs_64 (by decide) ?_
  refine z_istore (lv' := [(4, .int 0), (1, .long 196742), (3, .int 1), (0, .ref (a 0))]) b dX12_packs_65 (by decide) rfl ?_
  refine z_iload b dX12_packs_67 rfl ?_
  refine z_iconst (v := 2) b dX12_packs_69 (by decide) ?_
  refine z_icmp_ge_f (tgt := 128) b dX12_packs_70 (by decide) (by decide) ?_
  refine z_lload_n b dX12_packs_73 rfl rfl ?_
  refine z_iconst (v := 3) b dX12_packs_74 (by decide) ?_
  refine z_lshl (v := 1573936) b dX12_packs_75 (by decide) ?_
  refine z_aload_n b dX12_packs_76 rfl rfl ?_
  refine z_get (q0 := 0) (k9 := 1) (v := .ref (a 2)) b (mw_0 cy a S) rfl in_X12 (by decide) wf_X12_17 rfl dX12_packs_77 ?_
  refine z_iconst (v := 3) b dX12_packs_80 (by decide) ?_
  refine z_iload_n b dX12_packs_81 rfl rfl ?_
  refine z_imul (v := 3) b dX12_packs_82 (by decide) ?_
  refine z_iload_n b dX12_packs_83 rfl rfl ?_
  refine z_iload b dX12_packs_84 rfl ?_
  refine z_calli b (z_runS (As := [.int 1, .int 0]) (st := [.int 3, .ref (a 2), .long 1573936]) b (c_X12_other_4 S ) cf_X12_other wm_X12_160 ws_X12_other dX12_packs_86 rfl (Nat.le_of_ble_eq_true rfl) ⟨by decide, by decide, by decide, by decide⟩) (fun r2579 u2580 h2578 => ?_)
  obtain ⟨rfl, rfl⟩ := h2578
  refine z_iadd (v := 5) b dX12_packs_89 (by decide) ?_
  refine y_iald (q0 := 2) (j := 5) (v := (ar S 1 5)) b (mw_2 cy a S) (by decide) rfl dX12_packs_90 ?_
  refine z_eqi h_a_1_5 ?_
  refine z_i2l (v := 0) b dX12_packs_91 (by decide) ?_
  refine z_lor (v := 1573936) b dX12_packs_92 (by decide) ?_
  refine z_lstore_n (lv' := [(1, .long 1573936), (4, .int 0), (3, .int 1), (0, .ref (a 0))]) b dX12_packs_93 rfl (by decide) rfl ?_
  refine z_lload_n b dX12_packs_94 rfl rfl ?_
  refine z_iconst (v := 1) b dX12_packs_95 (by decide) ?_
  refine z_lshl (v := 3147872) b dX12_packs_96 (by decide) ?_
  refine z_aload_n b dX12_packs_97 rfl rfl ?_
  refine z_get (q0 := 0) (k9 := 4) (v := .ref (a 5)) b (mw_0 cy a S) rfl in_X12 (by decide) wf_X12_27 rfl dX12_packs_98 ?_
  refine z_iconst (v := 3) b dX12_packs_101 (by decide) ?_
  refine z_iload_n b dX12_packs_102 rfl rfl ?_
  refine z_imul (v := 3) b dX12_packs_103 (by decide) ?_
  refine z_iload_n b dX12_packs_104 rfl rfl ?_
  refine z_iload b dX12_packs_105 rfl ?_
  refine z_calli b (z_runS (As := [.int 1, .int 0]) (st := [.int 3, .ref (a 5), .long 3147872]) b (c_X12_other_4 S ) cf_X12_other wm_X12_160 ws_X12_other dX12_packs_107 rfl (Nat.le_of_ble_eq_true rfl) ⟨by decide, by decide, by decide, by decide⟩) (fun r2582 u2583 h2581 => ?_)
  obtain ⟨rfl, rfl⟩ := h2581
  refine z_iadd (v := 5) b dX12_packs_110 (by decide) ?_
  refine y_zald (q0 := 5) (j := 5) (v := (ar S 4 5)) b (mw_5 cy a S) (by decide) rfl dX12_packs_111 ?_
  refine z_eqi h_a_4_5 ?_
  refine z_if_eq_t (tgt := 119) b dX12_packs_112 (by decide) (by decide) ?_
  refine z_lconst (v := 0) b dX12_packs_119 (by decide) ?_
  refine z_lor (v := 3147872) b dX12_packs_120 (by decide) ?_
  refine z_lstore_n (lv' := [(1, .long 3147872), (4, .int 0), (3, .int 1), (0, .ref (a 0))]) b dX12_packs_121 rfl (by decide) rfl ?_
  refine z_iinc (k9 := 1) (v := 1) (lv' := [(4, .int 1), (1, .long 3147872), (3, .int 1), (0, .ref (a 0))]) b dX12_packs_122 rfl (by decide) (by decide) rfl ?_
  refine z_goto (tgt := 67) b dX12_packs_125 (by decide) ?_
  refine z_iload b dX12_packs_67 rfl ?_
  refine z_iconst (v := 2) b dX12_packs_69 (by decide) ?_
  refine z_icmp_ge_f (tgt := 128) b dX12_packs_70 (by decide) (by decide) ?_
  refine z_lload_n b dX12_packs_73 rfl rfl ?_
  refine z_iconst (v := 3) b dX12_packs_74 (by decide) ?_
  refine z_lshl (v := 25182976) b dX12_packs_75 (by decide) ?_
  refine z_aload_n b dX12_packs_76 rfl rfl ?_
  refine z_get (q0 := 0) (k9 := 1) (v := .ref (a 2)) b (mw_0 cy a S) rfl in_X12 (by decide) wf_X12_17 rfl dX12_packs_77 ?_
  refine z_iconst (v := 3) b dX12_packs_80 (by decide) ?_
  refine z_iload_n b dX12_packs_81 rfl rfl ?_
  refine z_imul (v := 3) b dX12_packs_82 (by decide) ?_
  refine z_iload_n b dX12_packs_83 rfl rfl ?_
  refine z_iload b dX12_packs_84 rfl ?_
  refine z_calli b (z_runS (As := [.int 1, .int 1]) (st := [.int 3, .ref (a 2), .long 25182976]) b (c_X12_other_3 S ) cf_X12_other wm_X12_160 ws_X12_other dX12_packs_86 rfl (Nat.le_of_ble_eq_true rfl) ⟨by decide, by decide, by decide, by decide⟩) (fun r2585 u2586 h2584 => ?_)
  obtain ⟨rfl, rfl⟩ := h2584
  refine z_iadd (v := 3) b dX12_packs_89 (by decide) ?_
  refine y_iald (q0 := 2) (j := 3) (v := (ar S 1 3)) b (mw_2 cy a S) (by decide) rfl dX12_packs_90 ?_
  refine z_eqi h_a_1_3 ?_
  refine z_i2l (v := 0) b dX12_packs_91 (by decide) ?_
  refine z_lor (v := 25182976) b dX12_packs_92 (by decide) ?_
  refine z_lstore_n (lv' := [(1, .long 25182976), (4, .int 1), (3, .int 1), (0, .ref (a 0))]) b dX12_packs_93 rfl (by decide) rfl ?_
  refine z_lload_n b dX12_packs_94 rfl rfl ?_
  refine z_iconst (v := 1) b dX12_packs_95 (by decide) ?_
  refine z_lshl (v := 50365952) b dX12_packs_96 (by decide) ?_
  refine z_aload_n b dX12_packs_97 rfl rfl ?_
  refine z_get (q0 := 0) (k9 := 4) (v := .ref (a 5)) b (mw_0 cy a S) rfl in_X12 (by decide) wf_X12_27 rfl dX12_packs_98 ?_
  refine z_iconst (v := 3) b dX12_packs_101 (by decide) ?_
  refine z_iload_n b dX12_packs_102 rfl rfl ?_
  refine z_imul (v := 3) b dX12_packs_103 (by decide) ?_
  refine z_iload_n b dX12_packs_104 rfl rfl ?_
  refine z_iload b dX12_packs_105 rfl ?_
  refine z_calli b (z_runS (As := [.int 1, .int 1]) (st := [.int 3, .ref (a 5), .long 50365952]) b (c_X12_other_3 S ) cf_X12_other wm_X12_160 ws_X12_other dX12_packs_107 rfl (Nat.le_of_ble_eq_true rfl) ⟨by decide, by decide, by decide, by decide⟩) (fun r2588 u2589 h2587 => ?_)
  obtain ⟨rfl, rfl⟩ := h2587
  refine z_iadd (v := 3) b dX12_packs_110 (by decide) ?_
  refine y_zald (q0 := 5) (j := 3) (v := (ar S 4 3)) b (mw_5 cy a S) (by decide) rfl dX12_packs_111 ?_
  refine z_eqi h_a_4_3 ?_
  refine z_if_eq_t (tgt := 119) b dX12_packs_112 (by decide) (by decide) ?_
  refine z_lconst (v := 0) b dX12_packs_119 (by decide) ?_
  refine z_lor (v := 50365952) b dX12_packs_120 (by decide) ?_
  refine z_lstore_n (lv' := [(1, .long 50365952), (4, .int 1), (3, .int 1), (0, .ref (a 0))]) b dX12_packs_121 rfl (by decide) rfl ?_
  refine z_iinc (k9 := 1) (v := 2) (lv' := [(4, .int 2), (1, .long 50365952), (3, .int 1), (0, .ref (a 0))]) b dX12_packs_122 rfl (by decide) (by decide) rfl ?_
  refine z_goto (tgt := 67) b dX12_packs_125 (by decide) ?_
  refine z_iload b dX12_packs_67 rfl ?_
  refine z_iconst (v := 2) b dX12_packs_69 (by decide) ?_
  refine z_icmp_ge_t (tgt := 128) b dX12_packs_70 (by decide) (by decide) ?_
  refine z_iinc (k9 := 2) (v := 2) (lv' := [(3, .int 2), (4, .int 2), (1, .long 50365952), (0, .ref (a 0))]) b dX12_packs_128 rfl (by decide) (by decide) rfl ?_
  refine z_goto (tgt := 8) b dX12_packs_131 (by decide) ?_
  refine z_iload_n b dX12_packs_8 rfl rfl ?_
  refine z_iconst (v := 3) b dX12_packs_9 (by decide) ?_
  refine z_icmp_ge_f (tgt := 134) b dX12_packs_10 (by decide) (by decide) ?_
  refine z_lload_n b dX12_packs_13 rfl rfl ?_
  refine z_iconst (v := 4) b dX12_packs_14 (by decide) ?_
  refine z_lshl (v := 805855232) b dX12_packs_15 (by decide) ?_
  refine z_aload_n b dX12_packs_16 rfl rfl ?_
  refine z_get (q0 := 0) (k9 := 0) (v := .ref (a 1)) b (mw_0 cy a S) rfl in_X12 (by decide) wf_X12_13 rfl dX12_packs_17 ?_
  refine z_iload_n b dX12_packs_20 rfl rfl ?_
  refine y_iald (q0 := 1) (j := 2) (v := (ar S 0 2)) b (mw_1 cy a S) (by decide) rfl dX12_packs_21 ?_
  refine z_eqi h_a_0_2 ?_
  refine z_i2l (v := 0) b dX12_packs_22 (by decide) ?_
  refine z_lor (v := 805855232) b dX12_packs_23 (by decide) ?_
  refine z_lstore_n (lv' := [(1, .long 805855232), (3, .int 2), (4, .int 2), (0, .ref (a 0))]) b dX12_packs_24 rfl (by decide) rfl ?_
  refine z_lload_n b dX12_packs_25 rfl rfl ?_
  refine z_iconst (v := 2) b dX12_packs_26 (by decide) ?_
  refine z_lshl (v := 3223420928) b dX12_packs_27 (by decide) ?_
  refine z_aload_n b dX12_packs_28 rfl rfl ?_
  refine z_get (q0 := 0) (k9 := 2) (v := .ref (a 3)) b (mw_0 cy a S) rfl in_X12 (by decide) wf_X12_20 rfl dX12_packs_29 ?_
  refine z_iload_n b dX12_packs_32 rfl rfl ?_
  refine y_iald (q0 := 3) (j := 2) (v := (ar S 2 2)) b (mw_3 cy a S) (by decide) rfl dX12_packs_33 ?_
  refine z_eqi h_a_2_2 ?_
  refine z_i2l (v := 3) b dX12_packs_34 (by decide) ?_
  refine z_lor (v := 3223420931) b dX12_packs_35 (by decide) ?_
  exact k

set_option maxHeartbeats 4000000 in
set_option maxRecDepth 100000 in
theorem c_X12_packs_18 {l : Launch} {D : va_G} {cy : Nat → ClassId} {T0 tB tE : Nat} {a : Nat → Nat} (S : GS)  (h_i_0 : fi S 0 = 0) (h_a_0_0 : ar S 0 0 = 0) (h_a_2_0 : ar S 2 0 = 3) (h_a_3_1 : ar S 3 1 = 0) (h_a_1_1 : ar S 1 1 = 0) (h_a_4_1 : ar S 4 1 = 0) (h_a_1_2 : ar S 1 2 = 0) (h_a_4_2 : ar S 4 2 = 1) (h_a_0_1 : ar S 0 1 = 0) (h_a_2_1 : ar S 2 1 = 3) (h_a_3_5 : ar S 3 5 = 0) (h_a_1_5 : ar S 1 5 = 0) (h_a_4_5 : ar S 4 5 = 0) (h_a_1_3 : ar S 1 3 = 0) (h_a_4_3 : ar S 4 3 = 0) (h_a_0_2 : ar S 0 2 = 0) (h_a_2_2 : ar S 2 2 = 3) (h_a_3_6 : ar S 3 6 = 0) (h_a_1_6 : ar S 1 6 = 0) (h_a_4_6 : ar S 4 6 = 0) (h_a_1_7 : ar S 1 7 = 0) (h_a_4_7 : ar S 4 7 = 0) : Ct l D cy T0 tB tE yX12_packs cX12_packs 5 (some .long) 1 21 0 0 (mw cy a S) [.ref (a 0)] (QL D (U := GS) (fun r u => 1650391516672 = r ∧ S = u) (mw cy a)) := by
  refine Ct.ofZ RX12 "packs" [(0, .ref (a 0))] rfl rfl rfl rfl (Nat.le_of_ble_eq_true rfl) ?_
  intro p e R s m args below meth c A b
  refine ch_X12_packs_38 S  h_a_0_0 h_a_1_1 h_a_1_2 h_a_2_0 h_a_3_1 h_a_4_1 h_a_4_2 h_i_0  b ?_
  refine ch_X12_packs_39 S  h_a_0_1 h_a_0_2 h_a_1_3 h_a_1_5 h_a_2_1 h_a_2_2 h_a_3_5 h_a_4_3 h_a_4_5  b ?_
  refine z_lstore_n (lv' := [(1, .long 3223420931), (3, .int 2), (4, .int 2), (0, .ref (a 0))]) b dX12_packs_36 rfl (by decide) rfl ?_
  refine z_lload_n b dX12_packs_37 rfl rfl ?_
  refine z_iconst (v := 1) b dX12_packs_38 (by decide) ?_
  refine z_lshl (v := 6446841862) b dX12_packs_39 (by decide) ?_
  refine z_aload_n b dX12_packs_40 rfl rfl ?_
  refine z_get (q0 := 0) (k9 := 3) (v := .ref (a 4)) b (mw_0 cy a S) rfl in_X12 (by decide) wf_X12_23 rfl dX12_packs_41 ?_
  refine z_iconst (v := 3) b dX12_packs_44 (by decide) ?_
  refine z_iload_n b dX12_packs_45 rfl rfl ?_
  refine z_imul (v := 6) b dX12_packs_46 (by decide) ?_
  refine z_iload_n b dX12_packs_47 rfl rfl ?_
  refine z_iconst (v := 0) b dX12_packs_48 (by decide) ?_
  refine z_calli b (z_runS (As := [.int 2, .int 0]) (st := [.int 6, .ref (a 4), .long 6446841862]) b (c_X12_other_2 S ) cf_X12_other wm_X12_160 ws_X12_other dX12_packs_49 rfl (Nat.le_of_ble_eq_true rfl) ⟨by decide, by decide, by decide, by decide⟩) (fun r2591 u2592 h2590 => ?_)
  obtain ⟨rfl, rfl⟩ := h2590
  refine z_iadd (v := 6) b dX12_packs_52 (by decide) ?_
  refine y_zald (q0 := 4) (j := 6) (v := (ar S 3 6)) b (mw_4 cy a S) (by decide) rfl dX12_packs_53 ?_
  refine z_eqi h_a_3_6 ?_
  refine z_if_eq_t (tgt := 61) b dX12_packs_54 (by decide) (by decide) ?_
  refine z_lconst (v := 0) b dX12_packs_61 (by decide) ?_
  refine z_lor (v := 6446841862) b dX12_packs_62 (by decide) ?_
  refine z_lstore_n (lv' := [(1, .long 6446841862), (3, .int 2), (4, .int 2), (0, .ref (a 0))]) b dX12_packs_63 rfl (by decide) rfl ?_
  refine z_iconst (v := 0) b dX12_packs_64 (by decide) ?_
  refine z_istore (lv' := [(4, .int 0), (1, .long 6446841862), (3, .int 2), (0, .ref (a 0))]) b dX12_packs_65 (by decide) rfl ?_
  refine z_iload b dX12_packs_67 rfl ?_
  refine z_iconst (v := 2) b dX12_packs_69 (by decide) ?_
  refine z_icmp_ge_f (tgt := 128) b dX12_packs_70 (by decide) (by decide) ?_
  refine z_lload_n b dX12_packs_73 rfl rfl ?_
  refine z_iconst (v := 3) b dX12_packs_74 (by decide) ?_
  refine z_lshl (v := 51574734896) b dX12_packs_75 (by decide) ?_
  refine z_aload_n b dX12_packs_76 rfl rfl ?_
  refine z_get (q0 := 0) (k9 := 1) (v := .ref (a 2)) b (mw_0 cy a S) rfl in_X12 (by decide) wf_X12_17 rfl dX12_packs_77 ?_
  refine z_iconst (v := 3) b dX12_packs_80 (by decide) ?_
  refine z_iload_n b dX12_packs_81 rfl rfl ?_
  refine z_imul (v := 6) b dX12_packs_82 (by decide) ?_
  refine z_iload_n b dX12_packs_83 rfl rfl ?_
  refine z_iload b dX12_packs_84 rfl ?_
  refine z_calli b (z_runS (As := [.int 2, .int 0]) (st := [.int 6, .ref (a 2), .long 51574734896]) b (c_X12_other_2 S ) cf_X12_other wm_X12_160 ws_X12_other dX12_packs_86 rfl (Nat.le_of_ble_eq_true rfl) ⟨by decide, by decide, by decide, by decide⟩) (fun r2594 u2595 h2593 => ?_)
  obtain ⟨rfl, rfl⟩ := h2593
  refine z_iadd (v := 6) b dX12_packs_89 (by decide) ?_
  refine y_iald (q0 := 2) (j := 6) (v := (ar S 1 6)) b (mw_2 cy a S) (by decide) rfl dX12_packs_90 ?_
  refine z_eqi h_a_1_6 ?_
  refine z_i2l (v := 0) b dX12_packs_91 (by decide) ?_
  refine z_lor (v := 51574734896) b dX12_packs_92 (by decide) ?_
  refine z_lstore_n (lv' := [(1, .long 51574734896), (4, .int 0), (3, .int 2), (0, .ref (a 0))]) b dX12_packs_93 rfl (by decide) rfl ?_
  refine z_lload_n b dX12_packs_94 rfl rfl ?_
  refine z_iconst (v := 1) b dX12_packs_95 (by decide) ?_
  refine z_lshl (v := 103149469792) b dX12_packs_96 (by decide) ?_
  refine z_aload_n b dX12_packs_97 rfl rfl ?_
  refine z_get (q0 := 0) (k9 := 4) (v := .ref (a 5)) b (mw_0 cy a S) rfl in_X12 (by decide) wf_X12_27 rfl dX12_packs_98 ?_
  refine z_iconst (v := 3) b dX12_packs_101 (by decide) ?_
  refine z_iload_n b dX12_packs_102 rfl rfl ?_
  refine z_imul (v := 6) b dX12_packs_103 (by decide) ?_
  refine z_iload_n b dX12_packs_104 rfl rfl ?_
  refine z_iload b dX12_packs_105 rfl ?_
  refine z_calli b (z_runS (As := [.int 2, .int 0]) (st := [.int 6, .ref (a 5), .long 103149469792]) b (c_X12_other_2 S ) cf_X12_other wm_X12_160 ws_X12_other dX12_packs_107 rfl (Nat.le_of_ble_eq_true rfl) ⟨by decide, by decide, by decide, by decide⟩) (fun r2597 u2598 h2596 => ?_)
  obtain ⟨rfl, rfl⟩ := h2596
  refine z_iadd (v := 6) b dX12_packs_110 (by decide) ?_
  refine y_zald (q0 := 5) (j := 6) (v := (ar S 4 6)) b (mw_5 cy a S) (by decide) rfl dX12_packs_111 ?_
  refine z_eqi h_a_4_6 ?_
  refine z_if_eq_t (tgt := 119) b dX12_packs_112 (by decide) (by decide) ?_
  refine z_lconst (v := 0) b dX12_packs_119 (by decide) ?_
  refine z_lor (v := 103149469792) b dX12_packs_120 (by decide) ?_
  refine z_lstore_n (lv' := [(1, .long 103149469792), (4, .int 0), (3, .int 2), (0, .ref (a 0))]) b dX12_packs_121 rfl (by decide) rfl ?_
  refine z_iinc (k9 := 1) (v := 1) (lv' := [(4, .int 1), (1, .long 103149469792), (3, .int 2), (0, .ref (a 0))]) b dX12_packs_122 rfl (by decide) (by decide) rfl ?_
  refine z_goto (tgt := 67) b dX12_packs_125 (by decide) ?_
  refine z_iload b dX12_packs_67 rfl ?_
  refine z_iconst (v := 2) b dX12_packs_69 (by decide) ?_
  refine z_icmp_ge_f (tgt := 128) b dX12_packs_70 (by decide) (by decide) ?_
  refine z_lload_n b dX12_packs_73 rfl rfl ?_
  refine z_iconst (v := 3) b dX12_packs_74 (by decide) ?_
  refine z_lshl (v := 825195758336) b dX12_packs_75 (by decide) ?_
  refine z_aload_n b dX12_packs_76 rfl rfl ?_
  refine z_get (q0 := 0) (k9 := 1) (v := .ref (a 2)) b (mw_0 cy a S) rfl in_X12 (by decide) wf_X12_17 rfl dX12_packs_77 ?_
  refine z_iconst (v := 3) b dX12_packs_80 (by decide) ?_
  refine z_iload_n b dX12_packs_81 rfl rfl ?_
  refine z_imul (v := 6) b dX12_packs_82 (by decide) ?_
  refine z_iload_n b dX12_packs_83 rfl rfl ?_
  refine z_iload b dX12_packs_84 rfl ?_
  refine z_calli b (z_runS (As := [.int 2, .int 1]) (st := [.int 6, .ref (a 2), .long 825195758336]) b (c_X12_other S ) cf_X12_other wm_X12_160 ws_X12_other dX12_packs_86 rfl (Nat.le_of_ble_eq_true rfl) ⟨by decide, by decide, by decide, by decide⟩) (fun r2600 u2601 h2599 => ?_)
  obtain ⟨rfl, rfl⟩ := h2599
  refine z_iadd (v := 7) b dX12_packs_89 (by decide) ?_
  refine y_iald (q0 := 2) (j := 7) (v := (ar S 1 7)) b (mw_2 cy a S) (by decide) rfl dX12_packs_90 ?_
  refine z_eqi h_a_1_7 ?_
  refine z_i2l (v := 0) b dX12_packs_91 (by decide) ?_
  refine z_lor (v := 825195758336) b dX12_packs_92 (by decide) ?_
  refine z_lstore_n (lv' := [(1, .long 825195758336), (4, .int 1), (3, .int 2), (0, .ref (a 0))]) b dX12_packs_93 rfl (by decide) rfl ?_
  refine z_lload_n b dX12_packs_94 rfl rfl ?_
  refine z_iconst (v := 1) b dX12_packs_95 (by decide) ?_
  refine z_lshl (v := 1650391516672) b dX12_packs_96 (by decide) ?_
  refine z_aload_n b dX12_packs_97 rfl rfl ?_
  refine z_get (q0 := 0) (k9 := 4) (v := .ref (a 5)) b (mw_0 cy a S) rfl in_X12 (by decide) wf_X12_27 rfl dX12_packs_98 ?_
  refine z_iconst (v := 3) b dX12_packs_101 (by decide) ?_
  refine z_iload_n b dX12_packs_102 rfl rfl ?_
  refine z_imul (v := 6) b dX12_packs_103 (by decide) ?_
  refine z_iload_n b dX12_packs_104 rfl rfl ?_
  refine z_iload b dX12_packs_105 rfl ?_
  refine z_calli b (z_runS (As := [.int 2, .int 1]) (st := [.int 6, .ref (a 5), .long 1650391516672]) b (c_X12_other S ) cf_X12_other wm_X12_160 ws_X12_other dX12_packs_107 rfl (Nat.le_of_ble_eq_true rfl) ⟨by decide, by decide, by decide, by decide⟩) (fun r2603 u2604 h2602 => ?_)
  obtain ⟨rfl, rfl⟩ := h2602
  refine z_iadd (v := 7) b dX12_packs_110 (by decide) ?_
  refine y_zald (q0 := 5) (j := 7) (v := (ar S 4 7)) b (mw_5 cy a S) (by decide) rfl dX12_packs_111 ?_
  refine z_eqi h_a_4_7 ?_
  refine z_if_eq_t (tgt := 119) b dX12_packs_112 (by decide) (by decide) ?_
  refine z_lconst (v := 0) b dX12_packs_119 (by decide) ?_
  refine z_lor (v := 1650391516672) b dX12_packs_120 (by decide) ?_
  refine z_lstore_n (lv' := [(1, .long 1650391516672), (4, .int 1), (3, .int 2), (0, .ref (a 0))]) b dX12_packs_121 rfl (by decide) rfl ?_
  refine z_iinc (k9 := 1) (v := 2) (lv' := [(4, .int 2), (1, .long 1650391516672), (3, .int 2), (0, .ref (a 0))]) b dX12_packs_122 rfl (by decide) (by decide) rfl ?_
  refine z_goto (tgt := 67) b dX12_packs_125 (by decide) ?_
  refine z_iload b dX12_packs_67 rfl ?_
  refine z_iconst (v := 2) b dX12_packs_69 (by decide) ?_
  refine z_icmp_ge_t (tgt := 128) b dX12_packs_70 (by decide) (by decide) ?_
  refine z_iinc (k9 := 2) (v := 3) (lv' := [(3, .int 3), (4, .int 2), (1, .long 1650391516672), (0, .ref (a 0))]) b dX12_packs_128 rfl (by decide) (by decide) rfl ?_
  refine z_goto (tgt := 8) b dX12_packs_131 (by decide) ?_
  refine z_iload_n b dX12_packs_8 rfl rfl ?_
  refine z_iconst (v := 3) b dX12_packs_9 (by decide) ?_
  refine z_icmp_ge_t (tgt := 134) b dX12_packs_10 (by decide) (by decide) ?_
  refine z_lload_n b dX12_packs_134 rfl rfl ?_
  exact z_lret (u := S) b rfl dX12_packs_135 ⟨rfl, rfl⟩ rfl (by decide) (by decide)

set_option maxHeartbeats 4000000 in
set_option maxRecDepth 100000 in
theorem c_X12_told_18 {l : Launch} {D : va_G} {cy : Nat → ClassId} {T0 tB tE : Nat} {a : Nat → Nat} (S : GS)  (h_i_0 : fi S 0 = 0) (h_a_0_0 : ar S 0 0 = 0) (h_a_2_0 : ar S 2 0 = 3) (h_a_3_1 : ar S 3 1 = 0) (h_a_1_1 : ar S 1 1 = 0) (h_a_4_1 : ar S 4 1 = 0) (h_a_1_2 : ar S 1 2 = 0) (h_a_4_2 : ar S 4 2 = 1) (h_a_0_1 : ar S 0 1 = 0) (h_a_2_1 : ar S 2 1 = 3) (h_a_3_5 : ar S 3 5 = 0) (h_a_1_5 : ar S 1 5 = 0) (h_a_4_5 : ar S 4 5 = 0) (h_a_1_3 : ar S 1 3 = 0) (h_a_4_3 : ar S 4 3 = 0) (h_a_0_2 : ar S 0 2 = 0) (h_a_2_2 : ar S 2 2 = 3) (h_a_3_6 : ar S 3 6 = 0) (h_a_1_6 : ar S 1 6 = 0) (h_a_4_6 : ar S 4 6 = 0) (h_a_1_7 : ar S 1 7 = 0) (h_a_4_7 : ar S 4 7 = 0) : Ct l D cy T0 tB tE yX12_told cX12_told 1 (some .boolean) 2 45 0 0 (mw cy a S) [.ref (a 0)] (QI D (U := GS) (fun r u => 1 = r ∧ sl S 0 1650391516672 = u) (mw cy a)) := by
  refine Ct.ofZ RX12 "told" [(0, .ref (a 0))] rfl rfl rfl rfl (Nat.le_of_ble_eq_true rfl) ?_
  intro p e R s m args below meth c A b
  refine z_aload_n b dX12_told_0 rfl rfl ?_
  refine z_aload_n b dX12_told_1 rfl rfl ?_
  refine z_calll b (z_runV (q0 := 0) (As := []) (st := [.ref (a 0)]) b (c_X12_packs_18 S h_i_0 h_a_0_0 h_a_2_0 h_a_3_1 h_a_1_1 h_a_4_1 h_a_1_2 h_a_4_2 h_a_0_1 h_a_2_1 h_a_3_5 h_a_1_5 h_a_4_5 h_a_1_3 h_a_4_3 h_a_0_2 h_a_2_2 h_a_3_6 h_a_1_6 h_a_4_6 h_a_1_7 h_a_4_7) cf_X12_packs (mw_0 cy a S) rfl wm_X12_149 wi_X12_packs ws_X12_packs dX12_told_2 rfl (Nat.le_of_ble_eq_true rfl) ⟨by decide, by decide, by decide, by decide⟩) (fun r2606 u2607 h2605 => ?_)
  obtain ⟨rfl, rfl⟩ := h2605
  refine z_put (q0 := 0) (k9 := 6) tyX12 b (mw_0 cy a S) rfl in_X12 tyX12_ok nmX12 (by decide) wf_X12_153 rfl rfl rfl rfl (Nat.le_of_ble_eq_true rfl) dX12_told_5 (mwp_0_6 cy a S 1650391516672) ?_
  refine z_iconst (v := 1) b dX12_told_8 (by decide) ?_
  exact z_zret (u := (sl S 0 1650391516672)) b rfl (by decide) dX12_told_9 ⟨rfl, rfl⟩ rfl (by decide) (by decide)

set_option maxHeartbeats 4000000 in
set_option maxRecDepth 100000 in
theorem c_X12_kin_36 {l : Launch} {D : va_G} {cy : Nat → ClassId} {T0 tB tE : Nat} {a : Nat → Nat} (S : GS)  (h_l_0 : fl S 0 = 1649317774848) (h_a_4_7 : ar S 4 7 = 0) (h_a_1_7 : ar S 1 7 = 0) (h_a_4_6 : ar S 4 6 = 0) (h_a_1_6 : ar S 1 6 = 0) (h_a_3_6 : ar S 3 6 = 0) (h_a_3_2 : ar S 3 2 = 0) (h_a_2_2 : ar S 2 2 = 3) (h_a_0_2 : ar S 0 2 = 0) (h_a_4_3 : ar S 4 3 = 0) (h_a_1_3 : ar S 1 3 = 0) (h_a_4_5 : ar S 4 5 = 0) (h_a_1_5 : ar S 1 5 = 0) (h_a_3_5 : ar S 3 5 = 0) (h_a_3_7 : ar S 3 7 = 0) (h_a_2_1 : ar S 2 1 = 3) (h_a_0_1 : ar S 0 1 = 0) (h_a_4_2 : ar S 4 2 = 0) (h_a_1_2 : ar S 1 2 = 0) (h_a_4_1 : ar S 4 1 = 0) (h_a_1_1 : ar S 1 1 = 0) (h_a_3_1 : ar S 3 1 = 0) (h_a_3_3 : ar S 3 3 = 0) (h_a_2_0 : ar S 2 0 = 3) (h_a_0_0 : ar S 0 0 = 0) (h_i_0 : fi S 0 = 0) : Ct l D cy T0 tB tE yX12_kin cX12_kin 5 (some .boolean) 3 65 0 0 (mw cy a S) [.ref (a 0), .int 0, .int 2, .int 1, .int 1] (QI D (U := GS) (fun r u => 1 = r ∧ sl (su S 4 2 1) 0 1650391516672 = u) (mw cy a)) := by
  refine Ct.ofZ RX12 "kin" [(0, .ref (a 0)), (1, .int 0), (2, .int 2), (3, .int 1), (4, .int 1)] rfl rfl rfl rfl (Nat.le_of_ble_eq_true rfl) ?_
  intro p e R s m args below meth c A b
  refine z_iload_n b dX12_kin_0 rfl rfl ?_
  refine z_calli b (z_runS (As := [.int 0]) (st := []) b (c_X12_isOne_2 S ) cf_X12_isOne wm_X12_170 ws_X12_isOne dX12_kin_1 rfl (Nat.le_of_ble_eq_true rfl) ⟨by decide, by decide, by decide, by decide⟩) (fun r2549 u2550 h2548 => ?_)
  obtain ⟨rfl, rfl⟩ := h2548
  refine z_if_eq_f (tgt := 28) b dX12_kin_4 (by decide) (by decide) ?_
  refine z_iload_n b dX12_kin_7 rfl rfl ?_
  refine z_calli b (z_runS (As := [.int 2]) (st := []) b (c_X12_isOne_4 S ) cf_X12_isOne wm_X12_170 ws_X12_isOne dX12_kin_8 rfl (Nat.le_of_ble_eq_true rfl) ⟨by decide, by decide, by decide, by decide⟩) (fun r2552 u2553 h2551 => ?_)
  obtain ⟨rfl, rfl⟩ := h2551
  refine z_if_eq_f (tgt := 28) b dX12_kin_11 (by decide) (by decide) ?_
  refine z_iload_n b dX12_kin_14 rfl rfl ?_
  refine z_iload_n b dX12_kin_15 rfl rfl ?_
  refine z_icmp_eq_f (tgt := 28) b dX12_kin_16 (by decide) (by decide) ?_
  refine z_iload_n b dX12_kin_19 rfl rfl ?_
  refine z_iconst (v := 0) b dX12_kin_20 (by decide) ?_
  refine z_iconst (v := 1) b dX12_kin_21 (by decide) ?_
  refine z_calli b (z_runS (As := [.int 1, .int 0, .int 1]) (st := []) b (c_X12_isIn_10 S ) cf_X12_isIn wm_X12_1 ws_X12_isIn dX12_kin_22 rfl (Nat.le_of_ble_eq_true rfl) ⟨by decide, by decide, by decide, by decide⟩) (fun r2555 u2556 h2554 => ?_)
  obtain ⟨rfl, rfl⟩ := h2554
  refine z_if_ne_t (tgt := 30) b dX12_kin_25 (by decide) (by decide) ?_
  refine z_aload_n b dX12_kin_30 rfl rfl ?_
  refine z_aload_n b dX12_kin_31 rfl rfl ?_
  refine z_get (q0 := 0) (k9 := 6) (v := .long (fl S 0)) b (mw_0 cy a S) rfl in_X12 (by decide) wf_X12_153 rfl dX12_kin_32 ?_
  refine z_eql h_l_0 ?_
  refine z_callv b (z_runV (q0 := 0) (As := [.long 1649317774848]) (st := []) b (c_X12_takes S h_a_4_7 h_a_1_7 h_a_4_6 h_a_1_6 h_a_3_6 h_a_3_2 h_a_2_2 h_a_0_2 h_a_4_3 h_a_1_3 h_a_4_5 h_a_1_5 h_a_3_5 h_a_3_7 h_a_2_1 h_a_0_1 h_a_4_2 h_a_1_2 h_a_4_1 h_a_1_1 h_a_3_1 h_a_3_3 h_a_2_0 h_a_0_0 h_i_0) cf_X12_takes (mw_0 cy a S) rfl wm_X12_174 wi_X12_takes ws_X12_takes dX12_kin_35 rfl (Nat.le_of_ble_eq_true rfl) ⟨by decide, by decide, by decide, by decide⟩) (fun u2559 h2557 => ?_)
  obtain rfl := h2557
  refine z_iload_n b dX12_kin_38 rfl rfl ?_
  refine z_iconst (v := 1) b dX12_kin_39 (by decide) ?_
  refine z_icmp_ne_f (tgt := 58) b dX12_kin_40 (by decide) (by decide) ?_
  refine z_aload_n b dX12_kin_43 rfl rfl ?_
  refine z_get (q0 := 0) (k9 := 4) (v := .ref (a 5)) b (mw_0 cy a S) rfl in_X12 (by decide) wf_X12_27 rfl dX12_kin_44 ?_
  refine z_iconst (v := 3) b dX12_kin_47 (by decide) ?_
  refine z_iload_n b dX12_kin_48 rfl rfl ?_
  refine z_imul (v := 0) b dX12_kin_49 (by decide) ?_
  refine z_iload_n b dX12_kin_50 rfl rfl ?_
  refine z_iadd (v := 2) b dX12_kin_51 (by decide) ?_
  refine z_iload b dX12_kin_52 rfl ?_
  refine y_zast (q0 := 5) (j := 2) b (mw_5 cy a S) (by decide) (by decide) dX12_kin_54 (mwa_5 cy a S 2 1) ?_
  refine z_goto (tgt := 82) b dX12_kin_55 (by decide) ?_
  refine z_aload_n b dX12_kin_82 rfl rfl ?_
  refine z_calli b (z_runV (q0 := 0) (As := []) (st := []) b (c_X12_told_18 (su S 4 2 1) h_i_0 h_a_0_0 h_a_2_0 h_a_3_1 h_a_1_1 h_a_4_1 h_a_1_2 rfl h_a_0_1 h_a_2_1 h_a_3_5 h_a_1_5 h_a_4_5 h_a_1_3 h_a_4_3 h_a_0_2 h_a_2_2 h_a_3_6 h_a_1_6 h_a_4_6 h_a_1_7 h_a_4_7) cf_X12_told (mw_0 cy a (su S 4 2 1)) rfl wm_X12_178 wi_X12_told ws_X12_told dX12_kin_83 rfl (Nat.le_of_ble_eq_true rfl) ⟨by decide, by decide, by decide, by decide⟩) (fun r2609 u2610 h2608 => ?_)
  obtain ⟨rfl, rfl⟩ := h2608
  exact z_zret (u := (sl (su S 4 2 1) 0 1650391516672)) b rfl (by decide) dX12_kin_86 ⟨rfl, rfl⟩ rfl (by decide) (by decide)

set_option maxHeartbeats 4000000 in
set_option maxRecDepth 100000 in
theorem c_X11_kin_37 {l : Launch} {D : va_G} {cy : Nat → ClassId} {T0 tB tE : Nat} {a : Nat → Nat} {rw : Nat → Option Nat} (S : GS) (p0 : Int32)  (hr_p0 : 2 ≤ p0.toInt ∧ p0.toInt ≤ 2147483647) : Ct l D cy T0 tB tE yX11_kin cX11_kin 6 (some .boolean) 2 41 0 0 (cw cy tE a rw S) [.ref (a 0), .int 0, .int 2, .int p0, .int 0] (QI D (U := GS) (fun r u => 0 = r ∧ S = u) (cw cy tE a rw)) := by
  refine Ct.ofZ RX11 "kin" [(0, .ref (a 0)), (1, .int 0), (2, .int 2), (3, .int p0), (4, .int 0)] rfl rfl rfl rfl (Nat.le_of_ble_eq_true rfl) ?_
  intro p e R s m args below meth c A b
  refine z_iload_n b dX11_kin_0 rfl rfl ?_
  refine z_iload_n b dX11_kin_1 rfl rfl ?_
  refine z_calli b (z_runS (As := [.int 0, .int 2]) (st := []) b (c_X11_arePair_9 S ) cf_X11_arePair wm_X11_84 ws_X11_arePair dX11_kin_2 rfl (Nat.le_of_ble_eq_true rfl) ⟨by decide, by decide, by decide, by decide⟩) (fun r2612 u2613 h2611 => ?_)
  obtain ⟨rfl, rfl⟩ := h2611
  refine z_if_eq_f (tgt := 16) b dX11_kin_5 (by decide) (by decide) ?_
  refine z_iload_n b dX11_kin_8 rfl rfl ?_
  refine z_iconst (v := 1) b dX11_kin_9 (by decide) ?_
  refine z_calli b (z_runS (As := [.int p0, .int 1]) (st := []) b (c_X11_isWithin_4 S p0 ) cf_X11_isWithin wm_X11_73 ws_X11_isWithin dX11_kin_10 rfl (Nat.le_of_ble_eq_true rfl) ⟨by decide, by decide, by decide, by decide⟩) (fun r2615 u2616 h2614 => ?_)
  rcases h2614 with ⟨c2617, rfl, rfl⟩ | ⟨c2618, rfl, rfl⟩
  · refine z_if_ne_f (tgt := 18) b dX11_kin_13 (by decide) (by decide) ?_
    refine z_iconst (v := 0) b dX11_kin_16 (by decide) ?_
    exact z_zret (u := S) b rfl (by decide) dX11_kin_17 ⟨rfl, rfl⟩ rfl (by decide) (by decide)
  · exfalso; omega

set_option maxHeartbeats 4000000 in
set_option maxRecDepth 100000 in
theorem c_X12_kin_37 {l : Launch} {D : va_G} {cy : Nat → ClassId} {T0 tB tE : Nat} {a : Nat → Nat} (S : GS) (p0 : Int32)  (hr_p0 : 2 ≤ p0.toInt ∧ p0.toInt ≤ 2147483647) : Ct l D cy T0 tB tE yX12_kin cX12_kin 5 (some .boolean) 2 42 0 0 (mw cy a S) [.ref (a 0), .int 0, .int 2, .int p0, .int 0] (QI D (U := GS) (fun r u => 0 = r ∧ S = u) (mw cy a)) := by
  refine Ct.ofZ RX12 "kin" [(0, .ref (a 0)), (1, .int 0), (2, .int 2), (3, .int p0), (4, .int 0)] rfl rfl rfl rfl (Nat.le_of_ble_eq_true rfl) ?_
  intro p e R s m args below meth c A b
  refine z_iload_n b dX12_kin_0 rfl rfl ?_
  refine z_calli b (z_runS (As := [.int 0]) (st := []) b (c_X12_isOne_2 S ) cf_X12_isOne wm_X12_170 ws_X12_isOne dX12_kin_1 rfl (Nat.le_of_ble_eq_true rfl) ⟨by decide, by decide, by decide, by decide⟩) (fun r2620 u2621 h2619 => ?_)
  obtain ⟨rfl, rfl⟩ := h2619
  refine z_if_eq_f (tgt := 28) b dX12_kin_4 (by decide) (by decide) ?_
  refine z_iload_n b dX12_kin_7 rfl rfl ?_
  refine z_calli b (z_runS (As := [.int 2]) (st := []) b (c_X12_isOne_4 S ) cf_X12_isOne wm_X12_170 ws_X12_isOne dX12_kin_8 rfl (Nat.le_of_ble_eq_true rfl) ⟨by decide, by decide, by decide, by decide⟩) (fun r2623 u2624 h2622 => ?_)
  obtain ⟨rfl, rfl⟩ := h2622
  refine z_if_eq_f (tgt := 28) b dX12_kin_11 (by decide) (by decide) ?_
  refine z_iload_n b dX12_kin_14 rfl rfl ?_
  refine z_iload_n b dX12_kin_15 rfl rfl ?_
  refine z_icmp_eq_f (tgt := 28) b dX12_kin_16 (by decide) (by decide) ?_
  refine z_iload_n b dX12_kin_19 rfl rfl ?_
  refine z_iconst (v := 0) b dX12_kin_20 (by decide) ?_
  refine z_iconst (v := 1) b dX12_kin_21 (by decide) ?_
  refine z_calli b (z_runS (As := [.int p0, .int 0, .int 1]) (st := []) b (c_X12_isIn_8 S p0 ) cf_X12_isIn wm_X12_1 ws_X12_isIn dX12_kin_22 rfl (Nat.le_of_ble_eq_true rfl) ⟨by decide, by decide, by decide, by decide⟩) (fun r2626 u2627 h2625 => ?_)
  rcases h2625 with ⟨c2628, rfl, rfl⟩ | ⟨c2629, rfl, rfl⟩
  · refine z_if_ne_f (tgt := 30) b dX12_kin_25 (by decide) (by decide) ?_
    refine z_iconst (v := 0) b dX12_kin_28 (by decide) ?_
    exact z_zret (u := S) b rfl (by decide) dX12_kin_29 ⟨rfl, rfl⟩ rfl (by decide) (by decide)
  · exfalso; omega

set_option maxHeartbeats 4000000 in
set_option maxRecDepth 100000 in
theorem c_X11_kin_38 {l : Launch} {D : va_G} {cy : Nat → ClassId} {T0 tB tE : Nat} {a : Nat → Nat} {rw : Nat → Option Nat} (S : GS) (p0 : Int32)  (hr_p0 : 2 ≤ p0.toInt ∧ p0.toInt ≤ 2147483647) : Ct l D cy T0 tB tE yX11_kin cX11_kin 6 (some .boolean) 2 41 0 0 (cw cy tE a rw S) [.ref (a 0), .int 0, .int 2, .int p0, .int 1] (QI D (U := GS) (fun r u => 0 = r ∧ S = u) (cw cy tE a rw)) := by
  refine Ct.ofZ RX11 "kin" [(0, .ref (a 0)), (1, .int 0), (2, .int 2), (3, .int p0), (4, .int 1)] rfl rfl rfl rfl (Nat.le_of_ble_eq_true rfl) ?_
  intro p e R s m args below meth c A b
  refine z_iload_n b dX11_kin_0 rfl rfl ?_
  refine z_iload_n b dX11_kin_1 rfl rfl ?_
  refine z_calli b (z_runS (As := [.int 0, .int 2]) (st := []) b (c_X11_arePair_9 S ) cf_X11_arePair wm_X11_84 ws_X11_arePair dX11_kin_2 rfl (Nat.le_of_ble_eq_true rfl) ⟨by decide, by decide, by decide, by decide⟩) (fun r2631 u2632 h2630 => ?_)
  obtain ⟨rfl, rfl⟩ := h2630
  refine z_if_eq_f (tgt := 16) b dX11_kin_5 (by decide) (by decide) ?_
  refine z_iload_n b dX11_kin_8 rfl rfl ?_
  refine z_iconst (v := 1) b dX11_kin_9 (by decide) ?_
  refine z_calli b (z_runS (As := [.int p0, .int 1]) (st := []) b (c_X11_isWithin_4 S p0 ) cf_X11_isWithin wm_X11_73 ws_X11_isWithin dX11_kin_10 rfl (Nat.le_of_ble_eq_true rfl) ⟨by decide, by decide, by decide, by decide⟩) (fun r2634 u2635 h2633 => ?_)
  rcases h2633 with ⟨c2636, rfl, rfl⟩ | ⟨c2637, rfl, rfl⟩
  · refine z_if_ne_f (tgt := 18) b dX11_kin_13 (by decide) (by decide) ?_
    refine z_iconst (v := 0) b dX11_kin_16 (by decide) ?_
    exact z_zret (u := S) b rfl (by decide) dX11_kin_17 ⟨rfl, rfl⟩ rfl (by decide) (by decide)
  · exfalso; omega

set_option maxHeartbeats 4000000 in
set_option maxRecDepth 100000 in
theorem c_X12_kin_38 {l : Launch} {D : va_G} {cy : Nat → ClassId} {T0 tB tE : Nat} {a : Nat → Nat} (S : GS) (p0 : Int32)  (hr_p0 : 2 ≤ p0.toInt ∧ p0.toInt ≤ 2147483647) : Ct l D cy T0 tB tE yX12_kin cX12_kin 5 (some .boolean) 2 42 0 0 (mw cy a S) [.ref (a 0), .int 0, .int 2, .int p0, .int 1] (QI D (U := GS) (fun r u => 0 = r ∧ S = u) (mw cy a)) := by
  refine Ct.ofZ RX12 "kin" [(0, .ref (a 0)), (1, .int 0), (2, .int 2), (3, .int p0), (4, .int 1)] rfl rfl rfl rfl (Nat.le_of_ble_eq_true rfl) ?_
  intro p e R s m args below meth c A b
  refine z_iload_n b dX12_kin_0 rfl rfl ?_
  refine z_calli b (z_runS (As := [.int 0]) (st := []) b (c_X12_isOne_2 S ) cf_X12_isOne wm_X12_170 ws_X12_isOne dX12_kin_1 rfl (Nat.le_of_ble_eq_true rfl) ⟨by decide, by decide, by decide, by decide⟩) (fun r2639 u2640 h2638 => ?_)
  obtain ⟨rfl, rfl⟩ := h2638
  refine z_if_eq_f (tgt := 28) b dX12_kin_4 (by decide) (by decide) ?_
  refine z_iload_n b dX12_kin_7 rfl rfl ?_
  refine z_calli b (z_runS (As := [.int 2]) (st := []) b (c_X12_isOne_4 S ) cf_X12_isOne wm_X12_170 ws_X12_isOne dX12_kin_8 rfl (Nat.le_of_ble_eq_true rfl) ⟨by decide, by decide, by decide, by decide⟩) (fun r2642 u2643 h2641 => ?_)
  obtain ⟨rfl, rfl⟩ := h2641
  refine z_if_eq_f (tgt := 28) b dX12_kin_11 (by decide) (by decide) ?_
  refine z_iload_n b dX12_kin_14 rfl rfl ?_
  refine z_iload_n b dX12_kin_15 rfl rfl ?_
  refine z_icmp_eq_f (tgt := 28) b dX12_kin_16 (by decide) (by decide) ?_
  refine z_iload_n b dX12_kin_19 rfl rfl ?_
  refine z_iconst (v := 0) b dX12_kin_20 (by decide) ?_
  refine z_iconst (v := 1) b dX12_kin_21 (by decide) ?_
  refine z_calli b (z_runS (As := [.int p0, .int 0, .int 1]) (st := []) b (c_X12_isIn_8 S p0 ) cf_X12_isIn wm_X12_1 ws_X12_isIn dX12_kin_22 rfl (Nat.le_of_ble_eq_true rfl) ⟨by decide, by decide, by decide, by decide⟩) (fun r2645 u2646 h2644 => ?_)
  rcases h2644 with ⟨c2647, rfl, rfl⟩ | ⟨c2648, rfl, rfl⟩
  · refine z_if_ne_f (tgt := 30) b dX12_kin_25 (by decide) (by decide) ?_
    refine z_iconst (v := 0) b dX12_kin_28 (by decide) ?_
    exact z_zret (u := S) b rfl (by decide) dX12_kin_29 ⟨rfl, rfl⟩ rfl (by decide) (by decide)
  · exfalso; omega

set_option maxHeartbeats 4000000 in
set_option maxRecDepth 100000 in
theorem c_X11_kin_39 {l : Launch} {D : va_G} {cy : Nat → ClassId} {T0 tB tE : Nat} {a : Nat → Nat} {rw : Nat → Option Nat} (S : GS) (p0 : Int32)  (hr_p0 : (-2147483648) ≤ p0.toInt ∧ p0.toInt ≤ (-1)) : Ct l D cy T0 tB tE yX11_kin cX11_kin 6 (some .boolean) 2 41 0 0 (cw cy tE a rw S) [.ref (a 0), .int 1, .int 0, .int p0, .int 0] (QI D (U := GS) (fun r u => 0 = r ∧ S = u) (cw cy tE a rw)) := by
  refine Ct.ofZ RX11 "kin" [(0, .ref (a 0)), (1, .int 1), (2, .int 0), (3, .int p0), (4, .int 0)] rfl rfl rfl rfl (Nat.le_of_ble_eq_true rfl) ?_
  intro p e R s m args below meth c A b
  refine z_iload_n b dX11_kin_0 rfl rfl ?_
  refine z_iload_n b dX11_kin_1 rfl rfl ?_
  refine z_calli b (z_runS (As := [.int 1, .int 0]) (st := []) b (c_X11_arePair_10 S ) cf_X11_arePair wm_X11_84 ws_X11_arePair dX11_kin_2 rfl (Nat.le_of_ble_eq_true rfl) ⟨by decide, by decide, by decide, by decide⟩) (fun r2650 u2651 h2649 => ?_)
  obtain ⟨rfl, rfl⟩ := h2649
  refine z_if_eq_f (tgt := 16) b dX11_kin_5 (by decide) (by decide) ?_
  refine z_iload_n b dX11_kin_8 rfl rfl ?_
  refine z_iconst (v := 1) b dX11_kin_9 (by decide) ?_
  refine z_calli b (z_runS (As := [.int p0, .int 1]) (st := []) b (c_X11_isWithin_4 S p0 ) cf_X11_isWithin wm_X11_73 ws_X11_isWithin dX11_kin_10 rfl (Nat.le_of_ble_eq_true rfl) ⟨by decide, by decide, by decide, by decide⟩) (fun r2653 u2654 h2652 => ?_)
  rcases h2652 with ⟨c2655, rfl, rfl⟩ | ⟨c2656, rfl, rfl⟩
  · refine z_if_ne_f (tgt := 18) b dX11_kin_13 (by decide) (by decide) ?_
    refine z_iconst (v := 0) b dX11_kin_16 (by decide) ?_
    exact z_zret (u := S) b rfl (by decide) dX11_kin_17 ⟨rfl, rfl⟩ rfl (by decide) (by decide)
  · exfalso; omega

set_option maxHeartbeats 4000000 in
set_option maxRecDepth 100000 in
theorem c_X12_kin_39 {l : Launch} {D : va_G} {cy : Nat → ClassId} {T0 tB tE : Nat} {a : Nat → Nat} (S : GS) (p0 : Int32)  (hr_p0 : (-2147483648) ≤ p0.toInt ∧ p0.toInt ≤ (-1)) : Ct l D cy T0 tB tE yX12_kin cX12_kin 5 (some .boolean) 2 42 0 0 (mw cy a S) [.ref (a 0), .int 1, .int 0, .int p0, .int 0] (QI D (U := GS) (fun r u => 0 = r ∧ S = u) (mw cy a)) := by
  refine Ct.ofZ RX12 "kin" [(0, .ref (a 0)), (1, .int 1), (2, .int 0), (3, .int p0), (4, .int 0)] rfl rfl rfl rfl (Nat.le_of_ble_eq_true rfl) ?_
  intro p e R s m args below meth c A b
  refine z_iload_n b dX12_kin_0 rfl rfl ?_
  refine z_calli b (z_runS (As := [.int 1]) (st := []) b (c_X12_isOne_3 S ) cf_X12_isOne wm_X12_170 ws_X12_isOne dX12_kin_1 rfl (Nat.le_of_ble_eq_true rfl) ⟨by decide, by decide, by decide, by decide⟩) (fun r2658 u2659 h2657 => ?_)
  obtain ⟨rfl, rfl⟩ := h2657
  refine z_if_eq_f (tgt := 28) b dX12_kin_4 (by decide) (by decide) ?_
  refine z_iload_n b dX12_kin_7 rfl rfl ?_
  refine z_calli b (z_runS (As := [.int 0]) (st := []) b (c_X12_isOne_2 S ) cf_X12_isOne wm_X12_170 ws_X12_isOne dX12_kin_8 rfl (Nat.le_of_ble_eq_true rfl) ⟨by decide, by decide, by decide, by decide⟩) (fun r2661 u2662 h2660 => ?_)
  obtain ⟨rfl, rfl⟩ := h2660
  refine z_if_eq_f (tgt := 28) b dX12_kin_11 (by decide) (by decide) ?_
  refine z_iload_n b dX12_kin_14 rfl rfl ?_
  refine z_iload_n b dX12_kin_15 rfl rfl ?_
  refine z_icmp_eq_f (tgt := 28) b dX12_kin_16 (by decide) (by decide) ?_
  refine z_iload_n b dX12_kin_19 rfl rfl ?_
  refine z_iconst (v := 0) b dX12_kin_20 (by decide) ?_
  refine z_iconst (v := 1) b dX12_kin_21 (by decide) ?_
  refine z_calli b (z_runS (As := [.int p0, .int 0, .int 1]) (st := []) b (c_X12_isIn_8 S p0 ) cf_X12_isIn wm_X12_1 ws_X12_isIn dX12_kin_22 rfl (Nat.le_of_ble_eq_true rfl) ⟨by decide, by decide, by decide, by decide⟩) (fun r2664 u2665 h2663 => ?_)
  rcases h2663 with ⟨c2666, rfl, rfl⟩ | ⟨c2667, rfl, rfl⟩
  · refine z_if_ne_f (tgt := 30) b dX12_kin_25 (by decide) (by decide) ?_
    refine z_iconst (v := 0) b dX12_kin_28 (by decide) ?_
    exact z_zret (u := S) b rfl (by decide) dX12_kin_29 ⟨rfl, rfl⟩ rfl (by decide) (by decide)
  · exfalso; omega

set_option maxHeartbeats 4000000 in
set_option maxRecDepth 100000 in
theorem c_X11_kin_40 {l : Launch} {D : va_G} {cy : Nat → ClassId} {T0 tB tE : Nat} {a : Nat → Nat} {rw : Nat → Option Nat} (S : GS) (p0 : Int32)  (hr_p0 : (-2147483648) ≤ p0.toInt ∧ p0.toInt ≤ (-1)) : Ct l D cy T0 tB tE yX11_kin cX11_kin 6 (some .boolean) 2 41 0 0 (cw cy tE a rw S) [.ref (a 0), .int 1, .int 0, .int p0, .int 1] (QI D (U := GS) (fun r u => 0 = r ∧ S = u) (cw cy tE a rw)) := by
  refine Ct.ofZ RX11 "kin" [(0, .ref (a 0)), (1, .int 1), (2, .int 0), (3, .int p0), (4, .int 1)] rfl rfl rfl rfl (Nat.le_of_ble_eq_true rfl) ?_
  intro p e R s m args below meth c A b
  refine z_iload_n b dX11_kin_0 rfl rfl ?_
  refine z_iload_n b dX11_kin_1 rfl rfl ?_
  refine z_calli b (z_runS (As := [.int 1, .int 0]) (st := []) b (c_X11_arePair_10 S ) cf_X11_arePair wm_X11_84 ws_X11_arePair dX11_kin_2 rfl (Nat.le_of_ble_eq_true rfl) ⟨by decide, by decide, by decide, by decide⟩) (fun r2669 u2670 h2668 => ?_)
  obtain ⟨rfl, rfl⟩ := h2668
  refine z_if_eq_f (tgt := 16) b dX11_kin_5 (by decide) (by decide) ?_
  refine z_iload_n b dX11_kin_8 rfl rfl ?_
  refine z_iconst (v := 1) b dX11_kin_9 (by decide) ?_
  refine z_calli b (z_runS (As := [.int p0, .int 1]) (st := []) b (c_X11_isWithin_4 S p0 ) cf_X11_isWithin wm_X11_73 ws_X11_isWithin dX11_kin_10 rfl (Nat.le_of_ble_eq_true rfl) ⟨by decide, by decide, by decide, by decide⟩) (fun r2672 u2673 h2671 => ?_)
  rcases h2671 with ⟨c2674, rfl, rfl⟩ | ⟨c2675, rfl, rfl⟩
  · refine z_if_ne_f (tgt := 18) b dX11_kin_13 (by decide) (by decide) ?_
    refine z_iconst (v := 0) b dX11_kin_16 (by decide) ?_
    exact z_zret (u := S) b rfl (by decide) dX11_kin_17 ⟨rfl, rfl⟩ rfl (by decide) (by decide)
  · exfalso; omega

set_option maxHeartbeats 4000000 in
set_option maxRecDepth 100000 in
theorem c_X12_kin_40 {l : Launch} {D : va_G} {cy : Nat → ClassId} {T0 tB tE : Nat} {a : Nat → Nat} (S : GS) (p0 : Int32)  (hr_p0 : (-2147483648) ≤ p0.toInt ∧ p0.toInt ≤ (-1)) : Ct l D cy T0 tB tE yX12_kin cX12_kin 5 (some .boolean) 2 42 0 0 (mw cy a S) [.ref (a 0), .int 1, .int 0, .int p0, .int 1] (QI D (U := GS) (fun r u => 0 = r ∧ S = u) (mw cy a)) := by
  refine Ct.ofZ RX12 "kin" [(0, .ref (a 0)), (1, .int 1), (2, .int 0), (3, .int p0), (4, .int 1)] rfl rfl rfl rfl (Nat.le_of_ble_eq_true rfl) ?_
  intro p e R s m args below meth c A b
  refine z_iload_n b dX12_kin_0 rfl rfl ?_
  refine z_calli b (z_runS (As := [.int 1]) (st := []) b (c_X12_isOne_3 S ) cf_X12_isOne wm_X12_170 ws_X12_isOne dX12_kin_1 rfl (Nat.le_of_ble_eq_true rfl) ⟨by decide, by decide, by decide, by decide⟩) (fun r2677 u2678 h2676 => ?_)
  obtain ⟨rfl, rfl⟩ := h2676
  refine z_if_eq_f (tgt := 28) b dX12_kin_4 (by decide) (by decide) ?_
  refine z_iload_n b dX12_kin_7 rfl rfl ?_
  refine z_calli b (z_runS (As := [.int 0]) (st := []) b (c_X12_isOne_2 S ) cf_X12_isOne wm_X12_170 ws_X12_isOne dX12_kin_8 rfl (Nat.le_of_ble_eq_true rfl) ⟨by decide, by decide, by decide, by decide⟩) (fun r2680 u2681 h2679 => ?_)
  obtain ⟨rfl, rfl⟩ := h2679
  refine z_if_eq_f (tgt := 28) b dX12_kin_11 (by decide) (by decide) ?_
  refine z_iload_n b dX12_kin_14 rfl rfl ?_
  refine z_iload_n b dX12_kin_15 rfl rfl ?_
  refine z_icmp_eq_f (tgt := 28) b dX12_kin_16 (by decide) (by decide) ?_
  refine z_iload_n b dX12_kin_19 rfl rfl ?_
  refine z_iconst (v := 0) b dX12_kin_20 (by decide) ?_
  refine z_iconst (v := 1) b dX12_kin_21 (by decide) ?_
  refine z_calli b (z_runS (As := [.int p0, .int 0, .int 1]) (st := []) b (c_X12_isIn_8 S p0 ) cf_X12_isIn wm_X12_1 ws_X12_isIn dX12_kin_22 rfl (Nat.le_of_ble_eq_true rfl) ⟨by decide, by decide, by decide, by decide⟩) (fun r2683 u2684 h2682 => ?_)
  rcases h2682 with ⟨c2685, rfl, rfl⟩ | ⟨c2686, rfl, rfl⟩
  · refine z_if_ne_f (tgt := 30) b dX12_kin_25 (by decide) (by decide) ?_
    refine z_iconst (v := 0) b dX12_kin_28 (by decide) ?_
    exact z_zret (u := S) b rfl (by decide) dX12_kin_29 ⟨rfl, rfl⟩ rfl (by decide) (by decide)
  · exfalso; omega

set_option maxHeartbeats 4000000 in
set_option maxRecDepth 100000 in
theorem c_X11_kin_41 {l : Launch} {D : va_G} {cy : Nat → ClassId} {T0 tB tE : Nat} {a : Nat → Nat} {rw : Nat → Option Nat} (S : GS)  (h_a_4_23 : ar S 4 23 = 0) (h_a_4_21 : ar S 4 21 = 0) (h_i_24 : fi S 24 = 0) : Ct l D cy T0 tB tE yX11_kin cX11_kin 6 (some .boolean) 2 41 0 0 (cw cy tE a rw S) [.ref (a 0), .int 1, .int 0, .int 0, .int 0] (QI D (U := GS) (fun r u => 1 = r ∧ S = u) (cw cy tE a rw)) := by
  refine Ct.ofZ RX11 "kin" [(0, .ref (a 0)), (1, .int 1), (2, .int 0), (3, .int 0), (4, .int 0)] rfl rfl rfl rfl (Nat.le_of_ble_eq_true rfl) ?_
  intro p e R s m args below meth c A b
  refine z_iload_n b dX11_kin_0 rfl rfl ?_
  refine z_iload_n b dX11_kin_1 rfl rfl ?_
  refine z_calli b (z_runS (As := [.int 1, .int 0]) (st := []) b (c_X11_arePair_10 S ) cf_X11_arePair wm_X11_84 ws_X11_arePair dX11_kin_2 rfl (Nat.le_of_ble_eq_true rfl) ⟨by decide, by decide, by decide, by decide⟩) (fun r2688 u2689 h2687 => ?_)
  obtain ⟨rfl, rfl⟩ := h2687
  refine z_if_eq_f (tgt := 16) b dX11_kin_5 (by decide) (by decide) ?_
  refine z_iload_n b dX11_kin_8 rfl rfl ?_
  refine z_iconst (v := 1) b dX11_kin_9 (by decide) ?_
  refine z_calli b (z_runS (As := [.int 0, .int 1]) (st := []) b (c_X11_isWithin_5 S ) cf_X11_isWithin wm_X11_73 ws_X11_isWithin dX11_kin_10 rfl (Nat.le_of_ble_eq_true rfl) ⟨by decide, by decide, by decide, by decide⟩) (fun r2691 u2692 h2690 => ?_)
  obtain ⟨rfl, rfl⟩ := h2690
  refine z_if_ne_t (tgt := 18) b dX11_kin_13 (by decide) (by decide) ?_
  refine z_iload b dX11_kin_18 rfl ?_
  refine z_if_eq_t (tgt := 27) b dX11_kin_20 (by decide) (by decide) ?_
  refine z_iconst (v := 0) b dX11_kin_27 (by decide) ?_
  refine z_istore (lv' := [(5, .int 0), (0, .ref (a 0)), (1, .int 1), (2, .int 0), (3, .int 0), (4, .int 0)]) b dX11_kin_28 (by decide) rfl ?_
  refine z_iload_n b dX11_kin_30 rfl rfl ?_
  refine z_if_ne_f (tgt := 71) b dX11_kin_31 (by decide) (by decide) ?_
  refine z_aload_n b dX11_kin_34 rfl rfl ?_
  refine z_get (q0 := 0) (k9 := 4) (v := .ref (a 14)) b (cw_0 cy tE a rw S) rfl in_X11 (by decide) wf_X11_34 rfl dX11_kin_35 ?_
  refine z_bipush (v := 20) b dX11_kin_38 (by decide) ?_
  refine z_iconst (v := 3) b dX11_kin_40 (by decide) ?_
  refine z_iload_n b dX11_kin_41 rfl rfl ?_
  refine z_imul (v := 3) b dX11_kin_42 (by decide) ?_
  refine z_iadd (v := 23) b dX11_kin_43 (by decide) ?_
  refine z_iload_n b dX11_kin_44 rfl rfl ?_
  refine z_iadd (v := 23) b dX11_kin_45 (by decide) ?_
  refine z_iload b dX11_kin_46 rfl ?_
  refine z_callv b (z_runV (q0 := 14) (As := [.int 23, .int 0]) (st := []) b (c_X9_set_15 S h_a_4_23) cf_X9_set (cw_14 cy tE a rw S) rfl wm_X11_77 wi_X9_set ws_X9_set dX11_kin_48 rfl (Nat.le_of_ble_eq_true rfl) ⟨by decide, by decide, by decide, by decide⟩) (fun u2695 h2693 => ?_)
  obtain rfl := h2693
  refine z_aload_n b dX11_kin_51 rfl rfl ?_
  refine z_get (q0 := 0) (k9 := 4) (v := .ref (a 14)) b (cw_0 cy tE a rw S) rfl in_X11 (by decide) wf_X11_34 rfl dX11_kin_52 ?_
  refine z_bipush (v := 20) b dX11_kin_55 (by decide) ?_
  refine z_iconst (v := 3) b dX11_kin_57 (by decide) ?_
  refine z_iload_n b dX11_kin_58 rfl rfl ?_
  refine z_imul (v := 0) b dX11_kin_59 (by decide) ?_
  refine z_iadd (v := 20) b dX11_kin_60 (by decide) ?_
  refine z_iload_n b dX11_kin_61 rfl rfl ?_
  refine z_iadd (v := 21) b dX11_kin_62 (by decide) ?_
  refine z_iload b dX11_kin_63 rfl ?_
  refine z_callv b (z_runV (q0 := 14) (As := [.int 21, .int 0]) (st := []) b (c_X9_set_14 S h_a_4_21) cf_X9_set (cw_14 cy tE a rw S) rfl wm_X11_77 wi_X9_set ws_X9_set dX11_kin_65 rfl (Nat.le_of_ble_eq_true rfl) ⟨by decide, by decide, by decide, by decide⟩) (fun u2698 h2696 => ?_)
  obtain rfl := h2696
  refine z_goto (tgt := 88) b dX11_kin_68 (by decide) ?_
  refine z_aload_n b dX11_kin_88 rfl rfl ?_
  refine z_get (q0 := 0) (k9 := 6) (v := .ref (a 25)) b (cw_0 cy tE a rw S) rfl in_X11 (by decide) wf_X11_52 rfl dX11_kin_89 ?_
  refine z_callv b (z_runV (q0 := 25) (As := []) (st := []) b (c_X8_forget S h_i_24) cf_X8_forget (cw_25 cy tE a rw S) rfl wm_X11_81 wi_X8_forget ws_X8_forget dX11_kin_92 rfl (Nat.le_of_ble_eq_true rfl) ⟨by decide, by decide, by decide, by decide⟩) (fun u2701 h2699 => ?_)
  obtain rfl := h2699
  refine z_iconst (v := 1) b dX11_kin_95 (by decide) ?_
  exact z_zret (u := S) b rfl (by decide) dX11_kin_96 ⟨rfl, rfl⟩ rfl (by decide) (by decide)

set_option maxHeartbeats 4000000 in
set_option maxRecDepth 100000 in
theorem c_X12_kin_41 {l : Launch} {D : va_G} {cy : Nat → ClassId} {T0 tB tE : Nat} {a : Nat → Nat} (S : GS)  (h_l_0 : fl S 0 = 1649317774848) (h_a_4_7 : ar S 4 7 = 0) (h_a_1_7 : ar S 1 7 = 0) (h_a_4_6 : ar S 4 6 = 0) (h_a_1_6 : ar S 1 6 = 0) (h_a_3_6 : ar S 3 6 = 0) (h_a_3_2 : ar S 3 2 = 0) (h_a_2_2 : ar S 2 2 = 3) (h_a_0_2 : ar S 0 2 = 0) (h_a_4_3 : ar S 4 3 = 0) (h_a_1_3 : ar S 1 3 = 0) (h_a_4_5 : ar S 4 5 = 0) (h_a_1_5 : ar S 1 5 = 0) (h_a_3_5 : ar S 3 5 = 0) (h_a_3_7 : ar S 3 7 = 0) (h_a_2_1 : ar S 2 1 = 3) (h_a_0_1 : ar S 0 1 = 0) (h_a_4_2 : ar S 4 2 = 0) (h_a_1_2 : ar S 1 2 = 0) (h_a_4_1 : ar S 4 1 = 0) (h_a_1_1 : ar S 1 1 = 0) (h_a_3_1 : ar S 3 1 = 0) (h_a_3_3 : ar S 3 3 = 0) (h_a_2_0 : ar S 2 0 = 3) (h_a_0_0 : ar S 0 0 = 0) (h_i_0 : fi S 0 = 0) : Ct l D cy T0 tB tE yX12_kin cX12_kin 5 (some .boolean) 3 65 0 0 (mw cy a S) [.ref (a 0), .int 1, .int 0, .int 0, .int 0] (QI D (U := GS) (fun r u => 1 = r ∧ S = u) (mw cy a)) := by
  refine Ct.ofZ RX12 "kin" [(0, .ref (a 0)), (1, .int 1), (2, .int 0), (3, .int 0), (4, .int 0)] rfl rfl rfl rfl (Nat.le_of_ble_eq_true rfl) ?_
  intro p e R s m args below meth c A b
  refine z_iload_n b dX12_kin_0 rfl rfl ?_
  refine z_calli b (z_runS (As := [.int 1]) (st := []) b (c_X12_isOne_3 S ) cf_X12_isOne wm_X12_170 ws_X12_isOne dX12_kin_1 rfl (Nat.le_of_ble_eq_true rfl) ⟨by decide, by decide, by decide, by decide⟩) (fun r2703 u2704 h2702 => ?_)
  obtain ⟨rfl, rfl⟩ := h2702
  refine z_if_eq_f (tgt := 28) b dX12_kin_4 (by decide) (by decide) ?_
  refine z_iload_n b dX12_kin_7 rfl rfl ?_
  refine z_calli b (z_runS (As := [.int 0]) (st := []) b (c_X12_isOne_2 S ) cf_X12_isOne wm_X12_170 ws_X12_isOne dX12_kin_8 rfl (Nat.le_of_ble_eq_true rfl) ⟨by decide, by decide, by decide, by decide⟩) (fun r2706 u2707 h2705 => ?_)
  obtain ⟨rfl, rfl⟩ := h2705
  refine z_if_eq_f (tgt := 28) b dX12_kin_11 (by decide) (by decide) ?_
  refine z_iload_n b dX12_kin_14 rfl rfl ?_
  refine z_iload_n b dX12_kin_15 rfl rfl ?_
  refine z_icmp_eq_f (tgt := 28) b dX12_kin_16 (by decide) (by decide) ?_
  refine z_iload_n b dX12_kin_19 rfl rfl ?_
  refine z_iconst (v := 0) b dX12_kin_20 (by decide) ?_
  refine z_iconst (v := 1) b dX12_kin_21 (by decide) ?_
  refine z_calli b (z_runS (As := [.int 0, .int 0, .int 1]) (st := []) b (c_X12_isIn_9 S ) cf_X12_isIn wm_X12_1 ws_X12_isIn dX12_kin_22 rfl (Nat.le_of_ble_eq_true rfl) ⟨by decide, by decide, by decide, by decide⟩) (fun r2709 u2710 h2708 => ?_)
  obtain ⟨rfl, rfl⟩ := h2708
  refine z_if_ne_t (tgt := 30) b dX12_kin_25 (by decide) (by decide) ?_
  refine z_aload_n b dX12_kin_30 rfl rfl ?_
  refine z_aload_n b dX12_kin_31 rfl rfl ?_
  refine z_get (q0 := 0) (k9 := 6) (v := .long (fl S 0)) b (mw_0 cy a S) rfl in_X12 (by decide) wf_X12_153 rfl dX12_kin_32 ?_
  refine z_eql h_l_0 ?_
  refine z_callv b (z_runV (q0 := 0) (As := [.long 1649317774848]) (st := []) b (c_X12_takes S h_a_4_7 h_a_1_7 h_a_4_6 h_a_1_6 h_a_3_6 h_a_3_2 h_a_2_2 h_a_0_2 h_a_4_3 h_a_1_3 h_a_4_5 h_a_1_5 h_a_3_5 h_a_3_7 h_a_2_1 h_a_0_1 h_a_4_2 h_a_1_2 h_a_4_1 h_a_1_1 h_a_3_1 h_a_3_3 h_a_2_0 h_a_0_0 h_i_0) cf_X12_takes (mw_0 cy a S) rfl wm_X12_174 wi_X12_takes ws_X12_takes dX12_kin_35 rfl (Nat.le_of_ble_eq_true rfl) ⟨by decide, by decide, by decide, by decide⟩) (fun u2713 h2711 => ?_)
  obtain rfl := h2711
  refine z_iload_n b dX12_kin_38 rfl rfl ?_
  refine z_iconst (v := 1) b dX12_kin_39 (by decide) ?_
  refine z_icmp_ne_t (tgt := 58) b dX12_kin_40 (by decide) (by decide) ?_
  refine z_aload_n b dX12_kin_58 rfl rfl ?_
  refine z_get (q0 := 0) (k9 := 3) (v := .ref (a 4)) b (mw_0 cy a S) rfl in_X12 (by decide) wf_X12_23 rfl dX12_kin_59 ?_
  refine z_iconst (v := 3) b dX12_kin_62 (by decide) ?_
  refine z_iload_n b dX12_kin_63 rfl rfl ?_
  refine z_imul (v := 3) b dX12_kin_64 (by decide) ?_
  refine z_iload_n b dX12_kin_65 rfl rfl ?_
  refine z_iadd (v := 3) b dX12_kin_66 (by decide) ?_
  refine z_iload b dX12_kin_67 rfl ?_
  refine y_zast (q0 := 4) (j := 3) b (mw_4 cy a S) (by decide) (by decide) dX12_kin_69 ((mwa_4 cy a S 3 0).trans (congrArg (mw cy a) (su_same h_a_3_3))) ?_
  refine z_aload_n b dX12_kin_70 rfl rfl ?_
  refine z_get (q0 := 0) (k9 := 3) (v := .ref (a 4)) b (mw_0 cy a S) rfl in_X12 (by decide) wf_X12_23 rfl dX12_kin_71 ?_
  refine z_iconst (v := 3) b dX12_kin_74 (by decide) ?_
  refine z_iload_n b dX12_kin_75 rfl rfl ?_
  refine z_imul (v := 0) b dX12_kin_76 (by decide) ?_
  refine z_iload_n b dX12_kin_77 rfl rfl ?_
  refine z_iadd (v := 1) b dX12_kin_78 (by decide) ?_
  refine z_iload b dX12_kin_79 rfl ?_
  refine y_zast (q0 := 4) (j := 1) b (mw_4 cy a S) (by decide) (by decide) dX12_kin_81 ((mwa_4 cy a S 1 0).trans (congrArg (mw cy a) (su_same h_a_3_1))) ?_
  refine z_aload_n b dX12_kin_82 rfl rfl ?_
  refine z_calli b (z_runV (q0 := 0) (As := []) (st := []) b (c_X12_told_14 S h_i_0 h_a_0_0 h_a_2_0 h_a_3_1 h_a_1_1 h_a_4_1 h_a_1_2 h_a_4_2 h_a_0_1 h_a_2_1 h_a_3_5 h_a_1_5 h_a_4_5 h_a_1_3 h_a_4_3 h_a_0_2 h_a_2_2 h_a_3_6 h_a_1_6 h_a_4_6 h_a_1_7 h_a_4_7 h_l_0) cf_X12_told (mw_0 cy a S) rfl wm_X12_178 wi_X12_told ws_X12_told dX12_kin_83 rfl (Nat.le_of_ble_eq_true rfl) ⟨by decide, by decide, by decide, by decide⟩) (fun r2715 u2716 h2714 => ?_)
  obtain ⟨rfl, rfl⟩ := h2714
  exact z_zret (u := S) b rfl (by decide) dX12_kin_86 ⟨rfl, rfl⟩ rfl (by decide) (by decide)

set_option maxHeartbeats 4000000 in
set_option maxRecDepth 100000 in
theorem c_X11_kin_42 {l : Launch} {D : va_G} {cy : Nat → ClassId} {T0 tB tE : Nat} {a : Nat → Nat} {rw : Nat → Option Nat} (S : GS)  (h_i_24 : fi S 24 = 0) : Ct l D cy T0 tB tE yX11_kin cX11_kin 6 (some .boolean) 2 41 0 0 (cw cy tE a rw S) [.ref (a 0), .int 1, .int 0, .int 0, .int 1] (QI D (U := GS) (fun r u => 1 = r ∧ (su (su S 4 23 1) 4 21 1) = u) (cw cy tE a rw)) := by
  refine Ct.ofZ RX11 "kin" [(0, .ref (a 0)), (1, .int 1), (2, .int 0), (3, .int 0), (4, .int 1)] rfl rfl rfl rfl (Nat.le_of_ble_eq_true rfl) ?_
  intro p e R s m args below meth c A b
  refine z_iload_n b dX11_kin_0 rfl rfl ?_
  refine z_iload_n b dX11_kin_1 rfl rfl ?_
  refine z_calli b (z_runS (As := [.int 1, .int 0]) (st := []) b (c_X11_arePair_10 S ) cf_X11_arePair wm_X11_84 ws_X11_arePair dX11_kin_2 rfl (Nat.le_of_ble_eq_true rfl) ⟨by decide, by decide, by decide, by decide⟩) (fun r2718 u2719 h2717 => ?_)
  obtain ⟨rfl, rfl⟩ := h2717
  refine z_if_eq_f (tgt := 16) b dX11_kin_5 (by decide) (by decide) ?_
  refine z_iload_n b dX11_kin_8 rfl rfl ?_
  refine z_iconst (v := 1) b dX11_kin_9 (by decide) ?_
  refine z_calli b (z_runS (As := [.int 0, .int 1]) (st := []) b (c_X11_isWithin_5 S ) cf_X11_isWithin wm_X11_73 ws_X11_isWithin dX11_kin_10 rfl (Nat.le_of_ble_eq_true rfl) ⟨by decide, by decide, by decide, by decide⟩) (fun r2721 u2722 h2720 => ?_)
  obtain ⟨rfl, rfl⟩ := h2720
  refine z_if_ne_t (tgt := 18) b dX11_kin_13 (by decide) (by decide) ?_
  refine z_iload b dX11_kin_18 rfl ?_
  refine z_if_eq_f (tgt := 27) b dX11_kin_20 (by decide) (by decide) ?_
  refine z_iconst (v := 1) b dX11_kin_23 (by decide) ?_
  refine z_goto (tgt := 28) b dX11_kin_24 (by decide) ?_
  refine z_istore (lv' := [(5, .int 1), (0, .ref (a 0)), (1, .int 1), (2, .int 0), (3, .int 0), (4, .int 1)]) b dX11_kin_28 (by decide) rfl ?_
  refine z_iload_n b dX11_kin_30 rfl rfl ?_
  refine z_if_ne_f (tgt := 71) b dX11_kin_31 (by decide) (by decide) ?_
  refine z_aload_n b dX11_kin_34 rfl rfl ?_
  refine z_get (q0 := 0) (k9 := 4) (v := .ref (a 14)) b (cw_0 cy tE a rw S) rfl in_X11 (by decide) wf_X11_34 rfl dX11_kin_35 ?_
  refine z_bipush (v := 20) b dX11_kin_38 (by decide) ?_
  refine z_iconst (v := 3) b dX11_kin_40 (by decide) ?_
  refine z_iload_n b dX11_kin_41 rfl rfl ?_
  refine z_imul (v := 3) b dX11_kin_42 (by decide) ?_
  refine z_iadd (v := 23) b dX11_kin_43 (by decide) ?_
  refine z_iload_n b dX11_kin_44 rfl rfl ?_
  refine z_iadd (v := 23) b dX11_kin_45 (by decide) ?_
  refine z_iload b dX11_kin_46 rfl ?_
  refine z_callv b (z_runV (q0 := 14) (As := [.int 23, .int 1]) (st := []) b (c_X9_set_17 S ) cf_X9_set (cw_14 cy tE a rw S) rfl wm_X11_77 wi_X9_set ws_X9_set dX11_kin_48 rfl (Nat.le_of_ble_eq_true rfl) ⟨by decide, by decide, by decide, by decide⟩) (fun u2725 h2723 => ?_)
  obtain rfl := h2723
  refine z_aload_n b dX11_kin_51 rfl rfl ?_
  refine z_get (q0 := 0) (k9 := 4) (v := .ref (a 14)) b (cw_0 cy tE a rw (su S 4 23 1)) rfl in_X11 (by decide) wf_X11_34 rfl dX11_kin_52 ?_
  refine z_bipush (v := 20) b dX11_kin_55 (by decide) ?_
  refine z_iconst (v := 3) b dX11_kin_57 (by decide) ?_
  refine z_iload_n b dX11_kin_58 rfl rfl ?_
  refine z_imul (v := 0) b dX11_kin_59 (by decide) ?_
  refine z_iadd (v := 20) b dX11_kin_60 (by decide) ?_
  refine z_iload_n b dX11_kin_61 rfl rfl ?_
  refine z_iadd (v := 21) b dX11_kin_62 (by decide) ?_
  refine z_iload b dX11_kin_63 rfl ?_
  refine z_callv b (z_runV (q0 := 14) (As := [.int 21, .int 1]) (st := []) b (c_X9_set_16 (su S 4 23 1) ) cf_X9_set (cw_14 cy tE a rw (su S 4 23 1)) rfl wm_X11_77 wi_X9_set ws_X9_set dX11_kin_65 rfl (Nat.le_of_ble_eq_true rfl) ⟨by decide, by decide, by decide, by decide⟩) (fun u2728 h2726 => ?_)
  obtain rfl := h2726
  refine z_goto (tgt := 88) b dX11_kin_68 (by decide) ?_
  refine z_aload_n b dX11_kin_88 rfl rfl ?_
  refine z_get (q0 := 0) (k9 := 6) (v := .ref (a 25)) b (cw_0 cy tE a rw (su (su S 4 23 1) 4 21 1)) rfl in_X11 (by decide) wf_X11_52 rfl dX11_kin_89 ?_
  refine z_callv b (z_runV (q0 := 25) (As := []) (st := []) b (c_X8_forget (su (su S 4 23 1) 4 21 1) h_i_24) cf_X8_forget (cw_25 cy tE a rw (su (su S 4 23 1) 4 21 1)) rfl wm_X11_81 wi_X8_forget ws_X8_forget dX11_kin_92 rfl (Nat.le_of_ble_eq_true rfl) ⟨by decide, by decide, by decide, by decide⟩) (fun u2731 h2729 => ?_)
  obtain rfl := h2729
  refine z_iconst (v := 1) b dX11_kin_95 (by decide) ?_
  exact z_zret (u := (su (su S 4 23 1) 4 21 1)) b rfl (by decide) dX11_kin_96 ⟨rfl, rfl⟩ rfl (by decide) (by decide)

set_option maxHeartbeats 4000000 in
set_option maxRecDepth 100000 in
theorem c_X12_kin_42 {l : Launch} {D : va_G} {cy : Nat → ClassId} {T0 tB tE : Nat} {a : Nat → Nat} (S : GS)  (h_l_0 : fl S 0 = 1649317774848) (h_a_4_7 : ar S 4 7 = 0) (h_a_1_7 : ar S 1 7 = 0) (h_a_4_6 : ar S 4 6 = 0) (h_a_1_6 : ar S 1 6 = 0) (h_a_3_6 : ar S 3 6 = 0) (h_a_3_2 : ar S 3 2 = 0) (h_a_2_2 : ar S 2 2 = 3) (h_a_0_2 : ar S 0 2 = 0) (h_a_4_3 : ar S 4 3 = 0) (h_a_1_3 : ar S 1 3 = 0) (h_a_4_5 : ar S 4 5 = 0) (h_a_1_5 : ar S 1 5 = 0) (h_a_3_5 : ar S 3 5 = 0) (h_a_3_7 : ar S 3 7 = 0) (h_a_2_1 : ar S 2 1 = 3) (h_a_0_1 : ar S 0 1 = 0) (h_a_4_2 : ar S 4 2 = 0) (h_a_1_2 : ar S 1 2 = 0) (h_a_4_1 : ar S 4 1 = 0) (h_a_1_1 : ar S 1 1 = 0) (h_a_3_1 : ar S 3 1 = 0) (h_a_3_3 : ar S 3 3 = 0) (h_a_2_0 : ar S 2 0 = 3) (h_a_0_0 : ar S 0 0 = 0) (h_i_0 : fi S 0 = 0) : Ct l D cy T0 tB tE yX12_kin cX12_kin 5 (some .boolean) 3 65 0 0 (mw cy a S) [.ref (a 0), .int 1, .int 0, .int 0, .int 1] (QI D (U := GS) (fun r u => 1 = r ∧ sl (su (su S 3 3 1) 3 1 1) 0 1924195681792 = u) (mw cy a)) := by
  refine Ct.ofZ RX12 "kin" [(0, .ref (a 0)), (1, .int 1), (2, .int 0), (3, .int 0), (4, .int 1)] rfl rfl rfl rfl (Nat.le_of_ble_eq_true rfl) ?_
  intro p e R s m args below meth c A b
  refine z_iload_n b dX12_kin_0 rfl rfl ?_
  refine z_calli b (z_runS (As := [.int 1]) (st := []) b (c_X12_isOne_3 S ) cf_X12_isOne wm_X12_170 ws_X12_isOne dX12_kin_1 rfl (Nat.le_of_ble_eq_true rfl) ⟨by decide, by decide, by decide, by decide⟩) (fun r2733 u2734 h2732 => ?_)
  obtain ⟨rfl, rfl⟩ := h2732
  refine z_if_eq_f (tgt := 28) b dX12_kin_4 (by decide) (by decide) ?_
  refine z_iload_n b dX12_kin_7 rfl rfl ?_
  refine z_calli b (z_runS (As := [.int 0]) (st := []) b (c_X12_isOne_2 S ) cf_X12_isOne wm_X12_170 ws_X12_isOne dX12_kin_8 rfl (Nat.le_of_ble_eq_true rfl) ⟨by decide, by decide, by decide, by decide⟩) (fun r2736 u2737 h2735 => ?_)
  obtain ⟨rfl, rfl⟩ := h2735
  refine z_if_eq_f (tgt := 28) b dX12_kin_11 (by decide) (by decide) ?_
  refine z_iload_n b dX12_kin_14 rfl rfl ?_
  refine z_iload_n b dX12_kin_15 rfl rfl ?_
  refine z_icmp_eq_f (tgt := 28) b dX12_kin_16 (by decide) (by decide) ?_
  refine z_iload_n b dX12_kin_19 rfl rfl ?_
  refine z_iconst (v := 0) b dX12_kin_20 (by decide) ?_
  refine z_iconst (v := 1) b dX12_kin_21 (by decide) ?_
  refine z_calli b (z_runS (As := [.int 0, .int 0, .int 1]) (st := []) b (c_X12_isIn_9 S ) cf_X12_isIn wm_X12_1 ws_X12_isIn dX12_kin_22 rfl (Nat.le_of_ble_eq_true rfl) ⟨by decide, by decide, by decide, by decide⟩) (fun r2739 u2740 h2738 => ?_)
  obtain ⟨rfl, rfl⟩ := h2738
  refine z_if_ne_t (tgt := 30) b dX12_kin_25 (by decide) (by decide) ?_
  refine z_aload_n b dX12_kin_30 rfl rfl ?_
  refine z_aload_n b dX12_kin_31 rfl rfl ?_
  refine z_get (q0 := 0) (k9 := 6) (v := .long (fl S 0)) b (mw_0 cy a S) rfl in_X12 (by decide) wf_X12_153 rfl dX12_kin_32 ?_
  refine z_eql h_l_0 ?_
  refine z_callv b (z_runV (q0 := 0) (As := [.long 1649317774848]) (st := []) b (c_X12_takes S h_a_4_7 h_a_1_7 h_a_4_6 h_a_1_6 h_a_3_6 h_a_3_2 h_a_2_2 h_a_0_2 h_a_4_3 h_a_1_3 h_a_4_5 h_a_1_5 h_a_3_5 h_a_3_7 h_a_2_1 h_a_0_1 h_a_4_2 h_a_1_2 h_a_4_1 h_a_1_1 h_a_3_1 h_a_3_3 h_a_2_0 h_a_0_0 h_i_0) cf_X12_takes (mw_0 cy a S) rfl wm_X12_174 wi_X12_takes ws_X12_takes dX12_kin_35 rfl (Nat.le_of_ble_eq_true rfl) ⟨by decide, by decide, by decide, by decide⟩) (fun u2743 h2741 => ?_)
  obtain rfl := h2741
  refine z_iload_n b dX12_kin_38 rfl rfl ?_
  refine z_iconst (v := 1) b dX12_kin_39 (by decide) ?_
  refine z_icmp_ne_t (tgt := 58) b dX12_kin_40 (by decide) (by decide) ?_
  refine z_aload_n b dX12_kin_58 rfl rfl ?_
  refine z_get (q0 := 0) (k9 := 3) (v := .ref (a 4)) b (mw_0 cy a S) rfl in_X12 (by decide) wf_X12_23 rfl dX12_kin_59 ?_
  refine z_iconst (v := 3) b dX12_kin_62 (by decide) ?_
  refine z_iload_n b dX12_kin_63 rfl rfl ?_
  refine z_imul (v := 3) b dX12_kin_64 (by decide) ?_
  refine z_iload_n b dX12_kin_65 rfl rfl ?_
  refine z_iadd (v := 3) b dX12_kin_66 (by decide) ?_
  refine z_iload b dX12_kin_67 rfl ?_
  refine y_zast (q0 := 4) (j := 3) b (mw_4 cy a S) (by decide) (by decide) dX12_kin_69 (mwa_4 cy a S 3 1) ?_
  refine z_aload_n b dX12_kin_70 rfl rfl ?_
  refine z_get (q0 := 0) (k9 := 3) (v := .ref (a 4)) b (mw_0 cy a (su S 3 3 1)) rfl in_X12 (by decide) wf_X12_23 rfl dX12_kin_71 ?_
  refine z_iconst (v := 3) b dX12_kin_74 (by decide) ?_
  refine z_iload_n b dX12_kin_75 rfl rfl ?_
  refine z_imul (v := 0) b dX12_kin_76 (by decide) ?_
  refine z_iload_n b dX12_kin_77 rfl rfl ?_
  refine z_iadd (v := 1) b dX12_kin_78 (by decide) ?_
  refine z_iload b dX12_kin_79 rfl ?_
  refine y_zast (q0 := 4) (j := 1) b (mw_4 cy a (su S 3 3 1)) (by decide) (by decide) dX12_kin_81 (mwa_4 cy a (su S 3 3 1) 1 1) ?_
  refine z_aload_n b dX12_kin_82 rfl rfl ?_
  refine z_calli b (z_runV (q0 := 0) (As := []) (st := []) b (c_X12_told_15 (su (su S 3 3 1) 3 1 1) h_i_0 h_a_0_0 h_a_2_0 rfl h_a_1_1 h_a_4_1 h_a_1_2 h_a_4_2 h_a_0_1 h_a_2_1 h_a_3_5 h_a_1_5 h_a_4_5 h_a_1_3 h_a_4_3 h_a_0_2 h_a_2_2 h_a_3_6 h_a_1_6 h_a_4_6 h_a_1_7 h_a_4_7) cf_X12_told (mw_0 cy a (su (su S 3 3 1) 3 1 1)) rfl wm_X12_178 wi_X12_told ws_X12_told dX12_kin_83 rfl (Nat.le_of_ble_eq_true rfl) ⟨by decide, by decide, by decide, by decide⟩) (fun r2745 u2746 h2744 => ?_)
  obtain ⟨rfl, rfl⟩ := h2744
  exact z_zret (u := (sl (su (su S 3 3 1) 3 1 1) 0 1924195681792)) b rfl (by decide) dX12_kin_86 ⟨rfl, rfl⟩ rfl (by decide) (by decide)

set_option maxHeartbeats 4000000 in
set_option maxRecDepth 100000 in
theorem c_X9_set_26 {l : Launch} {D : va_G} {cy : Nat → ClassId} {T0 tB tE : Nat} {a : Nat → Nat} {rw : Nat → Option Nat} (S : GS)  (h_a_4_33 : ar S 4 33 = 0) : Ct l D cy T0 tB tE yX9_set cX9_set 3 none 0 0 0 0 (cw cy tE a rw S) [.ref (a 14), .int 33, .int 0] (QV D (U := GS) (fun u => S = u) (cw cy tE a rw)) := by
  refine Ct.ofZ RX9 "set" [(0, .ref (a 14)), (1, .int 33), (2, .int 0)] rfl rfl rfl rfl (Nat.le_of_ble_eq_true rfl) ?_
  intro p e R s m args below meth c A b
  refine z_iload_n b dX9_set_0 rfl rfl ?_
  refine z_if_lt_f (tgt := 20) b dX9_set_1 (by decide) (by decide) ?_
  refine z_iload_n b dX9_set_4 rfl rfl ?_
  refine z_aload_n b dX9_set_5 rfl rfl ?_
  refine z_get (q0 := 14) (k9 := 0) (v := .ref (a 15)) b (cw_14 cy tE a rw S) rfl in_X9 (by decide) wf_X9_11 rfl dX9_set_6 ?_
  refine z_alen (q0 := 15) (t0 := 0) (v := 51) b (cw_15 cy tE a rw S) rfl rfl dX9_set_9 ?_
  refine z_icmp_ge_f (tgt := 20) b dX9_set_10 (by decide) (by decide) ?_
  refine z_aload_n b dX9_set_13 rfl rfl ?_
  refine z_get (q0 := 14) (k9 := 0) (v := .ref (a 15)) b (cw_14 cy tE a rw S) rfl in_X9 (by decide) wf_X9_11 rfl dX9_set_14 ?_
  refine z_iload_n b dX9_set_17 rfl rfl ?_
  refine z_iload_n b dX9_set_18 rfl rfl ?_
  refine y_iast (q0 := 15) (j := 33) b (cw_15 cy tE a rw S) (by decide) dX9_set_19 ((cwa_15 cy tE a rw S 33 0).trans (congrArg (cw cy tE a rw) (su_same h_a_4_33))) ?_
  exact z_vret (u := S) b rfl dX9_set_20 rfl rfl (by decide) (by decide)

set_option maxHeartbeats 4000000 in
set_option maxRecDepth 100000 in
theorem c_X11_kin_43 {l : Launch} {D : va_G} {cy : Nat → ClassId} {T0 tB tE : Nat} {a : Nat → Nat} {rw : Nat → Option Nat} (S : GS)  (h_a_4_33 : ar S 4 33 = 0) (h_i_24 : fi S 24 = 0) : Ct l D cy T0 tB tE yX11_kin cX11_kin 6 (some .boolean) 2 41 0 0 (cw cy tE a rw S) [.ref (a 0), .int 1, .int 0, .int 1, .int 0] (QI D (U := GS) (fun r u => 1 = r ∧ S = u) (cw cy tE a rw)) := by
  refine Ct.ofZ RX11 "kin" [(0, .ref (a 0)), (1, .int 1), (2, .int 0), (3, .int 1), (4, .int 0)] rfl rfl rfl rfl (Nat.le_of_ble_eq_true rfl) ?_
  intro p e R s m args below meth c A b
  refine z_iload_n b dX11_kin_0 rfl rfl ?_
  refine z_iload_n b dX11_kin_1 rfl rfl ?_
  refine z_calli b (z_runS (As := [.int 1, .int 0]) (st := []) b (c_X11_arePair_10 S ) cf_X11_arePair wm_X11_84 ws_X11_arePair dX11_kin_2 rfl (Nat.le_of_ble_eq_true rfl) ⟨by decide, by decide, by decide, by decide⟩) (fun r2748 u2749 h2747 => ?_)
  obtain ⟨rfl, rfl⟩ := h2747
  refine z_if_eq_f (tgt := 16) b dX11_kin_5 (by decide) (by decide) ?_
  refine z_iload_n b dX11_kin_8 rfl rfl ?_
  refine z_iconst (v := 1) b dX11_kin_9 (by decide) ?_
  refine z_calli b (z_runS (As := [.int 1, .int 1]) (st := []) b (c_X11_isWithin_6 S ) cf_X11_isWithin wm_X11_73 ws_X11_isWithin dX11_kin_10 rfl (Nat.le_of_ble_eq_true rfl) ⟨by decide, by decide, by decide, by decide⟩) (fun r2751 u2752 h2750 => ?_)
  obtain ⟨rfl, rfl⟩ := h2750
  refine z_if_ne_t (tgt := 18) b dX11_kin_13 (by decide) (by decide) ?_
  refine z_iload b dX11_kin_18 rfl ?_
  refine z_if_eq_t (tgt := 27) b dX11_kin_20 (by decide) (by decide) ?_
  refine z_iconst (v := 0) b dX11_kin_27 (by decide) ?_
  refine z_istore (lv' := [(5, .int 0), (0, .ref (a 0)), (1, .int 1), (2, .int 0), (3, .int 1), (4, .int 0)]) b dX11_kin_28 (by decide) rfl ?_
  refine z_iload_n b dX11_kin_30 rfl rfl ?_
  refine z_if_ne_t (tgt := 71) b dX11_kin_31 (by decide) (by decide) ?_
  refine z_aload_n b dX11_kin_71 rfl rfl ?_
  refine z_get (q0 := 0) (k9 := 4) (v := .ref (a 14)) b (cw_0 cy tE a rw S) rfl in_X11 (by decide) wf_X11_34 rfl dX11_kin_72 ?_
  refine z_bipush (v := 30) b dX11_kin_75 (by decide) ?_
  refine z_iconst (v := 3) b dX11_kin_77 (by decide) ?_
  refine z_iload_n b dX11_kin_78 rfl rfl ?_
  refine z_imul (v := 3) b dX11_kin_79 (by decide) ?_
  refine z_iadd (v := 33) b dX11_kin_80 (by decide) ?_
  refine z_iload_n b dX11_kin_81 rfl rfl ?_
  refine z_iadd (v := 33) b dX11_kin_82 (by decide) ?_
  refine z_iload b dX11_kin_83 rfl ?_
  refine z_callv b (z_runV (q0 := 14) (As := [.int 33, .int 0]) (st := []) b (c_X9_set_26 S h_a_4_33) cf_X9_set (cw_14 cy tE a rw S) rfl wm_X11_77 wi_X9_set ws_X9_set dX11_kin_85 rfl (Nat.le_of_ble_eq_true rfl) ⟨by decide, by decide, by decide, by decide⟩) (fun u2755 h2753 => ?_)
  obtain rfl := h2753
  refine z_aload_n b dX11_kin_88 rfl rfl ?_
  refine z_get (q0 := 0) (k9 := 6) (v := .ref (a 25)) b (cw_0 cy tE a rw S) rfl in_X11 (by decide) wf_X11_52 rfl dX11_kin_89 ?_
  refine z_callv b (z_runV (q0 := 25) (As := []) (st := []) b (c_X8_forget S h_i_24) cf_X8_forget (cw_25 cy tE a rw S) rfl wm_X11_81 wi_X8_forget ws_X8_forget dX11_kin_92 rfl (Nat.le_of_ble_eq_true rfl) ⟨by decide, by decide, by decide, by decide⟩) (fun u2758 h2756 => ?_)
  obtain rfl := h2756
  refine z_iconst (v := 1) b dX11_kin_95 (by decide) ?_
  exact z_zret (u := S) b rfl (by decide) dX11_kin_96 ⟨rfl, rfl⟩ rfl (by decide) (by decide)

set_option maxHeartbeats 4000000 in
set_option maxRecDepth 100000 in
theorem c_X12_kin_43 {l : Launch} {D : va_G} {cy : Nat → ClassId} {T0 tB tE : Nat} {a : Nat → Nat} (S : GS)  (h_l_0 : fl S 0 = 1649317774848) (h_a_4_7 : ar S 4 7 = 0) (h_a_1_7 : ar S 1 7 = 0) (h_a_4_6 : ar S 4 6 = 0) (h_a_1_6 : ar S 1 6 = 0) (h_a_3_6 : ar S 3 6 = 0) (h_a_3_2 : ar S 3 2 = 0) (h_a_2_2 : ar S 2 2 = 3) (h_a_0_2 : ar S 0 2 = 0) (h_a_4_3 : ar S 4 3 = 0) (h_a_1_3 : ar S 1 3 = 0) (h_a_4_5 : ar S 4 5 = 0) (h_a_1_5 : ar S 1 5 = 0) (h_a_3_5 : ar S 3 5 = 0) (h_a_3_7 : ar S 3 7 = 0) (h_a_2_1 : ar S 2 1 = 3) (h_a_0_1 : ar S 0 1 = 0) (h_a_4_2 : ar S 4 2 = 0) (h_a_1_2 : ar S 1 2 = 0) (h_a_4_1 : ar S 4 1 = 0) (h_a_1_1 : ar S 1 1 = 0) (h_a_3_1 : ar S 3 1 = 0) (h_a_3_3 : ar S 3 3 = 0) (h_a_2_0 : ar S 2 0 = 3) (h_a_0_0 : ar S 0 0 = 0) (h_i_0 : fi S 0 = 0) : Ct l D cy T0 tB tE yX12_kin cX12_kin 5 (some .boolean) 3 65 0 0 (mw cy a S) [.ref (a 0), .int 1, .int 0, .int 1, .int 0] (QI D (U := GS) (fun r u => 1 = r ∧ S = u) (mw cy a)) := by
  refine Ct.ofZ RX12 "kin" [(0, .ref (a 0)), (1, .int 1), (2, .int 0), (3, .int 1), (4, .int 0)] rfl rfl rfl rfl (Nat.le_of_ble_eq_true rfl) ?_
  intro p e R s m args below meth c A b
  refine z_iload_n b dX12_kin_0 rfl rfl ?_
  refine z_calli b (z_runS (As := [.int 1]) (st := []) b (c_X12_isOne_3 S ) cf_X12_isOne wm_X12_170 ws_X12_isOne dX12_kin_1 rfl (Nat.le_of_ble_eq_true rfl) ⟨by decide, by decide, by decide, by decide⟩) (fun r2760 u2761 h2759 => ?_)
  obtain ⟨rfl, rfl⟩ := h2759
  refine z_if_eq_f (tgt := 28) b dX12_kin_4 (by decide) (by decide) ?_
  refine z_iload_n b dX12_kin_7 rfl rfl ?_
  refine z_calli b (z_runS (As := [.int 0]) (st := []) b (c_X12_isOne_2 S ) cf_X12_isOne wm_X12_170 ws_X12_isOne dX12_kin_8 rfl (Nat.le_of_ble_eq_true rfl) ⟨by decide, by decide, by decide, by decide⟩) (fun r2763 u2764 h2762 => ?_)
  obtain ⟨rfl, rfl⟩ := h2762
  refine z_if_eq_f (tgt := 28) b dX12_kin_11 (by decide) (by decide) ?_
  refine z_iload_n b dX12_kin_14 rfl rfl ?_
  refine z_iload_n b dX12_kin_15 rfl rfl ?_
  refine z_icmp_eq_f (tgt := 28) b dX12_kin_16 (by decide) (by decide) ?_
  refine z_iload_n b dX12_kin_19 rfl rfl ?_
  refine z_iconst (v := 0) b dX12_kin_20 (by decide) ?_
  refine z_iconst (v := 1) b dX12_kin_21 (by decide) ?_
  refine z_calli b (z_runS (As := [.int 1, .int 0, .int 1]) (st := []) b (c_X12_isIn_10 S ) cf_X12_isIn wm_X12_1 ws_X12_isIn dX12_kin_22 rfl (Nat.le_of_ble_eq_true rfl) ⟨by decide, by decide, by decide, by decide⟩) (fun r2766 u2767 h2765 => ?_)
  obtain ⟨rfl, rfl⟩ := h2765
  refine z_if_ne_t (tgt := 30) b dX12_kin_25 (by decide) (by decide) ?_
  refine z_aload_n b dX12_kin_30 rfl rfl ?_
  refine z_aload_n b dX12_kin_31 rfl rfl ?_
  refine z_get (q0 := 0) (k9 := 6) (v := .long (fl S 0)) b (mw_0 cy a S) rfl in_X12 (by decide) wf_X12_153 rfl dX12_kin_32 ?_
  refine z_eql h_l_0 ?_
  refine z_callv b (z_runV (q0 := 0) (As := [.long 1649317774848]) (st := []) b (c_X12_takes S h_a_4_7 h_a_1_7 h_a_4_6 h_a_1_6 h_a_3_6 h_a_3_2 h_a_2_2 h_a_0_2 h_a_4_3 h_a_1_3 h_a_4_5 h_a_1_5 h_a_3_5 h_a_3_7 h_a_2_1 h_a_0_1 h_a_4_2 h_a_1_2 h_a_4_1 h_a_1_1 h_a_3_1 h_a_3_3 h_a_2_0 h_a_0_0 h_i_0) cf_X12_takes (mw_0 cy a S) rfl wm_X12_174 wi_X12_takes ws_X12_takes dX12_kin_35 rfl (Nat.le_of_ble_eq_true rfl) ⟨by decide, by decide, by decide, by decide⟩) (fun u2770 h2768 => ?_)
  obtain rfl := h2768
  refine z_iload_n b dX12_kin_38 rfl rfl ?_
  refine z_iconst (v := 1) b dX12_kin_39 (by decide) ?_
  refine z_icmp_ne_f (tgt := 58) b dX12_kin_40 (by decide) (by decide) ?_
  refine z_aload_n b dX12_kin_43 rfl rfl ?_
  refine z_get (q0 := 0) (k9 := 4) (v := .ref (a 5)) b (mw_0 cy a S) rfl in_X12 (by decide) wf_X12_27 rfl dX12_kin_44 ?_
  refine z_iconst (v := 3) b dX12_kin_47 (by decide) ?_
  refine z_iload_n b dX12_kin_48 rfl rfl ?_
  refine z_imul (v := 3) b dX12_kin_49 (by decide) ?_
  refine z_iload_n b dX12_kin_50 rfl rfl ?_
  refine z_iadd (v := 3) b dX12_kin_51 (by decide) ?_
  refine z_iload b dX12_kin_52 rfl ?_
  refine y_zast (q0 := 5) (j := 3) b (mw_5 cy a S) (by decide) (by decide) dX12_kin_54 ((mwa_5 cy a S 3 0).trans (congrArg (mw cy a) (su_same h_a_4_3))) ?_
  refine z_goto (tgt := 82) b dX12_kin_55 (by decide) ?_
  refine z_aload_n b dX12_kin_82 rfl rfl ?_
  refine z_calli b (z_runV (q0 := 0) (As := []) (st := []) b (c_X12_told_14 S h_i_0 h_a_0_0 h_a_2_0 h_a_3_1 h_a_1_1 h_a_4_1 h_a_1_2 h_a_4_2 h_a_0_1 h_a_2_1 h_a_3_5 h_a_1_5 h_a_4_5 h_a_1_3 h_a_4_3 h_a_0_2 h_a_2_2 h_a_3_6 h_a_1_6 h_a_4_6 h_a_1_7 h_a_4_7 h_l_0) cf_X12_told (mw_0 cy a S) rfl wm_X12_178 wi_X12_told ws_X12_told dX12_kin_83 rfl (Nat.le_of_ble_eq_true rfl) ⟨by decide, by decide, by decide, by decide⟩) (fun r2772 u2773 h2771 => ?_)
  obtain ⟨rfl, rfl⟩ := h2771
  exact z_zret (u := S) b rfl (by decide) dX12_kin_86 ⟨rfl, rfl⟩ rfl (by decide) (by decide)

set_option maxHeartbeats 4000000 in
set_option maxRecDepth 100000 in
theorem c_X9_set_27 {l : Launch} {D : va_G} {cy : Nat → ClassId} {T0 tB tE : Nat} {a : Nat → Nat} {rw : Nat → Option Nat} (S : GS)   : Ct l D cy T0 tB tE yX9_set cX9_set 3 none 0 0 0 0 (cw cy tE a rw S) [.ref (a 14), .int 33, .int 1] (QV D (U := GS) (fun u => su S 4 33 1 = u) (cw cy tE a rw)) := by
  refine Ct.ofZ RX9 "set" [(0, .ref (a 14)), (1, .int 33), (2, .int 1)] rfl rfl rfl rfl (Nat.le_of_ble_eq_true rfl) ?_
  intro p e R s m args below meth c A b
  refine z_iload_n b dX9_set_0 rfl rfl ?_
  refine z_if_lt_f (tgt := 20) b dX9_set_1 (by decide) (by decide) ?_
  refine z_iload_n b dX9_set_4 rfl rfl ?_
  refine z_aload_n b dX9_set_5 rfl rfl ?_
  refine z_get (q0 := 14) (k9 := 0) (v := .ref (a 15)) b (cw_14 cy tE a rw S) rfl in_X9 (by decide) wf_X9_11 rfl dX9_set_6 ?_
  refine z_alen (q0 := 15) (t0 := 0) (v := 51) b (cw_15 cy tE a rw S) rfl rfl dX9_set_9 ?_
  refine z_icmp_ge_f (tgt := 20) b dX9_set_10 (by decide) (by decide) ?_
  refine z_aload_n b dX9_set_13 rfl rfl ?_
  refine z_get (q0 := 14) (k9 := 0) (v := .ref (a 15)) b (cw_14 cy tE a rw S) rfl in_X9 (by decide) wf_X9_11 rfl dX9_set_14 ?_
  refine z_iload_n b dX9_set_17 rfl rfl ?_
  refine z_iload_n b dX9_set_18 rfl rfl ?_
  refine y_iast (q0 := 15) (j := 33) b (cw_15 cy tE a rw S) (by decide) dX9_set_19 (cwa_15 cy tE a rw S 33 1) ?_
  exact z_vret (u := (su S 4 33 1)) b rfl dX9_set_20 rfl rfl (by decide) (by decide)

set_option maxHeartbeats 4000000 in
set_option maxRecDepth 100000 in
theorem c_X11_kin_44 {l : Launch} {D : va_G} {cy : Nat → ClassId} {T0 tB tE : Nat} {a : Nat → Nat} {rw : Nat → Option Nat} (S : GS)  (h_i_24 : fi S 24 = 0) : Ct l D cy T0 tB tE yX11_kin cX11_kin 6 (some .boolean) 2 41 0 0 (cw cy tE a rw S) [.ref (a 0), .int 1, .int 0, .int 1, .int 1] (QI D (U := GS) (fun r u => 1 = r ∧ (su S 4 33 1) = u) (cw cy tE a rw)) := by
  refine Ct.ofZ RX11 "kin" [(0, .ref (a 0)), (1, .int 1), (2, .int 0), (3, .int 1), (4, .int 1)] rfl rfl rfl rfl (Nat.le_of_ble_eq_true rfl) ?_
  intro p e R s m args below meth c A b
  refine z_iload_n b dX11_kin_0 rfl rfl ?_
  refine z_iload_n b dX11_kin_1 rfl rfl ?_
  refine z_calli b (z_runS (As := [.int 1, .int 0]) (st := []) b (c_X11_arePair_10 S ) cf_X11_arePair wm_X11_84 ws_X11_arePair dX11_kin_2 rfl (Nat.le_of_ble_eq_true rfl) ⟨by decide, by decide, by decide, by decide⟩) (fun r2775 u2776 h2774 => ?_)
  obtain ⟨rfl, rfl⟩ := h2774
  refine z_if_eq_f (tgt := 16) b dX11_kin_5 (by decide) (by decide) ?_
  refine z_iload_n b dX11_kin_8 rfl rfl ?_
  refine z_iconst (v := 1) b dX11_kin_9 (by decide) ?_
  refine z_calli b (z_runS (As := [.int 1, .int 1]) (st := []) b (c_X11_isWithin_6 S ) cf_X11_isWithin wm_X11_73 ws_X11_isWithin dX11_kin_10 rfl (Nat.le_of_ble_eq_true rfl) ⟨by decide, by decide, by decide, by decide⟩) (fun r2778 u2779 h2777 => ?_)
  obtain ⟨rfl, rfl⟩ := h2777
  refine z_if_ne_t (tgt := 18) b dX11_kin_13 (by decide) (by decide) ?_
  refine z_iload b dX11_kin_18 rfl ?_
  refine z_if_eq_f (tgt := 27) b dX11_kin_20 (by decide) (by decide) ?_
  refine z_iconst (v := 1) b dX11_kin_23 (by decide) ?_
  refine z_goto (tgt := 28) b dX11_kin_24 (by decide) ?_
  refine z_istore (lv' := [(5, .int 1), (0, .ref (a 0)), (1, .int 1), (2, .int 0), (3, .int 1), (4, .int 1)]) b dX11_kin_28 (by decide) rfl ?_
  refine z_iload_n b dX11_kin_30 rfl rfl ?_
  refine z_if_ne_t (tgt := 71) b dX11_kin_31 (by decide) (by decide) ?_
  refine z_aload_n b dX11_kin_71 rfl rfl ?_
  refine z_get (q0 := 0) (k9 := 4) (v := .ref (a 14)) b (cw_0 cy tE a rw S) rfl in_X11 (by decide) wf_X11_34 rfl dX11_kin_72 ?_
  refine z_bipush (v := 30) b dX11_kin_75 (by decide) ?_
  refine z_iconst (v := 3) b dX11_kin_77 (by decide) ?_
  refine z_iload_n b dX11_kin_78 rfl rfl ?_
  refine z_imul (v := 3) b dX11_kin_79 (by decide) ?_
  refine z_iadd (v := 33) b dX11_kin_80 (by decide) ?_
  refine z_iload_n b dX11_kin_81 rfl rfl ?_
  refine z_iadd (v := 33) b dX11_kin_82 (by decide) ?_
  refine z_iload b dX11_kin_83 rfl ?_
  refine z_callv b (z_runV (q0 := 14) (As := [.int 33, .int 1]) (st := []) b (c_X9_set_27 S ) cf_X9_set (cw_14 cy tE a rw S) rfl wm_X11_77 wi_X9_set ws_X9_set dX11_kin_85 rfl (Nat.le_of_ble_eq_true rfl) ⟨by decide, by decide, by decide, by decide⟩) (fun u2782 h2780 => ?_)
  obtain rfl := h2780
  refine z_aload_n b dX11_kin_88 rfl rfl ?_
  refine z_get (q0 := 0) (k9 := 6) (v := .ref (a 25)) b (cw_0 cy tE a rw (su S 4 33 1)) rfl in_X11 (by decide) wf_X11_52 rfl dX11_kin_89 ?_
  refine z_callv b (z_runV (q0 := 25) (As := []) (st := []) b (c_X8_forget (su S 4 33 1) h_i_24) cf_X8_forget (cw_25 cy tE a rw (su S 4 33 1)) rfl wm_X11_81 wi_X8_forget ws_X8_forget dX11_kin_92 rfl (Nat.le_of_ble_eq_true rfl) ⟨by decide, by decide, by decide, by decide⟩) (fun u2785 h2783 => ?_)
  obtain rfl := h2783
  refine z_iconst (v := 1) b dX11_kin_95 (by decide) ?_
  exact z_zret (u := (su S 4 33 1)) b rfl (by decide) dX11_kin_96 ⟨rfl, rfl⟩ rfl (by decide) (by decide)

set_option maxHeartbeats 4000000 in
set_option maxRecDepth 100000 in
theorem ch_X12_packs_40 {p : Program} {l : Launch} {e : Env} {R : Room} {s : State} {m : MethodId} {args : Array Value} {below : List Frame} {meth : Method} {c : Code} {D : va_G} {cy : Nat → ClassId} {T0 tB tE : Nat} {A : Nat → Prop} {Q : State → Prop} {a : Nat → Nat} (S : GS)  (h_a_0_0 : ar S 0 0 = 0) (h_a_1_1 : ar S 1 1 = 0) (h_a_1_2 : ar S 1 2 = 0) (h_a_2_0 : ar S 2 0 = 3) (h_a_3_1 : ar S 3 1 = 0) (h_a_4_1 : ar S 4 1 = 0) (h_a_4_2 : ar S 4 2 = 0) (h_i_0 : fi S 0 = 0) (b : Bz p R s m args meth c D cy T0 tB tE A 5 cX12_packs RX12 (some .long) "packs" 1 21 0 0) (k : Z p l e R s m args below meth c D A 5 Q 0 0 (mw cy a S) [(3, .int 1), (4, .int 2), (1, .long 1536), (0, .ref (a 0))] 21 [.int 1, .ref (a 1), .long 24576]) : Z p l e R s m args below meth c D A 5 Q 0 0 (mw cy a S) [(0, .ref (a 0))] 0 [] := by
  refine z_aload_n b dX12_packs_0 rfl rfl ?_
  refine z_get (q0 := 0) (k9 := 5) (v := .int (fi S 0)) b (mw_0 cy a S) rfl in_X12 (by decide) wf_X12_157 rfl dX12_packs_1 ?_
  refine z_eqi h_i_0 ?_
  refine z_i2l (v := 0) b dX12_packs_4 (by decide) ?_
  refine z_lstore_n (lv' := [(1, .long 0), (0, .ref (a 0))]) b dX12_packs_5 rfl (by decide) rfl ?_
  refine z_iconst (v := 0) b dX12_packs_6 (by decide) ?_
  refine z_istore_n (lv' := [(3, .int 0), (1, .long 0), (0, .ref (a 0))]) b dX12_packs_7 rfl (by decide) rfl ?_
  refine z_iload_n b dX12_packs_8 rfl rfl ?_
  refine z_iconst (v := 3) b dX12_packs_9 (by decide) ?_
  refine z_icmp_ge_f (tgt := 134) b dX12_packs_10 (by decide) (by decide) ?_
  refine z_lload_n b dX12_packs_13 rfl rfl ?_
  refine z_iconst (v := 4) b dX12_packs_14 (by decide) ?_
  refine z_lshl (v := 0) b dX12_packs_15 (by decide) ?_
  refine z_aload_n b dX12_packs_16 rfl rfl ?_
  refine z_get (q0 := 0) (k9 := 0) (v := .ref (a 1)) b (mw_0 cy a S) rfl in_X12 (by decide) wf_X12_13 rfl dX12_packs_17 ?_
  refine z_iload_n b dX12_packs_20 rfl rfl ?_
  refine y_iald (q0 := 1) (j := 0) (v := (ar S 0 0)) b (mw_1 cy a S) (by decide) rfl dX12_packs_21 ?_
  refine z_eqi h_a_0_0 ?_
  refine z_i2l (v := 0) b dX12_packs_22 (by decide) ?_
  refine z_lor (v := 0) b dX12_packs_23 (by decide) ?_
  refine z_lstore_n (lv' := [(1, .long 0), (3, .int 0), (0, .ref (a 0))]) b dX12_packs_24 rfl (by decide) rfl ?_
  refine z_lload_n b dX12_packs_25 rfl rfl ?_
  refine z_iconst (v := 2) b dX12_packs_26 (by decide) ?_
  refine z_lshl (v := 0) b dX12_packs_27 (by decide) ?_
  refine z_aload_n b dX12_packs_28 rfl rfl ?_
  refine z_get (q0 := 0) (k9 := 2) (v := .ref (a 3)) b (mw_0 cy a S) rfl in_X12 (by decide) wf_X12_20 rfl dX12_packs_29 ?_
  refine z_iload_n b dX12_packs_32 rfl rfl ?_
  refine y_iald (q0 := 3) (j := 0) (v := (ar S 2 0)) b (mw_3 cy a S) (by decide) rfl dX12_packs_33 ?_
  refine z_eqi h_a_2_0 ?_
  refine z_i2l (v := 3) b dX12_packs_34 (by decide) ?_
  refine z_lor (v := 3) b dX12_packs_35 (by decide) ?_
  refine z_lstore_n (lv' := [(1, .long 3), (3, .int 0), (0, .ref (a 0))]) b dX12_packs_36 rfl (by decide) rfl ?_
  refine z_lload_n b dX12_packs_37 rfl rfl ?_
  refine z_iconst (v := 1) b dX12_packs_38 (by decide) ?_
  refine z_lshl (v := 6) b dX12_packs_39 (by decide) ?_
  refine z_aload_n b dX12_packs_40 rfl rfl ?_
  refine z_get (q0 := 0) (k9 := 3) (v := .ref (a 4)) b (mw_0 cy a S) rfl in_X12 (by decide) wf_X12_23 rfl dX12_packs_41 ?_
  refine z_iconst (v := 3) b dX12_packs_44 (by decide) ?_
  refine z_iload_n b dX12_packs_45 rfl rfl ?_
  refine z_imul (v := 0) b dX12_packs_46 (by decide) ?_
  refine z_iload_n b dX12_packs_47 rfl rfl ?_
  refine z_iconst (v := 0) b dX12_packs_48 (by decide) ?_
  refine z_calli b (z_runS (As := [.int 0, .int 0]) (st := [.int 0, .ref (a 4), .long 6]) b (c_X12_other_6 S ) cf_X12_other wm_X12_160 ws_X12_other dX12_packs_49 rfl (Nat.le_of_ble_eq_true rfl) ⟨by decide, by decide, by decide, by decide⟩) (fun r2799 u2800 h2798 => ?_)
  obtain ⟨rfl, rfl⟩ := h2798
  refine z_iadd (v := 1) b dX12_packs_52 (by decide) ?_
  refine y_zald (q0 := 4) (j := 1) (v := (ar S 3 1)) b (mw_4 cy a S) (by decide) rfl dX12_packs_53 ?_
  refine z_eqi h_a_3_1 ?_
  refine z_if_eq_t (tgt := 61) b dX12_packs_54 (by decide) (by decide) ?_
  refine z_lconst (v := 0) b dX12_packs_61 (by decide) ?_
  refine z_lor (v := 6) b dX12_packs_62 (by decide) ?_
  refine z_lstore_n (lv' := [(1, .long 6), (3, .int 0), (0, .ref (a 0))]) b dX12_packs_63 rfl (by decide) rfl ?_
  refine z_iconst (v := 0) b dX12_packs_64 (by decide) ?_
  refine z_istore (lv' := [(4, .int 0), (1, .long 6), (3, .int 0), (0, .ref (a 0))]) b dX12_packs_65 (by decide) rfl ?_
  refine z_iload b dX12_packs_67 rfl ?_
  refine z_iconst (v := 2) b dX12_packs_69 (by decide) ?_
  refine z_icmp_ge_f (tgt := 128) b dX12_packs_70 (by decide) (by decide) ?_
  refine z_lload_n b dX12_packs_73 rfl rfl ?_
  refine z_iconst (v := 3) b dX12_packs_74 (by decide) ?_
  refine z_lshl (v := 48) b dX12_packs_75 (by decide) ?_
  refine z_aload_n b dX12_packs_76 rfl rfl ?_
  refine z_get (q0 := 0) (k9 := 1) (v := .ref (a 2)) b (mw_0 cy a S) rfl in_X12 (by decide) wf_X12_17 rfl dX12_packs_77 ?_
  refine z_iconst (v := 3) b dX12_packs_80 (by decide) ?_
  refine z_iload_n b dX12_packs_81 rfl rfl ?_
  refine z_imul (v := 0) b dX12_packs_82 (by decide) ?_
  refine z_iload_n b dX12_packs_83 rfl rfl ?_
  refine z_iload b dX12_packs_84 rfl ?_
  refine z_calli b (z_runS (As := [.int 0, .int 0]) (st := [.int 0, .ref (a 2), .long 48]) b (c_X12_other_6 S ) cf_X12_other wm_X12_160 ws_X12_other dX12_packs_86 rfl (Nat.le_of_ble_eq_true rfl) ⟨by decide, by decide, by decide, by decide⟩) (fun r2802 u2803 h2801 => ?_)
  obtain ⟨rfl, rfl⟩ := h2801
  refine z_iadd (v := 1) b dX12_packs_89 (by decide) ?_
  refine y_iald (q0 := 2) (j := 1) (v := (ar S 1 1)) b (mw_2 cy a S) (by decide) rfl dX12_packs_90 ?_
  refine z_eqi h_a_1_1 ?_
  refine z_i2l (v := 0) b dX12_packs_91 (by decide) ?_
  refine z_lor (v := 48) b dX12_packs_92 (by decide) ?_
  refine z_lstore_n (lv' := [(1, .long 48), (4, .int 0), (3, .int 0), (0, .ref (a 0))]) b dX12_packs_93 rfl (by decide) rfl ?_
  refine z_lload_n b dX12_packs_94 rfl rfl ?_
  refine z_iconst (v := 1) b dX12_packs_95 (by decide) ?_
  refine z_lshl (v := 96) b dX12_packs_96 (by decide) ?_
  refine z_aload_n b dX12_packs_97 rfl rfl ?_
  refine z_get (q0 := 0) (k9 := 4) (v := .ref (a 5)) b (mw_0 cy a S) rfl in_X12 (by decide) wf_X12_27 rfl dX12_packs_98 ?_
  refine z_iconst (v := 3) b dX12_packs_101 (by decide) ?_
  refine z_iload_n b dX12_packs_102 rfl rfl ?_
  refine z_imul (v := 0) b dX12_packs_103 (by decide) ?_
  refine z_iload_n b dX12_packs_104 rfl rfl ?_
  refine z_iload b dX12_packs_105 rfl ?_
  refine z_calli b (z_runS (As := [.int 0, .int 0]) (st := [.int 0, .ref (a 5), .long 96]) b (c_X12_other_6 S ) cf_X12_other wm_X12_160 ws_X12_other dX12_packs_107 rfl (Nat.le_of_ble_eq_true rfl) ⟨by decide, by decide, by decide, by decide⟩) (fun r2805 u2806 h2804 => ?_)
  obtain ⟨rfl, rfl⟩ := h2804
  refine z_iadd (v := 1) b dX12_packs_110 (by decide) ?_
  refine y_zald (q0 := 5) (j := 1) (v := (ar S 4 1)) b (mw_5 cy a S) (by decide) rfl dX12_packs_111 ?_
  refine z_eqi h_a_4_1 ?_
  refine z_if_eq_t (tgt := 119) b dX12_packs_112 (by decide) (by decide) ?_
  refine z_lconst (v := 0) b dX12_packs_119 (by decide) ?_
  refine z_lor (v := 96) b dX12_packs_120 (by decide) ?_
  refine z_lstore_n (lv' := [(1, .long 96), (4, .int 0), (3, .int 0), (0, .ref (a 0))]) b dX12_packs_121 rfl (by decide) rfl ?_
  refine z_iinc (k9 := 1) (v := 1) (lv' := [(4, .int 1), (1, .long 96), (3, .int 0), (0, .ref (a 0))]) b dX12_packs_122 rfl (by decide) (by decide) rfl ?_
  refine z_goto (tgt := 67) b dX12_packs_125 (by decide) ?_
  refine z_iload b dX12_packs_67 rfl ?_
  refine z_iconst (v := 2) b dX12_packs_69 (by decide) ?_
  refine z_icmp_ge_f (tgt := 128) b dX12_packs_70 (by decide) (by decide) ?_
  refine z_lload_n b dX12_packs_73 rfl rfl ?_
  refine z_iconst (v := 3) b dX12_packs_74 (by decide) ?_
  refine z_lshl (v := 768) b dX12_packs_75 (by decide) ?_
  refine z_aload_n b dX12_packs_76 rfl rfl ?_
  refine z_get (q0 := 0) (k9 := 1) (v := .ref (a 2)) b (mw_0 cy a S) rfl in_X12 (by decide) wf_X12_17 rfl dX12_packs_77 ?_
  refine z_iconst (v := 3) b dX12_packs_80 (by decide) ?_
  refine z_iload_n b dX12_packs_81 rfl rfl ?_
  refine z_imul (v := 0) b dX12_packs_82 (by decide) ?_
  refine z_iload_n b dX12_packs_83 rfl rfl ?_
  refine z_iload b dX12_packs_84 rfl ?_
  refine z_calli b (z_runS (As := [.int 0, .int 1]) (st := [.int 0, .ref (a 2), .long 768]) b (c_X12_other_5 S ) cf_X12_other wm_X12_160 ws_X12_other dX12_packs_86 rfl (Nat.le_of_ble_eq_true rfl) ⟨by decide, by decide, by decide, by decide⟩) (fun r2808 u2809 h2807 => ?_)
  obtain ⟨rfl, rfl⟩ := h2807
  refine z_iadd (v := 2) b dX12_packs_89 (by decide) ?_
  refine y_iald (q0 := 2) (j := 2) (v := (ar S 1 2)) b (mw_2 cy a S) (by decide) rfl dX12_packs_90 ?_
  refine z_eqi h_a_1_2 ?_
  refine z_i2l (v := 0) b dX12_packs_91 (by decide) ?_
  refine z_lor (v := 768) b dX12_packs_92 (by decide) ?_
  refine z_lstore_n (lv' := [(1, .long 768), (4, .int 1), (3, .int 0), (0, .ref (a 0))]) b dX12_packs_93 rfl (by decide) rfl ?_
  refine z_lload_n b dX12_packs_94 rfl rfl ?_
  refine z_iconst (v := 1) b dX12_packs_95 (by decide) ?_
  refine z_lshl (v := 1536) b dX12_packs_96 (by decide) ?_
  refine z_aload_n b dX12_packs_97 rfl rfl ?_
  refine z_get (q0 := 0) (k9 := 4) (v := .ref (a 5)) b (mw_0 cy a S) rfl in_X12 (by decide) wf_X12_27 rfl dX12_packs_98 ?_
  refine z_iconst (v := 3) b dX12_packs_101 (by decide) ?_
  refine z_iload_n b dX12_packs_102 rfl rfl ?_
  refine z_imul (v := 0) b dX12_packs_103 (by decide) ?_
  refine z_iload_n b dX12_packs_104 rfl rfl ?_
  refine z_iload b dX12_packs_105 rfl ?_
  refine z_calli b (z_runS (As := [.int 0, .int 1]) (st := [.int 0, .ref (a 5), .long 1536]) b (c_X12_other_5 S ) cf_X12_other wm_X12_160 ws_X12_other dX12_packs_107 rfl (Nat.le_of_ble_eq_true rfl) ⟨by decide, by decide, by decide, by decide⟩) (fun r2811 u2812 h2810 => ?_)
  obtain ⟨rfl, rfl⟩ := h2810
  refine z_iadd (v := 2) b dX12_packs_110 (by decide) ?_
  refine y_zald (q0 := 5) (j := 2) (v := (ar S 4 2)) b (mw_5 cy a S) (by decide) rfl dX12_packs_111 ?_
  refine z_eqi h_a_4_2 ?_
  refine z_if_eq_t (tgt := 119) b dX12_packs_112 (by decide) (by decide) ?_
  refine z_lconst (v := 0) b dX12_packs_119 (by decide) ?_
  refine z_lor (v := 1536) b dX12_packs_120 (by decide) ?_
  refine z_lstore_n (lv' := [(1, .long 1536), (4, .int 1), (3, .int 0), (0, .ref (a 0))]) b dX12_packs_121 rfl (by decide) rfl ?_
  refine z_iinc (k9 := 1) (v := 2) (lv' := [(4, .int 2), (1, .long 1536), (3, .int 0), (0, .ref (a 0))]) b dX12_packs_122 rfl (by decide) (by decide) rfl ?_
  refine z_goto (tgt := 67) b dX12_packs_125 (by decide) ?_
  refine z_iload b dX12_packs_67 rfl ?_
  refine z_iconst (v := 2) b dX12_packs_69 (by decide) ?_
  refine z_icmp_ge_t (tgt := 128) b dX12_packs_70 (by decide) (by decide) ?_
  refine z_iinc (k9 := 2) (v := 1) (lv' := [(3, .int 1), (4, .int 2), (1, .long 1536), (0, .ref (a 0))]) b dX12_packs_128 rfl (by decide) (by decide) rfl ?_
  refine z_goto (tgt := 8) b dX12_packs_131 (by decide) ?_
  refine z_iload_n b dX12_packs_8 rfl rfl ?_
  refine z_iconst (v := 3) b dX12_packs_9 (by decide) ?_
  refine z_icmp_ge_f (tgt := 134) b dX12_packs_10 (by decide) (by decide) ?_
  refine z_lload_n b dX12_packs_13 rfl rfl ?_
  refine z_iconst (v := 4) b dX12_packs_14 (by decide) ?_
  refine z_lshl (v := 24576) b dX12_packs_15 (by decide) ?_
  refine z_aload_n b dX12_packs_16 rfl rfl ?_
  refine z_get (q0 := 0) (k9 := 0) (v := .ref (a 1)) b (mw_0 cy a S) rfl in_X12 (by decide) wf_X12_13 rfl dX12_packs_17 ?_
  refine z_iload_n b dX12_packs_20 rfl rfl ?_
  exact k

set_option maxHeartbeats 4000000 in
set_option maxRecDepth 100000 in
theorem ch_X12_packs_41 {p : Program} {l : Launch} {e : Env} {R : Room} {s : State} {m : MethodId} {args : Array Value} {below : List Frame} {meth : Method} {c : Code} {D : va_G} {cy : Nat → ClassId} {T0 tB tE : Nat} {A : Nat → Prop} {Q : State → Prop} {a : Nat → Nat} (S : GS)  (h_a_0_1 : ar S 0 1 = 0) (h_a_0_2 : ar S 0 2 = 0) (h_a_1_3 : ar S 1 3 = 0) (h_a_1_5 : ar S 1 5 = 0) (h_a_2_1 : ar S 2 1 = 3) (h_a_2_2 : ar S 2 2 = 3) (h_a_3_5 : ar S 3 5 = 0) (h_a_4_3 : ar S 4 3 = 1) (h_a_4_5 : ar S 4 5 = 0) (b : Bz p R s m args meth c D cy T0 tB tE A 5 cX12_packs RX12 (some .long) "packs" 1 21 0 0) (k : Z p l e R s m args below meth c D A 5 Q 0 0 (mw cy a S) [(1, .long 805330960), (3, .int 2), (4, .int 2), (0, .ref (a 0))] 36 [.long 3221323843]) : Z p l e R s m args below meth c D A 5 Q 0 0 (mw cy a S) [(3, .int 1), (4, .int 2), (1, .long 1536), (0, .ref (a 0))] 21 [.int 1, .ref (a 1), .long 24576] := by
  refine y_iald (q0 := 1) (j := 1) (v := (ar S 0 1)) b (mw_1 cy a S) (by decide) rfl dX12_packs_21 ?_
  refine z_eqi h_a_0_1 ?_
  refine z_i2l (v := 0) b dX12_packs_22 (by decide) ?_
  refine z_lor (v := 24576) b dX12_packs_23 (by decide) ?_
  refine z_lstore_n (lv' := [(1, .long 24576), (3, .int 1), (4, .int 2), (0, .ref (a 0))]) b dX12_packs_24 rfl (by decide) rfl ?_
  refine z_lload_n b dX12_packs_25 rfl rfl ?_
  refine z_iconst (v := 2) b dX12_packs_26 (by decide) ?_
  refine z_lshl (v := 98304) b dX12_packs_27 (by decide) ?_
  refine z_aload_n b dX12_packs_28 rfl rfl ?_
  refine z_get (q0 := 0) (k9 := 2) (v := .ref (a 3)) b (mw_0 cy a S) rfl in_X12 (by decide) wf_X12_20 rfl dX12_packs_29 ?_
  refine z_iload_n b dX12_packs_32 rfl rfl ?_
  refine y_iald (q0 := 3) (j := 1) (v := (ar S 2 1)) b (mw_3 cy a S) (by decide) rfl dX12_packs_33 ?_
  refine z_eqi h_a_2_1 ?_
  refine z_i2l (v := 3) b dX12_packs_34 (by decide) ?_
  refine z_lor (v := 98307) b dX12_packs_35 (by decide) ?_
  refine z_lstore_n (lv' := [(1, .long 98307), (3, .int 1), (4, .int 2), (0, .ref (a 0))]) b dX12_packs_36 rfl (by decide) rfl ?_
  refine z_lload_n b dX12_packs_37 rfl rfl ?_
  refine z_iconst (v := 1) b dX12_packs_38 (by decide) ?_
  refine z_lshl (v := 196614) b dX12_packs_39 (by decide) ?_
  refine z_aload_n b dX12_packs_40 rfl rfl ?_
  refine z_get (q0 := 0) (k9 := 3) (v := .ref (a 4)) b (mw_0 cy a S) rfl in_X12 (by decide) wf_X12_23 rfl dX12_packs_41 ?_
  refine z_iconst (v := 3) b dX12_packs_44 (by decide) ?_
  refine z_iload_n b dX12_packs_45 rfl rfl ?_
  refine z_imul (v := 3) b dX12_packs_46 (by decide) ?_
  refine z_iload_n b dX12_packs_47 rfl rfl ?_
  refine z_iconst (v := 0) b dX12_packs_48 (by decide) ?_
  refine z_calli b (z_runS (As := [.int 1, .int 0]) (st := [.int 3, .ref (a 4), .long 196614]) b (c_X12_other_4 S ) cf_X12_other wm_X12_160 ws_X12_other dX12_packs_49 rfl (Nat.le_of_ble_eq_true rfl) ⟨by decide, by decide, by decide, by decide⟩) (fun r2814 u2815 h2813 => ?_)
  obtain ⟨rfl, rfl⟩ := h2813
  refine z_iadd (v := 5) b dX12_packs_52 (by decide) ?_
  refine y_zald (q0 := 4) (j := 5) (v := (ar S 3 5)) b (mw_4 cy a S) (by decide) rfl dX12_packs_53 ?_
  refine z_eqi h_a_3_5 ?_
  refine z_if_eq_t (tgt := 61) b dX12_packs_54 (by decide) (by decide) ?_
  refine z_lconst (v := 0) b dX12_packs_61 (by decide) ?_
  refine z_lor (v := 196614) b dX12_packs_62 (by decide) ?_
  refine z_lstore_n (lv' := [(1, .long 196614), (3, .int 1), (4, .int 2), (0, .ref (a 0))]) b dX12_packs_63 rfl (by decide) rfl ?_
  refine z_iconst (v := 0) b dX12_packs_64 (by decide) ?_
  refine z_istore (lv' := [(4, .int 0), (1, .long 196614), (3, .int 1), (0, .ref (a 0))]) b dX12_packs_65 (by decide) rfl ?_
  refine z_iload b dX12_packs_67 rfl ?_
  refine z_iconst (v := 2) b dX12_packs_69 (by decide) ?_
  refine z_icmp_ge_f (tgt := 128) b dX12_packs_70 (by decide) (by decide) ?_
  refine z_lload_n b dX12_packs_73 rfl rfl ?_
  refine z_iconst (v := 3) b dX12_packs_74 (by decide) ?_
  refine z_lshl (v := 1572912) b dX12_packs_75 (by decide) ?_
  refine z_aload_n b dX12_packs_76 rfl rfl ?_
  refine z_get (q0 := 0) (k9 := 1) (v := .ref (a 2)) b (mw_0 cy a S) rfl in_X12 (by decide) wf_X12_17 rfl dX12_packs_77 ?_
  refine z_iconst (v := 3) b dX12_packs_80 (by decide) ?_
  refine z_iload_n b dX12_packs_81 rfl rfl ?_
  refine z_imul (v := 3) b dX12_packs_82 (by decide) ?_
  refine z_iload_n b dX12_packs_83 rfl rfl ?_
  refine z_iload b dX12_packs_84 rfl ?_
  refine z_calli b (z_runS (As := [.int 1, .int 0]) (st := [.int 3, .ref (a 2), .long 1572912]) b (c_X12_other_4 S ) cf_X12_other wm_X12_160 ws_X12_other dX12_packs_86 rfl (Nat.le_of_ble_eq_true rfl) ⟨by decide, by decide, by decide, by decide⟩) (fun r2817 u2818 h2816 => ?_)
  obtain ⟨rfl, rfl⟩ := h2816
  refine z_iadd (v := 5) b dX12_packs_89 (by decide) ?_
  refine y_iald (q0 := 2) (j := 5) (v := (ar S 1 5)) b (mw_2 cy a S) (by decide) rfl dX12_packs_90 ?_
  refine z_eqi h_a_1_5 ?_
  refine z_i2l (v := 0) b dX12_packs_91 (by decide) ?_
  refine z_lor (v := 1572912) b dX12_packs_92 (by decide) ?_
  refine z_lstore_n (lv' := [(1, .long 1572912), (4, .int 0), (3, .int 1), (0, .ref (a 0))]) b dX12_packs_93 rfl (by decide) rfl ?_
  refine z_lload_n b dX12_packs_94 rfl rfl ?_
  refine z_iconst (v := 1) b dX12_packs_95 (by decide) ?_
  refine z_lshl (v := 3145824) b dX12_packs_96 (by decide) ?_
  refine z_aload_n b dX12_packs_97 rfl rfl ?_
  refine z_get (q0 := 0) (k9 := 4) (v := .ref (a 5)) b (mw_0 cy a S) rfl in_X12 (by decide) wf_X12_27 rfl dX12_packs_98 ?_
  refine z_iconst (v := 3) b dX12_packs_101 (by decide) ?_
  refine z_iload_n b dX12_packs_102 rfl rfl ?_
  refine z_imul (v := 3) b dX12_packs_103 (by decide) ?_
  refine z_iload_n b dX12_packs_104 rfl rfl ?_
  refine z_iload b dX12_packs_105 rfl ?_
  refine z_calli b (z_runS (As := [.int 1, .int 0]) (st := [.int 3, .ref (a 5), .long 3145824]) b (c_X12_other_4 S ) cf_X12_other wm_X12_160 ws_X12_other dX12_packs_107 rfl (Nat.le_of_ble_eq_true rfl) ⟨by decide, by decide, by decide, by decide⟩) (fun r2820 u2821 h2819 => ?_)
  obtain ⟨rfl, rfl⟩ := h2819
  refine z_iadd (v := 5) b dX12_packs_110 (by decide) ?_
  refine y_zald (q0 := 5) (j := 5) (v := (ar S 4 5)) b (mw_5 cy a S) (by decide) rfl dX12_packs_111 ?_
  refine z_eqi h_a_4_5 ?_
  refine z_if_eq_t (tgt := 119) b dX12_packs_112 (by decide) (by decide) ?_
  refine z_lconst (v := 0) b dX12_packs_119 (by decide) ?_
  refine z_lor (v := 3145824) b dX12_packs_120 (by decide) ?_
  refine z_lstore_n (lv' := [(1, .long 3145824), (4, .int 0), (3, .int 1), (0, .ref (a 0))]) b dX12_packs_121 rfl (by decide) rfl ?_
  refine z_iinc (k9 := 1) (v := 1) (lv' := [(4, .int 1), (1, .long 3145824), (3, .int 1), (0, .ref (a 0))]) b dX12_packs_122 rfl (by decide) (by decide) rfl ?_
  refine z_goto (tgt := 67) b dX12_packs_125 (by decide) ?_
  refine z_iload b dX12_packs_67 rfl ?_
  refine z_iconst (v := 2) b dX12_packs_69 (by decide) ?_
  refine z_icmp_ge_f (tgt := 128) b dX12_packs_70 (by decide) (by decide) ?_
  refine z_lload_n b dX12_packs_73 rfl rfl ?_
  refine z_iconst (v := 3) b dX12_packs_74 (by decide) ?_
  refine z_lshl (v := 25166592) b dX12_packs_75 (by decide) ?_
  refine z_aload_n b dX12_packs_76 rfl rfl ?_
  refine z_get (q0 := 0) (k9 := 1) (v := .ref (a 2)) b (mw_0 cy a S) rfl in_X12 (by decide) wf_X12_17 rfl dX12_packs_77 ?_
  refine z_iconst (v := 3) b dX12_packs_80 (by decide) ?_
  refine z_iload_n b dX12_packs_81 rfl rfl ?_
  refine z_imul (v := 3) b dX12_packs_82 (by decide) ?_
  refine z_iload_n b dX12_packs_83 rfl rfl ?_
  refine z_iload b dX12_packs_84 rfl ?_
  refine z_calli b (z_runS (As := [.int 1, .int 1]) (st := [.int 3, .ref (a 2), .long 25166592]) b (c_X12_other_3 S ) cf_X12_other wm_X12_160 ws_X12_other dX12_packs_86 rfl (Nat.le_of_ble_eq_true rfl) ⟨by decide, by decide, by decide, by decide⟩) (fun r2823 u2824 h2822 => ?_)
  obtain ⟨rfl, rfl⟩ := h2822
  refine z_iadd (v := 3) b dX12_packs_89 (by decide) ?_
  refine y_iald (q0 := 2) (j := 3) (v := (ar S 1 3)) b (mw_2 cy a S) (by decide) rfl dX12_packs_90 ?_
  refine z_eqi h_a_1_3 ?_
  refine z_i2l (v := 0) b dX12_packs_91 (by decide) ?_
  refine z_lor (v := 25166592) b dX12_packs_92 (by decide) ?_
  refine z_lstore_n (lv' := [(1, .long 25166592), (4, .int 1), (3, .int 1), (0, .ref (a 0))]) b dX12_packs_93 rfl (by decide) rfl ?_
  refine z_lload_n b dX12_packs_94 rfl rfl ?_
  refine z_iconst (v := 1) b dX12_packs_95 (by decide) ?_
  refine z_lshl (v := 50333184) b dX12_packs_96 (by decide) ?_
  refine z_aload_n b dX12_packs_97 rfl rfl ?_
  refine z_get (q0 := 0) (k9 := 4) (v := .ref (a 5)) b (mw_0 cy a S) rfl in_X12 (by decide) wf_X12_27 rfl dX12_packs_98 ?_
  refine z_iconst (v := 3) b dX12_packs_101 (by decide) ?_
  refine z_iload_n b dX12_packs_102 rfl rfl ?_
  refine z_imul (v := 3) b dX12_packs_103 (by decide) ?_
  refine z_iload_n b dX12_packs_104 rfl rfl ?_
  refine z_iload b dX12_packs_105 rfl ?_
  refine z_calli b (z_runS (As := [.int 1, .int 1]) (st := [.int 3, .ref (a 5), .long 50333184]) b (c_X12_other_3 S ) cf_X12_other wm_X12_160 ws_X12_other dX12_packs_107 rfl (Nat.le_of_ble_eq_true rfl) ⟨by decide, by decide, by decide, by decide⟩) (fun r2826 u2827 h2825 => ?_)
  obtain ⟨rfl, rfl⟩ := h2825
  refine z_iadd (v := 3) b dX12_packs_110 (by decide) ?_
  refine y_zald (q0 := 5) (j := 3) (v := (ar S 4 3)) b (mw_5 cy a S) (by decide) rfl dX12_packs_111 ?_
  refine z_eqi h_a_4_3 ?_
  refine z_if_eq_f (tgt := 119) b dX12_packs_112 (by decide) (by decide) ?_
  refine z_lconst (v := 1) b dX12_packs_115 (by decide) ?_
  refine z_goto (tgt := 120) b dX12_packs_116 (by decide) ?_
  refine z_lor (v := 50333185) b dX12_packs_120 (by decide) ?_
  refine z_lstore_n (lv' := [(1, .long 50333185), (4, .int 1), (3, .int 1), (0, .ref (a 0))]) b dX12_packs_121 rfl (by decide) rfl ?_
  refine z_iinc (k9 := 1) (v := 2) (lv' := [(4, .int 2), (1, .long 50333185), (3, .int 1), (0, .ref (a 0))]) b dX12_packs_122 rfl (by decide) (by decide) rfl ?_
  refine z_goto (tgt := 67) b dX12_packs_125 (by decide) ?_
  refine z_iload b dX12_packs_67 rfl ?_
  refine z_iconst (v := 2) b dX12_packs_69 (by decide) ?_
  refine z_icmp_ge_t (tgt := 128) b dX12_packs_70 (by decide) (by decide) ?_
  refine z_iinc (k9 := 2) (v := 2) (lv' := [(3, .int 2), (4, .int 2), (1, .long 50333185), (0, .ref (a 0))]) b dX12_packs_128 rfl (by decide) (by decide) rfl ?_
  refine z_goto (tgt := 8) b dX12_packs_131 (by decide) ?_
  refine z_iload_n b dX12_packs_8 rfl rfl ?_
  refine z_iconst (v := 3) b dX12_packs_9 (by decide) ?_
  refine z_icmp_ge_f (tgt := 134) b dX12_packs_10 (by decide) (by decide) ?_
  refine z_lload_n b dX12_packs_13 rfl rfl ?_
  refine z_iconst (v := 4) b dX12_packs_14 (by decide) ?_
  refine z_lshl (v := 805330960) b dX12_packs_15 (by decide) ?_
  refine z_aload_n b dX12_packs_16 rfl rfl ?_
  refine z_get (q0 := 0) (k9 := 0) (v := .ref (a 1)) b (mw_0 cy a S) rfl in_X12 (by decide) wf_X12_13 rfl dX12_packs_17 ?_
  refine z_iload_n b dX12_packs_20 rfl rfl ?_
  refine y_iald (q0 := 1) (j := 2) (v := (ar S 0 2)) b (mw_1 cy a S) (by decide) rfl dX12_packs_21 ?_
  refine z_eqi h_a_0_2 ?_
  refine z_i2l (v := 0) b dX12_packs_22 (by decide) ?_
  refine z_lor (v := 805330960) b dX12_packs_23 (by decide) ?_
  refine z_lstore_n (lv' := [(1, .long 805330960), (3, .int 2), (4, .int 2), (0, .ref (a 0))]) b dX12_packs_24 rfl (by decide) rfl ?_
  refine z_lload_n b dX12_packs_25 rfl rfl ?_
  refine z_iconst (v := 2) b dX12_packs_26 (by decide) ?_
  refine z_lshl (v := 3221323840) b dX12_packs_27 (by decide) ?_
  refine z_aload_n b dX12_packs_28 rfl rfl ?_
  refine z_get (q0 := 0) (k9 := 2) (v := .ref (a 3)) b (mw_0 cy a S) rfl in_X12 (by decide) wf_X12_20 rfl dX12_packs_29 ?_
  refine z_iload_n b dX12_packs_32 rfl rfl ?_
  refine y_iald (q0 := 3) (j := 2) (v := (ar S 2 2)) b (mw_3 cy a S) (by decide) rfl dX12_packs_33 ?_
  refine z_eqi h_a_2_2 ?_
  refine z_i2l (v := 3) b dX12_packs_34 (by decide) ?_
  refine z_lor (v := 3221323843) b dX12_packs_35 (by decide) ?_
  exact k

set_option maxHeartbeats 4000000 in
set_option maxRecDepth 100000 in
theorem c_X12_packs_19 {l : Launch} {D : va_G} {cy : Nat → ClassId} {T0 tB tE : Nat} {a : Nat → Nat} (S : GS)  (h_i_0 : fi S 0 = 0) (h_a_0_0 : ar S 0 0 = 0) (h_a_2_0 : ar S 2 0 = 3) (h_a_3_1 : ar S 3 1 = 0) (h_a_1_1 : ar S 1 1 = 0) (h_a_4_1 : ar S 4 1 = 0) (h_a_1_2 : ar S 1 2 = 0) (h_a_4_2 : ar S 4 2 = 0) (h_a_0_1 : ar S 0 1 = 0) (h_a_2_1 : ar S 2 1 = 3) (h_a_3_5 : ar S 3 5 = 0) (h_a_1_5 : ar S 1 5 = 0) (h_a_4_5 : ar S 4 5 = 0) (h_a_1_3 : ar S 1 3 = 0) (h_a_4_3 : ar S 4 3 = 1) (h_a_0_2 : ar S 0 2 = 0) (h_a_2_2 : ar S 2 2 = 3) (h_a_3_6 : ar S 3 6 = 0) (h_a_1_6 : ar S 1 6 = 0) (h_a_4_6 : ar S 4 6 = 0) (h_a_1_7 : ar S 1 7 = 0) (h_a_4_7 : ar S 4 7 = 0) : Ct l D cy T0 tB tE yX12_packs cX12_packs 5 (some .long) 1 21 0 0 (mw cy a S) [.ref (a 0)] (QL D (U := GS) (fun r u => 1649317807616 = r ∧ S = u) (mw cy a)) := by
  refine Ct.ofZ RX12 "packs" [(0, .ref (a 0))] rfl rfl rfl rfl (Nat.le_of_ble_eq_true rfl) ?_
  intro p e R s m args below meth c A b
  refine ch_X12_packs_40 S  h_a_0_0 h_a_1_1 h_a_1_2 h_a_2_0 h_a_3_1 h_a_4_1 h_a_4_2 h_i_0  b ?_
  refine ch_X12_packs_41 S  h_a_0_1 h_a_0_2 h_a_1_3 h_a_1_5 h_a_2_1 h_a_2_2 h_a_3_5 h_a_4_3 h_a_4_5  b ?_
  refine z_lstore_n (lv' := [(1, .long 3221323843), (3, .int 2), (4, .int 2), (0, .ref (a 0))]) b dX12_packs_36 rfl (by decide) rfl ?_
  refine z_lload_n b dX12_packs_37 rfl rfl ?_
  refine z_iconst (v := 1) b dX12_packs_38 (by decide) ?_
  refine z_lshl (v := 6442647686) b dX12_packs_39 (by decide) ?_
  refine z_aload_n b dX12_packs_40 rfl rfl ?_
  refine z_get (q0 := 0) (k9 := 3) (v := .ref (a 4)) b (mw_0 cy a S) rfl in_X12 (by decide) wf_X12_23 rfl dX12_packs_41 ?_
  refine z_iconst (v := 3) b dX12_packs_44 (by decide) ?_
  refine z_iload_n b dX12_packs_45 rfl rfl ?_
  refine z_imul (v := 6) b dX12_packs_46 (by decide) ?_
  refine z_iload_n b dX12_packs_47 rfl rfl ?_
  refine z_iconst (v := 0) b dX12_packs_48 (by decide) ?_
  refine z_calli b (z_runS (As := [.int 2, .int 0]) (st := [.int 6, .ref (a 4), .long 6442647686]) b (c_X12_other_2 S ) cf_X12_other wm_X12_160 ws_X12_other dX12_packs_49 rfl (Nat.le_of_ble_eq_true rfl) ⟨by decide, by decide, by decide, by decide⟩) (fun r2829 u2830 h2828 => ?_)
  obtain ⟨rfl, rfl⟩ := h2828
  refine z_iadd (v := 6) b dX12_packs_52 (by decide) ?_
  refine y_zald (q0 := 4) (j := 6) (v := (ar S 3 6)) b (mw_4 cy a S) (by decide) rfl dX12_packs_53 ?_
  refine z_eqi h_a_3_6 ?_
  refine z_if_eq_t (tgt := 61) b dX12_packs_54 (by decide) (by decide) ?_
  refine z_lconst (v := 0) b dX12_packs_61 (by decide) ?_
  refine z_lor (v := 6442647686) b dX12_packs_62 (by decide) ?_
  refine z_lstore_n (lv' := [(1, .long 6442647686), (3, .int 2), (4, .int 2), (0, .ref (a 0))]) b dX12_packs_63 rfl (by decide) rfl ?_
  refine z_iconst (v := 0) b dX12_packs_64 (by decide) ?_
  refine z_istore (lv' := [(4, .int 0), (1, .long 6442647686), (3, .int 2), (0, .ref (a 0))]) b dX12_packs_65 (by decide) rfl ?_
  refine z_iload b dX12_packs_67 rfl ?_
  refine z_iconst (v := 2) b dX12_packs_69 (by decide) ?_
  refine z_icmp_ge_f (tgt := 128) b dX12_packs_70 (by decide) (by decide) ?_
  refine z_lload_n b dX12_packs_73 rfl rfl ?_
  refine z_iconst (v := 3) b dX12_packs_74 (by decide) ?_
  refine z_lshl (v := 51541181488) b dX12_packs_75 (by decide) ?_
  refine z_aload_n b dX12_packs_76 rfl rfl ?_
  refine z_get (q0 := 0) (k9 := 1) (v := .ref (a 2)) b (mw_0 cy a S) rfl in_X12 (by decide) wf_X12_17 rfl dX12_packs_77 ?_
  refine z_iconst (v := 3) b dX12_packs_80 (by decide) ?_
  refine z_iload_n b dX12_packs_81 rfl rfl ?_
  refine z_imul (v := 6) b dX12_packs_82 (by decide) ?_
  refine z_iload_n b dX12_packs_83 rfl rfl ?_
  refine z_iload b dX12_packs_84 rfl ?_
  refine z_calli b (z_runS (As := [.int 2, .int 0]) (st := [.int 6, .ref (a 2), .long 51541181488]) b (c_X12_other_2 S ) cf_X12_other wm_X12_160 ws_X12_other dX12_packs_86 rfl (Nat.le_of_ble_eq_true rfl) ⟨by decide, by decide, by decide, by decide⟩) (fun r2832 u2833 h2831 => ?_)
  obtain ⟨rfl, rfl⟩ := h2831
  refine z_iadd (v := 6) b dX12_packs_89 (by decide) ?_
  refine y_iald (q0 := 2) (j := 6) (v := (ar S 1 6)) b (mw_2 cy a S) (by decide) rfl dX12_packs_90 ?_
  refine z_eqi h_a_1_6 ?_
  refine z_i2l (v := 0) b dX12_packs_91 (by decide) ?_
  refine z_lor (v := 51541181488) b dX12_packs_92 (by decide) ?_
  refine z_lstore_n (lv' := [(1, .long 51541181488), (4, .int 0), (3, .int 2), (0, .ref (a 0))]) b dX12_packs_93 rfl (by decide) rfl ?_
  refine z_lload_n b dX12_packs_94 rfl rfl ?_
  refine z_iconst (v := 1) b dX12_packs_95 (by decide) ?_
  refine z_lshl (v := 103082362976) b dX12_packs_96 (by decide) ?_
  refine z_aload_n b dX12_packs_97 rfl rfl ?_
  refine z_get (q0 := 0) (k9 := 4) (v := .ref (a 5)) b (mw_0 cy a S) rfl in_X12 (by decide) wf_X12_27 rfl dX12_packs_98 ?_
  refine z_iconst (v := 3) b dX12_packs_101 (by decide) ?_
  refine z_iload_n b dX12_packs_102 rfl rfl ?_
  refine z_imul (v := 6) b dX12_packs_103 (by decide) ?_
  refine z_iload_n b dX12_packs_104 rfl rfl ?_
  refine z_iload b dX12_packs_105 rfl ?_
  refine z_calli b (z_runS (As := [.int 2, .int 0]) (st := [.int 6, .ref (a 5), .long 103082362976]) b (c_X12_other_2 S ) cf_X12_other wm_X12_160 ws_X12_other dX12_packs_107 rfl (Nat.le_of_ble_eq_true rfl) ⟨by decide, by decide, by decide, by decide⟩) (fun r2835 u2836 h2834 => ?_)
  obtain ⟨rfl, rfl⟩ := h2834
  refine z_iadd (v := 6) b dX12_packs_110 (by decide) ?_
  refine y_zald (q0 := 5) (j := 6) (v := (ar S 4 6)) b (mw_5 cy a S) (by decide) rfl dX12_packs_111 ?_
  refine z_eqi h_a_4_6 ?_
  refine z_if_eq_t (tgt := 119) b dX12_packs_112 (by decide) (by decide) ?_
  refine z_lconst (v := 0) b dX12_packs_119 (by decide) ?_
  refine z_lor (v := 103082362976) b dX12_packs_120 (by decide) ?_
  refine z_lstore_n (lv' := [(1, .long 103082362976), (4, .int 0), (3, .int 2), (0, .ref (a 0))]) b dX12_packs_121 rfl (by decide) rfl ?_
  refine z_iinc (k9 := 1) (v := 1) (lv' := [(4, .int 1), (1, .long 103082362976), (3, .int 2), (0, .ref (a 0))]) b dX12_packs_122 rfl (by decide) (by decide) rfl ?_
  refine z_goto (tgt := 67) b dX12_packs_125 (by decide) ?_
  refine z_iload b dX12_packs_67 rfl ?_
  refine z_iconst (v := 2) b dX12_packs_69 (by decide) ?_
  refine z_icmp_ge_f (tgt := 128) b dX12_packs_70 (by decide) (by decide) ?_
  refine z_lload_n b dX12_packs_73 rfl rfl ?_
  refine z_iconst (v := 3) b dX12_packs_74 (by decide) ?_
  refine z_lshl (v := 824658903808) b dX12_packs_75 (by decide) ?_
  refine z_aload_n b dX12_packs_76 rfl rfl ?_
  refine z_get (q0 := 0) (k9 := 1) (v := .ref (a 2)) b (mw_0 cy a S) rfl in_X12 (by decide) wf_X12_17 rfl dX12_packs_77 ?_
  refine z_iconst (v := 3) b dX12_packs_80 (by decide) ?_
  refine z_iload_n b dX12_packs_81 rfl rfl ?_
  refine z_imul (v := 6) b dX12_packs_82 (by decide) ?_
  refine z_iload_n b dX12_packs_83 rfl rfl ?_
  refine z_iload b dX12_packs_84 rfl ?_
  refine z_calli b (z_runS (As := [.int 2, .int 1]) (st := [.int 6, .ref (a 2), .long 824658903808]) b (c_X12_other S ) cf_X12_other wm_X12_160 ws_X12_other dX12_packs_86 rfl (Nat.le_of_ble_eq_true rfl) ⟨by decide, by decide, by decide, by decide⟩) (fun r2838 u2839 h2837 => ?_)
  obtain ⟨rfl, rfl⟩ := h2837
  refine z_iadd (v := 7) b dX12_packs_89 (by decide) ?_
  refine y_iald (q0 := 2) (j := 7) (v := (ar S 1 7)) b (mw_2 cy a S) (by decide) rfl dX12_packs_90 ?_
  refine z_eqi h_a_1_7 ?_
  refine z_i2l (v := 0) b dX12_packs_91 (by decide) ?_
  refine z_lor (v := 824658903808) b dX12_packs_92 (by decide) ?_
  refine z_lstore_n (lv' := [(1, .long 824658903808), (4, .int 1), (3, .int 2), (0, .ref (a 0))]) b dX12_packs_93 rfl (by decide) rfl ?_
  refine z_lload_n b dX12_packs_94 rfl rfl ?_
  refine z_iconst (v := 1) b dX12_packs_95 (by decide) ?_
  refine z_lshl (v := 1649317807616) b dX12_packs_96 (by decide) ?_
  refine z_aload_n b dX12_packs_97 rfl rfl ?_
  refine z_get (q0 := 0) (k9 := 4) (v := .ref (a 5)) b (mw_0 cy a S) rfl in_X12 (by decide) wf_X12_27 rfl dX12_packs_98 ?_
  refine z_iconst (v := 3) b dX12_packs_101 (by decide) ?_
  refine z_iload_n b dX12_packs_102 rfl rfl ?_
  refine z_imul (v := 6) b dX12_packs_103 (by decide) ?_
  refine z_iload_n b dX12_packs_104 rfl rfl ?_
  refine z_iload b dX12_packs_105 rfl ?_
  refine z_calli b (z_runS (As := [.int 2, .int 1]) (st := [.int 6, .ref (a 5), .long 1649317807616]) b (c_X12_other S ) cf_X12_other wm_X12_160 ws_X12_other dX12_packs_107 rfl (Nat.le_of_ble_eq_true rfl) ⟨by decide, by decide, by decide, by decide⟩) (fun r2841 u2842 h2840 => ?_)
  obtain ⟨rfl, rfl⟩ := h2840
  refine z_iadd (v := 7) b dX12_packs_110 (by decide) ?_
  refine y_zald (q0 := 5) (j := 7) (v := (ar S 4 7)) b (mw_5 cy a S) (by decide) rfl dX12_packs_111 ?_
  refine z_eqi h_a_4_7 ?_
  refine z_if_eq_t (tgt := 119) b dX12_packs_112 (by decide) (by decide) ?_
  refine z_lconst (v := 0) b dX12_packs_119 (by decide) ?_
  refine z_lor (v := 1649317807616) b dX12_packs_120 (by decide) ?_
  refine z_lstore_n (lv' := [(1, .long 1649317807616), (4, .int 1), (3, .int 2), (0, .ref (a 0))]) b dX12_packs_121 rfl (by decide) rfl ?_
  refine z_iinc (k9 := 1) (v := 2) (lv' := [(4, .int 2), (1, .long 1649317807616), (3, .int 2), (0, .ref (a 0))]) b dX12_packs_122 rfl (by decide) (by decide) rfl ?_
  refine z_goto (tgt := 67) b dX12_packs_125 (by decide) ?_
  refine z_iload b dX12_packs_67 rfl ?_
  refine z_iconst (v := 2) b dX12_packs_69 (by decide) ?_
  refine z_icmp_ge_t (tgt := 128) b dX12_packs_70 (by decide) (by decide) ?_
  refine z_iinc (k9 := 2) (v := 3) (lv' := [(3, .int 3), (4, .int 2), (1, .long 1649317807616), (0, .ref (a 0))]) b dX12_packs_128 rfl (by decide) (by decide) rfl ?_
  refine z_goto (tgt := 8) b dX12_packs_131 (by decide) ?_
  refine z_iload_n b dX12_packs_8 rfl rfl ?_
  refine z_iconst (v := 3) b dX12_packs_9 (by decide) ?_
  refine z_icmp_ge_t (tgt := 134) b dX12_packs_10 (by decide) (by decide) ?_
  refine z_lload_n b dX12_packs_134 rfl rfl ?_
  exact z_lret (u := S) b rfl dX12_packs_135 ⟨rfl, rfl⟩ rfl (by decide) (by decide)

set_option maxHeartbeats 4000000 in
set_option maxRecDepth 100000 in
theorem c_X12_told_19 {l : Launch} {D : va_G} {cy : Nat → ClassId} {T0 tB tE : Nat} {a : Nat → Nat} (S : GS)  (h_i_0 : fi S 0 = 0) (h_a_0_0 : ar S 0 0 = 0) (h_a_2_0 : ar S 2 0 = 3) (h_a_3_1 : ar S 3 1 = 0) (h_a_1_1 : ar S 1 1 = 0) (h_a_4_1 : ar S 4 1 = 0) (h_a_1_2 : ar S 1 2 = 0) (h_a_4_2 : ar S 4 2 = 0) (h_a_0_1 : ar S 0 1 = 0) (h_a_2_1 : ar S 2 1 = 3) (h_a_3_5 : ar S 3 5 = 0) (h_a_1_5 : ar S 1 5 = 0) (h_a_4_5 : ar S 4 5 = 0) (h_a_1_3 : ar S 1 3 = 0) (h_a_4_3 : ar S 4 3 = 1) (h_a_0_2 : ar S 0 2 = 0) (h_a_2_2 : ar S 2 2 = 3) (h_a_3_6 : ar S 3 6 = 0) (h_a_1_6 : ar S 1 6 = 0) (h_a_4_6 : ar S 4 6 = 0) (h_a_1_7 : ar S 1 7 = 0) (h_a_4_7 : ar S 4 7 = 0) : Ct l D cy T0 tB tE yX12_told cX12_told 1 (some .boolean) 2 45 0 0 (mw cy a S) [.ref (a 0)] (QI D (U := GS) (fun r u => 1 = r ∧ sl S 0 1649317807616 = u) (mw cy a)) := by
  refine Ct.ofZ RX12 "told" [(0, .ref (a 0))] rfl rfl rfl rfl (Nat.le_of_ble_eq_true rfl) ?_
  intro p e R s m args below meth c A b
  refine z_aload_n b dX12_told_0 rfl rfl ?_
  refine z_aload_n b dX12_told_1 rfl rfl ?_
  refine z_calll b (z_runV (q0 := 0) (As := []) (st := [.ref (a 0)]) b (c_X12_packs_19 S h_i_0 h_a_0_0 h_a_2_0 h_a_3_1 h_a_1_1 h_a_4_1 h_a_1_2 h_a_4_2 h_a_0_1 h_a_2_1 h_a_3_5 h_a_1_5 h_a_4_5 h_a_1_3 h_a_4_3 h_a_0_2 h_a_2_2 h_a_3_6 h_a_1_6 h_a_4_6 h_a_1_7 h_a_4_7) cf_X12_packs (mw_0 cy a S) rfl wm_X12_149 wi_X12_packs ws_X12_packs dX12_told_2 rfl (Nat.le_of_ble_eq_true rfl) ⟨by decide, by decide, by decide, by decide⟩) (fun r2844 u2845 h2843 => ?_)
  obtain ⟨rfl, rfl⟩ := h2843
  refine z_put (q0 := 0) (k9 := 6) tyX12 b (mw_0 cy a S) rfl in_X12 tyX12_ok nmX12 (by decide) wf_X12_153 rfl rfl rfl rfl (Nat.le_of_ble_eq_true rfl) dX12_told_5 (mwp_0_6 cy a S 1649317807616) ?_
  refine z_iconst (v := 1) b dX12_told_8 (by decide) ?_
  exact z_zret (u := (sl S 0 1649317807616)) b rfl (by decide) dX12_told_9 ⟨rfl, rfl⟩ rfl (by decide) (by decide)

set_option maxHeartbeats 4000000 in
set_option maxRecDepth 100000 in
theorem c_X12_kin_44 {l : Launch} {D : va_G} {cy : Nat → ClassId} {T0 tB tE : Nat} {a : Nat → Nat} (S : GS)  (h_l_0 : fl S 0 = 1649317774848) (h_a_4_7 : ar S 4 7 = 0) (h_a_1_7 : ar S 1 7 = 0) (h_a_4_6 : ar S 4 6 = 0) (h_a_1_6 : ar S 1 6 = 0) (h_a_3_6 : ar S 3 6 = 0) (h_a_3_2 : ar S 3 2 = 0) (h_a_2_2 : ar S 2 2 = 3) (h_a_0_2 : ar S 0 2 = 0) (h_a_4_3 : ar S 4 3 = 0) (h_a_1_3 : ar S 1 3 = 0) (h_a_4_5 : ar S 4 5 = 0) (h_a_1_5 : ar S 1 5 = 0) (h_a_3_5 : ar S 3 5 = 0) (h_a_3_7 : ar S 3 7 = 0) (h_a_2_1 : ar S 2 1 = 3) (h_a_0_1 : ar S 0 1 = 0) (h_a_4_2 : ar S 4 2 = 0) (h_a_1_2 : ar S 1 2 = 0) (h_a_4_1 : ar S 4 1 = 0) (h_a_1_1 : ar S 1 1 = 0) (h_a_3_1 : ar S 3 1 = 0) (h_a_3_3 : ar S 3 3 = 0) (h_a_2_0 : ar S 2 0 = 3) (h_a_0_0 : ar S 0 0 = 0) (h_i_0 : fi S 0 = 0) : Ct l D cy T0 tB tE yX12_kin cX12_kin 5 (some .boolean) 3 65 0 0 (mw cy a S) [.ref (a 0), .int 1, .int 0, .int 1, .int 1] (QI D (U := GS) (fun r u => 1 = r ∧ sl (su S 4 3 1) 0 1649317807616 = u) (mw cy a)) := by
  refine Ct.ofZ RX12 "kin" [(0, .ref (a 0)), (1, .int 1), (2, .int 0), (3, .int 1), (4, .int 1)] rfl rfl rfl rfl (Nat.le_of_ble_eq_true rfl) ?_
  intro p e R s m args below meth c A b
  refine z_iload_n b dX12_kin_0 rfl rfl ?_
  refine z_calli b (z_runS (As := [.int 1]) (st := []) b (c_X12_isOne_3 S ) cf_X12_isOne wm_X12_170 ws_X12_isOne dX12_kin_1 rfl (Nat.le_of_ble_eq_true rfl) ⟨by decide, by decide, by decide, by decide⟩) (fun r2787 u2788 h2786 => ?_)
  obtain ⟨rfl, rfl⟩ := h2786
  refine z_if_eq_f (tgt := 28) b dX12_kin_4 (by decide) (by decide) ?_
  refine z_iload_n b dX12_kin_7 rfl rfl ?_
  refine z_calli b (z_runS (As := [.int 0]) (st := []) b (c_X12_isOne_2 S ) cf_X12_isOne wm_X12_170 ws_X12_isOne dX12_kin_8 rfl (Nat.le_of_ble_eq_true rfl) ⟨by decide, by decide, by decide, by decide⟩) (fun r2790 u2791 h2789 => ?_)
  obtain ⟨rfl, rfl⟩ := h2789
  refine z_if_eq_f (tgt := 28) b dX12_kin_11 (by decide) (by decide) ?_
  refine z_iload_n b dX12_kin_14 rfl rfl ?_
  refine z_iload_n b dX12_kin_15 rfl rfl ?_
  refine z_icmp_eq_f (tgt := 28) b dX12_kin_16 (by decide) (by decide) ?_
  refine z_iload_n b dX12_kin_19 rfl rfl ?_
  refine z_iconst (v := 0) b dX12_kin_20 (by decide) ?_
  refine z_iconst (v := 1) b dX12_kin_21 (by decide) ?_
  refine z_calli b (z_runS (As := [.int 1, .int 0, .int 1]) (st := []) b (c_X12_isIn_10 S ) cf_X12_isIn wm_X12_1 ws_X12_isIn dX12_kin_22 rfl (Nat.le_of_ble_eq_true rfl) ⟨by decide, by decide, by decide, by decide⟩) (fun r2793 u2794 h2792 => ?_)
  obtain ⟨rfl, rfl⟩ := h2792
  refine z_if_ne_t (tgt := 30) b dX12_kin_25 (by decide) (by decide) ?_
  refine z_aload_n b dX12_kin_30 rfl rfl ?_
  refine z_aload_n b dX12_kin_31 rfl rfl ?_
  refine z_get (q0 := 0) (k9 := 6) (v := .long (fl S 0)) b (mw_0 cy a S) rfl in_X12 (by decide) wf_X12_153 rfl dX12_kin_32 ?_
  refine z_eql h_l_0 ?_
  refine z_callv b (z_runV (q0 := 0) (As := [.long 1649317774848]) (st := []) b (c_X12_takes S h_a_4_7 h_a_1_7 h_a_4_6 h_a_1_6 h_a_3_6 h_a_3_2 h_a_2_2 h_a_0_2 h_a_4_3 h_a_1_3 h_a_4_5 h_a_1_5 h_a_3_5 h_a_3_7 h_a_2_1 h_a_0_1 h_a_4_2 h_a_1_2 h_a_4_1 h_a_1_1 h_a_3_1 h_a_3_3 h_a_2_0 h_a_0_0 h_i_0) cf_X12_takes (mw_0 cy a S) rfl wm_X12_174 wi_X12_takes ws_X12_takes dX12_kin_35 rfl (Nat.le_of_ble_eq_true rfl) ⟨by decide, by decide, by decide, by decide⟩) (fun u2797 h2795 => ?_)
  obtain rfl := h2795
  refine z_iload_n b dX12_kin_38 rfl rfl ?_
  refine z_iconst (v := 1) b dX12_kin_39 (by decide) ?_
  refine z_icmp_ne_f (tgt := 58) b dX12_kin_40 (by decide) (by decide) ?_
  refine z_aload_n b dX12_kin_43 rfl rfl ?_
  refine z_get (q0 := 0) (k9 := 4) (v := .ref (a 5)) b (mw_0 cy a S) rfl in_X12 (by decide) wf_X12_27 rfl dX12_kin_44 ?_
  refine z_iconst (v := 3) b dX12_kin_47 (by decide) ?_
  refine z_iload_n b dX12_kin_48 rfl rfl ?_
  refine z_imul (v := 3) b dX12_kin_49 (by decide) ?_
  refine z_iload_n b dX12_kin_50 rfl rfl ?_
  refine z_iadd (v := 3) b dX12_kin_51 (by decide) ?_
  refine z_iload b dX12_kin_52 rfl ?_
  refine y_zast (q0 := 5) (j := 3) b (mw_5 cy a S) (by decide) (by decide) dX12_kin_54 (mwa_5 cy a S 3 1) ?_
  refine z_goto (tgt := 82) b dX12_kin_55 (by decide) ?_
  refine z_aload_n b dX12_kin_82 rfl rfl ?_
  refine z_calli b (z_runV (q0 := 0) (As := []) (st := []) b (c_X12_told_19 (su S 4 3 1) h_i_0 h_a_0_0 h_a_2_0 h_a_3_1 h_a_1_1 h_a_4_1 h_a_1_2 h_a_4_2 h_a_0_1 h_a_2_1 h_a_3_5 h_a_1_5 h_a_4_5 h_a_1_3 rfl h_a_0_2 h_a_2_2 h_a_3_6 h_a_1_6 h_a_4_6 h_a_1_7 h_a_4_7) cf_X12_told (mw_0 cy a (su S 4 3 1)) rfl wm_X12_178 wi_X12_told ws_X12_told dX12_kin_83 rfl (Nat.le_of_ble_eq_true rfl) ⟨by decide, by decide, by decide, by decide⟩) (fun r2847 u2848 h2846 => ?_)
  obtain ⟨rfl, rfl⟩ := h2846
  exact z_zret (u := (sl (su S 4 3 1) 0 1649317807616)) b rfl (by decide) dX12_kin_86 ⟨rfl, rfl⟩ rfl (by decide) (by decide)

set_option maxHeartbeats 4000000 in
set_option maxRecDepth 100000 in
theorem c_X11_kin_45 {l : Launch} {D : va_G} {cy : Nat → ClassId} {T0 tB tE : Nat} {a : Nat → Nat} {rw : Nat → Option Nat} (S : GS) (p0 : Int32)  (hr_p0 : 2 ≤ p0.toInt ∧ p0.toInt ≤ 2147483647) : Ct l D cy T0 tB tE yX11_kin cX11_kin 6 (some .boolean) 2 41 0 0 (cw cy tE a rw S) [.ref (a 0), .int 1, .int 0, .int p0, .int 0] (QI D (U := GS) (fun r u => 0 = r ∧ S = u) (cw cy tE a rw)) := by
  refine Ct.ofZ RX11 "kin" [(0, .ref (a 0)), (1, .int 1), (2, .int 0), (3, .int p0), (4, .int 0)] rfl rfl rfl rfl (Nat.le_of_ble_eq_true rfl) ?_
  intro p e R s m args below meth c A b
  refine z_iload_n b dX11_kin_0 rfl rfl ?_
  refine z_iload_n b dX11_kin_1 rfl rfl ?_
  refine z_calli b (z_runS (As := [.int 1, .int 0]) (st := []) b (c_X11_arePair_10 S ) cf_X11_arePair wm_X11_84 ws_X11_arePair dX11_kin_2 rfl (Nat.le_of_ble_eq_true rfl) ⟨by decide, by decide, by decide, by decide⟩) (fun r2850 u2851 h2849 => ?_)
  obtain ⟨rfl, rfl⟩ := h2849
  refine z_if_eq_f (tgt := 16) b dX11_kin_5 (by decide) (by decide) ?_
  refine z_iload_n b dX11_kin_8 rfl rfl ?_
  refine z_iconst (v := 1) b dX11_kin_9 (by decide) ?_
  refine z_calli b (z_runS (As := [.int p0, .int 1]) (st := []) b (c_X11_isWithin_4 S p0 ) cf_X11_isWithin wm_X11_73 ws_X11_isWithin dX11_kin_10 rfl (Nat.le_of_ble_eq_true rfl) ⟨by decide, by decide, by decide, by decide⟩) (fun r2853 u2854 h2852 => ?_)
  rcases h2852 with ⟨c2855, rfl, rfl⟩ | ⟨c2856, rfl, rfl⟩
  · refine z_if_ne_f (tgt := 18) b dX11_kin_13 (by decide) (by decide) ?_
    refine z_iconst (v := 0) b dX11_kin_16 (by decide) ?_
    exact z_zret (u := S) b rfl (by decide) dX11_kin_17 ⟨rfl, rfl⟩ rfl (by decide) (by decide)
  · exfalso; omega

set_option maxHeartbeats 4000000 in
set_option maxRecDepth 100000 in
theorem c_X12_kin_45 {l : Launch} {D : va_G} {cy : Nat → ClassId} {T0 tB tE : Nat} {a : Nat → Nat} (S : GS) (p0 : Int32)  (hr_p0 : 2 ≤ p0.toInt ∧ p0.toInt ≤ 2147483647) : Ct l D cy T0 tB tE yX12_kin cX12_kin 5 (some .boolean) 2 42 0 0 (mw cy a S) [.ref (a 0), .int 1, .int 0, .int p0, .int 0] (QI D (U := GS) (fun r u => 0 = r ∧ S = u) (mw cy a)) := by
  refine Ct.ofZ RX12 "kin" [(0, .ref (a 0)), (1, .int 1), (2, .int 0), (3, .int p0), (4, .int 0)] rfl rfl rfl rfl (Nat.le_of_ble_eq_true rfl) ?_
  intro p e R s m args below meth c A b
  refine z_iload_n b dX12_kin_0 rfl rfl ?_
  refine z_calli b (z_runS (As := [.int 1]) (st := []) b (c_X12_isOne_3 S ) cf_X12_isOne wm_X12_170 ws_X12_isOne dX12_kin_1 rfl (Nat.le_of_ble_eq_true rfl) ⟨by decide, by decide, by decide, by decide⟩) (fun r2858 u2859 h2857 => ?_)
  obtain ⟨rfl, rfl⟩ := h2857
  refine z_if_eq_f (tgt := 28) b dX12_kin_4 (by decide) (by decide) ?_
  refine z_iload_n b dX12_kin_7 rfl rfl ?_
  refine z_calli b (z_runS (As := [.int 0]) (st := []) b (c_X12_isOne_2 S ) cf_X12_isOne wm_X12_170 ws_X12_isOne dX12_kin_8 rfl (Nat.le_of_ble_eq_true rfl) ⟨by decide, by decide, by decide, by decide⟩) (fun r2861 u2862 h2860 => ?_)
  obtain ⟨rfl, rfl⟩ := h2860
  refine z_if_eq_f (tgt := 28) b dX12_kin_11 (by decide) (by decide) ?_
  refine z_iload_n b dX12_kin_14 rfl rfl ?_
  refine z_iload_n b dX12_kin_15 rfl rfl ?_
  refine z_icmp_eq_f (tgt := 28) b dX12_kin_16 (by decide) (by decide) ?_
  refine z_iload_n b dX12_kin_19 rfl rfl ?_
  refine z_iconst (v := 0) b dX12_kin_20 (by decide) ?_
  refine z_iconst (v := 1) b dX12_kin_21 (by decide) ?_
  refine z_calli b (z_runS (As := [.int p0, .int 0, .int 1]) (st := []) b (c_X12_isIn_8 S p0 ) cf_X12_isIn wm_X12_1 ws_X12_isIn dX12_kin_22 rfl (Nat.le_of_ble_eq_true rfl) ⟨by decide, by decide, by decide, by decide⟩) (fun r2864 u2865 h2863 => ?_)
  rcases h2863 with ⟨c2866, rfl, rfl⟩ | ⟨c2867, rfl, rfl⟩
  · refine z_if_ne_f (tgt := 30) b dX12_kin_25 (by decide) (by decide) ?_
    refine z_iconst (v := 0) b dX12_kin_28 (by decide) ?_
    exact z_zret (u := S) b rfl (by decide) dX12_kin_29 ⟨rfl, rfl⟩ rfl (by decide) (by decide)
  · exfalso; omega

set_option maxHeartbeats 4000000 in
set_option maxRecDepth 100000 in
theorem c_X11_kin_46 {l : Launch} {D : va_G} {cy : Nat → ClassId} {T0 tB tE : Nat} {a : Nat → Nat} {rw : Nat → Option Nat} (S : GS) (p0 : Int32)  (hr_p0 : 2 ≤ p0.toInt ∧ p0.toInt ≤ 2147483647) : Ct l D cy T0 tB tE yX11_kin cX11_kin 6 (some .boolean) 2 41 0 0 (cw cy tE a rw S) [.ref (a 0), .int 1, .int 0, .int p0, .int 1] (QI D (U := GS) (fun r u => 0 = r ∧ S = u) (cw cy tE a rw)) := by
  refine Ct.ofZ RX11 "kin" [(0, .ref (a 0)), (1, .int 1), (2, .int 0), (3, .int p0), (4, .int 1)] rfl rfl rfl rfl (Nat.le_of_ble_eq_true rfl) ?_
  intro p e R s m args below meth c A b
  refine z_iload_n b dX11_kin_0 rfl rfl ?_
  refine z_iload_n b dX11_kin_1 rfl rfl ?_
  refine z_calli b (z_runS (As := [.int 1, .int 0]) (st := []) b (c_X11_arePair_10 S ) cf_X11_arePair wm_X11_84 ws_X11_arePair dX11_kin_2 rfl (Nat.le_of_ble_eq_true rfl) ⟨by decide, by decide, by decide, by decide⟩) (fun r2869 u2870 h2868 => ?_)
  obtain ⟨rfl, rfl⟩ := h2868
  refine z_if_eq_f (tgt := 16) b dX11_kin_5 (by decide) (by decide) ?_
  refine z_iload_n b dX11_kin_8 rfl rfl ?_
  refine z_iconst (v := 1) b dX11_kin_9 (by decide) ?_
  refine z_calli b (z_runS (As := [.int p0, .int 1]) (st := []) b (c_X11_isWithin_4 S p0 ) cf_X11_isWithin wm_X11_73 ws_X11_isWithin dX11_kin_10 rfl (Nat.le_of_ble_eq_true rfl) ⟨by decide, by decide, by decide, by decide⟩) (fun r2872 u2873 h2871 => ?_)
  rcases h2871 with ⟨c2874, rfl, rfl⟩ | ⟨c2875, rfl, rfl⟩
  · refine z_if_ne_f (tgt := 18) b dX11_kin_13 (by decide) (by decide) ?_
    refine z_iconst (v := 0) b dX11_kin_16 (by decide) ?_
    exact z_zret (u := S) b rfl (by decide) dX11_kin_17 ⟨rfl, rfl⟩ rfl (by decide) (by decide)
  · exfalso; omega

set_option maxHeartbeats 4000000 in
set_option maxRecDepth 100000 in
theorem c_X12_kin_46 {l : Launch} {D : va_G} {cy : Nat → ClassId} {T0 tB tE : Nat} {a : Nat → Nat} (S : GS) (p0 : Int32)  (hr_p0 : 2 ≤ p0.toInt ∧ p0.toInt ≤ 2147483647) : Ct l D cy T0 tB tE yX12_kin cX12_kin 5 (some .boolean) 2 42 0 0 (mw cy a S) [.ref (a 0), .int 1, .int 0, .int p0, .int 1] (QI D (U := GS) (fun r u => 0 = r ∧ S = u) (mw cy a)) := by
  refine Ct.ofZ RX12 "kin" [(0, .ref (a 0)), (1, .int 1), (2, .int 0), (3, .int p0), (4, .int 1)] rfl rfl rfl rfl (Nat.le_of_ble_eq_true rfl) ?_
  intro p e R s m args below meth c A b
  refine z_iload_n b dX12_kin_0 rfl rfl ?_
  refine z_calli b (z_runS (As := [.int 1]) (st := []) b (c_X12_isOne_3 S ) cf_X12_isOne wm_X12_170 ws_X12_isOne dX12_kin_1 rfl (Nat.le_of_ble_eq_true rfl) ⟨by decide, by decide, by decide, by decide⟩) (fun r2877 u2878 h2876 => ?_)
  obtain ⟨rfl, rfl⟩ := h2876
  refine z_if_eq_f (tgt := 28) b dX12_kin_4 (by decide) (by decide) ?_
  refine z_iload_n b dX12_kin_7 rfl rfl ?_
  refine z_calli b (z_runS (As := [.int 0]) (st := []) b (c_X12_isOne_2 S ) cf_X12_isOne wm_X12_170 ws_X12_isOne dX12_kin_8 rfl (Nat.le_of_ble_eq_true rfl) ⟨by decide, by decide, by decide, by decide⟩) (fun r2880 u2881 h2879 => ?_)
  obtain ⟨rfl, rfl⟩ := h2879
  refine z_if_eq_f (tgt := 28) b dX12_kin_11 (by decide) (by decide) ?_
  refine z_iload_n b dX12_kin_14 rfl rfl ?_
  refine z_iload_n b dX12_kin_15 rfl rfl ?_
  refine z_icmp_eq_f (tgt := 28) b dX12_kin_16 (by decide) (by decide) ?_
  refine z_iload_n b dX12_kin_19 rfl rfl ?_
  refine z_iconst (v := 0) b dX12_kin_20 (by decide) ?_
  refine z_iconst (v := 1) b dX12_kin_21 (by decide) ?_
  refine z_calli b (z_runS (As := [.int p0, .int 0, .int 1]) (st := []) b (c_X12_isIn_8 S p0 ) cf_X12_isIn wm_X12_1 ws_X12_isIn dX12_kin_22 rfl (Nat.le_of_ble_eq_true rfl) ⟨by decide, by decide, by decide, by decide⟩) (fun r2883 u2884 h2882 => ?_)
  rcases h2882 with ⟨c2885, rfl, rfl⟩ | ⟨c2886, rfl, rfl⟩
  · refine z_if_ne_f (tgt := 30) b dX12_kin_25 (by decide) (by decide) ?_
    refine z_iconst (v := 0) b dX12_kin_28 (by decide) ?_
    exact z_zret (u := S) b rfl (by decide) dX12_kin_29 ⟨rfl, rfl⟩ rfl (by decide) (by decide)
  · exfalso; omega

set_option maxHeartbeats 4000000 in
set_option maxRecDepth 100000 in
theorem c_X11_kin_47 {l : Launch} {D : va_G} {cy : Nat → ClassId} {T0 tB tE : Nat} {a : Nat → Nat} {rw : Nat → Option Nat} (S : GS) (p0 : Int32)  (hr_p0 : (-2147483648) ≤ p0.toInt ∧ p0.toInt ≤ (-1)) : Ct l D cy T0 tB tE yX11_kin cX11_kin 6 (some .boolean) 2 41 0 0 (cw cy tE a rw S) [.ref (a 0), .int 1, .int 2, .int p0, .int 0] (QI D (U := GS) (fun r u => 0 = r ∧ S = u) (cw cy tE a rw)) := by
  refine Ct.ofZ RX11 "kin" [(0, .ref (a 0)), (1, .int 1), (2, .int 2), (3, .int p0), (4, .int 0)] rfl rfl rfl rfl (Nat.le_of_ble_eq_true rfl) ?_
  intro p e R s m args below meth c A b
  refine z_iload_n b dX11_kin_0 rfl rfl ?_
  refine z_iload_n b dX11_kin_1 rfl rfl ?_
  refine z_calli b (z_runS (As := [.int 1, .int 2]) (st := []) b (c_X11_arePair_11 S ) cf_X11_arePair wm_X11_84 ws_X11_arePair dX11_kin_2 rfl (Nat.le_of_ble_eq_true rfl) ⟨by decide, by decide, by decide, by decide⟩) (fun r2888 u2889 h2887 => ?_)
  obtain ⟨rfl, rfl⟩ := h2887
  refine z_if_eq_f (tgt := 16) b dX11_kin_5 (by decide) (by decide) ?_
  refine z_iload_n b dX11_kin_8 rfl rfl ?_
  refine z_iconst (v := 1) b dX11_kin_9 (by decide) ?_
  refine z_calli b (z_runS (As := [.int p0, .int 1]) (st := []) b (c_X11_isWithin_4 S p0 ) cf_X11_isWithin wm_X11_73 ws_X11_isWithin dX11_kin_10 rfl (Nat.le_of_ble_eq_true rfl) ⟨by decide, by decide, by decide, by decide⟩) (fun r2891 u2892 h2890 => ?_)
  rcases h2890 with ⟨c2893, rfl, rfl⟩ | ⟨c2894, rfl, rfl⟩
  · refine z_if_ne_f (tgt := 18) b dX11_kin_13 (by decide) (by decide) ?_
    refine z_iconst (v := 0) b dX11_kin_16 (by decide) ?_
    exact z_zret (u := S) b rfl (by decide) dX11_kin_17 ⟨rfl, rfl⟩ rfl (by decide) (by decide)
  · exfalso; omega

set_option maxHeartbeats 4000000 in
set_option maxRecDepth 100000 in
theorem c_X12_kin_47 {l : Launch} {D : va_G} {cy : Nat → ClassId} {T0 tB tE : Nat} {a : Nat → Nat} (S : GS) (p0 : Int32)  (hr_p0 : (-2147483648) ≤ p0.toInt ∧ p0.toInt ≤ (-1)) : Ct l D cy T0 tB tE yX12_kin cX12_kin 5 (some .boolean) 2 42 0 0 (mw cy a S) [.ref (a 0), .int 1, .int 2, .int p0, .int 0] (QI D (U := GS) (fun r u => 0 = r ∧ S = u) (mw cy a)) := by
  refine Ct.ofZ RX12 "kin" [(0, .ref (a 0)), (1, .int 1), (2, .int 2), (3, .int p0), (4, .int 0)] rfl rfl rfl rfl (Nat.le_of_ble_eq_true rfl) ?_
  intro p e R s m args below meth c A b
  refine z_iload_n b dX12_kin_0 rfl rfl ?_
  refine z_calli b (z_runS (As := [.int 1]) (st := []) b (c_X12_isOne_3 S ) cf_X12_isOne wm_X12_170 ws_X12_isOne dX12_kin_1 rfl (Nat.le_of_ble_eq_true rfl) ⟨by decide, by decide, by decide, by decide⟩) (fun r2896 u2897 h2895 => ?_)
  obtain ⟨rfl, rfl⟩ := h2895
  refine z_if_eq_f (tgt := 28) b dX12_kin_4 (by decide) (by decide) ?_
  refine z_iload_n b dX12_kin_7 rfl rfl ?_
  refine z_calli b (z_runS (As := [.int 2]) (st := []) b (c_X12_isOne_4 S ) cf_X12_isOne wm_X12_170 ws_X12_isOne dX12_kin_8 rfl (Nat.le_of_ble_eq_true rfl) ⟨by decide, by decide, by decide, by decide⟩) (fun r2899 u2900 h2898 => ?_)
  obtain ⟨rfl, rfl⟩ := h2898
  refine z_if_eq_f (tgt := 28) b dX12_kin_11 (by decide) (by decide) ?_
  refine z_iload_n b dX12_kin_14 rfl rfl ?_
  refine z_iload_n b dX12_kin_15 rfl rfl ?_
  refine z_icmp_eq_f (tgt := 28) b dX12_kin_16 (by decide) (by decide) ?_
  refine z_iload_n b dX12_kin_19 rfl rfl ?_
  refine z_iconst (v := 0) b dX12_kin_20 (by decide) ?_
  refine z_iconst (v := 1) b dX12_kin_21 (by decide) ?_
  refine z_calli b (z_runS (As := [.int p0, .int 0, .int 1]) (st := []) b (c_X12_isIn_8 S p0 ) cf_X12_isIn wm_X12_1 ws_X12_isIn dX12_kin_22 rfl (Nat.le_of_ble_eq_true rfl) ⟨by decide, by decide, by decide, by decide⟩) (fun r2902 u2903 h2901 => ?_)
  rcases h2901 with ⟨c2904, rfl, rfl⟩ | ⟨c2905, rfl, rfl⟩
  · refine z_if_ne_f (tgt := 30) b dX12_kin_25 (by decide) (by decide) ?_
    refine z_iconst (v := 0) b dX12_kin_28 (by decide) ?_
    exact z_zret (u := S) b rfl (by decide) dX12_kin_29 ⟨rfl, rfl⟩ rfl (by decide) (by decide)
  · exfalso; omega

set_option maxHeartbeats 4000000 in
set_option maxRecDepth 100000 in
theorem c_X11_kin_48 {l : Launch} {D : va_G} {cy : Nat → ClassId} {T0 tB tE : Nat} {a : Nat → Nat} {rw : Nat → Option Nat} (S : GS) (p0 : Int32)  (hr_p0 : (-2147483648) ≤ p0.toInt ∧ p0.toInt ≤ (-1)) : Ct l D cy T0 tB tE yX11_kin cX11_kin 6 (some .boolean) 2 41 0 0 (cw cy tE a rw S) [.ref (a 0), .int 1, .int 2, .int p0, .int 1] (QI D (U := GS) (fun r u => 0 = r ∧ S = u) (cw cy tE a rw)) := by
  refine Ct.ofZ RX11 "kin" [(0, .ref (a 0)), (1, .int 1), (2, .int 2), (3, .int p0), (4, .int 1)] rfl rfl rfl rfl (Nat.le_of_ble_eq_true rfl) ?_
  intro p e R s m args below meth c A b
  refine z_iload_n b dX11_kin_0 rfl rfl ?_
  refine z_iload_n b dX11_kin_1 rfl rfl ?_
  refine z_calli b (z_runS (As := [.int 1, .int 2]) (st := []) b (c_X11_arePair_11 S ) cf_X11_arePair wm_X11_84 ws_X11_arePair dX11_kin_2 rfl (Nat.le_of_ble_eq_true rfl) ⟨by decide, by decide, by decide, by decide⟩) (fun r2907 u2908 h2906 => ?_)
  obtain ⟨rfl, rfl⟩ := h2906
  refine z_if_eq_f (tgt := 16) b dX11_kin_5 (by decide) (by decide) ?_
  refine z_iload_n b dX11_kin_8 rfl rfl ?_
  refine z_iconst (v := 1) b dX11_kin_9 (by decide) ?_
  refine z_calli b (z_runS (As := [.int p0, .int 1]) (st := []) b (c_X11_isWithin_4 S p0 ) cf_X11_isWithin wm_X11_73 ws_X11_isWithin dX11_kin_10 rfl (Nat.le_of_ble_eq_true rfl) ⟨by decide, by decide, by decide, by decide⟩) (fun r2910 u2911 h2909 => ?_)
  rcases h2909 with ⟨c2912, rfl, rfl⟩ | ⟨c2913, rfl, rfl⟩
  · refine z_if_ne_f (tgt := 18) b dX11_kin_13 (by decide) (by decide) ?_
    refine z_iconst (v := 0) b dX11_kin_16 (by decide) ?_
    exact z_zret (u := S) b rfl (by decide) dX11_kin_17 ⟨rfl, rfl⟩ rfl (by decide) (by decide)
  · exfalso; omega

set_option maxHeartbeats 4000000 in
set_option maxRecDepth 100000 in
theorem c_X12_kin_48 {l : Launch} {D : va_G} {cy : Nat → ClassId} {T0 tB tE : Nat} {a : Nat → Nat} (S : GS) (p0 : Int32)  (hr_p0 : (-2147483648) ≤ p0.toInt ∧ p0.toInt ≤ (-1)) : Ct l D cy T0 tB tE yX12_kin cX12_kin 5 (some .boolean) 2 42 0 0 (mw cy a S) [.ref (a 0), .int 1, .int 2, .int p0, .int 1] (QI D (U := GS) (fun r u => 0 = r ∧ S = u) (mw cy a)) := by
  refine Ct.ofZ RX12 "kin" [(0, .ref (a 0)), (1, .int 1), (2, .int 2), (3, .int p0), (4, .int 1)] rfl rfl rfl rfl (Nat.le_of_ble_eq_true rfl) ?_
  intro p e R s m args below meth c A b
  refine z_iload_n b dX12_kin_0 rfl rfl ?_
  refine z_calli b (z_runS (As := [.int 1]) (st := []) b (c_X12_isOne_3 S ) cf_X12_isOne wm_X12_170 ws_X12_isOne dX12_kin_1 rfl (Nat.le_of_ble_eq_true rfl) ⟨by decide, by decide, by decide, by decide⟩) (fun r2915 u2916 h2914 => ?_)
  obtain ⟨rfl, rfl⟩ := h2914
  refine z_if_eq_f (tgt := 28) b dX12_kin_4 (by decide) (by decide) ?_
  refine z_iload_n b dX12_kin_7 rfl rfl ?_
  refine z_calli b (z_runS (As := [.int 2]) (st := []) b (c_X12_isOne_4 S ) cf_X12_isOne wm_X12_170 ws_X12_isOne dX12_kin_8 rfl (Nat.le_of_ble_eq_true rfl) ⟨by decide, by decide, by decide, by decide⟩) (fun r2918 u2919 h2917 => ?_)
  obtain ⟨rfl, rfl⟩ := h2917
  refine z_if_eq_f (tgt := 28) b dX12_kin_11 (by decide) (by decide) ?_
  refine z_iload_n b dX12_kin_14 rfl rfl ?_
  refine z_iload_n b dX12_kin_15 rfl rfl ?_
  refine z_icmp_eq_f (tgt := 28) b dX12_kin_16 (by decide) (by decide) ?_
  refine z_iload_n b dX12_kin_19 rfl rfl ?_
  refine z_iconst (v := 0) b dX12_kin_20 (by decide) ?_
  refine z_iconst (v := 1) b dX12_kin_21 (by decide) ?_
  refine z_calli b (z_runS (As := [.int p0, .int 0, .int 1]) (st := []) b (c_X12_isIn_8 S p0 ) cf_X12_isIn wm_X12_1 ws_X12_isIn dX12_kin_22 rfl (Nat.le_of_ble_eq_true rfl) ⟨by decide, by decide, by decide, by decide⟩) (fun r2921 u2922 h2920 => ?_)
  rcases h2920 with ⟨c2923, rfl, rfl⟩ | ⟨c2924, rfl, rfl⟩
  · refine z_if_ne_f (tgt := 30) b dX12_kin_25 (by decide) (by decide) ?_
    refine z_iconst (v := 0) b dX12_kin_28 (by decide) ?_
    exact z_zret (u := S) b rfl (by decide) dX12_kin_29 ⟨rfl, rfl⟩ rfl (by decide) (by decide)
  · exfalso; omega

set_option maxHeartbeats 4000000 in
set_option maxRecDepth 100000 in
theorem c_X9_set_28 {l : Launch} {D : va_G} {cy : Nat → ClassId} {T0 tB tE : Nat} {a : Nat → Nat} {rw : Nat → Option Nat} (S : GS)  (h_a_4_25 : ar S 4 25 = 0) : Ct l D cy T0 tB tE yX9_set cX9_set 3 none 0 0 0 0 (cw cy tE a rw S) [.ref (a 14), .int 25, .int 0] (QV D (U := GS) (fun u => S = u) (cw cy tE a rw)) := by
  refine Ct.ofZ RX9 "set" [(0, .ref (a 14)), (1, .int 25), (2, .int 0)] rfl rfl rfl rfl (Nat.le_of_ble_eq_true rfl) ?_
  intro p e R s m args below meth c A b
  refine z_iload_n b dX9_set_0 rfl rfl ?_
  refine z_if_lt_f (tgt := 20) b dX9_set_1 (by decide) (by decide) ?_
  refine z_iload_n b dX9_set_4 rfl rfl ?_
  refine z_aload_n b dX9_set_5 rfl rfl ?_
  refine z_get (q0 := 14) (k9 := 0) (v := .ref (a 15)) b (cw_14 cy tE a rw S) rfl in_X9 (by decide) wf_X9_11 rfl dX9_set_6 ?_
  refine z_alen (q0 := 15) (t0 := 0) (v := 51) b (cw_15 cy tE a rw S) rfl rfl dX9_set_9 ?_
  refine z_icmp_ge_f (tgt := 20) b dX9_set_10 (by decide) (by decide) ?_
  refine z_aload_n b dX9_set_13 rfl rfl ?_
  refine z_get (q0 := 14) (k9 := 0) (v := .ref (a 15)) b (cw_14 cy tE a rw S) rfl in_X9 (by decide) wf_X9_11 rfl dX9_set_14 ?_
  refine z_iload_n b dX9_set_17 rfl rfl ?_
  refine z_iload_n b dX9_set_18 rfl rfl ?_
  refine y_iast (q0 := 15) (j := 25) b (cw_15 cy tE a rw S) (by decide) dX9_set_19 ((cwa_15 cy tE a rw S 25 0).trans (congrArg (cw cy tE a rw) (su_same h_a_4_25))) ?_
  exact z_vret (u := S) b rfl dX9_set_20 rfl rfl (by decide) (by decide)

set_option maxHeartbeats 4000000 in
set_option maxRecDepth 100000 in
theorem c_X9_set_29 {l : Launch} {D : va_G} {cy : Nat → ClassId} {T0 tB tE : Nat} {a : Nat → Nat} {rw : Nat → Option Nat} (S : GS)  (h_a_4_27 : ar S 4 27 = 0) : Ct l D cy T0 tB tE yX9_set cX9_set 3 none 0 0 0 0 (cw cy tE a rw S) [.ref (a 14), .int 27, .int 0] (QV D (U := GS) (fun u => S = u) (cw cy tE a rw)) := by
  refine Ct.ofZ RX9 "set" [(0, .ref (a 14)), (1, .int 27), (2, .int 0)] rfl rfl rfl rfl (Nat.le_of_ble_eq_true rfl) ?_
  intro p e R s m args below meth c A b
  refine z_iload_n b dX9_set_0 rfl rfl ?_
  refine z_if_lt_f (tgt := 20) b dX9_set_1 (by decide) (by decide) ?_
  refine z_iload_n b dX9_set_4 rfl rfl ?_
  refine z_aload_n b dX9_set_5 rfl rfl ?_
  refine z_get (q0 := 14) (k9 := 0) (v := .ref (a 15)) b (cw_14 cy tE a rw S) rfl in_X9 (by decide) wf_X9_11 rfl dX9_set_6 ?_
  refine z_alen (q0 := 15) (t0 := 0) (v := 51) b (cw_15 cy tE a rw S) rfl rfl dX9_set_9 ?_
  refine z_icmp_ge_f (tgt := 20) b dX9_set_10 (by decide) (by decide) ?_
  refine z_aload_n b dX9_set_13 rfl rfl ?_
  refine z_get (q0 := 14) (k9 := 0) (v := .ref (a 15)) b (cw_14 cy tE a rw S) rfl in_X9 (by decide) wf_X9_11 rfl dX9_set_14 ?_
  refine z_iload_n b dX9_set_17 rfl rfl ?_
  refine z_iload_n b dX9_set_18 rfl rfl ?_
  refine y_iast (q0 := 15) (j := 27) b (cw_15 cy tE a rw S) (by decide) dX9_set_19 ((cwa_15 cy tE a rw S 27 0).trans (congrArg (cw cy tE a rw) (su_same h_a_4_27))) ?_
  exact z_vret (u := S) b rfl dX9_set_20 rfl rfl (by decide) (by decide)

set_option maxHeartbeats 4000000 in
set_option maxRecDepth 100000 in
theorem c_X11_kin_49 {l : Launch} {D : va_G} {cy : Nat → ClassId} {T0 tB tE : Nat} {a : Nat → Nat} {rw : Nat → Option Nat} (S : GS)  (h_a_4_25 : ar S 4 25 = 0) (h_a_4_27 : ar S 4 27 = 0) (h_i_24 : fi S 24 = 0) : Ct l D cy T0 tB tE yX11_kin cX11_kin 6 (some .boolean) 2 41 0 0 (cw cy tE a rw S) [.ref (a 0), .int 1, .int 2, .int 0, .int 0] (QI D (U := GS) (fun r u => 1 = r ∧ S = u) (cw cy tE a rw)) := by
  refine Ct.ofZ RX11 "kin" [(0, .ref (a 0)), (1, .int 1), (2, .int 2), (3, .int 0), (4, .int 0)] rfl rfl rfl rfl (Nat.le_of_ble_eq_true rfl) ?_
  intro p e R s m args below meth c A b
  refine z_iload_n b dX11_kin_0 rfl rfl ?_
  refine z_iload_n b dX11_kin_1 rfl rfl ?_
  refine z_calli b (z_runS (As := [.int 1, .int 2]) (st := []) b (c_X11_arePair_11 S ) cf_X11_arePair wm_X11_84 ws_X11_arePair dX11_kin_2 rfl (Nat.le_of_ble_eq_true rfl) ⟨by decide, by decide, by decide, by decide⟩) (fun r2926 u2927 h2925 => ?_)
  obtain ⟨rfl, rfl⟩ := h2925
  refine z_if_eq_f (tgt := 16) b dX11_kin_5 (by decide) (by decide) ?_
  refine z_iload_n b dX11_kin_8 rfl rfl ?_
  refine z_iconst (v := 1) b dX11_kin_9 (by decide) ?_
  refine z_calli b (z_runS (As := [.int 0, .int 1]) (st := []) b (c_X11_isWithin_5 S ) cf_X11_isWithin wm_X11_73 ws_X11_isWithin dX11_kin_10 rfl (Nat.le_of_ble_eq_true rfl) ⟨by decide, by decide, by decide, by decide⟩) (fun r2929 u2930 h2928 => ?_)
  obtain ⟨rfl, rfl⟩ := h2928
  refine z_if_ne_t (tgt := 18) b dX11_kin_13 (by decide) (by decide) ?_
  refine z_iload b dX11_kin_18 rfl ?_
  refine z_if_eq_t (tgt := 27) b dX11_kin_20 (by decide) (by decide) ?_
  refine z_iconst (v := 0) b dX11_kin_27 (by decide) ?_
  refine z_istore (lv' := [(5, .int 0), (0, .ref (a 0)), (1, .int 1), (2, .int 2), (3, .int 0), (4, .int 0)]) b dX11_kin_28 (by decide) rfl ?_
  refine z_iload_n b dX11_kin_30 rfl rfl ?_
  refine z_if_ne_f (tgt := 71) b dX11_kin_31 (by decide) (by decide) ?_
  refine z_aload_n b dX11_kin_34 rfl rfl ?_
  refine z_get (q0 := 0) (k9 := 4) (v := .ref (a 14)) b (cw_0 cy tE a rw S) rfl in_X11 (by decide) wf_X11_34 rfl dX11_kin_35 ?_
  refine z_bipush (v := 20) b dX11_kin_38 (by decide) ?_
  refine z_iconst (v := 3) b dX11_kin_40 (by decide) ?_
  refine z_iload_n b dX11_kin_41 rfl rfl ?_
  refine z_imul (v := 3) b dX11_kin_42 (by decide) ?_
  refine z_iadd (v := 23) b dX11_kin_43 (by decide) ?_
  refine z_iload_n b dX11_kin_44 rfl rfl ?_
  refine z_iadd (v := 25) b dX11_kin_45 (by decide) ?_
  refine z_iload b dX11_kin_46 rfl ?_
  refine z_callv b (z_runV (q0 := 14) (As := [.int 25, .int 0]) (st := []) b (c_X9_set_28 S h_a_4_25) cf_X9_set (cw_14 cy tE a rw S) rfl wm_X11_77 wi_X9_set ws_X9_set dX11_kin_48 rfl (Nat.le_of_ble_eq_true rfl) ⟨by decide, by decide, by decide, by decide⟩) (fun u2933 h2931 => ?_)
  obtain rfl := h2931
  refine z_aload_n b dX11_kin_51 rfl rfl ?_
  refine z_get (q0 := 0) (k9 := 4) (v := .ref (a 14)) b (cw_0 cy tE a rw S) rfl in_X11 (by decide) wf_X11_34 rfl dX11_kin_52 ?_
  refine z_bipush (v := 20) b dX11_kin_55 (by decide) ?_
  refine z_iconst (v := 3) b dX11_kin_57 (by decide) ?_
  refine z_iload_n b dX11_kin_58 rfl rfl ?_
  refine z_imul (v := 6) b dX11_kin_59 (by decide) ?_
  refine z_iadd (v := 26) b dX11_kin_60 (by decide) ?_
  refine z_iload_n b dX11_kin_61 rfl rfl ?_
  refine z_iadd (v := 27) b dX11_kin_62 (by decide) ?_
  refine z_iload b dX11_kin_63 rfl ?_
  refine z_callv b (z_runV (q0 := 14) (As := [.int 27, .int 0]) (st := []) b (c_X9_set_29 S h_a_4_27) cf_X9_set (cw_14 cy tE a rw S) rfl wm_X11_77 wi_X9_set ws_X9_set dX11_kin_65 rfl (Nat.le_of_ble_eq_true rfl) ⟨by decide, by decide, by decide, by decide⟩) (fun u2936 h2934 => ?_)
  obtain rfl := h2934
  refine z_goto (tgt := 88) b dX11_kin_68 (by decide) ?_
  refine z_aload_n b dX11_kin_88 rfl rfl ?_
  refine z_get (q0 := 0) (k9 := 6) (v := .ref (a 25)) b (cw_0 cy tE a rw S) rfl in_X11 (by decide) wf_X11_52 rfl dX11_kin_89 ?_
  refine z_callv b (z_runV (q0 := 25) (As := []) (st := []) b (c_X8_forget S h_i_24) cf_X8_forget (cw_25 cy tE a rw S) rfl wm_X11_81 wi_X8_forget ws_X8_forget dX11_kin_92 rfl (Nat.le_of_ble_eq_true rfl) ⟨by decide, by decide, by decide, by decide⟩) (fun u2939 h2937 => ?_)
  obtain rfl := h2937
  refine z_iconst (v := 1) b dX11_kin_95 (by decide) ?_
  exact z_zret (u := S) b rfl (by decide) dX11_kin_96 ⟨rfl, rfl⟩ rfl (by decide) (by decide)

set_option maxHeartbeats 4000000 in
set_option maxRecDepth 100000 in
theorem c_X12_kin_49 {l : Launch} {D : va_G} {cy : Nat → ClassId} {T0 tB tE : Nat} {a : Nat → Nat} (S : GS)  (h_l_0 : fl S 0 = 1649317774848) (h_a_4_7 : ar S 4 7 = 0) (h_a_1_7 : ar S 1 7 = 0) (h_a_4_6 : ar S 4 6 = 0) (h_a_1_6 : ar S 1 6 = 0) (h_a_3_6 : ar S 3 6 = 0) (h_a_3_2 : ar S 3 2 = 0) (h_a_2_2 : ar S 2 2 = 3) (h_a_0_2 : ar S 0 2 = 0) (h_a_4_3 : ar S 4 3 = 0) (h_a_1_3 : ar S 1 3 = 0) (h_a_4_5 : ar S 4 5 = 0) (h_a_1_5 : ar S 1 5 = 0) (h_a_3_5 : ar S 3 5 = 0) (h_a_3_7 : ar S 3 7 = 0) (h_a_2_1 : ar S 2 1 = 3) (h_a_0_1 : ar S 0 1 = 0) (h_a_4_2 : ar S 4 2 = 0) (h_a_1_2 : ar S 1 2 = 0) (h_a_4_1 : ar S 4 1 = 0) (h_a_1_1 : ar S 1 1 = 0) (h_a_3_1 : ar S 3 1 = 0) (h_a_3_3 : ar S 3 3 = 0) (h_a_2_0 : ar S 2 0 = 3) (h_a_0_0 : ar S 0 0 = 0) (h_i_0 : fi S 0 = 0) : Ct l D cy T0 tB tE yX12_kin cX12_kin 5 (some .boolean) 3 65 0 0 (mw cy a S) [.ref (a 0), .int 1, .int 2, .int 0, .int 0] (QI D (U := GS) (fun r u => 1 = r ∧ S = u) (mw cy a)) := by
  refine Ct.ofZ RX12 "kin" [(0, .ref (a 0)), (1, .int 1), (2, .int 2), (3, .int 0), (4, .int 0)] rfl rfl rfl rfl (Nat.le_of_ble_eq_true rfl) ?_
  intro p e R s m args below meth c A b
  refine z_iload_n b dX12_kin_0 rfl rfl ?_
  refine z_calli b (z_runS (As := [.int 1]) (st := []) b (c_X12_isOne_3 S ) cf_X12_isOne wm_X12_170 ws_X12_isOne dX12_kin_1 rfl (Nat.le_of_ble_eq_true rfl) ⟨by decide, by decide, by decide, by decide⟩) (fun r2941 u2942 h2940 => ?_)
  obtain ⟨rfl, rfl⟩ := h2940
  refine z_if_eq_f (tgt := 28) b dX12_kin_4 (by decide) (by decide) ?_
  refine z_iload_n b dX12_kin_7 rfl rfl ?_
  refine z_calli b (z_runS (As := [.int 2]) (st := []) b (c_X12_isOne_4 S ) cf_X12_isOne wm_X12_170 ws_X12_isOne dX12_kin_8 rfl (Nat.le_of_ble_eq_true rfl) ⟨by decide, by decide, by decide, by decide⟩) (fun r2944 u2945 h2943 => ?_)
  obtain ⟨rfl, rfl⟩ := h2943
  refine z_if_eq_f (tgt := 28) b dX12_kin_11 (by decide) (by decide) ?_
  refine z_iload_n b dX12_kin_14 rfl rfl ?_
  refine z_iload_n b dX12_kin_15 rfl rfl ?_
  refine z_icmp_eq_f (tgt := 28) b dX12_kin_16 (by decide) (by decide) ?_
  refine z_iload_n b dX12_kin_19 rfl rfl ?_
  refine z_iconst (v := 0) b dX12_kin_20 (by decide) ?_
  refine z_iconst (v := 1) b dX12_kin_21 (by decide) ?_
  refine z_calli b (z_runS (As := [.int 0, .int 0, .int 1]) (st := []) b (c_X12_isIn_9 S ) cf_X12_isIn wm_X12_1 ws_X12_isIn dX12_kin_22 rfl (Nat.le_of_ble_eq_true rfl) ⟨by decide, by decide, by decide, by decide⟩) (fun r2947 u2948 h2946 => ?_)
  obtain ⟨rfl, rfl⟩ := h2946
  refine z_if_ne_t (tgt := 30) b dX12_kin_25 (by decide) (by decide) ?_
  refine z_aload_n b dX12_kin_30 rfl rfl ?_
  refine z_aload_n b dX12_kin_31 rfl rfl ?_
  refine z_get (q0 := 0) (k9 := 6) (v := .long (fl S 0)) b (mw_0 cy a S) rfl in_X12 (by decide) wf_X12_153 rfl dX12_kin_32 ?_
  refine z_eql h_l_0 ?_
  refine z_callv b (z_runV (q0 := 0) (As := [.long 1649317774848]) (st := []) b (c_X12_takes S h_a_4_7 h_a_1_7 h_a_4_6 h_a_1_6 h_a_3_6 h_a_3_2 h_a_2_2 h_a_0_2 h_a_4_3 h_a_1_3 h_a_4_5 h_a_1_5 h_a_3_5 h_a_3_7 h_a_2_1 h_a_0_1 h_a_4_2 h_a_1_2 h_a_4_1 h_a_1_1 h_a_3_1 h_a_3_3 h_a_2_0 h_a_0_0 h_i_0) cf_X12_takes (mw_0 cy a S) rfl wm_X12_174 wi_X12_takes ws_X12_takes dX12_kin_35 rfl (Nat.le_of_ble_eq_true rfl) ⟨by decide, by decide, by decide, by decide⟩) (fun u2951 h2949 => ?_)
  obtain rfl := h2949
  refine z_iload_n b dX12_kin_38 rfl rfl ?_
  refine z_iconst (v := 1) b dX12_kin_39 (by decide) ?_
  refine z_icmp_ne_t (tgt := 58) b dX12_kin_40 (by decide) (by decide) ?_
  refine z_aload_n b dX12_kin_58 rfl rfl ?_
  refine z_get (q0 := 0) (k9 := 3) (v := .ref (a 4)) b (mw_0 cy a S) rfl in_X12 (by decide) wf_X12_23 rfl dX12_kin_59 ?_
  refine z_iconst (v := 3) b dX12_kin_62 (by decide) ?_
  refine z_iload_n b dX12_kin_63 rfl rfl ?_
  refine z_imul (v := 3) b dX12_kin_64 (by decide) ?_
  refine z_iload_n b dX12_kin_65 rfl rfl ?_
  refine z_iadd (v := 5) b dX12_kin_66 (by decide) ?_
  refine z_iload b dX12_kin_67 rfl ?_
  refine y_zast (q0 := 4) (j := 5) b (mw_4 cy a S) (by decide) (by decide) dX12_kin_69 ((mwa_4 cy a S 5 0).trans (congrArg (mw cy a) (su_same h_a_3_5))) ?_
  refine z_aload_n b dX12_kin_70 rfl rfl ?_
  refine z_get (q0 := 0) (k9 := 3) (v := .ref (a 4)) b (mw_0 cy a S) rfl in_X12 (by decide) wf_X12_23 rfl dX12_kin_71 ?_
  refine z_iconst (v := 3) b dX12_kin_74 (by decide) ?_
  refine z_iload_n b dX12_kin_75 rfl rfl ?_
  refine z_imul (v := 6) b dX12_kin_76 (by decide) ?_
  refine z_iload_n b dX12_kin_77 rfl rfl ?_
  refine z_iadd (v := 7) b dX12_kin_78 (by decide) ?_
  refine z_iload b dX12_kin_79 rfl ?_
  refine y_zast (q0 := 4) (j := 7) b (mw_4 cy a S) (by decide) (by decide) dX12_kin_81 ((mwa_4 cy a S 7 0).trans (congrArg (mw cy a) (su_same h_a_3_7))) ?_
  refine z_aload_n b dX12_kin_82 rfl rfl ?_
  refine z_calli b (z_runV (q0 := 0) (As := []) (st := []) b (c_X12_told_14 S h_i_0 h_a_0_0 h_a_2_0 h_a_3_1 h_a_1_1 h_a_4_1 h_a_1_2 h_a_4_2 h_a_0_1 h_a_2_1 h_a_3_5 h_a_1_5 h_a_4_5 h_a_1_3 h_a_4_3 h_a_0_2 h_a_2_2 h_a_3_6 h_a_1_6 h_a_4_6 h_a_1_7 h_a_4_7 h_l_0) cf_X12_told (mw_0 cy a S) rfl wm_X12_178 wi_X12_told ws_X12_told dX12_kin_83 rfl (Nat.le_of_ble_eq_true rfl) ⟨by decide, by decide, by decide, by decide⟩) (fun r2953 u2954 h2952 => ?_)
  obtain ⟨rfl, rfl⟩ := h2952
  exact z_zret (u := S) b rfl (by decide) dX12_kin_86 ⟨rfl, rfl⟩ rfl (by decide) (by decide)

set_option maxHeartbeats 4000000 in
set_option maxRecDepth 100000 in
theorem c_X9_set_30 {l : Launch} {D : va_G} {cy : Nat → ClassId} {T0 tB tE : Nat} {a : Nat → Nat} {rw : Nat → Option Nat} (S : GS)   : Ct l D cy T0 tB tE yX9_set cX9_set 3 none 0 0 0 0 (cw cy tE a rw S) [.ref (a 14), .int 25, .int 1] (QV D (U := GS) (fun u => su S 4 25 1 = u) (cw cy tE a rw)) := by
  refine Ct.ofZ RX9 "set" [(0, .ref (a 14)), (1, .int 25), (2, .int 1)] rfl rfl rfl rfl (Nat.le_of_ble_eq_true rfl) ?_
  intro p e R s m args below meth c A b
  refine z_iload_n b dX9_set_0 rfl rfl ?_
  refine z_if_lt_f (tgt := 20) b dX9_set_1 (by decide) (by decide) ?_
  refine z_iload_n b dX9_set_4 rfl rfl ?_
  refine z_aload_n b dX9_set_5 rfl rfl ?_
  refine z_get (q0 := 14) (k9 := 0) (v := .ref (a 15)) b (cw_14 cy tE a rw S) rfl in_X9 (by decide) wf_X9_11 rfl dX9_set_6 ?_
  refine z_alen (q0 := 15) (t0 := 0) (v := 51) b (cw_15 cy tE a rw S) rfl rfl dX9_set_9 ?_
  refine z_icmp_ge_f (tgt := 20) b dX9_set_10 (by decide) (by decide) ?_
  refine z_aload_n b dX9_set_13 rfl rfl ?_
  refine z_get (q0 := 14) (k9 := 0) (v := .ref (a 15)) b (cw_14 cy tE a rw S) rfl in_X9 (by decide) wf_X9_11 rfl dX9_set_14 ?_
  refine z_iload_n b dX9_set_17 rfl rfl ?_
  refine z_iload_n b dX9_set_18 rfl rfl ?_
  refine y_iast (q0 := 15) (j := 25) b (cw_15 cy tE a rw S) (by decide) dX9_set_19 (cwa_15 cy tE a rw S 25 1) ?_
  exact z_vret (u := (su S 4 25 1)) b rfl dX9_set_20 rfl rfl (by decide) (by decide)

set_option maxHeartbeats 4000000 in
set_option maxRecDepth 100000 in
theorem c_X9_set_31 {l : Launch} {D : va_G} {cy : Nat → ClassId} {T0 tB tE : Nat} {a : Nat → Nat} {rw : Nat → Option Nat} (S : GS)   : Ct l D cy T0 tB tE yX9_set cX9_set 3 none 0 0 0 0 (cw cy tE a rw S) [.ref (a 14), .int 27, .int 1] (QV D (U := GS) (fun u => su S 4 27 1 = u) (cw cy tE a rw)) := by
  refine Ct.ofZ RX9 "set" [(0, .ref (a 14)), (1, .int 27), (2, .int 1)] rfl rfl rfl rfl (Nat.le_of_ble_eq_true rfl) ?_
  intro p e R s m args below meth c A b
  refine z_iload_n b dX9_set_0 rfl rfl ?_
  refine z_if_lt_f (tgt := 20) b dX9_set_1 (by decide) (by decide) ?_
  refine z_iload_n b dX9_set_4 rfl rfl ?_
  refine z_aload_n b dX9_set_5 rfl rfl ?_
  refine z_get (q0 := 14) (k9 := 0) (v := .ref (a 15)) b (cw_14 cy tE a rw S) rfl in_X9 (by decide) wf_X9_11 rfl dX9_set_6 ?_
  refine z_alen (q0 := 15) (t0 := 0) (v := 51) b (cw_15 cy tE a rw S) rfl rfl dX9_set_9 ?_
  refine z_icmp_ge_f (tgt := 20) b dX9_set_10 (by decide) (by decide) ?_
  refine z_aload_n b dX9_set_13 rfl rfl ?_
  refine z_get (q0 := 14) (k9 := 0) (v := .ref (a 15)) b (cw_14 cy tE a rw S) rfl in_X9 (by decide) wf_X9_11 rfl dX9_set_14 ?_
  refine z_iload_n b dX9_set_17 rfl rfl ?_
  refine z_iload_n b dX9_set_18 rfl rfl ?_
  refine y_iast (q0 := 15) (j := 27) b (cw_15 cy tE a rw S) (by decide) dX9_set_19 (cwa_15 cy tE a rw S 27 1) ?_
  exact z_vret (u := (su S 4 27 1)) b rfl dX9_set_20 rfl rfl (by decide) (by decide)

set_option maxHeartbeats 4000000 in
set_option maxRecDepth 100000 in
theorem c_X11_kin_50 {l : Launch} {D : va_G} {cy : Nat → ClassId} {T0 tB tE : Nat} {a : Nat → Nat} {rw : Nat → Option Nat} (S : GS)  (h_i_24 : fi S 24 = 0) : Ct l D cy T0 tB tE yX11_kin cX11_kin 6 (some .boolean) 2 41 0 0 (cw cy tE a rw S) [.ref (a 0), .int 1, .int 2, .int 0, .int 1] (QI D (U := GS) (fun r u => 1 = r ∧ (su (su S 4 25 1) 4 27 1) = u) (cw cy tE a rw)) := by
  refine Ct.ofZ RX11 "kin" [(0, .ref (a 0)), (1, .int 1), (2, .int 2), (3, .int 0), (4, .int 1)] rfl rfl rfl rfl (Nat.le_of_ble_eq_true rfl) ?_
  intro p e R s m args below meth c A b
  refine z_iload_n b dX11_kin_0 rfl rfl ?_
  refine z_iload_n b dX11_kin_1 rfl rfl ?_
  refine z_calli b (z_runS (As := [.int 1, .int 2]) (st := []) b (c_X11_arePair_11 S ) cf_X11_arePair wm_X11_84 ws_X11_arePair dX11_kin_2 rfl (Nat.le_of_ble_eq_true rfl) ⟨by decide, by decide, by decide, by decide⟩) (fun r2956 u2957 h2955 => ?_)
  obtain ⟨rfl, rfl⟩ := h2955
  refine z_if_eq_f (tgt := 16) b dX11_kin_5 (by decide) (by decide) ?_
  refine z_iload_n b dX11_kin_8 rfl rfl ?_
  refine z_iconst (v := 1) b dX11_kin_9 (by decide) ?_
  refine z_calli b (z_runS (As := [.int 0, .int 1]) (st := []) b (c_X11_isWithin_5 S ) cf_X11_isWithin wm_X11_73 ws_X11_isWithin dX11_kin_10 rfl (Nat.le_of_ble_eq_true rfl) ⟨by decide, by decide, by decide, by decide⟩) (fun r2959 u2960 h2958 => ?_)
  obtain ⟨rfl, rfl⟩ := h2958
  refine z_if_ne_t (tgt := 18) b dX11_kin_13 (by decide) (by decide) ?_
  refine z_iload b dX11_kin_18 rfl ?_
  refine z_if_eq_f (tgt := 27) b dX11_kin_20 (by decide) (by decide) ?_
  refine z_iconst (v := 1) b dX11_kin_23 (by decide) ?_
  refine z_goto (tgt := 28) b dX11_kin_24 (by decide) ?_
  refine z_istore (lv' := [(5, .int 1), (0, .ref (a 0)), (1, .int 1), (2, .int 2), (3, .int 0), (4, .int 1)]) b dX11_kin_28 (by decide) rfl ?_
  refine z_iload_n b dX11_kin_30 rfl rfl ?_
  refine z_if_ne_f (tgt := 71) b dX11_kin_31 (by decide) (by decide) ?_
  refine z_aload_n b dX11_kin_34 rfl rfl ?_
  refine z_get (q0 := 0) (k9 := 4) (v := .ref (a 14)) b (cw_0 cy tE a rw S) rfl in_X11 (by decide) wf_X11_34 rfl dX11_kin_35 ?_
  refine z_bipush (v := 20) b dX11_kin_38 (by decide) ?_
  refine z_iconst (v := 3) b dX11_kin_40 (by decide) ?_
  refine z_iload_n b dX11_kin_41 rfl rfl ?_
  refine z_imul (v := 3) b dX11_kin_42 (by decide) ?_
  refine z_iadd (v := 23) b dX11_kin_43 (by decide) ?_
  refine z_iload_n b dX11_kin_44 rfl rfl ?_
  refine z_iadd (v := 25) b dX11_kin_45 (by decide) ?_
  refine z_iload b dX11_kin_46 rfl ?_
  refine z_callv b (z_runV (q0 := 14) (As := [.int 25, .int 1]) (st := []) b (c_X9_set_30 S ) cf_X9_set (cw_14 cy tE a rw S) rfl wm_X11_77 wi_X9_set ws_X9_set dX11_kin_48 rfl (Nat.le_of_ble_eq_true rfl) ⟨by decide, by decide, by decide, by decide⟩) (fun u2963 h2961 => ?_)
  obtain rfl := h2961
  refine z_aload_n b dX11_kin_51 rfl rfl ?_
  refine z_get (q0 := 0) (k9 := 4) (v := .ref (a 14)) b (cw_0 cy tE a rw (su S 4 25 1)) rfl in_X11 (by decide) wf_X11_34 rfl dX11_kin_52 ?_
  refine z_bipush (v := 20) b dX11_kin_55 (by decide) ?_
  refine z_iconst (v := 3) b dX11_kin_57 (by decide) ?_
  refine z_iload_n b dX11_kin_58 rfl rfl ?_
  refine z_imul (v := 6) b dX11_kin_59 (by decide) ?_
  refine z_iadd (v := 26) b dX11_kin_60 (by decide) ?_
  refine z_iload_n b dX11_kin_61 rfl rfl ?_
  refine z_iadd (v := 27) b dX11_kin_62 (by decide) ?_
  refine z_iload b dX11_kin_63 rfl ?_
  refine z_callv b (z_runV (q0 := 14) (As := [.int 27, .int 1]) (st := []) b (c_X9_set_31 (su S 4 25 1) ) cf_X9_set (cw_14 cy tE a rw (su S 4 25 1)) rfl wm_X11_77 wi_X9_set ws_X9_set dX11_kin_65 rfl (Nat.le_of_ble_eq_true rfl) ⟨by decide, by decide, by decide, by decide⟩) (fun u2966 h2964 => ?_)
  obtain rfl := h2964
  refine z_goto (tgt := 88) b dX11_kin_68 (by decide) ?_
  refine z_aload_n b dX11_kin_88 rfl rfl ?_
  refine z_get (q0 := 0) (k9 := 6) (v := .ref (a 25)) b (cw_0 cy tE a rw (su (su S 4 25 1) 4 27 1)) rfl in_X11 (by decide) wf_X11_52 rfl dX11_kin_89 ?_
  refine z_callv b (z_runV (q0 := 25) (As := []) (st := []) b (c_X8_forget (su (su S 4 25 1) 4 27 1) h_i_24) cf_X8_forget (cw_25 cy tE a rw (su (su S 4 25 1) 4 27 1)) rfl wm_X11_81 wi_X8_forget ws_X8_forget dX11_kin_92 rfl (Nat.le_of_ble_eq_true rfl) ⟨by decide, by decide, by decide, by decide⟩) (fun u2969 h2967 => ?_)
  obtain rfl := h2967
  refine z_iconst (v := 1) b dX11_kin_95 (by decide) ?_
  exact z_zret (u := (su (su S 4 25 1) 4 27 1)) b rfl (by decide) dX11_kin_96 ⟨rfl, rfl⟩ rfl (by decide) (by decide)

set_option maxHeartbeats 4000000 in
set_option maxRecDepth 100000 in
theorem ch_X12_packs_42 {p : Program} {l : Launch} {e : Env} {R : Room} {s : State} {m : MethodId} {args : Array Value} {below : List Frame} {meth : Method} {c : Code} {D : va_G} {cy : Nat → ClassId} {T0 tB tE : Nat} {A : Nat → Prop} {Q : State → Prop} {a : Nat → Nat} (S : GS)  (h_a_0_0 : ar S 0 0 = 0) (h_a_1_1 : ar S 1 1 = 0) (h_a_1_2 : ar S 1 2 = 0) (h_a_2_0 : ar S 2 0 = 3) (h_a_3_1 : ar S 3 1 = 0) (h_a_4_1 : ar S 4 1 = 0) (h_a_4_2 : ar S 4 2 = 0) (h_i_0 : fi S 0 = 0) (b : Bz p R s m args meth c D cy T0 tB tE A 5 cX12_packs RX12 (some .long) "packs" 1 21 0 0) (k : Z p l e R s m args below meth c D A 5 Q 0 0 (mw cy a S) [(3, .int 1), (4, .int 2), (1, .long 1536), (0, .ref (a 0))] 21 [.int 1, .ref (a 1), .long 24576]) : Z p l e R s m args below meth c D A 5 Q 0 0 (mw cy a S) [(0, .ref (a 0))] 0 [] := by
  refine z_aload_n b dX12_packs_0 rfl rfl ?_
  refine z_get (q0 := 0) (k9 := 5) (v := .int (fi S 0)) b (mw_0 cy a S) rfl in_X12 (by decide) wf_X12_157 rfl dX12_packs_1 ?_
  refine z_eqi h_i_0 ?_
  refine z_i2l (v := 0) b dX12_packs_4 (by decide) ?_
  refine z_lstore_n (lv' := [(1, .long 0), (0, .ref (a 0))]) b dX12_packs_5 rfl (by decide) rfl ?_
  refine z_iconst (v := 0) b dX12_packs_6 (by decide) ?_
  refine z_istore_n (lv' := [(3, .int 0), (1, .long 0), (0, .ref (a 0))]) b dX12_packs_7 rfl (by decide) rfl ?_
  refine z_iload_n b dX12_packs_8 rfl rfl ?_
  refine z_iconst (v := 3) b dX12_packs_9 (by decide) ?_
  refine z_icmp_ge_f (tgt := 134) b dX12_packs_10 (by decide) (by decide) ?_
  refine z_lload_n b dX12_packs_13 rfl rfl ?_
  refine z_iconst (v := 4) b dX12_packs_14 (by decide) ?_
  refine z_lshl (v := 0) b dX12_packs_15 (by decide) ?_
  refine z_aload_n b dX12_packs_16 rfl rfl ?_
  refine z_get (q0 := 0) (k9 := 0) (v := .ref (a 1)) b (mw_0 cy a S) rfl in_X12 (by decide) wf_X12_13 rfl dX12_packs_17 ?_
  refine z_iload_n b dX12_packs_20 rfl rfl ?_
  refine y_iald (q0 := 1) (j := 0) (v := (ar S 0 0)) b (mw_1 cy a S) (by decide) rfl dX12_packs_21 ?_
  refine z_eqi h_a_0_0 ?_
  refine z_i2l (v := 0) b dX12_packs_22 (by decide) ?_
  refine z_lor (v := 0) b dX12_packs_23 (by decide) ?_
  refine z_lstore_n (lv' := [(1, .long 0), (3, .int 0), (0, .ref (a 0))]) b dX12_packs_24 rfl (by decide) rfl ?_
  refine z_lload_n b dX12_packs_25 rfl rfl ?_
  refine z_iconst (v := 2) b dX12_packs_26 (by decide) ?_
  refine z_lshl (v := 0) b dX12_packs_27 (by decide) ?_
  refine z_aload_n b dX12_packs_28 rfl rfl ?_
  refine z_get (q0 := 0) (k9 := 2) (v := .ref (a 3)) b (mw_0 cy a S) rfl in_X12 (by decide) wf_X12_20 rfl dX12_packs_29 ?_
  refine z_iload_n b dX12_packs_32 rfl rfl ?_
  refine y_iald (q0 := 3) (j := 0) (v := (ar S 2 0)) b (mw_3 cy a S) (by decide) rfl dX12_packs_33 ?_
  refine z_eqi h_a_2_0 ?_
  refine z_i2l (v := 3) b dX12_packs_34 (by decide) ?_
  refine z_lor (v := 3) b dX12_packs_35 (by decide) ?_
  refine z_lstore_n (lv' := [(1, .long 3), (3, .int 0), (0, .ref (a 0))]) b dX12_packs_36 rfl (by decide) rfl ?_
  refine z_lload_n b dX12_packs_37 rfl rfl ?_
  refine z_iconst (v := 1) b dX12_packs_38 (by decide) ?_
  refine z_lshl (v := 6) b dX12_packs_39 (by decide) ?_
  refine z_aload_n b dX12_packs_40 rfl rfl ?_
  refine z_get (q0 := 0) (k9 := 3) (v := .ref (a 4)) b (mw_0 cy a S) rfl in_X12 (by decide) wf_X12_23 rfl dX12_packs_41 ?_
  refine z_iconst (v := 3) b dX12_packs_44 (by decide) ?_
  refine z_iload_n b dX12_packs_45 rfl rfl ?_
  refine z_imul (v := 0) b dX12_packs_46 (by decide) ?_
  refine z_iload_n b dX12_packs_47 rfl rfl ?_
  refine z_iconst (v := 0) b dX12_packs_48 (by decide) ?_
  refine z_calli b (z_runS (As := [.int 0, .int 0]) (st := [.int 0, .ref (a 4), .long 6]) b (c_X12_other_6 S ) cf_X12_other wm_X12_160 ws_X12_other dX12_packs_49 rfl (Nat.le_of_ble_eq_true rfl) ⟨by decide, by decide, by decide, by decide⟩) (fun r2983 u2984 h2982 => ?_)
  obtain ⟨rfl, rfl⟩ := h2982
  refine z_iadd (v := 1) b dX12_packs_52 (by decide) ?_
  refine y_zald (q0 := 4) (j := 1) (v := (ar S 3 1)) b (mw_4 cy a S) (by decide) rfl dX12_packs_53 ?_
  refine z_eqi h_a_3_1 ?_
  refine z_if_eq_t (tgt := 61) b dX12_packs_54 (by decide) (by decide) ?_
  refine z_lconst (v := 0) b dX12_packs_61 (by decide) ?_
  refine z_lor (v := 6) b dX12_packs_62 (by decide) ?_
  refine z_lstore_n (lv' := [(1, .long 6), (3, .int 0), (0, .ref (a 0))]) b dX12_packs_63 rfl (by decide) rfl ?_
  refine z_iconst (v := 0) b dX12_packs_64 (by decide) ?_
  refine z_istore (lv' := [(4, .int 0), (1, .long 6), (3, .int 0), (0, .ref (a 0))]) b dX12_packs_65 (by decide) rfl ?_
  refine z_iload b dX12_packs_67 rfl ?_
  refine z_iconst (v := 2) b dX12_packs_69 (by decide) ?_
  refine z_icmp_ge_f (tgt := 128) b dX12_packs_70 (by decide) (by decide) ?_
  refine z_lload_n b dX12_packs_73 rfl rfl ?_
  refine z_iconst (v := 3) b dX12_packs_74 (by decide) ?_
  refine z_lshl (v := 48) b dX12_packs_75 (by decide) ?_
  refine z_aload_n b dX12_packs_76 rfl rfl ?_
  refine z_get (q0 := 0) (k9 := 1) (v := .ref (a 2)) b (mw_0 cy a S) rfl in_X12 (by decide) wf_X12_17 rfl dX12_packs_77 ?_
  refine z_iconst (v := 3) b dX12_packs_80 (by decide) ?_
  refine z_iload_n b dX12_packs_81 rfl rfl ?_
  refine z_imul (v := 0) b dX12_packs_82 (by decide) ?_
  refine z_iload_n b dX12_packs_83 rfl rfl ?_
  refine z_iload b dX12_packs_84 rfl ?_
  refine z_calli b (z_runS (As := [.int 0, .int 0]) (st := [.int 0, .ref (a 2), .long 48]) b (c_X12_other_6 S ) cf_X12_other wm_X12_160 ws_X12_other dX12_packs_86 rfl (Nat.le_of_ble_eq_true rfl) ⟨by decide, by decide, by decide, by decide⟩) (fun r2986 u2987 h2985 => ?_)
  obtain ⟨rfl, rfl⟩ := h2985
  refine z_iadd (v := 1) b dX12_packs_89 (by decide) ?_
  refine y_iald (q0 := 2) (j := 1) (v := (ar S 1 1)) b (mw_2 cy a S) (by decide) rfl dX12_packs_90 ?_
  refine z_eqi h_a_1_1 ?_
  refine z_i2l (v := 0) b dX12_packs_91 (by decide) ?_
  refine z_lor (v := 48) b dX12_packs_92 (by decide) ?_
  refine z_lstore_n (lv' := [(1, .long 48), (4, .int 0), (3, .int 0), (0, .ref (a 0))]) b dX12_packs_93 rfl (by decide) rfl ?_
  refine z_lload_n b dX12_packs_94 rfl rfl ?_
  refine z_iconst (v := 1) b dX12_packs_95 (by decide) ?_
  refine z_lshl (v := 96) b dX12_packs_96 (by decide) ?_
  refine z_aload_n b dX12_packs_97 rfl rfl ?_
  refine z_get (q0 := 0) (k9 := 4) (v := .ref (a 5)) b (mw_0 cy a S) rfl in_X12 (by decide) wf_X12_27 rfl dX12_packs_98 ?_
  refine z_iconst (v := 3) b dX12_packs_101 (by decide) ?_
  refine z_iload_n b dX12_packs_102 rfl rfl ?_
  refine z_imul (v := 0) b dX12_packs_103 (by decide) ?_
  refine z_iload_n b dX12_packs_104 rfl rfl ?_
  refine z_iload b dX12_packs_105 rfl ?_
  refine z_calli b (z_runS (As := [.int 0, .int 0]) (st := [.int 0, .ref (a 5), .long 96]) b (c_X12_other_6 S ) cf_X12_other wm_X12_160 ws_X12_other dX12_packs_107 rfl (Nat.le_of_ble_eq_true rfl) ⟨by decide, by decide, by decide, by decide⟩) (fun r2989 u2990 h2988 => ?_)
  obtain ⟨rfl, rfl⟩ := h2988
  refine z_iadd (v := 1) b dX12_packs_110 (by decide) ?_
  refine y_zald (q0 := 5) (j := 1) (v := (ar S 4 1)) b (mw_5 cy a S) (by decide) rfl dX12_packs_111 ?_
  refine z_eqi h_a_4_1 ?_
  refine z_if_eq_t (tgt := 119) b dX12_packs_112 (by decide) (by decide) ?_
  refine z_lconst (v := 0) b dX12_packs_119 (by decide) ?_
  refine z_lor (v := 96) b dX12_packs_120 (by decide) ?_
  refine z_lstore_n (lv' := [(1, .long 96), (4, .int 0), (3, .int 0), (0, .ref (a 0))]) b dX12_packs_121 rfl (by decide) rfl ?_
  refine z_iinc (k9 := 1) (v := 1) (lv' := [(4, .int 1), (1, .long 96), (3, .int 0), (0, .ref (a 0))]) b dX12_packs_122 rfl (by decide) (by decide) rfl ?_
  refine z_goto (tgt := 67) b dX12_packs_125 (by decide) ?_
  refine z_iload b dX12_packs_67 rfl ?_
  refine z_iconst (v := 2) b dX12_packs_69 (by decide) ?_
  refine z_icmp_ge_f (tgt := 128) b dX12_packs_70 (by decide) (by decide) ?_
  refine z_lload_n b dX12_packs_73 rfl rfl ?_
  refine z_iconst (v := 3) b dX12_packs_74 (by decide) ?_
  refine z_lshl (v := 768) b dX12_packs_75 (by decide) ?_
  refine z_aload_n b dX12_packs_76 rfl rfl ?_
  refine z_get (q0 := 0) (k9 := 1) (v := .ref (a 2)) b (mw_0 cy a S) rfl in_X12 (by decide) wf_X12_17 rfl dX12_packs_77 ?_
  refine z_iconst (v := 3) b dX12_packs_80 (by decide) ?_
  refine z_iload_n b dX12_packs_81 rfl rfl ?_
  refine z_imul (v := 0) b dX12_packs_82 (by decide) ?_
  refine z_iload_n b dX12_packs_83 rfl rfl ?_
  refine z_iload b dX12_packs_84 rfl ?_
  refine z_calli b (z_runS (As := [.int 0, .int 1]) (st := [.int 0, .ref (a 2), .long 768]) b (c_X12_other_5 S ) cf_X12_other wm_X12_160 ws_X12_other dX12_packs_86 rfl (Nat.le_of_ble_eq_true rfl) ⟨by decide, by decide, by decide, by decide⟩) (fun r2992 u2993 h2991 => ?_)
  obtain ⟨rfl, rfl⟩ := h2991
  refine z_iadd (v := 2) b dX12_packs_89 (by decide) ?_
  refine y_iald (q0 := 2) (j := 2) (v := (ar S 1 2)) b (mw_2 cy a S) (by decide) rfl dX12_packs_90 ?_
  refine z_eqi h_a_1_2 ?_
  refine z_i2l (v := 0) b dX12_packs_91 (by decide) ?_
  refine z_lor (v := 768) b dX12_packs_92 (by decide) ?_
  refine z_lstore_n (lv' := [(1, .long 768), (4, .int 1), (3, .int 0), (0, .ref (a 0))]) b dX12_packs_93 rfl (by decide) rfl ?_
  refine z_lload_n b dX12_packs_94 rfl rfl ?_
  refine z_iconst (v := 1) b dX12_packs_95 (by decide) ?_
  refine z_lshl (v := 1536) b dX12_packs_96 (by decide) ?_
  refine z_aload_n b dX12_packs_97 rfl rfl ?_
  refine z_get (q0 := 0) (k9 := 4) (v := .ref (a 5)) b (mw_0 cy a S) rfl in_X12 (by decide) wf_X12_27 rfl dX12_packs_98 ?_
  refine z_iconst (v := 3) b dX12_packs_101 (by decide) ?_
  refine z_iload_n b dX12_packs_102 rfl rfl ?_
  refine z_imul (v := 0) b dX12_packs_103 (by decide) ?_
  refine z_iload_n b dX12_packs_104 rfl rfl ?_
  refine z_iload b dX12_packs_105 rfl ?_
  refine z_calli b (z_runS (As := [.int 0, .int 1]) (st := [.int 0, .ref (a 5), .long 1536]) b (c_X12_other_5 S ) cf_X12_other wm_X12_160 ws_X12_other dX12_packs_107 rfl (Nat.le_of_ble_eq_true rfl) ⟨by decide, by decide, by decide, by decide⟩) (fun r2995 u2996 h2994 => ?_)
  obtain ⟨rfl, rfl⟩ := h2994
  refine z_iadd (v := 2) b dX12_packs_110 (by decide) ?_
  refine y_zald (q0 := 5) (j := 2) (v := (ar S 4 2)) b (mw_5 cy a S) (by decide) rfl dX12_packs_111 ?_
  refine z_eqi h_a_4_2 ?_
  refine z_if_eq_t (tgt := 119) b dX12_packs_112 (by decide) (by decide) ?_
  refine z_lconst (v := 0) b dX12_packs_119 (by decide) ?_
  refine z_lor (v := 1536) b dX12_packs_120 (by decide) ?_
  refine z_lstore_n (lv' := [(1, .long 1536), (4, .int 1), (3, .int 0), (0, .ref (a 0))]) b dX12_packs_121 rfl (by decide) rfl ?_
  refine z_iinc (k9 := 1) (v := 2) (lv' := [(4, .int 2), (1, .long 1536), (3, .int 0), (0, .ref (a 0))]) b dX12_packs_122 rfl (by decide) (by decide) rfl ?_
  refine z_goto (tgt := 67) b dX12_packs_125 (by decide) ?_
  refine z_iload b dX12_packs_67 rfl ?_
  refine z_iconst (v := 2) b dX12_packs_69 (by decide) ?_
  refine z_icmp_ge_t (tgt := 128) b dX12_packs_70 (by decide) (by decide) ?_
  refine z_iinc (k9 := 2) (v := 1) (lv' := [(3, .int 1), (4, .int 2), (1, .long 1536), (0, .ref (a 0))]) b dX12_packs_128 rfl (by decide) (by decide) rfl ?_
  refine z_goto (tgt := 8) b dX12_packs_131 (by decide) ?_
  refine z_iload_n b dX12_packs_8 rfl rfl ?_
  refine z_iconst (v := 3) b dX12_packs_9 (by decide) ?_
  refine z_icmp_ge_f (tgt := 134) b dX12_packs_10 (by decide) (by decide) ?_
  refine z_lload_n b dX12_packs_13 rfl rfl ?_
  refine z_iconst (v := 4) b dX12_packs_14 (by decide) ?_
  refine z_lshl (v := 24576) b dX12_packs_15 (by decide) ?_
  refine z_aload_n b dX12_packs_16 rfl rfl ?_
  refine z_get (q0 := 0) (k9 := 0) (v := .ref (a 1)) b (mw_0 cy a S) rfl in_X12 (by decide) wf_X12_13 rfl dX12_packs_17 ?_
  refine z_iload_n b dX12_packs_20 rfl rfl ?_
  exact k

set_option maxHeartbeats 4000000 in
set_option maxRecDepth 100000 in
theorem ch_X12_packs_43 {p : Program} {l : Launch} {e : Env} {R : Room} {s : State} {m : MethodId} {args : Array Value} {below : List Frame} {meth : Method} {c : Code} {D : va_G} {cy : Nat → ClassId} {T0 tB tE : Nat} {A : Nat → Prop} {Q : State → Prop} {a : Nat → Nat} (S : GS)  (h_a_0_1 : ar S 0 1 = 0) (h_a_0_2 : ar S 0 2 = 0) (h_a_1_3 : ar S 1 3 = 0) (h_a_1_5 : ar S 1 5 = 0) (h_a_2_1 : ar S 2 1 = 3) (h_a_2_2 : ar S 2 2 = 3) (h_a_3_5 : ar S 3 5 = 1) (h_a_4_3 : ar S 4 3 = 0) (h_a_4_5 : ar S 4 5 = 0) (b : Bz p R s m args meth c D cy T0 tB tE A 5 cX12_packs RX12 (some .long) "packs" 1 21 0 0) (k : Z p l e R s m args below meth c D A 5 Q 0 0 (mw cy a S) [(1, .long 805335040), (3, .int 2), (4, .int 2), (0, .ref (a 0))] 36 [.long 3221340163]) : Z p l e R s m args below meth c D A 5 Q 0 0 (mw cy a S) [(3, .int 1), (4, .int 2), (1, .long 1536), (0, .ref (a 0))] 21 [.int 1, .ref (a 1), .long 24576] := by
  refine y_iald (q0 := 1) (j := 1) (v := (ar S 0 1)) b (mw_1 cy a S) (by decide) rfl dX12_packs_21 ?_
  refine z_eqi h_a_0_1 ?_
  refine z_i2l (v := 0) b dX12_packs_22 (by decide) ?_
  refine z_lor (v := 24576) b dX12_packs_23 (by decide) ?_
  refine z_lstore_n (lv' := [(1, .long 24576), (3, .int 1), (4, .int 2), (0, .ref (a 0))]) b dX12_packs_24 rfl (by decide) rfl ?_
  refine z_lload_n b dX12_packs_25 rfl rfl ?_
  refine z_iconst (v := 2) b dX12_packs_26 (by decide) ?_
  refine z_lshl (v := 98304) b dX12_packs_27 (by decide) ?_
  refine z_aload_n b dX12_packs_28 rfl rfl ?_
  refine z_get (q0 := 0) (k9 := 2) (v := .ref (a 3)) b (mw_0 cy a S) rfl in_X12 (by decide) wf_X12_20 rfl dX12_packs_29 ?_
  refine z_iload_n b dX12_packs_32 rfl rfl ?_
  refine y_iald (q0 := 3) (j := 1) (v := (ar S 2 1)) b (mw_3 cy a S) (by decide) rfl dX12_packs_33 ?_
  refine z_eqi h_a_2_1 ?_
  refine z_i2l (v := 3) b dX12_packs_34 (by decide) ?_
  refine z_lor (v := 98307) b dX12_packs_35 (by decide) ?_
  refine z_lstore_n (lv' := [(1, .long 98307), (3, .int 1), (4, .int 2), (0, .ref (a 0))]) b dX12_packs_36 rfl (by decide) rfl ?_
  refine z_lload_n b dX12_packs_37 rfl rfl ?_
  refine z_iconst (v := 1) b dX12_packs_38 (by decide) ?_
  refine z_lshl (v := 196614) b dX12_packs_39 (by decide) ?_
  refine z_aload_n b dX12_packs_40 rfl rfl ?_
  refine z_get (q0 := 0) (k9 := 3) (v := .ref (a 4)) b (mw_0 cy a S) rfl in_X12 (by decide) wf_X12_23 rfl dX12_packs_41 ?_
  refine z_iconst (v := 3) b dX12_packs_44 (by decide) ?_
  refine z_iload_n b dX12_packs_45 rfl rfl ?_
  refine z_imul (v := 3) b dX12_packs_46 (by decide) ?_
  refine z_iload_n b dX12_packs_47 rfl rfl ?_
  refine z_iconst (v := 0) b dX12_packs_48 (by decide) ?_
  refine z_calli b (z_runS (As := [.int 1, .int 0]) (st := [.int 3, .ref (a 4), .long 196614]) b (c_X12_other_4 S ) cf_X12_other wm_X12_160 ws_X12_other dX12_packs_49 rfl (Nat.le_of_ble_eq_true rfl) ⟨by decide, by decide, by decide, by decide⟩) (fun r2998 u2999 h2997 => ?_)
  obtain ⟨rfl, rfl⟩ := h2997
  refine z_iadd (v := 5) b dX12_packs_52 (by decide) ?_
  refine y_zald (q0 := 4) (j := 5) (v := (ar S 3 5)) b (mw_4 cy a S) (by decide) rfl dX12_packs_53 ?_
  refine z_eqi h_a_3_5 ?_
  refine z_if_eq_f (tgt := 61) b dX12_packs_54 (by decide) (by decide) ?_
  refine z_lconst (v := 1) b dX12_packs_57 (by decide) ?_
  refine z_goto (tgt := 62) b dX12_packs_58 (by decide) ?_
  refine z_lor (v := 196615) b dX12_packs_62 (by decide) ?_
  refine z_lstore_n (lv' := [(1, .long 196615), (3, .int 1), (4, .int 2), (0, .ref (a 0))]) b dX12_packs_63 rfl (by decide) rfl ?_
  refine z_iconst (v := 0) b dX12_packs_64 (by decide) ?_
  refine z_istore (lv' := [(4, .int 0), (1, .long 196615), (3, .int 1), (0, .ref (a 0))]) b dX12_packs_65 (by decide) rfl ?_
  refine z_iload b dX12_packs_67 rfl ?_
  refine z_iconst (v := 2) b dX12_packs_69 (by decide) ?_
  refine z_icmp_ge_f (tgt := 128) b dX12_packs_70 (by decide) (by decide) ?_
  refine z_lload_n b dX12_packs_73 rfl rfl ?_
  refine z_iconst (v := 3) b dX12_packs_74 (by decide) ?_
  refine z_lshl (v := 1572920) b dX12_packs_75 (by decide) ?_
  refine z_aload_n b dX12_packs_76 rfl rfl ?_
  refine z_get (q0 := 0) (k9 := 1) (v := .ref (a 2)) b (mw_0 cy a S) rfl in_X12 (by decide) wf_X12_17 rfl dX12_packs_77 ?_
  refine z_iconst (v := 3) b dX12_packs_80 (by decide) ?_
  refine z_iload_n b dX12_packs_81 rfl rfl ?_
  refine z_imul (v := 3) b dX12_packs_82 (by decide) ?_
  refine z_iload_n b dX12_packs_83 rfl rfl ?_
  refine z_iload b dX12_packs_84 rfl ?_
  refine z_calli b (z_runS (As := [.int 1, .int 0]) (st := [.int 3, .ref (a 2), .long 1572920]) b (c_X12_other_4 S ) cf_X12_other wm_X12_160 ws_X12_other dX12_packs_86 rfl (Nat.le_of_ble_eq_true rfl) ⟨by decide, by decide, by decide, by decide⟩) (fun r3001 u3002 h3000 => ?_)
  obtain ⟨rfl, rfl⟩ := h3000
  refine z_iadd (v := 5) b dX12_packs_89 (by decide) ?_
  refine y_iald (q0 := 2) (j := 5) (v := (ar S 1 5)) b (mw_2 cy a S) (by decide) rfl dX12_packs_90 ?_
  refine z_eqi h_a_1_5 ?_
  refine z_i2l (v := 0) b dX12_packs_91 (by decide) ?_
  refine z_lor (v := 1572920) b dX12_packs_92 (by decide) ?_
  refine z_lstore_n (lv' := [(1, .long 1572920), (4, .int 0), (3, .int 1), (0, .ref (a 0))]) b dX12_packs_93 rfl (by decide) rfl ?_
  refine z_lload_n b dX12_packs_94 rfl rfl ?_
  refine z_iconst (v := 1) b dX12_packs_95 (by decide) ?_
  refine z_lshl (v := 3145840) b dX12_packs_96 (by decide) ?_
  refine z_aload_n b dX12_packs_97 rfl rfl ?_
  refine z_get (q0 := 0) (k9 := 4) (v := .ref (a 5)) b (mw_0 cy a S) rfl in_X12 (by decide) wf_X12_27 rfl dX12_packs_98 ?_
  refine z_iconst (v := 3) b dX12_packs_101 (by decide) ?_
  refine z_iload_n b dX12_packs_102 rfl rfl ?_
  refine z_imul (v := 3) b dX12_packs_103 (by decide) ?_
  refine z_iload_n b dX12_packs_104 rfl rfl ?_
  refine z_iload b dX12_packs_105 rfl ?_
  refine z_calli b (z_runS (As := [.int 1, .int 0]) (st := [.int 3, .ref (a 5), .long 3145840]) b (c_X12_other_4 S ) cf_X12_other wm_X12_160 ws_X12_other dX12_packs_107 rfl (Nat.le_of_ble_eq_true rfl) ⟨by decide, by decide, by decide, by decide⟩) (fun r3004 u3005 h3003 => ?_)
  obtain ⟨rfl, rfl⟩ := h3003
  refine z_iadd (v := 5) b dX12_packs_110 (by decide) ?_
  refine y_zald (q0 := 5) (j := 5) (v := (ar S 4 5)) b (mw_5 cy a S) (by decide) rfl dX12_packs_111 ?_
  refine z_eqi h_a_4_5 ?_
  refine z_if_eq_t (tgt := 119) b dX12_packs_112 (by decide) (by decide) ?_
  refine z_lconst (v := 0) b dX12_packs_119 (by decide) ?_
  refine z_lor (v := 3145840) b dX12_packs_120 (by decide) ?_
  refine z_lstore_n (lv' := [(1, .long 3145840), (4, .int 0), (3, .int 1), (0, .ref (a 0))]) b dX12_packs_121 rfl (by decide) rfl ?_
  refine z_iinc (k9 := 1) (v := 1) (lv' := [(4, .int 1), (1, .long 3145840), (3, .int 1), (0, .ref (a 0))]) b dX12_packs_122 rfl (by decide) (by decide) rfl ?_
  refine z_goto (tgt := 67) b dX12_packs_125 (by decide) ?_
  refine z_iload b dX12_packs_67 rfl ?_
  refine z_iconst (v := 2) b dX12_packs_69 (by decide) ?_
  refine z_icmp_ge_f (tgt := 128) b dX12_packs_70 (by decide) (by decide) ?_
  refine z_lload_n b dX12_packs_73 rfl rfl ?_
  refine z_iconst (v := 3) b dX12_packs_74 (by decide) ?_
  refine z_lshl (v := 25166720) b dX12_packs_75 (by decide) ?_
  refine z_aload_n b dX12_packs_76 rfl rfl ?_
  refine z_get (q0 := 0) (k9 := 1) (v := .ref (a 2)) b (mw_0 cy a S) rfl in_X12 (by decide) wf_X12_17 rfl dX12_packs_77 ?_
  refine z_iconst (v := 3) b dX12_packs_80 (by decide) ?_
  refine z_iload_n b dX12_packs_81 rfl rfl ?_
  refine z_imul (v := 3) b dX12_packs_82 (by decide) ?_
  refine z_iload_n b dX12_packs_83 rfl rfl ?_
  refine z_iload b dX12_packs_84 rfl ?_
  refine z_calli b (z_runS (As := [.int 1, .int 1]) (st := [.int 3, .ref (a 2), .long 25166720]) b (c_X12_other_3 S ) cf_X12_other wm_X12_160 ws_X12_other dX12_packs_86 rfl (Nat.le_of_ble_eq_true rfl) ⟨by decide, by decide, by decide, by decide⟩) (fun r3007 u3008 h3006 => ?_)
  obtain ⟨rfl, rfl⟩ := h3006
  refine z_iadd (v := 3) b dX12_packs_89 (by decide) ?_
  refine y_iald (q0 := 2) (j := 3) (v := (ar S 1 3)) b (mw_2 cy a S) (by decide) rfl dX12_packs_90 ?_
  refine z_eqi h_a_1_3 ?_
  refine z_i2l (v := 0) b dX12_packs_91 (by decide) ?_
  refine z_lor (v := 25166720) b dX12_packs_92 (by decide) ?_
  refine z_lstore_n (lv' := [(1, .long 25166720), (4, .int 1), (3, .int 1), (0, .ref (a 0))]) b dX12_packs_93 rfl (by decide) rfl ?_
  refine z_lload_n b dX12_packs_94 rfl rfl ?_
  refine z_iconst (v := 1) b dX12_packs_95 (by decide) ?_
  refine z_lshl (v := 50333440) b dX12_packs_96 (by decide) ?_
  refine z_aload_n b dX12_packs_97 rfl rfl ?_
  refine z_get (q0 := 0) (k9 := 4) (v := .ref (a 5)) b (mw_0 cy a S) rfl in_X12 (by decide) wf_X12_27 rfl dX12_packs_98 ?_
  refine z_iconst (v := 3) b dX12_packs_101 (by decide) ?_
  refine z_iload_n b dX12_packs_102 rfl rfl ?_
  refine z_imul (v := 3) b dX12_packs_103 (by decide) ?_
  refine z_iload_n b dX12_packs_104 rfl rfl ?_
  refine z_iload b dX12_packs_105 rfl ?_
  refine z_calli b (z_runS (As := [.int 1, .int 1]) (st := [.int 3, .ref (a 5), .long 50333440]) b (c_X12_other_3 S ) cf_X12_other wm_X12_160 ws_X12_other dX12_packs_107 rfl (Nat.le_of_ble_eq_true rfl) ⟨by decide, by decide, by decide, by decide⟩) (fun r3010 u3011 h3009 => ?_)
  obtain ⟨rfl, rfl⟩ := h3009
  refine z_iadd (v := 3) b dX12_packs_110 (by decide) ?_
  refine y_zald (q0 := 5) (j := 3) (v := (ar S 4 3)) b (mw_5 cy a S) (by decide) rfl dX12_packs_111 ?_
  refine z_eqi h_a_4_3 ?_
  refine z_if_eq_t (tgt := 119) b dX12_packs_112 (by decide) (by decide) ?_
  refine z_lconst (v := 0) b dX12_packs_119 (by decide) ?_
  refine z_lor (v := 50333440) b dX12_packs_120 (by decide) ?_
  refine z_lstore_n (lv' := [(1, .long 50333440), (4, .int 1), (3, .int 1), (0, .ref (a 0))]) b dX12_packs_121 rfl (by decide) rfl ?_
  refine z_iinc (k9 := 1) (v := 2) (lv' := [(4, .int 2), (1, .long 50333440), (3, .int 1), (0, .ref (a 0))]) b dX12_packs_122 rfl (by decide) (by decide) rfl ?_
  refine z_goto (tgt := 67) b dX12_packs_125 (by decide) ?_
  refine z_iload b dX12_packs_67 rfl ?_
  refine z_iconst (v := 2) b dX12_packs_69 (by decide) ?_
  refine z_icmp_ge_t (tgt := 128) b dX12_packs_70 (by decide) (by decide) ?_
  refine z_iinc (k9 := 2) (v := 2) (lv' := [(3, .int 2), (4, .int 2), (1, .long 50333440), (0, .ref (a 0))]) b dX12_packs_128 rfl (by decide) (by decide) rfl ?_
  refine z_goto (tgt := 8) b dX12_packs_131 (by decide) ?_
  refine z_iload_n b dX12_packs_8 rfl rfl ?_
  refine z_iconst (v := 3) b dX12_packs_9 (by decide) ?_
  refine z_icmp_ge_f (tgt := 134) b dX12_packs_10 (by decide) (by decide) ?_
  refine z_lload_n b dX12_packs_13 rfl rfl ?_
  refine z_iconst (v := 4) b dX12_packs_14 (by decide) ?_
  refine z_lshl (v := 805335040) b dX12_packs_15 (by decide) ?_
  refine z_aload_n b dX12_packs_16 rfl rfl ?_
  refine z_get (q0 := 0) (k9 := 0) (v := .ref (a 1)) b (mw_0 cy a S) rfl in_X12 (by decide) wf_X12_13 rfl dX12_packs_17 ?_
  refine z_iload_n b dX12_packs_20 rfl rfl ?_
  refine y_iald (q0 := 1) (j := 2) (v := (ar S 0 2)) b (mw_1 cy a S) (by decide) rfl dX12_packs_21 ?_
  refine z_eqi h_a_0_2 ?_
  refine z_i2l (v := 0) b dX12_packs_22 (by decide) ?_
  refine z_lor (v := 805335040) b dX12_packs_23 (by decide) ?_
  refine z_lstore_n (lv' := [(1, .long 805335040), (3, .int 2), (4, .int 2), (0, .ref (a 0))]) b dX12_packs_24 rfl (by decide) rfl ?_
  refine z_lload_n b dX12_packs_25 rfl rfl ?_
  refine z_iconst (v := 2) b dX12_packs_26 (by decide) ?_
  refine z_lshl (v := 3221340160) b dX12_packs_27 (by decide) ?_
  refine z_aload_n b dX12_packs_28 rfl rfl ?_
  refine z_get (q0 := 0) (k9 := 2) (v := .ref (a 3)) b (mw_0 cy a S) rfl in_X12 (by decide) wf_X12_20 rfl dX12_packs_29 ?_
  refine z_iload_n b dX12_packs_32 rfl rfl ?_
  refine y_iald (q0 := 3) (j := 2) (v := (ar S 2 2)) b (mw_3 cy a S) (by decide) rfl dX12_packs_33 ?_
  refine z_eqi h_a_2_2 ?_
  refine z_i2l (v := 3) b dX12_packs_34 (by decide) ?_
  refine z_lor (v := 3221340163) b dX12_packs_35 (by decide) ?_
  exact k

set_option maxHeartbeats 4000000 in
set_option maxRecDepth 100000 in
theorem c_X12_packs_20 {l : Launch} {D : va_G} {cy : Nat → ClassId} {T0 tB tE : Nat} {a : Nat → Nat} (S : GS)  (h_i_0 : fi S 0 = 0) (h_a_0_0 : ar S 0 0 = 0) (h_a_2_0 : ar S 2 0 = 3) (h_a_3_1 : ar S 3 1 = 0) (h_a_1_1 : ar S 1 1 = 0) (h_a_4_1 : ar S 4 1 = 0) (h_a_1_2 : ar S 1 2 = 0) (h_a_4_2 : ar S 4 2 = 0) (h_a_0_1 : ar S 0 1 = 0) (h_a_2_1 : ar S 2 1 = 3) (h_a_3_5 : ar S 3 5 = 1) (h_a_1_5 : ar S 1 5 = 0) (h_a_4_5 : ar S 4 5 = 0) (h_a_1_3 : ar S 1 3 = 0) (h_a_4_3 : ar S 4 3 = 0) (h_a_0_2 : ar S 0 2 = 0) (h_a_2_2 : ar S 2 2 = 3) (h_a_3_6 : ar S 3 6 = 0) (h_a_1_6 : ar S 1 6 = 0) (h_a_4_6 : ar S 4 6 = 0) (h_a_1_7 : ar S 1 7 = 0) (h_a_4_7 : ar S 4 7 = 0) : Ct l D cy T0 tB tE yX12_packs cX12_packs 5 (some .long) 1 21 0 0 (mw cy a S) [.ref (a 0)] (QL D (U := GS) (fun r u => 1649326163456 = r ∧ S = u) (mw cy a)) := by
  refine Ct.ofZ RX12 "packs" [(0, .ref (a 0))] rfl rfl rfl rfl (Nat.le_of_ble_eq_true rfl) ?_
  intro p e R s m args below meth c A b
  refine ch_X12_packs_42 S  h_a_0_0 h_a_1_1 h_a_1_2 h_a_2_0 h_a_3_1 h_a_4_1 h_a_4_2 h_i_0  b ?_
  refine ch_X12_packs_43 S  h_a_0_1 h_a_0_2 h_a_1_3 h_a_1_5 h_a_2_1 h_a_2_2 h_a_3_5 h_a_4_3 h_a_4_5  b ?_
  refine z_lstore_n (lv' := [(1, .long 3221340163), (3, .int 2), (4, .int 2), (0, .ref (a 0))]) b dX12_packs_36 rfl (by decide) rfl ?_
  refine z_lload_n b dX12_packs_37 rfl rfl ?_
  refine z_iconst (v := 1) b dX12_packs_38 (by decide) ?_
  refine z_lshl (v := 6442680326) b dX12_packs_39 (by decide) ?_
  refine z_aload_n b dX12_packs_40 rfl rfl ?_
  refine z_get (q0 := 0) (k9 := 3) (v := .ref (a 4)) b (mw_0 cy a S) rfl in_X12 (by decide) wf_X12_23 rfl dX12_packs_41 ?_
  refine z_iconst (v := 3) b dX12_packs_44 (by decide) ?_
  refine z_iload_n b dX12_packs_45 rfl rfl ?_
  refine z_imul (v := 6) b dX12_packs_46 (by decide) ?_
  refine z_iload_n b dX12_packs_47 rfl rfl ?_
  refine z_iconst (v := 0) b dX12_packs_48 (by decide) ?_
  refine z_calli b (z_runS (As := [.int 2, .int 0]) (st := [.int 6, .ref (a 4), .long 6442680326]) b (c_X12_other_2 S ) cf_X12_other wm_X12_160 ws_X12_other dX12_packs_49 rfl (Nat.le_of_ble_eq_true rfl) ⟨by decide, by decide, by decide, by decide⟩) (fun r3013 u3014 h3012 => ?_)
  obtain ⟨rfl, rfl⟩ := h3012
  refine z_iadd (v := 6) b dX12_packs_52 (by decide) ?_
  refine y_zald (q0 := 4) (j := 6) (v := (ar S 3 6)) b (mw_4 cy a S) (by decide) rfl dX12_packs_53 ?_
  refine z_eqi h_a_3_6 ?_
  refine z_if_eq_t (tgt := 61) b dX12_packs_54 (by decide) (by decide) ?_
  refine z_lconst (v := 0) b dX12_packs_61 (by decide) ?_
  refine z_lor (v := 6442680326) b dX12_packs_62 (by decide) ?_
  refine z_lstore_n (lv' := [(1, .long 6442680326), (3, .int 2), (4, .int 2), (0, .ref (a 0))]) b dX12_packs_63 rfl (by decide) rfl ?_
  refine z_iconst (v := 0) b dX12_packs_64 (by decide) ?_
  refine z_istore (lv' := [(4, .int 0), (1, .long 6442680326), (3, .int 2), (0, .ref (a 0))]) b dX12_packs_65 (by decide) rfl ?_
  refine z_iload b dX12_packs_67 rfl ?_
  refine z_iconst (v := 2) b dX12_packs_69 (by decide) ?_
  refine z_icmp_ge_f (tgt := 128) b dX12_packs_70 (by decide) (by decide) ?_
  refine z_lload_n b dX12_packs_73 rfl rfl ?_
  refine z_iconst (v := 3) b dX12_packs_74 (by decide) ?_
  refine z_lshl (v := 51541442608) b dX12_packs_75 (by decide) ?_
  refine z_aload_n b dX12_packs_76 rfl rfl ?_
  refine z_get (q0 := 0) (k9 := 1) (v := .ref (a 2)) b (mw_0 cy a S) rfl in_X12 (by decide) wf_X12_17 rfl dX12_packs_77 ?_
  refine z_iconst (v := 3) b dX12_packs_80 (by decide) ?_
  refine z_iload_n b dX12_packs_81 rfl rfl ?_
  refine z_imul (v := 6) b dX12_packs_82 (by decide) ?_
  refine z_iload_n b dX12_packs_83 rfl rfl ?_
  refine z_iload b dX12_packs_84 rfl ?_
  refine z_calli b (z_runS (As := [.int 2, .int 0]) (st := [.int 6, .ref (a 2), .long 51541442608]) b (c_X12_other_2 S ) cf_X12_other wm_X12_160 ws_X12_other dX12_packs_86 rfl (Nat.le_of_ble_eq_true rfl) ⟨by decide, by decide, by decide, by decide⟩) (fun r3016 u3017 h3015 => ?_)
  obtain ⟨rfl, rfl⟩ := h3015
  refine z_iadd (v := 6) b dX12_packs_89 (by decide) ?_
  refine y_iald (q0 := 2) (j := 6) (v := (ar S 1 6)) b (mw_2 cy a S) (by decide) rfl dX12_packs_90 ?_
  refine z_eqi h_a_1_6 ?_
  refine z_i2l (v := 0) b dX12_packs_91 (by decide) ?_
  refine z_lor (v := 51541442608) b dX12_packs_92 (by decide) ?_
  refine z_lstore_n (lv' := [(1, .long 51541442608), (4, .int 0), (3, .int 2), (0, .ref (a 0))]) b dX12_packs_93 rfl (by decide) rfl ?_
  refine z_lload_n b dX12_packs_94 rfl rfl ?_
  refine z_iconst (v := 1) b dX12_packs_95 (by decide) ?_
  refine z_lshl (v := 103082885216) b dX12_packs_96 (by decide) ?_
  refine z_aload_n b dX12_packs_97 rfl rfl ?_
  refine z_get (q0 := 0) (k9 := 4) (v := .ref (a 5)) b (mw_0 cy a S) rfl in_X12 (by decide) wf_X12_27 rfl dX12_packs_98 ?_
  refine z_iconst (v := 3) b dX12_packs_101 (by decide) ?_
  refine z_iload_n b dX12_packs_102 rfl rfl ?_
  refine z_imul (v := 6) b dX12_packs_103 (by decide) ?_
  refine z_iload_n b dX12_packs_104 rfl rfl ?_
  refine z_iload b dX12_packs_105 rfl ?_
  refine z_calli b (z_runS (As := [.int 2, .int 0]) (st := [.int 6, .ref (a 5), .long 103082885216]) b (c_X12_other_2 S ) cf_X12_other wm_X12_160 ws_X12_other dX12_packs_107 rfl (Nat.le_of_ble_eq_true rfl) ⟨by decide, by decide, by decide, by decide⟩) (fun r3019 u3020 h3018 => ?_)
  obtain ⟨rfl, rfl⟩ := h3018
  refine z_iadd (v := 6) b dX12_packs_110 (by decide) ?_
  refine y_zald (q0 := 5) (j := 6) (v := (ar S 4 6)) b (mw_5 cy a S) (by decide) rfl dX12_packs_111 ?_
  refine z_eqi h_a_4_6 ?_
  refine z_if_eq_t (tgt := 119) b dX12_packs_112 (by decide) (by decide) ?_
  refine z_lconst (v := 0) b dX12_packs_119 (by decide) ?_
  refine z_lor (v := 103082885216) b dX12_packs_120 (by decide) ?_
  refine z_lstore_n (lv' := [(1, .long 103082885216), (4, .int 0), (3, .int 2), (0, .ref (a 0))]) b dX12_packs_121 rfl (by decide) rfl ?_
  refine z_iinc (k9 := 1) (v := 1) (lv' := [(4, .int 1), (1, .long 103082885216), (3, .int 2), (0, .ref (a 0))]) b dX12_packs_122 rfl (by decide) (by decide) rfl ?_
  refine z_goto (tgt := 67) b dX12_packs_125 (by decide) ?_
  refine z_iload b dX12_packs_67 rfl ?_
  refine z_iconst (v := 2) b dX12_packs_69 (by decide) ?_
  refine z_icmp_ge_f (tgt := 128) b dX12_packs_70 (by decide) (by decide) ?_
  refine z_lload_n b dX12_packs_73 rfl rfl ?_
  refine z_iconst (v := 3) b dX12_packs_74 (by decide) ?_
  refine z_lshl (v := 824663081728) b dX12_packs_75 (by decide) ?_
  refine z_aload_n b dX12_packs_76 rfl rfl ?_
  refine z_get (q0 := 0) (k9 := 1) (v := .ref (a 2)) b (mw_0 cy a S) rfl in_X12 (by decide) wf_X12_17 rfl dX12_packs_77 ?_
  refine z_iconst (v := 3) b dX12_packs_80 (by decide) ?_
  refine z_iload_n b dX12_packs_81 rfl rfl ?_
  refine z_imul (v := 6) b dX12_packs_82 (by decide) ?_
  refine z_iload_n b dX12_packs_83 rfl rfl ?_
  refine z_iload b dX12_packs_84 rfl ?_
  refine z_calli b (z_runS (As := [.int 2, .int 1]) (st := [.int 6, .ref (a 2), .long 824663081728]) b (c_X12_other S ) cf_X12_other wm_X12_160 ws_X12_other dX12_packs_86 rfl (Nat.le_of_ble_eq_true rfl) ⟨by decide, by decide, by decide, by decide⟩) (fun r3022 u3023 h3021 => ?_)
  obtain ⟨rfl, rfl⟩ := h3021
  refine z_iadd (v := 7) b dX12_packs_89 (by decide) ?_
  refine y_iald (q0 := 2) (j := 7) (v := (ar S 1 7)) b (mw_2 cy a S) (by decide) rfl dX12_packs_90 ?_
  refine z_eqi h_a_1_7 ?_
  refine z_i2l (v := 0) b dX12_packs_91 (by decide) ?_
  refine z_lor (v := 824663081728) b dX12_packs_92 (by decide) ?_
  refine z_lstore_n (lv' := [(1, .long 824663081728), (4, .int 1), (3, .int 2), (0, .ref (a 0))]) b dX12_packs_93 rfl (by decide) rfl ?_
  refine z_lload_n b dX12_packs_94 rfl rfl ?_
  refine z_iconst (v := 1) b dX12_packs_95 (by decide) ?_
  refine z_lshl (v := 1649326163456) b dX12_packs_96 (by decide) ?_
  refine z_aload_n b dX12_packs_97 rfl rfl ?_
  refine z_get (q0 := 0) (k9 := 4) (v := .ref (a 5)) b (mw_0 cy a S) rfl in_X12 (by decide) wf_X12_27 rfl dX12_packs_98 ?_
  refine z_iconst (v := 3) b dX12_packs_101 (by decide) ?_
  refine z_iload_n b dX12_packs_102 rfl rfl ?_
  refine z_imul (v := 6) b dX12_packs_103 (by decide) ?_
  refine z_iload_n b dX12_packs_104 rfl rfl ?_
  refine z_iload b dX12_packs_105 rfl ?_
  refine z_calli b (z_runS (As := [.int 2, .int 1]) (st := [.int 6, .ref (a 5), .long 1649326163456]) b (c_X12_other S ) cf_X12_other wm_X12_160 ws_X12_other dX12_packs_107 rfl (Nat.le_of_ble_eq_true rfl) ⟨by decide, by decide, by decide, by decide⟩) (fun r3025 u3026 h3024 => ?_)
  obtain ⟨rfl, rfl⟩ := h3024
  refine z_iadd (v := 7) b dX12_packs_110 (by decide) ?_
  refine y_zald (q0 := 5) (j := 7) (v := (ar S 4 7)) b (mw_5 cy a S) (by decide) rfl dX12_packs_111 ?_
  refine z_eqi h_a_4_7 ?_
  refine z_if_eq_t (tgt := 119) b dX12_packs_112 (by decide) (by decide) ?_
  refine z_lconst (v := 0) b dX12_packs_119 (by decide) ?_
  refine z_lor (v := 1649326163456) b dX12_packs_120 (by decide) ?_
  refine z_lstore_n (lv' := [(1, .long 1649326163456), (4, .int 1), (3, .int 2), (0, .ref (a 0))]) b dX12_packs_121 rfl (by decide) rfl ?_
  refine z_iinc (k9 := 1) (v := 2) (lv' := [(4, .int 2), (1, .long 1649326163456), (3, .int 2), (0, .ref (a 0))]) b dX12_packs_122 rfl (by decide) (by decide) rfl ?_
  refine z_goto (tgt := 67) b dX12_packs_125 (by decide) ?_
  refine z_iload b dX12_packs_67 rfl ?_
  refine z_iconst (v := 2) b dX12_packs_69 (by decide) ?_
  refine z_icmp_ge_t (tgt := 128) b dX12_packs_70 (by decide) (by decide) ?_
  refine z_iinc (k9 := 2) (v := 3) (lv' := [(3, .int 3), (4, .int 2), (1, .long 1649326163456), (0, .ref (a 0))]) b dX12_packs_128 rfl (by decide) (by decide) rfl ?_
  refine z_goto (tgt := 8) b dX12_packs_131 (by decide) ?_
  refine z_iload_n b dX12_packs_8 rfl rfl ?_
  refine z_iconst (v := 3) b dX12_packs_9 (by decide) ?_
  refine z_icmp_ge_t (tgt := 134) b dX12_packs_10 (by decide) (by decide) ?_
  refine z_lload_n b dX12_packs_134 rfl rfl ?_
  exact z_lret (u := S) b rfl dX12_packs_135 ⟨rfl, rfl⟩ rfl (by decide) (by decide)

set_option maxHeartbeats 4000000 in
set_option maxRecDepth 100000 in
theorem c_X12_told_20 {l : Launch} {D : va_G} {cy : Nat → ClassId} {T0 tB tE : Nat} {a : Nat → Nat} (S : GS)  (h_i_0 : fi S 0 = 0) (h_a_0_0 : ar S 0 0 = 0) (h_a_2_0 : ar S 2 0 = 3) (h_a_3_1 : ar S 3 1 = 0) (h_a_1_1 : ar S 1 1 = 0) (h_a_4_1 : ar S 4 1 = 0) (h_a_1_2 : ar S 1 2 = 0) (h_a_4_2 : ar S 4 2 = 0) (h_a_0_1 : ar S 0 1 = 0) (h_a_2_1 : ar S 2 1 = 3) (h_a_3_5 : ar S 3 5 = 1) (h_a_1_5 : ar S 1 5 = 0) (h_a_4_5 : ar S 4 5 = 0) (h_a_1_3 : ar S 1 3 = 0) (h_a_4_3 : ar S 4 3 = 0) (h_a_0_2 : ar S 0 2 = 0) (h_a_2_2 : ar S 2 2 = 3) (h_a_3_6 : ar S 3 6 = 0) (h_a_1_6 : ar S 1 6 = 0) (h_a_4_6 : ar S 4 6 = 0) (h_a_1_7 : ar S 1 7 = 0) (h_a_4_7 : ar S 4 7 = 0) : Ct l D cy T0 tB tE yX12_told cX12_told 1 (some .boolean) 2 45 0 0 (mw cy a S) [.ref (a 0)] (QI D (U := GS) (fun r u => 1 = r ∧ sl S 0 1649326163456 = u) (mw cy a)) := by
  refine Ct.ofZ RX12 "told" [(0, .ref (a 0))] rfl rfl rfl rfl (Nat.le_of_ble_eq_true rfl) ?_
  intro p e R s m args below meth c A b
  refine z_aload_n b dX12_told_0 rfl rfl ?_
  refine z_aload_n b dX12_told_1 rfl rfl ?_
  refine z_calll b (z_runV (q0 := 0) (As := []) (st := [.ref (a 0)]) b (c_X12_packs_20 S h_i_0 h_a_0_0 h_a_2_0 h_a_3_1 h_a_1_1 h_a_4_1 h_a_1_2 h_a_4_2 h_a_0_1 h_a_2_1 h_a_3_5 h_a_1_5 h_a_4_5 h_a_1_3 h_a_4_3 h_a_0_2 h_a_2_2 h_a_3_6 h_a_1_6 h_a_4_6 h_a_1_7 h_a_4_7) cf_X12_packs (mw_0 cy a S) rfl wm_X12_149 wi_X12_packs ws_X12_packs dX12_told_2 rfl (Nat.le_of_ble_eq_true rfl) ⟨by decide, by decide, by decide, by decide⟩) (fun r3028 u3029 h3027 => ?_)
  obtain ⟨rfl, rfl⟩ := h3027
  refine z_put (q0 := 0) (k9 := 6) tyX12 b (mw_0 cy a S) rfl in_X12 tyX12_ok nmX12 (by decide) wf_X12_153 rfl rfl rfl rfl (Nat.le_of_ble_eq_true rfl) dX12_told_5 (mwp_0_6 cy a S 1649326163456) ?_
  refine z_iconst (v := 1) b dX12_told_8 (by decide) ?_
  exact z_zret (u := (sl S 0 1649326163456)) b rfl (by decide) dX12_told_9 ⟨rfl, rfl⟩ rfl (by decide) (by decide)

set_option maxHeartbeats 4000000 in
set_option maxRecDepth 100000 in
theorem c_X12_kin_50 {l : Launch} {D : va_G} {cy : Nat → ClassId} {T0 tB tE : Nat} {a : Nat → Nat} (S : GS)  (h_l_0 : fl S 0 = 1649317774848) (h_a_4_7 : ar S 4 7 = 0) (h_a_1_7 : ar S 1 7 = 0) (h_a_4_6 : ar S 4 6 = 0) (h_a_1_6 : ar S 1 6 = 0) (h_a_3_6 : ar S 3 6 = 0) (h_a_3_2 : ar S 3 2 = 0) (h_a_2_2 : ar S 2 2 = 3) (h_a_0_2 : ar S 0 2 = 0) (h_a_4_3 : ar S 4 3 = 0) (h_a_1_3 : ar S 1 3 = 0) (h_a_4_5 : ar S 4 5 = 0) (h_a_1_5 : ar S 1 5 = 0) (h_a_3_5 : ar S 3 5 = 0) (h_a_3_7 : ar S 3 7 = 0) (h_a_2_1 : ar S 2 1 = 3) (h_a_0_1 : ar S 0 1 = 0) (h_a_4_2 : ar S 4 2 = 0) (h_a_1_2 : ar S 1 2 = 0) (h_a_4_1 : ar S 4 1 = 0) (h_a_1_1 : ar S 1 1 = 0) (h_a_3_1 : ar S 3 1 = 0) (h_a_3_3 : ar S 3 3 = 0) (h_a_2_0 : ar S 2 0 = 3) (h_a_0_0 : ar S 0 0 = 0) (h_i_0 : fi S 0 = 0) : Ct l D cy T0 tB tE yX12_kin cX12_kin 5 (some .boolean) 3 65 0 0 (mw cy a S) [.ref (a 0), .int 1, .int 2, .int 0, .int 1] (QI D (U := GS) (fun r u => 1 = r ∧ sl (su (su S 3 5 1) 3 7 1) 0 1649326163456 = u) (mw cy a)) := by
  refine Ct.ofZ RX12 "kin" [(0, .ref (a 0)), (1, .int 1), (2, .int 2), (3, .int 0), (4, .int 1)] rfl rfl rfl rfl (Nat.le_of_ble_eq_true rfl) ?_
  intro p e R s m args below meth c A b
  refine z_iload_n b dX12_kin_0 rfl rfl ?_
  refine z_calli b (z_runS (As := [.int 1]) (st := []) b (c_X12_isOne_3 S ) cf_X12_isOne wm_X12_170 ws_X12_isOne dX12_kin_1 rfl (Nat.le_of_ble_eq_true rfl) ⟨by decide, by decide, by decide, by decide⟩) (fun r2971 u2972 h2970 => ?_)
  obtain ⟨rfl, rfl⟩ := h2970
  refine z_if_eq_f (tgt := 28) b dX12_kin_4 (by decide) (by decide) ?_
  refine z_iload_n b dX12_kin_7 rfl rfl ?_
  refine z_calli b (z_runS (As := [.int 2]) (st := []) b (c_X12_isOne_4 S ) cf_X12_isOne wm_X12_170 ws_X12_isOne dX12_kin_8 rfl (Nat.le_of_ble_eq_true rfl) ⟨by decide, by decide, by decide, by decide⟩) (fun r2974 u2975 h2973 => ?_)
  obtain ⟨rfl, rfl⟩ := h2973
  refine z_if_eq_f (tgt := 28) b dX12_kin_11 (by decide) (by decide) ?_
  refine z_iload_n b dX12_kin_14 rfl rfl ?_
  refine z_iload_n b dX12_kin_15 rfl rfl ?_
  refine z_icmp_eq_f (tgt := 28) b dX12_kin_16 (by decide) (by decide) ?_
  refine z_iload_n b dX12_kin_19 rfl rfl ?_
  refine z_iconst (v := 0) b dX12_kin_20 (by decide) ?_
  refine z_iconst (v := 1) b dX12_kin_21 (by decide) ?_
  refine z_calli b (z_runS (As := [.int 0, .int 0, .int 1]) (st := []) b (c_X12_isIn_9 S ) cf_X12_isIn wm_X12_1 ws_X12_isIn dX12_kin_22 rfl (Nat.le_of_ble_eq_true rfl) ⟨by decide, by decide, by decide, by decide⟩) (fun r2977 u2978 h2976 => ?_)
  obtain ⟨rfl, rfl⟩ := h2976
  refine z_if_ne_t (tgt := 30) b dX12_kin_25 (by decide) (by decide) ?_
  refine z_aload_n b dX12_kin_30 rfl rfl ?_
  refine z_aload_n b dX12_kin_31 rfl rfl ?_
  refine z_get (q0 := 0) (k9 := 6) (v := .long (fl S 0)) b (mw_0 cy a S) rfl in_X12 (by decide) wf_X12_153 rfl dX12_kin_32 ?_
  refine z_eql h_l_0 ?_
  refine z_callv b (z_runV (q0 := 0) (As := [.long 1649317774848]) (st := []) b (c_X12_takes S h_a_4_7 h_a_1_7 h_a_4_6 h_a_1_6 h_a_3_6 h_a_3_2 h_a_2_2 h_a_0_2 h_a_4_3 h_a_1_3 h_a_4_5 h_a_1_5 h_a_3_5 h_a_3_7 h_a_2_1 h_a_0_1 h_a_4_2 h_a_1_2 h_a_4_1 h_a_1_1 h_a_3_1 h_a_3_3 h_a_2_0 h_a_0_0 h_i_0) cf_X12_takes (mw_0 cy a S) rfl wm_X12_174 wi_X12_takes ws_X12_takes dX12_kin_35 rfl (Nat.le_of_ble_eq_true rfl) ⟨by decide, by decide, by decide, by decide⟩) (fun u2981 h2979 => ?_)
  obtain rfl := h2979
  refine z_iload_n b dX12_kin_38 rfl rfl ?_
  refine z_iconst (v := 1) b dX12_kin_39 (by decide) ?_
  refine z_icmp_ne_t (tgt := 58) b dX12_kin_40 (by decide) (by decide) ?_
  refine z_aload_n b dX12_kin_58 rfl rfl ?_
  refine z_get (q0 := 0) (k9 := 3) (v := .ref (a 4)) b (mw_0 cy a S) rfl in_X12 (by decide) wf_X12_23 rfl dX12_kin_59 ?_
  refine z_iconst (v := 3) b dX12_kin_62 (by decide) ?_
  refine z_iload_n b dX12_kin_63 rfl rfl ?_
  refine z_imul (v := 3) b dX12_kin_64 (by decide) ?_
  refine z_iload_n b dX12_kin_65 rfl rfl ?_
  refine z_iadd (v := 5) b dX12_kin_66 (by decide) ?_
  refine z_iload b dX12_kin_67 rfl ?_
  refine y_zast (q0 := 4) (j := 5) b (mw_4 cy a S) (by decide) (by decide) dX12_kin_69 (mwa_4 cy a S 5 1) ?_
  refine z_aload_n b dX12_kin_70 rfl rfl ?_
  refine z_get (q0 := 0) (k9 := 3) (v := .ref (a 4)) b (mw_0 cy a (su S 3 5 1)) rfl in_X12 (by decide) wf_X12_23 rfl dX12_kin_71 ?_
  refine z_iconst (v := 3) b dX12_kin_74 (by decide) ?_
  refine z_iload_n b dX12_kin_75 rfl rfl ?_
  refine z_imul (v := 6) b dX12_kin_76 (by decide) ?_
  refine z_iload_n b dX12_kin_77 rfl rfl ?_
  refine z_iadd (v := 7) b dX12_kin_78 (by decide) ?_
  refine z_iload b dX12_kin_79 rfl ?_
  refine y_zast (q0 := 4) (j := 7) b (mw_4 cy a (su S 3 5 1)) (by decide) (by decide) dX12_kin_81 (mwa_4 cy a (su S 3 5 1) 7 1) ?_
  refine z_aload_n b dX12_kin_82 rfl rfl ?_
  refine z_calli b (z_runV (q0 := 0) (As := []) (st := []) b (c_X12_told_20 (su (su S 3 5 1) 3 7 1) h_i_0 h_a_0_0 h_a_2_0 h_a_3_1 h_a_1_1 h_a_4_1 h_a_1_2 h_a_4_2 h_a_0_1 h_a_2_1 rfl h_a_1_5 h_a_4_5 h_a_1_3 h_a_4_3 h_a_0_2 h_a_2_2 h_a_3_6 h_a_1_6 h_a_4_6 h_a_1_7 h_a_4_7) cf_X12_told (mw_0 cy a (su (su S 3 5 1) 3 7 1)) rfl wm_X12_178 wi_X12_told ws_X12_told dX12_kin_83 rfl (Nat.le_of_ble_eq_true rfl) ⟨by decide, by decide, by decide, by decide⟩) (fun r3031 u3032 h3030 => ?_)
  obtain ⟨rfl, rfl⟩ := h3030
  exact z_zret (u := (sl (su (su S 3 5 1) 3 7 1) 0 1649326163456)) b rfl (by decide) dX12_kin_86 ⟨rfl, rfl⟩ rfl (by decide) (by decide)

set_option maxHeartbeats 4000000 in
set_option maxRecDepth 100000 in
theorem c_X9_set_32 {l : Launch} {D : va_G} {cy : Nat → ClassId} {T0 tB tE : Nat} {a : Nat → Nat} {rw : Nat → Option Nat} (S : GS)  (h_a_4_35 : ar S 4 35 = 0) : Ct l D cy T0 tB tE yX9_set cX9_set 3 none 0 0 0 0 (cw cy tE a rw S) [.ref (a 14), .int 35, .int 0] (QV D (U := GS) (fun u => S = u) (cw cy tE a rw)) := by
  refine Ct.ofZ RX9 "set" [(0, .ref (a 14)), (1, .int 35), (2, .int 0)] rfl rfl rfl rfl (Nat.le_of_ble_eq_true rfl) ?_
  intro p e R s m args below meth c A b
  refine z_iload_n b dX9_set_0 rfl rfl ?_
  refine z_if_lt_f (tgt := 20) b dX9_set_1 (by decide) (by decide) ?_
  refine z_iload_n b dX9_set_4 rfl rfl ?_
  refine z_aload_n b dX9_set_5 rfl rfl ?_
  refine z_get (q0 := 14) (k9 := 0) (v := .ref (a 15)) b (cw_14 cy tE a rw S) rfl in_X9 (by decide) wf_X9_11 rfl dX9_set_6 ?_
  refine z_alen (q0 := 15) (t0 := 0) (v := 51) b (cw_15 cy tE a rw S) rfl rfl dX9_set_9 ?_
  refine z_icmp_ge_f (tgt := 20) b dX9_set_10 (by decide) (by decide) ?_
  refine z_aload_n b dX9_set_13 rfl rfl ?_
  refine z_get (q0 := 14) (k9 := 0) (v := .ref (a 15)) b (cw_14 cy tE a rw S) rfl in_X9 (by decide) wf_X9_11 rfl dX9_set_14 ?_
  refine z_iload_n b dX9_set_17 rfl rfl ?_
  refine z_iload_n b dX9_set_18 rfl rfl ?_
  refine y_iast (q0 := 15) (j := 35) b (cw_15 cy tE a rw S) (by decide) dX9_set_19 ((cwa_15 cy tE a rw S 35 0).trans (congrArg (cw cy tE a rw) (su_same h_a_4_35))) ?_
  exact z_vret (u := S) b rfl dX9_set_20 rfl rfl (by decide) (by decide)

set_option maxHeartbeats 4000000 in
set_option maxRecDepth 100000 in
theorem c_X11_kin_51 {l : Launch} {D : va_G} {cy : Nat → ClassId} {T0 tB tE : Nat} {a : Nat → Nat} {rw : Nat → Option Nat} (S : GS)  (h_a_4_35 : ar S 4 35 = 0) (h_i_24 : fi S 24 = 0) : Ct l D cy T0 tB tE yX11_kin cX11_kin 6 (some .boolean) 2 41 0 0 (cw cy tE a rw S) [.ref (a 0), .int 1, .int 2, .int 1, .int 0] (QI D (U := GS) (fun r u => 1 = r ∧ S = u) (cw cy tE a rw)) := by
  refine Ct.ofZ RX11 "kin" [(0, .ref (a 0)), (1, .int 1), (2, .int 2), (3, .int 1), (4, .int 0)] rfl rfl rfl rfl (Nat.le_of_ble_eq_true rfl) ?_
  intro p e R s m args below meth c A b
  refine z_iload_n b dX11_kin_0 rfl rfl ?_
  refine z_iload_n b dX11_kin_1 rfl rfl ?_
  refine z_calli b (z_runS (As := [.int 1, .int 2]) (st := []) b (c_X11_arePair_11 S ) cf_X11_arePair wm_X11_84 ws_X11_arePair dX11_kin_2 rfl (Nat.le_of_ble_eq_true rfl) ⟨by decide, by decide, by decide, by decide⟩) (fun r3034 u3035 h3033 => ?_)
  obtain ⟨rfl, rfl⟩ := h3033
  refine z_if_eq_f (tgt := 16) b dX11_kin_5 (by decide) (by decide) ?_
  refine z_iload_n b dX11_kin_8 rfl rfl ?_
  refine z_iconst (v := 1) b dX11_kin_9 (by decide) ?_
  refine z_calli b (z_runS (As := [.int 1, .int 1]) (st := []) b (c_X11_isWithin_6 S ) cf_X11_isWithin wm_X11_73 ws_X11_isWithin dX11_kin_10 rfl (Nat.le_of_ble_eq_true rfl) ⟨by decide, by decide, by decide, by decide⟩) (fun r3037 u3038 h3036 => ?_)
  obtain ⟨rfl, rfl⟩ := h3036
  refine z_if_ne_t (tgt := 18) b dX11_kin_13 (by decide) (by decide) ?_
  refine z_iload b dX11_kin_18 rfl ?_
  refine z_if_eq_t (tgt := 27) b dX11_kin_20 (by decide) (by decide) ?_
  refine z_iconst (v := 0) b dX11_kin_27 (by decide) ?_
  refine z_istore (lv' := [(5, .int 0), (0, .ref (a 0)), (1, .int 1), (2, .int 2), (3, .int 1), (4, .int 0)]) b dX11_kin_28 (by decide) rfl ?_
  refine z_iload_n b dX11_kin_30 rfl rfl ?_
  refine z_if_ne_t (tgt := 71) b dX11_kin_31 (by decide) (by decide) ?_
  refine z_aload_n b dX11_kin_71 rfl rfl ?_
  refine z_get (q0 := 0) (k9 := 4) (v := .ref (a 14)) b (cw_0 cy tE a rw S) rfl in_X11 (by decide) wf_X11_34 rfl dX11_kin_72 ?_
  refine z_bipush (v := 30) b dX11_kin_75 (by decide) ?_
  refine z_iconst (v := 3) b dX11_kin_77 (by decide) ?_
  refine z_iload_n b dX11_kin_78 rfl rfl ?_
  refine z_imul (v := 3) b dX11_kin_79 (by decide) ?_
  refine z_iadd (v := 33) b dX11_kin_80 (by decide) ?_
  refine z_iload_n b dX11_kin_81 rfl rfl ?_
  refine z_iadd (v := 35) b dX11_kin_82 (by decide) ?_
  refine z_iload b dX11_kin_83 rfl ?_
  refine z_callv b (z_runV (q0 := 14) (As := [.int 35, .int 0]) (st := []) b (c_X9_set_32 S h_a_4_35) cf_X9_set (cw_14 cy tE a rw S) rfl wm_X11_77 wi_X9_set ws_X9_set dX11_kin_85 rfl (Nat.le_of_ble_eq_true rfl) ⟨by decide, by decide, by decide, by decide⟩) (fun u3041 h3039 => ?_)
  obtain rfl := h3039
  refine z_aload_n b dX11_kin_88 rfl rfl ?_
  refine z_get (q0 := 0) (k9 := 6) (v := .ref (a 25)) b (cw_0 cy tE a rw S) rfl in_X11 (by decide) wf_X11_52 rfl dX11_kin_89 ?_
  refine z_callv b (z_runV (q0 := 25) (As := []) (st := []) b (c_X8_forget S h_i_24) cf_X8_forget (cw_25 cy tE a rw S) rfl wm_X11_81 wi_X8_forget ws_X8_forget dX11_kin_92 rfl (Nat.le_of_ble_eq_true rfl) ⟨by decide, by decide, by decide, by decide⟩) (fun u3044 h3042 => ?_)
  obtain rfl := h3042
  refine z_iconst (v := 1) b dX11_kin_95 (by decide) ?_
  exact z_zret (u := S) b rfl (by decide) dX11_kin_96 ⟨rfl, rfl⟩ rfl (by decide) (by decide)

set_option maxHeartbeats 4000000 in
set_option maxRecDepth 100000 in
theorem c_X12_kin_51 {l : Launch} {D : va_G} {cy : Nat → ClassId} {T0 tB tE : Nat} {a : Nat → Nat} (S : GS)  (h_l_0 : fl S 0 = 1649317774848) (h_a_4_7 : ar S 4 7 = 0) (h_a_1_7 : ar S 1 7 = 0) (h_a_4_6 : ar S 4 6 = 0) (h_a_1_6 : ar S 1 6 = 0) (h_a_3_6 : ar S 3 6 = 0) (h_a_3_2 : ar S 3 2 = 0) (h_a_2_2 : ar S 2 2 = 3) (h_a_0_2 : ar S 0 2 = 0) (h_a_4_3 : ar S 4 3 = 0) (h_a_1_3 : ar S 1 3 = 0) (h_a_4_5 : ar S 4 5 = 0) (h_a_1_5 : ar S 1 5 = 0) (h_a_3_5 : ar S 3 5 = 0) (h_a_3_7 : ar S 3 7 = 0) (h_a_2_1 : ar S 2 1 = 3) (h_a_0_1 : ar S 0 1 = 0) (h_a_4_2 : ar S 4 2 = 0) (h_a_1_2 : ar S 1 2 = 0) (h_a_4_1 : ar S 4 1 = 0) (h_a_1_1 : ar S 1 1 = 0) (h_a_3_1 : ar S 3 1 = 0) (h_a_3_3 : ar S 3 3 = 0) (h_a_2_0 : ar S 2 0 = 3) (h_a_0_0 : ar S 0 0 = 0) (h_i_0 : fi S 0 = 0) : Ct l D cy T0 tB tE yX12_kin cX12_kin 5 (some .boolean) 3 65 0 0 (mw cy a S) [.ref (a 0), .int 1, .int 2, .int 1, .int 0] (QI D (U := GS) (fun r u => 1 = r ∧ S = u) (mw cy a)) := by
  refine Ct.ofZ RX12 "kin" [(0, .ref (a 0)), (1, .int 1), (2, .int 2), (3, .int 1), (4, .int 0)] rfl rfl rfl rfl (Nat.le_of_ble_eq_true rfl) ?_
  intro p e R s m args below meth c A b
  refine z_iload_n b dX12_kin_0 rfl rfl ?_
  refine z_calli b (z_runS (As := [.int 1]) (st := []) b (c_X12_isOne_3 S ) cf_X12_isOne wm_X12_170 ws_X12_isOne dX12_kin_1 rfl (Nat.le_of_ble_eq_true rfl) ⟨by decide, by decide, by decide, by decide⟩) (fun r3046 u3047 h3045 => ?_)
  obtain ⟨rfl, rfl⟩ := h3045
  refine z_if_eq_f (tgt := 28) b dX12_kin_4 (by decide) (by decide) ?_
  refine z_iload_n b dX12_kin_7 rfl rfl ?_
  refine z_calli b (z_runS (As := [.int 2]) (st := []) b (c_X12_isOne_4 S ) cf_X12_isOne wm_X12_170 ws_X12_isOne dX12_kin_8 rfl (Nat.le_of_ble_eq_true rfl) ⟨by decide, by decide, by decide, by decide⟩) (fun r3049 u3050 h3048 => ?_)
  obtain ⟨rfl, rfl⟩ := h3048
  refine z_if_eq_f (tgt := 28) b dX12_kin_11 (by decide) (by decide) ?_
  refine z_iload_n b dX12_kin_14 rfl rfl ?_
  refine z_iload_n b dX12_kin_15 rfl rfl ?_
  refine z_icmp_eq_f (tgt := 28) b dX12_kin_16 (by decide) (by decide) ?_
  refine z_iload_n b dX12_kin_19 rfl rfl ?_
  refine z_iconst (v := 0) b dX12_kin_20 (by decide) ?_
  refine z_iconst (v := 1) b dX12_kin_21 (by decide) ?_
  refine z_calli b (z_runS (As := [.int 1, .int 0, .int 1]) (st := []) b (c_X12_isIn_10 S ) cf_X12_isIn wm_X12_1 ws_X12_isIn dX12_kin_22 rfl (Nat.le_of_ble_eq_true rfl) ⟨by decide, by decide, by decide, by decide⟩) (fun r3052 u3053 h3051 => ?_)
  obtain ⟨rfl, rfl⟩ := h3051
  refine z_if_ne_t (tgt := 30) b dX12_kin_25 (by decide) (by decide) ?_
  refine z_aload_n b dX12_kin_30 rfl rfl ?_
  refine z_aload_n b dX12_kin_31 rfl rfl ?_
  refine z_get (q0 := 0) (k9 := 6) (v := .long (fl S 0)) b (mw_0 cy a S) rfl in_X12 (by decide) wf_X12_153 rfl dX12_kin_32 ?_
  refine z_eql h_l_0 ?_
  refine z_callv b (z_runV (q0 := 0) (As := [.long 1649317774848]) (st := []) b (c_X12_takes S h_a_4_7 h_a_1_7 h_a_4_6 h_a_1_6 h_a_3_6 h_a_3_2 h_a_2_2 h_a_0_2 h_a_4_3 h_a_1_3 h_a_4_5 h_a_1_5 h_a_3_5 h_a_3_7 h_a_2_1 h_a_0_1 h_a_4_2 h_a_1_2 h_a_4_1 h_a_1_1 h_a_3_1 h_a_3_3 h_a_2_0 h_a_0_0 h_i_0) cf_X12_takes (mw_0 cy a S) rfl wm_X12_174 wi_X12_takes ws_X12_takes dX12_kin_35 rfl (Nat.le_of_ble_eq_true rfl) ⟨by decide, by decide, by decide, by decide⟩) (fun u3056 h3054 => ?_)
  obtain rfl := h3054
  refine z_iload_n b dX12_kin_38 rfl rfl ?_
  refine z_iconst (v := 1) b dX12_kin_39 (by decide) ?_
  refine z_icmp_ne_f (tgt := 58) b dX12_kin_40 (by decide) (by decide) ?_
  refine z_aload_n b dX12_kin_43 rfl rfl ?_
  refine z_get (q0 := 0) (k9 := 4) (v := .ref (a 5)) b (mw_0 cy a S) rfl in_X12 (by decide) wf_X12_27 rfl dX12_kin_44 ?_
  refine z_iconst (v := 3) b dX12_kin_47 (by decide) ?_
  refine z_iload_n b dX12_kin_48 rfl rfl ?_
  refine z_imul (v := 3) b dX12_kin_49 (by decide) ?_
  refine z_iload_n b dX12_kin_50 rfl rfl ?_
  refine z_iadd (v := 5) b dX12_kin_51 (by decide) ?_
  refine z_iload b dX12_kin_52 rfl ?_
  refine y_zast (q0 := 5) (j := 5) b (mw_5 cy a S) (by decide) (by decide) dX12_kin_54 ((mwa_5 cy a S 5 0).trans (congrArg (mw cy a) (su_same h_a_4_5))) ?_
  refine z_goto (tgt := 82) b dX12_kin_55 (by decide) ?_
  refine z_aload_n b dX12_kin_82 rfl rfl ?_
  refine z_calli b (z_runV (q0 := 0) (As := []) (st := []) b (c_X12_told_14 S h_i_0 h_a_0_0 h_a_2_0 h_a_3_1 h_a_1_1 h_a_4_1 h_a_1_2 h_a_4_2 h_a_0_1 h_a_2_1 h_a_3_5 h_a_1_5 h_a_4_5 h_a_1_3 h_a_4_3 h_a_0_2 h_a_2_2 h_a_3_6 h_a_1_6 h_a_4_6 h_a_1_7 h_a_4_7 h_l_0) cf_X12_told (mw_0 cy a S) rfl wm_X12_178 wi_X12_told ws_X12_told dX12_kin_83 rfl (Nat.le_of_ble_eq_true rfl) ⟨by decide, by decide, by decide, by decide⟩) (fun r3058 u3059 h3057 => ?_)
  obtain ⟨rfl, rfl⟩ := h3057
  exact z_zret (u := S) b rfl (by decide) dX12_kin_86 ⟨rfl, rfl⟩ rfl (by decide) (by decide)

set_option maxHeartbeats 4000000 in
set_option maxRecDepth 100000 in
theorem c_X9_set_33 {l : Launch} {D : va_G} {cy : Nat → ClassId} {T0 tB tE : Nat} {a : Nat → Nat} {rw : Nat → Option Nat} (S : GS)   : Ct l D cy T0 tB tE yX9_set cX9_set 3 none 0 0 0 0 (cw cy tE a rw S) [.ref (a 14), .int 35, .int 1] (QV D (U := GS) (fun u => su S 4 35 1 = u) (cw cy tE a rw)) := by
  refine Ct.ofZ RX9 "set" [(0, .ref (a 14)), (1, .int 35), (2, .int 1)] rfl rfl rfl rfl (Nat.le_of_ble_eq_true rfl) ?_
  intro p e R s m args below meth c A b
  refine z_iload_n b dX9_set_0 rfl rfl ?_
  refine z_if_lt_f (tgt := 20) b dX9_set_1 (by decide) (by decide) ?_
  refine z_iload_n b dX9_set_4 rfl rfl ?_
  refine z_aload_n b dX9_set_5 rfl rfl ?_
  refine z_get (q0 := 14) (k9 := 0) (v := .ref (a 15)) b (cw_14 cy tE a rw S) rfl in_X9 (by decide) wf_X9_11 rfl dX9_set_6 ?_
  refine z_alen (q0 := 15) (t0 := 0) (v := 51) b (cw_15 cy tE a rw S) rfl rfl dX9_set_9 ?_
  refine z_icmp_ge_f (tgt := 20) b dX9_set_10 (by decide) (by decide) ?_
  refine z_aload_n b dX9_set_13 rfl rfl ?_
  refine z_get (q0 := 14) (k9 := 0) (v := .ref (a 15)) b (cw_14 cy tE a rw S) rfl in_X9 (by decide) wf_X9_11 rfl dX9_set_14 ?_
  refine z_iload_n b dX9_set_17 rfl rfl ?_
  refine z_iload_n b dX9_set_18 rfl rfl ?_
  refine y_iast (q0 := 15) (j := 35) b (cw_15 cy tE a rw S) (by decide) dX9_set_19 (cwa_15 cy tE a rw S 35 1) ?_
  exact z_vret (u := (su S 4 35 1)) b rfl dX9_set_20 rfl rfl (by decide) (by decide)

set_option maxHeartbeats 4000000 in
set_option maxRecDepth 100000 in
theorem c_X11_kin_52 {l : Launch} {D : va_G} {cy : Nat → ClassId} {T0 tB tE : Nat} {a : Nat → Nat} {rw : Nat → Option Nat} (S : GS)  (h_i_24 : fi S 24 = 0) : Ct l D cy T0 tB tE yX11_kin cX11_kin 6 (some .boolean) 2 41 0 0 (cw cy tE a rw S) [.ref (a 0), .int 1, .int 2, .int 1, .int 1] (QI D (U := GS) (fun r u => 1 = r ∧ (su S 4 35 1) = u) (cw cy tE a rw)) := by
  refine Ct.ofZ RX11 "kin" [(0, .ref (a 0)), (1, .int 1), (2, .int 2), (3, .int 1), (4, .int 1)] rfl rfl rfl rfl (Nat.le_of_ble_eq_true rfl) ?_
  intro p e R s m args below meth c A b
  refine z_iload_n b dX11_kin_0 rfl rfl ?_
  refine z_iload_n b dX11_kin_1 rfl rfl ?_
  refine z_calli b (z_runS (As := [.int 1, .int 2]) (st := []) b (c_X11_arePair_11 S ) cf_X11_arePair wm_X11_84 ws_X11_arePair dX11_kin_2 rfl (Nat.le_of_ble_eq_true rfl) ⟨by decide, by decide, by decide, by decide⟩) (fun r3061 u3062 h3060 => ?_)
  obtain ⟨rfl, rfl⟩ := h3060
  refine z_if_eq_f (tgt := 16) b dX11_kin_5 (by decide) (by decide) ?_
  refine z_iload_n b dX11_kin_8 rfl rfl ?_
  refine z_iconst (v := 1) b dX11_kin_9 (by decide) ?_
  refine z_calli b (z_runS (As := [.int 1, .int 1]) (st := []) b (c_X11_isWithin_6 S ) cf_X11_isWithin wm_X11_73 ws_X11_isWithin dX11_kin_10 rfl (Nat.le_of_ble_eq_true rfl) ⟨by decide, by decide, by decide, by decide⟩) (fun r3064 u3065 h3063 => ?_)
  obtain ⟨rfl, rfl⟩ := h3063
  refine z_if_ne_t (tgt := 18) b dX11_kin_13 (by decide) (by decide) ?_
  refine z_iload b dX11_kin_18 rfl ?_
  refine z_if_eq_f (tgt := 27) b dX11_kin_20 (by decide) (by decide) ?_
  refine z_iconst (v := 1) b dX11_kin_23 (by decide) ?_
  refine z_goto (tgt := 28) b dX11_kin_24 (by decide) ?_
  refine z_istore (lv' := [(5, .int 1), (0, .ref (a 0)), (1, .int 1), (2, .int 2), (3, .int 1), (4, .int 1)]) b dX11_kin_28 (by decide) rfl ?_
  refine z_iload_n b dX11_kin_30 rfl rfl ?_
  refine z_if_ne_t (tgt := 71) b dX11_kin_31 (by decide) (by decide) ?_
  refine z_aload_n b dX11_kin_71 rfl rfl ?_
  refine z_get (q0 := 0) (k9 := 4) (v := .ref (a 14)) b (cw_0 cy tE a rw S) rfl in_X11 (by decide) wf_X11_34 rfl dX11_kin_72 ?_
  refine z_bipush (v := 30) b dX11_kin_75 (by decide) ?_
  refine z_iconst (v := 3) b dX11_kin_77 (by decide) ?_
  refine z_iload_n b dX11_kin_78 rfl rfl ?_
  refine z_imul (v := 3) b dX11_kin_79 (by decide) ?_
  refine z_iadd (v := 33) b dX11_kin_80 (by decide) ?_
  refine z_iload_n b dX11_kin_81 rfl rfl ?_
  refine z_iadd (v := 35) b dX11_kin_82 (by decide) ?_
  refine z_iload b dX11_kin_83 rfl ?_
  refine z_callv b (z_runV (q0 := 14) (As := [.int 35, .int 1]) (st := []) b (c_X9_set_33 S ) cf_X9_set (cw_14 cy tE a rw S) rfl wm_X11_77 wi_X9_set ws_X9_set dX11_kin_85 rfl (Nat.le_of_ble_eq_true rfl) ⟨by decide, by decide, by decide, by decide⟩) (fun u3068 h3066 => ?_)
  obtain rfl := h3066
  refine z_aload_n b dX11_kin_88 rfl rfl ?_
  refine z_get (q0 := 0) (k9 := 6) (v := .ref (a 25)) b (cw_0 cy tE a rw (su S 4 35 1)) rfl in_X11 (by decide) wf_X11_52 rfl dX11_kin_89 ?_
  refine z_callv b (z_runV (q0 := 25) (As := []) (st := []) b (c_X8_forget (su S 4 35 1) h_i_24) cf_X8_forget (cw_25 cy tE a rw (su S 4 35 1)) rfl wm_X11_81 wi_X8_forget ws_X8_forget dX11_kin_92 rfl (Nat.le_of_ble_eq_true rfl) ⟨by decide, by decide, by decide, by decide⟩) (fun u3071 h3069 => ?_)
  obtain rfl := h3069
  refine z_iconst (v := 1) b dX11_kin_95 (by decide) ?_
  exact z_zret (u := (su S 4 35 1)) b rfl (by decide) dX11_kin_96 ⟨rfl, rfl⟩ rfl (by decide) (by decide)

set_option maxHeartbeats 4000000 in
set_option maxRecDepth 100000 in
theorem ch_X12_packs_44 {p : Program} {l : Launch} {e : Env} {R : Room} {s : State} {m : MethodId} {args : Array Value} {below : List Frame} {meth : Method} {c : Code} {D : va_G} {cy : Nat → ClassId} {T0 tB tE : Nat} {A : Nat → Prop} {Q : State → Prop} {a : Nat → Nat} (S : GS)  (h_a_0_0 : ar S 0 0 = 0) (h_a_1_1 : ar S 1 1 = 0) (h_a_1_2 : ar S 1 2 = 0) (h_a_2_0 : ar S 2 0 = 3) (h_a_3_1 : ar S 3 1 = 0) (h_a_4_1 : ar S 4 1 = 0) (h_a_4_2 : ar S 4 2 = 0) (h_i_0 : fi S 0 = 0) (b : Bz p R s m args meth c D cy T0 tB tE A 5 cX12_packs RX12 (some .long) "packs" 1 21 0 0) (k : Z p l e R s m args below meth c D A 5 Q 0 0 (mw cy a S) [(3, .int 1), (4, .int 2), (1, .long 1536), (0, .ref (a 0))] 21 [.int 1, .ref (a 1), .long 24576]) : Z p l e R s m args below meth c D A 5 Q 0 0 (mw cy a S) [(0, .ref (a 0))] 0 [] := by
  refine z_aload_n b dX12_packs_0 rfl rfl ?_
  refine z_get (q0 := 0) (k9 := 5) (v := .int (fi S 0)) b (mw_0 cy a S) rfl in_X12 (by decide) wf_X12_157 rfl dX12_packs_1 ?_
  refine z_eqi h_i_0 ?_
  refine z_i2l (v := 0) b dX12_packs_4 (by decide) ?_
  refine z_lstore_n (lv' := [(1, .long 0), (0, .ref (a 0))]) b dX12_packs_5 rfl (by decide) rfl ?_
  refine z_iconst (v := 0) b dX12_packs_6 (by decide) ?_
  refine z_istore_n (lv' := [(3, .int 0), (1, .long 0), (0, .ref (a 0))]) b dX12_packs_7 rfl (by decide) rfl ?_
  refine z_iload_n b dX12_packs_8 rfl rfl ?_
  refine z_iconst (v := 3) b dX12_packs_9 (by decide) ?_
  refine z_icmp_ge_f (tgt := 134) b dX12_packs_10 (by decide) (by decide) ?_
  refine z_lload_n b dX12_packs_13 rfl rfl ?_
  refine z_iconst (v := 4) b dX12_packs_14 (by decide) ?_
  refine z_lshl (v := 0) b dX12_packs_15 (by decide) ?_
  refine z_aload_n b dX12_packs_16 rfl rfl ?_
  refine z_get (q0 := 0) (k9 := 0) (v := .ref (a 1)) b (mw_0 cy a S) rfl in_X12 (by decide) wf_X12_13 rfl dX12_packs_17 ?_
  refine z_iload_n b dX12_packs_20 rfl rfl ?_
  refine y_iald (q0 := 1) (j := 0) (v := (ar S 0 0)) b (mw_1 cy a S) (by decide) rfl dX12_packs_21 ?_
  refine z_eqi h_a_0_0 ?_
  refine z_i2l (v := 0) b dX12_packs_22 (by decide) ?_
  refine z_lor (v := 0) b dX12_packs_23 (by decide) ?_
  refine z_lstore_n (lv' := [(1, .long 0), (3, .int 0), (0, .ref (a 0))]) b dX12_packs_24 rfl (by decide) rfl ?_
  refine z_lload_n b dX12_packs_25 rfl rfl ?_
  refine z_iconst (v := 2) b dX12_packs_26 (by decide) ?_
  refine z_lshl (v := 0) b dX12_packs_27 (by decide) ?_
  refine z_aload_n b dX12_packs_28 rfl rfl ?_
  refine z_get (q0 := 0) (k9 := 2) (v := .ref (a 3)) b (mw_0 cy a S) rfl in_X12 (by decide) wf_X12_20 rfl dX12_packs_29 ?_
  refine z_iload_n b dX12_packs_32 rfl rfl ?_
  refine y_iald (q0 := 3) (j := 0) (v := (ar S 2 0)) b (mw_3 cy a S) (by decide) rfl dX12_packs_33 ?_
  refine z_eqi h_a_2_0 ?_
  refine z_i2l (v := 3) b dX12_packs_34 (by decide) ?_
  refine z_lor (v := 3) b dX12_packs_35 (by decide) ?_
  refine z_lstore_n (lv' := [(1, .long 3), (3, .int 0), (0, .ref (a 0))]) b dX12_packs_36 rfl (by decide) rfl ?_
  refine z_lload_n b dX12_packs_37 rfl rfl ?_
  refine z_iconst (v := 1) b dX12_packs_38 (by decide) ?_
  refine z_lshl (v := 6) b dX12_packs_39 (by decide) ?_
  refine z_aload_n b dX12_packs_40 rfl rfl ?_
  refine z_get (q0 := 0) (k9 := 3) (v := .ref (a 4)) b (mw_0 cy a S) rfl in_X12 (by decide) wf_X12_23 rfl dX12_packs_41 ?_
  refine z_iconst (v := 3) b dX12_packs_44 (by decide) ?_
  refine z_iload_n b dX12_packs_45 rfl rfl ?_
  refine z_imul (v := 0) b dX12_packs_46 (by decide) ?_
  refine z_iload_n b dX12_packs_47 rfl rfl ?_
  refine z_iconst (v := 0) b dX12_packs_48 (by decide) ?_
  refine z_calli b (z_runS (As := [.int 0, .int 0]) (st := [.int 0, .ref (a 4), .long 6]) b (c_X12_other_6 S ) cf_X12_other wm_X12_160 ws_X12_other dX12_packs_49 rfl (Nat.le_of_ble_eq_true rfl) ⟨by decide, by decide, by decide, by decide⟩) (fun r3085 u3086 h3084 => ?_)
  obtain ⟨rfl, rfl⟩ := h3084
  refine z_iadd (v := 1) b dX12_packs_52 (by decide) ?_
  refine y_zald (q0 := 4) (j := 1) (v := (ar S 3 1)) b (mw_4 cy a S) (by decide) rfl dX12_packs_53 ?_
  refine z_eqi h_a_3_1 ?_
  refine z_if_eq_t (tgt := 61) b dX12_packs_54 (by decide) (by decide) ?_
  refine z_lconst (v := 0) b dX12_packs_61 (by decide) ?_
  refine z_lor (v := 6) b dX12_packs_62 (by decide) ?_
  refine z_lstore_n (lv' := [(1, .long 6), (3, .int 0), (0, .ref (a 0))]) b dX12_packs_63 rfl (by decide) rfl ?_
  refine z_iconst (v := 0) b dX12_packs_64 (by decide) ?_
  refine z_istore (lv' := [(4, .int 0), (1, .long 6), (3, .int 0), (0, .ref (a 0))]) b dX12_packs_65 (by decide) rfl ?_
  refine z_iload b dX12_packs_67 rfl ?_
  refine z_iconst (v := 2) b dX12_packs_69 (by decide) ?_
  refine z_icmp_ge_f (tgt := 128) b dX12_packs_70 (by decide) (by decide) ?_
  refine z_lload_n b dX12_packs_73 rfl rfl ?_
  refine z_iconst (v := 3) b dX12_packs_74 (by decide) ?_
  refine z_lshl (v := 48) b dX12_packs_75 (by decide) ?_
  refine z_aload_n b dX12_packs_76 rfl rfl ?_
  refine z_get (q0 := 0) (k9 := 1) (v := .ref (a 2)) b (mw_0 cy a S) rfl in_X12 (by decide) wf_X12_17 rfl dX12_packs_77 ?_
  refine z_iconst (v := 3) b dX12_packs_80 (by decide) ?_
  refine z_iload_n b dX12_packs_81 rfl rfl ?_
  refine z_imul (v := 0) b dX12_packs_82 (by decide) ?_
  refine z_iload_n b dX12_packs_83 rfl rfl ?_
  refine z_iload b dX12_packs_84 rfl ?_
  refine z_calli b (z_runS (As := [.int 0, .int 0]) (st := [.int 0, .ref (a 2), .long 48]) b (c_X12_other_6 S ) cf_X12_other wm_X12_160 ws_X12_other dX12_packs_86 rfl (Nat.le_of_ble_eq_true rfl) ⟨by decide, by decide, by decide, by decide⟩) (fun r3088 u3089 h3087 => ?_)
  obtain ⟨rfl, rfl⟩ := h3087
  refine z_iadd (v := 1) b dX12_packs_89 (by decide) ?_
  refine y_iald (q0 := 2) (j := 1) (v := (ar S 1 1)) b (mw_2 cy a S) (by decide) rfl dX12_packs_90 ?_
  refine z_eqi h_a_1_1 ?_
  refine z_i2l (v := 0) b dX12_packs_91 (by decide) ?_
  refine z_lor (v := 48) b dX12_packs_92 (by decide) ?_
  refine z_lstore_n (lv' := [(1, .long 48), (4, .int 0), (3, .int 0), (0, .ref (a 0))]) b dX12_packs_93 rfl (by decide) rfl ?_
  refine z_lload_n b dX12_packs_94 rfl rfl ?_
  refine z_iconst (v := 1) b dX12_packs_95 (by decide) ?_
  refine z_lshl (v := 96) b dX12_packs_96 (by decide) ?_
  refine z_aload_n b dX12_packs_97 rfl rfl ?_
  refine z_get (q0 := 0) (k9 := 4) (v := .ref (a 5)) b (mw_0 cy a S) rfl in_X12 (by decide) wf_X12_27 rfl dX12_packs_98 ?_
  refine z_iconst (v := 3) b dX12_packs_101 (by decide) ?_
  refine z_iload_n b dX12_packs_102 rfl rfl ?_
  refine z_imul (v := 0) b dX12_packs_103 (by decide) ?_
  refine z_iload_n b dX12_packs_104 rfl rfl ?_
  refine z_iload b dX12_packs_105 rfl ?_
  refine z_calli b (z_runS (As := [.int 0, .int 0]) (st := [.int 0, .ref (a 5), .long 96]) b (c_X12_other_6 S ) cf_X12_other wm_X12_160 ws_X12_other dX12_packs_107 rfl (Nat.le_of_ble_eq_true rfl) ⟨by decide, by decide, by decide, by decide⟩) (fun r3091 u3092 h3090 => ?_)
  obtain ⟨rfl, rfl⟩ := h3090
  refine z_iadd (v := 1) b dX12_packs_110 (by decide) ?_
  refine y_zald (q0 := 5) (j := 1) (v := (ar S 4 1)) b (mw_5 cy a S) (by decide) rfl dX12_packs_111 ?_
  refine z_eqi h_a_4_1 ?_
  refine z_if_eq_t (tgt := 119) b dX12_packs_112 (by decide) (by decide) ?_
  refine z_lconst (v := 0) b dX12_packs_119 (by decide) ?_
  refine z_lor (v := 96) b dX12_packs_120 (by decide) ?_
  refine z_lstore_n (lv' := [(1, .long 96), (4, .int 0), (3, .int 0), (0, .ref (a 0))]) b dX12_packs_121 rfl (by decide) rfl ?_
  refine z_iinc (k9 := 1) (v := 1) (lv' := [(4, .int 1), (1, .long 96), (3, .int 0), (0, .ref (a 0))]) b dX12_packs_122 rfl (by decide) (by decide) rfl ?_
  refine z_goto (tgt := 67) b dX12_packs_125 (by decide) ?_
  refine z_iload b dX12_packs_67 rfl ?_
  refine z_iconst (v := 2) b dX12_packs_69 (by decide) ?_
  refine z_icmp_ge_f (tgt := 128) b dX12_packs_70 (by decide) (by decide) ?_
  refine z_lload_n b dX12_packs_73 rfl rfl ?_
  refine z_iconst (v := 3) b dX12_packs_74 (by decide) ?_
  refine z_lshl (v := 768) b dX12_packs_75 (by decide) ?_
  refine z_aload_n b dX12_packs_76 rfl rfl ?_
  refine z_get (q0 := 0) (k9 := 1) (v := .ref (a 2)) b (mw_0 cy a S) rfl in_X12 (by decide) wf_X12_17 rfl dX12_packs_77 ?_
  refine z_iconst (v := 3) b dX12_packs_80 (by decide) ?_
  refine z_iload_n b dX12_packs_81 rfl rfl ?_
  refine z_imul (v := 0) b dX12_packs_82 (by decide) ?_
  refine z_iload_n b dX12_packs_83 rfl rfl ?_
  refine z_iload b dX12_packs_84 rfl ?_
  refine z_calli b (z_runS (As := [.int 0, .int 1]) (st := [.int 0, .ref (a 2), .long 768]) b (c_X12_other_5 S ) cf_X12_other wm_X12_160 ws_X12_other dX12_packs_86 rfl (Nat.le_of_ble_eq_true rfl) ⟨by decide, by decide, by decide, by decide⟩) (fun r3094 u3095 h3093 => ?_)
  obtain ⟨rfl, rfl⟩ := h3093
  refine z_iadd (v := 2) b dX12_packs_89 (by decide) ?_
  refine y_iald (q0 := 2) (j := 2) (v := (ar S 1 2)) b (mw_2 cy a S) (by decide) rfl dX12_packs_90 ?_
  refine z_eqi h_a_1_2 ?_
  refine z_i2l (v := 0) b dX12_packs_91 (by decide) ?_
  refine z_lor (v := 768) b dX12_packs_92 (by decide) ?_
  refine z_lstore_n (lv' := [(1, .long 768), (4, .int 1), (3, .int 0), (0, .ref (a 0))]) b dX12_packs_93 rfl (by decide) rfl ?_
  refine z_lload_n b dX12_packs_94 rfl rfl ?_
  refine z_iconst (v := 1) b dX12_packs_95 (by decide) ?_
  refine z_lshl (v := 1536) b dX12_packs_96 (by decide) ?_
  refine z_aload_n b dX12_packs_97 rfl rfl ?_
  refine z_get (q0 := 0) (k9 := 4) (v := .ref (a 5)) b (mw_0 cy a S) rfl in_X12 (by decide) wf_X12_27 rfl dX12_packs_98 ?_
  refine z_iconst (v := 3) b dX12_packs_101 (by decide) ?_
  refine z_iload_n b dX12_packs_102 rfl rfl ?_
  refine z_imul (v := 0) b dX12_packs_103 (by decide) ?_
  refine z_iload_n b dX12_packs_104 rfl rfl ?_
  refine z_iload b dX12_packs_105 rfl ?_
  refine z_calli b (z_runS (As := [.int 0, .int 1]) (st := [.int 0, .ref (a 5), .long 1536]) b (c_X12_other_5 S ) cf_X12_other wm_X12_160 ws_X12_other dX12_packs_107 rfl (Nat.le_of_ble_eq_true rfl) ⟨by decide, by decide, by decide, by decide⟩) (fun r3097 u3098 h3096 => ?_)
  obtain ⟨rfl, rfl⟩ := h3096
  refine z_iadd (v := 2) b dX12_packs_110 (by decide) ?_
  refine y_zald (q0 := 5) (j := 2) (v := (ar S 4 2)) b (mw_5 cy a S) (by decide) rfl dX12_packs_111 ?_
  refine z_eqi h_a_4_2 ?_
  refine z_if_eq_t (tgt := 119) b dX12_packs_112 (by decide) (by decide) ?_
  refine z_lconst (v := 0) b dX12_packs_119 (by decide) ?_
  refine z_lor (v := 1536) b dX12_packs_120 (by decide) ?_
  refine z_lstore_n (lv' := [(1, .long 1536), (4, .int 1), (3, .int 0), (0, .ref (a 0))]) b dX12_packs_121 rfl (by decide) rfl ?_
  refine z_iinc (k9 := 1) (v := 2) (lv' := [(4, .int 2), (1, .long 1536), (3, .int 0), (0, .ref (a 0))]) b dX12_packs_122 rfl (by decide) (by decide) rfl ?_
  refine z_goto (tgt := 67) b dX12_packs_125 (by decide) ?_
  refine z_iload b dX12_packs_67 rfl ?_
  refine z_iconst (v := 2) b dX12_packs_69 (by decide) ?_
  refine z_icmp_ge_t (tgt := 128) b dX12_packs_70 (by decide) (by decide) ?_
  refine z_iinc (k9 := 2) (v := 1) (lv' := [(3, .int 1), (4, .int 2), (1, .long 1536), (0, .ref (a 0))]) b dX12_packs_128 rfl (by decide) (by decide) rfl ?_
  refine z_goto (tgt := 8) b dX12_packs_131 (by decide) ?_
  refine z_iload_n b dX12_packs_8 rfl rfl ?_
  refine z_iconst (v := 3) b dX12_packs_9 (by decide) ?_
  refine z_icmp_ge_f (tgt := 134) b dX12_packs_10 (by decide) (by decide) ?_
  refine z_lload_n b dX12_packs_13 rfl rfl ?_
  refine z_iconst (v := 4) b dX12_packs_14 (by decide) ?_
  refine z_lshl (v := 24576) b dX12_packs_15 (by decide) ?_
  refine z_aload_n b dX12_packs_16 rfl rfl ?_
  refine z_get (q0 := 0) (k9 := 0) (v := .ref (a 1)) b (mw_0 cy a S) rfl in_X12 (by decide) wf_X12_13 rfl dX12_packs_17 ?_
  refine z_iload_n b dX12_packs_20 rfl rfl ?_
  exact k

set_option maxHeartbeats 4000000 in
set_option maxRecDepth 100000 in
theorem ch_X12_packs_45 {p : Program} {l : Launch} {e : Env} {R : Room} {s : State} {m : MethodId} {args : Array Value} {below : List Frame} {meth : Method} {c : Code} {D : va_G} {cy : Nat → ClassId} {T0 tB tE : Nat} {A : Nat → Prop} {Q : State → Prop} {a : Nat → Nat} (S : GS)  (h_a_0_1 : ar S 0 1 = 0) (h_a_0_2 : ar S 0 2 = 0) (h_a_1_3 : ar S 1 3 = 0) (h_a_1_5 : ar S 1 5 = 0) (h_a_2_1 : ar S 2 1 = 3) (h_a_2_2 : ar S 2 2 = 3) (h_a_3_5 : ar S 3 5 = 0) (h_a_4_3 : ar S 4 3 = 0) (h_a_4_5 : ar S 4 5 = 1) (b : Bz p R s m args meth c D cy T0 tB tE A 5 cX12_packs RX12 (some .long) "packs" 1 21 0 0) (k : Z p l e R s m args below meth c D A 5 Q 0 0 (mw cy a S) [(1, .long 805331200), (3, .int 2), (4, .int 2), (0, .ref (a 0))] 36 [.long 3221324803]) : Z p l e R s m args below meth c D A 5 Q 0 0 (mw cy a S) [(3, .int 1), (4, .int 2), (1, .long 1536), (0, .ref (a 0))] 21 [.int 1, .ref (a 1), .long 24576] := by
  refine y_iald (q0 := 1) (j := 1) (v := (ar S 0 1)) b (mw_1 cy a S) (by decide) rfl dX12_packs_21 ?_
  refine z_eqi h_a_0_1 ?_
  refine z_i2l (v := 0) b dX12_packs_22 (by decide) ?_
  refine z_lor (v := 24576) b dX12_packs_23 (by decide) ?_
  refine z_lstore_n (lv' := [(1, .long 24576), (3, .int 1), (4, .int 2), (0, .ref (a 0))]) b dX12_packs_24 rfl (by decide) rfl ?_
  refine z_lload_n b dX12_packs_25 rfl rfl ?_
  refine z_iconst (v := 2) b dX12_packs_26 (by decide) ?_
  refine z_lshl (v := 98304) b dX12_packs_27 (by decide) ?_
  refine z_aload_n b dX12_packs_28 rfl rfl ?_
  refine z_get (q0 := 0) (k9 := 2) (v := .ref (a 3)) b (mw_0 cy a S) rfl in_X12 (by decide) wf_X12_20 rfl dX12_packs_29 ?_
  refine z_iload_n b dX12_packs_32 rfl rfl ?_
  refine y_iald (q0 := 3) (j := 1) (v := (ar S 2 1)) b (mw_3 cy a S) (by decide) rfl dX12_packs_33 ?_
  refine z_eqi h_a_2_1 ?_
  refine z_i2l (v := 3) b dX12_packs_34 (by decide) ?_
  refine z_lor (v := 98307) b dX12_packs_35 (by decide) ?_
  refine z_lstore_n (lv' := [(1, .long 98307), (3, .int 1), (4, .int 2), (0, .ref (a 0))]) b dX12_packs_36 rfl (by decide) rfl ?_
  refine z_lload_n b dX12_packs_37 rfl rfl ?_
  refine z_iconst (v := 1) b dX12_packs_38 (by decide) ?_
  refine z_lshl (v := 196614) b dX12_packs_39 (by decide) ?_
  refine z_aload_n b dX12_packs_40 rfl rfl ?_
  refine z_get (q0 := 0) (k9 := 3) (v := .ref (a 4)) b (mw_0 cy a S) rfl in_X12 (by decide) wf_X12_23 rfl dX12_packs_41 ?_
  refine z_iconst (v := 3) b dX12_packs_44 (by decide) ?_
  refine z_iload_n b dX12_packs_45 rfl rfl ?_
  refine z_imul (v := 3) b dX12_packs_46 (by decide) ?_
  refine z_iload_n b dX12_packs_47 rfl rfl ?_
  refine z_iconst (v := 0) b dX12_packs_48 (by decide) ?_
  refine z_calli b (z_runS (As := [.int 1, .int 0]) (st := [.int 3, .ref (a 4), .long 196614]) b (c_X12_other_4 S ) cf_X12_other wm_X12_160 ws_X12_other dX12_packs_49 rfl (Nat.le_of_ble_eq_true rfl) ⟨by decide, by decide, by decide, by decide⟩) (fun r3100 u3101 h3099 => ?_)
  obtain ⟨rfl, rfl⟩ := h3099
  refine z_iadd (v := 5) b dX12_packs_52 (by decide) ?_
  refine y_zald (q0 := 4) (j := 5) (v := (ar S 3 5)) b (mw_4 cy a S) (by decide) rfl dX12_packs_53 ?_
  refine z_eqi h_a_3_5 ?_
  refine z_if_eq_t (tgt := 61) b dX12_packs_54 (by decide) (by decide) ?_
  refine z_lconst (v := 0) b dX12_packs_61 (by decide) ?_
  refine z_lor (v := 196614) b dX12_packs_62 (by decide) ?_
  refine z_lstore_n (lv' := [(1, .long 196614), (3, .int 1), (4, .int 2), (0, .ref (a 0))]) b dX12_packs_63 rfl (by decide) rfl ?_
  refine z_iconst (v := 0) b dX12_packs_64 (by decide) ?_
  refine z_istore (lv' := [(4, .int 0), (1, .long 196614), (3, .int 1), (0, .ref (a 0))]) b dX12_packs_65 (by decide) rfl ?_
  refine z_iload b dX12_packs_67 rfl ?_
  refine z_iconst (v := 2) b dX12_packs_69 (by decide) ?_
  refine z_icmp_ge_f (tgt := 128) b dX12_packs_70 (by decide) (by decide) ?_
  refine z_lload_n b dX12_packs_73 rfl rfl ?_
  refine z_iconst (v := 3) b dX12_packs_74 (by decide) ?_
  refine z_lshl (v := 1572912) b dX12_packs_75 (by decide) ?_
  refine z_aload_n b dX12_packs_76 rfl rfl ?_
  refine z_get (q0 := 0) (k9 := 1) (v := .ref (a 2)) b (mw_0 cy a S) rfl in_X12 (by decide) wf_X12_17 rfl dX12_packs_77 ?_
  refine z_iconst (v := 3) b dX12_packs_80 (by decide) ?_
  refine z_iload_n b dX12_packs_81 rfl rfl ?_
  refine z_imul (v := 3) b dX12_packs_82 (by decide) ?_
  refine z_iload_n b dX12_packs_83 rfl rfl ?_
  refine z_iload b dX12_packs_84 rfl ?_
  refine z_calli b (z_runS (As := [.int 1, .int 0]) (st := [.int 3, .ref (a 2), .long 1572912]) b (c_X12_other_4 S ) cf_X12_other wm_X12_160 ws_X12_other dX12_packs_86 rfl (Nat.le_of_ble_eq_true rfl) ⟨by decide, by decide, by decide, by decide⟩) (fun r3103 u3104 h3102 => ?_)
  obtain ⟨rfl, rfl⟩ := h3102
  refine z_iadd (v := 5) b dX12_packs_89 (by decide) ?_
  refine y_iald (q0 := 2) (j := 5) (v := (ar S 1 5)) b (mw_2 cy a S) (by decide) rfl dX12_packs_90 ?_
  refine z_eqi h_a_1_5 ?_
  refine z_i2l (v := 0) b dX12_packs_91 (by decide) ?_
  refine z_lor (v := 1572912) b dX12_packs_92 (by decide) ?_
  refine z_lstore_n (lv' := [(1, .long 1572912), (4, .int 0), (3, .int 1), (0, .ref (a 0))]) b dX12_packs_93 rfl (by decide) rfl ?_
  refine z_lload_n b dX12_packs_94 rfl rfl ?_
  refine z_iconst (v := 1) b dX12_packs_95 (by decide) ?_
  refine z_lshl (v := 3145824) b dX12_packs_96 (by decide) ?_
  refine z_aload_n b dX12_packs_97 rfl rfl ?_
  refine z_get (q0 := 0) (k9 := 4) (v := .ref (a 5)) b (mw_0 cy a S) rfl in_X12 (by decide) wf_X12_27 rfl dX12_packs_98 ?_
  refine z_iconst (v := 3) b dX12_packs_101 (by decide) ?_
  refine z_iload_n b dX12_packs_102 rfl rfl ?_
  refine z_imul (v := 3) b dX12_packs_103 (by decide) ?_
  refine z_iload_n b dX12_packs_104 rfl rfl ?_
  refine z_iload b dX12_packs_105 rfl ?_
  refine z_calli b (z_runS (As := [.int 1, .int 0]) (st := [.int 3, .ref (a 5), .long 3145824]) b (c_X12_other_4 S ) cf_X12_other wm_X12_160 ws_X12_other dX12_packs_107 rfl (Nat.le_of_ble_eq_true rfl) ⟨by decide, by decide, by decide, by decide⟩) (fun r3106 u3107 h3105 => ?_)
  obtain ⟨rfl, rfl⟩ := h3105
  refine z_iadd (v := 5) b dX12_packs_110 (by decide) ?_
  refine y_zald (q0 := 5) (j := 5) (v := (ar S 4 5)) b (mw_5 cy a S) (by decide) rfl dX12_packs_111 ?_
  refine z_eqi h_a_4_5 ?_
  refine z_if_eq_f (tgt := 119) b dX12_packs_112 (by decide) (by decide) ?_
  refine z_lconst (v := 1) b dX12_packs_115 (by decide) ?_
  refine z_goto (tgt := 120) b dX12_packs_116 (by decide) ?_
  refine z_lor (v := 3145825) b dX12_packs_120 (by decide) ?_
  refine z_lstore_n (lv' := [(1, .long 3145825), (4, .int 0), (3, .int 1), (0, .ref (a 0))]) b dX12_packs_121 rfl (by decide) rfl ?_
  refine z_iinc (k9 := 1) (v := 1) (lv' := [(4, .int 1), (1, .long 3145825), (3, .int 1), (0, .ref (a 0))]) b dX12_packs_122 rfl (by decide) (by decide) rfl ?_
  refine z_goto (tgt := 67) b dX12_packs_125 (by decide) ?_
  refine z_iload b dX12_packs_67 rfl ?_
  refine z_iconst (v := 2) b dX12_packs_69 (by decide) ?_
  refine z_icmp_ge_f (tgt := 128) b dX12_packs_70 (by decide) (by decide) ?_
  refine z_lload_n b dX12_packs_73 rfl rfl ?_
  refine z_iconst (v := 3) b dX12_packs_74 (by decide) ?_
  refine z_lshl (v := 25166600) b dX12_packs_75 (by decide) ?_
  refine z_aload_n b dX12_packs_76 rfl rfl ?_
  refine z_get (q0 := 0) (k9 := 1) (v := .ref (a 2)) b (mw_0 cy a S) rfl in_X12 (by decide) wf_X12_17 rfl dX12_packs_77 ?_
  refine z_iconst (v := 3) b dX12_packs_80 (by decide) ?_
  refine z_iload_n b dX12_packs_81 rfl rfl ?_
  refine z_imul (v := 3) b dX12_packs_82 (by decide) ?_
  refine z_iload_n b dX12_packs_83 rfl rfl ?_
  refine z_iload b dX12_packs_84 rfl ?_
  refine z_calli b (z_runS (As := [.int 1, .int 1]) (st := [.int 3, .ref (a 2), .long 25166600]) b (c_X12_other_3 S ) cf_X12_other wm_X12_160 ws_X12_other dX12_packs_86 rfl (Nat.le_of_ble_eq_true rfl) ⟨by decide, by decide, by decide, by decide⟩) (fun r3109 u3110 h3108 => ?_)
  obtain ⟨rfl, rfl⟩ := h3108
  refine z_iadd (v := 3) b dX12_packs_89 (by decide) ?_
  refine y_iald (q0 := 2) (j := 3) (v := (ar S 1 3)) b (mw_2 cy a S) (by decide) rfl dX12_packs_90 ?_
  refine z_eqi h_a_1_3 ?_
  refine z_i2l (v := 0) b dX12_packs_91 (by decide) ?_
  refine z_lor (v := 25166600) b dX12_packs_92 (by decide) ?_
  refine z_lstore_n (lv' := [(1, .long 25166600), (4, .int 1), (3, .int 1), (0, .ref (a 0))]) b dX12_packs_93 rfl (by decide) rfl ?_
  refine z_lload_n b dX12_packs_94 rfl rfl ?_
  refine z_iconst (v := 1) b dX12_packs_95 (by decide) ?_
  refine z_lshl (v := 50333200) b dX12_packs_96 (by decide) ?_
  refine z_aload_n b dX12_packs_97 rfl rfl ?_
  refine z_get (q0 := 0) (k9 := 4) (v := .ref (a 5)) b (mw_0 cy a S) rfl in_X12 (by decide) wf_X12_27 rfl dX12_packs_98 ?_
  refine z_iconst (v := 3) b dX12_packs_101 (by decide) ?_
  refine z_iload_n b dX12_packs_102 rfl rfl ?_
  refine z_imul (v := 3) b dX12_packs_103 (by decide) ?_
  refine z_iload_n b dX12_packs_104 rfl rfl ?_
  refine z_iload b dX12_packs_105 rfl ?_
  refine z_calli b (z_runS (As := [.int 1, .int 1]) (st := [.int 3, .ref (a 5), .long 50333200]) b (c_X12_other_3 S ) cf_X12_other wm_X12_160 ws_X12_other dX12_packs_107 rfl (Nat.le_of_ble_eq_true rfl) ⟨by decide, by decide, by decide, by decide⟩) (fun r3112 u3113 h3111 => ?_)
  obtain ⟨rfl, rfl⟩ := h3111
  refine z_iadd (v := 3) b dX12_packs_110 (by decide) ?_
  refine y_zald (q0 := 5) (j := 3) (v := (ar S 4 3)) b (mw_5 cy a S) (by decide) rfl dX12_packs_111 ?_
  refine z_eqi h_a_4_3 ?_
  refine z_if_eq_t (tgt := 119) b dX12_packs_112 (by decide) (by decide) ?_
  refine z_lconst (v := 0) b dX12_packs_119 (by decide) ?_
  refine z_lor (v := 50333200) b dX12_packs_120 (by decide) ?_
  refine z_lstore_n (lv' := [(1, .long 50333200), (4, .int 1), (3, .int 1), (0, .ref (a 0))]) b dX12_packs_121 rfl (by decide) rfl ?_
  refine z_iinc (k9 := 1) (v := 2) (lv' := [(4, .int 2), (1, .long 50333200), (3, .int 1), (0, .ref (a 0))]) b dX12_packs_122 rfl (by decide) (by decide) rfl ?_
  refine z_goto (tgt := 67) b dX12_packs_125 (by decide) ?_
  refine z_iload b dX12_packs_67 rfl ?_
  refine z_iconst (v := 2) b dX12_packs_69 (by decide) ?_
  refine z_icmp_ge_t (tgt := 128) b dX12_packs_70 (by decide) (by decide) ?_
  refine z_iinc (k9 := 2) (v := 2) (lv' := [(3, .int 2), (4, .int 2), (1, .long 50333200), (0, .ref (a 0))]) b dX12_packs_128 rfl (by decide) (by decide) rfl ?_
  refine z_goto (tgt := 8) b dX12_packs_131 (by decide) ?_
  refine z_iload_n b dX12_packs_8 rfl rfl ?_
  refine z_iconst (v := 3) b dX12_packs_9 (by decide) ?_
  refine z_icmp_ge_f (tgt := 134) b dX12_packs_10 (by decide) (by decide) ?_
  refine z_lload_n b dX12_packs_13 rfl rfl ?_
  refine z_iconst (v := 4) b dX12_packs_14 (by decide) ?_
  refine z_lshl (v := 805331200) b dX12_packs_15 (by decide) ?_
  refine z_aload_n b dX12_packs_16 rfl rfl ?_
  refine z_get (q0 := 0) (k9 := 0) (v := .ref (a 1)) b (mw_0 cy a S) rfl in_X12 (by decide) wf_X12_13 rfl dX12_packs_17 ?_
  refine z_iload_n b dX12_packs_20 rfl rfl ?_
  refine y_iald (q0 := 1) (j := 2) (v := (ar S 0 2)) b (mw_1 cy a S) (by decide) rfl dX12_packs_21 ?_
  refine z_eqi h_a_0_2 ?_
  refine z_i2l (v := 0) b dX12_packs_22 (by decide) ?_
  refine z_lor (v := 805331200) b dX12_packs_23 (by decide) ?_
  refine z_lstore_n (lv' := [(1, .long 805331200), (3, .int 2), (4, .int 2), (0, .ref (a 0))]) b dX12_packs_24 rfl (by decide) rfl ?_
  refine z_lload_n b dX12_packs_25 rfl rfl ?_
  refine z_iconst (v := 2) b dX12_packs_26 (by decide) ?_
  refine z_lshl (v := 3221324800) b dX12_packs_27 (by decide) ?_
  refine z_aload_n b dX12_packs_28 rfl rfl ?_
  refine z_get (q0 := 0) (k9 := 2) (v := .ref (a 3)) b (mw_0 cy a S) rfl in_X12 (by decide) wf_X12_20 rfl dX12_packs_29 ?_
  refine z_iload_n b dX12_packs_32 rfl rfl ?_
  refine y_iald (q0 := 3) (j := 2) (v := (ar S 2 2)) b (mw_3 cy a S) (by decide) rfl dX12_packs_33 ?_
  refine z_eqi h_a_2_2 ?_
  refine z_i2l (v := 3) b dX12_packs_34 (by decide) ?_
  refine z_lor (v := 3221324803) b dX12_packs_35 (by decide) ?_
  exact k

set_option maxHeartbeats 4000000 in
set_option maxRecDepth 100000 in
theorem c_X12_packs_21 {l : Launch} {D : va_G} {cy : Nat → ClassId} {T0 tB tE : Nat} {a : Nat → Nat} (S : GS)  (h_i_0 : fi S 0 = 0) (h_a_0_0 : ar S 0 0 = 0) (h_a_2_0 : ar S 2 0 = 3) (h_a_3_1 : ar S 3 1 = 0) (h_a_1_1 : ar S 1 1 = 0) (h_a_4_1 : ar S 4 1 = 0) (h_a_1_2 : ar S 1 2 = 0) (h_a_4_2 : ar S 4 2 = 0) (h_a_0_1 : ar S 0 1 = 0) (h_a_2_1 : ar S 2 1 = 3) (h_a_3_5 : ar S 3 5 = 0) (h_a_1_5 : ar S 1 5 = 0) (h_a_4_5 : ar S 4 5 = 1) (h_a_1_3 : ar S 1 3 = 0) (h_a_4_3 : ar S 4 3 = 0) (h_a_0_2 : ar S 0 2 = 0) (h_a_2_2 : ar S 2 2 = 3) (h_a_3_6 : ar S 3 6 = 0) (h_a_1_6 : ar S 1 6 = 0) (h_a_4_6 : ar S 4 6 = 0) (h_a_1_7 : ar S 1 7 = 0) (h_a_4_7 : ar S 4 7 = 0) : Ct l D cy T0 tB tE yX12_packs cX12_packs 5 (some .long) 1 21 0 0 (mw cy a S) [.ref (a 0)] (QL D (U := GS) (fun r u => 1649318299136 = r ∧ S = u) (mw cy a)) := by
  refine Ct.ofZ RX12 "packs" [(0, .ref (a 0))] rfl rfl rfl rfl (Nat.le_of_ble_eq_true rfl) ?_
  intro p e R s m args below meth c A b
  refine ch_X12_packs_44 S  h_a_0_0 h_a_1_1 h_a_1_2 h_a_2_0 h_a_3_1 h_a_4_1 h_a_4_2 h_i_0  b ?_
  refine ch_X12_packs_45 S  h_a_0_1 h_a_0_2 h_a_1_3 h_a_1_5 h_a_2_1 h_a_2_2 h_a_3_5 h_a_4_3 h_a_4_5  b ?_
  refine z_lstore_n (lv' := [(1, .long 3221324803), (3, .int 2), (4, .int 2), (0, .ref (a 0))]) b dX12_packs_36 rfl (by decide) rfl ?_
  refine z_lload_n b dX12_packs_37 rfl rfl ?_
  refine z_iconst (v := 1) b dX12_packs_38 (by decide) ?_
  refine z_lshl (v := 6442649606) b dX12_packs_39 (by decide) ?_
  refine z_aload_n b dX12_packs_40 rfl rfl ?_
  refine z_get (q0 := 0) (k9 := 3) (v := .ref (a 4)) b (mw_0 cy a S) rfl in_X12 (by decide) wf_X12_23 rfl dX12_packs_41 ?_
  refine z_iconst (v := 3) b dX12_packs_44 (by decide) ?_
  refine z_iload_n b dX12_packs_45 rfl rfl ?_
  refine z_imul (v := 6) b dX12_packs_46 (by decide) ?_
  refine z_iload_n b dX12_packs_47 rfl rfl ?_
  refine z_iconst (v := 0) b dX12_packs_48 (by decide) ?_
  refine z_calli b (z_runS (As := [.int 2, .int 0]) (st := [.int 6, .ref (a 4), .long 6442649606]) b (c_X12_other_2 S ) cf_X12_other wm_X12_160 ws_X12_other dX12_packs_49 rfl (Nat.le_of_ble_eq_true rfl) ⟨by decide, by decide, by decide, by decide⟩) (fun r3115 u3116 h3114 => ?_)
  obtain ⟨rfl, rfl⟩ := h3114
  refine z_iadd (v := 6) b dX12_packs_52 (by decide) ?_
  refine y_zald (q0 := 4) (j := 6) (v := (ar S 3 6)) b (mw_4 cy a S) (by decide) rfl dX12_packs_53 ?_
  refine z_eqi h_a_3_6 ?_
  refine z_if_eq_t (tgt := 61) b dX12_packs_54 (by decide) (by decide) ?_
  refine z_lconst (v := 0) b dX12_packs_61 (by decide) ?_
  refine z_lor (v := 6442649606) b dX12_packs_62 (by decide) ?_
  refine z_lstore_n (lv' := [(1, .long 6442649606), (3, .int 2), (4, .int 2), (0, .ref (a 0))]) b dX12_packs_63 rfl (by decide) rfl ?_
  refine z_iconst (v := 0) b dX12_packs_64 (by decide) ?_
  refine z_istore (lv' := [(4, .int 0), (1, .long 6442649606), (3, .int 2), (0, .ref (a 0))]) b dX12_packs_65 (by decide) rfl ?_
  refine z_iload b dX12_packs_67 rfl ?_
  refine z_iconst (v := 2) b dX12_packs_69 (by decide) ?_
  refine z_icmp_ge_f (tgt := 128) b dX12_packs_70 (by decide) (by decide) ?_
  refine z_lload_n b dX12_packs_73 rfl rfl ?_
  refine z_iconst (v := 3) b dX12_packs_74 (by decide) ?_
  refine z_lshl (v := 51541196848) b dX12_packs_75 (by decide) ?_
  refine z_aload_n b dX12_packs_76 rfl rfl ?_
  refine z_get (q0 := 0) (k9 := 1) (v := .ref (a 2)) b (mw_0 cy a S) rfl in_X12 (by decide) wf_X12_17 rfl dX12_packs_77 ?_
  refine z_iconst (v := 3) b dX12_packs_80 (by decide) ?_
  refine z_iload_n b dX12_packs_81 rfl rfl ?_
  refine z_imul (v := 6) b dX12_packs_82 (by decide) ?_
  refine z_iload_n b dX12_packs_83 rfl rfl ?_
  refine z_iload b dX12_packs_84 rfl ?_
  refine z_calli b (z_runS (As := [.int 2, .int 0]) (st := [.int 6, .ref (a 2), .long 51541196848]) b (c_X12_other_2 S ) cf_X12_other wm_X12_160 ws_X12_other dX12_packs_86 rfl (Nat.le_of_ble_eq_true rfl) ⟨by decide, by decide, by decide, by decide⟩) (fun r3118 u3119 h3117 => ?_)
  obtain ⟨rfl, rfl⟩ := h3117
  refine z_iadd (v := 6) b dX12_packs_89 (by decide) ?_
  refine y_iald (q0 := 2) (j := 6) (v := (ar S 1 6)) b (mw_2 cy a S) (by decide) rfl dX12_packs_90 ?_
  refine z_eqi h_a_1_6 ?_
  refine z_i2l (v := 0) b dX12_packs_91 (by decide) ?_
  refine z_lor (v := 51541196848) b dX12_packs_92 (by decide) ?_
  refine z_lstore_n (lv' := [(1, .long 51541196848), (4, .int 0), (3, .int 2), (0, .ref (a 0))]) b dX12_packs_93 rfl (by decide) rfl ?_
  refine z_lload_n b dX12_packs_94 rfl rfl ?_
  refine z_iconst (v := 1) b dX12_packs_95 (by decide) ?_
  refine z_lshl (v := 103082393696) b dX12_packs_96 (by decide) ?_
  refine z_aload_n b dX12_packs_97 rfl rfl ?_
  refine z_get (q0 := 0) (k9 := 4) (v := .ref (a 5)) b (mw_0 cy a S) rfl in_X12 (by decide) wf_X12_27 rfl dX12_packs_98 ?_
  refine z_iconst (v := 3) b dX12_packs_101 (by decide) ?_
  refine z_iload_n b dX12_packs_102 rfl rfl ?_
  refine z_imul (v := 6) b dX12_packs_103 (by decide) ?_
  refine z_iload_n b dX12_packs_104 rfl rfl ?_
  refine z_iload b dX12_packs_105 rfl ?_
  refine z_calli b (z_runS (As := [.int 2, .int 0]) (st := [.int 6, .ref (a 5), .long 103082393696]) b (c_X12_other_2 S ) cf_X12_other wm_X12_160 ws_X12_other dX12_packs_107 rfl (Nat.le_of_ble_eq_true rfl) ⟨by decide, by decide, by decide, by decide⟩) (fun r3121 u3122 h3120 => ?_)
  obtain ⟨rfl, rfl⟩ := h3120
  refine z_iadd (v := 6) b dX12_packs_110 (by decide) ?_
  refine y_zald (q0 := 5) (j := 6) (v := (ar S 4 6)) b (mw_5 cy a S) (by decide) rfl dX12_packs_111 ?_
  refine z_eqi h_a_4_6 ?_
  refine z_if_eq_t (tgt := 119) b dX12_packs_112 (by decide) (by decide) ?_
  refine z_lconst (v := 0) b dX12_packs_119 (by decide) ?_
  refine z_lor (v := 103082393696) b dX12_packs_120 (by decide) ?_
  refine z_lstore_n (lv' := [(1, .long 103082393696), (4, .int 0), (3, .int 2), (0, .ref (a 0))]) b dX12_packs_121 rfl (by decide) rfl ?_
  refine z_iinc (k9 := 1) (v := 1) (lv' := [(4, .int 1), (1, .long 103082393696), (3, .int 2), (0, .ref (a 0))]) b dX12_packs_122 rfl (by decide) (by decide) rfl ?_
  refine z_goto (tgt := 67) b dX12_packs_125 (by decide) ?_
  refine z_iload b dX12_packs_67 rfl ?_
  refine z_iconst (v := 2) b dX12_packs_69 (by decide) ?_
  refine z_icmp_ge_f (tgt := 128) b dX12_packs_70 (by decide) (by decide) ?_
  refine z_lload_n b dX12_packs_73 rfl rfl ?_
  refine z_iconst (v := 3) b dX12_packs_74 (by decide) ?_
  refine z_lshl (v := 824659149568) b dX12_packs_75 (by decide) ?_
  refine z_aload_n b dX12_packs_76 rfl rfl ?_
  refine z_get (q0 := 0) (k9 := 1) (v := .ref (a 2)) b (mw_0 cy a S) rfl in_X12 (by decide) wf_X12_17 rfl dX12_packs_77 ?_
  refine z_iconst (v := 3) b dX12_packs_80 (by decide) ?_
  refine z_iload_n b dX12_packs_81 rfl rfl ?_
  refine z_imul (v := 6) b dX12_packs_82 (by decide) ?_
  refine z_iload_n b dX12_packs_83 rfl rfl ?_
  refine z_iload b dX12_packs_84 rfl ?_
  refine z_calli b (z_runS (As := [.int 2, .int 1]) (st := [.int 6, .ref (a 2), .long 824659149568]) b (c_X12_other S ) cf_X12_other wm_X12_160 ws_X12_other dX12_packs_86 rfl (Nat.le_of_ble_eq_true rfl) ⟨by decide, by decide, by decide, by decide⟩) (fun r3124 u3125 h3123 => ?_)
  obtain ⟨rfl, rfl⟩ := h3123
  refine z_iadd (v := 7) b dX12_packs_89 (by decide) ?_
  refine y_iald (q0 := 2) (j := 7) (v := (ar S 1 7)) b (mw_2 cy a S) (by decide) rfl dX12_packs_90 ?_
  refine z_eqi h_a_1_7 ?_
  refine z_i2l (v := 0) b dX12_packs_91 (by decide) ?_
  refine z_lor (v := 824659149568) b dX12_packs_92 (by decide) ?_
  refine z_lstore_n (lv' := [(1, .long 824659149568), (4, .int 1), (3, .int 2), (0, .ref (a 0))]) b dX12_packs_93 rfl (by decide) rfl ?_
  refine z_lload_n b dX12_packs_94 rfl rfl ?_
  refine z_iconst (v := 1) b dX12_packs_95 (by decide) ?_
  refine z_lshl (v := 1649318299136) b dX12_packs_96 (by decide) ?_
  refine z_aload_n b dX12_packs_97 rfl rfl ?_
  refine z_get (q0 := 0) (k9 := 4) (v := .ref (a 5)) b (mw_0 cy a S) rfl in_X12 (by decide) wf_X12_27 rfl dX12_packs_98 ?_
  refine z_iconst (v := 3) b dX12_packs_101 (by decide) ?_
  refine z_iload_n b dX12_packs_102 rfl rfl ?_
  refine z_imul (v := 6) b dX12_packs_103 (by decide) ?_
  refine z_iload_n b dX12_packs_104 rfl rfl ?_
  refine z_iload b dX12_packs_105 rfl ?_
  refine z_calli b (z_runS (As := [.int 2, .int 1]) (st := [.int 6, .ref (a 5), .long 1649318299136]) b (c_X12_other S ) cf_X12_other wm_X12_160 ws_X12_other dX12_packs_107 rfl (Nat.le_of_ble_eq_true rfl) ⟨by decide, by decide, by decide, by decide⟩) (fun r3127 u3128 h3126 => ?_)
  obtain ⟨rfl, rfl⟩ := h3126
  refine z_iadd (v := 7) b dX12_packs_110 (by decide) ?_
  refine y_zald (q0 := 5) (j := 7) (v := (ar S 4 7)) b (mw_5 cy a S) (by decide) rfl dX12_packs_111 ?_
  refine z_eqi h_a_4_7 ?_
  refine z_if_eq_t (tgt := 119) b dX12_packs_112 (by decide) (by decide) ?_
  refine z_lconst (v := 0) b dX12_packs_119 (by decide) ?_
  refine z_lor (v := 1649318299136) b dX12_packs_120 (by decide) ?_
  refine z_lstore_n (lv' := [(1, .long 1649318299136), (4, .int 1), (3, .int 2), (0, .ref (a 0))]) b dX12_packs_121 rfl (by decide) rfl ?_
  refine z_iinc (k9 := 1) (v := 2) (lv' := [(4, .int 2), (1, .long 1649318299136), (3, .int 2), (0, .ref (a 0))]) b dX12_packs_122 rfl (by decide) (by decide) rfl ?_
  refine z_goto (tgt := 67) b dX12_packs_125 (by decide) ?_
  refine z_iload b dX12_packs_67 rfl ?_
  refine z_iconst (v := 2) b dX12_packs_69 (by decide) ?_
  refine z_icmp_ge_t (tgt := 128) b dX12_packs_70 (by decide) (by decide) ?_
  refine z_iinc (k9 := 2) (v := 3) (lv' := [(3, .int 3), (4, .int 2), (1, .long 1649318299136), (0, .ref (a 0))]) b dX12_packs_128 rfl (by decide) (by decide) rfl ?_
  refine z_goto (tgt := 8) b dX12_packs_131 (by decide) ?_
  refine z_iload_n b dX12_packs_8 rfl rfl ?_
  refine z_iconst (v := 3) b dX12_packs_9 (by decide) ?_
  refine z_icmp_ge_t (tgt := 134) b dX12_packs_10 (by decide) (by decide) ?_
  refine z_lload_n b dX12_packs_134 rfl rfl ?_
  exact z_lret (u := S) b rfl dX12_packs_135 ⟨rfl, rfl⟩ rfl (by decide) (by decide)

set_option maxHeartbeats 4000000 in
set_option maxRecDepth 100000 in
theorem c_X12_told_21 {l : Launch} {D : va_G} {cy : Nat → ClassId} {T0 tB tE : Nat} {a : Nat → Nat} (S : GS)  (h_i_0 : fi S 0 = 0) (h_a_0_0 : ar S 0 0 = 0) (h_a_2_0 : ar S 2 0 = 3) (h_a_3_1 : ar S 3 1 = 0) (h_a_1_1 : ar S 1 1 = 0) (h_a_4_1 : ar S 4 1 = 0) (h_a_1_2 : ar S 1 2 = 0) (h_a_4_2 : ar S 4 2 = 0) (h_a_0_1 : ar S 0 1 = 0) (h_a_2_1 : ar S 2 1 = 3) (h_a_3_5 : ar S 3 5 = 0) (h_a_1_5 : ar S 1 5 = 0) (h_a_4_5 : ar S 4 5 = 1) (h_a_1_3 : ar S 1 3 = 0) (h_a_4_3 : ar S 4 3 = 0) (h_a_0_2 : ar S 0 2 = 0) (h_a_2_2 : ar S 2 2 = 3) (h_a_3_6 : ar S 3 6 = 0) (h_a_1_6 : ar S 1 6 = 0) (h_a_4_6 : ar S 4 6 = 0) (h_a_1_7 : ar S 1 7 = 0) (h_a_4_7 : ar S 4 7 = 0) : Ct l D cy T0 tB tE yX12_told cX12_told 1 (some .boolean) 2 45 0 0 (mw cy a S) [.ref (a 0)] (QI D (U := GS) (fun r u => 1 = r ∧ sl S 0 1649318299136 = u) (mw cy a)) := by
  refine Ct.ofZ RX12 "told" [(0, .ref (a 0))] rfl rfl rfl rfl (Nat.le_of_ble_eq_true rfl) ?_
  intro p e R s m args below meth c A b
  refine z_aload_n b dX12_told_0 rfl rfl ?_
  refine z_aload_n b dX12_told_1 rfl rfl ?_
  refine z_calll b (z_runV (q0 := 0) (As := []) (st := [.ref (a 0)]) b (c_X12_packs_21 S h_i_0 h_a_0_0 h_a_2_0 h_a_3_1 h_a_1_1 h_a_4_1 h_a_1_2 h_a_4_2 h_a_0_1 h_a_2_1 h_a_3_5 h_a_1_5 h_a_4_5 h_a_1_3 h_a_4_3 h_a_0_2 h_a_2_2 h_a_3_6 h_a_1_6 h_a_4_6 h_a_1_7 h_a_4_7) cf_X12_packs (mw_0 cy a S) rfl wm_X12_149 wi_X12_packs ws_X12_packs dX12_told_2 rfl (Nat.le_of_ble_eq_true rfl) ⟨by decide, by decide, by decide, by decide⟩) (fun r3130 u3131 h3129 => ?_)
  obtain ⟨rfl, rfl⟩ := h3129
  refine z_put (q0 := 0) (k9 := 6) tyX12 b (mw_0 cy a S) rfl in_X12 tyX12_ok nmX12 (by decide) wf_X12_153 rfl rfl rfl rfl (Nat.le_of_ble_eq_true rfl) dX12_told_5 (mwp_0_6 cy a S 1649318299136) ?_
  refine z_iconst (v := 1) b dX12_told_8 (by decide) ?_
  exact z_zret (u := (sl S 0 1649318299136)) b rfl (by decide) dX12_told_9 ⟨rfl, rfl⟩ rfl (by decide) (by decide)

set_option maxHeartbeats 4000000 in
set_option maxRecDepth 100000 in
theorem c_X12_kin_52 {l : Launch} {D : va_G} {cy : Nat → ClassId} {T0 tB tE : Nat} {a : Nat → Nat} (S : GS)  (h_l_0 : fl S 0 = 1649317774848) (h_a_4_7 : ar S 4 7 = 0) (h_a_1_7 : ar S 1 7 = 0) (h_a_4_6 : ar S 4 6 = 0) (h_a_1_6 : ar S 1 6 = 0) (h_a_3_6 : ar S 3 6 = 0) (h_a_3_2 : ar S 3 2 = 0) (h_a_2_2 : ar S 2 2 = 3) (h_a_0_2 : ar S 0 2 = 0) (h_a_4_3 : ar S 4 3 = 0) (h_a_1_3 : ar S 1 3 = 0) (h_a_4_5 : ar S 4 5 = 0) (h_a_1_5 : ar S 1 5 = 0) (h_a_3_5 : ar S 3 5 = 0) (h_a_3_7 : ar S 3 7 = 0) (h_a_2_1 : ar S 2 1 = 3) (h_a_0_1 : ar S 0 1 = 0) (h_a_4_2 : ar S 4 2 = 0) (h_a_1_2 : ar S 1 2 = 0) (h_a_4_1 : ar S 4 1 = 0) (h_a_1_1 : ar S 1 1 = 0) (h_a_3_1 : ar S 3 1 = 0) (h_a_3_3 : ar S 3 3 = 0) (h_a_2_0 : ar S 2 0 = 3) (h_a_0_0 : ar S 0 0 = 0) (h_i_0 : fi S 0 = 0) : Ct l D cy T0 tB tE yX12_kin cX12_kin 5 (some .boolean) 3 65 0 0 (mw cy a S) [.ref (a 0), .int 1, .int 2, .int 1, .int 1] (QI D (U := GS) (fun r u => 1 = r ∧ sl (su S 4 5 1) 0 1649318299136 = u) (mw cy a)) := by
  refine Ct.ofZ RX12 "kin" [(0, .ref (a 0)), (1, .int 1), (2, .int 2), (3, .int 1), (4, .int 1)] rfl rfl rfl rfl (Nat.le_of_ble_eq_true rfl) ?_
  intro p e R s m args below meth c A b
  refine z_iload_n b dX12_kin_0 rfl rfl ?_
  refine z_calli b (z_runS (As := [.int 1]) (st := []) b (c_X12_isOne_3 S ) cf_X12_isOne wm_X12_170 ws_X12_isOne dX12_kin_1 rfl (Nat.le_of_ble_eq_true rfl) ⟨by decide, by decide, by decide, by decide⟩) (fun r3073 u3074 h3072 => ?_)
  obtain ⟨rfl, rfl⟩ := h3072
  refine z_if_eq_f (tgt := 28) b dX12_kin_4 (by decide) (by decide) ?_
  refine z_iload_n b dX12_kin_7 rfl rfl ?_
  refine z_calli b (z_runS (As := [.int 2]) (st := []) b (c_X12_isOne_4 S ) cf_X12_isOne wm_X12_170 ws_X12_isOne dX12_kin_8 rfl (Nat.le_of_ble_eq_true rfl) ⟨by decide, by decide, by decide, by decide⟩) (fun r3076 u3077 h3075 => ?_)
  obtain ⟨rfl, rfl⟩ := h3075
  refine z_if_eq_f (tgt := 28) b dX12_kin_11 (by decide) (by decide) ?_
  refine z_iload_n b dX12_kin_14 rfl rfl ?_
  refine z_iload_n b dX12_kin_15 rfl rfl ?_
  refine z_icmp_eq_f (tgt := 28) b dX12_kin_16 (by decide) (by decide) ?_
  refine z_iload_n b dX12_kin_19 rfl rfl ?_
  refine z_iconst (v := 0) b dX12_kin_20 (by decide) ?_
  refine z_iconst (v := 1) b dX12_kin_21 (by decide) ?_
  refine z_calli b (z_runS (As := [.int 1, .int 0, .int 1]) (st := []) b (c_X12_isIn_10 S ) cf_X12_isIn wm_X12_1 ws_X12_isIn dX12_kin_22 rfl (Nat.le_of_ble_eq_true rfl) ⟨by decide, by decide, by decide, by decide⟩) (fun r3079 u3080 h3078 => ?_)
  obtain ⟨rfl, rfl⟩ := h3078
  refine z_if_ne_t (tgt := 30) b dX12_kin_25 (by decide) (by decide) ?_
  refine z_aload_n b dX12_kin_30 rfl rfl ?_
  refine z_aload_n b dX12_kin_31 rfl rfl ?_
  refine z_get (q0 := 0) (k9 := 6) (v := .long (fl S 0)) b (mw_0 cy a S) rfl in_X12 (by decide) wf_X12_153 rfl dX12_kin_32 ?_
  refine z_eql h_l_0 ?_
  refine z_callv b (z_runV (q0 := 0) (As := [.long 1649317774848]) (st := []) b (c_X12_takes S h_a_4_7 h_a_1_7 h_a_4_6 h_a_1_6 h_a_3_6 h_a_3_2 h_a_2_2 h_a_0_2 h_a_4_3 h_a_1_3 h_a_4_5 h_a_1_5 h_a_3_5 h_a_3_7 h_a_2_1 h_a_0_1 h_a_4_2 h_a_1_2 h_a_4_1 h_a_1_1 h_a_3_1 h_a_3_3 h_a_2_0 h_a_0_0 h_i_0) cf_X12_takes (mw_0 cy a S) rfl wm_X12_174 wi_X12_takes ws_X12_takes dX12_kin_35 rfl (Nat.le_of_ble_eq_true rfl) ⟨by decide, by decide, by decide, by decide⟩) (fun u3083 h3081 => ?_)
  obtain rfl := h3081
  refine z_iload_n b dX12_kin_38 rfl rfl ?_
  refine z_iconst (v := 1) b dX12_kin_39 (by decide) ?_
  refine z_icmp_ne_f (tgt := 58) b dX12_kin_40 (by decide) (by decide) ?_
  refine z_aload_n b dX12_kin_43 rfl rfl ?_
  refine z_get (q0 := 0) (k9 := 4) (v := .ref (a 5)) b (mw_0 cy a S) rfl in_X12 (by decide) wf_X12_27 rfl dX12_kin_44 ?_
  refine z_iconst (v := 3) b dX12_kin_47 (by decide) ?_
  refine z_iload_n b dX12_kin_48 rfl rfl ?_
  refine z_imul (v := 3) b dX12_kin_49 (by decide) ?_
  refine z_iload_n b dX12_kin_50 rfl rfl ?_
  refine z_iadd (v := 5) b dX12_kin_51 (by decide) ?_
  refine z_iload b dX12_kin_52 rfl ?_
  refine y_zast (q0 := 5) (j := 5) b (mw_5 cy a S) (by decide) (by decide) dX12_kin_54 (mwa_5 cy a S 5 1) ?_
  refine z_goto (tgt := 82) b dX12_kin_55 (by decide) ?_
  refine z_aload_n b dX12_kin_82 rfl rfl ?_
  refine z_calli b (z_runV (q0 := 0) (As := []) (st := []) b (c_X12_told_21 (su S 4 5 1) h_i_0 h_a_0_0 h_a_2_0 h_a_3_1 h_a_1_1 h_a_4_1 h_a_1_2 h_a_4_2 h_a_0_1 h_a_2_1 h_a_3_5 h_a_1_5 rfl h_a_1_3 h_a_4_3 h_a_0_2 h_a_2_2 h_a_3_6 h_a_1_6 h_a_4_6 h_a_1_7 h_a_4_7) cf_X12_told (mw_0 cy a (su S 4 5 1)) rfl wm_X12_178 wi_X12_told ws_X12_told dX12_kin_83 rfl (Nat.le_of_ble_eq_true rfl) ⟨by decide, by decide, by decide, by decide⟩) (fun r3133 u3134 h3132 => ?_)
  obtain ⟨rfl, rfl⟩ := h3132
  exact z_zret (u := (sl (su S 4 5 1) 0 1649318299136)) b rfl (by decide) dX12_kin_86 ⟨rfl, rfl⟩ rfl (by decide) (by decide)

set_option maxHeartbeats 4000000 in
set_option maxRecDepth 100000 in
theorem c_X11_kin_53 {l : Launch} {D : va_G} {cy : Nat → ClassId} {T0 tB tE : Nat} {a : Nat → Nat} {rw : Nat → Option Nat} (S : GS) (p0 : Int32)  (hr_p0 : 2 ≤ p0.toInt ∧ p0.toInt ≤ 2147483647) : Ct l D cy T0 tB tE yX11_kin cX11_kin 6 (some .boolean) 2 41 0 0 (cw cy tE a rw S) [.ref (a 0), .int 1, .int 2, .int p0, .int 0] (QI D (U := GS) (fun r u => 0 = r ∧ S = u) (cw cy tE a rw)) := by
  refine Ct.ofZ RX11 "kin" [(0, .ref (a 0)), (1, .int 1), (2, .int 2), (3, .int p0), (4, .int 0)] rfl rfl rfl rfl (Nat.le_of_ble_eq_true rfl) ?_
  intro p e R s m args below meth c A b
  refine z_iload_n b dX11_kin_0 rfl rfl ?_
  refine z_iload_n b dX11_kin_1 rfl rfl ?_
  refine z_calli b (z_runS (As := [.int 1, .int 2]) (st := []) b (c_X11_arePair_11 S ) cf_X11_arePair wm_X11_84 ws_X11_arePair dX11_kin_2 rfl (Nat.le_of_ble_eq_true rfl) ⟨by decide, by decide, by decide, by decide⟩) (fun r3136 u3137 h3135 => ?_)
  obtain ⟨rfl, rfl⟩ := h3135
  refine z_if_eq_f (tgt := 16) b dX11_kin_5 (by decide) (by decide) ?_
  refine z_iload_n b dX11_kin_8 rfl rfl ?_
  refine z_iconst (v := 1) b dX11_kin_9 (by decide) ?_
  refine z_calli b (z_runS (As := [.int p0, .int 1]) (st := []) b (c_X11_isWithin_4 S p0 ) cf_X11_isWithin wm_X11_73 ws_X11_isWithin dX11_kin_10 rfl (Nat.le_of_ble_eq_true rfl) ⟨by decide, by decide, by decide, by decide⟩) (fun r3139 u3140 h3138 => ?_)
  rcases h3138 with ⟨c3141, rfl, rfl⟩ | ⟨c3142, rfl, rfl⟩
  · refine z_if_ne_f (tgt := 18) b dX11_kin_13 (by decide) (by decide) ?_
    refine z_iconst (v := 0) b dX11_kin_16 (by decide) ?_
    exact z_zret (u := S) b rfl (by decide) dX11_kin_17 ⟨rfl, rfl⟩ rfl (by decide) (by decide)
  · exfalso; omega

set_option maxHeartbeats 4000000 in
set_option maxRecDepth 100000 in
theorem c_X12_kin_53 {l : Launch} {D : va_G} {cy : Nat → ClassId} {T0 tB tE : Nat} {a : Nat → Nat} (S : GS) (p0 : Int32)  (hr_p0 : 2 ≤ p0.toInt ∧ p0.toInt ≤ 2147483647) : Ct l D cy T0 tB tE yX12_kin cX12_kin 5 (some .boolean) 2 42 0 0 (mw cy a S) [.ref (a 0), .int 1, .int 2, .int p0, .int 0] (QI D (U := GS) (fun r u => 0 = r ∧ S = u) (mw cy a)) := by
  refine Ct.ofZ RX12 "kin" [(0, .ref (a 0)), (1, .int 1), (2, .int 2), (3, .int p0), (4, .int 0)] rfl rfl rfl rfl (Nat.le_of_ble_eq_true rfl) ?_
  intro p e R s m args below meth c A b
  refine z_iload_n b dX12_kin_0 rfl rfl ?_
  refine z_calli b (z_runS (As := [.int 1]) (st := []) b (c_X12_isOne_3 S ) cf_X12_isOne wm_X12_170 ws_X12_isOne dX12_kin_1 rfl (Nat.le_of_ble_eq_true rfl) ⟨by decide, by decide, by decide, by decide⟩) (fun r3144 u3145 h3143 => ?_)
  obtain ⟨rfl, rfl⟩ := h3143
  refine z_if_eq_f (tgt := 28) b dX12_kin_4 (by decide) (by decide) ?_
  refine z_iload_n b dX12_kin_7 rfl rfl ?_
  refine z_calli b (z_runS (As := [.int 2]) (st := []) b (c_X12_isOne_4 S ) cf_X12_isOne wm_X12_170 ws_X12_isOne dX12_kin_8 rfl (Nat.le_of_ble_eq_true rfl) ⟨by decide, by decide, by decide, by decide⟩) (fun r3147 u3148 h3146 => ?_)
  obtain ⟨rfl, rfl⟩ := h3146
  refine z_if_eq_f (tgt := 28) b dX12_kin_11 (by decide) (by decide) ?_
  refine z_iload_n b dX12_kin_14 rfl rfl ?_
  refine z_iload_n b dX12_kin_15 rfl rfl ?_
  refine z_icmp_eq_f (tgt := 28) b dX12_kin_16 (by decide) (by decide) ?_
  refine z_iload_n b dX12_kin_19 rfl rfl ?_
  refine z_iconst (v := 0) b dX12_kin_20 (by decide) ?_
  refine z_iconst (v := 1) b dX12_kin_21 (by decide) ?_
  refine z_calli b (z_runS (As := [.int p0, .int 0, .int 1]) (st := []) b (c_X12_isIn_8 S p0 ) cf_X12_isIn wm_X12_1 ws_X12_isIn dX12_kin_22 rfl (Nat.le_of_ble_eq_true rfl) ⟨by decide, by decide, by decide, by decide⟩) (fun r3150 u3151 h3149 => ?_)
  rcases h3149 with ⟨c3152, rfl, rfl⟩ | ⟨c3153, rfl, rfl⟩
  · refine z_if_ne_f (tgt := 30) b dX12_kin_25 (by decide) (by decide) ?_
    refine z_iconst (v := 0) b dX12_kin_28 (by decide) ?_
    exact z_zret (u := S) b rfl (by decide) dX12_kin_29 ⟨rfl, rfl⟩ rfl (by decide) (by decide)
  · exfalso; omega

set_option maxHeartbeats 4000000 in
set_option maxRecDepth 100000 in
theorem c_X11_kin_54 {l : Launch} {D : va_G} {cy : Nat → ClassId} {T0 tB tE : Nat} {a : Nat → Nat} {rw : Nat → Option Nat} (S : GS) (p0 : Int32)  (hr_p0 : 2 ≤ p0.toInt ∧ p0.toInt ≤ 2147483647) : Ct l D cy T0 tB tE yX11_kin cX11_kin 6 (some .boolean) 2 41 0 0 (cw cy tE a rw S) [.ref (a 0), .int 1, .int 2, .int p0, .int 1] (QI D (U := GS) (fun r u => 0 = r ∧ S = u) (cw cy tE a rw)) := by
  refine Ct.ofZ RX11 "kin" [(0, .ref (a 0)), (1, .int 1), (2, .int 2), (3, .int p0), (4, .int 1)] rfl rfl rfl rfl (Nat.le_of_ble_eq_true rfl) ?_
  intro p e R s m args below meth c A b
  refine z_iload_n b dX11_kin_0 rfl rfl ?_
  refine z_iload_n b dX11_kin_1 rfl rfl ?_
  refine z_calli b (z_runS (As := [.int 1, .int 2]) (st := []) b (c_X11_arePair_11 S ) cf_X11_arePair wm_X11_84 ws_X11_arePair dX11_kin_2 rfl (Nat.le_of_ble_eq_true rfl) ⟨by decide, by decide, by decide, by decide⟩) (fun r3155 u3156 h3154 => ?_)
  obtain ⟨rfl, rfl⟩ := h3154
  refine z_if_eq_f (tgt := 16) b dX11_kin_5 (by decide) (by decide) ?_
  refine z_iload_n b dX11_kin_8 rfl rfl ?_
  refine z_iconst (v := 1) b dX11_kin_9 (by decide) ?_
  refine z_calli b (z_runS (As := [.int p0, .int 1]) (st := []) b (c_X11_isWithin_4 S p0 ) cf_X11_isWithin wm_X11_73 ws_X11_isWithin dX11_kin_10 rfl (Nat.le_of_ble_eq_true rfl) ⟨by decide, by decide, by decide, by decide⟩) (fun r3158 u3159 h3157 => ?_)
  rcases h3157 with ⟨c3160, rfl, rfl⟩ | ⟨c3161, rfl, rfl⟩
  · refine z_if_ne_f (tgt := 18) b dX11_kin_13 (by decide) (by decide) ?_
    refine z_iconst (v := 0) b dX11_kin_16 (by decide) ?_
    exact z_zret (u := S) b rfl (by decide) dX11_kin_17 ⟨rfl, rfl⟩ rfl (by decide) (by decide)
  · exfalso; omega

set_option maxHeartbeats 4000000 in
set_option maxRecDepth 100000 in
theorem c_X12_kin_54 {l : Launch} {D : va_G} {cy : Nat → ClassId} {T0 tB tE : Nat} {a : Nat → Nat} (S : GS) (p0 : Int32)  (hr_p0 : 2 ≤ p0.toInt ∧ p0.toInt ≤ 2147483647) : Ct l D cy T0 tB tE yX12_kin cX12_kin 5 (some .boolean) 2 42 0 0 (mw cy a S) [.ref (a 0), .int 1, .int 2, .int p0, .int 1] (QI D (U := GS) (fun r u => 0 = r ∧ S = u) (mw cy a)) := by
  refine Ct.ofZ RX12 "kin" [(0, .ref (a 0)), (1, .int 1), (2, .int 2), (3, .int p0), (4, .int 1)] rfl rfl rfl rfl (Nat.le_of_ble_eq_true rfl) ?_
  intro p e R s m args below meth c A b
  refine z_iload_n b dX12_kin_0 rfl rfl ?_
  refine z_calli b (z_runS (As := [.int 1]) (st := []) b (c_X12_isOne_3 S ) cf_X12_isOne wm_X12_170 ws_X12_isOne dX12_kin_1 rfl (Nat.le_of_ble_eq_true rfl) ⟨by decide, by decide, by decide, by decide⟩) (fun r3163 u3164 h3162 => ?_)
  obtain ⟨rfl, rfl⟩ := h3162
  refine z_if_eq_f (tgt := 28) b dX12_kin_4 (by decide) (by decide) ?_
  refine z_iload_n b dX12_kin_7 rfl rfl ?_
  refine z_calli b (z_runS (As := [.int 2]) (st := []) b (c_X12_isOne_4 S ) cf_X12_isOne wm_X12_170 ws_X12_isOne dX12_kin_8 rfl (Nat.le_of_ble_eq_true rfl) ⟨by decide, by decide, by decide, by decide⟩) (fun r3166 u3167 h3165 => ?_)
  obtain ⟨rfl, rfl⟩ := h3165
  refine z_if_eq_f (tgt := 28) b dX12_kin_11 (by decide) (by decide) ?_
  refine z_iload_n b dX12_kin_14 rfl rfl ?_
  refine z_iload_n b dX12_kin_15 rfl rfl ?_
  refine z_icmp_eq_f (tgt := 28) b dX12_kin_16 (by decide) (by decide) ?_
  refine z_iload_n b dX12_kin_19 rfl rfl ?_
  refine z_iconst (v := 0) b dX12_kin_20 (by decide) ?_
  refine z_iconst (v := 1) b dX12_kin_21 (by decide) ?_
  refine z_calli b (z_runS (As := [.int p0, .int 0, .int 1]) (st := []) b (c_X12_isIn_8 S p0 ) cf_X12_isIn wm_X12_1 ws_X12_isIn dX12_kin_22 rfl (Nat.le_of_ble_eq_true rfl) ⟨by decide, by decide, by decide, by decide⟩) (fun r3169 u3170 h3168 => ?_)
  rcases h3168 with ⟨c3171, rfl, rfl⟩ | ⟨c3172, rfl, rfl⟩
  · refine z_if_ne_f (tgt := 30) b dX12_kin_25 (by decide) (by decide) ?_
    refine z_iconst (v := 0) b dX12_kin_28 (by decide) ?_
    exact z_zret (u := S) b rfl (by decide) dX12_kin_29 ⟨rfl, rfl⟩ rfl (by decide) (by decide)
  · exfalso; omega

set_option maxHeartbeats 4000000 in
set_option maxRecDepth 100000 in
theorem c_X11_kin_55 {l : Launch} {D : va_G} {cy : Nat → ClassId} {T0 tB tE : Nat} {a : Nat → Nat} {rw : Nat → Option Nat} (S : GS) (p0 : Int32)  (hr_p0 : (-2147483648) ≤ p0.toInt ∧ p0.toInt ≤ (-1)) : Ct l D cy T0 tB tE yX11_kin cX11_kin 6 (some .boolean) 2 41 0 0 (cw cy tE a rw S) [.ref (a 0), .int 2, .int 0, .int p0, .int 0] (QI D (U := GS) (fun r u => 0 = r ∧ S = u) (cw cy tE a rw)) := by
  refine Ct.ofZ RX11 "kin" [(0, .ref (a 0)), (1, .int 2), (2, .int 0), (3, .int p0), (4, .int 0)] rfl rfl rfl rfl (Nat.le_of_ble_eq_true rfl) ?_
  intro p e R s m args below meth c A b
  refine z_iload_n b dX11_kin_0 rfl rfl ?_
  refine z_iload_n b dX11_kin_1 rfl rfl ?_
  refine z_calli b (z_runS (As := [.int 2, .int 0]) (st := []) b (c_X11_arePair_12 S ) cf_X11_arePair wm_X11_84 ws_X11_arePair dX11_kin_2 rfl (Nat.le_of_ble_eq_true rfl) ⟨by decide, by decide, by decide, by decide⟩) (fun r3174 u3175 h3173 => ?_)
  obtain ⟨rfl, rfl⟩ := h3173
  refine z_if_eq_f (tgt := 16) b dX11_kin_5 (by decide) (by decide) ?_
  refine z_iload_n b dX11_kin_8 rfl rfl ?_
  refine z_iconst (v := 1) b dX11_kin_9 (by decide) ?_
  refine z_calli b (z_runS (As := [.int p0, .int 1]) (st := []) b (c_X11_isWithin_4 S p0 ) cf_X11_isWithin wm_X11_73 ws_X11_isWithin dX11_kin_10 rfl (Nat.le_of_ble_eq_true rfl) ⟨by decide, by decide, by decide, by decide⟩) (fun r3177 u3178 h3176 => ?_)
  rcases h3176 with ⟨c3179, rfl, rfl⟩ | ⟨c3180, rfl, rfl⟩
  · refine z_if_ne_f (tgt := 18) b dX11_kin_13 (by decide) (by decide) ?_
    refine z_iconst (v := 0) b dX11_kin_16 (by decide) ?_
    exact z_zret (u := S) b rfl (by decide) dX11_kin_17 ⟨rfl, rfl⟩ rfl (by decide) (by decide)
  · exfalso; omega

set_option maxHeartbeats 4000000 in
set_option maxRecDepth 100000 in
theorem c_X12_kin_55 {l : Launch} {D : va_G} {cy : Nat → ClassId} {T0 tB tE : Nat} {a : Nat → Nat} (S : GS) (p0 : Int32)  (hr_p0 : (-2147483648) ≤ p0.toInt ∧ p0.toInt ≤ (-1)) : Ct l D cy T0 tB tE yX12_kin cX12_kin 5 (some .boolean) 2 42 0 0 (mw cy a S) [.ref (a 0), .int 2, .int 0, .int p0, .int 0] (QI D (U := GS) (fun r u => 0 = r ∧ S = u) (mw cy a)) := by
  refine Ct.ofZ RX12 "kin" [(0, .ref (a 0)), (1, .int 2), (2, .int 0), (3, .int p0), (4, .int 0)] rfl rfl rfl rfl (Nat.le_of_ble_eq_true rfl) ?_
  intro p e R s m args below meth c A b
  refine z_iload_n b dX12_kin_0 rfl rfl ?_
  refine z_calli b (z_runS (As := [.int 2]) (st := []) b (c_X12_isOne_4 S ) cf_X12_isOne wm_X12_170 ws_X12_isOne dX12_kin_1 rfl (Nat.le_of_ble_eq_true rfl) ⟨by decide, by decide, by decide, by decide⟩) (fun r3182 u3183 h3181 => ?_)
  obtain ⟨rfl, rfl⟩ := h3181
  refine z_if_eq_f (tgt := 28) b dX12_kin_4 (by decide) (by decide) ?_
  refine z_iload_n b dX12_kin_7 rfl rfl ?_
  refine z_calli b (z_runS (As := [.int 0]) (st := []) b (c_X12_isOne_2 S ) cf_X12_isOne wm_X12_170 ws_X12_isOne dX12_kin_8 rfl (Nat.le_of_ble_eq_true rfl) ⟨by decide, by decide, by decide, by decide⟩) (fun r3185 u3186 h3184 => ?_)
  obtain ⟨rfl, rfl⟩ := h3184
  refine z_if_eq_f (tgt := 28) b dX12_kin_11 (by decide) (by decide) ?_
  refine z_iload_n b dX12_kin_14 rfl rfl ?_
  refine z_iload_n b dX12_kin_15 rfl rfl ?_
  refine z_icmp_eq_f (tgt := 28) b dX12_kin_16 (by decide) (by decide) ?_
  refine z_iload_n b dX12_kin_19 rfl rfl ?_
  refine z_iconst (v := 0) b dX12_kin_20 (by decide) ?_
  refine z_iconst (v := 1) b dX12_kin_21 (by decide) ?_
  refine z_calli b (z_runS (As := [.int p0, .int 0, .int 1]) (st := []) b (c_X12_isIn_8 S p0 ) cf_X12_isIn wm_X12_1 ws_X12_isIn dX12_kin_22 rfl (Nat.le_of_ble_eq_true rfl) ⟨by decide, by decide, by decide, by decide⟩) (fun r3188 u3189 h3187 => ?_)
  rcases h3187 with ⟨c3190, rfl, rfl⟩ | ⟨c3191, rfl, rfl⟩
  · refine z_if_ne_f (tgt := 30) b dX12_kin_25 (by decide) (by decide) ?_
    refine z_iconst (v := 0) b dX12_kin_28 (by decide) ?_
    exact z_zret (u := S) b rfl (by decide) dX12_kin_29 ⟨rfl, rfl⟩ rfl (by decide) (by decide)
  · exfalso; omega

set_option maxHeartbeats 4000000 in
set_option maxRecDepth 100000 in
theorem c_X11_kin_56 {l : Launch} {D : va_G} {cy : Nat → ClassId} {T0 tB tE : Nat} {a : Nat → Nat} {rw : Nat → Option Nat} (S : GS) (p0 : Int32)  (hr_p0 : (-2147483648) ≤ p0.toInt ∧ p0.toInt ≤ (-1)) : Ct l D cy T0 tB tE yX11_kin cX11_kin 6 (some .boolean) 2 41 0 0 (cw cy tE a rw S) [.ref (a 0), .int 2, .int 0, .int p0, .int 1] (QI D (U := GS) (fun r u => 0 = r ∧ S = u) (cw cy tE a rw)) := by
  refine Ct.ofZ RX11 "kin" [(0, .ref (a 0)), (1, .int 2), (2, .int 0), (3, .int p0), (4, .int 1)] rfl rfl rfl rfl (Nat.le_of_ble_eq_true rfl) ?_
  intro p e R s m args below meth c A b
  refine z_iload_n b dX11_kin_0 rfl rfl ?_
  refine z_iload_n b dX11_kin_1 rfl rfl ?_
  refine z_calli b (z_runS (As := [.int 2, .int 0]) (st := []) b (c_X11_arePair_12 S ) cf_X11_arePair wm_X11_84 ws_X11_arePair dX11_kin_2 rfl (Nat.le_of_ble_eq_true rfl) ⟨by decide, by decide, by decide, by decide⟩) (fun r3193 u3194 h3192 => ?_)
  obtain ⟨rfl, rfl⟩ := h3192
  refine z_if_eq_f (tgt := 16) b dX11_kin_5 (by decide) (by decide) ?_
  refine z_iload_n b dX11_kin_8 rfl rfl ?_
  refine z_iconst (v := 1) b dX11_kin_9 (by decide) ?_
  refine z_calli b (z_runS (As := [.int p0, .int 1]) (st := []) b (c_X11_isWithin_4 S p0 ) cf_X11_isWithin wm_X11_73 ws_X11_isWithin dX11_kin_10 rfl (Nat.le_of_ble_eq_true rfl) ⟨by decide, by decide, by decide, by decide⟩) (fun r3196 u3197 h3195 => ?_)
  rcases h3195 with ⟨c3198, rfl, rfl⟩ | ⟨c3199, rfl, rfl⟩
  · refine z_if_ne_f (tgt := 18) b dX11_kin_13 (by decide) (by decide) ?_
    refine z_iconst (v := 0) b dX11_kin_16 (by decide) ?_
    exact z_zret (u := S) b rfl (by decide) dX11_kin_17 ⟨rfl, rfl⟩ rfl (by decide) (by decide)
  · exfalso; omega

set_option maxHeartbeats 4000000 in
set_option maxRecDepth 100000 in
theorem c_X12_kin_56 {l : Launch} {D : va_G} {cy : Nat → ClassId} {T0 tB tE : Nat} {a : Nat → Nat} (S : GS) (p0 : Int32)  (hr_p0 : (-2147483648) ≤ p0.toInt ∧ p0.toInt ≤ (-1)) : Ct l D cy T0 tB tE yX12_kin cX12_kin 5 (some .boolean) 2 42 0 0 (mw cy a S) [.ref (a 0), .int 2, .int 0, .int p0, .int 1] (QI D (U := GS) (fun r u => 0 = r ∧ S = u) (mw cy a)) := by
  refine Ct.ofZ RX12 "kin" [(0, .ref (a 0)), (1, .int 2), (2, .int 0), (3, .int p0), (4, .int 1)] rfl rfl rfl rfl (Nat.le_of_ble_eq_true rfl) ?_
  intro p e R s m args below meth c A b
  refine z_iload_n b dX12_kin_0 rfl rfl ?_
  refine z_calli b (z_runS (As := [.int 2]) (st := []) b (c_X12_isOne_4 S ) cf_X12_isOne wm_X12_170 ws_X12_isOne dX12_kin_1 rfl (Nat.le_of_ble_eq_true rfl) ⟨by decide, by decide, by decide, by decide⟩) (fun r3201 u3202 h3200 => ?_)
  obtain ⟨rfl, rfl⟩ := h3200
  refine z_if_eq_f (tgt := 28) b dX12_kin_4 (by decide) (by decide) ?_
  refine z_iload_n b dX12_kin_7 rfl rfl ?_
  refine z_calli b (z_runS (As := [.int 0]) (st := []) b (c_X12_isOne_2 S ) cf_X12_isOne wm_X12_170 ws_X12_isOne dX12_kin_8 rfl (Nat.le_of_ble_eq_true rfl) ⟨by decide, by decide, by decide, by decide⟩) (fun r3204 u3205 h3203 => ?_)
  obtain ⟨rfl, rfl⟩ := h3203
  refine z_if_eq_f (tgt := 28) b dX12_kin_11 (by decide) (by decide) ?_
  refine z_iload_n b dX12_kin_14 rfl rfl ?_
  refine z_iload_n b dX12_kin_15 rfl rfl ?_
  refine z_icmp_eq_f (tgt := 28) b dX12_kin_16 (by decide) (by decide) ?_
  refine z_iload_n b dX12_kin_19 rfl rfl ?_
  refine z_iconst (v := 0) b dX12_kin_20 (by decide) ?_
  refine z_iconst (v := 1) b dX12_kin_21 (by decide) ?_
  refine z_calli b (z_runS (As := [.int p0, .int 0, .int 1]) (st := []) b (c_X12_isIn_8 S p0 ) cf_X12_isIn wm_X12_1 ws_X12_isIn dX12_kin_22 rfl (Nat.le_of_ble_eq_true rfl) ⟨by decide, by decide, by decide, by decide⟩) (fun r3207 u3208 h3206 => ?_)
  rcases h3206 with ⟨c3209, rfl, rfl⟩ | ⟨c3210, rfl, rfl⟩
  · refine z_if_ne_f (tgt := 30) b dX12_kin_25 (by decide) (by decide) ?_
    refine z_iconst (v := 0) b dX12_kin_28 (by decide) ?_
    exact z_zret (u := S) b rfl (by decide) dX12_kin_29 ⟨rfl, rfl⟩ rfl (by decide) (by decide)
  · exfalso; omega

set_option maxHeartbeats 4000000 in
set_option maxRecDepth 100000 in
theorem c_X11_kin_57 {l : Launch} {D : va_G} {cy : Nat → ClassId} {T0 tB tE : Nat} {a : Nat → Nat} {rw : Nat → Option Nat} (S : GS)  (h_a_4_26 : ar S 4 26 = 0) (h_a_4_22 : ar S 4 22 = 0) (h_i_24 : fi S 24 = 0) : Ct l D cy T0 tB tE yX11_kin cX11_kin 6 (some .boolean) 2 41 0 0 (cw cy tE a rw S) [.ref (a 0), .int 2, .int 0, .int 0, .int 0] (QI D (U := GS) (fun r u => 1 = r ∧ S = u) (cw cy tE a rw)) := by
  refine Ct.ofZ RX11 "kin" [(0, .ref (a 0)), (1, .int 2), (2, .int 0), (3, .int 0), (4, .int 0)] rfl rfl rfl rfl (Nat.le_of_ble_eq_true rfl) ?_
  intro p e R s m args below meth c A b
  refine z_iload_n b dX11_kin_0 rfl rfl ?_
  refine z_iload_n b dX11_kin_1 rfl rfl ?_
  refine z_calli b (z_runS (As := [.int 2, .int 0]) (st := []) b (c_X11_arePair_12 S ) cf_X11_arePair wm_X11_84 ws_X11_arePair dX11_kin_2 rfl (Nat.le_of_ble_eq_true rfl) ⟨by decide, by decide, by decide, by decide⟩) (fun r3212 u3213 h3211 => ?_)
  obtain ⟨rfl, rfl⟩ := h3211
  refine z_if_eq_f (tgt := 16) b dX11_kin_5 (by decide) (by decide) ?_
  refine z_iload_n b dX11_kin_8 rfl rfl ?_
  refine z_iconst (v := 1) b dX11_kin_9 (by decide) ?_
  refine z_calli b (z_runS (As := [.int 0, .int 1]) (st := []) b (c_X11_isWithin_5 S ) cf_X11_isWithin wm_X11_73 ws_X11_isWithin dX11_kin_10 rfl (Nat.le_of_ble_eq_true rfl) ⟨by decide, by decide, by decide, by decide⟩) (fun r3215 u3216 h3214 => ?_)
  obtain ⟨rfl, rfl⟩ := h3214
  refine z_if_ne_t (tgt := 18) b dX11_kin_13 (by decide) (by decide) ?_
  refine z_iload b dX11_kin_18 rfl ?_
  refine z_if_eq_t (tgt := 27) b dX11_kin_20 (by decide) (by decide) ?_
  refine z_iconst (v := 0) b dX11_kin_27 (by decide) ?_
  refine z_istore (lv' := [(5, .int 0), (0, .ref (a 0)), (1, .int 2), (2, .int 0), (3, .int 0), (4, .int 0)]) b dX11_kin_28 (by decide) rfl ?_
  refine z_iload_n b dX11_kin_30 rfl rfl ?_
  refine z_if_ne_f (tgt := 71) b dX11_kin_31 (by decide) (by decide) ?_
  refine z_aload_n b dX11_kin_34 rfl rfl ?_
  refine z_get (q0 := 0) (k9 := 4) (v := .ref (a 14)) b (cw_0 cy tE a rw S) rfl in_X11 (by decide) wf_X11_34 rfl dX11_kin_35 ?_
  refine z_bipush (v := 20) b dX11_kin_38 (by decide) ?_
  refine z_iconst (v := 3) b dX11_kin_40 (by decide) ?_
  refine z_iload_n b dX11_kin_41 rfl rfl ?_
  refine z_imul (v := 6) b dX11_kin_42 (by decide) ?_
  refine z_iadd (v := 26) b dX11_kin_43 (by decide) ?_
  refine z_iload_n b dX11_kin_44 rfl rfl ?_
  refine z_iadd (v := 26) b dX11_kin_45 (by decide) ?_
  refine z_iload b dX11_kin_46 rfl ?_
  refine z_callv b (z_runV (q0 := 14) (As := [.int 26, .int 0]) (st := []) b (c_X9_set_21 S h_a_4_26) cf_X9_set (cw_14 cy tE a rw S) rfl wm_X11_77 wi_X9_set ws_X9_set dX11_kin_48 rfl (Nat.le_of_ble_eq_true rfl) ⟨by decide, by decide, by decide, by decide⟩) (fun u3219 h3217 => ?_)
  obtain rfl := h3217
  refine z_aload_n b dX11_kin_51 rfl rfl ?_
  refine z_get (q0 := 0) (k9 := 4) (v := .ref (a 14)) b (cw_0 cy tE a rw S) rfl in_X11 (by decide) wf_X11_34 rfl dX11_kin_52 ?_
  refine z_bipush (v := 20) b dX11_kin_55 (by decide) ?_
  refine z_iconst (v := 3) b dX11_kin_57 (by decide) ?_
  refine z_iload_n b dX11_kin_58 rfl rfl ?_
  refine z_imul (v := 0) b dX11_kin_59 (by decide) ?_
  refine z_iadd (v := 20) b dX11_kin_60 (by decide) ?_
  refine z_iload_n b dX11_kin_61 rfl rfl ?_
  refine z_iadd (v := 22) b dX11_kin_62 (by decide) ?_
  refine z_iload b dX11_kin_63 rfl ?_
  refine z_callv b (z_runV (q0 := 14) (As := [.int 22, .int 0]) (st := []) b (c_X9_set_20 S h_a_4_22) cf_X9_set (cw_14 cy tE a rw S) rfl wm_X11_77 wi_X9_set ws_X9_set dX11_kin_65 rfl (Nat.le_of_ble_eq_true rfl) ⟨by decide, by decide, by decide, by decide⟩) (fun u3222 h3220 => ?_)
  obtain rfl := h3220
  refine z_goto (tgt := 88) b dX11_kin_68 (by decide) ?_
  refine z_aload_n b dX11_kin_88 rfl rfl ?_
  refine z_get (q0 := 0) (k9 := 6) (v := .ref (a 25)) b (cw_0 cy tE a rw S) rfl in_X11 (by decide) wf_X11_52 rfl dX11_kin_89 ?_
  refine z_callv b (z_runV (q0 := 25) (As := []) (st := []) b (c_X8_forget S h_i_24) cf_X8_forget (cw_25 cy tE a rw S) rfl wm_X11_81 wi_X8_forget ws_X8_forget dX11_kin_92 rfl (Nat.le_of_ble_eq_true rfl) ⟨by decide, by decide, by decide, by decide⟩) (fun u3225 h3223 => ?_)
  obtain rfl := h3223
  refine z_iconst (v := 1) b dX11_kin_95 (by decide) ?_
  exact z_zret (u := S) b rfl (by decide) dX11_kin_96 ⟨rfl, rfl⟩ rfl (by decide) (by decide)

set_option maxHeartbeats 4000000 in
set_option maxRecDepth 100000 in
theorem c_X12_kin_57 {l : Launch} {D : va_G} {cy : Nat → ClassId} {T0 tB tE : Nat} {a : Nat → Nat} (S : GS)  (h_l_0 : fl S 0 = 1649317774848) (h_a_4_7 : ar S 4 7 = 0) (h_a_1_7 : ar S 1 7 = 0) (h_a_4_6 : ar S 4 6 = 0) (h_a_1_6 : ar S 1 6 = 0) (h_a_3_6 : ar S 3 6 = 0) (h_a_3_2 : ar S 3 2 = 0) (h_a_2_2 : ar S 2 2 = 3) (h_a_0_2 : ar S 0 2 = 0) (h_a_4_3 : ar S 4 3 = 0) (h_a_1_3 : ar S 1 3 = 0) (h_a_4_5 : ar S 4 5 = 0) (h_a_1_5 : ar S 1 5 = 0) (h_a_3_5 : ar S 3 5 = 0) (h_a_3_7 : ar S 3 7 = 0) (h_a_2_1 : ar S 2 1 = 3) (h_a_0_1 : ar S 0 1 = 0) (h_a_4_2 : ar S 4 2 = 0) (h_a_1_2 : ar S 1 2 = 0) (h_a_4_1 : ar S 4 1 = 0) (h_a_1_1 : ar S 1 1 = 0) (h_a_3_1 : ar S 3 1 = 0) (h_a_3_3 : ar S 3 3 = 0) (h_a_2_0 : ar S 2 0 = 3) (h_a_0_0 : ar S 0 0 = 0) (h_i_0 : fi S 0 = 0) : Ct l D cy T0 tB tE yX12_kin cX12_kin 5 (some .boolean) 3 65 0 0 (mw cy a S) [.ref (a 0), .int 2, .int 0, .int 0, .int 0] (QI D (U := GS) (fun r u => 1 = r ∧ S = u) (mw cy a)) := by
  refine Ct.ofZ RX12 "kin" [(0, .ref (a 0)), (1, .int 2), (2, .int 0), (3, .int 0), (4, .int 0)] rfl rfl rfl rfl (Nat.le_of_ble_eq_true rfl) ?_
  intro p e R s m args below meth c A b
  refine z_iload_n b dX12_kin_0 rfl rfl ?_
  refine z_calli b (z_runS (As := [.int 2]) (st := []) b (c_X12_isOne_4 S ) cf_X12_isOne wm_X12_170 ws_X12_isOne dX12_kin_1 rfl (Nat.le_of_ble_eq_true rfl) ⟨by decide, by decide, by decide, by decide⟩) (fun r3227 u3228 h3226 => ?_)
  obtain ⟨rfl, rfl⟩ := h3226
  refine z_if_eq_f (tgt := 28) b dX12_kin_4 (by decide) (by decide) ?_
  refine z_iload_n b dX12_kin_7 rfl rfl ?_
  refine z_calli b (z_runS (As := [.int 0]) (st := []) b (c_X12_isOne_2 S ) cf_X12_isOne wm_X12_170 ws_X12_isOne dX12_kin_8 rfl (Nat.le_of_ble_eq_true rfl) ⟨by decide, by decide, by decide, by decide⟩) (fun r3230 u3231 h3229 => ?_)
  obtain ⟨rfl, rfl⟩ := h3229
  refine z_if_eq_f (tgt := 28) b dX12_kin_11 (by decide) (by decide) ?_
  refine z_iload_n b dX12_kin_14 rfl rfl ?_
  refine z_iload_n b dX12_kin_15 rfl rfl ?_
  refine z_icmp_eq_f (tgt := 28) b dX12_kin_16 (by decide) (by decide) ?_
  refine z_iload_n b dX12_kin_19 rfl rfl ?_
  refine z_iconst (v := 0) b dX12_kin_20 (by decide) ?_
  refine z_iconst (v := 1) b dX12_kin_21 (by decide) ?_
  refine z_calli b (z_runS (As := [.int 0, .int 0, .int 1]) (st := []) b (c_X12_isIn_9 S ) cf_X12_isIn wm_X12_1 ws_X12_isIn dX12_kin_22 rfl (Nat.le_of_ble_eq_true rfl) ⟨by decide, by decide, by decide, by decide⟩) (fun r3233 u3234 h3232 => ?_)
  obtain ⟨rfl, rfl⟩ := h3232
  refine z_if_ne_t (tgt := 30) b dX12_kin_25 (by decide) (by decide) ?_
  refine z_aload_n b dX12_kin_30 rfl rfl ?_
  refine z_aload_n b dX12_kin_31 rfl rfl ?_
  refine z_get (q0 := 0) (k9 := 6) (v := .long (fl S 0)) b (mw_0 cy a S) rfl in_X12 (by decide) wf_X12_153 rfl dX12_kin_32 ?_
  refine z_eql h_l_0 ?_
  refine z_callv b (z_runV (q0 := 0) (As := [.long 1649317774848]) (st := []) b (c_X12_takes S h_a_4_7 h_a_1_7 h_a_4_6 h_a_1_6 h_a_3_6 h_a_3_2 h_a_2_2 h_a_0_2 h_a_4_3 h_a_1_3 h_a_4_5 h_a_1_5 h_a_3_5 h_a_3_7 h_a_2_1 h_a_0_1 h_a_4_2 h_a_1_2 h_a_4_1 h_a_1_1 h_a_3_1 h_a_3_3 h_a_2_0 h_a_0_0 h_i_0) cf_X12_takes (mw_0 cy a S) rfl wm_X12_174 wi_X12_takes ws_X12_takes dX12_kin_35 rfl (Nat.le_of_ble_eq_true rfl) ⟨by decide, by decide, by decide, by decide⟩) (fun u3237 h3235 => ?_)
  obtain rfl := h3235
  refine z_iload_n b dX12_kin_38 rfl rfl ?_
  refine z_iconst (v := 1) b dX12_kin_39 (by decide) ?_
  refine z_icmp_ne_t (tgt := 58) b dX12_kin_40 (by decide) (by decide) ?_
  refine z_aload_n b dX12_kin_58 rfl rfl ?_
  refine z_get (q0 := 0) (k9 := 3) (v := .ref (a 4)) b (mw_0 cy a S) rfl in_X12 (by decide) wf_X12_23 rfl dX12_kin_59 ?_
  refine z_iconst (v := 3) b dX12_kin_62 (by decide) ?_
  refine z_iload_n b dX12_kin_63 rfl rfl ?_
  refine z_imul (v := 6) b dX12_kin_64 (by decide) ?_
  refine z_iload_n b dX12_kin_65 rfl rfl ?_
  refine z_iadd (v := 6) b dX12_kin_66 (by decide) ?_
  refine z_iload b dX12_kin_67 rfl ?_
  refine y_zast (q0 := 4) (j := 6) b (mw_4 cy a S) (by decide) (by decide) dX12_kin_69 ((mwa_4 cy a S 6 0).trans (congrArg (mw cy a) (su_same h_a_3_6))) ?_
  refine z_aload_n b dX12_kin_70 rfl rfl ?_
  refine z_get (q0 := 0) (k9 := 3) (v := .ref (a 4)) b (mw_0 cy a S) rfl in_X12 (by decide) wf_X12_23 rfl dX12_kin_71 ?_
  refine z_iconst (v := 3) b dX12_kin_74 (by decide) ?_
  refine z_iload_n b dX12_kin_75 rfl rfl ?_
  refine z_imul (v := 0) b dX12_kin_76 (by decide) ?_
  refine z_iload_n b dX12_kin_77 rfl rfl ?_
  refine z_iadd (v := 2) b dX12_kin_78 (by decide) ?_
  refine z_iload b dX12_kin_79 rfl ?_
  refine y_zast (q0 := 4) (j := 2) b (mw_4 cy a S) (by decide) (by decide) dX12_kin_81 ((mwa_4 cy a S 2 0).trans (congrArg (mw cy a) (su_same h_a_3_2))) ?_
  refine z_aload_n b dX12_kin_82 rfl rfl ?_
  refine z_calli b (z_runV (q0 := 0) (As := []) (st := []) b (c_X12_told_14 S h_i_0 h_a_0_0 h_a_2_0 h_a_3_1 h_a_1_1 h_a_4_1 h_a_1_2 h_a_4_2 h_a_0_1 h_a_2_1 h_a_3_5 h_a_1_5 h_a_4_5 h_a_1_3 h_a_4_3 h_a_0_2 h_a_2_2 h_a_3_6 h_a_1_6 h_a_4_6 h_a_1_7 h_a_4_7 h_l_0) cf_X12_told (mw_0 cy a S) rfl wm_X12_178 wi_X12_told ws_X12_told dX12_kin_83 rfl (Nat.le_of_ble_eq_true rfl) ⟨by decide, by decide, by decide, by decide⟩) (fun r3239 u3240 h3238 => ?_)
  obtain ⟨rfl, rfl⟩ := h3238
  exact z_zret (u := S) b rfl (by decide) dX12_kin_86 ⟨rfl, rfl⟩ rfl (by decide) (by decide)

set_option maxHeartbeats 4000000 in
set_option maxRecDepth 100000 in
theorem c_X11_kin_58 {l : Launch} {D : va_G} {cy : Nat → ClassId} {T0 tB tE : Nat} {a : Nat → Nat} {rw : Nat → Option Nat} (S : GS)  (h_i_24 : fi S 24 = 0) : Ct l D cy T0 tB tE yX11_kin cX11_kin 6 (some .boolean) 2 41 0 0 (cw cy tE a rw S) [.ref (a 0), .int 2, .int 0, .int 0, .int 1] (QI D (U := GS) (fun r u => 1 = r ∧ (su (su S 4 26 1) 4 22 1) = u) (cw cy tE a rw)) := by
  refine Ct.ofZ RX11 "kin" [(0, .ref (a 0)), (1, .int 2), (2, .int 0), (3, .int 0), (4, .int 1)] rfl rfl rfl rfl (Nat.le_of_ble_eq_true rfl) ?_
  intro p e R s m args below meth c A b
  refine z_iload_n b dX11_kin_0 rfl rfl ?_
  refine z_iload_n b dX11_kin_1 rfl rfl ?_
  refine z_calli b (z_runS (As := [.int 2, .int 0]) (st := []) b (c_X11_arePair_12 S ) cf_X11_arePair wm_X11_84 ws_X11_arePair dX11_kin_2 rfl (Nat.le_of_ble_eq_true rfl) ⟨by decide, by decide, by decide, by decide⟩) (fun r3242 u3243 h3241 => ?_)
  obtain ⟨rfl, rfl⟩ := h3241
  refine z_if_eq_f (tgt := 16) b dX11_kin_5 (by decide) (by decide) ?_
  refine z_iload_n b dX11_kin_8 rfl rfl ?_
  refine z_iconst (v := 1) b dX11_kin_9 (by decide) ?_
  refine z_calli b (z_runS (As := [.int 0, .int 1]) (st := []) b (c_X11_isWithin_5 S ) cf_X11_isWithin wm_X11_73 ws_X11_isWithin dX11_kin_10 rfl (Nat.le_of_ble_eq_true rfl) ⟨by decide, by decide, by decide, by decide⟩) (fun r3245 u3246 h3244 => ?_)
  obtain ⟨rfl, rfl⟩ := h3244
  refine z_if_ne_t (tgt := 18) b dX11_kin_13 (by decide) (by decide) ?_
  refine z_iload b dX11_kin_18 rfl ?_
  refine z_if_eq_f (tgt := 27) b dX11_kin_20 (by decide) (by decide) ?_
  refine z_iconst (v := 1) b dX11_kin_23 (by decide) ?_
  refine z_goto (tgt := 28) b dX11_kin_24 (by decide) ?_
  refine z_istore (lv' := [(5, .int 1), (0, .ref (a 0)), (1, .int 2), (2, .int 0), (3, .int 0), (4, .int 1)]) b dX11_kin_28 (by decide) rfl ?_
  refine z_iload_n b dX11_kin_30 rfl rfl ?_
  refine z_if_ne_f (tgt := 71) b dX11_kin_31 (by decide) (by decide) ?_
  refine z_aload_n b dX11_kin_34 rfl rfl ?_
  refine z_get (q0 := 0) (k9 := 4) (v := .ref (a 14)) b (cw_0 cy tE a rw S) rfl in_X11 (by decide) wf_X11_34 rfl dX11_kin_35 ?_
  refine z_bipush (v := 20) b dX11_kin_38 (by decide) ?_
  refine z_iconst (v := 3) b dX11_kin_40 (by decide) ?_
  refine z_iload_n b dX11_kin_41 rfl rfl ?_
  refine z_imul (v := 6) b dX11_kin_42 (by decide) ?_
  refine z_iadd (v := 26) b dX11_kin_43 (by decide) ?_
  refine z_iload_n b dX11_kin_44 rfl rfl ?_
  refine z_iadd (v := 26) b dX11_kin_45 (by decide) ?_
  refine z_iload b dX11_kin_46 rfl ?_
  refine z_callv b (z_runV (q0 := 14) (As := [.int 26, .int 1]) (st := []) b (c_X9_set_23 S ) cf_X9_set (cw_14 cy tE a rw S) rfl wm_X11_77 wi_X9_set ws_X9_set dX11_kin_48 rfl (Nat.le_of_ble_eq_true rfl) ⟨by decide, by decide, by decide, by decide⟩) (fun u3249 h3247 => ?_)
  obtain rfl := h3247
  refine z_aload_n b dX11_kin_51 rfl rfl ?_
  refine z_get (q0 := 0) (k9 := 4) (v := .ref (a 14)) b (cw_0 cy tE a rw (su S 4 26 1)) rfl in_X11 (by decide) wf_X11_34 rfl dX11_kin_52 ?_
  refine z_bipush (v := 20) b dX11_kin_55 (by decide) ?_
  refine z_iconst (v := 3) b dX11_kin_57 (by decide) ?_
  refine z_iload_n b dX11_kin_58 rfl rfl ?_
  refine z_imul (v := 0) b dX11_kin_59 (by decide) ?_
  refine z_iadd (v := 20) b dX11_kin_60 (by decide) ?_
  refine z_iload_n b dX11_kin_61 rfl rfl ?_
  refine z_iadd (v := 22) b dX11_kin_62 (by decide) ?_
  refine z_iload b dX11_kin_63 rfl ?_
  refine z_callv b (z_runV (q0 := 14) (As := [.int 22, .int 1]) (st := []) b (c_X9_set_22 (su S 4 26 1) ) cf_X9_set (cw_14 cy tE a rw (su S 4 26 1)) rfl wm_X11_77 wi_X9_set ws_X9_set dX11_kin_65 rfl (Nat.le_of_ble_eq_true rfl) ⟨by decide, by decide, by decide, by decide⟩) (fun u3252 h3250 => ?_)
  obtain rfl := h3250
  refine z_goto (tgt := 88) b dX11_kin_68 (by decide) ?_
  refine z_aload_n b dX11_kin_88 rfl rfl ?_
  refine z_get (q0 := 0) (k9 := 6) (v := .ref (a 25)) b (cw_0 cy tE a rw (su (su S 4 26 1) 4 22 1)) rfl in_X11 (by decide) wf_X11_52 rfl dX11_kin_89 ?_
  refine z_callv b (z_runV (q0 := 25) (As := []) (st := []) b (c_X8_forget (su (su S 4 26 1) 4 22 1) h_i_24) cf_X8_forget (cw_25 cy tE a rw (su (su S 4 26 1) 4 22 1)) rfl wm_X11_81 wi_X8_forget ws_X8_forget dX11_kin_92 rfl (Nat.le_of_ble_eq_true rfl) ⟨by decide, by decide, by decide, by decide⟩) (fun u3255 h3253 => ?_)
  obtain rfl := h3253
  refine z_iconst (v := 1) b dX11_kin_95 (by decide) ?_
  exact z_zret (u := (su (su S 4 26 1) 4 22 1)) b rfl (by decide) dX11_kin_96 ⟨rfl, rfl⟩ rfl (by decide) (by decide)

set_option maxHeartbeats 4000000 in
set_option maxRecDepth 100000 in
theorem c_X12_kin_58 {l : Launch} {D : va_G} {cy : Nat → ClassId} {T0 tB tE : Nat} {a : Nat → Nat} (S : GS)  (h_l_0 : fl S 0 = 1649317774848) (h_a_4_7 : ar S 4 7 = 0) (h_a_1_7 : ar S 1 7 = 0) (h_a_4_6 : ar S 4 6 = 0) (h_a_1_6 : ar S 1 6 = 0) (h_a_3_6 : ar S 3 6 = 0) (h_a_3_2 : ar S 3 2 = 0) (h_a_2_2 : ar S 2 2 = 3) (h_a_0_2 : ar S 0 2 = 0) (h_a_4_3 : ar S 4 3 = 0) (h_a_1_3 : ar S 1 3 = 0) (h_a_4_5 : ar S 4 5 = 0) (h_a_1_5 : ar S 1 5 = 0) (h_a_3_5 : ar S 3 5 = 0) (h_a_3_7 : ar S 3 7 = 0) (h_a_2_1 : ar S 2 1 = 3) (h_a_0_1 : ar S 0 1 = 0) (h_a_4_2 : ar S 4 2 = 0) (h_a_1_2 : ar S 1 2 = 0) (h_a_4_1 : ar S 4 1 = 0) (h_a_1_1 : ar S 1 1 = 0) (h_a_3_1 : ar S 3 1 = 0) (h_a_3_3 : ar S 3 3 = 0) (h_a_2_0 : ar S 2 0 = 3) (h_a_0_0 : ar S 0 0 = 0) (h_i_0 : fi S 0 = 0) : Ct l D cy T0 tB tE yX12_kin cX12_kin 5 (some .boolean) 3 65 0 0 (mw cy a S) [.ref (a 0), .int 2, .int 0, .int 0, .int 1] (QI D (U := GS) (fun r u => 1 = r ∧ sl (su (su S 3 6 1) 3 2 1) 0 1649317775104 = u) (mw cy a)) := by
  refine Ct.ofZ RX12 "kin" [(0, .ref (a 0)), (1, .int 2), (2, .int 0), (3, .int 0), (4, .int 1)] rfl rfl rfl rfl (Nat.le_of_ble_eq_true rfl) ?_
  intro p e R s m args below meth c A b
  refine z_iload_n b dX12_kin_0 rfl rfl ?_
  refine z_calli b (z_runS (As := [.int 2]) (st := []) b (c_X12_isOne_4 S ) cf_X12_isOne wm_X12_170 ws_X12_isOne dX12_kin_1 rfl (Nat.le_of_ble_eq_true rfl) ⟨by decide, by decide, by decide, by decide⟩) (fun r3257 u3258 h3256 => ?_)
  obtain ⟨rfl, rfl⟩ := h3256
  refine z_if_eq_f (tgt := 28) b dX12_kin_4 (by decide) (by decide) ?_
  refine z_iload_n b dX12_kin_7 rfl rfl ?_
  refine z_calli b (z_runS (As := [.int 0]) (st := []) b (c_X12_isOne_2 S ) cf_X12_isOne wm_X12_170 ws_X12_isOne dX12_kin_8 rfl (Nat.le_of_ble_eq_true rfl) ⟨by decide, by decide, by decide, by decide⟩) (fun r3260 u3261 h3259 => ?_)
  obtain ⟨rfl, rfl⟩ := h3259
  refine z_if_eq_f (tgt := 28) b dX12_kin_11 (by decide) (by decide) ?_
  refine z_iload_n b dX12_kin_14 rfl rfl ?_
  refine z_iload_n b dX12_kin_15 rfl rfl ?_
  refine z_icmp_eq_f (tgt := 28) b dX12_kin_16 (by decide) (by decide) ?_
  refine z_iload_n b dX12_kin_19 rfl rfl ?_
  refine z_iconst (v := 0) b dX12_kin_20 (by decide) ?_
  refine z_iconst (v := 1) b dX12_kin_21 (by decide) ?_
  refine z_calli b (z_runS (As := [.int 0, .int 0, .int 1]) (st := []) b (c_X12_isIn_9 S ) cf_X12_isIn wm_X12_1 ws_X12_isIn dX12_kin_22 rfl (Nat.le_of_ble_eq_true rfl) ⟨by decide, by decide, by decide, by decide⟩) (fun r3263 u3264 h3262 => ?_)
  obtain ⟨rfl, rfl⟩ := h3262
  refine z_if_ne_t (tgt := 30) b dX12_kin_25 (by decide) (by decide) ?_
  refine z_aload_n b dX12_kin_30 rfl rfl ?_
  refine z_aload_n b dX12_kin_31 rfl rfl ?_
  refine z_get (q0 := 0) (k9 := 6) (v := .long (fl S 0)) b (mw_0 cy a S) rfl in_X12 (by decide) wf_X12_153 rfl dX12_kin_32 ?_
  refine z_eql h_l_0 ?_
  refine z_callv b (z_runV (q0 := 0) (As := [.long 1649317774848]) (st := []) b (c_X12_takes S h_a_4_7 h_a_1_7 h_a_4_6 h_a_1_6 h_a_3_6 h_a_3_2 h_a_2_2 h_a_0_2 h_a_4_3 h_a_1_3 h_a_4_5 h_a_1_5 h_a_3_5 h_a_3_7 h_a_2_1 h_a_0_1 h_a_4_2 h_a_1_2 h_a_4_1 h_a_1_1 h_a_3_1 h_a_3_3 h_a_2_0 h_a_0_0 h_i_0) cf_X12_takes (mw_0 cy a S) rfl wm_X12_174 wi_X12_takes ws_X12_takes dX12_kin_35 rfl (Nat.le_of_ble_eq_true rfl) ⟨by decide, by decide, by decide, by decide⟩) (fun u3267 h3265 => ?_)
  obtain rfl := h3265
  refine z_iload_n b dX12_kin_38 rfl rfl ?_
  refine z_iconst (v := 1) b dX12_kin_39 (by decide) ?_
  refine z_icmp_ne_t (tgt := 58) b dX12_kin_40 (by decide) (by decide) ?_
  refine z_aload_n b dX12_kin_58 rfl rfl ?_
  refine z_get (q0 := 0) (k9 := 3) (v := .ref (a 4)) b (mw_0 cy a S) rfl in_X12 (by decide) wf_X12_23 rfl dX12_kin_59 ?_
  refine z_iconst (v := 3) b dX12_kin_62 (by decide) ?_
  refine z_iload_n b dX12_kin_63 rfl rfl ?_
  refine z_imul (v := 6) b dX12_kin_64 (by decide) ?_
  refine z_iload_n b dX12_kin_65 rfl rfl ?_
  refine z_iadd (v := 6) b dX12_kin_66 (by decide) ?_
  refine z_iload b dX12_kin_67 rfl ?_
  refine y_zast (q0 := 4) (j := 6) b (mw_4 cy a S) (by decide) (by decide) dX12_kin_69 (mwa_4 cy a S 6 1) ?_
  refine z_aload_n b dX12_kin_70 rfl rfl ?_
  refine z_get (q0 := 0) (k9 := 3) (v := .ref (a 4)) b (mw_0 cy a (su S 3 6 1)) rfl in_X12 (by decide) wf_X12_23 rfl dX12_kin_71 ?_
  refine z_iconst (v := 3) b dX12_kin_74 (by decide) ?_
  refine z_iload_n b dX12_kin_75 rfl rfl ?_
  refine z_imul (v := 0) b dX12_kin_76 (by decide) ?_
  refine z_iload_n b dX12_kin_77 rfl rfl ?_
  refine z_iadd (v := 2) b dX12_kin_78 (by decide) ?_
  refine z_iload b dX12_kin_79 rfl ?_
  refine y_zast (q0 := 4) (j := 2) b (mw_4 cy a (su S 3 6 1)) (by decide) (by decide) dX12_kin_81 (mwa_4 cy a (su S 3 6 1) 2 1) ?_
  refine z_aload_n b dX12_kin_82 rfl rfl ?_
  refine z_calli b (z_runV (q0 := 0) (As := []) (st := []) b (c_X12_told_17 (su (su S 3 6 1) 3 2 1) h_i_0 h_a_0_0 h_a_2_0 h_a_3_1 h_a_1_1 h_a_4_1 h_a_1_2 h_a_4_2 h_a_0_1 h_a_2_1 h_a_3_5 h_a_1_5 h_a_4_5 h_a_1_3 h_a_4_3 h_a_0_2 h_a_2_2 rfl h_a_1_6 h_a_4_6 h_a_1_7 h_a_4_7) cf_X12_told (mw_0 cy a (su (su S 3 6 1) 3 2 1)) rfl wm_X12_178 wi_X12_told ws_X12_told dX12_kin_83 rfl (Nat.le_of_ble_eq_true rfl) ⟨by decide, by decide, by decide, by decide⟩) (fun r3269 u3270 h3268 => ?_)
  obtain ⟨rfl, rfl⟩ := h3268
  exact z_zret (u := (sl (su (su S 3 6 1) 3 2 1) 0 1649317775104)) b rfl (by decide) dX12_kin_86 ⟨rfl, rfl⟩ rfl (by decide) (by decide)

set_option maxHeartbeats 4000000 in
set_option maxRecDepth 100000 in
theorem c_X9_set_34 {l : Launch} {D : va_G} {cy : Nat → ClassId} {T0 tB tE : Nat} {a : Nat → Nat} {rw : Nat → Option Nat} (S : GS)  (h_a_4_36 : ar S 4 36 = 0) : Ct l D cy T0 tB tE yX9_set cX9_set 3 none 0 0 0 0 (cw cy tE a rw S) [.ref (a 14), .int 36, .int 0] (QV D (U := GS) (fun u => S = u) (cw cy tE a rw)) := by
  refine Ct.ofZ RX9 "set" [(0, .ref (a 14)), (1, .int 36), (2, .int 0)] rfl rfl rfl rfl (Nat.le_of_ble_eq_true rfl) ?_
  intro p e R s m args below meth c A b
  refine z_iload_n b dX9_set_0 rfl rfl ?_
  refine z_if_lt_f (tgt := 20) b dX9_set_1 (by decide) (by decide) ?_
  refine z_iload_n b dX9_set_4 rfl rfl ?_
  refine z_aload_n b dX9_set_5 rfl rfl ?_
  refine z_get (q0 := 14) (k9 := 0) (v := .ref (a 15)) b (cw_14 cy tE a rw S) rfl in_X9 (by decide) wf_X9_11 rfl dX9_set_6 ?_
  refine z_alen (q0 := 15) (t0 := 0) (v := 51) b (cw_15 cy tE a rw S) rfl rfl dX9_set_9 ?_
  refine z_icmp_ge_f (tgt := 20) b dX9_set_10 (by decide) (by decide) ?_
  refine z_aload_n b dX9_set_13 rfl rfl ?_
  refine z_get (q0 := 14) (k9 := 0) (v := .ref (a 15)) b (cw_14 cy tE a rw S) rfl in_X9 (by decide) wf_X9_11 rfl dX9_set_14 ?_
  refine z_iload_n b dX9_set_17 rfl rfl ?_
  refine z_iload_n b dX9_set_18 rfl rfl ?_
  refine y_iast (q0 := 15) (j := 36) b (cw_15 cy tE a rw S) (by decide) dX9_set_19 ((cwa_15 cy tE a rw S 36 0).trans (congrArg (cw cy tE a rw) (su_same h_a_4_36))) ?_
  exact z_vret (u := S) b rfl dX9_set_20 rfl rfl (by decide) (by decide)

set_option maxHeartbeats 4000000 in
set_option maxRecDepth 100000 in
theorem c_X11_kin_59 {l : Launch} {D : va_G} {cy : Nat → ClassId} {T0 tB tE : Nat} {a : Nat → Nat} {rw : Nat → Option Nat} (S : GS)  (h_a_4_36 : ar S 4 36 = 0) (h_i_24 : fi S 24 = 0) : Ct l D cy T0 tB tE yX11_kin cX11_kin 6 (some .boolean) 2 41 0 0 (cw cy tE a rw S) [.ref (a 0), .int 2, .int 0, .int 1, .int 0] (QI D (U := GS) (fun r u => 1 = r ∧ S = u) (cw cy tE a rw)) := by
  refine Ct.ofZ RX11 "kin" [(0, .ref (a 0)), (1, .int 2), (2, .int 0), (3, .int 1), (4, .int 0)] rfl rfl rfl rfl (Nat.le_of_ble_eq_true rfl) ?_
  intro p e R s m args below meth c A b
  refine z_iload_n b dX11_kin_0 rfl rfl ?_
  refine z_iload_n b dX11_kin_1 rfl rfl ?_
  refine z_calli b (z_runS (As := [.int 2, .int 0]) (st := []) b (c_X11_arePair_12 S ) cf_X11_arePair wm_X11_84 ws_X11_arePair dX11_kin_2 rfl (Nat.le_of_ble_eq_true rfl) ⟨by decide, by decide, by decide, by decide⟩) (fun r3272 u3273 h3271 => ?_)
  obtain ⟨rfl, rfl⟩ := h3271
  refine z_if_eq_f (tgt := 16) b dX11_kin_5 (by decide) (by decide) ?_
  refine z_iload_n b dX11_kin_8 rfl rfl ?_
  refine z_iconst (v := 1) b dX11_kin_9 (by decide) ?_
  refine z_calli b (z_runS (As := [.int 1, .int 1]) (st := []) b (c_X11_isWithin_6 S ) cf_X11_isWithin wm_X11_73 ws_X11_isWithin dX11_kin_10 rfl (Nat.le_of_ble_eq_true rfl) ⟨by decide, by decide, by decide, by decide⟩) (fun r3275 u3276 h3274 => ?_)
  obtain ⟨rfl, rfl⟩ := h3274
  refine z_if_ne_t (tgt := 18) b dX11_kin_13 (by decide) (by decide) ?_
  refine z_iload b dX11_kin_18 rfl ?_
  refine z_if_eq_t (tgt := 27) b dX11_kin_20 (by decide) (by decide) ?_
  refine z_iconst (v := 0) b dX11_kin_27 (by decide) ?_
  refine z_istore (lv' := [(5, .int 0), (0, .ref (a 0)), (1, .int 2), (2, .int 0), (3, .int 1), (4, .int 0)]) b dX11_kin_28 (by decide) rfl ?_
  refine z_iload_n b dX11_kin_30 rfl rfl ?_
  refine z_if_ne_t (tgt := 71) b dX11_kin_31 (by decide) (by decide) ?_
  refine z_aload_n b dX11_kin_71 rfl rfl ?_
  refine z_get (q0 := 0) (k9 := 4) (v := .ref (a 14)) b (cw_0 cy tE a rw S) rfl in_X11 (by decide) wf_X11_34 rfl dX11_kin_72 ?_
  refine z_bipush (v := 30) b dX11_kin_75 (by decide) ?_
  refine z_iconst (v := 3) b dX11_kin_77 (by decide) ?_
  refine z_iload_n b dX11_kin_78 rfl rfl ?_
  refine z_imul (v := 6) b dX11_kin_79 (by decide) ?_
  refine z_iadd (v := 36) b dX11_kin_80 (by decide) ?_
  refine z_iload_n b dX11_kin_81 rfl rfl ?_
  refine z_iadd (v := 36) b dX11_kin_82 (by decide) ?_
  refine z_iload b dX11_kin_83 rfl ?_
  refine z_callv b (z_runV (q0 := 14) (As := [.int 36, .int 0]) (st := []) b (c_X9_set_34 S h_a_4_36) cf_X9_set (cw_14 cy tE a rw S) rfl wm_X11_77 wi_X9_set ws_X9_set dX11_kin_85 rfl (Nat.le_of_ble_eq_true rfl) ⟨by decide, by decide, by decide, by decide⟩) (fun u3279 h3277 => ?_)
  obtain rfl := h3277
  refine z_aload_n b dX11_kin_88 rfl rfl ?_
  refine z_get (q0 := 0) (k9 := 6) (v := .ref (a 25)) b (cw_0 cy tE a rw S) rfl in_X11 (by decide) wf_X11_52 rfl dX11_kin_89 ?_
  refine z_callv b (z_runV (q0 := 25) (As := []) (st := []) b (c_X8_forget S h_i_24) cf_X8_forget (cw_25 cy tE a rw S) rfl wm_X11_81 wi_X8_forget ws_X8_forget dX11_kin_92 rfl (Nat.le_of_ble_eq_true rfl) ⟨by decide, by decide, by decide, by decide⟩) (fun u3282 h3280 => ?_)
  obtain rfl := h3280
  refine z_iconst (v := 1) b dX11_kin_95 (by decide) ?_
  exact z_zret (u := S) b rfl (by decide) dX11_kin_96 ⟨rfl, rfl⟩ rfl (by decide) (by decide)

set_option maxHeartbeats 4000000 in
set_option maxRecDepth 100000 in
theorem c_X12_kin_59 {l : Launch} {D : va_G} {cy : Nat → ClassId} {T0 tB tE : Nat} {a : Nat → Nat} (S : GS)  (h_l_0 : fl S 0 = 1649317774848) (h_a_4_7 : ar S 4 7 = 0) (h_a_1_7 : ar S 1 7 = 0) (h_a_4_6 : ar S 4 6 = 0) (h_a_1_6 : ar S 1 6 = 0) (h_a_3_6 : ar S 3 6 = 0) (h_a_3_2 : ar S 3 2 = 0) (h_a_2_2 : ar S 2 2 = 3) (h_a_0_2 : ar S 0 2 = 0) (h_a_4_3 : ar S 4 3 = 0) (h_a_1_3 : ar S 1 3 = 0) (h_a_4_5 : ar S 4 5 = 0) (h_a_1_5 : ar S 1 5 = 0) (h_a_3_5 : ar S 3 5 = 0) (h_a_3_7 : ar S 3 7 = 0) (h_a_2_1 : ar S 2 1 = 3) (h_a_0_1 : ar S 0 1 = 0) (h_a_4_2 : ar S 4 2 = 0) (h_a_1_2 : ar S 1 2 = 0) (h_a_4_1 : ar S 4 1 = 0) (h_a_1_1 : ar S 1 1 = 0) (h_a_3_1 : ar S 3 1 = 0) (h_a_3_3 : ar S 3 3 = 0) (h_a_2_0 : ar S 2 0 = 3) (h_a_0_0 : ar S 0 0 = 0) (h_i_0 : fi S 0 = 0) : Ct l D cy T0 tB tE yX12_kin cX12_kin 5 (some .boolean) 3 65 0 0 (mw cy a S) [.ref (a 0), .int 2, .int 0, .int 1, .int 0] (QI D (U := GS) (fun r u => 1 = r ∧ S = u) (mw cy a)) := by
  refine Ct.ofZ RX12 "kin" [(0, .ref (a 0)), (1, .int 2), (2, .int 0), (3, .int 1), (4, .int 0)] rfl rfl rfl rfl (Nat.le_of_ble_eq_true rfl) ?_
  intro p e R s m args below meth c A b
  refine z_iload_n b dX12_kin_0 rfl rfl ?_
  refine z_calli b (z_runS (As := [.int 2]) (st := []) b (c_X12_isOne_4 S ) cf_X12_isOne wm_X12_170 ws_X12_isOne dX12_kin_1 rfl (Nat.le_of_ble_eq_true rfl) ⟨by decide, by decide, by decide, by decide⟩) (fun r3284 u3285 h3283 => ?_)
  obtain ⟨rfl, rfl⟩ := h3283
  refine z_if_eq_f (tgt := 28) b dX12_kin_4 (by decide) (by decide) ?_
  refine z_iload_n b dX12_kin_7 rfl rfl ?_
  refine z_calli b (z_runS (As := [.int 0]) (st := []) b (c_X12_isOne_2 S ) cf_X12_isOne wm_X12_170 ws_X12_isOne dX12_kin_8 rfl (Nat.le_of_ble_eq_true rfl) ⟨by decide, by decide, by decide, by decide⟩) (fun r3287 u3288 h3286 => ?_)
  obtain ⟨rfl, rfl⟩ := h3286
  refine z_if_eq_f (tgt := 28) b dX12_kin_11 (by decide) (by decide) ?_
  refine z_iload_n b dX12_kin_14 rfl rfl ?_
  refine z_iload_n b dX12_kin_15 rfl rfl ?_
  refine z_icmp_eq_f (tgt := 28) b dX12_kin_16 (by decide) (by decide) ?_
  refine z_iload_n b dX12_kin_19 rfl rfl ?_
  refine z_iconst (v := 0) b dX12_kin_20 (by decide) ?_
  refine z_iconst (v := 1) b dX12_kin_21 (by decide) ?_
  refine z_calli b (z_runS (As := [.int 1, .int 0, .int 1]) (st := []) b (c_X12_isIn_10 S ) cf_X12_isIn wm_X12_1 ws_X12_isIn dX12_kin_22 rfl (Nat.le_of_ble_eq_true rfl) ⟨by decide, by decide, by decide, by decide⟩) (fun r3290 u3291 h3289 => ?_)
  obtain ⟨rfl, rfl⟩ := h3289
  refine z_if_ne_t (tgt := 30) b dX12_kin_25 (by decide) (by decide) ?_
  refine z_aload_n b dX12_kin_30 rfl rfl ?_
  refine z_aload_n b dX12_kin_31 rfl rfl ?_
  refine z_get (q0 := 0) (k9 := 6) (v := .long (fl S 0)) b (mw_0 cy a S) rfl in_X12 (by decide) wf_X12_153 rfl dX12_kin_32 ?_
  refine z_eql h_l_0 ?_
  refine z_callv b (z_runV (q0 := 0) (As := [.long 1649317774848]) (st := []) b (c_X12_takes S h_a_4_7 h_a_1_7 h_a_4_6 h_a_1_6 h_a_3_6 h_a_3_2 h_a_2_2 h_a_0_2 h_a_4_3 h_a_1_3 h_a_4_5 h_a_1_5 h_a_3_5 h_a_3_7 h_a_2_1 h_a_0_1 h_a_4_2 h_a_1_2 h_a_4_1 h_a_1_1 h_a_3_1 h_a_3_3 h_a_2_0 h_a_0_0 h_i_0) cf_X12_takes (mw_0 cy a S) rfl wm_X12_174 wi_X12_takes ws_X12_takes dX12_kin_35 rfl (Nat.le_of_ble_eq_true rfl) ⟨by decide, by decide, by decide, by decide⟩) (fun u3294 h3292 => ?_)
  obtain rfl := h3292
  refine z_iload_n b dX12_kin_38 rfl rfl ?_
  refine z_iconst (v := 1) b dX12_kin_39 (by decide) ?_
  refine z_icmp_ne_f (tgt := 58) b dX12_kin_40 (by decide) (by decide) ?_
  refine z_aload_n b dX12_kin_43 rfl rfl ?_
  refine z_get (q0 := 0) (k9 := 4) (v := .ref (a 5)) b (mw_0 cy a S) rfl in_X12 (by decide) wf_X12_27 rfl dX12_kin_44 ?_
  refine z_iconst (v := 3) b dX12_kin_47 (by decide) ?_
  refine z_iload_n b dX12_kin_48 rfl rfl ?_
  refine z_imul (v := 6) b dX12_kin_49 (by decide) ?_
  refine z_iload_n b dX12_kin_50 rfl rfl ?_
  refine z_iadd (v := 6) b dX12_kin_51 (by decide) ?_
  refine z_iload b dX12_kin_52 rfl ?_
  refine y_zast (q0 := 5) (j := 6) b (mw_5 cy a S) (by decide) (by decide) dX12_kin_54 ((mwa_5 cy a S 6 0).trans (congrArg (mw cy a) (su_same h_a_4_6))) ?_
  refine z_goto (tgt := 82) b dX12_kin_55 (by decide) ?_
  refine z_aload_n b dX12_kin_82 rfl rfl ?_
  refine z_calli b (z_runV (q0 := 0) (As := []) (st := []) b (c_X12_told_14 S h_i_0 h_a_0_0 h_a_2_0 h_a_3_1 h_a_1_1 h_a_4_1 h_a_1_2 h_a_4_2 h_a_0_1 h_a_2_1 h_a_3_5 h_a_1_5 h_a_4_5 h_a_1_3 h_a_4_3 h_a_0_2 h_a_2_2 h_a_3_6 h_a_1_6 h_a_4_6 h_a_1_7 h_a_4_7 h_l_0) cf_X12_told (mw_0 cy a S) rfl wm_X12_178 wi_X12_told ws_X12_told dX12_kin_83 rfl (Nat.le_of_ble_eq_true rfl) ⟨by decide, by decide, by decide, by decide⟩) (fun r3296 u3297 h3295 => ?_)
  obtain ⟨rfl, rfl⟩ := h3295
  exact z_zret (u := S) b rfl (by decide) dX12_kin_86 ⟨rfl, rfl⟩ rfl (by decide) (by decide)

set_option maxHeartbeats 4000000 in
set_option maxRecDepth 100000 in
theorem c_X9_set_35 {l : Launch} {D : va_G} {cy : Nat → ClassId} {T0 tB tE : Nat} {a : Nat → Nat} {rw : Nat → Option Nat} (S : GS)   : Ct l D cy T0 tB tE yX9_set cX9_set 3 none 0 0 0 0 (cw cy tE a rw S) [.ref (a 14), .int 36, .int 1] (QV D (U := GS) (fun u => su S 4 36 1 = u) (cw cy tE a rw)) := by
  refine Ct.ofZ RX9 "set" [(0, .ref (a 14)), (1, .int 36), (2, .int 1)] rfl rfl rfl rfl (Nat.le_of_ble_eq_true rfl) ?_
  intro p e R s m args below meth c A b
  refine z_iload_n b dX9_set_0 rfl rfl ?_
  refine z_if_lt_f (tgt := 20) b dX9_set_1 (by decide) (by decide) ?_
  refine z_iload_n b dX9_set_4 rfl rfl ?_
  refine z_aload_n b dX9_set_5 rfl rfl ?_
  refine z_get (q0 := 14) (k9 := 0) (v := .ref (a 15)) b (cw_14 cy tE a rw S) rfl in_X9 (by decide) wf_X9_11 rfl dX9_set_6 ?_
  refine z_alen (q0 := 15) (t0 := 0) (v := 51) b (cw_15 cy tE a rw S) rfl rfl dX9_set_9 ?_
  refine z_icmp_ge_f (tgt := 20) b dX9_set_10 (by decide) (by decide) ?_
  refine z_aload_n b dX9_set_13 rfl rfl ?_
  refine z_get (q0 := 14) (k9 := 0) (v := .ref (a 15)) b (cw_14 cy tE a rw S) rfl in_X9 (by decide) wf_X9_11 rfl dX9_set_14 ?_
  refine z_iload_n b dX9_set_17 rfl rfl ?_
  refine z_iload_n b dX9_set_18 rfl rfl ?_
  refine y_iast (q0 := 15) (j := 36) b (cw_15 cy tE a rw S) (by decide) dX9_set_19 (cwa_15 cy tE a rw S 36 1) ?_
  exact z_vret (u := (su S 4 36 1)) b rfl dX9_set_20 rfl rfl (by decide) (by decide)

set_option maxHeartbeats 4000000 in
set_option maxRecDepth 100000 in
theorem c_X11_kin_60 {l : Launch} {D : va_G} {cy : Nat → ClassId} {T0 tB tE : Nat} {a : Nat → Nat} {rw : Nat → Option Nat} (S : GS)  (h_i_24 : fi S 24 = 0) : Ct l D cy T0 tB tE yX11_kin cX11_kin 6 (some .boolean) 2 41 0 0 (cw cy tE a rw S) [.ref (a 0), .int 2, .int 0, .int 1, .int 1] (QI D (U := GS) (fun r u => 1 = r ∧ (su S 4 36 1) = u) (cw cy tE a rw)) := by
  refine Ct.ofZ RX11 "kin" [(0, .ref (a 0)), (1, .int 2), (2, .int 0), (3, .int 1), (4, .int 1)] rfl rfl rfl rfl (Nat.le_of_ble_eq_true rfl) ?_
  intro p e R s m args below meth c A b
  refine z_iload_n b dX11_kin_0 rfl rfl ?_
  refine z_iload_n b dX11_kin_1 rfl rfl ?_
  refine z_calli b (z_runS (As := [.int 2, .int 0]) (st := []) b (c_X11_arePair_12 S ) cf_X11_arePair wm_X11_84 ws_X11_arePair dX11_kin_2 rfl (Nat.le_of_ble_eq_true rfl) ⟨by decide, by decide, by decide, by decide⟩) (fun r3299 u3300 h3298 => ?_)
  obtain ⟨rfl, rfl⟩ := h3298
  refine z_if_eq_f (tgt := 16) b dX11_kin_5 (by decide) (by decide) ?_
  refine z_iload_n b dX11_kin_8 rfl rfl ?_
  refine z_iconst (v := 1) b dX11_kin_9 (by decide) ?_
  refine z_calli b (z_runS (As := [.int 1, .int 1]) (st := []) b (c_X11_isWithin_6 S ) cf_X11_isWithin wm_X11_73 ws_X11_isWithin dX11_kin_10 rfl (Nat.le_of_ble_eq_true rfl) ⟨by decide, by decide, by decide, by decide⟩) (fun r3302 u3303 h3301 => ?_)
  obtain ⟨rfl, rfl⟩ := h3301
  refine z_if_ne_t (tgt := 18) b dX11_kin_13 (by decide) (by decide) ?_
  refine z_iload b dX11_kin_18 rfl ?_
  refine z_if_eq_f (tgt := 27) b dX11_kin_20 (by decide) (by decide) ?_
  refine z_iconst (v := 1) b dX11_kin_23 (by decide) ?_
  refine z_goto (tgt := 28) b dX11_kin_24 (by decide) ?_
  refine z_istore (lv' := [(5, .int 1), (0, .ref (a 0)), (1, .int 2), (2, .int 0), (3, .int 1), (4, .int 1)]) b dX11_kin_28 (by decide) rfl ?_
  refine z_iload_n b dX11_kin_30 rfl rfl ?_
  refine z_if_ne_t (tgt := 71) b dX11_kin_31 (by decide) (by decide) ?_
  refine z_aload_n b dX11_kin_71 rfl rfl ?_
  refine z_get (q0 := 0) (k9 := 4) (v := .ref (a 14)) b (cw_0 cy tE a rw S) rfl in_X11 (by decide) wf_X11_34 rfl dX11_kin_72 ?_
  refine z_bipush (v := 30) b dX11_kin_75 (by decide) ?_
  refine z_iconst (v := 3) b dX11_kin_77 (by decide) ?_
  refine z_iload_n b dX11_kin_78 rfl rfl ?_
  refine z_imul (v := 6) b dX11_kin_79 (by decide) ?_
  refine z_iadd (v := 36) b dX11_kin_80 (by decide) ?_
  refine z_iload_n b dX11_kin_81 rfl rfl ?_
  refine z_iadd (v := 36) b dX11_kin_82 (by decide) ?_
  refine z_iload b dX11_kin_83 rfl ?_
  refine z_callv b (z_runV (q0 := 14) (As := [.int 36, .int 1]) (st := []) b (c_X9_set_35 S ) cf_X9_set (cw_14 cy tE a rw S) rfl wm_X11_77 wi_X9_set ws_X9_set dX11_kin_85 rfl (Nat.le_of_ble_eq_true rfl) ⟨by decide, by decide, by decide, by decide⟩) (fun u3306 h3304 => ?_)
  obtain rfl := h3304
  refine z_aload_n b dX11_kin_88 rfl rfl ?_
  refine z_get (q0 := 0) (k9 := 6) (v := .ref (a 25)) b (cw_0 cy tE a rw (su S 4 36 1)) rfl in_X11 (by decide) wf_X11_52 rfl dX11_kin_89 ?_
  refine z_callv b (z_runV (q0 := 25) (As := []) (st := []) b (c_X8_forget (su S 4 36 1) h_i_24) cf_X8_forget (cw_25 cy tE a rw (su S 4 36 1)) rfl wm_X11_81 wi_X8_forget ws_X8_forget dX11_kin_92 rfl (Nat.le_of_ble_eq_true rfl) ⟨by decide, by decide, by decide, by decide⟩) (fun u3309 h3307 => ?_)
  obtain rfl := h3307
  refine z_iconst (v := 1) b dX11_kin_95 (by decide) ?_
  exact z_zret (u := (su S 4 36 1)) b rfl (by decide) dX11_kin_96 ⟨rfl, rfl⟩ rfl (by decide) (by decide)

set_option maxHeartbeats 4000000 in
set_option maxRecDepth 100000 in
theorem ch_X12_packs_46 {p : Program} {l : Launch} {e : Env} {R : Room} {s : State} {m : MethodId} {args : Array Value} {below : List Frame} {meth : Method} {c : Code} {D : va_G} {cy : Nat → ClassId} {T0 tB tE : Nat} {A : Nat → Prop} {Q : State → Prop} {a : Nat → Nat} (S : GS)  (h_a_0_0 : ar S 0 0 = 0) (h_a_1_1 : ar S 1 1 = 0) (h_a_1_2 : ar S 1 2 = 0) (h_a_2_0 : ar S 2 0 = 3) (h_a_3_1 : ar S 3 1 = 0) (h_a_4_1 : ar S 4 1 = 0) (h_a_4_2 : ar S 4 2 = 0) (h_i_0 : fi S 0 = 0) (b : Bz p R s m args meth c D cy T0 tB tE A 5 cX12_packs RX12 (some .long) "packs" 1 21 0 0) (k : Z p l e R s m args below meth c D A 5 Q 0 0 (mw cy a S) [(3, .int 1), (4, .int 2), (1, .long 1536), (0, .ref (a 0))] 21 [.int 1, .ref (a 1), .long 24576]) : Z p l e R s m args below meth c D A 5 Q 0 0 (mw cy a S) [(0, .ref (a 0))] 0 [] := by
  refine z_aload_n b dX12_packs_0 rfl rfl ?_
  refine z_get (q0 := 0) (k9 := 5) (v := .int (fi S 0)) b (mw_0 cy a S) rfl in_X12 (by decide) wf_X12_157 rfl dX12_packs_1 ?_
  refine z_eqi h_i_0 ?_
  refine z_i2l (v := 0) b dX12_packs_4 (by decide) ?_
  refine z_lstore_n (lv' := [(1, .long 0), (0, .ref (a 0))]) b dX12_packs_5 rfl (by decide) rfl ?_
  refine z_iconst (v := 0) b dX12_packs_6 (by decide) ?_
  refine z_istore_n (lv' := [(3, .int 0), (1, .long 0), (0, .ref (a 0))]) b dX12_packs_7 rfl (by decide) rfl ?_
  refine z_iload_n b dX12_packs_8 rfl rfl ?_
  refine z_iconst (v := 3) b dX12_packs_9 (by decide) ?_
  refine z_icmp_ge_f (tgt := 134) b dX12_packs_10 (by decide) (by decide) ?_
  refine z_lload_n b dX12_packs_13 rfl rfl ?_
  refine z_iconst (v := 4) b dX12_packs_14 (by decide) ?_
  refine z_lshl (v := 0) b dX12_packs_15 (by decide) ?_
  refine z_aload_n b dX12_packs_16 rfl rfl ?_
  refine z_get (q0 := 0) (k9 := 0) (v := .ref (a 1)) b (mw_0 cy a S) rfl in_X12 (by decide) wf_X12_13 rfl dX12_packs_17 ?_
  refine z_iload_n b dX12_packs_20 rfl rfl ?_
  refine y_iald (q0 := 1) (j := 0) (v := (ar S 0 0)) b (mw_1 cy a S) (by decide) rfl dX12_packs_21 ?_
  refine z_eqi h_a_0_0 ?_
  refine z_i2l (v := 0) b dX12_packs_22 (by decide) ?_
  refine z_lor (v := 0) b dX12_packs_23 (by decide) ?_
  refine z_lstore_n (lv' := [(1, .long 0), (3, .int 0), (0, .ref (a 0))]) b dX12_packs_24 rfl (by decide) rfl ?_
  refine z_lload_n b dX12_packs_25 rfl rfl ?_
  refine z_iconst (v := 2) b dX12_packs_26 (by decide) ?_
  refine z_lshl (v := 0) b dX12_packs_27 (by decide) ?_
  refine z_aload_n b dX12_packs_28 rfl rfl ?_
  refine z_get (q0 := 0) (k9 := 2) (v := .ref (a 3)) b (mw_0 cy a S) rfl in_X12 (by decide) wf_X12_20 rfl dX12_packs_29 ?_
  refine z_iload_n b dX12_packs_32 rfl rfl ?_
  refine y_iald (q0 := 3) (j := 0) (v := (ar S 2 0)) b (mw_3 cy a S) (by decide) rfl dX12_packs_33 ?_
  refine z_eqi h_a_2_0 ?_
  refine z_i2l (v := 3) b dX12_packs_34 (by decide) ?_
  refine z_lor (v := 3) b dX12_packs_35 (by decide) ?_
  refine z_lstore_n (lv' := [(1, .long 3), (3, .int 0), (0, .ref (a 0))]) b dX12_packs_36 rfl (by decide) rfl ?_
  refine z_lload_n b dX12_packs_37 rfl rfl ?_
  refine z_iconst (v := 1) b dX12_packs_38 (by decide) ?_
  refine z_lshl (v := 6) b dX12_packs_39 (by decide) ?_
  refine z_aload_n b dX12_packs_40 rfl rfl ?_
  refine z_get (q0 := 0) (k9 := 3) (v := .ref (a 4)) b (mw_0 cy a S) rfl in_X12 (by decide) wf_X12_23 rfl dX12_packs_41 ?_
  refine z_iconst (v := 3) b dX12_packs_44 (by decide) ?_
  refine z_iload_n b dX12_packs_45 rfl rfl ?_
  refine z_imul (v := 0) b dX12_packs_46 (by decide) ?_
  refine z_iload_n b dX12_packs_47 rfl rfl ?_
  refine z_iconst (v := 0) b dX12_packs_48 (by decide) ?_
  refine z_calli b (z_runS (As := [.int 0, .int 0]) (st := [.int 0, .ref (a 4), .long 6]) b (c_X12_other_6 S ) cf_X12_other wm_X12_160 ws_X12_other dX12_packs_49 rfl (Nat.le_of_ble_eq_true rfl) ⟨by decide, by decide, by decide, by decide⟩) (fun r3323 u3324 h3322 => ?_)
  obtain ⟨rfl, rfl⟩ := h3322
  refine z_iadd (v := 1) b dX12_packs_52 (by decide) ?_
  refine y_zald (q0 := 4) (j := 1) (v := (ar S 3 1)) b (mw_4 cy a S) (by decide) rfl dX12_packs_53 ?_
  refine z_eqi h_a_3_1 ?_
  refine z_if_eq_t (tgt := 61) b dX12_packs_54 (by decide) (by decide) ?_
  refine z_lconst (v := 0) b dX12_packs_61 (by decide) ?_
  refine z_lor (v := 6) b dX12_packs_62 (by decide) ?_
  refine z_lstore_n (lv' := [(1, .long 6), (3, .int 0), (0, .ref (a 0))]) b dX12_packs_63 rfl (by decide) rfl ?_
  refine z_iconst (v := 0) b dX12_packs_64 (by decide) ?_
  refine z_istore (lv' := [(4, .int 0), (1, .long 6), (3, .int 0), (0, .ref (a 0))]) b dX12_packs_65 (by decide) rfl ?_
  refine z_iload b dX12_packs_67 rfl ?_
  refine z_iconst (v := 2) b dX12_packs_69 (by decide) ?_
  refine z_icmp_ge_f (tgt := 128) b dX12_packs_70 (by decide) (by decide) ?_
  refine z_lload_n b dX12_packs_73 rfl rfl ?_
  refine z_iconst (v := 3) b dX12_packs_74 (by decide) ?_
  refine z_lshl (v := 48) b dX12_packs_75 (by decide) ?_
  refine z_aload_n b dX12_packs_76 rfl rfl ?_
  refine z_get (q0 := 0) (k9 := 1) (v := .ref (a 2)) b (mw_0 cy a S) rfl in_X12 (by decide) wf_X12_17 rfl dX12_packs_77 ?_
  refine z_iconst (v := 3) b dX12_packs_80 (by decide) ?_
  refine z_iload_n b dX12_packs_81 rfl rfl ?_
  refine z_imul (v := 0) b dX12_packs_82 (by decide) ?_
  refine z_iload_n b dX12_packs_83 rfl rfl ?_
  refine z_iload b dX12_packs_84 rfl ?_
  refine z_calli b (z_runS (As := [.int 0, .int 0]) (st := [.int 0, .ref (a 2), .long 48]) b (c_X12_other_6 S ) cf_X12_other wm_X12_160 ws_X12_other dX12_packs_86 rfl (Nat.le_of_ble_eq_true rfl) ⟨by decide, by decide, by decide, by decide⟩) (fun r3326 u3327 h3325 => ?_)
  obtain ⟨rfl, rfl⟩ := h3325
  refine z_iadd (v := 1) b dX12_packs_89 (by decide) ?_
  refine y_iald (q0 := 2) (j := 1) (v := (ar S 1 1)) b (mw_2 cy a S) (by decide) rfl dX12_packs_90 ?_
  refine z_eqi h_a_1_1 ?_
  refine z_i2l (v := 0) b dX12_packs_91 (by decide) ?_
  refine z_lor (v := 48) b dX12_packs_92 (by decide) ?_
  refine z_lstore_n (lv' := [(1, .long 48), (4, .int 0), (3, .int 0), (0, .ref (a 0))]) b dX12_packs_93 rfl (by decide) rfl ?_
  refine z_lload_n b dX12_packs_94 rfl rfl ?_
  refine z_iconst (v := 1) b dX12_packs_95 (by decide) ?_
  refine z_lshl (v := 96) b dX12_packs_96 (by decide) ?_
  refine z_aload_n b dX12_packs_97 rfl rfl ?_
  refine z_get (q0 := 0) (k9 := 4) (v := .ref (a 5)) b (mw_0 cy a S) rfl in_X12 (by decide) wf_X12_27 rfl dX12_packs_98 ?_
  refine z_iconst (v := 3) b dX12_packs_101 (by decide) ?_
  refine z_iload_n b dX12_packs_102 rfl rfl ?_
  refine z_imul (v := 0) b dX12_packs_103 (by decide) ?_
  refine z_iload_n b dX12_packs_104 rfl rfl ?_
  refine z_iload b dX12_packs_105 rfl ?_
  refine z_calli b (z_runS (As := [.int 0, .int 0]) (st := [.int 0, .ref (a 5), .long 96]) b (c_X12_other_6 S ) cf_X12_other wm_X12_160 ws_X12_other dX12_packs_107 rfl (Nat.le_of_ble_eq_true rfl) ⟨by decide, by decide, by decide, by decide⟩) (fun r3329 u3330 h3328 => ?_)
  obtain ⟨rfl, rfl⟩ := h3328
  refine z_iadd (v := 1) b dX12_packs_110 (by decide) ?_
  refine y_zald (q0 := 5) (j := 1) (v := (ar S 4 1)) b (mw_5 cy a S) (by decide) rfl dX12_packs_111 ?_
  refine z_eqi h_a_4_1 ?_
  refine z_if_eq_t (tgt := 119) b dX12_packs_112 (by decide) (by decide) ?_
  refine z_lconst (v := 0) b dX12_packs_119 (by decide) ?_
  refine z_lor (v := 96) b dX12_packs_120 (by decide) ?_
  refine z_lstore_n (lv' := [(1, .long 96), (4, .int 0), (3, .int 0), (0, .ref (a 0))]) b dX12_packs_121 rfl (by decide) rfl ?_
  refine z_iinc (k9 := 1) (v := 1) (lv' := [(4, .int 1), (1, .long 96), (3, .int 0), (0, .ref (a 0))]) b dX12_packs_122 rfl (by decide) (by decide) rfl ?_
  refine z_goto (tgt := 67) b dX12_packs_125 (by decide) ?_
  refine z_iload b dX12_packs_67 rfl ?_
  refine z_iconst (v := 2) b dX12_packs_69 (by decide) ?_
  refine z_icmp_ge_f (tgt := 128) b dX12_packs_70 (by decide) (by decide) ?_
  refine z_lload_n b dX12_packs_73 rfl rfl ?_
  refine z_iconst (v := 3) b dX12_packs_74 (by decide) ?_
  refine z_lshl (v := 768) b dX12_packs_75 (by decide) ?_
  refine z_aload_n b dX12_packs_76 rfl rfl ?_
  refine z_get (q0 := 0) (k9 := 1) (v := .ref (a 2)) b (mw_0 cy a S) rfl in_X12 (by decide) wf_X12_17 rfl dX12_packs_77 ?_
  refine z_iconst (v := 3) b dX12_packs_80 (by decide) ?_
  refine z_iload_n b dX12_packs_81 rfl rfl ?_
  refine z_imul (v := 0) b dX12_packs_82 (by decide) ?_
  refine z_iload_n b dX12_packs_83 rfl rfl ?_
  refine z_iload b dX12_packs_84 rfl ?_
  refine z_calli b (z_runS (As := [.int 0, .int 1]) (st := [.int 0, .ref (a 2), .long 768]) b (c_X12_other_5 S ) cf_X12_other wm_X12_160 ws_X12_other dX12_packs_86 rfl (Nat.le_of_ble_eq_true rfl) ⟨by decide, by decide, by decide, by decide⟩) (fun r3332 u3333 h3331 => ?_)
  obtain ⟨rfl, rfl⟩ := h3331
  refine z_iadd (v := 2) b dX12_packs_89 (by decide) ?_
  refine y_iald (q0 := 2) (j := 2) (v := (ar S 1 2)) b (mw_2 cy a S) (by decide) rfl dX12_packs_90 ?_
  refine z_eqi h_a_1_2 ?_
  refine z_i2l (v := 0) b dX12_packs_91 (by decide) ?_
  refine z_lor (v := 768) b dX12_packs_92 (by decide) ?_
  refine z_lstore_n (lv' := [(1, .long 768), (4, .int 1), (3, .int 0), (0, .ref (a 0))]) b dX12_packs_93 rfl (by decide) rfl ?_
  refine z_lload_n b dX12_packs_94 rfl rfl ?_
  refine z_iconst (v := 1) b dX12_packs_95 (by decide) ?_
  refine z_lshl (v := 1536) b dX12_packs_96 (by decide) ?_
  refine z_aload_n b dX12_packs_97 rfl rfl ?_
  refine z_get (q0 := 0) (k9 := 4) (v := .ref (a 5)) b (mw_0 cy a S) rfl in_X12 (by decide) wf_X12_27 rfl dX12_packs_98 ?_
  refine z_iconst (v := 3) b dX12_packs_101 (by decide) ?_
  refine z_iload_n b dX12_packs_102 rfl rfl ?_
  refine z_imul (v := 0) b dX12_packs_103 (by decide) ?_
  refine z_iload_n b dX12_packs_104 rfl rfl ?_
  refine z_iload b dX12_packs_105 rfl ?_
  refine z_calli b (z_runS (As := [.int 0, .int 1]) (st := [.int 0, .ref (a 5), .long 1536]) b (c_X12_other_5 S ) cf_X12_other wm_X12_160 ws_X12_other dX12_packs_107 rfl (Nat.le_of_ble_eq_true rfl) ⟨by decide, by decide, by decide, by decide⟩) (fun r3335 u3336 h3334 => ?_)
  obtain ⟨rfl, rfl⟩ := h3334
  refine z_iadd (v := 2) b dX12_packs_110 (by decide) ?_
  refine y_zald (q0 := 5) (j := 2) (v := (ar S 4 2)) b (mw_5 cy a S) (by decide) rfl dX12_packs_111 ?_
  refine z_eqi h_a_4_2 ?_
  refine z_if_eq_t (tgt := 119) b dX12_packs_112 (by decide) (by decide) ?_
  refine z_lconst (v := 0) b dX12_packs_119 (by decide) ?_
  refine z_lor (v := 1536) b dX12_packs_120 (by decide) ?_
  refine z_lstore_n (lv' := [(1, .long 1536), (4, .int 1), (3, .int 0), (0, .ref (a 0))]) b dX12_packs_121 rfl (by decide) rfl ?_
  refine z_iinc (k9 := 1) (v := 2) (lv' := [(4, .int 2), (1, .long 1536), (3, .int 0), (0, .ref (a 0))]) b dX12_packs_122 rfl (by decide) (by decide) rfl ?_
  refine z_goto (tgt := 67) b dX12_packs_125 (by decide) ?_
  refine z_iload b dX12_packs_67 rfl ?_
  refine z_iconst (v := 2) b dX12_packs_69 (by decide) ?_
  refine z_icmp_ge_t (tgt := 128) b dX12_packs_70 (by decide) (by decide) ?_
  refine z_iinc (k9 := 2) (v := 1) (lv' := [(3, .int 1), (4, .int 2), (1, .long 1536), (0, .ref (a 0))]) b dX12_packs_128 rfl (by decide) (by decide) rfl ?_
  refine z_goto (tgt := 8) b dX12_packs_131 (by decide) ?_
  refine z_iload_n b dX12_packs_8 rfl rfl ?_
  refine z_iconst (v := 3) b dX12_packs_9 (by decide) ?_
  refine z_icmp_ge_f (tgt := 134) b dX12_packs_10 (by decide) (by decide) ?_
  refine z_lload_n b dX12_packs_13 rfl rfl ?_
  refine z_iconst (v := 4) b dX12_packs_14 (by decide) ?_
  refine z_lshl (v := 24576) b dX12_packs_15 (by decide) ?_
  refine z_aload_n b dX12_packs_16 rfl rfl ?_
  refine z_get (q0 := 0) (k9 := 0) (v := .ref (a 1)) b (mw_0 cy a S) rfl in_X12 (by decide) wf_X12_13 rfl dX12_packs_17 ?_
  refine z_iload_n b dX12_packs_20 rfl rfl ?_
  exact k

set_option maxHeartbeats 4000000 in
set_option maxRecDepth 100000 in
theorem ch_X12_packs_47 {p : Program} {l : Launch} {e : Env} {R : Room} {s : State} {m : MethodId} {args : Array Value} {below : List Frame} {meth : Method} {c : Code} {D : va_G} {cy : Nat → ClassId} {T0 tB tE : Nat} {A : Nat → Prop} {Q : State → Prop} {a : Nat → Nat} (S : GS)  (h_a_0_1 : ar S 0 1 = 0) (h_a_0_2 : ar S 0 2 = 0) (h_a_1_3 : ar S 1 3 = 0) (h_a_1_5 : ar S 1 5 = 0) (h_a_2_1 : ar S 2 1 = 3) (h_a_2_2 : ar S 2 2 = 3) (h_a_3_5 : ar S 3 5 = 0) (h_a_4_3 : ar S 4 3 = 0) (h_a_4_5 : ar S 4 5 = 0) (b : Bz p R s m args meth c D cy T0 tB tE A 5 cX12_packs RX12 (some .long) "packs" 1 21 0 0) (k : Z p l e R s m args below meth c D A 5 Q 0 0 (mw cy a S) [(1, .long 3221323779), (3, .int 2), (4, .int 2), (0, .ref (a 0))] 37 []) : Z p l e R s m args below meth c D A 5 Q 0 0 (mw cy a S) [(3, .int 1), (4, .int 2), (1, .long 1536), (0, .ref (a 0))] 21 [.int 1, .ref (a 1), .long 24576] := by
  refine y_iald (q0 := 1) (j := 1) (v := (ar S 0 1)) b (mw_1 cy a S) (by decide) rfl dX12_packs_21 ?_
  refine z_eqi h_a_0_1 ?_
  refine z_i2l (v := 0) b dX12_packs_22 (by decide) ?_
  refine z_lor (v := 24576) b dX12_packs_23 (by decide) ?_
  refine z_lstore_n (lv' := [(1, .long 24576), (3, .int 1), (4, .int 2), (0, .ref (a 0))]) b dX12_packs_24 rfl (by decide) rfl ?_
  refine z_lload_n b dX12_packs_25 rfl rfl ?_
  refine z_iconst (v := 2) b dX12_packs_26 (by decide) ?_
  refine z_lshl (v := 98304) b dX12_packs_27 (by decide) ?_
  refine z_aload_n b dX12_packs_28 rfl rfl ?_
  refine z_get (q0 := 0) (k9 := 2) (v := .ref (a 3)) b (mw_0 cy a S) rfl in_X12 (by decide) wf_X12_20 rfl dX12_packs_29 ?_
  refine z_iload_n b dX12_packs_32 rfl rfl ?_
  refine y_iald (q0 := 3) (j := 1) (v := (ar S 2 1)) b (mw_3 cy a S) (by decide) rfl dX12_packs_33 ?_
  refine z_eqi h_a_2_1 ?_
  refine z_i2l (v := 3) b dX12_packs_34 (by decide) ?_
  refine z_lor (v := 98307) b dX12_packs_35 (by decide) ?_
  refine z_lstore_n (lv' := [(1, .long 98307), (3, .int 1), (4, .int 2), (0, .ref (a 0))]) b dX12_packs_36 rfl (by decide) rfl ?_
  refine z_lload_n b dX12_packs_37 rfl rfl ?_
  refine z_iconst (v := 1) b dX12_packs_38 (by decide) ?_
  refine z_lshl (v := 196614) b dX12_packs_39 (by decide) ?_
  refine z_aload_n b dX12_packs_40 rfl rfl ?_
  refine z_get (q0 := 0) (k9 := 3) (v := .ref (a 4)) b (mw_0 cy a S) rfl in_X12 (by decide) wf_X12_23 rfl dX12_packs_41 ?_
  refine z_iconst (v := 3) b dX12_packs_44 (by decide) ?_
  refine z_iload_n b dX12_packs_45 rfl rfl ?_
  refine z_imul (v := 3) b dX12_packs_46 (by decide) ?_
  refine z_iload_n b dX12_packs_47 rfl rfl ?_
  refine z_iconst (v := 0) b dX12_packs_48 (by decide) ?_
  refine z_calli b (z_runS (As := [.int 1, .int 0]) (st := [.int 3, .ref (a 4), .long 196614]) b (c_X12_other_4 S ) cf_X12_other wm_X12_160 ws_X12_other dX12_packs_49 rfl (Nat.le_of_ble_eq_true rfl) ⟨by decide, by decide, by decide, by decide⟩) (fun r3338 u3339 h3337 => ?_)
  obtain ⟨rfl, rfl⟩ := h3337
  refine z_iadd (v := 5) b dX12_packs_52 (by decide) ?_
  refine y_zald (q0 := 4) (j := 5) (v := (ar S 3 5)) b (mw_4 cy a S) (by decide) rfl dX12_packs_53 ?_
  refine z_eqi h_a_3_5 ?_
  refine z_if_eq_t (tgt := 61) b dX12_packs_54 (by decide) (by decide) ?_
  refine z_lconst (v := 0) b dX12_packs_61 (by decide) ?_
  refine z_lor (v := 196614) b dX12_packs_62 (by decide) ?_
  refine z_lstore_n (lv' := [(1, .long 196614), (3, .int 1), (4, .int 2), (0, .ref (a 0))]) b dX12_packs_63 rfl (by decide) rfl ?_
  refine z_iconst (v := 0) b dX12_packs_64 (by decide) ?_
  refine z_istore (lv' := [(4, .int 0), (1, .long 196614), (3, .int 1), (0, .ref (a 0))]) b dX12_packs_65 (by decide) rfl ?_
  refine z_iload b dX12_packs_67 rfl ?_
  refine z_iconst (v := 2) b dX12_packs_69 (by decide) ?_
  refine z_icmp_ge_f (tgt := 128) b dX12_packs_70 (by decide) (by decide) ?_
  refine z_lload_n b dX12_packs_73 rfl rfl ?_
  refine z_iconst (v := 3) b dX12_packs_74 (by decide) ?_
  refine z_lshl (v := 1572912) b dX12_packs_75 (by decide) ?_
  refine z_aload_n b dX12_packs_76 rfl rfl ?_
  refine z_get (q0 := 0) (k9 := 1) (v := .ref (a 2)) b (mw_0 cy a S) rfl in_X12 (by decide) wf_X12_17 rfl dX12_packs_77 ?_
  refine z_iconst (v := 3) b dX12_packs_80 (by decide) ?_
  refine z_iload_n b dX12_packs_81 rfl rfl ?_
  refine z_imul (v := 3) b dX12_packs_82 (by decide) ?_
  refine z_iload_n b dX12_packs_83 rfl rfl ?_
  refine z_iload b dX12_packs_84 rfl ?_
  refine z_calli b (z_runS (As := [.int 1, .int 0]) (st := [.int 3, .ref (a 2), .long 1572912]) b (c_X12_other_4 S ) cf_X12_other wm_X12_160 ws_X12_other dX12_packs_86 rfl (Nat.le_of_ble_eq_true rfl) ⟨by decide, by decide, by decide, by decide⟩) (fun r3341 u3342 h3340 => ?_)
  obtain ⟨rfl, rfl⟩ := h3340
  refine z_iadd (v := 5) b dX12_packs_89 (by decide) ?_
  refine y_iald (q0 := 2) (j := 5) (v := (ar S 1 5)) b (mw_2 cy a S) (by decide) rfl dX12_packs_90 ?_
  refine z_eqi h_a_1_5 ?_
  refine z_i2l (v := 0) b dX12_packs_91 (by decide) ?_
  refine z_lor (v := 1572912) b dX12_packs_92 (by decide) ?_
  refine z_lstore_n (lv' := [(1, .long 1572912), (4, .int 0), (3, .int 1), (0, .ref (a 0))]) b dX12_packs_93 rfl (by decide) rfl ?_
  refine z_lload_n b dX12_packs_94 rfl rfl ?_
  refine z_iconst (v := 1) b dX12_packs_95 (by decide) ?_
  refine z_lshl (v := 3145824) b dX12_packs_96 (by decide) ?_
  refine z_aload_n b dX12_packs_97 rfl rfl ?_
  refine z_get (q0 := 0) (k9 := 4) (v := .ref (a 5)) b (mw_0 cy a S) rfl in_X12 (by decide) wf_X12_27 rfl dX12_packs_98 ?_
  refine z_iconst (v := 3) b dX12_packs_101 (by decide) ?_
  refine z_iload_n b dX12_packs_102 rfl rfl ?_
  refine z_imul (v := 3) b dX12_packs_103 (by decide) ?_
  refine z_iload_n b dX12_packs_104 rfl rfl ?_
  refine z_iload b dX12_packs_105 rfl ?_
  refine z_calli b (z_runS (As := [.int 1, .int 0]) (st := [.int 3, .ref (a 5), .long 3145824]) b (c_X12_other_4 S ) cf_X12_other wm_X12_160 ws_X12_other dX12_packs_107 rfl (Nat.le_of_ble_eq_true rfl) ⟨by decide, by decide, by decide, by decide⟩) (fun r3344 u3345 h3343 => ?_)
  obtain ⟨rfl, rfl⟩ := h3343
  refine z_iadd (v := 5) b dX12_packs_110 (by decide) ?_
  refine y_zald (q0 := 5) (j := 5) (v := (ar S 4 5)) b (mw_5 cy a S) (by decide) rfl dX12_packs_111 ?_
  refine z_eqi h_a_4_5 ?_
  refine z_if_eq_t (tgt := 119) b dX12_packs_112 (by decide) (by decide) ?_
  refine z_lconst (v := 0) b dX12_packs_119 (by decide) ?_
  refine z_lor (v := 3145824) b dX12_packs_120 (by decide) ?_
  refine z_lstore_n (lv' := [(1, .long 3145824), (4, .int 0), (3, .int 1), (0, .ref (a 0))]) b dX12_packs_121 rfl (by decide) rfl ?_
  refine z_iinc (k9 := 1) (v := 1) (lv' := [(4, .int 1), (1, .long 3145824), (3, .int 1), (0, .ref (a 0))]) b dX12_packs_122 rfl (by decide) (by decide) rfl ?_
  refine z_goto (tgt := 67) b dX12_packs_125 (by decide) ?_
  refine z_iload b dX12_packs_67 rfl ?_
  refine z_iconst (v := 2) b dX12_packs_69 (by decide) ?_
  refine z_icmp_ge_f (tgt := 128) b dX12_packs_70 (by decide) (by decide) ?_
  refine z_lload_n b dX12_packs_73 rfl rfl ?_
  refine z_iconst (v := 3) b dX12_packs_74 (by decide) ?_
  refine z_lshl (v := 25166592) b dX12_packs_75 (by decide) ?_
  refine z_aload_n b dX12_packs_76 rfl rfl ?_
  refine z_get (q0 := 0) (k9 := 1) (v := .ref (a 2)) b (mw_0 cy a S) rfl in_X12 (by decide) wf_X12_17 rfl dX12_packs_77 ?_
  refine z_iconst (v := 3) b dX12_packs_80 (by decide) ?_
  refine z_iload_n b dX12_packs_81 rfl rfl ?_
  refine z_imul (v := 3) b dX12_packs_82 (by decide) ?_
  refine z_iload_n b dX12_packs_83 rfl rfl ?_
  refine z_iload b dX12_packs_84 rfl ?_
  refine z_calli b (z_runS (As := [.int 1, .int 1]) (st := [.int 3, .ref (a 2), .long 25166592]) b (c_X12_other_3 S ) cf_X12_other wm_X12_160 ws_X12_other dX12_packs_86 rfl (Nat.le_of_ble_eq_true rfl) ⟨by decide, by decide, by decide, by decide⟩) (fun r3347 u3348 h3346 => ?_)
  obtain ⟨rfl, rfl⟩ := h3346
  refine z_iadd (v := 3) b dX12_packs_89 (by decide) ?_
  refine y_iald (q0 := 2) (j := 3) (v := (ar S 1 3)) b (mw_2 cy a S) (by decide) rfl dX12_packs_90 ?_
  refine z_eqi h_a_1_3 ?_
  refine z_i2l (v := 0) b dX12_packs_91 (by decide) ?_
  refine z_lor (v := 25166592) b dX12_packs_92 (by decide) ?_
  refine z_lstore_n (lv' := [(1, .long 25166592), (4, .int 1), (3, .int 1), (0, .ref (a 0))]) b dX12_packs_93 rfl (by decide) rfl ?_
  refine z_lload_n b dX12_packs_94 rfl rfl ?_
  refine z_iconst (v := 1) b dX12_packs_95 (by decide) ?_
  refine z_lshl (v := 50333184) b dX12_packs_96 (by decide) ?_
  refine z_aload_n b dX12_packs_97 rfl rfl ?_
  refine z_get (q0 := 0) (k9 := 4) (v := .ref (a 5)) b (mw_0 cy a S) rfl in_X12 (by decide) wf_X12_27 rfl dX12_packs_98 ?_
  refine z_iconst (v := 3) b dX12_packs_101 (by decide) ?_
  refine z_iload_n b dX12_packs_102 rfl rfl ?_
  refine z_imul (v := 3) b dX12_packs_103 (by decide) ?_
  refine z_iload_n b dX12_packs_104 rfl rfl ?_
  refine z_iload b dX12_packs_105 rfl ?_
  refine z_calli b (z_runS (As := [.int 1, .int 1]) (st := [.int 3, .ref (a 5), .long 50333184]) b (c_X12_other_3 S ) cf_X12_other wm_X12_160 ws_X12_other dX12_packs_107 rfl (Nat.le_of_ble_eq_true rfl) ⟨by decide, by decide, by decide, by decide⟩) (fun r3350 u3351 h3349 => ?_)
  obtain ⟨rfl, rfl⟩ := h3349
  refine z_iadd (v := 3) b dX12_packs_110 (by decide) ?_
  refine y_zald (q0 := 5) (j := 3) (v := (ar S 4 3)) b (mw_5 cy a S) (by decide) rfl dX12_packs_111 ?_
  refine z_eqi h_a_4_3 ?_
  refine z_if_eq_t (tgt := 119) b dX12_packs_112 (by decide) (by decide) ?_
  refine z_lconst (v := 0) b dX12_packs_119 (by decide) ?_
  refine z_lor (v := 50333184) b dX12_packs_120 (by decide) ?_
  refine z_lstore_n (lv' := [(1, .long 50333184), (4, .int 1), (3, .int 1), (0, .ref (a 0))]) b dX12_packs_121 rfl (by decide) rfl ?_
  refine z_iinc (k9 := 1) (v := 2) (lv' := [(4, .int 2), (1, .long 50333184), (3, .int 1), (0, .ref (a 0))]) b dX12_packs_122 rfl (by decide) (by decide) rfl ?_
  refine z_goto (tgt := 67) b dX12_packs_125 (by decide) ?_
  refine z_iload b dX12_packs_67 rfl ?_
  refine z_iconst (v := 2) b dX12_packs_69 (by decide) ?_
  refine z_icmp_ge_t (tgt := 128) b dX12_packs_70 (by decide) (by decide) ?_
  refine z_iinc (k9 := 2) (v := 2) (lv' := [(3, .int 2), (4, .int 2), (1, .long 50333184), (0, .ref (a 0))]) b dX12_packs_128 rfl (by decide) (by decide) rfl ?_
  refine z_goto (tgt := 8) b dX12_packs_131 (by decide) ?_
  refine z_iload_n b dX12_packs_8 rfl rfl ?_
  refine z_iconst (v := 3) b dX12_packs_9 (by decide) ?_
  refine z_icmp_ge_f (tgt := 134) b dX12_packs_10 (by decide) (by decide) ?_
  refine z_lload_n b dX12_packs_13 rfl rfl ?_
  refine z_iconst (v := 4) b dX12_packs_14 (by decide) ?_
  refine z_lshl (v := 805330944) b dX12_packs_15 (by decide) ?_
  refine z_aload_n b dX12_packs_16 rfl rfl ?_
  refine z_get (q0 := 0) (k9 := 0) (v := .ref (a 1)) b (mw_0 cy a S) rfl in_X12 (by decide) wf_X12_13 rfl dX12_packs_17 ?_
  refine z_iload_n b dX12_packs_20 rfl rfl ?_
  refine y_iald (q0 := 1) (j := 2) (v := (ar S 0 2)) b (mw_1 cy a S) (by decide) rfl dX12_packs_21 ?_
  refine z_eqi h_a_0_2 ?_
  refine z_i2l (v := 0) b dX12_packs_22 (by decide) ?_
  refine z_lor (v := 805330944) b dX12_packs_23 (by decide) ?_
  refine z_lstore_n (lv' := [(1, .long 805330944), (3, .int 2), (4, .int 2), (0, .ref (a 0))]) b dX12_packs_24 rfl (by decide) rfl ?_
  refine z_lload_n b dX12_packs_25 rfl rfl ?_
  refine z_iconst (v := 2) b dX12_packs_26 (by decide) ?_
  refine z_lshl (v := 3221323776) b dX12_packs_27 (by decide) ?_
  refine z_aload_n b dX12_packs_28 rfl rfl ?_
  refine z_get (q0 := 0) (k9 := 2) (v := .ref (a 3)) b (mw_0 cy a S) rfl in_X12 (by decide) wf_X12_20 rfl dX12_packs_29 ?_
  refine z_iload_n b dX12_packs_32 rfl rfl ?_
  refine y_iald (q0 := 3) (j := 2) (v := (ar S 2 2)) b (mw_3 cy a S) (by decide) rfl dX12_packs_33 ?_
  refine z_eqi h_a_2_2 ?_
  refine z_i2l (v := 3) b dX12_packs_34 (by decide) ?_
  refine z_lor (v := 3221323779) b dX12_packs_35 (by decide) ?_
  refine z_lstore_n (lv' := [(1, .long 3221323779), (3, .int 2), (4, .int 2), (0, .ref (a 0))]) b dX12_packs_36 rfl (by decide) rfl ?_
  exact k

set_option maxHeartbeats 4000000 in
set_option maxRecDepth 100000 in
theorem c_X12_packs_22 {l : Launch} {D : va_G} {cy : Nat → ClassId} {T0 tB tE : Nat} {a : Nat → Nat} (S : GS)  (h_i_0 : fi S 0 = 0) (h_a_0_0 : ar S 0 0 = 0) (h_a_2_0 : ar S 2 0 = 3) (h_a_3_1 : ar S 3 1 = 0) (h_a_1_1 : ar S 1 1 = 0) (h_a_4_1 : ar S 4 1 = 0) (h_a_1_2 : ar S 1 2 = 0) (h_a_4_2 : ar S 4 2 = 0) (h_a_0_1 : ar S 0 1 = 0) (h_a_2_1 : ar S 2 1 = 3) (h_a_3_5 : ar S 3 5 = 0) (h_a_1_5 : ar S 1 5 = 0) (h_a_4_5 : ar S 4 5 = 0) (h_a_1_3 : ar S 1 3 = 0) (h_a_4_3 : ar S 4 3 = 0) (h_a_0_2 : ar S 0 2 = 0) (h_a_2_2 : ar S 2 2 = 3) (h_a_3_6 : ar S 3 6 = 0) (h_a_1_6 : ar S 1 6 = 0) (h_a_4_6 : ar S 4 6 = 1) (h_a_1_7 : ar S 1 7 = 0) (h_a_4_7 : ar S 4 7 = 0) : Ct l D cy T0 tB tE yX12_packs cX12_packs 5 (some .long) 1 21 0 0 (mw cy a S) [.ref (a 0)] (QL D (U := GS) (fun r u => 1649317774864 = r ∧ S = u) (mw cy a)) := by
  refine Ct.ofZ RX12 "packs" [(0, .ref (a 0))] rfl rfl rfl rfl (Nat.le_of_ble_eq_true rfl) ?_
  intro p e R s m args below meth c A b
  refine ch_X12_packs_46 S  h_a_0_0 h_a_1_1 h_a_1_2 h_a_2_0 h_a_3_1 h_a_4_1 h_a_4_2 h_i_0  b ?_
  refine ch_X12_packs_47 S  h_a_0_1 h_a_0_2 h_a_1_3 h_a_1_5 h_a_2_1 h_a_2_2 h_a_3_5 h_a_4_3 h_a_4_5  b ?_
  refine z_lload_n b dX12_packs_37 rfl rfl ?_
  refine z_iconst (v := 1) b dX12_packs_38 (by decide) ?_
  refine z_lshl (v := 6442647558) b dX12_packs_39 (by decide) ?_
  refine z_aload_n b dX12_packs_40 rfl rfl ?_
  refine z_get (q0 := 0) (k9 := 3) (v := .ref (a 4)) b (mw_0 cy a S) rfl in_X12 (by decide) wf_X12_23 rfl dX12_packs_41 ?_
  refine z_iconst (v := 3) b dX12_packs_44 (by decide) ?_
  refine z_iload_n b dX12_packs_45 rfl rfl ?_
  refine z_imul (v := 6) b dX12_packs_46 (by decide) ?_
  refine z_iload_n b dX12_packs_47 rfl rfl ?_
  refine z_iconst (v := 0) b dX12_packs_48 (by decide) ?_
  refine z_calli b (z_runS (As := [.int 2, .int 0]) (st := [.int 6, .ref (a 4), .long 6442647558]) b (c_X12_other_2 S ) cf_X12_other wm_X12_160 ws_X12_other dX12_packs_49 rfl (Nat.le_of_ble_eq_true rfl) ⟨by decide, by decide, by decide, by decide⟩) (fun r3353 u3354 h3352 => ?_)
  obtain ⟨rfl, rfl⟩ := h3352
  refine z_iadd (v := 6) b dX12_packs_52 (by decide) ?_
  refine y_zald (q0 := 4) (j := 6) (v := (ar S 3 6)) b (mw_4 cy a S) (by decide) rfl dX12_packs_53 ?_
  refine z_eqi h_a_3_6 ?_
  refine z_if_eq_t (tgt := 61) b dX12_packs_54 (by decide) (by decide) ?_
  refine z_lconst (v := 0) b dX12_packs_61 (by decide) ?_
  refine z_lor (v := 6442647558) b dX12_packs_62 (by decide) ?_
  refine z_lstore_n (lv' := [(1, .long 6442647558), (3, .int 2), (4, .int 2), (0, .ref (a 0))]) b dX12_packs_63 rfl (by decide) rfl ?_
  refine z_iconst (v := 0) b dX12_packs_64 (by decide) ?_
  refine z_istore (lv' := [(4, .int 0), (1, .long 6442647558), (3, .int 2), (0, .ref (a 0))]) b dX12_packs_65 (by decide) rfl ?_
  refine z_iload b dX12_packs_67 rfl ?_
  refine z_iconst (v := 2) b dX12_packs_69 (by decide) ?_
  refine z_icmp_ge_f (tgt := 128) b dX12_packs_70 (by decide) (by decide) ?_
  refine z_lload_n b dX12_packs_73 rfl rfl ?_
  refine z_iconst (v := 3) b dX12_packs_74 (by decide) ?_
  refine z_lshl (v := 51541180464) b dX12_packs_75 (by decide) ?_
  refine z_aload_n b dX12_packs_76 rfl rfl ?_
  refine z_get (q0 := 0) (k9 := 1) (v := .ref (a 2)) b (mw_0 cy a S) rfl in_X12 (by decide) wf_X12_17 rfl dX12_packs_77 ?_
  refine z_iconst (v := 3) b dX12_packs_80 (by decide) ?_
  refine z_iload_n b dX12_packs_81 rfl rfl ?_
  refine z_imul (v := 6) b dX12_packs_82 (by decide) ?_
  refine z_iload_n b dX12_packs_83 rfl rfl ?_
  refine z_iload b dX12_packs_84 rfl ?_
  refine z_calli b (z_runS (As := [.int 2, .int 0]) (st := [.int 6, .ref (a 2), .long 51541180464]) b (c_X12_other_2 S ) cf_X12_other wm_X12_160 ws_X12_other dX12_packs_86 rfl (Nat.le_of_ble_eq_true rfl) ⟨by decide, by decide, by decide, by decide⟩) (fun r3356 u3357 h3355 => ?_)
  obtain ⟨rfl, rfl⟩ := h3355
  refine z_iadd (v := 6) b dX12_packs_89 (by decide) ?_
  refine y_iald (q0 := 2) (j := 6) (v := (ar S 1 6)) b (mw_2 cy a S) (by decide) rfl dX12_packs_90 ?_
  refine z_eqi h_a_1_6 ?_
  refine z_i2l (v := 0) b dX12_packs_91 (by decide) ?_
  refine z_lor (v := 51541180464) b dX12_packs_92 (by decide) ?_
  refine z_lstore_n (lv' := [(1, .long 51541180464), (4, .int 0), (3, .int 2), (0, .ref (a 0))]) b dX12_packs_93 rfl (by decide) rfl ?_
  refine z_lload_n b dX12_packs_94 rfl rfl ?_
  refine z_iconst (v := 1) b dX12_packs_95 (by decide) ?_
  refine z_lshl (v := 103082360928) b dX12_packs_96 (by decide) ?_
  refine z_aload_n b dX12_packs_97 rfl rfl ?_
  refine z_get (q0 := 0) (k9 := 4) (v := .ref (a 5)) b (mw_0 cy a S) rfl in_X12 (by decide) wf_X12_27 rfl dX12_packs_98 ?_
  refine z_iconst (v := 3) b dX12_packs_101 (by decide) ?_
  refine z_iload_n b dX12_packs_102 rfl rfl ?_
  refine z_imul (v := 6) b dX12_packs_103 (by decide) ?_
  refine z_iload_n b dX12_packs_104 rfl rfl ?_
  refine z_iload b dX12_packs_105 rfl ?_
  refine z_calli b (z_runS (As := [.int 2, .int 0]) (st := [.int 6, .ref (a 5), .long 103082360928]) b (c_X12_other_2 S ) cf_X12_other wm_X12_160 ws_X12_other dX12_packs_107 rfl (Nat.le_of_ble_eq_true rfl) ⟨by decide, by decide, by decide, by decide⟩) (fun r3359 u3360 h3358 => ?_)
  obtain ⟨rfl, rfl⟩ := h3358
  refine z_iadd (v := 6) b dX12_packs_110 (by decide) ?_
  refine y_zald (q0 := 5) (j := 6) (v := (ar S 4 6)) b (mw_5 cy a S) (by decide) rfl dX12_packs_111 ?_
  refine z_eqi h_a_4_6 ?_
  refine z_if_eq_f (tgt := 119) b dX12_packs_112 (by decide) (by decide) ?_
  refine z_lconst (v := 1) b dX12_packs_115 (by decide) ?_
  refine z_goto (tgt := 120) b dX12_packs_116 (by decide) ?_
  refine z_lor (v := 103082360929) b dX12_packs_120 (by decide) ?_
  refine z_lstore_n (lv' := [(1, .long 103082360929), (4, .int 0), (3, .int 2), (0, .ref (a 0))]) b dX12_packs_121 rfl (by decide) rfl ?_
  refine z_iinc (k9 := 1) (v := 1) (lv' := [(4, .int 1), (1, .long 103082360929), (3, .int 2), (0, .ref (a 0))]) b dX12_packs_122 rfl (by decide) (by decide) rfl ?_
  refine z_goto (tgt := 67) b dX12_packs_125 (by decide) ?_
  refine z_iload b dX12_packs_67 rfl ?_
  refine z_iconst (v := 2) b dX12_packs_69 (by decide) ?_
  refine z_icmp_ge_f (tgt := 128) b dX12_packs_70 (by decide) (by decide) ?_
  refine z_lload_n b dX12_packs_73 rfl rfl ?_
  refine z_iconst (v := 3) b dX12_packs_74 (by decide) ?_
  refine z_lshl (v := 824658887432) b dX12_packs_75 (by decide) ?_
  refine z_aload_n b dX12_packs_76 rfl rfl ?_
  refine z_get (q0 := 0) (k9 := 1) (v := .ref (a 2)) b (mw_0 cy a S) rfl in_X12 (by decide) wf_X12_17 rfl dX12_packs_77 ?_
  refine z_iconst (v := 3) b dX12_packs_80 (by decide) ?_
  refine z_iload_n b dX12_packs_81 rfl rfl ?_
  refine z_imul (v := 6) b dX12_packs_82 (by decide) ?_
  refine z_iload_n b dX12_packs_83 rfl rfl ?_
  refine z_iload b dX12_packs_84 rfl ?_
  refine z_calli b (z_runS (As := [.int 2, .int 1]) (st := [.int 6, .ref (a 2), .long 824658887432]) b (c_X12_other S ) cf_X12_other wm_X12_160 ws_X12_other dX12_packs_86 rfl (Nat.le_of_ble_eq_true rfl) ⟨by decide, by decide, by decide, by decide⟩) (fun r3362 u3363 h3361 => ?_)
  obtain ⟨rfl, rfl⟩ := h3361
  refine z_iadd (v := 7) b dX12_packs_89 (by decide) ?_
  refine y_iald (q0 := 2) (j := 7) (v := (ar S 1 7)) b (mw_2 cy a S) (by decide) rfl dX12_packs_90 ?_
  refine z_eqi h_a_1_7 ?_
  refine z_i2l (v := 0) b dX12_packs_91 (by decide) ?_
  refine z_lor (v := 824658887432) b dX12_packs_92 (by decide) ?_
  refine z_lstore_n (lv' := [(1, .long 824658887432), (4, .int 1), (3, .int 2), (0, .ref (a 0))]) b dX12_packs_93 rfl (by decide) rfl ?_
  refine z_lload_n b dX12_packs_94 rfl rfl ?_
  refine z_iconst (v := 1) b dX12_packs_95 (by decide) ?_
  refine z_lshl (v := 1649317774864) b dX12_packs_96 (by decide) ?_
  refine z_aload_n b dX12_packs_97 rfl rfl ?_
  refine z_get (q0 := 0) (k9 := 4) (v := .ref (a 5)) b (mw_0 cy a S) rfl in_X12 (by decide) wf_X12_27 rfl dX12_packs_98 ?_
  refine z_iconst (v := 3) b dX12_packs_101 (by decide) ?_
  refine z_iload_n b dX12_packs_102 rfl rfl ?_
  refine z_imul (v := 6) b dX12_packs_103 (by decide) ?_
  refine z_iload_n b dX12_packs_104 rfl rfl ?_
  refine z_iload b dX12_packs_105 rfl ?_
  refine z_calli b (z_runS (As := [.int 2, .int 1]) (st := [.int 6, .ref (a 5), .long 1649317774864]) b (c_X12_other S ) cf_X12_other wm_X12_160 ws_X12_other dX12_packs_107 rfl (Nat.le_of_ble_eq_true rfl) ⟨by decide, by decide, by decide, by decide⟩) (fun r3365 u3366 h3364 => ?_)
  obtain ⟨rfl, rfl⟩ := h3364
  refine z_iadd (v := 7) b dX12_packs_110 (by decide) ?_
  refine y_zald (q0 := 5) (j := 7) (v := (ar S 4 7)) b (mw_5 cy a S) (by decide) rfl dX12_packs_111 ?_
  refine z_eqi h_a_4_7 ?_
  refine z_if_eq_t (tgt := 119) b dX12_packs_112 (by decide) (by decide) ?_
  refine z_lconst (v := 0) b dX12_packs_119 (by decide) ?_
  refine z_lor (v := 1649317774864) b dX12_packs_120 (by decide) ?_
  refine z_lstore_n (lv' := [(1, .long 1649317774864), (4, .int 1), (3, .int 2), (0, .ref (a 0))]) b dX12_packs_121 rfl (by decide) rfl ?_
  refine z_iinc (k9 := 1) (v := 2) (lv' := [(4, .int 2), (1, .long 1649317774864), (3, .int 2), (0, .ref (a 0))]) b dX12_packs_122 rfl (by decide) (by decide) rfl ?_
  refine z_goto (tgt := 67) b dX12_packs_125 (by decide) ?_
  refine z_iload b dX12_packs_67 rfl ?_
  refine z_iconst (v := 2) b dX12_packs_69 (by decide) ?_
  refine z_icmp_ge_t (tgt := 128) b dX12_packs_70 (by decide) (by decide) ?_
  refine z_iinc (k9 := 2) (v := 3) (lv' := [(3, .int 3), (4, .int 2), (1, .long 1649317774864), (0, .ref (a 0))]) b dX12_packs_128 rfl (by decide) (by decide) rfl ?_
  refine z_goto (tgt := 8) b dX12_packs_131 (by decide) ?_
  refine z_iload_n b dX12_packs_8 rfl rfl ?_
  refine z_iconst (v := 3) b dX12_packs_9 (by decide) ?_
  refine z_icmp_ge_t (tgt := 134) b dX12_packs_10 (by decide) (by decide) ?_
  refine z_lload_n b dX12_packs_134 rfl rfl ?_
  exact z_lret (u := S) b rfl dX12_packs_135 ⟨rfl, rfl⟩ rfl (by decide) (by decide)

set_option maxHeartbeats 4000000 in
set_option maxRecDepth 100000 in
theorem c_X12_told_22 {l : Launch} {D : va_G} {cy : Nat → ClassId} {T0 tB tE : Nat} {a : Nat → Nat} (S : GS)  (h_i_0 : fi S 0 = 0) (h_a_0_0 : ar S 0 0 = 0) (h_a_2_0 : ar S 2 0 = 3) (h_a_3_1 : ar S 3 1 = 0) (h_a_1_1 : ar S 1 1 = 0) (h_a_4_1 : ar S 4 1 = 0) (h_a_1_2 : ar S 1 2 = 0) (h_a_4_2 : ar S 4 2 = 0) (h_a_0_1 : ar S 0 1 = 0) (h_a_2_1 : ar S 2 1 = 3) (h_a_3_5 : ar S 3 5 = 0) (h_a_1_5 : ar S 1 5 = 0) (h_a_4_5 : ar S 4 5 = 0) (h_a_1_3 : ar S 1 3 = 0) (h_a_4_3 : ar S 4 3 = 0) (h_a_0_2 : ar S 0 2 = 0) (h_a_2_2 : ar S 2 2 = 3) (h_a_3_6 : ar S 3 6 = 0) (h_a_1_6 : ar S 1 6 = 0) (h_a_4_6 : ar S 4 6 = 1) (h_a_1_7 : ar S 1 7 = 0) (h_a_4_7 : ar S 4 7 = 0) : Ct l D cy T0 tB tE yX12_told cX12_told 1 (some .boolean) 2 45 0 0 (mw cy a S) [.ref (a 0)] (QI D (U := GS) (fun r u => 1 = r ∧ sl S 0 1649317774864 = u) (mw cy a)) := by
  refine Ct.ofZ RX12 "told" [(0, .ref (a 0))] rfl rfl rfl rfl (Nat.le_of_ble_eq_true rfl) ?_
  intro p e R s m args below meth c A b
  refine z_aload_n b dX12_told_0 rfl rfl ?_
  refine z_aload_n b dX12_told_1 rfl rfl ?_
  refine z_calll b (z_runV (q0 := 0) (As := []) (st := [.ref (a 0)]) b (c_X12_packs_22 S h_i_0 h_a_0_0 h_a_2_0 h_a_3_1 h_a_1_1 h_a_4_1 h_a_1_2 h_a_4_2 h_a_0_1 h_a_2_1 h_a_3_5 h_a_1_5 h_a_4_5 h_a_1_3 h_a_4_3 h_a_0_2 h_a_2_2 h_a_3_6 h_a_1_6 h_a_4_6 h_a_1_7 h_a_4_7) cf_X12_packs (mw_0 cy a S) rfl wm_X12_149 wi_X12_packs ws_X12_packs dX12_told_2 rfl (Nat.le_of_ble_eq_true rfl) ⟨by decide, by decide, by decide, by decide⟩) (fun r3368 u3369 h3367 => ?_)
  obtain ⟨rfl, rfl⟩ := h3367
  refine z_put (q0 := 0) (k9 := 6) tyX12 b (mw_0 cy a S) rfl in_X12 tyX12_ok nmX12 (by decide) wf_X12_153 rfl rfl rfl rfl (Nat.le_of_ble_eq_true rfl) dX12_told_5 (mwp_0_6 cy a S 1649317774864) ?_
  refine z_iconst (v := 1) b dX12_told_8 (by decide) ?_
  exact z_zret (u := (sl S 0 1649317774864)) b rfl (by decide) dX12_told_9 ⟨rfl, rfl⟩ rfl (by decide) (by decide)

set_option maxHeartbeats 4000000 in
set_option maxRecDepth 100000 in
theorem c_X12_kin_60 {l : Launch} {D : va_G} {cy : Nat → ClassId} {T0 tB tE : Nat} {a : Nat → Nat} (S : GS)  (h_l_0 : fl S 0 = 1649317774848) (h_a_4_7 : ar S 4 7 = 0) (h_a_1_7 : ar S 1 7 = 0) (h_a_4_6 : ar S 4 6 = 0) (h_a_1_6 : ar S 1 6 = 0) (h_a_3_6 : ar S 3 6 = 0) (h_a_3_2 : ar S 3 2 = 0) (h_a_2_2 : ar S 2 2 = 3) (h_a_0_2 : ar S 0 2 = 0) (h_a_4_3 : ar S 4 3 = 0) (h_a_1_3 : ar S 1 3 = 0) (h_a_4_5 : ar S 4 5 = 0) (h_a_1_5 : ar S 1 5 = 0) (h_a_3_5 : ar S 3 5 = 0) (h_a_3_7 : ar S 3 7 = 0) (h_a_2_1 : ar S 2 1 = 3) (h_a_0_1 : ar S 0 1 = 0) (h_a_4_2 : ar S 4 2 = 0) (h_a_1_2 : ar S 1 2 = 0) (h_a_4_1 : ar S 4 1 = 0) (h_a_1_1 : ar S 1 1 = 0) (h_a_3_1 : ar S 3 1 = 0) (h_a_3_3 : ar S 3 3 = 0) (h_a_2_0 : ar S 2 0 = 3) (h_a_0_0 : ar S 0 0 = 0) (h_i_0 : fi S 0 = 0) : Ct l D cy T0 tB tE yX12_kin cX12_kin 5 (some .boolean) 3 65 0 0 (mw cy a S) [.ref (a 0), .int 2, .int 0, .int 1, .int 1] (QI D (U := GS) (fun r u => 1 = r ∧ sl (su S 4 6 1) 0 1649317774864 = u) (mw cy a)) := by
  refine Ct.ofZ RX12 "kin" [(0, .ref (a 0)), (1, .int 2), (2, .int 0), (3, .int 1), (4, .int 1)] rfl rfl rfl rfl (Nat.le_of_ble_eq_true rfl) ?_
  intro p e R s m args below meth c A b
  refine z_iload_n b dX12_kin_0 rfl rfl ?_
  refine z_calli b (z_runS (As := [.int 2]) (st := []) b (c_X12_isOne_4 S ) cf_X12_isOne wm_X12_170 ws_X12_isOne dX12_kin_1 rfl (Nat.le_of_ble_eq_true rfl) ⟨by decide, by decide, by decide, by decide⟩) (fun r3311 u3312 h3310 => ?_)
  obtain ⟨rfl, rfl⟩ := h3310
  refine z_if_eq_f (tgt := 28) b dX12_kin_4 (by decide) (by decide) ?_
  refine z_iload_n b dX12_kin_7 rfl rfl ?_
  refine z_calli b (z_runS (As := [.int 0]) (st := []) b (c_X12_isOne_2 S ) cf_X12_isOne wm_X12_170 ws_X12_isOne dX12_kin_8 rfl (Nat.le_of_ble_eq_true rfl) ⟨by decide, by decide, by decide, by decide⟩) (fun r3314 u3315 h3313 => ?_)
  obtain ⟨rfl, rfl⟩ := h3313
  refine z_if_eq_f (tgt := 28) b dX12_kin_11 (by decide) (by decide) ?_
  refine z_iload_n b dX12_kin_14 rfl rfl ?_
  refine z_iload_n b dX12_kin_15 rfl rfl ?_
  refine z_icmp_eq_f (tgt := 28) b dX12_kin_16 (by decide) (by decide) ?_
  refine z_iload_n b dX12_kin_19 rfl rfl ?_
  refine z_iconst (v := 0) b dX12_kin_20 (by decide) ?_
  refine z_iconst (v := 1) b dX12_kin_21 (by decide) ?_
  refine z_calli b (z_runS (As := [.int 1, .int 0, .int 1]) (st := []) b (c_X12_isIn_10 S ) cf_X12_isIn wm_X12_1 ws_X12_isIn dX12_kin_22 rfl (Nat.le_of_ble_eq_true rfl) ⟨by decide, by decide, by decide, by decide⟩) (fun r3317 u3318 h3316 => ?_)
  obtain ⟨rfl, rfl⟩ := h3316
  refine z_if_ne_t (tgt := 30) b dX12_kin_25 (by decide) (by decide) ?_
  refine z_aload_n b dX12_kin_30 rfl rfl ?_
  refine z_aload_n b dX12_kin_31 rfl rfl ?_
  refine z_get (q0 := 0) (k9 := 6) (v := .long (fl S 0)) b (mw_0 cy a S) rfl in_X12 (by decide) wf_X12_153 rfl dX12_kin_32 ?_
  refine z_eql h_l_0 ?_
  refine z_callv b (z_runV (q0 := 0) (As := [.long 1649317774848]) (st := []) b (c_X12_takes S h_a_4_7 h_a_1_7 h_a_4_6 h_a_1_6 h_a_3_6 h_a_3_2 h_a_2_2 h_a_0_2 h_a_4_3 h_a_1_3 h_a_4_5 h_a_1_5 h_a_3_5 h_a_3_7 h_a_2_1 h_a_0_1 h_a_4_2 h_a_1_2 h_a_4_1 h_a_1_1 h_a_3_1 h_a_3_3 h_a_2_0 h_a_0_0 h_i_0) cf_X12_takes (mw_0 cy a S) rfl wm_X12_174 wi_X12_takes ws_X12_takes dX12_kin_35 rfl (Nat.le_of_ble_eq_true rfl) ⟨by decide, by decide, by decide, by decide⟩) (fun u3321 h3319 => ?_)
  obtain rfl := h3319
  refine z_iload_n b dX12_kin_38 rfl rfl ?_
  refine z_iconst (v := 1) b dX12_kin_39 (by decide) ?_
  refine z_icmp_ne_f (tgt := 58) b dX12_kin_40 (by decide) (by decide) ?_
  refine z_aload_n b dX12_kin_43 rfl rfl ?_
  refine z_get (q0 := 0) (k9 := 4) (v := .ref (a 5)) b (mw_0 cy a S) rfl in_X12 (by decide) wf_X12_27 rfl dX12_kin_44 ?_
  refine z_iconst (v := 3) b dX12_kin_47 (by decide) ?_
  refine z_iload_n b dX12_kin_48 rfl rfl ?_
  refine z_imul (v := 6) b dX12_kin_49 (by decide) ?_
  refine z_iload_n b dX12_kin_50 rfl rfl ?_
  refine z_iadd (v := 6) b dX12_kin_51 (by decide) ?_
  refine z_iload b dX12_kin_52 rfl ?_
  refine y_zast (q0 := 5) (j := 6) b (mw_5 cy a S) (by decide) (by decide) dX12_kin_54 (mwa_5 cy a S 6 1) ?_
  refine z_goto (tgt := 82) b dX12_kin_55 (by decide) ?_
  refine z_aload_n b dX12_kin_82 rfl rfl ?_
  refine z_calli b (z_runV (q0 := 0) (As := []) (st := []) b (c_X12_told_22 (su S 4 6 1) h_i_0 h_a_0_0 h_a_2_0 h_a_3_1 h_a_1_1 h_a_4_1 h_a_1_2 h_a_4_2 h_a_0_1 h_a_2_1 h_a_3_5 h_a_1_5 h_a_4_5 h_a_1_3 h_a_4_3 h_a_0_2 h_a_2_2 h_a_3_6 h_a_1_6 rfl h_a_1_7 h_a_4_7) cf_X12_told (mw_0 cy a (su S 4 6 1)) rfl wm_X12_178 wi_X12_told ws_X12_told dX12_kin_83 rfl (Nat.le_of_ble_eq_true rfl) ⟨by decide, by decide, by decide, by decide⟩) (fun r3371 u3372 h3370 => ?_)
  obtain ⟨rfl, rfl⟩ := h3370
  exact z_zret (u := (sl (su S 4 6 1) 0 1649317774864)) b rfl (by decide) dX12_kin_86 ⟨rfl, rfl⟩ rfl (by decide) (by decide)

set_option maxHeartbeats 4000000 in
set_option maxRecDepth 100000 in
theorem c_X11_kin_61 {l : Launch} {D : va_G} {cy : Nat → ClassId} {T0 tB tE : Nat} {a : Nat → Nat} {rw : Nat → Option Nat} (S : GS) (p0 : Int32)  (hr_p0 : 2 ≤ p0.toInt ∧ p0.toInt ≤ 2147483647) : Ct l D cy T0 tB tE yX11_kin cX11_kin 6 (some .boolean) 2 41 0 0 (cw cy tE a rw S) [.ref (a 0), .int 2, .int 0, .int p0, .int 0] (QI D (U := GS) (fun r u => 0 = r ∧ S = u) (cw cy tE a rw)) := by
  refine Ct.ofZ RX11 "kin" [(0, .ref (a 0)), (1, .int 2), (2, .int 0), (3, .int p0), (4, .int 0)] rfl rfl rfl rfl (Nat.le_of_ble_eq_true rfl) ?_
  intro p e R s m args below meth c A b
  refine z_iload_n b dX11_kin_0 rfl rfl ?_
  refine z_iload_n b dX11_kin_1 rfl rfl ?_
  refine z_calli b (z_runS (As := [.int 2, .int 0]) (st := []) b (c_X11_arePair_12 S ) cf_X11_arePair wm_X11_84 ws_X11_arePair dX11_kin_2 rfl (Nat.le_of_ble_eq_true rfl) ⟨by decide, by decide, by decide, by decide⟩) (fun r3374 u3375 h3373 => ?_)
  obtain ⟨rfl, rfl⟩ := h3373
  refine z_if_eq_f (tgt := 16) b dX11_kin_5 (by decide) (by decide) ?_
  refine z_iload_n b dX11_kin_8 rfl rfl ?_
  refine z_iconst (v := 1) b dX11_kin_9 (by decide) ?_
  refine z_calli b (z_runS (As := [.int p0, .int 1]) (st := []) b (c_X11_isWithin_4 S p0 ) cf_X11_isWithin wm_X11_73 ws_X11_isWithin dX11_kin_10 rfl (Nat.le_of_ble_eq_true rfl) ⟨by decide, by decide, by decide, by decide⟩) (fun r3377 u3378 h3376 => ?_)
  rcases h3376 with ⟨c3379, rfl, rfl⟩ | ⟨c3380, rfl, rfl⟩
  · refine z_if_ne_f (tgt := 18) b dX11_kin_13 (by decide) (by decide) ?_
    refine z_iconst (v := 0) b dX11_kin_16 (by decide) ?_
    exact z_zret (u := S) b rfl (by decide) dX11_kin_17 ⟨rfl, rfl⟩ rfl (by decide) (by decide)
  · exfalso; omega

set_option maxHeartbeats 4000000 in
set_option maxRecDepth 100000 in
theorem c_X12_kin_61 {l : Launch} {D : va_G} {cy : Nat → ClassId} {T0 tB tE : Nat} {a : Nat → Nat} (S : GS) (p0 : Int32)  (hr_p0 : 2 ≤ p0.toInt ∧ p0.toInt ≤ 2147483647) : Ct l D cy T0 tB tE yX12_kin cX12_kin 5 (some .boolean) 2 42 0 0 (mw cy a S) [.ref (a 0), .int 2, .int 0, .int p0, .int 0] (QI D (U := GS) (fun r u => 0 = r ∧ S = u) (mw cy a)) := by
  refine Ct.ofZ RX12 "kin" [(0, .ref (a 0)), (1, .int 2), (2, .int 0), (3, .int p0), (4, .int 0)] rfl rfl rfl rfl (Nat.le_of_ble_eq_true rfl) ?_
  intro p e R s m args below meth c A b
  refine z_iload_n b dX12_kin_0 rfl rfl ?_
  refine z_calli b (z_runS (As := [.int 2]) (st := []) b (c_X12_isOne_4 S ) cf_X12_isOne wm_X12_170 ws_X12_isOne dX12_kin_1 rfl (Nat.le_of_ble_eq_true rfl) ⟨by decide, by decide, by decide, by decide⟩) (fun r3382 u3383 h3381 => ?_)
  obtain ⟨rfl, rfl⟩ := h3381
  refine z_if_eq_f (tgt := 28) b dX12_kin_4 (by decide) (by decide) ?_
  refine z_iload_n b dX12_kin_7 rfl rfl ?_
  refine z_calli b (z_runS (As := [.int 0]) (st := []) b (c_X12_isOne_2 S ) cf_X12_isOne wm_X12_170 ws_X12_isOne dX12_kin_8 rfl (Nat.le_of_ble_eq_true rfl) ⟨by decide, by decide, by decide, by decide⟩) (fun r3385 u3386 h3384 => ?_)
  obtain ⟨rfl, rfl⟩ := h3384
  refine z_if_eq_f (tgt := 28) b dX12_kin_11 (by decide) (by decide) ?_
  refine z_iload_n b dX12_kin_14 rfl rfl ?_
  refine z_iload_n b dX12_kin_15 rfl rfl ?_
  refine z_icmp_eq_f (tgt := 28) b dX12_kin_16 (by decide) (by decide) ?_
  refine z_iload_n b dX12_kin_19 rfl rfl ?_
  refine z_iconst (v := 0) b dX12_kin_20 (by decide) ?_
  refine z_iconst (v := 1) b dX12_kin_21 (by decide) ?_
  refine z_calli b (z_runS (As := [.int p0, .int 0, .int 1]) (st := []) b (c_X12_isIn_8 S p0 ) cf_X12_isIn wm_X12_1 ws_X12_isIn dX12_kin_22 rfl (Nat.le_of_ble_eq_true rfl) ⟨by decide, by decide, by decide, by decide⟩) (fun r3388 u3389 h3387 => ?_)
  rcases h3387 with ⟨c3390, rfl, rfl⟩ | ⟨c3391, rfl, rfl⟩
  · refine z_if_ne_f (tgt := 30) b dX12_kin_25 (by decide) (by decide) ?_
    refine z_iconst (v := 0) b dX12_kin_28 (by decide) ?_
    exact z_zret (u := S) b rfl (by decide) dX12_kin_29 ⟨rfl, rfl⟩ rfl (by decide) (by decide)
  · exfalso; omega

set_option maxHeartbeats 4000000 in
set_option maxRecDepth 100000 in
theorem c_X11_kin_62 {l : Launch} {D : va_G} {cy : Nat → ClassId} {T0 tB tE : Nat} {a : Nat → Nat} {rw : Nat → Option Nat} (S : GS) (p0 : Int32)  (hr_p0 : 2 ≤ p0.toInt ∧ p0.toInt ≤ 2147483647) : Ct l D cy T0 tB tE yX11_kin cX11_kin 6 (some .boolean) 2 41 0 0 (cw cy tE a rw S) [.ref (a 0), .int 2, .int 0, .int p0, .int 1] (QI D (U := GS) (fun r u => 0 = r ∧ S = u) (cw cy tE a rw)) := by
  refine Ct.ofZ RX11 "kin" [(0, .ref (a 0)), (1, .int 2), (2, .int 0), (3, .int p0), (4, .int 1)] rfl rfl rfl rfl (Nat.le_of_ble_eq_true rfl) ?_
  intro p e R s m args below meth c A b
  refine z_iload_n b dX11_kin_0 rfl rfl ?_
  refine z_iload_n b dX11_kin_1 rfl rfl ?_
  refine z_calli b (z_runS (As := [.int 2, .int 0]) (st := []) b (c_X11_arePair_12 S ) cf_X11_arePair wm_X11_84 ws_X11_arePair dX11_kin_2 rfl (Nat.le_of_ble_eq_true rfl) ⟨by decide, by decide, by decide, by decide⟩) (fun r3393 u3394 h3392 => ?_)
  obtain ⟨rfl, rfl⟩ := h3392
  refine z_if_eq_f (tgt := 16) b dX11_kin_5 (by decide) (by decide) ?_
  refine z_iload_n b dX11_kin_8 rfl rfl ?_
  refine z_iconst (v := 1) b dX11_kin_9 (by decide) ?_
  refine z_calli b (z_runS (As := [.int p0, .int 1]) (st := []) b (c_X11_isWithin_4 S p0 ) cf_X11_isWithin wm_X11_73 ws_X11_isWithin dX11_kin_10 rfl (Nat.le_of_ble_eq_true rfl) ⟨by decide, by decide, by decide, by decide⟩) (fun r3396 u3397 h3395 => ?_)
  rcases h3395 with ⟨c3398, rfl, rfl⟩ | ⟨c3399, rfl, rfl⟩
  · refine z_if_ne_f (tgt := 18) b dX11_kin_13 (by decide) (by decide) ?_
    refine z_iconst (v := 0) b dX11_kin_16 (by decide) ?_
    exact z_zret (u := S) b rfl (by decide) dX11_kin_17 ⟨rfl, rfl⟩ rfl (by decide) (by decide)
  · exfalso; omega

set_option maxHeartbeats 4000000 in
set_option maxRecDepth 100000 in
theorem c_X12_kin_62 {l : Launch} {D : va_G} {cy : Nat → ClassId} {T0 tB tE : Nat} {a : Nat → Nat} (S : GS) (p0 : Int32)  (hr_p0 : 2 ≤ p0.toInt ∧ p0.toInt ≤ 2147483647) : Ct l D cy T0 tB tE yX12_kin cX12_kin 5 (some .boolean) 2 42 0 0 (mw cy a S) [.ref (a 0), .int 2, .int 0, .int p0, .int 1] (QI D (U := GS) (fun r u => 0 = r ∧ S = u) (mw cy a)) := by
  refine Ct.ofZ RX12 "kin" [(0, .ref (a 0)), (1, .int 2), (2, .int 0), (3, .int p0), (4, .int 1)] rfl rfl rfl rfl (Nat.le_of_ble_eq_true rfl) ?_
  intro p e R s m args below meth c A b
  refine z_iload_n b dX12_kin_0 rfl rfl ?_
  refine z_calli b (z_runS (As := [.int 2]) (st := []) b (c_X12_isOne_4 S ) cf_X12_isOne wm_X12_170 ws_X12_isOne dX12_kin_1 rfl (Nat.le_of_ble_eq_true rfl) ⟨by decide, by decide, by decide, by decide⟩) (fun r3401 u3402 h3400 => ?_)
  obtain ⟨rfl, rfl⟩ := h3400
  refine z_if_eq_f (tgt := 28) b dX12_kin_4 (by decide) (by decide) ?_
  refine z_iload_n b dX12_kin_7 rfl rfl ?_
  refine z_calli b (z_runS (As := [.int 0]) (st := []) b (c_X12_isOne_2 S ) cf_X12_isOne wm_X12_170 ws_X12_isOne dX12_kin_8 rfl (Nat.le_of_ble_eq_true rfl) ⟨by decide, by decide, by decide, by decide⟩) (fun r3404 u3405 h3403 => ?_)
  obtain ⟨rfl, rfl⟩ := h3403
  refine z_if_eq_f (tgt := 28) b dX12_kin_11 (by decide) (by decide) ?_
  refine z_iload_n b dX12_kin_14 rfl rfl ?_
  refine z_iload_n b dX12_kin_15 rfl rfl ?_
  refine z_icmp_eq_f (tgt := 28) b dX12_kin_16 (by decide) (by decide) ?_
  refine z_iload_n b dX12_kin_19 rfl rfl ?_
  refine z_iconst (v := 0) b dX12_kin_20 (by decide) ?_
  refine z_iconst (v := 1) b dX12_kin_21 (by decide) ?_
  refine z_calli b (z_runS (As := [.int p0, .int 0, .int 1]) (st := []) b (c_X12_isIn_8 S p0 ) cf_X12_isIn wm_X12_1 ws_X12_isIn dX12_kin_22 rfl (Nat.le_of_ble_eq_true rfl) ⟨by decide, by decide, by decide, by decide⟩) (fun r3407 u3408 h3406 => ?_)
  rcases h3406 with ⟨c3409, rfl, rfl⟩ | ⟨c3410, rfl, rfl⟩
  · refine z_if_ne_f (tgt := 30) b dX12_kin_25 (by decide) (by decide) ?_
    refine z_iconst (v := 0) b dX12_kin_28 (by decide) ?_
    exact z_zret (u := S) b rfl (by decide) dX12_kin_29 ⟨rfl, rfl⟩ rfl (by decide) (by decide)
  · exfalso; omega

set_option maxHeartbeats 4000000 in
set_option maxRecDepth 100000 in
theorem c_X11_kin_63 {l : Launch} {D : va_G} {cy : Nat → ClassId} {T0 tB tE : Nat} {a : Nat → Nat} {rw : Nat → Option Nat} (S : GS) (p0 : Int32)  (hr_p0 : (-2147483648) ≤ p0.toInt ∧ p0.toInt ≤ (-1)) : Ct l D cy T0 tB tE yX11_kin cX11_kin 6 (some .boolean) 2 41 0 0 (cw cy tE a rw S) [.ref (a 0), .int 2, .int 1, .int p0, .int 0] (QI D (U := GS) (fun r u => 0 = r ∧ S = u) (cw cy tE a rw)) := by
  refine Ct.ofZ RX11 "kin" [(0, .ref (a 0)), (1, .int 2), (2, .int 1), (3, .int p0), (4, .int 0)] rfl rfl rfl rfl (Nat.le_of_ble_eq_true rfl) ?_
  intro p e R s m args below meth c A b
  refine z_iload_n b dX11_kin_0 rfl rfl ?_
  refine z_iload_n b dX11_kin_1 rfl rfl ?_
  refine z_calli b (z_runS (As := [.int 2, .int 1]) (st := []) b (c_X11_arePair_13 S ) cf_X11_arePair wm_X11_84 ws_X11_arePair dX11_kin_2 rfl (Nat.le_of_ble_eq_true rfl) ⟨by decide, by decide, by decide, by decide⟩) (fun r3412 u3413 h3411 => ?_)
  obtain ⟨rfl, rfl⟩ := h3411
  refine z_if_eq_f (tgt := 16) b dX11_kin_5 (by decide) (by decide) ?_
  refine z_iload_n b dX11_kin_8 rfl rfl ?_
  refine z_iconst (v := 1) b dX11_kin_9 (by decide) ?_
  refine z_calli b (z_runS (As := [.int p0, .int 1]) (st := []) b (c_X11_isWithin_4 S p0 ) cf_X11_isWithin wm_X11_73 ws_X11_isWithin dX11_kin_10 rfl (Nat.le_of_ble_eq_true rfl) ⟨by decide, by decide, by decide, by decide⟩) (fun r3415 u3416 h3414 => ?_)
  rcases h3414 with ⟨c3417, rfl, rfl⟩ | ⟨c3418, rfl, rfl⟩
  · refine z_if_ne_f (tgt := 18) b dX11_kin_13 (by decide) (by decide) ?_
    refine z_iconst (v := 0) b dX11_kin_16 (by decide) ?_
    exact z_zret (u := S) b rfl (by decide) dX11_kin_17 ⟨rfl, rfl⟩ rfl (by decide) (by decide)
  · exfalso; omega

set_option maxHeartbeats 4000000 in
set_option maxRecDepth 100000 in
theorem c_X12_kin_63 {l : Launch} {D : va_G} {cy : Nat → ClassId} {T0 tB tE : Nat} {a : Nat → Nat} (S : GS) (p0 : Int32)  (hr_p0 : (-2147483648) ≤ p0.toInt ∧ p0.toInt ≤ (-1)) : Ct l D cy T0 tB tE yX12_kin cX12_kin 5 (some .boolean) 2 42 0 0 (mw cy a S) [.ref (a 0), .int 2, .int 1, .int p0, .int 0] (QI D (U := GS) (fun r u => 0 = r ∧ S = u) (mw cy a)) := by
  refine Ct.ofZ RX12 "kin" [(0, .ref (a 0)), (1, .int 2), (2, .int 1), (3, .int p0), (4, .int 0)] rfl rfl rfl rfl (Nat.le_of_ble_eq_true rfl) ?_
  intro p e R s m args below meth c A b
  refine z_iload_n b dX12_kin_0 rfl rfl ?_
  refine z_calli b (z_runS (As := [.int 2]) (st := []) b (c_X12_isOne_4 S ) cf_X12_isOne wm_X12_170 ws_X12_isOne dX12_kin_1 rfl (Nat.le_of_ble_eq_true rfl) ⟨by decide, by decide, by decide, by decide⟩) (fun r3420 u3421 h3419 => ?_)
  obtain ⟨rfl, rfl⟩ := h3419
  refine z_if_eq_f (tgt := 28) b dX12_kin_4 (by decide) (by decide) ?_
  refine z_iload_n b dX12_kin_7 rfl rfl ?_
  refine z_calli b (z_runS (As := [.int 1]) (st := []) b (c_X12_isOne_3 S ) cf_X12_isOne wm_X12_170 ws_X12_isOne dX12_kin_8 rfl (Nat.le_of_ble_eq_true rfl) ⟨by decide, by decide, by decide, by decide⟩) (fun r3423 u3424 h3422 => ?_)
  obtain ⟨rfl, rfl⟩ := h3422
  refine z_if_eq_f (tgt := 28) b dX12_kin_11 (by decide) (by decide) ?_
  refine z_iload_n b dX12_kin_14 rfl rfl ?_
  refine z_iload_n b dX12_kin_15 rfl rfl ?_
  refine z_icmp_eq_f (tgt := 28) b dX12_kin_16 (by decide) (by decide) ?_
  refine z_iload_n b dX12_kin_19 rfl rfl ?_
  refine z_iconst (v := 0) b dX12_kin_20 (by decide) ?_
  refine z_iconst (v := 1) b dX12_kin_21 (by decide) ?_
  refine z_calli b (z_runS (As := [.int p0, .int 0, .int 1]) (st := []) b (c_X12_isIn_8 S p0 ) cf_X12_isIn wm_X12_1 ws_X12_isIn dX12_kin_22 rfl (Nat.le_of_ble_eq_true rfl) ⟨by decide, by decide, by decide, by decide⟩) (fun r3426 u3427 h3425 => ?_)
  rcases h3425 with ⟨c3428, rfl, rfl⟩ | ⟨c3429, rfl, rfl⟩
  · refine z_if_ne_f (tgt := 30) b dX12_kin_25 (by decide) (by decide) ?_
    refine z_iconst (v := 0) b dX12_kin_28 (by decide) ?_
    exact z_zret (u := S) b rfl (by decide) dX12_kin_29 ⟨rfl, rfl⟩ rfl (by decide) (by decide)
  · exfalso; omega

set_option maxHeartbeats 4000000 in
set_option maxRecDepth 100000 in
theorem c_X11_kin_64 {l : Launch} {D : va_G} {cy : Nat → ClassId} {T0 tB tE : Nat} {a : Nat → Nat} {rw : Nat → Option Nat} (S : GS) (p0 : Int32)  (hr_p0 : (-2147483648) ≤ p0.toInt ∧ p0.toInt ≤ (-1)) : Ct l D cy T0 tB tE yX11_kin cX11_kin 6 (some .boolean) 2 41 0 0 (cw cy tE a rw S) [.ref (a 0), .int 2, .int 1, .int p0, .int 1] (QI D (U := GS) (fun r u => 0 = r ∧ S = u) (cw cy tE a rw)) := by
  refine Ct.ofZ RX11 "kin" [(0, .ref (a 0)), (1, .int 2), (2, .int 1), (3, .int p0), (4, .int 1)] rfl rfl rfl rfl (Nat.le_of_ble_eq_true rfl) ?_
  intro p e R s m args below meth c A b
  refine z_iload_n b dX11_kin_0 rfl rfl ?_
  refine z_iload_n b dX11_kin_1 rfl rfl ?_
  refine z_calli b (z_runS (As := [.int 2, .int 1]) (st := []) b (c_X11_arePair_13 S ) cf_X11_arePair wm_X11_84 ws_X11_arePair dX11_kin_2 rfl (Nat.le_of_ble_eq_true rfl) ⟨by decide, by decide, by decide, by decide⟩) (fun r3431 u3432 h3430 => ?_)
  obtain ⟨rfl, rfl⟩ := h3430
  refine z_if_eq_f (tgt := 16) b dX11_kin_5 (by decide) (by decide) ?_
  refine z_iload_n b dX11_kin_8 rfl rfl ?_
  refine z_iconst (v := 1) b dX11_kin_9 (by decide) ?_
  refine z_calli b (z_runS (As := [.int p0, .int 1]) (st := []) b (c_X11_isWithin_4 S p0 ) cf_X11_isWithin wm_X11_73 ws_X11_isWithin dX11_kin_10 rfl (Nat.le_of_ble_eq_true rfl) ⟨by decide, by decide, by decide, by decide⟩) (fun r3434 u3435 h3433 => ?_)
  rcases h3433 with ⟨c3436, rfl, rfl⟩ | ⟨c3437, rfl, rfl⟩
  · refine z_if_ne_f (tgt := 18) b dX11_kin_13 (by decide) (by decide) ?_
    refine z_iconst (v := 0) b dX11_kin_16 (by decide) ?_
    exact z_zret (u := S) b rfl (by decide) dX11_kin_17 ⟨rfl, rfl⟩ rfl (by decide) (by decide)
  · exfalso; omega

set_option maxHeartbeats 4000000 in
set_option maxRecDepth 100000 in
theorem c_X12_kin_64 {l : Launch} {D : va_G} {cy : Nat → ClassId} {T0 tB tE : Nat} {a : Nat → Nat} (S : GS) (p0 : Int32)  (hr_p0 : (-2147483648) ≤ p0.toInt ∧ p0.toInt ≤ (-1)) : Ct l D cy T0 tB tE yX12_kin cX12_kin 5 (some .boolean) 2 42 0 0 (mw cy a S) [.ref (a 0), .int 2, .int 1, .int p0, .int 1] (QI D (U := GS) (fun r u => 0 = r ∧ S = u) (mw cy a)) := by
  refine Ct.ofZ RX12 "kin" [(0, .ref (a 0)), (1, .int 2), (2, .int 1), (3, .int p0), (4, .int 1)] rfl rfl rfl rfl (Nat.le_of_ble_eq_true rfl) ?_
  intro p e R s m args below meth c A b
  refine z_iload_n b dX12_kin_0 rfl rfl ?_
  refine z_calli b (z_runS (As := [.int 2]) (st := []) b (c_X12_isOne_4 S ) cf_X12_isOne wm_X12_170 ws_X12_isOne dX12_kin_1 rfl (Nat.le_of_ble_eq_true rfl) ⟨by decide, by decide, by decide, by decide⟩) (fun r3439 u3440 h3438 => ?_)
  obtain ⟨rfl, rfl⟩ := h3438
  refine z_if_eq_f (tgt := 28) b dX12_kin_4 (by decide) (by decide) ?_
  refine z_iload_n b dX12_kin_7 rfl rfl ?_
  refine z_calli b (z_runS (As := [.int 1]) (st := []) b (c_X12_isOne_3 S ) cf_X12_isOne wm_X12_170 ws_X12_isOne dX12_kin_8 rfl (Nat.le_of_ble_eq_true rfl) ⟨by decide, by decide, by decide, by decide⟩) (fun r3442 u3443 h3441 => ?_)
  obtain ⟨rfl, rfl⟩ := h3441
  refine z_if_eq_f (tgt := 28) b dX12_kin_11 (by decide) (by decide) ?_
  refine z_iload_n b dX12_kin_14 rfl rfl ?_
  refine z_iload_n b dX12_kin_15 rfl rfl ?_
  refine z_icmp_eq_f (tgt := 28) b dX12_kin_16 (by decide) (by decide) ?_
  refine z_iload_n b dX12_kin_19 rfl rfl ?_
  refine z_iconst (v := 0) b dX12_kin_20 (by decide) ?_
  refine z_iconst (v := 1) b dX12_kin_21 (by decide) ?_
  refine z_calli b (z_runS (As := [.int p0, .int 0, .int 1]) (st := []) b (c_X12_isIn_8 S p0 ) cf_X12_isIn wm_X12_1 ws_X12_isIn dX12_kin_22 rfl (Nat.le_of_ble_eq_true rfl) ⟨by decide, by decide, by decide, by decide⟩) (fun r3445 u3446 h3444 => ?_)
  rcases h3444 with ⟨c3447, rfl, rfl⟩ | ⟨c3448, rfl, rfl⟩
  · refine z_if_ne_f (tgt := 30) b dX12_kin_25 (by decide) (by decide) ?_
    refine z_iconst (v := 0) b dX12_kin_28 (by decide) ?_
    exact z_zret (u := S) b rfl (by decide) dX12_kin_29 ⟨rfl, rfl⟩ rfl (by decide) (by decide)
  · exfalso; omega

set_option maxHeartbeats 4000000 in
set_option maxRecDepth 100000 in
theorem c_X11_kin_65 {l : Launch} {D : va_G} {cy : Nat → ClassId} {T0 tB tE : Nat} {a : Nat → Nat} {rw : Nat → Option Nat} (S : GS)  (h_a_4_27 : ar S 4 27 = 0) (h_a_4_25 : ar S 4 25 = 0) (h_i_24 : fi S 24 = 0) : Ct l D cy T0 tB tE yX11_kin cX11_kin 6 (some .boolean) 2 41 0 0 (cw cy tE a rw S) [.ref (a 0), .int 2, .int 1, .int 0, .int 0] (QI D (U := GS) (fun r u => 1 = r ∧ S = u) (cw cy tE a rw)) := by
  refine Ct.ofZ RX11 "kin" [(0, .ref (a 0)), (1, .int 2), (2, .int 1), (3, .int 0), (4, .int 0)] rfl rfl rfl rfl (Nat.le_of_ble_eq_true rfl) ?_
  intro p e R s m args below meth c A b
  refine z_iload_n b dX11_kin_0 rfl rfl ?_
  refine z_iload_n b dX11_kin_1 rfl rfl ?_
  refine z_calli b (z_runS (As := [.int 2, .int 1]) (st := []) b (c_X11_arePair_13 S ) cf_X11_arePair wm_X11_84 ws_X11_arePair dX11_kin_2 rfl (Nat.le_of_ble_eq_true rfl) ⟨by decide, by decide, by decide, by decide⟩) (fun r3450 u3451 h3449 => ?_)
  obtain ⟨rfl, rfl⟩ := h3449
  refine z_if_eq_f (tgt := 16) b dX11_kin_5 (by decide) (by decide) ?_
  refine z_iload_n b dX11_kin_8 rfl rfl ?_
  refine z_iconst (v := 1) b dX11_kin_9 (by decide) ?_
  refine z_calli b (z_runS (As := [.int 0, .int 1]) (st := []) b (c_X11_isWithin_5 S ) cf_X11_isWithin wm_X11_73 ws_X11_isWithin dX11_kin_10 rfl (Nat.le_of_ble_eq_true rfl) ⟨by decide, by decide, by decide, by decide⟩) (fun r3453 u3454 h3452 => ?_)
  obtain ⟨rfl, rfl⟩ := h3452
  refine z_if_ne_t (tgt := 18) b dX11_kin_13 (by decide) (by decide) ?_
  refine z_iload b dX11_kin_18 rfl ?_
  refine z_if_eq_t (tgt := 27) b dX11_kin_20 (by decide) (by decide) ?_
  refine z_iconst (v := 0) b dX11_kin_27 (by decide) ?_
  refine z_istore (lv' := [(5, .int 0), (0, .ref (a 0)), (1, .int 2), (2, .int 1), (3, .int 0), (4, .int 0)]) b dX11_kin_28 (by decide) rfl ?_
  refine z_iload_n b dX11_kin_30 rfl rfl ?_
  refine z_if_ne_f (tgt := 71) b dX11_kin_31 (by decide) (by decide) ?_
  refine z_aload_n b dX11_kin_34 rfl rfl ?_
  refine z_get (q0 := 0) (k9 := 4) (v := .ref (a 14)) b (cw_0 cy tE a rw S) rfl in_X11 (by decide) wf_X11_34 rfl dX11_kin_35 ?_
  refine z_bipush (v := 20) b dX11_kin_38 (by decide) ?_
  refine z_iconst (v := 3) b dX11_kin_40 (by decide) ?_
  refine z_iload_n b dX11_kin_41 rfl rfl ?_
  refine z_imul (v := 6) b dX11_kin_42 (by decide) ?_
  refine z_iadd (v := 26) b dX11_kin_43 (by decide) ?_
  refine z_iload_n b dX11_kin_44 rfl rfl ?_
  refine z_iadd (v := 27) b dX11_kin_45 (by decide) ?_
  refine z_iload b dX11_kin_46 rfl ?_
  refine z_callv b (z_runV (q0 := 14) (As := [.int 27, .int 0]) (st := []) b (c_X9_set_29 S h_a_4_27) cf_X9_set (cw_14 cy tE a rw S) rfl wm_X11_77 wi_X9_set ws_X9_set dX11_kin_48 rfl (Nat.le_of_ble_eq_true rfl) ⟨by decide, by decide, by decide, by decide⟩) (fun u3457 h3455 => ?_)
  obtain rfl := h3455
  refine z_aload_n b dX11_kin_51 rfl rfl ?_
  refine z_get (q0 := 0) (k9 := 4) (v := .ref (a 14)) b (cw_0 cy tE a rw S) rfl in_X11 (by decide) wf_X11_34 rfl dX11_kin_52 ?_
  refine z_bipush (v := 20) b dX11_kin_55 (by decide) ?_
  refine z_iconst (v := 3) b dX11_kin_57 (by decide) ?_
  refine z_iload_n b dX11_kin_58 rfl rfl ?_
  refine z_imul (v := 3) b dX11_kin_59 (by decide) ?_
  refine z_iadd (v := 23) b dX11_kin_60 (by decide) ?_
  refine z_iload_n b dX11_kin_61 rfl rfl ?_
  refine z_iadd (v := 25) b dX11_kin_62 (by decide) ?_
  refine z_iload b dX11_kin_63 rfl ?_
  refine z_callv b (z_runV (q0 := 14) (As := [.int 25, .int 0]) (st := []) b (c_X9_set_28 S h_a_4_25) cf_X9_set (cw_14 cy tE a rw S) rfl wm_X11_77 wi_X9_set ws_X9_set dX11_kin_65 rfl (Nat.le_of_ble_eq_true rfl) ⟨by decide, by decide, by decide, by decide⟩) (fun u3460 h3458 => ?_)
  obtain rfl := h3458
  refine z_goto (tgt := 88) b dX11_kin_68 (by decide) ?_
  refine z_aload_n b dX11_kin_88 rfl rfl ?_
  refine z_get (q0 := 0) (k9 := 6) (v := .ref (a 25)) b (cw_0 cy tE a rw S) rfl in_X11 (by decide) wf_X11_52 rfl dX11_kin_89 ?_
  refine z_callv b (z_runV (q0 := 25) (As := []) (st := []) b (c_X8_forget S h_i_24) cf_X8_forget (cw_25 cy tE a rw S) rfl wm_X11_81 wi_X8_forget ws_X8_forget dX11_kin_92 rfl (Nat.le_of_ble_eq_true rfl) ⟨by decide, by decide, by decide, by decide⟩) (fun u3463 h3461 => ?_)
  obtain rfl := h3461
  refine z_iconst (v := 1) b dX11_kin_95 (by decide) ?_
  exact z_zret (u := S) b rfl (by decide) dX11_kin_96 ⟨rfl, rfl⟩ rfl (by decide) (by decide)

set_option maxHeartbeats 4000000 in
set_option maxRecDepth 100000 in
theorem c_X12_kin_65 {l : Launch} {D : va_G} {cy : Nat → ClassId} {T0 tB tE : Nat} {a : Nat → Nat} (S : GS)  (h_l_0 : fl S 0 = 1649317774848) (h_a_4_7 : ar S 4 7 = 0) (h_a_1_7 : ar S 1 7 = 0) (h_a_4_6 : ar S 4 6 = 0) (h_a_1_6 : ar S 1 6 = 0) (h_a_3_6 : ar S 3 6 = 0) (h_a_3_2 : ar S 3 2 = 0) (h_a_2_2 : ar S 2 2 = 3) (h_a_0_2 : ar S 0 2 = 0) (h_a_4_3 : ar S 4 3 = 0) (h_a_1_3 : ar S 1 3 = 0) (h_a_4_5 : ar S 4 5 = 0) (h_a_1_5 : ar S 1 5 = 0) (h_a_3_5 : ar S 3 5 = 0) (h_a_3_7 : ar S 3 7 = 0) (h_a_2_1 : ar S 2 1 = 3) (h_a_0_1 : ar S 0 1 = 0) (h_a_4_2 : ar S 4 2 = 0) (h_a_1_2 : ar S 1 2 = 0) (h_a_4_1 : ar S 4 1 = 0) (h_a_1_1 : ar S 1 1 = 0) (h_a_3_1 : ar S 3 1 = 0) (h_a_3_3 : ar S 3 3 = 0) (h_a_2_0 : ar S 2 0 = 3) (h_a_0_0 : ar S 0 0 = 0) (h_i_0 : fi S 0 = 0) : Ct l D cy T0 tB tE yX12_kin cX12_kin 5 (some .boolean) 3 65 0 0 (mw cy a S) [.ref (a 0), .int 2, .int 1, .int 0, .int 0] (QI D (U := GS) (fun r u => 1 = r ∧ S = u) (mw cy a)) := by
  refine Ct.ofZ RX12 "kin" [(0, .ref (a 0)), (1, .int 2), (2, .int 1), (3, .int 0), (4, .int 0)] rfl rfl rfl rfl (Nat.le_of_ble_eq_true rfl) ?_
  intro p e R s m args below meth c A b
  refine z_iload_n b dX12_kin_0 rfl rfl ?_
  refine z_calli b (z_runS (As := [.int 2]) (st := []) b (c_X12_isOne_4 S ) cf_X12_isOne wm_X12_170 ws_X12_isOne dX12_kin_1 rfl (Nat.le_of_ble_eq_true rfl) ⟨by decide, by decide, by decide, by decide⟩) (fun r3465 u3466 h3464 => ?_)
  obtain ⟨rfl, rfl⟩ := h3464
  refine z_if_eq_f (tgt := 28) b dX12_kin_4 (by decide) (by decide) ?_
  refine z_iload_n b dX12_kin_7 rfl rfl ?_
  refine z_calli b (z_runS (As := [.int 1]) (st := []) b (c_X12_isOne_3 S ) cf_X12_isOne wm_X12_170 ws_X12_isOne dX12_kin_8 rfl (Nat.le_of_ble_eq_true rfl) ⟨by decide, by decide, by decide, by decide⟩) (fun r3468 u3469 h3467 => ?_)
  obtain ⟨rfl, rfl⟩ := h3467
  refine z_if_eq_f (tgt := 28) b dX12_kin_11 (by decide) (by decide) ?_
  refine z_iload_n b dX12_kin_14 rfl rfl ?_
  refine z_iload_n b dX12_kin_15 rfl rfl ?_
  refine z_icmp_eq_f (tgt := 28) b dX12_kin_16 (by decide) (by decide) ?_
  refine z_iload_n b dX12_kin_19 rfl rfl ?_
  refine z_iconst (v := 0) b dX12_kin_20 (by decide) ?_
  refine z_iconst (v := 1) b dX12_kin_21 (by decide) ?_
  refine z_calli b (z_runS (As := [.int 0, .int 0, .int 1]) (st := []) b (c_X12_isIn_9 S ) cf_X12_isIn wm_X12_1 ws_X12_isIn dX12_kin_22 rfl (Nat.le_of_ble_eq_true rfl) ⟨by decide, by decide, by decide, by decide⟩) (fun r3471 u3472 h3470 => ?_)
  obtain ⟨rfl, rfl⟩ := h3470
  refine z_if_ne_t (tgt := 30) b dX12_kin_25 (by decide) (by decide) ?_
  refine z_aload_n b dX12_kin_30 rfl rfl ?_
  refine z_aload_n b dX12_kin_31 rfl rfl ?_
  refine z_get (q0 := 0) (k9 := 6) (v := .long (fl S 0)) b (mw_0 cy a S) rfl in_X12 (by decide) wf_X12_153 rfl dX12_kin_32 ?_
  refine z_eql h_l_0 ?_
  refine z_callv b (z_runV (q0 := 0) (As := [.long 1649317774848]) (st := []) b (c_X12_takes S h_a_4_7 h_a_1_7 h_a_4_6 h_a_1_6 h_a_3_6 h_a_3_2 h_a_2_2 h_a_0_2 h_a_4_3 h_a_1_3 h_a_4_5 h_a_1_5 h_a_3_5 h_a_3_7 h_a_2_1 h_a_0_1 h_a_4_2 h_a_1_2 h_a_4_1 h_a_1_1 h_a_3_1 h_a_3_3 h_a_2_0 h_a_0_0 h_i_0) cf_X12_takes (mw_0 cy a S) rfl wm_X12_174 wi_X12_takes ws_X12_takes dX12_kin_35 rfl (Nat.le_of_ble_eq_true rfl) ⟨by decide, by decide, by decide, by decide⟩) (fun u3475 h3473 => ?_)
  obtain rfl := h3473
  refine z_iload_n b dX12_kin_38 rfl rfl ?_
  refine z_iconst (v := 1) b dX12_kin_39 (by decide) ?_
  refine z_icmp_ne_t (tgt := 58) b dX12_kin_40 (by decide) (by decide) ?_
  refine z_aload_n b dX12_kin_58 rfl rfl ?_
  refine z_get (q0 := 0) (k9 := 3) (v := .ref (a 4)) b (mw_0 cy a S) rfl in_X12 (by decide) wf_X12_23 rfl dX12_kin_59 ?_
  refine z_iconst (v := 3) b dX12_kin_62 (by decide) ?_
  refine z_iload_n b dX12_kin_63 rfl rfl ?_
  refine z_imul (v := 6) b dX12_kin_64 (by decide) ?_
  refine z_iload_n b dX12_kin_65 rfl rfl ?_
  refine z_iadd (v := 7) b dX12_kin_66 (by decide) ?_
  refine z_iload b dX12_kin_67 rfl ?_
  refine y_zast (q0 := 4) (j := 7) b (mw_4 cy a S) (by decide) (by decide) dX12_kin_69 ((mwa_4 cy a S 7 0).trans (congrArg (mw cy a) (su_same h_a_3_7))) ?_
  refine z_aload_n b dX12_kin_70 rfl rfl ?_
  refine z_get (q0 := 0) (k9 := 3) (v := .ref (a 4)) b (mw_0 cy a S) rfl in_X12 (by decide) wf_X12_23 rfl dX12_kin_71 ?_
  refine z_iconst (v := 3) b dX12_kin_74 (by decide) ?_
  refine z_iload_n b dX12_kin_75 rfl rfl ?_
  refine z_imul (v := 3) b dX12_kin_76 (by decide) ?_
  refine z_iload_n b dX12_kin_77 rfl rfl ?_
  refine z_iadd (v := 5) b dX12_kin_78 (by decide) ?_
  refine z_iload b dX12_kin_79 rfl ?_
  refine y_zast (q0 := 4) (j := 5) b (mw_4 cy a S) (by decide) (by decide) dX12_kin_81 ((mwa_4 cy a S 5 0).trans (congrArg (mw cy a) (su_same h_a_3_5))) ?_
  refine z_aload_n b dX12_kin_82 rfl rfl ?_
  refine z_calli b (z_runV (q0 := 0) (As := []) (st := []) b (c_X12_told_14 S h_i_0 h_a_0_0 h_a_2_0 h_a_3_1 h_a_1_1 h_a_4_1 h_a_1_2 h_a_4_2 h_a_0_1 h_a_2_1 h_a_3_5 h_a_1_5 h_a_4_5 h_a_1_3 h_a_4_3 h_a_0_2 h_a_2_2 h_a_3_6 h_a_1_6 h_a_4_6 h_a_1_7 h_a_4_7 h_l_0) cf_X12_told (mw_0 cy a S) rfl wm_X12_178 wi_X12_told ws_X12_told dX12_kin_83 rfl (Nat.le_of_ble_eq_true rfl) ⟨by decide, by decide, by decide, by decide⟩) (fun r3477 u3478 h3476 => ?_)
  obtain ⟨rfl, rfl⟩ := h3476
  exact z_zret (u := S) b rfl (by decide) dX12_kin_86 ⟨rfl, rfl⟩ rfl (by decide) (by decide)

set_option maxHeartbeats 4000000 in
set_option maxRecDepth 100000 in
theorem c_X11_kin_66 {l : Launch} {D : va_G} {cy : Nat → ClassId} {T0 tB tE : Nat} {a : Nat → Nat} {rw : Nat → Option Nat} (S : GS)  (h_i_24 : fi S 24 = 0) : Ct l D cy T0 tB tE yX11_kin cX11_kin 6 (some .boolean) 2 41 0 0 (cw cy tE a rw S) [.ref (a 0), .int 2, .int 1, .int 0, .int 1] (QI D (U := GS) (fun r u => 1 = r ∧ (su (su S 4 27 1) 4 25 1) = u) (cw cy tE a rw)) := by
  refine Ct.ofZ RX11 "kin" [(0, .ref (a 0)), (1, .int 2), (2, .int 1), (3, .int 0), (4, .int 1)] rfl rfl rfl rfl (Nat.le_of_ble_eq_true rfl) ?_
  intro p e R s m args below meth c A b
  refine z_iload_n b dX11_kin_0 rfl rfl ?_
  refine z_iload_n b dX11_kin_1 rfl rfl ?_
  refine z_calli b (z_runS (As := [.int 2, .int 1]) (st := []) b (c_X11_arePair_13 S ) cf_X11_arePair wm_X11_84 ws_X11_arePair dX11_kin_2 rfl (Nat.le_of_ble_eq_true rfl) ⟨by decide, by decide, by decide, by decide⟩) (fun r3480 u3481 h3479 => ?_)
  obtain ⟨rfl, rfl⟩ := h3479
  refine z_if_eq_f (tgt := 16) b dX11_kin_5 (by decide) (by decide) ?_
  refine z_iload_n b dX11_kin_8 rfl rfl ?_
  refine z_iconst (v := 1) b dX11_kin_9 (by decide) ?_
  refine z_calli b (z_runS (As := [.int 0, .int 1]) (st := []) b (c_X11_isWithin_5 S ) cf_X11_isWithin wm_X11_73 ws_X11_isWithin dX11_kin_10 rfl (Nat.le_of_ble_eq_true rfl) ⟨by decide, by decide, by decide, by decide⟩) (fun r3483 u3484 h3482 => ?_)
  obtain ⟨rfl, rfl⟩ := h3482
  refine z_if_ne_t (tgt := 18) b dX11_kin_13 (by decide) (by decide) ?_
  refine z_iload b dX11_kin_18 rfl ?_
  refine z_if_eq_f (tgt := 27) b dX11_kin_20 (by decide) (by decide) ?_
  refine z_iconst (v := 1) b dX11_kin_23 (by decide) ?_
  refine z_goto (tgt := 28) b dX11_kin_24 (by decide) ?_
  refine z_istore (lv' := [(5, .int 1), (0, .ref (a 0)), (1, .int 2), (2, .int 1), (3, .int 0), (4, .int 1)]) b dX11_kin_28 (by decide) rfl ?_
  refine z_iload_n b dX11_kin_30 rfl rfl ?_
  refine z_if_ne_f (tgt := 71) b dX11_kin_31 (by decide) (by decide) ?_
  refine z_aload_n b dX11_kin_34 rfl rfl ?_
  refine z_get (q0 := 0) (k9 := 4) (v := .ref (a 14)) b (cw_0 cy tE a rw S) rfl in_X11 (by decide) wf_X11_34 rfl dX11_kin_35 ?_
  refine z_bipush (v := 20) b dX11_kin_38 (by decide) ?_
  refine z_iconst (v := 3) b dX11_kin_40 (by decide) ?_
  refine z_iload_n b dX11_kin_41 rfl rfl ?_
  refine z_imul (v := 6) b dX11_kin_42 (by decide) ?_
  refine z_iadd (v := 26) b dX11_kin_43 (by decide) ?_
  refine z_iload_n b dX11_kin_44 rfl rfl ?_
  refine z_iadd (v := 27) b dX11_kin_45 (by decide) ?_
  refine z_iload b dX11_kin_46 rfl ?_
  refine z_callv b (z_runV (q0 := 14) (As := [.int 27, .int 1]) (st := []) b (c_X9_set_31 S ) cf_X9_set (cw_14 cy tE a rw S) rfl wm_X11_77 wi_X9_set ws_X9_set dX11_kin_48 rfl (Nat.le_of_ble_eq_true rfl) ⟨by decide, by decide, by decide, by decide⟩) (fun u3487 h3485 => ?_)
  obtain rfl := h3485
  refine z_aload_n b dX11_kin_51 rfl rfl ?_
  refine z_get (q0 := 0) (k9 := 4) (v := .ref (a 14)) b (cw_0 cy tE a rw (su S 4 27 1)) rfl in_X11 (by decide) wf_X11_34 rfl dX11_kin_52 ?_
  refine z_bipush (v := 20) b dX11_kin_55 (by decide) ?_
  refine z_iconst (v := 3) b dX11_kin_57 (by decide) ?_
  refine z_iload_n b dX11_kin_58 rfl rfl ?_
  refine z_imul (v := 3) b dX11_kin_59 (by decide) ?_
  refine z_iadd (v := 23) b dX11_kin_60 (by decide) ?_
  refine z_iload_n b dX11_kin_61 rfl rfl ?_
  refine z_iadd (v := 25) b dX11_kin_62 (by decide) ?_
  refine z_iload b dX11_kin_63 rfl ?_
  refine z_callv b (z_runV (q0 := 14) (As := [.int 25, .int 1]) (st := []) b (c_X9_set_30 (su S 4 27 1) ) cf_X9_set (cw_14 cy tE a rw (su S 4 27 1)) rfl wm_X11_77 wi_X9_set ws_X9_set dX11_kin_65 rfl (Nat.le_of_ble_eq_true rfl) ⟨by decide, by decide, by decide, by decide⟩) (fun u3490 h3488 => ?_)
  obtain rfl := h3488
  refine z_goto (tgt := 88) b dX11_kin_68 (by decide) ?_
  refine z_aload_n b dX11_kin_88 rfl rfl ?_
  refine z_get (q0 := 0) (k9 := 6) (v := .ref (a 25)) b (cw_0 cy tE a rw (su (su S 4 27 1) 4 25 1)) rfl in_X11 (by decide) wf_X11_52 rfl dX11_kin_89 ?_
  refine z_callv b (z_runV (q0 := 25) (As := []) (st := []) b (c_X8_forget (su (su S 4 27 1) 4 25 1) h_i_24) cf_X8_forget (cw_25 cy tE a rw (su (su S 4 27 1) 4 25 1)) rfl wm_X11_81 wi_X8_forget ws_X8_forget dX11_kin_92 rfl (Nat.le_of_ble_eq_true rfl) ⟨by decide, by decide, by decide, by decide⟩) (fun u3493 h3491 => ?_)
  obtain rfl := h3491
  refine z_iconst (v := 1) b dX11_kin_95 (by decide) ?_
  exact z_zret (u := (su (su S 4 27 1) 4 25 1)) b rfl (by decide) dX11_kin_96 ⟨rfl, rfl⟩ rfl (by decide) (by decide)

set_option maxHeartbeats 4000000 in
set_option maxRecDepth 100000 in
theorem c_X12_kin_66 {l : Launch} {D : va_G} {cy : Nat → ClassId} {T0 tB tE : Nat} {a : Nat → Nat} (S : GS)  (h_l_0 : fl S 0 = 1649317774848) (h_a_4_7 : ar S 4 7 = 0) (h_a_1_7 : ar S 1 7 = 0) (h_a_4_6 : ar S 4 6 = 0) (h_a_1_6 : ar S 1 6 = 0) (h_a_3_6 : ar S 3 6 = 0) (h_a_3_2 : ar S 3 2 = 0) (h_a_2_2 : ar S 2 2 = 3) (h_a_0_2 : ar S 0 2 = 0) (h_a_4_3 : ar S 4 3 = 0) (h_a_1_3 : ar S 1 3 = 0) (h_a_4_5 : ar S 4 5 = 0) (h_a_1_5 : ar S 1 5 = 0) (h_a_3_5 : ar S 3 5 = 0) (h_a_3_7 : ar S 3 7 = 0) (h_a_2_1 : ar S 2 1 = 3) (h_a_0_1 : ar S 0 1 = 0) (h_a_4_2 : ar S 4 2 = 0) (h_a_1_2 : ar S 1 2 = 0) (h_a_4_1 : ar S 4 1 = 0) (h_a_1_1 : ar S 1 1 = 0) (h_a_3_1 : ar S 3 1 = 0) (h_a_3_3 : ar S 3 3 = 0) (h_a_2_0 : ar S 2 0 = 3) (h_a_0_0 : ar S 0 0 = 0) (h_i_0 : fi S 0 = 0) : Ct l D cy T0 tB tE yX12_kin cX12_kin 5 (some .boolean) 3 65 0 0 (mw cy a S) [.ref (a 0), .int 2, .int 1, .int 0, .int 1] (QI D (U := GS) (fun r u => 1 = r ∧ sl (su (su S 3 7 1) 3 5 1) 0 1649326163456 = u) (mw cy a)) := by
  refine Ct.ofZ RX12 "kin" [(0, .ref (a 0)), (1, .int 2), (2, .int 1), (3, .int 0), (4, .int 1)] rfl rfl rfl rfl (Nat.le_of_ble_eq_true rfl) ?_
  intro p e R s m args below meth c A b
  refine z_iload_n b dX12_kin_0 rfl rfl ?_
  refine z_calli b (z_runS (As := [.int 2]) (st := []) b (c_X12_isOne_4 S ) cf_X12_isOne wm_X12_170 ws_X12_isOne dX12_kin_1 rfl (Nat.le_of_ble_eq_true rfl) ⟨by decide, by decide, by decide, by decide⟩) (fun r3495 u3496 h3494 => ?_)
  obtain ⟨rfl, rfl⟩ := h3494
  refine z_if_eq_f (tgt := 28) b dX12_kin_4 (by decide) (by decide) ?_
  refine z_iload_n b dX12_kin_7 rfl rfl ?_
  refine z_calli b (z_runS (As := [.int 1]) (st := []) b (c_X12_isOne_3 S ) cf_X12_isOne wm_X12_170 ws_X12_isOne dX12_kin_8 rfl (Nat.le_of_ble_eq_true rfl) ⟨by decide, by decide, by decide, by decide⟩) (fun r3498 u3499 h3497 => ?_)
  obtain ⟨rfl, rfl⟩ := h3497
  refine z_if_eq_f (tgt := 28) b dX12_kin_11 (by decide) (by decide) ?_
  refine z_iload_n b dX12_kin_14 rfl rfl ?_
  refine z_iload_n b dX12_kin_15 rfl rfl ?_
  refine z_icmp_eq_f (tgt := 28) b dX12_kin_16 (by decide) (by decide) ?_
  refine z_iload_n b dX12_kin_19 rfl rfl ?_
  refine z_iconst (v := 0) b dX12_kin_20 (by decide) ?_
  refine z_iconst (v := 1) b dX12_kin_21 (by decide) ?_
  refine z_calli b (z_runS (As := [.int 0, .int 0, .int 1]) (st := []) b (c_X12_isIn_9 S ) cf_X12_isIn wm_X12_1 ws_X12_isIn dX12_kin_22 rfl (Nat.le_of_ble_eq_true rfl) ⟨by decide, by decide, by decide, by decide⟩) (fun r3501 u3502 h3500 => ?_)
  obtain ⟨rfl, rfl⟩ := h3500
  refine z_if_ne_t (tgt := 30) b dX12_kin_25 (by decide) (by decide) ?_
  refine z_aload_n b dX12_kin_30 rfl rfl ?_
  refine z_aload_n b dX12_kin_31 rfl rfl ?_
  refine z_get (q0 := 0) (k9 := 6) (v := .long (fl S 0)) b (mw_0 cy a S) rfl in_X12 (by decide) wf_X12_153 rfl dX12_kin_32 ?_
  refine z_eql h_l_0 ?_
  refine z_callv b (z_runV (q0 := 0) (As := [.long 1649317774848]) (st := []) b (c_X12_takes S h_a_4_7 h_a_1_7 h_a_4_6 h_a_1_6 h_a_3_6 h_a_3_2 h_a_2_2 h_a_0_2 h_a_4_3 h_a_1_3 h_a_4_5 h_a_1_5 h_a_3_5 h_a_3_7 h_a_2_1 h_a_0_1 h_a_4_2 h_a_1_2 h_a_4_1 h_a_1_1 h_a_3_1 h_a_3_3 h_a_2_0 h_a_0_0 h_i_0) cf_X12_takes (mw_0 cy a S) rfl wm_X12_174 wi_X12_takes ws_X12_takes dX12_kin_35 rfl (Nat.le_of_ble_eq_true rfl) ⟨by decide, by decide, by decide, by decide⟩) (fun u3505 h3503 => ?_)
  obtain rfl := h3503
  refine z_iload_n b dX12_kin_38 rfl rfl ?_
  refine z_iconst (v := 1) b dX12_kin_39 (by decide) ?_
  refine z_icmp_ne_t (tgt := 58) b dX12_kin_40 (by decide) (by decide) ?_
  refine z_aload_n b dX12_kin_58 rfl rfl ?_
  refine z_get (q0 := 0) (k9 := 3) (v := .ref (a 4)) b (mw_0 cy a S) rfl in_X12 (by decide) wf_X12_23 rfl dX12_kin_59 ?_
  refine z_iconst (v := 3) b dX12_kin_62 (by decide) ?_
  refine z_iload_n b dX12_kin_63 rfl rfl ?_
  refine z_imul (v := 6) b dX12_kin_64 (by decide) ?_
  refine z_iload_n b dX12_kin_65 rfl rfl ?_
  refine z_iadd (v := 7) b dX12_kin_66 (by decide) ?_
  refine z_iload b dX12_kin_67 rfl ?_
  refine y_zast (q0 := 4) (j := 7) b (mw_4 cy a S) (by decide) (by decide) dX12_kin_69 (mwa_4 cy a S 7 1) ?_
  refine z_aload_n b dX12_kin_70 rfl rfl ?_
  refine z_get (q0 := 0) (k9 := 3) (v := .ref (a 4)) b (mw_0 cy a (su S 3 7 1)) rfl in_X12 (by decide) wf_X12_23 rfl dX12_kin_71 ?_
  refine z_iconst (v := 3) b dX12_kin_74 (by decide) ?_
  refine z_iload_n b dX12_kin_75 rfl rfl ?_
  refine z_imul (v := 3) b dX12_kin_76 (by decide) ?_
  refine z_iload_n b dX12_kin_77 rfl rfl ?_
  refine z_iadd (v := 5) b dX12_kin_78 (by decide) ?_
  refine z_iload b dX12_kin_79 rfl ?_
  refine y_zast (q0 := 4) (j := 5) b (mw_4 cy a (su S 3 7 1)) (by decide) (by decide) dX12_kin_81 (mwa_4 cy a (su S 3 7 1) 5 1) ?_
  refine z_aload_n b dX12_kin_82 rfl rfl ?_
  refine z_calli b (z_runV (q0 := 0) (As := []) (st := []) b (c_X12_told_20 (su (su S 3 7 1) 3 5 1) h_i_0 h_a_0_0 h_a_2_0 h_a_3_1 h_a_1_1 h_a_4_1 h_a_1_2 h_a_4_2 h_a_0_1 h_a_2_1 rfl h_a_1_5 h_a_4_5 h_a_1_3 h_a_4_3 h_a_0_2 h_a_2_2 h_a_3_6 h_a_1_6 h_a_4_6 h_a_1_7 h_a_4_7) cf_X12_told (mw_0 cy a (su (su S 3 7 1) 3 5 1)) rfl wm_X12_178 wi_X12_told ws_X12_told dX12_kin_83 rfl (Nat.le_of_ble_eq_true rfl) ⟨by decide, by decide, by decide, by decide⟩) (fun r3507 u3508 h3506 => ?_)
  obtain ⟨rfl, rfl⟩ := h3506
  exact z_zret (u := (sl (su (su S 3 7 1) 3 5 1) 0 1649326163456)) b rfl (by decide) dX12_kin_86 ⟨rfl, rfl⟩ rfl (by decide) (by decide)

set_option maxHeartbeats 4000000 in
set_option maxRecDepth 100000 in
theorem c_X9_set_36 {l : Launch} {D : va_G} {cy : Nat → ClassId} {T0 tB tE : Nat} {a : Nat → Nat} {rw : Nat → Option Nat} (S : GS)  (h_a_4_37 : ar S 4 37 = 0) : Ct l D cy T0 tB tE yX9_set cX9_set 3 none 0 0 0 0 (cw cy tE a rw S) [.ref (a 14), .int 37, .int 0] (QV D (U := GS) (fun u => S = u) (cw cy tE a rw)) := by
  refine Ct.ofZ RX9 "set" [(0, .ref (a 14)), (1, .int 37), (2, .int 0)] rfl rfl rfl rfl (Nat.le_of_ble_eq_true rfl) ?_
  intro p e R s m args below meth c A b
  refine z_iload_n b dX9_set_0 rfl rfl ?_
  refine z_if_lt_f (tgt := 20) b dX9_set_1 (by decide) (by decide) ?_
  refine z_iload_n b dX9_set_4 rfl rfl ?_
  refine z_aload_n b dX9_set_5 rfl rfl ?_
  refine z_get (q0 := 14) (k9 := 0) (v := .ref (a 15)) b (cw_14 cy tE a rw S) rfl in_X9 (by decide) wf_X9_11 rfl dX9_set_6 ?_
  refine z_alen (q0 := 15) (t0 := 0) (v := 51) b (cw_15 cy tE a rw S) rfl rfl dX9_set_9 ?_
  refine z_icmp_ge_f (tgt := 20) b dX9_set_10 (by decide) (by decide) ?_
  refine z_aload_n b dX9_set_13 rfl rfl ?_
  refine z_get (q0 := 14) (k9 := 0) (v := .ref (a 15)) b (cw_14 cy tE a rw S) rfl in_X9 (by decide) wf_X9_11 rfl dX9_set_14 ?_
  refine z_iload_n b dX9_set_17 rfl rfl ?_
  refine z_iload_n b dX9_set_18 rfl rfl ?_
  refine y_iast (q0 := 15) (j := 37) b (cw_15 cy tE a rw S) (by decide) dX9_set_19 ((cwa_15 cy tE a rw S 37 0).trans (congrArg (cw cy tE a rw) (su_same h_a_4_37))) ?_
  exact z_vret (u := S) b rfl dX9_set_20 rfl rfl (by decide) (by decide)

set_option maxHeartbeats 4000000 in
set_option maxRecDepth 100000 in
theorem c_X11_kin_67 {l : Launch} {D : va_G} {cy : Nat → ClassId} {T0 tB tE : Nat} {a : Nat → Nat} {rw : Nat → Option Nat} (S : GS)  (h_a_4_37 : ar S 4 37 = 0) (h_i_24 : fi S 24 = 0) : Ct l D cy T0 tB tE yX11_kin cX11_kin 6 (some .boolean) 2 41 0 0 (cw cy tE a rw S) [.ref (a 0), .int 2, .int 1, .int 1, .int 0] (QI D (U := GS) (fun r u => 1 = r ∧ S = u) (cw cy tE a rw)) := by
  refine Ct.ofZ RX11 "kin" [(0, .ref (a 0)), (1, .int 2), (2, .int 1), (3, .int 1), (4, .int 0)] rfl rfl rfl rfl (Nat.le_of_ble_eq_true rfl) ?_
  intro p e R s m args below meth c A b
  refine z_iload_n b dX11_kin_0 rfl rfl ?_
  refine z_iload_n b dX11_kin_1 rfl rfl ?_
  refine z_calli b (z_runS (As := [.int 2, .int 1]) (st := []) b (c_X11_arePair_13 S ) cf_X11_arePair wm_X11_84 ws_X11_arePair dX11_kin_2 rfl (Nat.le_of_ble_eq_true rfl) ⟨by decide, by decide, by decide, by decide⟩) (fun r3510 u3511 h3509 => ?_)
  obtain ⟨rfl, rfl⟩ := h3509
  refine z_if_eq_f (tgt := 16) b dX11_kin_5 (by decide) (by decide) ?_
  refine z_iload_n b dX11_kin_8 rfl rfl ?_
  refine z_iconst (v := 1) b dX11_kin_9 (by decide) ?_
  refine z_calli b (z_runS (As := [.int 1, .int 1]) (st := []) b (c_X11_isWithin_6 S ) cf_X11_isWithin wm_X11_73 ws_X11_isWithin dX11_kin_10 rfl (Nat.le_of_ble_eq_true rfl) ⟨by decide, by decide, by decide, by decide⟩) (fun r3513 u3514 h3512 => ?_)
  obtain ⟨rfl, rfl⟩ := h3512
  refine z_if_ne_t (tgt := 18) b dX11_kin_13 (by decide) (by decide) ?_
  refine z_iload b dX11_kin_18 rfl ?_
  refine z_if_eq_t (tgt := 27) b dX11_kin_20 (by decide) (by decide) ?_
  refine z_iconst (v := 0) b dX11_kin_27 (by decide) ?_
  refine z_istore (lv' := [(5, .int 0), (0, .ref (a 0)), (1, .int 2), (2, .int 1), (3, .int 1), (4, .int 0)]) b dX11_kin_28 (by decide) rfl ?_
  refine z_iload_n b dX11_kin_30 rfl rfl ?_
  refine z_if_ne_t (tgt := 71) b dX11_kin_31 (by decide) (by decide) ?_
  refine z_aload_n b dX11_kin_71 rfl rfl ?_
  refine z_get (q0 := 0) (k9 := 4) (v := .ref (a 14)) b (cw_0 cy tE a rw S) rfl in_X11 (by decide) wf_X11_34 rfl dX11_kin_72 ?_
  refine z_bipush (v := 30) b dX11_kin_75 (by decide) ?_
  refine z_iconst (v := 3) b dX11_kin_77 (by decide) ?_
  refine z_iload_n b dX11_kin_78 rfl rfl ?_
  refine z_imul (v := 6) b dX11_kin_79 (by decide) ?_
  refine z_iadd (v := 36) b dX11_kin_80 (by decide) ?_
  refine z_iload_n b dX11_kin_81 rfl rfl ?_
  refine z_iadd (v := 37) b dX11_kin_82 (by decide) ?_
  refine z_iload b dX11_kin_83 rfl ?_
  refine z_callv b (z_runV (q0 := 14) (As := [.int 37, .int 0]) (st := []) b (c_X9_set_36 S h_a_4_37) cf_X9_set (cw_14 cy tE a rw S) rfl wm_X11_77 wi_X9_set ws_X9_set dX11_kin_85 rfl (Nat.le_of_ble_eq_true rfl) ⟨by decide, by decide, by decide, by decide⟩) (fun u3517 h3515 => ?_)
  obtain rfl := h3515
  refine z_aload_n b dX11_kin_88 rfl rfl ?_
  refine z_get (q0 := 0) (k9 := 6) (v := .ref (a 25)) b (cw_0 cy tE a rw S) rfl in_X11 (by decide) wf_X11_52 rfl dX11_kin_89 ?_
  refine z_callv b (z_runV (q0 := 25) (As := []) (st := []) b (c_X8_forget S h_i_24) cf_X8_forget (cw_25 cy tE a rw S) rfl wm_X11_81 wi_X8_forget ws_X8_forget dX11_kin_92 rfl (Nat.le_of_ble_eq_true rfl) ⟨by decide, by decide, by decide, by decide⟩) (fun u3520 h3518 => ?_)
  obtain rfl := h3518
  refine z_iconst (v := 1) b dX11_kin_95 (by decide) ?_
  exact z_zret (u := S) b rfl (by decide) dX11_kin_96 ⟨rfl, rfl⟩ rfl (by decide) (by decide)

set_option maxHeartbeats 4000000 in
set_option maxRecDepth 100000 in
theorem c_X12_kin_67 {l : Launch} {D : va_G} {cy : Nat → ClassId} {T0 tB tE : Nat} {a : Nat → Nat} (S : GS)  (h_l_0 : fl S 0 = 1649317774848) (h_a_4_7 : ar S 4 7 = 0) (h_a_1_7 : ar S 1 7 = 0) (h_a_4_6 : ar S 4 6 = 0) (h_a_1_6 : ar S 1 6 = 0) (h_a_3_6 : ar S 3 6 = 0) (h_a_3_2 : ar S 3 2 = 0) (h_a_2_2 : ar S 2 2 = 3) (h_a_0_2 : ar S 0 2 = 0) (h_a_4_3 : ar S 4 3 = 0) (h_a_1_3 : ar S 1 3 = 0) (h_a_4_5 : ar S 4 5 = 0) (h_a_1_5 : ar S 1 5 = 0) (h_a_3_5 : ar S 3 5 = 0) (h_a_3_7 : ar S 3 7 = 0) (h_a_2_1 : ar S 2 1 = 3) (h_a_0_1 : ar S 0 1 = 0) (h_a_4_2 : ar S 4 2 = 0) (h_a_1_2 : ar S 1 2 = 0) (h_a_4_1 : ar S 4 1 = 0) (h_a_1_1 : ar S 1 1 = 0) (h_a_3_1 : ar S 3 1 = 0) (h_a_3_3 : ar S 3 3 = 0) (h_a_2_0 : ar S 2 0 = 3) (h_a_0_0 : ar S 0 0 = 0) (h_i_0 : fi S 0 = 0) : Ct l D cy T0 tB tE yX12_kin cX12_kin 5 (some .boolean) 3 65 0 0 (mw cy a S) [.ref (a 0), .int 2, .int 1, .int 1, .int 0] (QI D (U := GS) (fun r u => 1 = r ∧ S = u) (mw cy a)) := by
  refine Ct.ofZ RX12 "kin" [(0, .ref (a 0)), (1, .int 2), (2, .int 1), (3, .int 1), (4, .int 0)] rfl rfl rfl rfl (Nat.le_of_ble_eq_true rfl) ?_
  intro p e R s m args below meth c A b
  refine z_iload_n b dX12_kin_0 rfl rfl ?_
  refine z_calli b (z_runS (As := [.int 2]) (st := []) b (c_X12_isOne_4 S ) cf_X12_isOne wm_X12_170 ws_X12_isOne dX12_kin_1 rfl (Nat.le_of_ble_eq_true rfl) ⟨by decide, by decide, by decide, by decide⟩) (fun r3522 u3523 h3521 => ?_)
  obtain ⟨rfl, rfl⟩ := h3521
  refine z_if_eq_f (tgt := 28) b dX12_kin_4 (by decide) (by decide) ?_
  refine z_iload_n b dX12_kin_7 rfl rfl ?_
  refine z_calli b (z_runS (As := [.int 1]) (st := []) b (c_X12_isOne_3 S ) cf_X12_isOne wm_X12_170 ws_X12_isOne dX12_kin_8 rfl (Nat.le_of_ble_eq_true rfl) ⟨by decide, by decide, by decide, by decide⟩) (fun r3525 u3526 h3524 => ?_)
  obtain ⟨rfl, rfl⟩ := h3524
  refine z_if_eq_f (tgt := 28) b dX12_kin_11 (by decide) (by decide) ?_
  refine z_iload_n b dX12_kin_14 rfl rfl ?_
  refine z_iload_n b dX12_kin_15 rfl rfl ?_
  refine z_icmp_eq_f (tgt := 28) b dX12_kin_16 (by decide) (by decide) ?_
  refine z_iload_n b dX12_kin_19 rfl rfl ?_
  refine z_iconst (v := 0) b dX12_kin_20 (by decide) ?_
  refine z_iconst (v := 1) b dX12_kin_21 (by decide) ?_
  refine z_calli b (z_runS (As := [.int 1, .int 0, .int 1]) (st := []) b (c_X12_isIn_10 S ) cf_X12_isIn wm_X12_1 ws_X12_isIn dX12_kin_22 rfl (Nat.le_of_ble_eq_true rfl) ⟨by decide, by decide, by decide, by decide⟩) (fun r3528 u3529 h3527 => ?_)
  obtain ⟨rfl, rfl⟩ := h3527
  refine z_if_ne_t (tgt := 30) b dX12_kin_25 (by decide) (by decide) ?_
  refine z_aload_n b dX12_kin_30 rfl rfl ?_
  refine z_aload_n b dX12_kin_31 rfl rfl ?_
  refine z_get (q0 := 0) (k9 := 6) (v := .long (fl S 0)) b (mw_0 cy a S) rfl in_X12 (by decide) wf_X12_153 rfl dX12_kin_32 ?_
  refine z_eql h_l_0 ?_
  refine z_callv b (z_runV (q0 := 0) (As := [.long 1649317774848]) (st := []) b (c_X12_takes S h_a_4_7 h_a_1_7 h_a_4_6 h_a_1_6 h_a_3_6 h_a_3_2 h_a_2_2 h_a_0_2 h_a_4_3 h_a_1_3 h_a_4_5 h_a_1_5 h_a_3_5 h_a_3_7 h_a_2_1 h_a_0_1 h_a_4_2 h_a_1_2 h_a_4_1 h_a_1_1 h_a_3_1 h_a_3_3 h_a_2_0 h_a_0_0 h_i_0) cf_X12_takes (mw_0 cy a S) rfl wm_X12_174 wi_X12_takes ws_X12_takes dX12_kin_35 rfl (Nat.le_of_ble_eq_true rfl) ⟨by decide, by decide, by decide, by decide⟩) (fun u3532 h3530 => ?_)
  obtain rfl := h3530
  refine z_iload_n b dX12_kin_38 rfl rfl ?_
  refine z_iconst (v := 1) b dX12_kin_39 (by decide) ?_
  refine z_icmp_ne_f (tgt := 58) b dX12_kin_40 (by decide) (by decide) ?_
  refine z_aload_n b dX12_kin_43 rfl rfl ?_
  refine z_get (q0 := 0) (k9 := 4) (v := .ref (a 5)) b (mw_0 cy a S) rfl in_X12 (by decide) wf_X12_27 rfl dX12_kin_44 ?_
  refine z_iconst (v := 3) b dX12_kin_47 (by decide) ?_
  refine z_iload_n b dX12_kin_48 rfl rfl ?_
  refine z_imul (v := 6) b dX12_kin_49 (by decide) ?_
  refine z_iload_n b dX12_kin_50 rfl rfl ?_
  refine z_iadd (v := 7) b dX12_kin_51 (by decide) ?_
  refine z_iload b dX12_kin_52 rfl ?_
  refine y_zast (q0 := 5) (j := 7) b (mw_5 cy a S) (by decide) (by decide) dX12_kin_54 ((mwa_5 cy a S 7 0).trans (congrArg (mw cy a) (su_same h_a_4_7))) ?_
  refine z_goto (tgt := 82) b dX12_kin_55 (by decide) ?_
  refine z_aload_n b dX12_kin_82 rfl rfl ?_
  refine z_calli b (z_runV (q0 := 0) (As := []) (st := []) b (c_X12_told_14 S h_i_0 h_a_0_0 h_a_2_0 h_a_3_1 h_a_1_1 h_a_4_1 h_a_1_2 h_a_4_2 h_a_0_1 h_a_2_1 h_a_3_5 h_a_1_5 h_a_4_5 h_a_1_3 h_a_4_3 h_a_0_2 h_a_2_2 h_a_3_6 h_a_1_6 h_a_4_6 h_a_1_7 h_a_4_7 h_l_0) cf_X12_told (mw_0 cy a S) rfl wm_X12_178 wi_X12_told ws_X12_told dX12_kin_83 rfl (Nat.le_of_ble_eq_true rfl) ⟨by decide, by decide, by decide, by decide⟩) (fun r3534 u3535 h3533 => ?_)
  obtain ⟨rfl, rfl⟩ := h3533
  exact z_zret (u := S) b rfl (by decide) dX12_kin_86 ⟨rfl, rfl⟩ rfl (by decide) (by decide)

set_option maxHeartbeats 4000000 in
set_option maxRecDepth 100000 in
theorem c_X9_set_37 {l : Launch} {D : va_G} {cy : Nat → ClassId} {T0 tB tE : Nat} {a : Nat → Nat} {rw : Nat → Option Nat} (S : GS)   : Ct l D cy T0 tB tE yX9_set cX9_set 3 none 0 0 0 0 (cw cy tE a rw S) [.ref (a 14), .int 37, .int 1] (QV D (U := GS) (fun u => su S 4 37 1 = u) (cw cy tE a rw)) := by
  refine Ct.ofZ RX9 "set" [(0, .ref (a 14)), (1, .int 37), (2, .int 1)] rfl rfl rfl rfl (Nat.le_of_ble_eq_true rfl) ?_
  intro p e R s m args below meth c A b
  refine z_iload_n b dX9_set_0 rfl rfl ?_
  refine z_if_lt_f (tgt := 20) b dX9_set_1 (by decide) (by decide) ?_
  refine z_iload_n b dX9_set_4 rfl rfl ?_
  refine z_aload_n b dX9_set_5 rfl rfl ?_
  refine z_get (q0 := 14) (k9 := 0) (v := .ref (a 15)) b (cw_14 cy tE a rw S) rfl in_X9 (by decide) wf_X9_11 rfl dX9_set_6 ?_
  refine z_alen (q0 := 15) (t0 := 0) (v := 51) b (cw_15 cy tE a rw S) rfl rfl dX9_set_9 ?_
  refine z_icmp_ge_f (tgt := 20) b dX9_set_10 (by decide) (by decide) ?_
  refine z_aload_n b dX9_set_13 rfl rfl ?_
  refine z_get (q0 := 14) (k9 := 0) (v := .ref (a 15)) b (cw_14 cy tE a rw S) rfl in_X9 (by decide) wf_X9_11 rfl dX9_set_14 ?_
  refine z_iload_n b dX9_set_17 rfl rfl ?_
  refine z_iload_n b dX9_set_18 rfl rfl ?_
  refine y_iast (q0 := 15) (j := 37) b (cw_15 cy tE a rw S) (by decide) dX9_set_19 (cwa_15 cy tE a rw S 37 1) ?_
  exact z_vret (u := (su S 4 37 1)) b rfl dX9_set_20 rfl rfl (by decide) (by decide)

set_option maxHeartbeats 4000000 in
set_option maxRecDepth 100000 in
theorem c_X11_kin_68 {l : Launch} {D : va_G} {cy : Nat → ClassId} {T0 tB tE : Nat} {a : Nat → Nat} {rw : Nat → Option Nat} (S : GS)  (h_i_24 : fi S 24 = 0) : Ct l D cy T0 tB tE yX11_kin cX11_kin 6 (some .boolean) 2 41 0 0 (cw cy tE a rw S) [.ref (a 0), .int 2, .int 1, .int 1, .int 1] (QI D (U := GS) (fun r u => 1 = r ∧ (su S 4 37 1) = u) (cw cy tE a rw)) := by
  refine Ct.ofZ RX11 "kin" [(0, .ref (a 0)), (1, .int 2), (2, .int 1), (3, .int 1), (4, .int 1)] rfl rfl rfl rfl (Nat.le_of_ble_eq_true rfl) ?_
  intro p e R s m args below meth c A b
  refine z_iload_n b dX11_kin_0 rfl rfl ?_
  refine z_iload_n b dX11_kin_1 rfl rfl ?_
  refine z_calli b (z_runS (As := [.int 2, .int 1]) (st := []) b (c_X11_arePair_13 S ) cf_X11_arePair wm_X11_84 ws_X11_arePair dX11_kin_2 rfl (Nat.le_of_ble_eq_true rfl) ⟨by decide, by decide, by decide, by decide⟩) (fun r3537 u3538 h3536 => ?_)
  obtain ⟨rfl, rfl⟩ := h3536
  refine z_if_eq_f (tgt := 16) b dX11_kin_5 (by decide) (by decide) ?_
  refine z_iload_n b dX11_kin_8 rfl rfl ?_
  refine z_iconst (v := 1) b dX11_kin_9 (by decide) ?_
  refine z_calli b (z_runS (As := [.int 1, .int 1]) (st := []) b (c_X11_isWithin_6 S ) cf_X11_isWithin wm_X11_73 ws_X11_isWithin dX11_kin_10 rfl (Nat.le_of_ble_eq_true rfl) ⟨by decide, by decide, by decide, by decide⟩) (fun r3540 u3541 h3539 => ?_)
  obtain ⟨rfl, rfl⟩ := h3539
  refine z_if_ne_t (tgt := 18) b dX11_kin_13 (by decide) (by decide) ?_
  refine z_iload b dX11_kin_18 rfl ?_
  refine z_if_eq_f (tgt := 27) b dX11_kin_20 (by decide) (by decide) ?_
  refine z_iconst (v := 1) b dX11_kin_23 (by decide) ?_
  refine z_goto (tgt := 28) b dX11_kin_24 (by decide) ?_
  refine z_istore (lv' := [(5, .int 1), (0, .ref (a 0)), (1, .int 2), (2, .int 1), (3, .int 1), (4, .int 1)]) b dX11_kin_28 (by decide) rfl ?_
  refine z_iload_n b dX11_kin_30 rfl rfl ?_
  refine z_if_ne_t (tgt := 71) b dX11_kin_31 (by decide) (by decide) ?_
  refine z_aload_n b dX11_kin_71 rfl rfl ?_
  refine z_get (q0 := 0) (k9 := 4) (v := .ref (a 14)) b (cw_0 cy tE a rw S) rfl in_X11 (by decide) wf_X11_34 rfl dX11_kin_72 ?_
  refine z_bipush (v := 30) b dX11_kin_75 (by decide) ?_
  refine z_iconst (v := 3) b dX11_kin_77 (by decide) ?_
  refine z_iload_n b dX11_kin_78 rfl rfl ?_
  refine z_imul (v := 6) b dX11_kin_79 (by decide) ?_
  refine z_iadd (v := 36) b dX11_kin_80 (by decide) ?_
  refine z_iload_n b dX11_kin_81 rfl rfl ?_
  refine z_iadd (v := 37) b dX11_kin_82 (by decide) ?_
  refine z_iload b dX11_kin_83 rfl ?_
  refine z_callv b (z_runV (q0 := 14) (As := [.int 37, .int 1]) (st := []) b (c_X9_set_37 S ) cf_X9_set (cw_14 cy tE a rw S) rfl wm_X11_77 wi_X9_set ws_X9_set dX11_kin_85 rfl (Nat.le_of_ble_eq_true rfl) ⟨by decide, by decide, by decide, by decide⟩) (fun u3544 h3542 => ?_)
  obtain rfl := h3542
  refine z_aload_n b dX11_kin_88 rfl rfl ?_
  refine z_get (q0 := 0) (k9 := 6) (v := .ref (a 25)) b (cw_0 cy tE a rw (su S 4 37 1)) rfl in_X11 (by decide) wf_X11_52 rfl dX11_kin_89 ?_
  refine z_callv b (z_runV (q0 := 25) (As := []) (st := []) b (c_X8_forget (su S 4 37 1) h_i_24) cf_X8_forget (cw_25 cy tE a rw (su S 4 37 1)) rfl wm_X11_81 wi_X8_forget ws_X8_forget dX11_kin_92 rfl (Nat.le_of_ble_eq_true rfl) ⟨by decide, by decide, by decide, by decide⟩) (fun u3547 h3545 => ?_)
  obtain rfl := h3545
  refine z_iconst (v := 1) b dX11_kin_95 (by decide) ?_
  exact z_zret (u := (su S 4 37 1)) b rfl (by decide) dX11_kin_96 ⟨rfl, rfl⟩ rfl (by decide) (by decide)

set_option maxHeartbeats 4000000 in
set_option maxRecDepth 100000 in
theorem ch_X12_packs_48 {p : Program} {l : Launch} {e : Env} {R : Room} {s : State} {m : MethodId} {args : Array Value} {below : List Frame} {meth : Method} {c : Code} {D : va_G} {cy : Nat → ClassId} {T0 tB tE : Nat} {A : Nat → Prop} {Q : State → Prop} {a : Nat → Nat} (S : GS)  (h_a_0_0 : ar S 0 0 = 0) (h_a_1_1 : ar S 1 1 = 0) (h_a_1_2 : ar S 1 2 = 0) (h_a_2_0 : ar S 2 0 = 3) (h_a_3_1 : ar S 3 1 = 0) (h_a_4_1 : ar S 4 1 = 0) (h_a_4_2 : ar S 4 2 = 0) (h_i_0 : fi S 0 = 0) (b : Bz p R s m args meth c D cy T0 tB tE A 5 cX12_packs RX12 (some .long) "packs" 1 21 0 0) (k : Z p l e R s m args below meth c D A 5 Q 0 0 (mw cy a S) [(3, .int 1), (4, .int 2), (1, .long 1536), (0, .ref (a 0))] 21 [.int 1, .ref (a 1), .long 24576]) : Z p l e R s m args below meth c D A 5 Q 0 0 (mw cy a S) [(0, .ref (a 0))] 0 [] := by
  refine z_aload_n b dX12_packs_0 rfl rfl ?_
  refine z_get (q0 := 0) (k9 := 5) (v := .int (fi S 0)) b (mw_0 cy a S) rfl in_X12 (by decide) wf_X12_157 rfl dX12_packs_1 ?_
  refine z_eqi h_i_0 ?_
  refine z_i2l (v := 0) b dX12_packs_4 (by decide) ?_
  refine z_lstore_n (lv' := [(1, .long 0), (0, .ref (a 0))]) b dX12_packs_5 rfl (by decide) rfl ?_
  refine z_iconst (v := 0) b dX12_packs_6 (by decide) ?_
  refine z_istore_n (lv' := [(3, .int 0), (1, .long 0), (0, .ref (a 0))]) b dX12_packs_7 rfl (by decide) rfl ?_
  refine z_iload_n b dX12_packs_8 rfl rfl ?_
  refine z_iconst (v := 3) b dX12_packs_9 (by decide) ?_
  refine z_icmp_ge_f (tgt := 134) b dX12_packs_10 (by decide) (by decide) ?_
  refine z_lload_n b dX12_packs_13 rfl rfl ?_
  refine z_iconst (v := 4) b dX12_packs_14 (by decide) ?_
  refine z_lshl (v := 0) b dX12_packs_15 (by decide) ?_
  refine z_aload_n b dX12_packs_16 rfl rfl ?_
  refine z_get (q0 := 0) (k9 := 0) (v := .ref (a 1)) b (mw_0 cy a S) rfl in_X12 (by decide) wf_X12_13 rfl dX12_packs_17 ?_
  refine z_iload_n b dX12_packs_20 rfl rfl ?_
  refine y_iald (q0 := 1) (j := 0) (v := (ar S 0 0)) b (mw_1 cy a S) (by decide) rfl dX12_packs_21 ?_
  refine z_eqi h_a_0_0 ?_
  refine z_i2l (v := 0) b dX12_packs_22 (by decide) ?_
  refine z_lor (v := 0) b dX12_packs_23 (by decide) ?_
  refine z_lstore_n (lv' := [(1, .long 0), (3, .int 0), (0, .ref (a 0))]) b dX12_packs_24 rfl (by decide) rfl ?_
  refine z_lload_n b dX12_packs_25 rfl rfl ?_
  refine z_iconst (v := 2) b dX12_packs_26 (by decide) ?_
  refine z_lshl (v := 0) b dX12_packs_27 (by decide) ?_
  refine z_aload_n b dX12_packs_28 rfl rfl ?_
  refine z_get (q0 := 0) (k9 := 2) (v := .ref (a 3)) b (mw_0 cy a S) rfl in_X12 (by decide) wf_X12_20 rfl dX12_packs_29 ?_
  refine z_iload_n b dX12_packs_32 rfl rfl ?_
  refine y_iald (q0 := 3) (j := 0) (v := (ar S 2 0)) b (mw_3 cy a S) (by decide) rfl dX12_packs_33 ?_
  refine z_eqi h_a_2_0 ?_
  refine z_i2l (v := 3) b dX12_packs_34 (by decide) ?_
  refine z_lor (v := 3) b dX12_packs_35 (by decide) ?_
  refine z_lstore_n (lv' := [(1, .long 3), (3, .int 0), (0, .ref (a 0))]) b dX12_packs_36 rfl (by decide) rfl ?_
  refine z_lload_n b dX12_packs_37 rfl rfl ?_
  refine z_iconst (v := 1) b dX12_packs_38 (by decide) ?_
  refine z_lshl (v := 6) b dX12_packs_39 (by decide) ?_
  refine z_aload_n b dX12_packs_40 rfl rfl ?_
  refine z_get (q0 := 0) (k9 := 3) (v := .ref (a 4)) b (mw_0 cy a S) rfl in_X12 (by decide) wf_X12_23 rfl dX12_packs_41 ?_
  refine z_iconst (v := 3) b dX12_packs_44 (by decide) ?_
  refine z_iload_n b dX12_packs_45 rfl rfl ?_
  refine z_imul (v := 0) b dX12_packs_46 (by decide) ?_
  refine z_iload_n b dX12_packs_47 rfl rfl ?_
  refine z_iconst (v := 0) b dX12_packs_48 (by decide) ?_
  refine z_calli b (z_runS (As := [.int 0, .int 0]) (st := [.int 0, .ref (a 4), .long 6]) b (c_X12_other_6 S ) cf_X12_other wm_X12_160 ws_X12_other dX12_packs_49 rfl (Nat.le_of_ble_eq_true rfl) ⟨by decide, by decide, by decide, by decide⟩) (fun r3561 u3562 h3560 => ?_)
  obtain ⟨rfl, rfl⟩ := h3560
  refine z_iadd (v := 1) b dX12_packs_52 (by decide) ?_
  refine y_zald (q0 := 4) (j := 1) (v := (ar S 3 1)) b (mw_4 cy a S) (by decide) rfl dX12_packs_53 ?_
  refine z_eqi h_a_3_1 ?_
  refine z_if_eq_t (tgt := 61) b dX12_packs_54 (by decide) (by decide) ?_
  refine z_lconst (v := 0) b dX12_packs_61 (by decide) ?_
  refine z_lor (v := 6) b dX12_packs_62 (by decide) ?_
  refine z_lstore_n (lv' := [(1, .long 6), (3, .int 0), (0, .ref (a 0))]) b dX12_packs_63 rfl (by decide) rfl ?_
  refine z_iconst (v := 0) b dX12_packs_64 (by decide) ?_
  refine z_istore (lv' := [(4, .int 0), (1, .long 6), (3, .int 0), (0, .ref (a 0))]) b dX12_packs_65 (by decide) rfl ?_
  refine z_iload b dX12_packs_67 rfl ?_
  refine z_iconst (v := 2) b dX12_packs_69 (by decide) ?_
  refine z_icmp_ge_f (tgt := 128) b dX12_packs_70 (by decide) (by decide) ?_
  refine z_lload_n b dX12_packs_73 rfl rfl ?_
  refine z_iconst (v := 3) b dX12_packs_74 (by decide) ?_
  refine z_lshl (v := 48) b dX12_packs_75 (by decide) ?_
  refine z_aload_n b dX12_packs_76 rfl rfl ?_
  refine z_get (q0 := 0) (k9 := 1) (v := .ref (a 2)) b (mw_0 cy a S) rfl in_X12 (by decide) wf_X12_17 rfl dX12_packs_77 ?_
  refine z_iconst (v := 3) b dX12_packs_80 (by decide) ?_
  refine z_iload_n b dX12_packs_81 rfl rfl ?_
  refine z_imul (v := 0) b dX12_packs_82 (by decide) ?_
  refine z_iload_n b dX12_packs_83 rfl rfl ?_
  refine z_iload b dX12_packs_84 rfl ?_
  refine z_calli b (z_runS (As := [.int 0, .int 0]) (st := [.int 0, .ref (a 2), .long 48]) b (c_X12_other_6 S ) cf_X12_other wm_X12_160 ws_X12_other dX12_packs_86 rfl (Nat.le_of_ble_eq_true rfl) ⟨by decide, by decide, by decide, by decide⟩) (fun r3564 u3565 h3563 => ?_)
  obtain ⟨rfl, rfl⟩ := h3563
  refine z_iadd (v := 1) b dX12_packs_89 (by decide) ?_
  refine y_iald (q0 := 2) (j := 1) (v := (ar S 1 1)) b (mw_2 cy a S) (by decide) rfl dX12_packs_90 ?_
  refine z_eqi h_a_1_1 ?_
  refine z_i2l (v := 0) b dX12_packs_91 (by decide) ?_
  refine z_lor (v := 48) b dX12_packs_92 (by decide) ?_
  refine z_lstore_n (lv' := [(1, .long 48), (4, .int 0), (3, .int 0), (0, .ref (a 0))]) b dX12_packs_93 rfl (by decide) rfl ?_
  refine z_lload_n b dX12_packs_94 rfl rfl ?_
  refine z_iconst (v := 1) b dX12_packs_95 (by decide) ?_
  refine z_lshl (v := 96) b dX12_packs_96 (by decide) ?_
  refine z_aload_n b dX12_packs_97 rfl rfl ?_
  refine z_get (q0 := 0) (k9 := 4) (v := .ref (a 5)) b (mw_0 cy a S) rfl in_X12 (by decide) wf_X12_27 rfl dX12_packs_98 ?_
  refine z_iconst (v := 3) b dX12_packs_101 (by decide) ?_
  refine z_iload_n b dX12_packs_102 rfl rfl ?_
  refine z_imul (v := 0) b dX12_packs_103 (by decide) ?_
  refine z_iload_n b dX12_packs_104 rfl rfl ?_
  refine z_iload b dX12_packs_105 rfl ?_
  refine z_calli b (z_runS (As := [.int 0, .int 0]) (st := [.int 0, .ref (a 5), .long 96]) b (c_X12_other_6 S ) cf_X12_other wm_X12_160 ws_X12_other dX12_packs_107 rfl (Nat.le_of_ble_eq_true rfl) ⟨by decide, by decide, by decide, by decide⟩) (fun r3567 u3568 h3566 => ?_)
  obtain ⟨rfl, rfl⟩ := h3566
  refine z_iadd (v := 1) b dX12_packs_110 (by decide) ?_
  refine y_zald (q0 := 5) (j := 1) (v := (ar S 4 1)) b (mw_5 cy a S) (by decide) rfl dX12_packs_111 ?_
  refine z_eqi h_a_4_1 ?_
  refine z_if_eq_t (tgt := 119) b dX12_packs_112 (by decide) (by decide) ?_
  refine z_lconst (v := 0) b dX12_packs_119 (by decide) ?_
  refine z_lor (v := 96) b dX12_packs_120 (by decide) ?_
  refine z_lstore_n (lv' := [(1, .long 96), (4, .int 0), (3, .int 0), (0, .ref (a 0))]) b dX12_packs_121 rfl (by decide) rfl ?_
  refine z_iinc (k9 := 1) (v := 1) (lv' := [(4, .int 1), (1, .long 96), (3, .int 0), (0, .ref (a 0))]) b dX12_packs_122 rfl (by decide) (by decide) rfl ?_
  refine z_goto (tgt := 67) b dX12_packs_125 (by decide) ?_
  refine z_iload b dX12_packs_67 rfl ?_
  refine z_iconst (v := 2) b dX12_packs_69 (by decide) ?_
  refine z_icmp_ge_f (tgt := 128) b dX12_packs_70 (by decide) (by decide) ?_
  refine z_lload_n b dX12_packs_73 rfl rfl ?_
  refine z_iconst (v := 3) b dX12_packs_74 (by decide) ?_
  refine z_lshl (v := 768) b dX12_packs_75 (by decide) ?_
  refine z_aload_n b dX12_packs_76 rfl rfl ?_
  refine z_get (q0 := 0) (k9 := 1) (v := .ref (a 2)) b (mw_0 cy a S) rfl in_X12 (by decide) wf_X12_17 rfl dX12_packs_77 ?_
  refine z_iconst (v := 3) b dX12_packs_80 (by decide) ?_
  refine z_iload_n b dX12_packs_81 rfl rfl ?_
  refine z_imul (v := 0) b dX12_packs_82 (by decide) ?_
  refine z_iload_n b dX12_packs_83 rfl rfl ?_
  refine z_iload b dX12_packs_84 rfl ?_
  refine z_calli b (z_runS (As := [.int 0, .int 1]) (st := [.int 0, .ref (a 2), .long 768]) b (c_X12_other_5 S ) cf_X12_other wm_X12_160 ws_X12_other dX12_packs_86 rfl (Nat.le_of_ble_eq_true rfl) ⟨by decide, by decide, by decide, by decide⟩) (fun r3570 u3571 h3569 => ?_)
  obtain ⟨rfl, rfl⟩ := h3569
  refine z_iadd (v := 2) b dX12_packs_89 (by decide) ?_
  refine y_iald (q0 := 2) (j := 2) (v := (ar S 1 2)) b (mw_2 cy a S) (by decide) rfl dX12_packs_90 ?_
  refine z_eqi h_a_1_2 ?_
  refine z_i2l (v := 0) b dX12_packs_91 (by decide) ?_
  refine z_lor (v := 768) b dX12_packs_92 (by decide) ?_
  refine z_lstore_n (lv' := [(1, .long 768), (4, .int 1), (3, .int 0), (0, .ref (a 0))]) b dX12_packs_93 rfl (by decide) rfl ?_
  refine z_lload_n b dX12_packs_94 rfl rfl ?_
  refine z_iconst (v := 1) b dX12_packs_95 (by decide) ?_
  refine z_lshl (v := 1536) b dX12_packs_96 (by decide) ?_
  refine z_aload_n b dX12_packs_97 rfl rfl ?_
  refine z_get (q0 := 0) (k9 := 4) (v := .ref (a 5)) b (mw_0 cy a S) rfl in_X12 (by decide) wf_X12_27 rfl dX12_packs_98 ?_
  refine z_iconst (v := 3) b dX12_packs_101 (by decide) ?_
  refine z_iload_n b dX12_packs_102 rfl rfl ?_
  refine z_imul (v := 0) b dX12_packs_103 (by decide) ?_
  refine z_iload_n b dX12_packs_104 rfl rfl ?_
  refine z_iload b dX12_packs_105 rfl ?_
  refine z_calli b (z_runS (As := [.int 0, .int 1]) (st := [.int 0, .ref (a 5), .long 1536]) b (c_X12_other_5 S ) cf_X12_other wm_X12_160 ws_X12_other dX12_packs_107 rfl (Nat.le_of_ble_eq_true rfl) ⟨by decide, by decide, by decide, by decide⟩) (fun r3573 u3574 h3572 => ?_)
  obtain ⟨rfl, rfl⟩ := h3572
  refine z_iadd (v := 2) b dX12_packs_110 (by decide) ?_
  refine y_zald (q0 := 5) (j := 2) (v := (ar S 4 2)) b (mw_5 cy a S) (by decide) rfl dX12_packs_111 ?_
  refine z_eqi h_a_4_2 ?_
  refine z_if_eq_t (tgt := 119) b dX12_packs_112 (by decide) (by decide) ?_
  refine z_lconst (v := 0) b dX12_packs_119 (by decide) ?_
  refine z_lor (v := 1536) b dX12_packs_120 (by decide) ?_
  refine z_lstore_n (lv' := [(1, .long 1536), (4, .int 1), (3, .int 0), (0, .ref (a 0))]) b dX12_packs_121 rfl (by decide) rfl ?_
  refine z_iinc (k9 := 1) (v := 2) (lv' := [(4, .int 2), (1, .long 1536), (3, .int 0), (0, .ref (a 0))]) b dX12_packs_122 rfl (by decide) (by decide) rfl ?_
  refine z_goto (tgt := 67) b dX12_packs_125 (by decide) ?_
  refine z_iload b dX12_packs_67 rfl ?_
  refine z_iconst (v := 2) b dX12_packs_69 (by decide) ?_
  refine z_icmp_ge_t (tgt := 128) b dX12_packs_70 (by decide) (by decide) ?_
  refine z_iinc (k9 := 2) (v := 1) (lv' := [(3, .int 1), (4, .int 2), (1, .long 1536), (0, .ref (a 0))]) b dX12_packs_128 rfl (by decide) (by decide) rfl ?_
  refine z_goto (tgt := 8) b dX12_packs_131 (by decide) ?_
  refine z_iload_n b dX12_packs_8 rfl rfl ?_
  refine z_iconst (v := 3) b dX12_packs_9 (by decide) ?_
  refine z_icmp_ge_f (tgt := 134) b dX12_packs_10 (by decide) (by decide) ?_
  refine z_lload_n b dX12_packs_13 rfl rfl ?_
  refine z_iconst (v := 4) b dX12_packs_14 (by decide) ?_
  refine z_lshl (v := 24576) b dX12_packs_15 (by decide) ?_
  refine z_aload_n b dX12_packs_16 rfl rfl ?_
  refine z_get (q0 := 0) (k9 := 0) (v := .ref (a 1)) b (mw_0 cy a S) rfl in_X12 (by decide) wf_X12_13 rfl dX12_packs_17 ?_
  refine z_iload_n b dX12_packs_20 rfl rfl ?_
  exact k

set_option maxHeartbeats 4000000 in
set_option maxRecDepth 100000 in
theorem ch_X12_packs_49 {p : Program} {l : Launch} {e : Env} {R : Room} {s : State} {m : MethodId} {args : Array Value} {below : List Frame} {meth : Method} {c : Code} {D : va_G} {cy : Nat → ClassId} {T0 tB tE : Nat} {A : Nat → Prop} {Q : State → Prop} {a : Nat → Nat} (S : GS)  (h_a_0_1 : ar S 0 1 = 0) (h_a_0_2 : ar S 0 2 = 0) (h_a_1_3 : ar S 1 3 = 0) (h_a_1_5 : ar S 1 5 = 0) (h_a_2_1 : ar S 2 1 = 3) (h_a_2_2 : ar S 2 2 = 3) (h_a_3_5 : ar S 3 5 = 0) (h_a_4_3 : ar S 4 3 = 0) (h_a_4_5 : ar S 4 5 = 0) (b : Bz p R s m args meth c D cy T0 tB tE A 5 cX12_packs RX12 (some .long) "packs" 1 21 0 0) (k : Z p l e R s m args below meth c D A 5 Q 0 0 (mw cy a S) [(1, .long 3221323779), (3, .int 2), (4, .int 2), (0, .ref (a 0))] 37 []) : Z p l e R s m args below meth c D A 5 Q 0 0 (mw cy a S) [(3, .int 1), (4, .int 2), (1, .long 1536), (0, .ref (a 0))] 21 [.int 1, .ref (a 1), .long 24576] := by
  refine y_iald (q0 := 1) (j := 1) (v := (ar S 0 1)) b (mw_1 cy a S) (by decide) rfl dX12_packs_21 ?_
  refine z_eqi h_a_0_1 ?_
  refine z_i2l (v := 0) b dX12_packs_22 (by decide) ?_
  refine z_lor (v := 24576) b dX12_packs_23 (by decide) ?_
  refine z_lstore_n (lv' := [(1, .long 24576), (3, .int 1), (4, .int 2), (0, .ref (a 0))]) b dX12_packs_24 rfl (by decide) rfl ?_
  refine z_lload_n b dX12_packs_25 rfl rfl ?_
  refine z_iconst (v := 2) b dX12_packs_26 (by decide) ?_
  refine z_lshl (v := 98304) b dX12_packs_27 (by decide) ?_
  refine z_aload_n b dX12_packs_28 rfl rfl ?_
  refine z_get (q0 := 0) (k9 := 2) (v := .ref (a 3)) b (mw_0 cy a S) rfl in_X12 (by decide) wf_X12_20 rfl dX12_packs_29 ?_
  refine z_iload_n b dX12_packs_32 rfl rfl ?_
  refine y_iald (q0 := 3) (j := 1) (v := (ar S 2 1)) b (mw_3 cy a S) (by decide) rfl dX12_packs_33 ?_
  refine z_eqi h_a_2_1 ?_
  refine z_i2l (v := 3) b dX12_packs_34 (by decide) ?_
  refine z_lor (v := 98307) b dX12_packs_35 (by decide) ?_
  refine z_lstore_n (lv' := [(1, .long 98307), (3, .int 1), (4, .int 2), (0, .ref (a 0))]) b dX12_packs_36 rfl (by decide) rfl ?_
  refine z_lload_n b dX12_packs_37 rfl rfl ?_
  refine z_iconst (v := 1) b dX12_packs_38 (by decide) ?_
  refine z_lshl (v := 196614) b dX12_packs_39 (by decide) ?_
  refine z_aload_n b dX12_packs_40 rfl rfl ?_
  refine z_get (q0 := 0) (k9 := 3) (v := .ref (a 4)) b (mw_0 cy a S) rfl in_X12 (by decide) wf_X12_23 rfl dX12_packs_41 ?_
  refine z_iconst (v := 3) b dX12_packs_44 (by decide) ?_
  refine z_iload_n b dX12_packs_45 rfl rfl ?_
  refine z_imul (v := 3) b dX12_packs_46 (by decide) ?_
  refine z_iload_n b dX12_packs_47 rfl rfl ?_
  refine z_iconst (v := 0) b dX12_packs_48 (by decide) ?_
  refine z_calli b (z_runS (As := [.int 1, .int 0]) (st := [.int 3, .ref (a 4), .long 196614]) b (c_X12_other_4 S ) cf_X12_other wm_X12_160 ws_X12_other dX12_packs_49 rfl (Nat.le_of_ble_eq_true rfl) ⟨by decide, by decide, by decide, by decide⟩) (fun r3576 u3577 h3575 => ?_)
  obtain ⟨rfl, rfl⟩ := h3575
  refine z_iadd (v := 5) b dX12_packs_52 (by decide) ?_
  refine y_zald (q0 := 4) (j := 5) (v := (ar S 3 5)) b (mw_4 cy a S) (by decide) rfl dX12_packs_53 ?_
  refine z_eqi h_a_3_5 ?_
  refine z_if_eq_t (tgt := 61) b dX12_packs_54 (by decide) (by decide) ?_
  refine z_lconst (v := 0) b dX12_packs_61 (by decide) ?_
  refine z_lor (v := 196614) b dX12_packs_62 (by decide) ?_
  refine z_lstore_n (lv' := [(1, .long 196614), (3, .int 1), (4, .int 2), (0, .ref (a 0))]) b dX12_packs_63 rfl (by decide) rfl ?_
  refine z_iconst (v := 0) b dX12_packs_64 (by decide) ?_
  refine z_istore (lv' := [(4, .int 0), (1, .long 196614), (3, .int 1), (0, .ref (a 0))]) b dX12_packs_65 (by decide) rfl ?_
  refine z_iload b dX12_packs_67 rfl ?_
  refine z_iconst (v := 2) b dX12_packs_69 (by decide) ?_
  refine z_icmp_ge_f (tgt := 128) b dX12_packs_70 (by decide) (by decide) ?_
  refine z_lload_n b dX12_packs_73 rfl rfl ?_
  refine z_iconst (v := 3) b dX12_packs_74 (by decide) ?_
  refine z_lshl (v := 1572912) b dX12_packs_75 (by decide) ?_
  refine z_aload_n b dX12_packs_76 rfl rfl ?_
  refine z_get (q0 := 0) (k9 := 1) (v := .ref (a 2)) b (mw_0 cy a S) rfl in_X12 (by decide) wf_X12_17 rfl dX12_packs_77 ?_
  refine z_iconst (v := 3) b dX12_packs_80 (by decide) ?_
  refine z_iload_n b dX12_packs_81 rfl rfl ?_
  refine z_imul (v := 3) b dX12_packs_82 (by decide) ?_
  refine z_iload_n b dX12_packs_83 rfl rfl ?_
  refine z_iload b dX12_packs_84 rfl ?_
  refine z_calli b (z_runS (As := [.int 1, .int 0]) (st := [.int 3, .ref (a 2), .long 1572912]) b (c_X12_other_4 S ) cf_X12_other wm_X12_160 ws_X12_other dX12_packs_86 rfl (Nat.le_of_ble_eq_true rfl) ⟨by decide, by decide, by decide, by decide⟩) (fun r3579 u3580 h3578 => ?_)
  obtain ⟨rfl, rfl⟩ := h3578
  refine z_iadd (v := 5) b dX12_packs_89 (by decide) ?_
  refine y_iald (q0 := 2) (j := 5) (v := (ar S 1 5)) b (mw_2 cy a S) (by decide) rfl dX12_packs_90 ?_
  refine z_eqi h_a_1_5 ?_
  refine z_i2l (v := 0) b dX12_packs_91 (by decide) ?_
  refine z_lor (v := 1572912) b dX12_packs_92 (by decide) ?_
  refine z_lstore_n (lv' := [(1, .long 1572912), (4, .int 0), (3, .int 1), (0, .ref (a 0))]) b dX12_packs_93 rfl (by decide) rfl ?_
  refine z_lload_n b dX12_packs_94 rfl rfl ?_
  refine z_iconst (v := 1) b dX12_packs_95 (by decide) ?_
  refine z_lshl (v := 3145824) b dX12_packs_96 (by decide) ?_
  refine z_aload_n b dX12_packs_97 rfl rfl ?_
  refine z_get (q0 := 0) (k9 := 4) (v := .ref (a 5)) b (mw_0 cy a S) rfl in_X12 (by decide) wf_X12_27 rfl dX12_packs_98 ?_
  refine z_iconst (v := 3) b dX12_packs_101 (by decide) ?_
  refine z_iload_n b dX12_packs_102 rfl rfl ?_
  refine z_imul (v := 3) b dX12_packs_103 (by decide) ?_
  refine z_iload_n b dX12_packs_104 rfl rfl ?_
  refine z_iload b dX12_packs_105 rfl ?_
  refine z_calli b (z_runS (As := [.int 1, .int 0]) (st := [.int 3, .ref (a 5), .long 3145824]) b (c_X12_other_4 S ) cf_X12_other wm_X12_160 ws_X12_other dX12_packs_107 rfl (Nat.le_of_ble_eq_true rfl) ⟨by decide, by decide, by decide, by decide⟩) (fun r3582 u3583 h3581 => ?_)
  obtain ⟨rfl, rfl⟩ := h3581
  refine z_iadd (v := 5) b dX12_packs_110 (by decide) ?_
  refine y_zald (q0 := 5) (j := 5) (v := (ar S 4 5)) b (mw_5 cy a S) (by decide) rfl dX12_packs_111 ?_
  refine z_eqi h_a_4_5 ?_
  refine z_if_eq_t (tgt := 119) b dX12_packs_112 (by decide) (by decide) ?_
  refine z_lconst (v := 0) b dX12_packs_119 (by decide) ?_
  refine z_lor (v := 3145824) b dX12_packs_120 (by decide) ?_
  refine z_lstore_n (lv' := [(1, .long 3145824), (4, .int 0), (3, .int 1), (0, .ref (a 0))]) b dX12_packs_121 rfl (by decide) rfl ?_
  refine z_iinc (k9 := 1) (v := 1) (lv' := [(4, .int 1), (1, .long 3145824), (3, .int 1), (0, .ref (a 0))]) b dX12_packs_122 rfl (by decide) (by decide) rfl ?_
  refine z_goto (tgt := 67) b dX12_packs_125 (by decide) ?_
  refine z_iload b dX12_packs_67 rfl ?_
  refine z_iconst (v := 2) b dX12_packs_69 (by decide) ?_
  refine z_icmp_ge_f (tgt := 128) b dX12_packs_70 (by decide) (by decide) ?_
  refine z_lload_n b dX12_packs_73 rfl rfl ?_
  refine z_iconst (v := 3) b dX12_packs_74 (by decide) ?_
  refine z_lshl (v := 25166592) b dX12_packs_75 (by decide) ?_
  refine z_aload_n b dX12_packs_76 rfl rfl ?_
  refine z_get (q0 := 0) (k9 := 1) (v := .ref (a 2)) b (mw_0 cy a S) rfl in_X12 (by decide) wf_X12_17 rfl dX12_packs_77 ?_
  refine z_iconst (v := 3) b dX12_packs_80 (by decide) ?_
  refine z_iload_n b dX12_packs_81 rfl rfl ?_
  refine z_imul (v := 3) b dX12_packs_82 (by decide) ?_
  refine z_iload_n b dX12_packs_83 rfl rfl ?_
  refine z_iload b dX12_packs_84 rfl ?_
  refine z_calli b (z_runS (As := [.int 1, .int 1]) (st := [.int 3, .ref (a 2), .long 25166592]) b (c_X12_other_3 S ) cf_X12_other wm_X12_160 ws_X12_other dX12_packs_86 rfl (Nat.le_of_ble_eq_true rfl) ⟨by decide, by decide, by decide, by decide⟩) (fun r3585 u3586 h3584 => ?_)
  obtain ⟨rfl, rfl⟩ := h3584
  refine z_iadd (v := 3) b dX12_packs_89 (by decide) ?_
  refine y_iald (q0 := 2) (j := 3) (v := (ar S 1 3)) b (mw_2 cy a S) (by decide) rfl dX12_packs_90 ?_
  refine z_eqi h_a_1_3 ?_
  refine z_i2l (v := 0) b dX12_packs_91 (by decide) ?_
  refine z_lor (v := 25166592) b dX12_packs_92 (by decide) ?_
  refine z_lstore_n (lv' := [(1, .long 25166592), (4, .int 1), (3, .int 1), (0, .ref (a 0))]) b dX12_packs_93 rfl (by decide) rfl ?_
  refine z_lload_n b dX12_packs_94 rfl rfl ?_
  refine z_iconst (v := 1) b dX12_packs_95 (by decide) ?_
  refine z_lshl (v := 50333184) b dX12_packs_96 (by decide) ?_
  refine z_aload_n b dX12_packs_97 rfl rfl ?_
  refine z_get (q0 := 0) (k9 := 4) (v := .ref (a 5)) b (mw_0 cy a S) rfl in_X12 (by decide) wf_X12_27 rfl dX12_packs_98 ?_
  refine z_iconst (v := 3) b dX12_packs_101 (by decide) ?_
  refine z_iload_n b dX12_packs_102 rfl rfl ?_
  refine z_imul (v := 3) b dX12_packs_103 (by decide) ?_
  refine z_iload_n b dX12_packs_104 rfl rfl ?_
  refine z_iload b dX12_packs_105 rfl ?_
  refine z_calli b (z_runS (As := [.int 1, .int 1]) (st := [.int 3, .ref (a 5), .long 50333184]) b (c_X12_other_3 S ) cf_X12_other wm_X12_160 ws_X12_other dX12_packs_107 rfl (Nat.le_of_ble_eq_true rfl) ⟨by decide, by decide, by decide, by decide⟩) (fun r3588 u3589 h3587 => ?_)
  obtain ⟨rfl, rfl⟩ := h3587
  refine z_iadd (v := 3) b dX12_packs_110 (by decide) ?_
  refine y_zald (q0 := 5) (j := 3) (v := (ar S 4 3)) b (mw_5 cy a S) (by decide) rfl dX12_packs_111 ?_
  refine z_eqi h_a_4_3 ?_
  refine z_if_eq_t (tgt := 119) b dX12_packs_112 (by decide) (by decide) ?_
  refine z_lconst (v := 0) b dX12_packs_119 (by decide) ?_
  refine z_lor (v := 50333184) b dX12_packs_120 (by decide) ?_
  refine z_lstore_n (lv' := [(1, .long 50333184), (4, .int 1), (3, .int 1), (0, .ref (a 0))]) b dX12_packs_121 rfl (by decide) rfl ?_
  refine z_iinc (k9 := 1) (v := 2) (lv' := [(4, .int 2), (1, .long 50333184), (3, .int 1), (0, .ref (a 0))]) b dX12_packs_122 rfl (by decide) (by decide) rfl ?_
  refine z_goto (tgt := 67) b dX12_packs_125 (by decide) ?_
  refine z_iload b dX12_packs_67 rfl ?_
  refine z_iconst (v := 2) b dX12_packs_69 (by decide) ?_
  refine z_icmp_ge_t (tgt := 128) b dX12_packs_70 (by decide) (by decide) ?_
  refine z_iinc (k9 := 2) (v := 2) (lv' := [(3, .int 2), (4, .int 2), (1, .long 50333184), (0, .ref (a 0))]) b dX12_packs_128 rfl (by decide) (by decide) rfl ?_
  refine z_goto (tgt := 8) b dX12_packs_131 (by decide) ?_
  refine z_iload_n b dX12_packs_8 rfl rfl ?_
  refine z_iconst (v := 3) b dX12_packs_9 (by decide) ?_
  refine z_icmp_ge_f (tgt := 134) b dX12_packs_10 (by decide) (by decide) ?_
  refine z_lload_n b dX12_packs_13 rfl rfl ?_
  refine z_iconst (v := 4) b dX12_packs_14 (by decide) ?_
  refine z_lshl (v := 805330944) b dX12_packs_15 (by decide) ?_
  refine z_aload_n b dX12_packs_16 rfl rfl ?_
  refine z_get (q0 := 0) (k9 := 0) (v := .ref (a 1)) b (mw_0 cy a S) rfl in_X12 (by decide) wf_X12_13 rfl dX12_packs_17 ?_
  refine z_iload_n b dX12_packs_20 rfl rfl ?_
  refine y_iald (q0 := 1) (j := 2) (v := (ar S 0 2)) b (mw_1 cy a S) (by decide) rfl dX12_packs_21 ?_
  refine z_eqi h_a_0_2 ?_
  refine z_i2l (v := 0) b dX12_packs_22 (by decide) ?_
  refine z_lor (v := 805330944) b dX12_packs_23 (by decide) ?_
  refine z_lstore_n (lv' := [(1, .long 805330944), (3, .int 2), (4, .int 2), (0, .ref (a 0))]) b dX12_packs_24 rfl (by decide) rfl ?_
  refine z_lload_n b dX12_packs_25 rfl rfl ?_
  refine z_iconst (v := 2) b dX12_packs_26 (by decide) ?_
  refine z_lshl (v := 3221323776) b dX12_packs_27 (by decide) ?_
  refine z_aload_n b dX12_packs_28 rfl rfl ?_
  refine z_get (q0 := 0) (k9 := 2) (v := .ref (a 3)) b (mw_0 cy a S) rfl in_X12 (by decide) wf_X12_20 rfl dX12_packs_29 ?_
  refine z_iload_n b dX12_packs_32 rfl rfl ?_
  refine y_iald (q0 := 3) (j := 2) (v := (ar S 2 2)) b (mw_3 cy a S) (by decide) rfl dX12_packs_33 ?_
  refine z_eqi h_a_2_2 ?_
  refine z_i2l (v := 3) b dX12_packs_34 (by decide) ?_
  refine z_lor (v := 3221323779) b dX12_packs_35 (by decide) ?_
  refine z_lstore_n (lv' := [(1, .long 3221323779), (3, .int 2), (4, .int 2), (0, .ref (a 0))]) b dX12_packs_36 rfl (by decide) rfl ?_
  exact k

set_option maxHeartbeats 4000000 in
set_option maxRecDepth 100000 in
theorem c_X12_packs_23 {l : Launch} {D : va_G} {cy : Nat → ClassId} {T0 tB tE : Nat} {a : Nat → Nat} (S : GS)  (h_i_0 : fi S 0 = 0) (h_a_0_0 : ar S 0 0 = 0) (h_a_2_0 : ar S 2 0 = 3) (h_a_3_1 : ar S 3 1 = 0) (h_a_1_1 : ar S 1 1 = 0) (h_a_4_1 : ar S 4 1 = 0) (h_a_1_2 : ar S 1 2 = 0) (h_a_4_2 : ar S 4 2 = 0) (h_a_0_1 : ar S 0 1 = 0) (h_a_2_1 : ar S 2 1 = 3) (h_a_3_5 : ar S 3 5 = 0) (h_a_1_5 : ar S 1 5 = 0) (h_a_4_5 : ar S 4 5 = 0) (h_a_1_3 : ar S 1 3 = 0) (h_a_4_3 : ar S 4 3 = 0) (h_a_0_2 : ar S 0 2 = 0) (h_a_2_2 : ar S 2 2 = 3) (h_a_3_6 : ar S 3 6 = 0) (h_a_1_6 : ar S 1 6 = 0) (h_a_4_6 : ar S 4 6 = 0) (h_a_1_7 : ar S 1 7 = 0) (h_a_4_7 : ar S 4 7 = 1) : Ct l D cy T0 tB tE yX12_packs cX12_packs 5 (some .long) 1 21 0 0 (mw cy a S) [.ref (a 0)] (QL D (U := GS) (fun r u => 1649317774849 = r ∧ S = u) (mw cy a)) := by
  refine Ct.ofZ RX12 "packs" [(0, .ref (a 0))] rfl rfl rfl rfl (Nat.le_of_ble_eq_true rfl) ?_
  intro p e R s m args below meth c A b
  refine ch_X12_packs_48 S  h_a_0_0 h_a_1_1 h_a_1_2 h_a_2_0 h_a_3_1 h_a_4_1 h_a_4_2 h_i_0  b ?_
  refine ch_X12_packs_49 S  h_a_0_1 h_a_0_2 h_a_1_3 h_a_1_5 h_a_2_1 h_a_2_2 h_a_3_5 h_a_4_3 h_a_4_5  b ?_
  refine z_lload_n b dX12_packs_37 rfl rfl ?_
  refine z_iconst (v := 1) b dX12_packs_38 (by decide) ?_
  refine z_lshl (v := 6442647558) b dX12_packs_39 (by decide) ?_
  refine z_aload_n b dX12_packs_40 rfl rfl ?_
  refine z_get (q0 := 0) (k9 := 3) (v := .ref (a 4)) b (mw_0 cy a S) rfl in_X12 (by decide) wf_X12_23 rfl dX12_packs_41 ?_
  refine z_iconst (v := 3) b dX12_packs_44 (by decide) ?_
  refine z_iload_n b dX12_packs_45 rfl rfl ?_
  refine z_imul (v := 6) b dX12_packs_46 (by decide) ?_
  refine z_iload_n b dX12_packs_47 rfl rfl ?_
  refine z_iconst (v := 0) b dX12_packs_48 (by decide) ?_
  refine z_calli b (z_runS (As := [.int 2, .int 0]) (st := [.int 6, .ref (a 4), .long 6442647558]) b (c_X12_other_2 S ) cf_X12_other wm_X12_160 ws_X12_other dX12_packs_49 rfl (Nat.le_of_ble_eq_true rfl) ⟨by decide, by decide, by decide, by decide⟩) (fun r3591 u3592 h3590 => ?_)
  obtain ⟨rfl, rfl⟩ := h3590
  refine z_iadd (v := 6) b dX12_packs_52 (by decide) ?_
  refine y_zald (q0 := 4) (j := 6) (v := (ar S 3 6)) b (mw_4 cy a S) (by decide) rfl dX12_packs_53 ?_
  refine z_eqi h_a_3_6 ?_
  refine z_if_eq_t (tgt := 61) b dX12_packs_54 (by decide) (by decide) ?_
  refine z_lconst (v := 0) b dX12_packs_61 (by decide) ?_
  refine z_lor (v := 6442647558) b dX12_packs_62 (by decide) ?_
  refine z_lstore_n (lv' := [(1, .long 6442647558), (3, .int 2), (4, .int 2), (0, .ref (a 0))]) b dX12_packs_63 rfl (by decide) rfl ?_
  refine z_iconst (v := 0) b dX12_packs_64 (by decide) ?_
  refine z_istore (lv' := [(4, .int 0), (1, .long 6442647558), (3, .int 2), (0, .ref (a 0))]) b dX12_packs_65 (by decide) rfl ?_
  refine z_iload b dX12_packs_67 rfl ?_
  refine z_iconst (v := 2) b dX12_packs_69 (by decide) ?_
  refine z_icmp_ge_f (tgt := 128) b dX12_packs_70 (by decide) (by decide) ?_
  refine z_lload_n b dX12_packs_73 rfl rfl ?_
  refine z_iconst (v := 3) b dX12_packs_74 (by decide) ?_
  refine z_lshl (v := 51541180464) b dX12_packs_75 (by decide) ?_
  refine z_aload_n b dX12_packs_76 rfl rfl ?_
  refine z_get (q0 := 0) (k9 := 1) (v := .ref (a 2)) b (mw_0 cy a S) rfl in_X12 (by decide) wf_X12_17 rfl dX12_packs_77 ?_
  refine z_iconst (v := 3) b dX12_packs_80 (by decide) ?_
  refine z_iload_n b dX12_packs_81 rfl rfl ?_
  refine z_imul (v := 6) b dX12_packs_82 (by decide) ?_
  refine z_iload_n b dX12_packs_83 rfl rfl ?_
  refine z_iload b dX12_packs_84 rfl ?_
  refine z_calli b (z_runS (As := [.int 2, .int 0]) (st := [.int 6, .ref (a 2), .long 51541180464]) b (c_X12_other_2 S ) cf_X12_other wm_X12_160 ws_X12_other dX12_packs_86 rfl (Nat.le_of_ble_eq_true rfl) ⟨by decide, by decide, by decide, by decide⟩) (fun r3594 u3595 h3593 => ?_)
  obtain ⟨rfl, rfl⟩ := h3593
  refine z_iadd (v := 6) b dX12_packs_89 (by decide) ?_
  refine y_iald (q0 := 2) (j := 6) (v := (ar S 1 6)) b (mw_2 cy a S) (by decide) rfl dX12_packs_90 ?_
  refine z_eqi h_a_1_6 ?_
  refine z_i2l (v := 0) b dX12_packs_91 (by decide) ?_
  refine z_lor (v := 51541180464) b dX12_packs_92 (by decide) ?_
  refine z_lstore_n (lv' := [(1, .long 51541180464), (4, .int 0), (3, .int 2), (0, .ref (a 0))]) b dX12_packs_93 rfl (by decide) rfl ?_
  refine z_lload_n b dX12_packs_94 rfl rfl ?_
  refine z_iconst (v := 1) b dX12_packs_95 (by decide) ?_
  refine z_lshl (v := 103082360928) b dX12_packs_96 (by decide) ?_
  refine z_aload_n b dX12_packs_97 rfl rfl ?_
  refine z_get (q0 := 0) (k9 := 4) (v := .ref (a 5)) b (mw_0 cy a S) rfl in_X12 (by decide) wf_X12_27 rfl dX12_packs_98 ?_
  refine z_iconst (v := 3) b dX12_packs_101 (by decide) ?_
  refine z_iload_n b dX12_packs_102 rfl rfl ?_
  refine z_imul (v := 6) b dX12_packs_103 (by decide) ?_
  refine z_iload_n b dX12_packs_104 rfl rfl ?_
  refine z_iload b dX12_packs_105 rfl ?_
  refine z_calli b (z_runS (As := [.int 2, .int 0]) (st := [.int 6, .ref (a 5), .long 103082360928]) b (c_X12_other_2 S ) cf_X12_other wm_X12_160 ws_X12_other dX12_packs_107 rfl (Nat.le_of_ble_eq_true rfl) ⟨by decide, by decide, by decide, by decide⟩) (fun r3597 u3598 h3596 => ?_)
  obtain ⟨rfl, rfl⟩ := h3596
  refine z_iadd (v := 6) b dX12_packs_110 (by decide) ?_
  refine y_zald (q0 := 5) (j := 6) (v := (ar S 4 6)) b (mw_5 cy a S) (by decide) rfl dX12_packs_111 ?_
  refine z_eqi h_a_4_6 ?_
  refine z_if_eq_t (tgt := 119) b dX12_packs_112 (by decide) (by decide) ?_
  refine z_lconst (v := 0) b dX12_packs_119 (by decide) ?_
  refine z_lor (v := 103082360928) b dX12_packs_120 (by decide) ?_
  refine z_lstore_n (lv' := [(1, .long 103082360928), (4, .int 0), (3, .int 2), (0, .ref (a 0))]) b dX12_packs_121 rfl (by decide) rfl ?_
  refine z_iinc (k9 := 1) (v := 1) (lv' := [(4, .int 1), (1, .long 103082360928), (3, .int 2), (0, .ref (a 0))]) b dX12_packs_122 rfl (by decide) (by decide) rfl ?_
  refine z_goto (tgt := 67) b dX12_packs_125 (by decide) ?_
  refine z_iload b dX12_packs_67 rfl ?_
  refine z_iconst (v := 2) b dX12_packs_69 (by decide) ?_
  refine z_icmp_ge_f (tgt := 128) b dX12_packs_70 (by decide) (by decide) ?_
  refine z_lload_n b dX12_packs_73 rfl rfl ?_
  refine z_iconst (v := 3) b dX12_packs_74 (by decide) ?_
  refine z_lshl (v := 824658887424) b dX12_packs_75 (by decide) ?_
  refine z_aload_n b dX12_packs_76 rfl rfl ?_
  refine z_get (q0 := 0) (k9 := 1) (v := .ref (a 2)) b (mw_0 cy a S) rfl in_X12 (by decide) wf_X12_17 rfl dX12_packs_77 ?_
  refine z_iconst (v := 3) b dX12_packs_80 (by decide) ?_
  refine z_iload_n b dX12_packs_81 rfl rfl ?_
  refine z_imul (v := 6) b dX12_packs_82 (by decide) ?_
  refine z_iload_n b dX12_packs_83 rfl rfl ?_
  refine z_iload b dX12_packs_84 rfl ?_
  refine z_calli b (z_runS (As := [.int 2, .int 1]) (st := [.int 6, .ref (a 2), .long 824658887424]) b (c_X12_other S ) cf_X12_other wm_X12_160 ws_X12_other dX12_packs_86 rfl (Nat.le_of_ble_eq_true rfl) ⟨by decide, by decide, by decide, by decide⟩) (fun r3600 u3601 h3599 => ?_)
  obtain ⟨rfl, rfl⟩ := h3599
  refine z_iadd (v := 7) b dX12_packs_89 (by decide) ?_
  refine y_iald (q0 := 2) (j := 7) (v := (ar S 1 7)) b (mw_2 cy a S) (by decide) rfl dX12_packs_90 ?_
  refine z_eqi h_a_1_7 ?_
  refine z_i2l (v := 0) b dX12_packs_91 (by decide) ?_
  refine z_lor (v := 824658887424) b dX12_packs_92 (by decide) ?_
  refine z_lstore_n (lv' := [(1, .long 824658887424), (4, .int 1), (3, .int 2), (0, .ref (a 0))]) b dX12_packs_93 rfl (by decide) rfl ?_
  refine z_lload_n b dX12_packs_94 rfl rfl ?_
  refine z_iconst (v := 1) b dX12_packs_95 (by decide) ?_
  refine z_lshl (v := 1649317774848) b dX12_packs_96 (by decide) ?_
  refine z_aload_n b dX12_packs_97 rfl rfl ?_
  refine z_get (q0 := 0) (k9 := 4) (v := .ref (a 5)) b (mw_0 cy a S) rfl in_X12 (by decide) wf_X12_27 rfl dX12_packs_98 ?_
  refine z_iconst (v := 3) b dX12_packs_101 (by decide) ?_
  refine z_iload_n b dX12_packs_102 rfl rfl ?_
  refine z_imul (v := 6) b dX12_packs_103 (by decide) ?_
  refine z_iload_n b dX12_packs_104 rfl rfl ?_
  refine z_iload b dX12_packs_105 rfl ?_
  refine z_calli b (z_runS (As := [.int 2, .int 1]) (st := [.int 6, .ref (a 5), .long 1649317774848]) b (c_X12_other S ) cf_X12_other wm_X12_160 ws_X12_other dX12_packs_107 rfl (Nat.le_of_ble_eq_true rfl) ⟨by decide, by decide, by decide, by decide⟩) (fun r3603 u3604 h3602 => ?_)
  obtain ⟨rfl, rfl⟩ := h3602
  refine z_iadd (v := 7) b dX12_packs_110 (by decide) ?_
  refine y_zald (q0 := 5) (j := 7) (v := (ar S 4 7)) b (mw_5 cy a S) (by decide) rfl dX12_packs_111 ?_
  refine z_eqi h_a_4_7 ?_
  refine z_if_eq_f (tgt := 119) b dX12_packs_112 (by decide) (by decide) ?_
  refine z_lconst (v := 1) b dX12_packs_115 (by decide) ?_
  refine z_goto (tgt := 120) b dX12_packs_116 (by decide) ?_
  refine z_lor (v := 1649317774849) b dX12_packs_120 (by decide) ?_
  refine z_lstore_n (lv' := [(1, .long 1649317774849), (4, .int 1), (3, .int 2), (0, .ref (a 0))]) b dX12_packs_121 rfl (by decide) rfl ?_
  refine z_iinc (k9 := 1) (v := 2) (lv' := [(4, .int 2), (1, .long 1649317774849), (3, .int 2), (0, .ref (a 0))]) b dX12_packs_122 rfl (by decide) (by decide) rfl ?_
  refine z_goto (tgt := 67) b dX12_packs_125 (by decide) ?_
  refine z_iload b dX12_packs_67 rfl ?_
  refine z_iconst (v := 2) b dX12_packs_69 (by decide) ?_
  refine z_icmp_ge_t (tgt := 128) b dX12_packs_70 (by decide) (by decide) ?_
  refine z_iinc (k9 := 2) (v := 3) (lv' := [(3, .int 3), (4, .int 2), (1, .long 1649317774849), (0, .ref (a 0))]) b dX12_packs_128 rfl (by decide) (by decide) rfl ?_
  refine z_goto (tgt := 8) b dX12_packs_131 (by decide) ?_
  refine z_iload_n b dX12_packs_8 rfl rfl ?_
  refine z_iconst (v := 3) b dX12_packs_9 (by decide) ?_
  refine z_icmp_ge_t (tgt := 134) b dX12_packs_10 (by decide) (by decide) ?_
  refine z_lload_n b dX12_packs_134 rfl rfl ?_
  exact z_lret (u := S) b rfl dX12_packs_135 ⟨rfl, rfl⟩ rfl (by decide) (by decide)

set_option maxHeartbeats 4000000 in
set_option maxRecDepth 100000 in
theorem c_X12_told_23 {l : Launch} {D : va_G} {cy : Nat → ClassId} {T0 tB tE : Nat} {a : Nat → Nat} (S : GS)  (h_i_0 : fi S 0 = 0) (h_a_0_0 : ar S 0 0 = 0) (h_a_2_0 : ar S 2 0 = 3) (h_a_3_1 : ar S 3 1 = 0) (h_a_1_1 : ar S 1 1 = 0) (h_a_4_1 : ar S 4 1 = 0) (h_a_1_2 : ar S 1 2 = 0) (h_a_4_2 : ar S 4 2 = 0) (h_a_0_1 : ar S 0 1 = 0) (h_a_2_1 : ar S 2 1 = 3) (h_a_3_5 : ar S 3 5 = 0) (h_a_1_5 : ar S 1 5 = 0) (h_a_4_5 : ar S 4 5 = 0) (h_a_1_3 : ar S 1 3 = 0) (h_a_4_3 : ar S 4 3 = 0) (h_a_0_2 : ar S 0 2 = 0) (h_a_2_2 : ar S 2 2 = 3) (h_a_3_6 : ar S 3 6 = 0) (h_a_1_6 : ar S 1 6 = 0) (h_a_4_6 : ar S 4 6 = 0) (h_a_1_7 : ar S 1 7 = 0) (h_a_4_7 : ar S 4 7 = 1) : Ct l D cy T0 tB tE yX12_told cX12_told 1 (some .boolean) 2 45 0 0 (mw cy a S) [.ref (a 0)] (QI D (U := GS) (fun r u => 1 = r ∧ sl S 0 1649317774849 = u) (mw cy a)) := by
  refine Ct.ofZ RX12 "told" [(0, .ref (a 0))] rfl rfl rfl rfl (Nat.le_of_ble_eq_true rfl) ?_
  intro p e R s m args below meth c A b
  refine z_aload_n b dX12_told_0 rfl rfl ?_
  refine z_aload_n b dX12_told_1 rfl rfl ?_
  refine z_calll b (z_runV (q0 := 0) (As := []) (st := [.ref (a 0)]) b (c_X12_packs_23 S h_i_0 h_a_0_0 h_a_2_0 h_a_3_1 h_a_1_1 h_a_4_1 h_a_1_2 h_a_4_2 h_a_0_1 h_a_2_1 h_a_3_5 h_a_1_5 h_a_4_5 h_a_1_3 h_a_4_3 h_a_0_2 h_a_2_2 h_a_3_6 h_a_1_6 h_a_4_6 h_a_1_7 h_a_4_7) cf_X12_packs (mw_0 cy a S) rfl wm_X12_149 wi_X12_packs ws_X12_packs dX12_told_2 rfl (Nat.le_of_ble_eq_true rfl) ⟨by decide, by decide, by decide, by decide⟩) (fun r3606 u3607 h3605 => ?_)
  obtain ⟨rfl, rfl⟩ := h3605
  refine z_put (q0 := 0) (k9 := 6) tyX12 b (mw_0 cy a S) rfl in_X12 tyX12_ok nmX12 (by decide) wf_X12_153 rfl rfl rfl rfl (Nat.le_of_ble_eq_true rfl) dX12_told_5 (mwp_0_6 cy a S 1649317774849) ?_
  refine z_iconst (v := 1) b dX12_told_8 (by decide) ?_
  exact z_zret (u := (sl S 0 1649317774849)) b rfl (by decide) dX12_told_9 ⟨rfl, rfl⟩ rfl (by decide) (by decide)

set_option maxHeartbeats 4000000 in
set_option maxRecDepth 100000 in
theorem c_X12_kin_68 {l : Launch} {D : va_G} {cy : Nat → ClassId} {T0 tB tE : Nat} {a : Nat → Nat} (S : GS)  (h_l_0 : fl S 0 = 1649317774848) (h_a_4_7 : ar S 4 7 = 0) (h_a_1_7 : ar S 1 7 = 0) (h_a_4_6 : ar S 4 6 = 0) (h_a_1_6 : ar S 1 6 = 0) (h_a_3_6 : ar S 3 6 = 0) (h_a_3_2 : ar S 3 2 = 0) (h_a_2_2 : ar S 2 2 = 3) (h_a_0_2 : ar S 0 2 = 0) (h_a_4_3 : ar S 4 3 = 0) (h_a_1_3 : ar S 1 3 = 0) (h_a_4_5 : ar S 4 5 = 0) (h_a_1_5 : ar S 1 5 = 0) (h_a_3_5 : ar S 3 5 = 0) (h_a_3_7 : ar S 3 7 = 0) (h_a_2_1 : ar S 2 1 = 3) (h_a_0_1 : ar S 0 1 = 0) (h_a_4_2 : ar S 4 2 = 0) (h_a_1_2 : ar S 1 2 = 0) (h_a_4_1 : ar S 4 1 = 0) (h_a_1_1 : ar S 1 1 = 0) (h_a_3_1 : ar S 3 1 = 0) (h_a_3_3 : ar S 3 3 = 0) (h_a_2_0 : ar S 2 0 = 3) (h_a_0_0 : ar S 0 0 = 0) (h_i_0 : fi S 0 = 0) : Ct l D cy T0 tB tE yX12_kin cX12_kin 5 (some .boolean) 3 65 0 0 (mw cy a S) [.ref (a 0), .int 2, .int 1, .int 1, .int 1] (QI D (U := GS) (fun r u => 1 = r ∧ sl (su S 4 7 1) 0 1649317774849 = u) (mw cy a)) := by
  refine Ct.ofZ RX12 "kin" [(0, .ref (a 0)), (1, .int 2), (2, .int 1), (3, .int 1), (4, .int 1)] rfl rfl rfl rfl (Nat.le_of_ble_eq_true rfl) ?_
  intro p e R s m args below meth c A b
  refine z_iload_n b dX12_kin_0 rfl rfl ?_
  refine z_calli b (z_runS (As := [.int 2]) (st := []) b (c_X12_isOne_4 S ) cf_X12_isOne wm_X12_170 ws_X12_isOne dX12_kin_1 rfl (Nat.le_of_ble_eq_true rfl) ⟨by decide, by decide, by decide, by decide⟩) (fun r3549 u3550 h3548 => ?_)
  obtain ⟨rfl, rfl⟩ := h3548
  refine z_if_eq_f (tgt := 28) b dX12_kin_4 (by decide) (by decide) ?_
  refine z_iload_n b dX12_kin_7 rfl rfl ?_
  refine z_calli b (z_runS (As := [.int 1]) (st := []) b (c_X12_isOne_3 S ) cf_X12_isOne wm_X12_170 ws_X12_isOne dX12_kin_8 rfl (Nat.le_of_ble_eq_true rfl) ⟨by decide, by decide, by decide, by decide⟩) (fun r3552 u3553 h3551 => ?_)
  obtain ⟨rfl, rfl⟩ := h3551
  refine z_if_eq_f (tgt := 28) b dX12_kin_11 (by decide) (by decide) ?_
  refine z_iload_n b dX12_kin_14 rfl rfl ?_
  refine z_iload_n b dX12_kin_15 rfl rfl ?_
  refine z_icmp_eq_f (tgt := 28) b dX12_kin_16 (by decide) (by decide) ?_
  refine z_iload_n b dX12_kin_19 rfl rfl ?_
  refine z_iconst (v := 0) b dX12_kin_20 (by decide) ?_
  refine z_iconst (v := 1) b dX12_kin_21 (by decide) ?_
  refine z_calli b (z_runS (As := [.int 1, .int 0, .int 1]) (st := []) b (c_X12_isIn_10 S ) cf_X12_isIn wm_X12_1 ws_X12_isIn dX12_kin_22 rfl (Nat.le_of_ble_eq_true rfl) ⟨by decide, by decide, by decide, by decide⟩) (fun r3555 u3556 h3554 => ?_)
  obtain ⟨rfl, rfl⟩ := h3554
  refine z_if_ne_t (tgt := 30) b dX12_kin_25 (by decide) (by decide) ?_
  refine z_aload_n b dX12_kin_30 rfl rfl ?_
  refine z_aload_n b dX12_kin_31 rfl rfl ?_
  refine z_get (q0 := 0) (k9 := 6) (v := .long (fl S 0)) b (mw_0 cy a S) rfl in_X12 (by decide) wf_X12_153 rfl dX12_kin_32 ?_
  refine z_eql h_l_0 ?_
  refine z_callv b (z_runV (q0 := 0) (As := [.long 1649317774848]) (st := []) b (c_X12_takes S h_a_4_7 h_a_1_7 h_a_4_6 h_a_1_6 h_a_3_6 h_a_3_2 h_a_2_2 h_a_0_2 h_a_4_3 h_a_1_3 h_a_4_5 h_a_1_5 h_a_3_5 h_a_3_7 h_a_2_1 h_a_0_1 h_a_4_2 h_a_1_2 h_a_4_1 h_a_1_1 h_a_3_1 h_a_3_3 h_a_2_0 h_a_0_0 h_i_0) cf_X12_takes (mw_0 cy a S) rfl wm_X12_174 wi_X12_takes ws_X12_takes dX12_kin_35 rfl (Nat.le_of_ble_eq_true rfl) ⟨by decide, by decide, by decide, by decide⟩) (fun u3559 h3557 => ?_)
  obtain rfl := h3557
  refine z_iload_n b dX12_kin_38 rfl rfl ?_
  refine z_iconst (v := 1) b dX12_kin_39 (by decide) ?_
  refine z_icmp_ne_f (tgt := 58) b dX12_kin_40 (by decide) (by decide) ?_
  refine z_aload_n b dX12_kin_43 rfl rfl ?_
  refine z_get (q0 := 0) (k9 := 4) (v := .ref (a 5)) b (mw_0 cy a S) rfl in_X12 (by decide) wf_X12_27 rfl dX12_kin_44 ?_
  refine z_iconst (v := 3) b dX12_kin_47 (by decide) ?_
  refine z_iload_n b dX12_kin_48 rfl rfl ?_
  refine z_imul (v := 6) b dX12_kin_49 (by decide) ?_
  refine z_iload_n b dX12_kin_50 rfl rfl ?_
  refine z_iadd (v := 7) b dX12_kin_51 (by decide) ?_
  refine z_iload b dX12_kin_52 rfl ?_
  refine y_zast (q0 := 5) (j := 7) b (mw_5 cy a S) (by decide) (by decide) dX12_kin_54 (mwa_5 cy a S 7 1) ?_
  refine z_goto (tgt := 82) b dX12_kin_55 (by decide) ?_
  refine z_aload_n b dX12_kin_82 rfl rfl ?_
  refine z_calli b (z_runV (q0 := 0) (As := []) (st := []) b (c_X12_told_23 (su S 4 7 1) h_i_0 h_a_0_0 h_a_2_0 h_a_3_1 h_a_1_1 h_a_4_1 h_a_1_2 h_a_4_2 h_a_0_1 h_a_2_1 h_a_3_5 h_a_1_5 h_a_4_5 h_a_1_3 h_a_4_3 h_a_0_2 h_a_2_2 h_a_3_6 h_a_1_6 h_a_4_6 h_a_1_7 rfl) cf_X12_told (mw_0 cy a (su S 4 7 1)) rfl wm_X12_178 wi_X12_told ws_X12_told dX12_kin_83 rfl (Nat.le_of_ble_eq_true rfl) ⟨by decide, by decide, by decide, by decide⟩) (fun r3609 u3610 h3608 => ?_)
  obtain ⟨rfl, rfl⟩ := h3608
  exact z_zret (u := (sl (su S 4 7 1) 0 1649317774849)) b rfl (by decide) dX12_kin_86 ⟨rfl, rfl⟩ rfl (by decide) (by decide)

set_option maxHeartbeats 4000000 in
set_option maxRecDepth 100000 in
theorem c_X11_kin_69 {l : Launch} {D : va_G} {cy : Nat → ClassId} {T0 tB tE : Nat} {a : Nat → Nat} {rw : Nat → Option Nat} (S : GS) (p0 : Int32)  (hr_p0 : 2 ≤ p0.toInt ∧ p0.toInt ≤ 2147483647) : Ct l D cy T0 tB tE yX11_kin cX11_kin 6 (some .boolean) 2 41 0 0 (cw cy tE a rw S) [.ref (a 0), .int 2, .int 1, .int p0, .int 0] (QI D (U := GS) (fun r u => 0 = r ∧ S = u) (cw cy tE a rw)) := by
  refine Ct.ofZ RX11 "kin" [(0, .ref (a 0)), (1, .int 2), (2, .int 1), (3, .int p0), (4, .int 0)] rfl rfl rfl rfl (Nat.le_of_ble_eq_true rfl) ?_
  intro p e R s m args below meth c A b
  refine z_iload_n b dX11_kin_0 rfl rfl ?_
  refine z_iload_n b dX11_kin_1 rfl rfl ?_
  refine z_calli b (z_runS (As := [.int 2, .int 1]) (st := []) b (c_X11_arePair_13 S ) cf_X11_arePair wm_X11_84 ws_X11_arePair dX11_kin_2 rfl (Nat.le_of_ble_eq_true rfl) ⟨by decide, by decide, by decide, by decide⟩) (fun r3612 u3613 h3611 => ?_)
  obtain ⟨rfl, rfl⟩ := h3611
  refine z_if_eq_f (tgt := 16) b dX11_kin_5 (by decide) (by decide) ?_
  refine z_iload_n b dX11_kin_8 rfl rfl ?_
  refine z_iconst (v := 1) b dX11_kin_9 (by decide) ?_
  refine z_calli b (z_runS (As := [.int p0, .int 1]) (st := []) b (c_X11_isWithin_4 S p0 ) cf_X11_isWithin wm_X11_73 ws_X11_isWithin dX11_kin_10 rfl (Nat.le_of_ble_eq_true rfl) ⟨by decide, by decide, by decide, by decide⟩) (fun r3615 u3616 h3614 => ?_)
  rcases h3614 with ⟨c3617, rfl, rfl⟩ | ⟨c3618, rfl, rfl⟩
  · refine z_if_ne_f (tgt := 18) b dX11_kin_13 (by decide) (by decide) ?_
    refine z_iconst (v := 0) b dX11_kin_16 (by decide) ?_
    exact z_zret (u := S) b rfl (by decide) dX11_kin_17 ⟨rfl, rfl⟩ rfl (by decide) (by decide)
  · exfalso; omega

set_option maxHeartbeats 4000000 in
set_option maxRecDepth 100000 in
theorem c_X12_kin_69 {l : Launch} {D : va_G} {cy : Nat → ClassId} {T0 tB tE : Nat} {a : Nat → Nat} (S : GS) (p0 : Int32)  (hr_p0 : 2 ≤ p0.toInt ∧ p0.toInt ≤ 2147483647) : Ct l D cy T0 tB tE yX12_kin cX12_kin 5 (some .boolean) 2 42 0 0 (mw cy a S) [.ref (a 0), .int 2, .int 1, .int p0, .int 0] (QI D (U := GS) (fun r u => 0 = r ∧ S = u) (mw cy a)) := by
  refine Ct.ofZ RX12 "kin" [(0, .ref (a 0)), (1, .int 2), (2, .int 1), (3, .int p0), (4, .int 0)] rfl rfl rfl rfl (Nat.le_of_ble_eq_true rfl) ?_
  intro p e R s m args below meth c A b
  refine z_iload_n b dX12_kin_0 rfl rfl ?_
  refine z_calli b (z_runS (As := [.int 2]) (st := []) b (c_X12_isOne_4 S ) cf_X12_isOne wm_X12_170 ws_X12_isOne dX12_kin_1 rfl (Nat.le_of_ble_eq_true rfl) ⟨by decide, by decide, by decide, by decide⟩) (fun r3620 u3621 h3619 => ?_)
  obtain ⟨rfl, rfl⟩ := h3619
  refine z_if_eq_f (tgt := 28) b dX12_kin_4 (by decide) (by decide) ?_
  refine z_iload_n b dX12_kin_7 rfl rfl ?_
  refine z_calli b (z_runS (As := [.int 1]) (st := []) b (c_X12_isOne_3 S ) cf_X12_isOne wm_X12_170 ws_X12_isOne dX12_kin_8 rfl (Nat.le_of_ble_eq_true rfl) ⟨by decide, by decide, by decide, by decide⟩) (fun r3623 u3624 h3622 => ?_)
  obtain ⟨rfl, rfl⟩ := h3622
  refine z_if_eq_f (tgt := 28) b dX12_kin_11 (by decide) (by decide) ?_
  refine z_iload_n b dX12_kin_14 rfl rfl ?_
  refine z_iload_n b dX12_kin_15 rfl rfl ?_
  refine z_icmp_eq_f (tgt := 28) b dX12_kin_16 (by decide) (by decide) ?_
  refine z_iload_n b dX12_kin_19 rfl rfl ?_
  refine z_iconst (v := 0) b dX12_kin_20 (by decide) ?_
  refine z_iconst (v := 1) b dX12_kin_21 (by decide) ?_
  refine z_calli b (z_runS (As := [.int p0, .int 0, .int 1]) (st := []) b (c_X12_isIn_8 S p0 ) cf_X12_isIn wm_X12_1 ws_X12_isIn dX12_kin_22 rfl (Nat.le_of_ble_eq_true rfl) ⟨by decide, by decide, by decide, by decide⟩) (fun r3626 u3627 h3625 => ?_)
  rcases h3625 with ⟨c3628, rfl, rfl⟩ | ⟨c3629, rfl, rfl⟩
  · refine z_if_ne_f (tgt := 30) b dX12_kin_25 (by decide) (by decide) ?_
    refine z_iconst (v := 0) b dX12_kin_28 (by decide) ?_
    exact z_zret (u := S) b rfl (by decide) dX12_kin_29 ⟨rfl, rfl⟩ rfl (by decide) (by decide)
  · exfalso; omega

set_option maxHeartbeats 4000000 in
set_option maxRecDepth 100000 in
theorem c_X11_kin_70 {l : Launch} {D : va_G} {cy : Nat → ClassId} {T0 tB tE : Nat} {a : Nat → Nat} {rw : Nat → Option Nat} (S : GS) (p0 : Int32)  (hr_p0 : 2 ≤ p0.toInt ∧ p0.toInt ≤ 2147483647) : Ct l D cy T0 tB tE yX11_kin cX11_kin 6 (some .boolean) 2 41 0 0 (cw cy tE a rw S) [.ref (a 0), .int 2, .int 1, .int p0, .int 1] (QI D (U := GS) (fun r u => 0 = r ∧ S = u) (cw cy tE a rw)) := by
  refine Ct.ofZ RX11 "kin" [(0, .ref (a 0)), (1, .int 2), (2, .int 1), (3, .int p0), (4, .int 1)] rfl rfl rfl rfl (Nat.le_of_ble_eq_true rfl) ?_
  intro p e R s m args below meth c A b
  refine z_iload_n b dX11_kin_0 rfl rfl ?_
  refine z_iload_n b dX11_kin_1 rfl rfl ?_
  refine z_calli b (z_runS (As := [.int 2, .int 1]) (st := []) b (c_X11_arePair_13 S ) cf_X11_arePair wm_X11_84 ws_X11_arePair dX11_kin_2 rfl (Nat.le_of_ble_eq_true rfl) ⟨by decide, by decide, by decide, by decide⟩) (fun r3631 u3632 h3630 => ?_)
  obtain ⟨rfl, rfl⟩ := h3630
  refine z_if_eq_f (tgt := 16) b dX11_kin_5 (by decide) (by decide) ?_
  refine z_iload_n b dX11_kin_8 rfl rfl ?_
  refine z_iconst (v := 1) b dX11_kin_9 (by decide) ?_
  refine z_calli b (z_runS (As := [.int p0, .int 1]) (st := []) b (c_X11_isWithin_4 S p0 ) cf_X11_isWithin wm_X11_73 ws_X11_isWithin dX11_kin_10 rfl (Nat.le_of_ble_eq_true rfl) ⟨by decide, by decide, by decide, by decide⟩) (fun r3634 u3635 h3633 => ?_)
  rcases h3633 with ⟨c3636, rfl, rfl⟩ | ⟨c3637, rfl, rfl⟩
  · refine z_if_ne_f (tgt := 18) b dX11_kin_13 (by decide) (by decide) ?_
    refine z_iconst (v := 0) b dX11_kin_16 (by decide) ?_
    exact z_zret (u := S) b rfl (by decide) dX11_kin_17 ⟨rfl, rfl⟩ rfl (by decide) (by decide)
  · exfalso; omega

set_option maxHeartbeats 4000000 in
set_option maxRecDepth 100000 in
theorem c_X12_kin_70 {l : Launch} {D : va_G} {cy : Nat → ClassId} {T0 tB tE : Nat} {a : Nat → Nat} (S : GS) (p0 : Int32)  (hr_p0 : 2 ≤ p0.toInt ∧ p0.toInt ≤ 2147483647) : Ct l D cy T0 tB tE yX12_kin cX12_kin 5 (some .boolean) 2 42 0 0 (mw cy a S) [.ref (a 0), .int 2, .int 1, .int p0, .int 1] (QI D (U := GS) (fun r u => 0 = r ∧ S = u) (mw cy a)) := by
  refine Ct.ofZ RX12 "kin" [(0, .ref (a 0)), (1, .int 2), (2, .int 1), (3, .int p0), (4, .int 1)] rfl rfl rfl rfl (Nat.le_of_ble_eq_true rfl) ?_
  intro p e R s m args below meth c A b
  refine z_iload_n b dX12_kin_0 rfl rfl ?_
  refine z_calli b (z_runS (As := [.int 2]) (st := []) b (c_X12_isOne_4 S ) cf_X12_isOne wm_X12_170 ws_X12_isOne dX12_kin_1 rfl (Nat.le_of_ble_eq_true rfl) ⟨by decide, by decide, by decide, by decide⟩) (fun r3639 u3640 h3638 => ?_)
  obtain ⟨rfl, rfl⟩ := h3638
  refine z_if_eq_f (tgt := 28) b dX12_kin_4 (by decide) (by decide) ?_
  refine z_iload_n b dX12_kin_7 rfl rfl ?_
  refine z_calli b (z_runS (As := [.int 1]) (st := []) b (c_X12_isOne_3 S ) cf_X12_isOne wm_X12_170 ws_X12_isOne dX12_kin_8 rfl (Nat.le_of_ble_eq_true rfl) ⟨by decide, by decide, by decide, by decide⟩) (fun r3642 u3643 h3641 => ?_)
  obtain ⟨rfl, rfl⟩ := h3641
  refine z_if_eq_f (tgt := 28) b dX12_kin_11 (by decide) (by decide) ?_
  refine z_iload_n b dX12_kin_14 rfl rfl ?_
  refine z_iload_n b dX12_kin_15 rfl rfl ?_
  refine z_icmp_eq_f (tgt := 28) b dX12_kin_16 (by decide) (by decide) ?_
  refine z_iload_n b dX12_kin_19 rfl rfl ?_
  refine z_iconst (v := 0) b dX12_kin_20 (by decide) ?_
  refine z_iconst (v := 1) b dX12_kin_21 (by decide) ?_
  refine z_calli b (z_runS (As := [.int p0, .int 0, .int 1]) (st := []) b (c_X12_isIn_8 S p0 ) cf_X12_isIn wm_X12_1 ws_X12_isIn dX12_kin_22 rfl (Nat.le_of_ble_eq_true rfl) ⟨by decide, by decide, by decide, by decide⟩) (fun r3645 u3646 h3644 => ?_)
  rcases h3644 with ⟨c3647, rfl, rfl⟩ | ⟨c3648, rfl, rfl⟩
  · refine z_if_ne_f (tgt := 30) b dX12_kin_25 (by decide) (by decide) ?_
    refine z_iconst (v := 0) b dX12_kin_28 (by decide) ?_
    exact z_zret (u := S) b rfl (by decide) dX12_kin_29 ⟨rfl, rfl⟩ rfl (by decide) (by decide)
  · exfalso; omega

