theorem wm_L_91 : Cond.methodLink RL 91 yX11_hole ∈ gT := gT_of 999 (by decide +kernel) (by decide +kernel)
theorem cf_X11_hole : Cf yX11_hole cX11_hole 7 (some .int) 5 := ⟨gT_of 1002 (by decide +kernel) (by decide +kernel), gT_of 84 (by decide +kernel) (by decide +kernel), by decide +kernel, by decide +kernel, by decide +kernel⟩
theorem wi_X11_hole : Cond.instanceMethod yX11_hole ∈ gT := gT_of 1000 (by decide +kernel) (by decide +kernel)
theorem ws_X11_hole : Cond.selects yX11_hole.cls yX11_hole yX11_hole ∈ gT := gT_of 1001 (by decide +kernel) (by decide +kernel)
theorem wm_L_94 : Cond.methodLink RL 94 yX12_hole ∈ gT := gT_of 1601 (by decide +kernel) (by decide +kernel)
theorem cf_X12_hole : Cf yX12_hole cX12_hole 6 (some .int) 5 := ⟨gT_of 1604 (by decide +kernel) (by decide +kernel), gT_of 101 (by decide +kernel) (by decide +kernel), by decide +kernel, by decide +kernel, by decide +kernel⟩
theorem wi_X12_hole : Cond.instanceMethod yX12_hole ∈ gT := gT_of 1602 (by decide +kernel) (by decide +kernel)
theorem ws_X12_hole : Cond.selects yX12_hole.cls yX12_hole yX12_hole ∈ gT := gT_of 1603 (by decide +kernel) (by decide +kernel)
theorem wm_L_95 : Cond.methodLink RL 95 yX11_friends ∈ gT := gT_of 1087 (by decide +kernel) (by decide +kernel)
theorem cf_X11_friends : Cf yX11_friends cX11_friends 6 (some .int) 3 := ⟨gT_of 1090 (by decide +kernel) (by decide +kernel), gT_of 84 (by decide +kernel) (by decide +kernel), by decide +kernel, by decide +kernel, by decide +kernel⟩
theorem wi_X11_friends : Cond.instanceMethod yX11_friends ∈ gT := gT_of 1088 (by decide +kernel) (by decide +kernel)
theorem ws_X11_friends : Cond.selects yX11_friends.cls yX11_friends yX11_friends ∈ gT := gT_of 1089 (by decide +kernel) (by decide +kernel)
theorem wm_L_99 : Cond.methodLink RL 99 yX12_friends ∈ gT := gT_of 1669 (by decide +kernel) (by decide +kernel)
theorem cf_X12_friends : Cf yX12_friends cX12_friends 6 (some .int) 3 := ⟨gT_of 1672 (by decide +kernel) (by decide +kernel), gT_of 101 (by decide +kernel) (by decide +kernel), by decide +kernel, by decide +kernel, by decide +kernel⟩
theorem wi_X12_friends : Cond.instanceMethod yX12_friends ∈ gT := gT_of 1670 (by decide +kernel) (by decide +kernel)
theorem ws_X12_friends : Cond.selects yX12_friends.cls yX12_friends yX12_friends ∈ gT := gT_of 1671 (by decide +kernel) (by decide +kernel)
theorem wm_L_100 : Cond.methodLink RL 100 yX11_only ∈ gT := gT_of 1097 (by decide +kernel) (by decide +kernel)
theorem cf_X11_only : Cf yX11_only cX11_only 6 (some .int) 2 := ⟨gT_of 1100 (by decide +kernel) (by decide +kernel), gT_of 84 (by decide +kernel) (by decide +kernel), by decide +kernel, by decide +kernel, by decide +kernel⟩
theorem wi_X11_only : Cond.instanceMethod yX11_only ∈ gT := gT_of 1098 (by decide +kernel) (by decide +kernel)
theorem ws_X11_only : Cond.selects yX11_only.cls yX11_only yX11_only ∈ gT := gT_of 1099 (by decide +kernel) (by decide +kernel)
theorem wm_L_103 : Cond.methodLink RL 103 yX12_only ∈ gT := gT_of 1676 (by decide +kernel) (by decide +kernel)
theorem cf_X12_only : Cf yX12_only cX12_only 6 (some .int) 2 := ⟨gT_of 1679 (by decide +kernel) (by decide +kernel), gT_of 101 (by decide +kernel) (by decide +kernel), by decide +kernel, by decide +kernel, by decide +kernel⟩
theorem wi_X12_only : Cond.instanceMethod yX12_only ∈ gT := gT_of 1677 (by decide +kernel) (by decide +kernel)
theorem ws_X12_only : Cond.selects yX12_only.cls yX12_only yX12_only ∈ gT := gT_of 1678 (by decide +kernel) (by decide +kernel)
theorem wm_L_104 : Cond.methodLink RL 104 yX11_met ∈ gT := gT_of 1105 (by decide +kernel) (by decide +kernel)
theorem cf_X11_met : Cf yX11_met cX11_met 4 (some .int) 3 := ⟨gT_of 1108 (by decide +kernel) (by decide +kernel), gT_of 84 (by decide +kernel) (by decide +kernel), by decide +kernel, by decide +kernel, by decide +kernel⟩
theorem wi_X11_met : Cond.instanceMethod yX11_met ∈ gT := gT_of 1106 (by decide +kernel) (by decide +kernel)
theorem ws_X11_met : Cond.selects yX11_met.cls yX11_met yX11_met ∈ gT := gT_of 1107 (by decide +kernel) (by decide +kernel)
theorem wm_L_108 : Cond.methodLink RL 108 yX12_met ∈ gT := gT_of 1680 (by decide +kernel) (by decide +kernel)
theorem cf_X12_met : Cf yX12_met cX12_met 10 (some .int) 3 := ⟨gT_of 1683 (by decide +kernel) (by decide +kernel), gT_of 101 (by decide +kernel) (by decide +kernel), by decide +kernel, by decide +kernel, by decide +kernel⟩
theorem wi_X12_met : Cond.instanceMethod yX12_met ∈ gT := gT_of 1681 (by decide +kernel) (by decide +kernel)
theorem ws_X12_met : Cond.selects yX12_met.cls yX12_met yX12_met ∈ gT := gT_of 1682 (by decide +kernel) (by decide +kernel)
theorem wm_L_109 : Cond.methodLink RL 109 yX11_gain ∈ gT := gT_of 1124 (by decide +kernel) (by decide +kernel)
theorem cf_X11_gain : Cf yX11_gain cX11_gain 7 (some .int) 4 := ⟨gT_of 1127 (by decide +kernel) (by decide +kernel), gT_of 84 (by decide +kernel) (by decide +kernel), by decide +kernel, by decide +kernel, by decide +kernel⟩
theorem wi_X11_gain : Cond.instanceMethod yX11_gain ∈ gT := gT_of 1125 (by decide +kernel) (by decide +kernel)
theorem ws_X11_gain : Cond.selects yX11_gain.cls yX11_gain yX11_gain ∈ gT := gT_of 1126 (by decide +kernel) (by decide +kernel)
theorem wm_L_112 : Cond.methodLink RL 112 yX12_gain ∈ gT := gT_of 1692 (by decide +kernel) (by decide +kernel)
theorem cf_X12_gain : Cf yX12_gain cX12_gain 9 (some .int) 4 := ⟨gT_of 1695 (by decide +kernel) (by decide +kernel), gT_of 101 (by decide +kernel) (by decide +kernel), by decide +kernel, by decide +kernel, by decide +kernel⟩
theorem wi_X12_gain : Cond.instanceMethod yX12_gain ∈ gT := gT_of 1693 (by decide +kernel) (by decide +kernel)
theorem ws_X12_gain : Cond.selects yX12_gain.cls yX12_gain yX12_gain ∈ gT := gT_of 1694 (by decide +kernel) (by decide +kernel)
theorem wm_L_113 : Cond.methodLink RL 113 yX11_stop ∈ gT := gT_of 1138 (by decide +kernel) (by decide +kernel)
theorem cf_X11_stop : Cf yX11_stop cX11_stop 7 (some .int) 3 := ⟨gT_of 1141 (by decide +kernel) (by decide +kernel), gT_of 84 (by decide +kernel) (by decide +kernel), by decide +kernel, by decide +kernel, by decide +kernel⟩
theorem wi_X11_stop : Cond.instanceMethod yX11_stop ∈ gT := gT_of 1139 (by decide +kernel) (by decide +kernel)
theorem ws_X11_stop : Cond.selects yX11_stop.cls yX11_stop yX11_stop ∈ gT := gT_of 1140 (by decide +kernel) (by decide +kernel)
theorem wm_L_116 : Cond.methodLink RL 116 yX12_stop ∈ gT := gT_of 1726 (by decide +kernel) (by decide +kernel)
theorem cf_X12_stop : Cf yX12_stop cX12_stop 6 (some .int) 3 := ⟨gT_of 1729 (by decide +kernel) (by decide +kernel), gT_of 101 (by decide +kernel) (by decide +kernel), by decide +kernel, by decide +kernel, by decide +kernel⟩
theorem wi_X12_stop : Cond.instanceMethod yX12_stop ∈ gT := gT_of 1727 (by decide +kernel) (by decide +kernel)
theorem ws_X12_stop : Cond.selects yX12_stop.cls yX12_stop yX12_stop ∈ gT := gT_of 1728 (by decide +kernel) (by decide +kernel)
theorem wm_L_117 : Cond.methodLink RL 117 yX11_past ∈ gT := gT_of 1146 (by decide +kernel) (by decide +kernel)
theorem cf_X11_past : Cf yX11_past cX11_past 2 (some .int) 1 := ⟨gT_of 1149 (by decide +kernel) (by decide +kernel), gT_of 84 (by decide +kernel) (by decide +kernel), by decide +kernel, by decide +kernel, by decide +kernel⟩
theorem wi_X11_past : Cond.instanceMethod yX11_past ∈ gT := gT_of 1147 (by decide +kernel) (by decide +kernel)
theorem ws_X11_past : Cond.selects yX11_past.cls yX11_past yX11_past ∈ gT := gT_of 1148 (by decide +kernel) (by decide +kernel)
theorem wm_L_120 : Cond.methodLink RL 120 yX12_past ∈ gT := gT_of 1734 (by decide +kernel) (by decide +kernel)
theorem cf_X12_past : Cf yX12_past cX12_past 2 (some .int) 1 := ⟨gT_of 1737 (by decide +kernel) (by decide +kernel), gT_of 101 (by decide +kernel) (by decide +kernel), by decide +kernel, by decide +kernel, by decide +kernel⟩
theorem wi_X12_past : Cond.instanceMethod yX12_past ∈ gT := gT_of 1735 (by decide +kernel) (by decide +kernel)
theorem ws_X12_past : Cond.selects yX12_past.cls yX12_past yX12_past ∈ gT := gT_of 1736 (by decide +kernel) (by decide +kernel)
theorem wm_L_121 : Cond.methodLink RL 121 yX11_through ∈ gT := gT_of 1150 (by decide +kernel) (by decide +kernel)
theorem cf_X11_through : Cf yX11_through cX11_through 7 (some .int) 2 := ⟨gT_of 1153 (by decide +kernel) (by decide +kernel), gT_of 84 (by decide +kernel) (by decide +kernel), by decide +kernel, by decide +kernel, by decide +kernel⟩
theorem wi_X11_through : Cond.instanceMethod yX11_through ∈ gT := gT_of 1151 (by decide +kernel) (by decide +kernel)
theorem ws_X11_through : Cond.selects yX11_through.cls yX11_through yX11_through ∈ gT := gT_of 1152 (by decide +kernel) (by decide +kernel)
theorem wm_L_124 : Cond.methodLink RL 124 yX12_through ∈ gT := gT_of 1738 (by decide +kernel) (by decide +kernel)
theorem cf_X12_through : Cf yX12_through cX12_through 7 (some .int) 2 := ⟨gT_of 1741 (by decide +kernel) (by decide +kernel), gT_of 101 (by decide +kernel) (by decide +kernel), by decide +kernel, by decide +kernel, by decide +kernel⟩
theorem wi_X12_through : Cond.instanceMethod yX12_through ∈ gT := gT_of 1739 (by decide +kernel) (by decide +kernel)
theorem ws_X12_through : Cond.selects yX12_through.cls yX12_through yX12_through ∈ gT := gT_of 1740 (by decide +kernel) (by decide +kernel)
set_option maxHeartbeats 8000000 in
set_option maxRecDepth 100000 in
theorem lo_hole {p : Program} {l : Launch} {e : Env} {s : State} {m : MethodId} {below : List Frame} {meth : Method} {c : Code} {D : va_G} {cy : Nat → ClassId} {tB tE b : Nat} {a a2 : Nat → Nat} {rw : Nat → Option Nat} {xs : Nat → Int32} (B0 : Bz p room_1 s m #[Value.ref b] meth c D cy s.heap.size tB tE (fun q => s.heap.size ≤ q) 4 cL_law RL meth.sig.returnType meth.name 2048 84000 600000 7302250) (hX : va_X b 6 xs s s.heap) (hbl : b < s.heap.size) (hrw : ∀ i, i < 6 → rw i = some (a (36 + 2 * i))) (w : Nat → Int64) (fin : ∀ S S9 : GS, Z p l e room_1 s m #[Value.ref b] below meth c D (fun q => s.heap.size ≤ q) 4 (lw_Z below #[Value.ref b] s) 200 60000 (cw cy tE a rw S ++ mw cy a2 S9) [(3, .int 0), (2, .ref (a2 0)), (1, .ref (a 0)), (0, .ref b)] 1091 []) : Z p l e room_1 s m #[Value.ref b] below meth c D (fun q => s.heap.size ≤ q) 4 (lw_Z below #[Value.ref b] s) 200 60000 (cw cy tE a rw (cS0 w) ++ mw cy a2 mS0) [(3, .int 0), (2, .ref (a2 0)), (1, .ref (a 0)), (0, .ref b)] 741 [] := by
  obtain ⟨x1, e1⟩ : ∃ x, x = xs 1 := ⟨_, rfl⟩
  obtain ⟨x2, e2⟩ : ∃ x, x = xs 2 := ⟨_, rfl⟩
  obtain ⟨x3, e3⟩ : ∃ x, x = xs 3 := ⟨_, rfl⟩
  obtain ⟨x4, e4⟩ : ∃ x, x = xs 4 := ⟨_, rfl⟩
  obtain ⟨x5, e5⟩ : ∃ x, x = xs 5 := ⟨_, rfl⟩
  refine z_aload_n B0 dL_law_741 rfl rfl ?_
  refine z_aload_n B0 dL_law_742 rfl rfl ?_
  refine z_iload_n B0 dL_law_743 rfl rfl ?_
  refine z_iconst (v := 1) B0 dL_law_744 (by decide) ?_
  refine z_iadd (v := 1) B0 dL_law_745 (by decide) ?_
  refine y_sld (j := 1) (v := x1) B0 hX hbl (by decide) e1.symm dL_law_746 ?_
  refine z_aload_n B0 dL_law_747 rfl rfl ?_
  refine z_iload_n B0 dL_law_748 rfl rfl ?_
  refine z_iconst (v := 2) B0 dL_law_749 (by decide) ?_
  refine z_iadd (v := 2) B0 dL_law_750 (by decide) ?_
  refine y_sld (j := 2) (v := x2) B0 hX hbl (by decide) e2.symm dL_law_751 ?_
  refine z_aload_n B0 dL_law_752 rfl rfl ?_
  refine z_iload_n B0 dL_law_753 rfl rfl ?_
  refine z_iconst (v := 3) B0 dL_law_754 (by decide) ?_
  refine z_iadd (v := 3) B0 dL_law_755 (by decide) ?_
  refine y_sld (j := 3) (v := x3) B0 hX hbl (by decide) e3.symm dL_law_756 ?_
  refine z_aload_n B0 dL_law_757 rfl rfl ?_
  refine z_iload_n B0 dL_law_758 rfl rfl ?_
  refine z_iconst (v := 4) B0 dL_law_759 (by decide) ?_
  refine z_iadd (v := 4) B0 dL_law_760 (by decide) ?_
  refine y_sld (j := 4) (v := x4) B0 hX hbl (by decide) e4.symm dL_law_761 ?_
  refine z_aload_n B0 dL_law_762 rfl rfl ?_
  refine z_iload_n B0 dL_law_763 rfl rfl ?_
  refine z_iconst (v := 5) B0 dL_law_764 (by decide) ?_
  refine z_iadd (v := 5) B0 dL_law_765 (by decide) ?_
  refine y_sld (j := 5) (v := x5) B0 hX hbl (by decide) e5.symm dL_law_766 ?_
  refine z_callC B0 (z_runV (q0 := 0) (As := [.int x1, .int x2, .int x3, .int x4, .int x5]) (st := []) B0 (c_X11_hole (a := a) (cS0 w) x1 x2 x3 x4 x5 rfl) cf_X11_hole (cw_0 cy tE a rw (cS0 w)) rfl wm_L_91 wi_X11_hole ws_X11_hole dL_law_767 rfl (Nat.le_of_ble_eq_true rfl) ⟨by decide, by decide, by decide, by decide⟩) (fun r1 u1 p1 => ?_)
  obtain ⟨rfl, -⟩ := p1
  refine z_aload_n B0 dL_law_770 rfl rfl ?_
  refine z_aload_n B0 dL_law_771 rfl rfl ?_
  refine z_iload_n B0 dL_law_772 rfl rfl ?_
  refine z_iconst (v := 1) B0 dL_law_773 (by decide) ?_
  refine z_iadd (v := 1) B0 dL_law_774 (by decide) ?_
  refine y_sld (j := 1) (v := x1) B0 hX hbl (by decide) e1.symm dL_law_775 ?_
  refine z_aload_n B0 dL_law_776 rfl rfl ?_
  refine z_iload_n B0 dL_law_777 rfl rfl ?_
  refine z_iconst (v := 2) B0 dL_law_778 (by decide) ?_
  refine z_iadd (v := 2) B0 dL_law_779 (by decide) ?_
  refine y_sld (j := 2) (v := x2) B0 hX hbl (by decide) e2.symm dL_law_780 ?_
  refine z_aload_n B0 dL_law_781 rfl rfl ?_
  refine z_iload_n B0 dL_law_782 rfl rfl ?_
  refine z_iconst (v := 3) B0 dL_law_783 (by decide) ?_
  refine z_iadd (v := 3) B0 dL_law_784 (by decide) ?_
  refine y_sld (j := 3) (v := x3) B0 hX hbl (by decide) e3.symm dL_law_785 ?_
  refine z_aload_n B0 dL_law_786 rfl rfl ?_
  refine z_iload_n B0 dL_law_787 rfl rfl ?_
  refine z_iconst (v := 4) B0 dL_law_788 (by decide) ?_
  refine z_iadd (v := 4) B0 dL_law_789 (by decide) ?_
  refine y_sld (j := 4) (v := x4) B0 hX hbl (by decide) e4.symm dL_law_790 ?_
  refine z_aload_n B0 dL_law_791 rfl rfl ?_
  refine z_iload_n B0 dL_law_792 rfl rfl ?_
  refine z_iconst (v := 5) B0 dL_law_793 (by decide) ?_
  refine z_iadd (v := 5) B0 dL_law_794 (by decide) ?_
  refine y_sld (j := 5) (v := x5) B0 hX hbl (by decide) e5.symm dL_law_795 ?_
  refine z_callM B0 (z_runV (q0 := 0) (As := [.int x1, .int x2, .int x3, .int x4, .int x5]) (st := [.int (-1)]) B0 (c_X12_hole (a := a2) mS0 x1 x2 x3 x4 x5 rfl) cf_X12_hole (mw_0 cy a2 mS0) rfl wm_L_94 wi_X12_hole ws_X12_hole dL_law_796 rfl (Nat.le_of_ble_eq_true rfl) ⟨by decide, by decide, by decide, by decide⟩) (fun r2 u2 p2 => ?_)
  obtain ⟨rfl, -⟩ := p2
  refine z_icmp_eq_t (tgt := 1091) B0 dL_law_799 (by decide) rfl ?_
  exact fin u1 u2

set_option maxHeartbeats 8000000 in
set_option maxRecDepth 100000 in
theorem lo_friends {p : Program} {l : Launch} {e : Env} {s : State} {m : MethodId} {below : List Frame} {meth : Method} {c : Code} {D : va_G} {cy : Nat → ClassId} {tB tE b : Nat} {a a2 : Nat → Nat} {rw : Nat → Option Nat} {xs : Nat → Int32} (B0 : Bz p room_1 s m #[Value.ref b] meth c D cy s.heap.size tB tE (fun q => s.heap.size ≤ q) 4 cL_law RL meth.sig.returnType meth.name 2048 84000 600000 7302250) (hX : va_X b 6 xs s s.heap) (hbl : b < s.heap.size) (hrw : ∀ i, i < 6 → rw i = some (a (36 + 2 * i))) (w : Nat → Int64) (fin : ∀ S S9 : GS, Z p l e room_1 s m #[Value.ref b] below meth c D (fun q => s.heap.size ≤ q) 4 (lw_Z below #[Value.ref b] s) 200 60000 (cw cy tE a rw S ++ mw cy a2 S9) [(3, .int 0), (2, .ref (a2 0)), (1, .ref (a 0)), (0, .ref b)] 1091 []) : Z p l e room_1 s m #[Value.ref b] below meth c D (fun q => s.heap.size ≤ q) 4 (lw_Z below #[Value.ref b] s) 200 60000 (cw cy tE a rw (cS0 w) ++ mw cy a2 mS0) [(3, .int 0), (2, .ref (a2 0)), (1, .ref (a 0)), (0, .ref b)] 804 [] := by
  obtain ⟨x1, e1⟩ : ∃ x, x = xs 1 := ⟨_, rfl⟩
  obtain ⟨x2, e2⟩ : ∃ x, x = xs 2 := ⟨_, rfl⟩
  obtain ⟨x3, e3⟩ : ∃ x, x = xs 3 := ⟨_, rfl⟩
  refine z_aload_n B0 dL_law_804 rfl rfl ?_
  refine z_aload_n B0 dL_law_805 rfl rfl ?_
  refine z_iload_n B0 dL_law_806 rfl rfl ?_
  refine z_iconst (v := 1) B0 dL_law_807 (by decide) ?_
  refine z_iadd (v := 1) B0 dL_law_808 (by decide) ?_
  refine y_sld (j := 1) (v := x1) B0 hX hbl (by decide) e1.symm dL_law_809 ?_
  refine z_aload_n B0 dL_law_810 rfl rfl ?_
  refine z_iload_n B0 dL_law_811 rfl rfl ?_
  refine z_iconst (v := 2) B0 dL_law_812 (by decide) ?_
  refine z_iadd (v := 2) B0 dL_law_813 (by decide) ?_
  refine y_sld (j := 2) (v := x2) B0 hX hbl (by decide) e2.symm dL_law_814 ?_
  refine z_aload_n B0 dL_law_815 rfl rfl ?_
  refine z_iload_n B0 dL_law_816 rfl rfl ?_
  refine z_iconst (v := 3) B0 dL_law_817 (by decide) ?_
  refine z_iadd (v := 3) B0 dL_law_818 (by decide) ?_
  refine y_sld (j := 3) (v := x3) B0 hX hbl (by decide) e3.symm dL_law_819 ?_
  refine z_callC B0 (z_runV (q0 := 0) (As := [.int x1, .int x2, .int x3]) (st := []) B0 (c_X11_friends (a := a) (cS0 w) x1 x2 x3 rfl) cf_X11_friends (cw_0 cy tE a rw (cS0 w)) rfl wm_L_95 wi_X11_friends ws_X11_friends dL_law_820 rfl (Nat.le_of_ble_eq_true rfl) ⟨by decide, by decide, by decide, by decide⟩) (fun r1 u1 p1 => ?_)
  obtain ⟨rfl, -⟩ := p1
  refine z_aload_n B0 dL_law_823 rfl rfl ?_
  refine z_aload_n B0 dL_law_824 rfl rfl ?_
  refine z_iload_n B0 dL_law_825 rfl rfl ?_
  refine z_iconst (v := 1) B0 dL_law_826 (by decide) ?_
  refine z_iadd (v := 1) B0 dL_law_827 (by decide) ?_
  refine y_sld (j := 1) (v := x1) B0 hX hbl (by decide) e1.symm dL_law_828 ?_
  refine z_aload_n B0 dL_law_829 rfl rfl ?_
  refine z_iload_n B0 dL_law_830 rfl rfl ?_
  refine z_iconst (v := 2) B0 dL_law_831 (by decide) ?_
  refine z_iadd (v := 2) B0 dL_law_832 (by decide) ?_
  refine y_sld (j := 2) (v := x2) B0 hX hbl (by decide) e2.symm dL_law_833 ?_
  refine z_aload_n B0 dL_law_834 rfl rfl ?_
  refine z_iload_n B0 dL_law_835 rfl rfl ?_
  refine z_iconst (v := 3) B0 dL_law_836 (by decide) ?_
  refine z_iadd (v := 3) B0 dL_law_837 (by decide) ?_
  refine y_sld (j := 3) (v := x3) B0 hX hbl (by decide) e3.symm dL_law_838 ?_
  refine z_callM B0 (z_runV (q0 := 0) (As := [.int x1, .int x2, .int x3]) (st := [.int (-1)]) B0 (c_X12_friends (a := a2) mS0 x1 x2 x3 rfl) cf_X12_friends (mw_0 cy a2 mS0) rfl wm_L_99 wi_X12_friends ws_X12_friends dL_law_839 rfl (Nat.le_of_ble_eq_true rfl) ⟨by decide, by decide, by decide, by decide⟩) (fun r2 u2 p2 => ?_)
  obtain ⟨rfl, -⟩ := p2
  refine z_icmp_eq_t (tgt := 1091) B0 dL_law_842 (by decide) rfl ?_
  exact fin u1 u2

set_option maxHeartbeats 8000000 in
set_option maxRecDepth 100000 in
theorem lo_only {p : Program} {l : Launch} {e : Env} {s : State} {m : MethodId} {below : List Frame} {meth : Method} {c : Code} {D : va_G} {cy : Nat → ClassId} {tB tE b : Nat} {a a2 : Nat → Nat} {rw : Nat → Option Nat} {xs : Nat → Int32} (B0 : Bz p room_1 s m #[Value.ref b] meth c D cy s.heap.size tB tE (fun q => s.heap.size ≤ q) 4 cL_law RL meth.sig.returnType meth.name 2048 84000 600000 7302250) (hX : va_X b 6 xs s s.heap) (hbl : b < s.heap.size) (hrw : ∀ i, i < 6 → rw i = some (a (36 + 2 * i))) (w : Nat → Int64) (fin : ∀ S S9 : GS, Z p l e room_1 s m #[Value.ref b] below meth c D (fun q => s.heap.size ≤ q) 4 (lw_Z below #[Value.ref b] s) 200 60000 (cw cy tE a rw S ++ mw cy a2 S9) [(3, .int 0), (2, .ref (a2 0)), (1, .ref (a 0)), (0, .ref b)] 1091 []) : Z p l e room_1 s m #[Value.ref b] below meth c D (fun q => s.heap.size ≤ q) 4 (lw_Z below #[Value.ref b] s) 200 60000 (cw cy tE a rw (cS0 w) ++ mw cy a2 mS0) [(3, .int 0), (2, .ref (a2 0)), (1, .ref (a 0)), (0, .ref b)] 847 [] := by
  obtain ⟨x1, e1⟩ : ∃ x, x = xs 1 := ⟨_, rfl⟩
  obtain ⟨x2, e2⟩ : ∃ x, x = xs 2 := ⟨_, rfl⟩
  refine z_aload_n B0 dL_law_847 rfl rfl ?_
  refine z_aload_n B0 dL_law_848 rfl rfl ?_
  refine z_iload_n B0 dL_law_849 rfl rfl ?_
  refine z_iconst (v := 1) B0 dL_law_850 (by decide) ?_
  refine z_iadd (v := 1) B0 dL_law_851 (by decide) ?_
  refine y_sld (j := 1) (v := x1) B0 hX hbl (by decide) e1.symm dL_law_852 ?_
  refine z_aload_n B0 dL_law_853 rfl rfl ?_
  refine z_iload_n B0 dL_law_854 rfl rfl ?_
  refine z_iconst (v := 2) B0 dL_law_855 (by decide) ?_
  refine z_iadd (v := 2) B0 dL_law_856 (by decide) ?_
  refine y_sld (j := 2) (v := x2) B0 hX hbl (by decide) e2.symm dL_law_857 ?_
  refine z_callC B0 (z_runV (q0 := 0) (As := [.int x1, .int x2]) (st := []) B0 (c_X11_only (a := a) (cS0 w) x1 x2 rfl) cf_X11_only (cw_0 cy tE a rw (cS0 w)) rfl wm_L_100 wi_X11_only ws_X11_only dL_law_858 rfl (Nat.le_of_ble_eq_true rfl) ⟨by decide, by decide, by decide, by decide⟩) (fun r1 u1 p1 => ?_)
  obtain ⟨rfl, -⟩ := p1
  refine z_aload_n B0 dL_law_861 rfl rfl ?_
  refine z_aload_n B0 dL_law_862 rfl rfl ?_
  refine z_iload_n B0 dL_law_863 rfl rfl ?_
  refine z_iconst (v := 1) B0 dL_law_864 (by decide) ?_
  refine z_iadd (v := 1) B0 dL_law_865 (by decide) ?_
  refine y_sld (j := 1) (v := x1) B0 hX hbl (by decide) e1.symm dL_law_866 ?_
  refine z_aload_n B0 dL_law_867 rfl rfl ?_
  refine z_iload_n B0 dL_law_868 rfl rfl ?_
  refine z_iconst (v := 2) B0 dL_law_869 (by decide) ?_
  refine z_iadd (v := 2) B0 dL_law_870 (by decide) ?_
  refine y_sld (j := 2) (v := x2) B0 hX hbl (by decide) e2.symm dL_law_871 ?_
  refine z_callM B0 (z_runV (q0 := 0) (As := [.int x1, .int x2]) (st := [.int (-1)]) B0 (c_X12_only (a := a2) mS0 x1 x2 rfl) cf_X12_only (mw_0 cy a2 mS0) rfl wm_L_103 wi_X12_only ws_X12_only dL_law_872 rfl (Nat.le_of_ble_eq_true rfl) ⟨by decide, by decide, by decide, by decide⟩) (fun r2 u2 p2 => ?_)
  obtain ⟨rfl, -⟩ := p2
  refine z_icmp_eq_t (tgt := 1091) B0 dL_law_875 (by decide) rfl ?_
  exact fin u1 u2

set_option maxHeartbeats 8000000 in
set_option maxRecDepth 100000 in
theorem lo_met {p : Program} {l : Launch} {e : Env} {s : State} {m : MethodId} {below : List Frame} {meth : Method} {c : Code} {D : va_G} {cy : Nat → ClassId} {tB tE b : Nat} {a a2 : Nat → Nat} {rw : Nat → Option Nat} {xs : Nat → Int32} (B0 : Bz p room_1 s m #[Value.ref b] meth c D cy s.heap.size tB tE (fun q => s.heap.size ≤ q) 4 cL_law RL meth.sig.returnType meth.name 2048 84000 600000 7302250) (hX : va_X b 6 xs s s.heap) (hbl : b < s.heap.size) (hrw : ∀ i, i < 6 → rw i = some (a (36 + 2 * i))) (w : Nat → Int64) (fin : ∀ S S9 : GS, Z p l e room_1 s m #[Value.ref b] below meth c D (fun q => s.heap.size ≤ q) 4 (lw_Z below #[Value.ref b] s) 200 60000 (cw cy tE a rw S ++ mw cy a2 S9) [(3, .int 0), (2, .ref (a2 0)), (1, .ref (a 0)), (0, .ref b)] 1091 []) : Z p l e room_1 s m #[Value.ref b] below meth c D (fun q => s.heap.size ≤ q) 4 (lw_Z below #[Value.ref b] s) 200 60000 (cw cy tE a rw (cS0 w) ++ mw cy a2 mS0) [(3, .int 0), (2, .ref (a2 0)), (1, .ref (a 0)), (0, .ref b)] 880 [] := by
  obtain ⟨x1, e1⟩ : ∃ x, x = xs 1 := ⟨_, rfl⟩
  obtain ⟨x2, e2⟩ : ∃ x, x = xs 2 := ⟨_, rfl⟩
  obtain ⟨x3, e3⟩ : ∃ x, x = xs 3 := ⟨_, rfl⟩
  rcases (show ((-2147483648) ≤ x1.toInt ∧ x1.toInt ≤ 0) ∨ (1 ≤ x1.toInt ∧ x1.toInt ≤ 3) ∨ (4 ≤ x1.toInt ∧ x1.toInt ≤ 2147483647) by have g1 := Int32.le_toInt x1; have g2 := Int32.toInt_lt x1; omega) with h1 | h1 | h1
  · by_cases hb3 : x3 = 0
    · refine z_aload_n B0 dL_law_880 rfl rfl ?_
      refine z_aload_n B0 dL_law_881 rfl rfl ?_
      refine z_iload_n B0 dL_law_882 rfl rfl ?_
      refine z_iconst (v := 1) B0 dL_law_883 (by decide) ?_
      refine z_iadd (v := 1) B0 dL_law_884 (by decide) ?_
      refine y_sld (j := 1) (v := x1) B0 hX hbl (by decide) e1.symm dL_law_885 ?_
      refine z_aload_n B0 dL_law_886 rfl rfl ?_
      refine z_iload_n B0 dL_law_887 rfl rfl ?_
      refine z_iconst (v := 2) B0 dL_law_888 (by decide) ?_
      refine z_iadd (v := 2) B0 dL_law_889 (by decide) ?_
      refine y_sld (j := 2) (v := x2) B0 hX hbl (by decide) e2.symm dL_law_890 ?_
      refine z_aload_n B0 dL_law_891 rfl rfl ?_
      refine z_iload_n B0 dL_law_892 rfl rfl ?_
      refine z_iconst (v := 3) B0 dL_law_893 (by decide) ?_
      refine z_iadd (v := 3) B0 dL_law_894 (by decide) ?_
      refine y_sld (j := 3) (v := x3) B0 hX hbl (by decide) e3.symm dL_law_895 ?_
      refine z_if_eq_t (tgt := 903) B0 dL_law_896 (by decide) hb3 ?_
      refine z_iconst (v := 0) B0 dL_law_903 (by decide) ?_
      refine z_callC B0 (z_runV (q0 := 0) (As := [.int x1, .int x2, .int 0]) (st := []) B0 (c_X11_met (a := a) (cS0 w) x1 x2 ⟨by omega, by omega⟩) cf_X11_met (cw_0 cy tE a rw (cS0 w)) rfl wm_L_104 wi_X11_met ws_X11_met dL_law_904 rfl (Nat.le_of_ble_eq_true rfl) ⟨by decide, by decide, by decide, by decide⟩) (fun r1 u1 p1 => ?_)
      obtain ⟨rfl, -⟩ := p1
      refine z_aload_n B0 dL_law_907 rfl rfl ?_
      refine z_aload_n B0 dL_law_908 rfl rfl ?_
      refine z_iload_n B0 dL_law_909 rfl rfl ?_
      refine z_iconst (v := 1) B0 dL_law_910 (by decide) ?_
      refine z_iadd (v := 1) B0 dL_law_911 (by decide) ?_
      refine y_sld (j := 1) (v := x1) B0 hX hbl (by decide) e1.symm dL_law_912 ?_
      refine z_aload_n B0 dL_law_913 rfl rfl ?_
      refine z_iload_n B0 dL_law_914 rfl rfl ?_
      refine z_iconst (v := 2) B0 dL_law_915 (by decide) ?_
      refine z_iadd (v := 2) B0 dL_law_916 (by decide) ?_
      refine y_sld (j := 2) (v := x2) B0 hX hbl (by decide) e2.symm dL_law_917 ?_
      refine z_aload_n B0 dL_law_918 rfl rfl ?_
      refine z_iload_n B0 dL_law_919 rfl rfl ?_
      refine z_iconst (v := 3) B0 dL_law_920 (by decide) ?_
      refine z_iadd (v := 3) B0 dL_law_921 (by decide) ?_
      refine y_sld (j := 3) (v := x3) B0 hX hbl (by decide) e3.symm dL_law_922 ?_
      refine z_if_eq_t (tgt := 930) B0 dL_law_923 (by decide) hb3 ?_
      refine z_iconst (v := 0) B0 dL_law_930 (by decide) ?_
      refine z_callM B0 (z_runV (q0 := 0) (As := [.int x1, .int x2, .int 0]) (st := [.int (-1)]) B0 (c_X12_met (a := a2) mS0 x1 x2 ⟨by omega, by omega⟩) cf_X12_met (mw_0 cy a2 mS0) rfl wm_L_108 wi_X12_met ws_X12_met dL_law_931 rfl (Nat.le_of_ble_eq_true rfl) ⟨by decide, by decide, by decide, by decide⟩) (fun r2 u2 p2 => ?_)
      obtain ⟨rfl, -⟩ := p2
      refine z_icmp_eq_t (tgt := 1091) B0 dL_law_934 (by decide) rfl ?_
      exact fin u1 u2
    · refine z_aload_n B0 dL_law_880 rfl rfl ?_
      refine z_aload_n B0 dL_law_881 rfl rfl ?_
      refine z_iload_n B0 dL_law_882 rfl rfl ?_
      refine z_iconst (v := 1) B0 dL_law_883 (by decide) ?_
      refine z_iadd (v := 1) B0 dL_law_884 (by decide) ?_
      refine y_sld (j := 1) (v := x1) B0 hX hbl (by decide) e1.symm dL_law_885 ?_
      refine z_aload_n B0 dL_law_886 rfl rfl ?_
      refine z_iload_n B0 dL_law_887 rfl rfl ?_
      refine z_iconst (v := 2) B0 dL_law_888 (by decide) ?_
      refine z_iadd (v := 2) B0 dL_law_889 (by decide) ?_
      refine y_sld (j := 2) (v := x2) B0 hX hbl (by decide) e2.symm dL_law_890 ?_
      refine z_aload_n B0 dL_law_891 rfl rfl ?_
      refine z_iload_n B0 dL_law_892 rfl rfl ?_
      refine z_iconst (v := 3) B0 dL_law_893 (by decide) ?_
      refine z_iadd (v := 3) B0 dL_law_894 (by decide) ?_
      refine y_sld (j := 3) (v := x3) B0 hX hbl (by decide) e3.symm dL_law_895 ?_
      refine z_if_eq_f (tgt := 903) B0 dL_law_896 (by decide) hb3 ?_
      refine z_iconst (v := 1) B0 dL_law_899 (by decide) ?_
      refine z_goto (tgt := 904) B0 dL_law_900 (by decide) ?_
      refine z_callC B0 (z_runV (q0 := 0) (As := [.int x1, .int x2, .int 1]) (st := []) B0 (c_X11_met_2 (a := a) (cS0 w) x1 x2 ⟨by omega, by omega⟩) cf_X11_met (cw_0 cy tE a rw (cS0 w)) rfl wm_L_104 wi_X11_met ws_X11_met dL_law_904 rfl (Nat.le_of_ble_eq_true rfl) ⟨by decide, by decide, by decide, by decide⟩) (fun r1 u1 p1 => ?_)
      obtain ⟨rfl, -⟩ := p1
      refine z_aload_n B0 dL_law_907 rfl rfl ?_
      refine z_aload_n B0 dL_law_908 rfl rfl ?_
      refine z_iload_n B0 dL_law_909 rfl rfl ?_
      refine z_iconst (v := 1) B0 dL_law_910 (by decide) ?_
      refine z_iadd (v := 1) B0 dL_law_911 (by decide) ?_
      refine y_sld (j := 1) (v := x1) B0 hX hbl (by decide) e1.symm dL_law_912 ?_
      refine z_aload_n B0 dL_law_913 rfl rfl ?_
      refine z_iload_n B0 dL_law_914 rfl rfl ?_
      refine z_iconst (v := 2) B0 dL_law_915 (by decide) ?_
      refine z_iadd (v := 2) B0 dL_law_916 (by decide) ?_
      refine y_sld (j := 2) (v := x2) B0 hX hbl (by decide) e2.symm dL_law_917 ?_
      refine z_aload_n B0 dL_law_918 rfl rfl ?_
      refine z_iload_n B0 dL_law_919 rfl rfl ?_
      refine z_iconst (v := 3) B0 dL_law_920 (by decide) ?_
      refine z_iadd (v := 3) B0 dL_law_921 (by decide) ?_
      refine y_sld (j := 3) (v := x3) B0 hX hbl (by decide) e3.symm dL_law_922 ?_
      refine z_if_eq_f (tgt := 930) B0 dL_law_923 (by decide) hb3 ?_
      refine z_iconst (v := 1) B0 dL_law_926 (by decide) ?_
      refine z_goto (tgt := 931) B0 dL_law_927 (by decide) ?_
      refine z_callM B0 (z_runV (q0 := 0) (As := [.int x1, .int x2, .int 1]) (st := [.int (-1)]) B0 (c_X12_met_2 (a := a2) mS0 x1 x2 ⟨by omega, by omega⟩) cf_X12_met (mw_0 cy a2 mS0) rfl wm_L_108 wi_X12_met ws_X12_met dL_law_931 rfl (Nat.le_of_ble_eq_true rfl) ⟨by decide, by decide, by decide, by decide⟩) (fun r2 u2 p2 => ?_)
      obtain ⟨rfl, -⟩ := p2
      refine z_icmp_eq_t (tgt := 1091) B0 dL_law_934 (by decide) rfl ?_
      exact fin u1 u2
  · rcases (show ((-2147483648) ≤ x2.toInt ∧ x2.toInt ≤ (-1)) ∨ x2.toInt = 0 ∨ (1 ≤ x2.toInt ∧ x2.toInt ≤ 6) ∨ (7 ≤ x2.toInt ∧ x2.toInt ≤ 2147483647) by have g1 := Int32.le_toInt x2; have g2 := Int32.toInt_lt x2; omega) with h2 | h2 | h2 | h2
    · by_cases hb3 : x3 = 0
      · refine z_aload_n B0 dL_law_880 rfl rfl ?_
        refine z_aload_n B0 dL_law_881 rfl rfl ?_
        refine z_iload_n B0 dL_law_882 rfl rfl ?_
        refine z_iconst (v := 1) B0 dL_law_883 (by decide) ?_
        refine z_iadd (v := 1) B0 dL_law_884 (by decide) ?_
        refine y_sld (j := 1) (v := x1) B0 hX hbl (by decide) e1.symm dL_law_885 ?_
        refine z_aload_n B0 dL_law_886 rfl rfl ?_
        refine z_iload_n B0 dL_law_887 rfl rfl ?_
        refine z_iconst (v := 2) B0 dL_law_888 (by decide) ?_
        refine z_iadd (v := 2) B0 dL_law_889 (by decide) ?_
        refine y_sld (j := 2) (v := x2) B0 hX hbl (by decide) e2.symm dL_law_890 ?_
        refine z_aload_n B0 dL_law_891 rfl rfl ?_
        refine z_iload_n B0 dL_law_892 rfl rfl ?_
        refine z_iconst (v := 3) B0 dL_law_893 (by decide) ?_
        refine z_iadd (v := 3) B0 dL_law_894 (by decide) ?_
        refine y_sld (j := 3) (v := x3) B0 hX hbl (by decide) e3.symm dL_law_895 ?_
        refine z_if_eq_t (tgt := 903) B0 dL_law_896 (by decide) hb3 ?_
        refine z_iconst (v := 0) B0 dL_law_903 (by decide) ?_
        refine z_callC B0 (z_runV (q0 := 0) (As := [.int x1, .int x2, .int 0]) (st := []) B0 (c_X11_met_5 (a := a) (cS0 w) x1 x2 ⟨by omega, by omega⟩ ⟨by omega, by omega⟩) cf_X11_met (cw_0 cy tE a rw (cS0 w)) rfl wm_L_104 wi_X11_met ws_X11_met dL_law_904 rfl (Nat.le_of_ble_eq_true rfl) ⟨by decide, by decide, by decide, by decide⟩) (fun r1 u1 p1 => ?_)
        obtain ⟨rfl, -⟩ := p1
        refine z_aload_n B0 dL_law_907 rfl rfl ?_
        refine z_aload_n B0 dL_law_908 rfl rfl ?_
        refine z_iload_n B0 dL_law_909 rfl rfl ?_
        refine z_iconst (v := 1) B0 dL_law_910 (by decide) ?_
        refine z_iadd (v := 1) B0 dL_law_911 (by decide) ?_
        refine y_sld (j := 1) (v := x1) B0 hX hbl (by decide) e1.symm dL_law_912 ?_
        refine z_aload_n B0 dL_law_913 rfl rfl ?_
        refine z_iload_n B0 dL_law_914 rfl rfl ?_
        refine z_iconst (v := 2) B0 dL_law_915 (by decide) ?_
        refine z_iadd (v := 2) B0 dL_law_916 (by decide) ?_
        refine y_sld (j := 2) (v := x2) B0 hX hbl (by decide) e2.symm dL_law_917 ?_
        refine z_aload_n B0 dL_law_918 rfl rfl ?_
        refine z_iload_n B0 dL_law_919 rfl rfl ?_
        refine z_iconst (v := 3) B0 dL_law_920 (by decide) ?_
        refine z_iadd (v := 3) B0 dL_law_921 (by decide) ?_
        refine y_sld (j := 3) (v := x3) B0 hX hbl (by decide) e3.symm dL_law_922 ?_
        refine z_if_eq_t (tgt := 930) B0 dL_law_923 (by decide) hb3 ?_
        refine z_iconst (v := 0) B0 dL_law_930 (by decide) ?_
        refine z_callM B0 (z_runV (q0 := 0) (As := [.int x1, .int x2, .int 0]) (st := [.int (-1)]) B0 (c_X12_met_5 (a := a2) mS0 x1 x2 ⟨by omega, by omega⟩ ⟨by omega, by omega⟩) cf_X12_met (mw_0 cy a2 mS0) rfl wm_L_108 wi_X12_met ws_X12_met dL_law_931 rfl (Nat.le_of_ble_eq_true rfl) ⟨by decide, by decide, by decide, by decide⟩) (fun r2 u2 p2 => ?_)
        obtain ⟨rfl, -⟩ := p2
        refine z_icmp_eq_t (tgt := 1091) B0 dL_law_934 (by decide) rfl ?_
        exact fin u1 u2
      · refine z_aload_n B0 dL_law_880 rfl rfl ?_
        refine z_aload_n B0 dL_law_881 rfl rfl ?_
        refine z_iload_n B0 dL_law_882 rfl rfl ?_
        refine z_iconst (v := 1) B0 dL_law_883 (by decide) ?_
        refine z_iadd (v := 1) B0 dL_law_884 (by decide) ?_
        refine y_sld (j := 1) (v := x1) B0 hX hbl (by decide) e1.symm dL_law_885 ?_
        refine z_aload_n B0 dL_law_886 rfl rfl ?_
        refine z_iload_n B0 dL_law_887 rfl rfl ?_
        refine z_iconst (v := 2) B0 dL_law_888 (by decide) ?_
        refine z_iadd (v := 2) B0 dL_law_889 (by decide) ?_
        refine y_sld (j := 2) (v := x2) B0 hX hbl (by decide) e2.symm dL_law_890 ?_
        refine z_aload_n B0 dL_law_891 rfl rfl ?_
        refine z_iload_n B0 dL_law_892 rfl rfl ?_
        refine z_iconst (v := 3) B0 dL_law_893 (by decide) ?_
        refine z_iadd (v := 3) B0 dL_law_894 (by decide) ?_
        refine y_sld (j := 3) (v := x3) B0 hX hbl (by decide) e3.symm dL_law_895 ?_
        refine z_if_eq_f (tgt := 903) B0 dL_law_896 (by decide) hb3 ?_
        refine z_iconst (v := 1) B0 dL_law_899 (by decide) ?_
        refine z_goto (tgt := 904) B0 dL_law_900 (by decide) ?_
        refine z_callC B0 (z_runV (q0 := 0) (As := [.int x1, .int x2, .int 1]) (st := []) B0 (c_X11_met_6 (a := a) (cS0 w) x1 x2 ⟨by omega, by omega⟩ ⟨by omega, by omega⟩) cf_X11_met (cw_0 cy tE a rw (cS0 w)) rfl wm_L_104 wi_X11_met ws_X11_met dL_law_904 rfl (Nat.le_of_ble_eq_true rfl) ⟨by decide, by decide, by decide, by decide⟩) (fun r1 u1 p1 => ?_)
        obtain ⟨rfl, -⟩ := p1
        refine z_aload_n B0 dL_law_907 rfl rfl ?_
        refine z_aload_n B0 dL_law_908 rfl rfl ?_
        refine z_iload_n B0 dL_law_909 rfl rfl ?_
        refine z_iconst (v := 1) B0 dL_law_910 (by decide) ?_
        refine z_iadd (v := 1) B0 dL_law_911 (by decide) ?_
        refine y_sld (j := 1) (v := x1) B0 hX hbl (by decide) e1.symm dL_law_912 ?_
        refine z_aload_n B0 dL_law_913 rfl rfl ?_
        refine z_iload_n B0 dL_law_914 rfl rfl ?_
        refine z_iconst (v := 2) B0 dL_law_915 (by decide) ?_
        refine z_iadd (v := 2) B0 dL_law_916 (by decide) ?_
        refine y_sld (j := 2) (v := x2) B0 hX hbl (by decide) e2.symm dL_law_917 ?_
        refine z_aload_n B0 dL_law_918 rfl rfl ?_
        refine z_iload_n B0 dL_law_919 rfl rfl ?_
        refine z_iconst (v := 3) B0 dL_law_920 (by decide) ?_
        refine z_iadd (v := 3) B0 dL_law_921 (by decide) ?_
        refine y_sld (j := 3) (v := x3) B0 hX hbl (by decide) e3.symm dL_law_922 ?_
        refine z_if_eq_f (tgt := 930) B0 dL_law_923 (by decide) hb3 ?_
        refine z_iconst (v := 1) B0 dL_law_926 (by decide) ?_
        refine z_goto (tgt := 931) B0 dL_law_927 (by decide) ?_
        refine z_callM B0 (z_runV (q0 := 0) (As := [.int x1, .int x2, .int 1]) (st := [.int (-1)]) B0 (c_X12_met_6 (a := a2) mS0 x1 x2 ⟨by omega, by omega⟩ ⟨by omega, by omega⟩) cf_X12_met (mw_0 cy a2 mS0) rfl wm_L_108 wi_X12_met ws_X12_met dL_law_931 rfl (Nat.le_of_ble_eq_true rfl) ⟨by decide, by decide, by decide, by decide⟩) (fun r2 u2 p2 => ?_)
        obtain ⟨rfl, -⟩ := p2
        refine z_icmp_eq_t (tgt := 1091) B0 dL_law_934 (by decide) rfl ?_
        exact fin u1 u2
    · obtain rfl : x2 = 0 := Int32.toInt_inj.mp (h2.trans (by decide))
      by_cases hb3 : x3 = 0
      · refine z_aload_n B0 dL_law_880 rfl rfl ?_
        refine z_aload_n B0 dL_law_881 rfl rfl ?_
        refine z_iload_n B0 dL_law_882 rfl rfl ?_
        refine z_iconst (v := 1) B0 dL_law_883 (by decide) ?_
        refine z_iadd (v := 1) B0 dL_law_884 (by decide) ?_
        refine y_sld (j := 1) (v := x1) B0 hX hbl (by decide) e1.symm dL_law_885 ?_
        refine z_aload_n B0 dL_law_886 rfl rfl ?_
        refine z_iload_n B0 dL_law_887 rfl rfl ?_
        refine z_iconst (v := 2) B0 dL_law_888 (by decide) ?_
        refine z_iadd (v := 2) B0 dL_law_889 (by decide) ?_
        refine y_sld (j := 2) (v := 0) B0 hX hbl (by decide) e2.symm dL_law_890 ?_
        refine z_aload_n B0 dL_law_891 rfl rfl ?_
        refine z_iload_n B0 dL_law_892 rfl rfl ?_
        refine z_iconst (v := 3) B0 dL_law_893 (by decide) ?_
        refine z_iadd (v := 3) B0 dL_law_894 (by decide) ?_
        refine y_sld (j := 3) (v := x3) B0 hX hbl (by decide) e3.symm dL_law_895 ?_
        refine z_if_eq_t (tgt := 903) B0 dL_law_896 (by decide) hb3 ?_
        refine z_iconst (v := 0) B0 dL_law_903 (by decide) ?_
        refine z_callC B0 (z_runV (q0 := 0) (As := [.int x1, .int 0, .int 0]) (st := []) B0 (c_X11_met_7 (a := a) (cS0 w) x1 rfl rfl rfl rfl rfl rfl rfl rfl rfl rfl rfl rfl rfl rfl rfl rfl rfl rfl rfl rfl rfl rfl rfl rfl rfl rfl rfl rfl rfl rfl rfl rfl rfl rfl ⟨by omega, by omega⟩) cf_X11_met (cw_0 cy tE a rw (cS0 w)) rfl wm_L_104 wi_X11_met ws_X11_met dL_law_904 rfl (Nat.le_of_ble_eq_true rfl) ⟨by decide, by decide, by decide, by decide⟩) (fun r1 u1 p1 => ?_)
        obtain ⟨rfl, -⟩ := p1
        refine z_aload_n B0 dL_law_907 rfl rfl ?_
        refine z_aload_n B0 dL_law_908 rfl rfl ?_
        refine z_iload_n B0 dL_law_909 rfl rfl ?_
        refine z_iconst (v := 1) B0 dL_law_910 (by decide) ?_
        refine z_iadd (v := 1) B0 dL_law_911 (by decide) ?_
        refine y_sld (j := 1) (v := x1) B0 hX hbl (by decide) e1.symm dL_law_912 ?_
        refine z_aload_n B0 dL_law_913 rfl rfl ?_
        refine z_iload_n B0 dL_law_914 rfl rfl ?_
        refine z_iconst (v := 2) B0 dL_law_915 (by decide) ?_
        refine z_iadd (v := 2) B0 dL_law_916 (by decide) ?_
        refine y_sld (j := 2) (v := 0) B0 hX hbl (by decide) e2.symm dL_law_917 ?_
        refine z_aload_n B0 dL_law_918 rfl rfl ?_
        refine z_iload_n B0 dL_law_919 rfl rfl ?_
        refine z_iconst (v := 3) B0 dL_law_920 (by decide) ?_
        refine z_iadd (v := 3) B0 dL_law_921 (by decide) ?_
        refine y_sld (j := 3) (v := x3) B0 hX hbl (by decide) e3.symm dL_law_922 ?_
        refine z_if_eq_t (tgt := 930) B0 dL_law_923 (by decide) hb3 ?_
        refine z_iconst (v := 0) B0 dL_law_930 (by decide) ?_
        refine z_callM B0 (z_runV (q0 := 0) (As := [.int x1, .int 0, .int 0]) (st := [.int 1]) B0 (c_X12_met_7 (a := a2) mS0 x1 rfl rfl rfl rfl rfl ⟨by omega, by omega⟩) cf_X12_met (mw_0 cy a2 mS0) rfl wm_L_108 wi_X12_met ws_X12_met dL_law_931 rfl (Nat.le_of_ble_eq_true rfl) ⟨by decide, by decide, by decide, by decide⟩) (fun r2 u2 p2 => ?_)
        obtain ⟨rfl, -⟩ := p2
        refine z_icmp_eq_t (tgt := 1091) B0 dL_law_934 (by decide) rfl ?_
        exact fin u1 u2
      · refine z_aload_n B0 dL_law_880 rfl rfl ?_
        refine z_aload_n B0 dL_law_881 rfl rfl ?_
        refine z_iload_n B0 dL_law_882 rfl rfl ?_
        refine z_iconst (v := 1) B0 dL_law_883 (by decide) ?_
        refine z_iadd (v := 1) B0 dL_law_884 (by decide) ?_
        refine y_sld (j := 1) (v := x1) B0 hX hbl (by decide) e1.symm dL_law_885 ?_
        refine z_aload_n B0 dL_law_886 rfl rfl ?_
        refine z_iload_n B0 dL_law_887 rfl rfl ?_
        refine z_iconst (v := 2) B0 dL_law_888 (by decide) ?_
        refine z_iadd (v := 2) B0 dL_law_889 (by decide) ?_
        refine y_sld (j := 2) (v := 0) B0 hX hbl (by decide) e2.symm dL_law_890 ?_
        refine z_aload_n B0 dL_law_891 rfl rfl ?_
        refine z_iload_n B0 dL_law_892 rfl rfl ?_
        refine z_iconst (v := 3) B0 dL_law_893 (by decide) ?_
        refine z_iadd (v := 3) B0 dL_law_894 (by decide) ?_
        refine y_sld (j := 3) (v := x3) B0 hX hbl (by decide) e3.symm dL_law_895 ?_
        refine z_if_eq_f (tgt := 903) B0 dL_law_896 (by decide) hb3 ?_
        refine z_iconst (v := 1) B0 dL_law_899 (by decide) ?_
        refine z_goto (tgt := 904) B0 dL_law_900 (by decide) ?_
        refine z_callC B0 (z_runV (q0 := 0) (As := [.int x1, .int 0, .int 1]) (st := []) B0 (c_X11_met_8 (a := a) (cS0 w) x1 rfl rfl rfl rfl rfl rfl rfl rfl rfl rfl rfl rfl rfl rfl rfl rfl rfl rfl rfl rfl rfl rfl rfl rfl rfl rfl rfl rfl rfl rfl rfl rfl rfl rfl rfl rfl rfl rfl rfl rfl rfl rfl rfl rfl rfl rfl rfl rfl rfl rfl rfl rfl rfl rfl rfl rfl rfl rfl rfl ⟨by omega, by omega⟩) cf_X11_met (cw_0 cy tE a rw (cS0 w)) rfl wm_L_104 wi_X11_met ws_X11_met dL_law_904 rfl (Nat.le_of_ble_eq_true rfl) ⟨by decide, by decide, by decide, by decide⟩) (fun r1 u1 p1 => ?_)
        obtain ⟨rfl, -⟩ := p1
        refine z_aload_n B0 dL_law_907 rfl rfl ?_
        refine z_aload_n B0 dL_law_908 rfl rfl ?_
        refine z_iload_n B0 dL_law_909 rfl rfl ?_
        refine z_iconst (v := 1) B0 dL_law_910 (by decide) ?_
        refine z_iadd (v := 1) B0 dL_law_911 (by decide) ?_
        refine y_sld (j := 1) (v := x1) B0 hX hbl (by decide) e1.symm dL_law_912 ?_
        refine z_aload_n B0 dL_law_913 rfl rfl ?_
        refine z_iload_n B0 dL_law_914 rfl rfl ?_
        refine z_iconst (v := 2) B0 dL_law_915 (by decide) ?_
        refine z_iadd (v := 2) B0 dL_law_916 (by decide) ?_
        refine y_sld (j := 2) (v := 0) B0 hX hbl (by decide) e2.symm dL_law_917 ?_
        refine z_aload_n B0 dL_law_918 rfl rfl ?_
        refine z_iload_n B0 dL_law_919 rfl rfl ?_
        refine z_iconst (v := 3) B0 dL_law_920 (by decide) ?_
        refine z_iadd (v := 3) B0 dL_law_921 (by decide) ?_
        refine y_sld (j := 3) (v := x3) B0 hX hbl (by decide) e3.symm dL_law_922 ?_
        refine z_if_eq_f (tgt := 930) B0 dL_law_923 (by decide) hb3 ?_
        refine z_iconst (v := 1) B0 dL_law_926 (by decide) ?_
        refine z_goto (tgt := 931) B0 dL_law_927 (by decide) ?_
        refine z_callM B0 (z_runV (q0 := 0) (As := [.int x1, .int 0, .int 1]) (st := [.int 1]) B0 (c_X12_met_8 (a := a2) mS0 x1 rfl rfl rfl rfl rfl rfl rfl rfl rfl rfl rfl rfl rfl rfl rfl rfl rfl rfl rfl rfl rfl rfl rfl rfl rfl rfl rfl rfl rfl rfl rfl rfl rfl rfl rfl rfl rfl rfl rfl rfl rfl rfl rfl rfl rfl rfl rfl rfl rfl rfl rfl rfl rfl rfl rfl rfl rfl rfl rfl rfl rfl rfl rfl rfl rfl rfl rfl rfl rfl rfl rfl rfl rfl rfl rfl rfl rfl rfl rfl rfl rfl rfl rfl rfl rfl rfl rfl ⟨by omega, by omega⟩) cf_X12_met (mw_0 cy a2 mS0) rfl wm_L_108 wi_X12_met ws_X12_met dL_law_931 rfl (Nat.le_of_ble_eq_true rfl) ⟨by decide, by decide, by decide, by decide⟩) (fun r2 u2 p2 => ?_)
        obtain ⟨rfl, -⟩ := p2
        refine z_icmp_eq_t (tgt := 1091) B0 dL_law_934 (by decide) rfl ?_
        exact fin u1 u2
    · by_cases hb3 : x3 = 0
      · refine z_aload_n B0 dL_law_880 rfl rfl ?_
        refine z_aload_n B0 dL_law_881 rfl rfl ?_
        refine z_iload_n B0 dL_law_882 rfl rfl ?_
        refine z_iconst (v := 1) B0 dL_law_883 (by decide) ?_
        refine z_iadd (v := 1) B0 dL_law_884 (by decide) ?_
        refine y_sld (j := 1) (v := x1) B0 hX hbl (by decide) e1.symm dL_law_885 ?_
        refine z_aload_n B0 dL_law_886 rfl rfl ?_
        refine z_iload_n B0 dL_law_887 rfl rfl ?_
        refine z_iconst (v := 2) B0 dL_law_888 (by decide) ?_
        refine z_iadd (v := 2) B0 dL_law_889 (by decide) ?_
        refine y_sld (j := 2) (v := x2) B0 hX hbl (by decide) e2.symm dL_law_890 ?_
        refine z_aload_n B0 dL_law_891 rfl rfl ?_
        refine z_iload_n B0 dL_law_892 rfl rfl ?_
        refine z_iconst (v := 3) B0 dL_law_893 (by decide) ?_
        refine z_iadd (v := 3) B0 dL_law_894 (by decide) ?_
        refine y_sld (j := 3) (v := x3) B0 hX hbl (by decide) e3.symm dL_law_895 ?_
        refine z_if_eq_t (tgt := 903) B0 dL_law_896 (by decide) hb3 ?_
        refine z_iconst (v := 0) B0 dL_law_903 (by decide) ?_
        refine z_callC B0 (z_runV (q0 := 0) (As := [.int x1, .int x2, .int 0]) (st := []) B0 (c_X11_met_9 (a := a) (cS0 w) x1 x2 rfl rfl rfl rfl rfl rfl rfl rfl rfl rfl rfl rfl rfl rfl rfl rfl rfl rfl rfl rfl rfl rfl rfl rfl rfl rfl rfl rfl rfl rfl rfl rfl rfl rfl rfl rfl rfl rfl rfl rfl rfl rfl rfl rfl rfl rfl rfl rfl rfl rfl rfl rfl rfl rfl rfl rfl rfl rfl ⟨by omega, by omega⟩ ⟨by omega, by omega⟩) cf_X11_met (cw_0 cy tE a rw (cS0 w)) rfl wm_L_104 wi_X11_met ws_X11_met dL_law_904 rfl (Nat.le_of_ble_eq_true rfl) ⟨by decide, by decide, by decide, by decide⟩) (fun r1 u1 p1 => ?_)
        obtain rfl : 1 = r1 := by rcases p1 with ⟨-, h, -⟩ | ⟨-, h, -⟩ <;> exact h
        refine z_aload_n B0 dL_law_907 rfl rfl ?_
        refine z_aload_n B0 dL_law_908 rfl rfl ?_
        refine z_iload_n B0 dL_law_909 rfl rfl ?_
        refine z_iconst (v := 1) B0 dL_law_910 (by decide) ?_
        refine z_iadd (v := 1) B0 dL_law_911 (by decide) ?_
        refine y_sld (j := 1) (v := x1) B0 hX hbl (by decide) e1.symm dL_law_912 ?_
        refine z_aload_n B0 dL_law_913 rfl rfl ?_
        refine z_iload_n B0 dL_law_914 rfl rfl ?_
        refine z_iconst (v := 2) B0 dL_law_915 (by decide) ?_
        refine z_iadd (v := 2) B0 dL_law_916 (by decide) ?_
        refine y_sld (j := 2) (v := x2) B0 hX hbl (by decide) e2.symm dL_law_917 ?_
        refine z_aload_n B0 dL_law_918 rfl rfl ?_
        refine z_iload_n B0 dL_law_919 rfl rfl ?_
        refine z_iconst (v := 3) B0 dL_law_920 (by decide) ?_
        refine z_iadd (v := 3) B0 dL_law_921 (by decide) ?_
        refine y_sld (j := 3) (v := x3) B0 hX hbl (by decide) e3.symm dL_law_922 ?_
        refine z_if_eq_t (tgt := 930) B0 dL_law_923 (by decide) hb3 ?_
        refine z_iconst (v := 0) B0 dL_law_930 (by decide) ?_
        refine z_callM B0 (z_runV (q0 := 0) (As := [.int x1, .int x2, .int 0]) (st := [.int 1]) B0 (c_X12_met_9 (a := a2) mS0 x1 x2 rfl rfl rfl rfl rfl rfl rfl ⟨by omega, by omega⟩ ⟨by omega, by omega⟩) cf_X12_met (mw_0 cy a2 mS0) rfl wm_L_108 wi_X12_met ws_X12_met dL_law_931 rfl (Nat.le_of_ble_eq_true rfl) ⟨by decide, by decide, by decide, by decide⟩) (fun r2 u2 p2 => ?_)
        obtain ⟨rfl, -⟩ := p2
        refine z_icmp_eq_t (tgt := 1091) B0 dL_law_934 (by decide) rfl ?_
        exact fin u1 u2
      · refine z_aload_n B0 dL_law_880 rfl rfl ?_
        refine z_aload_n B0 dL_law_881 rfl rfl ?_
        refine z_iload_n B0 dL_law_882 rfl rfl ?_
        refine z_iconst (v := 1) B0 dL_law_883 (by decide) ?_
        refine z_iadd (v := 1) B0 dL_law_884 (by decide) ?_
        refine y_sld (j := 1) (v := x1) B0 hX hbl (by decide) e1.symm dL_law_885 ?_
        refine z_aload_n B0 dL_law_886 rfl rfl ?_
        refine z_iload_n B0 dL_law_887 rfl rfl ?_
        refine z_iconst (v := 2) B0 dL_law_888 (by decide) ?_
        refine z_iadd (v := 2) B0 dL_law_889 (by decide) ?_
        refine y_sld (j := 2) (v := x2) B0 hX hbl (by decide) e2.symm dL_law_890 ?_
        refine z_aload_n B0 dL_law_891 rfl rfl ?_
        refine z_iload_n B0 dL_law_892 rfl rfl ?_
        refine z_iconst (v := 3) B0 dL_law_893 (by decide) ?_
        refine z_iadd (v := 3) B0 dL_law_894 (by decide) ?_
        refine y_sld (j := 3) (v := x3) B0 hX hbl (by decide) e3.symm dL_law_895 ?_
        refine z_if_eq_f (tgt := 903) B0 dL_law_896 (by decide) hb3 ?_
        refine z_iconst (v := 1) B0 dL_law_899 (by decide) ?_
        refine z_goto (tgt := 904) B0 dL_law_900 (by decide) ?_
        refine z_callC B0 (z_runV (q0 := 0) (As := [.int x1, .int x2, .int 1]) (st := []) B0 (c_X11_met_10 (a := a) (cS0 w) x1 x2 rfl rfl rfl rfl rfl rfl rfl rfl rfl rfl rfl rfl rfl rfl rfl rfl rfl rfl rfl rfl rfl rfl rfl rfl rfl rfl rfl rfl rfl rfl rfl rfl rfl rfl rfl rfl rfl rfl rfl rfl rfl rfl rfl rfl rfl rfl rfl rfl rfl rfl rfl rfl rfl rfl rfl rfl rfl rfl ⟨by omega, by omega⟩ ⟨by omega, by omega⟩) cf_X11_met (cw_0 cy tE a rw (cS0 w)) rfl wm_L_104 wi_X11_met ws_X11_met dL_law_904 rfl (Nat.le_of_ble_eq_true rfl) ⟨by decide, by decide, by decide, by decide⟩) (fun r1 u1 p1 => ?_)
        obtain rfl : 1 = r1 := by rcases p1 with ⟨-, h, -⟩ | ⟨-, h, -⟩ <;> exact h
        refine z_aload_n B0 dL_law_907 rfl rfl ?_
        refine z_aload_n B0 dL_law_908 rfl rfl ?_
        refine z_iload_n B0 dL_law_909 rfl rfl ?_
        refine z_iconst (v := 1) B0 dL_law_910 (by decide) ?_
        refine z_iadd (v := 1) B0 dL_law_911 (by decide) ?_
        refine y_sld (j := 1) (v := x1) B0 hX hbl (by decide) e1.symm dL_law_912 ?_
        refine z_aload_n B0 dL_law_913 rfl rfl ?_
        refine z_iload_n B0 dL_law_914 rfl rfl ?_
        refine z_iconst (v := 2) B0 dL_law_915 (by decide) ?_
        refine z_iadd (v := 2) B0 dL_law_916 (by decide) ?_
        refine y_sld (j := 2) (v := x2) B0 hX hbl (by decide) e2.symm dL_law_917 ?_
        refine z_aload_n B0 dL_law_918 rfl rfl ?_
        refine z_iload_n B0 dL_law_919 rfl rfl ?_
        refine z_iconst (v := 3) B0 dL_law_920 (by decide) ?_
        refine z_iadd (v := 3) B0 dL_law_921 (by decide) ?_
        refine y_sld (j := 3) (v := x3) B0 hX hbl (by decide) e3.symm dL_law_922 ?_
        refine z_if_eq_f (tgt := 930) B0 dL_law_923 (by decide) hb3 ?_
        refine z_iconst (v := 1) B0 dL_law_926 (by decide) ?_
        refine z_goto (tgt := 931) B0 dL_law_927 (by decide) ?_
        refine z_callM B0 (z_runV (q0 := 0) (As := [.int x1, .int x2, .int 1]) (st := [.int 1]) B0 (c_X12_met_10 (a := a2) mS0 x1 x2 rfl rfl rfl rfl rfl rfl rfl rfl rfl rfl rfl rfl rfl rfl rfl rfl rfl rfl rfl rfl rfl rfl rfl rfl rfl rfl rfl rfl rfl rfl rfl rfl rfl rfl rfl rfl rfl rfl rfl rfl rfl rfl rfl rfl rfl rfl rfl rfl rfl rfl rfl rfl rfl rfl rfl rfl rfl rfl rfl rfl rfl rfl rfl rfl rfl rfl rfl rfl rfl rfl rfl rfl rfl rfl rfl rfl rfl rfl rfl rfl rfl rfl rfl rfl rfl rfl rfl rfl rfl ⟨by omega, by omega⟩ ⟨by omega, by omega⟩) cf_X12_met (mw_0 cy a2 mS0) rfl wm_L_108 wi_X12_met ws_X12_met dL_law_931 rfl (Nat.le_of_ble_eq_true rfl) ⟨by decide, by decide, by decide, by decide⟩) (fun r2 u2 p2 => ?_)
        obtain ⟨rfl, -⟩ := p2
        refine z_icmp_eq_t (tgt := 1091) B0 dL_law_934 (by decide) rfl ?_
        exact fin u1 u2
    · by_cases hb3 : x3 = 0
      · refine z_aload_n B0 dL_law_880 rfl rfl ?_
        refine z_aload_n B0 dL_law_881 rfl rfl ?_
        refine z_iload_n B0 dL_law_882 rfl rfl ?_
        refine z_iconst (v := 1) B0 dL_law_883 (by decide) ?_
        refine z_iadd (v := 1) B0 dL_law_884 (by decide) ?_
        refine y_sld (j := 1) (v := x1) B0 hX hbl (by decide) e1.symm dL_law_885 ?_
        refine z_aload_n B0 dL_law_886 rfl rfl ?_
        refine z_iload_n B0 dL_law_887 rfl rfl ?_
        refine z_iconst (v := 2) B0 dL_law_888 (by decide) ?_
        refine z_iadd (v := 2) B0 dL_law_889 (by decide) ?_
        refine y_sld (j := 2) (v := x2) B0 hX hbl (by decide) e2.symm dL_law_890 ?_
        refine z_aload_n B0 dL_law_891 rfl rfl ?_
        refine z_iload_n B0 dL_law_892 rfl rfl ?_
        refine z_iconst (v := 3) B0 dL_law_893 (by decide) ?_
        refine z_iadd (v := 3) B0 dL_law_894 (by decide) ?_
        refine y_sld (j := 3) (v := x3) B0 hX hbl (by decide) e3.symm dL_law_895 ?_
        refine z_if_eq_t (tgt := 903) B0 dL_law_896 (by decide) hb3 ?_
        refine z_iconst (v := 0) B0 dL_law_903 (by decide) ?_
        refine z_callC B0 (z_runV (q0 := 0) (As := [.int x1, .int x2, .int 0]) (st := []) B0 (c_X11_met_11 (a := a) (cS0 w) x1 x2 ⟨by omega, by omega⟩ ⟨by omega, by omega⟩) cf_X11_met (cw_0 cy tE a rw (cS0 w)) rfl wm_L_104 wi_X11_met ws_X11_met dL_law_904 rfl (Nat.le_of_ble_eq_true rfl) ⟨by decide, by decide, by decide, by decide⟩) (fun r1 u1 p1 => ?_)
        obtain ⟨rfl, -⟩ := p1
        refine z_aload_n B0 dL_law_907 rfl rfl ?_
        refine z_aload_n B0 dL_law_908 rfl rfl ?_
        refine z_iload_n B0 dL_law_909 rfl rfl ?_
        refine z_iconst (v := 1) B0 dL_law_910 (by decide) ?_
        refine z_iadd (v := 1) B0 dL_law_911 (by decide) ?_
        refine y_sld (j := 1) (v := x1) B0 hX hbl (by decide) e1.symm dL_law_912 ?_
        refine z_aload_n B0 dL_law_913 rfl rfl ?_
        refine z_iload_n B0 dL_law_914 rfl rfl ?_
        refine z_iconst (v := 2) B0 dL_law_915 (by decide) ?_
        refine z_iadd (v := 2) B0 dL_law_916 (by decide) ?_
        refine y_sld (j := 2) (v := x2) B0 hX hbl (by decide) e2.symm dL_law_917 ?_
        refine z_aload_n B0 dL_law_918 rfl rfl ?_
        refine z_iload_n B0 dL_law_919 rfl rfl ?_
        refine z_iconst (v := 3) B0 dL_law_920 (by decide) ?_
        refine z_iadd (v := 3) B0 dL_law_921 (by decide) ?_
        refine y_sld (j := 3) (v := x3) B0 hX hbl (by decide) e3.symm dL_law_922 ?_
        refine z_if_eq_t (tgt := 930) B0 dL_law_923 (by decide) hb3 ?_
        refine z_iconst (v := 0) B0 dL_law_930 (by decide) ?_
        refine z_callM B0 (z_runV (q0 := 0) (As := [.int x1, .int x2, .int 0]) (st := [.int (-1)]) B0 (c_X12_met_11 (a := a2) mS0 x1 x2 ⟨by omega, by omega⟩ ⟨by omega, by omega⟩) cf_X12_met (mw_0 cy a2 mS0) rfl wm_L_108 wi_X12_met ws_X12_met dL_law_931 rfl (Nat.le_of_ble_eq_true rfl) ⟨by decide, by decide, by decide, by decide⟩) (fun r2 u2 p2 => ?_)
        obtain ⟨rfl, -⟩ := p2
        refine z_icmp_eq_t (tgt := 1091) B0 dL_law_934 (by decide) rfl ?_
        exact fin u1 u2
      · refine z_aload_n B0 dL_law_880 rfl rfl ?_
        refine z_aload_n B0 dL_law_881 rfl rfl ?_
        refine z_iload_n B0 dL_law_882 rfl rfl ?_
        refine z_iconst (v := 1) B0 dL_law_883 (by decide) ?_
        refine z_iadd (v := 1) B0 dL_law_884 (by decide) ?_
        refine y_sld (j := 1) (v := x1) B0 hX hbl (by decide) e1.symm dL_law_885 ?_
        refine z_aload_n B0 dL_law_886 rfl rfl ?_
        refine z_iload_n B0 dL_law_887 rfl rfl ?_
        refine z_iconst (v := 2) B0 dL_law_888 (by decide) ?_
        refine z_iadd (v := 2) B0 dL_law_889 (by decide) ?_
        refine y_sld (j := 2) (v := x2) B0 hX hbl (by decide) e2.symm dL_law_890 ?_
        refine z_aload_n B0 dL_law_891 rfl rfl ?_
        refine z_iload_n B0 dL_law_892 rfl rfl ?_
        refine z_iconst (v := 3) B0 dL_law_893 (by decide) ?_
        refine z_iadd (v := 3) B0 dL_law_894 (by decide) ?_
        refine y_sld (j := 3) (v := x3) B0 hX hbl (by decide) e3.symm dL_law_895 ?_
        refine z_if_eq_f (tgt := 903) B0 dL_law_896 (by decide) hb3 ?_
        refine z_iconst (v := 1) B0 dL_law_899 (by decide) ?_
        refine z_goto (tgt := 904) B0 dL_law_900 (by decide) ?_
        refine z_callC B0 (z_runV (q0 := 0) (As := [.int x1, .int x2, .int 1]) (st := []) B0 (c_X11_met_12 (a := a) (cS0 w) x1 x2 ⟨by omega, by omega⟩ ⟨by omega, by omega⟩) cf_X11_met (cw_0 cy tE a rw (cS0 w)) rfl wm_L_104 wi_X11_met ws_X11_met dL_law_904 rfl (Nat.le_of_ble_eq_true rfl) ⟨by decide, by decide, by decide, by decide⟩) (fun r1 u1 p1 => ?_)
        obtain ⟨rfl, -⟩ := p1
        refine z_aload_n B0 dL_law_907 rfl rfl ?_
        refine z_aload_n B0 dL_law_908 rfl rfl ?_
        refine z_iload_n B0 dL_law_909 rfl rfl ?_
        refine z_iconst (v := 1) B0 dL_law_910 (by decide) ?_
        refine z_iadd (v := 1) B0 dL_law_911 (by decide) ?_
        refine y_sld (j := 1) (v := x1) B0 hX hbl (by decide) e1.symm dL_law_912 ?_
        refine z_aload_n B0 dL_law_913 rfl rfl ?_
        refine z_iload_n B0 dL_law_914 rfl rfl ?_
        refine z_iconst (v := 2) B0 dL_law_915 (by decide) ?_
        refine z_iadd (v := 2) B0 dL_law_916 (by decide) ?_
        refine y_sld (j := 2) (v := x2) B0 hX hbl (by decide) e2.symm dL_law_917 ?_
        refine z_aload_n B0 dL_law_918 rfl rfl ?_
        refine z_iload_n B0 dL_law_919 rfl rfl ?_
        refine z_iconst (v := 3) B0 dL_law_920 (by decide) ?_
        refine z_iadd (v := 3) B0 dL_law_921 (by decide) ?_
        refine y_sld (j := 3) (v := x3) B0 hX hbl (by decide) e3.symm dL_law_922 ?_
        refine z_if_eq_f (tgt := 930) B0 dL_law_923 (by decide) hb3 ?_
        refine z_iconst (v := 1) B0 dL_law_926 (by decide) ?_
        refine z_goto (tgt := 931) B0 dL_law_927 (by decide) ?_
        refine z_callM B0 (z_runV (q0 := 0) (As := [.int x1, .int x2, .int 1]) (st := [.int (-1)]) B0 (c_X12_met_12 (a := a2) mS0 x1 x2 ⟨by omega, by omega⟩ ⟨by omega, by omega⟩) cf_X12_met (mw_0 cy a2 mS0) rfl wm_L_108 wi_X12_met ws_X12_met dL_law_931 rfl (Nat.le_of_ble_eq_true rfl) ⟨by decide, by decide, by decide, by decide⟩) (fun r2 u2 p2 => ?_)
        obtain ⟨rfl, -⟩ := p2
        refine z_icmp_eq_t (tgt := 1091) B0 dL_law_934 (by decide) rfl ?_
        exact fin u1 u2
  · by_cases hb3 : x3 = 0
    · refine z_aload_n B0 dL_law_880 rfl rfl ?_
      refine z_aload_n B0 dL_law_881 rfl rfl ?_
      refine z_iload_n B0 dL_law_882 rfl rfl ?_
      refine z_iconst (v := 1) B0 dL_law_883 (by decide) ?_
      refine z_iadd (v := 1) B0 dL_law_884 (by decide) ?_
      refine y_sld (j := 1) (v := x1) B0 hX hbl (by decide) e1.symm dL_law_885 ?_
      refine z_aload_n B0 dL_law_886 rfl rfl ?_
      refine z_iload_n B0 dL_law_887 rfl rfl ?_
      refine z_iconst (v := 2) B0 dL_law_888 (by decide) ?_
      refine z_iadd (v := 2) B0 dL_law_889 (by decide) ?_
      refine y_sld (j := 2) (v := x2) B0 hX hbl (by decide) e2.symm dL_law_890 ?_
      refine z_aload_n B0 dL_law_891 rfl rfl ?_
      refine z_iload_n B0 dL_law_892 rfl rfl ?_
      refine z_iconst (v := 3) B0 dL_law_893 (by decide) ?_
      refine z_iadd (v := 3) B0 dL_law_894 (by decide) ?_
      refine y_sld (j := 3) (v := x3) B0 hX hbl (by decide) e3.symm dL_law_895 ?_
      refine z_if_eq_t (tgt := 903) B0 dL_law_896 (by decide) hb3 ?_
      refine z_iconst (v := 0) B0 dL_law_903 (by decide) ?_
      refine z_callC B0 (z_runV (q0 := 0) (As := [.int x1, .int x2, .int 0]) (st := []) B0 (c_X11_met_3 (a := a) (cS0 w) x1 x2 ⟨by omega, by omega⟩) cf_X11_met (cw_0 cy tE a rw (cS0 w)) rfl wm_L_104 wi_X11_met ws_X11_met dL_law_904 rfl (Nat.le_of_ble_eq_true rfl) ⟨by decide, by decide, by decide, by decide⟩) (fun r1 u1 p1 => ?_)
      obtain ⟨rfl, -⟩ := p1
      refine z_aload_n B0 dL_law_907 rfl rfl ?_
      refine z_aload_n B0 dL_law_908 rfl rfl ?_
      refine z_iload_n B0 dL_law_909 rfl rfl ?_
      refine z_iconst (v := 1) B0 dL_law_910 (by decide) ?_
      refine z_iadd (v := 1) B0 dL_law_911 (by decide) ?_
      refine y_sld (j := 1) (v := x1) B0 hX hbl (by decide) e1.symm dL_law_912 ?_
      refine z_aload_n B0 dL_law_913 rfl rfl ?_
      refine z_iload_n B0 dL_law_914 rfl rfl ?_
      refine z_iconst (v := 2) B0 dL_law_915 (by decide) ?_
      refine z_iadd (v := 2) B0 dL_law_916 (by decide) ?_
      refine y_sld (j := 2) (v := x2) B0 hX hbl (by decide) e2.symm dL_law_917 ?_
      refine z_aload_n B0 dL_law_918 rfl rfl ?_
      refine z_iload_n B0 dL_law_919 rfl rfl ?_
      refine z_iconst (v := 3) B0 dL_law_920 (by decide) ?_
      refine z_iadd (v := 3) B0 dL_law_921 (by decide) ?_
      refine y_sld (j := 3) (v := x3) B0 hX hbl (by decide) e3.symm dL_law_922 ?_
      refine z_if_eq_t (tgt := 930) B0 dL_law_923 (by decide) hb3 ?_
      refine z_iconst (v := 0) B0 dL_law_930 (by decide) ?_
      refine z_callM B0 (z_runV (q0 := 0) (As := [.int x1, .int x2, .int 0]) (st := [.int (-1)]) B0 (c_X12_met_3 (a := a2) mS0 x1 x2 ⟨by omega, by omega⟩) cf_X12_met (mw_0 cy a2 mS0) rfl wm_L_108 wi_X12_met ws_X12_met dL_law_931 rfl (Nat.le_of_ble_eq_true rfl) ⟨by decide, by decide, by decide, by decide⟩) (fun r2 u2 p2 => ?_)
      obtain ⟨rfl, -⟩ := p2
      refine z_icmp_eq_t (tgt := 1091) B0 dL_law_934 (by decide) rfl ?_
      exact fin u1 u2
    · refine z_aload_n B0 dL_law_880 rfl rfl ?_
      refine z_aload_n B0 dL_law_881 rfl rfl ?_
      refine z_iload_n B0 dL_law_882 rfl rfl ?_
      refine z_iconst (v := 1) B0 dL_law_883 (by decide) ?_
      refine z_iadd (v := 1) B0 dL_law_884 (by decide) ?_
      refine y_sld (j := 1) (v := x1) B0 hX hbl (by decide) e1.symm dL_law_885 ?_
      refine z_aload_n B0 dL_law_886 rfl rfl ?_
      refine z_iload_n B0 dL_law_887 rfl rfl ?_
      refine z_iconst (v := 2) B0 dL_law_888 (by decide) ?_
      refine z_iadd (v := 2) B0 dL_law_889 (by decide) ?_
      refine y_sld (j := 2) (v := x2) B0 hX hbl (by decide) e2.symm dL_law_890 ?_
      refine z_aload_n B0 dL_law_891 rfl rfl ?_
      refine z_iload_n B0 dL_law_892 rfl rfl ?_
      refine z_iconst (v := 3) B0 dL_law_893 (by decide) ?_
      refine z_iadd (v := 3) B0 dL_law_894 (by decide) ?_
      refine y_sld (j := 3) (v := x3) B0 hX hbl (by decide) e3.symm dL_law_895 ?_
      refine z_if_eq_f (tgt := 903) B0 dL_law_896 (by decide) hb3 ?_
      refine z_iconst (v := 1) B0 dL_law_899 (by decide) ?_
      refine z_goto (tgt := 904) B0 dL_law_900 (by decide) ?_
      refine z_callC B0 (z_runV (q0 := 0) (As := [.int x1, .int x2, .int 1]) (st := []) B0 (c_X11_met_4 (a := a) (cS0 w) x1 x2 ⟨by omega, by omega⟩) cf_X11_met (cw_0 cy tE a rw (cS0 w)) rfl wm_L_104 wi_X11_met ws_X11_met dL_law_904 rfl (Nat.le_of_ble_eq_true rfl) ⟨by decide, by decide, by decide, by decide⟩) (fun r1 u1 p1 => ?_)
      obtain ⟨rfl, -⟩ := p1
      refine z_aload_n B0 dL_law_907 rfl rfl ?_
      refine z_aload_n B0 dL_law_908 rfl rfl ?_
      refine z_iload_n B0 dL_law_909 rfl rfl ?_
      refine z_iconst (v := 1) B0 dL_law_910 (by decide) ?_
      refine z_iadd (v := 1) B0 dL_law_911 (by decide) ?_
      refine y_sld (j := 1) (v := x1) B0 hX hbl (by decide) e1.symm dL_law_912 ?_
      refine z_aload_n B0 dL_law_913 rfl rfl ?_
      refine z_iload_n B0 dL_law_914 rfl rfl ?_
      refine z_iconst (v := 2) B0 dL_law_915 (by decide) ?_
      refine z_iadd (v := 2) B0 dL_law_916 (by decide) ?_
      refine y_sld (j := 2) (v := x2) B0 hX hbl (by decide) e2.symm dL_law_917 ?_
      refine z_aload_n B0 dL_law_918 rfl rfl ?_
      refine z_iload_n B0 dL_law_919 rfl rfl ?_
      refine z_iconst (v := 3) B0 dL_law_920 (by decide) ?_
      refine z_iadd (v := 3) B0 dL_law_921 (by decide) ?_
      refine y_sld (j := 3) (v := x3) B0 hX hbl (by decide) e3.symm dL_law_922 ?_
      refine z_if_eq_f (tgt := 930) B0 dL_law_923 (by decide) hb3 ?_
      refine z_iconst (v := 1) B0 dL_law_926 (by decide) ?_
      refine z_goto (tgt := 931) B0 dL_law_927 (by decide) ?_
      refine z_callM B0 (z_runV (q0 := 0) (As := [.int x1, .int x2, .int 1]) (st := [.int (-1)]) B0 (c_X12_met_4 (a := a2) mS0 x1 x2 ⟨by omega, by omega⟩) cf_X12_met (mw_0 cy a2 mS0) rfl wm_L_108 wi_X12_met ws_X12_met dL_law_931 rfl (Nat.le_of_ble_eq_true rfl) ⟨by decide, by decide, by decide, by decide⟩) (fun r2 u2 p2 => ?_)
      obtain ⟨rfl, -⟩ := p2
      refine z_icmp_eq_t (tgt := 1091) B0 dL_law_934 (by decide) rfl ?_
      exact fin u1 u2

set_option maxHeartbeats 8000000 in
set_option maxRecDepth 100000 in
theorem lo_gain {p : Program} {l : Launch} {e : Env} {s : State} {m : MethodId} {below : List Frame} {meth : Method} {c : Code} {D : va_G} {cy : Nat → ClassId} {tB tE b : Nat} {a a2 : Nat → Nat} {rw : Nat → Option Nat} {xs : Nat → Int32} (B0 : Bz p room_1 s m #[Value.ref b] meth c D cy s.heap.size tB tE (fun q => s.heap.size ≤ q) 4 cL_law RL meth.sig.returnType meth.name 2048 84000 600000 7302250) (hX : va_X b 6 xs s s.heap) (hbl : b < s.heap.size) (hrw : ∀ i, i < 6 → rw i = some (a (36 + 2 * i))) (w : Nat → Int64) (fin : ∀ S S9 : GS, Z p l e room_1 s m #[Value.ref b] below meth c D (fun q => s.heap.size ≤ q) 4 (lw_Z below #[Value.ref b] s) 200 60000 (cw cy tE a rw S ++ mw cy a2 S9) [(3, .int 0), (2, .ref (a2 0)), (1, .ref (a 0)), (0, .ref b)] 1091 []) : Z p l e room_1 s m #[Value.ref b] below meth c D (fun q => s.heap.size ≤ q) 4 (lw_Z below #[Value.ref b] s) 200 60000 (cw cy tE a rw (cS0 w) ++ mw cy a2 mS0) [(3, .int 0), (2, .ref (a2 0)), (1, .ref (a 0)), (0, .ref b)] 939 [] := by
  obtain ⟨x1, e1⟩ : ∃ x, x = xs 1 := ⟨_, rfl⟩
  obtain ⟨x2, e2⟩ : ∃ x, x = xs 2 := ⟨_, rfl⟩
  obtain ⟨x3, e3⟩ : ∃ x, x = xs 3 := ⟨_, rfl⟩
  obtain ⟨x4, e4⟩ : ∃ x, x = xs 4 := ⟨_, rfl⟩
  rcases (show ((-2147483648) ≤ x1.toInt ∧ x1.toInt ≤ (-1)) ∨ x1.toInt = 0 ∨ x1.toInt = 1 ∨ x1.toInt = 2 ∨ (3 ≤ x1.toInt ∧ x1.toInt ≤ 2147483647) by have g1 := Int32.le_toInt x1; have g2 := Int32.toInt_lt x1; omega) with h1 | h1 | h1 | h1 | h1
  · refine z_aload_n B0 dL_law_939 rfl rfl ?_
    refine z_aload_n B0 dL_law_940 rfl rfl ?_
    refine z_iload_n B0 dL_law_941 rfl rfl ?_
    refine z_iconst (v := 1) B0 dL_law_942 (by decide) ?_
    refine z_iadd (v := 1) B0 dL_law_943 (by decide) ?_
    refine y_sld (j := 1) (v := x1) B0 hX hbl (by decide) e1.symm dL_law_944 ?_
    refine z_aload_n B0 dL_law_945 rfl rfl ?_
    refine z_iload_n B0 dL_law_946 rfl rfl ?_
    refine z_iconst (v := 2) B0 dL_law_947 (by decide) ?_
    refine z_iadd (v := 2) B0 dL_law_948 (by decide) ?_
    refine y_sld (j := 2) (v := x2) B0 hX hbl (by decide) e2.symm dL_law_949 ?_
    refine z_aload_n B0 dL_law_950 rfl rfl ?_
    refine z_iload_n B0 dL_law_951 rfl rfl ?_
    refine z_iconst (v := 3) B0 dL_law_952 (by decide) ?_
    refine z_iadd (v := 3) B0 dL_law_953 (by decide) ?_
    refine y_sld (j := 3) (v := x3) B0 hX hbl (by decide) e3.symm dL_law_954 ?_
    refine z_aload_n B0 dL_law_955 rfl rfl ?_
    refine z_iload_n B0 dL_law_956 rfl rfl ?_
    refine z_iconst (v := 4) B0 dL_law_957 (by decide) ?_
    refine z_iadd (v := 4) B0 dL_law_958 (by decide) ?_
    refine y_sld (j := 4) (v := x4) B0 hX hbl (by decide) e4.symm dL_law_959 ?_
    refine z_callC B0 (z_runV (q0 := 0) (As := [.int x1, .int x2, .int x3, .int x4]) (st := []) B0 (c_X11_gain (a := a) (cS0 w) x1 x2 x3 x4 ⟨by omega, by omega⟩) cf_X11_gain (cw_0 cy tE a rw (cS0 w)) rfl wm_L_109 wi_X11_gain ws_X11_gain dL_law_960 rfl (Nat.le_of_ble_eq_true rfl) ⟨by decide, by decide, by decide, by decide⟩) (fun r1 u1 p1 => ?_)
    obtain ⟨rfl, -⟩ := p1
    refine z_aload_n B0 dL_law_963 rfl rfl ?_
    refine z_aload_n B0 dL_law_964 rfl rfl ?_
    refine z_iload_n B0 dL_law_965 rfl rfl ?_
    refine z_iconst (v := 1) B0 dL_law_966 (by decide) ?_
    refine z_iadd (v := 1) B0 dL_law_967 (by decide) ?_
    refine y_sld (j := 1) (v := x1) B0 hX hbl (by decide) e1.symm dL_law_968 ?_
    refine z_aload_n B0 dL_law_969 rfl rfl ?_
    refine z_iload_n B0 dL_law_970 rfl rfl ?_
    refine z_iconst (v := 2) B0 dL_law_971 (by decide) ?_
    refine z_iadd (v := 2) B0 dL_law_972 (by decide) ?_
    refine y_sld (j := 2) (v := x2) B0 hX hbl (by decide) e2.symm dL_law_973 ?_
    refine z_aload_n B0 dL_law_974 rfl rfl ?_
    refine z_iload_n B0 dL_law_975 rfl rfl ?_
    refine z_iconst (v := 3) B0 dL_law_976 (by decide) ?_
    refine z_iadd (v := 3) B0 dL_law_977 (by decide) ?_
    refine y_sld (j := 3) (v := x3) B0 hX hbl (by decide) e3.symm dL_law_978 ?_
    refine z_aload_n B0 dL_law_979 rfl rfl ?_
    refine z_iload_n B0 dL_law_980 rfl rfl ?_
    refine z_iconst (v := 4) B0 dL_law_981 (by decide) ?_
    refine z_iadd (v := 4) B0 dL_law_982 (by decide) ?_
    refine y_sld (j := 4) (v := x4) B0 hX hbl (by decide) e4.symm dL_law_983 ?_
    refine z_callM B0 (z_runV (q0 := 0) (As := [.int x1, .int x2, .int x3, .int x4]) (st := [.int (-100)]) B0 (c_X12_gain (a := a2) mS0 x1 x2 x3 x4 ⟨by omega, by omega⟩) cf_X12_gain (mw_0 cy a2 mS0) rfl wm_L_112 wi_X12_gain ws_X12_gain dL_law_984 rfl (Nat.le_of_ble_eq_true rfl) ⟨by decide, by decide, by decide, by decide⟩) (fun r2 u2 p2 => ?_)
    obtain ⟨rfl, -⟩ := p2
    refine z_icmp_eq_t (tgt := 1091) B0 dL_law_987 (by decide) rfl ?_
    exact fin u1 u2
  · obtain rfl : x1 = 0 := Int32.toInt_inj.mp (h1.trans (by decide))
    rcases (show ((-2147483648) ≤ x2.toInt ∧ x2.toInt ≤ 0) ∨ (1 ≤ x2.toInt ∧ x2.toInt ≤ 3) ∨ (4 ≤ x2.toInt ∧ x2.toInt ≤ 2147483647) by have g1 := Int32.le_toInt x2; have g2 := Int32.toInt_lt x2; omega) with h2 | h2 | h2
    · refine z_aload_n B0 dL_law_939 rfl rfl ?_
      refine z_aload_n B0 dL_law_940 rfl rfl ?_
      refine z_iload_n B0 dL_law_941 rfl rfl ?_
      refine z_iconst (v := 1) B0 dL_law_942 (by decide) ?_
      refine z_iadd (v := 1) B0 dL_law_943 (by decide) ?_
      refine y_sld (j := 1) (v := 0) B0 hX hbl (by decide) e1.symm dL_law_944 ?_
      refine z_aload_n B0 dL_law_945 rfl rfl ?_
      refine z_iload_n B0 dL_law_946 rfl rfl ?_
      refine z_iconst (v := 2) B0 dL_law_947 (by decide) ?_
      refine z_iadd (v := 2) B0 dL_law_948 (by decide) ?_
      refine y_sld (j := 2) (v := x2) B0 hX hbl (by decide) e2.symm dL_law_949 ?_
      refine z_aload_n B0 dL_law_950 rfl rfl ?_
      refine z_iload_n B0 dL_law_951 rfl rfl ?_
      refine z_iconst (v := 3) B0 dL_law_952 (by decide) ?_
      refine z_iadd (v := 3) B0 dL_law_953 (by decide) ?_
      refine y_sld (j := 3) (v := x3) B0 hX hbl (by decide) e3.symm dL_law_954 ?_
      refine z_aload_n B0 dL_law_955 rfl rfl ?_
      refine z_iload_n B0 dL_law_956 rfl rfl ?_
      refine z_iconst (v := 4) B0 dL_law_957 (by decide) ?_
      refine z_iadd (v := 4) B0 dL_law_958 (by decide) ?_
      refine y_sld (j := 4) (v := x4) B0 hX hbl (by decide) e4.symm dL_law_959 ?_
      refine z_callC B0 (z_runV (q0 := 0) (As := [.int 0, .int x2, .int x3, .int x4]) (st := []) B0 (c_X11_gain_3 (a := a) (cS0 w) x2 x3 x4 ⟨by omega, by omega⟩) cf_X11_gain (cw_0 cy tE a rw (cS0 w)) rfl wm_L_109 wi_X11_gain ws_X11_gain dL_law_960 rfl (Nat.le_of_ble_eq_true rfl) ⟨by decide, by decide, by decide, by decide⟩) (fun r1 u1 p1 => ?_)
      obtain ⟨rfl, -⟩ := p1
      refine z_aload_n B0 dL_law_963 rfl rfl ?_
      refine z_aload_n B0 dL_law_964 rfl rfl ?_
      refine z_iload_n B0 dL_law_965 rfl rfl ?_
      refine z_iconst (v := 1) B0 dL_law_966 (by decide) ?_
      refine z_iadd (v := 1) B0 dL_law_967 (by decide) ?_
      refine y_sld (j := 1) (v := 0) B0 hX hbl (by decide) e1.symm dL_law_968 ?_
      refine z_aload_n B0 dL_law_969 rfl rfl ?_
      refine z_iload_n B0 dL_law_970 rfl rfl ?_
      refine z_iconst (v := 2) B0 dL_law_971 (by decide) ?_
      refine z_iadd (v := 2) B0 dL_law_972 (by decide) ?_
      refine y_sld (j := 2) (v := x2) B0 hX hbl (by decide) e2.symm dL_law_973 ?_
      refine z_aload_n B0 dL_law_974 rfl rfl ?_
      refine z_iload_n B0 dL_law_975 rfl rfl ?_
      refine z_iconst (v := 3) B0 dL_law_976 (by decide) ?_
      refine z_iadd (v := 3) B0 dL_law_977 (by decide) ?_
      refine y_sld (j := 3) (v := x3) B0 hX hbl (by decide) e3.symm dL_law_978 ?_
      refine z_aload_n B0 dL_law_979 rfl rfl ?_
      refine z_iload_n B0 dL_law_980 rfl rfl ?_
      refine z_iconst (v := 4) B0 dL_law_981 (by decide) ?_
      refine z_iadd (v := 4) B0 dL_law_982 (by decide) ?_
      refine y_sld (j := 4) (v := x4) B0 hX hbl (by decide) e4.symm dL_law_983 ?_
      refine z_callM B0 (z_runV (q0 := 0) (As := [.int 0, .int x2, .int x3, .int x4]) (st := [.int (-100)]) B0 (c_X12_gain_3 (a := a2) mS0 x2 x3 x4 ⟨by omega, by omega⟩) cf_X12_gain (mw_0 cy a2 mS0) rfl wm_L_112 wi_X12_gain ws_X12_gain dL_law_984 rfl (Nat.le_of_ble_eq_true rfl) ⟨by decide, by decide, by decide, by decide⟩) (fun r2 u2 p2 => ?_)
      obtain ⟨rfl, -⟩ := p2
      refine z_icmp_eq_t (tgt := 1091) B0 dL_law_987 (by decide) rfl ?_
      exact fin u1 u2
    · rcases (show ((-2147483648) ≤ x3.toInt ∧ x3.toInt ≤ (-1)) ∨ x3.toInt = 0 ∨ (1 ≤ x3.toInt ∧ x3.toInt ≤ 6) ∨ (7 ≤ x3.toInt ∧ x3.toInt ≤ 2147483647) by have g1 := Int32.le_toInt x3; have g2 := Int32.toInt_lt x3; omega) with h3 | h3 | h3 | h3
      · refine z_aload_n B0 dL_law_939 rfl rfl ?_
        refine z_aload_n B0 dL_law_940 rfl rfl ?_
        refine z_iload_n B0 dL_law_941 rfl rfl ?_
        refine z_iconst (v := 1) B0 dL_law_942 (by decide) ?_
        refine z_iadd (v := 1) B0 dL_law_943 (by decide) ?_
        refine y_sld (j := 1) (v := 0) B0 hX hbl (by decide) e1.symm dL_law_944 ?_
        refine z_aload_n B0 dL_law_945 rfl rfl ?_
        refine z_iload_n B0 dL_law_946 rfl rfl ?_
        refine z_iconst (v := 2) B0 dL_law_947 (by decide) ?_
        refine z_iadd (v := 2) B0 dL_law_948 (by decide) ?_
        refine y_sld (j := 2) (v := x2) B0 hX hbl (by decide) e2.symm dL_law_949 ?_
        refine z_aload_n B0 dL_law_950 rfl rfl ?_
        refine z_iload_n B0 dL_law_951 rfl rfl ?_
        refine z_iconst (v := 3) B0 dL_law_952 (by decide) ?_
        refine z_iadd (v := 3) B0 dL_law_953 (by decide) ?_
        refine y_sld (j := 3) (v := x3) B0 hX hbl (by decide) e3.symm dL_law_954 ?_
        refine z_aload_n B0 dL_law_955 rfl rfl ?_
        refine z_iload_n B0 dL_law_956 rfl rfl ?_
        refine z_iconst (v := 4) B0 dL_law_957 (by decide) ?_
        refine z_iadd (v := 4) B0 dL_law_958 (by decide) ?_
        refine y_sld (j := 4) (v := x4) B0 hX hbl (by decide) e4.symm dL_law_959 ?_
        refine z_callC B0 (z_runV (q0 := 0) (As := [.int 0, .int x2, .int x3, .int x4]) (st := []) B0 (c_X11_gain_9 (a := a) (cS0 w) x2 x3 x4 ⟨by omega, by omega⟩ ⟨by omega, by omega⟩) cf_X11_gain (cw_0 cy tE a rw (cS0 w)) rfl wm_L_109 wi_X11_gain ws_X11_gain dL_law_960 rfl (Nat.le_of_ble_eq_true rfl) ⟨by decide, by decide, by decide, by decide⟩) (fun r1 u1 p1 => ?_)
        obtain ⟨rfl, -⟩ := p1
        refine z_aload_n B0 dL_law_963 rfl rfl ?_
        refine z_aload_n B0 dL_law_964 rfl rfl ?_
        refine z_iload_n B0 dL_law_965 rfl rfl ?_
        refine z_iconst (v := 1) B0 dL_law_966 (by decide) ?_
        refine z_iadd (v := 1) B0 dL_law_967 (by decide) ?_
        refine y_sld (j := 1) (v := 0) B0 hX hbl (by decide) e1.symm dL_law_968 ?_
        refine z_aload_n B0 dL_law_969 rfl rfl ?_
        refine z_iload_n B0 dL_law_970 rfl rfl ?_
        refine z_iconst (v := 2) B0 dL_law_971 (by decide) ?_
        refine z_iadd (v := 2) B0 dL_law_972 (by decide) ?_
        refine y_sld (j := 2) (v := x2) B0 hX hbl (by decide) e2.symm dL_law_973 ?_
        refine z_aload_n B0 dL_law_974 rfl rfl ?_
        refine z_iload_n B0 dL_law_975 rfl rfl ?_
        refine z_iconst (v := 3) B0 dL_law_976 (by decide) ?_
        refine z_iadd (v := 3) B0 dL_law_977 (by decide) ?_
        refine y_sld (j := 3) (v := x3) B0 hX hbl (by decide) e3.symm dL_law_978 ?_
        refine z_aload_n B0 dL_law_979 rfl rfl ?_
        refine z_iload_n B0 dL_law_980 rfl rfl ?_
        refine z_iconst (v := 4) B0 dL_law_981 (by decide) ?_
        refine z_iadd (v := 4) B0 dL_law_982 (by decide) ?_
        refine y_sld (j := 4) (v := x4) B0 hX hbl (by decide) e4.symm dL_law_983 ?_
        refine z_callM B0 (z_runV (q0 := 0) (As := [.int 0, .int x2, .int x3, .int x4]) (st := [.int (-100)]) B0 (c_X12_gain_9 (a := a2) mS0 x2 x3 x4 ⟨by omega, by omega⟩ ⟨by omega, by omega⟩) cf_X12_gain (mw_0 cy a2 mS0) rfl wm_L_112 wi_X12_gain ws_X12_gain dL_law_984 rfl (Nat.le_of_ble_eq_true rfl) ⟨by decide, by decide, by decide, by decide⟩) (fun r2 u2 p2 => ?_)
        obtain ⟨rfl, -⟩ := p2
        refine z_icmp_eq_t (tgt := 1091) B0 dL_law_987 (by decide) rfl ?_
        exact fin u1 u2
      · obtain rfl : x3 = 0 := Int32.toInt_inj.mp (h3.trans (by decide))
        rcases (show ((-2147483648) ≤ x4.toInt ∧ x4.toInt ≤ (-1)) ∨ x4.toInt = 0 ∨ x4.toInt = 1 ∨ (2 ≤ x4.toInt ∧ x4.toInt ≤ 7) ∨ (8 ≤ x4.toInt ∧ x4.toInt ≤ 2147483647) by have g1 := Int32.le_toInt x4; have g2 := Int32.toInt_lt x4; omega) with h4 | h4 | h4 | h4 | h4
        · refine z_aload_n B0 dL_law_939 rfl rfl ?_
          refine z_aload_n B0 dL_law_940 rfl rfl ?_
          refine z_iload_n B0 dL_law_941 rfl rfl ?_
          refine z_iconst (v := 1) B0 dL_law_942 (by decide) ?_
          refine z_iadd (v := 1) B0 dL_law_943 (by decide) ?_
          refine y_sld (j := 1) (v := 0) B0 hX hbl (by decide) e1.symm dL_law_944 ?_
          refine z_aload_n B0 dL_law_945 rfl rfl ?_
          refine z_iload_n B0 dL_law_946 rfl rfl ?_
          refine z_iconst (v := 2) B0 dL_law_947 (by decide) ?_
          refine z_iadd (v := 2) B0 dL_law_948 (by decide) ?_
          refine y_sld (j := 2) (v := x2) B0 hX hbl (by decide) e2.symm dL_law_949 ?_
          refine z_aload_n B0 dL_law_950 rfl rfl ?_
          refine z_iload_n B0 dL_law_951 rfl rfl ?_
          refine z_iconst (v := 3) B0 dL_law_952 (by decide) ?_
          refine z_iadd (v := 3) B0 dL_law_953 (by decide) ?_
          refine y_sld (j := 3) (v := 0) B0 hX hbl (by decide) e3.symm dL_law_954 ?_
          refine z_aload_n B0 dL_law_955 rfl rfl ?_
          refine z_iload_n B0 dL_law_956 rfl rfl ?_
          refine z_iconst (v := 4) B0 dL_law_957 (by decide) ?_
          refine z_iadd (v := 4) B0 dL_law_958 (by decide) ?_
          refine y_sld (j := 4) (v := x4) B0 hX hbl (by decide) e4.symm dL_law_959 ?_
          refine z_callC B0 (z_runV (q0 := 0) (As := [.int 0, .int x2, .int 0, .int x4]) (st := []) B0 (c_X11_gain_15 (a := a) (cS0 w) x2 x4 ⟨by omega, by omega⟩ ⟨by omega, by omega⟩) cf_X11_gain (cw_0 cy tE a rw (cS0 w)) rfl wm_L_109 wi_X11_gain ws_X11_gain dL_law_960 rfl (Nat.le_of_ble_eq_true rfl) ⟨by decide, by decide, by decide, by decide⟩) (fun r1 u1 p1 => ?_)
          obtain ⟨rfl, -⟩ := p1
          refine z_aload_n B0 dL_law_963 rfl rfl ?_
          refine z_aload_n B0 dL_law_964 rfl rfl ?_
          refine z_iload_n B0 dL_law_965 rfl rfl ?_
          refine z_iconst (v := 1) B0 dL_law_966 (by decide) ?_
          refine z_iadd (v := 1) B0 dL_law_967 (by decide) ?_
          refine y_sld (j := 1) (v := 0) B0 hX hbl (by decide) e1.symm dL_law_968 ?_
          refine z_aload_n B0 dL_law_969 rfl rfl ?_
          refine z_iload_n B0 dL_law_970 rfl rfl ?_
          refine z_iconst (v := 2) B0 dL_law_971 (by decide) ?_
          refine z_iadd (v := 2) B0 dL_law_972 (by decide) ?_
          refine y_sld (j := 2) (v := x2) B0 hX hbl (by decide) e2.symm dL_law_973 ?_
          refine z_aload_n B0 dL_law_974 rfl rfl ?_
          refine z_iload_n B0 dL_law_975 rfl rfl ?_
          refine z_iconst (v := 3) B0 dL_law_976 (by decide) ?_
          refine z_iadd (v := 3) B0 dL_law_977 (by decide) ?_
          refine y_sld (j := 3) (v := 0) B0 hX hbl (by decide) e3.symm dL_law_978 ?_
          refine z_aload_n B0 dL_law_979 rfl rfl ?_
          refine z_iload_n B0 dL_law_980 rfl rfl ?_
          refine z_iconst (v := 4) B0 dL_law_981 (by decide) ?_
          refine z_iadd (v := 4) B0 dL_law_982 (by decide) ?_
          refine y_sld (j := 4) (v := x4) B0 hX hbl (by decide) e4.symm dL_law_983 ?_
          refine z_callM B0 (z_runV (q0 := 0) (As := [.int 0, .int x2, .int 0, .int x4]) (st := [.int (-100)]) B0 (c_X12_gain_15 (a := a2) mS0 x2 x4 ⟨by omega, by omega⟩ ⟨by omega, by omega⟩) cf_X12_gain (mw_0 cy a2 mS0) rfl wm_L_112 wi_X12_gain ws_X12_gain dL_law_984 rfl (Nat.le_of_ble_eq_true rfl) ⟨by decide, by decide, by decide, by decide⟩) (fun r2 u2 p2 => ?_)
          obtain ⟨rfl, -⟩ := p2
          refine z_icmp_eq_t (tgt := 1091) B0 dL_law_987 (by decide) rfl ?_
          exact fin u1 u2
        · obtain rfl : x4 = 0 := Int32.toInt_inj.mp (h4.trans (by decide))
          refine z_aload_n B0 dL_law_939 rfl rfl ?_
          refine z_aload_n B0 dL_law_940 rfl rfl ?_
          refine z_iload_n B0 dL_law_941 rfl rfl ?_
          refine z_iconst (v := 1) B0 dL_law_942 (by decide) ?_
          refine z_iadd (v := 1) B0 dL_law_943 (by decide) ?_
          refine y_sld (j := 1) (v := 0) B0 hX hbl (by decide) e1.symm dL_law_944 ?_
          refine z_aload_n B0 dL_law_945 rfl rfl ?_
          refine z_iload_n B0 dL_law_946 rfl rfl ?_
          refine z_iconst (v := 2) B0 dL_law_947 (by decide) ?_
          refine z_iadd (v := 2) B0 dL_law_948 (by decide) ?_
          refine y_sld (j := 2) (v := x2) B0 hX hbl (by decide) e2.symm dL_law_949 ?_
          refine z_aload_n B0 dL_law_950 rfl rfl ?_
          refine z_iload_n B0 dL_law_951 rfl rfl ?_
          refine z_iconst (v := 3) B0 dL_law_952 (by decide) ?_
          refine z_iadd (v := 3) B0 dL_law_953 (by decide) ?_
          refine y_sld (j := 3) (v := 0) B0 hX hbl (by decide) e3.symm dL_law_954 ?_
          refine z_aload_n B0 dL_law_955 rfl rfl ?_
          refine z_iload_n B0 dL_law_956 rfl rfl ?_
          refine z_iconst (v := 4) B0 dL_law_957 (by decide) ?_
          refine z_iadd (v := 4) B0 dL_law_958 (by decide) ?_
          refine y_sld (j := 4) (v := 0) B0 hX hbl (by decide) e4.symm dL_law_959 ?_
          refine z_callC B0 (z_runV (q0 := 0) (As := [.int 0, .int x2, .int 0, .int 0]) (st := []) B0 (c_X11_gain_16 (a := a) (cS0 w) x2 rfl rfl rfl rfl rfl rfl rfl rfl rfl rfl rfl rfl rfl rfl rfl rfl rfl rfl rfl rfl rfl rfl rfl rfl rfl rfl rfl rfl rfl rfl rfl rfl rfl rfl rfl rfl rfl rfl rfl rfl rfl rfl rfl rfl rfl rfl rfl rfl rfl rfl rfl rfl rfl rfl rfl rfl rfl rfl rfl ⟨by omega, by omega⟩) cf_X11_gain (cw_0 cy tE a rw (cS0 w)) rfl wm_L_109 wi_X11_gain ws_X11_gain dL_law_960 rfl (Nat.le_of_ble_eq_true rfl) ⟨by decide, by decide, by decide, by decide⟩) (fun r1 u1 p1 => ?_)
          obtain ⟨rfl, -⟩ := p1
          refine z_aload_n B0 dL_law_963 rfl rfl ?_
          refine z_aload_n B0 dL_law_964 rfl rfl ?_
          refine z_iload_n B0 dL_law_965 rfl rfl ?_
          refine z_iconst (v := 1) B0 dL_law_966 (by decide) ?_
          refine z_iadd (v := 1) B0 dL_law_967 (by decide) ?_
          refine y_sld (j := 1) (v := 0) B0 hX hbl (by decide) e1.symm dL_law_968 ?_
          refine z_aload_n B0 dL_law_969 rfl rfl ?_
          refine z_iload_n B0 dL_law_970 rfl rfl ?_
          refine z_iconst (v := 2) B0 dL_law_971 (by decide) ?_
          refine z_iadd (v := 2) B0 dL_law_972 (by decide) ?_
          refine y_sld (j := 2) (v := x2) B0 hX hbl (by decide) e2.symm dL_law_973 ?_
          refine z_aload_n B0 dL_law_974 rfl rfl ?_
          refine z_iload_n B0 dL_law_975 rfl rfl ?_
          refine z_iconst (v := 3) B0 dL_law_976 (by decide) ?_
          refine z_iadd (v := 3) B0 dL_law_977 (by decide) ?_
          refine y_sld (j := 3) (v := 0) B0 hX hbl (by decide) e3.symm dL_law_978 ?_
          refine z_aload_n B0 dL_law_979 rfl rfl ?_
          refine z_iload_n B0 dL_law_980 rfl rfl ?_
          refine z_iconst (v := 4) B0 dL_law_981 (by decide) ?_
          refine z_iadd (v := 4) B0 dL_law_982 (by decide) ?_
          refine y_sld (j := 4) (v := 0) B0 hX hbl (by decide) e4.symm dL_law_983 ?_
          refine z_callM B0 (z_runV (q0 := 0) (As := [.int 0, .int x2, .int 0, .int 0]) (st := [.int 0]) B0 (c_X12_gain_16 (a := a2) mS0 x2 rfl rfl rfl rfl rfl rfl rfl rfl rfl rfl rfl rfl rfl rfl rfl rfl rfl rfl rfl rfl rfl rfl rfl rfl rfl rfl rfl rfl rfl rfl ⟨by omega, by omega⟩) cf_X12_gain (mw_0 cy a2 mS0) rfl wm_L_112 wi_X12_gain ws_X12_gain dL_law_984 rfl (Nat.le_of_ble_eq_true rfl) ⟨by decide, by decide, by decide, by decide⟩) (fun r2 u2 p2 => ?_)
          obtain ⟨rfl, -⟩ := p2
          refine z_icmp_eq_t (tgt := 1091) B0 dL_law_987 (by decide) rfl ?_
          exact fin u1 u2
        · obtain rfl : x4 = 1 := Int32.toInt_inj.mp (h4.trans (by decide))
          refine z_aload_n B0 dL_law_939 rfl rfl ?_
          refine z_aload_n B0 dL_law_940 rfl rfl ?_
          refine z_iload_n B0 dL_law_941 rfl rfl ?_
          refine z_iconst (v := 1) B0 dL_law_942 (by decide) ?_
          refine z_iadd (v := 1) B0 dL_law_943 (by decide) ?_
          refine y_sld (j := 1) (v := 0) B0 hX hbl (by decide) e1.symm dL_law_944 ?_
          refine z_aload_n B0 dL_law_945 rfl rfl ?_
          refine z_iload_n B0 dL_law_946 rfl rfl ?_
          refine z_iconst (v := 2) B0 dL_law_947 (by decide) ?_
          refine z_iadd (v := 2) B0 dL_law_948 (by decide) ?_
          refine y_sld (j := 2) (v := x2) B0 hX hbl (by decide) e2.symm dL_law_949 ?_
          refine z_aload_n B0 dL_law_950 rfl rfl ?_
          refine z_iload_n B0 dL_law_951 rfl rfl ?_
          refine z_iconst (v := 3) B0 dL_law_952 (by decide) ?_
          refine z_iadd (v := 3) B0 dL_law_953 (by decide) ?_
          refine y_sld (j := 3) (v := 0) B0 hX hbl (by decide) e3.symm dL_law_954 ?_
          refine z_aload_n B0 dL_law_955 rfl rfl ?_
          refine z_iload_n B0 dL_law_956 rfl rfl ?_
          refine z_iconst (v := 4) B0 dL_law_957 (by decide) ?_
          refine z_iadd (v := 4) B0 dL_law_958 (by decide) ?_
          refine y_sld (j := 4) (v := 1) B0 hX hbl (by decide) e4.symm dL_law_959 ?_
          refine z_callC B0 (z_runV (q0 := 0) (As := [.int 0, .int x2, .int 0, .int 1]) (st := []) B0 (c_X11_gain_17 (a := a) (cS0 w) x2 rfl rfl rfl rfl rfl rfl rfl rfl rfl rfl rfl rfl rfl rfl rfl rfl rfl rfl rfl rfl rfl rfl rfl rfl rfl rfl rfl rfl rfl rfl rfl rfl rfl rfl rfl rfl rfl rfl rfl rfl rfl rfl rfl rfl rfl rfl rfl rfl rfl rfl rfl rfl rfl rfl rfl rfl rfl rfl rfl ⟨by omega, by omega⟩) cf_X11_gain (cw_0 cy tE a rw (cS0 w)) rfl wm_L_109 wi_X11_gain ws_X11_gain dL_law_960 rfl (Nat.le_of_ble_eq_true rfl) ⟨by decide, by decide, by decide, by decide⟩) (fun r1 u1 p1 => ?_)
          obtain ⟨rfl, -⟩ := p1
          refine z_aload_n B0 dL_law_963 rfl rfl ?_
          refine z_aload_n B0 dL_law_964 rfl rfl ?_
          refine z_iload_n B0 dL_law_965 rfl rfl ?_
          refine z_iconst (v := 1) B0 dL_law_966 (by decide) ?_
          refine z_iadd (v := 1) B0 dL_law_967 (by decide) ?_
          refine y_sld (j := 1) (v := 0) B0 hX hbl (by decide) e1.symm dL_law_968 ?_
          refine z_aload_n B0 dL_law_969 rfl rfl ?_
          refine z_iload_n B0 dL_law_970 rfl rfl ?_
          refine z_iconst (v := 2) B0 dL_law_971 (by decide) ?_
          refine z_iadd (v := 2) B0 dL_law_972 (by decide) ?_
          refine y_sld (j := 2) (v := x2) B0 hX hbl (by decide) e2.symm dL_law_973 ?_
          refine z_aload_n B0 dL_law_974 rfl rfl ?_
          refine z_iload_n B0 dL_law_975 rfl rfl ?_
          refine z_iconst (v := 3) B0 dL_law_976 (by decide) ?_
          refine z_iadd (v := 3) B0 dL_law_977 (by decide) ?_
          refine y_sld (j := 3) (v := 0) B0 hX hbl (by decide) e3.symm dL_law_978 ?_
          refine z_aload_n B0 dL_law_979 rfl rfl ?_
          refine z_iload_n B0 dL_law_980 rfl rfl ?_
          refine z_iconst (v := 4) B0 dL_law_981 (by decide) ?_
          refine z_iadd (v := 4) B0 dL_law_982 (by decide) ?_
          refine y_sld (j := 4) (v := 1) B0 hX hbl (by decide) e4.symm dL_law_983 ?_
          refine z_callM B0 (z_runV (q0 := 0) (As := [.int 0, .int x2, .int 0, .int 1]) (st := [.int 0]) B0 (c_X12_gain_17 (a := a2) mS0 x2 rfl rfl rfl rfl rfl rfl rfl rfl rfl rfl rfl rfl rfl rfl rfl rfl rfl rfl rfl rfl rfl rfl rfl rfl rfl rfl rfl rfl rfl rfl ⟨by omega, by omega⟩) cf_X12_gain (mw_0 cy a2 mS0) rfl wm_L_112 wi_X12_gain ws_X12_gain dL_law_984 rfl (Nat.le_of_ble_eq_true rfl) ⟨by decide, by decide, by decide, by decide⟩) (fun r2 u2 p2 => ?_)
          obtain ⟨rfl, -⟩ := p2
          refine z_icmp_eq_t (tgt := 1091) B0 dL_law_987 (by decide) rfl ?_
          exact fin u1 u2
        · refine z_aload_n B0 dL_law_939 rfl rfl ?_
          refine z_aload_n B0 dL_law_940 rfl rfl ?_
          refine z_iload_n B0 dL_law_941 rfl rfl ?_
          refine z_iconst (v := 1) B0 dL_law_942 (by decide) ?_
          refine z_iadd (v := 1) B0 dL_law_943 (by decide) ?_
          refine y_sld (j := 1) (v := 0) B0 hX hbl (by decide) e1.symm dL_law_944 ?_
          refine z_aload_n B0 dL_law_945 rfl rfl ?_
          refine z_iload_n B0 dL_law_946 rfl rfl ?_
          refine z_iconst (v := 2) B0 dL_law_947 (by decide) ?_
          refine z_iadd (v := 2) B0 dL_law_948 (by decide) ?_
          refine y_sld (j := 2) (v := x2) B0 hX hbl (by decide) e2.symm dL_law_949 ?_
          refine z_aload_n B0 dL_law_950 rfl rfl ?_
          refine z_iload_n B0 dL_law_951 rfl rfl ?_
          refine z_iconst (v := 3) B0 dL_law_952 (by decide) ?_
          refine z_iadd (v := 3) B0 dL_law_953 (by decide) ?_
          refine y_sld (j := 3) (v := 0) B0 hX hbl (by decide) e3.symm dL_law_954 ?_
          refine z_aload_n B0 dL_law_955 rfl rfl ?_
          refine z_iload_n B0 dL_law_956 rfl rfl ?_
          refine z_iconst (v := 4) B0 dL_law_957 (by decide) ?_
          refine z_iadd (v := 4) B0 dL_law_958 (by decide) ?_
          refine y_sld (j := 4) (v := x4) B0 hX hbl (by decide) e4.symm dL_law_959 ?_
          refine z_callC B0 (z_runV (q0 := 0) (As := [.int 0, .int x2, .int 0, .int x4]) (st := []) B0 (c_X11_gain_18 (a := a) (cS0 w) x2 x4 rfl rfl rfl rfl rfl rfl rfl rfl rfl rfl rfl rfl rfl rfl rfl rfl rfl rfl rfl rfl rfl rfl rfl rfl rfl rfl rfl rfl rfl rfl rfl rfl rfl rfl rfl rfl rfl rfl rfl rfl rfl rfl rfl rfl rfl rfl rfl rfl rfl rfl rfl rfl rfl rfl rfl rfl rfl rfl rfl ⟨by omega, by omega⟩ ⟨by omega, by omega⟩) cf_X11_gain (cw_0 cy tE a rw (cS0 w)) rfl wm_L_109 wi_X11_gain ws_X11_gain dL_law_960 rfl (Nat.le_of_ble_eq_true rfl) ⟨by decide, by decide, by decide, by decide⟩) (fun r1 u1 p1 => ?_)
          obtain ⟨rfl, -⟩ := p1
          refine z_aload_n B0 dL_law_963 rfl rfl ?_
          refine z_aload_n B0 dL_law_964 rfl rfl ?_
          refine z_iload_n B0 dL_law_965 rfl rfl ?_
          refine z_iconst (v := 1) B0 dL_law_966 (by decide) ?_
          refine z_iadd (v := 1) B0 dL_law_967 (by decide) ?_
          refine y_sld (j := 1) (v := 0) B0 hX hbl (by decide) e1.symm dL_law_968 ?_
          refine z_aload_n B0 dL_law_969 rfl rfl ?_
          refine z_iload_n B0 dL_law_970 rfl rfl ?_
          refine z_iconst (v := 2) B0 dL_law_971 (by decide) ?_
          refine z_iadd (v := 2) B0 dL_law_972 (by decide) ?_
          refine y_sld (j := 2) (v := x2) B0 hX hbl (by decide) e2.symm dL_law_973 ?_
          refine z_aload_n B0 dL_law_974 rfl rfl ?_
          refine z_iload_n B0 dL_law_975 rfl rfl ?_
          refine z_iconst (v := 3) B0 dL_law_976 (by decide) ?_
          refine z_iadd (v := 3) B0 dL_law_977 (by decide) ?_
          refine y_sld (j := 3) (v := 0) B0 hX hbl (by decide) e3.symm dL_law_978 ?_
          refine z_aload_n B0 dL_law_979 rfl rfl ?_
          refine z_iload_n B0 dL_law_980 rfl rfl ?_
          refine z_iconst (v := 4) B0 dL_law_981 (by decide) ?_
          refine z_iadd (v := 4) B0 dL_law_982 (by decide) ?_
          refine y_sld (j := 4) (v := x4) B0 hX hbl (by decide) e4.symm dL_law_983 ?_
          refine z_callM B0 (z_runV (q0 := 0) (As := [.int 0, .int x2, .int 0, .int x4]) (st := [.int (-100)]) B0 (c_X12_gain_18 (a := a2) mS0 x2 x4 rfl rfl rfl rfl rfl rfl rfl rfl rfl rfl rfl rfl rfl rfl rfl rfl rfl rfl rfl rfl rfl rfl rfl rfl rfl rfl rfl rfl rfl rfl ⟨by omega, by omega⟩ ⟨by omega, by omega⟩) cf_X12_gain (mw_0 cy a2 mS0) rfl wm_L_112 wi_X12_gain ws_X12_gain dL_law_984 rfl (Nat.le_of_ble_eq_true rfl) ⟨by decide, by decide, by decide, by decide⟩) (fun r2 u2 p2 => ?_)
          obtain ⟨rfl, -⟩ := p2
          refine z_icmp_eq_t (tgt := 1091) B0 dL_law_987 (by decide) rfl ?_
          exact fin u1 u2
        · refine z_aload_n B0 dL_law_939 rfl rfl ?_
          refine z_aload_n B0 dL_law_940 rfl rfl ?_
          refine z_iload_n B0 dL_law_941 rfl rfl ?_
          refine z_iconst (v := 1) B0 dL_law_942 (by decide) ?_
          refine z_iadd (v := 1) B0 dL_law_943 (by decide) ?_
          refine y_sld (j := 1) (v := 0) B0 hX hbl (by decide) e1.symm dL_law_944 ?_
          refine z_aload_n B0 dL_law_945 rfl rfl ?_
          refine z_iload_n B0 dL_law_946 rfl rfl ?_
          refine z_iconst (v := 2) B0 dL_law_947 (by decide) ?_
          refine z_iadd (v := 2) B0 dL_law_948 (by decide) ?_
          refine y_sld (j := 2) (v := x2) B0 hX hbl (by decide) e2.symm dL_law_949 ?_
          refine z_aload_n B0 dL_law_950 rfl rfl ?_
          refine z_iload_n B0 dL_law_951 rfl rfl ?_
          refine z_iconst (v := 3) B0 dL_law_952 (by decide) ?_
          refine z_iadd (v := 3) B0 dL_law_953 (by decide) ?_
          refine y_sld (j := 3) (v := 0) B0 hX hbl (by decide) e3.symm dL_law_954 ?_
          refine z_aload_n B0 dL_law_955 rfl rfl ?_
          refine z_iload_n B0 dL_law_956 rfl rfl ?_
          refine z_iconst (v := 4) B0 dL_law_957 (by decide) ?_
          refine z_iadd (v := 4) B0 dL_law_958 (by decide) ?_
          refine y_sld (j := 4) (v := x4) B0 hX hbl (by decide) e4.symm dL_law_959 ?_
          refine z_callC B0 (z_runV (q0 := 0) (As := [.int 0, .int x2, .int 0, .int x4]) (st := []) B0 (c_X11_gain_19 (a := a) (cS0 w) x2 x4 rfl rfl rfl rfl rfl rfl rfl rfl rfl rfl rfl rfl rfl rfl rfl rfl rfl rfl rfl rfl rfl rfl rfl rfl rfl rfl rfl rfl rfl rfl rfl rfl rfl rfl rfl rfl rfl rfl rfl rfl rfl rfl rfl rfl rfl rfl rfl rfl rfl rfl rfl rfl rfl rfl rfl rfl rfl rfl rfl ⟨by omega, by omega⟩ ⟨by omega, by omega⟩) cf_X11_gain (cw_0 cy tE a rw (cS0 w)) rfl wm_L_109 wi_X11_gain ws_X11_gain dL_law_960 rfl (Nat.le_of_ble_eq_true rfl) ⟨by decide, by decide, by decide, by decide⟩) (fun r1 u1 p1 => ?_)
          obtain ⟨rfl, -⟩ := p1
          refine z_aload_n B0 dL_law_963 rfl rfl ?_
          refine z_aload_n B0 dL_law_964 rfl rfl ?_
          refine z_iload_n B0 dL_law_965 rfl rfl ?_
          refine z_iconst (v := 1) B0 dL_law_966 (by decide) ?_
          refine z_iadd (v := 1) B0 dL_law_967 (by decide) ?_
          refine y_sld (j := 1) (v := 0) B0 hX hbl (by decide) e1.symm dL_law_968 ?_
          refine z_aload_n B0 dL_law_969 rfl rfl ?_
          refine z_iload_n B0 dL_law_970 rfl rfl ?_
          refine z_iconst (v := 2) B0 dL_law_971 (by decide) ?_
          refine z_iadd (v := 2) B0 dL_law_972 (by decide) ?_
          refine y_sld (j := 2) (v := x2) B0 hX hbl (by decide) e2.symm dL_law_973 ?_
          refine z_aload_n B0 dL_law_974 rfl rfl ?_
          refine z_iload_n B0 dL_law_975 rfl rfl ?_
          refine z_iconst (v := 3) B0 dL_law_976 (by decide) ?_
          refine z_iadd (v := 3) B0 dL_law_977 (by decide) ?_
          refine y_sld (j := 3) (v := 0) B0 hX hbl (by decide) e3.symm dL_law_978 ?_
          refine z_aload_n B0 dL_law_979 rfl rfl ?_
          refine z_iload_n B0 dL_law_980 rfl rfl ?_
          refine z_iconst (v := 4) B0 dL_law_981 (by decide) ?_
          refine z_iadd (v := 4) B0 dL_law_982 (by decide) ?_
          refine y_sld (j := 4) (v := x4) B0 hX hbl (by decide) e4.symm dL_law_983 ?_
          refine z_callM B0 (z_runV (q0 := 0) (As := [.int 0, .int x2, .int 0, .int x4]) (st := [.int (-100)]) B0 (c_X12_gain_19 (a := a2) mS0 x2 x4 ⟨by omega, by omega⟩ ⟨by omega, by omega⟩) cf_X12_gain (mw_0 cy a2 mS0) rfl wm_L_112 wi_X12_gain ws_X12_gain dL_law_984 rfl (Nat.le_of_ble_eq_true rfl) ⟨by decide, by decide, by decide, by decide⟩) (fun r2 u2 p2 => ?_)
          obtain ⟨rfl, -⟩ := p2
          refine z_icmp_eq_t (tgt := 1091) B0 dL_law_987 (by decide) rfl ?_
          exact fin u1 u2
      · rcases (show ((-2147483648) ≤ x4.toInt ∧ x4.toInt ≤ (-1)) ∨ x4.toInt = 0 ∨ x4.toInt = 1 ∨ (2 ≤ x4.toInt ∧ x4.toInt ≤ 7) ∨ (8 ≤ x4.toInt ∧ x4.toInt ≤ 2147483647) by have g1 := Int32.le_toInt x4; have g2 := Int32.toInt_lt x4; omega) with h4 | h4 | h4 | h4 | h4
        · refine z_aload_n B0 dL_law_939 rfl rfl ?_
          refine z_aload_n B0 dL_law_940 rfl rfl ?_
          refine z_iload_n B0 dL_law_941 rfl rfl ?_
          refine z_iconst (v := 1) B0 dL_law_942 (by decide) ?_
          refine z_iadd (v := 1) B0 dL_law_943 (by decide) ?_
          refine y_sld (j := 1) (v := 0) B0 hX hbl (by decide) e1.symm dL_law_944 ?_
          refine z_aload_n B0 dL_law_945 rfl rfl ?_
          refine z_iload_n B0 dL_law_946 rfl rfl ?_
          refine z_iconst (v := 2) B0 dL_law_947 (by decide) ?_
          refine z_iadd (v := 2) B0 dL_law_948 (by decide) ?_
          refine y_sld (j := 2) (v := x2) B0 hX hbl (by decide) e2.symm dL_law_949 ?_
          refine z_aload_n B0 dL_law_950 rfl rfl ?_
          refine z_iload_n B0 dL_law_951 rfl rfl ?_
          refine z_iconst (v := 3) B0 dL_law_952 (by decide) ?_
          refine z_iadd (v := 3) B0 dL_law_953 (by decide) ?_
          refine y_sld (j := 3) (v := x3) B0 hX hbl (by decide) e3.symm dL_law_954 ?_
          refine z_aload_n B0 dL_law_955 rfl rfl ?_
          refine z_iload_n B0 dL_law_956 rfl rfl ?_
          refine z_iconst (v := 4) B0 dL_law_957 (by decide) ?_
          refine z_iadd (v := 4) B0 dL_law_958 (by decide) ?_
          refine y_sld (j := 4) (v := x4) B0 hX hbl (by decide) e4.symm dL_law_959 ?_
          refine z_callC B0 (z_runV (q0 := 0) (As := [.int 0, .int x2, .int x3, .int x4]) (st := []) B0 (c_X11_gain_20 (a := a) (cS0 w) x2 x3 x4 ⟨by omega, by omega⟩ ⟨by omega, by omega⟩ ⟨by omega, by omega⟩) cf_X11_gain (cw_0 cy tE a rw (cS0 w)) rfl wm_L_109 wi_X11_gain ws_X11_gain dL_law_960 rfl (Nat.le_of_ble_eq_true rfl) ⟨by decide, by decide, by decide, by decide⟩) (fun r1 u1 p1 => ?_)
          obtain ⟨rfl, -⟩ := p1
          refine z_aload_n B0 dL_law_963 rfl rfl ?_
          refine z_aload_n B0 dL_law_964 rfl rfl ?_
          refine z_iload_n B0 dL_law_965 rfl rfl ?_
          refine z_iconst (v := 1) B0 dL_law_966 (by decide) ?_
          refine z_iadd (v := 1) B0 dL_law_967 (by decide) ?_
          refine y_sld (j := 1) (v := 0) B0 hX hbl (by decide) e1.symm dL_law_968 ?_
          refine z_aload_n B0 dL_law_969 rfl rfl ?_
          refine z_iload_n B0 dL_law_970 rfl rfl ?_
          refine z_iconst (v := 2) B0 dL_law_971 (by decide) ?_
          refine z_iadd (v := 2) B0 dL_law_972 (by decide) ?_
          refine y_sld (j := 2) (v := x2) B0 hX hbl (by decide) e2.symm dL_law_973 ?_
          refine z_aload_n B0 dL_law_974 rfl rfl ?_
          refine z_iload_n B0 dL_law_975 rfl rfl ?_
          refine z_iconst (v := 3) B0 dL_law_976 (by decide) ?_
          refine z_iadd (v := 3) B0 dL_law_977 (by decide) ?_
          refine y_sld (j := 3) (v := x3) B0 hX hbl (by decide) e3.symm dL_law_978 ?_
          refine z_aload_n B0 dL_law_979 rfl rfl ?_
          refine z_iload_n B0 dL_law_980 rfl rfl ?_
          refine z_iconst (v := 4) B0 dL_law_981 (by decide) ?_
          refine z_iadd (v := 4) B0 dL_law_982 (by decide) ?_
          refine y_sld (j := 4) (v := x4) B0 hX hbl (by decide) e4.symm dL_law_983 ?_
          refine z_callM B0 (z_runV (q0 := 0) (As := [.int 0, .int x2, .int x3, .int x4]) (st := [.int (-100)]) B0 (c_X12_gain_20 (a := a2) mS0 x2 x3 x4 ⟨by omega, by omega⟩ ⟨by omega, by omega⟩ ⟨by omega, by omega⟩) cf_X12_gain (mw_0 cy a2 mS0) rfl wm_L_112 wi_X12_gain ws_X12_gain dL_law_984 rfl (Nat.le_of_ble_eq_true rfl) ⟨by decide, by decide, by decide, by decide⟩) (fun r2 u2 p2 => ?_)
          obtain ⟨rfl, -⟩ := p2
          refine z_icmp_eq_t (tgt := 1091) B0 dL_law_987 (by decide) rfl ?_
          exact fin u1 u2
        · obtain rfl : x4 = 0 := Int32.toInt_inj.mp (h4.trans (by decide))
          refine z_aload_n B0 dL_law_939 rfl rfl ?_
          refine z_aload_n B0 dL_law_940 rfl rfl ?_
          refine z_iload_n B0 dL_law_941 rfl rfl ?_
          refine z_iconst (v := 1) B0 dL_law_942 (by decide) ?_
          refine z_iadd (v := 1) B0 dL_law_943 (by decide) ?_
          refine y_sld (j := 1) (v := 0) B0 hX hbl (by decide) e1.symm dL_law_944 ?_
          refine z_aload_n B0 dL_law_945 rfl rfl ?_
          refine z_iload_n B0 dL_law_946 rfl rfl ?_
          refine z_iconst (v := 2) B0 dL_law_947 (by decide) ?_
          refine z_iadd (v := 2) B0 dL_law_948 (by decide) ?_
          refine y_sld (j := 2) (v := x2) B0 hX hbl (by decide) e2.symm dL_law_949 ?_
          refine z_aload_n B0 dL_law_950 rfl rfl ?_
          refine z_iload_n B0 dL_law_951 rfl rfl ?_
          refine z_iconst (v := 3) B0 dL_law_952 (by decide) ?_
          refine z_iadd (v := 3) B0 dL_law_953 (by decide) ?_
          refine y_sld (j := 3) (v := x3) B0 hX hbl (by decide) e3.symm dL_law_954 ?_
          refine z_aload_n B0 dL_law_955 rfl rfl ?_
          refine z_iload_n B0 dL_law_956 rfl rfl ?_
          refine z_iconst (v := 4) B0 dL_law_957 (by decide) ?_
          refine z_iadd (v := 4) B0 dL_law_958 (by decide) ?_
          refine y_sld (j := 4) (v := 0) B0 hX hbl (by decide) e4.symm dL_law_959 ?_
          refine z_callC B0 (z_runV (q0 := 0) (As := [.int 0, .int x2, .int x3, .int 0]) (st := []) B0 (c_X11_gain_21 (a := a) (cS0 w) x2 x3 rfl rfl rfl rfl rfl rfl rfl rfl rfl rfl rfl rfl rfl rfl rfl rfl rfl rfl rfl rfl rfl rfl rfl rfl rfl rfl rfl rfl rfl rfl rfl rfl rfl rfl rfl rfl rfl rfl rfl rfl rfl rfl rfl rfl rfl rfl rfl rfl rfl rfl rfl rfl rfl rfl rfl rfl rfl rfl ⟨by omega, by omega⟩ ⟨by omega, by omega⟩) cf_X11_gain (cw_0 cy tE a rw (cS0 w)) rfl wm_L_109 wi_X11_gain ws_X11_gain dL_law_960 rfl (Nat.le_of_ble_eq_true rfl) ⟨by decide, by decide, by decide, by decide⟩) (fun r1 u1 p1 => ?_)
          obtain rfl : 0 = r1 := by rcases p1 with ⟨-, h, -⟩ | ⟨-, h, -⟩ <;> exact h
          refine z_aload_n B0 dL_law_963 rfl rfl ?_
          refine z_aload_n B0 dL_law_964 rfl rfl ?_
          refine z_iload_n B0 dL_law_965 rfl rfl ?_
          refine z_iconst (v := 1) B0 dL_law_966 (by decide) ?_
          refine z_iadd (v := 1) B0 dL_law_967 (by decide) ?_
          refine y_sld (j := 1) (v := 0) B0 hX hbl (by decide) e1.symm dL_law_968 ?_
          refine z_aload_n B0 dL_law_969 rfl rfl ?_
          refine z_iload_n B0 dL_law_970 rfl rfl ?_
          refine z_iconst (v := 2) B0 dL_law_971 (by decide) ?_
          refine z_iadd (v := 2) B0 dL_law_972 (by decide) ?_
          refine y_sld (j := 2) (v := x2) B0 hX hbl (by decide) e2.symm dL_law_973 ?_
          refine z_aload_n B0 dL_law_974 rfl rfl ?_
          refine z_iload_n B0 dL_law_975 rfl rfl ?_
          refine z_iconst (v := 3) B0 dL_law_976 (by decide) ?_
          refine z_iadd (v := 3) B0 dL_law_977 (by decide) ?_
          refine y_sld (j := 3) (v := x3) B0 hX hbl (by decide) e3.symm dL_law_978 ?_
          refine z_aload_n B0 dL_law_979 rfl rfl ?_
          refine z_iload_n B0 dL_law_980 rfl rfl ?_
          refine z_iconst (v := 4) B0 dL_law_981 (by decide) ?_
          refine z_iadd (v := 4) B0 dL_law_982 (by decide) ?_
          refine y_sld (j := 4) (v := 0) B0 hX hbl (by decide) e4.symm dL_law_983 ?_
          refine z_callM B0 (z_runV (q0 := 0) (As := [.int 0, .int x2, .int x3, .int 0]) (st := [.int 0]) B0 (c_X12_gain_21 (a := a2) mS0 x2 x3 rfl rfl rfl rfl rfl rfl rfl rfl rfl rfl rfl rfl rfl rfl rfl rfl rfl rfl rfl rfl rfl rfl rfl rfl rfl rfl rfl rfl rfl rfl rfl rfl ⟨by omega, by omega⟩ ⟨by omega, by omega⟩) cf_X12_gain (mw_0 cy a2 mS0) rfl wm_L_112 wi_X12_gain ws_X12_gain dL_law_984 rfl (Nat.le_of_ble_eq_true rfl) ⟨by decide, by decide, by decide, by decide⟩) (fun r2 u2 p2 => ?_)
          obtain ⟨rfl, -⟩ := p2
          refine z_icmp_eq_t (tgt := 1091) B0 dL_law_987 (by decide) rfl ?_
          exact fin u1 u2
        · obtain rfl : x4 = 1 := Int32.toInt_inj.mp (h4.trans (by decide))
          refine z_aload_n B0 dL_law_939 rfl rfl ?_
          refine z_aload_n B0 dL_law_940 rfl rfl ?_
          refine z_iload_n B0 dL_law_941 rfl rfl ?_
          refine z_iconst (v := 1) B0 dL_law_942 (by decide) ?_
          refine z_iadd (v := 1) B0 dL_law_943 (by decide) ?_
          refine y_sld (j := 1) (v := 0) B0 hX hbl (by decide) e1.symm dL_law_944 ?_
          refine z_aload_n B0 dL_law_945 rfl rfl ?_
          refine z_iload_n B0 dL_law_946 rfl rfl ?_
          refine z_iconst (v := 2) B0 dL_law_947 (by decide) ?_
          refine z_iadd (v := 2) B0 dL_law_948 (by decide) ?_
          refine y_sld (j := 2) (v := x2) B0 hX hbl (by decide) e2.symm dL_law_949 ?_
          refine z_aload_n B0 dL_law_950 rfl rfl ?_
          refine z_iload_n B0 dL_law_951 rfl rfl ?_
          refine z_iconst (v := 3) B0 dL_law_952 (by decide) ?_
          refine z_iadd (v := 3) B0 dL_law_953 (by decide) ?_
          refine y_sld (j := 3) (v := x3) B0 hX hbl (by decide) e3.symm dL_law_954 ?_
          refine z_aload_n B0 dL_law_955 rfl rfl ?_
          refine z_iload_n B0 dL_law_956 rfl rfl ?_
          refine z_iconst (v := 4) B0 dL_law_957 (by decide) ?_
          refine z_iadd (v := 4) B0 dL_law_958 (by decide) ?_
          refine y_sld (j := 4) (v := 1) B0 hX hbl (by decide) e4.symm dL_law_959 ?_
          refine z_callC B0 (z_runV (q0 := 0) (As := [.int 0, .int x2, .int x3, .int 1]) (st := []) B0 (c_X11_gain_22 (a := a) (cS0 w) x2 x3 rfl rfl rfl rfl rfl rfl rfl rfl rfl rfl rfl rfl rfl rfl rfl rfl rfl rfl rfl rfl rfl rfl rfl rfl rfl rfl rfl rfl rfl rfl rfl rfl rfl rfl rfl rfl rfl rfl rfl rfl rfl rfl rfl rfl rfl rfl rfl rfl rfl rfl rfl rfl rfl rfl rfl rfl rfl rfl ⟨by omega, by omega⟩ ⟨by omega, by omega⟩) cf_X11_gain (cw_0 cy tE a rw (cS0 w)) rfl wm_L_109 wi_X11_gain ws_X11_gain dL_law_960 rfl (Nat.le_of_ble_eq_true rfl) ⟨by decide, by decide, by decide, by decide⟩) (fun r1 u1 p1 => ?_)
          obtain rfl : 0 = r1 := by rcases p1 with ⟨-, h, -⟩ | ⟨-, h, -⟩ <;> exact h
          refine z_aload_n B0 dL_law_963 rfl rfl ?_
          refine z_aload_n B0 dL_law_964 rfl rfl ?_
          refine z_iload_n B0 dL_law_965 rfl rfl ?_
          refine z_iconst (v := 1) B0 dL_law_966 (by decide) ?_
          refine z_iadd (v := 1) B0 dL_law_967 (by decide) ?_
          refine y_sld (j := 1) (v := 0) B0 hX hbl (by decide) e1.symm dL_law_968 ?_
          refine z_aload_n B0 dL_law_969 rfl rfl ?_
          refine z_iload_n B0 dL_law_970 rfl rfl ?_
          refine z_iconst (v := 2) B0 dL_law_971 (by decide) ?_
          refine z_iadd (v := 2) B0 dL_law_972 (by decide) ?_
          refine y_sld (j := 2) (v := x2) B0 hX hbl (by decide) e2.symm dL_law_973 ?_
          refine z_aload_n B0 dL_law_974 rfl rfl ?_
          refine z_iload_n B0 dL_law_975 rfl rfl ?_
          refine z_iconst (v := 3) B0 dL_law_976 (by decide) ?_
          refine z_iadd (v := 3) B0 dL_law_977 (by decide) ?_
          refine y_sld (j := 3) (v := x3) B0 hX hbl (by decide) e3.symm dL_law_978 ?_
          refine z_aload_n B0 dL_law_979 rfl rfl ?_
          refine z_iload_n B0 dL_law_980 rfl rfl ?_
          refine z_iconst (v := 4) B0 dL_law_981 (by decide) ?_
          refine z_iadd (v := 4) B0 dL_law_982 (by decide) ?_
          refine y_sld (j := 4) (v := 1) B0 hX hbl (by decide) e4.symm dL_law_983 ?_
          refine z_callM B0 (z_runV (q0 := 0) (As := [.int 0, .int x2, .int x3, .int 1]) (st := [.int 0]) B0 (c_X12_gain_22 (a := a2) mS0 x2 x3 rfl rfl rfl rfl rfl rfl rfl rfl rfl rfl rfl rfl rfl rfl rfl rfl rfl rfl rfl rfl rfl rfl rfl rfl rfl rfl rfl rfl rfl rfl rfl rfl ⟨by omega, by omega⟩ ⟨by omega, by omega⟩) cf_X12_gain (mw_0 cy a2 mS0) rfl wm_L_112 wi_X12_gain ws_X12_gain dL_law_984 rfl (Nat.le_of_ble_eq_true rfl) ⟨by decide, by decide, by decide, by decide⟩) (fun r2 u2 p2 => ?_)
          obtain ⟨rfl, -⟩ := p2
          refine z_icmp_eq_t (tgt := 1091) B0 dL_law_987 (by decide) rfl ?_
          exact fin u1 u2
        · refine z_aload_n B0 dL_law_939 rfl rfl ?_
          refine z_aload_n B0 dL_law_940 rfl rfl ?_
          refine z_iload_n B0 dL_law_941 rfl rfl ?_
          refine z_iconst (v := 1) B0 dL_law_942 (by decide) ?_
          refine z_iadd (v := 1) B0 dL_law_943 (by decide) ?_
          refine y_sld (j := 1) (v := 0) B0 hX hbl (by decide) e1.symm dL_law_944 ?_
          refine z_aload_n B0 dL_law_945 rfl rfl ?_
          refine z_iload_n B0 dL_law_946 rfl rfl ?_
          refine z_iconst (v := 2) B0 dL_law_947 (by decide) ?_
          refine z_iadd (v := 2) B0 dL_law_948 (by decide) ?_
          refine y_sld (j := 2) (v := x2) B0 hX hbl (by decide) e2.symm dL_law_949 ?_
          refine z_aload_n B0 dL_law_950 rfl rfl ?_
          refine z_iload_n B0 dL_law_951 rfl rfl ?_
          refine z_iconst (v := 3) B0 dL_law_952 (by decide) ?_
          refine z_iadd (v := 3) B0 dL_law_953 (by decide) ?_
          refine y_sld (j := 3) (v := x3) B0 hX hbl (by decide) e3.symm dL_law_954 ?_
          refine z_aload_n B0 dL_law_955 rfl rfl ?_
          refine z_iload_n B0 dL_law_956 rfl rfl ?_
          refine z_iconst (v := 4) B0 dL_law_957 (by decide) ?_
          refine z_iadd (v := 4) B0 dL_law_958 (by decide) ?_
          refine y_sld (j := 4) (v := x4) B0 hX hbl (by decide) e4.symm dL_law_959 ?_
          refine z_callC B0 (z_runV (q0 := 0) (As := [.int 0, .int x2, .int x3, .int x4]) (st := []) B0 (c_X11_gain_23 (a := a) (cS0 w) x2 x3 x4 rfl rfl rfl rfl rfl rfl rfl rfl rfl rfl rfl rfl rfl rfl rfl rfl rfl rfl rfl rfl rfl rfl rfl rfl rfl rfl rfl rfl rfl rfl rfl rfl rfl rfl rfl rfl rfl rfl rfl rfl rfl rfl rfl rfl rfl rfl rfl rfl rfl rfl rfl rfl rfl rfl rfl rfl rfl rfl ⟨by omega, by omega⟩ ⟨by omega, by omega⟩ ⟨by omega, by omega⟩) cf_X11_gain (cw_0 cy tE a rw (cS0 w)) rfl wm_L_109 wi_X11_gain ws_X11_gain dL_law_960 rfl (Nat.le_of_ble_eq_true rfl) ⟨by decide, by decide, by decide, by decide⟩) (fun r1 u1 p1 => ?_)
          obtain rfl : (-100) = r1 := by rcases p1 with ⟨-, h, -⟩ | ⟨-, h, -⟩ <;> exact h
          refine z_aload_n B0 dL_law_963 rfl rfl ?_
          refine z_aload_n B0 dL_law_964 rfl rfl ?_
          refine z_iload_n B0 dL_law_965 rfl rfl ?_
          refine z_iconst (v := 1) B0 dL_law_966 (by decide) ?_
          refine z_iadd (v := 1) B0 dL_law_967 (by decide) ?_
          refine y_sld (j := 1) (v := 0) B0 hX hbl (by decide) e1.symm dL_law_968 ?_
          refine z_aload_n B0 dL_law_969 rfl rfl ?_
          refine z_iload_n B0 dL_law_970 rfl rfl ?_
          refine z_iconst (v := 2) B0 dL_law_971 (by decide) ?_
          refine z_iadd (v := 2) B0 dL_law_972 (by decide) ?_
          refine y_sld (j := 2) (v := x2) B0 hX hbl (by decide) e2.symm dL_law_973 ?_
          refine z_aload_n B0 dL_law_974 rfl rfl ?_
          refine z_iload_n B0 dL_law_975 rfl rfl ?_
          refine z_iconst (v := 3) B0 dL_law_976 (by decide) ?_
          refine z_iadd (v := 3) B0 dL_law_977 (by decide) ?_
          refine y_sld (j := 3) (v := x3) B0 hX hbl (by decide) e3.symm dL_law_978 ?_
          refine z_aload_n B0 dL_law_979 rfl rfl ?_
          refine z_iload_n B0 dL_law_980 rfl rfl ?_
          refine z_iconst (v := 4) B0 dL_law_981 (by decide) ?_
          refine z_iadd (v := 4) B0 dL_law_982 (by decide) ?_
          refine y_sld (j := 4) (v := x4) B0 hX hbl (by decide) e4.symm dL_law_983 ?_
          refine z_callM B0 (z_runV (q0 := 0) (As := [.int 0, .int x2, .int x3, .int x4]) (st := [.int (-100)]) B0 (c_X12_gain_23 (a := a2) mS0 x2 x3 x4 rfl rfl rfl rfl rfl rfl rfl rfl rfl rfl rfl rfl rfl rfl rfl rfl rfl rfl rfl rfl rfl rfl rfl rfl rfl rfl rfl rfl rfl rfl rfl rfl ⟨by omega, by omega⟩ ⟨by omega, by omega⟩ ⟨by omega, by omega⟩) cf_X12_gain (mw_0 cy a2 mS0) rfl wm_L_112 wi_X12_gain ws_X12_gain dL_law_984 rfl (Nat.le_of_ble_eq_true rfl) ⟨by decide, by decide, by decide, by decide⟩) (fun r2 u2 p2 => ?_)
          obtain ⟨rfl, -⟩ := p2
          refine z_icmp_eq_t (tgt := 1091) B0 dL_law_987 (by decide) rfl ?_
          exact fin u1 u2
        · refine z_aload_n B0 dL_law_939 rfl rfl ?_
          refine z_aload_n B0 dL_law_940 rfl rfl ?_
          refine z_iload_n B0 dL_law_941 rfl rfl ?_
          refine z_iconst (v := 1) B0 dL_law_942 (by decide) ?_
          refine z_iadd (v := 1) B0 dL_law_943 (by decide) ?_
          refine y_sld (j := 1) (v := 0) B0 hX hbl (by decide) e1.symm dL_law_944 ?_
          refine z_aload_n B0 dL_law_945 rfl rfl ?_
          refine z_iload_n B0 dL_law_946 rfl rfl ?_
          refine z_iconst (v := 2) B0 dL_law_947 (by decide) ?_
          refine z_iadd (v := 2) B0 dL_law_948 (by decide) ?_
          refine y_sld (j := 2) (v := x2) B0 hX hbl (by decide) e2.symm dL_law_949 ?_
          refine z_aload_n B0 dL_law_950 rfl rfl ?_
          refine z_iload_n B0 dL_law_951 rfl rfl ?_
          refine z_iconst (v := 3) B0 dL_law_952 (by decide) ?_
          refine z_iadd (v := 3) B0 dL_law_953 (by decide) ?_
          refine y_sld (j := 3) (v := x3) B0 hX hbl (by decide) e3.symm dL_law_954 ?_
          refine z_aload_n B0 dL_law_955 rfl rfl ?_
          refine z_iload_n B0 dL_law_956 rfl rfl ?_
          refine z_iconst (v := 4) B0 dL_law_957 (by decide) ?_
          refine z_iadd (v := 4) B0 dL_law_958 (by decide) ?_
          refine y_sld (j := 4) (v := x4) B0 hX hbl (by decide) e4.symm dL_law_959 ?_
          refine z_callC B0 (z_runV (q0 := 0) (As := [.int 0, .int x2, .int x3, .int x4]) (st := []) B0 (c_X11_gain_24 (a := a) (cS0 w) x2 x3 x4 rfl rfl rfl rfl rfl rfl rfl rfl rfl rfl rfl rfl rfl rfl rfl rfl rfl rfl rfl rfl rfl rfl rfl rfl rfl rfl rfl rfl rfl rfl rfl rfl rfl rfl rfl rfl rfl rfl rfl rfl rfl rfl rfl rfl rfl rfl rfl rfl rfl rfl rfl rfl rfl rfl rfl rfl rfl rfl ⟨by omega, by omega⟩ ⟨by omega, by omega⟩ ⟨by omega, by omega⟩) cf_X11_gain (cw_0 cy tE a rw (cS0 w)) rfl wm_L_109 wi_X11_gain ws_X11_gain dL_law_960 rfl (Nat.le_of_ble_eq_true rfl) ⟨by decide, by decide, by decide, by decide⟩) (fun r1 u1 p1 => ?_)
          obtain rfl : (-100) = r1 := by rcases p1 with ⟨-, h, -⟩ | ⟨-, h, -⟩ <;> exact h
          refine z_aload_n B0 dL_law_963 rfl rfl ?_
          refine z_aload_n B0 dL_law_964 rfl rfl ?_
          refine z_iload_n B0 dL_law_965 rfl rfl ?_
          refine z_iconst (v := 1) B0 dL_law_966 (by decide) ?_
          refine z_iadd (v := 1) B0 dL_law_967 (by decide) ?_
          refine y_sld (j := 1) (v := 0) B0 hX hbl (by decide) e1.symm dL_law_968 ?_
          refine z_aload_n B0 dL_law_969 rfl rfl ?_
          refine z_iload_n B0 dL_law_970 rfl rfl ?_
          refine z_iconst (v := 2) B0 dL_law_971 (by decide) ?_
          refine z_iadd (v := 2) B0 dL_law_972 (by decide) ?_
          refine y_sld (j := 2) (v := x2) B0 hX hbl (by decide) e2.symm dL_law_973 ?_
          refine z_aload_n B0 dL_law_974 rfl rfl ?_
          refine z_iload_n B0 dL_law_975 rfl rfl ?_
          refine z_iconst (v := 3) B0 dL_law_976 (by decide) ?_
          refine z_iadd (v := 3) B0 dL_law_977 (by decide) ?_
          refine y_sld (j := 3) (v := x3) B0 hX hbl (by decide) e3.symm dL_law_978 ?_
          refine z_aload_n B0 dL_law_979 rfl rfl ?_
          refine z_iload_n B0 dL_law_980 rfl rfl ?_
          refine z_iconst (v := 4) B0 dL_law_981 (by decide) ?_
          refine z_iadd (v := 4) B0 dL_law_982 (by decide) ?_
          refine y_sld (j := 4) (v := x4) B0 hX hbl (by decide) e4.symm dL_law_983 ?_
          refine z_callM B0 (z_runV (q0 := 0) (As := [.int 0, .int x2, .int x3, .int x4]) (st := [.int (-100)]) B0 (c_X12_gain_24 (a := a2) mS0 x2 x3 x4 ⟨by omega, by omega⟩ ⟨by omega, by omega⟩ ⟨by omega, by omega⟩) cf_X12_gain (mw_0 cy a2 mS0) rfl wm_L_112 wi_X12_gain ws_X12_gain dL_law_984 rfl (Nat.le_of_ble_eq_true rfl) ⟨by decide, by decide, by decide, by decide⟩) (fun r2 u2 p2 => ?_)
          obtain ⟨rfl, -⟩ := p2
          refine z_icmp_eq_t (tgt := 1091) B0 dL_law_987 (by decide) rfl ?_
          exact fin u1 u2
      · refine z_aload_n B0 dL_law_939 rfl rfl ?_
        refine z_aload_n B0 dL_law_940 rfl rfl ?_
        refine z_iload_n B0 dL_law_941 rfl rfl ?_
        refine z_iconst (v := 1) B0 dL_law_942 (by decide) ?_
        refine z_iadd (v := 1) B0 dL_law_943 (by decide) ?_
        refine y_sld (j := 1) (v := 0) B0 hX hbl (by decide) e1.symm dL_law_944 ?_
        refine z_aload_n B0 dL_law_945 rfl rfl ?_
        refine z_iload_n B0 dL_law_946 rfl rfl ?_
        refine z_iconst (v := 2) B0 dL_law_947 (by decide) ?_
        refine z_iadd (v := 2) B0 dL_law_948 (by decide) ?_
        refine y_sld (j := 2) (v := x2) B0 hX hbl (by decide) e2.symm dL_law_949 ?_
        refine z_aload_n B0 dL_law_950 rfl rfl ?_
        refine z_iload_n B0 dL_law_951 rfl rfl ?_
        refine z_iconst (v := 3) B0 dL_law_952 (by decide) ?_
        refine z_iadd (v := 3) B0 dL_law_953 (by decide) ?_
        refine y_sld (j := 3) (v := x3) B0 hX hbl (by decide) e3.symm dL_law_954 ?_
        refine z_aload_n B0 dL_law_955 rfl rfl ?_
        refine z_iload_n B0 dL_law_956 rfl rfl ?_
        refine z_iconst (v := 4) B0 dL_law_957 (by decide) ?_
        refine z_iadd (v := 4) B0 dL_law_958 (by decide) ?_
        refine y_sld (j := 4) (v := x4) B0 hX hbl (by decide) e4.symm dL_law_959 ?_
        refine z_callC B0 (z_runV (q0 := 0) (As := [.int 0, .int x2, .int x3, .int x4]) (st := []) B0 (c_X11_gain_10 (a := a) (cS0 w) x2 x3 x4 ⟨by omega, by omega⟩ ⟨by omega, by omega⟩) cf_X11_gain (cw_0 cy tE a rw (cS0 w)) rfl wm_L_109 wi_X11_gain ws_X11_gain dL_law_960 rfl (Nat.le_of_ble_eq_true rfl) ⟨by decide, by decide, by decide, by decide⟩) (fun r1 u1 p1 => ?_)
        obtain ⟨rfl, -⟩ := p1
        refine z_aload_n B0 dL_law_963 rfl rfl ?_
        refine z_aload_n B0 dL_law_964 rfl rfl ?_
        refine z_iload_n B0 dL_law_965 rfl rfl ?_
        refine z_iconst (v := 1) B0 dL_law_966 (by decide) ?_
        refine z_iadd (v := 1) B0 dL_law_967 (by decide) ?_
        refine y_sld (j := 1) (v := 0) B0 hX hbl (by decide) e1.symm dL_law_968 ?_
        refine z_aload_n B0 dL_law_969 rfl rfl ?_
        refine z_iload_n B0 dL_law_970 rfl rfl ?_
        refine z_iconst (v := 2) B0 dL_law_971 (by decide) ?_
        refine z_iadd (v := 2) B0 dL_law_972 (by decide) ?_
        refine y_sld (j := 2) (v := x2) B0 hX hbl (by decide) e2.symm dL_law_973 ?_
        refine z_aload_n B0 dL_law_974 rfl rfl ?_
        refine z_iload_n B0 dL_law_975 rfl rfl ?_
        refine z_iconst (v := 3) B0 dL_law_976 (by decide) ?_
        refine z_iadd (v := 3) B0 dL_law_977 (by decide) ?_
        refine y_sld (j := 3) (v := x3) B0 hX hbl (by decide) e3.symm dL_law_978 ?_
        refine z_aload_n B0 dL_law_979 rfl rfl ?_
        refine z_iload_n B0 dL_law_980 rfl rfl ?_
        refine z_iconst (v := 4) B0 dL_law_981 (by decide) ?_
        refine z_iadd (v := 4) B0 dL_law_982 (by decide) ?_
        refine y_sld (j := 4) (v := x4) B0 hX hbl (by decide) e4.symm dL_law_983 ?_
        refine z_callM B0 (z_runV (q0 := 0) (As := [.int 0, .int x2, .int x3, .int x4]) (st := [.int (-100)]) B0 (c_X12_gain_10 (a := a2) mS0 x2 x3 x4 ⟨by omega, by omega⟩ ⟨by omega, by omega⟩) cf_X12_gain (mw_0 cy a2 mS0) rfl wm_L_112 wi_X12_gain ws_X12_gain dL_law_984 rfl (Nat.le_of_ble_eq_true rfl) ⟨by decide, by decide, by decide, by decide⟩) (fun r2 u2 p2 => ?_)
        obtain ⟨rfl, -⟩ := p2
        refine z_icmp_eq_t (tgt := 1091) B0 dL_law_987 (by decide) rfl ?_
        exact fin u1 u2
    · refine z_aload_n B0 dL_law_939 rfl rfl ?_
      refine z_aload_n B0 dL_law_940 rfl rfl ?_
      refine z_iload_n B0 dL_law_941 rfl rfl ?_
      refine z_iconst (v := 1) B0 dL_law_942 (by decide) ?_
      refine z_iadd (v := 1) B0 dL_law_943 (by decide) ?_
      refine y_sld (j := 1) (v := 0) B0 hX hbl (by decide) e1.symm dL_law_944 ?_
      refine z_aload_n B0 dL_law_945 rfl rfl ?_
      refine z_iload_n B0 dL_law_946 rfl rfl ?_
      refine z_iconst (v := 2) B0 dL_law_947 (by decide) ?_
      refine z_iadd (v := 2) B0 dL_law_948 (by decide) ?_
      refine y_sld (j := 2) (v := x2) B0 hX hbl (by decide) e2.symm dL_law_949 ?_
      refine z_aload_n B0 dL_law_950 rfl rfl ?_
      refine z_iload_n B0 dL_law_951 rfl rfl ?_
      refine z_iconst (v := 3) B0 dL_law_952 (by decide) ?_
      refine z_iadd (v := 3) B0 dL_law_953 (by decide) ?_
      refine y_sld (j := 3) (v := x3) B0 hX hbl (by decide) e3.symm dL_law_954 ?_
      refine z_aload_n B0 dL_law_955 rfl rfl ?_
      refine z_iload_n B0 dL_law_956 rfl rfl ?_
      refine z_iconst (v := 4) B0 dL_law_957 (by decide) ?_
      refine z_iadd (v := 4) B0 dL_law_958 (by decide) ?_
      refine y_sld (j := 4) (v := x4) B0 hX hbl (by decide) e4.symm dL_law_959 ?_
      refine z_callC B0 (z_runV (q0 := 0) (As := [.int 0, .int x2, .int x3, .int x4]) (st := []) B0 (c_X11_gain_4 (a := a) (cS0 w) x2 x3 x4 ⟨by omega, by omega⟩) cf_X11_gain (cw_0 cy tE a rw (cS0 w)) rfl wm_L_109 wi_X11_gain ws_X11_gain dL_law_960 rfl (Nat.le_of_ble_eq_true rfl) ⟨by decide, by decide, by decide, by decide⟩) (fun r1 u1 p1 => ?_)
      obtain ⟨rfl, -⟩ := p1
      refine z_aload_n B0 dL_law_963 rfl rfl ?_
      refine z_aload_n B0 dL_law_964 rfl rfl ?_
      refine z_iload_n B0 dL_law_965 rfl rfl ?_
      refine z_iconst (v := 1) B0 dL_law_966 (by decide) ?_
      refine z_iadd (v := 1) B0 dL_law_967 (by decide) ?_
      refine y_sld (j := 1) (v := 0) B0 hX hbl (by decide) e1.symm dL_law_968 ?_
      refine z_aload_n B0 dL_law_969 rfl rfl ?_
      refine z_iload_n B0 dL_law_970 rfl rfl ?_
      refine z_iconst (v := 2) B0 dL_law_971 (by decide) ?_
      refine z_iadd (v := 2) B0 dL_law_972 (by decide) ?_
      refine y_sld (j := 2) (v := x2) B0 hX hbl (by decide) e2.symm dL_law_973 ?_
      refine z_aload_n B0 dL_law_974 rfl rfl ?_
      refine z_iload_n B0 dL_law_975 rfl rfl ?_
      refine z_iconst (v := 3) B0 dL_law_976 (by decide) ?_
      refine z_iadd (v := 3) B0 dL_law_977 (by decide) ?_
      refine y_sld (j := 3) (v := x3) B0 hX hbl (by decide) e3.symm dL_law_978 ?_
      refine z_aload_n B0 dL_law_979 rfl rfl ?_
      refine z_iload_n B0 dL_law_980 rfl rfl ?_
      refine z_iconst (v := 4) B0 dL_law_981 (by decide) ?_
      refine z_iadd (v := 4) B0 dL_law_982 (by decide) ?_
      refine y_sld (j := 4) (v := x4) B0 hX hbl (by decide) e4.symm dL_law_983 ?_
      refine z_callM B0 (z_runV (q0 := 0) (As := [.int 0, .int x2, .int x3, .int x4]) (st := [.int (-100)]) B0 (c_X12_gain_4 (a := a2) mS0 x2 x3 x4 ⟨by omega, by omega⟩) cf_X12_gain (mw_0 cy a2 mS0) rfl wm_L_112 wi_X12_gain ws_X12_gain dL_law_984 rfl (Nat.le_of_ble_eq_true rfl) ⟨by decide, by decide, by decide, by decide⟩) (fun r2 u2 p2 => ?_)
      obtain ⟨rfl, -⟩ := p2
      refine z_icmp_eq_t (tgt := 1091) B0 dL_law_987 (by decide) rfl ?_
      exact fin u1 u2
  · obtain rfl : x1 = 1 := Int32.toInt_inj.mp (h1.trans (by decide))
    rcases (show ((-2147483648) ≤ x2.toInt ∧ x2.toInt ≤ 0) ∨ (1 ≤ x2.toInt ∧ x2.toInt ≤ 3) ∨ (4 ≤ x2.toInt ∧ x2.toInt ≤ 2147483647) by have g1 := Int32.le_toInt x2; have g2 := Int32.toInt_lt x2; omega) with h2 | h2 | h2
    · refine z_aload_n B0 dL_law_939 rfl rfl ?_
      refine z_aload_n B0 dL_law_940 rfl rfl ?_
      refine z_iload_n B0 dL_law_941 rfl rfl ?_
      refine z_iconst (v := 1) B0 dL_law_942 (by decide) ?_
      refine z_iadd (v := 1) B0 dL_law_943 (by decide) ?_
      refine y_sld (j := 1) (v := 1) B0 hX hbl (by decide) e1.symm dL_law_944 ?_
      refine z_aload_n B0 dL_law_945 rfl rfl ?_
      refine z_iload_n B0 dL_law_946 rfl rfl ?_
      refine z_iconst (v := 2) B0 dL_law_947 (by decide) ?_
      refine z_iadd (v := 2) B0 dL_law_948 (by decide) ?_
      refine y_sld (j := 2) (v := x2) B0 hX hbl (by decide) e2.symm dL_law_949 ?_
      refine z_aload_n B0 dL_law_950 rfl rfl ?_
      refine z_iload_n B0 dL_law_951 rfl rfl ?_
      refine z_iconst (v := 3) B0 dL_law_952 (by decide) ?_
      refine z_iadd (v := 3) B0 dL_law_953 (by decide) ?_
      refine y_sld (j := 3) (v := x3) B0 hX hbl (by decide) e3.symm dL_law_954 ?_
      refine z_aload_n B0 dL_law_955 rfl rfl ?_
      refine z_iload_n B0 dL_law_956 rfl rfl ?_
      refine z_iconst (v := 4) B0 dL_law_957 (by decide) ?_
      refine z_iadd (v := 4) B0 dL_law_958 (by decide) ?_
      refine y_sld (j := 4) (v := x4) B0 hX hbl (by decide) e4.symm dL_law_959 ?_
      refine z_callC B0 (z_runV (q0 := 0) (As := [.int 1, .int x2, .int x3, .int x4]) (st := []) B0 (c_X11_gain_5 (a := a) (cS0 w) x2 x3 x4 ⟨by omega, by omega⟩) cf_X11_gain (cw_0 cy tE a rw (cS0 w)) rfl wm_L_109 wi_X11_gain ws_X11_gain dL_law_960 rfl (Nat.le_of_ble_eq_true rfl) ⟨by decide, by decide, by decide, by decide⟩) (fun r1 u1 p1 => ?_)
      obtain ⟨rfl, -⟩ := p1
      refine z_aload_n B0 dL_law_963 rfl rfl ?_
      refine z_aload_n B0 dL_law_964 rfl rfl ?_
      refine z_iload_n B0 dL_law_965 rfl rfl ?_
      refine z_iconst (v := 1) B0 dL_law_966 (by decide) ?_
      refine z_iadd (v := 1) B0 dL_law_967 (by decide) ?_
      refine y_sld (j := 1) (v := 1) B0 hX hbl (by decide) e1.symm dL_law_968 ?_
      refine z_aload_n B0 dL_law_969 rfl rfl ?_
      refine z_iload_n B0 dL_law_970 rfl rfl ?_
      refine z_iconst (v := 2) B0 dL_law_971 (by decide) ?_
      refine z_iadd (v := 2) B0 dL_law_972 (by decide) ?_
      refine y_sld (j := 2) (v := x2) B0 hX hbl (by decide) e2.symm dL_law_973 ?_
      refine z_aload_n B0 dL_law_974 rfl rfl ?_
      refine z_iload_n B0 dL_law_975 rfl rfl ?_
      refine z_iconst (v := 3) B0 dL_law_976 (by decide) ?_
      refine z_iadd (v := 3) B0 dL_law_977 (by decide) ?_
      refine y_sld (j := 3) (v := x3) B0 hX hbl (by decide) e3.symm dL_law_978 ?_
      refine z_aload_n B0 dL_law_979 rfl rfl ?_
      refine z_iload_n B0 dL_law_980 rfl rfl ?_
      refine z_iconst (v := 4) B0 dL_law_981 (by decide) ?_
      refine z_iadd (v := 4) B0 dL_law_982 (by decide) ?_
      refine y_sld (j := 4) (v := x4) B0 hX hbl (by decide) e4.symm dL_law_983 ?_
      refine z_callM B0 (z_runV (q0 := 0) (As := [.int 1, .int x2, .int x3, .int x4]) (st := [.int (-100)]) B0 (c_X12_gain_5 (a := a2) mS0 x2 x3 x4 ⟨by omega, by omega⟩) cf_X12_gain (mw_0 cy a2 mS0) rfl wm_L_112 wi_X12_gain ws_X12_gain dL_law_984 rfl (Nat.le_of_ble_eq_true rfl) ⟨by decide, by decide, by decide, by decide⟩) (fun r2 u2 p2 => ?_)
      obtain ⟨rfl, -⟩ := p2
      refine z_icmp_eq_t (tgt := 1091) B0 dL_law_987 (by decide) rfl ?_
      exact fin u1 u2
    · rcases (show ((-2147483648) ≤ x3.toInt ∧ x3.toInt ≤ (-1)) ∨ x3.toInt = 0 ∨ (1 ≤ x3.toInt ∧ x3.toInt ≤ 6) ∨ (7 ≤ x3.toInt ∧ x3.toInt ≤ 2147483647) by have g1 := Int32.le_toInt x3; have g2 := Int32.toInt_lt x3; omega) with h3 | h3 | h3 | h3
      · refine z_aload_n B0 dL_law_939 rfl rfl ?_
        refine z_aload_n B0 dL_law_940 rfl rfl ?_
        refine z_iload_n B0 dL_law_941 rfl rfl ?_
        refine z_iconst (v := 1) B0 dL_law_942 (by decide) ?_
        refine z_iadd (v := 1) B0 dL_law_943 (by decide) ?_
        refine y_sld (j := 1) (v := 1) B0 hX hbl (by decide) e1.symm dL_law_944 ?_
        refine z_aload_n B0 dL_law_945 rfl rfl ?_
        refine z_iload_n B0 dL_law_946 rfl rfl ?_
        refine z_iconst (v := 2) B0 dL_law_947 (by decide) ?_
        refine z_iadd (v := 2) B0 dL_law_948 (by decide) ?_
        refine y_sld (j := 2) (v := x2) B0 hX hbl (by decide) e2.symm dL_law_949 ?_
        refine z_aload_n B0 dL_law_950 rfl rfl ?_
        refine z_iload_n B0 dL_law_951 rfl rfl ?_
        refine z_iconst (v := 3) B0 dL_law_952 (by decide) ?_
        refine z_iadd (v := 3) B0 dL_law_953 (by decide) ?_
        refine y_sld (j := 3) (v := x3) B0 hX hbl (by decide) e3.symm dL_law_954 ?_
        refine z_aload_n B0 dL_law_955 rfl rfl ?_
        refine z_iload_n B0 dL_law_956 rfl rfl ?_
        refine z_iconst (v := 4) B0 dL_law_957 (by decide) ?_
        refine z_iadd (v := 4) B0 dL_law_958 (by decide) ?_
        refine y_sld (j := 4) (v := x4) B0 hX hbl (by decide) e4.symm dL_law_959 ?_
        refine z_callC B0 (z_runV (q0 := 0) (As := [.int 1, .int x2, .int x3, .int x4]) (st := []) B0 (c_X11_gain_11 (a := a) (cS0 w) x2 x3 x4 ⟨by omega, by omega⟩ ⟨by omega, by omega⟩) cf_X11_gain (cw_0 cy tE a rw (cS0 w)) rfl wm_L_109 wi_X11_gain ws_X11_gain dL_law_960 rfl (Nat.le_of_ble_eq_true rfl) ⟨by decide, by decide, by decide, by decide⟩) (fun r1 u1 p1 => ?_)
        obtain ⟨rfl, -⟩ := p1
        refine z_aload_n B0 dL_law_963 rfl rfl ?_
        refine z_aload_n B0 dL_law_964 rfl rfl ?_
        refine z_iload_n B0 dL_law_965 rfl rfl ?_
        refine z_iconst (v := 1) B0 dL_law_966 (by decide) ?_
        refine z_iadd (v := 1) B0 dL_law_967 (by decide) ?_
        refine y_sld (j := 1) (v := 1) B0 hX hbl (by decide) e1.symm dL_law_968 ?_
        refine z_aload_n B0 dL_law_969 rfl rfl ?_
        refine z_iload_n B0 dL_law_970 rfl rfl ?_
        refine z_iconst (v := 2) B0 dL_law_971 (by decide) ?_
        refine z_iadd (v := 2) B0 dL_law_972 (by decide) ?_
        refine y_sld (j := 2) (v := x2) B0 hX hbl (by decide) e2.symm dL_law_973 ?_
        refine z_aload_n B0 dL_law_974 rfl rfl ?_
        refine z_iload_n B0 dL_law_975 rfl rfl ?_
        refine z_iconst (v := 3) B0 dL_law_976 (by decide) ?_
        refine z_iadd (v := 3) B0 dL_law_977 (by decide) ?_
        refine y_sld (j := 3) (v := x3) B0 hX hbl (by decide) e3.symm dL_law_978 ?_
        refine z_aload_n B0 dL_law_979 rfl rfl ?_
        refine z_iload_n B0 dL_law_980 rfl rfl ?_
        refine z_iconst (v := 4) B0 dL_law_981 (by decide) ?_
        refine z_iadd (v := 4) B0 dL_law_982 (by decide) ?_
        refine y_sld (j := 4) (v := x4) B0 hX hbl (by decide) e4.symm dL_law_983 ?_
        refine z_callM B0 (z_runV (q0 := 0) (As := [.int 1, .int x2, .int x3, .int x4]) (st := [.int (-100)]) B0 (c_X12_gain_11 (a := a2) mS0 x2 x3 x4 ⟨by omega, by omega⟩ ⟨by omega, by omega⟩) cf_X12_gain (mw_0 cy a2 mS0) rfl wm_L_112 wi_X12_gain ws_X12_gain dL_law_984 rfl (Nat.le_of_ble_eq_true rfl) ⟨by decide, by decide, by decide, by decide⟩) (fun r2 u2 p2 => ?_)
        obtain ⟨rfl, -⟩ := p2
        refine z_icmp_eq_t (tgt := 1091) B0 dL_law_987 (by decide) rfl ?_
        exact fin u1 u2
      · obtain rfl : x3 = 0 := Int32.toInt_inj.mp (h3.trans (by decide))
        rcases (show ((-2147483648) ≤ x4.toInt ∧ x4.toInt ≤ (-1)) ∨ x4.toInt = 0 ∨ x4.toInt = 1 ∨ (2 ≤ x4.toInt ∧ x4.toInt ≤ 7) ∨ (8 ≤ x4.toInt ∧ x4.toInt ≤ 2147483647) by have g1 := Int32.le_toInt x4; have g2 := Int32.toInt_lt x4; omega) with h4 | h4 | h4 | h4 | h4
        · refine z_aload_n B0 dL_law_939 rfl rfl ?_
          refine z_aload_n B0 dL_law_940 rfl rfl ?_
          refine z_iload_n B0 dL_law_941 rfl rfl ?_
          refine z_iconst (v := 1) B0 dL_law_942 (by decide) ?_
          refine z_iadd (v := 1) B0 dL_law_943 (by decide) ?_
          refine y_sld (j := 1) (v := 1) B0 hX hbl (by decide) e1.symm dL_law_944 ?_
          refine z_aload_n B0 dL_law_945 rfl rfl ?_
          refine z_iload_n B0 dL_law_946 rfl rfl ?_
          refine z_iconst (v := 2) B0 dL_law_947 (by decide) ?_
          refine z_iadd (v := 2) B0 dL_law_948 (by decide) ?_
          refine y_sld (j := 2) (v := x2) B0 hX hbl (by decide) e2.symm dL_law_949 ?_
          refine z_aload_n B0 dL_law_950 rfl rfl ?_
          refine z_iload_n B0 dL_law_951 rfl rfl ?_
          refine z_iconst (v := 3) B0 dL_law_952 (by decide) ?_
          refine z_iadd (v := 3) B0 dL_law_953 (by decide) ?_
          refine y_sld (j := 3) (v := 0) B0 hX hbl (by decide) e3.symm dL_law_954 ?_
          refine z_aload_n B0 dL_law_955 rfl rfl ?_
          refine z_iload_n B0 dL_law_956 rfl rfl ?_
          refine z_iconst (v := 4) B0 dL_law_957 (by decide) ?_
          refine z_iadd (v := 4) B0 dL_law_958 (by decide) ?_
          refine y_sld (j := 4) (v := x4) B0 hX hbl (by decide) e4.symm dL_law_959 ?_
          refine z_callC B0 (z_runV (q0 := 0) (As := [.int 1, .int x2, .int 0, .int x4]) (st := []) B0 (c_X11_gain_25 (a := a) (cS0 w) x2 x4 ⟨by omega, by omega⟩ ⟨by omega, by omega⟩) cf_X11_gain (cw_0 cy tE a rw (cS0 w)) rfl wm_L_109 wi_X11_gain ws_X11_gain dL_law_960 rfl (Nat.le_of_ble_eq_true rfl) ⟨by decide, by decide, by decide, by decide⟩) (fun r1 u1 p1 => ?_)
          obtain ⟨rfl, -⟩ := p1
          refine z_aload_n B0 dL_law_963 rfl rfl ?_
          refine z_aload_n B0 dL_law_964 rfl rfl ?_
          refine z_iload_n B0 dL_law_965 rfl rfl ?_
          refine z_iconst (v := 1) B0 dL_law_966 (by decide) ?_
          refine z_iadd (v := 1) B0 dL_law_967 (by decide) ?_
          refine y_sld (j := 1) (v := 1) B0 hX hbl (by decide) e1.symm dL_law_968 ?_
          refine z_aload_n B0 dL_law_969 rfl rfl ?_
          refine z_iload_n B0 dL_law_970 rfl rfl ?_
          refine z_iconst (v := 2) B0 dL_law_971 (by decide) ?_
          refine z_iadd (v := 2) B0 dL_law_972 (by decide) ?_
          refine y_sld (j := 2) (v := x2) B0 hX hbl (by decide) e2.symm dL_law_973 ?_
          refine z_aload_n B0 dL_law_974 rfl rfl ?_
          refine z_iload_n B0 dL_law_975 rfl rfl ?_
          refine z_iconst (v := 3) B0 dL_law_976 (by decide) ?_
          refine z_iadd (v := 3) B0 dL_law_977 (by decide) ?_
          refine y_sld (j := 3) (v := 0) B0 hX hbl (by decide) e3.symm dL_law_978 ?_
          refine z_aload_n B0 dL_law_979 rfl rfl ?_
          refine z_iload_n B0 dL_law_980 rfl rfl ?_
          refine z_iconst (v := 4) B0 dL_law_981 (by decide) ?_
          refine z_iadd (v := 4) B0 dL_law_982 (by decide) ?_
          refine y_sld (j := 4) (v := x4) B0 hX hbl (by decide) e4.symm dL_law_983 ?_
          refine z_callM B0 (z_runV (q0 := 0) (As := [.int 1, .int x2, .int 0, .int x4]) (st := [.int (-100)]) B0 (c_X12_gain_25 (a := a2) mS0 x2 x4 ⟨by omega, by omega⟩ ⟨by omega, by omega⟩) cf_X12_gain (mw_0 cy a2 mS0) rfl wm_L_112 wi_X12_gain ws_X12_gain dL_law_984 rfl (Nat.le_of_ble_eq_true rfl) ⟨by decide, by decide, by decide, by decide⟩) (fun r2 u2 p2 => ?_)
          obtain ⟨rfl, -⟩ := p2
          refine z_icmp_eq_t (tgt := 1091) B0 dL_law_987 (by decide) rfl ?_
          exact fin u1 u2
        · obtain rfl : x4 = 0 := Int32.toInt_inj.mp (h4.trans (by decide))
          refine z_aload_n B0 dL_law_939 rfl rfl ?_
          refine z_aload_n B0 dL_law_940 rfl rfl ?_
          refine z_iload_n B0 dL_law_941 rfl rfl ?_
          refine z_iconst (v := 1) B0 dL_law_942 (by decide) ?_
          refine z_iadd (v := 1) B0 dL_law_943 (by decide) ?_
          refine y_sld (j := 1) (v := 1) B0 hX hbl (by decide) e1.symm dL_law_944 ?_
          refine z_aload_n B0 dL_law_945 rfl rfl ?_
          refine z_iload_n B0 dL_law_946 rfl rfl ?_
          refine z_iconst (v := 2) B0 dL_law_947 (by decide) ?_
          refine z_iadd (v := 2) B0 dL_law_948 (by decide) ?_
          refine y_sld (j := 2) (v := x2) B0 hX hbl (by decide) e2.symm dL_law_949 ?_
          refine z_aload_n B0 dL_law_950 rfl rfl ?_
          refine z_iload_n B0 dL_law_951 rfl rfl ?_
          refine z_iconst (v := 3) B0 dL_law_952 (by decide) ?_
          refine z_iadd (v := 3) B0 dL_law_953 (by decide) ?_
          refine y_sld (j := 3) (v := 0) B0 hX hbl (by decide) e3.symm dL_law_954 ?_
          refine z_aload_n B0 dL_law_955 rfl rfl ?_
          refine z_iload_n B0 dL_law_956 rfl rfl ?_
          refine z_iconst (v := 4) B0 dL_law_957 (by decide) ?_
          refine z_iadd (v := 4) B0 dL_law_958 (by decide) ?_
          refine y_sld (j := 4) (v := 0) B0 hX hbl (by decide) e4.symm dL_law_959 ?_
          refine z_callC B0 (z_runV (q0 := 0) (As := [.int 1, .int x2, .int 0, .int 0]) (st := []) B0 (c_X11_gain_26 (a := a) (cS0 w) x2 rfl rfl rfl rfl rfl rfl rfl rfl rfl rfl rfl rfl rfl rfl rfl rfl rfl rfl rfl rfl rfl rfl rfl rfl rfl rfl rfl rfl rfl rfl rfl rfl rfl rfl rfl rfl rfl rfl rfl rfl rfl rfl rfl rfl rfl rfl rfl rfl rfl rfl rfl rfl rfl rfl rfl rfl rfl rfl rfl ⟨by omega, by omega⟩) cf_X11_gain (cw_0 cy tE a rw (cS0 w)) rfl wm_L_109 wi_X11_gain ws_X11_gain dL_law_960 rfl (Nat.le_of_ble_eq_true rfl) ⟨by decide, by decide, by decide, by decide⟩) (fun r1 u1 p1 => ?_)
          obtain ⟨rfl, -⟩ := p1
          refine z_aload_n B0 dL_law_963 rfl rfl ?_
          refine z_aload_n B0 dL_law_964 rfl rfl ?_
          refine z_iload_n B0 dL_law_965 rfl rfl ?_
          refine z_iconst (v := 1) B0 dL_law_966 (by decide) ?_
          refine z_iadd (v := 1) B0 dL_law_967 (by decide) ?_
          refine y_sld (j := 1) (v := 1) B0 hX hbl (by decide) e1.symm dL_law_968 ?_
          refine z_aload_n B0 dL_law_969 rfl rfl ?_
          refine z_iload_n B0 dL_law_970 rfl rfl ?_
          refine z_iconst (v := 2) B0 dL_law_971 (by decide) ?_
          refine z_iadd (v := 2) B0 dL_law_972 (by decide) ?_
          refine y_sld (j := 2) (v := x2) B0 hX hbl (by decide) e2.symm dL_law_973 ?_
          refine z_aload_n B0 dL_law_974 rfl rfl ?_
          refine z_iload_n B0 dL_law_975 rfl rfl ?_
          refine z_iconst (v := 3) B0 dL_law_976 (by decide) ?_
          refine z_iadd (v := 3) B0 dL_law_977 (by decide) ?_
          refine y_sld (j := 3) (v := 0) B0 hX hbl (by decide) e3.symm dL_law_978 ?_
          refine z_aload_n B0 dL_law_979 rfl rfl ?_
          refine z_iload_n B0 dL_law_980 rfl rfl ?_
          refine z_iconst (v := 4) B0 dL_law_981 (by decide) ?_
          refine z_iadd (v := 4) B0 dL_law_982 (by decide) ?_
          refine y_sld (j := 4) (v := 0) B0 hX hbl (by decide) e4.symm dL_law_983 ?_
          refine z_callM B0 (z_runV (q0 := 0) (As := [.int 1, .int x2, .int 0, .int 0]) (st := [.int 0]) B0 (c_X12_gain_26 (a := a2) mS0 x2 rfl rfl rfl rfl rfl rfl rfl rfl rfl rfl rfl rfl rfl rfl rfl rfl rfl rfl rfl rfl rfl rfl rfl rfl rfl rfl rfl rfl rfl rfl ⟨by omega, by omega⟩) cf_X12_gain (mw_0 cy a2 mS0) rfl wm_L_112 wi_X12_gain ws_X12_gain dL_law_984 rfl (Nat.le_of_ble_eq_true rfl) ⟨by decide, by decide, by decide, by decide⟩) (fun r2 u2 p2 => ?_)
          obtain ⟨rfl, -⟩ := p2
          refine z_icmp_eq_t (tgt := 1091) B0 dL_law_987 (by decide) rfl ?_
          exact fin u1 u2
        · obtain rfl : x4 = 1 := Int32.toInt_inj.mp (h4.trans (by decide))
          refine z_aload_n B0 dL_law_939 rfl rfl ?_
          refine z_aload_n B0 dL_law_940 rfl rfl ?_
          refine z_iload_n B0 dL_law_941 rfl rfl ?_
          refine z_iconst (v := 1) B0 dL_law_942 (by decide) ?_
          refine z_iadd (v := 1) B0 dL_law_943 (by decide) ?_
          refine y_sld (j := 1) (v := 1) B0 hX hbl (by decide) e1.symm dL_law_944 ?_
          refine z_aload_n B0 dL_law_945 rfl rfl ?_
          refine z_iload_n B0 dL_law_946 rfl rfl ?_
          refine z_iconst (v := 2) B0 dL_law_947 (by decide) ?_
          refine z_iadd (v := 2) B0 dL_law_948 (by decide) ?_
          refine y_sld (j := 2) (v := x2) B0 hX hbl (by decide) e2.symm dL_law_949 ?_
          refine z_aload_n B0 dL_law_950 rfl rfl ?_
          refine z_iload_n B0 dL_law_951 rfl rfl ?_
          refine z_iconst (v := 3) B0 dL_law_952 (by decide) ?_
          refine z_iadd (v := 3) B0 dL_law_953 (by decide) ?_
          refine y_sld (j := 3) (v := 0) B0 hX hbl (by decide) e3.symm dL_law_954 ?_
          refine z_aload_n B0 dL_law_955 rfl rfl ?_
          refine z_iload_n B0 dL_law_956 rfl rfl ?_
          refine z_iconst (v := 4) B0 dL_law_957 (by decide) ?_
          refine z_iadd (v := 4) B0 dL_law_958 (by decide) ?_
          refine y_sld (j := 4) (v := 1) B0 hX hbl (by decide) e4.symm dL_law_959 ?_
          refine z_callC B0 (z_runV (q0 := 0) (As := [.int 1, .int x2, .int 0, .int 1]) (st := []) B0 (c_X11_gain_27 (a := a) (cS0 w) x2 rfl rfl rfl rfl rfl rfl rfl rfl rfl rfl rfl rfl rfl rfl rfl rfl rfl rfl rfl rfl rfl rfl rfl rfl rfl rfl rfl rfl rfl rfl rfl rfl rfl rfl rfl rfl rfl rfl rfl rfl rfl rfl rfl rfl rfl rfl rfl rfl rfl rfl rfl rfl rfl rfl rfl rfl rfl rfl rfl ⟨by omega, by omega⟩) cf_X11_gain (cw_0 cy tE a rw (cS0 w)) rfl wm_L_109 wi_X11_gain ws_X11_gain dL_law_960 rfl (Nat.le_of_ble_eq_true rfl) ⟨by decide, by decide, by decide, by decide⟩) (fun r1 u1 p1 => ?_)
          obtain ⟨rfl, -⟩ := p1
          refine z_aload_n B0 dL_law_963 rfl rfl ?_
          refine z_aload_n B0 dL_law_964 rfl rfl ?_
          refine z_iload_n B0 dL_law_965 rfl rfl ?_
          refine z_iconst (v := 1) B0 dL_law_966 (by decide) ?_
          refine z_iadd (v := 1) B0 dL_law_967 (by decide) ?_
          refine y_sld (j := 1) (v := 1) B0 hX hbl (by decide) e1.symm dL_law_968 ?_
          refine z_aload_n B0 dL_law_969 rfl rfl ?_
          refine z_iload_n B0 dL_law_970 rfl rfl ?_
          refine z_iconst (v := 2) B0 dL_law_971 (by decide) ?_
          refine z_iadd (v := 2) B0 dL_law_972 (by decide) ?_
          refine y_sld (j := 2) (v := x2) B0 hX hbl (by decide) e2.symm dL_law_973 ?_
          refine z_aload_n B0 dL_law_974 rfl rfl ?_
          refine z_iload_n B0 dL_law_975 rfl rfl ?_
          refine z_iconst (v := 3) B0 dL_law_976 (by decide) ?_
          refine z_iadd (v := 3) B0 dL_law_977 (by decide) ?_
          refine y_sld (j := 3) (v := 0) B0 hX hbl (by decide) e3.symm dL_law_978 ?_
          refine z_aload_n B0 dL_law_979 rfl rfl ?_
          refine z_iload_n B0 dL_law_980 rfl rfl ?_
          refine z_iconst (v := 4) B0 dL_law_981 (by decide) ?_
          refine z_iadd (v := 4) B0 dL_law_982 (by decide) ?_
          refine y_sld (j := 4) (v := 1) B0 hX hbl (by decide) e4.symm dL_law_983 ?_
          refine z_callM B0 (z_runV (q0 := 0) (As := [.int 1, .int x2, .int 0, .int 1]) (st := [.int 0]) B0 (c_X12_gain_27 (a := a2) mS0 x2 rfl rfl rfl rfl rfl rfl rfl rfl rfl rfl rfl rfl rfl rfl rfl rfl rfl rfl rfl rfl rfl rfl rfl rfl rfl rfl rfl rfl rfl rfl ⟨by omega, by omega⟩) cf_X12_gain (mw_0 cy a2 mS0) rfl wm_L_112 wi_X12_gain ws_X12_gain dL_law_984 rfl (Nat.le_of_ble_eq_true rfl) ⟨by decide, by decide, by decide, by decide⟩) (fun r2 u2 p2 => ?_)
          obtain ⟨rfl, -⟩ := p2
          refine z_icmp_eq_t (tgt := 1091) B0 dL_law_987 (by decide) rfl ?_
          exact fin u1 u2
        · refine z_aload_n B0 dL_law_939 rfl rfl ?_
          refine z_aload_n B0 dL_law_940 rfl rfl ?_
          refine z_iload_n B0 dL_law_941 rfl rfl ?_
          refine z_iconst (v := 1) B0 dL_law_942 (by decide) ?_
          refine z_iadd (v := 1) B0 dL_law_943 (by decide) ?_
          refine y_sld (j := 1) (v := 1) B0 hX hbl (by decide) e1.symm dL_law_944 ?_
          refine z_aload_n B0 dL_law_945 rfl rfl ?_
          refine z_iload_n B0 dL_law_946 rfl rfl ?_
          refine z_iconst (v := 2) B0 dL_law_947 (by decide) ?_
          refine z_iadd (v := 2) B0 dL_law_948 (by decide) ?_
          refine y_sld (j := 2) (v := x2) B0 hX hbl (by decide) e2.symm dL_law_949 ?_
          refine z_aload_n B0 dL_law_950 rfl rfl ?_
          refine z_iload_n B0 dL_law_951 rfl rfl ?_
          refine z_iconst (v := 3) B0 dL_law_952 (by decide) ?_
          refine z_iadd (v := 3) B0 dL_law_953 (by decide) ?_
          refine y_sld (j := 3) (v := 0) B0 hX hbl (by decide) e3.symm dL_law_954 ?_
          refine z_aload_n B0 dL_law_955 rfl rfl ?_
          refine z_iload_n B0 dL_law_956 rfl rfl ?_
          refine z_iconst (v := 4) B0 dL_law_957 (by decide) ?_
          refine z_iadd (v := 4) B0 dL_law_958 (by decide) ?_
          refine y_sld (j := 4) (v := x4) B0 hX hbl (by decide) e4.symm dL_law_959 ?_
          refine z_callC B0 (z_runV (q0 := 0) (As := [.int 1, .int x2, .int 0, .int x4]) (st := []) B0 (c_X11_gain_28 (a := a) (cS0 w) x2 x4 rfl rfl rfl rfl rfl rfl rfl rfl rfl rfl rfl rfl rfl rfl rfl rfl rfl rfl rfl rfl rfl rfl rfl rfl rfl rfl rfl rfl rfl rfl rfl rfl rfl rfl rfl rfl rfl rfl rfl rfl rfl rfl rfl rfl rfl rfl rfl rfl rfl rfl rfl rfl rfl rfl rfl rfl rfl rfl rfl ⟨by omega, by omega⟩ ⟨by omega, by omega⟩) cf_X11_gain (cw_0 cy tE a rw (cS0 w)) rfl wm_L_109 wi_X11_gain ws_X11_gain dL_law_960 rfl (Nat.le_of_ble_eq_true rfl) ⟨by decide, by decide, by decide, by decide⟩) (fun r1 u1 p1 => ?_)
          obtain ⟨rfl, -⟩ := p1
          refine z_aload_n B0 dL_law_963 rfl rfl ?_
          refine z_aload_n B0 dL_law_964 rfl rfl ?_
          refine z_iload_n B0 dL_law_965 rfl rfl ?_
          refine z_iconst (v := 1) B0 dL_law_966 (by decide) ?_
          refine z_iadd (v := 1) B0 dL_law_967 (by decide) ?_
          refine y_sld (j := 1) (v := 1) B0 hX hbl (by decide) e1.symm dL_law_968 ?_
          refine z_aload_n B0 dL_law_969 rfl rfl ?_
          refine z_iload_n B0 dL_law_970 rfl rfl ?_
          refine z_iconst (v := 2) B0 dL_law_971 (by decide) ?_
          refine z_iadd (v := 2) B0 dL_law_972 (by decide) ?_
          refine y_sld (j := 2) (v := x2) B0 hX hbl (by decide) e2.symm dL_law_973 ?_
          refine z_aload_n B0 dL_law_974 rfl rfl ?_
          refine z_iload_n B0 dL_law_975 rfl rfl ?_
          refine z_iconst (v := 3) B0 dL_law_976 (by decide) ?_
          refine z_iadd (v := 3) B0 dL_law_977 (by decide) ?_
          refine y_sld (j := 3) (v := 0) B0 hX hbl (by decide) e3.symm dL_law_978 ?_
          refine z_aload_n B0 dL_law_979 rfl rfl ?_
          refine z_iload_n B0 dL_law_980 rfl rfl ?_
          refine z_iconst (v := 4) B0 dL_law_981 (by decide) ?_
          refine z_iadd (v := 4) B0 dL_law_982 (by decide) ?_
          refine y_sld (j := 4) (v := x4) B0 hX hbl (by decide) e4.symm dL_law_983 ?_
          refine z_callM B0 (z_runV (q0 := 0) (As := [.int 1, .int x2, .int 0, .int x4]) (st := [.int (-100)]) B0 (c_X12_gain_28 (a := a2) mS0 x2 x4 rfl rfl rfl rfl rfl rfl rfl rfl rfl rfl rfl rfl rfl rfl rfl rfl rfl rfl rfl rfl rfl rfl rfl rfl rfl rfl rfl rfl rfl rfl ⟨by omega, by omega⟩ ⟨by omega, by omega⟩) cf_X12_gain (mw_0 cy a2 mS0) rfl wm_L_112 wi_X12_gain ws_X12_gain dL_law_984 rfl (Nat.le_of_ble_eq_true rfl) ⟨by decide, by decide, by decide, by decide⟩) (fun r2 u2 p2 => ?_)
          obtain ⟨rfl, -⟩ := p2
          refine z_icmp_eq_t (tgt := 1091) B0 dL_law_987 (by decide) rfl ?_
          exact fin u1 u2
        · refine z_aload_n B0 dL_law_939 rfl rfl ?_
          refine z_aload_n B0 dL_law_940 rfl rfl ?_
          refine z_iload_n B0 dL_law_941 rfl rfl ?_
          refine z_iconst (v := 1) B0 dL_law_942 (by decide) ?_
          refine z_iadd (v := 1) B0 dL_law_943 (by decide) ?_
          refine y_sld (j := 1) (v := 1) B0 hX hbl (by decide) e1.symm dL_law_944 ?_
          refine z_aload_n B0 dL_law_945 rfl rfl ?_
          refine z_iload_n B0 dL_law_946 rfl rfl ?_
          refine z_iconst (v := 2) B0 dL_law_947 (by decide) ?_
          refine z_iadd (v := 2) B0 dL_law_948 (by decide) ?_
          refine y_sld (j := 2) (v := x2) B0 hX hbl (by decide) e2.symm dL_law_949 ?_
          refine z_aload_n B0 dL_law_950 rfl rfl ?_
          refine z_iload_n B0 dL_law_951 rfl rfl ?_
          refine z_iconst (v := 3) B0 dL_law_952 (by decide) ?_
          refine z_iadd (v := 3) B0 dL_law_953 (by decide) ?_
          refine y_sld (j := 3) (v := 0) B0 hX hbl (by decide) e3.symm dL_law_954 ?_
          refine z_aload_n B0 dL_law_955 rfl rfl ?_
          refine z_iload_n B0 dL_law_956 rfl rfl ?_
          refine z_iconst (v := 4) B0 dL_law_957 (by decide) ?_
          refine z_iadd (v := 4) B0 dL_law_958 (by decide) ?_
          refine y_sld (j := 4) (v := x4) B0 hX hbl (by decide) e4.symm dL_law_959 ?_
          refine z_callC B0 (z_runV (q0 := 0) (As := [.int 1, .int x2, .int 0, .int x4]) (st := []) B0 (c_X11_gain_29 (a := a) (cS0 w) x2 x4 rfl rfl rfl rfl rfl rfl rfl rfl rfl rfl rfl rfl rfl rfl rfl rfl rfl rfl rfl rfl rfl rfl rfl rfl rfl rfl rfl rfl rfl rfl rfl rfl rfl rfl rfl rfl rfl rfl rfl rfl rfl rfl rfl rfl rfl rfl rfl rfl rfl rfl rfl rfl rfl rfl rfl rfl rfl rfl rfl ⟨by omega, by omega⟩ ⟨by omega, by omega⟩) cf_X11_gain (cw_0 cy tE a rw (cS0 w)) rfl wm_L_109 wi_X11_gain ws_X11_gain dL_law_960 rfl (Nat.le_of_ble_eq_true rfl) ⟨by decide, by decide, by decide, by decide⟩) (fun r1 u1 p1 => ?_)
          obtain ⟨rfl, -⟩ := p1
          refine z_aload_n B0 dL_law_963 rfl rfl ?_
          refine z_aload_n B0 dL_law_964 rfl rfl ?_
          refine z_iload_n B0 dL_law_965 rfl rfl ?_
          refine z_iconst (v := 1) B0 dL_law_966 (by decide) ?_
          refine z_iadd (v := 1) B0 dL_law_967 (by decide) ?_
          refine y_sld (j := 1) (v := 1) B0 hX hbl (by decide) e1.symm dL_law_968 ?_
          refine z_aload_n B0 dL_law_969 rfl rfl ?_
          refine z_iload_n B0 dL_law_970 rfl rfl ?_
          refine z_iconst (v := 2) B0 dL_law_971 (by decide) ?_
          refine z_iadd (v := 2) B0 dL_law_972 (by decide) ?_
          refine y_sld (j := 2) (v := x2) B0 hX hbl (by decide) e2.symm dL_law_973 ?_
          refine z_aload_n B0 dL_law_974 rfl rfl ?_
          refine z_iload_n B0 dL_law_975 rfl rfl ?_
          refine z_iconst (v := 3) B0 dL_law_976 (by decide) ?_
          refine z_iadd (v := 3) B0 dL_law_977 (by decide) ?_
          refine y_sld (j := 3) (v := 0) B0 hX hbl (by decide) e3.symm dL_law_978 ?_
          refine z_aload_n B0 dL_law_979 rfl rfl ?_
          refine z_iload_n B0 dL_law_980 rfl rfl ?_
          refine z_iconst (v := 4) B0 dL_law_981 (by decide) ?_
          refine z_iadd (v := 4) B0 dL_law_982 (by decide) ?_
          refine y_sld (j := 4) (v := x4) B0 hX hbl (by decide) e4.symm dL_law_983 ?_
          refine z_callM B0 (z_runV (q0 := 0) (As := [.int 1, .int x2, .int 0, .int x4]) (st := [.int (-100)]) B0 (c_X12_gain_29 (a := a2) mS0 x2 x4 ⟨by omega, by omega⟩ ⟨by omega, by omega⟩) cf_X12_gain (mw_0 cy a2 mS0) rfl wm_L_112 wi_X12_gain ws_X12_gain dL_law_984 rfl (Nat.le_of_ble_eq_true rfl) ⟨by decide, by decide, by decide, by decide⟩) (fun r2 u2 p2 => ?_)
          obtain ⟨rfl, -⟩ := p2
          refine z_icmp_eq_t (tgt := 1091) B0 dL_law_987 (by decide) rfl ?_
          exact fin u1 u2
      · rcases (show ((-2147483648) ≤ x4.toInt ∧ x4.toInt ≤ (-1)) ∨ x4.toInt = 0 ∨ x4.toInt = 1 ∨ (2 ≤ x4.toInt ∧ x4.toInt ≤ 7) ∨ (8 ≤ x4.toInt ∧ x4.toInt ≤ 2147483647) by have g1 := Int32.le_toInt x4; have g2 := Int32.toInt_lt x4; omega) with h4 | h4 | h4 | h4 | h4
        · refine z_aload_n B0 dL_law_939 rfl rfl ?_
          refine z_aload_n B0 dL_law_940 rfl rfl ?_
          refine z_iload_n B0 dL_law_941 rfl rfl ?_
          refine z_iconst (v := 1) B0 dL_law_942 (by decide) ?_
          refine z_iadd (v := 1) B0 dL_law_943 (by decide) ?_
          refine y_sld (j := 1) (v := 1) B0 hX hbl (by decide) e1.symm dL_law_944 ?_
          refine z_aload_n B0 dL_law_945 rfl rfl ?_
          refine z_iload_n B0 dL_law_946 rfl rfl ?_
          refine z_iconst (v := 2) B0 dL_law_947 (by decide) ?_
          refine z_iadd (v := 2) B0 dL_law_948 (by decide) ?_
          refine y_sld (j := 2) (v := x2) B0 hX hbl (by decide) e2.symm dL_law_949 ?_
          refine z_aload_n B0 dL_law_950 rfl rfl ?_
          refine z_iload_n B0 dL_law_951 rfl rfl ?_
          refine z_iconst (v := 3) B0 dL_law_952 (by decide) ?_
          refine z_iadd (v := 3) B0 dL_law_953 (by decide) ?_
          refine y_sld (j := 3) (v := x3) B0 hX hbl (by decide) e3.symm dL_law_954 ?_
          refine z_aload_n B0 dL_law_955 rfl rfl ?_
          refine z_iload_n B0 dL_law_956 rfl rfl ?_
          refine z_iconst (v := 4) B0 dL_law_957 (by decide) ?_
          refine z_iadd (v := 4) B0 dL_law_958 (by decide) ?_
          refine y_sld (j := 4) (v := x4) B0 hX hbl (by decide) e4.symm dL_law_959 ?_
          refine z_callC B0 (z_runV (q0 := 0) (As := [.int 1, .int x2, .int x3, .int x4]) (st := []) B0 (c_X11_gain_30 (a := a) (cS0 w) x2 x3 x4 ⟨by omega, by omega⟩ ⟨by omega, by omega⟩ ⟨by omega, by omega⟩) cf_X11_gain (cw_0 cy tE a rw (cS0 w)) rfl wm_L_109 wi_X11_gain ws_X11_gain dL_law_960 rfl (Nat.le_of_ble_eq_true rfl) ⟨by decide, by decide, by decide, by decide⟩) (fun r1 u1 p1 => ?_)
          obtain ⟨rfl, -⟩ := p1
          refine z_aload_n B0 dL_law_963 rfl rfl ?_
          refine z_aload_n B0 dL_law_964 rfl rfl ?_
          refine z_iload_n B0 dL_law_965 rfl rfl ?_
          refine z_iconst (v := 1) B0 dL_law_966 (by decide) ?_
          refine z_iadd (v := 1) B0 dL_law_967 (by decide) ?_
          refine y_sld (j := 1) (v := 1) B0 hX hbl (by decide) e1.symm dL_law_968 ?_
          refine z_aload_n B0 dL_law_969 rfl rfl ?_
          refine z_iload_n B0 dL_law_970 rfl rfl ?_
          refine z_iconst (v := 2) B0 dL_law_971 (by decide) ?_
          refine z_iadd (v := 2) B0 dL_law_972 (by decide) ?_
          refine y_sld (j := 2) (v := x2) B0 hX hbl (by decide) e2.symm dL_law_973 ?_
          refine z_aload_n B0 dL_law_974 rfl rfl ?_
          refine z_iload_n B0 dL_law_975 rfl rfl ?_
          refine z_iconst (v := 3) B0 dL_law_976 (by decide) ?_
          refine z_iadd (v := 3) B0 dL_law_977 (by decide) ?_
          refine y_sld (j := 3) (v := x3) B0 hX hbl (by decide) e3.symm dL_law_978 ?_
          refine z_aload_n B0 dL_law_979 rfl rfl ?_
          refine z_iload_n B0 dL_law_980 rfl rfl ?_
          refine z_iconst (v := 4) B0 dL_law_981 (by decide) ?_
          refine z_iadd (v := 4) B0 dL_law_982 (by decide) ?_
          refine y_sld (j := 4) (v := x4) B0 hX hbl (by decide) e4.symm dL_law_983 ?_
          refine z_callM B0 (z_runV (q0 := 0) (As := [.int 1, .int x2, .int x3, .int x4]) (st := [.int (-100)]) B0 (c_X12_gain_30 (a := a2) mS0 x2 x3 x4 ⟨by omega, by omega⟩ ⟨by omega, by omega⟩ ⟨by omega, by omega⟩) cf_X12_gain (mw_0 cy a2 mS0) rfl wm_L_112 wi_X12_gain ws_X12_gain dL_law_984 rfl (Nat.le_of_ble_eq_true rfl) ⟨by decide, by decide, by decide, by decide⟩) (fun r2 u2 p2 => ?_)
          obtain ⟨rfl, -⟩ := p2
          refine z_icmp_eq_t (tgt := 1091) B0 dL_law_987 (by decide) rfl ?_
          exact fin u1 u2
        · obtain rfl : x4 = 0 := Int32.toInt_inj.mp (h4.trans (by decide))
          refine z_aload_n B0 dL_law_939 rfl rfl ?_
          refine z_aload_n B0 dL_law_940 rfl rfl ?_
          refine z_iload_n B0 dL_law_941 rfl rfl ?_
          refine z_iconst (v := 1) B0 dL_law_942 (by decide) ?_
          refine z_iadd (v := 1) B0 dL_law_943 (by decide) ?_
          refine y_sld (j := 1) (v := 1) B0 hX hbl (by decide) e1.symm dL_law_944 ?_
          refine z_aload_n B0 dL_law_945 rfl rfl ?_
          refine z_iload_n B0 dL_law_946 rfl rfl ?_
          refine z_iconst (v := 2) B0 dL_law_947 (by decide) ?_
          refine z_iadd (v := 2) B0 dL_law_948 (by decide) ?_
          refine y_sld (j := 2) (v := x2) B0 hX hbl (by decide) e2.symm dL_law_949 ?_
          refine z_aload_n B0 dL_law_950 rfl rfl ?_
          refine z_iload_n B0 dL_law_951 rfl rfl ?_
          refine z_iconst (v := 3) B0 dL_law_952 (by decide) ?_
          refine z_iadd (v := 3) B0 dL_law_953 (by decide) ?_
          refine y_sld (j := 3) (v := x3) B0 hX hbl (by decide) e3.symm dL_law_954 ?_
          refine z_aload_n B0 dL_law_955 rfl rfl ?_
          refine z_iload_n B0 dL_law_956 rfl rfl ?_
          refine z_iconst (v := 4) B0 dL_law_957 (by decide) ?_
          refine z_iadd (v := 4) B0 dL_law_958 (by decide) ?_
          refine y_sld (j := 4) (v := 0) B0 hX hbl (by decide) e4.symm dL_law_959 ?_
          refine z_callC B0 (z_runV (q0 := 0) (As := [.int 1, .int x2, .int x3, .int 0]) (st := []) B0 (c_X11_gain_31 (a := a) (cS0 w) x2 x3 rfl rfl rfl rfl rfl rfl rfl rfl rfl rfl rfl rfl rfl rfl rfl rfl rfl rfl rfl rfl rfl rfl rfl rfl rfl rfl rfl rfl rfl rfl rfl rfl rfl rfl rfl rfl rfl rfl rfl rfl rfl rfl rfl rfl rfl rfl rfl rfl rfl rfl rfl rfl rfl rfl rfl rfl rfl rfl ⟨by omega, by omega⟩ ⟨by omega, by omega⟩) cf_X11_gain (cw_0 cy tE a rw (cS0 w)) rfl wm_L_109 wi_X11_gain ws_X11_gain dL_law_960 rfl (Nat.le_of_ble_eq_true rfl) ⟨by decide, by decide, by decide, by decide⟩) (fun r1 u1 p1 => ?_)
          obtain rfl : 0 = r1 := by rcases p1 with ⟨-, h, -⟩ | ⟨-, h, -⟩ <;> exact h
          refine z_aload_n B0 dL_law_963 rfl rfl ?_
          refine z_aload_n B0 dL_law_964 rfl rfl ?_
          refine z_iload_n B0 dL_law_965 rfl rfl ?_
          refine z_iconst (v := 1) B0 dL_law_966 (by decide) ?_
          refine z_iadd (v := 1) B0 dL_law_967 (by decide) ?_
          refine y_sld (j := 1) (v := 1) B0 hX hbl (by decide) e1.symm dL_law_968 ?_
          refine z_aload_n B0 dL_law_969 rfl rfl ?_
          refine z_iload_n B0 dL_law_970 rfl rfl ?_
          refine z_iconst (v := 2) B0 dL_law_971 (by decide) ?_
          refine z_iadd (v := 2) B0 dL_law_972 (by decide) ?_
          refine y_sld (j := 2) (v := x2) B0 hX hbl (by decide) e2.symm dL_law_973 ?_
          refine z_aload_n B0 dL_law_974 rfl rfl ?_
          refine z_iload_n B0 dL_law_975 rfl rfl ?_
          refine z_iconst (v := 3) B0 dL_law_976 (by decide) ?_
          refine z_iadd (v := 3) B0 dL_law_977 (by decide) ?_
          refine y_sld (j := 3) (v := x3) B0 hX hbl (by decide) e3.symm dL_law_978 ?_
          refine z_aload_n B0 dL_law_979 rfl rfl ?_
          refine z_iload_n B0 dL_law_980 rfl rfl ?_
          refine z_iconst (v := 4) B0 dL_law_981 (by decide) ?_
          refine z_iadd (v := 4) B0 dL_law_982 (by decide) ?_
          refine y_sld (j := 4) (v := 0) B0 hX hbl (by decide) e4.symm dL_law_983 ?_
          refine z_callM B0 (z_runV (q0 := 0) (As := [.int 1, .int x2, .int x3, .int 0]) (st := [.int 0]) B0 (c_X12_gain_31 (a := a2) mS0 x2 x3 rfl rfl rfl rfl rfl rfl rfl rfl rfl rfl rfl rfl rfl rfl rfl rfl rfl rfl rfl rfl rfl rfl rfl rfl rfl rfl rfl rfl rfl rfl rfl rfl ⟨by omega, by omega⟩ ⟨by omega, by omega⟩) cf_X12_gain (mw_0 cy a2 mS0) rfl wm_L_112 wi_X12_gain ws_X12_gain dL_law_984 rfl (Nat.le_of_ble_eq_true rfl) ⟨by decide, by decide, by decide, by decide⟩) (fun r2 u2 p2 => ?_)
          obtain ⟨rfl, -⟩ := p2
          refine z_icmp_eq_t (tgt := 1091) B0 dL_law_987 (by decide) rfl ?_
          exact fin u1 u2
        · obtain rfl : x4 = 1 := Int32.toInt_inj.mp (h4.trans (by decide))
          refine z_aload_n B0 dL_law_939 rfl rfl ?_
          refine z_aload_n B0 dL_law_940 rfl rfl ?_
          refine z_iload_n B0 dL_law_941 rfl rfl ?_
          refine z_iconst (v := 1) B0 dL_law_942 (by decide) ?_
          refine z_iadd (v := 1) B0 dL_law_943 (by decide) ?_
          refine y_sld (j := 1) (v := 1) B0 hX hbl (by decide) e1.symm dL_law_944 ?_
          refine z_aload_n B0 dL_law_945 rfl rfl ?_
          refine z_iload_n B0 dL_law_946 rfl rfl ?_
          refine z_iconst (v := 2) B0 dL_law_947 (by decide) ?_
          refine z_iadd (v := 2) B0 dL_law_948 (by decide) ?_
          refine y_sld (j := 2) (v := x2) B0 hX hbl (by decide) e2.symm dL_law_949 ?_
          refine z_aload_n B0 dL_law_950 rfl rfl ?_
          refine z_iload_n B0 dL_law_951 rfl rfl ?_
          refine z_iconst (v := 3) B0 dL_law_952 (by decide) ?_
          refine z_iadd (v := 3) B0 dL_law_953 (by decide) ?_
          refine y_sld (j := 3) (v := x3) B0 hX hbl (by decide) e3.symm dL_law_954 ?_
          refine z_aload_n B0 dL_law_955 rfl rfl ?_
          refine z_iload_n B0 dL_law_956 rfl rfl ?_
          refine z_iconst (v := 4) B0 dL_law_957 (by decide) ?_
          refine z_iadd (v := 4) B0 dL_law_958 (by decide) ?_
          refine y_sld (j := 4) (v := 1) B0 hX hbl (by decide) e4.symm dL_law_959 ?_
          refine z_callC B0 (z_runV (q0 := 0) (As := [.int 1, .int x2, .int x3, .int 1]) (st := []) B0 (c_X11_gain_32 (a := a) (cS0 w) x2 x3 rfl rfl rfl rfl rfl rfl rfl rfl rfl rfl rfl rfl rfl rfl rfl rfl rfl rfl rfl rfl rfl rfl rfl rfl rfl rfl rfl rfl rfl rfl rfl rfl rfl rfl rfl rfl rfl rfl rfl rfl rfl rfl rfl rfl rfl rfl rfl rfl rfl rfl rfl rfl rfl rfl rfl rfl rfl rfl ⟨by omega, by omega⟩ ⟨by omega, by omega⟩) cf_X11_gain (cw_0 cy tE a rw (cS0 w)) rfl wm_L_109 wi_X11_gain ws_X11_gain dL_law_960 rfl (Nat.le_of_ble_eq_true rfl) ⟨by decide, by decide, by decide, by decide⟩) (fun r1 u1 p1 => ?_)
          obtain rfl : 0 = r1 := by rcases p1 with ⟨-, h, -⟩ | ⟨-, h, -⟩ <;> exact h
          refine z_aload_n B0 dL_law_963 rfl rfl ?_
          refine z_aload_n B0 dL_law_964 rfl rfl ?_
          refine z_iload_n B0 dL_law_965 rfl rfl ?_
          refine z_iconst (v := 1) B0 dL_law_966 (by decide) ?_
          refine z_iadd (v := 1) B0 dL_law_967 (by decide) ?_
          refine y_sld (j := 1) (v := 1) B0 hX hbl (by decide) e1.symm dL_law_968 ?_
          refine z_aload_n B0 dL_law_969 rfl rfl ?_
          refine z_iload_n B0 dL_law_970 rfl rfl ?_
          refine z_iconst (v := 2) B0 dL_law_971 (by decide) ?_
          refine z_iadd (v := 2) B0 dL_law_972 (by decide) ?_
          refine y_sld (j := 2) (v := x2) B0 hX hbl (by decide) e2.symm dL_law_973 ?_
          refine z_aload_n B0 dL_law_974 rfl rfl ?_
          refine z_iload_n B0 dL_law_975 rfl rfl ?_
          refine z_iconst (v := 3) B0 dL_law_976 (by decide) ?_
          refine z_iadd (v := 3) B0 dL_law_977 (by decide) ?_
          refine y_sld (j := 3) (v := x3) B0 hX hbl (by decide) e3.symm dL_law_978 ?_
          refine z_aload_n B0 dL_law_979 rfl rfl ?_
          refine z_iload_n B0 dL_law_980 rfl rfl ?_
          refine z_iconst (v := 4) B0 dL_law_981 (by decide) ?_
          refine z_iadd (v := 4) B0 dL_law_982 (by decide) ?_
          refine y_sld (j := 4) (v := 1) B0 hX hbl (by decide) e4.symm dL_law_983 ?_
          refine z_callM B0 (z_runV (q0 := 0) (As := [.int 1, .int x2, .int x3, .int 1]) (st := [.int 0]) B0 (c_X12_gain_32 (a := a2) mS0 x2 x3 rfl rfl rfl rfl rfl rfl rfl rfl rfl rfl rfl rfl rfl rfl rfl rfl rfl rfl rfl rfl rfl rfl rfl rfl rfl rfl rfl rfl rfl rfl rfl rfl ⟨by omega, by omega⟩ ⟨by omega, by omega⟩) cf_X12_gain (mw_0 cy a2 mS0) rfl wm_L_112 wi_X12_gain ws_X12_gain dL_law_984 rfl (Nat.le_of_ble_eq_true rfl) ⟨by decide, by decide, by decide, by decide⟩) (fun r2 u2 p2 => ?_)
          obtain ⟨rfl, -⟩ := p2
          refine z_icmp_eq_t (tgt := 1091) B0 dL_law_987 (by decide) rfl ?_
          exact fin u1 u2
        · refine z_aload_n B0 dL_law_939 rfl rfl ?_
          refine z_aload_n B0 dL_law_940 rfl rfl ?_
          refine z_iload_n B0 dL_law_941 rfl rfl ?_
          refine z_iconst (v := 1) B0 dL_law_942 (by decide) ?_
          refine z_iadd (v := 1) B0 dL_law_943 (by decide) ?_
          refine y_sld (j := 1) (v := 1) B0 hX hbl (by decide) e1.symm dL_law_944 ?_
          refine z_aload_n B0 dL_law_945 rfl rfl ?_
          refine z_iload_n B0 dL_law_946 rfl rfl ?_
          refine z_iconst (v := 2) B0 dL_law_947 (by decide) ?_
          refine z_iadd (v := 2) B0 dL_law_948 (by decide) ?_
          refine y_sld (j := 2) (v := x2) B0 hX hbl (by decide) e2.symm dL_law_949 ?_
          refine z_aload_n B0 dL_law_950 rfl rfl ?_
          refine z_iload_n B0 dL_law_951 rfl rfl ?_
          refine z_iconst (v := 3) B0 dL_law_952 (by decide) ?_
          refine z_iadd (v := 3) B0 dL_law_953 (by decide) ?_
          refine y_sld (j := 3) (v := x3) B0 hX hbl (by decide) e3.symm dL_law_954 ?_
          refine z_aload_n B0 dL_law_955 rfl rfl ?_
          refine z_iload_n B0 dL_law_956 rfl rfl ?_
          refine z_iconst (v := 4) B0 dL_law_957 (by decide) ?_
          refine z_iadd (v := 4) B0 dL_law_958 (by decide) ?_
          refine y_sld (j := 4) (v := x4) B0 hX hbl (by decide) e4.symm dL_law_959 ?_
          refine z_callC B0 (z_runV (q0 := 0) (As := [.int 1, .int x2, .int x3, .int x4]) (st := []) B0 (c_X11_gain_33 (a := a) (cS0 w) x2 x3 x4 rfl rfl rfl rfl rfl rfl rfl rfl rfl rfl rfl rfl rfl rfl rfl rfl rfl rfl rfl rfl rfl rfl rfl rfl rfl rfl rfl rfl rfl rfl rfl rfl rfl rfl rfl rfl rfl rfl rfl rfl rfl rfl rfl rfl rfl rfl rfl rfl rfl rfl rfl rfl rfl rfl rfl rfl rfl rfl ⟨by omega, by omega⟩ ⟨by omega, by omega⟩ ⟨by omega, by omega⟩) cf_X11_gain (cw_0 cy tE a rw (cS0 w)) rfl wm_L_109 wi_X11_gain ws_X11_gain dL_law_960 rfl (Nat.le_of_ble_eq_true rfl) ⟨by decide, by decide, by decide, by decide⟩) (fun r1 u1 p1 => ?_)
          obtain rfl : (-100) = r1 := by rcases p1 with ⟨-, h, -⟩ | ⟨-, h, -⟩ <;> exact h
          refine z_aload_n B0 dL_law_963 rfl rfl ?_
          refine z_aload_n B0 dL_law_964 rfl rfl ?_
          refine z_iload_n B0 dL_law_965 rfl rfl ?_
          refine z_iconst (v := 1) B0 dL_law_966 (by decide) ?_
          refine z_iadd (v := 1) B0 dL_law_967 (by decide) ?_
          refine y_sld (j := 1) (v := 1) B0 hX hbl (by decide) e1.symm dL_law_968 ?_
          refine z_aload_n B0 dL_law_969 rfl rfl ?_
          refine z_iload_n B0 dL_law_970 rfl rfl ?_
          refine z_iconst (v := 2) B0 dL_law_971 (by decide) ?_
          refine z_iadd (v := 2) B0 dL_law_972 (by decide) ?_
          refine y_sld (j := 2) (v := x2) B0 hX hbl (by decide) e2.symm dL_law_973 ?_
          refine z_aload_n B0 dL_law_974 rfl rfl ?_
          refine z_iload_n B0 dL_law_975 rfl rfl ?_
          refine z_iconst (v := 3) B0 dL_law_976 (by decide) ?_
          refine z_iadd (v := 3) B0 dL_law_977 (by decide) ?_
          refine y_sld (j := 3) (v := x3) B0 hX hbl (by decide) e3.symm dL_law_978 ?_
          refine z_aload_n B0 dL_law_979 rfl rfl ?_
          refine z_iload_n B0 dL_law_980 rfl rfl ?_
          refine z_iconst (v := 4) B0 dL_law_981 (by decide) ?_
          refine z_iadd (v := 4) B0 dL_law_982 (by decide) ?_
          refine y_sld (j := 4) (v := x4) B0 hX hbl (by decide) e4.symm dL_law_983 ?_
          refine z_callM B0 (z_runV (q0 := 0) (As := [.int 1, .int x2, .int x3, .int x4]) (st := [.int (-100)]) B0 (c_X12_gain_33 (a := a2) mS0 x2 x3 x4 rfl rfl rfl rfl rfl rfl rfl rfl rfl rfl rfl rfl rfl rfl rfl rfl rfl rfl rfl rfl rfl rfl rfl rfl rfl rfl rfl rfl rfl rfl rfl rfl ⟨by omega, by omega⟩ ⟨by omega, by omega⟩ ⟨by omega, by omega⟩) cf_X12_gain (mw_0 cy a2 mS0) rfl wm_L_112 wi_X12_gain ws_X12_gain dL_law_984 rfl (Nat.le_of_ble_eq_true rfl) ⟨by decide, by decide, by decide, by decide⟩) (fun r2 u2 p2 => ?_)
          obtain ⟨rfl, -⟩ := p2
          refine z_icmp_eq_t (tgt := 1091) B0 dL_law_987 (by decide) rfl ?_
          exact fin u1 u2
        · refine z_aload_n B0 dL_law_939 rfl rfl ?_
          refine z_aload_n B0 dL_law_940 rfl rfl ?_
          refine z_iload_n B0 dL_law_941 rfl rfl ?_
          refine z_iconst (v := 1) B0 dL_law_942 (by decide) ?_
          refine z_iadd (v := 1) B0 dL_law_943 (by decide) ?_
          refine y_sld (j := 1) (v := 1) B0 hX hbl (by decide) e1.symm dL_law_944 ?_
          refine z_aload_n B0 dL_law_945 rfl rfl ?_
          refine z_iload_n B0 dL_law_946 rfl rfl ?_
          refine z_iconst (v := 2) B0 dL_law_947 (by decide) ?_
          refine z_iadd (v := 2) B0 dL_law_948 (by decide) ?_
          refine y_sld (j := 2) (v := x2) B0 hX hbl (by decide) e2.symm dL_law_949 ?_
          refine z_aload_n B0 dL_law_950 rfl rfl ?_
          refine z_iload_n B0 dL_law_951 rfl rfl ?_
          refine z_iconst (v := 3) B0 dL_law_952 (by decide) ?_
          refine z_iadd (v := 3) B0 dL_law_953 (by decide) ?_
          refine y_sld (j := 3) (v := x3) B0 hX hbl (by decide) e3.symm dL_law_954 ?_
          refine z_aload_n B0 dL_law_955 rfl rfl ?_
          refine z_iload_n B0 dL_law_956 rfl rfl ?_
          refine z_iconst (v := 4) B0 dL_law_957 (by decide) ?_
          refine z_iadd (v := 4) B0 dL_law_958 (by decide) ?_
          refine y_sld (j := 4) (v := x4) B0 hX hbl (by decide) e4.symm dL_law_959 ?_
          refine z_callC B0 (z_runV (q0 := 0) (As := [.int 1, .int x2, .int x3, .int x4]) (st := []) B0 (c_X11_gain_34 (a := a) (cS0 w) x2 x3 x4 rfl rfl rfl rfl rfl rfl rfl rfl rfl rfl rfl rfl rfl rfl rfl rfl rfl rfl rfl rfl rfl rfl rfl rfl rfl rfl rfl rfl rfl rfl rfl rfl rfl rfl rfl rfl rfl rfl rfl rfl rfl rfl rfl rfl rfl rfl rfl rfl rfl rfl rfl rfl rfl rfl rfl rfl rfl rfl ⟨by omega, by omega⟩ ⟨by omega, by omega⟩ ⟨by omega, by omega⟩) cf_X11_gain (cw_0 cy tE a rw (cS0 w)) rfl wm_L_109 wi_X11_gain ws_X11_gain dL_law_960 rfl (Nat.le_of_ble_eq_true rfl) ⟨by decide, by decide, by decide, by decide⟩) (fun r1 u1 p1 => ?_)
          obtain rfl : (-100) = r1 := by rcases p1 with ⟨-, h, -⟩ | ⟨-, h, -⟩ <;> exact h
          refine z_aload_n B0 dL_law_963 rfl rfl ?_
          refine z_aload_n B0 dL_law_964 rfl rfl ?_
          refine z_iload_n B0 dL_law_965 rfl rfl ?_
          refine z_iconst (v := 1) B0 dL_law_966 (by decide) ?_
          refine z_iadd (v := 1) B0 dL_law_967 (by decide) ?_
          refine y_sld (j := 1) (v := 1) B0 hX hbl (by decide) e1.symm dL_law_968 ?_
          refine z_aload_n B0 dL_law_969 rfl rfl ?_
          refine z_iload_n B0 dL_law_970 rfl rfl ?_
          refine z_iconst (v := 2) B0 dL_law_971 (by decide) ?_
          refine z_iadd (v := 2) B0 dL_law_972 (by decide) ?_
          refine y_sld (j := 2) (v := x2) B0 hX hbl (by decide) e2.symm dL_law_973 ?_
          refine z_aload_n B0 dL_law_974 rfl rfl ?_
          refine z_iload_n B0 dL_law_975 rfl rfl ?_
          refine z_iconst (v := 3) B0 dL_law_976 (by decide) ?_
          refine z_iadd (v := 3) B0 dL_law_977 (by decide) ?_
          refine y_sld (j := 3) (v := x3) B0 hX hbl (by decide) e3.symm dL_law_978 ?_
          refine z_aload_n B0 dL_law_979 rfl rfl ?_
          refine z_iload_n B0 dL_law_980 rfl rfl ?_
          refine z_iconst (v := 4) B0 dL_law_981 (by decide) ?_
          refine z_iadd (v := 4) B0 dL_law_982 (by decide) ?_
          refine y_sld (j := 4) (v := x4) B0 hX hbl (by decide) e4.symm dL_law_983 ?_
          refine z_callM B0 (z_runV (q0 := 0) (As := [.int 1, .int x2, .int x3, .int x4]) (st := [.int (-100)]) B0 (c_X12_gain_34 (a := a2) mS0 x2 x3 x4 ⟨by omega, by omega⟩ ⟨by omega, by omega⟩ ⟨by omega, by omega⟩) cf_X12_gain (mw_0 cy a2 mS0) rfl wm_L_112 wi_X12_gain ws_X12_gain dL_law_984 rfl (Nat.le_of_ble_eq_true rfl) ⟨by decide, by decide, by decide, by decide⟩) (fun r2 u2 p2 => ?_)
          obtain ⟨rfl, -⟩ := p2
          refine z_icmp_eq_t (tgt := 1091) B0 dL_law_987 (by decide) rfl ?_
          exact fin u1 u2
      · refine z_aload_n B0 dL_law_939 rfl rfl ?_
        refine z_aload_n B0 dL_law_940 rfl rfl ?_
        refine z_iload_n B0 dL_law_941 rfl rfl ?_
        refine z_iconst (v := 1) B0 dL_law_942 (by decide) ?_
        refine z_iadd (v := 1) B0 dL_law_943 (by decide) ?_
        refine y_sld (j := 1) (v := 1) B0 hX hbl (by decide) e1.symm dL_law_944 ?_
        refine z_aload_n B0 dL_law_945 rfl rfl ?_
        refine z_iload_n B0 dL_law_946 rfl rfl ?_
        refine z_iconst (v := 2) B0 dL_law_947 (by decide) ?_
        refine z_iadd (v := 2) B0 dL_law_948 (by decide) ?_
        refine y_sld (j := 2) (v := x2) B0 hX hbl (by decide) e2.symm dL_law_949 ?_
        refine z_aload_n B0 dL_law_950 rfl rfl ?_
        refine z_iload_n B0 dL_law_951 rfl rfl ?_
        refine z_iconst (v := 3) B0 dL_law_952 (by decide) ?_
        refine z_iadd (v := 3) B0 dL_law_953 (by decide) ?_
        refine y_sld (j := 3) (v := x3) B0 hX hbl (by decide) e3.symm dL_law_954 ?_
        refine z_aload_n B0 dL_law_955 rfl rfl ?_
        refine z_iload_n B0 dL_law_956 rfl rfl ?_
        refine z_iconst (v := 4) B0 dL_law_957 (by decide) ?_
        refine z_iadd (v := 4) B0 dL_law_958 (by decide) ?_
        refine y_sld (j := 4) (v := x4) B0 hX hbl (by decide) e4.symm dL_law_959 ?_
        refine z_callC B0 (z_runV (q0 := 0) (As := [.int 1, .int x2, .int x3, .int x4]) (st := []) B0 (c_X11_gain_12 (a := a) (cS0 w) x2 x3 x4 ⟨by omega, by omega⟩ ⟨by omega, by omega⟩) cf_X11_gain (cw_0 cy tE a rw (cS0 w)) rfl wm_L_109 wi_X11_gain ws_X11_gain dL_law_960 rfl (Nat.le_of_ble_eq_true rfl) ⟨by decide, by decide, by decide, by decide⟩) (fun r1 u1 p1 => ?_)
        obtain ⟨rfl, -⟩ := p1
        refine z_aload_n B0 dL_law_963 rfl rfl ?_
        refine z_aload_n B0 dL_law_964 rfl rfl ?_
        refine z_iload_n B0 dL_law_965 rfl rfl ?_
        refine z_iconst (v := 1) B0 dL_law_966 (by decide) ?_
        refine z_iadd (v := 1) B0 dL_law_967 (by decide) ?_
        refine y_sld (j := 1) (v := 1) B0 hX hbl (by decide) e1.symm dL_law_968 ?_
        refine z_aload_n B0 dL_law_969 rfl rfl ?_
        refine z_iload_n B0 dL_law_970 rfl rfl ?_
        refine z_iconst (v := 2) B0 dL_law_971 (by decide) ?_
        refine z_iadd (v := 2) B0 dL_law_972 (by decide) ?_
        refine y_sld (j := 2) (v := x2) B0 hX hbl (by decide) e2.symm dL_law_973 ?_
        refine z_aload_n B0 dL_law_974 rfl rfl ?_
        refine z_iload_n B0 dL_law_975 rfl rfl ?_
        refine z_iconst (v := 3) B0 dL_law_976 (by decide) ?_
        refine z_iadd (v := 3) B0 dL_law_977 (by decide) ?_
        refine y_sld (j := 3) (v := x3) B0 hX hbl (by decide) e3.symm dL_law_978 ?_
        refine z_aload_n B0 dL_law_979 rfl rfl ?_
        refine z_iload_n B0 dL_law_980 rfl rfl ?_
        refine z_iconst (v := 4) B0 dL_law_981 (by decide) ?_
        refine z_iadd (v := 4) B0 dL_law_982 (by decide) ?_
        refine y_sld (j := 4) (v := x4) B0 hX hbl (by decide) e4.symm dL_law_983 ?_
        refine z_callM B0 (z_runV (q0 := 0) (As := [.int 1, .int x2, .int x3, .int x4]) (st := [.int (-100)]) B0 (c_X12_gain_12 (a := a2) mS0 x2 x3 x4 ⟨by omega, by omega⟩ ⟨by omega, by omega⟩) cf_X12_gain (mw_0 cy a2 mS0) rfl wm_L_112 wi_X12_gain ws_X12_gain dL_law_984 rfl (Nat.le_of_ble_eq_true rfl) ⟨by decide, by decide, by decide, by decide⟩) (fun r2 u2 p2 => ?_)
        obtain ⟨rfl, -⟩ := p2
        refine z_icmp_eq_t (tgt := 1091) B0 dL_law_987 (by decide) rfl ?_
        exact fin u1 u2
    · refine z_aload_n B0 dL_law_939 rfl rfl ?_
      refine z_aload_n B0 dL_law_940 rfl rfl ?_
      refine z_iload_n B0 dL_law_941 rfl rfl ?_
      refine z_iconst (v := 1) B0 dL_law_942 (by decide) ?_
      refine z_iadd (v := 1) B0 dL_law_943 (by decide) ?_
      refine y_sld (j := 1) (v := 1) B0 hX hbl (by decide) e1.symm dL_law_944 ?_
      refine z_aload_n B0 dL_law_945 rfl rfl ?_
      refine z_iload_n B0 dL_law_946 rfl rfl ?_
      refine z_iconst (v := 2) B0 dL_law_947 (by decide) ?_
      refine z_iadd (v := 2) B0 dL_law_948 (by decide) ?_
      refine y_sld (j := 2) (v := x2) B0 hX hbl (by decide) e2.symm dL_law_949 ?_
      refine z_aload_n B0 dL_law_950 rfl rfl ?_
      refine z_iload_n B0 dL_law_951 rfl rfl ?_
      refine z_iconst (v := 3) B0 dL_law_952 (by decide) ?_
      refine z_iadd (v := 3) B0 dL_law_953 (by decide) ?_
      refine y_sld (j := 3) (v := x3) B0 hX hbl (by decide) e3.symm dL_law_954 ?_
      refine z_aload_n B0 dL_law_955 rfl rfl ?_
      refine z_iload_n B0 dL_law_956 rfl rfl ?_
      refine z_iconst (v := 4) B0 dL_law_957 (by decide) ?_
      refine z_iadd (v := 4) B0 dL_law_958 (by decide) ?_
      refine y_sld (j := 4) (v := x4) B0 hX hbl (by decide) e4.symm dL_law_959 ?_
      refine z_callC B0 (z_runV (q0 := 0) (As := [.int 1, .int x2, .int x3, .int x4]) (st := []) B0 (c_X11_gain_6 (a := a) (cS0 w) x2 x3 x4 ⟨by omega, by omega⟩) cf_X11_gain (cw_0 cy tE a rw (cS0 w)) rfl wm_L_109 wi_X11_gain ws_X11_gain dL_law_960 rfl (Nat.le_of_ble_eq_true rfl) ⟨by decide, by decide, by decide, by decide⟩) (fun r1 u1 p1 => ?_)
      obtain ⟨rfl, -⟩ := p1
      refine z_aload_n B0 dL_law_963 rfl rfl ?_
      refine z_aload_n B0 dL_law_964 rfl rfl ?_
      refine z_iload_n B0 dL_law_965 rfl rfl ?_
      refine z_iconst (v := 1) B0 dL_law_966 (by decide) ?_
      refine z_iadd (v := 1) B0 dL_law_967 (by decide) ?_
      refine y_sld (j := 1) (v := 1) B0 hX hbl (by decide) e1.symm dL_law_968 ?_
      refine z_aload_n B0 dL_law_969 rfl rfl ?_
      refine z_iload_n B0 dL_law_970 rfl rfl ?_
      refine z_iconst (v := 2) B0 dL_law_971 (by decide) ?_
      refine z_iadd (v := 2) B0 dL_law_972 (by decide) ?_
      refine y_sld (j := 2) (v := x2) B0 hX hbl (by decide) e2.symm dL_law_973 ?_
      refine z_aload_n B0 dL_law_974 rfl rfl ?_
      refine z_iload_n B0 dL_law_975 rfl rfl ?_
      refine z_iconst (v := 3) B0 dL_law_976 (by decide) ?_
      refine z_iadd (v := 3) B0 dL_law_977 (by decide) ?_
      refine y_sld (j := 3) (v := x3) B0 hX hbl (by decide) e3.symm dL_law_978 ?_
      refine z_aload_n B0 dL_law_979 rfl rfl ?_
      refine z_iload_n B0 dL_law_980 rfl rfl ?_
      refine z_iconst (v := 4) B0 dL_law_981 (by decide) ?_
      refine z_iadd (v := 4) B0 dL_law_982 (by decide) ?_
      refine y_sld (j := 4) (v := x4) B0 hX hbl (by decide) e4.symm dL_law_983 ?_
      refine z_callM B0 (z_runV (q0 := 0) (As := [.int 1, .int x2, .int x3, .int x4]) (st := [.int (-100)]) B0 (c_X12_gain_6 (a := a2) mS0 x2 x3 x4 ⟨by omega, by omega⟩) cf_X12_gain (mw_0 cy a2 mS0) rfl wm_L_112 wi_X12_gain ws_X12_gain dL_law_984 rfl (Nat.le_of_ble_eq_true rfl) ⟨by decide, by decide, by decide, by decide⟩) (fun r2 u2 p2 => ?_)
      obtain ⟨rfl, -⟩ := p2
      refine z_icmp_eq_t (tgt := 1091) B0 dL_law_987 (by decide) rfl ?_
      exact fin u1 u2
  · obtain rfl : x1 = 2 := Int32.toInt_inj.mp (h1.trans (by decide))
    rcases (show ((-2147483648) ≤ x2.toInt ∧ x2.toInt ≤ 0) ∨ (1 ≤ x2.toInt ∧ x2.toInt ≤ 3) ∨ (4 ≤ x2.toInt ∧ x2.toInt ≤ 2147483647) by have g1 := Int32.le_toInt x2; have g2 := Int32.toInt_lt x2; omega) with h2 | h2 | h2
    · refine z_aload_n B0 dL_law_939 rfl rfl ?_
      refine z_aload_n B0 dL_law_940 rfl rfl ?_
      refine z_iload_n B0 dL_law_941 rfl rfl ?_
      refine z_iconst (v := 1) B0 dL_law_942 (by decide) ?_
      refine z_iadd (v := 1) B0 dL_law_943 (by decide) ?_
      refine y_sld (j := 1) (v := 2) B0 hX hbl (by decide) e1.symm dL_law_944 ?_
      refine z_aload_n B0 dL_law_945 rfl rfl ?_
      refine z_iload_n B0 dL_law_946 rfl rfl ?_
      refine z_iconst (v := 2) B0 dL_law_947 (by decide) ?_
      refine z_iadd (v := 2) B0 dL_law_948 (by decide) ?_
      refine y_sld (j := 2) (v := x2) B0 hX hbl (by decide) e2.symm dL_law_949 ?_
      refine z_aload_n B0 dL_law_950 rfl rfl ?_
      refine z_iload_n B0 dL_law_951 rfl rfl ?_
      refine z_iconst (v := 3) B0 dL_law_952 (by decide) ?_
      refine z_iadd (v := 3) B0 dL_law_953 (by decide) ?_
      refine y_sld (j := 3) (v := x3) B0 hX hbl (by decide) e3.symm dL_law_954 ?_
      refine z_aload_n B0 dL_law_955 rfl rfl ?_
      refine z_iload_n B0 dL_law_956 rfl rfl ?_
      refine z_iconst (v := 4) B0 dL_law_957 (by decide) ?_
      refine z_iadd (v := 4) B0 dL_law_958 (by decide) ?_
      refine y_sld (j := 4) (v := x4) B0 hX hbl (by decide) e4.symm dL_law_959 ?_
      refine z_callC B0 (z_runV (q0 := 0) (As := [.int 2, .int x2, .int x3, .int x4]) (st := []) B0 (c_X11_gain_7 (a := a) (cS0 w) x2 x3 x4 ⟨by omega, by omega⟩) cf_X11_gain (cw_0 cy tE a rw (cS0 w)) rfl wm_L_109 wi_X11_gain ws_X11_gain dL_law_960 rfl (Nat.le_of_ble_eq_true rfl) ⟨by decide, by decide, by decide, by decide⟩) (fun r1 u1 p1 => ?_)
      obtain ⟨rfl, -⟩ := p1
      refine z_aload_n B0 dL_law_963 rfl rfl ?_
      refine z_aload_n B0 dL_law_964 rfl rfl ?_
      refine z_iload_n B0 dL_law_965 rfl rfl ?_
      refine z_iconst (v := 1) B0 dL_law_966 (by decide) ?_
      refine z_iadd (v := 1) B0 dL_law_967 (by decide) ?_
      refine y_sld (j := 1) (v := 2) B0 hX hbl (by decide) e1.symm dL_law_968 ?_
      refine z_aload_n B0 dL_law_969 rfl rfl ?_
      refine z_iload_n B0 dL_law_970 rfl rfl ?_
      refine z_iconst (v := 2) B0 dL_law_971 (by decide) ?_
      refine z_iadd (v := 2) B0 dL_law_972 (by decide) ?_
      refine y_sld (j := 2) (v := x2) B0 hX hbl (by decide) e2.symm dL_law_973 ?_
      refine z_aload_n B0 dL_law_974 rfl rfl ?_
      refine z_iload_n B0 dL_law_975 rfl rfl ?_
      refine z_iconst (v := 3) B0 dL_law_976 (by decide) ?_
      refine z_iadd (v := 3) B0 dL_law_977 (by decide) ?_
      refine y_sld (j := 3) (v := x3) B0 hX hbl (by decide) e3.symm dL_law_978 ?_
      refine z_aload_n B0 dL_law_979 rfl rfl ?_
      refine z_iload_n B0 dL_law_980 rfl rfl ?_
      refine z_iconst (v := 4) B0 dL_law_981 (by decide) ?_
      refine z_iadd (v := 4) B0 dL_law_982 (by decide) ?_
      refine y_sld (j := 4) (v := x4) B0 hX hbl (by decide) e4.symm dL_law_983 ?_
      refine z_callM B0 (z_runV (q0 := 0) (As := [.int 2, .int x2, .int x3, .int x4]) (st := [.int (-100)]) B0 (c_X12_gain_7 (a := a2) mS0 x2 x3 x4 ⟨by omega, by omega⟩) cf_X12_gain (mw_0 cy a2 mS0) rfl wm_L_112 wi_X12_gain ws_X12_gain dL_law_984 rfl (Nat.le_of_ble_eq_true rfl) ⟨by decide, by decide, by decide, by decide⟩) (fun r2 u2 p2 => ?_)
      obtain ⟨rfl, -⟩ := p2
      refine z_icmp_eq_t (tgt := 1091) B0 dL_law_987 (by decide) rfl ?_
      exact fin u1 u2
    · rcases (show ((-2147483648) ≤ x3.toInt ∧ x3.toInt ≤ (-1)) ∨ x3.toInt = 0 ∨ (1 ≤ x3.toInt ∧ x3.toInt ≤ 6) ∨ (7 ≤ x3.toInt ∧ x3.toInt ≤ 2147483647) by have g1 := Int32.le_toInt x3; have g2 := Int32.toInt_lt x3; omega) with h3 | h3 | h3 | h3
      · refine z_aload_n B0 dL_law_939 rfl rfl ?_
        refine z_aload_n B0 dL_law_940 rfl rfl ?_
        refine z_iload_n B0 dL_law_941 rfl rfl ?_
        refine z_iconst (v := 1) B0 dL_law_942 (by decide) ?_
        refine z_iadd (v := 1) B0 dL_law_943 (by decide) ?_
        refine y_sld (j := 1) (v := 2) B0 hX hbl (by decide) e1.symm dL_law_944 ?_
        refine z_aload_n B0 dL_law_945 rfl rfl ?_
        refine z_iload_n B0 dL_law_946 rfl rfl ?_
        refine z_iconst (v := 2) B0 dL_law_947 (by decide) ?_
        refine z_iadd (v := 2) B0 dL_law_948 (by decide) ?_
        refine y_sld (j := 2) (v := x2) B0 hX hbl (by decide) e2.symm dL_law_949 ?_
        refine z_aload_n B0 dL_law_950 rfl rfl ?_
        refine z_iload_n B0 dL_law_951 rfl rfl ?_
        refine z_iconst (v := 3) B0 dL_law_952 (by decide) ?_
        refine z_iadd (v := 3) B0 dL_law_953 (by decide) ?_
        refine y_sld (j := 3) (v := x3) B0 hX hbl (by decide) e3.symm dL_law_954 ?_
        refine z_aload_n B0 dL_law_955 rfl rfl ?_
        refine z_iload_n B0 dL_law_956 rfl rfl ?_
        refine z_iconst (v := 4) B0 dL_law_957 (by decide) ?_
        refine z_iadd (v := 4) B0 dL_law_958 (by decide) ?_
        refine y_sld (j := 4) (v := x4) B0 hX hbl (by decide) e4.symm dL_law_959 ?_
        refine z_callC B0 (z_runV (q0 := 0) (As := [.int 2, .int x2, .int x3, .int x4]) (st := []) B0 (c_X11_gain_13 (a := a) (cS0 w) x2 x3 x4 ⟨by omega, by omega⟩ ⟨by omega, by omega⟩) cf_X11_gain (cw_0 cy tE a rw (cS0 w)) rfl wm_L_109 wi_X11_gain ws_X11_gain dL_law_960 rfl (Nat.le_of_ble_eq_true rfl) ⟨by decide, by decide, by decide, by decide⟩) (fun r1 u1 p1 => ?_)
        obtain ⟨rfl, -⟩ := p1
        refine z_aload_n B0 dL_law_963 rfl rfl ?_
        refine z_aload_n B0 dL_law_964 rfl rfl ?_
        refine z_iload_n B0 dL_law_965 rfl rfl ?_
        refine z_iconst (v := 1) B0 dL_law_966 (by decide) ?_
        refine z_iadd (v := 1) B0 dL_law_967 (by decide) ?_
        refine y_sld (j := 1) (v := 2) B0 hX hbl (by decide) e1.symm dL_law_968 ?_
        refine z_aload_n B0 dL_law_969 rfl rfl ?_
        refine z_iload_n B0 dL_law_970 rfl rfl ?_
        refine z_iconst (v := 2) B0 dL_law_971 (by decide) ?_
        refine z_iadd (v := 2) B0 dL_law_972 (by decide) ?_
        refine y_sld (j := 2) (v := x2) B0 hX hbl (by decide) e2.symm dL_law_973 ?_
        refine z_aload_n B0 dL_law_974 rfl rfl ?_
        refine z_iload_n B0 dL_law_975 rfl rfl ?_
        refine z_iconst (v := 3) B0 dL_law_976 (by decide) ?_
        refine z_iadd (v := 3) B0 dL_law_977 (by decide) ?_
        refine y_sld (j := 3) (v := x3) B0 hX hbl (by decide) e3.symm dL_law_978 ?_
        refine z_aload_n B0 dL_law_979 rfl rfl ?_
        refine z_iload_n B0 dL_law_980 rfl rfl ?_
        refine z_iconst (v := 4) B0 dL_law_981 (by decide) ?_
        refine z_iadd (v := 4) B0 dL_law_982 (by decide) ?_
        refine y_sld (j := 4) (v := x4) B0 hX hbl (by decide) e4.symm dL_law_983 ?_
        refine z_callM B0 (z_runV (q0 := 0) (As := [.int 2, .int x2, .int x3, .int x4]) (st := [.int (-100)]) B0 (c_X12_gain_13 (a := a2) mS0 x2 x3 x4 ⟨by omega, by omega⟩ ⟨by omega, by omega⟩) cf_X12_gain (mw_0 cy a2 mS0) rfl wm_L_112 wi_X12_gain ws_X12_gain dL_law_984 rfl (Nat.le_of_ble_eq_true rfl) ⟨by decide, by decide, by decide, by decide⟩) (fun r2 u2 p2 => ?_)
        obtain ⟨rfl, -⟩ := p2
        refine z_icmp_eq_t (tgt := 1091) B0 dL_law_987 (by decide) rfl ?_
        exact fin u1 u2
      · obtain rfl : x3 = 0 := Int32.toInt_inj.mp (h3.trans (by decide))
        rcases (show ((-2147483648) ≤ x4.toInt ∧ x4.toInt ≤ (-1)) ∨ x4.toInt = 0 ∨ x4.toInt = 1 ∨ (2 ≤ x4.toInt ∧ x4.toInt ≤ 7) ∨ (8 ≤ x4.toInt ∧ x4.toInt ≤ 2147483647) by have g1 := Int32.le_toInt x4; have g2 := Int32.toInt_lt x4; omega) with h4 | h4 | h4 | h4 | h4
        · refine z_aload_n B0 dL_law_939 rfl rfl ?_
          refine z_aload_n B0 dL_law_940 rfl rfl ?_
          refine z_iload_n B0 dL_law_941 rfl rfl ?_
          refine z_iconst (v := 1) B0 dL_law_942 (by decide) ?_
          refine z_iadd (v := 1) B0 dL_law_943 (by decide) ?_
          refine y_sld (j := 1) (v := 2) B0 hX hbl (by decide) e1.symm dL_law_944 ?_
          refine z_aload_n B0 dL_law_945 rfl rfl ?_
          refine z_iload_n B0 dL_law_946 rfl rfl ?_
          refine z_iconst (v := 2) B0 dL_law_947 (by decide) ?_
          refine z_iadd (v := 2) B0 dL_law_948 (by decide) ?_
          refine y_sld (j := 2) (v := x2) B0 hX hbl (by decide) e2.symm dL_law_949 ?_
          refine z_aload_n B0 dL_law_950 rfl rfl ?_
          refine z_iload_n B0 dL_law_951 rfl rfl ?_
          refine z_iconst (v := 3) B0 dL_law_952 (by decide) ?_
          refine z_iadd (v := 3) B0 dL_law_953 (by decide) ?_
          refine y_sld (j := 3) (v := 0) B0 hX hbl (by decide) e3.symm dL_law_954 ?_
          refine z_aload_n B0 dL_law_955 rfl rfl ?_
          refine z_iload_n B0 dL_law_956 rfl rfl ?_
          refine z_iconst (v := 4) B0 dL_law_957 (by decide) ?_
          refine z_iadd (v := 4) B0 dL_law_958 (by decide) ?_
          refine y_sld (j := 4) (v := x4) B0 hX hbl (by decide) e4.symm dL_law_959 ?_
          refine z_callC B0 (z_runV (q0 := 0) (As := [.int 2, .int x2, .int 0, .int x4]) (st := []) B0 (c_X11_gain_35 (a := a) (cS0 w) x2 x4 ⟨by omega, by omega⟩ ⟨by omega, by omega⟩) cf_X11_gain (cw_0 cy tE a rw (cS0 w)) rfl wm_L_109 wi_X11_gain ws_X11_gain dL_law_960 rfl (Nat.le_of_ble_eq_true rfl) ⟨by decide, by decide, by decide, by decide⟩) (fun r1 u1 p1 => ?_)
          obtain ⟨rfl, -⟩ := p1
          refine z_aload_n B0 dL_law_963 rfl rfl ?_
          refine z_aload_n B0 dL_law_964 rfl rfl ?_
          refine z_iload_n B0 dL_law_965 rfl rfl ?_
          refine z_iconst (v := 1) B0 dL_law_966 (by decide) ?_
          refine z_iadd (v := 1) B0 dL_law_967 (by decide) ?_
          refine y_sld (j := 1) (v := 2) B0 hX hbl (by decide) e1.symm dL_law_968 ?_
          refine z_aload_n B0 dL_law_969 rfl rfl ?_
          refine z_iload_n B0 dL_law_970 rfl rfl ?_
          refine z_iconst (v := 2) B0 dL_law_971 (by decide) ?_
          refine z_iadd (v := 2) B0 dL_law_972 (by decide) ?_
          refine y_sld (j := 2) (v := x2) B0 hX hbl (by decide) e2.symm dL_law_973 ?_
          refine z_aload_n B0 dL_law_974 rfl rfl ?_
          refine z_iload_n B0 dL_law_975 rfl rfl ?_
          refine z_iconst (v := 3) B0 dL_law_976 (by decide) ?_
          refine z_iadd (v := 3) B0 dL_law_977 (by decide) ?_
          refine y_sld (j := 3) (v := 0) B0 hX hbl (by decide) e3.symm dL_law_978 ?_
          refine z_aload_n B0 dL_law_979 rfl rfl ?_
          refine z_iload_n B0 dL_law_980 rfl rfl ?_
          refine z_iconst (v := 4) B0 dL_law_981 (by decide) ?_
          refine z_iadd (v := 4) B0 dL_law_982 (by decide) ?_
          refine y_sld (j := 4) (v := x4) B0 hX hbl (by decide) e4.symm dL_law_983 ?_
          refine z_callM B0 (z_runV (q0 := 0) (As := [.int 2, .int x2, .int 0, .int x4]) (st := [.int (-100)]) B0 (c_X12_gain_35 (a := a2) mS0 x2 x4 ⟨by omega, by omega⟩ ⟨by omega, by omega⟩) cf_X12_gain (mw_0 cy a2 mS0) rfl wm_L_112 wi_X12_gain ws_X12_gain dL_law_984 rfl (Nat.le_of_ble_eq_true rfl) ⟨by decide, by decide, by decide, by decide⟩) (fun r2 u2 p2 => ?_)
          obtain ⟨rfl, -⟩ := p2
          refine z_icmp_eq_t (tgt := 1091) B0 dL_law_987 (by decide) rfl ?_
          exact fin u1 u2
        · obtain rfl : x4 = 0 := Int32.toInt_inj.mp (h4.trans (by decide))
          refine z_aload_n B0 dL_law_939 rfl rfl ?_
          refine z_aload_n B0 dL_law_940 rfl rfl ?_
          refine z_iload_n B0 dL_law_941 rfl rfl ?_
          refine z_iconst (v := 1) B0 dL_law_942 (by decide) ?_
          refine z_iadd (v := 1) B0 dL_law_943 (by decide) ?_
          refine y_sld (j := 1) (v := 2) B0 hX hbl (by decide) e1.symm dL_law_944 ?_
          refine z_aload_n B0 dL_law_945 rfl rfl ?_
          refine z_iload_n B0 dL_law_946 rfl rfl ?_
          refine z_iconst (v := 2) B0 dL_law_947 (by decide) ?_
          refine z_iadd (v := 2) B0 dL_law_948 (by decide) ?_
          refine y_sld (j := 2) (v := x2) B0 hX hbl (by decide) e2.symm dL_law_949 ?_
          refine z_aload_n B0 dL_law_950 rfl rfl ?_
          refine z_iload_n B0 dL_law_951 rfl rfl ?_
          refine z_iconst (v := 3) B0 dL_law_952 (by decide) ?_
          refine z_iadd (v := 3) B0 dL_law_953 (by decide) ?_
          refine y_sld (j := 3) (v := 0) B0 hX hbl (by decide) e3.symm dL_law_954 ?_
          refine z_aload_n B0 dL_law_955 rfl rfl ?_
          refine z_iload_n B0 dL_law_956 rfl rfl ?_
          refine z_iconst (v := 4) B0 dL_law_957 (by decide) ?_
          refine z_iadd (v := 4) B0 dL_law_958 (by decide) ?_
          refine y_sld (j := 4) (v := 0) B0 hX hbl (by decide) e4.symm dL_law_959 ?_
          refine z_callC B0 (z_runV (q0 := 0) (As := [.int 2, .int x2, .int 0, .int 0]) (st := []) B0 (c_X11_gain_36 (a := a) (cS0 w) x2 rfl rfl rfl rfl rfl rfl rfl rfl rfl rfl rfl rfl rfl rfl rfl rfl rfl rfl rfl rfl rfl rfl rfl rfl rfl rfl rfl rfl rfl rfl rfl rfl rfl rfl rfl rfl rfl rfl rfl rfl rfl rfl rfl rfl rfl rfl rfl rfl rfl rfl rfl rfl rfl rfl rfl rfl rfl rfl rfl ⟨by omega, by omega⟩) cf_X11_gain (cw_0 cy tE a rw (cS0 w)) rfl wm_L_109 wi_X11_gain ws_X11_gain dL_law_960 rfl (Nat.le_of_ble_eq_true rfl) ⟨by decide, by decide, by decide, by decide⟩) (fun r1 u1 p1 => ?_)
          obtain ⟨rfl, -⟩ := p1
          refine z_aload_n B0 dL_law_963 rfl rfl ?_
          refine z_aload_n B0 dL_law_964 rfl rfl ?_
          refine z_iload_n B0 dL_law_965 rfl rfl ?_
          refine z_iconst (v := 1) B0 dL_law_966 (by decide) ?_
          refine z_iadd (v := 1) B0 dL_law_967 (by decide) ?_
          refine y_sld (j := 1) (v := 2) B0 hX hbl (by decide) e1.symm dL_law_968 ?_
          refine z_aload_n B0 dL_law_969 rfl rfl ?_
          refine z_iload_n B0 dL_law_970 rfl rfl ?_
          refine z_iconst (v := 2) B0 dL_law_971 (by decide) ?_
          refine z_iadd (v := 2) B0 dL_law_972 (by decide) ?_
          refine y_sld (j := 2) (v := x2) B0 hX hbl (by decide) e2.symm dL_law_973 ?_
          refine z_aload_n B0 dL_law_974 rfl rfl ?_
          refine z_iload_n B0 dL_law_975 rfl rfl ?_
          refine z_iconst (v := 3) B0 dL_law_976 (by decide) ?_
          refine z_iadd (v := 3) B0 dL_law_977 (by decide) ?_
          refine y_sld (j := 3) (v := 0) B0 hX hbl (by decide) e3.symm dL_law_978 ?_
          refine z_aload_n B0 dL_law_979 rfl rfl ?_
          refine z_iload_n B0 dL_law_980 rfl rfl ?_
          refine z_iconst (v := 4) B0 dL_law_981 (by decide) ?_
          refine z_iadd (v := 4) B0 dL_law_982 (by decide) ?_
          refine y_sld (j := 4) (v := 0) B0 hX hbl (by decide) e4.symm dL_law_983 ?_
          refine z_callM B0 (z_runV (q0 := 0) (As := [.int 2, .int x2, .int 0, .int 0]) (st := [.int 0]) B0 (c_X12_gain_36 (a := a2) mS0 x2 rfl rfl rfl rfl rfl rfl rfl rfl rfl rfl rfl rfl rfl rfl rfl rfl rfl rfl rfl rfl rfl rfl rfl rfl rfl rfl rfl rfl rfl rfl ⟨by omega, by omega⟩) cf_X12_gain (mw_0 cy a2 mS0) rfl wm_L_112 wi_X12_gain ws_X12_gain dL_law_984 rfl (Nat.le_of_ble_eq_true rfl) ⟨by decide, by decide, by decide, by decide⟩) (fun r2 u2 p2 => ?_)
          obtain ⟨rfl, -⟩ := p2
          refine z_icmp_eq_t (tgt := 1091) B0 dL_law_987 (by decide) rfl ?_
          exact fin u1 u2
        · obtain rfl : x4 = 1 := Int32.toInt_inj.mp (h4.trans (by decide))
          refine z_aload_n B0 dL_law_939 rfl rfl ?_
          refine z_aload_n B0 dL_law_940 rfl rfl ?_
          refine z_iload_n B0 dL_law_941 rfl rfl ?_
          refine z_iconst (v := 1) B0 dL_law_942 (by decide) ?_
          refine z_iadd (v := 1) B0 dL_law_943 (by decide) ?_
          refine y_sld (j := 1) (v := 2) B0 hX hbl (by decide) e1.symm dL_law_944 ?_
          refine z_aload_n B0 dL_law_945 rfl rfl ?_
          refine z_iload_n B0 dL_law_946 rfl rfl ?_
          refine z_iconst (v := 2) B0 dL_law_947 (by decide) ?_
          refine z_iadd (v := 2) B0 dL_law_948 (by decide) ?_
          refine y_sld (j := 2) (v := x2) B0 hX hbl (by decide) e2.symm dL_law_949 ?_
          refine z_aload_n B0 dL_law_950 rfl rfl ?_
          refine z_iload_n B0 dL_law_951 rfl rfl ?_
          refine z_iconst (v := 3) B0 dL_law_952 (by decide) ?_
          refine z_iadd (v := 3) B0 dL_law_953 (by decide) ?_
          refine y_sld (j := 3) (v := 0) B0 hX hbl (by decide) e3.symm dL_law_954 ?_
          refine z_aload_n B0 dL_law_955 rfl rfl ?_
          refine z_iload_n B0 dL_law_956 rfl rfl ?_
          refine z_iconst (v := 4) B0 dL_law_957 (by decide) ?_
          refine z_iadd (v := 4) B0 dL_law_958 (by decide) ?_
          refine y_sld (j := 4) (v := 1) B0 hX hbl (by decide) e4.symm dL_law_959 ?_
          refine z_callC B0 (z_runV (q0 := 0) (As := [.int 2, .int x2, .int 0, .int 1]) (st := []) B0 (c_X11_gain_37 (a := a) (cS0 w) x2 rfl rfl rfl rfl rfl rfl rfl rfl rfl rfl rfl rfl rfl rfl rfl rfl rfl rfl rfl rfl rfl rfl rfl rfl rfl rfl rfl rfl rfl rfl rfl rfl rfl rfl rfl rfl rfl rfl rfl rfl rfl rfl rfl rfl rfl rfl rfl rfl rfl rfl rfl rfl rfl rfl rfl rfl rfl rfl rfl ⟨by omega, by omega⟩) cf_X11_gain (cw_0 cy tE a rw (cS0 w)) rfl wm_L_109 wi_X11_gain ws_X11_gain dL_law_960 rfl (Nat.le_of_ble_eq_true rfl) ⟨by decide, by decide, by decide, by decide⟩) (fun r1 u1 p1 => ?_)
          obtain ⟨rfl, -⟩ := p1
          refine z_aload_n B0 dL_law_963 rfl rfl ?_
          refine z_aload_n B0 dL_law_964 rfl rfl ?_
          refine z_iload_n B0 dL_law_965 rfl rfl ?_
          refine z_iconst (v := 1) B0 dL_law_966 (by decide) ?_
          refine z_iadd (v := 1) B0 dL_law_967 (by decide) ?_
          refine y_sld (j := 1) (v := 2) B0 hX hbl (by decide) e1.symm dL_law_968 ?_
          refine z_aload_n B0 dL_law_969 rfl rfl ?_
          refine z_iload_n B0 dL_law_970 rfl rfl ?_
          refine z_iconst (v := 2) B0 dL_law_971 (by decide) ?_
          refine z_iadd (v := 2) B0 dL_law_972 (by decide) ?_
          refine y_sld (j := 2) (v := x2) B0 hX hbl (by decide) e2.symm dL_law_973 ?_
          refine z_aload_n B0 dL_law_974 rfl rfl ?_
          refine z_iload_n B0 dL_law_975 rfl rfl ?_
          refine z_iconst (v := 3) B0 dL_law_976 (by decide) ?_
          refine z_iadd (v := 3) B0 dL_law_977 (by decide) ?_
          refine y_sld (j := 3) (v := 0) B0 hX hbl (by decide) e3.symm dL_law_978 ?_
          refine z_aload_n B0 dL_law_979 rfl rfl ?_
          refine z_iload_n B0 dL_law_980 rfl rfl ?_
          refine z_iconst (v := 4) B0 dL_law_981 (by decide) ?_
          refine z_iadd (v := 4) B0 dL_law_982 (by decide) ?_
          refine y_sld (j := 4) (v := 1) B0 hX hbl (by decide) e4.symm dL_law_983 ?_
          refine z_callM B0 (z_runV (q0 := 0) (As := [.int 2, .int x2, .int 0, .int 1]) (st := [.int 0]) B0 (c_X12_gain_37 (a := a2) mS0 x2 rfl rfl rfl rfl rfl rfl rfl rfl rfl rfl rfl rfl rfl rfl rfl rfl rfl rfl rfl rfl rfl rfl rfl rfl rfl rfl rfl rfl rfl rfl ⟨by omega, by omega⟩) cf_X12_gain (mw_0 cy a2 mS0) rfl wm_L_112 wi_X12_gain ws_X12_gain dL_law_984 rfl (Nat.le_of_ble_eq_true rfl) ⟨by decide, by decide, by decide, by decide⟩) (fun r2 u2 p2 => ?_)
          obtain ⟨rfl, -⟩ := p2
          refine z_icmp_eq_t (tgt := 1091) B0 dL_law_987 (by decide) rfl ?_
          exact fin u1 u2
        · refine z_aload_n B0 dL_law_939 rfl rfl ?_
          refine z_aload_n B0 dL_law_940 rfl rfl ?_
          refine z_iload_n B0 dL_law_941 rfl rfl ?_
          refine z_iconst (v := 1) B0 dL_law_942 (by decide) ?_
          refine z_iadd (v := 1) B0 dL_law_943 (by decide) ?_
          refine y_sld (j := 1) (v := 2) B0 hX hbl (by decide) e1.symm dL_law_944 ?_
          refine z_aload_n B0 dL_law_945 rfl rfl ?_
          refine z_iload_n B0 dL_law_946 rfl rfl ?_
          refine z_iconst (v := 2) B0 dL_law_947 (by decide) ?_
          refine z_iadd (v := 2) B0 dL_law_948 (by decide) ?_
          refine y_sld (j := 2) (v := x2) B0 hX hbl (by decide) e2.symm dL_law_949 ?_
          refine z_aload_n B0 dL_law_950 rfl rfl ?_
          refine z_iload_n B0 dL_law_951 rfl rfl ?_
          refine z_iconst (v := 3) B0 dL_law_952 (by decide) ?_
          refine z_iadd (v := 3) B0 dL_law_953 (by decide) ?_
          refine y_sld (j := 3) (v := 0) B0 hX hbl (by decide) e3.symm dL_law_954 ?_
          refine z_aload_n B0 dL_law_955 rfl rfl ?_
          refine z_iload_n B0 dL_law_956 rfl rfl ?_
          refine z_iconst (v := 4) B0 dL_law_957 (by decide) ?_
          refine z_iadd (v := 4) B0 dL_law_958 (by decide) ?_
          refine y_sld (j := 4) (v := x4) B0 hX hbl (by decide) e4.symm dL_law_959 ?_
          refine z_callC B0 (z_runV (q0 := 0) (As := [.int 2, .int x2, .int 0, .int x4]) (st := []) B0 (c_X11_gain_38 (a := a) (cS0 w) x2 x4 rfl rfl rfl rfl rfl rfl rfl rfl rfl rfl rfl rfl rfl rfl rfl rfl rfl rfl rfl rfl rfl rfl rfl rfl rfl rfl rfl rfl rfl rfl rfl rfl rfl rfl rfl rfl rfl rfl rfl rfl rfl rfl rfl rfl rfl rfl rfl rfl rfl rfl rfl rfl rfl rfl rfl rfl rfl rfl rfl ⟨by omega, by omega⟩ ⟨by omega, by omega⟩) cf_X11_gain (cw_0 cy tE a rw (cS0 w)) rfl wm_L_109 wi_X11_gain ws_X11_gain dL_law_960 rfl (Nat.le_of_ble_eq_true rfl) ⟨by decide, by decide, by decide, by decide⟩) (fun r1 u1 p1 => ?_)
          obtain ⟨rfl, -⟩ := p1
          refine z_aload_n B0 dL_law_963 rfl rfl ?_
          refine z_aload_n B0 dL_law_964 rfl rfl ?_
          refine z_iload_n B0 dL_law_965 rfl rfl ?_
          refine z_iconst (v := 1) B0 dL_law_966 (by decide) ?_
          refine z_iadd (v := 1) B0 dL_law_967 (by decide) ?_
          refine y_sld (j := 1) (v := 2) B0 hX hbl (by decide) e1.symm dL_law_968 ?_
          refine z_aload_n B0 dL_law_969 rfl rfl ?_
          refine z_iload_n B0 dL_law_970 rfl rfl ?_
          refine z_iconst (v := 2) B0 dL_law_971 (by decide) ?_
          refine z_iadd (v := 2) B0 dL_law_972 (by decide) ?_
          refine y_sld (j := 2) (v := x2) B0 hX hbl (by decide) e2.symm dL_law_973 ?_
          refine z_aload_n B0 dL_law_974 rfl rfl ?_
          refine z_iload_n B0 dL_law_975 rfl rfl ?_
          refine z_iconst (v := 3) B0 dL_law_976 (by decide) ?_
          refine z_iadd (v := 3) B0 dL_law_977 (by decide) ?_
          refine y_sld (j := 3) (v := 0) B0 hX hbl (by decide) e3.symm dL_law_978 ?_
          refine z_aload_n B0 dL_law_979 rfl rfl ?_
          refine z_iload_n B0 dL_law_980 rfl rfl ?_
          refine z_iconst (v := 4) B0 dL_law_981 (by decide) ?_
          refine z_iadd (v := 4) B0 dL_law_982 (by decide) ?_
          refine y_sld (j := 4) (v := x4) B0 hX hbl (by decide) e4.symm dL_law_983 ?_
          refine z_callM B0 (z_runV (q0 := 0) (As := [.int 2, .int x2, .int 0, .int x4]) (st := [.int (-100)]) B0 (c_X12_gain_38 (a := a2) mS0 x2 x4 rfl rfl rfl rfl rfl rfl rfl rfl rfl rfl rfl rfl rfl rfl rfl rfl rfl rfl rfl rfl rfl rfl rfl rfl rfl rfl rfl rfl rfl rfl ⟨by omega, by omega⟩ ⟨by omega, by omega⟩) cf_X12_gain (mw_0 cy a2 mS0) rfl wm_L_112 wi_X12_gain ws_X12_gain dL_law_984 rfl (Nat.le_of_ble_eq_true rfl) ⟨by decide, by decide, by decide, by decide⟩) (fun r2 u2 p2 => ?_)
          obtain ⟨rfl, -⟩ := p2
          refine z_icmp_eq_t (tgt := 1091) B0 dL_law_987 (by decide) rfl ?_
          exact fin u1 u2
        · refine z_aload_n B0 dL_law_939 rfl rfl ?_
          refine z_aload_n B0 dL_law_940 rfl rfl ?_
          refine z_iload_n B0 dL_law_941 rfl rfl ?_
          refine z_iconst (v := 1) B0 dL_law_942 (by decide) ?_
          refine z_iadd (v := 1) B0 dL_law_943 (by decide) ?_
          refine y_sld (j := 1) (v := 2) B0 hX hbl (by decide) e1.symm dL_law_944 ?_
          refine z_aload_n B0 dL_law_945 rfl rfl ?_
          refine z_iload_n B0 dL_law_946 rfl rfl ?_
          refine z_iconst (v := 2) B0 dL_law_947 (by decide) ?_
          refine z_iadd (v := 2) B0 dL_law_948 (by decide) ?_
          refine y_sld (j := 2) (v := x2) B0 hX hbl (by decide) e2.symm dL_law_949 ?_
          refine z_aload_n B0 dL_law_950 rfl rfl ?_
          refine z_iload_n B0 dL_law_951 rfl rfl ?_
          refine z_iconst (v := 3) B0 dL_law_952 (by decide) ?_
          refine z_iadd (v := 3) B0 dL_law_953 (by decide) ?_
          refine y_sld (j := 3) (v := 0) B0 hX hbl (by decide) e3.symm dL_law_954 ?_
          refine z_aload_n B0 dL_law_955 rfl rfl ?_
          refine z_iload_n B0 dL_law_956 rfl rfl ?_
          refine z_iconst (v := 4) B0 dL_law_957 (by decide) ?_
          refine z_iadd (v := 4) B0 dL_law_958 (by decide) ?_
          refine y_sld (j := 4) (v := x4) B0 hX hbl (by decide) e4.symm dL_law_959 ?_
          refine z_callC B0 (z_runV (q0 := 0) (As := [.int 2, .int x2, .int 0, .int x4]) (st := []) B0 (c_X11_gain_39 (a := a) (cS0 w) x2 x4 rfl rfl rfl rfl rfl rfl rfl rfl rfl rfl rfl rfl rfl rfl rfl rfl rfl rfl rfl rfl rfl rfl rfl rfl rfl rfl rfl rfl rfl rfl rfl rfl rfl rfl rfl rfl rfl rfl rfl rfl rfl rfl rfl rfl rfl rfl rfl rfl rfl rfl rfl rfl rfl rfl rfl rfl rfl rfl rfl ⟨by omega, by omega⟩ ⟨by omega, by omega⟩) cf_X11_gain (cw_0 cy tE a rw (cS0 w)) rfl wm_L_109 wi_X11_gain ws_X11_gain dL_law_960 rfl (Nat.le_of_ble_eq_true rfl) ⟨by decide, by decide, by decide, by decide⟩) (fun r1 u1 p1 => ?_)
          obtain ⟨rfl, -⟩ := p1
          refine z_aload_n B0 dL_law_963 rfl rfl ?_
          refine z_aload_n B0 dL_law_964 rfl rfl ?_
          refine z_iload_n B0 dL_law_965 rfl rfl ?_
          refine z_iconst (v := 1) B0 dL_law_966 (by decide) ?_
          refine z_iadd (v := 1) B0 dL_law_967 (by decide) ?_
          refine y_sld (j := 1) (v := 2) B0 hX hbl (by decide) e1.symm dL_law_968 ?_
          refine z_aload_n B0 dL_law_969 rfl rfl ?_
          refine z_iload_n B0 dL_law_970 rfl rfl ?_
          refine z_iconst (v := 2) B0 dL_law_971 (by decide) ?_
          refine z_iadd (v := 2) B0 dL_law_972 (by decide) ?_
          refine y_sld (j := 2) (v := x2) B0 hX hbl (by decide) e2.symm dL_law_973 ?_
          refine z_aload_n B0 dL_law_974 rfl rfl ?_
          refine z_iload_n B0 dL_law_975 rfl rfl ?_
          refine z_iconst (v := 3) B0 dL_law_976 (by decide) ?_
          refine z_iadd (v := 3) B0 dL_law_977 (by decide) ?_
          refine y_sld (j := 3) (v := 0) B0 hX hbl (by decide) e3.symm dL_law_978 ?_
          refine z_aload_n B0 dL_law_979 rfl rfl ?_
          refine z_iload_n B0 dL_law_980 rfl rfl ?_
          refine z_iconst (v := 4) B0 dL_law_981 (by decide) ?_
          refine z_iadd (v := 4) B0 dL_law_982 (by decide) ?_
          refine y_sld (j := 4) (v := x4) B0 hX hbl (by decide) e4.symm dL_law_983 ?_
          refine z_callM B0 (z_runV (q0 := 0) (As := [.int 2, .int x2, .int 0, .int x4]) (st := [.int (-100)]) B0 (c_X12_gain_39 (a := a2) mS0 x2 x4 ⟨by omega, by omega⟩ ⟨by omega, by omega⟩) cf_X12_gain (mw_0 cy a2 mS0) rfl wm_L_112 wi_X12_gain ws_X12_gain dL_law_984 rfl (Nat.le_of_ble_eq_true rfl) ⟨by decide, by decide, by decide, by decide⟩) (fun r2 u2 p2 => ?_)
          obtain ⟨rfl, -⟩ := p2
          refine z_icmp_eq_t (tgt := 1091) B0 dL_law_987 (by decide) rfl ?_
          exact fin u1 u2
      · rcases (show ((-2147483648) ≤ x4.toInt ∧ x4.toInt ≤ (-1)) ∨ x4.toInt = 0 ∨ x4.toInt = 1 ∨ (2 ≤ x4.toInt ∧ x4.toInt ≤ 7) ∨ (8 ≤ x4.toInt ∧ x4.toInt ≤ 2147483647) by have g1 := Int32.le_toInt x4; have g2 := Int32.toInt_lt x4; omega) with h4 | h4 | h4 | h4 | h4
        · refine z_aload_n B0 dL_law_939 rfl rfl ?_
          refine z_aload_n B0 dL_law_940 rfl rfl ?_
          refine z_iload_n B0 dL_law_941 rfl rfl ?_
          refine z_iconst (v := 1) B0 dL_law_942 (by decide) ?_
          refine z_iadd (v := 1) B0 dL_law_943 (by decide) ?_
          refine y_sld (j := 1) (v := 2) B0 hX hbl (by decide) e1.symm dL_law_944 ?_
          refine z_aload_n B0 dL_law_945 rfl rfl ?_
          refine z_iload_n B0 dL_law_946 rfl rfl ?_
          refine z_iconst (v := 2) B0 dL_law_947 (by decide) ?_
          refine z_iadd (v := 2) B0 dL_law_948 (by decide) ?_
          refine y_sld (j := 2) (v := x2) B0 hX hbl (by decide) e2.symm dL_law_949 ?_
          refine z_aload_n B0 dL_law_950 rfl rfl ?_
          refine z_iload_n B0 dL_law_951 rfl rfl ?_
          refine z_iconst (v := 3) B0 dL_law_952 (by decide) ?_
          refine z_iadd (v := 3) B0 dL_law_953 (by decide) ?_
          refine y_sld (j := 3) (v := x3) B0 hX hbl (by decide) e3.symm dL_law_954 ?_
          refine z_aload_n B0 dL_law_955 rfl rfl ?_
          refine z_iload_n B0 dL_law_956 rfl rfl ?_
          refine z_iconst (v := 4) B0 dL_law_957 (by decide) ?_
          refine z_iadd (v := 4) B0 dL_law_958 (by decide) ?_
          refine y_sld (j := 4) (v := x4) B0 hX hbl (by decide) e4.symm dL_law_959 ?_
          refine z_callC B0 (z_runV (q0 := 0) (As := [.int 2, .int x2, .int x3, .int x4]) (st := []) B0 (c_X11_gain_40 (a := a) (cS0 w) x2 x3 x4 ⟨by omega, by omega⟩ ⟨by omega, by omega⟩ ⟨by omega, by omega⟩) cf_X11_gain (cw_0 cy tE a rw (cS0 w)) rfl wm_L_109 wi_X11_gain ws_X11_gain dL_law_960 rfl (Nat.le_of_ble_eq_true rfl) ⟨by decide, by decide, by decide, by decide⟩) (fun r1 u1 p1 => ?_)
          obtain ⟨rfl, -⟩ := p1
          refine z_aload_n B0 dL_law_963 rfl rfl ?_
          refine z_aload_n B0 dL_law_964 rfl rfl ?_
          refine z_iload_n B0 dL_law_965 rfl rfl ?_
          refine z_iconst (v := 1) B0 dL_law_966 (by decide) ?_
          refine z_iadd (v := 1) B0 dL_law_967 (by decide) ?_
          refine y_sld (j := 1) (v := 2) B0 hX hbl (by decide) e1.symm dL_law_968 ?_
          refine z_aload_n B0 dL_law_969 rfl rfl ?_
          refine z_iload_n B0 dL_law_970 rfl rfl ?_
          refine z_iconst (v := 2) B0 dL_law_971 (by decide) ?_
          refine z_iadd (v := 2) B0 dL_law_972 (by decide) ?_
          refine y_sld (j := 2) (v := x2) B0 hX hbl (by decide) e2.symm dL_law_973 ?_
          refine z_aload_n B0 dL_law_974 rfl rfl ?_
          refine z_iload_n B0 dL_law_975 rfl rfl ?_
          refine z_iconst (v := 3) B0 dL_law_976 (by decide) ?_
          refine z_iadd (v := 3) B0 dL_law_977 (by decide) ?_
          refine y_sld (j := 3) (v := x3) B0 hX hbl (by decide) e3.symm dL_law_978 ?_
          refine z_aload_n B0 dL_law_979 rfl rfl ?_
          refine z_iload_n B0 dL_law_980 rfl rfl ?_
          refine z_iconst (v := 4) B0 dL_law_981 (by decide) ?_
          refine z_iadd (v := 4) B0 dL_law_982 (by decide) ?_
          refine y_sld (j := 4) (v := x4) B0 hX hbl (by decide) e4.symm dL_law_983 ?_
          refine z_callM B0 (z_runV (q0 := 0) (As := [.int 2, .int x2, .int x3, .int x4]) (st := [.int (-100)]) B0 (c_X12_gain_40 (a := a2) mS0 x2 x3 x4 ⟨by omega, by omega⟩ ⟨by omega, by omega⟩ ⟨by omega, by omega⟩) cf_X12_gain (mw_0 cy a2 mS0) rfl wm_L_112 wi_X12_gain ws_X12_gain dL_law_984 rfl (Nat.le_of_ble_eq_true rfl) ⟨by decide, by decide, by decide, by decide⟩) (fun r2 u2 p2 => ?_)
          obtain ⟨rfl, -⟩ := p2
          refine z_icmp_eq_t (tgt := 1091) B0 dL_law_987 (by decide) rfl ?_
          exact fin u1 u2
        · obtain rfl : x4 = 0 := Int32.toInt_inj.mp (h4.trans (by decide))
          refine z_aload_n B0 dL_law_939 rfl rfl ?_
          refine z_aload_n B0 dL_law_940 rfl rfl ?_
          refine z_iload_n B0 dL_law_941 rfl rfl ?_
          refine z_iconst (v := 1) B0 dL_law_942 (by decide) ?_
          refine z_iadd (v := 1) B0 dL_law_943 (by decide) ?_
          refine y_sld (j := 1) (v := 2) B0 hX hbl (by decide) e1.symm dL_law_944 ?_
          refine z_aload_n B0 dL_law_945 rfl rfl ?_
          refine z_iload_n B0 dL_law_946 rfl rfl ?_
          refine z_iconst (v := 2) B0 dL_law_947 (by decide) ?_
          refine z_iadd (v := 2) B0 dL_law_948 (by decide) ?_
          refine y_sld (j := 2) (v := x2) B0 hX hbl (by decide) e2.symm dL_law_949 ?_
          refine z_aload_n B0 dL_law_950 rfl rfl ?_
          refine z_iload_n B0 dL_law_951 rfl rfl ?_
          refine z_iconst (v := 3) B0 dL_law_952 (by decide) ?_
          refine z_iadd (v := 3) B0 dL_law_953 (by decide) ?_
          refine y_sld (j := 3) (v := x3) B0 hX hbl (by decide) e3.symm dL_law_954 ?_
          refine z_aload_n B0 dL_law_955 rfl rfl ?_
          refine z_iload_n B0 dL_law_956 rfl rfl ?_
          refine z_iconst (v := 4) B0 dL_law_957 (by decide) ?_
          refine z_iadd (v := 4) B0 dL_law_958 (by decide) ?_
          refine y_sld (j := 4) (v := 0) B0 hX hbl (by decide) e4.symm dL_law_959 ?_
          refine z_callC B0 (z_runV (q0 := 0) (As := [.int 2, .int x2, .int x3, .int 0]) (st := []) B0 (c_X11_gain_41 (a := a) (cS0 w) x2 x3 rfl rfl rfl rfl rfl rfl rfl rfl rfl rfl rfl rfl rfl rfl rfl rfl rfl rfl rfl rfl rfl rfl rfl rfl rfl rfl rfl rfl rfl rfl rfl rfl rfl rfl rfl rfl rfl rfl rfl rfl rfl rfl rfl rfl rfl rfl rfl rfl rfl rfl rfl rfl rfl rfl rfl rfl rfl rfl ⟨by omega, by omega⟩ ⟨by omega, by omega⟩) cf_X11_gain (cw_0 cy tE a rw (cS0 w)) rfl wm_L_109 wi_X11_gain ws_X11_gain dL_law_960 rfl (Nat.le_of_ble_eq_true rfl) ⟨by decide, by decide, by decide, by decide⟩) (fun r1 u1 p1 => ?_)
          obtain rfl : 0 = r1 := by rcases p1 with ⟨-, h, -⟩ | ⟨-, h, -⟩ <;> exact h
          refine z_aload_n B0 dL_law_963 rfl rfl ?_
          refine z_aload_n B0 dL_law_964 rfl rfl ?_
          refine z_iload_n B0 dL_law_965 rfl rfl ?_
          refine z_iconst (v := 1) B0 dL_law_966 (by decide) ?_
          refine z_iadd (v := 1) B0 dL_law_967 (by decide) ?_
          refine y_sld (j := 1) (v := 2) B0 hX hbl (by decide) e1.symm dL_law_968 ?_
          refine z_aload_n B0 dL_law_969 rfl rfl ?_
          refine z_iload_n B0 dL_law_970 rfl rfl ?_
          refine z_iconst (v := 2) B0 dL_law_971 (by decide) ?_
          refine z_iadd (v := 2) B0 dL_law_972 (by decide) ?_
          refine y_sld (j := 2) (v := x2) B0 hX hbl (by decide) e2.symm dL_law_973 ?_
          refine z_aload_n B0 dL_law_974 rfl rfl ?_
          refine z_iload_n B0 dL_law_975 rfl rfl ?_
          refine z_iconst (v := 3) B0 dL_law_976 (by decide) ?_
          refine z_iadd (v := 3) B0 dL_law_977 (by decide) ?_
          refine y_sld (j := 3) (v := x3) B0 hX hbl (by decide) e3.symm dL_law_978 ?_
          refine z_aload_n B0 dL_law_979 rfl rfl ?_
          refine z_iload_n B0 dL_law_980 rfl rfl ?_
          refine z_iconst (v := 4) B0 dL_law_981 (by decide) ?_
          refine z_iadd (v := 4) B0 dL_law_982 (by decide) ?_
          refine y_sld (j := 4) (v := 0) B0 hX hbl (by decide) e4.symm dL_law_983 ?_
          refine z_callM B0 (z_runV (q0 := 0) (As := [.int 2, .int x2, .int x3, .int 0]) (st := [.int 0]) B0 (c_X12_gain_41 (a := a2) mS0 x2 x3 rfl rfl rfl rfl rfl rfl rfl rfl rfl rfl rfl rfl rfl rfl rfl rfl rfl rfl rfl rfl rfl rfl rfl rfl rfl rfl rfl rfl rfl rfl rfl rfl ⟨by omega, by omega⟩ ⟨by omega, by omega⟩) cf_X12_gain (mw_0 cy a2 mS0) rfl wm_L_112 wi_X12_gain ws_X12_gain dL_law_984 rfl (Nat.le_of_ble_eq_true rfl) ⟨by decide, by decide, by decide, by decide⟩) (fun r2 u2 p2 => ?_)
          obtain ⟨rfl, -⟩ := p2
          refine z_icmp_eq_t (tgt := 1091) B0 dL_law_987 (by decide) rfl ?_
          exact fin u1 u2
        · obtain rfl : x4 = 1 := Int32.toInt_inj.mp (h4.trans (by decide))
          refine z_aload_n B0 dL_law_939 rfl rfl ?_
          refine z_aload_n B0 dL_law_940 rfl rfl ?_
          refine z_iload_n B0 dL_law_941 rfl rfl ?_
          refine z_iconst (v := 1) B0 dL_law_942 (by decide) ?_
          refine z_iadd (v := 1) B0 dL_law_943 (by decide) ?_
          refine y_sld (j := 1) (v := 2) B0 hX hbl (by decide) e1.symm dL_law_944 ?_
          refine z_aload_n B0 dL_law_945 rfl rfl ?_
          refine z_iload_n B0 dL_law_946 rfl rfl ?_
          refine z_iconst (v := 2) B0 dL_law_947 (by decide) ?_
          refine z_iadd (v := 2) B0 dL_law_948 (by decide) ?_
          refine y_sld (j := 2) (v := x2) B0 hX hbl (by decide) e2.symm dL_law_949 ?_
          refine z_aload_n B0 dL_law_950 rfl rfl ?_
          refine z_iload_n B0 dL_law_951 rfl rfl ?_
          refine z_iconst (v := 3) B0 dL_law_952 (by decide) ?_
          refine z_iadd (v := 3) B0 dL_law_953 (by decide) ?_
          refine y_sld (j := 3) (v := x3) B0 hX hbl (by decide) e3.symm dL_law_954 ?_
          refine z_aload_n B0 dL_law_955 rfl rfl ?_
          refine z_iload_n B0 dL_law_956 rfl rfl ?_
          refine z_iconst (v := 4) B0 dL_law_957 (by decide) ?_
          refine z_iadd (v := 4) B0 dL_law_958 (by decide) ?_
          refine y_sld (j := 4) (v := 1) B0 hX hbl (by decide) e4.symm dL_law_959 ?_
          refine z_callC B0 (z_runV (q0 := 0) (As := [.int 2, .int x2, .int x3, .int 1]) (st := []) B0 (c_X11_gain_42 (a := a) (cS0 w) x2 x3 rfl rfl rfl rfl rfl rfl rfl rfl rfl rfl rfl rfl rfl rfl rfl rfl rfl rfl rfl rfl rfl rfl rfl rfl rfl rfl rfl rfl rfl rfl rfl rfl rfl rfl rfl rfl rfl rfl rfl rfl rfl rfl rfl rfl rfl rfl rfl rfl rfl rfl rfl rfl rfl rfl rfl rfl rfl rfl ⟨by omega, by omega⟩ ⟨by omega, by omega⟩) cf_X11_gain (cw_0 cy tE a rw (cS0 w)) rfl wm_L_109 wi_X11_gain ws_X11_gain dL_law_960 rfl (Nat.le_of_ble_eq_true rfl) ⟨by decide, by decide, by decide, by decide⟩) (fun r1 u1 p1 => ?_)
          obtain rfl : 0 = r1 := by rcases p1 with ⟨-, h, -⟩ | ⟨-, h, -⟩ <;> exact h
          refine z_aload_n B0 dL_law_963 rfl rfl ?_
          refine z_aload_n B0 dL_law_964 rfl rfl ?_
          refine z_iload_n B0 dL_law_965 rfl rfl ?_
          refine z_iconst (v := 1) B0 dL_law_966 (by decide) ?_
          refine z_iadd (v := 1) B0 dL_law_967 (by decide) ?_
          refine y_sld (j := 1) (v := 2) B0 hX hbl (by decide) e1.symm dL_law_968 ?_
          refine z_aload_n B0 dL_law_969 rfl rfl ?_
          refine z_iload_n B0 dL_law_970 rfl rfl ?_
          refine z_iconst (v := 2) B0 dL_law_971 (by decide) ?_
          refine z_iadd (v := 2) B0 dL_law_972 (by decide) ?_
          refine y_sld (j := 2) (v := x2) B0 hX hbl (by decide) e2.symm dL_law_973 ?_
          refine z_aload_n B0 dL_law_974 rfl rfl ?_
          refine z_iload_n B0 dL_law_975 rfl rfl ?_
          refine z_iconst (v := 3) B0 dL_law_976 (by decide) ?_
          refine z_iadd (v := 3) B0 dL_law_977 (by decide) ?_
          refine y_sld (j := 3) (v := x3) B0 hX hbl (by decide) e3.symm dL_law_978 ?_
          refine z_aload_n B0 dL_law_979 rfl rfl ?_
          refine z_iload_n B0 dL_law_980 rfl rfl ?_
          refine z_iconst (v := 4) B0 dL_law_981 (by decide) ?_
          refine z_iadd (v := 4) B0 dL_law_982 (by decide) ?_
          refine y_sld (j := 4) (v := 1) B0 hX hbl (by decide) e4.symm dL_law_983 ?_
          refine z_callM B0 (z_runV (q0 := 0) (As := [.int 2, .int x2, .int x3, .int 1]) (st := [.int 0]) B0 (c_X12_gain_42 (a := a2) mS0 x2 x3 rfl rfl rfl rfl rfl rfl rfl rfl rfl rfl rfl rfl rfl rfl rfl rfl rfl rfl rfl rfl rfl rfl rfl rfl rfl rfl rfl rfl rfl rfl rfl rfl ⟨by omega, by omega⟩ ⟨by omega, by omega⟩) cf_X12_gain (mw_0 cy a2 mS0) rfl wm_L_112 wi_X12_gain ws_X12_gain dL_law_984 rfl (Nat.le_of_ble_eq_true rfl) ⟨by decide, by decide, by decide, by decide⟩) (fun r2 u2 p2 => ?_)
          obtain ⟨rfl, -⟩ := p2
          refine z_icmp_eq_t (tgt := 1091) B0 dL_law_987 (by decide) rfl ?_
          exact fin u1 u2
        · refine z_aload_n B0 dL_law_939 rfl rfl ?_
          refine z_aload_n B0 dL_law_940 rfl rfl ?_
          refine z_iload_n B0 dL_law_941 rfl rfl ?_
          refine z_iconst (v := 1) B0 dL_law_942 (by decide) ?_
          refine z_iadd (v := 1) B0 dL_law_943 (by decide) ?_
          refine y_sld (j := 1) (v := 2) B0 hX hbl (by decide) e1.symm dL_law_944 ?_
          refine z_aload_n B0 dL_law_945 rfl rfl ?_
          refine z_iload_n B0 dL_law_946 rfl rfl ?_
          refine z_iconst (v := 2) B0 dL_law_947 (by decide) ?_
          refine z_iadd (v := 2) B0 dL_law_948 (by decide) ?_
          refine y_sld (j := 2) (v := x2) B0 hX hbl (by decide) e2.symm dL_law_949 ?_
          refine z_aload_n B0 dL_law_950 rfl rfl ?_
          refine z_iload_n B0 dL_law_951 rfl rfl ?_
          refine z_iconst (v := 3) B0 dL_law_952 (by decide) ?_
          refine z_iadd (v := 3) B0 dL_law_953 (by decide) ?_
          refine y_sld (j := 3) (v := x3) B0 hX hbl (by decide) e3.symm dL_law_954 ?_
          refine z_aload_n B0 dL_law_955 rfl rfl ?_
          refine z_iload_n B0 dL_law_956 rfl rfl ?_
          refine z_iconst (v := 4) B0 dL_law_957 (by decide) ?_
          refine z_iadd (v := 4) B0 dL_law_958 (by decide) ?_
          refine y_sld (j := 4) (v := x4) B0 hX hbl (by decide) e4.symm dL_law_959 ?_
          refine z_callC B0 (z_runV (q0 := 0) (As := [.int 2, .int x2, .int x3, .int x4]) (st := []) B0 (c_X11_gain_43 (a := a) (cS0 w) x2 x3 x4 rfl rfl rfl rfl rfl rfl rfl rfl rfl rfl rfl rfl rfl rfl rfl rfl rfl rfl rfl rfl rfl rfl rfl rfl rfl rfl rfl rfl rfl rfl rfl rfl rfl rfl rfl rfl rfl rfl rfl rfl rfl rfl rfl rfl rfl rfl rfl rfl rfl rfl rfl rfl rfl rfl rfl rfl rfl rfl ⟨by omega, by omega⟩ ⟨by omega, by omega⟩ ⟨by omega, by omega⟩) cf_X11_gain (cw_0 cy tE a rw (cS0 w)) rfl wm_L_109 wi_X11_gain ws_X11_gain dL_law_960 rfl (Nat.le_of_ble_eq_true rfl) ⟨by decide, by decide, by decide, by decide⟩) (fun r1 u1 p1 => ?_)
          obtain rfl : (-100) = r1 := by rcases p1 with ⟨-, h, -⟩ | ⟨-, h, -⟩ <;> exact h
          refine z_aload_n B0 dL_law_963 rfl rfl ?_
          refine z_aload_n B0 dL_law_964 rfl rfl ?_
          refine z_iload_n B0 dL_law_965 rfl rfl ?_
          refine z_iconst (v := 1) B0 dL_law_966 (by decide) ?_
          refine z_iadd (v := 1) B0 dL_law_967 (by decide) ?_
          refine y_sld (j := 1) (v := 2) B0 hX hbl (by decide) e1.symm dL_law_968 ?_
          refine z_aload_n B0 dL_law_969 rfl rfl ?_
          refine z_iload_n B0 dL_law_970 rfl rfl ?_
          refine z_iconst (v := 2) B0 dL_law_971 (by decide) ?_
          refine z_iadd (v := 2) B0 dL_law_972 (by decide) ?_
          refine y_sld (j := 2) (v := x2) B0 hX hbl (by decide) e2.symm dL_law_973 ?_
          refine z_aload_n B0 dL_law_974 rfl rfl ?_
          refine z_iload_n B0 dL_law_975 rfl rfl ?_
          refine z_iconst (v := 3) B0 dL_law_976 (by decide) ?_
          refine z_iadd (v := 3) B0 dL_law_977 (by decide) ?_
          refine y_sld (j := 3) (v := x3) B0 hX hbl (by decide) e3.symm dL_law_978 ?_
          refine z_aload_n B0 dL_law_979 rfl rfl ?_
          refine z_iload_n B0 dL_law_980 rfl rfl ?_
          refine z_iconst (v := 4) B0 dL_law_981 (by decide) ?_
          refine z_iadd (v := 4) B0 dL_law_982 (by decide) ?_
          refine y_sld (j := 4) (v := x4) B0 hX hbl (by decide) e4.symm dL_law_983 ?_
          refine z_callM B0 (z_runV (q0 := 0) (As := [.int 2, .int x2, .int x3, .int x4]) (st := [.int (-100)]) B0 (c_X12_gain_43 (a := a2) mS0 x2 x3 x4 rfl rfl rfl rfl rfl rfl rfl rfl rfl rfl rfl rfl rfl rfl rfl rfl rfl rfl rfl rfl rfl rfl rfl rfl rfl rfl rfl rfl rfl rfl rfl rfl ⟨by omega, by omega⟩ ⟨by omega, by omega⟩ ⟨by omega, by omega⟩) cf_X12_gain (mw_0 cy a2 mS0) rfl wm_L_112 wi_X12_gain ws_X12_gain dL_law_984 rfl (Nat.le_of_ble_eq_true rfl) ⟨by decide, by decide, by decide, by decide⟩) (fun r2 u2 p2 => ?_)
          obtain ⟨rfl, -⟩ := p2
          refine z_icmp_eq_t (tgt := 1091) B0 dL_law_987 (by decide) rfl ?_
          exact fin u1 u2
        · refine z_aload_n B0 dL_law_939 rfl rfl ?_
          refine z_aload_n B0 dL_law_940 rfl rfl ?_
          refine z_iload_n B0 dL_law_941 rfl rfl ?_
          refine z_iconst (v := 1) B0 dL_law_942 (by decide) ?_
          refine z_iadd (v := 1) B0 dL_law_943 (by decide) ?_
          refine y_sld (j := 1) (v := 2) B0 hX hbl (by decide) e1.symm dL_law_944 ?_
          refine z_aload_n B0 dL_law_945 rfl rfl ?_
          refine z_iload_n B0 dL_law_946 rfl rfl ?_
          refine z_iconst (v := 2) B0 dL_law_947 (by decide) ?_
          refine z_iadd (v := 2) B0 dL_law_948 (by decide) ?_
          refine y_sld (j := 2) (v := x2) B0 hX hbl (by decide) e2.symm dL_law_949 ?_
          refine z_aload_n B0 dL_law_950 rfl rfl ?_
          refine z_iload_n B0 dL_law_951 rfl rfl ?_
          refine z_iconst (v := 3) B0 dL_law_952 (by decide) ?_
          refine z_iadd (v := 3) B0 dL_law_953 (by decide) ?_
          refine y_sld (j := 3) (v := x3) B0 hX hbl (by decide) e3.symm dL_law_954 ?_
          refine z_aload_n B0 dL_law_955 rfl rfl ?_
          refine z_iload_n B0 dL_law_956 rfl rfl ?_
          refine z_iconst (v := 4) B0 dL_law_957 (by decide) ?_
          refine z_iadd (v := 4) B0 dL_law_958 (by decide) ?_
          refine y_sld (j := 4) (v := x4) B0 hX hbl (by decide) e4.symm dL_law_959 ?_
          refine z_callC B0 (z_runV (q0 := 0) (As := [.int 2, .int x2, .int x3, .int x4]) (st := []) B0 (c_X11_gain_44 (a := a) (cS0 w) x2 x3 x4 rfl rfl rfl rfl rfl rfl rfl rfl rfl rfl rfl rfl rfl rfl rfl rfl rfl rfl rfl rfl rfl rfl rfl rfl rfl rfl rfl rfl rfl rfl rfl rfl rfl rfl rfl rfl rfl rfl rfl rfl rfl rfl rfl rfl rfl rfl rfl rfl rfl rfl rfl rfl rfl rfl rfl rfl rfl rfl ⟨by omega, by omega⟩ ⟨by omega, by omega⟩ ⟨by omega, by omega⟩) cf_X11_gain (cw_0 cy tE a rw (cS0 w)) rfl wm_L_109 wi_X11_gain ws_X11_gain dL_law_960 rfl (Nat.le_of_ble_eq_true rfl) ⟨by decide, by decide, by decide, by decide⟩) (fun r1 u1 p1 => ?_)
          obtain rfl : (-100) = r1 := by rcases p1 with ⟨-, h, -⟩ | ⟨-, h, -⟩ <;> exact h
          refine z_aload_n B0 dL_law_963 rfl rfl ?_
          refine z_aload_n B0 dL_law_964 rfl rfl ?_
          refine z_iload_n B0 dL_law_965 rfl rfl ?_
          refine z_iconst (v := 1) B0 dL_law_966 (by decide) ?_
          refine z_iadd (v := 1) B0 dL_law_967 (by decide) ?_
          refine y_sld (j := 1) (v := 2) B0 hX hbl (by decide) e1.symm dL_law_968 ?_
          refine z_aload_n B0 dL_law_969 rfl rfl ?_
          refine z_iload_n B0 dL_law_970 rfl rfl ?_
          refine z_iconst (v := 2) B0 dL_law_971 (by decide) ?_
          refine z_iadd (v := 2) B0 dL_law_972 (by decide) ?_
          refine y_sld (j := 2) (v := x2) B0 hX hbl (by decide) e2.symm dL_law_973 ?_
          refine z_aload_n B0 dL_law_974 rfl rfl ?_
          refine z_iload_n B0 dL_law_975 rfl rfl ?_
          refine z_iconst (v := 3) B0 dL_law_976 (by decide) ?_
          refine z_iadd (v := 3) B0 dL_law_977 (by decide) ?_
          refine y_sld (j := 3) (v := x3) B0 hX hbl (by decide) e3.symm dL_law_978 ?_
          refine z_aload_n B0 dL_law_979 rfl rfl ?_
          refine z_iload_n B0 dL_law_980 rfl rfl ?_
          refine z_iconst (v := 4) B0 dL_law_981 (by decide) ?_
          refine z_iadd (v := 4) B0 dL_law_982 (by decide) ?_
          refine y_sld (j := 4) (v := x4) B0 hX hbl (by decide) e4.symm dL_law_983 ?_
          refine z_callM B0 (z_runV (q0 := 0) (As := [.int 2, .int x2, .int x3, .int x4]) (st := [.int (-100)]) B0 (c_X12_gain_44 (a := a2) mS0 x2 x3 x4 ⟨by omega, by omega⟩ ⟨by omega, by omega⟩ ⟨by omega, by omega⟩) cf_X12_gain (mw_0 cy a2 mS0) rfl wm_L_112 wi_X12_gain ws_X12_gain dL_law_984 rfl (Nat.le_of_ble_eq_true rfl) ⟨by decide, by decide, by decide, by decide⟩) (fun r2 u2 p2 => ?_)
          obtain ⟨rfl, -⟩ := p2
          refine z_icmp_eq_t (tgt := 1091) B0 dL_law_987 (by decide) rfl ?_
          exact fin u1 u2
      · refine z_aload_n B0 dL_law_939 rfl rfl ?_
        refine z_aload_n B0 dL_law_940 rfl rfl ?_
        refine z_iload_n B0 dL_law_941 rfl rfl ?_
        refine z_iconst (v := 1) B0 dL_law_942 (by decide) ?_
        refine z_iadd (v := 1) B0 dL_law_943 (by decide) ?_
        refine y_sld (j := 1) (v := 2) B0 hX hbl (by decide) e1.symm dL_law_944 ?_
        refine z_aload_n B0 dL_law_945 rfl rfl ?_
        refine z_iload_n B0 dL_law_946 rfl rfl ?_
        refine z_iconst (v := 2) B0 dL_law_947 (by decide) ?_
        refine z_iadd (v := 2) B0 dL_law_948 (by decide) ?_
        refine y_sld (j := 2) (v := x2) B0 hX hbl (by decide) e2.symm dL_law_949 ?_
        refine z_aload_n B0 dL_law_950 rfl rfl ?_
        refine z_iload_n B0 dL_law_951 rfl rfl ?_
        refine z_iconst (v := 3) B0 dL_law_952 (by decide) ?_
        refine z_iadd (v := 3) B0 dL_law_953 (by decide) ?_
        refine y_sld (j := 3) (v := x3) B0 hX hbl (by decide) e3.symm dL_law_954 ?_
        refine z_aload_n B0 dL_law_955 rfl rfl ?_
        refine z_iload_n B0 dL_law_956 rfl rfl ?_
        refine z_iconst (v := 4) B0 dL_law_957 (by decide) ?_
        refine z_iadd (v := 4) B0 dL_law_958 (by decide) ?_
        refine y_sld (j := 4) (v := x4) B0 hX hbl (by decide) e4.symm dL_law_959 ?_
        refine z_callC B0 (z_runV (q0 := 0) (As := [.int 2, .int x2, .int x3, .int x4]) (st := []) B0 (c_X11_gain_14 (a := a) (cS0 w) x2 x3 x4 ⟨by omega, by omega⟩ ⟨by omega, by omega⟩) cf_X11_gain (cw_0 cy tE a rw (cS0 w)) rfl wm_L_109 wi_X11_gain ws_X11_gain dL_law_960 rfl (Nat.le_of_ble_eq_true rfl) ⟨by decide, by decide, by decide, by decide⟩) (fun r1 u1 p1 => ?_)
        obtain ⟨rfl, -⟩ := p1
        refine z_aload_n B0 dL_law_963 rfl rfl ?_
        refine z_aload_n B0 dL_law_964 rfl rfl ?_
        refine z_iload_n B0 dL_law_965 rfl rfl ?_
        refine z_iconst (v := 1) B0 dL_law_966 (by decide) ?_
        refine z_iadd (v := 1) B0 dL_law_967 (by decide) ?_
        refine y_sld (j := 1) (v := 2) B0 hX hbl (by decide) e1.symm dL_law_968 ?_
        refine z_aload_n B0 dL_law_969 rfl rfl ?_
        refine z_iload_n B0 dL_law_970 rfl rfl ?_
        refine z_iconst (v := 2) B0 dL_law_971 (by decide) ?_
        refine z_iadd (v := 2) B0 dL_law_972 (by decide) ?_
        refine y_sld (j := 2) (v := x2) B0 hX hbl (by decide) e2.symm dL_law_973 ?_
        refine z_aload_n B0 dL_law_974 rfl rfl ?_
        refine z_iload_n B0 dL_law_975 rfl rfl ?_
        refine z_iconst (v := 3) B0 dL_law_976 (by decide) ?_
        refine z_iadd (v := 3) B0 dL_law_977 (by decide) ?_
        refine y_sld (j := 3) (v := x3) B0 hX hbl (by decide) e3.symm dL_law_978 ?_
        refine z_aload_n B0 dL_law_979 rfl rfl ?_
        refine z_iload_n B0 dL_law_980 rfl rfl ?_
        refine z_iconst (v := 4) B0 dL_law_981 (by decide) ?_
        refine z_iadd (v := 4) B0 dL_law_982 (by decide) ?_
        refine y_sld (j := 4) (v := x4) B0 hX hbl (by decide) e4.symm dL_law_983 ?_
        refine z_callM B0 (z_runV (q0 := 0) (As := [.int 2, .int x2, .int x3, .int x4]) (st := [.int (-100)]) B0 (c_X12_gain_14 (a := a2) mS0 x2 x3 x4 ⟨by omega, by omega⟩ ⟨by omega, by omega⟩) cf_X12_gain (mw_0 cy a2 mS0) rfl wm_L_112 wi_X12_gain ws_X12_gain dL_law_984 rfl (Nat.le_of_ble_eq_true rfl) ⟨by decide, by decide, by decide, by decide⟩) (fun r2 u2 p2 => ?_)
        obtain ⟨rfl, -⟩ := p2
        refine z_icmp_eq_t (tgt := 1091) B0 dL_law_987 (by decide) rfl ?_
        exact fin u1 u2
    · refine z_aload_n B0 dL_law_939 rfl rfl ?_
      refine z_aload_n B0 dL_law_940 rfl rfl ?_
      refine z_iload_n B0 dL_law_941 rfl rfl ?_
      refine z_iconst (v := 1) B0 dL_law_942 (by decide) ?_
      refine z_iadd (v := 1) B0 dL_law_943 (by decide) ?_
      refine y_sld (j := 1) (v := 2) B0 hX hbl (by decide) e1.symm dL_law_944 ?_
      refine z_aload_n B0 dL_law_945 rfl rfl ?_
      refine z_iload_n B0 dL_law_946 rfl rfl ?_
      refine z_iconst (v := 2) B0 dL_law_947 (by decide) ?_
      refine z_iadd (v := 2) B0 dL_law_948 (by decide) ?_
      refine y_sld (j := 2) (v := x2) B0 hX hbl (by decide) e2.symm dL_law_949 ?_
      refine z_aload_n B0 dL_law_950 rfl rfl ?_
      refine z_iload_n B0 dL_law_951 rfl rfl ?_
      refine z_iconst (v := 3) B0 dL_law_952 (by decide) ?_
      refine z_iadd (v := 3) B0 dL_law_953 (by decide) ?_
      refine y_sld (j := 3) (v := x3) B0 hX hbl (by decide) e3.symm dL_law_954 ?_
      refine z_aload_n B0 dL_law_955 rfl rfl ?_
      refine z_iload_n B0 dL_law_956 rfl rfl ?_
      refine z_iconst (v := 4) B0 dL_law_957 (by decide) ?_
      refine z_iadd (v := 4) B0 dL_law_958 (by decide) ?_
      refine y_sld (j := 4) (v := x4) B0 hX hbl (by decide) e4.symm dL_law_959 ?_
      refine z_callC B0 (z_runV (q0 := 0) (As := [.int 2, .int x2, .int x3, .int x4]) (st := []) B0 (c_X11_gain_8 (a := a) (cS0 w) x2 x3 x4 ⟨by omega, by omega⟩) cf_X11_gain (cw_0 cy tE a rw (cS0 w)) rfl wm_L_109 wi_X11_gain ws_X11_gain dL_law_960 rfl (Nat.le_of_ble_eq_true rfl) ⟨by decide, by decide, by decide, by decide⟩) (fun r1 u1 p1 => ?_)
      obtain ⟨rfl, -⟩ := p1
      refine z_aload_n B0 dL_law_963 rfl rfl ?_
      refine z_aload_n B0 dL_law_964 rfl rfl ?_
      refine z_iload_n B0 dL_law_965 rfl rfl ?_
      refine z_iconst (v := 1) B0 dL_law_966 (by decide) ?_
      refine z_iadd (v := 1) B0 dL_law_967 (by decide) ?_
      refine y_sld (j := 1) (v := 2) B0 hX hbl (by decide) e1.symm dL_law_968 ?_
      refine z_aload_n B0 dL_law_969 rfl rfl ?_
      refine z_iload_n B0 dL_law_970 rfl rfl ?_
      refine z_iconst (v := 2) B0 dL_law_971 (by decide) ?_
      refine z_iadd (v := 2) B0 dL_law_972 (by decide) ?_
      refine y_sld (j := 2) (v := x2) B0 hX hbl (by decide) e2.symm dL_law_973 ?_
      refine z_aload_n B0 dL_law_974 rfl rfl ?_
      refine z_iload_n B0 dL_law_975 rfl rfl ?_
      refine z_iconst (v := 3) B0 dL_law_976 (by decide) ?_
      refine z_iadd (v := 3) B0 dL_law_977 (by decide) ?_
      refine y_sld (j := 3) (v := x3) B0 hX hbl (by decide) e3.symm dL_law_978 ?_
      refine z_aload_n B0 dL_law_979 rfl rfl ?_
      refine z_iload_n B0 dL_law_980 rfl rfl ?_
      refine z_iconst (v := 4) B0 dL_law_981 (by decide) ?_
      refine z_iadd (v := 4) B0 dL_law_982 (by decide) ?_
      refine y_sld (j := 4) (v := x4) B0 hX hbl (by decide) e4.symm dL_law_983 ?_
      refine z_callM B0 (z_runV (q0 := 0) (As := [.int 2, .int x2, .int x3, .int x4]) (st := [.int (-100)]) B0 (c_X12_gain_8 (a := a2) mS0 x2 x3 x4 ⟨by omega, by omega⟩) cf_X12_gain (mw_0 cy a2 mS0) rfl wm_L_112 wi_X12_gain ws_X12_gain dL_law_984 rfl (Nat.le_of_ble_eq_true rfl) ⟨by decide, by decide, by decide, by decide⟩) (fun r2 u2 p2 => ?_)
      obtain ⟨rfl, -⟩ := p2
      refine z_icmp_eq_t (tgt := 1091) B0 dL_law_987 (by decide) rfl ?_
      exact fin u1 u2
  · refine z_aload_n B0 dL_law_939 rfl rfl ?_
    refine z_aload_n B0 dL_law_940 rfl rfl ?_
    refine z_iload_n B0 dL_law_941 rfl rfl ?_
    refine z_iconst (v := 1) B0 dL_law_942 (by decide) ?_
    refine z_iadd (v := 1) B0 dL_law_943 (by decide) ?_
    refine y_sld (j := 1) (v := x1) B0 hX hbl (by decide) e1.symm dL_law_944 ?_
    refine z_aload_n B0 dL_law_945 rfl rfl ?_
    refine z_iload_n B0 dL_law_946 rfl rfl ?_
    refine z_iconst (v := 2) B0 dL_law_947 (by decide) ?_
    refine z_iadd (v := 2) B0 dL_law_948 (by decide) ?_
    refine y_sld (j := 2) (v := x2) B0 hX hbl (by decide) e2.symm dL_law_949 ?_
    refine z_aload_n B0 dL_law_950 rfl rfl ?_
    refine z_iload_n B0 dL_law_951 rfl rfl ?_
    refine z_iconst (v := 3) B0 dL_law_952 (by decide) ?_
    refine z_iadd (v := 3) B0 dL_law_953 (by decide) ?_
    refine y_sld (j := 3) (v := x3) B0 hX hbl (by decide) e3.symm dL_law_954 ?_
    refine z_aload_n B0 dL_law_955 rfl rfl ?_
    refine z_iload_n B0 dL_law_956 rfl rfl ?_
    refine z_iconst (v := 4) B0 dL_law_957 (by decide) ?_
    refine z_iadd (v := 4) B0 dL_law_958 (by decide) ?_
    refine y_sld (j := 4) (v := x4) B0 hX hbl (by decide) e4.symm dL_law_959 ?_
    refine z_callC B0 (z_runV (q0 := 0) (As := [.int x1, .int x2, .int x3, .int x4]) (st := []) B0 (c_X11_gain_2 (a := a) (cS0 w) x1 x2 x3 x4 ⟨by omega, by omega⟩) cf_X11_gain (cw_0 cy tE a rw (cS0 w)) rfl wm_L_109 wi_X11_gain ws_X11_gain dL_law_960 rfl (Nat.le_of_ble_eq_true rfl) ⟨by decide, by decide, by decide, by decide⟩) (fun r1 u1 p1 => ?_)
    obtain ⟨rfl, -⟩ := p1
    refine z_aload_n B0 dL_law_963 rfl rfl ?_
    refine z_aload_n B0 dL_law_964 rfl rfl ?_
    refine z_iload_n B0 dL_law_965 rfl rfl ?_
    refine z_iconst (v := 1) B0 dL_law_966 (by decide) ?_
    refine z_iadd (v := 1) B0 dL_law_967 (by decide) ?_
    refine y_sld (j := 1) (v := x1) B0 hX hbl (by decide) e1.symm dL_law_968 ?_
    refine z_aload_n B0 dL_law_969 rfl rfl ?_
    refine z_iload_n B0 dL_law_970 rfl rfl ?_
    refine z_iconst (v := 2) B0 dL_law_971 (by decide) ?_
    refine z_iadd (v := 2) B0 dL_law_972 (by decide) ?_
    refine y_sld (j := 2) (v := x2) B0 hX hbl (by decide) e2.symm dL_law_973 ?_
    refine z_aload_n B0 dL_law_974 rfl rfl ?_
    refine z_iload_n B0 dL_law_975 rfl rfl ?_
    refine z_iconst (v := 3) B0 dL_law_976 (by decide) ?_
    refine z_iadd (v := 3) B0 dL_law_977 (by decide) ?_
    refine y_sld (j := 3) (v := x3) B0 hX hbl (by decide) e3.symm dL_law_978 ?_
    refine z_aload_n B0 dL_law_979 rfl rfl ?_
    refine z_iload_n B0 dL_law_980 rfl rfl ?_
    refine z_iconst (v := 4) B0 dL_law_981 (by decide) ?_
    refine z_iadd (v := 4) B0 dL_law_982 (by decide) ?_
    refine y_sld (j := 4) (v := x4) B0 hX hbl (by decide) e4.symm dL_law_983 ?_
    refine z_callM B0 (z_runV (q0 := 0) (As := [.int x1, .int x2, .int x3, .int x4]) (st := [.int (-100)]) B0 (c_X12_gain_2 (a := a2) mS0 x1 x2 x3 x4 ⟨by omega, by omega⟩) cf_X12_gain (mw_0 cy a2 mS0) rfl wm_L_112 wi_X12_gain ws_X12_gain dL_law_984 rfl (Nat.le_of_ble_eq_true rfl) ⟨by decide, by decide, by decide, by decide⟩) (fun r2 u2 p2 => ?_)
    obtain ⟨rfl, -⟩ := p2
    refine z_icmp_eq_t (tgt := 1091) B0 dL_law_987 (by decide) rfl ?_
    exact fin u1 u2

set_option maxHeartbeats 8000000 in
set_option maxRecDepth 100000 in
theorem lo_stop {p : Program} {l : Launch} {e : Env} {s : State} {m : MethodId} {below : List Frame} {meth : Method} {c : Code} {D : va_G} {cy : Nat → ClassId} {tB tE b : Nat} {a a2 : Nat → Nat} {rw : Nat → Option Nat} {xs : Nat → Int32} (B0 : Bz p room_1 s m #[Value.ref b] meth c D cy s.heap.size tB tE (fun q => s.heap.size ≤ q) 4 cL_law RL meth.sig.returnType meth.name 2048 84000 600000 7302250) (hX : va_X b 6 xs s s.heap) (hbl : b < s.heap.size) (hrw : ∀ i, i < 6 → rw i = some (a (36 + 2 * i))) (w : Nat → Int64) (fin : ∀ S S9 : GS, Z p l e room_1 s m #[Value.ref b] below meth c D (fun q => s.heap.size ≤ q) 4 (lw_Z below #[Value.ref b] s) 200 60000 (cw cy tE a rw S ++ mw cy a2 S9) [(3, .int 0), (2, .ref (a2 0)), (1, .ref (a 0)), (0, .ref b)] 1091 []) : Z p l e room_1 s m #[Value.ref b] below meth c D (fun q => s.heap.size ≤ q) 4 (lw_Z below #[Value.ref b] s) 200 60000 (cw cy tE a rw (cS0 w) ++ mw cy a2 mS0) [(3, .int 0), (2, .ref (a2 0)), (1, .ref (a 0)), (0, .ref b)] 992 [] := by
  obtain ⟨x1, e1⟩ : ∃ x, x = xs 1 := ⟨_, rfl⟩
  obtain ⟨x2, e2⟩ : ∃ x, x = xs 2 := ⟨_, rfl⟩
  obtain ⟨x3, e3⟩ : ∃ x, x = xs 3 := ⟨_, rfl⟩
  refine z_aload_n B0 dL_law_992 rfl rfl ?_
  refine z_aload_n B0 dL_law_993 rfl rfl ?_
  refine z_iload_n B0 dL_law_994 rfl rfl ?_
  refine z_iconst (v := 1) B0 dL_law_995 (by decide) ?_
  refine z_iadd (v := 1) B0 dL_law_996 (by decide) ?_
  refine y_sld (j := 1) (v := x1) B0 hX hbl (by decide) e1.symm dL_law_997 ?_
  refine z_aload_n B0 dL_law_998 rfl rfl ?_
  refine z_iload_n B0 dL_law_999 rfl rfl ?_
  refine z_iconst (v := 2) B0 dL_law_1000 (by decide) ?_
  refine z_iadd (v := 2) B0 dL_law_1001 (by decide) ?_
  refine y_sld (j := 2) (v := x2) B0 hX hbl (by decide) e2.symm dL_law_1002 ?_
  refine z_aload_n B0 dL_law_1003 rfl rfl ?_
  refine z_iload_n B0 dL_law_1004 rfl rfl ?_
  refine z_iconst (v := 3) B0 dL_law_1005 (by decide) ?_
  refine z_iadd (v := 3) B0 dL_law_1006 (by decide) ?_
  refine y_sld (j := 3) (v := x3) B0 hX hbl (by decide) e3.symm dL_law_1007 ?_
  refine z_callC B0 (z_runV (q0 := 0) (As := [.int x1, .int x2, .int x3]) (st := []) B0 (c_X11_stop (a := a) (cS0 w) x1 x2 x3 rfl) cf_X11_stop (cw_0 cy tE a rw (cS0 w)) rfl wm_L_113 wi_X11_stop ws_X11_stop dL_law_1008 rfl (Nat.le_of_ble_eq_true rfl) ⟨by decide, by decide, by decide, by decide⟩) (fun r1 u1 p1 => ?_)
  obtain ⟨rfl, -⟩ := p1
  refine z_aload_n B0 dL_law_1011 rfl rfl ?_
  refine z_aload_n B0 dL_law_1012 rfl rfl ?_
  refine z_iload_n B0 dL_law_1013 rfl rfl ?_
  refine z_iconst (v := 1) B0 dL_law_1014 (by decide) ?_
  refine z_iadd (v := 1) B0 dL_law_1015 (by decide) ?_
  refine y_sld (j := 1) (v := x1) B0 hX hbl (by decide) e1.symm dL_law_1016 ?_
  refine z_aload_n B0 dL_law_1017 rfl rfl ?_
  refine z_iload_n B0 dL_law_1018 rfl rfl ?_
  refine z_iconst (v := 2) B0 dL_law_1019 (by decide) ?_
  refine z_iadd (v := 2) B0 dL_law_1020 (by decide) ?_
  refine y_sld (j := 2) (v := x2) B0 hX hbl (by decide) e2.symm dL_law_1021 ?_
  refine z_aload_n B0 dL_law_1022 rfl rfl ?_
  refine z_iload_n B0 dL_law_1023 rfl rfl ?_
  refine z_iconst (v := 3) B0 dL_law_1024 (by decide) ?_
  refine z_iadd (v := 3) B0 dL_law_1025 (by decide) ?_
  refine y_sld (j := 3) (v := x3) B0 hX hbl (by decide) e3.symm dL_law_1026 ?_
  refine z_callM B0 (z_runV (q0 := 0) (As := [.int x1, .int x2, .int x3]) (st := [.int (-1)]) B0 (c_X12_stop (a := a2) mS0 x1 x2 x3 rfl) cf_X12_stop (mw_0 cy a2 mS0) rfl wm_L_116 wi_X12_stop ws_X12_stop dL_law_1027 rfl (Nat.le_of_ble_eq_true rfl) ⟨by decide, by decide, by decide, by decide⟩) (fun r2 u2 p2 => ?_)
  obtain ⟨rfl, -⟩ := p2
  refine z_icmp_eq_t (tgt := 1091) B0 dL_law_1030 (by decide) rfl ?_
  exact fin u1 u2

set_option maxHeartbeats 8000000 in
set_option maxRecDepth 100000 in
theorem lo_past {p : Program} {l : Launch} {e : Env} {s : State} {m : MethodId} {below : List Frame} {meth : Method} {c : Code} {D : va_G} {cy : Nat → ClassId} {tB tE b : Nat} {a a2 : Nat → Nat} {rw : Nat → Option Nat} {xs : Nat → Int32} (B0 : Bz p room_1 s m #[Value.ref b] meth c D cy s.heap.size tB tE (fun q => s.heap.size ≤ q) 4 cL_law RL meth.sig.returnType meth.name 2048 84000 600000 7302250) (hX : va_X b 6 xs s s.heap) (hbl : b < s.heap.size) (hrw : ∀ i, i < 6 → rw i = some (a (36 + 2 * i))) (w : Nat → Int64) (fin : ∀ S S9 : GS, Z p l e room_1 s m #[Value.ref b] below meth c D (fun q => s.heap.size ≤ q) 4 (lw_Z below #[Value.ref b] s) 200 60000 (cw cy tE a rw S ++ mw cy a2 S9) [(3, .int 0), (2, .ref (a2 0)), (1, .ref (a 0)), (0, .ref b)] 1091 []) : Z p l e room_1 s m #[Value.ref b] below meth c D (fun q => s.heap.size ≤ q) 4 (lw_Z below #[Value.ref b] s) 200 60000 (cw cy tE a rw (cS0 w) ++ mw cy a2 mS0) [(3, .int 0), (2, .ref (a2 0)), (1, .ref (a 0)), (0, .ref b)] 1035 [] := by
  obtain ⟨x1, e1⟩ : ∃ x, x = xs 1 := ⟨_, rfl⟩
  rcases (show ((-2147483648) ≤ x1.toInt ∧ x1.toInt ≤ (-1)) ∨ (0 ≤ x1.toInt ∧ x1.toInt ≤ 767) ∨ (768 ≤ x1.toInt ∧ x1.toInt ≤ 2147483647) by have g1 := Int32.le_toInt x1; have g2 := Int32.toInt_lt x1; omega) with h1 | h1 | h1
  · refine z_aload_n B0 dL_law_1035 rfl rfl ?_
    refine z_aload_n B0 dL_law_1036 rfl rfl ?_
    refine z_iload_n B0 dL_law_1037 rfl rfl ?_
    refine z_iconst (v := 1) B0 dL_law_1038 (by decide) ?_
    refine z_iadd (v := 1) B0 dL_law_1039 (by decide) ?_
    refine y_sld (j := 1) (v := x1) B0 hX hbl (by decide) e1.symm dL_law_1040 ?_
    refine z_callC B0 (z_runV (q0 := 0) (As := [.int x1]) (st := []) B0 (c_X11_past (a := a) (cS0 w) x1 ⟨by omega, by omega⟩) cf_X11_past (cw_0 cy tE a rw (cS0 w)) rfl wm_L_117 wi_X11_past ws_X11_past dL_law_1041 rfl (Nat.le_of_ble_eq_true rfl) ⟨by decide, by decide, by decide, by decide⟩) (fun r1 u1 p1 => ?_)
    obtain ⟨rfl, -⟩ := p1
    refine z_aload_n B0 dL_law_1044 rfl rfl ?_
    refine z_aload_n B0 dL_law_1045 rfl rfl ?_
    refine z_iload_n B0 dL_law_1046 rfl rfl ?_
    refine z_iconst (v := 1) B0 dL_law_1047 (by decide) ?_
    refine z_iadd (v := 1) B0 dL_law_1048 (by decide) ?_
    refine y_sld (j := 1) (v := x1) B0 hX hbl (by decide) e1.symm dL_law_1049 ?_
    refine z_callM B0 (z_runV (q0 := 0) (As := [.int x1]) (st := [.int (-1)]) B0 (c_X12_past (a := a2) mS0 x1 ⟨by omega, by omega⟩) cf_X12_past (mw_0 cy a2 mS0) rfl wm_L_120 wi_X12_past ws_X12_past dL_law_1050 rfl (Nat.le_of_ble_eq_true rfl) ⟨by decide, by decide, by decide, by decide⟩) (fun r2 u2 p2 => ?_)
    obtain ⟨rfl, -⟩ := p2
    refine z_icmp_eq_t (tgt := 1091) B0 dL_law_1053 (by decide) rfl ?_
    exact fin u1 u2
  · refine z_aload_n B0 dL_law_1035 rfl rfl ?_
    refine z_aload_n B0 dL_law_1036 rfl rfl ?_
    refine z_iload_n B0 dL_law_1037 rfl rfl ?_
    refine z_iconst (v := 1) B0 dL_law_1038 (by decide) ?_
    refine z_iadd (v := 1) B0 dL_law_1039 (by decide) ?_
    refine y_sld (j := 1) (v := x1) B0 hX hbl (by decide) e1.symm dL_law_1040 ?_
    refine z_callC B0 (z_runV (q0 := 0) (As := [.int x1]) (st := []) B0 (c_X11_past_2 (a := a) (cS0 w) x1 rfl ⟨by omega, by omega⟩) cf_X11_past (cw_0 cy tE a rw (cS0 w)) rfl wm_L_117 wi_X11_past ws_X11_past dL_law_1041 rfl (Nat.le_of_ble_eq_true rfl) ⟨by decide, by decide, by decide, by decide⟩) (fun r1 u1 p1 => ?_)
    obtain ⟨rfl, -⟩ := p1
    refine z_aload_n B0 dL_law_1044 rfl rfl ?_
    refine z_aload_n B0 dL_law_1045 rfl rfl ?_
    refine z_iload_n B0 dL_law_1046 rfl rfl ?_
    refine z_iconst (v := 1) B0 dL_law_1047 (by decide) ?_
    refine z_iadd (v := 1) B0 dL_law_1048 (by decide) ?_
    refine y_sld (j := 1) (v := x1) B0 hX hbl (by decide) e1.symm dL_law_1049 ?_
    refine z_callM B0 (z_runV (q0 := 0) (As := [.int x1]) (st := [.int 1]) B0 (c_X12_past_2 (a := a2) mS0 x1 rfl ⟨by omega, by omega⟩) cf_X12_past (mw_0 cy a2 mS0) rfl wm_L_120 wi_X12_past ws_X12_past dL_law_1050 rfl (Nat.le_of_ble_eq_true rfl) ⟨by decide, by decide, by decide, by decide⟩) (fun r2 u2 p2 => ?_)
    obtain ⟨rfl, -⟩ := p2
    refine z_icmp_eq_t (tgt := 1091) B0 dL_law_1053 (by decide) rfl ?_
    exact fin u1 u2
  · refine z_aload_n B0 dL_law_1035 rfl rfl ?_
    refine z_aload_n B0 dL_law_1036 rfl rfl ?_
    refine z_iload_n B0 dL_law_1037 rfl rfl ?_
    refine z_iconst (v := 1) B0 dL_law_1038 (by decide) ?_
    refine z_iadd (v := 1) B0 dL_law_1039 (by decide) ?_
    refine y_sld (j := 1) (v := x1) B0 hX hbl (by decide) e1.symm dL_law_1040 ?_
    refine z_callC B0 (z_runV (q0 := 0) (As := [.int x1]) (st := []) B0 (c_X11_past_3 (a := a) (cS0 w) x1 ⟨by omega, by omega⟩) cf_X11_past (cw_0 cy tE a rw (cS0 w)) rfl wm_L_117 wi_X11_past ws_X11_past dL_law_1041 rfl (Nat.le_of_ble_eq_true rfl) ⟨by decide, by decide, by decide, by decide⟩) (fun r1 u1 p1 => ?_)
    obtain ⟨rfl, -⟩ := p1
    refine z_aload_n B0 dL_law_1044 rfl rfl ?_
    refine z_aload_n B0 dL_law_1045 rfl rfl ?_
    refine z_iload_n B0 dL_law_1046 rfl rfl ?_
    refine z_iconst (v := 1) B0 dL_law_1047 (by decide) ?_
    refine z_iadd (v := 1) B0 dL_law_1048 (by decide) ?_
    refine y_sld (j := 1) (v := x1) B0 hX hbl (by decide) e1.symm dL_law_1049 ?_
    refine z_callM B0 (z_runV (q0 := 0) (As := [.int x1]) (st := [.int (-1)]) B0 (c_X12_past_3 (a := a2) mS0 x1 ⟨by omega, by omega⟩) cf_X12_past (mw_0 cy a2 mS0) rfl wm_L_120 wi_X12_past ws_X12_past dL_law_1050 rfl (Nat.le_of_ble_eq_true rfl) ⟨by decide, by decide, by decide, by decide⟩) (fun r2 u2 p2 => ?_)
    obtain ⟨rfl, -⟩ := p2
    refine z_icmp_eq_t (tgt := 1091) B0 dL_law_1053 (by decide) rfl ?_
    exact fin u1 u2

set_option maxHeartbeats 8000000 in
set_option maxRecDepth 100000 in
theorem lo_through {p : Program} {l : Launch} {e : Env} {s : State} {m : MethodId} {below : List Frame} {meth : Method} {c : Code} {D : va_G} {cy : Nat → ClassId} {tB tE b : Nat} {a a2 : Nat → Nat} {rw : Nat → Option Nat} {xs : Nat → Int32} (B0 : Bz p room_1 s m #[Value.ref b] meth c D cy s.heap.size tB tE (fun q => s.heap.size ≤ q) 4 cL_law RL meth.sig.returnType meth.name 2048 84000 600000 7302250) (hX : va_X b 6 xs s s.heap) (hbl : b < s.heap.size) (hrw : ∀ i, i < 6 → rw i = some (a (36 + 2 * i))) (w : Nat → Int64) (fin : ∀ S S9 : GS, Z p l e room_1 s m #[Value.ref b] below meth c D (fun q => s.heap.size ≤ q) 4 (lw_Z below #[Value.ref b] s) 200 60000 (cw cy tE a rw S ++ mw cy a2 S9) [(3, .int 0), (2, .ref (a2 0)), (1, .ref (a 0)), (0, .ref b)] 1091 []) : Z p l e room_1 s m #[Value.ref b] below meth c D (fun q => s.heap.size ≤ q) 4 (lw_Z below #[Value.ref b] s) 200 60000 (cw cy tE a rw (cS0 w) ++ mw cy a2 mS0) [(3, .int 0), (2, .ref (a2 0)), (1, .ref (a 0)), (0, .ref b)] 1058 [] := by
  obtain ⟨x1, e1⟩ : ∃ x, x = xs 1 := ⟨_, rfl⟩
  obtain ⟨x2, e2⟩ : ∃ x, x = xs 2 := ⟨_, rfl⟩
  rcases (show ((-2147483648) ≤ x1.toInt ∧ x1.toInt ≤ (-1)) ∨ x1.toInt = 0 ∨ x1.toInt = 1 ∨ x1.toInt = 2 ∨ x1.toInt = 3 ∨ x1.toInt = 4 ∨ x1.toInt = 5 ∨ (6 ≤ x1.toInt ∧ x1.toInt ≤ 2147483647) by have g1 := Int32.le_toInt x1; have g2 := Int32.toInt_lt x1; omega) with h1 | h1 | h1 | h1 | h1 | h1 | h1 | h1
  · refine z_aload_n B0 dL_law_1058 rfl rfl ?_
    refine z_aload_n B0 dL_law_1059 rfl rfl ?_
    refine z_iload_n B0 dL_law_1060 rfl rfl ?_
    refine z_iconst (v := 1) B0 dL_law_1061 (by decide) ?_
    refine z_iadd (v := 1) B0 dL_law_1062 (by decide) ?_
    refine y_sld (j := 1) (v := x1) B0 hX hbl (by decide) e1.symm dL_law_1063 ?_
    refine z_aload_n B0 dL_law_1064 rfl rfl ?_
    refine z_iload_n B0 dL_law_1065 rfl rfl ?_
    refine z_iconst (v := 2) B0 dL_law_1066 (by decide) ?_
    refine z_iadd (v := 2) B0 dL_law_1067 (by decide) ?_
    refine y_sld (j := 2) (v := x2) B0 hX hbl (by decide) e2.symm dL_law_1068 ?_
    refine z_callC B0 (z_runV (q0 := 0) (As := [.int x1, .int x2]) (st := []) B0 (c_X11_through (a := a) (cS0 w) x1 x2 ⟨by omega, by omega⟩) cf_X11_through (cw_0 cy tE a rw (cS0 w)) rfl wm_L_121 wi_X11_through ws_X11_through dL_law_1069 rfl (Nat.le_of_ble_eq_true rfl) ⟨by decide, by decide, by decide, by decide⟩) (fun r1 u1 p1 => ?_)
    obtain ⟨rfl, -⟩ := p1
    refine z_aload_n B0 dL_law_1072 rfl rfl ?_
    refine z_aload_n B0 dL_law_1073 rfl rfl ?_
    refine z_iload_n B0 dL_law_1074 rfl rfl ?_
    refine z_iconst (v := 1) B0 dL_law_1075 (by decide) ?_
    refine z_iadd (v := 1) B0 dL_law_1076 (by decide) ?_
    refine y_sld (j := 1) (v := x1) B0 hX hbl (by decide) e1.symm dL_law_1077 ?_
    refine z_aload_n B0 dL_law_1078 rfl rfl ?_
    refine z_iload_n B0 dL_law_1079 rfl rfl ?_
    refine z_iconst (v := 2) B0 dL_law_1080 (by decide) ?_
    refine z_iadd (v := 2) B0 dL_law_1081 (by decide) ?_
    refine y_sld (j := 2) (v := x2) B0 hX hbl (by decide) e2.symm dL_law_1082 ?_
    refine z_callM B0 (z_runV (q0 := 0) (As := [.int x1, .int x2]) (st := [.int (-1)]) B0 (c_X12_through (a := a2) mS0 x1 x2 ⟨by omega, by omega⟩) cf_X12_through (mw_0 cy a2 mS0) rfl wm_L_124 wi_X12_through ws_X12_through dL_law_1083 rfl (Nat.le_of_ble_eq_true rfl) ⟨by decide, by decide, by decide, by decide⟩) (fun r2 u2 p2 => ?_)
    obtain ⟨rfl, -⟩ := p2
    refine z_icmp_eq_t (tgt := 1091) B0 dL_law_1086 (by decide) rfl ?_
    exact fin u1 u2
  · obtain rfl : x1 = 0 := Int32.toInt_inj.mp (h1.trans (by decide))
    refine z_aload_n B0 dL_law_1058 rfl rfl ?_
    refine z_aload_n B0 dL_law_1059 rfl rfl ?_
    refine z_iload_n B0 dL_law_1060 rfl rfl ?_
    refine z_iconst (v := 1) B0 dL_law_1061 (by decide) ?_
    refine z_iadd (v := 1) B0 dL_law_1062 (by decide) ?_
    refine y_sld (j := 1) (v := 0) B0 hX hbl (by decide) e1.symm dL_law_1063 ?_
    refine z_aload_n B0 dL_law_1064 rfl rfl ?_
    refine z_iload_n B0 dL_law_1065 rfl rfl ?_
    refine z_iconst (v := 2) B0 dL_law_1066 (by decide) ?_
    refine z_iadd (v := 2) B0 dL_law_1067 (by decide) ?_
    refine y_sld (j := 2) (v := x2) B0 hX hbl (by decide) e2.symm dL_law_1068 ?_
    refine z_callC B0 (z_runV (q0 := 0) (As := [.int 0, .int x2]) (st := []) B0 (c_X11_through_3 (a := a) (cS0 w) x2 rfl hrw) cf_X11_through (cw_0 cy tE a rw (cS0 w)) rfl wm_L_121 wi_X11_through ws_X11_through dL_law_1069 rfl (Nat.le_of_ble_eq_true rfl) ⟨by decide, by decide, by decide, by decide⟩) (fun r1 u1 p1 => ?_)
    obtain ⟨rfl, -⟩ := p1
    refine z_aload_n B0 dL_law_1072 rfl rfl ?_
    refine z_aload_n B0 dL_law_1073 rfl rfl ?_
    refine z_iload_n B0 dL_law_1074 rfl rfl ?_
    refine z_iconst (v := 1) B0 dL_law_1075 (by decide) ?_
    refine z_iadd (v := 1) B0 dL_law_1076 (by decide) ?_
    refine y_sld (j := 1) (v := 0) B0 hX hbl (by decide) e1.symm dL_law_1077 ?_
    refine z_aload_n B0 dL_law_1078 rfl rfl ?_
    refine z_iload_n B0 dL_law_1079 rfl rfl ?_
    refine z_iconst (v := 2) B0 dL_law_1080 (by decide) ?_
    refine z_iadd (v := 2) B0 dL_law_1081 (by decide) ?_
    refine y_sld (j := 2) (v := x2) B0 hX hbl (by decide) e2.symm dL_law_1082 ?_
    refine z_callM B0 (z_runV (q0 := 0) (As := [.int 0, .int x2]) (st := [.int (-1)]) B0 (c_X12_through_3 (a := a2) mS0 x2 rfl) cf_X12_through (mw_0 cy a2 mS0) rfl wm_L_124 wi_X12_through ws_X12_through dL_law_1083 rfl (Nat.le_of_ble_eq_true rfl) ⟨by decide, by decide, by decide, by decide⟩) (fun r2 u2 p2 => ?_)
    obtain ⟨rfl, -⟩ := p2
    refine z_icmp_eq_t (tgt := 1091) B0 dL_law_1086 (by decide) rfl ?_
    exact fin u1 u2
  · obtain rfl : x1 = 1 := Int32.toInt_inj.mp (h1.trans (by decide))
    refine z_aload_n B0 dL_law_1058 rfl rfl ?_
    refine z_aload_n B0 dL_law_1059 rfl rfl ?_
    refine z_iload_n B0 dL_law_1060 rfl rfl ?_
    refine z_iconst (v := 1) B0 dL_law_1061 (by decide) ?_
    refine z_iadd (v := 1) B0 dL_law_1062 (by decide) ?_
    refine y_sld (j := 1) (v := 1) B0 hX hbl (by decide) e1.symm dL_law_1063 ?_
    refine z_aload_n B0 dL_law_1064 rfl rfl ?_
    refine z_iload_n B0 dL_law_1065 rfl rfl ?_
    refine z_iconst (v := 2) B0 dL_law_1066 (by decide) ?_
    refine z_iadd (v := 2) B0 dL_law_1067 (by decide) ?_
    refine y_sld (j := 2) (v := x2) B0 hX hbl (by decide) e2.symm dL_law_1068 ?_
    refine z_callC B0 (z_runV (q0 := 0) (As := [.int 1, .int x2]) (st := []) B0 (c_X11_through_4 (a := a) (cS0 w) x2 rfl hrw) cf_X11_through (cw_0 cy tE a rw (cS0 w)) rfl wm_L_121 wi_X11_through ws_X11_through dL_law_1069 rfl (Nat.le_of_ble_eq_true rfl) ⟨by decide, by decide, by decide, by decide⟩) (fun r1 u1 p1 => ?_)
    obtain ⟨rfl, -⟩ := p1
    refine z_aload_n B0 dL_law_1072 rfl rfl ?_
    refine z_aload_n B0 dL_law_1073 rfl rfl ?_
    refine z_iload_n B0 dL_law_1074 rfl rfl ?_
    refine z_iconst (v := 1) B0 dL_law_1075 (by decide) ?_
    refine z_iadd (v := 1) B0 dL_law_1076 (by decide) ?_
    refine y_sld (j := 1) (v := 1) B0 hX hbl (by decide) e1.symm dL_law_1077 ?_
    refine z_aload_n B0 dL_law_1078 rfl rfl ?_
    refine z_iload_n B0 dL_law_1079 rfl rfl ?_
    refine z_iconst (v := 2) B0 dL_law_1080 (by decide) ?_
    refine z_iadd (v := 2) B0 dL_law_1081 (by decide) ?_
    refine y_sld (j := 2) (v := x2) B0 hX hbl (by decide) e2.symm dL_law_1082 ?_
    refine z_callM B0 (z_runV (q0 := 0) (As := [.int 1, .int x2]) (st := [.int (-1)]) B0 (c_X12_through_4 (a := a2) mS0 x2 rfl) cf_X12_through (mw_0 cy a2 mS0) rfl wm_L_124 wi_X12_through ws_X12_through dL_law_1083 rfl (Nat.le_of_ble_eq_true rfl) ⟨by decide, by decide, by decide, by decide⟩) (fun r2 u2 p2 => ?_)
    obtain ⟨rfl, -⟩ := p2
    refine z_icmp_eq_t (tgt := 1091) B0 dL_law_1086 (by decide) rfl ?_
    exact fin u1 u2
  · obtain rfl : x1 = 2 := Int32.toInt_inj.mp (h1.trans (by decide))
    refine z_aload_n B0 dL_law_1058 rfl rfl ?_
    refine z_aload_n B0 dL_law_1059 rfl rfl ?_
    refine z_iload_n B0 dL_law_1060 rfl rfl ?_
    refine z_iconst (v := 1) B0 dL_law_1061 (by decide) ?_
    refine z_iadd (v := 1) B0 dL_law_1062 (by decide) ?_
    refine y_sld (j := 1) (v := 2) B0 hX hbl (by decide) e1.symm dL_law_1063 ?_
    refine z_aload_n B0 dL_law_1064 rfl rfl ?_
    refine z_iload_n B0 dL_law_1065 rfl rfl ?_
    refine z_iconst (v := 2) B0 dL_law_1066 (by decide) ?_
    refine z_iadd (v := 2) B0 dL_law_1067 (by decide) ?_
    refine y_sld (j := 2) (v := x2) B0 hX hbl (by decide) e2.symm dL_law_1068 ?_
    refine z_callC B0 (z_runV (q0 := 0) (As := [.int 2, .int x2]) (st := []) B0 (c_X11_through_5 (a := a) (cS0 w) x2 rfl hrw) cf_X11_through (cw_0 cy tE a rw (cS0 w)) rfl wm_L_121 wi_X11_through ws_X11_through dL_law_1069 rfl (Nat.le_of_ble_eq_true rfl) ⟨by decide, by decide, by decide, by decide⟩) (fun r1 u1 p1 => ?_)
    obtain ⟨rfl, -⟩ := p1
    refine z_aload_n B0 dL_law_1072 rfl rfl ?_
    refine z_aload_n B0 dL_law_1073 rfl rfl ?_
    refine z_iload_n B0 dL_law_1074 rfl rfl ?_
    refine z_iconst (v := 1) B0 dL_law_1075 (by decide) ?_
    refine z_iadd (v := 1) B0 dL_law_1076 (by decide) ?_
    refine y_sld (j := 1) (v := 2) B0 hX hbl (by decide) e1.symm dL_law_1077 ?_
    refine z_aload_n B0 dL_law_1078 rfl rfl ?_
    refine z_iload_n B0 dL_law_1079 rfl rfl ?_
    refine z_iconst (v := 2) B0 dL_law_1080 (by decide) ?_
    refine z_iadd (v := 2) B0 dL_law_1081 (by decide) ?_
    refine y_sld (j := 2) (v := x2) B0 hX hbl (by decide) e2.symm dL_law_1082 ?_
    refine z_callM B0 (z_runV (q0 := 0) (As := [.int 2, .int x2]) (st := [.int (-1)]) B0 (c_X12_through_5 (a := a2) mS0 x2 rfl) cf_X12_through (mw_0 cy a2 mS0) rfl wm_L_124 wi_X12_through ws_X12_through dL_law_1083 rfl (Nat.le_of_ble_eq_true rfl) ⟨by decide, by decide, by decide, by decide⟩) (fun r2 u2 p2 => ?_)
    obtain ⟨rfl, -⟩ := p2
    refine z_icmp_eq_t (tgt := 1091) B0 dL_law_1086 (by decide) rfl ?_
    exact fin u1 u2
  · obtain rfl : x1 = 3 := Int32.toInt_inj.mp (h1.trans (by decide))
    refine z_aload_n B0 dL_law_1058 rfl rfl ?_
    refine z_aload_n B0 dL_law_1059 rfl rfl ?_
    refine z_iload_n B0 dL_law_1060 rfl rfl ?_
    refine z_iconst (v := 1) B0 dL_law_1061 (by decide) ?_
    refine z_iadd (v := 1) B0 dL_law_1062 (by decide) ?_
    refine y_sld (j := 1) (v := 3) B0 hX hbl (by decide) e1.symm dL_law_1063 ?_
    refine z_aload_n B0 dL_law_1064 rfl rfl ?_
    refine z_iload_n B0 dL_law_1065 rfl rfl ?_
    refine z_iconst (v := 2) B0 dL_law_1066 (by decide) ?_
    refine z_iadd (v := 2) B0 dL_law_1067 (by decide) ?_
    refine y_sld (j := 2) (v := x2) B0 hX hbl (by decide) e2.symm dL_law_1068 ?_
    refine z_callC B0 (z_runV (q0 := 0) (As := [.int 3, .int x2]) (st := []) B0 (c_X11_through_6 (a := a) (cS0 w) x2 rfl hrw) cf_X11_through (cw_0 cy tE a rw (cS0 w)) rfl wm_L_121 wi_X11_through ws_X11_through dL_law_1069 rfl (Nat.le_of_ble_eq_true rfl) ⟨by decide, by decide, by decide, by decide⟩) (fun r1 u1 p1 => ?_)
    obtain ⟨rfl, -⟩ := p1
    refine z_aload_n B0 dL_law_1072 rfl rfl ?_
    refine z_aload_n B0 dL_law_1073 rfl rfl ?_
    refine z_iload_n B0 dL_law_1074 rfl rfl ?_
    refine z_iconst (v := 1) B0 dL_law_1075 (by decide) ?_
    refine z_iadd (v := 1) B0 dL_law_1076 (by decide) ?_
    refine y_sld (j := 1) (v := 3) B0 hX hbl (by decide) e1.symm dL_law_1077 ?_
    refine z_aload_n B0 dL_law_1078 rfl rfl ?_
    refine z_iload_n B0 dL_law_1079 rfl rfl ?_
    refine z_iconst (v := 2) B0 dL_law_1080 (by decide) ?_
    refine z_iadd (v := 2) B0 dL_law_1081 (by decide) ?_
    refine y_sld (j := 2) (v := x2) B0 hX hbl (by decide) e2.symm dL_law_1082 ?_
    refine z_callM B0 (z_runV (q0 := 0) (As := [.int 3, .int x2]) (st := [.int (-1)]) B0 (c_X12_through_6 (a := a2) mS0 x2 rfl) cf_X12_through (mw_0 cy a2 mS0) rfl wm_L_124 wi_X12_through ws_X12_through dL_law_1083 rfl (Nat.le_of_ble_eq_true rfl) ⟨by decide, by decide, by decide, by decide⟩) (fun r2 u2 p2 => ?_)
    obtain ⟨rfl, -⟩ := p2
    refine z_icmp_eq_t (tgt := 1091) B0 dL_law_1086 (by decide) rfl ?_
    exact fin u1 u2
  · obtain rfl : x1 = 4 := Int32.toInt_inj.mp (h1.trans (by decide))
    refine z_aload_n B0 dL_law_1058 rfl rfl ?_
    refine z_aload_n B0 dL_law_1059 rfl rfl ?_
    refine z_iload_n B0 dL_law_1060 rfl rfl ?_
    refine z_iconst (v := 1) B0 dL_law_1061 (by decide) ?_
    refine z_iadd (v := 1) B0 dL_law_1062 (by decide) ?_
    refine y_sld (j := 1) (v := 4) B0 hX hbl (by decide) e1.symm dL_law_1063 ?_
    refine z_aload_n B0 dL_law_1064 rfl rfl ?_
    refine z_iload_n B0 dL_law_1065 rfl rfl ?_
    refine z_iconst (v := 2) B0 dL_law_1066 (by decide) ?_
    refine z_iadd (v := 2) B0 dL_law_1067 (by decide) ?_
    refine y_sld (j := 2) (v := x2) B0 hX hbl (by decide) e2.symm dL_law_1068 ?_
    refine z_callC B0 (z_runV (q0 := 0) (As := [.int 4, .int x2]) (st := []) B0 (c_X11_through_7 (a := a) (cS0 w) x2 rfl hrw) cf_X11_through (cw_0 cy tE a rw (cS0 w)) rfl wm_L_121 wi_X11_through ws_X11_through dL_law_1069 rfl (Nat.le_of_ble_eq_true rfl) ⟨by decide, by decide, by decide, by decide⟩) (fun r1 u1 p1 => ?_)
    obtain ⟨rfl, -⟩ := p1
    refine z_aload_n B0 dL_law_1072 rfl rfl ?_
    refine z_aload_n B0 dL_law_1073 rfl rfl ?_
    refine z_iload_n B0 dL_law_1074 rfl rfl ?_
    refine z_iconst (v := 1) B0 dL_law_1075 (by decide) ?_
    refine z_iadd (v := 1) B0 dL_law_1076 (by decide) ?_
    refine y_sld (j := 1) (v := 4) B0 hX hbl (by decide) e1.symm dL_law_1077 ?_
    refine z_aload_n B0 dL_law_1078 rfl rfl ?_
    refine z_iload_n B0 dL_law_1079 rfl rfl ?_
    refine z_iconst (v := 2) B0 dL_law_1080 (by decide) ?_
    refine z_iadd (v := 2) B0 dL_law_1081 (by decide) ?_
    refine y_sld (j := 2) (v := x2) B0 hX hbl (by decide) e2.symm dL_law_1082 ?_
    refine z_callM B0 (z_runV (q0 := 0) (As := [.int 4, .int x2]) (st := [.int (-1)]) B0 (c_X12_through_7 (a := a2) mS0 x2 rfl) cf_X12_through (mw_0 cy a2 mS0) rfl wm_L_124 wi_X12_through ws_X12_through dL_law_1083 rfl (Nat.le_of_ble_eq_true rfl) ⟨by decide, by decide, by decide, by decide⟩) (fun r2 u2 p2 => ?_)
    obtain ⟨rfl, -⟩ := p2
    refine z_icmp_eq_t (tgt := 1091) B0 dL_law_1086 (by decide) rfl ?_
    exact fin u1 u2
  · obtain rfl : x1 = 5 := Int32.toInt_inj.mp (h1.trans (by decide))
    refine z_aload_n B0 dL_law_1058 rfl rfl ?_
    refine z_aload_n B0 dL_law_1059 rfl rfl ?_
    refine z_iload_n B0 dL_law_1060 rfl rfl ?_
    refine z_iconst (v := 1) B0 dL_law_1061 (by decide) ?_
    refine z_iadd (v := 1) B0 dL_law_1062 (by decide) ?_
    refine y_sld (j := 1) (v := 5) B0 hX hbl (by decide) e1.symm dL_law_1063 ?_
    refine z_aload_n B0 dL_law_1064 rfl rfl ?_
    refine z_iload_n B0 dL_law_1065 rfl rfl ?_
    refine z_iconst (v := 2) B0 dL_law_1066 (by decide) ?_
    refine z_iadd (v := 2) B0 dL_law_1067 (by decide) ?_
    refine y_sld (j := 2) (v := x2) B0 hX hbl (by decide) e2.symm dL_law_1068 ?_
    refine z_callC B0 (z_runV (q0 := 0) (As := [.int 5, .int x2]) (st := []) B0 (c_X11_through_8 (a := a) (cS0 w) x2 rfl hrw) cf_X11_through (cw_0 cy tE a rw (cS0 w)) rfl wm_L_121 wi_X11_through ws_X11_through dL_law_1069 rfl (Nat.le_of_ble_eq_true rfl) ⟨by decide, by decide, by decide, by decide⟩) (fun r1 u1 p1 => ?_)
    obtain ⟨rfl, -⟩ := p1
    refine z_aload_n B0 dL_law_1072 rfl rfl ?_
    refine z_aload_n B0 dL_law_1073 rfl rfl ?_
    refine z_iload_n B0 dL_law_1074 rfl rfl ?_
    refine z_iconst (v := 1) B0 dL_law_1075 (by decide) ?_
    refine z_iadd (v := 1) B0 dL_law_1076 (by decide) ?_
    refine y_sld (j := 1) (v := 5) B0 hX hbl (by decide) e1.symm dL_law_1077 ?_
    refine z_aload_n B0 dL_law_1078 rfl rfl ?_
    refine z_iload_n B0 dL_law_1079 rfl rfl ?_
    refine z_iconst (v := 2) B0 dL_law_1080 (by decide) ?_
    refine z_iadd (v := 2) B0 dL_law_1081 (by decide) ?_
    refine y_sld (j := 2) (v := x2) B0 hX hbl (by decide) e2.symm dL_law_1082 ?_
    refine z_callM B0 (z_runV (q0 := 0) (As := [.int 5, .int x2]) (st := [.int (-1)]) B0 (c_X12_through_8 (a := a2) mS0 x2 rfl) cf_X12_through (mw_0 cy a2 mS0) rfl wm_L_124 wi_X12_through ws_X12_through dL_law_1083 rfl (Nat.le_of_ble_eq_true rfl) ⟨by decide, by decide, by decide, by decide⟩) (fun r2 u2 p2 => ?_)
    obtain ⟨rfl, -⟩ := p2
    refine z_icmp_eq_t (tgt := 1091) B0 dL_law_1086 (by decide) rfl ?_
    exact fin u1 u2
  · refine z_aload_n B0 dL_law_1058 rfl rfl ?_
    refine z_aload_n B0 dL_law_1059 rfl rfl ?_
    refine z_iload_n B0 dL_law_1060 rfl rfl ?_
    refine z_iconst (v := 1) B0 dL_law_1061 (by decide) ?_
    refine z_iadd (v := 1) B0 dL_law_1062 (by decide) ?_
    refine y_sld (j := 1) (v := x1) B0 hX hbl (by decide) e1.symm dL_law_1063 ?_
    refine z_aload_n B0 dL_law_1064 rfl rfl ?_
    refine z_iload_n B0 dL_law_1065 rfl rfl ?_
    refine z_iconst (v := 2) B0 dL_law_1066 (by decide) ?_
    refine z_iadd (v := 2) B0 dL_law_1067 (by decide) ?_
    refine y_sld (j := 2) (v := x2) B0 hX hbl (by decide) e2.symm dL_law_1068 ?_
    refine z_callC B0 (z_runV (q0 := 0) (As := [.int x1, .int x2]) (st := []) B0 (c_X11_through_2 (a := a) (cS0 w) x1 x2 ⟨by omega, by omega⟩) cf_X11_through (cw_0 cy tE a rw (cS0 w)) rfl wm_L_121 wi_X11_through ws_X11_through dL_law_1069 rfl (Nat.le_of_ble_eq_true rfl) ⟨by decide, by decide, by decide, by decide⟩) (fun r1 u1 p1 => ?_)
    obtain ⟨rfl, -⟩ := p1
    refine z_aload_n B0 dL_law_1072 rfl rfl ?_
    refine z_aload_n B0 dL_law_1073 rfl rfl ?_
    refine z_iload_n B0 dL_law_1074 rfl rfl ?_
    refine z_iconst (v := 1) B0 dL_law_1075 (by decide) ?_
    refine z_iadd (v := 1) B0 dL_law_1076 (by decide) ?_
    refine y_sld (j := 1) (v := x1) B0 hX hbl (by decide) e1.symm dL_law_1077 ?_
    refine z_aload_n B0 dL_law_1078 rfl rfl ?_
    refine z_iload_n B0 dL_law_1079 rfl rfl ?_
    refine z_iconst (v := 2) B0 dL_law_1080 (by decide) ?_
    refine z_iadd (v := 2) B0 dL_law_1081 (by decide) ?_
    refine y_sld (j := 2) (v := x2) B0 hX hbl (by decide) e2.symm dL_law_1082 ?_
    refine z_callM B0 (z_runV (q0 := 0) (As := [.int x1, .int x2]) (st := [.int (-1)]) B0 (c_X12_through_2 (a := a2) mS0 x1 x2 ⟨by omega, by omega⟩) cf_X12_through (mw_0 cy a2 mS0) rfl wm_L_124 wi_X12_through ws_X12_through dL_law_1083 rfl (Nat.le_of_ble_eq_true rfl) ⟨by decide, by decide, by decide, by decide⟩) (fun r2 u2 p2 => ?_)
    obtain ⟨rfl, -⟩ := p2
    refine z_icmp_eq_t (tgt := 1091) B0 dL_law_1086 (by decide) rfl ?_
    exact fin u1 u2

