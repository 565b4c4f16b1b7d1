theorem wm_L_87 : Cond.methodLink RL 87 yX11_after ∈ gT := gT_of 988 (by decide +kernel) (by decide +kernel)
theorem cf_X11_after : Cf yX11_after cX11_after 3 (some .int) 2 := ⟨gT_of 991 (by decide +kernel) (by decide +kernel), gT_of 84 (by decide +kernel) (by decide +kernel), by decide +kernel, by decide +kernel, by decide +kernel⟩
theorem wi_X11_after : Cond.instanceMethod yX11_after ∈ gT := gT_of 989 (by decide +kernel) (by decide +kernel)
theorem ws_X11_after : Cond.selects yX11_after.cls yX11_after yX11_after ∈ gT := gT_of 990 (by decide +kernel) (by decide +kernel)
theorem wm_L_90 : Cond.methodLink RL 90 yX12_after ∈ gT := gT_of 1722 (by decide +kernel) (by decide +kernel)
theorem cf_X12_after : Cf yX12_after cX12_after 4 (some .int) 2 := ⟨gT_of 1725 (by decide +kernel) (by decide +kernel), gT_of 101 (by decide +kernel) (by decide +kernel), by decide +kernel, by decide +kernel, by decide +kernel⟩
theorem wi_X12_after : Cond.instanceMethod yX12_after ∈ gT := gT_of 1723 (by decide +kernel) (by decide +kernel)
theorem ws_X12_after : Cond.selects yX12_after.cls yX12_after yX12_after ∈ gT := gT_of 1724 (by decide +kernel) (by decide +kernel)
set_option maxHeartbeats 8000000 in
set_option maxRecDepth 100000 in
theorem lo_after_0 {p : Program} {l : Launch} {e : Env} {s : State} {m : MethodId} {below : List Frame} {meth : Method} {c : Code} {D : va_G} {cy : Nat → ClassId} {tB tE b : Nat} {a a2 : Nat → Nat} {rw : Nat → Option Nat} {xs : Nat → Int32} (B0 : Bz p room_1 s m #[Value.ref b] meth c D cy s.heap.size tB tE (fun q => s.heap.size ≤ q) 4 cL_law RL meth.sig.returnType meth.name 2048 84000 600000 7302250) (hX : va_X b 6 xs s s.heap) (hbl : b < s.heap.size) (hrw : ∀ i, i < 6 → rw i = some (a (36 + 2 * i))) (w : Nat → Int64) (fin : ∀ S S9 : GS, Z p l e room_1 s m #[Value.ref b] below meth c D (fun q => s.heap.size ≤ q) 4 (lw_Z below #[Value.ref b] s) 200 60000 (cw cy tE a rw S ++ mw cy a2 S9) [(3, .int 0), (2, .ref (a2 0)), (1, .ref (a 0)), (0, .ref b)] 1091 []) (e1 : 0 = xs 1) : Z p l e room_1 s m #[Value.ref b] below meth c D (fun q => s.heap.size ≤ q) 4 (lw_Z below #[Value.ref b] s) 200 60000 (cw cy tE a rw (cS0 w) ++ mw cy a2 mS0) [(3, .int 0), (2, .ref (a2 0)), (1, .ref (a 0)), (0, .ref b)] 708 [] := by
  obtain ⟨x2, e2⟩ : ∃ x, x = xs 2 := ⟨_, rfl⟩
  rcases (show ((-2147483648) ≤ x2.toInt ∧ x2.toInt ≤ (-2147483609)) ∨ ((-2147483608) ≤ x2.toInt ∧ x2.toInt ≤ (-1)) ∨ x2.toInt = 0 ∨ x2.toInt = 1 ∨ x2.toInt = 2 ∨ x2.toInt = 3 ∨ x2.toInt = 4 ∨ x2.toInt = 5 ∨ x2.toInt = 6 ∨ x2.toInt = 7 ∨ x2.toInt = 8 ∨ x2.toInt = 9 ∨ x2.toInt = 10 ∨ x2.toInt = 11 ∨ x2.toInt = 12 ∨ x2.toInt = 13 ∨ x2.toInt = 14 ∨ x2.toInt = 15 ∨ x2.toInt = 16 ∨ x2.toInt = 17 ∨ x2.toInt = 18 ∨ x2.toInt = 19 ∨ x2.toInt = 20 ∨ x2.toInt = 21 ∨ x2.toInt = 22 ∨ x2.toInt = 23 ∨ x2.toInt = 24 ∨ x2.toInt = 25 ∨ x2.toInt = 26 ∨ x2.toInt = 27 ∨ x2.toInt = 28 ∨ x2.toInt = 29 ∨ x2.toInt = 30 ∨ x2.toInt = 31 ∨ x2.toInt = 32 ∨ x2.toInt = 33 ∨ x2.toInt = 34 ∨ x2.toInt = 35 ∨ x2.toInt = 36 ∨ x2.toInt = 37 ∨ x2.toInt = 38 ∨ x2.toInt = 39 ∨ x2.toInt = 40 ∨ x2.toInt = 41 ∨ x2.toInt = 42 ∨ x2.toInt = 43 ∨ x2.toInt = 44 ∨ x2.toInt = 45 ∨ x2.toInt = 46 ∨ x2.toInt = 47 ∨ x2.toInt = 48 ∨ x2.toInt = 49 ∨ x2.toInt = 50 ∨ (51 ≤ x2.toInt ∧ x2.toInt ≤ 2147483647) by have g1 := Int32.le_toInt x2; have g2 := Int32.toInt_lt x2; omega) with h2 | h2 | h2 | h2 | h2 | h2 | h2 | h2 | h2 | h2 | h2 | h2 | h2 | h2 | h2 | h2 | h2 | h2 | h2 | h2 | h2 | h2 | h2 | h2 | h2 | h2 | h2 | h2 | h2 | h2 | h2 | h2 | h2 | h2 | h2 | h2 | h2 | h2 | h2 | h2 | h2 | h2 | h2 | h2 | h2 | h2 | h2 | h2 | h2 | h2 | h2 | h2 | h2 | h2
  · refine z_aload_n B0 dL_law_708 rfl rfl ?_
    refine z_aload_n B0 dL_law_709 rfl rfl ?_
    refine z_iload_n B0 dL_law_710 rfl rfl ?_
    refine z_iconst (v := 1) B0 dL_law_711 (by decide) ?_
    refine z_iadd (v := 1) B0 dL_law_712 (by decide) ?_
    refine y_sld (j := 1) (v := 0) B0 hX hbl (by decide) e1.symm dL_law_713 ?_
    refine z_aload_n B0 dL_law_714 rfl rfl ?_
    refine z_iload_n B0 dL_law_715 rfl rfl ?_
    refine z_iconst (v := 2) B0 dL_law_716 (by decide) ?_
    refine z_iadd (v := 2) B0 dL_law_717 (by decide) ?_
    refine y_sld (j := 2) (v := x2) B0 hX hbl (by decide) e2.symm dL_law_718 ?_
    refine z_callC B0 (z_runV (q0 := 0) (As := [.int 0, .int x2]) (st := []) B0 (c_X11_after_3 (a := a) (cS0 w) x2 ⟨by omega, by omega⟩) cf_X11_after (cw_0 cy tE a rw (cS0 w)) rfl wm_L_87 wi_X11_after ws_X11_after dL_law_719 rfl (Nat.le_of_ble_eq_true rfl) ⟨by decide, by decide, by decide, by decide⟩) (fun r1 u1 p1 => ?_)
    obtain ⟨rfl, -⟩ := p1
    refine z_aload_n B0 dL_law_722 rfl rfl ?_
    refine z_aload_n B0 dL_law_723 rfl rfl ?_
    refine z_iload_n B0 dL_law_724 rfl rfl ?_
    refine z_iconst (v := 1) B0 dL_law_725 (by decide) ?_
    refine z_iadd (v := 1) B0 dL_law_726 (by decide) ?_
    refine y_sld (j := 1) (v := 0) B0 hX hbl (by decide) e1.symm dL_law_727 ?_
    refine z_aload_n B0 dL_law_728 rfl rfl ?_
    refine z_iload_n B0 dL_law_729 rfl rfl ?_
    refine z_iconst (v := 2) B0 dL_law_730 (by decide) ?_
    refine z_iadd (v := 2) B0 dL_law_731 (by decide) ?_
    refine y_sld (j := 2) (v := x2) B0 hX hbl (by decide) e2.symm dL_law_732 ?_
    refine z_callM B0 (z_runV (q0 := 0) (As := [.int 0, .int x2]) (st := [.int (-1)]) B0 (c_X12_after_3 (a := a2) mS0 x2 rfl rfl rfl rfl rfl rfl rfl rfl rfl rfl rfl rfl rfl rfl rfl rfl rfl rfl rfl rfl rfl rfl rfl rfl rfl rfl rfl ⟨by omega, by omega⟩) cf_X12_after (mw_0 cy a2 mS0) rfl wm_L_90 wi_X12_after ws_X12_after dL_law_733 rfl (Nat.le_of_ble_eq_true rfl) ⟨by decide, by decide, by decide, by decide⟩) (fun r2 u2 p2 => ?_)
    obtain ⟨rfl, -⟩ := p2
    refine z_icmp_eq_t (tgt := 1091) B0 dL_law_736 (by decide) rfl ?_
    exact fin u1 u2
  · refine z_aload_n B0 dL_law_708 rfl rfl ?_
    refine z_aload_n B0 dL_law_709 rfl rfl ?_
    refine z_iload_n B0 dL_law_710 rfl rfl ?_
    refine z_iconst (v := 1) B0 dL_law_711 (by decide) ?_
    refine z_iadd (v := 1) B0 dL_law_712 (by decide) ?_
    refine y_sld (j := 1) (v := 0) B0 hX hbl (by decide) e1.symm dL_law_713 ?_
    refine z_aload_n B0 dL_law_714 rfl rfl ?_
    refine z_iload_n B0 dL_law_715 rfl rfl ?_
    refine z_iconst (v := 2) B0 dL_law_716 (by decide) ?_
    refine z_iadd (v := 2) B0 dL_law_717 (by decide) ?_
    refine y_sld (j := 2) (v := x2) B0 hX hbl (by decide) e2.symm dL_law_718 ?_
    refine z_callC B0 (z_runV (q0 := 0) (As := [.int 0, .int x2]) (st := []) B0 (c_X11_after_4 (a := a) (cS0 w) x2 ⟨by omega, by omega⟩) cf_X11_after (cw_0 cy tE a rw (cS0 w)) rfl wm_L_87 wi_X11_after ws_X11_after dL_law_719 rfl (Nat.le_of_ble_eq_true rfl) ⟨by decide, by decide, by decide, by decide⟩) (fun r1 u1 p1 => ?_)
    obtain ⟨rfl, -⟩ := p1
    refine z_aload_n B0 dL_law_722 rfl rfl ?_
    refine z_aload_n B0 dL_law_723 rfl rfl ?_
    refine z_iload_n B0 dL_law_724 rfl rfl ?_
    refine z_iconst (v := 1) B0 dL_law_725 (by decide) ?_
    refine z_iadd (v := 1) B0 dL_law_726 (by decide) ?_
    refine y_sld (j := 1) (v := 0) B0 hX hbl (by decide) e1.symm dL_law_727 ?_
    refine z_aload_n B0 dL_law_728 rfl rfl ?_
    refine z_iload_n B0 dL_law_729 rfl rfl ?_
    refine z_iconst (v := 2) B0 dL_law_730 (by decide) ?_
    refine z_iadd (v := 2) B0 dL_law_731 (by decide) ?_
    refine y_sld (j := 2) (v := x2) B0 hX hbl (by decide) e2.symm dL_law_732 ?_
    refine z_callM B0 (z_runV (q0 := 0) (As := [.int 0, .int x2]) (st := [.int (-1)]) B0 (c_X12_after_4 (a := a2) mS0 x2 rfl rfl rfl rfl rfl rfl rfl rfl rfl rfl rfl rfl rfl rfl rfl rfl rfl rfl rfl rfl rfl rfl rfl rfl rfl rfl rfl ⟨by omega, by omega⟩) cf_X12_after (mw_0 cy a2 mS0) rfl wm_L_90 wi_X12_after ws_X12_after dL_law_733 rfl (Nat.le_of_ble_eq_true rfl) ⟨by decide, by decide, by decide, by decide⟩) (fun r2 u2 p2 => ?_)
    obtain ⟨rfl, -⟩ := p2
    refine z_icmp_eq_t (tgt := 1091) B0 dL_law_736 (by decide) rfl ?_
    exact fin u1 u2
  · obtain rfl : x2 = 0 := Int32.toInt_inj.mp (h2.trans (by decide))
    refine z_aload_n B0 dL_law_708 rfl rfl ?_
    refine z_aload_n B0 dL_law_709 rfl rfl ?_
    refine z_iload_n B0 dL_law_710 rfl rfl ?_
    refine z_iconst (v := 1) B0 dL_law_711 (by decide) ?_
    refine z_iadd (v := 1) B0 dL_law_712 (by decide) ?_
    refine y_sld (j := 1) (v := 0) B0 hX hbl (by decide) e1.symm dL_law_713 ?_
    refine z_aload_n B0 dL_law_714 rfl rfl ?_
    refine z_iload_n B0 dL_law_715 rfl rfl ?_
    refine z_iconst (v := 2) B0 dL_law_716 (by decide) ?_
    refine z_iadd (v := 2) B0 dL_law_717 (by decide) ?_
    refine y_sld (j := 2) (v := 0) B0 hX hbl (by decide) e2.symm dL_law_718 ?_
    refine z_callC B0 (z_runV (q0 := 0) (As := [.int 0, .int 0]) (st := []) B0 (c_X11_after_5 (a := a) (cS0 w)  rfl rfl rfl hrw) cf_X11_after (cw_0 cy tE a rw (cS0 w)) rfl wm_L_87 wi_X11_after ws_X11_after dL_law_719 rfl (Nat.le_of_ble_eq_true rfl) ⟨by decide, by decide, by decide, by decide⟩) (fun r1 u1 p1 => ?_)
    obtain ⟨rfl, -⟩ := p1
    refine z_aload_n B0 dL_law_722 rfl rfl ?_
    refine z_aload_n B0 dL_law_723 rfl rfl ?_
    refine z_iload_n B0 dL_law_724 rfl rfl ?_
    refine z_iconst (v := 1) B0 dL_law_725 (by decide) ?_
    refine z_iadd (v := 1) B0 dL_law_726 (by decide) ?_
    refine y_sld (j := 1) (v := 0) B0 hX hbl (by decide) e1.symm dL_law_727 ?_
    refine z_aload_n B0 dL_law_728 rfl rfl ?_
    refine z_iload_n B0 dL_law_729 rfl rfl ?_
    refine z_iconst (v := 2) B0 dL_law_730 (by decide) ?_
    refine z_iadd (v := 2) B0 dL_law_731 (by decide) ?_
    refine y_sld (j := 2) (v := 0) B0 hX hbl (by decide) e2.symm dL_law_732 ?_
    refine z_callM B0 (z_runV (q0 := 0) (As := [.int 0, .int 0]) (st := [.int 0]) B0 (c_X12_after_5 (a := a2) mS0  rfl rfl rfl rfl rfl rfl rfl rfl rfl rfl rfl rfl rfl rfl rfl rfl rfl rfl rfl rfl rfl rfl rfl rfl rfl rfl rfl) cf_X12_after (mw_0 cy a2 mS0) rfl wm_L_90 wi_X12_after ws_X12_after dL_law_733 rfl (Nat.le_of_ble_eq_true rfl) ⟨by decide, by decide, by decide, by decide⟩) (fun r2 u2 p2 => ?_)
    obtain ⟨rfl, -⟩ := p2
    refine z_icmp_eq_t (tgt := 1091) B0 dL_law_736 (by decide) rfl ?_
    exact fin u1 u2
  · obtain rfl : x2 = 1 := Int32.toInt_inj.mp (h2.trans (by decide))
    refine z_aload_n B0 dL_law_708 rfl rfl ?_
    refine z_aload_n B0 dL_law_709 rfl rfl ?_
    refine z_iload_n B0 dL_law_710 rfl rfl ?_
    refine z_iconst (v := 1) B0 dL_law_711 (by decide) ?_
    refine z_iadd (v := 1) B0 dL_law_712 (by decide) ?_
    refine y_sld (j := 1) (v := 0) B0 hX hbl (by decide) e1.symm dL_law_713 ?_
    refine z_aload_n B0 dL_law_714 rfl rfl ?_
    refine z_iload_n B0 dL_law_715 rfl rfl ?_
    refine z_iconst (v := 2) B0 dL_law_716 (by decide) ?_
    refine z_iadd (v := 2) B0 dL_law_717 (by decide) ?_
    refine y_sld (j := 2) (v := 1) B0 hX hbl (by decide) e2.symm dL_law_718 ?_
    refine z_callC B0 (z_runV (q0 := 0) (As := [.int 0, .int 1]) (st := []) B0 (c_X11_after_6 (a := a) (cS0 w)  rfl rfl rfl hrw) cf_X11_after (cw_0 cy tE a rw (cS0 w)) rfl wm_L_87 wi_X11_after ws_X11_after dL_law_719 rfl (Nat.le_of_ble_eq_true rfl) ⟨by decide, by decide, by decide, by decide⟩) (fun r1 u1 p1 => ?_)
    obtain ⟨rfl, -⟩ := p1
    refine z_aload_n B0 dL_law_722 rfl rfl ?_
    refine z_aload_n B0 dL_law_723 rfl rfl ?_
    refine z_iload_n B0 dL_law_724 rfl rfl ?_
    refine z_iconst (v := 1) B0 dL_law_725 (by decide) ?_
    refine z_iadd (v := 1) B0 dL_law_726 (by decide) ?_
    refine y_sld (j := 1) (v := 0) B0 hX hbl (by decide) e1.symm dL_law_727 ?_
    refine z_aload_n B0 dL_law_728 rfl rfl ?_
    refine z_iload_n B0 dL_law_729 rfl rfl ?_
    refine z_iconst (v := 2) B0 dL_law_730 (by decide) ?_
    refine z_iadd (v := 2) B0 dL_law_731 (by decide) ?_
    refine y_sld (j := 2) (v := 1) B0 hX hbl (by decide) e2.symm dL_law_732 ?_
    refine z_callM B0 (z_runV (q0 := 0) (As := [.int 0, .int 1]) (st := [.int 0]) B0 (c_X12_after_6 (a := a2) mS0  rfl rfl rfl rfl rfl rfl rfl rfl rfl rfl rfl rfl rfl rfl rfl rfl rfl rfl rfl rfl rfl rfl rfl rfl rfl rfl rfl) cf_X12_after (mw_0 cy a2 mS0) rfl wm_L_90 wi_X12_after ws_X12_after dL_law_733 rfl (Nat.le_of_ble_eq_true rfl) ⟨by decide, by decide, by decide, by decide⟩) (fun r2 u2 p2 => ?_)
    obtain ⟨rfl, -⟩ := p2
    refine z_icmp_eq_t (tgt := 1091) B0 dL_law_736 (by decide) rfl ?_
    exact fin u1 u2
  · obtain rfl : x2 = 2 := Int32.toInt_inj.mp (h2.trans (by decide))
    refine z_aload_n B0 dL_law_708 rfl rfl ?_
    refine z_aload_n B0 dL_law_709 rfl rfl ?_
    refine z_iload_n B0 dL_law_710 rfl rfl ?_
    refine z_iconst (v := 1) B0 dL_law_711 (by decide) ?_
    refine z_iadd (v := 1) B0 dL_law_712 (by decide) ?_
    refine y_sld (j := 1) (v := 0) B0 hX hbl (by decide) e1.symm dL_law_713 ?_
    refine z_aload_n B0 dL_law_714 rfl rfl ?_
    refine z_iload_n B0 dL_law_715 rfl rfl ?_
    refine z_iconst (v := 2) B0 dL_law_716 (by decide) ?_
    refine z_iadd (v := 2) B0 dL_law_717 (by decide) ?_
    refine y_sld (j := 2) (v := 2) B0 hX hbl (by decide) e2.symm dL_law_718 ?_
    refine z_callC B0 (z_runV (q0 := 0) (As := [.int 0, .int 2]) (st := []) B0 (c_X11_after_7 (a := a) (cS0 w)  rfl rfl rfl hrw) cf_X11_after (cw_0 cy tE a rw (cS0 w)) rfl wm_L_87 wi_X11_after ws_X11_after dL_law_719 rfl (Nat.le_of_ble_eq_true rfl) ⟨by decide, by decide, by decide, by decide⟩) (fun r1 u1 p1 => ?_)
    obtain ⟨rfl, -⟩ := p1
    refine z_aload_n B0 dL_law_722 rfl rfl ?_
    refine z_aload_n B0 dL_law_723 rfl rfl ?_
    refine z_iload_n B0 dL_law_724 rfl rfl ?_
    refine z_iconst (v := 1) B0 dL_law_725 (by decide) ?_
    refine z_iadd (v := 1) B0 dL_law_726 (by decide) ?_
    refine y_sld (j := 1) (v := 0) B0 hX hbl (by decide) e1.symm dL_law_727 ?_
    refine z_aload_n B0 dL_law_728 rfl rfl ?_
    refine z_iload_n B0 dL_law_729 rfl rfl ?_
    refine z_iconst (v := 2) B0 dL_law_730 (by decide) ?_
    refine z_iadd (v := 2) B0 dL_law_731 (by decide) ?_
    refine y_sld (j := 2) (v := 2) B0 hX hbl (by decide) e2.symm dL_law_732 ?_
    refine z_callM B0 (z_runV (q0 := 0) (As := [.int 0, .int 2]) (st := [.int 0]) B0 (c_X12_after_7 (a := a2) mS0  rfl rfl rfl rfl rfl rfl rfl rfl rfl rfl rfl rfl rfl rfl rfl rfl rfl rfl rfl rfl rfl rfl rfl rfl rfl rfl rfl) cf_X12_after (mw_0 cy a2 mS0) rfl wm_L_90 wi_X12_after ws_X12_after dL_law_733 rfl (Nat.le_of_ble_eq_true rfl) ⟨by decide, by decide, by decide, by decide⟩) (fun r2 u2 p2 => ?_)
    obtain ⟨rfl, -⟩ := p2
    refine z_icmp_eq_t (tgt := 1091) B0 dL_law_736 (by decide) rfl ?_
    exact fin u1 u2
  · obtain rfl : x2 = 3 := Int32.toInt_inj.mp (h2.trans (by decide))
    refine z_aload_n B0 dL_law_708 rfl rfl ?_
    refine z_aload_n B0 dL_law_709 rfl rfl ?_
    refine z_iload_n B0 dL_law_710 rfl rfl ?_
    refine z_iconst (v := 1) B0 dL_law_711 (by decide) ?_
    refine z_iadd (v := 1) B0 dL_law_712 (by decide) ?_
    refine y_sld (j := 1) (v := 0) B0 hX hbl (by decide) e1.symm dL_law_713 ?_
    refine z_aload_n B0 dL_law_714 rfl rfl ?_
    refine z_iload_n B0 dL_law_715 rfl rfl ?_
    refine z_iconst (v := 2) B0 dL_law_716 (by decide) ?_
    refine z_iadd (v := 2) B0 dL_law_717 (by decide) ?_
    refine y_sld (j := 2) (v := 3) B0 hX hbl (by decide) e2.symm dL_law_718 ?_
    refine z_callC B0 (z_runV (q0 := 0) (As := [.int 0, .int 3]) (st := []) B0 (c_X11_after_8 (a := a) (cS0 w)  ) cf_X11_after (cw_0 cy tE a rw (cS0 w)) rfl wm_L_87 wi_X11_after ws_X11_after dL_law_719 rfl (Nat.le_of_ble_eq_true rfl) ⟨by decide, by decide, by decide, by decide⟩) (fun r1 u1 p1 => ?_)
    obtain ⟨rfl, -⟩ := p1
    refine z_aload_n B0 dL_law_722 rfl rfl ?_
    refine z_aload_n B0 dL_law_723 rfl rfl ?_
    refine z_iload_n B0 dL_law_724 rfl rfl ?_
    refine z_iconst (v := 1) B0 dL_law_725 (by decide) ?_
    refine z_iadd (v := 1) B0 dL_law_726 (by decide) ?_
    refine y_sld (j := 1) (v := 0) B0 hX hbl (by decide) e1.symm dL_law_727 ?_
    refine z_aload_n B0 dL_law_728 rfl rfl ?_
    refine z_iload_n B0 dL_law_729 rfl rfl ?_
    refine z_iconst (v := 2) B0 dL_law_730 (by decide) ?_
    refine z_iadd (v := 2) B0 dL_law_731 (by decide) ?_
    refine y_sld (j := 2) (v := 3) B0 hX hbl (by decide) e2.symm dL_law_732 ?_
    refine z_callM B0 (z_runV (q0 := 0) (As := [.int 0, .int 3]) (st := [.int (-1)]) B0 (c_X12_after_8 (a := a2) mS0  rfl rfl rfl rfl rfl rfl rfl rfl rfl rfl rfl rfl rfl rfl rfl rfl rfl rfl rfl rfl rfl rfl rfl rfl rfl rfl rfl) cf_X12_after (mw_0 cy a2 mS0) rfl wm_L_90 wi_X12_after ws_X12_after dL_law_733 rfl (Nat.le_of_ble_eq_true rfl) ⟨by decide, by decide, by decide, by decide⟩) (fun r2 u2 p2 => ?_)
    obtain ⟨rfl, -⟩ := p2
    refine z_icmp_eq_t (tgt := 1091) B0 dL_law_736 (by decide) rfl ?_
    exact fin u1 u2
  · obtain rfl : x2 = 4 := Int32.toInt_inj.mp (h2.trans (by decide))
    refine z_aload_n B0 dL_law_708 rfl rfl ?_
    refine z_aload_n B0 dL_law_709 rfl rfl ?_
    refine z_iload_n B0 dL_law_710 rfl rfl ?_
    refine z_iconst (v := 1) B0 dL_law_711 (by decide) ?_
    refine z_iadd (v := 1) B0 dL_law_712 (by decide) ?_
    refine y_sld (j := 1) (v := 0) B0 hX hbl (by decide) e1.symm dL_law_713 ?_
    refine z_aload_n B0 dL_law_714 rfl rfl ?_
    refine z_iload_n B0 dL_law_715 rfl rfl ?_
    refine z_iconst (v := 2) B0 dL_law_716 (by decide) ?_
    refine z_iadd (v := 2) B0 dL_law_717 (by decide) ?_
    refine y_sld (j := 2) (v := 4) B0 hX hbl (by decide) e2.symm dL_law_718 ?_
    refine z_callC B0 (z_runV (q0 := 0) (As := [.int 0, .int 4]) (st := []) B0 (c_X11_after_9 (a := a) (cS0 w)  ) cf_X11_after (cw_0 cy tE a rw (cS0 w)) rfl wm_L_87 wi_X11_after ws_X11_after dL_law_719 rfl (Nat.le_of_ble_eq_true rfl) ⟨by decide, by decide, by decide, by decide⟩) (fun r1 u1 p1 => ?_)
    obtain ⟨rfl, -⟩ := p1
    refine z_aload_n B0 dL_law_722 rfl rfl ?_
    refine z_aload_n B0 dL_law_723 rfl rfl ?_
    refine z_iload_n B0 dL_law_724 rfl rfl ?_
    refine z_iconst (v := 1) B0 dL_law_725 (by decide) ?_
    refine z_iadd (v := 1) B0 dL_law_726 (by decide) ?_
    refine y_sld (j := 1) (v := 0) B0 hX hbl (by decide) e1.symm dL_law_727 ?_
    refine z_aload_n B0 dL_law_728 rfl rfl ?_
    refine z_iload_n B0 dL_law_729 rfl rfl ?_
    refine z_iconst (v := 2) B0 dL_law_730 (by decide) ?_
    refine z_iadd (v := 2) B0 dL_law_731 (by decide) ?_
    refine y_sld (j := 2) (v := 4) B0 hX hbl (by decide) e2.symm dL_law_732 ?_
    refine z_callM B0 (z_runV (q0 := 0) (As := [.int 0, .int 4]) (st := [.int (-1)]) B0 (c_X12_after_9 (a := a2) mS0  rfl rfl rfl rfl rfl rfl rfl rfl rfl rfl rfl rfl rfl rfl rfl rfl rfl rfl rfl rfl rfl rfl rfl rfl rfl rfl rfl) cf_X12_after (mw_0 cy a2 mS0) rfl wm_L_90 wi_X12_after ws_X12_after dL_law_733 rfl (Nat.le_of_ble_eq_true rfl) ⟨by decide, by decide, by decide, by decide⟩) (fun r2 u2 p2 => ?_)
    obtain ⟨rfl, -⟩ := p2
    refine z_icmp_eq_t (tgt := 1091) B0 dL_law_736 (by decide) rfl ?_
    exact fin u1 u2
  · obtain rfl : x2 = 5 := Int32.toInt_inj.mp (h2.trans (by decide))
    refine z_aload_n B0 dL_law_708 rfl rfl ?_
    refine z_aload_n B0 dL_law_709 rfl rfl ?_
    refine z_iload_n B0 dL_law_710 rfl rfl ?_
    refine z_iconst (v := 1) B0 dL_law_711 (by decide) ?_
    refine z_iadd (v := 1) B0 dL_law_712 (by decide) ?_
    refine y_sld (j := 1) (v := 0) B0 hX hbl (by decide) e1.symm dL_law_713 ?_
    refine z_aload_n B0 dL_law_714 rfl rfl ?_
    refine z_iload_n B0 dL_law_715 rfl rfl ?_
    refine z_iconst (v := 2) B0 dL_law_716 (by decide) ?_
    refine z_iadd (v := 2) B0 dL_law_717 (by decide) ?_
    refine y_sld (j := 2) (v := 5) B0 hX hbl (by decide) e2.symm dL_law_718 ?_
    refine z_callC B0 (z_runV (q0 := 0) (As := [.int 0, .int 5]) (st := []) B0 (c_X11_after_10 (a := a) (cS0 w)  ) cf_X11_after (cw_0 cy tE a rw (cS0 w)) rfl wm_L_87 wi_X11_after ws_X11_after dL_law_719 rfl (Nat.le_of_ble_eq_true rfl) ⟨by decide, by decide, by decide, by decide⟩) (fun r1 u1 p1 => ?_)
    obtain ⟨rfl, -⟩ := p1
    refine z_aload_n B0 dL_law_722 rfl rfl ?_
    refine z_aload_n B0 dL_law_723 rfl rfl ?_
    refine z_iload_n B0 dL_law_724 rfl rfl ?_
    refine z_iconst (v := 1) B0 dL_law_725 (by decide) ?_
    refine z_iadd (v := 1) B0 dL_law_726 (by decide) ?_
    refine y_sld (j := 1) (v := 0) B0 hX hbl (by decide) e1.symm dL_law_727 ?_
    refine z_aload_n B0 dL_law_728 rfl rfl ?_
    refine z_iload_n B0 dL_law_729 rfl rfl ?_
    refine z_iconst (v := 2) B0 dL_law_730 (by decide) ?_
    refine z_iadd (v := 2) B0 dL_law_731 (by decide) ?_
    refine y_sld (j := 2) (v := 5) B0 hX hbl (by decide) e2.symm dL_law_732 ?_
    refine z_callM B0 (z_runV (q0 := 0) (As := [.int 0, .int 5]) (st := [.int (-1)]) B0 (c_X12_after_10 (a := a2) mS0  rfl rfl rfl rfl rfl rfl rfl rfl rfl rfl rfl rfl rfl rfl rfl rfl rfl rfl rfl rfl rfl rfl rfl rfl rfl rfl rfl) cf_X12_after (mw_0 cy a2 mS0) rfl wm_L_90 wi_X12_after ws_X12_after dL_law_733 rfl (Nat.le_of_ble_eq_true rfl) ⟨by decide, by decide, by decide, by decide⟩) (fun r2 u2 p2 => ?_)
    obtain ⟨rfl, -⟩ := p2
    refine z_icmp_eq_t (tgt := 1091) B0 dL_law_736 (by decide) rfl ?_
    exact fin u1 u2
  · obtain rfl : x2 = 6 := Int32.toInt_inj.mp (h2.trans (by decide))
    refine z_aload_n B0 dL_law_708 rfl rfl ?_
    refine z_aload_n B0 dL_law_709 rfl rfl ?_
    refine z_iload_n B0 dL_law_710 rfl rfl ?_
    refine z_iconst (v := 1) B0 dL_law_711 (by decide) ?_
    refine z_iadd (v := 1) B0 dL_law_712 (by decide) ?_
    refine y_sld (j := 1) (v := 0) B0 hX hbl (by decide) e1.symm dL_law_713 ?_
    refine z_aload_n B0 dL_law_714 rfl rfl ?_
    refine z_iload_n B0 dL_law_715 rfl rfl ?_
    refine z_iconst (v := 2) B0 dL_law_716 (by decide) ?_
    refine z_iadd (v := 2) B0 dL_law_717 (by decide) ?_
    refine y_sld (j := 2) (v := 6) B0 hX hbl (by decide) e2.symm dL_law_718 ?_
    refine z_callC B0 (z_runV (q0 := 0) (As := [.int 0, .int 6]) (st := []) B0 (c_X11_after_11 (a := a) (cS0 w)  ) cf_X11_after (cw_0 cy tE a rw (cS0 w)) rfl wm_L_87 wi_X11_after ws_X11_after dL_law_719 rfl (Nat.le_of_ble_eq_true rfl) ⟨by decide, by decide, by decide, by decide⟩) (fun r1 u1 p1 => ?_)
    obtain ⟨rfl, -⟩ := p1
    refine z_aload_n B0 dL_law_722 rfl rfl ?_
    refine z_aload_n B0 dL_law_723 rfl rfl ?_
    refine z_iload_n B0 dL_law_724 rfl rfl ?_
    refine z_iconst (v := 1) B0 dL_law_725 (by decide) ?_
    refine z_iadd (v := 1) B0 dL_law_726 (by decide) ?_
    refine y_sld (j := 1) (v := 0) B0 hX hbl (by decide) e1.symm dL_law_727 ?_
    refine z_aload_n B0 dL_law_728 rfl rfl ?_
    refine z_iload_n B0 dL_law_729 rfl rfl ?_
    refine z_iconst (v := 2) B0 dL_law_730 (by decide) ?_
    refine z_iadd (v := 2) B0 dL_law_731 (by decide) ?_
    refine y_sld (j := 2) (v := 6) B0 hX hbl (by decide) e2.symm dL_law_732 ?_
    refine z_callM B0 (z_runV (q0 := 0) (As := [.int 0, .int 6]) (st := [.int (-1)]) B0 (c_X12_after_11 (a := a2) mS0  rfl rfl rfl rfl rfl rfl rfl rfl rfl rfl rfl rfl rfl rfl rfl rfl rfl rfl rfl rfl rfl rfl rfl rfl rfl rfl rfl) cf_X12_after (mw_0 cy a2 mS0) rfl wm_L_90 wi_X12_after ws_X12_after dL_law_733 rfl (Nat.le_of_ble_eq_true rfl) ⟨by decide, by decide, by decide, by decide⟩) (fun r2 u2 p2 => ?_)
    obtain ⟨rfl, -⟩ := p2
    refine z_icmp_eq_t (tgt := 1091) B0 dL_law_736 (by decide) rfl ?_
    exact fin u1 u2
  · obtain rfl : x2 = 7 := Int32.toInt_inj.mp (h2.trans (by decide))
    refine z_aload_n B0 dL_law_708 rfl rfl ?_
    refine z_aload_n B0 dL_law_709 rfl rfl ?_
    refine z_iload_n B0 dL_law_710 rfl rfl ?_
    refine z_iconst (v := 1) B0 dL_law_711 (by decide) ?_
    refine z_iadd (v := 1) B0 dL_law_712 (by decide) ?_
    refine y_sld (j := 1) (v := 0) B0 hX hbl (by decide) e1.symm dL_law_713 ?_
    refine z_aload_n B0 dL_law_714 rfl rfl ?_
    refine z_iload_n B0 dL_law_715 rfl rfl ?_
    refine z_iconst (v := 2) B0 dL_law_716 (by decide) ?_
    refine z_iadd (v := 2) B0 dL_law_717 (by decide) ?_
    refine y_sld (j := 2) (v := 7) B0 hX hbl (by decide) e2.symm dL_law_718 ?_
    refine z_callC B0 (z_runV (q0 := 0) (As := [.int 0, .int 7]) (st := []) B0 (c_X11_after_12 (a := a) (cS0 w)  ) cf_X11_after (cw_0 cy tE a rw (cS0 w)) rfl wm_L_87 wi_X11_after ws_X11_after dL_law_719 rfl (Nat.le_of_ble_eq_true rfl) ⟨by decide, by decide, by decide, by decide⟩) (fun r1 u1 p1 => ?_)
    obtain ⟨rfl, -⟩ := p1
    refine z_aload_n B0 dL_law_722 rfl rfl ?_
    refine z_aload_n B0 dL_law_723 rfl rfl ?_
    refine z_iload_n B0 dL_law_724 rfl rfl ?_
    refine z_iconst (v := 1) B0 dL_law_725 (by decide) ?_
    refine z_iadd (v := 1) B0 dL_law_726 (by decide) ?_
    refine y_sld (j := 1) (v := 0) B0 hX hbl (by decide) e1.symm dL_law_727 ?_
    refine z_aload_n B0 dL_law_728 rfl rfl ?_
    refine z_iload_n B0 dL_law_729 rfl rfl ?_
    refine z_iconst (v := 2) B0 dL_law_730 (by decide) ?_
    refine z_iadd (v := 2) B0 dL_law_731 (by decide) ?_
    refine y_sld (j := 2) (v := 7) B0 hX hbl (by decide) e2.symm dL_law_732 ?_
    refine z_callM B0 (z_runV (q0 := 0) (As := [.int 0, .int 7]) (st := [.int (-1)]) B0 (c_X12_after_12 (a := a2) mS0  rfl rfl rfl rfl rfl rfl rfl rfl rfl rfl rfl rfl rfl rfl rfl rfl rfl rfl rfl rfl rfl rfl rfl rfl rfl rfl rfl) cf_X12_after (mw_0 cy a2 mS0) rfl wm_L_90 wi_X12_after ws_X12_after dL_law_733 rfl (Nat.le_of_ble_eq_true rfl) ⟨by decide, by decide, by decide, by decide⟩) (fun r2 u2 p2 => ?_)
    obtain ⟨rfl, -⟩ := p2
    refine z_icmp_eq_t (tgt := 1091) B0 dL_law_736 (by decide) rfl ?_
    exact fin u1 u2
  · obtain rfl : x2 = 8 := Int32.toInt_inj.mp (h2.trans (by decide))
    refine z_aload_n B0 dL_law_708 rfl rfl ?_
    refine z_aload_n B0 dL_law_709 rfl rfl ?_
    refine z_iload_n B0 dL_law_710 rfl rfl ?_
    refine z_iconst (v := 1) B0 dL_law_711 (by decide) ?_
    refine z_iadd (v := 1) B0 dL_law_712 (by decide) ?_
    refine y_sld (j := 1) (v := 0) B0 hX hbl (by decide) e1.symm dL_law_713 ?_
    refine z_aload_n B0 dL_law_714 rfl rfl ?_
    refine z_iload_n B0 dL_law_715 rfl rfl ?_
    refine z_iconst (v := 2) B0 dL_law_716 (by decide) ?_
    refine z_iadd (v := 2) B0 dL_law_717 (by decide) ?_
    refine y_sld (j := 2) (v := 8) B0 hX hbl (by decide) e2.symm dL_law_718 ?_
    refine z_callC B0 (z_runV (q0 := 0) (As := [.int 0, .int 8]) (st := []) B0 (c_X11_after_13 (a := a) (cS0 w)  ) cf_X11_after (cw_0 cy tE a rw (cS0 w)) rfl wm_L_87 wi_X11_after ws_X11_after dL_law_719 rfl (Nat.le_of_ble_eq_true rfl) ⟨by decide, by decide, by decide, by decide⟩) (fun r1 u1 p1 => ?_)
    obtain ⟨rfl, -⟩ := p1
    refine z_aload_n B0 dL_law_722 rfl rfl ?_
    refine z_aload_n B0 dL_law_723 rfl rfl ?_
    refine z_iload_n B0 dL_law_724 rfl rfl ?_
    refine z_iconst (v := 1) B0 dL_law_725 (by decide) ?_
    refine z_iadd (v := 1) B0 dL_law_726 (by decide) ?_
    refine y_sld (j := 1) (v := 0) B0 hX hbl (by decide) e1.symm dL_law_727 ?_
    refine z_aload_n B0 dL_law_728 rfl rfl ?_
    refine z_iload_n B0 dL_law_729 rfl rfl ?_
    refine z_iconst (v := 2) B0 dL_law_730 (by decide) ?_
    refine z_iadd (v := 2) B0 dL_law_731 (by decide) ?_
    refine y_sld (j := 2) (v := 8) B0 hX hbl (by decide) e2.symm dL_law_732 ?_
    refine z_callM B0 (z_runV (q0 := 0) (As := [.int 0, .int 8]) (st := [.int (-1)]) B0 (c_X12_after_13 (a := a2) mS0  rfl rfl rfl rfl rfl rfl rfl rfl rfl rfl rfl rfl rfl rfl rfl rfl rfl rfl rfl rfl rfl rfl rfl rfl rfl rfl rfl) cf_X12_after (mw_0 cy a2 mS0) rfl wm_L_90 wi_X12_after ws_X12_after dL_law_733 rfl (Nat.le_of_ble_eq_true rfl) ⟨by decide, by decide, by decide, by decide⟩) (fun r2 u2 p2 => ?_)
    obtain ⟨rfl, -⟩ := p2
    refine z_icmp_eq_t (tgt := 1091) B0 dL_law_736 (by decide) rfl ?_
    exact fin u1 u2
  · obtain rfl : x2 = 9 := Int32.toInt_inj.mp (h2.trans (by decide))
    refine z_aload_n B0 dL_law_708 rfl rfl ?_
    refine z_aload_n B0 dL_law_709 rfl rfl ?_
    refine z_iload_n B0 dL_law_710 rfl rfl ?_
    refine z_iconst (v := 1) B0 dL_law_711 (by decide) ?_
    refine z_iadd (v := 1) B0 dL_law_712 (by decide) ?_
    refine y_sld (j := 1) (v := 0) B0 hX hbl (by decide) e1.symm dL_law_713 ?_
    refine z_aload_n B0 dL_law_714 rfl rfl ?_
    refine z_iload_n B0 dL_law_715 rfl rfl ?_
    refine z_iconst (v := 2) B0 dL_law_716 (by decide) ?_
    refine z_iadd (v := 2) B0 dL_law_717 (by decide) ?_
    refine y_sld (j := 2) (v := 9) B0 hX hbl (by decide) e2.symm dL_law_718 ?_
    refine z_callC B0 (z_runV (q0 := 0) (As := [.int 0, .int 9]) (st := []) B0 (c_X11_after_14 (a := a) (cS0 w)  ) cf_X11_after (cw_0 cy tE a rw (cS0 w)) rfl wm_L_87 wi_X11_after ws_X11_after dL_law_719 rfl (Nat.le_of_ble_eq_true rfl) ⟨by decide, by decide, by decide, by decide⟩) (fun r1 u1 p1 => ?_)
    obtain ⟨rfl, -⟩ := p1
    refine z_aload_n B0 dL_law_722 rfl rfl ?_
    refine z_aload_n B0 dL_law_723 rfl rfl ?_
    refine z_iload_n B0 dL_law_724 rfl rfl ?_
    refine z_iconst (v := 1) B0 dL_law_725 (by decide) ?_
    refine z_iadd (v := 1) B0 dL_law_726 (by decide) ?_
    refine y_sld (j := 1) (v := 0) B0 hX hbl (by decide) e1.symm dL_law_727 ?_
    refine z_aload_n B0 dL_law_728 rfl rfl ?_
    refine z_iload_n B0 dL_law_729 rfl rfl ?_
    refine z_iconst (v := 2) B0 dL_law_730 (by decide) ?_
    refine z_iadd (v := 2) B0 dL_law_731 (by decide) ?_
    refine y_sld (j := 2) (v := 9) B0 hX hbl (by decide) e2.symm dL_law_732 ?_
    refine z_callM B0 (z_runV (q0 := 0) (As := [.int 0, .int 9]) (st := [.int (-1)]) B0 (c_X12_after_14 (a := a2) mS0  rfl rfl rfl rfl rfl rfl rfl rfl rfl rfl rfl rfl rfl rfl rfl rfl rfl rfl rfl rfl rfl rfl rfl rfl rfl rfl rfl) cf_X12_after (mw_0 cy a2 mS0) rfl wm_L_90 wi_X12_after ws_X12_after dL_law_733 rfl (Nat.le_of_ble_eq_true rfl) ⟨by decide, by decide, by decide, by decide⟩) (fun r2 u2 p2 => ?_)
    obtain ⟨rfl, -⟩ := p2
    refine z_icmp_eq_t (tgt := 1091) B0 dL_law_736 (by decide) rfl ?_
    exact fin u1 u2
  · obtain rfl : x2 = 10 := Int32.toInt_inj.mp (h2.trans (by decide))
    refine z_aload_n B0 dL_law_708 rfl rfl ?_
    refine z_aload_n B0 dL_law_709 rfl rfl ?_
    refine z_iload_n B0 dL_law_710 rfl rfl ?_
    refine z_iconst (v := 1) B0 dL_law_711 (by decide) ?_
    refine z_iadd (v := 1) B0 dL_law_712 (by decide) ?_
    refine y_sld (j := 1) (v := 0) B0 hX hbl (by decide) e1.symm dL_law_713 ?_
    refine z_aload_n B0 dL_law_714 rfl rfl ?_
    refine z_iload_n B0 dL_law_715 rfl rfl ?_
    refine z_iconst (v := 2) B0 dL_law_716 (by decide) ?_
    refine z_iadd (v := 2) B0 dL_law_717 (by decide) ?_
    refine y_sld (j := 2) (v := 10) B0 hX hbl (by decide) e2.symm dL_law_718 ?_
    refine z_callC B0 (z_runV (q0 := 0) (As := [.int 0, .int 10]) (st := []) B0 (c_X11_after_15 (a := a) (cS0 w)  ) cf_X11_after (cw_0 cy tE a rw (cS0 w)) rfl wm_L_87 wi_X11_after ws_X11_after dL_law_719 rfl (Nat.le_of_ble_eq_true rfl) ⟨by decide, by decide, by decide, by decide⟩) (fun r1 u1 p1 => ?_)
    obtain ⟨rfl, -⟩ := p1
    refine z_aload_n B0 dL_law_722 rfl rfl ?_
    refine z_aload_n B0 dL_law_723 rfl rfl ?_
    refine z_iload_n B0 dL_law_724 rfl rfl ?_
    refine z_iconst (v := 1) B0 dL_law_725 (by decide) ?_
    refine z_iadd (v := 1) B0 dL_law_726 (by decide) ?_
    refine y_sld (j := 1) (v := 0) B0 hX hbl (by decide) e1.symm dL_law_727 ?_
    refine z_aload_n B0 dL_law_728 rfl rfl ?_
    refine z_iload_n B0 dL_law_729 rfl rfl ?_
    refine z_iconst (v := 2) B0 dL_law_730 (by decide) ?_
    refine z_iadd (v := 2) B0 dL_law_731 (by decide) ?_
    refine y_sld (j := 2) (v := 10) B0 hX hbl (by decide) e2.symm dL_law_732 ?_
    refine z_callM B0 (z_runV (q0 := 0) (As := [.int 0, .int 10]) (st := [.int (-1)]) B0 (c_X12_after_15 (a := a2) mS0  rfl rfl rfl rfl rfl rfl rfl rfl rfl rfl rfl rfl rfl rfl rfl rfl rfl rfl rfl rfl rfl rfl rfl rfl rfl rfl rfl) cf_X12_after (mw_0 cy a2 mS0) rfl wm_L_90 wi_X12_after ws_X12_after dL_law_733 rfl (Nat.le_of_ble_eq_true rfl) ⟨by decide, by decide, by decide, by decide⟩) (fun r2 u2 p2 => ?_)
    obtain ⟨rfl, -⟩ := p2
    refine z_icmp_eq_t (tgt := 1091) B0 dL_law_736 (by decide) rfl ?_
    exact fin u1 u2
  · obtain rfl : x2 = 11 := Int32.toInt_inj.mp (h2.trans (by decide))
    refine z_aload_n B0 dL_law_708 rfl rfl ?_
    refine z_aload_n B0 dL_law_709 rfl rfl ?_
    refine z_iload_n B0 dL_law_710 rfl rfl ?_
    refine z_iconst (v := 1) B0 dL_law_711 (by decide) ?_
    refine z_iadd (v := 1) B0 dL_law_712 (by decide) ?_
    refine y_sld (j := 1) (v := 0) B0 hX hbl (by decide) e1.symm dL_law_713 ?_
    refine z_aload_n B0 dL_law_714 rfl rfl ?_
    refine z_iload_n B0 dL_law_715 rfl rfl ?_
    refine z_iconst (v := 2) B0 dL_law_716 (by decide) ?_
    refine z_iadd (v := 2) B0 dL_law_717 (by decide) ?_
    refine y_sld (j := 2) (v := 11) B0 hX hbl (by decide) e2.symm dL_law_718 ?_
    refine z_callC B0 (z_runV (q0 := 0) (As := [.int 0, .int 11]) (st := []) B0 (c_X11_after_16 (a := a) (cS0 w)  rfl rfl rfl hrw) cf_X11_after (cw_0 cy tE a rw (cS0 w)) rfl wm_L_87 wi_X11_after ws_X11_after dL_law_719 rfl (Nat.le_of_ble_eq_true rfl) ⟨by decide, by decide, by decide, by decide⟩) (fun r1 u1 p1 => ?_)
    obtain ⟨rfl, -⟩ := p1
    refine z_aload_n B0 dL_law_722 rfl rfl ?_
    refine z_aload_n B0 dL_law_723 rfl rfl ?_
    refine z_iload_n B0 dL_law_724 rfl rfl ?_
    refine z_iconst (v := 1) B0 dL_law_725 (by decide) ?_
    refine z_iadd (v := 1) B0 dL_law_726 (by decide) ?_
    refine y_sld (j := 1) (v := 0) B0 hX hbl (by decide) e1.symm dL_law_727 ?_
    refine z_aload_n B0 dL_law_728 rfl rfl ?_
    refine z_iload_n B0 dL_law_729 rfl rfl ?_
    refine z_iconst (v := 2) B0 dL_law_730 (by decide) ?_
    refine z_iadd (v := 2) B0 dL_law_731 (by decide) ?_
    refine y_sld (j := 2) (v := 11) B0 hX hbl (by decide) e2.symm dL_law_732 ?_
    refine z_callM B0 (z_runV (q0 := 0) (As := [.int 0, .int 11]) (st := [.int 0]) B0 (c_X12_after_16 (a := a2) mS0  rfl rfl rfl rfl rfl rfl rfl rfl rfl rfl rfl rfl rfl rfl rfl rfl rfl rfl rfl rfl rfl rfl rfl rfl rfl rfl rfl) cf_X12_after (mw_0 cy a2 mS0) rfl wm_L_90 wi_X12_after ws_X12_after dL_law_733 rfl (Nat.le_of_ble_eq_true rfl) ⟨by decide, by decide, by decide, by decide⟩) (fun r2 u2 p2 => ?_)
    obtain ⟨rfl, -⟩ := p2
    refine z_icmp_eq_t (tgt := 1091) B0 dL_law_736 (by decide) rfl ?_
    exact fin u1 u2
  · obtain rfl : x2 = 12 := Int32.toInt_inj.mp (h2.trans (by decide))
    refine z_aload_n B0 dL_law_708 rfl rfl ?_
    refine z_aload_n B0 dL_law_709 rfl rfl ?_
    refine z_iload_n B0 dL_law_710 rfl rfl ?_
    refine z_iconst (v := 1) B0 dL_law_711 (by decide) ?_
    refine z_iadd (v := 1) B0 dL_law_712 (by decide) ?_
    refine y_sld (j := 1) (v := 0) B0 hX hbl (by decide) e1.symm dL_law_713 ?_
    refine z_aload_n B0 dL_law_714 rfl rfl ?_
    refine z_iload_n B0 dL_law_715 rfl rfl ?_
    refine z_iconst (v := 2) B0 dL_law_716 (by decide) ?_
    refine z_iadd (v := 2) B0 dL_law_717 (by decide) ?_
    refine y_sld (j := 2) (v := 12) B0 hX hbl (by decide) e2.symm dL_law_718 ?_
    refine z_callC B0 (z_runV (q0 := 0) (As := [.int 0, .int 12]) (st := []) B0 (c_X11_after_17 (a := a) (cS0 w)  rfl rfl rfl hrw) cf_X11_after (cw_0 cy tE a rw (cS0 w)) rfl wm_L_87 wi_X11_after ws_X11_after dL_law_719 rfl (Nat.le_of_ble_eq_true rfl) ⟨by decide, by decide, by decide, by decide⟩) (fun r1 u1 p1 => ?_)
    obtain ⟨rfl, -⟩ := p1
    refine z_aload_n B0 dL_law_722 rfl rfl ?_
    refine z_aload_n B0 dL_law_723 rfl rfl ?_
    refine z_iload_n B0 dL_law_724 rfl rfl ?_
    refine z_iconst (v := 1) B0 dL_law_725 (by decide) ?_
    refine z_iadd (v := 1) B0 dL_law_726 (by decide) ?_
    refine y_sld (j := 1) (v := 0) B0 hX hbl (by decide) e1.symm dL_law_727 ?_
    refine z_aload_n B0 dL_law_728 rfl rfl ?_
    refine z_iload_n B0 dL_law_729 rfl rfl ?_
    refine z_iconst (v := 2) B0 dL_law_730 (by decide) ?_
    refine z_iadd (v := 2) B0 dL_law_731 (by decide) ?_
    refine y_sld (j := 2) (v := 12) B0 hX hbl (by decide) e2.symm dL_law_732 ?_
    refine z_callM B0 (z_runV (q0 := 0) (As := [.int 0, .int 12]) (st := [.int 0]) B0 (c_X12_after_17 (a := a2) mS0  rfl rfl rfl rfl rfl rfl rfl rfl rfl rfl rfl rfl rfl rfl rfl rfl rfl rfl rfl rfl rfl rfl rfl rfl rfl rfl rfl) cf_X12_after (mw_0 cy a2 mS0) rfl wm_L_90 wi_X12_after ws_X12_after dL_law_733 rfl (Nat.le_of_ble_eq_true rfl) ⟨by decide, by decide, by decide, by decide⟩) (fun r2 u2 p2 => ?_)
    obtain ⟨rfl, -⟩ := p2
    refine z_icmp_eq_t (tgt := 1091) B0 dL_law_736 (by decide) rfl ?_
    exact fin u1 u2
  · obtain rfl : x2 = 13 := Int32.toInt_inj.mp (h2.trans (by decide))
    refine z_aload_n B0 dL_law_708 rfl rfl ?_
    refine z_aload_n B0 dL_law_709 rfl rfl ?_
    refine z_iload_n B0 dL_law_710 rfl rfl ?_
    refine z_iconst (v := 1) B0 dL_law_711 (by decide) ?_
    refine z_iadd (v := 1) B0 dL_law_712 (by decide) ?_
    refine y_sld (j := 1) (v := 0) B0 hX hbl (by decide) e1.symm dL_law_713 ?_
    refine z_aload_n B0 dL_law_714 rfl rfl ?_
    refine z_iload_n B0 dL_law_715 rfl rfl ?_
    refine z_iconst (v := 2) B0 dL_law_716 (by decide) ?_
    refine z_iadd (v := 2) B0 dL_law_717 (by decide) ?_
    refine y_sld (j := 2) (v := 13) B0 hX hbl (by decide) e2.symm dL_law_718 ?_
    refine z_callC B0 (z_runV (q0 := 0) (As := [.int 0, .int 13]) (st := []) B0 (c_X11_after_18 (a := a) (cS0 w)  rfl rfl rfl hrw) cf_X11_after (cw_0 cy tE a rw (cS0 w)) rfl wm_L_87 wi_X11_after ws_X11_after dL_law_719 rfl (Nat.le_of_ble_eq_true rfl) ⟨by decide, by decide, by decide, by decide⟩) (fun r1 u1 p1 => ?_)
    obtain ⟨rfl, -⟩ := p1
    refine z_aload_n B0 dL_law_722 rfl rfl ?_
    refine z_aload_n B0 dL_law_723 rfl rfl ?_
    refine z_iload_n B0 dL_law_724 rfl rfl ?_
    refine z_iconst (v := 1) B0 dL_law_725 (by decide) ?_
    refine z_iadd (v := 1) B0 dL_law_726 (by decide) ?_
    refine y_sld (j := 1) (v := 0) B0 hX hbl (by decide) e1.symm dL_law_727 ?_
    refine z_aload_n B0 dL_law_728 rfl rfl ?_
    refine z_iload_n B0 dL_law_729 rfl rfl ?_
    refine z_iconst (v := 2) B0 dL_law_730 (by decide) ?_
    refine z_iadd (v := 2) B0 dL_law_731 (by decide) ?_
    refine y_sld (j := 2) (v := 13) B0 hX hbl (by decide) e2.symm dL_law_732 ?_
    refine z_callM B0 (z_runV (q0 := 0) (As := [.int 0, .int 13]) (st := [.int 0]) B0 (c_X12_after_18 (a := a2) mS0  rfl rfl rfl rfl rfl rfl rfl rfl rfl rfl rfl rfl rfl rfl rfl rfl rfl rfl rfl rfl rfl rfl rfl rfl rfl rfl rfl) cf_X12_after (mw_0 cy a2 mS0) rfl wm_L_90 wi_X12_after ws_X12_after dL_law_733 rfl (Nat.le_of_ble_eq_true rfl) ⟨by decide, by decide, by decide, by decide⟩) (fun r2 u2 p2 => ?_)
    obtain ⟨rfl, -⟩ := p2
    refine z_icmp_eq_t (tgt := 1091) B0 dL_law_736 (by decide) rfl ?_
    exact fin u1 u2
  · obtain rfl : x2 = 14 := Int32.toInt_inj.mp (h2.trans (by decide))
    refine z_aload_n B0 dL_law_708 rfl rfl ?_
    refine z_aload_n B0 dL_law_709 rfl rfl ?_
    refine z_iload_n B0 dL_law_710 rfl rfl ?_
    refine z_iconst (v := 1) B0 dL_law_711 (by decide) ?_
    refine z_iadd (v := 1) B0 dL_law_712 (by decide) ?_
    refine y_sld (j := 1) (v := 0) B0 hX hbl (by decide) e1.symm dL_law_713 ?_
    refine z_aload_n B0 dL_law_714 rfl rfl ?_
    refine z_iload_n B0 dL_law_715 rfl rfl ?_
    refine z_iconst (v := 2) B0 dL_law_716 (by decide) ?_
    refine z_iadd (v := 2) B0 dL_law_717 (by decide) ?_
    refine y_sld (j := 2) (v := 14) B0 hX hbl (by decide) e2.symm dL_law_718 ?_
    refine z_callC B0 (z_runV (q0 := 0) (As := [.int 0, .int 14]) (st := []) B0 (c_X11_after_19 (a := a) (cS0 w)  ) cf_X11_after (cw_0 cy tE a rw (cS0 w)) rfl wm_L_87 wi_X11_after ws_X11_after dL_law_719 rfl (Nat.le_of_ble_eq_true rfl) ⟨by decide, by decide, by decide, by decide⟩) (fun r1 u1 p1 => ?_)
    obtain ⟨rfl, -⟩ := p1
    refine z_aload_n B0 dL_law_722 rfl rfl ?_
    refine z_aload_n B0 dL_law_723 rfl rfl ?_
    refine z_iload_n B0 dL_law_724 rfl rfl ?_
    refine z_iconst (v := 1) B0 dL_law_725 (by decide) ?_
    refine z_iadd (v := 1) B0 dL_law_726 (by decide) ?_
    refine y_sld (j := 1) (v := 0) B0 hX hbl (by decide) e1.symm dL_law_727 ?_
    refine z_aload_n B0 dL_law_728 rfl rfl ?_
    refine z_iload_n B0 dL_law_729 rfl rfl ?_
    refine z_iconst (v := 2) B0 dL_law_730 (by decide) ?_
    refine z_iadd (v := 2) B0 dL_law_731 (by decide) ?_
    refine y_sld (j := 2) (v := 14) B0 hX hbl (by decide) e2.symm dL_law_732 ?_
    refine z_callM B0 (z_runV (q0 := 0) (As := [.int 0, .int 14]) (st := [.int (-1)]) B0 (c_X12_after_19 (a := a2) mS0  rfl rfl rfl rfl rfl rfl rfl rfl rfl rfl rfl rfl rfl rfl rfl rfl rfl rfl rfl rfl rfl rfl rfl rfl rfl rfl rfl) cf_X12_after (mw_0 cy a2 mS0) rfl wm_L_90 wi_X12_after ws_X12_after dL_law_733 rfl (Nat.le_of_ble_eq_true rfl) ⟨by decide, by decide, by decide, by decide⟩) (fun r2 u2 p2 => ?_)
    obtain ⟨rfl, -⟩ := p2
    refine z_icmp_eq_t (tgt := 1091) B0 dL_law_736 (by decide) rfl ?_
    exact fin u1 u2
  · obtain rfl : x2 = 15 := Int32.toInt_inj.mp (h2.trans (by decide))
    refine z_aload_n B0 dL_law_708 rfl rfl ?_
    refine z_aload_n B0 dL_law_709 rfl rfl ?_
    refine z_iload_n B0 dL_law_710 rfl rfl ?_
    refine z_iconst (v := 1) B0 dL_law_711 (by decide) ?_
    refine z_iadd (v := 1) B0 dL_law_712 (by decide) ?_
    refine y_sld (j := 1) (v := 0) B0 hX hbl (by decide) e1.symm dL_law_713 ?_
    refine z_aload_n B0 dL_law_714 rfl rfl ?_
    refine z_iload_n B0 dL_law_715 rfl rfl ?_
    refine z_iconst (v := 2) B0 dL_law_716 (by decide) ?_
    refine z_iadd (v := 2) B0 dL_law_717 (by decide) ?_
    refine y_sld (j := 2) (v := 15) B0 hX hbl (by decide) e2.symm dL_law_718 ?_
    refine z_callC B0 (z_runV (q0 := 0) (As := [.int 0, .int 15]) (st := []) B0 (c_X11_after_20 (a := a) (cS0 w)  rfl rfl rfl hrw) cf_X11_after (cw_0 cy tE a rw (cS0 w)) rfl wm_L_87 wi_X11_after ws_X11_after dL_law_719 rfl (Nat.le_of_ble_eq_true rfl) ⟨by decide, by decide, by decide, by decide⟩) (fun r1 u1 p1 => ?_)
    obtain ⟨rfl, -⟩ := p1
    refine z_aload_n B0 dL_law_722 rfl rfl ?_
    refine z_aload_n B0 dL_law_723 rfl rfl ?_
    refine z_iload_n B0 dL_law_724 rfl rfl ?_
    refine z_iconst (v := 1) B0 dL_law_725 (by decide) ?_
    refine z_iadd (v := 1) B0 dL_law_726 (by decide) ?_
    refine y_sld (j := 1) (v := 0) B0 hX hbl (by decide) e1.symm dL_law_727 ?_
    refine z_aload_n B0 dL_law_728 rfl rfl ?_
    refine z_iload_n B0 dL_law_729 rfl rfl ?_
    refine z_iconst (v := 2) B0 dL_law_730 (by decide) ?_
    refine z_iadd (v := 2) B0 dL_law_731 (by decide) ?_
    refine y_sld (j := 2) (v := 15) B0 hX hbl (by decide) e2.symm dL_law_732 ?_
    refine z_callM B0 (z_runV (q0 := 0) (As := [.int 0, .int 15]) (st := [.int 0]) B0 (c_X12_after_20 (a := a2) mS0  rfl rfl rfl rfl rfl rfl rfl rfl rfl rfl rfl rfl rfl rfl rfl rfl rfl rfl rfl rfl rfl rfl rfl rfl rfl rfl rfl) cf_X12_after (mw_0 cy a2 mS0) rfl wm_L_90 wi_X12_after ws_X12_after dL_law_733 rfl (Nat.le_of_ble_eq_true rfl) ⟨by decide, by decide, by decide, by decide⟩) (fun r2 u2 p2 => ?_)
    obtain ⟨rfl, -⟩ := p2
    refine z_icmp_eq_t (tgt := 1091) B0 dL_law_736 (by decide) rfl ?_
    exact fin u1 u2
  · obtain rfl : x2 = 16 := Int32.toInt_inj.mp (h2.trans (by decide))
    refine z_aload_n B0 dL_law_708 rfl rfl ?_
    refine z_aload_n B0 dL_law_709 rfl rfl ?_
    refine z_iload_n B0 dL_law_710 rfl rfl ?_
    refine z_iconst (v := 1) B0 dL_law_711 (by decide) ?_
    refine z_iadd (v := 1) B0 dL_law_712 (by decide) ?_
    refine y_sld (j := 1) (v := 0) B0 hX hbl (by decide) e1.symm dL_law_713 ?_
    refine z_aload_n B0 dL_law_714 rfl rfl ?_
    refine z_iload_n B0 dL_law_715 rfl rfl ?_
    refine z_iconst (v := 2) B0 dL_law_716 (by decide) ?_
    refine z_iadd (v := 2) B0 dL_law_717 (by decide) ?_
    refine y_sld (j := 2) (v := 16) B0 hX hbl (by decide) e2.symm dL_law_718 ?_
    refine z_callC B0 (z_runV (q0 := 0) (As := [.int 0, .int 16]) (st := []) B0 (c_X11_after_21 (a := a) (cS0 w)  rfl rfl rfl hrw) cf_X11_after (cw_0 cy tE a rw (cS0 w)) rfl wm_L_87 wi_X11_after ws_X11_after dL_law_719 rfl (Nat.le_of_ble_eq_true rfl) ⟨by decide, by decide, by decide, by decide⟩) (fun r1 u1 p1 => ?_)
    obtain ⟨rfl, -⟩ := p1
    refine z_aload_n B0 dL_law_722 rfl rfl ?_
    refine z_aload_n B0 dL_law_723 rfl rfl ?_
    refine z_iload_n B0 dL_law_724 rfl rfl ?_
    refine z_iconst (v := 1) B0 dL_law_725 (by decide) ?_
    refine z_iadd (v := 1) B0 dL_law_726 (by decide) ?_
    refine y_sld (j := 1) (v := 0) B0 hX hbl (by decide) e1.symm dL_law_727 ?_
    refine z_aload_n B0 dL_law_728 rfl rfl ?_
    refine z_iload_n B0 dL_law_729 rfl rfl ?_
    refine z_iconst (v := 2) B0 dL_law_730 (by decide) ?_
    refine z_iadd (v := 2) B0 dL_law_731 (by decide) ?_
    refine y_sld (j := 2) (v := 16) B0 hX hbl (by decide) e2.symm dL_law_732 ?_
    refine z_callM B0 (z_runV (q0 := 0) (As := [.int 0, .int 16]) (st := [.int 0]) B0 (c_X12_after_21 (a := a2) mS0  rfl rfl rfl rfl rfl rfl rfl rfl rfl rfl rfl rfl rfl rfl rfl rfl rfl rfl rfl rfl rfl rfl rfl rfl rfl rfl rfl) cf_X12_after (mw_0 cy a2 mS0) rfl wm_L_90 wi_X12_after ws_X12_after dL_law_733 rfl (Nat.le_of_ble_eq_true rfl) ⟨by decide, by decide, by decide, by decide⟩) (fun r2 u2 p2 => ?_)
    obtain ⟨rfl, -⟩ := p2
    refine z_icmp_eq_t (tgt := 1091) B0 dL_law_736 (by decide) rfl ?_
    exact fin u1 u2
  · obtain rfl : x2 = 17 := Int32.toInt_inj.mp (h2.trans (by decide))
    refine z_aload_n B0 dL_law_708 rfl rfl ?_
    refine z_aload_n B0 dL_law_709 rfl rfl ?_
    refine z_iload_n B0 dL_law_710 rfl rfl ?_
    refine z_iconst (v := 1) B0 dL_law_711 (by decide) ?_
    refine z_iadd (v := 1) B0 dL_law_712 (by decide) ?_
    refine y_sld (j := 1) (v := 0) B0 hX hbl (by decide) e1.symm dL_law_713 ?_
    refine z_aload_n B0 dL_law_714 rfl rfl ?_
    refine z_iload_n B0 dL_law_715 rfl rfl ?_
    refine z_iconst (v := 2) B0 dL_law_716 (by decide) ?_
    refine z_iadd (v := 2) B0 dL_law_717 (by decide) ?_
    refine y_sld (j := 2) (v := 17) B0 hX hbl (by decide) e2.symm dL_law_718 ?_
    refine z_callC B0 (z_runV (q0 := 0) (As := [.int 0, .int 17]) (st := []) B0 (c_X11_after_22 (a := a) (cS0 w)  rfl rfl rfl hrw) cf_X11_after (cw_0 cy tE a rw (cS0 w)) rfl wm_L_87 wi_X11_after ws_X11_after dL_law_719 rfl (Nat.le_of_ble_eq_true rfl) ⟨by decide, by decide, by decide, by decide⟩) (fun r1 u1 p1 => ?_)
    obtain ⟨rfl, -⟩ := p1
    refine z_aload_n B0 dL_law_722 rfl rfl ?_
    refine z_aload_n B0 dL_law_723 rfl rfl ?_
    refine z_iload_n B0 dL_law_724 rfl rfl ?_
    refine z_iconst (v := 1) B0 dL_law_725 (by decide) ?_
    refine z_iadd (v := 1) B0 dL_law_726 (by decide) ?_
    refine y_sld (j := 1) (v := 0) B0 hX hbl (by decide) e1.symm dL_law_727 ?_
    refine z_aload_n B0 dL_law_728 rfl rfl ?_
    refine z_iload_n B0 dL_law_729 rfl rfl ?_
    refine z_iconst (v := 2) B0 dL_law_730 (by decide) ?_
    refine z_iadd (v := 2) B0 dL_law_731 (by decide) ?_
    refine y_sld (j := 2) (v := 17) B0 hX hbl (by decide) e2.symm dL_law_732 ?_
    refine z_callM B0 (z_runV (q0 := 0) (As := [.int 0, .int 17]) (st := [.int 0]) B0 (c_X12_after_22 (a := a2) mS0  rfl rfl rfl rfl rfl rfl rfl rfl rfl rfl rfl rfl rfl rfl rfl rfl rfl rfl rfl rfl rfl rfl rfl rfl rfl rfl rfl) cf_X12_after (mw_0 cy a2 mS0) rfl wm_L_90 wi_X12_after ws_X12_after dL_law_733 rfl (Nat.le_of_ble_eq_true rfl) ⟨by decide, by decide, by decide, by decide⟩) (fun r2 u2 p2 => ?_)
    obtain ⟨rfl, -⟩ := p2
    refine z_icmp_eq_t (tgt := 1091) B0 dL_law_736 (by decide) rfl ?_
    exact fin u1 u2
  · obtain rfl : x2 = 18 := Int32.toInt_inj.mp (h2.trans (by decide))
    refine z_aload_n B0 dL_law_708 rfl rfl ?_
    refine z_aload_n B0 dL_law_709 rfl rfl ?_
    refine z_iload_n B0 dL_law_710 rfl rfl ?_
    refine z_iconst (v := 1) B0 dL_law_711 (by decide) ?_
    refine z_iadd (v := 1) B0 dL_law_712 (by decide) ?_
    refine y_sld (j := 1) (v := 0) B0 hX hbl (by decide) e1.symm dL_law_713 ?_
    refine z_aload_n B0 dL_law_714 rfl rfl ?_
    refine z_iload_n B0 dL_law_715 rfl rfl ?_
    refine z_iconst (v := 2) B0 dL_law_716 (by decide) ?_
    refine z_iadd (v := 2) B0 dL_law_717 (by decide) ?_
    refine y_sld (j := 2) (v := 18) B0 hX hbl (by decide) e2.symm dL_law_718 ?_
    refine z_callC B0 (z_runV (q0 := 0) (As := [.int 0, .int 18]) (st := []) B0 (c_X11_after_23 (a := a) (cS0 w)  ) cf_X11_after (cw_0 cy tE a rw (cS0 w)) rfl wm_L_87 wi_X11_after ws_X11_after dL_law_719 rfl (Nat.le_of_ble_eq_true rfl) ⟨by decide, by decide, by decide, by decide⟩) (fun r1 u1 p1 => ?_)
    obtain ⟨rfl, -⟩ := p1
    refine z_aload_n B0 dL_law_722 rfl rfl ?_
    refine z_aload_n B0 dL_law_723 rfl rfl ?_
    refine z_iload_n B0 dL_law_724 rfl rfl ?_
    refine z_iconst (v := 1) B0 dL_law_725 (by decide) ?_
    refine z_iadd (v := 1) B0 dL_law_726 (by decide) ?_
    refine y_sld (j := 1) (v := 0) B0 hX hbl (by decide) e1.symm dL_law_727 ?_
    refine z_aload_n B0 dL_law_728 rfl rfl ?_
    refine z_iload_n B0 dL_law_729 rfl rfl ?_
    refine z_iconst (v := 2) B0 dL_law_730 (by decide) ?_
    refine z_iadd (v := 2) B0 dL_law_731 (by decide) ?_
    refine y_sld (j := 2) (v := 18) B0 hX hbl (by decide) e2.symm dL_law_732 ?_
    refine z_callM B0 (z_runV (q0 := 0) (As := [.int 0, .int 18]) (st := [.int (-1)]) B0 (c_X12_after_23 (a := a2) mS0  rfl rfl rfl rfl rfl rfl rfl rfl rfl rfl rfl rfl rfl rfl rfl rfl rfl rfl rfl rfl rfl rfl rfl rfl rfl rfl rfl) cf_X12_after (mw_0 cy a2 mS0) rfl wm_L_90 wi_X12_after ws_X12_after dL_law_733 rfl (Nat.le_of_ble_eq_true rfl) ⟨by decide, by decide, by decide, by decide⟩) (fun r2 u2 p2 => ?_)
    obtain ⟨rfl, -⟩ := p2
    refine z_icmp_eq_t (tgt := 1091) B0 dL_law_736 (by decide) rfl ?_
    exact fin u1 u2
  · obtain rfl : x2 = 19 := Int32.toInt_inj.mp (h2.trans (by decide))
    refine z_aload_n B0 dL_law_708 rfl rfl ?_
    refine z_aload_n B0 dL_law_709 rfl rfl ?_
    refine z_iload_n B0 dL_law_710 rfl rfl ?_
    refine z_iconst (v := 1) B0 dL_law_711 (by decide) ?_
    refine z_iadd (v := 1) B0 dL_law_712 (by decide) ?_
    refine y_sld (j := 1) (v := 0) B0 hX hbl (by decide) e1.symm dL_law_713 ?_
    refine z_aload_n B0 dL_law_714 rfl rfl ?_
    refine z_iload_n B0 dL_law_715 rfl rfl ?_
    refine z_iconst (v := 2) B0 dL_law_716 (by decide) ?_
    refine z_iadd (v := 2) B0 dL_law_717 (by decide) ?_
    refine y_sld (j := 2) (v := 19) B0 hX hbl (by decide) e2.symm dL_law_718 ?_
    refine z_callC B0 (z_runV (q0 := 0) (As := [.int 0, .int 19]) (st := []) B0 (c_X11_after_24 (a := a) (cS0 w)  ) cf_X11_after (cw_0 cy tE a rw (cS0 w)) rfl wm_L_87 wi_X11_after ws_X11_after dL_law_719 rfl (Nat.le_of_ble_eq_true rfl) ⟨by decide, by decide, by decide, by decide⟩) (fun r1 u1 p1 => ?_)
    obtain ⟨rfl, -⟩ := p1
    refine z_aload_n B0 dL_law_722 rfl rfl ?_
    refine z_aload_n B0 dL_law_723 rfl rfl ?_
    refine z_iload_n B0 dL_law_724 rfl rfl ?_
    refine z_iconst (v := 1) B0 dL_law_725 (by decide) ?_
    refine z_iadd (v := 1) B0 dL_law_726 (by decide) ?_
    refine y_sld (j := 1) (v := 0) B0 hX hbl (by decide) e1.symm dL_law_727 ?_
    refine z_aload_n B0 dL_law_728 rfl rfl ?_
    refine z_iload_n B0 dL_law_729 rfl rfl ?_
    refine z_iconst (v := 2) B0 dL_law_730 (by decide) ?_
    refine z_iadd (v := 2) B0 dL_law_731 (by decide) ?_
    refine y_sld (j := 2) (v := 19) B0 hX hbl (by decide) e2.symm dL_law_732 ?_
    refine z_callM B0 (z_runV (q0 := 0) (As := [.int 0, .int 19]) (st := [.int (-1)]) B0 (c_X12_after_24 (a := a2) mS0  rfl rfl rfl rfl rfl rfl rfl rfl rfl rfl rfl rfl rfl rfl rfl rfl rfl rfl rfl rfl rfl rfl rfl rfl rfl rfl rfl) cf_X12_after (mw_0 cy a2 mS0) rfl wm_L_90 wi_X12_after ws_X12_after dL_law_733 rfl (Nat.le_of_ble_eq_true rfl) ⟨by decide, by decide, by decide, by decide⟩) (fun r2 u2 p2 => ?_)
    obtain ⟨rfl, -⟩ := p2
    refine z_icmp_eq_t (tgt := 1091) B0 dL_law_736 (by decide) rfl ?_
    exact fin u1 u2
  · obtain rfl : x2 = 20 := Int32.toInt_inj.mp (h2.trans (by decide))
    refine z_aload_n B0 dL_law_708 rfl rfl ?_
    refine z_aload_n B0 dL_law_709 rfl rfl ?_
    refine z_iload_n B0 dL_law_710 rfl rfl ?_
    refine z_iconst (v := 1) B0 dL_law_711 (by decide) ?_
    refine z_iadd (v := 1) B0 dL_law_712 (by decide) ?_
    refine y_sld (j := 1) (v := 0) B0 hX hbl (by decide) e1.symm dL_law_713 ?_
    refine z_aload_n B0 dL_law_714 rfl rfl ?_
    refine z_iload_n B0 dL_law_715 rfl rfl ?_
    refine z_iconst (v := 2) B0 dL_law_716 (by decide) ?_
    refine z_iadd (v := 2) B0 dL_law_717 (by decide) ?_
    refine y_sld (j := 2) (v := 20) B0 hX hbl (by decide) e2.symm dL_law_718 ?_
    refine z_callC B0 (z_runV (q0 := 0) (As := [.int 0, .int 20]) (st := []) B0 (c_X11_after_25 (a := a) (cS0 w)  ) cf_X11_after (cw_0 cy tE a rw (cS0 w)) rfl wm_L_87 wi_X11_after ws_X11_after dL_law_719 rfl (Nat.le_of_ble_eq_true rfl) ⟨by decide, by decide, by decide, by decide⟩) (fun r1 u1 p1 => ?_)
    obtain ⟨rfl, -⟩ := p1
    refine z_aload_n B0 dL_law_722 rfl rfl ?_
    refine z_aload_n B0 dL_law_723 rfl rfl ?_
    refine z_iload_n B0 dL_law_724 rfl rfl ?_
    refine z_iconst (v := 1) B0 dL_law_725 (by decide) ?_
    refine z_iadd (v := 1) B0 dL_law_726 (by decide) ?_
    refine y_sld (j := 1) (v := 0) B0 hX hbl (by decide) e1.symm dL_law_727 ?_
    refine z_aload_n B0 dL_law_728 rfl rfl ?_
    refine z_iload_n B0 dL_law_729 rfl rfl ?_
    refine z_iconst (v := 2) B0 dL_law_730 (by decide) ?_
    refine z_iadd (v := 2) B0 dL_law_731 (by decide) ?_
    refine y_sld (j := 2) (v := 20) B0 hX hbl (by decide) e2.symm dL_law_732 ?_
    refine z_callM B0 (z_runV (q0 := 0) (As := [.int 0, .int 20]) (st := [.int (-1)]) B0 (c_X12_after_25 (a := a2) mS0  rfl rfl rfl rfl rfl rfl rfl rfl rfl rfl rfl rfl rfl rfl rfl rfl rfl rfl rfl rfl rfl rfl rfl rfl rfl rfl rfl) cf_X12_after (mw_0 cy a2 mS0) rfl wm_L_90 wi_X12_after ws_X12_after dL_law_733 rfl (Nat.le_of_ble_eq_true rfl) ⟨by decide, by decide, by decide, by decide⟩) (fun r2 u2 p2 => ?_)
    obtain ⟨rfl, -⟩ := p2
    refine z_icmp_eq_t (tgt := 1091) B0 dL_law_736 (by decide) rfl ?_
    exact fin u1 u2
  · obtain rfl : x2 = 21 := Int32.toInt_inj.mp (h2.trans (by decide))
    refine z_aload_n B0 dL_law_708 rfl rfl ?_
    refine z_aload_n B0 dL_law_709 rfl rfl ?_
    refine z_iload_n B0 dL_law_710 rfl rfl ?_
    refine z_iconst (v := 1) B0 dL_law_711 (by decide) ?_
    refine z_iadd (v := 1) B0 dL_law_712 (by decide) ?_
    refine y_sld (j := 1) (v := 0) B0 hX hbl (by decide) e1.symm dL_law_713 ?_
    refine z_aload_n B0 dL_law_714 rfl rfl ?_
    refine z_iload_n B0 dL_law_715 rfl rfl ?_
    refine z_iconst (v := 2) B0 dL_law_716 (by decide) ?_
    refine z_iadd (v := 2) B0 dL_law_717 (by decide) ?_
    refine y_sld (j := 2) (v := 21) B0 hX hbl (by decide) e2.symm dL_law_718 ?_
    refine z_callC B0 (z_runV (q0 := 0) (As := [.int 0, .int 21]) (st := []) B0 (c_X11_after_26 (a := a) (cS0 w)  rfl rfl rfl hrw) cf_X11_after (cw_0 cy tE a rw (cS0 w)) rfl wm_L_87 wi_X11_after ws_X11_after dL_law_719 rfl (Nat.le_of_ble_eq_true rfl) ⟨by decide, by decide, by decide, by decide⟩) (fun r1 u1 p1 => ?_)
    obtain ⟨rfl, -⟩ := p1
    refine z_aload_n B0 dL_law_722 rfl rfl ?_
    refine z_aload_n B0 dL_law_723 rfl rfl ?_
    refine z_iload_n B0 dL_law_724 rfl rfl ?_
    refine z_iconst (v := 1) B0 dL_law_725 (by decide) ?_
    refine z_iadd (v := 1) B0 dL_law_726 (by decide) ?_
    refine y_sld (j := 1) (v := 0) B0 hX hbl (by decide) e1.symm dL_law_727 ?_
    refine z_aload_n B0 dL_law_728 rfl rfl ?_
    refine z_iload_n B0 dL_law_729 rfl rfl ?_
    refine z_iconst (v := 2) B0 dL_law_730 (by decide) ?_
    refine z_iadd (v := 2) B0 dL_law_731 (by decide) ?_
    refine y_sld (j := 2) (v := 21) B0 hX hbl (by decide) e2.symm dL_law_732 ?_
    refine z_callM B0 (z_runV (q0 := 0) (As := [.int 0, .int 21]) (st := [.int 0]) B0 (c_X12_after_26 (a := a2) mS0  rfl rfl rfl rfl rfl rfl rfl rfl rfl rfl rfl rfl rfl rfl rfl rfl rfl rfl rfl rfl rfl rfl rfl rfl rfl rfl rfl) cf_X12_after (mw_0 cy a2 mS0) rfl wm_L_90 wi_X12_after ws_X12_after dL_law_733 rfl (Nat.le_of_ble_eq_true rfl) ⟨by decide, by decide, by decide, by decide⟩) (fun r2 u2 p2 => ?_)
    obtain ⟨rfl, -⟩ := p2
    refine z_icmp_eq_t (tgt := 1091) B0 dL_law_736 (by decide) rfl ?_
    exact fin u1 u2
  · obtain rfl : x2 = 22 := Int32.toInt_inj.mp (h2.trans (by decide))
    refine z_aload_n B0 dL_law_708 rfl rfl ?_
    refine z_aload_n B0 dL_law_709 rfl rfl ?_
    refine z_iload_n B0 dL_law_710 rfl rfl ?_
    refine z_iconst (v := 1) B0 dL_law_711 (by decide) ?_
    refine z_iadd (v := 1) B0 dL_law_712 (by decide) ?_
    refine y_sld (j := 1) (v := 0) B0 hX hbl (by decide) e1.symm dL_law_713 ?_
    refine z_aload_n B0 dL_law_714 rfl rfl ?_
    refine z_iload_n B0 dL_law_715 rfl rfl ?_
    refine z_iconst (v := 2) B0 dL_law_716 (by decide) ?_
    refine z_iadd (v := 2) B0 dL_law_717 (by decide) ?_
    refine y_sld (j := 2) (v := 22) B0 hX hbl (by decide) e2.symm dL_law_718 ?_
    refine z_callC B0 (z_runV (q0 := 0) (As := [.int 0, .int 22]) (st := []) B0 (c_X11_after_27 (a := a) (cS0 w)  rfl rfl rfl hrw) cf_X11_after (cw_0 cy tE a rw (cS0 w)) rfl wm_L_87 wi_X11_after ws_X11_after dL_law_719 rfl (Nat.le_of_ble_eq_true rfl) ⟨by decide, by decide, by decide, by decide⟩) (fun r1 u1 p1 => ?_)
    obtain ⟨rfl, -⟩ := p1
    refine z_aload_n B0 dL_law_722 rfl rfl ?_
    refine z_aload_n B0 dL_law_723 rfl rfl ?_
    refine z_iload_n B0 dL_law_724 rfl rfl ?_
    refine z_iconst (v := 1) B0 dL_law_725 (by decide) ?_
    refine z_iadd (v := 1) B0 dL_law_726 (by decide) ?_
    refine y_sld (j := 1) (v := 0) B0 hX hbl (by decide) e1.symm dL_law_727 ?_
    refine z_aload_n B0 dL_law_728 rfl rfl ?_
    refine z_iload_n B0 dL_law_729 rfl rfl ?_
    refine z_iconst (v := 2) B0 dL_law_730 (by decide) ?_
    refine z_iadd (v := 2) B0 dL_law_731 (by decide) ?_
    refine y_sld (j := 2) (v := 22) B0 hX hbl (by decide) e2.symm dL_law_732 ?_
    refine z_callM B0 (z_runV (q0 := 0) (As := [.int 0, .int 22]) (st := [.int 0]) B0 (c_X12_after_27 (a := a2) mS0  rfl rfl rfl rfl rfl rfl rfl rfl rfl rfl rfl rfl rfl rfl rfl rfl rfl rfl rfl rfl rfl rfl rfl rfl rfl rfl rfl) cf_X12_after (mw_0 cy a2 mS0) rfl wm_L_90 wi_X12_after ws_X12_after dL_law_733 rfl (Nat.le_of_ble_eq_true rfl) ⟨by decide, by decide, by decide, by decide⟩) (fun r2 u2 p2 => ?_)
    obtain ⟨rfl, -⟩ := p2
    refine z_icmp_eq_t (tgt := 1091) B0 dL_law_736 (by decide) rfl ?_
    exact fin u1 u2
  · obtain rfl : x2 = 23 := Int32.toInt_inj.mp (h2.trans (by decide))
    refine z_aload_n B0 dL_law_708 rfl rfl ?_
    refine z_aload_n B0 dL_law_709 rfl rfl ?_
    refine z_iload_n B0 dL_law_710 rfl rfl ?_
    refine z_iconst (v := 1) B0 dL_law_711 (by decide) ?_
    refine z_iadd (v := 1) B0 dL_law_712 (by decide) ?_
    refine y_sld (j := 1) (v := 0) B0 hX hbl (by decide) e1.symm dL_law_713 ?_
    refine z_aload_n B0 dL_law_714 rfl rfl ?_
    refine z_iload_n B0 dL_law_715 rfl rfl ?_
    refine z_iconst (v := 2) B0 dL_law_716 (by decide) ?_
    refine z_iadd (v := 2) B0 dL_law_717 (by decide) ?_
    refine y_sld (j := 2) (v := 23) B0 hX hbl (by decide) e2.symm dL_law_718 ?_
    refine z_callC B0 (z_runV (q0 := 0) (As := [.int 0, .int 23]) (st := []) B0 (c_X11_after_28 (a := a) (cS0 w)  rfl rfl rfl hrw) cf_X11_after (cw_0 cy tE a rw (cS0 w)) rfl wm_L_87 wi_X11_after ws_X11_after dL_law_719 rfl (Nat.le_of_ble_eq_true rfl) ⟨by decide, by decide, by decide, by decide⟩) (fun r1 u1 p1 => ?_)
    obtain ⟨rfl, -⟩ := p1
    refine z_aload_n B0 dL_law_722 rfl rfl ?_
    refine z_aload_n B0 dL_law_723 rfl rfl ?_
    refine z_iload_n B0 dL_law_724 rfl rfl ?_
    refine z_iconst (v := 1) B0 dL_law_725 (by decide) ?_
    refine z_iadd (v := 1) B0 dL_law_726 (by decide) ?_
    refine y_sld (j := 1) (v := 0) B0 hX hbl (by decide) e1.symm dL_law_727 ?_
    refine z_aload_n B0 dL_law_728 rfl rfl ?_
    refine z_iload_n B0 dL_law_729 rfl rfl ?_
    refine z_iconst (v := 2) B0 dL_law_730 (by decide) ?_
    refine z_iadd (v := 2) B0 dL_law_731 (by decide) ?_
    refine y_sld (j := 2) (v := 23) B0 hX hbl (by decide) e2.symm dL_law_732 ?_
    refine z_callM B0 (z_runV (q0 := 0) (As := [.int 0, .int 23]) (st := [.int 0]) B0 (c_X12_after_28 (a := a2) mS0  rfl rfl rfl rfl rfl rfl rfl rfl rfl rfl rfl rfl rfl rfl rfl rfl rfl rfl rfl rfl rfl rfl rfl rfl rfl rfl rfl) cf_X12_after (mw_0 cy a2 mS0) rfl wm_L_90 wi_X12_after ws_X12_after dL_law_733 rfl (Nat.le_of_ble_eq_true rfl) ⟨by decide, by decide, by decide, by decide⟩) (fun r2 u2 p2 => ?_)
    obtain ⟨rfl, -⟩ := p2
    refine z_icmp_eq_t (tgt := 1091) B0 dL_law_736 (by decide) rfl ?_
    exact fin u1 u2
  · obtain rfl : x2 = 24 := Int32.toInt_inj.mp (h2.trans (by decide))
    refine z_aload_n B0 dL_law_708 rfl rfl ?_
    refine z_aload_n B0 dL_law_709 rfl rfl ?_
    refine z_iload_n B0 dL_law_710 rfl rfl ?_
    refine z_iconst (v := 1) B0 dL_law_711 (by decide) ?_
    refine z_iadd (v := 1) B0 dL_law_712 (by decide) ?_
    refine y_sld (j := 1) (v := 0) B0 hX hbl (by decide) e1.symm dL_law_713 ?_
    refine z_aload_n B0 dL_law_714 rfl rfl ?_
    refine z_iload_n B0 dL_law_715 rfl rfl ?_
    refine z_iconst (v := 2) B0 dL_law_716 (by decide) ?_
    refine z_iadd (v := 2) B0 dL_law_717 (by decide) ?_
    refine y_sld (j := 2) (v := 24) B0 hX hbl (by decide) e2.symm dL_law_718 ?_
    refine z_callC B0 (z_runV (q0 := 0) (As := [.int 0, .int 24]) (st := []) B0 (c_X11_after_29 (a := a) (cS0 w)  ) cf_X11_after (cw_0 cy tE a rw (cS0 w)) rfl wm_L_87 wi_X11_after ws_X11_after dL_law_719 rfl (Nat.le_of_ble_eq_true rfl) ⟨by decide, by decide, by decide, by decide⟩) (fun r1 u1 p1 => ?_)
    obtain ⟨rfl, -⟩ := p1
    refine z_aload_n B0 dL_law_722 rfl rfl ?_
    refine z_aload_n B0 dL_law_723 rfl rfl ?_
    refine z_iload_n B0 dL_law_724 rfl rfl ?_
    refine z_iconst (v := 1) B0 dL_law_725 (by decide) ?_
    refine z_iadd (v := 1) B0 dL_law_726 (by decide) ?_
    refine y_sld (j := 1) (v := 0) B0 hX hbl (by decide) e1.symm dL_law_727 ?_
    refine z_aload_n B0 dL_law_728 rfl rfl ?_
    refine z_iload_n B0 dL_law_729 rfl rfl ?_
    refine z_iconst (v := 2) B0 dL_law_730 (by decide) ?_
    refine z_iadd (v := 2) B0 dL_law_731 (by decide) ?_
    refine y_sld (j := 2) (v := 24) B0 hX hbl (by decide) e2.symm dL_law_732 ?_
    refine z_callM B0 (z_runV (q0 := 0) (As := [.int 0, .int 24]) (st := [.int (-1)]) B0 (c_X12_after_29 (a := a2) mS0  rfl rfl rfl rfl rfl rfl rfl rfl rfl rfl rfl rfl rfl rfl rfl rfl rfl rfl rfl rfl rfl rfl rfl rfl rfl rfl rfl) cf_X12_after (mw_0 cy a2 mS0) rfl wm_L_90 wi_X12_after ws_X12_after dL_law_733 rfl (Nat.le_of_ble_eq_true rfl) ⟨by decide, by decide, by decide, by decide⟩) (fun r2 u2 p2 => ?_)
    obtain ⟨rfl, -⟩ := p2
    refine z_icmp_eq_t (tgt := 1091) B0 dL_law_736 (by decide) rfl ?_
    exact fin u1 u2
  · obtain rfl : x2 = 25 := Int32.toInt_inj.mp (h2.trans (by decide))
    refine z_aload_n B0 dL_law_708 rfl rfl ?_
    refine z_aload_n B0 dL_law_709 rfl rfl ?_
    refine z_iload_n B0 dL_law_710 rfl rfl ?_
    refine z_iconst (v := 1) B0 dL_law_711 (by decide) ?_
    refine z_iadd (v := 1) B0 dL_law_712 (by decide) ?_
    refine y_sld (j := 1) (v := 0) B0 hX hbl (by decide) e1.symm dL_law_713 ?_
    refine z_aload_n B0 dL_law_714 rfl rfl ?_
    refine z_iload_n B0 dL_law_715 rfl rfl ?_
    refine z_iconst (v := 2) B0 dL_law_716 (by decide) ?_
    refine z_iadd (v := 2) B0 dL_law_717 (by decide) ?_
    refine y_sld (j := 2) (v := 25) B0 hX hbl (by decide) e2.symm dL_law_718 ?_
    refine z_callC B0 (z_runV (q0 := 0) (As := [.int 0, .int 25]) (st := []) B0 (c_X11_after_30 (a := a) (cS0 w)  rfl rfl rfl hrw) cf_X11_after (cw_0 cy tE a rw (cS0 w)) rfl wm_L_87 wi_X11_after ws_X11_after dL_law_719 rfl (Nat.le_of_ble_eq_true rfl) ⟨by decide, by decide, by decide, by decide⟩) (fun r1 u1 p1 => ?_)
    obtain ⟨rfl, -⟩ := p1
    refine z_aload_n B0 dL_law_722 rfl rfl ?_
    refine z_aload_n B0 dL_law_723 rfl rfl ?_
    refine z_iload_n B0 dL_law_724 rfl rfl ?_
    refine z_iconst (v := 1) B0 dL_law_725 (by decide) ?_
    refine z_iadd (v := 1) B0 dL_law_726 (by decide) ?_
    refine y_sld (j := 1) (v := 0) B0 hX hbl (by decide) e1.symm dL_law_727 ?_
    refine z_aload_n B0 dL_law_728 rfl rfl ?_
    refine z_iload_n B0 dL_law_729 rfl rfl ?_
    refine z_iconst (v := 2) B0 dL_law_730 (by decide) ?_
    refine z_iadd (v := 2) B0 dL_law_731 (by decide) ?_
    refine y_sld (j := 2) (v := 25) B0 hX hbl (by decide) e2.symm dL_law_732 ?_
    refine z_callM B0 (z_runV (q0 := 0) (As := [.int 0, .int 25]) (st := [.int 0]) B0 (c_X12_after_30 (a := a2) mS0  rfl rfl rfl rfl rfl rfl rfl rfl rfl rfl rfl rfl rfl rfl rfl rfl rfl rfl rfl rfl rfl rfl rfl rfl rfl rfl rfl) cf_X12_after (mw_0 cy a2 mS0) rfl wm_L_90 wi_X12_after ws_X12_after dL_law_733 rfl (Nat.le_of_ble_eq_true rfl) ⟨by decide, by decide, by decide, by decide⟩) (fun r2 u2 p2 => ?_)
    obtain ⟨rfl, -⟩ := p2
    refine z_icmp_eq_t (tgt := 1091) B0 dL_law_736 (by decide) rfl ?_
    exact fin u1 u2
  · obtain rfl : x2 = 26 := Int32.toInt_inj.mp (h2.trans (by decide))
    refine z_aload_n B0 dL_law_708 rfl rfl ?_
    refine z_aload_n B0 dL_law_709 rfl rfl ?_
    refine z_iload_n B0 dL_law_710 rfl rfl ?_
    refine z_iconst (v := 1) B0 dL_law_711 (by decide) ?_
    refine z_iadd (v := 1) B0 dL_law_712 (by decide) ?_
    refine y_sld (j := 1) (v := 0) B0 hX hbl (by decide) e1.symm dL_law_713 ?_
    refine z_aload_n B0 dL_law_714 rfl rfl ?_
    refine z_iload_n B0 dL_law_715 rfl rfl ?_
    refine z_iconst (v := 2) B0 dL_law_716 (by decide) ?_
    refine z_iadd (v := 2) B0 dL_law_717 (by decide) ?_
    refine y_sld (j := 2) (v := 26) B0 hX hbl (by decide) e2.symm dL_law_718 ?_
    refine z_callC B0 (z_runV (q0 := 0) (As := [.int 0, .int 26]) (st := []) B0 (c_X11_after_31 (a := a) (cS0 w)  rfl rfl rfl hrw) cf_X11_after (cw_0 cy tE a rw (cS0 w)) rfl wm_L_87 wi_X11_after ws_X11_after dL_law_719 rfl (Nat.le_of_ble_eq_true rfl) ⟨by decide, by decide, by decide, by decide⟩) (fun r1 u1 p1 => ?_)
    obtain ⟨rfl, -⟩ := p1
    refine z_aload_n B0 dL_law_722 rfl rfl ?_
    refine z_aload_n B0 dL_law_723 rfl rfl ?_
    refine z_iload_n B0 dL_law_724 rfl rfl ?_
    refine z_iconst (v := 1) B0 dL_law_725 (by decide) ?_
    refine z_iadd (v := 1) B0 dL_law_726 (by decide) ?_
    refine y_sld (j := 1) (v := 0) B0 hX hbl (by decide) e1.symm dL_law_727 ?_
    refine z_aload_n B0 dL_law_728 rfl rfl ?_
    refine z_iload_n B0 dL_law_729 rfl rfl ?_
    refine z_iconst (v := 2) B0 dL_law_730 (by decide) ?_
    refine z_iadd (v := 2) B0 dL_law_731 (by decide) ?_
    refine y_sld (j := 2) (v := 26) B0 hX hbl (by decide) e2.symm dL_law_732 ?_
    refine z_callM B0 (z_runV (q0 := 0) (As := [.int 0, .int 26]) (st := [.int 0]) B0 (c_X12_after_31 (a := a2) mS0  rfl rfl rfl rfl rfl rfl rfl rfl rfl rfl rfl rfl rfl rfl rfl rfl rfl rfl rfl rfl rfl rfl rfl rfl rfl rfl rfl) cf_X12_after (mw_0 cy a2 mS0) rfl wm_L_90 wi_X12_after ws_X12_after dL_law_733 rfl (Nat.le_of_ble_eq_true rfl) ⟨by decide, by decide, by decide, by decide⟩) (fun r2 u2 p2 => ?_)
    obtain ⟨rfl, -⟩ := p2
    refine z_icmp_eq_t (tgt := 1091) B0 dL_law_736 (by decide) rfl ?_
    exact fin u1 u2
  · obtain rfl : x2 = 27 := Int32.toInt_inj.mp (h2.trans (by decide))
    refine z_aload_n B0 dL_law_708 rfl rfl ?_
    refine z_aload_n B0 dL_law_709 rfl rfl ?_
    refine z_iload_n B0 dL_law_710 rfl rfl ?_
    refine z_iconst (v := 1) B0 dL_law_711 (by decide) ?_
    refine z_iadd (v := 1) B0 dL_law_712 (by decide) ?_
    refine y_sld (j := 1) (v := 0) B0 hX hbl (by decide) e1.symm dL_law_713 ?_
    refine z_aload_n B0 dL_law_714 rfl rfl ?_
    refine z_iload_n B0 dL_law_715 rfl rfl ?_
    refine z_iconst (v := 2) B0 dL_law_716 (by decide) ?_
    refine z_iadd (v := 2) B0 dL_law_717 (by decide) ?_
    refine y_sld (j := 2) (v := 27) B0 hX hbl (by decide) e2.symm dL_law_718 ?_
    refine z_callC B0 (z_runV (q0 := 0) (As := [.int 0, .int 27]) (st := []) B0 (c_X11_after_32 (a := a) (cS0 w)  rfl rfl rfl hrw) cf_X11_after (cw_0 cy tE a rw (cS0 w)) rfl wm_L_87 wi_X11_after ws_X11_after dL_law_719 rfl (Nat.le_of_ble_eq_true rfl) ⟨by decide, by decide, by decide, by decide⟩) (fun r1 u1 p1 => ?_)
    obtain ⟨rfl, -⟩ := p1
    refine z_aload_n B0 dL_law_722 rfl rfl ?_
    refine z_aload_n B0 dL_law_723 rfl rfl ?_
    refine z_iload_n B0 dL_law_724 rfl rfl ?_
    refine z_iconst (v := 1) B0 dL_law_725 (by decide) ?_
    refine z_iadd (v := 1) B0 dL_law_726 (by decide) ?_
    refine y_sld (j := 1) (v := 0) B0 hX hbl (by decide) e1.symm dL_law_727 ?_
    refine z_aload_n B0 dL_law_728 rfl rfl ?_
    refine z_iload_n B0 dL_law_729 rfl rfl ?_
    refine z_iconst (v := 2) B0 dL_law_730 (by decide) ?_
    refine z_iadd (v := 2) B0 dL_law_731 (by decide) ?_
    refine y_sld (j := 2) (v := 27) B0 hX hbl (by decide) e2.symm dL_law_732 ?_
    refine z_callM B0 (z_runV (q0 := 0) (As := [.int 0, .int 27]) (st := [.int 0]) B0 (c_X12_after_32 (a := a2) mS0  rfl rfl rfl rfl rfl rfl rfl rfl rfl rfl rfl rfl rfl rfl rfl rfl rfl rfl rfl rfl rfl rfl rfl rfl rfl rfl rfl) cf_X12_after (mw_0 cy a2 mS0) rfl wm_L_90 wi_X12_after ws_X12_after dL_law_733 rfl (Nat.le_of_ble_eq_true rfl) ⟨by decide, by decide, by decide, by decide⟩) (fun r2 u2 p2 => ?_)
    obtain ⟨rfl, -⟩ := p2
    refine z_icmp_eq_t (tgt := 1091) B0 dL_law_736 (by decide) rfl ?_
    exact fin u1 u2
  · obtain rfl : x2 = 28 := Int32.toInt_inj.mp (h2.trans (by decide))
    refine z_aload_n B0 dL_law_708 rfl rfl ?_
    refine z_aload_n B0 dL_law_709 rfl rfl ?_
    refine z_iload_n B0 dL_law_710 rfl rfl ?_
    refine z_iconst (v := 1) B0 dL_law_711 (by decide) ?_
    refine z_iadd (v := 1) B0 dL_law_712 (by decide) ?_
    refine y_sld (j := 1) (v := 0) B0 hX hbl (by decide) e1.symm dL_law_713 ?_
    refine z_aload_n B0 dL_law_714 rfl rfl ?_
    refine z_iload_n B0 dL_law_715 rfl rfl ?_
    refine z_iconst (v := 2) B0 dL_law_716 (by decide) ?_
    refine z_iadd (v := 2) B0 dL_law_717 (by decide) ?_
    refine y_sld (j := 2) (v := 28) B0 hX hbl (by decide) e2.symm dL_law_718 ?_
    refine z_callC B0 (z_runV (q0 := 0) (As := [.int 0, .int 28]) (st := []) B0 (c_X11_after_33 (a := a) (cS0 w)  ) cf_X11_after (cw_0 cy tE a rw (cS0 w)) rfl wm_L_87 wi_X11_after ws_X11_after dL_law_719 rfl (Nat.le_of_ble_eq_true rfl) ⟨by decide, by decide, by decide, by decide⟩) (fun r1 u1 p1 => ?_)
    obtain ⟨rfl, -⟩ := p1
    refine z_aload_n B0 dL_law_722 rfl rfl ?_
    refine z_aload_n B0 dL_law_723 rfl rfl ?_
    refine z_iload_n B0 dL_law_724 rfl rfl ?_
    refine z_iconst (v := 1) B0 dL_law_725 (by decide) ?_
    refine z_iadd (v := 1) B0 dL_law_726 (by decide) ?_
    refine y_sld (j := 1) (v := 0) B0 hX hbl (by decide) e1.symm dL_law_727 ?_
    refine z_aload_n B0 dL_law_728 rfl rfl ?_
    refine z_iload_n B0 dL_law_729 rfl rfl ?_
    refine z_iconst (v := 2) B0 dL_law_730 (by decide) ?_
    refine z_iadd (v := 2) B0 dL_law_731 (by decide) ?_
    refine y_sld (j := 2) (v := 28) B0 hX hbl (by decide) e2.symm dL_law_732 ?_
    refine z_callM B0 (z_runV (q0 := 0) (As := [.int 0, .int 28]) (st := [.int (-1)]) B0 (c_X12_after_33 (a := a2) mS0  rfl rfl rfl rfl rfl rfl rfl rfl rfl rfl rfl rfl rfl rfl rfl rfl rfl rfl rfl rfl rfl rfl rfl rfl rfl rfl rfl) cf_X12_after (mw_0 cy a2 mS0) rfl wm_L_90 wi_X12_after ws_X12_after dL_law_733 rfl (Nat.le_of_ble_eq_true rfl) ⟨by decide, by decide, by decide, by decide⟩) (fun r2 u2 p2 => ?_)
    obtain ⟨rfl, -⟩ := p2
    refine z_icmp_eq_t (tgt := 1091) B0 dL_law_736 (by decide) rfl ?_
    exact fin u1 u2
  · obtain rfl : x2 = 29 := Int32.toInt_inj.mp (h2.trans (by decide))
    refine z_aload_n B0 dL_law_708 rfl rfl ?_
    refine z_aload_n B0 dL_law_709 rfl rfl ?_
    refine z_iload_n B0 dL_law_710 rfl rfl ?_
    refine z_iconst (v := 1) B0 dL_law_711 (by decide) ?_
    refine z_iadd (v := 1) B0 dL_law_712 (by decide) ?_
    refine y_sld (j := 1) (v := 0) B0 hX hbl (by decide) e1.symm dL_law_713 ?_
    refine z_aload_n B0 dL_law_714 rfl rfl ?_
    refine z_iload_n B0 dL_law_715 rfl rfl ?_
    refine z_iconst (v := 2) B0 dL_law_716 (by decide) ?_
    refine z_iadd (v := 2) B0 dL_law_717 (by decide) ?_
    refine y_sld (j := 2) (v := 29) B0 hX hbl (by decide) e2.symm dL_law_718 ?_
    refine z_callC B0 (z_runV (q0 := 0) (As := [.int 0, .int 29]) (st := []) B0 (c_X11_after_34 (a := a) (cS0 w)  ) cf_X11_after (cw_0 cy tE a rw (cS0 w)) rfl wm_L_87 wi_X11_after ws_X11_after dL_law_719 rfl (Nat.le_of_ble_eq_true rfl) ⟨by decide, by decide, by decide, by decide⟩) (fun r1 u1 p1 => ?_)
    obtain ⟨rfl, -⟩ := p1
    refine z_aload_n B0 dL_law_722 rfl rfl ?_
    refine z_aload_n B0 dL_law_723 rfl rfl ?_
    refine z_iload_n B0 dL_law_724 rfl rfl ?_
    refine z_iconst (v := 1) B0 dL_law_725 (by decide) ?_
    refine z_iadd (v := 1) B0 dL_law_726 (by decide) ?_
    refine y_sld (j := 1) (v := 0) B0 hX hbl (by decide) e1.symm dL_law_727 ?_
    refine z_aload_n B0 dL_law_728 rfl rfl ?_
    refine z_iload_n B0 dL_law_729 rfl rfl ?_
    refine z_iconst (v := 2) B0 dL_law_730 (by decide) ?_
    refine z_iadd (v := 2) B0 dL_law_731 (by decide) ?_
    refine y_sld (j := 2) (v := 29) B0 hX hbl (by decide) e2.symm dL_law_732 ?_
    refine z_callM B0 (z_runV (q0 := 0) (As := [.int 0, .int 29]) (st := [.int (-1)]) B0 (c_X12_after_34 (a := a2) mS0  rfl rfl rfl rfl rfl rfl rfl rfl rfl rfl rfl rfl rfl rfl rfl rfl rfl rfl rfl rfl rfl rfl rfl rfl rfl rfl rfl) cf_X12_after (mw_0 cy a2 mS0) rfl wm_L_90 wi_X12_after ws_X12_after dL_law_733 rfl (Nat.le_of_ble_eq_true rfl) ⟨by decide, by decide, by decide, by decide⟩) (fun r2 u2 p2 => ?_)
    obtain ⟨rfl, -⟩ := p2
    refine z_icmp_eq_t (tgt := 1091) B0 dL_law_736 (by decide) rfl ?_
    exact fin u1 u2
  · obtain rfl : x2 = 30 := Int32.toInt_inj.mp (h2.trans (by decide))
    refine z_aload_n B0 dL_law_708 rfl rfl ?_
    refine z_aload_n B0 dL_law_709 rfl rfl ?_
    refine z_iload_n B0 dL_law_710 rfl rfl ?_
    refine z_iconst (v := 1) B0 dL_law_711 (by decide) ?_
    refine z_iadd (v := 1) B0 dL_law_712 (by decide) ?_
    refine y_sld (j := 1) (v := 0) B0 hX hbl (by decide) e1.symm dL_law_713 ?_
    refine z_aload_n B0 dL_law_714 rfl rfl ?_
    refine z_iload_n B0 dL_law_715 rfl rfl ?_
    refine z_iconst (v := 2) B0 dL_law_716 (by decide) ?_
    refine z_iadd (v := 2) B0 dL_law_717 (by decide) ?_
    refine y_sld (j := 2) (v := 30) B0 hX hbl (by decide) e2.symm dL_law_718 ?_
    refine z_callC B0 (z_runV (q0 := 0) (As := [.int 0, .int 30]) (st := []) B0 (c_X11_after_35 (a := a) (cS0 w)  ) cf_X11_after (cw_0 cy tE a rw (cS0 w)) rfl wm_L_87 wi_X11_after ws_X11_after dL_law_719 rfl (Nat.le_of_ble_eq_true rfl) ⟨by decide, by decide, by decide, by decide⟩) (fun r1 u1 p1 => ?_)
    obtain ⟨rfl, -⟩ := p1
    refine z_aload_n B0 dL_law_722 rfl rfl ?_
    refine z_aload_n B0 dL_law_723 rfl rfl ?_
    refine z_iload_n B0 dL_law_724 rfl rfl ?_
    refine z_iconst (v := 1) B0 dL_law_725 (by decide) ?_
    refine z_iadd (v := 1) B0 dL_law_726 (by decide) ?_
    refine y_sld (j := 1) (v := 0) B0 hX hbl (by decide) e1.symm dL_law_727 ?_
    refine z_aload_n B0 dL_law_728 rfl rfl ?_
    refine z_iload_n B0 dL_law_729 rfl rfl ?_
    refine z_iconst (v := 2) B0 dL_law_730 (by decide) ?_
    refine z_iadd (v := 2) B0 dL_law_731 (by decide) ?_
    refine y_sld (j := 2) (v := 30) B0 hX hbl (by decide) e2.symm dL_law_732 ?_
    refine z_callM B0 (z_runV (q0 := 0) (As := [.int 0, .int 30]) (st := [.int (-1)]) B0 (c_X12_after_35 (a := a2) mS0  rfl rfl rfl rfl rfl rfl rfl rfl rfl rfl rfl rfl rfl rfl rfl rfl rfl rfl rfl rfl rfl rfl rfl rfl rfl rfl rfl) cf_X12_after (mw_0 cy a2 mS0) rfl wm_L_90 wi_X12_after ws_X12_after dL_law_733 rfl (Nat.le_of_ble_eq_true rfl) ⟨by decide, by decide, by decide, by decide⟩) (fun r2 u2 p2 => ?_)
    obtain ⟨rfl, -⟩ := p2
    refine z_icmp_eq_t (tgt := 1091) B0 dL_law_736 (by decide) rfl ?_
    exact fin u1 u2
  · obtain rfl : x2 = 31 := Int32.toInt_inj.mp (h2.trans (by decide))
    refine z_aload_n B0 dL_law_708 rfl rfl ?_
    refine z_aload_n B0 dL_law_709 rfl rfl ?_
    refine z_iload_n B0 dL_law_710 rfl rfl ?_
    refine z_iconst (v := 1) B0 dL_law_711 (by decide) ?_
    refine z_iadd (v := 1) B0 dL_law_712 (by decide) ?_
    refine y_sld (j := 1) (v := 0) B0 hX hbl (by decide) e1.symm dL_law_713 ?_
    refine z_aload_n B0 dL_law_714 rfl rfl ?_
    refine z_iload_n B0 dL_law_715 rfl rfl ?_
    refine z_iconst (v := 2) B0 dL_law_716 (by decide) ?_
    refine z_iadd (v := 2) B0 dL_law_717 (by decide) ?_
    refine y_sld (j := 2) (v := 31) B0 hX hbl (by decide) e2.symm dL_law_718 ?_
    refine z_callC B0 (z_runV (q0 := 0) (As := [.int 0, .int 31]) (st := []) B0 (c_X11_after_36 (a := a) (cS0 w)  rfl rfl rfl hrw) cf_X11_after (cw_0 cy tE a rw (cS0 w)) rfl wm_L_87 wi_X11_after ws_X11_after dL_law_719 rfl (Nat.le_of_ble_eq_true rfl) ⟨by decide, by decide, by decide, by decide⟩) (fun r1 u1 p1 => ?_)
    obtain ⟨rfl, -⟩ := p1
    refine z_aload_n B0 dL_law_722 rfl rfl ?_
    refine z_aload_n B0 dL_law_723 rfl rfl ?_
    refine z_iload_n B0 dL_law_724 rfl rfl ?_
    refine z_iconst (v := 1) B0 dL_law_725 (by decide) ?_
    refine z_iadd (v := 1) B0 dL_law_726 (by decide) ?_
    refine y_sld (j := 1) (v := 0) B0 hX hbl (by decide) e1.symm dL_law_727 ?_
    refine z_aload_n B0 dL_law_728 rfl rfl ?_
    refine z_iload_n B0 dL_law_729 rfl rfl ?_
    refine z_iconst (v := 2) B0 dL_law_730 (by decide) ?_
    refine z_iadd (v := 2) B0 dL_law_731 (by decide) ?_
    refine y_sld (j := 2) (v := 31) B0 hX hbl (by decide) e2.symm dL_law_732 ?_
    refine z_callM B0 (z_runV (q0 := 0) (As := [.int 0, .int 31]) (st := [.int 0]) B0 (c_X12_after_36 (a := a2) mS0  rfl rfl rfl rfl rfl rfl rfl rfl rfl rfl rfl rfl rfl rfl rfl rfl rfl rfl rfl rfl rfl rfl rfl rfl rfl rfl rfl) cf_X12_after (mw_0 cy a2 mS0) rfl wm_L_90 wi_X12_after ws_X12_after dL_law_733 rfl (Nat.le_of_ble_eq_true rfl) ⟨by decide, by decide, by decide, by decide⟩) (fun r2 u2 p2 => ?_)
    obtain ⟨rfl, -⟩ := p2
    refine z_icmp_eq_t (tgt := 1091) B0 dL_law_736 (by decide) rfl ?_
    exact fin u1 u2
  · obtain rfl : x2 = 32 := Int32.toInt_inj.mp (h2.trans (by decide))
    refine z_aload_n B0 dL_law_708 rfl rfl ?_
    refine z_aload_n B0 dL_law_709 rfl rfl ?_
    refine z_iload_n B0 dL_law_710 rfl rfl ?_
    refine z_iconst (v := 1) B0 dL_law_711 (by decide) ?_
    refine z_iadd (v := 1) B0 dL_law_712 (by decide) ?_
    refine y_sld (j := 1) (v := 0) B0 hX hbl (by decide) e1.symm dL_law_713 ?_
    refine z_aload_n B0 dL_law_714 rfl rfl ?_
    refine z_iload_n B0 dL_law_715 rfl rfl ?_
    refine z_iconst (v := 2) B0 dL_law_716 (by decide) ?_
    refine z_iadd (v := 2) B0 dL_law_717 (by decide) ?_
    refine y_sld (j := 2) (v := 32) B0 hX hbl (by decide) e2.symm dL_law_718 ?_
    refine z_callC B0 (z_runV (q0 := 0) (As := [.int 0, .int 32]) (st := []) B0 (c_X11_after_37 (a := a) (cS0 w)  rfl rfl rfl hrw) cf_X11_after (cw_0 cy tE a rw (cS0 w)) rfl wm_L_87 wi_X11_after ws_X11_after dL_law_719 rfl (Nat.le_of_ble_eq_true rfl) ⟨by decide, by decide, by decide, by decide⟩) (fun r1 u1 p1 => ?_)
    obtain ⟨rfl, -⟩ := p1
    refine z_aload_n B0 dL_law_722 rfl rfl ?_
    refine z_aload_n B0 dL_law_723 rfl rfl ?_
    refine z_iload_n B0 dL_law_724 rfl rfl ?_
    refine z_iconst (v := 1) B0 dL_law_725 (by decide) ?_
    refine z_iadd (v := 1) B0 dL_law_726 (by decide) ?_
    refine y_sld (j := 1) (v := 0) B0 hX hbl (by decide) e1.symm dL_law_727 ?_
    refine z_aload_n B0 dL_law_728 rfl rfl ?_
    refine z_iload_n B0 dL_law_729 rfl rfl ?_
    refine z_iconst (v := 2) B0 dL_law_730 (by decide) ?_
    refine z_iadd (v := 2) B0 dL_law_731 (by decide) ?_
    refine y_sld (j := 2) (v := 32) B0 hX hbl (by decide) e2.symm dL_law_732 ?_
    refine z_callM B0 (z_runV (q0 := 0) (As := [.int 0, .int 32]) (st := [.int 0]) B0 (c_X12_after_37 (a := a2) mS0  rfl rfl rfl rfl rfl rfl rfl rfl rfl rfl rfl rfl rfl rfl rfl rfl rfl rfl rfl rfl rfl rfl rfl rfl rfl rfl rfl) cf_X12_after (mw_0 cy a2 mS0) rfl wm_L_90 wi_X12_after ws_X12_after dL_law_733 rfl (Nat.le_of_ble_eq_true rfl) ⟨by decide, by decide, by decide, by decide⟩) (fun r2 u2 p2 => ?_)
    obtain ⟨rfl, -⟩ := p2
    refine z_icmp_eq_t (tgt := 1091) B0 dL_law_736 (by decide) rfl ?_
    exact fin u1 u2
  · obtain rfl : x2 = 33 := Int32.toInt_inj.mp (h2.trans (by decide))
    refine z_aload_n B0 dL_law_708 rfl rfl ?_
    refine z_aload_n B0 dL_law_709 rfl rfl ?_
    refine z_iload_n B0 dL_law_710 rfl rfl ?_
    refine z_iconst (v := 1) B0 dL_law_711 (by decide) ?_
    refine z_iadd (v := 1) B0 dL_law_712 (by decide) ?_
    refine y_sld (j := 1) (v := 0) B0 hX hbl (by decide) e1.symm dL_law_713 ?_
    refine z_aload_n B0 dL_law_714 rfl rfl ?_
    refine z_iload_n B0 dL_law_715 rfl rfl ?_
    refine z_iconst (v := 2) B0 dL_law_716 (by decide) ?_
    refine z_iadd (v := 2) B0 dL_law_717 (by decide) ?_
    refine y_sld (j := 2) (v := 33) B0 hX hbl (by decide) e2.symm dL_law_718 ?_
    refine z_callC B0 (z_runV (q0 := 0) (As := [.int 0, .int 33]) (st := []) B0 (c_X11_after_38 (a := a) (cS0 w)  rfl rfl rfl hrw) cf_X11_after (cw_0 cy tE a rw (cS0 w)) rfl wm_L_87 wi_X11_after ws_X11_after dL_law_719 rfl (Nat.le_of_ble_eq_true rfl) ⟨by decide, by decide, by decide, by decide⟩) (fun r1 u1 p1 => ?_)
    obtain ⟨rfl, -⟩ := p1
    refine z_aload_n B0 dL_law_722 rfl rfl ?_
    refine z_aload_n B0 dL_law_723 rfl rfl ?_
    refine z_iload_n B0 dL_law_724 rfl rfl ?_
    refine z_iconst (v := 1) B0 dL_law_725 (by decide) ?_
    refine z_iadd (v := 1) B0 dL_law_726 (by decide) ?_
    refine y_sld (j := 1) (v := 0) B0 hX hbl (by decide) e1.symm dL_law_727 ?_
    refine z_aload_n B0 dL_law_728 rfl rfl ?_
    refine z_iload_n B0 dL_law_729 rfl rfl ?_
    refine z_iconst (v := 2) B0 dL_law_730 (by decide) ?_
    refine z_iadd (v := 2) B0 dL_law_731 (by decide) ?_
    refine y_sld (j := 2) (v := 33) B0 hX hbl (by decide) e2.symm dL_law_732 ?_
    refine z_callM B0 (z_runV (q0 := 0) (As := [.int 0, .int 33]) (st := [.int 0]) B0 (c_X12_after_38 (a := a2) mS0  rfl rfl rfl rfl rfl rfl rfl rfl rfl rfl rfl rfl rfl rfl rfl rfl rfl rfl rfl rfl rfl rfl rfl rfl rfl rfl rfl) cf_X12_after (mw_0 cy a2 mS0) rfl wm_L_90 wi_X12_after ws_X12_after dL_law_733 rfl (Nat.le_of_ble_eq_true rfl) ⟨by decide, by decide, by decide, by decide⟩) (fun r2 u2 p2 => ?_)
    obtain ⟨rfl, -⟩ := p2
    refine z_icmp_eq_t (tgt := 1091) B0 dL_law_736 (by decide) rfl ?_
    exact fin u1 u2
  · obtain rfl : x2 = 34 := Int32.toInt_inj.mp (h2.trans (by decide))
    refine z_aload_n B0 dL_law_708 rfl rfl ?_
    refine z_aload_n B0 dL_law_709 rfl rfl ?_
    refine z_iload_n B0 dL_law_710 rfl rfl ?_
    refine z_iconst (v := 1) B0 dL_law_711 (by decide) ?_
    refine z_iadd (v := 1) B0 dL_law_712 (by decide) ?_
    refine y_sld (j := 1) (v := 0) B0 hX hbl (by decide) e1.symm dL_law_713 ?_
    refine z_aload_n B0 dL_law_714 rfl rfl ?_
    refine z_iload_n B0 dL_law_715 rfl rfl ?_
    refine z_iconst (v := 2) B0 dL_law_716 (by decide) ?_
    refine z_iadd (v := 2) B0 dL_law_717 (by decide) ?_
    refine y_sld (j := 2) (v := 34) B0 hX hbl (by decide) e2.symm dL_law_718 ?_
    refine z_callC B0 (z_runV (q0 := 0) (As := [.int 0, .int 34]) (st := []) B0 (c_X11_after_39 (a := a) (cS0 w)  ) cf_X11_after (cw_0 cy tE a rw (cS0 w)) rfl wm_L_87 wi_X11_after ws_X11_after dL_law_719 rfl (Nat.le_of_ble_eq_true rfl) ⟨by decide, by decide, by decide, by decide⟩) (fun r1 u1 p1 => ?_)
    obtain ⟨rfl, -⟩ := p1
    refine z_aload_n B0 dL_law_722 rfl rfl ?_
    refine z_aload_n B0 dL_law_723 rfl rfl ?_
    refine z_iload_n B0 dL_law_724 rfl rfl ?_
    refine z_iconst (v := 1) B0 dL_law_725 (by decide) ?_
    refine z_iadd (v := 1) B0 dL_law_726 (by decide) ?_
    refine y_sld (j := 1) (v := 0) B0 hX hbl (by decide) e1.symm dL_law_727 ?_
    refine z_aload_n B0 dL_law_728 rfl rfl ?_
    refine z_iload_n B0 dL_law_729 rfl rfl ?_
    refine z_iconst (v := 2) B0 dL_law_730 (by decide) ?_
    refine z_iadd (v := 2) B0 dL_law_731 (by decide) ?_
    refine y_sld (j := 2) (v := 34) B0 hX hbl (by decide) e2.symm dL_law_732 ?_
    refine z_callM B0 (z_runV (q0 := 0) (As := [.int 0, .int 34]) (st := [.int (-1)]) B0 (c_X12_after_39 (a := a2) mS0  rfl rfl rfl rfl rfl rfl rfl rfl rfl rfl rfl rfl rfl rfl rfl rfl rfl rfl rfl rfl rfl rfl rfl rfl rfl rfl rfl) cf_X12_after (mw_0 cy a2 mS0) rfl wm_L_90 wi_X12_after ws_X12_after dL_law_733 rfl (Nat.le_of_ble_eq_true rfl) ⟨by decide, by decide, by decide, by decide⟩) (fun r2 u2 p2 => ?_)
    obtain ⟨rfl, -⟩ := p2
    refine z_icmp_eq_t (tgt := 1091) B0 dL_law_736 (by decide) rfl ?_
    exact fin u1 u2
  · obtain rfl : x2 = 35 := Int32.toInt_inj.mp (h2.trans (by decide))
    refine z_aload_n B0 dL_law_708 rfl rfl ?_
    refine z_aload_n B0 dL_law_709 rfl rfl ?_
    refine z_iload_n B0 dL_law_710 rfl rfl ?_
    refine z_iconst (v := 1) B0 dL_law_711 (by decide) ?_
    refine z_iadd (v := 1) B0 dL_law_712 (by decide) ?_
    refine y_sld (j := 1) (v := 0) B0 hX hbl (by decide) e1.symm dL_law_713 ?_
    refine z_aload_n B0 dL_law_714 rfl rfl ?_
    refine z_iload_n B0 dL_law_715 rfl rfl ?_
    refine z_iconst (v := 2) B0 dL_law_716 (by decide) ?_
    refine z_iadd (v := 2) B0 dL_law_717 (by decide) ?_
    refine y_sld (j := 2) (v := 35) B0 hX hbl (by decide) e2.symm dL_law_718 ?_
    refine z_callC B0 (z_runV (q0 := 0) (As := [.int 0, .int 35]) (st := []) B0 (c_X11_after_40 (a := a) (cS0 w)  rfl rfl rfl hrw) cf_X11_after (cw_0 cy tE a rw (cS0 w)) rfl wm_L_87 wi_X11_after ws_X11_after dL_law_719 rfl (Nat.le_of_ble_eq_true rfl) ⟨by decide, by decide, by decide, by decide⟩) (fun r1 u1 p1 => ?_)
    obtain ⟨rfl, -⟩ := p1
    refine z_aload_n B0 dL_law_722 rfl rfl ?_
    refine z_aload_n B0 dL_law_723 rfl rfl ?_
    refine z_iload_n B0 dL_law_724 rfl rfl ?_
    refine z_iconst (v := 1) B0 dL_law_725 (by decide) ?_
    refine z_iadd (v := 1) B0 dL_law_726 (by decide) ?_
    refine y_sld (j := 1) (v := 0) B0 hX hbl (by decide) e1.symm dL_law_727 ?_
    refine z_aload_n B0 dL_law_728 rfl rfl ?_
    refine z_iload_n B0 dL_law_729 rfl rfl ?_
    refine z_iconst (v := 2) B0 dL_law_730 (by decide) ?_
    refine z_iadd (v := 2) B0 dL_law_731 (by decide) ?_
    refine y_sld (j := 2) (v := 35) B0 hX hbl (by decide) e2.symm dL_law_732 ?_
    refine z_callM B0 (z_runV (q0 := 0) (As := [.int 0, .int 35]) (st := [.int 0]) B0 (c_X12_after_40 (a := a2) mS0  rfl rfl rfl rfl rfl rfl rfl rfl rfl rfl rfl rfl rfl rfl rfl rfl rfl rfl rfl rfl rfl rfl rfl rfl rfl rfl rfl) cf_X12_after (mw_0 cy a2 mS0) rfl wm_L_90 wi_X12_after ws_X12_after dL_law_733 rfl (Nat.le_of_ble_eq_true rfl) ⟨by decide, by decide, by decide, by decide⟩) (fun r2 u2 p2 => ?_)
    obtain ⟨rfl, -⟩ := p2
    refine z_icmp_eq_t (tgt := 1091) B0 dL_law_736 (by decide) rfl ?_
    exact fin u1 u2
  · obtain rfl : x2 = 36 := Int32.toInt_inj.mp (h2.trans (by decide))
    refine z_aload_n B0 dL_law_708 rfl rfl ?_
    refine z_aload_n B0 dL_law_709 rfl rfl ?_
    refine z_iload_n B0 dL_law_710 rfl rfl ?_
    refine z_iconst (v := 1) B0 dL_law_711 (by decide) ?_
    refine z_iadd (v := 1) B0 dL_law_712 (by decide) ?_
    refine y_sld (j := 1) (v := 0) B0 hX hbl (by decide) e1.symm dL_law_713 ?_
    refine z_aload_n B0 dL_law_714 rfl rfl ?_
    refine z_iload_n B0 dL_law_715 rfl rfl ?_
    refine z_iconst (v := 2) B0 dL_law_716 (by decide) ?_
    refine z_iadd (v := 2) B0 dL_law_717 (by decide) ?_
    refine y_sld (j := 2) (v := 36) B0 hX hbl (by decide) e2.symm dL_law_718 ?_
    refine z_callC B0 (z_runV (q0 := 0) (As := [.int 0, .int 36]) (st := []) B0 (c_X11_after_41 (a := a) (cS0 w)  rfl rfl rfl hrw) cf_X11_after (cw_0 cy tE a rw (cS0 w)) rfl wm_L_87 wi_X11_after ws_X11_after dL_law_719 rfl (Nat.le_of_ble_eq_true rfl) ⟨by decide, by decide, by decide, by decide⟩) (fun r1 u1 p1 => ?_)
    obtain ⟨rfl, -⟩ := p1
    refine z_aload_n B0 dL_law_722 rfl rfl ?_
    refine z_aload_n B0 dL_law_723 rfl rfl ?_
    refine z_iload_n B0 dL_law_724 rfl rfl ?_
    refine z_iconst (v := 1) B0 dL_law_725 (by decide) ?_
    refine z_iadd (v := 1) B0 dL_law_726 (by decide) ?_
    refine y_sld (j := 1) (v := 0) B0 hX hbl (by decide) e1.symm dL_law_727 ?_
    refine z_aload_n B0 dL_law_728 rfl rfl ?_
    refine z_iload_n B0 dL_law_729 rfl rfl ?_
    refine z_iconst (v := 2) B0 dL_law_730 (by decide) ?_
    refine z_iadd (v := 2) B0 dL_law_731 (by decide) ?_
    refine y_sld (j := 2) (v := 36) B0 hX hbl (by decide) e2.symm dL_law_732 ?_
    refine z_callM B0 (z_runV (q0 := 0) (As := [.int 0, .int 36]) (st := [.int 0]) B0 (c_X12_after_41 (a := a2) mS0  rfl rfl rfl rfl rfl rfl rfl rfl rfl rfl rfl rfl rfl rfl rfl rfl rfl rfl rfl rfl rfl rfl rfl rfl rfl rfl rfl) cf_X12_after (mw_0 cy a2 mS0) rfl wm_L_90 wi_X12_after ws_X12_after dL_law_733 rfl (Nat.le_of_ble_eq_true rfl) ⟨by decide, by decide, by decide, by decide⟩) (fun r2 u2 p2 => ?_)
    obtain ⟨rfl, -⟩ := p2
    refine z_icmp_eq_t (tgt := 1091) B0 dL_law_736 (by decide) rfl ?_
    exact fin u1 u2
  · obtain rfl : x2 = 37 := Int32.toInt_inj.mp (h2.trans (by decide))
    refine z_aload_n B0 dL_law_708 rfl rfl ?_
    refine z_aload_n B0 dL_law_709 rfl rfl ?_
    refine z_iload_n B0 dL_law_710 rfl rfl ?_
    refine z_iconst (v := 1) B0 dL_law_711 (by decide) ?_
    refine z_iadd (v := 1) B0 dL_law_712 (by decide) ?_
    refine y_sld (j := 1) (v := 0) B0 hX hbl (by decide) e1.symm dL_law_713 ?_
    refine z_aload_n B0 dL_law_714 rfl rfl ?_
    refine z_iload_n B0 dL_law_715 rfl rfl ?_
    refine z_iconst (v := 2) B0 dL_law_716 (by decide) ?_
    refine z_iadd (v := 2) B0 dL_law_717 (by decide) ?_
    refine y_sld (j := 2) (v := 37) B0 hX hbl (by decide) e2.symm dL_law_718 ?_
    refine z_callC B0 (z_runV (q0 := 0) (As := [.int 0, .int 37]) (st := []) B0 (c_X11_after_42 (a := a) (cS0 w)  rfl rfl rfl hrw) cf_X11_after (cw_0 cy tE a rw (cS0 w)) rfl wm_L_87 wi_X11_after ws_X11_after dL_law_719 rfl (Nat.le_of_ble_eq_true rfl) ⟨by decide, by decide, by decide, by decide⟩) (fun r1 u1 p1 => ?_)
    obtain ⟨rfl, -⟩ := p1
    refine z_aload_n B0 dL_law_722 rfl rfl ?_
    refine z_aload_n B0 dL_law_723 rfl rfl ?_
    refine z_iload_n B0 dL_law_724 rfl rfl ?_
    refine z_iconst (v := 1) B0 dL_law_725 (by decide) ?_
    refine z_iadd (v := 1) B0 dL_law_726 (by decide) ?_
    refine y_sld (j := 1) (v := 0) B0 hX hbl (by decide) e1.symm dL_law_727 ?_
    refine z_aload_n B0 dL_law_728 rfl rfl ?_
    refine z_iload_n B0 dL_law_729 rfl rfl ?_
    refine z_iconst (v := 2) B0 dL_law_730 (by decide) ?_
    refine z_iadd (v := 2) B0 dL_law_731 (by decide) ?_
    refine y_sld (j := 2) (v := 37) B0 hX hbl (by decide) e2.symm dL_law_732 ?_
    refine z_callM B0 (z_runV (q0 := 0) (As := [.int 0, .int 37]) (st := [.int 0]) B0 (c_X12_after_42 (a := a2) mS0  rfl rfl rfl rfl rfl rfl rfl rfl rfl rfl rfl rfl rfl rfl rfl rfl rfl rfl rfl rfl rfl rfl rfl rfl rfl rfl rfl) cf_X12_after (mw_0 cy a2 mS0) rfl wm_L_90 wi_X12_after ws_X12_after dL_law_733 rfl (Nat.le_of_ble_eq_true rfl) ⟨by decide, by decide, by decide, by decide⟩) (fun r2 u2 p2 => ?_)
    obtain ⟨rfl, -⟩ := p2
    refine z_icmp_eq_t (tgt := 1091) B0 dL_law_736 (by decide) rfl ?_
    exact fin u1 u2
  · obtain rfl : x2 = 38 := Int32.toInt_inj.mp (h2.trans (by decide))
    refine z_aload_n B0 dL_law_708 rfl rfl ?_
    refine z_aload_n B0 dL_law_709 rfl rfl ?_
    refine z_iload_n B0 dL_law_710 rfl rfl ?_
    refine z_iconst (v := 1) B0 dL_law_711 (by decide) ?_
    refine z_iadd (v := 1) B0 dL_law_712 (by decide) ?_
    refine y_sld (j := 1) (v := 0) B0 hX hbl (by decide) e1.symm dL_law_713 ?_
    refine z_aload_n B0 dL_law_714 rfl rfl ?_
    refine z_iload_n B0 dL_law_715 rfl rfl ?_
    refine z_iconst (v := 2) B0 dL_law_716 (by decide) ?_
    refine z_iadd (v := 2) B0 dL_law_717 (by decide) ?_
    refine y_sld (j := 2) (v := 38) B0 hX hbl (by decide) e2.symm dL_law_718 ?_
    refine z_callC B0 (z_runV (q0 := 0) (As := [.int 0, .int 38]) (st := []) B0 (c_X11_after_43 (a := a) (cS0 w)  ) cf_X11_after (cw_0 cy tE a rw (cS0 w)) rfl wm_L_87 wi_X11_after ws_X11_after dL_law_719 rfl (Nat.le_of_ble_eq_true rfl) ⟨by decide, by decide, by decide, by decide⟩) (fun r1 u1 p1 => ?_)
    obtain ⟨rfl, -⟩ := p1
    refine z_aload_n B0 dL_law_722 rfl rfl ?_
    refine z_aload_n B0 dL_law_723 rfl rfl ?_
    refine z_iload_n B0 dL_law_724 rfl rfl ?_
    refine z_iconst (v := 1) B0 dL_law_725 (by decide) ?_
    refine z_iadd (v := 1) B0 dL_law_726 (by decide) ?_
    refine y_sld (j := 1) (v := 0) B0 hX hbl (by decide) e1.symm dL_law_727 ?_
    refine z_aload_n B0 dL_law_728 rfl rfl ?_
    refine z_iload_n B0 dL_law_729 rfl rfl ?_
    refine z_iconst (v := 2) B0 dL_law_730 (by decide) ?_
    refine z_iadd (v := 2) B0 dL_law_731 (by decide) ?_
    refine y_sld (j := 2) (v := 38) B0 hX hbl (by decide) e2.symm dL_law_732 ?_
    refine z_callM B0 (z_runV (q0 := 0) (As := [.int 0, .int 38]) (st := [.int (-1)]) B0 (c_X12_after_43 (a := a2) mS0  rfl rfl rfl rfl rfl rfl rfl rfl rfl rfl rfl rfl rfl rfl rfl rfl rfl rfl rfl rfl rfl rfl rfl rfl rfl rfl rfl) cf_X12_after (mw_0 cy a2 mS0) rfl wm_L_90 wi_X12_after ws_X12_after dL_law_733 rfl (Nat.le_of_ble_eq_true rfl) ⟨by decide, by decide, by decide, by decide⟩) (fun r2 u2 p2 => ?_)
    obtain ⟨rfl, -⟩ := p2
    refine z_icmp_eq_t (tgt := 1091) B0 dL_law_736 (by decide) rfl ?_
    exact fin u1 u2
  · obtain rfl : x2 = 39 := Int32.toInt_inj.mp (h2.trans (by decide))
    refine z_aload_n B0 dL_law_708 rfl rfl ?_
    refine z_aload_n B0 dL_law_709 rfl rfl ?_
    refine z_iload_n B0 dL_law_710 rfl rfl ?_
    refine z_iconst (v := 1) B0 dL_law_711 (by decide) ?_
    refine z_iadd (v := 1) B0 dL_law_712 (by decide) ?_
    refine y_sld (j := 1) (v := 0) B0 hX hbl (by decide) e1.symm dL_law_713 ?_
    refine z_aload_n B0 dL_law_714 rfl rfl ?_
    refine z_iload_n B0 dL_law_715 rfl rfl ?_
    refine z_iconst (v := 2) B0 dL_law_716 (by decide) ?_
    refine z_iadd (v := 2) B0 dL_law_717 (by decide) ?_
    refine y_sld (j := 2) (v := 39) B0 hX hbl (by decide) e2.symm dL_law_718 ?_
    refine z_callC B0 (z_runV (q0 := 0) (As := [.int 0, .int 39]) (st := []) B0 (c_X11_after_44 (a := a) (cS0 w)  ) cf_X11_after (cw_0 cy tE a rw (cS0 w)) rfl wm_L_87 wi_X11_after ws_X11_after dL_law_719 rfl (Nat.le_of_ble_eq_true rfl) ⟨by decide, by decide, by decide, by decide⟩) (fun r1 u1 p1 => ?_)
    obtain ⟨rfl, -⟩ := p1
    refine z_aload_n B0 dL_law_722 rfl rfl ?_
    refine z_aload_n B0 dL_law_723 rfl rfl ?_
    refine z_iload_n B0 dL_law_724 rfl rfl ?_
    refine z_iconst (v := 1) B0 dL_law_725 (by decide) ?_
    refine z_iadd (v := 1) B0 dL_law_726 (by decide) ?_
    refine y_sld (j := 1) (v := 0) B0 hX hbl (by decide) e1.symm dL_law_727 ?_
    refine z_aload_n B0 dL_law_728 rfl rfl ?_
    refine z_iload_n B0 dL_law_729 rfl rfl ?_
    refine z_iconst (v := 2) B0 dL_law_730 (by decide) ?_
    refine z_iadd (v := 2) B0 dL_law_731 (by decide) ?_
    refine y_sld (j := 2) (v := 39) B0 hX hbl (by decide) e2.symm dL_law_732 ?_
    refine z_callM B0 (z_runV (q0 := 0) (As := [.int 0, .int 39]) (st := [.int (-1)]) B0 (c_X12_after_44 (a := a2) mS0  rfl rfl rfl rfl rfl rfl rfl rfl rfl rfl rfl rfl rfl rfl rfl rfl rfl rfl rfl rfl rfl rfl rfl rfl rfl rfl rfl) cf_X12_after (mw_0 cy a2 mS0) rfl wm_L_90 wi_X12_after ws_X12_after dL_law_733 rfl (Nat.le_of_ble_eq_true rfl) ⟨by decide, by decide, by decide, by decide⟩) (fun r2 u2 p2 => ?_)
    obtain ⟨rfl, -⟩ := p2
    refine z_icmp_eq_t (tgt := 1091) B0 dL_law_736 (by decide) rfl ?_
    exact fin u1 u2
  · obtain rfl : x2 = 40 := Int32.toInt_inj.mp (h2.trans (by decide))
    refine z_aload_n B0 dL_law_708 rfl rfl ?_
    refine z_aload_n B0 dL_law_709 rfl rfl ?_
    refine z_iload_n B0 dL_law_710 rfl rfl ?_
    refine z_iconst (v := 1) B0 dL_law_711 (by decide) ?_
    refine z_iadd (v := 1) B0 dL_law_712 (by decide) ?_
    refine y_sld (j := 1) (v := 0) B0 hX hbl (by decide) e1.symm dL_law_713 ?_
    refine z_aload_n B0 dL_law_714 rfl rfl ?_
    refine z_iload_n B0 dL_law_715 rfl rfl ?_
    refine z_iconst (v := 2) B0 dL_law_716 (by decide) ?_
    refine z_iadd (v := 2) B0 dL_law_717 (by decide) ?_
    refine y_sld (j := 2) (v := 40) B0 hX hbl (by decide) e2.symm dL_law_718 ?_
    refine z_callC B0 (z_runV (q0 := 0) (As := [.int 0, .int 40]) (st := []) B0 (c_X11_after_45 (a := a) (cS0 w)  rfl rfl rfl hrw) cf_X11_after (cw_0 cy tE a rw (cS0 w)) rfl wm_L_87 wi_X11_after ws_X11_after dL_law_719 rfl (Nat.le_of_ble_eq_true rfl) ⟨by decide, by decide, by decide, by decide⟩) (fun r1 u1 p1 => ?_)
    obtain ⟨rfl, -⟩ := p1
    refine z_aload_n B0 dL_law_722 rfl rfl ?_
    refine z_aload_n B0 dL_law_723 rfl rfl ?_
    refine z_iload_n B0 dL_law_724 rfl rfl ?_
    refine z_iconst (v := 1) B0 dL_law_725 (by decide) ?_
    refine z_iadd (v := 1) B0 dL_law_726 (by decide) ?_
    refine y_sld (j := 1) (v := 0) B0 hX hbl (by decide) e1.symm dL_law_727 ?_
    refine z_aload_n B0 dL_law_728 rfl rfl ?_
    refine z_iload_n B0 dL_law_729 rfl rfl ?_
    refine z_iconst (v := 2) B0 dL_law_730 (by decide) ?_
    refine z_iadd (v := 2) B0 dL_law_731 (by decide) ?_
    refine y_sld (j := 2) (v := 40) B0 hX hbl (by decide) e2.symm dL_law_732 ?_
    refine z_callM B0 (z_runV (q0 := 0) (As := [.int 0, .int 40]) (st := [.int 3]) B0 (c_X12_after_45 (a := a2) mS0  rfl rfl rfl rfl rfl rfl rfl rfl rfl rfl rfl rfl rfl rfl rfl rfl rfl rfl rfl rfl rfl rfl rfl rfl rfl rfl rfl) cf_X12_after (mw_0 cy a2 mS0) rfl wm_L_90 wi_X12_after ws_X12_after dL_law_733 rfl (Nat.le_of_ble_eq_true rfl) ⟨by decide, by decide, by decide, by decide⟩) (fun r2 u2 p2 => ?_)
    obtain ⟨rfl, -⟩ := p2
    refine z_icmp_eq_t (tgt := 1091) B0 dL_law_736 (by decide) rfl ?_
    exact fin u1 u2
  · obtain rfl : x2 = 41 := Int32.toInt_inj.mp (h2.trans (by decide))
    refine z_aload_n B0 dL_law_708 rfl rfl ?_
    refine z_aload_n B0 dL_law_709 rfl rfl ?_
    refine z_iload_n B0 dL_law_710 rfl rfl ?_
    refine z_iconst (v := 1) B0 dL_law_711 (by decide) ?_
    refine z_iadd (v := 1) B0 dL_law_712 (by decide) ?_
    refine y_sld (j := 1) (v := 0) B0 hX hbl (by decide) e1.symm dL_law_713 ?_
    refine z_aload_n B0 dL_law_714 rfl rfl ?_
    refine z_iload_n B0 dL_law_715 rfl rfl ?_
    refine z_iconst (v := 2) B0 dL_law_716 (by decide) ?_
    refine z_iadd (v := 2) B0 dL_law_717 (by decide) ?_
    refine y_sld (j := 2) (v := 41) B0 hX hbl (by decide) e2.symm dL_law_718 ?_
    refine z_callC B0 (z_runV (q0 := 0) (As := [.int 0, .int 41]) (st := []) B0 (c_X11_after_46 (a := a) (cS0 w)  rfl rfl rfl hrw) cf_X11_after (cw_0 cy tE a rw (cS0 w)) rfl wm_L_87 wi_X11_after ws_X11_after dL_law_719 rfl (Nat.le_of_ble_eq_true rfl) ⟨by decide, by decide, by decide, by decide⟩) (fun r1 u1 p1 => ?_)
    obtain ⟨rfl, -⟩ := p1
    refine z_aload_n B0 dL_law_722 rfl rfl ?_
    refine z_aload_n B0 dL_law_723 rfl rfl ?_
    refine z_iload_n B0 dL_law_724 rfl rfl ?_
    refine z_iconst (v := 1) B0 dL_law_725 (by decide) ?_
    refine z_iadd (v := 1) B0 dL_law_726 (by decide) ?_
    refine y_sld (j := 1) (v := 0) B0 hX hbl (by decide) e1.symm dL_law_727 ?_
    refine z_aload_n B0 dL_law_728 rfl rfl ?_
    refine z_iload_n B0 dL_law_729 rfl rfl ?_
    refine z_iconst (v := 2) B0 dL_law_730 (by decide) ?_
    refine z_iadd (v := 2) B0 dL_law_731 (by decide) ?_
    refine y_sld (j := 2) (v := 41) B0 hX hbl (by decide) e2.symm dL_law_732 ?_
    refine z_callM B0 (z_runV (q0 := 0) (As := [.int 0, .int 41]) (st := [.int 3]) B0 (c_X12_after_46 (a := a2) mS0  rfl rfl rfl rfl rfl rfl rfl rfl rfl rfl rfl rfl rfl rfl rfl rfl rfl rfl rfl rfl rfl rfl rfl rfl rfl rfl rfl) cf_X12_after (mw_0 cy a2 mS0) rfl wm_L_90 wi_X12_after ws_X12_after dL_law_733 rfl (Nat.le_of_ble_eq_true rfl) ⟨by decide, by decide, by decide, by decide⟩) (fun r2 u2 p2 => ?_)
    obtain ⟨rfl, -⟩ := p2
    refine z_icmp_eq_t (tgt := 1091) B0 dL_law_736 (by decide) rfl ?_
    exact fin u1 u2
  · obtain rfl : x2 = 42 := Int32.toInt_inj.mp (h2.trans (by decide))
    refine z_aload_n B0 dL_law_708 rfl rfl ?_
    refine z_aload_n B0 dL_law_709 rfl rfl ?_
    refine z_iload_n B0 dL_law_710 rfl rfl ?_
    refine z_iconst (v := 1) B0 dL_law_711 (by decide) ?_
    refine z_iadd (v := 1) B0 dL_law_712 (by decide) ?_
    refine y_sld (j := 1) (v := 0) B0 hX hbl (by decide) e1.symm dL_law_713 ?_
    refine z_aload_n B0 dL_law_714 rfl rfl ?_
    refine z_iload_n B0 dL_law_715 rfl rfl ?_
    refine z_iconst (v := 2) B0 dL_law_716 (by decide) ?_
    refine z_iadd (v := 2) B0 dL_law_717 (by decide) ?_
    refine y_sld (j := 2) (v := 42) B0 hX hbl (by decide) e2.symm dL_law_718 ?_
    refine z_callC B0 (z_runV (q0 := 0) (As := [.int 0, .int 42]) (st := []) B0 (c_X11_after_47 (a := a) (cS0 w)  rfl rfl rfl hrw) cf_X11_after (cw_0 cy tE a rw (cS0 w)) rfl wm_L_87 wi_X11_after ws_X11_after dL_law_719 rfl (Nat.le_of_ble_eq_true rfl) ⟨by decide, by decide, by decide, by decide⟩) (fun r1 u1 p1 => ?_)
    obtain ⟨rfl, -⟩ := p1
    refine z_aload_n B0 dL_law_722 rfl rfl ?_
    refine z_aload_n B0 dL_law_723 rfl rfl ?_
    refine z_iload_n B0 dL_law_724 rfl rfl ?_
    refine z_iconst (v := 1) B0 dL_law_725 (by decide) ?_
    refine z_iadd (v := 1) B0 dL_law_726 (by decide) ?_
    refine y_sld (j := 1) (v := 0) B0 hX hbl (by decide) e1.symm dL_law_727 ?_
    refine z_aload_n B0 dL_law_728 rfl rfl ?_
    refine z_iload_n B0 dL_law_729 rfl rfl ?_
    refine z_iconst (v := 2) B0 dL_law_730 (by decide) ?_
    refine z_iadd (v := 2) B0 dL_law_731 (by decide) ?_
    refine y_sld (j := 2) (v := 42) B0 hX hbl (by decide) e2.symm dL_law_732 ?_
    refine z_callM B0 (z_runV (q0 := 0) (As := [.int 0, .int 42]) (st := [.int 3]) B0 (c_X12_after_47 (a := a2) mS0  rfl rfl rfl rfl rfl rfl rfl rfl rfl rfl rfl rfl rfl rfl rfl rfl rfl rfl rfl rfl rfl rfl rfl rfl rfl rfl rfl) cf_X12_after (mw_0 cy a2 mS0) rfl wm_L_90 wi_X12_after ws_X12_after dL_law_733 rfl (Nat.le_of_ble_eq_true rfl) ⟨by decide, by decide, by decide, by decide⟩) (fun r2 u2 p2 => ?_)
    obtain ⟨rfl, -⟩ := p2
    refine z_icmp_eq_t (tgt := 1091) B0 dL_law_736 (by decide) rfl ?_
    exact fin u1 u2
  · obtain rfl : x2 = 43 := Int32.toInt_inj.mp (h2.trans (by decide))
    refine z_aload_n B0 dL_law_708 rfl rfl ?_
    refine z_aload_n B0 dL_law_709 rfl rfl ?_
    refine z_iload_n B0 dL_law_710 rfl rfl ?_
    refine z_iconst (v := 1) B0 dL_law_711 (by decide) ?_
    refine z_iadd (v := 1) B0 dL_law_712 (by decide) ?_
    refine y_sld (j := 1) (v := 0) B0 hX hbl (by decide) e1.symm dL_law_713 ?_
    refine z_aload_n B0 dL_law_714 rfl rfl ?_
    refine z_iload_n B0 dL_law_715 rfl rfl ?_
    refine z_iconst (v := 2) B0 dL_law_716 (by decide) ?_
    refine z_iadd (v := 2) B0 dL_law_717 (by decide) ?_
    refine y_sld (j := 2) (v := 43) B0 hX hbl (by decide) e2.symm dL_law_718 ?_
    refine z_callC B0 (z_runV (q0 := 0) (As := [.int 0, .int 43]) (st := []) B0 (c_X11_after_48 (a := a) (cS0 w)  ) cf_X11_after (cw_0 cy tE a rw (cS0 w)) rfl wm_L_87 wi_X11_after ws_X11_after dL_law_719 rfl (Nat.le_of_ble_eq_true rfl) ⟨by decide, by decide, by decide, by decide⟩) (fun r1 u1 p1 => ?_)
    obtain ⟨rfl, -⟩ := p1
    refine z_aload_n B0 dL_law_722 rfl rfl ?_
    refine z_aload_n B0 dL_law_723 rfl rfl ?_
    refine z_iload_n B0 dL_law_724 rfl rfl ?_
    refine z_iconst (v := 1) B0 dL_law_725 (by decide) ?_
    refine z_iadd (v := 1) B0 dL_law_726 (by decide) ?_
    refine y_sld (j := 1) (v := 0) B0 hX hbl (by decide) e1.symm dL_law_727 ?_
    refine z_aload_n B0 dL_law_728 rfl rfl ?_
    refine z_iload_n B0 dL_law_729 rfl rfl ?_
    refine z_iconst (v := 2) B0 dL_law_730 (by decide) ?_
    refine z_iadd (v := 2) B0 dL_law_731 (by decide) ?_
    refine y_sld (j := 2) (v := 43) B0 hX hbl (by decide) e2.symm dL_law_732 ?_
    refine z_callM B0 (z_runV (q0 := 0) (As := [.int 0, .int 43]) (st := [.int (-1)]) B0 (c_X12_after_48 (a := a2) mS0  rfl rfl rfl rfl rfl rfl rfl rfl rfl rfl rfl rfl rfl rfl rfl rfl rfl rfl rfl rfl rfl rfl rfl rfl rfl rfl rfl) cf_X12_after (mw_0 cy a2 mS0) rfl wm_L_90 wi_X12_after ws_X12_after dL_law_733 rfl (Nat.le_of_ble_eq_true rfl) ⟨by decide, by decide, by decide, by decide⟩) (fun r2 u2 p2 => ?_)
    obtain ⟨rfl, -⟩ := p2
    refine z_icmp_eq_t (tgt := 1091) B0 dL_law_736 (by decide) rfl ?_
    exact fin u1 u2
  · obtain rfl : x2 = 44 := Int32.toInt_inj.mp (h2.trans (by decide))
    refine z_aload_n B0 dL_law_708 rfl rfl ?_
    refine z_aload_n B0 dL_law_709 rfl rfl ?_
    refine z_iload_n B0 dL_law_710 rfl rfl ?_
    refine z_iconst (v := 1) B0 dL_law_711 (by decide) ?_
    refine z_iadd (v := 1) B0 dL_law_712 (by decide) ?_
    refine y_sld (j := 1) (v := 0) B0 hX hbl (by decide) e1.symm dL_law_713 ?_
    refine z_aload_n B0 dL_law_714 rfl rfl ?_
    refine z_iload_n B0 dL_law_715 rfl rfl ?_
    refine z_iconst (v := 2) B0 dL_law_716 (by decide) ?_
    refine z_iadd (v := 2) B0 dL_law_717 (by decide) ?_
    refine y_sld (j := 2) (v := 44) B0 hX hbl (by decide) e2.symm dL_law_718 ?_
    refine z_callC B0 (z_runV (q0 := 0) (As := [.int 0, .int 44]) (st := []) B0 (c_X11_after_49 (a := a) (cS0 w)  ) cf_X11_after (cw_0 cy tE a rw (cS0 w)) rfl wm_L_87 wi_X11_after ws_X11_after dL_law_719 rfl (Nat.le_of_ble_eq_true rfl) ⟨by decide, by decide, by decide, by decide⟩) (fun r1 u1 p1 => ?_)
    obtain ⟨rfl, -⟩ := p1
    refine z_aload_n B0 dL_law_722 rfl rfl ?_
    refine z_aload_n B0 dL_law_723 rfl rfl ?_
    refine z_iload_n B0 dL_law_724 rfl rfl ?_
    refine z_iconst (v := 1) B0 dL_law_725 (by decide) ?_
    refine z_iadd (v := 1) B0 dL_law_726 (by decide) ?_
    refine y_sld (j := 1) (v := 0) B0 hX hbl (by decide) e1.symm dL_law_727 ?_
    refine z_aload_n B0 dL_law_728 rfl rfl ?_
    refine z_iload_n B0 dL_law_729 rfl rfl ?_
    refine z_iconst (v := 2) B0 dL_law_730 (by decide) ?_
    refine z_iadd (v := 2) B0 dL_law_731 (by decide) ?_
    refine y_sld (j := 2) (v := 44) B0 hX hbl (by decide) e2.symm dL_law_732 ?_
    refine z_callM B0 (z_runV (q0 := 0) (As := [.int 0, .int 44]) (st := [.int (-1)]) B0 (c_X12_after_49 (a := a2) mS0  rfl rfl rfl rfl rfl rfl rfl rfl rfl rfl rfl rfl rfl rfl rfl rfl rfl rfl rfl rfl rfl rfl rfl rfl rfl rfl rfl) cf_X12_after (mw_0 cy a2 mS0) rfl wm_L_90 wi_X12_after ws_X12_after dL_law_733 rfl (Nat.le_of_ble_eq_true rfl) ⟨by decide, by decide, by decide, by decide⟩) (fun r2 u2 p2 => ?_)
    obtain ⟨rfl, -⟩ := p2
    refine z_icmp_eq_t (tgt := 1091) B0 dL_law_736 (by decide) rfl ?_
    exact fin u1 u2
  · obtain rfl : x2 = 45 := Int32.toInt_inj.mp (h2.trans (by decide))
    refine z_aload_n B0 dL_law_708 rfl rfl ?_
    refine z_aload_n B0 dL_law_709 rfl rfl ?_
    refine z_iload_n B0 dL_law_710 rfl rfl ?_
    refine z_iconst (v := 1) B0 dL_law_711 (by decide) ?_
    refine z_iadd (v := 1) B0 dL_law_712 (by decide) ?_
    refine y_sld (j := 1) (v := 0) B0 hX hbl (by decide) e1.symm dL_law_713 ?_
    refine z_aload_n B0 dL_law_714 rfl rfl ?_
    refine z_iload_n B0 dL_law_715 rfl rfl ?_
    refine z_iconst (v := 2) B0 dL_law_716 (by decide) ?_
    refine z_iadd (v := 2) B0 dL_law_717 (by decide) ?_
    refine y_sld (j := 2) (v := 45) B0 hX hbl (by decide) e2.symm dL_law_718 ?_
    refine z_callC B0 (z_runV (q0 := 0) (As := [.int 0, .int 45]) (st := []) B0 (c_X11_after_50 (a := a) (cS0 w)  ) cf_X11_after (cw_0 cy tE a rw (cS0 w)) rfl wm_L_87 wi_X11_after ws_X11_after dL_law_719 rfl (Nat.le_of_ble_eq_true rfl) ⟨by decide, by decide, by decide, by decide⟩) (fun r1 u1 p1 => ?_)
    obtain ⟨rfl, -⟩ := p1
    refine z_aload_n B0 dL_law_722 rfl rfl ?_
    refine z_aload_n B0 dL_law_723 rfl rfl ?_
    refine z_iload_n B0 dL_law_724 rfl rfl ?_
    refine z_iconst (v := 1) B0 dL_law_725 (by decide) ?_
    refine z_iadd (v := 1) B0 dL_law_726 (by decide) ?_
    refine y_sld (j := 1) (v := 0) B0 hX hbl (by decide) e1.symm dL_law_727 ?_
    refine z_aload_n B0 dL_law_728 rfl rfl ?_
    refine z_iload_n B0 dL_law_729 rfl rfl ?_
    refine z_iconst (v := 2) B0 dL_law_730 (by decide) ?_
    refine z_iadd (v := 2) B0 dL_law_731 (by decide) ?_
    refine y_sld (j := 2) (v := 45) B0 hX hbl (by decide) e2.symm dL_law_732 ?_
    refine z_callM B0 (z_runV (q0 := 0) (As := [.int 0, .int 45]) (st := [.int (-1)]) B0 (c_X12_after_50 (a := a2) mS0  rfl rfl rfl rfl rfl rfl rfl rfl rfl rfl rfl rfl rfl rfl rfl rfl rfl rfl rfl rfl rfl rfl rfl rfl rfl rfl rfl) cf_X12_after (mw_0 cy a2 mS0) rfl wm_L_90 wi_X12_after ws_X12_after dL_law_733 rfl (Nat.le_of_ble_eq_true rfl) ⟨by decide, by decide, by decide, by decide⟩) (fun r2 u2 p2 => ?_)
    obtain ⟨rfl, -⟩ := p2
    refine z_icmp_eq_t (tgt := 1091) B0 dL_law_736 (by decide) rfl ?_
    exact fin u1 u2
  · obtain rfl : x2 = 46 := Int32.toInt_inj.mp (h2.trans (by decide))
    refine z_aload_n B0 dL_law_708 rfl rfl ?_
    refine z_aload_n B0 dL_law_709 rfl rfl ?_
    refine z_iload_n B0 dL_law_710 rfl rfl ?_
    refine z_iconst (v := 1) B0 dL_law_711 (by decide) ?_
    refine z_iadd (v := 1) B0 dL_law_712 (by decide) ?_
    refine y_sld (j := 1) (v := 0) B0 hX hbl (by decide) e1.symm dL_law_713 ?_
    refine z_aload_n B0 dL_law_714 rfl rfl ?_
    refine z_iload_n B0 dL_law_715 rfl rfl ?_
    refine z_iconst (v := 2) B0 dL_law_716 (by decide) ?_
    refine z_iadd (v := 2) B0 dL_law_717 (by decide) ?_
    refine y_sld (j := 2) (v := 46) B0 hX hbl (by decide) e2.symm dL_law_718 ?_
    refine z_callC B0 (z_runV (q0 := 0) (As := [.int 0, .int 46]) (st := []) B0 (c_X11_after_51 (a := a) (cS0 w)  ) cf_X11_after (cw_0 cy tE a rw (cS0 w)) rfl wm_L_87 wi_X11_after ws_X11_after dL_law_719 rfl (Nat.le_of_ble_eq_true rfl) ⟨by decide, by decide, by decide, by decide⟩) (fun r1 u1 p1 => ?_)
    obtain ⟨rfl, -⟩ := p1
    refine z_aload_n B0 dL_law_722 rfl rfl ?_
    refine z_aload_n B0 dL_law_723 rfl rfl ?_
    refine z_iload_n B0 dL_law_724 rfl rfl ?_
    refine z_iconst (v := 1) B0 dL_law_725 (by decide) ?_
    refine z_iadd (v := 1) B0 dL_law_726 (by decide) ?_
    refine y_sld (j := 1) (v := 0) B0 hX hbl (by decide) e1.symm dL_law_727 ?_
    refine z_aload_n B0 dL_law_728 rfl rfl ?_
    refine z_iload_n B0 dL_law_729 rfl rfl ?_
    refine z_iconst (v := 2) B0 dL_law_730 (by decide) ?_
    refine z_iadd (v := 2) B0 dL_law_731 (by decide) ?_
    refine y_sld (j := 2) (v := 46) B0 hX hbl (by decide) e2.symm dL_law_732 ?_
    refine z_callM B0 (z_runV (q0 := 0) (As := [.int 0, .int 46]) (st := [.int (-1)]) B0 (c_X12_after_51 (a := a2) mS0  rfl rfl rfl rfl rfl rfl rfl rfl rfl rfl rfl rfl rfl rfl rfl rfl rfl rfl rfl rfl rfl rfl rfl rfl rfl rfl rfl) cf_X12_after (mw_0 cy a2 mS0) rfl wm_L_90 wi_X12_after ws_X12_after dL_law_733 rfl (Nat.le_of_ble_eq_true rfl) ⟨by decide, by decide, by decide, by decide⟩) (fun r2 u2 p2 => ?_)
    obtain ⟨rfl, -⟩ := p2
    refine z_icmp_eq_t (tgt := 1091) B0 dL_law_736 (by decide) rfl ?_
    exact fin u1 u2
  · obtain rfl : x2 = 47 := Int32.toInt_inj.mp (h2.trans (by decide))
    refine z_aload_n B0 dL_law_708 rfl rfl ?_
    refine z_aload_n B0 dL_law_709 rfl rfl ?_
    refine z_iload_n B0 dL_law_710 rfl rfl ?_
    refine z_iconst (v := 1) B0 dL_law_711 (by decide) ?_
    refine z_iadd (v := 1) B0 dL_law_712 (by decide) ?_
    refine y_sld (j := 1) (v := 0) B0 hX hbl (by decide) e1.symm dL_law_713 ?_
    refine z_aload_n B0 dL_law_714 rfl rfl ?_
    refine z_iload_n B0 dL_law_715 rfl rfl ?_
    refine z_iconst (v := 2) B0 dL_law_716 (by decide) ?_
    refine z_iadd (v := 2) B0 dL_law_717 (by decide) ?_
    refine y_sld (j := 2) (v := 47) B0 hX hbl (by decide) e2.symm dL_law_718 ?_
    refine z_callC B0 (z_runV (q0 := 0) (As := [.int 0, .int 47]) (st := []) B0 (c_X11_after_52 (a := a) (cS0 w)  ) cf_X11_after (cw_0 cy tE a rw (cS0 w)) rfl wm_L_87 wi_X11_after ws_X11_after dL_law_719 rfl (Nat.le_of_ble_eq_true rfl) ⟨by decide, by decide, by decide, by decide⟩) (fun r1 u1 p1 => ?_)
    obtain ⟨rfl, -⟩ := p1
    refine z_aload_n B0 dL_law_722 rfl rfl ?_
    refine z_aload_n B0 dL_law_723 rfl rfl ?_
    refine z_iload_n B0 dL_law_724 rfl rfl ?_
    refine z_iconst (v := 1) B0 dL_law_725 (by decide) ?_
    refine z_iadd (v := 1) B0 dL_law_726 (by decide) ?_
    refine y_sld (j := 1) (v := 0) B0 hX hbl (by decide) e1.symm dL_law_727 ?_
    refine z_aload_n B0 dL_law_728 rfl rfl ?_
    refine z_iload_n B0 dL_law_729 rfl rfl ?_
    refine z_iconst (v := 2) B0 dL_law_730 (by decide) ?_
    refine z_iadd (v := 2) B0 dL_law_731 (by decide) ?_
    refine y_sld (j := 2) (v := 47) B0 hX hbl (by decide) e2.symm dL_law_732 ?_
    refine z_callM B0 (z_runV (q0 := 0) (As := [.int 0, .int 47]) (st := [.int (-1)]) B0 (c_X12_after_52 (a := a2) mS0  rfl rfl rfl rfl rfl rfl rfl rfl rfl rfl rfl rfl rfl rfl rfl rfl rfl rfl rfl rfl rfl rfl rfl rfl rfl rfl rfl) cf_X12_after (mw_0 cy a2 mS0) rfl wm_L_90 wi_X12_after ws_X12_after dL_law_733 rfl (Nat.le_of_ble_eq_true rfl) ⟨by decide, by decide, by decide, by decide⟩) (fun r2 u2 p2 => ?_)
    obtain ⟨rfl, -⟩ := p2
    refine z_icmp_eq_t (tgt := 1091) B0 dL_law_736 (by decide) rfl ?_
    exact fin u1 u2
  · obtain rfl : x2 = 48 := Int32.toInt_inj.mp (h2.trans (by decide))
    refine z_aload_n B0 dL_law_708 rfl rfl ?_
    refine z_aload_n B0 dL_law_709 rfl rfl ?_
    refine z_iload_n B0 dL_law_710 rfl rfl ?_
    refine z_iconst (v := 1) B0 dL_law_711 (by decide) ?_
    refine z_iadd (v := 1) B0 dL_law_712 (by decide) ?_
    refine y_sld (j := 1) (v := 0) B0 hX hbl (by decide) e1.symm dL_law_713 ?_
    refine z_aload_n B0 dL_law_714 rfl rfl ?_
    refine z_iload_n B0 dL_law_715 rfl rfl ?_
    refine z_iconst (v := 2) B0 dL_law_716 (by decide) ?_
    refine z_iadd (v := 2) B0 dL_law_717 (by decide) ?_
    refine y_sld (j := 2) (v := 48) B0 hX hbl (by decide) e2.symm dL_law_718 ?_
    refine z_callC B0 (z_runV (q0 := 0) (As := [.int 0, .int 48]) (st := []) B0 (c_X11_after_53 (a := a) (cS0 w)  ) cf_X11_after (cw_0 cy tE a rw (cS0 w)) rfl wm_L_87 wi_X11_after ws_X11_after dL_law_719 rfl (Nat.le_of_ble_eq_true rfl) ⟨by decide, by decide, by decide, by decide⟩) (fun r1 u1 p1 => ?_)
    obtain ⟨rfl, -⟩ := p1
    refine z_aload_n B0 dL_law_722 rfl rfl ?_
    refine z_aload_n B0 dL_law_723 rfl rfl ?_
    refine z_iload_n B0 dL_law_724 rfl rfl ?_
    refine z_iconst (v := 1) B0 dL_law_725 (by decide) ?_
    refine z_iadd (v := 1) B0 dL_law_726 (by decide) ?_
    refine y_sld (j := 1) (v := 0) B0 hX hbl (by decide) e1.symm dL_law_727 ?_
    refine z_aload_n B0 dL_law_728 rfl rfl ?_
    refine z_iload_n B0 dL_law_729 rfl rfl ?_
    refine z_iconst (v := 2) B0 dL_law_730 (by decide) ?_
    refine z_iadd (v := 2) B0 dL_law_731 (by decide) ?_
    refine y_sld (j := 2) (v := 48) B0 hX hbl (by decide) e2.symm dL_law_732 ?_
    refine z_callM B0 (z_runV (q0 := 0) (As := [.int 0, .int 48]) (st := [.int (-1)]) B0 (c_X12_after_53 (a := a2) mS0  rfl rfl rfl rfl rfl rfl rfl rfl rfl rfl rfl rfl rfl rfl rfl rfl rfl rfl rfl rfl rfl rfl rfl rfl rfl rfl rfl) cf_X12_after (mw_0 cy a2 mS0) rfl wm_L_90 wi_X12_after ws_X12_after dL_law_733 rfl (Nat.le_of_ble_eq_true rfl) ⟨by decide, by decide, by decide, by decide⟩) (fun r2 u2 p2 => ?_)
    obtain ⟨rfl, -⟩ := p2
    refine z_icmp_eq_t (tgt := 1091) B0 dL_law_736 (by decide) rfl ?_
    exact fin u1 u2
  · obtain rfl : x2 = 49 := Int32.toInt_inj.mp (h2.trans (by decide))
    refine z_aload_n B0 dL_law_708 rfl rfl ?_
    refine z_aload_n B0 dL_law_709 rfl rfl ?_
    refine z_iload_n B0 dL_law_710 rfl rfl ?_
    refine z_iconst (v := 1) B0 dL_law_711 (by decide) ?_
    refine z_iadd (v := 1) B0 dL_law_712 (by decide) ?_
    refine y_sld (j := 1) (v := 0) B0 hX hbl (by decide) e1.symm dL_law_713 ?_
    refine z_aload_n B0 dL_law_714 rfl rfl ?_
    refine z_iload_n B0 dL_law_715 rfl rfl ?_
    refine z_iconst (v := 2) B0 dL_law_716 (by decide) ?_
    refine z_iadd (v := 2) B0 dL_law_717 (by decide) ?_
    refine y_sld (j := 2) (v := 49) B0 hX hbl (by decide) e2.symm dL_law_718 ?_
    refine z_callC B0 (z_runV (q0 := 0) (As := [.int 0, .int 49]) (st := []) B0 (c_X11_after_54 (a := a) (cS0 w)  ) cf_X11_after (cw_0 cy tE a rw (cS0 w)) rfl wm_L_87 wi_X11_after ws_X11_after dL_law_719 rfl (Nat.le_of_ble_eq_true rfl) ⟨by decide, by decide, by decide, by decide⟩) (fun r1 u1 p1 => ?_)
    obtain ⟨rfl, -⟩ := p1
    refine z_aload_n B0 dL_law_722 rfl rfl ?_
    refine z_aload_n B0 dL_law_723 rfl rfl ?_
    refine z_iload_n B0 dL_law_724 rfl rfl ?_
    refine z_iconst (v := 1) B0 dL_law_725 (by decide) ?_
    refine z_iadd (v := 1) B0 dL_law_726 (by decide) ?_
    refine y_sld (j := 1) (v := 0) B0 hX hbl (by decide) e1.symm dL_law_727 ?_
    refine z_aload_n B0 dL_law_728 rfl rfl ?_
    refine z_iload_n B0 dL_law_729 rfl rfl ?_
    refine z_iconst (v := 2) B0 dL_law_730 (by decide) ?_
    refine z_iadd (v := 2) B0 dL_law_731 (by decide) ?_
    refine y_sld (j := 2) (v := 49) B0 hX hbl (by decide) e2.symm dL_law_732 ?_
    refine z_callM B0 (z_runV (q0 := 0) (As := [.int 0, .int 49]) (st := [.int (-1)]) B0 (c_X12_after_54 (a := a2) mS0  rfl rfl rfl rfl rfl rfl rfl rfl rfl rfl rfl rfl rfl rfl rfl rfl rfl rfl rfl rfl rfl rfl rfl rfl rfl rfl rfl) cf_X12_after (mw_0 cy a2 mS0) rfl wm_L_90 wi_X12_after ws_X12_after dL_law_733 rfl (Nat.le_of_ble_eq_true rfl) ⟨by decide, by decide, by decide, by decide⟩) (fun r2 u2 p2 => ?_)
    obtain ⟨rfl, -⟩ := p2
    refine z_icmp_eq_t (tgt := 1091) B0 dL_law_736 (by decide) rfl ?_
    exact fin u1 u2
  · obtain rfl : x2 = 50 := Int32.toInt_inj.mp (h2.trans (by decide))
    refine z_aload_n B0 dL_law_708 rfl rfl ?_
    refine z_aload_n B0 dL_law_709 rfl rfl ?_
    refine z_iload_n B0 dL_law_710 rfl rfl ?_
    refine z_iconst (v := 1) B0 dL_law_711 (by decide) ?_
    refine z_iadd (v := 1) B0 dL_law_712 (by decide) ?_
    refine y_sld (j := 1) (v := 0) B0 hX hbl (by decide) e1.symm dL_law_713 ?_
    refine z_aload_n B0 dL_law_714 rfl rfl ?_
    refine z_iload_n B0 dL_law_715 rfl rfl ?_
    refine z_iconst (v := 2) B0 dL_law_716 (by decide) ?_
    refine z_iadd (v := 2) B0 dL_law_717 (by decide) ?_
    refine y_sld (j := 2) (v := 50) B0 hX hbl (by decide) e2.symm dL_law_718 ?_
    refine z_callC B0 (z_runV (q0 := 0) (As := [.int 0, .int 50]) (st := []) B0 (c_X11_after_55 (a := a) (cS0 w)  rfl rfl rfl hrw) cf_X11_after (cw_0 cy tE a rw (cS0 w)) rfl wm_L_87 wi_X11_after ws_X11_after dL_law_719 rfl (Nat.le_of_ble_eq_true rfl) ⟨by decide, by decide, by decide, by decide⟩) (fun r1 u1 p1 => ?_)
    obtain ⟨rfl, -⟩ := p1
    refine z_aload_n B0 dL_law_722 rfl rfl ?_
    refine z_aload_n B0 dL_law_723 rfl rfl ?_
    refine z_iload_n B0 dL_law_724 rfl rfl ?_
    refine z_iconst (v := 1) B0 dL_law_725 (by decide) ?_
    refine z_iadd (v := 1) B0 dL_law_726 (by decide) ?_
    refine y_sld (j := 1) (v := 0) B0 hX hbl (by decide) e1.symm dL_law_727 ?_
    refine z_aload_n B0 dL_law_728 rfl rfl ?_
    refine z_iload_n B0 dL_law_729 rfl rfl ?_
    refine z_iconst (v := 2) B0 dL_law_730 (by decide) ?_
    refine z_iadd (v := 2) B0 dL_law_731 (by decide) ?_
    refine y_sld (j := 2) (v := 50) B0 hX hbl (by decide) e2.symm dL_law_732 ?_
    refine z_callM B0 (z_runV (q0 := 0) (As := [.int 0, .int 50]) (st := [.int 0]) B0 (c_X12_after_55 (a := a2) mS0  rfl rfl rfl rfl rfl rfl rfl rfl rfl rfl rfl rfl rfl rfl rfl rfl rfl rfl rfl rfl rfl rfl rfl rfl rfl rfl rfl) cf_X12_after (mw_0 cy a2 mS0) rfl wm_L_90 wi_X12_after ws_X12_after dL_law_733 rfl (Nat.le_of_ble_eq_true rfl) ⟨by decide, by decide, by decide, by decide⟩) (fun r2 u2 p2 => ?_)
    obtain ⟨rfl, -⟩ := p2
    refine z_icmp_eq_t (tgt := 1091) B0 dL_law_736 (by decide) rfl ?_
    exact fin u1 u2
  · refine z_aload_n B0 dL_law_708 rfl rfl ?_
    refine z_aload_n B0 dL_law_709 rfl rfl ?_
    refine z_iload_n B0 dL_law_710 rfl rfl ?_
    refine z_iconst (v := 1) B0 dL_law_711 (by decide) ?_
    refine z_iadd (v := 1) B0 dL_law_712 (by decide) ?_
    refine y_sld (j := 1) (v := 0) B0 hX hbl (by decide) e1.symm dL_law_713 ?_
    refine z_aload_n B0 dL_law_714 rfl rfl ?_
    refine z_iload_n B0 dL_law_715 rfl rfl ?_
    refine z_iconst (v := 2) B0 dL_law_716 (by decide) ?_
    refine z_iadd (v := 2) B0 dL_law_717 (by decide) ?_
    refine y_sld (j := 2) (v := x2) B0 hX hbl (by decide) e2.symm dL_law_718 ?_
    refine z_callC B0 (z_runV (q0 := 0) (As := [.int 0, .int x2]) (st := []) B0 (c_X11_after_56 (a := a) (cS0 w) x2 ⟨by omega, by omega⟩) cf_X11_after (cw_0 cy tE a rw (cS0 w)) rfl wm_L_87 wi_X11_after ws_X11_after dL_law_719 rfl (Nat.le_of_ble_eq_true rfl) ⟨by decide, by decide, by decide, by decide⟩) (fun r1 u1 p1 => ?_)
    obtain ⟨rfl, -⟩ := p1
    refine z_aload_n B0 dL_law_722 rfl rfl ?_
    refine z_aload_n B0 dL_law_723 rfl rfl ?_
    refine z_iload_n B0 dL_law_724 rfl rfl ?_
    refine z_iconst (v := 1) B0 dL_law_725 (by decide) ?_
    refine z_iadd (v := 1) B0 dL_law_726 (by decide) ?_
    refine y_sld (j := 1) (v := 0) B0 hX hbl (by decide) e1.symm dL_law_727 ?_
    refine z_aload_n B0 dL_law_728 rfl rfl ?_
    refine z_iload_n B0 dL_law_729 rfl rfl ?_
    refine z_iconst (v := 2) B0 dL_law_730 (by decide) ?_
    refine z_iadd (v := 2) B0 dL_law_731 (by decide) ?_
    refine y_sld (j := 2) (v := x2) B0 hX hbl (by decide) e2.symm dL_law_732 ?_
    refine z_callM B0 (z_runV (q0 := 0) (As := [.int 0, .int x2]) (st := [.int (-1)]) B0 (c_X12_after_56 (a := a2) mS0 x2 rfl rfl rfl rfl rfl rfl rfl rfl rfl rfl rfl rfl rfl rfl rfl rfl rfl rfl rfl rfl rfl rfl rfl rfl rfl rfl rfl ⟨by omega, by omega⟩) cf_X12_after (mw_0 cy a2 mS0) rfl wm_L_90 wi_X12_after ws_X12_after dL_law_733 rfl (Nat.le_of_ble_eq_true rfl) ⟨by decide, by decide, by decide, by decide⟩) (fun r2 u2 p2 => ?_)
    obtain ⟨rfl, -⟩ := p2
    refine z_icmp_eq_t (tgt := 1091) B0 dL_law_736 (by decide) rfl ?_
    exact fin u1 u2

set_option maxHeartbeats 8000000 in
set_option maxRecDepth 100000 in
theorem lo_after_1 {p : Program} {l : Launch} {e : Env} {s : State} {m : MethodId} {below : List Frame} {meth : Method} {c : Code} {D : va_G} {cy : Nat → ClassId} {tB tE b : Nat} {a a2 : Nat → Nat} {rw : Nat → Option Nat} {xs : Nat → Int32} (B0 : Bz p room_1 s m #[Value.ref b] meth c D cy s.heap.size tB tE (fun q => s.heap.size ≤ q) 4 cL_law RL meth.sig.returnType meth.name 2048 84000 600000 7302250) (hX : va_X b 6 xs s s.heap) (hbl : b < s.heap.size) (hrw : ∀ i, i < 6 → rw i = some (a (36 + 2 * i))) (w : Nat → Int64) (fin : ∀ S S9 : GS, Z p l e room_1 s m #[Value.ref b] below meth c D (fun q => s.heap.size ≤ q) 4 (lw_Z below #[Value.ref b] s) 200 60000 (cw cy tE a rw S ++ mw cy a2 S9) [(3, .int 0), (2, .ref (a2 0)), (1, .ref (a 0)), (0, .ref b)] 1091 []) (e1 : 1 = xs 1) : Z p l e room_1 s m #[Value.ref b] below meth c D (fun q => s.heap.size ≤ q) 4 (lw_Z below #[Value.ref b] s) 200 60000 (cw cy tE a rw (cS0 w) ++ mw cy a2 mS0) [(3, .int 0), (2, .ref (a2 0)), (1, .ref (a 0)), (0, .ref b)] 708 [] := by
  obtain ⟨x2, e2⟩ : ∃ x, x = xs 2 := ⟨_, rfl⟩
  rcases (show ((-2147483648) ≤ x2.toInt ∧ x2.toInt ≤ (-2147483609)) ∨ ((-2147483608) ≤ x2.toInt ∧ x2.toInt ≤ (-1)) ∨ x2.toInt = 0 ∨ x2.toInt = 1 ∨ x2.toInt = 2 ∨ x2.toInt = 3 ∨ x2.toInt = 4 ∨ x2.toInt = 5 ∨ x2.toInt = 6 ∨ x2.toInt = 7 ∨ x2.toInt = 8 ∨ x2.toInt = 9 ∨ x2.toInt = 10 ∨ x2.toInt = 11 ∨ x2.toInt = 12 ∨ x2.toInt = 13 ∨ x2.toInt = 14 ∨ x2.toInt = 15 ∨ x2.toInt = 16 ∨ x2.toInt = 17 ∨ x2.toInt = 18 ∨ x2.toInt = 19 ∨ x2.toInt = 20 ∨ x2.toInt = 21 ∨ x2.toInt = 22 ∨ x2.toInt = 23 ∨ x2.toInt = 24 ∨ x2.toInt = 25 ∨ x2.toInt = 26 ∨ x2.toInt = 27 ∨ x2.toInt = 28 ∨ x2.toInt = 29 ∨ x2.toInt = 30 ∨ x2.toInt = 31 ∨ x2.toInt = 32 ∨ x2.toInt = 33 ∨ x2.toInt = 34 ∨ x2.toInt = 35 ∨ x2.toInt = 36 ∨ x2.toInt = 37 ∨ x2.toInt = 38 ∨ x2.toInt = 39 ∨ x2.toInt = 40 ∨ x2.toInt = 41 ∨ x2.toInt = 42 ∨ x2.toInt = 43 ∨ x2.toInt = 44 ∨ x2.toInt = 45 ∨ x2.toInt = 46 ∨ x2.toInt = 47 ∨ x2.toInt = 48 ∨ x2.toInt = 49 ∨ x2.toInt = 50 ∨ (51 ≤ x2.toInt ∧ x2.toInt ≤ 2147483647) by have g1 := Int32.le_toInt x2; have g2 := Int32.toInt_lt x2; omega) with h2 | h2 | h2 | h2 | h2 | h2 | h2 | h2 | h2 | h2 | h2 | h2 | h2 | h2 | h2 | h2 | h2 | h2 | h2 | h2 | h2 | h2 | h2 | h2 | h2 | h2 | h2 | h2 | h2 | h2 | h2 | h2 | h2 | h2 | h2 | h2 | h2 | h2 | h2 | h2 | h2 | h2 | h2 | h2 | h2 | h2 | h2 | h2 | h2 | h2 | h2 | h2 | h2 | h2
  · refine z_aload_n B0 dL_law_708 rfl rfl ?_
    refine z_aload_n B0 dL_law_709 rfl rfl ?_
    refine z_iload_n B0 dL_law_710 rfl rfl ?_
    refine z_iconst (v := 1) B0 dL_law_711 (by decide) ?_
    refine z_iadd (v := 1) B0 dL_law_712 (by decide) ?_
    refine y_sld (j := 1) (v := 1) B0 hX hbl (by decide) e1.symm dL_law_713 ?_
    refine z_aload_n B0 dL_law_714 rfl rfl ?_
    refine z_iload_n B0 dL_law_715 rfl rfl ?_
    refine z_iconst (v := 2) B0 dL_law_716 (by decide) ?_
    refine z_iadd (v := 2) B0 dL_law_717 (by decide) ?_
    refine y_sld (j := 2) (v := x2) B0 hX hbl (by decide) e2.symm dL_law_718 ?_
    refine z_callC B0 (z_runV (q0 := 0) (As := [.int 1, .int x2]) (st := []) B0 (c_X11_after_57 (a := a) (cS0 w) x2 ⟨by omega, by omega⟩) cf_X11_after (cw_0 cy tE a rw (cS0 w)) rfl wm_L_87 wi_X11_after ws_X11_after dL_law_719 rfl (Nat.le_of_ble_eq_true rfl) ⟨by decide, by decide, by decide, by decide⟩) (fun r1 u1 p1 => ?_)
    obtain ⟨rfl, -⟩ := p1
    refine z_aload_n B0 dL_law_722 rfl rfl ?_
    refine z_aload_n B0 dL_law_723 rfl rfl ?_
    refine z_iload_n B0 dL_law_724 rfl rfl ?_
    refine z_iconst (v := 1) B0 dL_law_725 (by decide) ?_
    refine z_iadd (v := 1) B0 dL_law_726 (by decide) ?_
    refine y_sld (j := 1) (v := 1) B0 hX hbl (by decide) e1.symm dL_law_727 ?_
    refine z_aload_n B0 dL_law_728 rfl rfl ?_
    refine z_iload_n B0 dL_law_729 rfl rfl ?_
    refine z_iconst (v := 2) B0 dL_law_730 (by decide) ?_
    refine z_iadd (v := 2) B0 dL_law_731 (by decide) ?_
    refine y_sld (j := 2) (v := x2) B0 hX hbl (by decide) e2.symm dL_law_732 ?_
    refine z_callM B0 (z_runV (q0 := 0) (As := [.int 1, .int x2]) (st := [.int (-1)]) B0 (c_X12_after_57 (a := a2) mS0 x2 rfl rfl rfl rfl rfl rfl rfl rfl rfl rfl rfl rfl rfl rfl rfl rfl rfl rfl rfl rfl rfl rfl rfl rfl rfl rfl rfl ⟨by omega, by omega⟩) cf_X12_after (mw_0 cy a2 mS0) rfl wm_L_90 wi_X12_after ws_X12_after dL_law_733 rfl (Nat.le_of_ble_eq_true rfl) ⟨by decide, by decide, by decide, by decide⟩) (fun r2 u2 p2 => ?_)
    obtain ⟨rfl, -⟩ := p2
    refine z_icmp_eq_t (tgt := 1091) B0 dL_law_736 (by decide) rfl ?_
    exact fin u1 u2
  · refine z_aload_n B0 dL_law_708 rfl rfl ?_
    refine z_aload_n B0 dL_law_709 rfl rfl ?_
    refine z_iload_n B0 dL_law_710 rfl rfl ?_
    refine z_iconst (v := 1) B0 dL_law_711 (by decide) ?_
    refine z_iadd (v := 1) B0 dL_law_712 (by decide) ?_
    refine y_sld (j := 1) (v := 1) B0 hX hbl (by decide) e1.symm dL_law_713 ?_
    refine z_aload_n B0 dL_law_714 rfl rfl ?_
    refine z_iload_n B0 dL_law_715 rfl rfl ?_
    refine z_iconst (v := 2) B0 dL_law_716 (by decide) ?_
    refine z_iadd (v := 2) B0 dL_law_717 (by decide) ?_
    refine y_sld (j := 2) (v := x2) B0 hX hbl (by decide) e2.symm dL_law_718 ?_
    refine z_callC B0 (z_runV (q0 := 0) (As := [.int 1, .int x2]) (st := []) B0 (c_X11_after_58 (a := a) (cS0 w) x2 ⟨by omega, by omega⟩) cf_X11_after (cw_0 cy tE a rw (cS0 w)) rfl wm_L_87 wi_X11_after ws_X11_after dL_law_719 rfl (Nat.le_of_ble_eq_true rfl) ⟨by decide, by decide, by decide, by decide⟩) (fun r1 u1 p1 => ?_)
    obtain ⟨rfl, -⟩ := p1
    refine z_aload_n B0 dL_law_722 rfl rfl ?_
    refine z_aload_n B0 dL_law_723 rfl rfl ?_
    refine z_iload_n B0 dL_law_724 rfl rfl ?_
    refine z_iconst (v := 1) B0 dL_law_725 (by decide) ?_
    refine z_iadd (v := 1) B0 dL_law_726 (by decide) ?_
    refine y_sld (j := 1) (v := 1) B0 hX hbl (by decide) e1.symm dL_law_727 ?_
    refine z_aload_n B0 dL_law_728 rfl rfl ?_
    refine z_iload_n B0 dL_law_729 rfl rfl ?_
    refine z_iconst (v := 2) B0 dL_law_730 (by decide) ?_
    refine z_iadd (v := 2) B0 dL_law_731 (by decide) ?_
    refine y_sld (j := 2) (v := x2) B0 hX hbl (by decide) e2.symm dL_law_732 ?_
    refine z_callM B0 (z_runV (q0 := 0) (As := [.int 1, .int x2]) (st := [.int (-1)]) B0 (c_X12_after_58 (a := a2) mS0 x2 rfl rfl rfl rfl rfl rfl rfl rfl rfl rfl rfl rfl rfl rfl rfl rfl rfl rfl rfl rfl rfl rfl rfl rfl rfl rfl rfl ⟨by omega, by omega⟩) cf_X12_after (mw_0 cy a2 mS0) rfl wm_L_90 wi_X12_after ws_X12_after dL_law_733 rfl (Nat.le_of_ble_eq_true rfl) ⟨by decide, by decide, by decide, by decide⟩) (fun r2 u2 p2 => ?_)
    obtain ⟨rfl, -⟩ := p2
    refine z_icmp_eq_t (tgt := 1091) B0 dL_law_736 (by decide) rfl ?_
    exact fin u1 u2
  · obtain rfl : x2 = 0 := Int32.toInt_inj.mp (h2.trans (by decide))
    refine z_aload_n B0 dL_law_708 rfl rfl ?_
    refine z_aload_n B0 dL_law_709 rfl rfl ?_
    refine z_iload_n B0 dL_law_710 rfl rfl ?_
    refine z_iconst (v := 1) B0 dL_law_711 (by decide) ?_
    refine z_iadd (v := 1) B0 dL_law_712 (by decide) ?_
    refine y_sld (j := 1) (v := 1) B0 hX hbl (by decide) e1.symm dL_law_713 ?_
    refine z_aload_n B0 dL_law_714 rfl rfl ?_
    refine z_iload_n B0 dL_law_715 rfl rfl ?_
    refine z_iconst (v := 2) B0 dL_law_716 (by decide) ?_
    refine z_iadd (v := 2) B0 dL_law_717 (by decide) ?_
    refine y_sld (j := 2) (v := 0) B0 hX hbl (by decide) e2.symm dL_law_718 ?_
    refine z_callC B0 (z_runV (q0 := 0) (As := [.int 1, .int 0]) (st := []) B0 (c_X11_after_59 (a := a) (cS0 w)  rfl rfl rfl hrw) cf_X11_after (cw_0 cy tE a rw (cS0 w)) rfl wm_L_87 wi_X11_after ws_X11_after dL_law_719 rfl (Nat.le_of_ble_eq_true rfl) ⟨by decide, by decide, by decide, by decide⟩) (fun r1 u1 p1 => ?_)
    obtain ⟨rfl, -⟩ := p1
    refine z_aload_n B0 dL_law_722 rfl rfl ?_
    refine z_aload_n B0 dL_law_723 rfl rfl ?_
    refine z_iload_n B0 dL_law_724 rfl rfl ?_
    refine z_iconst (v := 1) B0 dL_law_725 (by decide) ?_
    refine z_iadd (v := 1) B0 dL_law_726 (by decide) ?_
    refine y_sld (j := 1) (v := 1) B0 hX hbl (by decide) e1.symm dL_law_727 ?_
    refine z_aload_n B0 dL_law_728 rfl rfl ?_
    refine z_iload_n B0 dL_law_729 rfl rfl ?_
    refine z_iconst (v := 2) B0 dL_law_730 (by decide) ?_
    refine z_iadd (v := 2) B0 dL_law_731 (by decide) ?_
    refine y_sld (j := 2) (v := 0) B0 hX hbl (by decide) e2.symm dL_law_732 ?_
    refine z_callM B0 (z_runV (q0 := 0) (As := [.int 1, .int 0]) (st := [.int 0]) B0 (c_X12_after_59 (a := a2) mS0  rfl rfl rfl rfl rfl rfl rfl rfl rfl rfl rfl rfl rfl rfl rfl rfl rfl rfl rfl rfl rfl rfl rfl rfl rfl rfl rfl) cf_X12_after (mw_0 cy a2 mS0) rfl wm_L_90 wi_X12_after ws_X12_after dL_law_733 rfl (Nat.le_of_ble_eq_true rfl) ⟨by decide, by decide, by decide, by decide⟩) (fun r2 u2 p2 => ?_)
    obtain ⟨rfl, -⟩ := p2
    refine z_icmp_eq_t (tgt := 1091) B0 dL_law_736 (by decide) rfl ?_
    exact fin u1 u2
  · obtain rfl : x2 = 1 := Int32.toInt_inj.mp (h2.trans (by decide))
    refine z_aload_n B0 dL_law_708 rfl rfl ?_
    refine z_aload_n B0 dL_law_709 rfl rfl ?_
    refine z_iload_n B0 dL_law_710 rfl rfl ?_
    refine z_iconst (v := 1) B0 dL_law_711 (by decide) ?_
    refine z_iadd (v := 1) B0 dL_law_712 (by decide) ?_
    refine y_sld (j := 1) (v := 1) B0 hX hbl (by decide) e1.symm dL_law_713 ?_
    refine z_aload_n B0 dL_law_714 rfl rfl ?_
    refine z_iload_n B0 dL_law_715 rfl rfl ?_
    refine z_iconst (v := 2) B0 dL_law_716 (by decide) ?_
    refine z_iadd (v := 2) B0 dL_law_717 (by decide) ?_
    refine y_sld (j := 2) (v := 1) B0 hX hbl (by decide) e2.symm dL_law_718 ?_
    refine z_callC B0 (z_runV (q0 := 0) (As := [.int 1, .int 1]) (st := []) B0 (c_X11_after_60 (a := a) (cS0 w)  rfl rfl rfl hrw) cf_X11_after (cw_0 cy tE a rw (cS0 w)) rfl wm_L_87 wi_X11_after ws_X11_after dL_law_719 rfl (Nat.le_of_ble_eq_true rfl) ⟨by decide, by decide, by decide, by decide⟩) (fun r1 u1 p1 => ?_)
    obtain ⟨rfl, -⟩ := p1
    refine z_aload_n B0 dL_law_722 rfl rfl ?_
    refine z_aload_n B0 dL_law_723 rfl rfl ?_
    refine z_iload_n B0 dL_law_724 rfl rfl ?_
    refine z_iconst (v := 1) B0 dL_law_725 (by decide) ?_
    refine z_iadd (v := 1) B0 dL_law_726 (by decide) ?_
    refine y_sld (j := 1) (v := 1) B0 hX hbl (by decide) e1.symm dL_law_727 ?_
    refine z_aload_n B0 dL_law_728 rfl rfl ?_
    refine z_iload_n B0 dL_law_729 rfl rfl ?_
    refine z_iconst (v := 2) B0 dL_law_730 (by decide) ?_
    refine z_iadd (v := 2) B0 dL_law_731 (by decide) ?_
    refine y_sld (j := 2) (v := 1) B0 hX hbl (by decide) e2.symm dL_law_732 ?_
    refine z_callM B0 (z_runV (q0 := 0) (As := [.int 1, .int 1]) (st := [.int 0]) B0 (c_X12_after_60 (a := a2) mS0  rfl rfl rfl rfl rfl rfl rfl rfl rfl rfl rfl rfl rfl rfl rfl rfl rfl rfl rfl rfl rfl rfl rfl rfl rfl rfl rfl) cf_X12_after (mw_0 cy a2 mS0) rfl wm_L_90 wi_X12_after ws_X12_after dL_law_733 rfl (Nat.le_of_ble_eq_true rfl) ⟨by decide, by decide, by decide, by decide⟩) (fun r2 u2 p2 => ?_)
    obtain ⟨rfl, -⟩ := p2
    refine z_icmp_eq_t (tgt := 1091) B0 dL_law_736 (by decide) rfl ?_
    exact fin u1 u2
  · obtain rfl : x2 = 2 := Int32.toInt_inj.mp (h2.trans (by decide))
    refine z_aload_n B0 dL_law_708 rfl rfl ?_
    refine z_aload_n B0 dL_law_709 rfl rfl ?_
    refine z_iload_n B0 dL_law_710 rfl rfl ?_
    refine z_iconst (v := 1) B0 dL_law_711 (by decide) ?_
    refine z_iadd (v := 1) B0 dL_law_712 (by decide) ?_
    refine y_sld (j := 1) (v := 1) B0 hX hbl (by decide) e1.symm dL_law_713 ?_
    refine z_aload_n B0 dL_law_714 rfl rfl ?_
    refine z_iload_n B0 dL_law_715 rfl rfl ?_
    refine z_iconst (v := 2) B0 dL_law_716 (by decide) ?_
    refine z_iadd (v := 2) B0 dL_law_717 (by decide) ?_
    refine y_sld (j := 2) (v := 2) B0 hX hbl (by decide) e2.symm dL_law_718 ?_
    refine z_callC B0 (z_runV (q0 := 0) (As := [.int 1, .int 2]) (st := []) B0 (c_X11_after_61 (a := a) (cS0 w)  rfl rfl rfl hrw) cf_X11_after (cw_0 cy tE a rw (cS0 w)) rfl wm_L_87 wi_X11_after ws_X11_after dL_law_719 rfl (Nat.le_of_ble_eq_true rfl) ⟨by decide, by decide, by decide, by decide⟩) (fun r1 u1 p1 => ?_)
    obtain ⟨rfl, -⟩ := p1
    refine z_aload_n B0 dL_law_722 rfl rfl ?_
    refine z_aload_n B0 dL_law_723 rfl rfl ?_
    refine z_iload_n B0 dL_law_724 rfl rfl ?_
    refine z_iconst (v := 1) B0 dL_law_725 (by decide) ?_
    refine z_iadd (v := 1) B0 dL_law_726 (by decide) ?_
    refine y_sld (j := 1) (v := 1) B0 hX hbl (by decide) e1.symm dL_law_727 ?_
    refine z_aload_n B0 dL_law_728 rfl rfl ?_
    refine z_iload_n B0 dL_law_729 rfl rfl ?_
    refine z_iconst (v := 2) B0 dL_law_730 (by decide) ?_
    refine z_iadd (v := 2) B0 dL_law_731 (by decide) ?_
    refine y_sld (j := 2) (v := 2) B0 hX hbl (by decide) e2.symm dL_law_732 ?_
    refine z_callM B0 (z_runV (q0 := 0) (As := [.int 1, .int 2]) (st := [.int 0]) B0 (c_X12_after_61 (a := a2) mS0  rfl rfl rfl rfl rfl rfl rfl rfl rfl rfl rfl rfl rfl rfl rfl rfl rfl rfl rfl rfl rfl rfl rfl rfl rfl rfl rfl) cf_X12_after (mw_0 cy a2 mS0) rfl wm_L_90 wi_X12_after ws_X12_after dL_law_733 rfl (Nat.le_of_ble_eq_true rfl) ⟨by decide, by decide, by decide, by decide⟩) (fun r2 u2 p2 => ?_)
    obtain ⟨rfl, -⟩ := p2
    refine z_icmp_eq_t (tgt := 1091) B0 dL_law_736 (by decide) rfl ?_
    exact fin u1 u2
  · obtain rfl : x2 = 3 := Int32.toInt_inj.mp (h2.trans (by decide))
    refine z_aload_n B0 dL_law_708 rfl rfl ?_
    refine z_aload_n B0 dL_law_709 rfl rfl ?_
    refine z_iload_n B0 dL_law_710 rfl rfl ?_
    refine z_iconst (v := 1) B0 dL_law_711 (by decide) ?_
    refine z_iadd (v := 1) B0 dL_law_712 (by decide) ?_
    refine y_sld (j := 1) (v := 1) B0 hX hbl (by decide) e1.symm dL_law_713 ?_
    refine z_aload_n B0 dL_law_714 rfl rfl ?_
    refine z_iload_n B0 dL_law_715 rfl rfl ?_
    refine z_iconst (v := 2) B0 dL_law_716 (by decide) ?_
    refine z_iadd (v := 2) B0 dL_law_717 (by decide) ?_
    refine y_sld (j := 2) (v := 3) B0 hX hbl (by decide) e2.symm dL_law_718 ?_
    refine z_callC B0 (z_runV (q0 := 0) (As := [.int 1, .int 3]) (st := []) B0 (c_X11_after_62 (a := a) (cS0 w)  ) cf_X11_after (cw_0 cy tE a rw (cS0 w)) rfl wm_L_87 wi_X11_after ws_X11_after dL_law_719 rfl (Nat.le_of_ble_eq_true rfl) ⟨by decide, by decide, by decide, by decide⟩) (fun r1 u1 p1 => ?_)
    obtain ⟨rfl, -⟩ := p1
    refine z_aload_n B0 dL_law_722 rfl rfl ?_
    refine z_aload_n B0 dL_law_723 rfl rfl ?_
    refine z_iload_n B0 dL_law_724 rfl rfl ?_
    refine z_iconst (v := 1) B0 dL_law_725 (by decide) ?_
    refine z_iadd (v := 1) B0 dL_law_726 (by decide) ?_
    refine y_sld (j := 1) (v := 1) B0 hX hbl (by decide) e1.symm dL_law_727 ?_
    refine z_aload_n B0 dL_law_728 rfl rfl ?_
    refine z_iload_n B0 dL_law_729 rfl rfl ?_
    refine z_iconst (v := 2) B0 dL_law_730 (by decide) ?_
    refine z_iadd (v := 2) B0 dL_law_731 (by decide) ?_
    refine y_sld (j := 2) (v := 3) B0 hX hbl (by decide) e2.symm dL_law_732 ?_
    refine z_callM B0 (z_runV (q0 := 0) (As := [.int 1, .int 3]) (st := [.int (-1)]) B0 (c_X12_after_62 (a := a2) mS0  rfl rfl rfl rfl rfl rfl rfl rfl rfl rfl rfl rfl rfl rfl rfl rfl rfl rfl rfl rfl rfl rfl rfl rfl rfl rfl rfl) cf_X12_after (mw_0 cy a2 mS0) rfl wm_L_90 wi_X12_after ws_X12_after dL_law_733 rfl (Nat.le_of_ble_eq_true rfl) ⟨by decide, by decide, by decide, by decide⟩) (fun r2 u2 p2 => ?_)
    obtain ⟨rfl, -⟩ := p2
    refine z_icmp_eq_t (tgt := 1091) B0 dL_law_736 (by decide) rfl ?_
    exact fin u1 u2
  · obtain rfl : x2 = 4 := Int32.toInt_inj.mp (h2.trans (by decide))
    refine z_aload_n B0 dL_law_708 rfl rfl ?_
    refine z_aload_n B0 dL_law_709 rfl rfl ?_
    refine z_iload_n B0 dL_law_710 rfl rfl ?_
    refine z_iconst (v := 1) B0 dL_law_711 (by decide) ?_
    refine z_iadd (v := 1) B0 dL_law_712 (by decide) ?_
    refine y_sld (j := 1) (v := 1) B0 hX hbl (by decide) e1.symm dL_law_713 ?_
    refine z_aload_n B0 dL_law_714 rfl rfl ?_
    refine z_iload_n B0 dL_law_715 rfl rfl ?_
    refine z_iconst (v := 2) B0 dL_law_716 (by decide) ?_
    refine z_iadd (v := 2) B0 dL_law_717 (by decide) ?_
    refine y_sld (j := 2) (v := 4) B0 hX hbl (by decide) e2.symm dL_law_718 ?_
    refine z_callC B0 (z_runV (q0 := 0) (As := [.int 1, .int 4]) (st := []) B0 (c_X11_after_63 (a := a) (cS0 w)  ) cf_X11_after (cw_0 cy tE a rw (cS0 w)) rfl wm_L_87 wi_X11_after ws_X11_after dL_law_719 rfl (Nat.le_of_ble_eq_true rfl) ⟨by decide, by decide, by decide, by decide⟩) (fun r1 u1 p1 => ?_)
    obtain ⟨rfl, -⟩ := p1
    refine z_aload_n B0 dL_law_722 rfl rfl ?_
    refine z_aload_n B0 dL_law_723 rfl rfl ?_
    refine z_iload_n B0 dL_law_724 rfl rfl ?_
    refine z_iconst (v := 1) B0 dL_law_725 (by decide) ?_
    refine z_iadd (v := 1) B0 dL_law_726 (by decide) ?_
    refine y_sld (j := 1) (v := 1) B0 hX hbl (by decide) e1.symm dL_law_727 ?_
    refine z_aload_n B0 dL_law_728 rfl rfl ?_
    refine z_iload_n B0 dL_law_729 rfl rfl ?_
    refine z_iconst (v := 2) B0 dL_law_730 (by decide) ?_
    refine z_iadd (v := 2) B0 dL_law_731 (by decide) ?_
    refine y_sld (j := 2) (v := 4) B0 hX hbl (by decide) e2.symm dL_law_732 ?_
    refine z_callM B0 (z_runV (q0 := 0) (As := [.int 1, .int 4]) (st := [.int (-1)]) B0 (c_X12_after_63 (a := a2) mS0  rfl rfl rfl rfl rfl rfl rfl rfl rfl rfl rfl rfl rfl rfl rfl rfl rfl rfl rfl rfl rfl rfl rfl rfl rfl rfl rfl) cf_X12_after (mw_0 cy a2 mS0) rfl wm_L_90 wi_X12_after ws_X12_after dL_law_733 rfl (Nat.le_of_ble_eq_true rfl) ⟨by decide, by decide, by decide, by decide⟩) (fun r2 u2 p2 => ?_)
    obtain ⟨rfl, -⟩ := p2
    refine z_icmp_eq_t (tgt := 1091) B0 dL_law_736 (by decide) rfl ?_
    exact fin u1 u2
  · obtain rfl : x2 = 5 := Int32.toInt_inj.mp (h2.trans (by decide))
    refine z_aload_n B0 dL_law_708 rfl rfl ?_
    refine z_aload_n B0 dL_law_709 rfl rfl ?_
    refine z_iload_n B0 dL_law_710 rfl rfl ?_
    refine z_iconst (v := 1) B0 dL_law_711 (by decide) ?_
    refine z_iadd (v := 1) B0 dL_law_712 (by decide) ?_
    refine y_sld (j := 1) (v := 1) B0 hX hbl (by decide) e1.symm dL_law_713 ?_
    refine z_aload_n B0 dL_law_714 rfl rfl ?_
    refine z_iload_n B0 dL_law_715 rfl rfl ?_
    refine z_iconst (v := 2) B0 dL_law_716 (by decide) ?_
    refine z_iadd (v := 2) B0 dL_law_717 (by decide) ?_
    refine y_sld (j := 2) (v := 5) B0 hX hbl (by decide) e2.symm dL_law_718 ?_
    refine z_callC B0 (z_runV (q0 := 0) (As := [.int 1, .int 5]) (st := []) B0 (c_X11_after_64 (a := a) (cS0 w)  ) cf_X11_after (cw_0 cy tE a rw (cS0 w)) rfl wm_L_87 wi_X11_after ws_X11_after dL_law_719 rfl (Nat.le_of_ble_eq_true rfl) ⟨by decide, by decide, by decide, by decide⟩) (fun r1 u1 p1 => ?_)
    obtain ⟨rfl, -⟩ := p1
    refine z_aload_n B0 dL_law_722 rfl rfl ?_
    refine z_aload_n B0 dL_law_723 rfl rfl ?_
    refine z_iload_n B0 dL_law_724 rfl rfl ?_
    refine z_iconst (v := 1) B0 dL_law_725 (by decide) ?_
    refine z_iadd (v := 1) B0 dL_law_726 (by decide) ?_
    refine y_sld (j := 1) (v := 1) B0 hX hbl (by decide) e1.symm dL_law_727 ?_
    refine z_aload_n B0 dL_law_728 rfl rfl ?_
    refine z_iload_n B0 dL_law_729 rfl rfl ?_
    refine z_iconst (v := 2) B0 dL_law_730 (by decide) ?_
    refine z_iadd (v := 2) B0 dL_law_731 (by decide) ?_
    refine y_sld (j := 2) (v := 5) B0 hX hbl (by decide) e2.symm dL_law_732 ?_
    refine z_callM B0 (z_runV (q0 := 0) (As := [.int 1, .int 5]) (st := [.int (-1)]) B0 (c_X12_after_64 (a := a2) mS0  rfl rfl rfl rfl rfl rfl rfl rfl rfl rfl rfl rfl rfl rfl rfl rfl rfl rfl rfl rfl rfl rfl rfl rfl rfl rfl rfl) cf_X12_after (mw_0 cy a2 mS0) rfl wm_L_90 wi_X12_after ws_X12_after dL_law_733 rfl (Nat.le_of_ble_eq_true rfl) ⟨by decide, by decide, by decide, by decide⟩) (fun r2 u2 p2 => ?_)
    obtain ⟨rfl, -⟩ := p2
    refine z_icmp_eq_t (tgt := 1091) B0 dL_law_736 (by decide) rfl ?_
    exact fin u1 u2
  · obtain rfl : x2 = 6 := Int32.toInt_inj.mp (h2.trans (by decide))
    refine z_aload_n B0 dL_law_708 rfl rfl ?_
    refine z_aload_n B0 dL_law_709 rfl rfl ?_
    refine z_iload_n B0 dL_law_710 rfl rfl ?_
    refine z_iconst (v := 1) B0 dL_law_711 (by decide) ?_
    refine z_iadd (v := 1) B0 dL_law_712 (by decide) ?_
    refine y_sld (j := 1) (v := 1) B0 hX hbl (by decide) e1.symm dL_law_713 ?_
    refine z_aload_n B0 dL_law_714 rfl rfl ?_
    refine z_iload_n B0 dL_law_715 rfl rfl ?_
    refine z_iconst (v := 2) B0 dL_law_716 (by decide) ?_
    refine z_iadd (v := 2) B0 dL_law_717 (by decide) ?_
    refine y_sld (j := 2) (v := 6) B0 hX hbl (by decide) e2.symm dL_law_718 ?_
    refine z_callC B0 (z_runV (q0 := 0) (As := [.int 1, .int 6]) (st := []) B0 (c_X11_after_65 (a := a) (cS0 w)  ) cf_X11_after (cw_0 cy tE a rw (cS0 w)) rfl wm_L_87 wi_X11_after ws_X11_after dL_law_719 rfl (Nat.le_of_ble_eq_true rfl) ⟨by decide, by decide, by decide, by decide⟩) (fun r1 u1 p1 => ?_)
    obtain ⟨rfl, -⟩ := p1
    refine z_aload_n B0 dL_law_722 rfl rfl ?_
    refine z_aload_n B0 dL_law_723 rfl rfl ?_
    refine z_iload_n B0 dL_law_724 rfl rfl ?_
    refine z_iconst (v := 1) B0 dL_law_725 (by decide) ?_
    refine z_iadd (v := 1) B0 dL_law_726 (by decide) ?_
    refine y_sld (j := 1) (v := 1) B0 hX hbl (by decide) e1.symm dL_law_727 ?_
    refine z_aload_n B0 dL_law_728 rfl rfl ?_
    refine z_iload_n B0 dL_law_729 rfl rfl ?_
    refine z_iconst (v := 2) B0 dL_law_730 (by decide) ?_
    refine z_iadd (v := 2) B0 dL_law_731 (by decide) ?_
    refine y_sld (j := 2) (v := 6) B0 hX hbl (by decide) e2.symm dL_law_732 ?_
    refine z_callM B0 (z_runV (q0 := 0) (As := [.int 1, .int 6]) (st := [.int (-1)]) B0 (c_X12_after_65 (a := a2) mS0  rfl rfl rfl rfl rfl rfl rfl rfl rfl rfl rfl rfl rfl rfl rfl rfl rfl rfl rfl rfl rfl rfl rfl rfl rfl rfl rfl) cf_X12_after (mw_0 cy a2 mS0) rfl wm_L_90 wi_X12_after ws_X12_after dL_law_733 rfl (Nat.le_of_ble_eq_true rfl) ⟨by decide, by decide, by decide, by decide⟩) (fun r2 u2 p2 => ?_)
    obtain ⟨rfl, -⟩ := p2
    refine z_icmp_eq_t (tgt := 1091) B0 dL_law_736 (by decide) rfl ?_
    exact fin u1 u2
  · obtain rfl : x2 = 7 := Int32.toInt_inj.mp (h2.trans (by decide))
    refine z_aload_n B0 dL_law_708 rfl rfl ?_
    refine z_aload_n B0 dL_law_709 rfl rfl ?_
    refine z_iload_n B0 dL_law_710 rfl rfl ?_
    refine z_iconst (v := 1) B0 dL_law_711 (by decide) ?_
    refine z_iadd (v := 1) B0 dL_law_712 (by decide) ?_
    refine y_sld (j := 1) (v := 1) B0 hX hbl (by decide) e1.symm dL_law_713 ?_
    refine z_aload_n B0 dL_law_714 rfl rfl ?_
    refine z_iload_n B0 dL_law_715 rfl rfl ?_
    refine z_iconst (v := 2) B0 dL_law_716 (by decide) ?_
    refine z_iadd (v := 2) B0 dL_law_717 (by decide) ?_
    refine y_sld (j := 2) (v := 7) B0 hX hbl (by decide) e2.symm dL_law_718 ?_
    refine z_callC B0 (z_runV (q0 := 0) (As := [.int 1, .int 7]) (st := []) B0 (c_X11_after_66 (a := a) (cS0 w)  ) cf_X11_after (cw_0 cy tE a rw (cS0 w)) rfl wm_L_87 wi_X11_after ws_X11_after dL_law_719 rfl (Nat.le_of_ble_eq_true rfl) ⟨by decide, by decide, by decide, by decide⟩) (fun r1 u1 p1 => ?_)
    obtain ⟨rfl, -⟩ := p1
    refine z_aload_n B0 dL_law_722 rfl rfl ?_
    refine z_aload_n B0 dL_law_723 rfl rfl ?_
    refine z_iload_n B0 dL_law_724 rfl rfl ?_
    refine z_iconst (v := 1) B0 dL_law_725 (by decide) ?_
    refine z_iadd (v := 1) B0 dL_law_726 (by decide) ?_
    refine y_sld (j := 1) (v := 1) B0 hX hbl (by decide) e1.symm dL_law_727 ?_
    refine z_aload_n B0 dL_law_728 rfl rfl ?_
    refine z_iload_n B0 dL_law_729 rfl rfl ?_
    refine z_iconst (v := 2) B0 dL_law_730 (by decide) ?_
    refine z_iadd (v := 2) B0 dL_law_731 (by decide) ?_
    refine y_sld (j := 2) (v := 7) B0 hX hbl (by decide) e2.symm dL_law_732 ?_
    refine z_callM B0 (z_runV (q0 := 0) (As := [.int 1, .int 7]) (st := [.int (-1)]) B0 (c_X12_after_66 (a := a2) mS0  rfl rfl rfl rfl rfl rfl rfl rfl rfl rfl rfl rfl rfl rfl rfl rfl rfl rfl rfl rfl rfl rfl rfl rfl rfl rfl rfl) cf_X12_after (mw_0 cy a2 mS0) rfl wm_L_90 wi_X12_after ws_X12_after dL_law_733 rfl (Nat.le_of_ble_eq_true rfl) ⟨by decide, by decide, by decide, by decide⟩) (fun r2 u2 p2 => ?_)
    obtain ⟨rfl, -⟩ := p2
    refine z_icmp_eq_t (tgt := 1091) B0 dL_law_736 (by decide) rfl ?_
    exact fin u1 u2
  · obtain rfl : x2 = 8 := Int32.toInt_inj.mp (h2.trans (by decide))
    refine z_aload_n B0 dL_law_708 rfl rfl ?_
    refine z_aload_n B0 dL_law_709 rfl rfl ?_
    refine z_iload_n B0 dL_law_710 rfl rfl ?_
    refine z_iconst (v := 1) B0 dL_law_711 (by decide) ?_
    refine z_iadd (v := 1) B0 dL_law_712 (by decide) ?_
    refine y_sld (j := 1) (v := 1) B0 hX hbl (by decide) e1.symm dL_law_713 ?_
    refine z_aload_n B0 dL_law_714 rfl rfl ?_
    refine z_iload_n B0 dL_law_715 rfl rfl ?_
    refine z_iconst (v := 2) B0 dL_law_716 (by decide) ?_
    refine z_iadd (v := 2) B0 dL_law_717 (by decide) ?_
    refine y_sld (j := 2) (v := 8) B0 hX hbl (by decide) e2.symm dL_law_718 ?_
    refine z_callC B0 (z_runV (q0 := 0) (As := [.int 1, .int 8]) (st := []) B0 (c_X11_after_67 (a := a) (cS0 w)  ) cf_X11_after (cw_0 cy tE a rw (cS0 w)) rfl wm_L_87 wi_X11_after ws_X11_after dL_law_719 rfl (Nat.le_of_ble_eq_true rfl) ⟨by decide, by decide, by decide, by decide⟩) (fun r1 u1 p1 => ?_)
    obtain ⟨rfl, -⟩ := p1
    refine z_aload_n B0 dL_law_722 rfl rfl ?_
    refine z_aload_n B0 dL_law_723 rfl rfl ?_
    refine z_iload_n B0 dL_law_724 rfl rfl ?_
    refine z_iconst (v := 1) B0 dL_law_725 (by decide) ?_
    refine z_iadd (v := 1) B0 dL_law_726 (by decide) ?_
    refine y_sld (j := 1) (v := 1) B0 hX hbl (by decide) e1.symm dL_law_727 ?_
    refine z_aload_n B0 dL_law_728 rfl rfl ?_
    refine z_iload_n B0 dL_law_729 rfl rfl ?_
    refine z_iconst (v := 2) B0 dL_law_730 (by decide) ?_
    refine z_iadd (v := 2) B0 dL_law_731 (by decide) ?_
    refine y_sld (j := 2) (v := 8) B0 hX hbl (by decide) e2.symm dL_law_732 ?_
    refine z_callM B0 (z_runV (q0 := 0) (As := [.int 1, .int 8]) (st := [.int (-1)]) B0 (c_X12_after_67 (a := a2) mS0  rfl rfl rfl rfl rfl rfl rfl rfl rfl rfl rfl rfl rfl rfl rfl rfl rfl rfl rfl rfl rfl rfl rfl rfl rfl rfl rfl) cf_X12_after (mw_0 cy a2 mS0) rfl wm_L_90 wi_X12_after ws_X12_after dL_law_733 rfl (Nat.le_of_ble_eq_true rfl) ⟨by decide, by decide, by decide, by decide⟩) (fun r2 u2 p2 => ?_)
    obtain ⟨rfl, -⟩ := p2
    refine z_icmp_eq_t (tgt := 1091) B0 dL_law_736 (by decide) rfl ?_
    exact fin u1 u2
  · obtain rfl : x2 = 9 := Int32.toInt_inj.mp (h2.trans (by decide))
    refine z_aload_n B0 dL_law_708 rfl rfl ?_
    refine z_aload_n B0 dL_law_709 rfl rfl ?_
    refine z_iload_n B0 dL_law_710 rfl rfl ?_
    refine z_iconst (v := 1) B0 dL_law_711 (by decide) ?_
    refine z_iadd (v := 1) B0 dL_law_712 (by decide) ?_
    refine y_sld (j := 1) (v := 1) B0 hX hbl (by decide) e1.symm dL_law_713 ?_
    refine z_aload_n B0 dL_law_714 rfl rfl ?_
    refine z_iload_n B0 dL_law_715 rfl rfl ?_
    refine z_iconst (v := 2) B0 dL_law_716 (by decide) ?_
    refine z_iadd (v := 2) B0 dL_law_717 (by decide) ?_
    refine y_sld (j := 2) (v := 9) B0 hX hbl (by decide) e2.symm dL_law_718 ?_
    refine z_callC B0 (z_runV (q0 := 0) (As := [.int 1, .int 9]) (st := []) B0 (c_X11_after_68 (a := a) (cS0 w)  ) cf_X11_after (cw_0 cy tE a rw (cS0 w)) rfl wm_L_87 wi_X11_after ws_X11_after dL_law_719 rfl (Nat.le_of_ble_eq_true rfl) ⟨by decide, by decide, by decide, by decide⟩) (fun r1 u1 p1 => ?_)
    obtain ⟨rfl, -⟩ := p1
    refine z_aload_n B0 dL_law_722 rfl rfl ?_
    refine z_aload_n B0 dL_law_723 rfl rfl ?_
    refine z_iload_n B0 dL_law_724 rfl rfl ?_
    refine z_iconst (v := 1) B0 dL_law_725 (by decide) ?_
    refine z_iadd (v := 1) B0 dL_law_726 (by decide) ?_
    refine y_sld (j := 1) (v := 1) B0 hX hbl (by decide) e1.symm dL_law_727 ?_
    refine z_aload_n B0 dL_law_728 rfl rfl ?_
    refine z_iload_n B0 dL_law_729 rfl rfl ?_
    refine z_iconst (v := 2) B0 dL_law_730 (by decide) ?_
    refine z_iadd (v := 2) B0 dL_law_731 (by decide) ?_
    refine y_sld (j := 2) (v := 9) B0 hX hbl (by decide) e2.symm dL_law_732 ?_
    refine z_callM B0 (z_runV (q0 := 0) (As := [.int 1, .int 9]) (st := [.int (-1)]) B0 (c_X12_after_68 (a := a2) mS0  rfl rfl rfl rfl rfl rfl rfl rfl rfl rfl rfl rfl rfl rfl rfl rfl rfl rfl rfl rfl rfl rfl rfl rfl rfl rfl rfl) cf_X12_after (mw_0 cy a2 mS0) rfl wm_L_90 wi_X12_after ws_X12_after dL_law_733 rfl (Nat.le_of_ble_eq_true rfl) ⟨by decide, by decide, by decide, by decide⟩) (fun r2 u2 p2 => ?_)
    obtain ⟨rfl, -⟩ := p2
    refine z_icmp_eq_t (tgt := 1091) B0 dL_law_736 (by decide) rfl ?_
    exact fin u1 u2
  · obtain rfl : x2 = 10 := Int32.toInt_inj.mp (h2.trans (by decide))
    refine z_aload_n B0 dL_law_708 rfl rfl ?_
    refine z_aload_n B0 dL_law_709 rfl rfl ?_
    refine z_iload_n B0 dL_law_710 rfl rfl ?_
    refine z_iconst (v := 1) B0 dL_law_711 (by decide) ?_
    refine z_iadd (v := 1) B0 dL_law_712 (by decide) ?_
    refine y_sld (j := 1) (v := 1) B0 hX hbl (by decide) e1.symm dL_law_713 ?_
    refine z_aload_n B0 dL_law_714 rfl rfl ?_
    refine z_iload_n B0 dL_law_715 rfl rfl ?_
    refine z_iconst (v := 2) B0 dL_law_716 (by decide) ?_
    refine z_iadd (v := 2) B0 dL_law_717 (by decide) ?_
    refine y_sld (j := 2) (v := 10) B0 hX hbl (by decide) e2.symm dL_law_718 ?_
    refine z_callC B0 (z_runV (q0 := 0) (As := [.int 1, .int 10]) (st := []) B0 (c_X11_after_69 (a := a) (cS0 w)  ) cf_X11_after (cw_0 cy tE a rw (cS0 w)) rfl wm_L_87 wi_X11_after ws_X11_after dL_law_719 rfl (Nat.le_of_ble_eq_true rfl) ⟨by decide, by decide, by decide, by decide⟩) (fun r1 u1 p1 => ?_)
    obtain ⟨rfl, -⟩ := p1
    refine z_aload_n B0 dL_law_722 rfl rfl ?_
    refine z_aload_n B0 dL_law_723 rfl rfl ?_
    refine z_iload_n B0 dL_law_724 rfl rfl ?_
    refine z_iconst (v := 1) B0 dL_law_725 (by decide) ?_
    refine z_iadd (v := 1) B0 dL_law_726 (by decide) ?_
    refine y_sld (j := 1) (v := 1) B0 hX hbl (by decide) e1.symm dL_law_727 ?_
    refine z_aload_n B0 dL_law_728 rfl rfl ?_
    refine z_iload_n B0 dL_law_729 rfl rfl ?_
    refine z_iconst (v := 2) B0 dL_law_730 (by decide) ?_
    refine z_iadd (v := 2) B0 dL_law_731 (by decide) ?_
    refine y_sld (j := 2) (v := 10) B0 hX hbl (by decide) e2.symm dL_law_732 ?_
    refine z_callM B0 (z_runV (q0 := 0) (As := [.int 1, .int 10]) (st := [.int (-1)]) B0 (c_X12_after_69 (a := a2) mS0  rfl rfl rfl rfl rfl rfl rfl rfl rfl rfl rfl rfl rfl rfl rfl rfl rfl rfl rfl rfl rfl rfl rfl rfl rfl rfl rfl) cf_X12_after (mw_0 cy a2 mS0) rfl wm_L_90 wi_X12_after ws_X12_after dL_law_733 rfl (Nat.le_of_ble_eq_true rfl) ⟨by decide, by decide, by decide, by decide⟩) (fun r2 u2 p2 => ?_)
    obtain ⟨rfl, -⟩ := p2
    refine z_icmp_eq_t (tgt := 1091) B0 dL_law_736 (by decide) rfl ?_
    exact fin u1 u2
  · obtain rfl : x2 = 11 := Int32.toInt_inj.mp (h2.trans (by decide))
    refine z_aload_n B0 dL_law_708 rfl rfl ?_
    refine z_aload_n B0 dL_law_709 rfl rfl ?_
    refine z_iload_n B0 dL_law_710 rfl rfl ?_
    refine z_iconst (v := 1) B0 dL_law_711 (by decide) ?_
    refine z_iadd (v := 1) B0 dL_law_712 (by decide) ?_
    refine y_sld (j := 1) (v := 1) B0 hX hbl (by decide) e1.symm dL_law_713 ?_
    refine z_aload_n B0 dL_law_714 rfl rfl ?_
    refine z_iload_n B0 dL_law_715 rfl rfl ?_
    refine z_iconst (v := 2) B0 dL_law_716 (by decide) ?_
    refine z_iadd (v := 2) B0 dL_law_717 (by decide) ?_
    refine y_sld (j := 2) (v := 11) B0 hX hbl (by decide) e2.symm dL_law_718 ?_
    refine z_callC B0 (z_runV (q0 := 0) (As := [.int 1, .int 11]) (st := []) B0 (c_X11_after_70 (a := a) (cS0 w)  rfl rfl rfl hrw) cf_X11_after (cw_0 cy tE a rw (cS0 w)) rfl wm_L_87 wi_X11_after ws_X11_after dL_law_719 rfl (Nat.le_of_ble_eq_true rfl) ⟨by decide, by decide, by decide, by decide⟩) (fun r1 u1 p1 => ?_)
    obtain ⟨rfl, -⟩ := p1
    refine z_aload_n B0 dL_law_722 rfl rfl ?_
    refine z_aload_n B0 dL_law_723 rfl rfl ?_
    refine z_iload_n B0 dL_law_724 rfl rfl ?_
    refine z_iconst (v := 1) B0 dL_law_725 (by decide) ?_
    refine z_iadd (v := 1) B0 dL_law_726 (by decide) ?_
    refine y_sld (j := 1) (v := 1) B0 hX hbl (by decide) e1.symm dL_law_727 ?_
    refine z_aload_n B0 dL_law_728 rfl rfl ?_
    refine z_iload_n B0 dL_law_729 rfl rfl ?_
    refine z_iconst (v := 2) B0 dL_law_730 (by decide) ?_
    refine z_iadd (v := 2) B0 dL_law_731 (by decide) ?_
    refine y_sld (j := 2) (v := 11) B0 hX hbl (by decide) e2.symm dL_law_732 ?_
    refine z_callM B0 (z_runV (q0 := 0) (As := [.int 1, .int 11]) (st := [.int 0]) B0 (c_X12_after_70 (a := a2) mS0  rfl rfl rfl rfl rfl rfl rfl rfl rfl rfl rfl rfl rfl rfl rfl rfl rfl rfl rfl rfl rfl rfl rfl rfl rfl rfl rfl) cf_X12_after (mw_0 cy a2 mS0) rfl wm_L_90 wi_X12_after ws_X12_after dL_law_733 rfl (Nat.le_of_ble_eq_true rfl) ⟨by decide, by decide, by decide, by decide⟩) (fun r2 u2 p2 => ?_)
    obtain ⟨rfl, -⟩ := p2
    refine z_icmp_eq_t (tgt := 1091) B0 dL_law_736 (by decide) rfl ?_
    exact fin u1 u2
  · obtain rfl : x2 = 12 := Int32.toInt_inj.mp (h2.trans (by decide))
    refine z_aload_n B0 dL_law_708 rfl rfl ?_
    refine z_aload_n B0 dL_law_709 rfl rfl ?_
    refine z_iload_n B0 dL_law_710 rfl rfl ?_
    refine z_iconst (v := 1) B0 dL_law_711 (by decide) ?_
    refine z_iadd (v := 1) B0 dL_law_712 (by decide) ?_
    refine y_sld (j := 1) (v := 1) B0 hX hbl (by decide) e1.symm dL_law_713 ?_
    refine z_aload_n B0 dL_law_714 rfl rfl ?_
    refine z_iload_n B0 dL_law_715 rfl rfl ?_
    refine z_iconst (v := 2) B0 dL_law_716 (by decide) ?_
    refine z_iadd (v := 2) B0 dL_law_717 (by decide) ?_
    refine y_sld (j := 2) (v := 12) B0 hX hbl (by decide) e2.symm dL_law_718 ?_
    refine z_callC B0 (z_runV (q0 := 0) (As := [.int 1, .int 12]) (st := []) B0 (c_X11_after_71 (a := a) (cS0 w)  rfl rfl rfl hrw) cf_X11_after (cw_0 cy tE a rw (cS0 w)) rfl wm_L_87 wi_X11_after ws_X11_after dL_law_719 rfl (Nat.le_of_ble_eq_true rfl) ⟨by decide, by decide, by decide, by decide⟩) (fun r1 u1 p1 => ?_)
    obtain ⟨rfl, -⟩ := p1
    refine z_aload_n B0 dL_law_722 rfl rfl ?_
    refine z_aload_n B0 dL_law_723 rfl rfl ?_
    refine z_iload_n B0 dL_law_724 rfl rfl ?_
    refine z_iconst (v := 1) B0 dL_law_725 (by decide) ?_
    refine z_iadd (v := 1) B0 dL_law_726 (by decide) ?_
    refine y_sld (j := 1) (v := 1) B0 hX hbl (by decide) e1.symm dL_law_727 ?_
    refine z_aload_n B0 dL_law_728 rfl rfl ?_
    refine z_iload_n B0 dL_law_729 rfl rfl ?_
    refine z_iconst (v := 2) B0 dL_law_730 (by decide) ?_
    refine z_iadd (v := 2) B0 dL_law_731 (by decide) ?_
    refine y_sld (j := 2) (v := 12) B0 hX hbl (by decide) e2.symm dL_law_732 ?_
    refine z_callM B0 (z_runV (q0 := 0) (As := [.int 1, .int 12]) (st := [.int 0]) B0 (c_X12_after_71 (a := a2) mS0  rfl rfl rfl rfl rfl rfl rfl rfl rfl rfl rfl rfl rfl rfl rfl rfl rfl rfl rfl rfl rfl rfl rfl rfl rfl rfl rfl) cf_X12_after (mw_0 cy a2 mS0) rfl wm_L_90 wi_X12_after ws_X12_after dL_law_733 rfl (Nat.le_of_ble_eq_true rfl) ⟨by decide, by decide, by decide, by decide⟩) (fun r2 u2 p2 => ?_)
    obtain ⟨rfl, -⟩ := p2
    refine z_icmp_eq_t (tgt := 1091) B0 dL_law_736 (by decide) rfl ?_
    exact fin u1 u2
  · obtain rfl : x2 = 13 := Int32.toInt_inj.mp (h2.trans (by decide))
    refine z_aload_n B0 dL_law_708 rfl rfl ?_
    refine z_aload_n B0 dL_law_709 rfl rfl ?_
    refine z_iload_n B0 dL_law_710 rfl rfl ?_
    refine z_iconst (v := 1) B0 dL_law_711 (by decide) ?_
    refine z_iadd (v := 1) B0 dL_law_712 (by decide) ?_
    refine y_sld (j := 1) (v := 1) B0 hX hbl (by decide) e1.symm dL_law_713 ?_
    refine z_aload_n B0 dL_law_714 rfl rfl ?_
    refine z_iload_n B0 dL_law_715 rfl rfl ?_
    refine z_iconst (v := 2) B0 dL_law_716 (by decide) ?_
    refine z_iadd (v := 2) B0 dL_law_717 (by decide) ?_
    refine y_sld (j := 2) (v := 13) B0 hX hbl (by decide) e2.symm dL_law_718 ?_
    refine z_callC B0 (z_runV (q0 := 0) (As := [.int 1, .int 13]) (st := []) B0 (c_X11_after_72 (a := a) (cS0 w)  rfl rfl rfl hrw) cf_X11_after (cw_0 cy tE a rw (cS0 w)) rfl wm_L_87 wi_X11_after ws_X11_after dL_law_719 rfl (Nat.le_of_ble_eq_true rfl) ⟨by decide, by decide, by decide, by decide⟩) (fun r1 u1 p1 => ?_)
    obtain ⟨rfl, -⟩ := p1
    refine z_aload_n B0 dL_law_722 rfl rfl ?_
    refine z_aload_n B0 dL_law_723 rfl rfl ?_
    refine z_iload_n B0 dL_law_724 rfl rfl ?_
    refine z_iconst (v := 1) B0 dL_law_725 (by decide) ?_
    refine z_iadd (v := 1) B0 dL_law_726 (by decide) ?_
    refine y_sld (j := 1) (v := 1) B0 hX hbl (by decide) e1.symm dL_law_727 ?_
    refine z_aload_n B0 dL_law_728 rfl rfl ?_
    refine z_iload_n B0 dL_law_729 rfl rfl ?_
    refine z_iconst (v := 2) B0 dL_law_730 (by decide) ?_
    refine z_iadd (v := 2) B0 dL_law_731 (by decide) ?_
    refine y_sld (j := 2) (v := 13) B0 hX hbl (by decide) e2.symm dL_law_732 ?_
    refine z_callM B0 (z_runV (q0 := 0) (As := [.int 1, .int 13]) (st := [.int 0]) B0 (c_X12_after_72 (a := a2) mS0  rfl rfl rfl rfl rfl rfl rfl rfl rfl rfl rfl rfl rfl rfl rfl rfl rfl rfl rfl rfl rfl rfl rfl rfl rfl rfl rfl) cf_X12_after (mw_0 cy a2 mS0) rfl wm_L_90 wi_X12_after ws_X12_after dL_law_733 rfl (Nat.le_of_ble_eq_true rfl) ⟨by decide, by decide, by decide, by decide⟩) (fun r2 u2 p2 => ?_)
    obtain ⟨rfl, -⟩ := p2
    refine z_icmp_eq_t (tgt := 1091) B0 dL_law_736 (by decide) rfl ?_
    exact fin u1 u2
  · obtain rfl : x2 = 14 := Int32.toInt_inj.mp (h2.trans (by decide))
    refine z_aload_n B0 dL_law_708 rfl rfl ?_
    refine z_aload_n B0 dL_law_709 rfl rfl ?_
    refine z_iload_n B0 dL_law_710 rfl rfl ?_
    refine z_iconst (v := 1) B0 dL_law_711 (by decide) ?_
    refine z_iadd (v := 1) B0 dL_law_712 (by decide) ?_
    refine y_sld (j := 1) (v := 1) B0 hX hbl (by decide) e1.symm dL_law_713 ?_
    refine z_aload_n B0 dL_law_714 rfl rfl ?_
    refine z_iload_n B0 dL_law_715 rfl rfl ?_
    refine z_iconst (v := 2) B0 dL_law_716 (by decide) ?_
    refine z_iadd (v := 2) B0 dL_law_717 (by decide) ?_
    refine y_sld (j := 2) (v := 14) B0 hX hbl (by decide) e2.symm dL_law_718 ?_
    refine z_callC B0 (z_runV (q0 := 0) (As := [.int 1, .int 14]) (st := []) B0 (c_X11_after_73 (a := a) (cS0 w)  ) cf_X11_after (cw_0 cy tE a rw (cS0 w)) rfl wm_L_87 wi_X11_after ws_X11_after dL_law_719 rfl (Nat.le_of_ble_eq_true rfl) ⟨by decide, by decide, by decide, by decide⟩) (fun r1 u1 p1 => ?_)
    obtain ⟨rfl, -⟩ := p1
    refine z_aload_n B0 dL_law_722 rfl rfl ?_
    refine z_aload_n B0 dL_law_723 rfl rfl ?_
    refine z_iload_n B0 dL_law_724 rfl rfl ?_
    refine z_iconst (v := 1) B0 dL_law_725 (by decide) ?_
    refine z_iadd (v := 1) B0 dL_law_726 (by decide) ?_
    refine y_sld (j := 1) (v := 1) B0 hX hbl (by decide) e1.symm dL_law_727 ?_
    refine z_aload_n B0 dL_law_728 rfl rfl ?_
    refine z_iload_n B0 dL_law_729 rfl rfl ?_
    refine z_iconst (v := 2) B0 dL_law_730 (by decide) ?_
    refine z_iadd (v := 2) B0 dL_law_731 (by decide) ?_
    refine y_sld (j := 2) (v := 14) B0 hX hbl (by decide) e2.symm dL_law_732 ?_
    refine z_callM B0 (z_runV (q0 := 0) (As := [.int 1, .int 14]) (st := [.int (-1)]) B0 (c_X12_after_73 (a := a2) mS0  rfl rfl rfl rfl rfl rfl rfl rfl rfl rfl rfl rfl rfl rfl rfl rfl rfl rfl rfl rfl rfl rfl rfl rfl rfl rfl rfl) cf_X12_after (mw_0 cy a2 mS0) rfl wm_L_90 wi_X12_after ws_X12_after dL_law_733 rfl (Nat.le_of_ble_eq_true rfl) ⟨by decide, by decide, by decide, by decide⟩) (fun r2 u2 p2 => ?_)
    obtain ⟨rfl, -⟩ := p2
    refine z_icmp_eq_t (tgt := 1091) B0 dL_law_736 (by decide) rfl ?_
    exact fin u1 u2
  · obtain rfl : x2 = 15 := Int32.toInt_inj.mp (h2.trans (by decide))
    refine z_aload_n B0 dL_law_708 rfl rfl ?_
    refine z_aload_n B0 dL_law_709 rfl rfl ?_
    refine z_iload_n B0 dL_law_710 rfl rfl ?_
    refine z_iconst (v := 1) B0 dL_law_711 (by decide) ?_
    refine z_iadd (v := 1) B0 dL_law_712 (by decide) ?_
    refine y_sld (j := 1) (v := 1) B0 hX hbl (by decide) e1.symm dL_law_713 ?_
    refine z_aload_n B0 dL_law_714 rfl rfl ?_
    refine z_iload_n B0 dL_law_715 rfl rfl ?_
    refine z_iconst (v := 2) B0 dL_law_716 (by decide) ?_
    refine z_iadd (v := 2) B0 dL_law_717 (by decide) ?_
    refine y_sld (j := 2) (v := 15) B0 hX hbl (by decide) e2.symm dL_law_718 ?_
    refine z_callC B0 (z_runV (q0 := 0) (As := [.int 1, .int 15]) (st := []) B0 (c_X11_after_74 (a := a) (cS0 w)  rfl rfl rfl hrw) cf_X11_after (cw_0 cy tE a rw (cS0 w)) rfl wm_L_87 wi_X11_after ws_X11_after dL_law_719 rfl (Nat.le_of_ble_eq_true rfl) ⟨by decide, by decide, by decide, by decide⟩) (fun r1 u1 p1 => ?_)
    obtain ⟨rfl, -⟩ := p1
    refine z_aload_n B0 dL_law_722 rfl rfl ?_
    refine z_aload_n B0 dL_law_723 rfl rfl ?_
    refine z_iload_n B0 dL_law_724 rfl rfl ?_
    refine z_iconst (v := 1) B0 dL_law_725 (by decide) ?_
    refine z_iadd (v := 1) B0 dL_law_726 (by decide) ?_
    refine y_sld (j := 1) (v := 1) B0 hX hbl (by decide) e1.symm dL_law_727 ?_
    refine z_aload_n B0 dL_law_728 rfl rfl ?_
    refine z_iload_n B0 dL_law_729 rfl rfl ?_
    refine z_iconst (v := 2) B0 dL_law_730 (by decide) ?_
    refine z_iadd (v := 2) B0 dL_law_731 (by decide) ?_
    refine y_sld (j := 2) (v := 15) B0 hX hbl (by decide) e2.symm dL_law_732 ?_
    refine z_callM B0 (z_runV (q0 := 0) (As := [.int 1, .int 15]) (st := [.int 0]) B0 (c_X12_after_74 (a := a2) mS0  rfl rfl rfl rfl rfl rfl rfl rfl rfl rfl rfl rfl rfl rfl rfl rfl rfl rfl rfl rfl rfl rfl rfl rfl rfl rfl rfl) cf_X12_after (mw_0 cy a2 mS0) rfl wm_L_90 wi_X12_after ws_X12_after dL_law_733 rfl (Nat.le_of_ble_eq_true rfl) ⟨by decide, by decide, by decide, by decide⟩) (fun r2 u2 p2 => ?_)
    obtain ⟨rfl, -⟩ := p2
    refine z_icmp_eq_t (tgt := 1091) B0 dL_law_736 (by decide) rfl ?_
    exact fin u1 u2
  · obtain rfl : x2 = 16 := Int32.toInt_inj.mp (h2.trans (by decide))
    refine z_aload_n B0 dL_law_708 rfl rfl ?_
    refine z_aload_n B0 dL_law_709 rfl rfl ?_
    refine z_iload_n B0 dL_law_710 rfl rfl ?_
    refine z_iconst (v := 1) B0 dL_law_711 (by decide) ?_
    refine z_iadd (v := 1) B0 dL_law_712 (by decide) ?_
    refine y_sld (j := 1) (v := 1) B0 hX hbl (by decide) e1.symm dL_law_713 ?_
    refine z_aload_n B0 dL_law_714 rfl rfl ?_
    refine z_iload_n B0 dL_law_715 rfl rfl ?_
    refine z_iconst (v := 2) B0 dL_law_716 (by decide) ?_
    refine z_iadd (v := 2) B0 dL_law_717 (by decide) ?_
    refine y_sld (j := 2) (v := 16) B0 hX hbl (by decide) e2.symm dL_law_718 ?_
    refine z_callC B0 (z_runV (q0 := 0) (As := [.int 1, .int 16]) (st := []) B0 (c_X11_after_75 (a := a) (cS0 w)  rfl rfl rfl hrw) cf_X11_after (cw_0 cy tE a rw (cS0 w)) rfl wm_L_87 wi_X11_after ws_X11_after dL_law_719 rfl (Nat.le_of_ble_eq_true rfl) ⟨by decide, by decide, by decide, by decide⟩) (fun r1 u1 p1 => ?_)
    obtain ⟨rfl, -⟩ := p1
    refine z_aload_n B0 dL_law_722 rfl rfl ?_
    refine z_aload_n B0 dL_law_723 rfl rfl ?_
    refine z_iload_n B0 dL_law_724 rfl rfl ?_
    refine z_iconst (v := 1) B0 dL_law_725 (by decide) ?_
    refine z_iadd (v := 1) B0 dL_law_726 (by decide) ?_
    refine y_sld (j := 1) (v := 1) B0 hX hbl (by decide) e1.symm dL_law_727 ?_
    refine z_aload_n B0 dL_law_728 rfl rfl ?_
    refine z_iload_n B0 dL_law_729 rfl rfl ?_
    refine z_iconst (v := 2) B0 dL_law_730 (by decide) ?_
    refine z_iadd (v := 2) B0 dL_law_731 (by decide) ?_
    refine y_sld (j := 2) (v := 16) B0 hX hbl (by decide) e2.symm dL_law_732 ?_
    refine z_callM B0 (z_runV (q0 := 0) (As := [.int 1, .int 16]) (st := [.int 0]) B0 (c_X12_after_75 (a := a2) mS0  rfl rfl rfl rfl rfl rfl rfl rfl rfl rfl rfl rfl rfl rfl rfl rfl rfl rfl rfl rfl rfl rfl rfl rfl rfl rfl rfl) cf_X12_after (mw_0 cy a2 mS0) rfl wm_L_90 wi_X12_after ws_X12_after dL_law_733 rfl (Nat.le_of_ble_eq_true rfl) ⟨by decide, by decide, by decide, by decide⟩) (fun r2 u2 p2 => ?_)
    obtain ⟨rfl, -⟩ := p2
    refine z_icmp_eq_t (tgt := 1091) B0 dL_law_736 (by decide) rfl ?_
    exact fin u1 u2
  · obtain rfl : x2 = 17 := Int32.toInt_inj.mp (h2.trans (by decide))
    refine z_aload_n B0 dL_law_708 rfl rfl ?_
    refine z_aload_n B0 dL_law_709 rfl rfl ?_
    refine z_iload_n B0 dL_law_710 rfl rfl ?_
    refine z_iconst (v := 1) B0 dL_law_711 (by decide) ?_
    refine z_iadd (v := 1) B0 dL_law_712 (by decide) ?_
    refine y_sld (j := 1) (v := 1) B0 hX hbl (by decide) e1.symm dL_law_713 ?_
    refine z_aload_n B0 dL_law_714 rfl rfl ?_
    refine z_iload_n B0 dL_law_715 rfl rfl ?_
    refine z_iconst (v := 2) B0 dL_law_716 (by decide) ?_
    refine z_iadd (v := 2) B0 dL_law_717 (by decide) ?_
    refine y_sld (j := 2) (v := 17) B0 hX hbl (by decide) e2.symm dL_law_718 ?_
    refine z_callC B0 (z_runV (q0 := 0) (As := [.int 1, .int 17]) (st := []) B0 (c_X11_after_76 (a := a) (cS0 w)  rfl rfl rfl hrw) cf_X11_after (cw_0 cy tE a rw (cS0 w)) rfl wm_L_87 wi_X11_after ws_X11_after dL_law_719 rfl (Nat.le_of_ble_eq_true rfl) ⟨by decide, by decide, by decide, by decide⟩) (fun r1 u1 p1 => ?_)
    obtain ⟨rfl, -⟩ := p1
    refine z_aload_n B0 dL_law_722 rfl rfl ?_
    refine z_aload_n B0 dL_law_723 rfl rfl ?_
    refine z_iload_n B0 dL_law_724 rfl rfl ?_
    refine z_iconst (v := 1) B0 dL_law_725 (by decide) ?_
    refine z_iadd (v := 1) B0 dL_law_726 (by decide) ?_
    refine y_sld (j := 1) (v := 1) B0 hX hbl (by decide) e1.symm dL_law_727 ?_
    refine z_aload_n B0 dL_law_728 rfl rfl ?_
    refine z_iload_n B0 dL_law_729 rfl rfl ?_
    refine z_iconst (v := 2) B0 dL_law_730 (by decide) ?_
    refine z_iadd (v := 2) B0 dL_law_731 (by decide) ?_
    refine y_sld (j := 2) (v := 17) B0 hX hbl (by decide) e2.symm dL_law_732 ?_
    refine z_callM B0 (z_runV (q0 := 0) (As := [.int 1, .int 17]) (st := [.int 0]) B0 (c_X12_after_76 (a := a2) mS0  rfl rfl rfl rfl rfl rfl rfl rfl rfl rfl rfl rfl rfl rfl rfl rfl rfl rfl rfl rfl rfl rfl rfl rfl rfl rfl rfl) cf_X12_after (mw_0 cy a2 mS0) rfl wm_L_90 wi_X12_after ws_X12_after dL_law_733 rfl (Nat.le_of_ble_eq_true rfl) ⟨by decide, by decide, by decide, by decide⟩) (fun r2 u2 p2 => ?_)
    obtain ⟨rfl, -⟩ := p2
    refine z_icmp_eq_t (tgt := 1091) B0 dL_law_736 (by decide) rfl ?_
    exact fin u1 u2
  · obtain rfl : x2 = 18 := Int32.toInt_inj.mp (h2.trans (by decide))
    refine z_aload_n B0 dL_law_708 rfl rfl ?_
    refine z_aload_n B0 dL_law_709 rfl rfl ?_
    refine z_iload_n B0 dL_law_710 rfl rfl ?_
    refine z_iconst (v := 1) B0 dL_law_711 (by decide) ?_
    refine z_iadd (v := 1) B0 dL_law_712 (by decide) ?_
    refine y_sld (j := 1) (v := 1) B0 hX hbl (by decide) e1.symm dL_law_713 ?_
    refine z_aload_n B0 dL_law_714 rfl rfl ?_
    refine z_iload_n B0 dL_law_715 rfl rfl ?_
    refine z_iconst (v := 2) B0 dL_law_716 (by decide) ?_
    refine z_iadd (v := 2) B0 dL_law_717 (by decide) ?_
    refine y_sld (j := 2) (v := 18) B0 hX hbl (by decide) e2.symm dL_law_718 ?_
    refine z_callC B0 (z_runV (q0 := 0) (As := [.int 1, .int 18]) (st := []) B0 (c_X11_after_77 (a := a) (cS0 w)  ) cf_X11_after (cw_0 cy tE a rw (cS0 w)) rfl wm_L_87 wi_X11_after ws_X11_after dL_law_719 rfl (Nat.le_of_ble_eq_true rfl) ⟨by decide, by decide, by decide, by decide⟩) (fun r1 u1 p1 => ?_)
    obtain ⟨rfl, -⟩ := p1
    refine z_aload_n B0 dL_law_722 rfl rfl ?_
    refine z_aload_n B0 dL_law_723 rfl rfl ?_
    refine z_iload_n B0 dL_law_724 rfl rfl ?_
    refine z_iconst (v := 1) B0 dL_law_725 (by decide) ?_
    refine z_iadd (v := 1) B0 dL_law_726 (by decide) ?_
    refine y_sld (j := 1) (v := 1) B0 hX hbl (by decide) e1.symm dL_law_727 ?_
    refine z_aload_n B0 dL_law_728 rfl rfl ?_
    refine z_iload_n B0 dL_law_729 rfl rfl ?_
    refine z_iconst (v := 2) B0 dL_law_730 (by decide) ?_
    refine z_iadd (v := 2) B0 dL_law_731 (by decide) ?_
    refine y_sld (j := 2) (v := 18) B0 hX hbl (by decide) e2.symm dL_law_732 ?_
    refine z_callM B0 (z_runV (q0 := 0) (As := [.int 1, .int 18]) (st := [.int (-1)]) B0 (c_X12_after_77 (a := a2) mS0  rfl rfl rfl rfl rfl rfl rfl rfl rfl rfl rfl rfl rfl rfl rfl rfl rfl rfl rfl rfl rfl rfl rfl rfl rfl rfl rfl) cf_X12_after (mw_0 cy a2 mS0) rfl wm_L_90 wi_X12_after ws_X12_after dL_law_733 rfl (Nat.le_of_ble_eq_true rfl) ⟨by decide, by decide, by decide, by decide⟩) (fun r2 u2 p2 => ?_)
    obtain ⟨rfl, -⟩ := p2
    refine z_icmp_eq_t (tgt := 1091) B0 dL_law_736 (by decide) rfl ?_
    exact fin u1 u2
  · obtain rfl : x2 = 19 := Int32.toInt_inj.mp (h2.trans (by decide))
    refine z_aload_n B0 dL_law_708 rfl rfl ?_
    refine z_aload_n B0 dL_law_709 rfl rfl ?_
    refine z_iload_n B0 dL_law_710 rfl rfl ?_
    refine z_iconst (v := 1) B0 dL_law_711 (by decide) ?_
    refine z_iadd (v := 1) B0 dL_law_712 (by decide) ?_
    refine y_sld (j := 1) (v := 1) B0 hX hbl (by decide) e1.symm dL_law_713 ?_
    refine z_aload_n B0 dL_law_714 rfl rfl ?_
    refine z_iload_n B0 dL_law_715 rfl rfl ?_
    refine z_iconst (v := 2) B0 dL_law_716 (by decide) ?_
    refine z_iadd (v := 2) B0 dL_law_717 (by decide) ?_
    refine y_sld (j := 2) (v := 19) B0 hX hbl (by decide) e2.symm dL_law_718 ?_
    refine z_callC B0 (z_runV (q0 := 0) (As := [.int 1, .int 19]) (st := []) B0 (c_X11_after_78 (a := a) (cS0 w)  ) cf_X11_after (cw_0 cy tE a rw (cS0 w)) rfl wm_L_87 wi_X11_after ws_X11_after dL_law_719 rfl (Nat.le_of_ble_eq_true rfl) ⟨by decide, by decide, by decide, by decide⟩) (fun r1 u1 p1 => ?_)
    obtain ⟨rfl, -⟩ := p1
    refine z_aload_n B0 dL_law_722 rfl rfl ?_
    refine z_aload_n B0 dL_law_723 rfl rfl ?_
    refine z_iload_n B0 dL_law_724 rfl rfl ?_
    refine z_iconst (v := 1) B0 dL_law_725 (by decide) ?_
    refine z_iadd (v := 1) B0 dL_law_726 (by decide) ?_
    refine y_sld (j := 1) (v := 1) B0 hX hbl (by decide) e1.symm dL_law_727 ?_
    refine z_aload_n B0 dL_law_728 rfl rfl ?_
    refine z_iload_n B0 dL_law_729 rfl rfl ?_
    refine z_iconst (v := 2) B0 dL_law_730 (by decide) ?_
    refine z_iadd (v := 2) B0 dL_law_731 (by decide) ?_
    refine y_sld (j := 2) (v := 19) B0 hX hbl (by decide) e2.symm dL_law_732 ?_
    refine z_callM B0 (z_runV (q0 := 0) (As := [.int 1, .int 19]) (st := [.int (-1)]) B0 (c_X12_after_78 (a := a2) mS0  rfl rfl rfl rfl rfl rfl rfl rfl rfl rfl rfl rfl rfl rfl rfl rfl rfl rfl rfl rfl rfl rfl rfl rfl rfl rfl rfl) cf_X12_after (mw_0 cy a2 mS0) rfl wm_L_90 wi_X12_after ws_X12_after dL_law_733 rfl (Nat.le_of_ble_eq_true rfl) ⟨by decide, by decide, by decide, by decide⟩) (fun r2 u2 p2 => ?_)
    obtain ⟨rfl, -⟩ := p2
    refine z_icmp_eq_t (tgt := 1091) B0 dL_law_736 (by decide) rfl ?_
    exact fin u1 u2
  · obtain rfl : x2 = 20 := Int32.toInt_inj.mp (h2.trans (by decide))
    refine z_aload_n B0 dL_law_708 rfl rfl ?_
    refine z_aload_n B0 dL_law_709 rfl rfl ?_
    refine z_iload_n B0 dL_law_710 rfl rfl ?_
    refine z_iconst (v := 1) B0 dL_law_711 (by decide) ?_
    refine z_iadd (v := 1) B0 dL_law_712 (by decide) ?_
    refine y_sld (j := 1) (v := 1) B0 hX hbl (by decide) e1.symm dL_law_713 ?_
    refine z_aload_n B0 dL_law_714 rfl rfl ?_
    refine z_iload_n B0 dL_law_715 rfl rfl ?_
    refine z_iconst (v := 2) B0 dL_law_716 (by decide) ?_
    refine z_iadd (v := 2) B0 dL_law_717 (by decide) ?_
    refine y_sld (j := 2) (v := 20) B0 hX hbl (by decide) e2.symm dL_law_718 ?_
    refine z_callC B0 (z_runV (q0 := 0) (As := [.int 1, .int 20]) (st := []) B0 (c_X11_after_79 (a := a) (cS0 w)  ) cf_X11_after (cw_0 cy tE a rw (cS0 w)) rfl wm_L_87 wi_X11_after ws_X11_after dL_law_719 rfl (Nat.le_of_ble_eq_true rfl) ⟨by decide, by decide, by decide, by decide⟩) (fun r1 u1 p1 => ?_)
    obtain ⟨rfl, -⟩ := p1
    refine z_aload_n B0 dL_law_722 rfl rfl ?_
    refine z_aload_n B0 dL_law_723 rfl rfl ?_
    refine z_iload_n B0 dL_law_724 rfl rfl ?_
    refine z_iconst (v := 1) B0 dL_law_725 (by decide) ?_
    refine z_iadd (v := 1) B0 dL_law_726 (by decide) ?_
    refine y_sld (j := 1) (v := 1) B0 hX hbl (by decide) e1.symm dL_law_727 ?_
    refine z_aload_n B0 dL_law_728 rfl rfl ?_
    refine z_iload_n B0 dL_law_729 rfl rfl ?_
    refine z_iconst (v := 2) B0 dL_law_730 (by decide) ?_
    refine z_iadd (v := 2) B0 dL_law_731 (by decide) ?_
    refine y_sld (j := 2) (v := 20) B0 hX hbl (by decide) e2.symm dL_law_732 ?_
    refine z_callM B0 (z_runV (q0 := 0) (As := [.int 1, .int 20]) (st := [.int (-1)]) B0 (c_X12_after_79 (a := a2) mS0  rfl rfl rfl rfl rfl rfl rfl rfl rfl rfl rfl rfl rfl rfl rfl rfl rfl rfl rfl rfl rfl rfl rfl rfl rfl rfl rfl) cf_X12_after (mw_0 cy a2 mS0) rfl wm_L_90 wi_X12_after ws_X12_after dL_law_733 rfl (Nat.le_of_ble_eq_true rfl) ⟨by decide, by decide, by decide, by decide⟩) (fun r2 u2 p2 => ?_)
    obtain ⟨rfl, -⟩ := p2
    refine z_icmp_eq_t (tgt := 1091) B0 dL_law_736 (by decide) rfl ?_
    exact fin u1 u2
  · obtain rfl : x2 = 21 := Int32.toInt_inj.mp (h2.trans (by decide))
    refine z_aload_n B0 dL_law_708 rfl rfl ?_
    refine z_aload_n B0 dL_law_709 rfl rfl ?_
    refine z_iload_n B0 dL_law_710 rfl rfl ?_
    refine z_iconst (v := 1) B0 dL_law_711 (by decide) ?_
    refine z_iadd (v := 1) B0 dL_law_712 (by decide) ?_
    refine y_sld (j := 1) (v := 1) B0 hX hbl (by decide) e1.symm dL_law_713 ?_
    refine z_aload_n B0 dL_law_714 rfl rfl ?_
    refine z_iload_n B0 dL_law_715 rfl rfl ?_
    refine z_iconst (v := 2) B0 dL_law_716 (by decide) ?_
    refine z_iadd (v := 2) B0 dL_law_717 (by decide) ?_
    refine y_sld (j := 2) (v := 21) B0 hX hbl (by decide) e2.symm dL_law_718 ?_
    refine z_callC B0 (z_runV (q0 := 0) (As := [.int 1, .int 21]) (st := []) B0 (c_X11_after_80 (a := a) (cS0 w)  rfl rfl rfl hrw) cf_X11_after (cw_0 cy tE a rw (cS0 w)) rfl wm_L_87 wi_X11_after ws_X11_after dL_law_719 rfl (Nat.le_of_ble_eq_true rfl) ⟨by decide, by decide, by decide, by decide⟩) (fun r1 u1 p1 => ?_)
    obtain ⟨rfl, -⟩ := p1
    refine z_aload_n B0 dL_law_722 rfl rfl ?_
    refine z_aload_n B0 dL_law_723 rfl rfl ?_
    refine z_iload_n B0 dL_law_724 rfl rfl ?_
    refine z_iconst (v := 1) B0 dL_law_725 (by decide) ?_
    refine z_iadd (v := 1) B0 dL_law_726 (by decide) ?_
    refine y_sld (j := 1) (v := 1) B0 hX hbl (by decide) e1.symm dL_law_727 ?_
    refine z_aload_n B0 dL_law_728 rfl rfl ?_
    refine z_iload_n B0 dL_law_729 rfl rfl ?_
    refine z_iconst (v := 2) B0 dL_law_730 (by decide) ?_
    refine z_iadd (v := 2) B0 dL_law_731 (by decide) ?_
    refine y_sld (j := 2) (v := 21) B0 hX hbl (by decide) e2.symm dL_law_732 ?_
    refine z_callM B0 (z_runV (q0 := 0) (As := [.int 1, .int 21]) (st := [.int 0]) B0 (c_X12_after_80 (a := a2) mS0  rfl rfl rfl rfl rfl rfl rfl rfl rfl rfl rfl rfl rfl rfl rfl rfl rfl rfl rfl rfl rfl rfl rfl rfl rfl rfl rfl) cf_X12_after (mw_0 cy a2 mS0) rfl wm_L_90 wi_X12_after ws_X12_after dL_law_733 rfl (Nat.le_of_ble_eq_true rfl) ⟨by decide, by decide, by decide, by decide⟩) (fun r2 u2 p2 => ?_)
    obtain ⟨rfl, -⟩ := p2
    refine z_icmp_eq_t (tgt := 1091) B0 dL_law_736 (by decide) rfl ?_
    exact fin u1 u2
  · obtain rfl : x2 = 22 := Int32.toInt_inj.mp (h2.trans (by decide))
    refine z_aload_n B0 dL_law_708 rfl rfl ?_
    refine z_aload_n B0 dL_law_709 rfl rfl ?_
    refine z_iload_n B0 dL_law_710 rfl rfl ?_
    refine z_iconst (v := 1) B0 dL_law_711 (by decide) ?_
    refine z_iadd (v := 1) B0 dL_law_712 (by decide) ?_
    refine y_sld (j := 1) (v := 1) B0 hX hbl (by decide) e1.symm dL_law_713 ?_
    refine z_aload_n B0 dL_law_714 rfl rfl ?_
    refine z_iload_n B0 dL_law_715 rfl rfl ?_
    refine z_iconst (v := 2) B0 dL_law_716 (by decide) ?_
    refine z_iadd (v := 2) B0 dL_law_717 (by decide) ?_
    refine y_sld (j := 2) (v := 22) B0 hX hbl (by decide) e2.symm dL_law_718 ?_
    refine z_callC B0 (z_runV (q0 := 0) (As := [.int 1, .int 22]) (st := []) B0 (c_X11_after_81 (a := a) (cS0 w)  rfl rfl rfl hrw) cf_X11_after (cw_0 cy tE a rw (cS0 w)) rfl wm_L_87 wi_X11_after ws_X11_after dL_law_719 rfl (Nat.le_of_ble_eq_true rfl) ⟨by decide, by decide, by decide, by decide⟩) (fun r1 u1 p1 => ?_)
    obtain ⟨rfl, -⟩ := p1
    refine z_aload_n B0 dL_law_722 rfl rfl ?_
    refine z_aload_n B0 dL_law_723 rfl rfl ?_
    refine z_iload_n B0 dL_law_724 rfl rfl ?_
    refine z_iconst (v := 1) B0 dL_law_725 (by decide) ?_
    refine z_iadd (v := 1) B0 dL_law_726 (by decide) ?_
    refine y_sld (j := 1) (v := 1) B0 hX hbl (by decide) e1.symm dL_law_727 ?_
    refine z_aload_n B0 dL_law_728 rfl rfl ?_
    refine z_iload_n B0 dL_law_729 rfl rfl ?_
    refine z_iconst (v := 2) B0 dL_law_730 (by decide) ?_
    refine z_iadd (v := 2) B0 dL_law_731 (by decide) ?_
    refine y_sld (j := 2) (v := 22) B0 hX hbl (by decide) e2.symm dL_law_732 ?_
    refine z_callM B0 (z_runV (q0 := 0) (As := [.int 1, .int 22]) (st := [.int 0]) B0 (c_X12_after_81 (a := a2) mS0  rfl rfl rfl rfl rfl rfl rfl rfl rfl rfl rfl rfl rfl rfl rfl rfl rfl rfl rfl rfl rfl rfl rfl rfl rfl rfl rfl) cf_X12_after (mw_0 cy a2 mS0) rfl wm_L_90 wi_X12_after ws_X12_after dL_law_733 rfl (Nat.le_of_ble_eq_true rfl) ⟨by decide, by decide, by decide, by decide⟩) (fun r2 u2 p2 => ?_)
    obtain ⟨rfl, -⟩ := p2
    refine z_icmp_eq_t (tgt := 1091) B0 dL_law_736 (by decide) rfl ?_
    exact fin u1 u2
  · obtain rfl : x2 = 23 := Int32.toInt_inj.mp (h2.trans (by decide))
    refine z_aload_n B0 dL_law_708 rfl rfl ?_
    refine z_aload_n B0 dL_law_709 rfl rfl ?_
    refine z_iload_n B0 dL_law_710 rfl rfl ?_
    refine z_iconst (v := 1) B0 dL_law_711 (by decide) ?_
    refine z_iadd (v := 1) B0 dL_law_712 (by decide) ?_
    refine y_sld (j := 1) (v := 1) B0 hX hbl (by decide) e1.symm dL_law_713 ?_
    refine z_aload_n B0 dL_law_714 rfl rfl ?_
    refine z_iload_n B0 dL_law_715 rfl rfl ?_
    refine z_iconst (v := 2) B0 dL_law_716 (by decide) ?_
    refine z_iadd (v := 2) B0 dL_law_717 (by decide) ?_
    refine y_sld (j := 2) (v := 23) B0 hX hbl (by decide) e2.symm dL_law_718 ?_
    refine z_callC B0 (z_runV (q0 := 0) (As := [.int 1, .int 23]) (st := []) B0 (c_X11_after_82 (a := a) (cS0 w)  rfl rfl rfl hrw) cf_X11_after (cw_0 cy tE a rw (cS0 w)) rfl wm_L_87 wi_X11_after ws_X11_after dL_law_719 rfl (Nat.le_of_ble_eq_true rfl) ⟨by decide, by decide, by decide, by decide⟩) (fun r1 u1 p1 => ?_)
    obtain ⟨rfl, -⟩ := p1
    refine z_aload_n B0 dL_law_722 rfl rfl ?_
    refine z_aload_n B0 dL_law_723 rfl rfl ?_
    refine z_iload_n B0 dL_law_724 rfl rfl ?_
    refine z_iconst (v := 1) B0 dL_law_725 (by decide) ?_
    refine z_iadd (v := 1) B0 dL_law_726 (by decide) ?_
    refine y_sld (j := 1) (v := 1) B0 hX hbl (by decide) e1.symm dL_law_727 ?_
    refine z_aload_n B0 dL_law_728 rfl rfl ?_
    refine z_iload_n B0 dL_law_729 rfl rfl ?_
    refine z_iconst (v := 2) B0 dL_law_730 (by decide) ?_
    refine z_iadd (v := 2) B0 dL_law_731 (by decide) ?_
    refine y_sld (j := 2) (v := 23) B0 hX hbl (by decide) e2.symm dL_law_732 ?_
    refine z_callM B0 (z_runV (q0 := 0) (As := [.int 1, .int 23]) (st := [.int 0]) B0 (c_X12_after_82 (a := a2) mS0  rfl rfl rfl rfl rfl rfl rfl rfl rfl rfl rfl rfl rfl rfl rfl rfl rfl rfl rfl rfl rfl rfl rfl rfl rfl rfl rfl) cf_X12_after (mw_0 cy a2 mS0) rfl wm_L_90 wi_X12_after ws_X12_after dL_law_733 rfl (Nat.le_of_ble_eq_true rfl) ⟨by decide, by decide, by decide, by decide⟩) (fun r2 u2 p2 => ?_)
    obtain ⟨rfl, -⟩ := p2
    refine z_icmp_eq_t (tgt := 1091) B0 dL_law_736 (by decide) rfl ?_
    exact fin u1 u2
  · obtain rfl : x2 = 24 := Int32.toInt_inj.mp (h2.trans (by decide))
    refine z_aload_n B0 dL_law_708 rfl rfl ?_
    refine z_aload_n B0 dL_law_709 rfl rfl ?_
    refine z_iload_n B0 dL_law_710 rfl rfl ?_
    refine z_iconst (v := 1) B0 dL_law_711 (by decide) ?_
    refine z_iadd (v := 1) B0 dL_law_712 (by decide) ?_
    refine y_sld (j := 1) (v := 1) B0 hX hbl (by decide) e1.symm dL_law_713 ?_
    refine z_aload_n B0 dL_law_714 rfl rfl ?_
    refine z_iload_n B0 dL_law_715 rfl rfl ?_
    refine z_iconst (v := 2) B0 dL_law_716 (by decide) ?_
    refine z_iadd (v := 2) B0 dL_law_717 (by decide) ?_
    refine y_sld (j := 2) (v := 24) B0 hX hbl (by decide) e2.symm dL_law_718 ?_
    refine z_callC B0 (z_runV (q0 := 0) (As := [.int 1, .int 24]) (st := []) B0 (c_X11_after_83 (a := a) (cS0 w)  ) cf_X11_after (cw_0 cy tE a rw (cS0 w)) rfl wm_L_87 wi_X11_after ws_X11_after dL_law_719 rfl (Nat.le_of_ble_eq_true rfl) ⟨by decide, by decide, by decide, by decide⟩) (fun r1 u1 p1 => ?_)
    obtain ⟨rfl, -⟩ := p1
    refine z_aload_n B0 dL_law_722 rfl rfl ?_
    refine z_aload_n B0 dL_law_723 rfl rfl ?_
    refine z_iload_n B0 dL_law_724 rfl rfl ?_
    refine z_iconst (v := 1) B0 dL_law_725 (by decide) ?_
    refine z_iadd (v := 1) B0 dL_law_726 (by decide) ?_
    refine y_sld (j := 1) (v := 1) B0 hX hbl (by decide) e1.symm dL_law_727 ?_
    refine z_aload_n B0 dL_law_728 rfl rfl ?_
    refine z_iload_n B0 dL_law_729 rfl rfl ?_
    refine z_iconst (v := 2) B0 dL_law_730 (by decide) ?_
    refine z_iadd (v := 2) B0 dL_law_731 (by decide) ?_
    refine y_sld (j := 2) (v := 24) B0 hX hbl (by decide) e2.symm dL_law_732 ?_
    refine z_callM B0 (z_runV (q0 := 0) (As := [.int 1, .int 24]) (st := [.int (-1)]) B0 (c_X12_after_83 (a := a2) mS0  rfl rfl rfl rfl rfl rfl rfl rfl rfl rfl rfl rfl rfl rfl rfl rfl rfl rfl rfl rfl rfl rfl rfl rfl rfl rfl rfl) cf_X12_after (mw_0 cy a2 mS0) rfl wm_L_90 wi_X12_after ws_X12_after dL_law_733 rfl (Nat.le_of_ble_eq_true rfl) ⟨by decide, by decide, by decide, by decide⟩) (fun r2 u2 p2 => ?_)
    obtain ⟨rfl, -⟩ := p2
    refine z_icmp_eq_t (tgt := 1091) B0 dL_law_736 (by decide) rfl ?_
    exact fin u1 u2
  · obtain rfl : x2 = 25 := Int32.toInt_inj.mp (h2.trans (by decide))
    refine z_aload_n B0 dL_law_708 rfl rfl ?_
    refine z_aload_n B0 dL_law_709 rfl rfl ?_
    refine z_iload_n B0 dL_law_710 rfl rfl ?_
    refine z_iconst (v := 1) B0 dL_law_711 (by decide) ?_
    refine z_iadd (v := 1) B0 dL_law_712 (by decide) ?_
    refine y_sld (j := 1) (v := 1) B0 hX hbl (by decide) e1.symm dL_law_713 ?_
    refine z_aload_n B0 dL_law_714 rfl rfl ?_
    refine z_iload_n B0 dL_law_715 rfl rfl ?_
    refine z_iconst (v := 2) B0 dL_law_716 (by decide) ?_
    refine z_iadd (v := 2) B0 dL_law_717 (by decide) ?_
    refine y_sld (j := 2) (v := 25) B0 hX hbl (by decide) e2.symm dL_law_718 ?_
    refine z_callC B0 (z_runV (q0 := 0) (As := [.int 1, .int 25]) (st := []) B0 (c_X11_after_84 (a := a) (cS0 w)  rfl rfl rfl hrw) cf_X11_after (cw_0 cy tE a rw (cS0 w)) rfl wm_L_87 wi_X11_after ws_X11_after dL_law_719 rfl (Nat.le_of_ble_eq_true rfl) ⟨by decide, by decide, by decide, by decide⟩) (fun r1 u1 p1 => ?_)
    obtain ⟨rfl, -⟩ := p1
    refine z_aload_n B0 dL_law_722 rfl rfl ?_
    refine z_aload_n B0 dL_law_723 rfl rfl ?_
    refine z_iload_n B0 dL_law_724 rfl rfl ?_
    refine z_iconst (v := 1) B0 dL_law_725 (by decide) ?_
    refine z_iadd (v := 1) B0 dL_law_726 (by decide) ?_
    refine y_sld (j := 1) (v := 1) B0 hX hbl (by decide) e1.symm dL_law_727 ?_
    refine z_aload_n B0 dL_law_728 rfl rfl ?_
    refine z_iload_n B0 dL_law_729 rfl rfl ?_
    refine z_iconst (v := 2) B0 dL_law_730 (by decide) ?_
    refine z_iadd (v := 2) B0 dL_law_731 (by decide) ?_
    refine y_sld (j := 2) (v := 25) B0 hX hbl (by decide) e2.symm dL_law_732 ?_
    refine z_callM B0 (z_runV (q0 := 0) (As := [.int 1, .int 25]) (st := [.int 0]) B0 (c_X12_after_84 (a := a2) mS0  rfl rfl rfl rfl rfl rfl rfl rfl rfl rfl rfl rfl rfl rfl rfl rfl rfl rfl rfl rfl rfl rfl rfl rfl rfl rfl rfl) cf_X12_after (mw_0 cy a2 mS0) rfl wm_L_90 wi_X12_after ws_X12_after dL_law_733 rfl (Nat.le_of_ble_eq_true rfl) ⟨by decide, by decide, by decide, by decide⟩) (fun r2 u2 p2 => ?_)
    obtain ⟨rfl, -⟩ := p2
    refine z_icmp_eq_t (tgt := 1091) B0 dL_law_736 (by decide) rfl ?_
    exact fin u1 u2
  · obtain rfl : x2 = 26 := Int32.toInt_inj.mp (h2.trans (by decide))
    refine z_aload_n B0 dL_law_708 rfl rfl ?_
    refine z_aload_n B0 dL_law_709 rfl rfl ?_
    refine z_iload_n B0 dL_law_710 rfl rfl ?_
    refine z_iconst (v := 1) B0 dL_law_711 (by decide) ?_
    refine z_iadd (v := 1) B0 dL_law_712 (by decide) ?_
    refine y_sld (j := 1) (v := 1) B0 hX hbl (by decide) e1.symm dL_law_713 ?_
    refine z_aload_n B0 dL_law_714 rfl rfl ?_
    refine z_iload_n B0 dL_law_715 rfl rfl ?_
    refine z_iconst (v := 2) B0 dL_law_716 (by decide) ?_
    refine z_iadd (v := 2) B0 dL_law_717 (by decide) ?_
    refine y_sld (j := 2) (v := 26) B0 hX hbl (by decide) e2.symm dL_law_718 ?_
    refine z_callC B0 (z_runV (q0 := 0) (As := [.int 1, .int 26]) (st := []) B0 (c_X11_after_85 (a := a) (cS0 w)  rfl rfl rfl hrw) cf_X11_after (cw_0 cy tE a rw (cS0 w)) rfl wm_L_87 wi_X11_after ws_X11_after dL_law_719 rfl (Nat.le_of_ble_eq_true rfl) ⟨by decide, by decide, by decide, by decide⟩) (fun r1 u1 p1 => ?_)
    obtain ⟨rfl, -⟩ := p1
    refine z_aload_n B0 dL_law_722 rfl rfl ?_
    refine z_aload_n B0 dL_law_723 rfl rfl ?_
    refine z_iload_n B0 dL_law_724 rfl rfl ?_
    refine z_iconst (v := 1) B0 dL_law_725 (by decide) ?_
    refine z_iadd (v := 1) B0 dL_law_726 (by decide) ?_
    refine y_sld (j := 1) (v := 1) B0 hX hbl (by decide) e1.symm dL_law_727 ?_
    refine z_aload_n B0 dL_law_728 rfl rfl ?_
    refine z_iload_n B0 dL_law_729 rfl rfl ?_
    refine z_iconst (v := 2) B0 dL_law_730 (by decide) ?_
    refine z_iadd (v := 2) B0 dL_law_731 (by decide) ?_
    refine y_sld (j := 2) (v := 26) B0 hX hbl (by decide) e2.symm dL_law_732 ?_
    refine z_callM B0 (z_runV (q0 := 0) (As := [.int 1, .int 26]) (st := [.int 0]) B0 (c_X12_after_85 (a := a2) mS0  rfl rfl rfl rfl rfl rfl rfl rfl rfl rfl rfl rfl rfl rfl rfl rfl rfl rfl rfl rfl rfl rfl rfl rfl rfl rfl rfl) cf_X12_after (mw_0 cy a2 mS0) rfl wm_L_90 wi_X12_after ws_X12_after dL_law_733 rfl (Nat.le_of_ble_eq_true rfl) ⟨by decide, by decide, by decide, by decide⟩) (fun r2 u2 p2 => ?_)
    obtain ⟨rfl, -⟩ := p2
    refine z_icmp_eq_t (tgt := 1091) B0 dL_law_736 (by decide) rfl ?_
    exact fin u1 u2
  · obtain rfl : x2 = 27 := Int32.toInt_inj.mp (h2.trans (by decide))
    refine z_aload_n B0 dL_law_708 rfl rfl ?_
    refine z_aload_n B0 dL_law_709 rfl rfl ?_
    refine z_iload_n B0 dL_law_710 rfl rfl ?_
    refine z_iconst (v := 1) B0 dL_law_711 (by decide) ?_
    refine z_iadd (v := 1) B0 dL_law_712 (by decide) ?_
    refine y_sld (j := 1) (v := 1) B0 hX hbl (by decide) e1.symm dL_law_713 ?_
    refine z_aload_n B0 dL_law_714 rfl rfl ?_
    refine z_iload_n B0 dL_law_715 rfl rfl ?_
    refine z_iconst (v := 2) B0 dL_law_716 (by decide) ?_
    refine z_iadd (v := 2) B0 dL_law_717 (by decide) ?_
    refine y_sld (j := 2) (v := 27) B0 hX hbl (by decide) e2.symm dL_law_718 ?_
    refine z_callC B0 (z_runV (q0 := 0) (As := [.int 1, .int 27]) (st := []) B0 (c_X11_after_86 (a := a) (cS0 w)  rfl rfl rfl hrw) cf_X11_after (cw_0 cy tE a rw (cS0 w)) rfl wm_L_87 wi_X11_after ws_X11_after dL_law_719 rfl (Nat.le_of_ble_eq_true rfl) ⟨by decide, by decide, by decide, by decide⟩) (fun r1 u1 p1 => ?_)
    obtain ⟨rfl, -⟩ := p1
    refine z_aload_n B0 dL_law_722 rfl rfl ?_
    refine z_aload_n B0 dL_law_723 rfl rfl ?_
    refine z_iload_n B0 dL_law_724 rfl rfl ?_
    refine z_iconst (v := 1) B0 dL_law_725 (by decide) ?_
    refine z_iadd (v := 1) B0 dL_law_726 (by decide) ?_
    refine y_sld (j := 1) (v := 1) B0 hX hbl (by decide) e1.symm dL_law_727 ?_
    refine z_aload_n B0 dL_law_728 rfl rfl ?_
    refine z_iload_n B0 dL_law_729 rfl rfl ?_
    refine z_iconst (v := 2) B0 dL_law_730 (by decide) ?_
    refine z_iadd (v := 2) B0 dL_law_731 (by decide) ?_
    refine y_sld (j := 2) (v := 27) B0 hX hbl (by decide) e2.symm dL_law_732 ?_
    refine z_callM B0 (z_runV (q0 := 0) (As := [.int 1, .int 27]) (st := [.int 0]) B0 (c_X12_after_86 (a := a2) mS0  rfl rfl rfl rfl rfl rfl rfl rfl rfl rfl rfl rfl rfl rfl rfl rfl rfl rfl rfl rfl rfl rfl rfl rfl rfl rfl rfl) cf_X12_after (mw_0 cy a2 mS0) rfl wm_L_90 wi_X12_after ws_X12_after dL_law_733 rfl (Nat.le_of_ble_eq_true rfl) ⟨by decide, by decide, by decide, by decide⟩) (fun r2 u2 p2 => ?_)
    obtain ⟨rfl, -⟩ := p2
    refine z_icmp_eq_t (tgt := 1091) B0 dL_law_736 (by decide) rfl ?_
    exact fin u1 u2
  · obtain rfl : x2 = 28 := Int32.toInt_inj.mp (h2.trans (by decide))
    refine z_aload_n B0 dL_law_708 rfl rfl ?_
    refine z_aload_n B0 dL_law_709 rfl rfl ?_
    refine z_iload_n B0 dL_law_710 rfl rfl ?_
    refine z_iconst (v := 1) B0 dL_law_711 (by decide) ?_
    refine z_iadd (v := 1) B0 dL_law_712 (by decide) ?_
    refine y_sld (j := 1) (v := 1) B0 hX hbl (by decide) e1.symm dL_law_713 ?_
    refine z_aload_n B0 dL_law_714 rfl rfl ?_
    refine z_iload_n B0 dL_law_715 rfl rfl ?_
    refine z_iconst (v := 2) B0 dL_law_716 (by decide) ?_
    refine z_iadd (v := 2) B0 dL_law_717 (by decide) ?_
    refine y_sld (j := 2) (v := 28) B0 hX hbl (by decide) e2.symm dL_law_718 ?_
    refine z_callC B0 (z_runV (q0 := 0) (As := [.int 1, .int 28]) (st := []) B0 (c_X11_after_87 (a := a) (cS0 w)  ) cf_X11_after (cw_0 cy tE a rw (cS0 w)) rfl wm_L_87 wi_X11_after ws_X11_after dL_law_719 rfl (Nat.le_of_ble_eq_true rfl) ⟨by decide, by decide, by decide, by decide⟩) (fun r1 u1 p1 => ?_)
    obtain ⟨rfl, -⟩ := p1
    refine z_aload_n B0 dL_law_722 rfl rfl ?_
    refine z_aload_n B0 dL_law_723 rfl rfl ?_
    refine z_iload_n B0 dL_law_724 rfl rfl ?_
    refine z_iconst (v := 1) B0 dL_law_725 (by decide) ?_
    refine z_iadd (v := 1) B0 dL_law_726 (by decide) ?_
    refine y_sld (j := 1) (v := 1) B0 hX hbl (by decide) e1.symm dL_law_727 ?_
    refine z_aload_n B0 dL_law_728 rfl rfl ?_
    refine z_iload_n B0 dL_law_729 rfl rfl ?_
    refine z_iconst (v := 2) B0 dL_law_730 (by decide) ?_
    refine z_iadd (v := 2) B0 dL_law_731 (by decide) ?_
    refine y_sld (j := 2) (v := 28) B0 hX hbl (by decide) e2.symm dL_law_732 ?_
    refine z_callM B0 (z_runV (q0 := 0) (As := [.int 1, .int 28]) (st := [.int (-1)]) B0 (c_X12_after_87 (a := a2) mS0  rfl rfl rfl rfl rfl rfl rfl rfl rfl rfl rfl rfl rfl rfl rfl rfl rfl rfl rfl rfl rfl rfl rfl rfl rfl rfl rfl) cf_X12_after (mw_0 cy a2 mS0) rfl wm_L_90 wi_X12_after ws_X12_after dL_law_733 rfl (Nat.le_of_ble_eq_true rfl) ⟨by decide, by decide, by decide, by decide⟩) (fun r2 u2 p2 => ?_)
    obtain ⟨rfl, -⟩ := p2
    refine z_icmp_eq_t (tgt := 1091) B0 dL_law_736 (by decide) rfl ?_
    exact fin u1 u2
  · obtain rfl : x2 = 29 := Int32.toInt_inj.mp (h2.trans (by decide))
    refine z_aload_n B0 dL_law_708 rfl rfl ?_
    refine z_aload_n B0 dL_law_709 rfl rfl ?_
    refine z_iload_n B0 dL_law_710 rfl rfl ?_
    refine z_iconst (v := 1) B0 dL_law_711 (by decide) ?_
    refine z_iadd (v := 1) B0 dL_law_712 (by decide) ?_
    refine y_sld (j := 1) (v := 1) B0 hX hbl (by decide) e1.symm dL_law_713 ?_
    refine z_aload_n B0 dL_law_714 rfl rfl ?_
    refine z_iload_n B0 dL_law_715 rfl rfl ?_
    refine z_iconst (v := 2) B0 dL_law_716 (by decide) ?_
    refine z_iadd (v := 2) B0 dL_law_717 (by decide) ?_
    refine y_sld (j := 2) (v := 29) B0 hX hbl (by decide) e2.symm dL_law_718 ?_
    refine z_callC B0 (z_runV (q0 := 0) (As := [.int 1, .int 29]) (st := []) B0 (c_X11_after_88 (a := a) (cS0 w)  ) cf_X11_after (cw_0 cy tE a rw (cS0 w)) rfl wm_L_87 wi_X11_after ws_X11_after dL_law_719 rfl (Nat.le_of_ble_eq_true rfl) ⟨by decide, by decide, by decide, by decide⟩) (fun r1 u1 p1 => ?_)
    obtain ⟨rfl, -⟩ := p1
    refine z_aload_n B0 dL_law_722 rfl rfl ?_
    refine z_aload_n B0 dL_law_723 rfl rfl ?_
    refine z_iload_n B0 dL_law_724 rfl rfl ?_
    refine z_iconst (v := 1) B0 dL_law_725 (by decide) ?_
    refine z_iadd (v := 1) B0 dL_law_726 (by decide) ?_
    refine y_sld (j := 1) (v := 1) B0 hX hbl (by decide) e1.symm dL_law_727 ?_
    refine z_aload_n B0 dL_law_728 rfl rfl ?_
    refine z_iload_n B0 dL_law_729 rfl rfl ?_
    refine z_iconst (v := 2) B0 dL_law_730 (by decide) ?_
    refine z_iadd (v := 2) B0 dL_law_731 (by decide) ?_
    refine y_sld (j := 2) (v := 29) B0 hX hbl (by decide) e2.symm dL_law_732 ?_
    refine z_callM B0 (z_runV (q0 := 0) (As := [.int 1, .int 29]) (st := [.int (-1)]) B0 (c_X12_after_88 (a := a2) mS0  rfl rfl rfl rfl rfl rfl rfl rfl rfl rfl rfl rfl rfl rfl rfl rfl rfl rfl rfl rfl rfl rfl rfl rfl rfl rfl rfl) cf_X12_after (mw_0 cy a2 mS0) rfl wm_L_90 wi_X12_after ws_X12_after dL_law_733 rfl (Nat.le_of_ble_eq_true rfl) ⟨by decide, by decide, by decide, by decide⟩) (fun r2 u2 p2 => ?_)
    obtain ⟨rfl, -⟩ := p2
    refine z_icmp_eq_t (tgt := 1091) B0 dL_law_736 (by decide) rfl ?_
    exact fin u1 u2
  · obtain rfl : x2 = 30 := Int32.toInt_inj.mp (h2.trans (by decide))
    refine z_aload_n B0 dL_law_708 rfl rfl ?_
    refine z_aload_n B0 dL_law_709 rfl rfl ?_
    refine z_iload_n B0 dL_law_710 rfl rfl ?_
    refine z_iconst (v := 1) B0 dL_law_711 (by decide) ?_
    refine z_iadd (v := 1) B0 dL_law_712 (by decide) ?_
    refine y_sld (j := 1) (v := 1) B0 hX hbl (by decide) e1.symm dL_law_713 ?_
    refine z_aload_n B0 dL_law_714 rfl rfl ?_
    refine z_iload_n B0 dL_law_715 rfl rfl ?_
    refine z_iconst (v := 2) B0 dL_law_716 (by decide) ?_
    refine z_iadd (v := 2) B0 dL_law_717 (by decide) ?_
    refine y_sld (j := 2) (v := 30) B0 hX hbl (by decide) e2.symm dL_law_718 ?_
    refine z_callC B0 (z_runV (q0 := 0) (As := [.int 1, .int 30]) (st := []) B0 (c_X11_after_89 (a := a) (cS0 w)  ) cf_X11_after (cw_0 cy tE a rw (cS0 w)) rfl wm_L_87 wi_X11_after ws_X11_after dL_law_719 rfl (Nat.le_of_ble_eq_true rfl) ⟨by decide, by decide, by decide, by decide⟩) (fun r1 u1 p1 => ?_)
    obtain ⟨rfl, -⟩ := p1
    refine z_aload_n B0 dL_law_722 rfl rfl ?_
    refine z_aload_n B0 dL_law_723 rfl rfl ?_
    refine z_iload_n B0 dL_law_724 rfl rfl ?_
    refine z_iconst (v := 1) B0 dL_law_725 (by decide) ?_
    refine z_iadd (v := 1) B0 dL_law_726 (by decide) ?_
    refine y_sld (j := 1) (v := 1) B0 hX hbl (by decide) e1.symm dL_law_727 ?_
    refine z_aload_n B0 dL_law_728 rfl rfl ?_
    refine z_iload_n B0 dL_law_729 rfl rfl ?_
    refine z_iconst (v := 2) B0 dL_law_730 (by decide) ?_
    refine z_iadd (v := 2) B0 dL_law_731 (by decide) ?_
    refine y_sld (j := 2) (v := 30) B0 hX hbl (by decide) e2.symm dL_law_732 ?_
    refine z_callM B0 (z_runV (q0 := 0) (As := [.int 1, .int 30]) (st := [.int (-1)]) B0 (c_X12_after_89 (a := a2) mS0  rfl rfl rfl rfl rfl rfl rfl rfl rfl rfl rfl rfl rfl rfl rfl rfl rfl rfl rfl rfl rfl rfl rfl rfl rfl rfl rfl) cf_X12_after (mw_0 cy a2 mS0) rfl wm_L_90 wi_X12_after ws_X12_after dL_law_733 rfl (Nat.le_of_ble_eq_true rfl) ⟨by decide, by decide, by decide, by decide⟩) (fun r2 u2 p2 => ?_)
    obtain ⟨rfl, -⟩ := p2
    refine z_icmp_eq_t (tgt := 1091) B0 dL_law_736 (by decide) rfl ?_
    exact fin u1 u2
  · obtain rfl : x2 = 31 := Int32.toInt_inj.mp (h2.trans (by decide))
    refine z_aload_n B0 dL_law_708 rfl rfl ?_
    refine z_aload_n B0 dL_law_709 rfl rfl ?_
    refine z_iload_n B0 dL_law_710 rfl rfl ?_
    refine z_iconst (v := 1) B0 dL_law_711 (by decide) ?_
    refine z_iadd (v := 1) B0 dL_law_712 (by decide) ?_
    refine y_sld (j := 1) (v := 1) B0 hX hbl (by decide) e1.symm dL_law_713 ?_
    refine z_aload_n B0 dL_law_714 rfl rfl ?_
    refine z_iload_n B0 dL_law_715 rfl rfl ?_
    refine z_iconst (v := 2) B0 dL_law_716 (by decide) ?_
    refine z_iadd (v := 2) B0 dL_law_717 (by decide) ?_
    refine y_sld (j := 2) (v := 31) B0 hX hbl (by decide) e2.symm dL_law_718 ?_
    refine z_callC B0 (z_runV (q0 := 0) (As := [.int 1, .int 31]) (st := []) B0 (c_X11_after_90 (a := a) (cS0 w)  rfl rfl rfl hrw) cf_X11_after (cw_0 cy tE a rw (cS0 w)) rfl wm_L_87 wi_X11_after ws_X11_after dL_law_719 rfl (Nat.le_of_ble_eq_true rfl) ⟨by decide, by decide, by decide, by decide⟩) (fun r1 u1 p1 => ?_)
    obtain ⟨rfl, -⟩ := p1
    refine z_aload_n B0 dL_law_722 rfl rfl ?_
    refine z_aload_n B0 dL_law_723 rfl rfl ?_
    refine z_iload_n B0 dL_law_724 rfl rfl ?_
    refine z_iconst (v := 1) B0 dL_law_725 (by decide) ?_
    refine z_iadd (v := 1) B0 dL_law_726 (by decide) ?_
    refine y_sld (j := 1) (v := 1) B0 hX hbl (by decide) e1.symm dL_law_727 ?_
    refine z_aload_n B0 dL_law_728 rfl rfl ?_
    refine z_iload_n B0 dL_law_729 rfl rfl ?_
    refine z_iconst (v := 2) B0 dL_law_730 (by decide) ?_
    refine z_iadd (v := 2) B0 dL_law_731 (by decide) ?_
    refine y_sld (j := 2) (v := 31) B0 hX hbl (by decide) e2.symm dL_law_732 ?_
    refine z_callM B0 (z_runV (q0 := 0) (As := [.int 1, .int 31]) (st := [.int 0]) B0 (c_X12_after_90 (a := a2) mS0  rfl rfl rfl rfl rfl rfl rfl rfl rfl rfl rfl rfl rfl rfl rfl rfl rfl rfl rfl rfl rfl rfl rfl rfl rfl rfl rfl) cf_X12_after (mw_0 cy a2 mS0) rfl wm_L_90 wi_X12_after ws_X12_after dL_law_733 rfl (Nat.le_of_ble_eq_true rfl) ⟨by decide, by decide, by decide, by decide⟩) (fun r2 u2 p2 => ?_)
    obtain ⟨rfl, -⟩ := p2
    refine z_icmp_eq_t (tgt := 1091) B0 dL_law_736 (by decide) rfl ?_
    exact fin u1 u2
  · obtain rfl : x2 = 32 := Int32.toInt_inj.mp (h2.trans (by decide))
    refine z_aload_n B0 dL_law_708 rfl rfl ?_
    refine z_aload_n B0 dL_law_709 rfl rfl ?_
    refine z_iload_n B0 dL_law_710 rfl rfl ?_
    refine z_iconst (v := 1) B0 dL_law_711 (by decide) ?_
    refine z_iadd (v := 1) B0 dL_law_712 (by decide) ?_
    refine y_sld (j := 1) (v := 1) B0 hX hbl (by decide) e1.symm dL_law_713 ?_
    refine z_aload_n B0 dL_law_714 rfl rfl ?_
    refine z_iload_n B0 dL_law_715 rfl rfl ?_
    refine z_iconst (v := 2) B0 dL_law_716 (by decide) ?_
    refine z_iadd (v := 2) B0 dL_law_717 (by decide) ?_
    refine y_sld (j := 2) (v := 32) B0 hX hbl (by decide) e2.symm dL_law_718 ?_
    refine z_callC B0 (z_runV (q0 := 0) (As := [.int 1, .int 32]) (st := []) B0 (c_X11_after_91 (a := a) (cS0 w)  rfl rfl rfl hrw) cf_X11_after (cw_0 cy tE a rw (cS0 w)) rfl wm_L_87 wi_X11_after ws_X11_after dL_law_719 rfl (Nat.le_of_ble_eq_true rfl) ⟨by decide, by decide, by decide, by decide⟩) (fun r1 u1 p1 => ?_)
    obtain ⟨rfl, -⟩ := p1
    refine z_aload_n B0 dL_law_722 rfl rfl ?_
    refine z_aload_n B0 dL_law_723 rfl rfl ?_
    refine z_iload_n B0 dL_law_724 rfl rfl ?_
    refine z_iconst (v := 1) B0 dL_law_725 (by decide) ?_
    refine z_iadd (v := 1) B0 dL_law_726 (by decide) ?_
    refine y_sld (j := 1) (v := 1) B0 hX hbl (by decide) e1.symm dL_law_727 ?_
    refine z_aload_n B0 dL_law_728 rfl rfl ?_
    refine z_iload_n B0 dL_law_729 rfl rfl ?_
    refine z_iconst (v := 2) B0 dL_law_730 (by decide) ?_
    refine z_iadd (v := 2) B0 dL_law_731 (by decide) ?_
    refine y_sld (j := 2) (v := 32) B0 hX hbl (by decide) e2.symm dL_law_732 ?_
    refine z_callM B0 (z_runV (q0 := 0) (As := [.int 1, .int 32]) (st := [.int 0]) B0 (c_X12_after_91 (a := a2) mS0  rfl rfl rfl rfl rfl rfl rfl rfl rfl rfl rfl rfl rfl rfl rfl rfl rfl rfl rfl rfl rfl rfl rfl rfl rfl rfl rfl) cf_X12_after (mw_0 cy a2 mS0) rfl wm_L_90 wi_X12_after ws_X12_after dL_law_733 rfl (Nat.le_of_ble_eq_true rfl) ⟨by decide, by decide, by decide, by decide⟩) (fun r2 u2 p2 => ?_)
    obtain ⟨rfl, -⟩ := p2
    refine z_icmp_eq_t (tgt := 1091) B0 dL_law_736 (by decide) rfl ?_
    exact fin u1 u2
  · obtain rfl : x2 = 33 := Int32.toInt_inj.mp (h2.trans (by decide))
    refine z_aload_n B0 dL_law_708 rfl rfl ?_
    refine z_aload_n B0 dL_law_709 rfl rfl ?_
    refine z_iload_n B0 dL_law_710 rfl rfl ?_
    refine z_iconst (v := 1) B0 dL_law_711 (by decide) ?_
    refine z_iadd (v := 1) B0 dL_law_712 (by decide) ?_
    refine y_sld (j := 1) (v := 1) B0 hX hbl (by decide) e1.symm dL_law_713 ?_
    refine z_aload_n B0 dL_law_714 rfl rfl ?_
    refine z_iload_n B0 dL_law_715 rfl rfl ?_
    refine z_iconst (v := 2) B0 dL_law_716 (by decide) ?_
    refine z_iadd (v := 2) B0 dL_law_717 (by decide) ?_
    refine y_sld (j := 2) (v := 33) B0 hX hbl (by decide) e2.symm dL_law_718 ?_
    refine z_callC B0 (z_runV (q0 := 0) (As := [.int 1, .int 33]) (st := []) B0 (c_X11_after_92 (a := a) (cS0 w)  rfl rfl rfl hrw) cf_X11_after (cw_0 cy tE a rw (cS0 w)) rfl wm_L_87 wi_X11_after ws_X11_after dL_law_719 rfl (Nat.le_of_ble_eq_true rfl) ⟨by decide, by decide, by decide, by decide⟩) (fun r1 u1 p1 => ?_)
    obtain ⟨rfl, -⟩ := p1
    refine z_aload_n B0 dL_law_722 rfl rfl ?_
    refine z_aload_n B0 dL_law_723 rfl rfl ?_
    refine z_iload_n B0 dL_law_724 rfl rfl ?_
    refine z_iconst (v := 1) B0 dL_law_725 (by decide) ?_
    refine z_iadd (v := 1) B0 dL_law_726 (by decide) ?_
    refine y_sld (j := 1) (v := 1) B0 hX hbl (by decide) e1.symm dL_law_727 ?_
    refine z_aload_n B0 dL_law_728 rfl rfl ?_
    refine z_iload_n B0 dL_law_729 rfl rfl ?_
    refine z_iconst (v := 2) B0 dL_law_730 (by decide) ?_
    refine z_iadd (v := 2) B0 dL_law_731 (by decide) ?_
    refine y_sld (j := 2) (v := 33) B0 hX hbl (by decide) e2.symm dL_law_732 ?_
    refine z_callM B0 (z_runV (q0 := 0) (As := [.int 1, .int 33]) (st := [.int 0]) B0 (c_X12_after_92 (a := a2) mS0  rfl rfl rfl rfl rfl rfl rfl rfl rfl rfl rfl rfl rfl rfl rfl rfl rfl rfl rfl rfl rfl rfl rfl rfl rfl rfl rfl) cf_X12_after (mw_0 cy a2 mS0) rfl wm_L_90 wi_X12_after ws_X12_after dL_law_733 rfl (Nat.le_of_ble_eq_true rfl) ⟨by decide, by decide, by decide, by decide⟩) (fun r2 u2 p2 => ?_)
    obtain ⟨rfl, -⟩ := p2
    refine z_icmp_eq_t (tgt := 1091) B0 dL_law_736 (by decide) rfl ?_
    exact fin u1 u2
  · obtain rfl : x2 = 34 := Int32.toInt_inj.mp (h2.trans (by decide))
    refine z_aload_n B0 dL_law_708 rfl rfl ?_
    refine z_aload_n B0 dL_law_709 rfl rfl ?_
    refine z_iload_n B0 dL_law_710 rfl rfl ?_
    refine z_iconst (v := 1) B0 dL_law_711 (by decide) ?_
    refine z_iadd (v := 1) B0 dL_law_712 (by decide) ?_
    refine y_sld (j := 1) (v := 1) B0 hX hbl (by decide) e1.symm dL_law_713 ?_
    refine z_aload_n B0 dL_law_714 rfl rfl ?_
    refine z_iload_n B0 dL_law_715 rfl rfl ?_
    refine z_iconst (v := 2) B0 dL_law_716 (by decide) ?_
    refine z_iadd (v := 2) B0 dL_law_717 (by decide) ?_
    refine y_sld (j := 2) (v := 34) B0 hX hbl (by decide) e2.symm dL_law_718 ?_
    refine z_callC B0 (z_runV (q0 := 0) (As := [.int 1, .int 34]) (st := []) B0 (c_X11_after_93 (a := a) (cS0 w)  ) cf_X11_after (cw_0 cy tE a rw (cS0 w)) rfl wm_L_87 wi_X11_after ws_X11_after dL_law_719 rfl (Nat.le_of_ble_eq_true rfl) ⟨by decide, by decide, by decide, by decide⟩) (fun r1 u1 p1 => ?_)
    obtain ⟨rfl, -⟩ := p1
    refine z_aload_n B0 dL_law_722 rfl rfl ?_
    refine z_aload_n B0 dL_law_723 rfl rfl ?_
    refine z_iload_n B0 dL_law_724 rfl rfl ?_
    refine z_iconst (v := 1) B0 dL_law_725 (by decide) ?_
    refine z_iadd (v := 1) B0 dL_law_726 (by decide) ?_
    refine y_sld (j := 1) (v := 1) B0 hX hbl (by decide) e1.symm dL_law_727 ?_
    refine z_aload_n B0 dL_law_728 rfl rfl ?_
    refine z_iload_n B0 dL_law_729 rfl rfl ?_
    refine z_iconst (v := 2) B0 dL_law_730 (by decide) ?_
    refine z_iadd (v := 2) B0 dL_law_731 (by decide) ?_
    refine y_sld (j := 2) (v := 34) B0 hX hbl (by decide) e2.symm dL_law_732 ?_
    refine z_callM B0 (z_runV (q0 := 0) (As := [.int 1, .int 34]) (st := [.int (-1)]) B0 (c_X12_after_93 (a := a2) mS0  rfl rfl rfl rfl rfl rfl rfl rfl rfl rfl rfl rfl rfl rfl rfl rfl rfl rfl rfl rfl rfl rfl rfl rfl rfl rfl rfl) cf_X12_after (mw_0 cy a2 mS0) rfl wm_L_90 wi_X12_after ws_X12_after dL_law_733 rfl (Nat.le_of_ble_eq_true rfl) ⟨by decide, by decide, by decide, by decide⟩) (fun r2 u2 p2 => ?_)
    obtain ⟨rfl, -⟩ := p2
    refine z_icmp_eq_t (tgt := 1091) B0 dL_law_736 (by decide) rfl ?_
    exact fin u1 u2
  · obtain rfl : x2 = 35 := Int32.toInt_inj.mp (h2.trans (by decide))
    refine z_aload_n B0 dL_law_708 rfl rfl ?_
    refine z_aload_n B0 dL_law_709 rfl rfl ?_
    refine z_iload_n B0 dL_law_710 rfl rfl ?_
    refine z_iconst (v := 1) B0 dL_law_711 (by decide) ?_
    refine z_iadd (v := 1) B0 dL_law_712 (by decide) ?_
    refine y_sld (j := 1) (v := 1) B0 hX hbl (by decide) e1.symm dL_law_713 ?_
    refine z_aload_n B0 dL_law_714 rfl rfl ?_
    refine z_iload_n B0 dL_law_715 rfl rfl ?_
    refine z_iconst (v := 2) B0 dL_law_716 (by decide) ?_
    refine z_iadd (v := 2) B0 dL_law_717 (by decide) ?_
    refine y_sld (j := 2) (v := 35) B0 hX hbl (by decide) e2.symm dL_law_718 ?_
    refine z_callC B0 (z_runV (q0 := 0) (As := [.int 1, .int 35]) (st := []) B0 (c_X11_after_94 (a := a) (cS0 w)  rfl rfl rfl hrw) cf_X11_after (cw_0 cy tE a rw (cS0 w)) rfl wm_L_87 wi_X11_after ws_X11_after dL_law_719 rfl (Nat.le_of_ble_eq_true rfl) ⟨by decide, by decide, by decide, by decide⟩) (fun r1 u1 p1 => ?_)
    obtain ⟨rfl, -⟩ := p1
    refine z_aload_n B0 dL_law_722 rfl rfl ?_
    refine z_aload_n B0 dL_law_723 rfl rfl ?_
    refine z_iload_n B0 dL_law_724 rfl rfl ?_
    refine z_iconst (v := 1) B0 dL_law_725 (by decide) ?_
    refine z_iadd (v := 1) B0 dL_law_726 (by decide) ?_
    refine y_sld (j := 1) (v := 1) B0 hX hbl (by decide) e1.symm dL_law_727 ?_
    refine z_aload_n B0 dL_law_728 rfl rfl ?_
    refine z_iload_n B0 dL_law_729 rfl rfl ?_
    refine z_iconst (v := 2) B0 dL_law_730 (by decide) ?_
    refine z_iadd (v := 2) B0 dL_law_731 (by decide) ?_
    refine y_sld (j := 2) (v := 35) B0 hX hbl (by decide) e2.symm dL_law_732 ?_
    refine z_callM B0 (z_runV (q0 := 0) (As := [.int 1, .int 35]) (st := [.int 0]) B0 (c_X12_after_94 (a := a2) mS0  rfl rfl rfl rfl rfl rfl rfl rfl rfl rfl rfl rfl rfl rfl rfl rfl rfl rfl rfl rfl rfl rfl rfl rfl rfl rfl rfl) cf_X12_after (mw_0 cy a2 mS0) rfl wm_L_90 wi_X12_after ws_X12_after dL_law_733 rfl (Nat.le_of_ble_eq_true rfl) ⟨by decide, by decide, by decide, by decide⟩) (fun r2 u2 p2 => ?_)
    obtain ⟨rfl, -⟩ := p2
    refine z_icmp_eq_t (tgt := 1091) B0 dL_law_736 (by decide) rfl ?_
    exact fin u1 u2
  · obtain rfl : x2 = 36 := Int32.toInt_inj.mp (h2.trans (by decide))
    refine z_aload_n B0 dL_law_708 rfl rfl ?_
    refine z_aload_n B0 dL_law_709 rfl rfl ?_
    refine z_iload_n B0 dL_law_710 rfl rfl ?_
    refine z_iconst (v := 1) B0 dL_law_711 (by decide) ?_
    refine z_iadd (v := 1) B0 dL_law_712 (by decide) ?_
    refine y_sld (j := 1) (v := 1) B0 hX hbl (by decide) e1.symm dL_law_713 ?_
    refine z_aload_n B0 dL_law_714 rfl rfl ?_
    refine z_iload_n B0 dL_law_715 rfl rfl ?_
    refine z_iconst (v := 2) B0 dL_law_716 (by decide) ?_
    refine z_iadd (v := 2) B0 dL_law_717 (by decide) ?_
    refine y_sld (j := 2) (v := 36) B0 hX hbl (by decide) e2.symm dL_law_718 ?_
    refine z_callC B0 (z_runV (q0 := 0) (As := [.int 1, .int 36]) (st := []) B0 (c_X11_after_95 (a := a) (cS0 w)  rfl rfl rfl hrw) cf_X11_after (cw_0 cy tE a rw (cS0 w)) rfl wm_L_87 wi_X11_after ws_X11_after dL_law_719 rfl (Nat.le_of_ble_eq_true rfl) ⟨by decide, by decide, by decide, by decide⟩) (fun r1 u1 p1 => ?_)
    obtain ⟨rfl, -⟩ := p1
    refine z_aload_n B0 dL_law_722 rfl rfl ?_
    refine z_aload_n B0 dL_law_723 rfl rfl ?_
    refine z_iload_n B0 dL_law_724 rfl rfl ?_
    refine z_iconst (v := 1) B0 dL_law_725 (by decide) ?_
    refine z_iadd (v := 1) B0 dL_law_726 (by decide) ?_
    refine y_sld (j := 1) (v := 1) B0 hX hbl (by decide) e1.symm dL_law_727 ?_
    refine z_aload_n B0 dL_law_728 rfl rfl ?_
    refine z_iload_n B0 dL_law_729 rfl rfl ?_
    refine z_iconst (v := 2) B0 dL_law_730 (by decide) ?_
    refine z_iadd (v := 2) B0 dL_law_731 (by decide) ?_
    refine y_sld (j := 2) (v := 36) B0 hX hbl (by decide) e2.symm dL_law_732 ?_
    refine z_callM B0 (z_runV (q0 := 0) (As := [.int 1, .int 36]) (st := [.int 0]) B0 (c_X12_after_95 (a := a2) mS0  rfl rfl rfl rfl rfl rfl rfl rfl rfl rfl rfl rfl rfl rfl rfl rfl rfl rfl rfl rfl rfl rfl rfl rfl rfl rfl rfl) cf_X12_after (mw_0 cy a2 mS0) rfl wm_L_90 wi_X12_after ws_X12_after dL_law_733 rfl (Nat.le_of_ble_eq_true rfl) ⟨by decide, by decide, by decide, by decide⟩) (fun r2 u2 p2 => ?_)
    obtain ⟨rfl, -⟩ := p2
    refine z_icmp_eq_t (tgt := 1091) B0 dL_law_736 (by decide) rfl ?_
    exact fin u1 u2
  · obtain rfl : x2 = 37 := Int32.toInt_inj.mp (h2.trans (by decide))
    refine z_aload_n B0 dL_law_708 rfl rfl ?_
    refine z_aload_n B0 dL_law_709 rfl rfl ?_
    refine z_iload_n B0 dL_law_710 rfl rfl ?_
    refine z_iconst (v := 1) B0 dL_law_711 (by decide) ?_
    refine z_iadd (v := 1) B0 dL_law_712 (by decide) ?_
    refine y_sld (j := 1) (v := 1) B0 hX hbl (by decide) e1.symm dL_law_713 ?_
    refine z_aload_n B0 dL_law_714 rfl rfl ?_
    refine z_iload_n B0 dL_law_715 rfl rfl ?_
    refine z_iconst (v := 2) B0 dL_law_716 (by decide) ?_
    refine z_iadd (v := 2) B0 dL_law_717 (by decide) ?_
    refine y_sld (j := 2) (v := 37) B0 hX hbl (by decide) e2.symm dL_law_718 ?_
    refine z_callC B0 (z_runV (q0 := 0) (As := [.int 1, .int 37]) (st := []) B0 (c_X11_after_96 (a := a) (cS0 w)  rfl rfl rfl hrw) cf_X11_after (cw_0 cy tE a rw (cS0 w)) rfl wm_L_87 wi_X11_after ws_X11_after dL_law_719 rfl (Nat.le_of_ble_eq_true rfl) ⟨by decide, by decide, by decide, by decide⟩) (fun r1 u1 p1 => ?_)
    obtain ⟨rfl, -⟩ := p1
    refine z_aload_n B0 dL_law_722 rfl rfl ?_
    refine z_aload_n B0 dL_law_723 rfl rfl ?_
    refine z_iload_n B0 dL_law_724 rfl rfl ?_
    refine z_iconst (v := 1) B0 dL_law_725 (by decide) ?_
    refine z_iadd (v := 1) B0 dL_law_726 (by decide) ?_
    refine y_sld (j := 1) (v := 1) B0 hX hbl (by decide) e1.symm dL_law_727 ?_
    refine z_aload_n B0 dL_law_728 rfl rfl ?_
    refine z_iload_n B0 dL_law_729 rfl rfl ?_
    refine z_iconst (v := 2) B0 dL_law_730 (by decide) ?_
    refine z_iadd (v := 2) B0 dL_law_731 (by decide) ?_
    refine y_sld (j := 2) (v := 37) B0 hX hbl (by decide) e2.symm dL_law_732 ?_
    refine z_callM B0 (z_runV (q0 := 0) (As := [.int 1, .int 37]) (st := [.int 0]) B0 (c_X12_after_96 (a := a2) mS0  rfl rfl rfl rfl rfl rfl rfl rfl rfl rfl rfl rfl rfl rfl rfl rfl rfl rfl rfl rfl rfl rfl rfl rfl rfl rfl rfl) cf_X12_after (mw_0 cy a2 mS0) rfl wm_L_90 wi_X12_after ws_X12_after dL_law_733 rfl (Nat.le_of_ble_eq_true rfl) ⟨by decide, by decide, by decide, by decide⟩) (fun r2 u2 p2 => ?_)
    obtain ⟨rfl, -⟩ := p2
    refine z_icmp_eq_t (tgt := 1091) B0 dL_law_736 (by decide) rfl ?_
    exact fin u1 u2
  · obtain rfl : x2 = 38 := Int32.toInt_inj.mp (h2.trans (by decide))
    refine z_aload_n B0 dL_law_708 rfl rfl ?_
    refine z_aload_n B0 dL_law_709 rfl rfl ?_
    refine z_iload_n B0 dL_law_710 rfl rfl ?_
    refine z_iconst (v := 1) B0 dL_law_711 (by decide) ?_
    refine z_iadd (v := 1) B0 dL_law_712 (by decide) ?_
    refine y_sld (j := 1) (v := 1) B0 hX hbl (by decide) e1.symm dL_law_713 ?_
    refine z_aload_n B0 dL_law_714 rfl rfl ?_
    refine z_iload_n B0 dL_law_715 rfl rfl ?_
    refine z_iconst (v := 2) B0 dL_law_716 (by decide) ?_
    refine z_iadd (v := 2) B0 dL_law_717 (by decide) ?_
    refine y_sld (j := 2) (v := 38) B0 hX hbl (by decide) e2.symm dL_law_718 ?_
    refine z_callC B0 (z_runV (q0 := 0) (As := [.int 1, .int 38]) (st := []) B0 (c_X11_after_97 (a := a) (cS0 w)  ) cf_X11_after (cw_0 cy tE a rw (cS0 w)) rfl wm_L_87 wi_X11_after ws_X11_after dL_law_719 rfl (Nat.le_of_ble_eq_true rfl) ⟨by decide, by decide, by decide, by decide⟩) (fun r1 u1 p1 => ?_)
    obtain ⟨rfl, -⟩ := p1
    refine z_aload_n B0 dL_law_722 rfl rfl ?_
    refine z_aload_n B0 dL_law_723 rfl rfl ?_
    refine z_iload_n B0 dL_law_724 rfl rfl ?_
    refine z_iconst (v := 1) B0 dL_law_725 (by decide) ?_
    refine z_iadd (v := 1) B0 dL_law_726 (by decide) ?_
    refine y_sld (j := 1) (v := 1) B0 hX hbl (by decide) e1.symm dL_law_727 ?_
    refine z_aload_n B0 dL_law_728 rfl rfl ?_
    refine z_iload_n B0 dL_law_729 rfl rfl ?_
    refine z_iconst (v := 2) B0 dL_law_730 (by decide) ?_
    refine z_iadd (v := 2) B0 dL_law_731 (by decide) ?_
    refine y_sld (j := 2) (v := 38) B0 hX hbl (by decide) e2.symm dL_law_732 ?_
    refine z_callM B0 (z_runV (q0 := 0) (As := [.int 1, .int 38]) (st := [.int (-1)]) B0 (c_X12_after_97 (a := a2) mS0  rfl rfl rfl rfl rfl rfl rfl rfl rfl rfl rfl rfl rfl rfl rfl rfl rfl rfl rfl rfl rfl rfl rfl rfl rfl rfl rfl) cf_X12_after (mw_0 cy a2 mS0) rfl wm_L_90 wi_X12_after ws_X12_after dL_law_733 rfl (Nat.le_of_ble_eq_true rfl) ⟨by decide, by decide, by decide, by decide⟩) (fun r2 u2 p2 => ?_)
    obtain ⟨rfl, -⟩ := p2
    refine z_icmp_eq_t (tgt := 1091) B0 dL_law_736 (by decide) rfl ?_
    exact fin u1 u2
  · obtain rfl : x2 = 39 := Int32.toInt_inj.mp (h2.trans (by decide))
    refine z_aload_n B0 dL_law_708 rfl rfl ?_
    refine z_aload_n B0 dL_law_709 rfl rfl ?_
    refine z_iload_n B0 dL_law_710 rfl rfl ?_
    refine z_iconst (v := 1) B0 dL_law_711 (by decide) ?_
    refine z_iadd (v := 1) B0 dL_law_712 (by decide) ?_
    refine y_sld (j := 1) (v := 1) B0 hX hbl (by decide) e1.symm dL_law_713 ?_
    refine z_aload_n B0 dL_law_714 rfl rfl ?_
    refine z_iload_n B0 dL_law_715 rfl rfl ?_
    refine z_iconst (v := 2) B0 dL_law_716 (by decide) ?_
    refine z_iadd (v := 2) B0 dL_law_717 (by decide) ?_
    refine y_sld (j := 2) (v := 39) B0 hX hbl (by decide) e2.symm dL_law_718 ?_
    refine z_callC B0 (z_runV (q0 := 0) (As := [.int 1, .int 39]) (st := []) B0 (c_X11_after_98 (a := a) (cS0 w)  ) cf_X11_after (cw_0 cy tE a rw (cS0 w)) rfl wm_L_87 wi_X11_after ws_X11_after dL_law_719 rfl (Nat.le_of_ble_eq_true rfl) ⟨by decide, by decide, by decide, by decide⟩) (fun r1 u1 p1 => ?_)
    obtain ⟨rfl, -⟩ := p1
    refine z_aload_n B0 dL_law_722 rfl rfl ?_
    refine z_aload_n B0 dL_law_723 rfl rfl ?_
    refine z_iload_n B0 dL_law_724 rfl rfl ?_
    refine z_iconst (v := 1) B0 dL_law_725 (by decide) ?_
    refine z_iadd (v := 1) B0 dL_law_726 (by decide) ?_
    refine y_sld (j := 1) (v := 1) B0 hX hbl (by decide) e1.symm dL_law_727 ?_
    refine z_aload_n B0 dL_law_728 rfl rfl ?_
    refine z_iload_n B0 dL_law_729 rfl rfl ?_
    refine z_iconst (v := 2) B0 dL_law_730 (by decide) ?_
    refine z_iadd (v := 2) B0 dL_law_731 (by decide) ?_
    refine y_sld (j := 2) (v := 39) B0 hX hbl (by decide) e2.symm dL_law_732 ?_
    refine z_callM B0 (z_runV (q0 := 0) (As := [.int 1, .int 39]) (st := [.int (-1)]) B0 (c_X12_after_98 (a := a2) mS0  rfl rfl rfl rfl rfl rfl rfl rfl rfl rfl rfl rfl rfl rfl rfl rfl rfl rfl rfl rfl rfl rfl rfl rfl rfl rfl rfl) cf_X12_after (mw_0 cy a2 mS0) rfl wm_L_90 wi_X12_after ws_X12_after dL_law_733 rfl (Nat.le_of_ble_eq_true rfl) ⟨by decide, by decide, by decide, by decide⟩) (fun r2 u2 p2 => ?_)
    obtain ⟨rfl, -⟩ := p2
    refine z_icmp_eq_t (tgt := 1091) B0 dL_law_736 (by decide) rfl ?_
    exact fin u1 u2
  · obtain rfl : x2 = 40 := Int32.toInt_inj.mp (h2.trans (by decide))
    refine z_aload_n B0 dL_law_708 rfl rfl ?_
    refine z_aload_n B0 dL_law_709 rfl rfl ?_
    refine z_iload_n B0 dL_law_710 rfl rfl ?_
    refine z_iconst (v := 1) B0 dL_law_711 (by decide) ?_
    refine z_iadd (v := 1) B0 dL_law_712 (by decide) ?_
    refine y_sld (j := 1) (v := 1) B0 hX hbl (by decide) e1.symm dL_law_713 ?_
    refine z_aload_n B0 dL_law_714 rfl rfl ?_
    refine z_iload_n B0 dL_law_715 rfl rfl ?_
    refine z_iconst (v := 2) B0 dL_law_716 (by decide) ?_
    refine z_iadd (v := 2) B0 dL_law_717 (by decide) ?_
    refine y_sld (j := 2) (v := 40) B0 hX hbl (by decide) e2.symm dL_law_718 ?_
    refine z_callC B0 (z_runV (q0 := 0) (As := [.int 1, .int 40]) (st := []) B0 (c_X11_after_99 (a := a) (cS0 w)  rfl rfl rfl hrw) cf_X11_after (cw_0 cy tE a rw (cS0 w)) rfl wm_L_87 wi_X11_after ws_X11_after dL_law_719 rfl (Nat.le_of_ble_eq_true rfl) ⟨by decide, by decide, by decide, by decide⟩) (fun r1 u1 p1 => ?_)
    obtain ⟨rfl, -⟩ := p1
    refine z_aload_n B0 dL_law_722 rfl rfl ?_
    refine z_aload_n B0 dL_law_723 rfl rfl ?_
    refine z_iload_n B0 dL_law_724 rfl rfl ?_
    refine z_iconst (v := 1) B0 dL_law_725 (by decide) ?_
    refine z_iadd (v := 1) B0 dL_law_726 (by decide) ?_
    refine y_sld (j := 1) (v := 1) B0 hX hbl (by decide) e1.symm dL_law_727 ?_
    refine z_aload_n B0 dL_law_728 rfl rfl ?_
    refine z_iload_n B0 dL_law_729 rfl rfl ?_
    refine z_iconst (v := 2) B0 dL_law_730 (by decide) ?_
    refine z_iadd (v := 2) B0 dL_law_731 (by decide) ?_
    refine y_sld (j := 2) (v := 40) B0 hX hbl (by decide) e2.symm dL_law_732 ?_
    refine z_callM B0 (z_runV (q0 := 0) (As := [.int 1, .int 40]) (st := [.int 3]) B0 (c_X12_after_99 (a := a2) mS0  rfl rfl rfl rfl rfl rfl rfl rfl rfl rfl rfl rfl rfl rfl rfl rfl rfl rfl rfl rfl rfl rfl rfl rfl rfl rfl rfl) cf_X12_after (mw_0 cy a2 mS0) rfl wm_L_90 wi_X12_after ws_X12_after dL_law_733 rfl (Nat.le_of_ble_eq_true rfl) ⟨by decide, by decide, by decide, by decide⟩) (fun r2 u2 p2 => ?_)
    obtain ⟨rfl, -⟩ := p2
    refine z_icmp_eq_t (tgt := 1091) B0 dL_law_736 (by decide) rfl ?_
    exact fin u1 u2
  · obtain rfl : x2 = 41 := Int32.toInt_inj.mp (h2.trans (by decide))
    refine z_aload_n B0 dL_law_708 rfl rfl ?_
    refine z_aload_n B0 dL_law_709 rfl rfl ?_
    refine z_iload_n B0 dL_law_710 rfl rfl ?_
    refine z_iconst (v := 1) B0 dL_law_711 (by decide) ?_
    refine z_iadd (v := 1) B0 dL_law_712 (by decide) ?_
    refine y_sld (j := 1) (v := 1) B0 hX hbl (by decide) e1.symm dL_law_713 ?_
    refine z_aload_n B0 dL_law_714 rfl rfl ?_
    refine z_iload_n B0 dL_law_715 rfl rfl ?_
    refine z_iconst (v := 2) B0 dL_law_716 (by decide) ?_
    refine z_iadd (v := 2) B0 dL_law_717 (by decide) ?_
    refine y_sld (j := 2) (v := 41) B0 hX hbl (by decide) e2.symm dL_law_718 ?_
    refine z_callC B0 (z_runV (q0 := 0) (As := [.int 1, .int 41]) (st := []) B0 (c_X11_after_100 (a := a) (cS0 w)  rfl rfl rfl hrw) cf_X11_after (cw_0 cy tE a rw (cS0 w)) rfl wm_L_87 wi_X11_after ws_X11_after dL_law_719 rfl (Nat.le_of_ble_eq_true rfl) ⟨by decide, by decide, by decide, by decide⟩) (fun r1 u1 p1 => ?_)
    obtain ⟨rfl, -⟩ := p1
    refine z_aload_n B0 dL_law_722 rfl rfl ?_
    refine z_aload_n B0 dL_law_723 rfl rfl ?_
    refine z_iload_n B0 dL_law_724 rfl rfl ?_
    refine z_iconst (v := 1) B0 dL_law_725 (by decide) ?_
    refine z_iadd (v := 1) B0 dL_law_726 (by decide) ?_
    refine y_sld (j := 1) (v := 1) B0 hX hbl (by decide) e1.symm dL_law_727 ?_
    refine z_aload_n B0 dL_law_728 rfl rfl ?_
    refine z_iload_n B0 dL_law_729 rfl rfl ?_
    refine z_iconst (v := 2) B0 dL_law_730 (by decide) ?_
    refine z_iadd (v := 2) B0 dL_law_731 (by decide) ?_
    refine y_sld (j := 2) (v := 41) B0 hX hbl (by decide) e2.symm dL_law_732 ?_
    refine z_callM B0 (z_runV (q0 := 0) (As := [.int 1, .int 41]) (st := [.int 3]) B0 (c_X12_after_100 (a := a2) mS0  rfl rfl rfl rfl rfl rfl rfl rfl rfl rfl rfl rfl rfl rfl rfl rfl rfl rfl rfl rfl rfl rfl rfl rfl rfl rfl rfl) cf_X12_after (mw_0 cy a2 mS0) rfl wm_L_90 wi_X12_after ws_X12_after dL_law_733 rfl (Nat.le_of_ble_eq_true rfl) ⟨by decide, by decide, by decide, by decide⟩) (fun r2 u2 p2 => ?_)
    obtain ⟨rfl, -⟩ := p2
    refine z_icmp_eq_t (tgt := 1091) B0 dL_law_736 (by decide) rfl ?_
    exact fin u1 u2
  · obtain rfl : x2 = 42 := Int32.toInt_inj.mp (h2.trans (by decide))
    refine z_aload_n B0 dL_law_708 rfl rfl ?_
    refine z_aload_n B0 dL_law_709 rfl rfl ?_
    refine z_iload_n B0 dL_law_710 rfl rfl ?_
    refine z_iconst (v := 1) B0 dL_law_711 (by decide) ?_
    refine z_iadd (v := 1) B0 dL_law_712 (by decide) ?_
    refine y_sld (j := 1) (v := 1) B0 hX hbl (by decide) e1.symm dL_law_713 ?_
    refine z_aload_n B0 dL_law_714 rfl rfl ?_
    refine z_iload_n B0 dL_law_715 rfl rfl ?_
    refine z_iconst (v := 2) B0 dL_law_716 (by decide) ?_
    refine z_iadd (v := 2) B0 dL_law_717 (by decide) ?_
    refine y_sld (j := 2) (v := 42) B0 hX hbl (by decide) e2.symm dL_law_718 ?_
    refine z_callC B0 (z_runV (q0 := 0) (As := [.int 1, .int 42]) (st := []) B0 (c_X11_after_101 (a := a) (cS0 w)  rfl rfl rfl hrw) cf_X11_after (cw_0 cy tE a rw (cS0 w)) rfl wm_L_87 wi_X11_after ws_X11_after dL_law_719 rfl (Nat.le_of_ble_eq_true rfl) ⟨by decide, by decide, by decide, by decide⟩) (fun r1 u1 p1 => ?_)
    obtain ⟨rfl, -⟩ := p1
    refine z_aload_n B0 dL_law_722 rfl rfl ?_
    refine z_aload_n B0 dL_law_723 rfl rfl ?_
    refine z_iload_n B0 dL_law_724 rfl rfl ?_
    refine z_iconst (v := 1) B0 dL_law_725 (by decide) ?_
    refine z_iadd (v := 1) B0 dL_law_726 (by decide) ?_
    refine y_sld (j := 1) (v := 1) B0 hX hbl (by decide) e1.symm dL_law_727 ?_
    refine z_aload_n B0 dL_law_728 rfl rfl ?_
    refine z_iload_n B0 dL_law_729 rfl rfl ?_
    refine z_iconst (v := 2) B0 dL_law_730 (by decide) ?_
    refine z_iadd (v := 2) B0 dL_law_731 (by decide) ?_
    refine y_sld (j := 2) (v := 42) B0 hX hbl (by decide) e2.symm dL_law_732 ?_
    refine z_callM B0 (z_runV (q0 := 0) (As := [.int 1, .int 42]) (st := [.int 3]) B0 (c_X12_after_101 (a := a2) mS0  rfl rfl rfl rfl rfl rfl rfl rfl rfl rfl rfl rfl rfl rfl rfl rfl rfl rfl rfl rfl rfl rfl rfl rfl rfl rfl rfl) cf_X12_after (mw_0 cy a2 mS0) rfl wm_L_90 wi_X12_after ws_X12_after dL_law_733 rfl (Nat.le_of_ble_eq_true rfl) ⟨by decide, by decide, by decide, by decide⟩) (fun r2 u2 p2 => ?_)
    obtain ⟨rfl, -⟩ := p2
    refine z_icmp_eq_t (tgt := 1091) B0 dL_law_736 (by decide) rfl ?_
    exact fin u1 u2
  · obtain rfl : x2 = 43 := Int32.toInt_inj.mp (h2.trans (by decide))
    refine z_aload_n B0 dL_law_708 rfl rfl ?_
    refine z_aload_n B0 dL_law_709 rfl rfl ?_
    refine z_iload_n B0 dL_law_710 rfl rfl ?_
    refine z_iconst (v := 1) B0 dL_law_711 (by decide) ?_
    refine z_iadd (v := 1) B0 dL_law_712 (by decide) ?_
    refine y_sld (j := 1) (v := 1) B0 hX hbl (by decide) e1.symm dL_law_713 ?_
    refine z_aload_n B0 dL_law_714 rfl rfl ?_
    refine z_iload_n B0 dL_law_715 rfl rfl ?_
    refine z_iconst (v := 2) B0 dL_law_716 (by decide) ?_
    refine z_iadd (v := 2) B0 dL_law_717 (by decide) ?_
    refine y_sld (j := 2) (v := 43) B0 hX hbl (by decide) e2.symm dL_law_718 ?_
    refine z_callC B0 (z_runV (q0 := 0) (As := [.int 1, .int 43]) (st := []) B0 (c_X11_after_102 (a := a) (cS0 w)  ) cf_X11_after (cw_0 cy tE a rw (cS0 w)) rfl wm_L_87 wi_X11_after ws_X11_after dL_law_719 rfl (Nat.le_of_ble_eq_true rfl) ⟨by decide, by decide, by decide, by decide⟩) (fun r1 u1 p1 => ?_)
    obtain ⟨rfl, -⟩ := p1
    refine z_aload_n B0 dL_law_722 rfl rfl ?_
    refine z_aload_n B0 dL_law_723 rfl rfl ?_
    refine z_iload_n B0 dL_law_724 rfl rfl ?_
    refine z_iconst (v := 1) B0 dL_law_725 (by decide) ?_
    refine z_iadd (v := 1) B0 dL_law_726 (by decide) ?_
    refine y_sld (j := 1) (v := 1) B0 hX hbl (by decide) e1.symm dL_law_727 ?_
    refine z_aload_n B0 dL_law_728 rfl rfl ?_
    refine z_iload_n B0 dL_law_729 rfl rfl ?_
    refine z_iconst (v := 2) B0 dL_law_730 (by decide) ?_
    refine z_iadd (v := 2) B0 dL_law_731 (by decide) ?_
    refine y_sld (j := 2) (v := 43) B0 hX hbl (by decide) e2.symm dL_law_732 ?_
    refine z_callM B0 (z_runV (q0 := 0) (As := [.int 1, .int 43]) (st := [.int (-1)]) B0 (c_X12_after_102 (a := a2) mS0  rfl rfl rfl rfl rfl rfl rfl rfl rfl rfl rfl rfl rfl rfl rfl rfl rfl rfl rfl rfl rfl rfl rfl rfl rfl rfl rfl) cf_X12_after (mw_0 cy a2 mS0) rfl wm_L_90 wi_X12_after ws_X12_after dL_law_733 rfl (Nat.le_of_ble_eq_true rfl) ⟨by decide, by decide, by decide, by decide⟩) (fun r2 u2 p2 => ?_)
    obtain ⟨rfl, -⟩ := p2
    refine z_icmp_eq_t (tgt := 1091) B0 dL_law_736 (by decide) rfl ?_
    exact fin u1 u2
  · obtain rfl : x2 = 44 := Int32.toInt_inj.mp (h2.trans (by decide))
    refine z_aload_n B0 dL_law_708 rfl rfl ?_
    refine z_aload_n B0 dL_law_709 rfl rfl ?_
    refine z_iload_n B0 dL_law_710 rfl rfl ?_
    refine z_iconst (v := 1) B0 dL_law_711 (by decide) ?_
    refine z_iadd (v := 1) B0 dL_law_712 (by decide) ?_
    refine y_sld (j := 1) (v := 1) B0 hX hbl (by decide) e1.symm dL_law_713 ?_
    refine z_aload_n B0 dL_law_714 rfl rfl ?_
    refine z_iload_n B0 dL_law_715 rfl rfl ?_
    refine z_iconst (v := 2) B0 dL_law_716 (by decide) ?_
    refine z_iadd (v := 2) B0 dL_law_717 (by decide) ?_
    refine y_sld (j := 2) (v := 44) B0 hX hbl (by decide) e2.symm dL_law_718 ?_
    refine z_callC B0 (z_runV (q0 := 0) (As := [.int 1, .int 44]) (st := []) B0 (c_X11_after_103 (a := a) (cS0 w)  ) cf_X11_after (cw_0 cy tE a rw (cS0 w)) rfl wm_L_87 wi_X11_after ws_X11_after dL_law_719 rfl (Nat.le_of_ble_eq_true rfl) ⟨by decide, by decide, by decide, by decide⟩) (fun r1 u1 p1 => ?_)
    obtain ⟨rfl, -⟩ := p1
    refine z_aload_n B0 dL_law_722 rfl rfl ?_
    refine z_aload_n B0 dL_law_723 rfl rfl ?_
    refine z_iload_n B0 dL_law_724 rfl rfl ?_
    refine z_iconst (v := 1) B0 dL_law_725 (by decide) ?_
    refine z_iadd (v := 1) B0 dL_law_726 (by decide) ?_
    refine y_sld (j := 1) (v := 1) B0 hX hbl (by decide) e1.symm dL_law_727 ?_
    refine z_aload_n B0 dL_law_728 rfl rfl ?_
    refine z_iload_n B0 dL_law_729 rfl rfl ?_
    refine z_iconst (v := 2) B0 dL_law_730 (by decide) ?_
    refine z_iadd (v := 2) B0 dL_law_731 (by decide) ?_
    refine y_sld (j := 2) (v := 44) B0 hX hbl (by decide) e2.symm dL_law_732 ?_
    refine z_callM B0 (z_runV (q0 := 0) (As := [.int 1, .int 44]) (st := [.int (-1)]) B0 (c_X12_after_103 (a := a2) mS0  rfl rfl rfl rfl rfl rfl rfl rfl rfl rfl rfl rfl rfl rfl rfl rfl rfl rfl rfl rfl rfl rfl rfl rfl rfl rfl rfl) cf_X12_after (mw_0 cy a2 mS0) rfl wm_L_90 wi_X12_after ws_X12_after dL_law_733 rfl (Nat.le_of_ble_eq_true rfl) ⟨by decide, by decide, by decide, by decide⟩) (fun r2 u2 p2 => ?_)
    obtain ⟨rfl, -⟩ := p2
    refine z_icmp_eq_t (tgt := 1091) B0 dL_law_736 (by decide) rfl ?_
    exact fin u1 u2
  · obtain rfl : x2 = 45 := Int32.toInt_inj.mp (h2.trans (by decide))
    refine z_aload_n B0 dL_law_708 rfl rfl ?_
    refine z_aload_n B0 dL_law_709 rfl rfl ?_
    refine z_iload_n B0 dL_law_710 rfl rfl ?_
    refine z_iconst (v := 1) B0 dL_law_711 (by decide) ?_
    refine z_iadd (v := 1) B0 dL_law_712 (by decide) ?_
    refine y_sld (j := 1) (v := 1) B0 hX hbl (by decide) e1.symm dL_law_713 ?_
    refine z_aload_n B0 dL_law_714 rfl rfl ?_
    refine z_iload_n B0 dL_law_715 rfl rfl ?_
    refine z_iconst (v := 2) B0 dL_law_716 (by decide) ?_
    refine z_iadd (v := 2) B0 dL_law_717 (by decide) ?_
    refine y_sld (j := 2) (v := 45) B0 hX hbl (by decide) e2.symm dL_law_718 ?_
    refine z_callC B0 (z_runV (q0 := 0) (As := [.int 1, .int 45]) (st := []) B0 (c_X11_after_104 (a := a) (cS0 w)  ) cf_X11_after (cw_0 cy tE a rw (cS0 w)) rfl wm_L_87 wi_X11_after ws_X11_after dL_law_719 rfl (Nat.le_of_ble_eq_true rfl) ⟨by decide, by decide, by decide, by decide⟩) (fun r1 u1 p1 => ?_)
    obtain ⟨rfl, -⟩ := p1
    refine z_aload_n B0 dL_law_722 rfl rfl ?_
    refine z_aload_n B0 dL_law_723 rfl rfl ?_
    refine z_iload_n B0 dL_law_724 rfl rfl ?_
    refine z_iconst (v := 1) B0 dL_law_725 (by decide) ?_
    refine z_iadd (v := 1) B0 dL_law_726 (by decide) ?_
    refine y_sld (j := 1) (v := 1) B0 hX hbl (by decide) e1.symm dL_law_727 ?_
    refine z_aload_n B0 dL_law_728 rfl rfl ?_
    refine z_iload_n B0 dL_law_729 rfl rfl ?_
    refine z_iconst (v := 2) B0 dL_law_730 (by decide) ?_
    refine z_iadd (v := 2) B0 dL_law_731 (by decide) ?_
    refine y_sld (j := 2) (v := 45) B0 hX hbl (by decide) e2.symm dL_law_732 ?_
    refine z_callM B0 (z_runV (q0 := 0) (As := [.int 1, .int 45]) (st := [.int (-1)]) B0 (c_X12_after_104 (a := a2) mS0  rfl rfl rfl rfl rfl rfl rfl rfl rfl rfl rfl rfl rfl rfl rfl rfl rfl rfl rfl rfl rfl rfl rfl rfl rfl rfl rfl) cf_X12_after (mw_0 cy a2 mS0) rfl wm_L_90 wi_X12_after ws_X12_after dL_law_733 rfl (Nat.le_of_ble_eq_true rfl) ⟨by decide, by decide, by decide, by decide⟩) (fun r2 u2 p2 => ?_)
    obtain ⟨rfl, -⟩ := p2
    refine z_icmp_eq_t (tgt := 1091) B0 dL_law_736 (by decide) rfl ?_
    exact fin u1 u2
  · obtain rfl : x2 = 46 := Int32.toInt_inj.mp (h2.trans (by decide))
    refine z_aload_n B0 dL_law_708 rfl rfl ?_
    refine z_aload_n B0 dL_law_709 rfl rfl ?_
    refine z_iload_n B0 dL_law_710 rfl rfl ?_
    refine z_iconst (v := 1) B0 dL_law_711 (by decide) ?_
    refine z_iadd (v := 1) B0 dL_law_712 (by decide) ?_
    refine y_sld (j := 1) (v := 1) B0 hX hbl (by decide) e1.symm dL_law_713 ?_
    refine z_aload_n B0 dL_law_714 rfl rfl ?_
    refine z_iload_n B0 dL_law_715 rfl rfl ?_
    refine z_iconst (v := 2) B0 dL_law_716 (by decide) ?_
    refine z_iadd (v := 2) B0 dL_law_717 (by decide) ?_
    refine y_sld (j := 2) (v := 46) B0 hX hbl (by decide) e2.symm dL_law_718 ?_
    refine z_callC B0 (z_runV (q0 := 0) (As := [.int 1, .int 46]) (st := []) B0 (c_X11_after_105 (a := a) (cS0 w)  ) cf_X11_after (cw_0 cy tE a rw (cS0 w)) rfl wm_L_87 wi_X11_after ws_X11_after dL_law_719 rfl (Nat.le_of_ble_eq_true rfl) ⟨by decide, by decide, by decide, by decide⟩) (fun r1 u1 p1 => ?_)
    obtain ⟨rfl, -⟩ := p1
    refine z_aload_n B0 dL_law_722 rfl rfl ?_
    refine z_aload_n B0 dL_law_723 rfl rfl ?_
    refine z_iload_n B0 dL_law_724 rfl rfl ?_
    refine z_iconst (v := 1) B0 dL_law_725 (by decide) ?_
    refine z_iadd (v := 1) B0 dL_law_726 (by decide) ?_
    refine y_sld (j := 1) (v := 1) B0 hX hbl (by decide) e1.symm dL_law_727 ?_
    refine z_aload_n B0 dL_law_728 rfl rfl ?_
    refine z_iload_n B0 dL_law_729 rfl rfl ?_
    refine z_iconst (v := 2) B0 dL_law_730 (by decide) ?_
    refine z_iadd (v := 2) B0 dL_law_731 (by decide) ?_
    refine y_sld (j := 2) (v := 46) B0 hX hbl (by decide) e2.symm dL_law_732 ?_
    refine z_callM B0 (z_runV (q0 := 0) (As := [.int 1, .int 46]) (st := [.int (-1)]) B0 (c_X12_after_105 (a := a2) mS0  rfl rfl rfl rfl rfl rfl rfl rfl rfl rfl rfl rfl rfl rfl rfl rfl rfl rfl rfl rfl rfl rfl rfl rfl rfl rfl rfl) cf_X12_after (mw_0 cy a2 mS0) rfl wm_L_90 wi_X12_after ws_X12_after dL_law_733 rfl (Nat.le_of_ble_eq_true rfl) ⟨by decide, by decide, by decide, by decide⟩) (fun r2 u2 p2 => ?_)
    obtain ⟨rfl, -⟩ := p2
    refine z_icmp_eq_t (tgt := 1091) B0 dL_law_736 (by decide) rfl ?_
    exact fin u1 u2
  · obtain rfl : x2 = 47 := Int32.toInt_inj.mp (h2.trans (by decide))
    refine z_aload_n B0 dL_law_708 rfl rfl ?_
    refine z_aload_n B0 dL_law_709 rfl rfl ?_
    refine z_iload_n B0 dL_law_710 rfl rfl ?_
    refine z_iconst (v := 1) B0 dL_law_711 (by decide) ?_
    refine z_iadd (v := 1) B0 dL_law_712 (by decide) ?_
    refine y_sld (j := 1) (v := 1) B0 hX hbl (by decide) e1.symm dL_law_713 ?_
    refine z_aload_n B0 dL_law_714 rfl rfl ?_
    refine z_iload_n B0 dL_law_715 rfl rfl ?_
    refine z_iconst (v := 2) B0 dL_law_716 (by decide) ?_
    refine z_iadd (v := 2) B0 dL_law_717 (by decide) ?_
    refine y_sld (j := 2) (v := 47) B0 hX hbl (by decide) e2.symm dL_law_718 ?_
    refine z_callC B0 (z_runV (q0 := 0) (As := [.int 1, .int 47]) (st := []) B0 (c_X11_after_106 (a := a) (cS0 w)  ) cf_X11_after (cw_0 cy tE a rw (cS0 w)) rfl wm_L_87 wi_X11_after ws_X11_after dL_law_719 rfl (Nat.le_of_ble_eq_true rfl) ⟨by decide, by decide, by decide, by decide⟩) (fun r1 u1 p1 => ?_)
    obtain ⟨rfl, -⟩ := p1
    refine z_aload_n B0 dL_law_722 rfl rfl ?_
    refine z_aload_n B0 dL_law_723 rfl rfl ?_
    refine z_iload_n B0 dL_law_724 rfl rfl ?_
    refine z_iconst (v := 1) B0 dL_law_725 (by decide) ?_
    refine z_iadd (v := 1) B0 dL_law_726 (by decide) ?_
    refine y_sld (j := 1) (v := 1) B0 hX hbl (by decide) e1.symm dL_law_727 ?_
    refine z_aload_n B0 dL_law_728 rfl rfl ?_
    refine z_iload_n B0 dL_law_729 rfl rfl ?_
    refine z_iconst (v := 2) B0 dL_law_730 (by decide) ?_
    refine z_iadd (v := 2) B0 dL_law_731 (by decide) ?_
    refine y_sld (j := 2) (v := 47) B0 hX hbl (by decide) e2.symm dL_law_732 ?_
    refine z_callM B0 (z_runV (q0 := 0) (As := [.int 1, .int 47]) (st := [.int (-1)]) B0 (c_X12_after_106 (a := a2) mS0  rfl rfl rfl rfl rfl rfl rfl rfl rfl rfl rfl rfl rfl rfl rfl rfl rfl rfl rfl rfl rfl rfl rfl rfl rfl rfl rfl) cf_X12_after (mw_0 cy a2 mS0) rfl wm_L_90 wi_X12_after ws_X12_after dL_law_733 rfl (Nat.le_of_ble_eq_true rfl) ⟨by decide, by decide, by decide, by decide⟩) (fun r2 u2 p2 => ?_)
    obtain ⟨rfl, -⟩ := p2
    refine z_icmp_eq_t (tgt := 1091) B0 dL_law_736 (by decide) rfl ?_
    exact fin u1 u2
  · obtain rfl : x2 = 48 := Int32.toInt_inj.mp (h2.trans (by decide))
    refine z_aload_n B0 dL_law_708 rfl rfl ?_
    refine z_aload_n B0 dL_law_709 rfl rfl ?_
    refine z_iload_n B0 dL_law_710 rfl rfl ?_
    refine z_iconst (v := 1) B0 dL_law_711 (by decide) ?_
    refine z_iadd (v := 1) B0 dL_law_712 (by decide) ?_
    refine y_sld (j := 1) (v := 1) B0 hX hbl (by decide) e1.symm dL_law_713 ?_
    refine z_aload_n B0 dL_law_714 rfl rfl ?_
    refine z_iload_n B0 dL_law_715 rfl rfl ?_
    refine z_iconst (v := 2) B0 dL_law_716 (by decide) ?_
    refine z_iadd (v := 2) B0 dL_law_717 (by decide) ?_
    refine y_sld (j := 2) (v := 48) B0 hX hbl (by decide) e2.symm dL_law_718 ?_
    refine z_callC B0 (z_runV (q0 := 0) (As := [.int 1, .int 48]) (st := []) B0 (c_X11_after_107 (a := a) (cS0 w)  ) cf_X11_after (cw_0 cy tE a rw (cS0 w)) rfl wm_L_87 wi_X11_after ws_X11_after dL_law_719 rfl (Nat.le_of_ble_eq_true rfl) ⟨by decide, by decide, by decide, by decide⟩) (fun r1 u1 p1 => ?_)
    obtain ⟨rfl, -⟩ := p1
    refine z_aload_n B0 dL_law_722 rfl rfl ?_
    refine z_aload_n B0 dL_law_723 rfl rfl ?_
    refine z_iload_n B0 dL_law_724 rfl rfl ?_
    refine z_iconst (v := 1) B0 dL_law_725 (by decide) ?_
    refine z_iadd (v := 1) B0 dL_law_726 (by decide) ?_
    refine y_sld (j := 1) (v := 1) B0 hX hbl (by decide) e1.symm dL_law_727 ?_
    refine z_aload_n B0 dL_law_728 rfl rfl ?_
    refine z_iload_n B0 dL_law_729 rfl rfl ?_
    refine z_iconst (v := 2) B0 dL_law_730 (by decide) ?_
    refine z_iadd (v := 2) B0 dL_law_731 (by decide) ?_
    refine y_sld (j := 2) (v := 48) B0 hX hbl (by decide) e2.symm dL_law_732 ?_
    refine z_callM B0 (z_runV (q0 := 0) (As := [.int 1, .int 48]) (st := [.int (-1)]) B0 (c_X12_after_107 (a := a2) mS0  rfl rfl rfl rfl rfl rfl rfl rfl rfl rfl rfl rfl rfl rfl rfl rfl rfl rfl rfl rfl rfl rfl rfl rfl rfl rfl rfl) cf_X12_after (mw_0 cy a2 mS0) rfl wm_L_90 wi_X12_after ws_X12_after dL_law_733 rfl (Nat.le_of_ble_eq_true rfl) ⟨by decide, by decide, by decide, by decide⟩) (fun r2 u2 p2 => ?_)
    obtain ⟨rfl, -⟩ := p2
    refine z_icmp_eq_t (tgt := 1091) B0 dL_law_736 (by decide) rfl ?_
    exact fin u1 u2
  · obtain rfl : x2 = 49 := Int32.toInt_inj.mp (h2.trans (by decide))
    refine z_aload_n B0 dL_law_708 rfl rfl ?_
    refine z_aload_n B0 dL_law_709 rfl rfl ?_
    refine z_iload_n B0 dL_law_710 rfl rfl ?_
    refine z_iconst (v := 1) B0 dL_law_711 (by decide) ?_
    refine z_iadd (v := 1) B0 dL_law_712 (by decide) ?_
    refine y_sld (j := 1) (v := 1) B0 hX hbl (by decide) e1.symm dL_law_713 ?_
    refine z_aload_n B0 dL_law_714 rfl rfl ?_
    refine z_iload_n B0 dL_law_715 rfl rfl ?_
    refine z_iconst (v := 2) B0 dL_law_716 (by decide) ?_
    refine z_iadd (v := 2) B0 dL_law_717 (by decide) ?_
    refine y_sld (j := 2) (v := 49) B0 hX hbl (by decide) e2.symm dL_law_718 ?_
    refine z_callC B0 (z_runV (q0 := 0) (As := [.int 1, .int 49]) (st := []) B0 (c_X11_after_108 (a := a) (cS0 w)  ) cf_X11_after (cw_0 cy tE a rw (cS0 w)) rfl wm_L_87 wi_X11_after ws_X11_after dL_law_719 rfl (Nat.le_of_ble_eq_true rfl) ⟨by decide, by decide, by decide, by decide⟩) (fun r1 u1 p1 => ?_)
    obtain ⟨rfl, -⟩ := p1
    refine z_aload_n B0 dL_law_722 rfl rfl ?_
    refine z_aload_n B0 dL_law_723 rfl rfl ?_
    refine z_iload_n B0 dL_law_724 rfl rfl ?_
    refine z_iconst (v := 1) B0 dL_law_725 (by decide) ?_
    refine z_iadd (v := 1) B0 dL_law_726 (by decide) ?_
    refine y_sld (j := 1) (v := 1) B0 hX hbl (by decide) e1.symm dL_law_727 ?_
    refine z_aload_n B0 dL_law_728 rfl rfl ?_
    refine z_iload_n B0 dL_law_729 rfl rfl ?_
    refine z_iconst (v := 2) B0 dL_law_730 (by decide) ?_
    refine z_iadd (v := 2) B0 dL_law_731 (by decide) ?_
    refine y_sld (j := 2) (v := 49) B0 hX hbl (by decide) e2.symm dL_law_732 ?_
    refine z_callM B0 (z_runV (q0 := 0) (As := [.int 1, .int 49]) (st := [.int (-1)]) B0 (c_X12_after_108 (a := a2) mS0  rfl rfl rfl rfl rfl rfl rfl rfl rfl rfl rfl rfl rfl rfl rfl rfl rfl rfl rfl rfl rfl rfl rfl rfl rfl rfl rfl) cf_X12_after (mw_0 cy a2 mS0) rfl wm_L_90 wi_X12_after ws_X12_after dL_law_733 rfl (Nat.le_of_ble_eq_true rfl) ⟨by decide, by decide, by decide, by decide⟩) (fun r2 u2 p2 => ?_)
    obtain ⟨rfl, -⟩ := p2
    refine z_icmp_eq_t (tgt := 1091) B0 dL_law_736 (by decide) rfl ?_
    exact fin u1 u2
  · obtain rfl : x2 = 50 := Int32.toInt_inj.mp (h2.trans (by decide))
    refine z_aload_n B0 dL_law_708 rfl rfl ?_
    refine z_aload_n B0 dL_law_709 rfl rfl ?_
    refine z_iload_n B0 dL_law_710 rfl rfl ?_
    refine z_iconst (v := 1) B0 dL_law_711 (by decide) ?_
    refine z_iadd (v := 1) B0 dL_law_712 (by decide) ?_
    refine y_sld (j := 1) (v := 1) B0 hX hbl (by decide) e1.symm dL_law_713 ?_
    refine z_aload_n B0 dL_law_714 rfl rfl ?_
    refine z_iload_n B0 dL_law_715 rfl rfl ?_
    refine z_iconst (v := 2) B0 dL_law_716 (by decide) ?_
    refine z_iadd (v := 2) B0 dL_law_717 (by decide) ?_
    refine y_sld (j := 2) (v := 50) B0 hX hbl (by decide) e2.symm dL_law_718 ?_
    refine z_callC B0 (z_runV (q0 := 0) (As := [.int 1, .int 50]) (st := []) B0 (c_X11_after_109 (a := a) (cS0 w)  rfl rfl rfl hrw) cf_X11_after (cw_0 cy tE a rw (cS0 w)) rfl wm_L_87 wi_X11_after ws_X11_after dL_law_719 rfl (Nat.le_of_ble_eq_true rfl) ⟨by decide, by decide, by decide, by decide⟩) (fun r1 u1 p1 => ?_)
    obtain ⟨rfl, -⟩ := p1
    refine z_aload_n B0 dL_law_722 rfl rfl ?_
    refine z_aload_n B0 dL_law_723 rfl rfl ?_
    refine z_iload_n B0 dL_law_724 rfl rfl ?_
    refine z_iconst (v := 1) B0 dL_law_725 (by decide) ?_
    refine z_iadd (v := 1) B0 dL_law_726 (by decide) ?_
    refine y_sld (j := 1) (v := 1) B0 hX hbl (by decide) e1.symm dL_law_727 ?_
    refine z_aload_n B0 dL_law_728 rfl rfl ?_
    refine z_iload_n B0 dL_law_729 rfl rfl ?_
    refine z_iconst (v := 2) B0 dL_law_730 (by decide) ?_
    refine z_iadd (v := 2) B0 dL_law_731 (by decide) ?_
    refine y_sld (j := 2) (v := 50) B0 hX hbl (by decide) e2.symm dL_law_732 ?_
    refine z_callM B0 (z_runV (q0 := 0) (As := [.int 1, .int 50]) (st := [.int 0]) B0 (c_X12_after_109 (a := a2) mS0  rfl rfl rfl rfl rfl rfl rfl rfl rfl rfl rfl rfl rfl rfl rfl rfl rfl rfl rfl rfl rfl rfl rfl rfl rfl rfl rfl) cf_X12_after (mw_0 cy a2 mS0) rfl wm_L_90 wi_X12_after ws_X12_after dL_law_733 rfl (Nat.le_of_ble_eq_true rfl) ⟨by decide, by decide, by decide, by decide⟩) (fun r2 u2 p2 => ?_)
    obtain ⟨rfl, -⟩ := p2
    refine z_icmp_eq_t (tgt := 1091) B0 dL_law_736 (by decide) rfl ?_
    exact fin u1 u2
  · refine z_aload_n B0 dL_law_708 rfl rfl ?_
    refine z_aload_n B0 dL_law_709 rfl rfl ?_
    refine z_iload_n B0 dL_law_710 rfl rfl ?_
    refine z_iconst (v := 1) B0 dL_law_711 (by decide) ?_
    refine z_iadd (v := 1) B0 dL_law_712 (by decide) ?_
    refine y_sld (j := 1) (v := 1) B0 hX hbl (by decide) e1.symm dL_law_713 ?_
    refine z_aload_n B0 dL_law_714 rfl rfl ?_
    refine z_iload_n B0 dL_law_715 rfl rfl ?_
    refine z_iconst (v := 2) B0 dL_law_716 (by decide) ?_
    refine z_iadd (v := 2) B0 dL_law_717 (by decide) ?_
    refine y_sld (j := 2) (v := x2) B0 hX hbl (by decide) e2.symm dL_law_718 ?_
    refine z_callC B0 (z_runV (q0 := 0) (As := [.int 1, .int x2]) (st := []) B0 (c_X11_after_110 (a := a) (cS0 w) x2 ⟨by omega, by omega⟩) cf_X11_after (cw_0 cy tE a rw (cS0 w)) rfl wm_L_87 wi_X11_after ws_X11_after dL_law_719 rfl (Nat.le_of_ble_eq_true rfl) ⟨by decide, by decide, by decide, by decide⟩) (fun r1 u1 p1 => ?_)
    obtain ⟨rfl, -⟩ := p1
    refine z_aload_n B0 dL_law_722 rfl rfl ?_
    refine z_aload_n B0 dL_law_723 rfl rfl ?_
    refine z_iload_n B0 dL_law_724 rfl rfl ?_
    refine z_iconst (v := 1) B0 dL_law_725 (by decide) ?_
    refine z_iadd (v := 1) B0 dL_law_726 (by decide) ?_
    refine y_sld (j := 1) (v := 1) B0 hX hbl (by decide) e1.symm dL_law_727 ?_
    refine z_aload_n B0 dL_law_728 rfl rfl ?_
    refine z_iload_n B0 dL_law_729 rfl rfl ?_
    refine z_iconst (v := 2) B0 dL_law_730 (by decide) ?_
    refine z_iadd (v := 2) B0 dL_law_731 (by decide) ?_
    refine y_sld (j := 2) (v := x2) B0 hX hbl (by decide) e2.symm dL_law_732 ?_
    refine z_callM B0 (z_runV (q0 := 0) (As := [.int 1, .int x2]) (st := [.int (-1)]) B0 (c_X12_after_110 (a := a2) mS0 x2 rfl rfl rfl rfl rfl rfl rfl rfl rfl rfl rfl rfl rfl rfl rfl rfl rfl rfl rfl rfl rfl rfl rfl rfl rfl rfl rfl ⟨by omega, by omega⟩) cf_X12_after (mw_0 cy a2 mS0) rfl wm_L_90 wi_X12_after ws_X12_after dL_law_733 rfl (Nat.le_of_ble_eq_true rfl) ⟨by decide, by decide, by decide, by decide⟩) (fun r2 u2 p2 => ?_)
    obtain ⟨rfl, -⟩ := p2
    refine z_icmp_eq_t (tgt := 1091) B0 dL_law_736 (by decide) rfl ?_
    exact fin u1 u2

set_option maxHeartbeats 8000000 in
set_option maxRecDepth 100000 in
theorem lo_after_2 {p : Program} {l : Launch} {e : Env} {s : State} {m : MethodId} {below : List Frame} {meth : Method} {c : Code} {D : va_G} {cy : Nat → ClassId} {tB tE b : Nat} {a a2 : Nat → Nat} {rw : Nat → Option Nat} {xs : Nat → Int32} (B0 : Bz p room_1 s m #[Value.ref b] meth c D cy s.heap.size tB tE (fun q => s.heap.size ≤ q) 4 cL_law RL meth.sig.returnType meth.name 2048 84000 600000 7302250) (hX : va_X b 6 xs s s.heap) (hbl : b < s.heap.size) (hrw : ∀ i, i < 6 → rw i = some (a (36 + 2 * i))) (w : Nat → Int64) (fin : ∀ S S9 : GS, Z p l e room_1 s m #[Value.ref b] below meth c D (fun q => s.heap.size ≤ q) 4 (lw_Z below #[Value.ref b] s) 200 60000 (cw cy tE a rw S ++ mw cy a2 S9) [(3, .int 0), (2, .ref (a2 0)), (1, .ref (a 0)), (0, .ref b)] 1091 []) (e1 : 2 = xs 1) : Z p l e room_1 s m #[Value.ref b] below meth c D (fun q => s.heap.size ≤ q) 4 (lw_Z below #[Value.ref b] s) 200 60000 (cw cy tE a rw (cS0 w) ++ mw cy a2 mS0) [(3, .int 0), (2, .ref (a2 0)), (1, .ref (a 0)), (0, .ref b)] 708 [] := by
  obtain ⟨x2, e2⟩ : ∃ x, x = xs 2 := ⟨_, rfl⟩
  rcases (show ((-2147483648) ≤ x2.toInt ∧ x2.toInt ≤ (-2147483609)) ∨ ((-2147483608) ≤ x2.toInt ∧ x2.toInt ≤ (-1)) ∨ x2.toInt = 0 ∨ x2.toInt = 1 ∨ x2.toInt = 2 ∨ x2.toInt = 3 ∨ x2.toInt = 4 ∨ x2.toInt = 5 ∨ x2.toInt = 6 ∨ x2.toInt = 7 ∨ x2.toInt = 8 ∨ x2.toInt = 9 ∨ x2.toInt = 10 ∨ x2.toInt = 11 ∨ x2.toInt = 12 ∨ x2.toInt = 13 ∨ x2.toInt = 14 ∨ x2.toInt = 15 ∨ x2.toInt = 16 ∨ x2.toInt = 17 ∨ x2.toInt = 18 ∨ x2.toInt = 19 ∨ x2.toInt = 20 ∨ x2.toInt = 21 ∨ x2.toInt = 22 ∨ x2.toInt = 23 ∨ x2.toInt = 24 ∨ x2.toInt = 25 ∨ x2.toInt = 26 ∨ x2.toInt = 27 ∨ x2.toInt = 28 ∨ x2.toInt = 29 ∨ x2.toInt = 30 ∨ x2.toInt = 31 ∨ x2.toInt = 32 ∨ x2.toInt = 33 ∨ x2.toInt = 34 ∨ x2.toInt = 35 ∨ x2.toInt = 36 ∨ x2.toInt = 37 ∨ x2.toInt = 38 ∨ x2.toInt = 39 ∨ x2.toInt = 40 ∨ x2.toInt = 41 ∨ x2.toInt = 42 ∨ x2.toInt = 43 ∨ x2.toInt = 44 ∨ x2.toInt = 45 ∨ x2.toInt = 46 ∨ x2.toInt = 47 ∨ x2.toInt = 48 ∨ x2.toInt = 49 ∨ x2.toInt = 50 ∨ (51 ≤ x2.toInt ∧ x2.toInt ≤ 2147483647) by have g1 := Int32.le_toInt x2; have g2 := Int32.toInt_lt x2; omega) with h2 | h2 | h2 | h2 | h2 | h2 | h2 | h2 | h2 | h2 | h2 | h2 | h2 | h2 | h2 | h2 | h2 | h2 | h2 | h2 | h2 | h2 | h2 | h2 | h2 | h2 | h2 | h2 | h2 | h2 | h2 | h2 | h2 | h2 | h2 | h2 | h2 | h2 | h2 | h2 | h2 | h2 | h2 | h2 | h2 | h2 | h2 | h2 | h2 | h2 | h2 | h2 | h2 | h2
  · refine z_aload_n B0 dL_law_708 rfl rfl ?_
    refine z_aload_n B0 dL_law_709 rfl rfl ?_
    refine z_iload_n B0 dL_law_710 rfl rfl ?_
    refine z_iconst (v := 1) B0 dL_law_711 (by decide) ?_
    refine z_iadd (v := 1) B0 dL_law_712 (by decide) ?_
    refine y_sld (j := 1) (v := 2) B0 hX hbl (by decide) e1.symm dL_law_713 ?_
    refine z_aload_n B0 dL_law_714 rfl rfl ?_
    refine z_iload_n B0 dL_law_715 rfl rfl ?_
    refine z_iconst (v := 2) B0 dL_law_716 (by decide) ?_
    refine z_iadd (v := 2) B0 dL_law_717 (by decide) ?_
    refine y_sld (j := 2) (v := x2) B0 hX hbl (by decide) e2.symm dL_law_718 ?_
    refine z_callC B0 (z_runV (q0 := 0) (As := [.int 2, .int x2]) (st := []) B0 (c_X11_after_111 (a := a) (cS0 w) x2 ⟨by omega, by omega⟩) cf_X11_after (cw_0 cy tE a rw (cS0 w)) rfl wm_L_87 wi_X11_after ws_X11_after dL_law_719 rfl (Nat.le_of_ble_eq_true rfl) ⟨by decide, by decide, by decide, by decide⟩) (fun r1 u1 p1 => ?_)
    obtain ⟨rfl, -⟩ := p1
    refine z_aload_n B0 dL_law_722 rfl rfl ?_
    refine z_aload_n B0 dL_law_723 rfl rfl ?_
    refine z_iload_n B0 dL_law_724 rfl rfl ?_
    refine z_iconst (v := 1) B0 dL_law_725 (by decide) ?_
    refine z_iadd (v := 1) B0 dL_law_726 (by decide) ?_
    refine y_sld (j := 1) (v := 2) B0 hX hbl (by decide) e1.symm dL_law_727 ?_
    refine z_aload_n B0 dL_law_728 rfl rfl ?_
    refine z_iload_n B0 dL_law_729 rfl rfl ?_
    refine z_iconst (v := 2) B0 dL_law_730 (by decide) ?_
    refine z_iadd (v := 2) B0 dL_law_731 (by decide) ?_
    refine y_sld (j := 2) (v := x2) B0 hX hbl (by decide) e2.symm dL_law_732 ?_
    refine z_callM B0 (z_runV (q0 := 0) (As := [.int 2, .int x2]) (st := [.int (-1)]) B0 (c_X12_after_111 (a := a2) mS0 x2 rfl rfl rfl rfl rfl rfl rfl rfl rfl rfl rfl rfl rfl rfl rfl rfl rfl rfl rfl rfl rfl rfl rfl rfl rfl rfl rfl ⟨by omega, by omega⟩) cf_X12_after (mw_0 cy a2 mS0) rfl wm_L_90 wi_X12_after ws_X12_after dL_law_733 rfl (Nat.le_of_ble_eq_true rfl) ⟨by decide, by decide, by decide, by decide⟩) (fun r2 u2 p2 => ?_)
    obtain ⟨rfl, -⟩ := p2
    refine z_icmp_eq_t (tgt := 1091) B0 dL_law_736 (by decide) rfl ?_
    exact fin u1 u2
  · refine z_aload_n B0 dL_law_708 rfl rfl ?_
    refine z_aload_n B0 dL_law_709 rfl rfl ?_
    refine z_iload_n B0 dL_law_710 rfl rfl ?_
    refine z_iconst (v := 1) B0 dL_law_711 (by decide) ?_
    refine z_iadd (v := 1) B0 dL_law_712 (by decide) ?_
    refine y_sld (j := 1) (v := 2) B0 hX hbl (by decide) e1.symm dL_law_713 ?_
    refine z_aload_n B0 dL_law_714 rfl rfl ?_
    refine z_iload_n B0 dL_law_715 rfl rfl ?_
    refine z_iconst (v := 2) B0 dL_law_716 (by decide) ?_
    refine z_iadd (v := 2) B0 dL_law_717 (by decide) ?_
    refine y_sld (j := 2) (v := x2) B0 hX hbl (by decide) e2.symm dL_law_718 ?_
    refine z_callC B0 (z_runV (q0 := 0) (As := [.int 2, .int x2]) (st := []) B0 (c_X11_after_112 (a := a) (cS0 w) x2 ⟨by omega, by omega⟩) cf_X11_after (cw_0 cy tE a rw (cS0 w)) rfl wm_L_87 wi_X11_after ws_X11_after dL_law_719 rfl (Nat.le_of_ble_eq_true rfl) ⟨by decide, by decide, by decide, by decide⟩) (fun r1 u1 p1 => ?_)
    obtain ⟨rfl, -⟩ := p1
    refine z_aload_n B0 dL_law_722 rfl rfl ?_
    refine z_aload_n B0 dL_law_723 rfl rfl ?_
    refine z_iload_n B0 dL_law_724 rfl rfl ?_
    refine z_iconst (v := 1) B0 dL_law_725 (by decide) ?_
    refine z_iadd (v := 1) B0 dL_law_726 (by decide) ?_
    refine y_sld (j := 1) (v := 2) B0 hX hbl (by decide) e1.symm dL_law_727 ?_
    refine z_aload_n B0 dL_law_728 rfl rfl ?_
    refine z_iload_n B0 dL_law_729 rfl rfl ?_
    refine z_iconst (v := 2) B0 dL_law_730 (by decide) ?_
    refine z_iadd (v := 2) B0 dL_law_731 (by decide) ?_
    refine y_sld (j := 2) (v := x2) B0 hX hbl (by decide) e2.symm dL_law_732 ?_
    refine z_callM B0 (z_runV (q0 := 0) (As := [.int 2, .int x2]) (st := [.int (-1)]) B0 (c_X12_after_112 (a := a2) mS0 x2 rfl rfl rfl rfl rfl rfl rfl rfl rfl rfl rfl rfl rfl rfl rfl rfl rfl rfl rfl rfl rfl rfl rfl rfl rfl rfl rfl ⟨by omega, by omega⟩) cf_X12_after (mw_0 cy a2 mS0) rfl wm_L_90 wi_X12_after ws_X12_after dL_law_733 rfl (Nat.le_of_ble_eq_true rfl) ⟨by decide, by decide, by decide, by decide⟩) (fun r2 u2 p2 => ?_)
    obtain ⟨rfl, -⟩ := p2
    refine z_icmp_eq_t (tgt := 1091) B0 dL_law_736 (by decide) rfl ?_
    exact fin u1 u2
  · obtain rfl : x2 = 0 := Int32.toInt_inj.mp (h2.trans (by decide))
    refine z_aload_n B0 dL_law_708 rfl rfl ?_
    refine z_aload_n B0 dL_law_709 rfl rfl ?_
    refine z_iload_n B0 dL_law_710 rfl rfl ?_
    refine z_iconst (v := 1) B0 dL_law_711 (by decide) ?_
    refine z_iadd (v := 1) B0 dL_law_712 (by decide) ?_
    refine y_sld (j := 1) (v := 2) B0 hX hbl (by decide) e1.symm dL_law_713 ?_
    refine z_aload_n B0 dL_law_714 rfl rfl ?_
    refine z_iload_n B0 dL_law_715 rfl rfl ?_
    refine z_iconst (v := 2) B0 dL_law_716 (by decide) ?_
    refine z_iadd (v := 2) B0 dL_law_717 (by decide) ?_
    refine y_sld (j := 2) (v := 0) B0 hX hbl (by decide) e2.symm dL_law_718 ?_
    refine z_callC B0 (z_runV (q0 := 0) (As := [.int 2, .int 0]) (st := []) B0 (c_X11_after_113 (a := a) (cS0 w)  rfl rfl rfl hrw) cf_X11_after (cw_0 cy tE a rw (cS0 w)) rfl wm_L_87 wi_X11_after ws_X11_after dL_law_719 rfl (Nat.le_of_ble_eq_true rfl) ⟨by decide, by decide, by decide, by decide⟩) (fun r1 u1 p1 => ?_)
    obtain ⟨rfl, -⟩ := p1
    refine z_aload_n B0 dL_law_722 rfl rfl ?_
    refine z_aload_n B0 dL_law_723 rfl rfl ?_
    refine z_iload_n B0 dL_law_724 rfl rfl ?_
    refine z_iconst (v := 1) B0 dL_law_725 (by decide) ?_
    refine z_iadd (v := 1) B0 dL_law_726 (by decide) ?_
    refine y_sld (j := 1) (v := 2) B0 hX hbl (by decide) e1.symm dL_law_727 ?_
    refine z_aload_n B0 dL_law_728 rfl rfl ?_
    refine z_iload_n B0 dL_law_729 rfl rfl ?_
    refine z_iconst (v := 2) B0 dL_law_730 (by decide) ?_
    refine z_iadd (v := 2) B0 dL_law_731 (by decide) ?_
    refine y_sld (j := 2) (v := 0) B0 hX hbl (by decide) e2.symm dL_law_732 ?_
    refine z_callM B0 (z_runV (q0 := 0) (As := [.int 2, .int 0]) (st := [.int 0]) B0 (c_X12_after_113 (a := a2) mS0  rfl rfl rfl rfl rfl rfl rfl rfl rfl rfl rfl rfl rfl rfl rfl rfl rfl rfl rfl rfl rfl rfl rfl rfl rfl rfl rfl) cf_X12_after (mw_0 cy a2 mS0) rfl wm_L_90 wi_X12_after ws_X12_after dL_law_733 rfl (Nat.le_of_ble_eq_true rfl) ⟨by decide, by decide, by decide, by decide⟩) (fun r2 u2 p2 => ?_)
    obtain ⟨rfl, -⟩ := p2
    refine z_icmp_eq_t (tgt := 1091) B0 dL_law_736 (by decide) rfl ?_
    exact fin u1 u2
  · obtain rfl : x2 = 1 := Int32.toInt_inj.mp (h2.trans (by decide))
    refine z_aload_n B0 dL_law_708 rfl rfl ?_
    refine z_aload_n B0 dL_law_709 rfl rfl ?_
    refine z_iload_n B0 dL_law_710 rfl rfl ?_
    refine z_iconst (v := 1) B0 dL_law_711 (by decide) ?_
    refine z_iadd (v := 1) B0 dL_law_712 (by decide) ?_
    refine y_sld (j := 1) (v := 2) B0 hX hbl (by decide) e1.symm dL_law_713 ?_
    refine z_aload_n B0 dL_law_714 rfl rfl ?_
    refine z_iload_n B0 dL_law_715 rfl rfl ?_
    refine z_iconst (v := 2) B0 dL_law_716 (by decide) ?_
    refine z_iadd (v := 2) B0 dL_law_717 (by decide) ?_
    refine y_sld (j := 2) (v := 1) B0 hX hbl (by decide) e2.symm dL_law_718 ?_
    refine z_callC B0 (z_runV (q0 := 0) (As := [.int 2, .int 1]) (st := []) B0 (c_X11_after_114 (a := a) (cS0 w)  rfl rfl rfl hrw) cf_X11_after (cw_0 cy tE a rw (cS0 w)) rfl wm_L_87 wi_X11_after ws_X11_after dL_law_719 rfl (Nat.le_of_ble_eq_true rfl) ⟨by decide, by decide, by decide, by decide⟩) (fun r1 u1 p1 => ?_)
    obtain ⟨rfl, -⟩ := p1
    refine z_aload_n B0 dL_law_722 rfl rfl ?_
    refine z_aload_n B0 dL_law_723 rfl rfl ?_
    refine z_iload_n B0 dL_law_724 rfl rfl ?_
    refine z_iconst (v := 1) B0 dL_law_725 (by decide) ?_
    refine z_iadd (v := 1) B0 dL_law_726 (by decide) ?_
    refine y_sld (j := 1) (v := 2) B0 hX hbl (by decide) e1.symm dL_law_727 ?_
    refine z_aload_n B0 dL_law_728 rfl rfl ?_
    refine z_iload_n B0 dL_law_729 rfl rfl ?_
    refine z_iconst (v := 2) B0 dL_law_730 (by decide) ?_
    refine z_iadd (v := 2) B0 dL_law_731 (by decide) ?_
    refine y_sld (j := 2) (v := 1) B0 hX hbl (by decide) e2.symm dL_law_732 ?_
    refine z_callM B0 (z_runV (q0 := 0) (As := [.int 2, .int 1]) (st := [.int 0]) B0 (c_X12_after_114 (a := a2) mS0  rfl rfl rfl rfl rfl rfl rfl rfl rfl rfl rfl rfl rfl rfl rfl rfl rfl rfl rfl rfl rfl rfl rfl rfl rfl rfl rfl) cf_X12_after (mw_0 cy a2 mS0) rfl wm_L_90 wi_X12_after ws_X12_after dL_law_733 rfl (Nat.le_of_ble_eq_true rfl) ⟨by decide, by decide, by decide, by decide⟩) (fun r2 u2 p2 => ?_)
    obtain ⟨rfl, -⟩ := p2
    refine z_icmp_eq_t (tgt := 1091) B0 dL_law_736 (by decide) rfl ?_
    exact fin u1 u2
  · obtain rfl : x2 = 2 := Int32.toInt_inj.mp (h2.trans (by decide))
    refine z_aload_n B0 dL_law_708 rfl rfl ?_
    refine z_aload_n B0 dL_law_709 rfl rfl ?_
    refine z_iload_n B0 dL_law_710 rfl rfl ?_
    refine z_iconst (v := 1) B0 dL_law_711 (by decide) ?_
    refine z_iadd (v := 1) B0 dL_law_712 (by decide) ?_
    refine y_sld (j := 1) (v := 2) B0 hX hbl (by decide) e1.symm dL_law_713 ?_
    refine z_aload_n B0 dL_law_714 rfl rfl ?_
    refine z_iload_n B0 dL_law_715 rfl rfl ?_
    refine z_iconst (v := 2) B0 dL_law_716 (by decide) ?_
    refine z_iadd (v := 2) B0 dL_law_717 (by decide) ?_
    refine y_sld (j := 2) (v := 2) B0 hX hbl (by decide) e2.symm dL_law_718 ?_
    refine z_callC B0 (z_runV (q0 := 0) (As := [.int 2, .int 2]) (st := []) B0 (c_X11_after_115 (a := a) (cS0 w)  rfl rfl rfl hrw) cf_X11_after (cw_0 cy tE a rw (cS0 w)) rfl wm_L_87 wi_X11_after ws_X11_after dL_law_719 rfl (Nat.le_of_ble_eq_true rfl) ⟨by decide, by decide, by decide, by decide⟩) (fun r1 u1 p1 => ?_)
    obtain ⟨rfl, -⟩ := p1
    refine z_aload_n B0 dL_law_722 rfl rfl ?_
    refine z_aload_n B0 dL_law_723 rfl rfl ?_
    refine z_iload_n B0 dL_law_724 rfl rfl ?_
    refine z_iconst (v := 1) B0 dL_law_725 (by decide) ?_
    refine z_iadd (v := 1) B0 dL_law_726 (by decide) ?_
    refine y_sld (j := 1) (v := 2) B0 hX hbl (by decide) e1.symm dL_law_727 ?_
    refine z_aload_n B0 dL_law_728 rfl rfl ?_
    refine z_iload_n B0 dL_law_729 rfl rfl ?_
    refine z_iconst (v := 2) B0 dL_law_730 (by decide) ?_
    refine z_iadd (v := 2) B0 dL_law_731 (by decide) ?_
    refine y_sld (j := 2) (v := 2) B0 hX hbl (by decide) e2.symm dL_law_732 ?_
    refine z_callM B0 (z_runV (q0 := 0) (As := [.int 2, .int 2]) (st := [.int 0]) B0 (c_X12_after_115 (a := a2) mS0  rfl rfl rfl rfl rfl rfl rfl rfl rfl rfl rfl rfl rfl rfl rfl rfl rfl rfl rfl rfl rfl rfl rfl rfl rfl rfl rfl) cf_X12_after (mw_0 cy a2 mS0) rfl wm_L_90 wi_X12_after ws_X12_after dL_law_733 rfl (Nat.le_of_ble_eq_true rfl) ⟨by decide, by decide, by decide, by decide⟩) (fun r2 u2 p2 => ?_)
    obtain ⟨rfl, -⟩ := p2
    refine z_icmp_eq_t (tgt := 1091) B0 dL_law_736 (by decide) rfl ?_
    exact fin u1 u2
  · obtain rfl : x2 = 3 := Int32.toInt_inj.mp (h2.trans (by decide))
    refine z_aload_n B0 dL_law_708 rfl rfl ?_
    refine z_aload_n B0 dL_law_709 rfl rfl ?_
    refine z_iload_n B0 dL_law_710 rfl rfl ?_
    refine z_iconst (v := 1) B0 dL_law_711 (by decide) ?_
    refine z_iadd (v := 1) B0 dL_law_712 (by decide) ?_
    refine y_sld (j := 1) (v := 2) B0 hX hbl (by decide) e1.symm dL_law_713 ?_
    refine z_aload_n B0 dL_law_714 rfl rfl ?_
    refine z_iload_n B0 dL_law_715 rfl rfl ?_
    refine z_iconst (v := 2) B0 dL_law_716 (by decide) ?_
    refine z_iadd (v := 2) B0 dL_law_717 (by decide) ?_
    refine y_sld (j := 2) (v := 3) B0 hX hbl (by decide) e2.symm dL_law_718 ?_
    refine z_callC B0 (z_runV (q0 := 0) (As := [.int 2, .int 3]) (st := []) B0 (c_X11_after_116 (a := a) (cS0 w)  ) cf_X11_after (cw_0 cy tE a rw (cS0 w)) rfl wm_L_87 wi_X11_after ws_X11_after dL_law_719 rfl (Nat.le_of_ble_eq_true rfl) ⟨by decide, by decide, by decide, by decide⟩) (fun r1 u1 p1 => ?_)
    obtain ⟨rfl, -⟩ := p1
    refine z_aload_n B0 dL_law_722 rfl rfl ?_
    refine z_aload_n B0 dL_law_723 rfl rfl ?_
    refine z_iload_n B0 dL_law_724 rfl rfl ?_
    refine z_iconst (v := 1) B0 dL_law_725 (by decide) ?_
    refine z_iadd (v := 1) B0 dL_law_726 (by decide) ?_
    refine y_sld (j := 1) (v := 2) B0 hX hbl (by decide) e1.symm dL_law_727 ?_
    refine z_aload_n B0 dL_law_728 rfl rfl ?_
    refine z_iload_n B0 dL_law_729 rfl rfl ?_
    refine z_iconst (v := 2) B0 dL_law_730 (by decide) ?_
    refine z_iadd (v := 2) B0 dL_law_731 (by decide) ?_
    refine y_sld (j := 2) (v := 3) B0 hX hbl (by decide) e2.symm dL_law_732 ?_
    refine z_callM B0 (z_runV (q0 := 0) (As := [.int 2, .int 3]) (st := [.int (-1)]) B0 (c_X12_after_116 (a := a2) mS0  rfl rfl rfl rfl rfl rfl rfl rfl rfl rfl rfl rfl rfl rfl rfl rfl rfl rfl rfl rfl rfl rfl rfl rfl rfl rfl rfl) cf_X12_after (mw_0 cy a2 mS0) rfl wm_L_90 wi_X12_after ws_X12_after dL_law_733 rfl (Nat.le_of_ble_eq_true rfl) ⟨by decide, by decide, by decide, by decide⟩) (fun r2 u2 p2 => ?_)
    obtain ⟨rfl, -⟩ := p2
    refine z_icmp_eq_t (tgt := 1091) B0 dL_law_736 (by decide) rfl ?_
    exact fin u1 u2
  · obtain rfl : x2 = 4 := Int32.toInt_inj.mp (h2.trans (by decide))
    refine z_aload_n B0 dL_law_708 rfl rfl ?_
    refine z_aload_n B0 dL_law_709 rfl rfl ?_
    refine z_iload_n B0 dL_law_710 rfl rfl ?_
    refine z_iconst (v := 1) B0 dL_law_711 (by decide) ?_
    refine z_iadd (v := 1) B0 dL_law_712 (by decide) ?_
    refine y_sld (j := 1) (v := 2) B0 hX hbl (by decide) e1.symm dL_law_713 ?_
    refine z_aload_n B0 dL_law_714 rfl rfl ?_
    refine z_iload_n B0 dL_law_715 rfl rfl ?_
    refine z_iconst (v := 2) B0 dL_law_716 (by decide) ?_
    refine z_iadd (v := 2) B0 dL_law_717 (by decide) ?_
    refine y_sld (j := 2) (v := 4) B0 hX hbl (by decide) e2.symm dL_law_718 ?_
    refine z_callC B0 (z_runV (q0 := 0) (As := [.int 2, .int 4]) (st := []) B0 (c_X11_after_117 (a := a) (cS0 w)  ) cf_X11_after (cw_0 cy tE a rw (cS0 w)) rfl wm_L_87 wi_X11_after ws_X11_after dL_law_719 rfl (Nat.le_of_ble_eq_true rfl) ⟨by decide, by decide, by decide, by decide⟩) (fun r1 u1 p1 => ?_)
    obtain ⟨rfl, -⟩ := p1
    refine z_aload_n B0 dL_law_722 rfl rfl ?_
    refine z_aload_n B0 dL_law_723 rfl rfl ?_
    refine z_iload_n B0 dL_law_724 rfl rfl ?_
    refine z_iconst (v := 1) B0 dL_law_725 (by decide) ?_
    refine z_iadd (v := 1) B0 dL_law_726 (by decide) ?_
    refine y_sld (j := 1) (v := 2) B0 hX hbl (by decide) e1.symm dL_law_727 ?_
    refine z_aload_n B0 dL_law_728 rfl rfl ?_
    refine z_iload_n B0 dL_law_729 rfl rfl ?_
    refine z_iconst (v := 2) B0 dL_law_730 (by decide) ?_
    refine z_iadd (v := 2) B0 dL_law_731 (by decide) ?_
    refine y_sld (j := 2) (v := 4) B0 hX hbl (by decide) e2.symm dL_law_732 ?_
    refine z_callM B0 (z_runV (q0 := 0) (As := [.int 2, .int 4]) (st := [.int (-1)]) B0 (c_X12_after_117 (a := a2) mS0  rfl rfl rfl rfl rfl rfl rfl rfl rfl rfl rfl rfl rfl rfl rfl rfl rfl rfl rfl rfl rfl rfl rfl rfl rfl rfl rfl) cf_X12_after (mw_0 cy a2 mS0) rfl wm_L_90 wi_X12_after ws_X12_after dL_law_733 rfl (Nat.le_of_ble_eq_true rfl) ⟨by decide, by decide, by decide, by decide⟩) (fun r2 u2 p2 => ?_)
    obtain ⟨rfl, -⟩ := p2
    refine z_icmp_eq_t (tgt := 1091) B0 dL_law_736 (by decide) rfl ?_
    exact fin u1 u2
  · obtain rfl : x2 = 5 := Int32.toInt_inj.mp (h2.trans (by decide))
    refine z_aload_n B0 dL_law_708 rfl rfl ?_
    refine z_aload_n B0 dL_law_709 rfl rfl ?_
    refine z_iload_n B0 dL_law_710 rfl rfl ?_
    refine z_iconst (v := 1) B0 dL_law_711 (by decide) ?_
    refine z_iadd (v := 1) B0 dL_law_712 (by decide) ?_
    refine y_sld (j := 1) (v := 2) B0 hX hbl (by decide) e1.symm dL_law_713 ?_
    refine z_aload_n B0 dL_law_714 rfl rfl ?_
    refine z_iload_n B0 dL_law_715 rfl rfl ?_
    refine z_iconst (v := 2) B0 dL_law_716 (by decide) ?_
    refine z_iadd (v := 2) B0 dL_law_717 (by decide) ?_
    refine y_sld (j := 2) (v := 5) B0 hX hbl (by decide) e2.symm dL_law_718 ?_
    refine z_callC B0 (z_runV (q0 := 0) (As := [.int 2, .int 5]) (st := []) B0 (c_X11_after_118 (a := a) (cS0 w)  ) cf_X11_after (cw_0 cy tE a rw (cS0 w)) rfl wm_L_87 wi_X11_after ws_X11_after dL_law_719 rfl (Nat.le_of_ble_eq_true rfl) ⟨by decide, by decide, by decide, by decide⟩) (fun r1 u1 p1 => ?_)
    obtain ⟨rfl, -⟩ := p1
    refine z_aload_n B0 dL_law_722 rfl rfl ?_
    refine z_aload_n B0 dL_law_723 rfl rfl ?_
    refine z_iload_n B0 dL_law_724 rfl rfl ?_
    refine z_iconst (v := 1) B0 dL_law_725 (by decide) ?_
    refine z_iadd (v := 1) B0 dL_law_726 (by decide) ?_
    refine y_sld (j := 1) (v := 2) B0 hX hbl (by decide) e1.symm dL_law_727 ?_
    refine z_aload_n B0 dL_law_728 rfl rfl ?_
    refine z_iload_n B0 dL_law_729 rfl rfl ?_
    refine z_iconst (v := 2) B0 dL_law_730 (by decide) ?_
    refine z_iadd (v := 2) B0 dL_law_731 (by decide) ?_
    refine y_sld (j := 2) (v := 5) B0 hX hbl (by decide) e2.symm dL_law_732 ?_
    refine z_callM B0 (z_runV (q0 := 0) (As := [.int 2, .int 5]) (st := [.int (-1)]) B0 (c_X12_after_118 (a := a2) mS0  rfl rfl rfl rfl rfl rfl rfl rfl rfl rfl rfl rfl rfl rfl rfl rfl rfl rfl rfl rfl rfl rfl rfl rfl rfl rfl rfl) cf_X12_after (mw_0 cy a2 mS0) rfl wm_L_90 wi_X12_after ws_X12_after dL_law_733 rfl (Nat.le_of_ble_eq_true rfl) ⟨by decide, by decide, by decide, by decide⟩) (fun r2 u2 p2 => ?_)
    obtain ⟨rfl, -⟩ := p2
    refine z_icmp_eq_t (tgt := 1091) B0 dL_law_736 (by decide) rfl ?_
    exact fin u1 u2
  · obtain rfl : x2 = 6 := Int32.toInt_inj.mp (h2.trans (by decide))
    refine z_aload_n B0 dL_law_708 rfl rfl ?_
    refine z_aload_n B0 dL_law_709 rfl rfl ?_
    refine z_iload_n B0 dL_law_710 rfl rfl ?_
    refine z_iconst (v := 1) B0 dL_law_711 (by decide) ?_
    refine z_iadd (v := 1) B0 dL_law_712 (by decide) ?_
    refine y_sld (j := 1) (v := 2) B0 hX hbl (by decide) e1.symm dL_law_713 ?_
    refine z_aload_n B0 dL_law_714 rfl rfl ?_
    refine z_iload_n B0 dL_law_715 rfl rfl ?_
    refine z_iconst (v := 2) B0 dL_law_716 (by decide) ?_
    refine z_iadd (v := 2) B0 dL_law_717 (by decide) ?_
    refine y_sld (j := 2) (v := 6) B0 hX hbl (by decide) e2.symm dL_law_718 ?_
    refine z_callC B0 (z_runV (q0 := 0) (As := [.int 2, .int 6]) (st := []) B0 (c_X11_after_119 (a := a) (cS0 w)  ) cf_X11_after (cw_0 cy tE a rw (cS0 w)) rfl wm_L_87 wi_X11_after ws_X11_after dL_law_719 rfl (Nat.le_of_ble_eq_true rfl) ⟨by decide, by decide, by decide, by decide⟩) (fun r1 u1 p1 => ?_)
    obtain ⟨rfl, -⟩ := p1
    refine z_aload_n B0 dL_law_722 rfl rfl ?_
    refine z_aload_n B0 dL_law_723 rfl rfl ?_
    refine z_iload_n B0 dL_law_724 rfl rfl ?_
    refine z_iconst (v := 1) B0 dL_law_725 (by decide) ?_
    refine z_iadd (v := 1) B0 dL_law_726 (by decide) ?_
    refine y_sld (j := 1) (v := 2) B0 hX hbl (by decide) e1.symm dL_law_727 ?_
    refine z_aload_n B0 dL_law_728 rfl rfl ?_
    refine z_iload_n B0 dL_law_729 rfl rfl ?_
    refine z_iconst (v := 2) B0 dL_law_730 (by decide) ?_
    refine z_iadd (v := 2) B0 dL_law_731 (by decide) ?_
    refine y_sld (j := 2) (v := 6) B0 hX hbl (by decide) e2.symm dL_law_732 ?_
    refine z_callM B0 (z_runV (q0 := 0) (As := [.int 2, .int 6]) (st := [.int (-1)]) B0 (c_X12_after_119 (a := a2) mS0  rfl rfl rfl rfl rfl rfl rfl rfl rfl rfl rfl rfl rfl rfl rfl rfl rfl rfl rfl rfl rfl rfl rfl rfl rfl rfl rfl) cf_X12_after (mw_0 cy a2 mS0) rfl wm_L_90 wi_X12_after ws_X12_after dL_law_733 rfl (Nat.le_of_ble_eq_true rfl) ⟨by decide, by decide, by decide, by decide⟩) (fun r2 u2 p2 => ?_)
    obtain ⟨rfl, -⟩ := p2
    refine z_icmp_eq_t (tgt := 1091) B0 dL_law_736 (by decide) rfl ?_
    exact fin u1 u2
  · obtain rfl : x2 = 7 := Int32.toInt_inj.mp (h2.trans (by decide))
    refine z_aload_n B0 dL_law_708 rfl rfl ?_
    refine z_aload_n B0 dL_law_709 rfl rfl ?_
    refine z_iload_n B0 dL_law_710 rfl rfl ?_
    refine z_iconst (v := 1) B0 dL_law_711 (by decide) ?_
    refine z_iadd (v := 1) B0 dL_law_712 (by decide) ?_
    refine y_sld (j := 1) (v := 2) B0 hX hbl (by decide) e1.symm dL_law_713 ?_
    refine z_aload_n B0 dL_law_714 rfl rfl ?_
    refine z_iload_n B0 dL_law_715 rfl rfl ?_
    refine z_iconst (v := 2) B0 dL_law_716 (by decide) ?_
    refine z_iadd (v := 2) B0 dL_law_717 (by decide) ?_
    refine y_sld (j := 2) (v := 7) B0 hX hbl (by decide) e2.symm dL_law_718 ?_
    refine z_callC B0 (z_runV (q0 := 0) (As := [.int 2, .int 7]) (st := []) B0 (c_X11_after_120 (a := a) (cS0 w)  ) cf_X11_after (cw_0 cy tE a rw (cS0 w)) rfl wm_L_87 wi_X11_after ws_X11_after dL_law_719 rfl (Nat.le_of_ble_eq_true rfl) ⟨by decide, by decide, by decide, by decide⟩) (fun r1 u1 p1 => ?_)
    obtain ⟨rfl, -⟩ := p1
    refine z_aload_n B0 dL_law_722 rfl rfl ?_
    refine z_aload_n B0 dL_law_723 rfl rfl ?_
    refine z_iload_n B0 dL_law_724 rfl rfl ?_
    refine z_iconst (v := 1) B0 dL_law_725 (by decide) ?_
    refine z_iadd (v := 1) B0 dL_law_726 (by decide) ?_
    refine y_sld (j := 1) (v := 2) B0 hX hbl (by decide) e1.symm dL_law_727 ?_
    refine z_aload_n B0 dL_law_728 rfl rfl ?_
    refine z_iload_n B0 dL_law_729 rfl rfl ?_
    refine z_iconst (v := 2) B0 dL_law_730 (by decide) ?_
    refine z_iadd (v := 2) B0 dL_law_731 (by decide) ?_
    refine y_sld (j := 2) (v := 7) B0 hX hbl (by decide) e2.symm dL_law_732 ?_
    refine z_callM B0 (z_runV (q0 := 0) (As := [.int 2, .int 7]) (st := [.int (-1)]) B0 (c_X12_after_120 (a := a2) mS0  rfl rfl rfl rfl rfl rfl rfl rfl rfl rfl rfl rfl rfl rfl rfl rfl rfl rfl rfl rfl rfl rfl rfl rfl rfl rfl rfl) cf_X12_after (mw_0 cy a2 mS0) rfl wm_L_90 wi_X12_after ws_X12_after dL_law_733 rfl (Nat.le_of_ble_eq_true rfl) ⟨by decide, by decide, by decide, by decide⟩) (fun r2 u2 p2 => ?_)
    obtain ⟨rfl, -⟩ := p2
    refine z_icmp_eq_t (tgt := 1091) B0 dL_law_736 (by decide) rfl ?_
    exact fin u1 u2
  · obtain rfl : x2 = 8 := Int32.toInt_inj.mp (h2.trans (by decide))
    refine z_aload_n B0 dL_law_708 rfl rfl ?_
    refine z_aload_n B0 dL_law_709 rfl rfl ?_
    refine z_iload_n B0 dL_law_710 rfl rfl ?_
    refine z_iconst (v := 1) B0 dL_law_711 (by decide) ?_
    refine z_iadd (v := 1) B0 dL_law_712 (by decide) ?_
    refine y_sld (j := 1) (v := 2) B0 hX hbl (by decide) e1.symm dL_law_713 ?_
    refine z_aload_n B0 dL_law_714 rfl rfl ?_
    refine z_iload_n B0 dL_law_715 rfl rfl ?_
    refine z_iconst (v := 2) B0 dL_law_716 (by decide) ?_
    refine z_iadd (v := 2) B0 dL_law_717 (by decide) ?_
    refine y_sld (j := 2) (v := 8) B0 hX hbl (by decide) e2.symm dL_law_718 ?_
    refine z_callC B0 (z_runV (q0 := 0) (As := [.int 2, .int 8]) (st := []) B0 (c_X11_after_121 (a := a) (cS0 w)  ) cf_X11_after (cw_0 cy tE a rw (cS0 w)) rfl wm_L_87 wi_X11_after ws_X11_after dL_law_719 rfl (Nat.le_of_ble_eq_true rfl) ⟨by decide, by decide, by decide, by decide⟩) (fun r1 u1 p1 => ?_)
    obtain ⟨rfl, -⟩ := p1
    refine z_aload_n B0 dL_law_722 rfl rfl ?_
    refine z_aload_n B0 dL_law_723 rfl rfl ?_
    refine z_iload_n B0 dL_law_724 rfl rfl ?_
    refine z_iconst (v := 1) B0 dL_law_725 (by decide) ?_
    refine z_iadd (v := 1) B0 dL_law_726 (by decide) ?_
    refine y_sld (j := 1) (v := 2) B0 hX hbl (by decide) e1.symm dL_law_727 ?_
    refine z_aload_n B0 dL_law_728 rfl rfl ?_
    refine z_iload_n B0 dL_law_729 rfl rfl ?_
    refine z_iconst (v := 2) B0 dL_law_730 (by decide) ?_
    refine z_iadd (v := 2) B0 dL_law_731 (by decide) ?_
    refine y_sld (j := 2) (v := 8) B0 hX hbl (by decide) e2.symm dL_law_732 ?_
    refine z_callM B0 (z_runV (q0 := 0) (As := [.int 2, .int 8]) (st := [.int (-1)]) B0 (c_X12_after_121 (a := a2) mS0  rfl rfl rfl rfl rfl rfl rfl rfl rfl rfl rfl rfl rfl rfl rfl rfl rfl rfl rfl rfl rfl rfl rfl rfl rfl rfl rfl) cf_X12_after (mw_0 cy a2 mS0) rfl wm_L_90 wi_X12_after ws_X12_after dL_law_733 rfl (Nat.le_of_ble_eq_true rfl) ⟨by decide, by decide, by decide, by decide⟩) (fun r2 u2 p2 => ?_)
    obtain ⟨rfl, -⟩ := p2
    refine z_icmp_eq_t (tgt := 1091) B0 dL_law_736 (by decide) rfl ?_
    exact fin u1 u2
  · obtain rfl : x2 = 9 := Int32.toInt_inj.mp (h2.trans (by decide))
    refine z_aload_n B0 dL_law_708 rfl rfl ?_
    refine z_aload_n B0 dL_law_709 rfl rfl ?_
    refine z_iload_n B0 dL_law_710 rfl rfl ?_
    refine z_iconst (v := 1) B0 dL_law_711 (by decide) ?_
    refine z_iadd (v := 1) B0 dL_law_712 (by decide) ?_
    refine y_sld (j := 1) (v := 2) B0 hX hbl (by decide) e1.symm dL_law_713 ?_
    refine z_aload_n B0 dL_law_714 rfl rfl ?_
    refine z_iload_n B0 dL_law_715 rfl rfl ?_
    refine z_iconst (v := 2) B0 dL_law_716 (by decide) ?_
    refine z_iadd (v := 2) B0 dL_law_717 (by decide) ?_
    refine y_sld (j := 2) (v := 9) B0 hX hbl (by decide) e2.symm dL_law_718 ?_
    refine z_callC B0 (z_runV (q0 := 0) (As := [.int 2, .int 9]) (st := []) B0 (c_X11_after_122 (a := a) (cS0 w)  ) cf_X11_after (cw_0 cy tE a rw (cS0 w)) rfl wm_L_87 wi_X11_after ws_X11_after dL_law_719 rfl (Nat.le_of_ble_eq_true rfl) ⟨by decide, by decide, by decide, by decide⟩) (fun r1 u1 p1 => ?_)
    obtain ⟨rfl, -⟩ := p1
    refine z_aload_n B0 dL_law_722 rfl rfl ?_
    refine z_aload_n B0 dL_law_723 rfl rfl ?_
    refine z_iload_n B0 dL_law_724 rfl rfl ?_
    refine z_iconst (v := 1) B0 dL_law_725 (by decide) ?_
    refine z_iadd (v := 1) B0 dL_law_726 (by decide) ?_
    refine y_sld (j := 1) (v := 2) B0 hX hbl (by decide) e1.symm dL_law_727 ?_
    refine z_aload_n B0 dL_law_728 rfl rfl ?_
    refine z_iload_n B0 dL_law_729 rfl rfl ?_
    refine z_iconst (v := 2) B0 dL_law_730 (by decide) ?_
    refine z_iadd (v := 2) B0 dL_law_731 (by decide) ?_
    refine y_sld (j := 2) (v := 9) B0 hX hbl (by decide) e2.symm dL_law_732 ?_
    refine z_callM B0 (z_runV (q0 := 0) (As := [.int 2, .int 9]) (st := [.int (-1)]) B0 (c_X12_after_122 (a := a2) mS0  rfl rfl rfl rfl rfl rfl rfl rfl rfl rfl rfl rfl rfl rfl rfl rfl rfl rfl rfl rfl rfl rfl rfl rfl rfl rfl rfl) cf_X12_after (mw_0 cy a2 mS0) rfl wm_L_90 wi_X12_after ws_X12_after dL_law_733 rfl (Nat.le_of_ble_eq_true rfl) ⟨by decide, by decide, by decide, by decide⟩) (fun r2 u2 p2 => ?_)
    obtain ⟨rfl, -⟩ := p2
    refine z_icmp_eq_t (tgt := 1091) B0 dL_law_736 (by decide) rfl ?_
    exact fin u1 u2
  · obtain rfl : x2 = 10 := Int32.toInt_inj.mp (h2.trans (by decide))
    refine z_aload_n B0 dL_law_708 rfl rfl ?_
    refine z_aload_n B0 dL_law_709 rfl rfl ?_
    refine z_iload_n B0 dL_law_710 rfl rfl ?_
    refine z_iconst (v := 1) B0 dL_law_711 (by decide) ?_
    refine z_iadd (v := 1) B0 dL_law_712 (by decide) ?_
    refine y_sld (j := 1) (v := 2) B0 hX hbl (by decide) e1.symm dL_law_713 ?_
    refine z_aload_n B0 dL_law_714 rfl rfl ?_
    refine z_iload_n B0 dL_law_715 rfl rfl ?_
    refine z_iconst (v := 2) B0 dL_law_716 (by decide) ?_
    refine z_iadd (v := 2) B0 dL_law_717 (by decide) ?_
    refine y_sld (j := 2) (v := 10) B0 hX hbl (by decide) e2.symm dL_law_718 ?_
    refine z_callC B0 (z_runV (q0 := 0) (As := [.int 2, .int 10]) (st := []) B0 (c_X11_after_123 (a := a) (cS0 w)  ) cf_X11_after (cw_0 cy tE a rw (cS0 w)) rfl wm_L_87 wi_X11_after ws_X11_after dL_law_719 rfl (Nat.le_of_ble_eq_true rfl) ⟨by decide, by decide, by decide, by decide⟩) (fun r1 u1 p1 => ?_)
    obtain ⟨rfl, -⟩ := p1
    refine z_aload_n B0 dL_law_722 rfl rfl ?_
    refine z_aload_n B0 dL_law_723 rfl rfl ?_
    refine z_iload_n B0 dL_law_724 rfl rfl ?_
    refine z_iconst (v := 1) B0 dL_law_725 (by decide) ?_
    refine z_iadd (v := 1) B0 dL_law_726 (by decide) ?_
    refine y_sld (j := 1) (v := 2) B0 hX hbl (by decide) e1.symm dL_law_727 ?_
    refine z_aload_n B0 dL_law_728 rfl rfl ?_
    refine z_iload_n B0 dL_law_729 rfl rfl ?_
    refine z_iconst (v := 2) B0 dL_law_730 (by decide) ?_
    refine z_iadd (v := 2) B0 dL_law_731 (by decide) ?_
    refine y_sld (j := 2) (v := 10) B0 hX hbl (by decide) e2.symm dL_law_732 ?_
    refine z_callM B0 (z_runV (q0 := 0) (As := [.int 2, .int 10]) (st := [.int (-1)]) B0 (c_X12_after_123 (a := a2) mS0  rfl rfl rfl rfl rfl rfl rfl rfl rfl rfl rfl rfl rfl rfl rfl rfl rfl rfl rfl rfl rfl rfl rfl rfl rfl rfl rfl) cf_X12_after (mw_0 cy a2 mS0) rfl wm_L_90 wi_X12_after ws_X12_after dL_law_733 rfl (Nat.le_of_ble_eq_true rfl) ⟨by decide, by decide, by decide, by decide⟩) (fun r2 u2 p2 => ?_)
    obtain ⟨rfl, -⟩ := p2
    refine z_icmp_eq_t (tgt := 1091) B0 dL_law_736 (by decide) rfl ?_
    exact fin u1 u2
  · obtain rfl : x2 = 11 := Int32.toInt_inj.mp (h2.trans (by decide))
    refine z_aload_n B0 dL_law_708 rfl rfl ?_
    refine z_aload_n B0 dL_law_709 rfl rfl ?_
    refine z_iload_n B0 dL_law_710 rfl rfl ?_
    refine z_iconst (v := 1) B0 dL_law_711 (by decide) ?_
    refine z_iadd (v := 1) B0 dL_law_712 (by decide) ?_
    refine y_sld (j := 1) (v := 2) B0 hX hbl (by decide) e1.symm dL_law_713 ?_
    refine z_aload_n B0 dL_law_714 rfl rfl ?_
    refine z_iload_n B0 dL_law_715 rfl rfl ?_
    refine z_iconst (v := 2) B0 dL_law_716 (by decide) ?_
    refine z_iadd (v := 2) B0 dL_law_717 (by decide) ?_
    refine y_sld (j := 2) (v := 11) B0 hX hbl (by decide) e2.symm dL_law_718 ?_
    refine z_callC B0 (z_runV (q0 := 0) (As := [.int 2, .int 11]) (st := []) B0 (c_X11_after_124 (a := a) (cS0 w)  rfl rfl rfl hrw) cf_X11_after (cw_0 cy tE a rw (cS0 w)) rfl wm_L_87 wi_X11_after ws_X11_after dL_law_719 rfl (Nat.le_of_ble_eq_true rfl) ⟨by decide, by decide, by decide, by decide⟩) (fun r1 u1 p1 => ?_)
    obtain ⟨rfl, -⟩ := p1
    refine z_aload_n B0 dL_law_722 rfl rfl ?_
    refine z_aload_n B0 dL_law_723 rfl rfl ?_
    refine z_iload_n B0 dL_law_724 rfl rfl ?_
    refine z_iconst (v := 1) B0 dL_law_725 (by decide) ?_
    refine z_iadd (v := 1) B0 dL_law_726 (by decide) ?_
    refine y_sld (j := 1) (v := 2) B0 hX hbl (by decide) e1.symm dL_law_727 ?_
    refine z_aload_n B0 dL_law_728 rfl rfl ?_
    refine z_iload_n B0 dL_law_729 rfl rfl ?_
    refine z_iconst (v := 2) B0 dL_law_730 (by decide) ?_
    refine z_iadd (v := 2) B0 dL_law_731 (by decide) ?_
    refine y_sld (j := 2) (v := 11) B0 hX hbl (by decide) e2.symm dL_law_732 ?_
    refine z_callM B0 (z_runV (q0 := 0) (As := [.int 2, .int 11]) (st := [.int 0]) B0 (c_X12_after_124 (a := a2) mS0  rfl rfl rfl rfl rfl rfl rfl rfl rfl rfl rfl rfl rfl rfl rfl rfl rfl rfl rfl rfl rfl rfl rfl rfl rfl rfl rfl) cf_X12_after (mw_0 cy a2 mS0) rfl wm_L_90 wi_X12_after ws_X12_after dL_law_733 rfl (Nat.le_of_ble_eq_true rfl) ⟨by decide, by decide, by decide, by decide⟩) (fun r2 u2 p2 => ?_)
    obtain ⟨rfl, -⟩ := p2
    refine z_icmp_eq_t (tgt := 1091) B0 dL_law_736 (by decide) rfl ?_
    exact fin u1 u2
  · obtain rfl : x2 = 12 := Int32.toInt_inj.mp (h2.trans (by decide))
    refine z_aload_n B0 dL_law_708 rfl rfl ?_
    refine z_aload_n B0 dL_law_709 rfl rfl ?_
    refine z_iload_n B0 dL_law_710 rfl rfl ?_
    refine z_iconst (v := 1) B0 dL_law_711 (by decide) ?_
    refine z_iadd (v := 1) B0 dL_law_712 (by decide) ?_
    refine y_sld (j := 1) (v := 2) B0 hX hbl (by decide) e1.symm dL_law_713 ?_
    refine z_aload_n B0 dL_law_714 rfl rfl ?_
    refine z_iload_n B0 dL_law_715 rfl rfl ?_
    refine z_iconst (v := 2) B0 dL_law_716 (by decide) ?_
    refine z_iadd (v := 2) B0 dL_law_717 (by decide) ?_
    refine y_sld (j := 2) (v := 12) B0 hX hbl (by decide) e2.symm dL_law_718 ?_
    refine z_callC B0 (z_runV (q0 := 0) (As := [.int 2, .int 12]) (st := []) B0 (c_X11_after_125 (a := a) (cS0 w)  rfl rfl rfl hrw) cf_X11_after (cw_0 cy tE a rw (cS0 w)) rfl wm_L_87 wi_X11_after ws_X11_after dL_law_719 rfl (Nat.le_of_ble_eq_true rfl) ⟨by decide, by decide, by decide, by decide⟩) (fun r1 u1 p1 => ?_)
    obtain ⟨rfl, -⟩ := p1
    refine z_aload_n B0 dL_law_722 rfl rfl ?_
    refine z_aload_n B0 dL_law_723 rfl rfl ?_
    refine z_iload_n B0 dL_law_724 rfl rfl ?_
    refine z_iconst (v := 1) B0 dL_law_725 (by decide) ?_
    refine z_iadd (v := 1) B0 dL_law_726 (by decide) ?_
    refine y_sld (j := 1) (v := 2) B0 hX hbl (by decide) e1.symm dL_law_727 ?_
    refine z_aload_n B0 dL_law_728 rfl rfl ?_
    refine z_iload_n B0 dL_law_729 rfl rfl ?_
    refine z_iconst (v := 2) B0 dL_law_730 (by decide) ?_
    refine z_iadd (v := 2) B0 dL_law_731 (by decide) ?_
    refine y_sld (j := 2) (v := 12) B0 hX hbl (by decide) e2.symm dL_law_732 ?_
    refine z_callM B0 (z_runV (q0 := 0) (As := [.int 2, .int 12]) (st := [.int 0]) B0 (c_X12_after_125 (a := a2) mS0  rfl rfl rfl rfl rfl rfl rfl rfl rfl rfl rfl rfl rfl rfl rfl rfl rfl rfl rfl rfl rfl rfl rfl rfl rfl rfl rfl) cf_X12_after (mw_0 cy a2 mS0) rfl wm_L_90 wi_X12_after ws_X12_after dL_law_733 rfl (Nat.le_of_ble_eq_true rfl) ⟨by decide, by decide, by decide, by decide⟩) (fun r2 u2 p2 => ?_)
    obtain ⟨rfl, -⟩ := p2
    refine z_icmp_eq_t (tgt := 1091) B0 dL_law_736 (by decide) rfl ?_
    exact fin u1 u2
  · obtain rfl : x2 = 13 := Int32.toInt_inj.mp (h2.trans (by decide))
    refine z_aload_n B0 dL_law_708 rfl rfl ?_
    refine z_aload_n B0 dL_law_709 rfl rfl ?_
    refine z_iload_n B0 dL_law_710 rfl rfl ?_
    refine z_iconst (v := 1) B0 dL_law_711 (by decide) ?_
    refine z_iadd (v := 1) B0 dL_law_712 (by decide) ?_
    refine y_sld (j := 1) (v := 2) B0 hX hbl (by decide) e1.symm dL_law_713 ?_
    refine z_aload_n B0 dL_law_714 rfl rfl ?_
    refine z_iload_n B0 dL_law_715 rfl rfl ?_
    refine z_iconst (v := 2) B0 dL_law_716 (by decide) ?_
    refine z_iadd (v := 2) B0 dL_law_717 (by decide) ?_
    refine y_sld (j := 2) (v := 13) B0 hX hbl (by decide) e2.symm dL_law_718 ?_
    refine z_callC B0 (z_runV (q0 := 0) (As := [.int 2, .int 13]) (st := []) B0 (c_X11_after_126 (a := a) (cS0 w)  rfl rfl rfl hrw) cf_X11_after (cw_0 cy tE a rw (cS0 w)) rfl wm_L_87 wi_X11_after ws_X11_after dL_law_719 rfl (Nat.le_of_ble_eq_true rfl) ⟨by decide, by decide, by decide, by decide⟩) (fun r1 u1 p1 => ?_)
    obtain ⟨rfl, -⟩ := p1
    refine z_aload_n B0 dL_law_722 rfl rfl ?_
    refine z_aload_n B0 dL_law_723 rfl rfl ?_
    refine z_iload_n B0 dL_law_724 rfl rfl ?_
    refine z_iconst (v := 1) B0 dL_law_725 (by decide) ?_
    refine z_iadd (v := 1) B0 dL_law_726 (by decide) ?_
    refine y_sld (j := 1) (v := 2) B0 hX hbl (by decide) e1.symm dL_law_727 ?_
    refine z_aload_n B0 dL_law_728 rfl rfl ?_
    refine z_iload_n B0 dL_law_729 rfl rfl ?_
    refine z_iconst (v := 2) B0 dL_law_730 (by decide) ?_
    refine z_iadd (v := 2) B0 dL_law_731 (by decide) ?_
    refine y_sld (j := 2) (v := 13) B0 hX hbl (by decide) e2.symm dL_law_732 ?_
    refine z_callM B0 (z_runV (q0 := 0) (As := [.int 2, .int 13]) (st := [.int 0]) B0 (c_X12_after_126 (a := a2) mS0  rfl rfl rfl rfl rfl rfl rfl rfl rfl rfl rfl rfl rfl rfl rfl rfl rfl rfl rfl rfl rfl rfl rfl rfl rfl rfl rfl) cf_X12_after (mw_0 cy a2 mS0) rfl wm_L_90 wi_X12_after ws_X12_after dL_law_733 rfl (Nat.le_of_ble_eq_true rfl) ⟨by decide, by decide, by decide, by decide⟩) (fun r2 u2 p2 => ?_)
    obtain ⟨rfl, -⟩ := p2
    refine z_icmp_eq_t (tgt := 1091) B0 dL_law_736 (by decide) rfl ?_
    exact fin u1 u2
  · obtain rfl : x2 = 14 := Int32.toInt_inj.mp (h2.trans (by decide))
    refine z_aload_n B0 dL_law_708 rfl rfl ?_
    refine z_aload_n B0 dL_law_709 rfl rfl ?_
    refine z_iload_n B0 dL_law_710 rfl rfl ?_
    refine z_iconst (v := 1) B0 dL_law_711 (by decide) ?_
    refine z_iadd (v := 1) B0 dL_law_712 (by decide) ?_
    refine y_sld (j := 1) (v := 2) B0 hX hbl (by decide) e1.symm dL_law_713 ?_
    refine z_aload_n B0 dL_law_714 rfl rfl ?_
    refine z_iload_n B0 dL_law_715 rfl rfl ?_
    refine z_iconst (v := 2) B0 dL_law_716 (by decide) ?_
    refine z_iadd (v := 2) B0 dL_law_717 (by decide) ?_
    refine y_sld (j := 2) (v := 14) B0 hX hbl (by decide) e2.symm dL_law_718 ?_
    refine z_callC B0 (z_runV (q0 := 0) (As := [.int 2, .int 14]) (st := []) B0 (c_X11_after_127 (a := a) (cS0 w)  ) cf_X11_after (cw_0 cy tE a rw (cS0 w)) rfl wm_L_87 wi_X11_after ws_X11_after dL_law_719 rfl (Nat.le_of_ble_eq_true rfl) ⟨by decide, by decide, by decide, by decide⟩) (fun r1 u1 p1 => ?_)
    obtain ⟨rfl, -⟩ := p1
    refine z_aload_n B0 dL_law_722 rfl rfl ?_
    refine z_aload_n B0 dL_law_723 rfl rfl ?_
    refine z_iload_n B0 dL_law_724 rfl rfl ?_
    refine z_iconst (v := 1) B0 dL_law_725 (by decide) ?_
    refine z_iadd (v := 1) B0 dL_law_726 (by decide) ?_
    refine y_sld (j := 1) (v := 2) B0 hX hbl (by decide) e1.symm dL_law_727 ?_
    refine z_aload_n B0 dL_law_728 rfl rfl ?_
    refine z_iload_n B0 dL_law_729 rfl rfl ?_
    refine z_iconst (v := 2) B0 dL_law_730 (by decide) ?_
    refine z_iadd (v := 2) B0 dL_law_731 (by decide) ?_
    refine y_sld (j := 2) (v := 14) B0 hX hbl (by decide) e2.symm dL_law_732 ?_
    refine z_callM B0 (z_runV (q0 := 0) (As := [.int 2, .int 14]) (st := [.int (-1)]) B0 (c_X12_after_127 (a := a2) mS0  rfl rfl rfl rfl rfl rfl rfl rfl rfl rfl rfl rfl rfl rfl rfl rfl rfl rfl rfl rfl rfl rfl rfl rfl rfl rfl rfl) cf_X12_after (mw_0 cy a2 mS0) rfl wm_L_90 wi_X12_after ws_X12_after dL_law_733 rfl (Nat.le_of_ble_eq_true rfl) ⟨by decide, by decide, by decide, by decide⟩) (fun r2 u2 p2 => ?_)
    obtain ⟨rfl, -⟩ := p2
    refine z_icmp_eq_t (tgt := 1091) B0 dL_law_736 (by decide) rfl ?_
    exact fin u1 u2
  · obtain rfl : x2 = 15 := Int32.toInt_inj.mp (h2.trans (by decide))
    refine z_aload_n B0 dL_law_708 rfl rfl ?_
    refine z_aload_n B0 dL_law_709 rfl rfl ?_
    refine z_iload_n B0 dL_law_710 rfl rfl ?_
    refine z_iconst (v := 1) B0 dL_law_711 (by decide) ?_
    refine z_iadd (v := 1) B0 dL_law_712 (by decide) ?_
    refine y_sld (j := 1) (v := 2) B0 hX hbl (by decide) e1.symm dL_law_713 ?_
    refine z_aload_n B0 dL_law_714 rfl rfl ?_
    refine z_iload_n B0 dL_law_715 rfl rfl ?_
    refine z_iconst (v := 2) B0 dL_law_716 (by decide) ?_
    refine z_iadd (v := 2) B0 dL_law_717 (by decide) ?_
    refine y_sld (j := 2) (v := 15) B0 hX hbl (by decide) e2.symm dL_law_718 ?_
    refine z_callC B0 (z_runV (q0 := 0) (As := [.int 2, .int 15]) (st := []) B0 (c_X11_after_128 (a := a) (cS0 w)  rfl rfl rfl hrw) cf_X11_after (cw_0 cy tE a rw (cS0 w)) rfl wm_L_87 wi_X11_after ws_X11_after dL_law_719 rfl (Nat.le_of_ble_eq_true rfl) ⟨by decide, by decide, by decide, by decide⟩) (fun r1 u1 p1 => ?_)
    obtain ⟨rfl, -⟩ := p1
    refine z_aload_n B0 dL_law_722 rfl rfl ?_
    refine z_aload_n B0 dL_law_723 rfl rfl ?_
    refine z_iload_n B0 dL_law_724 rfl rfl ?_
    refine z_iconst (v := 1) B0 dL_law_725 (by decide) ?_
    refine z_iadd (v := 1) B0 dL_law_726 (by decide) ?_
    refine y_sld (j := 1) (v := 2) B0 hX hbl (by decide) e1.symm dL_law_727 ?_
    refine z_aload_n B0 dL_law_728 rfl rfl ?_
    refine z_iload_n B0 dL_law_729 rfl rfl ?_
    refine z_iconst (v := 2) B0 dL_law_730 (by decide) ?_
    refine z_iadd (v := 2) B0 dL_law_731 (by decide) ?_
    refine y_sld (j := 2) (v := 15) B0 hX hbl (by decide) e2.symm dL_law_732 ?_
    refine z_callM B0 (z_runV (q0 := 0) (As := [.int 2, .int 15]) (st := [.int 0]) B0 (c_X12_after_128 (a := a2) mS0  rfl rfl rfl rfl rfl rfl rfl rfl rfl rfl rfl rfl rfl rfl rfl rfl rfl rfl rfl rfl rfl rfl rfl rfl rfl rfl rfl) cf_X12_after (mw_0 cy a2 mS0) rfl wm_L_90 wi_X12_after ws_X12_after dL_law_733 rfl (Nat.le_of_ble_eq_true rfl) ⟨by decide, by decide, by decide, by decide⟩) (fun r2 u2 p2 => ?_)
    obtain ⟨rfl, -⟩ := p2
    refine z_icmp_eq_t (tgt := 1091) B0 dL_law_736 (by decide) rfl ?_
    exact fin u1 u2
  · obtain rfl : x2 = 16 := Int32.toInt_inj.mp (h2.trans (by decide))
    refine z_aload_n B0 dL_law_708 rfl rfl ?_
    refine z_aload_n B0 dL_law_709 rfl rfl ?_
    refine z_iload_n B0 dL_law_710 rfl rfl ?_
    refine z_iconst (v := 1) B0 dL_law_711 (by decide) ?_
    refine z_iadd (v := 1) B0 dL_law_712 (by decide) ?_
    refine y_sld (j := 1) (v := 2) B0 hX hbl (by decide) e1.symm dL_law_713 ?_
    refine z_aload_n B0 dL_law_714 rfl rfl ?_
    refine z_iload_n B0 dL_law_715 rfl rfl ?_
    refine z_iconst (v := 2) B0 dL_law_716 (by decide) ?_
    refine z_iadd (v := 2) B0 dL_law_717 (by decide) ?_
    refine y_sld (j := 2) (v := 16) B0 hX hbl (by decide) e2.symm dL_law_718 ?_
    refine z_callC B0 (z_runV (q0 := 0) (As := [.int 2, .int 16]) (st := []) B0 (c_X11_after_129 (a := a) (cS0 w)  rfl rfl rfl hrw) cf_X11_after (cw_0 cy tE a rw (cS0 w)) rfl wm_L_87 wi_X11_after ws_X11_after dL_law_719 rfl (Nat.le_of_ble_eq_true rfl) ⟨by decide, by decide, by decide, by decide⟩) (fun r1 u1 p1 => ?_)
    obtain ⟨rfl, -⟩ := p1
    refine z_aload_n B0 dL_law_722 rfl rfl ?_
    refine z_aload_n B0 dL_law_723 rfl rfl ?_
    refine z_iload_n B0 dL_law_724 rfl rfl ?_
    refine z_iconst (v := 1) B0 dL_law_725 (by decide) ?_
    refine z_iadd (v := 1) B0 dL_law_726 (by decide) ?_
    refine y_sld (j := 1) (v := 2) B0 hX hbl (by decide) e1.symm dL_law_727 ?_
    refine z_aload_n B0 dL_law_728 rfl rfl ?_
    refine z_iload_n B0 dL_law_729 rfl rfl ?_
    refine z_iconst (v := 2) B0 dL_law_730 (by decide) ?_
    refine z_iadd (v := 2) B0 dL_law_731 (by decide) ?_
    refine y_sld (j := 2) (v := 16) B0 hX hbl (by decide) e2.symm dL_law_732 ?_
    refine z_callM B0 (z_runV (q0 := 0) (As := [.int 2, .int 16]) (st := [.int 0]) B0 (c_X12_after_129 (a := a2) mS0  rfl rfl rfl rfl rfl rfl rfl rfl rfl rfl rfl rfl rfl rfl rfl rfl rfl rfl rfl rfl rfl rfl rfl rfl rfl rfl rfl) cf_X12_after (mw_0 cy a2 mS0) rfl wm_L_90 wi_X12_after ws_X12_after dL_law_733 rfl (Nat.le_of_ble_eq_true rfl) ⟨by decide, by decide, by decide, by decide⟩) (fun r2 u2 p2 => ?_)
    obtain ⟨rfl, -⟩ := p2
    refine z_icmp_eq_t (tgt := 1091) B0 dL_law_736 (by decide) rfl ?_
    exact fin u1 u2
  · obtain rfl : x2 = 17 := Int32.toInt_inj.mp (h2.trans (by decide))
    refine z_aload_n B0 dL_law_708 rfl rfl ?_
    refine z_aload_n B0 dL_law_709 rfl rfl ?_
    refine z_iload_n B0 dL_law_710 rfl rfl ?_
    refine z_iconst (v := 1) B0 dL_law_711 (by decide) ?_
    refine z_iadd (v := 1) B0 dL_law_712 (by decide) ?_
    refine y_sld (j := 1) (v := 2) B0 hX hbl (by decide) e1.symm dL_law_713 ?_
    refine z_aload_n B0 dL_law_714 rfl rfl ?_
    refine z_iload_n B0 dL_law_715 rfl rfl ?_
    refine z_iconst (v := 2) B0 dL_law_716 (by decide) ?_
    refine z_iadd (v := 2) B0 dL_law_717 (by decide) ?_
    refine y_sld (j := 2) (v := 17) B0 hX hbl (by decide) e2.symm dL_law_718 ?_
    refine z_callC B0 (z_runV (q0 := 0) (As := [.int 2, .int 17]) (st := []) B0 (c_X11_after_130 (a := a) (cS0 w)  rfl rfl rfl hrw) cf_X11_after (cw_0 cy tE a rw (cS0 w)) rfl wm_L_87 wi_X11_after ws_X11_after dL_law_719 rfl (Nat.le_of_ble_eq_true rfl) ⟨by decide, by decide, by decide, by decide⟩) (fun r1 u1 p1 => ?_)
    obtain ⟨rfl, -⟩ := p1
    refine z_aload_n B0 dL_law_722 rfl rfl ?_
    refine z_aload_n B0 dL_law_723 rfl rfl ?_
    refine z_iload_n B0 dL_law_724 rfl rfl ?_
    refine z_iconst (v := 1) B0 dL_law_725 (by decide) ?_
    refine z_iadd (v := 1) B0 dL_law_726 (by decide) ?_
    refine y_sld (j := 1) (v := 2) B0 hX hbl (by decide) e1.symm dL_law_727 ?_
    refine z_aload_n B0 dL_law_728 rfl rfl ?_
    refine z_iload_n B0 dL_law_729 rfl rfl ?_
    refine z_iconst (v := 2) B0 dL_law_730 (by decide) ?_
    refine z_iadd (v := 2) B0 dL_law_731 (by decide) ?_
    refine y_sld (j := 2) (v := 17) B0 hX hbl (by decide) e2.symm dL_law_732 ?_
    refine z_callM B0 (z_runV (q0 := 0) (As := [.int 2, .int 17]) (st := [.int 0]) B0 (c_X12_after_130 (a := a2) mS0  rfl rfl rfl rfl rfl rfl rfl rfl rfl rfl rfl rfl rfl rfl rfl rfl rfl rfl rfl rfl rfl rfl rfl rfl rfl rfl rfl) cf_X12_after (mw_0 cy a2 mS0) rfl wm_L_90 wi_X12_after ws_X12_after dL_law_733 rfl (Nat.le_of_ble_eq_true rfl) ⟨by decide, by decide, by decide, by decide⟩) (fun r2 u2 p2 => ?_)
    obtain ⟨rfl, -⟩ := p2
    refine z_icmp_eq_t (tgt := 1091) B0 dL_law_736 (by decide) rfl ?_
    exact fin u1 u2
  · obtain rfl : x2 = 18 := Int32.toInt_inj.mp (h2.trans (by decide))
    refine z_aload_n B0 dL_law_708 rfl rfl ?_
    refine z_aload_n B0 dL_law_709 rfl rfl ?_
    refine z_iload_n B0 dL_law_710 rfl rfl ?_
    refine z_iconst (v := 1) B0 dL_law_711 (by decide) ?_
    refine z_iadd (v := 1) B0 dL_law_712 (by decide) ?_
    refine y_sld (j := 1) (v := 2) B0 hX hbl (by decide) e1.symm dL_law_713 ?_
    refine z_aload_n B0 dL_law_714 rfl rfl ?_
    refine z_iload_n B0 dL_law_715 rfl rfl ?_
    refine z_iconst (v := 2) B0 dL_law_716 (by decide) ?_
    refine z_iadd (v := 2) B0 dL_law_717 (by decide) ?_
    refine y_sld (j := 2) (v := 18) B0 hX hbl (by decide) e2.symm dL_law_718 ?_
    refine z_callC B0 (z_runV (q0 := 0) (As := [.int 2, .int 18]) (st := []) B0 (c_X11_after_131 (a := a) (cS0 w)  ) cf_X11_after (cw_0 cy tE a rw (cS0 w)) rfl wm_L_87 wi_X11_after ws_X11_after dL_law_719 rfl (Nat.le_of_ble_eq_true rfl) ⟨by decide, by decide, by decide, by decide⟩) (fun r1 u1 p1 => ?_)
    obtain ⟨rfl, -⟩ := p1
    refine z_aload_n B0 dL_law_722 rfl rfl ?_
    refine z_aload_n B0 dL_law_723 rfl rfl ?_
    refine z_iload_n B0 dL_law_724 rfl rfl ?_
    refine z_iconst (v := 1) B0 dL_law_725 (by decide) ?_
    refine z_iadd (v := 1) B0 dL_law_726 (by decide) ?_
    refine y_sld (j := 1) (v := 2) B0 hX hbl (by decide) e1.symm dL_law_727 ?_
    refine z_aload_n B0 dL_law_728 rfl rfl ?_
    refine z_iload_n B0 dL_law_729 rfl rfl ?_
    refine z_iconst (v := 2) B0 dL_law_730 (by decide) ?_
    refine z_iadd (v := 2) B0 dL_law_731 (by decide) ?_
    refine y_sld (j := 2) (v := 18) B0 hX hbl (by decide) e2.symm dL_law_732 ?_
    refine z_callM B0 (z_runV (q0 := 0) (As := [.int 2, .int 18]) (st := [.int (-1)]) B0 (c_X12_after_131 (a := a2) mS0  rfl rfl rfl rfl rfl rfl rfl rfl rfl rfl rfl rfl rfl rfl rfl rfl rfl rfl rfl rfl rfl rfl rfl rfl rfl rfl rfl) cf_X12_after (mw_0 cy a2 mS0) rfl wm_L_90 wi_X12_after ws_X12_after dL_law_733 rfl (Nat.le_of_ble_eq_true rfl) ⟨by decide, by decide, by decide, by decide⟩) (fun r2 u2 p2 => ?_)
    obtain ⟨rfl, -⟩ := p2
    refine z_icmp_eq_t (tgt := 1091) B0 dL_law_736 (by decide) rfl ?_
    exact fin u1 u2
  · obtain rfl : x2 = 19 := Int32.toInt_inj.mp (h2.trans (by decide))
    refine z_aload_n B0 dL_law_708 rfl rfl ?_
    refine z_aload_n B0 dL_law_709 rfl rfl ?_
    refine z_iload_n B0 dL_law_710 rfl rfl ?_
    refine z_iconst (v := 1) B0 dL_law_711 (by decide) ?_
    refine z_iadd (v := 1) B0 dL_law_712 (by decide) ?_
    refine y_sld (j := 1) (v := 2) B0 hX hbl (by decide) e1.symm dL_law_713 ?_
    refine z_aload_n B0 dL_law_714 rfl rfl ?_
    refine z_iload_n B0 dL_law_715 rfl rfl ?_
    refine z_iconst (v := 2) B0 dL_law_716 (by decide) ?_
    refine z_iadd (v := 2) B0 dL_law_717 (by decide) ?_
    refine y_sld (j := 2) (v := 19) B0 hX hbl (by decide) e2.symm dL_law_718 ?_
    refine z_callC B0 (z_runV (q0 := 0) (As := [.int 2, .int 19]) (st := []) B0 (c_X11_after_132 (a := a) (cS0 w)  ) cf_X11_after (cw_0 cy tE a rw (cS0 w)) rfl wm_L_87 wi_X11_after ws_X11_after dL_law_719 rfl (Nat.le_of_ble_eq_true rfl) ⟨by decide, by decide, by decide, by decide⟩) (fun r1 u1 p1 => ?_)
    obtain ⟨rfl, -⟩ := p1
    refine z_aload_n B0 dL_law_722 rfl rfl ?_
    refine z_aload_n B0 dL_law_723 rfl rfl ?_
    refine z_iload_n B0 dL_law_724 rfl rfl ?_
    refine z_iconst (v := 1) B0 dL_law_725 (by decide) ?_
    refine z_iadd (v := 1) B0 dL_law_726 (by decide) ?_
    refine y_sld (j := 1) (v := 2) B0 hX hbl (by decide) e1.symm dL_law_727 ?_
    refine z_aload_n B0 dL_law_728 rfl rfl ?_
    refine z_iload_n B0 dL_law_729 rfl rfl ?_
    refine z_iconst (v := 2) B0 dL_law_730 (by decide) ?_
    refine z_iadd (v := 2) B0 dL_law_731 (by decide) ?_
    refine y_sld (j := 2) (v := 19) B0 hX hbl (by decide) e2.symm dL_law_732 ?_
    refine z_callM B0 (z_runV (q0 := 0) (As := [.int 2, .int 19]) (st := [.int (-1)]) B0 (c_X12_after_132 (a := a2) mS0  rfl rfl rfl rfl rfl rfl rfl rfl rfl rfl rfl rfl rfl rfl rfl rfl rfl rfl rfl rfl rfl rfl rfl rfl rfl rfl rfl) cf_X12_after (mw_0 cy a2 mS0) rfl wm_L_90 wi_X12_after ws_X12_after dL_law_733 rfl (Nat.le_of_ble_eq_true rfl) ⟨by decide, by decide, by decide, by decide⟩) (fun r2 u2 p2 => ?_)
    obtain ⟨rfl, -⟩ := p2
    refine z_icmp_eq_t (tgt := 1091) B0 dL_law_736 (by decide) rfl ?_
    exact fin u1 u2
  · obtain rfl : x2 = 20 := Int32.toInt_inj.mp (h2.trans (by decide))
    refine z_aload_n B0 dL_law_708 rfl rfl ?_
    refine z_aload_n B0 dL_law_709 rfl rfl ?_
    refine z_iload_n B0 dL_law_710 rfl rfl ?_
    refine z_iconst (v := 1) B0 dL_law_711 (by decide) ?_
    refine z_iadd (v := 1) B0 dL_law_712 (by decide) ?_
    refine y_sld (j := 1) (v := 2) B0 hX hbl (by decide) e1.symm dL_law_713 ?_
    refine z_aload_n B0 dL_law_714 rfl rfl ?_
    refine z_iload_n B0 dL_law_715 rfl rfl ?_
    refine z_iconst (v := 2) B0 dL_law_716 (by decide) ?_
    refine z_iadd (v := 2) B0 dL_law_717 (by decide) ?_
    refine y_sld (j := 2) (v := 20) B0 hX hbl (by decide) e2.symm dL_law_718 ?_
    refine z_callC B0 (z_runV (q0 := 0) (As := [.int 2, .int 20]) (st := []) B0 (c_X11_after_133 (a := a) (cS0 w)  ) cf_X11_after (cw_0 cy tE a rw (cS0 w)) rfl wm_L_87 wi_X11_after ws_X11_after dL_law_719 rfl (Nat.le_of_ble_eq_true rfl) ⟨by decide, by decide, by decide, by decide⟩) (fun r1 u1 p1 => ?_)
    obtain ⟨rfl, -⟩ := p1
    refine z_aload_n B0 dL_law_722 rfl rfl ?_
    refine z_aload_n B0 dL_law_723 rfl rfl ?_
    refine z_iload_n B0 dL_law_724 rfl rfl ?_
    refine z_iconst (v := 1) B0 dL_law_725 (by decide) ?_
    refine z_iadd (v := 1) B0 dL_law_726 (by decide) ?_
    refine y_sld (j := 1) (v := 2) B0 hX hbl (by decide) e1.symm dL_law_727 ?_
    refine z_aload_n B0 dL_law_728 rfl rfl ?_
    refine z_iload_n B0 dL_law_729 rfl rfl ?_
    refine z_iconst (v := 2) B0 dL_law_730 (by decide) ?_
    refine z_iadd (v := 2) B0 dL_law_731 (by decide) ?_
    refine y_sld (j := 2) (v := 20) B0 hX hbl (by decide) e2.symm dL_law_732 ?_
    refine z_callM B0 (z_runV (q0 := 0) (As := [.int 2, .int 20]) (st := [.int (-1)]) B0 (c_X12_after_133 (a := a2) mS0  rfl rfl rfl rfl rfl rfl rfl rfl rfl rfl rfl rfl rfl rfl rfl rfl rfl rfl rfl rfl rfl rfl rfl rfl rfl rfl rfl) cf_X12_after (mw_0 cy a2 mS0) rfl wm_L_90 wi_X12_after ws_X12_after dL_law_733 rfl (Nat.le_of_ble_eq_true rfl) ⟨by decide, by decide, by decide, by decide⟩) (fun r2 u2 p2 => ?_)
    obtain ⟨rfl, -⟩ := p2
    refine z_icmp_eq_t (tgt := 1091) B0 dL_law_736 (by decide) rfl ?_
    exact fin u1 u2
  · obtain rfl : x2 = 21 := Int32.toInt_inj.mp (h2.trans (by decide))
    refine z_aload_n B0 dL_law_708 rfl rfl ?_
    refine z_aload_n B0 dL_law_709 rfl rfl ?_
    refine z_iload_n B0 dL_law_710 rfl rfl ?_
    refine z_iconst (v := 1) B0 dL_law_711 (by decide) ?_
    refine z_iadd (v := 1) B0 dL_law_712 (by decide) ?_
    refine y_sld (j := 1) (v := 2) B0 hX hbl (by decide) e1.symm dL_law_713 ?_
    refine z_aload_n B0 dL_law_714 rfl rfl ?_
    refine z_iload_n B0 dL_law_715 rfl rfl ?_
    refine z_iconst (v := 2) B0 dL_law_716 (by decide) ?_
    refine z_iadd (v := 2) B0 dL_law_717 (by decide) ?_
    refine y_sld (j := 2) (v := 21) B0 hX hbl (by decide) e2.symm dL_law_718 ?_
    refine z_callC B0 (z_runV (q0 := 0) (As := [.int 2, .int 21]) (st := []) B0 (c_X11_after_134 (a := a) (cS0 w)  rfl rfl rfl hrw) cf_X11_after (cw_0 cy tE a rw (cS0 w)) rfl wm_L_87 wi_X11_after ws_X11_after dL_law_719 rfl (Nat.le_of_ble_eq_true rfl) ⟨by decide, by decide, by decide, by decide⟩) (fun r1 u1 p1 => ?_)
    obtain ⟨rfl, -⟩ := p1
    refine z_aload_n B0 dL_law_722 rfl rfl ?_
    refine z_aload_n B0 dL_law_723 rfl rfl ?_
    refine z_iload_n B0 dL_law_724 rfl rfl ?_
    refine z_iconst (v := 1) B0 dL_law_725 (by decide) ?_
    refine z_iadd (v := 1) B0 dL_law_726 (by decide) ?_
    refine y_sld (j := 1) (v := 2) B0 hX hbl (by decide) e1.symm dL_law_727 ?_
    refine z_aload_n B0 dL_law_728 rfl rfl ?_
    refine z_iload_n B0 dL_law_729 rfl rfl ?_
    refine z_iconst (v := 2) B0 dL_law_730 (by decide) ?_
    refine z_iadd (v := 2) B0 dL_law_731 (by decide) ?_
    refine y_sld (j := 2) (v := 21) B0 hX hbl (by decide) e2.symm dL_law_732 ?_
    refine z_callM B0 (z_runV (q0 := 0) (As := [.int 2, .int 21]) (st := [.int 0]) B0 (c_X12_after_134 (a := a2) mS0  rfl rfl rfl rfl rfl rfl rfl rfl rfl rfl rfl rfl rfl rfl rfl rfl rfl rfl rfl rfl rfl rfl rfl rfl rfl rfl rfl) cf_X12_after (mw_0 cy a2 mS0) rfl wm_L_90 wi_X12_after ws_X12_after dL_law_733 rfl (Nat.le_of_ble_eq_true rfl) ⟨by decide, by decide, by decide, by decide⟩) (fun r2 u2 p2 => ?_)
    obtain ⟨rfl, -⟩ := p2
    refine z_icmp_eq_t (tgt := 1091) B0 dL_law_736 (by decide) rfl ?_
    exact fin u1 u2
  · obtain rfl : x2 = 22 := Int32.toInt_inj.mp (h2.trans (by decide))
    refine z_aload_n B0 dL_law_708 rfl rfl ?_
    refine z_aload_n B0 dL_law_709 rfl rfl ?_
    refine z_iload_n B0 dL_law_710 rfl rfl ?_
    refine z_iconst (v := 1) B0 dL_law_711 (by decide) ?_
    refine z_iadd (v := 1) B0 dL_law_712 (by decide) ?_
    refine y_sld (j := 1) (v := 2) B0 hX hbl (by decide) e1.symm dL_law_713 ?_
    refine z_aload_n B0 dL_law_714 rfl rfl ?_
    refine z_iload_n B0 dL_law_715 rfl rfl ?_
    refine z_iconst (v := 2) B0 dL_law_716 (by decide) ?_
    refine z_iadd (v := 2) B0 dL_law_717 (by decide) ?_
    refine y_sld (j := 2) (v := 22) B0 hX hbl (by decide) e2.symm dL_law_718 ?_
    refine z_callC B0 (z_runV (q0 := 0) (As := [.int 2, .int 22]) (st := []) B0 (c_X11_after_135 (a := a) (cS0 w)  rfl rfl rfl hrw) cf_X11_after (cw_0 cy tE a rw (cS0 w)) rfl wm_L_87 wi_X11_after ws_X11_after dL_law_719 rfl (Nat.le_of_ble_eq_true rfl) ⟨by decide, by decide, by decide, by decide⟩) (fun r1 u1 p1 => ?_)
    obtain ⟨rfl, -⟩ := p1
    refine z_aload_n B0 dL_law_722 rfl rfl ?_
    refine z_aload_n B0 dL_law_723 rfl rfl ?_
    refine z_iload_n B0 dL_law_724 rfl rfl ?_
    refine z_iconst (v := 1) B0 dL_law_725 (by decide) ?_
    refine z_iadd (v := 1) B0 dL_law_726 (by decide) ?_
    refine y_sld (j := 1) (v := 2) B0 hX hbl (by decide) e1.symm dL_law_727 ?_
    refine z_aload_n B0 dL_law_728 rfl rfl ?_
    refine z_iload_n B0 dL_law_729 rfl rfl ?_
    refine z_iconst (v := 2) B0 dL_law_730 (by decide) ?_
    refine z_iadd (v := 2) B0 dL_law_731 (by decide) ?_
    refine y_sld (j := 2) (v := 22) B0 hX hbl (by decide) e2.symm dL_law_732 ?_
    refine z_callM B0 (z_runV (q0 := 0) (As := [.int 2, .int 22]) (st := [.int 0]) B0 (c_X12_after_135 (a := a2) mS0  rfl rfl rfl rfl rfl rfl rfl rfl rfl rfl rfl rfl rfl rfl rfl rfl rfl rfl rfl rfl rfl rfl rfl rfl rfl rfl rfl) cf_X12_after (mw_0 cy a2 mS0) rfl wm_L_90 wi_X12_after ws_X12_after dL_law_733 rfl (Nat.le_of_ble_eq_true rfl) ⟨by decide, by decide, by decide, by decide⟩) (fun r2 u2 p2 => ?_)
    obtain ⟨rfl, -⟩ := p2
    refine z_icmp_eq_t (tgt := 1091) B0 dL_law_736 (by decide) rfl ?_
    exact fin u1 u2
  · obtain rfl : x2 = 23 := Int32.toInt_inj.mp (h2.trans (by decide))
    refine z_aload_n B0 dL_law_708 rfl rfl ?_
    refine z_aload_n B0 dL_law_709 rfl rfl ?_
    refine z_iload_n B0 dL_law_710 rfl rfl ?_
    refine z_iconst (v := 1) B0 dL_law_711 (by decide) ?_
    refine z_iadd (v := 1) B0 dL_law_712 (by decide) ?_
    refine y_sld (j := 1) (v := 2) B0 hX hbl (by decide) e1.symm dL_law_713 ?_
    refine z_aload_n B0 dL_law_714 rfl rfl ?_
    refine z_iload_n B0 dL_law_715 rfl rfl ?_
    refine z_iconst (v := 2) B0 dL_law_716 (by decide) ?_
    refine z_iadd (v := 2) B0 dL_law_717 (by decide) ?_
    refine y_sld (j := 2) (v := 23) B0 hX hbl (by decide) e2.symm dL_law_718 ?_
    refine z_callC B0 (z_runV (q0 := 0) (As := [.int 2, .int 23]) (st := []) B0 (c_X11_after_136 (a := a) (cS0 w)  rfl rfl rfl hrw) cf_X11_after (cw_0 cy tE a rw (cS0 w)) rfl wm_L_87 wi_X11_after ws_X11_after dL_law_719 rfl (Nat.le_of_ble_eq_true rfl) ⟨by decide, by decide, by decide, by decide⟩) (fun r1 u1 p1 => ?_)
    obtain ⟨rfl, -⟩ := p1
    refine z_aload_n B0 dL_law_722 rfl rfl ?_
    refine z_aload_n B0 dL_law_723 rfl rfl ?_
    refine z_iload_n B0 dL_law_724 rfl rfl ?_
    refine z_iconst (v := 1) B0 dL_law_725 (by decide) ?_
    refine z_iadd (v := 1) B0 dL_law_726 (by decide) ?_
    refine y_sld (j := 1) (v := 2) B0 hX hbl (by decide) e1.symm dL_law_727 ?_
    refine z_aload_n B0 dL_law_728 rfl rfl ?_
    refine z_iload_n B0 dL_law_729 rfl rfl ?_
    refine z_iconst (v := 2) B0 dL_law_730 (by decide) ?_
    refine z_iadd (v := 2) B0 dL_law_731 (by decide) ?_
    refine y_sld (j := 2) (v := 23) B0 hX hbl (by decide) e2.symm dL_law_732 ?_
    refine z_callM B0 (z_runV (q0 := 0) (As := [.int 2, .int 23]) (st := [.int 0]) B0 (c_X12_after_136 (a := a2) mS0  rfl rfl rfl rfl rfl rfl rfl rfl rfl rfl rfl rfl rfl rfl rfl rfl rfl rfl rfl rfl rfl rfl rfl rfl rfl rfl rfl) cf_X12_after (mw_0 cy a2 mS0) rfl wm_L_90 wi_X12_after ws_X12_after dL_law_733 rfl (Nat.le_of_ble_eq_true rfl) ⟨by decide, by decide, by decide, by decide⟩) (fun r2 u2 p2 => ?_)
    obtain ⟨rfl, -⟩ := p2
    refine z_icmp_eq_t (tgt := 1091) B0 dL_law_736 (by decide) rfl ?_
    exact fin u1 u2
  · obtain rfl : x2 = 24 := Int32.toInt_inj.mp (h2.trans (by decide))
    refine z_aload_n B0 dL_law_708 rfl rfl ?_
    refine z_aload_n B0 dL_law_709 rfl rfl ?_
    refine z_iload_n B0 dL_law_710 rfl rfl ?_
    refine z_iconst (v := 1) B0 dL_law_711 (by decide) ?_
    refine z_iadd (v := 1) B0 dL_law_712 (by decide) ?_
    refine y_sld (j := 1) (v := 2) B0 hX hbl (by decide) e1.symm dL_law_713 ?_
    refine z_aload_n B0 dL_law_714 rfl rfl ?_
    refine z_iload_n B0 dL_law_715 rfl rfl ?_
    refine z_iconst (v := 2) B0 dL_law_716 (by decide) ?_
    refine z_iadd (v := 2) B0 dL_law_717 (by decide) ?_
    refine y_sld (j := 2) (v := 24) B0 hX hbl (by decide) e2.symm dL_law_718 ?_
    refine z_callC B0 (z_runV (q0 := 0) (As := [.int 2, .int 24]) (st := []) B0 (c_X11_after_137 (a := a) (cS0 w)  ) cf_X11_after (cw_0 cy tE a rw (cS0 w)) rfl wm_L_87 wi_X11_after ws_X11_after dL_law_719 rfl (Nat.le_of_ble_eq_true rfl) ⟨by decide, by decide, by decide, by decide⟩) (fun r1 u1 p1 => ?_)
    obtain ⟨rfl, -⟩ := p1
    refine z_aload_n B0 dL_law_722 rfl rfl ?_
    refine z_aload_n B0 dL_law_723 rfl rfl ?_
    refine z_iload_n B0 dL_law_724 rfl rfl ?_
    refine z_iconst (v := 1) B0 dL_law_725 (by decide) ?_
    refine z_iadd (v := 1) B0 dL_law_726 (by decide) ?_
    refine y_sld (j := 1) (v := 2) B0 hX hbl (by decide) e1.symm dL_law_727 ?_
    refine z_aload_n B0 dL_law_728 rfl rfl ?_
    refine z_iload_n B0 dL_law_729 rfl rfl ?_
    refine z_iconst (v := 2) B0 dL_law_730 (by decide) ?_
    refine z_iadd (v := 2) B0 dL_law_731 (by decide) ?_
    refine y_sld (j := 2) (v := 24) B0 hX hbl (by decide) e2.symm dL_law_732 ?_
    refine z_callM B0 (z_runV (q0 := 0) (As := [.int 2, .int 24]) (st := [.int (-1)]) B0 (c_X12_after_137 (a := a2) mS0  rfl rfl rfl rfl rfl rfl rfl rfl rfl rfl rfl rfl rfl rfl rfl rfl rfl rfl rfl rfl rfl rfl rfl rfl rfl rfl rfl) cf_X12_after (mw_0 cy a2 mS0) rfl wm_L_90 wi_X12_after ws_X12_after dL_law_733 rfl (Nat.le_of_ble_eq_true rfl) ⟨by decide, by decide, by decide, by decide⟩) (fun r2 u2 p2 => ?_)
    obtain ⟨rfl, -⟩ := p2
    refine z_icmp_eq_t (tgt := 1091) B0 dL_law_736 (by decide) rfl ?_
    exact fin u1 u2
  · obtain rfl : x2 = 25 := Int32.toInt_inj.mp (h2.trans (by decide))
    refine z_aload_n B0 dL_law_708 rfl rfl ?_
    refine z_aload_n B0 dL_law_709 rfl rfl ?_
    refine z_iload_n B0 dL_law_710 rfl rfl ?_
    refine z_iconst (v := 1) B0 dL_law_711 (by decide) ?_
    refine z_iadd (v := 1) B0 dL_law_712 (by decide) ?_
    refine y_sld (j := 1) (v := 2) B0 hX hbl (by decide) e1.symm dL_law_713 ?_
    refine z_aload_n B0 dL_law_714 rfl rfl ?_
    refine z_iload_n B0 dL_law_715 rfl rfl ?_
    refine z_iconst (v := 2) B0 dL_law_716 (by decide) ?_
    refine z_iadd (v := 2) B0 dL_law_717 (by decide) ?_
    refine y_sld (j := 2) (v := 25) B0 hX hbl (by decide) e2.symm dL_law_718 ?_
    refine z_callC B0 (z_runV (q0 := 0) (As := [.int 2, .int 25]) (st := []) B0 (c_X11_after_138 (a := a) (cS0 w)  rfl rfl rfl hrw) cf_X11_after (cw_0 cy tE a rw (cS0 w)) rfl wm_L_87 wi_X11_after ws_X11_after dL_law_719 rfl (Nat.le_of_ble_eq_true rfl) ⟨by decide, by decide, by decide, by decide⟩) (fun r1 u1 p1 => ?_)
    obtain ⟨rfl, -⟩ := p1
    refine z_aload_n B0 dL_law_722 rfl rfl ?_
    refine z_aload_n B0 dL_law_723 rfl rfl ?_
    refine z_iload_n B0 dL_law_724 rfl rfl ?_
    refine z_iconst (v := 1) B0 dL_law_725 (by decide) ?_
    refine z_iadd (v := 1) B0 dL_law_726 (by decide) ?_
    refine y_sld (j := 1) (v := 2) B0 hX hbl (by decide) e1.symm dL_law_727 ?_
    refine z_aload_n B0 dL_law_728 rfl rfl ?_
    refine z_iload_n B0 dL_law_729 rfl rfl ?_
    refine z_iconst (v := 2) B0 dL_law_730 (by decide) ?_
    refine z_iadd (v := 2) B0 dL_law_731 (by decide) ?_
    refine y_sld (j := 2) (v := 25) B0 hX hbl (by decide) e2.symm dL_law_732 ?_
    refine z_callM B0 (z_runV (q0 := 0) (As := [.int 2, .int 25]) (st := [.int 0]) B0 (c_X12_after_138 (a := a2) mS0  rfl rfl rfl rfl rfl rfl rfl rfl rfl rfl rfl rfl rfl rfl rfl rfl rfl rfl rfl rfl rfl rfl rfl rfl rfl rfl rfl) cf_X12_after (mw_0 cy a2 mS0) rfl wm_L_90 wi_X12_after ws_X12_after dL_law_733 rfl (Nat.le_of_ble_eq_true rfl) ⟨by decide, by decide, by decide, by decide⟩) (fun r2 u2 p2 => ?_)
    obtain ⟨rfl, -⟩ := p2
    refine z_icmp_eq_t (tgt := 1091) B0 dL_law_736 (by decide) rfl ?_
    exact fin u1 u2
  · obtain rfl : x2 = 26 := Int32.toInt_inj.mp (h2.trans (by decide))
    refine z_aload_n B0 dL_law_708 rfl rfl ?_
    refine z_aload_n B0 dL_law_709 rfl rfl ?_
    refine z_iload_n B0 dL_law_710 rfl rfl ?_
    refine z_iconst (v := 1) B0 dL_law_711 (by decide) ?_
    refine z_iadd (v := 1) B0 dL_law_712 (by decide) ?_
    refine y_sld (j := 1) (v := 2) B0 hX hbl (by decide) e1.symm dL_law_713 ?_
    refine z_aload_n B0 dL_law_714 rfl rfl ?_
    refine z_iload_n B0 dL_law_715 rfl rfl ?_
    refine z_iconst (v := 2) B0 dL_law_716 (by decide) ?_
    refine z_iadd (v := 2) B0 dL_law_717 (by decide) ?_
    refine y_sld (j := 2) (v := 26) B0 hX hbl (by decide) e2.symm dL_law_718 ?_
    refine z_callC B0 (z_runV (q0 := 0) (As := [.int 2, .int 26]) (st := []) B0 (c_X11_after_139 (a := a) (cS0 w)  rfl rfl rfl hrw) cf_X11_after (cw_0 cy tE a rw (cS0 w)) rfl wm_L_87 wi_X11_after ws_X11_after dL_law_719 rfl (Nat.le_of_ble_eq_true rfl) ⟨by decide, by decide, by decide, by decide⟩) (fun r1 u1 p1 => ?_)
    obtain ⟨rfl, -⟩ := p1
    refine z_aload_n B0 dL_law_722 rfl rfl ?_
    refine z_aload_n B0 dL_law_723 rfl rfl ?_
    refine z_iload_n B0 dL_law_724 rfl rfl ?_
    refine z_iconst (v := 1) B0 dL_law_725 (by decide) ?_
    refine z_iadd (v := 1) B0 dL_law_726 (by decide) ?_
    refine y_sld (j := 1) (v := 2) B0 hX hbl (by decide) e1.symm dL_law_727 ?_
    refine z_aload_n B0 dL_law_728 rfl rfl ?_
    refine z_iload_n B0 dL_law_729 rfl rfl ?_
    refine z_iconst (v := 2) B0 dL_law_730 (by decide) ?_
    refine z_iadd (v := 2) B0 dL_law_731 (by decide) ?_
    refine y_sld (j := 2) (v := 26) B0 hX hbl (by decide) e2.symm dL_law_732 ?_
    refine z_callM B0 (z_runV (q0 := 0) (As := [.int 2, .int 26]) (st := [.int 0]) B0 (c_X12_after_139 (a := a2) mS0  rfl rfl rfl rfl rfl rfl rfl rfl rfl rfl rfl rfl rfl rfl rfl rfl rfl rfl rfl rfl rfl rfl rfl rfl rfl rfl rfl) cf_X12_after (mw_0 cy a2 mS0) rfl wm_L_90 wi_X12_after ws_X12_after dL_law_733 rfl (Nat.le_of_ble_eq_true rfl) ⟨by decide, by decide, by decide, by decide⟩) (fun r2 u2 p2 => ?_)
    obtain ⟨rfl, -⟩ := p2
    refine z_icmp_eq_t (tgt := 1091) B0 dL_law_736 (by decide) rfl ?_
    exact fin u1 u2
  · obtain rfl : x2 = 27 := Int32.toInt_inj.mp (h2.trans (by decide))
    refine z_aload_n B0 dL_law_708 rfl rfl ?_
    refine z_aload_n B0 dL_law_709 rfl rfl ?_
    refine z_iload_n B0 dL_law_710 rfl rfl ?_
    refine z_iconst (v := 1) B0 dL_law_711 (by decide) ?_
    refine z_iadd (v := 1) B0 dL_law_712 (by decide) ?_
    refine y_sld (j := 1) (v := 2) B0 hX hbl (by decide) e1.symm dL_law_713 ?_
    refine z_aload_n B0 dL_law_714 rfl rfl ?_
    refine z_iload_n B0 dL_law_715 rfl rfl ?_
    refine z_iconst (v := 2) B0 dL_law_716 (by decide) ?_
    refine z_iadd (v := 2) B0 dL_law_717 (by decide) ?_
    refine y_sld (j := 2) (v := 27) B0 hX hbl (by decide) e2.symm dL_law_718 ?_
    refine z_callC B0 (z_runV (q0 := 0) (As := [.int 2, .int 27]) (st := []) B0 (c_X11_after_140 (a := a) (cS0 w)  rfl rfl rfl hrw) cf_X11_after (cw_0 cy tE a rw (cS0 w)) rfl wm_L_87 wi_X11_after ws_X11_after dL_law_719 rfl (Nat.le_of_ble_eq_true rfl) ⟨by decide, by decide, by decide, by decide⟩) (fun r1 u1 p1 => ?_)
    obtain ⟨rfl, -⟩ := p1
    refine z_aload_n B0 dL_law_722 rfl rfl ?_
    refine z_aload_n B0 dL_law_723 rfl rfl ?_
    refine z_iload_n B0 dL_law_724 rfl rfl ?_
    refine z_iconst (v := 1) B0 dL_law_725 (by decide) ?_
    refine z_iadd (v := 1) B0 dL_law_726 (by decide) ?_
    refine y_sld (j := 1) (v := 2) B0 hX hbl (by decide) e1.symm dL_law_727 ?_
    refine z_aload_n B0 dL_law_728 rfl rfl ?_
    refine z_iload_n B0 dL_law_729 rfl rfl ?_
    refine z_iconst (v := 2) B0 dL_law_730 (by decide) ?_
    refine z_iadd (v := 2) B0 dL_law_731 (by decide) ?_
    refine y_sld (j := 2) (v := 27) B0 hX hbl (by decide) e2.symm dL_law_732 ?_
    refine z_callM B0 (z_runV (q0 := 0) (As := [.int 2, .int 27]) (st := [.int 0]) B0 (c_X12_after_140 (a := a2) mS0  rfl rfl rfl rfl rfl rfl rfl rfl rfl rfl rfl rfl rfl rfl rfl rfl rfl rfl rfl rfl rfl rfl rfl rfl rfl rfl rfl) cf_X12_after (mw_0 cy a2 mS0) rfl wm_L_90 wi_X12_after ws_X12_after dL_law_733 rfl (Nat.le_of_ble_eq_true rfl) ⟨by decide, by decide, by decide, by decide⟩) (fun r2 u2 p2 => ?_)
    obtain ⟨rfl, -⟩ := p2
    refine z_icmp_eq_t (tgt := 1091) B0 dL_law_736 (by decide) rfl ?_
    exact fin u1 u2
  · obtain rfl : x2 = 28 := Int32.toInt_inj.mp (h2.trans (by decide))
    refine z_aload_n B0 dL_law_708 rfl rfl ?_
    refine z_aload_n B0 dL_law_709 rfl rfl ?_
    refine z_iload_n B0 dL_law_710 rfl rfl ?_
    refine z_iconst (v := 1) B0 dL_law_711 (by decide) ?_
    refine z_iadd (v := 1) B0 dL_law_712 (by decide) ?_
    refine y_sld (j := 1) (v := 2) B0 hX hbl (by decide) e1.symm dL_law_713 ?_
    refine z_aload_n B0 dL_law_714 rfl rfl ?_
    refine z_iload_n B0 dL_law_715 rfl rfl ?_
    refine z_iconst (v := 2) B0 dL_law_716 (by decide) ?_
    refine z_iadd (v := 2) B0 dL_law_717 (by decide) ?_
    refine y_sld (j := 2) (v := 28) B0 hX hbl (by decide) e2.symm dL_law_718 ?_
    refine z_callC B0 (z_runV (q0 := 0) (As := [.int 2, .int 28]) (st := []) B0 (c_X11_after_141 (a := a) (cS0 w)  ) cf_X11_after (cw_0 cy tE a rw (cS0 w)) rfl wm_L_87 wi_X11_after ws_X11_after dL_law_719 rfl (Nat.le_of_ble_eq_true rfl) ⟨by decide, by decide, by decide, by decide⟩) (fun r1 u1 p1 => ?_)
    obtain ⟨rfl, -⟩ := p1
    refine z_aload_n B0 dL_law_722 rfl rfl ?_
    refine z_aload_n B0 dL_law_723 rfl rfl ?_
    refine z_iload_n B0 dL_law_724 rfl rfl ?_
    refine z_iconst (v := 1) B0 dL_law_725 (by decide) ?_
    refine z_iadd (v := 1) B0 dL_law_726 (by decide) ?_
    refine y_sld (j := 1) (v := 2) B0 hX hbl (by decide) e1.symm dL_law_727 ?_
    refine z_aload_n B0 dL_law_728 rfl rfl ?_
    refine z_iload_n B0 dL_law_729 rfl rfl ?_
    refine z_iconst (v := 2) B0 dL_law_730 (by decide) ?_
    refine z_iadd (v := 2) B0 dL_law_731 (by decide) ?_
    refine y_sld (j := 2) (v := 28) B0 hX hbl (by decide) e2.symm dL_law_732 ?_
    refine z_callM B0 (z_runV (q0 := 0) (As := [.int 2, .int 28]) (st := [.int (-1)]) B0 (c_X12_after_141 (a := a2) mS0  rfl rfl rfl rfl rfl rfl rfl rfl rfl rfl rfl rfl rfl rfl rfl rfl rfl rfl rfl rfl rfl rfl rfl rfl rfl rfl rfl) cf_X12_after (mw_0 cy a2 mS0) rfl wm_L_90 wi_X12_after ws_X12_after dL_law_733 rfl (Nat.le_of_ble_eq_true rfl) ⟨by decide, by decide, by decide, by decide⟩) (fun r2 u2 p2 => ?_)
    obtain ⟨rfl, -⟩ := p2
    refine z_icmp_eq_t (tgt := 1091) B0 dL_law_736 (by decide) rfl ?_
    exact fin u1 u2
  · obtain rfl : x2 = 29 := Int32.toInt_inj.mp (h2.trans (by decide))
    refine z_aload_n B0 dL_law_708 rfl rfl ?_
    refine z_aload_n B0 dL_law_709 rfl rfl ?_
    refine z_iload_n B0 dL_law_710 rfl rfl ?_
    refine z_iconst (v := 1) B0 dL_law_711 (by decide) ?_
    refine z_iadd (v := 1) B0 dL_law_712 (by decide) ?_
    refine y_sld (j := 1) (v := 2) B0 hX hbl (by decide) e1.symm dL_law_713 ?_
    refine z_aload_n B0 dL_law_714 rfl rfl ?_
    refine z_iload_n B0 dL_law_715 rfl rfl ?_
    refine z_iconst (v := 2) B0 dL_law_716 (by decide) ?_
    refine z_iadd (v := 2) B0 dL_law_717 (by decide) ?_
    refine y_sld (j := 2) (v := 29) B0 hX hbl (by decide) e2.symm dL_law_718 ?_
    refine z_callC B0 (z_runV (q0 := 0) (As := [.int 2, .int 29]) (st := []) B0 (c_X11_after_142 (a := a) (cS0 w)  ) cf_X11_after (cw_0 cy tE a rw (cS0 w)) rfl wm_L_87 wi_X11_after ws_X11_after dL_law_719 rfl (Nat.le_of_ble_eq_true rfl) ⟨by decide, by decide, by decide, by decide⟩) (fun r1 u1 p1 => ?_)
    obtain ⟨rfl, -⟩ := p1
    refine z_aload_n B0 dL_law_722 rfl rfl ?_
    refine z_aload_n B0 dL_law_723 rfl rfl ?_
    refine z_iload_n B0 dL_law_724 rfl rfl ?_
    refine z_iconst (v := 1) B0 dL_law_725 (by decide) ?_
    refine z_iadd (v := 1) B0 dL_law_726 (by decide) ?_
    refine y_sld (j := 1) (v := 2) B0 hX hbl (by decide) e1.symm dL_law_727 ?_
    refine z_aload_n B0 dL_law_728 rfl rfl ?_
    refine z_iload_n B0 dL_law_729 rfl rfl ?_
    refine z_iconst (v := 2) B0 dL_law_730 (by decide) ?_
    refine z_iadd (v := 2) B0 dL_law_731 (by decide) ?_
    refine y_sld (j := 2) (v := 29) B0 hX hbl (by decide) e2.symm dL_law_732 ?_
    refine z_callM B0 (z_runV (q0 := 0) (As := [.int 2, .int 29]) (st := [.int (-1)]) B0 (c_X12_after_142 (a := a2) mS0  rfl rfl rfl rfl rfl rfl rfl rfl rfl rfl rfl rfl rfl rfl rfl rfl rfl rfl rfl rfl rfl rfl rfl rfl rfl rfl rfl) cf_X12_after (mw_0 cy a2 mS0) rfl wm_L_90 wi_X12_after ws_X12_after dL_law_733 rfl (Nat.le_of_ble_eq_true rfl) ⟨by decide, by decide, by decide, by decide⟩) (fun r2 u2 p2 => ?_)
    obtain ⟨rfl, -⟩ := p2
    refine z_icmp_eq_t (tgt := 1091) B0 dL_law_736 (by decide) rfl ?_
    exact fin u1 u2
  · obtain rfl : x2 = 30 := Int32.toInt_inj.mp (h2.trans (by decide))
    refine z_aload_n B0 dL_law_708 rfl rfl ?_
    refine z_aload_n B0 dL_law_709 rfl rfl ?_
    refine z_iload_n B0 dL_law_710 rfl rfl ?_
    refine z_iconst (v := 1) B0 dL_law_711 (by decide) ?_
    refine z_iadd (v := 1) B0 dL_law_712 (by decide) ?_
    refine y_sld (j := 1) (v := 2) B0 hX hbl (by decide) e1.symm dL_law_713 ?_
    refine z_aload_n B0 dL_law_714 rfl rfl ?_
    refine z_iload_n B0 dL_law_715 rfl rfl ?_
    refine z_iconst (v := 2) B0 dL_law_716 (by decide) ?_
    refine z_iadd (v := 2) B0 dL_law_717 (by decide) ?_
    refine y_sld (j := 2) (v := 30) B0 hX hbl (by decide) e2.symm dL_law_718 ?_
    refine z_callC B0 (z_runV (q0 := 0) (As := [.int 2, .int 30]) (st := []) B0 (c_X11_after_143 (a := a) (cS0 w)  ) cf_X11_after (cw_0 cy tE a rw (cS0 w)) rfl wm_L_87 wi_X11_after ws_X11_after dL_law_719 rfl (Nat.le_of_ble_eq_true rfl) ⟨by decide, by decide, by decide, by decide⟩) (fun r1 u1 p1 => ?_)
    obtain ⟨rfl, -⟩ := p1
    refine z_aload_n B0 dL_law_722 rfl rfl ?_
    refine z_aload_n B0 dL_law_723 rfl rfl ?_
    refine z_iload_n B0 dL_law_724 rfl rfl ?_
    refine z_iconst (v := 1) B0 dL_law_725 (by decide) ?_
    refine z_iadd (v := 1) B0 dL_law_726 (by decide) ?_
    refine y_sld (j := 1) (v := 2) B0 hX hbl (by decide) e1.symm dL_law_727 ?_
    refine z_aload_n B0 dL_law_728 rfl rfl ?_
    refine z_iload_n B0 dL_law_729 rfl rfl ?_
    refine z_iconst (v := 2) B0 dL_law_730 (by decide) ?_
    refine z_iadd (v := 2) B0 dL_law_731 (by decide) ?_
    refine y_sld (j := 2) (v := 30) B0 hX hbl (by decide) e2.symm dL_law_732 ?_
    refine z_callM B0 (z_runV (q0 := 0) (As := [.int 2, .int 30]) (st := [.int (-1)]) B0 (c_X12_after_143 (a := a2) mS0  rfl rfl rfl rfl rfl rfl rfl rfl rfl rfl rfl rfl rfl rfl rfl rfl rfl rfl rfl rfl rfl rfl rfl rfl rfl rfl rfl) cf_X12_after (mw_0 cy a2 mS0) rfl wm_L_90 wi_X12_after ws_X12_after dL_law_733 rfl (Nat.le_of_ble_eq_true rfl) ⟨by decide, by decide, by decide, by decide⟩) (fun r2 u2 p2 => ?_)
    obtain ⟨rfl, -⟩ := p2
    refine z_icmp_eq_t (tgt := 1091) B0 dL_law_736 (by decide) rfl ?_
    exact fin u1 u2
  · obtain rfl : x2 = 31 := Int32.toInt_inj.mp (h2.trans (by decide))
    refine z_aload_n B0 dL_law_708 rfl rfl ?_
    refine z_aload_n B0 dL_law_709 rfl rfl ?_
    refine z_iload_n B0 dL_law_710 rfl rfl ?_
    refine z_iconst (v := 1) B0 dL_law_711 (by decide) ?_
    refine z_iadd (v := 1) B0 dL_law_712 (by decide) ?_
    refine y_sld (j := 1) (v := 2) B0 hX hbl (by decide) e1.symm dL_law_713 ?_
    refine z_aload_n B0 dL_law_714 rfl rfl ?_
    refine z_iload_n B0 dL_law_715 rfl rfl ?_
    refine z_iconst (v := 2) B0 dL_law_716 (by decide) ?_
    refine z_iadd (v := 2) B0 dL_law_717 (by decide) ?_
    refine y_sld (j := 2) (v := 31) B0 hX hbl (by decide) e2.symm dL_law_718 ?_
    refine z_callC B0 (z_runV (q0 := 0) (As := [.int 2, .int 31]) (st := []) B0 (c_X11_after_144 (a := a) (cS0 w)  rfl rfl rfl hrw) cf_X11_after (cw_0 cy tE a rw (cS0 w)) rfl wm_L_87 wi_X11_after ws_X11_after dL_law_719 rfl (Nat.le_of_ble_eq_true rfl) ⟨by decide, by decide, by decide, by decide⟩) (fun r1 u1 p1 => ?_)
    obtain ⟨rfl, -⟩ := p1
    refine z_aload_n B0 dL_law_722 rfl rfl ?_
    refine z_aload_n B0 dL_law_723 rfl rfl ?_
    refine z_iload_n B0 dL_law_724 rfl rfl ?_
    refine z_iconst (v := 1) B0 dL_law_725 (by decide) ?_
    refine z_iadd (v := 1) B0 dL_law_726 (by decide) ?_
    refine y_sld (j := 1) (v := 2) B0 hX hbl (by decide) e1.symm dL_law_727 ?_
    refine z_aload_n B0 dL_law_728 rfl rfl ?_
    refine z_iload_n B0 dL_law_729 rfl rfl ?_
    refine z_iconst (v := 2) B0 dL_law_730 (by decide) ?_
    refine z_iadd (v := 2) B0 dL_law_731 (by decide) ?_
    refine y_sld (j := 2) (v := 31) B0 hX hbl (by decide) e2.symm dL_law_732 ?_
    refine z_callM B0 (z_runV (q0 := 0) (As := [.int 2, .int 31]) (st := [.int 0]) B0 (c_X12_after_144 (a := a2) mS0  rfl rfl rfl rfl rfl rfl rfl rfl rfl rfl rfl rfl rfl rfl rfl rfl rfl rfl rfl rfl rfl rfl rfl rfl rfl rfl rfl) cf_X12_after (mw_0 cy a2 mS0) rfl wm_L_90 wi_X12_after ws_X12_after dL_law_733 rfl (Nat.le_of_ble_eq_true rfl) ⟨by decide, by decide, by decide, by decide⟩) (fun r2 u2 p2 => ?_)
    obtain ⟨rfl, -⟩ := p2
    refine z_icmp_eq_t (tgt := 1091) B0 dL_law_736 (by decide) rfl ?_
    exact fin u1 u2
  · obtain rfl : x2 = 32 := Int32.toInt_inj.mp (h2.trans (by decide))
    refine z_aload_n B0 dL_law_708 rfl rfl ?_
    refine z_aload_n B0 dL_law_709 rfl rfl ?_
    refine z_iload_n B0 dL_law_710 rfl rfl ?_
    refine z_iconst (v := 1) B0 dL_law_711 (by decide) ?_
    refine z_iadd (v := 1) B0 dL_law_712 (by decide) ?_
    refine y_sld (j := 1) (v := 2) B0 hX hbl (by decide) e1.symm dL_law_713 ?_
    refine z_aload_n B0 dL_law_714 rfl rfl ?_
    refine z_iload_n B0 dL_law_715 rfl rfl ?_
    refine z_iconst (v := 2) B0 dL_law_716 (by decide) ?_
    refine z_iadd (v := 2) B0 dL_law_717 (by decide) ?_
    refine y_sld (j := 2) (v := 32) B0 hX hbl (by decide) e2.symm dL_law_718 ?_
    refine z_callC B0 (z_runV (q0 := 0) (As := [.int 2, .int 32]) (st := []) B0 (c_X11_after_145 (a := a) (cS0 w)  rfl rfl rfl hrw) cf_X11_after (cw_0 cy tE a rw (cS0 w)) rfl wm_L_87 wi_X11_after ws_X11_after dL_law_719 rfl (Nat.le_of_ble_eq_true rfl) ⟨by decide, by decide, by decide, by decide⟩) (fun r1 u1 p1 => ?_)
    obtain ⟨rfl, -⟩ := p1
    refine z_aload_n B0 dL_law_722 rfl rfl ?_
    refine z_aload_n B0 dL_law_723 rfl rfl ?_
    refine z_iload_n B0 dL_law_724 rfl rfl ?_
    refine z_iconst (v := 1) B0 dL_law_725 (by decide) ?_
    refine z_iadd (v := 1) B0 dL_law_726 (by decide) ?_
    refine y_sld (j := 1) (v := 2) B0 hX hbl (by decide) e1.symm dL_law_727 ?_
    refine z_aload_n B0 dL_law_728 rfl rfl ?_
    refine z_iload_n B0 dL_law_729 rfl rfl ?_
    refine z_iconst (v := 2) B0 dL_law_730 (by decide) ?_
    refine z_iadd (v := 2) B0 dL_law_731 (by decide) ?_
    refine y_sld (j := 2) (v := 32) B0 hX hbl (by decide) e2.symm dL_law_732 ?_
    refine z_callM B0 (z_runV (q0 := 0) (As := [.int 2, .int 32]) (st := [.int 0]) B0 (c_X12_after_145 (a := a2) mS0  rfl rfl rfl rfl rfl rfl rfl rfl rfl rfl rfl rfl rfl rfl rfl rfl rfl rfl rfl rfl rfl rfl rfl rfl rfl rfl rfl) cf_X12_after (mw_0 cy a2 mS0) rfl wm_L_90 wi_X12_after ws_X12_after dL_law_733 rfl (Nat.le_of_ble_eq_true rfl) ⟨by decide, by decide, by decide, by decide⟩) (fun r2 u2 p2 => ?_)
    obtain ⟨rfl, -⟩ := p2
    refine z_icmp_eq_t (tgt := 1091) B0 dL_law_736 (by decide) rfl ?_
    exact fin u1 u2
  · obtain rfl : x2 = 33 := Int32.toInt_inj.mp (h2.trans (by decide))
    refine z_aload_n B0 dL_law_708 rfl rfl ?_
    refine z_aload_n B0 dL_law_709 rfl rfl ?_
    refine z_iload_n B0 dL_law_710 rfl rfl ?_
    refine z_iconst (v := 1) B0 dL_law_711 (by decide) ?_
    refine z_iadd (v := 1) B0 dL_law_712 (by decide) ?_
    refine y_sld (j := 1) (v := 2) B0 hX hbl (by decide) e1.symm dL_law_713 ?_
    refine z_aload_n B0 dL_law_714 rfl rfl ?_
    refine z_iload_n B0 dL_law_715 rfl rfl ?_
    refine z_iconst (v := 2) B0 dL_law_716 (by decide) ?_
    refine z_iadd (v := 2) B0 dL_law_717 (by decide) ?_
    refine y_sld (j := 2) (v := 33) B0 hX hbl (by decide) e2.symm dL_law_718 ?_
    refine z_callC B0 (z_runV (q0 := 0) (As := [.int 2, .int 33]) (st := []) B0 (c_X11_after_146 (a := a) (cS0 w)  rfl rfl rfl hrw) cf_X11_after (cw_0 cy tE a rw (cS0 w)) rfl wm_L_87 wi_X11_after ws_X11_after dL_law_719 rfl (Nat.le_of_ble_eq_true rfl) ⟨by decide, by decide, by decide, by decide⟩) (fun r1 u1 p1 => ?_)
    obtain ⟨rfl, -⟩ := p1
    refine z_aload_n B0 dL_law_722 rfl rfl ?_
    refine z_aload_n B0 dL_law_723 rfl rfl ?_
    refine z_iload_n B0 dL_law_724 rfl rfl ?_
    refine z_iconst (v := 1) B0 dL_law_725 (by decide) ?_
    refine z_iadd (v := 1) B0 dL_law_726 (by decide) ?_
    refine y_sld (j := 1) (v := 2) B0 hX hbl (by decide) e1.symm dL_law_727 ?_
    refine z_aload_n B0 dL_law_728 rfl rfl ?_
    refine z_iload_n B0 dL_law_729 rfl rfl ?_
    refine z_iconst (v := 2) B0 dL_law_730 (by decide) ?_
    refine z_iadd (v := 2) B0 dL_law_731 (by decide) ?_
    refine y_sld (j := 2) (v := 33) B0 hX hbl (by decide) e2.symm dL_law_732 ?_
    refine z_callM B0 (z_runV (q0 := 0) (As := [.int 2, .int 33]) (st := [.int 0]) B0 (c_X12_after_146 (a := a2) mS0  rfl rfl rfl rfl rfl rfl rfl rfl rfl rfl rfl rfl rfl rfl rfl rfl rfl rfl rfl rfl rfl rfl rfl rfl rfl rfl rfl) cf_X12_after (mw_0 cy a2 mS0) rfl wm_L_90 wi_X12_after ws_X12_after dL_law_733 rfl (Nat.le_of_ble_eq_true rfl) ⟨by decide, by decide, by decide, by decide⟩) (fun r2 u2 p2 => ?_)
    obtain ⟨rfl, -⟩ := p2
    refine z_icmp_eq_t (tgt := 1091) B0 dL_law_736 (by decide) rfl ?_
    exact fin u1 u2
  · obtain rfl : x2 = 34 := Int32.toInt_inj.mp (h2.trans (by decide))
    refine z_aload_n B0 dL_law_708 rfl rfl ?_
    refine z_aload_n B0 dL_law_709 rfl rfl ?_
    refine z_iload_n B0 dL_law_710 rfl rfl ?_
    refine z_iconst (v := 1) B0 dL_law_711 (by decide) ?_
    refine z_iadd (v := 1) B0 dL_law_712 (by decide) ?_
    refine y_sld (j := 1) (v := 2) B0 hX hbl (by decide) e1.symm dL_law_713 ?_
    refine z_aload_n B0 dL_law_714 rfl rfl ?_
    refine z_iload_n B0 dL_law_715 rfl rfl ?_
    refine z_iconst (v := 2) B0 dL_law_716 (by decide) ?_
    refine z_iadd (v := 2) B0 dL_law_717 (by decide) ?_
    refine y_sld (j := 2) (v := 34) B0 hX hbl (by decide) e2.symm dL_law_718 ?_
    refine z_callC B0 (z_runV (q0 := 0) (As := [.int 2, .int 34]) (st := []) B0 (c_X11_after_147 (a := a) (cS0 w)  ) cf_X11_after (cw_0 cy tE a rw (cS0 w)) rfl wm_L_87 wi_X11_after ws_X11_after dL_law_719 rfl (Nat.le_of_ble_eq_true rfl) ⟨by decide, by decide, by decide, by decide⟩) (fun r1 u1 p1 => ?_)
    obtain ⟨rfl, -⟩ := p1
    refine z_aload_n B0 dL_law_722 rfl rfl ?_
    refine z_aload_n B0 dL_law_723 rfl rfl ?_
    refine z_iload_n B0 dL_law_724 rfl rfl ?_
    refine z_iconst (v := 1) B0 dL_law_725 (by decide) ?_
    refine z_iadd (v := 1) B0 dL_law_726 (by decide) ?_
    refine y_sld (j := 1) (v := 2) B0 hX hbl (by decide) e1.symm dL_law_727 ?_
    refine z_aload_n B0 dL_law_728 rfl rfl ?_
    refine z_iload_n B0 dL_law_729 rfl rfl ?_
    refine z_iconst (v := 2) B0 dL_law_730 (by decide) ?_
    refine z_iadd (v := 2) B0 dL_law_731 (by decide) ?_
    refine y_sld (j := 2) (v := 34) B0 hX hbl (by decide) e2.symm dL_law_732 ?_
    refine z_callM B0 (z_runV (q0 := 0) (As := [.int 2, .int 34]) (st := [.int (-1)]) B0 (c_X12_after_147 (a := a2) mS0  rfl rfl rfl rfl rfl rfl rfl rfl rfl rfl rfl rfl rfl rfl rfl rfl rfl rfl rfl rfl rfl rfl rfl rfl rfl rfl rfl) cf_X12_after (mw_0 cy a2 mS0) rfl wm_L_90 wi_X12_after ws_X12_after dL_law_733 rfl (Nat.le_of_ble_eq_true rfl) ⟨by decide, by decide, by decide, by decide⟩) (fun r2 u2 p2 => ?_)
    obtain ⟨rfl, -⟩ := p2
    refine z_icmp_eq_t (tgt := 1091) B0 dL_law_736 (by decide) rfl ?_
    exact fin u1 u2
  · obtain rfl : x2 = 35 := Int32.toInt_inj.mp (h2.trans (by decide))
    refine z_aload_n B0 dL_law_708 rfl rfl ?_
    refine z_aload_n B0 dL_law_709 rfl rfl ?_
    refine z_iload_n B0 dL_law_710 rfl rfl ?_
    refine z_iconst (v := 1) B0 dL_law_711 (by decide) ?_
    refine z_iadd (v := 1) B0 dL_law_712 (by decide) ?_
    refine y_sld (j := 1) (v := 2) B0 hX hbl (by decide) e1.symm dL_law_713 ?_
    refine z_aload_n B0 dL_law_714 rfl rfl ?_
    refine z_iload_n B0 dL_law_715 rfl rfl ?_
    refine z_iconst (v := 2) B0 dL_law_716 (by decide) ?_
    refine z_iadd (v := 2) B0 dL_law_717 (by decide) ?_
    refine y_sld (j := 2) (v := 35) B0 hX hbl (by decide) e2.symm dL_law_718 ?_
    refine z_callC B0 (z_runV (q0 := 0) (As := [.int 2, .int 35]) (st := []) B0 (c_X11_after_148 (a := a) (cS0 w)  rfl rfl rfl hrw) cf_X11_after (cw_0 cy tE a rw (cS0 w)) rfl wm_L_87 wi_X11_after ws_X11_after dL_law_719 rfl (Nat.le_of_ble_eq_true rfl) ⟨by decide, by decide, by decide, by decide⟩) (fun r1 u1 p1 => ?_)
    obtain ⟨rfl, -⟩ := p1
    refine z_aload_n B0 dL_law_722 rfl rfl ?_
    refine z_aload_n B0 dL_law_723 rfl rfl ?_
    refine z_iload_n B0 dL_law_724 rfl rfl ?_
    refine z_iconst (v := 1) B0 dL_law_725 (by decide) ?_
    refine z_iadd (v := 1) B0 dL_law_726 (by decide) ?_
    refine y_sld (j := 1) (v := 2) B0 hX hbl (by decide) e1.symm dL_law_727 ?_
    refine z_aload_n B0 dL_law_728 rfl rfl ?_
    refine z_iload_n B0 dL_law_729 rfl rfl ?_
    refine z_iconst (v := 2) B0 dL_law_730 (by decide) ?_
    refine z_iadd (v := 2) B0 dL_law_731 (by decide) ?_
    refine y_sld (j := 2) (v := 35) B0 hX hbl (by decide) e2.symm dL_law_732 ?_
    refine z_callM B0 (z_runV (q0 := 0) (As := [.int 2, .int 35]) (st := [.int 0]) B0 (c_X12_after_148 (a := a2) mS0  rfl rfl rfl rfl rfl rfl rfl rfl rfl rfl rfl rfl rfl rfl rfl rfl rfl rfl rfl rfl rfl rfl rfl rfl rfl rfl rfl) cf_X12_after (mw_0 cy a2 mS0) rfl wm_L_90 wi_X12_after ws_X12_after dL_law_733 rfl (Nat.le_of_ble_eq_true rfl) ⟨by decide, by decide, by decide, by decide⟩) (fun r2 u2 p2 => ?_)
    obtain ⟨rfl, -⟩ := p2
    refine z_icmp_eq_t (tgt := 1091) B0 dL_law_736 (by decide) rfl ?_
    exact fin u1 u2
  · obtain rfl : x2 = 36 := Int32.toInt_inj.mp (h2.trans (by decide))
    refine z_aload_n B0 dL_law_708 rfl rfl ?_
    refine z_aload_n B0 dL_law_709 rfl rfl ?_
    refine z_iload_n B0 dL_law_710 rfl rfl ?_
    refine z_iconst (v := 1) B0 dL_law_711 (by decide) ?_
    refine z_iadd (v := 1) B0 dL_law_712 (by decide) ?_
    refine y_sld (j := 1) (v := 2) B0 hX hbl (by decide) e1.symm dL_law_713 ?_
    refine z_aload_n B0 dL_law_714 rfl rfl ?_
    refine z_iload_n B0 dL_law_715 rfl rfl ?_
    refine z_iconst (v := 2) B0 dL_law_716 (by decide) ?_
    refine z_iadd (v := 2) B0 dL_law_717 (by decide) ?_
    refine y_sld (j := 2) (v := 36) B0 hX hbl (by decide) e2.symm dL_law_718 ?_
    refine z_callC B0 (z_runV (q0 := 0) (As := [.int 2, .int 36]) (st := []) B0 (c_X11_after_149 (a := a) (cS0 w)  rfl rfl rfl hrw) cf_X11_after (cw_0 cy tE a rw (cS0 w)) rfl wm_L_87 wi_X11_after ws_X11_after dL_law_719 rfl (Nat.le_of_ble_eq_true rfl) ⟨by decide, by decide, by decide, by decide⟩) (fun r1 u1 p1 => ?_)
    obtain ⟨rfl, -⟩ := p1
    refine z_aload_n B0 dL_law_722 rfl rfl ?_
    refine z_aload_n B0 dL_law_723 rfl rfl ?_
    refine z_iload_n B0 dL_law_724 rfl rfl ?_
    refine z_iconst (v := 1) B0 dL_law_725 (by decide) ?_
    refine z_iadd (v := 1) B0 dL_law_726 (by decide) ?_
    refine y_sld (j := 1) (v := 2) B0 hX hbl (by decide) e1.symm dL_law_727 ?_
    refine z_aload_n B0 dL_law_728 rfl rfl ?_
    refine z_iload_n B0 dL_law_729 rfl rfl ?_
    refine z_iconst (v := 2) B0 dL_law_730 (by decide) ?_
    refine z_iadd (v := 2) B0 dL_law_731 (by decide) ?_
    refine y_sld (j := 2) (v := 36) B0 hX hbl (by decide) e2.symm dL_law_732 ?_
    refine z_callM B0 (z_runV (q0 := 0) (As := [.int 2, .int 36]) (st := [.int 0]) B0 (c_X12_after_149 (a := a2) mS0  rfl rfl rfl rfl rfl rfl rfl rfl rfl rfl rfl rfl rfl rfl rfl rfl rfl rfl rfl rfl rfl rfl rfl rfl rfl rfl rfl) cf_X12_after (mw_0 cy a2 mS0) rfl wm_L_90 wi_X12_after ws_X12_after dL_law_733 rfl (Nat.le_of_ble_eq_true rfl) ⟨by decide, by decide, by decide, by decide⟩) (fun r2 u2 p2 => ?_)
    obtain ⟨rfl, -⟩ := p2
    refine z_icmp_eq_t (tgt := 1091) B0 dL_law_736 (by decide) rfl ?_
    exact fin u1 u2
  · obtain rfl : x2 = 37 := Int32.toInt_inj.mp (h2.trans (by decide))
    refine z_aload_n B0 dL_law_708 rfl rfl ?_
    refine z_aload_n B0 dL_law_709 rfl rfl ?_
    refine z_iload_n B0 dL_law_710 rfl rfl ?_
    refine z_iconst (v := 1) B0 dL_law_711 (by decide) ?_
    refine z_iadd (v := 1) B0 dL_law_712 (by decide) ?_
    refine y_sld (j := 1) (v := 2) B0 hX hbl (by decide) e1.symm dL_law_713 ?_
    refine z_aload_n B0 dL_law_714 rfl rfl ?_
    refine z_iload_n B0 dL_law_715 rfl rfl ?_
    refine z_iconst (v := 2) B0 dL_law_716 (by decide) ?_
    refine z_iadd (v := 2) B0 dL_law_717 (by decide) ?_
    refine y_sld (j := 2) (v := 37) B0 hX hbl (by decide) e2.symm dL_law_718 ?_
    refine z_callC B0 (z_runV (q0 := 0) (As := [.int 2, .int 37]) (st := []) B0 (c_X11_after_150 (a := a) (cS0 w)  rfl rfl rfl hrw) cf_X11_after (cw_0 cy tE a rw (cS0 w)) rfl wm_L_87 wi_X11_after ws_X11_after dL_law_719 rfl (Nat.le_of_ble_eq_true rfl) ⟨by decide, by decide, by decide, by decide⟩) (fun r1 u1 p1 => ?_)
    obtain ⟨rfl, -⟩ := p1
    refine z_aload_n B0 dL_law_722 rfl rfl ?_
    refine z_aload_n B0 dL_law_723 rfl rfl ?_
    refine z_iload_n B0 dL_law_724 rfl rfl ?_
    refine z_iconst (v := 1) B0 dL_law_725 (by decide) ?_
    refine z_iadd (v := 1) B0 dL_law_726 (by decide) ?_
    refine y_sld (j := 1) (v := 2) B0 hX hbl (by decide) e1.symm dL_law_727 ?_
    refine z_aload_n B0 dL_law_728 rfl rfl ?_
    refine z_iload_n B0 dL_law_729 rfl rfl ?_
    refine z_iconst (v := 2) B0 dL_law_730 (by decide) ?_
    refine z_iadd (v := 2) B0 dL_law_731 (by decide) ?_
    refine y_sld (j := 2) (v := 37) B0 hX hbl (by decide) e2.symm dL_law_732 ?_
    refine z_callM B0 (z_runV (q0 := 0) (As := [.int 2, .int 37]) (st := [.int 0]) B0 (c_X12_after_150 (a := a2) mS0  rfl rfl rfl rfl rfl rfl rfl rfl rfl rfl rfl rfl rfl rfl rfl rfl rfl rfl rfl rfl rfl rfl rfl rfl rfl rfl rfl) cf_X12_after (mw_0 cy a2 mS0) rfl wm_L_90 wi_X12_after ws_X12_after dL_law_733 rfl (Nat.le_of_ble_eq_true rfl) ⟨by decide, by decide, by decide, by decide⟩) (fun r2 u2 p2 => ?_)
    obtain ⟨rfl, -⟩ := p2
    refine z_icmp_eq_t (tgt := 1091) B0 dL_law_736 (by decide) rfl ?_
    exact fin u1 u2
  · obtain rfl : x2 = 38 := Int32.toInt_inj.mp (h2.trans (by decide))
    refine z_aload_n B0 dL_law_708 rfl rfl ?_
    refine z_aload_n B0 dL_law_709 rfl rfl ?_
    refine z_iload_n B0 dL_law_710 rfl rfl ?_
    refine z_iconst (v := 1) B0 dL_law_711 (by decide) ?_
    refine z_iadd (v := 1) B0 dL_law_712 (by decide) ?_
    refine y_sld (j := 1) (v := 2) B0 hX hbl (by decide) e1.symm dL_law_713 ?_
    refine z_aload_n B0 dL_law_714 rfl rfl ?_
    refine z_iload_n B0 dL_law_715 rfl rfl ?_
    refine z_iconst (v := 2) B0 dL_law_716 (by decide) ?_
    refine z_iadd (v := 2) B0 dL_law_717 (by decide) ?_
    refine y_sld (j := 2) (v := 38) B0 hX hbl (by decide) e2.symm dL_law_718 ?_
    refine z_callC B0 (z_runV (q0 := 0) (As := [.int 2, .int 38]) (st := []) B0 (c_X11_after_151 (a := a) (cS0 w)  ) cf_X11_after (cw_0 cy tE a rw (cS0 w)) rfl wm_L_87 wi_X11_after ws_X11_after dL_law_719 rfl (Nat.le_of_ble_eq_true rfl) ⟨by decide, by decide, by decide, by decide⟩) (fun r1 u1 p1 => ?_)
    obtain ⟨rfl, -⟩ := p1
    refine z_aload_n B0 dL_law_722 rfl rfl ?_
    refine z_aload_n B0 dL_law_723 rfl rfl ?_
    refine z_iload_n B0 dL_law_724 rfl rfl ?_
    refine z_iconst (v := 1) B0 dL_law_725 (by decide) ?_
    refine z_iadd (v := 1) B0 dL_law_726 (by decide) ?_
    refine y_sld (j := 1) (v := 2) B0 hX hbl (by decide) e1.symm dL_law_727 ?_
    refine z_aload_n B0 dL_law_728 rfl rfl ?_
    refine z_iload_n B0 dL_law_729 rfl rfl ?_
    refine z_iconst (v := 2) B0 dL_law_730 (by decide) ?_
    refine z_iadd (v := 2) B0 dL_law_731 (by decide) ?_
    refine y_sld (j := 2) (v := 38) B0 hX hbl (by decide) e2.symm dL_law_732 ?_
    refine z_callM B0 (z_runV (q0 := 0) (As := [.int 2, .int 38]) (st := [.int (-1)]) B0 (c_X12_after_151 (a := a2) mS0  rfl rfl rfl rfl rfl rfl rfl rfl rfl rfl rfl rfl rfl rfl rfl rfl rfl rfl rfl rfl rfl rfl rfl rfl rfl rfl rfl) cf_X12_after (mw_0 cy a2 mS0) rfl wm_L_90 wi_X12_after ws_X12_after dL_law_733 rfl (Nat.le_of_ble_eq_true rfl) ⟨by decide, by decide, by decide, by decide⟩) (fun r2 u2 p2 => ?_)
    obtain ⟨rfl, -⟩ := p2
    refine z_icmp_eq_t (tgt := 1091) B0 dL_law_736 (by decide) rfl ?_
    exact fin u1 u2
  · obtain rfl : x2 = 39 := Int32.toInt_inj.mp (h2.trans (by decide))
    refine z_aload_n B0 dL_law_708 rfl rfl ?_
    refine z_aload_n B0 dL_law_709 rfl rfl ?_
    refine z_iload_n B0 dL_law_710 rfl rfl ?_
    refine z_iconst (v := 1) B0 dL_law_711 (by decide) ?_
    refine z_iadd (v := 1) B0 dL_law_712 (by decide) ?_
    refine y_sld (j := 1) (v := 2) B0 hX hbl (by decide) e1.symm dL_law_713 ?_
    refine z_aload_n B0 dL_law_714 rfl rfl ?_
    refine z_iload_n B0 dL_law_715 rfl rfl ?_
    refine z_iconst (v := 2) B0 dL_law_716 (by decide) ?_
    refine z_iadd (v := 2) B0 dL_law_717 (by decide) ?_
    refine y_sld (j := 2) (v := 39) B0 hX hbl (by decide) e2.symm dL_law_718 ?_
    refine z_callC B0 (z_runV (q0 := 0) (As := [.int 2, .int 39]) (st := []) B0 (c_X11_after_152 (a := a) (cS0 w)  ) cf_X11_after (cw_0 cy tE a rw (cS0 w)) rfl wm_L_87 wi_X11_after ws_X11_after dL_law_719 rfl (Nat.le_of_ble_eq_true rfl) ⟨by decide, by decide, by decide, by decide⟩) (fun r1 u1 p1 => ?_)
    obtain ⟨rfl, -⟩ := p1
    refine z_aload_n B0 dL_law_722 rfl rfl ?_
    refine z_aload_n B0 dL_law_723 rfl rfl ?_
    refine z_iload_n B0 dL_law_724 rfl rfl ?_
    refine z_iconst (v := 1) B0 dL_law_725 (by decide) ?_
    refine z_iadd (v := 1) B0 dL_law_726 (by decide) ?_
    refine y_sld (j := 1) (v := 2) B0 hX hbl (by decide) e1.symm dL_law_727 ?_
    refine z_aload_n B0 dL_law_728 rfl rfl ?_
    refine z_iload_n B0 dL_law_729 rfl rfl ?_
    refine z_iconst (v := 2) B0 dL_law_730 (by decide) ?_
    refine z_iadd (v := 2) B0 dL_law_731 (by decide) ?_
    refine y_sld (j := 2) (v := 39) B0 hX hbl (by decide) e2.symm dL_law_732 ?_
    refine z_callM B0 (z_runV (q0 := 0) (As := [.int 2, .int 39]) (st := [.int (-1)]) B0 (c_X12_after_152 (a := a2) mS0  rfl rfl rfl rfl rfl rfl rfl rfl rfl rfl rfl rfl rfl rfl rfl rfl rfl rfl rfl rfl rfl rfl rfl rfl rfl rfl rfl) cf_X12_after (mw_0 cy a2 mS0) rfl wm_L_90 wi_X12_after ws_X12_after dL_law_733 rfl (Nat.le_of_ble_eq_true rfl) ⟨by decide, by decide, by decide, by decide⟩) (fun r2 u2 p2 => ?_)
    obtain ⟨rfl, -⟩ := p2
    refine z_icmp_eq_t (tgt := 1091) B0 dL_law_736 (by decide) rfl ?_
    exact fin u1 u2
  · obtain rfl : x2 = 40 := Int32.toInt_inj.mp (h2.trans (by decide))
    refine z_aload_n B0 dL_law_708 rfl rfl ?_
    refine z_aload_n B0 dL_law_709 rfl rfl ?_
    refine z_iload_n B0 dL_law_710 rfl rfl ?_
    refine z_iconst (v := 1) B0 dL_law_711 (by decide) ?_
    refine z_iadd (v := 1) B0 dL_law_712 (by decide) ?_
    refine y_sld (j := 1) (v := 2) B0 hX hbl (by decide) e1.symm dL_law_713 ?_
    refine z_aload_n B0 dL_law_714 rfl rfl ?_
    refine z_iload_n B0 dL_law_715 rfl rfl ?_
    refine z_iconst (v := 2) B0 dL_law_716 (by decide) ?_
    refine z_iadd (v := 2) B0 dL_law_717 (by decide) ?_
    refine y_sld (j := 2) (v := 40) B0 hX hbl (by decide) e2.symm dL_law_718 ?_
    refine z_callC B0 (z_runV (q0 := 0) (As := [.int 2, .int 40]) (st := []) B0 (c_X11_after_153 (a := a) (cS0 w)  rfl rfl rfl hrw) cf_X11_after (cw_0 cy tE a rw (cS0 w)) rfl wm_L_87 wi_X11_after ws_X11_after dL_law_719 rfl (Nat.le_of_ble_eq_true rfl) ⟨by decide, by decide, by decide, by decide⟩) (fun r1 u1 p1 => ?_)
    obtain ⟨rfl, -⟩ := p1
    refine z_aload_n B0 dL_law_722 rfl rfl ?_
    refine z_aload_n B0 dL_law_723 rfl rfl ?_
    refine z_iload_n B0 dL_law_724 rfl rfl ?_
    refine z_iconst (v := 1) B0 dL_law_725 (by decide) ?_
    refine z_iadd (v := 1) B0 dL_law_726 (by decide) ?_
    refine y_sld (j := 1) (v := 2) B0 hX hbl (by decide) e1.symm dL_law_727 ?_
    refine z_aload_n B0 dL_law_728 rfl rfl ?_
    refine z_iload_n B0 dL_law_729 rfl rfl ?_
    refine z_iconst (v := 2) B0 dL_law_730 (by decide) ?_
    refine z_iadd (v := 2) B0 dL_law_731 (by decide) ?_
    refine y_sld (j := 2) (v := 40) B0 hX hbl (by decide) e2.symm dL_law_732 ?_
    refine z_callM B0 (z_runV (q0 := 0) (As := [.int 2, .int 40]) (st := [.int 3]) B0 (c_X12_after_153 (a := a2) mS0  rfl rfl rfl rfl rfl rfl rfl rfl rfl rfl rfl rfl rfl rfl rfl rfl rfl rfl rfl rfl rfl rfl rfl rfl rfl rfl rfl) cf_X12_after (mw_0 cy a2 mS0) rfl wm_L_90 wi_X12_after ws_X12_after dL_law_733 rfl (Nat.le_of_ble_eq_true rfl) ⟨by decide, by decide, by decide, by decide⟩) (fun r2 u2 p2 => ?_)
    obtain ⟨rfl, -⟩ := p2
    refine z_icmp_eq_t (tgt := 1091) B0 dL_law_736 (by decide) rfl ?_
    exact fin u1 u2
  · obtain rfl : x2 = 41 := Int32.toInt_inj.mp (h2.trans (by decide))
    refine z_aload_n B0 dL_law_708 rfl rfl ?_
    refine z_aload_n B0 dL_law_709 rfl rfl ?_
    refine z_iload_n B0 dL_law_710 rfl rfl ?_
    refine z_iconst (v := 1) B0 dL_law_711 (by decide) ?_
    refine z_iadd (v := 1) B0 dL_law_712 (by decide) ?_
    refine y_sld (j := 1) (v := 2) B0 hX hbl (by decide) e1.symm dL_law_713 ?_
    refine z_aload_n B0 dL_law_714 rfl rfl ?_
    refine z_iload_n B0 dL_law_715 rfl rfl ?_
    refine z_iconst (v := 2) B0 dL_law_716 (by decide) ?_
    refine z_iadd (v := 2) B0 dL_law_717 (by decide) ?_
    refine y_sld (j := 2) (v := 41) B0 hX hbl (by decide) e2.symm dL_law_718 ?_
    refine z_callC B0 (z_runV (q0 := 0) (As := [.int 2, .int 41]) (st := []) B0 (c_X11_after_154 (a := a) (cS0 w)  rfl rfl rfl hrw) cf_X11_after (cw_0 cy tE a rw (cS0 w)) rfl wm_L_87 wi_X11_after ws_X11_after dL_law_719 rfl (Nat.le_of_ble_eq_true rfl) ⟨by decide, by decide, by decide, by decide⟩) (fun r1 u1 p1 => ?_)
    obtain ⟨rfl, -⟩ := p1
    refine z_aload_n B0 dL_law_722 rfl rfl ?_
    refine z_aload_n B0 dL_law_723 rfl rfl ?_
    refine z_iload_n B0 dL_law_724 rfl rfl ?_
    refine z_iconst (v := 1) B0 dL_law_725 (by decide) ?_
    refine z_iadd (v := 1) B0 dL_law_726 (by decide) ?_
    refine y_sld (j := 1) (v := 2) B0 hX hbl (by decide) e1.symm dL_law_727 ?_
    refine z_aload_n B0 dL_law_728 rfl rfl ?_
    refine z_iload_n B0 dL_law_729 rfl rfl ?_
    refine z_iconst (v := 2) B0 dL_law_730 (by decide) ?_
    refine z_iadd (v := 2) B0 dL_law_731 (by decide) ?_
    refine y_sld (j := 2) (v := 41) B0 hX hbl (by decide) e2.symm dL_law_732 ?_
    refine z_callM B0 (z_runV (q0 := 0) (As := [.int 2, .int 41]) (st := [.int 3]) B0 (c_X12_after_154 (a := a2) mS0  rfl rfl rfl rfl rfl rfl rfl rfl rfl rfl rfl rfl rfl rfl rfl rfl rfl rfl rfl rfl rfl rfl rfl rfl rfl rfl rfl) cf_X12_after (mw_0 cy a2 mS0) rfl wm_L_90 wi_X12_after ws_X12_after dL_law_733 rfl (Nat.le_of_ble_eq_true rfl) ⟨by decide, by decide, by decide, by decide⟩) (fun r2 u2 p2 => ?_)
    obtain ⟨rfl, -⟩ := p2
    refine z_icmp_eq_t (tgt := 1091) B0 dL_law_736 (by decide) rfl ?_
    exact fin u1 u2
  · obtain rfl : x2 = 42 := Int32.toInt_inj.mp (h2.trans (by decide))
    refine z_aload_n B0 dL_law_708 rfl rfl ?_
    refine z_aload_n B0 dL_law_709 rfl rfl ?_
    refine z_iload_n B0 dL_law_710 rfl rfl ?_
    refine z_iconst (v := 1) B0 dL_law_711 (by decide) ?_
    refine z_iadd (v := 1) B0 dL_law_712 (by decide) ?_
    refine y_sld (j := 1) (v := 2) B0 hX hbl (by decide) e1.symm dL_law_713 ?_
    refine z_aload_n B0 dL_law_714 rfl rfl ?_
    refine z_iload_n B0 dL_law_715 rfl rfl ?_
    refine z_iconst (v := 2) B0 dL_law_716 (by decide) ?_
    refine z_iadd (v := 2) B0 dL_law_717 (by decide) ?_
    refine y_sld (j := 2) (v := 42) B0 hX hbl (by decide) e2.symm dL_law_718 ?_
    refine z_callC B0 (z_runV (q0 := 0) (As := [.int 2, .int 42]) (st := []) B0 (c_X11_after_155 (a := a) (cS0 w)  rfl rfl rfl hrw) cf_X11_after (cw_0 cy tE a rw (cS0 w)) rfl wm_L_87 wi_X11_after ws_X11_after dL_law_719 rfl (Nat.le_of_ble_eq_true rfl) ⟨by decide, by decide, by decide, by decide⟩) (fun r1 u1 p1 => ?_)
    obtain ⟨rfl, -⟩ := p1
    refine z_aload_n B0 dL_law_722 rfl rfl ?_
    refine z_aload_n B0 dL_law_723 rfl rfl ?_
    refine z_iload_n B0 dL_law_724 rfl rfl ?_
    refine z_iconst (v := 1) B0 dL_law_725 (by decide) ?_
    refine z_iadd (v := 1) B0 dL_law_726 (by decide) ?_
    refine y_sld (j := 1) (v := 2) B0 hX hbl (by decide) e1.symm dL_law_727 ?_
    refine z_aload_n B0 dL_law_728 rfl rfl ?_
    refine z_iload_n B0 dL_law_729 rfl rfl ?_
    refine z_iconst (v := 2) B0 dL_law_730 (by decide) ?_
    refine z_iadd (v := 2) B0 dL_law_731 (by decide) ?_
    refine y_sld (j := 2) (v := 42) B0 hX hbl (by decide) e2.symm dL_law_732 ?_
    refine z_callM B0 (z_runV (q0 := 0) (As := [.int 2, .int 42]) (st := [.int 3]) B0 (c_X12_after_155 (a := a2) mS0  rfl rfl rfl rfl rfl rfl rfl rfl rfl rfl rfl rfl rfl rfl rfl rfl rfl rfl rfl rfl rfl rfl rfl rfl rfl rfl rfl) cf_X12_after (mw_0 cy a2 mS0) rfl wm_L_90 wi_X12_after ws_X12_after dL_law_733 rfl (Nat.le_of_ble_eq_true rfl) ⟨by decide, by decide, by decide, by decide⟩) (fun r2 u2 p2 => ?_)
    obtain ⟨rfl, -⟩ := p2
    refine z_icmp_eq_t (tgt := 1091) B0 dL_law_736 (by decide) rfl ?_
    exact fin u1 u2
  · obtain rfl : x2 = 43 := Int32.toInt_inj.mp (h2.trans (by decide))
    refine z_aload_n B0 dL_law_708 rfl rfl ?_
    refine z_aload_n B0 dL_law_709 rfl rfl ?_
    refine z_iload_n B0 dL_law_710 rfl rfl ?_
    refine z_iconst (v := 1) B0 dL_law_711 (by decide) ?_
    refine z_iadd (v := 1) B0 dL_law_712 (by decide) ?_
    refine y_sld (j := 1) (v := 2) B0 hX hbl (by decide) e1.symm dL_law_713 ?_
    refine z_aload_n B0 dL_law_714 rfl rfl ?_
    refine z_iload_n B0 dL_law_715 rfl rfl ?_
    refine z_iconst (v := 2) B0 dL_law_716 (by decide) ?_
    refine z_iadd (v := 2) B0 dL_law_717 (by decide) ?_
    refine y_sld (j := 2) (v := 43) B0 hX hbl (by decide) e2.symm dL_law_718 ?_
    refine z_callC B0 (z_runV (q0 := 0) (As := [.int 2, .int 43]) (st := []) B0 (c_X11_after_156 (a := a) (cS0 w)  ) cf_X11_after (cw_0 cy tE a rw (cS0 w)) rfl wm_L_87 wi_X11_after ws_X11_after dL_law_719 rfl (Nat.le_of_ble_eq_true rfl) ⟨by decide, by decide, by decide, by decide⟩) (fun r1 u1 p1 => ?_)
    obtain ⟨rfl, -⟩ := p1
    refine z_aload_n B0 dL_law_722 rfl rfl ?_
    refine z_aload_n B0 dL_law_723 rfl rfl ?_
    refine z_iload_n B0 dL_law_724 rfl rfl ?_
    refine z_iconst (v := 1) B0 dL_law_725 (by decide) ?_
    refine z_iadd (v := 1) B0 dL_law_726 (by decide) ?_
    refine y_sld (j := 1) (v := 2) B0 hX hbl (by decide) e1.symm dL_law_727 ?_
    refine z_aload_n B0 dL_law_728 rfl rfl ?_
    refine z_iload_n B0 dL_law_729 rfl rfl ?_
    refine z_iconst (v := 2) B0 dL_law_730 (by decide) ?_
    refine z_iadd (v := 2) B0 dL_law_731 (by decide) ?_
    refine y_sld (j := 2) (v := 43) B0 hX hbl (by decide) e2.symm dL_law_732 ?_
    refine z_callM B0 (z_runV (q0 := 0) (As := [.int 2, .int 43]) (st := [.int (-1)]) B0 (c_X12_after_156 (a := a2) mS0  rfl rfl rfl rfl rfl rfl rfl rfl rfl rfl rfl rfl rfl rfl rfl rfl rfl rfl rfl rfl rfl rfl rfl rfl rfl rfl rfl) cf_X12_after (mw_0 cy a2 mS0) rfl wm_L_90 wi_X12_after ws_X12_after dL_law_733 rfl (Nat.le_of_ble_eq_true rfl) ⟨by decide, by decide, by decide, by decide⟩) (fun r2 u2 p2 => ?_)
    obtain ⟨rfl, -⟩ := p2
    refine z_icmp_eq_t (tgt := 1091) B0 dL_law_736 (by decide) rfl ?_
    exact fin u1 u2
  · obtain rfl : x2 = 44 := Int32.toInt_inj.mp (h2.trans (by decide))
    refine z_aload_n B0 dL_law_708 rfl rfl ?_
    refine z_aload_n B0 dL_law_709 rfl rfl ?_
    refine z_iload_n B0 dL_law_710 rfl rfl ?_
    refine z_iconst (v := 1) B0 dL_law_711 (by decide) ?_
    refine z_iadd (v := 1) B0 dL_law_712 (by decide) ?_
    refine y_sld (j := 1) (v := 2) B0 hX hbl (by decide) e1.symm dL_law_713 ?_
    refine z_aload_n B0 dL_law_714 rfl rfl ?_
    refine z_iload_n B0 dL_law_715 rfl rfl ?_
    refine z_iconst (v := 2) B0 dL_law_716 (by decide) ?_
    refine z_iadd (v := 2) B0 dL_law_717 (by decide) ?_
    refine y_sld (j := 2) (v := 44) B0 hX hbl (by decide) e2.symm dL_law_718 ?_
    refine z_callC B0 (z_runV (q0 := 0) (As := [.int 2, .int 44]) (st := []) B0 (c_X11_after_157 (a := a) (cS0 w)  ) cf_X11_after (cw_0 cy tE a rw (cS0 w)) rfl wm_L_87 wi_X11_after ws_X11_after dL_law_719 rfl (Nat.le_of_ble_eq_true rfl) ⟨by decide, by decide, by decide, by decide⟩) (fun r1 u1 p1 => ?_)
    obtain ⟨rfl, -⟩ := p1
    refine z_aload_n B0 dL_law_722 rfl rfl ?_
    refine z_aload_n B0 dL_law_723 rfl rfl ?_
    refine z_iload_n B0 dL_law_724 rfl rfl ?_
    refine z_iconst (v := 1) B0 dL_law_725 (by decide) ?_
    refine z_iadd (v := 1) B0 dL_law_726 (by decide) ?_
    refine y_sld (j := 1) (v := 2) B0 hX hbl (by decide) e1.symm dL_law_727 ?_
    refine z_aload_n B0 dL_law_728 rfl rfl ?_
    refine z_iload_n B0 dL_law_729 rfl rfl ?_
    refine z_iconst (v := 2) B0 dL_law_730 (by decide) ?_
    refine z_iadd (v := 2) B0 dL_law_731 (by decide) ?_
    refine y_sld (j := 2) (v := 44) B0 hX hbl (by decide) e2.symm dL_law_732 ?_
    refine z_callM B0 (z_runV (q0 := 0) (As := [.int 2, .int 44]) (st := [.int (-1)]) B0 (c_X12_after_157 (a := a2) mS0  rfl rfl rfl rfl rfl rfl rfl rfl rfl rfl rfl rfl rfl rfl rfl rfl rfl rfl rfl rfl rfl rfl rfl rfl rfl rfl rfl) cf_X12_after (mw_0 cy a2 mS0) rfl wm_L_90 wi_X12_after ws_X12_after dL_law_733 rfl (Nat.le_of_ble_eq_true rfl) ⟨by decide, by decide, by decide, by decide⟩) (fun r2 u2 p2 => ?_)
    obtain ⟨rfl, -⟩ := p2
    refine z_icmp_eq_t (tgt := 1091) B0 dL_law_736 (by decide) rfl ?_
    exact fin u1 u2
  · obtain rfl : x2 = 45 := Int32.toInt_inj.mp (h2.trans (by decide))
    refine z_aload_n B0 dL_law_708 rfl rfl ?_
    refine z_aload_n B0 dL_law_709 rfl rfl ?_
    refine z_iload_n B0 dL_law_710 rfl rfl ?_
    refine z_iconst (v := 1) B0 dL_law_711 (by decide) ?_
    refine z_iadd (v := 1) B0 dL_law_712 (by decide) ?_
    refine y_sld (j := 1) (v := 2) B0 hX hbl (by decide) e1.symm dL_law_713 ?_
    refine z_aload_n B0 dL_law_714 rfl rfl ?_
    refine z_iload_n B0 dL_law_715 rfl rfl ?_
    refine z_iconst (v := 2) B0 dL_law_716 (by decide) ?_
    refine z_iadd (v := 2) B0 dL_law_717 (by decide) ?_
    refine y_sld (j := 2) (v := 45) B0 hX hbl (by decide) e2.symm dL_law_718 ?_
    refine z_callC B0 (z_runV (q0 := 0) (As := [.int 2, .int 45]) (st := []) B0 (c_X11_after_158 (a := a) (cS0 w)  ) cf_X11_after (cw_0 cy tE a rw (cS0 w)) rfl wm_L_87 wi_X11_after ws_X11_after dL_law_719 rfl (Nat.le_of_ble_eq_true rfl) ⟨by decide, by decide, by decide, by decide⟩) (fun r1 u1 p1 => ?_)
    obtain ⟨rfl, -⟩ := p1
    refine z_aload_n B0 dL_law_722 rfl rfl ?_
    refine z_aload_n B0 dL_law_723 rfl rfl ?_
    refine z_iload_n B0 dL_law_724 rfl rfl ?_
    refine z_iconst (v := 1) B0 dL_law_725 (by decide) ?_
    refine z_iadd (v := 1) B0 dL_law_726 (by decide) ?_
    refine y_sld (j := 1) (v := 2) B0 hX hbl (by decide) e1.symm dL_law_727 ?_
    refine z_aload_n B0 dL_law_728 rfl rfl ?_
    refine z_iload_n B0 dL_law_729 rfl rfl ?_
    refine z_iconst (v := 2) B0 dL_law_730 (by decide) ?_
    refine z_iadd (v := 2) B0 dL_law_731 (by decide) ?_
    refine y_sld (j := 2) (v := 45) B0 hX hbl (by decide) e2.symm dL_law_732 ?_
    refine z_callM B0 (z_runV (q0 := 0) (As := [.int 2, .int 45]) (st := [.int (-1)]) B0 (c_X12_after_158 (a := a2) mS0  rfl rfl rfl rfl rfl rfl rfl rfl rfl rfl rfl rfl rfl rfl rfl rfl rfl rfl rfl rfl rfl rfl rfl rfl rfl rfl rfl) cf_X12_after (mw_0 cy a2 mS0) rfl wm_L_90 wi_X12_after ws_X12_after dL_law_733 rfl (Nat.le_of_ble_eq_true rfl) ⟨by decide, by decide, by decide, by decide⟩) (fun r2 u2 p2 => ?_)
    obtain ⟨rfl, -⟩ := p2
    refine z_icmp_eq_t (tgt := 1091) B0 dL_law_736 (by decide) rfl ?_
    exact fin u1 u2
  · obtain rfl : x2 = 46 := Int32.toInt_inj.mp (h2.trans (by decide))
    refine z_aload_n B0 dL_law_708 rfl rfl ?_
    refine z_aload_n B0 dL_law_709 rfl rfl ?_
    refine z_iload_n B0 dL_law_710 rfl rfl ?_
    refine z_iconst (v := 1) B0 dL_law_711 (by decide) ?_
    refine z_iadd (v := 1) B0 dL_law_712 (by decide) ?_
    refine y_sld (j := 1) (v := 2) B0 hX hbl (by decide) e1.symm dL_law_713 ?_
    refine z_aload_n B0 dL_law_714 rfl rfl ?_
    refine z_iload_n B0 dL_law_715 rfl rfl ?_
    refine z_iconst (v := 2) B0 dL_law_716 (by decide) ?_
    refine z_iadd (v := 2) B0 dL_law_717 (by decide) ?_
    refine y_sld (j := 2) (v := 46) B0 hX hbl (by decide) e2.symm dL_law_718 ?_
    refine z_callC B0 (z_runV (q0 := 0) (As := [.int 2, .int 46]) (st := []) B0 (c_X11_after_159 (a := a) (cS0 w)  ) cf_X11_after (cw_0 cy tE a rw (cS0 w)) rfl wm_L_87 wi_X11_after ws_X11_after dL_law_719 rfl (Nat.le_of_ble_eq_true rfl) ⟨by decide, by decide, by decide, by decide⟩) (fun r1 u1 p1 => ?_)
    obtain ⟨rfl, -⟩ := p1
    refine z_aload_n B0 dL_law_722 rfl rfl ?_
    refine z_aload_n B0 dL_law_723 rfl rfl ?_
    refine z_iload_n B0 dL_law_724 rfl rfl ?_
    refine z_iconst (v := 1) B0 dL_law_725 (by decide) ?_
    refine z_iadd (v := 1) B0 dL_law_726 (by decide) ?_
    refine y_sld (j := 1) (v := 2) B0 hX hbl (by decide) e1.symm dL_law_727 ?_
    refine z_aload_n B0 dL_law_728 rfl rfl ?_
    refine z_iload_n B0 dL_law_729 rfl rfl ?_
    refine z_iconst (v := 2) B0 dL_law_730 (by decide) ?_
    refine z_iadd (v := 2) B0 dL_law_731 (by decide) ?_
    refine y_sld (j := 2) (v := 46) B0 hX hbl (by decide) e2.symm dL_law_732 ?_
    refine z_callM B0 (z_runV (q0 := 0) (As := [.int 2, .int 46]) (st := [.int (-1)]) B0 (c_X12_after_159 (a := a2) mS0  rfl rfl rfl rfl rfl rfl rfl rfl rfl rfl rfl rfl rfl rfl rfl rfl rfl rfl rfl rfl rfl rfl rfl rfl rfl rfl rfl) cf_X12_after (mw_0 cy a2 mS0) rfl wm_L_90 wi_X12_after ws_X12_after dL_law_733 rfl (Nat.le_of_ble_eq_true rfl) ⟨by decide, by decide, by decide, by decide⟩) (fun r2 u2 p2 => ?_)
    obtain ⟨rfl, -⟩ := p2
    refine z_icmp_eq_t (tgt := 1091) B0 dL_law_736 (by decide) rfl ?_
    exact fin u1 u2
  · obtain rfl : x2 = 47 := Int32.toInt_inj.mp (h2.trans (by decide))
    refine z_aload_n B0 dL_law_708 rfl rfl ?_
    refine z_aload_n B0 dL_law_709 rfl rfl ?_
    refine z_iload_n B0 dL_law_710 rfl rfl ?_
    refine z_iconst (v := 1) B0 dL_law_711 (by decide) ?_
    refine z_iadd (v := 1) B0 dL_law_712 (by decide) ?_
    refine y_sld (j := 1) (v := 2) B0 hX hbl (by decide) e1.symm dL_law_713 ?_
    refine z_aload_n B0 dL_law_714 rfl rfl ?_
    refine z_iload_n B0 dL_law_715 rfl rfl ?_
    refine z_iconst (v := 2) B0 dL_law_716 (by decide) ?_
    refine z_iadd (v := 2) B0 dL_law_717 (by decide) ?_
    refine y_sld (j := 2) (v := 47) B0 hX hbl (by decide) e2.symm dL_law_718 ?_
    refine z_callC B0 (z_runV (q0 := 0) (As := [.int 2, .int 47]) (st := []) B0 (c_X11_after_160 (a := a) (cS0 w)  ) cf_X11_after (cw_0 cy tE a rw (cS0 w)) rfl wm_L_87 wi_X11_after ws_X11_after dL_law_719 rfl (Nat.le_of_ble_eq_true rfl) ⟨by decide, by decide, by decide, by decide⟩) (fun r1 u1 p1 => ?_)
    obtain ⟨rfl, -⟩ := p1
    refine z_aload_n B0 dL_law_722 rfl rfl ?_
    refine z_aload_n B0 dL_law_723 rfl rfl ?_
    refine z_iload_n B0 dL_law_724 rfl rfl ?_
    refine z_iconst (v := 1) B0 dL_law_725 (by decide) ?_
    refine z_iadd (v := 1) B0 dL_law_726 (by decide) ?_
    refine y_sld (j := 1) (v := 2) B0 hX hbl (by decide) e1.symm dL_law_727 ?_
    refine z_aload_n B0 dL_law_728 rfl rfl ?_
    refine z_iload_n B0 dL_law_729 rfl rfl ?_
    refine z_iconst (v := 2) B0 dL_law_730 (by decide) ?_
    refine z_iadd (v := 2) B0 dL_law_731 (by decide) ?_
    refine y_sld (j := 2) (v := 47) B0 hX hbl (by decide) e2.symm dL_law_732 ?_
    refine z_callM B0 (z_runV (q0 := 0) (As := [.int 2, .int 47]) (st := [.int (-1)]) B0 (c_X12_after_160 (a := a2) mS0  rfl rfl rfl rfl rfl rfl rfl rfl rfl rfl rfl rfl rfl rfl rfl rfl rfl rfl rfl rfl rfl rfl rfl rfl rfl rfl rfl) cf_X12_after (mw_0 cy a2 mS0) rfl wm_L_90 wi_X12_after ws_X12_after dL_law_733 rfl (Nat.le_of_ble_eq_true rfl) ⟨by decide, by decide, by decide, by decide⟩) (fun r2 u2 p2 => ?_)
    obtain ⟨rfl, -⟩ := p2
    refine z_icmp_eq_t (tgt := 1091) B0 dL_law_736 (by decide) rfl ?_
    exact fin u1 u2
  · obtain rfl : x2 = 48 := Int32.toInt_inj.mp (h2.trans (by decide))
    refine z_aload_n B0 dL_law_708 rfl rfl ?_
    refine z_aload_n B0 dL_law_709 rfl rfl ?_
    refine z_iload_n B0 dL_law_710 rfl rfl ?_
    refine z_iconst (v := 1) B0 dL_law_711 (by decide) ?_
    refine z_iadd (v := 1) B0 dL_law_712 (by decide) ?_
    refine y_sld (j := 1) (v := 2) B0 hX hbl (by decide) e1.symm dL_law_713 ?_
    refine z_aload_n B0 dL_law_714 rfl rfl ?_
    refine z_iload_n B0 dL_law_715 rfl rfl ?_
    refine z_iconst (v := 2) B0 dL_law_716 (by decide) ?_
    refine z_iadd (v := 2) B0 dL_law_717 (by decide) ?_
    refine y_sld (j := 2) (v := 48) B0 hX hbl (by decide) e2.symm dL_law_718 ?_
    refine z_callC B0 (z_runV (q0 := 0) (As := [.int 2, .int 48]) (st := []) B0 (c_X11_after_161 (a := a) (cS0 w)  ) cf_X11_after (cw_0 cy tE a rw (cS0 w)) rfl wm_L_87 wi_X11_after ws_X11_after dL_law_719 rfl (Nat.le_of_ble_eq_true rfl) ⟨by decide, by decide, by decide, by decide⟩) (fun r1 u1 p1 => ?_)
    obtain ⟨rfl, -⟩ := p1
    refine z_aload_n B0 dL_law_722 rfl rfl ?_
    refine z_aload_n B0 dL_law_723 rfl rfl ?_
    refine z_iload_n B0 dL_law_724 rfl rfl ?_
    refine z_iconst (v := 1) B0 dL_law_725 (by decide) ?_
    refine z_iadd (v := 1) B0 dL_law_726 (by decide) ?_
    refine y_sld (j := 1) (v := 2) B0 hX hbl (by decide) e1.symm dL_law_727 ?_
    refine z_aload_n B0 dL_law_728 rfl rfl ?_
    refine z_iload_n B0 dL_law_729 rfl rfl ?_
    refine z_iconst (v := 2) B0 dL_law_730 (by decide) ?_
    refine z_iadd (v := 2) B0 dL_law_731 (by decide) ?_
    refine y_sld (j := 2) (v := 48) B0 hX hbl (by decide) e2.symm dL_law_732 ?_
    refine z_callM B0 (z_runV (q0 := 0) (As := [.int 2, .int 48]) (st := [.int (-1)]) B0 (c_X12_after_161 (a := a2) mS0  rfl rfl rfl rfl rfl rfl rfl rfl rfl rfl rfl rfl rfl rfl rfl rfl rfl rfl rfl rfl rfl rfl rfl rfl rfl rfl rfl) cf_X12_after (mw_0 cy a2 mS0) rfl wm_L_90 wi_X12_after ws_X12_after dL_law_733 rfl (Nat.le_of_ble_eq_true rfl) ⟨by decide, by decide, by decide, by decide⟩) (fun r2 u2 p2 => ?_)
    obtain ⟨rfl, -⟩ := p2
    refine z_icmp_eq_t (tgt := 1091) B0 dL_law_736 (by decide) rfl ?_
    exact fin u1 u2
  · obtain rfl : x2 = 49 := Int32.toInt_inj.mp (h2.trans (by decide))
    refine z_aload_n B0 dL_law_708 rfl rfl ?_
    refine z_aload_n B0 dL_law_709 rfl rfl ?_
    refine z_iload_n B0 dL_law_710 rfl rfl ?_
    refine z_iconst (v := 1) B0 dL_law_711 (by decide) ?_
    refine z_iadd (v := 1) B0 dL_law_712 (by decide) ?_
    refine y_sld (j := 1) (v := 2) B0 hX hbl (by decide) e1.symm dL_law_713 ?_
    refine z_aload_n B0 dL_law_714 rfl rfl ?_
    refine z_iload_n B0 dL_law_715 rfl rfl ?_
    refine z_iconst (v := 2) B0 dL_law_716 (by decide) ?_
    refine z_iadd (v := 2) B0 dL_law_717 (by decide) ?_
    refine y_sld (j := 2) (v := 49) B0 hX hbl (by decide) e2.symm dL_law_718 ?_
    refine z_callC B0 (z_runV (q0 := 0) (As := [.int 2, .int 49]) (st := []) B0 (c_X11_after_162 (a := a) (cS0 w)  ) cf_X11_after (cw_0 cy tE a rw (cS0 w)) rfl wm_L_87 wi_X11_after ws_X11_after dL_law_719 rfl (Nat.le_of_ble_eq_true rfl) ⟨by decide, by decide, by decide, by decide⟩) (fun r1 u1 p1 => ?_)
    obtain ⟨rfl, -⟩ := p1
    refine z_aload_n B0 dL_law_722 rfl rfl ?_
    refine z_aload_n B0 dL_law_723 rfl rfl ?_
    refine z_iload_n B0 dL_law_724 rfl rfl ?_
    refine z_iconst (v := 1) B0 dL_law_725 (by decide) ?_
    refine z_iadd (v := 1) B0 dL_law_726 (by decide) ?_
    refine y_sld (j := 1) (v := 2) B0 hX hbl (by decide) e1.symm dL_law_727 ?_
    refine z_aload_n B0 dL_law_728 rfl rfl ?_
    refine z_iload_n B0 dL_law_729 rfl rfl ?_
    refine z_iconst (v := 2) B0 dL_law_730 (by decide) ?_
    refine z_iadd (v := 2) B0 dL_law_731 (by decide) ?_
    refine y_sld (j := 2) (v := 49) B0 hX hbl (by decide) e2.symm dL_law_732 ?_
    refine z_callM B0 (z_runV (q0 := 0) (As := [.int 2, .int 49]) (st := [.int (-1)]) B0 (c_X12_after_162 (a := a2) mS0  rfl rfl rfl rfl rfl rfl rfl rfl rfl rfl rfl rfl rfl rfl rfl rfl rfl rfl rfl rfl rfl rfl rfl rfl rfl rfl rfl) cf_X12_after (mw_0 cy a2 mS0) rfl wm_L_90 wi_X12_after ws_X12_after dL_law_733 rfl (Nat.le_of_ble_eq_true rfl) ⟨by decide, by decide, by decide, by decide⟩) (fun r2 u2 p2 => ?_)
    obtain ⟨rfl, -⟩ := p2
    refine z_icmp_eq_t (tgt := 1091) B0 dL_law_736 (by decide) rfl ?_
    exact fin u1 u2
  · obtain rfl : x2 = 50 := Int32.toInt_inj.mp (h2.trans (by decide))
    refine z_aload_n B0 dL_law_708 rfl rfl ?_
    refine z_aload_n B0 dL_law_709 rfl rfl ?_
    refine z_iload_n B0 dL_law_710 rfl rfl ?_
    refine z_iconst (v := 1) B0 dL_law_711 (by decide) ?_
    refine z_iadd (v := 1) B0 dL_law_712 (by decide) ?_
    refine y_sld (j := 1) (v := 2) B0 hX hbl (by decide) e1.symm dL_law_713 ?_
    refine z_aload_n B0 dL_law_714 rfl rfl ?_
    refine z_iload_n B0 dL_law_715 rfl rfl ?_
    refine z_iconst (v := 2) B0 dL_law_716 (by decide) ?_
    refine z_iadd (v := 2) B0 dL_law_717 (by decide) ?_
    refine y_sld (j := 2) (v := 50) B0 hX hbl (by decide) e2.symm dL_law_718 ?_
    refine z_callC B0 (z_runV (q0 := 0) (As := [.int 2, .int 50]) (st := []) B0 (c_X11_after_163 (a := a) (cS0 w)  rfl rfl rfl hrw) cf_X11_after (cw_0 cy tE a rw (cS0 w)) rfl wm_L_87 wi_X11_after ws_X11_after dL_law_719 rfl (Nat.le_of_ble_eq_true rfl) ⟨by decide, by decide, by decide, by decide⟩) (fun r1 u1 p1 => ?_)
    obtain ⟨rfl, -⟩ := p1
    refine z_aload_n B0 dL_law_722 rfl rfl ?_
    refine z_aload_n B0 dL_law_723 rfl rfl ?_
    refine z_iload_n B0 dL_law_724 rfl rfl ?_
    refine z_iconst (v := 1) B0 dL_law_725 (by decide) ?_
    refine z_iadd (v := 1) B0 dL_law_726 (by decide) ?_
    refine y_sld (j := 1) (v := 2) B0 hX hbl (by decide) e1.symm dL_law_727 ?_
    refine z_aload_n B0 dL_law_728 rfl rfl ?_
    refine z_iload_n B0 dL_law_729 rfl rfl ?_
    refine z_iconst (v := 2) B0 dL_law_730 (by decide) ?_
    refine z_iadd (v := 2) B0 dL_law_731 (by decide) ?_
    refine y_sld (j := 2) (v := 50) B0 hX hbl (by decide) e2.symm dL_law_732 ?_
    refine z_callM B0 (z_runV (q0 := 0) (As := [.int 2, .int 50]) (st := [.int 0]) B0 (c_X12_after_163 (a := a2) mS0  rfl rfl rfl rfl rfl rfl rfl rfl rfl rfl rfl rfl rfl rfl rfl rfl rfl rfl rfl rfl rfl rfl rfl rfl rfl rfl rfl) cf_X12_after (mw_0 cy a2 mS0) rfl wm_L_90 wi_X12_after ws_X12_after dL_law_733 rfl (Nat.le_of_ble_eq_true rfl) ⟨by decide, by decide, by decide, by decide⟩) (fun r2 u2 p2 => ?_)
    obtain ⟨rfl, -⟩ := p2
    refine z_icmp_eq_t (tgt := 1091) B0 dL_law_736 (by decide) rfl ?_
    exact fin u1 u2
  · refine z_aload_n B0 dL_law_708 rfl rfl ?_
    refine z_aload_n B0 dL_law_709 rfl rfl ?_
    refine z_iload_n B0 dL_law_710 rfl rfl ?_
    refine z_iconst (v := 1) B0 dL_law_711 (by decide) ?_
    refine z_iadd (v := 1) B0 dL_law_712 (by decide) ?_
    refine y_sld (j := 1) (v := 2) B0 hX hbl (by decide) e1.symm dL_law_713 ?_
    refine z_aload_n B0 dL_law_714 rfl rfl ?_
    refine z_iload_n B0 dL_law_715 rfl rfl ?_
    refine z_iconst (v := 2) B0 dL_law_716 (by decide) ?_
    refine z_iadd (v := 2) B0 dL_law_717 (by decide) ?_
    refine y_sld (j := 2) (v := x2) B0 hX hbl (by decide) e2.symm dL_law_718 ?_
    refine z_callC B0 (z_runV (q0 := 0) (As := [.int 2, .int x2]) (st := []) B0 (c_X11_after_164 (a := a) (cS0 w) x2 ⟨by omega, by omega⟩) cf_X11_after (cw_0 cy tE a rw (cS0 w)) rfl wm_L_87 wi_X11_after ws_X11_after dL_law_719 rfl (Nat.le_of_ble_eq_true rfl) ⟨by decide, by decide, by decide, by decide⟩) (fun r1 u1 p1 => ?_)
    obtain ⟨rfl, -⟩ := p1
    refine z_aload_n B0 dL_law_722 rfl rfl ?_
    refine z_aload_n B0 dL_law_723 rfl rfl ?_
    refine z_iload_n B0 dL_law_724 rfl rfl ?_
    refine z_iconst (v := 1) B0 dL_law_725 (by decide) ?_
    refine z_iadd (v := 1) B0 dL_law_726 (by decide) ?_
    refine y_sld (j := 1) (v := 2) B0 hX hbl (by decide) e1.symm dL_law_727 ?_
    refine z_aload_n B0 dL_law_728 rfl rfl ?_
    refine z_iload_n B0 dL_law_729 rfl rfl ?_
    refine z_iconst (v := 2) B0 dL_law_730 (by decide) ?_
    refine z_iadd (v := 2) B0 dL_law_731 (by decide) ?_
    refine y_sld (j := 2) (v := x2) B0 hX hbl (by decide) e2.symm dL_law_732 ?_
    refine z_callM B0 (z_runV (q0 := 0) (As := [.int 2, .int x2]) (st := [.int (-1)]) B0 (c_X12_after_164 (a := a2) mS0 x2 rfl rfl rfl rfl rfl rfl rfl rfl rfl rfl rfl rfl rfl rfl rfl rfl rfl rfl rfl rfl rfl rfl rfl rfl rfl rfl rfl ⟨by omega, by omega⟩) cf_X12_after (mw_0 cy a2 mS0) rfl wm_L_90 wi_X12_after ws_X12_after dL_law_733 rfl (Nat.le_of_ble_eq_true rfl) ⟨by decide, by decide, by decide, by decide⟩) (fun r2 u2 p2 => ?_)
    obtain ⟨rfl, -⟩ := p2
    refine z_icmp_eq_t (tgt := 1091) B0 dL_law_736 (by decide) rfl ?_
    exact fin u1 u2

set_option maxHeartbeats 8000000 in
set_option maxRecDepth 100000 in
theorem lo_after_3 {p : Program} {l : Launch} {e : Env} {s : State} {m : MethodId} {below : List Frame} {meth : Method} {c : Code} {D : va_G} {cy : Nat → ClassId} {tB tE b : Nat} {a a2 : Nat → Nat} {rw : Nat → Option Nat} {xs : Nat → Int32} (B0 : Bz p room_1 s m #[Value.ref b] meth c D cy s.heap.size tB tE (fun q => s.heap.size ≤ q) 4 cL_law RL meth.sig.returnType meth.name 2048 84000 600000 7302250) (hX : va_X b 6 xs s s.heap) (hbl : b < s.heap.size) (hrw : ∀ i, i < 6 → rw i = some (a (36 + 2 * i))) (w : Nat → Int64) (fin : ∀ S S9 : GS, Z p l e room_1 s m #[Value.ref b] below meth c D (fun q => s.heap.size ≤ q) 4 (lw_Z below #[Value.ref b] s) 200 60000 (cw cy tE a rw S ++ mw cy a2 S9) [(3, .int 0), (2, .ref (a2 0)), (1, .ref (a 0)), (0, .ref b)] 1091 []) (e1 : 3 = xs 1) : Z p l e room_1 s m #[Value.ref b] below meth c D (fun q => s.heap.size ≤ q) 4 (lw_Z below #[Value.ref b] s) 200 60000 (cw cy tE a rw (cS0 w) ++ mw cy a2 mS0) [(3, .int 0), (2, .ref (a2 0)), (1, .ref (a 0)), (0, .ref b)] 708 [] := by
  obtain ⟨x2, e2⟩ : ∃ x, x = xs 2 := ⟨_, rfl⟩
  rcases (show ((-2147483648) ≤ x2.toInt ∧ x2.toInt ≤ (-2147483609)) ∨ ((-2147483608) ≤ x2.toInt ∧ x2.toInt ≤ (-1)) ∨ x2.toInt = 0 ∨ x2.toInt = 1 ∨ x2.toInt = 2 ∨ x2.toInt = 3 ∨ x2.toInt = 4 ∨ x2.toInt = 5 ∨ x2.toInt = 6 ∨ x2.toInt = 7 ∨ x2.toInt = 8 ∨ x2.toInt = 9 ∨ x2.toInt = 10 ∨ x2.toInt = 11 ∨ x2.toInt = 12 ∨ x2.toInt = 13 ∨ x2.toInt = 14 ∨ x2.toInt = 15 ∨ x2.toInt = 16 ∨ x2.toInt = 17 ∨ x2.toInt = 18 ∨ x2.toInt = 19 ∨ x2.toInt = 20 ∨ x2.toInt = 21 ∨ x2.toInt = 22 ∨ x2.toInt = 23 ∨ x2.toInt = 24 ∨ x2.toInt = 25 ∨ x2.toInt = 26 ∨ x2.toInt = 27 ∨ x2.toInt = 28 ∨ x2.toInt = 29 ∨ x2.toInt = 30 ∨ x2.toInt = 31 ∨ x2.toInt = 32 ∨ x2.toInt = 33 ∨ x2.toInt = 34 ∨ x2.toInt = 35 ∨ x2.toInt = 36 ∨ x2.toInt = 37 ∨ x2.toInt = 38 ∨ x2.toInt = 39 ∨ x2.toInt = 40 ∨ x2.toInt = 41 ∨ x2.toInt = 42 ∨ x2.toInt = 43 ∨ x2.toInt = 44 ∨ x2.toInt = 45 ∨ x2.toInt = 46 ∨ x2.toInt = 47 ∨ x2.toInt = 48 ∨ x2.toInt = 49 ∨ x2.toInt = 50 ∨ (51 ≤ x2.toInt ∧ x2.toInt ≤ 2147483647) by have g1 := Int32.le_toInt x2; have g2 := Int32.toInt_lt x2; omega) with h2 | h2 | h2 | h2 | h2 | h2 | h2 | h2 | h2 | h2 | h2 | h2 | h2 | h2 | h2 | h2 | h2 | h2 | h2 | h2 | h2 | h2 | h2 | h2 | h2 | h2 | h2 | h2 | h2 | h2 | h2 | h2 | h2 | h2 | h2 | h2 | h2 | h2 | h2 | h2 | h2 | h2 | h2 | h2 | h2 | h2 | h2 | h2 | h2 | h2 | h2 | h2 | h2 | h2
  · refine z_aload_n B0 dL_law_708 rfl rfl ?_
    refine z_aload_n B0 dL_law_709 rfl rfl ?_
    refine z_iload_n B0 dL_law_710 rfl rfl ?_
    refine z_iconst (v := 1) B0 dL_law_711 (by decide) ?_
    refine z_iadd (v := 1) B0 dL_law_712 (by decide) ?_
    refine y_sld (j := 1) (v := 3) B0 hX hbl (by decide) e1.symm dL_law_713 ?_
    refine z_aload_n B0 dL_law_714 rfl rfl ?_
    refine z_iload_n B0 dL_law_715 rfl rfl ?_
    refine z_iconst (v := 2) B0 dL_law_716 (by decide) ?_
    refine z_iadd (v := 2) B0 dL_law_717 (by decide) ?_
    refine y_sld (j := 2) (v := x2) B0 hX hbl (by decide) e2.symm dL_law_718 ?_
    refine z_callC B0 (z_runV (q0 := 0) (As := [.int 3, .int x2]) (st := []) B0 (c_X11_after_165 (a := a) (cS0 w) x2 ⟨by omega, by omega⟩) cf_X11_after (cw_0 cy tE a rw (cS0 w)) rfl wm_L_87 wi_X11_after ws_X11_after dL_law_719 rfl (Nat.le_of_ble_eq_true rfl) ⟨by decide, by decide, by decide, by decide⟩) (fun r1 u1 p1 => ?_)
    obtain ⟨rfl, -⟩ := p1
    refine z_aload_n B0 dL_law_722 rfl rfl ?_
    refine z_aload_n B0 dL_law_723 rfl rfl ?_
    refine z_iload_n B0 dL_law_724 rfl rfl ?_
    refine z_iconst (v := 1) B0 dL_law_725 (by decide) ?_
    refine z_iadd (v := 1) B0 dL_law_726 (by decide) ?_
    refine y_sld (j := 1) (v := 3) B0 hX hbl (by decide) e1.symm dL_law_727 ?_
    refine z_aload_n B0 dL_law_728 rfl rfl ?_
    refine z_iload_n B0 dL_law_729 rfl rfl ?_
    refine z_iconst (v := 2) B0 dL_law_730 (by decide) ?_
    refine z_iadd (v := 2) B0 dL_law_731 (by decide) ?_
    refine y_sld (j := 2) (v := x2) B0 hX hbl (by decide) e2.symm dL_law_732 ?_
    refine z_callM B0 (z_runV (q0 := 0) (As := [.int 3, .int x2]) (st := [.int (-1)]) B0 (c_X12_after_165 (a := a2) mS0 x2 rfl rfl rfl rfl rfl rfl rfl rfl rfl rfl rfl rfl rfl rfl rfl rfl rfl rfl rfl rfl rfl rfl rfl rfl rfl rfl rfl ⟨by omega, by omega⟩) cf_X12_after (mw_0 cy a2 mS0) rfl wm_L_90 wi_X12_after ws_X12_after dL_law_733 rfl (Nat.le_of_ble_eq_true rfl) ⟨by decide, by decide, by decide, by decide⟩) (fun r2 u2 p2 => ?_)
    obtain ⟨rfl, -⟩ := p2
    refine z_icmp_eq_t (tgt := 1091) B0 dL_law_736 (by decide) rfl ?_
    exact fin u1 u2
  · refine z_aload_n B0 dL_law_708 rfl rfl ?_
    refine z_aload_n B0 dL_law_709 rfl rfl ?_
    refine z_iload_n B0 dL_law_710 rfl rfl ?_
    refine z_iconst (v := 1) B0 dL_law_711 (by decide) ?_
    refine z_iadd (v := 1) B0 dL_law_712 (by decide) ?_
    refine y_sld (j := 1) (v := 3) B0 hX hbl (by decide) e1.symm dL_law_713 ?_
    refine z_aload_n B0 dL_law_714 rfl rfl ?_
    refine z_iload_n B0 dL_law_715 rfl rfl ?_
    refine z_iconst (v := 2) B0 dL_law_716 (by decide) ?_
    refine z_iadd (v := 2) B0 dL_law_717 (by decide) ?_
    refine y_sld (j := 2) (v := x2) B0 hX hbl (by decide) e2.symm dL_law_718 ?_
    refine z_callC B0 (z_runV (q0 := 0) (As := [.int 3, .int x2]) (st := []) B0 (c_X11_after_166 (a := a) (cS0 w) x2 ⟨by omega, by omega⟩) cf_X11_after (cw_0 cy tE a rw (cS0 w)) rfl wm_L_87 wi_X11_after ws_X11_after dL_law_719 rfl (Nat.le_of_ble_eq_true rfl) ⟨by decide, by decide, by decide, by decide⟩) (fun r1 u1 p1 => ?_)
    obtain ⟨rfl, -⟩ := p1
    refine z_aload_n B0 dL_law_722 rfl rfl ?_
    refine z_aload_n B0 dL_law_723 rfl rfl ?_
    refine z_iload_n B0 dL_law_724 rfl rfl ?_
    refine z_iconst (v := 1) B0 dL_law_725 (by decide) ?_
    refine z_iadd (v := 1) B0 dL_law_726 (by decide) ?_
    refine y_sld (j := 1) (v := 3) B0 hX hbl (by decide) e1.symm dL_law_727 ?_
    refine z_aload_n B0 dL_law_728 rfl rfl ?_
    refine z_iload_n B0 dL_law_729 rfl rfl ?_
    refine z_iconst (v := 2) B0 dL_law_730 (by decide) ?_
    refine z_iadd (v := 2) B0 dL_law_731 (by decide) ?_
    refine y_sld (j := 2) (v := x2) B0 hX hbl (by decide) e2.symm dL_law_732 ?_
    refine z_callM B0 (z_runV (q0 := 0) (As := [.int 3, .int x2]) (st := [.int (-1)]) B0 (c_X12_after_166 (a := a2) mS0 x2 rfl rfl rfl rfl rfl rfl rfl rfl rfl rfl rfl rfl rfl rfl rfl rfl rfl rfl rfl rfl rfl rfl rfl rfl rfl rfl rfl ⟨by omega, by omega⟩) cf_X12_after (mw_0 cy a2 mS0) rfl wm_L_90 wi_X12_after ws_X12_after dL_law_733 rfl (Nat.le_of_ble_eq_true rfl) ⟨by decide, by decide, by decide, by decide⟩) (fun r2 u2 p2 => ?_)
    obtain ⟨rfl, -⟩ := p2
    refine z_icmp_eq_t (tgt := 1091) B0 dL_law_736 (by decide) rfl ?_
    exact fin u1 u2
  · obtain rfl : x2 = 0 := Int32.toInt_inj.mp (h2.trans (by decide))
    refine z_aload_n B0 dL_law_708 rfl rfl ?_
    refine z_aload_n B0 dL_law_709 rfl rfl ?_
    refine z_iload_n B0 dL_law_710 rfl rfl ?_
    refine z_iconst (v := 1) B0 dL_law_711 (by decide) ?_
    refine z_iadd (v := 1) B0 dL_law_712 (by decide) ?_
    refine y_sld (j := 1) (v := 3) B0 hX hbl (by decide) e1.symm dL_law_713 ?_
    refine z_aload_n B0 dL_law_714 rfl rfl ?_
    refine z_iload_n B0 dL_law_715 rfl rfl ?_
    refine z_iconst (v := 2) B0 dL_law_716 (by decide) ?_
    refine z_iadd (v := 2) B0 dL_law_717 (by decide) ?_
    refine y_sld (j := 2) (v := 0) B0 hX hbl (by decide) e2.symm dL_law_718 ?_
    refine z_callC B0 (z_runV (q0 := 0) (As := [.int 3, .int 0]) (st := []) B0 (c_X11_after_167 (a := a) (cS0 w)  rfl rfl rfl hrw) cf_X11_after (cw_0 cy tE a rw (cS0 w)) rfl wm_L_87 wi_X11_after ws_X11_after dL_law_719 rfl (Nat.le_of_ble_eq_true rfl) ⟨by decide, by decide, by decide, by decide⟩) (fun r1 u1 p1 => ?_)
    obtain ⟨rfl, -⟩ := p1
    refine z_aload_n B0 dL_law_722 rfl rfl ?_
    refine z_aload_n B0 dL_law_723 rfl rfl ?_
    refine z_iload_n B0 dL_law_724 rfl rfl ?_
    refine z_iconst (v := 1) B0 dL_law_725 (by decide) ?_
    refine z_iadd (v := 1) B0 dL_law_726 (by decide) ?_
    refine y_sld (j := 1) (v := 3) B0 hX hbl (by decide) e1.symm dL_law_727 ?_
    refine z_aload_n B0 dL_law_728 rfl rfl ?_
    refine z_iload_n B0 dL_law_729 rfl rfl ?_
    refine z_iconst (v := 2) B0 dL_law_730 (by decide) ?_
    refine z_iadd (v := 2) B0 dL_law_731 (by decide) ?_
    refine y_sld (j := 2) (v := 0) B0 hX hbl (by decide) e2.symm dL_law_732 ?_
    refine z_callM B0 (z_runV (q0 := 0) (As := [.int 3, .int 0]) (st := [.int 0]) B0 (c_X12_after_167 (a := a2) mS0  rfl rfl rfl rfl rfl rfl rfl rfl rfl rfl rfl rfl rfl rfl rfl rfl rfl rfl rfl rfl rfl rfl rfl rfl rfl rfl rfl) cf_X12_after (mw_0 cy a2 mS0) rfl wm_L_90 wi_X12_after ws_X12_after dL_law_733 rfl (Nat.le_of_ble_eq_true rfl) ⟨by decide, by decide, by decide, by decide⟩) (fun r2 u2 p2 => ?_)
    obtain ⟨rfl, -⟩ := p2
    refine z_icmp_eq_t (tgt := 1091) B0 dL_law_736 (by decide) rfl ?_
    exact fin u1 u2
  · obtain rfl : x2 = 1 := Int32.toInt_inj.mp (h2.trans (by decide))
    refine z_aload_n B0 dL_law_708 rfl rfl ?_
    refine z_aload_n B0 dL_law_709 rfl rfl ?_
    refine z_iload_n B0 dL_law_710 rfl rfl ?_
    refine z_iconst (v := 1) B0 dL_law_711 (by decide) ?_
    refine z_iadd (v := 1) B0 dL_law_712 (by decide) ?_
    refine y_sld (j := 1) (v := 3) B0 hX hbl (by decide) e1.symm dL_law_713 ?_
    refine z_aload_n B0 dL_law_714 rfl rfl ?_
    refine z_iload_n B0 dL_law_715 rfl rfl ?_
    refine z_iconst (v := 2) B0 dL_law_716 (by decide) ?_
    refine z_iadd (v := 2) B0 dL_law_717 (by decide) ?_
    refine y_sld (j := 2) (v := 1) B0 hX hbl (by decide) e2.symm dL_law_718 ?_
    refine z_callC B0 (z_runV (q0 := 0) (As := [.int 3, .int 1]) (st := []) B0 (c_X11_after_168 (a := a) (cS0 w)  rfl rfl rfl hrw) cf_X11_after (cw_0 cy tE a rw (cS0 w)) rfl wm_L_87 wi_X11_after ws_X11_after dL_law_719 rfl (Nat.le_of_ble_eq_true rfl) ⟨by decide, by decide, by decide, by decide⟩) (fun r1 u1 p1 => ?_)
    obtain ⟨rfl, -⟩ := p1
    refine z_aload_n B0 dL_law_722 rfl rfl ?_
    refine z_aload_n B0 dL_law_723 rfl rfl ?_
    refine z_iload_n B0 dL_law_724 rfl rfl ?_
    refine z_iconst (v := 1) B0 dL_law_725 (by decide) ?_
    refine z_iadd (v := 1) B0 dL_law_726 (by decide) ?_
    refine y_sld (j := 1) (v := 3) B0 hX hbl (by decide) e1.symm dL_law_727 ?_
    refine z_aload_n B0 dL_law_728 rfl rfl ?_
    refine z_iload_n B0 dL_law_729 rfl rfl ?_
    refine z_iconst (v := 2) B0 dL_law_730 (by decide) ?_
    refine z_iadd (v := 2) B0 dL_law_731 (by decide) ?_
    refine y_sld (j := 2) (v := 1) B0 hX hbl (by decide) e2.symm dL_law_732 ?_
    refine z_callM B0 (z_runV (q0 := 0) (As := [.int 3, .int 1]) (st := [.int 0]) B0 (c_X12_after_168 (a := a2) mS0  rfl rfl rfl rfl rfl rfl rfl rfl rfl rfl rfl rfl rfl rfl rfl rfl rfl rfl rfl rfl rfl rfl rfl rfl rfl rfl rfl) cf_X12_after (mw_0 cy a2 mS0) rfl wm_L_90 wi_X12_after ws_X12_after dL_law_733 rfl (Nat.le_of_ble_eq_true rfl) ⟨by decide, by decide, by decide, by decide⟩) (fun r2 u2 p2 => ?_)
    obtain ⟨rfl, -⟩ := p2
    refine z_icmp_eq_t (tgt := 1091) B0 dL_law_736 (by decide) rfl ?_
    exact fin u1 u2
  · obtain rfl : x2 = 2 := Int32.toInt_inj.mp (h2.trans (by decide))
    refine z_aload_n B0 dL_law_708 rfl rfl ?_
    refine z_aload_n B0 dL_law_709 rfl rfl ?_
    refine z_iload_n B0 dL_law_710 rfl rfl ?_
    refine z_iconst (v := 1) B0 dL_law_711 (by decide) ?_
    refine z_iadd (v := 1) B0 dL_law_712 (by decide) ?_
    refine y_sld (j := 1) (v := 3) B0 hX hbl (by decide) e1.symm dL_law_713 ?_
    refine z_aload_n B0 dL_law_714 rfl rfl ?_
    refine z_iload_n B0 dL_law_715 rfl rfl ?_
    refine z_iconst (v := 2) B0 dL_law_716 (by decide) ?_
    refine z_iadd (v := 2) B0 dL_law_717 (by decide) ?_
    refine y_sld (j := 2) (v := 2) B0 hX hbl (by decide) e2.symm dL_law_718 ?_
    refine z_callC B0 (z_runV (q0 := 0) (As := [.int 3, .int 2]) (st := []) B0 (c_X11_after_169 (a := a) (cS0 w)  rfl rfl rfl hrw) cf_X11_after (cw_0 cy tE a rw (cS0 w)) rfl wm_L_87 wi_X11_after ws_X11_after dL_law_719 rfl (Nat.le_of_ble_eq_true rfl) ⟨by decide, by decide, by decide, by decide⟩) (fun r1 u1 p1 => ?_)
    obtain ⟨rfl, -⟩ := p1
    refine z_aload_n B0 dL_law_722 rfl rfl ?_
    refine z_aload_n B0 dL_law_723 rfl rfl ?_
    refine z_iload_n B0 dL_law_724 rfl rfl ?_
    refine z_iconst (v := 1) B0 dL_law_725 (by decide) ?_
    refine z_iadd (v := 1) B0 dL_law_726 (by decide) ?_
    refine y_sld (j := 1) (v := 3) B0 hX hbl (by decide) e1.symm dL_law_727 ?_
    refine z_aload_n B0 dL_law_728 rfl rfl ?_
    refine z_iload_n B0 dL_law_729 rfl rfl ?_
    refine z_iconst (v := 2) B0 dL_law_730 (by decide) ?_
    refine z_iadd (v := 2) B0 dL_law_731 (by decide) ?_
    refine y_sld (j := 2) (v := 2) B0 hX hbl (by decide) e2.symm dL_law_732 ?_
    refine z_callM B0 (z_runV (q0 := 0) (As := [.int 3, .int 2]) (st := [.int 0]) B0 (c_X12_after_169 (a := a2) mS0  rfl rfl rfl rfl rfl rfl rfl rfl rfl rfl rfl rfl rfl rfl rfl rfl rfl rfl rfl rfl rfl rfl rfl rfl rfl rfl rfl) cf_X12_after (mw_0 cy a2 mS0) rfl wm_L_90 wi_X12_after ws_X12_after dL_law_733 rfl (Nat.le_of_ble_eq_true rfl) ⟨by decide, by decide, by decide, by decide⟩) (fun r2 u2 p2 => ?_)
    obtain ⟨rfl, -⟩ := p2
    refine z_icmp_eq_t (tgt := 1091) B0 dL_law_736 (by decide) rfl ?_
    exact fin u1 u2
  · obtain rfl : x2 = 3 := Int32.toInt_inj.mp (h2.trans (by decide))
    refine z_aload_n B0 dL_law_708 rfl rfl ?_
    refine z_aload_n B0 dL_law_709 rfl rfl ?_
    refine z_iload_n B0 dL_law_710 rfl rfl ?_
    refine z_iconst (v := 1) B0 dL_law_711 (by decide) ?_
    refine z_iadd (v := 1) B0 dL_law_712 (by decide) ?_
    refine y_sld (j := 1) (v := 3) B0 hX hbl (by decide) e1.symm dL_law_713 ?_
    refine z_aload_n B0 dL_law_714 rfl rfl ?_
    refine z_iload_n B0 dL_law_715 rfl rfl ?_
    refine z_iconst (v := 2) B0 dL_law_716 (by decide) ?_
    refine z_iadd (v := 2) B0 dL_law_717 (by decide) ?_
    refine y_sld (j := 2) (v := 3) B0 hX hbl (by decide) e2.symm dL_law_718 ?_
    refine z_callC B0 (z_runV (q0 := 0) (As := [.int 3, .int 3]) (st := []) B0 (c_X11_after_170 (a := a) (cS0 w)  ) cf_X11_after (cw_0 cy tE a rw (cS0 w)) rfl wm_L_87 wi_X11_after ws_X11_after dL_law_719 rfl (Nat.le_of_ble_eq_true rfl) ⟨by decide, by decide, by decide, by decide⟩) (fun r1 u1 p1 => ?_)
    obtain ⟨rfl, -⟩ := p1
    refine z_aload_n B0 dL_law_722 rfl rfl ?_
    refine z_aload_n B0 dL_law_723 rfl rfl ?_
    refine z_iload_n B0 dL_law_724 rfl rfl ?_
    refine z_iconst (v := 1) B0 dL_law_725 (by decide) ?_
    refine z_iadd (v := 1) B0 dL_law_726 (by decide) ?_
    refine y_sld (j := 1) (v := 3) B0 hX hbl (by decide) e1.symm dL_law_727 ?_
    refine z_aload_n B0 dL_law_728 rfl rfl ?_
    refine z_iload_n B0 dL_law_729 rfl rfl ?_
    refine z_iconst (v := 2) B0 dL_law_730 (by decide) ?_
    refine z_iadd (v := 2) B0 dL_law_731 (by decide) ?_
    refine y_sld (j := 2) (v := 3) B0 hX hbl (by decide) e2.symm dL_law_732 ?_
    refine z_callM B0 (z_runV (q0 := 0) (As := [.int 3, .int 3]) (st := [.int (-1)]) B0 (c_X12_after_170 (a := a2) mS0  rfl rfl rfl rfl rfl rfl rfl rfl rfl rfl rfl rfl rfl rfl rfl rfl rfl rfl rfl rfl rfl rfl rfl rfl rfl rfl rfl) cf_X12_after (mw_0 cy a2 mS0) rfl wm_L_90 wi_X12_after ws_X12_after dL_law_733 rfl (Nat.le_of_ble_eq_true rfl) ⟨by decide, by decide, by decide, by decide⟩) (fun r2 u2 p2 => ?_)
    obtain ⟨rfl, -⟩ := p2
    refine z_icmp_eq_t (tgt := 1091) B0 dL_law_736 (by decide) rfl ?_
    exact fin u1 u2
  · obtain rfl : x2 = 4 := Int32.toInt_inj.mp (h2.trans (by decide))
    refine z_aload_n B0 dL_law_708 rfl rfl ?_
    refine z_aload_n B0 dL_law_709 rfl rfl ?_
    refine z_iload_n B0 dL_law_710 rfl rfl ?_
    refine z_iconst (v := 1) B0 dL_law_711 (by decide) ?_
    refine z_iadd (v := 1) B0 dL_law_712 (by decide) ?_
    refine y_sld (j := 1) (v := 3) B0 hX hbl (by decide) e1.symm dL_law_713 ?_
    refine z_aload_n B0 dL_law_714 rfl rfl ?_
    refine z_iload_n B0 dL_law_715 rfl rfl ?_
    refine z_iconst (v := 2) B0 dL_law_716 (by decide) ?_
    refine z_iadd (v := 2) B0 dL_law_717 (by decide) ?_
    refine y_sld (j := 2) (v := 4) B0 hX hbl (by decide) e2.symm dL_law_718 ?_
    refine z_callC B0 (z_runV (q0 := 0) (As := [.int 3, .int 4]) (st := []) B0 (c_X11_after_171 (a := a) (cS0 w)  ) cf_X11_after (cw_0 cy tE a rw (cS0 w)) rfl wm_L_87 wi_X11_after ws_X11_after dL_law_719 rfl (Nat.le_of_ble_eq_true rfl) ⟨by decide, by decide, by decide, by decide⟩) (fun r1 u1 p1 => ?_)
    obtain ⟨rfl, -⟩ := p1
    refine z_aload_n B0 dL_law_722 rfl rfl ?_
    refine z_aload_n B0 dL_law_723 rfl rfl ?_
    refine z_iload_n B0 dL_law_724 rfl rfl ?_
    refine z_iconst (v := 1) B0 dL_law_725 (by decide) ?_
    refine z_iadd (v := 1) B0 dL_law_726 (by decide) ?_
    refine y_sld (j := 1) (v := 3) B0 hX hbl (by decide) e1.symm dL_law_727 ?_
    refine z_aload_n B0 dL_law_728 rfl rfl ?_
    refine z_iload_n B0 dL_law_729 rfl rfl ?_
    refine z_iconst (v := 2) B0 dL_law_730 (by decide) ?_
    refine z_iadd (v := 2) B0 dL_law_731 (by decide) ?_
    refine y_sld (j := 2) (v := 4) B0 hX hbl (by decide) e2.symm dL_law_732 ?_
    refine z_callM B0 (z_runV (q0 := 0) (As := [.int 3, .int 4]) (st := [.int (-1)]) B0 (c_X12_after_171 (a := a2) mS0  rfl rfl rfl rfl rfl rfl rfl rfl rfl rfl rfl rfl rfl rfl rfl rfl rfl rfl rfl rfl rfl rfl rfl rfl rfl rfl rfl) cf_X12_after (mw_0 cy a2 mS0) rfl wm_L_90 wi_X12_after ws_X12_after dL_law_733 rfl (Nat.le_of_ble_eq_true rfl) ⟨by decide, by decide, by decide, by decide⟩) (fun r2 u2 p2 => ?_)
    obtain ⟨rfl, -⟩ := p2
    refine z_icmp_eq_t (tgt := 1091) B0 dL_law_736 (by decide) rfl ?_
    exact fin u1 u2
  · obtain rfl : x2 = 5 := Int32.toInt_inj.mp (h2.trans (by decide))
    refine z_aload_n B0 dL_law_708 rfl rfl ?_
    refine z_aload_n B0 dL_law_709 rfl rfl ?_
    refine z_iload_n B0 dL_law_710 rfl rfl ?_
    refine z_iconst (v := 1) B0 dL_law_711 (by decide) ?_
    refine z_iadd (v := 1) B0 dL_law_712 (by decide) ?_
    refine y_sld (j := 1) (v := 3) B0 hX hbl (by decide) e1.symm dL_law_713 ?_
    refine z_aload_n B0 dL_law_714 rfl rfl ?_
    refine z_iload_n B0 dL_law_715 rfl rfl ?_
    refine z_iconst (v := 2) B0 dL_law_716 (by decide) ?_
    refine z_iadd (v := 2) B0 dL_law_717 (by decide) ?_
    refine y_sld (j := 2) (v := 5) B0 hX hbl (by decide) e2.symm dL_law_718 ?_
    refine z_callC B0 (z_runV (q0 := 0) (As := [.int 3, .int 5]) (st := []) B0 (c_X11_after_172 (a := a) (cS0 w)  ) cf_X11_after (cw_0 cy tE a rw (cS0 w)) rfl wm_L_87 wi_X11_after ws_X11_after dL_law_719 rfl (Nat.le_of_ble_eq_true rfl) ⟨by decide, by decide, by decide, by decide⟩) (fun r1 u1 p1 => ?_)
    obtain ⟨rfl, -⟩ := p1
    refine z_aload_n B0 dL_law_722 rfl rfl ?_
    refine z_aload_n B0 dL_law_723 rfl rfl ?_
    refine z_iload_n B0 dL_law_724 rfl rfl ?_
    refine z_iconst (v := 1) B0 dL_law_725 (by decide) ?_
    refine z_iadd (v := 1) B0 dL_law_726 (by decide) ?_
    refine y_sld (j := 1) (v := 3) B0 hX hbl (by decide) e1.symm dL_law_727 ?_
    refine z_aload_n B0 dL_law_728 rfl rfl ?_
    refine z_iload_n B0 dL_law_729 rfl rfl ?_
    refine z_iconst (v := 2) B0 dL_law_730 (by decide) ?_
    refine z_iadd (v := 2) B0 dL_law_731 (by decide) ?_
    refine y_sld (j := 2) (v := 5) B0 hX hbl (by decide) e2.symm dL_law_732 ?_
    refine z_callM B0 (z_runV (q0 := 0) (As := [.int 3, .int 5]) (st := [.int (-1)]) B0 (c_X12_after_172 (a := a2) mS0  rfl rfl rfl rfl rfl rfl rfl rfl rfl rfl rfl rfl rfl rfl rfl rfl rfl rfl rfl rfl rfl rfl rfl rfl rfl rfl rfl) cf_X12_after (mw_0 cy a2 mS0) rfl wm_L_90 wi_X12_after ws_X12_after dL_law_733 rfl (Nat.le_of_ble_eq_true rfl) ⟨by decide, by decide, by decide, by decide⟩) (fun r2 u2 p2 => ?_)
    obtain ⟨rfl, -⟩ := p2
    refine z_icmp_eq_t (tgt := 1091) B0 dL_law_736 (by decide) rfl ?_
    exact fin u1 u2
  · obtain rfl : x2 = 6 := Int32.toInt_inj.mp (h2.trans (by decide))
    refine z_aload_n B0 dL_law_708 rfl rfl ?_
    refine z_aload_n B0 dL_law_709 rfl rfl ?_
    refine z_iload_n B0 dL_law_710 rfl rfl ?_
    refine z_iconst (v := 1) B0 dL_law_711 (by decide) ?_
    refine z_iadd (v := 1) B0 dL_law_712 (by decide) ?_
    refine y_sld (j := 1) (v := 3) B0 hX hbl (by decide) e1.symm dL_law_713 ?_
    refine z_aload_n B0 dL_law_714 rfl rfl ?_
    refine z_iload_n B0 dL_law_715 rfl rfl ?_
    refine z_iconst (v := 2) B0 dL_law_716 (by decide) ?_
    refine z_iadd (v := 2) B0 dL_law_717 (by decide) ?_
    refine y_sld (j := 2) (v := 6) B0 hX hbl (by decide) e2.symm dL_law_718 ?_
    refine z_callC B0 (z_runV (q0 := 0) (As := [.int 3, .int 6]) (st := []) B0 (c_X11_after_173 (a := a) (cS0 w)  ) cf_X11_after (cw_0 cy tE a rw (cS0 w)) rfl wm_L_87 wi_X11_after ws_X11_after dL_law_719 rfl (Nat.le_of_ble_eq_true rfl) ⟨by decide, by decide, by decide, by decide⟩) (fun r1 u1 p1 => ?_)
    obtain ⟨rfl, -⟩ := p1
    refine z_aload_n B0 dL_law_722 rfl rfl ?_
    refine z_aload_n B0 dL_law_723 rfl rfl ?_
    refine z_iload_n B0 dL_law_724 rfl rfl ?_
    refine z_iconst (v := 1) B0 dL_law_725 (by decide) ?_
    refine z_iadd (v := 1) B0 dL_law_726 (by decide) ?_
    refine y_sld (j := 1) (v := 3) B0 hX hbl (by decide) e1.symm dL_law_727 ?_
    refine z_aload_n B0 dL_law_728 rfl rfl ?_
    refine z_iload_n B0 dL_law_729 rfl rfl ?_
    refine z_iconst (v := 2) B0 dL_law_730 (by decide) ?_
    refine z_iadd (v := 2) B0 dL_law_731 (by decide) ?_
    refine y_sld (j := 2) (v := 6) B0 hX hbl (by decide) e2.symm dL_law_732 ?_
    refine z_callM B0 (z_runV (q0 := 0) (As := [.int 3, .int 6]) (st := [.int (-1)]) B0 (c_X12_after_173 (a := a2) mS0  rfl rfl rfl rfl rfl rfl rfl rfl rfl rfl rfl rfl rfl rfl rfl rfl rfl rfl rfl rfl rfl rfl rfl rfl rfl rfl rfl) cf_X12_after (mw_0 cy a2 mS0) rfl wm_L_90 wi_X12_after ws_X12_after dL_law_733 rfl (Nat.le_of_ble_eq_true rfl) ⟨by decide, by decide, by decide, by decide⟩) (fun r2 u2 p2 => ?_)
    obtain ⟨rfl, -⟩ := p2
    refine z_icmp_eq_t (tgt := 1091) B0 dL_law_736 (by decide) rfl ?_
    exact fin u1 u2
  · obtain rfl : x2 = 7 := Int32.toInt_inj.mp (h2.trans (by decide))
    refine z_aload_n B0 dL_law_708 rfl rfl ?_
    refine z_aload_n B0 dL_law_709 rfl rfl ?_
    refine z_iload_n B0 dL_law_710 rfl rfl ?_
    refine z_iconst (v := 1) B0 dL_law_711 (by decide) ?_
    refine z_iadd (v := 1) B0 dL_law_712 (by decide) ?_
    refine y_sld (j := 1) (v := 3) B0 hX hbl (by decide) e1.symm dL_law_713 ?_
    refine z_aload_n B0 dL_law_714 rfl rfl ?_
    refine z_iload_n B0 dL_law_715 rfl rfl ?_
    refine z_iconst (v := 2) B0 dL_law_716 (by decide) ?_
    refine z_iadd (v := 2) B0 dL_law_717 (by decide) ?_
    refine y_sld (j := 2) (v := 7) B0 hX hbl (by decide) e2.symm dL_law_718 ?_
    refine z_callC B0 (z_runV (q0 := 0) (As := [.int 3, .int 7]) (st := []) B0 (c_X11_after_174 (a := a) (cS0 w)  ) cf_X11_after (cw_0 cy tE a rw (cS0 w)) rfl wm_L_87 wi_X11_after ws_X11_after dL_law_719 rfl (Nat.le_of_ble_eq_true rfl) ⟨by decide, by decide, by decide, by decide⟩) (fun r1 u1 p1 => ?_)
    obtain ⟨rfl, -⟩ := p1
    refine z_aload_n B0 dL_law_722 rfl rfl ?_
    refine z_aload_n B0 dL_law_723 rfl rfl ?_
    refine z_iload_n B0 dL_law_724 rfl rfl ?_
    refine z_iconst (v := 1) B0 dL_law_725 (by decide) ?_
    refine z_iadd (v := 1) B0 dL_law_726 (by decide) ?_
    refine y_sld (j := 1) (v := 3) B0 hX hbl (by decide) e1.symm dL_law_727 ?_
    refine z_aload_n B0 dL_law_728 rfl rfl ?_
    refine z_iload_n B0 dL_law_729 rfl rfl ?_
    refine z_iconst (v := 2) B0 dL_law_730 (by decide) ?_
    refine z_iadd (v := 2) B0 dL_law_731 (by decide) ?_
    refine y_sld (j := 2) (v := 7) B0 hX hbl (by decide) e2.symm dL_law_732 ?_
    refine z_callM B0 (z_runV (q0 := 0) (As := [.int 3, .int 7]) (st := [.int (-1)]) B0 (c_X12_after_174 (a := a2) mS0  rfl rfl rfl rfl rfl rfl rfl rfl rfl rfl rfl rfl rfl rfl rfl rfl rfl rfl rfl rfl rfl rfl rfl rfl rfl rfl rfl) cf_X12_after (mw_0 cy a2 mS0) rfl wm_L_90 wi_X12_after ws_X12_after dL_law_733 rfl (Nat.le_of_ble_eq_true rfl) ⟨by decide, by decide, by decide, by decide⟩) (fun r2 u2 p2 => ?_)
    obtain ⟨rfl, -⟩ := p2
    refine z_icmp_eq_t (tgt := 1091) B0 dL_law_736 (by decide) rfl ?_
    exact fin u1 u2
  · obtain rfl : x2 = 8 := Int32.toInt_inj.mp (h2.trans (by decide))
    refine z_aload_n B0 dL_law_708 rfl rfl ?_
    refine z_aload_n B0 dL_law_709 rfl rfl ?_
    refine z_iload_n B0 dL_law_710 rfl rfl ?_
    refine z_iconst (v := 1) B0 dL_law_711 (by decide) ?_
    refine z_iadd (v := 1) B0 dL_law_712 (by decide) ?_
    refine y_sld (j := 1) (v := 3) B0 hX hbl (by decide) e1.symm dL_law_713 ?_
    refine z_aload_n B0 dL_law_714 rfl rfl ?_
    refine z_iload_n B0 dL_law_715 rfl rfl ?_
    refine z_iconst (v := 2) B0 dL_law_716 (by decide) ?_
    refine z_iadd (v := 2) B0 dL_law_717 (by decide) ?_
    refine y_sld (j := 2) (v := 8) B0 hX hbl (by decide) e2.symm dL_law_718 ?_
    refine z_callC B0 (z_runV (q0 := 0) (As := [.int 3, .int 8]) (st := []) B0 (c_X11_after_175 (a := a) (cS0 w)  ) cf_X11_after (cw_0 cy tE a rw (cS0 w)) rfl wm_L_87 wi_X11_after ws_X11_after dL_law_719 rfl (Nat.le_of_ble_eq_true rfl) ⟨by decide, by decide, by decide, by decide⟩) (fun r1 u1 p1 => ?_)
    obtain ⟨rfl, -⟩ := p1
    refine z_aload_n B0 dL_law_722 rfl rfl ?_
    refine z_aload_n B0 dL_law_723 rfl rfl ?_
    refine z_iload_n B0 dL_law_724 rfl rfl ?_
    refine z_iconst (v := 1) B0 dL_law_725 (by decide) ?_
    refine z_iadd (v := 1) B0 dL_law_726 (by decide) ?_
    refine y_sld (j := 1) (v := 3) B0 hX hbl (by decide) e1.symm dL_law_727 ?_
    refine z_aload_n B0 dL_law_728 rfl rfl ?_
    refine z_iload_n B0 dL_law_729 rfl rfl ?_
    refine z_iconst (v := 2) B0 dL_law_730 (by decide) ?_
    refine z_iadd (v := 2) B0 dL_law_731 (by decide) ?_
    refine y_sld (j := 2) (v := 8) B0 hX hbl (by decide) e2.symm dL_law_732 ?_
    refine z_callM B0 (z_runV (q0 := 0) (As := [.int 3, .int 8]) (st := [.int (-1)]) B0 (c_X12_after_175 (a := a2) mS0  rfl rfl rfl rfl rfl rfl rfl rfl rfl rfl rfl rfl rfl rfl rfl rfl rfl rfl rfl rfl rfl rfl rfl rfl rfl rfl rfl) cf_X12_after (mw_0 cy a2 mS0) rfl wm_L_90 wi_X12_after ws_X12_after dL_law_733 rfl (Nat.le_of_ble_eq_true rfl) ⟨by decide, by decide, by decide, by decide⟩) (fun r2 u2 p2 => ?_)
    obtain ⟨rfl, -⟩ := p2
    refine z_icmp_eq_t (tgt := 1091) B0 dL_law_736 (by decide) rfl ?_
    exact fin u1 u2
  · obtain rfl : x2 = 9 := Int32.toInt_inj.mp (h2.trans (by decide))
    refine z_aload_n B0 dL_law_708 rfl rfl ?_
    refine z_aload_n B0 dL_law_709 rfl rfl ?_
    refine z_iload_n B0 dL_law_710 rfl rfl ?_
    refine z_iconst (v := 1) B0 dL_law_711 (by decide) ?_
    refine z_iadd (v := 1) B0 dL_law_712 (by decide) ?_
    refine y_sld (j := 1) (v := 3) B0 hX hbl (by decide) e1.symm dL_law_713 ?_
    refine z_aload_n B0 dL_law_714 rfl rfl ?_
    refine z_iload_n B0 dL_law_715 rfl rfl ?_
    refine z_iconst (v := 2) B0 dL_law_716 (by decide) ?_
    refine z_iadd (v := 2) B0 dL_law_717 (by decide) ?_
    refine y_sld (j := 2) (v := 9) B0 hX hbl (by decide) e2.symm dL_law_718 ?_
    refine z_callC B0 (z_runV (q0 := 0) (As := [.int 3, .int 9]) (st := []) B0 (c_X11_after_176 (a := a) (cS0 w)  ) cf_X11_after (cw_0 cy tE a rw (cS0 w)) rfl wm_L_87 wi_X11_after ws_X11_after dL_law_719 rfl (Nat.le_of_ble_eq_true rfl) ⟨by decide, by decide, by decide, by decide⟩) (fun r1 u1 p1 => ?_)
    obtain ⟨rfl, -⟩ := p1
    refine z_aload_n B0 dL_law_722 rfl rfl ?_
    refine z_aload_n B0 dL_law_723 rfl rfl ?_
    refine z_iload_n B0 dL_law_724 rfl rfl ?_
    refine z_iconst (v := 1) B0 dL_law_725 (by decide) ?_
    refine z_iadd (v := 1) B0 dL_law_726 (by decide) ?_
    refine y_sld (j := 1) (v := 3) B0 hX hbl (by decide) e1.symm dL_law_727 ?_
    refine z_aload_n B0 dL_law_728 rfl rfl ?_
    refine z_iload_n B0 dL_law_729 rfl rfl ?_
    refine z_iconst (v := 2) B0 dL_law_730 (by decide) ?_
    refine z_iadd (v := 2) B0 dL_law_731 (by decide) ?_
    refine y_sld (j := 2) (v := 9) B0 hX hbl (by decide) e2.symm dL_law_732 ?_
    refine z_callM B0 (z_runV (q0 := 0) (As := [.int 3, .int 9]) (st := [.int (-1)]) B0 (c_X12_after_176 (a := a2) mS0  rfl rfl rfl rfl rfl rfl rfl rfl rfl rfl rfl rfl rfl rfl rfl rfl rfl rfl rfl rfl rfl rfl rfl rfl rfl rfl rfl) cf_X12_after (mw_0 cy a2 mS0) rfl wm_L_90 wi_X12_after ws_X12_after dL_law_733 rfl (Nat.le_of_ble_eq_true rfl) ⟨by decide, by decide, by decide, by decide⟩) (fun r2 u2 p2 => ?_)
    obtain ⟨rfl, -⟩ := p2
    refine z_icmp_eq_t (tgt := 1091) B0 dL_law_736 (by decide) rfl ?_
    exact fin u1 u2
  · obtain rfl : x2 = 10 := Int32.toInt_inj.mp (h2.trans (by decide))
    refine z_aload_n B0 dL_law_708 rfl rfl ?_
    refine z_aload_n B0 dL_law_709 rfl rfl ?_
    refine z_iload_n B0 dL_law_710 rfl rfl ?_
    refine z_iconst (v := 1) B0 dL_law_711 (by decide) ?_
    refine z_iadd (v := 1) B0 dL_law_712 (by decide) ?_
    refine y_sld (j := 1) (v := 3) B0 hX hbl (by decide) e1.symm dL_law_713 ?_
    refine z_aload_n B0 dL_law_714 rfl rfl ?_
    refine z_iload_n B0 dL_law_715 rfl rfl ?_
    refine z_iconst (v := 2) B0 dL_law_716 (by decide) ?_
    refine z_iadd (v := 2) B0 dL_law_717 (by decide) ?_
    refine y_sld (j := 2) (v := 10) B0 hX hbl (by decide) e2.symm dL_law_718 ?_
    refine z_callC B0 (z_runV (q0 := 0) (As := [.int 3, .int 10]) (st := []) B0 (c_X11_after_177 (a := a) (cS0 w)  ) cf_X11_after (cw_0 cy tE a rw (cS0 w)) rfl wm_L_87 wi_X11_after ws_X11_after dL_law_719 rfl (Nat.le_of_ble_eq_true rfl) ⟨by decide, by decide, by decide, by decide⟩) (fun r1 u1 p1 => ?_)
    obtain ⟨rfl, -⟩ := p1
    refine z_aload_n B0 dL_law_722 rfl rfl ?_
    refine z_aload_n B0 dL_law_723 rfl rfl ?_
    refine z_iload_n B0 dL_law_724 rfl rfl ?_
    refine z_iconst (v := 1) B0 dL_law_725 (by decide) ?_
    refine z_iadd (v := 1) B0 dL_law_726 (by decide) ?_
    refine y_sld (j := 1) (v := 3) B0 hX hbl (by decide) e1.symm dL_law_727 ?_
    refine z_aload_n B0 dL_law_728 rfl rfl ?_
    refine z_iload_n B0 dL_law_729 rfl rfl ?_
    refine z_iconst (v := 2) B0 dL_law_730 (by decide) ?_
    refine z_iadd (v := 2) B0 dL_law_731 (by decide) ?_
    refine y_sld (j := 2) (v := 10) B0 hX hbl (by decide) e2.symm dL_law_732 ?_
    refine z_callM B0 (z_runV (q0 := 0) (As := [.int 3, .int 10]) (st := [.int (-1)]) B0 (c_X12_after_177 (a := a2) mS0  rfl rfl rfl rfl rfl rfl rfl rfl rfl rfl rfl rfl rfl rfl rfl rfl rfl rfl rfl rfl rfl rfl rfl rfl rfl rfl rfl) cf_X12_after (mw_0 cy a2 mS0) rfl wm_L_90 wi_X12_after ws_X12_after dL_law_733 rfl (Nat.le_of_ble_eq_true rfl) ⟨by decide, by decide, by decide, by decide⟩) (fun r2 u2 p2 => ?_)
    obtain ⟨rfl, -⟩ := p2
    refine z_icmp_eq_t (tgt := 1091) B0 dL_law_736 (by decide) rfl ?_
    exact fin u1 u2
  · obtain rfl : x2 = 11 := Int32.toInt_inj.mp (h2.trans (by decide))
    refine z_aload_n B0 dL_law_708 rfl rfl ?_
    refine z_aload_n B0 dL_law_709 rfl rfl ?_
    refine z_iload_n B0 dL_law_710 rfl rfl ?_
    refine z_iconst (v := 1) B0 dL_law_711 (by decide) ?_
    refine z_iadd (v := 1) B0 dL_law_712 (by decide) ?_
    refine y_sld (j := 1) (v := 3) B0 hX hbl (by decide) e1.symm dL_law_713 ?_
    refine z_aload_n B0 dL_law_714 rfl rfl ?_
    refine z_iload_n B0 dL_law_715 rfl rfl ?_
    refine z_iconst (v := 2) B0 dL_law_716 (by decide) ?_
    refine z_iadd (v := 2) B0 dL_law_717 (by decide) ?_
    refine y_sld (j := 2) (v := 11) B0 hX hbl (by decide) e2.symm dL_law_718 ?_
    refine z_callC B0 (z_runV (q0 := 0) (As := [.int 3, .int 11]) (st := []) B0 (c_X11_after_178 (a := a) (cS0 w)  rfl rfl rfl hrw) cf_X11_after (cw_0 cy tE a rw (cS0 w)) rfl wm_L_87 wi_X11_after ws_X11_after dL_law_719 rfl (Nat.le_of_ble_eq_true rfl) ⟨by decide, by decide, by decide, by decide⟩) (fun r1 u1 p1 => ?_)
    obtain ⟨rfl, -⟩ := p1
    refine z_aload_n B0 dL_law_722 rfl rfl ?_
    refine z_aload_n B0 dL_law_723 rfl rfl ?_
    refine z_iload_n B0 dL_law_724 rfl rfl ?_
    refine z_iconst (v := 1) B0 dL_law_725 (by decide) ?_
    refine z_iadd (v := 1) B0 dL_law_726 (by decide) ?_
    refine y_sld (j := 1) (v := 3) B0 hX hbl (by decide) e1.symm dL_law_727 ?_
    refine z_aload_n B0 dL_law_728 rfl rfl ?_
    refine z_iload_n B0 dL_law_729 rfl rfl ?_
    refine z_iconst (v := 2) B0 dL_law_730 (by decide) ?_
    refine z_iadd (v := 2) B0 dL_law_731 (by decide) ?_
    refine y_sld (j := 2) (v := 11) B0 hX hbl (by decide) e2.symm dL_law_732 ?_
    refine z_callM B0 (z_runV (q0 := 0) (As := [.int 3, .int 11]) (st := [.int 0]) B0 (c_X12_after_178 (a := a2) mS0  rfl rfl rfl rfl rfl rfl rfl rfl rfl rfl rfl rfl rfl rfl rfl rfl rfl rfl rfl rfl rfl rfl rfl rfl rfl rfl rfl) cf_X12_after (mw_0 cy a2 mS0) rfl wm_L_90 wi_X12_after ws_X12_after dL_law_733 rfl (Nat.le_of_ble_eq_true rfl) ⟨by decide, by decide, by decide, by decide⟩) (fun r2 u2 p2 => ?_)
    obtain ⟨rfl, -⟩ := p2
    refine z_icmp_eq_t (tgt := 1091) B0 dL_law_736 (by decide) rfl ?_
    exact fin u1 u2
  · obtain rfl : x2 = 12 := Int32.toInt_inj.mp (h2.trans (by decide))
    refine z_aload_n B0 dL_law_708 rfl rfl ?_
    refine z_aload_n B0 dL_law_709 rfl rfl ?_
    refine z_iload_n B0 dL_law_710 rfl rfl ?_
    refine z_iconst (v := 1) B0 dL_law_711 (by decide) ?_
    refine z_iadd (v := 1) B0 dL_law_712 (by decide) ?_
    refine y_sld (j := 1) (v := 3) B0 hX hbl (by decide) e1.symm dL_law_713 ?_
    refine z_aload_n B0 dL_law_714 rfl rfl ?_
    refine z_iload_n B0 dL_law_715 rfl rfl ?_
    refine z_iconst (v := 2) B0 dL_law_716 (by decide) ?_
    refine z_iadd (v := 2) B0 dL_law_717 (by decide) ?_
    refine y_sld (j := 2) (v := 12) B0 hX hbl (by decide) e2.symm dL_law_718 ?_
    refine z_callC B0 (z_runV (q0 := 0) (As := [.int 3, .int 12]) (st := []) B0 (c_X11_after_179 (a := a) (cS0 w)  rfl rfl rfl hrw) cf_X11_after (cw_0 cy tE a rw (cS0 w)) rfl wm_L_87 wi_X11_after ws_X11_after dL_law_719 rfl (Nat.le_of_ble_eq_true rfl) ⟨by decide, by decide, by decide, by decide⟩) (fun r1 u1 p1 => ?_)
    obtain ⟨rfl, -⟩ := p1
    refine z_aload_n B0 dL_law_722 rfl rfl ?_
    refine z_aload_n B0 dL_law_723 rfl rfl ?_
    refine z_iload_n B0 dL_law_724 rfl rfl ?_
    refine z_iconst (v := 1) B0 dL_law_725 (by decide) ?_
    refine z_iadd (v := 1) B0 dL_law_726 (by decide) ?_
    refine y_sld (j := 1) (v := 3) B0 hX hbl (by decide) e1.symm dL_law_727 ?_
    refine z_aload_n B0 dL_law_728 rfl rfl ?_
    refine z_iload_n B0 dL_law_729 rfl rfl ?_
    refine z_iconst (v := 2) B0 dL_law_730 (by decide) ?_
    refine z_iadd (v := 2) B0 dL_law_731 (by decide) ?_
    refine y_sld (j := 2) (v := 12) B0 hX hbl (by decide) e2.symm dL_law_732 ?_
    refine z_callM B0 (z_runV (q0 := 0) (As := [.int 3, .int 12]) (st := [.int 0]) B0 (c_X12_after_179 (a := a2) mS0  rfl rfl rfl rfl rfl rfl rfl rfl rfl rfl rfl rfl rfl rfl rfl rfl rfl rfl rfl rfl rfl rfl rfl rfl rfl rfl rfl) cf_X12_after (mw_0 cy a2 mS0) rfl wm_L_90 wi_X12_after ws_X12_after dL_law_733 rfl (Nat.le_of_ble_eq_true rfl) ⟨by decide, by decide, by decide, by decide⟩) (fun r2 u2 p2 => ?_)
    obtain ⟨rfl, -⟩ := p2
    refine z_icmp_eq_t (tgt := 1091) B0 dL_law_736 (by decide) rfl ?_
    exact fin u1 u2
  · obtain rfl : x2 = 13 := Int32.toInt_inj.mp (h2.trans (by decide))
    refine z_aload_n B0 dL_law_708 rfl rfl ?_
    refine z_aload_n B0 dL_law_709 rfl rfl ?_
    refine z_iload_n B0 dL_law_710 rfl rfl ?_
    refine z_iconst (v := 1) B0 dL_law_711 (by decide) ?_
    refine z_iadd (v := 1) B0 dL_law_712 (by decide) ?_
    refine y_sld (j := 1) (v := 3) B0 hX hbl (by decide) e1.symm dL_law_713 ?_
    refine z_aload_n B0 dL_law_714 rfl rfl ?_
    refine z_iload_n B0 dL_law_715 rfl rfl ?_
    refine z_iconst (v := 2) B0 dL_law_716 (by decide) ?_
    refine z_iadd (v := 2) B0 dL_law_717 (by decide) ?_
    refine y_sld (j := 2) (v := 13) B0 hX hbl (by decide) e2.symm dL_law_718 ?_
    refine z_callC B0 (z_runV (q0 := 0) (As := [.int 3, .int 13]) (st := []) B0 (c_X11_after_180 (a := a) (cS0 w)  rfl rfl rfl hrw) cf_X11_after (cw_0 cy tE a rw (cS0 w)) rfl wm_L_87 wi_X11_after ws_X11_after dL_law_719 rfl (Nat.le_of_ble_eq_true rfl) ⟨by decide, by decide, by decide, by decide⟩) (fun r1 u1 p1 => ?_)
    obtain ⟨rfl, -⟩ := p1
    refine z_aload_n B0 dL_law_722 rfl rfl ?_
    refine z_aload_n B0 dL_law_723 rfl rfl ?_
    refine z_iload_n B0 dL_law_724 rfl rfl ?_
    refine z_iconst (v := 1) B0 dL_law_725 (by decide) ?_
    refine z_iadd (v := 1) B0 dL_law_726 (by decide) ?_
    refine y_sld (j := 1) (v := 3) B0 hX hbl (by decide) e1.symm dL_law_727 ?_
    refine z_aload_n B0 dL_law_728 rfl rfl ?_
    refine z_iload_n B0 dL_law_729 rfl rfl ?_
    refine z_iconst (v := 2) B0 dL_law_730 (by decide) ?_
    refine z_iadd (v := 2) B0 dL_law_731 (by decide) ?_
    refine y_sld (j := 2) (v := 13) B0 hX hbl (by decide) e2.symm dL_law_732 ?_
    refine z_callM B0 (z_runV (q0 := 0) (As := [.int 3, .int 13]) (st := [.int 0]) B0 (c_X12_after_180 (a := a2) mS0  rfl rfl rfl rfl rfl rfl rfl rfl rfl rfl rfl rfl rfl rfl rfl rfl rfl rfl rfl rfl rfl rfl rfl rfl rfl rfl rfl) cf_X12_after (mw_0 cy a2 mS0) rfl wm_L_90 wi_X12_after ws_X12_after dL_law_733 rfl (Nat.le_of_ble_eq_true rfl) ⟨by decide, by decide, by decide, by decide⟩) (fun r2 u2 p2 => ?_)
    obtain ⟨rfl, -⟩ := p2
    refine z_icmp_eq_t (tgt := 1091) B0 dL_law_736 (by decide) rfl ?_
    exact fin u1 u2
  · obtain rfl : x2 = 14 := Int32.toInt_inj.mp (h2.trans (by decide))
    refine z_aload_n B0 dL_law_708 rfl rfl ?_
    refine z_aload_n B0 dL_law_709 rfl rfl ?_
    refine z_iload_n B0 dL_law_710 rfl rfl ?_
    refine z_iconst (v := 1) B0 dL_law_711 (by decide) ?_
    refine z_iadd (v := 1) B0 dL_law_712 (by decide) ?_
    refine y_sld (j := 1) (v := 3) B0 hX hbl (by decide) e1.symm dL_law_713 ?_
    refine z_aload_n B0 dL_law_714 rfl rfl ?_
    refine z_iload_n B0 dL_law_715 rfl rfl ?_
    refine z_iconst (v := 2) B0 dL_law_716 (by decide) ?_
    refine z_iadd (v := 2) B0 dL_law_717 (by decide) ?_
    refine y_sld (j := 2) (v := 14) B0 hX hbl (by decide) e2.symm dL_law_718 ?_
    refine z_callC B0 (z_runV (q0 := 0) (As := [.int 3, .int 14]) (st := []) B0 (c_X11_after_181 (a := a) (cS0 w)  ) cf_X11_after (cw_0 cy tE a rw (cS0 w)) rfl wm_L_87 wi_X11_after ws_X11_after dL_law_719 rfl (Nat.le_of_ble_eq_true rfl) ⟨by decide, by decide, by decide, by decide⟩) (fun r1 u1 p1 => ?_)
    obtain ⟨rfl, -⟩ := p1
    refine z_aload_n B0 dL_law_722 rfl rfl ?_
    refine z_aload_n B0 dL_law_723 rfl rfl ?_
    refine z_iload_n B0 dL_law_724 rfl rfl ?_
    refine z_iconst (v := 1) B0 dL_law_725 (by decide) ?_
    refine z_iadd (v := 1) B0 dL_law_726 (by decide) ?_
    refine y_sld (j := 1) (v := 3) B0 hX hbl (by decide) e1.symm dL_law_727 ?_
    refine z_aload_n B0 dL_law_728 rfl rfl ?_
    refine z_iload_n B0 dL_law_729 rfl rfl ?_
    refine z_iconst (v := 2) B0 dL_law_730 (by decide) ?_
    refine z_iadd (v := 2) B0 dL_law_731 (by decide) ?_
    refine y_sld (j := 2) (v := 14) B0 hX hbl (by decide) e2.symm dL_law_732 ?_
    refine z_callM B0 (z_runV (q0 := 0) (As := [.int 3, .int 14]) (st := [.int (-1)]) B0 (c_X12_after_181 (a := a2) mS0  rfl rfl rfl rfl rfl rfl rfl rfl rfl rfl rfl rfl rfl rfl rfl rfl rfl rfl rfl rfl rfl rfl rfl rfl rfl rfl rfl) cf_X12_after (mw_0 cy a2 mS0) rfl wm_L_90 wi_X12_after ws_X12_after dL_law_733 rfl (Nat.le_of_ble_eq_true rfl) ⟨by decide, by decide, by decide, by decide⟩) (fun r2 u2 p2 => ?_)
    obtain ⟨rfl, -⟩ := p2
    refine z_icmp_eq_t (tgt := 1091) B0 dL_law_736 (by decide) rfl ?_
    exact fin u1 u2
  · obtain rfl : x2 = 15 := Int32.toInt_inj.mp (h2.trans (by decide))
    refine z_aload_n B0 dL_law_708 rfl rfl ?_
    refine z_aload_n B0 dL_law_709 rfl rfl ?_
    refine z_iload_n B0 dL_law_710 rfl rfl ?_
    refine z_iconst (v := 1) B0 dL_law_711 (by decide) ?_
    refine z_iadd (v := 1) B0 dL_law_712 (by decide) ?_
    refine y_sld (j := 1) (v := 3) B0 hX hbl (by decide) e1.symm dL_law_713 ?_
    refine z_aload_n B0 dL_law_714 rfl rfl ?_
    refine z_iload_n B0 dL_law_715 rfl rfl ?_
    refine z_iconst (v := 2) B0 dL_law_716 (by decide) ?_
    refine z_iadd (v := 2) B0 dL_law_717 (by decide) ?_
    refine y_sld (j := 2) (v := 15) B0 hX hbl (by decide) e2.symm dL_law_718 ?_
    refine z_callC B0 (z_runV (q0 := 0) (As := [.int 3, .int 15]) (st := []) B0 (c_X11_after_182 (a := a) (cS0 w)  rfl rfl rfl hrw) cf_X11_after (cw_0 cy tE a rw (cS0 w)) rfl wm_L_87 wi_X11_after ws_X11_after dL_law_719 rfl (Nat.le_of_ble_eq_true rfl) ⟨by decide, by decide, by decide, by decide⟩) (fun r1 u1 p1 => ?_)
    obtain ⟨rfl, -⟩ := p1
    refine z_aload_n B0 dL_law_722 rfl rfl ?_
    refine z_aload_n B0 dL_law_723 rfl rfl ?_
    refine z_iload_n B0 dL_law_724 rfl rfl ?_
    refine z_iconst (v := 1) B0 dL_law_725 (by decide) ?_
    refine z_iadd (v := 1) B0 dL_law_726 (by decide) ?_
    refine y_sld (j := 1) (v := 3) B0 hX hbl (by decide) e1.symm dL_law_727 ?_
    refine z_aload_n B0 dL_law_728 rfl rfl ?_
    refine z_iload_n B0 dL_law_729 rfl rfl ?_
    refine z_iconst (v := 2) B0 dL_law_730 (by decide) ?_
    refine z_iadd (v := 2) B0 dL_law_731 (by decide) ?_
    refine y_sld (j := 2) (v := 15) B0 hX hbl (by decide) e2.symm dL_law_732 ?_
    refine z_callM B0 (z_runV (q0 := 0) (As := [.int 3, .int 15]) (st := [.int 0]) B0 (c_X12_after_182 (a := a2) mS0  rfl rfl rfl rfl rfl rfl rfl rfl rfl rfl rfl rfl rfl rfl rfl rfl rfl rfl rfl rfl rfl rfl rfl rfl rfl rfl rfl) cf_X12_after (mw_0 cy a2 mS0) rfl wm_L_90 wi_X12_after ws_X12_after dL_law_733 rfl (Nat.le_of_ble_eq_true rfl) ⟨by decide, by decide, by decide, by decide⟩) (fun r2 u2 p2 => ?_)
    obtain ⟨rfl, -⟩ := p2
    refine z_icmp_eq_t (tgt := 1091) B0 dL_law_736 (by decide) rfl ?_
    exact fin u1 u2
  · obtain rfl : x2 = 16 := Int32.toInt_inj.mp (h2.trans (by decide))
    refine z_aload_n B0 dL_law_708 rfl rfl ?_
    refine z_aload_n B0 dL_law_709 rfl rfl ?_
    refine z_iload_n B0 dL_law_710 rfl rfl ?_
    refine z_iconst (v := 1) B0 dL_law_711 (by decide) ?_
    refine z_iadd (v := 1) B0 dL_law_712 (by decide) ?_
    refine y_sld (j := 1) (v := 3) B0 hX hbl (by decide) e1.symm dL_law_713 ?_
    refine z_aload_n B0 dL_law_714 rfl rfl ?_
    refine z_iload_n B0 dL_law_715 rfl rfl ?_
    refine z_iconst (v := 2) B0 dL_law_716 (by decide) ?_
    refine z_iadd (v := 2) B0 dL_law_717 (by decide) ?_
    refine y_sld (j := 2) (v := 16) B0 hX hbl (by decide) e2.symm dL_law_718 ?_
    refine z_callC B0 (z_runV (q0 := 0) (As := [.int 3, .int 16]) (st := []) B0 (c_X11_after_183 (a := a) (cS0 w)  rfl rfl rfl hrw) cf_X11_after (cw_0 cy tE a rw (cS0 w)) rfl wm_L_87 wi_X11_after ws_X11_after dL_law_719 rfl (Nat.le_of_ble_eq_true rfl) ⟨by decide, by decide, by decide, by decide⟩) (fun r1 u1 p1 => ?_)
    obtain ⟨rfl, -⟩ := p1
    refine z_aload_n B0 dL_law_722 rfl rfl ?_
    refine z_aload_n B0 dL_law_723 rfl rfl ?_
    refine z_iload_n B0 dL_law_724 rfl rfl ?_
    refine z_iconst (v := 1) B0 dL_law_725 (by decide) ?_
    refine z_iadd (v := 1) B0 dL_law_726 (by decide) ?_
    refine y_sld (j := 1) (v := 3) B0 hX hbl (by decide) e1.symm dL_law_727 ?_
    refine z_aload_n B0 dL_law_728 rfl rfl ?_
    refine z_iload_n B0 dL_law_729 rfl rfl ?_
    refine z_iconst (v := 2) B0 dL_law_730 (by decide) ?_
    refine z_iadd (v := 2) B0 dL_law_731 (by decide) ?_
    refine y_sld (j := 2) (v := 16) B0 hX hbl (by decide) e2.symm dL_law_732 ?_
    refine z_callM B0 (z_runV (q0 := 0) (As := [.int 3, .int 16]) (st := [.int 0]) B0 (c_X12_after_183 (a := a2) mS0  rfl rfl rfl rfl rfl rfl rfl rfl rfl rfl rfl rfl rfl rfl rfl rfl rfl rfl rfl rfl rfl rfl rfl rfl rfl rfl rfl) cf_X12_after (mw_0 cy a2 mS0) rfl wm_L_90 wi_X12_after ws_X12_after dL_law_733 rfl (Nat.le_of_ble_eq_true rfl) ⟨by decide, by decide, by decide, by decide⟩) (fun r2 u2 p2 => ?_)
    obtain ⟨rfl, -⟩ := p2
    refine z_icmp_eq_t (tgt := 1091) B0 dL_law_736 (by decide) rfl ?_
    exact fin u1 u2
  · obtain rfl : x2 = 17 := Int32.toInt_inj.mp (h2.trans (by decide))
    refine z_aload_n B0 dL_law_708 rfl rfl ?_
    refine z_aload_n B0 dL_law_709 rfl rfl ?_
    refine z_iload_n B0 dL_law_710 rfl rfl ?_
    refine z_iconst (v := 1) B0 dL_law_711 (by decide) ?_
    refine z_iadd (v := 1) B0 dL_law_712 (by decide) ?_
    refine y_sld (j := 1) (v := 3) B0 hX hbl (by decide) e1.symm dL_law_713 ?_
    refine z_aload_n B0 dL_law_714 rfl rfl ?_
    refine z_iload_n B0 dL_law_715 rfl rfl ?_
    refine z_iconst (v := 2) B0 dL_law_716 (by decide) ?_
    refine z_iadd (v := 2) B0 dL_law_717 (by decide) ?_
    refine y_sld (j := 2) (v := 17) B0 hX hbl (by decide) e2.symm dL_law_718 ?_
    refine z_callC B0 (z_runV (q0 := 0) (As := [.int 3, .int 17]) (st := []) B0 (c_X11_after_184 (a := a) (cS0 w)  rfl rfl rfl hrw) cf_X11_after (cw_0 cy tE a rw (cS0 w)) rfl wm_L_87 wi_X11_after ws_X11_after dL_law_719 rfl (Nat.le_of_ble_eq_true rfl) ⟨by decide, by decide, by decide, by decide⟩) (fun r1 u1 p1 => ?_)
    obtain ⟨rfl, -⟩ := p1
    refine z_aload_n B0 dL_law_722 rfl rfl ?_
    refine z_aload_n B0 dL_law_723 rfl rfl ?_
    refine z_iload_n B0 dL_law_724 rfl rfl ?_
    refine z_iconst (v := 1) B0 dL_law_725 (by decide) ?_
    refine z_iadd (v := 1) B0 dL_law_726 (by decide) ?_
    refine y_sld (j := 1) (v := 3) B0 hX hbl (by decide) e1.symm dL_law_727 ?_
    refine z_aload_n B0 dL_law_728 rfl rfl ?_
    refine z_iload_n B0 dL_law_729 rfl rfl ?_
    refine z_iconst (v := 2) B0 dL_law_730 (by decide) ?_
    refine z_iadd (v := 2) B0 dL_law_731 (by decide) ?_
    refine y_sld (j := 2) (v := 17) B0 hX hbl (by decide) e2.symm dL_law_732 ?_
    refine z_callM B0 (z_runV (q0 := 0) (As := [.int 3, .int 17]) (st := [.int 0]) B0 (c_X12_after_184 (a := a2) mS0  rfl rfl rfl rfl rfl rfl rfl rfl rfl rfl rfl rfl rfl rfl rfl rfl rfl rfl rfl rfl rfl rfl rfl rfl rfl rfl rfl) cf_X12_after (mw_0 cy a2 mS0) rfl wm_L_90 wi_X12_after ws_X12_after dL_law_733 rfl (Nat.le_of_ble_eq_true rfl) ⟨by decide, by decide, by decide, by decide⟩) (fun r2 u2 p2 => ?_)
    obtain ⟨rfl, -⟩ := p2
    refine z_icmp_eq_t (tgt := 1091) B0 dL_law_736 (by decide) rfl ?_
    exact fin u1 u2
  · obtain rfl : x2 = 18 := Int32.toInt_inj.mp (h2.trans (by decide))
    refine z_aload_n B0 dL_law_708 rfl rfl ?_
    refine z_aload_n B0 dL_law_709 rfl rfl ?_
    refine z_iload_n B0 dL_law_710 rfl rfl ?_
    refine z_iconst (v := 1) B0 dL_law_711 (by decide) ?_
    refine z_iadd (v := 1) B0 dL_law_712 (by decide) ?_
    refine y_sld (j := 1) (v := 3) B0 hX hbl (by decide) e1.symm dL_law_713 ?_
    refine z_aload_n B0 dL_law_714 rfl rfl ?_
    refine z_iload_n B0 dL_law_715 rfl rfl ?_
    refine z_iconst (v := 2) B0 dL_law_716 (by decide) ?_
    refine z_iadd (v := 2) B0 dL_law_717 (by decide) ?_
    refine y_sld (j := 2) (v := 18) B0 hX hbl (by decide) e2.symm dL_law_718 ?_
    refine z_callC B0 (z_runV (q0 := 0) (As := [.int 3, .int 18]) (st := []) B0 (c_X11_after_185 (a := a) (cS0 w)  ) cf_X11_after (cw_0 cy tE a rw (cS0 w)) rfl wm_L_87 wi_X11_after ws_X11_after dL_law_719 rfl (Nat.le_of_ble_eq_true rfl) ⟨by decide, by decide, by decide, by decide⟩) (fun r1 u1 p1 => ?_)
    obtain ⟨rfl, -⟩ := p1
    refine z_aload_n B0 dL_law_722 rfl rfl ?_
    refine z_aload_n B0 dL_law_723 rfl rfl ?_
    refine z_iload_n B0 dL_law_724 rfl rfl ?_
    refine z_iconst (v := 1) B0 dL_law_725 (by decide) ?_
    refine z_iadd (v := 1) B0 dL_law_726 (by decide) ?_
    refine y_sld (j := 1) (v := 3) B0 hX hbl (by decide) e1.symm dL_law_727 ?_
    refine z_aload_n B0 dL_law_728 rfl rfl ?_
    refine z_iload_n B0 dL_law_729 rfl rfl ?_
    refine z_iconst (v := 2) B0 dL_law_730 (by decide) ?_
    refine z_iadd (v := 2) B0 dL_law_731 (by decide) ?_
    refine y_sld (j := 2) (v := 18) B0 hX hbl (by decide) e2.symm dL_law_732 ?_
    refine z_callM B0 (z_runV (q0 := 0) (As := [.int 3, .int 18]) (st := [.int (-1)]) B0 (c_X12_after_185 (a := a2) mS0  rfl rfl rfl rfl rfl rfl rfl rfl rfl rfl rfl rfl rfl rfl rfl rfl rfl rfl rfl rfl rfl rfl rfl rfl rfl rfl rfl) cf_X12_after (mw_0 cy a2 mS0) rfl wm_L_90 wi_X12_after ws_X12_after dL_law_733 rfl (Nat.le_of_ble_eq_true rfl) ⟨by decide, by decide, by decide, by decide⟩) (fun r2 u2 p2 => ?_)
    obtain ⟨rfl, -⟩ := p2
    refine z_icmp_eq_t (tgt := 1091) B0 dL_law_736 (by decide) rfl ?_
    exact fin u1 u2
  · obtain rfl : x2 = 19 := Int32.toInt_inj.mp (h2.trans (by decide))
    refine z_aload_n B0 dL_law_708 rfl rfl ?_
    refine z_aload_n B0 dL_law_709 rfl rfl ?_
    refine z_iload_n B0 dL_law_710 rfl rfl ?_
    refine z_iconst (v := 1) B0 dL_law_711 (by decide) ?_
    refine z_iadd (v := 1) B0 dL_law_712 (by decide) ?_
    refine y_sld (j := 1) (v := 3) B0 hX hbl (by decide) e1.symm dL_law_713 ?_
    refine z_aload_n B0 dL_law_714 rfl rfl ?_
    refine z_iload_n B0 dL_law_715 rfl rfl ?_
    refine z_iconst (v := 2) B0 dL_law_716 (by decide) ?_
    refine z_iadd (v := 2) B0 dL_law_717 (by decide) ?_
    refine y_sld (j := 2) (v := 19) B0 hX hbl (by decide) e2.symm dL_law_718 ?_
    refine z_callC B0 (z_runV (q0 := 0) (As := [.int 3, .int 19]) (st := []) B0 (c_X11_after_186 (a := a) (cS0 w)  ) cf_X11_after (cw_0 cy tE a rw (cS0 w)) rfl wm_L_87 wi_X11_after ws_X11_after dL_law_719 rfl (Nat.le_of_ble_eq_true rfl) ⟨by decide, by decide, by decide, by decide⟩) (fun r1 u1 p1 => ?_)
    obtain ⟨rfl, -⟩ := p1
    refine z_aload_n B0 dL_law_722 rfl rfl ?_
    refine z_aload_n B0 dL_law_723 rfl rfl ?_
    refine z_iload_n B0 dL_law_724 rfl rfl ?_
    refine z_iconst (v := 1) B0 dL_law_725 (by decide) ?_
    refine z_iadd (v := 1) B0 dL_law_726 (by decide) ?_
    refine y_sld (j := 1) (v := 3) B0 hX hbl (by decide) e1.symm dL_law_727 ?_
    refine z_aload_n B0 dL_law_728 rfl rfl ?_
    refine z_iload_n B0 dL_law_729 rfl rfl ?_
    refine z_iconst (v := 2) B0 dL_law_730 (by decide) ?_
    refine z_iadd (v := 2) B0 dL_law_731 (by decide) ?_
    refine y_sld (j := 2) (v := 19) B0 hX hbl (by decide) e2.symm dL_law_732 ?_
    refine z_callM B0 (z_runV (q0 := 0) (As := [.int 3, .int 19]) (st := [.int (-1)]) B0 (c_X12_after_186 (a := a2) mS0  rfl rfl rfl rfl rfl rfl rfl rfl rfl rfl rfl rfl rfl rfl rfl rfl rfl rfl rfl rfl rfl rfl rfl rfl rfl rfl rfl) cf_X12_after (mw_0 cy a2 mS0) rfl wm_L_90 wi_X12_after ws_X12_after dL_law_733 rfl (Nat.le_of_ble_eq_true rfl) ⟨by decide, by decide, by decide, by decide⟩) (fun r2 u2 p2 => ?_)
    obtain ⟨rfl, -⟩ := p2
    refine z_icmp_eq_t (tgt := 1091) B0 dL_law_736 (by decide) rfl ?_
    exact fin u1 u2
  · obtain rfl : x2 = 20 := Int32.toInt_inj.mp (h2.trans (by decide))
    refine z_aload_n B0 dL_law_708 rfl rfl ?_
    refine z_aload_n B0 dL_law_709 rfl rfl ?_
    refine z_iload_n B0 dL_law_710 rfl rfl ?_
    refine z_iconst (v := 1) B0 dL_law_711 (by decide) ?_
    refine z_iadd (v := 1) B0 dL_law_712 (by decide) ?_
    refine y_sld (j := 1) (v := 3) B0 hX hbl (by decide) e1.symm dL_law_713 ?_
    refine z_aload_n B0 dL_law_714 rfl rfl ?_
    refine z_iload_n B0 dL_law_715 rfl rfl ?_
    refine z_iconst (v := 2) B0 dL_law_716 (by decide) ?_
    refine z_iadd (v := 2) B0 dL_law_717 (by decide) ?_
    refine y_sld (j := 2) (v := 20) B0 hX hbl (by decide) e2.symm dL_law_718 ?_
    refine z_callC B0 (z_runV (q0 := 0) (As := [.int 3, .int 20]) (st := []) B0 (c_X11_after_187 (a := a) (cS0 w)  ) cf_X11_after (cw_0 cy tE a rw (cS0 w)) rfl wm_L_87 wi_X11_after ws_X11_after dL_law_719 rfl (Nat.le_of_ble_eq_true rfl) ⟨by decide, by decide, by decide, by decide⟩) (fun r1 u1 p1 => ?_)
    obtain ⟨rfl, -⟩ := p1
    refine z_aload_n B0 dL_law_722 rfl rfl ?_
    refine z_aload_n B0 dL_law_723 rfl rfl ?_
    refine z_iload_n B0 dL_law_724 rfl rfl ?_
    refine z_iconst (v := 1) B0 dL_law_725 (by decide) ?_
    refine z_iadd (v := 1) B0 dL_law_726 (by decide) ?_
    refine y_sld (j := 1) (v := 3) B0 hX hbl (by decide) e1.symm dL_law_727 ?_
    refine z_aload_n B0 dL_law_728 rfl rfl ?_
    refine z_iload_n B0 dL_law_729 rfl rfl ?_
    refine z_iconst (v := 2) B0 dL_law_730 (by decide) ?_
    refine z_iadd (v := 2) B0 dL_law_731 (by decide) ?_
    refine y_sld (j := 2) (v := 20) B0 hX hbl (by decide) e2.symm dL_law_732 ?_
    refine z_callM B0 (z_runV (q0 := 0) (As := [.int 3, .int 20]) (st := [.int (-1)]) B0 (c_X12_after_187 (a := a2) mS0  rfl rfl rfl rfl rfl rfl rfl rfl rfl rfl rfl rfl rfl rfl rfl rfl rfl rfl rfl rfl rfl rfl rfl rfl rfl rfl rfl) cf_X12_after (mw_0 cy a2 mS0) rfl wm_L_90 wi_X12_after ws_X12_after dL_law_733 rfl (Nat.le_of_ble_eq_true rfl) ⟨by decide, by decide, by decide, by decide⟩) (fun r2 u2 p2 => ?_)
    obtain ⟨rfl, -⟩ := p2
    refine z_icmp_eq_t (tgt := 1091) B0 dL_law_736 (by decide) rfl ?_
    exact fin u1 u2
  · obtain rfl : x2 = 21 := Int32.toInt_inj.mp (h2.trans (by decide))
    refine z_aload_n B0 dL_law_708 rfl rfl ?_
    refine z_aload_n B0 dL_law_709 rfl rfl ?_
    refine z_iload_n B0 dL_law_710 rfl rfl ?_
    refine z_iconst (v := 1) B0 dL_law_711 (by decide) ?_
    refine z_iadd (v := 1) B0 dL_law_712 (by decide) ?_
    refine y_sld (j := 1) (v := 3) B0 hX hbl (by decide) e1.symm dL_law_713 ?_
    refine z_aload_n B0 dL_law_714 rfl rfl ?_
    refine z_iload_n B0 dL_law_715 rfl rfl ?_
    refine z_iconst (v := 2) B0 dL_law_716 (by decide) ?_
    refine z_iadd (v := 2) B0 dL_law_717 (by decide) ?_
    refine y_sld (j := 2) (v := 21) B0 hX hbl (by decide) e2.symm dL_law_718 ?_
    refine z_callC B0 (z_runV (q0 := 0) (As := [.int 3, .int 21]) (st := []) B0 (c_X11_after_188 (a := a) (cS0 w)  rfl rfl rfl hrw) cf_X11_after (cw_0 cy tE a rw (cS0 w)) rfl wm_L_87 wi_X11_after ws_X11_after dL_law_719 rfl (Nat.le_of_ble_eq_true rfl) ⟨by decide, by decide, by decide, by decide⟩) (fun r1 u1 p1 => ?_)
    obtain ⟨rfl, -⟩ := p1
    refine z_aload_n B0 dL_law_722 rfl rfl ?_
    refine z_aload_n B0 dL_law_723 rfl rfl ?_
    refine z_iload_n B0 dL_law_724 rfl rfl ?_
    refine z_iconst (v := 1) B0 dL_law_725 (by decide) ?_
    refine z_iadd (v := 1) B0 dL_law_726 (by decide) ?_
    refine y_sld (j := 1) (v := 3) B0 hX hbl (by decide) e1.symm dL_law_727 ?_
    refine z_aload_n B0 dL_law_728 rfl rfl ?_
    refine z_iload_n B0 dL_law_729 rfl rfl ?_
    refine z_iconst (v := 2) B0 dL_law_730 (by decide) ?_
    refine z_iadd (v := 2) B0 dL_law_731 (by decide) ?_
    refine y_sld (j := 2) (v := 21) B0 hX hbl (by decide) e2.symm dL_law_732 ?_
    refine z_callM B0 (z_runV (q0 := 0) (As := [.int 3, .int 21]) (st := [.int 0]) B0 (c_X12_after_188 (a := a2) mS0  rfl rfl rfl rfl rfl rfl rfl rfl rfl rfl rfl rfl rfl rfl rfl rfl rfl rfl rfl rfl rfl rfl rfl rfl rfl rfl rfl) cf_X12_after (mw_0 cy a2 mS0) rfl wm_L_90 wi_X12_after ws_X12_after dL_law_733 rfl (Nat.le_of_ble_eq_true rfl) ⟨by decide, by decide, by decide, by decide⟩) (fun r2 u2 p2 => ?_)
    obtain ⟨rfl, -⟩ := p2
    refine z_icmp_eq_t (tgt := 1091) B0 dL_law_736 (by decide) rfl ?_
    exact fin u1 u2
  · obtain rfl : x2 = 22 := Int32.toInt_inj.mp (h2.trans (by decide))
    refine z_aload_n B0 dL_law_708 rfl rfl ?_
    refine z_aload_n B0 dL_law_709 rfl rfl ?_
    refine z_iload_n B0 dL_law_710 rfl rfl ?_
    refine z_iconst (v := 1) B0 dL_law_711 (by decide) ?_
    refine z_iadd (v := 1) B0 dL_law_712 (by decide) ?_
    refine y_sld (j := 1) (v := 3) B0 hX hbl (by decide) e1.symm dL_law_713 ?_
    refine z_aload_n B0 dL_law_714 rfl rfl ?_
    refine z_iload_n B0 dL_law_715 rfl rfl ?_
    refine z_iconst (v := 2) B0 dL_law_716 (by decide) ?_
    refine z_iadd (v := 2) B0 dL_law_717 (by decide) ?_
    refine y_sld (j := 2) (v := 22) B0 hX hbl (by decide) e2.symm dL_law_718 ?_
    refine z_callC B0 (z_runV (q0 := 0) (As := [.int 3, .int 22]) (st := []) B0 (c_X11_after_189 (a := a) (cS0 w)  rfl rfl rfl hrw) cf_X11_after (cw_0 cy tE a rw (cS0 w)) rfl wm_L_87 wi_X11_after ws_X11_after dL_law_719 rfl (Nat.le_of_ble_eq_true rfl) ⟨by decide, by decide, by decide, by decide⟩) (fun r1 u1 p1 => ?_)
    obtain ⟨rfl, -⟩ := p1
    refine z_aload_n B0 dL_law_722 rfl rfl ?_
    refine z_aload_n B0 dL_law_723 rfl rfl ?_
    refine z_iload_n B0 dL_law_724 rfl rfl ?_
    refine z_iconst (v := 1) B0 dL_law_725 (by decide) ?_
    refine z_iadd (v := 1) B0 dL_law_726 (by decide) ?_
    refine y_sld (j := 1) (v := 3) B0 hX hbl (by decide) e1.symm dL_law_727 ?_
    refine z_aload_n B0 dL_law_728 rfl rfl ?_
    refine z_iload_n B0 dL_law_729 rfl rfl ?_
    refine z_iconst (v := 2) B0 dL_law_730 (by decide) ?_
    refine z_iadd (v := 2) B0 dL_law_731 (by decide) ?_
    refine y_sld (j := 2) (v := 22) B0 hX hbl (by decide) e2.symm dL_law_732 ?_
    refine z_callM B0 (z_runV (q0 := 0) (As := [.int 3, .int 22]) (st := [.int 0]) B0 (c_X12_after_189 (a := a2) mS0  rfl rfl rfl rfl rfl rfl rfl rfl rfl rfl rfl rfl rfl rfl rfl rfl rfl rfl rfl rfl rfl rfl rfl rfl rfl rfl rfl) cf_X12_after (mw_0 cy a2 mS0) rfl wm_L_90 wi_X12_after ws_X12_after dL_law_733 rfl (Nat.le_of_ble_eq_true rfl) ⟨by decide, by decide, by decide, by decide⟩) (fun r2 u2 p2 => ?_)
    obtain ⟨rfl, -⟩ := p2
    refine z_icmp_eq_t (tgt := 1091) B0 dL_law_736 (by decide) rfl ?_
    exact fin u1 u2
  · obtain rfl : x2 = 23 := Int32.toInt_inj.mp (h2.trans (by decide))
    refine z_aload_n B0 dL_law_708 rfl rfl ?_
    refine z_aload_n B0 dL_law_709 rfl rfl ?_
    refine z_iload_n B0 dL_law_710 rfl rfl ?_
    refine z_iconst (v := 1) B0 dL_law_711 (by decide) ?_
    refine z_iadd (v := 1) B0 dL_law_712 (by decide) ?_
    refine y_sld (j := 1) (v := 3) B0 hX hbl (by decide) e1.symm dL_law_713 ?_
    refine z_aload_n B0 dL_law_714 rfl rfl ?_
    refine z_iload_n B0 dL_law_715 rfl rfl ?_
    refine z_iconst (v := 2) B0 dL_law_716 (by decide) ?_
    refine z_iadd (v := 2) B0 dL_law_717 (by decide) ?_
    refine y_sld (j := 2) (v := 23) B0 hX hbl (by decide) e2.symm dL_law_718 ?_
    refine z_callC B0 (z_runV (q0 := 0) (As := [.int 3, .int 23]) (st := []) B0 (c_X11_after_190 (a := a) (cS0 w)  rfl rfl rfl hrw) cf_X11_after (cw_0 cy tE a rw (cS0 w)) rfl wm_L_87 wi_X11_after ws_X11_after dL_law_719 rfl (Nat.le_of_ble_eq_true rfl) ⟨by decide, by decide, by decide, by decide⟩) (fun r1 u1 p1 => ?_)
    obtain ⟨rfl, -⟩ := p1
    refine z_aload_n B0 dL_law_722 rfl rfl ?_
    refine z_aload_n B0 dL_law_723 rfl rfl ?_
    refine z_iload_n B0 dL_law_724 rfl rfl ?_
    refine z_iconst (v := 1) B0 dL_law_725 (by decide) ?_
    refine z_iadd (v := 1) B0 dL_law_726 (by decide) ?_
    refine y_sld (j := 1) (v := 3) B0 hX hbl (by decide) e1.symm dL_law_727 ?_
    refine z_aload_n B0 dL_law_728 rfl rfl ?_
    refine z_iload_n B0 dL_law_729 rfl rfl ?_
    refine z_iconst (v := 2) B0 dL_law_730 (by decide) ?_
    refine z_iadd (v := 2) B0 dL_law_731 (by decide) ?_
    refine y_sld (j := 2) (v := 23) B0 hX hbl (by decide) e2.symm dL_law_732 ?_
    refine z_callM B0 (z_runV (q0 := 0) (As := [.int 3, .int 23]) (st := [.int 0]) B0 (c_X12_after_190 (a := a2) mS0  rfl rfl rfl rfl rfl rfl rfl rfl rfl rfl rfl rfl rfl rfl rfl rfl rfl rfl rfl rfl rfl rfl rfl rfl rfl rfl rfl) cf_X12_after (mw_0 cy a2 mS0) rfl wm_L_90 wi_X12_after ws_X12_after dL_law_733 rfl (Nat.le_of_ble_eq_true rfl) ⟨by decide, by decide, by decide, by decide⟩) (fun r2 u2 p2 => ?_)
    obtain ⟨rfl, -⟩ := p2
    refine z_icmp_eq_t (tgt := 1091) B0 dL_law_736 (by decide) rfl ?_
    exact fin u1 u2
  · obtain rfl : x2 = 24 := Int32.toInt_inj.mp (h2.trans (by decide))
    refine z_aload_n B0 dL_law_708 rfl rfl ?_
    refine z_aload_n B0 dL_law_709 rfl rfl ?_
    refine z_iload_n B0 dL_law_710 rfl rfl ?_
    refine z_iconst (v := 1) B0 dL_law_711 (by decide) ?_
    refine z_iadd (v := 1) B0 dL_law_712 (by decide) ?_
    refine y_sld (j := 1) (v := 3) B0 hX hbl (by decide) e1.symm dL_law_713 ?_
    refine z_aload_n B0 dL_law_714 rfl rfl ?_
    refine z_iload_n B0 dL_law_715 rfl rfl ?_
    refine z_iconst (v := 2) B0 dL_law_716 (by decide) ?_
    refine z_iadd (v := 2) B0 dL_law_717 (by decide) ?_
    refine y_sld (j := 2) (v := 24) B0 hX hbl (by decide) e2.symm dL_law_718 ?_
    refine z_callC B0 (z_runV (q0 := 0) (As := [.int 3, .int 24]) (st := []) B0 (c_X11_after_191 (a := a) (cS0 w)  ) cf_X11_after (cw_0 cy tE a rw (cS0 w)) rfl wm_L_87 wi_X11_after ws_X11_after dL_law_719 rfl (Nat.le_of_ble_eq_true rfl) ⟨by decide, by decide, by decide, by decide⟩) (fun r1 u1 p1 => ?_)
    obtain ⟨rfl, -⟩ := p1
    refine z_aload_n B0 dL_law_722 rfl rfl ?_
    refine z_aload_n B0 dL_law_723 rfl rfl ?_
    refine z_iload_n B0 dL_law_724 rfl rfl ?_
    refine z_iconst (v := 1) B0 dL_law_725 (by decide) ?_
    refine z_iadd (v := 1) B0 dL_law_726 (by decide) ?_
    refine y_sld (j := 1) (v := 3) B0 hX hbl (by decide) e1.symm dL_law_727 ?_
    refine z_aload_n B0 dL_law_728 rfl rfl ?_
    refine z_iload_n B0 dL_law_729 rfl rfl ?_
    refine z_iconst (v := 2) B0 dL_law_730 (by decide) ?_
    refine z_iadd (v := 2) B0 dL_law_731 (by decide) ?_
    refine y_sld (j := 2) (v := 24) B0 hX hbl (by decide) e2.symm dL_law_732 ?_
    refine z_callM B0 (z_runV (q0 := 0) (As := [.int 3, .int 24]) (st := [.int (-1)]) B0 (c_X12_after_191 (a := a2) mS0  rfl rfl rfl rfl rfl rfl rfl rfl rfl rfl rfl rfl rfl rfl rfl rfl rfl rfl rfl rfl rfl rfl rfl rfl rfl rfl rfl) cf_X12_after (mw_0 cy a2 mS0) rfl wm_L_90 wi_X12_after ws_X12_after dL_law_733 rfl (Nat.le_of_ble_eq_true rfl) ⟨by decide, by decide, by decide, by decide⟩) (fun r2 u2 p2 => ?_)
    obtain ⟨rfl, -⟩ := p2
    refine z_icmp_eq_t (tgt := 1091) B0 dL_law_736 (by decide) rfl ?_
    exact fin u1 u2
  · obtain rfl : x2 = 25 := Int32.toInt_inj.mp (h2.trans (by decide))
    refine z_aload_n B0 dL_law_708 rfl rfl ?_
    refine z_aload_n B0 dL_law_709 rfl rfl ?_
    refine z_iload_n B0 dL_law_710 rfl rfl ?_
    refine z_iconst (v := 1) B0 dL_law_711 (by decide) ?_
    refine z_iadd (v := 1) B0 dL_law_712 (by decide) ?_
    refine y_sld (j := 1) (v := 3) B0 hX hbl (by decide) e1.symm dL_law_713 ?_
    refine z_aload_n B0 dL_law_714 rfl rfl ?_
    refine z_iload_n B0 dL_law_715 rfl rfl ?_
    refine z_iconst (v := 2) B0 dL_law_716 (by decide) ?_
    refine z_iadd (v := 2) B0 dL_law_717 (by decide) ?_
    refine y_sld (j := 2) (v := 25) B0 hX hbl (by decide) e2.symm dL_law_718 ?_
    refine z_callC B0 (z_runV (q0 := 0) (As := [.int 3, .int 25]) (st := []) B0 (c_X11_after_192 (a := a) (cS0 w)  rfl rfl rfl hrw) cf_X11_after (cw_0 cy tE a rw (cS0 w)) rfl wm_L_87 wi_X11_after ws_X11_after dL_law_719 rfl (Nat.le_of_ble_eq_true rfl) ⟨by decide, by decide, by decide, by decide⟩) (fun r1 u1 p1 => ?_)
    obtain ⟨rfl, -⟩ := p1
    refine z_aload_n B0 dL_law_722 rfl rfl ?_
    refine z_aload_n B0 dL_law_723 rfl rfl ?_
    refine z_iload_n B0 dL_law_724 rfl rfl ?_
    refine z_iconst (v := 1) B0 dL_law_725 (by decide) ?_
    refine z_iadd (v := 1) B0 dL_law_726 (by decide) ?_
    refine y_sld (j := 1) (v := 3) B0 hX hbl (by decide) e1.symm dL_law_727 ?_
    refine z_aload_n B0 dL_law_728 rfl rfl ?_
    refine z_iload_n B0 dL_law_729 rfl rfl ?_
    refine z_iconst (v := 2) B0 dL_law_730 (by decide) ?_
    refine z_iadd (v := 2) B0 dL_law_731 (by decide) ?_
    refine y_sld (j := 2) (v := 25) B0 hX hbl (by decide) e2.symm dL_law_732 ?_
    refine z_callM B0 (z_runV (q0 := 0) (As := [.int 3, .int 25]) (st := [.int 0]) B0 (c_X12_after_192 (a := a2) mS0  rfl rfl rfl rfl rfl rfl rfl rfl rfl rfl rfl rfl rfl rfl rfl rfl rfl rfl rfl rfl rfl rfl rfl rfl rfl rfl rfl) cf_X12_after (mw_0 cy a2 mS0) rfl wm_L_90 wi_X12_after ws_X12_after dL_law_733 rfl (Nat.le_of_ble_eq_true rfl) ⟨by decide, by decide, by decide, by decide⟩) (fun r2 u2 p2 => ?_)
    obtain ⟨rfl, -⟩ := p2
    refine z_icmp_eq_t (tgt := 1091) B0 dL_law_736 (by decide) rfl ?_
    exact fin u1 u2
  · obtain rfl : x2 = 26 := Int32.toInt_inj.mp (h2.trans (by decide))
    refine z_aload_n B0 dL_law_708 rfl rfl ?_
    refine z_aload_n B0 dL_law_709 rfl rfl ?_
    refine z_iload_n B0 dL_law_710 rfl rfl ?_
    refine z_iconst (v := 1) B0 dL_law_711 (by decide) ?_
    refine z_iadd (v := 1) B0 dL_law_712 (by decide) ?_
    refine y_sld (j := 1) (v := 3) B0 hX hbl (by decide) e1.symm dL_law_713 ?_
    refine z_aload_n B0 dL_law_714 rfl rfl ?_
    refine z_iload_n B0 dL_law_715 rfl rfl ?_
    refine z_iconst (v := 2) B0 dL_law_716 (by decide) ?_
    refine z_iadd (v := 2) B0 dL_law_717 (by decide) ?_
    refine y_sld (j := 2) (v := 26) B0 hX hbl (by decide) e2.symm dL_law_718 ?_
    refine z_callC B0 (z_runV (q0 := 0) (As := [.int 3, .int 26]) (st := []) B0 (c_X11_after_193 (a := a) (cS0 w)  rfl rfl rfl hrw) cf_X11_after (cw_0 cy tE a rw (cS0 w)) rfl wm_L_87 wi_X11_after ws_X11_after dL_law_719 rfl (Nat.le_of_ble_eq_true rfl) ⟨by decide, by decide, by decide, by decide⟩) (fun r1 u1 p1 => ?_)
    obtain ⟨rfl, -⟩ := p1
    refine z_aload_n B0 dL_law_722 rfl rfl ?_
    refine z_aload_n B0 dL_law_723 rfl rfl ?_
    refine z_iload_n B0 dL_law_724 rfl rfl ?_
    refine z_iconst (v := 1) B0 dL_law_725 (by decide) ?_
    refine z_iadd (v := 1) B0 dL_law_726 (by decide) ?_
    refine y_sld (j := 1) (v := 3) B0 hX hbl (by decide) e1.symm dL_law_727 ?_
    refine z_aload_n B0 dL_law_728 rfl rfl ?_
    refine z_iload_n B0 dL_law_729 rfl rfl ?_
    refine z_iconst (v := 2) B0 dL_law_730 (by decide) ?_
    refine z_iadd (v := 2) B0 dL_law_731 (by decide) ?_
    refine y_sld (j := 2) (v := 26) B0 hX hbl (by decide) e2.symm dL_law_732 ?_
    refine z_callM B0 (z_runV (q0 := 0) (As := [.int 3, .int 26]) (st := [.int 0]) B0 (c_X12_after_193 (a := a2) mS0  rfl rfl rfl rfl rfl rfl rfl rfl rfl rfl rfl rfl rfl rfl rfl rfl rfl rfl rfl rfl rfl rfl rfl rfl rfl rfl rfl) cf_X12_after (mw_0 cy a2 mS0) rfl wm_L_90 wi_X12_after ws_X12_after dL_law_733 rfl (Nat.le_of_ble_eq_true rfl) ⟨by decide, by decide, by decide, by decide⟩) (fun r2 u2 p2 => ?_)
    obtain ⟨rfl, -⟩ := p2
    refine z_icmp_eq_t (tgt := 1091) B0 dL_law_736 (by decide) rfl ?_
    exact fin u1 u2
  · obtain rfl : x2 = 27 := Int32.toInt_inj.mp (h2.trans (by decide))
    refine z_aload_n B0 dL_law_708 rfl rfl ?_
    refine z_aload_n B0 dL_law_709 rfl rfl ?_
    refine z_iload_n B0 dL_law_710 rfl rfl ?_
    refine z_iconst (v := 1) B0 dL_law_711 (by decide) ?_
    refine z_iadd (v := 1) B0 dL_law_712 (by decide) ?_
    refine y_sld (j := 1) (v := 3) B0 hX hbl (by decide) e1.symm dL_law_713 ?_
    refine z_aload_n B0 dL_law_714 rfl rfl ?_
    refine z_iload_n B0 dL_law_715 rfl rfl ?_
    refine z_iconst (v := 2) B0 dL_law_716 (by decide) ?_
    refine z_iadd (v := 2) B0 dL_law_717 (by decide) ?_
    refine y_sld (j := 2) (v := 27) B0 hX hbl (by decide) e2.symm dL_law_718 ?_
    refine z_callC B0 (z_runV (q0 := 0) (As := [.int 3, .int 27]) (st := []) B0 (c_X11_after_194 (a := a) (cS0 w)  rfl rfl rfl hrw) cf_X11_after (cw_0 cy tE a rw (cS0 w)) rfl wm_L_87 wi_X11_after ws_X11_after dL_law_719 rfl (Nat.le_of_ble_eq_true rfl) ⟨by decide, by decide, by decide, by decide⟩) (fun r1 u1 p1 => ?_)
    obtain ⟨rfl, -⟩ := p1
    refine z_aload_n B0 dL_law_722 rfl rfl ?_
    refine z_aload_n B0 dL_law_723 rfl rfl ?_
    refine z_iload_n B0 dL_law_724 rfl rfl ?_
    refine z_iconst (v := 1) B0 dL_law_725 (by decide) ?_
    refine z_iadd (v := 1) B0 dL_law_726 (by decide) ?_
    refine y_sld (j := 1) (v := 3) B0 hX hbl (by decide) e1.symm dL_law_727 ?_
    refine z_aload_n B0 dL_law_728 rfl rfl ?_
    refine z_iload_n B0 dL_law_729 rfl rfl ?_
    refine z_iconst (v := 2) B0 dL_law_730 (by decide) ?_
    refine z_iadd (v := 2) B0 dL_law_731 (by decide) ?_
    refine y_sld (j := 2) (v := 27) B0 hX hbl (by decide) e2.symm dL_law_732 ?_
    refine z_callM B0 (z_runV (q0 := 0) (As := [.int 3, .int 27]) (st := [.int 0]) B0 (c_X12_after_194 (a := a2) mS0  rfl rfl rfl rfl rfl rfl rfl rfl rfl rfl rfl rfl rfl rfl rfl rfl rfl rfl rfl rfl rfl rfl rfl rfl rfl rfl rfl) cf_X12_after (mw_0 cy a2 mS0) rfl wm_L_90 wi_X12_after ws_X12_after dL_law_733 rfl (Nat.le_of_ble_eq_true rfl) ⟨by decide, by decide, by decide, by decide⟩) (fun r2 u2 p2 => ?_)
    obtain ⟨rfl, -⟩ := p2
    refine z_icmp_eq_t (tgt := 1091) B0 dL_law_736 (by decide) rfl ?_
    exact fin u1 u2
  · obtain rfl : x2 = 28 := Int32.toInt_inj.mp (h2.trans (by decide))
    refine z_aload_n B0 dL_law_708 rfl rfl ?_
    refine z_aload_n B0 dL_law_709 rfl rfl ?_
    refine z_iload_n B0 dL_law_710 rfl rfl ?_
    refine z_iconst (v := 1) B0 dL_law_711 (by decide) ?_
    refine z_iadd (v := 1) B0 dL_law_712 (by decide) ?_
    refine y_sld (j := 1) (v := 3) B0 hX hbl (by decide) e1.symm dL_law_713 ?_
    refine z_aload_n B0 dL_law_714 rfl rfl ?_
    refine z_iload_n B0 dL_law_715 rfl rfl ?_
    refine z_iconst (v := 2) B0 dL_law_716 (by decide) ?_
    refine z_iadd (v := 2) B0 dL_law_717 (by decide) ?_
    refine y_sld (j := 2) (v := 28) B0 hX hbl (by decide) e2.symm dL_law_718 ?_
    refine z_callC B0 (z_runV (q0 := 0) (As := [.int 3, .int 28]) (st := []) B0 (c_X11_after_195 (a := a) (cS0 w)  ) cf_X11_after (cw_0 cy tE a rw (cS0 w)) rfl wm_L_87 wi_X11_after ws_X11_after dL_law_719 rfl (Nat.le_of_ble_eq_true rfl) ⟨by decide, by decide, by decide, by decide⟩) (fun r1 u1 p1 => ?_)
    obtain ⟨rfl, -⟩ := p1
    refine z_aload_n B0 dL_law_722 rfl rfl ?_
    refine z_aload_n B0 dL_law_723 rfl rfl ?_
    refine z_iload_n B0 dL_law_724 rfl rfl ?_
    refine z_iconst (v := 1) B0 dL_law_725 (by decide) ?_
    refine z_iadd (v := 1) B0 dL_law_726 (by decide) ?_
    refine y_sld (j := 1) (v := 3) B0 hX hbl (by decide) e1.symm dL_law_727 ?_
    refine z_aload_n B0 dL_law_728 rfl rfl ?_
    refine z_iload_n B0 dL_law_729 rfl rfl ?_
    refine z_iconst (v := 2) B0 dL_law_730 (by decide) ?_
    refine z_iadd (v := 2) B0 dL_law_731 (by decide) ?_
    refine y_sld (j := 2) (v := 28) B0 hX hbl (by decide) e2.symm dL_law_732 ?_
    refine z_callM B0 (z_runV (q0 := 0) (As := [.int 3, .int 28]) (st := [.int (-1)]) B0 (c_X12_after_195 (a := a2) mS0  rfl rfl rfl rfl rfl rfl rfl rfl rfl rfl rfl rfl rfl rfl rfl rfl rfl rfl rfl rfl rfl rfl rfl rfl rfl rfl rfl) cf_X12_after (mw_0 cy a2 mS0) rfl wm_L_90 wi_X12_after ws_X12_after dL_law_733 rfl (Nat.le_of_ble_eq_true rfl) ⟨by decide, by decide, by decide, by decide⟩) (fun r2 u2 p2 => ?_)
    obtain ⟨rfl, -⟩ := p2
    refine z_icmp_eq_t (tgt := 1091) B0 dL_law_736 (by decide) rfl ?_
    exact fin u1 u2
  · obtain rfl : x2 = 29 := Int32.toInt_inj.mp (h2.trans (by decide))
    refine z_aload_n B0 dL_law_708 rfl rfl ?_
    refine z_aload_n B0 dL_law_709 rfl rfl ?_
    refine z_iload_n B0 dL_law_710 rfl rfl ?_
    refine z_iconst (v := 1) B0 dL_law_711 (by decide) ?_
    refine z_iadd (v := 1) B0 dL_law_712 (by decide) ?_
    refine y_sld (j := 1) (v := 3) B0 hX hbl (by decide) e1.symm dL_law_713 ?_
    refine z_aload_n B0 dL_law_714 rfl rfl ?_
    refine z_iload_n B0 dL_law_715 rfl rfl ?_
    refine z_iconst (v := 2) B0 dL_law_716 (by decide) ?_
    refine z_iadd (v := 2) B0 dL_law_717 (by decide) ?_
    refine y_sld (j := 2) (v := 29) B0 hX hbl (by decide) e2.symm dL_law_718 ?_
    refine z_callC B0 (z_runV (q0 := 0) (As := [.int 3, .int 29]) (st := []) B0 (c_X11_after_196 (a := a) (cS0 w)  ) cf_X11_after (cw_0 cy tE a rw (cS0 w)) rfl wm_L_87 wi_X11_after ws_X11_after dL_law_719 rfl (Nat.le_of_ble_eq_true rfl) ⟨by decide, by decide, by decide, by decide⟩) (fun r1 u1 p1 => ?_)
    obtain ⟨rfl, -⟩ := p1
    refine z_aload_n B0 dL_law_722 rfl rfl ?_
    refine z_aload_n B0 dL_law_723 rfl rfl ?_
    refine z_iload_n B0 dL_law_724 rfl rfl ?_
    refine z_iconst (v := 1) B0 dL_law_725 (by decide) ?_
    refine z_iadd (v := 1) B0 dL_law_726 (by decide) ?_
    refine y_sld (j := 1) (v := 3) B0 hX hbl (by decide) e1.symm dL_law_727 ?_
    refine z_aload_n B0 dL_law_728 rfl rfl ?_
    refine z_iload_n B0 dL_law_729 rfl rfl ?_
    refine z_iconst (v := 2) B0 dL_law_730 (by decide) ?_
    refine z_iadd (v := 2) B0 dL_law_731 (by decide) ?_
    refine y_sld (j := 2) (v := 29) B0 hX hbl (by decide) e2.symm dL_law_732 ?_
    refine z_callM B0 (z_runV (q0 := 0) (As := [.int 3, .int 29]) (st := [.int (-1)]) B0 (c_X12_after_196 (a := a2) mS0  rfl rfl rfl rfl rfl rfl rfl rfl rfl rfl rfl rfl rfl rfl rfl rfl rfl rfl rfl rfl rfl rfl rfl rfl rfl rfl rfl) cf_X12_after (mw_0 cy a2 mS0) rfl wm_L_90 wi_X12_after ws_X12_after dL_law_733 rfl (Nat.le_of_ble_eq_true rfl) ⟨by decide, by decide, by decide, by decide⟩) (fun r2 u2 p2 => ?_)
    obtain ⟨rfl, -⟩ := p2
    refine z_icmp_eq_t (tgt := 1091) B0 dL_law_736 (by decide) rfl ?_
    exact fin u1 u2
  · obtain rfl : x2 = 30 := Int32.toInt_inj.mp (h2.trans (by decide))
    refine z_aload_n B0 dL_law_708 rfl rfl ?_
    refine z_aload_n B0 dL_law_709 rfl rfl ?_
    refine z_iload_n B0 dL_law_710 rfl rfl ?_
    refine z_iconst (v := 1) B0 dL_law_711 (by decide) ?_
    refine z_iadd (v := 1) B0 dL_law_712 (by decide) ?_
    refine y_sld (j := 1) (v := 3) B0 hX hbl (by decide) e1.symm dL_law_713 ?_
    refine z_aload_n B0 dL_law_714 rfl rfl ?_
    refine z_iload_n B0 dL_law_715 rfl rfl ?_
    refine z_iconst (v := 2) B0 dL_law_716 (by decide) ?_
    refine z_iadd (v := 2) B0 dL_law_717 (by decide) ?_
    refine y_sld (j := 2) (v := 30) B0 hX hbl (by decide) e2.symm dL_law_718 ?_
    refine z_callC B0 (z_runV (q0 := 0) (As := [.int 3, .int 30]) (st := []) B0 (c_X11_after_197 (a := a) (cS0 w)  ) cf_X11_after (cw_0 cy tE a rw (cS0 w)) rfl wm_L_87 wi_X11_after ws_X11_after dL_law_719 rfl (Nat.le_of_ble_eq_true rfl) ⟨by decide, by decide, by decide, by decide⟩) (fun r1 u1 p1 => ?_)
    obtain ⟨rfl, -⟩ := p1
    refine z_aload_n B0 dL_law_722 rfl rfl ?_
    refine z_aload_n B0 dL_law_723 rfl rfl ?_
    refine z_iload_n B0 dL_law_724 rfl rfl ?_
    refine z_iconst (v := 1) B0 dL_law_725 (by decide) ?_
    refine z_iadd (v := 1) B0 dL_law_726 (by decide) ?_
    refine y_sld (j := 1) (v := 3) B0 hX hbl (by decide) e1.symm dL_law_727 ?_
    refine z_aload_n B0 dL_law_728 rfl rfl ?_
    refine z_iload_n B0 dL_law_729 rfl rfl ?_
    refine z_iconst (v := 2) B0 dL_law_730 (by decide) ?_
    refine z_iadd (v := 2) B0 dL_law_731 (by decide) ?_
    refine y_sld (j := 2) (v := 30) B0 hX hbl (by decide) e2.symm dL_law_732 ?_
    refine z_callM B0 (z_runV (q0 := 0) (As := [.int 3, .int 30]) (st := [.int (-1)]) B0 (c_X12_after_197 (a := a2) mS0  rfl rfl rfl rfl rfl rfl rfl rfl rfl rfl rfl rfl rfl rfl rfl rfl rfl rfl rfl rfl rfl rfl rfl rfl rfl rfl rfl) cf_X12_after (mw_0 cy a2 mS0) rfl wm_L_90 wi_X12_after ws_X12_after dL_law_733 rfl (Nat.le_of_ble_eq_true rfl) ⟨by decide, by decide, by decide, by decide⟩) (fun r2 u2 p2 => ?_)
    obtain ⟨rfl, -⟩ := p2
    refine z_icmp_eq_t (tgt := 1091) B0 dL_law_736 (by decide) rfl ?_
    exact fin u1 u2
  · obtain rfl : x2 = 31 := Int32.toInt_inj.mp (h2.trans (by decide))
    refine z_aload_n B0 dL_law_708 rfl rfl ?_
    refine z_aload_n B0 dL_law_709 rfl rfl ?_
    refine z_iload_n B0 dL_law_710 rfl rfl ?_
    refine z_iconst (v := 1) B0 dL_law_711 (by decide) ?_
    refine z_iadd (v := 1) B0 dL_law_712 (by decide) ?_
    refine y_sld (j := 1) (v := 3) B0 hX hbl (by decide) e1.symm dL_law_713 ?_
    refine z_aload_n B0 dL_law_714 rfl rfl ?_
    refine z_iload_n B0 dL_law_715 rfl rfl ?_
    refine z_iconst (v := 2) B0 dL_law_716 (by decide) ?_
    refine z_iadd (v := 2) B0 dL_law_717 (by decide) ?_
    refine y_sld (j := 2) (v := 31) B0 hX hbl (by decide) e2.symm dL_law_718 ?_
    refine z_callC B0 (z_runV (q0 := 0) (As := [.int 3, .int 31]) (st := []) B0 (c_X11_after_198 (a := a) (cS0 w)  rfl rfl rfl hrw) cf_X11_after (cw_0 cy tE a rw (cS0 w)) rfl wm_L_87 wi_X11_after ws_X11_after dL_law_719 rfl (Nat.le_of_ble_eq_true rfl) ⟨by decide, by decide, by decide, by decide⟩) (fun r1 u1 p1 => ?_)
    obtain ⟨rfl, -⟩ := p1
    refine z_aload_n B0 dL_law_722 rfl rfl ?_
    refine z_aload_n B0 dL_law_723 rfl rfl ?_
    refine z_iload_n B0 dL_law_724 rfl rfl ?_
    refine z_iconst (v := 1) B0 dL_law_725 (by decide) ?_
    refine z_iadd (v := 1) B0 dL_law_726 (by decide) ?_
    refine y_sld (j := 1) (v := 3) B0 hX hbl (by decide) e1.symm dL_law_727 ?_
    refine z_aload_n B0 dL_law_728 rfl rfl ?_
    refine z_iload_n B0 dL_law_729 rfl rfl ?_
    refine z_iconst (v := 2) B0 dL_law_730 (by decide) ?_
    refine z_iadd (v := 2) B0 dL_law_731 (by decide) ?_
    refine y_sld (j := 2) (v := 31) B0 hX hbl (by decide) e2.symm dL_law_732 ?_
    refine z_callM B0 (z_runV (q0 := 0) (As := [.int 3, .int 31]) (st := [.int 0]) B0 (c_X12_after_198 (a := a2) mS0  rfl rfl rfl rfl rfl rfl rfl rfl rfl rfl rfl rfl rfl rfl rfl rfl rfl rfl rfl rfl rfl rfl rfl rfl rfl rfl rfl) cf_X12_after (mw_0 cy a2 mS0) rfl wm_L_90 wi_X12_after ws_X12_after dL_law_733 rfl (Nat.le_of_ble_eq_true rfl) ⟨by decide, by decide, by decide, by decide⟩) (fun r2 u2 p2 => ?_)
    obtain ⟨rfl, -⟩ := p2
    refine z_icmp_eq_t (tgt := 1091) B0 dL_law_736 (by decide) rfl ?_
    exact fin u1 u2
  · obtain rfl : x2 = 32 := Int32.toInt_inj.mp (h2.trans (by decide))
    refine z_aload_n B0 dL_law_708 rfl rfl ?_
    refine z_aload_n B0 dL_law_709 rfl rfl ?_
    refine z_iload_n B0 dL_law_710 rfl rfl ?_
    refine z_iconst (v := 1) B0 dL_law_711 (by decide) ?_
    refine z_iadd (v := 1) B0 dL_law_712 (by decide) ?_
    refine y_sld (j := 1) (v := 3) B0 hX hbl (by decide) e1.symm dL_law_713 ?_
    refine z_aload_n B0 dL_law_714 rfl rfl ?_
    refine z_iload_n B0 dL_law_715 rfl rfl ?_
    refine z_iconst (v := 2) B0 dL_law_716 (by decide) ?_
    refine z_iadd (v := 2) B0 dL_law_717 (by decide) ?_
    refine y_sld (j := 2) (v := 32) B0 hX hbl (by decide) e2.symm dL_law_718 ?_
    refine z_callC B0 (z_runV (q0 := 0) (As := [.int 3, .int 32]) (st := []) B0 (c_X11_after_199 (a := a) (cS0 w)  rfl rfl rfl hrw) cf_X11_after (cw_0 cy tE a rw (cS0 w)) rfl wm_L_87 wi_X11_after ws_X11_after dL_law_719 rfl (Nat.le_of_ble_eq_true rfl) ⟨by decide, by decide, by decide, by decide⟩) (fun r1 u1 p1 => ?_)
    obtain ⟨rfl, -⟩ := p1
    refine z_aload_n B0 dL_law_722 rfl rfl ?_
    refine z_aload_n B0 dL_law_723 rfl rfl ?_
    refine z_iload_n B0 dL_law_724 rfl rfl ?_
    refine z_iconst (v := 1) B0 dL_law_725 (by decide) ?_
    refine z_iadd (v := 1) B0 dL_law_726 (by decide) ?_
    refine y_sld (j := 1) (v := 3) B0 hX hbl (by decide) e1.symm dL_law_727 ?_
    refine z_aload_n B0 dL_law_728 rfl rfl ?_
    refine z_iload_n B0 dL_law_729 rfl rfl ?_
    refine z_iconst (v := 2) B0 dL_law_730 (by decide) ?_
    refine z_iadd (v := 2) B0 dL_law_731 (by decide) ?_
    refine y_sld (j := 2) (v := 32) B0 hX hbl (by decide) e2.symm dL_law_732 ?_
    refine z_callM B0 (z_runV (q0 := 0) (As := [.int 3, .int 32]) (st := [.int 0]) B0 (c_X12_after_199 (a := a2) mS0  rfl rfl rfl rfl rfl rfl rfl rfl rfl rfl rfl rfl rfl rfl rfl rfl rfl rfl rfl rfl rfl rfl rfl rfl rfl rfl rfl) cf_X12_after (mw_0 cy a2 mS0) rfl wm_L_90 wi_X12_after ws_X12_after dL_law_733 rfl (Nat.le_of_ble_eq_true rfl) ⟨by decide, by decide, by decide, by decide⟩) (fun r2 u2 p2 => ?_)
    obtain ⟨rfl, -⟩ := p2
    refine z_icmp_eq_t (tgt := 1091) B0 dL_law_736 (by decide) rfl ?_
    exact fin u1 u2
  · obtain rfl : x2 = 33 := Int32.toInt_inj.mp (h2.trans (by decide))
    refine z_aload_n B0 dL_law_708 rfl rfl ?_
    refine z_aload_n B0 dL_law_709 rfl rfl ?_
    refine z_iload_n B0 dL_law_710 rfl rfl ?_
    refine z_iconst (v := 1) B0 dL_law_711 (by decide) ?_
    refine z_iadd (v := 1) B0 dL_law_712 (by decide) ?_
    refine y_sld (j := 1) (v := 3) B0 hX hbl (by decide) e1.symm dL_law_713 ?_
    refine z_aload_n B0 dL_law_714 rfl rfl ?_
    refine z_iload_n B0 dL_law_715 rfl rfl ?_
    refine z_iconst (v := 2) B0 dL_law_716 (by decide) ?_
    refine z_iadd (v := 2) B0 dL_law_717 (by decide) ?_
    refine y_sld (j := 2) (v := 33) B0 hX hbl (by decide) e2.symm dL_law_718 ?_
    refine z_callC B0 (z_runV (q0 := 0) (As := [.int 3, .int 33]) (st := []) B0 (c_X11_after_200 (a := a) (cS0 w)  rfl rfl rfl hrw) cf_X11_after (cw_0 cy tE a rw (cS0 w)) rfl wm_L_87 wi_X11_after ws_X11_after dL_law_719 rfl (Nat.le_of_ble_eq_true rfl) ⟨by decide, by decide, by decide, by decide⟩) (fun r1 u1 p1 => ?_)
    obtain ⟨rfl, -⟩ := p1
    refine z_aload_n B0 dL_law_722 rfl rfl ?_
    refine z_aload_n B0 dL_law_723 rfl rfl ?_
    refine z_iload_n B0 dL_law_724 rfl rfl ?_
    refine z_iconst (v := 1) B0 dL_law_725 (by decide) ?_
    refine z_iadd (v := 1) B0 dL_law_726 (by decide) ?_
    refine y_sld (j := 1) (v := 3) B0 hX hbl (by decide) e1.symm dL_law_727 ?_
    refine z_aload_n B0 dL_law_728 rfl rfl ?_
    refine z_iload_n B0 dL_law_729 rfl rfl ?_
    refine z_iconst (v := 2) B0 dL_law_730 (by decide) ?_
    refine z_iadd (v := 2) B0 dL_law_731 (by decide) ?_
    refine y_sld (j := 2) (v := 33) B0 hX hbl (by decide) e2.symm dL_law_732 ?_
    refine z_callM B0 (z_runV (q0 := 0) (As := [.int 3, .int 33]) (st := [.int 0]) B0 (c_X12_after_200 (a := a2) mS0  rfl rfl rfl rfl rfl rfl rfl rfl rfl rfl rfl rfl rfl rfl rfl rfl rfl rfl rfl rfl rfl rfl rfl rfl rfl rfl rfl) cf_X12_after (mw_0 cy a2 mS0) rfl wm_L_90 wi_X12_after ws_X12_after dL_law_733 rfl (Nat.le_of_ble_eq_true rfl) ⟨by decide, by decide, by decide, by decide⟩) (fun r2 u2 p2 => ?_)
    obtain ⟨rfl, -⟩ := p2
    refine z_icmp_eq_t (tgt := 1091) B0 dL_law_736 (by decide) rfl ?_
    exact fin u1 u2
  · obtain rfl : x2 = 34 := Int32.toInt_inj.mp (h2.trans (by decide))
    refine z_aload_n B0 dL_law_708 rfl rfl ?_
    refine z_aload_n B0 dL_law_709 rfl rfl ?_
    refine z_iload_n B0 dL_law_710 rfl rfl ?_
    refine z_iconst (v := 1) B0 dL_law_711 (by decide) ?_
    refine z_iadd (v := 1) B0 dL_law_712 (by decide) ?_
    refine y_sld (j := 1) (v := 3) B0 hX hbl (by decide) e1.symm dL_law_713 ?_
    refine z_aload_n B0 dL_law_714 rfl rfl ?_
    refine z_iload_n B0 dL_law_715 rfl rfl ?_
    refine z_iconst (v := 2) B0 dL_law_716 (by decide) ?_
    refine z_iadd (v := 2) B0 dL_law_717 (by decide) ?_
    refine y_sld (j := 2) (v := 34) B0 hX hbl (by decide) e2.symm dL_law_718 ?_
    refine z_callC B0 (z_runV (q0 := 0) (As := [.int 3, .int 34]) (st := []) B0 (c_X11_after_201 (a := a) (cS0 w)  ) cf_X11_after (cw_0 cy tE a rw (cS0 w)) rfl wm_L_87 wi_X11_after ws_X11_after dL_law_719 rfl (Nat.le_of_ble_eq_true rfl) ⟨by decide, by decide, by decide, by decide⟩) (fun r1 u1 p1 => ?_)
    obtain ⟨rfl, -⟩ := p1
    refine z_aload_n B0 dL_law_722 rfl rfl ?_
    refine z_aload_n B0 dL_law_723 rfl rfl ?_
    refine z_iload_n B0 dL_law_724 rfl rfl ?_
    refine z_iconst (v := 1) B0 dL_law_725 (by decide) ?_
    refine z_iadd (v := 1) B0 dL_law_726 (by decide) ?_
    refine y_sld (j := 1) (v := 3) B0 hX hbl (by decide) e1.symm dL_law_727 ?_
    refine z_aload_n B0 dL_law_728 rfl rfl ?_
    refine z_iload_n B0 dL_law_729 rfl rfl ?_
    refine z_iconst (v := 2) B0 dL_law_730 (by decide) ?_
    refine z_iadd (v := 2) B0 dL_law_731 (by decide) ?_
    refine y_sld (j := 2) (v := 34) B0 hX hbl (by decide) e2.symm dL_law_732 ?_
    refine z_callM B0 (z_runV (q0 := 0) (As := [.int 3, .int 34]) (st := [.int (-1)]) B0 (c_X12_after_201 (a := a2) mS0  rfl rfl rfl rfl rfl rfl rfl rfl rfl rfl rfl rfl rfl rfl rfl rfl rfl rfl rfl rfl rfl rfl rfl rfl rfl rfl rfl) cf_X12_after (mw_0 cy a2 mS0) rfl wm_L_90 wi_X12_after ws_X12_after dL_law_733 rfl (Nat.le_of_ble_eq_true rfl) ⟨by decide, by decide, by decide, by decide⟩) (fun r2 u2 p2 => ?_)
    obtain ⟨rfl, -⟩ := p2
    refine z_icmp_eq_t (tgt := 1091) B0 dL_law_736 (by decide) rfl ?_
    exact fin u1 u2
  · obtain rfl : x2 = 35 := Int32.toInt_inj.mp (h2.trans (by decide))
    refine z_aload_n B0 dL_law_708 rfl rfl ?_
    refine z_aload_n B0 dL_law_709 rfl rfl ?_
    refine z_iload_n B0 dL_law_710 rfl rfl ?_
    refine z_iconst (v := 1) B0 dL_law_711 (by decide) ?_
    refine z_iadd (v := 1) B0 dL_law_712 (by decide) ?_
    refine y_sld (j := 1) (v := 3) B0 hX hbl (by decide) e1.symm dL_law_713 ?_
    refine z_aload_n B0 dL_law_714 rfl rfl ?_
    refine z_iload_n B0 dL_law_715 rfl rfl ?_
    refine z_iconst (v := 2) B0 dL_law_716 (by decide) ?_
    refine z_iadd (v := 2) B0 dL_law_717 (by decide) ?_
    refine y_sld (j := 2) (v := 35) B0 hX hbl (by decide) e2.symm dL_law_718 ?_
    refine z_callC B0 (z_runV (q0 := 0) (As := [.int 3, .int 35]) (st := []) B0 (c_X11_after_202 (a := a) (cS0 w)  rfl rfl rfl hrw) cf_X11_after (cw_0 cy tE a rw (cS0 w)) rfl wm_L_87 wi_X11_after ws_X11_after dL_law_719 rfl (Nat.le_of_ble_eq_true rfl) ⟨by decide, by decide, by decide, by decide⟩) (fun r1 u1 p1 => ?_)
    obtain ⟨rfl, -⟩ := p1
    refine z_aload_n B0 dL_law_722 rfl rfl ?_
    refine z_aload_n B0 dL_law_723 rfl rfl ?_
    refine z_iload_n B0 dL_law_724 rfl rfl ?_
    refine z_iconst (v := 1) B0 dL_law_725 (by decide) ?_
    refine z_iadd (v := 1) B0 dL_law_726 (by decide) ?_
    refine y_sld (j := 1) (v := 3) B0 hX hbl (by decide) e1.symm dL_law_727 ?_
    refine z_aload_n B0 dL_law_728 rfl rfl ?_
    refine z_iload_n B0 dL_law_729 rfl rfl ?_
    refine z_iconst (v := 2) B0 dL_law_730 (by decide) ?_
    refine z_iadd (v := 2) B0 dL_law_731 (by decide) ?_
    refine y_sld (j := 2) (v := 35) B0 hX hbl (by decide) e2.symm dL_law_732 ?_
    refine z_callM B0 (z_runV (q0 := 0) (As := [.int 3, .int 35]) (st := [.int 0]) B0 (c_X12_after_202 (a := a2) mS0  rfl rfl rfl rfl rfl rfl rfl rfl rfl rfl rfl rfl rfl rfl rfl rfl rfl rfl rfl rfl rfl rfl rfl rfl rfl rfl rfl) cf_X12_after (mw_0 cy a2 mS0) rfl wm_L_90 wi_X12_after ws_X12_after dL_law_733 rfl (Nat.le_of_ble_eq_true rfl) ⟨by decide, by decide, by decide, by decide⟩) (fun r2 u2 p2 => ?_)
    obtain ⟨rfl, -⟩ := p2
    refine z_icmp_eq_t (tgt := 1091) B0 dL_law_736 (by decide) rfl ?_
    exact fin u1 u2
  · obtain rfl : x2 = 36 := Int32.toInt_inj.mp (h2.trans (by decide))
    refine z_aload_n B0 dL_law_708 rfl rfl ?_
    refine z_aload_n B0 dL_law_709 rfl rfl ?_
    refine z_iload_n B0 dL_law_710 rfl rfl ?_
    refine z_iconst (v := 1) B0 dL_law_711 (by decide) ?_
    refine z_iadd (v := 1) B0 dL_law_712 (by decide) ?_
    refine y_sld (j := 1) (v := 3) B0 hX hbl (by decide) e1.symm dL_law_713 ?_
    refine z_aload_n B0 dL_law_714 rfl rfl ?_
    refine z_iload_n B0 dL_law_715 rfl rfl ?_
    refine z_iconst (v := 2) B0 dL_law_716 (by decide) ?_
    refine z_iadd (v := 2) B0 dL_law_717 (by decide) ?_
    refine y_sld (j := 2) (v := 36) B0 hX hbl (by decide) e2.symm dL_law_718 ?_
    refine z_callC B0 (z_runV (q0 := 0) (As := [.int 3, .int 36]) (st := []) B0 (c_X11_after_203 (a := a) (cS0 w)  rfl rfl rfl hrw) cf_X11_after (cw_0 cy tE a rw (cS0 w)) rfl wm_L_87 wi_X11_after ws_X11_after dL_law_719 rfl (Nat.le_of_ble_eq_true rfl) ⟨by decide, by decide, by decide, by decide⟩) (fun r1 u1 p1 => ?_)
    obtain ⟨rfl, -⟩ := p1
    refine z_aload_n B0 dL_law_722 rfl rfl ?_
    refine z_aload_n B0 dL_law_723 rfl rfl ?_
    refine z_iload_n B0 dL_law_724 rfl rfl ?_
    refine z_iconst (v := 1) B0 dL_law_725 (by decide) ?_
    refine z_iadd (v := 1) B0 dL_law_726 (by decide) ?_
    refine y_sld (j := 1) (v := 3) B0 hX hbl (by decide) e1.symm dL_law_727 ?_
    refine z_aload_n B0 dL_law_728 rfl rfl ?_
    refine z_iload_n B0 dL_law_729 rfl rfl ?_
    refine z_iconst (v := 2) B0 dL_law_730 (by decide) ?_
    refine z_iadd (v := 2) B0 dL_law_731 (by decide) ?_
    refine y_sld (j := 2) (v := 36) B0 hX hbl (by decide) e2.symm dL_law_732 ?_
    refine z_callM B0 (z_runV (q0 := 0) (As := [.int 3, .int 36]) (st := [.int 0]) B0 (c_X12_after_203 (a := a2) mS0  rfl rfl rfl rfl rfl rfl rfl rfl rfl rfl rfl rfl rfl rfl rfl rfl rfl rfl rfl rfl rfl rfl rfl rfl rfl rfl rfl) cf_X12_after (mw_0 cy a2 mS0) rfl wm_L_90 wi_X12_after ws_X12_after dL_law_733 rfl (Nat.le_of_ble_eq_true rfl) ⟨by decide, by decide, by decide, by decide⟩) (fun r2 u2 p2 => ?_)
    obtain ⟨rfl, -⟩ := p2
    refine z_icmp_eq_t (tgt := 1091) B0 dL_law_736 (by decide) rfl ?_
    exact fin u1 u2
  · obtain rfl : x2 = 37 := Int32.toInt_inj.mp (h2.trans (by decide))
    refine z_aload_n B0 dL_law_708 rfl rfl ?_
    refine z_aload_n B0 dL_law_709 rfl rfl ?_
    refine z_iload_n B0 dL_law_710 rfl rfl ?_
    refine z_iconst (v := 1) B0 dL_law_711 (by decide) ?_
    refine z_iadd (v := 1) B0 dL_law_712 (by decide) ?_
    refine y_sld (j := 1) (v := 3) B0 hX hbl (by decide) e1.symm dL_law_713 ?_
    refine z_aload_n B0 dL_law_714 rfl rfl ?_
    refine z_iload_n B0 dL_law_715 rfl rfl ?_
    refine z_iconst (v := 2) B0 dL_law_716 (by decide) ?_
    refine z_iadd (v := 2) B0 dL_law_717 (by decide) ?_
    refine y_sld (j := 2) (v := 37) B0 hX hbl (by decide) e2.symm dL_law_718 ?_
    refine z_callC B0 (z_runV (q0 := 0) (As := [.int 3, .int 37]) (st := []) B0 (c_X11_after_204 (a := a) (cS0 w)  rfl rfl rfl hrw) cf_X11_after (cw_0 cy tE a rw (cS0 w)) rfl wm_L_87 wi_X11_after ws_X11_after dL_law_719 rfl (Nat.le_of_ble_eq_true rfl) ⟨by decide, by decide, by decide, by decide⟩) (fun r1 u1 p1 => ?_)
    obtain ⟨rfl, -⟩ := p1
    refine z_aload_n B0 dL_law_722 rfl rfl ?_
    refine z_aload_n B0 dL_law_723 rfl rfl ?_
    refine z_iload_n B0 dL_law_724 rfl rfl ?_
    refine z_iconst (v := 1) B0 dL_law_725 (by decide) ?_
    refine z_iadd (v := 1) B0 dL_law_726 (by decide) ?_
    refine y_sld (j := 1) (v := 3) B0 hX hbl (by decide) e1.symm dL_law_727 ?_
    refine z_aload_n B0 dL_law_728 rfl rfl ?_
    refine z_iload_n B0 dL_law_729 rfl rfl ?_
    refine z_iconst (v := 2) B0 dL_law_730 (by decide) ?_
    refine z_iadd (v := 2) B0 dL_law_731 (by decide) ?_
    refine y_sld (j := 2) (v := 37) B0 hX hbl (by decide) e2.symm dL_law_732 ?_
    refine z_callM B0 (z_runV (q0 := 0) (As := [.int 3, .int 37]) (st := [.int 0]) B0 (c_X12_after_204 (a := a2) mS0  rfl rfl rfl rfl rfl rfl rfl rfl rfl rfl rfl rfl rfl rfl rfl rfl rfl rfl rfl rfl rfl rfl rfl rfl rfl rfl rfl) cf_X12_after (mw_0 cy a2 mS0) rfl wm_L_90 wi_X12_after ws_X12_after dL_law_733 rfl (Nat.le_of_ble_eq_true rfl) ⟨by decide, by decide, by decide, by decide⟩) (fun r2 u2 p2 => ?_)
    obtain ⟨rfl, -⟩ := p2
    refine z_icmp_eq_t (tgt := 1091) B0 dL_law_736 (by decide) rfl ?_
    exact fin u1 u2
  · obtain rfl : x2 = 38 := Int32.toInt_inj.mp (h2.trans (by decide))
    refine z_aload_n B0 dL_law_708 rfl rfl ?_
    refine z_aload_n B0 dL_law_709 rfl rfl ?_
    refine z_iload_n B0 dL_law_710 rfl rfl ?_
    refine z_iconst (v := 1) B0 dL_law_711 (by decide) ?_
    refine z_iadd (v := 1) B0 dL_law_712 (by decide) ?_
    refine y_sld (j := 1) (v := 3) B0 hX hbl (by decide) e1.symm dL_law_713 ?_
    refine z_aload_n B0 dL_law_714 rfl rfl ?_
    refine z_iload_n B0 dL_law_715 rfl rfl ?_
    refine z_iconst (v := 2) B0 dL_law_716 (by decide) ?_
    refine z_iadd (v := 2) B0 dL_law_717 (by decide) ?_
    refine y_sld (j := 2) (v := 38) B0 hX hbl (by decide) e2.symm dL_law_718 ?_
    refine z_callC B0 (z_runV (q0 := 0) (As := [.int 3, .int 38]) (st := []) B0 (c_X11_after_205 (a := a) (cS0 w)  ) cf_X11_after (cw_0 cy tE a rw (cS0 w)) rfl wm_L_87 wi_X11_after ws_X11_after dL_law_719 rfl (Nat.le_of_ble_eq_true rfl) ⟨by decide, by decide, by decide, by decide⟩) (fun r1 u1 p1 => ?_)
    obtain ⟨rfl, -⟩ := p1
    refine z_aload_n B0 dL_law_722 rfl rfl ?_
    refine z_aload_n B0 dL_law_723 rfl rfl ?_
    refine z_iload_n B0 dL_law_724 rfl rfl ?_
    refine z_iconst (v := 1) B0 dL_law_725 (by decide) ?_
    refine z_iadd (v := 1) B0 dL_law_726 (by decide) ?_
    refine y_sld (j := 1) (v := 3) B0 hX hbl (by decide) e1.symm dL_law_727 ?_
    refine z_aload_n B0 dL_law_728 rfl rfl ?_
    refine z_iload_n B0 dL_law_729 rfl rfl ?_
    refine z_iconst (v := 2) B0 dL_law_730 (by decide) ?_
    refine z_iadd (v := 2) B0 dL_law_731 (by decide) ?_
    refine y_sld (j := 2) (v := 38) B0 hX hbl (by decide) e2.symm dL_law_732 ?_
    refine z_callM B0 (z_runV (q0 := 0) (As := [.int 3, .int 38]) (st := [.int (-1)]) B0 (c_X12_after_205 (a := a2) mS0  rfl rfl rfl rfl rfl rfl rfl rfl rfl rfl rfl rfl rfl rfl rfl rfl rfl rfl rfl rfl rfl rfl rfl rfl rfl rfl rfl) cf_X12_after (mw_0 cy a2 mS0) rfl wm_L_90 wi_X12_after ws_X12_after dL_law_733 rfl (Nat.le_of_ble_eq_true rfl) ⟨by decide, by decide, by decide, by decide⟩) (fun r2 u2 p2 => ?_)
    obtain ⟨rfl, -⟩ := p2
    refine z_icmp_eq_t (tgt := 1091) B0 dL_law_736 (by decide) rfl ?_
    exact fin u1 u2
  · obtain rfl : x2 = 39 := Int32.toInt_inj.mp (h2.trans (by decide))
    refine z_aload_n B0 dL_law_708 rfl rfl ?_
    refine z_aload_n B0 dL_law_709 rfl rfl ?_
    refine z_iload_n B0 dL_law_710 rfl rfl ?_
    refine z_iconst (v := 1) B0 dL_law_711 (by decide) ?_
    refine z_iadd (v := 1) B0 dL_law_712 (by decide) ?_
    refine y_sld (j := 1) (v := 3) B0 hX hbl (by decide) e1.symm dL_law_713 ?_
    refine z_aload_n B0 dL_law_714 rfl rfl ?_
    refine z_iload_n B0 dL_law_715 rfl rfl ?_
    refine z_iconst (v := 2) B0 dL_law_716 (by decide) ?_
    refine z_iadd (v := 2) B0 dL_law_717 (by decide) ?_
    refine y_sld (j := 2) (v := 39) B0 hX hbl (by decide) e2.symm dL_law_718 ?_
    refine z_callC B0 (z_runV (q0 := 0) (As := [.int 3, .int 39]) (st := []) B0 (c_X11_after_206 (a := a) (cS0 w)  ) cf_X11_after (cw_0 cy tE a rw (cS0 w)) rfl wm_L_87 wi_X11_after ws_X11_after dL_law_719 rfl (Nat.le_of_ble_eq_true rfl) ⟨by decide, by decide, by decide, by decide⟩) (fun r1 u1 p1 => ?_)
    obtain ⟨rfl, -⟩ := p1
    refine z_aload_n B0 dL_law_722 rfl rfl ?_
    refine z_aload_n B0 dL_law_723 rfl rfl ?_
    refine z_iload_n B0 dL_law_724 rfl rfl ?_
    refine z_iconst (v := 1) B0 dL_law_725 (by decide) ?_
    refine z_iadd (v := 1) B0 dL_law_726 (by decide) ?_
    refine y_sld (j := 1) (v := 3) B0 hX hbl (by decide) e1.symm dL_law_727 ?_
    refine z_aload_n B0 dL_law_728 rfl rfl ?_
    refine z_iload_n B0 dL_law_729 rfl rfl ?_
    refine z_iconst (v := 2) B0 dL_law_730 (by decide) ?_
    refine z_iadd (v := 2) B0 dL_law_731 (by decide) ?_
    refine y_sld (j := 2) (v := 39) B0 hX hbl (by decide) e2.symm dL_law_732 ?_
    refine z_callM B0 (z_runV (q0 := 0) (As := [.int 3, .int 39]) (st := [.int (-1)]) B0 (c_X12_after_206 (a := a2) mS0  rfl rfl rfl rfl rfl rfl rfl rfl rfl rfl rfl rfl rfl rfl rfl rfl rfl rfl rfl rfl rfl rfl rfl rfl rfl rfl rfl) cf_X12_after (mw_0 cy a2 mS0) rfl wm_L_90 wi_X12_after ws_X12_after dL_law_733 rfl (Nat.le_of_ble_eq_true rfl) ⟨by decide, by decide, by decide, by decide⟩) (fun r2 u2 p2 => ?_)
    obtain ⟨rfl, -⟩ := p2
    refine z_icmp_eq_t (tgt := 1091) B0 dL_law_736 (by decide) rfl ?_
    exact fin u1 u2
  · obtain rfl : x2 = 40 := Int32.toInt_inj.mp (h2.trans (by decide))
    refine z_aload_n B0 dL_law_708 rfl rfl ?_
    refine z_aload_n B0 dL_law_709 rfl rfl ?_
    refine z_iload_n B0 dL_law_710 rfl rfl ?_
    refine z_iconst (v := 1) B0 dL_law_711 (by decide) ?_
    refine z_iadd (v := 1) B0 dL_law_712 (by decide) ?_
    refine y_sld (j := 1) (v := 3) B0 hX hbl (by decide) e1.symm dL_law_713 ?_
    refine z_aload_n B0 dL_law_714 rfl rfl ?_
    refine z_iload_n B0 dL_law_715 rfl rfl ?_
    refine z_iconst (v := 2) B0 dL_law_716 (by decide) ?_
    refine z_iadd (v := 2) B0 dL_law_717 (by decide) ?_
    refine y_sld (j := 2) (v := 40) B0 hX hbl (by decide) e2.symm dL_law_718 ?_
    refine z_callC B0 (z_runV (q0 := 0) (As := [.int 3, .int 40]) (st := []) B0 (c_X11_after_207 (a := a) (cS0 w)  rfl rfl rfl hrw) cf_X11_after (cw_0 cy tE a rw (cS0 w)) rfl wm_L_87 wi_X11_after ws_X11_after dL_law_719 rfl (Nat.le_of_ble_eq_true rfl) ⟨by decide, by decide, by decide, by decide⟩) (fun r1 u1 p1 => ?_)
    obtain ⟨rfl, -⟩ := p1
    refine z_aload_n B0 dL_law_722 rfl rfl ?_
    refine z_aload_n B0 dL_law_723 rfl rfl ?_
    refine z_iload_n B0 dL_law_724 rfl rfl ?_
    refine z_iconst (v := 1) B0 dL_law_725 (by decide) ?_
    refine z_iadd (v := 1) B0 dL_law_726 (by decide) ?_
    refine y_sld (j := 1) (v := 3) B0 hX hbl (by decide) e1.symm dL_law_727 ?_
    refine z_aload_n B0 dL_law_728 rfl rfl ?_
    refine z_iload_n B0 dL_law_729 rfl rfl ?_
    refine z_iconst (v := 2) B0 dL_law_730 (by decide) ?_
    refine z_iadd (v := 2) B0 dL_law_731 (by decide) ?_
    refine y_sld (j := 2) (v := 40) B0 hX hbl (by decide) e2.symm dL_law_732 ?_
    refine z_callM B0 (z_runV (q0 := 0) (As := [.int 3, .int 40]) (st := [.int 3]) B0 (c_X12_after_207 (a := a2) mS0  rfl rfl rfl rfl rfl rfl rfl rfl rfl rfl rfl rfl rfl rfl rfl rfl rfl rfl rfl rfl rfl rfl rfl rfl rfl rfl rfl) cf_X12_after (mw_0 cy a2 mS0) rfl wm_L_90 wi_X12_after ws_X12_after dL_law_733 rfl (Nat.le_of_ble_eq_true rfl) ⟨by decide, by decide, by decide, by decide⟩) (fun r2 u2 p2 => ?_)
    obtain ⟨rfl, -⟩ := p2
    refine z_icmp_eq_t (tgt := 1091) B0 dL_law_736 (by decide) rfl ?_
    exact fin u1 u2
  · obtain rfl : x2 = 41 := Int32.toInt_inj.mp (h2.trans (by decide))
    refine z_aload_n B0 dL_law_708 rfl rfl ?_
    refine z_aload_n B0 dL_law_709 rfl rfl ?_
    refine z_iload_n B0 dL_law_710 rfl rfl ?_
    refine z_iconst (v := 1) B0 dL_law_711 (by decide) ?_
    refine z_iadd (v := 1) B0 dL_law_712 (by decide) ?_
    refine y_sld (j := 1) (v := 3) B0 hX hbl (by decide) e1.symm dL_law_713 ?_
    refine z_aload_n B0 dL_law_714 rfl rfl ?_
    refine z_iload_n B0 dL_law_715 rfl rfl ?_
    refine z_iconst (v := 2) B0 dL_law_716 (by decide) ?_
    refine z_iadd (v := 2) B0 dL_law_717 (by decide) ?_
    refine y_sld (j := 2) (v := 41) B0 hX hbl (by decide) e2.symm dL_law_718 ?_
    refine z_callC B0 (z_runV (q0 := 0) (As := [.int 3, .int 41]) (st := []) B0 (c_X11_after_208 (a := a) (cS0 w)  rfl rfl rfl hrw) cf_X11_after (cw_0 cy tE a rw (cS0 w)) rfl wm_L_87 wi_X11_after ws_X11_after dL_law_719 rfl (Nat.le_of_ble_eq_true rfl) ⟨by decide, by decide, by decide, by decide⟩) (fun r1 u1 p1 => ?_)
    obtain ⟨rfl, -⟩ := p1
    refine z_aload_n B0 dL_law_722 rfl rfl ?_
    refine z_aload_n B0 dL_law_723 rfl rfl ?_
    refine z_iload_n B0 dL_law_724 rfl rfl ?_
    refine z_iconst (v := 1) B0 dL_law_725 (by decide) ?_
    refine z_iadd (v := 1) B0 dL_law_726 (by decide) ?_
    refine y_sld (j := 1) (v := 3) B0 hX hbl (by decide) e1.symm dL_law_727 ?_
    refine z_aload_n B0 dL_law_728 rfl rfl ?_
    refine z_iload_n B0 dL_law_729 rfl rfl ?_
    refine z_iconst (v := 2) B0 dL_law_730 (by decide) ?_
    refine z_iadd (v := 2) B0 dL_law_731 (by decide) ?_
    refine y_sld (j := 2) (v := 41) B0 hX hbl (by decide) e2.symm dL_law_732 ?_
    refine z_callM B0 (z_runV (q0 := 0) (As := [.int 3, .int 41]) (st := [.int 3]) B0 (c_X12_after_208 (a := a2) mS0  rfl rfl rfl rfl rfl rfl rfl rfl rfl rfl rfl rfl rfl rfl rfl rfl rfl rfl rfl rfl rfl rfl rfl rfl rfl rfl rfl) cf_X12_after (mw_0 cy a2 mS0) rfl wm_L_90 wi_X12_after ws_X12_after dL_law_733 rfl (Nat.le_of_ble_eq_true rfl) ⟨by decide, by decide, by decide, by decide⟩) (fun r2 u2 p2 => ?_)
    obtain ⟨rfl, -⟩ := p2
    refine z_icmp_eq_t (tgt := 1091) B0 dL_law_736 (by decide) rfl ?_
    exact fin u1 u2
  · obtain rfl : x2 = 42 := Int32.toInt_inj.mp (h2.trans (by decide))
    refine z_aload_n B0 dL_law_708 rfl rfl ?_
    refine z_aload_n B0 dL_law_709 rfl rfl ?_
    refine z_iload_n B0 dL_law_710 rfl rfl ?_
    refine z_iconst (v := 1) B0 dL_law_711 (by decide) ?_
    refine z_iadd (v := 1) B0 dL_law_712 (by decide) ?_
    refine y_sld (j := 1) (v := 3) B0 hX hbl (by decide) e1.symm dL_law_713 ?_
    refine z_aload_n B0 dL_law_714 rfl rfl ?_
    refine z_iload_n B0 dL_law_715 rfl rfl ?_
    refine z_iconst (v := 2) B0 dL_law_716 (by decide) ?_
    refine z_iadd (v := 2) B0 dL_law_717 (by decide) ?_
    refine y_sld (j := 2) (v := 42) B0 hX hbl (by decide) e2.symm dL_law_718 ?_
    refine z_callC B0 (z_runV (q0 := 0) (As := [.int 3, .int 42]) (st := []) B0 (c_X11_after_209 (a := a) (cS0 w)  rfl rfl rfl hrw) cf_X11_after (cw_0 cy tE a rw (cS0 w)) rfl wm_L_87 wi_X11_after ws_X11_after dL_law_719 rfl (Nat.le_of_ble_eq_true rfl) ⟨by decide, by decide, by decide, by decide⟩) (fun r1 u1 p1 => ?_)
    obtain ⟨rfl, -⟩ := p1
    refine z_aload_n B0 dL_law_722 rfl rfl ?_
    refine z_aload_n B0 dL_law_723 rfl rfl ?_
    refine z_iload_n B0 dL_law_724 rfl rfl ?_
    refine z_iconst (v := 1) B0 dL_law_725 (by decide) ?_
    refine z_iadd (v := 1) B0 dL_law_726 (by decide) ?_
    refine y_sld (j := 1) (v := 3) B0 hX hbl (by decide) e1.symm dL_law_727 ?_
    refine z_aload_n B0 dL_law_728 rfl rfl ?_
    refine z_iload_n B0 dL_law_729 rfl rfl ?_
    refine z_iconst (v := 2) B0 dL_law_730 (by decide) ?_
    refine z_iadd (v := 2) B0 dL_law_731 (by decide) ?_
    refine y_sld (j := 2) (v := 42) B0 hX hbl (by decide) e2.symm dL_law_732 ?_
    refine z_callM B0 (z_runV (q0 := 0) (As := [.int 3, .int 42]) (st := [.int 3]) B0 (c_X12_after_209 (a := a2) mS0  rfl rfl rfl rfl rfl rfl rfl rfl rfl rfl rfl rfl rfl rfl rfl rfl rfl rfl rfl rfl rfl rfl rfl rfl rfl rfl rfl) cf_X12_after (mw_0 cy a2 mS0) rfl wm_L_90 wi_X12_after ws_X12_after dL_law_733 rfl (Nat.le_of_ble_eq_true rfl) ⟨by decide, by decide, by decide, by decide⟩) (fun r2 u2 p2 => ?_)
    obtain ⟨rfl, -⟩ := p2
    refine z_icmp_eq_t (tgt := 1091) B0 dL_law_736 (by decide) rfl ?_
    exact fin u1 u2
  · obtain rfl : x2 = 43 := Int32.toInt_inj.mp (h2.trans (by decide))
    refine z_aload_n B0 dL_law_708 rfl rfl ?_
    refine z_aload_n B0 dL_law_709 rfl rfl ?_
    refine z_iload_n B0 dL_law_710 rfl rfl ?_
    refine z_iconst (v := 1) B0 dL_law_711 (by decide) ?_
    refine z_iadd (v := 1) B0 dL_law_712 (by decide) ?_
    refine y_sld (j := 1) (v := 3) B0 hX hbl (by decide) e1.symm dL_law_713 ?_
    refine z_aload_n B0 dL_law_714 rfl rfl ?_
    refine z_iload_n B0 dL_law_715 rfl rfl ?_
    refine z_iconst (v := 2) B0 dL_law_716 (by decide) ?_
    refine z_iadd (v := 2) B0 dL_law_717 (by decide) ?_
    refine y_sld (j := 2) (v := 43) B0 hX hbl (by decide) e2.symm dL_law_718 ?_
    refine z_callC B0 (z_runV (q0 := 0) (As := [.int 3, .int 43]) (st := []) B0 (c_X11_after_210 (a := a) (cS0 w)  ) cf_X11_after (cw_0 cy tE a rw (cS0 w)) rfl wm_L_87 wi_X11_after ws_X11_after dL_law_719 rfl (Nat.le_of_ble_eq_true rfl) ⟨by decide, by decide, by decide, by decide⟩) (fun r1 u1 p1 => ?_)
    obtain ⟨rfl, -⟩ := p1
    refine z_aload_n B0 dL_law_722 rfl rfl ?_
    refine z_aload_n B0 dL_law_723 rfl rfl ?_
    refine z_iload_n B0 dL_law_724 rfl rfl ?_
    refine z_iconst (v := 1) B0 dL_law_725 (by decide) ?_
    refine z_iadd (v := 1) B0 dL_law_726 (by decide) ?_
    refine y_sld (j := 1) (v := 3) B0 hX hbl (by decide) e1.symm dL_law_727 ?_
    refine z_aload_n B0 dL_law_728 rfl rfl ?_
    refine z_iload_n B0 dL_law_729 rfl rfl ?_
    refine z_iconst (v := 2) B0 dL_law_730 (by decide) ?_
    refine z_iadd (v := 2) B0 dL_law_731 (by decide) ?_
    refine y_sld (j := 2) (v := 43) B0 hX hbl (by decide) e2.symm dL_law_732 ?_
    refine z_callM B0 (z_runV (q0 := 0) (As := [.int 3, .int 43]) (st := [.int (-1)]) B0 (c_X12_after_210 (a := a2) mS0  rfl rfl rfl rfl rfl rfl rfl rfl rfl rfl rfl rfl rfl rfl rfl rfl rfl rfl rfl rfl rfl rfl rfl rfl rfl rfl rfl) cf_X12_after (mw_0 cy a2 mS0) rfl wm_L_90 wi_X12_after ws_X12_after dL_law_733 rfl (Nat.le_of_ble_eq_true rfl) ⟨by decide, by decide, by decide, by decide⟩) (fun r2 u2 p2 => ?_)
    obtain ⟨rfl, -⟩ := p2
    refine z_icmp_eq_t (tgt := 1091) B0 dL_law_736 (by decide) rfl ?_
    exact fin u1 u2
  · obtain rfl : x2 = 44 := Int32.toInt_inj.mp (h2.trans (by decide))
    refine z_aload_n B0 dL_law_708 rfl rfl ?_
    refine z_aload_n B0 dL_law_709 rfl rfl ?_
    refine z_iload_n B0 dL_law_710 rfl rfl ?_
    refine z_iconst (v := 1) B0 dL_law_711 (by decide) ?_
    refine z_iadd (v := 1) B0 dL_law_712 (by decide) ?_
    refine y_sld (j := 1) (v := 3) B0 hX hbl (by decide) e1.symm dL_law_713 ?_
    refine z_aload_n B0 dL_law_714 rfl rfl ?_
    refine z_iload_n B0 dL_law_715 rfl rfl ?_
    refine z_iconst (v := 2) B0 dL_law_716 (by decide) ?_
    refine z_iadd (v := 2) B0 dL_law_717 (by decide) ?_
    refine y_sld (j := 2) (v := 44) B0 hX hbl (by decide) e2.symm dL_law_718 ?_
    refine z_callC B0 (z_runV (q0 := 0) (As := [.int 3, .int 44]) (st := []) B0 (c_X11_after_211 (a := a) (cS0 w)  ) cf_X11_after (cw_0 cy tE a rw (cS0 w)) rfl wm_L_87 wi_X11_after ws_X11_after dL_law_719 rfl (Nat.le_of_ble_eq_true rfl) ⟨by decide, by decide, by decide, by decide⟩) (fun r1 u1 p1 => ?_)
    obtain ⟨rfl, -⟩ := p1
    refine z_aload_n B0 dL_law_722 rfl rfl ?_
    refine z_aload_n B0 dL_law_723 rfl rfl ?_
    refine z_iload_n B0 dL_law_724 rfl rfl ?_
    refine z_iconst (v := 1) B0 dL_law_725 (by decide) ?_
    refine z_iadd (v := 1) B0 dL_law_726 (by decide) ?_
    refine y_sld (j := 1) (v := 3) B0 hX hbl (by decide) e1.symm dL_law_727 ?_
    refine z_aload_n B0 dL_law_728 rfl rfl ?_
    refine z_iload_n B0 dL_law_729 rfl rfl ?_
    refine z_iconst (v := 2) B0 dL_law_730 (by decide) ?_
    refine z_iadd (v := 2) B0 dL_law_731 (by decide) ?_
    refine y_sld (j := 2) (v := 44) B0 hX hbl (by decide) e2.symm dL_law_732 ?_
    refine z_callM B0 (z_runV (q0 := 0) (As := [.int 3, .int 44]) (st := [.int (-1)]) B0 (c_X12_after_211 (a := a2) mS0  rfl rfl rfl rfl rfl rfl rfl rfl rfl rfl rfl rfl rfl rfl rfl rfl rfl rfl rfl rfl rfl rfl rfl rfl rfl rfl rfl) cf_X12_after (mw_0 cy a2 mS0) rfl wm_L_90 wi_X12_after ws_X12_after dL_law_733 rfl (Nat.le_of_ble_eq_true rfl) ⟨by decide, by decide, by decide, by decide⟩) (fun r2 u2 p2 => ?_)
    obtain ⟨rfl, -⟩ := p2
    refine z_icmp_eq_t (tgt := 1091) B0 dL_law_736 (by decide) rfl ?_
    exact fin u1 u2
  · obtain rfl : x2 = 45 := Int32.toInt_inj.mp (h2.trans (by decide))
    refine z_aload_n B0 dL_law_708 rfl rfl ?_
    refine z_aload_n B0 dL_law_709 rfl rfl ?_
    refine z_iload_n B0 dL_law_710 rfl rfl ?_
    refine z_iconst (v := 1) B0 dL_law_711 (by decide) ?_
    refine z_iadd (v := 1) B0 dL_law_712 (by decide) ?_
    refine y_sld (j := 1) (v := 3) B0 hX hbl (by decide) e1.symm dL_law_713 ?_
    refine z_aload_n B0 dL_law_714 rfl rfl ?_
    refine z_iload_n B0 dL_law_715 rfl rfl ?_
    refine z_iconst (v := 2) B0 dL_law_716 (by decide) ?_
    refine z_iadd (v := 2) B0 dL_law_717 (by decide) ?_
    refine y_sld (j := 2) (v := 45) B0 hX hbl (by decide) e2.symm dL_law_718 ?_
    refine z_callC B0 (z_runV (q0 := 0) (As := [.int 3, .int 45]) (st := []) B0 (c_X11_after_212 (a := a) (cS0 w)  ) cf_X11_after (cw_0 cy tE a rw (cS0 w)) rfl wm_L_87 wi_X11_after ws_X11_after dL_law_719 rfl (Nat.le_of_ble_eq_true rfl) ⟨by decide, by decide, by decide, by decide⟩) (fun r1 u1 p1 => ?_)
    obtain ⟨rfl, -⟩ := p1
    refine z_aload_n B0 dL_law_722 rfl rfl ?_
    refine z_aload_n B0 dL_law_723 rfl rfl ?_
    refine z_iload_n B0 dL_law_724 rfl rfl ?_
    refine z_iconst (v := 1) B0 dL_law_725 (by decide) ?_
    refine z_iadd (v := 1) B0 dL_law_726 (by decide) ?_
    refine y_sld (j := 1) (v := 3) B0 hX hbl (by decide) e1.symm dL_law_727 ?_
    refine z_aload_n B0 dL_law_728 rfl rfl ?_
    refine z_iload_n B0 dL_law_729 rfl rfl ?_
    refine z_iconst (v := 2) B0 dL_law_730 (by decide) ?_
    refine z_iadd (v := 2) B0 dL_law_731 (by decide) ?_
    refine y_sld (j := 2) (v := 45) B0 hX hbl (by decide) e2.symm dL_law_732 ?_
    refine z_callM B0 (z_runV (q0 := 0) (As := [.int 3, .int 45]) (st := [.int (-1)]) B0 (c_X12_after_212 (a := a2) mS0  rfl rfl rfl rfl rfl rfl rfl rfl rfl rfl rfl rfl rfl rfl rfl rfl rfl rfl rfl rfl rfl rfl rfl rfl rfl rfl rfl) cf_X12_after (mw_0 cy a2 mS0) rfl wm_L_90 wi_X12_after ws_X12_after dL_law_733 rfl (Nat.le_of_ble_eq_true rfl) ⟨by decide, by decide, by decide, by decide⟩) (fun r2 u2 p2 => ?_)
    obtain ⟨rfl, -⟩ := p2
    refine z_icmp_eq_t (tgt := 1091) B0 dL_law_736 (by decide) rfl ?_
    exact fin u1 u2
  · obtain rfl : x2 = 46 := Int32.toInt_inj.mp (h2.trans (by decide))
    refine z_aload_n B0 dL_law_708 rfl rfl ?_
    refine z_aload_n B0 dL_law_709 rfl rfl ?_
    refine z_iload_n B0 dL_law_710 rfl rfl ?_
    refine z_iconst (v := 1) B0 dL_law_711 (by decide) ?_
    refine z_iadd (v := 1) B0 dL_law_712 (by decide) ?_
    refine y_sld (j := 1) (v := 3) B0 hX hbl (by decide) e1.symm dL_law_713 ?_
    refine z_aload_n B0 dL_law_714 rfl rfl ?_
    refine z_iload_n B0 dL_law_715 rfl rfl ?_
    refine z_iconst (v := 2) B0 dL_law_716 (by decide) ?_
    refine z_iadd (v := 2) B0 dL_law_717 (by decide) ?_
    refine y_sld (j := 2) (v := 46) B0 hX hbl (by decide) e2.symm dL_law_718 ?_
    refine z_callC B0 (z_runV (q0 := 0) (As := [.int 3, .int 46]) (st := []) B0 (c_X11_after_213 (a := a) (cS0 w)  ) cf_X11_after (cw_0 cy tE a rw (cS0 w)) rfl wm_L_87 wi_X11_after ws_X11_after dL_law_719 rfl (Nat.le_of_ble_eq_true rfl) ⟨by decide, by decide, by decide, by decide⟩) (fun r1 u1 p1 => ?_)
    obtain ⟨rfl, -⟩ := p1
    refine z_aload_n B0 dL_law_722 rfl rfl ?_
    refine z_aload_n B0 dL_law_723 rfl rfl ?_
    refine z_iload_n B0 dL_law_724 rfl rfl ?_
    refine z_iconst (v := 1) B0 dL_law_725 (by decide) ?_
    refine z_iadd (v := 1) B0 dL_law_726 (by decide) ?_
    refine y_sld (j := 1) (v := 3) B0 hX hbl (by decide) e1.symm dL_law_727 ?_
    refine z_aload_n B0 dL_law_728 rfl rfl ?_
    refine z_iload_n B0 dL_law_729 rfl rfl ?_
    refine z_iconst (v := 2) B0 dL_law_730 (by decide) ?_
    refine z_iadd (v := 2) B0 dL_law_731 (by decide) ?_
    refine y_sld (j := 2) (v := 46) B0 hX hbl (by decide) e2.symm dL_law_732 ?_
    refine z_callM B0 (z_runV (q0 := 0) (As := [.int 3, .int 46]) (st := [.int (-1)]) B0 (c_X12_after_213 (a := a2) mS0  rfl rfl rfl rfl rfl rfl rfl rfl rfl rfl rfl rfl rfl rfl rfl rfl rfl rfl rfl rfl rfl rfl rfl rfl rfl rfl rfl) cf_X12_after (mw_0 cy a2 mS0) rfl wm_L_90 wi_X12_after ws_X12_after dL_law_733 rfl (Nat.le_of_ble_eq_true rfl) ⟨by decide, by decide, by decide, by decide⟩) (fun r2 u2 p2 => ?_)
    obtain ⟨rfl, -⟩ := p2
    refine z_icmp_eq_t (tgt := 1091) B0 dL_law_736 (by decide) rfl ?_
    exact fin u1 u2
  · obtain rfl : x2 = 47 := Int32.toInt_inj.mp (h2.trans (by decide))
    refine z_aload_n B0 dL_law_708 rfl rfl ?_
    refine z_aload_n B0 dL_law_709 rfl rfl ?_
    refine z_iload_n B0 dL_law_710 rfl rfl ?_
    refine z_iconst (v := 1) B0 dL_law_711 (by decide) ?_
    refine z_iadd (v := 1) B0 dL_law_712 (by decide) ?_
    refine y_sld (j := 1) (v := 3) B0 hX hbl (by decide) e1.symm dL_law_713 ?_
    refine z_aload_n B0 dL_law_714 rfl rfl ?_
    refine z_iload_n B0 dL_law_715 rfl rfl ?_
    refine z_iconst (v := 2) B0 dL_law_716 (by decide) ?_
    refine z_iadd (v := 2) B0 dL_law_717 (by decide) ?_
    refine y_sld (j := 2) (v := 47) B0 hX hbl (by decide) e2.symm dL_law_718 ?_
    refine z_callC B0 (z_runV (q0 := 0) (As := [.int 3, .int 47]) (st := []) B0 (c_X11_after_214 (a := a) (cS0 w)  ) cf_X11_after (cw_0 cy tE a rw (cS0 w)) rfl wm_L_87 wi_X11_after ws_X11_after dL_law_719 rfl (Nat.le_of_ble_eq_true rfl) ⟨by decide, by decide, by decide, by decide⟩) (fun r1 u1 p1 => ?_)
    obtain ⟨rfl, -⟩ := p1
    refine z_aload_n B0 dL_law_722 rfl rfl ?_
    refine z_aload_n B0 dL_law_723 rfl rfl ?_
    refine z_iload_n B0 dL_law_724 rfl rfl ?_
    refine z_iconst (v := 1) B0 dL_law_725 (by decide) ?_
    refine z_iadd (v := 1) B0 dL_law_726 (by decide) ?_
    refine y_sld (j := 1) (v := 3) B0 hX hbl (by decide) e1.symm dL_law_727 ?_
    refine z_aload_n B0 dL_law_728 rfl rfl ?_
    refine z_iload_n B0 dL_law_729 rfl rfl ?_
    refine z_iconst (v := 2) B0 dL_law_730 (by decide) ?_
    refine z_iadd (v := 2) B0 dL_law_731 (by decide) ?_
    refine y_sld (j := 2) (v := 47) B0 hX hbl (by decide) e2.symm dL_law_732 ?_
    refine z_callM B0 (z_runV (q0 := 0) (As := [.int 3, .int 47]) (st := [.int (-1)]) B0 (c_X12_after_214 (a := a2) mS0  rfl rfl rfl rfl rfl rfl rfl rfl rfl rfl rfl rfl rfl rfl rfl rfl rfl rfl rfl rfl rfl rfl rfl rfl rfl rfl rfl) cf_X12_after (mw_0 cy a2 mS0) rfl wm_L_90 wi_X12_after ws_X12_after dL_law_733 rfl (Nat.le_of_ble_eq_true rfl) ⟨by decide, by decide, by decide, by decide⟩) (fun r2 u2 p2 => ?_)
    obtain ⟨rfl, -⟩ := p2
    refine z_icmp_eq_t (tgt := 1091) B0 dL_law_736 (by decide) rfl ?_
    exact fin u1 u2
  · obtain rfl : x2 = 48 := Int32.toInt_inj.mp (h2.trans (by decide))
    refine z_aload_n B0 dL_law_708 rfl rfl ?_
    refine z_aload_n B0 dL_law_709 rfl rfl ?_
    refine z_iload_n B0 dL_law_710 rfl rfl ?_
    refine z_iconst (v := 1) B0 dL_law_711 (by decide) ?_
    refine z_iadd (v := 1) B0 dL_law_712 (by decide) ?_
    refine y_sld (j := 1) (v := 3) B0 hX hbl (by decide) e1.symm dL_law_713 ?_
    refine z_aload_n B0 dL_law_714 rfl rfl ?_
    refine z_iload_n B0 dL_law_715 rfl rfl ?_
    refine z_iconst (v := 2) B0 dL_law_716 (by decide) ?_
    refine z_iadd (v := 2) B0 dL_law_717 (by decide) ?_
    refine y_sld (j := 2) (v := 48) B0 hX hbl (by decide) e2.symm dL_law_718 ?_
    refine z_callC B0 (z_runV (q0 := 0) (As := [.int 3, .int 48]) (st := []) B0 (c_X11_after_215 (a := a) (cS0 w)  ) cf_X11_after (cw_0 cy tE a rw (cS0 w)) rfl wm_L_87 wi_X11_after ws_X11_after dL_law_719 rfl (Nat.le_of_ble_eq_true rfl) ⟨by decide, by decide, by decide, by decide⟩) (fun r1 u1 p1 => ?_)
    obtain ⟨rfl, -⟩ := p1
    refine z_aload_n B0 dL_law_722 rfl rfl ?_
    refine z_aload_n B0 dL_law_723 rfl rfl ?_
    refine z_iload_n B0 dL_law_724 rfl rfl ?_
    refine z_iconst (v := 1) B0 dL_law_725 (by decide) ?_
    refine z_iadd (v := 1) B0 dL_law_726 (by decide) ?_
    refine y_sld (j := 1) (v := 3) B0 hX hbl (by decide) e1.symm dL_law_727 ?_
    refine z_aload_n B0 dL_law_728 rfl rfl ?_
    refine z_iload_n B0 dL_law_729 rfl rfl ?_
    refine z_iconst (v := 2) B0 dL_law_730 (by decide) ?_
    refine z_iadd (v := 2) B0 dL_law_731 (by decide) ?_
    refine y_sld (j := 2) (v := 48) B0 hX hbl (by decide) e2.symm dL_law_732 ?_
    refine z_callM B0 (z_runV (q0 := 0) (As := [.int 3, .int 48]) (st := [.int (-1)]) B0 (c_X12_after_215 (a := a2) mS0  rfl rfl rfl rfl rfl rfl rfl rfl rfl rfl rfl rfl rfl rfl rfl rfl rfl rfl rfl rfl rfl rfl rfl rfl rfl rfl rfl) cf_X12_after (mw_0 cy a2 mS0) rfl wm_L_90 wi_X12_after ws_X12_after dL_law_733 rfl (Nat.le_of_ble_eq_true rfl) ⟨by decide, by decide, by decide, by decide⟩) (fun r2 u2 p2 => ?_)
    obtain ⟨rfl, -⟩ := p2
    refine z_icmp_eq_t (tgt := 1091) B0 dL_law_736 (by decide) rfl ?_
    exact fin u1 u2
  · obtain rfl : x2 = 49 := Int32.toInt_inj.mp (h2.trans (by decide))
    refine z_aload_n B0 dL_law_708 rfl rfl ?_
    refine z_aload_n B0 dL_law_709 rfl rfl ?_
    refine z_iload_n B0 dL_law_710 rfl rfl ?_
    refine z_iconst (v := 1) B0 dL_law_711 (by decide) ?_
    refine z_iadd (v := 1) B0 dL_law_712 (by decide) ?_
    refine y_sld (j := 1) (v := 3) B0 hX hbl (by decide) e1.symm dL_law_713 ?_
    refine z_aload_n B0 dL_law_714 rfl rfl ?_
    refine z_iload_n B0 dL_law_715 rfl rfl ?_
    refine z_iconst (v := 2) B0 dL_law_716 (by decide) ?_
    refine z_iadd (v := 2) B0 dL_law_717 (by decide) ?_
    refine y_sld (j := 2) (v := 49) B0 hX hbl (by decide) e2.symm dL_law_718 ?_
    refine z_callC B0 (z_runV (q0 := 0) (As := [.int 3, .int 49]) (st := []) B0 (c_X11_after_216 (a := a) (cS0 w)  ) cf_X11_after (cw_0 cy tE a rw (cS0 w)) rfl wm_L_87 wi_X11_after ws_X11_after dL_law_719 rfl (Nat.le_of_ble_eq_true rfl) ⟨by decide, by decide, by decide, by decide⟩) (fun r1 u1 p1 => ?_)
    obtain ⟨rfl, -⟩ := p1
    refine z_aload_n B0 dL_law_722 rfl rfl ?_
    refine z_aload_n B0 dL_law_723 rfl rfl ?_
    refine z_iload_n B0 dL_law_724 rfl rfl ?_
    refine z_iconst (v := 1) B0 dL_law_725 (by decide) ?_
    refine z_iadd (v := 1) B0 dL_law_726 (by decide) ?_
    refine y_sld (j := 1) (v := 3) B0 hX hbl (by decide) e1.symm dL_law_727 ?_
    refine z_aload_n B0 dL_law_728 rfl rfl ?_
    refine z_iload_n B0 dL_law_729 rfl rfl ?_
    refine z_iconst (v := 2) B0 dL_law_730 (by decide) ?_
    refine z_iadd (v := 2) B0 dL_law_731 (by decide) ?_
    refine y_sld (j := 2) (v := 49) B0 hX hbl (by decide) e2.symm dL_law_732 ?_
    refine z_callM B0 (z_runV (q0 := 0) (As := [.int 3, .int 49]) (st := [.int (-1)]) B0 (c_X12_after_216 (a := a2) mS0  rfl rfl rfl rfl rfl rfl rfl rfl rfl rfl rfl rfl rfl rfl rfl rfl rfl rfl rfl rfl rfl rfl rfl rfl rfl rfl rfl) cf_X12_after (mw_0 cy a2 mS0) rfl wm_L_90 wi_X12_after ws_X12_after dL_law_733 rfl (Nat.le_of_ble_eq_true rfl) ⟨by decide, by decide, by decide, by decide⟩) (fun r2 u2 p2 => ?_)
    obtain ⟨rfl, -⟩ := p2
    refine z_icmp_eq_t (tgt := 1091) B0 dL_law_736 (by decide) rfl ?_
    exact fin u1 u2
  · obtain rfl : x2 = 50 := Int32.toInt_inj.mp (h2.trans (by decide))
    refine z_aload_n B0 dL_law_708 rfl rfl ?_
    refine z_aload_n B0 dL_law_709 rfl rfl ?_
    refine z_iload_n B0 dL_law_710 rfl rfl ?_
    refine z_iconst (v := 1) B0 dL_law_711 (by decide) ?_
    refine z_iadd (v := 1) B0 dL_law_712 (by decide) ?_
    refine y_sld (j := 1) (v := 3) B0 hX hbl (by decide) e1.symm dL_law_713 ?_
    refine z_aload_n B0 dL_law_714 rfl rfl ?_
    refine z_iload_n B0 dL_law_715 rfl rfl ?_
    refine z_iconst (v := 2) B0 dL_law_716 (by decide) ?_
    refine z_iadd (v := 2) B0 dL_law_717 (by decide) ?_
    refine y_sld (j := 2) (v := 50) B0 hX hbl (by decide) e2.symm dL_law_718 ?_
    refine z_callC B0 (z_runV (q0 := 0) (As := [.int 3, .int 50]) (st := []) B0 (c_X11_after_217 (a := a) (cS0 w)  rfl rfl rfl hrw) cf_X11_after (cw_0 cy tE a rw (cS0 w)) rfl wm_L_87 wi_X11_after ws_X11_after dL_law_719 rfl (Nat.le_of_ble_eq_true rfl) ⟨by decide, by decide, by decide, by decide⟩) (fun r1 u1 p1 => ?_)
    obtain ⟨rfl, -⟩ := p1
    refine z_aload_n B0 dL_law_722 rfl rfl ?_
    refine z_aload_n B0 dL_law_723 rfl rfl ?_
    refine z_iload_n B0 dL_law_724 rfl rfl ?_
    refine z_iconst (v := 1) B0 dL_law_725 (by decide) ?_
    refine z_iadd (v := 1) B0 dL_law_726 (by decide) ?_
    refine y_sld (j := 1) (v := 3) B0 hX hbl (by decide) e1.symm dL_law_727 ?_
    refine z_aload_n B0 dL_law_728 rfl rfl ?_
    refine z_iload_n B0 dL_law_729 rfl rfl ?_
    refine z_iconst (v := 2) B0 dL_law_730 (by decide) ?_
    refine z_iadd (v := 2) B0 dL_law_731 (by decide) ?_
    refine y_sld (j := 2) (v := 50) B0 hX hbl (by decide) e2.symm dL_law_732 ?_
    refine z_callM B0 (z_runV (q0 := 0) (As := [.int 3, .int 50]) (st := [.int 0]) B0 (c_X12_after_217 (a := a2) mS0  rfl rfl rfl rfl rfl rfl rfl rfl rfl rfl rfl rfl rfl rfl rfl rfl rfl rfl rfl rfl rfl rfl rfl rfl rfl rfl rfl) cf_X12_after (mw_0 cy a2 mS0) rfl wm_L_90 wi_X12_after ws_X12_after dL_law_733 rfl (Nat.le_of_ble_eq_true rfl) ⟨by decide, by decide, by decide, by decide⟩) (fun r2 u2 p2 => ?_)
    obtain ⟨rfl, -⟩ := p2
    refine z_icmp_eq_t (tgt := 1091) B0 dL_law_736 (by decide) rfl ?_
    exact fin u1 u2
  · refine z_aload_n B0 dL_law_708 rfl rfl ?_
    refine z_aload_n B0 dL_law_709 rfl rfl ?_
    refine z_iload_n B0 dL_law_710 rfl rfl ?_
    refine z_iconst (v := 1) B0 dL_law_711 (by decide) ?_
    refine z_iadd (v := 1) B0 dL_law_712 (by decide) ?_
    refine y_sld (j := 1) (v := 3) B0 hX hbl (by decide) e1.symm dL_law_713 ?_
    refine z_aload_n B0 dL_law_714 rfl rfl ?_
    refine z_iload_n B0 dL_law_715 rfl rfl ?_
    refine z_iconst (v := 2) B0 dL_law_716 (by decide) ?_
    refine z_iadd (v := 2) B0 dL_law_717 (by decide) ?_
    refine y_sld (j := 2) (v := x2) B0 hX hbl (by decide) e2.symm dL_law_718 ?_
    refine z_callC B0 (z_runV (q0 := 0) (As := [.int 3, .int x2]) (st := []) B0 (c_X11_after_218 (a := a) (cS0 w) x2 ⟨by omega, by omega⟩) cf_X11_after (cw_0 cy tE a rw (cS0 w)) rfl wm_L_87 wi_X11_after ws_X11_after dL_law_719 rfl (Nat.le_of_ble_eq_true rfl) ⟨by decide, by decide, by decide, by decide⟩) (fun r1 u1 p1 => ?_)
    obtain ⟨rfl, -⟩ := p1
    refine z_aload_n B0 dL_law_722 rfl rfl ?_
    refine z_aload_n B0 dL_law_723 rfl rfl ?_
    refine z_iload_n B0 dL_law_724 rfl rfl ?_
    refine z_iconst (v := 1) B0 dL_law_725 (by decide) ?_
    refine z_iadd (v := 1) B0 dL_law_726 (by decide) ?_
    refine y_sld (j := 1) (v := 3) B0 hX hbl (by decide) e1.symm dL_law_727 ?_
    refine z_aload_n B0 dL_law_728 rfl rfl ?_
    refine z_iload_n B0 dL_law_729 rfl rfl ?_
    refine z_iconst (v := 2) B0 dL_law_730 (by decide) ?_
    refine z_iadd (v := 2) B0 dL_law_731 (by decide) ?_
    refine y_sld (j := 2) (v := x2) B0 hX hbl (by decide) e2.symm dL_law_732 ?_
    refine z_callM B0 (z_runV (q0 := 0) (As := [.int 3, .int x2]) (st := [.int (-1)]) B0 (c_X12_after_218 (a := a2) mS0 x2 rfl rfl rfl rfl rfl rfl rfl rfl rfl rfl rfl rfl rfl rfl rfl rfl rfl rfl rfl rfl rfl rfl rfl rfl rfl rfl rfl ⟨by omega, by omega⟩) cf_X12_after (mw_0 cy a2 mS0) rfl wm_L_90 wi_X12_after ws_X12_after dL_law_733 rfl (Nat.le_of_ble_eq_true rfl) ⟨by decide, by decide, by decide, by decide⟩) (fun r2 u2 p2 => ?_)
    obtain ⟨rfl, -⟩ := p2
    refine z_icmp_eq_t (tgt := 1091) B0 dL_law_736 (by decide) rfl ?_
    exact fin u1 u2

set_option maxHeartbeats 8000000 in
set_option maxRecDepth 100000 in
theorem lo_after_4 {p : Program} {l : Launch} {e : Env} {s : State} {m : MethodId} {below : List Frame} {meth : Method} {c : Code} {D : va_G} {cy : Nat → ClassId} {tB tE b : Nat} {a a2 : Nat → Nat} {rw : Nat → Option Nat} {xs : Nat → Int32} (B0 : Bz p room_1 s m #[Value.ref b] meth c D cy s.heap.size tB tE (fun q => s.heap.size ≤ q) 4 cL_law RL meth.sig.returnType meth.name 2048 84000 600000 7302250) (hX : va_X b 6 xs s s.heap) (hbl : b < s.heap.size) (hrw : ∀ i, i < 6 → rw i = some (a (36 + 2 * i))) (w : Nat → Int64) (fin : ∀ S S9 : GS, Z p l e room_1 s m #[Value.ref b] below meth c D (fun q => s.heap.size ≤ q) 4 (lw_Z below #[Value.ref b] s) 200 60000 (cw cy tE a rw S ++ mw cy a2 S9) [(3, .int 0), (2, .ref (a2 0)), (1, .ref (a 0)), (0, .ref b)] 1091 []) (e1 : 4 = xs 1) : Z p l e room_1 s m #[Value.ref b] below meth c D (fun q => s.heap.size ≤ q) 4 (lw_Z below #[Value.ref b] s) 200 60000 (cw cy tE a rw (cS0 w) ++ mw cy a2 mS0) [(3, .int 0), (2, .ref (a2 0)), (1, .ref (a 0)), (0, .ref b)] 708 [] := by
  obtain ⟨x2, e2⟩ : ∃ x, x = xs 2 := ⟨_, rfl⟩
  rcases (show ((-2147483648) ≤ x2.toInt ∧ x2.toInt ≤ (-2147483609)) ∨ ((-2147483608) ≤ x2.toInt ∧ x2.toInt ≤ (-1)) ∨ x2.toInt = 0 ∨ x2.toInt = 1 ∨ x2.toInt = 2 ∨ x2.toInt = 3 ∨ x2.toInt = 4 ∨ x2.toInt = 5 ∨ x2.toInt = 6 ∨ x2.toInt = 7 ∨ x2.toInt = 8 ∨ x2.toInt = 9 ∨ x2.toInt = 10 ∨ x2.toInt = 11 ∨ x2.toInt = 12 ∨ x2.toInt = 13 ∨ x2.toInt = 14 ∨ x2.toInt = 15 ∨ x2.toInt = 16 ∨ x2.toInt = 17 ∨ x2.toInt = 18 ∨ x2.toInt = 19 ∨ x2.toInt = 20 ∨ x2.toInt = 21 ∨ x2.toInt = 22 ∨ x2.toInt = 23 ∨ x2.toInt = 24 ∨ x2.toInt = 25 ∨ x2.toInt = 26 ∨ x2.toInt = 27 ∨ x2.toInt = 28 ∨ x2.toInt = 29 ∨ x2.toInt = 30 ∨ x2.toInt = 31 ∨ x2.toInt = 32 ∨ x2.toInt = 33 ∨ x2.toInt = 34 ∨ x2.toInt = 35 ∨ x2.toInt = 36 ∨ x2.toInt = 37 ∨ x2.toInt = 38 ∨ x2.toInt = 39 ∨ x2.toInt = 40 ∨ x2.toInt = 41 ∨ x2.toInt = 42 ∨ x2.toInt = 43 ∨ x2.toInt = 44 ∨ x2.toInt = 45 ∨ x2.toInt = 46 ∨ x2.toInt = 47 ∨ x2.toInt = 48 ∨ x2.toInt = 49 ∨ x2.toInt = 50 ∨ (51 ≤ x2.toInt ∧ x2.toInt ≤ 2147483647) by have g1 := Int32.le_toInt x2; have g2 := Int32.toInt_lt x2; omega) with h2 | h2 | h2 | h2 | h2 | h2 | h2 | h2 | h2 | h2 | h2 | h2 | h2 | h2 | h2 | h2 | h2 | h2 | h2 | h2 | h2 | h2 | h2 | h2 | h2 | h2 | h2 | h2 | h2 | h2 | h2 | h2 | h2 | h2 | h2 | h2 | h2 | h2 | h2 | h2 | h2 | h2 | h2 | h2 | h2 | h2 | h2 | h2 | h2 | h2 | h2 | h2 | h2 | h2
  · refine z_aload_n B0 dL_law_708 rfl rfl ?_
    refine z_aload_n B0 dL_law_709 rfl rfl ?_
    refine z_iload_n B0 dL_law_710 rfl rfl ?_
    refine z_iconst (v := 1) B0 dL_law_711 (by decide) ?_
    refine z_iadd (v := 1) B0 dL_law_712 (by decide) ?_
    refine y_sld (j := 1) (v := 4) B0 hX hbl (by decide) e1.symm dL_law_713 ?_
    refine z_aload_n B0 dL_law_714 rfl rfl ?_
    refine z_iload_n B0 dL_law_715 rfl rfl ?_
    refine z_iconst (v := 2) B0 dL_law_716 (by decide) ?_
    refine z_iadd (v := 2) B0 dL_law_717 (by decide) ?_
    refine y_sld (j := 2) (v := x2) B0 hX hbl (by decide) e2.symm dL_law_718 ?_
    refine z_callC B0 (z_runV (q0 := 0) (As := [.int 4, .int x2]) (st := []) B0 (c_X11_after_219 (a := a) (cS0 w) x2 ⟨by omega, by omega⟩) cf_X11_after (cw_0 cy tE a rw (cS0 w)) rfl wm_L_87 wi_X11_after ws_X11_after dL_law_719 rfl (Nat.le_of_ble_eq_true rfl) ⟨by decide, by decide, by decide, by decide⟩) (fun r1 u1 p1 => ?_)
    obtain ⟨rfl, -⟩ := p1
    refine z_aload_n B0 dL_law_722 rfl rfl ?_
    refine z_aload_n B0 dL_law_723 rfl rfl ?_
    refine z_iload_n B0 dL_law_724 rfl rfl ?_
    refine z_iconst (v := 1) B0 dL_law_725 (by decide) ?_
    refine z_iadd (v := 1) B0 dL_law_726 (by decide) ?_
    refine y_sld (j := 1) (v := 4) B0 hX hbl (by decide) e1.symm dL_law_727 ?_
    refine z_aload_n B0 dL_law_728 rfl rfl ?_
    refine z_iload_n B0 dL_law_729 rfl rfl ?_
    refine z_iconst (v := 2) B0 dL_law_730 (by decide) ?_
    refine z_iadd (v := 2) B0 dL_law_731 (by decide) ?_
    refine y_sld (j := 2) (v := x2) B0 hX hbl (by decide) e2.symm dL_law_732 ?_
    refine z_callM B0 (z_runV (q0 := 0) (As := [.int 4, .int x2]) (st := [.int (-1)]) B0 (c_X12_after_219 (a := a2) mS0 x2 rfl rfl rfl rfl rfl rfl rfl rfl rfl rfl rfl rfl rfl rfl rfl rfl rfl rfl rfl rfl rfl rfl rfl rfl rfl rfl rfl ⟨by omega, by omega⟩) cf_X12_after (mw_0 cy a2 mS0) rfl wm_L_90 wi_X12_after ws_X12_after dL_law_733 rfl (Nat.le_of_ble_eq_true rfl) ⟨by decide, by decide, by decide, by decide⟩) (fun r2 u2 p2 => ?_)
    obtain ⟨rfl, -⟩ := p2
    refine z_icmp_eq_t (tgt := 1091) B0 dL_law_736 (by decide) rfl ?_
    exact fin u1 u2
  · refine z_aload_n B0 dL_law_708 rfl rfl ?_
    refine z_aload_n B0 dL_law_709 rfl rfl ?_
    refine z_iload_n B0 dL_law_710 rfl rfl ?_
    refine z_iconst (v := 1) B0 dL_law_711 (by decide) ?_
    refine z_iadd (v := 1) B0 dL_law_712 (by decide) ?_
    refine y_sld (j := 1) (v := 4) B0 hX hbl (by decide) e1.symm dL_law_713 ?_
    refine z_aload_n B0 dL_law_714 rfl rfl ?_
    refine z_iload_n B0 dL_law_715 rfl rfl ?_
    refine z_iconst (v := 2) B0 dL_law_716 (by decide) ?_
    refine z_iadd (v := 2) B0 dL_law_717 (by decide) ?_
    refine y_sld (j := 2) (v := x2) B0 hX hbl (by decide) e2.symm dL_law_718 ?_
    refine z_callC B0 (z_runV (q0 := 0) (As := [.int 4, .int x2]) (st := []) B0 (c_X11_after_220 (a := a) (cS0 w) x2 ⟨by omega, by omega⟩) cf_X11_after (cw_0 cy tE a rw (cS0 w)) rfl wm_L_87 wi_X11_after ws_X11_after dL_law_719 rfl (Nat.le_of_ble_eq_true rfl) ⟨by decide, by decide, by decide, by decide⟩) (fun r1 u1 p1 => ?_)
    obtain ⟨rfl, -⟩ := p1
    refine z_aload_n B0 dL_law_722 rfl rfl ?_
    refine z_aload_n B0 dL_law_723 rfl rfl ?_
    refine z_iload_n B0 dL_law_724 rfl rfl ?_
    refine z_iconst (v := 1) B0 dL_law_725 (by decide) ?_
    refine z_iadd (v := 1) B0 dL_law_726 (by decide) ?_
    refine y_sld (j := 1) (v := 4) B0 hX hbl (by decide) e1.symm dL_law_727 ?_
    refine z_aload_n B0 dL_law_728 rfl rfl ?_
    refine z_iload_n B0 dL_law_729 rfl rfl ?_
    refine z_iconst (v := 2) B0 dL_law_730 (by decide) ?_
    refine z_iadd (v := 2) B0 dL_law_731 (by decide) ?_
    refine y_sld (j := 2) (v := x2) B0 hX hbl (by decide) e2.symm dL_law_732 ?_
    refine z_callM B0 (z_runV (q0 := 0) (As := [.int 4, .int x2]) (st := [.int (-1)]) B0 (c_X12_after_220 (a := a2) mS0 x2 rfl rfl rfl rfl rfl rfl rfl rfl rfl rfl rfl rfl rfl rfl rfl rfl rfl rfl rfl rfl rfl rfl rfl rfl rfl rfl rfl ⟨by omega, by omega⟩) cf_X12_after (mw_0 cy a2 mS0) rfl wm_L_90 wi_X12_after ws_X12_after dL_law_733 rfl (Nat.le_of_ble_eq_true rfl) ⟨by decide, by decide, by decide, by decide⟩) (fun r2 u2 p2 => ?_)
    obtain ⟨rfl, -⟩ := p2
    refine z_icmp_eq_t (tgt := 1091) B0 dL_law_736 (by decide) rfl ?_
    exact fin u1 u2
  · obtain rfl : x2 = 0 := Int32.toInt_inj.mp (h2.trans (by decide))
    refine z_aload_n B0 dL_law_708 rfl rfl ?_
    refine z_aload_n B0 dL_law_709 rfl rfl ?_
    refine z_iload_n B0 dL_law_710 rfl rfl ?_
    refine z_iconst (v := 1) B0 dL_law_711 (by decide) ?_
    refine z_iadd (v := 1) B0 dL_law_712 (by decide) ?_
    refine y_sld (j := 1) (v := 4) B0 hX hbl (by decide) e1.symm dL_law_713 ?_
    refine z_aload_n B0 dL_law_714 rfl rfl ?_
    refine z_iload_n B0 dL_law_715 rfl rfl ?_
    refine z_iconst (v := 2) B0 dL_law_716 (by decide) ?_
    refine z_iadd (v := 2) B0 dL_law_717 (by decide) ?_
    refine y_sld (j := 2) (v := 0) B0 hX hbl (by decide) e2.symm dL_law_718 ?_
    refine z_callC B0 (z_runV (q0 := 0) (As := [.int 4, .int 0]) (st := []) B0 (c_X11_after_221 (a := a) (cS0 w)  rfl rfl rfl hrw) cf_X11_after (cw_0 cy tE a rw (cS0 w)) rfl wm_L_87 wi_X11_after ws_X11_after dL_law_719 rfl (Nat.le_of_ble_eq_true rfl) ⟨by decide, by decide, by decide, by decide⟩) (fun r1 u1 p1 => ?_)
    obtain ⟨rfl, -⟩ := p1
    refine z_aload_n B0 dL_law_722 rfl rfl ?_
    refine z_aload_n B0 dL_law_723 rfl rfl ?_
    refine z_iload_n B0 dL_law_724 rfl rfl ?_
    refine z_iconst (v := 1) B0 dL_law_725 (by decide) ?_
    refine z_iadd (v := 1) B0 dL_law_726 (by decide) ?_
    refine y_sld (j := 1) (v := 4) B0 hX hbl (by decide) e1.symm dL_law_727 ?_
    refine z_aload_n B0 dL_law_728 rfl rfl ?_
    refine z_iload_n B0 dL_law_729 rfl rfl ?_
    refine z_iconst (v := 2) B0 dL_law_730 (by decide) ?_
    refine z_iadd (v := 2) B0 dL_law_731 (by decide) ?_
    refine y_sld (j := 2) (v := 0) B0 hX hbl (by decide) e2.symm dL_law_732 ?_
    refine z_callM B0 (z_runV (q0 := 0) (As := [.int 4, .int 0]) (st := [.int 0]) B0 (c_X12_after_221 (a := a2) mS0  rfl rfl rfl rfl rfl rfl rfl rfl rfl rfl rfl rfl rfl rfl rfl rfl rfl rfl rfl rfl rfl rfl rfl rfl rfl rfl rfl) cf_X12_after (mw_0 cy a2 mS0) rfl wm_L_90 wi_X12_after ws_X12_after dL_law_733 rfl (Nat.le_of_ble_eq_true rfl) ⟨by decide, by decide, by decide, by decide⟩) (fun r2 u2 p2 => ?_)
    obtain ⟨rfl, -⟩ := p2
    refine z_icmp_eq_t (tgt := 1091) B0 dL_law_736 (by decide) rfl ?_
    exact fin u1 u2
  · obtain rfl : x2 = 1 := Int32.toInt_inj.mp (h2.trans (by decide))
    refine z_aload_n B0 dL_law_708 rfl rfl ?_
    refine z_aload_n B0 dL_law_709 rfl rfl ?_
    refine z_iload_n B0 dL_law_710 rfl rfl ?_
    refine z_iconst (v := 1) B0 dL_law_711 (by decide) ?_
    refine z_iadd (v := 1) B0 dL_law_712 (by decide) ?_
    refine y_sld (j := 1) (v := 4) B0 hX hbl (by decide) e1.symm dL_law_713 ?_
    refine z_aload_n B0 dL_law_714 rfl rfl ?_
    refine z_iload_n B0 dL_law_715 rfl rfl ?_
    refine z_iconst (v := 2) B0 dL_law_716 (by decide) ?_
    refine z_iadd (v := 2) B0 dL_law_717 (by decide) ?_
    refine y_sld (j := 2) (v := 1) B0 hX hbl (by decide) e2.symm dL_law_718 ?_
    refine z_callC B0 (z_runV (q0 := 0) (As := [.int 4, .int 1]) (st := []) B0 (c_X11_after_222 (a := a) (cS0 w)  rfl rfl rfl hrw) cf_X11_after (cw_0 cy tE a rw (cS0 w)) rfl wm_L_87 wi_X11_after ws_X11_after dL_law_719 rfl (Nat.le_of_ble_eq_true rfl) ⟨by decide, by decide, by decide, by decide⟩) (fun r1 u1 p1 => ?_)
    obtain ⟨rfl, -⟩ := p1
    refine z_aload_n B0 dL_law_722 rfl rfl ?_
    refine z_aload_n B0 dL_law_723 rfl rfl ?_
    refine z_iload_n B0 dL_law_724 rfl rfl ?_
    refine z_iconst (v := 1) B0 dL_law_725 (by decide) ?_
    refine z_iadd (v := 1) B0 dL_law_726 (by decide) ?_
    refine y_sld (j := 1) (v := 4) B0 hX hbl (by decide) e1.symm dL_law_727 ?_
    refine z_aload_n B0 dL_law_728 rfl rfl ?_
    refine z_iload_n B0 dL_law_729 rfl rfl ?_
    refine z_iconst (v := 2) B0 dL_law_730 (by decide) ?_
    refine z_iadd (v := 2) B0 dL_law_731 (by decide) ?_
    refine y_sld (j := 2) (v := 1) B0 hX hbl (by decide) e2.symm dL_law_732 ?_
    refine z_callM B0 (z_runV (q0 := 0) (As := [.int 4, .int 1]) (st := [.int 0]) B0 (c_X12_after_222 (a := a2) mS0  rfl rfl rfl rfl rfl rfl rfl rfl rfl rfl rfl rfl rfl rfl rfl rfl rfl rfl rfl rfl rfl rfl rfl rfl rfl rfl rfl) cf_X12_after (mw_0 cy a2 mS0) rfl wm_L_90 wi_X12_after ws_X12_after dL_law_733 rfl (Nat.le_of_ble_eq_true rfl) ⟨by decide, by decide, by decide, by decide⟩) (fun r2 u2 p2 => ?_)
    obtain ⟨rfl, -⟩ := p2
    refine z_icmp_eq_t (tgt := 1091) B0 dL_law_736 (by decide) rfl ?_
    exact fin u1 u2
  · obtain rfl : x2 = 2 := Int32.toInt_inj.mp (h2.trans (by decide))
    refine z_aload_n B0 dL_law_708 rfl rfl ?_
    refine z_aload_n B0 dL_law_709 rfl rfl ?_
    refine z_iload_n B0 dL_law_710 rfl rfl ?_
    refine z_iconst (v := 1) B0 dL_law_711 (by decide) ?_
    refine z_iadd (v := 1) B0 dL_law_712 (by decide) ?_
    refine y_sld (j := 1) (v := 4) B0 hX hbl (by decide) e1.symm dL_law_713 ?_
    refine z_aload_n B0 dL_law_714 rfl rfl ?_
    refine z_iload_n B0 dL_law_715 rfl rfl ?_
    refine z_iconst (v := 2) B0 dL_law_716 (by decide) ?_
    refine z_iadd (v := 2) B0 dL_law_717 (by decide) ?_
    refine y_sld (j := 2) (v := 2) B0 hX hbl (by decide) e2.symm dL_law_718 ?_
    refine z_callC B0 (z_runV (q0 := 0) (As := [.int 4, .int 2]) (st := []) B0 (c_X11_after_223 (a := a) (cS0 w)  rfl rfl rfl hrw) cf_X11_after (cw_0 cy tE a rw (cS0 w)) rfl wm_L_87 wi_X11_after ws_X11_after dL_law_719 rfl (Nat.le_of_ble_eq_true rfl) ⟨by decide, by decide, by decide, by decide⟩) (fun r1 u1 p1 => ?_)
    obtain ⟨rfl, -⟩ := p1
    refine z_aload_n B0 dL_law_722 rfl rfl ?_
    refine z_aload_n B0 dL_law_723 rfl rfl ?_
    refine z_iload_n B0 dL_law_724 rfl rfl ?_
    refine z_iconst (v := 1) B0 dL_law_725 (by decide) ?_
    refine z_iadd (v := 1) B0 dL_law_726 (by decide) ?_
    refine y_sld (j := 1) (v := 4) B0 hX hbl (by decide) e1.symm dL_law_727 ?_
    refine z_aload_n B0 dL_law_728 rfl rfl ?_
    refine z_iload_n B0 dL_law_729 rfl rfl ?_
    refine z_iconst (v := 2) B0 dL_law_730 (by decide) ?_
    refine z_iadd (v := 2) B0 dL_law_731 (by decide) ?_
    refine y_sld (j := 2) (v := 2) B0 hX hbl (by decide) e2.symm dL_law_732 ?_
    refine z_callM B0 (z_runV (q0 := 0) (As := [.int 4, .int 2]) (st := [.int 0]) B0 (c_X12_after_223 (a := a2) mS0  rfl rfl rfl rfl rfl rfl rfl rfl rfl rfl rfl rfl rfl rfl rfl rfl rfl rfl rfl rfl rfl rfl rfl rfl rfl rfl rfl) cf_X12_after (mw_0 cy a2 mS0) rfl wm_L_90 wi_X12_after ws_X12_after dL_law_733 rfl (Nat.le_of_ble_eq_true rfl) ⟨by decide, by decide, by decide, by decide⟩) (fun r2 u2 p2 => ?_)
    obtain ⟨rfl, -⟩ := p2
    refine z_icmp_eq_t (tgt := 1091) B0 dL_law_736 (by decide) rfl ?_
    exact fin u1 u2
  · obtain rfl : x2 = 3 := Int32.toInt_inj.mp (h2.trans (by decide))
    refine z_aload_n B0 dL_law_708 rfl rfl ?_
    refine z_aload_n B0 dL_law_709 rfl rfl ?_
    refine z_iload_n B0 dL_law_710 rfl rfl ?_
    refine z_iconst (v := 1) B0 dL_law_711 (by decide) ?_
    refine z_iadd (v := 1) B0 dL_law_712 (by decide) ?_
    refine y_sld (j := 1) (v := 4) B0 hX hbl (by decide) e1.symm dL_law_713 ?_
    refine z_aload_n B0 dL_law_714 rfl rfl ?_
    refine z_iload_n B0 dL_law_715 rfl rfl ?_
    refine z_iconst (v := 2) B0 dL_law_716 (by decide) ?_
    refine z_iadd (v := 2) B0 dL_law_717 (by decide) ?_
    refine y_sld (j := 2) (v := 3) B0 hX hbl (by decide) e2.symm dL_law_718 ?_
    refine z_callC B0 (z_runV (q0 := 0) (As := [.int 4, .int 3]) (st := []) B0 (c_X11_after_224 (a := a) (cS0 w)  ) cf_X11_after (cw_0 cy tE a rw (cS0 w)) rfl wm_L_87 wi_X11_after ws_X11_after dL_law_719 rfl (Nat.le_of_ble_eq_true rfl) ⟨by decide, by decide, by decide, by decide⟩) (fun r1 u1 p1 => ?_)
    obtain ⟨rfl, -⟩ := p1
    refine z_aload_n B0 dL_law_722 rfl rfl ?_
    refine z_aload_n B0 dL_law_723 rfl rfl ?_
    refine z_iload_n B0 dL_law_724 rfl rfl ?_
    refine z_iconst (v := 1) B0 dL_law_725 (by decide) ?_
    refine z_iadd (v := 1) B0 dL_law_726 (by decide) ?_
    refine y_sld (j := 1) (v := 4) B0 hX hbl (by decide) e1.symm dL_law_727 ?_
    refine z_aload_n B0 dL_law_728 rfl rfl ?_
    refine z_iload_n B0 dL_law_729 rfl rfl ?_
    refine z_iconst (v := 2) B0 dL_law_730 (by decide) ?_
    refine z_iadd (v := 2) B0 dL_law_731 (by decide) ?_
    refine y_sld (j := 2) (v := 3) B0 hX hbl (by decide) e2.symm dL_law_732 ?_
    refine z_callM B0 (z_runV (q0 := 0) (As := [.int 4, .int 3]) (st := [.int (-1)]) B0 (c_X12_after_224 (a := a2) mS0  rfl rfl rfl rfl rfl rfl rfl rfl rfl rfl rfl rfl rfl rfl rfl rfl rfl rfl rfl rfl rfl rfl rfl rfl rfl rfl rfl) cf_X12_after (mw_0 cy a2 mS0) rfl wm_L_90 wi_X12_after ws_X12_after dL_law_733 rfl (Nat.le_of_ble_eq_true rfl) ⟨by decide, by decide, by decide, by decide⟩) (fun r2 u2 p2 => ?_)
    obtain ⟨rfl, -⟩ := p2
    refine z_icmp_eq_t (tgt := 1091) B0 dL_law_736 (by decide) rfl ?_
    exact fin u1 u2
  · obtain rfl : x2 = 4 := Int32.toInt_inj.mp (h2.trans (by decide))
    refine z_aload_n B0 dL_law_708 rfl rfl ?_
    refine z_aload_n B0 dL_law_709 rfl rfl ?_
    refine z_iload_n B0 dL_law_710 rfl rfl ?_
    refine z_iconst (v := 1) B0 dL_law_711 (by decide) ?_
    refine z_iadd (v := 1) B0 dL_law_712 (by decide) ?_
    refine y_sld (j := 1) (v := 4) B0 hX hbl (by decide) e1.symm dL_law_713 ?_
    refine z_aload_n B0 dL_law_714 rfl rfl ?_
    refine z_iload_n B0 dL_law_715 rfl rfl ?_
    refine z_iconst (v := 2) B0 dL_law_716 (by decide) ?_
    refine z_iadd (v := 2) B0 dL_law_717 (by decide) ?_
    refine y_sld (j := 2) (v := 4) B0 hX hbl (by decide) e2.symm dL_law_718 ?_
    refine z_callC B0 (z_runV (q0 := 0) (As := [.int 4, .int 4]) (st := []) B0 (c_X11_after_225 (a := a) (cS0 w)  ) cf_X11_after (cw_0 cy tE a rw (cS0 w)) rfl wm_L_87 wi_X11_after ws_X11_after dL_law_719 rfl (Nat.le_of_ble_eq_true rfl) ⟨by decide, by decide, by decide, by decide⟩) (fun r1 u1 p1 => ?_)
    obtain ⟨rfl, -⟩ := p1
    refine z_aload_n B0 dL_law_722 rfl rfl ?_
    refine z_aload_n B0 dL_law_723 rfl rfl ?_
    refine z_iload_n B0 dL_law_724 rfl rfl ?_
    refine z_iconst (v := 1) B0 dL_law_725 (by decide) ?_
    refine z_iadd (v := 1) B0 dL_law_726 (by decide) ?_
    refine y_sld (j := 1) (v := 4) B0 hX hbl (by decide) e1.symm dL_law_727 ?_
    refine z_aload_n B0 dL_law_728 rfl rfl ?_
    refine z_iload_n B0 dL_law_729 rfl rfl ?_
    refine z_iconst (v := 2) B0 dL_law_730 (by decide) ?_
    refine z_iadd (v := 2) B0 dL_law_731 (by decide) ?_
    refine y_sld (j := 2) (v := 4) B0 hX hbl (by decide) e2.symm dL_law_732 ?_
    refine z_callM B0 (z_runV (q0 := 0) (As := [.int 4, .int 4]) (st := [.int (-1)]) B0 (c_X12_after_225 (a := a2) mS0  rfl rfl rfl rfl rfl rfl rfl rfl rfl rfl rfl rfl rfl rfl rfl rfl rfl rfl rfl rfl rfl rfl rfl rfl rfl rfl rfl) cf_X12_after (mw_0 cy a2 mS0) rfl wm_L_90 wi_X12_after ws_X12_after dL_law_733 rfl (Nat.le_of_ble_eq_true rfl) ⟨by decide, by decide, by decide, by decide⟩) (fun r2 u2 p2 => ?_)
    obtain ⟨rfl, -⟩ := p2
    refine z_icmp_eq_t (tgt := 1091) B0 dL_law_736 (by decide) rfl ?_
    exact fin u1 u2
  · obtain rfl : x2 = 5 := Int32.toInt_inj.mp (h2.trans (by decide))
    refine z_aload_n B0 dL_law_708 rfl rfl ?_
    refine z_aload_n B0 dL_law_709 rfl rfl ?_
    refine z_iload_n B0 dL_law_710 rfl rfl ?_
    refine z_iconst (v := 1) B0 dL_law_711 (by decide) ?_
    refine z_iadd (v := 1) B0 dL_law_712 (by decide) ?_
    refine y_sld (j := 1) (v := 4) B0 hX hbl (by decide) e1.symm dL_law_713 ?_
    refine z_aload_n B0 dL_law_714 rfl rfl ?_
    refine z_iload_n B0 dL_law_715 rfl rfl ?_
    refine z_iconst (v := 2) B0 dL_law_716 (by decide) ?_
    refine z_iadd (v := 2) B0 dL_law_717 (by decide) ?_
    refine y_sld (j := 2) (v := 5) B0 hX hbl (by decide) e2.symm dL_law_718 ?_
    refine z_callC B0 (z_runV (q0 := 0) (As := [.int 4, .int 5]) (st := []) B0 (c_X11_after_226 (a := a) (cS0 w)  ) cf_X11_after (cw_0 cy tE a rw (cS0 w)) rfl wm_L_87 wi_X11_after ws_X11_after dL_law_719 rfl (Nat.le_of_ble_eq_true rfl) ⟨by decide, by decide, by decide, by decide⟩) (fun r1 u1 p1 => ?_)
    obtain ⟨rfl, -⟩ := p1
    refine z_aload_n B0 dL_law_722 rfl rfl ?_
    refine z_aload_n B0 dL_law_723 rfl rfl ?_
    refine z_iload_n B0 dL_law_724 rfl rfl ?_
    refine z_iconst (v := 1) B0 dL_law_725 (by decide) ?_
    refine z_iadd (v := 1) B0 dL_law_726 (by decide) ?_
    refine y_sld (j := 1) (v := 4) B0 hX hbl (by decide) e1.symm dL_law_727 ?_
    refine z_aload_n B0 dL_law_728 rfl rfl ?_
    refine z_iload_n B0 dL_law_729 rfl rfl ?_
    refine z_iconst (v := 2) B0 dL_law_730 (by decide) ?_
    refine z_iadd (v := 2) B0 dL_law_731 (by decide) ?_
    refine y_sld (j := 2) (v := 5) B0 hX hbl (by decide) e2.symm dL_law_732 ?_
    refine z_callM B0 (z_runV (q0 := 0) (As := [.int 4, .int 5]) (st := [.int (-1)]) B0 (c_X12_after_226 (a := a2) mS0  rfl rfl rfl rfl rfl rfl rfl rfl rfl rfl rfl rfl rfl rfl rfl rfl rfl rfl rfl rfl rfl rfl rfl rfl rfl rfl rfl) cf_X12_after (mw_0 cy a2 mS0) rfl wm_L_90 wi_X12_after ws_X12_after dL_law_733 rfl (Nat.le_of_ble_eq_true rfl) ⟨by decide, by decide, by decide, by decide⟩) (fun r2 u2 p2 => ?_)
    obtain ⟨rfl, -⟩ := p2
    refine z_icmp_eq_t (tgt := 1091) B0 dL_law_736 (by decide) rfl ?_
    exact fin u1 u2
  · obtain rfl : x2 = 6 := Int32.toInt_inj.mp (h2.trans (by decide))
    refine z_aload_n B0 dL_law_708 rfl rfl ?_
    refine z_aload_n B0 dL_law_709 rfl rfl ?_
    refine z_iload_n B0 dL_law_710 rfl rfl ?_
    refine z_iconst (v := 1) B0 dL_law_711 (by decide) ?_
    refine z_iadd (v := 1) B0 dL_law_712 (by decide) ?_
    refine y_sld (j := 1) (v := 4) B0 hX hbl (by decide) e1.symm dL_law_713 ?_
    refine z_aload_n B0 dL_law_714 rfl rfl ?_
    refine z_iload_n B0 dL_law_715 rfl rfl ?_
    refine z_iconst (v := 2) B0 dL_law_716 (by decide) ?_
    refine z_iadd (v := 2) B0 dL_law_717 (by decide) ?_
    refine y_sld (j := 2) (v := 6) B0 hX hbl (by decide) e2.symm dL_law_718 ?_
    refine z_callC B0 (z_runV (q0 := 0) (As := [.int 4, .int 6]) (st := []) B0 (c_X11_after_227 (a := a) (cS0 w)  ) cf_X11_after (cw_0 cy tE a rw (cS0 w)) rfl wm_L_87 wi_X11_after ws_X11_after dL_law_719 rfl (Nat.le_of_ble_eq_true rfl) ⟨by decide, by decide, by decide, by decide⟩) (fun r1 u1 p1 => ?_)
    obtain ⟨rfl, -⟩ := p1
    refine z_aload_n B0 dL_law_722 rfl rfl ?_
    refine z_aload_n B0 dL_law_723 rfl rfl ?_
    refine z_iload_n B0 dL_law_724 rfl rfl ?_
    refine z_iconst (v := 1) B0 dL_law_725 (by decide) ?_
    refine z_iadd (v := 1) B0 dL_law_726 (by decide) ?_
    refine y_sld (j := 1) (v := 4) B0 hX hbl (by decide) e1.symm dL_law_727 ?_
    refine z_aload_n B0 dL_law_728 rfl rfl ?_
    refine z_iload_n B0 dL_law_729 rfl rfl ?_
    refine z_iconst (v := 2) B0 dL_law_730 (by decide) ?_
    refine z_iadd (v := 2) B0 dL_law_731 (by decide) ?_
    refine y_sld (j := 2) (v := 6) B0 hX hbl (by decide) e2.symm dL_law_732 ?_
    refine z_callM B0 (z_runV (q0 := 0) (As := [.int 4, .int 6]) (st := [.int (-1)]) B0 (c_X12_after_227 (a := a2) mS0  rfl rfl rfl rfl rfl rfl rfl rfl rfl rfl rfl rfl rfl rfl rfl rfl rfl rfl rfl rfl rfl rfl rfl rfl rfl rfl rfl) cf_X12_after (mw_0 cy a2 mS0) rfl wm_L_90 wi_X12_after ws_X12_after dL_law_733 rfl (Nat.le_of_ble_eq_true rfl) ⟨by decide, by decide, by decide, by decide⟩) (fun r2 u2 p2 => ?_)
    obtain ⟨rfl, -⟩ := p2
    refine z_icmp_eq_t (tgt := 1091) B0 dL_law_736 (by decide) rfl ?_
    exact fin u1 u2
  · obtain rfl : x2 = 7 := Int32.toInt_inj.mp (h2.trans (by decide))
    refine z_aload_n B0 dL_law_708 rfl rfl ?_
    refine z_aload_n B0 dL_law_709 rfl rfl ?_
    refine z_iload_n B0 dL_law_710 rfl rfl ?_
    refine z_iconst (v := 1) B0 dL_law_711 (by decide) ?_
    refine z_iadd (v := 1) B0 dL_law_712 (by decide) ?_
    refine y_sld (j := 1) (v := 4) B0 hX hbl (by decide) e1.symm dL_law_713 ?_
    refine z_aload_n B0 dL_law_714 rfl rfl ?_
    refine z_iload_n B0 dL_law_715 rfl rfl ?_
    refine z_iconst (v := 2) B0 dL_law_716 (by decide) ?_
    refine z_iadd (v := 2) B0 dL_law_717 (by decide) ?_
    refine y_sld (j := 2) (v := 7) B0 hX hbl (by decide) e2.symm dL_law_718 ?_
    refine z_callC B0 (z_runV (q0 := 0) (As := [.int 4, .int 7]) (st := []) B0 (c_X11_after_228 (a := a) (cS0 w)  ) cf_X11_after (cw_0 cy tE a rw (cS0 w)) rfl wm_L_87 wi_X11_after ws_X11_after dL_law_719 rfl (Nat.le_of_ble_eq_true rfl) ⟨by decide, by decide, by decide, by decide⟩) (fun r1 u1 p1 => ?_)
    obtain ⟨rfl, -⟩ := p1
    refine z_aload_n B0 dL_law_722 rfl rfl ?_
    refine z_aload_n B0 dL_law_723 rfl rfl ?_
    refine z_iload_n B0 dL_law_724 rfl rfl ?_
    refine z_iconst (v := 1) B0 dL_law_725 (by decide) ?_
    refine z_iadd (v := 1) B0 dL_law_726 (by decide) ?_
    refine y_sld (j := 1) (v := 4) B0 hX hbl (by decide) e1.symm dL_law_727 ?_
    refine z_aload_n B0 dL_law_728 rfl rfl ?_
    refine z_iload_n B0 dL_law_729 rfl rfl ?_
    refine z_iconst (v := 2) B0 dL_law_730 (by decide) ?_
    refine z_iadd (v := 2) B0 dL_law_731 (by decide) ?_
    refine y_sld (j := 2) (v := 7) B0 hX hbl (by decide) e2.symm dL_law_732 ?_
    refine z_callM B0 (z_runV (q0 := 0) (As := [.int 4, .int 7]) (st := [.int (-1)]) B0 (c_X12_after_228 (a := a2) mS0  rfl rfl rfl rfl rfl rfl rfl rfl rfl rfl rfl rfl rfl rfl rfl rfl rfl rfl rfl rfl rfl rfl rfl rfl rfl rfl rfl) cf_X12_after (mw_0 cy a2 mS0) rfl wm_L_90 wi_X12_after ws_X12_after dL_law_733 rfl (Nat.le_of_ble_eq_true rfl) ⟨by decide, by decide, by decide, by decide⟩) (fun r2 u2 p2 => ?_)
    obtain ⟨rfl, -⟩ := p2
    refine z_icmp_eq_t (tgt := 1091) B0 dL_law_736 (by decide) rfl ?_
    exact fin u1 u2
  · obtain rfl : x2 = 8 := Int32.toInt_inj.mp (h2.trans (by decide))
    refine z_aload_n B0 dL_law_708 rfl rfl ?_
    refine z_aload_n B0 dL_law_709 rfl rfl ?_
    refine z_iload_n B0 dL_law_710 rfl rfl ?_
    refine z_iconst (v := 1) B0 dL_law_711 (by decide) ?_
    refine z_iadd (v := 1) B0 dL_law_712 (by decide) ?_
    refine y_sld (j := 1) (v := 4) B0 hX hbl (by decide) e1.symm dL_law_713 ?_
    refine z_aload_n B0 dL_law_714 rfl rfl ?_
    refine z_iload_n B0 dL_law_715 rfl rfl ?_
    refine z_iconst (v := 2) B0 dL_law_716 (by decide) ?_
    refine z_iadd (v := 2) B0 dL_law_717 (by decide) ?_
    refine y_sld (j := 2) (v := 8) B0 hX hbl (by decide) e2.symm dL_law_718 ?_
    refine z_callC B0 (z_runV (q0 := 0) (As := [.int 4, .int 8]) (st := []) B0 (c_X11_after_229 (a := a) (cS0 w)  ) cf_X11_after (cw_0 cy tE a rw (cS0 w)) rfl wm_L_87 wi_X11_after ws_X11_after dL_law_719 rfl (Nat.le_of_ble_eq_true rfl) ⟨by decide, by decide, by decide, by decide⟩) (fun r1 u1 p1 => ?_)
    obtain ⟨rfl, -⟩ := p1
    refine z_aload_n B0 dL_law_722 rfl rfl ?_
    refine z_aload_n B0 dL_law_723 rfl rfl ?_
    refine z_iload_n B0 dL_law_724 rfl rfl ?_
    refine z_iconst (v := 1) B0 dL_law_725 (by decide) ?_
    refine z_iadd (v := 1) B0 dL_law_726 (by decide) ?_
    refine y_sld (j := 1) (v := 4) B0 hX hbl (by decide) e1.symm dL_law_727 ?_
    refine z_aload_n B0 dL_law_728 rfl rfl ?_
    refine z_iload_n B0 dL_law_729 rfl rfl ?_
    refine z_iconst (v := 2) B0 dL_law_730 (by decide) ?_
    refine z_iadd (v := 2) B0 dL_law_731 (by decide) ?_
    refine y_sld (j := 2) (v := 8) B0 hX hbl (by decide) e2.symm dL_law_732 ?_
    refine z_callM B0 (z_runV (q0 := 0) (As := [.int 4, .int 8]) (st := [.int (-1)]) B0 (c_X12_after_229 (a := a2) mS0  rfl rfl rfl rfl rfl rfl rfl rfl rfl rfl rfl rfl rfl rfl rfl rfl rfl rfl rfl rfl rfl rfl rfl rfl rfl rfl rfl) cf_X12_after (mw_0 cy a2 mS0) rfl wm_L_90 wi_X12_after ws_X12_after dL_law_733 rfl (Nat.le_of_ble_eq_true rfl) ⟨by decide, by decide, by decide, by decide⟩) (fun r2 u2 p2 => ?_)
    obtain ⟨rfl, -⟩ := p2
    refine z_icmp_eq_t (tgt := 1091) B0 dL_law_736 (by decide) rfl ?_
    exact fin u1 u2
  · obtain rfl : x2 = 9 := Int32.toInt_inj.mp (h2.trans (by decide))
    refine z_aload_n B0 dL_law_708 rfl rfl ?_
    refine z_aload_n B0 dL_law_709 rfl rfl ?_
    refine z_iload_n B0 dL_law_710 rfl rfl ?_
    refine z_iconst (v := 1) B0 dL_law_711 (by decide) ?_
    refine z_iadd (v := 1) B0 dL_law_712 (by decide) ?_
    refine y_sld (j := 1) (v := 4) B0 hX hbl (by decide) e1.symm dL_law_713 ?_
    refine z_aload_n B0 dL_law_714 rfl rfl ?_
    refine z_iload_n B0 dL_law_715 rfl rfl ?_
    refine z_iconst (v := 2) B0 dL_law_716 (by decide) ?_
    refine z_iadd (v := 2) B0 dL_law_717 (by decide) ?_
    refine y_sld (j := 2) (v := 9) B0 hX hbl (by decide) e2.symm dL_law_718 ?_
    refine z_callC B0 (z_runV (q0 := 0) (As := [.int 4, .int 9]) (st := []) B0 (c_X11_after_230 (a := a) (cS0 w)  ) cf_X11_after (cw_0 cy tE a rw (cS0 w)) rfl wm_L_87 wi_X11_after ws_X11_after dL_law_719 rfl (Nat.le_of_ble_eq_true rfl) ⟨by decide, by decide, by decide, by decide⟩) (fun r1 u1 p1 => ?_)
    obtain ⟨rfl, -⟩ := p1
    refine z_aload_n B0 dL_law_722 rfl rfl ?_
    refine z_aload_n B0 dL_law_723 rfl rfl ?_
    refine z_iload_n B0 dL_law_724 rfl rfl ?_
    refine z_iconst (v := 1) B0 dL_law_725 (by decide) ?_
    refine z_iadd (v := 1) B0 dL_law_726 (by decide) ?_
    refine y_sld (j := 1) (v := 4) B0 hX hbl (by decide) e1.symm dL_law_727 ?_
    refine z_aload_n B0 dL_law_728 rfl rfl ?_
    refine z_iload_n B0 dL_law_729 rfl rfl ?_
    refine z_iconst (v := 2) B0 dL_law_730 (by decide) ?_
    refine z_iadd (v := 2) B0 dL_law_731 (by decide) ?_
    refine y_sld (j := 2) (v := 9) B0 hX hbl (by decide) e2.symm dL_law_732 ?_
    refine z_callM B0 (z_runV (q0 := 0) (As := [.int 4, .int 9]) (st := [.int (-1)]) B0 (c_X12_after_230 (a := a2) mS0  rfl rfl rfl rfl rfl rfl rfl rfl rfl rfl rfl rfl rfl rfl rfl rfl rfl rfl rfl rfl rfl rfl rfl rfl rfl rfl rfl) cf_X12_after (mw_0 cy a2 mS0) rfl wm_L_90 wi_X12_after ws_X12_after dL_law_733 rfl (Nat.le_of_ble_eq_true rfl) ⟨by decide, by decide, by decide, by decide⟩) (fun r2 u2 p2 => ?_)
    obtain ⟨rfl, -⟩ := p2
    refine z_icmp_eq_t (tgt := 1091) B0 dL_law_736 (by decide) rfl ?_
    exact fin u1 u2
  · obtain rfl : x2 = 10 := Int32.toInt_inj.mp (h2.trans (by decide))
    refine z_aload_n B0 dL_law_708 rfl rfl ?_
    refine z_aload_n B0 dL_law_709 rfl rfl ?_
    refine z_iload_n B0 dL_law_710 rfl rfl ?_
    refine z_iconst (v := 1) B0 dL_law_711 (by decide) ?_
    refine z_iadd (v := 1) B0 dL_law_712 (by decide) ?_
    refine y_sld (j := 1) (v := 4) B0 hX hbl (by decide) e1.symm dL_law_713 ?_
    refine z_aload_n B0 dL_law_714 rfl rfl ?_
    refine z_iload_n B0 dL_law_715 rfl rfl ?_
    refine z_iconst (v := 2) B0 dL_law_716 (by decide) ?_
    refine z_iadd (v := 2) B0 dL_law_717 (by decide) ?_
    refine y_sld (j := 2) (v := 10) B0 hX hbl (by decide) e2.symm dL_law_718 ?_
    refine z_callC B0 (z_runV (q0 := 0) (As := [.int 4, .int 10]) (st := []) B0 (c_X11_after_231 (a := a) (cS0 w)  ) cf_X11_after (cw_0 cy tE a rw (cS0 w)) rfl wm_L_87 wi_X11_after ws_X11_after dL_law_719 rfl (Nat.le_of_ble_eq_true rfl) ⟨by decide, by decide, by decide, by decide⟩) (fun r1 u1 p1 => ?_)
    obtain ⟨rfl, -⟩ := p1
    refine z_aload_n B0 dL_law_722 rfl rfl ?_
    refine z_aload_n B0 dL_law_723 rfl rfl ?_
    refine z_iload_n B0 dL_law_724 rfl rfl ?_
    refine z_iconst (v := 1) B0 dL_law_725 (by decide) ?_
    refine z_iadd (v := 1) B0 dL_law_726 (by decide) ?_
    refine y_sld (j := 1) (v := 4) B0 hX hbl (by decide) e1.symm dL_law_727 ?_
    refine z_aload_n B0 dL_law_728 rfl rfl ?_
    refine z_iload_n B0 dL_law_729 rfl rfl ?_
    refine z_iconst (v := 2) B0 dL_law_730 (by decide) ?_
    refine z_iadd (v := 2) B0 dL_law_731 (by decide) ?_
    refine y_sld (j := 2) (v := 10) B0 hX hbl (by decide) e2.symm dL_law_732 ?_
    refine z_callM B0 (z_runV (q0 := 0) (As := [.int 4, .int 10]) (st := [.int (-1)]) B0 (c_X12_after_231 (a := a2) mS0  rfl rfl rfl rfl rfl rfl rfl rfl rfl rfl rfl rfl rfl rfl rfl rfl rfl rfl rfl rfl rfl rfl rfl rfl rfl rfl rfl) cf_X12_after (mw_0 cy a2 mS0) rfl wm_L_90 wi_X12_after ws_X12_after dL_law_733 rfl (Nat.le_of_ble_eq_true rfl) ⟨by decide, by decide, by decide, by decide⟩) (fun r2 u2 p2 => ?_)
    obtain ⟨rfl, -⟩ := p2
    refine z_icmp_eq_t (tgt := 1091) B0 dL_law_736 (by decide) rfl ?_
    exact fin u1 u2
  · obtain rfl : x2 = 11 := Int32.toInt_inj.mp (h2.trans (by decide))
    refine z_aload_n B0 dL_law_708 rfl rfl ?_
    refine z_aload_n B0 dL_law_709 rfl rfl ?_
    refine z_iload_n B0 dL_law_710 rfl rfl ?_
    refine z_iconst (v := 1) B0 dL_law_711 (by decide) ?_
    refine z_iadd (v := 1) B0 dL_law_712 (by decide) ?_
    refine y_sld (j := 1) (v := 4) B0 hX hbl (by decide) e1.symm dL_law_713 ?_
    refine z_aload_n B0 dL_law_714 rfl rfl ?_
    refine z_iload_n B0 dL_law_715 rfl rfl ?_
    refine z_iconst (v := 2) B0 dL_law_716 (by decide) ?_
    refine z_iadd (v := 2) B0 dL_law_717 (by decide) ?_
    refine y_sld (j := 2) (v := 11) B0 hX hbl (by decide) e2.symm dL_law_718 ?_
    refine z_callC B0 (z_runV (q0 := 0) (As := [.int 4, .int 11]) (st := []) B0 (c_X11_after_232 (a := a) (cS0 w)  rfl rfl rfl hrw) cf_X11_after (cw_0 cy tE a rw (cS0 w)) rfl wm_L_87 wi_X11_after ws_X11_after dL_law_719 rfl (Nat.le_of_ble_eq_true rfl) ⟨by decide, by decide, by decide, by decide⟩) (fun r1 u1 p1 => ?_)
    obtain ⟨rfl, -⟩ := p1
    refine z_aload_n B0 dL_law_722 rfl rfl ?_
    refine z_aload_n B0 dL_law_723 rfl rfl ?_
    refine z_iload_n B0 dL_law_724 rfl rfl ?_
    refine z_iconst (v := 1) B0 dL_law_725 (by decide) ?_
    refine z_iadd (v := 1) B0 dL_law_726 (by decide) ?_
    refine y_sld (j := 1) (v := 4) B0 hX hbl (by decide) e1.symm dL_law_727 ?_
    refine z_aload_n B0 dL_law_728 rfl rfl ?_
    refine z_iload_n B0 dL_law_729 rfl rfl ?_
    refine z_iconst (v := 2) B0 dL_law_730 (by decide) ?_
    refine z_iadd (v := 2) B0 dL_law_731 (by decide) ?_
    refine y_sld (j := 2) (v := 11) B0 hX hbl (by decide) e2.symm dL_law_732 ?_
    refine z_callM B0 (z_runV (q0 := 0) (As := [.int 4, .int 11]) (st := [.int 0]) B0 (c_X12_after_232 (a := a2) mS0  rfl rfl rfl rfl rfl rfl rfl rfl rfl rfl rfl rfl rfl rfl rfl rfl rfl rfl rfl rfl rfl rfl rfl rfl rfl rfl rfl) cf_X12_after (mw_0 cy a2 mS0) rfl wm_L_90 wi_X12_after ws_X12_after dL_law_733 rfl (Nat.le_of_ble_eq_true rfl) ⟨by decide, by decide, by decide, by decide⟩) (fun r2 u2 p2 => ?_)
    obtain ⟨rfl, -⟩ := p2
    refine z_icmp_eq_t (tgt := 1091) B0 dL_law_736 (by decide) rfl ?_
    exact fin u1 u2
  · obtain rfl : x2 = 12 := Int32.toInt_inj.mp (h2.trans (by decide))
    refine z_aload_n B0 dL_law_708 rfl rfl ?_
    refine z_aload_n B0 dL_law_709 rfl rfl ?_
    refine z_iload_n B0 dL_law_710 rfl rfl ?_
    refine z_iconst (v := 1) B0 dL_law_711 (by decide) ?_
    refine z_iadd (v := 1) B0 dL_law_712 (by decide) ?_
    refine y_sld (j := 1) (v := 4) B0 hX hbl (by decide) e1.symm dL_law_713 ?_
    refine z_aload_n B0 dL_law_714 rfl rfl ?_
    refine z_iload_n B0 dL_law_715 rfl rfl ?_
    refine z_iconst (v := 2) B0 dL_law_716 (by decide) ?_
    refine z_iadd (v := 2) B0 dL_law_717 (by decide) ?_
    refine y_sld (j := 2) (v := 12) B0 hX hbl (by decide) e2.symm dL_law_718 ?_
    refine z_callC B0 (z_runV (q0 := 0) (As := [.int 4, .int 12]) (st := []) B0 (c_X11_after_233 (a := a) (cS0 w)  rfl rfl rfl hrw) cf_X11_after (cw_0 cy tE a rw (cS0 w)) rfl wm_L_87 wi_X11_after ws_X11_after dL_law_719 rfl (Nat.le_of_ble_eq_true rfl) ⟨by decide, by decide, by decide, by decide⟩) (fun r1 u1 p1 => ?_)
    obtain ⟨rfl, -⟩ := p1
    refine z_aload_n B0 dL_law_722 rfl rfl ?_
    refine z_aload_n B0 dL_law_723 rfl rfl ?_
    refine z_iload_n B0 dL_law_724 rfl rfl ?_
    refine z_iconst (v := 1) B0 dL_law_725 (by decide) ?_
    refine z_iadd (v := 1) B0 dL_law_726 (by decide) ?_
    refine y_sld (j := 1) (v := 4) B0 hX hbl (by decide) e1.symm dL_law_727 ?_
    refine z_aload_n B0 dL_law_728 rfl rfl ?_
    refine z_iload_n B0 dL_law_729 rfl rfl ?_
    refine z_iconst (v := 2) B0 dL_law_730 (by decide) ?_
    refine z_iadd (v := 2) B0 dL_law_731 (by decide) ?_
    refine y_sld (j := 2) (v := 12) B0 hX hbl (by decide) e2.symm dL_law_732 ?_
    refine z_callM B0 (z_runV (q0 := 0) (As := [.int 4, .int 12]) (st := [.int 0]) B0 (c_X12_after_233 (a := a2) mS0  rfl rfl rfl rfl rfl rfl rfl rfl rfl rfl rfl rfl rfl rfl rfl rfl rfl rfl rfl rfl rfl rfl rfl rfl rfl rfl rfl) cf_X12_after (mw_0 cy a2 mS0) rfl wm_L_90 wi_X12_after ws_X12_after dL_law_733 rfl (Nat.le_of_ble_eq_true rfl) ⟨by decide, by decide, by decide, by decide⟩) (fun r2 u2 p2 => ?_)
    obtain ⟨rfl, -⟩ := p2
    refine z_icmp_eq_t (tgt := 1091) B0 dL_law_736 (by decide) rfl ?_
    exact fin u1 u2
  · obtain rfl : x2 = 13 := Int32.toInt_inj.mp (h2.trans (by decide))
    refine z_aload_n B0 dL_law_708 rfl rfl ?_
    refine z_aload_n B0 dL_law_709 rfl rfl ?_
    refine z_iload_n B0 dL_law_710 rfl rfl ?_
    refine z_iconst (v := 1) B0 dL_law_711 (by decide) ?_
    refine z_iadd (v := 1) B0 dL_law_712 (by decide) ?_
    refine y_sld (j := 1) (v := 4) B0 hX hbl (by decide) e1.symm dL_law_713 ?_
    refine z_aload_n B0 dL_law_714 rfl rfl ?_
    refine z_iload_n B0 dL_law_715 rfl rfl ?_
    refine z_iconst (v := 2) B0 dL_law_716 (by decide) ?_
    refine z_iadd (v := 2) B0 dL_law_717 (by decide) ?_
    refine y_sld (j := 2) (v := 13) B0 hX hbl (by decide) e2.symm dL_law_718 ?_
    refine z_callC B0 (z_runV (q0 := 0) (As := [.int 4, .int 13]) (st := []) B0 (c_X11_after_234 (a := a) (cS0 w)  rfl rfl rfl hrw) cf_X11_after (cw_0 cy tE a rw (cS0 w)) rfl wm_L_87 wi_X11_after ws_X11_after dL_law_719 rfl (Nat.le_of_ble_eq_true rfl) ⟨by decide, by decide, by decide, by decide⟩) (fun r1 u1 p1 => ?_)
    obtain ⟨rfl, -⟩ := p1
    refine z_aload_n B0 dL_law_722 rfl rfl ?_
    refine z_aload_n B0 dL_law_723 rfl rfl ?_
    refine z_iload_n B0 dL_law_724 rfl rfl ?_
    refine z_iconst (v := 1) B0 dL_law_725 (by decide) ?_
    refine z_iadd (v := 1) B0 dL_law_726 (by decide) ?_
    refine y_sld (j := 1) (v := 4) B0 hX hbl (by decide) e1.symm dL_law_727 ?_
    refine z_aload_n B0 dL_law_728 rfl rfl ?_
    refine z_iload_n B0 dL_law_729 rfl rfl ?_
    refine z_iconst (v := 2) B0 dL_law_730 (by decide) ?_
    refine z_iadd (v := 2) B0 dL_law_731 (by decide) ?_
    refine y_sld (j := 2) (v := 13) B0 hX hbl (by decide) e2.symm dL_law_732 ?_
    refine z_callM B0 (z_runV (q0 := 0) (As := [.int 4, .int 13]) (st := [.int 0]) B0 (c_X12_after_234 (a := a2) mS0  rfl rfl rfl rfl rfl rfl rfl rfl rfl rfl rfl rfl rfl rfl rfl rfl rfl rfl rfl rfl rfl rfl rfl rfl rfl rfl rfl) cf_X12_after (mw_0 cy a2 mS0) rfl wm_L_90 wi_X12_after ws_X12_after dL_law_733 rfl (Nat.le_of_ble_eq_true rfl) ⟨by decide, by decide, by decide, by decide⟩) (fun r2 u2 p2 => ?_)
    obtain ⟨rfl, -⟩ := p2
    refine z_icmp_eq_t (tgt := 1091) B0 dL_law_736 (by decide) rfl ?_
    exact fin u1 u2
  · obtain rfl : x2 = 14 := Int32.toInt_inj.mp (h2.trans (by decide))
    refine z_aload_n B0 dL_law_708 rfl rfl ?_
    refine z_aload_n B0 dL_law_709 rfl rfl ?_
    refine z_iload_n B0 dL_law_710 rfl rfl ?_
    refine z_iconst (v := 1) B0 dL_law_711 (by decide) ?_
    refine z_iadd (v := 1) B0 dL_law_712 (by decide) ?_
    refine y_sld (j := 1) (v := 4) B0 hX hbl (by decide) e1.symm dL_law_713 ?_
    refine z_aload_n B0 dL_law_714 rfl rfl ?_
    refine z_iload_n B0 dL_law_715 rfl rfl ?_
    refine z_iconst (v := 2) B0 dL_law_716 (by decide) ?_
    refine z_iadd (v := 2) B0 dL_law_717 (by decide) ?_
    refine y_sld (j := 2) (v := 14) B0 hX hbl (by decide) e2.symm dL_law_718 ?_
    refine z_callC B0 (z_runV (q0 := 0) (As := [.int 4, .int 14]) (st := []) B0 (c_X11_after_235 (a := a) (cS0 w)  ) cf_X11_after (cw_0 cy tE a rw (cS0 w)) rfl wm_L_87 wi_X11_after ws_X11_after dL_law_719 rfl (Nat.le_of_ble_eq_true rfl) ⟨by decide, by decide, by decide, by decide⟩) (fun r1 u1 p1 => ?_)
    obtain ⟨rfl, -⟩ := p1
    refine z_aload_n B0 dL_law_722 rfl rfl ?_
    refine z_aload_n B0 dL_law_723 rfl rfl ?_
    refine z_iload_n B0 dL_law_724 rfl rfl ?_
    refine z_iconst (v := 1) B0 dL_law_725 (by decide) ?_
    refine z_iadd (v := 1) B0 dL_law_726 (by decide) ?_
    refine y_sld (j := 1) (v := 4) B0 hX hbl (by decide) e1.symm dL_law_727 ?_
    refine z_aload_n B0 dL_law_728 rfl rfl ?_
    refine z_iload_n B0 dL_law_729 rfl rfl ?_
    refine z_iconst (v := 2) B0 dL_law_730 (by decide) ?_
    refine z_iadd (v := 2) B0 dL_law_731 (by decide) ?_
    refine y_sld (j := 2) (v := 14) B0 hX hbl (by decide) e2.symm dL_law_732 ?_
    refine z_callM B0 (z_runV (q0 := 0) (As := [.int 4, .int 14]) (st := [.int (-1)]) B0 (c_X12_after_235 (a := a2) mS0  rfl rfl rfl rfl rfl rfl rfl rfl rfl rfl rfl rfl rfl rfl rfl rfl rfl rfl rfl rfl rfl rfl rfl rfl rfl rfl rfl) cf_X12_after (mw_0 cy a2 mS0) rfl wm_L_90 wi_X12_after ws_X12_after dL_law_733 rfl (Nat.le_of_ble_eq_true rfl) ⟨by decide, by decide, by decide, by decide⟩) (fun r2 u2 p2 => ?_)
    obtain ⟨rfl, -⟩ := p2
    refine z_icmp_eq_t (tgt := 1091) B0 dL_law_736 (by decide) rfl ?_
    exact fin u1 u2
  · obtain rfl : x2 = 15 := Int32.toInt_inj.mp (h2.trans (by decide))
    refine z_aload_n B0 dL_law_708 rfl rfl ?_
    refine z_aload_n B0 dL_law_709 rfl rfl ?_
    refine z_iload_n B0 dL_law_710 rfl rfl ?_
    refine z_iconst (v := 1) B0 dL_law_711 (by decide) ?_
    refine z_iadd (v := 1) B0 dL_law_712 (by decide) ?_
    refine y_sld (j := 1) (v := 4) B0 hX hbl (by decide) e1.symm dL_law_713 ?_
    refine z_aload_n B0 dL_law_714 rfl rfl ?_
    refine z_iload_n B0 dL_law_715 rfl rfl ?_
    refine z_iconst (v := 2) B0 dL_law_716 (by decide) ?_
    refine z_iadd (v := 2) B0 dL_law_717 (by decide) ?_
    refine y_sld (j := 2) (v := 15) B0 hX hbl (by decide) e2.symm dL_law_718 ?_
    refine z_callC B0 (z_runV (q0 := 0) (As := [.int 4, .int 15]) (st := []) B0 (c_X11_after_236 (a := a) (cS0 w)  rfl rfl rfl hrw) cf_X11_after (cw_0 cy tE a rw (cS0 w)) rfl wm_L_87 wi_X11_after ws_X11_after dL_law_719 rfl (Nat.le_of_ble_eq_true rfl) ⟨by decide, by decide, by decide, by decide⟩) (fun r1 u1 p1 => ?_)
    obtain ⟨rfl, -⟩ := p1
    refine z_aload_n B0 dL_law_722 rfl rfl ?_
    refine z_aload_n B0 dL_law_723 rfl rfl ?_
    refine z_iload_n B0 dL_law_724 rfl rfl ?_
    refine z_iconst (v := 1) B0 dL_law_725 (by decide) ?_
    refine z_iadd (v := 1) B0 dL_law_726 (by decide) ?_
    refine y_sld (j := 1) (v := 4) B0 hX hbl (by decide) e1.symm dL_law_727 ?_
    refine z_aload_n B0 dL_law_728 rfl rfl ?_
    refine z_iload_n B0 dL_law_729 rfl rfl ?_
    refine z_iconst (v := 2) B0 dL_law_730 (by decide) ?_
    refine z_iadd (v := 2) B0 dL_law_731 (by decide) ?_
    refine y_sld (j := 2) (v := 15) B0 hX hbl (by decide) e2.symm dL_law_732 ?_
    refine z_callM B0 (z_runV (q0 := 0) (As := [.int 4, .int 15]) (st := [.int 0]) B0 (c_X12_after_236 (a := a2) mS0  rfl rfl rfl rfl rfl rfl rfl rfl rfl rfl rfl rfl rfl rfl rfl rfl rfl rfl rfl rfl rfl rfl rfl rfl rfl rfl rfl) cf_X12_after (mw_0 cy a2 mS0) rfl wm_L_90 wi_X12_after ws_X12_after dL_law_733 rfl (Nat.le_of_ble_eq_true rfl) ⟨by decide, by decide, by decide, by decide⟩) (fun r2 u2 p2 => ?_)
    obtain ⟨rfl, -⟩ := p2
    refine z_icmp_eq_t (tgt := 1091) B0 dL_law_736 (by decide) rfl ?_
    exact fin u1 u2
  · obtain rfl : x2 = 16 := Int32.toInt_inj.mp (h2.trans (by decide))
    refine z_aload_n B0 dL_law_708 rfl rfl ?_
    refine z_aload_n B0 dL_law_709 rfl rfl ?_
    refine z_iload_n B0 dL_law_710 rfl rfl ?_
    refine z_iconst (v := 1) B0 dL_law_711 (by decide) ?_
    refine z_iadd (v := 1) B0 dL_law_712 (by decide) ?_
    refine y_sld (j := 1) (v := 4) B0 hX hbl (by decide) e1.symm dL_law_713 ?_
    refine z_aload_n B0 dL_law_714 rfl rfl ?_
    refine z_iload_n B0 dL_law_715 rfl rfl ?_
    refine z_iconst (v := 2) B0 dL_law_716 (by decide) ?_
    refine z_iadd (v := 2) B0 dL_law_717 (by decide) ?_
    refine y_sld (j := 2) (v := 16) B0 hX hbl (by decide) e2.symm dL_law_718 ?_
    refine z_callC B0 (z_runV (q0 := 0) (As := [.int 4, .int 16]) (st := []) B0 (c_X11_after_237 (a := a) (cS0 w)  rfl rfl rfl hrw) cf_X11_after (cw_0 cy tE a rw (cS0 w)) rfl wm_L_87 wi_X11_after ws_X11_after dL_law_719 rfl (Nat.le_of_ble_eq_true rfl) ⟨by decide, by decide, by decide, by decide⟩) (fun r1 u1 p1 => ?_)
    obtain ⟨rfl, -⟩ := p1
    refine z_aload_n B0 dL_law_722 rfl rfl ?_
    refine z_aload_n B0 dL_law_723 rfl rfl ?_
    refine z_iload_n B0 dL_law_724 rfl rfl ?_
    refine z_iconst (v := 1) B0 dL_law_725 (by decide) ?_
    refine z_iadd (v := 1) B0 dL_law_726 (by decide) ?_
    refine y_sld (j := 1) (v := 4) B0 hX hbl (by decide) e1.symm dL_law_727 ?_
    refine z_aload_n B0 dL_law_728 rfl rfl ?_
    refine z_iload_n B0 dL_law_729 rfl rfl ?_
    refine z_iconst (v := 2) B0 dL_law_730 (by decide) ?_
    refine z_iadd (v := 2) B0 dL_law_731 (by decide) ?_
    refine y_sld (j := 2) (v := 16) B0 hX hbl (by decide) e2.symm dL_law_732 ?_
    refine z_callM B0 (z_runV (q0 := 0) (As := [.int 4, .int 16]) (st := [.int 0]) B0 (c_X12_after_237 (a := a2) mS0  rfl rfl rfl rfl rfl rfl rfl rfl rfl rfl rfl rfl rfl rfl rfl rfl rfl rfl rfl rfl rfl rfl rfl rfl rfl rfl rfl) cf_X12_after (mw_0 cy a2 mS0) rfl wm_L_90 wi_X12_after ws_X12_after dL_law_733 rfl (Nat.le_of_ble_eq_true rfl) ⟨by decide, by decide, by decide, by decide⟩) (fun r2 u2 p2 => ?_)
    obtain ⟨rfl, -⟩ := p2
    refine z_icmp_eq_t (tgt := 1091) B0 dL_law_736 (by decide) rfl ?_
    exact fin u1 u2
  · obtain rfl : x2 = 17 := Int32.toInt_inj.mp (h2.trans (by decide))
    refine z_aload_n B0 dL_law_708 rfl rfl ?_
    refine z_aload_n B0 dL_law_709 rfl rfl ?_
    refine z_iload_n B0 dL_law_710 rfl rfl ?_
    refine z_iconst (v := 1) B0 dL_law_711 (by decide) ?_
    refine z_iadd (v := 1) B0 dL_law_712 (by decide) ?_
    refine y_sld (j := 1) (v := 4) B0 hX hbl (by decide) e1.symm dL_law_713 ?_
    refine z_aload_n B0 dL_law_714 rfl rfl ?_
    refine z_iload_n B0 dL_law_715 rfl rfl ?_
    refine z_iconst (v := 2) B0 dL_law_716 (by decide) ?_
    refine z_iadd (v := 2) B0 dL_law_717 (by decide) ?_
    refine y_sld (j := 2) (v := 17) B0 hX hbl (by decide) e2.symm dL_law_718 ?_
    refine z_callC B0 (z_runV (q0 := 0) (As := [.int 4, .int 17]) (st := []) B0 (c_X11_after_238 (a := a) (cS0 w)  rfl rfl rfl hrw) cf_X11_after (cw_0 cy tE a rw (cS0 w)) rfl wm_L_87 wi_X11_after ws_X11_after dL_law_719 rfl (Nat.le_of_ble_eq_true rfl) ⟨by decide, by decide, by decide, by decide⟩) (fun r1 u1 p1 => ?_)
    obtain ⟨rfl, -⟩ := p1
    refine z_aload_n B0 dL_law_722 rfl rfl ?_
    refine z_aload_n B0 dL_law_723 rfl rfl ?_
    refine z_iload_n B0 dL_law_724 rfl rfl ?_
    refine z_iconst (v := 1) B0 dL_law_725 (by decide) ?_
    refine z_iadd (v := 1) B0 dL_law_726 (by decide) ?_
    refine y_sld (j := 1) (v := 4) B0 hX hbl (by decide) e1.symm dL_law_727 ?_
    refine z_aload_n B0 dL_law_728 rfl rfl ?_
    refine z_iload_n B0 dL_law_729 rfl rfl ?_
    refine z_iconst (v := 2) B0 dL_law_730 (by decide) ?_
    refine z_iadd (v := 2) B0 dL_law_731 (by decide) ?_
    refine y_sld (j := 2) (v := 17) B0 hX hbl (by decide) e2.symm dL_law_732 ?_
    refine z_callM B0 (z_runV (q0 := 0) (As := [.int 4, .int 17]) (st := [.int 0]) B0 (c_X12_after_238 (a := a2) mS0  rfl rfl rfl rfl rfl rfl rfl rfl rfl rfl rfl rfl rfl rfl rfl rfl rfl rfl rfl rfl rfl rfl rfl rfl rfl rfl rfl) cf_X12_after (mw_0 cy a2 mS0) rfl wm_L_90 wi_X12_after ws_X12_after dL_law_733 rfl (Nat.le_of_ble_eq_true rfl) ⟨by decide, by decide, by decide, by decide⟩) (fun r2 u2 p2 => ?_)
    obtain ⟨rfl, -⟩ := p2
    refine z_icmp_eq_t (tgt := 1091) B0 dL_law_736 (by decide) rfl ?_
    exact fin u1 u2
  · obtain rfl : x2 = 18 := Int32.toInt_inj.mp (h2.trans (by decide))
    refine z_aload_n B0 dL_law_708 rfl rfl ?_
    refine z_aload_n B0 dL_law_709 rfl rfl ?_
    refine z_iload_n B0 dL_law_710 rfl rfl ?_
    refine z_iconst (v := 1) B0 dL_law_711 (by decide) ?_
    refine z_iadd (v := 1) B0 dL_law_712 (by decide) ?_
    refine y_sld (j := 1) (v := 4) B0 hX hbl (by decide) e1.symm dL_law_713 ?_
    refine z_aload_n B0 dL_law_714 rfl rfl ?_
    refine z_iload_n B0 dL_law_715 rfl rfl ?_
    refine z_iconst (v := 2) B0 dL_law_716 (by decide) ?_
    refine z_iadd (v := 2) B0 dL_law_717 (by decide) ?_
    refine y_sld (j := 2) (v := 18) B0 hX hbl (by decide) e2.symm dL_law_718 ?_
    refine z_callC B0 (z_runV (q0 := 0) (As := [.int 4, .int 18]) (st := []) B0 (c_X11_after_239 (a := a) (cS0 w)  ) cf_X11_after (cw_0 cy tE a rw (cS0 w)) rfl wm_L_87 wi_X11_after ws_X11_after dL_law_719 rfl (Nat.le_of_ble_eq_true rfl) ⟨by decide, by decide, by decide, by decide⟩) (fun r1 u1 p1 => ?_)
    obtain ⟨rfl, -⟩ := p1
    refine z_aload_n B0 dL_law_722 rfl rfl ?_
    refine z_aload_n B0 dL_law_723 rfl rfl ?_
    refine z_iload_n B0 dL_law_724 rfl rfl ?_
    refine z_iconst (v := 1) B0 dL_law_725 (by decide) ?_
    refine z_iadd (v := 1) B0 dL_law_726 (by decide) ?_
    refine y_sld (j := 1) (v := 4) B0 hX hbl (by decide) e1.symm dL_law_727 ?_
    refine z_aload_n B0 dL_law_728 rfl rfl ?_
    refine z_iload_n B0 dL_law_729 rfl rfl ?_
    refine z_iconst (v := 2) B0 dL_law_730 (by decide) ?_
    refine z_iadd (v := 2) B0 dL_law_731 (by decide) ?_
    refine y_sld (j := 2) (v := 18) B0 hX hbl (by decide) e2.symm dL_law_732 ?_
    refine z_callM B0 (z_runV (q0 := 0) (As := [.int 4, .int 18]) (st := [.int (-1)]) B0 (c_X12_after_239 (a := a2) mS0  rfl rfl rfl rfl rfl rfl rfl rfl rfl rfl rfl rfl rfl rfl rfl rfl rfl rfl rfl rfl rfl rfl rfl rfl rfl rfl rfl) cf_X12_after (mw_0 cy a2 mS0) rfl wm_L_90 wi_X12_after ws_X12_after dL_law_733 rfl (Nat.le_of_ble_eq_true rfl) ⟨by decide, by decide, by decide, by decide⟩) (fun r2 u2 p2 => ?_)
    obtain ⟨rfl, -⟩ := p2
    refine z_icmp_eq_t (tgt := 1091) B0 dL_law_736 (by decide) rfl ?_
    exact fin u1 u2
  · obtain rfl : x2 = 19 := Int32.toInt_inj.mp (h2.trans (by decide))
    refine z_aload_n B0 dL_law_708 rfl rfl ?_
    refine z_aload_n B0 dL_law_709 rfl rfl ?_
    refine z_iload_n B0 dL_law_710 rfl rfl ?_
    refine z_iconst (v := 1) B0 dL_law_711 (by decide) ?_
    refine z_iadd (v := 1) B0 dL_law_712 (by decide) ?_
    refine y_sld (j := 1) (v := 4) B0 hX hbl (by decide) e1.symm dL_law_713 ?_
    refine z_aload_n B0 dL_law_714 rfl rfl ?_
    refine z_iload_n B0 dL_law_715 rfl rfl ?_
    refine z_iconst (v := 2) B0 dL_law_716 (by decide) ?_
    refine z_iadd (v := 2) B0 dL_law_717 (by decide) ?_
    refine y_sld (j := 2) (v := 19) B0 hX hbl (by decide) e2.symm dL_law_718 ?_
    refine z_callC B0 (z_runV (q0 := 0) (As := [.int 4, .int 19]) (st := []) B0 (c_X11_after_240 (a := a) (cS0 w)  ) cf_X11_after (cw_0 cy tE a rw (cS0 w)) rfl wm_L_87 wi_X11_after ws_X11_after dL_law_719 rfl (Nat.le_of_ble_eq_true rfl) ⟨by decide, by decide, by decide, by decide⟩) (fun r1 u1 p1 => ?_)
    obtain ⟨rfl, -⟩ := p1
    refine z_aload_n B0 dL_law_722 rfl rfl ?_
    refine z_aload_n B0 dL_law_723 rfl rfl ?_
    refine z_iload_n B0 dL_law_724 rfl rfl ?_
    refine z_iconst (v := 1) B0 dL_law_725 (by decide) ?_
    refine z_iadd (v := 1) B0 dL_law_726 (by decide) ?_
    refine y_sld (j := 1) (v := 4) B0 hX hbl (by decide) e1.symm dL_law_727 ?_
    refine z_aload_n B0 dL_law_728 rfl rfl ?_
    refine z_iload_n B0 dL_law_729 rfl rfl ?_
    refine z_iconst (v := 2) B0 dL_law_730 (by decide) ?_
    refine z_iadd (v := 2) B0 dL_law_731 (by decide) ?_
    refine y_sld (j := 2) (v := 19) B0 hX hbl (by decide) e2.symm dL_law_732 ?_
    refine z_callM B0 (z_runV (q0 := 0) (As := [.int 4, .int 19]) (st := [.int (-1)]) B0 (c_X12_after_240 (a := a2) mS0  rfl rfl rfl rfl rfl rfl rfl rfl rfl rfl rfl rfl rfl rfl rfl rfl rfl rfl rfl rfl rfl rfl rfl rfl rfl rfl rfl) cf_X12_after (mw_0 cy a2 mS0) rfl wm_L_90 wi_X12_after ws_X12_after dL_law_733 rfl (Nat.le_of_ble_eq_true rfl) ⟨by decide, by decide, by decide, by decide⟩) (fun r2 u2 p2 => ?_)
    obtain ⟨rfl, -⟩ := p2
    refine z_icmp_eq_t (tgt := 1091) B0 dL_law_736 (by decide) rfl ?_
    exact fin u1 u2
  · obtain rfl : x2 = 20 := Int32.toInt_inj.mp (h2.trans (by decide))
    refine z_aload_n B0 dL_law_708 rfl rfl ?_
    refine z_aload_n B0 dL_law_709 rfl rfl ?_
    refine z_iload_n B0 dL_law_710 rfl rfl ?_
    refine z_iconst (v := 1) B0 dL_law_711 (by decide) ?_
    refine z_iadd (v := 1) B0 dL_law_712 (by decide) ?_
    refine y_sld (j := 1) (v := 4) B0 hX hbl (by decide) e1.symm dL_law_713 ?_
    refine z_aload_n B0 dL_law_714 rfl rfl ?_
    refine z_iload_n B0 dL_law_715 rfl rfl ?_
    refine z_iconst (v := 2) B0 dL_law_716 (by decide) ?_
    refine z_iadd (v := 2) B0 dL_law_717 (by decide) ?_
    refine y_sld (j := 2) (v := 20) B0 hX hbl (by decide) e2.symm dL_law_718 ?_
    refine z_callC B0 (z_runV (q0 := 0) (As := [.int 4, .int 20]) (st := []) B0 (c_X11_after_241 (a := a) (cS0 w)  ) cf_X11_after (cw_0 cy tE a rw (cS0 w)) rfl wm_L_87 wi_X11_after ws_X11_after dL_law_719 rfl (Nat.le_of_ble_eq_true rfl) ⟨by decide, by decide, by decide, by decide⟩) (fun r1 u1 p1 => ?_)
    obtain ⟨rfl, -⟩ := p1
    refine z_aload_n B0 dL_law_722 rfl rfl ?_
    refine z_aload_n B0 dL_law_723 rfl rfl ?_
    refine z_iload_n B0 dL_law_724 rfl rfl ?_
    refine z_iconst (v := 1) B0 dL_law_725 (by decide) ?_
    refine z_iadd (v := 1) B0 dL_law_726 (by decide) ?_
    refine y_sld (j := 1) (v := 4) B0 hX hbl (by decide) e1.symm dL_law_727 ?_
    refine z_aload_n B0 dL_law_728 rfl rfl ?_
    refine z_iload_n B0 dL_law_729 rfl rfl ?_
    refine z_iconst (v := 2) B0 dL_law_730 (by decide) ?_
    refine z_iadd (v := 2) B0 dL_law_731 (by decide) ?_
    refine y_sld (j := 2) (v := 20) B0 hX hbl (by decide) e2.symm dL_law_732 ?_
    refine z_callM B0 (z_runV (q0 := 0) (As := [.int 4, .int 20]) (st := [.int (-1)]) B0 (c_X12_after_241 (a := a2) mS0  rfl rfl rfl rfl rfl rfl rfl rfl rfl rfl rfl rfl rfl rfl rfl rfl rfl rfl rfl rfl rfl rfl rfl rfl rfl rfl rfl) cf_X12_after (mw_0 cy a2 mS0) rfl wm_L_90 wi_X12_after ws_X12_after dL_law_733 rfl (Nat.le_of_ble_eq_true rfl) ⟨by decide, by decide, by decide, by decide⟩) (fun r2 u2 p2 => ?_)
    obtain ⟨rfl, -⟩ := p2
    refine z_icmp_eq_t (tgt := 1091) B0 dL_law_736 (by decide) rfl ?_
    exact fin u1 u2
  · obtain rfl : x2 = 21 := Int32.toInt_inj.mp (h2.trans (by decide))
    refine z_aload_n B0 dL_law_708 rfl rfl ?_
    refine z_aload_n B0 dL_law_709 rfl rfl ?_
    refine z_iload_n B0 dL_law_710 rfl rfl ?_
    refine z_iconst (v := 1) B0 dL_law_711 (by decide) ?_
    refine z_iadd (v := 1) B0 dL_law_712 (by decide) ?_
    refine y_sld (j := 1) (v := 4) B0 hX hbl (by decide) e1.symm dL_law_713 ?_
    refine z_aload_n B0 dL_law_714 rfl rfl ?_
    refine z_iload_n B0 dL_law_715 rfl rfl ?_
    refine z_iconst (v := 2) B0 dL_law_716 (by decide) ?_
    refine z_iadd (v := 2) B0 dL_law_717 (by decide) ?_
    refine y_sld (j := 2) (v := 21) B0 hX hbl (by decide) e2.symm dL_law_718 ?_
    refine z_callC B0 (z_runV (q0 := 0) (As := [.int 4, .int 21]) (st := []) B0 (c_X11_after_242 (a := a) (cS0 w)  rfl rfl rfl hrw) cf_X11_after (cw_0 cy tE a rw (cS0 w)) rfl wm_L_87 wi_X11_after ws_X11_after dL_law_719 rfl (Nat.le_of_ble_eq_true rfl) ⟨by decide, by decide, by decide, by decide⟩) (fun r1 u1 p1 => ?_)
    obtain ⟨rfl, -⟩ := p1
    refine z_aload_n B0 dL_law_722 rfl rfl ?_
    refine z_aload_n B0 dL_law_723 rfl rfl ?_
    refine z_iload_n B0 dL_law_724 rfl rfl ?_
    refine z_iconst (v := 1) B0 dL_law_725 (by decide) ?_
    refine z_iadd (v := 1) B0 dL_law_726 (by decide) ?_
    refine y_sld (j := 1) (v := 4) B0 hX hbl (by decide) e1.symm dL_law_727 ?_
    refine z_aload_n B0 dL_law_728 rfl rfl ?_
    refine z_iload_n B0 dL_law_729 rfl rfl ?_
    refine z_iconst (v := 2) B0 dL_law_730 (by decide) ?_
    refine z_iadd (v := 2) B0 dL_law_731 (by decide) ?_
    refine y_sld (j := 2) (v := 21) B0 hX hbl (by decide) e2.symm dL_law_732 ?_
    refine z_callM B0 (z_runV (q0 := 0) (As := [.int 4, .int 21]) (st := [.int 0]) B0 (c_X12_after_242 (a := a2) mS0  rfl rfl rfl rfl rfl rfl rfl rfl rfl rfl rfl rfl rfl rfl rfl rfl rfl rfl rfl rfl rfl rfl rfl rfl rfl rfl rfl) cf_X12_after (mw_0 cy a2 mS0) rfl wm_L_90 wi_X12_after ws_X12_after dL_law_733 rfl (Nat.le_of_ble_eq_true rfl) ⟨by decide, by decide, by decide, by decide⟩) (fun r2 u2 p2 => ?_)
    obtain ⟨rfl, -⟩ := p2
    refine z_icmp_eq_t (tgt := 1091) B0 dL_law_736 (by decide) rfl ?_
    exact fin u1 u2
  · obtain rfl : x2 = 22 := Int32.toInt_inj.mp (h2.trans (by decide))
    refine z_aload_n B0 dL_law_708 rfl rfl ?_
    refine z_aload_n B0 dL_law_709 rfl rfl ?_
    refine z_iload_n B0 dL_law_710 rfl rfl ?_
    refine z_iconst (v := 1) B0 dL_law_711 (by decide) ?_
    refine z_iadd (v := 1) B0 dL_law_712 (by decide) ?_
    refine y_sld (j := 1) (v := 4) B0 hX hbl (by decide) e1.symm dL_law_713 ?_
    refine z_aload_n B0 dL_law_714 rfl rfl ?_
    refine z_iload_n B0 dL_law_715 rfl rfl ?_
    refine z_iconst (v := 2) B0 dL_law_716 (by decide) ?_
    refine z_iadd (v := 2) B0 dL_law_717 (by decide) ?_
    refine y_sld (j := 2) (v := 22) B0 hX hbl (by decide) e2.symm dL_law_718 ?_
    refine z_callC B0 (z_runV (q0 := 0) (As := [.int 4, .int 22]) (st := []) B0 (c_X11_after_243 (a := a) (cS0 w)  rfl rfl rfl hrw) cf_X11_after (cw_0 cy tE a rw (cS0 w)) rfl wm_L_87 wi_X11_after ws_X11_after dL_law_719 rfl (Nat.le_of_ble_eq_true rfl) ⟨by decide, by decide, by decide, by decide⟩) (fun r1 u1 p1 => ?_)
    obtain ⟨rfl, -⟩ := p1
    refine z_aload_n B0 dL_law_722 rfl rfl ?_
    refine z_aload_n B0 dL_law_723 rfl rfl ?_
    refine z_iload_n B0 dL_law_724 rfl rfl ?_
    refine z_iconst (v := 1) B0 dL_law_725 (by decide) ?_
    refine z_iadd (v := 1) B0 dL_law_726 (by decide) ?_
    refine y_sld (j := 1) (v := 4) B0 hX hbl (by decide) e1.symm dL_law_727 ?_
    refine z_aload_n B0 dL_law_728 rfl rfl ?_
    refine z_iload_n B0 dL_law_729 rfl rfl ?_
    refine z_iconst (v := 2) B0 dL_law_730 (by decide) ?_
    refine z_iadd (v := 2) B0 dL_law_731 (by decide) ?_
    refine y_sld (j := 2) (v := 22) B0 hX hbl (by decide) e2.symm dL_law_732 ?_
    refine z_callM B0 (z_runV (q0 := 0) (As := [.int 4, .int 22]) (st := [.int 0]) B0 (c_X12_after_243 (a := a2) mS0  rfl rfl rfl rfl rfl rfl rfl rfl rfl rfl rfl rfl rfl rfl rfl rfl rfl rfl rfl rfl rfl rfl rfl rfl rfl rfl rfl) cf_X12_after (mw_0 cy a2 mS0) rfl wm_L_90 wi_X12_after ws_X12_after dL_law_733 rfl (Nat.le_of_ble_eq_true rfl) ⟨by decide, by decide, by decide, by decide⟩) (fun r2 u2 p2 => ?_)
    obtain ⟨rfl, -⟩ := p2
    refine z_icmp_eq_t (tgt := 1091) B0 dL_law_736 (by decide) rfl ?_
    exact fin u1 u2
  · obtain rfl : x2 = 23 := Int32.toInt_inj.mp (h2.trans (by decide))
    refine z_aload_n B0 dL_law_708 rfl rfl ?_
    refine z_aload_n B0 dL_law_709 rfl rfl ?_
    refine z_iload_n B0 dL_law_710 rfl rfl ?_
    refine z_iconst (v := 1) B0 dL_law_711 (by decide) ?_
    refine z_iadd (v := 1) B0 dL_law_712 (by decide) ?_
    refine y_sld (j := 1) (v := 4) B0 hX hbl (by decide) e1.symm dL_law_713 ?_
    refine z_aload_n B0 dL_law_714 rfl rfl ?_
    refine z_iload_n B0 dL_law_715 rfl rfl ?_
    refine z_iconst (v := 2) B0 dL_law_716 (by decide) ?_
    refine z_iadd (v := 2) B0 dL_law_717 (by decide) ?_
    refine y_sld (j := 2) (v := 23) B0 hX hbl (by decide) e2.symm dL_law_718 ?_
    refine z_callC B0 (z_runV (q0 := 0) (As := [.int 4, .int 23]) (st := []) B0 (c_X11_after_244 (a := a) (cS0 w)  rfl rfl rfl hrw) cf_X11_after (cw_0 cy tE a rw (cS0 w)) rfl wm_L_87 wi_X11_after ws_X11_after dL_law_719 rfl (Nat.le_of_ble_eq_true rfl) ⟨by decide, by decide, by decide, by decide⟩) (fun r1 u1 p1 => ?_)
    obtain ⟨rfl, -⟩ := p1
    refine z_aload_n B0 dL_law_722 rfl rfl ?_
    refine z_aload_n B0 dL_law_723 rfl rfl ?_
    refine z_iload_n B0 dL_law_724 rfl rfl ?_
    refine z_iconst (v := 1) B0 dL_law_725 (by decide) ?_
    refine z_iadd (v := 1) B0 dL_law_726 (by decide) ?_
    refine y_sld (j := 1) (v := 4) B0 hX hbl (by decide) e1.symm dL_law_727 ?_
    refine z_aload_n B0 dL_law_728 rfl rfl ?_
    refine z_iload_n B0 dL_law_729 rfl rfl ?_
    refine z_iconst (v := 2) B0 dL_law_730 (by decide) ?_
    refine z_iadd (v := 2) B0 dL_law_731 (by decide) ?_
    refine y_sld (j := 2) (v := 23) B0 hX hbl (by decide) e2.symm dL_law_732 ?_
    refine z_callM B0 (z_runV (q0 := 0) (As := [.int 4, .int 23]) (st := [.int 0]) B0 (c_X12_after_244 (a := a2) mS0  rfl rfl rfl rfl rfl rfl rfl rfl rfl rfl rfl rfl rfl rfl rfl rfl rfl rfl rfl rfl rfl rfl rfl rfl rfl rfl rfl) cf_X12_after (mw_0 cy a2 mS0) rfl wm_L_90 wi_X12_after ws_X12_after dL_law_733 rfl (Nat.le_of_ble_eq_true rfl) ⟨by decide, by decide, by decide, by decide⟩) (fun r2 u2 p2 => ?_)
    obtain ⟨rfl, -⟩ := p2
    refine z_icmp_eq_t (tgt := 1091) B0 dL_law_736 (by decide) rfl ?_
    exact fin u1 u2
  · obtain rfl : x2 = 24 := Int32.toInt_inj.mp (h2.trans (by decide))
    refine z_aload_n B0 dL_law_708 rfl rfl ?_
    refine z_aload_n B0 dL_law_709 rfl rfl ?_
    refine z_iload_n B0 dL_law_710 rfl rfl ?_
    refine z_iconst (v := 1) B0 dL_law_711 (by decide) ?_
    refine z_iadd (v := 1) B0 dL_law_712 (by decide) ?_
    refine y_sld (j := 1) (v := 4) B0 hX hbl (by decide) e1.symm dL_law_713 ?_
    refine z_aload_n B0 dL_law_714 rfl rfl ?_
    refine z_iload_n B0 dL_law_715 rfl rfl ?_
    refine z_iconst (v := 2) B0 dL_law_716 (by decide) ?_
    refine z_iadd (v := 2) B0 dL_law_717 (by decide) ?_
    refine y_sld (j := 2) (v := 24) B0 hX hbl (by decide) e2.symm dL_law_718 ?_
    refine z_callC B0 (z_runV (q0 := 0) (As := [.int 4, .int 24]) (st := []) B0 (c_X11_after_245 (a := a) (cS0 w)  ) cf_X11_after (cw_0 cy tE a rw (cS0 w)) rfl wm_L_87 wi_X11_after ws_X11_after dL_law_719 rfl (Nat.le_of_ble_eq_true rfl) ⟨by decide, by decide, by decide, by decide⟩) (fun r1 u1 p1 => ?_)
    obtain ⟨rfl, -⟩ := p1
    refine z_aload_n B0 dL_law_722 rfl rfl ?_
    refine z_aload_n B0 dL_law_723 rfl rfl ?_
    refine z_iload_n B0 dL_law_724 rfl rfl ?_
    refine z_iconst (v := 1) B0 dL_law_725 (by decide) ?_
    refine z_iadd (v := 1) B0 dL_law_726 (by decide) ?_
    refine y_sld (j := 1) (v := 4) B0 hX hbl (by decide) e1.symm dL_law_727 ?_
    refine z_aload_n B0 dL_law_728 rfl rfl ?_
    refine z_iload_n B0 dL_law_729 rfl rfl ?_
    refine z_iconst (v := 2) B0 dL_law_730 (by decide) ?_
    refine z_iadd (v := 2) B0 dL_law_731 (by decide) ?_
    refine y_sld (j := 2) (v := 24) B0 hX hbl (by decide) e2.symm dL_law_732 ?_
    refine z_callM B0 (z_runV (q0 := 0) (As := [.int 4, .int 24]) (st := [.int (-1)]) B0 (c_X12_after_245 (a := a2) mS0  rfl rfl rfl rfl rfl rfl rfl rfl rfl rfl rfl rfl rfl rfl rfl rfl rfl rfl rfl rfl rfl rfl rfl rfl rfl rfl rfl) cf_X12_after (mw_0 cy a2 mS0) rfl wm_L_90 wi_X12_after ws_X12_after dL_law_733 rfl (Nat.le_of_ble_eq_true rfl) ⟨by decide, by decide, by decide, by decide⟩) (fun r2 u2 p2 => ?_)
    obtain ⟨rfl, -⟩ := p2
    refine z_icmp_eq_t (tgt := 1091) B0 dL_law_736 (by decide) rfl ?_
    exact fin u1 u2
  · obtain rfl : x2 = 25 := Int32.toInt_inj.mp (h2.trans (by decide))
    refine z_aload_n B0 dL_law_708 rfl rfl ?_
    refine z_aload_n B0 dL_law_709 rfl rfl ?_
    refine z_iload_n B0 dL_law_710 rfl rfl ?_
    refine z_iconst (v := 1) B0 dL_law_711 (by decide) ?_
    refine z_iadd (v := 1) B0 dL_law_712 (by decide) ?_
    refine y_sld (j := 1) (v := 4) B0 hX hbl (by decide) e1.symm dL_law_713 ?_
    refine z_aload_n B0 dL_law_714 rfl rfl ?_
    refine z_iload_n B0 dL_law_715 rfl rfl ?_
    refine z_iconst (v := 2) B0 dL_law_716 (by decide) ?_
    refine z_iadd (v := 2) B0 dL_law_717 (by decide) ?_
    refine y_sld (j := 2) (v := 25) B0 hX hbl (by decide) e2.symm dL_law_718 ?_
    refine z_callC B0 (z_runV (q0 := 0) (As := [.int 4, .int 25]) (st := []) B0 (c_X11_after_246 (a := a) (cS0 w)  rfl rfl rfl hrw) cf_X11_after (cw_0 cy tE a rw (cS0 w)) rfl wm_L_87 wi_X11_after ws_X11_after dL_law_719 rfl (Nat.le_of_ble_eq_true rfl) ⟨by decide, by decide, by decide, by decide⟩) (fun r1 u1 p1 => ?_)
    obtain ⟨rfl, -⟩ := p1
    refine z_aload_n B0 dL_law_722 rfl rfl ?_
    refine z_aload_n B0 dL_law_723 rfl rfl ?_
    refine z_iload_n B0 dL_law_724 rfl rfl ?_
    refine z_iconst (v := 1) B0 dL_law_725 (by decide) ?_
    refine z_iadd (v := 1) B0 dL_law_726 (by decide) ?_
    refine y_sld (j := 1) (v := 4) B0 hX hbl (by decide) e1.symm dL_law_727 ?_
    refine z_aload_n B0 dL_law_728 rfl rfl ?_
    refine z_iload_n B0 dL_law_729 rfl rfl ?_
    refine z_iconst (v := 2) B0 dL_law_730 (by decide) ?_
    refine z_iadd (v := 2) B0 dL_law_731 (by decide) ?_
    refine y_sld (j := 2) (v := 25) B0 hX hbl (by decide) e2.symm dL_law_732 ?_
    refine z_callM B0 (z_runV (q0 := 0) (As := [.int 4, .int 25]) (st := [.int 0]) B0 (c_X12_after_246 (a := a2) mS0  rfl rfl rfl rfl rfl rfl rfl rfl rfl rfl rfl rfl rfl rfl rfl rfl rfl rfl rfl rfl rfl rfl rfl rfl rfl rfl rfl) cf_X12_after (mw_0 cy a2 mS0) rfl wm_L_90 wi_X12_after ws_X12_after dL_law_733 rfl (Nat.le_of_ble_eq_true rfl) ⟨by decide, by decide, by decide, by decide⟩) (fun r2 u2 p2 => ?_)
    obtain ⟨rfl, -⟩ := p2
    refine z_icmp_eq_t (tgt := 1091) B0 dL_law_736 (by decide) rfl ?_
    exact fin u1 u2
  · obtain rfl : x2 = 26 := Int32.toInt_inj.mp (h2.trans (by decide))
    refine z_aload_n B0 dL_law_708 rfl rfl ?_
    refine z_aload_n B0 dL_law_709 rfl rfl ?_
    refine z_iload_n B0 dL_law_710 rfl rfl ?_
    refine z_iconst (v := 1) B0 dL_law_711 (by decide) ?_
    refine z_iadd (v := 1) B0 dL_law_712 (by decide) ?_
    refine y_sld (j := 1) (v := 4) B0 hX hbl (by decide) e1.symm dL_law_713 ?_
    refine z_aload_n B0 dL_law_714 rfl rfl ?_
    refine z_iload_n B0 dL_law_715 rfl rfl ?_
    refine z_iconst (v := 2) B0 dL_law_716 (by decide) ?_
    refine z_iadd (v := 2) B0 dL_law_717 (by decide) ?_
    refine y_sld (j := 2) (v := 26) B0 hX hbl (by decide) e2.symm dL_law_718 ?_
    refine z_callC B0 (z_runV (q0 := 0) (As := [.int 4, .int 26]) (st := []) B0 (c_X11_after_247 (a := a) (cS0 w)  rfl rfl rfl hrw) cf_X11_after (cw_0 cy tE a rw (cS0 w)) rfl wm_L_87 wi_X11_after ws_X11_after dL_law_719 rfl (Nat.le_of_ble_eq_true rfl) ⟨by decide, by decide, by decide, by decide⟩) (fun r1 u1 p1 => ?_)
    obtain ⟨rfl, -⟩ := p1
    refine z_aload_n B0 dL_law_722 rfl rfl ?_
    refine z_aload_n B0 dL_law_723 rfl rfl ?_
    refine z_iload_n B0 dL_law_724 rfl rfl ?_
    refine z_iconst (v := 1) B0 dL_law_725 (by decide) ?_
    refine z_iadd (v := 1) B0 dL_law_726 (by decide) ?_
    refine y_sld (j := 1) (v := 4) B0 hX hbl (by decide) e1.symm dL_law_727 ?_
    refine z_aload_n B0 dL_law_728 rfl rfl ?_
    refine z_iload_n B0 dL_law_729 rfl rfl ?_
    refine z_iconst (v := 2) B0 dL_law_730 (by decide) ?_
    refine z_iadd (v := 2) B0 dL_law_731 (by decide) ?_
    refine y_sld (j := 2) (v := 26) B0 hX hbl (by decide) e2.symm dL_law_732 ?_
    refine z_callM B0 (z_runV (q0 := 0) (As := [.int 4, .int 26]) (st := [.int 0]) B0 (c_X12_after_247 (a := a2) mS0  rfl rfl rfl rfl rfl rfl rfl rfl rfl rfl rfl rfl rfl rfl rfl rfl rfl rfl rfl rfl rfl rfl rfl rfl rfl rfl rfl) cf_X12_after (mw_0 cy a2 mS0) rfl wm_L_90 wi_X12_after ws_X12_after dL_law_733 rfl (Nat.le_of_ble_eq_true rfl) ⟨by decide, by decide, by decide, by decide⟩) (fun r2 u2 p2 => ?_)
    obtain ⟨rfl, -⟩ := p2
    refine z_icmp_eq_t (tgt := 1091) B0 dL_law_736 (by decide) rfl ?_
    exact fin u1 u2
  · obtain rfl : x2 = 27 := Int32.toInt_inj.mp (h2.trans (by decide))
    refine z_aload_n B0 dL_law_708 rfl rfl ?_
    refine z_aload_n B0 dL_law_709 rfl rfl ?_
    refine z_iload_n B0 dL_law_710 rfl rfl ?_
    refine z_iconst (v := 1) B0 dL_law_711 (by decide) ?_
    refine z_iadd (v := 1) B0 dL_law_712 (by decide) ?_
    refine y_sld (j := 1) (v := 4) B0 hX hbl (by decide) e1.symm dL_law_713 ?_
    refine z_aload_n B0 dL_law_714 rfl rfl ?_
    refine z_iload_n B0 dL_law_715 rfl rfl ?_
    refine z_iconst (v := 2) B0 dL_law_716 (by decide) ?_
    refine z_iadd (v := 2) B0 dL_law_717 (by decide) ?_
    refine y_sld (j := 2) (v := 27) B0 hX hbl (by decide) e2.symm dL_law_718 ?_
    refine z_callC B0 (z_runV (q0 := 0) (As := [.int 4, .int 27]) (st := []) B0 (c_X11_after_248 (a := a) (cS0 w)  rfl rfl rfl hrw) cf_X11_after (cw_0 cy tE a rw (cS0 w)) rfl wm_L_87 wi_X11_after ws_X11_after dL_law_719 rfl (Nat.le_of_ble_eq_true rfl) ⟨by decide, by decide, by decide, by decide⟩) (fun r1 u1 p1 => ?_)
    obtain ⟨rfl, -⟩ := p1
    refine z_aload_n B0 dL_law_722 rfl rfl ?_
    refine z_aload_n B0 dL_law_723 rfl rfl ?_
    refine z_iload_n B0 dL_law_724 rfl rfl ?_
    refine z_iconst (v := 1) B0 dL_law_725 (by decide) ?_
    refine z_iadd (v := 1) B0 dL_law_726 (by decide) ?_
    refine y_sld (j := 1) (v := 4) B0 hX hbl (by decide) e1.symm dL_law_727 ?_
    refine z_aload_n B0 dL_law_728 rfl rfl ?_
    refine z_iload_n B0 dL_law_729 rfl rfl ?_
    refine z_iconst (v := 2) B0 dL_law_730 (by decide) ?_
    refine z_iadd (v := 2) B0 dL_law_731 (by decide) ?_
    refine y_sld (j := 2) (v := 27) B0 hX hbl (by decide) e2.symm dL_law_732 ?_
    refine z_callM B0 (z_runV (q0 := 0) (As := [.int 4, .int 27]) (st := [.int 0]) B0 (c_X12_after_248 (a := a2) mS0  rfl rfl rfl rfl rfl rfl rfl rfl rfl rfl rfl rfl rfl rfl rfl rfl rfl rfl rfl rfl rfl rfl rfl rfl rfl rfl rfl) cf_X12_after (mw_0 cy a2 mS0) rfl wm_L_90 wi_X12_after ws_X12_after dL_law_733 rfl (Nat.le_of_ble_eq_true rfl) ⟨by decide, by decide, by decide, by decide⟩) (fun r2 u2 p2 => ?_)
    obtain ⟨rfl, -⟩ := p2
    refine z_icmp_eq_t (tgt := 1091) B0 dL_law_736 (by decide) rfl ?_
    exact fin u1 u2
  · obtain rfl : x2 = 28 := Int32.toInt_inj.mp (h2.trans (by decide))
    refine z_aload_n B0 dL_law_708 rfl rfl ?_
    refine z_aload_n B0 dL_law_709 rfl rfl ?_
    refine z_iload_n B0 dL_law_710 rfl rfl ?_
    refine z_iconst (v := 1) B0 dL_law_711 (by decide) ?_
    refine z_iadd (v := 1) B0 dL_law_712 (by decide) ?_
    refine y_sld (j := 1) (v := 4) B0 hX hbl (by decide) e1.symm dL_law_713 ?_
    refine z_aload_n B0 dL_law_714 rfl rfl ?_
    refine z_iload_n B0 dL_law_715 rfl rfl ?_
    refine z_iconst (v := 2) B0 dL_law_716 (by decide) ?_
    refine z_iadd (v := 2) B0 dL_law_717 (by decide) ?_
    refine y_sld (j := 2) (v := 28) B0 hX hbl (by decide) e2.symm dL_law_718 ?_
    refine z_callC B0 (z_runV (q0 := 0) (As := [.int 4, .int 28]) (st := []) B0 (c_X11_after_249 (a := a) (cS0 w)  ) cf_X11_after (cw_0 cy tE a rw (cS0 w)) rfl wm_L_87 wi_X11_after ws_X11_after dL_law_719 rfl (Nat.le_of_ble_eq_true rfl) ⟨by decide, by decide, by decide, by decide⟩) (fun r1 u1 p1 => ?_)
    obtain ⟨rfl, -⟩ := p1
    refine z_aload_n B0 dL_law_722 rfl rfl ?_
    refine z_aload_n B0 dL_law_723 rfl rfl ?_
    refine z_iload_n B0 dL_law_724 rfl rfl ?_
    refine z_iconst (v := 1) B0 dL_law_725 (by decide) ?_
    refine z_iadd (v := 1) B0 dL_law_726 (by decide) ?_
    refine y_sld (j := 1) (v := 4) B0 hX hbl (by decide) e1.symm dL_law_727 ?_
    refine z_aload_n B0 dL_law_728 rfl rfl ?_
    refine z_iload_n B0 dL_law_729 rfl rfl ?_
    refine z_iconst (v := 2) B0 dL_law_730 (by decide) ?_
    refine z_iadd (v := 2) B0 dL_law_731 (by decide) ?_
    refine y_sld (j := 2) (v := 28) B0 hX hbl (by decide) e2.symm dL_law_732 ?_
    refine z_callM B0 (z_runV (q0 := 0) (As := [.int 4, .int 28]) (st := [.int (-1)]) B0 (c_X12_after_249 (a := a2) mS0  rfl rfl rfl rfl rfl rfl rfl rfl rfl rfl rfl rfl rfl rfl rfl rfl rfl rfl rfl rfl rfl rfl rfl rfl rfl rfl rfl) cf_X12_after (mw_0 cy a2 mS0) rfl wm_L_90 wi_X12_after ws_X12_after dL_law_733 rfl (Nat.le_of_ble_eq_true rfl) ⟨by decide, by decide, by decide, by decide⟩) (fun r2 u2 p2 => ?_)
    obtain ⟨rfl, -⟩ := p2
    refine z_icmp_eq_t (tgt := 1091) B0 dL_law_736 (by decide) rfl ?_
    exact fin u1 u2
  · obtain rfl : x2 = 29 := Int32.toInt_inj.mp (h2.trans (by decide))
    refine z_aload_n B0 dL_law_708 rfl rfl ?_
    refine z_aload_n B0 dL_law_709 rfl rfl ?_
    refine z_iload_n B0 dL_law_710 rfl rfl ?_
    refine z_iconst (v := 1) B0 dL_law_711 (by decide) ?_
    refine z_iadd (v := 1) B0 dL_law_712 (by decide) ?_
    refine y_sld (j := 1) (v := 4) B0 hX hbl (by decide) e1.symm dL_law_713 ?_
    refine z_aload_n B0 dL_law_714 rfl rfl ?_
    refine z_iload_n B0 dL_law_715 rfl rfl ?_
    refine z_iconst (v := 2) B0 dL_law_716 (by decide) ?_
    refine z_iadd (v := 2) B0 dL_law_717 (by decide) ?_
    refine y_sld (j := 2) (v := 29) B0 hX hbl (by decide) e2.symm dL_law_718 ?_
    refine z_callC B0 (z_runV (q0 := 0) (As := [.int 4, .int 29]) (st := []) B0 (c_X11_after_250 (a := a) (cS0 w)  ) cf_X11_after (cw_0 cy tE a rw (cS0 w)) rfl wm_L_87 wi_X11_after ws_X11_after dL_law_719 rfl (Nat.le_of_ble_eq_true rfl) ⟨by decide, by decide, by decide, by decide⟩) (fun r1 u1 p1 => ?_)
    obtain ⟨rfl, -⟩ := p1
    refine z_aload_n B0 dL_law_722 rfl rfl ?_
    refine z_aload_n B0 dL_law_723 rfl rfl ?_
    refine z_iload_n B0 dL_law_724 rfl rfl ?_
    refine z_iconst (v := 1) B0 dL_law_725 (by decide) ?_
    refine z_iadd (v := 1) B0 dL_law_726 (by decide) ?_
    refine y_sld (j := 1) (v := 4) B0 hX hbl (by decide) e1.symm dL_law_727 ?_
    refine z_aload_n B0 dL_law_728 rfl rfl ?_
    refine z_iload_n B0 dL_law_729 rfl rfl ?_
    refine z_iconst (v := 2) B0 dL_law_730 (by decide) ?_
    refine z_iadd (v := 2) B0 dL_law_731 (by decide) ?_
    refine y_sld (j := 2) (v := 29) B0 hX hbl (by decide) e2.symm dL_law_732 ?_
    refine z_callM B0 (z_runV (q0 := 0) (As := [.int 4, .int 29]) (st := [.int (-1)]) B0 (c_X12_after_250 (a := a2) mS0  rfl rfl rfl rfl rfl rfl rfl rfl rfl rfl rfl rfl rfl rfl rfl rfl rfl rfl rfl rfl rfl rfl rfl rfl rfl rfl rfl) cf_X12_after (mw_0 cy a2 mS0) rfl wm_L_90 wi_X12_after ws_X12_after dL_law_733 rfl (Nat.le_of_ble_eq_true rfl) ⟨by decide, by decide, by decide, by decide⟩) (fun r2 u2 p2 => ?_)
    obtain ⟨rfl, -⟩ := p2
    refine z_icmp_eq_t (tgt := 1091) B0 dL_law_736 (by decide) rfl ?_
    exact fin u1 u2
  · obtain rfl : x2 = 30 := Int32.toInt_inj.mp (h2.trans (by decide))
    refine z_aload_n B0 dL_law_708 rfl rfl ?_
    refine z_aload_n B0 dL_law_709 rfl rfl ?_
    refine z_iload_n B0 dL_law_710 rfl rfl ?_
    refine z_iconst (v := 1) B0 dL_law_711 (by decide) ?_
    refine z_iadd (v := 1) B0 dL_law_712 (by decide) ?_
    refine y_sld (j := 1) (v := 4) B0 hX hbl (by decide) e1.symm dL_law_713 ?_
    refine z_aload_n B0 dL_law_714 rfl rfl ?_
    refine z_iload_n B0 dL_law_715 rfl rfl ?_
    refine z_iconst (v := 2) B0 dL_law_716 (by decide) ?_
    refine z_iadd (v := 2) B0 dL_law_717 (by decide) ?_
    refine y_sld (j := 2) (v := 30) B0 hX hbl (by decide) e2.symm dL_law_718 ?_
    refine z_callC B0 (z_runV (q0 := 0) (As := [.int 4, .int 30]) (st := []) B0 (c_X11_after_251 (a := a) (cS0 w)  ) cf_X11_after (cw_0 cy tE a rw (cS0 w)) rfl wm_L_87 wi_X11_after ws_X11_after dL_law_719 rfl (Nat.le_of_ble_eq_true rfl) ⟨by decide, by decide, by decide, by decide⟩) (fun r1 u1 p1 => ?_)
    obtain ⟨rfl, -⟩ := p1
    refine z_aload_n B0 dL_law_722 rfl rfl ?_
    refine z_aload_n B0 dL_law_723 rfl rfl ?_
    refine z_iload_n B0 dL_law_724 rfl rfl ?_
    refine z_iconst (v := 1) B0 dL_law_725 (by decide) ?_
    refine z_iadd (v := 1) B0 dL_law_726 (by decide) ?_
    refine y_sld (j := 1) (v := 4) B0 hX hbl (by decide) e1.symm dL_law_727 ?_
    refine z_aload_n B0 dL_law_728 rfl rfl ?_
    refine z_iload_n B0 dL_law_729 rfl rfl ?_
    refine z_iconst (v := 2) B0 dL_law_730 (by decide) ?_
    refine z_iadd (v := 2) B0 dL_law_731 (by decide) ?_
    refine y_sld (j := 2) (v := 30) B0 hX hbl (by decide) e2.symm dL_law_732 ?_
    refine z_callM B0 (z_runV (q0 := 0) (As := [.int 4, .int 30]) (st := [.int (-1)]) B0 (c_X12_after_251 (a := a2) mS0  rfl rfl rfl rfl rfl rfl rfl rfl rfl rfl rfl rfl rfl rfl rfl rfl rfl rfl rfl rfl rfl rfl rfl rfl rfl rfl rfl) cf_X12_after (mw_0 cy a2 mS0) rfl wm_L_90 wi_X12_after ws_X12_after dL_law_733 rfl (Nat.le_of_ble_eq_true rfl) ⟨by decide, by decide, by decide, by decide⟩) (fun r2 u2 p2 => ?_)
    obtain ⟨rfl, -⟩ := p2
    refine z_icmp_eq_t (tgt := 1091) B0 dL_law_736 (by decide) rfl ?_
    exact fin u1 u2
  · obtain rfl : x2 = 31 := Int32.toInt_inj.mp (h2.trans (by decide))
    refine z_aload_n B0 dL_law_708 rfl rfl ?_
    refine z_aload_n B0 dL_law_709 rfl rfl ?_
    refine z_iload_n B0 dL_law_710 rfl rfl ?_
    refine z_iconst (v := 1) B0 dL_law_711 (by decide) ?_
    refine z_iadd (v := 1) B0 dL_law_712 (by decide) ?_
    refine y_sld (j := 1) (v := 4) B0 hX hbl (by decide) e1.symm dL_law_713 ?_
    refine z_aload_n B0 dL_law_714 rfl rfl ?_
    refine z_iload_n B0 dL_law_715 rfl rfl ?_
    refine z_iconst (v := 2) B0 dL_law_716 (by decide) ?_
    refine z_iadd (v := 2) B0 dL_law_717 (by decide) ?_
    refine y_sld (j := 2) (v := 31) B0 hX hbl (by decide) e2.symm dL_law_718 ?_
    refine z_callC B0 (z_runV (q0 := 0) (As := [.int 4, .int 31]) (st := []) B0 (c_X11_after_252 (a := a) (cS0 w)  rfl rfl rfl hrw) cf_X11_after (cw_0 cy tE a rw (cS0 w)) rfl wm_L_87 wi_X11_after ws_X11_after dL_law_719 rfl (Nat.le_of_ble_eq_true rfl) ⟨by decide, by decide, by decide, by decide⟩) (fun r1 u1 p1 => ?_)
    obtain ⟨rfl, -⟩ := p1
    refine z_aload_n B0 dL_law_722 rfl rfl ?_
    refine z_aload_n B0 dL_law_723 rfl rfl ?_
    refine z_iload_n B0 dL_law_724 rfl rfl ?_
    refine z_iconst (v := 1) B0 dL_law_725 (by decide) ?_
    refine z_iadd (v := 1) B0 dL_law_726 (by decide) ?_
    refine y_sld (j := 1) (v := 4) B0 hX hbl (by decide) e1.symm dL_law_727 ?_
    refine z_aload_n B0 dL_law_728 rfl rfl ?_
    refine z_iload_n B0 dL_law_729 rfl rfl ?_
    refine z_iconst (v := 2) B0 dL_law_730 (by decide) ?_
    refine z_iadd (v := 2) B0 dL_law_731 (by decide) ?_
    refine y_sld (j := 2) (v := 31) B0 hX hbl (by decide) e2.symm dL_law_732 ?_
    refine z_callM B0 (z_runV (q0 := 0) (As := [.int 4, .int 31]) (st := [.int 0]) B0 (c_X12_after_252 (a := a2) mS0  rfl rfl rfl rfl rfl rfl rfl rfl rfl rfl rfl rfl rfl rfl rfl rfl rfl rfl rfl rfl rfl rfl rfl rfl rfl rfl rfl) cf_X12_after (mw_0 cy a2 mS0) rfl wm_L_90 wi_X12_after ws_X12_after dL_law_733 rfl (Nat.le_of_ble_eq_true rfl) ⟨by decide, by decide, by decide, by decide⟩) (fun r2 u2 p2 => ?_)
    obtain ⟨rfl, -⟩ := p2
    refine z_icmp_eq_t (tgt := 1091) B0 dL_law_736 (by decide) rfl ?_
    exact fin u1 u2
  · obtain rfl : x2 = 32 := Int32.toInt_inj.mp (h2.trans (by decide))
    refine z_aload_n B0 dL_law_708 rfl rfl ?_
    refine z_aload_n B0 dL_law_709 rfl rfl ?_
    refine z_iload_n B0 dL_law_710 rfl rfl ?_
    refine z_iconst (v := 1) B0 dL_law_711 (by decide) ?_
    refine z_iadd (v := 1) B0 dL_law_712 (by decide) ?_
    refine y_sld (j := 1) (v := 4) B0 hX hbl (by decide) e1.symm dL_law_713 ?_
    refine z_aload_n B0 dL_law_714 rfl rfl ?_
    refine z_iload_n B0 dL_law_715 rfl rfl ?_
    refine z_iconst (v := 2) B0 dL_law_716 (by decide) ?_
    refine z_iadd (v := 2) B0 dL_law_717 (by decide) ?_
    refine y_sld (j := 2) (v := 32) B0 hX hbl (by decide) e2.symm dL_law_718 ?_
    refine z_callC B0 (z_runV (q0 := 0) (As := [.int 4, .int 32]) (st := []) B0 (c_X11_after_253 (a := a) (cS0 w)  rfl rfl rfl hrw) cf_X11_after (cw_0 cy tE a rw (cS0 w)) rfl wm_L_87 wi_X11_after ws_X11_after dL_law_719 rfl (Nat.le_of_ble_eq_true rfl) ⟨by decide, by decide, by decide, by decide⟩) (fun r1 u1 p1 => ?_)
    obtain ⟨rfl, -⟩ := p1
    refine z_aload_n B0 dL_law_722 rfl rfl ?_
    refine z_aload_n B0 dL_law_723 rfl rfl ?_
    refine z_iload_n B0 dL_law_724 rfl rfl ?_
    refine z_iconst (v := 1) B0 dL_law_725 (by decide) ?_
    refine z_iadd (v := 1) B0 dL_law_726 (by decide) ?_
    refine y_sld (j := 1) (v := 4) B0 hX hbl (by decide) e1.symm dL_law_727 ?_
    refine z_aload_n B0 dL_law_728 rfl rfl ?_
    refine z_iload_n B0 dL_law_729 rfl rfl ?_
    refine z_iconst (v := 2) B0 dL_law_730 (by decide) ?_
    refine z_iadd (v := 2) B0 dL_law_731 (by decide) ?_
    refine y_sld (j := 2) (v := 32) B0 hX hbl (by decide) e2.symm dL_law_732 ?_
    refine z_callM B0 (z_runV (q0 := 0) (As := [.int 4, .int 32]) (st := [.int 0]) B0 (c_X12_after_253 (a := a2) mS0  rfl rfl rfl rfl rfl rfl rfl rfl rfl rfl rfl rfl rfl rfl rfl rfl rfl rfl rfl rfl rfl rfl rfl rfl rfl rfl rfl) cf_X12_after (mw_0 cy a2 mS0) rfl wm_L_90 wi_X12_after ws_X12_after dL_law_733 rfl (Nat.le_of_ble_eq_true rfl) ⟨by decide, by decide, by decide, by decide⟩) (fun r2 u2 p2 => ?_)
    obtain ⟨rfl, -⟩ := p2
    refine z_icmp_eq_t (tgt := 1091) B0 dL_law_736 (by decide) rfl ?_
    exact fin u1 u2
  · obtain rfl : x2 = 33 := Int32.toInt_inj.mp (h2.trans (by decide))
    refine z_aload_n B0 dL_law_708 rfl rfl ?_
    refine z_aload_n B0 dL_law_709 rfl rfl ?_
    refine z_iload_n B0 dL_law_710 rfl rfl ?_
    refine z_iconst (v := 1) B0 dL_law_711 (by decide) ?_
    refine z_iadd (v := 1) B0 dL_law_712 (by decide) ?_
    refine y_sld (j := 1) (v := 4) B0 hX hbl (by decide) e1.symm dL_law_713 ?_
    refine z_aload_n B0 dL_law_714 rfl rfl ?_
    refine z_iload_n B0 dL_law_715 rfl rfl ?_
    refine z_iconst (v := 2) B0 dL_law_716 (by decide) ?_
    refine z_iadd (v := 2) B0 dL_law_717 (by decide) ?_
    refine y_sld (j := 2) (v := 33) B0 hX hbl (by decide) e2.symm dL_law_718 ?_
    refine z_callC B0 (z_runV (q0 := 0) (As := [.int 4, .int 33]) (st := []) B0 (c_X11_after_254 (a := a) (cS0 w)  rfl rfl rfl hrw) cf_X11_after (cw_0 cy tE a rw (cS0 w)) rfl wm_L_87 wi_X11_after ws_X11_after dL_law_719 rfl (Nat.le_of_ble_eq_true rfl) ⟨by decide, by decide, by decide, by decide⟩) (fun r1 u1 p1 => ?_)
    obtain ⟨rfl, -⟩ := p1
    refine z_aload_n B0 dL_law_722 rfl rfl ?_
    refine z_aload_n B0 dL_law_723 rfl rfl ?_
    refine z_iload_n B0 dL_law_724 rfl rfl ?_
    refine z_iconst (v := 1) B0 dL_law_725 (by decide) ?_
    refine z_iadd (v := 1) B0 dL_law_726 (by decide) ?_
    refine y_sld (j := 1) (v := 4) B0 hX hbl (by decide) e1.symm dL_law_727 ?_
    refine z_aload_n B0 dL_law_728 rfl rfl ?_
    refine z_iload_n B0 dL_law_729 rfl rfl ?_
    refine z_iconst (v := 2) B0 dL_law_730 (by decide) ?_
    refine z_iadd (v := 2) B0 dL_law_731 (by decide) ?_
    refine y_sld (j := 2) (v := 33) B0 hX hbl (by decide) e2.symm dL_law_732 ?_
    refine z_callM B0 (z_runV (q0 := 0) (As := [.int 4, .int 33]) (st := [.int 0]) B0 (c_X12_after_254 (a := a2) mS0  rfl rfl rfl rfl rfl rfl rfl rfl rfl rfl rfl rfl rfl rfl rfl rfl rfl rfl rfl rfl rfl rfl rfl rfl rfl rfl rfl) cf_X12_after (mw_0 cy a2 mS0) rfl wm_L_90 wi_X12_after ws_X12_after dL_law_733 rfl (Nat.le_of_ble_eq_true rfl) ⟨by decide, by decide, by decide, by decide⟩) (fun r2 u2 p2 => ?_)
    obtain ⟨rfl, -⟩ := p2
    refine z_icmp_eq_t (tgt := 1091) B0 dL_law_736 (by decide) rfl ?_
    exact fin u1 u2
  · obtain rfl : x2 = 34 := Int32.toInt_inj.mp (h2.trans (by decide))
    refine z_aload_n B0 dL_law_708 rfl rfl ?_
    refine z_aload_n B0 dL_law_709 rfl rfl ?_
    refine z_iload_n B0 dL_law_710 rfl rfl ?_
    refine z_iconst (v := 1) B0 dL_law_711 (by decide) ?_
    refine z_iadd (v := 1) B0 dL_law_712 (by decide) ?_
    refine y_sld (j := 1) (v := 4) B0 hX hbl (by decide) e1.symm dL_law_713 ?_
    refine z_aload_n B0 dL_law_714 rfl rfl ?_
    refine z_iload_n B0 dL_law_715 rfl rfl ?_
    refine z_iconst (v := 2) B0 dL_law_716 (by decide) ?_
    refine z_iadd (v := 2) B0 dL_law_717 (by decide) ?_
    refine y_sld (j := 2) (v := 34) B0 hX hbl (by decide) e2.symm dL_law_718 ?_
    refine z_callC B0 (z_runV (q0 := 0) (As := [.int 4, .int 34]) (st := []) B0 (c_X11_after_255 (a := a) (cS0 w)  ) cf_X11_after (cw_0 cy tE a rw (cS0 w)) rfl wm_L_87 wi_X11_after ws_X11_after dL_law_719 rfl (Nat.le_of_ble_eq_true rfl) ⟨by decide, by decide, by decide, by decide⟩) (fun r1 u1 p1 => ?_)
    obtain ⟨rfl, -⟩ := p1
    refine z_aload_n B0 dL_law_722 rfl rfl ?_
    refine z_aload_n B0 dL_law_723 rfl rfl ?_
    refine z_iload_n B0 dL_law_724 rfl rfl ?_
    refine z_iconst (v := 1) B0 dL_law_725 (by decide) ?_
    refine z_iadd (v := 1) B0 dL_law_726 (by decide) ?_
    refine y_sld (j := 1) (v := 4) B0 hX hbl (by decide) e1.symm dL_law_727 ?_
    refine z_aload_n B0 dL_law_728 rfl rfl ?_
    refine z_iload_n B0 dL_law_729 rfl rfl ?_
    refine z_iconst (v := 2) B0 dL_law_730 (by decide) ?_
    refine z_iadd (v := 2) B0 dL_law_731 (by decide) ?_
    refine y_sld (j := 2) (v := 34) B0 hX hbl (by decide) e2.symm dL_law_732 ?_
    refine z_callM B0 (z_runV (q0 := 0) (As := [.int 4, .int 34]) (st := [.int (-1)]) B0 (c_X12_after_255 (a := a2) mS0  rfl rfl rfl rfl rfl rfl rfl rfl rfl rfl rfl rfl rfl rfl rfl rfl rfl rfl rfl rfl rfl rfl rfl rfl rfl rfl rfl) cf_X12_after (mw_0 cy a2 mS0) rfl wm_L_90 wi_X12_after ws_X12_after dL_law_733 rfl (Nat.le_of_ble_eq_true rfl) ⟨by decide, by decide, by decide, by decide⟩) (fun r2 u2 p2 => ?_)
    obtain ⟨rfl, -⟩ := p2
    refine z_icmp_eq_t (tgt := 1091) B0 dL_law_736 (by decide) rfl ?_
    exact fin u1 u2
  · obtain rfl : x2 = 35 := Int32.toInt_inj.mp (h2.trans (by decide))
    refine z_aload_n B0 dL_law_708 rfl rfl ?_
    refine z_aload_n B0 dL_law_709 rfl rfl ?_
    refine z_iload_n B0 dL_law_710 rfl rfl ?_
    refine z_iconst (v := 1) B0 dL_law_711 (by decide) ?_
    refine z_iadd (v := 1) B0 dL_law_712 (by decide) ?_
    refine y_sld (j := 1) (v := 4) B0 hX hbl (by decide) e1.symm dL_law_713 ?_
    refine z_aload_n B0 dL_law_714 rfl rfl ?_
    refine z_iload_n B0 dL_law_715 rfl rfl ?_
    refine z_iconst (v := 2) B0 dL_law_716 (by decide) ?_
    refine z_iadd (v := 2) B0 dL_law_717 (by decide) ?_
    refine y_sld (j := 2) (v := 35) B0 hX hbl (by decide) e2.symm dL_law_718 ?_
    refine z_callC B0 (z_runV (q0 := 0) (As := [.int 4, .int 35]) (st := []) B0 (c_X11_after_256 (a := a) (cS0 w)  rfl rfl rfl hrw) cf_X11_after (cw_0 cy tE a rw (cS0 w)) rfl wm_L_87 wi_X11_after ws_X11_after dL_law_719 rfl (Nat.le_of_ble_eq_true rfl) ⟨by decide, by decide, by decide, by decide⟩) (fun r1 u1 p1 => ?_)
    obtain ⟨rfl, -⟩ := p1
    refine z_aload_n B0 dL_law_722 rfl rfl ?_
    refine z_aload_n B0 dL_law_723 rfl rfl ?_
    refine z_iload_n B0 dL_law_724 rfl rfl ?_
    refine z_iconst (v := 1) B0 dL_law_725 (by decide) ?_
    refine z_iadd (v := 1) B0 dL_law_726 (by decide) ?_
    refine y_sld (j := 1) (v := 4) B0 hX hbl (by decide) e1.symm dL_law_727 ?_
    refine z_aload_n B0 dL_law_728 rfl rfl ?_
    refine z_iload_n B0 dL_law_729 rfl rfl ?_
    refine z_iconst (v := 2) B0 dL_law_730 (by decide) ?_
    refine z_iadd (v := 2) B0 dL_law_731 (by decide) ?_
    refine y_sld (j := 2) (v := 35) B0 hX hbl (by decide) e2.symm dL_law_732 ?_
    refine z_callM B0 (z_runV (q0 := 0) (As := [.int 4, .int 35]) (st := [.int 0]) B0 (c_X12_after_256 (a := a2) mS0  rfl rfl rfl rfl rfl rfl rfl rfl rfl rfl rfl rfl rfl rfl rfl rfl rfl rfl rfl rfl rfl rfl rfl rfl rfl rfl rfl) cf_X12_after (mw_0 cy a2 mS0) rfl wm_L_90 wi_X12_after ws_X12_after dL_law_733 rfl (Nat.le_of_ble_eq_true rfl) ⟨by decide, by decide, by decide, by decide⟩) (fun r2 u2 p2 => ?_)
    obtain ⟨rfl, -⟩ := p2
    refine z_icmp_eq_t (tgt := 1091) B0 dL_law_736 (by decide) rfl ?_
    exact fin u1 u2
  · obtain rfl : x2 = 36 := Int32.toInt_inj.mp (h2.trans (by decide))
    refine z_aload_n B0 dL_law_708 rfl rfl ?_
    refine z_aload_n B0 dL_law_709 rfl rfl ?_
    refine z_iload_n B0 dL_law_710 rfl rfl ?_
    refine z_iconst (v := 1) B0 dL_law_711 (by decide) ?_
    refine z_iadd (v := 1) B0 dL_law_712 (by decide) ?_
    refine y_sld (j := 1) (v := 4) B0 hX hbl (by decide) e1.symm dL_law_713 ?_
    refine z_aload_n B0 dL_law_714 rfl rfl ?_
    refine z_iload_n B0 dL_law_715 rfl rfl ?_
    refine z_iconst (v := 2) B0 dL_law_716 (by decide) ?_
    refine z_iadd (v := 2) B0 dL_law_717 (by decide) ?_
    refine y_sld (j := 2) (v := 36) B0 hX hbl (by decide) e2.symm dL_law_718 ?_
    refine z_callC B0 (z_runV (q0 := 0) (As := [.int 4, .int 36]) (st := []) B0 (c_X11_after_257 (a := a) (cS0 w)  rfl rfl rfl hrw) cf_X11_after (cw_0 cy tE a rw (cS0 w)) rfl wm_L_87 wi_X11_after ws_X11_after dL_law_719 rfl (Nat.le_of_ble_eq_true rfl) ⟨by decide, by decide, by decide, by decide⟩) (fun r1 u1 p1 => ?_)
    obtain ⟨rfl, -⟩ := p1
    refine z_aload_n B0 dL_law_722 rfl rfl ?_
    refine z_aload_n B0 dL_law_723 rfl rfl ?_
    refine z_iload_n B0 dL_law_724 rfl rfl ?_
    refine z_iconst (v := 1) B0 dL_law_725 (by decide) ?_
    refine z_iadd (v := 1) B0 dL_law_726 (by decide) ?_
    refine y_sld (j := 1) (v := 4) B0 hX hbl (by decide) e1.symm dL_law_727 ?_
    refine z_aload_n B0 dL_law_728 rfl rfl ?_
    refine z_iload_n B0 dL_law_729 rfl rfl ?_
    refine z_iconst (v := 2) B0 dL_law_730 (by decide) ?_
    refine z_iadd (v := 2) B0 dL_law_731 (by decide) ?_
    refine y_sld (j := 2) (v := 36) B0 hX hbl (by decide) e2.symm dL_law_732 ?_
    refine z_callM B0 (z_runV (q0 := 0) (As := [.int 4, .int 36]) (st := [.int 0]) B0 (c_X12_after_257 (a := a2) mS0  rfl rfl rfl rfl rfl rfl rfl rfl rfl rfl rfl rfl rfl rfl rfl rfl rfl rfl rfl rfl rfl rfl rfl rfl rfl rfl rfl) cf_X12_after (mw_0 cy a2 mS0) rfl wm_L_90 wi_X12_after ws_X12_after dL_law_733 rfl (Nat.le_of_ble_eq_true rfl) ⟨by decide, by decide, by decide, by decide⟩) (fun r2 u2 p2 => ?_)
    obtain ⟨rfl, -⟩ := p2
    refine z_icmp_eq_t (tgt := 1091) B0 dL_law_736 (by decide) rfl ?_
    exact fin u1 u2
  · obtain rfl : x2 = 37 := Int32.toInt_inj.mp (h2.trans (by decide))
    refine z_aload_n B0 dL_law_708 rfl rfl ?_
    refine z_aload_n B0 dL_law_709 rfl rfl ?_
    refine z_iload_n B0 dL_law_710 rfl rfl ?_
    refine z_iconst (v := 1) B0 dL_law_711 (by decide) ?_
    refine z_iadd (v := 1) B0 dL_law_712 (by decide) ?_
    refine y_sld (j := 1) (v := 4) B0 hX hbl (by decide) e1.symm dL_law_713 ?_
    refine z_aload_n B0 dL_law_714 rfl rfl ?_
    refine z_iload_n B0 dL_law_715 rfl rfl ?_
    refine z_iconst (v := 2) B0 dL_law_716 (by decide) ?_
    refine z_iadd (v := 2) B0 dL_law_717 (by decide) ?_
    refine y_sld (j := 2) (v := 37) B0 hX hbl (by decide) e2.symm dL_law_718 ?_
    refine z_callC B0 (z_runV (q0 := 0) (As := [.int 4, .int 37]) (st := []) B0 (c_X11_after_258 (a := a) (cS0 w)  rfl rfl rfl hrw) cf_X11_after (cw_0 cy tE a rw (cS0 w)) rfl wm_L_87 wi_X11_after ws_X11_after dL_law_719 rfl (Nat.le_of_ble_eq_true rfl) ⟨by decide, by decide, by decide, by decide⟩) (fun r1 u1 p1 => ?_)
    obtain ⟨rfl, -⟩ := p1
    refine z_aload_n B0 dL_law_722 rfl rfl ?_
    refine z_aload_n B0 dL_law_723 rfl rfl ?_
    refine z_iload_n B0 dL_law_724 rfl rfl ?_
    refine z_iconst (v := 1) B0 dL_law_725 (by decide) ?_
    refine z_iadd (v := 1) B0 dL_law_726 (by decide) ?_
    refine y_sld (j := 1) (v := 4) B0 hX hbl (by decide) e1.symm dL_law_727 ?_
    refine z_aload_n B0 dL_law_728 rfl rfl ?_
    refine z_iload_n B0 dL_law_729 rfl rfl ?_
    refine z_iconst (v := 2) B0 dL_law_730 (by decide) ?_
    refine z_iadd (v := 2) B0 dL_law_731 (by decide) ?_
    refine y_sld (j := 2) (v := 37) B0 hX hbl (by decide) e2.symm dL_law_732 ?_
    refine z_callM B0 (z_runV (q0 := 0) (As := [.int 4, .int 37]) (st := [.int 0]) B0 (c_X12_after_258 (a := a2) mS0  rfl rfl rfl rfl rfl rfl rfl rfl rfl rfl rfl rfl rfl rfl rfl rfl rfl rfl rfl rfl rfl rfl rfl rfl rfl rfl rfl) cf_X12_after (mw_0 cy a2 mS0) rfl wm_L_90 wi_X12_after ws_X12_after dL_law_733 rfl (Nat.le_of_ble_eq_true rfl) ⟨by decide, by decide, by decide, by decide⟩) (fun r2 u2 p2 => ?_)
    obtain ⟨rfl, -⟩ := p2
    refine z_icmp_eq_t (tgt := 1091) B0 dL_law_736 (by decide) rfl ?_
    exact fin u1 u2
  · obtain rfl : x2 = 38 := Int32.toInt_inj.mp (h2.trans (by decide))
    refine z_aload_n B0 dL_law_708 rfl rfl ?_
    refine z_aload_n B0 dL_law_709 rfl rfl ?_
    refine z_iload_n B0 dL_law_710 rfl rfl ?_
    refine z_iconst (v := 1) B0 dL_law_711 (by decide) ?_
    refine z_iadd (v := 1) B0 dL_law_712 (by decide) ?_
    refine y_sld (j := 1) (v := 4) B0 hX hbl (by decide) e1.symm dL_law_713 ?_
    refine z_aload_n B0 dL_law_714 rfl rfl ?_
    refine z_iload_n B0 dL_law_715 rfl rfl ?_
    refine z_iconst (v := 2) B0 dL_law_716 (by decide) ?_
    refine z_iadd (v := 2) B0 dL_law_717 (by decide) ?_
    refine y_sld (j := 2) (v := 38) B0 hX hbl (by decide) e2.symm dL_law_718 ?_
    refine z_callC B0 (z_runV (q0 := 0) (As := [.int 4, .int 38]) (st := []) B0 (c_X11_after_259 (a := a) (cS0 w)  ) cf_X11_after (cw_0 cy tE a rw (cS0 w)) rfl wm_L_87 wi_X11_after ws_X11_after dL_law_719 rfl (Nat.le_of_ble_eq_true rfl) ⟨by decide, by decide, by decide, by decide⟩) (fun r1 u1 p1 => ?_)
    obtain ⟨rfl, -⟩ := p1
    refine z_aload_n B0 dL_law_722 rfl rfl ?_
    refine z_aload_n B0 dL_law_723 rfl rfl ?_
    refine z_iload_n B0 dL_law_724 rfl rfl ?_
    refine z_iconst (v := 1) B0 dL_law_725 (by decide) ?_
    refine z_iadd (v := 1) B0 dL_law_726 (by decide) ?_
    refine y_sld (j := 1) (v := 4) B0 hX hbl (by decide) e1.symm dL_law_727 ?_
    refine z_aload_n B0 dL_law_728 rfl rfl ?_
    refine z_iload_n B0 dL_law_729 rfl rfl ?_
    refine z_iconst (v := 2) B0 dL_law_730 (by decide) ?_
    refine z_iadd (v := 2) B0 dL_law_731 (by decide) ?_
    refine y_sld (j := 2) (v := 38) B0 hX hbl (by decide) e2.symm dL_law_732 ?_
    refine z_callM B0 (z_runV (q0 := 0) (As := [.int 4, .int 38]) (st := [.int (-1)]) B0 (c_X12_after_259 (a := a2) mS0  rfl rfl rfl rfl rfl rfl rfl rfl rfl rfl rfl rfl rfl rfl rfl rfl rfl rfl rfl rfl rfl rfl rfl rfl rfl rfl rfl) cf_X12_after (mw_0 cy a2 mS0) rfl wm_L_90 wi_X12_after ws_X12_after dL_law_733 rfl (Nat.le_of_ble_eq_true rfl) ⟨by decide, by decide, by decide, by decide⟩) (fun r2 u2 p2 => ?_)
    obtain ⟨rfl, -⟩ := p2
    refine z_icmp_eq_t (tgt := 1091) B0 dL_law_736 (by decide) rfl ?_
    exact fin u1 u2
  · obtain rfl : x2 = 39 := Int32.toInt_inj.mp (h2.trans (by decide))
    refine z_aload_n B0 dL_law_708 rfl rfl ?_
    refine z_aload_n B0 dL_law_709 rfl rfl ?_
    refine z_iload_n B0 dL_law_710 rfl rfl ?_
    refine z_iconst (v := 1) B0 dL_law_711 (by decide) ?_
    refine z_iadd (v := 1) B0 dL_law_712 (by decide) ?_
    refine y_sld (j := 1) (v := 4) B0 hX hbl (by decide) e1.symm dL_law_713 ?_
    refine z_aload_n B0 dL_law_714 rfl rfl ?_
    refine z_iload_n B0 dL_law_715 rfl rfl ?_
    refine z_iconst (v := 2) B0 dL_law_716 (by decide) ?_
    refine z_iadd (v := 2) B0 dL_law_717 (by decide) ?_
    refine y_sld (j := 2) (v := 39) B0 hX hbl (by decide) e2.symm dL_law_718 ?_
    refine z_callC B0 (z_runV (q0 := 0) (As := [.int 4, .int 39]) (st := []) B0 (c_X11_after_260 (a := a) (cS0 w)  ) cf_X11_after (cw_0 cy tE a rw (cS0 w)) rfl wm_L_87 wi_X11_after ws_X11_after dL_law_719 rfl (Nat.le_of_ble_eq_true rfl) ⟨by decide, by decide, by decide, by decide⟩) (fun r1 u1 p1 => ?_)
    obtain ⟨rfl, -⟩ := p1
    refine z_aload_n B0 dL_law_722 rfl rfl ?_
    refine z_aload_n B0 dL_law_723 rfl rfl ?_
    refine z_iload_n B0 dL_law_724 rfl rfl ?_
    refine z_iconst (v := 1) B0 dL_law_725 (by decide) ?_
    refine z_iadd (v := 1) B0 dL_law_726 (by decide) ?_
    refine y_sld (j := 1) (v := 4) B0 hX hbl (by decide) e1.symm dL_law_727 ?_
    refine z_aload_n B0 dL_law_728 rfl rfl ?_
    refine z_iload_n B0 dL_law_729 rfl rfl ?_
    refine z_iconst (v := 2) B0 dL_law_730 (by decide) ?_
    refine z_iadd (v := 2) B0 dL_law_731 (by decide) ?_
    refine y_sld (j := 2) (v := 39) B0 hX hbl (by decide) e2.symm dL_law_732 ?_
    refine z_callM B0 (z_runV (q0 := 0) (As := [.int 4, .int 39]) (st := [.int (-1)]) B0 (c_X12_after_260 (a := a2) mS0  rfl rfl rfl rfl rfl rfl rfl rfl rfl rfl rfl rfl rfl rfl rfl rfl rfl rfl rfl rfl rfl rfl rfl rfl rfl rfl rfl) cf_X12_after (mw_0 cy a2 mS0) rfl wm_L_90 wi_X12_after ws_X12_after dL_law_733 rfl (Nat.le_of_ble_eq_true rfl) ⟨by decide, by decide, by decide, by decide⟩) (fun r2 u2 p2 => ?_)
    obtain ⟨rfl, -⟩ := p2
    refine z_icmp_eq_t (tgt := 1091) B0 dL_law_736 (by decide) rfl ?_
    exact fin u1 u2
  · obtain rfl : x2 = 40 := Int32.toInt_inj.mp (h2.trans (by decide))
    refine z_aload_n B0 dL_law_708 rfl rfl ?_
    refine z_aload_n B0 dL_law_709 rfl rfl ?_
    refine z_iload_n B0 dL_law_710 rfl rfl ?_
    refine z_iconst (v := 1) B0 dL_law_711 (by decide) ?_
    refine z_iadd (v := 1) B0 dL_law_712 (by decide) ?_
    refine y_sld (j := 1) (v := 4) B0 hX hbl (by decide) e1.symm dL_law_713 ?_
    refine z_aload_n B0 dL_law_714 rfl rfl ?_
    refine z_iload_n B0 dL_law_715 rfl rfl ?_
    refine z_iconst (v := 2) B0 dL_law_716 (by decide) ?_
    refine z_iadd (v := 2) B0 dL_law_717 (by decide) ?_
    refine y_sld (j := 2) (v := 40) B0 hX hbl (by decide) e2.symm dL_law_718 ?_
    refine z_callC B0 (z_runV (q0 := 0) (As := [.int 4, .int 40]) (st := []) B0 (c_X11_after_261 (a := a) (cS0 w)  rfl rfl rfl hrw) cf_X11_after (cw_0 cy tE a rw (cS0 w)) rfl wm_L_87 wi_X11_after ws_X11_after dL_law_719 rfl (Nat.le_of_ble_eq_true rfl) ⟨by decide, by decide, by decide, by decide⟩) (fun r1 u1 p1 => ?_)
    obtain ⟨rfl, -⟩ := p1
    refine z_aload_n B0 dL_law_722 rfl rfl ?_
    refine z_aload_n B0 dL_law_723 rfl rfl ?_
    refine z_iload_n B0 dL_law_724 rfl rfl ?_
    refine z_iconst (v := 1) B0 dL_law_725 (by decide) ?_
    refine z_iadd (v := 1) B0 dL_law_726 (by decide) ?_
    refine y_sld (j := 1) (v := 4) B0 hX hbl (by decide) e1.symm dL_law_727 ?_
    refine z_aload_n B0 dL_law_728 rfl rfl ?_
    refine z_iload_n B0 dL_law_729 rfl rfl ?_
    refine z_iconst (v := 2) B0 dL_law_730 (by decide) ?_
    refine z_iadd (v := 2) B0 dL_law_731 (by decide) ?_
    refine y_sld (j := 2) (v := 40) B0 hX hbl (by decide) e2.symm dL_law_732 ?_
    refine z_callM B0 (z_runV (q0 := 0) (As := [.int 4, .int 40]) (st := [.int 3]) B0 (c_X12_after_261 (a := a2) mS0  rfl rfl rfl rfl rfl rfl rfl rfl rfl rfl rfl rfl rfl rfl rfl rfl rfl rfl rfl rfl rfl rfl rfl rfl rfl rfl rfl) cf_X12_after (mw_0 cy a2 mS0) rfl wm_L_90 wi_X12_after ws_X12_after dL_law_733 rfl (Nat.le_of_ble_eq_true rfl) ⟨by decide, by decide, by decide, by decide⟩) (fun r2 u2 p2 => ?_)
    obtain ⟨rfl, -⟩ := p2
    refine z_icmp_eq_t (tgt := 1091) B0 dL_law_736 (by decide) rfl ?_
    exact fin u1 u2
  · obtain rfl : x2 = 41 := Int32.toInt_inj.mp (h2.trans (by decide))
    refine z_aload_n B0 dL_law_708 rfl rfl ?_
    refine z_aload_n B0 dL_law_709 rfl rfl ?_
    refine z_iload_n B0 dL_law_710 rfl rfl ?_
    refine z_iconst (v := 1) B0 dL_law_711 (by decide) ?_
    refine z_iadd (v := 1) B0 dL_law_712 (by decide) ?_
    refine y_sld (j := 1) (v := 4) B0 hX hbl (by decide) e1.symm dL_law_713 ?_
    refine z_aload_n B0 dL_law_714 rfl rfl ?_
    refine z_iload_n B0 dL_law_715 rfl rfl ?_
    refine z_iconst (v := 2) B0 dL_law_716 (by decide) ?_
    refine z_iadd (v := 2) B0 dL_law_717 (by decide) ?_
    refine y_sld (j := 2) (v := 41) B0 hX hbl (by decide) e2.symm dL_law_718 ?_
    refine z_callC B0 (z_runV (q0 := 0) (As := [.int 4, .int 41]) (st := []) B0 (c_X11_after_262 (a := a) (cS0 w)  rfl rfl rfl hrw) cf_X11_after (cw_0 cy tE a rw (cS0 w)) rfl wm_L_87 wi_X11_after ws_X11_after dL_law_719 rfl (Nat.le_of_ble_eq_true rfl) ⟨by decide, by decide, by decide, by decide⟩) (fun r1 u1 p1 => ?_)
    obtain ⟨rfl, -⟩ := p1
    refine z_aload_n B0 dL_law_722 rfl rfl ?_
    refine z_aload_n B0 dL_law_723 rfl rfl ?_
    refine z_iload_n B0 dL_law_724 rfl rfl ?_
    refine z_iconst (v := 1) B0 dL_law_725 (by decide) ?_
    refine z_iadd (v := 1) B0 dL_law_726 (by decide) ?_
    refine y_sld (j := 1) (v := 4) B0 hX hbl (by decide) e1.symm dL_law_727 ?_
    refine z_aload_n B0 dL_law_728 rfl rfl ?_
    refine z_iload_n B0 dL_law_729 rfl rfl ?_
    refine z_iconst (v := 2) B0 dL_law_730 (by decide) ?_
    refine z_iadd (v := 2) B0 dL_law_731 (by decide) ?_
    refine y_sld (j := 2) (v := 41) B0 hX hbl (by decide) e2.symm dL_law_732 ?_
    refine z_callM B0 (z_runV (q0 := 0) (As := [.int 4, .int 41]) (st := [.int 3]) B0 (c_X12_after_262 (a := a2) mS0  rfl rfl rfl rfl rfl rfl rfl rfl rfl rfl rfl rfl rfl rfl rfl rfl rfl rfl rfl rfl rfl rfl rfl rfl rfl rfl rfl) cf_X12_after (mw_0 cy a2 mS0) rfl wm_L_90 wi_X12_after ws_X12_after dL_law_733 rfl (Nat.le_of_ble_eq_true rfl) ⟨by decide, by decide, by decide, by decide⟩) (fun r2 u2 p2 => ?_)
    obtain ⟨rfl, -⟩ := p2
    refine z_icmp_eq_t (tgt := 1091) B0 dL_law_736 (by decide) rfl ?_
    exact fin u1 u2
  · obtain rfl : x2 = 42 := Int32.toInt_inj.mp (h2.trans (by decide))
    refine z_aload_n B0 dL_law_708 rfl rfl ?_
    refine z_aload_n B0 dL_law_709 rfl rfl ?_
    refine z_iload_n B0 dL_law_710 rfl rfl ?_
    refine z_iconst (v := 1) B0 dL_law_711 (by decide) ?_
    refine z_iadd (v := 1) B0 dL_law_712 (by decide) ?_
    refine y_sld (j := 1) (v := 4) B0 hX hbl (by decide) e1.symm dL_law_713 ?_
    refine z_aload_n B0 dL_law_714 rfl rfl ?_
    refine z_iload_n B0 dL_law_715 rfl rfl ?_
    refine z_iconst (v := 2) B0 dL_law_716 (by decide) ?_
    refine z_iadd (v := 2) B0 dL_law_717 (by decide) ?_
    refine y_sld (j := 2) (v := 42) B0 hX hbl (by decide) e2.symm dL_law_718 ?_
    refine z_callC B0 (z_runV (q0 := 0) (As := [.int 4, .int 42]) (st := []) B0 (c_X11_after_263 (a := a) (cS0 w)  rfl rfl rfl hrw) cf_X11_after (cw_0 cy tE a rw (cS0 w)) rfl wm_L_87 wi_X11_after ws_X11_after dL_law_719 rfl (Nat.le_of_ble_eq_true rfl) ⟨by decide, by decide, by decide, by decide⟩) (fun r1 u1 p1 => ?_)
    obtain ⟨rfl, -⟩ := p1
    refine z_aload_n B0 dL_law_722 rfl rfl ?_
    refine z_aload_n B0 dL_law_723 rfl rfl ?_
    refine z_iload_n B0 dL_law_724 rfl rfl ?_
    refine z_iconst (v := 1) B0 dL_law_725 (by decide) ?_
    refine z_iadd (v := 1) B0 dL_law_726 (by decide) ?_
    refine y_sld (j := 1) (v := 4) B0 hX hbl (by decide) e1.symm dL_law_727 ?_
    refine z_aload_n B0 dL_law_728 rfl rfl ?_
    refine z_iload_n B0 dL_law_729 rfl rfl ?_
    refine z_iconst (v := 2) B0 dL_law_730 (by decide) ?_
    refine z_iadd (v := 2) B0 dL_law_731 (by decide) ?_
    refine y_sld (j := 2) (v := 42) B0 hX hbl (by decide) e2.symm dL_law_732 ?_
    refine z_callM B0 (z_runV (q0 := 0) (As := [.int 4, .int 42]) (st := [.int 3]) B0 (c_X12_after_263 (a := a2) mS0  rfl rfl rfl rfl rfl rfl rfl rfl rfl rfl rfl rfl rfl rfl rfl rfl rfl rfl rfl rfl rfl rfl rfl rfl rfl rfl rfl) cf_X12_after (mw_0 cy a2 mS0) rfl wm_L_90 wi_X12_after ws_X12_after dL_law_733 rfl (Nat.le_of_ble_eq_true rfl) ⟨by decide, by decide, by decide, by decide⟩) (fun r2 u2 p2 => ?_)
    obtain ⟨rfl, -⟩ := p2
    refine z_icmp_eq_t (tgt := 1091) B0 dL_law_736 (by decide) rfl ?_
    exact fin u1 u2
  · obtain rfl : x2 = 43 := Int32.toInt_inj.mp (h2.trans (by decide))
    refine z_aload_n B0 dL_law_708 rfl rfl ?_
    refine z_aload_n B0 dL_law_709 rfl rfl ?_
    refine z_iload_n B0 dL_law_710 rfl rfl ?_
    refine z_iconst (v := 1) B0 dL_law_711 (by decide) ?_
    refine z_iadd (v := 1) B0 dL_law_712 (by decide) ?_
    refine y_sld (j := 1) (v := 4) B0 hX hbl (by decide) e1.symm dL_law_713 ?_
    refine z_aload_n B0 dL_law_714 rfl rfl ?_
    refine z_iload_n B0 dL_law_715 rfl rfl ?_
    refine z_iconst (v := 2) B0 dL_law_716 (by decide) ?_
    refine z_iadd (v := 2) B0 dL_law_717 (by decide) ?_
    refine y_sld (j := 2) (v := 43) B0 hX hbl (by decide) e2.symm dL_law_718 ?_
    refine z_callC B0 (z_runV (q0 := 0) (As := [.int 4, .int 43]) (st := []) B0 (c_X11_after_264 (a := a) (cS0 w)  ) cf_X11_after (cw_0 cy tE a rw (cS0 w)) rfl wm_L_87 wi_X11_after ws_X11_after dL_law_719 rfl (Nat.le_of_ble_eq_true rfl) ⟨by decide, by decide, by decide, by decide⟩) (fun r1 u1 p1 => ?_)
    obtain ⟨rfl, -⟩ := p1
    refine z_aload_n B0 dL_law_722 rfl rfl ?_
    refine z_aload_n B0 dL_law_723 rfl rfl ?_
    refine z_iload_n B0 dL_law_724 rfl rfl ?_
    refine z_iconst (v := 1) B0 dL_law_725 (by decide) ?_
    refine z_iadd (v := 1) B0 dL_law_726 (by decide) ?_
    refine y_sld (j := 1) (v := 4) B0 hX hbl (by decide) e1.symm dL_law_727 ?_
    refine z_aload_n B0 dL_law_728 rfl rfl ?_
    refine z_iload_n B0 dL_law_729 rfl rfl ?_
    refine z_iconst (v := 2) B0 dL_law_730 (by decide) ?_
    refine z_iadd (v := 2) B0 dL_law_731 (by decide) ?_
    refine y_sld (j := 2) (v := 43) B0 hX hbl (by decide) e2.symm dL_law_732 ?_
    refine z_callM B0 (z_runV (q0 := 0) (As := [.int 4, .int 43]) (st := [.int (-1)]) B0 (c_X12_after_264 (a := a2) mS0  rfl rfl rfl rfl rfl rfl rfl rfl rfl rfl rfl rfl rfl rfl rfl rfl rfl rfl rfl rfl rfl rfl rfl rfl rfl rfl rfl) cf_X12_after (mw_0 cy a2 mS0) rfl wm_L_90 wi_X12_after ws_X12_after dL_law_733 rfl (Nat.le_of_ble_eq_true rfl) ⟨by decide, by decide, by decide, by decide⟩) (fun r2 u2 p2 => ?_)
    obtain ⟨rfl, -⟩ := p2
    refine z_icmp_eq_t (tgt := 1091) B0 dL_law_736 (by decide) rfl ?_
    exact fin u1 u2
  · obtain rfl : x2 = 44 := Int32.toInt_inj.mp (h2.trans (by decide))
    refine z_aload_n B0 dL_law_708 rfl rfl ?_
    refine z_aload_n B0 dL_law_709 rfl rfl ?_
    refine z_iload_n B0 dL_law_710 rfl rfl ?_
    refine z_iconst (v := 1) B0 dL_law_711 (by decide) ?_
    refine z_iadd (v := 1) B0 dL_law_712 (by decide) ?_
    refine y_sld (j := 1) (v := 4) B0 hX hbl (by decide) e1.symm dL_law_713 ?_
    refine z_aload_n B0 dL_law_714 rfl rfl ?_
    refine z_iload_n B0 dL_law_715 rfl rfl ?_
    refine z_iconst (v := 2) B0 dL_law_716 (by decide) ?_
    refine z_iadd (v := 2) B0 dL_law_717 (by decide) ?_
    refine y_sld (j := 2) (v := 44) B0 hX hbl (by decide) e2.symm dL_law_718 ?_
    refine z_callC B0 (z_runV (q0 := 0) (As := [.int 4, .int 44]) (st := []) B0 (c_X11_after_265 (a := a) (cS0 w)  ) cf_X11_after (cw_0 cy tE a rw (cS0 w)) rfl wm_L_87 wi_X11_after ws_X11_after dL_law_719 rfl (Nat.le_of_ble_eq_true rfl) ⟨by decide, by decide, by decide, by decide⟩) (fun r1 u1 p1 => ?_)
    obtain ⟨rfl, -⟩ := p1
    refine z_aload_n B0 dL_law_722 rfl rfl ?_
    refine z_aload_n B0 dL_law_723 rfl rfl ?_
    refine z_iload_n B0 dL_law_724 rfl rfl ?_
    refine z_iconst (v := 1) B0 dL_law_725 (by decide) ?_
    refine z_iadd (v := 1) B0 dL_law_726 (by decide) ?_
    refine y_sld (j := 1) (v := 4) B0 hX hbl (by decide) e1.symm dL_law_727 ?_
    refine z_aload_n B0 dL_law_728 rfl rfl ?_
    refine z_iload_n B0 dL_law_729 rfl rfl ?_
    refine z_iconst (v := 2) B0 dL_law_730 (by decide) ?_
    refine z_iadd (v := 2) B0 dL_law_731 (by decide) ?_
    refine y_sld (j := 2) (v := 44) B0 hX hbl (by decide) e2.symm dL_law_732 ?_
    refine z_callM B0 (z_runV (q0 := 0) (As := [.int 4, .int 44]) (st := [.int (-1)]) B0 (c_X12_after_265 (a := a2) mS0  rfl rfl rfl rfl rfl rfl rfl rfl rfl rfl rfl rfl rfl rfl rfl rfl rfl rfl rfl rfl rfl rfl rfl rfl rfl rfl rfl) cf_X12_after (mw_0 cy a2 mS0) rfl wm_L_90 wi_X12_after ws_X12_after dL_law_733 rfl (Nat.le_of_ble_eq_true rfl) ⟨by decide, by decide, by decide, by decide⟩) (fun r2 u2 p2 => ?_)
    obtain ⟨rfl, -⟩ := p2
    refine z_icmp_eq_t (tgt := 1091) B0 dL_law_736 (by decide) rfl ?_
    exact fin u1 u2
  · obtain rfl : x2 = 45 := Int32.toInt_inj.mp (h2.trans (by decide))
    refine z_aload_n B0 dL_law_708 rfl rfl ?_
    refine z_aload_n B0 dL_law_709 rfl rfl ?_
    refine z_iload_n B0 dL_law_710 rfl rfl ?_
    refine z_iconst (v := 1) B0 dL_law_711 (by decide) ?_
    refine z_iadd (v := 1) B0 dL_law_712 (by decide) ?_
    refine y_sld (j := 1) (v := 4) B0 hX hbl (by decide) e1.symm dL_law_713 ?_
    refine z_aload_n B0 dL_law_714 rfl rfl ?_
    refine z_iload_n B0 dL_law_715 rfl rfl ?_
    refine z_iconst (v := 2) B0 dL_law_716 (by decide) ?_
    refine z_iadd (v := 2) B0 dL_law_717 (by decide) ?_
    refine y_sld (j := 2) (v := 45) B0 hX hbl (by decide) e2.symm dL_law_718 ?_
    refine z_callC B0 (z_runV (q0 := 0) (As := [.int 4, .int 45]) (st := []) B0 (c_X11_after_266 (a := a) (cS0 w)  ) cf_X11_after (cw_0 cy tE a rw (cS0 w)) rfl wm_L_87 wi_X11_after ws_X11_after dL_law_719 rfl (Nat.le_of_ble_eq_true rfl) ⟨by decide, by decide, by decide, by decide⟩) (fun r1 u1 p1 => ?_)
    obtain ⟨rfl, -⟩ := p1
    refine z_aload_n B0 dL_law_722 rfl rfl ?_
    refine z_aload_n B0 dL_law_723 rfl rfl ?_
    refine z_iload_n B0 dL_law_724 rfl rfl ?_
    refine z_iconst (v := 1) B0 dL_law_725 (by decide) ?_
    refine z_iadd (v := 1) B0 dL_law_726 (by decide) ?_
    refine y_sld (j := 1) (v := 4) B0 hX hbl (by decide) e1.symm dL_law_727 ?_
    refine z_aload_n B0 dL_law_728 rfl rfl ?_
    refine z_iload_n B0 dL_law_729 rfl rfl ?_
    refine z_iconst (v := 2) B0 dL_law_730 (by decide) ?_
    refine z_iadd (v := 2) B0 dL_law_731 (by decide) ?_
    refine y_sld (j := 2) (v := 45) B0 hX hbl (by decide) e2.symm dL_law_732 ?_
    refine z_callM B0 (z_runV (q0 := 0) (As := [.int 4, .int 45]) (st := [.int (-1)]) B0 (c_X12_after_266 (a := a2) mS0  rfl rfl rfl rfl rfl rfl rfl rfl rfl rfl rfl rfl rfl rfl rfl rfl rfl rfl rfl rfl rfl rfl rfl rfl rfl rfl rfl) cf_X12_after (mw_0 cy a2 mS0) rfl wm_L_90 wi_X12_after ws_X12_after dL_law_733 rfl (Nat.le_of_ble_eq_true rfl) ⟨by decide, by decide, by decide, by decide⟩) (fun r2 u2 p2 => ?_)
    obtain ⟨rfl, -⟩ := p2
    refine z_icmp_eq_t (tgt := 1091) B0 dL_law_736 (by decide) rfl ?_
    exact fin u1 u2
  · obtain rfl : x2 = 46 := Int32.toInt_inj.mp (h2.trans (by decide))
    refine z_aload_n B0 dL_law_708 rfl rfl ?_
    refine z_aload_n B0 dL_law_709 rfl rfl ?_
    refine z_iload_n B0 dL_law_710 rfl rfl ?_
    refine z_iconst (v := 1) B0 dL_law_711 (by decide) ?_
    refine z_iadd (v := 1) B0 dL_law_712 (by decide) ?_
    refine y_sld (j := 1) (v := 4) B0 hX hbl (by decide) e1.symm dL_law_713 ?_
    refine z_aload_n B0 dL_law_714 rfl rfl ?_
    refine z_iload_n B0 dL_law_715 rfl rfl ?_
    refine z_iconst (v := 2) B0 dL_law_716 (by decide) ?_
    refine z_iadd (v := 2) B0 dL_law_717 (by decide) ?_
    refine y_sld (j := 2) (v := 46) B0 hX hbl (by decide) e2.symm dL_law_718 ?_
    refine z_callC B0 (z_runV (q0 := 0) (As := [.int 4, .int 46]) (st := []) B0 (c_X11_after_267 (a := a) (cS0 w)  ) cf_X11_after (cw_0 cy tE a rw (cS0 w)) rfl wm_L_87 wi_X11_after ws_X11_after dL_law_719 rfl (Nat.le_of_ble_eq_true rfl) ⟨by decide, by decide, by decide, by decide⟩) (fun r1 u1 p1 => ?_)
    obtain ⟨rfl, -⟩ := p1
    refine z_aload_n B0 dL_law_722 rfl rfl ?_
    refine z_aload_n B0 dL_law_723 rfl rfl ?_
    refine z_iload_n B0 dL_law_724 rfl rfl ?_
    refine z_iconst (v := 1) B0 dL_law_725 (by decide) ?_
    refine z_iadd (v := 1) B0 dL_law_726 (by decide) ?_
    refine y_sld (j := 1) (v := 4) B0 hX hbl (by decide) e1.symm dL_law_727 ?_
    refine z_aload_n B0 dL_law_728 rfl rfl ?_
    refine z_iload_n B0 dL_law_729 rfl rfl ?_
    refine z_iconst (v := 2) B0 dL_law_730 (by decide) ?_
    refine z_iadd (v := 2) B0 dL_law_731 (by decide) ?_
    refine y_sld (j := 2) (v := 46) B0 hX hbl (by decide) e2.symm dL_law_732 ?_
    refine z_callM B0 (z_runV (q0 := 0) (As := [.int 4, .int 46]) (st := [.int (-1)]) B0 (c_X12_after_267 (a := a2) mS0  rfl rfl rfl rfl rfl rfl rfl rfl rfl rfl rfl rfl rfl rfl rfl rfl rfl rfl rfl rfl rfl rfl rfl rfl rfl rfl rfl) cf_X12_after (mw_0 cy a2 mS0) rfl wm_L_90 wi_X12_after ws_X12_after dL_law_733 rfl (Nat.le_of_ble_eq_true rfl) ⟨by decide, by decide, by decide, by decide⟩) (fun r2 u2 p2 => ?_)
    obtain ⟨rfl, -⟩ := p2
    refine z_icmp_eq_t (tgt := 1091) B0 dL_law_736 (by decide) rfl ?_
    exact fin u1 u2
  · obtain rfl : x2 = 47 := Int32.toInt_inj.mp (h2.trans (by decide))
    refine z_aload_n B0 dL_law_708 rfl rfl ?_
    refine z_aload_n B0 dL_law_709 rfl rfl ?_
    refine z_iload_n B0 dL_law_710 rfl rfl ?_
    refine z_iconst (v := 1) B0 dL_law_711 (by decide) ?_
    refine z_iadd (v := 1) B0 dL_law_712 (by decide) ?_
    refine y_sld (j := 1) (v := 4) B0 hX hbl (by decide) e1.symm dL_law_713 ?_
    refine z_aload_n B0 dL_law_714 rfl rfl ?_
    refine z_iload_n B0 dL_law_715 rfl rfl ?_
    refine z_iconst (v := 2) B0 dL_law_716 (by decide) ?_
    refine z_iadd (v := 2) B0 dL_law_717 (by decide) ?_
    refine y_sld (j := 2) (v := 47) B0 hX hbl (by decide) e2.symm dL_law_718 ?_
    refine z_callC B0 (z_runV (q0 := 0) (As := [.int 4, .int 47]) (st := []) B0 (c_X11_after_268 (a := a) (cS0 w)  ) cf_X11_after (cw_0 cy tE a rw (cS0 w)) rfl wm_L_87 wi_X11_after ws_X11_after dL_law_719 rfl (Nat.le_of_ble_eq_true rfl) ⟨by decide, by decide, by decide, by decide⟩) (fun r1 u1 p1 => ?_)
    obtain ⟨rfl, -⟩ := p1
    refine z_aload_n B0 dL_law_722 rfl rfl ?_
    refine z_aload_n B0 dL_law_723 rfl rfl ?_
    refine z_iload_n B0 dL_law_724 rfl rfl ?_
    refine z_iconst (v := 1) B0 dL_law_725 (by decide) ?_
    refine z_iadd (v := 1) B0 dL_law_726 (by decide) ?_
    refine y_sld (j := 1) (v := 4) B0 hX hbl (by decide) e1.symm dL_law_727 ?_
    refine z_aload_n B0 dL_law_728 rfl rfl ?_
    refine z_iload_n B0 dL_law_729 rfl rfl ?_
    refine z_iconst (v := 2) B0 dL_law_730 (by decide) ?_
    refine z_iadd (v := 2) B0 dL_law_731 (by decide) ?_
    refine y_sld (j := 2) (v := 47) B0 hX hbl (by decide) e2.symm dL_law_732 ?_
    refine z_callM B0 (z_runV (q0 := 0) (As := [.int 4, .int 47]) (st := [.int (-1)]) B0 (c_X12_after_268 (a := a2) mS0  rfl rfl rfl rfl rfl rfl rfl rfl rfl rfl rfl rfl rfl rfl rfl rfl rfl rfl rfl rfl rfl rfl rfl rfl rfl rfl rfl) cf_X12_after (mw_0 cy a2 mS0) rfl wm_L_90 wi_X12_after ws_X12_after dL_law_733 rfl (Nat.le_of_ble_eq_true rfl) ⟨by decide, by decide, by decide, by decide⟩) (fun r2 u2 p2 => ?_)
    obtain ⟨rfl, -⟩ := p2
    refine z_icmp_eq_t (tgt := 1091) B0 dL_law_736 (by decide) rfl ?_
    exact fin u1 u2
  · obtain rfl : x2 = 48 := Int32.toInt_inj.mp (h2.trans (by decide))
    refine z_aload_n B0 dL_law_708 rfl rfl ?_
    refine z_aload_n B0 dL_law_709 rfl rfl ?_
    refine z_iload_n B0 dL_law_710 rfl rfl ?_
    refine z_iconst (v := 1) B0 dL_law_711 (by decide) ?_
    refine z_iadd (v := 1) B0 dL_law_712 (by decide) ?_
    refine y_sld (j := 1) (v := 4) B0 hX hbl (by decide) e1.symm dL_law_713 ?_
    refine z_aload_n B0 dL_law_714 rfl rfl ?_
    refine z_iload_n B0 dL_law_715 rfl rfl ?_
    refine z_iconst (v := 2) B0 dL_law_716 (by decide) ?_
    refine z_iadd (v := 2) B0 dL_law_717 (by decide) ?_
    refine y_sld (j := 2) (v := 48) B0 hX hbl (by decide) e2.symm dL_law_718 ?_
    refine z_callC B0 (z_runV (q0 := 0) (As := [.int 4, .int 48]) (st := []) B0 (c_X11_after_269 (a := a) (cS0 w)  ) cf_X11_after (cw_0 cy tE a rw (cS0 w)) rfl wm_L_87 wi_X11_after ws_X11_after dL_law_719 rfl (Nat.le_of_ble_eq_true rfl) ⟨by decide, by decide, by decide, by decide⟩) (fun r1 u1 p1 => ?_)
    obtain ⟨rfl, -⟩ := p1
    refine z_aload_n B0 dL_law_722 rfl rfl ?_
    refine z_aload_n B0 dL_law_723 rfl rfl ?_
    refine z_iload_n B0 dL_law_724 rfl rfl ?_
    refine z_iconst (v := 1) B0 dL_law_725 (by decide) ?_
    refine z_iadd (v := 1) B0 dL_law_726 (by decide) ?_
    refine y_sld (j := 1) (v := 4) B0 hX hbl (by decide) e1.symm dL_law_727 ?_
    refine z_aload_n B0 dL_law_728 rfl rfl ?_
    refine z_iload_n B0 dL_law_729 rfl rfl ?_
    refine z_iconst (v := 2) B0 dL_law_730 (by decide) ?_
    refine z_iadd (v := 2) B0 dL_law_731 (by decide) ?_
    refine y_sld (j := 2) (v := 48) B0 hX hbl (by decide) e2.symm dL_law_732 ?_
    refine z_callM B0 (z_runV (q0 := 0) (As := [.int 4, .int 48]) (st := [.int (-1)]) B0 (c_X12_after_269 (a := a2) mS0  rfl rfl rfl rfl rfl rfl rfl rfl rfl rfl rfl rfl rfl rfl rfl rfl rfl rfl rfl rfl rfl rfl rfl rfl rfl rfl rfl) cf_X12_after (mw_0 cy a2 mS0) rfl wm_L_90 wi_X12_after ws_X12_after dL_law_733 rfl (Nat.le_of_ble_eq_true rfl) ⟨by decide, by decide, by decide, by decide⟩) (fun r2 u2 p2 => ?_)
    obtain ⟨rfl, -⟩ := p2
    refine z_icmp_eq_t (tgt := 1091) B0 dL_law_736 (by decide) rfl ?_
    exact fin u1 u2
  · obtain rfl : x2 = 49 := Int32.toInt_inj.mp (h2.trans (by decide))
    refine z_aload_n B0 dL_law_708 rfl rfl ?_
    refine z_aload_n B0 dL_law_709 rfl rfl ?_
    refine z_iload_n B0 dL_law_710 rfl rfl ?_
    refine z_iconst (v := 1) B0 dL_law_711 (by decide) ?_
    refine z_iadd (v := 1) B0 dL_law_712 (by decide) ?_
    refine y_sld (j := 1) (v := 4) B0 hX hbl (by decide) e1.symm dL_law_713 ?_
    refine z_aload_n B0 dL_law_714 rfl rfl ?_
    refine z_iload_n B0 dL_law_715 rfl rfl ?_
    refine z_iconst (v := 2) B0 dL_law_716 (by decide) ?_
    refine z_iadd (v := 2) B0 dL_law_717 (by decide) ?_
    refine y_sld (j := 2) (v := 49) B0 hX hbl (by decide) e2.symm dL_law_718 ?_
    refine z_callC B0 (z_runV (q0 := 0) (As := [.int 4, .int 49]) (st := []) B0 (c_X11_after_270 (a := a) (cS0 w)  ) cf_X11_after (cw_0 cy tE a rw (cS0 w)) rfl wm_L_87 wi_X11_after ws_X11_after dL_law_719 rfl (Nat.le_of_ble_eq_true rfl) ⟨by decide, by decide, by decide, by decide⟩) (fun r1 u1 p1 => ?_)
    obtain ⟨rfl, -⟩ := p1
    refine z_aload_n B0 dL_law_722 rfl rfl ?_
    refine z_aload_n B0 dL_law_723 rfl rfl ?_
    refine z_iload_n B0 dL_law_724 rfl rfl ?_
    refine z_iconst (v := 1) B0 dL_law_725 (by decide) ?_
    refine z_iadd (v := 1) B0 dL_law_726 (by decide) ?_
    refine y_sld (j := 1) (v := 4) B0 hX hbl (by decide) e1.symm dL_law_727 ?_
    refine z_aload_n B0 dL_law_728 rfl rfl ?_
    refine z_iload_n B0 dL_law_729 rfl rfl ?_
    refine z_iconst (v := 2) B0 dL_law_730 (by decide) ?_
    refine z_iadd (v := 2) B0 dL_law_731 (by decide) ?_
    refine y_sld (j := 2) (v := 49) B0 hX hbl (by decide) e2.symm dL_law_732 ?_
    refine z_callM B0 (z_runV (q0 := 0) (As := [.int 4, .int 49]) (st := [.int (-1)]) B0 (c_X12_after_270 (a := a2) mS0  rfl rfl rfl rfl rfl rfl rfl rfl rfl rfl rfl rfl rfl rfl rfl rfl rfl rfl rfl rfl rfl rfl rfl rfl rfl rfl rfl) cf_X12_after (mw_0 cy a2 mS0) rfl wm_L_90 wi_X12_after ws_X12_after dL_law_733 rfl (Nat.le_of_ble_eq_true rfl) ⟨by decide, by decide, by decide, by decide⟩) (fun r2 u2 p2 => ?_)
    obtain ⟨rfl, -⟩ := p2
    refine z_icmp_eq_t (tgt := 1091) B0 dL_law_736 (by decide) rfl ?_
    exact fin u1 u2
  · obtain rfl : x2 = 50 := Int32.toInt_inj.mp (h2.trans (by decide))
    refine z_aload_n B0 dL_law_708 rfl rfl ?_
    refine z_aload_n B0 dL_law_709 rfl rfl ?_
    refine z_iload_n B0 dL_law_710 rfl rfl ?_
    refine z_iconst (v := 1) B0 dL_law_711 (by decide) ?_
    refine z_iadd (v := 1) B0 dL_law_712 (by decide) ?_
    refine y_sld (j := 1) (v := 4) B0 hX hbl (by decide) e1.symm dL_law_713 ?_
    refine z_aload_n B0 dL_law_714 rfl rfl ?_
    refine z_iload_n B0 dL_law_715 rfl rfl ?_
    refine z_iconst (v := 2) B0 dL_law_716 (by decide) ?_
    refine z_iadd (v := 2) B0 dL_law_717 (by decide) ?_
    refine y_sld (j := 2) (v := 50) B0 hX hbl (by decide) e2.symm dL_law_718 ?_
    refine z_callC B0 (z_runV (q0 := 0) (As := [.int 4, .int 50]) (st := []) B0 (c_X11_after_271 (a := a) (cS0 w)  rfl rfl rfl hrw) cf_X11_after (cw_0 cy tE a rw (cS0 w)) rfl wm_L_87 wi_X11_after ws_X11_after dL_law_719 rfl (Nat.le_of_ble_eq_true rfl) ⟨by decide, by decide, by decide, by decide⟩) (fun r1 u1 p1 => ?_)
    obtain ⟨rfl, -⟩ := p1
    refine z_aload_n B0 dL_law_722 rfl rfl ?_
    refine z_aload_n B0 dL_law_723 rfl rfl ?_
    refine z_iload_n B0 dL_law_724 rfl rfl ?_
    refine z_iconst (v := 1) B0 dL_law_725 (by decide) ?_
    refine z_iadd (v := 1) B0 dL_law_726 (by decide) ?_
    refine y_sld (j := 1) (v := 4) B0 hX hbl (by decide) e1.symm dL_law_727 ?_
    refine z_aload_n B0 dL_law_728 rfl rfl ?_
    refine z_iload_n B0 dL_law_729 rfl rfl ?_
    refine z_iconst (v := 2) B0 dL_law_730 (by decide) ?_
    refine z_iadd (v := 2) B0 dL_law_731 (by decide) ?_
    refine y_sld (j := 2) (v := 50) B0 hX hbl (by decide) e2.symm dL_law_732 ?_
    refine z_callM B0 (z_runV (q0 := 0) (As := [.int 4, .int 50]) (st := [.int 0]) B0 (c_X12_after_271 (a := a2) mS0  rfl rfl rfl rfl rfl rfl rfl rfl rfl rfl rfl rfl rfl rfl rfl rfl rfl rfl rfl rfl rfl rfl rfl rfl rfl rfl rfl) cf_X12_after (mw_0 cy a2 mS0) rfl wm_L_90 wi_X12_after ws_X12_after dL_law_733 rfl (Nat.le_of_ble_eq_true rfl) ⟨by decide, by decide, by decide, by decide⟩) (fun r2 u2 p2 => ?_)
    obtain ⟨rfl, -⟩ := p2
    refine z_icmp_eq_t (tgt := 1091) B0 dL_law_736 (by decide) rfl ?_
    exact fin u1 u2
  · refine z_aload_n B0 dL_law_708 rfl rfl ?_
    refine z_aload_n B0 dL_law_709 rfl rfl ?_
    refine z_iload_n B0 dL_law_710 rfl rfl ?_
    refine z_iconst (v := 1) B0 dL_law_711 (by decide) ?_
    refine z_iadd (v := 1) B0 dL_law_712 (by decide) ?_
    refine y_sld (j := 1) (v := 4) B0 hX hbl (by decide) e1.symm dL_law_713 ?_
    refine z_aload_n B0 dL_law_714 rfl rfl ?_
    refine z_iload_n B0 dL_law_715 rfl rfl ?_
    refine z_iconst (v := 2) B0 dL_law_716 (by decide) ?_
    refine z_iadd (v := 2) B0 dL_law_717 (by decide) ?_
    refine y_sld (j := 2) (v := x2) B0 hX hbl (by decide) e2.symm dL_law_718 ?_
    refine z_callC B0 (z_runV (q0 := 0) (As := [.int 4, .int x2]) (st := []) B0 (c_X11_after_272 (a := a) (cS0 w) x2 ⟨by omega, by omega⟩) cf_X11_after (cw_0 cy tE a rw (cS0 w)) rfl wm_L_87 wi_X11_after ws_X11_after dL_law_719 rfl (Nat.le_of_ble_eq_true rfl) ⟨by decide, by decide, by decide, by decide⟩) (fun r1 u1 p1 => ?_)
    obtain ⟨rfl, -⟩ := p1
    refine z_aload_n B0 dL_law_722 rfl rfl ?_
    refine z_aload_n B0 dL_law_723 rfl rfl ?_
    refine z_iload_n B0 dL_law_724 rfl rfl ?_
    refine z_iconst (v := 1) B0 dL_law_725 (by decide) ?_
    refine z_iadd (v := 1) B0 dL_law_726 (by decide) ?_
    refine y_sld (j := 1) (v := 4) B0 hX hbl (by decide) e1.symm dL_law_727 ?_
    refine z_aload_n B0 dL_law_728 rfl rfl ?_
    refine z_iload_n B0 dL_law_729 rfl rfl ?_
    refine z_iconst (v := 2) B0 dL_law_730 (by decide) ?_
    refine z_iadd (v := 2) B0 dL_law_731 (by decide) ?_
    refine y_sld (j := 2) (v := x2) B0 hX hbl (by decide) e2.symm dL_law_732 ?_
    refine z_callM B0 (z_runV (q0 := 0) (As := [.int 4, .int x2]) (st := [.int (-1)]) B0 (c_X12_after_272 (a := a2) mS0 x2 rfl rfl rfl rfl rfl rfl rfl rfl rfl rfl rfl rfl rfl rfl rfl rfl rfl rfl rfl rfl rfl rfl rfl rfl rfl rfl rfl ⟨by omega, by omega⟩) cf_X12_after (mw_0 cy a2 mS0) rfl wm_L_90 wi_X12_after ws_X12_after dL_law_733 rfl (Nat.le_of_ble_eq_true rfl) ⟨by decide, by decide, by decide, by decide⟩) (fun r2 u2 p2 => ?_)
    obtain ⟨rfl, -⟩ := p2
    refine z_icmp_eq_t (tgt := 1091) B0 dL_law_736 (by decide) rfl ?_
    exact fin u1 u2

set_option maxHeartbeats 8000000 in
set_option maxRecDepth 100000 in
theorem lo_after_5 {p : Program} {l : Launch} {e : Env} {s : State} {m : MethodId} {below : List Frame} {meth : Method} {c : Code} {D : va_G} {cy : Nat → ClassId} {tB tE b : Nat} {a a2 : Nat → Nat} {rw : Nat → Option Nat} {xs : Nat → Int32} (B0 : Bz p room_1 s m #[Value.ref b] meth c D cy s.heap.size tB tE (fun q => s.heap.size ≤ q) 4 cL_law RL meth.sig.returnType meth.name 2048 84000 600000 7302250) (hX : va_X b 6 xs s s.heap) (hbl : b < s.heap.size) (hrw : ∀ i, i < 6 → rw i = some (a (36 + 2 * i))) (w : Nat → Int64) (fin : ∀ S S9 : GS, Z p l e room_1 s m #[Value.ref b] below meth c D (fun q => s.heap.size ≤ q) 4 (lw_Z below #[Value.ref b] s) 200 60000 (cw cy tE a rw S ++ mw cy a2 S9) [(3, .int 0), (2, .ref (a2 0)), (1, .ref (a 0)), (0, .ref b)] 1091 []) (e1 : 5 = xs 1) : Z p l e room_1 s m #[Value.ref b] below meth c D (fun q => s.heap.size ≤ q) 4 (lw_Z below #[Value.ref b] s) 200 60000 (cw cy tE a rw (cS0 w) ++ mw cy a2 mS0) [(3, .int 0), (2, .ref (a2 0)), (1, .ref (a 0)), (0, .ref b)] 708 [] := by
  obtain ⟨x2, e2⟩ : ∃ x, x = xs 2 := ⟨_, rfl⟩
  rcases (show ((-2147483648) ≤ x2.toInt ∧ x2.toInt ≤ (-2147483609)) ∨ ((-2147483608) ≤ x2.toInt ∧ x2.toInt ≤ (-1)) ∨ x2.toInt = 0 ∨ x2.toInt = 1 ∨ x2.toInt = 2 ∨ x2.toInt = 3 ∨ x2.toInt = 4 ∨ x2.toInt = 5 ∨ x2.toInt = 6 ∨ x2.toInt = 7 ∨ x2.toInt = 8 ∨ x2.toInt = 9 ∨ x2.toInt = 10 ∨ x2.toInt = 11 ∨ x2.toInt = 12 ∨ x2.toInt = 13 ∨ x2.toInt = 14 ∨ x2.toInt = 15 ∨ x2.toInt = 16 ∨ x2.toInt = 17 ∨ x2.toInt = 18 ∨ x2.toInt = 19 ∨ x2.toInt = 20 ∨ x2.toInt = 21 ∨ x2.toInt = 22 ∨ x2.toInt = 23 ∨ x2.toInt = 24 ∨ x2.toInt = 25 ∨ x2.toInt = 26 ∨ x2.toInt = 27 ∨ x2.toInt = 28 ∨ x2.toInt = 29 ∨ x2.toInt = 30 ∨ x2.toInt = 31 ∨ x2.toInt = 32 ∨ x2.toInt = 33 ∨ x2.toInt = 34 ∨ x2.toInt = 35 ∨ x2.toInt = 36 ∨ x2.toInt = 37 ∨ x2.toInt = 38 ∨ x2.toInt = 39 ∨ x2.toInt = 40 ∨ x2.toInt = 41 ∨ x2.toInt = 42 ∨ x2.toInt = 43 ∨ x2.toInt = 44 ∨ x2.toInt = 45 ∨ x2.toInt = 46 ∨ x2.toInt = 47 ∨ x2.toInt = 48 ∨ x2.toInt = 49 ∨ x2.toInt = 50 ∨ (51 ≤ x2.toInt ∧ x2.toInt ≤ 2147483647) by have g1 := Int32.le_toInt x2; have g2 := Int32.toInt_lt x2; omega) with h2 | h2 | h2 | h2 | h2 | h2 | h2 | h2 | h2 | h2 | h2 | h2 | h2 | h2 | h2 | h2 | h2 | h2 | h2 | h2 | h2 | h2 | h2 | h2 | h2 | h2 | h2 | h2 | h2 | h2 | h2 | h2 | h2 | h2 | h2 | h2 | h2 | h2 | h2 | h2 | h2 | h2 | h2 | h2 | h2 | h2 | h2 | h2 | h2 | h2 | h2 | h2 | h2 | h2
  · refine z_aload_n B0 dL_law_708 rfl rfl ?_
    refine z_aload_n B0 dL_law_709 rfl rfl ?_
    refine z_iload_n B0 dL_law_710 rfl rfl ?_
    refine z_iconst (v := 1) B0 dL_law_711 (by decide) ?_
    refine z_iadd (v := 1) B0 dL_law_712 (by decide) ?_
    refine y_sld (j := 1) (v := 5) B0 hX hbl (by decide) e1.symm dL_law_713 ?_
    refine z_aload_n B0 dL_law_714 rfl rfl ?_
    refine z_iload_n B0 dL_law_715 rfl rfl ?_
    refine z_iconst (v := 2) B0 dL_law_716 (by decide) ?_
    refine z_iadd (v := 2) B0 dL_law_717 (by decide) ?_
    refine y_sld (j := 2) (v := x2) B0 hX hbl (by decide) e2.symm dL_law_718 ?_
    refine z_callC B0 (z_runV (q0 := 0) (As := [.int 5, .int x2]) (st := []) B0 (c_X11_after_273 (a := a) (cS0 w) x2 ⟨by omega, by omega⟩) cf_X11_after (cw_0 cy tE a rw (cS0 w)) rfl wm_L_87 wi_X11_after ws_X11_after dL_law_719 rfl (Nat.le_of_ble_eq_true rfl) ⟨by decide, by decide, by decide, by decide⟩) (fun r1 u1 p1 => ?_)
    obtain ⟨rfl, -⟩ := p1
    refine z_aload_n B0 dL_law_722 rfl rfl ?_
    refine z_aload_n B0 dL_law_723 rfl rfl ?_
    refine z_iload_n B0 dL_law_724 rfl rfl ?_
    refine z_iconst (v := 1) B0 dL_law_725 (by decide) ?_
    refine z_iadd (v := 1) B0 dL_law_726 (by decide) ?_
    refine y_sld (j := 1) (v := 5) B0 hX hbl (by decide) e1.symm dL_law_727 ?_
    refine z_aload_n B0 dL_law_728 rfl rfl ?_
    refine z_iload_n B0 dL_law_729 rfl rfl ?_
    refine z_iconst (v := 2) B0 dL_law_730 (by decide) ?_
    refine z_iadd (v := 2) B0 dL_law_731 (by decide) ?_
    refine y_sld (j := 2) (v := x2) B0 hX hbl (by decide) e2.symm dL_law_732 ?_
    refine z_callM B0 (z_runV (q0 := 0) (As := [.int 5, .int x2]) (st := [.int (-1)]) B0 (c_X12_after_273 (a := a2) mS0 x2 rfl rfl rfl rfl rfl rfl rfl rfl rfl rfl rfl rfl rfl rfl rfl rfl rfl rfl rfl rfl rfl rfl rfl rfl rfl rfl rfl ⟨by omega, by omega⟩) cf_X12_after (mw_0 cy a2 mS0) rfl wm_L_90 wi_X12_after ws_X12_after dL_law_733 rfl (Nat.le_of_ble_eq_true rfl) ⟨by decide, by decide, by decide, by decide⟩) (fun r2 u2 p2 => ?_)
    obtain ⟨rfl, -⟩ := p2
    refine z_icmp_eq_t (tgt := 1091) B0 dL_law_736 (by decide) rfl ?_
    exact fin u1 u2
  · refine z_aload_n B0 dL_law_708 rfl rfl ?_
    refine z_aload_n B0 dL_law_709 rfl rfl ?_
    refine z_iload_n B0 dL_law_710 rfl rfl ?_
    refine z_iconst (v := 1) B0 dL_law_711 (by decide) ?_
    refine z_iadd (v := 1) B0 dL_law_712 (by decide) ?_
    refine y_sld (j := 1) (v := 5) B0 hX hbl (by decide) e1.symm dL_law_713 ?_
    refine z_aload_n B0 dL_law_714 rfl rfl ?_
    refine z_iload_n B0 dL_law_715 rfl rfl ?_
    refine z_iconst (v := 2) B0 dL_law_716 (by decide) ?_
    refine z_iadd (v := 2) B0 dL_law_717 (by decide) ?_
    refine y_sld (j := 2) (v := x2) B0 hX hbl (by decide) e2.symm dL_law_718 ?_
    refine z_callC B0 (z_runV (q0 := 0) (As := [.int 5, .int x2]) (st := []) B0 (c_X11_after_274 (a := a) (cS0 w) x2 ⟨by omega, by omega⟩) cf_X11_after (cw_0 cy tE a rw (cS0 w)) rfl wm_L_87 wi_X11_after ws_X11_after dL_law_719 rfl (Nat.le_of_ble_eq_true rfl) ⟨by decide, by decide, by decide, by decide⟩) (fun r1 u1 p1 => ?_)
    obtain ⟨rfl, -⟩ := p1
    refine z_aload_n B0 dL_law_722 rfl rfl ?_
    refine z_aload_n B0 dL_law_723 rfl rfl ?_
    refine z_iload_n B0 dL_law_724 rfl rfl ?_
    refine z_iconst (v := 1) B0 dL_law_725 (by decide) ?_
    refine z_iadd (v := 1) B0 dL_law_726 (by decide) ?_
    refine y_sld (j := 1) (v := 5) B0 hX hbl (by decide) e1.symm dL_law_727 ?_
    refine z_aload_n B0 dL_law_728 rfl rfl ?_
    refine z_iload_n B0 dL_law_729 rfl rfl ?_
    refine z_iconst (v := 2) B0 dL_law_730 (by decide) ?_
    refine z_iadd (v := 2) B0 dL_law_731 (by decide) ?_
    refine y_sld (j := 2) (v := x2) B0 hX hbl (by decide) e2.symm dL_law_732 ?_
    refine z_callM B0 (z_runV (q0 := 0) (As := [.int 5, .int x2]) (st := [.int (-1)]) B0 (c_X12_after_274 (a := a2) mS0 x2 rfl rfl rfl rfl rfl rfl rfl rfl rfl rfl rfl rfl rfl rfl rfl rfl rfl rfl rfl rfl rfl rfl rfl rfl rfl rfl rfl ⟨by omega, by omega⟩) cf_X12_after (mw_0 cy a2 mS0) rfl wm_L_90 wi_X12_after ws_X12_after dL_law_733 rfl (Nat.le_of_ble_eq_true rfl) ⟨by decide, by decide, by decide, by decide⟩) (fun r2 u2 p2 => ?_)
    obtain ⟨rfl, -⟩ := p2
    refine z_icmp_eq_t (tgt := 1091) B0 dL_law_736 (by decide) rfl ?_
    exact fin u1 u2
  · obtain rfl : x2 = 0 := Int32.toInt_inj.mp (h2.trans (by decide))
    refine z_aload_n B0 dL_law_708 rfl rfl ?_
    refine z_aload_n B0 dL_law_709 rfl rfl ?_
    refine z_iload_n B0 dL_law_710 rfl rfl ?_
    refine z_iconst (v := 1) B0 dL_law_711 (by decide) ?_
    refine z_iadd (v := 1) B0 dL_law_712 (by decide) ?_
    refine y_sld (j := 1) (v := 5) B0 hX hbl (by decide) e1.symm dL_law_713 ?_
    refine z_aload_n B0 dL_law_714 rfl rfl ?_
    refine z_iload_n B0 dL_law_715 rfl rfl ?_
    refine z_iconst (v := 2) B0 dL_law_716 (by decide) ?_
    refine z_iadd (v := 2) B0 dL_law_717 (by decide) ?_
    refine y_sld (j := 2) (v := 0) B0 hX hbl (by decide) e2.symm dL_law_718 ?_
    refine z_callC B0 (z_runV (q0 := 0) (As := [.int 5, .int 0]) (st := []) B0 (c_X11_after_275 (a := a) (cS0 w)  rfl rfl rfl hrw) cf_X11_after (cw_0 cy tE a rw (cS0 w)) rfl wm_L_87 wi_X11_after ws_X11_after dL_law_719 rfl (Nat.le_of_ble_eq_true rfl) ⟨by decide, by decide, by decide, by decide⟩) (fun r1 u1 p1 => ?_)
    obtain ⟨rfl, -⟩ := p1
    refine z_aload_n B0 dL_law_722 rfl rfl ?_
    refine z_aload_n B0 dL_law_723 rfl rfl ?_
    refine z_iload_n B0 dL_law_724 rfl rfl ?_
    refine z_iconst (v := 1) B0 dL_law_725 (by decide) ?_
    refine z_iadd (v := 1) B0 dL_law_726 (by decide) ?_
    refine y_sld (j := 1) (v := 5) B0 hX hbl (by decide) e1.symm dL_law_727 ?_
    refine z_aload_n B0 dL_law_728 rfl rfl ?_
    refine z_iload_n B0 dL_law_729 rfl rfl ?_
    refine z_iconst (v := 2) B0 dL_law_730 (by decide) ?_
    refine z_iadd (v := 2) B0 dL_law_731 (by decide) ?_
    refine y_sld (j := 2) (v := 0) B0 hX hbl (by decide) e2.symm dL_law_732 ?_
    refine z_callM B0 (z_runV (q0 := 0) (As := [.int 5, .int 0]) (st := [.int 0]) B0 (c_X12_after_275 (a := a2) mS0  rfl rfl rfl rfl rfl rfl rfl rfl rfl rfl rfl rfl rfl rfl rfl rfl rfl rfl rfl rfl rfl rfl rfl rfl rfl rfl rfl) cf_X12_after (mw_0 cy a2 mS0) rfl wm_L_90 wi_X12_after ws_X12_after dL_law_733 rfl (Nat.le_of_ble_eq_true rfl) ⟨by decide, by decide, by decide, by decide⟩) (fun r2 u2 p2 => ?_)
    obtain ⟨rfl, -⟩ := p2
    refine z_icmp_eq_t (tgt := 1091) B0 dL_law_736 (by decide) rfl ?_
    exact fin u1 u2
  · obtain rfl : x2 = 1 := Int32.toInt_inj.mp (h2.trans (by decide))
    refine z_aload_n B0 dL_law_708 rfl rfl ?_
    refine z_aload_n B0 dL_law_709 rfl rfl ?_
    refine z_iload_n B0 dL_law_710 rfl rfl ?_
    refine z_iconst (v := 1) B0 dL_law_711 (by decide) ?_
    refine z_iadd (v := 1) B0 dL_law_712 (by decide) ?_
    refine y_sld (j := 1) (v := 5) B0 hX hbl (by decide) e1.symm dL_law_713 ?_
    refine z_aload_n B0 dL_law_714 rfl rfl ?_
    refine z_iload_n B0 dL_law_715 rfl rfl ?_
    refine z_iconst (v := 2) B0 dL_law_716 (by decide) ?_
    refine z_iadd (v := 2) B0 dL_law_717 (by decide) ?_
    refine y_sld (j := 2) (v := 1) B0 hX hbl (by decide) e2.symm dL_law_718 ?_
    refine z_callC B0 (z_runV (q0 := 0) (As := [.int 5, .int 1]) (st := []) B0 (c_X11_after_276 (a := a) (cS0 w)  rfl rfl rfl hrw) cf_X11_after (cw_0 cy tE a rw (cS0 w)) rfl wm_L_87 wi_X11_after ws_X11_after dL_law_719 rfl (Nat.le_of_ble_eq_true rfl) ⟨by decide, by decide, by decide, by decide⟩) (fun r1 u1 p1 => ?_)
    obtain ⟨rfl, -⟩ := p1
    refine z_aload_n B0 dL_law_722 rfl rfl ?_
    refine z_aload_n B0 dL_law_723 rfl rfl ?_
    refine z_iload_n B0 dL_law_724 rfl rfl ?_
    refine z_iconst (v := 1) B0 dL_law_725 (by decide) ?_
    refine z_iadd (v := 1) B0 dL_law_726 (by decide) ?_
    refine y_sld (j := 1) (v := 5) B0 hX hbl (by decide) e1.symm dL_law_727 ?_
    refine z_aload_n B0 dL_law_728 rfl rfl ?_
    refine z_iload_n B0 dL_law_729 rfl rfl ?_
    refine z_iconst (v := 2) B0 dL_law_730 (by decide) ?_
    refine z_iadd (v := 2) B0 dL_law_731 (by decide) ?_
    refine y_sld (j := 2) (v := 1) B0 hX hbl (by decide) e2.symm dL_law_732 ?_
    refine z_callM B0 (z_runV (q0 := 0) (As := [.int 5, .int 1]) (st := [.int 0]) B0 (c_X12_after_276 (a := a2) mS0  rfl rfl rfl rfl rfl rfl rfl rfl rfl rfl rfl rfl rfl rfl rfl rfl rfl rfl rfl rfl rfl rfl rfl rfl rfl rfl rfl) cf_X12_after (mw_0 cy a2 mS0) rfl wm_L_90 wi_X12_after ws_X12_after dL_law_733 rfl (Nat.le_of_ble_eq_true rfl) ⟨by decide, by decide, by decide, by decide⟩) (fun r2 u2 p2 => ?_)
    obtain ⟨rfl, -⟩ := p2
    refine z_icmp_eq_t (tgt := 1091) B0 dL_law_736 (by decide) rfl ?_
    exact fin u1 u2
  · obtain rfl : x2 = 2 := Int32.toInt_inj.mp (h2.trans (by decide))
    refine z_aload_n B0 dL_law_708 rfl rfl ?_
    refine z_aload_n B0 dL_law_709 rfl rfl ?_
    refine z_iload_n B0 dL_law_710 rfl rfl ?_
    refine z_iconst (v := 1) B0 dL_law_711 (by decide) ?_
    refine z_iadd (v := 1) B0 dL_law_712 (by decide) ?_
    refine y_sld (j := 1) (v := 5) B0 hX hbl (by decide) e1.symm dL_law_713 ?_
    refine z_aload_n B0 dL_law_714 rfl rfl ?_
    refine z_iload_n B0 dL_law_715 rfl rfl ?_
    refine z_iconst (v := 2) B0 dL_law_716 (by decide) ?_
    refine z_iadd (v := 2) B0 dL_law_717 (by decide) ?_
    refine y_sld (j := 2) (v := 2) B0 hX hbl (by decide) e2.symm dL_law_718 ?_
    refine z_callC B0 (z_runV (q0 := 0) (As := [.int 5, .int 2]) (st := []) B0 (c_X11_after_277 (a := a) (cS0 w)  rfl rfl rfl hrw) cf_X11_after (cw_0 cy tE a rw (cS0 w)) rfl wm_L_87 wi_X11_after ws_X11_after dL_law_719 rfl (Nat.le_of_ble_eq_true rfl) ⟨by decide, by decide, by decide, by decide⟩) (fun r1 u1 p1 => ?_)
    obtain ⟨rfl, -⟩ := p1
    refine z_aload_n B0 dL_law_722 rfl rfl ?_
    refine z_aload_n B0 dL_law_723 rfl rfl ?_
    refine z_iload_n B0 dL_law_724 rfl rfl ?_
    refine z_iconst (v := 1) B0 dL_law_725 (by decide) ?_
    refine z_iadd (v := 1) B0 dL_law_726 (by decide) ?_
    refine y_sld (j := 1) (v := 5) B0 hX hbl (by decide) e1.symm dL_law_727 ?_
    refine z_aload_n B0 dL_law_728 rfl rfl ?_
    refine z_iload_n B0 dL_law_729 rfl rfl ?_
    refine z_iconst (v := 2) B0 dL_law_730 (by decide) ?_
    refine z_iadd (v := 2) B0 dL_law_731 (by decide) ?_
    refine y_sld (j := 2) (v := 2) B0 hX hbl (by decide) e2.symm dL_law_732 ?_
    refine z_callM B0 (z_runV (q0 := 0) (As := [.int 5, .int 2]) (st := [.int 0]) B0 (c_X12_after_277 (a := a2) mS0  rfl rfl rfl rfl rfl rfl rfl rfl rfl rfl rfl rfl rfl rfl rfl rfl rfl rfl rfl rfl rfl rfl rfl rfl rfl rfl rfl) cf_X12_after (mw_0 cy a2 mS0) rfl wm_L_90 wi_X12_after ws_X12_after dL_law_733 rfl (Nat.le_of_ble_eq_true rfl) ⟨by decide, by decide, by decide, by decide⟩) (fun r2 u2 p2 => ?_)
    obtain ⟨rfl, -⟩ := p2
    refine z_icmp_eq_t (tgt := 1091) B0 dL_law_736 (by decide) rfl ?_
    exact fin u1 u2
  · obtain rfl : x2 = 3 := Int32.toInt_inj.mp (h2.trans (by decide))
    refine z_aload_n B0 dL_law_708 rfl rfl ?_
    refine z_aload_n B0 dL_law_709 rfl rfl ?_
    refine z_iload_n B0 dL_law_710 rfl rfl ?_
    refine z_iconst (v := 1) B0 dL_law_711 (by decide) ?_
    refine z_iadd (v := 1) B0 dL_law_712 (by decide) ?_
    refine y_sld (j := 1) (v := 5) B0 hX hbl (by decide) e1.symm dL_law_713 ?_
    refine z_aload_n B0 dL_law_714 rfl rfl ?_
    refine z_iload_n B0 dL_law_715 rfl rfl ?_
    refine z_iconst (v := 2) B0 dL_law_716 (by decide) ?_
    refine z_iadd (v := 2) B0 dL_law_717 (by decide) ?_
    refine y_sld (j := 2) (v := 3) B0 hX hbl (by decide) e2.symm dL_law_718 ?_
    refine z_callC B0 (z_runV (q0 := 0) (As := [.int 5, .int 3]) (st := []) B0 (c_X11_after_278 (a := a) (cS0 w)  ) cf_X11_after (cw_0 cy tE a rw (cS0 w)) rfl wm_L_87 wi_X11_after ws_X11_after dL_law_719 rfl (Nat.le_of_ble_eq_true rfl) ⟨by decide, by decide, by decide, by decide⟩) (fun r1 u1 p1 => ?_)
    obtain ⟨rfl, -⟩ := p1
    refine z_aload_n B0 dL_law_722 rfl rfl ?_
    refine z_aload_n B0 dL_law_723 rfl rfl ?_
    refine z_iload_n B0 dL_law_724 rfl rfl ?_
    refine z_iconst (v := 1) B0 dL_law_725 (by decide) ?_
    refine z_iadd (v := 1) B0 dL_law_726 (by decide) ?_
    refine y_sld (j := 1) (v := 5) B0 hX hbl (by decide) e1.symm dL_law_727 ?_
    refine z_aload_n B0 dL_law_728 rfl rfl ?_
    refine z_iload_n B0 dL_law_729 rfl rfl ?_
    refine z_iconst (v := 2) B0 dL_law_730 (by decide) ?_
    refine z_iadd (v := 2) B0 dL_law_731 (by decide) ?_
    refine y_sld (j := 2) (v := 3) B0 hX hbl (by decide) e2.symm dL_law_732 ?_
    refine z_callM B0 (z_runV (q0 := 0) (As := [.int 5, .int 3]) (st := [.int (-1)]) B0 (c_X12_after_278 (a := a2) mS0  rfl rfl rfl rfl rfl rfl rfl rfl rfl rfl rfl rfl rfl rfl rfl rfl rfl rfl rfl rfl rfl rfl rfl rfl rfl rfl rfl) cf_X12_after (mw_0 cy a2 mS0) rfl wm_L_90 wi_X12_after ws_X12_after dL_law_733 rfl (Nat.le_of_ble_eq_true rfl) ⟨by decide, by decide, by decide, by decide⟩) (fun r2 u2 p2 => ?_)
    obtain ⟨rfl, -⟩ := p2
    refine z_icmp_eq_t (tgt := 1091) B0 dL_law_736 (by decide) rfl ?_
    exact fin u1 u2
  · obtain rfl : x2 = 4 := Int32.toInt_inj.mp (h2.trans (by decide))
    refine z_aload_n B0 dL_law_708 rfl rfl ?_
    refine z_aload_n B0 dL_law_709 rfl rfl ?_
    refine z_iload_n B0 dL_law_710 rfl rfl ?_
    refine z_iconst (v := 1) B0 dL_law_711 (by decide) ?_
    refine z_iadd (v := 1) B0 dL_law_712 (by decide) ?_
    refine y_sld (j := 1) (v := 5) B0 hX hbl (by decide) e1.symm dL_law_713 ?_
    refine z_aload_n B0 dL_law_714 rfl rfl ?_
    refine z_iload_n B0 dL_law_715 rfl rfl ?_
    refine z_iconst (v := 2) B0 dL_law_716 (by decide) ?_
    refine z_iadd (v := 2) B0 dL_law_717 (by decide) ?_
    refine y_sld (j := 2) (v := 4) B0 hX hbl (by decide) e2.symm dL_law_718 ?_
    refine z_callC B0 (z_runV (q0 := 0) (As := [.int 5, .int 4]) (st := []) B0 (c_X11_after_279 (a := a) (cS0 w)  ) cf_X11_after (cw_0 cy tE a rw (cS0 w)) rfl wm_L_87 wi_X11_after ws_X11_after dL_law_719 rfl (Nat.le_of_ble_eq_true rfl) ⟨by decide, by decide, by decide, by decide⟩) (fun r1 u1 p1 => ?_)
    obtain ⟨rfl, -⟩ := p1
    refine z_aload_n B0 dL_law_722 rfl rfl ?_
    refine z_aload_n B0 dL_law_723 rfl rfl ?_
    refine z_iload_n B0 dL_law_724 rfl rfl ?_
    refine z_iconst (v := 1) B0 dL_law_725 (by decide) ?_
    refine z_iadd (v := 1) B0 dL_law_726 (by decide) ?_
    refine y_sld (j := 1) (v := 5) B0 hX hbl (by decide) e1.symm dL_law_727 ?_
    refine z_aload_n B0 dL_law_728 rfl rfl ?_
    refine z_iload_n B0 dL_law_729 rfl rfl ?_
    refine z_iconst (v := 2) B0 dL_law_730 (by decide) ?_
    refine z_iadd (v := 2) B0 dL_law_731 (by decide) ?_
    refine y_sld (j := 2) (v := 4) B0 hX hbl (by decide) e2.symm dL_law_732 ?_
    refine z_callM B0 (z_runV (q0 := 0) (As := [.int 5, .int 4]) (st := [.int (-1)]) B0 (c_X12_after_279 (a := a2) mS0  rfl rfl rfl rfl rfl rfl rfl rfl rfl rfl rfl rfl rfl rfl rfl rfl rfl rfl rfl rfl rfl rfl rfl rfl rfl rfl rfl) cf_X12_after (mw_0 cy a2 mS0) rfl wm_L_90 wi_X12_after ws_X12_after dL_law_733 rfl (Nat.le_of_ble_eq_true rfl) ⟨by decide, by decide, by decide, by decide⟩) (fun r2 u2 p2 => ?_)
    obtain ⟨rfl, -⟩ := p2
    refine z_icmp_eq_t (tgt := 1091) B0 dL_law_736 (by decide) rfl ?_
    exact fin u1 u2
  · obtain rfl : x2 = 5 := Int32.toInt_inj.mp (h2.trans (by decide))
    refine z_aload_n B0 dL_law_708 rfl rfl ?_
    refine z_aload_n B0 dL_law_709 rfl rfl ?_
    refine z_iload_n B0 dL_law_710 rfl rfl ?_
    refine z_iconst (v := 1) B0 dL_law_711 (by decide) ?_
    refine z_iadd (v := 1) B0 dL_law_712 (by decide) ?_
    refine y_sld (j := 1) (v := 5) B0 hX hbl (by decide) e1.symm dL_law_713 ?_
    refine z_aload_n B0 dL_law_714 rfl rfl ?_
    refine z_iload_n B0 dL_law_715 rfl rfl ?_
    refine z_iconst (v := 2) B0 dL_law_716 (by decide) ?_
    refine z_iadd (v := 2) B0 dL_law_717 (by decide) ?_
    refine y_sld (j := 2) (v := 5) B0 hX hbl (by decide) e2.symm dL_law_718 ?_
    refine z_callC B0 (z_runV (q0 := 0) (As := [.int 5, .int 5]) (st := []) B0 (c_X11_after_280 (a := a) (cS0 w)  ) cf_X11_after (cw_0 cy tE a rw (cS0 w)) rfl wm_L_87 wi_X11_after ws_X11_after dL_law_719 rfl (Nat.le_of_ble_eq_true rfl) ⟨by decide, by decide, by decide, by decide⟩) (fun r1 u1 p1 => ?_)
    obtain ⟨rfl, -⟩ := p1
    refine z_aload_n B0 dL_law_722 rfl rfl ?_
    refine z_aload_n B0 dL_law_723 rfl rfl ?_
    refine z_iload_n B0 dL_law_724 rfl rfl ?_
    refine z_iconst (v := 1) B0 dL_law_725 (by decide) ?_
    refine z_iadd (v := 1) B0 dL_law_726 (by decide) ?_
    refine y_sld (j := 1) (v := 5) B0 hX hbl (by decide) e1.symm dL_law_727 ?_
    refine z_aload_n B0 dL_law_728 rfl rfl ?_
    refine z_iload_n B0 dL_law_729 rfl rfl ?_
    refine z_iconst (v := 2) B0 dL_law_730 (by decide) ?_
    refine z_iadd (v := 2) B0 dL_law_731 (by decide) ?_
    refine y_sld (j := 2) (v := 5) B0 hX hbl (by decide) e2.symm dL_law_732 ?_
    refine z_callM B0 (z_runV (q0 := 0) (As := [.int 5, .int 5]) (st := [.int (-1)]) B0 (c_X12_after_280 (a := a2) mS0  rfl rfl rfl rfl rfl rfl rfl rfl rfl rfl rfl rfl rfl rfl rfl rfl rfl rfl rfl rfl rfl rfl rfl rfl rfl rfl rfl) cf_X12_after (mw_0 cy a2 mS0) rfl wm_L_90 wi_X12_after ws_X12_after dL_law_733 rfl (Nat.le_of_ble_eq_true rfl) ⟨by decide, by decide, by decide, by decide⟩) (fun r2 u2 p2 => ?_)
    obtain ⟨rfl, -⟩ := p2
    refine z_icmp_eq_t (tgt := 1091) B0 dL_law_736 (by decide) rfl ?_
    exact fin u1 u2
  · obtain rfl : x2 = 6 := Int32.toInt_inj.mp (h2.trans (by decide))
    refine z_aload_n B0 dL_law_708 rfl rfl ?_
    refine z_aload_n B0 dL_law_709 rfl rfl ?_
    refine z_iload_n B0 dL_law_710 rfl rfl ?_
    refine z_iconst (v := 1) B0 dL_law_711 (by decide) ?_
    refine z_iadd (v := 1) B0 dL_law_712 (by decide) ?_
    refine y_sld (j := 1) (v := 5) B0 hX hbl (by decide) e1.symm dL_law_713 ?_
    refine z_aload_n B0 dL_law_714 rfl rfl ?_
    refine z_iload_n B0 dL_law_715 rfl rfl ?_
    refine z_iconst (v := 2) B0 dL_law_716 (by decide) ?_
    refine z_iadd (v := 2) B0 dL_law_717 (by decide) ?_
    refine y_sld (j := 2) (v := 6) B0 hX hbl (by decide) e2.symm dL_law_718 ?_
    refine z_callC B0 (z_runV (q0 := 0) (As := [.int 5, .int 6]) (st := []) B0 (c_X11_after_281 (a := a) (cS0 w)  ) cf_X11_after (cw_0 cy tE a rw (cS0 w)) rfl wm_L_87 wi_X11_after ws_X11_after dL_law_719 rfl (Nat.le_of_ble_eq_true rfl) ⟨by decide, by decide, by decide, by decide⟩) (fun r1 u1 p1 => ?_)
    obtain ⟨rfl, -⟩ := p1
    refine z_aload_n B0 dL_law_722 rfl rfl ?_
    refine z_aload_n B0 dL_law_723 rfl rfl ?_
    refine z_iload_n B0 dL_law_724 rfl rfl ?_
    refine z_iconst (v := 1) B0 dL_law_725 (by decide) ?_
    refine z_iadd (v := 1) B0 dL_law_726 (by decide) ?_
    refine y_sld (j := 1) (v := 5) B0 hX hbl (by decide) e1.symm dL_law_727 ?_
    refine z_aload_n B0 dL_law_728 rfl rfl ?_
    refine z_iload_n B0 dL_law_729 rfl rfl ?_
    refine z_iconst (v := 2) B0 dL_law_730 (by decide) ?_
    refine z_iadd (v := 2) B0 dL_law_731 (by decide) ?_
    refine y_sld (j := 2) (v := 6) B0 hX hbl (by decide) e2.symm dL_law_732 ?_
    refine z_callM B0 (z_runV (q0 := 0) (As := [.int 5, .int 6]) (st := [.int (-1)]) B0 (c_X12_after_281 (a := a2) mS0  rfl rfl rfl rfl rfl rfl rfl rfl rfl rfl rfl rfl rfl rfl rfl rfl rfl rfl rfl rfl rfl rfl rfl rfl rfl rfl rfl) cf_X12_after (mw_0 cy a2 mS0) rfl wm_L_90 wi_X12_after ws_X12_after dL_law_733 rfl (Nat.le_of_ble_eq_true rfl) ⟨by decide, by decide, by decide, by decide⟩) (fun r2 u2 p2 => ?_)
    obtain ⟨rfl, -⟩ := p2
    refine z_icmp_eq_t (tgt := 1091) B0 dL_law_736 (by decide) rfl ?_
    exact fin u1 u2
  · obtain rfl : x2 = 7 := Int32.toInt_inj.mp (h2.trans (by decide))
    refine z_aload_n B0 dL_law_708 rfl rfl ?_
    refine z_aload_n B0 dL_law_709 rfl rfl ?_
    refine z_iload_n B0 dL_law_710 rfl rfl ?_
    refine z_iconst (v := 1) B0 dL_law_711 (by decide) ?_
    refine z_iadd (v := 1) B0 dL_law_712 (by decide) ?_
    refine y_sld (j := 1) (v := 5) B0 hX hbl (by decide) e1.symm dL_law_713 ?_
    refine z_aload_n B0 dL_law_714 rfl rfl ?_
    refine z_iload_n B0 dL_law_715 rfl rfl ?_
    refine z_iconst (v := 2) B0 dL_law_716 (by decide) ?_
    refine z_iadd (v := 2) B0 dL_law_717 (by decide) ?_
    refine y_sld (j := 2) (v := 7) B0 hX hbl (by decide) e2.symm dL_law_718 ?_
    refine z_callC B0 (z_runV (q0 := 0) (As := [.int 5, .int 7]) (st := []) B0 (c_X11_after_282 (a := a) (cS0 w)  ) cf_X11_after (cw_0 cy tE a rw (cS0 w)) rfl wm_L_87 wi_X11_after ws_X11_after dL_law_719 rfl (Nat.le_of_ble_eq_true rfl) ⟨by decide, by decide, by decide, by decide⟩) (fun r1 u1 p1 => ?_)
    obtain ⟨rfl, -⟩ := p1
    refine z_aload_n B0 dL_law_722 rfl rfl ?_
    refine z_aload_n B0 dL_law_723 rfl rfl ?_
    refine z_iload_n B0 dL_law_724 rfl rfl ?_
    refine z_iconst (v := 1) B0 dL_law_725 (by decide) ?_
    refine z_iadd (v := 1) B0 dL_law_726 (by decide) ?_
    refine y_sld (j := 1) (v := 5) B0 hX hbl (by decide) e1.symm dL_law_727 ?_
    refine z_aload_n B0 dL_law_728 rfl rfl ?_
    refine z_iload_n B0 dL_law_729 rfl rfl ?_
    refine z_iconst (v := 2) B0 dL_law_730 (by decide) ?_
    refine z_iadd (v := 2) B0 dL_law_731 (by decide) ?_
    refine y_sld (j := 2) (v := 7) B0 hX hbl (by decide) e2.symm dL_law_732 ?_
    refine z_callM B0 (z_runV (q0 := 0) (As := [.int 5, .int 7]) (st := [.int (-1)]) B0 (c_X12_after_282 (a := a2) mS0  rfl rfl rfl rfl rfl rfl rfl rfl rfl rfl rfl rfl rfl rfl rfl rfl rfl rfl rfl rfl rfl rfl rfl rfl rfl rfl rfl) cf_X12_after (mw_0 cy a2 mS0) rfl wm_L_90 wi_X12_after ws_X12_after dL_law_733 rfl (Nat.le_of_ble_eq_true rfl) ⟨by decide, by decide, by decide, by decide⟩) (fun r2 u2 p2 => ?_)
    obtain ⟨rfl, -⟩ := p2
    refine z_icmp_eq_t (tgt := 1091) B0 dL_law_736 (by decide) rfl ?_
    exact fin u1 u2
  · obtain rfl : x2 = 8 := Int32.toInt_inj.mp (h2.trans (by decide))
    refine z_aload_n B0 dL_law_708 rfl rfl ?_
    refine z_aload_n B0 dL_law_709 rfl rfl ?_
    refine z_iload_n B0 dL_law_710 rfl rfl ?_
    refine z_iconst (v := 1) B0 dL_law_711 (by decide) ?_
    refine z_iadd (v := 1) B0 dL_law_712 (by decide) ?_
    refine y_sld (j := 1) (v := 5) B0 hX hbl (by decide) e1.symm dL_law_713 ?_
    refine z_aload_n B0 dL_law_714 rfl rfl ?_
    refine z_iload_n B0 dL_law_715 rfl rfl ?_
    refine z_iconst (v := 2) B0 dL_law_716 (by decide) ?_
    refine z_iadd (v := 2) B0 dL_law_717 (by decide) ?_
    refine y_sld (j := 2) (v := 8) B0 hX hbl (by decide) e2.symm dL_law_718 ?_
    refine z_callC B0 (z_runV (q0 := 0) (As := [.int 5, .int 8]) (st := []) B0 (c_X11_after_283 (a := a) (cS0 w)  ) cf_X11_after (cw_0 cy tE a rw (cS0 w)) rfl wm_L_87 wi_X11_after ws_X11_after dL_law_719 rfl (Nat.le_of_ble_eq_true rfl) ⟨by decide, by decide, by decide, by decide⟩) (fun r1 u1 p1 => ?_)
    obtain ⟨rfl, -⟩ := p1
    refine z_aload_n B0 dL_law_722 rfl rfl ?_
    refine z_aload_n B0 dL_law_723 rfl rfl ?_
    refine z_iload_n B0 dL_law_724 rfl rfl ?_
    refine z_iconst (v := 1) B0 dL_law_725 (by decide) ?_
    refine z_iadd (v := 1) B0 dL_law_726 (by decide) ?_
    refine y_sld (j := 1) (v := 5) B0 hX hbl (by decide) e1.symm dL_law_727 ?_
    refine z_aload_n B0 dL_law_728 rfl rfl ?_
    refine z_iload_n B0 dL_law_729 rfl rfl ?_
    refine z_iconst (v := 2) B0 dL_law_730 (by decide) ?_
    refine z_iadd (v := 2) B0 dL_law_731 (by decide) ?_
    refine y_sld (j := 2) (v := 8) B0 hX hbl (by decide) e2.symm dL_law_732 ?_
    refine z_callM B0 (z_runV (q0 := 0) (As := [.int 5, .int 8]) (st := [.int (-1)]) B0 (c_X12_after_283 (a := a2) mS0  rfl rfl rfl rfl rfl rfl rfl rfl rfl rfl rfl rfl rfl rfl rfl rfl rfl rfl rfl rfl rfl rfl rfl rfl rfl rfl rfl) cf_X12_after (mw_0 cy a2 mS0) rfl wm_L_90 wi_X12_after ws_X12_after dL_law_733 rfl (Nat.le_of_ble_eq_true rfl) ⟨by decide, by decide, by decide, by decide⟩) (fun r2 u2 p2 => ?_)
    obtain ⟨rfl, -⟩ := p2
    refine z_icmp_eq_t (tgt := 1091) B0 dL_law_736 (by decide) rfl ?_
    exact fin u1 u2
  · obtain rfl : x2 = 9 := Int32.toInt_inj.mp (h2.trans (by decide))
    refine z_aload_n B0 dL_law_708 rfl rfl ?_
    refine z_aload_n B0 dL_law_709 rfl rfl ?_
    refine z_iload_n B0 dL_law_710 rfl rfl ?_
    refine z_iconst (v := 1) B0 dL_law_711 (by decide) ?_
    refine z_iadd (v := 1) B0 dL_law_712 (by decide) ?_
    refine y_sld (j := 1) (v := 5) B0 hX hbl (by decide) e1.symm dL_law_713 ?_
    refine z_aload_n B0 dL_law_714 rfl rfl ?_
    refine z_iload_n B0 dL_law_715 rfl rfl ?_
    refine z_iconst (v := 2) B0 dL_law_716 (by decide) ?_
    refine z_iadd (v := 2) B0 dL_law_717 (by decide) ?_
    refine y_sld (j := 2) (v := 9) B0 hX hbl (by decide) e2.symm dL_law_718 ?_
    refine z_callC B0 (z_runV (q0 := 0) (As := [.int 5, .int 9]) (st := []) B0 (c_X11_after_284 (a := a) (cS0 w)  ) cf_X11_after (cw_0 cy tE a rw (cS0 w)) rfl wm_L_87 wi_X11_after ws_X11_after dL_law_719 rfl (Nat.le_of_ble_eq_true rfl) ⟨by decide, by decide, by decide, by decide⟩) (fun r1 u1 p1 => ?_)
    obtain ⟨rfl, -⟩ := p1
    refine z_aload_n B0 dL_law_722 rfl rfl ?_
    refine z_aload_n B0 dL_law_723 rfl rfl ?_
    refine z_iload_n B0 dL_law_724 rfl rfl ?_
    refine z_iconst (v := 1) B0 dL_law_725 (by decide) ?_
    refine z_iadd (v := 1) B0 dL_law_726 (by decide) ?_
    refine y_sld (j := 1) (v := 5) B0 hX hbl (by decide) e1.symm dL_law_727 ?_
    refine z_aload_n B0 dL_law_728 rfl rfl ?_
    refine z_iload_n B0 dL_law_729 rfl rfl ?_
    refine z_iconst (v := 2) B0 dL_law_730 (by decide) ?_
    refine z_iadd (v := 2) B0 dL_law_731 (by decide) ?_
    refine y_sld (j := 2) (v := 9) B0 hX hbl (by decide) e2.symm dL_law_732 ?_
    refine z_callM B0 (z_runV (q0 := 0) (As := [.int 5, .int 9]) (st := [.int (-1)]) B0 (c_X12_after_284 (a := a2) mS0  rfl rfl rfl rfl rfl rfl rfl rfl rfl rfl rfl rfl rfl rfl rfl rfl rfl rfl rfl rfl rfl rfl rfl rfl rfl rfl rfl) cf_X12_after (mw_0 cy a2 mS0) rfl wm_L_90 wi_X12_after ws_X12_after dL_law_733 rfl (Nat.le_of_ble_eq_true rfl) ⟨by decide, by decide, by decide, by decide⟩) (fun r2 u2 p2 => ?_)
    obtain ⟨rfl, -⟩ := p2
    refine z_icmp_eq_t (tgt := 1091) B0 dL_law_736 (by decide) rfl ?_
    exact fin u1 u2
  · obtain rfl : x2 = 10 := Int32.toInt_inj.mp (h2.trans (by decide))
    refine z_aload_n B0 dL_law_708 rfl rfl ?_
    refine z_aload_n B0 dL_law_709 rfl rfl ?_
    refine z_iload_n B0 dL_law_710 rfl rfl ?_
    refine z_iconst (v := 1) B0 dL_law_711 (by decide) ?_
    refine z_iadd (v := 1) B0 dL_law_712 (by decide) ?_
    refine y_sld (j := 1) (v := 5) B0 hX hbl (by decide) e1.symm dL_law_713 ?_
    refine z_aload_n B0 dL_law_714 rfl rfl ?_
    refine z_iload_n B0 dL_law_715 rfl rfl ?_
    refine z_iconst (v := 2) B0 dL_law_716 (by decide) ?_
    refine z_iadd (v := 2) B0 dL_law_717 (by decide) ?_
    refine y_sld (j := 2) (v := 10) B0 hX hbl (by decide) e2.symm dL_law_718 ?_
    refine z_callC B0 (z_runV (q0 := 0) (As := [.int 5, .int 10]) (st := []) B0 (c_X11_after_285 (a := a) (cS0 w)  ) cf_X11_after (cw_0 cy tE a rw (cS0 w)) rfl wm_L_87 wi_X11_after ws_X11_after dL_law_719 rfl (Nat.le_of_ble_eq_true rfl) ⟨by decide, by decide, by decide, by decide⟩) (fun r1 u1 p1 => ?_)
    obtain ⟨rfl, -⟩ := p1
    refine z_aload_n B0 dL_law_722 rfl rfl ?_
    refine z_aload_n B0 dL_law_723 rfl rfl ?_
    refine z_iload_n B0 dL_law_724 rfl rfl ?_
    refine z_iconst (v := 1) B0 dL_law_725 (by decide) ?_
    refine z_iadd (v := 1) B0 dL_law_726 (by decide) ?_
    refine y_sld (j := 1) (v := 5) B0 hX hbl (by decide) e1.symm dL_law_727 ?_
    refine z_aload_n B0 dL_law_728 rfl rfl ?_
    refine z_iload_n B0 dL_law_729 rfl rfl ?_
    refine z_iconst (v := 2) B0 dL_law_730 (by decide) ?_
    refine z_iadd (v := 2) B0 dL_law_731 (by decide) ?_
    refine y_sld (j := 2) (v := 10) B0 hX hbl (by decide) e2.symm dL_law_732 ?_
    refine z_callM B0 (z_runV (q0 := 0) (As := [.int 5, .int 10]) (st := [.int (-1)]) B0 (c_X12_after_285 (a := a2) mS0  rfl rfl rfl rfl rfl rfl rfl rfl rfl rfl rfl rfl rfl rfl rfl rfl rfl rfl rfl rfl rfl rfl rfl rfl rfl rfl rfl) cf_X12_after (mw_0 cy a2 mS0) rfl wm_L_90 wi_X12_after ws_X12_after dL_law_733 rfl (Nat.le_of_ble_eq_true rfl) ⟨by decide, by decide, by decide, by decide⟩) (fun r2 u2 p2 => ?_)
    obtain ⟨rfl, -⟩ := p2
    refine z_icmp_eq_t (tgt := 1091) B0 dL_law_736 (by decide) rfl ?_
    exact fin u1 u2
  · obtain rfl : x2 = 11 := Int32.toInt_inj.mp (h2.trans (by decide))
    refine z_aload_n B0 dL_law_708 rfl rfl ?_
    refine z_aload_n B0 dL_law_709 rfl rfl ?_
    refine z_iload_n B0 dL_law_710 rfl rfl ?_
    refine z_iconst (v := 1) B0 dL_law_711 (by decide) ?_
    refine z_iadd (v := 1) B0 dL_law_712 (by decide) ?_
    refine y_sld (j := 1) (v := 5) B0 hX hbl (by decide) e1.symm dL_law_713 ?_
    refine z_aload_n B0 dL_law_714 rfl rfl ?_
    refine z_iload_n B0 dL_law_715 rfl rfl ?_
    refine z_iconst (v := 2) B0 dL_law_716 (by decide) ?_
    refine z_iadd (v := 2) B0 dL_law_717 (by decide) ?_
    refine y_sld (j := 2) (v := 11) B0 hX hbl (by decide) e2.symm dL_law_718 ?_
    refine z_callC B0 (z_runV (q0 := 0) (As := [.int 5, .int 11]) (st := []) B0 (c_X11_after_286 (a := a) (cS0 w)  rfl rfl rfl hrw) cf_X11_after (cw_0 cy tE a rw (cS0 w)) rfl wm_L_87 wi_X11_after ws_X11_after dL_law_719 rfl (Nat.le_of_ble_eq_true rfl) ⟨by decide, by decide, by decide, by decide⟩) (fun r1 u1 p1 => ?_)
    obtain ⟨rfl, -⟩ := p1
    refine z_aload_n B0 dL_law_722 rfl rfl ?_
    refine z_aload_n B0 dL_law_723 rfl rfl ?_
    refine z_iload_n B0 dL_law_724 rfl rfl ?_
    refine z_iconst (v := 1) B0 dL_law_725 (by decide) ?_
    refine z_iadd (v := 1) B0 dL_law_726 (by decide) ?_
    refine y_sld (j := 1) (v := 5) B0 hX hbl (by decide) e1.symm dL_law_727 ?_
    refine z_aload_n B0 dL_law_728 rfl rfl ?_
    refine z_iload_n B0 dL_law_729 rfl rfl ?_
    refine z_iconst (v := 2) B0 dL_law_730 (by decide) ?_
    refine z_iadd (v := 2) B0 dL_law_731 (by decide) ?_
    refine y_sld (j := 2) (v := 11) B0 hX hbl (by decide) e2.symm dL_law_732 ?_
    refine z_callM B0 (z_runV (q0 := 0) (As := [.int 5, .int 11]) (st := [.int 0]) B0 (c_X12_after_286 (a := a2) mS0  rfl rfl rfl rfl rfl rfl rfl rfl rfl rfl rfl rfl rfl rfl rfl rfl rfl rfl rfl rfl rfl rfl rfl rfl rfl rfl rfl) cf_X12_after (mw_0 cy a2 mS0) rfl wm_L_90 wi_X12_after ws_X12_after dL_law_733 rfl (Nat.le_of_ble_eq_true rfl) ⟨by decide, by decide, by decide, by decide⟩) (fun r2 u2 p2 => ?_)
    obtain ⟨rfl, -⟩ := p2
    refine z_icmp_eq_t (tgt := 1091) B0 dL_law_736 (by decide) rfl ?_
    exact fin u1 u2
  · obtain rfl : x2 = 12 := Int32.toInt_inj.mp (h2.trans (by decide))
    refine z_aload_n B0 dL_law_708 rfl rfl ?_
    refine z_aload_n B0 dL_law_709 rfl rfl ?_
    refine z_iload_n B0 dL_law_710 rfl rfl ?_
    refine z_iconst (v := 1) B0 dL_law_711 (by decide) ?_
    refine z_iadd (v := 1) B0 dL_law_712 (by decide) ?_
    refine y_sld (j := 1) (v := 5) B0 hX hbl (by decide) e1.symm dL_law_713 ?_
    refine z_aload_n B0 dL_law_714 rfl rfl ?_
    refine z_iload_n B0 dL_law_715 rfl rfl ?_
    refine z_iconst (v := 2) B0 dL_law_716 (by decide) ?_
    refine z_iadd (v := 2) B0 dL_law_717 (by decide) ?_
    refine y_sld (j := 2) (v := 12) B0 hX hbl (by decide) e2.symm dL_law_718 ?_
    refine z_callC B0 (z_runV (q0 := 0) (As := [.int 5, .int 12]) (st := []) B0 (c_X11_after_287 (a := a) (cS0 w)  rfl rfl rfl hrw) cf_X11_after (cw_0 cy tE a rw (cS0 w)) rfl wm_L_87 wi_X11_after ws_X11_after dL_law_719 rfl (Nat.le_of_ble_eq_true rfl) ⟨by decide, by decide, by decide, by decide⟩) (fun r1 u1 p1 => ?_)
    obtain ⟨rfl, -⟩ := p1
    refine z_aload_n B0 dL_law_722 rfl rfl ?_
    refine z_aload_n B0 dL_law_723 rfl rfl ?_
    refine z_iload_n B0 dL_law_724 rfl rfl ?_
    refine z_iconst (v := 1) B0 dL_law_725 (by decide) ?_
    refine z_iadd (v := 1) B0 dL_law_726 (by decide) ?_
    refine y_sld (j := 1) (v := 5) B0 hX hbl (by decide) e1.symm dL_law_727 ?_
    refine z_aload_n B0 dL_law_728 rfl rfl ?_
    refine z_iload_n B0 dL_law_729 rfl rfl ?_
    refine z_iconst (v := 2) B0 dL_law_730 (by decide) ?_
    refine z_iadd (v := 2) B0 dL_law_731 (by decide) ?_
    refine y_sld (j := 2) (v := 12) B0 hX hbl (by decide) e2.symm dL_law_732 ?_
    refine z_callM B0 (z_runV (q0 := 0) (As := [.int 5, .int 12]) (st := [.int 0]) B0 (c_X12_after_287 (a := a2) mS0  rfl rfl rfl rfl rfl rfl rfl rfl rfl rfl rfl rfl rfl rfl rfl rfl rfl rfl rfl rfl rfl rfl rfl rfl rfl rfl rfl) cf_X12_after (mw_0 cy a2 mS0) rfl wm_L_90 wi_X12_after ws_X12_after dL_law_733 rfl (Nat.le_of_ble_eq_true rfl) ⟨by decide, by decide, by decide, by decide⟩) (fun r2 u2 p2 => ?_)
    obtain ⟨rfl, -⟩ := p2
    refine z_icmp_eq_t (tgt := 1091) B0 dL_law_736 (by decide) rfl ?_
    exact fin u1 u2
  · obtain rfl : x2 = 13 := Int32.toInt_inj.mp (h2.trans (by decide))
    refine z_aload_n B0 dL_law_708 rfl rfl ?_
    refine z_aload_n B0 dL_law_709 rfl rfl ?_
    refine z_iload_n B0 dL_law_710 rfl rfl ?_
    refine z_iconst (v := 1) B0 dL_law_711 (by decide) ?_
    refine z_iadd (v := 1) B0 dL_law_712 (by decide) ?_
    refine y_sld (j := 1) (v := 5) B0 hX hbl (by decide) e1.symm dL_law_713 ?_
    refine z_aload_n B0 dL_law_714 rfl rfl ?_
    refine z_iload_n B0 dL_law_715 rfl rfl ?_
    refine z_iconst (v := 2) B0 dL_law_716 (by decide) ?_
    refine z_iadd (v := 2) B0 dL_law_717 (by decide) ?_
    refine y_sld (j := 2) (v := 13) B0 hX hbl (by decide) e2.symm dL_law_718 ?_
    refine z_callC B0 (z_runV (q0 := 0) (As := [.int 5, .int 13]) (st := []) B0 (c_X11_after_288 (a := a) (cS0 w)  rfl rfl rfl hrw) cf_X11_after (cw_0 cy tE a rw (cS0 w)) rfl wm_L_87 wi_X11_after ws_X11_after dL_law_719 rfl (Nat.le_of_ble_eq_true rfl) ⟨by decide, by decide, by decide, by decide⟩) (fun r1 u1 p1 => ?_)
    obtain ⟨rfl, -⟩ := p1
    refine z_aload_n B0 dL_law_722 rfl rfl ?_
    refine z_aload_n B0 dL_law_723 rfl rfl ?_
    refine z_iload_n B0 dL_law_724 rfl rfl ?_
    refine z_iconst (v := 1) B0 dL_law_725 (by decide) ?_
    refine z_iadd (v := 1) B0 dL_law_726 (by decide) ?_
    refine y_sld (j := 1) (v := 5) B0 hX hbl (by decide) e1.symm dL_law_727 ?_
    refine z_aload_n B0 dL_law_728 rfl rfl ?_
    refine z_iload_n B0 dL_law_729 rfl rfl ?_
    refine z_iconst (v := 2) B0 dL_law_730 (by decide) ?_
    refine z_iadd (v := 2) B0 dL_law_731 (by decide) ?_
    refine y_sld (j := 2) (v := 13) B0 hX hbl (by decide) e2.symm dL_law_732 ?_
    refine z_callM B0 (z_runV (q0 := 0) (As := [.int 5, .int 13]) (st := [.int 0]) B0 (c_X12_after_288 (a := a2) mS0  rfl rfl rfl rfl rfl rfl rfl rfl rfl rfl rfl rfl rfl rfl rfl rfl rfl rfl rfl rfl rfl rfl rfl rfl rfl rfl rfl) cf_X12_after (mw_0 cy a2 mS0) rfl wm_L_90 wi_X12_after ws_X12_after dL_law_733 rfl (Nat.le_of_ble_eq_true rfl) ⟨by decide, by decide, by decide, by decide⟩) (fun r2 u2 p2 => ?_)
    obtain ⟨rfl, -⟩ := p2
    refine z_icmp_eq_t (tgt := 1091) B0 dL_law_736 (by decide) rfl ?_
    exact fin u1 u2
  · obtain rfl : x2 = 14 := Int32.toInt_inj.mp (h2.trans (by decide))
    refine z_aload_n B0 dL_law_708 rfl rfl ?_
    refine z_aload_n B0 dL_law_709 rfl rfl ?_
    refine z_iload_n B0 dL_law_710 rfl rfl ?_
    refine z_iconst (v := 1) B0 dL_law_711 (by decide) ?_
    refine z_iadd (v := 1) B0 dL_law_712 (by decide) ?_
    refine y_sld (j := 1) (v := 5) B0 hX hbl (by decide) e1.symm dL_law_713 ?_
    refine z_aload_n B0 dL_law_714 rfl rfl ?_
    refine z_iload_n B0 dL_law_715 rfl rfl ?_
    refine z_iconst (v := 2) B0 dL_law_716 (by decide) ?_
    refine z_iadd (v := 2) B0 dL_law_717 (by decide) ?_
    refine y_sld (j := 2) (v := 14) B0 hX hbl (by decide) e2.symm dL_law_718 ?_
    refine z_callC B0 (z_runV (q0 := 0) (As := [.int 5, .int 14]) (st := []) B0 (c_X11_after_289 (a := a) (cS0 w)  ) cf_X11_after (cw_0 cy tE a rw (cS0 w)) rfl wm_L_87 wi_X11_after ws_X11_after dL_law_719 rfl (Nat.le_of_ble_eq_true rfl) ⟨by decide, by decide, by decide, by decide⟩) (fun r1 u1 p1 => ?_)
    obtain ⟨rfl, -⟩ := p1
    refine z_aload_n B0 dL_law_722 rfl rfl ?_
    refine z_aload_n B0 dL_law_723 rfl rfl ?_
    refine z_iload_n B0 dL_law_724 rfl rfl ?_
    refine z_iconst (v := 1) B0 dL_law_725 (by decide) ?_
    refine z_iadd (v := 1) B0 dL_law_726 (by decide) ?_
    refine y_sld (j := 1) (v := 5) B0 hX hbl (by decide) e1.symm dL_law_727 ?_
    refine z_aload_n B0 dL_law_728 rfl rfl ?_
    refine z_iload_n B0 dL_law_729 rfl rfl ?_
    refine z_iconst (v := 2) B0 dL_law_730 (by decide) ?_
    refine z_iadd (v := 2) B0 dL_law_731 (by decide) ?_
    refine y_sld (j := 2) (v := 14) B0 hX hbl (by decide) e2.symm dL_law_732 ?_
    refine z_callM B0 (z_runV (q0 := 0) (As := [.int 5, .int 14]) (st := [.int (-1)]) B0 (c_X12_after_289 (a := a2) mS0  rfl rfl rfl rfl rfl rfl rfl rfl rfl rfl rfl rfl rfl rfl rfl rfl rfl rfl rfl rfl rfl rfl rfl rfl rfl rfl rfl) cf_X12_after (mw_0 cy a2 mS0) rfl wm_L_90 wi_X12_after ws_X12_after dL_law_733 rfl (Nat.le_of_ble_eq_true rfl) ⟨by decide, by decide, by decide, by decide⟩) (fun r2 u2 p2 => ?_)
    obtain ⟨rfl, -⟩ := p2
    refine z_icmp_eq_t (tgt := 1091) B0 dL_law_736 (by decide) rfl ?_
    exact fin u1 u2
  · obtain rfl : x2 = 15 := Int32.toInt_inj.mp (h2.trans (by decide))
    refine z_aload_n B0 dL_law_708 rfl rfl ?_
    refine z_aload_n B0 dL_law_709 rfl rfl ?_
    refine z_iload_n B0 dL_law_710 rfl rfl ?_
    refine z_iconst (v := 1) B0 dL_law_711 (by decide) ?_
    refine z_iadd (v := 1) B0 dL_law_712 (by decide) ?_
    refine y_sld (j := 1) (v := 5) B0 hX hbl (by decide) e1.symm dL_law_713 ?_
    refine z_aload_n B0 dL_law_714 rfl rfl ?_
    refine z_iload_n B0 dL_law_715 rfl rfl ?_
    refine z_iconst (v := 2) B0 dL_law_716 (by decide) ?_
    refine z_iadd (v := 2) B0 dL_law_717 (by decide) ?_
    refine y_sld (j := 2) (v := 15) B0 hX hbl (by decide) e2.symm dL_law_718 ?_
    refine z_callC B0 (z_runV (q0 := 0) (As := [.int 5, .int 15]) (st := []) B0 (c_X11_after_290 (a := a) (cS0 w)  rfl rfl rfl hrw) cf_X11_after (cw_0 cy tE a rw (cS0 w)) rfl wm_L_87 wi_X11_after ws_X11_after dL_law_719 rfl (Nat.le_of_ble_eq_true rfl) ⟨by decide, by decide, by decide, by decide⟩) (fun r1 u1 p1 => ?_)
    obtain ⟨rfl, -⟩ := p1
    refine z_aload_n B0 dL_law_722 rfl rfl ?_
    refine z_aload_n B0 dL_law_723 rfl rfl ?_
    refine z_iload_n B0 dL_law_724 rfl rfl ?_
    refine z_iconst (v := 1) B0 dL_law_725 (by decide) ?_
    refine z_iadd (v := 1) B0 dL_law_726 (by decide) ?_
    refine y_sld (j := 1) (v := 5) B0 hX hbl (by decide) e1.symm dL_law_727 ?_
    refine z_aload_n B0 dL_law_728 rfl rfl ?_
    refine z_iload_n B0 dL_law_729 rfl rfl ?_
    refine z_iconst (v := 2) B0 dL_law_730 (by decide) ?_
    refine z_iadd (v := 2) B0 dL_law_731 (by decide) ?_
    refine y_sld (j := 2) (v := 15) B0 hX hbl (by decide) e2.symm dL_law_732 ?_
    refine z_callM B0 (z_runV (q0 := 0) (As := [.int 5, .int 15]) (st := [.int 0]) B0 (c_X12_after_290 (a := a2) mS0  rfl rfl rfl rfl rfl rfl rfl rfl rfl rfl rfl rfl rfl rfl rfl rfl rfl rfl rfl rfl rfl rfl rfl rfl rfl rfl rfl) cf_X12_after (mw_0 cy a2 mS0) rfl wm_L_90 wi_X12_after ws_X12_after dL_law_733 rfl (Nat.le_of_ble_eq_true rfl) ⟨by decide, by decide, by decide, by decide⟩) (fun r2 u2 p2 => ?_)
    obtain ⟨rfl, -⟩ := p2
    refine z_icmp_eq_t (tgt := 1091) B0 dL_law_736 (by decide) rfl ?_
    exact fin u1 u2
  · obtain rfl : x2 = 16 := Int32.toInt_inj.mp (h2.trans (by decide))
    refine z_aload_n B0 dL_law_708 rfl rfl ?_
    refine z_aload_n B0 dL_law_709 rfl rfl ?_
    refine z_iload_n B0 dL_law_710 rfl rfl ?_
    refine z_iconst (v := 1) B0 dL_law_711 (by decide) ?_
    refine z_iadd (v := 1) B0 dL_law_712 (by decide) ?_
    refine y_sld (j := 1) (v := 5) B0 hX hbl (by decide) e1.symm dL_law_713 ?_
    refine z_aload_n B0 dL_law_714 rfl rfl ?_
    refine z_iload_n B0 dL_law_715 rfl rfl ?_
    refine z_iconst (v := 2) B0 dL_law_716 (by decide) ?_
    refine z_iadd (v := 2) B0 dL_law_717 (by decide) ?_
    refine y_sld (j := 2) (v := 16) B0 hX hbl (by decide) e2.symm dL_law_718 ?_
    refine z_callC B0 (z_runV (q0 := 0) (As := [.int 5, .int 16]) (st := []) B0 (c_X11_after_291 (a := a) (cS0 w)  rfl rfl rfl hrw) cf_X11_after (cw_0 cy tE a rw (cS0 w)) rfl wm_L_87 wi_X11_after ws_X11_after dL_law_719 rfl (Nat.le_of_ble_eq_true rfl) ⟨by decide, by decide, by decide, by decide⟩) (fun r1 u1 p1 => ?_)
    obtain ⟨rfl, -⟩ := p1
    refine z_aload_n B0 dL_law_722 rfl rfl ?_
    refine z_aload_n B0 dL_law_723 rfl rfl ?_
    refine z_iload_n B0 dL_law_724 rfl rfl ?_
    refine z_iconst (v := 1) B0 dL_law_725 (by decide) ?_
    refine z_iadd (v := 1) B0 dL_law_726 (by decide) ?_
    refine y_sld (j := 1) (v := 5) B0 hX hbl (by decide) e1.symm dL_law_727 ?_
    refine z_aload_n B0 dL_law_728 rfl rfl ?_
    refine z_iload_n B0 dL_law_729 rfl rfl ?_
    refine z_iconst (v := 2) B0 dL_law_730 (by decide) ?_
    refine z_iadd (v := 2) B0 dL_law_731 (by decide) ?_
    refine y_sld (j := 2) (v := 16) B0 hX hbl (by decide) e2.symm dL_law_732 ?_
    refine z_callM B0 (z_runV (q0 := 0) (As := [.int 5, .int 16]) (st := [.int 0]) B0 (c_X12_after_291 (a := a2) mS0  rfl rfl rfl rfl rfl rfl rfl rfl rfl rfl rfl rfl rfl rfl rfl rfl rfl rfl rfl rfl rfl rfl rfl rfl rfl rfl rfl) cf_X12_after (mw_0 cy a2 mS0) rfl wm_L_90 wi_X12_after ws_X12_after dL_law_733 rfl (Nat.le_of_ble_eq_true rfl) ⟨by decide, by decide, by decide, by decide⟩) (fun r2 u2 p2 => ?_)
    obtain ⟨rfl, -⟩ := p2
    refine z_icmp_eq_t (tgt := 1091) B0 dL_law_736 (by decide) rfl ?_
    exact fin u1 u2
  · obtain rfl : x2 = 17 := Int32.toInt_inj.mp (h2.trans (by decide))
    refine z_aload_n B0 dL_law_708 rfl rfl ?_
    refine z_aload_n B0 dL_law_709 rfl rfl ?_
    refine z_iload_n B0 dL_law_710 rfl rfl ?_
    refine z_iconst (v := 1) B0 dL_law_711 (by decide) ?_
    refine z_iadd (v := 1) B0 dL_law_712 (by decide) ?_
    refine y_sld (j := 1) (v := 5) B0 hX hbl (by decide) e1.symm dL_law_713 ?_
    refine z_aload_n B0 dL_law_714 rfl rfl ?_
    refine z_iload_n B0 dL_law_715 rfl rfl ?_
    refine z_iconst (v := 2) B0 dL_law_716 (by decide) ?_
    refine z_iadd (v := 2) B0 dL_law_717 (by decide) ?_
    refine y_sld (j := 2) (v := 17) B0 hX hbl (by decide) e2.symm dL_law_718 ?_
    refine z_callC B0 (z_runV (q0 := 0) (As := [.int 5, .int 17]) (st := []) B0 (c_X11_after_292 (a := a) (cS0 w)  rfl rfl rfl hrw) cf_X11_after (cw_0 cy tE a rw (cS0 w)) rfl wm_L_87 wi_X11_after ws_X11_after dL_law_719 rfl (Nat.le_of_ble_eq_true rfl) ⟨by decide, by decide, by decide, by decide⟩) (fun r1 u1 p1 => ?_)
    obtain ⟨rfl, -⟩ := p1
    refine z_aload_n B0 dL_law_722 rfl rfl ?_
    refine z_aload_n B0 dL_law_723 rfl rfl ?_
    refine z_iload_n B0 dL_law_724 rfl rfl ?_
    refine z_iconst (v := 1) B0 dL_law_725 (by decide) ?_
    refine z_iadd (v := 1) B0 dL_law_726 (by decide) ?_
    refine y_sld (j := 1) (v := 5) B0 hX hbl (by decide) e1.symm dL_law_727 ?_
    refine z_aload_n B0 dL_law_728 rfl rfl ?_
    refine z_iload_n B0 dL_law_729 rfl rfl ?_
    refine z_iconst (v := 2) B0 dL_law_730 (by decide) ?_
    refine z_iadd (v := 2) B0 dL_law_731 (by decide) ?_
    refine y_sld (j := 2) (v := 17) B0 hX hbl (by decide) e2.symm dL_law_732 ?_
    refine z_callM B0 (z_runV (q0 := 0) (As := [.int 5, .int 17]) (st := [.int 0]) B0 (c_X12_after_292 (a := a2) mS0  rfl rfl rfl rfl rfl rfl rfl rfl rfl rfl rfl rfl rfl rfl rfl rfl rfl rfl rfl rfl rfl rfl rfl rfl rfl rfl rfl) cf_X12_after (mw_0 cy a2 mS0) rfl wm_L_90 wi_X12_after ws_X12_after dL_law_733 rfl (Nat.le_of_ble_eq_true rfl) ⟨by decide, by decide, by decide, by decide⟩) (fun r2 u2 p2 => ?_)
    obtain ⟨rfl, -⟩ := p2
    refine z_icmp_eq_t (tgt := 1091) B0 dL_law_736 (by decide) rfl ?_
    exact fin u1 u2
  · obtain rfl : x2 = 18 := Int32.toInt_inj.mp (h2.trans (by decide))
    refine z_aload_n B0 dL_law_708 rfl rfl ?_
    refine z_aload_n B0 dL_law_709 rfl rfl ?_
    refine z_iload_n B0 dL_law_710 rfl rfl ?_
    refine z_iconst (v := 1) B0 dL_law_711 (by decide) ?_
    refine z_iadd (v := 1) B0 dL_law_712 (by decide) ?_
    refine y_sld (j := 1) (v := 5) B0 hX hbl (by decide) e1.symm dL_law_713 ?_
    refine z_aload_n B0 dL_law_714 rfl rfl ?_
    refine z_iload_n B0 dL_law_715 rfl rfl ?_
    refine z_iconst (v := 2) B0 dL_law_716 (by decide) ?_
    refine z_iadd (v := 2) B0 dL_law_717 (by decide) ?_
    refine y_sld (j := 2) (v := 18) B0 hX hbl (by decide) e2.symm dL_law_718 ?_
    refine z_callC B0 (z_runV (q0 := 0) (As := [.int 5, .int 18]) (st := []) B0 (c_X11_after_293 (a := a) (cS0 w)  ) cf_X11_after (cw_0 cy tE a rw (cS0 w)) rfl wm_L_87 wi_X11_after ws_X11_after dL_law_719 rfl (Nat.le_of_ble_eq_true rfl) ⟨by decide, by decide, by decide, by decide⟩) (fun r1 u1 p1 => ?_)
    obtain ⟨rfl, -⟩ := p1
    refine z_aload_n B0 dL_law_722 rfl rfl ?_
    refine z_aload_n B0 dL_law_723 rfl rfl ?_
    refine z_iload_n B0 dL_law_724 rfl rfl ?_
    refine z_iconst (v := 1) B0 dL_law_725 (by decide) ?_
    refine z_iadd (v := 1) B0 dL_law_726 (by decide) ?_
    refine y_sld (j := 1) (v := 5) B0 hX hbl (by decide) e1.symm dL_law_727 ?_
    refine z_aload_n B0 dL_law_728 rfl rfl ?_
    refine z_iload_n B0 dL_law_729 rfl rfl ?_
    refine z_iconst (v := 2) B0 dL_law_730 (by decide) ?_
    refine z_iadd (v := 2) B0 dL_law_731 (by decide) ?_
    refine y_sld (j := 2) (v := 18) B0 hX hbl (by decide) e2.symm dL_law_732 ?_
    refine z_callM B0 (z_runV (q0 := 0) (As := [.int 5, .int 18]) (st := [.int (-1)]) B0 (c_X12_after_293 (a := a2) mS0  rfl rfl rfl rfl rfl rfl rfl rfl rfl rfl rfl rfl rfl rfl rfl rfl rfl rfl rfl rfl rfl rfl rfl rfl rfl rfl rfl) cf_X12_after (mw_0 cy a2 mS0) rfl wm_L_90 wi_X12_after ws_X12_after dL_law_733 rfl (Nat.le_of_ble_eq_true rfl) ⟨by decide, by decide, by decide, by decide⟩) (fun r2 u2 p2 => ?_)
    obtain ⟨rfl, -⟩ := p2
    refine z_icmp_eq_t (tgt := 1091) B0 dL_law_736 (by decide) rfl ?_
    exact fin u1 u2
  · obtain rfl : x2 = 19 := Int32.toInt_inj.mp (h2.trans (by decide))
    refine z_aload_n B0 dL_law_708 rfl rfl ?_
    refine z_aload_n B0 dL_law_709 rfl rfl ?_
    refine z_iload_n B0 dL_law_710 rfl rfl ?_
    refine z_iconst (v := 1) B0 dL_law_711 (by decide) ?_
    refine z_iadd (v := 1) B0 dL_law_712 (by decide) ?_
    refine y_sld (j := 1) (v := 5) B0 hX hbl (by decide) e1.symm dL_law_713 ?_
    refine z_aload_n B0 dL_law_714 rfl rfl ?_
    refine z_iload_n B0 dL_law_715 rfl rfl ?_
    refine z_iconst (v := 2) B0 dL_law_716 (by decide) ?_
    refine z_iadd (v := 2) B0 dL_law_717 (by decide) ?_
    refine y_sld (j := 2) (v := 19) B0 hX hbl (by decide) e2.symm dL_law_718 ?_
    refine z_callC B0 (z_runV (q0 := 0) (As := [.int 5, .int 19]) (st := []) B0 (c_X11_after_294 (a := a) (cS0 w)  ) cf_X11_after (cw_0 cy tE a rw (cS0 w)) rfl wm_L_87 wi_X11_after ws_X11_after dL_law_719 rfl (Nat.le_of_ble_eq_true rfl) ⟨by decide, by decide, by decide, by decide⟩) (fun r1 u1 p1 => ?_)
    obtain ⟨rfl, -⟩ := p1
    refine z_aload_n B0 dL_law_722 rfl rfl ?_
    refine z_aload_n B0 dL_law_723 rfl rfl ?_
    refine z_iload_n B0 dL_law_724 rfl rfl ?_
    refine z_iconst (v := 1) B0 dL_law_725 (by decide) ?_
    refine z_iadd (v := 1) B0 dL_law_726 (by decide) ?_
    refine y_sld (j := 1) (v := 5) B0 hX hbl (by decide) e1.symm dL_law_727 ?_
    refine z_aload_n B0 dL_law_728 rfl rfl ?_
    refine z_iload_n B0 dL_law_729 rfl rfl ?_
    refine z_iconst (v := 2) B0 dL_law_730 (by decide) ?_
    refine z_iadd (v := 2) B0 dL_law_731 (by decide) ?_
    refine y_sld (j := 2) (v := 19) B0 hX hbl (by decide) e2.symm dL_law_732 ?_
    refine z_callM B0 (z_runV (q0 := 0) (As := [.int 5, .int 19]) (st := [.int (-1)]) B0 (c_X12_after_294 (a := a2) mS0  rfl rfl rfl rfl rfl rfl rfl rfl rfl rfl rfl rfl rfl rfl rfl rfl rfl rfl rfl rfl rfl rfl rfl rfl rfl rfl rfl) cf_X12_after (mw_0 cy a2 mS0) rfl wm_L_90 wi_X12_after ws_X12_after dL_law_733 rfl (Nat.le_of_ble_eq_true rfl) ⟨by decide, by decide, by decide, by decide⟩) (fun r2 u2 p2 => ?_)
    obtain ⟨rfl, -⟩ := p2
    refine z_icmp_eq_t (tgt := 1091) B0 dL_law_736 (by decide) rfl ?_
    exact fin u1 u2
  · obtain rfl : x2 = 20 := Int32.toInt_inj.mp (h2.trans (by decide))
    refine z_aload_n B0 dL_law_708 rfl rfl ?_
    refine z_aload_n B0 dL_law_709 rfl rfl ?_
    refine z_iload_n B0 dL_law_710 rfl rfl ?_
    refine z_iconst (v := 1) B0 dL_law_711 (by decide) ?_
    refine z_iadd (v := 1) B0 dL_law_712 (by decide) ?_
    refine y_sld (j := 1) (v := 5) B0 hX hbl (by decide) e1.symm dL_law_713 ?_
    refine z_aload_n B0 dL_law_714 rfl rfl ?_
    refine z_iload_n B0 dL_law_715 rfl rfl ?_
    refine z_iconst (v := 2) B0 dL_law_716 (by decide) ?_
    refine z_iadd (v := 2) B0 dL_law_717 (by decide) ?_
    refine y_sld (j := 2) (v := 20) B0 hX hbl (by decide) e2.symm dL_law_718 ?_
    refine z_callC B0 (z_runV (q0 := 0) (As := [.int 5, .int 20]) (st := []) B0 (c_X11_after_295 (a := a) (cS0 w)  ) cf_X11_after (cw_0 cy tE a rw (cS0 w)) rfl wm_L_87 wi_X11_after ws_X11_after dL_law_719 rfl (Nat.le_of_ble_eq_true rfl) ⟨by decide, by decide, by decide, by decide⟩) (fun r1 u1 p1 => ?_)
    obtain ⟨rfl, -⟩ := p1
    refine z_aload_n B0 dL_law_722 rfl rfl ?_
    refine z_aload_n B0 dL_law_723 rfl rfl ?_
    refine z_iload_n B0 dL_law_724 rfl rfl ?_
    refine z_iconst (v := 1) B0 dL_law_725 (by decide) ?_
    refine z_iadd (v := 1) B0 dL_law_726 (by decide) ?_
    refine y_sld (j := 1) (v := 5) B0 hX hbl (by decide) e1.symm dL_law_727 ?_
    refine z_aload_n B0 dL_law_728 rfl rfl ?_
    refine z_iload_n B0 dL_law_729 rfl rfl ?_
    refine z_iconst (v := 2) B0 dL_law_730 (by decide) ?_
    refine z_iadd (v := 2) B0 dL_law_731 (by decide) ?_
    refine y_sld (j := 2) (v := 20) B0 hX hbl (by decide) e2.symm dL_law_732 ?_
    refine z_callM B0 (z_runV (q0 := 0) (As := [.int 5, .int 20]) (st := [.int (-1)]) B0 (c_X12_after_295 (a := a2) mS0  rfl rfl rfl rfl rfl rfl rfl rfl rfl rfl rfl rfl rfl rfl rfl rfl rfl rfl rfl rfl rfl rfl rfl rfl rfl rfl rfl) cf_X12_after (mw_0 cy a2 mS0) rfl wm_L_90 wi_X12_after ws_X12_after dL_law_733 rfl (Nat.le_of_ble_eq_true rfl) ⟨by decide, by decide, by decide, by decide⟩) (fun r2 u2 p2 => ?_)
    obtain ⟨rfl, -⟩ := p2
    refine z_icmp_eq_t (tgt := 1091) B0 dL_law_736 (by decide) rfl ?_
    exact fin u1 u2
  · obtain rfl : x2 = 21 := Int32.toInt_inj.mp (h2.trans (by decide))
    refine z_aload_n B0 dL_law_708 rfl rfl ?_
    refine z_aload_n B0 dL_law_709 rfl rfl ?_
    refine z_iload_n B0 dL_law_710 rfl rfl ?_
    refine z_iconst (v := 1) B0 dL_law_711 (by decide) ?_
    refine z_iadd (v := 1) B0 dL_law_712 (by decide) ?_
    refine y_sld (j := 1) (v := 5) B0 hX hbl (by decide) e1.symm dL_law_713 ?_
    refine z_aload_n B0 dL_law_714 rfl rfl ?_
    refine z_iload_n B0 dL_law_715 rfl rfl ?_
    refine z_iconst (v := 2) B0 dL_law_716 (by decide) ?_
    refine z_iadd (v := 2) B0 dL_law_717 (by decide) ?_
    refine y_sld (j := 2) (v := 21) B0 hX hbl (by decide) e2.symm dL_law_718 ?_
    refine z_callC B0 (z_runV (q0 := 0) (As := [.int 5, .int 21]) (st := []) B0 (c_X11_after_296 (a := a) (cS0 w)  rfl rfl rfl hrw) cf_X11_after (cw_0 cy tE a rw (cS0 w)) rfl wm_L_87 wi_X11_after ws_X11_after dL_law_719 rfl (Nat.le_of_ble_eq_true rfl) ⟨by decide, by decide, by decide, by decide⟩) (fun r1 u1 p1 => ?_)
    obtain ⟨rfl, -⟩ := p1
    refine z_aload_n B0 dL_law_722 rfl rfl ?_
    refine z_aload_n B0 dL_law_723 rfl rfl ?_
    refine z_iload_n B0 dL_law_724 rfl rfl ?_
    refine z_iconst (v := 1) B0 dL_law_725 (by decide) ?_
    refine z_iadd (v := 1) B0 dL_law_726 (by decide) ?_
    refine y_sld (j := 1) (v := 5) B0 hX hbl (by decide) e1.symm dL_law_727 ?_
    refine z_aload_n B0 dL_law_728 rfl rfl ?_
    refine z_iload_n B0 dL_law_729 rfl rfl ?_
    refine z_iconst (v := 2) B0 dL_law_730 (by decide) ?_
    refine z_iadd (v := 2) B0 dL_law_731 (by decide) ?_
    refine y_sld (j := 2) (v := 21) B0 hX hbl (by decide) e2.symm dL_law_732 ?_
    refine z_callM B0 (z_runV (q0 := 0) (As := [.int 5, .int 21]) (st := [.int 0]) B0 (c_X12_after_296 (a := a2) mS0  rfl rfl rfl rfl rfl rfl rfl rfl rfl rfl rfl rfl rfl rfl rfl rfl rfl rfl rfl rfl rfl rfl rfl rfl rfl rfl rfl) cf_X12_after (mw_0 cy a2 mS0) rfl wm_L_90 wi_X12_after ws_X12_after dL_law_733 rfl (Nat.le_of_ble_eq_true rfl) ⟨by decide, by decide, by decide, by decide⟩) (fun r2 u2 p2 => ?_)
    obtain ⟨rfl, -⟩ := p2
    refine z_icmp_eq_t (tgt := 1091) B0 dL_law_736 (by decide) rfl ?_
    exact fin u1 u2
  · obtain rfl : x2 = 22 := Int32.toInt_inj.mp (h2.trans (by decide))
    refine z_aload_n B0 dL_law_708 rfl rfl ?_
    refine z_aload_n B0 dL_law_709 rfl rfl ?_
    refine z_iload_n B0 dL_law_710 rfl rfl ?_
    refine z_iconst (v := 1) B0 dL_law_711 (by decide) ?_
    refine z_iadd (v := 1) B0 dL_law_712 (by decide) ?_
    refine y_sld (j := 1) (v := 5) B0 hX hbl (by decide) e1.symm dL_law_713 ?_
    refine z_aload_n B0 dL_law_714 rfl rfl ?_
    refine z_iload_n B0 dL_law_715 rfl rfl ?_
    refine z_iconst (v := 2) B0 dL_law_716 (by decide) ?_
    refine z_iadd (v := 2) B0 dL_law_717 (by decide) ?_
    refine y_sld (j := 2) (v := 22) B0 hX hbl (by decide) e2.symm dL_law_718 ?_
    refine z_callC B0 (z_runV (q0 := 0) (As := [.int 5, .int 22]) (st := []) B0 (c_X11_after_297 (a := a) (cS0 w)  rfl rfl rfl hrw) cf_X11_after (cw_0 cy tE a rw (cS0 w)) rfl wm_L_87 wi_X11_after ws_X11_after dL_law_719 rfl (Nat.le_of_ble_eq_true rfl) ⟨by decide, by decide, by decide, by decide⟩) (fun r1 u1 p1 => ?_)
    obtain ⟨rfl, -⟩ := p1
    refine z_aload_n B0 dL_law_722 rfl rfl ?_
    refine z_aload_n B0 dL_law_723 rfl rfl ?_
    refine z_iload_n B0 dL_law_724 rfl rfl ?_
    refine z_iconst (v := 1) B0 dL_law_725 (by decide) ?_
    refine z_iadd (v := 1) B0 dL_law_726 (by decide) ?_
    refine y_sld (j := 1) (v := 5) B0 hX hbl (by decide) e1.symm dL_law_727 ?_
    refine z_aload_n B0 dL_law_728 rfl rfl ?_
    refine z_iload_n B0 dL_law_729 rfl rfl ?_
    refine z_iconst (v := 2) B0 dL_law_730 (by decide) ?_
    refine z_iadd (v := 2) B0 dL_law_731 (by decide) ?_
    refine y_sld (j := 2) (v := 22) B0 hX hbl (by decide) e2.symm dL_law_732 ?_
    refine z_callM B0 (z_runV (q0 := 0) (As := [.int 5, .int 22]) (st := [.int 0]) B0 (c_X12_after_297 (a := a2) mS0  rfl rfl rfl rfl rfl rfl rfl rfl rfl rfl rfl rfl rfl rfl rfl rfl rfl rfl rfl rfl rfl rfl rfl rfl rfl rfl rfl) cf_X12_after (mw_0 cy a2 mS0) rfl wm_L_90 wi_X12_after ws_X12_after dL_law_733 rfl (Nat.le_of_ble_eq_true rfl) ⟨by decide, by decide, by decide, by decide⟩) (fun r2 u2 p2 => ?_)
    obtain ⟨rfl, -⟩ := p2
    refine z_icmp_eq_t (tgt := 1091) B0 dL_law_736 (by decide) rfl ?_
    exact fin u1 u2
  · obtain rfl : x2 = 23 := Int32.toInt_inj.mp (h2.trans (by decide))
    refine z_aload_n B0 dL_law_708 rfl rfl ?_
    refine z_aload_n B0 dL_law_709 rfl rfl ?_
    refine z_iload_n B0 dL_law_710 rfl rfl ?_
    refine z_iconst (v := 1) B0 dL_law_711 (by decide) ?_
    refine z_iadd (v := 1) B0 dL_law_712 (by decide) ?_
    refine y_sld (j := 1) (v := 5) B0 hX hbl (by decide) e1.symm dL_law_713 ?_
    refine z_aload_n B0 dL_law_714 rfl rfl ?_
    refine z_iload_n B0 dL_law_715 rfl rfl ?_
    refine z_iconst (v := 2) B0 dL_law_716 (by decide) ?_
    refine z_iadd (v := 2) B0 dL_law_717 (by decide) ?_
    refine y_sld (j := 2) (v := 23) B0 hX hbl (by decide) e2.symm dL_law_718 ?_
    refine z_callC B0 (z_runV (q0 := 0) (As := [.int 5, .int 23]) (st := []) B0 (c_X11_after_298 (a := a) (cS0 w)  rfl rfl rfl hrw) cf_X11_after (cw_0 cy tE a rw (cS0 w)) rfl wm_L_87 wi_X11_after ws_X11_after dL_law_719 rfl (Nat.le_of_ble_eq_true rfl) ⟨by decide, by decide, by decide, by decide⟩) (fun r1 u1 p1 => ?_)
    obtain ⟨rfl, -⟩ := p1
    refine z_aload_n B0 dL_law_722 rfl rfl ?_
    refine z_aload_n B0 dL_law_723 rfl rfl ?_
    refine z_iload_n B0 dL_law_724 rfl rfl ?_
    refine z_iconst (v := 1) B0 dL_law_725 (by decide) ?_
    refine z_iadd (v := 1) B0 dL_law_726 (by decide) ?_
    refine y_sld (j := 1) (v := 5) B0 hX hbl (by decide) e1.symm dL_law_727 ?_
    refine z_aload_n B0 dL_law_728 rfl rfl ?_
    refine z_iload_n B0 dL_law_729 rfl rfl ?_
    refine z_iconst (v := 2) B0 dL_law_730 (by decide) ?_
    refine z_iadd (v := 2) B0 dL_law_731 (by decide) ?_
    refine y_sld (j := 2) (v := 23) B0 hX hbl (by decide) e2.symm dL_law_732 ?_
    refine z_callM B0 (z_runV (q0 := 0) (As := [.int 5, .int 23]) (st := [.int 0]) B0 (c_X12_after_298 (a := a2) mS0  rfl rfl rfl rfl rfl rfl rfl rfl rfl rfl rfl rfl rfl rfl rfl rfl rfl rfl rfl rfl rfl rfl rfl rfl rfl rfl rfl) cf_X12_after (mw_0 cy a2 mS0) rfl wm_L_90 wi_X12_after ws_X12_after dL_law_733 rfl (Nat.le_of_ble_eq_true rfl) ⟨by decide, by decide, by decide, by decide⟩) (fun r2 u2 p2 => ?_)
    obtain ⟨rfl, -⟩ := p2
    refine z_icmp_eq_t (tgt := 1091) B0 dL_law_736 (by decide) rfl ?_
    exact fin u1 u2
  · obtain rfl : x2 = 24 := Int32.toInt_inj.mp (h2.trans (by decide))
    refine z_aload_n B0 dL_law_708 rfl rfl ?_
    refine z_aload_n B0 dL_law_709 rfl rfl ?_
    refine z_iload_n B0 dL_law_710 rfl rfl ?_
    refine z_iconst (v := 1) B0 dL_law_711 (by decide) ?_
    refine z_iadd (v := 1) B0 dL_law_712 (by decide) ?_
    refine y_sld (j := 1) (v := 5) B0 hX hbl (by decide) e1.symm dL_law_713 ?_
    refine z_aload_n B0 dL_law_714 rfl rfl ?_
    refine z_iload_n B0 dL_law_715 rfl rfl ?_
    refine z_iconst (v := 2) B0 dL_law_716 (by decide) ?_
    refine z_iadd (v := 2) B0 dL_law_717 (by decide) ?_
    refine y_sld (j := 2) (v := 24) B0 hX hbl (by decide) e2.symm dL_law_718 ?_
    refine z_callC B0 (z_runV (q0 := 0) (As := [.int 5, .int 24]) (st := []) B0 (c_X11_after_299 (a := a) (cS0 w)  ) cf_X11_after (cw_0 cy tE a rw (cS0 w)) rfl wm_L_87 wi_X11_after ws_X11_after dL_law_719 rfl (Nat.le_of_ble_eq_true rfl) ⟨by decide, by decide, by decide, by decide⟩) (fun r1 u1 p1 => ?_)
    obtain ⟨rfl, -⟩ := p1
    refine z_aload_n B0 dL_law_722 rfl rfl ?_
    refine z_aload_n B0 dL_law_723 rfl rfl ?_
    refine z_iload_n B0 dL_law_724 rfl rfl ?_
    refine z_iconst (v := 1) B0 dL_law_725 (by decide) ?_
    refine z_iadd (v := 1) B0 dL_law_726 (by decide) ?_
    refine y_sld (j := 1) (v := 5) B0 hX hbl (by decide) e1.symm dL_law_727 ?_
    refine z_aload_n B0 dL_law_728 rfl rfl ?_
    refine z_iload_n B0 dL_law_729 rfl rfl ?_
    refine z_iconst (v := 2) B0 dL_law_730 (by decide) ?_
    refine z_iadd (v := 2) B0 dL_law_731 (by decide) ?_
    refine y_sld (j := 2) (v := 24) B0 hX hbl (by decide) e2.symm dL_law_732 ?_
    refine z_callM B0 (z_runV (q0 := 0) (As := [.int 5, .int 24]) (st := [.int (-1)]) B0 (c_X12_after_299 (a := a2) mS0  rfl rfl rfl rfl rfl rfl rfl rfl rfl rfl rfl rfl rfl rfl rfl rfl rfl rfl rfl rfl rfl rfl rfl rfl rfl rfl rfl) cf_X12_after (mw_0 cy a2 mS0) rfl wm_L_90 wi_X12_after ws_X12_after dL_law_733 rfl (Nat.le_of_ble_eq_true rfl) ⟨by decide, by decide, by decide, by decide⟩) (fun r2 u2 p2 => ?_)
    obtain ⟨rfl, -⟩ := p2
    refine z_icmp_eq_t (tgt := 1091) B0 dL_law_736 (by decide) rfl ?_
    exact fin u1 u2
  · obtain rfl : x2 = 25 := Int32.toInt_inj.mp (h2.trans (by decide))
    refine z_aload_n B0 dL_law_708 rfl rfl ?_
    refine z_aload_n B0 dL_law_709 rfl rfl ?_
    refine z_iload_n B0 dL_law_710 rfl rfl ?_
    refine z_iconst (v := 1) B0 dL_law_711 (by decide) ?_
    refine z_iadd (v := 1) B0 dL_law_712 (by decide) ?_
    refine y_sld (j := 1) (v := 5) B0 hX hbl (by decide) e1.symm dL_law_713 ?_
    refine z_aload_n B0 dL_law_714 rfl rfl ?_
    refine z_iload_n B0 dL_law_715 rfl rfl ?_
    refine z_iconst (v := 2) B0 dL_law_716 (by decide) ?_
    refine z_iadd (v := 2) B0 dL_law_717 (by decide) ?_
    refine y_sld (j := 2) (v := 25) B0 hX hbl (by decide) e2.symm dL_law_718 ?_
    refine z_callC B0 (z_runV (q0 := 0) (As := [.int 5, .int 25]) (st := []) B0 (c_X11_after_300 (a := a) (cS0 w)  rfl rfl rfl hrw) cf_X11_after (cw_0 cy tE a rw (cS0 w)) rfl wm_L_87 wi_X11_after ws_X11_after dL_law_719 rfl (Nat.le_of_ble_eq_true rfl) ⟨by decide, by decide, by decide, by decide⟩) (fun r1 u1 p1 => ?_)
    obtain ⟨rfl, -⟩ := p1
    refine z_aload_n B0 dL_law_722 rfl rfl ?_
    refine z_aload_n B0 dL_law_723 rfl rfl ?_
    refine z_iload_n B0 dL_law_724 rfl rfl ?_
    refine z_iconst (v := 1) B0 dL_law_725 (by decide) ?_
    refine z_iadd (v := 1) B0 dL_law_726 (by decide) ?_
    refine y_sld (j := 1) (v := 5) B0 hX hbl (by decide) e1.symm dL_law_727 ?_
    refine z_aload_n B0 dL_law_728 rfl rfl ?_
    refine z_iload_n B0 dL_law_729 rfl rfl ?_
    refine z_iconst (v := 2) B0 dL_law_730 (by decide) ?_
    refine z_iadd (v := 2) B0 dL_law_731 (by decide) ?_
    refine y_sld (j := 2) (v := 25) B0 hX hbl (by decide) e2.symm dL_law_732 ?_
    refine z_callM B0 (z_runV (q0 := 0) (As := [.int 5, .int 25]) (st := [.int 0]) B0 (c_X12_after_300 (a := a2) mS0  rfl rfl rfl rfl rfl rfl rfl rfl rfl rfl rfl rfl rfl rfl rfl rfl rfl rfl rfl rfl rfl rfl rfl rfl rfl rfl rfl) cf_X12_after (mw_0 cy a2 mS0) rfl wm_L_90 wi_X12_after ws_X12_after dL_law_733 rfl (Nat.le_of_ble_eq_true rfl) ⟨by decide, by decide, by decide, by decide⟩) (fun r2 u2 p2 => ?_)
    obtain ⟨rfl, -⟩ := p2
    refine z_icmp_eq_t (tgt := 1091) B0 dL_law_736 (by decide) rfl ?_
    exact fin u1 u2
  · obtain rfl : x2 = 26 := Int32.toInt_inj.mp (h2.trans (by decide))
    refine z_aload_n B0 dL_law_708 rfl rfl ?_
    refine z_aload_n B0 dL_law_709 rfl rfl ?_
    refine z_iload_n B0 dL_law_710 rfl rfl ?_
    refine z_iconst (v := 1) B0 dL_law_711 (by decide) ?_
    refine z_iadd (v := 1) B0 dL_law_712 (by decide) ?_
    refine y_sld (j := 1) (v := 5) B0 hX hbl (by decide) e1.symm dL_law_713 ?_
    refine z_aload_n B0 dL_law_714 rfl rfl ?_
    refine z_iload_n B0 dL_law_715 rfl rfl ?_
    refine z_iconst (v := 2) B0 dL_law_716 (by decide) ?_
    refine z_iadd (v := 2) B0 dL_law_717 (by decide) ?_
    refine y_sld (j := 2) (v := 26) B0 hX hbl (by decide) e2.symm dL_law_718 ?_
    refine z_callC B0 (z_runV (q0 := 0) (As := [.int 5, .int 26]) (st := []) B0 (c_X11_after_301 (a := a) (cS0 w)  rfl rfl rfl hrw) cf_X11_after (cw_0 cy tE a rw (cS0 w)) rfl wm_L_87 wi_X11_after ws_X11_after dL_law_719 rfl (Nat.le_of_ble_eq_true rfl) ⟨by decide, by decide, by decide, by decide⟩) (fun r1 u1 p1 => ?_)
    obtain ⟨rfl, -⟩ := p1
    refine z_aload_n B0 dL_law_722 rfl rfl ?_
    refine z_aload_n B0 dL_law_723 rfl rfl ?_
    refine z_iload_n B0 dL_law_724 rfl rfl ?_
    refine z_iconst (v := 1) B0 dL_law_725 (by decide) ?_
    refine z_iadd (v := 1) B0 dL_law_726 (by decide) ?_
    refine y_sld (j := 1) (v := 5) B0 hX hbl (by decide) e1.symm dL_law_727 ?_
    refine z_aload_n B0 dL_law_728 rfl rfl ?_
    refine z_iload_n B0 dL_law_729 rfl rfl ?_
    refine z_iconst (v := 2) B0 dL_law_730 (by decide) ?_
    refine z_iadd (v := 2) B0 dL_law_731 (by decide) ?_
    refine y_sld (j := 2) (v := 26) B0 hX hbl (by decide) e2.symm dL_law_732 ?_
    refine z_callM B0 (z_runV (q0 := 0) (As := [.int 5, .int 26]) (st := [.int 0]) B0 (c_X12_after_301 (a := a2) mS0  rfl rfl rfl rfl rfl rfl rfl rfl rfl rfl rfl rfl rfl rfl rfl rfl rfl rfl rfl rfl rfl rfl rfl rfl rfl rfl rfl) cf_X12_after (mw_0 cy a2 mS0) rfl wm_L_90 wi_X12_after ws_X12_after dL_law_733 rfl (Nat.le_of_ble_eq_true rfl) ⟨by decide, by decide, by decide, by decide⟩) (fun r2 u2 p2 => ?_)
    obtain ⟨rfl, -⟩ := p2
    refine z_icmp_eq_t (tgt := 1091) B0 dL_law_736 (by decide) rfl ?_
    exact fin u1 u2
  · obtain rfl : x2 = 27 := Int32.toInt_inj.mp (h2.trans (by decide))
    refine z_aload_n B0 dL_law_708 rfl rfl ?_
    refine z_aload_n B0 dL_law_709 rfl rfl ?_
    refine z_iload_n B0 dL_law_710 rfl rfl ?_
    refine z_iconst (v := 1) B0 dL_law_711 (by decide) ?_
    refine z_iadd (v := 1) B0 dL_law_712 (by decide) ?_
    refine y_sld (j := 1) (v := 5) B0 hX hbl (by decide) e1.symm dL_law_713 ?_
    refine z_aload_n B0 dL_law_714 rfl rfl ?_
    refine z_iload_n B0 dL_law_715 rfl rfl ?_
    refine z_iconst (v := 2) B0 dL_law_716 (by decide) ?_
    refine z_iadd (v := 2) B0 dL_law_717 (by decide) ?_
    refine y_sld (j := 2) (v := 27) B0 hX hbl (by decide) e2.symm dL_law_718 ?_
    refine z_callC B0 (z_runV (q0 := 0) (As := [.int 5, .int 27]) (st := []) B0 (c_X11_after_302 (a := a) (cS0 w)  rfl rfl rfl hrw) cf_X11_after (cw_0 cy tE a rw (cS0 w)) rfl wm_L_87 wi_X11_after ws_X11_after dL_law_719 rfl (Nat.le_of_ble_eq_true rfl) ⟨by decide, by decide, by decide, by decide⟩) (fun r1 u1 p1 => ?_)
    obtain ⟨rfl, -⟩ := p1
    refine z_aload_n B0 dL_law_722 rfl rfl ?_
    refine z_aload_n B0 dL_law_723 rfl rfl ?_
    refine z_iload_n B0 dL_law_724 rfl rfl ?_
    refine z_iconst (v := 1) B0 dL_law_725 (by decide) ?_
    refine z_iadd (v := 1) B0 dL_law_726 (by decide) ?_
    refine y_sld (j := 1) (v := 5) B0 hX hbl (by decide) e1.symm dL_law_727 ?_
    refine z_aload_n B0 dL_law_728 rfl rfl ?_
    refine z_iload_n B0 dL_law_729 rfl rfl ?_
    refine z_iconst (v := 2) B0 dL_law_730 (by decide) ?_
    refine z_iadd (v := 2) B0 dL_law_731 (by decide) ?_
    refine y_sld (j := 2) (v := 27) B0 hX hbl (by decide) e2.symm dL_law_732 ?_
    refine z_callM B0 (z_runV (q0 := 0) (As := [.int 5, .int 27]) (st := [.int 0]) B0 (c_X12_after_302 (a := a2) mS0  rfl rfl rfl rfl rfl rfl rfl rfl rfl rfl rfl rfl rfl rfl rfl rfl rfl rfl rfl rfl rfl rfl rfl rfl rfl rfl rfl) cf_X12_after (mw_0 cy a2 mS0) rfl wm_L_90 wi_X12_after ws_X12_after dL_law_733 rfl (Nat.le_of_ble_eq_true rfl) ⟨by decide, by decide, by decide, by decide⟩) (fun r2 u2 p2 => ?_)
    obtain ⟨rfl, -⟩ := p2
    refine z_icmp_eq_t (tgt := 1091) B0 dL_law_736 (by decide) rfl ?_
    exact fin u1 u2
  · obtain rfl : x2 = 28 := Int32.toInt_inj.mp (h2.trans (by decide))
    refine z_aload_n B0 dL_law_708 rfl rfl ?_
    refine z_aload_n B0 dL_law_709 rfl rfl ?_
    refine z_iload_n B0 dL_law_710 rfl rfl ?_
    refine z_iconst (v := 1) B0 dL_law_711 (by decide) ?_
    refine z_iadd (v := 1) B0 dL_law_712 (by decide) ?_
    refine y_sld (j := 1) (v := 5) B0 hX hbl (by decide) e1.symm dL_law_713 ?_
    refine z_aload_n B0 dL_law_714 rfl rfl ?_
    refine z_iload_n B0 dL_law_715 rfl rfl ?_
    refine z_iconst (v := 2) B0 dL_law_716 (by decide) ?_
    refine z_iadd (v := 2) B0 dL_law_717 (by decide) ?_
    refine y_sld (j := 2) (v := 28) B0 hX hbl (by decide) e2.symm dL_law_718 ?_
    refine z_callC B0 (z_runV (q0 := 0) (As := [.int 5, .int 28]) (st := []) B0 (c_X11_after_303 (a := a) (cS0 w)  ) cf_X11_after (cw_0 cy tE a rw (cS0 w)) rfl wm_L_87 wi_X11_after ws_X11_after dL_law_719 rfl (Nat.le_of_ble_eq_true rfl) ⟨by decide, by decide, by decide, by decide⟩) (fun r1 u1 p1 => ?_)
    obtain ⟨rfl, -⟩ := p1
    refine z_aload_n B0 dL_law_722 rfl rfl ?_
    refine z_aload_n B0 dL_law_723 rfl rfl ?_
    refine z_iload_n B0 dL_law_724 rfl rfl ?_
    refine z_iconst (v := 1) B0 dL_law_725 (by decide) ?_
    refine z_iadd (v := 1) B0 dL_law_726 (by decide) ?_
    refine y_sld (j := 1) (v := 5) B0 hX hbl (by decide) e1.symm dL_law_727 ?_
    refine z_aload_n B0 dL_law_728 rfl rfl ?_
    refine z_iload_n B0 dL_law_729 rfl rfl ?_
    refine z_iconst (v := 2) B0 dL_law_730 (by decide) ?_
    refine z_iadd (v := 2) B0 dL_law_731 (by decide) ?_
    refine y_sld (j := 2) (v := 28) B0 hX hbl (by decide) e2.symm dL_law_732 ?_
    refine z_callM B0 (z_runV (q0 := 0) (As := [.int 5, .int 28]) (st := [.int (-1)]) B0 (c_X12_after_303 (a := a2) mS0  rfl rfl rfl rfl rfl rfl rfl rfl rfl rfl rfl rfl rfl rfl rfl rfl rfl rfl rfl rfl rfl rfl rfl rfl rfl rfl rfl) cf_X12_after (mw_0 cy a2 mS0) rfl wm_L_90 wi_X12_after ws_X12_after dL_law_733 rfl (Nat.le_of_ble_eq_true rfl) ⟨by decide, by decide, by decide, by decide⟩) (fun r2 u2 p2 => ?_)
    obtain ⟨rfl, -⟩ := p2
    refine z_icmp_eq_t (tgt := 1091) B0 dL_law_736 (by decide) rfl ?_
    exact fin u1 u2
  · obtain rfl : x2 = 29 := Int32.toInt_inj.mp (h2.trans (by decide))
    refine z_aload_n B0 dL_law_708 rfl rfl ?_
    refine z_aload_n B0 dL_law_709 rfl rfl ?_
    refine z_iload_n B0 dL_law_710 rfl rfl ?_
    refine z_iconst (v := 1) B0 dL_law_711 (by decide) ?_
    refine z_iadd (v := 1) B0 dL_law_712 (by decide) ?_
    refine y_sld (j := 1) (v := 5) B0 hX hbl (by decide) e1.symm dL_law_713 ?_
    refine z_aload_n B0 dL_law_714 rfl rfl ?_
    refine z_iload_n B0 dL_law_715 rfl rfl ?_
    refine z_iconst (v := 2) B0 dL_law_716 (by decide) ?_
    refine z_iadd (v := 2) B0 dL_law_717 (by decide) ?_
    refine y_sld (j := 2) (v := 29) B0 hX hbl (by decide) e2.symm dL_law_718 ?_
    refine z_callC B0 (z_runV (q0 := 0) (As := [.int 5, .int 29]) (st := []) B0 (c_X11_after_304 (a := a) (cS0 w)  ) cf_X11_after (cw_0 cy tE a rw (cS0 w)) rfl wm_L_87 wi_X11_after ws_X11_after dL_law_719 rfl (Nat.le_of_ble_eq_true rfl) ⟨by decide, by decide, by decide, by decide⟩) (fun r1 u1 p1 => ?_)
    obtain ⟨rfl, -⟩ := p1
    refine z_aload_n B0 dL_law_722 rfl rfl ?_
    refine z_aload_n B0 dL_law_723 rfl rfl ?_
    refine z_iload_n B0 dL_law_724 rfl rfl ?_
    refine z_iconst (v := 1) B0 dL_law_725 (by decide) ?_
    refine z_iadd (v := 1) B0 dL_law_726 (by decide) ?_
    refine y_sld (j := 1) (v := 5) B0 hX hbl (by decide) e1.symm dL_law_727 ?_
    refine z_aload_n B0 dL_law_728 rfl rfl ?_
    refine z_iload_n B0 dL_law_729 rfl rfl ?_
    refine z_iconst (v := 2) B0 dL_law_730 (by decide) ?_
    refine z_iadd (v := 2) B0 dL_law_731 (by decide) ?_
    refine y_sld (j := 2) (v := 29) B0 hX hbl (by decide) e2.symm dL_law_732 ?_
    refine z_callM B0 (z_runV (q0 := 0) (As := [.int 5, .int 29]) (st := [.int (-1)]) B0 (c_X12_after_304 (a := a2) mS0  rfl rfl rfl rfl rfl rfl rfl rfl rfl rfl rfl rfl rfl rfl rfl rfl rfl rfl rfl rfl rfl rfl rfl rfl rfl rfl rfl) cf_X12_after (mw_0 cy a2 mS0) rfl wm_L_90 wi_X12_after ws_X12_after dL_law_733 rfl (Nat.le_of_ble_eq_true rfl) ⟨by decide, by decide, by decide, by decide⟩) (fun r2 u2 p2 => ?_)
    obtain ⟨rfl, -⟩ := p2
    refine z_icmp_eq_t (tgt := 1091) B0 dL_law_736 (by decide) rfl ?_
    exact fin u1 u2
  · obtain rfl : x2 = 30 := Int32.toInt_inj.mp (h2.trans (by decide))
    refine z_aload_n B0 dL_law_708 rfl rfl ?_
    refine z_aload_n B0 dL_law_709 rfl rfl ?_
    refine z_iload_n B0 dL_law_710 rfl rfl ?_
    refine z_iconst (v := 1) B0 dL_law_711 (by decide) ?_
    refine z_iadd (v := 1) B0 dL_law_712 (by decide) ?_
    refine y_sld (j := 1) (v := 5) B0 hX hbl (by decide) e1.symm dL_law_713 ?_
    refine z_aload_n B0 dL_law_714 rfl rfl ?_
    refine z_iload_n B0 dL_law_715 rfl rfl ?_
    refine z_iconst (v := 2) B0 dL_law_716 (by decide) ?_
    refine z_iadd (v := 2) B0 dL_law_717 (by decide) ?_
    refine y_sld (j := 2) (v := 30) B0 hX hbl (by decide) e2.symm dL_law_718 ?_
    refine z_callC B0 (z_runV (q0 := 0) (As := [.int 5, .int 30]) (st := []) B0 (c_X11_after_305 (a := a) (cS0 w)  ) cf_X11_after (cw_0 cy tE a rw (cS0 w)) rfl wm_L_87 wi_X11_after ws_X11_after dL_law_719 rfl (Nat.le_of_ble_eq_true rfl) ⟨by decide, by decide, by decide, by decide⟩) (fun r1 u1 p1 => ?_)
    obtain ⟨rfl, -⟩ := p1
    refine z_aload_n B0 dL_law_722 rfl rfl ?_
    refine z_aload_n B0 dL_law_723 rfl rfl ?_
    refine z_iload_n B0 dL_law_724 rfl rfl ?_
    refine z_iconst (v := 1) B0 dL_law_725 (by decide) ?_
    refine z_iadd (v := 1) B0 dL_law_726 (by decide) ?_
    refine y_sld (j := 1) (v := 5) B0 hX hbl (by decide) e1.symm dL_law_727 ?_
    refine z_aload_n B0 dL_law_728 rfl rfl ?_
    refine z_iload_n B0 dL_law_729 rfl rfl ?_
    refine z_iconst (v := 2) B0 dL_law_730 (by decide) ?_
    refine z_iadd (v := 2) B0 dL_law_731 (by decide) ?_
    refine y_sld (j := 2) (v := 30) B0 hX hbl (by decide) e2.symm dL_law_732 ?_
    refine z_callM B0 (z_runV (q0 := 0) (As := [.int 5, .int 30]) (st := [.int (-1)]) B0 (c_X12_after_305 (a := a2) mS0  rfl rfl rfl rfl rfl rfl rfl rfl rfl rfl rfl rfl rfl rfl rfl rfl rfl rfl rfl rfl rfl rfl rfl rfl rfl rfl rfl) cf_X12_after (mw_0 cy a2 mS0) rfl wm_L_90 wi_X12_after ws_X12_after dL_law_733 rfl (Nat.le_of_ble_eq_true rfl) ⟨by decide, by decide, by decide, by decide⟩) (fun r2 u2 p2 => ?_)
    obtain ⟨rfl, -⟩ := p2
    refine z_icmp_eq_t (tgt := 1091) B0 dL_law_736 (by decide) rfl ?_
    exact fin u1 u2
  · obtain rfl : x2 = 31 := Int32.toInt_inj.mp (h2.trans (by decide))
    refine z_aload_n B0 dL_law_708 rfl rfl ?_
    refine z_aload_n B0 dL_law_709 rfl rfl ?_
    refine z_iload_n B0 dL_law_710 rfl rfl ?_
    refine z_iconst (v := 1) B0 dL_law_711 (by decide) ?_
    refine z_iadd (v := 1) B0 dL_law_712 (by decide) ?_
    refine y_sld (j := 1) (v := 5) B0 hX hbl (by decide) e1.symm dL_law_713 ?_
    refine z_aload_n B0 dL_law_714 rfl rfl ?_
    refine z_iload_n B0 dL_law_715 rfl rfl ?_
    refine z_iconst (v := 2) B0 dL_law_716 (by decide) ?_
    refine z_iadd (v := 2) B0 dL_law_717 (by decide) ?_
    refine y_sld (j := 2) (v := 31) B0 hX hbl (by decide) e2.symm dL_law_718 ?_
    refine z_callC B0 (z_runV (q0 := 0) (As := [.int 5, .int 31]) (st := []) B0 (c_X11_after_306 (a := a) (cS0 w)  rfl rfl rfl hrw) cf_X11_after (cw_0 cy tE a rw (cS0 w)) rfl wm_L_87 wi_X11_after ws_X11_after dL_law_719 rfl (Nat.le_of_ble_eq_true rfl) ⟨by decide, by decide, by decide, by decide⟩) (fun r1 u1 p1 => ?_)
    obtain ⟨rfl, -⟩ := p1
    refine z_aload_n B0 dL_law_722 rfl rfl ?_
    refine z_aload_n B0 dL_law_723 rfl rfl ?_
    refine z_iload_n B0 dL_law_724 rfl rfl ?_
    refine z_iconst (v := 1) B0 dL_law_725 (by decide) ?_
    refine z_iadd (v := 1) B0 dL_law_726 (by decide) ?_
    refine y_sld (j := 1) (v := 5) B0 hX hbl (by decide) e1.symm dL_law_727 ?_
    refine z_aload_n B0 dL_law_728 rfl rfl ?_
    refine z_iload_n B0 dL_law_729 rfl rfl ?_
    refine z_iconst (v := 2) B0 dL_law_730 (by decide) ?_
    refine z_iadd (v := 2) B0 dL_law_731 (by decide) ?_
    refine y_sld (j := 2) (v := 31) B0 hX hbl (by decide) e2.symm dL_law_732 ?_
    refine z_callM B0 (z_runV (q0 := 0) (As := [.int 5, .int 31]) (st := [.int 0]) B0 (c_X12_after_306 (a := a2) mS0  rfl rfl rfl rfl rfl rfl rfl rfl rfl rfl rfl rfl rfl rfl rfl rfl rfl rfl rfl rfl rfl rfl rfl rfl rfl rfl rfl) cf_X12_after (mw_0 cy a2 mS0) rfl wm_L_90 wi_X12_after ws_X12_after dL_law_733 rfl (Nat.le_of_ble_eq_true rfl) ⟨by decide, by decide, by decide, by decide⟩) (fun r2 u2 p2 => ?_)
    obtain ⟨rfl, -⟩ := p2
    refine z_icmp_eq_t (tgt := 1091) B0 dL_law_736 (by decide) rfl ?_
    exact fin u1 u2
  · obtain rfl : x2 = 32 := Int32.toInt_inj.mp (h2.trans (by decide))
    refine z_aload_n B0 dL_law_708 rfl rfl ?_
    refine z_aload_n B0 dL_law_709 rfl rfl ?_
    refine z_iload_n B0 dL_law_710 rfl rfl ?_
    refine z_iconst (v := 1) B0 dL_law_711 (by decide) ?_
    refine z_iadd (v := 1) B0 dL_law_712 (by decide) ?_
    refine y_sld (j := 1) (v := 5) B0 hX hbl (by decide) e1.symm dL_law_713 ?_
    refine z_aload_n B0 dL_law_714 rfl rfl ?_
    refine z_iload_n B0 dL_law_715 rfl rfl ?_
    refine z_iconst (v := 2) B0 dL_law_716 (by decide) ?_
    refine z_iadd (v := 2) B0 dL_law_717 (by decide) ?_
    refine y_sld (j := 2) (v := 32) B0 hX hbl (by decide) e2.symm dL_law_718 ?_
    refine z_callC B0 (z_runV (q0 := 0) (As := [.int 5, .int 32]) (st := []) B0 (c_X11_after_307 (a := a) (cS0 w)  rfl rfl rfl hrw) cf_X11_after (cw_0 cy tE a rw (cS0 w)) rfl wm_L_87 wi_X11_after ws_X11_after dL_law_719 rfl (Nat.le_of_ble_eq_true rfl) ⟨by decide, by decide, by decide, by decide⟩) (fun r1 u1 p1 => ?_)
    obtain ⟨rfl, -⟩ := p1
    refine z_aload_n B0 dL_law_722 rfl rfl ?_
    refine z_aload_n B0 dL_law_723 rfl rfl ?_
    refine z_iload_n B0 dL_law_724 rfl rfl ?_
    refine z_iconst (v := 1) B0 dL_law_725 (by decide) ?_
    refine z_iadd (v := 1) B0 dL_law_726 (by decide) ?_
    refine y_sld (j := 1) (v := 5) B0 hX hbl (by decide) e1.symm dL_law_727 ?_
    refine z_aload_n B0 dL_law_728 rfl rfl ?_
    refine z_iload_n B0 dL_law_729 rfl rfl ?_
    refine z_iconst (v := 2) B0 dL_law_730 (by decide) ?_
    refine z_iadd (v := 2) B0 dL_law_731 (by decide) ?_
    refine y_sld (j := 2) (v := 32) B0 hX hbl (by decide) e2.symm dL_law_732 ?_
    refine z_callM B0 (z_runV (q0 := 0) (As := [.int 5, .int 32]) (st := [.int 0]) B0 (c_X12_after_307 (a := a2) mS0  rfl rfl rfl rfl rfl rfl rfl rfl rfl rfl rfl rfl rfl rfl rfl rfl rfl rfl rfl rfl rfl rfl rfl rfl rfl rfl rfl) cf_X12_after (mw_0 cy a2 mS0) rfl wm_L_90 wi_X12_after ws_X12_after dL_law_733 rfl (Nat.le_of_ble_eq_true rfl) ⟨by decide, by decide, by decide, by decide⟩) (fun r2 u2 p2 => ?_)
    obtain ⟨rfl, -⟩ := p2
    refine z_icmp_eq_t (tgt := 1091) B0 dL_law_736 (by decide) rfl ?_
    exact fin u1 u2
  · obtain rfl : x2 = 33 := Int32.toInt_inj.mp (h2.trans (by decide))
    refine z_aload_n B0 dL_law_708 rfl rfl ?_
    refine z_aload_n B0 dL_law_709 rfl rfl ?_
    refine z_iload_n B0 dL_law_710 rfl rfl ?_
    refine z_iconst (v := 1) B0 dL_law_711 (by decide) ?_
    refine z_iadd (v := 1) B0 dL_law_712 (by decide) ?_
    refine y_sld (j := 1) (v := 5) B0 hX hbl (by decide) e1.symm dL_law_713 ?_
    refine z_aload_n B0 dL_law_714 rfl rfl ?_
    refine z_iload_n B0 dL_law_715 rfl rfl ?_
    refine z_iconst (v := 2) B0 dL_law_716 (by decide) ?_
    refine z_iadd (v := 2) B0 dL_law_717 (by decide) ?_
    refine y_sld (j := 2) (v := 33) B0 hX hbl (by decide) e2.symm dL_law_718 ?_
    refine z_callC B0 (z_runV (q0 := 0) (As := [.int 5, .int 33]) (st := []) B0 (c_X11_after_308 (a := a) (cS0 w)  rfl rfl rfl hrw) cf_X11_after (cw_0 cy tE a rw (cS0 w)) rfl wm_L_87 wi_X11_after ws_X11_after dL_law_719 rfl (Nat.le_of_ble_eq_true rfl) ⟨by decide, by decide, by decide, by decide⟩) (fun r1 u1 p1 => ?_)
    obtain ⟨rfl, -⟩ := p1
    refine z_aload_n B0 dL_law_722 rfl rfl ?_
    refine z_aload_n B0 dL_law_723 rfl rfl ?_
    refine z_iload_n B0 dL_law_724 rfl rfl ?_
    refine z_iconst (v := 1) B0 dL_law_725 (by decide) ?_
    refine z_iadd (v := 1) B0 dL_law_726 (by decide) ?_
    refine y_sld (j := 1) (v := 5) B0 hX hbl (by decide) e1.symm dL_law_727 ?_
    refine z_aload_n B0 dL_law_728 rfl rfl ?_
    refine z_iload_n B0 dL_law_729 rfl rfl ?_
    refine z_iconst (v := 2) B0 dL_law_730 (by decide) ?_
    refine z_iadd (v := 2) B0 dL_law_731 (by decide) ?_
    refine y_sld (j := 2) (v := 33) B0 hX hbl (by decide) e2.symm dL_law_732 ?_
    refine z_callM B0 (z_runV (q0 := 0) (As := [.int 5, .int 33]) (st := [.int 0]) B0 (c_X12_after_308 (a := a2) mS0  rfl rfl rfl rfl rfl rfl rfl rfl rfl rfl rfl rfl rfl rfl rfl rfl rfl rfl rfl rfl rfl rfl rfl rfl rfl rfl rfl) cf_X12_after (mw_0 cy a2 mS0) rfl wm_L_90 wi_X12_after ws_X12_after dL_law_733 rfl (Nat.le_of_ble_eq_true rfl) ⟨by decide, by decide, by decide, by decide⟩) (fun r2 u2 p2 => ?_)
    obtain ⟨rfl, -⟩ := p2
    refine z_icmp_eq_t (tgt := 1091) B0 dL_law_736 (by decide) rfl ?_
    exact fin u1 u2
  · obtain rfl : x2 = 34 := Int32.toInt_inj.mp (h2.trans (by decide))
    refine z_aload_n B0 dL_law_708 rfl rfl ?_
    refine z_aload_n B0 dL_law_709 rfl rfl ?_
    refine z_iload_n B0 dL_law_710 rfl rfl ?_
    refine z_iconst (v := 1) B0 dL_law_711 (by decide) ?_
    refine z_iadd (v := 1) B0 dL_law_712 (by decide) ?_
    refine y_sld (j := 1) (v := 5) B0 hX hbl (by decide) e1.symm dL_law_713 ?_
    refine z_aload_n B0 dL_law_714 rfl rfl ?_
    refine z_iload_n B0 dL_law_715 rfl rfl ?_
    refine z_iconst (v := 2) B0 dL_law_716 (by decide) ?_
    refine z_iadd (v := 2) B0 dL_law_717 (by decide) ?_
    refine y_sld (j := 2) (v := 34) B0 hX hbl (by decide) e2.symm dL_law_718 ?_
    refine z_callC B0 (z_runV (q0 := 0) (As := [.int 5, .int 34]) (st := []) B0 (c_X11_after_309 (a := a) (cS0 w)  ) cf_X11_after (cw_0 cy tE a rw (cS0 w)) rfl wm_L_87 wi_X11_after ws_X11_after dL_law_719 rfl (Nat.le_of_ble_eq_true rfl) ⟨by decide, by decide, by decide, by decide⟩) (fun r1 u1 p1 => ?_)
    obtain ⟨rfl, -⟩ := p1
    refine z_aload_n B0 dL_law_722 rfl rfl ?_
    refine z_aload_n B0 dL_law_723 rfl rfl ?_
    refine z_iload_n B0 dL_law_724 rfl rfl ?_
    refine z_iconst (v := 1) B0 dL_law_725 (by decide) ?_
    refine z_iadd (v := 1) B0 dL_law_726 (by decide) ?_
    refine y_sld (j := 1) (v := 5) B0 hX hbl (by decide) e1.symm dL_law_727 ?_
    refine z_aload_n B0 dL_law_728 rfl rfl ?_
    refine z_iload_n B0 dL_law_729 rfl rfl ?_
    refine z_iconst (v := 2) B0 dL_law_730 (by decide) ?_
    refine z_iadd (v := 2) B0 dL_law_731 (by decide) ?_
    refine y_sld (j := 2) (v := 34) B0 hX hbl (by decide) e2.symm dL_law_732 ?_
    refine z_callM B0 (z_runV (q0 := 0) (As := [.int 5, .int 34]) (st := [.int (-1)]) B0 (c_X12_after_309 (a := a2) mS0  rfl rfl rfl rfl rfl rfl rfl rfl rfl rfl rfl rfl rfl rfl rfl rfl rfl rfl rfl rfl rfl rfl rfl rfl rfl rfl rfl) cf_X12_after (mw_0 cy a2 mS0) rfl wm_L_90 wi_X12_after ws_X12_after dL_law_733 rfl (Nat.le_of_ble_eq_true rfl) ⟨by decide, by decide, by decide, by decide⟩) (fun r2 u2 p2 => ?_)
    obtain ⟨rfl, -⟩ := p2
    refine z_icmp_eq_t (tgt := 1091) B0 dL_law_736 (by decide) rfl ?_
    exact fin u1 u2
  · obtain rfl : x2 = 35 := Int32.toInt_inj.mp (h2.trans (by decide))
    refine z_aload_n B0 dL_law_708 rfl rfl ?_
    refine z_aload_n B0 dL_law_709 rfl rfl ?_
    refine z_iload_n B0 dL_law_710 rfl rfl ?_
    refine z_iconst (v := 1) B0 dL_law_711 (by decide) ?_
    refine z_iadd (v := 1) B0 dL_law_712 (by decide) ?_
    refine y_sld (j := 1) (v := 5) B0 hX hbl (by decide) e1.symm dL_law_713 ?_
    refine z_aload_n B0 dL_law_714 rfl rfl ?_
    refine z_iload_n B0 dL_law_715 rfl rfl ?_
    refine z_iconst (v := 2) B0 dL_law_716 (by decide) ?_
    refine z_iadd (v := 2) B0 dL_law_717 (by decide) ?_
    refine y_sld (j := 2) (v := 35) B0 hX hbl (by decide) e2.symm dL_law_718 ?_
    refine z_callC B0 (z_runV (q0 := 0) (As := [.int 5, .int 35]) (st := []) B0 (c_X11_after_310 (a := a) (cS0 w)  rfl rfl rfl hrw) cf_X11_after (cw_0 cy tE a rw (cS0 w)) rfl wm_L_87 wi_X11_after ws_X11_after dL_law_719 rfl (Nat.le_of_ble_eq_true rfl) ⟨by decide, by decide, by decide, by decide⟩) (fun r1 u1 p1 => ?_)
    obtain ⟨rfl, -⟩ := p1
    refine z_aload_n B0 dL_law_722 rfl rfl ?_
    refine z_aload_n B0 dL_law_723 rfl rfl ?_
    refine z_iload_n B0 dL_law_724 rfl rfl ?_
    refine z_iconst (v := 1) B0 dL_law_725 (by decide) ?_
    refine z_iadd (v := 1) B0 dL_law_726 (by decide) ?_
    refine y_sld (j := 1) (v := 5) B0 hX hbl (by decide) e1.symm dL_law_727 ?_
    refine z_aload_n B0 dL_law_728 rfl rfl ?_
    refine z_iload_n B0 dL_law_729 rfl rfl ?_
    refine z_iconst (v := 2) B0 dL_law_730 (by decide) ?_
    refine z_iadd (v := 2) B0 dL_law_731 (by decide) ?_
    refine y_sld (j := 2) (v := 35) B0 hX hbl (by decide) e2.symm dL_law_732 ?_
    refine z_callM B0 (z_runV (q0 := 0) (As := [.int 5, .int 35]) (st := [.int 0]) B0 (c_X12_after_310 (a := a2) mS0  rfl rfl rfl rfl rfl rfl rfl rfl rfl rfl rfl rfl rfl rfl rfl rfl rfl rfl rfl rfl rfl rfl rfl rfl rfl rfl rfl) cf_X12_after (mw_0 cy a2 mS0) rfl wm_L_90 wi_X12_after ws_X12_after dL_law_733 rfl (Nat.le_of_ble_eq_true rfl) ⟨by decide, by decide, by decide, by decide⟩) (fun r2 u2 p2 => ?_)
    obtain ⟨rfl, -⟩ := p2
    refine z_icmp_eq_t (tgt := 1091) B0 dL_law_736 (by decide) rfl ?_
    exact fin u1 u2
  · obtain rfl : x2 = 36 := Int32.toInt_inj.mp (h2.trans (by decide))
    refine z_aload_n B0 dL_law_708 rfl rfl ?_
    refine z_aload_n B0 dL_law_709 rfl rfl ?_
    refine z_iload_n B0 dL_law_710 rfl rfl ?_
    refine z_iconst (v := 1) B0 dL_law_711 (by decide) ?_
    refine z_iadd (v := 1) B0 dL_law_712 (by decide) ?_
    refine y_sld (j := 1) (v := 5) B0 hX hbl (by decide) e1.symm dL_law_713 ?_
    refine z_aload_n B0 dL_law_714 rfl rfl ?_
    refine z_iload_n B0 dL_law_715 rfl rfl ?_
    refine z_iconst (v := 2) B0 dL_law_716 (by decide) ?_
    refine z_iadd (v := 2) B0 dL_law_717 (by decide) ?_
    refine y_sld (j := 2) (v := 36) B0 hX hbl (by decide) e2.symm dL_law_718 ?_
    refine z_callC B0 (z_runV (q0 := 0) (As := [.int 5, .int 36]) (st := []) B0 (c_X11_after_311 (a := a) (cS0 w)  rfl rfl rfl hrw) cf_X11_after (cw_0 cy tE a rw (cS0 w)) rfl wm_L_87 wi_X11_after ws_X11_after dL_law_719 rfl (Nat.le_of_ble_eq_true rfl) ⟨by decide, by decide, by decide, by decide⟩) (fun r1 u1 p1 => ?_)
    obtain ⟨rfl, -⟩ := p1
    refine z_aload_n B0 dL_law_722 rfl rfl ?_
    refine z_aload_n B0 dL_law_723 rfl rfl ?_
    refine z_iload_n B0 dL_law_724 rfl rfl ?_
    refine z_iconst (v := 1) B0 dL_law_725 (by decide) ?_
    refine z_iadd (v := 1) B0 dL_law_726 (by decide) ?_
    refine y_sld (j := 1) (v := 5) B0 hX hbl (by decide) e1.symm dL_law_727 ?_
    refine z_aload_n B0 dL_law_728 rfl rfl ?_
    refine z_iload_n B0 dL_law_729 rfl rfl ?_
    refine z_iconst (v := 2) B0 dL_law_730 (by decide) ?_
    refine z_iadd (v := 2) B0 dL_law_731 (by decide) ?_
    refine y_sld (j := 2) (v := 36) B0 hX hbl (by decide) e2.symm dL_law_732 ?_
    refine z_callM B0 (z_runV (q0 := 0) (As := [.int 5, .int 36]) (st := [.int 0]) B0 (c_X12_after_311 (a := a2) mS0  rfl rfl rfl rfl rfl rfl rfl rfl rfl rfl rfl rfl rfl rfl rfl rfl rfl rfl rfl rfl rfl rfl rfl rfl rfl rfl rfl) cf_X12_after (mw_0 cy a2 mS0) rfl wm_L_90 wi_X12_after ws_X12_after dL_law_733 rfl (Nat.le_of_ble_eq_true rfl) ⟨by decide, by decide, by decide, by decide⟩) (fun r2 u2 p2 => ?_)
    obtain ⟨rfl, -⟩ := p2
    refine z_icmp_eq_t (tgt := 1091) B0 dL_law_736 (by decide) rfl ?_
    exact fin u1 u2
  · obtain rfl : x2 = 37 := Int32.toInt_inj.mp (h2.trans (by decide))
    refine z_aload_n B0 dL_law_708 rfl rfl ?_
    refine z_aload_n B0 dL_law_709 rfl rfl ?_
    refine z_iload_n B0 dL_law_710 rfl rfl ?_
    refine z_iconst (v := 1) B0 dL_law_711 (by decide) ?_
    refine z_iadd (v := 1) B0 dL_law_712 (by decide) ?_
    refine y_sld (j := 1) (v := 5) B0 hX hbl (by decide) e1.symm dL_law_713 ?_
    refine z_aload_n B0 dL_law_714 rfl rfl ?_
    refine z_iload_n B0 dL_law_715 rfl rfl ?_
    refine z_iconst (v := 2) B0 dL_law_716 (by decide) ?_
    refine z_iadd (v := 2) B0 dL_law_717 (by decide) ?_
    refine y_sld (j := 2) (v := 37) B0 hX hbl (by decide) e2.symm dL_law_718 ?_
    refine z_callC B0 (z_runV (q0 := 0) (As := [.int 5, .int 37]) (st := []) B0 (c_X11_after_312 (a := a) (cS0 w)  rfl rfl rfl hrw) cf_X11_after (cw_0 cy tE a rw (cS0 w)) rfl wm_L_87 wi_X11_after ws_X11_after dL_law_719 rfl (Nat.le_of_ble_eq_true rfl) ⟨by decide, by decide, by decide, by decide⟩) (fun r1 u1 p1 => ?_)
    obtain ⟨rfl, -⟩ := p1
    refine z_aload_n B0 dL_law_722 rfl rfl ?_
    refine z_aload_n B0 dL_law_723 rfl rfl ?_
    refine z_iload_n B0 dL_law_724 rfl rfl ?_
    refine z_iconst (v := 1) B0 dL_law_725 (by decide) ?_
    refine z_iadd (v := 1) B0 dL_law_726 (by decide) ?_
    refine y_sld (j := 1) (v := 5) B0 hX hbl (by decide) e1.symm dL_law_727 ?_
    refine z_aload_n B0 dL_law_728 rfl rfl ?_
    refine z_iload_n B0 dL_law_729 rfl rfl ?_
    refine z_iconst (v := 2) B0 dL_law_730 (by decide) ?_
    refine z_iadd (v := 2) B0 dL_law_731 (by decide) ?_
    refine y_sld (j := 2) (v := 37) B0 hX hbl (by decide) e2.symm dL_law_732 ?_
    refine z_callM B0 (z_runV (q0 := 0) (As := [.int 5, .int 37]) (st := [.int 0]) B0 (c_X12_after_312 (a := a2) mS0  rfl rfl rfl rfl rfl rfl rfl rfl rfl rfl rfl rfl rfl rfl rfl rfl rfl rfl rfl rfl rfl rfl rfl rfl rfl rfl rfl) cf_X12_after (mw_0 cy a2 mS0) rfl wm_L_90 wi_X12_after ws_X12_after dL_law_733 rfl (Nat.le_of_ble_eq_true rfl) ⟨by decide, by decide, by decide, by decide⟩) (fun r2 u2 p2 => ?_)
    obtain ⟨rfl, -⟩ := p2
    refine z_icmp_eq_t (tgt := 1091) B0 dL_law_736 (by decide) rfl ?_
    exact fin u1 u2
  · obtain rfl : x2 = 38 := Int32.toInt_inj.mp (h2.trans (by decide))
    refine z_aload_n B0 dL_law_708 rfl rfl ?_
    refine z_aload_n B0 dL_law_709 rfl rfl ?_
    refine z_iload_n B0 dL_law_710 rfl rfl ?_
    refine z_iconst (v := 1) B0 dL_law_711 (by decide) ?_
    refine z_iadd (v := 1) B0 dL_law_712 (by decide) ?_
    refine y_sld (j := 1) (v := 5) B0 hX hbl (by decide) e1.symm dL_law_713 ?_
    refine z_aload_n B0 dL_law_714 rfl rfl ?_
    refine z_iload_n B0 dL_law_715 rfl rfl ?_
    refine z_iconst (v := 2) B0 dL_law_716 (by decide) ?_
    refine z_iadd (v := 2) B0 dL_law_717 (by decide) ?_
    refine y_sld (j := 2) (v := 38) B0 hX hbl (by decide) e2.symm dL_law_718 ?_
    refine z_callC B0 (z_runV (q0 := 0) (As := [.int 5, .int 38]) (st := []) B0 (c_X11_after_313 (a := a) (cS0 w)  ) cf_X11_after (cw_0 cy tE a rw (cS0 w)) rfl wm_L_87 wi_X11_after ws_X11_after dL_law_719 rfl (Nat.le_of_ble_eq_true rfl) ⟨by decide, by decide, by decide, by decide⟩) (fun r1 u1 p1 => ?_)
    obtain ⟨rfl, -⟩ := p1
    refine z_aload_n B0 dL_law_722 rfl rfl ?_
    refine z_aload_n B0 dL_law_723 rfl rfl ?_
    refine z_iload_n B0 dL_law_724 rfl rfl ?_
    refine z_iconst (v := 1) B0 dL_law_725 (by decide) ?_
    refine z_iadd (v := 1) B0 dL_law_726 (by decide) ?_
    refine y_sld (j := 1) (v := 5) B0 hX hbl (by decide) e1.symm dL_law_727 ?_
    refine z_aload_n B0 dL_law_728 rfl rfl ?_
    refine z_iload_n B0 dL_law_729 rfl rfl ?_
    refine z_iconst (v := 2) B0 dL_law_730 (by decide) ?_
    refine z_iadd (v := 2) B0 dL_law_731 (by decide) ?_
    refine y_sld (j := 2) (v := 38) B0 hX hbl (by decide) e2.symm dL_law_732 ?_
    refine z_callM B0 (z_runV (q0 := 0) (As := [.int 5, .int 38]) (st := [.int (-1)]) B0 (c_X12_after_313 (a := a2) mS0  rfl rfl rfl rfl rfl rfl rfl rfl rfl rfl rfl rfl rfl rfl rfl rfl rfl rfl rfl rfl rfl rfl rfl rfl rfl rfl rfl) cf_X12_after (mw_0 cy a2 mS0) rfl wm_L_90 wi_X12_after ws_X12_after dL_law_733 rfl (Nat.le_of_ble_eq_true rfl) ⟨by decide, by decide, by decide, by decide⟩) (fun r2 u2 p2 => ?_)
    obtain ⟨rfl, -⟩ := p2
    refine z_icmp_eq_t (tgt := 1091) B0 dL_law_736 (by decide) rfl ?_
    exact fin u1 u2
  · obtain rfl : x2 = 39 := Int32.toInt_inj.mp (h2.trans (by decide))
    refine z_aload_n B0 dL_law_708 rfl rfl ?_
    refine z_aload_n B0 dL_law_709 rfl rfl ?_
    refine z_iload_n B0 dL_law_710 rfl rfl ?_
    refine z_iconst (v := 1) B0 dL_law_711 (by decide) ?_
    refine z_iadd (v := 1) B0 dL_law_712 (by decide) ?_
    refine y_sld (j := 1) (v := 5) B0 hX hbl (by decide) e1.symm dL_law_713 ?_
    refine z_aload_n B0 dL_law_714 rfl rfl ?_
    refine z_iload_n B0 dL_law_715 rfl rfl ?_
    refine z_iconst (v := 2) B0 dL_law_716 (by decide) ?_
    refine z_iadd (v := 2) B0 dL_law_717 (by decide) ?_
    refine y_sld (j := 2) (v := 39) B0 hX hbl (by decide) e2.symm dL_law_718 ?_
    refine z_callC B0 (z_runV (q0 := 0) (As := [.int 5, .int 39]) (st := []) B0 (c_X11_after_314 (a := a) (cS0 w)  ) cf_X11_after (cw_0 cy tE a rw (cS0 w)) rfl wm_L_87 wi_X11_after ws_X11_after dL_law_719 rfl (Nat.le_of_ble_eq_true rfl) ⟨by decide, by decide, by decide, by decide⟩) (fun r1 u1 p1 => ?_)
    obtain ⟨rfl, -⟩ := p1
    refine z_aload_n B0 dL_law_722 rfl rfl ?_
    refine z_aload_n B0 dL_law_723 rfl rfl ?_
    refine z_iload_n B0 dL_law_724 rfl rfl ?_
    refine z_iconst (v := 1) B0 dL_law_725 (by decide) ?_
    refine z_iadd (v := 1) B0 dL_law_726 (by decide) ?_
    refine y_sld (j := 1) (v := 5) B0 hX hbl (by decide) e1.symm dL_law_727 ?_
    refine z_aload_n B0 dL_law_728 rfl rfl ?_
    refine z_iload_n B0 dL_law_729 rfl rfl ?_
    refine z_iconst (v := 2) B0 dL_law_730 (by decide) ?_
    refine z_iadd (v := 2) B0 dL_law_731 (by decide) ?_
    refine y_sld (j := 2) (v := 39) B0 hX hbl (by decide) e2.symm dL_law_732 ?_
    refine z_callM B0 (z_runV (q0 := 0) (As := [.int 5, .int 39]) (st := [.int (-1)]) B0 (c_X12_after_314 (a := a2) mS0  rfl rfl rfl rfl rfl rfl rfl rfl rfl rfl rfl rfl rfl rfl rfl rfl rfl rfl rfl rfl rfl rfl rfl rfl rfl rfl rfl) cf_X12_after (mw_0 cy a2 mS0) rfl wm_L_90 wi_X12_after ws_X12_after dL_law_733 rfl (Nat.le_of_ble_eq_true rfl) ⟨by decide, by decide, by decide, by decide⟩) (fun r2 u2 p2 => ?_)
    obtain ⟨rfl, -⟩ := p2
    refine z_icmp_eq_t (tgt := 1091) B0 dL_law_736 (by decide) rfl ?_
    exact fin u1 u2
  · obtain rfl : x2 = 40 := Int32.toInt_inj.mp (h2.trans (by decide))
    refine z_aload_n B0 dL_law_708 rfl rfl ?_
    refine z_aload_n B0 dL_law_709 rfl rfl ?_
    refine z_iload_n B0 dL_law_710 rfl rfl ?_
    refine z_iconst (v := 1) B0 dL_law_711 (by decide) ?_
    refine z_iadd (v := 1) B0 dL_law_712 (by decide) ?_
    refine y_sld (j := 1) (v := 5) B0 hX hbl (by decide) e1.symm dL_law_713 ?_
    refine z_aload_n B0 dL_law_714 rfl rfl ?_
    refine z_iload_n B0 dL_law_715 rfl rfl ?_
    refine z_iconst (v := 2) B0 dL_law_716 (by decide) ?_
    refine z_iadd (v := 2) B0 dL_law_717 (by decide) ?_
    refine y_sld (j := 2) (v := 40) B0 hX hbl (by decide) e2.symm dL_law_718 ?_
    refine z_callC B0 (z_runV (q0 := 0) (As := [.int 5, .int 40]) (st := []) B0 (c_X11_after_315 (a := a) (cS0 w)  rfl rfl rfl hrw) cf_X11_after (cw_0 cy tE a rw (cS0 w)) rfl wm_L_87 wi_X11_after ws_X11_after dL_law_719 rfl (Nat.le_of_ble_eq_true rfl) ⟨by decide, by decide, by decide, by decide⟩) (fun r1 u1 p1 => ?_)
    obtain ⟨rfl, -⟩ := p1
    refine z_aload_n B0 dL_law_722 rfl rfl ?_
    refine z_aload_n B0 dL_law_723 rfl rfl ?_
    refine z_iload_n B0 dL_law_724 rfl rfl ?_
    refine z_iconst (v := 1) B0 dL_law_725 (by decide) ?_
    refine z_iadd (v := 1) B0 dL_law_726 (by decide) ?_
    refine y_sld (j := 1) (v := 5) B0 hX hbl (by decide) e1.symm dL_law_727 ?_
    refine z_aload_n B0 dL_law_728 rfl rfl ?_
    refine z_iload_n B0 dL_law_729 rfl rfl ?_
    refine z_iconst (v := 2) B0 dL_law_730 (by decide) ?_
    refine z_iadd (v := 2) B0 dL_law_731 (by decide) ?_
    refine y_sld (j := 2) (v := 40) B0 hX hbl (by decide) e2.symm dL_law_732 ?_
    refine z_callM B0 (z_runV (q0 := 0) (As := [.int 5, .int 40]) (st := [.int 3]) B0 (c_X12_after_315 (a := a2) mS0  rfl rfl rfl rfl rfl rfl rfl rfl rfl rfl rfl rfl rfl rfl rfl rfl rfl rfl rfl rfl rfl rfl rfl rfl rfl rfl rfl) cf_X12_after (mw_0 cy a2 mS0) rfl wm_L_90 wi_X12_after ws_X12_after dL_law_733 rfl (Nat.le_of_ble_eq_true rfl) ⟨by decide, by decide, by decide, by decide⟩) (fun r2 u2 p2 => ?_)
    obtain ⟨rfl, -⟩ := p2
    refine z_icmp_eq_t (tgt := 1091) B0 dL_law_736 (by decide) rfl ?_
    exact fin u1 u2
  · obtain rfl : x2 = 41 := Int32.toInt_inj.mp (h2.trans (by decide))
    refine z_aload_n B0 dL_law_708 rfl rfl ?_
    refine z_aload_n B0 dL_law_709 rfl rfl ?_
    refine z_iload_n B0 dL_law_710 rfl rfl ?_
    refine z_iconst (v := 1) B0 dL_law_711 (by decide) ?_
    refine z_iadd (v := 1) B0 dL_law_712 (by decide) ?_
    refine y_sld (j := 1) (v := 5) B0 hX hbl (by decide) e1.symm dL_law_713 ?_
    refine z_aload_n B0 dL_law_714 rfl rfl ?_
    refine z_iload_n B0 dL_law_715 rfl rfl ?_
    refine z_iconst (v := 2) B0 dL_law_716 (by decide) ?_
    refine z_iadd (v := 2) B0 dL_law_717 (by decide) ?_
    refine y_sld (j := 2) (v := 41) B0 hX hbl (by decide) e2.symm dL_law_718 ?_
    refine z_callC B0 (z_runV (q0 := 0) (As := [.int 5, .int 41]) (st := []) B0 (c_X11_after_316 (a := a) (cS0 w)  rfl rfl rfl hrw) cf_X11_after (cw_0 cy tE a rw (cS0 w)) rfl wm_L_87 wi_X11_after ws_X11_after dL_law_719 rfl (Nat.le_of_ble_eq_true rfl) ⟨by decide, by decide, by decide, by decide⟩) (fun r1 u1 p1 => ?_)
    obtain ⟨rfl, -⟩ := p1
    refine z_aload_n B0 dL_law_722 rfl rfl ?_
    refine z_aload_n B0 dL_law_723 rfl rfl ?_
    refine z_iload_n B0 dL_law_724 rfl rfl ?_
    refine z_iconst (v := 1) B0 dL_law_725 (by decide) ?_
    refine z_iadd (v := 1) B0 dL_law_726 (by decide) ?_
    refine y_sld (j := 1) (v := 5) B0 hX hbl (by decide) e1.symm dL_law_727 ?_
    refine z_aload_n B0 dL_law_728 rfl rfl ?_
    refine z_iload_n B0 dL_law_729 rfl rfl ?_
    refine z_iconst (v := 2) B0 dL_law_730 (by decide) ?_
    refine z_iadd (v := 2) B0 dL_law_731 (by decide) ?_
    refine y_sld (j := 2) (v := 41) B0 hX hbl (by decide) e2.symm dL_law_732 ?_
    refine z_callM B0 (z_runV (q0 := 0) (As := [.int 5, .int 41]) (st := [.int 3]) B0 (c_X12_after_316 (a := a2) mS0  rfl rfl rfl rfl rfl rfl rfl rfl rfl rfl rfl rfl rfl rfl rfl rfl rfl rfl rfl rfl rfl rfl rfl rfl rfl rfl rfl) cf_X12_after (mw_0 cy a2 mS0) rfl wm_L_90 wi_X12_after ws_X12_after dL_law_733 rfl (Nat.le_of_ble_eq_true rfl) ⟨by decide, by decide, by decide, by decide⟩) (fun r2 u2 p2 => ?_)
    obtain ⟨rfl, -⟩ := p2
    refine z_icmp_eq_t (tgt := 1091) B0 dL_law_736 (by decide) rfl ?_
    exact fin u1 u2
  · obtain rfl : x2 = 42 := Int32.toInt_inj.mp (h2.trans (by decide))
    refine z_aload_n B0 dL_law_708 rfl rfl ?_
    refine z_aload_n B0 dL_law_709 rfl rfl ?_
    refine z_iload_n B0 dL_law_710 rfl rfl ?_
    refine z_iconst (v := 1) B0 dL_law_711 (by decide) ?_
    refine z_iadd (v := 1) B0 dL_law_712 (by decide) ?_
    refine y_sld (j := 1) (v := 5) B0 hX hbl (by decide) e1.symm dL_law_713 ?_
    refine z_aload_n B0 dL_law_714 rfl rfl ?_
    refine z_iload_n B0 dL_law_715 rfl rfl ?_
    refine z_iconst (v := 2) B0 dL_law_716 (by decide) ?_
    refine z_iadd (v := 2) B0 dL_law_717 (by decide) ?_
    refine y_sld (j := 2) (v := 42) B0 hX hbl (by decide) e2.symm dL_law_718 ?_
    refine z_callC B0 (z_runV (q0 := 0) (As := [.int 5, .int 42]) (st := []) B0 (c_X11_after_317 (a := a) (cS0 w)  rfl rfl rfl hrw) cf_X11_after (cw_0 cy tE a rw (cS0 w)) rfl wm_L_87 wi_X11_after ws_X11_after dL_law_719 rfl (Nat.le_of_ble_eq_true rfl) ⟨by decide, by decide, by decide, by decide⟩) (fun r1 u1 p1 => ?_)
    obtain ⟨rfl, -⟩ := p1
    refine z_aload_n B0 dL_law_722 rfl rfl ?_
    refine z_aload_n B0 dL_law_723 rfl rfl ?_
    refine z_iload_n B0 dL_law_724 rfl rfl ?_
    refine z_iconst (v := 1) B0 dL_law_725 (by decide) ?_
    refine z_iadd (v := 1) B0 dL_law_726 (by decide) ?_
    refine y_sld (j := 1) (v := 5) B0 hX hbl (by decide) e1.symm dL_law_727 ?_
    refine z_aload_n B0 dL_law_728 rfl rfl ?_
    refine z_iload_n B0 dL_law_729 rfl rfl ?_
    refine z_iconst (v := 2) B0 dL_law_730 (by decide) ?_
    refine z_iadd (v := 2) B0 dL_law_731 (by decide) ?_
    refine y_sld (j := 2) (v := 42) B0 hX hbl (by decide) e2.symm dL_law_732 ?_
    refine z_callM B0 (z_runV (q0 := 0) (As := [.int 5, .int 42]) (st := [.int 3]) B0 (c_X12_after_317 (a := a2) mS0  rfl rfl rfl rfl rfl rfl rfl rfl rfl rfl rfl rfl rfl rfl rfl rfl rfl rfl rfl rfl rfl rfl rfl rfl rfl rfl rfl) cf_X12_after (mw_0 cy a2 mS0) rfl wm_L_90 wi_X12_after ws_X12_after dL_law_733 rfl (Nat.le_of_ble_eq_true rfl) ⟨by decide, by decide, by decide, by decide⟩) (fun r2 u2 p2 => ?_)
    obtain ⟨rfl, -⟩ := p2
    refine z_icmp_eq_t (tgt := 1091) B0 dL_law_736 (by decide) rfl ?_
    exact fin u1 u2
  · obtain rfl : x2 = 43 := Int32.toInt_inj.mp (h2.trans (by decide))
    refine z_aload_n B0 dL_law_708 rfl rfl ?_
    refine z_aload_n B0 dL_law_709 rfl rfl ?_
    refine z_iload_n B0 dL_law_710 rfl rfl ?_
    refine z_iconst (v := 1) B0 dL_law_711 (by decide) ?_
    refine z_iadd (v := 1) B0 dL_law_712 (by decide) ?_
    refine y_sld (j := 1) (v := 5) B0 hX hbl (by decide) e1.symm dL_law_713 ?_
    refine z_aload_n B0 dL_law_714 rfl rfl ?_
    refine z_iload_n B0 dL_law_715 rfl rfl ?_
    refine z_iconst (v := 2) B0 dL_law_716 (by decide) ?_
    refine z_iadd (v := 2) B0 dL_law_717 (by decide) ?_
    refine y_sld (j := 2) (v := 43) B0 hX hbl (by decide) e2.symm dL_law_718 ?_
    refine z_callC B0 (z_runV (q0 := 0) (As := [.int 5, .int 43]) (st := []) B0 (c_X11_after_318 (a := a) (cS0 w)  ) cf_X11_after (cw_0 cy tE a rw (cS0 w)) rfl wm_L_87 wi_X11_after ws_X11_after dL_law_719 rfl (Nat.le_of_ble_eq_true rfl) ⟨by decide, by decide, by decide, by decide⟩) (fun r1 u1 p1 => ?_)
    obtain ⟨rfl, -⟩ := p1
    refine z_aload_n B0 dL_law_722 rfl rfl ?_
    refine z_aload_n B0 dL_law_723 rfl rfl ?_
    refine z_iload_n B0 dL_law_724 rfl rfl ?_
    refine z_iconst (v := 1) B0 dL_law_725 (by decide) ?_
    refine z_iadd (v := 1) B0 dL_law_726 (by decide) ?_
    refine y_sld (j := 1) (v := 5) B0 hX hbl (by decide) e1.symm dL_law_727 ?_
    refine z_aload_n B0 dL_law_728 rfl rfl ?_
    refine z_iload_n B0 dL_law_729 rfl rfl ?_
    refine z_iconst (v := 2) B0 dL_law_730 (by decide) ?_
    refine z_iadd (v := 2) B0 dL_law_731 (by decide) ?_
    refine y_sld (j := 2) (v := 43) B0 hX hbl (by decide) e2.symm dL_law_732 ?_
    refine z_callM B0 (z_runV (q0 := 0) (As := [.int 5, .int 43]) (st := [.int (-1)]) B0 (c_X12_after_318 (a := a2) mS0  rfl rfl rfl rfl rfl rfl rfl rfl rfl rfl rfl rfl rfl rfl rfl rfl rfl rfl rfl rfl rfl rfl rfl rfl rfl rfl rfl) cf_X12_after (mw_0 cy a2 mS0) rfl wm_L_90 wi_X12_after ws_X12_after dL_law_733 rfl (Nat.le_of_ble_eq_true rfl) ⟨by decide, by decide, by decide, by decide⟩) (fun r2 u2 p2 => ?_)
    obtain ⟨rfl, -⟩ := p2
    refine z_icmp_eq_t (tgt := 1091) B0 dL_law_736 (by decide) rfl ?_
    exact fin u1 u2
  · obtain rfl : x2 = 44 := Int32.toInt_inj.mp (h2.trans (by decide))
    refine z_aload_n B0 dL_law_708 rfl rfl ?_
    refine z_aload_n B0 dL_law_709 rfl rfl ?_
    refine z_iload_n B0 dL_law_710 rfl rfl ?_
    refine z_iconst (v := 1) B0 dL_law_711 (by decide) ?_
    refine z_iadd (v := 1) B0 dL_law_712 (by decide) ?_
    refine y_sld (j := 1) (v := 5) B0 hX hbl (by decide) e1.symm dL_law_713 ?_
    refine z_aload_n B0 dL_law_714 rfl rfl ?_
    refine z_iload_n B0 dL_law_715 rfl rfl ?_
    refine z_iconst (v := 2) B0 dL_law_716 (by decide) ?_
    refine z_iadd (v := 2) B0 dL_law_717 (by decide) ?_
    refine y_sld (j := 2) (v := 44) B0 hX hbl (by decide) e2.symm dL_law_718 ?_
    refine z_callC B0 (z_runV (q0 := 0) (As := [.int 5, .int 44]) (st := []) B0 (c_X11_after_319 (a := a) (cS0 w)  ) cf_X11_after (cw_0 cy tE a rw (cS0 w)) rfl wm_L_87 wi_X11_after ws_X11_after dL_law_719 rfl (Nat.le_of_ble_eq_true rfl) ⟨by decide, by decide, by decide, by decide⟩) (fun r1 u1 p1 => ?_)
    obtain ⟨rfl, -⟩ := p1
    refine z_aload_n B0 dL_law_722 rfl rfl ?_
    refine z_aload_n B0 dL_law_723 rfl rfl ?_
    refine z_iload_n B0 dL_law_724 rfl rfl ?_
    refine z_iconst (v := 1) B0 dL_law_725 (by decide) ?_
    refine z_iadd (v := 1) B0 dL_law_726 (by decide) ?_
    refine y_sld (j := 1) (v := 5) B0 hX hbl (by decide) e1.symm dL_law_727 ?_
    refine z_aload_n B0 dL_law_728 rfl rfl ?_
    refine z_iload_n B0 dL_law_729 rfl rfl ?_
    refine z_iconst (v := 2) B0 dL_law_730 (by decide) ?_
    refine z_iadd (v := 2) B0 dL_law_731 (by decide) ?_
    refine y_sld (j := 2) (v := 44) B0 hX hbl (by decide) e2.symm dL_law_732 ?_
    refine z_callM B0 (z_runV (q0 := 0) (As := [.int 5, .int 44]) (st := [.int (-1)]) B0 (c_X12_after_319 (a := a2) mS0  rfl rfl rfl rfl rfl rfl rfl rfl rfl rfl rfl rfl rfl rfl rfl rfl rfl rfl rfl rfl rfl rfl rfl rfl rfl rfl rfl) cf_X12_after (mw_0 cy a2 mS0) rfl wm_L_90 wi_X12_after ws_X12_after dL_law_733 rfl (Nat.le_of_ble_eq_true rfl) ⟨by decide, by decide, by decide, by decide⟩) (fun r2 u2 p2 => ?_)
    obtain ⟨rfl, -⟩ := p2
    refine z_icmp_eq_t (tgt := 1091) B0 dL_law_736 (by decide) rfl ?_
    exact fin u1 u2
  · obtain rfl : x2 = 45 := Int32.toInt_inj.mp (h2.trans (by decide))
    refine z_aload_n B0 dL_law_708 rfl rfl ?_
    refine z_aload_n B0 dL_law_709 rfl rfl ?_
    refine z_iload_n B0 dL_law_710 rfl rfl ?_
    refine z_iconst (v := 1) B0 dL_law_711 (by decide) ?_
    refine z_iadd (v := 1) B0 dL_law_712 (by decide) ?_
    refine y_sld (j := 1) (v := 5) B0 hX hbl (by decide) e1.symm dL_law_713 ?_
    refine z_aload_n B0 dL_law_714 rfl rfl ?_
    refine z_iload_n B0 dL_law_715 rfl rfl ?_
    refine z_iconst (v := 2) B0 dL_law_716 (by decide) ?_
    refine z_iadd (v := 2) B0 dL_law_717 (by decide) ?_
    refine y_sld (j := 2) (v := 45) B0 hX hbl (by decide) e2.symm dL_law_718 ?_
    refine z_callC B0 (z_runV (q0 := 0) (As := [.int 5, .int 45]) (st := []) B0 (c_X11_after_320 (a := a) (cS0 w)  ) cf_X11_after (cw_0 cy tE a rw (cS0 w)) rfl wm_L_87 wi_X11_after ws_X11_after dL_law_719 rfl (Nat.le_of_ble_eq_true rfl) ⟨by decide, by decide, by decide, by decide⟩) (fun r1 u1 p1 => ?_)
    obtain ⟨rfl, -⟩ := p1
    refine z_aload_n B0 dL_law_722 rfl rfl ?_
    refine z_aload_n B0 dL_law_723 rfl rfl ?_
    refine z_iload_n B0 dL_law_724 rfl rfl ?_
    refine z_iconst (v := 1) B0 dL_law_725 (by decide) ?_
    refine z_iadd (v := 1) B0 dL_law_726 (by decide) ?_
    refine y_sld (j := 1) (v := 5) B0 hX hbl (by decide) e1.symm dL_law_727 ?_
    refine z_aload_n B0 dL_law_728 rfl rfl ?_
    refine z_iload_n B0 dL_law_729 rfl rfl ?_
    refine z_iconst (v := 2) B0 dL_law_730 (by decide) ?_
    refine z_iadd (v := 2) B0 dL_law_731 (by decide) ?_
    refine y_sld (j := 2) (v := 45) B0 hX hbl (by decide) e2.symm dL_law_732 ?_
    refine z_callM B0 (z_runV (q0 := 0) (As := [.int 5, .int 45]) (st := [.int (-1)]) B0 (c_X12_after_320 (a := a2) mS0  rfl rfl rfl rfl rfl rfl rfl rfl rfl rfl rfl rfl rfl rfl rfl rfl rfl rfl rfl rfl rfl rfl rfl rfl rfl rfl rfl) cf_X12_after (mw_0 cy a2 mS0) rfl wm_L_90 wi_X12_after ws_X12_after dL_law_733 rfl (Nat.le_of_ble_eq_true rfl) ⟨by decide, by decide, by decide, by decide⟩) (fun r2 u2 p2 => ?_)
    obtain ⟨rfl, -⟩ := p2
    refine z_icmp_eq_t (tgt := 1091) B0 dL_law_736 (by decide) rfl ?_
    exact fin u1 u2
  · obtain rfl : x2 = 46 := Int32.toInt_inj.mp (h2.trans (by decide))
    refine z_aload_n B0 dL_law_708 rfl rfl ?_
    refine z_aload_n B0 dL_law_709 rfl rfl ?_
    refine z_iload_n B0 dL_law_710 rfl rfl ?_
    refine z_iconst (v := 1) B0 dL_law_711 (by decide) ?_
    refine z_iadd (v := 1) B0 dL_law_712 (by decide) ?_
    refine y_sld (j := 1) (v := 5) B0 hX hbl (by decide) e1.symm dL_law_713 ?_
    refine z_aload_n B0 dL_law_714 rfl rfl ?_
    refine z_iload_n B0 dL_law_715 rfl rfl ?_
    refine z_iconst (v := 2) B0 dL_law_716 (by decide) ?_
    refine z_iadd (v := 2) B0 dL_law_717 (by decide) ?_
    refine y_sld (j := 2) (v := 46) B0 hX hbl (by decide) e2.symm dL_law_718 ?_
    refine z_callC B0 (z_runV (q0 := 0) (As := [.int 5, .int 46]) (st := []) B0 (c_X11_after_321 (a := a) (cS0 w)  ) cf_X11_after (cw_0 cy tE a rw (cS0 w)) rfl wm_L_87 wi_X11_after ws_X11_after dL_law_719 rfl (Nat.le_of_ble_eq_true rfl) ⟨by decide, by decide, by decide, by decide⟩) (fun r1 u1 p1 => ?_)
    obtain ⟨rfl, -⟩ := p1
    refine z_aload_n B0 dL_law_722 rfl rfl ?_
    refine z_aload_n B0 dL_law_723 rfl rfl ?_
    refine z_iload_n B0 dL_law_724 rfl rfl ?_
    refine z_iconst (v := 1) B0 dL_law_725 (by decide) ?_
    refine z_iadd (v := 1) B0 dL_law_726 (by decide) ?_
    refine y_sld (j := 1) (v := 5) B0 hX hbl (by decide) e1.symm dL_law_727 ?_
    refine z_aload_n B0 dL_law_728 rfl rfl ?_
    refine z_iload_n B0 dL_law_729 rfl rfl ?_
    refine z_iconst (v := 2) B0 dL_law_730 (by decide) ?_
    refine z_iadd (v := 2) B0 dL_law_731 (by decide) ?_
    refine y_sld (j := 2) (v := 46) B0 hX hbl (by decide) e2.symm dL_law_732 ?_
    refine z_callM B0 (z_runV (q0 := 0) (As := [.int 5, .int 46]) (st := [.int (-1)]) B0 (c_X12_after_321 (a := a2) mS0  rfl rfl rfl rfl rfl rfl rfl rfl rfl rfl rfl rfl rfl rfl rfl rfl rfl rfl rfl rfl rfl rfl rfl rfl rfl rfl rfl) cf_X12_after (mw_0 cy a2 mS0) rfl wm_L_90 wi_X12_after ws_X12_after dL_law_733 rfl (Nat.le_of_ble_eq_true rfl) ⟨by decide, by decide, by decide, by decide⟩) (fun r2 u2 p2 => ?_)
    obtain ⟨rfl, -⟩ := p2
    refine z_icmp_eq_t (tgt := 1091) B0 dL_law_736 (by decide) rfl ?_
    exact fin u1 u2
  · obtain rfl : x2 = 47 := Int32.toInt_inj.mp (h2.trans (by decide))
    refine z_aload_n B0 dL_law_708 rfl rfl ?_
    refine z_aload_n B0 dL_law_709 rfl rfl ?_
    refine z_iload_n B0 dL_law_710 rfl rfl ?_
    refine z_iconst (v := 1) B0 dL_law_711 (by decide) ?_
    refine z_iadd (v := 1) B0 dL_law_712 (by decide) ?_
    refine y_sld (j := 1) (v := 5) B0 hX hbl (by decide) e1.symm dL_law_713 ?_
    refine z_aload_n B0 dL_law_714 rfl rfl ?_
    refine z_iload_n B0 dL_law_715 rfl rfl ?_
    refine z_iconst (v := 2) B0 dL_law_716 (by decide) ?_
    refine z_iadd (v := 2) B0 dL_law_717 (by decide) ?_
    refine y_sld (j := 2) (v := 47) B0 hX hbl (by decide) e2.symm dL_law_718 ?_
    refine z_callC B0 (z_runV (q0 := 0) (As := [.int 5, .int 47]) (st := []) B0 (c_X11_after_322 (a := a) (cS0 w)  ) cf_X11_after (cw_0 cy tE a rw (cS0 w)) rfl wm_L_87 wi_X11_after ws_X11_after dL_law_719 rfl (Nat.le_of_ble_eq_true rfl) ⟨by decide, by decide, by decide, by decide⟩) (fun r1 u1 p1 => ?_)
    obtain ⟨rfl, -⟩ := p1
    refine z_aload_n B0 dL_law_722 rfl rfl ?_
    refine z_aload_n B0 dL_law_723 rfl rfl ?_
    refine z_iload_n B0 dL_law_724 rfl rfl ?_
    refine z_iconst (v := 1) B0 dL_law_725 (by decide) ?_
    refine z_iadd (v := 1) B0 dL_law_726 (by decide) ?_
    refine y_sld (j := 1) (v := 5) B0 hX hbl (by decide) e1.symm dL_law_727 ?_
    refine z_aload_n B0 dL_law_728 rfl rfl ?_
    refine z_iload_n B0 dL_law_729 rfl rfl ?_
    refine z_iconst (v := 2) B0 dL_law_730 (by decide) ?_
    refine z_iadd (v := 2) B0 dL_law_731 (by decide) ?_
    refine y_sld (j := 2) (v := 47) B0 hX hbl (by decide) e2.symm dL_law_732 ?_
    refine z_callM B0 (z_runV (q0 := 0) (As := [.int 5, .int 47]) (st := [.int (-1)]) B0 (c_X12_after_322 (a := a2) mS0  rfl rfl rfl rfl rfl rfl rfl rfl rfl rfl rfl rfl rfl rfl rfl rfl rfl rfl rfl rfl rfl rfl rfl rfl rfl rfl rfl) cf_X12_after (mw_0 cy a2 mS0) rfl wm_L_90 wi_X12_after ws_X12_after dL_law_733 rfl (Nat.le_of_ble_eq_true rfl) ⟨by decide, by decide, by decide, by decide⟩) (fun r2 u2 p2 => ?_)
    obtain ⟨rfl, -⟩ := p2
    refine z_icmp_eq_t (tgt := 1091) B0 dL_law_736 (by decide) rfl ?_
    exact fin u1 u2
  · obtain rfl : x2 = 48 := Int32.toInt_inj.mp (h2.trans (by decide))
    refine z_aload_n B0 dL_law_708 rfl rfl ?_
    refine z_aload_n B0 dL_law_709 rfl rfl ?_
    refine z_iload_n B0 dL_law_710 rfl rfl ?_
    refine z_iconst (v := 1) B0 dL_law_711 (by decide) ?_
    refine z_iadd (v := 1) B0 dL_law_712 (by decide) ?_
    refine y_sld (j := 1) (v := 5) B0 hX hbl (by decide) e1.symm dL_law_713 ?_
    refine z_aload_n B0 dL_law_714 rfl rfl ?_
    refine z_iload_n B0 dL_law_715 rfl rfl ?_
    refine z_iconst (v := 2) B0 dL_law_716 (by decide) ?_
    refine z_iadd (v := 2) B0 dL_law_717 (by decide) ?_
    refine y_sld (j := 2) (v := 48) B0 hX hbl (by decide) e2.symm dL_law_718 ?_
    refine z_callC B0 (z_runV (q0 := 0) (As := [.int 5, .int 48]) (st := []) B0 (c_X11_after_323 (a := a) (cS0 w)  ) cf_X11_after (cw_0 cy tE a rw (cS0 w)) rfl wm_L_87 wi_X11_after ws_X11_after dL_law_719 rfl (Nat.le_of_ble_eq_true rfl) ⟨by decide, by decide, by decide, by decide⟩) (fun r1 u1 p1 => ?_)
    obtain ⟨rfl, -⟩ := p1
    refine z_aload_n B0 dL_law_722 rfl rfl ?_
    refine z_aload_n B0 dL_law_723 rfl rfl ?_
    refine z_iload_n B0 dL_law_724 rfl rfl ?_
    refine z_iconst (v := 1) B0 dL_law_725 (by decide) ?_
    refine z_iadd (v := 1) B0 dL_law_726 (by decide) ?_
    refine y_sld (j := 1) (v := 5) B0 hX hbl (by decide) e1.symm dL_law_727 ?_
    refine z_aload_n B0 dL_law_728 rfl rfl ?_
    refine z_iload_n B0 dL_law_729 rfl rfl ?_
    refine z_iconst (v := 2) B0 dL_law_730 (by decide) ?_
    refine z_iadd (v := 2) B0 dL_law_731 (by decide) ?_
    refine y_sld (j := 2) (v := 48) B0 hX hbl (by decide) e2.symm dL_law_732 ?_
    refine z_callM B0 (z_runV (q0 := 0) (As := [.int 5, .int 48]) (st := [.int (-1)]) B0 (c_X12_after_323 (a := a2) mS0  rfl rfl rfl rfl rfl rfl rfl rfl rfl rfl rfl rfl rfl rfl rfl rfl rfl rfl rfl rfl rfl rfl rfl rfl rfl rfl rfl) cf_X12_after (mw_0 cy a2 mS0) rfl wm_L_90 wi_X12_after ws_X12_after dL_law_733 rfl (Nat.le_of_ble_eq_true rfl) ⟨by decide, by decide, by decide, by decide⟩) (fun r2 u2 p2 => ?_)
    obtain ⟨rfl, -⟩ := p2
    refine z_icmp_eq_t (tgt := 1091) B0 dL_law_736 (by decide) rfl ?_
    exact fin u1 u2
  · obtain rfl : x2 = 49 := Int32.toInt_inj.mp (h2.trans (by decide))
    refine z_aload_n B0 dL_law_708 rfl rfl ?_
    refine z_aload_n B0 dL_law_709 rfl rfl ?_
    refine z_iload_n B0 dL_law_710 rfl rfl ?_
    refine z_iconst (v := 1) B0 dL_law_711 (by decide) ?_
    refine z_iadd (v := 1) B0 dL_law_712 (by decide) ?_
    refine y_sld (j := 1) (v := 5) B0 hX hbl (by decide) e1.symm dL_law_713 ?_
    refine z_aload_n B0 dL_law_714 rfl rfl ?_
    refine z_iload_n B0 dL_law_715 rfl rfl ?_
    refine z_iconst (v := 2) B0 dL_law_716 (by decide) ?_
    refine z_iadd (v := 2) B0 dL_law_717 (by decide) ?_
    refine y_sld (j := 2) (v := 49) B0 hX hbl (by decide) e2.symm dL_law_718 ?_
    refine z_callC B0 (z_runV (q0 := 0) (As := [.int 5, .int 49]) (st := []) B0 (c_X11_after_324 (a := a) (cS0 w)  ) cf_X11_after (cw_0 cy tE a rw (cS0 w)) rfl wm_L_87 wi_X11_after ws_X11_after dL_law_719 rfl (Nat.le_of_ble_eq_true rfl) ⟨by decide, by decide, by decide, by decide⟩) (fun r1 u1 p1 => ?_)
    obtain ⟨rfl, -⟩ := p1
    refine z_aload_n B0 dL_law_722 rfl rfl ?_
    refine z_aload_n B0 dL_law_723 rfl rfl ?_
    refine z_iload_n B0 dL_law_724 rfl rfl ?_
    refine z_iconst (v := 1) B0 dL_law_725 (by decide) ?_
    refine z_iadd (v := 1) B0 dL_law_726 (by decide) ?_
    refine y_sld (j := 1) (v := 5) B0 hX hbl (by decide) e1.symm dL_law_727 ?_
    refine z_aload_n B0 dL_law_728 rfl rfl ?_
    refine z_iload_n B0 dL_law_729 rfl rfl ?_
    refine z_iconst (v := 2) B0 dL_law_730 (by decide) ?_
    refine z_iadd (v := 2) B0 dL_law_731 (by decide) ?_
    refine y_sld (j := 2) (v := 49) B0 hX hbl (by decide) e2.symm dL_law_732 ?_
    refine z_callM B0 (z_runV (q0 := 0) (As := [.int 5, .int 49]) (st := [.int (-1)]) B0 (c_X12_after_324 (a := a2) mS0  rfl rfl rfl rfl rfl rfl rfl rfl rfl rfl rfl rfl rfl rfl rfl rfl rfl rfl rfl rfl rfl rfl rfl rfl rfl rfl rfl) cf_X12_after (mw_0 cy a2 mS0) rfl wm_L_90 wi_X12_after ws_X12_after dL_law_733 rfl (Nat.le_of_ble_eq_true rfl) ⟨by decide, by decide, by decide, by decide⟩) (fun r2 u2 p2 => ?_)
    obtain ⟨rfl, -⟩ := p2
    refine z_icmp_eq_t (tgt := 1091) B0 dL_law_736 (by decide) rfl ?_
    exact fin u1 u2
  · obtain rfl : x2 = 50 := Int32.toInt_inj.mp (h2.trans (by decide))
    refine z_aload_n B0 dL_law_708 rfl rfl ?_
    refine z_aload_n B0 dL_law_709 rfl rfl ?_
    refine z_iload_n B0 dL_law_710 rfl rfl ?_
    refine z_iconst (v := 1) B0 dL_law_711 (by decide) ?_
    refine z_iadd (v := 1) B0 dL_law_712 (by decide) ?_
    refine y_sld (j := 1) (v := 5) B0 hX hbl (by decide) e1.symm dL_law_713 ?_
    refine z_aload_n B0 dL_law_714 rfl rfl ?_
    refine z_iload_n B0 dL_law_715 rfl rfl ?_
    refine z_iconst (v := 2) B0 dL_law_716 (by decide) ?_
    refine z_iadd (v := 2) B0 dL_law_717 (by decide) ?_
    refine y_sld (j := 2) (v := 50) B0 hX hbl (by decide) e2.symm dL_law_718 ?_
    refine z_callC B0 (z_runV (q0 := 0) (As := [.int 5, .int 50]) (st := []) B0 (c_X11_after_325 (a := a) (cS0 w)  rfl rfl rfl hrw) cf_X11_after (cw_0 cy tE a rw (cS0 w)) rfl wm_L_87 wi_X11_after ws_X11_after dL_law_719 rfl (Nat.le_of_ble_eq_true rfl) ⟨by decide, by decide, by decide, by decide⟩) (fun r1 u1 p1 => ?_)
    obtain ⟨rfl, -⟩ := p1
    refine z_aload_n B0 dL_law_722 rfl rfl ?_
    refine z_aload_n B0 dL_law_723 rfl rfl ?_
    refine z_iload_n B0 dL_law_724 rfl rfl ?_
    refine z_iconst (v := 1) B0 dL_law_725 (by decide) ?_
    refine z_iadd (v := 1) B0 dL_law_726 (by decide) ?_
    refine y_sld (j := 1) (v := 5) B0 hX hbl (by decide) e1.symm dL_law_727 ?_
    refine z_aload_n B0 dL_law_728 rfl rfl ?_
    refine z_iload_n B0 dL_law_729 rfl rfl ?_
    refine z_iconst (v := 2) B0 dL_law_730 (by decide) ?_
    refine z_iadd (v := 2) B0 dL_law_731 (by decide) ?_
    refine y_sld (j := 2) (v := 50) B0 hX hbl (by decide) e2.symm dL_law_732 ?_
    refine z_callM B0 (z_runV (q0 := 0) (As := [.int 5, .int 50]) (st := [.int 0]) B0 (c_X12_after_325 (a := a2) mS0  rfl rfl rfl rfl rfl rfl rfl rfl rfl rfl rfl rfl rfl rfl rfl rfl rfl rfl rfl rfl rfl rfl rfl rfl rfl rfl rfl) cf_X12_after (mw_0 cy a2 mS0) rfl wm_L_90 wi_X12_after ws_X12_after dL_law_733 rfl (Nat.le_of_ble_eq_true rfl) ⟨by decide, by decide, by decide, by decide⟩) (fun r2 u2 p2 => ?_)
    obtain ⟨rfl, -⟩ := p2
    refine z_icmp_eq_t (tgt := 1091) B0 dL_law_736 (by decide) rfl ?_
    exact fin u1 u2
  · refine z_aload_n B0 dL_law_708 rfl rfl ?_
    refine z_aload_n B0 dL_law_709 rfl rfl ?_
    refine z_iload_n B0 dL_law_710 rfl rfl ?_
    refine z_iconst (v := 1) B0 dL_law_711 (by decide) ?_
    refine z_iadd (v := 1) B0 dL_law_712 (by decide) ?_
    refine y_sld (j := 1) (v := 5) B0 hX hbl (by decide) e1.symm dL_law_713 ?_
    refine z_aload_n B0 dL_law_714 rfl rfl ?_
    refine z_iload_n B0 dL_law_715 rfl rfl ?_
    refine z_iconst (v := 2) B0 dL_law_716 (by decide) ?_
    refine z_iadd (v := 2) B0 dL_law_717 (by decide) ?_
    refine y_sld (j := 2) (v := x2) B0 hX hbl (by decide) e2.symm dL_law_718 ?_
    refine z_callC B0 (z_runV (q0 := 0) (As := [.int 5, .int x2]) (st := []) B0 (c_X11_after_326 (a := a) (cS0 w) x2 ⟨by omega, by omega⟩) cf_X11_after (cw_0 cy tE a rw (cS0 w)) rfl wm_L_87 wi_X11_after ws_X11_after dL_law_719 rfl (Nat.le_of_ble_eq_true rfl) ⟨by decide, by decide, by decide, by decide⟩) (fun r1 u1 p1 => ?_)
    obtain ⟨rfl, -⟩ := p1
    refine z_aload_n B0 dL_law_722 rfl rfl ?_
    refine z_aload_n B0 dL_law_723 rfl rfl ?_
    refine z_iload_n B0 dL_law_724 rfl rfl ?_
    refine z_iconst (v := 1) B0 dL_law_725 (by decide) ?_
    refine z_iadd (v := 1) B0 dL_law_726 (by decide) ?_
    refine y_sld (j := 1) (v := 5) B0 hX hbl (by decide) e1.symm dL_law_727 ?_
    refine z_aload_n B0 dL_law_728 rfl rfl ?_
    refine z_iload_n B0 dL_law_729 rfl rfl ?_
    refine z_iconst (v := 2) B0 dL_law_730 (by decide) ?_
    refine z_iadd (v := 2) B0 dL_law_731 (by decide) ?_
    refine y_sld (j := 2) (v := x2) B0 hX hbl (by decide) e2.symm dL_law_732 ?_
    refine z_callM B0 (z_runV (q0 := 0) (As := [.int 5, .int x2]) (st := [.int (-1)]) B0 (c_X12_after_326 (a := a2) mS0 x2 rfl rfl rfl rfl rfl rfl rfl rfl rfl rfl rfl rfl rfl rfl rfl rfl rfl rfl rfl rfl rfl rfl rfl rfl rfl rfl rfl ⟨by omega, by omega⟩) cf_X12_after (mw_0 cy a2 mS0) rfl wm_L_90 wi_X12_after ws_X12_after dL_law_733 rfl (Nat.le_of_ble_eq_true rfl) ⟨by decide, by decide, by decide, by decide⟩) (fun r2 u2 p2 => ?_)
    obtain ⟨rfl, -⟩ := p2
    refine z_icmp_eq_t (tgt := 1091) B0 dL_law_736 (by decide) rfl ?_
    exact fin u1 u2

set_option maxHeartbeats 8000000 in
set_option maxRecDepth 100000 in
theorem lo_after {p : Program} {l : Launch} {e : Env} {s : State} {m : MethodId} {below : List Frame} {meth : Method} {c : Code} {D : va_G} {cy : Nat → ClassId} {tB tE b : Nat} {a a2 : Nat → Nat} {rw : Nat → Option Nat} {xs : Nat → Int32} (B0 : Bz p room_1 s m #[Value.ref b] meth c D cy s.heap.size tB tE (fun q => s.heap.size ≤ q) 4 cL_law RL meth.sig.returnType meth.name 2048 84000 600000 7302250) (hX : va_X b 6 xs s s.heap) (hbl : b < s.heap.size) (hrw : ∀ i, i < 6 → rw i = some (a (36 + 2 * i))) (w : Nat → Int64) (fin : ∀ S S9 : GS, Z p l e room_1 s m #[Value.ref b] below meth c D (fun q => s.heap.size ≤ q) 4 (lw_Z below #[Value.ref b] s) 200 60000 (cw cy tE a rw S ++ mw cy a2 S9) [(3, .int 0), (2, .ref (a2 0)), (1, .ref (a 0)), (0, .ref b)] 1091 []) : Z p l e room_1 s m #[Value.ref b] below meth c D (fun q => s.heap.size ≤ q) 4 (lw_Z below #[Value.ref b] s) 200 60000 (cw cy tE a rw (cS0 w) ++ mw cy a2 mS0) [(3, .int 0), (2, .ref (a2 0)), (1, .ref (a 0)), (0, .ref b)] 708 [] := by
  obtain ⟨x1, e1⟩ : ∃ x, x = xs 1 := ⟨_, rfl⟩
  obtain ⟨x2, e2⟩ : ∃ x, x = xs 2 := ⟨_, rfl⟩
  rcases (show ((-2147483648) ≤ x1.toInt ∧ x1.toInt ≤ (-1)) ∨ x1.toInt = 0 ∨ x1.toInt = 1 ∨ x1.toInt = 2 ∨ x1.toInt = 3 ∨ x1.toInt = 4 ∨ x1.toInt = 5 ∨ (6 ≤ x1.toInt ∧ x1.toInt ≤ 2147483647) by have g1 := Int32.le_toInt x1; have g2 := Int32.toInt_lt x1; omega) with h1 | h1 | h1 | h1 | h1 | h1 | h1 | h1
  · refine z_aload_n B0 dL_law_708 rfl rfl ?_
    refine z_aload_n B0 dL_law_709 rfl rfl ?_
    refine z_iload_n B0 dL_law_710 rfl rfl ?_
    refine z_iconst (v := 1) B0 dL_law_711 (by decide) ?_
    refine z_iadd (v := 1) B0 dL_law_712 (by decide) ?_
    refine y_sld (j := 1) (v := x1) B0 hX hbl (by decide) e1.symm dL_law_713 ?_
    refine z_aload_n B0 dL_law_714 rfl rfl ?_
    refine z_iload_n B0 dL_law_715 rfl rfl ?_
    refine z_iconst (v := 2) B0 dL_law_716 (by decide) ?_
    refine z_iadd (v := 2) B0 dL_law_717 (by decide) ?_
    refine y_sld (j := 2) (v := x2) B0 hX hbl (by decide) e2.symm dL_law_718 ?_
    refine z_callC B0 (z_runV (q0 := 0) (As := [.int x1, .int x2]) (st := []) B0 (c_X11_after (a := a) (cS0 w) x1 x2 ⟨by omega, by omega⟩) cf_X11_after (cw_0 cy tE a rw (cS0 w)) rfl wm_L_87 wi_X11_after ws_X11_after dL_law_719 rfl (Nat.le_of_ble_eq_true rfl) ⟨by decide, by decide, by decide, by decide⟩) (fun r1 u1 p1 => ?_)
    obtain ⟨rfl, -⟩ := p1
    refine z_aload_n B0 dL_law_722 rfl rfl ?_
    refine z_aload_n B0 dL_law_723 rfl rfl ?_
    refine z_iload_n B0 dL_law_724 rfl rfl ?_
    refine z_iconst (v := 1) B0 dL_law_725 (by decide) ?_
    refine z_iadd (v := 1) B0 dL_law_726 (by decide) ?_
    refine y_sld (j := 1) (v := x1) B0 hX hbl (by decide) e1.symm dL_law_727 ?_
    refine z_aload_n B0 dL_law_728 rfl rfl ?_
    refine z_iload_n B0 dL_law_729 rfl rfl ?_
    refine z_iconst (v := 2) B0 dL_law_730 (by decide) ?_
    refine z_iadd (v := 2) B0 dL_law_731 (by decide) ?_
    refine y_sld (j := 2) (v := x2) B0 hX hbl (by decide) e2.symm dL_law_732 ?_
    refine z_callM B0 (z_runV (q0 := 0) (As := [.int x1, .int x2]) (st := [.int (-1)]) B0 (c_X12_after (a := a2) mS0 x1 x2 ⟨by omega, by omega⟩) cf_X12_after (mw_0 cy a2 mS0) rfl wm_L_90 wi_X12_after ws_X12_after dL_law_733 rfl (Nat.le_of_ble_eq_true rfl) ⟨by decide, by decide, by decide, by decide⟩) (fun r2 u2 p2 => ?_)
    obtain ⟨rfl, -⟩ := p2
    refine z_icmp_eq_t (tgt := 1091) B0 dL_law_736 (by decide) rfl ?_
    exact fin u1 u2
  · obtain rfl : x1 = 0 := Int32.toInt_inj.mp (h1.trans (by decide))
    exact lo_after_0 B0 hX hbl hrw w fin e1
  · obtain rfl : x1 = 1 := Int32.toInt_inj.mp (h1.trans (by decide))
    exact lo_after_1 B0 hX hbl hrw w fin e1
  · obtain rfl : x1 = 2 := Int32.toInt_inj.mp (h1.trans (by decide))
    exact lo_after_2 B0 hX hbl hrw w fin e1
  · obtain rfl : x1 = 3 := Int32.toInt_inj.mp (h1.trans (by decide))
    exact lo_after_3 B0 hX hbl hrw w fin e1
  · obtain rfl : x1 = 4 := Int32.toInt_inj.mp (h1.trans (by decide))
    exact lo_after_4 B0 hX hbl hrw w fin e1
  · obtain rfl : x1 = 5 := Int32.toInt_inj.mp (h1.trans (by decide))
    exact lo_after_5 B0 hX hbl hrw w fin e1
  · refine z_aload_n B0 dL_law_708 rfl rfl ?_
    refine z_aload_n B0 dL_law_709 rfl rfl ?_
    refine z_iload_n B0 dL_law_710 rfl rfl ?_
    refine z_iconst (v := 1) B0 dL_law_711 (by decide) ?_
    refine z_iadd (v := 1) B0 dL_law_712 (by decide) ?_
    refine y_sld (j := 1) (v := x1) B0 hX hbl (by decide) e1.symm dL_law_713 ?_
    refine z_aload_n B0 dL_law_714 rfl rfl ?_
    refine z_iload_n B0 dL_law_715 rfl rfl ?_
    refine z_iconst (v := 2) B0 dL_law_716 (by decide) ?_
    refine z_iadd (v := 2) B0 dL_law_717 (by decide) ?_
    refine y_sld (j := 2) (v := x2) B0 hX hbl (by decide) e2.symm dL_law_718 ?_
    refine z_callC B0 (z_runV (q0 := 0) (As := [.int x1, .int x2]) (st := []) B0 (c_X11_after_2 (a := a) (cS0 w) x1 x2 ⟨by omega, by omega⟩) cf_X11_after (cw_0 cy tE a rw (cS0 w)) rfl wm_L_87 wi_X11_after ws_X11_after dL_law_719 rfl (Nat.le_of_ble_eq_true rfl) ⟨by decide, by decide, by decide, by decide⟩) (fun r1 u1 p1 => ?_)
    obtain ⟨rfl, -⟩ := p1
    refine z_aload_n B0 dL_law_722 rfl rfl ?_
    refine z_aload_n B0 dL_law_723 rfl rfl ?_
    refine z_iload_n B0 dL_law_724 rfl rfl ?_
    refine z_iconst (v := 1) B0 dL_law_725 (by decide) ?_
    refine z_iadd (v := 1) B0 dL_law_726 (by decide) ?_
    refine y_sld (j := 1) (v := x1) B0 hX hbl (by decide) e1.symm dL_law_727 ?_
    refine z_aload_n B0 dL_law_728 rfl rfl ?_
    refine z_iload_n B0 dL_law_729 rfl rfl ?_
    refine z_iconst (v := 2) B0 dL_law_730 (by decide) ?_
    refine z_iadd (v := 2) B0 dL_law_731 (by decide) ?_
    refine y_sld (j := 2) (v := x2) B0 hX hbl (by decide) e2.symm dL_law_732 ?_
    refine z_callM B0 (z_runV (q0 := 0) (As := [.int x1, .int x2]) (st := [.int (-1)]) B0 (c_X12_after_2 (a := a2) mS0 x1 x2 ⟨by omega, by omega⟩) cf_X12_after (mw_0 cy a2 mS0) rfl wm_L_90 wi_X12_after ws_X12_after dL_law_733 rfl (Nat.le_of_ble_eq_true rfl) ⟨by decide, by decide, by decide, by decide⟩) (fun r2 u2 p2 => ?_)
    obtain ⟨rfl, -⟩ := p2
    refine z_icmp_eq_t (tgt := 1091) B0 dL_law_736 (by decide) rfl ?_
    exact fin u1 u2

