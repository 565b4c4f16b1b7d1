theorem wm_L_46 : Cond.methodLink RL 46 yX11_statute ∈ gT := gT_of 525 (by decide +kernel) (by decide +kernel)
theorem cf_X11_statute : Cf yX11_statute cX11_statute 3 (some .int) 1 := ⟨gT_of 528 (by decide +kernel) (by decide +kernel), gT_of 84 (by decide +kernel) (by decide +kernel), by decide +kernel, by decide +kernel, by decide +kernel⟩
theorem wi_X11_statute : Cond.instanceMethod yX11_statute ∈ gT := gT_of 526 (by decide +kernel) (by decide +kernel)
theorem ws_X11_statute : Cond.selects yX11_statute.cls yX11_statute yX11_statute ∈ gT := gT_of 527 (by decide +kernel) (by decide +kernel)
theorem wm_L_50 : Cond.methodLink RL 50 yX12_statute ∈ gT := gT_of 1446 (by decide +kernel) (by decide +kernel)
theorem cf_X12_statute : Cf yX12_statute cX12_statute 4 (some .int) 1 := ⟨gT_of 1449 (by decide +kernel) (by decide +kernel), gT_of 101 (by decide +kernel) (by decide +kernel), by decide +kernel, by decide +kernel, by decide +kernel⟩
theorem wi_X12_statute : Cond.instanceMethod yX12_statute ∈ gT := gT_of 1447 (by decide +kernel) (by decide +kernel)
theorem ws_X12_statute : Cond.selects yX12_statute.cls yX12_statute yX12_statute ∈ gT := gT_of 1448 (by decide +kernel) (by decide +kernel)
theorem wm_L_51 : Cond.methodLink RL 51 yX11_never ∈ gT := gT_of 838 (by decide +kernel) (by decide +kernel)
theorem cf_X11_never : Cf yX11_never cX11_never 1 (some .int) 0 := ⟨gT_of 841 (by decide +kernel) (by decide +kernel), gT_of 84 (by decide +kernel) (by decide +kernel), by decide +kernel, by decide +kernel, by decide +kernel⟩
theorem wi_X11_never : Cond.instanceMethod yX11_never ∈ gT := gT_of 839 (by decide +kernel) (by decide +kernel)
theorem ws_X11_never : Cond.selects yX11_never.cls yX11_never yX11_never ∈ gT := gT_of 840 (by decide +kernel) (by decide +kernel)
theorem wm_L_55 : Cond.methodLink RL 55 yX12_never ∈ gT := gT_of 1577 (by decide +kernel) (by decide +kernel)
theorem cf_X12_never : Cf yX12_never cX12_never 1 (some .int) 0 := ⟨gT_of 1580 (by decide +kernel) (by decide +kernel), gT_of 101 (by decide +kernel) (by decide +kernel), by decide +kernel, by decide +kernel, by decide +kernel⟩
theorem wi_X12_never : Cond.instanceMethod yX12_never ∈ gT := gT_of 1578 (by decide +kernel) (by decide +kernel)
theorem ws_X12_never : Cond.selects yX12_never.cls yX12_never yX12_never ∈ gT := gT_of 1579 (by decide +kernel) (by decide +kernel)
theorem wm_L_56 : Cond.methodLink RL 56 yX11_cure ∈ gT := gT_of 849 (by decide +kernel) (by decide +kernel)
theorem cf_X11_cure : Cf yX11_cure cX11_cure 2 (some .int) 1 := ⟨gT_of 852 (by decide +kernel) (by decide +kernel), gT_of 84 (by decide +kernel) (by decide +kernel), by decide +kernel, by decide +kernel, by decide +kernel⟩
theorem wi_X11_cure : Cond.instanceMethod yX11_cure ∈ gT := gT_of 850 (by decide +kernel) (by decide +kernel)
theorem ws_X11_cure : Cond.selects yX11_cure.cls yX11_cure yX11_cure ∈ gT := gT_of 851 (by decide +kernel) (by decide +kernel)
theorem wm_L_59 : Cond.methodLink RL 59 yX12_cure ∈ gT := gT_of 1585 (by decide +kernel) (by decide +kernel)
theorem cf_X12_cure : Cf yX12_cure cX12_cure 2 (some .int) 1 := ⟨gT_of 1588 (by decide +kernel) (by decide +kernel), gT_of 101 (by decide +kernel) (by decide +kernel), by decide +kernel, by decide +kernel, by decide +kernel⟩
theorem wi_X12_cure : Cond.instanceMethod yX12_cure ∈ gT := gT_of 1586 (by decide +kernel) (by decide +kernel)
theorem ws_X12_cure : Cond.selects yX12_cure.cls yX12_cure yX12_cure ∈ gT := gT_of 1587 (by decide +kernel) (by decide +kernel)
theorem wm_L_60 : Cond.methodLink RL 60 yX11_fault ∈ gT := gT_of 868 (by decide +kernel) (by decide +kernel)
theorem cf_X11_fault : Cf yX11_fault cX11_fault 2 (some .int) 1 := ⟨gT_of 871 (by decide +kernel) (by decide +kernel), gT_of 84 (by decide +kernel) (by decide +kernel), by decide +kernel, by decide +kernel, by decide +kernel⟩
theorem wi_X11_fault : Cond.instanceMethod yX11_fault ∈ gT := gT_of 869 (by decide +kernel) (by decide +kernel)
theorem ws_X11_fault : Cond.selects yX11_fault.cls yX11_fault yX11_fault ∈ gT := gT_of 870 (by decide +kernel) (by decide +kernel)
theorem wm_L_63 : Cond.methodLink RL 63 yX12_fault ∈ gT := gT_of 1589 (by decide +kernel) (by decide +kernel)
theorem cf_X12_fault : Cf yX12_fault cX12_fault 2 (some .int) 1 := ⟨gT_of 1592 (by decide +kernel) (by decide +kernel), gT_of 101 (by decide +kernel) (by decide +kernel), by decide +kernel, by decide +kernel, by decide +kernel⟩
theorem wi_X12_fault : Cond.instanceMethod yX12_fault ∈ gT := gT_of 1590 (by decide +kernel) (by decide +kernel)
theorem ws_X12_fault : Cond.selects yX12_fault.cls yX12_fault yX12_fault ∈ gT := gT_of 1591 (by decide +kernel) (by decide +kernel)
theorem wm_L_64 : Cond.methodLink RL 64 yX11_act ∈ gT := gT_of 872 (by decide +kernel) (by decide +kernel)
theorem cf_X11_act : Cf yX11_act cX11_act 4 (some .int) 2 := ⟨gT_of 875 (by decide +kernel) (by decide +kernel), gT_of 84 (by decide +kernel) (by decide +kernel), by decide +kernel, by decide +kernel, by decide +kernel⟩
theorem wi_X11_act : Cond.instanceMethod yX11_act ∈ gT := gT_of 873 (by decide +kernel) (by decide +kernel)
theorem ws_X11_act : Cond.selects yX11_act.cls yX11_act yX11_act ∈ gT := gT_of 874 (by decide +kernel) (by decide +kernel)
theorem wm_L_68 : Cond.methodLink RL 68 yX12_act ∈ gT := gT_of 1593 (by decide +kernel) (by decide +kernel)
theorem cf_X12_act : Cf yX12_act cX12_act 3 (some .int) 2 := ⟨gT_of 1596 (by decide +kernel) (by decide +kernel), gT_of 101 (by decide +kernel) (by decide +kernel), by decide +kernel, by decide +kernel, by decide +kernel⟩
theorem wi_X12_act : Cond.instanceMethod yX12_act ∈ gT := gT_of 1594 (by decide +kernel) (by decide +kernel)
theorem ws_X12_act : Cond.selects yX12_act.cls yX12_act yX12_act ∈ gT := gT_of 1595 (by decide +kernel) (by decide +kernel)
theorem wm_L_69 : Cond.methodLink RL 69 yX11_put ∈ gT := gT_of 880 (by decide +kernel) (by decide +kernel)
theorem cf_X11_put : Cf yX11_put cX11_put 3 (some .int) 2 := ⟨gT_of 883 (by decide +kernel) (by decide +kernel), gT_of 84 (by decide +kernel) (by decide +kernel), by decide +kernel, by decide +kernel, by decide +kernel⟩
theorem wi_X11_put : Cond.instanceMethod yX11_put ∈ gT := gT_of 881 (by decide +kernel) (by decide +kernel)
theorem ws_X11_put : Cond.selects yX11_put.cls yX11_put yX11_put ∈ gT := gT_of 882 (by decide +kernel) (by decide +kernel)
theorem wm_L_72 : Cond.methodLink RL 72 yX12_put ∈ gT := gT_of 1696 (by decide +kernel) (by decide +kernel)
theorem cf_X12_put : Cf yX12_put cX12_put 3 (some .int) 2 := ⟨gT_of 1699 (by decide +kernel) (by decide +kernel), gT_of 101 (by decide +kernel) (by decide +kernel), by decide +kernel, by decide +kernel, by decide +kernel⟩
theorem wi_X12_put : Cond.instanceMethod yX12_put ∈ gT := gT_of 1697 (by decide +kernel) (by decide +kernel)
theorem ws_X12_put : Cond.selects yX12_put.cls yX12_put yX12_put ∈ gT := gT_of 1698 (by decide +kernel) (by decide +kernel)
theorem wm_L_73 : Cond.methodLink RL 73 yX11_clear ∈ gT := gT_of 891 (by decide +kernel) (by decide +kernel)
theorem cf_X11_clear : Cf yX11_clear cX11_clear 2 (some .boolean) 1 := ⟨gT_of 894 (by decide +kernel) (by decide +kernel), gT_of 84 (by decide +kernel) (by decide +kernel), by decide +kernel, by decide +kernel, by decide +kernel⟩
theorem wi_X11_clear : Cond.instanceMethod yX11_clear ∈ gT := gT_of 892 (by decide +kernel) (by decide +kernel)
theorem ws_X11_clear : Cond.selects yX11_clear.cls yX11_clear yX11_clear ∈ gT := gT_of 893 (by decide +kernel) (by decide +kernel)
theorem wm_L_76 : Cond.methodLink RL 76 yX12_clear ∈ gT := gT_of 1706 (by decide +kernel) (by decide +kernel)
theorem cf_X12_clear : Cf yX12_clear cX12_clear 2 (some .boolean) 1 := ⟨gT_of 1709 (by decide +kernel) (by decide +kernel), gT_of 101 (by decide +kernel) (by decide +kernel), by decide +kernel, by decide +kernel, by decide +kernel⟩
theorem wi_X12_clear : Cond.instanceMethod yX12_clear ∈ gT := gT_of 1707 (by decide +kernel) (by decide +kernel)
theorem ws_X12_clear : Cond.selects yX12_clear.cls yX12_clear yX12_clear ∈ gT := gT_of 1708 (by decide +kernel) (by decide +kernel)
theorem wm_L_77 : Cond.methodLink RL 77 yX11_honest ∈ gT := gT_of 895 (by decide +kernel) (by decide +kernel)
theorem cf_X11_honest : Cf yX11_honest cX11_honest 3 (some .boolean) 2 := ⟨gT_of 898 (by decide +kernel) (by decide +kernel), gT_of 84 (by decide +kernel) (by decide +kernel), by decide +kernel, by decide +kernel, by decide +kernel⟩
theorem wi_X11_honest : Cond.instanceMethod yX11_honest ∈ gT := gT_of 896 (by decide +kernel) (by decide +kernel)
theorem ws_X11_honest : Cond.selects yX11_honest.cls yX11_honest yX11_honest ∈ gT := gT_of 897 (by decide +kernel) (by decide +kernel)
theorem wm_L_81 : Cond.methodLink RL 81 yX12_honest ∈ gT := gT_of 1710 (by decide +kernel) (by decide +kernel)
theorem cf_X12_honest : Cf yX12_honest cX12_honest 3 (some .boolean) 2 := ⟨gT_of 1713 (by decide +kernel) (by decide +kernel), gT_of 101 (by decide +kernel) (by decide +kernel), by decide +kernel, by decide +kernel, by decide +kernel⟩
theorem wi_X12_honest : Cond.instanceMethod yX12_honest ∈ gT := gT_of 1711 (by decide +kernel) (by decide +kernel)
theorem ws_X12_honest : Cond.selects yX12_honest.cls yX12_honest yX12_honest ∈ gT := gT_of 1712 (by decide +kernel) (by decide +kernel)
theorem wm_L_82 : Cond.methodLink RL 82 yX11_lawful ∈ gT := gT_of 899 (by decide +kernel) (by decide +kernel)
theorem cf_X11_lawful : Cf yX11_lawful cX11_lawful 6 (some .int) 4 := ⟨gT_of 902 (by decide +kernel) (by decide +kernel), gT_of 84 (by decide +kernel) (by decide +kernel), by decide +kernel, by decide +kernel, by decide +kernel⟩
theorem wi_X11_lawful : Cond.instanceMethod yX11_lawful ∈ gT := gT_of 900 (by decide +kernel) (by decide +kernel)
theorem ws_X11_lawful : Cond.selects yX11_lawful.cls yX11_lawful yX11_lawful ∈ gT := gT_of 901 (by decide +kernel) (by decide +kernel)
theorem wm_L_86 : Cond.methodLink RL 86 yX12_lawful ∈ gT := gT_of 1714 (by decide +kernel) (by decide +kernel)
theorem cf_X12_lawful : Cf yX12_lawful cX12_lawful 6 (some .int) 4 := ⟨gT_of 1717 (by decide +kernel) (by decide +kernel), gT_of 101 (by decide +kernel) (by decide +kernel), by decide +kernel, by decide +kernel, by decide +kernel⟩
theorem wi_X12_lawful : Cond.instanceMethod yX12_lawful ∈ gT := gT_of 1715 (by decide +kernel) (by decide +kernel)
theorem ws_X12_lawful : Cond.selects yX12_lawful.cls yX12_lawful yX12_lawful ∈ gT := gT_of 1716 (by decide +kernel) (by decide +kernel)
set_option maxHeartbeats 8000000 in
set_option maxRecDepth 100000 in
theorem lo_statute {p : Program} {l : Launch} {e : Env} {s : State} {m : MethodId} {below : List Frame} {meth : Method} {c : Code} {D : va_G} {cy : Nat → ClassId} {tB tE b : Nat} {a a2 : Nat → Nat} {rw : Nat → Option Nat} {xs : Nat → Int32} (B0 : Bz p room_1 s m #[Value.ref b] meth c D cy s.heap.size tB tE (fun q => s.heap.size ≤ q) 4 cL_law RL meth.sig.returnType meth.name 2048 84000 600000 7302250) (hX : va_X b 6 xs s s.heap) (hbl : b < s.heap.size) (hrw : ∀ i, i < 6 → rw i = some (a (36 + 2 * i))) (w : Nat → Int64) (fin : ∀ S S9 : GS, Z p l e room_1 s m #[Value.ref b] below meth c D (fun q => s.heap.size ≤ q) 4 (lw_Z below #[Value.ref b] s) 200 60000 (cw cy tE a rw S ++ mw cy a2 S9) [(3, .int 0), (2, .ref (a2 0)), (1, .ref (a 0)), (0, .ref b)] 1091 []) : Z p l e room_1 s m #[Value.ref b] below meth c D (fun q => s.heap.size ≤ q) 4 (lw_Z below #[Value.ref b] s) 200 60000 (cw cy tE a rw (cS0 w) ++ mw cy a2 mS0) [(3, .int 0), (2, .ref (a2 0)), (1, .ref (a 0)), (0, .ref b)] 435 [] := by
  obtain ⟨x1, e1⟩ : ∃ x, x = xs 1 := ⟨_, rfl⟩
  rcases (show ((-2147483648) ≤ x1.toInt ∧ x1.toInt ≤ (-1)) ∨ x1.toInt = 0 ∨ x1.toInt = 1 ∨ (2 ≤ x1.toInt ∧ x1.toInt ≤ 2147483647) by have g1 := Int32.le_toInt x1; have g2 := Int32.toInt_lt x1; omega) with h1 | h1 | h1 | h1
  · refine z_aload_n B0 dL_law_435 rfl rfl ?_
    refine z_aload_n B0 dL_law_436 rfl rfl ?_
    refine z_iload_n B0 dL_law_437 rfl rfl ?_
    refine z_iconst (v := 1) B0 dL_law_438 (by decide) ?_
    refine z_iadd (v := 1) B0 dL_law_439 (by decide) ?_
    refine y_sld (j := 1) (v := x1) B0 hX hbl (by decide) e1.symm dL_law_440 ?_
    refine z_callC B0 (z_runV (q0 := 0) (As := [.int x1]) (st := []) B0 (c_X11_statute (a := a) (cS0 w) x1 rfl rfl rfl rfl rfl rfl rfl rfl rfl rfl rfl ⟨by omega, by omega⟩) cf_X11_statute (cw_0 cy tE a rw (cS0 w)) rfl wm_L_46 wi_X11_statute ws_X11_statute dL_law_441 rfl (Nat.le_of_ble_eq_true rfl) ⟨by decide, by decide, by decide, by decide⟩) (fun r1 u1 p1 => ?_)
    obtain ⟨rfl, -⟩ := p1
    refine z_aload_n B0 dL_law_444 rfl rfl ?_
    refine z_aload_n B0 dL_law_445 rfl rfl ?_
    refine z_iload_n B0 dL_law_446 rfl rfl ?_
    refine z_iconst (v := 1) B0 dL_law_447 (by decide) ?_
    refine z_iadd (v := 1) B0 dL_law_448 (by decide) ?_
    refine y_sld (j := 1) (v := x1) B0 hX hbl (by decide) e1.symm dL_law_449 ?_
    refine z_callM B0 (z_runV (q0 := 0) (As := [.int x1]) (st := [.int (-1)]) B0 (c_X12_statute (a := a2) mS0 x1 rfl rfl rfl rfl ⟨by omega, by omega⟩) cf_X12_statute (mw_0 cy a2 mS0) rfl wm_L_50 wi_X12_statute ws_X12_statute dL_law_450 rfl (Nat.le_of_ble_eq_true rfl) ⟨by decide, by decide, by decide, by decide⟩) (fun r2 u2 p2 => ?_)
    obtain ⟨rfl, -⟩ := p2
    refine z_icmp_eq_t (tgt := 1091) B0 dL_law_453 (by decide) rfl ?_
    exact fin u1 u2
  · obtain rfl : x1 = 0 := Int32.toInt_inj.mp (h1.trans (by decide))
    refine z_aload_n B0 dL_law_435 rfl rfl ?_
    refine z_aload_n B0 dL_law_436 rfl rfl ?_
    refine z_iload_n B0 dL_law_437 rfl rfl ?_
    refine z_iconst (v := 1) B0 dL_law_438 (by decide) ?_
    refine z_iadd (v := 1) B0 dL_law_439 (by decide) ?_
    refine y_sld (j := 1) (v := 0) B0 hX hbl (by decide) e1.symm dL_law_440 ?_
    refine z_callC B0 (z_runV (q0 := 0) (As := [.int 0]) (st := []) B0 (c_X11_statute_2 (a := a) (cS0 w)  rfl rfl rfl rfl rfl rfl rfl rfl rfl rfl rfl rfl) cf_X11_statute (cw_0 cy tE a rw (cS0 w)) rfl wm_L_46 wi_X11_statute ws_X11_statute dL_law_441 rfl (Nat.le_of_ble_eq_true rfl) ⟨by decide, by decide, by decide, by decide⟩) (fun r1 u1 p1 => ?_)
    obtain ⟨rfl, -⟩ := p1
    refine z_aload_n B0 dL_law_444 rfl rfl ?_
    refine z_aload_n B0 dL_law_445 rfl rfl ?_
    refine z_iload_n B0 dL_law_446 rfl rfl ?_
    refine z_iconst (v := 1) B0 dL_law_447 (by decide) ?_
    refine z_iadd (v := 1) B0 dL_law_448 (by decide) ?_
    refine y_sld (j := 1) (v := 0) B0 hX hbl (by decide) e1.symm dL_law_449 ?_
    refine z_callM B0 (z_runV (q0 := 0) (As := [.int 0]) (st := [.int 0]) B0 (c_X12_statute_2 (a := a2) mS0  rfl rfl rfl rfl rfl rfl rfl rfl rfl rfl rfl) cf_X12_statute (mw_0 cy a2 mS0) rfl wm_L_50 wi_X12_statute ws_X12_statute dL_law_450 rfl (Nat.le_of_ble_eq_true rfl) ⟨by decide, by decide, by decide, by decide⟩) (fun r2 u2 p2 => ?_)
    obtain ⟨rfl, -⟩ := p2
    refine z_icmp_eq_t (tgt := 1091) B0 dL_law_453 (by decide) rfl ?_
    exact fin u1 u2
  · obtain rfl : x1 = 1 := Int32.toInt_inj.mp (h1.trans (by decide))
    refine z_aload_n B0 dL_law_435 rfl rfl ?_
    refine z_aload_n B0 dL_law_436 rfl rfl ?_
    refine z_iload_n B0 dL_law_437 rfl rfl ?_
    refine z_iconst (v := 1) B0 dL_law_438 (by decide) ?_
    refine z_iadd (v := 1) B0 dL_law_439 (by decide) ?_
    refine y_sld (j := 1) (v := 1) B0 hX hbl (by decide) e1.symm dL_law_440 ?_
    refine z_callC B0 (z_runV (q0 := 0) (As := [.int 1]) (st := []) B0 (c_X11_statute_3 (a := a) (cS0 w)  rfl rfl rfl rfl rfl rfl rfl rfl rfl rfl rfl rfl) cf_X11_statute (cw_0 cy tE a rw (cS0 w)) rfl wm_L_46 wi_X11_statute ws_X11_statute dL_law_441 rfl (Nat.le_of_ble_eq_true rfl) ⟨by decide, by decide, by decide, by decide⟩) (fun r1 u1 p1 => ?_)
    obtain ⟨rfl, -⟩ := p1
    refine z_aload_n B0 dL_law_444 rfl rfl ?_
    refine z_aload_n B0 dL_law_445 rfl rfl ?_
    refine z_iload_n B0 dL_law_446 rfl rfl ?_
    refine z_iconst (v := 1) B0 dL_law_447 (by decide) ?_
    refine z_iadd (v := 1) B0 dL_law_448 (by decide) ?_
    refine y_sld (j := 1) (v := 1) B0 hX hbl (by decide) e1.symm dL_law_449 ?_
    refine z_callM B0 (z_runV (q0 := 0) (As := [.int 1]) (st := [.int 0]) B0 (c_X12_statute_3 (a := a2) mS0  rfl rfl rfl rfl rfl rfl rfl rfl rfl rfl rfl) cf_X12_statute (mw_0 cy a2 mS0) rfl wm_L_50 wi_X12_statute ws_X12_statute dL_law_450 rfl (Nat.le_of_ble_eq_true rfl) ⟨by decide, by decide, by decide, by decide⟩) (fun r2 u2 p2 => ?_)
    obtain ⟨rfl, -⟩ := p2
    refine z_icmp_eq_t (tgt := 1091) B0 dL_law_453 (by decide) rfl ?_
    exact fin u1 u2
  · refine z_aload_n B0 dL_law_435 rfl rfl ?_
    refine z_aload_n B0 dL_law_436 rfl rfl ?_
    refine z_iload_n B0 dL_law_437 rfl rfl ?_
    refine z_iconst (v := 1) B0 dL_law_438 (by decide) ?_
    refine z_iadd (v := 1) B0 dL_law_439 (by decide) ?_
    refine y_sld (j := 1) (v := x1) B0 hX hbl (by decide) e1.symm dL_law_440 ?_
    refine z_callC B0 (z_runV (q0 := 0) (As := [.int x1]) (st := []) B0 (c_X11_statute_4 (a := a) (cS0 w) x1 rfl rfl rfl rfl rfl rfl rfl rfl rfl rfl rfl ⟨by omega, by omega⟩) cf_X11_statute (cw_0 cy tE a rw (cS0 w)) rfl wm_L_46 wi_X11_statute ws_X11_statute dL_law_441 rfl (Nat.le_of_ble_eq_true rfl) ⟨by decide, by decide, by decide, by decide⟩) (fun r1 u1 p1 => ?_)
    obtain ⟨rfl, -⟩ := p1
    refine z_aload_n B0 dL_law_444 rfl rfl ?_
    refine z_aload_n B0 dL_law_445 rfl rfl ?_
    refine z_iload_n B0 dL_law_446 rfl rfl ?_
    refine z_iconst (v := 1) B0 dL_law_447 (by decide) ?_
    refine z_iadd (v := 1) B0 dL_law_448 (by decide) ?_
    refine y_sld (j := 1) (v := x1) B0 hX hbl (by decide) e1.symm dL_law_449 ?_
    refine z_callM B0 (z_runV (q0 := 0) (As := [.int x1]) (st := [.int (-1)]) B0 (c_X12_statute_4 (a := a2) mS0 x1 rfl rfl rfl rfl ⟨by omega, by omega⟩) cf_X12_statute (mw_0 cy a2 mS0) rfl wm_L_50 wi_X12_statute ws_X12_statute dL_law_450 rfl (Nat.le_of_ble_eq_true rfl) ⟨by decide, by decide, by decide, by decide⟩) (fun r2 u2 p2 => ?_)
    obtain ⟨rfl, -⟩ := p2
    refine z_icmp_eq_t (tgt := 1091) B0 dL_law_453 (by decide) rfl ?_
    exact fin u1 u2

set_option maxHeartbeats 8000000 in
set_option maxRecDepth 100000 in
theorem lo_never {p : Program} {l : Launch} {e : Env} {s : State} {m : MethodId} {below : List Frame} {meth : Method} {c : Code} {D : va_G} {cy : Nat → ClassId} {tB tE b : Nat} {a a2 : Nat → Nat} {rw : Nat → Option Nat} {xs : Nat → Int32} (B0 : Bz p room_1 s m #[Value.ref b] meth c D cy s.heap.size tB tE (fun q => s.heap.size ≤ q) 4 cL_law RL meth.sig.returnType meth.name 2048 84000 600000 7302250) (hX : va_X b 6 xs s s.heap) (hbl : b < s.heap.size) (hrw : ∀ i, i < 6 → rw i = some (a (36 + 2 * i))) (w : Nat → Int64) (fin : ∀ S S9 : GS, Z p l e room_1 s m #[Value.ref b] below meth c D (fun q => s.heap.size ≤ q) 4 (lw_Z below #[Value.ref b] s) 200 60000 (cw cy tE a rw S ++ mw cy a2 S9) [(3, .int 0), (2, .ref (a2 0)), (1, .ref (a 0)), (0, .ref b)] 1091 []) : Z p l e room_1 s m #[Value.ref b] below meth c D (fun q => s.heap.size ≤ q) 4 (lw_Z below #[Value.ref b] s) 200 60000 (cw cy tE a rw (cS0 w) ++ mw cy a2 mS0) [(3, .int 0), (2, .ref (a2 0)), (1, .ref (a 0)), (0, .ref b)] 458 [] := by
  refine z_aload_n B0 dL_law_458 rfl rfl ?_
  refine z_callC B0 (z_runV (q0 := 0) (As := []) (st := []) B0 (c_X11_never (a := a) (cS0 w)  rfl rfl rfl rfl rfl rfl rfl rfl rfl rfl rfl rfl) cf_X11_never (cw_0 cy tE a rw (cS0 w)) rfl wm_L_51 wi_X11_never ws_X11_never dL_law_459 rfl (Nat.le_of_ble_eq_true rfl) ⟨by decide, by decide, by decide, by decide⟩) (fun r1 u1 p1 => ?_)
  obtain ⟨rfl, -⟩ := p1
  refine z_aload_n B0 dL_law_462 rfl rfl ?_
  refine z_callM B0 (z_runV (q0 := 0) (As := []) (st := [.int (-1)]) B0 (c_X12_never (a := a2) mS0  rfl rfl rfl rfl rfl rfl rfl rfl rfl rfl) cf_X12_never (mw_0 cy a2 mS0) rfl wm_L_55 wi_X12_never ws_X12_never dL_law_463 rfl (Nat.le_of_ble_eq_true rfl) ⟨by decide, by decide, by decide, by decide⟩) (fun r2 u2 p2 => ?_)
  obtain ⟨rfl, -⟩ := p2
  refine z_icmp_eq_t (tgt := 1091) B0 dL_law_466 (by decide) rfl ?_
  exact fin u1 u2

set_option maxHeartbeats 8000000 in
set_option maxRecDepth 100000 in
theorem lo_cure {p : Program} {l : Launch} {e : Env} {s : State} {m : MethodId} {below : List Frame} {meth : Method} {c : Code} {D : va_G} {cy : Nat → ClassId} {tB tE b : Nat} {a a2 : Nat → Nat} {rw : Nat → Option Nat} {xs : Nat → Int32} (B0 : Bz p room_1 s m #[Value.ref b] meth c D cy s.heap.size tB tE (fun q => s.heap.size ≤ q) 4 cL_law RL meth.sig.returnType meth.name 2048 84000 600000 7302250) (hX : va_X b 6 xs s s.heap) (hbl : b < s.heap.size) (hrw : ∀ i, i < 6 → rw i = some (a (36 + 2 * i))) (w : Nat → Int64) (fin : ∀ S S9 : GS, Z p l e room_1 s m #[Value.ref b] below meth c D (fun q => s.heap.size ≤ q) 4 (lw_Z below #[Value.ref b] s) 200 60000 (cw cy tE a rw S ++ mw cy a2 S9) [(3, .int 0), (2, .ref (a2 0)), (1, .ref (a 0)), (0, .ref b)] 1091 []) : Z p l e room_1 s m #[Value.ref b] below meth c D (fun q => s.heap.size ≤ q) 4 (lw_Z below #[Value.ref b] s) 200 60000 (cw cy tE a rw (cS0 w) ++ mw cy a2 mS0) [(3, .int 0), (2, .ref (a2 0)), (1, .ref (a 0)), (0, .ref b)] 471 [] := by
  obtain ⟨x1, e1⟩ : ∃ x, x = xs 1 := ⟨_, rfl⟩
  rcases (show ((-2147483648) ≤ x1.toInt ∧ x1.toInt ≤ (-1)) ∨ (0 ≤ x1.toInt ∧ x1.toInt ≤ 11) ∨ (12 ≤ x1.toInt ∧ x1.toInt ≤ 2147483647) by have g1 := Int32.le_toInt x1; have g2 := Int32.toInt_lt x1; omega) with h1 | h1 | h1
  · refine z_aload_n B0 dL_law_471 rfl rfl ?_
    refine z_aload_n B0 dL_law_472 rfl rfl ?_
    refine z_iload_n B0 dL_law_473 rfl rfl ?_
    refine z_iconst (v := 1) B0 dL_law_474 (by decide) ?_
    refine z_iadd (v := 1) B0 dL_law_475 (by decide) ?_
    refine y_sld (j := 1) (v := x1) B0 hX hbl (by decide) e1.symm dL_law_476 ?_
    refine z_callC B0 (z_runV (q0 := 0) (As := [.int x1]) (st := []) B0 (c_X11_cure (a := a) (cS0 w) x1 rfl rfl rfl rfl rfl rfl rfl rfl rfl rfl rfl rfl ⟨by omega, by omega⟩) cf_X11_cure (cw_0 cy tE a rw (cS0 w)) rfl wm_L_56 wi_X11_cure ws_X11_cure dL_law_477 rfl (Nat.le_of_ble_eq_true rfl) ⟨by decide, by decide, by decide, by decide⟩) (fun r1 u1 p1 => ?_)
    obtain ⟨rfl, -⟩ := p1
    refine z_aload_n B0 dL_law_480 rfl rfl ?_
    refine z_aload_n B0 dL_law_481 rfl rfl ?_
    refine z_iload_n B0 dL_law_482 rfl rfl ?_
    refine z_iconst (v := 1) B0 dL_law_483 (by decide) ?_
    refine z_iadd (v := 1) B0 dL_law_484 (by decide) ?_
    refine y_sld (j := 1) (v := x1) B0 hX hbl (by decide) e1.symm dL_law_485 ?_
    refine z_callM B0 (z_runV (q0 := 0) (As := [.int x1]) (st := [.int (-1)]) B0 (c_X12_cure (a := a2) mS0 x1 rfl rfl rfl rfl rfl ⟨by omega, by omega⟩) cf_X12_cure (mw_0 cy a2 mS0) rfl wm_L_59 wi_X12_cure ws_X12_cure dL_law_486 rfl (Nat.le_of_ble_eq_true rfl) ⟨by decide, by decide, by decide, by decide⟩) (fun r2 u2 p2 => ?_)
    obtain ⟨rfl, -⟩ := p2
    refine z_icmp_eq_t (tgt := 1091) B0 dL_law_489 (by decide) rfl ?_
    exact fin u1 u2
  · refine z_aload_n B0 dL_law_471 rfl rfl ?_
    refine z_aload_n B0 dL_law_472 rfl rfl ?_
    refine z_iload_n B0 dL_law_473 rfl rfl ?_
    refine z_iconst (v := 1) B0 dL_law_474 (by decide) ?_
    refine z_iadd (v := 1) B0 dL_law_475 (by decide) ?_
    refine y_sld (j := 1) (v := x1) B0 hX hbl (by decide) e1.symm dL_law_476 ?_
    refine z_callC B0 (z_runV (q0 := 0) (As := [.int x1]) (st := []) B0 (c_X11_cure_2 (a := a) (cS0 w) x1 rfl rfl rfl rfl rfl rfl rfl rfl rfl rfl rfl rfl ⟨by omega, by omega⟩) cf_X11_cure (cw_0 cy tE a rw (cS0 w)) rfl wm_L_56 wi_X11_cure ws_X11_cure dL_law_477 rfl (Nat.le_of_ble_eq_true rfl) ⟨by decide, by decide, by decide, by decide⟩) (fun r1 u1 p1 => ?_)
    obtain ⟨rfl, -⟩ := p1
    refine z_aload_n B0 dL_law_480 rfl rfl ?_
    refine z_aload_n B0 dL_law_481 rfl rfl ?_
    refine z_iload_n B0 dL_law_482 rfl rfl ?_
    refine z_iconst (v := 1) B0 dL_law_483 (by decide) ?_
    refine z_iadd (v := 1) B0 dL_law_484 (by decide) ?_
    refine y_sld (j := 1) (v := x1) B0 hX hbl (by decide) e1.symm dL_law_485 ?_
    refine z_callM B0 (z_runV (q0 := 0) (As := [.int x1]) (st := [.int (-1)]) B0 (c_X12_cure_2 (a := a2) mS0 x1 rfl rfl rfl rfl rfl rfl rfl rfl rfl rfl ⟨by omega, by omega⟩) cf_X12_cure (mw_0 cy a2 mS0) rfl wm_L_59 wi_X12_cure ws_X12_cure dL_law_486 rfl (Nat.le_of_ble_eq_true rfl) ⟨by decide, by decide, by decide, by decide⟩) (fun r2 u2 p2 => ?_)
    obtain ⟨rfl, -⟩ := p2
    refine z_icmp_eq_t (tgt := 1091) B0 dL_law_489 (by decide) rfl ?_
    exact fin u1 u2
  · refine z_aload_n B0 dL_law_471 rfl rfl ?_
    refine z_aload_n B0 dL_law_472 rfl rfl ?_
    refine z_iload_n B0 dL_law_473 rfl rfl ?_
    refine z_iconst (v := 1) B0 dL_law_474 (by decide) ?_
    refine z_iadd (v := 1) B0 dL_law_475 (by decide) ?_
    refine y_sld (j := 1) (v := x1) B0 hX hbl (by decide) e1.symm dL_law_476 ?_
    refine z_callC B0 (z_runV (q0 := 0) (As := [.int x1]) (st := []) B0 (c_X11_cure_3 (a := a) (cS0 w) x1 rfl rfl rfl rfl rfl rfl rfl rfl rfl rfl rfl rfl ⟨by omega, by omega⟩) cf_X11_cure (cw_0 cy tE a rw (cS0 w)) rfl wm_L_56 wi_X11_cure ws_X11_cure dL_law_477 rfl (Nat.le_of_ble_eq_true rfl) ⟨by decide, by decide, by decide, by decide⟩) (fun r1 u1 p1 => ?_)
    obtain ⟨rfl, -⟩ := p1
    refine z_aload_n B0 dL_law_480 rfl rfl ?_
    refine z_aload_n B0 dL_law_481 rfl rfl ?_
    refine z_iload_n B0 dL_law_482 rfl rfl ?_
    refine z_iconst (v := 1) B0 dL_law_483 (by decide) ?_
    refine z_iadd (v := 1) B0 dL_law_484 (by decide) ?_
    refine y_sld (j := 1) (v := x1) B0 hX hbl (by decide) e1.symm dL_law_485 ?_
    refine z_callM B0 (z_runV (q0 := 0) (As := [.int x1]) (st := [.int (-1)]) B0 (c_X12_cure_3 (a := a2) mS0 x1 rfl rfl rfl rfl rfl ⟨by omega, by omega⟩) cf_X12_cure (mw_0 cy a2 mS0) rfl wm_L_59 wi_X12_cure ws_X12_cure dL_law_486 rfl (Nat.le_of_ble_eq_true rfl) ⟨by decide, by decide, by decide, by decide⟩) (fun r2 u2 p2 => ?_)
    obtain ⟨rfl, -⟩ := p2
    refine z_icmp_eq_t (tgt := 1091) B0 dL_law_489 (by decide) rfl ?_
    exact fin u1 u2

set_option maxHeartbeats 8000000 in
set_option maxRecDepth 100000 in
theorem lo_fault {p : Program} {l : Launch} {e : Env} {s : State} {m : MethodId} {below : List Frame} {meth : Method} {c : Code} {D : va_G} {cy : Nat → ClassId} {tB tE b : Nat} {a a2 : Nat → Nat} {rw : Nat → Option Nat} {xs : Nat → Int32} (B0 : Bz p room_1 s m #[Value.ref b] meth c D cy s.heap.size tB tE (fun q => s.heap.size ≤ q) 4 cL_law RL meth.sig.returnType meth.name 2048 84000 600000 7302250) (hX : va_X b 6 xs s s.heap) (hbl : b < s.heap.size) (hrw : ∀ i, i < 6 → rw i = some (a (36 + 2 * i))) (w : Nat → Int64) (fin : ∀ S S9 : GS, Z p l e room_1 s m #[Value.ref b] below meth c D (fun q => s.heap.size ≤ q) 4 (lw_Z below #[Value.ref b] s) 200 60000 (cw cy tE a rw S ++ mw cy a2 S9) [(3, .int 0), (2, .ref (a2 0)), (1, .ref (a 0)), (0, .ref b)] 1091 []) : Z p l e room_1 s m #[Value.ref b] below meth c D (fun q => s.heap.size ≤ q) 4 (lw_Z below #[Value.ref b] s) 200 60000 (cw cy tE a rw (cS0 w) ++ mw cy a2 mS0) [(3, .int 0), (2, .ref (a2 0)), (1, .ref (a 0)), (0, .ref b)] 494 [] := by
  obtain ⟨x1, e1⟩ : ∃ x, x = xs 1 := ⟨_, rfl⟩
  rcases (show ((-2147483648) ≤ x1.toInt ∧ x1.toInt ≤ (-1)) ∨ x1.toInt = 0 ∨ x1.toInt = 1 ∨ (2 ≤ x1.toInt ∧ x1.toInt ≤ 2147483647) by have g1 := Int32.le_toInt x1; have g2 := Int32.toInt_lt x1; omega) with h1 | h1 | h1 | h1
  · refine z_aload_n B0 dL_law_494 rfl rfl ?_
    refine z_aload_n B0 dL_law_495 rfl rfl ?_
    refine z_iload_n B0 dL_law_496 rfl rfl ?_
    refine z_iconst (v := 1) B0 dL_law_497 (by decide) ?_
    refine z_iadd (v := 1) B0 dL_law_498 (by decide) ?_
    refine y_sld (j := 1) (v := x1) B0 hX hbl (by decide) e1.symm dL_law_499 ?_
    refine z_callC B0 (z_runV (q0 := 0) (As := [.int x1]) (st := []) B0 (c_X11_fault (a := a) (cS0 w) x1 ⟨by omega, by omega⟩) cf_X11_fault (cw_0 cy tE a rw (cS0 w)) rfl wm_L_60 wi_X11_fault ws_X11_fault dL_law_500 rfl (Nat.le_of_ble_eq_true rfl) ⟨by decide, by decide, by decide, by decide⟩) (fun r1 u1 p1 => ?_)
    obtain ⟨rfl, -⟩ := p1
    refine z_aload_n B0 dL_law_503 rfl rfl ?_
    refine z_aload_n B0 dL_law_504 rfl rfl ?_
    refine z_iload_n B0 dL_law_505 rfl rfl ?_
    refine z_iconst (v := 1) B0 dL_law_506 (by decide) ?_
    refine z_iadd (v := 1) B0 dL_law_507 (by decide) ?_
    refine y_sld (j := 1) (v := x1) B0 hX hbl (by decide) e1.symm dL_law_508 ?_
    refine z_callM B0 (z_runV (q0 := 0) (As := [.int x1]) (st := [.int (-1)]) B0 (c_X12_fault (a := a2) mS0 x1 ⟨by omega, by omega⟩) cf_X12_fault (mw_0 cy a2 mS0) rfl wm_L_63 wi_X12_fault ws_X12_fault dL_law_509 rfl (Nat.le_of_ble_eq_true rfl) ⟨by decide, by decide, by decide, by decide⟩) (fun r2 u2 p2 => ?_)
    obtain ⟨rfl, -⟩ := p2
    refine z_icmp_eq_t (tgt := 1091) B0 dL_law_512 (by decide) rfl ?_
    exact fin u1 u2
  · obtain rfl : x1 = 0 := Int32.toInt_inj.mp (h1.trans (by decide))
    refine z_aload_n B0 dL_law_494 rfl rfl ?_
    refine z_aload_n B0 dL_law_495 rfl rfl ?_
    refine z_iload_n B0 dL_law_496 rfl rfl ?_
    refine z_iconst (v := 1) B0 dL_law_497 (by decide) ?_
    refine z_iadd (v := 1) B0 dL_law_498 (by decide) ?_
    refine y_sld (j := 1) (v := 0) B0 hX hbl (by decide) e1.symm dL_law_499 ?_
    refine z_callC B0 (z_runV (q0 := 0) (As := [.int 0]) (st := []) B0 (c_X11_fault_2 (a := a) (cS0 w)  rfl) cf_X11_fault (cw_0 cy tE a rw (cS0 w)) rfl wm_L_60 wi_X11_fault ws_X11_fault dL_law_500 rfl (Nat.le_of_ble_eq_true rfl) ⟨by decide, by decide, by decide, by decide⟩) (fun r1 u1 p1 => ?_)
    obtain ⟨rfl, -⟩ := p1
    refine z_aload_n B0 dL_law_503 rfl rfl ?_
    refine z_aload_n B0 dL_law_504 rfl rfl ?_
    refine z_iload_n B0 dL_law_505 rfl rfl ?_
    refine z_iconst (v := 1) B0 dL_law_506 (by decide) ?_
    refine z_iadd (v := 1) B0 dL_law_507 (by decide) ?_
    refine y_sld (j := 1) (v := 0) B0 hX hbl (by decide) e1.symm dL_law_508 ?_
    refine z_callM B0 (z_runV (q0 := 0) (As := [.int 0]) (st := [.int 0]) B0 (c_X12_fault_2 (a := a2) mS0  rfl) cf_X12_fault (mw_0 cy a2 mS0) rfl wm_L_63 wi_X12_fault ws_X12_fault dL_law_509 rfl (Nat.le_of_ble_eq_true rfl) ⟨by decide, by decide, by decide, by decide⟩) (fun r2 u2 p2 => ?_)
    obtain ⟨rfl, -⟩ := p2
    refine z_icmp_eq_t (tgt := 1091) B0 dL_law_512 (by decide) rfl ?_
    exact fin u1 u2
  · obtain rfl : x1 = 1 := Int32.toInt_inj.mp (h1.trans (by decide))
    refine z_aload_n B0 dL_law_494 rfl rfl ?_
    refine z_aload_n B0 dL_law_495 rfl rfl ?_
    refine z_iload_n B0 dL_law_496 rfl rfl ?_
    refine z_iconst (v := 1) B0 dL_law_497 (by decide) ?_
    refine z_iadd (v := 1) B0 dL_law_498 (by decide) ?_
    refine y_sld (j := 1) (v := 1) B0 hX hbl (by decide) e1.symm dL_law_499 ?_
    refine z_callC B0 (z_runV (q0 := 0) (As := [.int 1]) (st := []) B0 (c_X11_fault_3 (a := a) (cS0 w)  rfl) cf_X11_fault (cw_0 cy tE a rw (cS0 w)) rfl wm_L_60 wi_X11_fault ws_X11_fault dL_law_500 rfl (Nat.le_of_ble_eq_true rfl) ⟨by decide, by decide, by decide, by decide⟩) (fun r1 u1 p1 => ?_)
    obtain ⟨rfl, -⟩ := p1
    refine z_aload_n B0 dL_law_503 rfl rfl ?_
    refine z_aload_n B0 dL_law_504 rfl rfl ?_
    refine z_iload_n B0 dL_law_505 rfl rfl ?_
    refine z_iconst (v := 1) B0 dL_law_506 (by decide) ?_
    refine z_iadd (v := 1) B0 dL_law_507 (by decide) ?_
    refine y_sld (j := 1) (v := 1) B0 hX hbl (by decide) e1.symm dL_law_508 ?_
    refine z_callM B0 (z_runV (q0 := 0) (As := [.int 1]) (st := [.int (-1)]) B0 (c_X12_fault_3 (a := a2) mS0  rfl) cf_X12_fault (mw_0 cy a2 mS0) rfl wm_L_63 wi_X12_fault ws_X12_fault dL_law_509 rfl (Nat.le_of_ble_eq_true rfl) ⟨by decide, by decide, by decide, by decide⟩) (fun r2 u2 p2 => ?_)
    obtain ⟨rfl, -⟩ := p2
    refine z_icmp_eq_t (tgt := 1091) B0 dL_law_512 (by decide) rfl ?_
    exact fin u1 u2
  · refine z_aload_n B0 dL_law_494 rfl rfl ?_
    refine z_aload_n B0 dL_law_495 rfl rfl ?_
    refine z_iload_n B0 dL_law_496 rfl rfl ?_
    refine z_iconst (v := 1) B0 dL_law_497 (by decide) ?_
    refine z_iadd (v := 1) B0 dL_law_498 (by decide) ?_
    refine y_sld (j := 1) (v := x1) B0 hX hbl (by decide) e1.symm dL_law_499 ?_
    refine z_callC B0 (z_runV (q0 := 0) (As := [.int x1]) (st := []) B0 (c_X11_fault_4 (a := a) (cS0 w) x1 ⟨by omega, by omega⟩) cf_X11_fault (cw_0 cy tE a rw (cS0 w)) rfl wm_L_60 wi_X11_fault ws_X11_fault dL_law_500 rfl (Nat.le_of_ble_eq_true rfl) ⟨by decide, by decide, by decide, by decide⟩) (fun r1 u1 p1 => ?_)
    obtain ⟨rfl, -⟩ := p1
    refine z_aload_n B0 dL_law_503 rfl rfl ?_
    refine z_aload_n B0 dL_law_504 rfl rfl ?_
    refine z_iload_n B0 dL_law_505 rfl rfl ?_
    refine z_iconst (v := 1) B0 dL_law_506 (by decide) ?_
    refine z_iadd (v := 1) B0 dL_law_507 (by decide) ?_
    refine y_sld (j := 1) (v := x1) B0 hX hbl (by decide) e1.symm dL_law_508 ?_
    refine z_callM B0 (z_runV (q0 := 0) (As := [.int x1]) (st := [.int (-1)]) B0 (c_X12_fault_4 (a := a2) mS0 x1 ⟨by omega, by omega⟩) cf_X12_fault (mw_0 cy a2 mS0) rfl wm_L_63 wi_X12_fault ws_X12_fault dL_law_509 rfl (Nat.le_of_ble_eq_true rfl) ⟨by decide, by decide, by decide, by decide⟩) (fun r2 u2 p2 => ?_)
    obtain ⟨rfl, -⟩ := p2
    refine z_icmp_eq_t (tgt := 1091) B0 dL_law_512 (by decide) rfl ?_
    exact fin u1 u2

set_option maxHeartbeats 8000000 in
set_option maxRecDepth 100000 in
theorem lo_act {p : Program} {l : Launch} {e : Env} {s : State} {m : MethodId} {below : List Frame} {meth : Method} {c : Code} {D : va_G} {cy : Nat → ClassId} {tB tE b : Nat} {a a2 : Nat → Nat} {rw : Nat → Option Nat} {xs : Nat → Int32} (B0 : Bz p room_1 s m #[Value.ref b] meth c D cy s.heap.size tB tE (fun q => s.heap.size ≤ q) 4 cL_law RL meth.sig.returnType meth.name 2048 84000 600000 7302250) (hX : va_X b 6 xs s s.heap) (hbl : b < s.heap.size) (hrw : ∀ i, i < 6 → rw i = some (a (36 + 2 * i))) (w : Nat → Int64) (fin : ∀ S S9 : GS, Z p l e room_1 s m #[Value.ref b] below meth c D (fun q => s.heap.size ≤ q) 4 (lw_Z below #[Value.ref b] s) 200 60000 (cw cy tE a rw S ++ mw cy a2 S9) [(3, .int 0), (2, .ref (a2 0)), (1, .ref (a 0)), (0, .ref b)] 1091 []) : Z p l e room_1 s m #[Value.ref b] below meth c D (fun q => s.heap.size ≤ q) 4 (lw_Z below #[Value.ref b] s) 200 60000 (cw cy tE a rw (cS0 w) ++ mw cy a2 mS0) [(3, .int 0), (2, .ref (a2 0)), (1, .ref (a 0)), (0, .ref b)] 517 [] := by
  obtain ⟨x1, e1⟩ : ∃ x, x = xs 1 := ⟨_, rfl⟩
  obtain ⟨x2, e2⟩ : ∃ x, x = xs 2 := ⟨_, rfl⟩
  rcases (show ((-2147483648) ≤ x1.toInt ∧ x1.toInt ≤ (-1)) ∨ x1.toInt = 0 ∨ x1.toInt = 1 ∨ x1.toInt = 2 ∨ x1.toInt = 3 ∨ x1.toInt = 4 ∨ x1.toInt = 5 ∨ x1.toInt = 6 ∨ x1.toInt = 7 ∨ x1.toInt = 8 ∨ x1.toInt = 9 ∨ x1.toInt = 10 ∨ x1.toInt = 11 ∨ (12 ≤ x1.toInt ∧ x1.toInt ≤ 2147483647) by have g1 := Int32.le_toInt x1; have g2 := Int32.toInt_lt x1; omega) with h1 | h1 | h1 | h1 | h1 | h1 | h1 | h1 | h1 | h1 | h1 | h1 | h1 | h1
  · refine z_aload_n B0 dL_law_517 rfl rfl ?_
    refine z_aload_n B0 dL_law_518 rfl rfl ?_
    refine z_iload_n B0 dL_law_519 rfl rfl ?_
    refine z_iconst (v := 1) B0 dL_law_520 (by decide) ?_
    refine z_iadd (v := 1) B0 dL_law_521 (by decide) ?_
    refine y_sld (j := 1) (v := x1) B0 hX hbl (by decide) e1.symm dL_law_522 ?_
    refine z_aload_n B0 dL_law_523 rfl rfl ?_
    refine z_iload_n B0 dL_law_524 rfl rfl ?_
    refine z_iconst (v := 2) B0 dL_law_525 (by decide) ?_
    refine z_iadd (v := 2) B0 dL_law_526 (by decide) ?_
    refine y_sld (j := 2) (v := x2) B0 hX hbl (by decide) e2.symm dL_law_527 ?_
    refine z_callC B0 (z_runV (q0 := 0) (As := [.int x1, .int x2]) (st := []) B0 (c_X11_act (a := a) (cS0 w) x1 x2 ⟨by omega, by omega⟩) cf_X11_act (cw_0 cy tE a rw (cS0 w)) rfl wm_L_64 wi_X11_act ws_X11_act dL_law_528 rfl (Nat.le_of_ble_eq_true rfl) ⟨by decide, by decide, by decide, by decide⟩) (fun r1 u1 p1 => ?_)
    obtain ⟨rfl, -⟩ := p1
    refine z_aload_n B0 dL_law_531 rfl rfl ?_
    refine z_aload_n B0 dL_law_532 rfl rfl ?_
    refine z_iload_n B0 dL_law_533 rfl rfl ?_
    refine z_iconst (v := 1) B0 dL_law_534 (by decide) ?_
    refine z_iadd (v := 1) B0 dL_law_535 (by decide) ?_
    refine y_sld (j := 1) (v := x1) B0 hX hbl (by decide) e1.symm dL_law_536 ?_
    refine z_aload_n B0 dL_law_537 rfl rfl ?_
    refine z_iload_n B0 dL_law_538 rfl rfl ?_
    refine z_iconst (v := 2) B0 dL_law_539 (by decide) ?_
    refine z_iadd (v := 2) B0 dL_law_540 (by decide) ?_
    refine y_sld (j := 2) (v := x2) B0 hX hbl (by decide) e2.symm dL_law_541 ?_
    refine z_callM B0 (z_runV (q0 := 0) (As := [.int x1, .int x2]) (st := [.int (-1)]) B0 (c_X12_act (a := a2) mS0 x1 x2 ⟨by omega, by omega⟩) cf_X12_act (mw_0 cy a2 mS0) rfl wm_L_68 wi_X12_act ws_X12_act dL_law_542 rfl (Nat.le_of_ble_eq_true rfl) ⟨by decide, by decide, by decide, by decide⟩) (fun r2 u2 p2 => ?_)
    obtain ⟨rfl, -⟩ := p2
    refine z_icmp_eq_t (tgt := 1091) B0 dL_law_545 (by decide) rfl ?_
    exact fin u1 u2
  · obtain rfl : x1 = 0 := Int32.toInt_inj.mp (h1.trans (by decide))
    refine z_aload_n B0 dL_law_517 rfl rfl ?_
    refine z_aload_n B0 dL_law_518 rfl rfl ?_
    refine z_iload_n B0 dL_law_519 rfl rfl ?_
    refine z_iconst (v := 1) B0 dL_law_520 (by decide) ?_
    refine z_iadd (v := 1) B0 dL_law_521 (by decide) ?_
    refine y_sld (j := 1) (v := 0) B0 hX hbl (by decide) e1.symm dL_law_522 ?_
    refine z_aload_n B0 dL_law_523 rfl rfl ?_
    refine z_iload_n B0 dL_law_524 rfl rfl ?_
    refine z_iconst (v := 2) B0 dL_law_525 (by decide) ?_
    refine z_iadd (v := 2) B0 dL_law_526 (by decide) ?_
    refine y_sld (j := 2) (v := x2) B0 hX hbl (by decide) e2.symm dL_law_527 ?_
    refine z_callC B0 (z_runV (q0 := 0) (As := [.int 0, .int x2]) (st := []) B0 (c_X11_act_3 (a := a) (cS0 w) x2 ) cf_X11_act (cw_0 cy tE a rw (cS0 w)) rfl wm_L_64 wi_X11_act ws_X11_act dL_law_528 rfl (Nat.le_of_ble_eq_true rfl) ⟨by decide, by decide, by decide, by decide⟩) (fun r1 u1 p1 => ?_)
    obtain ⟨rfl, -⟩ := p1
    refine z_aload_n B0 dL_law_531 rfl rfl ?_
    refine z_aload_n B0 dL_law_532 rfl rfl ?_
    refine z_iload_n B0 dL_law_533 rfl rfl ?_
    refine z_iconst (v := 1) B0 dL_law_534 (by decide) ?_
    refine z_iadd (v := 1) B0 dL_law_535 (by decide) ?_
    refine y_sld (j := 1) (v := 0) B0 hX hbl (by decide) e1.symm dL_law_536 ?_
    refine z_aload_n B0 dL_law_537 rfl rfl ?_
    refine z_iload_n B0 dL_law_538 rfl rfl ?_
    refine z_iconst (v := 2) B0 dL_law_539 (by decide) ?_
    refine z_iadd (v := 2) B0 dL_law_540 (by decide) ?_
    refine y_sld (j := 2) (v := x2) B0 hX hbl (by decide) e2.symm dL_law_541 ?_
    refine z_callM B0 (z_runV (q0 := 0) (As := [.int 0, .int x2]) (st := [.int (-1)]) B0 (c_X12_act_3 (a := a2) mS0 x2 rfl) cf_X12_act (mw_0 cy a2 mS0) rfl wm_L_68 wi_X12_act ws_X12_act dL_law_542 rfl (Nat.le_of_ble_eq_true rfl) ⟨by decide, by decide, by decide, by decide⟩) (fun r2 u2 p2 => ?_)
    obtain ⟨rfl, -⟩ := p2
    refine z_icmp_eq_t (tgt := 1091) B0 dL_law_545 (by decide) rfl ?_
    exact fin u1 u2
  · obtain rfl : x1 = 1 := Int32.toInt_inj.mp (h1.trans (by decide))
    refine z_aload_n B0 dL_law_517 rfl rfl ?_
    refine z_aload_n B0 dL_law_518 rfl rfl ?_
    refine z_iload_n B0 dL_law_519 rfl rfl ?_
    refine z_iconst (v := 1) B0 dL_law_520 (by decide) ?_
    refine z_iadd (v := 1) B0 dL_law_521 (by decide) ?_
    refine y_sld (j := 1) (v := 1) B0 hX hbl (by decide) e1.symm dL_law_522 ?_
    refine z_aload_n B0 dL_law_523 rfl rfl ?_
    refine z_iload_n B0 dL_law_524 rfl rfl ?_
    refine z_iconst (v := 2) B0 dL_law_525 (by decide) ?_
    refine z_iadd (v := 2) B0 dL_law_526 (by decide) ?_
    refine y_sld (j := 2) (v := x2) B0 hX hbl (by decide) e2.symm dL_law_527 ?_
    refine z_callC B0 (z_runV (q0 := 0) (As := [.int 1, .int x2]) (st := []) B0 (c_X11_act_4 (a := a) (cS0 w) x2 ) cf_X11_act (cw_0 cy tE a rw (cS0 w)) rfl wm_L_64 wi_X11_act ws_X11_act dL_law_528 rfl (Nat.le_of_ble_eq_true rfl) ⟨by decide, by decide, by decide, by decide⟩) (fun r1 u1 p1 => ?_)
    obtain ⟨rfl, -⟩ := p1
    refine z_aload_n B0 dL_law_531 rfl rfl ?_
    refine z_aload_n B0 dL_law_532 rfl rfl ?_
    refine z_iload_n B0 dL_law_533 rfl rfl ?_
    refine z_iconst (v := 1) B0 dL_law_534 (by decide) ?_
    refine z_iadd (v := 1) B0 dL_law_535 (by decide) ?_
    refine y_sld (j := 1) (v := 1) B0 hX hbl (by decide) e1.symm dL_law_536 ?_
    refine z_aload_n B0 dL_law_537 rfl rfl ?_
    refine z_iload_n B0 dL_law_538 rfl rfl ?_
    refine z_iconst (v := 2) B0 dL_law_539 (by decide) ?_
    refine z_iadd (v := 2) B0 dL_law_540 (by decide) ?_
    refine y_sld (j := 2) (v := x2) B0 hX hbl (by decide) e2.symm dL_law_541 ?_
    refine z_callM B0 (z_runV (q0 := 0) (As := [.int 1, .int x2]) (st := [.int (-1)]) B0 (c_X12_act_4 (a := a2) mS0 x2 rfl) cf_X12_act (mw_0 cy a2 mS0) rfl wm_L_68 wi_X12_act ws_X12_act dL_law_542 rfl (Nat.le_of_ble_eq_true rfl) ⟨by decide, by decide, by decide, by decide⟩) (fun r2 u2 p2 => ?_)
    obtain ⟨rfl, -⟩ := p2
    refine z_icmp_eq_t (tgt := 1091) B0 dL_law_545 (by decide) rfl ?_
    exact fin u1 u2
  · obtain rfl : x1 = 2 := Int32.toInt_inj.mp (h1.trans (by decide))
    refine z_aload_n B0 dL_law_517 rfl rfl ?_
    refine z_aload_n B0 dL_law_518 rfl rfl ?_
    refine z_iload_n B0 dL_law_519 rfl rfl ?_
    refine z_iconst (v := 1) B0 dL_law_520 (by decide) ?_
    refine z_iadd (v := 1) B0 dL_law_521 (by decide) ?_
    refine y_sld (j := 1) (v := 2) B0 hX hbl (by decide) e1.symm dL_law_522 ?_
    refine z_aload_n B0 dL_law_523 rfl rfl ?_
    refine z_iload_n B0 dL_law_524 rfl rfl ?_
    refine z_iconst (v := 2) B0 dL_law_525 (by decide) ?_
    refine z_iadd (v := 2) B0 dL_law_526 (by decide) ?_
    refine y_sld (j := 2) (v := x2) B0 hX hbl (by decide) e2.symm dL_law_527 ?_
    refine z_callC B0 (z_runV (q0 := 0) (As := [.int 2, .int x2]) (st := []) B0 (c_X11_act_5 (a := a) (cS0 w) x2 ) cf_X11_act (cw_0 cy tE a rw (cS0 w)) rfl wm_L_64 wi_X11_act ws_X11_act dL_law_528 rfl (Nat.le_of_ble_eq_true rfl) ⟨by decide, by decide, by decide, by decide⟩) (fun r1 u1 p1 => ?_)
    obtain ⟨rfl, -⟩ := p1
    refine z_aload_n B0 dL_law_531 rfl rfl ?_
    refine z_aload_n B0 dL_law_532 rfl rfl ?_
    refine z_iload_n B0 dL_law_533 rfl rfl ?_
    refine z_iconst (v := 1) B0 dL_law_534 (by decide) ?_
    refine z_iadd (v := 1) B0 dL_law_535 (by decide) ?_
    refine y_sld (j := 1) (v := 2) B0 hX hbl (by decide) e1.symm dL_law_536 ?_
    refine z_aload_n B0 dL_law_537 rfl rfl ?_
    refine z_iload_n B0 dL_law_538 rfl rfl ?_
    refine z_iconst (v := 2) B0 dL_law_539 (by decide) ?_
    refine z_iadd (v := 2) B0 dL_law_540 (by decide) ?_
    refine y_sld (j := 2) (v := x2) B0 hX hbl (by decide) e2.symm dL_law_541 ?_
    refine z_callM B0 (z_runV (q0 := 0) (As := [.int 2, .int x2]) (st := [.int (-1)]) B0 (c_X12_act_5 (a := a2) mS0 x2 rfl) cf_X12_act (mw_0 cy a2 mS0) rfl wm_L_68 wi_X12_act ws_X12_act dL_law_542 rfl (Nat.le_of_ble_eq_true rfl) ⟨by decide, by decide, by decide, by decide⟩) (fun r2 u2 p2 => ?_)
    obtain ⟨rfl, -⟩ := p2
    refine z_icmp_eq_t (tgt := 1091) B0 dL_law_545 (by decide) rfl ?_
    exact fin u1 u2
  · obtain rfl : x1 = 3 := Int32.toInt_inj.mp (h1.trans (by decide))
    refine z_aload_n B0 dL_law_517 rfl rfl ?_
    refine z_aload_n B0 dL_law_518 rfl rfl ?_
    refine z_iload_n B0 dL_law_519 rfl rfl ?_
    refine z_iconst (v := 1) B0 dL_law_520 (by decide) ?_
    refine z_iadd (v := 1) B0 dL_law_521 (by decide) ?_
    refine y_sld (j := 1) (v := 3) B0 hX hbl (by decide) e1.symm dL_law_522 ?_
    refine z_aload_n B0 dL_law_523 rfl rfl ?_
    refine z_iload_n B0 dL_law_524 rfl rfl ?_
    refine z_iconst (v := 2) B0 dL_law_525 (by decide) ?_
    refine z_iadd (v := 2) B0 dL_law_526 (by decide) ?_
    refine y_sld (j := 2) (v := x2) B0 hX hbl (by decide) e2.symm dL_law_527 ?_
    refine z_callC B0 (z_runV (q0 := 0) (As := [.int 3, .int x2]) (st := []) B0 (c_X11_act_6 (a := a) (cS0 w) x2 ) cf_X11_act (cw_0 cy tE a rw (cS0 w)) rfl wm_L_64 wi_X11_act ws_X11_act dL_law_528 rfl (Nat.le_of_ble_eq_true rfl) ⟨by decide, by decide, by decide, by decide⟩) (fun r1 u1 p1 => ?_)
    obtain ⟨rfl, -⟩ := p1
    refine z_aload_n B0 dL_law_531 rfl rfl ?_
    refine z_aload_n B0 dL_law_532 rfl rfl ?_
    refine z_iload_n B0 dL_law_533 rfl rfl ?_
    refine z_iconst (v := 1) B0 dL_law_534 (by decide) ?_
    refine z_iadd (v := 1) B0 dL_law_535 (by decide) ?_
    refine y_sld (j := 1) (v := 3) B0 hX hbl (by decide) e1.symm dL_law_536 ?_
    refine z_aload_n B0 dL_law_537 rfl rfl ?_
    refine z_iload_n B0 dL_law_538 rfl rfl ?_
    refine z_iconst (v := 2) B0 dL_law_539 (by decide) ?_
    refine z_iadd (v := 2) B0 dL_law_540 (by decide) ?_
    refine y_sld (j := 2) (v := x2) B0 hX hbl (by decide) e2.symm dL_law_541 ?_
    refine z_callM B0 (z_runV (q0 := 0) (As := [.int 3, .int x2]) (st := [.int (-1)]) B0 (c_X12_act_6 (a := a2) mS0 x2 rfl) cf_X12_act (mw_0 cy a2 mS0) rfl wm_L_68 wi_X12_act ws_X12_act dL_law_542 rfl (Nat.le_of_ble_eq_true rfl) ⟨by decide, by decide, by decide, by decide⟩) (fun r2 u2 p2 => ?_)
    obtain ⟨rfl, -⟩ := p2
    refine z_icmp_eq_t (tgt := 1091) B0 dL_law_545 (by decide) rfl ?_
    exact fin u1 u2
  · obtain rfl : x1 = 4 := Int32.toInt_inj.mp (h1.trans (by decide))
    refine z_aload_n B0 dL_law_517 rfl rfl ?_
    refine z_aload_n B0 dL_law_518 rfl rfl ?_
    refine z_iload_n B0 dL_law_519 rfl rfl ?_
    refine z_iconst (v := 1) B0 dL_law_520 (by decide) ?_
    refine z_iadd (v := 1) B0 dL_law_521 (by decide) ?_
    refine y_sld (j := 1) (v := 4) B0 hX hbl (by decide) e1.symm dL_law_522 ?_
    refine z_aload_n B0 dL_law_523 rfl rfl ?_
    refine z_iload_n B0 dL_law_524 rfl rfl ?_
    refine z_iconst (v := 2) B0 dL_law_525 (by decide) ?_
    refine z_iadd (v := 2) B0 dL_law_526 (by decide) ?_
    refine y_sld (j := 2) (v := x2) B0 hX hbl (by decide) e2.symm dL_law_527 ?_
    refine z_callC B0 (z_runV (q0 := 0) (As := [.int 4, .int x2]) (st := []) B0 (c_X11_act_7 (a := a) (cS0 w) x2 ) cf_X11_act (cw_0 cy tE a rw (cS0 w)) rfl wm_L_64 wi_X11_act ws_X11_act dL_law_528 rfl (Nat.le_of_ble_eq_true rfl) ⟨by decide, by decide, by decide, by decide⟩) (fun r1 u1 p1 => ?_)
    obtain ⟨rfl, -⟩ := p1
    refine z_aload_n B0 dL_law_531 rfl rfl ?_
    refine z_aload_n B0 dL_law_532 rfl rfl ?_
    refine z_iload_n B0 dL_law_533 rfl rfl ?_
    refine z_iconst (v := 1) B0 dL_law_534 (by decide) ?_
    refine z_iadd (v := 1) B0 dL_law_535 (by decide) ?_
    refine y_sld (j := 1) (v := 4) B0 hX hbl (by decide) e1.symm dL_law_536 ?_
    refine z_aload_n B0 dL_law_537 rfl rfl ?_
    refine z_iload_n B0 dL_law_538 rfl rfl ?_
    refine z_iconst (v := 2) B0 dL_law_539 (by decide) ?_
    refine z_iadd (v := 2) B0 dL_law_540 (by decide) ?_
    refine y_sld (j := 2) (v := x2) B0 hX hbl (by decide) e2.symm dL_law_541 ?_
    refine z_callM B0 (z_runV (q0 := 0) (As := [.int 4, .int x2]) (st := [.int (-1)]) B0 (c_X12_act_7 (a := a2) mS0 x2 rfl) cf_X12_act (mw_0 cy a2 mS0) rfl wm_L_68 wi_X12_act ws_X12_act dL_law_542 rfl (Nat.le_of_ble_eq_true rfl) ⟨by decide, by decide, by decide, by decide⟩) (fun r2 u2 p2 => ?_)
    obtain ⟨rfl, -⟩ := p2
    refine z_icmp_eq_t (tgt := 1091) B0 dL_law_545 (by decide) rfl ?_
    exact fin u1 u2
  · obtain rfl : x1 = 5 := Int32.toInt_inj.mp (h1.trans (by decide))
    refine z_aload_n B0 dL_law_517 rfl rfl ?_
    refine z_aload_n B0 dL_law_518 rfl rfl ?_
    refine z_iload_n B0 dL_law_519 rfl rfl ?_
    refine z_iconst (v := 1) B0 dL_law_520 (by decide) ?_
    refine z_iadd (v := 1) B0 dL_law_521 (by decide) ?_
    refine y_sld (j := 1) (v := 5) B0 hX hbl (by decide) e1.symm dL_law_522 ?_
    refine z_aload_n B0 dL_law_523 rfl rfl ?_
    refine z_iload_n B0 dL_law_524 rfl rfl ?_
    refine z_iconst (v := 2) B0 dL_law_525 (by decide) ?_
    refine z_iadd (v := 2) B0 dL_law_526 (by decide) ?_
    refine y_sld (j := 2) (v := x2) B0 hX hbl (by decide) e2.symm dL_law_527 ?_
    refine z_callC B0 (z_runV (q0 := 0) (As := [.int 5, .int x2]) (st := []) B0 (c_X11_act_8 (a := a) (cS0 w) x2 ) cf_X11_act (cw_0 cy tE a rw (cS0 w)) rfl wm_L_64 wi_X11_act ws_X11_act dL_law_528 rfl (Nat.le_of_ble_eq_true rfl) ⟨by decide, by decide, by decide, by decide⟩) (fun r1 u1 p1 => ?_)
    obtain ⟨rfl, -⟩ := p1
    refine z_aload_n B0 dL_law_531 rfl rfl ?_
    refine z_aload_n B0 dL_law_532 rfl rfl ?_
    refine z_iload_n B0 dL_law_533 rfl rfl ?_
    refine z_iconst (v := 1) B0 dL_law_534 (by decide) ?_
    refine z_iadd (v := 1) B0 dL_law_535 (by decide) ?_
    refine y_sld (j := 1) (v := 5) B0 hX hbl (by decide) e1.symm dL_law_536 ?_
    refine z_aload_n B0 dL_law_537 rfl rfl ?_
    refine z_iload_n B0 dL_law_538 rfl rfl ?_
    refine z_iconst (v := 2) B0 dL_law_539 (by decide) ?_
    refine z_iadd (v := 2) B0 dL_law_540 (by decide) ?_
    refine y_sld (j := 2) (v := x2) B0 hX hbl (by decide) e2.symm dL_law_541 ?_
    refine z_callM B0 (z_runV (q0 := 0) (As := [.int 5, .int x2]) (st := [.int (-1)]) B0 (c_X12_act_8 (a := a2) mS0 x2 rfl) cf_X12_act (mw_0 cy a2 mS0) rfl wm_L_68 wi_X12_act ws_X12_act dL_law_542 rfl (Nat.le_of_ble_eq_true rfl) ⟨by decide, by decide, by decide, by decide⟩) (fun r2 u2 p2 => ?_)
    obtain ⟨rfl, -⟩ := p2
    refine z_icmp_eq_t (tgt := 1091) B0 dL_law_545 (by decide) rfl ?_
    exact fin u1 u2
  · obtain rfl : x1 = 6 := Int32.toInt_inj.mp (h1.trans (by decide))
    refine z_aload_n B0 dL_law_517 rfl rfl ?_
    refine z_aload_n B0 dL_law_518 rfl rfl ?_
    refine z_iload_n B0 dL_law_519 rfl rfl ?_
    refine z_iconst (v := 1) B0 dL_law_520 (by decide) ?_
    refine z_iadd (v := 1) B0 dL_law_521 (by decide) ?_
    refine y_sld (j := 1) (v := 6) B0 hX hbl (by decide) e1.symm dL_law_522 ?_
    refine z_aload_n B0 dL_law_523 rfl rfl ?_
    refine z_iload_n B0 dL_law_524 rfl rfl ?_
    refine z_iconst (v := 2) B0 dL_law_525 (by decide) ?_
    refine z_iadd (v := 2) B0 dL_law_526 (by decide) ?_
    refine y_sld (j := 2) (v := x2) B0 hX hbl (by decide) e2.symm dL_law_527 ?_
    refine z_callC B0 (z_runV (q0 := 0) (As := [.int 6, .int x2]) (st := []) B0 (c_X11_act_9 (a := a) (cS0 w) x2 ) cf_X11_act (cw_0 cy tE a rw (cS0 w)) rfl wm_L_64 wi_X11_act ws_X11_act dL_law_528 rfl (Nat.le_of_ble_eq_true rfl) ⟨by decide, by decide, by decide, by decide⟩) (fun r1 u1 p1 => ?_)
    obtain ⟨rfl, -⟩ := p1
    refine z_aload_n B0 dL_law_531 rfl rfl ?_
    refine z_aload_n B0 dL_law_532 rfl rfl ?_
    refine z_iload_n B0 dL_law_533 rfl rfl ?_
    refine z_iconst (v := 1) B0 dL_law_534 (by decide) ?_
    refine z_iadd (v := 1) B0 dL_law_535 (by decide) ?_
    refine y_sld (j := 1) (v := 6) B0 hX hbl (by decide) e1.symm dL_law_536 ?_
    refine z_aload_n B0 dL_law_537 rfl rfl ?_
    refine z_iload_n B0 dL_law_538 rfl rfl ?_
    refine z_iconst (v := 2) B0 dL_law_539 (by decide) ?_
    refine z_iadd (v := 2) B0 dL_law_540 (by decide) ?_
    refine y_sld (j := 2) (v := x2) B0 hX hbl (by decide) e2.symm dL_law_541 ?_
    refine z_callM B0 (z_runV (q0 := 0) (As := [.int 6, .int x2]) (st := [.int (-1)]) B0 (c_X12_act_9 (a := a2) mS0 x2 rfl) cf_X12_act (mw_0 cy a2 mS0) rfl wm_L_68 wi_X12_act ws_X12_act dL_law_542 rfl (Nat.le_of_ble_eq_true rfl) ⟨by decide, by decide, by decide, by decide⟩) (fun r2 u2 p2 => ?_)
    obtain ⟨rfl, -⟩ := p2
    refine z_icmp_eq_t (tgt := 1091) B0 dL_law_545 (by decide) rfl ?_
    exact fin u1 u2
  · obtain rfl : x1 = 7 := Int32.toInt_inj.mp (h1.trans (by decide))
    refine z_aload_n B0 dL_law_517 rfl rfl ?_
    refine z_aload_n B0 dL_law_518 rfl rfl ?_
    refine z_iload_n B0 dL_law_519 rfl rfl ?_
    refine z_iconst (v := 1) B0 dL_law_520 (by decide) ?_
    refine z_iadd (v := 1) B0 dL_law_521 (by decide) ?_
    refine y_sld (j := 1) (v := 7) B0 hX hbl (by decide) e1.symm dL_law_522 ?_
    refine z_aload_n B0 dL_law_523 rfl rfl ?_
    refine z_iload_n B0 dL_law_524 rfl rfl ?_
    refine z_iconst (v := 2) B0 dL_law_525 (by decide) ?_
    refine z_iadd (v := 2) B0 dL_law_526 (by decide) ?_
    refine y_sld (j := 2) (v := x2) B0 hX hbl (by decide) e2.symm dL_law_527 ?_
    refine z_callC B0 (z_runV (q0 := 0) (As := [.int 7, .int x2]) (st := []) B0 (c_X11_act_10 (a := a) (cS0 w) x2 ) cf_X11_act (cw_0 cy tE a rw (cS0 w)) rfl wm_L_64 wi_X11_act ws_X11_act dL_law_528 rfl (Nat.le_of_ble_eq_true rfl) ⟨by decide, by decide, by decide, by decide⟩) (fun r1 u1 p1 => ?_)
    obtain ⟨rfl, -⟩ := p1
    refine z_aload_n B0 dL_law_531 rfl rfl ?_
    refine z_aload_n B0 dL_law_532 rfl rfl ?_
    refine z_iload_n B0 dL_law_533 rfl rfl ?_
    refine z_iconst (v := 1) B0 dL_law_534 (by decide) ?_
    refine z_iadd (v := 1) B0 dL_law_535 (by decide) ?_
    refine y_sld (j := 1) (v := 7) B0 hX hbl (by decide) e1.symm dL_law_536 ?_
    refine z_aload_n B0 dL_law_537 rfl rfl ?_
    refine z_iload_n B0 dL_law_538 rfl rfl ?_
    refine z_iconst (v := 2) B0 dL_law_539 (by decide) ?_
    refine z_iadd (v := 2) B0 dL_law_540 (by decide) ?_
    refine y_sld (j := 2) (v := x2) B0 hX hbl (by decide) e2.symm dL_law_541 ?_
    refine z_callM B0 (z_runV (q0 := 0) (As := [.int 7, .int x2]) (st := [.int (-1)]) B0 (c_X12_act_10 (a := a2) mS0 x2 rfl) cf_X12_act (mw_0 cy a2 mS0) rfl wm_L_68 wi_X12_act ws_X12_act dL_law_542 rfl (Nat.le_of_ble_eq_true rfl) ⟨by decide, by decide, by decide, by decide⟩) (fun r2 u2 p2 => ?_)
    obtain ⟨rfl, -⟩ := p2
    refine z_icmp_eq_t (tgt := 1091) B0 dL_law_545 (by decide) rfl ?_
    exact fin u1 u2
  · obtain rfl : x1 = 8 := Int32.toInt_inj.mp (h1.trans (by decide))
    refine z_aload_n B0 dL_law_517 rfl rfl ?_
    refine z_aload_n B0 dL_law_518 rfl rfl ?_
    refine z_iload_n B0 dL_law_519 rfl rfl ?_
    refine z_iconst (v := 1) B0 dL_law_520 (by decide) ?_
    refine z_iadd (v := 1) B0 dL_law_521 (by decide) ?_
    refine y_sld (j := 1) (v := 8) B0 hX hbl (by decide) e1.symm dL_law_522 ?_
    refine z_aload_n B0 dL_law_523 rfl rfl ?_
    refine z_iload_n B0 dL_law_524 rfl rfl ?_
    refine z_iconst (v := 2) B0 dL_law_525 (by decide) ?_
    refine z_iadd (v := 2) B0 dL_law_526 (by decide) ?_
    refine y_sld (j := 2) (v := x2) B0 hX hbl (by decide) e2.symm dL_law_527 ?_
    refine z_callC B0 (z_runV (q0 := 0) (As := [.int 8, .int x2]) (st := []) B0 (c_X11_act_11 (a := a) (cS0 w) x2 ) cf_X11_act (cw_0 cy tE a rw (cS0 w)) rfl wm_L_64 wi_X11_act ws_X11_act dL_law_528 rfl (Nat.le_of_ble_eq_true rfl) ⟨by decide, by decide, by decide, by decide⟩) (fun r1 u1 p1 => ?_)
    obtain ⟨rfl, -⟩ := p1
    refine z_aload_n B0 dL_law_531 rfl rfl ?_
    refine z_aload_n B0 dL_law_532 rfl rfl ?_
    refine z_iload_n B0 dL_law_533 rfl rfl ?_
    refine z_iconst (v := 1) B0 dL_law_534 (by decide) ?_
    refine z_iadd (v := 1) B0 dL_law_535 (by decide) ?_
    refine y_sld (j := 1) (v := 8) B0 hX hbl (by decide) e1.symm dL_law_536 ?_
    refine z_aload_n B0 dL_law_537 rfl rfl ?_
    refine z_iload_n B0 dL_law_538 rfl rfl ?_
    refine z_iconst (v := 2) B0 dL_law_539 (by decide) ?_
    refine z_iadd (v := 2) B0 dL_law_540 (by decide) ?_
    refine y_sld (j := 2) (v := x2) B0 hX hbl (by decide) e2.symm dL_law_541 ?_
    refine z_callM B0 (z_runV (q0 := 0) (As := [.int 8, .int x2]) (st := [.int (-1)]) B0 (c_X12_act_11 (a := a2) mS0 x2 rfl) cf_X12_act (mw_0 cy a2 mS0) rfl wm_L_68 wi_X12_act ws_X12_act dL_law_542 rfl (Nat.le_of_ble_eq_true rfl) ⟨by decide, by decide, by decide, by decide⟩) (fun r2 u2 p2 => ?_)
    obtain ⟨rfl, -⟩ := p2
    refine z_icmp_eq_t (tgt := 1091) B0 dL_law_545 (by decide) rfl ?_
    exact fin u1 u2
  · obtain rfl : x1 = 9 := Int32.toInt_inj.mp (h1.trans (by decide))
    refine z_aload_n B0 dL_law_517 rfl rfl ?_
    refine z_aload_n B0 dL_law_518 rfl rfl ?_
    refine z_iload_n B0 dL_law_519 rfl rfl ?_
    refine z_iconst (v := 1) B0 dL_law_520 (by decide) ?_
    refine z_iadd (v := 1) B0 dL_law_521 (by decide) ?_
    refine y_sld (j := 1) (v := 9) B0 hX hbl (by decide) e1.symm dL_law_522 ?_
    refine z_aload_n B0 dL_law_523 rfl rfl ?_
    refine z_iload_n B0 dL_law_524 rfl rfl ?_
    refine z_iconst (v := 2) B0 dL_law_525 (by decide) ?_
    refine z_iadd (v := 2) B0 dL_law_526 (by decide) ?_
    refine y_sld (j := 2) (v := x2) B0 hX hbl (by decide) e2.symm dL_law_527 ?_
    refine z_callC B0 (z_runV (q0 := 0) (As := [.int 9, .int x2]) (st := []) B0 (c_X11_act_12 (a := a) (cS0 w) x2 ) cf_X11_act (cw_0 cy tE a rw (cS0 w)) rfl wm_L_64 wi_X11_act ws_X11_act dL_law_528 rfl (Nat.le_of_ble_eq_true rfl) ⟨by decide, by decide, by decide, by decide⟩) (fun r1 u1 p1 => ?_)
    obtain ⟨rfl, -⟩ := p1
    refine z_aload_n B0 dL_law_531 rfl rfl ?_
    refine z_aload_n B0 dL_law_532 rfl rfl ?_
    refine z_iload_n B0 dL_law_533 rfl rfl ?_
    refine z_iconst (v := 1) B0 dL_law_534 (by decide) ?_
    refine z_iadd (v := 1) B0 dL_law_535 (by decide) ?_
    refine y_sld (j := 1) (v := 9) B0 hX hbl (by decide) e1.symm dL_law_536 ?_
    refine z_aload_n B0 dL_law_537 rfl rfl ?_
    refine z_iload_n B0 dL_law_538 rfl rfl ?_
    refine z_iconst (v := 2) B0 dL_law_539 (by decide) ?_
    refine z_iadd (v := 2) B0 dL_law_540 (by decide) ?_
    refine y_sld (j := 2) (v := x2) B0 hX hbl (by decide) e2.symm dL_law_541 ?_
    refine z_callM B0 (z_runV (q0 := 0) (As := [.int 9, .int x2]) (st := [.int (-1)]) B0 (c_X12_act_12 (a := a2) mS0 x2 rfl) cf_X12_act (mw_0 cy a2 mS0) rfl wm_L_68 wi_X12_act ws_X12_act dL_law_542 rfl (Nat.le_of_ble_eq_true rfl) ⟨by decide, by decide, by decide, by decide⟩) (fun r2 u2 p2 => ?_)
    obtain ⟨rfl, -⟩ := p2
    refine z_icmp_eq_t (tgt := 1091) B0 dL_law_545 (by decide) rfl ?_
    exact fin u1 u2
  · obtain rfl : x1 = 10 := Int32.toInt_inj.mp (h1.trans (by decide))
    refine z_aload_n B0 dL_law_517 rfl rfl ?_
    refine z_aload_n B0 dL_law_518 rfl rfl ?_
    refine z_iload_n B0 dL_law_519 rfl rfl ?_
    refine z_iconst (v := 1) B0 dL_law_520 (by decide) ?_
    refine z_iadd (v := 1) B0 dL_law_521 (by decide) ?_
    refine y_sld (j := 1) (v := 10) B0 hX hbl (by decide) e1.symm dL_law_522 ?_
    refine z_aload_n B0 dL_law_523 rfl rfl ?_
    refine z_iload_n B0 dL_law_524 rfl rfl ?_
    refine z_iconst (v := 2) B0 dL_law_525 (by decide) ?_
    refine z_iadd (v := 2) B0 dL_law_526 (by decide) ?_
    refine y_sld (j := 2) (v := x2) B0 hX hbl (by decide) e2.symm dL_law_527 ?_
    refine z_callC B0 (z_runV (q0 := 0) (As := [.int 10, .int x2]) (st := []) B0 (c_X11_act_13 (a := a) (cS0 w) x2 ) cf_X11_act (cw_0 cy tE a rw (cS0 w)) rfl wm_L_64 wi_X11_act ws_X11_act dL_law_528 rfl (Nat.le_of_ble_eq_true rfl) ⟨by decide, by decide, by decide, by decide⟩) (fun r1 u1 p1 => ?_)
    obtain ⟨rfl, -⟩ := p1
    refine z_aload_n B0 dL_law_531 rfl rfl ?_
    refine z_aload_n B0 dL_law_532 rfl rfl ?_
    refine z_iload_n B0 dL_law_533 rfl rfl ?_
    refine z_iconst (v := 1) B0 dL_law_534 (by decide) ?_
    refine z_iadd (v := 1) B0 dL_law_535 (by decide) ?_
    refine y_sld (j := 1) (v := 10) B0 hX hbl (by decide) e1.symm dL_law_536 ?_
    refine z_aload_n B0 dL_law_537 rfl rfl ?_
    refine z_iload_n B0 dL_law_538 rfl rfl ?_
    refine z_iconst (v := 2) B0 dL_law_539 (by decide) ?_
    refine z_iadd (v := 2) B0 dL_law_540 (by decide) ?_
    refine y_sld (j := 2) (v := x2) B0 hX hbl (by decide) e2.symm dL_law_541 ?_
    refine z_callM B0 (z_runV (q0 := 0) (As := [.int 10, .int x2]) (st := [.int (-1)]) B0 (c_X12_act_13 (a := a2) mS0 x2 rfl) cf_X12_act (mw_0 cy a2 mS0) rfl wm_L_68 wi_X12_act ws_X12_act dL_law_542 rfl (Nat.le_of_ble_eq_true rfl) ⟨by decide, by decide, by decide, by decide⟩) (fun r2 u2 p2 => ?_)
    obtain ⟨rfl, -⟩ := p2
    refine z_icmp_eq_t (tgt := 1091) B0 dL_law_545 (by decide) rfl ?_
    exact fin u1 u2
  · obtain rfl : x1 = 11 := Int32.toInt_inj.mp (h1.trans (by decide))
    refine z_aload_n B0 dL_law_517 rfl rfl ?_
    refine z_aload_n B0 dL_law_518 rfl rfl ?_
    refine z_iload_n B0 dL_law_519 rfl rfl ?_
    refine z_iconst (v := 1) B0 dL_law_520 (by decide) ?_
    refine z_iadd (v := 1) B0 dL_law_521 (by decide) ?_
    refine y_sld (j := 1) (v := 11) B0 hX hbl (by decide) e1.symm dL_law_522 ?_
    refine z_aload_n B0 dL_law_523 rfl rfl ?_
    refine z_iload_n B0 dL_law_524 rfl rfl ?_
    refine z_iconst (v := 2) B0 dL_law_525 (by decide) ?_
    refine z_iadd (v := 2) B0 dL_law_526 (by decide) ?_
    refine y_sld (j := 2) (v := x2) B0 hX hbl (by decide) e2.symm dL_law_527 ?_
    refine z_callC B0 (z_runV (q0 := 0) (As := [.int 11, .int x2]) (st := []) B0 (c_X11_act_14 (a := a) (cS0 w) x2 ) cf_X11_act (cw_0 cy tE a rw (cS0 w)) rfl wm_L_64 wi_X11_act ws_X11_act dL_law_528 rfl (Nat.le_of_ble_eq_true rfl) ⟨by decide, by decide, by decide, by decide⟩) (fun r1 u1 p1 => ?_)
    obtain ⟨rfl, -⟩ := p1
    refine z_aload_n B0 dL_law_531 rfl rfl ?_
    refine z_aload_n B0 dL_law_532 rfl rfl ?_
    refine z_iload_n B0 dL_law_533 rfl rfl ?_
    refine z_iconst (v := 1) B0 dL_law_534 (by decide) ?_
    refine z_iadd (v := 1) B0 dL_law_535 (by decide) ?_
    refine y_sld (j := 1) (v := 11) B0 hX hbl (by decide) e1.symm dL_law_536 ?_
    refine z_aload_n B0 dL_law_537 rfl rfl ?_
    refine z_iload_n B0 dL_law_538 rfl rfl ?_
    refine z_iconst (v := 2) B0 dL_law_539 (by decide) ?_
    refine z_iadd (v := 2) B0 dL_law_540 (by decide) ?_
    refine y_sld (j := 2) (v := x2) B0 hX hbl (by decide) e2.symm dL_law_541 ?_
    refine z_callM B0 (z_runV (q0 := 0) (As := [.int 11, .int x2]) (st := [.int (-1)]) B0 (c_X12_act_14 (a := a2) mS0 x2 rfl) cf_X12_act (mw_0 cy a2 mS0) rfl wm_L_68 wi_X12_act ws_X12_act dL_law_542 rfl (Nat.le_of_ble_eq_true rfl) ⟨by decide, by decide, by decide, by decide⟩) (fun r2 u2 p2 => ?_)
    obtain ⟨rfl, -⟩ := p2
    refine z_icmp_eq_t (tgt := 1091) B0 dL_law_545 (by decide) rfl ?_
    exact fin u1 u2
  · refine z_aload_n B0 dL_law_517 rfl rfl ?_
    refine z_aload_n B0 dL_law_518 rfl rfl ?_
    refine z_iload_n B0 dL_law_519 rfl rfl ?_
    refine z_iconst (v := 1) B0 dL_law_520 (by decide) ?_
    refine z_iadd (v := 1) B0 dL_law_521 (by decide) ?_
    refine y_sld (j := 1) (v := x1) B0 hX hbl (by decide) e1.symm dL_law_522 ?_
    refine z_aload_n B0 dL_law_523 rfl rfl ?_
    refine z_iload_n B0 dL_law_524 rfl rfl ?_
    refine z_iconst (v := 2) B0 dL_law_525 (by decide) ?_
    refine z_iadd (v := 2) B0 dL_law_526 (by decide) ?_
    refine y_sld (j := 2) (v := x2) B0 hX hbl (by decide) e2.symm dL_law_527 ?_
    refine z_callC B0 (z_runV (q0 := 0) (As := [.int x1, .int x2]) (st := []) B0 (c_X11_act_2 (a := a) (cS0 w) x1 x2 ⟨by omega, by omega⟩) cf_X11_act (cw_0 cy tE a rw (cS0 w)) rfl wm_L_64 wi_X11_act ws_X11_act dL_law_528 rfl (Nat.le_of_ble_eq_true rfl) ⟨by decide, by decide, by decide, by decide⟩) (fun r1 u1 p1 => ?_)
    obtain ⟨rfl, -⟩ := p1
    refine z_aload_n B0 dL_law_531 rfl rfl ?_
    refine z_aload_n B0 dL_law_532 rfl rfl ?_
    refine z_iload_n B0 dL_law_533 rfl rfl ?_
    refine z_iconst (v := 1) B0 dL_law_534 (by decide) ?_
    refine z_iadd (v := 1) B0 dL_law_535 (by decide) ?_
    refine y_sld (j := 1) (v := x1) B0 hX hbl (by decide) e1.symm dL_law_536 ?_
    refine z_aload_n B0 dL_law_537 rfl rfl ?_
    refine z_iload_n B0 dL_law_538 rfl rfl ?_
    refine z_iconst (v := 2) B0 dL_law_539 (by decide) ?_
    refine z_iadd (v := 2) B0 dL_law_540 (by decide) ?_
    refine y_sld (j := 2) (v := x2) B0 hX hbl (by decide) e2.symm dL_law_541 ?_
    refine z_callM B0 (z_runV (q0 := 0) (As := [.int x1, .int x2]) (st := [.int (-1)]) B0 (c_X12_act_2 (a := a2) mS0 x1 x2 ⟨by omega, by omega⟩) cf_X12_act (mw_0 cy a2 mS0) rfl wm_L_68 wi_X12_act ws_X12_act dL_law_542 rfl (Nat.le_of_ble_eq_true rfl) ⟨by decide, by decide, by decide, by decide⟩) (fun r2 u2 p2 => ?_)
    obtain ⟨rfl, -⟩ := p2
    refine z_icmp_eq_t (tgt := 1091) B0 dL_law_545 (by decide) rfl ?_
    exact fin u1 u2

set_option maxHeartbeats 8000000 in
set_option maxRecDepth 100000 in
theorem lo_put {p : Program} {l : Launch} {e : Env} {s : State} {m : MethodId} {below : List Frame} {meth : Method} {c : Code} {D : va_G} {cy : Nat → ClassId} {tB tE b : Nat} {a a2 : Nat → Nat} {rw : Nat → Option Nat} {xs : Nat → Int32} (B0 : Bz p room_1 s m #[Value.ref b] meth c D cy s.heap.size tB tE (fun q => s.heap.size ≤ q) 4 cL_law RL meth.sig.returnType meth.name 2048 84000 600000 7302250) (hX : va_X b 6 xs s s.heap) (hbl : b < s.heap.size) (hrw : ∀ i, i < 6 → rw i = some (a (36 + 2 * i))) (w : Nat → Int64) (fin : ∀ S S9 : GS, Z p l e room_1 s m #[Value.ref b] below meth c D (fun q => s.heap.size ≤ q) 4 (lw_Z below #[Value.ref b] s) 200 60000 (cw cy tE a rw S ++ mw cy a2 S9) [(3, .int 0), (2, .ref (a2 0)), (1, .ref (a 0)), (0, .ref b)] 1091 []) : Z p l e room_1 s m #[Value.ref b] below meth c D (fun q => s.heap.size ≤ q) 4 (lw_Z below #[Value.ref b] s) 200 60000 (cw cy tE a rw (cS0 w) ++ mw cy a2 mS0) [(3, .int 0), (2, .ref (a2 0)), (1, .ref (a 0)), (0, .ref b)] 550 [] := by
  obtain ⟨x1, e1⟩ : ∃ x, x = xs 1 := ⟨_, rfl⟩
  obtain ⟨x2, e2⟩ : ∃ x, x = xs 2 := ⟨_, rfl⟩
  rcases (show ((-2147483648) ≤ x1.toInt ∧ x1.toInt ≤ (-1)) ∨ x1.toInt = 0 ∨ x1.toInt = 1 ∨ x1.toInt = 2 ∨ x1.toInt = 3 ∨ x1.toInt = 4 ∨ x1.toInt = 5 ∨ (6 ≤ x1.toInt ∧ x1.toInt ≤ 2147483647) by have g1 := Int32.le_toInt x1; have g2 := Int32.toInt_lt x1; omega) with h1 | h1 | h1 | h1 | h1 | h1 | h1 | h1
  · refine z_aload_n B0 dL_law_550 rfl rfl ?_
    refine z_aload_n B0 dL_law_551 rfl rfl ?_
    refine z_iload_n B0 dL_law_552 rfl rfl ?_
    refine z_iconst (v := 1) B0 dL_law_553 (by decide) ?_
    refine z_iadd (v := 1) B0 dL_law_554 (by decide) ?_
    refine y_sld (j := 1) (v := x1) B0 hX hbl (by decide) e1.symm dL_law_555 ?_
    refine z_aload_n B0 dL_law_556 rfl rfl ?_
    refine z_iload_n B0 dL_law_557 rfl rfl ?_
    refine z_iconst (v := 2) B0 dL_law_558 (by decide) ?_
    refine z_iadd (v := 2) B0 dL_law_559 (by decide) ?_
    refine y_sld (j := 2) (v := x2) B0 hX hbl (by decide) e2.symm dL_law_560 ?_
    refine z_callC B0 (z_runV (q0 := 0) (As := [.int x1, .int x2]) (st := []) B0 (c_X11_put (a := a) (cS0 w) x1 x2 ⟨by omega, by omega⟩) cf_X11_put (cw_0 cy tE a rw (cS0 w)) rfl wm_L_69 wi_X11_put ws_X11_put dL_law_561 rfl (Nat.le_of_ble_eq_true rfl) ⟨by decide, by decide, by decide, by decide⟩) (fun r1 u1 p1 => ?_)
    obtain ⟨rfl, -⟩ := p1
    refine z_aload_n B0 dL_law_564 rfl rfl ?_
    refine z_aload_n B0 dL_law_565 rfl rfl ?_
    refine z_iload_n B0 dL_law_566 rfl rfl ?_
    refine z_iconst (v := 1) B0 dL_law_567 (by decide) ?_
    refine z_iadd (v := 1) B0 dL_law_568 (by decide) ?_
    refine y_sld (j := 1) (v := x1) B0 hX hbl (by decide) e1.symm dL_law_569 ?_
    refine z_aload_n B0 dL_law_570 rfl rfl ?_
    refine z_iload_n B0 dL_law_571 rfl rfl ?_
    refine z_iconst (v := 2) B0 dL_law_572 (by decide) ?_
    refine z_iadd (v := 2) B0 dL_law_573 (by decide) ?_
    refine y_sld (j := 2) (v := x2) B0 hX hbl (by decide) e2.symm dL_law_574 ?_
    refine z_callM B0 (z_runV (q0 := 0) (As := [.int x1, .int x2]) (st := [.int (-1)]) B0 (c_X12_put (a := a2) mS0 x1 x2 ⟨by omega, by omega⟩) cf_X12_put (mw_0 cy a2 mS0) rfl wm_L_72 wi_X12_put ws_X12_put dL_law_575 rfl (Nat.le_of_ble_eq_true rfl) ⟨by decide, by decide, by decide, by decide⟩) (fun r2 u2 p2 => ?_)
    obtain ⟨rfl, -⟩ := p2
    refine z_icmp_eq_t (tgt := 1091) B0 dL_law_578 (by decide) rfl ?_
    exact fin u1 u2
  · obtain rfl : x1 = 0 := Int32.toInt_inj.mp (h1.trans (by decide))
    rcases (show ((-2147483648) ≤ x2.toInt ∧ x2.toInt ≤ (-1)) ∨ (0 ≤ x2.toInt ∧ x2.toInt ≤ 767) ∨ (768 ≤ x2.toInt ∧ x2.toInt ≤ 2147483647) by have g1 := Int32.le_toInt x2; have g2 := Int32.toInt_lt x2; omega) with h2 | h2 | h2
    · refine z_aload_n B0 dL_law_550 rfl rfl ?_
      refine z_aload_n B0 dL_law_551 rfl rfl ?_
      refine z_iload_n B0 dL_law_552 rfl rfl ?_
      refine z_iconst (v := 1) B0 dL_law_553 (by decide) ?_
      refine z_iadd (v := 1) B0 dL_law_554 (by decide) ?_
      refine y_sld (j := 1) (v := 0) B0 hX hbl (by decide) e1.symm dL_law_555 ?_
      refine z_aload_n B0 dL_law_556 rfl rfl ?_
      refine z_iload_n B0 dL_law_557 rfl rfl ?_
      refine z_iconst (v := 2) B0 dL_law_558 (by decide) ?_
      refine z_iadd (v := 2) B0 dL_law_559 (by decide) ?_
      refine y_sld (j := 2) (v := x2) B0 hX hbl (by decide) e2.symm dL_law_560 ?_
      refine z_callC B0 (z_runV (q0 := 0) (As := [.int 0, .int x2]) (st := []) B0 (c_X11_put_3 (a := a) (cS0 w) x2 ⟨by omega, by omega⟩) cf_X11_put (cw_0 cy tE a rw (cS0 w)) rfl wm_L_69 wi_X11_put ws_X11_put dL_law_561 rfl (Nat.le_of_ble_eq_true rfl) ⟨by decide, by decide, by decide, by decide⟩) (fun r1 u1 p1 => ?_)
      obtain ⟨rfl, -⟩ := p1
      refine z_aload_n B0 dL_law_564 rfl rfl ?_
      refine z_aload_n B0 dL_law_565 rfl rfl ?_
      refine z_iload_n B0 dL_law_566 rfl rfl ?_
      refine z_iconst (v := 1) B0 dL_law_567 (by decide) ?_
      refine z_iadd (v := 1) B0 dL_law_568 (by decide) ?_
      refine y_sld (j := 1) (v := 0) B0 hX hbl (by decide) e1.symm dL_law_569 ?_
      refine z_aload_n B0 dL_law_570 rfl rfl ?_
      refine z_iload_n B0 dL_law_571 rfl rfl ?_
      refine z_iconst (v := 2) B0 dL_law_572 (by decide) ?_
      refine z_iadd (v := 2) B0 dL_law_573 (by decide) ?_
      refine y_sld (j := 2) (v := x2) B0 hX hbl (by decide) e2.symm dL_law_574 ?_
      refine z_callM B0 (z_runV (q0 := 0) (As := [.int 0, .int x2]) (st := [.int (-1)]) B0 (c_X12_put_3 (a := a2) mS0 x2 ⟨by omega, by omega⟩) cf_X12_put (mw_0 cy a2 mS0) rfl wm_L_72 wi_X12_put ws_X12_put dL_law_575 rfl (Nat.le_of_ble_eq_true rfl) ⟨by decide, by decide, by decide, by decide⟩) (fun r2 u2 p2 => ?_)
      obtain ⟨rfl, -⟩ := p2
      refine z_icmp_eq_t (tgt := 1091) B0 dL_law_578 (by decide) rfl ?_
      exact fin u1 u2
    · refine z_aload_n B0 dL_law_550 rfl rfl ?_
      refine z_aload_n B0 dL_law_551 rfl rfl ?_
      refine z_iload_n B0 dL_law_552 rfl rfl ?_
      refine z_iconst (v := 1) B0 dL_law_553 (by decide) ?_
      refine z_iadd (v := 1) B0 dL_law_554 (by decide) ?_
      refine y_sld (j := 1) (v := 0) B0 hX hbl (by decide) e1.symm dL_law_555 ?_
      refine z_aload_n B0 dL_law_556 rfl rfl ?_
      refine z_iload_n B0 dL_law_557 rfl rfl ?_
      refine z_iconst (v := 2) B0 dL_law_558 (by decide) ?_
      refine z_iadd (v := 2) B0 dL_law_559 (by decide) ?_
      refine y_sld (j := 2) (v := x2) B0 hX hbl (by decide) e2.symm dL_law_560 ?_
      refine z_callC B0 (z_runV (q0 := 0) (As := [.int 0, .int x2]) (st := []) B0 (c_X11_put_4 (a := a) (cS0 w) x2 rfl hrw ⟨by omega, by omega⟩) cf_X11_put (cw_0 cy tE a rw (cS0 w)) rfl wm_L_69 wi_X11_put ws_X11_put dL_law_561 rfl (Nat.le_of_ble_eq_true rfl) ⟨by decide, by decide, by decide, by decide⟩) (fun r1 u1 p1 => ?_)
      obtain ⟨rfl, -⟩ := p1
      refine z_aload_n B0 dL_law_564 rfl rfl ?_
      refine z_aload_n B0 dL_law_565 rfl rfl ?_
      refine z_iload_n B0 dL_law_566 rfl rfl ?_
      refine z_iconst (v := 1) B0 dL_law_567 (by decide) ?_
      refine z_iadd (v := 1) B0 dL_law_568 (by decide) ?_
      refine y_sld (j := 1) (v := 0) B0 hX hbl (by decide) e1.symm dL_law_569 ?_
      refine z_aload_n B0 dL_law_570 rfl rfl ?_
      refine z_iload_n B0 dL_law_571 rfl rfl ?_
      refine z_iconst (v := 2) B0 dL_law_572 (by decide) ?_
      refine z_iadd (v := 2) B0 dL_law_573 (by decide) ?_
      refine y_sld (j := 2) (v := x2) B0 hX hbl (by decide) e2.symm dL_law_574 ?_
      refine z_callM B0 (z_runV (q0 := 0) (As := [.int 0, .int x2]) (st := [.int 1]) B0 (c_X12_put_4 (a := a2) mS0 x2 rfl ⟨by omega, by omega⟩) cf_X12_put (mw_0 cy a2 mS0) rfl wm_L_72 wi_X12_put ws_X12_put dL_law_575 rfl (Nat.le_of_ble_eq_true rfl) ⟨by decide, by decide, by decide, by decide⟩) (fun r2 u2 p2 => ?_)
      obtain ⟨rfl, -⟩ := p2
      refine z_icmp_eq_t (tgt := 1091) B0 dL_law_578 (by decide) rfl ?_
      exact fin u1 u2
    · refine z_aload_n B0 dL_law_550 rfl rfl ?_
      refine z_aload_n B0 dL_law_551 rfl rfl ?_
      refine z_iload_n B0 dL_law_552 rfl rfl ?_
      refine z_iconst (v := 1) B0 dL_law_553 (by decide) ?_
      refine z_iadd (v := 1) B0 dL_law_554 (by decide) ?_
      refine y_sld (j := 1) (v := 0) B0 hX hbl (by decide) e1.symm dL_law_555 ?_
      refine z_aload_n B0 dL_law_556 rfl rfl ?_
      refine z_iload_n B0 dL_law_557 rfl rfl ?_
      refine z_iconst (v := 2) B0 dL_law_558 (by decide) ?_
      refine z_iadd (v := 2) B0 dL_law_559 (by decide) ?_
      refine y_sld (j := 2) (v := x2) B0 hX hbl (by decide) e2.symm dL_law_560 ?_
      refine z_callC B0 (z_runV (q0 := 0) (As := [.int 0, .int x2]) (st := []) B0 (c_X11_put_5 (a := a) (cS0 w) x2 ⟨by omega, by omega⟩) cf_X11_put (cw_0 cy tE a rw (cS0 w)) rfl wm_L_69 wi_X11_put ws_X11_put dL_law_561 rfl (Nat.le_of_ble_eq_true rfl) ⟨by decide, by decide, by decide, by decide⟩) (fun r1 u1 p1 => ?_)
      obtain ⟨rfl, -⟩ := p1
      refine z_aload_n B0 dL_law_564 rfl rfl ?_
      refine z_aload_n B0 dL_law_565 rfl rfl ?_
      refine z_iload_n B0 dL_law_566 rfl rfl ?_
      refine z_iconst (v := 1) B0 dL_law_567 (by decide) ?_
      refine z_iadd (v := 1) B0 dL_law_568 (by decide) ?_
      refine y_sld (j := 1) (v := 0) B0 hX hbl (by decide) e1.symm dL_law_569 ?_
      refine z_aload_n B0 dL_law_570 rfl rfl ?_
      refine z_iload_n B0 dL_law_571 rfl rfl ?_
      refine z_iconst (v := 2) B0 dL_law_572 (by decide) ?_
      refine z_iadd (v := 2) B0 dL_law_573 (by decide) ?_
      refine y_sld (j := 2) (v := x2) B0 hX hbl (by decide) e2.symm dL_law_574 ?_
      refine z_callM B0 (z_runV (q0 := 0) (As := [.int 0, .int x2]) (st := [.int (-1)]) B0 (c_X12_put_5 (a := a2) mS0 x2 ⟨by omega, by omega⟩) cf_X12_put (mw_0 cy a2 mS0) rfl wm_L_72 wi_X12_put ws_X12_put dL_law_575 rfl (Nat.le_of_ble_eq_true rfl) ⟨by decide, by decide, by decide, by decide⟩) (fun r2 u2 p2 => ?_)
      obtain ⟨rfl, -⟩ := p2
      refine z_icmp_eq_t (tgt := 1091) B0 dL_law_578 (by decide) rfl ?_
      exact fin u1 u2
  · obtain rfl : x1 = 1 := Int32.toInt_inj.mp (h1.trans (by decide))
    rcases (show ((-2147483648) ≤ x2.toInt ∧ x2.toInt ≤ (-1)) ∨ (0 ≤ x2.toInt ∧ x2.toInt ≤ 767) ∨ (768 ≤ x2.toInt ∧ x2.toInt ≤ 2147483647) by have g1 := Int32.le_toInt x2; have g2 := Int32.toInt_lt x2; omega) with h2 | h2 | h2
    · refine z_aload_n B0 dL_law_550 rfl rfl ?_
      refine z_aload_n B0 dL_law_551 rfl rfl ?_
      refine z_iload_n B0 dL_law_552 rfl rfl ?_
      refine z_iconst (v := 1) B0 dL_law_553 (by decide) ?_
      refine z_iadd (v := 1) B0 dL_law_554 (by decide) ?_
      refine y_sld (j := 1) (v := 1) B0 hX hbl (by decide) e1.symm dL_law_555 ?_
      refine z_aload_n B0 dL_law_556 rfl rfl ?_
      refine z_iload_n B0 dL_law_557 rfl rfl ?_
      refine z_iconst (v := 2) B0 dL_law_558 (by decide) ?_
      refine z_iadd (v := 2) B0 dL_law_559 (by decide) ?_
      refine y_sld (j := 2) (v := x2) B0 hX hbl (by decide) e2.symm dL_law_560 ?_
      refine z_callC B0 (z_runV (q0 := 0) (As := [.int 1, .int x2]) (st := []) B0 (c_X11_put_6 (a := a) (cS0 w) x2 ⟨by omega, by omega⟩) cf_X11_put (cw_0 cy tE a rw (cS0 w)) rfl wm_L_69 wi_X11_put ws_X11_put dL_law_561 rfl (Nat.le_of_ble_eq_true rfl) ⟨by decide, by decide, by decide, by decide⟩) (fun r1 u1 p1 => ?_)
      obtain ⟨rfl, -⟩ := p1
      refine z_aload_n B0 dL_law_564 rfl rfl ?_
      refine z_aload_n B0 dL_law_565 rfl rfl ?_
      refine z_iload_n B0 dL_law_566 rfl rfl ?_
      refine z_iconst (v := 1) B0 dL_law_567 (by decide) ?_
      refine z_iadd (v := 1) B0 dL_law_568 (by decide) ?_
      refine y_sld (j := 1) (v := 1) B0 hX hbl (by decide) e1.symm dL_law_569 ?_
      refine z_aload_n B0 dL_law_570 rfl rfl ?_
      refine z_iload_n B0 dL_law_571 rfl rfl ?_
      refine z_iconst (v := 2) B0 dL_law_572 (by decide) ?_
      refine z_iadd (v := 2) B0 dL_law_573 (by decide) ?_
      refine y_sld (j := 2) (v := x2) B0 hX hbl (by decide) e2.symm dL_law_574 ?_
      refine z_callM B0 (z_runV (q0 := 0) (As := [.int 1, .int x2]) (st := [.int (-1)]) B0 (c_X12_put_6 (a := a2) mS0 x2 ⟨by omega, by omega⟩) cf_X12_put (mw_0 cy a2 mS0) rfl wm_L_72 wi_X12_put ws_X12_put dL_law_575 rfl (Nat.le_of_ble_eq_true rfl) ⟨by decide, by decide, by decide, by decide⟩) (fun r2 u2 p2 => ?_)
      obtain ⟨rfl, -⟩ := p2
      refine z_icmp_eq_t (tgt := 1091) B0 dL_law_578 (by decide) rfl ?_
      exact fin u1 u2
    · refine z_aload_n B0 dL_law_550 rfl rfl ?_
      refine z_aload_n B0 dL_law_551 rfl rfl ?_
      refine z_iload_n B0 dL_law_552 rfl rfl ?_
      refine z_iconst (v := 1) B0 dL_law_553 (by decide) ?_
      refine z_iadd (v := 1) B0 dL_law_554 (by decide) ?_
      refine y_sld (j := 1) (v := 1) B0 hX hbl (by decide) e1.symm dL_law_555 ?_
      refine z_aload_n B0 dL_law_556 rfl rfl ?_
      refine z_iload_n B0 dL_law_557 rfl rfl ?_
      refine z_iconst (v := 2) B0 dL_law_558 (by decide) ?_
      refine z_iadd (v := 2) B0 dL_law_559 (by decide) ?_
      refine y_sld (j := 2) (v := x2) B0 hX hbl (by decide) e2.symm dL_law_560 ?_
      refine z_callC B0 (z_runV (q0 := 0) (As := [.int 1, .int x2]) (st := []) B0 (c_X11_put_7 (a := a) (cS0 w) x2 rfl hrw ⟨by omega, by omega⟩) cf_X11_put (cw_0 cy tE a rw (cS0 w)) rfl wm_L_69 wi_X11_put ws_X11_put dL_law_561 rfl (Nat.le_of_ble_eq_true rfl) ⟨by decide, by decide, by decide, by decide⟩) (fun r1 u1 p1 => ?_)
      obtain ⟨rfl, -⟩ := p1
      refine z_aload_n B0 dL_law_564 rfl rfl ?_
      refine z_aload_n B0 dL_law_565 rfl rfl ?_
      refine z_iload_n B0 dL_law_566 rfl rfl ?_
      refine z_iconst (v := 1) B0 dL_law_567 (by decide) ?_
      refine z_iadd (v := 1) B0 dL_law_568 (by decide) ?_
      refine y_sld (j := 1) (v := 1) B0 hX hbl (by decide) e1.symm dL_law_569 ?_
      refine z_aload_n B0 dL_law_570 rfl rfl ?_
      refine z_iload_n B0 dL_law_571 rfl rfl ?_
      refine z_iconst (v := 2) B0 dL_law_572 (by decide) ?_
      refine z_iadd (v := 2) B0 dL_law_573 (by decide) ?_
      refine y_sld (j := 2) (v := x2) B0 hX hbl (by decide) e2.symm dL_law_574 ?_
      refine z_callM B0 (z_runV (q0 := 0) (As := [.int 1, .int x2]) (st := [.int 1]) B0 (c_X12_put_7 (a := a2) mS0 x2 rfl ⟨by omega, by omega⟩) cf_X12_put (mw_0 cy a2 mS0) rfl wm_L_72 wi_X12_put ws_X12_put dL_law_575 rfl (Nat.le_of_ble_eq_true rfl) ⟨by decide, by decide, by decide, by decide⟩) (fun r2 u2 p2 => ?_)
      obtain ⟨rfl, -⟩ := p2
      refine z_icmp_eq_t (tgt := 1091) B0 dL_law_578 (by decide) rfl ?_
      exact fin u1 u2
    · refine z_aload_n B0 dL_law_550 rfl rfl ?_
      refine z_aload_n B0 dL_law_551 rfl rfl ?_
      refine z_iload_n B0 dL_law_552 rfl rfl ?_
      refine z_iconst (v := 1) B0 dL_law_553 (by decide) ?_
      refine z_iadd (v := 1) B0 dL_law_554 (by decide) ?_
      refine y_sld (j := 1) (v := 1) B0 hX hbl (by decide) e1.symm dL_law_555 ?_
      refine z_aload_n B0 dL_law_556 rfl rfl ?_
      refine z_iload_n B0 dL_law_557 rfl rfl ?_
      refine z_iconst (v := 2) B0 dL_law_558 (by decide) ?_
      refine z_iadd (v := 2) B0 dL_law_559 (by decide) ?_
      refine y_sld (j := 2) (v := x2) B0 hX hbl (by decide) e2.symm dL_law_560 ?_
      refine z_callC B0 (z_runV (q0 := 0) (As := [.int 1, .int x2]) (st := []) B0 (c_X11_put_8 (a := a) (cS0 w) x2 ⟨by omega, by omega⟩) cf_X11_put (cw_0 cy tE a rw (cS0 w)) rfl wm_L_69 wi_X11_put ws_X11_put dL_law_561 rfl (Nat.le_of_ble_eq_true rfl) ⟨by decide, by decide, by decide, by decide⟩) (fun r1 u1 p1 => ?_)
      obtain ⟨rfl, -⟩ := p1
      refine z_aload_n B0 dL_law_564 rfl rfl ?_
      refine z_aload_n B0 dL_law_565 rfl rfl ?_
      refine z_iload_n B0 dL_law_566 rfl rfl ?_
      refine z_iconst (v := 1) B0 dL_law_567 (by decide) ?_
      refine z_iadd (v := 1) B0 dL_law_568 (by decide) ?_
      refine y_sld (j := 1) (v := 1) B0 hX hbl (by decide) e1.symm dL_law_569 ?_
      refine z_aload_n B0 dL_law_570 rfl rfl ?_
      refine z_iload_n B0 dL_law_571 rfl rfl ?_
      refine z_iconst (v := 2) B0 dL_law_572 (by decide) ?_
      refine z_iadd (v := 2) B0 dL_law_573 (by decide) ?_
      refine y_sld (j := 2) (v := x2) B0 hX hbl (by decide) e2.symm dL_law_574 ?_
      refine z_callM B0 (z_runV (q0 := 0) (As := [.int 1, .int x2]) (st := [.int (-1)]) B0 (c_X12_put_8 (a := a2) mS0 x2 ⟨by omega, by omega⟩) cf_X12_put (mw_0 cy a2 mS0) rfl wm_L_72 wi_X12_put ws_X12_put dL_law_575 rfl (Nat.le_of_ble_eq_true rfl) ⟨by decide, by decide, by decide, by decide⟩) (fun r2 u2 p2 => ?_)
      obtain ⟨rfl, -⟩ := p2
      refine z_icmp_eq_t (tgt := 1091) B0 dL_law_578 (by decide) rfl ?_
      exact fin u1 u2
  · obtain rfl : x1 = 2 := Int32.toInt_inj.mp (h1.trans (by decide))
    rcases (show ((-2147483648) ≤ x2.toInt ∧ x2.toInt ≤ (-1)) ∨ (0 ≤ x2.toInt ∧ x2.toInt ≤ 767) ∨ (768 ≤ x2.toInt ∧ x2.toInt ≤ 2147483647) by have g1 := Int32.le_toInt x2; have g2 := Int32.toInt_lt x2; omega) with h2 | h2 | h2
    · refine z_aload_n B0 dL_law_550 rfl rfl ?_
      refine z_aload_n B0 dL_law_551 rfl rfl ?_
      refine z_iload_n B0 dL_law_552 rfl rfl ?_
      refine z_iconst (v := 1) B0 dL_law_553 (by decide) ?_
      refine z_iadd (v := 1) B0 dL_law_554 (by decide) ?_
      refine y_sld (j := 1) (v := 2) B0 hX hbl (by decide) e1.symm dL_law_555 ?_
      refine z_aload_n B0 dL_law_556 rfl rfl ?_
      refine z_iload_n B0 dL_law_557 rfl rfl ?_
      refine z_iconst (v := 2) B0 dL_law_558 (by decide) ?_
      refine z_iadd (v := 2) B0 dL_law_559 (by decide) ?_
      refine y_sld (j := 2) (v := x2) B0 hX hbl (by decide) e2.symm dL_law_560 ?_
      refine z_callC B0 (z_runV (q0 := 0) (As := [.int 2, .int x2]) (st := []) B0 (c_X11_put_9 (a := a) (cS0 w) x2 ⟨by omega, by omega⟩) cf_X11_put (cw_0 cy tE a rw (cS0 w)) rfl wm_L_69 wi_X11_put ws_X11_put dL_law_561 rfl (Nat.le_of_ble_eq_true rfl) ⟨by decide, by decide, by decide, by decide⟩) (fun r1 u1 p1 => ?_)
      obtain ⟨rfl, -⟩ := p1
      refine z_aload_n B0 dL_law_564 rfl rfl ?_
      refine z_aload_n B0 dL_law_565 rfl rfl ?_
      refine z_iload_n B0 dL_law_566 rfl rfl ?_
      refine z_iconst (v := 1) B0 dL_law_567 (by decide) ?_
      refine z_iadd (v := 1) B0 dL_law_568 (by decide) ?_
      refine y_sld (j := 1) (v := 2) B0 hX hbl (by decide) e1.symm dL_law_569 ?_
      refine z_aload_n B0 dL_law_570 rfl rfl ?_
      refine z_iload_n B0 dL_law_571 rfl rfl ?_
      refine z_iconst (v := 2) B0 dL_law_572 (by decide) ?_
      refine z_iadd (v := 2) B0 dL_law_573 (by decide) ?_
      refine y_sld (j := 2) (v := x2) B0 hX hbl (by decide) e2.symm dL_law_574 ?_
      refine z_callM B0 (z_runV (q0 := 0) (As := [.int 2, .int x2]) (st := [.int (-1)]) B0 (c_X12_put_9 (a := a2) mS0 x2 ⟨by omega, by omega⟩) cf_X12_put (mw_0 cy a2 mS0) rfl wm_L_72 wi_X12_put ws_X12_put dL_law_575 rfl (Nat.le_of_ble_eq_true rfl) ⟨by decide, by decide, by decide, by decide⟩) (fun r2 u2 p2 => ?_)
      obtain ⟨rfl, -⟩ := p2
      refine z_icmp_eq_t (tgt := 1091) B0 dL_law_578 (by decide) rfl ?_
      exact fin u1 u2
    · refine z_aload_n B0 dL_law_550 rfl rfl ?_
      refine z_aload_n B0 dL_law_551 rfl rfl ?_
      refine z_iload_n B0 dL_law_552 rfl rfl ?_
      refine z_iconst (v := 1) B0 dL_law_553 (by decide) ?_
      refine z_iadd (v := 1) B0 dL_law_554 (by decide) ?_
      refine y_sld (j := 1) (v := 2) B0 hX hbl (by decide) e1.symm dL_law_555 ?_
      refine z_aload_n B0 dL_law_556 rfl rfl ?_
      refine z_iload_n B0 dL_law_557 rfl rfl ?_
      refine z_iconst (v := 2) B0 dL_law_558 (by decide) ?_
      refine z_iadd (v := 2) B0 dL_law_559 (by decide) ?_
      refine y_sld (j := 2) (v := x2) B0 hX hbl (by decide) e2.symm dL_law_560 ?_
      refine z_callC B0 (z_runV (q0 := 0) (As := [.int 2, .int x2]) (st := []) B0 (c_X11_put_10 (a := a) (cS0 w) x2 rfl hrw ⟨by omega, by omega⟩) cf_X11_put (cw_0 cy tE a rw (cS0 w)) rfl wm_L_69 wi_X11_put ws_X11_put dL_law_561 rfl (Nat.le_of_ble_eq_true rfl) ⟨by decide, by decide, by decide, by decide⟩) (fun r1 u1 p1 => ?_)
      obtain ⟨rfl, -⟩ := p1
      refine z_aload_n B0 dL_law_564 rfl rfl ?_
      refine z_aload_n B0 dL_law_565 rfl rfl ?_
      refine z_iload_n B0 dL_law_566 rfl rfl ?_
      refine z_iconst (v := 1) B0 dL_law_567 (by decide) ?_
      refine z_iadd (v := 1) B0 dL_law_568 (by decide) ?_
      refine y_sld (j := 1) (v := 2) B0 hX hbl (by decide) e1.symm dL_law_569 ?_
      refine z_aload_n B0 dL_law_570 rfl rfl ?_
      refine z_iload_n B0 dL_law_571 rfl rfl ?_
      refine z_iconst (v := 2) B0 dL_law_572 (by decide) ?_
      refine z_iadd (v := 2) B0 dL_law_573 (by decide) ?_
      refine y_sld (j := 2) (v := x2) B0 hX hbl (by decide) e2.symm dL_law_574 ?_
      refine z_callM B0 (z_runV (q0 := 0) (As := [.int 2, .int x2]) (st := [.int 1]) B0 (c_X12_put_10 (a := a2) mS0 x2 rfl ⟨by omega, by omega⟩) cf_X12_put (mw_0 cy a2 mS0) rfl wm_L_72 wi_X12_put ws_X12_put dL_law_575 rfl (Nat.le_of_ble_eq_true rfl) ⟨by decide, by decide, by decide, by decide⟩) (fun r2 u2 p2 => ?_)
      obtain ⟨rfl, -⟩ := p2
      refine z_icmp_eq_t (tgt := 1091) B0 dL_law_578 (by decide) rfl ?_
      exact fin u1 u2
    · refine z_aload_n B0 dL_law_550 rfl rfl ?_
      refine z_aload_n B0 dL_law_551 rfl rfl ?_
      refine z_iload_n B0 dL_law_552 rfl rfl ?_
      refine z_iconst (v := 1) B0 dL_law_553 (by decide) ?_
      refine z_iadd (v := 1) B0 dL_law_554 (by decide) ?_
      refine y_sld (j := 1) (v := 2) B0 hX hbl (by decide) e1.symm dL_law_555 ?_
      refine z_aload_n B0 dL_law_556 rfl rfl ?_
      refine z_iload_n B0 dL_law_557 rfl rfl ?_
      refine z_iconst (v := 2) B0 dL_law_558 (by decide) ?_
      refine z_iadd (v := 2) B0 dL_law_559 (by decide) ?_
      refine y_sld (j := 2) (v := x2) B0 hX hbl (by decide) e2.symm dL_law_560 ?_
      refine z_callC B0 (z_runV (q0 := 0) (As := [.int 2, .int x2]) (st := []) B0 (c_X11_put_11 (a := a) (cS0 w) x2 ⟨by omega, by omega⟩) cf_X11_put (cw_0 cy tE a rw (cS0 w)) rfl wm_L_69 wi_X11_put ws_X11_put dL_law_561 rfl (Nat.le_of_ble_eq_true rfl) ⟨by decide, by decide, by decide, by decide⟩) (fun r1 u1 p1 => ?_)
      obtain ⟨rfl, -⟩ := p1
      refine z_aload_n B0 dL_law_564 rfl rfl ?_
      refine z_aload_n B0 dL_law_565 rfl rfl ?_
      refine z_iload_n B0 dL_law_566 rfl rfl ?_
      refine z_iconst (v := 1) B0 dL_law_567 (by decide) ?_
      refine z_iadd (v := 1) B0 dL_law_568 (by decide) ?_
      refine y_sld (j := 1) (v := 2) B0 hX hbl (by decide) e1.symm dL_law_569 ?_
      refine z_aload_n B0 dL_law_570 rfl rfl ?_
      refine z_iload_n B0 dL_law_571 rfl rfl ?_
      refine z_iconst (v := 2) B0 dL_law_572 (by decide) ?_
      refine z_iadd (v := 2) B0 dL_law_573 (by decide) ?_
      refine y_sld (j := 2) (v := x2) B0 hX hbl (by decide) e2.symm dL_law_574 ?_
      refine z_callM B0 (z_runV (q0 := 0) (As := [.int 2, .int x2]) (st := [.int (-1)]) B0 (c_X12_put_11 (a := a2) mS0 x2 ⟨by omega, by omega⟩) cf_X12_put (mw_0 cy a2 mS0) rfl wm_L_72 wi_X12_put ws_X12_put dL_law_575 rfl (Nat.le_of_ble_eq_true rfl) ⟨by decide, by decide, by decide, by decide⟩) (fun r2 u2 p2 => ?_)
      obtain ⟨rfl, -⟩ := p2
      refine z_icmp_eq_t (tgt := 1091) B0 dL_law_578 (by decide) rfl ?_
      exact fin u1 u2
  · obtain rfl : x1 = 3 := Int32.toInt_inj.mp (h1.trans (by decide))
    rcases (show ((-2147483648) ≤ x2.toInt ∧ x2.toInt ≤ (-1)) ∨ (0 ≤ x2.toInt ∧ x2.toInt ≤ 767) ∨ (768 ≤ x2.toInt ∧ x2.toInt ≤ 2147483647) by have g1 := Int32.le_toInt x2; have g2 := Int32.toInt_lt x2; omega) with h2 | h2 | h2
    · refine z_aload_n B0 dL_law_550 rfl rfl ?_
      refine z_aload_n B0 dL_law_551 rfl rfl ?_
      refine z_iload_n B0 dL_law_552 rfl rfl ?_
      refine z_iconst (v := 1) B0 dL_law_553 (by decide) ?_
      refine z_iadd (v := 1) B0 dL_law_554 (by decide) ?_
      refine y_sld (j := 1) (v := 3) B0 hX hbl (by decide) e1.symm dL_law_555 ?_
      refine z_aload_n B0 dL_law_556 rfl rfl ?_
      refine z_iload_n B0 dL_law_557 rfl rfl ?_
      refine z_iconst (v := 2) B0 dL_law_558 (by decide) ?_
      refine z_iadd (v := 2) B0 dL_law_559 (by decide) ?_
      refine y_sld (j := 2) (v := x2) B0 hX hbl (by decide) e2.symm dL_law_560 ?_
      refine z_callC B0 (z_runV (q0 := 0) (As := [.int 3, .int x2]) (st := []) B0 (c_X11_put_12 (a := a) (cS0 w) x2 ⟨by omega, by omega⟩) cf_X11_put (cw_0 cy tE a rw (cS0 w)) rfl wm_L_69 wi_X11_put ws_X11_put dL_law_561 rfl (Nat.le_of_ble_eq_true rfl) ⟨by decide, by decide, by decide, by decide⟩) (fun r1 u1 p1 => ?_)
      obtain ⟨rfl, -⟩ := p1
      refine z_aload_n B0 dL_law_564 rfl rfl ?_
      refine z_aload_n B0 dL_law_565 rfl rfl ?_
      refine z_iload_n B0 dL_law_566 rfl rfl ?_
      refine z_iconst (v := 1) B0 dL_law_567 (by decide) ?_
      refine z_iadd (v := 1) B0 dL_law_568 (by decide) ?_
      refine y_sld (j := 1) (v := 3) B0 hX hbl (by decide) e1.symm dL_law_569 ?_
      refine z_aload_n B0 dL_law_570 rfl rfl ?_
      refine z_iload_n B0 dL_law_571 rfl rfl ?_
      refine z_iconst (v := 2) B0 dL_law_572 (by decide) ?_
      refine z_iadd (v := 2) B0 dL_law_573 (by decide) ?_
      refine y_sld (j := 2) (v := x2) B0 hX hbl (by decide) e2.symm dL_law_574 ?_
      refine z_callM B0 (z_runV (q0 := 0) (As := [.int 3, .int x2]) (st := [.int (-1)]) B0 (c_X12_put_12 (a := a2) mS0 x2 ⟨by omega, by omega⟩) cf_X12_put (mw_0 cy a2 mS0) rfl wm_L_72 wi_X12_put ws_X12_put dL_law_575 rfl (Nat.le_of_ble_eq_true rfl) ⟨by decide, by decide, by decide, by decide⟩) (fun r2 u2 p2 => ?_)
      obtain ⟨rfl, -⟩ := p2
      refine z_icmp_eq_t (tgt := 1091) B0 dL_law_578 (by decide) rfl ?_
      exact fin u1 u2
    · refine z_aload_n B0 dL_law_550 rfl rfl ?_
      refine z_aload_n B0 dL_law_551 rfl rfl ?_
      refine z_iload_n B0 dL_law_552 rfl rfl ?_
      refine z_iconst (v := 1) B0 dL_law_553 (by decide) ?_
      refine z_iadd (v := 1) B0 dL_law_554 (by decide) ?_
      refine y_sld (j := 1) (v := 3) B0 hX hbl (by decide) e1.symm dL_law_555 ?_
      refine z_aload_n B0 dL_law_556 rfl rfl ?_
      refine z_iload_n B0 dL_law_557 rfl rfl ?_
      refine z_iconst (v := 2) B0 dL_law_558 (by decide) ?_
      refine z_iadd (v := 2) B0 dL_law_559 (by decide) ?_
      refine y_sld (j := 2) (v := x2) B0 hX hbl (by decide) e2.symm dL_law_560 ?_
      refine z_callC B0 (z_runV (q0 := 0) (As := [.int 3, .int x2]) (st := []) B0 (c_X11_put_13 (a := a) (cS0 w) x2 rfl hrw ⟨by omega, by omega⟩) cf_X11_put (cw_0 cy tE a rw (cS0 w)) rfl wm_L_69 wi_X11_put ws_X11_put dL_law_561 rfl (Nat.le_of_ble_eq_true rfl) ⟨by decide, by decide, by decide, by decide⟩) (fun r1 u1 p1 => ?_)
      obtain ⟨rfl, -⟩ := p1
      refine z_aload_n B0 dL_law_564 rfl rfl ?_
      refine z_aload_n B0 dL_law_565 rfl rfl ?_
      refine z_iload_n B0 dL_law_566 rfl rfl ?_
      refine z_iconst (v := 1) B0 dL_law_567 (by decide) ?_
      refine z_iadd (v := 1) B0 dL_law_568 (by decide) ?_
      refine y_sld (j := 1) (v := 3) B0 hX hbl (by decide) e1.symm dL_law_569 ?_
      refine z_aload_n B0 dL_law_570 rfl rfl ?_
      refine z_iload_n B0 dL_law_571 rfl rfl ?_
      refine z_iconst (v := 2) B0 dL_law_572 (by decide) ?_
      refine z_iadd (v := 2) B0 dL_law_573 (by decide) ?_
      refine y_sld (j := 2) (v := x2) B0 hX hbl (by decide) e2.symm dL_law_574 ?_
      refine z_callM B0 (z_runV (q0 := 0) (As := [.int 3, .int x2]) (st := [.int 1]) B0 (c_X12_put_13 (a := a2) mS0 x2 rfl ⟨by omega, by omega⟩) cf_X12_put (mw_0 cy a2 mS0) rfl wm_L_72 wi_X12_put ws_X12_put dL_law_575 rfl (Nat.le_of_ble_eq_true rfl) ⟨by decide, by decide, by decide, by decide⟩) (fun r2 u2 p2 => ?_)
      obtain ⟨rfl, -⟩ := p2
      refine z_icmp_eq_t (tgt := 1091) B0 dL_law_578 (by decide) rfl ?_
      exact fin u1 u2
    · refine z_aload_n B0 dL_law_550 rfl rfl ?_
      refine z_aload_n B0 dL_law_551 rfl rfl ?_
      refine z_iload_n B0 dL_law_552 rfl rfl ?_
      refine z_iconst (v := 1) B0 dL_law_553 (by decide) ?_
      refine z_iadd (v := 1) B0 dL_law_554 (by decide) ?_
      refine y_sld (j := 1) (v := 3) B0 hX hbl (by decide) e1.symm dL_law_555 ?_
      refine z_aload_n B0 dL_law_556 rfl rfl ?_
      refine z_iload_n B0 dL_law_557 rfl rfl ?_
      refine z_iconst (v := 2) B0 dL_law_558 (by decide) ?_
      refine z_iadd (v := 2) B0 dL_law_559 (by decide) ?_
      refine y_sld (j := 2) (v := x2) B0 hX hbl (by decide) e2.symm dL_law_560 ?_
      refine z_callC B0 (z_runV (q0 := 0) (As := [.int 3, .int x2]) (st := []) B0 (c_X11_put_14 (a := a) (cS0 w) x2 ⟨by omega, by omega⟩) cf_X11_put (cw_0 cy tE a rw (cS0 w)) rfl wm_L_69 wi_X11_put ws_X11_put dL_law_561 rfl (Nat.le_of_ble_eq_true rfl) ⟨by decide, by decide, by decide, by decide⟩) (fun r1 u1 p1 => ?_)
      obtain ⟨rfl, -⟩ := p1
      refine z_aload_n B0 dL_law_564 rfl rfl ?_
      refine z_aload_n B0 dL_law_565 rfl rfl ?_
      refine z_iload_n B0 dL_law_566 rfl rfl ?_
      refine z_iconst (v := 1) B0 dL_law_567 (by decide) ?_
      refine z_iadd (v := 1) B0 dL_law_568 (by decide) ?_
      refine y_sld (j := 1) (v := 3) B0 hX hbl (by decide) e1.symm dL_law_569 ?_
      refine z_aload_n B0 dL_law_570 rfl rfl ?_
      refine z_iload_n B0 dL_law_571 rfl rfl ?_
      refine z_iconst (v := 2) B0 dL_law_572 (by decide) ?_
      refine z_iadd (v := 2) B0 dL_law_573 (by decide) ?_
      refine y_sld (j := 2) (v := x2) B0 hX hbl (by decide) e2.symm dL_law_574 ?_
      refine z_callM B0 (z_runV (q0 := 0) (As := [.int 3, .int x2]) (st := [.int (-1)]) B0 (c_X12_put_14 (a := a2) mS0 x2 ⟨by omega, by omega⟩) cf_X12_put (mw_0 cy a2 mS0) rfl wm_L_72 wi_X12_put ws_X12_put dL_law_575 rfl (Nat.le_of_ble_eq_true rfl) ⟨by decide, by decide, by decide, by decide⟩) (fun r2 u2 p2 => ?_)
      obtain ⟨rfl, -⟩ := p2
      refine z_icmp_eq_t (tgt := 1091) B0 dL_law_578 (by decide) rfl ?_
      exact fin u1 u2
  · obtain rfl : x1 = 4 := Int32.toInt_inj.mp (h1.trans (by decide))
    rcases (show ((-2147483648) ≤ x2.toInt ∧ x2.toInt ≤ (-1)) ∨ (0 ≤ x2.toInt ∧ x2.toInt ≤ 767) ∨ (768 ≤ x2.toInt ∧ x2.toInt ≤ 2147483647) by have g1 := Int32.le_toInt x2; have g2 := Int32.toInt_lt x2; omega) with h2 | h2 | h2
    · refine z_aload_n B0 dL_law_550 rfl rfl ?_
      refine z_aload_n B0 dL_law_551 rfl rfl ?_
      refine z_iload_n B0 dL_law_552 rfl rfl ?_
      refine z_iconst (v := 1) B0 dL_law_553 (by decide) ?_
      refine z_iadd (v := 1) B0 dL_law_554 (by decide) ?_
      refine y_sld (j := 1) (v := 4) B0 hX hbl (by decide) e1.symm dL_law_555 ?_
      refine z_aload_n B0 dL_law_556 rfl rfl ?_
      refine z_iload_n B0 dL_law_557 rfl rfl ?_
      refine z_iconst (v := 2) B0 dL_law_558 (by decide) ?_
      refine z_iadd (v := 2) B0 dL_law_559 (by decide) ?_
      refine y_sld (j := 2) (v := x2) B0 hX hbl (by decide) e2.symm dL_law_560 ?_
      refine z_callC B0 (z_runV (q0 := 0) (As := [.int 4, .int x2]) (st := []) B0 (c_X11_put_15 (a := a) (cS0 w) x2 ⟨by omega, by omega⟩) cf_X11_put (cw_0 cy tE a rw (cS0 w)) rfl wm_L_69 wi_X11_put ws_X11_put dL_law_561 rfl (Nat.le_of_ble_eq_true rfl) ⟨by decide, by decide, by decide, by decide⟩) (fun r1 u1 p1 => ?_)
      obtain ⟨rfl, -⟩ := p1
      refine z_aload_n B0 dL_law_564 rfl rfl ?_
      refine z_aload_n B0 dL_law_565 rfl rfl ?_
      refine z_iload_n B0 dL_law_566 rfl rfl ?_
      refine z_iconst (v := 1) B0 dL_law_567 (by decide) ?_
      refine z_iadd (v := 1) B0 dL_law_568 (by decide) ?_
      refine y_sld (j := 1) (v := 4) B0 hX hbl (by decide) e1.symm dL_law_569 ?_
      refine z_aload_n B0 dL_law_570 rfl rfl ?_
      refine z_iload_n B0 dL_law_571 rfl rfl ?_
      refine z_iconst (v := 2) B0 dL_law_572 (by decide) ?_
      refine z_iadd (v := 2) B0 dL_law_573 (by decide) ?_
      refine y_sld (j := 2) (v := x2) B0 hX hbl (by decide) e2.symm dL_law_574 ?_
      refine z_callM B0 (z_runV (q0 := 0) (As := [.int 4, .int x2]) (st := [.int (-1)]) B0 (c_X12_put_15 (a := a2) mS0 x2 ⟨by omega, by omega⟩) cf_X12_put (mw_0 cy a2 mS0) rfl wm_L_72 wi_X12_put ws_X12_put dL_law_575 rfl (Nat.le_of_ble_eq_true rfl) ⟨by decide, by decide, by decide, by decide⟩) (fun r2 u2 p2 => ?_)
      obtain ⟨rfl, -⟩ := p2
      refine z_icmp_eq_t (tgt := 1091) B0 dL_law_578 (by decide) rfl ?_
      exact fin u1 u2
    · refine z_aload_n B0 dL_law_550 rfl rfl ?_
      refine z_aload_n B0 dL_law_551 rfl rfl ?_
      refine z_iload_n B0 dL_law_552 rfl rfl ?_
      refine z_iconst (v := 1) B0 dL_law_553 (by decide) ?_
      refine z_iadd (v := 1) B0 dL_law_554 (by decide) ?_
      refine y_sld (j := 1) (v := 4) B0 hX hbl (by decide) e1.symm dL_law_555 ?_
      refine z_aload_n B0 dL_law_556 rfl rfl ?_
      refine z_iload_n B0 dL_law_557 rfl rfl ?_
      refine z_iconst (v := 2) B0 dL_law_558 (by decide) ?_
      refine z_iadd (v := 2) B0 dL_law_559 (by decide) ?_
      refine y_sld (j := 2) (v := x2) B0 hX hbl (by decide) e2.symm dL_law_560 ?_
      refine z_callC B0 (z_runV (q0 := 0) (As := [.int 4, .int x2]) (st := []) B0 (c_X11_put_16 (a := a) (cS0 w) x2 rfl hrw ⟨by omega, by omega⟩) cf_X11_put (cw_0 cy tE a rw (cS0 w)) rfl wm_L_69 wi_X11_put ws_X11_put dL_law_561 rfl (Nat.le_of_ble_eq_true rfl) ⟨by decide, by decide, by decide, by decide⟩) (fun r1 u1 p1 => ?_)
      obtain ⟨rfl, -⟩ := p1
      refine z_aload_n B0 dL_law_564 rfl rfl ?_
      refine z_aload_n B0 dL_law_565 rfl rfl ?_
      refine z_iload_n B0 dL_law_566 rfl rfl ?_
      refine z_iconst (v := 1) B0 dL_law_567 (by decide) ?_
      refine z_iadd (v := 1) B0 dL_law_568 (by decide) ?_
      refine y_sld (j := 1) (v := 4) B0 hX hbl (by decide) e1.symm dL_law_569 ?_
      refine z_aload_n B0 dL_law_570 rfl rfl ?_
      refine z_iload_n B0 dL_law_571 rfl rfl ?_
      refine z_iconst (v := 2) B0 dL_law_572 (by decide) ?_
      refine z_iadd (v := 2) B0 dL_law_573 (by decide) ?_
      refine y_sld (j := 2) (v := x2) B0 hX hbl (by decide) e2.symm dL_law_574 ?_
      refine z_callM B0 (z_runV (q0 := 0) (As := [.int 4, .int x2]) (st := [.int 1]) B0 (c_X12_put_16 (a := a2) mS0 x2 rfl ⟨by omega, by omega⟩) cf_X12_put (mw_0 cy a2 mS0) rfl wm_L_72 wi_X12_put ws_X12_put dL_law_575 rfl (Nat.le_of_ble_eq_true rfl) ⟨by decide, by decide, by decide, by decide⟩) (fun r2 u2 p2 => ?_)
      obtain ⟨rfl, -⟩ := p2
      refine z_icmp_eq_t (tgt := 1091) B0 dL_law_578 (by decide) rfl ?_
      exact fin u1 u2
    · refine z_aload_n B0 dL_law_550 rfl rfl ?_
      refine z_aload_n B0 dL_law_551 rfl rfl ?_
      refine z_iload_n B0 dL_law_552 rfl rfl ?_
      refine z_iconst (v := 1) B0 dL_law_553 (by decide) ?_
      refine z_iadd (v := 1) B0 dL_law_554 (by decide) ?_
      refine y_sld (j := 1) (v := 4) B0 hX hbl (by decide) e1.symm dL_law_555 ?_
      refine z_aload_n B0 dL_law_556 rfl rfl ?_
      refine z_iload_n B0 dL_law_557 rfl rfl ?_
      refine z_iconst (v := 2) B0 dL_law_558 (by decide) ?_
      refine z_iadd (v := 2) B0 dL_law_559 (by decide) ?_
      refine y_sld (j := 2) (v := x2) B0 hX hbl (by decide) e2.symm dL_law_560 ?_
      refine z_callC B0 (z_runV (q0 := 0) (As := [.int 4, .int x2]) (st := []) B0 (c_X11_put_17 (a := a) (cS0 w) x2 ⟨by omega, by omega⟩) cf_X11_put (cw_0 cy tE a rw (cS0 w)) rfl wm_L_69 wi_X11_put ws_X11_put dL_law_561 rfl (Nat.le_of_ble_eq_true rfl) ⟨by decide, by decide, by decide, by decide⟩) (fun r1 u1 p1 => ?_)
      obtain ⟨rfl, -⟩ := p1
      refine z_aload_n B0 dL_law_564 rfl rfl ?_
      refine z_aload_n B0 dL_law_565 rfl rfl ?_
      refine z_iload_n B0 dL_law_566 rfl rfl ?_
      refine z_iconst (v := 1) B0 dL_law_567 (by decide) ?_
      refine z_iadd (v := 1) B0 dL_law_568 (by decide) ?_
      refine y_sld (j := 1) (v := 4) B0 hX hbl (by decide) e1.symm dL_law_569 ?_
      refine z_aload_n B0 dL_law_570 rfl rfl ?_
      refine z_iload_n B0 dL_law_571 rfl rfl ?_
      refine z_iconst (v := 2) B0 dL_law_572 (by decide) ?_
      refine z_iadd (v := 2) B0 dL_law_573 (by decide) ?_
      refine y_sld (j := 2) (v := x2) B0 hX hbl (by decide) e2.symm dL_law_574 ?_
      refine z_callM B0 (z_runV (q0 := 0) (As := [.int 4, .int x2]) (st := [.int (-1)]) B0 (c_X12_put_17 (a := a2) mS0 x2 ⟨by omega, by omega⟩) cf_X12_put (mw_0 cy a2 mS0) rfl wm_L_72 wi_X12_put ws_X12_put dL_law_575 rfl (Nat.le_of_ble_eq_true rfl) ⟨by decide, by decide, by decide, by decide⟩) (fun r2 u2 p2 => ?_)
      obtain ⟨rfl, -⟩ := p2
      refine z_icmp_eq_t (tgt := 1091) B0 dL_law_578 (by decide) rfl ?_
      exact fin u1 u2
  · obtain rfl : x1 = 5 := Int32.toInt_inj.mp (h1.trans (by decide))
    rcases (show ((-2147483648) ≤ x2.toInt ∧ x2.toInt ≤ (-1)) ∨ (0 ≤ x2.toInt ∧ x2.toInt ≤ 767) ∨ (768 ≤ x2.toInt ∧ x2.toInt ≤ 2147483647) by have g1 := Int32.le_toInt x2; have g2 := Int32.toInt_lt x2; omega) with h2 | h2 | h2
    · refine z_aload_n B0 dL_law_550 rfl rfl ?_
      refine z_aload_n B0 dL_law_551 rfl rfl ?_
      refine z_iload_n B0 dL_law_552 rfl rfl ?_
      refine z_iconst (v := 1) B0 dL_law_553 (by decide) ?_
      refine z_iadd (v := 1) B0 dL_law_554 (by decide) ?_
      refine y_sld (j := 1) (v := 5) B0 hX hbl (by decide) e1.symm dL_law_555 ?_
      refine z_aload_n B0 dL_law_556 rfl rfl ?_
      refine z_iload_n B0 dL_law_557 rfl rfl ?_
      refine z_iconst (v := 2) B0 dL_law_558 (by decide) ?_
      refine z_iadd (v := 2) B0 dL_law_559 (by decide) ?_
      refine y_sld (j := 2) (v := x2) B0 hX hbl (by decide) e2.symm dL_law_560 ?_
      refine z_callC B0 (z_runV (q0 := 0) (As := [.int 5, .int x2]) (st := []) B0 (c_X11_put_18 (a := a) (cS0 w) x2 ⟨by omega, by omega⟩) cf_X11_put (cw_0 cy tE a rw (cS0 w)) rfl wm_L_69 wi_X11_put ws_X11_put dL_law_561 rfl (Nat.le_of_ble_eq_true rfl) ⟨by decide, by decide, by decide, by decide⟩) (fun r1 u1 p1 => ?_)
      obtain ⟨rfl, -⟩ := p1
      refine z_aload_n B0 dL_law_564 rfl rfl ?_
      refine z_aload_n B0 dL_law_565 rfl rfl ?_
      refine z_iload_n B0 dL_law_566 rfl rfl ?_
      refine z_iconst (v := 1) B0 dL_law_567 (by decide) ?_
      refine z_iadd (v := 1) B0 dL_law_568 (by decide) ?_
      refine y_sld (j := 1) (v := 5) B0 hX hbl (by decide) e1.symm dL_law_569 ?_
      refine z_aload_n B0 dL_law_570 rfl rfl ?_
      refine z_iload_n B0 dL_law_571 rfl rfl ?_
      refine z_iconst (v := 2) B0 dL_law_572 (by decide) ?_
      refine z_iadd (v := 2) B0 dL_law_573 (by decide) ?_
      refine y_sld (j := 2) (v := x2) B0 hX hbl (by decide) e2.symm dL_law_574 ?_
      refine z_callM B0 (z_runV (q0 := 0) (As := [.int 5, .int x2]) (st := [.int (-1)]) B0 (c_X12_put_18 (a := a2) mS0 x2 ⟨by omega, by omega⟩) cf_X12_put (mw_0 cy a2 mS0) rfl wm_L_72 wi_X12_put ws_X12_put dL_law_575 rfl (Nat.le_of_ble_eq_true rfl) ⟨by decide, by decide, by decide, by decide⟩) (fun r2 u2 p2 => ?_)
      obtain ⟨rfl, -⟩ := p2
      refine z_icmp_eq_t (tgt := 1091) B0 dL_law_578 (by decide) rfl ?_
      exact fin u1 u2
    · refine z_aload_n B0 dL_law_550 rfl rfl ?_
      refine z_aload_n B0 dL_law_551 rfl rfl ?_
      refine z_iload_n B0 dL_law_552 rfl rfl ?_
      refine z_iconst (v := 1) B0 dL_law_553 (by decide) ?_
      refine z_iadd (v := 1) B0 dL_law_554 (by decide) ?_
      refine y_sld (j := 1) (v := 5) B0 hX hbl (by decide) e1.symm dL_law_555 ?_
      refine z_aload_n B0 dL_law_556 rfl rfl ?_
      refine z_iload_n B0 dL_law_557 rfl rfl ?_
      refine z_iconst (v := 2) B0 dL_law_558 (by decide) ?_
      refine z_iadd (v := 2) B0 dL_law_559 (by decide) ?_
      refine y_sld (j := 2) (v := x2) B0 hX hbl (by decide) e2.symm dL_law_560 ?_
      refine z_callC B0 (z_runV (q0 := 0) (As := [.int 5, .int x2]) (st := []) B0 (c_X11_put_19 (a := a) (cS0 w) x2 rfl hrw ⟨by omega, by omega⟩) cf_X11_put (cw_0 cy tE a rw (cS0 w)) rfl wm_L_69 wi_X11_put ws_X11_put dL_law_561 rfl (Nat.le_of_ble_eq_true rfl) ⟨by decide, by decide, by decide, by decide⟩) (fun r1 u1 p1 => ?_)
      obtain ⟨rfl, -⟩ := p1
      refine z_aload_n B0 dL_law_564 rfl rfl ?_
      refine z_aload_n B0 dL_law_565 rfl rfl ?_
      refine z_iload_n B0 dL_law_566 rfl rfl ?_
      refine z_iconst (v := 1) B0 dL_law_567 (by decide) ?_
      refine z_iadd (v := 1) B0 dL_law_568 (by decide) ?_
      refine y_sld (j := 1) (v := 5) B0 hX hbl (by decide) e1.symm dL_law_569 ?_
      refine z_aload_n B0 dL_law_570 rfl rfl ?_
      refine z_iload_n B0 dL_law_571 rfl rfl ?_
      refine z_iconst (v := 2) B0 dL_law_572 (by decide) ?_
      refine z_iadd (v := 2) B0 dL_law_573 (by decide) ?_
      refine y_sld (j := 2) (v := x2) B0 hX hbl (by decide) e2.symm dL_law_574 ?_
      refine z_callM B0 (z_runV (q0 := 0) (As := [.int 5, .int x2]) (st := [.int 1]) B0 (c_X12_put_19 (a := a2) mS0 x2 rfl ⟨by omega, by omega⟩) cf_X12_put (mw_0 cy a2 mS0) rfl wm_L_72 wi_X12_put ws_X12_put dL_law_575 rfl (Nat.le_of_ble_eq_true rfl) ⟨by decide, by decide, by decide, by decide⟩) (fun r2 u2 p2 => ?_)
      obtain ⟨rfl, -⟩ := p2
      refine z_icmp_eq_t (tgt := 1091) B0 dL_law_578 (by decide) rfl ?_
      exact fin u1 u2
    · refine z_aload_n B0 dL_law_550 rfl rfl ?_
      refine z_aload_n B0 dL_law_551 rfl rfl ?_
      refine z_iload_n B0 dL_law_552 rfl rfl ?_
      refine z_iconst (v := 1) B0 dL_law_553 (by decide) ?_
      refine z_iadd (v := 1) B0 dL_law_554 (by decide) ?_
      refine y_sld (j := 1) (v := 5) B0 hX hbl (by decide) e1.symm dL_law_555 ?_
      refine z_aload_n B0 dL_law_556 rfl rfl ?_
      refine z_iload_n B0 dL_law_557 rfl rfl ?_
      refine z_iconst (v := 2) B0 dL_law_558 (by decide) ?_
      refine z_iadd (v := 2) B0 dL_law_559 (by decide) ?_
      refine y_sld (j := 2) (v := x2) B0 hX hbl (by decide) e2.symm dL_law_560 ?_
      refine z_callC B0 (z_runV (q0 := 0) (As := [.int 5, .int x2]) (st := []) B0 (c_X11_put_20 (a := a) (cS0 w) x2 ⟨by omega, by omega⟩) cf_X11_put (cw_0 cy tE a rw (cS0 w)) rfl wm_L_69 wi_X11_put ws_X11_put dL_law_561 rfl (Nat.le_of_ble_eq_true rfl) ⟨by decide, by decide, by decide, by decide⟩) (fun r1 u1 p1 => ?_)
      obtain ⟨rfl, -⟩ := p1
      refine z_aload_n B0 dL_law_564 rfl rfl ?_
      refine z_aload_n B0 dL_law_565 rfl rfl ?_
      refine z_iload_n B0 dL_law_566 rfl rfl ?_
      refine z_iconst (v := 1) B0 dL_law_567 (by decide) ?_
      refine z_iadd (v := 1) B0 dL_law_568 (by decide) ?_
      refine y_sld (j := 1) (v := 5) B0 hX hbl (by decide) e1.symm dL_law_569 ?_
      refine z_aload_n B0 dL_law_570 rfl rfl ?_
      refine z_iload_n B0 dL_law_571 rfl rfl ?_
      refine z_iconst (v := 2) B0 dL_law_572 (by decide) ?_
      refine z_iadd (v := 2) B0 dL_law_573 (by decide) ?_
      refine y_sld (j := 2) (v := x2) B0 hX hbl (by decide) e2.symm dL_law_574 ?_
      refine z_callM B0 (z_runV (q0 := 0) (As := [.int 5, .int x2]) (st := [.int (-1)]) B0 (c_X12_put_20 (a := a2) mS0 x2 ⟨by omega, by omega⟩) cf_X12_put (mw_0 cy a2 mS0) rfl wm_L_72 wi_X12_put ws_X12_put dL_law_575 rfl (Nat.le_of_ble_eq_true rfl) ⟨by decide, by decide, by decide, by decide⟩) (fun r2 u2 p2 => ?_)
      obtain ⟨rfl, -⟩ := p2
      refine z_icmp_eq_t (tgt := 1091) B0 dL_law_578 (by decide) rfl ?_
      exact fin u1 u2
  · refine z_aload_n B0 dL_law_550 rfl rfl ?_
    refine z_aload_n B0 dL_law_551 rfl rfl ?_
    refine z_iload_n B0 dL_law_552 rfl rfl ?_
    refine z_iconst (v := 1) B0 dL_law_553 (by decide) ?_
    refine z_iadd (v := 1) B0 dL_law_554 (by decide) ?_
    refine y_sld (j := 1) (v := x1) B0 hX hbl (by decide) e1.symm dL_law_555 ?_
    refine z_aload_n B0 dL_law_556 rfl rfl ?_
    refine z_iload_n B0 dL_law_557 rfl rfl ?_
    refine z_iconst (v := 2) B0 dL_law_558 (by decide) ?_
    refine z_iadd (v := 2) B0 dL_law_559 (by decide) ?_
    refine y_sld (j := 2) (v := x2) B0 hX hbl (by decide) e2.symm dL_law_560 ?_
    refine z_callC B0 (z_runV (q0 := 0) (As := [.int x1, .int x2]) (st := []) B0 (c_X11_put_2 (a := a) (cS0 w) x1 x2 ⟨by omega, by omega⟩) cf_X11_put (cw_0 cy tE a rw (cS0 w)) rfl wm_L_69 wi_X11_put ws_X11_put dL_law_561 rfl (Nat.le_of_ble_eq_true rfl) ⟨by decide, by decide, by decide, by decide⟩) (fun r1 u1 p1 => ?_)
    obtain ⟨rfl, -⟩ := p1
    refine z_aload_n B0 dL_law_564 rfl rfl ?_
    refine z_aload_n B0 dL_law_565 rfl rfl ?_
    refine z_iload_n B0 dL_law_566 rfl rfl ?_
    refine z_iconst (v := 1) B0 dL_law_567 (by decide) ?_
    refine z_iadd (v := 1) B0 dL_law_568 (by decide) ?_
    refine y_sld (j := 1) (v := x1) B0 hX hbl (by decide) e1.symm dL_law_569 ?_
    refine z_aload_n B0 dL_law_570 rfl rfl ?_
    refine z_iload_n B0 dL_law_571 rfl rfl ?_
    refine z_iconst (v := 2) B0 dL_law_572 (by decide) ?_
    refine z_iadd (v := 2) B0 dL_law_573 (by decide) ?_
    refine y_sld (j := 2) (v := x2) B0 hX hbl (by decide) e2.symm dL_law_574 ?_
    refine z_callM B0 (z_runV (q0 := 0) (As := [.int x1, .int x2]) (st := [.int (-1)]) B0 (c_X12_put_2 (a := a2) mS0 x1 x2 ⟨by omega, by omega⟩) cf_X12_put (mw_0 cy a2 mS0) rfl wm_L_72 wi_X12_put ws_X12_put dL_law_575 rfl (Nat.le_of_ble_eq_true rfl) ⟨by decide, by decide, by decide, by decide⟩) (fun r2 u2 p2 => ?_)
    obtain ⟨rfl, -⟩ := p2
    refine z_icmp_eq_t (tgt := 1091) B0 dL_law_578 (by decide) rfl ?_
    exact fin u1 u2

set_option maxHeartbeats 8000000 in
set_option maxRecDepth 100000 in
theorem lo_clear {p : Program} {l : Launch} {e : Env} {s : State} {m : MethodId} {below : List Frame} {meth : Method} {c : Code} {D : va_G} {cy : Nat → ClassId} {tB tE b : Nat} {a a2 : Nat → Nat} {rw : Nat → Option Nat} {xs : Nat → Int32} (B0 : Bz p room_1 s m #[Value.ref b] meth c D cy s.heap.size tB tE (fun q => s.heap.size ≤ q) 4 cL_law RL meth.sig.returnType meth.name 2048 84000 600000 7302250) (hX : va_X b 6 xs s s.heap) (hbl : b < s.heap.size) (hrw : ∀ i, i < 6 → rw i = some (a (36 + 2 * i))) (w : Nat → Int64) (fin : ∀ S S9 : GS, Z p l e room_1 s m #[Value.ref b] below meth c D (fun q => s.heap.size ≤ q) 4 (lw_Z below #[Value.ref b] s) 200 60000 (cw cy tE a rw S ++ mw cy a2 S9) [(3, .int 0), (2, .ref (a2 0)), (1, .ref (a 0)), (0, .ref b)] 1091 []) : Z p l e room_1 s m #[Value.ref b] below meth c D (fun q => s.heap.size ≤ q) 4 (lw_Z below #[Value.ref b] s) 200 60000 (cw cy tE a rw (cS0 w) ++ mw cy a2 mS0) [(3, .int 0), (2, .ref (a2 0)), (1, .ref (a 0)), (0, .ref b)] 583 [] := by
  obtain ⟨x1, e1⟩ : ∃ x, x = xs 1 := ⟨_, rfl⟩
  rcases (show ((-2147483648) ≤ x1.toInt ∧ x1.toInt ≤ (-1)) ∨ x1.toInt = 0 ∨ x1.toInt = 1 ∨ x1.toInt = 2 ∨ x1.toInt = 3 ∨ x1.toInt = 4 ∨ x1.toInt = 5 ∨ (6 ≤ x1.toInt ∧ x1.toInt ≤ 2147483647) by have g1 := Int32.le_toInt x1; have g2 := Int32.toInt_lt x1; omega) with h1 | h1 | h1 | h1 | h1 | h1 | h1 | h1
  · refine z_aload_n B0 dL_law_583 rfl rfl ?_
    refine z_aload_n B0 dL_law_584 rfl rfl ?_
    refine z_iload_n B0 dL_law_585 rfl rfl ?_
    refine z_iconst (v := 1) B0 dL_law_586 (by decide) ?_
    refine z_iadd (v := 1) B0 dL_law_587 (by decide) ?_
    refine y_sld (j := 1) (v := x1) B0 hX hbl (by decide) e1.symm dL_law_588 ?_
    refine z_callC B0 (z_runV (q0 := 0) (As := [.int x1]) (st := []) B0 (c_X11_clear (a := a) (cS0 w) x1 ⟨by omega, by omega⟩) cf_X11_clear (cw_0 cy tE a rw (cS0 w)) rfl wm_L_73 wi_X11_clear ws_X11_clear dL_law_589 rfl (Nat.le_of_ble_eq_true rfl) ⟨by decide, by decide, by decide, by decide⟩) (fun r1 u1 p1 => ?_)
    obtain ⟨rfl, -⟩ := p1
    refine z_aload_n B0 dL_law_592 rfl rfl ?_
    refine z_aload_n B0 dL_law_593 rfl rfl ?_
    refine z_iload_n B0 dL_law_594 rfl rfl ?_
    refine z_iconst (v := 1) B0 dL_law_595 (by decide) ?_
    refine z_iadd (v := 1) B0 dL_law_596 (by decide) ?_
    refine y_sld (j := 1) (v := x1) B0 hX hbl (by decide) e1.symm dL_law_597 ?_
    refine z_callM B0 (z_runV (q0 := 0) (As := [.int x1]) (st := [.int 0]) B0 (c_X12_clear (a := a2) mS0 x1 ⟨by omega, by omega⟩) cf_X12_clear (mw_0 cy a2 mS0) rfl wm_L_76 wi_X12_clear ws_X12_clear dL_law_598 rfl (Nat.le_of_ble_eq_true rfl) ⟨by decide, by decide, by decide, by decide⟩) (fun r2 u2 p2 => ?_)
    obtain ⟨rfl, -⟩ := p2
    refine z_icmp_eq_t (tgt := 1091) B0 dL_law_601 (by decide) rfl ?_
    exact fin u1 u2
  · obtain rfl : x1 = 0 := Int32.toInt_inj.mp (h1.trans (by decide))
    refine z_aload_n B0 dL_law_583 rfl rfl ?_
    refine z_aload_n B0 dL_law_584 rfl rfl ?_
    refine z_iload_n B0 dL_law_585 rfl rfl ?_
    refine z_iconst (v := 1) B0 dL_law_586 (by decide) ?_
    refine z_iadd (v := 1) B0 dL_law_587 (by decide) ?_
    refine y_sld (j := 1) (v := 0) B0 hX hbl (by decide) e1.symm dL_law_588 ?_
    refine z_callC B0 (z_runV (q0 := 0) (As := [.int 0]) (st := []) B0 (c_X11_clear_3 (a := a) (cS0 w)  rfl rfl hrw) cf_X11_clear (cw_0 cy tE a rw (cS0 w)) rfl wm_L_73 wi_X11_clear ws_X11_clear dL_law_589 rfl (Nat.le_of_ble_eq_true rfl) ⟨by decide, by decide, by decide, by decide⟩) (fun r1 u1 p1 => ?_)
    obtain ⟨rfl, -⟩ := p1
    refine z_aload_n B0 dL_law_592 rfl rfl ?_
    refine z_aload_n B0 dL_law_593 rfl rfl ?_
    refine z_iload_n B0 dL_law_594 rfl rfl ?_
    refine z_iconst (v := 1) B0 dL_law_595 (by decide) ?_
    refine z_iadd (v := 1) B0 dL_law_596 (by decide) ?_
    refine y_sld (j := 1) (v := 0) B0 hX hbl (by decide) e1.symm dL_law_597 ?_
    refine z_callM B0 (z_runV (q0 := 0) (As := [.int 0]) (st := [.int 1]) B0 (c_X12_clear_3 (a := a2) mS0  rfl rfl) cf_X12_clear (mw_0 cy a2 mS0) rfl wm_L_76 wi_X12_clear ws_X12_clear dL_law_598 rfl (Nat.le_of_ble_eq_true rfl) ⟨by decide, by decide, by decide, by decide⟩) (fun r2 u2 p2 => ?_)
    obtain ⟨rfl, -⟩ := p2
    refine z_icmp_eq_t (tgt := 1091) B0 dL_law_601 (by decide) rfl ?_
    exact fin u1 u2
  · obtain rfl : x1 = 1 := Int32.toInt_inj.mp (h1.trans (by decide))
    refine z_aload_n B0 dL_law_583 rfl rfl ?_
    refine z_aload_n B0 dL_law_584 rfl rfl ?_
    refine z_iload_n B0 dL_law_585 rfl rfl ?_
    refine z_iconst (v := 1) B0 dL_law_586 (by decide) ?_
    refine z_iadd (v := 1) B0 dL_law_587 (by decide) ?_
    refine y_sld (j := 1) (v := 1) B0 hX hbl (by decide) e1.symm dL_law_588 ?_
    refine z_callC B0 (z_runV (q0 := 0) (As := [.int 1]) (st := []) B0 (c_X11_clear_4 (a := a) (cS0 w)  rfl rfl hrw) cf_X11_clear (cw_0 cy tE a rw (cS0 w)) rfl wm_L_73 wi_X11_clear ws_X11_clear dL_law_589 rfl (Nat.le_of_ble_eq_true rfl) ⟨by decide, by decide, by decide, by decide⟩) (fun r1 u1 p1 => ?_)
    obtain ⟨rfl, -⟩ := p1
    refine z_aload_n B0 dL_law_592 rfl rfl ?_
    refine z_aload_n B0 dL_law_593 rfl rfl ?_
    refine z_iload_n B0 dL_law_594 rfl rfl ?_
    refine z_iconst (v := 1) B0 dL_law_595 (by decide) ?_
    refine z_iadd (v := 1) B0 dL_law_596 (by decide) ?_
    refine y_sld (j := 1) (v := 1) B0 hX hbl (by decide) e1.symm dL_law_597 ?_
    refine z_callM B0 (z_runV (q0 := 0) (As := [.int 1]) (st := [.int 1]) B0 (c_X12_clear_4 (a := a2) mS0  rfl rfl) cf_X12_clear (mw_0 cy a2 mS0) rfl wm_L_76 wi_X12_clear ws_X12_clear dL_law_598 rfl (Nat.le_of_ble_eq_true rfl) ⟨by decide, by decide, by decide, by decide⟩) (fun r2 u2 p2 => ?_)
    obtain ⟨rfl, -⟩ := p2
    refine z_icmp_eq_t (tgt := 1091) B0 dL_law_601 (by decide) rfl ?_
    exact fin u1 u2
  · obtain rfl : x1 = 2 := Int32.toInt_inj.mp (h1.trans (by decide))
    refine z_aload_n B0 dL_law_583 rfl rfl ?_
    refine z_aload_n B0 dL_law_584 rfl rfl ?_
    refine z_iload_n B0 dL_law_585 rfl rfl ?_
    refine z_iconst (v := 1) B0 dL_law_586 (by decide) ?_
    refine z_iadd (v := 1) B0 dL_law_587 (by decide) ?_
    refine y_sld (j := 1) (v := 2) B0 hX hbl (by decide) e1.symm dL_law_588 ?_
    refine z_callC B0 (z_runV (q0 := 0) (As := [.int 2]) (st := []) B0 (c_X11_clear_5 (a := a) (cS0 w)  rfl rfl hrw) cf_X11_clear (cw_0 cy tE a rw (cS0 w)) rfl wm_L_73 wi_X11_clear ws_X11_clear dL_law_589 rfl (Nat.le_of_ble_eq_true rfl) ⟨by decide, by decide, by decide, by decide⟩) (fun r1 u1 p1 => ?_)
    obtain ⟨rfl, -⟩ := p1
    refine z_aload_n B0 dL_law_592 rfl rfl ?_
    refine z_aload_n B0 dL_law_593 rfl rfl ?_
    refine z_iload_n B0 dL_law_594 rfl rfl ?_
    refine z_iconst (v := 1) B0 dL_law_595 (by decide) ?_
    refine z_iadd (v := 1) B0 dL_law_596 (by decide) ?_
    refine y_sld (j := 1) (v := 2) B0 hX hbl (by decide) e1.symm dL_law_597 ?_
    refine z_callM B0 (z_runV (q0 := 0) (As := [.int 2]) (st := [.int 1]) B0 (c_X12_clear_5 (a := a2) mS0  rfl rfl) cf_X12_clear (mw_0 cy a2 mS0) rfl wm_L_76 wi_X12_clear ws_X12_clear dL_law_598 rfl (Nat.le_of_ble_eq_true rfl) ⟨by decide, by decide, by decide, by decide⟩) (fun r2 u2 p2 => ?_)
    obtain ⟨rfl, -⟩ := p2
    refine z_icmp_eq_t (tgt := 1091) B0 dL_law_601 (by decide) rfl ?_
    exact fin u1 u2
  · obtain rfl : x1 = 3 := Int32.toInt_inj.mp (h1.trans (by decide))
    refine z_aload_n B0 dL_law_583 rfl rfl ?_
    refine z_aload_n B0 dL_law_584 rfl rfl ?_
    refine z_iload_n B0 dL_law_585 rfl rfl ?_
    refine z_iconst (v := 1) B0 dL_law_586 (by decide) ?_
    refine z_iadd (v := 1) B0 dL_law_587 (by decide) ?_
    refine y_sld (j := 1) (v := 3) B0 hX hbl (by decide) e1.symm dL_law_588 ?_
    refine z_callC B0 (z_runV (q0 := 0) (As := [.int 3]) (st := []) B0 (c_X11_clear_6 (a := a) (cS0 w)  rfl rfl hrw) cf_X11_clear (cw_0 cy tE a rw (cS0 w)) rfl wm_L_73 wi_X11_clear ws_X11_clear dL_law_589 rfl (Nat.le_of_ble_eq_true rfl) ⟨by decide, by decide, by decide, by decide⟩) (fun r1 u1 p1 => ?_)
    obtain ⟨rfl, -⟩ := p1
    refine z_aload_n B0 dL_law_592 rfl rfl ?_
    refine z_aload_n B0 dL_law_593 rfl rfl ?_
    refine z_iload_n B0 dL_law_594 rfl rfl ?_
    refine z_iconst (v := 1) B0 dL_law_595 (by decide) ?_
    refine z_iadd (v := 1) B0 dL_law_596 (by decide) ?_
    refine y_sld (j := 1) (v := 3) B0 hX hbl (by decide) e1.symm dL_law_597 ?_
    refine z_callM B0 (z_runV (q0 := 0) (As := [.int 3]) (st := [.int 1]) B0 (c_X12_clear_6 (a := a2) mS0  rfl rfl) cf_X12_clear (mw_0 cy a2 mS0) rfl wm_L_76 wi_X12_clear ws_X12_clear dL_law_598 rfl (Nat.le_of_ble_eq_true rfl) ⟨by decide, by decide, by decide, by decide⟩) (fun r2 u2 p2 => ?_)
    obtain ⟨rfl, -⟩ := p2
    refine z_icmp_eq_t (tgt := 1091) B0 dL_law_601 (by decide) rfl ?_
    exact fin u1 u2
  · obtain rfl : x1 = 4 := Int32.toInt_inj.mp (h1.trans (by decide))
    refine z_aload_n B0 dL_law_583 rfl rfl ?_
    refine z_aload_n B0 dL_law_584 rfl rfl ?_
    refine z_iload_n B0 dL_law_585 rfl rfl ?_
    refine z_iconst (v := 1) B0 dL_law_586 (by decide) ?_
    refine z_iadd (v := 1) B0 dL_law_587 (by decide) ?_
    refine y_sld (j := 1) (v := 4) B0 hX hbl (by decide) e1.symm dL_law_588 ?_
    refine z_callC B0 (z_runV (q0 := 0) (As := [.int 4]) (st := []) B0 (c_X11_clear_7 (a := a) (cS0 w)  rfl rfl hrw) cf_X11_clear (cw_0 cy tE a rw (cS0 w)) rfl wm_L_73 wi_X11_clear ws_X11_clear dL_law_589 rfl (Nat.le_of_ble_eq_true rfl) ⟨by decide, by decide, by decide, by decide⟩) (fun r1 u1 p1 => ?_)
    obtain ⟨rfl, -⟩ := p1
    refine z_aload_n B0 dL_law_592 rfl rfl ?_
    refine z_aload_n B0 dL_law_593 rfl rfl ?_
    refine z_iload_n B0 dL_law_594 rfl rfl ?_
    refine z_iconst (v := 1) B0 dL_law_595 (by decide) ?_
    refine z_iadd (v := 1) B0 dL_law_596 (by decide) ?_
    refine y_sld (j := 1) (v := 4) B0 hX hbl (by decide) e1.symm dL_law_597 ?_
    refine z_callM B0 (z_runV (q0 := 0) (As := [.int 4]) (st := [.int 1]) B0 (c_X12_clear_7 (a := a2) mS0  rfl rfl) cf_X12_clear (mw_0 cy a2 mS0) rfl wm_L_76 wi_X12_clear ws_X12_clear dL_law_598 rfl (Nat.le_of_ble_eq_true rfl) ⟨by decide, by decide, by decide, by decide⟩) (fun r2 u2 p2 => ?_)
    obtain ⟨rfl, -⟩ := p2
    refine z_icmp_eq_t (tgt := 1091) B0 dL_law_601 (by decide) rfl ?_
    exact fin u1 u2
  · obtain rfl : x1 = 5 := Int32.toInt_inj.mp (h1.trans (by decide))
    refine z_aload_n B0 dL_law_583 rfl rfl ?_
    refine z_aload_n B0 dL_law_584 rfl rfl ?_
    refine z_iload_n B0 dL_law_585 rfl rfl ?_
    refine z_iconst (v := 1) B0 dL_law_586 (by decide) ?_
    refine z_iadd (v := 1) B0 dL_law_587 (by decide) ?_
    refine y_sld (j := 1) (v := 5) B0 hX hbl (by decide) e1.symm dL_law_588 ?_
    refine z_callC B0 (z_runV (q0 := 0) (As := [.int 5]) (st := []) B0 (c_X11_clear_8 (a := a) (cS0 w)  rfl rfl hrw) cf_X11_clear (cw_0 cy tE a rw (cS0 w)) rfl wm_L_73 wi_X11_clear ws_X11_clear dL_law_589 rfl (Nat.le_of_ble_eq_true rfl) ⟨by decide, by decide, by decide, by decide⟩) (fun r1 u1 p1 => ?_)
    obtain ⟨rfl, -⟩ := p1
    refine z_aload_n B0 dL_law_592 rfl rfl ?_
    refine z_aload_n B0 dL_law_593 rfl rfl ?_
    refine z_iload_n B0 dL_law_594 rfl rfl ?_
    refine z_iconst (v := 1) B0 dL_law_595 (by decide) ?_
    refine z_iadd (v := 1) B0 dL_law_596 (by decide) ?_
    refine y_sld (j := 1) (v := 5) B0 hX hbl (by decide) e1.symm dL_law_597 ?_
    refine z_callM B0 (z_runV (q0 := 0) (As := [.int 5]) (st := [.int 1]) B0 (c_X12_clear_8 (a := a2) mS0  rfl rfl) cf_X12_clear (mw_0 cy a2 mS0) rfl wm_L_76 wi_X12_clear ws_X12_clear dL_law_598 rfl (Nat.le_of_ble_eq_true rfl) ⟨by decide, by decide, by decide, by decide⟩) (fun r2 u2 p2 => ?_)
    obtain ⟨rfl, -⟩ := p2
    refine z_icmp_eq_t (tgt := 1091) B0 dL_law_601 (by decide) rfl ?_
    exact fin u1 u2
  · refine z_aload_n B0 dL_law_583 rfl rfl ?_
    refine z_aload_n B0 dL_law_584 rfl rfl ?_
    refine z_iload_n B0 dL_law_585 rfl rfl ?_
    refine z_iconst (v := 1) B0 dL_law_586 (by decide) ?_
    refine z_iadd (v := 1) B0 dL_law_587 (by decide) ?_
    refine y_sld (j := 1) (v := x1) B0 hX hbl (by decide) e1.symm dL_law_588 ?_
    refine z_callC B0 (z_runV (q0 := 0) (As := [.int x1]) (st := []) B0 (c_X11_clear_2 (a := a) (cS0 w) x1 ⟨by omega, by omega⟩) cf_X11_clear (cw_0 cy tE a rw (cS0 w)) rfl wm_L_73 wi_X11_clear ws_X11_clear dL_law_589 rfl (Nat.le_of_ble_eq_true rfl) ⟨by decide, by decide, by decide, by decide⟩) (fun r1 u1 p1 => ?_)
    obtain ⟨rfl, -⟩ := p1
    refine z_aload_n B0 dL_law_592 rfl rfl ?_
    refine z_aload_n B0 dL_law_593 rfl rfl ?_
    refine z_iload_n B0 dL_law_594 rfl rfl ?_
    refine z_iconst (v := 1) B0 dL_law_595 (by decide) ?_
    refine z_iadd (v := 1) B0 dL_law_596 (by decide) ?_
    refine y_sld (j := 1) (v := x1) B0 hX hbl (by decide) e1.symm dL_law_597 ?_
    refine z_callM B0 (z_runV (q0 := 0) (As := [.int x1]) (st := [.int 0]) B0 (c_X12_clear_2 (a := a2) mS0 x1 ⟨by omega, by omega⟩) cf_X12_clear (mw_0 cy a2 mS0) rfl wm_L_76 wi_X12_clear ws_X12_clear dL_law_598 rfl (Nat.le_of_ble_eq_true rfl) ⟨by decide, by decide, by decide, by decide⟩) (fun r2 u2 p2 => ?_)
    obtain ⟨rfl, -⟩ := p2
    refine z_icmp_eq_t (tgt := 1091) B0 dL_law_601 (by decide) rfl ?_
    exact fin u1 u2

set_option maxHeartbeats 8000000 in
set_option maxRecDepth 100000 in
theorem lo_honest {p : Program} {l : Launch} {e : Env} {s : State} {m : MethodId} {below : List Frame} {meth : Method} {c : Code} {D : va_G} {cy : Nat → ClassId} {tB tE b : Nat} {a a2 : Nat → Nat} {rw : Nat → Option Nat} {xs : Nat → Int32} (B0 : Bz p room_1 s m #[Value.ref b] meth c D cy s.heap.size tB tE (fun q => s.heap.size ≤ q) 4 cL_law RL meth.sig.returnType meth.name 2048 84000 600000 7302250) (hX : va_X b 6 xs s s.heap) (hbl : b < s.heap.size) (hrw : ∀ i, i < 6 → rw i = some (a (36 + 2 * i))) (w : Nat → Int64) (fin : ∀ S S9 : GS, Z p l e room_1 s m #[Value.ref b] below meth c D (fun q => s.heap.size ≤ q) 4 (lw_Z below #[Value.ref b] s) 200 60000 (cw cy tE a rw S ++ mw cy a2 S9) [(3, .int 0), (2, .ref (a2 0)), (1, .ref (a 0)), (0, .ref b)] 1091 []) : Z p l e room_1 s m #[Value.ref b] below meth c D (fun q => s.heap.size ≤ q) 4 (lw_Z below #[Value.ref b] s) 200 60000 (cw cy tE a rw (cS0 w) ++ mw cy a2 mS0) [(3, .int 0), (2, .ref (a2 0)), (1, .ref (a 0)), (0, .ref b)] 606 [] := by
  obtain ⟨x1, e1⟩ : ∃ x, x = xs 1 := ⟨_, rfl⟩
  obtain ⟨x2, e2⟩ : ∃ x, x = xs 2 := ⟨_, rfl⟩
  rcases (show ((-2147483648) ≤ x1.toInt ∧ x1.toInt ≤ (-1)) ∨ x1.toInt = 0 ∨ x1.toInt = 1 ∨ x1.toInt = 2 ∨ x1.toInt = 3 ∨ x1.toInt = 4 ∨ x1.toInt = 5 ∨ (6 ≤ x1.toInt ∧ x1.toInt ≤ 2147483647) by have g1 := Int32.le_toInt x1; have g2 := Int32.toInt_lt x1; omega) with h1 | h1 | h1 | h1 | h1 | h1 | h1 | h1
  · by_cases hb2 : x2 = 0
    · refine z_aload_n B0 dL_law_606 rfl rfl ?_
      refine z_aload_n B0 dL_law_607 rfl rfl ?_
      refine z_iload_n B0 dL_law_608 rfl rfl ?_
      refine z_iconst (v := 1) B0 dL_law_609 (by decide) ?_
      refine z_iadd (v := 1) B0 dL_law_610 (by decide) ?_
      refine y_sld (j := 1) (v := x1) B0 hX hbl (by decide) e1.symm dL_law_611 ?_
      refine z_aload_n B0 dL_law_612 rfl rfl ?_
      refine z_iload_n B0 dL_law_613 rfl rfl ?_
      refine z_iconst (v := 2) B0 dL_law_614 (by decide) ?_
      refine z_iadd (v := 2) B0 dL_law_615 (by decide) ?_
      refine y_sld (j := 2) (v := x2) B0 hX hbl (by decide) e2.symm dL_law_616 ?_
      refine z_if_eq_t (tgt := 624) B0 dL_law_617 (by decide) hb2 ?_
      refine z_iconst (v := 0) B0 dL_law_624 (by decide) ?_
      refine z_callC B0 (z_runV (q0 := 0) (As := [.int x1, .int 0]) (st := []) B0 (c_X11_honest (a := a) (cS0 w) x1 ⟨by omega, by omega⟩) cf_X11_honest (cw_0 cy tE a rw (cS0 w)) rfl wm_L_77 wi_X11_honest ws_X11_honest dL_law_625 rfl (Nat.le_of_ble_eq_true rfl) ⟨by decide, by decide, by decide, by decide⟩) (fun r1 u1 p1 => ?_)
      obtain ⟨rfl, -⟩ := p1
      refine z_aload_n B0 dL_law_628 rfl rfl ?_
      refine z_aload_n B0 dL_law_629 rfl rfl ?_
      refine z_iload_n B0 dL_law_630 rfl rfl ?_
      refine z_iconst (v := 1) B0 dL_law_631 (by decide) ?_
      refine z_iadd (v := 1) B0 dL_law_632 (by decide) ?_
      refine y_sld (j := 1) (v := x1) B0 hX hbl (by decide) e1.symm dL_law_633 ?_
      refine z_aload_n B0 dL_law_634 rfl rfl ?_
      refine z_iload_n B0 dL_law_635 rfl rfl ?_
      refine z_iconst (v := 2) B0 dL_law_636 (by decide) ?_
      refine z_iadd (v := 2) B0 dL_law_637 (by decide) ?_
      refine y_sld (j := 2) (v := x2) B0 hX hbl (by decide) e2.symm dL_law_638 ?_
      refine z_if_eq_t (tgt := 646) B0 dL_law_639 (by decide) hb2 ?_
      refine z_iconst (v := 0) B0 dL_law_646 (by decide) ?_
      refine z_callM B0 (z_runV (q0 := 0) (As := [.int x1, .int 0]) (st := [.int 0]) B0 (c_X12_honest (a := a2) mS0 x1 ⟨by omega, by omega⟩) cf_X12_honest (mw_0 cy a2 mS0) rfl wm_L_81 wi_X12_honest ws_X12_honest dL_law_647 rfl (Nat.le_of_ble_eq_true rfl) ⟨by decide, by decide, by decide, by decide⟩) (fun r2 u2 p2 => ?_)
      obtain ⟨rfl, -⟩ := p2
      refine z_icmp_eq_t (tgt := 1091) B0 dL_law_650 (by decide) rfl ?_
      exact fin u1 u2
    · refine z_aload_n B0 dL_law_606 rfl rfl ?_
      refine z_aload_n B0 dL_law_607 rfl rfl ?_
      refine z_iload_n B0 dL_law_608 rfl rfl ?_
      refine z_iconst (v := 1) B0 dL_law_609 (by decide) ?_
      refine z_iadd (v := 1) B0 dL_law_610 (by decide) ?_
      refine y_sld (j := 1) (v := x1) B0 hX hbl (by decide) e1.symm dL_law_611 ?_
      refine z_aload_n B0 dL_law_612 rfl rfl ?_
      refine z_iload_n B0 dL_law_613 rfl rfl ?_
      refine z_iconst (v := 2) B0 dL_law_614 (by decide) ?_
      refine z_iadd (v := 2) B0 dL_law_615 (by decide) ?_
      refine y_sld (j := 2) (v := x2) B0 hX hbl (by decide) e2.symm dL_law_616 ?_
      refine z_if_eq_f (tgt := 624) B0 dL_law_617 (by decide) hb2 ?_
      refine z_iconst (v := 1) B0 dL_law_620 (by decide) ?_
      refine z_goto (tgt := 625) B0 dL_law_621 (by decide) ?_
      refine z_callC B0 (z_runV (q0 := 0) (As := [.int x1, .int 1]) (st := []) B0 (c_X11_honest_2 (a := a) (cS0 w) x1 ⟨by omega, by omega⟩) cf_X11_honest (cw_0 cy tE a rw (cS0 w)) rfl wm_L_77 wi_X11_honest ws_X11_honest dL_law_625 rfl (Nat.le_of_ble_eq_true rfl) ⟨by decide, by decide, by decide, by decide⟩) (fun r1 u1 p1 => ?_)
      obtain ⟨rfl, -⟩ := p1
      refine z_aload_n B0 dL_law_628 rfl rfl ?_
      refine z_aload_n B0 dL_law_629 rfl rfl ?_
      refine z_iload_n B0 dL_law_630 rfl rfl ?_
      refine z_iconst (v := 1) B0 dL_law_631 (by decide) ?_
      refine z_iadd (v := 1) B0 dL_law_632 (by decide) ?_
      refine y_sld (j := 1) (v := x1) B0 hX hbl (by decide) e1.symm dL_law_633 ?_
      refine z_aload_n B0 dL_law_634 rfl rfl ?_
      refine z_iload_n B0 dL_law_635 rfl rfl ?_
      refine z_iconst (v := 2) B0 dL_law_636 (by decide) ?_
      refine z_iadd (v := 2) B0 dL_law_637 (by decide) ?_
      refine y_sld (j := 2) (v := x2) B0 hX hbl (by decide) e2.symm dL_law_638 ?_
      refine z_if_eq_f (tgt := 646) B0 dL_law_639 (by decide) hb2 ?_
      refine z_iconst (v := 1) B0 dL_law_642 (by decide) ?_
      refine z_goto (tgt := 647) B0 dL_law_643 (by decide) ?_
      refine z_callM B0 (z_runV (q0 := 0) (As := [.int x1, .int 1]) (st := [.int 0]) B0 (c_X12_honest_2 (a := a2) mS0 x1 ⟨by omega, by omega⟩) cf_X12_honest (mw_0 cy a2 mS0) rfl wm_L_81 wi_X12_honest ws_X12_honest dL_law_647 rfl (Nat.le_of_ble_eq_true rfl) ⟨by decide, by decide, by decide, by decide⟩) (fun r2 u2 p2 => ?_)
      obtain ⟨rfl, -⟩ := p2
      refine z_icmp_eq_t (tgt := 1091) B0 dL_law_650 (by decide) rfl ?_
      exact fin u1 u2
  · obtain rfl : x1 = 0 := Int32.toInt_inj.mp (h1.trans (by decide))
    by_cases hb2 : x2 = 0
    · refine z_aload_n B0 dL_law_606 rfl rfl ?_
      refine z_aload_n B0 dL_law_607 rfl rfl ?_
      refine z_iload_n B0 dL_law_608 rfl rfl ?_
      refine z_iconst (v := 1) B0 dL_law_609 (by decide) ?_
      refine z_iadd (v := 1) B0 dL_law_610 (by decide) ?_
      refine y_sld (j := 1) (v := 0) B0 hX hbl (by decide) e1.symm dL_law_611 ?_
      refine z_aload_n B0 dL_law_612 rfl rfl ?_
      refine z_iload_n B0 dL_law_613 rfl rfl ?_
      refine z_iconst (v := 2) B0 dL_law_614 (by decide) ?_
      refine z_iadd (v := 2) B0 dL_law_615 (by decide) ?_
      refine y_sld (j := 2) (v := x2) B0 hX hbl (by decide) e2.symm dL_law_616 ?_
      refine z_if_eq_t (tgt := 624) B0 dL_law_617 (by decide) hb2 ?_
      refine z_iconst (v := 0) B0 dL_law_624 (by decide) ?_
      refine z_callC B0 (z_runV (q0 := 0) (As := [.int 0, .int 0]) (st := []) B0 (c_X11_honest_5 (a := a) (cS0 w)  rfl hrw) cf_X11_honest (cw_0 cy tE a rw (cS0 w)) rfl wm_L_77 wi_X11_honest ws_X11_honest dL_law_625 rfl (Nat.le_of_ble_eq_true rfl) ⟨by decide, by decide, by decide, by decide⟩) (fun r1 u1 p1 => ?_)
      obtain ⟨rfl, -⟩ := p1
      refine z_aload_n B0 dL_law_628 rfl rfl ?_
      refine z_aload_n B0 dL_law_629 rfl rfl ?_
      refine z_iload_n B0 dL_law_630 rfl rfl ?_
      refine z_iconst (v := 1) B0 dL_law_631 (by decide) ?_
      refine z_iadd (v := 1) B0 dL_law_632 (by decide) ?_
      refine y_sld (j := 1) (v := 0) B0 hX hbl (by decide) e1.symm dL_law_633 ?_
      refine z_aload_n B0 dL_law_634 rfl rfl ?_
      refine z_iload_n B0 dL_law_635 rfl rfl ?_
      refine z_iconst (v := 2) B0 dL_law_636 (by decide) ?_
      refine z_iadd (v := 2) B0 dL_law_637 (by decide) ?_
      refine y_sld (j := 2) (v := x2) B0 hX hbl (by decide) e2.symm dL_law_638 ?_
      refine z_if_eq_t (tgt := 646) B0 dL_law_639 (by decide) hb2 ?_
      refine z_iconst (v := 0) B0 dL_law_646 (by decide) ?_
      refine z_callM B0 (z_runV (q0 := 0) (As := [.int 0, .int 0]) (st := [.int 0]) B0 (c_X12_honest_5 (a := a2) mS0  rfl) cf_X12_honest (mw_0 cy a2 mS0) rfl wm_L_81 wi_X12_honest ws_X12_honest dL_law_647 rfl (Nat.le_of_ble_eq_true rfl) ⟨by decide, by decide, by decide, by decide⟩) (fun r2 u2 p2 => ?_)
      obtain ⟨rfl, -⟩ := p2
      refine z_icmp_eq_t (tgt := 1091) B0 dL_law_650 (by decide) rfl ?_
      exact fin u1 u2
    · refine z_aload_n B0 dL_law_606 rfl rfl ?_
      refine z_aload_n B0 dL_law_607 rfl rfl ?_
      refine z_iload_n B0 dL_law_608 rfl rfl ?_
      refine z_iconst (v := 1) B0 dL_law_609 (by decide) ?_
      refine z_iadd (v := 1) B0 dL_law_610 (by decide) ?_
      refine y_sld (j := 1) (v := 0) B0 hX hbl (by decide) e1.symm dL_law_611 ?_
      refine z_aload_n B0 dL_law_612 rfl rfl ?_
      refine z_iload_n B0 dL_law_613 rfl rfl ?_
      refine z_iconst (v := 2) B0 dL_law_614 (by decide) ?_
      refine z_iadd (v := 2) B0 dL_law_615 (by decide) ?_
      refine y_sld (j := 2) (v := x2) B0 hX hbl (by decide) e2.symm dL_law_616 ?_
      refine z_if_eq_f (tgt := 624) B0 dL_law_617 (by decide) hb2 ?_
      refine z_iconst (v := 1) B0 dL_law_620 (by decide) ?_
      refine z_goto (tgt := 625) B0 dL_law_621 (by decide) ?_
      refine z_callC B0 (z_runV (q0 := 0) (As := [.int 0, .int 1]) (st := []) B0 (c_X11_honest_6 (a := a) (cS0 w)  rfl hrw) cf_X11_honest (cw_0 cy tE a rw (cS0 w)) rfl wm_L_77 wi_X11_honest ws_X11_honest dL_law_625 rfl (Nat.le_of_ble_eq_true rfl) ⟨by decide, by decide, by decide, by decide⟩) (fun r1 u1 p1 => ?_)
      obtain ⟨rfl, -⟩ := p1
      refine z_aload_n B0 dL_law_628 rfl rfl ?_
      refine z_aload_n B0 dL_law_629 rfl rfl ?_
      refine z_iload_n B0 dL_law_630 rfl rfl ?_
      refine z_iconst (v := 1) B0 dL_law_631 (by decide) ?_
      refine z_iadd (v := 1) B0 dL_law_632 (by decide) ?_
      refine y_sld (j := 1) (v := 0) B0 hX hbl (by decide) e1.symm dL_law_633 ?_
      refine z_aload_n B0 dL_law_634 rfl rfl ?_
      refine z_iload_n B0 dL_law_635 rfl rfl ?_
      refine z_iconst (v := 2) B0 dL_law_636 (by decide) ?_
      refine z_iadd (v := 2) B0 dL_law_637 (by decide) ?_
      refine y_sld (j := 2) (v := x2) B0 hX hbl (by decide) e2.symm dL_law_638 ?_
      refine z_if_eq_f (tgt := 646) B0 dL_law_639 (by decide) hb2 ?_
      refine z_iconst (v := 1) B0 dL_law_642 (by decide) ?_
      refine z_goto (tgt := 647) B0 dL_law_643 (by decide) ?_
      refine z_callM B0 (z_runV (q0 := 0) (As := [.int 0, .int 1]) (st := [.int 1]) B0 (c_X12_honest_6 (a := a2) mS0  rfl) cf_X12_honest (mw_0 cy a2 mS0) rfl wm_L_81 wi_X12_honest ws_X12_honest dL_law_647 rfl (Nat.le_of_ble_eq_true rfl) ⟨by decide, by decide, by decide, by decide⟩) (fun r2 u2 p2 => ?_)
      obtain ⟨rfl, -⟩ := p2
      refine z_icmp_eq_t (tgt := 1091) B0 dL_law_650 (by decide) rfl ?_
      exact fin u1 u2
  · obtain rfl : x1 = 1 := Int32.toInt_inj.mp (h1.trans (by decide))
    by_cases hb2 : x2 = 0
    · refine z_aload_n B0 dL_law_606 rfl rfl ?_
      refine z_aload_n B0 dL_law_607 rfl rfl ?_
      refine z_iload_n B0 dL_law_608 rfl rfl ?_
      refine z_iconst (v := 1) B0 dL_law_609 (by decide) ?_
      refine z_iadd (v := 1) B0 dL_law_610 (by decide) ?_
      refine y_sld (j := 1) (v := 1) B0 hX hbl (by decide) e1.symm dL_law_611 ?_
      refine z_aload_n B0 dL_law_612 rfl rfl ?_
      refine z_iload_n B0 dL_law_613 rfl rfl ?_
      refine z_iconst (v := 2) B0 dL_law_614 (by decide) ?_
      refine z_iadd (v := 2) B0 dL_law_615 (by decide) ?_
      refine y_sld (j := 2) (v := x2) B0 hX hbl (by decide) e2.symm dL_law_616 ?_
      refine z_if_eq_t (tgt := 624) B0 dL_law_617 (by decide) hb2 ?_
      refine z_iconst (v := 0) B0 dL_law_624 (by decide) ?_
      refine z_callC B0 (z_runV (q0 := 0) (As := [.int 1, .int 0]) (st := []) B0 (c_X11_honest_7 (a := a) (cS0 w)  rfl hrw) cf_X11_honest (cw_0 cy tE a rw (cS0 w)) rfl wm_L_77 wi_X11_honest ws_X11_honest dL_law_625 rfl (Nat.le_of_ble_eq_true rfl) ⟨by decide, by decide, by decide, by decide⟩) (fun r1 u1 p1 => ?_)
      obtain ⟨rfl, -⟩ := p1
      refine z_aload_n B0 dL_law_628 rfl rfl ?_
      refine z_aload_n B0 dL_law_629 rfl rfl ?_
      refine z_iload_n B0 dL_law_630 rfl rfl ?_
      refine z_iconst (v := 1) B0 dL_law_631 (by decide) ?_
      refine z_iadd (v := 1) B0 dL_law_632 (by decide) ?_
      refine y_sld (j := 1) (v := 1) B0 hX hbl (by decide) e1.symm dL_law_633 ?_
      refine z_aload_n B0 dL_law_634 rfl rfl ?_
      refine z_iload_n B0 dL_law_635 rfl rfl ?_
      refine z_iconst (v := 2) B0 dL_law_636 (by decide) ?_
      refine z_iadd (v := 2) B0 dL_law_637 (by decide) ?_
      refine y_sld (j := 2) (v := x2) B0 hX hbl (by decide) e2.symm dL_law_638 ?_
      refine z_if_eq_t (tgt := 646) B0 dL_law_639 (by decide) hb2 ?_
      refine z_iconst (v := 0) B0 dL_law_646 (by decide) ?_
      refine z_callM B0 (z_runV (q0 := 0) (As := [.int 1, .int 0]) (st := [.int 0]) B0 (c_X12_honest_7 (a := a2) mS0  rfl) cf_X12_honest (mw_0 cy a2 mS0) rfl wm_L_81 wi_X12_honest ws_X12_honest dL_law_647 rfl (Nat.le_of_ble_eq_true rfl) ⟨by decide, by decide, by decide, by decide⟩) (fun r2 u2 p2 => ?_)
      obtain ⟨rfl, -⟩ := p2
      refine z_icmp_eq_t (tgt := 1091) B0 dL_law_650 (by decide) rfl ?_
      exact fin u1 u2
    · refine z_aload_n B0 dL_law_606 rfl rfl ?_
      refine z_aload_n B0 dL_law_607 rfl rfl ?_
      refine z_iload_n B0 dL_law_608 rfl rfl ?_
      refine z_iconst (v := 1) B0 dL_law_609 (by decide) ?_
      refine z_iadd (v := 1) B0 dL_law_610 (by decide) ?_
      refine y_sld (j := 1) (v := 1) B0 hX hbl (by decide) e1.symm dL_law_611 ?_
      refine z_aload_n B0 dL_law_612 rfl rfl ?_
      refine z_iload_n B0 dL_law_613 rfl rfl ?_
      refine z_iconst (v := 2) B0 dL_law_614 (by decide) ?_
      refine z_iadd (v := 2) B0 dL_law_615 (by decide) ?_
      refine y_sld (j := 2) (v := x2) B0 hX hbl (by decide) e2.symm dL_law_616 ?_
      refine z_if_eq_f (tgt := 624) B0 dL_law_617 (by decide) hb2 ?_
      refine z_iconst (v := 1) B0 dL_law_620 (by decide) ?_
      refine z_goto (tgt := 625) B0 dL_law_621 (by decide) ?_
      refine z_callC B0 (z_runV (q0 := 0) (As := [.int 1, .int 1]) (st := []) B0 (c_X11_honest_8 (a := a) (cS0 w)  rfl hrw) cf_X11_honest (cw_0 cy tE a rw (cS0 w)) rfl wm_L_77 wi_X11_honest ws_X11_honest dL_law_625 rfl (Nat.le_of_ble_eq_true rfl) ⟨by decide, by decide, by decide, by decide⟩) (fun r1 u1 p1 => ?_)
      obtain ⟨rfl, -⟩ := p1
      refine z_aload_n B0 dL_law_628 rfl rfl ?_
      refine z_aload_n B0 dL_law_629 rfl rfl ?_
      refine z_iload_n B0 dL_law_630 rfl rfl ?_
      refine z_iconst (v := 1) B0 dL_law_631 (by decide) ?_
      refine z_iadd (v := 1) B0 dL_law_632 (by decide) ?_
      refine y_sld (j := 1) (v := 1) B0 hX hbl (by decide) e1.symm dL_law_633 ?_
      refine z_aload_n B0 dL_law_634 rfl rfl ?_
      refine z_iload_n B0 dL_law_635 rfl rfl ?_
      refine z_iconst (v := 2) B0 dL_law_636 (by decide) ?_
      refine z_iadd (v := 2) B0 dL_law_637 (by decide) ?_
      refine y_sld (j := 2) (v := x2) B0 hX hbl (by decide) e2.symm dL_law_638 ?_
      refine z_if_eq_f (tgt := 646) B0 dL_law_639 (by decide) hb2 ?_
      refine z_iconst (v := 1) B0 dL_law_642 (by decide) ?_
      refine z_goto (tgt := 647) B0 dL_law_643 (by decide) ?_
      refine z_callM B0 (z_runV (q0 := 0) (As := [.int 1, .int 1]) (st := [.int 1]) B0 (c_X12_honest_8 (a := a2) mS0  rfl) cf_X12_honest (mw_0 cy a2 mS0) rfl wm_L_81 wi_X12_honest ws_X12_honest dL_law_647 rfl (Nat.le_of_ble_eq_true rfl) ⟨by decide, by decide, by decide, by decide⟩) (fun r2 u2 p2 => ?_)
      obtain ⟨rfl, -⟩ := p2
      refine z_icmp_eq_t (tgt := 1091) B0 dL_law_650 (by decide) rfl ?_
      exact fin u1 u2
  · obtain rfl : x1 = 2 := Int32.toInt_inj.mp (h1.trans (by decide))
    by_cases hb2 : x2 = 0
    · refine z_aload_n B0 dL_law_606 rfl rfl ?_
      refine z_aload_n B0 dL_law_607 rfl rfl ?_
      refine z_iload_n B0 dL_law_608 rfl rfl ?_
      refine z_iconst (v := 1) B0 dL_law_609 (by decide) ?_
      refine z_iadd (v := 1) B0 dL_law_610 (by decide) ?_
      refine y_sld (j := 1) (v := 2) B0 hX hbl (by decide) e1.symm dL_law_611 ?_
      refine z_aload_n B0 dL_law_612 rfl rfl ?_
      refine z_iload_n B0 dL_law_613 rfl rfl ?_
      refine z_iconst (v := 2) B0 dL_law_614 (by decide) ?_
      refine z_iadd (v := 2) B0 dL_law_615 (by decide) ?_
      refine y_sld (j := 2) (v := x2) B0 hX hbl (by decide) e2.symm dL_law_616 ?_
      refine z_if_eq_t (tgt := 624) B0 dL_law_617 (by decide) hb2 ?_
      refine z_iconst (v := 0) B0 dL_law_624 (by decide) ?_
      refine z_callC B0 (z_runV (q0 := 0) (As := [.int 2, .int 0]) (st := []) B0 (c_X11_honest_9 (a := a) (cS0 w)  rfl hrw) cf_X11_honest (cw_0 cy tE a rw (cS0 w)) rfl wm_L_77 wi_X11_honest ws_X11_honest dL_law_625 rfl (Nat.le_of_ble_eq_true rfl) ⟨by decide, by decide, by decide, by decide⟩) (fun r1 u1 p1 => ?_)
      obtain ⟨rfl, -⟩ := p1
      refine z_aload_n B0 dL_law_628 rfl rfl ?_
      refine z_aload_n B0 dL_law_629 rfl rfl ?_
      refine z_iload_n B0 dL_law_630 rfl rfl ?_
      refine z_iconst (v := 1) B0 dL_law_631 (by decide) ?_
      refine z_iadd (v := 1) B0 dL_law_632 (by decide) ?_
      refine y_sld (j := 1) (v := 2) B0 hX hbl (by decide) e1.symm dL_law_633 ?_
      refine z_aload_n B0 dL_law_634 rfl rfl ?_
      refine z_iload_n B0 dL_law_635 rfl rfl ?_
      refine z_iconst (v := 2) B0 dL_law_636 (by decide) ?_
      refine z_iadd (v := 2) B0 dL_law_637 (by decide) ?_
      refine y_sld (j := 2) (v := x2) B0 hX hbl (by decide) e2.symm dL_law_638 ?_
      refine z_if_eq_t (tgt := 646) B0 dL_law_639 (by decide) hb2 ?_
      refine z_iconst (v := 0) B0 dL_law_646 (by decide) ?_
      refine z_callM B0 (z_runV (q0 := 0) (As := [.int 2, .int 0]) (st := [.int 0]) B0 (c_X12_honest_9 (a := a2) mS0  rfl) cf_X12_honest (mw_0 cy a2 mS0) rfl wm_L_81 wi_X12_honest ws_X12_honest dL_law_647 rfl (Nat.le_of_ble_eq_true rfl) ⟨by decide, by decide, by decide, by decide⟩) (fun r2 u2 p2 => ?_)
      obtain ⟨rfl, -⟩ := p2
      refine z_icmp_eq_t (tgt := 1091) B0 dL_law_650 (by decide) rfl ?_
      exact fin u1 u2
    · refine z_aload_n B0 dL_law_606 rfl rfl ?_
      refine z_aload_n B0 dL_law_607 rfl rfl ?_
      refine z_iload_n B0 dL_law_608 rfl rfl ?_
      refine z_iconst (v := 1) B0 dL_law_609 (by decide) ?_
      refine z_iadd (v := 1) B0 dL_law_610 (by decide) ?_
      refine y_sld (j := 1) (v := 2) B0 hX hbl (by decide) e1.symm dL_law_611 ?_
      refine z_aload_n B0 dL_law_612 rfl rfl ?_
      refine z_iload_n B0 dL_law_613 rfl rfl ?_
      refine z_iconst (v := 2) B0 dL_law_614 (by decide) ?_
      refine z_iadd (v := 2) B0 dL_law_615 (by decide) ?_
      refine y_sld (j := 2) (v := x2) B0 hX hbl (by decide) e2.symm dL_law_616 ?_
      refine z_if_eq_f (tgt := 624) B0 dL_law_617 (by decide) hb2 ?_
      refine z_iconst (v := 1) B0 dL_law_620 (by decide) ?_
      refine z_goto (tgt := 625) B0 dL_law_621 (by decide) ?_
      refine z_callC B0 (z_runV (q0 := 0) (As := [.int 2, .int 1]) (st := []) B0 (c_X11_honest_10 (a := a) (cS0 w)  rfl hrw) cf_X11_honest (cw_0 cy tE a rw (cS0 w)) rfl wm_L_77 wi_X11_honest ws_X11_honest dL_law_625 rfl (Nat.le_of_ble_eq_true rfl) ⟨by decide, by decide, by decide, by decide⟩) (fun r1 u1 p1 => ?_)
      obtain ⟨rfl, -⟩ := p1
      refine z_aload_n B0 dL_law_628 rfl rfl ?_
      refine z_aload_n B0 dL_law_629 rfl rfl ?_
      refine z_iload_n B0 dL_law_630 rfl rfl ?_
      refine z_iconst (v := 1) B0 dL_law_631 (by decide) ?_
      refine z_iadd (v := 1) B0 dL_law_632 (by decide) ?_
      refine y_sld (j := 1) (v := 2) B0 hX hbl (by decide) e1.symm dL_law_633 ?_
      refine z_aload_n B0 dL_law_634 rfl rfl ?_
      refine z_iload_n B0 dL_law_635 rfl rfl ?_
      refine z_iconst (v := 2) B0 dL_law_636 (by decide) ?_
      refine z_iadd (v := 2) B0 dL_law_637 (by decide) ?_
      refine y_sld (j := 2) (v := x2) B0 hX hbl (by decide) e2.symm dL_law_638 ?_
      refine z_if_eq_f (tgt := 646) B0 dL_law_639 (by decide) hb2 ?_
      refine z_iconst (v := 1) B0 dL_law_642 (by decide) ?_
      refine z_goto (tgt := 647) B0 dL_law_643 (by decide) ?_
      refine z_callM B0 (z_runV (q0 := 0) (As := [.int 2, .int 1]) (st := [.int 1]) B0 (c_X12_honest_10 (a := a2) mS0  rfl) cf_X12_honest (mw_0 cy a2 mS0) rfl wm_L_81 wi_X12_honest ws_X12_honest dL_law_647 rfl (Nat.le_of_ble_eq_true rfl) ⟨by decide, by decide, by decide, by decide⟩) (fun r2 u2 p2 => ?_)
      obtain ⟨rfl, -⟩ := p2
      refine z_icmp_eq_t (tgt := 1091) B0 dL_law_650 (by decide) rfl ?_
      exact fin u1 u2
  · obtain rfl : x1 = 3 := Int32.toInt_inj.mp (h1.trans (by decide))
    by_cases hb2 : x2 = 0
    · refine z_aload_n B0 dL_law_606 rfl rfl ?_
      refine z_aload_n B0 dL_law_607 rfl rfl ?_
      refine z_iload_n B0 dL_law_608 rfl rfl ?_
      refine z_iconst (v := 1) B0 dL_law_609 (by decide) ?_
      refine z_iadd (v := 1) B0 dL_law_610 (by decide) ?_
      refine y_sld (j := 1) (v := 3) B0 hX hbl (by decide) e1.symm dL_law_611 ?_
      refine z_aload_n B0 dL_law_612 rfl rfl ?_
      refine z_iload_n B0 dL_law_613 rfl rfl ?_
      refine z_iconst (v := 2) B0 dL_law_614 (by decide) ?_
      refine z_iadd (v := 2) B0 dL_law_615 (by decide) ?_
      refine y_sld (j := 2) (v := x2) B0 hX hbl (by decide) e2.symm dL_law_616 ?_
      refine z_if_eq_t (tgt := 624) B0 dL_law_617 (by decide) hb2 ?_
      refine z_iconst (v := 0) B0 dL_law_624 (by decide) ?_
      refine z_callC B0 (z_runV (q0 := 0) (As := [.int 3, .int 0]) (st := []) B0 (c_X11_honest_11 (a := a) (cS0 w)  rfl hrw) cf_X11_honest (cw_0 cy tE a rw (cS0 w)) rfl wm_L_77 wi_X11_honest ws_X11_honest dL_law_625 rfl (Nat.le_of_ble_eq_true rfl) ⟨by decide, by decide, by decide, by decide⟩) (fun r1 u1 p1 => ?_)
      obtain ⟨rfl, -⟩ := p1
      refine z_aload_n B0 dL_law_628 rfl rfl ?_
      refine z_aload_n B0 dL_law_629 rfl rfl ?_
      refine z_iload_n B0 dL_law_630 rfl rfl ?_
      refine z_iconst (v := 1) B0 dL_law_631 (by decide) ?_
      refine z_iadd (v := 1) B0 dL_law_632 (by decide) ?_
      refine y_sld (j := 1) (v := 3) B0 hX hbl (by decide) e1.symm dL_law_633 ?_
      refine z_aload_n B0 dL_law_634 rfl rfl ?_
      refine z_iload_n B0 dL_law_635 rfl rfl ?_
      refine z_iconst (v := 2) B0 dL_law_636 (by decide) ?_
      refine z_iadd (v := 2) B0 dL_law_637 (by decide) ?_
      refine y_sld (j := 2) (v := x2) B0 hX hbl (by decide) e2.symm dL_law_638 ?_
      refine z_if_eq_t (tgt := 646) B0 dL_law_639 (by decide) hb2 ?_
      refine z_iconst (v := 0) B0 dL_law_646 (by decide) ?_
      refine z_callM B0 (z_runV (q0 := 0) (As := [.int 3, .int 0]) (st := [.int 0]) B0 (c_X12_honest_11 (a := a2) mS0  rfl) cf_X12_honest (mw_0 cy a2 mS0) rfl wm_L_81 wi_X12_honest ws_X12_honest dL_law_647 rfl (Nat.le_of_ble_eq_true rfl) ⟨by decide, by decide, by decide, by decide⟩) (fun r2 u2 p2 => ?_)
      obtain ⟨rfl, -⟩ := p2
      refine z_icmp_eq_t (tgt := 1091) B0 dL_law_650 (by decide) rfl ?_
      exact fin u1 u2
    · refine z_aload_n B0 dL_law_606 rfl rfl ?_
      refine z_aload_n B0 dL_law_607 rfl rfl ?_
      refine z_iload_n B0 dL_law_608 rfl rfl ?_
      refine z_iconst (v := 1) B0 dL_law_609 (by decide) ?_
      refine z_iadd (v := 1) B0 dL_law_610 (by decide) ?_
      refine y_sld (j := 1) (v := 3) B0 hX hbl (by decide) e1.symm dL_law_611 ?_
      refine z_aload_n B0 dL_law_612 rfl rfl ?_
      refine z_iload_n B0 dL_law_613 rfl rfl ?_
      refine z_iconst (v := 2) B0 dL_law_614 (by decide) ?_
      refine z_iadd (v := 2) B0 dL_law_615 (by decide) ?_
      refine y_sld (j := 2) (v := x2) B0 hX hbl (by decide) e2.symm dL_law_616 ?_
      refine z_if_eq_f (tgt := 624) B0 dL_law_617 (by decide) hb2 ?_
      refine z_iconst (v := 1) B0 dL_law_620 (by decide) ?_
      refine z_goto (tgt := 625) B0 dL_law_621 (by decide) ?_
      refine z_callC B0 (z_runV (q0 := 0) (As := [.int 3, .int 1]) (st := []) B0 (c_X11_honest_12 (a := a) (cS0 w)  rfl hrw) cf_X11_honest (cw_0 cy tE a rw (cS0 w)) rfl wm_L_77 wi_X11_honest ws_X11_honest dL_law_625 rfl (Nat.le_of_ble_eq_true rfl) ⟨by decide, by decide, by decide, by decide⟩) (fun r1 u1 p1 => ?_)
      obtain ⟨rfl, -⟩ := p1
      refine z_aload_n B0 dL_law_628 rfl rfl ?_
      refine z_aload_n B0 dL_law_629 rfl rfl ?_
      refine z_iload_n B0 dL_law_630 rfl rfl ?_
      refine z_iconst (v := 1) B0 dL_law_631 (by decide) ?_
      refine z_iadd (v := 1) B0 dL_law_632 (by decide) ?_
      refine y_sld (j := 1) (v := 3) B0 hX hbl (by decide) e1.symm dL_law_633 ?_
      refine z_aload_n B0 dL_law_634 rfl rfl ?_
      refine z_iload_n B0 dL_law_635 rfl rfl ?_
      refine z_iconst (v := 2) B0 dL_law_636 (by decide) ?_
      refine z_iadd (v := 2) B0 dL_law_637 (by decide) ?_
      refine y_sld (j := 2) (v := x2) B0 hX hbl (by decide) e2.symm dL_law_638 ?_
      refine z_if_eq_f (tgt := 646) B0 dL_law_639 (by decide) hb2 ?_
      refine z_iconst (v := 1) B0 dL_law_642 (by decide) ?_
      refine z_goto (tgt := 647) B0 dL_law_643 (by decide) ?_
      refine z_callM B0 (z_runV (q0 := 0) (As := [.int 3, .int 1]) (st := [.int 1]) B0 (c_X12_honest_12 (a := a2) mS0  rfl) cf_X12_honest (mw_0 cy a2 mS0) rfl wm_L_81 wi_X12_honest ws_X12_honest dL_law_647 rfl (Nat.le_of_ble_eq_true rfl) ⟨by decide, by decide, by decide, by decide⟩) (fun r2 u2 p2 => ?_)
      obtain ⟨rfl, -⟩ := p2
      refine z_icmp_eq_t (tgt := 1091) B0 dL_law_650 (by decide) rfl ?_
      exact fin u1 u2
  · obtain rfl : x1 = 4 := Int32.toInt_inj.mp (h1.trans (by decide))
    by_cases hb2 : x2 = 0
    · refine z_aload_n B0 dL_law_606 rfl rfl ?_
      refine z_aload_n B0 dL_law_607 rfl rfl ?_
      refine z_iload_n B0 dL_law_608 rfl rfl ?_
      refine z_iconst (v := 1) B0 dL_law_609 (by decide) ?_
      refine z_iadd (v := 1) B0 dL_law_610 (by decide) ?_
      refine y_sld (j := 1) (v := 4) B0 hX hbl (by decide) e1.symm dL_law_611 ?_
      refine z_aload_n B0 dL_law_612 rfl rfl ?_
      refine z_iload_n B0 dL_law_613 rfl rfl ?_
      refine z_iconst (v := 2) B0 dL_law_614 (by decide) ?_
      refine z_iadd (v := 2) B0 dL_law_615 (by decide) ?_
      refine y_sld (j := 2) (v := x2) B0 hX hbl (by decide) e2.symm dL_law_616 ?_
      refine z_if_eq_t (tgt := 624) B0 dL_law_617 (by decide) hb2 ?_
      refine z_iconst (v := 0) B0 dL_law_624 (by decide) ?_
      refine z_callC B0 (z_runV (q0 := 0) (As := [.int 4, .int 0]) (st := []) B0 (c_X11_honest_13 (a := a) (cS0 w)  rfl hrw) cf_X11_honest (cw_0 cy tE a rw (cS0 w)) rfl wm_L_77 wi_X11_honest ws_X11_honest dL_law_625 rfl (Nat.le_of_ble_eq_true rfl) ⟨by decide, by decide, by decide, by decide⟩) (fun r1 u1 p1 => ?_)
      obtain ⟨rfl, -⟩ := p1
      refine z_aload_n B0 dL_law_628 rfl rfl ?_
      refine z_aload_n B0 dL_law_629 rfl rfl ?_
      refine z_iload_n B0 dL_law_630 rfl rfl ?_
      refine z_iconst (v := 1) B0 dL_law_631 (by decide) ?_
      refine z_iadd (v := 1) B0 dL_law_632 (by decide) ?_
      refine y_sld (j := 1) (v := 4) B0 hX hbl (by decide) e1.symm dL_law_633 ?_
      refine z_aload_n B0 dL_law_634 rfl rfl ?_
      refine z_iload_n B0 dL_law_635 rfl rfl ?_
      refine z_iconst (v := 2) B0 dL_law_636 (by decide) ?_
      refine z_iadd (v := 2) B0 dL_law_637 (by decide) ?_
      refine y_sld (j := 2) (v := x2) B0 hX hbl (by decide) e2.symm dL_law_638 ?_
      refine z_if_eq_t (tgt := 646) B0 dL_law_639 (by decide) hb2 ?_
      refine z_iconst (v := 0) B0 dL_law_646 (by decide) ?_
      refine z_callM B0 (z_runV (q0 := 0) (As := [.int 4, .int 0]) (st := [.int 0]) B0 (c_X12_honest_13 (a := a2) mS0  rfl) cf_X12_honest (mw_0 cy a2 mS0) rfl wm_L_81 wi_X12_honest ws_X12_honest dL_law_647 rfl (Nat.le_of_ble_eq_true rfl) ⟨by decide, by decide, by decide, by decide⟩) (fun r2 u2 p2 => ?_)
      obtain ⟨rfl, -⟩ := p2
      refine z_icmp_eq_t (tgt := 1091) B0 dL_law_650 (by decide) rfl ?_
      exact fin u1 u2
    · refine z_aload_n B0 dL_law_606 rfl rfl ?_
      refine z_aload_n B0 dL_law_607 rfl rfl ?_
      refine z_iload_n B0 dL_law_608 rfl rfl ?_
      refine z_iconst (v := 1) B0 dL_law_609 (by decide) ?_
      refine z_iadd (v := 1) B0 dL_law_610 (by decide) ?_
      refine y_sld (j := 1) (v := 4) B0 hX hbl (by decide) e1.symm dL_law_611 ?_
      refine z_aload_n B0 dL_law_612 rfl rfl ?_
      refine z_iload_n B0 dL_law_613 rfl rfl ?_
      refine z_iconst (v := 2) B0 dL_law_614 (by decide) ?_
      refine z_iadd (v := 2) B0 dL_law_615 (by decide) ?_
      refine y_sld (j := 2) (v := x2) B0 hX hbl (by decide) e2.symm dL_law_616 ?_
      refine z_if_eq_f (tgt := 624) B0 dL_law_617 (by decide) hb2 ?_
      refine z_iconst (v := 1) B0 dL_law_620 (by decide) ?_
      refine z_goto (tgt := 625) B0 dL_law_621 (by decide) ?_
      refine z_callC B0 (z_runV (q0 := 0) (As := [.int 4, .int 1]) (st := []) B0 (c_X11_honest_14 (a := a) (cS0 w)  rfl hrw) cf_X11_honest (cw_0 cy tE a rw (cS0 w)) rfl wm_L_77 wi_X11_honest ws_X11_honest dL_law_625 rfl (Nat.le_of_ble_eq_true rfl) ⟨by decide, by decide, by decide, by decide⟩) (fun r1 u1 p1 => ?_)
      obtain ⟨rfl, -⟩ := p1
      refine z_aload_n B0 dL_law_628 rfl rfl ?_
      refine z_aload_n B0 dL_law_629 rfl rfl ?_
      refine z_iload_n B0 dL_law_630 rfl rfl ?_
      refine z_iconst (v := 1) B0 dL_law_631 (by decide) ?_
      refine z_iadd (v := 1) B0 dL_law_632 (by decide) ?_
      refine y_sld (j := 1) (v := 4) B0 hX hbl (by decide) e1.symm dL_law_633 ?_
      refine z_aload_n B0 dL_law_634 rfl rfl ?_
      refine z_iload_n B0 dL_law_635 rfl rfl ?_
      refine z_iconst (v := 2) B0 dL_law_636 (by decide) ?_
      refine z_iadd (v := 2) B0 dL_law_637 (by decide) ?_
      refine y_sld (j := 2) (v := x2) B0 hX hbl (by decide) e2.symm dL_law_638 ?_
      refine z_if_eq_f (tgt := 646) B0 dL_law_639 (by decide) hb2 ?_
      refine z_iconst (v := 1) B0 dL_law_642 (by decide) ?_
      refine z_goto (tgt := 647) B0 dL_law_643 (by decide) ?_
      refine z_callM B0 (z_runV (q0 := 0) (As := [.int 4, .int 1]) (st := [.int 1]) B0 (c_X12_honest_14 (a := a2) mS0  rfl) cf_X12_honest (mw_0 cy a2 mS0) rfl wm_L_81 wi_X12_honest ws_X12_honest dL_law_647 rfl (Nat.le_of_ble_eq_true rfl) ⟨by decide, by decide, by decide, by decide⟩) (fun r2 u2 p2 => ?_)
      obtain ⟨rfl, -⟩ := p2
      refine z_icmp_eq_t (tgt := 1091) B0 dL_law_650 (by decide) rfl ?_
      exact fin u1 u2
  · obtain rfl : x1 = 5 := Int32.toInt_inj.mp (h1.trans (by decide))
    by_cases hb2 : x2 = 0
    · refine z_aload_n B0 dL_law_606 rfl rfl ?_
      refine z_aload_n B0 dL_law_607 rfl rfl ?_
      refine z_iload_n B0 dL_law_608 rfl rfl ?_
      refine z_iconst (v := 1) B0 dL_law_609 (by decide) ?_
      refine z_iadd (v := 1) B0 dL_law_610 (by decide) ?_
      refine y_sld (j := 1) (v := 5) B0 hX hbl (by decide) e1.symm dL_law_611 ?_
      refine z_aload_n B0 dL_law_612 rfl rfl ?_
      refine z_iload_n B0 dL_law_613 rfl rfl ?_
      refine z_iconst (v := 2) B0 dL_law_614 (by decide) ?_
      refine z_iadd (v := 2) B0 dL_law_615 (by decide) ?_
      refine y_sld (j := 2) (v := x2) B0 hX hbl (by decide) e2.symm dL_law_616 ?_
      refine z_if_eq_t (tgt := 624) B0 dL_law_617 (by decide) hb2 ?_
      refine z_iconst (v := 0) B0 dL_law_624 (by decide) ?_
      refine z_callC B0 (z_runV (q0 := 0) (As := [.int 5, .int 0]) (st := []) B0 (c_X11_honest_15 (a := a) (cS0 w)  rfl hrw) cf_X11_honest (cw_0 cy tE a rw (cS0 w)) rfl wm_L_77 wi_X11_honest ws_X11_honest dL_law_625 rfl (Nat.le_of_ble_eq_true rfl) ⟨by decide, by decide, by decide, by decide⟩) (fun r1 u1 p1 => ?_)
      obtain ⟨rfl, -⟩ := p1
      refine z_aload_n B0 dL_law_628 rfl rfl ?_
      refine z_aload_n B0 dL_law_629 rfl rfl ?_
      refine z_iload_n B0 dL_law_630 rfl rfl ?_
      refine z_iconst (v := 1) B0 dL_law_631 (by decide) ?_
      refine z_iadd (v := 1) B0 dL_law_632 (by decide) ?_
      refine y_sld (j := 1) (v := 5) B0 hX hbl (by decide) e1.symm dL_law_633 ?_
      refine z_aload_n B0 dL_law_634 rfl rfl ?_
      refine z_iload_n B0 dL_law_635 rfl rfl ?_
      refine z_iconst (v := 2) B0 dL_law_636 (by decide) ?_
      refine z_iadd (v := 2) B0 dL_law_637 (by decide) ?_
      refine y_sld (j := 2) (v := x2) B0 hX hbl (by decide) e2.symm dL_law_638 ?_
      refine z_if_eq_t (tgt := 646) B0 dL_law_639 (by decide) hb2 ?_
      refine z_iconst (v := 0) B0 dL_law_646 (by decide) ?_
      refine z_callM B0 (z_runV (q0 := 0) (As := [.int 5, .int 0]) (st := [.int 0]) B0 (c_X12_honest_15 (a := a2) mS0  rfl) cf_X12_honest (mw_0 cy a2 mS0) rfl wm_L_81 wi_X12_honest ws_X12_honest dL_law_647 rfl (Nat.le_of_ble_eq_true rfl) ⟨by decide, by decide, by decide, by decide⟩) (fun r2 u2 p2 => ?_)
      obtain ⟨rfl, -⟩ := p2
      refine z_icmp_eq_t (tgt := 1091) B0 dL_law_650 (by decide) rfl ?_
      exact fin u1 u2
    · refine z_aload_n B0 dL_law_606 rfl rfl ?_
      refine z_aload_n B0 dL_law_607 rfl rfl ?_
      refine z_iload_n B0 dL_law_608 rfl rfl ?_
      refine z_iconst (v := 1) B0 dL_law_609 (by decide) ?_
      refine z_iadd (v := 1) B0 dL_law_610 (by decide) ?_
      refine y_sld (j := 1) (v := 5) B0 hX hbl (by decide) e1.symm dL_law_611 ?_
      refine z_aload_n B0 dL_law_612 rfl rfl ?_
      refine z_iload_n B0 dL_law_613 rfl rfl ?_
      refine z_iconst (v := 2) B0 dL_law_614 (by decide) ?_
      refine z_iadd (v := 2) B0 dL_law_615 (by decide) ?_
      refine y_sld (j := 2) (v := x2) B0 hX hbl (by decide) e2.symm dL_law_616 ?_
      refine z_if_eq_f (tgt := 624) B0 dL_law_617 (by decide) hb2 ?_
      refine z_iconst (v := 1) B0 dL_law_620 (by decide) ?_
      refine z_goto (tgt := 625) B0 dL_law_621 (by decide) ?_
      refine z_callC B0 (z_runV (q0 := 0) (As := [.int 5, .int 1]) (st := []) B0 (c_X11_honest_16 (a := a) (cS0 w)  rfl hrw) cf_X11_honest (cw_0 cy tE a rw (cS0 w)) rfl wm_L_77 wi_X11_honest ws_X11_honest dL_law_625 rfl (Nat.le_of_ble_eq_true rfl) ⟨by decide, by decide, by decide, by decide⟩) (fun r1 u1 p1 => ?_)
      obtain ⟨rfl, -⟩ := p1
      refine z_aload_n B0 dL_law_628 rfl rfl ?_
      refine z_aload_n B0 dL_law_629 rfl rfl ?_
      refine z_iload_n B0 dL_law_630 rfl rfl ?_
      refine z_iconst (v := 1) B0 dL_law_631 (by decide) ?_
      refine z_iadd (v := 1) B0 dL_law_632 (by decide) ?_
      refine y_sld (j := 1) (v := 5) B0 hX hbl (by decide) e1.symm dL_law_633 ?_
      refine z_aload_n B0 dL_law_634 rfl rfl ?_
      refine z_iload_n B0 dL_law_635 rfl rfl ?_
      refine z_iconst (v := 2) B0 dL_law_636 (by decide) ?_
      refine z_iadd (v := 2) B0 dL_law_637 (by decide) ?_
      refine y_sld (j := 2) (v := x2) B0 hX hbl (by decide) e2.symm dL_law_638 ?_
      refine z_if_eq_f (tgt := 646) B0 dL_law_639 (by decide) hb2 ?_
      refine z_iconst (v := 1) B0 dL_law_642 (by decide) ?_
      refine z_goto (tgt := 647) B0 dL_law_643 (by decide) ?_
      refine z_callM B0 (z_runV (q0 := 0) (As := [.int 5, .int 1]) (st := [.int 1]) B0 (c_X12_honest_16 (a := a2) mS0  rfl) cf_X12_honest (mw_0 cy a2 mS0) rfl wm_L_81 wi_X12_honest ws_X12_honest dL_law_647 rfl (Nat.le_of_ble_eq_true rfl) ⟨by decide, by decide, by decide, by decide⟩) (fun r2 u2 p2 => ?_)
      obtain ⟨rfl, -⟩ := p2
      refine z_icmp_eq_t (tgt := 1091) B0 dL_law_650 (by decide) rfl ?_
      exact fin u1 u2
  · by_cases hb2 : x2 = 0
    · refine z_aload_n B0 dL_law_606 rfl rfl ?_
      refine z_aload_n B0 dL_law_607 rfl rfl ?_
      refine z_iload_n B0 dL_law_608 rfl rfl ?_
      refine z_iconst (v := 1) B0 dL_law_609 (by decide) ?_
      refine z_iadd (v := 1) B0 dL_law_610 (by decide) ?_
      refine y_sld (j := 1) (v := x1) B0 hX hbl (by decide) e1.symm dL_law_611 ?_
      refine z_aload_n B0 dL_law_612 rfl rfl ?_
      refine z_iload_n B0 dL_law_613 rfl rfl ?_
      refine z_iconst (v := 2) B0 dL_law_614 (by decide) ?_
      refine z_iadd (v := 2) B0 dL_law_615 (by decide) ?_
      refine y_sld (j := 2) (v := x2) B0 hX hbl (by decide) e2.symm dL_law_616 ?_
      refine z_if_eq_t (tgt := 624) B0 dL_law_617 (by decide) hb2 ?_
      refine z_iconst (v := 0) B0 dL_law_624 (by decide) ?_
      refine z_callC B0 (z_runV (q0 := 0) (As := [.int x1, .int 0]) (st := []) B0 (c_X11_honest_3 (a := a) (cS0 w) x1 ⟨by omega, by omega⟩) cf_X11_honest (cw_0 cy tE a rw (cS0 w)) rfl wm_L_77 wi_X11_honest ws_X11_honest dL_law_625 rfl (Nat.le_of_ble_eq_true rfl) ⟨by decide, by decide, by decide, by decide⟩) (fun r1 u1 p1 => ?_)
      obtain ⟨rfl, -⟩ := p1
      refine z_aload_n B0 dL_law_628 rfl rfl ?_
      refine z_aload_n B0 dL_law_629 rfl rfl ?_
      refine z_iload_n B0 dL_law_630 rfl rfl ?_
      refine z_iconst (v := 1) B0 dL_law_631 (by decide) ?_
      refine z_iadd (v := 1) B0 dL_law_632 (by decide) ?_
      refine y_sld (j := 1) (v := x1) B0 hX hbl (by decide) e1.symm dL_law_633 ?_
      refine z_aload_n B0 dL_law_634 rfl rfl ?_
      refine z_iload_n B0 dL_law_635 rfl rfl ?_
      refine z_iconst (v := 2) B0 dL_law_636 (by decide) ?_
      refine z_iadd (v := 2) B0 dL_law_637 (by decide) ?_
      refine y_sld (j := 2) (v := x2) B0 hX hbl (by decide) e2.symm dL_law_638 ?_
      refine z_if_eq_t (tgt := 646) B0 dL_law_639 (by decide) hb2 ?_
      refine z_iconst (v := 0) B0 dL_law_646 (by decide) ?_
      refine z_callM B0 (z_runV (q0 := 0) (As := [.int x1, .int 0]) (st := [.int 0]) B0 (c_X12_honest_3 (a := a2) mS0 x1 ⟨by omega, by omega⟩) cf_X12_honest (mw_0 cy a2 mS0) rfl wm_L_81 wi_X12_honest ws_X12_honest dL_law_647 rfl (Nat.le_of_ble_eq_true rfl) ⟨by decide, by decide, by decide, by decide⟩) (fun r2 u2 p2 => ?_)
      obtain ⟨rfl, -⟩ := p2
      refine z_icmp_eq_t (tgt := 1091) B0 dL_law_650 (by decide) rfl ?_
      exact fin u1 u2
    · refine z_aload_n B0 dL_law_606 rfl rfl ?_
      refine z_aload_n B0 dL_law_607 rfl rfl ?_
      refine z_iload_n B0 dL_law_608 rfl rfl ?_
      refine z_iconst (v := 1) B0 dL_law_609 (by decide) ?_
      refine z_iadd (v := 1) B0 dL_law_610 (by decide) ?_
      refine y_sld (j := 1) (v := x1) B0 hX hbl (by decide) e1.symm dL_law_611 ?_
      refine z_aload_n B0 dL_law_612 rfl rfl ?_
      refine z_iload_n B0 dL_law_613 rfl rfl ?_
      refine z_iconst (v := 2) B0 dL_law_614 (by decide) ?_
      refine z_iadd (v := 2) B0 dL_law_615 (by decide) ?_
      refine y_sld (j := 2) (v := x2) B0 hX hbl (by decide) e2.symm dL_law_616 ?_
      refine z_if_eq_f (tgt := 624) B0 dL_law_617 (by decide) hb2 ?_
      refine z_iconst (v := 1) B0 dL_law_620 (by decide) ?_
      refine z_goto (tgt := 625) B0 dL_law_621 (by decide) ?_
      refine z_callC B0 (z_runV (q0 := 0) (As := [.int x1, .int 1]) (st := []) B0 (c_X11_honest_4 (a := a) (cS0 w) x1 ⟨by omega, by omega⟩) cf_X11_honest (cw_0 cy tE a rw (cS0 w)) rfl wm_L_77 wi_X11_honest ws_X11_honest dL_law_625 rfl (Nat.le_of_ble_eq_true rfl) ⟨by decide, by decide, by decide, by decide⟩) (fun r1 u1 p1 => ?_)
      obtain ⟨rfl, -⟩ := p1
      refine z_aload_n B0 dL_law_628 rfl rfl ?_
      refine z_aload_n B0 dL_law_629 rfl rfl ?_
      refine z_iload_n B0 dL_law_630 rfl rfl ?_
      refine z_iconst (v := 1) B0 dL_law_631 (by decide) ?_
      refine z_iadd (v := 1) B0 dL_law_632 (by decide) ?_
      refine y_sld (j := 1) (v := x1) B0 hX hbl (by decide) e1.symm dL_law_633 ?_
      refine z_aload_n B0 dL_law_634 rfl rfl ?_
      refine z_iload_n B0 dL_law_635 rfl rfl ?_
      refine z_iconst (v := 2) B0 dL_law_636 (by decide) ?_
      refine z_iadd (v := 2) B0 dL_law_637 (by decide) ?_
      refine y_sld (j := 2) (v := x2) B0 hX hbl (by decide) e2.symm dL_law_638 ?_
      refine z_if_eq_f (tgt := 646) B0 dL_law_639 (by decide) hb2 ?_
      refine z_iconst (v := 1) B0 dL_law_642 (by decide) ?_
      refine z_goto (tgt := 647) B0 dL_law_643 (by decide) ?_
      refine z_callM B0 (z_runV (q0 := 0) (As := [.int x1, .int 1]) (st := [.int 0]) B0 (c_X12_honest_4 (a := a2) mS0 x1 ⟨by omega, by omega⟩) cf_X12_honest (mw_0 cy a2 mS0) rfl wm_L_81 wi_X12_honest ws_X12_honest dL_law_647 rfl (Nat.le_of_ble_eq_true rfl) ⟨by decide, by decide, by decide, by decide⟩) (fun r2 u2 p2 => ?_)
      obtain ⟨rfl, -⟩ := p2
      refine z_icmp_eq_t (tgt := 1091) B0 dL_law_650 (by decide) rfl ?_
      exact fin u1 u2

set_option maxHeartbeats 8000000 in
set_option maxRecDepth 100000 in
theorem lo_lawful {p : Program} {l : Launch} {e : Env} {s : State} {m : MethodId} {below : List Frame} {meth : Method} {c : Code} {D : va_G} {cy : Nat → ClassId} {tB tE b : Nat} {a a2 : Nat → Nat} {rw : Nat → Option Nat} {xs : Nat → Int32} (B0 : Bz p room_1 s m #[Value.ref b] meth c D cy s.heap.size tB tE (fun q => s.heap.size ≤ q) 4 cL_law RL meth.sig.returnType meth.name 2048 84000 600000 7302250) (hX : va_X b 6 xs s s.heap) (hbl : b < s.heap.size) (hrw : ∀ i, i < 6 → rw i = some (a (36 + 2 * i))) (w : Nat → Int64) (fin : ∀ S S9 : GS, Z p l e room_1 s m #[Value.ref b] below meth c D (fun q => s.heap.size ≤ q) 4 (lw_Z below #[Value.ref b] s) 200 60000 (cw cy tE a rw S ++ mw cy a2 S9) [(3, .int 0), (2, .ref (a2 0)), (1, .ref (a 0)), (0, .ref b)] 1091 []) : Z p l e room_1 s m #[Value.ref b] below meth c D (fun q => s.heap.size ≤ q) 4 (lw_Z below #[Value.ref b] s) 200 60000 (cw cy tE a rw (cS0 w) ++ mw cy a2 mS0) [(3, .int 0), (2, .ref (a2 0)), (1, .ref (a 0)), (0, .ref b)] 655 [] := by
  obtain ⟨x1, e1⟩ : ∃ x, x = xs 1 := ⟨_, rfl⟩
  obtain ⟨x2, e2⟩ : ∃ x, x = xs 2 := ⟨_, rfl⟩
  obtain ⟨x3, e3⟩ : ∃ x, x = xs 3 := ⟨_, rfl⟩
  obtain ⟨x4, e4⟩ : ∃ x, x = xs 4 := ⟨_, rfl⟩
  rcases (show ((-2147483648) ≤ x1.toInt ∧ x1.toInt ≤ (-1)) ∨ x1.toInt = 0 ∨ x1.toInt = 1 ∨ x1.toInt = 2 ∨ x1.toInt = 3 ∨ x1.toInt = 4 ∨ x1.toInt = 5 ∨ (6 ≤ x1.toInt ∧ x1.toInt ≤ 2147483647) by have g1 := Int32.le_toInt x1; have g2 := Int32.toInt_lt x1; omega) with h1 | h1 | h1 | h1 | h1 | h1 | h1 | h1
  · refine z_aload_n B0 dL_law_655 rfl rfl ?_
    refine z_aload_n B0 dL_law_656 rfl rfl ?_
    refine z_iload_n B0 dL_law_657 rfl rfl ?_
    refine z_iconst (v := 1) B0 dL_law_658 (by decide) ?_
    refine z_iadd (v := 1) B0 dL_law_659 (by decide) ?_
    refine y_sld (j := 1) (v := x1) B0 hX hbl (by decide) e1.symm dL_law_660 ?_
    refine z_aload_n B0 dL_law_661 rfl rfl ?_
    refine z_iload_n B0 dL_law_662 rfl rfl ?_
    refine z_iconst (v := 2) B0 dL_law_663 (by decide) ?_
    refine z_iadd (v := 2) B0 dL_law_664 (by decide) ?_
    refine y_sld (j := 2) (v := x2) B0 hX hbl (by decide) e2.symm dL_law_665 ?_
    refine z_aload_n B0 dL_law_666 rfl rfl ?_
    refine z_iload_n B0 dL_law_667 rfl rfl ?_
    refine z_iconst (v := 3) B0 dL_law_668 (by decide) ?_
    refine z_iadd (v := 3) B0 dL_law_669 (by decide) ?_
    refine y_sld (j := 3) (v := x3) B0 hX hbl (by decide) e3.symm dL_law_670 ?_
    refine z_aload_n B0 dL_law_671 rfl rfl ?_
    refine z_iload_n B0 dL_law_672 rfl rfl ?_
    refine z_iconst (v := 4) B0 dL_law_673 (by decide) ?_
    refine z_iadd (v := 4) B0 dL_law_674 (by decide) ?_
    refine y_sld (j := 4) (v := x4) B0 hX hbl (by decide) e4.symm dL_law_675 ?_
    refine z_callC B0 (z_runV (q0 := 0) (As := [.int x1, .int x2, .int x3, .int x4]) (st := []) B0 (c_X11_lawful (a := a) (cS0 w) x1 x2 x3 x4 ⟨by omega, by omega⟩) cf_X11_lawful (cw_0 cy tE a rw (cS0 w)) rfl wm_L_82 wi_X11_lawful ws_X11_lawful dL_law_676 rfl (Nat.le_of_ble_eq_true rfl) ⟨by decide, by decide, by decide, by decide⟩) (fun r1 u1 p1 => ?_)
    obtain ⟨rfl, -⟩ := p1
    refine z_aload_n B0 dL_law_679 rfl rfl ?_
    refine z_aload_n B0 dL_law_680 rfl rfl ?_
    refine z_iload_n B0 dL_law_681 rfl rfl ?_
    refine z_iconst (v := 1) B0 dL_law_682 (by decide) ?_
    refine z_iadd (v := 1) B0 dL_law_683 (by decide) ?_
    refine y_sld (j := 1) (v := x1) B0 hX hbl (by decide) e1.symm dL_law_684 ?_
    refine z_aload_n B0 dL_law_685 rfl rfl ?_
    refine z_iload_n B0 dL_law_686 rfl rfl ?_
    refine z_iconst (v := 2) B0 dL_law_687 (by decide) ?_
    refine z_iadd (v := 2) B0 dL_law_688 (by decide) ?_
    refine y_sld (j := 2) (v := x2) B0 hX hbl (by decide) e2.symm dL_law_689 ?_
    refine z_aload_n B0 dL_law_690 rfl rfl ?_
    refine z_iload_n B0 dL_law_691 rfl rfl ?_
    refine z_iconst (v := 3) B0 dL_law_692 (by decide) ?_
    refine z_iadd (v := 3) B0 dL_law_693 (by decide) ?_
    refine y_sld (j := 3) (v := x3) B0 hX hbl (by decide) e3.symm dL_law_694 ?_
    refine z_aload_n B0 dL_law_695 rfl rfl ?_
    refine z_iload_n B0 dL_law_696 rfl rfl ?_
    refine z_iconst (v := 4) B0 dL_law_697 (by decide) ?_
    refine z_iadd (v := 4) B0 dL_law_698 (by decide) ?_
    refine y_sld (j := 4) (v := x4) B0 hX hbl (by decide) e4.symm dL_law_699 ?_
    refine z_callM B0 (z_runV (q0 := 0) (As := [.int x1, .int x2, .int x3, .int x4]) (st := [.int (-1)]) B0 (c_X12_lawful (a := a2) mS0 x1 x2 x3 x4 ⟨by omega, by omega⟩) cf_X12_lawful (mw_0 cy a2 mS0) rfl wm_L_86 wi_X12_lawful ws_X12_lawful dL_law_700 rfl (Nat.le_of_ble_eq_true rfl) ⟨by decide, by decide, by decide, by decide⟩) (fun r2 u2 p2 => ?_)
    obtain ⟨rfl, -⟩ := p2
    refine z_icmp_eq_t (tgt := 1091) B0 dL_law_703 (by decide) rfl ?_
    exact fin u1 u2
  · obtain rfl : x1 = 0 := Int32.toInt_inj.mp (h1.trans (by decide))
    rcases (show ((-2147483648) ≤ x2.toInt ∧ x2.toInt ≤ 0) ∨ (1 ≤ x2.toInt ∧ x2.toInt ≤ 3) ∨ (4 ≤ x2.toInt ∧ x2.toInt ≤ 2147483647) by have g1 := Int32.le_toInt x2; have g2 := Int32.toInt_lt x2; omega) with h2 | h2 | h2
    · refine z_aload_n B0 dL_law_655 rfl rfl ?_
      refine z_aload_n B0 dL_law_656 rfl rfl ?_
      refine z_iload_n B0 dL_law_657 rfl rfl ?_
      refine z_iconst (v := 1) B0 dL_law_658 (by decide) ?_
      refine z_iadd (v := 1) B0 dL_law_659 (by decide) ?_
      refine y_sld (j := 1) (v := 0) B0 hX hbl (by decide) e1.symm dL_law_660 ?_
      refine z_aload_n B0 dL_law_661 rfl rfl ?_
      refine z_iload_n B0 dL_law_662 rfl rfl ?_
      refine z_iconst (v := 2) B0 dL_law_663 (by decide) ?_
      refine z_iadd (v := 2) B0 dL_law_664 (by decide) ?_
      refine y_sld (j := 2) (v := x2) B0 hX hbl (by decide) e2.symm dL_law_665 ?_
      refine z_aload_n B0 dL_law_666 rfl rfl ?_
      refine z_iload_n B0 dL_law_667 rfl rfl ?_
      refine z_iconst (v := 3) B0 dL_law_668 (by decide) ?_
      refine z_iadd (v := 3) B0 dL_law_669 (by decide) ?_
      refine y_sld (j := 3) (v := x3) B0 hX hbl (by decide) e3.symm dL_law_670 ?_
      refine z_aload_n B0 dL_law_671 rfl rfl ?_
      refine z_iload_n B0 dL_law_672 rfl rfl ?_
      refine z_iconst (v := 4) B0 dL_law_673 (by decide) ?_
      refine z_iadd (v := 4) B0 dL_law_674 (by decide) ?_
      refine y_sld (j := 4) (v := x4) B0 hX hbl (by decide) e4.symm dL_law_675 ?_
      refine z_callC B0 (z_runV (q0 := 0) (As := [.int 0, .int x2, .int x3, .int x4]) (st := []) B0 (c_X11_lawful_3 (a := a) (cS0 w) x2 x3 x4 ⟨by omega, by omega⟩) cf_X11_lawful (cw_0 cy tE a rw (cS0 w)) rfl wm_L_82 wi_X11_lawful ws_X11_lawful dL_law_676 rfl (Nat.le_of_ble_eq_true rfl) ⟨by decide, by decide, by decide, by decide⟩) (fun r1 u1 p1 => ?_)
      obtain ⟨rfl, -⟩ := p1
      refine z_aload_n B0 dL_law_679 rfl rfl ?_
      refine z_aload_n B0 dL_law_680 rfl rfl ?_
      refine z_iload_n B0 dL_law_681 rfl rfl ?_
      refine z_iconst (v := 1) B0 dL_law_682 (by decide) ?_
      refine z_iadd (v := 1) B0 dL_law_683 (by decide) ?_
      refine y_sld (j := 1) (v := 0) B0 hX hbl (by decide) e1.symm dL_law_684 ?_
      refine z_aload_n B0 dL_law_685 rfl rfl ?_
      refine z_iload_n B0 dL_law_686 rfl rfl ?_
      refine z_iconst (v := 2) B0 dL_law_687 (by decide) ?_
      refine z_iadd (v := 2) B0 dL_law_688 (by decide) ?_
      refine y_sld (j := 2) (v := x2) B0 hX hbl (by decide) e2.symm dL_law_689 ?_
      refine z_aload_n B0 dL_law_690 rfl rfl ?_
      refine z_iload_n B0 dL_law_691 rfl rfl ?_
      refine z_iconst (v := 3) B0 dL_law_692 (by decide) ?_
      refine z_iadd (v := 3) B0 dL_law_693 (by decide) ?_
      refine y_sld (j := 3) (v := x3) B0 hX hbl (by decide) e3.symm dL_law_694 ?_
      refine z_aload_n B0 dL_law_695 rfl rfl ?_
      refine z_iload_n B0 dL_law_696 rfl rfl ?_
      refine z_iconst (v := 4) B0 dL_law_697 (by decide) ?_
      refine z_iadd (v := 4) B0 dL_law_698 (by decide) ?_
      refine y_sld (j := 4) (v := x4) B0 hX hbl (by decide) e4.symm dL_law_699 ?_
      refine z_callM B0 (z_runV (q0 := 0) (As := [.int 0, .int x2, .int x3, .int x4]) (st := [.int (-1)]) B0 (c_X12_lawful_3 (a := a2) mS0 x2 x3 x4 ⟨by omega, by omega⟩) cf_X12_lawful (mw_0 cy a2 mS0) rfl wm_L_86 wi_X12_lawful ws_X12_lawful dL_law_700 rfl (Nat.le_of_ble_eq_true rfl) ⟨by decide, by decide, by decide, by decide⟩) (fun r2 u2 p2 => ?_)
      obtain ⟨rfl, -⟩ := p2
      refine z_icmp_eq_t (tgt := 1091) B0 dL_law_703 (by decide) rfl ?_
      exact fin u1 u2
    · rcases (show ((-2147483648) ≤ x3.toInt ∧ x3.toInt ≤ (-1)) ∨ (0 ≤ x3.toInt ∧ x3.toInt ≤ 31) ∨ (32 ≤ x3.toInt ∧ x3.toInt ≤ 2147483647) by have g1 := Int32.le_toInt x3; have g2 := Int32.toInt_lt x3; omega) with h3 | h3 | h3
      · refine z_aload_n B0 dL_law_655 rfl rfl ?_
        refine z_aload_n B0 dL_law_656 rfl rfl ?_
        refine z_iload_n B0 dL_law_657 rfl rfl ?_
        refine z_iconst (v := 1) B0 dL_law_658 (by decide) ?_
        refine z_iadd (v := 1) B0 dL_law_659 (by decide) ?_
        refine y_sld (j := 1) (v := 0) B0 hX hbl (by decide) e1.symm dL_law_660 ?_
        refine z_aload_n B0 dL_law_661 rfl rfl ?_
        refine z_iload_n B0 dL_law_662 rfl rfl ?_
        refine z_iconst (v := 2) B0 dL_law_663 (by decide) ?_
        refine z_iadd (v := 2) B0 dL_law_664 (by decide) ?_
        refine y_sld (j := 2) (v := x2) B0 hX hbl (by decide) e2.symm dL_law_665 ?_
        refine z_aload_n B0 dL_law_666 rfl rfl ?_
        refine z_iload_n B0 dL_law_667 rfl rfl ?_
        refine z_iconst (v := 3) B0 dL_law_668 (by decide) ?_
        refine z_iadd (v := 3) B0 dL_law_669 (by decide) ?_
        refine y_sld (j := 3) (v := x3) B0 hX hbl (by decide) e3.symm dL_law_670 ?_
        refine z_aload_n B0 dL_law_671 rfl rfl ?_
        refine z_iload_n B0 dL_law_672 rfl rfl ?_
        refine z_iconst (v := 4) B0 dL_law_673 (by decide) ?_
        refine z_iadd (v := 4) B0 dL_law_674 (by decide) ?_
        refine y_sld (j := 4) (v := x4) B0 hX hbl (by decide) e4.symm dL_law_675 ?_
        refine z_callC B0 (z_runV (q0 := 0) (As := [.int 0, .int x2, .int x3, .int x4]) (st := []) B0 (c_X11_lawful_15 (a := a) (cS0 w) x2 x3 x4 ⟨by omega, by omega⟩ ⟨by omega, by omega⟩) cf_X11_lawful (cw_0 cy tE a rw (cS0 w)) rfl wm_L_82 wi_X11_lawful ws_X11_lawful dL_law_676 rfl (Nat.le_of_ble_eq_true rfl) ⟨by decide, by decide, by decide, by decide⟩) (fun r1 u1 p1 => ?_)
        obtain ⟨rfl, -⟩ := p1
        refine z_aload_n B0 dL_law_679 rfl rfl ?_
        refine z_aload_n B0 dL_law_680 rfl rfl ?_
        refine z_iload_n B0 dL_law_681 rfl rfl ?_
        refine z_iconst (v := 1) B0 dL_law_682 (by decide) ?_
        refine z_iadd (v := 1) B0 dL_law_683 (by decide) ?_
        refine y_sld (j := 1) (v := 0) B0 hX hbl (by decide) e1.symm dL_law_684 ?_
        refine z_aload_n B0 dL_law_685 rfl rfl ?_
        refine z_iload_n B0 dL_law_686 rfl rfl ?_
        refine z_iconst (v := 2) B0 dL_law_687 (by decide) ?_
        refine z_iadd (v := 2) B0 dL_law_688 (by decide) ?_
        refine y_sld (j := 2) (v := x2) B0 hX hbl (by decide) e2.symm dL_law_689 ?_
        refine z_aload_n B0 dL_law_690 rfl rfl ?_
        refine z_iload_n B0 dL_law_691 rfl rfl ?_
        refine z_iconst (v := 3) B0 dL_law_692 (by decide) ?_
        refine z_iadd (v := 3) B0 dL_law_693 (by decide) ?_
        refine y_sld (j := 3) (v := x3) B0 hX hbl (by decide) e3.symm dL_law_694 ?_
        refine z_aload_n B0 dL_law_695 rfl rfl ?_
        refine z_iload_n B0 dL_law_696 rfl rfl ?_
        refine z_iconst (v := 4) B0 dL_law_697 (by decide) ?_
        refine z_iadd (v := 4) B0 dL_law_698 (by decide) ?_
        refine y_sld (j := 4) (v := x4) B0 hX hbl (by decide) e4.symm dL_law_699 ?_
        refine z_callM B0 (z_runV (q0 := 0) (As := [.int 0, .int x2, .int x3, .int x4]) (st := [.int (-1)]) B0 (c_X12_lawful_15 (a := a2) mS0 x2 x3 x4 ⟨by omega, by omega⟩ ⟨by omega, by omega⟩) cf_X12_lawful (mw_0 cy a2 mS0) rfl wm_L_86 wi_X12_lawful ws_X12_lawful dL_law_700 rfl (Nat.le_of_ble_eq_true rfl) ⟨by decide, by decide, by decide, by decide⟩) (fun r2 u2 p2 => ?_)
        obtain ⟨rfl, -⟩ := p2
        refine z_icmp_eq_t (tgt := 1091) B0 dL_law_703 (by decide) rfl ?_
        exact fin u1 u2
      · rcases (show ((-2147483648) ≤ x4.toInt ∧ x4.toInt ≤ (-1)) ∨ x4.toInt = 0 ∨ x4.toInt = 1 ∨ (2 ≤ x4.toInt ∧ x4.toInt ≤ 2147483647) by have g1 := Int32.le_toInt x4; have g2 := Int32.toInt_lt x4; omega) with h4 | h4 | h4 | h4
        · refine z_aload_n B0 dL_law_655 rfl rfl ?_
          refine z_aload_n B0 dL_law_656 rfl rfl ?_
          refine z_iload_n B0 dL_law_657 rfl rfl ?_
          refine z_iconst (v := 1) B0 dL_law_658 (by decide) ?_
          refine z_iadd (v := 1) B0 dL_law_659 (by decide) ?_
          refine y_sld (j := 1) (v := 0) B0 hX hbl (by decide) e1.symm dL_law_660 ?_
          refine z_aload_n B0 dL_law_661 rfl rfl ?_
          refine z_iload_n B0 dL_law_662 rfl rfl ?_
          refine z_iconst (v := 2) B0 dL_law_663 (by decide) ?_
          refine z_iadd (v := 2) B0 dL_law_664 (by decide) ?_
          refine y_sld (j := 2) (v := x2) B0 hX hbl (by decide) e2.symm dL_law_665 ?_
          refine z_aload_n B0 dL_law_666 rfl rfl ?_
          refine z_iload_n B0 dL_law_667 rfl rfl ?_
          refine z_iconst (v := 3) B0 dL_law_668 (by decide) ?_
          refine z_iadd (v := 3) B0 dL_law_669 (by decide) ?_
          refine y_sld (j := 3) (v := x3) B0 hX hbl (by decide) e3.symm dL_law_670 ?_
          refine z_aload_n B0 dL_law_671 rfl rfl ?_
          refine z_iload_n B0 dL_law_672 rfl rfl ?_
          refine z_iconst (v := 4) B0 dL_law_673 (by decide) ?_
          refine z_iadd (v := 4) B0 dL_law_674 (by decide) ?_
          refine y_sld (j := 4) (v := x4) B0 hX hbl (by decide) e4.symm dL_law_675 ?_
          refine z_callC B0 (z_runV (q0 := 0) (As := [.int 0, .int x2, .int x3, .int x4]) (st := []) B0 (c_X11_lawful_27 (a := a) (cS0 w) x2 x3 x4 ⟨by omega, by omega⟩ ⟨by omega, by omega⟩ ⟨by omega, by omega⟩) cf_X11_lawful (cw_0 cy tE a rw (cS0 w)) rfl wm_L_82 wi_X11_lawful ws_X11_lawful dL_law_676 rfl (Nat.le_of_ble_eq_true rfl) ⟨by decide, by decide, by decide, by decide⟩) (fun r1 u1 p1 => ?_)
          obtain ⟨rfl, -⟩ := p1
          refine z_aload_n B0 dL_law_679 rfl rfl ?_
          refine z_aload_n B0 dL_law_680 rfl rfl ?_
          refine z_iload_n B0 dL_law_681 rfl rfl ?_
          refine z_iconst (v := 1) B0 dL_law_682 (by decide) ?_
          refine z_iadd (v := 1) B0 dL_law_683 (by decide) ?_
          refine y_sld (j := 1) (v := 0) B0 hX hbl (by decide) e1.symm dL_law_684 ?_
          refine z_aload_n B0 dL_law_685 rfl rfl ?_
          refine z_iload_n B0 dL_law_686 rfl rfl ?_
          refine z_iconst (v := 2) B0 dL_law_687 (by decide) ?_
          refine z_iadd (v := 2) B0 dL_law_688 (by decide) ?_
          refine y_sld (j := 2) (v := x2) B0 hX hbl (by decide) e2.symm dL_law_689 ?_
          refine z_aload_n B0 dL_law_690 rfl rfl ?_
          refine z_iload_n B0 dL_law_691 rfl rfl ?_
          refine z_iconst (v := 3) B0 dL_law_692 (by decide) ?_
          refine z_iadd (v := 3) B0 dL_law_693 (by decide) ?_
          refine y_sld (j := 3) (v := x3) B0 hX hbl (by decide) e3.symm dL_law_694 ?_
          refine z_aload_n B0 dL_law_695 rfl rfl ?_
          refine z_iload_n B0 dL_law_696 rfl rfl ?_
          refine z_iconst (v := 4) B0 dL_law_697 (by decide) ?_
          refine z_iadd (v := 4) B0 dL_law_698 (by decide) ?_
          refine y_sld (j := 4) (v := x4) B0 hX hbl (by decide) e4.symm dL_law_699 ?_
          refine z_callM B0 (z_runV (q0 := 0) (As := [.int 0, .int x2, .int x3, .int x4]) (st := [.int (-1)]) B0 (c_X12_lawful_27 (a := a2) mS0 x2 x3 x4 ⟨by omega, by omega⟩ ⟨by omega, by omega⟩ ⟨by omega, by omega⟩) cf_X12_lawful (mw_0 cy a2 mS0) rfl wm_L_86 wi_X12_lawful ws_X12_lawful dL_law_700 rfl (Nat.le_of_ble_eq_true rfl) ⟨by decide, by decide, by decide, by decide⟩) (fun r2 u2 p2 => ?_)
          obtain ⟨rfl, -⟩ := p2
          refine z_icmp_eq_t (tgt := 1091) B0 dL_law_703 (by decide) rfl ?_
          exact fin u1 u2
        · obtain rfl : x4 = 0 := Int32.toInt_inj.mp (h4.trans (by decide))
          refine z_aload_n B0 dL_law_655 rfl rfl ?_
          refine z_aload_n B0 dL_law_656 rfl rfl ?_
          refine z_iload_n B0 dL_law_657 rfl rfl ?_
          refine z_iconst (v := 1) B0 dL_law_658 (by decide) ?_
          refine z_iadd (v := 1) B0 dL_law_659 (by decide) ?_
          refine y_sld (j := 1) (v := 0) B0 hX hbl (by decide) e1.symm dL_law_660 ?_
          refine z_aload_n B0 dL_law_661 rfl rfl ?_
          refine z_iload_n B0 dL_law_662 rfl rfl ?_
          refine z_iconst (v := 2) B0 dL_law_663 (by decide) ?_
          refine z_iadd (v := 2) B0 dL_law_664 (by decide) ?_
          refine y_sld (j := 2) (v := x2) B0 hX hbl (by decide) e2.symm dL_law_665 ?_
          refine z_aload_n B0 dL_law_666 rfl rfl ?_
          refine z_iload_n B0 dL_law_667 rfl rfl ?_
          refine z_iconst (v := 3) B0 dL_law_668 (by decide) ?_
          refine z_iadd (v := 3) B0 dL_law_669 (by decide) ?_
          refine y_sld (j := 3) (v := x3) B0 hX hbl (by decide) e3.symm dL_law_670 ?_
          refine z_aload_n B0 dL_law_671 rfl rfl ?_
          refine z_iload_n B0 dL_law_672 rfl rfl ?_
          refine z_iconst (v := 4) B0 dL_law_673 (by decide) ?_
          refine z_iadd (v := 4) B0 dL_law_674 (by decide) ?_
          refine y_sld (j := 4) (v := 0) B0 hX hbl (by decide) e4.symm dL_law_675 ?_
          refine z_callC B0 (z_runV (q0 := 0) (As := [.int 0, .int x2, .int x3, .int 0]) (st := []) B0 (c_X11_lawful_28 (a := a) (cS0 w) x2 x3 rfl rfl hrw ⟨by omega, by omega⟩ ⟨by omega, by omega⟩) cf_X11_lawful (cw_0 cy tE a rw (cS0 w)) rfl wm_L_82 wi_X11_lawful ws_X11_lawful dL_law_676 rfl (Nat.le_of_ble_eq_true rfl) ⟨by decide, by decide, by decide, by decide⟩) (fun r1 u1 p1 => ?_)
          obtain ⟨rfl, -⟩ := p1
          refine z_aload_n B0 dL_law_679 rfl rfl ?_
          refine z_aload_n B0 dL_law_680 rfl rfl ?_
          refine z_iload_n B0 dL_law_681 rfl rfl ?_
          refine z_iconst (v := 1) B0 dL_law_682 (by decide) ?_
          refine z_iadd (v := 1) B0 dL_law_683 (by decide) ?_
          refine y_sld (j := 1) (v := 0) B0 hX hbl (by decide) e1.symm dL_law_684 ?_
          refine z_aload_n B0 dL_law_685 rfl rfl ?_
          refine z_iload_n B0 dL_law_686 rfl rfl ?_
          refine z_iconst (v := 2) B0 dL_law_687 (by decide) ?_
          refine z_iadd (v := 2) B0 dL_law_688 (by decide) ?_
          refine y_sld (j := 2) (v := x2) B0 hX hbl (by decide) e2.symm dL_law_689 ?_
          refine z_aload_n B0 dL_law_690 rfl rfl ?_
          refine z_iload_n B0 dL_law_691 rfl rfl ?_
          refine z_iconst (v := 3) B0 dL_law_692 (by decide) ?_
          refine z_iadd (v := 3) B0 dL_law_693 (by decide) ?_
          refine y_sld (j := 3) (v := x3) B0 hX hbl (by decide) e3.symm dL_law_694 ?_
          refine z_aload_n B0 dL_law_695 rfl rfl ?_
          refine z_iload_n B0 dL_law_696 rfl rfl ?_
          refine z_iconst (v := 4) B0 dL_law_697 (by decide) ?_
          refine z_iadd (v := 4) B0 dL_law_698 (by decide) ?_
          refine y_sld (j := 4) (v := 0) B0 hX hbl (by decide) e4.symm dL_law_699 ?_
          refine z_callM B0 (z_runV (q0 := 0) (As := [.int 0, .int x2, .int x3, .int 0]) (st := [.int 0]) B0 (c_X12_lawful_28 (a := a2) mS0 x2 x3 rfl rfl ⟨by omega, by omega⟩ ⟨by omega, by omega⟩) cf_X12_lawful (mw_0 cy a2 mS0) rfl wm_L_86 wi_X12_lawful ws_X12_lawful dL_law_700 rfl (Nat.le_of_ble_eq_true rfl) ⟨by decide, by decide, by decide, by decide⟩) (fun r2 u2 p2 => ?_)
          obtain ⟨rfl, -⟩ := p2
          refine z_icmp_eq_t (tgt := 1091) B0 dL_law_703 (by decide) rfl ?_
          exact fin u1 u2
        · obtain rfl : x4 = 1 := Int32.toInt_inj.mp (h4.trans (by decide))
          refine z_aload_n B0 dL_law_655 rfl rfl ?_
          refine z_aload_n B0 dL_law_656 rfl rfl ?_
          refine z_iload_n B0 dL_law_657 rfl rfl ?_
          refine z_iconst (v := 1) B0 dL_law_658 (by decide) ?_
          refine z_iadd (v := 1) B0 dL_law_659 (by decide) ?_
          refine y_sld (j := 1) (v := 0) B0 hX hbl (by decide) e1.symm dL_law_660 ?_
          refine z_aload_n B0 dL_law_661 rfl rfl ?_
          refine z_iload_n B0 dL_law_662 rfl rfl ?_
          refine z_iconst (v := 2) B0 dL_law_663 (by decide) ?_
          refine z_iadd (v := 2) B0 dL_law_664 (by decide) ?_
          refine y_sld (j := 2) (v := x2) B0 hX hbl (by decide) e2.symm dL_law_665 ?_
          refine z_aload_n B0 dL_law_666 rfl rfl ?_
          refine z_iload_n B0 dL_law_667 rfl rfl ?_
          refine z_iconst (v := 3) B0 dL_law_668 (by decide) ?_
          refine z_iadd (v := 3) B0 dL_law_669 (by decide) ?_
          refine y_sld (j := 3) (v := x3) B0 hX hbl (by decide) e3.symm dL_law_670 ?_
          refine z_aload_n B0 dL_law_671 rfl rfl ?_
          refine z_iload_n B0 dL_law_672 rfl rfl ?_
          refine z_iconst (v := 4) B0 dL_law_673 (by decide) ?_
          refine z_iadd (v := 4) B0 dL_law_674 (by decide) ?_
          refine y_sld (j := 4) (v := 1) B0 hX hbl (by decide) e4.symm dL_law_675 ?_
          refine z_callC B0 (z_runV (q0 := 0) (As := [.int 0, .int x2, .int x3, .int 1]) (st := []) B0 (c_X11_lawful_29 (a := a) (cS0 w) x2 x3 rfl rfl hrw ⟨by omega, by omega⟩ ⟨by omega, by omega⟩) cf_X11_lawful (cw_0 cy tE a rw (cS0 w)) rfl wm_L_82 wi_X11_lawful ws_X11_lawful dL_law_676 rfl (Nat.le_of_ble_eq_true rfl) ⟨by decide, by decide, by decide, by decide⟩) (fun r1 u1 p1 => ?_)
          obtain ⟨rfl, -⟩ := p1
          refine z_aload_n B0 dL_law_679 rfl rfl ?_
          refine z_aload_n B0 dL_law_680 rfl rfl ?_
          refine z_iload_n B0 dL_law_681 rfl rfl ?_
          refine z_iconst (v := 1) B0 dL_law_682 (by decide) ?_
          refine z_iadd (v := 1) B0 dL_law_683 (by decide) ?_
          refine y_sld (j := 1) (v := 0) B0 hX hbl (by decide) e1.symm dL_law_684 ?_
          refine z_aload_n B0 dL_law_685 rfl rfl ?_
          refine z_iload_n B0 dL_law_686 rfl rfl ?_
          refine z_iconst (v := 2) B0 dL_law_687 (by decide) ?_
          refine z_iadd (v := 2) B0 dL_law_688 (by decide) ?_
          refine y_sld (j := 2) (v := x2) B0 hX hbl (by decide) e2.symm dL_law_689 ?_
          refine z_aload_n B0 dL_law_690 rfl rfl ?_
          refine z_iload_n B0 dL_law_691 rfl rfl ?_
          refine z_iconst (v := 3) B0 dL_law_692 (by decide) ?_
          refine z_iadd (v := 3) B0 dL_law_693 (by decide) ?_
          refine y_sld (j := 3) (v := x3) B0 hX hbl (by decide) e3.symm dL_law_694 ?_
          refine z_aload_n B0 dL_law_695 rfl rfl ?_
          refine z_iload_n B0 dL_law_696 rfl rfl ?_
          refine z_iconst (v := 4) B0 dL_law_697 (by decide) ?_
          refine z_iadd (v := 4) B0 dL_law_698 (by decide) ?_
          refine y_sld (j := 4) (v := 1) B0 hX hbl (by decide) e4.symm dL_law_699 ?_
          refine z_callM B0 (z_runV (q0 := 0) (As := [.int 0, .int x2, .int x3, .int 1]) (st := [.int (-1)]) B0 (c_X12_lawful_29 (a := a2) mS0 x2 x3 rfl rfl ⟨by omega, by omega⟩ ⟨by omega, by omega⟩) cf_X12_lawful (mw_0 cy a2 mS0) rfl wm_L_86 wi_X12_lawful ws_X12_lawful dL_law_700 rfl (Nat.le_of_ble_eq_true rfl) ⟨by decide, by decide, by decide, by decide⟩) (fun r2 u2 p2 => ?_)
          obtain ⟨rfl, -⟩ := p2
          refine z_icmp_eq_t (tgt := 1091) B0 dL_law_703 (by decide) rfl ?_
          exact fin u1 u2
        · refine z_aload_n B0 dL_law_655 rfl rfl ?_
          refine z_aload_n B0 dL_law_656 rfl rfl ?_
          refine z_iload_n B0 dL_law_657 rfl rfl ?_
          refine z_iconst (v := 1) B0 dL_law_658 (by decide) ?_
          refine z_iadd (v := 1) B0 dL_law_659 (by decide) ?_
          refine y_sld (j := 1) (v := 0) B0 hX hbl (by decide) e1.symm dL_law_660 ?_
          refine z_aload_n B0 dL_law_661 rfl rfl ?_
          refine z_iload_n B0 dL_law_662 rfl rfl ?_
          refine z_iconst (v := 2) B0 dL_law_663 (by decide) ?_
          refine z_iadd (v := 2) B0 dL_law_664 (by decide) ?_
          refine y_sld (j := 2) (v := x2) B0 hX hbl (by decide) e2.symm dL_law_665 ?_
          refine z_aload_n B0 dL_law_666 rfl rfl ?_
          refine z_iload_n B0 dL_law_667 rfl rfl ?_
          refine z_iconst (v := 3) B0 dL_law_668 (by decide) ?_
          refine z_iadd (v := 3) B0 dL_law_669 (by decide) ?_
          refine y_sld (j := 3) (v := x3) B0 hX hbl (by decide) e3.symm dL_law_670 ?_
          refine z_aload_n B0 dL_law_671 rfl rfl ?_
          refine z_iload_n B0 dL_law_672 rfl rfl ?_
          refine z_iconst (v := 4) B0 dL_law_673 (by decide) ?_
          refine z_iadd (v := 4) B0 dL_law_674 (by decide) ?_
          refine y_sld (j := 4) (v := x4) B0 hX hbl (by decide) e4.symm dL_law_675 ?_
          refine z_callC B0 (z_runV (q0 := 0) (As := [.int 0, .int x2, .int x3, .int x4]) (st := []) B0 (c_X11_lawful_30 (a := a) (cS0 w) x2 x3 x4 ⟨by omega, by omega⟩ ⟨by omega, by omega⟩ ⟨by omega, by omega⟩) cf_X11_lawful (cw_0 cy tE a rw (cS0 w)) rfl wm_L_82 wi_X11_lawful ws_X11_lawful dL_law_676 rfl (Nat.le_of_ble_eq_true rfl) ⟨by decide, by decide, by decide, by decide⟩) (fun r1 u1 p1 => ?_)
          obtain ⟨rfl, -⟩ := p1
          refine z_aload_n B0 dL_law_679 rfl rfl ?_
          refine z_aload_n B0 dL_law_680 rfl rfl ?_
          refine z_iload_n B0 dL_law_681 rfl rfl ?_
          refine z_iconst (v := 1) B0 dL_law_682 (by decide) ?_
          refine z_iadd (v := 1) B0 dL_law_683 (by decide) ?_
          refine y_sld (j := 1) (v := 0) B0 hX hbl (by decide) e1.symm dL_law_684 ?_
          refine z_aload_n B0 dL_law_685 rfl rfl ?_
          refine z_iload_n B0 dL_law_686 rfl rfl ?_
          refine z_iconst (v := 2) B0 dL_law_687 (by decide) ?_
          refine z_iadd (v := 2) B0 dL_law_688 (by decide) ?_
          refine y_sld (j := 2) (v := x2) B0 hX hbl (by decide) e2.symm dL_law_689 ?_
          refine z_aload_n B0 dL_law_690 rfl rfl ?_
          refine z_iload_n B0 dL_law_691 rfl rfl ?_
          refine z_iconst (v := 3) B0 dL_law_692 (by decide) ?_
          refine z_iadd (v := 3) B0 dL_law_693 (by decide) ?_
          refine y_sld (j := 3) (v := x3) B0 hX hbl (by decide) e3.symm dL_law_694 ?_
          refine z_aload_n B0 dL_law_695 rfl rfl ?_
          refine z_iload_n B0 dL_law_696 rfl rfl ?_
          refine z_iconst (v := 4) B0 dL_law_697 (by decide) ?_
          refine z_iadd (v := 4) B0 dL_law_698 (by decide) ?_
          refine y_sld (j := 4) (v := x4) B0 hX hbl (by decide) e4.symm dL_law_699 ?_
          refine z_callM B0 (z_runV (q0 := 0) (As := [.int 0, .int x2, .int x3, .int x4]) (st := [.int (-1)]) B0 (c_X12_lawful_30 (a := a2) mS0 x2 x3 x4 ⟨by omega, by omega⟩ ⟨by omega, by omega⟩ ⟨by omega, by omega⟩) cf_X12_lawful (mw_0 cy a2 mS0) rfl wm_L_86 wi_X12_lawful ws_X12_lawful dL_law_700 rfl (Nat.le_of_ble_eq_true rfl) ⟨by decide, by decide, by decide, by decide⟩) (fun r2 u2 p2 => ?_)
          obtain ⟨rfl, -⟩ := p2
          refine z_icmp_eq_t (tgt := 1091) B0 dL_law_703 (by decide) rfl ?_
          exact fin u1 u2
      · refine z_aload_n B0 dL_law_655 rfl rfl ?_
        refine z_aload_n B0 dL_law_656 rfl rfl ?_
        refine z_iload_n B0 dL_law_657 rfl rfl ?_
        refine z_iconst (v := 1) B0 dL_law_658 (by decide) ?_
        refine z_iadd (v := 1) B0 dL_law_659 (by decide) ?_
        refine y_sld (j := 1) (v := 0) B0 hX hbl (by decide) e1.symm dL_law_660 ?_
        refine z_aload_n B0 dL_law_661 rfl rfl ?_
        refine z_iload_n B0 dL_law_662 rfl rfl ?_
        refine z_iconst (v := 2) B0 dL_law_663 (by decide) ?_
        refine z_iadd (v := 2) B0 dL_law_664 (by decide) ?_
        refine y_sld (j := 2) (v := x2) B0 hX hbl (by decide) e2.symm dL_law_665 ?_
        refine z_aload_n B0 dL_law_666 rfl rfl ?_
        refine z_iload_n B0 dL_law_667 rfl rfl ?_
        refine z_iconst (v := 3) B0 dL_law_668 (by decide) ?_
        refine z_iadd (v := 3) B0 dL_law_669 (by decide) ?_
        refine y_sld (j := 3) (v := x3) B0 hX hbl (by decide) e3.symm dL_law_670 ?_
        refine z_aload_n B0 dL_law_671 rfl rfl ?_
        refine z_iload_n B0 dL_law_672 rfl rfl ?_
        refine z_iconst (v := 4) B0 dL_law_673 (by decide) ?_
        refine z_iadd (v := 4) B0 dL_law_674 (by decide) ?_
        refine y_sld (j := 4) (v := x4) B0 hX hbl (by decide) e4.symm dL_law_675 ?_
        refine z_callC B0 (z_runV (q0 := 0) (As := [.int 0, .int x2, .int x3, .int x4]) (st := []) B0 (c_X11_lawful_16 (a := a) (cS0 w) x2 x3 x4 ⟨by omega, by omega⟩ ⟨by omega, by omega⟩) cf_X11_lawful (cw_0 cy tE a rw (cS0 w)) rfl wm_L_82 wi_X11_lawful ws_X11_lawful dL_law_676 rfl (Nat.le_of_ble_eq_true rfl) ⟨by decide, by decide, by decide, by decide⟩) (fun r1 u1 p1 => ?_)
        obtain ⟨rfl, -⟩ := p1
        refine z_aload_n B0 dL_law_679 rfl rfl ?_
        refine z_aload_n B0 dL_law_680 rfl rfl ?_
        refine z_iload_n B0 dL_law_681 rfl rfl ?_
        refine z_iconst (v := 1) B0 dL_law_682 (by decide) ?_
        refine z_iadd (v := 1) B0 dL_law_683 (by decide) ?_
        refine y_sld (j := 1) (v := 0) B0 hX hbl (by decide) e1.symm dL_law_684 ?_
        refine z_aload_n B0 dL_law_685 rfl rfl ?_
        refine z_iload_n B0 dL_law_686 rfl rfl ?_
        refine z_iconst (v := 2) B0 dL_law_687 (by decide) ?_
        refine z_iadd (v := 2) B0 dL_law_688 (by decide) ?_
        refine y_sld (j := 2) (v := x2) B0 hX hbl (by decide) e2.symm dL_law_689 ?_
        refine z_aload_n B0 dL_law_690 rfl rfl ?_
        refine z_iload_n B0 dL_law_691 rfl rfl ?_
        refine z_iconst (v := 3) B0 dL_law_692 (by decide) ?_
        refine z_iadd (v := 3) B0 dL_law_693 (by decide) ?_
        refine y_sld (j := 3) (v := x3) B0 hX hbl (by decide) e3.symm dL_law_694 ?_
        refine z_aload_n B0 dL_law_695 rfl rfl ?_
        refine z_iload_n B0 dL_law_696 rfl rfl ?_
        refine z_iconst (v := 4) B0 dL_law_697 (by decide) ?_
        refine z_iadd (v := 4) B0 dL_law_698 (by decide) ?_
        refine y_sld (j := 4) (v := x4) B0 hX hbl (by decide) e4.symm dL_law_699 ?_
        refine z_callM B0 (z_runV (q0 := 0) (As := [.int 0, .int x2, .int x3, .int x4]) (st := [.int (-1)]) B0 (c_X12_lawful_16 (a := a2) mS0 x2 x3 x4 ⟨by omega, by omega⟩ ⟨by omega, by omega⟩) cf_X12_lawful (mw_0 cy a2 mS0) rfl wm_L_86 wi_X12_lawful ws_X12_lawful dL_law_700 rfl (Nat.le_of_ble_eq_true rfl) ⟨by decide, by decide, by decide, by decide⟩) (fun r2 u2 p2 => ?_)
        obtain ⟨rfl, -⟩ := p2
        refine z_icmp_eq_t (tgt := 1091) B0 dL_law_703 (by decide) rfl ?_
        exact fin u1 u2
    · refine z_aload_n B0 dL_law_655 rfl rfl ?_
      refine z_aload_n B0 dL_law_656 rfl rfl ?_
      refine z_iload_n B0 dL_law_657 rfl rfl ?_
      refine z_iconst (v := 1) B0 dL_law_658 (by decide) ?_
      refine z_iadd (v := 1) B0 dL_law_659 (by decide) ?_
      refine y_sld (j := 1) (v := 0) B0 hX hbl (by decide) e1.symm dL_law_660 ?_
      refine z_aload_n B0 dL_law_661 rfl rfl ?_
      refine z_iload_n B0 dL_law_662 rfl rfl ?_
      refine z_iconst (v := 2) B0 dL_law_663 (by decide) ?_
      refine z_iadd (v := 2) B0 dL_law_664 (by decide) ?_
      refine y_sld (j := 2) (v := x2) B0 hX hbl (by decide) e2.symm dL_law_665 ?_
      refine z_aload_n B0 dL_law_666 rfl rfl ?_
      refine z_iload_n B0 dL_law_667 rfl rfl ?_
      refine z_iconst (v := 3) B0 dL_law_668 (by decide) ?_
      refine z_iadd (v := 3) B0 dL_law_669 (by decide) ?_
      refine y_sld (j := 3) (v := x3) B0 hX hbl (by decide) e3.symm dL_law_670 ?_
      refine z_aload_n B0 dL_law_671 rfl rfl ?_
      refine z_iload_n B0 dL_law_672 rfl rfl ?_
      refine z_iconst (v := 4) B0 dL_law_673 (by decide) ?_
      refine z_iadd (v := 4) B0 dL_law_674 (by decide) ?_
      refine y_sld (j := 4) (v := x4) B0 hX hbl (by decide) e4.symm dL_law_675 ?_
      refine z_callC B0 (z_runV (q0 := 0) (As := [.int 0, .int x2, .int x3, .int x4]) (st := []) B0 (c_X11_lawful_4 (a := a) (cS0 w) x2 x3 x4 ⟨by omega, by omega⟩) cf_X11_lawful (cw_0 cy tE a rw (cS0 w)) rfl wm_L_82 wi_X11_lawful ws_X11_lawful dL_law_676 rfl (Nat.le_of_ble_eq_true rfl) ⟨by decide, by decide, by decide, by decide⟩) (fun r1 u1 p1 => ?_)
      obtain ⟨rfl, -⟩ := p1
      refine z_aload_n B0 dL_law_679 rfl rfl ?_
      refine z_aload_n B0 dL_law_680 rfl rfl ?_
      refine z_iload_n B0 dL_law_681 rfl rfl ?_
      refine z_iconst (v := 1) B0 dL_law_682 (by decide) ?_
      refine z_iadd (v := 1) B0 dL_law_683 (by decide) ?_
      refine y_sld (j := 1) (v := 0) B0 hX hbl (by decide) e1.symm dL_law_684 ?_
      refine z_aload_n B0 dL_law_685 rfl rfl ?_
      refine z_iload_n B0 dL_law_686 rfl rfl ?_
      refine z_iconst (v := 2) B0 dL_law_687 (by decide) ?_
      refine z_iadd (v := 2) B0 dL_law_688 (by decide) ?_
      refine y_sld (j := 2) (v := x2) B0 hX hbl (by decide) e2.symm dL_law_689 ?_
      refine z_aload_n B0 dL_law_690 rfl rfl ?_
      refine z_iload_n B0 dL_law_691 rfl rfl ?_
      refine z_iconst (v := 3) B0 dL_law_692 (by decide) ?_
      refine z_iadd (v := 3) B0 dL_law_693 (by decide) ?_
      refine y_sld (j := 3) (v := x3) B0 hX hbl (by decide) e3.symm dL_law_694 ?_
      refine z_aload_n B0 dL_law_695 rfl rfl ?_
      refine z_iload_n B0 dL_law_696 rfl rfl ?_
      refine z_iconst (v := 4) B0 dL_law_697 (by decide) ?_
      refine z_iadd (v := 4) B0 dL_law_698 (by decide) ?_
      refine y_sld (j := 4) (v := x4) B0 hX hbl (by decide) e4.symm dL_law_699 ?_
      refine z_callM B0 (z_runV (q0 := 0) (As := [.int 0, .int x2, .int x3, .int x4]) (st := [.int (-1)]) B0 (c_X12_lawful_4 (a := a2) mS0 x2 x3 x4 ⟨by omega, by omega⟩) cf_X12_lawful (mw_0 cy a2 mS0) rfl wm_L_86 wi_X12_lawful ws_X12_lawful dL_law_700 rfl (Nat.le_of_ble_eq_true rfl) ⟨by decide, by decide, by decide, by decide⟩) (fun r2 u2 p2 => ?_)
      obtain ⟨rfl, -⟩ := p2
      refine z_icmp_eq_t (tgt := 1091) B0 dL_law_703 (by decide) rfl ?_
      exact fin u1 u2
  · obtain rfl : x1 = 1 := Int32.toInt_inj.mp (h1.trans (by decide))
    rcases (show ((-2147483648) ≤ x2.toInt ∧ x2.toInt ≤ 0) ∨ (1 ≤ x2.toInt ∧ x2.toInt ≤ 3) ∨ (4 ≤ x2.toInt ∧ x2.toInt ≤ 2147483647) by have g1 := Int32.le_toInt x2; have g2 := Int32.toInt_lt x2; omega) with h2 | h2 | h2
    · refine z_aload_n B0 dL_law_655 rfl rfl ?_
      refine z_aload_n B0 dL_law_656 rfl rfl ?_
      refine z_iload_n B0 dL_law_657 rfl rfl ?_
      refine z_iconst (v := 1) B0 dL_law_658 (by decide) ?_
      refine z_iadd (v := 1) B0 dL_law_659 (by decide) ?_
      refine y_sld (j := 1) (v := 1) B0 hX hbl (by decide) e1.symm dL_law_660 ?_
      refine z_aload_n B0 dL_law_661 rfl rfl ?_
      refine z_iload_n B0 dL_law_662 rfl rfl ?_
      refine z_iconst (v := 2) B0 dL_law_663 (by decide) ?_
      refine z_iadd (v := 2) B0 dL_law_664 (by decide) ?_
      refine y_sld (j := 2) (v := x2) B0 hX hbl (by decide) e2.symm dL_law_665 ?_
      refine z_aload_n B0 dL_law_666 rfl rfl ?_
      refine z_iload_n B0 dL_law_667 rfl rfl ?_
      refine z_iconst (v := 3) B0 dL_law_668 (by decide) ?_
      refine z_iadd (v := 3) B0 dL_law_669 (by decide) ?_
      refine y_sld (j := 3) (v := x3) B0 hX hbl (by decide) e3.symm dL_law_670 ?_
      refine z_aload_n B0 dL_law_671 rfl rfl ?_
      refine z_iload_n B0 dL_law_672 rfl rfl ?_
      refine z_iconst (v := 4) B0 dL_law_673 (by decide) ?_
      refine z_iadd (v := 4) B0 dL_law_674 (by decide) ?_
      refine y_sld (j := 4) (v := x4) B0 hX hbl (by decide) e4.symm dL_law_675 ?_
      refine z_callC B0 (z_runV (q0 := 0) (As := [.int 1, .int x2, .int x3, .int x4]) (st := []) B0 (c_X11_lawful_5 (a := a) (cS0 w) x2 x3 x4 ⟨by omega, by omega⟩) cf_X11_lawful (cw_0 cy tE a rw (cS0 w)) rfl wm_L_82 wi_X11_lawful ws_X11_lawful dL_law_676 rfl (Nat.le_of_ble_eq_true rfl) ⟨by decide, by decide, by decide, by decide⟩) (fun r1 u1 p1 => ?_)
      obtain ⟨rfl, -⟩ := p1
      refine z_aload_n B0 dL_law_679 rfl rfl ?_
      refine z_aload_n B0 dL_law_680 rfl rfl ?_
      refine z_iload_n B0 dL_law_681 rfl rfl ?_
      refine z_iconst (v := 1) B0 dL_law_682 (by decide) ?_
      refine z_iadd (v := 1) B0 dL_law_683 (by decide) ?_
      refine y_sld (j := 1) (v := 1) B0 hX hbl (by decide) e1.symm dL_law_684 ?_
      refine z_aload_n B0 dL_law_685 rfl rfl ?_
      refine z_iload_n B0 dL_law_686 rfl rfl ?_
      refine z_iconst (v := 2) B0 dL_law_687 (by decide) ?_
      refine z_iadd (v := 2) B0 dL_law_688 (by decide) ?_
      refine y_sld (j := 2) (v := x2) B0 hX hbl (by decide) e2.symm dL_law_689 ?_
      refine z_aload_n B0 dL_law_690 rfl rfl ?_
      refine z_iload_n B0 dL_law_691 rfl rfl ?_
      refine z_iconst (v := 3) B0 dL_law_692 (by decide) ?_
      refine z_iadd (v := 3) B0 dL_law_693 (by decide) ?_
      refine y_sld (j := 3) (v := x3) B0 hX hbl (by decide) e3.symm dL_law_694 ?_
      refine z_aload_n B0 dL_law_695 rfl rfl ?_
      refine z_iload_n B0 dL_law_696 rfl rfl ?_
      refine z_iconst (v := 4) B0 dL_law_697 (by decide) ?_
      refine z_iadd (v := 4) B0 dL_law_698 (by decide) ?_
      refine y_sld (j := 4) (v := x4) B0 hX hbl (by decide) e4.symm dL_law_699 ?_
      refine z_callM B0 (z_runV (q0 := 0) (As := [.int 1, .int x2, .int x3, .int x4]) (st := [.int (-1)]) B0 (c_X12_lawful_5 (a := a2) mS0 x2 x3 x4 ⟨by omega, by omega⟩) cf_X12_lawful (mw_0 cy a2 mS0) rfl wm_L_86 wi_X12_lawful ws_X12_lawful dL_law_700 rfl (Nat.le_of_ble_eq_true rfl) ⟨by decide, by decide, by decide, by decide⟩) (fun r2 u2 p2 => ?_)
      obtain ⟨rfl, -⟩ := p2
      refine z_icmp_eq_t (tgt := 1091) B0 dL_law_703 (by decide) rfl ?_
      exact fin u1 u2
    · rcases (show ((-2147483648) ≤ x3.toInt ∧ x3.toInt ≤ (-1)) ∨ (0 ≤ x3.toInt ∧ x3.toInt ≤ 31) ∨ (32 ≤ x3.toInt ∧ x3.toInt ≤ 2147483647) by have g1 := Int32.le_toInt x3; have g2 := Int32.toInt_lt x3; omega) with h3 | h3 | h3
      · refine z_aload_n B0 dL_law_655 rfl rfl ?_
        refine z_aload_n B0 dL_law_656 rfl rfl ?_
        refine z_iload_n B0 dL_law_657 rfl rfl ?_
        refine z_iconst (v := 1) B0 dL_law_658 (by decide) ?_
        refine z_iadd (v := 1) B0 dL_law_659 (by decide) ?_
        refine y_sld (j := 1) (v := 1) B0 hX hbl (by decide) e1.symm dL_law_660 ?_
        refine z_aload_n B0 dL_law_661 rfl rfl ?_
        refine z_iload_n B0 dL_law_662 rfl rfl ?_
        refine z_iconst (v := 2) B0 dL_law_663 (by decide) ?_
        refine z_iadd (v := 2) B0 dL_law_664 (by decide) ?_
        refine y_sld (j := 2) (v := x2) B0 hX hbl (by decide) e2.symm dL_law_665 ?_
        refine z_aload_n B0 dL_law_666 rfl rfl ?_
        refine z_iload_n B0 dL_law_667 rfl rfl ?_
        refine z_iconst (v := 3) B0 dL_law_668 (by decide) ?_
        refine z_iadd (v := 3) B0 dL_law_669 (by decide) ?_
        refine y_sld (j := 3) (v := x3) B0 hX hbl (by decide) e3.symm dL_law_670 ?_
        refine z_aload_n B0 dL_law_671 rfl rfl ?_
        refine z_iload_n B0 dL_law_672 rfl rfl ?_
        refine z_iconst (v := 4) B0 dL_law_673 (by decide) ?_
        refine z_iadd (v := 4) B0 dL_law_674 (by decide) ?_
        refine y_sld (j := 4) (v := x4) B0 hX hbl (by decide) e4.symm dL_law_675 ?_
        refine z_callC B0 (z_runV (q0 := 0) (As := [.int 1, .int x2, .int x3, .int x4]) (st := []) B0 (c_X11_lawful_17 (a := a) (cS0 w) x2 x3 x4 ⟨by omega, by omega⟩ ⟨by omega, by omega⟩) cf_X11_lawful (cw_0 cy tE a rw (cS0 w)) rfl wm_L_82 wi_X11_lawful ws_X11_lawful dL_law_676 rfl (Nat.le_of_ble_eq_true rfl) ⟨by decide, by decide, by decide, by decide⟩) (fun r1 u1 p1 => ?_)
        obtain ⟨rfl, -⟩ := p1
        refine z_aload_n B0 dL_law_679 rfl rfl ?_
        refine z_aload_n B0 dL_law_680 rfl rfl ?_
        refine z_iload_n B0 dL_law_681 rfl rfl ?_
        refine z_iconst (v := 1) B0 dL_law_682 (by decide) ?_
        refine z_iadd (v := 1) B0 dL_law_683 (by decide) ?_
        refine y_sld (j := 1) (v := 1) B0 hX hbl (by decide) e1.symm dL_law_684 ?_
        refine z_aload_n B0 dL_law_685 rfl rfl ?_
        refine z_iload_n B0 dL_law_686 rfl rfl ?_
        refine z_iconst (v := 2) B0 dL_law_687 (by decide) ?_
        refine z_iadd (v := 2) B0 dL_law_688 (by decide) ?_
        refine y_sld (j := 2) (v := x2) B0 hX hbl (by decide) e2.symm dL_law_689 ?_
        refine z_aload_n B0 dL_law_690 rfl rfl ?_
        refine z_iload_n B0 dL_law_691 rfl rfl ?_
        refine z_iconst (v := 3) B0 dL_law_692 (by decide) ?_
        refine z_iadd (v := 3) B0 dL_law_693 (by decide) ?_
        refine y_sld (j := 3) (v := x3) B0 hX hbl (by decide) e3.symm dL_law_694 ?_
        refine z_aload_n B0 dL_law_695 rfl rfl ?_
        refine z_iload_n B0 dL_law_696 rfl rfl ?_
        refine z_iconst (v := 4) B0 dL_law_697 (by decide) ?_
        refine z_iadd (v := 4) B0 dL_law_698 (by decide) ?_
        refine y_sld (j := 4) (v := x4) B0 hX hbl (by decide) e4.symm dL_law_699 ?_
        refine z_callM B0 (z_runV (q0 := 0) (As := [.int 1, .int x2, .int x3, .int x4]) (st := [.int (-1)]) B0 (c_X12_lawful_17 (a := a2) mS0 x2 x3 x4 ⟨by omega, by omega⟩ ⟨by omega, by omega⟩) cf_X12_lawful (mw_0 cy a2 mS0) rfl wm_L_86 wi_X12_lawful ws_X12_lawful dL_law_700 rfl (Nat.le_of_ble_eq_true rfl) ⟨by decide, by decide, by decide, by decide⟩) (fun r2 u2 p2 => ?_)
        obtain ⟨rfl, -⟩ := p2
        refine z_icmp_eq_t (tgt := 1091) B0 dL_law_703 (by decide) rfl ?_
        exact fin u1 u2
      · rcases (show ((-2147483648) ≤ x4.toInt ∧ x4.toInt ≤ (-1)) ∨ x4.toInt = 0 ∨ x4.toInt = 1 ∨ (2 ≤ x4.toInt ∧ x4.toInt ≤ 2147483647) by have g1 := Int32.le_toInt x4; have g2 := Int32.toInt_lt x4; omega) with h4 | h4 | h4 | h4
        · refine z_aload_n B0 dL_law_655 rfl rfl ?_
          refine z_aload_n B0 dL_law_656 rfl rfl ?_
          refine z_iload_n B0 dL_law_657 rfl rfl ?_
          refine z_iconst (v := 1) B0 dL_law_658 (by decide) ?_
          refine z_iadd (v := 1) B0 dL_law_659 (by decide) ?_
          refine y_sld (j := 1) (v := 1) B0 hX hbl (by decide) e1.symm dL_law_660 ?_
          refine z_aload_n B0 dL_law_661 rfl rfl ?_
          refine z_iload_n B0 dL_law_662 rfl rfl ?_
          refine z_iconst (v := 2) B0 dL_law_663 (by decide) ?_
          refine z_iadd (v := 2) B0 dL_law_664 (by decide) ?_
          refine y_sld (j := 2) (v := x2) B0 hX hbl (by decide) e2.symm dL_law_665 ?_
          refine z_aload_n B0 dL_law_666 rfl rfl ?_
          refine z_iload_n B0 dL_law_667 rfl rfl ?_
          refine z_iconst (v := 3) B0 dL_law_668 (by decide) ?_
          refine z_iadd (v := 3) B0 dL_law_669 (by decide) ?_
          refine y_sld (j := 3) (v := x3) B0 hX hbl (by decide) e3.symm dL_law_670 ?_
          refine z_aload_n B0 dL_law_671 rfl rfl ?_
          refine z_iload_n B0 dL_law_672 rfl rfl ?_
          refine z_iconst (v := 4) B0 dL_law_673 (by decide) ?_
          refine z_iadd (v := 4) B0 dL_law_674 (by decide) ?_
          refine y_sld (j := 4) (v := x4) B0 hX hbl (by decide) e4.symm dL_law_675 ?_
          refine z_callC B0 (z_runV (q0 := 0) (As := [.int 1, .int x2, .int x3, .int x4]) (st := []) B0 (c_X11_lawful_31 (a := a) (cS0 w) x2 x3 x4 ⟨by omega, by omega⟩ ⟨by omega, by omega⟩ ⟨by omega, by omega⟩) cf_X11_lawful (cw_0 cy tE a rw (cS0 w)) rfl wm_L_82 wi_X11_lawful ws_X11_lawful dL_law_676 rfl (Nat.le_of_ble_eq_true rfl) ⟨by decide, by decide, by decide, by decide⟩) (fun r1 u1 p1 => ?_)
          obtain ⟨rfl, -⟩ := p1
          refine z_aload_n B0 dL_law_679 rfl rfl ?_
          refine z_aload_n B0 dL_law_680 rfl rfl ?_
          refine z_iload_n B0 dL_law_681 rfl rfl ?_
          refine z_iconst (v := 1) B0 dL_law_682 (by decide) ?_
          refine z_iadd (v := 1) B0 dL_law_683 (by decide) ?_
          refine y_sld (j := 1) (v := 1) B0 hX hbl (by decide) e1.symm dL_law_684 ?_
          refine z_aload_n B0 dL_law_685 rfl rfl ?_
          refine z_iload_n B0 dL_law_686 rfl rfl ?_
          refine z_iconst (v := 2) B0 dL_law_687 (by decide) ?_
          refine z_iadd (v := 2) B0 dL_law_688 (by decide) ?_
          refine y_sld (j := 2) (v := x2) B0 hX hbl (by decide) e2.symm dL_law_689 ?_
          refine z_aload_n B0 dL_law_690 rfl rfl ?_
          refine z_iload_n B0 dL_law_691 rfl rfl ?_
          refine z_iconst (v := 3) B0 dL_law_692 (by decide) ?_
          refine z_iadd (v := 3) B0 dL_law_693 (by decide) ?_
          refine y_sld (j := 3) (v := x3) B0 hX hbl (by decide) e3.symm dL_law_694 ?_
          refine z_aload_n B0 dL_law_695 rfl rfl ?_
          refine z_iload_n B0 dL_law_696 rfl rfl ?_
          refine z_iconst (v := 4) B0 dL_law_697 (by decide) ?_
          refine z_iadd (v := 4) B0 dL_law_698 (by decide) ?_
          refine y_sld (j := 4) (v := x4) B0 hX hbl (by decide) e4.symm dL_law_699 ?_
          refine z_callM B0 (z_runV (q0 := 0) (As := [.int 1, .int x2, .int x3, .int x4]) (st := [.int (-1)]) B0 (c_X12_lawful_31 (a := a2) mS0 x2 x3 x4 ⟨by omega, by omega⟩ ⟨by omega, by omega⟩ ⟨by omega, by omega⟩) cf_X12_lawful (mw_0 cy a2 mS0) rfl wm_L_86 wi_X12_lawful ws_X12_lawful dL_law_700 rfl (Nat.le_of_ble_eq_true rfl) ⟨by decide, by decide, by decide, by decide⟩) (fun r2 u2 p2 => ?_)
          obtain ⟨rfl, -⟩ := p2
          refine z_icmp_eq_t (tgt := 1091) B0 dL_law_703 (by decide) rfl ?_
          exact fin u1 u2
        · obtain rfl : x4 = 0 := Int32.toInt_inj.mp (h4.trans (by decide))
          refine z_aload_n B0 dL_law_655 rfl rfl ?_
          refine z_aload_n B0 dL_law_656 rfl rfl ?_
          refine z_iload_n B0 dL_law_657 rfl rfl ?_
          refine z_iconst (v := 1) B0 dL_law_658 (by decide) ?_
          refine z_iadd (v := 1) B0 dL_law_659 (by decide) ?_
          refine y_sld (j := 1) (v := 1) B0 hX hbl (by decide) e1.symm dL_law_660 ?_
          refine z_aload_n B0 dL_law_661 rfl rfl ?_
          refine z_iload_n B0 dL_law_662 rfl rfl ?_
          refine z_iconst (v := 2) B0 dL_law_663 (by decide) ?_
          refine z_iadd (v := 2) B0 dL_law_664 (by decide) ?_
          refine y_sld (j := 2) (v := x2) B0 hX hbl (by decide) e2.symm dL_law_665 ?_
          refine z_aload_n B0 dL_law_666 rfl rfl ?_
          refine z_iload_n B0 dL_law_667 rfl rfl ?_
          refine z_iconst (v := 3) B0 dL_law_668 (by decide) ?_
          refine z_iadd (v := 3) B0 dL_law_669 (by decide) ?_
          refine y_sld (j := 3) (v := x3) B0 hX hbl (by decide) e3.symm dL_law_670 ?_
          refine z_aload_n B0 dL_law_671 rfl rfl ?_
          refine z_iload_n B0 dL_law_672 rfl rfl ?_
          refine z_iconst (v := 4) B0 dL_law_673 (by decide) ?_
          refine z_iadd (v := 4) B0 dL_law_674 (by decide) ?_
          refine y_sld (j := 4) (v := 0) B0 hX hbl (by decide) e4.symm dL_law_675 ?_
          refine z_callC B0 (z_runV (q0 := 0) (As := [.int 1, .int x2, .int x3, .int 0]) (st := []) B0 (c_X11_lawful_32 (a := a) (cS0 w) x2 x3 rfl rfl hrw ⟨by omega, by omega⟩ ⟨by omega, by omega⟩) cf_X11_lawful (cw_0 cy tE a rw (cS0 w)) rfl wm_L_82 wi_X11_lawful ws_X11_lawful dL_law_676 rfl (Nat.le_of_ble_eq_true rfl) ⟨by decide, by decide, by decide, by decide⟩) (fun r1 u1 p1 => ?_)
          obtain ⟨rfl, -⟩ := p1
          refine z_aload_n B0 dL_law_679 rfl rfl ?_
          refine z_aload_n B0 dL_law_680 rfl rfl ?_
          refine z_iload_n B0 dL_law_681 rfl rfl ?_
          refine z_iconst (v := 1) B0 dL_law_682 (by decide) ?_
          refine z_iadd (v := 1) B0 dL_law_683 (by decide) ?_
          refine y_sld (j := 1) (v := 1) B0 hX hbl (by decide) e1.symm dL_law_684 ?_
          refine z_aload_n B0 dL_law_685 rfl rfl ?_
          refine z_iload_n B0 dL_law_686 rfl rfl ?_
          refine z_iconst (v := 2) B0 dL_law_687 (by decide) ?_
          refine z_iadd (v := 2) B0 dL_law_688 (by decide) ?_
          refine y_sld (j := 2) (v := x2) B0 hX hbl (by decide) e2.symm dL_law_689 ?_
          refine z_aload_n B0 dL_law_690 rfl rfl ?_
          refine z_iload_n B0 dL_law_691 rfl rfl ?_
          refine z_iconst (v := 3) B0 dL_law_692 (by decide) ?_
          refine z_iadd (v := 3) B0 dL_law_693 (by decide) ?_
          refine y_sld (j := 3) (v := x3) B0 hX hbl (by decide) e3.symm dL_law_694 ?_
          refine z_aload_n B0 dL_law_695 rfl rfl ?_
          refine z_iload_n B0 dL_law_696 rfl rfl ?_
          refine z_iconst (v := 4) B0 dL_law_697 (by decide) ?_
          refine z_iadd (v := 4) B0 dL_law_698 (by decide) ?_
          refine y_sld (j := 4) (v := 0) B0 hX hbl (by decide) e4.symm dL_law_699 ?_
          refine z_callM B0 (z_runV (q0 := 0) (As := [.int 1, .int x2, .int x3, .int 0]) (st := [.int 0]) B0 (c_X12_lawful_32 (a := a2) mS0 x2 x3 rfl rfl ⟨by omega, by omega⟩ ⟨by omega, by omega⟩) cf_X12_lawful (mw_0 cy a2 mS0) rfl wm_L_86 wi_X12_lawful ws_X12_lawful dL_law_700 rfl (Nat.le_of_ble_eq_true rfl) ⟨by decide, by decide, by decide, by decide⟩) (fun r2 u2 p2 => ?_)
          obtain ⟨rfl, -⟩ := p2
          refine z_icmp_eq_t (tgt := 1091) B0 dL_law_703 (by decide) rfl ?_
          exact fin u1 u2
        · obtain rfl : x4 = 1 := Int32.toInt_inj.mp (h4.trans (by decide))
          refine z_aload_n B0 dL_law_655 rfl rfl ?_
          refine z_aload_n B0 dL_law_656 rfl rfl ?_
          refine z_iload_n B0 dL_law_657 rfl rfl ?_
          refine z_iconst (v := 1) B0 dL_law_658 (by decide) ?_
          refine z_iadd (v := 1) B0 dL_law_659 (by decide) ?_
          refine y_sld (j := 1) (v := 1) B0 hX hbl (by decide) e1.symm dL_law_660 ?_
          refine z_aload_n B0 dL_law_661 rfl rfl ?_
          refine z_iload_n B0 dL_law_662 rfl rfl ?_
          refine z_iconst (v := 2) B0 dL_law_663 (by decide) ?_
          refine z_iadd (v := 2) B0 dL_law_664 (by decide) ?_
          refine y_sld (j := 2) (v := x2) B0 hX hbl (by decide) e2.symm dL_law_665 ?_
          refine z_aload_n B0 dL_law_666 rfl rfl ?_
          refine z_iload_n B0 dL_law_667 rfl rfl ?_
          refine z_iconst (v := 3) B0 dL_law_668 (by decide) ?_
          refine z_iadd (v := 3) B0 dL_law_669 (by decide) ?_
          refine y_sld (j := 3) (v := x3) B0 hX hbl (by decide) e3.symm dL_law_670 ?_
          refine z_aload_n B0 dL_law_671 rfl rfl ?_
          refine z_iload_n B0 dL_law_672 rfl rfl ?_
          refine z_iconst (v := 4) B0 dL_law_673 (by decide) ?_
          refine z_iadd (v := 4) B0 dL_law_674 (by decide) ?_
          refine y_sld (j := 4) (v := 1) B0 hX hbl (by decide) e4.symm dL_law_675 ?_
          refine z_callC B0 (z_runV (q0 := 0) (As := [.int 1, .int x2, .int x3, .int 1]) (st := []) B0 (c_X11_lawful_33 (a := a) (cS0 w) x2 x3 rfl rfl hrw ⟨by omega, by omega⟩ ⟨by omega, by omega⟩) cf_X11_lawful (cw_0 cy tE a rw (cS0 w)) rfl wm_L_82 wi_X11_lawful ws_X11_lawful dL_law_676 rfl (Nat.le_of_ble_eq_true rfl) ⟨by decide, by decide, by decide, by decide⟩) (fun r1 u1 p1 => ?_)
          obtain ⟨rfl, -⟩ := p1
          refine z_aload_n B0 dL_law_679 rfl rfl ?_
          refine z_aload_n B0 dL_law_680 rfl rfl ?_
          refine z_iload_n B0 dL_law_681 rfl rfl ?_
          refine z_iconst (v := 1) B0 dL_law_682 (by decide) ?_
          refine z_iadd (v := 1) B0 dL_law_683 (by decide) ?_
          refine y_sld (j := 1) (v := 1) B0 hX hbl (by decide) e1.symm dL_law_684 ?_
          refine z_aload_n B0 dL_law_685 rfl rfl ?_
          refine z_iload_n B0 dL_law_686 rfl rfl ?_
          refine z_iconst (v := 2) B0 dL_law_687 (by decide) ?_
          refine z_iadd (v := 2) B0 dL_law_688 (by decide) ?_
          refine y_sld (j := 2) (v := x2) B0 hX hbl (by decide) e2.symm dL_law_689 ?_
          refine z_aload_n B0 dL_law_690 rfl rfl ?_
          refine z_iload_n B0 dL_law_691 rfl rfl ?_
          refine z_iconst (v := 3) B0 dL_law_692 (by decide) ?_
          refine z_iadd (v := 3) B0 dL_law_693 (by decide) ?_
          refine y_sld (j := 3) (v := x3) B0 hX hbl (by decide) e3.symm dL_law_694 ?_
          refine z_aload_n B0 dL_law_695 rfl rfl ?_
          refine z_iload_n B0 dL_law_696 rfl rfl ?_
          refine z_iconst (v := 4) B0 dL_law_697 (by decide) ?_
          refine z_iadd (v := 4) B0 dL_law_698 (by decide) ?_
          refine y_sld (j := 4) (v := 1) B0 hX hbl (by decide) e4.symm dL_law_699 ?_
          refine z_callM B0 (z_runV (q0 := 0) (As := [.int 1, .int x2, .int x3, .int 1]) (st := [.int (-1)]) B0 (c_X12_lawful_33 (a := a2) mS0 x2 x3 rfl rfl ⟨by omega, by omega⟩ ⟨by omega, by omega⟩) cf_X12_lawful (mw_0 cy a2 mS0) rfl wm_L_86 wi_X12_lawful ws_X12_lawful dL_law_700 rfl (Nat.le_of_ble_eq_true rfl) ⟨by decide, by decide, by decide, by decide⟩) (fun r2 u2 p2 => ?_)
          obtain ⟨rfl, -⟩ := p2
          refine z_icmp_eq_t (tgt := 1091) B0 dL_law_703 (by decide) rfl ?_
          exact fin u1 u2
        · refine z_aload_n B0 dL_law_655 rfl rfl ?_
          refine z_aload_n B0 dL_law_656 rfl rfl ?_
          refine z_iload_n B0 dL_law_657 rfl rfl ?_
          refine z_iconst (v := 1) B0 dL_law_658 (by decide) ?_
          refine z_iadd (v := 1) B0 dL_law_659 (by decide) ?_
          refine y_sld (j := 1) (v := 1) B0 hX hbl (by decide) e1.symm dL_law_660 ?_
          refine z_aload_n B0 dL_law_661 rfl rfl ?_
          refine z_iload_n B0 dL_law_662 rfl rfl ?_
          refine z_iconst (v := 2) B0 dL_law_663 (by decide) ?_
          refine z_iadd (v := 2) B0 dL_law_664 (by decide) ?_
          refine y_sld (j := 2) (v := x2) B0 hX hbl (by decide) e2.symm dL_law_665 ?_
          refine z_aload_n B0 dL_law_666 rfl rfl ?_
          refine z_iload_n B0 dL_law_667 rfl rfl ?_
          refine z_iconst (v := 3) B0 dL_law_668 (by decide) ?_
          refine z_iadd (v := 3) B0 dL_law_669 (by decide) ?_
          refine y_sld (j := 3) (v := x3) B0 hX hbl (by decide) e3.symm dL_law_670 ?_
          refine z_aload_n B0 dL_law_671 rfl rfl ?_
          refine z_iload_n B0 dL_law_672 rfl rfl ?_
          refine z_iconst (v := 4) B0 dL_law_673 (by decide) ?_
          refine z_iadd (v := 4) B0 dL_law_674 (by decide) ?_
          refine y_sld (j := 4) (v := x4) B0 hX hbl (by decide) e4.symm dL_law_675 ?_
          refine z_callC B0 (z_runV (q0 := 0) (As := [.int 1, .int x2, .int x3, .int x4]) (st := []) B0 (c_X11_lawful_34 (a := a) (cS0 w) x2 x3 x4 ⟨by omega, by omega⟩ ⟨by omega, by omega⟩ ⟨by omega, by omega⟩) cf_X11_lawful (cw_0 cy tE a rw (cS0 w)) rfl wm_L_82 wi_X11_lawful ws_X11_lawful dL_law_676 rfl (Nat.le_of_ble_eq_true rfl) ⟨by decide, by decide, by decide, by decide⟩) (fun r1 u1 p1 => ?_)
          obtain ⟨rfl, -⟩ := p1
          refine z_aload_n B0 dL_law_679 rfl rfl ?_
          refine z_aload_n B0 dL_law_680 rfl rfl ?_
          refine z_iload_n B0 dL_law_681 rfl rfl ?_
          refine z_iconst (v := 1) B0 dL_law_682 (by decide) ?_
          refine z_iadd (v := 1) B0 dL_law_683 (by decide) ?_
          refine y_sld (j := 1) (v := 1) B0 hX hbl (by decide) e1.symm dL_law_684 ?_
          refine z_aload_n B0 dL_law_685 rfl rfl ?_
          refine z_iload_n B0 dL_law_686 rfl rfl ?_
          refine z_iconst (v := 2) B0 dL_law_687 (by decide) ?_
          refine z_iadd (v := 2) B0 dL_law_688 (by decide) ?_
          refine y_sld (j := 2) (v := x2) B0 hX hbl (by decide) e2.symm dL_law_689 ?_
          refine z_aload_n B0 dL_law_690 rfl rfl ?_
          refine z_iload_n B0 dL_law_691 rfl rfl ?_
          refine z_iconst (v := 3) B0 dL_law_692 (by decide) ?_
          refine z_iadd (v := 3) B0 dL_law_693 (by decide) ?_
          refine y_sld (j := 3) (v := x3) B0 hX hbl (by decide) e3.symm dL_law_694 ?_
          refine z_aload_n B0 dL_law_695 rfl rfl ?_
          refine z_iload_n B0 dL_law_696 rfl rfl ?_
          refine z_iconst (v := 4) B0 dL_law_697 (by decide) ?_
          refine z_iadd (v := 4) B0 dL_law_698 (by decide) ?_
          refine y_sld (j := 4) (v := x4) B0 hX hbl (by decide) e4.symm dL_law_699 ?_
          refine z_callM B0 (z_runV (q0 := 0) (As := [.int 1, .int x2, .int x3, .int x4]) (st := [.int (-1)]) B0 (c_X12_lawful_34 (a := a2) mS0 x2 x3 x4 ⟨by omega, by omega⟩ ⟨by omega, by omega⟩ ⟨by omega, by omega⟩) cf_X12_lawful (mw_0 cy a2 mS0) rfl wm_L_86 wi_X12_lawful ws_X12_lawful dL_law_700 rfl (Nat.le_of_ble_eq_true rfl) ⟨by decide, by decide, by decide, by decide⟩) (fun r2 u2 p2 => ?_)
          obtain ⟨rfl, -⟩ := p2
          refine z_icmp_eq_t (tgt := 1091) B0 dL_law_703 (by decide) rfl ?_
          exact fin u1 u2
      · refine z_aload_n B0 dL_law_655 rfl rfl ?_
        refine z_aload_n B0 dL_law_656 rfl rfl ?_
        refine z_iload_n B0 dL_law_657 rfl rfl ?_
        refine z_iconst (v := 1) B0 dL_law_658 (by decide) ?_
        refine z_iadd (v := 1) B0 dL_law_659 (by decide) ?_
        refine y_sld (j := 1) (v := 1) B0 hX hbl (by decide) e1.symm dL_law_660 ?_
        refine z_aload_n B0 dL_law_661 rfl rfl ?_
        refine z_iload_n B0 dL_law_662 rfl rfl ?_
        refine z_iconst (v := 2) B0 dL_law_663 (by decide) ?_
        refine z_iadd (v := 2) B0 dL_law_664 (by decide) ?_
        refine y_sld (j := 2) (v := x2) B0 hX hbl (by decide) e2.symm dL_law_665 ?_
        refine z_aload_n B0 dL_law_666 rfl rfl ?_
        refine z_iload_n B0 dL_law_667 rfl rfl ?_
        refine z_iconst (v := 3) B0 dL_law_668 (by decide) ?_
        refine z_iadd (v := 3) B0 dL_law_669 (by decide) ?_
        refine y_sld (j := 3) (v := x3) B0 hX hbl (by decide) e3.symm dL_law_670 ?_
        refine z_aload_n B0 dL_law_671 rfl rfl ?_
        refine z_iload_n B0 dL_law_672 rfl rfl ?_
        refine z_iconst (v := 4) B0 dL_law_673 (by decide) ?_
        refine z_iadd (v := 4) B0 dL_law_674 (by decide) ?_
        refine y_sld (j := 4) (v := x4) B0 hX hbl (by decide) e4.symm dL_law_675 ?_
        refine z_callC B0 (z_runV (q0 := 0) (As := [.int 1, .int x2, .int x3, .int x4]) (st := []) B0 (c_X11_lawful_18 (a := a) (cS0 w) x2 x3 x4 ⟨by omega, by omega⟩ ⟨by omega, by omega⟩) cf_X11_lawful (cw_0 cy tE a rw (cS0 w)) rfl wm_L_82 wi_X11_lawful ws_X11_lawful dL_law_676 rfl (Nat.le_of_ble_eq_true rfl) ⟨by decide, by decide, by decide, by decide⟩) (fun r1 u1 p1 => ?_)
        obtain ⟨rfl, -⟩ := p1
        refine z_aload_n B0 dL_law_679 rfl rfl ?_
        refine z_aload_n B0 dL_law_680 rfl rfl ?_
        refine z_iload_n B0 dL_law_681 rfl rfl ?_
        refine z_iconst (v := 1) B0 dL_law_682 (by decide) ?_
        refine z_iadd (v := 1) B0 dL_law_683 (by decide) ?_
        refine y_sld (j := 1) (v := 1) B0 hX hbl (by decide) e1.symm dL_law_684 ?_
        refine z_aload_n B0 dL_law_685 rfl rfl ?_
        refine z_iload_n B0 dL_law_686 rfl rfl ?_
        refine z_iconst (v := 2) B0 dL_law_687 (by decide) ?_
        refine z_iadd (v := 2) B0 dL_law_688 (by decide) ?_
        refine y_sld (j := 2) (v := x2) B0 hX hbl (by decide) e2.symm dL_law_689 ?_
        refine z_aload_n B0 dL_law_690 rfl rfl ?_
        refine z_iload_n B0 dL_law_691 rfl rfl ?_
        refine z_iconst (v := 3) B0 dL_law_692 (by decide) ?_
        refine z_iadd (v := 3) B0 dL_law_693 (by decide) ?_
        refine y_sld (j := 3) (v := x3) B0 hX hbl (by decide) e3.symm dL_law_694 ?_
        refine z_aload_n B0 dL_law_695 rfl rfl ?_
        refine z_iload_n B0 dL_law_696 rfl rfl ?_
        refine z_iconst (v := 4) B0 dL_law_697 (by decide) ?_
        refine z_iadd (v := 4) B0 dL_law_698 (by decide) ?_
        refine y_sld (j := 4) (v := x4) B0 hX hbl (by decide) e4.symm dL_law_699 ?_
        refine z_callM B0 (z_runV (q0 := 0) (As := [.int 1, .int x2, .int x3, .int x4]) (st := [.int (-1)]) B0 (c_X12_lawful_18 (a := a2) mS0 x2 x3 x4 ⟨by omega, by omega⟩ ⟨by omega, by omega⟩) cf_X12_lawful (mw_0 cy a2 mS0) rfl wm_L_86 wi_X12_lawful ws_X12_lawful dL_law_700 rfl (Nat.le_of_ble_eq_true rfl) ⟨by decide, by decide, by decide, by decide⟩) (fun r2 u2 p2 => ?_)
        obtain ⟨rfl, -⟩ := p2
        refine z_icmp_eq_t (tgt := 1091) B0 dL_law_703 (by decide) rfl ?_
        exact fin u1 u2
    · refine z_aload_n B0 dL_law_655 rfl rfl ?_
      refine z_aload_n B0 dL_law_656 rfl rfl ?_
      refine z_iload_n B0 dL_law_657 rfl rfl ?_
      refine z_iconst (v := 1) B0 dL_law_658 (by decide) ?_
      refine z_iadd (v := 1) B0 dL_law_659 (by decide) ?_
      refine y_sld (j := 1) (v := 1) B0 hX hbl (by decide) e1.symm dL_law_660 ?_
      refine z_aload_n B0 dL_law_661 rfl rfl ?_
      refine z_iload_n B0 dL_law_662 rfl rfl ?_
      refine z_iconst (v := 2) B0 dL_law_663 (by decide) ?_
      refine z_iadd (v := 2) B0 dL_law_664 (by decide) ?_
      refine y_sld (j := 2) (v := x2) B0 hX hbl (by decide) e2.symm dL_law_665 ?_
      refine z_aload_n B0 dL_law_666 rfl rfl ?_
      refine z_iload_n B0 dL_law_667 rfl rfl ?_
      refine z_iconst (v := 3) B0 dL_law_668 (by decide) ?_
      refine z_iadd (v := 3) B0 dL_law_669 (by decide) ?_
      refine y_sld (j := 3) (v := x3) B0 hX hbl (by decide) e3.symm dL_law_670 ?_
      refine z_aload_n B0 dL_law_671 rfl rfl ?_
      refine z_iload_n B0 dL_law_672 rfl rfl ?_
      refine z_iconst (v := 4) B0 dL_law_673 (by decide) ?_
      refine z_iadd (v := 4) B0 dL_law_674 (by decide) ?_
      refine y_sld (j := 4) (v := x4) B0 hX hbl (by decide) e4.symm dL_law_675 ?_
      refine z_callC B0 (z_runV (q0 := 0) (As := [.int 1, .int x2, .int x3, .int x4]) (st := []) B0 (c_X11_lawful_6 (a := a) (cS0 w) x2 x3 x4 ⟨by omega, by omega⟩) cf_X11_lawful (cw_0 cy tE a rw (cS0 w)) rfl wm_L_82 wi_X11_lawful ws_X11_lawful dL_law_676 rfl (Nat.le_of_ble_eq_true rfl) ⟨by decide, by decide, by decide, by decide⟩) (fun r1 u1 p1 => ?_)
      obtain ⟨rfl, -⟩ := p1
      refine z_aload_n B0 dL_law_679 rfl rfl ?_
      refine z_aload_n B0 dL_law_680 rfl rfl ?_
      refine z_iload_n B0 dL_law_681 rfl rfl ?_
      refine z_iconst (v := 1) B0 dL_law_682 (by decide) ?_
      refine z_iadd (v := 1) B0 dL_law_683 (by decide) ?_
      refine y_sld (j := 1) (v := 1) B0 hX hbl (by decide) e1.symm dL_law_684 ?_
      refine z_aload_n B0 dL_law_685 rfl rfl ?_
      refine z_iload_n B0 dL_law_686 rfl rfl ?_
      refine z_iconst (v := 2) B0 dL_law_687 (by decide) ?_
      refine z_iadd (v := 2) B0 dL_law_688 (by decide) ?_
      refine y_sld (j := 2) (v := x2) B0 hX hbl (by decide) e2.symm dL_law_689 ?_
      refine z_aload_n B0 dL_law_690 rfl rfl ?_
      refine z_iload_n B0 dL_law_691 rfl rfl ?_
      refine z_iconst (v := 3) B0 dL_law_692 (by decide) ?_
      refine z_iadd (v := 3) B0 dL_law_693 (by decide) ?_
      refine y_sld (j := 3) (v := x3) B0 hX hbl (by decide) e3.symm dL_law_694 ?_
      refine z_aload_n B0 dL_law_695 rfl rfl ?_
      refine z_iload_n B0 dL_law_696 rfl rfl ?_
      refine z_iconst (v := 4) B0 dL_law_697 (by decide) ?_
      refine z_iadd (v := 4) B0 dL_law_698 (by decide) ?_
      refine y_sld (j := 4) (v := x4) B0 hX hbl (by decide) e4.symm dL_law_699 ?_
      refine z_callM B0 (z_runV (q0 := 0) (As := [.int 1, .int x2, .int x3, .int x4]) (st := [.int (-1)]) B0 (c_X12_lawful_6 (a := a2) mS0 x2 x3 x4 ⟨by omega, by omega⟩) cf_X12_lawful (mw_0 cy a2 mS0) rfl wm_L_86 wi_X12_lawful ws_X12_lawful dL_law_700 rfl (Nat.le_of_ble_eq_true rfl) ⟨by decide, by decide, by decide, by decide⟩) (fun r2 u2 p2 => ?_)
      obtain ⟨rfl, -⟩ := p2
      refine z_icmp_eq_t (tgt := 1091) B0 dL_law_703 (by decide) rfl ?_
      exact fin u1 u2
  · obtain rfl : x1 = 2 := Int32.toInt_inj.mp (h1.trans (by decide))
    rcases (show ((-2147483648) ≤ x2.toInt ∧ x2.toInt ≤ 0) ∨ (1 ≤ x2.toInt ∧ x2.toInt ≤ 3) ∨ (4 ≤ x2.toInt ∧ x2.toInt ≤ 2147483647) by have g1 := Int32.le_toInt x2; have g2 := Int32.toInt_lt x2; omega) with h2 | h2 | h2
    · refine z_aload_n B0 dL_law_655 rfl rfl ?_
      refine z_aload_n B0 dL_law_656 rfl rfl ?_
      refine z_iload_n B0 dL_law_657 rfl rfl ?_
      refine z_iconst (v := 1) B0 dL_law_658 (by decide) ?_
      refine z_iadd (v := 1) B0 dL_law_659 (by decide) ?_
      refine y_sld (j := 1) (v := 2) B0 hX hbl (by decide) e1.symm dL_law_660 ?_
      refine z_aload_n B0 dL_law_661 rfl rfl ?_
      refine z_iload_n B0 dL_law_662 rfl rfl ?_
      refine z_iconst (v := 2) B0 dL_law_663 (by decide) ?_
      refine z_iadd (v := 2) B0 dL_law_664 (by decide) ?_
      refine y_sld (j := 2) (v := x2) B0 hX hbl (by decide) e2.symm dL_law_665 ?_
      refine z_aload_n B0 dL_law_666 rfl rfl ?_
      refine z_iload_n B0 dL_law_667 rfl rfl ?_
      refine z_iconst (v := 3) B0 dL_law_668 (by decide) ?_
      refine z_iadd (v := 3) B0 dL_law_669 (by decide) ?_
      refine y_sld (j := 3) (v := x3) B0 hX hbl (by decide) e3.symm dL_law_670 ?_
      refine z_aload_n B0 dL_law_671 rfl rfl ?_
      refine z_iload_n B0 dL_law_672 rfl rfl ?_
      refine z_iconst (v := 4) B0 dL_law_673 (by decide) ?_
      refine z_iadd (v := 4) B0 dL_law_674 (by decide) ?_
      refine y_sld (j := 4) (v := x4) B0 hX hbl (by decide) e4.symm dL_law_675 ?_
      refine z_callC B0 (z_runV (q0 := 0) (As := [.int 2, .int x2, .int x3, .int x4]) (st := []) B0 (c_X11_lawful_7 (a := a) (cS0 w) x2 x3 x4 ⟨by omega, by omega⟩) cf_X11_lawful (cw_0 cy tE a rw (cS0 w)) rfl wm_L_82 wi_X11_lawful ws_X11_lawful dL_law_676 rfl (Nat.le_of_ble_eq_true rfl) ⟨by decide, by decide, by decide, by decide⟩) (fun r1 u1 p1 => ?_)
      obtain ⟨rfl, -⟩ := p1
      refine z_aload_n B0 dL_law_679 rfl rfl ?_
      refine z_aload_n B0 dL_law_680 rfl rfl ?_
      refine z_iload_n B0 dL_law_681 rfl rfl ?_
      refine z_iconst (v := 1) B0 dL_law_682 (by decide) ?_
      refine z_iadd (v := 1) B0 dL_law_683 (by decide) ?_
      refine y_sld (j := 1) (v := 2) B0 hX hbl (by decide) e1.symm dL_law_684 ?_
      refine z_aload_n B0 dL_law_685 rfl rfl ?_
      refine z_iload_n B0 dL_law_686 rfl rfl ?_
      refine z_iconst (v := 2) B0 dL_law_687 (by decide) ?_
      refine z_iadd (v := 2) B0 dL_law_688 (by decide) ?_
      refine y_sld (j := 2) (v := x2) B0 hX hbl (by decide) e2.symm dL_law_689 ?_
      refine z_aload_n B0 dL_law_690 rfl rfl ?_
      refine z_iload_n B0 dL_law_691 rfl rfl ?_
      refine z_iconst (v := 3) B0 dL_law_692 (by decide) ?_
      refine z_iadd (v := 3) B0 dL_law_693 (by decide) ?_
      refine y_sld (j := 3) (v := x3) B0 hX hbl (by decide) e3.symm dL_law_694 ?_
      refine z_aload_n B0 dL_law_695 rfl rfl ?_
      refine z_iload_n B0 dL_law_696 rfl rfl ?_
      refine z_iconst (v := 4) B0 dL_law_697 (by decide) ?_
      refine z_iadd (v := 4) B0 dL_law_698 (by decide) ?_
      refine y_sld (j := 4) (v := x4) B0 hX hbl (by decide) e4.symm dL_law_699 ?_
      refine z_callM B0 (z_runV (q0 := 0) (As := [.int 2, .int x2, .int x3, .int x4]) (st := [.int (-1)]) B0 (c_X12_lawful_7 (a := a2) mS0 x2 x3 x4 ⟨by omega, by omega⟩) cf_X12_lawful (mw_0 cy a2 mS0) rfl wm_L_86 wi_X12_lawful ws_X12_lawful dL_law_700 rfl (Nat.le_of_ble_eq_true rfl) ⟨by decide, by decide, by decide, by decide⟩) (fun r2 u2 p2 => ?_)
      obtain ⟨rfl, -⟩ := p2
      refine z_icmp_eq_t (tgt := 1091) B0 dL_law_703 (by decide) rfl ?_
      exact fin u1 u2
    · rcases (show ((-2147483648) ≤ x3.toInt ∧ x3.toInt ≤ (-1)) ∨ (0 ≤ x3.toInt ∧ x3.toInt ≤ 31) ∨ (32 ≤ x3.toInt ∧ x3.toInt ≤ 2147483647) by have g1 := Int32.le_toInt x3; have g2 := Int32.toInt_lt x3; omega) with h3 | h3 | h3
      · refine z_aload_n B0 dL_law_655 rfl rfl ?_
        refine z_aload_n B0 dL_law_656 rfl rfl ?_
        refine z_iload_n B0 dL_law_657 rfl rfl ?_
        refine z_iconst (v := 1) B0 dL_law_658 (by decide) ?_
        refine z_iadd (v := 1) B0 dL_law_659 (by decide) ?_
        refine y_sld (j := 1) (v := 2) B0 hX hbl (by decide) e1.symm dL_law_660 ?_
        refine z_aload_n B0 dL_law_661 rfl rfl ?_
        refine z_iload_n B0 dL_law_662 rfl rfl ?_
        refine z_iconst (v := 2) B0 dL_law_663 (by decide) ?_
        refine z_iadd (v := 2) B0 dL_law_664 (by decide) ?_
        refine y_sld (j := 2) (v := x2) B0 hX hbl (by decide) e2.symm dL_law_665 ?_
        refine z_aload_n B0 dL_law_666 rfl rfl ?_
        refine z_iload_n B0 dL_law_667 rfl rfl ?_
        refine z_iconst (v := 3) B0 dL_law_668 (by decide) ?_
        refine z_iadd (v := 3) B0 dL_law_669 (by decide) ?_
        refine y_sld (j := 3) (v := x3) B0 hX hbl (by decide) e3.symm dL_law_670 ?_
        refine z_aload_n B0 dL_law_671 rfl rfl ?_
        refine z_iload_n B0 dL_law_672 rfl rfl ?_
        refine z_iconst (v := 4) B0 dL_law_673 (by decide) ?_
        refine z_iadd (v := 4) B0 dL_law_674 (by decide) ?_
        refine y_sld (j := 4) (v := x4) B0 hX hbl (by decide) e4.symm dL_law_675 ?_
        refine z_callC B0 (z_runV (q0 := 0) (As := [.int 2, .int x2, .int x3, .int x4]) (st := []) B0 (c_X11_lawful_19 (a := a) (cS0 w) x2 x3 x4 ⟨by omega, by omega⟩ ⟨by omega, by omega⟩) cf_X11_lawful (cw_0 cy tE a rw (cS0 w)) rfl wm_L_82 wi_X11_lawful ws_X11_lawful dL_law_676 rfl (Nat.le_of_ble_eq_true rfl) ⟨by decide, by decide, by decide, by decide⟩) (fun r1 u1 p1 => ?_)
        obtain ⟨rfl, -⟩ := p1
        refine z_aload_n B0 dL_law_679 rfl rfl ?_
        refine z_aload_n B0 dL_law_680 rfl rfl ?_
        refine z_iload_n B0 dL_law_681 rfl rfl ?_
        refine z_iconst (v := 1) B0 dL_law_682 (by decide) ?_
        refine z_iadd (v := 1) B0 dL_law_683 (by decide) ?_
        refine y_sld (j := 1) (v := 2) B0 hX hbl (by decide) e1.symm dL_law_684 ?_
        refine z_aload_n B0 dL_law_685 rfl rfl ?_
        refine z_iload_n B0 dL_law_686 rfl rfl ?_
        refine z_iconst (v := 2) B0 dL_law_687 (by decide) ?_
        refine z_iadd (v := 2) B0 dL_law_688 (by decide) ?_
        refine y_sld (j := 2) (v := x2) B0 hX hbl (by decide) e2.symm dL_law_689 ?_
        refine z_aload_n B0 dL_law_690 rfl rfl ?_
        refine z_iload_n B0 dL_law_691 rfl rfl ?_
        refine z_iconst (v := 3) B0 dL_law_692 (by decide) ?_
        refine z_iadd (v := 3) B0 dL_law_693 (by decide) ?_
        refine y_sld (j := 3) (v := x3) B0 hX hbl (by decide) e3.symm dL_law_694 ?_
        refine z_aload_n B0 dL_law_695 rfl rfl ?_
        refine z_iload_n B0 dL_law_696 rfl rfl ?_
        refine z_iconst (v := 4) B0 dL_law_697 (by decide) ?_
        refine z_iadd (v := 4) B0 dL_law_698 (by decide) ?_
        refine y_sld (j := 4) (v := x4) B0 hX hbl (by decide) e4.symm dL_law_699 ?_
        refine z_callM B0 (z_runV (q0 := 0) (As := [.int 2, .int x2, .int x3, .int x4]) (st := [.int (-1)]) B0 (c_X12_lawful_19 (a := a2) mS0 x2 x3 x4 ⟨by omega, by omega⟩ ⟨by omega, by omega⟩) cf_X12_lawful (mw_0 cy a2 mS0) rfl wm_L_86 wi_X12_lawful ws_X12_lawful dL_law_700 rfl (Nat.le_of_ble_eq_true rfl) ⟨by decide, by decide, by decide, by decide⟩) (fun r2 u2 p2 => ?_)
        obtain ⟨rfl, -⟩ := p2
        refine z_icmp_eq_t (tgt := 1091) B0 dL_law_703 (by decide) rfl ?_
        exact fin u1 u2
      · rcases (show ((-2147483648) ≤ x4.toInt ∧ x4.toInt ≤ (-1)) ∨ x4.toInt = 0 ∨ x4.toInt = 1 ∨ (2 ≤ x4.toInt ∧ x4.toInt ≤ 2147483647) by have g1 := Int32.le_toInt x4; have g2 := Int32.toInt_lt x4; omega) with h4 | h4 | h4 | h4
        · refine z_aload_n B0 dL_law_655 rfl rfl ?_
          refine z_aload_n B0 dL_law_656 rfl rfl ?_
          refine z_iload_n B0 dL_law_657 rfl rfl ?_
          refine z_iconst (v := 1) B0 dL_law_658 (by decide) ?_
          refine z_iadd (v := 1) B0 dL_law_659 (by decide) ?_
          refine y_sld (j := 1) (v := 2) B0 hX hbl (by decide) e1.symm dL_law_660 ?_
          refine z_aload_n B0 dL_law_661 rfl rfl ?_
          refine z_iload_n B0 dL_law_662 rfl rfl ?_
          refine z_iconst (v := 2) B0 dL_law_663 (by decide) ?_
          refine z_iadd (v := 2) B0 dL_law_664 (by decide) ?_
          refine y_sld (j := 2) (v := x2) B0 hX hbl (by decide) e2.symm dL_law_665 ?_
          refine z_aload_n B0 dL_law_666 rfl rfl ?_
          refine z_iload_n B0 dL_law_667 rfl rfl ?_
          refine z_iconst (v := 3) B0 dL_law_668 (by decide) ?_
          refine z_iadd (v := 3) B0 dL_law_669 (by decide) ?_
          refine y_sld (j := 3) (v := x3) B0 hX hbl (by decide) e3.symm dL_law_670 ?_
          refine z_aload_n B0 dL_law_671 rfl rfl ?_
          refine z_iload_n B0 dL_law_672 rfl rfl ?_
          refine z_iconst (v := 4) B0 dL_law_673 (by decide) ?_
          refine z_iadd (v := 4) B0 dL_law_674 (by decide) ?_
          refine y_sld (j := 4) (v := x4) B0 hX hbl (by decide) e4.symm dL_law_675 ?_
          refine z_callC B0 (z_runV (q0 := 0) (As := [.int 2, .int x2, .int x3, .int x4]) (st := []) B0 (c_X11_lawful_35 (a := a) (cS0 w) x2 x3 x4 ⟨by omega, by omega⟩ ⟨by omega, by omega⟩ ⟨by omega, by omega⟩) cf_X11_lawful (cw_0 cy tE a rw (cS0 w)) rfl wm_L_82 wi_X11_lawful ws_X11_lawful dL_law_676 rfl (Nat.le_of_ble_eq_true rfl) ⟨by decide, by decide, by decide, by decide⟩) (fun r1 u1 p1 => ?_)
          obtain ⟨rfl, -⟩ := p1
          refine z_aload_n B0 dL_law_679 rfl rfl ?_
          refine z_aload_n B0 dL_law_680 rfl rfl ?_
          refine z_iload_n B0 dL_law_681 rfl rfl ?_
          refine z_iconst (v := 1) B0 dL_law_682 (by decide) ?_
          refine z_iadd (v := 1) B0 dL_law_683 (by decide) ?_
          refine y_sld (j := 1) (v := 2) B0 hX hbl (by decide) e1.symm dL_law_684 ?_
          refine z_aload_n B0 dL_law_685 rfl rfl ?_
          refine z_iload_n B0 dL_law_686 rfl rfl ?_
          refine z_iconst (v := 2) B0 dL_law_687 (by decide) ?_
          refine z_iadd (v := 2) B0 dL_law_688 (by decide) ?_
          refine y_sld (j := 2) (v := x2) B0 hX hbl (by decide) e2.symm dL_law_689 ?_
          refine z_aload_n B0 dL_law_690 rfl rfl ?_
          refine z_iload_n B0 dL_law_691 rfl rfl ?_
          refine z_iconst (v := 3) B0 dL_law_692 (by decide) ?_
          refine z_iadd (v := 3) B0 dL_law_693 (by decide) ?_
          refine y_sld (j := 3) (v := x3) B0 hX hbl (by decide) e3.symm dL_law_694 ?_
          refine z_aload_n B0 dL_law_695 rfl rfl ?_
          refine z_iload_n B0 dL_law_696 rfl rfl ?_
          refine z_iconst (v := 4) B0 dL_law_697 (by decide) ?_
          refine z_iadd (v := 4) B0 dL_law_698 (by decide) ?_
          refine y_sld (j := 4) (v := x4) B0 hX hbl (by decide) e4.symm dL_law_699 ?_
          refine z_callM B0 (z_runV (q0 := 0) (As := [.int 2, .int x2, .int x3, .int x4]) (st := [.int (-1)]) B0 (c_X12_lawful_35 (a := a2) mS0 x2 x3 x4 ⟨by omega, by omega⟩ ⟨by omega, by omega⟩ ⟨by omega, by omega⟩) cf_X12_lawful (mw_0 cy a2 mS0) rfl wm_L_86 wi_X12_lawful ws_X12_lawful dL_law_700 rfl (Nat.le_of_ble_eq_true rfl) ⟨by decide, by decide, by decide, by decide⟩) (fun r2 u2 p2 => ?_)
          obtain ⟨rfl, -⟩ := p2
          refine z_icmp_eq_t (tgt := 1091) B0 dL_law_703 (by decide) rfl ?_
          exact fin u1 u2
        · obtain rfl : x4 = 0 := Int32.toInt_inj.mp (h4.trans (by decide))
          refine z_aload_n B0 dL_law_655 rfl rfl ?_
          refine z_aload_n B0 dL_law_656 rfl rfl ?_
          refine z_iload_n B0 dL_law_657 rfl rfl ?_
          refine z_iconst (v := 1) B0 dL_law_658 (by decide) ?_
          refine z_iadd (v := 1) B0 dL_law_659 (by decide) ?_
          refine y_sld (j := 1) (v := 2) B0 hX hbl (by decide) e1.symm dL_law_660 ?_
          refine z_aload_n B0 dL_law_661 rfl rfl ?_
          refine z_iload_n B0 dL_law_662 rfl rfl ?_
          refine z_iconst (v := 2) B0 dL_law_663 (by decide) ?_
          refine z_iadd (v := 2) B0 dL_law_664 (by decide) ?_
          refine y_sld (j := 2) (v := x2) B0 hX hbl (by decide) e2.symm dL_law_665 ?_
          refine z_aload_n B0 dL_law_666 rfl rfl ?_
          refine z_iload_n B0 dL_law_667 rfl rfl ?_
          refine z_iconst (v := 3) B0 dL_law_668 (by decide) ?_
          refine z_iadd (v := 3) B0 dL_law_669 (by decide) ?_
          refine y_sld (j := 3) (v := x3) B0 hX hbl (by decide) e3.symm dL_law_670 ?_
          refine z_aload_n B0 dL_law_671 rfl rfl ?_
          refine z_iload_n B0 dL_law_672 rfl rfl ?_
          refine z_iconst (v := 4) B0 dL_law_673 (by decide) ?_
          refine z_iadd (v := 4) B0 dL_law_674 (by decide) ?_
          refine y_sld (j := 4) (v := 0) B0 hX hbl (by decide) e4.symm dL_law_675 ?_
          refine z_callC B0 (z_runV (q0 := 0) (As := [.int 2, .int x2, .int x3, .int 0]) (st := []) B0 (c_X11_lawful_36 (a := a) (cS0 w) x2 x3 rfl rfl hrw ⟨by omega, by omega⟩ ⟨by omega, by omega⟩) cf_X11_lawful (cw_0 cy tE a rw (cS0 w)) rfl wm_L_82 wi_X11_lawful ws_X11_lawful dL_law_676 rfl (Nat.le_of_ble_eq_true rfl) ⟨by decide, by decide, by decide, by decide⟩) (fun r1 u1 p1 => ?_)
          obtain ⟨rfl, -⟩ := p1
          refine z_aload_n B0 dL_law_679 rfl rfl ?_
          refine z_aload_n B0 dL_law_680 rfl rfl ?_
          refine z_iload_n B0 dL_law_681 rfl rfl ?_
          refine z_iconst (v := 1) B0 dL_law_682 (by decide) ?_
          refine z_iadd (v := 1) B0 dL_law_683 (by decide) ?_
          refine y_sld (j := 1) (v := 2) B0 hX hbl (by decide) e1.symm dL_law_684 ?_
          refine z_aload_n B0 dL_law_685 rfl rfl ?_
          refine z_iload_n B0 dL_law_686 rfl rfl ?_
          refine z_iconst (v := 2) B0 dL_law_687 (by decide) ?_
          refine z_iadd (v := 2) B0 dL_law_688 (by decide) ?_
          refine y_sld (j := 2) (v := x2) B0 hX hbl (by decide) e2.symm dL_law_689 ?_
          refine z_aload_n B0 dL_law_690 rfl rfl ?_
          refine z_iload_n B0 dL_law_691 rfl rfl ?_
          refine z_iconst (v := 3) B0 dL_law_692 (by decide) ?_
          refine z_iadd (v := 3) B0 dL_law_693 (by decide) ?_
          refine y_sld (j := 3) (v := x3) B0 hX hbl (by decide) e3.symm dL_law_694 ?_
          refine z_aload_n B0 dL_law_695 rfl rfl ?_
          refine z_iload_n B0 dL_law_696 rfl rfl ?_
          refine z_iconst (v := 4) B0 dL_law_697 (by decide) ?_
          refine z_iadd (v := 4) B0 dL_law_698 (by decide) ?_
          refine y_sld (j := 4) (v := 0) B0 hX hbl (by decide) e4.symm dL_law_699 ?_
          refine z_callM B0 (z_runV (q0 := 0) (As := [.int 2, .int x2, .int x3, .int 0]) (st := [.int 0]) B0 (c_X12_lawful_36 (a := a2) mS0 x2 x3 rfl rfl ⟨by omega, by omega⟩ ⟨by omega, by omega⟩) cf_X12_lawful (mw_0 cy a2 mS0) rfl wm_L_86 wi_X12_lawful ws_X12_lawful dL_law_700 rfl (Nat.le_of_ble_eq_true rfl) ⟨by decide, by decide, by decide, by decide⟩) (fun r2 u2 p2 => ?_)
          obtain ⟨rfl, -⟩ := p2
          refine z_icmp_eq_t (tgt := 1091) B0 dL_law_703 (by decide) rfl ?_
          exact fin u1 u2
        · obtain rfl : x4 = 1 := Int32.toInt_inj.mp (h4.trans (by decide))
          refine z_aload_n B0 dL_law_655 rfl rfl ?_
          refine z_aload_n B0 dL_law_656 rfl rfl ?_
          refine z_iload_n B0 dL_law_657 rfl rfl ?_
          refine z_iconst (v := 1) B0 dL_law_658 (by decide) ?_
          refine z_iadd (v := 1) B0 dL_law_659 (by decide) ?_
          refine y_sld (j := 1) (v := 2) B0 hX hbl (by decide) e1.symm dL_law_660 ?_
          refine z_aload_n B0 dL_law_661 rfl rfl ?_
          refine z_iload_n B0 dL_law_662 rfl rfl ?_
          refine z_iconst (v := 2) B0 dL_law_663 (by decide) ?_
          refine z_iadd (v := 2) B0 dL_law_664 (by decide) ?_
          refine y_sld (j := 2) (v := x2) B0 hX hbl (by decide) e2.symm dL_law_665 ?_
          refine z_aload_n B0 dL_law_666 rfl rfl ?_
          refine z_iload_n B0 dL_law_667 rfl rfl ?_
          refine z_iconst (v := 3) B0 dL_law_668 (by decide) ?_
          refine z_iadd (v := 3) B0 dL_law_669 (by decide) ?_
          refine y_sld (j := 3) (v := x3) B0 hX hbl (by decide) e3.symm dL_law_670 ?_
          refine z_aload_n B0 dL_law_671 rfl rfl ?_
          refine z_iload_n B0 dL_law_672 rfl rfl ?_
          refine z_iconst (v := 4) B0 dL_law_673 (by decide) ?_
          refine z_iadd (v := 4) B0 dL_law_674 (by decide) ?_
          refine y_sld (j := 4) (v := 1) B0 hX hbl (by decide) e4.symm dL_law_675 ?_
          refine z_callC B0 (z_runV (q0 := 0) (As := [.int 2, .int x2, .int x3, .int 1]) (st := []) B0 (c_X11_lawful_37 (a := a) (cS0 w) x2 x3 rfl rfl hrw ⟨by omega, by omega⟩ ⟨by omega, by omega⟩) cf_X11_lawful (cw_0 cy tE a rw (cS0 w)) rfl wm_L_82 wi_X11_lawful ws_X11_lawful dL_law_676 rfl (Nat.le_of_ble_eq_true rfl) ⟨by decide, by decide, by decide, by decide⟩) (fun r1 u1 p1 => ?_)
          obtain ⟨rfl, -⟩ := p1
          refine z_aload_n B0 dL_law_679 rfl rfl ?_
          refine z_aload_n B0 dL_law_680 rfl rfl ?_
          refine z_iload_n B0 dL_law_681 rfl rfl ?_
          refine z_iconst (v := 1) B0 dL_law_682 (by decide) ?_
          refine z_iadd (v := 1) B0 dL_law_683 (by decide) ?_
          refine y_sld (j := 1) (v := 2) B0 hX hbl (by decide) e1.symm dL_law_684 ?_
          refine z_aload_n B0 dL_law_685 rfl rfl ?_
          refine z_iload_n B0 dL_law_686 rfl rfl ?_
          refine z_iconst (v := 2) B0 dL_law_687 (by decide) ?_
          refine z_iadd (v := 2) B0 dL_law_688 (by decide) ?_
          refine y_sld (j := 2) (v := x2) B0 hX hbl (by decide) e2.symm dL_law_689 ?_
          refine z_aload_n B0 dL_law_690 rfl rfl ?_
          refine z_iload_n B0 dL_law_691 rfl rfl ?_
          refine z_iconst (v := 3) B0 dL_law_692 (by decide) ?_
          refine z_iadd (v := 3) B0 dL_law_693 (by decide) ?_
          refine y_sld (j := 3) (v := x3) B0 hX hbl (by decide) e3.symm dL_law_694 ?_
          refine z_aload_n B0 dL_law_695 rfl rfl ?_
          refine z_iload_n B0 dL_law_696 rfl rfl ?_
          refine z_iconst (v := 4) B0 dL_law_697 (by decide) ?_
          refine z_iadd (v := 4) B0 dL_law_698 (by decide) ?_
          refine y_sld (j := 4) (v := 1) B0 hX hbl (by decide) e4.symm dL_law_699 ?_
          refine z_callM B0 (z_runV (q0 := 0) (As := [.int 2, .int x2, .int x3, .int 1]) (st := [.int (-1)]) B0 (c_X12_lawful_37 (a := a2) mS0 x2 x3 rfl rfl ⟨by omega, by omega⟩ ⟨by omega, by omega⟩) cf_X12_lawful (mw_0 cy a2 mS0) rfl wm_L_86 wi_X12_lawful ws_X12_lawful dL_law_700 rfl (Nat.le_of_ble_eq_true rfl) ⟨by decide, by decide, by decide, by decide⟩) (fun r2 u2 p2 => ?_)
          obtain ⟨rfl, -⟩ := p2
          refine z_icmp_eq_t (tgt := 1091) B0 dL_law_703 (by decide) rfl ?_
          exact fin u1 u2
        · refine z_aload_n B0 dL_law_655 rfl rfl ?_
          refine z_aload_n B0 dL_law_656 rfl rfl ?_
          refine z_iload_n B0 dL_law_657 rfl rfl ?_
          refine z_iconst (v := 1) B0 dL_law_658 (by decide) ?_
          refine z_iadd (v := 1) B0 dL_law_659 (by decide) ?_
          refine y_sld (j := 1) (v := 2) B0 hX hbl (by decide) e1.symm dL_law_660 ?_
          refine z_aload_n B0 dL_law_661 rfl rfl ?_
          refine z_iload_n B0 dL_law_662 rfl rfl ?_
          refine z_iconst (v := 2) B0 dL_law_663 (by decide) ?_
          refine z_iadd (v := 2) B0 dL_law_664 (by decide) ?_
          refine y_sld (j := 2) (v := x2) B0 hX hbl (by decide) e2.symm dL_law_665 ?_
          refine z_aload_n B0 dL_law_666 rfl rfl ?_
          refine z_iload_n B0 dL_law_667 rfl rfl ?_
          refine z_iconst (v := 3) B0 dL_law_668 (by decide) ?_
          refine z_iadd (v := 3) B0 dL_law_669 (by decide) ?_
          refine y_sld (j := 3) (v := x3) B0 hX hbl (by decide) e3.symm dL_law_670 ?_
          refine z_aload_n B0 dL_law_671 rfl rfl ?_
          refine z_iload_n B0 dL_law_672 rfl rfl ?_
          refine z_iconst (v := 4) B0 dL_law_673 (by decide) ?_
          refine z_iadd (v := 4) B0 dL_law_674 (by decide) ?_
          refine y_sld (j := 4) (v := x4) B0 hX hbl (by decide) e4.symm dL_law_675 ?_
          refine z_callC B0 (z_runV (q0 := 0) (As := [.int 2, .int x2, .int x3, .int x4]) (st := []) B0 (c_X11_lawful_38 (a := a) (cS0 w) x2 x3 x4 ⟨by omega, by omega⟩ ⟨by omega, by omega⟩ ⟨by omega, by omega⟩) cf_X11_lawful (cw_0 cy tE a rw (cS0 w)) rfl wm_L_82 wi_X11_lawful ws_X11_lawful dL_law_676 rfl (Nat.le_of_ble_eq_true rfl) ⟨by decide, by decide, by decide, by decide⟩) (fun r1 u1 p1 => ?_)
          obtain ⟨rfl, -⟩ := p1
          refine z_aload_n B0 dL_law_679 rfl rfl ?_
          refine z_aload_n B0 dL_law_680 rfl rfl ?_
          refine z_iload_n B0 dL_law_681 rfl rfl ?_
          refine z_iconst (v := 1) B0 dL_law_682 (by decide) ?_
          refine z_iadd (v := 1) B0 dL_law_683 (by decide) ?_
          refine y_sld (j := 1) (v := 2) B0 hX hbl (by decide) e1.symm dL_law_684 ?_
          refine z_aload_n B0 dL_law_685 rfl rfl ?_
          refine z_iload_n B0 dL_law_686 rfl rfl ?_
          refine z_iconst (v := 2) B0 dL_law_687 (by decide) ?_
          refine z_iadd (v := 2) B0 dL_law_688 (by decide) ?_
          refine y_sld (j := 2) (v := x2) B0 hX hbl (by decide) e2.symm dL_law_689 ?_
          refine z_aload_n B0 dL_law_690 rfl rfl ?_
          refine z_iload_n B0 dL_law_691 rfl rfl ?_
          refine z_iconst (v := 3) B0 dL_law_692 (by decide) ?_
          refine z_iadd (v := 3) B0 dL_law_693 (by decide) ?_
          refine y_sld (j := 3) (v := x3) B0 hX hbl (by decide) e3.symm dL_law_694 ?_
          refine z_aload_n B0 dL_law_695 rfl rfl ?_
          refine z_iload_n B0 dL_law_696 rfl rfl ?_
          refine z_iconst (v := 4) B0 dL_law_697 (by decide) ?_
          refine z_iadd (v := 4) B0 dL_law_698 (by decide) ?_
          refine y_sld (j := 4) (v := x4) B0 hX hbl (by decide) e4.symm dL_law_699 ?_
          refine z_callM B0 (z_runV (q0 := 0) (As := [.int 2, .int x2, .int x3, .int x4]) (st := [.int (-1)]) B0 (c_X12_lawful_38 (a := a2) mS0 x2 x3 x4 ⟨by omega, by omega⟩ ⟨by omega, by omega⟩ ⟨by omega, by omega⟩) cf_X12_lawful (mw_0 cy a2 mS0) rfl wm_L_86 wi_X12_lawful ws_X12_lawful dL_law_700 rfl (Nat.le_of_ble_eq_true rfl) ⟨by decide, by decide, by decide, by decide⟩) (fun r2 u2 p2 => ?_)
          obtain ⟨rfl, -⟩ := p2
          refine z_icmp_eq_t (tgt := 1091) B0 dL_law_703 (by decide) rfl ?_
          exact fin u1 u2
      · refine z_aload_n B0 dL_law_655 rfl rfl ?_
        refine z_aload_n B0 dL_law_656 rfl rfl ?_
        refine z_iload_n B0 dL_law_657 rfl rfl ?_
        refine z_iconst (v := 1) B0 dL_law_658 (by decide) ?_
        refine z_iadd (v := 1) B0 dL_law_659 (by decide) ?_
        refine y_sld (j := 1) (v := 2) B0 hX hbl (by decide) e1.symm dL_law_660 ?_
        refine z_aload_n B0 dL_law_661 rfl rfl ?_
        refine z_iload_n B0 dL_law_662 rfl rfl ?_
        refine z_iconst (v := 2) B0 dL_law_663 (by decide) ?_
        refine z_iadd (v := 2) B0 dL_law_664 (by decide) ?_
        refine y_sld (j := 2) (v := x2) B0 hX hbl (by decide) e2.symm dL_law_665 ?_
        refine z_aload_n B0 dL_law_666 rfl rfl ?_
        refine z_iload_n B0 dL_law_667 rfl rfl ?_
        refine z_iconst (v := 3) B0 dL_law_668 (by decide) ?_
        refine z_iadd (v := 3) B0 dL_law_669 (by decide) ?_
        refine y_sld (j := 3) (v := x3) B0 hX hbl (by decide) e3.symm dL_law_670 ?_
        refine z_aload_n B0 dL_law_671 rfl rfl ?_
        refine z_iload_n B0 dL_law_672 rfl rfl ?_
        refine z_iconst (v := 4) B0 dL_law_673 (by decide) ?_
        refine z_iadd (v := 4) B0 dL_law_674 (by decide) ?_
        refine y_sld (j := 4) (v := x4) B0 hX hbl (by decide) e4.symm dL_law_675 ?_
        refine z_callC B0 (z_runV (q0 := 0) (As := [.int 2, .int x2, .int x3, .int x4]) (st := []) B0 (c_X11_lawful_20 (a := a) (cS0 w) x2 x3 x4 ⟨by omega, by omega⟩ ⟨by omega, by omega⟩) cf_X11_lawful (cw_0 cy tE a rw (cS0 w)) rfl wm_L_82 wi_X11_lawful ws_X11_lawful dL_law_676 rfl (Nat.le_of_ble_eq_true rfl) ⟨by decide, by decide, by decide, by decide⟩) (fun r1 u1 p1 => ?_)
        obtain ⟨rfl, -⟩ := p1
        refine z_aload_n B0 dL_law_679 rfl rfl ?_
        refine z_aload_n B0 dL_law_680 rfl rfl ?_
        refine z_iload_n B0 dL_law_681 rfl rfl ?_
        refine z_iconst (v := 1) B0 dL_law_682 (by decide) ?_
        refine z_iadd (v := 1) B0 dL_law_683 (by decide) ?_
        refine y_sld (j := 1) (v := 2) B0 hX hbl (by decide) e1.symm dL_law_684 ?_
        refine z_aload_n B0 dL_law_685 rfl rfl ?_
        refine z_iload_n B0 dL_law_686 rfl rfl ?_
        refine z_iconst (v := 2) B0 dL_law_687 (by decide) ?_
        refine z_iadd (v := 2) B0 dL_law_688 (by decide) ?_
        refine y_sld (j := 2) (v := x2) B0 hX hbl (by decide) e2.symm dL_law_689 ?_
        refine z_aload_n B0 dL_law_690 rfl rfl ?_
        refine z_iload_n B0 dL_law_691 rfl rfl ?_
        refine z_iconst (v := 3) B0 dL_law_692 (by decide) ?_
        refine z_iadd (v := 3) B0 dL_law_693 (by decide) ?_
        refine y_sld (j := 3) (v := x3) B0 hX hbl (by decide) e3.symm dL_law_694 ?_
        refine z_aload_n B0 dL_law_695 rfl rfl ?_
        refine z_iload_n B0 dL_law_696 rfl rfl ?_
        refine z_iconst (v := 4) B0 dL_law_697 (by decide) ?_
        refine z_iadd (v := 4) B0 dL_law_698 (by decide) ?_
        refine y_sld (j := 4) (v := x4) B0 hX hbl (by decide) e4.symm dL_law_699 ?_
        refine z_callM B0 (z_runV (q0 := 0) (As := [.int 2, .int x2, .int x3, .int x4]) (st := [.int (-1)]) B0 (c_X12_lawful_20 (a := a2) mS0 x2 x3 x4 ⟨by omega, by omega⟩ ⟨by omega, by omega⟩) cf_X12_lawful (mw_0 cy a2 mS0) rfl wm_L_86 wi_X12_lawful ws_X12_lawful dL_law_700 rfl (Nat.le_of_ble_eq_true rfl) ⟨by decide, by decide, by decide, by decide⟩) (fun r2 u2 p2 => ?_)
        obtain ⟨rfl, -⟩ := p2
        refine z_icmp_eq_t (tgt := 1091) B0 dL_law_703 (by decide) rfl ?_
        exact fin u1 u2
    · refine z_aload_n B0 dL_law_655 rfl rfl ?_
      refine z_aload_n B0 dL_law_656 rfl rfl ?_
      refine z_iload_n B0 dL_law_657 rfl rfl ?_
      refine z_iconst (v := 1) B0 dL_law_658 (by decide) ?_
      refine z_iadd (v := 1) B0 dL_law_659 (by decide) ?_
      refine y_sld (j := 1) (v := 2) B0 hX hbl (by decide) e1.symm dL_law_660 ?_
      refine z_aload_n B0 dL_law_661 rfl rfl ?_
      refine z_iload_n B0 dL_law_662 rfl rfl ?_
      refine z_iconst (v := 2) B0 dL_law_663 (by decide) ?_
      refine z_iadd (v := 2) B0 dL_law_664 (by decide) ?_
      refine y_sld (j := 2) (v := x2) B0 hX hbl (by decide) e2.symm dL_law_665 ?_
      refine z_aload_n B0 dL_law_666 rfl rfl ?_
      refine z_iload_n B0 dL_law_667 rfl rfl ?_
      refine z_iconst (v := 3) B0 dL_law_668 (by decide) ?_
      refine z_iadd (v := 3) B0 dL_law_669 (by decide) ?_
      refine y_sld (j := 3) (v := x3) B0 hX hbl (by decide) e3.symm dL_law_670 ?_
      refine z_aload_n B0 dL_law_671 rfl rfl ?_
      refine z_iload_n B0 dL_law_672 rfl rfl ?_
      refine z_iconst (v := 4) B0 dL_law_673 (by decide) ?_
      refine z_iadd (v := 4) B0 dL_law_674 (by decide) ?_
      refine y_sld (j := 4) (v := x4) B0 hX hbl (by decide) e4.symm dL_law_675 ?_
      refine z_callC B0 (z_runV (q0 := 0) (As := [.int 2, .int x2, .int x3, .int x4]) (st := []) B0 (c_X11_lawful_8 (a := a) (cS0 w) x2 x3 x4 ⟨by omega, by omega⟩) cf_X11_lawful (cw_0 cy tE a rw (cS0 w)) rfl wm_L_82 wi_X11_lawful ws_X11_lawful dL_law_676 rfl (Nat.le_of_ble_eq_true rfl) ⟨by decide, by decide, by decide, by decide⟩) (fun r1 u1 p1 => ?_)
      obtain ⟨rfl, -⟩ := p1
      refine z_aload_n B0 dL_law_679 rfl rfl ?_
      refine z_aload_n B0 dL_law_680 rfl rfl ?_
      refine z_iload_n B0 dL_law_681 rfl rfl ?_
      refine z_iconst (v := 1) B0 dL_law_682 (by decide) ?_
      refine z_iadd (v := 1) B0 dL_law_683 (by decide) ?_
      refine y_sld (j := 1) (v := 2) B0 hX hbl (by decide) e1.symm dL_law_684 ?_
      refine z_aload_n B0 dL_law_685 rfl rfl ?_
      refine z_iload_n B0 dL_law_686 rfl rfl ?_
      refine z_iconst (v := 2) B0 dL_law_687 (by decide) ?_
      refine z_iadd (v := 2) B0 dL_law_688 (by decide) ?_
      refine y_sld (j := 2) (v := x2) B0 hX hbl (by decide) e2.symm dL_law_689 ?_
      refine z_aload_n B0 dL_law_690 rfl rfl ?_
      refine z_iload_n B0 dL_law_691 rfl rfl ?_
      refine z_iconst (v := 3) B0 dL_law_692 (by decide) ?_
      refine z_iadd (v := 3) B0 dL_law_693 (by decide) ?_
      refine y_sld (j := 3) (v := x3) B0 hX hbl (by decide) e3.symm dL_law_694 ?_
      refine z_aload_n B0 dL_law_695 rfl rfl ?_
      refine z_iload_n B0 dL_law_696 rfl rfl ?_
      refine z_iconst (v := 4) B0 dL_law_697 (by decide) ?_
      refine z_iadd (v := 4) B0 dL_law_698 (by decide) ?_
      refine y_sld (j := 4) (v := x4) B0 hX hbl (by decide) e4.symm dL_law_699 ?_
      refine z_callM B0 (z_runV (q0 := 0) (As := [.int 2, .int x2, .int x3, .int x4]) (st := [.int (-1)]) B0 (c_X12_lawful_8 (a := a2) mS0 x2 x3 x4 ⟨by omega, by omega⟩) cf_X12_lawful (mw_0 cy a2 mS0) rfl wm_L_86 wi_X12_lawful ws_X12_lawful dL_law_700 rfl (Nat.le_of_ble_eq_true rfl) ⟨by decide, by decide, by decide, by decide⟩) (fun r2 u2 p2 => ?_)
      obtain ⟨rfl, -⟩ := p2
      refine z_icmp_eq_t (tgt := 1091) B0 dL_law_703 (by decide) rfl ?_
      exact fin u1 u2
  · obtain rfl : x1 = 3 := Int32.toInt_inj.mp (h1.trans (by decide))
    rcases (show ((-2147483648) ≤ x2.toInt ∧ x2.toInt ≤ 0) ∨ (1 ≤ x2.toInt ∧ x2.toInt ≤ 3) ∨ (4 ≤ x2.toInt ∧ x2.toInt ≤ 2147483647) by have g1 := Int32.le_toInt x2; have g2 := Int32.toInt_lt x2; omega) with h2 | h2 | h2
    · refine z_aload_n B0 dL_law_655 rfl rfl ?_
      refine z_aload_n B0 dL_law_656 rfl rfl ?_
      refine z_iload_n B0 dL_law_657 rfl rfl ?_
      refine z_iconst (v := 1) B0 dL_law_658 (by decide) ?_
      refine z_iadd (v := 1) B0 dL_law_659 (by decide) ?_
      refine y_sld (j := 1) (v := 3) B0 hX hbl (by decide) e1.symm dL_law_660 ?_
      refine z_aload_n B0 dL_law_661 rfl rfl ?_
      refine z_iload_n B0 dL_law_662 rfl rfl ?_
      refine z_iconst (v := 2) B0 dL_law_663 (by decide) ?_
      refine z_iadd (v := 2) B0 dL_law_664 (by decide) ?_
      refine y_sld (j := 2) (v := x2) B0 hX hbl (by decide) e2.symm dL_law_665 ?_
      refine z_aload_n B0 dL_law_666 rfl rfl ?_
      refine z_iload_n B0 dL_law_667 rfl rfl ?_
      refine z_iconst (v := 3) B0 dL_law_668 (by decide) ?_
      refine z_iadd (v := 3) B0 dL_law_669 (by decide) ?_
      refine y_sld (j := 3) (v := x3) B0 hX hbl (by decide) e3.symm dL_law_670 ?_
      refine z_aload_n B0 dL_law_671 rfl rfl ?_
      refine z_iload_n B0 dL_law_672 rfl rfl ?_
      refine z_iconst (v := 4) B0 dL_law_673 (by decide) ?_
      refine z_iadd (v := 4) B0 dL_law_674 (by decide) ?_
      refine y_sld (j := 4) (v := x4) B0 hX hbl (by decide) e4.symm dL_law_675 ?_
      refine z_callC B0 (z_runV (q0 := 0) (As := [.int 3, .int x2, .int x3, .int x4]) (st := []) B0 (c_X11_lawful_9 (a := a) (cS0 w) x2 x3 x4 ⟨by omega, by omega⟩) cf_X11_lawful (cw_0 cy tE a rw (cS0 w)) rfl wm_L_82 wi_X11_lawful ws_X11_lawful dL_law_676 rfl (Nat.le_of_ble_eq_true rfl) ⟨by decide, by decide, by decide, by decide⟩) (fun r1 u1 p1 => ?_)
      obtain ⟨rfl, -⟩ := p1
      refine z_aload_n B0 dL_law_679 rfl rfl ?_
      refine z_aload_n B0 dL_law_680 rfl rfl ?_
      refine z_iload_n B0 dL_law_681 rfl rfl ?_
      refine z_iconst (v := 1) B0 dL_law_682 (by decide) ?_
      refine z_iadd (v := 1) B0 dL_law_683 (by decide) ?_
      refine y_sld (j := 1) (v := 3) B0 hX hbl (by decide) e1.symm dL_law_684 ?_
      refine z_aload_n B0 dL_law_685 rfl rfl ?_
      refine z_iload_n B0 dL_law_686 rfl rfl ?_
      refine z_iconst (v := 2) B0 dL_law_687 (by decide) ?_
      refine z_iadd (v := 2) B0 dL_law_688 (by decide) ?_
      refine y_sld (j := 2) (v := x2) B0 hX hbl (by decide) e2.symm dL_law_689 ?_
      refine z_aload_n B0 dL_law_690 rfl rfl ?_
      refine z_iload_n B0 dL_law_691 rfl rfl ?_
      refine z_iconst (v := 3) B0 dL_law_692 (by decide) ?_
      refine z_iadd (v := 3) B0 dL_law_693 (by decide) ?_
      refine y_sld (j := 3) (v := x3) B0 hX hbl (by decide) e3.symm dL_law_694 ?_
      refine z_aload_n B0 dL_law_695 rfl rfl ?_
      refine z_iload_n B0 dL_law_696 rfl rfl ?_
      refine z_iconst (v := 4) B0 dL_law_697 (by decide) ?_
      refine z_iadd (v := 4) B0 dL_law_698 (by decide) ?_
      refine y_sld (j := 4) (v := x4) B0 hX hbl (by decide) e4.symm dL_law_699 ?_
      refine z_callM B0 (z_runV (q0 := 0) (As := [.int 3, .int x2, .int x3, .int x4]) (st := [.int (-1)]) B0 (c_X12_lawful_9 (a := a2) mS0 x2 x3 x4 ⟨by omega, by omega⟩) cf_X12_lawful (mw_0 cy a2 mS0) rfl wm_L_86 wi_X12_lawful ws_X12_lawful dL_law_700 rfl (Nat.le_of_ble_eq_true rfl) ⟨by decide, by decide, by decide, by decide⟩) (fun r2 u2 p2 => ?_)
      obtain ⟨rfl, -⟩ := p2
      refine z_icmp_eq_t (tgt := 1091) B0 dL_law_703 (by decide) rfl ?_
      exact fin u1 u2
    · rcases (show ((-2147483648) ≤ x3.toInt ∧ x3.toInt ≤ (-1)) ∨ (0 ≤ x3.toInt ∧ x3.toInt ≤ 31) ∨ (32 ≤ x3.toInt ∧ x3.toInt ≤ 2147483647) by have g1 := Int32.le_toInt x3; have g2 := Int32.toInt_lt x3; omega) with h3 | h3 | h3
      · refine z_aload_n B0 dL_law_655 rfl rfl ?_
        refine z_aload_n B0 dL_law_656 rfl rfl ?_
        refine z_iload_n B0 dL_law_657 rfl rfl ?_
        refine z_iconst (v := 1) B0 dL_law_658 (by decide) ?_
        refine z_iadd (v := 1) B0 dL_law_659 (by decide) ?_
        refine y_sld (j := 1) (v := 3) B0 hX hbl (by decide) e1.symm dL_law_660 ?_
        refine z_aload_n B0 dL_law_661 rfl rfl ?_
        refine z_iload_n B0 dL_law_662 rfl rfl ?_
        refine z_iconst (v := 2) B0 dL_law_663 (by decide) ?_
        refine z_iadd (v := 2) B0 dL_law_664 (by decide) ?_
        refine y_sld (j := 2) (v := x2) B0 hX hbl (by decide) e2.symm dL_law_665 ?_
        refine z_aload_n B0 dL_law_666 rfl rfl ?_
        refine z_iload_n B0 dL_law_667 rfl rfl ?_
        refine z_iconst (v := 3) B0 dL_law_668 (by decide) ?_
        refine z_iadd (v := 3) B0 dL_law_669 (by decide) ?_
        refine y_sld (j := 3) (v := x3) B0 hX hbl (by decide) e3.symm dL_law_670 ?_
        refine z_aload_n B0 dL_law_671 rfl rfl ?_
        refine z_iload_n B0 dL_law_672 rfl rfl ?_
        refine z_iconst (v := 4) B0 dL_law_673 (by decide) ?_
        refine z_iadd (v := 4) B0 dL_law_674 (by decide) ?_
        refine y_sld (j := 4) (v := x4) B0 hX hbl (by decide) e4.symm dL_law_675 ?_
        refine z_callC B0 (z_runV (q0 := 0) (As := [.int 3, .int x2, .int x3, .int x4]) (st := []) B0 (c_X11_lawful_21 (a := a) (cS0 w) x2 x3 x4 ⟨by omega, by omega⟩ ⟨by omega, by omega⟩) cf_X11_lawful (cw_0 cy tE a rw (cS0 w)) rfl wm_L_82 wi_X11_lawful ws_X11_lawful dL_law_676 rfl (Nat.le_of_ble_eq_true rfl) ⟨by decide, by decide, by decide, by decide⟩) (fun r1 u1 p1 => ?_)
        obtain ⟨rfl, -⟩ := p1
        refine z_aload_n B0 dL_law_679 rfl rfl ?_
        refine z_aload_n B0 dL_law_680 rfl rfl ?_
        refine z_iload_n B0 dL_law_681 rfl rfl ?_
        refine z_iconst (v := 1) B0 dL_law_682 (by decide) ?_
        refine z_iadd (v := 1) B0 dL_law_683 (by decide) ?_
        refine y_sld (j := 1) (v := 3) B0 hX hbl (by decide) e1.symm dL_law_684 ?_
        refine z_aload_n B0 dL_law_685 rfl rfl ?_
        refine z_iload_n B0 dL_law_686 rfl rfl ?_
        refine z_iconst (v := 2) B0 dL_law_687 (by decide) ?_
        refine z_iadd (v := 2) B0 dL_law_688 (by decide) ?_
        refine y_sld (j := 2) (v := x2) B0 hX hbl (by decide) e2.symm dL_law_689 ?_
        refine z_aload_n B0 dL_law_690 rfl rfl ?_
        refine z_iload_n B0 dL_law_691 rfl rfl ?_
        refine z_iconst (v := 3) B0 dL_law_692 (by decide) ?_
        refine z_iadd (v := 3) B0 dL_law_693 (by decide) ?_
        refine y_sld (j := 3) (v := x3) B0 hX hbl (by decide) e3.symm dL_law_694 ?_
        refine z_aload_n B0 dL_law_695 rfl rfl ?_
        refine z_iload_n B0 dL_law_696 rfl rfl ?_
        refine z_iconst (v := 4) B0 dL_law_697 (by decide) ?_
        refine z_iadd (v := 4) B0 dL_law_698 (by decide) ?_
        refine y_sld (j := 4) (v := x4) B0 hX hbl (by decide) e4.symm dL_law_699 ?_
        refine z_callM B0 (z_runV (q0 := 0) (As := [.int 3, .int x2, .int x3, .int x4]) (st := [.int (-1)]) B0 (c_X12_lawful_21 (a := a2) mS0 x2 x3 x4 ⟨by omega, by omega⟩ ⟨by omega, by omega⟩) cf_X12_lawful (mw_0 cy a2 mS0) rfl wm_L_86 wi_X12_lawful ws_X12_lawful dL_law_700 rfl (Nat.le_of_ble_eq_true rfl) ⟨by decide, by decide, by decide, by decide⟩) (fun r2 u2 p2 => ?_)
        obtain ⟨rfl, -⟩ := p2
        refine z_icmp_eq_t (tgt := 1091) B0 dL_law_703 (by decide) rfl ?_
        exact fin u1 u2
      · rcases (show ((-2147483648) ≤ x4.toInt ∧ x4.toInt ≤ (-1)) ∨ x4.toInt = 0 ∨ x4.toInt = 1 ∨ (2 ≤ x4.toInt ∧ x4.toInt ≤ 2147483647) by have g1 := Int32.le_toInt x4; have g2 := Int32.toInt_lt x4; omega) with h4 | h4 | h4 | h4
        · refine z_aload_n B0 dL_law_655 rfl rfl ?_
          refine z_aload_n B0 dL_law_656 rfl rfl ?_
          refine z_iload_n B0 dL_law_657 rfl rfl ?_
          refine z_iconst (v := 1) B0 dL_law_658 (by decide) ?_
          refine z_iadd (v := 1) B0 dL_law_659 (by decide) ?_
          refine y_sld (j := 1) (v := 3) B0 hX hbl (by decide) e1.symm dL_law_660 ?_
          refine z_aload_n B0 dL_law_661 rfl rfl ?_
          refine z_iload_n B0 dL_law_662 rfl rfl ?_
          refine z_iconst (v := 2) B0 dL_law_663 (by decide) ?_
          refine z_iadd (v := 2) B0 dL_law_664 (by decide) ?_
          refine y_sld (j := 2) (v := x2) B0 hX hbl (by decide) e2.symm dL_law_665 ?_
          refine z_aload_n B0 dL_law_666 rfl rfl ?_
          refine z_iload_n B0 dL_law_667 rfl rfl ?_
          refine z_iconst (v := 3) B0 dL_law_668 (by decide) ?_
          refine z_iadd (v := 3) B0 dL_law_669 (by decide) ?_
          refine y_sld (j := 3) (v := x3) B0 hX hbl (by decide) e3.symm dL_law_670 ?_
          refine z_aload_n B0 dL_law_671 rfl rfl ?_
          refine z_iload_n B0 dL_law_672 rfl rfl ?_
          refine z_iconst (v := 4) B0 dL_law_673 (by decide) ?_
          refine z_iadd (v := 4) B0 dL_law_674 (by decide) ?_
          refine y_sld (j := 4) (v := x4) B0 hX hbl (by decide) e4.symm dL_law_675 ?_
          refine z_callC B0 (z_runV (q0 := 0) (As := [.int 3, .int x2, .int x3, .int x4]) (st := []) B0 (c_X11_lawful_39 (a := a) (cS0 w) x2 x3 x4 ⟨by omega, by omega⟩ ⟨by omega, by omega⟩ ⟨by omega, by omega⟩) cf_X11_lawful (cw_0 cy tE a rw (cS0 w)) rfl wm_L_82 wi_X11_lawful ws_X11_lawful dL_law_676 rfl (Nat.le_of_ble_eq_true rfl) ⟨by decide, by decide, by decide, by decide⟩) (fun r1 u1 p1 => ?_)
          obtain ⟨rfl, -⟩ := p1
          refine z_aload_n B0 dL_law_679 rfl rfl ?_
          refine z_aload_n B0 dL_law_680 rfl rfl ?_
          refine z_iload_n B0 dL_law_681 rfl rfl ?_
          refine z_iconst (v := 1) B0 dL_law_682 (by decide) ?_
          refine z_iadd (v := 1) B0 dL_law_683 (by decide) ?_
          refine y_sld (j := 1) (v := 3) B0 hX hbl (by decide) e1.symm dL_law_684 ?_
          refine z_aload_n B0 dL_law_685 rfl rfl ?_
          refine z_iload_n B0 dL_law_686 rfl rfl ?_
          refine z_iconst (v := 2) B0 dL_law_687 (by decide) ?_
          refine z_iadd (v := 2) B0 dL_law_688 (by decide) ?_
          refine y_sld (j := 2) (v := x2) B0 hX hbl (by decide) e2.symm dL_law_689 ?_
          refine z_aload_n B0 dL_law_690 rfl rfl ?_
          refine z_iload_n B0 dL_law_691 rfl rfl ?_
          refine z_iconst (v := 3) B0 dL_law_692 (by decide) ?_
          refine z_iadd (v := 3) B0 dL_law_693 (by decide) ?_
          refine y_sld (j := 3) (v := x3) B0 hX hbl (by decide) e3.symm dL_law_694 ?_
          refine z_aload_n B0 dL_law_695 rfl rfl ?_
          refine z_iload_n B0 dL_law_696 rfl rfl ?_
          refine z_iconst (v := 4) B0 dL_law_697 (by decide) ?_
          refine z_iadd (v := 4) B0 dL_law_698 (by decide) ?_
          refine y_sld (j := 4) (v := x4) B0 hX hbl (by decide) e4.symm dL_law_699 ?_
          refine z_callM B0 (z_runV (q0 := 0) (As := [.int 3, .int x2, .int x3, .int x4]) (st := [.int (-1)]) B0 (c_X12_lawful_39 (a := a2) mS0 x2 x3 x4 ⟨by omega, by omega⟩ ⟨by omega, by omega⟩ ⟨by omega, by omega⟩) cf_X12_lawful (mw_0 cy a2 mS0) rfl wm_L_86 wi_X12_lawful ws_X12_lawful dL_law_700 rfl (Nat.le_of_ble_eq_true rfl) ⟨by decide, by decide, by decide, by decide⟩) (fun r2 u2 p2 => ?_)
          obtain ⟨rfl, -⟩ := p2
          refine z_icmp_eq_t (tgt := 1091) B0 dL_law_703 (by decide) rfl ?_
          exact fin u1 u2
        · obtain rfl : x4 = 0 := Int32.toInt_inj.mp (h4.trans (by decide))
          refine z_aload_n B0 dL_law_655 rfl rfl ?_
          refine z_aload_n B0 dL_law_656 rfl rfl ?_
          refine z_iload_n B0 dL_law_657 rfl rfl ?_
          refine z_iconst (v := 1) B0 dL_law_658 (by decide) ?_
          refine z_iadd (v := 1) B0 dL_law_659 (by decide) ?_
          refine y_sld (j := 1) (v := 3) B0 hX hbl (by decide) e1.symm dL_law_660 ?_
          refine z_aload_n B0 dL_law_661 rfl rfl ?_
          refine z_iload_n B0 dL_law_662 rfl rfl ?_
          refine z_iconst (v := 2) B0 dL_law_663 (by decide) ?_
          refine z_iadd (v := 2) B0 dL_law_664 (by decide) ?_
          refine y_sld (j := 2) (v := x2) B0 hX hbl (by decide) e2.symm dL_law_665 ?_
          refine z_aload_n B0 dL_law_666 rfl rfl ?_
          refine z_iload_n B0 dL_law_667 rfl rfl ?_
          refine z_iconst (v := 3) B0 dL_law_668 (by decide) ?_
          refine z_iadd (v := 3) B0 dL_law_669 (by decide) ?_
          refine y_sld (j := 3) (v := x3) B0 hX hbl (by decide) e3.symm dL_law_670 ?_
          refine z_aload_n B0 dL_law_671 rfl rfl ?_
          refine z_iload_n B0 dL_law_672 rfl rfl ?_
          refine z_iconst (v := 4) B0 dL_law_673 (by decide) ?_
          refine z_iadd (v := 4) B0 dL_law_674 (by decide) ?_
          refine y_sld (j := 4) (v := 0) B0 hX hbl (by decide) e4.symm dL_law_675 ?_
          refine z_callC B0 (z_runV (q0 := 0) (As := [.int 3, .int x2, .int x3, .int 0]) (st := []) B0 (c_X11_lawful_40 (a := a) (cS0 w) x2 x3 rfl rfl hrw ⟨by omega, by omega⟩ ⟨by omega, by omega⟩) cf_X11_lawful (cw_0 cy tE a rw (cS0 w)) rfl wm_L_82 wi_X11_lawful ws_X11_lawful dL_law_676 rfl (Nat.le_of_ble_eq_true rfl) ⟨by decide, by decide, by decide, by decide⟩) (fun r1 u1 p1 => ?_)
          obtain ⟨rfl, -⟩ := p1
          refine z_aload_n B0 dL_law_679 rfl rfl ?_
          refine z_aload_n B0 dL_law_680 rfl rfl ?_
          refine z_iload_n B0 dL_law_681 rfl rfl ?_
          refine z_iconst (v := 1) B0 dL_law_682 (by decide) ?_
          refine z_iadd (v := 1) B0 dL_law_683 (by decide) ?_
          refine y_sld (j := 1) (v := 3) B0 hX hbl (by decide) e1.symm dL_law_684 ?_
          refine z_aload_n B0 dL_law_685 rfl rfl ?_
          refine z_iload_n B0 dL_law_686 rfl rfl ?_
          refine z_iconst (v := 2) B0 dL_law_687 (by decide) ?_
          refine z_iadd (v := 2) B0 dL_law_688 (by decide) ?_
          refine y_sld (j := 2) (v := x2) B0 hX hbl (by decide) e2.symm dL_law_689 ?_
          refine z_aload_n B0 dL_law_690 rfl rfl ?_
          refine z_iload_n B0 dL_law_691 rfl rfl ?_
          refine z_iconst (v := 3) B0 dL_law_692 (by decide) ?_
          refine z_iadd (v := 3) B0 dL_law_693 (by decide) ?_
          refine y_sld (j := 3) (v := x3) B0 hX hbl (by decide) e3.symm dL_law_694 ?_
          refine z_aload_n B0 dL_law_695 rfl rfl ?_
          refine z_iload_n B0 dL_law_696 rfl rfl ?_
          refine z_iconst (v := 4) B0 dL_law_697 (by decide) ?_
          refine z_iadd (v := 4) B0 dL_law_698 (by decide) ?_
          refine y_sld (j := 4) (v := 0) B0 hX hbl (by decide) e4.symm dL_law_699 ?_
          refine z_callM B0 (z_runV (q0 := 0) (As := [.int 3, .int x2, .int x3, .int 0]) (st := [.int 0]) B0 (c_X12_lawful_40 (a := a2) mS0 x2 x3 rfl rfl ⟨by omega, by omega⟩ ⟨by omega, by omega⟩) cf_X12_lawful (mw_0 cy a2 mS0) rfl wm_L_86 wi_X12_lawful ws_X12_lawful dL_law_700 rfl (Nat.le_of_ble_eq_true rfl) ⟨by decide, by decide, by decide, by decide⟩) (fun r2 u2 p2 => ?_)
          obtain ⟨rfl, -⟩ := p2
          refine z_icmp_eq_t (tgt := 1091) B0 dL_law_703 (by decide) rfl ?_
          exact fin u1 u2
        · obtain rfl : x4 = 1 := Int32.toInt_inj.mp (h4.trans (by decide))
          refine z_aload_n B0 dL_law_655 rfl rfl ?_
          refine z_aload_n B0 dL_law_656 rfl rfl ?_
          refine z_iload_n B0 dL_law_657 rfl rfl ?_
          refine z_iconst (v := 1) B0 dL_law_658 (by decide) ?_
          refine z_iadd (v := 1) B0 dL_law_659 (by decide) ?_
          refine y_sld (j := 1) (v := 3) B0 hX hbl (by decide) e1.symm dL_law_660 ?_
          refine z_aload_n B0 dL_law_661 rfl rfl ?_
          refine z_iload_n B0 dL_law_662 rfl rfl ?_
          refine z_iconst (v := 2) B0 dL_law_663 (by decide) ?_
          refine z_iadd (v := 2) B0 dL_law_664 (by decide) ?_
          refine y_sld (j := 2) (v := x2) B0 hX hbl (by decide) e2.symm dL_law_665 ?_
          refine z_aload_n B0 dL_law_666 rfl rfl ?_
          refine z_iload_n B0 dL_law_667 rfl rfl ?_
          refine z_iconst (v := 3) B0 dL_law_668 (by decide) ?_
          refine z_iadd (v := 3) B0 dL_law_669 (by decide) ?_
          refine y_sld (j := 3) (v := x3) B0 hX hbl (by decide) e3.symm dL_law_670 ?_
          refine z_aload_n B0 dL_law_671 rfl rfl ?_
          refine z_iload_n B0 dL_law_672 rfl rfl ?_
          refine z_iconst (v := 4) B0 dL_law_673 (by decide) ?_
          refine z_iadd (v := 4) B0 dL_law_674 (by decide) ?_
          refine y_sld (j := 4) (v := 1) B0 hX hbl (by decide) e4.symm dL_law_675 ?_
          refine z_callC B0 (z_runV (q0 := 0) (As := [.int 3, .int x2, .int x3, .int 1]) (st := []) B0 (c_X11_lawful_41 (a := a) (cS0 w) x2 x3 rfl rfl hrw ⟨by omega, by omega⟩ ⟨by omega, by omega⟩) cf_X11_lawful (cw_0 cy tE a rw (cS0 w)) rfl wm_L_82 wi_X11_lawful ws_X11_lawful dL_law_676 rfl (Nat.le_of_ble_eq_true rfl) ⟨by decide, by decide, by decide, by decide⟩) (fun r1 u1 p1 => ?_)
          obtain ⟨rfl, -⟩ := p1
          refine z_aload_n B0 dL_law_679 rfl rfl ?_
          refine z_aload_n B0 dL_law_680 rfl rfl ?_
          refine z_iload_n B0 dL_law_681 rfl rfl ?_
          refine z_iconst (v := 1) B0 dL_law_682 (by decide) ?_
          refine z_iadd (v := 1) B0 dL_law_683 (by decide) ?_
          refine y_sld (j := 1) (v := 3) B0 hX hbl (by decide) e1.symm dL_law_684 ?_
          refine z_aload_n B0 dL_law_685 rfl rfl ?_
          refine z_iload_n B0 dL_law_686 rfl rfl ?_
          refine z_iconst (v := 2) B0 dL_law_687 (by decide) ?_
          refine z_iadd (v := 2) B0 dL_law_688 (by decide) ?_
          refine y_sld (j := 2) (v := x2) B0 hX hbl (by decide) e2.symm dL_law_689 ?_
          refine z_aload_n B0 dL_law_690 rfl rfl ?_
          refine z_iload_n B0 dL_law_691 rfl rfl ?_
          refine z_iconst (v := 3) B0 dL_law_692 (by decide) ?_
          refine z_iadd (v := 3) B0 dL_law_693 (by decide) ?_
          refine y_sld (j := 3) (v := x3) B0 hX hbl (by decide) e3.symm dL_law_694 ?_
          refine z_aload_n B0 dL_law_695 rfl rfl ?_
          refine z_iload_n B0 dL_law_696 rfl rfl ?_
          refine z_iconst (v := 4) B0 dL_law_697 (by decide) ?_
          refine z_iadd (v := 4) B0 dL_law_698 (by decide) ?_
          refine y_sld (j := 4) (v := 1) B0 hX hbl (by decide) e4.symm dL_law_699 ?_
          refine z_callM B0 (z_runV (q0 := 0) (As := [.int 3, .int x2, .int x3, .int 1]) (st := [.int (-1)]) B0 (c_X12_lawful_41 (a := a2) mS0 x2 x3 rfl rfl ⟨by omega, by omega⟩ ⟨by omega, by omega⟩) cf_X12_lawful (mw_0 cy a2 mS0) rfl wm_L_86 wi_X12_lawful ws_X12_lawful dL_law_700 rfl (Nat.le_of_ble_eq_true rfl) ⟨by decide, by decide, by decide, by decide⟩) (fun r2 u2 p2 => ?_)
          obtain ⟨rfl, -⟩ := p2
          refine z_icmp_eq_t (tgt := 1091) B0 dL_law_703 (by decide) rfl ?_
          exact fin u1 u2
        · refine z_aload_n B0 dL_law_655 rfl rfl ?_
          refine z_aload_n B0 dL_law_656 rfl rfl ?_
          refine z_iload_n B0 dL_law_657 rfl rfl ?_
          refine z_iconst (v := 1) B0 dL_law_658 (by decide) ?_
          refine z_iadd (v := 1) B0 dL_law_659 (by decide) ?_
          refine y_sld (j := 1) (v := 3) B0 hX hbl (by decide) e1.symm dL_law_660 ?_
          refine z_aload_n B0 dL_law_661 rfl rfl ?_
          refine z_iload_n B0 dL_law_662 rfl rfl ?_
          refine z_iconst (v := 2) B0 dL_law_663 (by decide) ?_
          refine z_iadd (v := 2) B0 dL_law_664 (by decide) ?_
          refine y_sld (j := 2) (v := x2) B0 hX hbl (by decide) e2.symm dL_law_665 ?_
          refine z_aload_n B0 dL_law_666 rfl rfl ?_
          refine z_iload_n B0 dL_law_667 rfl rfl ?_
          refine z_iconst (v := 3) B0 dL_law_668 (by decide) ?_
          refine z_iadd (v := 3) B0 dL_law_669 (by decide) ?_
          refine y_sld (j := 3) (v := x3) B0 hX hbl (by decide) e3.symm dL_law_670 ?_
          refine z_aload_n B0 dL_law_671 rfl rfl ?_
          refine z_iload_n B0 dL_law_672 rfl rfl ?_
          refine z_iconst (v := 4) B0 dL_law_673 (by decide) ?_
          refine z_iadd (v := 4) B0 dL_law_674 (by decide) ?_
          refine y_sld (j := 4) (v := x4) B0 hX hbl (by decide) e4.symm dL_law_675 ?_
          refine z_callC B0 (z_runV (q0 := 0) (As := [.int 3, .int x2, .int x3, .int x4]) (st := []) B0 (c_X11_lawful_42 (a := a) (cS0 w) x2 x3 x4 ⟨by omega, by omega⟩ ⟨by omega, by omega⟩ ⟨by omega, by omega⟩) cf_X11_lawful (cw_0 cy tE a rw (cS0 w)) rfl wm_L_82 wi_X11_lawful ws_X11_lawful dL_law_676 rfl (Nat.le_of_ble_eq_true rfl) ⟨by decide, by decide, by decide, by decide⟩) (fun r1 u1 p1 => ?_)
          obtain ⟨rfl, -⟩ := p1
          refine z_aload_n B0 dL_law_679 rfl rfl ?_
          refine z_aload_n B0 dL_law_680 rfl rfl ?_
          refine z_iload_n B0 dL_law_681 rfl rfl ?_
          refine z_iconst (v := 1) B0 dL_law_682 (by decide) ?_
          refine z_iadd (v := 1) B0 dL_law_683 (by decide) ?_
          refine y_sld (j := 1) (v := 3) B0 hX hbl (by decide) e1.symm dL_law_684 ?_
          refine z_aload_n B0 dL_law_685 rfl rfl ?_
          refine z_iload_n B0 dL_law_686 rfl rfl ?_
          refine z_iconst (v := 2) B0 dL_law_687 (by decide) ?_
          refine z_iadd (v := 2) B0 dL_law_688 (by decide) ?_
          refine y_sld (j := 2) (v := x2) B0 hX hbl (by decide) e2.symm dL_law_689 ?_
          refine z_aload_n B0 dL_law_690 rfl rfl ?_
          refine z_iload_n B0 dL_law_691 rfl rfl ?_
          refine z_iconst (v := 3) B0 dL_law_692 (by decide) ?_
          refine z_iadd (v := 3) B0 dL_law_693 (by decide) ?_
          refine y_sld (j := 3) (v := x3) B0 hX hbl (by decide) e3.symm dL_law_694 ?_
          refine z_aload_n B0 dL_law_695 rfl rfl ?_
          refine z_iload_n B0 dL_law_696 rfl rfl ?_
          refine z_iconst (v := 4) B0 dL_law_697 (by decide) ?_
          refine z_iadd (v := 4) B0 dL_law_698 (by decide) ?_
          refine y_sld (j := 4) (v := x4) B0 hX hbl (by decide) e4.symm dL_law_699 ?_
          refine z_callM B0 (z_runV (q0 := 0) (As := [.int 3, .int x2, .int x3, .int x4]) (st := [.int (-1)]) B0 (c_X12_lawful_42 (a := a2) mS0 x2 x3 x4 ⟨by omega, by omega⟩ ⟨by omega, by omega⟩ ⟨by omega, by omega⟩) cf_X12_lawful (mw_0 cy a2 mS0) rfl wm_L_86 wi_X12_lawful ws_X12_lawful dL_law_700 rfl (Nat.le_of_ble_eq_true rfl) ⟨by decide, by decide, by decide, by decide⟩) (fun r2 u2 p2 => ?_)
          obtain ⟨rfl, -⟩ := p2
          refine z_icmp_eq_t (tgt := 1091) B0 dL_law_703 (by decide) rfl ?_
          exact fin u1 u2
      · refine z_aload_n B0 dL_law_655 rfl rfl ?_
        refine z_aload_n B0 dL_law_656 rfl rfl ?_
        refine z_iload_n B0 dL_law_657 rfl rfl ?_
        refine z_iconst (v := 1) B0 dL_law_658 (by decide) ?_
        refine z_iadd (v := 1) B0 dL_law_659 (by decide) ?_
        refine y_sld (j := 1) (v := 3) B0 hX hbl (by decide) e1.symm dL_law_660 ?_
        refine z_aload_n B0 dL_law_661 rfl rfl ?_
        refine z_iload_n B0 dL_law_662 rfl rfl ?_
        refine z_iconst (v := 2) B0 dL_law_663 (by decide) ?_
        refine z_iadd (v := 2) B0 dL_law_664 (by decide) ?_
        refine y_sld (j := 2) (v := x2) B0 hX hbl (by decide) e2.symm dL_law_665 ?_
        refine z_aload_n B0 dL_law_666 rfl rfl ?_
        refine z_iload_n B0 dL_law_667 rfl rfl ?_
        refine z_iconst (v := 3) B0 dL_law_668 (by decide) ?_
        refine z_iadd (v := 3) B0 dL_law_669 (by decide) ?_
        refine y_sld (j := 3) (v := x3) B0 hX hbl (by decide) e3.symm dL_law_670 ?_
        refine z_aload_n B0 dL_law_671 rfl rfl ?_
        refine z_iload_n B0 dL_law_672 rfl rfl ?_
        refine z_iconst (v := 4) B0 dL_law_673 (by decide) ?_
        refine z_iadd (v := 4) B0 dL_law_674 (by decide) ?_
        refine y_sld (j := 4) (v := x4) B0 hX hbl (by decide) e4.symm dL_law_675 ?_
        refine z_callC B0 (z_runV (q0 := 0) (As := [.int 3, .int x2, .int x3, .int x4]) (st := []) B0 (c_X11_lawful_22 (a := a) (cS0 w) x2 x3 x4 ⟨by omega, by omega⟩ ⟨by omega, by omega⟩) cf_X11_lawful (cw_0 cy tE a rw (cS0 w)) rfl wm_L_82 wi_X11_lawful ws_X11_lawful dL_law_676 rfl (Nat.le_of_ble_eq_true rfl) ⟨by decide, by decide, by decide, by decide⟩) (fun r1 u1 p1 => ?_)
        obtain ⟨rfl, -⟩ := p1
        refine z_aload_n B0 dL_law_679 rfl rfl ?_
        refine z_aload_n B0 dL_law_680 rfl rfl ?_
        refine z_iload_n B0 dL_law_681 rfl rfl ?_
        refine z_iconst (v := 1) B0 dL_law_682 (by decide) ?_
        refine z_iadd (v := 1) B0 dL_law_683 (by decide) ?_
        refine y_sld (j := 1) (v := 3) B0 hX hbl (by decide) e1.symm dL_law_684 ?_
        refine z_aload_n B0 dL_law_685 rfl rfl ?_
        refine z_iload_n B0 dL_law_686 rfl rfl ?_
        refine z_iconst (v := 2) B0 dL_law_687 (by decide) ?_
        refine z_iadd (v := 2) B0 dL_law_688 (by decide) ?_
        refine y_sld (j := 2) (v := x2) B0 hX hbl (by decide) e2.symm dL_law_689 ?_
        refine z_aload_n B0 dL_law_690 rfl rfl ?_
        refine z_iload_n B0 dL_law_691 rfl rfl ?_
        refine z_iconst (v := 3) B0 dL_law_692 (by decide) ?_
        refine z_iadd (v := 3) B0 dL_law_693 (by decide) ?_
        refine y_sld (j := 3) (v := x3) B0 hX hbl (by decide) e3.symm dL_law_694 ?_
        refine z_aload_n B0 dL_law_695 rfl rfl ?_
        refine z_iload_n B0 dL_law_696 rfl rfl ?_
        refine z_iconst (v := 4) B0 dL_law_697 (by decide) ?_
        refine z_iadd (v := 4) B0 dL_law_698 (by decide) ?_
        refine y_sld (j := 4) (v := x4) B0 hX hbl (by decide) e4.symm dL_law_699 ?_
        refine z_callM B0 (z_runV (q0 := 0) (As := [.int 3, .int x2, .int x3, .int x4]) (st := [.int (-1)]) B0 (c_X12_lawful_22 (a := a2) mS0 x2 x3 x4 ⟨by omega, by omega⟩ ⟨by omega, by omega⟩) cf_X12_lawful (mw_0 cy a2 mS0) rfl wm_L_86 wi_X12_lawful ws_X12_lawful dL_law_700 rfl (Nat.le_of_ble_eq_true rfl) ⟨by decide, by decide, by decide, by decide⟩) (fun r2 u2 p2 => ?_)
        obtain ⟨rfl, -⟩ := p2
        refine z_icmp_eq_t (tgt := 1091) B0 dL_law_703 (by decide) rfl ?_
        exact fin u1 u2
    · refine z_aload_n B0 dL_law_655 rfl rfl ?_
      refine z_aload_n B0 dL_law_656 rfl rfl ?_
      refine z_iload_n B0 dL_law_657 rfl rfl ?_
      refine z_iconst (v := 1) B0 dL_law_658 (by decide) ?_
      refine z_iadd (v := 1) B0 dL_law_659 (by decide) ?_
      refine y_sld (j := 1) (v := 3) B0 hX hbl (by decide) e1.symm dL_law_660 ?_
      refine z_aload_n B0 dL_law_661 rfl rfl ?_
      refine z_iload_n B0 dL_law_662 rfl rfl ?_
      refine z_iconst (v := 2) B0 dL_law_663 (by decide) ?_
      refine z_iadd (v := 2) B0 dL_law_664 (by decide) ?_
      refine y_sld (j := 2) (v := x2) B0 hX hbl (by decide) e2.symm dL_law_665 ?_
      refine z_aload_n B0 dL_law_666 rfl rfl ?_
      refine z_iload_n B0 dL_law_667 rfl rfl ?_
      refine z_iconst (v := 3) B0 dL_law_668 (by decide) ?_
      refine z_iadd (v := 3) B0 dL_law_669 (by decide) ?_
      refine y_sld (j := 3) (v := x3) B0 hX hbl (by decide) e3.symm dL_law_670 ?_
      refine z_aload_n B0 dL_law_671 rfl rfl ?_
      refine z_iload_n B0 dL_law_672 rfl rfl ?_
      refine z_iconst (v := 4) B0 dL_law_673 (by decide) ?_
      refine z_iadd (v := 4) B0 dL_law_674 (by decide) ?_
      refine y_sld (j := 4) (v := x4) B0 hX hbl (by decide) e4.symm dL_law_675 ?_
      refine z_callC B0 (z_runV (q0 := 0) (As := [.int 3, .int x2, .int x3, .int x4]) (st := []) B0 (c_X11_lawful_10 (a := a) (cS0 w) x2 x3 x4 ⟨by omega, by omega⟩) cf_X11_lawful (cw_0 cy tE a rw (cS0 w)) rfl wm_L_82 wi_X11_lawful ws_X11_lawful dL_law_676 rfl (Nat.le_of_ble_eq_true rfl) ⟨by decide, by decide, by decide, by decide⟩) (fun r1 u1 p1 => ?_)
      obtain ⟨rfl, -⟩ := p1
      refine z_aload_n B0 dL_law_679 rfl rfl ?_
      refine z_aload_n B0 dL_law_680 rfl rfl ?_
      refine z_iload_n B0 dL_law_681 rfl rfl ?_
      refine z_iconst (v := 1) B0 dL_law_682 (by decide) ?_
      refine z_iadd (v := 1) B0 dL_law_683 (by decide) ?_
      refine y_sld (j := 1) (v := 3) B0 hX hbl (by decide) e1.symm dL_law_684 ?_
      refine z_aload_n B0 dL_law_685 rfl rfl ?_
      refine z_iload_n B0 dL_law_686 rfl rfl ?_
      refine z_iconst (v := 2) B0 dL_law_687 (by decide) ?_
      refine z_iadd (v := 2) B0 dL_law_688 (by decide) ?_
      refine y_sld (j := 2) (v := x2) B0 hX hbl (by decide) e2.symm dL_law_689 ?_
      refine z_aload_n B0 dL_law_690 rfl rfl ?_
      refine z_iload_n B0 dL_law_691 rfl rfl ?_
      refine z_iconst (v := 3) B0 dL_law_692 (by decide) ?_
      refine z_iadd (v := 3) B0 dL_law_693 (by decide) ?_
      refine y_sld (j := 3) (v := x3) B0 hX hbl (by decide) e3.symm dL_law_694 ?_
      refine z_aload_n B0 dL_law_695 rfl rfl ?_
      refine z_iload_n B0 dL_law_696 rfl rfl ?_
      refine z_iconst (v := 4) B0 dL_law_697 (by decide) ?_
      refine z_iadd (v := 4) B0 dL_law_698 (by decide) ?_
      refine y_sld (j := 4) (v := x4) B0 hX hbl (by decide) e4.symm dL_law_699 ?_
      refine z_callM B0 (z_runV (q0 := 0) (As := [.int 3, .int x2, .int x3, .int x4]) (st := [.int (-1)]) B0 (c_X12_lawful_10 (a := a2) mS0 x2 x3 x4 ⟨by omega, by omega⟩) cf_X12_lawful (mw_0 cy a2 mS0) rfl wm_L_86 wi_X12_lawful ws_X12_lawful dL_law_700 rfl (Nat.le_of_ble_eq_true rfl) ⟨by decide, by decide, by decide, by decide⟩) (fun r2 u2 p2 => ?_)
      obtain ⟨rfl, -⟩ := p2
      refine z_icmp_eq_t (tgt := 1091) B0 dL_law_703 (by decide) rfl ?_
      exact fin u1 u2
  · obtain rfl : x1 = 4 := Int32.toInt_inj.mp (h1.trans (by decide))
    rcases (show ((-2147483648) ≤ x2.toInt ∧ x2.toInt ≤ 0) ∨ (1 ≤ x2.toInt ∧ x2.toInt ≤ 3) ∨ (4 ≤ x2.toInt ∧ x2.toInt ≤ 2147483647) by have g1 := Int32.le_toInt x2; have g2 := Int32.toInt_lt x2; omega) with h2 | h2 | h2
    · refine z_aload_n B0 dL_law_655 rfl rfl ?_
      refine z_aload_n B0 dL_law_656 rfl rfl ?_
      refine z_iload_n B0 dL_law_657 rfl rfl ?_
      refine z_iconst (v := 1) B0 dL_law_658 (by decide) ?_
      refine z_iadd (v := 1) B0 dL_law_659 (by decide) ?_
      refine y_sld (j := 1) (v := 4) B0 hX hbl (by decide) e1.symm dL_law_660 ?_
      refine z_aload_n B0 dL_law_661 rfl rfl ?_
      refine z_iload_n B0 dL_law_662 rfl rfl ?_
      refine z_iconst (v := 2) B0 dL_law_663 (by decide) ?_
      refine z_iadd (v := 2) B0 dL_law_664 (by decide) ?_
      refine y_sld (j := 2) (v := x2) B0 hX hbl (by decide) e2.symm dL_law_665 ?_
      refine z_aload_n B0 dL_law_666 rfl rfl ?_
      refine z_iload_n B0 dL_law_667 rfl rfl ?_
      refine z_iconst (v := 3) B0 dL_law_668 (by decide) ?_
      refine z_iadd (v := 3) B0 dL_law_669 (by decide) ?_
      refine y_sld (j := 3) (v := x3) B0 hX hbl (by decide) e3.symm dL_law_670 ?_
      refine z_aload_n B0 dL_law_671 rfl rfl ?_
      refine z_iload_n B0 dL_law_672 rfl rfl ?_
      refine z_iconst (v := 4) B0 dL_law_673 (by decide) ?_
      refine z_iadd (v := 4) B0 dL_law_674 (by decide) ?_
      refine y_sld (j := 4) (v := x4) B0 hX hbl (by decide) e4.symm dL_law_675 ?_
      refine z_callC B0 (z_runV (q0 := 0) (As := [.int 4, .int x2, .int x3, .int x4]) (st := []) B0 (c_X11_lawful_11 (a := a) (cS0 w) x2 x3 x4 ⟨by omega, by omega⟩) cf_X11_lawful (cw_0 cy tE a rw (cS0 w)) rfl wm_L_82 wi_X11_lawful ws_X11_lawful dL_law_676 rfl (Nat.le_of_ble_eq_true rfl) ⟨by decide, by decide, by decide, by decide⟩) (fun r1 u1 p1 => ?_)
      obtain ⟨rfl, -⟩ := p1
      refine z_aload_n B0 dL_law_679 rfl rfl ?_
      refine z_aload_n B0 dL_law_680 rfl rfl ?_
      refine z_iload_n B0 dL_law_681 rfl rfl ?_
      refine z_iconst (v := 1) B0 dL_law_682 (by decide) ?_
      refine z_iadd (v := 1) B0 dL_law_683 (by decide) ?_
      refine y_sld (j := 1) (v := 4) B0 hX hbl (by decide) e1.symm dL_law_684 ?_
      refine z_aload_n B0 dL_law_685 rfl rfl ?_
      refine z_iload_n B0 dL_law_686 rfl rfl ?_
      refine z_iconst (v := 2) B0 dL_law_687 (by decide) ?_
      refine z_iadd (v := 2) B0 dL_law_688 (by decide) ?_
      refine y_sld (j := 2) (v := x2) B0 hX hbl (by decide) e2.symm dL_law_689 ?_
      refine z_aload_n B0 dL_law_690 rfl rfl ?_
      refine z_iload_n B0 dL_law_691 rfl rfl ?_
      refine z_iconst (v := 3) B0 dL_law_692 (by decide) ?_
      refine z_iadd (v := 3) B0 dL_law_693 (by decide) ?_
      refine y_sld (j := 3) (v := x3) B0 hX hbl (by decide) e3.symm dL_law_694 ?_
      refine z_aload_n B0 dL_law_695 rfl rfl ?_
      refine z_iload_n B0 dL_law_696 rfl rfl ?_
      refine z_iconst (v := 4) B0 dL_law_697 (by decide) ?_
      refine z_iadd (v := 4) B0 dL_law_698 (by decide) ?_
      refine y_sld (j := 4) (v := x4) B0 hX hbl (by decide) e4.symm dL_law_699 ?_
      refine z_callM B0 (z_runV (q0 := 0) (As := [.int 4, .int x2, .int x3, .int x4]) (st := [.int (-1)]) B0 (c_X12_lawful_11 (a := a2) mS0 x2 x3 x4 ⟨by omega, by omega⟩) cf_X12_lawful (mw_0 cy a2 mS0) rfl wm_L_86 wi_X12_lawful ws_X12_lawful dL_law_700 rfl (Nat.le_of_ble_eq_true rfl) ⟨by decide, by decide, by decide, by decide⟩) (fun r2 u2 p2 => ?_)
      obtain ⟨rfl, -⟩ := p2
      refine z_icmp_eq_t (tgt := 1091) B0 dL_law_703 (by decide) rfl ?_
      exact fin u1 u2
    · rcases (show ((-2147483648) ≤ x3.toInt ∧ x3.toInt ≤ (-1)) ∨ (0 ≤ x3.toInt ∧ x3.toInt ≤ 31) ∨ (32 ≤ x3.toInt ∧ x3.toInt ≤ 2147483647) by have g1 := Int32.le_toInt x3; have g2 := Int32.toInt_lt x3; omega) with h3 | h3 | h3
      · refine z_aload_n B0 dL_law_655 rfl rfl ?_
        refine z_aload_n B0 dL_law_656 rfl rfl ?_
        refine z_iload_n B0 dL_law_657 rfl rfl ?_
        refine z_iconst (v := 1) B0 dL_law_658 (by decide) ?_
        refine z_iadd (v := 1) B0 dL_law_659 (by decide) ?_
        refine y_sld (j := 1) (v := 4) B0 hX hbl (by decide) e1.symm dL_law_660 ?_
        refine z_aload_n B0 dL_law_661 rfl rfl ?_
        refine z_iload_n B0 dL_law_662 rfl rfl ?_
        refine z_iconst (v := 2) B0 dL_law_663 (by decide) ?_
        refine z_iadd (v := 2) B0 dL_law_664 (by decide) ?_
        refine y_sld (j := 2) (v := x2) B0 hX hbl (by decide) e2.symm dL_law_665 ?_
        refine z_aload_n B0 dL_law_666 rfl rfl ?_
        refine z_iload_n B0 dL_law_667 rfl rfl ?_
        refine z_iconst (v := 3) B0 dL_law_668 (by decide) ?_
        refine z_iadd (v := 3) B0 dL_law_669 (by decide) ?_
        refine y_sld (j := 3) (v := x3) B0 hX hbl (by decide) e3.symm dL_law_670 ?_
        refine z_aload_n B0 dL_law_671 rfl rfl ?_
        refine z_iload_n B0 dL_law_672 rfl rfl ?_
        refine z_iconst (v := 4) B0 dL_law_673 (by decide) ?_
        refine z_iadd (v := 4) B0 dL_law_674 (by decide) ?_
        refine y_sld (j := 4) (v := x4) B0 hX hbl (by decide) e4.symm dL_law_675 ?_
        refine z_callC B0 (z_runV (q0 := 0) (As := [.int 4, .int x2, .int x3, .int x4]) (st := []) B0 (c_X11_lawful_23 (a := a) (cS0 w) x2 x3 x4 ⟨by omega, by omega⟩ ⟨by omega, by omega⟩) cf_X11_lawful (cw_0 cy tE a rw (cS0 w)) rfl wm_L_82 wi_X11_lawful ws_X11_lawful dL_law_676 rfl (Nat.le_of_ble_eq_true rfl) ⟨by decide, by decide, by decide, by decide⟩) (fun r1 u1 p1 => ?_)
        obtain ⟨rfl, -⟩ := p1
        refine z_aload_n B0 dL_law_679 rfl rfl ?_
        refine z_aload_n B0 dL_law_680 rfl rfl ?_
        refine z_iload_n B0 dL_law_681 rfl rfl ?_
        refine z_iconst (v := 1) B0 dL_law_682 (by decide) ?_
        refine z_iadd (v := 1) B0 dL_law_683 (by decide) ?_
        refine y_sld (j := 1) (v := 4) B0 hX hbl (by decide) e1.symm dL_law_684 ?_
        refine z_aload_n B0 dL_law_685 rfl rfl ?_
        refine z_iload_n B0 dL_law_686 rfl rfl ?_
        refine z_iconst (v := 2) B0 dL_law_687 (by decide) ?_
        refine z_iadd (v := 2) B0 dL_law_688 (by decide) ?_
        refine y_sld (j := 2) (v := x2) B0 hX hbl (by decide) e2.symm dL_law_689 ?_
        refine z_aload_n B0 dL_law_690 rfl rfl ?_
        refine z_iload_n B0 dL_law_691 rfl rfl ?_
        refine z_iconst (v := 3) B0 dL_law_692 (by decide) ?_
        refine z_iadd (v := 3) B0 dL_law_693 (by decide) ?_
        refine y_sld (j := 3) (v := x3) B0 hX hbl (by decide) e3.symm dL_law_694 ?_
        refine z_aload_n B0 dL_law_695 rfl rfl ?_
        refine z_iload_n B0 dL_law_696 rfl rfl ?_
        refine z_iconst (v := 4) B0 dL_law_697 (by decide) ?_
        refine z_iadd (v := 4) B0 dL_law_698 (by decide) ?_
        refine y_sld (j := 4) (v := x4) B0 hX hbl (by decide) e4.symm dL_law_699 ?_
        refine z_callM B0 (z_runV (q0 := 0) (As := [.int 4, .int x2, .int x3, .int x4]) (st := [.int (-1)]) B0 (c_X12_lawful_23 (a := a2) mS0 x2 x3 x4 ⟨by omega, by omega⟩ ⟨by omega, by omega⟩) cf_X12_lawful (mw_0 cy a2 mS0) rfl wm_L_86 wi_X12_lawful ws_X12_lawful dL_law_700 rfl (Nat.le_of_ble_eq_true rfl) ⟨by decide, by decide, by decide, by decide⟩) (fun r2 u2 p2 => ?_)
        obtain ⟨rfl, -⟩ := p2
        refine z_icmp_eq_t (tgt := 1091) B0 dL_law_703 (by decide) rfl ?_
        exact fin u1 u2
      · rcases (show ((-2147483648) ≤ x4.toInt ∧ x4.toInt ≤ (-1)) ∨ x4.toInt = 0 ∨ x4.toInt = 1 ∨ (2 ≤ x4.toInt ∧ x4.toInt ≤ 2147483647) by have g1 := Int32.le_toInt x4; have g2 := Int32.toInt_lt x4; omega) with h4 | h4 | h4 | h4
        · refine z_aload_n B0 dL_law_655 rfl rfl ?_
          refine z_aload_n B0 dL_law_656 rfl rfl ?_
          refine z_iload_n B0 dL_law_657 rfl rfl ?_
          refine z_iconst (v := 1) B0 dL_law_658 (by decide) ?_
          refine z_iadd (v := 1) B0 dL_law_659 (by decide) ?_
          refine y_sld (j := 1) (v := 4) B0 hX hbl (by decide) e1.symm dL_law_660 ?_
          refine z_aload_n B0 dL_law_661 rfl rfl ?_
          refine z_iload_n B0 dL_law_662 rfl rfl ?_
          refine z_iconst (v := 2) B0 dL_law_663 (by decide) ?_
          refine z_iadd (v := 2) B0 dL_law_664 (by decide) ?_
          refine y_sld (j := 2) (v := x2) B0 hX hbl (by decide) e2.symm dL_law_665 ?_
          refine z_aload_n B0 dL_law_666 rfl rfl ?_
          refine z_iload_n B0 dL_law_667 rfl rfl ?_
          refine z_iconst (v := 3) B0 dL_law_668 (by decide) ?_
          refine z_iadd (v := 3) B0 dL_law_669 (by decide) ?_
          refine y_sld (j := 3) (v := x3) B0 hX hbl (by decide) e3.symm dL_law_670 ?_
          refine z_aload_n B0 dL_law_671 rfl rfl ?_
          refine z_iload_n B0 dL_law_672 rfl rfl ?_
          refine z_iconst (v := 4) B0 dL_law_673 (by decide) ?_
          refine z_iadd (v := 4) B0 dL_law_674 (by decide) ?_
          refine y_sld (j := 4) (v := x4) B0 hX hbl (by decide) e4.symm dL_law_675 ?_
          refine z_callC B0 (z_runV (q0 := 0) (As := [.int 4, .int x2, .int x3, .int x4]) (st := []) B0 (c_X11_lawful_43 (a := a) (cS0 w) x2 x3 x4 ⟨by omega, by omega⟩ ⟨by omega, by omega⟩ ⟨by omega, by omega⟩) cf_X11_lawful (cw_0 cy tE a rw (cS0 w)) rfl wm_L_82 wi_X11_lawful ws_X11_lawful dL_law_676 rfl (Nat.le_of_ble_eq_true rfl) ⟨by decide, by decide, by decide, by decide⟩) (fun r1 u1 p1 => ?_)
          obtain ⟨rfl, -⟩ := p1
          refine z_aload_n B0 dL_law_679 rfl rfl ?_
          refine z_aload_n B0 dL_law_680 rfl rfl ?_
          refine z_iload_n B0 dL_law_681 rfl rfl ?_
          refine z_iconst (v := 1) B0 dL_law_682 (by decide) ?_
          refine z_iadd (v := 1) B0 dL_law_683 (by decide) ?_
          refine y_sld (j := 1) (v := 4) B0 hX hbl (by decide) e1.symm dL_law_684 ?_
          refine z_aload_n B0 dL_law_685 rfl rfl ?_
          refine z_iload_n B0 dL_law_686 rfl rfl ?_
          refine z_iconst (v := 2) B0 dL_law_687 (by decide) ?_
          refine z_iadd (v := 2) B0 dL_law_688 (by decide) ?_
          refine y_sld (j := 2) (v := x2) B0 hX hbl (by decide) e2.symm dL_law_689 ?_
          refine z_aload_n B0 dL_law_690 rfl rfl ?_
          refine z_iload_n B0 dL_law_691 rfl rfl ?_
          refine z_iconst (v := 3) B0 dL_law_692 (by decide) ?_
          refine z_iadd (v := 3) B0 dL_law_693 (by decide) ?_
          refine y_sld (j := 3) (v := x3) B0 hX hbl (by decide) e3.symm dL_law_694 ?_
          refine z_aload_n B0 dL_law_695 rfl rfl ?_
          refine z_iload_n B0 dL_law_696 rfl rfl ?_
          refine z_iconst (v := 4) B0 dL_law_697 (by decide) ?_
          refine z_iadd (v := 4) B0 dL_law_698 (by decide) ?_
          refine y_sld (j := 4) (v := x4) B0 hX hbl (by decide) e4.symm dL_law_699 ?_
          refine z_callM B0 (z_runV (q0 := 0) (As := [.int 4, .int x2, .int x3, .int x4]) (st := [.int (-1)]) B0 (c_X12_lawful_43 (a := a2) mS0 x2 x3 x4 ⟨by omega, by omega⟩ ⟨by omega, by omega⟩ ⟨by omega, by omega⟩) cf_X12_lawful (mw_0 cy a2 mS0) rfl wm_L_86 wi_X12_lawful ws_X12_lawful dL_law_700 rfl (Nat.le_of_ble_eq_true rfl) ⟨by decide, by decide, by decide, by decide⟩) (fun r2 u2 p2 => ?_)
          obtain ⟨rfl, -⟩ := p2
          refine z_icmp_eq_t (tgt := 1091) B0 dL_law_703 (by decide) rfl ?_
          exact fin u1 u2
        · obtain rfl : x4 = 0 := Int32.toInt_inj.mp (h4.trans (by decide))
          refine z_aload_n B0 dL_law_655 rfl rfl ?_
          refine z_aload_n B0 dL_law_656 rfl rfl ?_
          refine z_iload_n B0 dL_law_657 rfl rfl ?_
          refine z_iconst (v := 1) B0 dL_law_658 (by decide) ?_
          refine z_iadd (v := 1) B0 dL_law_659 (by decide) ?_
          refine y_sld (j := 1) (v := 4) B0 hX hbl (by decide) e1.symm dL_law_660 ?_
          refine z_aload_n B0 dL_law_661 rfl rfl ?_
          refine z_iload_n B0 dL_law_662 rfl rfl ?_
          refine z_iconst (v := 2) B0 dL_law_663 (by decide) ?_
          refine z_iadd (v := 2) B0 dL_law_664 (by decide) ?_
          refine y_sld (j := 2) (v := x2) B0 hX hbl (by decide) e2.symm dL_law_665 ?_
          refine z_aload_n B0 dL_law_666 rfl rfl ?_
          refine z_iload_n B0 dL_law_667 rfl rfl ?_
          refine z_iconst (v := 3) B0 dL_law_668 (by decide) ?_
          refine z_iadd (v := 3) B0 dL_law_669 (by decide) ?_
          refine y_sld (j := 3) (v := x3) B0 hX hbl (by decide) e3.symm dL_law_670 ?_
          refine z_aload_n B0 dL_law_671 rfl rfl ?_
          refine z_iload_n B0 dL_law_672 rfl rfl ?_
          refine z_iconst (v := 4) B0 dL_law_673 (by decide) ?_
          refine z_iadd (v := 4) B0 dL_law_674 (by decide) ?_
          refine y_sld (j := 4) (v := 0) B0 hX hbl (by decide) e4.symm dL_law_675 ?_
          refine z_callC B0 (z_runV (q0 := 0) (As := [.int 4, .int x2, .int x3, .int 0]) (st := []) B0 (c_X11_lawful_44 (a := a) (cS0 w) x2 x3 rfl rfl hrw ⟨by omega, by omega⟩ ⟨by omega, by omega⟩) cf_X11_lawful (cw_0 cy tE a rw (cS0 w)) rfl wm_L_82 wi_X11_lawful ws_X11_lawful dL_law_676 rfl (Nat.le_of_ble_eq_true rfl) ⟨by decide, by decide, by decide, by decide⟩) (fun r1 u1 p1 => ?_)
          obtain ⟨rfl, -⟩ := p1
          refine z_aload_n B0 dL_law_679 rfl rfl ?_
          refine z_aload_n B0 dL_law_680 rfl rfl ?_
          refine z_iload_n B0 dL_law_681 rfl rfl ?_
          refine z_iconst (v := 1) B0 dL_law_682 (by decide) ?_
          refine z_iadd (v := 1) B0 dL_law_683 (by decide) ?_
          refine y_sld (j := 1) (v := 4) B0 hX hbl (by decide) e1.symm dL_law_684 ?_
          refine z_aload_n B0 dL_law_685 rfl rfl ?_
          refine z_iload_n B0 dL_law_686 rfl rfl ?_
          refine z_iconst (v := 2) B0 dL_law_687 (by decide) ?_
          refine z_iadd (v := 2) B0 dL_law_688 (by decide) ?_
          refine y_sld (j := 2) (v := x2) B0 hX hbl (by decide) e2.symm dL_law_689 ?_
          refine z_aload_n B0 dL_law_690 rfl rfl ?_
          refine z_iload_n B0 dL_law_691 rfl rfl ?_
          refine z_iconst (v := 3) B0 dL_law_692 (by decide) ?_
          refine z_iadd (v := 3) B0 dL_law_693 (by decide) ?_
          refine y_sld (j := 3) (v := x3) B0 hX hbl (by decide) e3.symm dL_law_694 ?_
          refine z_aload_n B0 dL_law_695 rfl rfl ?_
          refine z_iload_n B0 dL_law_696 rfl rfl ?_
          refine z_iconst (v := 4) B0 dL_law_697 (by decide) ?_
          refine z_iadd (v := 4) B0 dL_law_698 (by decide) ?_
          refine y_sld (j := 4) (v := 0) B0 hX hbl (by decide) e4.symm dL_law_699 ?_
          refine z_callM B0 (z_runV (q0 := 0) (As := [.int 4, .int x2, .int x3, .int 0]) (st := [.int 0]) B0 (c_X12_lawful_44 (a := a2) mS0 x2 x3 rfl rfl ⟨by omega, by omega⟩ ⟨by omega, by omega⟩) cf_X12_lawful (mw_0 cy a2 mS0) rfl wm_L_86 wi_X12_lawful ws_X12_lawful dL_law_700 rfl (Nat.le_of_ble_eq_true rfl) ⟨by decide, by decide, by decide, by decide⟩) (fun r2 u2 p2 => ?_)
          obtain ⟨rfl, -⟩ := p2
          refine z_icmp_eq_t (tgt := 1091) B0 dL_law_703 (by decide) rfl ?_
          exact fin u1 u2
        · obtain rfl : x4 = 1 := Int32.toInt_inj.mp (h4.trans (by decide))
          refine z_aload_n B0 dL_law_655 rfl rfl ?_
          refine z_aload_n B0 dL_law_656 rfl rfl ?_
          refine z_iload_n B0 dL_law_657 rfl rfl ?_
          refine z_iconst (v := 1) B0 dL_law_658 (by decide) ?_
          refine z_iadd (v := 1) B0 dL_law_659 (by decide) ?_
          refine y_sld (j := 1) (v := 4) B0 hX hbl (by decide) e1.symm dL_law_660 ?_
          refine z_aload_n B0 dL_law_661 rfl rfl ?_
          refine z_iload_n B0 dL_law_662 rfl rfl ?_
          refine z_iconst (v := 2) B0 dL_law_663 (by decide) ?_
          refine z_iadd (v := 2) B0 dL_law_664 (by decide) ?_
          refine y_sld (j := 2) (v := x2) B0 hX hbl (by decide) e2.symm dL_law_665 ?_
          refine z_aload_n B0 dL_law_666 rfl rfl ?_
          refine z_iload_n B0 dL_law_667 rfl rfl ?_
          refine z_iconst (v := 3) B0 dL_law_668 (by decide) ?_
          refine z_iadd (v := 3) B0 dL_law_669 (by decide) ?_
          refine y_sld (j := 3) (v := x3) B0 hX hbl (by decide) e3.symm dL_law_670 ?_
          refine z_aload_n B0 dL_law_671 rfl rfl ?_
          refine z_iload_n B0 dL_law_672 rfl rfl ?_
          refine z_iconst (v := 4) B0 dL_law_673 (by decide) ?_
          refine z_iadd (v := 4) B0 dL_law_674 (by decide) ?_
          refine y_sld (j := 4) (v := 1) B0 hX hbl (by decide) e4.symm dL_law_675 ?_
          refine z_callC B0 (z_runV (q0 := 0) (As := [.int 4, .int x2, .int x3, .int 1]) (st := []) B0 (c_X11_lawful_45 (a := a) (cS0 w) x2 x3 rfl rfl hrw ⟨by omega, by omega⟩ ⟨by omega, by omega⟩) cf_X11_lawful (cw_0 cy tE a rw (cS0 w)) rfl wm_L_82 wi_X11_lawful ws_X11_lawful dL_law_676 rfl (Nat.le_of_ble_eq_true rfl) ⟨by decide, by decide, by decide, by decide⟩) (fun r1 u1 p1 => ?_)
          obtain ⟨rfl, -⟩ := p1
          refine z_aload_n B0 dL_law_679 rfl rfl ?_
          refine z_aload_n B0 dL_law_680 rfl rfl ?_
          refine z_iload_n B0 dL_law_681 rfl rfl ?_
          refine z_iconst (v := 1) B0 dL_law_682 (by decide) ?_
          refine z_iadd (v := 1) B0 dL_law_683 (by decide) ?_
          refine y_sld (j := 1) (v := 4) B0 hX hbl (by decide) e1.symm dL_law_684 ?_
          refine z_aload_n B0 dL_law_685 rfl rfl ?_
          refine z_iload_n B0 dL_law_686 rfl rfl ?_
          refine z_iconst (v := 2) B0 dL_law_687 (by decide) ?_
          refine z_iadd (v := 2) B0 dL_law_688 (by decide) ?_
          refine y_sld (j := 2) (v := x2) B0 hX hbl (by decide) e2.symm dL_law_689 ?_
          refine z_aload_n B0 dL_law_690 rfl rfl ?_
          refine z_iload_n B0 dL_law_691 rfl rfl ?_
          refine z_iconst (v := 3) B0 dL_law_692 (by decide) ?_
          refine z_iadd (v := 3) B0 dL_law_693 (by decide) ?_
          refine y_sld (j := 3) (v := x3) B0 hX hbl (by decide) e3.symm dL_law_694 ?_
          refine z_aload_n B0 dL_law_695 rfl rfl ?_
          refine z_iload_n B0 dL_law_696 rfl rfl ?_
          refine z_iconst (v := 4) B0 dL_law_697 (by decide) ?_
          refine z_iadd (v := 4) B0 dL_law_698 (by decide) ?_
          refine y_sld (j := 4) (v := 1) B0 hX hbl (by decide) e4.symm dL_law_699 ?_
          refine z_callM B0 (z_runV (q0 := 0) (As := [.int 4, .int x2, .int x3, .int 1]) (st := [.int (-1)]) B0 (c_X12_lawful_45 (a := a2) mS0 x2 x3 rfl rfl ⟨by omega, by omega⟩ ⟨by omega, by omega⟩) cf_X12_lawful (mw_0 cy a2 mS0) rfl wm_L_86 wi_X12_lawful ws_X12_lawful dL_law_700 rfl (Nat.le_of_ble_eq_true rfl) ⟨by decide, by decide, by decide, by decide⟩) (fun r2 u2 p2 => ?_)
          obtain ⟨rfl, -⟩ := p2
          refine z_icmp_eq_t (tgt := 1091) B0 dL_law_703 (by decide) rfl ?_
          exact fin u1 u2
        · refine z_aload_n B0 dL_law_655 rfl rfl ?_
          refine z_aload_n B0 dL_law_656 rfl rfl ?_
          refine z_iload_n B0 dL_law_657 rfl rfl ?_
          refine z_iconst (v := 1) B0 dL_law_658 (by decide) ?_
          refine z_iadd (v := 1) B0 dL_law_659 (by decide) ?_
          refine y_sld (j := 1) (v := 4) B0 hX hbl (by decide) e1.symm dL_law_660 ?_
          refine z_aload_n B0 dL_law_661 rfl rfl ?_
          refine z_iload_n B0 dL_law_662 rfl rfl ?_
          refine z_iconst (v := 2) B0 dL_law_663 (by decide) ?_
          refine z_iadd (v := 2) B0 dL_law_664 (by decide) ?_
          refine y_sld (j := 2) (v := x2) B0 hX hbl (by decide) e2.symm dL_law_665 ?_
          refine z_aload_n B0 dL_law_666 rfl rfl ?_
          refine z_iload_n B0 dL_law_667 rfl rfl ?_
          refine z_iconst (v := 3) B0 dL_law_668 (by decide) ?_
          refine z_iadd (v := 3) B0 dL_law_669 (by decide) ?_
          refine y_sld (j := 3) (v := x3) B0 hX hbl (by decide) e3.symm dL_law_670 ?_
          refine z_aload_n B0 dL_law_671 rfl rfl ?_
          refine z_iload_n B0 dL_law_672 rfl rfl ?_
          refine z_iconst (v := 4) B0 dL_law_673 (by decide) ?_
          refine z_iadd (v := 4) B0 dL_law_674 (by decide) ?_
          refine y_sld (j := 4) (v := x4) B0 hX hbl (by decide) e4.symm dL_law_675 ?_
          refine z_callC B0 (z_runV (q0 := 0) (As := [.int 4, .int x2, .int x3, .int x4]) (st := []) B0 (c_X11_lawful_46 (a := a) (cS0 w) x2 x3 x4 ⟨by omega, by omega⟩ ⟨by omega, by omega⟩ ⟨by omega, by omega⟩) cf_X11_lawful (cw_0 cy tE a rw (cS0 w)) rfl wm_L_82 wi_X11_lawful ws_X11_lawful dL_law_676 rfl (Nat.le_of_ble_eq_true rfl) ⟨by decide, by decide, by decide, by decide⟩) (fun r1 u1 p1 => ?_)
          obtain ⟨rfl, -⟩ := p1
          refine z_aload_n B0 dL_law_679 rfl rfl ?_
          refine z_aload_n B0 dL_law_680 rfl rfl ?_
          refine z_iload_n B0 dL_law_681 rfl rfl ?_
          refine z_iconst (v := 1) B0 dL_law_682 (by decide) ?_
          refine z_iadd (v := 1) B0 dL_law_683 (by decide) ?_
          refine y_sld (j := 1) (v := 4) B0 hX hbl (by decide) e1.symm dL_law_684 ?_
          refine z_aload_n B0 dL_law_685 rfl rfl ?_
          refine z_iload_n B0 dL_law_686 rfl rfl ?_
          refine z_iconst (v := 2) B0 dL_law_687 (by decide) ?_
          refine z_iadd (v := 2) B0 dL_law_688 (by decide) ?_
          refine y_sld (j := 2) (v := x2) B0 hX hbl (by decide) e2.symm dL_law_689 ?_
          refine z_aload_n B0 dL_law_690 rfl rfl ?_
          refine z_iload_n B0 dL_law_691 rfl rfl ?_
          refine z_iconst (v := 3) B0 dL_law_692 (by decide) ?_
          refine z_iadd (v := 3) B0 dL_law_693 (by decide) ?_
          refine y_sld (j := 3) (v := x3) B0 hX hbl (by decide) e3.symm dL_law_694 ?_
          refine z_aload_n B0 dL_law_695 rfl rfl ?_
          refine z_iload_n B0 dL_law_696 rfl rfl ?_
          refine z_iconst (v := 4) B0 dL_law_697 (by decide) ?_
          refine z_iadd (v := 4) B0 dL_law_698 (by decide) ?_
          refine y_sld (j := 4) (v := x4) B0 hX hbl (by decide) e4.symm dL_law_699 ?_
          refine z_callM B0 (z_runV (q0 := 0) (As := [.int 4, .int x2, .int x3, .int x4]) (st := [.int (-1)]) B0 (c_X12_lawful_46 (a := a2) mS0 x2 x3 x4 ⟨by omega, by omega⟩ ⟨by omega, by omega⟩ ⟨by omega, by omega⟩) cf_X12_lawful (mw_0 cy a2 mS0) rfl wm_L_86 wi_X12_lawful ws_X12_lawful dL_law_700 rfl (Nat.le_of_ble_eq_true rfl) ⟨by decide, by decide, by decide, by decide⟩) (fun r2 u2 p2 => ?_)
          obtain ⟨rfl, -⟩ := p2
          refine z_icmp_eq_t (tgt := 1091) B0 dL_law_703 (by decide) rfl ?_
          exact fin u1 u2
      · refine z_aload_n B0 dL_law_655 rfl rfl ?_
        refine z_aload_n B0 dL_law_656 rfl rfl ?_
        refine z_iload_n B0 dL_law_657 rfl rfl ?_
        refine z_iconst (v := 1) B0 dL_law_658 (by decide) ?_
        refine z_iadd (v := 1) B0 dL_law_659 (by decide) ?_
        refine y_sld (j := 1) (v := 4) B0 hX hbl (by decide) e1.symm dL_law_660 ?_
        refine z_aload_n B0 dL_law_661 rfl rfl ?_
        refine z_iload_n B0 dL_law_662 rfl rfl ?_
        refine z_iconst (v := 2) B0 dL_law_663 (by decide) ?_
        refine z_iadd (v := 2) B0 dL_law_664 (by decide) ?_
        refine y_sld (j := 2) (v := x2) B0 hX hbl (by decide) e2.symm dL_law_665 ?_
        refine z_aload_n B0 dL_law_666 rfl rfl ?_
        refine z_iload_n B0 dL_law_667 rfl rfl ?_
        refine z_iconst (v := 3) B0 dL_law_668 (by decide) ?_
        refine z_iadd (v := 3) B0 dL_law_669 (by decide) ?_
        refine y_sld (j := 3) (v := x3) B0 hX hbl (by decide) e3.symm dL_law_670 ?_
        refine z_aload_n B0 dL_law_671 rfl rfl ?_
        refine z_iload_n B0 dL_law_672 rfl rfl ?_
        refine z_iconst (v := 4) B0 dL_law_673 (by decide) ?_
        refine z_iadd (v := 4) B0 dL_law_674 (by decide) ?_
        refine y_sld (j := 4) (v := x4) B0 hX hbl (by decide) e4.symm dL_law_675 ?_
        refine z_callC B0 (z_runV (q0 := 0) (As := [.int 4, .int x2, .int x3, .int x4]) (st := []) B0 (c_X11_lawful_24 (a := a) (cS0 w) x2 x3 x4 ⟨by omega, by omega⟩ ⟨by omega, by omega⟩) cf_X11_lawful (cw_0 cy tE a rw (cS0 w)) rfl wm_L_82 wi_X11_lawful ws_X11_lawful dL_law_676 rfl (Nat.le_of_ble_eq_true rfl) ⟨by decide, by decide, by decide, by decide⟩) (fun r1 u1 p1 => ?_)
        obtain ⟨rfl, -⟩ := p1
        refine z_aload_n B0 dL_law_679 rfl rfl ?_
        refine z_aload_n B0 dL_law_680 rfl rfl ?_
        refine z_iload_n B0 dL_law_681 rfl rfl ?_
        refine z_iconst (v := 1) B0 dL_law_682 (by decide) ?_
        refine z_iadd (v := 1) B0 dL_law_683 (by decide) ?_
        refine y_sld (j := 1) (v := 4) B0 hX hbl (by decide) e1.symm dL_law_684 ?_
        refine z_aload_n B0 dL_law_685 rfl rfl ?_
        refine z_iload_n B0 dL_law_686 rfl rfl ?_
        refine z_iconst (v := 2) B0 dL_law_687 (by decide) ?_
        refine z_iadd (v := 2) B0 dL_law_688 (by decide) ?_
        refine y_sld (j := 2) (v := x2) B0 hX hbl (by decide) e2.symm dL_law_689 ?_
        refine z_aload_n B0 dL_law_690 rfl rfl ?_
        refine z_iload_n B0 dL_law_691 rfl rfl ?_
        refine z_iconst (v := 3) B0 dL_law_692 (by decide) ?_
        refine z_iadd (v := 3) B0 dL_law_693 (by decide) ?_
        refine y_sld (j := 3) (v := x3) B0 hX hbl (by decide) e3.symm dL_law_694 ?_
        refine z_aload_n B0 dL_law_695 rfl rfl ?_
        refine z_iload_n B0 dL_law_696 rfl rfl ?_
        refine z_iconst (v := 4) B0 dL_law_697 (by decide) ?_
        refine z_iadd (v := 4) B0 dL_law_698 (by decide) ?_
        refine y_sld (j := 4) (v := x4) B0 hX hbl (by decide) e4.symm dL_law_699 ?_
        refine z_callM B0 (z_runV (q0 := 0) (As := [.int 4, .int x2, .int x3, .int x4]) (st := [.int (-1)]) B0 (c_X12_lawful_24 (a := a2) mS0 x2 x3 x4 ⟨by omega, by omega⟩ ⟨by omega, by omega⟩) cf_X12_lawful (mw_0 cy a2 mS0) rfl wm_L_86 wi_X12_lawful ws_X12_lawful dL_law_700 rfl (Nat.le_of_ble_eq_true rfl) ⟨by decide, by decide, by decide, by decide⟩) (fun r2 u2 p2 => ?_)
        obtain ⟨rfl, -⟩ := p2
        refine z_icmp_eq_t (tgt := 1091) B0 dL_law_703 (by decide) rfl ?_
        exact fin u1 u2
    · refine z_aload_n B0 dL_law_655 rfl rfl ?_
      refine z_aload_n B0 dL_law_656 rfl rfl ?_
      refine z_iload_n B0 dL_law_657 rfl rfl ?_
      refine z_iconst (v := 1) B0 dL_law_658 (by decide) ?_
      refine z_iadd (v := 1) B0 dL_law_659 (by decide) ?_
      refine y_sld (j := 1) (v := 4) B0 hX hbl (by decide) e1.symm dL_law_660 ?_
      refine z_aload_n B0 dL_law_661 rfl rfl ?_
      refine z_iload_n B0 dL_law_662 rfl rfl ?_
      refine z_iconst (v := 2) B0 dL_law_663 (by decide) ?_
      refine z_iadd (v := 2) B0 dL_law_664 (by decide) ?_
      refine y_sld (j := 2) (v := x2) B0 hX hbl (by decide) e2.symm dL_law_665 ?_
      refine z_aload_n B0 dL_law_666 rfl rfl ?_
      refine z_iload_n B0 dL_law_667 rfl rfl ?_
      refine z_iconst (v := 3) B0 dL_law_668 (by decide) ?_
      refine z_iadd (v := 3) B0 dL_law_669 (by decide) ?_
      refine y_sld (j := 3) (v := x3) B0 hX hbl (by decide) e3.symm dL_law_670 ?_
      refine z_aload_n B0 dL_law_671 rfl rfl ?_
      refine z_iload_n B0 dL_law_672 rfl rfl ?_
      refine z_iconst (v := 4) B0 dL_law_673 (by decide) ?_
      refine z_iadd (v := 4) B0 dL_law_674 (by decide) ?_
      refine y_sld (j := 4) (v := x4) B0 hX hbl (by decide) e4.symm dL_law_675 ?_
      refine z_callC B0 (z_runV (q0 := 0) (As := [.int 4, .int x2, .int x3, .int x4]) (st := []) B0 (c_X11_lawful_12 (a := a) (cS0 w) x2 x3 x4 ⟨by omega, by omega⟩) cf_X11_lawful (cw_0 cy tE a rw (cS0 w)) rfl wm_L_82 wi_X11_lawful ws_X11_lawful dL_law_676 rfl (Nat.le_of_ble_eq_true rfl) ⟨by decide, by decide, by decide, by decide⟩) (fun r1 u1 p1 => ?_)
      obtain ⟨rfl, -⟩ := p1
      refine z_aload_n B0 dL_law_679 rfl rfl ?_
      refine z_aload_n B0 dL_law_680 rfl rfl ?_
      refine z_iload_n B0 dL_law_681 rfl rfl ?_
      refine z_iconst (v := 1) B0 dL_law_682 (by decide) ?_
      refine z_iadd (v := 1) B0 dL_law_683 (by decide) ?_
      refine y_sld (j := 1) (v := 4) B0 hX hbl (by decide) e1.symm dL_law_684 ?_
      refine z_aload_n B0 dL_law_685 rfl rfl ?_
      refine z_iload_n B0 dL_law_686 rfl rfl ?_
      refine z_iconst (v := 2) B0 dL_law_687 (by decide) ?_
      refine z_iadd (v := 2) B0 dL_law_688 (by decide) ?_
      refine y_sld (j := 2) (v := x2) B0 hX hbl (by decide) e2.symm dL_law_689 ?_
      refine z_aload_n B0 dL_law_690 rfl rfl ?_
      refine z_iload_n B0 dL_law_691 rfl rfl ?_
      refine z_iconst (v := 3) B0 dL_law_692 (by decide) ?_
      refine z_iadd (v := 3) B0 dL_law_693 (by decide) ?_
      refine y_sld (j := 3) (v := x3) B0 hX hbl (by decide) e3.symm dL_law_694 ?_
      refine z_aload_n B0 dL_law_695 rfl rfl ?_
      refine z_iload_n B0 dL_law_696 rfl rfl ?_
      refine z_iconst (v := 4) B0 dL_law_697 (by decide) ?_
      refine z_iadd (v := 4) B0 dL_law_698 (by decide) ?_
      refine y_sld (j := 4) (v := x4) B0 hX hbl (by decide) e4.symm dL_law_699 ?_
      refine z_callM B0 (z_runV (q0 := 0) (As := [.int 4, .int x2, .int x3, .int x4]) (st := [.int (-1)]) B0 (c_X12_lawful_12 (a := a2) mS0 x2 x3 x4 ⟨by omega, by omega⟩) cf_X12_lawful (mw_0 cy a2 mS0) rfl wm_L_86 wi_X12_lawful ws_X12_lawful dL_law_700 rfl (Nat.le_of_ble_eq_true rfl) ⟨by decide, by decide, by decide, by decide⟩) (fun r2 u2 p2 => ?_)
      obtain ⟨rfl, -⟩ := p2
      refine z_icmp_eq_t (tgt := 1091) B0 dL_law_703 (by decide) rfl ?_
      exact fin u1 u2
  · obtain rfl : x1 = 5 := Int32.toInt_inj.mp (h1.trans (by decide))
    rcases (show ((-2147483648) ≤ x2.toInt ∧ x2.toInt ≤ 0) ∨ (1 ≤ x2.toInt ∧ x2.toInt ≤ 3) ∨ (4 ≤ x2.toInt ∧ x2.toInt ≤ 2147483647) by have g1 := Int32.le_toInt x2; have g2 := Int32.toInt_lt x2; omega) with h2 | h2 | h2
    · refine z_aload_n B0 dL_law_655 rfl rfl ?_
      refine z_aload_n B0 dL_law_656 rfl rfl ?_
      refine z_iload_n B0 dL_law_657 rfl rfl ?_
      refine z_iconst (v := 1) B0 dL_law_658 (by decide) ?_
      refine z_iadd (v := 1) B0 dL_law_659 (by decide) ?_
      refine y_sld (j := 1) (v := 5) B0 hX hbl (by decide) e1.symm dL_law_660 ?_
      refine z_aload_n B0 dL_law_661 rfl rfl ?_
      refine z_iload_n B0 dL_law_662 rfl rfl ?_
      refine z_iconst (v := 2) B0 dL_law_663 (by decide) ?_
      refine z_iadd (v := 2) B0 dL_law_664 (by decide) ?_
      refine y_sld (j := 2) (v := x2) B0 hX hbl (by decide) e2.symm dL_law_665 ?_
      refine z_aload_n B0 dL_law_666 rfl rfl ?_
      refine z_iload_n B0 dL_law_667 rfl rfl ?_
      refine z_iconst (v := 3) B0 dL_law_668 (by decide) ?_
      refine z_iadd (v := 3) B0 dL_law_669 (by decide) ?_
      refine y_sld (j := 3) (v := x3) B0 hX hbl (by decide) e3.symm dL_law_670 ?_
      refine z_aload_n B0 dL_law_671 rfl rfl ?_
      refine z_iload_n B0 dL_law_672 rfl rfl ?_
      refine z_iconst (v := 4) B0 dL_law_673 (by decide) ?_
      refine z_iadd (v := 4) B0 dL_law_674 (by decide) ?_
      refine y_sld (j := 4) (v := x4) B0 hX hbl (by decide) e4.symm dL_law_675 ?_
      refine z_callC B0 (z_runV (q0 := 0) (As := [.int 5, .int x2, .int x3, .int x4]) (st := []) B0 (c_X11_lawful_13 (a := a) (cS0 w) x2 x3 x4 ⟨by omega, by omega⟩) cf_X11_lawful (cw_0 cy tE a rw (cS0 w)) rfl wm_L_82 wi_X11_lawful ws_X11_lawful dL_law_676 rfl (Nat.le_of_ble_eq_true rfl) ⟨by decide, by decide, by decide, by decide⟩) (fun r1 u1 p1 => ?_)
      obtain ⟨rfl, -⟩ := p1
      refine z_aload_n B0 dL_law_679 rfl rfl ?_
      refine z_aload_n B0 dL_law_680 rfl rfl ?_
      refine z_iload_n B0 dL_law_681 rfl rfl ?_
      refine z_iconst (v := 1) B0 dL_law_682 (by decide) ?_
      refine z_iadd (v := 1) B0 dL_law_683 (by decide) ?_
      refine y_sld (j := 1) (v := 5) B0 hX hbl (by decide) e1.symm dL_law_684 ?_
      refine z_aload_n B0 dL_law_685 rfl rfl ?_
      refine z_iload_n B0 dL_law_686 rfl rfl ?_
      refine z_iconst (v := 2) B0 dL_law_687 (by decide) ?_
      refine z_iadd (v := 2) B0 dL_law_688 (by decide) ?_
      refine y_sld (j := 2) (v := x2) B0 hX hbl (by decide) e2.symm dL_law_689 ?_
      refine z_aload_n B0 dL_law_690 rfl rfl ?_
      refine z_iload_n B0 dL_law_691 rfl rfl ?_
      refine z_iconst (v := 3) B0 dL_law_692 (by decide) ?_
      refine z_iadd (v := 3) B0 dL_law_693 (by decide) ?_
      refine y_sld (j := 3) (v := x3) B0 hX hbl (by decide) e3.symm dL_law_694 ?_
      refine z_aload_n B0 dL_law_695 rfl rfl ?_
      refine z_iload_n B0 dL_law_696 rfl rfl ?_
      refine z_iconst (v := 4) B0 dL_law_697 (by decide) ?_
      refine z_iadd (v := 4) B0 dL_law_698 (by decide) ?_
      refine y_sld (j := 4) (v := x4) B0 hX hbl (by decide) e4.symm dL_law_699 ?_
      refine z_callM B0 (z_runV (q0 := 0) (As := [.int 5, .int x2, .int x3, .int x4]) (st := [.int (-1)]) B0 (c_X12_lawful_13 (a := a2) mS0 x2 x3 x4 ⟨by omega, by omega⟩) cf_X12_lawful (mw_0 cy a2 mS0) rfl wm_L_86 wi_X12_lawful ws_X12_lawful dL_law_700 rfl (Nat.le_of_ble_eq_true rfl) ⟨by decide, by decide, by decide, by decide⟩) (fun r2 u2 p2 => ?_)
      obtain ⟨rfl, -⟩ := p2
      refine z_icmp_eq_t (tgt := 1091) B0 dL_law_703 (by decide) rfl ?_
      exact fin u1 u2
    · rcases (show ((-2147483648) ≤ x3.toInt ∧ x3.toInt ≤ (-1)) ∨ (0 ≤ x3.toInt ∧ x3.toInt ≤ 31) ∨ (32 ≤ x3.toInt ∧ x3.toInt ≤ 2147483647) by have g1 := Int32.le_toInt x3; have g2 := Int32.toInt_lt x3; omega) with h3 | h3 | h3
      · refine z_aload_n B0 dL_law_655 rfl rfl ?_
        refine z_aload_n B0 dL_law_656 rfl rfl ?_
        refine z_iload_n B0 dL_law_657 rfl rfl ?_
        refine z_iconst (v := 1) B0 dL_law_658 (by decide) ?_
        refine z_iadd (v := 1) B0 dL_law_659 (by decide) ?_
        refine y_sld (j := 1) (v := 5) B0 hX hbl (by decide) e1.symm dL_law_660 ?_
        refine z_aload_n B0 dL_law_661 rfl rfl ?_
        refine z_iload_n B0 dL_law_662 rfl rfl ?_
        refine z_iconst (v := 2) B0 dL_law_663 (by decide) ?_
        refine z_iadd (v := 2) B0 dL_law_664 (by decide) ?_
        refine y_sld (j := 2) (v := x2) B0 hX hbl (by decide) e2.symm dL_law_665 ?_
        refine z_aload_n B0 dL_law_666 rfl rfl ?_
        refine z_iload_n B0 dL_law_667 rfl rfl ?_
        refine z_iconst (v := 3) B0 dL_law_668 (by decide) ?_
        refine z_iadd (v := 3) B0 dL_law_669 (by decide) ?_
        refine y_sld (j := 3) (v := x3) B0 hX hbl (by decide) e3.symm dL_law_670 ?_
        refine z_aload_n B0 dL_law_671 rfl rfl ?_
        refine z_iload_n B0 dL_law_672 rfl rfl ?_
        refine z_iconst (v := 4) B0 dL_law_673 (by decide) ?_
        refine z_iadd (v := 4) B0 dL_law_674 (by decide) ?_
        refine y_sld (j := 4) (v := x4) B0 hX hbl (by decide) e4.symm dL_law_675 ?_
        refine z_callC B0 (z_runV (q0 := 0) (As := [.int 5, .int x2, .int x3, .int x4]) (st := []) B0 (c_X11_lawful_25 (a := a) (cS0 w) x2 x3 x4 ⟨by omega, by omega⟩ ⟨by omega, by omega⟩) cf_X11_lawful (cw_0 cy tE a rw (cS0 w)) rfl wm_L_82 wi_X11_lawful ws_X11_lawful dL_law_676 rfl (Nat.le_of_ble_eq_true rfl) ⟨by decide, by decide, by decide, by decide⟩) (fun r1 u1 p1 => ?_)
        obtain ⟨rfl, -⟩ := p1
        refine z_aload_n B0 dL_law_679 rfl rfl ?_
        refine z_aload_n B0 dL_law_680 rfl rfl ?_
        refine z_iload_n B0 dL_law_681 rfl rfl ?_
        refine z_iconst (v := 1) B0 dL_law_682 (by decide) ?_
        refine z_iadd (v := 1) B0 dL_law_683 (by decide) ?_
        refine y_sld (j := 1) (v := 5) B0 hX hbl (by decide) e1.symm dL_law_684 ?_
        refine z_aload_n B0 dL_law_685 rfl rfl ?_
        refine z_iload_n B0 dL_law_686 rfl rfl ?_
        refine z_iconst (v := 2) B0 dL_law_687 (by decide) ?_
        refine z_iadd (v := 2) B0 dL_law_688 (by decide) ?_
        refine y_sld (j := 2) (v := x2) B0 hX hbl (by decide) e2.symm dL_law_689 ?_
        refine z_aload_n B0 dL_law_690 rfl rfl ?_
        refine z_iload_n B0 dL_law_691 rfl rfl ?_
        refine z_iconst (v := 3) B0 dL_law_692 (by decide) ?_
        refine z_iadd (v := 3) B0 dL_law_693 (by decide) ?_
        refine y_sld (j := 3) (v := x3) B0 hX hbl (by decide) e3.symm dL_law_694 ?_
        refine z_aload_n B0 dL_law_695 rfl rfl ?_
        refine z_iload_n B0 dL_law_696 rfl rfl ?_
        refine z_iconst (v := 4) B0 dL_law_697 (by decide) ?_
        refine z_iadd (v := 4) B0 dL_law_698 (by decide) ?_
        refine y_sld (j := 4) (v := x4) B0 hX hbl (by decide) e4.symm dL_law_699 ?_
        refine z_callM B0 (z_runV (q0 := 0) (As := [.int 5, .int x2, .int x3, .int x4]) (st := [.int (-1)]) B0 (c_X12_lawful_25 (a := a2) mS0 x2 x3 x4 ⟨by omega, by omega⟩ ⟨by omega, by omega⟩) cf_X12_lawful (mw_0 cy a2 mS0) rfl wm_L_86 wi_X12_lawful ws_X12_lawful dL_law_700 rfl (Nat.le_of_ble_eq_true rfl) ⟨by decide, by decide, by decide, by decide⟩) (fun r2 u2 p2 => ?_)
        obtain ⟨rfl, -⟩ := p2
        refine z_icmp_eq_t (tgt := 1091) B0 dL_law_703 (by decide) rfl ?_
        exact fin u1 u2
      · rcases (show ((-2147483648) ≤ x4.toInt ∧ x4.toInt ≤ (-1)) ∨ x4.toInt = 0 ∨ x4.toInt = 1 ∨ (2 ≤ x4.toInt ∧ x4.toInt ≤ 2147483647) by have g1 := Int32.le_toInt x4; have g2 := Int32.toInt_lt x4; omega) with h4 | h4 | h4 | h4
        · refine z_aload_n B0 dL_law_655 rfl rfl ?_
          refine z_aload_n B0 dL_law_656 rfl rfl ?_
          refine z_iload_n B0 dL_law_657 rfl rfl ?_
          refine z_iconst (v := 1) B0 dL_law_658 (by decide) ?_
          refine z_iadd (v := 1) B0 dL_law_659 (by decide) ?_
          refine y_sld (j := 1) (v := 5) B0 hX hbl (by decide) e1.symm dL_law_660 ?_
          refine z_aload_n B0 dL_law_661 rfl rfl ?_
          refine z_iload_n B0 dL_law_662 rfl rfl ?_
          refine z_iconst (v := 2) B0 dL_law_663 (by decide) ?_
          refine z_iadd (v := 2) B0 dL_law_664 (by decide) ?_
          refine y_sld (j := 2) (v := x2) B0 hX hbl (by decide) e2.symm dL_law_665 ?_
          refine z_aload_n B0 dL_law_666 rfl rfl ?_
          refine z_iload_n B0 dL_law_667 rfl rfl ?_
          refine z_iconst (v := 3) B0 dL_law_668 (by decide) ?_
          refine z_iadd (v := 3) B0 dL_law_669 (by decide) ?_
          refine y_sld (j := 3) (v := x3) B0 hX hbl (by decide) e3.symm dL_law_670 ?_
          refine z_aload_n B0 dL_law_671 rfl rfl ?_
          refine z_iload_n B0 dL_law_672 rfl rfl ?_
          refine z_iconst (v := 4) B0 dL_law_673 (by decide) ?_
          refine z_iadd (v := 4) B0 dL_law_674 (by decide) ?_
          refine y_sld (j := 4) (v := x4) B0 hX hbl (by decide) e4.symm dL_law_675 ?_
          refine z_callC B0 (z_runV (q0 := 0) (As := [.int 5, .int x2, .int x3, .int x4]) (st := []) B0 (c_X11_lawful_47 (a := a) (cS0 w) x2 x3 x4 ⟨by omega, by omega⟩ ⟨by omega, by omega⟩ ⟨by omega, by omega⟩) cf_X11_lawful (cw_0 cy tE a rw (cS0 w)) rfl wm_L_82 wi_X11_lawful ws_X11_lawful dL_law_676 rfl (Nat.le_of_ble_eq_true rfl) ⟨by decide, by decide, by decide, by decide⟩) (fun r1 u1 p1 => ?_)
          obtain ⟨rfl, -⟩ := p1
          refine z_aload_n B0 dL_law_679 rfl rfl ?_
          refine z_aload_n B0 dL_law_680 rfl rfl ?_
          refine z_iload_n B0 dL_law_681 rfl rfl ?_
          refine z_iconst (v := 1) B0 dL_law_682 (by decide) ?_
          refine z_iadd (v := 1) B0 dL_law_683 (by decide) ?_
          refine y_sld (j := 1) (v := 5) B0 hX hbl (by decide) e1.symm dL_law_684 ?_
          refine z_aload_n B0 dL_law_685 rfl rfl ?_
          refine z_iload_n B0 dL_law_686 rfl rfl ?_
          refine z_iconst (v := 2) B0 dL_law_687 (by decide) ?_
          refine z_iadd (v := 2) B0 dL_law_688 (by decide) ?_
          refine y_sld (j := 2) (v := x2) B0 hX hbl (by decide) e2.symm dL_law_689 ?_
          refine z_aload_n B0 dL_law_690 rfl rfl ?_
          refine z_iload_n B0 dL_law_691 rfl rfl ?_
          refine z_iconst (v := 3) B0 dL_law_692 (by decide) ?_
          refine z_iadd (v := 3) B0 dL_law_693 (by decide) ?_
          refine y_sld (j := 3) (v := x3) B0 hX hbl (by decide) e3.symm dL_law_694 ?_
          refine z_aload_n B0 dL_law_695 rfl rfl ?_
          refine z_iload_n B0 dL_law_696 rfl rfl ?_
          refine z_iconst (v := 4) B0 dL_law_697 (by decide) ?_
          refine z_iadd (v := 4) B0 dL_law_698 (by decide) ?_
          refine y_sld (j := 4) (v := x4) B0 hX hbl (by decide) e4.symm dL_law_699 ?_
          refine z_callM B0 (z_runV (q0 := 0) (As := [.int 5, .int x2, .int x3, .int x4]) (st := [.int (-1)]) B0 (c_X12_lawful_47 (a := a2) mS0 x2 x3 x4 ⟨by omega, by omega⟩ ⟨by omega, by omega⟩ ⟨by omega, by omega⟩) cf_X12_lawful (mw_0 cy a2 mS0) rfl wm_L_86 wi_X12_lawful ws_X12_lawful dL_law_700 rfl (Nat.le_of_ble_eq_true rfl) ⟨by decide, by decide, by decide, by decide⟩) (fun r2 u2 p2 => ?_)
          obtain ⟨rfl, -⟩ := p2
          refine z_icmp_eq_t (tgt := 1091) B0 dL_law_703 (by decide) rfl ?_
          exact fin u1 u2
        · obtain rfl : x4 = 0 := Int32.toInt_inj.mp (h4.trans (by decide))
          refine z_aload_n B0 dL_law_655 rfl rfl ?_
          refine z_aload_n B0 dL_law_656 rfl rfl ?_
          refine z_iload_n B0 dL_law_657 rfl rfl ?_
          refine z_iconst (v := 1) B0 dL_law_658 (by decide) ?_
          refine z_iadd (v := 1) B0 dL_law_659 (by decide) ?_
          refine y_sld (j := 1) (v := 5) B0 hX hbl (by decide) e1.symm dL_law_660 ?_
          refine z_aload_n B0 dL_law_661 rfl rfl ?_
          refine z_iload_n B0 dL_law_662 rfl rfl ?_
          refine z_iconst (v := 2) B0 dL_law_663 (by decide) ?_
          refine z_iadd (v := 2) B0 dL_law_664 (by decide) ?_
          refine y_sld (j := 2) (v := x2) B0 hX hbl (by decide) e2.symm dL_law_665 ?_
          refine z_aload_n B0 dL_law_666 rfl rfl ?_
          refine z_iload_n B0 dL_law_667 rfl rfl ?_
          refine z_iconst (v := 3) B0 dL_law_668 (by decide) ?_
          refine z_iadd (v := 3) B0 dL_law_669 (by decide) ?_
          refine y_sld (j := 3) (v := x3) B0 hX hbl (by decide) e3.symm dL_law_670 ?_
          refine z_aload_n B0 dL_law_671 rfl rfl ?_
          refine z_iload_n B0 dL_law_672 rfl rfl ?_
          refine z_iconst (v := 4) B0 dL_law_673 (by decide) ?_
          refine z_iadd (v := 4) B0 dL_law_674 (by decide) ?_
          refine y_sld (j := 4) (v := 0) B0 hX hbl (by decide) e4.symm dL_law_675 ?_
          refine z_callC B0 (z_runV (q0 := 0) (As := [.int 5, .int x2, .int x3, .int 0]) (st := []) B0 (c_X11_lawful_48 (a := a) (cS0 w) x2 x3 rfl rfl hrw ⟨by omega, by omega⟩ ⟨by omega, by omega⟩) cf_X11_lawful (cw_0 cy tE a rw (cS0 w)) rfl wm_L_82 wi_X11_lawful ws_X11_lawful dL_law_676 rfl (Nat.le_of_ble_eq_true rfl) ⟨by decide, by decide, by decide, by decide⟩) (fun r1 u1 p1 => ?_)
          obtain ⟨rfl, -⟩ := p1
          refine z_aload_n B0 dL_law_679 rfl rfl ?_
          refine z_aload_n B0 dL_law_680 rfl rfl ?_
          refine z_iload_n B0 dL_law_681 rfl rfl ?_
          refine z_iconst (v := 1) B0 dL_law_682 (by decide) ?_
          refine z_iadd (v := 1) B0 dL_law_683 (by decide) ?_
          refine y_sld (j := 1) (v := 5) B0 hX hbl (by decide) e1.symm dL_law_684 ?_
          refine z_aload_n B0 dL_law_685 rfl rfl ?_
          refine z_iload_n B0 dL_law_686 rfl rfl ?_
          refine z_iconst (v := 2) B0 dL_law_687 (by decide) ?_
          refine z_iadd (v := 2) B0 dL_law_688 (by decide) ?_
          refine y_sld (j := 2) (v := x2) B0 hX hbl (by decide) e2.symm dL_law_689 ?_
          refine z_aload_n B0 dL_law_690 rfl rfl ?_
          refine z_iload_n B0 dL_law_691 rfl rfl ?_
          refine z_iconst (v := 3) B0 dL_law_692 (by decide) ?_
          refine z_iadd (v := 3) B0 dL_law_693 (by decide) ?_
          refine y_sld (j := 3) (v := x3) B0 hX hbl (by decide) e3.symm dL_law_694 ?_
          refine z_aload_n B0 dL_law_695 rfl rfl ?_
          refine z_iload_n B0 dL_law_696 rfl rfl ?_
          refine z_iconst (v := 4) B0 dL_law_697 (by decide) ?_
          refine z_iadd (v := 4) B0 dL_law_698 (by decide) ?_
          refine y_sld (j := 4) (v := 0) B0 hX hbl (by decide) e4.symm dL_law_699 ?_
          refine z_callM B0 (z_runV (q0 := 0) (As := [.int 5, .int x2, .int x3, .int 0]) (st := [.int 0]) B0 (c_X12_lawful_48 (a := a2) mS0 x2 x3 rfl rfl ⟨by omega, by omega⟩ ⟨by omega, by omega⟩) cf_X12_lawful (mw_0 cy a2 mS0) rfl wm_L_86 wi_X12_lawful ws_X12_lawful dL_law_700 rfl (Nat.le_of_ble_eq_true rfl) ⟨by decide, by decide, by decide, by decide⟩) (fun r2 u2 p2 => ?_)
          obtain ⟨rfl, -⟩ := p2
          refine z_icmp_eq_t (tgt := 1091) B0 dL_law_703 (by decide) rfl ?_
          exact fin u1 u2
        · obtain rfl : x4 = 1 := Int32.toInt_inj.mp (h4.trans (by decide))
          refine z_aload_n B0 dL_law_655 rfl rfl ?_
          refine z_aload_n B0 dL_law_656 rfl rfl ?_
          refine z_iload_n B0 dL_law_657 rfl rfl ?_
          refine z_iconst (v := 1) B0 dL_law_658 (by decide) ?_
          refine z_iadd (v := 1) B0 dL_law_659 (by decide) ?_
          refine y_sld (j := 1) (v := 5) B0 hX hbl (by decide) e1.symm dL_law_660 ?_
          refine z_aload_n B0 dL_law_661 rfl rfl ?_
          refine z_iload_n B0 dL_law_662 rfl rfl ?_
          refine z_iconst (v := 2) B0 dL_law_663 (by decide) ?_
          refine z_iadd (v := 2) B0 dL_law_664 (by decide) ?_
          refine y_sld (j := 2) (v := x2) B0 hX hbl (by decide) e2.symm dL_law_665 ?_
          refine z_aload_n B0 dL_law_666 rfl rfl ?_
          refine z_iload_n B0 dL_law_667 rfl rfl ?_
          refine z_iconst (v := 3) B0 dL_law_668 (by decide) ?_
          refine z_iadd (v := 3) B0 dL_law_669 (by decide) ?_
          refine y_sld (j := 3) (v := x3) B0 hX hbl (by decide) e3.symm dL_law_670 ?_
          refine z_aload_n B0 dL_law_671 rfl rfl ?_
          refine z_iload_n B0 dL_law_672 rfl rfl ?_
          refine z_iconst (v := 4) B0 dL_law_673 (by decide) ?_
          refine z_iadd (v := 4) B0 dL_law_674 (by decide) ?_
          refine y_sld (j := 4) (v := 1) B0 hX hbl (by decide) e4.symm dL_law_675 ?_
          refine z_callC B0 (z_runV (q0 := 0) (As := [.int 5, .int x2, .int x3, .int 1]) (st := []) B0 (c_X11_lawful_49 (a := a) (cS0 w) x2 x3 rfl rfl hrw ⟨by omega, by omega⟩ ⟨by omega, by omega⟩) cf_X11_lawful (cw_0 cy tE a rw (cS0 w)) rfl wm_L_82 wi_X11_lawful ws_X11_lawful dL_law_676 rfl (Nat.le_of_ble_eq_true rfl) ⟨by decide, by decide, by decide, by decide⟩) (fun r1 u1 p1 => ?_)
          obtain ⟨rfl, -⟩ := p1
          refine z_aload_n B0 dL_law_679 rfl rfl ?_
          refine z_aload_n B0 dL_law_680 rfl rfl ?_
          refine z_iload_n B0 dL_law_681 rfl rfl ?_
          refine z_iconst (v := 1) B0 dL_law_682 (by decide) ?_
          refine z_iadd (v := 1) B0 dL_law_683 (by decide) ?_
          refine y_sld (j := 1) (v := 5) B0 hX hbl (by decide) e1.symm dL_law_684 ?_
          refine z_aload_n B0 dL_law_685 rfl rfl ?_
          refine z_iload_n B0 dL_law_686 rfl rfl ?_
          refine z_iconst (v := 2) B0 dL_law_687 (by decide) ?_
          refine z_iadd (v := 2) B0 dL_law_688 (by decide) ?_
          refine y_sld (j := 2) (v := x2) B0 hX hbl (by decide) e2.symm dL_law_689 ?_
          refine z_aload_n B0 dL_law_690 rfl rfl ?_
          refine z_iload_n B0 dL_law_691 rfl rfl ?_
          refine z_iconst (v := 3) B0 dL_law_692 (by decide) ?_
          refine z_iadd (v := 3) B0 dL_law_693 (by decide) ?_
          refine y_sld (j := 3) (v := x3) B0 hX hbl (by decide) e3.symm dL_law_694 ?_
          refine z_aload_n B0 dL_law_695 rfl rfl ?_
          refine z_iload_n B0 dL_law_696 rfl rfl ?_
          refine z_iconst (v := 4) B0 dL_law_697 (by decide) ?_
          refine z_iadd (v := 4) B0 dL_law_698 (by decide) ?_
          refine y_sld (j := 4) (v := 1) B0 hX hbl (by decide) e4.symm dL_law_699 ?_
          refine z_callM B0 (z_runV (q0 := 0) (As := [.int 5, .int x2, .int x3, .int 1]) (st := [.int (-1)]) B0 (c_X12_lawful_49 (a := a2) mS0 x2 x3 rfl rfl ⟨by omega, by omega⟩ ⟨by omega, by omega⟩) cf_X12_lawful (mw_0 cy a2 mS0) rfl wm_L_86 wi_X12_lawful ws_X12_lawful dL_law_700 rfl (Nat.le_of_ble_eq_true rfl) ⟨by decide, by decide, by decide, by decide⟩) (fun r2 u2 p2 => ?_)
          obtain ⟨rfl, -⟩ := p2
          refine z_icmp_eq_t (tgt := 1091) B0 dL_law_703 (by decide) rfl ?_
          exact fin u1 u2
        · refine z_aload_n B0 dL_law_655 rfl rfl ?_
          refine z_aload_n B0 dL_law_656 rfl rfl ?_
          refine z_iload_n B0 dL_law_657 rfl rfl ?_
          refine z_iconst (v := 1) B0 dL_law_658 (by decide) ?_
          refine z_iadd (v := 1) B0 dL_law_659 (by decide) ?_
          refine y_sld (j := 1) (v := 5) B0 hX hbl (by decide) e1.symm dL_law_660 ?_
          refine z_aload_n B0 dL_law_661 rfl rfl ?_
          refine z_iload_n B0 dL_law_662 rfl rfl ?_
          refine z_iconst (v := 2) B0 dL_law_663 (by decide) ?_
          refine z_iadd (v := 2) B0 dL_law_664 (by decide) ?_
          refine y_sld (j := 2) (v := x2) B0 hX hbl (by decide) e2.symm dL_law_665 ?_
          refine z_aload_n B0 dL_law_666 rfl rfl ?_
          refine z_iload_n B0 dL_law_667 rfl rfl ?_
          refine z_iconst (v := 3) B0 dL_law_668 (by decide) ?_
          refine z_iadd (v := 3) B0 dL_law_669 (by decide) ?_
          refine y_sld (j := 3) (v := x3) B0 hX hbl (by decide) e3.symm dL_law_670 ?_
          refine z_aload_n B0 dL_law_671 rfl rfl ?_
          refine z_iload_n B0 dL_law_672 rfl rfl ?_
          refine z_iconst (v := 4) B0 dL_law_673 (by decide) ?_
          refine z_iadd (v := 4) B0 dL_law_674 (by decide) ?_
          refine y_sld (j := 4) (v := x4) B0 hX hbl (by decide) e4.symm dL_law_675 ?_
          refine z_callC B0 (z_runV (q0 := 0) (As := [.int 5, .int x2, .int x3, .int x4]) (st := []) B0 (c_X11_lawful_50 (a := a) (cS0 w) x2 x3 x4 ⟨by omega, by omega⟩ ⟨by omega, by omega⟩ ⟨by omega, by omega⟩) cf_X11_lawful (cw_0 cy tE a rw (cS0 w)) rfl wm_L_82 wi_X11_lawful ws_X11_lawful dL_law_676 rfl (Nat.le_of_ble_eq_true rfl) ⟨by decide, by decide, by decide, by decide⟩) (fun r1 u1 p1 => ?_)
          obtain ⟨rfl, -⟩ := p1
          refine z_aload_n B0 dL_law_679 rfl rfl ?_
          refine z_aload_n B0 dL_law_680 rfl rfl ?_
          refine z_iload_n B0 dL_law_681 rfl rfl ?_
          refine z_iconst (v := 1) B0 dL_law_682 (by decide) ?_
          refine z_iadd (v := 1) B0 dL_law_683 (by decide) ?_
          refine y_sld (j := 1) (v := 5) B0 hX hbl (by decide) e1.symm dL_law_684 ?_
          refine z_aload_n B0 dL_law_685 rfl rfl ?_
          refine z_iload_n B0 dL_law_686 rfl rfl ?_
          refine z_iconst (v := 2) B0 dL_law_687 (by decide) ?_
          refine z_iadd (v := 2) B0 dL_law_688 (by decide) ?_
          refine y_sld (j := 2) (v := x2) B0 hX hbl (by decide) e2.symm dL_law_689 ?_
          refine z_aload_n B0 dL_law_690 rfl rfl ?_
          refine z_iload_n B0 dL_law_691 rfl rfl ?_
          refine z_iconst (v := 3) B0 dL_law_692 (by decide) ?_
          refine z_iadd (v := 3) B0 dL_law_693 (by decide) ?_
          refine y_sld (j := 3) (v := x3) B0 hX hbl (by decide) e3.symm dL_law_694 ?_
          refine z_aload_n B0 dL_law_695 rfl rfl ?_
          refine z_iload_n B0 dL_law_696 rfl rfl ?_
          refine z_iconst (v := 4) B0 dL_law_697 (by decide) ?_
          refine z_iadd (v := 4) B0 dL_law_698 (by decide) ?_
          refine y_sld (j := 4) (v := x4) B0 hX hbl (by decide) e4.symm dL_law_699 ?_
          refine z_callM B0 (z_runV (q0 := 0) (As := [.int 5, .int x2, .int x3, .int x4]) (st := [.int (-1)]) B0 (c_X12_lawful_50 (a := a2) mS0 x2 x3 x4 ⟨by omega, by omega⟩ ⟨by omega, by omega⟩ ⟨by omega, by omega⟩) cf_X12_lawful (mw_0 cy a2 mS0) rfl wm_L_86 wi_X12_lawful ws_X12_lawful dL_law_700 rfl (Nat.le_of_ble_eq_true rfl) ⟨by decide, by decide, by decide, by decide⟩) (fun r2 u2 p2 => ?_)
          obtain ⟨rfl, -⟩ := p2
          refine z_icmp_eq_t (tgt := 1091) B0 dL_law_703 (by decide) rfl ?_
          exact fin u1 u2
      · refine z_aload_n B0 dL_law_655 rfl rfl ?_
        refine z_aload_n B0 dL_law_656 rfl rfl ?_
        refine z_iload_n B0 dL_law_657 rfl rfl ?_
        refine z_iconst (v := 1) B0 dL_law_658 (by decide) ?_
        refine z_iadd (v := 1) B0 dL_law_659 (by decide) ?_
        refine y_sld (j := 1) (v := 5) B0 hX hbl (by decide) e1.symm dL_law_660 ?_
        refine z_aload_n B0 dL_law_661 rfl rfl ?_
        refine z_iload_n B0 dL_law_662 rfl rfl ?_
        refine z_iconst (v := 2) B0 dL_law_663 (by decide) ?_
        refine z_iadd (v := 2) B0 dL_law_664 (by decide) ?_
        refine y_sld (j := 2) (v := x2) B0 hX hbl (by decide) e2.symm dL_law_665 ?_
        refine z_aload_n B0 dL_law_666 rfl rfl ?_
        refine z_iload_n B0 dL_law_667 rfl rfl ?_
        refine z_iconst (v := 3) B0 dL_law_668 (by decide) ?_
        refine z_iadd (v := 3) B0 dL_law_669 (by decide) ?_
        refine y_sld (j := 3) (v := x3) B0 hX hbl (by decide) e3.symm dL_law_670 ?_
        refine z_aload_n B0 dL_law_671 rfl rfl ?_
        refine z_iload_n B0 dL_law_672 rfl rfl ?_
        refine z_iconst (v := 4) B0 dL_law_673 (by decide) ?_
        refine z_iadd (v := 4) B0 dL_law_674 (by decide) ?_
        refine y_sld (j := 4) (v := x4) B0 hX hbl (by decide) e4.symm dL_law_675 ?_
        refine z_callC B0 (z_runV (q0 := 0) (As := [.int 5, .int x2, .int x3, .int x4]) (st := []) B0 (c_X11_lawful_26 (a := a) (cS0 w) x2 x3 x4 ⟨by omega, by omega⟩ ⟨by omega, by omega⟩) cf_X11_lawful (cw_0 cy tE a rw (cS0 w)) rfl wm_L_82 wi_X11_lawful ws_X11_lawful dL_law_676 rfl (Nat.le_of_ble_eq_true rfl) ⟨by decide, by decide, by decide, by decide⟩) (fun r1 u1 p1 => ?_)
        obtain ⟨rfl, -⟩ := p1
        refine z_aload_n B0 dL_law_679 rfl rfl ?_
        refine z_aload_n B0 dL_law_680 rfl rfl ?_
        refine z_iload_n B0 dL_law_681 rfl rfl ?_
        refine z_iconst (v := 1) B0 dL_law_682 (by decide) ?_
        refine z_iadd (v := 1) B0 dL_law_683 (by decide) ?_
        refine y_sld (j := 1) (v := 5) B0 hX hbl (by decide) e1.symm dL_law_684 ?_
        refine z_aload_n B0 dL_law_685 rfl rfl ?_
        refine z_iload_n B0 dL_law_686 rfl rfl ?_
        refine z_iconst (v := 2) B0 dL_law_687 (by decide) ?_
        refine z_iadd (v := 2) B0 dL_law_688 (by decide) ?_
        refine y_sld (j := 2) (v := x2) B0 hX hbl (by decide) e2.symm dL_law_689 ?_
        refine z_aload_n B0 dL_law_690 rfl rfl ?_
        refine z_iload_n B0 dL_law_691 rfl rfl ?_
        refine z_iconst (v := 3) B0 dL_law_692 (by decide) ?_
        refine z_iadd (v := 3) B0 dL_law_693 (by decide) ?_
        refine y_sld (j := 3) (v := x3) B0 hX hbl (by decide) e3.symm dL_law_694 ?_
        refine z_aload_n B0 dL_law_695 rfl rfl ?_
        refine z_iload_n B0 dL_law_696 rfl rfl ?_
        refine z_iconst (v := 4) B0 dL_law_697 (by decide) ?_
        refine z_iadd (v := 4) B0 dL_law_698 (by decide) ?_
        refine y_sld (j := 4) (v := x4) B0 hX hbl (by decide) e4.symm dL_law_699 ?_
        refine z_callM B0 (z_runV (q0 := 0) (As := [.int 5, .int x2, .int x3, .int x4]) (st := [.int (-1)]) B0 (c_X12_lawful_26 (a := a2) mS0 x2 x3 x4 ⟨by omega, by omega⟩ ⟨by omega, by omega⟩) cf_X12_lawful (mw_0 cy a2 mS0) rfl wm_L_86 wi_X12_lawful ws_X12_lawful dL_law_700 rfl (Nat.le_of_ble_eq_true rfl) ⟨by decide, by decide, by decide, by decide⟩) (fun r2 u2 p2 => ?_)
        obtain ⟨rfl, -⟩ := p2
        refine z_icmp_eq_t (tgt := 1091) B0 dL_law_703 (by decide) rfl ?_
        exact fin u1 u2
    · refine z_aload_n B0 dL_law_655 rfl rfl ?_
      refine z_aload_n B0 dL_law_656 rfl rfl ?_
      refine z_iload_n B0 dL_law_657 rfl rfl ?_
      refine z_iconst (v := 1) B0 dL_law_658 (by decide) ?_
      refine z_iadd (v := 1) B0 dL_law_659 (by decide) ?_
      refine y_sld (j := 1) (v := 5) B0 hX hbl (by decide) e1.symm dL_law_660 ?_
      refine z_aload_n B0 dL_law_661 rfl rfl ?_
      refine z_iload_n B0 dL_law_662 rfl rfl ?_
      refine z_iconst (v := 2) B0 dL_law_663 (by decide) ?_
      refine z_iadd (v := 2) B0 dL_law_664 (by decide) ?_
      refine y_sld (j := 2) (v := x2) B0 hX hbl (by decide) e2.symm dL_law_665 ?_
      refine z_aload_n B0 dL_law_666 rfl rfl ?_
      refine z_iload_n B0 dL_law_667 rfl rfl ?_
      refine z_iconst (v := 3) B0 dL_law_668 (by decide) ?_
      refine z_iadd (v := 3) B0 dL_law_669 (by decide) ?_
      refine y_sld (j := 3) (v := x3) B0 hX hbl (by decide) e3.symm dL_law_670 ?_
      refine z_aload_n B0 dL_law_671 rfl rfl ?_
      refine z_iload_n B0 dL_law_672 rfl rfl ?_
      refine z_iconst (v := 4) B0 dL_law_673 (by decide) ?_
      refine z_iadd (v := 4) B0 dL_law_674 (by decide) ?_
      refine y_sld (j := 4) (v := x4) B0 hX hbl (by decide) e4.symm dL_law_675 ?_
      refine z_callC B0 (z_runV (q0 := 0) (As := [.int 5, .int x2, .int x3, .int x4]) (st := []) B0 (c_X11_lawful_14 (a := a) (cS0 w) x2 x3 x4 ⟨by omega, by omega⟩) cf_X11_lawful (cw_0 cy tE a rw (cS0 w)) rfl wm_L_82 wi_X11_lawful ws_X11_lawful dL_law_676 rfl (Nat.le_of_ble_eq_true rfl) ⟨by decide, by decide, by decide, by decide⟩) (fun r1 u1 p1 => ?_)
      obtain ⟨rfl, -⟩ := p1
      refine z_aload_n B0 dL_law_679 rfl rfl ?_
      refine z_aload_n B0 dL_law_680 rfl rfl ?_
      refine z_iload_n B0 dL_law_681 rfl rfl ?_
      refine z_iconst (v := 1) B0 dL_law_682 (by decide) ?_
      refine z_iadd (v := 1) B0 dL_law_683 (by decide) ?_
      refine y_sld (j := 1) (v := 5) B0 hX hbl (by decide) e1.symm dL_law_684 ?_
      refine z_aload_n B0 dL_law_685 rfl rfl ?_
      refine z_iload_n B0 dL_law_686 rfl rfl ?_
      refine z_iconst (v := 2) B0 dL_law_687 (by decide) ?_
      refine z_iadd (v := 2) B0 dL_law_688 (by decide) ?_
      refine y_sld (j := 2) (v := x2) B0 hX hbl (by decide) e2.symm dL_law_689 ?_
      refine z_aload_n B0 dL_law_690 rfl rfl ?_
      refine z_iload_n B0 dL_law_691 rfl rfl ?_
      refine z_iconst (v := 3) B0 dL_law_692 (by decide) ?_
      refine z_iadd (v := 3) B0 dL_law_693 (by decide) ?_
      refine y_sld (j := 3) (v := x3) B0 hX hbl (by decide) e3.symm dL_law_694 ?_
      refine z_aload_n B0 dL_law_695 rfl rfl ?_
      refine z_iload_n B0 dL_law_696 rfl rfl ?_
      refine z_iconst (v := 4) B0 dL_law_697 (by decide) ?_
      refine z_iadd (v := 4) B0 dL_law_698 (by decide) ?_
      refine y_sld (j := 4) (v := x4) B0 hX hbl (by decide) e4.symm dL_law_699 ?_
      refine z_callM B0 (z_runV (q0 := 0) (As := [.int 5, .int x2, .int x3, .int x4]) (st := [.int (-1)]) B0 (c_X12_lawful_14 (a := a2) mS0 x2 x3 x4 ⟨by omega, by omega⟩) cf_X12_lawful (mw_0 cy a2 mS0) rfl wm_L_86 wi_X12_lawful ws_X12_lawful dL_law_700 rfl (Nat.le_of_ble_eq_true rfl) ⟨by decide, by decide, by decide, by decide⟩) (fun r2 u2 p2 => ?_)
      obtain ⟨rfl, -⟩ := p2
      refine z_icmp_eq_t (tgt := 1091) B0 dL_law_703 (by decide) rfl ?_
      exact fin u1 u2
  · refine z_aload_n B0 dL_law_655 rfl rfl ?_
    refine z_aload_n B0 dL_law_656 rfl rfl ?_
    refine z_iload_n B0 dL_law_657 rfl rfl ?_
    refine z_iconst (v := 1) B0 dL_law_658 (by decide) ?_
    refine z_iadd (v := 1) B0 dL_law_659 (by decide) ?_
    refine y_sld (j := 1) (v := x1) B0 hX hbl (by decide) e1.symm dL_law_660 ?_
    refine z_aload_n B0 dL_law_661 rfl rfl ?_
    refine z_iload_n B0 dL_law_662 rfl rfl ?_
    refine z_iconst (v := 2) B0 dL_law_663 (by decide) ?_
    refine z_iadd (v := 2) B0 dL_law_664 (by decide) ?_
    refine y_sld (j := 2) (v := x2) B0 hX hbl (by decide) e2.symm dL_law_665 ?_
    refine z_aload_n B0 dL_law_666 rfl rfl ?_
    refine z_iload_n B0 dL_law_667 rfl rfl ?_
    refine z_iconst (v := 3) B0 dL_law_668 (by decide) ?_
    refine z_iadd (v := 3) B0 dL_law_669 (by decide) ?_
    refine y_sld (j := 3) (v := x3) B0 hX hbl (by decide) e3.symm dL_law_670 ?_
    refine z_aload_n B0 dL_law_671 rfl rfl ?_
    refine z_iload_n B0 dL_law_672 rfl rfl ?_
    refine z_iconst (v := 4) B0 dL_law_673 (by decide) ?_
    refine z_iadd (v := 4) B0 dL_law_674 (by decide) ?_
    refine y_sld (j := 4) (v := x4) B0 hX hbl (by decide) e4.symm dL_law_675 ?_
    refine z_callC B0 (z_runV (q0 := 0) (As := [.int x1, .int x2, .int x3, .int x4]) (st := []) B0 (c_X11_lawful_2 (a := a) (cS0 w) x1 x2 x3 x4 ⟨by omega, by omega⟩) cf_X11_lawful (cw_0 cy tE a rw (cS0 w)) rfl wm_L_82 wi_X11_lawful ws_X11_lawful dL_law_676 rfl (Nat.le_of_ble_eq_true rfl) ⟨by decide, by decide, by decide, by decide⟩) (fun r1 u1 p1 => ?_)
    obtain ⟨rfl, -⟩ := p1
    refine z_aload_n B0 dL_law_679 rfl rfl ?_
    refine z_aload_n B0 dL_law_680 rfl rfl ?_
    refine z_iload_n B0 dL_law_681 rfl rfl ?_
    refine z_iconst (v := 1) B0 dL_law_682 (by decide) ?_
    refine z_iadd (v := 1) B0 dL_law_683 (by decide) ?_
    refine y_sld (j := 1) (v := x1) B0 hX hbl (by decide) e1.symm dL_law_684 ?_
    refine z_aload_n B0 dL_law_685 rfl rfl ?_
    refine z_iload_n B0 dL_law_686 rfl rfl ?_
    refine z_iconst (v := 2) B0 dL_law_687 (by decide) ?_
    refine z_iadd (v := 2) B0 dL_law_688 (by decide) ?_
    refine y_sld (j := 2) (v := x2) B0 hX hbl (by decide) e2.symm dL_law_689 ?_
    refine z_aload_n B0 dL_law_690 rfl rfl ?_
    refine z_iload_n B0 dL_law_691 rfl rfl ?_
    refine z_iconst (v := 3) B0 dL_law_692 (by decide) ?_
    refine z_iadd (v := 3) B0 dL_law_693 (by decide) ?_
    refine y_sld (j := 3) (v := x3) B0 hX hbl (by decide) e3.symm dL_law_694 ?_
    refine z_aload_n B0 dL_law_695 rfl rfl ?_
    refine z_iload_n B0 dL_law_696 rfl rfl ?_
    refine z_iconst (v := 4) B0 dL_law_697 (by decide) ?_
    refine z_iadd (v := 4) B0 dL_law_698 (by decide) ?_
    refine y_sld (j := 4) (v := x4) B0 hX hbl (by decide) e4.symm dL_law_699 ?_
    refine z_callM B0 (z_runV (q0 := 0) (As := [.int x1, .int x2, .int x3, .int x4]) (st := [.int (-1)]) B0 (c_X12_lawful_2 (a := a2) mS0 x1 x2 x3 x4 ⟨by omega, by omega⟩) cf_X12_lawful (mw_0 cy a2 mS0) rfl wm_L_86 wi_X12_lawful ws_X12_lawful dL_law_700 rfl (Nat.le_of_ble_eq_true rfl) ⟨by decide, by decide, by decide, by decide⟩) (fun r2 u2 p2 => ?_)
    obtain ⟨rfl, -⟩ := p2
    refine z_icmp_eq_t (tgt := 1091) B0 dL_law_703 (by decide) rfl ?_
    exact fin u1 u2

