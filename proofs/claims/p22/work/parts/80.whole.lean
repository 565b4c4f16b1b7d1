theorem wk_L_7 : Cond.classLink RL 7 RX11 ∈ gT := gU_1 28 rfl rfl
theorem wI_X11 : Cond.instantiable RX11 9 ∈ gT := gU_1 29 rfl rfl
theorem wN_X11 : Cond.initialized RX11 ∈ gT := gU_1 1 rfl rfl
theorem wk_L_10 : Cond.classLink RL 10 RX12 ∈ gT := gU_5 127 rfl rfl
theorem wI_X12 : Cond.instantiable RX12 72 ∈ gT := gU_5 128 rfl rfl
theorem wN_X12 : Cond.initialized RX12 ∈ gT := gU_1 18 rfl rfl
theorem cf_X11_init : Cf yX11_init cX11_init 2 none 0 := ⟨gU_1 32 rfl rfl, gU_1 1 rfl rfl, by decide +kernel, by decide +kernel, by decide +kernel⟩
theorem wm_L_9 : Cond.methodLink RL 9 yX11_init ∈ gT := gU_1 30 rfl rfl
theorem wi_X11_init : Cond.instanceMethod yX11_init ∈ gT := gU_1 31 rfl rfl
theorem cf_X12_init : Cf yX12_init cX12_init 2 none 0 := ⟨gU_5 131 rfl rfl, gU_1 18 rfl rfl, by decide +kernel, by decide +kernel, by decide +kernel⟩
theorem wm_L_12 : Cond.methodLink RL 12 yX12_init ∈ gT := gU_5 129 rfl rfl
theorem wi_X12_init : Cond.instanceMethod yX12_init ∈ gT := gU_5 130 rfl rfl
set_option maxHeartbeats 4000000 in
set_option maxRecDepth 100000 in
theorem law_turn {p : Program} {l : Launch} {e : Env} {s : State} {m : MethodId} {below : List Frame} {meth : Method} {c : Code} {D : va_G} {cy : Nat → ClassId} {tB tE b : Nat} {a a2 : Nat → Nat} {rw : Nat → Option Nat} {xs : Nat → Int32} {L k nc ns : Nat} {S : KS} {M : GS} (B0 : Bz p room_1 s m #[Value.ref b] meth c D cy s.heap.size tB tE (fun q => s.heap.size ≤ q) 4 cL_law RL meth.sig.returnType meth.name 2048 84000 600000 7302250) (hr : meth.sig.returnType = ret) (hX : va_X b L xs s s.heap) (hbl : b < s.heap.size) (hrw : ∀ i, i < 6 → rw i = some (a (12 + 2 * i))) (hL : L ≤ 3072) (hk : k ≤ 513) (hJ : JI cy tE S M) (hnc : nc ≤ 200 + 259 * k) (hns : ns + 77 * (fi S.1 0).toInt.toNat ≤ 60000 + 2688 * k) (nx : 6 * k + 6 ≤ L → ∀ (S1 : KS) (M1 : GS) (nc1 ns1 : Nat), JI cy tE S1 M1 → nc1 ≤ 200 + 259 * (k + 1) → ns1 + 77 * (fi S1.1 0).toInt.toNat ≤ 60000 + 2688 * (k + 1) → Z p l e room_1 s m #[Value.ref b] below meth c D (fun q => s.heap.size ≤ q) 4 (lw_Z below #[Value.ref b] s) nc1 ns1 (kw cy a rw S1 ++ mw cy a2 M1) [(3, .int (nI (6 * (k + 1)))), (2, .ref (a2 0)), (1, .ref (a 0)), (0, .ref b)] 18 []) : Z p l e room_1 s m #[Value.ref b] below meth c D (fun q => s.heap.size ≤ q) 4 (lw_Z below #[Value.ref b] s) nc ns (kw cy a rw S ++ mw cy a2 M) [(3, .int (nI (6 * k))), (2, .ref (a2 0)), (1, .ref (a 0)), (0, .ref b)] 18 [] := by
  have e1 : (nI (6 * k)).toInt = ((6 * k : Nat) : Int) := nI_toInt (Nat.lt_of_le_of_lt (show 6 * k ≤ 3078 by omega) (by decide))
  have e2 : (nI L).toInt = (L : Int) := nI_toInt (Nat.lt_of_le_of_lt hL (by decide))
  have e3 : (nI L - 6).toInt = (L : Int) - 6 := by
    rw [i_sub (by rw [e2, li_6]; omega) (by rw [e2, li_6]; omega), e2, li_6]
  refine z_iload_n B0 dL_law_18 rfl rfl ?_
  refine z_aload_n B0 dL_law_19 rfl rfl ?_
  refine y_slen (v := nI L) B0 hX hbl rfl dL_law_20 ?_
  refine z_bipush (v := 6) B0 dL_law_21 (by decide) ?_
  refine z_isub (v := nI L - 6) B0 dL_law_23 rfl ?_
  refine y_icmp_gt (tgt := 1097) (xl := ((6 * k : Nat) : Int)) (yl := (L : Int) - 6) B0 e1 e3 dL_law_24 (by decide) (fun _ => ?_) (fun h5 => ?_)
  · refine z_iconst (v := 1) B0 dL_law_1097 (by decide) ?_
    exact z_lend B0 hr (by omega) (by omega) dL_law_1098
  have h6 : 6 * k + 6 ≤ L := by omega
  have fin : ∀ (S1 : KS) (M1 : GS) (nc1 ns1 : Nat), JI cy tE S1 M1 → nc1 ≤ nc + 259 → ns1 + 77 * (fi S1.1 0).toInt.toNat ≤ ns + 77 * (fi S.1 0).toInt.toNat + 2688 → Z p l e room_1 s m #[Value.ref b] below meth c D (fun q => s.heap.size ≤ q) 4 (lw_Z below #[Value.ref b] s) nc1 ns1 (kw cy a rw S1 ++ mw cy a2 M1) [(3, .int (nI (6 * k))), (2, .ref (a2 0)), (1, .ref (a 0)), (0, .ref b)] 1091 [] := by
    intro S1 M1 nc1 ns1 hJ1 g1 g2
    refine z_iinc (k9 := 0) (v := nI (6 * (k + 1))) (lv' := [(3, .int (nI (6 * (k + 1)))), (2, .ref (a2 0)), (1, .ref (a 0)), (0, .ref b)]) B0 dL_law_1091 rfl (nI_add (6 * k) 6) (by decide) rfl ?_
    refine z_goto (tgt := 18) B0 dL_law_1094 (by decide) ?_
    exact nx h6 S1 M1 nc1 ns1 hJ1 (by omega) (by omega)
  refine z_aload_n B0 dL_law_27 rfl rfl ?_
  refine z_iload_n B0 dL_law_28 rfl rfl ?_
  refine y_sld (j := 6 * k) (v := xs (6 * k)) B0 hX hbl (zx_n (by omega) (Nat.lt_of_le_of_lt hL (by decide))) rfl dL_law_29 ?_
  refine z_bipush (v := 31) B0 dL_law_30 (by decide) ?_
  obtain ⟨v, ev⟩ : ∃ v, xs (6 * k) &&& 31 = v := ⟨_, rfl⟩
  have hv0 := i_and (a := xs (6 * k)) (c := 31) (by decide)
  rw [ev] at hv0
  refine z_iand (v := v) B0 dL_law_32 ev ?_
  clear ev
  rcases (show v.toInt = 0 ∨ v.toInt = 1 ∨ v.toInt = 2 ∨ v.toInt = 3 ∨ v.toInt = 4 ∨ v.toInt = 5 ∨ v.toInt = 6 ∨ v.toInt = 7 ∨ v.toInt = 8 ∨ v.toInt = 9 ∨ v.toInt = 10 ∨ v.toInt = 11 ∨ v.toInt = 12 ∨ v.toInt = 13 ∨ v.toInt = 14 ∨ v.toInt = 15 ∨ v.toInt = 16 ∨ v.toInt = 17 ∨ v.toInt = 18 ∨ v.toInt = 19 ∨ v.toInt = 20 ∨ v.toInt = 21 ∨ v.toInt = 22 ∨ v.toInt = 23 ∨ v.toInt = 24 ∨ 25 ≤ v.toInt by omega) with hv | hv | hv | hv | hv | hv | hv | hv | hv | hv | hv | hv | hv | hv | hv | hv | hv | hv | hv | hv | hv | hv | hv | hv | hv | hv
  · obtain rfl : v = 0 := Int32.toInt_inj.mp (hv.trans (by decide))
    refine z_tableIn (tgt := 148) (off := 115) B0 dL_law_33 (by decide) (by decide) (by decide) (by decide) ?_
    exact lo_coin B0 hX hbl hrw hL h6 ⟨by omega, by omega⟩ hJ fin
  · obtain rfl : v = 1 := Int32.toInt_inj.mp (hv.trans (by decide))
    refine z_tableIn (tgt := 181) (off := 148) B0 dL_law_33 (by decide) (by decide) (by decide) (by decide) ?_
    exact lo_debt B0 hX hbl hrw hL h6 ⟨by omega, by omega⟩ hJ fin
  · obtain rfl : v = 2 := Int32.toInt_inj.mp (hv.trans (by decide))
    refine z_tableIn (tgt := 224) (off := 191) B0 dL_law_33 (by decide) (by decide) (by decide) (by decide) ?_
    exact lo_kin B0 hX hbl hrw hL h6 ⟨by omega, by omega⟩ hJ fin
  · obtain rfl : v = 3 := Int32.toInt_inj.mp (hv.trans (by decide))
    refine z_tableIn (tgt := 293) (off := 260) B0 dL_law_33 (by decide) (by decide) (by decide) (by decide) ?_
    exact lo_owner B0 hX hbl hrw hL h6 ⟨by omega, by omega⟩ hJ fin
  · obtain rfl : v = 4 := Int32.toInt_inj.mp (hv.trans (by decide))
    refine z_tableIn (tgt := 326) (off := 293) B0 dL_law_33 (by decide) (by decide) (by decide) (by decide) ?_
    exact lo_day B0 hX hbl hrw hL h6 ⟨by omega, by omega⟩ hJ fin
  · obtain rfl : v = 5 := Int32.toInt_inj.mp (hv.trans (by decide))
    refine z_tableIn (tgt := 349) (off := 316) B0 dL_law_33 (by decide) (by decide) (by decide) (by decide) ?_
    exact lo_feed B0 hX hbl hrw hL h6 ⟨by omega, by omega⟩ hJ fin
  · obtain rfl : v = 6 := Int32.toInt_inj.mp (hv.trans (by decide))
    refine z_tableIn (tgt := 412) (off := 379) B0 dL_law_33 (by decide) (by decide) (by decide) (by decide) ?_
    exact lo_end B0 hX hbl hrw hL h6 ⟨by omega, by omega⟩ hJ fin
  · obtain rfl : v = 7 := Int32.toInt_inj.mp (hv.trans (by decide))
    refine z_tableIn (tgt := 435) (off := 402) B0 dL_law_33 (by decide) (by decide) (by decide) (by decide) ?_
    exact lo_statute B0 hX hbl hrw hL h6 ⟨by omega, by omega⟩ hJ fin
  · obtain rfl : v = 8 := Int32.toInt_inj.mp (hv.trans (by decide))
    refine z_tableIn (tgt := 458) (off := 425) B0 dL_law_33 (by decide) (by decide) (by decide) (by decide) ?_
    exact lo_never B0 hX hbl hrw hL h6 ⟨by omega, by omega⟩ hJ fin
  · obtain rfl : v = 9 := Int32.toInt_inj.mp (hv.trans (by decide))
    refine z_tableIn (tgt := 471) (off := 438) B0 dL_law_33 (by decide) (by decide) (by decide) (by decide) ?_
    exact lo_cure B0 hX hbl hrw hL h6 ⟨by omega, by omega⟩ hJ fin
  · obtain rfl : v = 10 := Int32.toInt_inj.mp (hv.trans (by decide))
    refine z_tableIn (tgt := 494) (off := 461) B0 dL_law_33 (by decide) (by decide) (by decide) (by decide) ?_
    exact lo_fault B0 hX hbl hrw hL h6 ⟨by omega, by omega⟩ hJ fin
  · obtain rfl : v = 11 := Int32.toInt_inj.mp (hv.trans (by decide))
    refine z_tableIn (tgt := 517) (off := 484) B0 dL_law_33 (by decide) (by decide) (by decide) (by decide) ?_
    exact lo_act B0 hX hbl hrw hL h6 ⟨by omega, by omega⟩ hJ fin
  · obtain rfl : v = 12 := Int32.toInt_inj.mp (hv.trans (by decide))
    refine z_tableIn (tgt := 550) (off := 517) B0 dL_law_33 (by decide) (by decide) (by decide) (by decide) ?_
    exact lo_put B0 hX hbl hrw hL h6 ⟨by omega, by omega⟩ hJ fin
  · obtain rfl : v = 13 := Int32.toInt_inj.mp (hv.trans (by decide))
    refine z_tableIn (tgt := 583) (off := 550) B0 dL_law_33 (by decide) (by decide) (by decide) (by decide) ?_
    exact lo_clear B0 hX hbl hrw hL h6 ⟨by omega, by omega⟩ hJ fin
  · obtain rfl : v = 14 := Int32.toInt_inj.mp (hv.trans (by decide))
    refine z_tableIn (tgt := 606) (off := 573) B0 dL_law_33 (by decide) (by decide) (by decide) (by decide) ?_
    exact lo_honest B0 hX hbl hrw hL h6 ⟨by omega, by omega⟩ hJ fin
  · obtain rfl : v = 15 := Int32.toInt_inj.mp (hv.trans (by decide))
    refine z_tableIn (tgt := 655) (off := 622) B0 dL_law_33 (by decide) (by decide) (by decide) (by decide) ?_
    exact lo_lawful B0 hX hbl hrw hL h6 ⟨by omega, by omega⟩ hJ fin
  · obtain rfl : v = 16 := Int32.toInt_inj.mp (hv.trans (by decide))
    refine z_tableIn (tgt := 708) (off := 675) B0 dL_law_33 (by decide) (by decide) (by decide) (by decide) ?_
    exact lo_after B0 hX hbl hrw hL h6 ⟨by omega, by omega⟩ hJ fin
  · obtain rfl : v = 17 := Int32.toInt_inj.mp (hv.trans (by decide))
    refine z_tableIn (tgt := 741) (off := 708) B0 dL_law_33 (by decide) (by decide) (by decide) (by decide) ?_
    exact lo_hole B0 hX hbl hrw hL h6 ⟨by omega, by omega⟩ hJ fin
  · obtain rfl : v = 18 := Int32.toInt_inj.mp (hv.trans (by decide))
    refine z_tableIn (tgt := 804) (off := 771) B0 dL_law_33 (by decide) (by decide) (by decide) (by decide) ?_
    exact lo_friends B0 hX hbl hrw hL h6 ⟨by omega, by omega⟩ hJ fin
  · obtain rfl : v = 19 := Int32.toInt_inj.mp (hv.trans (by decide))
    refine z_tableIn (tgt := 847) (off := 814) B0 dL_law_33 (by decide) (by decide) (by decide) (by decide) ?_
    exact lo_only B0 hX hbl hrw hL h6 ⟨by omega, by omega⟩ hJ fin
  · obtain rfl : v = 20 := Int32.toInt_inj.mp (hv.trans (by decide))
    refine z_tableIn (tgt := 880) (off := 847) B0 dL_law_33 (by decide) (by decide) (by decide) (by decide) ?_
    exact lo_met B0 hX hbl hrw hL h6 ⟨by omega, by omega⟩ hJ fin
  · obtain rfl : v = 21 := Int32.toInt_inj.mp (hv.trans (by decide))
    refine z_tableIn (tgt := 939) (off := 906) B0 dL_law_33 (by decide) (by decide) (by decide) (by decide) ?_
    exact lo_gain B0 hX hbl hrw hL h6 ⟨by omega, by omega⟩ hJ fin
  · obtain rfl : v = 22 := Int32.toInt_inj.mp (hv.trans (by decide))
    refine z_tableIn (tgt := 992) (off := 959) B0 dL_law_33 (by decide) (by decide) (by decide) (by decide) ?_
    exact lo_stop B0 hX hbl hrw hL h6 ⟨by omega, by omega⟩ hJ fin
  · obtain rfl : v = 23 := Int32.toInt_inj.mp (hv.trans (by decide))
    refine z_tableIn (tgt := 1035) (off := 1002) B0 dL_law_33 (by decide) (by decide) (by decide) (by decide) ?_
    exact lo_past B0 hX hbl hrw hL h6 ⟨by omega, by omega⟩ hJ fin
  · obtain rfl : v = 24 := Int32.toInt_inj.mp (hv.trans (by decide))
    refine z_tableIn (tgt := 1058) (off := 1025) B0 dL_law_33 (by decide) (by decide) (by decide) (by decide) ?_
    exact lo_through B0 hX hbl hrw hL h6 ⟨by omega, by omega⟩ hJ fin
  · refine z_tableOut (tgt := 1091) B0 dL_law_33 (Or.inr (by omega)) (by decide) ?_
    exact fin S M nc ns hJ (by omega) (by omega)
theorem law_loop {p : Program} {l : Launch} {e : Env} {s : State} {m : MethodId} {below : List Frame} {meth : Method} {c : Code} {D : va_G} {cy : Nat → ClassId} {tB tE b : Nat} {a a2 : Nat → Nat} {rw : Nat → Option Nat} {xs : Nat → Int32} {L : Nat} (B0 : Bz p room_1 s m #[Value.ref b] meth c D cy s.heap.size tB tE (fun q => s.heap.size ≤ q) 4 cL_law RL meth.sig.returnType meth.name 2048 84000 600000 7302250) (hr : meth.sig.returnType = ret) (hX : va_X b L xs s s.heap) (hbl : b < s.heap.size) (hrw : ∀ i, i < 6 → rw i = some (a (12 + 2 * i))) (hL : L ≤ 3072) : ∀ (n k : Nat), k + n = 513 → ∀ (S1 : KS) (M1 : GS) (nc1 ns1 : Nat), JI cy tE S1 M1 → nc1 ≤ 200 + 259 * k → ns1 + 77 * (fi S1.1 0).toInt.toNat ≤ 60000 + 2688 * k → Z p l e room_1 s m #[Value.ref b] below meth c D (fun q => s.heap.size ≤ q) 4 (lw_Z below #[Value.ref b] s) nc1 ns1 (kw cy a rw S1 ++ mw cy a2 M1) [(3, .int (nI (6 * k))), (2, .ref (a2 0)), (1, .ref (a 0)), (0, .ref b)] 18 []
  | 0, k, hk, S, M, nc, ns, hJ, h1, h2 => law_turn B0 hr hX hbl hrw hL (by omega) hJ h1 h2 (fun h => by exfalso; omega)
  | n + 1, k, hk, S, M, nc, ns, hJ, h1, h2 => law_turn B0 hr hX hbl hrw hL (by omega) hJ h1 h2 (fun _ => law_loop B0 hr hX hbl hrw hL n (k + 1) (by omega))
set_option maxHeartbeats 8000000 in
set_option maxRecDepth 100000 in
/-- the law, from its entry -/
theorem whole_start {p : Program} {e : Env} {s : State} {m : MethodId} {below : List Frame} {meth : Method} {c : Code} (l : Launch) {b L : Nat} {xs : Nat → Int32} (hL : L ≤ 3072) (C0 : lw_At p s m meth c b L xs) : W p l e room_1 s m #[Value.ref b] below meth c s.heap [] 0 0 (lw_Z below #[Value.ref b] s) (entryFrame m ([Value.ref b] : List Value).toArray 4) := by
  obtain ⟨hx, hb, hr, hml, hown, hts, hX, hbl, hlocks, hgv⟩ := C0
  obtain ⟨tB, tE, hE⟩ := zE_start hts hgv
  obtain ⟨D, cy, hK⟩ := vK_start hts
  have B0 : Bz p room_1 s m #[Value.ref b] meth c D cy s.heap.size tB tE (fun q => s.heap.size ≤ q) 4 cL_law RL meth.sig.returnType meth.name 2048 84000 600000 7302250 := ⟨hx, hb, hml, hown, fun w hw => hts w (List.mem_filter.mp hw).1, hK, hE, hlocks, fun q h => h, fun q h => h, Nat.le_refl _, rfl, rfl, rfl, rfl, rfl, rfl⟩
  have hl := lv_entry ([.ref b]) (n := 4) (Nat.le_of_ble_eq_true rfl)
  rw [lg_entry_eq]
  have Zs : Z p l e room_1 s m #[Value.ref b] below meth c D (fun q => s.heap.size ≤ q) 4 (lw_Z below #[Value.ref b] s) 0 0 [] [(0, .ref b)] 0 [] := by
    refine z_new (ci := 12) (fs := [.null, .int 0, .null, .null, .null, .null, .null, .null, .null]) tyX11 B0 in_X11 tyX11_ok wk_L_7 wI_X11 wN_X11 rfl (by decide +kernel) ⟨by decide, by decide⟩ dL_law_0 (fun q1 => ?_)
    refine z_dup B0 dL_law_3 rfl ?_
    refine z_callvF (wc := [(q1, .inr (12, [.null, .int 0, .null, .null, .null, .null, .null, .null, .null]))]) (wr := []) [0] [] B0 rfl (by decide) rfl (by decide) (by decide) (z_runI (As := []) (st := [.ref q1]) B0 (e_X11_init q1) cf_X11_init wm_L_9 wi_X11_init rfl dL_law_4 rfl (Nat.le_of_ble_eq_true rfl) ⟨by decide, by decide, by decide, by decide⟩) (fun u hu => ?_)
    obtain ⟨hu0, hrw, hw3⟩ := hu
    subst hu0
    refine z_astore_n (lv' := [(1, .ref (u.1 0)), (0, .ref b)]) B0 dL_law_7 rfl (by decide) rfl ?_
    refine z_new (ci := 13) (fs := [.null, .null, .null, .null, .null, .int 0, .long 0, .null, .null, .null, .null, .null, .null, .null, .null, .null, .null, .null, .null, .null, .null, .null, .null, .null, .null, .int 0, .int 0, .int 0, .int 0, .int 0, .int 0, .int 0, .int 0, .int 0, .int 0, .int 0, .int 0, .int 0, .int 0, .int 0, .int 0, .int 0, .null, .int 0, .int 0, .int 0, .long 0, .null, .null, .null, .null, .null, .null, .null, .null, .int 0, .int 0, .int 0, .null, .null, .null, .null, .null, .null, .null, .null, .null, .null, .long 0, .int 0, .null, .int 0]) tyX12 B0 in_X12 tyX12_ok wk_L_10 wI_X12 wN_X12 rfl (by decide +kernel) ⟨by decide, by decide⟩ dL_law_8 (fun q2 => ?_)
    refine z_dup B0 dL_law_11 rfl ?_
    refine z_callvF (wc := [(q2, .inr (13, [.null, .null, .null, .null, .null, .int 0, .long 0, .null, .null, .null, .null, .null, .null, .null, .null, .null, .null, .null, .null, .null, .null, .null, .null, .null, .null, .int 0, .int 0, .int 0, .int 0, .int 0, .int 0, .int 0, .int 0, .int 0, .int 0, .int 0, .int 0, .int 0, .int 0, .int 0, .int 0, .int 0, .null, .int 0, .int 0, .int 0, .long 0, .null, .null, .null, .null, .null, .null, .null, .null, .int 0, .int 0, .int 0, .null, .null, .null, .null, .null, .null, .null, .null, .null, .null, .long 0, .int 0, .null, .int 0]))]) (wr := cw cy tE u.1 u.2.1 (cS0 u.2.2)) [50] [0, 1, 2, 3, 4, 5, 6, 7, 8, 9, 10, 11, 12, 13, 14, 15, 16, 17, 18, 19, 20, 21, 22, 23, 24, 25, 26, 27, 28, 29, 30, 31, 32, 33, 34, 35, 36, 37, 38, 39, 40, 41, 42, 43, 44, 45, 46, 47, 48, 49] B0 rfl (by decide) rfl (by decide) (by decide) (z_runI (As := []) (st := [.ref q2]) B0 (e_X12_init q2) cf_X12_init wm_L_12 wi_X12_init rfl dL_law_12 rfl (Nat.le_of_ble_eq_true rfl) ⟨by decide, by decide, by decide, by decide⟩) (fun v hv => ?_)
    obtain ⟨hv, hv2⟩ := hv
    subst hv
    refine z_astore_n (lv' := [(2, .ref (v.1 0)), (1, .ref (u.1 0)), (0, .ref b)]) B0 dL_law_15 rfl (by decide) rfl ?_
    refine z_iconst (v := 0) B0 dL_law_16 (by decide) ?_
    refine z_istore_n (lv' := [(3, .int 0), (2, .ref (v.1 0)), (1, .ref (u.1 0)), (0, .ref b)]) B0 dL_law_17 rfl (by decide) rfl ?_
    refine z_widen (k := 200) (n := 60000) (by decide) (by decide) ?_
    refine z_sub (ws' := kw cy (kA u.1) u.2.1 (kX0 tE u.1 u.2.2) ++ mw cy v.1 (mS0 v.2)) _ (kw_start cy tE u.1 v.1 u.2.1 u.2.2 (mS0 v.2)) (by decide) ?_
    exact law_loop (a := kA u.1) (a2 := v.1) B0 hr hX hbl (kA_rw hrw) hL 513 0 rfl _ _ _ _ (JI_0 v.2 hw3 hv2) (by decide) (by show 60000 + 77 * (0 : Int32).toInt.toNat ≤ 60000 + 2688 * 0; decide)
  exact Zs s.heap [] _ (fun k q h => by simp at h) ⟨fun i j p q h => by simp at h, fun k q h => by simp at h⟩ va_S.rf hl
