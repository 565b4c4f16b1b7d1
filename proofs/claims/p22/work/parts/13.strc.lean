def zch (x : Int32) : Int32 := ((x &&& 255).toUInt32 % 65536).toInt32
def sN (i : Nat) : Nat := sLen.getD i 0
def sF (i : Nat) : Nat → Int32 := fun j => (sByt.getD i []).getD j 0
def sC (i k : Nat) : Int32 := zch (sF i k)
theorem zshr0 (x : Int32) : x >>> ((0 : Int32) &&& 31) = x := by
  have : ((0 : Int32) &&& 31) = 0 := by decide
  rw [this]; exact Int32.toBitVec_inj.mp (by simp)
theorem sX_at {p : Program} {R : Room} {s : State} {m : MethodId} {args : Array Value} {meth : Method} {c : Code} {D : va_G} {cy : Nat → ClassId} {T0 tB tE : Nat} {A : Nat → Prop} {nL : Nat} {cc : ByteArray} {own : String} {rt : Option FieldType} {nm : String} {fr lo rc rs : Nat} (b : Bz p R s m args meth c D cy T0 tB tE A nL cc own rt nm fr lo rc rs) {adK adV : Nat → Nat} (hk1 : vk_S 21 sLen sByt adK adV (zA T0) s s.heap) {i : Nat} (hi : i < 21) : sX T0 (adK i) (adV i) (sN i) (sF i) s := ⟨(hk1.1 i hi).1, (hk1.1 i hi).2.1, (hk1.1 i hi).2.2.1, (hk1.1 i hi).2.2.2, b.E1.2.2.2.2.1.1, b.E1.2.2.2.2.1.2.1⟩
theorem z_runVX {p : Program} {l : Launch} {e : Env} {R : Room} {s : State} {m : MethodId} {args : Array Value} {below : List Frame} {meth : Method} {c : Code} {D : va_G} {cy : Nat → ClassId} {T0 tB tE : Nat} {A : Nat → Prop} {nL : Nat} {cc : ByteArray} {own : String} {rt : Option FieldType} {nm : String} {fr lo rc rs : Nat} {nc ns : Nat} {ws : va_W} {lv : List (Nat × Value)} {pc : Nat} {st : List Value} {sW tW n : Nat} {f : Nat → Int32} {y : MethodName} {bt : ByteArray} {n9 k9 index fr' lo' mc ms : Nat} {rt' : Option FieldType} {As : List Value} {Qq : (Nat → Prop) → Array Value → State → Outcome → State → Prop} {q0 ci r : Nat} {fs : List Value} {T : u_T} {N : Nat} (b : Bz p R s m args meth c D cy T0 tB tE A nL cc own rt nm fr lo rc rs) (hx : sX T0 sW tW n f s) (hM : CtX (sX T0 sW tW n f) l D cy T0 tB tE y bt n9 rt' fr' lo' mc ms ws (.ref r :: As) Qq) (hf : Cf y bt n9 rt' k9) (he : ws[q0]? = some (r, .inr (ci, fs))) (hc : vwCl[ci]? = some (y.cls, T, N)) (hl : Cond.methodLink own index y ∈ gT) (hi : Cond.instanceMethod y ∈ gT) (hs : Cond.selects y.cls y y ∈ gT) (d : decode cc pc = .ok (.invokevirtual index, 3)) (hk : As.length = k9) (hst : (st.map fun v => v.category).sum ≤ 8) (g : fr' + 1 ≤ fr ∧ 8 + (n9 + 11) + lo' ≤ lo ∧ nc + mc ≤ rc ∧ ns + ms ≤ rs) (H : Heap) (locs : List Loc) (ls : Array Slot) (h1 : va_P D vwCl ws H) (h2 : va_D A ws) (h3 : va_S A s.heap H locs) (h4 : lv_has ls nL lv) : va_Run p l e R s m args below meth c H locs nc ns mc ms (F0 m pc ls (As.reverse ++ .ref r :: st)) st (Qq (va_A ws H.size) (.ref r :: As).toArray) (va_A ws H.size) :=
  va_runV (C := y.cls) (As := As) (rest := st) ⟨b.x1, b.c1, b.ml1, b.own1, b.ts1⟩ (hM H.size) ⟨callB_of k9 b.ts1 (wd_good hf.1) rfl rfl rfl (b.ts1 _ hf.2.1) (b.ts1 _ hl) hf.2.2 ⟨by rw [b.fr1]; exact g.1, by rw [b.lo1]; exact g.2.1⟩, b.ts1 _ hi, b.ts1 _ hs⟩ ⟨CtX.blind, va_recv b.K1 h1 hc he, fun U hU hW => ⟨rfl, z_pre b h1 h2 h3 hU hW, s_go b hx h3 hU hW⟩⟩ rfl hk h4.1 rfl (lv_room hst) d ⟨by rw [b.rc1]; exact g.2.2.1, by rw [b.rs1]; exact g.2.2.2⟩

set_option maxHeartbeats 4000000 in
theorem gx_coder {l : Launch} {D : va_G} {cy : Nat → ClassId} {T0 tB tE sW tW n : Nat} {f : Nat → Int32} (ws : va_W)  : CtX (sX T0 sW tW n f) l D cy T0 tB tE yJ0_coder_7d493 cJ0_coder_7d493 1 (some .byte) 0 0 0 0 ws [.ref sW] (QI D (U := Unit) (fun r _ => r = 0) (fun _ => ws)) := by
  refine CtX.ofZ RJ0 "coder" [(0, .ref sW)] rfl rfl rfl rfl (Nat.le_of_ble_eq_true rfl) ?_
  intro p e R s m args below meth c A hx b
  refine s_com b hx wf_J0_38 dJ0_coder_7d493_0 ?_
  refine z_if_eq_f (tgt := 13) b dJ0_coder_7d493_3 (by decide) (by decide) ?_
  refine z_aload_n b dJ0_coder_7d493_6 rfl rfl ?_
  refine s_cod b hx wf_J0_15 dJ0_coder_7d493_7 ?_
  refine z_goto (tgt := 14) b dJ0_coder_7d493_10 (by decide) ?_
  exact z_nret (u := ()) b rfl (by decide) dJ0_coder_7d493_14 rfl rfl (by decide) (by decide)


set_option maxHeartbeats 4000000 in
theorem gx_length {l : Launch} {D : va_G} {cy : Nat → ClassId} {T0 tB tE sW tW n : Nat} {f : Nat → Int32} (ws : va_W) (v : Int32) (hv : Int32.ofNat n = v) (hv2 : v >>> ((0 : Int32) &&& 31) = v) : CtX (sX T0 sW tW n f) l D cy T0 tB tE yJ0_length_8abf5 cJ0_length_8abf5 1 (some .int) 1 20 0 0 ws [.ref sW] (QI D (U := Unit) (fun r _ => v = r) (fun _ => ws)) := by
  refine CtX.ofZ RJ0 "length" [(0, .ref sW)] rfl rfl rfl rfl (Nat.le_of_ble_eq_true rfl) ?_
  intro p e R s m args below meth c A hx b
  refine z_aload_n b dJ0_length_8abf5_0 rfl rfl ?_
  refine s_val b hx wf_J0_9 dJ0_length_8abf5_1 ?_
  refine s_len b hx hv dJ0_length_8abf5_4 ?_
  refine z_aload_n b dJ0_length_8abf5_5 rfl rfl ?_
  refine z_calli b (s_runV (As := []) (st := [.int v]) b hx (gx_coder ws) cf_J0_coder_7d493 rfl wm_J0_335 wi_J0_coder_7d493 ws_J0_coder_7d493 dJ0_length_8abf5_6 rfl (Nat.le_of_ble_eq_true rfl) ⟨by decide, by decide, by decide, by decide⟩) (fun r u h => ?_)
  subst h
  refine z_ishr (v := v) b dJ0_length_8abf5_9 hv2 ?_
  exact z_iret (u := ()) b rfl dJ0_length_8abf5_10 rfl rfl (by decide) (by decide)


set_option maxHeartbeats 4000000 in
theorem gx_latin {l : Launch} {D : va_G} {cy : Nat → ClassId} {T0 tB tE sW tW n : Nat} {f : Nat → Int32} (ws : va_W)  : CtX (sX T0 sW tW n f) l D cy T0 tB tE yJ0_isLatin1_aae02 cJ0_isLatin1_aae02 1 (some .boolean) 0 0 0 0 ws [.ref sW] (QI D (U := Unit) (fun r _ => r = 1) (fun _ => ws)) := by
  refine CtX.ofZ RJ0 "isLatin1" [(0, .ref sW)] rfl rfl rfl rfl (Nat.le_of_ble_eq_true rfl) ?_
  intro p e R s m args below meth c A hx b
  refine s_com b hx wf_J0_38 dJ0_isLatin1_aae02_0 ?_
  refine z_if_eq_f (tgt := 17) b dJ0_isLatin1_aae02_3 (by decide) (by decide) ?_
  refine z_aload_n b dJ0_isLatin1_aae02_6 rfl rfl ?_
  refine s_cod b hx wf_J0_15 dJ0_isLatin1_aae02_7 ?_
  refine z_if_ne_f (tgt := 17) b dJ0_isLatin1_aae02_10 (by decide) rfl ?_
  refine z_iconst (v := 1) b dJ0_isLatin1_aae02_13 (by decide) ?_
  refine z_goto (tgt := 18) b dJ0_isLatin1_aae02_14 (by decide) ?_
  exact z_zret (u := ()) b rfl (by decide) dJ0_isLatin1_aae02_18 rfl rfl (by decide) (by decide)


set_option maxHeartbeats 4000000 in
theorem gx_chk3n {l : Launch} {D : va_G} {cy : Nat → ClassId} {T0 tB tE sW tW n : Nat} {f : Nat → Int32} (ws : va_W) (i j : Int32) (g : Nat) (h0 : ¬ i < 0) (h1 : i < j) : Ct l D cy T0 tB tE yJ3_checkIndex_8e157 cJ3_checkIndex_8e157 3 (some .int) 0 0 0 0 ws [.int i, .int j, .null] (QI D (U := Unit) (fun _ _ => True) (fun _ => ws)) := by
  refine Ct.ofZ RJ3 "checkIndex" [(0, .int i), (1, .int j), (2, .null)] rfl rfl rfl rfl (Nat.le_of_ble_eq_true rfl) ?_
  intro p e R s m args below meth c A b
  refine z_iload_n b dJ3_checkIndex_8e157_0 rfl rfl ?_
  refine z_if_lt_f (tgt := 9) b dJ3_checkIndex_8e157_1 (by decide) h0 ?_
  refine z_iload_n b dJ3_checkIndex_8e157_4 rfl rfl ?_
  refine z_iload_n b dJ3_checkIndex_8e157_5 rfl rfl ?_
  refine z_icmp_lt_t (tgt := 16) b dJ3_checkIndex_8e157_6 (by decide) h1 ?_
  refine z_iload_n b dJ3_checkIndex_8e157_16 rfl rfl ?_
  exact z_iret (u := ()) b rfl dJ3_checkIndex_8e157_17 trivial rfl (by decide) (by decide)


set_option maxHeartbeats 4000000 in
theorem gx_chk3s {l : Launch} {D : va_G} {cy : Nat → ClassId} {T0 tB tE sW tW n : Nat} {f : Nat → Int32} (ws : va_W) (i j : Int32) (g : Nat) (h0 : ¬ i < 0) (h1 : i < j) : Ct l D cy T0 tB tE yJ3_checkIndex_8e157 cJ3_checkIndex_8e157 3 (some .int) 0 0 0 0 ws [.int i, .int j, .ref g] (QI D (U := Unit) (fun _ _ => True) (fun _ => ws)) := by
  refine Ct.ofZ RJ3 "checkIndex" [(0, .int i), (1, .int j), (2, .ref g)] rfl rfl rfl rfl (Nat.le_of_ble_eq_true rfl) ?_
  intro p e R s m args below meth c A b
  refine z_iload_n b dJ3_checkIndex_8e157_0 rfl rfl ?_
  refine z_if_lt_f (tgt := 9) b dJ3_checkIndex_8e157_1 (by decide) h0 ?_
  refine z_iload_n b dJ3_checkIndex_8e157_4 rfl rfl ?_
  refine z_iload_n b dJ3_checkIndex_8e157_5 rfl rfl ?_
  refine z_icmp_lt_t (tgt := 16) b dJ3_checkIndex_8e157_6 (by decide) h1 ?_
  refine z_iload_n b dJ3_checkIndex_8e157_16 rfl rfl ?_
  exact z_iret (u := ()) b rfl dJ3_checkIndex_8e157_17 trivial rfl (by decide) (by decide)


set_option maxHeartbeats 4000000 in
theorem gx_chk {l : Launch} {D : va_G} {cy : Nat → ClassId} {T0 tB tE sW tW n : Nat} {f : Nat → Int32} (ws : va_W) (i j : Int32) (h0 : ¬ i < 0) (h1 : i < j) : CtX (sX T0 sW tW n f) l D cy T0 tB tE yJ0_checkIndex_df160 cJ0_checkIndex_df160 2 none 1 22 0 0 ws [.int i, .int j] (QV D (U := Unit) (fun _ => True) (fun _ => ws)) := by
  refine CtX.ofZ RJ0 "checkIndex" [(0, .int i), (1, .int j)] rfl rfl rfl rfl (Nat.le_of_ble_eq_true rfl) ?_
  intro p e R s m args below meth c A hx b
  refine z_iload_n b dJ0_checkIndex_df160_0 rfl rfl ?_
  refine z_iload_n b dJ0_checkIndex_df160_1 rfl rfl ?_
  refine s_fmt b hx wf_J0_1053 dJ0_checkIndex_df160_2 (fun r => ?_)
  cases r with
  | none =>
    refine z_calli b (z_runS (As := [.int i, .int j, .null]) (st := []) b (gx_chk3n (sW := 0) (tW := 0) (n := 0) (f := fun _ => 0) ws i j 0 h0 h1) cf_J3_checkIndex_8e157 wm_J0_1059 ws_J3_checkIndex_8e157 dJ0_checkIndex_df160_5 rfl (Nat.le_of_ble_eq_true rfl) ⟨by decide, by decide, by decide, by decide⟩) (fun r u _ => ?_)
    refine z_pop b dJ0_checkIndex_df160_8 rfl ?_
    exact z_vret (u := ()) b rfl dJ0_checkIndex_df160_9 trivial rfl (by decide) (by decide)
  | some g =>
    refine z_calli b (z_runS (As := [.int i, .int j, .ref g]) (st := []) b (gx_chk3s (sW := 0) (tW := 0) (n := 0) (f := fun _ => 0) ws i j g h0 h1) cf_J3_checkIndex_8e157 wm_J0_1059 ws_J3_checkIndex_8e157 dJ0_checkIndex_df160_5 rfl (Nat.le_of_ble_eq_true rfl) ⟨by decide, by decide, by decide, by decide⟩) (fun r u _ => ?_)
    refine z_pop b dJ0_checkIndex_df160_8 rfl ?_
    exact z_vret (u := ()) b rfl dJ0_checkIndex_df160_9 trivial rfl (by decide) (by decide)


set_option maxHeartbeats 4000000 in
theorem gx_char1 {l : Launch} {D : va_G} {cy : Nat → ClassId} {T0 tB tE sW tW n : Nat} {f : Nat → Int32} (ws : va_W) (i v : Int32) (j : Nat) (hi : zx i j n) (hv : Int32.ofNat n = v) (h1 : i < v) : CtX (sX T0 sW tW n f) l D cy T0 tB tE yJ1_charAt_3b067 cJ1_charAt_3b067 2 (some .char) 2 43 0 0 ws [.ref tW, .int i] (QI D (U := Unit) (fun r _ => zch (f j) = r) (fun _ => ws)) := by
  refine CtX.ofZ RJ1 "charAt" [(0, .ref tW), (1, .int i)] rfl rfl rfl rfl (Nat.le_of_ble_eq_true rfl) ?_
  intro p e R s m args below meth c A hx b
  refine z_iload_n b dJ1_charAt_3b067_0 rfl rfl ?_
  refine z_aload_n b dJ1_charAt_3b067_1 rfl rfl ?_
  refine s_len b hx hv dJ1_charAt_3b067_2 ?_
  refine z_callv b (s_runS (As := [.int i, .int v]) (st := []) b hx (gx_chk ws i v hi.2.1 h1) cf_J0_checkIndex_df160 wm_J1_9 ws_J0_checkIndex_df160 dJ1_charAt_3b067_3 rfl (Nat.le_of_ble_eq_true rfl) ⟨by decide, by decide, by decide, by decide⟩) (fun u _ => ?_)
  refine z_aload_n b dJ1_charAt_3b067_6 rfl rfl ?_
  refine z_iload_n b dJ1_charAt_3b067_7 rfl rfl ?_
  refine s_byt b hx hi dJ1_charAt_3b067_8 ?_
  refine z_sipush (v := 255) b dJ1_charAt_3b067_9 (by decide) ?_
  refine z_iand b dJ1_charAt_3b067_12 rfl ?_
  refine z_i2c b dJ1_charAt_3b067_13 rfl ?_
  exact z_nret (u := ()) b rfl (pk_nc _) dJ1_charAt_3b067_14 rfl rfl (by decide) (by decide)


set_option maxHeartbeats 4000000 in
theorem gx_char {l : Launch} {D : va_G} {cy : Nat → ClassId} {T0 tB tE sW tW n : Nat} {f : Nat → Int32} (ws : va_W) (i v : Int32) (j : Nat) (hi : zx i j n) (hv : Int32.ofNat n = v) (h1 : i < v) : CtX (sX T0 sW tW n f) l D cy T0 tB tE yJ0_charAt_5068e cJ0_charAt_5068e 2 (some .char) 3 64 0 0 ws [.ref sW, .int i] (QI D (U := Unit) (fun r _ => zch (f j) = r) (fun _ => ws)) := by
  refine CtX.ofZ RJ0 "charAt" [(0, .ref sW), (1, .int i)] rfl rfl rfl rfl (Nat.le_of_ble_eq_true rfl) ?_
  intro p e R s m args below meth c A hx b
  refine z_aload_n b dJ0_charAt_5068e_0 rfl rfl ?_
  refine z_calli b (s_runV (As := []) (st := []) b hx (gx_latin ws) cf_J0_isLatin1_aae02 rfl wm_J0_492 wi_J0_isLatin1_aae02 ws_J0_isLatin1_aae02 dJ0_charAt_5068e_1 rfl (Nat.le_of_ble_eq_true rfl) ⟨by decide, by decide, by decide, by decide⟩) (fun r u h => ?_)
  subst h
  refine z_if_eq_f (tgt := 16) b dJ0_charAt_5068e_4 (by decide) (by decide) ?_
  refine z_aload_n b dJ0_charAt_5068e_7 rfl rfl ?_
  refine s_val b hx wf_J0_9 dJ0_charAt_5068e_8 ?_
  refine z_iload_n b dJ0_charAt_5068e_11 rfl rfl ?_
  refine z_calli b (s_runS (As := [.ref tW, .int i]) (st := []) b hx (gx_char1 ws i v j hi hv h1) cf_J1_charAt_3b067 wm_J0_495 ws_J1_charAt_3b067 dJ0_charAt_5068e_12 rfl (Nat.le_of_ble_eq_true rfl) ⟨by decide, by decide, by decide, by decide⟩) (fun r u h => ?_)
  subst h
  exact z_nret (u := ()) b rfl (pk_nc _) dJ0_charAt_5068e_15 rfl rfl (by decide) (by decide)


