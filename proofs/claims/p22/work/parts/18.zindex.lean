/-- one cell more -/
def vn (L : va_W) (c : Nat × va_E) : va_W := L ++ [c]
theorem kw_newv (cy : Nat → ClassId) (a : Nat → Nat) (rw : Nat → Option Nat) (X : KS) (c : Nat × va_E) : kw cy a rw X ++ [c] = kw cy a rw (ksL X (vn X.2.2.2 c)) := kw_new cy a rw X c
theorem z_aload_nQ {p : Program} {l : Launch} {e : Env} {R : Room} {s : State} {m : MethodId} {args : Array Value} {below : List Frame} {meth : Method} {c : Code} {D : va_G} {cy : Nat → ClassId} {T0 tB tE : Nat} {A : Nat → Prop} {nL : Nat} {cc : ByteArray} {own : String} {rt : Option FieldType} {nm : String} {fr lo rc rs : Nat} {Q : State → Prop} {nc ns : Nat} {ws : va_W} {lv : List (Nat × Value)} {pc : Nat} {st : List Value} {k9 : Fin 4} {i : Nat} {x : Option Nat} (b : Bz p R s m args meth c D cy T0 tB tE A nL cc own rt nm fr lo rc rs) (d : decode cc pc = .ok (.aload_n k9, 1)) (hi : (k9 : Nat) = i) (h : zl lv i = some (va_rf x)) (k : Z p l e R s m args below meth c D A nL Q nc ns ws lv (pc + 1) (va_rf x :: st)) : Z p l e R s m args below meth c D A nL Q nc ns ws lv pc st := by
  cases x with
  | none => exact z_aload_nN b d hi h k
  | some x => exact z_aload_n b d hi h k
theorem z_aloadQ {p : Program} {l : Launch} {e : Env} {R : Room} {s : State} {m : MethodId} {args : Array Value} {below : List Frame} {meth : Method} {c : Code} {D : va_G} {cy : Nat → ClassId} {T0 tB tE : Nat} {A : Nat → Prop} {nL : Nat} {cc : ByteArray} {own : String} {rt : Option FieldType} {nm : String} {fr lo rc rs : Nat} {Q : State → Prop} {nc ns : Nat} {ws : va_W} {lv : List (Nat × Value)} {pc : Nat} {st : List Value} {i : Nat} {x : Option Nat} (b : Bz p R s m args meth c D cy T0 tB tE A nL cc own rt nm fr lo rc rs) (d : decode cc pc = .ok (.aload i, 2)) (h : zl lv i = some (va_rf x)) (k : Z p l e R s m args below meth c D A nL Q nc ns ws lv (pc + 2) (va_rf x :: st)) : Z p l e R s m args below meth c D A nL Q nc ns ws lv pc st := by
  cases x with
  | none => exact z_aloadN b d h k
  | some x => exact z_aload b d h k
theorem z_astore_nQ {p : Program} {l : Launch} {e : Env} {R : Room} {s : State} {m : MethodId} {args : Array Value} {below : List Frame} {meth : Method} {c : Code} {D : va_G} {cy : Nat → ClassId} {T0 tB tE : Nat} {A : Nat → Prop} {nL : Nat} {cc : ByteArray} {own : String} {rt : Option FieldType} {nm : String} {fr lo rc rs : Nat} {Q : State → Prop} {nc ns : Nat} {ws : va_W} {lv : List (Nat × Value)} {pc : Nat} {st : List Value} {lv' : List (Nat × Value)} {k9 : Fin 4} {i : Nat} {x : Option Nat} (b : Bz p R s m args meth c D cy T0 tB tE A nL cc own rt nm fr lo rc rs) (d : decode cc pc = .ok (.astore_n k9, 1)) (hi : (k9 : Nat) = i) (hn : i < nL) (hl : (i, va_rf x) :: lv.filter (fun q => !(q.1 == i) && !(q.1 + 1 == i && q.2.category == 2)) = lv') (k : Z p l e R s m args below meth c D A nL Q nc ns ws lv' (pc + 1) st) : Z p l e R s m args below meth c D A nL Q nc ns ws lv pc (va_rf x :: st) := by
  cases x with
  | none => exact z_astore_nN b d hi hn hl k
  | some x => exact z_astore_n b d hi hn hl k
theorem z_astoreQ {p : Program} {l : Launch} {e : Env} {R : Room} {s : State} {m : MethodId} {args : Array Value} {below : List Frame} {meth : Method} {c : Code} {D : va_G} {cy : Nat → ClassId} {T0 tB tE : Nat} {A : Nat → Prop} {nL : Nat} {cc : ByteArray} {own : String} {rt : Option FieldType} {nm : String} {fr lo rc rs : Nat} {Q : State → Prop} {nc ns : Nat} {ws : va_W} {lv : List (Nat × Value)} {pc : Nat} {st : List Value} {lv' : List (Nat × Value)} {i : Nat} {x : Option Nat} (b : Bz p R s m args meth c D cy T0 tB tE A nL cc own rt nm fr lo rc rs) (d : decode cc pc = .ok (.astore i, 2)) (hn : i < nL) (hl : (i, va_rf x) :: lv.filter (fun q => !(q.1 == i) && !(q.1 + 1 == i && q.2.category == 2)) = lv') (k : Z p l e R s m args below meth c D A nL Q nc ns ws lv' (pc + 2) st) : Z p l e R s m args below meth c D A nL Q nc ns ws lv pc (va_rf x :: st) := by
  cases x with
  | none => exact z_astoreN b d hn hl k
  | some x => exact z_astore b d hn hl k
theorem z_i2b {p : Program} {l : Launch} {e : Env} {R : Room} {s : State} {m : MethodId} {args : Array Value} {below : List Frame} {meth : Method} {c : Code} {D : va_G} {cy : Nat → ClassId} {T0 tB tE : Nat} {A : Nat → Prop} {nL : Nat} {cc : ByteArray} {own : String} {rt : Option FieldType} {nm : String} {fr lo rc rs : Nat} {Q : State → Prop} {nc ns : Nat} {ws : va_W} {lv : List (Nat × Value)} {pc : Nat} {st : List Value} {x v : Int32} (b : Bz p R s m args meth c D cy T0 tB tE A nL cc own rt nm fr lo rc rs) (d : decode cc pc = .ok (.i2b, 1)) (hv : x.toInt8.toInt32 = v) (k : Z p l e R s m args below meth c D A nL Q nc ns ws lv (pc + 1) (.int v :: st)) : Z p l e R s m args below meth c D A nL Q nc ns ws lv pc (.int x :: st) := fun H locs ls h1 h2 h3 h4 => lv_i2b b.x1 b.c1 d hv (k H locs ls h1 h2 h3 h4)
/-- the first place of a byte, or -1 -/
def ixF (f : Nat → Int32) (b : Int32) : Nat → Nat → Int32
  | 0, _ => -1
  | k + 1, j => if f j = b then Int32.ofNat j else ixF f b k (j + 1)
def ixR (n : Nat) (f : Nat → Int32) (c : Int32) : Int32 := if 0 ≤ c.toInt ∧ c.toInt ≤ 255 then ixF f c.toInt8.toInt32 n 0 else -1
theorem ix_nat {j : Nat} (h : j < 2147483648) : (Int32.ofNat j).toInt = j := by
  exact Int32.toInt_ofNat_of_lt (by omega)
theorem ix_inc {x : Int32} {j : Nat} (h : x.toInt = j) (hj : j < 2147483647) : (x + 1).toInt = ((j + 1 : Nat) : Int) := by
  have h1 : (1 : Int32).toInt = 1 := by decide
  rw [Int32.toInt_add, h1, h]
  rw [Int.bmod_eq_of_le (by omega) (by omega)]
  omega
set_option maxHeartbeats 4000000 in
theorem gx_can {l : Launch} {D : va_G} {cy : Nat → ClassId} {T0 tB tE sW tW n : Nat} {f : Nat → Int32} (ws : va_W) (c : Int32) : CtX (sX T0 sW tW n f) l D cy T0 tB tE yJ1_canEncode_9a6ad cJ1_canEncode_9a6ad 1 (some .boolean) 0 0 0 0 ws [.int c] (QI D (U := Unit) (fun r _ => (if 0 ≤ c.toInt ∧ c.toInt ≤ 255 then (1 : Int32) else 0) = r) (fun _ => ws)) := by
  refine CtX.ofZ RJ1 "canEncode" [(0, .int c)] rfl rfl rfl rfl (Nat.le_of_ble_eq_true rfl) ?_
  intro p e R s m args below meth c0 A hx b
  refine z_iload_n b dJ1_canEncode_9a6ad_0 rfl rfl ?_
  refine y_if_lt (tgt := 15) (xl := c.toInt) b rfl dJ1_canEncode_9a6ad_1 (by decide) (fun c1 => ?_) (fun c1 => ?_)
  · refine z_iconst (v := 0) b dJ1_canEncode_9a6ad_15 (by decide) ?_
    exact z_zret (u := ()) b rfl (by decide) dJ1_canEncode_9a6ad_16 (if_neg (fun h => by omega)) rfl (by decide) (by decide)
  · refine z_iload_n b dJ1_canEncode_9a6ad_4 rfl rfl ?_
    refine z_sipush (v := 255) b dJ1_canEncode_9a6ad_5 (by decide) ?_
    refine y_icmp_gt (tgt := 15) (xl := c.toInt) (yl := 255) b rfl (by decide) dJ1_canEncode_9a6ad_8 (by decide) (fun c2 => ?_) (fun c2 => ?_)
    · refine z_iconst (v := 0) b dJ1_canEncode_9a6ad_15 (by decide) ?_
      exact z_zret (u := ()) b rfl (by decide) dJ1_canEncode_9a6ad_16 (if_neg (fun h => by omega)) rfl (by decide) (by decide)
    · refine z_iconst (v := 1) b dJ1_canEncode_9a6ad_11 (by decide) ?_
      refine z_goto (tgt := 16) b dJ1_canEncode_9a6ad_12 (by decide) ?_
      exact z_zret (u := ()) b rfl (by decide) dJ1_canEncode_9a6ad_16 (if_pos ⟨c1, c2⟩) rfl (by decide) (by decide)
set_option maxHeartbeats 4000000 in
theorem gx_ixc {l : Launch} {D : va_G} {cy : Nat → ClassId} {T0 tB tE sW tW n : Nat} {f : Nat → Int32} (ws : va_W) (c v : Int32) (hn : n < 2147483648) (hv : v.toInt = n) : CtX (sX T0 sW tW n f) l D cy T0 tB tE yJ1_indexOfChar_4cfef cJ1_indexOfChar_4cfef 6 (some .int) 0 0 0 0 ws [.ref tW, .int c, .int 0, .int v] (QI D (U := Unit) (fun r _ => ixF f c.toInt8.toInt32 n 0 = r) (fun _ => ws)) := by
  refine CtX.ofZ RJ1 "indexOfChar" [(0, .ref tW), (1, .int c), (2, .int 0), (3, .int v)] rfl rfl rfl rfl (Nat.le_of_ble_eq_true rfl) ?_
  intro p e R s m args below meth c0 A hx b
  have loop : ∀ (k j : Nat), j + k = n → ∀ x : Int32, x.toInt = j → ixF f c.toInt8.toInt32 n 0 = ixF f c.toInt8.toInt32 k j → Z p l e R s m args below meth c0 D A 6 (MQ below (QI D (U := Unit) (fun r _ => ixF f c.toInt8.toInt32 n 0 = r) (fun _ => ws) A) args s 0 0 A) 0 0 ws [(0, .ref tW), (3, .int v), (4, .int c.toInt8.toInt32), (5, .int x)] 7 [] := by
    intro k
    induction k with
    | zero =>
      intro j hj x hxj he
      refine z_iload b dJ1_indexOfChar_4cfef_7 rfl ?_
      refine z_iload_n b dJ1_indexOfChar_4cfef_9 rfl rfl ?_
      refine y_icmp_ge (tgt := 31) (xl := x.toInt) (yl := v.toInt) b rfl rfl dJ1_indexOfChar_4cfef_10 (by decide) (fun c1 => ?_) (fun c1 => ?_)
      · refine z_iconst (v := -1) b dJ1_indexOfChar_4cfef_31 (by decide) ?_
        exact z_iret (u := ()) b rfl dJ1_indexOfChar_4cfef_32 he rfl (by decide) (by decide)
      · exact absurd c1 (by omega)
    | succ k ih =>
      intro j hj x hxj he
      refine z_iload b dJ1_indexOfChar_4cfef_7 rfl ?_
      refine z_iload_n b dJ1_indexOfChar_4cfef_9 rfl rfl ?_
      refine y_icmp_ge (tgt := 31) (xl := x.toInt) (yl := v.toInt) b rfl rfl dJ1_indexOfChar_4cfef_10 (by decide) (fun c1 => ?_) (fun c1 => ?_)
      · exact absurd c1 (by omega)
      · refine z_aload_n b dJ1_indexOfChar_4cfef_13 rfl rfl ?_
        refine z_iload b dJ1_indexOfChar_4cfef_14 rfl ?_
        have hz : zx x j n := by
          have h1 : x.toNatClampNeg = j := by
            show x.toInt.toNat = j
            omega
          have h2 := zx_r (i := x) (n := n) (by omega) (by omega)
          rwa [h1] at h2
        refine s_byt b hx hz dJ1_indexOfChar_4cfef_16 ?_
        refine z_iload b dJ1_indexOfChar_4cfef_17 rfl ?_
        refine y_icmp_ne (tgt := 25) (xl := (f j).toInt) (yl := c.toInt8.toInt32.toInt) b rfl rfl dJ1_indexOfChar_4cfef_19 (by decide) (fun c2 => ?_) (fun c2 => ?_)
        · refine z_iinc (k9 := 3) (v := x + 1) (lv' := [(5, .int (x + 1)), (0, .ref tW), (3, .int v), (4, .int c.toInt8.toInt32)]) b dJ1_indexOfChar_4cfef_25 rfl rfl (by decide) rfl ?_
          refine z_goto (tgt := 7) b dJ1_indexOfChar_4cfef_28 (by decide) ?_
          refine z_lv0 (lv' := [(0, .ref tW), (3, .int v), (4, .int c.toInt8.toInt32), (5, .int (x + 1))]) [1, 2, 3, 0] rfl ?_
          refine ih (j + 1) (by omega) (x + 1) (ix_inc hxj (by omega)) (he.trans ?_)
          show (if f j = c.toInt8.toInt32 then Int32.ofNat j else ixF f c.toInt8.toInt32 k (j + 1)) = _
          rw [if_neg (fun h => c2 (by rw [h]))]
        · refine z_iload b dJ1_indexOfChar_4cfef_22 rfl ?_
          refine z_iret (u := ()) b rfl dJ1_indexOfChar_4cfef_24 (he.trans ?_) rfl (by decide) (by decide)
          show (if f j = c.toInt8.toInt32 then Int32.ofNat j else ixF f c.toInt8.toInt32 k (j + 1)) = _
          rw [if_pos (Int32.toInt_inj.mp c2)]
          exact Int32.toInt_inj.mp ((ix_nat (by omega)).trans hxj.symm)
  refine z_iload_n b dJ1_indexOfChar_4cfef_0 rfl rfl ?_
  refine z_i2b b dJ1_indexOfChar_4cfef_1 rfl ?_
  refine z_istore (lv' := [(4, .int c.toInt8.toInt32), (0, .ref tW), (1, .int c), (2, .int 0), (3, .int v)]) b dJ1_indexOfChar_4cfef_2 (by decide) rfl ?_
  refine z_iload_n b dJ1_indexOfChar_4cfef_4 rfl rfl ?_
  refine z_istore (lv' := [(5, .int 0), (4, .int c.toInt8.toInt32), (0, .ref tW), (1, .int c), (2, .int 0), (3, .int v)]) b dJ1_indexOfChar_4cfef_5 (by decide) rfl ?_
  refine z_lv0 (lv' := [(0, .ref tW), (3, .int v), (4, .int c.toInt8.toInt32), (5, .int 0)]) [2, 5, 1, 0] rfl ?_
  exact loop n 0 (by omega) 0 (by decide) rfl
set_option maxHeartbeats 4000000 in
theorem gx_ix1 {l : Launch} {D : va_G} {cy : Nat → ClassId} {T0 tB tE sW tW n : Nat} {f : Nat → Int32} (ws : va_W) (c v : Int32) (hn : n < 2147483648) (hv : v.toInt = n) (hp : 0 < n) (hv2 : Int32.ofNat n = v) : CtX (sX T0 sW tW n f) l D cy T0 tB tE yJ1_indexOf_4cfef cJ1_indexOf_4cfef 4 (some .int) 1 40 0 0 ws [.ref tW, .int c, .int 0, .int v] (QI D (U := Unit) (fun r _ => ixR n f c = r) (fun _ => ws)) := by
  refine CtX.ofZ RJ1 "indexOf" [(0, .ref tW), (1, .int c), (2, .int 0), (3, .int v)] rfl rfl rfl rfl (Nat.le_of_ble_eq_true rfl) ?_
  intro p e R s m args below meth c0 A hx b
  refine z_iload_n b dJ1_indexOf_4cfef_0 rfl rfl ?_
  refine z_calli b (s_runS (As := [.int c]) (st := []) b hx (gx_can ws c) cf_J1_canEncode_9a6ad wm_J1_88 ws_J1_canEncode_9a6ad dJ1_indexOf_4cfef_1 rfl (Nat.le_of_ble_eq_true rfl) ⟨by decide, by decide, by decide, by decide⟩) (fun r u h => ?_)
  refine y_if_ne (tgt := 9) (xl := r.toInt) b rfl dJ1_indexOf_4cfef_4 (by decide) (fun c1 => ?_) (fun c1 => ?_)
  · have hc : 0 ≤ c.toInt ∧ c.toInt ≤ 255 := Classical.byContradiction fun hq => c1 (by rw [← h, if_neg hq]; decide)
    refine z_iload_n b dJ1_indexOf_4cfef_9 rfl rfl ?_
    refine z_iconst (v := 0) b dJ1_indexOf_4cfef_10 (by decide) ?_
    refine z_mmax (v := 0) b wL_J1_92 wLs_mmax wi_Math wLc_mmax dJ1_indexOf_4cfef_11 (by decide) (Nat.le_of_ble_eq_true rfl) ⟨by decide, by decide⟩ (by decide) ?_
    refine z_istore_n (lv' := [(2, .int 0), (0, .ref tW), (1, .int c), (3, .int v)]) b dJ1_indexOf_4cfef_14 rfl (by decide) rfl ?_
    refine z_iload_n b dJ1_indexOf_4cfef_15 rfl rfl ?_
    refine z_aload_n b dJ1_indexOf_4cfef_16 rfl rfl ?_
    refine s_len b hx hv2 dJ1_indexOf_4cfef_17 ?_
    refine z_mmin (v := v) b wL_J1_38 wLs_mmin wi_Math wLc_mmin dJ1_indexOf_4cfef_18 (by decide) (Nat.le_of_ble_eq_true rfl) ⟨by decide, by decide⟩ (ite_self _) ?_
    refine z_istore_n (lv' := [(3, .int v), (2, .int 0), (0, .ref tW), (1, .int c)]) b dJ1_indexOf_4cfef_21 rfl (by decide) rfl ?_
    refine z_iload_n b dJ1_indexOf_4cfef_22 rfl rfl ?_
    refine z_iload_n b dJ1_indexOf_4cfef_23 rfl rfl ?_
    refine y_icmp_lt (tgt := 29) (xl := 0) (yl := v.toInt) b (by decide) rfl dJ1_indexOf_4cfef_24 (by decide) (fun c2 => ?_) (fun c2 => ?_)
    · refine z_aload_n b dJ1_indexOf_4cfef_29 rfl rfl ?_
      refine z_iload_n b dJ1_indexOf_4cfef_30 rfl rfl ?_
      refine z_iload_n b dJ1_indexOf_4cfef_31 rfl rfl ?_
      refine z_iload_n b dJ1_indexOf_4cfef_32 rfl rfl ?_
      refine z_calli b (s_runS (As := [.ref tW, .int c, .int 0, .int v]) (st := []) b hx (gx_ixc ws c v hn hv) cf_J1_indexOfChar_4cfef wm_J1_95 ws_J1_indexOfChar_4cfef dJ1_indexOf_4cfef_33 rfl (Nat.le_of_ble_eq_true rfl) ⟨by decide, by decide, by decide, by decide⟩) (fun r2 u2 h2 => ?_)
      exact z_iret (u := ()) b rfl dJ1_indexOf_4cfef_36 ((if_pos hc).trans h2) rfl (by decide) (by decide)
    · exact absurd c2 (by omega)
  · have hc : ¬ (0 ≤ c.toInt ∧ c.toInt ≤ 255) := fun hq => by
      rw [if_pos hq] at h
      rw [← h] at c1
      exact absurd c1 (by decide)
    refine z_iconst (v := -1) b dJ1_indexOf_4cfef_7 (by decide) ?_
    exact z_iret (u := ()) b rfl dJ1_indexOf_4cfef_8 (if_neg hc) rfl (by decide) (by decide)
set_option maxHeartbeats 4000000 in
theorem gx_ix2 {l : Launch} {D : va_G} {cy : Nat → ClassId} {T0 tB tE sW tW n : Nat} {f : Nat → Int32} (ws : va_W) (c v : Int32) (hn : n < 2147483648) (hv : v.toInt = n) (hp : 0 < n) (hv2 : Int32.ofNat n = v) : CtX (sX T0 sW tW n f) l D cy T0 tB tE yJ0_indexOf_7cf53 cJ0_indexOf_7cf53 3 (some .int) 2 70 0 0 ws [.ref sW, .int c, .int 0] (QI D (U := Unit) (fun r _ => ixR n f c = r) (fun _ => ws)) := by
  refine CtX.ofZ RJ0 "indexOf" [(0, .ref sW), (1, .int c), (2, .int 0)] rfl rfl rfl rfl (Nat.le_of_ble_eq_true rfl) ?_
  intro p e R s m args below meth c0 A hx b
  refine z_aload_n b dJ0_indexOf_7cf53_0 rfl rfl ?_
  refine z_calli b (s_runV (As := []) (st := []) b hx (gx_latin ws) cf_J0_isLatin1_aae02 rfl wm_J0_492 wi_J0_isLatin1_aae02 ws_J0_isLatin1_aae02 dJ0_indexOf_7cf53_1 rfl (Nat.le_of_ble_eq_true rfl) ⟨by decide, by decide, by decide, by decide⟩) (fun r u h => ?_)
  subst h
  refine z_if_eq_f (tgt := 23) b dJ0_indexOf_7cf53_4 (by decide) (by decide) ?_
  refine z_aload_n b dJ0_indexOf_7cf53_7 rfl rfl ?_
  refine s_val b hx wf_J0_9 dJ0_indexOf_7cf53_8 ?_
  refine z_iload_n b dJ0_indexOf_7cf53_11 rfl rfl ?_
  refine z_iload_n b dJ0_indexOf_7cf53_12 rfl rfl ?_
  refine z_aload_n b dJ0_indexOf_7cf53_13 rfl rfl ?_
  refine z_calli b (s_runV (As := []) (st := [.int 0, .int c, .ref tW]) b hx (gx_length ws v hv2 (zshr0 _)) cf_J0_length_8abf5 rfl wm_J0_505 wi_J0_length_8abf5 ws_J0_length_8abf5 dJ0_indexOf_7cf53_14 rfl (Nat.le_of_ble_eq_true rfl) ⟨by decide, by decide, by decide, by decide⟩) (fun r u h => ?_)
  subst h
  refine z_calli b (s_runS (As := [.ref tW, .int c, .int 0, .int v]) (st := []) b hx (gx_ix1 ws c v hn hv hp hv2) cf_J1_indexOf_4cfef wm_J0_637 ws_J1_indexOf_4cfef dJ0_indexOf_7cf53_17 rfl (Nat.le_of_ble_eq_true rfl) ⟨by decide, by decide, by decide, by decide⟩) (fun r u h => ?_)
  refine z_goto (tgt := 36) b dJ0_indexOf_7cf53_20 (by decide) ?_
  exact z_iret (u := ()) b rfl dJ0_indexOf_7cf53_36 h rfl (by decide) (by decide)
set_option maxHeartbeats 4000000 in
theorem gx_ix {l : Launch} {D : va_G} {cy : Nat → ClassId} {T0 tB tE sW tW n : Nat} {f : Nat → Int32} (ws : va_W) (c : Int32) (hn : 0 < n ∧ n < 2147483648) : CtX (sX T0 sW tW n f) l D cy T0 tB tE yJ0_indexOf_0f7a4 cJ0_indexOf_0f7a4 2 (some .int) 3 100 0 0 ws [.ref sW, .int c] (QI D (U := Unit) (fun r _ => ixR n f c = r) (fun _ => ws)) := by
  refine CtX.ofZ RJ0 "indexOf" [(0, .ref sW), (1, .int c)] rfl rfl rfl rfl (Nat.le_of_ble_eq_true rfl) ?_
  intro p e R s m args below meth c0 A hx b
  refine z_aload_n b dJ0_indexOf_0f7a4_0 rfl rfl ?_
  refine z_iload_n b dJ0_indexOf_0f7a4_1 rfl rfl ?_
  refine z_iconst (v := 0) b dJ0_indexOf_0f7a4_2 (by decide) ?_
  refine z_calli b (s_runV (As := [.int c, .int 0]) (st := []) b hx (gx_ix2 ws c (Int32.ofNat n) hn.2 (ix_nat hn.2) hn.1 rfl) cf_J0_indexOf_7cf53 rfl wm_J0_633 wi_J0_indexOf_7cf53 ws_J0_indexOf_7cf53 dJ0_indexOf_0f7a4_3 rfl (Nat.le_of_ble_eq_true rfl) ⟨by decide, by decide, by decide, by decide⟩) (fun r u h => ?_)
  exact z_iret (u := ()) b rfl dJ0_indexOf_0f7a4_6 h rfl (by decide) (by decide)
