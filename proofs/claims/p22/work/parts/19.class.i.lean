set_option maxHeartbeats 200000 in
set_option maxRecDepth 100000 in
theorem zl_X8_code_L28 {p : Program} {l : Launch} {e : Env} {R : Room} {s : State} {m : MethodId} {args : Array Value} {below : List Frame} {meth : Method} {c : Code} {D : va_G} {cy : Nat → ClassId} {T0 tB tE : Nat} {A : Nat → Prop} {a : Nat → Nat} {rw : Nat → Option Nat} (hrw : ∀ i, i < 6 → rw i = some (a (12 + 2 * i))) {post : Int32 → KS → Prop} {k58 : KS → Int32 → Prop} (b : Bz p R s m args meth c D cy T0 tB tE A 5 cX8_code RX8 (some .int) "code" 1 21 0 0) (hk58 : ∀ (S : KS) (x3 : Int32), k58 S x3 → Z p l e R s m args below meth c D A 5 (MQ below (QI D (U := KS) post (kw cy a rw) A) args s 0 0 A) 0 0 (kw cy a rw S) [(0, .ref (a 38)), (3, .int x3)] 58 []) : ∀ (n : Nat) (S : KS) (x3 : Int32) (x4 : Int32), lpn (w_X8_code_F28 cy tE post k58) (fun _ _ _ => False) n S x3 x4 → Z p l e R s m args below meth c D A 5 (MQ below (QI D (U := KS) post (kw cy a rw) A) args s 0 0 A) 0 0 (kw cy a rw S) [(0, .ref (a 38)), (3, .int x3), (4, .int x4)] 28 [] := by
  intro n
  induction n with
  | zero => intro _ _ _ h; exact h.elim
  | succ n ih => intro S x3 x4 h; exact z_X8_code_F28 hrw b hk58 ih S x3 x4 h

def w_X8_code_B80 (cy : Nat → ClassId) (tE : Nat) (post : Int32 → KS → Prop) (S : KS) (y0 : Int32) : Prop :=
  post y0 S

set_option maxHeartbeats 200000 in
set_option maxRecDepth 100000 in
theorem z_X8_code_B80 {p : Program} {l : Launch} {e : Env} {R : Room} {s : State} {m : MethodId} {args : Array Value} {below : List Frame} {meth : Method} {c : Code} {D : va_G} {cy : Nat → ClassId} {T0 tB tE : Nat} {A : Nat → Prop} {a : Nat → Nat} {rw : Nat → Option Nat} (hrw : ∀ i, i < 6 → rw i = some (a (12 + 2 * i))) {post : Int32 → KS → Prop} (b : Bz p R s m args meth c D cy T0 tB tE A 5 cX8_code RX8 (some .int) "code" 1 21 0 0) (S : KS) (y0 : Int32) (h : w_X8_code_B80 cy tE post S y0) : Z p l e R s m args below meth c D A 5 (MQ below (QI D (U := KS) post (kw cy a rw) A) args s 0 0 A) 0 0 (kw cy a rw S) [] 80 [.int y0] := by
  unfold w_X8_code_B80 at h
  exact z_iret (u := S) b rfl dX8_code_80 h rfl (by decide) (by decide)

def w_X8_code_B79 (cy : Nat → ClassId) (tE : Nat) (post : Int32 → KS → Prop) (S : KS)  : Prop :=
  w_X8_code_B80 cy tE post S (-1)

set_option maxHeartbeats 200000 in
set_option maxRecDepth 100000 in
theorem z_X8_code_B79 {p : Program} {l : Launch} {e : Env} {R : Room} {s : State} {m : MethodId} {args : Array Value} {below : List Frame} {meth : Method} {c : Code} {D : va_G} {cy : Nat → ClassId} {T0 tB tE : Nat} {A : Nat → Prop} {a : Nat → Nat} {rw : Nat → Option Nat} (hrw : ∀ i, i < 6 → rw i = some (a (12 + 2 * i))) {post : Int32 → KS → Prop} (b : Bz p R s m args meth c D cy T0 tB tE A 5 cX8_code RX8 (some .int) "code" 1 21 0 0) (S : KS)  (h : w_X8_code_B79 cy tE post S ) : Z p l e R s m args below meth c D A 5 (MQ below (QI D (U := KS) post (kw cy a rw) A) args s 0 0 A) 0 0 (kw cy a rw S) [] 79 [] := by
  unfold w_X8_code_B79 at h
  refine z_iconst (v := (-1)) b dX8_code_79 (by decide) ?_
  exact z_X8_code_B80 hrw b _ _ h

def w_X8_code_B58 (cy : Nat → ClassId) (tE : Nat) (post : Int32 → KS → Prop) (S : KS) (x3 : Int32) : Prop :=
  ((x3.toInt < 0 → w_X8_code_B79 cy tE post S) ∧ (0 ≤ x3.toInt → (((fi S.1 33).toInt ≤ x3.toInt → w_X8_code_B79 cy tE post S) ∧ (x3.toInt < (fi S.1 33).toInt → (0 ≤ x3.toInt ∧ x3.toInt < 400) ∧ w_X8_code_B80 cy tE post S ((ar S.1 19) x3.toNatClampNeg)))))

set_option maxHeartbeats 200000 in
set_option maxRecDepth 100000 in
theorem z_X8_code_B58 {p : Program} {l : Launch} {e : Env} {R : Room} {s : State} {m : MethodId} {args : Array Value} {below : List Frame} {meth : Method} {c : Code} {D : va_G} {cy : Nat → ClassId} {T0 tB tE : Nat} {A : Nat → Prop} {a : Nat → Nat} {rw : Nat → Option Nat} (hrw : ∀ i, i < 6 → rw i = some (a (12 + 2 * i))) {post : Int32 → KS → Prop} (b : Bz p R s m args meth c D cy T0 tB tE A 5 cX8_code RX8 (some .int) "code" 1 21 0 0) (S : KS) (x3 : Int32) (h : w_X8_code_B58 cy tE post S x3) : Z p l e R s m args below meth c D A 5 (MQ below (QI D (U := KS) post (kw cy a rw) A) args s 0 0 A) 0 0 (kw cy a rw S) [(0, .ref (a 38)), (3, .int x3)] 58 [] := by
  unfold w_X8_code_B58 at h
  refine z_iload_n b dX8_code_58 rfl rfl ?_
  refine y_if_lt (tgt := 79) (xl := x3.toInt) b rfl dX8_code_59 (by decide) (fun c1 => ?_) (fun c1 => ?_)
  · replace h := h.1 c1
    refine z_lv0 (lv' := []) [] rfl ?_
    exact z_X8_code_B79 hrw b _ h
  · replace h := h.2 c1
    refine z_iload_n b dX8_code_62 rfl rfl ?_
    refine z_aload_n b dX8_code_63 rfl rfl ?_
    refine z_get (q0 := 38) (k9 := 17) (v := .int (fi S.1 33)) b (kw_38 cy a rw S) rfl in_X8 (by decide) wf_X8_64 rfl dX8_code_64 ?_
    refine y_icmp_ge (tgt := 79) (xl := x3.toInt) (yl := (fi S.1 33).toInt) b rfl rfl dX8_code_67 (by decide) (fun c1 => ?_) (fun c1 => ?_)
    · replace h := h.1 c1
      refine z_lv0 (lv' := []) [] rfl ?_
      exact z_X8_code_B79 hrw b _ h
    · replace h := h.2 c1
      refine z_aload_n b dX8_code_70 rfl rfl ?_
      refine z_get (q0 := 38) (k9 := 6) (v := .ref (a 42)) b (kw_38 cy a rw S) rfl in_X8 (by decide) wf_X8_29 rfl dX8_code_71 ?_
      refine z_iload_n b dX8_code_74 rfl rfl ?_
      obtain ⟨g6, h⟩ := h
      refine y_iald (q0 := 42) (j := x3.toNatClampNeg) (v := ((ar S.1 19) x3.toNatClampNeg)) b (kw_42 cy a rw S) (zx_r g6.1 g6.2) rfl dX8_code_75 ?_
      refine z_goto (tgt := 80) b dX8_code_76 (by decide) ?_
      refine z_lv0 (lv' := []) [] rfl ?_
      exact z_X8_code_B80 hrw b _ _ h

def w_X8_code (cy : Nat → ClassId) (tE : Nat) (S : KS) (p0 : Int32) (p1 : Int32) (post : Int32 → KS → Prop) : Prop :=
  ((p1.toInt < 0 → w_X8_code_B13 cy tE post S) ∧ (0 ≤ p1.toInt → w_X8_acts cy tE S p0 (fun r1 S2 => ((p1.toInt < r1.toInt → w_X8_acts cy tE S2 p0 (fun r3 S4 => ∃ n, lpn (w_X8_code_F28 cy tE post (w_X8_code_B58 cy tE post)) (fun _ _ _ => False) n S4 p0 ((r3 - 1) - p1))) ∧ (r1.toInt ≤ p1.toInt → w_X8_code_B13 cy tE post S2)))))

set_option maxHeartbeats 200000 in
set_option maxRecDepth 100000 in
theorem k_X8_code {l : Launch} {D : va_G} {cy : Nat → ClassId} {T0 tB tE : Nat} {a : Nat → Nat} {rw : Nat → Option Nat} (hrw : ∀ i, i < 6 → rw i = some (a (12 + 2 * i))) (S : KS) (p0 : Int32) (p1 : Int32) (post : Int32 → KS → Prop) (h : w_X8_code cy tE S p0 p1 post) : Ct l D cy T0 tB tE yX8_code cX8_code 5 (some .int) 1 21 0 0 (kw cy a rw S) [.ref (a 38), .int p0, .int p1] (QI D (U := KS) post (kw cy a rw)) := by
  refine Ct.ofZ RX8 "code" [(0, .ref (a 38)), (1, .int p0), (2, .int p1)] rfl rfl rfl rfl (Nat.le_of_ble_eq_true rfl) ?_
  intro p e R s m args below meth c A b
  unfold w_X8_code at h
  refine z_iload_n b dX8_code_0 rfl rfl ?_
  refine y_if_lt (tgt := 13) (xl := p1.toInt) b rfl dX8_code_1 (by decide) (fun c1 => ?_) (fun c1 => ?_)
  · replace h := h.1 c1
    refine z_lv0 (lv' := []) [] rfl ?_
    exact z_X8_code_B13 hrw b _ h
  · replace h := h.2 c1
    refine z_iload_n b dX8_code_4 rfl rfl ?_
    refine z_aload_n b dX8_code_5 rfl rfl ?_
    refine z_iload_n b dX8_code_6 rfl rfl ?_
    refine z_calli b (z_runV (q0 := 38) (As := [.int p0]) (st := [.int p1]) b (k_X8_acts hrw S p0 _ h) cf_X8_acts (kw_38 cy a rw S) rfl wm_X8_117 wi_X8_acts ws_X8_acts dX8_code_7 rfl (Nat.le_of_ble_eq_true rfl) ⟨by decide, by decide, Nat.le_of_ble_eq_true rfl, Nat.le_of_ble_eq_true rfl⟩) (fun r1 S2 h => ?_)
    refine y_icmp_lt (tgt := 15) (xl := p1.toInt) (yl := r1.toInt) b rfl rfl dX8_code_10 (by decide) (fun c1 => ?_) (fun c1 => ?_)
    · replace h := h.1 c1
      refine z_iload_n b dX8_code_15 rfl rfl ?_
      refine z_istore_n (lv' := [(3, .int p0), (0, .ref (a 38)), (1, .int p0), (2, .int p1)]) b dX8_code_16 rfl (by decide) rfl ?_
      refine z_aload_n b dX8_code_17 rfl rfl ?_
      refine z_iload_n b dX8_code_18 rfl rfl ?_
      refine z_calli b (z_runV (q0 := 38) (As := [.int p0]) (st := []) b (k_X8_acts hrw S2 p0 _ h) cf_X8_acts (kw_38 cy a rw S2) rfl wm_X8_117 wi_X8_acts ws_X8_acts dX8_code_19 rfl (Nat.le_of_ble_eq_true rfl) ⟨by decide, by decide, Nat.le_of_ble_eq_true rfl, Nat.le_of_ble_eq_true rfl⟩) (fun r3 S4 h => ?_)
      refine z_iconst (v := 1) b dX8_code_22 (by decide) ?_
      refine z_isub b dX8_code_23 rfl ?_
      refine z_iload_n b dX8_code_24 rfl rfl ?_
      refine z_isub b dX8_code_25 rfl ?_
      refine z_istore (lv' := [(4, .int ((r3 - 1) - p1)), (3, .int p0), (0, .ref (a 38)), (1, .int p0), (2, .int p1)]) b dX8_code_26 (by decide) rfl ?_
      refine z_lv0 (lv' := [(0, .ref (a 38)), (3, .int p0), (4, .int ((r3 - 1) - p1))]) [2, 1, 0] rfl ?_
      obtain ⟨n, h⟩ := h
      exact zl_X8_code_L28 hrw b (fun S x3 h => z_X8_code_B58 hrw b _ _ h) n _ _ _ h
    · replace h := h.2 c1
      refine z_lv0 (lv' := []) [] rfl ?_
      exact z_X8_code_B13 hrw b _ h

def w_X5_readChanged_B118 (cy : Nat → ClassId) (tE : Nat) (post : Int32 → KS → Prop) (S : KS)  : Prop :=
  w_X5_readPersons cy tE (ksi S 15 ((fi S.1 15) + 1)) 2 (fun r3 S4 => post r3 S4)

set_option maxHeartbeats 200000 in
set_option maxRecDepth 100000 in
theorem z_X5_readChanged_B118 {p : Program} {l : Launch} {e : Env} {R : Room} {s : State} {m : MethodId} {args : Array Value} {below : List Frame} {meth : Method} {c : Code} {D : va_G} {cy : Nat → ClassId} {T0 tB tE : Nat} {A : Nat → Prop} {a : Nat → Nat} {rw : Nat → Option Nat} (hrw : ∀ i, i < 6 → rw i = some (a (12 + 2 * i))) {post : Int32 → KS → Prop} (b : Bz p R s m args meth c D cy T0 tB tE A 2 cX5_readChanged RX5 (some .int) "readChanged" 2 43 0 0) (S : KS)  (h : w_X5_readChanged_B118 cy tE post S ) : Z p l e R s m args below meth c D A 2 (MQ below (QI D (U := KS) post (kw cy a rw) A) args s 0 0 A) 0 0 (kw cy a rw S) [(0, .ref (a 26))] 118 [] := by
  unfold w_X5_readChanged_B118 at h
  refine z_aload_n b dX5_readChanged_118 rfl rfl ?_
  refine z_dup b dX5_readChanged_119 rfl ?_
  refine z_get (q0 := 26) (k9 := 1) (v := .int (fi S.1 15)) b (kw_26 cy a rw S) rfl in_X5 (by decide) wf_X5_18 rfl dX5_readChanged_120 ?_
  refine z_iconst (v := 1) b dX5_readChanged_123 (by decide) ?_
  refine z_iadd b dX5_readChanged_124 rfl ?_
  refine z_put (q0 := 26) (k9 := 1) tyX5 b (kw_26 cy a rw S) rfl in_X5 tyX5_ok nmX5 (by decide) wf_X5_18 rfl rfl rfl rfl (Nat.le_of_ble_eq_true rfl) dX5_readChanged_125 (kwp_26_1 cy a rw S ((fi S.1 15) + 1)) ?_
  refine z_aload_n b dX5_readChanged_128 rfl rfl ?_
  refine z_iconst (v := 2) b dX5_readChanged_129 (by decide) ?_
  refine z_calli b (z_runV (q0 := 26) (As := [.int 2]) (st := []) b (k_X5_readPersons hrw (ksi S 15 ((fi S.1 15) + 1)) 2 _ h) cf_X5_readPersons (kw_26 cy a rw (ksi S 15 ((fi S.1 15) + 1))) rfl wm_X5_144 wi_X5_readPersons ws_X5_readPersons dX5_readChanged_130 rfl (Nat.le_of_ble_eq_true rfl) ⟨by decide, by decide, Nat.le_of_ble_eq_true rfl, Nat.le_of_ble_eq_true rfl⟩) (fun r3 S4 h => ?_)
  exact z_iret (u := S4) b rfl dX5_readChanged_133 h rfl (by decide) (by decide)

def w_X5_readChanged_B134 (cy : Nat → ClassId) (tE : Nat) (post : Int32 → KS → Prop) (S : KS)  : Prop :=
  w_X5_refuse cy tE S 1 (fun r9 S10 => post (-1) S10)

set_option maxHeartbeats 200000 in
set_option maxRecDepth 100000 in
theorem z_X5_readChanged_B134 {p : Program} {l : Launch} {e : Env} {R : Room} {s : State} {m : MethodId} {args : Array Value} {below : List Frame} {meth : Method} {c : Code} {D : va_G} {cy : Nat → ClassId} {T0 tB tE : Nat} {A : Nat → Prop} {a : Nat → Nat} {rw : Nat → Option Nat} (hrw : ∀ i, i < 6 → rw i = some (a (12 + 2 * i))) {post : Int32 → KS → Prop} (b : Bz p R s m args meth c D cy T0 tB tE A 2 cX5_readChanged RX5 (some .int) "readChanged" 2 43 0 0) (S : KS)  (h : w_X5_readChanged_B134 cy tE post S ) : Z p l e R s m args below meth c D A 2 (MQ below (QI D (U := KS) post (kw cy a rw) A) args s 0 0 A) 0 0 (kw cy a rw S) [(0, .ref (a 26))] 134 [] := by
  unfold w_X5_readChanged_B134 at h
  refine z_aload_n b dX5_readChanged_134 rfl rfl ?_
  refine z_iconst (v := 1) b dX5_readChanged_135 (by decide) ?_
  refine z_calli b (z_runV (q0 := 26) (As := [.int 1]) (st := []) b (k_X5_refuse hrw S 1 _ h) cf_X5_refuse (kw_26 cy a rw S) rfl wm_X5_70 wi_X5_refuse ws_X5_refuse dX5_readChanged_136 rfl (Nat.le_of_ble_eq_true rfl) ⟨by decide, by decide, Nat.le_of_ble_eq_true rfl, Nat.le_of_ble_eq_true rfl⟩) (fun r9 S10 h => ?_)
  refine z_pop b dX5_readChanged_139 rfl ?_
  refine z_iconst (v := (-1)) b dX5_readChanged_140 (by decide) ?_
  exact z_iret (u := S10) b rfl dX5_readChanged_141 h rfl (by decide) (by decide)

def w_X5_readChanged (cy : Nat → ClassId) (tE : Nat) (S : KS) (p0 : Int32) (post : Int32 → KS → Prop) : Prop :=
  ((p0.toInt = 7 → w_X5_readPersons cy tE (ksi S 15 ((fi S.1 15) + 1)) 1 (fun r1 S2 => post r1 S2)) ∧ (p0.toInt = 8 → w_X5_readChanged_B118 cy tE post S) ∧ (p0.toInt = 9 → w_X5_kind cy tE (ksi (ksi S 15 ((fi S.1 15) + 1)) 18 1) (fun r5 S6 => ((r5.toInt ≠ 10 → w_X5_readPersons cy tE S6 1 (fun r7 S8 => post r7 S8)) ∧ (r5.toInt = 10 → post 2 (ksi S6 15 ((fi S6.1 15) + 1)))))) ∧ (p0.toInt = 10 → w_X5_readChanged_B134 cy tE post S) ∧ (p0.toInt = 11 → w_X5_readChanged_B118 cy tE post S) ∧ (p0.toInt = 12 → w_X5_readChanged_B118 cy tE post S) ∧ (p0.toInt = 13 → w_X5_readChanged_B118 cy tE post S) ∧ (p0.toInt = 14 → post 0 (ksi S 15 ((fi S.1 15) + 1))) ∧ (p0.toInt ≠ 7 ∧ p0.toInt ≠ 8 ∧ p0.toInt ≠ 9 ∧ p0.toInt ≠ 10 ∧ p0.toInt ≠ 11 ∧ p0.toInt ≠ 12 ∧ p0.toInt ≠ 13 ∧ p0.toInt ≠ 14 → w_X5_readChanged_B134 cy tE post S))

set_option maxHeartbeats 200000 in
set_option maxRecDepth 100000 in
theorem k_X5_readChanged {l : Launch} {D : va_G} {cy : Nat → ClassId} {T0 tB tE : Nat} {a : Nat → Nat} {rw : Nat → Option Nat} (hrw : ∀ i, i < 6 → rw i = some (a (12 + 2 * i))) (S : KS) (p0 : Int32) (post : Int32 → KS → Prop) (h : w_X5_readChanged cy tE S p0 post) : Ct l D cy T0 tB tE yX5_readChanged cX5_readChanged 2 (some .int) 2 43 0 0 (kw cy a rw S) [.ref (a 26), .int p0] (QI D (U := KS) post (kw cy a rw)) := by
  refine Ct.ofZ RX5 "readChanged" [(0, .ref (a 26)), (1, .int p0)] rfl rfl rfl rfl (Nat.le_of_ble_eq_true rfl) ?_
  intro p e R s m args below meth c A b
  unfold w_X5_readChanged at h
  refine z_iload_n b dX5_readChanged_0 rfl rfl ?_
  by_cases e1 : p0.toInt = 7
  · replace h := h.1 e1
    refine z_eqi (y := 7) (y_eqc e1 (by decide)) ?_
    refine z_tableIn (tgt := 102) (off := 101) b dX5_readChanged_1 (by decide) (by decide) (by decide) (by decide) ?_
    refine z_aload_n b dX5_readChanged_102 rfl rfl ?_
    refine z_dup b dX5_readChanged_103 rfl ?_
    refine z_get (q0 := 26) (k9 := 1) (v := .int (fi S.1 15)) b (kw_26 cy a rw S) rfl in_X5 (by decide) wf_X5_18 rfl dX5_readChanged_104 ?_
    refine z_iconst (v := 1) b dX5_readChanged_107 (by decide) ?_
    refine z_iadd b dX5_readChanged_108 rfl ?_
    refine z_put (q0 := 26) (k9 := 1) tyX5 b (kw_26 cy a rw S) rfl in_X5 tyX5_ok nmX5 (by decide) wf_X5_18 rfl rfl rfl rfl (Nat.le_of_ble_eq_true rfl) dX5_readChanged_109 (kwp_26_1 cy a rw S ((fi S.1 15) + 1)) ?_
    refine z_aload_n b dX5_readChanged_112 rfl rfl ?_
    refine z_iconst (v := 1) b dX5_readChanged_113 (by decide) ?_
    refine z_calli b (z_runV (q0 := 26) (As := [.int 1]) (st := []) b (k_X5_readPersons hrw (ksi S 15 ((fi S.1 15) + 1)) 1 _ h) cf_X5_readPersons (kw_26 cy a rw (ksi S 15 ((fi S.1 15) + 1))) rfl wm_X5_144 wi_X5_readPersons ws_X5_readPersons dX5_readChanged_114 rfl (Nat.le_of_ble_eq_true rfl) ⟨by decide, by decide, Nat.le_of_ble_eq_true rfl, Nat.le_of_ble_eq_true rfl⟩) (fun r1 S2 h => ?_)
    exact z_iret (u := S2) b rfl dX5_readChanged_117 h rfl (by decide) (by decide)
  replace h := h.2
  have o0 := e1
  by_cases e1 : p0.toInt = 8
  · replace h := h.1 e1
    refine z_eqi (y := 8) (y_eqc e1 (by decide)) ?_
    refine z_tableIn (tgt := 118) (off := 117) b dX5_readChanged_1 (by decide) (by decide) (by decide) (by decide) ?_
    refine z_lv0 (lv' := [(0, .ref (a 26))]) [0] rfl ?_
    exact z_X5_readChanged_B118 hrw b _ h
  replace h := h.2
  have o1 := e1
  by_cases e1 : p0.toInt = 9
  · replace h := h.1 e1
    refine z_eqi (y := 9) (y_eqc e1 (by decide)) ?_
    refine z_tableIn (tgt := 60) (off := 59) b dX5_readChanged_1 (by decide) (by decide) (by decide) (by decide) ?_
    refine z_aload_n b dX5_readChanged_60 rfl rfl ?_
    refine z_dup b dX5_readChanged_61 rfl ?_
    refine z_get (q0 := 26) (k9 := 1) (v := .int (fi S.1 15)) b (kw_26 cy a rw S) rfl in_X5 (by decide) wf_X5_18 rfl dX5_readChanged_62 ?_
    refine z_iconst (v := 1) b dX5_readChanged_65 (by decide) ?_
    refine z_iadd b dX5_readChanged_66 rfl ?_
    refine z_put (q0 := 26) (k9 := 1) tyX5 b (kw_26 cy a rw S) rfl in_X5 tyX5_ok nmX5 (by decide) wf_X5_18 rfl rfl rfl rfl (Nat.le_of_ble_eq_true rfl) dX5_readChanged_67 (kwp_26_1 cy a rw S ((fi S.1 15) + 1)) ?_
    refine z_aload_n b dX5_readChanged_70 rfl rfl ?_
    refine z_iconst (v := 1) b dX5_readChanged_71 (by decide) ?_
    refine z_put (q0 := 26) (k9 := 5) tyX5 b (kw_26 cy a rw (ksi S 15 ((fi S.1 15) + 1))) rfl in_X5 tyX5_ok nmX5 (by decide) wf_X5_33 rfl rfl rfl rfl (Nat.le_of_ble_eq_true rfl) dX5_readChanged_72 (kwp_26_5 cy a rw (ksi S 15 ((fi S.1 15) + 1)) 1) ?_
    refine z_aload_n b dX5_readChanged_75 rfl rfl ?_
    refine z_calli b (z_runV (q0 := 26) (As := []) (st := []) b (k_X5_kind hrw (ksi (ksi S 15 ((fi S.1 15) + 1)) 18 1) _ h) cf_X5_kind (kw_26 cy a rw (ksi (ksi S 15 ((fi S.1 15) + 1)) 18 1)) rfl wm_X5_66 wi_X5_kind ws_X5_kind dX5_readChanged_76 rfl (Nat.le_of_ble_eq_true rfl) ⟨by decide, by decide, Nat.le_of_ble_eq_true rfl, Nat.le_of_ble_eq_true rfl⟩) (fun r5 S6 h => ?_)
    refine z_bipush (v := 10) b dX5_readChanged_79 (by decide) ?_
    refine y_icmp_ne (tgt := 96) (xl := r5.toInt) (yl := 10) b rfl (by decide) dX5_readChanged_81 (by decide) (fun c1 => ?_) (fun c1 => ?_)
    · replace h := h.1 c1
      refine z_aload_n b dX5_readChanged_96 rfl rfl ?_
      refine z_iconst (v := 1) b dX5_readChanged_97 (by decide) ?_
      refine z_calli b (z_runV (q0 := 26) (As := [.int 1]) (st := []) b (k_X5_readPersons hrw S6 1 _ h) cf_X5_readPersons (kw_26 cy a rw S6) rfl wm_X5_144 wi_X5_readPersons ws_X5_readPersons dX5_readChanged_98 rfl (Nat.le_of_ble_eq_true rfl) ⟨by decide, by decide, Nat.le_of_ble_eq_true rfl, Nat.le_of_ble_eq_true rfl⟩) (fun r7 S8 h => ?_)
      exact z_iret (u := S8) b rfl dX5_readChanged_101 h rfl (by decide) (by decide)
    · replace h := h.2 c1
      refine z_aload_n b dX5_readChanged_84 rfl rfl ?_
      refine z_dup b dX5_readChanged_85 rfl ?_
      refine z_get (q0 := 26) (k9 := 1) (v := .int (fi S6.1 15)) b (kw_26 cy a rw S6) rfl in_X5 (by decide) wf_X5_18 rfl dX5_readChanged_86 ?_
      refine z_iconst (v := 1) b dX5_readChanged_89 (by decide) ?_
      refine z_iadd b dX5_readChanged_90 rfl ?_
      refine z_put (q0 := 26) (k9 := 1) tyX5 b (kw_26 cy a rw S6) rfl in_X5 tyX5_ok nmX5 (by decide) wf_X5_18 rfl rfl rfl rfl (Nat.le_of_ble_eq_true rfl) dX5_readChanged_91 (kwp_26_1 cy a rw S6 ((fi S6.1 15) + 1)) ?_
      refine z_iconst (v := 2) b dX5_readChanged_94 (by decide) ?_
      exact z_iret (u := (ksi S6 15 ((fi S6.1 15) + 1))) b rfl dX5_readChanged_95 h rfl (by decide) (by decide)
  replace h := h.2
  have o2 := e1
  by_cases e1 : p0.toInt = 10
  · replace h := h.1 e1
    refine z_eqi (y := 10) (y_eqc e1 (by decide)) ?_
    refine z_tableIn (tgt := 134) (off := 133) b dX5_readChanged_1 (by decide) (by decide) (by decide) (by decide) ?_
    refine z_lv0 (lv' := [(0, .ref (a 26))]) [0] rfl ?_
    exact z_X5_readChanged_B134 hrw b _ h
  replace h := h.2
  have o3 := e1
  by_cases e1 : p0.toInt = 11
  · replace h := h.1 e1
    refine z_eqi (y := 11) (y_eqc e1 (by decide)) ?_
    refine z_tableIn (tgt := 118) (off := 117) b dX5_readChanged_1 (by decide) (by decide) (by decide) (by decide) ?_
    refine z_lv0 (lv' := [(0, .ref (a 26))]) [0] rfl ?_
    exact z_X5_readChanged_B118 hrw b _ h
  replace h := h.2
  have o4 := e1
  by_cases e1 : p0.toInt = 12
  · replace h := h.1 e1
    refine z_eqi (y := 12) (y_eqc e1 (by decide)) ?_
    refine z_tableIn (tgt := 118) (off := 117) b dX5_readChanged_1 (by decide) (by decide) (by decide) (by decide) ?_
    refine z_lv0 (lv' := [(0, .ref (a 26))]) [0] rfl ?_
    exact z_X5_readChanged_B118 hrw b _ h
  replace h := h.2
  have o5 := e1
  by_cases e1 : p0.toInt = 13
  · replace h := h.1 e1
    refine z_eqi (y := 13) (y_eqc e1 (by decide)) ?_
    refine z_tableIn (tgt := 118) (off := 117) b dX5_readChanged_1 (by decide) (by decide) (by decide) (by decide) ?_
    refine z_lv0 (lv' := [(0, .ref (a 26))]) [0] rfl ?_
    exact z_X5_readChanged_B118 hrw b _ h
  replace h := h.2
  have o6 := e1
  by_cases e1 : p0.toInt = 14
  · replace h := h.1 e1
    refine z_eqi (y := 14) (y_eqc e1 (by decide)) ?_
    refine z_tableIn (tgt := 48) (off := 47) b dX5_readChanged_1 (by decide) (by decide) (by decide) (by decide) ?_
    refine z_aload_n b dX5_readChanged_48 rfl rfl ?_
    refine z_dup b dX5_readChanged_49 rfl ?_
    refine z_get (q0 := 26) (k9 := 1) (v := .int (fi S.1 15)) b (kw_26 cy a rw S) rfl in_X5 (by decide) wf_X5_18 rfl dX5_readChanged_50 ?_
    refine z_iconst (v := 1) b dX5_readChanged_53 (by decide) ?_
    refine z_iadd b dX5_readChanged_54 rfl ?_
    refine z_put (q0 := 26) (k9 := 1) tyX5 b (kw_26 cy a rw S) rfl in_X5 tyX5_ok nmX5 (by decide) wf_X5_18 rfl rfl rfl rfl (Nat.le_of_ble_eq_true rfl) dX5_readChanged_55 (kwp_26_1 cy a rw S ((fi S.1 15) + 1)) ?_
    refine z_iconst (v := 0) b dX5_readChanged_58 (by decide) ?_
    exact z_iret (u := (ksi S 15 ((fi S.1 15) + 1))) b rfl dX5_readChanged_59 h rfl (by decide) (by decide)
  replace h := h.2
  have o7 := e1
  replace h := h ⟨o0, o1, o2, o3, o4, o5, o6, o7⟩
  refine z_tableOut (tgt := 134) b dX5_readChanged_1 (by omega) (by decide) ?_
  refine z_lv0 (lv' := [(0, .ref (a 26))]) [0] rfl ?_
  exact z_X5_readChanged_B134 hrw b _ h

def w_X5_readMake_B116 (cy : Nat → ClassId) (tE : Nat) (mc ms : Nat) (post : Int32 → KS → Prop) (S : KS) (nc : Nat) (ns : Nat) (x1 : Nat) (x2 : Int32) (x3 : Int32) : Prop :=
  ∃ (i23 : Nat) (f24 : Int64) (f25 : Value) (f26 : Nat) (f27 : Int32) (f28 : Int32), S.2.2.2[i23]? = some (x1, .inr (1, [.long f24, f25, .ref f26, .int f27, .int f28])) ∧ ∃ m30 m31 : Nat, (nc + m30 ≤ mc ∧ ns + m31 ≤ ms) ∧ w_X5_clause cy tE m30 m31 S x2 x3 (fun r33 S34 => ∃ q35 : Nat, r33 = some q35 ∧ ∃ m37 m38 : Nat, ((nc + m30) + m37 ≤ mc ∧ (ns + m31) + m38 ≤ ms) ∧ ∃ (i40 : Nat) (f41 : List Value), S34.2.2.2[i40]? = some (f26, .inr (0, f41)) ∧ w_Jx4a65c_add_9ea2d_X1 cy tE m37 m38 S34 f26 q35 (fun r43 S44 => (((nc + m30) + m37) ≤ mc ∧ ((ns + m31) + m38) ≤ ms) ∧ post 1 S44))

set_option maxHeartbeats 200000 in
set_option maxRecDepth 100000 in
theorem z_X5_readMake_B116 {p : Program} {l : Launch} {e : Env} {R : Room} {s : State} {m : MethodId} {args : Array Value} {below : List Frame} {meth : Method} {c : Code} {D : va_G} {cy : Nat → ClassId} {T0 tB tE : Nat} {A : Nat → Prop} {a : Nat → Nat} {rw : Nat → Option Nat} (hrw : ∀ i, i < 6 → rw i = some (a (12 + 2 * i))) {mc ms : Nat} {post : Int32 → KS → Prop} (b : Bz p R s m args meth c D cy T0 tB tE A 5 cX5_readMake RX5 (some .boolean) "readMake" 5 127 mc ms) (S : KS) (nc : Nat) (ns : Nat) (x1 : Nat) (x2 : Int32) (x3 : Int32) (h : w_X5_readMake_B116 cy tE mc ms post S nc ns x1 x2 x3) : Z p l e R s m args below meth c D A 5 (MQ below (QI D (U := KS) post (kw cy a rw) A) args s mc ms A) nc ns (kw cy a rw S) [(0, .ref (a 26)), (1, .ref x1), (2, .int x2), (3, .int x3)] 116 [] := by
  unfold w_X5_readMake_B116 at h
  refine z_aload_n b dX5_readMake_116 rfl rfl ?_
  obtain ⟨i23, f24, f25, f26, f27, f28, g29, h⟩ := h
  refine z_get (q0 := 47 + i23) (k9 := 2) (v := .ref f26) b (kw_dyn cy a rw S g29) rfl in_X0 (by decide) wf_X5_133 rfl dX5_readMake_117 ?_
  refine z_aload_n b dX5_readMake_120 rfl rfl ?_
  refine z_iload_n b dX5_readMake_121 rfl rfl ?_
  refine z_iload_n b dX5_readMake_122 rfl rfl ?_
  obtain ⟨m30, m31, g32, h⟩ := h
  refine z_callq b (z_runV (q0 := 26) (As := [.int x2, .int x3]) (st := [.ref f26]) b (k_X5_clause hrw S x2 x3 _ h) cf_X5_clause (kw_26 cy a rw S) rfl wm_X5_115 wi_X5_clause ws_X5_clause dX5_readMake_123 rfl (Nat.le_of_ble_eq_true rfl) ⟨by decide, by decide, g32.1, g32.2⟩) (fun r33 S34 h => ?_)
  obtain ⟨q35, g36, h⟩ := h
  subst g36
  obtain ⟨m37, m38, g39, h⟩ := h
  obtain ⟨i40, f41, g42, h⟩ := h
  refine z_calli b (z_runV (q0 := 47 + i40) (As := [.ref q35]) (st := []) b (k_Jx4a65c_add_9ea2d_X1 hrw S34 f26 q35 _ h) cf_Jx4a65c_add_9ea2d (kw_dyn cy a rw S34 g42) rfl wm_X5_119 wi_Jx4a65c_add_9ea2d ws_Jx4a65c_add_9ea2d dX5_readMake_126 rfl (Nat.le_of_ble_eq_true rfl) ⟨by decide, by decide, g39.1, g39.2⟩) (fun r43 S44 h => ?_)
  refine z_pop b dX5_readMake_129 rfl ?_
  refine z_iconst (v := 1) b dX5_readMake_130 (by decide) ?_
  obtain ⟨g45, h⟩ := h
  exact z_zret (u := S44) b rfl (by decide) dX5_readMake_131 h rfl g45.1 g45.2

def w_X5_readMake_B108 (cy : Nat → ClassId) (tE : Nat) (mc ms : Nat) (post : Int32 → KS → Prop) (S : KS) (nc : Nat) (ns : Nat) (x1 : Nat) (x2 : Int32) (x3 : Int32) (y0 : Int32) : Prop :=
  (nc ≤ mc ∧ ns ≤ ms) ∧ w_X5_readAmount cy tE S y0 (fun r47 S48 => ((r47.toInt ≠ 0 → w_X5_readMake_B116 cy tE mc ms post S48 nc ns x1 x2 x3) ∧ (r47.toInt = 0 → (nc ≤ mc ∧ ns ≤ ms) ∧ post 0 S48)))

set_option maxHeartbeats 200000 in
set_option maxRecDepth 100000 in
theorem z_X5_readMake_B108 {p : Program} {l : Launch} {e : Env} {R : Room} {s : State} {m : MethodId} {args : Array Value} {below : List Frame} {meth : Method} {c : Code} {D : va_G} {cy : Nat → ClassId} {T0 tB tE : Nat} {A : Nat → Prop} {a : Nat → Nat} {rw : Nat → Option Nat} (hrw : ∀ i, i < 6 → rw i = some (a (12 + 2 * i))) {mc ms : Nat} {post : Int32 → KS → Prop} (b : Bz p R s m args meth c D cy T0 tB tE A 5 cX5_readMake RX5 (some .boolean) "readMake" 5 127 mc ms) (S : KS) (nc : Nat) (ns : Nat) (x1 : Nat) (x2 : Int32) (x3 : Int32) (y0 : Int32) (h : w_X5_readMake_B108 cy tE mc ms post S nc ns x1 x2 x3 y0) : Z p l e R s m args below meth c D A 5 (MQ below (QI D (U := KS) post (kw cy a rw) A) args s mc ms A) nc ns (kw cy a rw S) [(0, .ref (a 26)), (1, .ref x1), (2, .int x2), (3, .int x3)] 108 [.int y0, .ref (a 26)] := by
  unfold w_X5_readMake_B108 at h
  obtain ⟨g46, h⟩ := h
  refine z_calli b (z_runV (q0 := 26) (As := [.int y0]) (st := []) b (k_X5_readAmount hrw S y0 _ h) cf_X5_readAmount (kw_26 cy a rw S) rfl wm_X5_140 wi_X5_readAmount ws_X5_readAmount dX5_readMake_108 rfl (Nat.le_of_ble_eq_true rfl) ⟨by decide, by decide, g46.1, g46.2⟩) (fun r47 S48 h => ?_)
  refine y_if_ne (tgt := 116) (xl := r47.toInt) b rfl dX5_readMake_111 (by decide) (fun c1 => ?_) (fun c1 => ?_)
  · replace h := h.1 c1
    exact z_X5_readMake_B116 hrw b _ _ _ _ _ _ h
  · replace h := h.2 c1
    refine z_iconst (v := 0) b dX5_readMake_114 (by decide) ?_
    obtain ⟨g49, h⟩ := h
    exact z_zret (u := S48) b rfl (by decide) dX5_readMake_115 h rfl g49.1 g49.2

def w_X5_readMake_B89 (cy : Nat → ClassId) (tE : Nat) (mc ms : Nat) (post : Int32 → KS → Prop) (S : KS) (nc : Nat) (ns : Nat) (x1 : Nat) (x2 : Int32) (x3 : Int32) (y0 : Int32) : Prop :=
  ((y0.toInt = 0 → w_X5_readMake_B116 cy tE mc ms post S nc ns x1 x2 x3) ∧ (y0.toInt ≠ 0 → ((x2.toInt = 14 → w_X5_readMake_B108 cy tE mc ms post S nc ns x1 x2 x3 0) ∧ (x2.toInt ≠ 14 → w_X5_readMake_B108 cy tE mc ms post S nc ns x1 x2 x3 1))))

set_option maxHeartbeats 200000 in
set_option maxRecDepth 100000 in
theorem z_X5_readMake_B89 {p : Program} {l : Launch} {e : Env} {R : Room} {s : State} {m : MethodId} {args : Array Value} {below : List Frame} {meth : Method} {c : Code} {D : va_G} {cy : Nat → ClassId} {T0 tB tE : Nat} {A : Nat → Prop} {a : Nat → Nat} {rw : Nat → Option Nat} (hrw : ∀ i, i < 6 → rw i = some (a (12 + 2 * i))) {mc ms : Nat} {post : Int32 → KS → Prop} (b : Bz p R s m args meth c D cy T0 tB tE A 5 cX5_readMake RX5 (some .boolean) "readMake" 5 127 mc ms) (S : KS) (nc : Nat) (ns : Nat) (x1 : Nat) (x2 : Int32) (x3 : Int32) (y0 : Int32) (h : w_X5_readMake_B89 cy tE mc ms post S nc ns x1 x2 x3 y0) : Z p l e R s m args below meth c D A 5 (MQ below (QI D (U := KS) post (kw cy a rw) A) args s mc ms A) nc ns (kw cy a rw S) [(0, .ref (a 26)), (1, .ref x1), (2, .int x2), (3, .int x3)] 89 [.int y0] := by
  unfold w_X5_readMake_B89 at h
  refine z_istore (lv' := [(4, .int y0), (0, .ref (a 26)), (1, .ref x1), (2, .int x2), (3, .int x3)]) b dX5_readMake_89 (by decide) rfl ?_
  refine z_iload b dX5_readMake_91 rfl ?_
  refine y_if_eq (tgt := 116) (xl := y0.toInt) b rfl dX5_readMake_93 (by decide) (fun c1 => ?_) (fun c1 => ?_)
  · replace h := h.1 c1
    refine z_lv0 (lv' := [(0, .ref (a 26)), (1, .ref x1), (2, .int x2), (3, .int x3)]) [1, 2, 3, 4] rfl ?_
    exact z_X5_readMake_B116 hrw b _ _ _ _ _ _ h
  · replace h := h.2 c1
    refine z_aload_n b dX5_readMake_96 rfl rfl ?_
    refine z_iload_n b dX5_readMake_97 rfl rfl ?_
    refine z_bipush (v := 14) b dX5_readMake_98 (by decide) ?_
    refine y_icmp_eq (tgt := 107) (xl := x2.toInt) (yl := 14) b rfl (by decide) dX5_readMake_100 (by decide) (fun c1 => ?_) (fun c1 => ?_)
    · replace h := h.1 c1
      refine z_iconst (v := 0) b dX5_readMake_107 (by decide) ?_
      refine z_lv0 (lv' := [(0, .ref (a 26)), (1, .ref x1), (2, .int x2), (3, .int x3)]) [1, 2, 3, 4] rfl ?_
      exact z_X5_readMake_B108 hrw b _ _ _ _ _ _ _ h
    · replace h := h.2 c1
      refine z_iconst (v := 1) b dX5_readMake_103 (by decide) ?_
      refine z_goto (tgt := 108) b dX5_readMake_104 (by decide) ?_
      refine z_lv0 (lv' := [(0, .ref (a 26)), (1, .ref x1), (2, .int x2), (3, .int x3)]) [1, 2, 3, 4] rfl ?_
      exact z_X5_readMake_B108 hrw b _ _ _ _ _ _ _ h

def w_X5_readMake_B84 (cy : Nat → ClassId) (tE : Nat) (mc ms : Nat) (post : Int32 → KS → Prop) (S : KS) (nc : Nat) (ns : Nat) (x1 : Nat) (x2 : Int32) (x3 : Int32) : Prop :=
  w_X5_readMake_B89 cy tE mc ms post S nc ns x1 x2 x3 1

set_option maxHeartbeats 200000 in
set_option maxRecDepth 100000 in
theorem z_X5_readMake_B84 {p : Program} {l : Launch} {e : Env} {R : Room} {s : State} {m : MethodId} {args : Array Value} {below : List Frame} {meth : Method} {c : Code} {D : va_G} {cy : Nat → ClassId} {T0 tB tE : Nat} {A : Nat → Prop} {a : Nat → Nat} {rw : Nat → Option Nat} (hrw : ∀ i, i < 6 → rw i = some (a (12 + 2 * i))) {mc ms : Nat} {post : Int32 → KS → Prop} (b : Bz p R s m args meth c D cy T0 tB tE A 5 cX5_readMake RX5 (some .boolean) "readMake" 5 127 mc ms) (S : KS) (nc : Nat) (ns : Nat) (x1 : Nat) (x2 : Int32) (x3 : Int32) (h : w_X5_readMake_B84 cy tE mc ms post S nc ns x1 x2 x3) : Z p l e R s m args below meth c D A 5 (MQ below (QI D (U := KS) post (kw cy a rw) A) args s mc ms A) nc ns (kw cy a rw S) [(0, .ref (a 26)), (1, .ref x1), (2, .int x2), (3, .int x3)] 84 [] := by
  unfold w_X5_readMake_B84 at h
  refine z_iconst (v := 1) b dX5_readMake_84 (by decide) ?_
  refine z_goto (tgt := 89) b dX5_readMake_85 (by decide) ?_
  exact z_X5_readMake_B89 hrw b _ _ _ _ _ _ _ h

def w_X5_readMake (cy : Nat → ClassId) (tE : Nat) (mc ms : Nat) (S : KS) (p0 : Nat) (post : Int32 → KS → Prop) : Prop :=
  (0 ≤ mc ∧ 0 ≤ ms) ∧ w_X5_kind cy tE S (fun r2 S3 => ((r2.toInt = 6 → ∃ (i4 : Nat) (f5 : Int64) (f6 : Value) (f7 : Nat) (f8 : Int32) (f9 : Int32), S3.2.2.2[i4]? = some (p0, .inr (1, [.long f5, f6, .ref f7, .int f8, .int f9])) ∧ (0 ≤ mc ∧ 0 ≤ ms) ∧ ∃ (i12 : Nat) (f13 : List Value), S3.2.2.2[i12]? = some (f7, .inr (0, f13)) ∧ w_Jx4a65c_size_8abf5 cy tE S3 f7 (fun r15 S16 => ((r15.toInt < 6 → (0 ≤ mc ∧ 0 ≤ ms) ∧ w_X5_kind cy tE (ksi (ksi S16 15 ((fi S16.1 15) + 1)) 16 0) (fun r18 S19 => (0 ≤ mc ∧ 0 ≤ ms) ∧ w_X5_readChanged cy tE S19 r18 (fun r21 S22 => ((r21.toInt ≠ (-1) → ((r18.toInt = 7 → w_X5_readMake_B84 cy tE mc ms post S22 0 0 p0 r18 r21) ∧ (r18.toInt ≠ 7 → ((r18.toInt = 8 → w_X5_readMake_B84 cy tE mc ms post S22 0 0 p0 r18 r21) ∧ (r18.toInt ≠ 8 → ((r18.toInt ≠ 14 → w_X5_readMake_B89 cy tE mc ms post S22 0 0 p0 r18 r21 0) ∧ (r18.toInt = 14 → w_X5_readMake_B84 cy tE mc ms post S22 0 0 p0 r18 r21))))))) ∧ (r21.toInt = (-1) → (0 ≤ mc ∧ 0 ≤ ms) ∧ post 0 S22))))) ∧ (6 ≤ r15.toInt → (0 ≤ mc ∧ 0 ≤ ms) ∧ w_X5_refuse cy tE S16 3 (fun r52 S53 => (r52 = 0 ∨ r52 = 1) ∧ (0 ≤ mc ∧ 0 ≤ ms) ∧ post r52 S53))))) ∧ (r2.toInt ≠ 6 → (0 ≤ mc ∧ 0 ≤ ms) ∧ w_X5_refuse cy tE S3 1 (fun r57 S58 => (r57 = 0 ∨ r57 = 1) ∧ (0 ≤ mc ∧ 0 ≤ ms) ∧ post r57 S58))))

set_option maxHeartbeats 200000 in
set_option maxRecDepth 100000 in
theorem k_X5_readMake {l : Launch} {D : va_G} {cy : Nat → ClassId} {T0 tB tE : Nat} {a : Nat → Nat} {rw : Nat → Option Nat} (hrw : ∀ i, i < 6 → rw i = some (a (12 + 2 * i))) {mc ms : Nat} (S : KS) (p0 : Nat) (post : Int32 → KS → Prop) (h : w_X5_readMake cy tE mc ms S p0 post) : Ct l D cy T0 tB tE yX5_readMake cX5_readMake 5 (some .boolean) 5 127 mc ms (kw cy a rw S) [.ref (a 26), .ref p0] (QI D (U := KS) post (kw cy a rw)) := by
  refine Ct.ofZ RX5 "readMake" [(0, .ref (a 26)), (1, .ref p0)] rfl rfl rfl rfl (Nat.le_of_ble_eq_true rfl) ?_
  intro p e R s m args below meth c A b
  unfold w_X5_readMake at h
  refine z_aload_n b dX5_readMake_0 rfl rfl ?_
  obtain ⟨g1, h⟩ := h
  refine z_calli b (z_runV (q0 := 26) (As := []) (st := []) b (k_X5_kind hrw S _ h) cf_X5_kind (kw_26 cy a rw S) rfl wm_X5_66 wi_X5_kind ws_X5_kind dX5_readMake_1 rfl (Nat.le_of_ble_eq_true rfl) ⟨by decide, by decide, g1.1, g1.2⟩) (fun r2 S3 h => ?_)
  refine z_bipush (v := 6) b dX5_readMake_4 (by decide) ?_
  refine y_icmp_eq (tgt := 15) (xl := r2.toInt) (yl := 6) b rfl (by decide) dX5_readMake_6 (by decide) (fun c1 => ?_) (fun c1 => ?_)
  · replace h := h.1 c1
    refine z_aload_n b dX5_readMake_15 rfl rfl ?_
    obtain ⟨i4, f5, f6, f7, f8, f9, g10, h⟩ := h
    refine z_get (q0 := 47 + i4) (k9 := 2) (v := .ref f7) b (kw_dyn cy a rw S3 g10) rfl in_X0 (by decide) wf_X5_133 rfl dX5_readMake_16 ?_
    obtain ⟨g11, h⟩ := h
    obtain ⟨i12, f13, g14, h⟩ := h
    refine z_calli b (z_runV (q0 := 47 + i12) (As := []) (st := []) b (k_Jx4a65c_size_8abf5 hrw S3 f7 _ h) cf_Jx4a65c_size_8abf5 (kw_dyn cy a rw S3 g14) rfl wm_X5_85 wi_Jx4a65c_size_8abf5 ws_Jx4a65c_size_8abf5 dX5_readMake_19 rfl (Nat.le_of_ble_eq_true rfl) ⟨by decide, by decide, g11.1, g11.2⟩) (fun r15 S16 h => ?_)
    refine z_bipush (v := 6) b dX5_readMake_22 (by decide) ?_
    refine y_icmp_lt (tgt := 33) (xl := r15.toInt) (yl := 6) b rfl (by decide) dX5_readMake_24 (by decide) (fun c1 => ?_) (fun c1 => ?_)
    · replace h := h.1 c1
      refine z_aload_n b dX5_readMake_33 rfl rfl ?_
      refine z_dup b dX5_readMake_34 rfl ?_
      refine z_get (q0 := 26) (k9 := 1) (v := .int (fi S16.1 15)) b (kw_26 cy a rw S16) rfl in_X5 (by decide) wf_X5_18 rfl dX5_readMake_35 ?_
      refine z_iconst (v := 1) b dX5_readMake_38 (by decide) ?_
      refine z_iadd b dX5_readMake_39 rfl ?_
      refine z_put (q0 := 26) (k9 := 1) tyX5 b (kw_26 cy a rw S16) rfl in_X5 tyX5_ok nmX5 (by decide) wf_X5_18 rfl rfl rfl rfl (Nat.le_of_ble_eq_true rfl) dX5_readMake_40 (kwp_26_1 cy a rw S16 ((fi S16.1 15) + 1)) ?_
      refine z_aload_n b dX5_readMake_43 rfl rfl ?_
      refine z_iconst (v := 0) b dX5_readMake_44 (by decide) ?_
      refine z_put (q0 := 26) (k9 := 3) tyX5 b (kw_26 cy a rw (ksi S16 15 ((fi S16.1 15) + 1))) rfl in_X5 tyX5_ok nmX5 (by decide) wf_X5_26 rfl rfl rfl rfl (Nat.le_of_ble_eq_true rfl) dX5_readMake_45 (kwp_26_3 cy a rw (ksi S16 15 ((fi S16.1 15) + 1)) 0) ?_
      refine z_aload_n b dX5_readMake_48 rfl rfl ?_
      obtain ⟨g17, h⟩ := h
      refine z_calli b (z_runV (q0 := 26) (As := []) (st := []) b (k_X5_kind hrw (ksi (ksi S16 15 ((fi S16.1 15) + 1)) 16 0) _ h) cf_X5_kind (kw_26 cy a rw (ksi (ksi S16 15 ((fi S16.1 15) + 1)) 16 0)) rfl wm_X5_66 wi_X5_kind ws_X5_kind dX5_readMake_49 rfl (Nat.le_of_ble_eq_true rfl) ⟨by decide, by decide, g17.1, g17.2⟩) (fun r18 S19 h => ?_)
      refine z_istore_n (lv' := [(2, .int r18), (0, .ref (a 26)), (1, .ref p0)]) b dX5_readMake_52 rfl (by decide) rfl ?_
      refine z_aload_n b dX5_readMake_53 rfl rfl ?_
      refine z_iload_n b dX5_readMake_54 rfl rfl ?_
      obtain ⟨g20, h⟩ := h
      refine z_calli b (z_runV (q0 := 26) (As := [.int r18]) (st := []) b (k_X5_readChanged hrw S19 r18 _ h) cf_X5_readChanged (kw_26 cy a rw S19) rfl wm_X5_136 wi_X5_readChanged ws_X5_readChanged dX5_readMake_55 rfl (Nat.le_of_ble_eq_true rfl) ⟨by decide, by decide, g20.1, g20.2⟩) (fun r21 S22 h => ?_)
      refine z_istore_n (lv' := [(3, .int r21), (2, .int r18), (0, .ref (a 26)), (1, .ref p0)]) b dX5_readMake_58 rfl (by decide) rfl ?_
      refine z_iload_n b dX5_readMake_59 rfl rfl ?_
      refine z_iconst (v := (-1)) b dX5_readMake_60 (by decide) ?_
      refine y_icmp_ne (tgt := 66) (xl := r21.toInt) (yl := (-1)) b rfl (by decide) dX5_readMake_61 (by decide) (fun c1 => ?_) (fun c1 => ?_)
      · replace h := h.1 c1
        refine z_iload_n b dX5_readMake_66 rfl rfl ?_
        refine z_bipush (v := 7) b dX5_readMake_67 (by decide) ?_
        refine y_icmp_eq (tgt := 84) (xl := r18.toInt) (yl := 7) b rfl (by decide) dX5_readMake_69 (by decide) (fun c1 => ?_) (fun c1 => ?_)
        · replace h := h.1 c1
          refine z_lv0 (lv' := [(0, .ref (a 26)), (1, .ref p0), (2, .int r18), (3, .int r21)]) [2, 3, 1, 0] rfl ?_
          exact z_X5_readMake_B84 hrw b _ _ _ _ _ _ h
        · replace h := h.2 c1
          refine z_iload_n b dX5_readMake_72 rfl rfl ?_
          refine z_bipush (v := 8) b dX5_readMake_73 (by decide) ?_
          refine y_icmp_eq (tgt := 84) (xl := r18.toInt) (yl := 8) b rfl (by decide) dX5_readMake_75 (by decide) (fun c1 => ?_) (fun c1 => ?_)
          · replace h := h.1 c1
            refine z_lv0 (lv' := [(0, .ref (a 26)), (1, .ref p0), (2, .int r18), (3, .int r21)]) [2, 3, 1, 0] rfl ?_
            exact z_X5_readMake_B84 hrw b _ _ _ _ _ _ h
          · replace h := h.2 c1
            refine z_iload_n b dX5_readMake_78 rfl rfl ?_
            refine z_bipush (v := 14) b dX5_readMake_79 (by decide) ?_
            refine y_icmp_ne (tgt := 88) (xl := r18.toInt) (yl := 14) b rfl (by decide) dX5_readMake_81 (by decide) (fun c1 => ?_) (fun c1 => ?_)
            · replace h := h.1 c1
              refine z_iconst (v := 0) b dX5_readMake_88 (by decide) ?_
              refine z_lv0 (lv' := [(0, .ref (a 26)), (1, .ref p0), (2, .int r18), (3, .int r21)]) [2, 3, 1, 0] rfl ?_
              exact z_X5_readMake_B89 hrw b _ _ _ _ _ _ _ h
            · replace h := h.2 c1
              refine z_lv0 (lv' := [(0, .ref (a 26)), (1, .ref p0), (2, .int r18), (3, .int r21)]) [2, 3, 1, 0] rfl ?_
              exact z_X5_readMake_B84 hrw b _ _ _ _ _ _ h
      · replace h := h.2 c1
        refine z_iconst (v := 0) b dX5_readMake_64 (by decide) ?_
        obtain ⟨g50, h⟩ := h
        exact z_zret (u := S22) b rfl (by decide) dX5_readMake_65 h rfl g50.1 g50.2
    · replace h := h.2 c1
      refine z_aload_n b dX5_readMake_27 rfl rfl ?_
      refine z_iconst (v := 3) b dX5_readMake_28 (by decide) ?_
      obtain ⟨g51, h⟩ := h
      refine z_calli b (z_runV (q0 := 26) (As := [.int 3]) (st := []) b (k_X5_refuse hrw S16 3 _ h) cf_X5_refuse (kw_26 cy a rw S16) rfl wm_X5_70 wi_X5_refuse ws_X5_refuse dX5_readMake_29 rfl (Nat.le_of_ble_eq_true rfl) ⟨by decide, by decide, g51.1, g51.2⟩) (fun r52 S53 h => ?_)
      obtain ⟨g54, h⟩ := h
      obtain ⟨g55, h⟩ := h
      exact z_zret (u := S53) b rfl (z_bool g54) dX5_readMake_32 h rfl g55.1 g55.2
  · replace h := h.2 c1
    refine z_aload_n b dX5_readMake_9 rfl rfl ?_
    refine z_iconst (v := 1) b dX5_readMake_10 (by decide) ?_
    obtain ⟨g56, h⟩ := h
    refine z_calli b (z_runV (q0 := 26) (As := [.int 1]) (st := []) b (k_X5_refuse hrw S3 1 _ h) cf_X5_refuse (kw_26 cy a rw S3) rfl wm_X5_70 wi_X5_refuse ws_X5_refuse dX5_readMake_11 rfl (Nat.le_of_ble_eq_true rfl) ⟨by decide, by decide, g56.1, g56.2⟩) (fun r57 S58 h => ?_)
    obtain ⟨g59, h⟩ := h
    obtain ⟨g60, h⟩ := h
    exact z_zret (u := S58) b rfl (z_bool g59) dX5_readMake_14 h rfl g60.1 g60.2

def w_Jx4a65c_add_72be8_X0_B11 (cy : Nat → ClassId) (tE : Nat) (mc ms : Nat) (post : KS → Prop) (S : KS) (nc : Nat) (ns : Nat) (x0 : Nat) (x1 : Nat) (x2 : Option Nat) (x3 : Int32) : Prop :=
  ∃ q1 : Nat, x2 = some q1 ∧ ∃ (i3 n4 : Nat) (f5 : Nat → Option Nat), S.2.2.2[i3]? = some (q1, .inl (cy 5, n4, .inr (.inr (.inr (.inr f5))))) ∧ (0 ≤ x3.toInt ∧ x3.toInt < (n4 : Int)) ∧ ∃ (i8 : Nat) (f9 : List Value), S.2.2.2[i8]? = some (x1, .inr (1, f9)) ∧ ∃ (i11 : Nat) (f12 : Int32) (f13 : Value) (f14 : Int32), (S.2.2.2.set i3 (q1, .inl (cy 5, n4, .inr (.inr (.inr (.inr (va_up f5 x3.toNatClampNeg (some x1))))))))[i11]? = some (x0, .inr (0, [.int f12, f13, .int f14])) ∧ (nc ≤ mc ∧ ns ≤ ms) ∧ post (ksL (ksL S (S.2.2.2.set i3 (q1, .inl (cy 5, n4, .inr (.inr (.inr (.inr (va_up f5 x3.toNatClampNeg (some x1))))))))) ((S.2.2.2.set i3 (q1, .inl (cy 5, n4, .inr (.inr (.inr (.inr (va_up f5 x3.toNatClampNeg (some x1)))))))).set i11 (x0, .inr (0, [.int f12, f13, .int (x3 + 1)]))))

set_option maxHeartbeats 200000 in
set_option maxRecDepth 100000 in
theorem z_Jx4a65c_add_72be8_X0_B11 {p : Program} {l : Launch} {e : Env} {R : Room} {s : State} {m : MethodId} {args : Array Value} {below : List Frame} {meth : Method} {c : Code} {D : va_G} {cy : Nat → ClassId} {T0 tB tE : Nat} {A : Nat → Prop} {a : Nat → Nat} {rw : Nat → Option Nat} (hrw : ∀ i, i < 6 → rw i = some (a (12 + 2 * i))) {mc ms : Nat} {post : KS → Prop} (b : Bz p R s m args meth c D cy T0 tB tE A 4 cJx4a65c_add_72be8 RJx4a65c none "add" 3 83 mc ms) (S : KS) (nc : Nat) (ns : Nat) (x0 : Nat) (x1 : Nat) (x2 : Option Nat) (x3 : Int32) (h : w_Jx4a65c_add_72be8_X0_B11 cy tE mc ms post S nc ns x0 x1 x2 x3) : Z p l e R s m args below meth c D A 4 (MQ below (QV D (U := KS) post (kw cy a rw) A) args s mc ms A) nc ns (kw cy a rw S) [(0, .ref x0), (1, .ref x1), (2, va_rf x2), (3, .int x3)] 11 [] := by
  unfold w_Jx4a65c_add_72be8_X0_B11 at h
  refine z_aload_nQ b dJx4a65c_add_72be8_11 rfl rfl ?_
  refine z_iload_n b dJx4a65c_add_72be8_12 rfl rfl ?_
  refine z_aload_n b dJx4a65c_add_72be8_13 rfl rfl ?_
  obtain ⟨q1, g2, h⟩ := h
  subst g2
  obtain ⟨i3, n4, f5, g6, h⟩ := h
  obtain ⟨g7, h⟩ := h
  obtain ⟨i8, f9, g10, h⟩ := h
  refine y_aastO (q0 := 47 + i3) (t0 := 5) (qk := 47 + i8) (ci := 1) (j := x3.toNatClampNeg) b (kw_dyn cy a rw S g6) rfl (kw_dyn cy a rw S g10) rfl wca_X0 (zx_r g7.1 g7.2) dJx4a65c_add_72be8_14 (kw_dset cy a rw S i3 (q1, .inl (cy 5, n4, .inr (.inr (.inr (.inr (va_up f5 x3.toNatClampNeg (some x1)))))))) ?_
  refine z_aload_n b dJx4a65c_add_72be8_15 rfl rfl ?_
  refine z_iload_n b dJx4a65c_add_72be8_16 rfl rfl ?_
  refine z_iconst (v := 1) b dJx4a65c_add_72be8_17 (by decide) ?_
  refine z_iadd b dJx4a65c_add_72be8_18 rfl ?_
  obtain ⟨i11, f12, f13, f14, g15, h⟩ := h
  refine z_put (q0 := 47 + i11) (k9 := 2) tyJx4a65c b (kw_dyn cy a rw (ksL S (S.2.2.2.set i3 (q1, .inl (cy 5, n4, .inr (.inr (.inr (.inr (va_up f5 x3.toNatClampNeg (some x1))))))))) g15) rfl in_Jx4a65c tyJx4a65c_ok nmJx4a65c (by decide) wf_Jx4a65c_48 rfl rfl rfl rfl (Nat.le_of_ble_eq_true rfl) dJx4a65c_add_72be8_19 (kw_dset cy a rw (ksL S (S.2.2.2.set i3 (q1, .inl (cy 5, n4, .inr (.inr (.inr (.inr (va_up f5 x3.toNatClampNeg (some x1))))))))) i11 (x0, .inr (0, [.int f12, f13, .int (x3 + 1)]))) ?_
  obtain ⟨g16, h⟩ := h
  exact z_vret (u := (ksL (ksL S (S.2.2.2.set i3 (q1, .inl (cy 5, n4, .inr (.inr (.inr (.inr (va_up f5 x3.toNatClampNeg (some x1))))))))) ((S.2.2.2.set i3 (q1, .inl (cy 5, n4, .inr (.inr (.inr (.inr (va_up f5 x3.toNatClampNeg (some x1)))))))).set i11 (x0, .inr (0, [.int f12, f13, .int (x3 + 1)]))))) b rfl dJx4a65c_add_72be8_22 h rfl g16.1 g16.2

def w_Jx4a65c_add_72be8_X0 (cy : Nat → ClassId) (tE : Nat) (mc ms : Nat) (S : KS) (p9 : Nat) (p0 : Nat) (p1 : Nat) (p2 : Int32) (post : KS → Prop) : Prop :=
  ((p1 = tE ∧ ((p2.toInt ≠ 0 → w_Jx4a65c_add_72be8_X0_B11 cy tE mc ms post S 0 0 p9 p0 (some p1) p2) ∧ (p2.toInt = 0 → ∃ m17 m18 : Nat, (0 + m17 ≤ mc ∧ 0 + m18 ≤ ms) ∧ ∃ (i20 : Nat) (f21 : List Value), S.2.2.2[i20]? = some (p9, .inr (0, f21)) ∧ w_Jx4a65c_grow_d5877 cy tE m17 m18 S p9 (fun r23 S24 => w_Jx4a65c_add_72be8_X0_B11 cy tE mc ms post S24 (0 + m17) (0 + m18) p9 p0 r23 p2)))) ∨ (∃ (i25 n26 : Nat) (f27 : Nat → Option Nat), S.2.2.2[i25]? = some (p1, .inl (cy 5, n26, .inr (.inr (.inr (.inr f27))))) ∧ ((p2.toInt ≠ (Int32.ofNat n26).toInt → w_Jx4a65c_add_72be8_X0_B11 cy tE mc ms post S 0 0 p9 p0 (some p1) p2) ∧ (p2.toInt = (Int32.ofNat n26).toInt → ∃ m29 m30 : Nat, (0 + m29 ≤ mc ∧ 0 + m30 ≤ ms) ∧ ∃ (i32 : Nat) (f33 : List Value), S.2.2.2[i32]? = some (p9, .inr (0, f33)) ∧ w_Jx4a65c_grow_d5877 cy tE m29 m30 S p9 (fun r35 S36 => w_Jx4a65c_add_72be8_X0_B11 cy tE mc ms post S36 (0 + m29) (0 + m30) p9 p0 r35 p2)))))

set_option maxHeartbeats 200000 in
set_option maxRecDepth 100000 in
theorem k_Jx4a65c_add_72be8_X0 {l : Launch} {D : va_G} {cy : Nat → ClassId} {T0 tB tE : Nat} {a : Nat → Nat} {rw : Nat → Option Nat} (hrw : ∀ i, i < 6 → rw i = some (a (12 + 2 * i))) {mc ms : Nat} (S : KS) (p9 : Nat) (p0 : Nat) (p1 : Nat) (p2 : Int32) (post : KS → Prop) (h : w_Jx4a65c_add_72be8_X0 cy tE mc ms S p9 p0 p1 p2 post) : Ct l D cy T0 tB tE yJx4a65c_add_72be8 cJx4a65c_add_72be8 4 none 3 83 mc ms (kw cy a rw S) [.ref p9, .ref p0, .ref p1, .int p2] (QV D (U := KS) post (kw cy a rw)) := by
  refine Ct.ofZ RJx4a65c "add" [(0, .ref p9), (1, .ref p0), (2, .ref p1), (3, .int p2)] rfl rfl rfl rfl (Nat.le_of_ble_eq_true rfl) ?_
  intro p e R s m args below meth c A b
  unfold w_Jx4a65c_add_72be8_X0 at h
  refine z_iload_n b dJx4a65c_add_72be8_0 rfl rfl ?_
  refine z_aload_n b dJx4a65c_add_72be8_1 rfl rfl ?_
  rcases h with ⟨e1, h⟩ | h
  · refine z_elen (t := p1) b e1 dJx4a65c_add_72be8_2 ?_
    refine y_icmp_ne (tgt := 11) (xl := p2.toInt) (yl := 0) b rfl (by decide) dJx4a65c_add_72be8_3 (by decide) (fun c1 => ?_) (fun c1 => ?_)
    · replace h := h.1 c1
      exact z_Jx4a65c_add_72be8_X0_B11 hrw b _ _ _ _ _ _ _ h
    · replace h := h.2 c1
      refine z_aload_n b dJx4a65c_add_72be8_6 rfl rfl ?_
      obtain ⟨m17, m18, g19, h⟩ := h
      obtain ⟨i20, f21, g22, h⟩ := h
      refine z_callq b (z_runV (q0 := 47 + i20) (As := []) (st := []) b (k_Jx4a65c_grow_d5877 hrw S p9 _ h) cf_Jx4a65c_grow_d5877 (kw_dyn cy a rw S g22) rfl wm_Jx4a65c_129 wi_Jx4a65c_grow_d5877 ws_Jx4a65c_grow_d5877 dJx4a65c_add_72be8_7 rfl (Nat.le_of_ble_eq_true rfl) ⟨by decide, by decide, g19.1, g19.2⟩) (fun r23 S24 h => ?_)
      refine z_astore_nQ (lv' := [(2, va_rf r23), (0, .ref p9), (1, .ref p0), (3, .int p2)]) b dJx4a65c_add_72be8_10 rfl (by decide) rfl ?_
      refine z_lv0 (lv' := [(0, .ref p9), (1, .ref p0), (2, va_rf r23), (3, .int p2)]) [1, 2, 0, 3] rfl ?_
      exact z_Jx4a65c_add_72be8_X0_B11 hrw b _ _ _ _ _ _ _ h
  · obtain ⟨i25, n26, f27, g28, h⟩ := h
    refine z_alen (q0 := 47 + i25) (t0 := 5) (v := Int32.ofNat n26) b (kw_dyn cy a rw S g28) rfl rfl dJx4a65c_add_72be8_2 ?_
    refine y_icmp_ne (tgt := 11) (xl := p2.toInt) (yl := (Int32.ofNat n26).toInt) b rfl rfl dJx4a65c_add_72be8_3 (by decide) (fun c1 => ?_) (fun c1 => ?_)
    · replace h := h.1 c1
      exact z_Jx4a65c_add_72be8_X0_B11 hrw b _ _ _ _ _ _ _ h
    · replace h := h.2 c1
      refine z_aload_n b dJx4a65c_add_72be8_6 rfl rfl ?_
      obtain ⟨m29, m30, g31, h⟩ := h
      obtain ⟨i32, f33, g34, h⟩ := h
      refine z_callq b (z_runV (q0 := 47 + i32) (As := []) (st := []) b (k_Jx4a65c_grow_d5877 hrw S p9 _ h) cf_Jx4a65c_grow_d5877 (kw_dyn cy a rw S g34) rfl wm_Jx4a65c_129 wi_Jx4a65c_grow_d5877 ws_Jx4a65c_grow_d5877 dJx4a65c_add_72be8_7 rfl (Nat.le_of_ble_eq_true rfl) ⟨by decide, by decide, g31.1, g31.2⟩) (fun r35 S36 h => ?_)
      refine z_astore_nQ (lv' := [(2, va_rf r35), (0, .ref p9), (1, .ref p0), (3, .int p2)]) b dJx4a65c_add_72be8_10 rfl (by decide) rfl ?_
      refine z_lv0 (lv' := [(0, .ref p9), (1, .ref p0), (2, va_rf r35), (3, .int p2)]) [1, 2, 0, 3] rfl ?_
      exact z_Jx4a65c_add_72be8_X0_B11 hrw b _ _ _ _ _ _ _ h

def w_Jx4a65c_add_9ea2d_X0 (cy : Nat → ClassId) (tE : Nat) (mc ms : Nat) (S : KS) (p9 : Nat) (p0 : Nat) (post : Int32 → KS → Prop) : Prop :=
  ∃ (i1 : Nat) (f2 : Int32) (f3 : Value) (f4 : Int32), S.2.2.2[i1]? = some (p9, .inr (0, [.int f2, f3, .int f4])) ∧ ∃ (i6 : Nat) (f7 : Int32) (f8 : Value) (f9 : Int32), S.2.2.2[i6]? = some (p9, .inr (0, [.int f7, f8, .int f9])) ∧ ∃ (i11 : Nat) (f12 : Int32) (f13 : Nat) (f14 : Int32), (S.2.2.2.set i6 (p9, .inr (0, [.int (f2 + 1), f8, .int f9])))[i11]? = some (p9, .inr (0, [.int f12, .ref f13, .int f14])) ∧ ∃ (i16 : Nat) (f17 : Int32) (f18 : Value) (f19 : Int32), (S.2.2.2.set i6 (p9, .inr (0, [.int (f2 + 1), f8, .int f9])))[i16]? = some (p9, .inr (0, [.int f17, f18, .int f19])) ∧ ∃ m21 m22 : Nat, (0 + m21 ≤ mc ∧ 0 + m22 ≤ ms) ∧ ∃ (i24 : Nat) (f25 : List Value), (S.2.2.2.set i6 (p9, .inr (0, [.int (f2 + 1), f8, .int f9])))[i24]? = some (p9, .inr (0, f25)) ∧ w_Jx4a65c_add_72be8_X0 cy tE m21 m22 (ksL S (S.2.2.2.set i6 (p9, .inr (0, [.int (f2 + 1), f8, .int f9])))) p9 p0 f13 f19 (fun S28 => ((0 + m21) ≤ mc ∧ (0 + m22) ≤ ms) ∧ post 1 S28)

set_option maxHeartbeats 200000 in
set_option maxRecDepth 100000 in
theorem k_Jx4a65c_add_9ea2d_X0 {l : Launch} {D : va_G} {cy : Nat → ClassId} {T0 tB tE : Nat} {a : Nat → Nat} {rw : Nat → Option Nat} (hrw : ∀ i, i < 6 → rw i = some (a (12 + 2 * i))) {mc ms : Nat} (S : KS) (p9 : Nat) (p0 : Nat) (post : Int32 → KS → Prop) (h : w_Jx4a65c_add_9ea2d_X0 cy tE mc ms S p9 p0 post) : Ct l D cy T0 tB tE yJx4a65c_add_9ea2d cJx4a65c_add_9ea2d 2 (some .boolean) 4 106 mc ms (kw cy a rw S) [.ref p9, .ref p0] (QI D (U := KS) post (kw cy a rw)) := by
  refine Ct.ofZ RJx4a65c "add" [(0, .ref p9), (1, .ref p0)] rfl rfl rfl rfl (Nat.le_of_ble_eq_true rfl) ?_
  intro p e R s m args below meth c A b
  unfold w_Jx4a65c_add_9ea2d_X0 at h
  refine z_aload_n b dJx4a65c_add_9ea2d_0 rfl rfl ?_
  refine z_dup b dJx4a65c_add_9ea2d_1 rfl ?_
  obtain ⟨i1, f2, f3, f4, g5, h⟩ := h
  refine z_getS (q0 := 47 + i1) (k9 := 0) (v := .int f2) b (kw_dyn cy a rw S g5) rfl in_Jx4a65c (by decide) wf_Jx4a65c_63 wsf_mod rfl dJx4a65c_add_9ea2d_2 ?_
  refine z_iconst (v := 1) b dJx4a65c_add_9ea2d_5 (by decide) ?_
  refine z_iadd b dJx4a65c_add_9ea2d_6 rfl ?_
  obtain ⟨i6, f7, f8, f9, g10, h⟩ := h
  refine z_putS (q0 := 47 + i6) (k9 := 0) tyJx4a65c b (kw_dyn cy a rw S g10) rfl in_Jx4a65c tyJx4a65c_ok nmJx4a65c (by decide) wf_Jx4a65c_63 wsf_mod rfl rfl rfl rfl (Nat.le_of_ble_eq_true rfl) dJx4a65c_add_9ea2d_7 (kw_dset cy a rw S i6 (p9, .inr (0, [.int (f2 + 1), f8, .int f9]))) ?_
  refine z_aload_n b dJx4a65c_add_9ea2d_10 rfl rfl ?_
  refine z_aload_n b dJx4a65c_add_9ea2d_11 rfl rfl ?_
  refine z_aload_n b dJx4a65c_add_9ea2d_12 rfl rfl ?_
  obtain ⟨i11, f12, f13, f14, g15, h⟩ := h
  refine z_get (q0 := 47 + i11) (k9 := 1) (v := .ref f13) b (kw_dyn cy a rw (ksL S (S.2.2.2.set i6 (p9, .inr (0, [.int (f2 + 1), f8, .int f9])))) g15) rfl in_Jx4a65c (by decide) wf_Jx4a65c_9 rfl dJx4a65c_add_9ea2d_13 ?_
  refine z_aload_n b dJx4a65c_add_9ea2d_16 rfl rfl ?_
  obtain ⟨i16, f17, f18, f19, g20, h⟩ := h
  refine z_get (q0 := 47 + i16) (k9 := 2) (v := .int f19) b (kw_dyn cy a rw (ksL S (S.2.2.2.set i6 (p9, .inr (0, [.int (f2 + 1), f8, .int f9])))) g20) rfl in_Jx4a65c (by decide) wf_Jx4a65c_48 rfl dJx4a65c_add_9ea2d_17 ?_
  obtain ⟨m21, m22, g23, h⟩ := h
  obtain ⟨i24, f25, g26, h⟩ := h
  refine z_callv b (z_runV (q0 := 47 + i24) (As := [.ref p0, .ref f13, .int f19]) (st := []) b (k_Jx4a65c_add_72be8_X0 hrw (ksL S (S.2.2.2.set i6 (p9, .inr (0, [.int (f2 + 1), f8, .int f9])))) p9 p0 f13 f19 _ h) cf_Jx4a65c_add_72be8 (kw_dyn cy a rw (ksL S (S.2.2.2.set i6 (p9, .inr (0, [.int (f2 + 1), f8, .int f9])))) g26) rfl wm_Jx4a65c_131 wi_Jx4a65c_add_72be8 ws_Jx4a65c_add_72be8 dJx4a65c_add_9ea2d_20 rfl (Nat.le_of_ble_eq_true rfl) ⟨by decide, by decide, g23.1, g23.2⟩) (fun S28 h => ?_)
  refine z_iconst (v := 1) b dJx4a65c_add_9ea2d_23 (by decide) ?_
  obtain ⟨g29, h⟩ := h
  exact z_zret (u := S28) b rfl (by decide) dJx4a65c_add_9ea2d_24 h rfl g29.1 g29.2

def w_X5_readAct_B182 (cy : Nat → ClassId) (tE : Nat) (mc ms : Nat) (post : Int32 → KS → Prop) (k93 : KS → Nat → Nat → Nat → Int32 → Prop) (k188 : KS → Nat → Nat → Nat → Prop) (S : KS) (nc : Nat) (ns : Nat) (x1 : Nat) (x2 : Int32) : Prop :=
  k93 S nc ns x1 (x2 + 1)

set_option maxHeartbeats 200000 in
set_option maxRecDepth 100000 in
theorem z_X5_readAct_B182 {p : Program} {l : Launch} {e : Env} {R : Room} {s : State} {m : MethodId} {args : Array Value} {below : List Frame} {meth : Method} {c : Code} {D : va_G} {cy : Nat → ClassId} {T0 tB tE : Nat} {A : Nat → Prop} {a : Nat → Nat} {rw : Nat → Option Nat} (hrw : ∀ i, i < 6 → rw i = some (a (12 + 2 * i))) {mc ms : Nat} {post : Int32 → KS → Prop} {k93 : KS → Nat → Nat → Nat → Int32 → Prop} {k188 : KS → Nat → Nat → Nat → Prop} (b : Bz p R s m args meth c D cy T0 tB tE A 3 cX5_readAct RX5 (some .boolean) "readAct" 36 825 mc ms) (hk93 : ∀ (S : KS) (nc : Nat) (ns : Nat) (x1 : Nat) (x2 : Int32), k93 S nc ns x1 x2 → Z p l e R s m args below meth c D A 3 (MQ below (QI D (U := KS) post (kw cy a rw) A) args s mc ms A) nc ns (kw cy a rw S) [(0, .ref (a 26)), (1, .ref x1), (2, .int x2)] 93 []) (hk188 : ∀ (S : KS) (nc : Nat) (ns : Nat) (x1 : Nat), k188 S nc ns x1 → Z p l e R s m args below meth c D A 3 (MQ below (QI D (U := KS) post (kw cy a rw) A) args s mc ms A) nc ns (kw cy a rw S) [(0, .ref (a 26)), (1, .ref x1)] 188 []) (S : KS) (nc : Nat) (ns : Nat) (x1 : Nat) (x2 : Int32) (h : w_X5_readAct_B182 cy tE mc ms post k93 k188 S nc ns x1 x2) : Z p l e R s m args below meth c D A 3 (MQ below (QI D (U := KS) post (kw cy a rw) A) args s mc ms A) nc ns (kw cy a rw S) [(0, .ref (a 26)), (1, .ref x1), (2, .int x2)] 182 [] := by
  unfold w_X5_readAct_B182 at h
  refine z_iinc (k9 := 2) (v := (x2 + 1)) (lv' := [(2, .int (x2 + 1)), (0, .ref (a 26)), (1, .ref x1)]) b dX5_readAct_182 rfl rfl (by decide) rfl ?_
  refine z_goto (tgt := 93) b dX5_readAct_185 (by decide) ?_
  refine z_lv0 (lv' := [(0, .ref (a 26)), (1, .ref x1), (2, .int (x2 + 1))]) [1, 2, 0] rfl ?_
  exact hk93 _ _ _ _ _ h

def w_X5_readAct_F93 (cy : Nat → ClassId) (tE : Nat) (mc ms : Nat) (post : Int32 → KS → Prop) (k188 : KS → Nat → Nat → Nat → Prop) (k93 : KS → Nat → Nat → Nat → Int32 → Prop) (S : KS) (nc : Nat) (ns : Nat) (x1 : Nat) (x2 : Int32) : Prop :=
  ((10 < x2.toInt → k188 S nc ns x1) ∧ (x2.toInt ≤ 10 → (nc ≤ mc ∧ ns ≤ ms) ∧ w_X5_kind cy tE S (fun r31 S32 => ((r31.toInt = 23 → k188 S32 nc ns x1) ∧ (r31.toInt ≠ 23 → (nc ≤ mc ∧ ns ≤ ms) ∧ w_X5_kind cy tE S32 (fun r34 S35 => ((r34.toInt = 5 → ∃ (i36 : Nat) (f37 : Int64) (f38 : Nat) (f39 : Value) (f40 : Int32) (f41 : Int32), S35.2.2.2[i36]? = some (x1, .inr (1, [.long f37, .ref f38, f39, .int f40, .int f41])) ∧ (nc ≤ mc ∧ ns ≤ ms) ∧ ∃ (i44 : Nat) (f45 : List Value), S35.2.2.2[i44]? = some (f38, .inr (0, f45)) ∧ w_Jx4a65c_size_8abf5 cy tE S35 f38 (fun r47 S48 => ((r47.toInt < 4 → (nc ≤ mc ∧ ns ≤ ms) ∧ w_X5_readEither cy tE (ksi (ksi S48 15 ((fi S48.1 15) + 1)) 16 0) 0 (fun r50 S51 => ((r50.toInt ≠ 0 → ∃ (i52 : Nat) (f53 : Int64) (f54 : Nat) (f55 : Value) (f56 : Int32) (f57 : Int32), S51.2.2.2[i52]? = some (x1, .inr (1, [.long f53, .ref f54, f55, .int f56, .int f57])) ∧ ∃ m59 m60 : Nat, (nc + m59 ≤ mc ∧ ns + m60 ≤ ms) ∧ w_X5_clause cy tE m59 m60 S51 5 0 (fun r62 S63 => ∃ q64 : Nat, r62 = some q64 ∧ ∃ m66 m67 : Nat, ((nc + m59) + m66 ≤ mc ∧ (ns + m60) + m67 ≤ ms) ∧ ∃ (i69 : Nat) (f70 : List Value), S63.2.2.2[i69]? = some (f54, .inr (0, f70)) ∧ w_Jx4a65c_add_9ea2d_X1 cy tE m66 m67 S63 f54 q64 (fun r72 S73 => w_X5_readAct_B182 cy tE mc ms post k93 k188 S73 ((nc + m59) + m66) ((ns + m60) + m67) x1 x2))) ∧ (r50.toInt = 0 → (nc ≤ mc ∧ ns ≤ ms) ∧ post 0 S51)))) ∧ (4 ≤ r47.toInt → (nc ≤ mc ∧ ns ≤ ms) ∧ w_X5_refuse cy tE S48 3 (fun r76 S77 => (r76 = 0 ∨ r76 = 1) ∧ (nc ≤ mc ∧ ns ≤ ms) ∧ post r76 S77))))) ∧ (r34.toInt ≠ 5 → ∃ m80 m81 : Nat, (nc + m80 ≤ mc ∧ ns + m81 ≤ ms) ∧ w_X5_readMake cy tE m80 m81 S35 x1 (fun r83 S84 => ((r83.toInt ≠ 0 → w_X5_readAct_B182 cy tE mc ms post k93 k188 S84 (nc + m80) (ns + m81) x1 x2) ∧ (r83.toInt = 0 → ((nc + m80) ≤ mc ∧ (ns + m81) ≤ ms) ∧ post 0 S84)))))))))))

set_option maxHeartbeats 200000 in
set_option maxRecDepth 100000 in
theorem z_X5_readAct_F93 {p : Program} {l : Launch} {e : Env} {R : Room} {s : State} {m : MethodId} {args : Array Value} {below : List Frame} {meth : Method} {c : Code} {D : va_G} {cy : Nat → ClassId} {T0 tB tE : Nat} {A : Nat → Prop} {a : Nat → Nat} {rw : Nat → Option Nat} (hrw : ∀ i, i < 6 → rw i = some (a (12 + 2 * i))) {mc ms : Nat} {post : Int32 → KS → Prop} {k188 : KS → Nat → Nat → Nat → Prop} {k93 : KS → Nat → Nat → Nat → Int32 → Prop} (b : Bz p R s m args meth c D cy T0 tB tE A 3 cX5_readAct RX5 (some .boolean) "readAct" 36 825 mc ms) (hk188 : ∀ (S : KS) (nc : Nat) (ns : Nat) (x1 : Nat), k188 S nc ns x1 → Z p l e R s m args below meth c D A 3 (MQ below (QI D (U := KS) post (kw cy a rw) A) args s mc ms A) nc ns (kw cy a rw S) [(0, .ref (a 26)), (1, .ref x1)] 188 []) (hk93 : ∀ (S : KS) (nc : Nat) (ns : Nat) (x1 : Nat) (x2 : Int32), k93 S nc ns x1 x2 → Z p l e R s m args below meth c D A 3 (MQ below (QI D (U := KS) post (kw cy a rw) A) args s mc ms A) nc ns (kw cy a rw S) [(0, .ref (a 26)), (1, .ref x1), (2, .int x2)] 93 []) (S : KS) (nc : Nat) (ns : Nat) (x1 : Nat) (x2 : Int32) (h : w_X5_readAct_F93 cy tE mc ms post k188 k93 S nc ns x1 x2) : Z p l e R s m args below meth c D A 3 (MQ below (QI D (U := KS) post (kw cy a rw) A) args s mc ms A) nc ns (kw cy a rw S) [(0, .ref (a 26)), (1, .ref x1), (2, .int x2)] 93 [] := by
  unfold w_X5_readAct_F93 at h
  refine z_iload_n b dX5_readAct_93 rfl rfl ?_
  refine z_bipush (v := 10) b dX5_readAct_94 (by decide) ?_
  refine y_icmp_gt (tgt := 188) (xl := x2.toInt) (yl := 10) b rfl (by decide) dX5_readAct_96 (by decide) (fun c1 => ?_) (fun c1 => ?_)
  · replace h := h.1 c1
    refine z_lv0 (lv' := [(0, .ref (a 26)), (1, .ref x1)]) [0, 1] rfl ?_
    exact hk188 _ _ _ _ h
  · replace h := h.2 c1
    refine z_aload_n b dX5_readAct_99 rfl rfl ?_
    obtain ⟨g30, h⟩ := h
    refine z_calli b (z_runV (q0 := 26) (As := []) (st := []) b (k_X5_kind hrw S _ h) cf_X5_kind (kw_26 cy a rw S) rfl wm_X5_66 wi_X5_kind ws_X5_kind dX5_readAct_100 rfl (Nat.le_of_ble_eq_true rfl) ⟨by decide, by decide, g30.1, g30.2⟩) (fun r31 S32 h => ?_)
    refine z_bipush (v := 23) b dX5_readAct_103 (by decide) ?_
    refine y_icmp_eq (tgt := 188) (xl := r31.toInt) (yl := 23) b rfl (by decide) dX5_readAct_105 (by decide) (fun c1 => ?_) (fun c1 => ?_)
    · replace h := h.1 c1
      refine z_lv0 (lv' := [(0, .ref (a 26)), (1, .ref x1)]) [0, 1] rfl ?_
      exact hk188 _ _ _ _ h
    · replace h := h.2 c1
      refine z_aload_n b dX5_readAct_108 rfl rfl ?_
      obtain ⟨g33, h⟩ := h
      refine z_calli b (z_runV (q0 := 26) (As := []) (st := []) b (k_X5_kind hrw S32 _ h) cf_X5_kind (kw_26 cy a rw S32) rfl wm_X5_66 wi_X5_kind ws_X5_kind dX5_readAct_109 rfl (Nat.le_of_ble_eq_true rfl) ⟨by decide, by decide, g33.1, g33.2⟩) (fun r34 S35 h => ?_)
      refine z_iconst (v := 5) b dX5_readAct_112 (by decide) ?_
      refine y_icmp_eq (tgt := 126) (xl := r34.toInt) (yl := 5) b rfl (by decide) dX5_readAct_113 (by decide) (fun c1 => ?_) (fun c1 => ?_)
      · replace h := h.1 c1
        refine z_aload_n b dX5_readAct_126 rfl rfl ?_
        obtain ⟨i36, f37, f38, f39, f40, f41, g42, h⟩ := h
        refine z_get (q0 := 47 + i36) (k9 := 1) (v := .ref f38) b (kw_dyn cy a rw S35 g42) rfl in_X0 (by decide) wf_X5_109 rfl dX5_readAct_127 ?_
        obtain ⟨g43, h⟩ := h
        obtain ⟨i44, f45, g46, h⟩ := h
        refine z_calli b (z_runV (q0 := 47 + i44) (As := []) (st := []) b (k_Jx4a65c_size_8abf5 hrw S35 f38 _ h) cf_Jx4a65c_size_8abf5 (kw_dyn cy a rw S35 g46) rfl wm_X5_85 wi_Jx4a65c_size_8abf5 ws_Jx4a65c_size_8abf5 dX5_readAct_130 rfl (Nat.le_of_ble_eq_true rfl) ⟨by decide, by decide, g43.1, g43.2⟩) (fun r47 S48 h => ?_)
        refine z_iconst (v := 4) b dX5_readAct_133 (by decide) ?_
        refine y_icmp_lt (tgt := 143) (xl := r47.toInt) (yl := 4) b rfl (by decide) dX5_readAct_134 (by decide) (fun c1 => ?_) (fun c1 => ?_)
        · replace h := h.1 c1
          refine z_aload_n b dX5_readAct_143 rfl rfl ?_
          refine z_dup b dX5_readAct_144 rfl ?_
          refine z_get (q0 := 26) (k9 := 1) (v := .int (fi S48.1 15)) b (kw_26 cy a rw S48) rfl in_X5 (by decide) wf_X5_18 rfl dX5_readAct_145 ?_
          refine z_iconst (v := 1) b dX5_readAct_148 (by decide) ?_
          refine z_iadd b dX5_readAct_149 rfl ?_
          refine z_put (q0 := 26) (k9 := 1) tyX5 b (kw_26 cy a rw S48) rfl in_X5 tyX5_ok nmX5 (by decide) wf_X5_18 rfl rfl rfl rfl (Nat.le_of_ble_eq_true rfl) dX5_readAct_150 (kwp_26_1 cy a rw S48 ((fi S48.1 15) + 1)) ?_
          refine z_aload_n b dX5_readAct_153 rfl rfl ?_
          refine z_iconst (v := 0) b dX5_readAct_154 (by decide) ?_
          refine z_put (q0 := 26) (k9 := 3) tyX5 b (kw_26 cy a rw (ksi S48 15 ((fi S48.1 15) + 1))) rfl in_X5 tyX5_ok nmX5 (by decide) wf_X5_26 rfl rfl rfl rfl (Nat.le_of_ble_eq_true rfl) dX5_readAct_155 (kwp_26_3 cy a rw (ksi S48 15 ((fi S48.1 15) + 1)) 0) ?_
          refine z_aload_n b dX5_readAct_158 rfl rfl ?_
          refine z_iconst (v := 0) b dX5_readAct_159 (by decide) ?_
          obtain ⟨g49, h⟩ := h
          refine z_calli b (z_runV (q0 := 26) (As := [.int 0]) (st := []) b (k_X5_readEither hrw (ksi (ksi S48 15 ((fi S48.1 15) + 1)) 16 0) 0 _ h) cf_X5_readEither (kw_26 cy a rw (ksi (ksi S48 15 ((fi S48.1 15) + 1)) 16 0)) rfl wm_X5_112 wi_X5_readEither ws_X5_readEither dX5_readAct_160 rfl (Nat.le_of_ble_eq_true rfl) ⟨by decide, by decide, g49.1, g49.2⟩) (fun r50 S51 h => ?_)
          refine y_if_ne (tgt := 168) (xl := r50.toInt) b rfl dX5_readAct_163 (by decide) (fun c1 => ?_) (fun c1 => ?_)
          · replace h := h.1 c1
            refine z_aload_n b dX5_readAct_168 rfl rfl ?_
            obtain ⟨i52, f53, f54, f55, f56, f57, g58, h⟩ := h
            refine z_get (q0 := 47 + i52) (k9 := 1) (v := .ref f54) b (kw_dyn cy a rw S51 g58) rfl in_X0 (by decide) wf_X5_109 rfl dX5_readAct_169 ?_
            refine z_aload_n b dX5_readAct_172 rfl rfl ?_
            refine z_iconst (v := 5) b dX5_readAct_173 (by decide) ?_
            refine z_iconst (v := 0) b dX5_readAct_174 (by decide) ?_
            obtain ⟨m59, m60, g61, h⟩ := h
            refine z_callq b (z_runV (q0 := 26) (As := [.int 5, .int 0]) (st := [.ref f54]) b (k_X5_clause hrw S51 5 0 _ h) cf_X5_clause (kw_26 cy a rw S51) rfl wm_X5_115 wi_X5_clause ws_X5_clause dX5_readAct_175 rfl (Nat.le_of_ble_eq_true rfl) ⟨by decide, by decide, g61.1, g61.2⟩) (fun r62 S63 h => ?_)
            obtain ⟨q64, g65, h⟩ := h
            subst g65
            obtain ⟨m66, m67, g68, h⟩ := h
            obtain ⟨i69, f70, g71, h⟩ := h
            refine z_calli b (z_runV (q0 := 47 + i69) (As := [.ref q64]) (st := []) b (k_Jx4a65c_add_9ea2d_X1 hrw S63 f54 q64 _ h) cf_Jx4a65c_add_9ea2d (kw_dyn cy a rw S63 g71) rfl wm_X5_119 wi_Jx4a65c_add_9ea2d ws_Jx4a65c_add_9ea2d dX5_readAct_178 rfl (Nat.le_of_ble_eq_true rfl) ⟨by decide, by decide, g68.1, g68.2⟩) (fun r72 S73 h => ?_)
            refine z_pop b dX5_readAct_181 rfl ?_
            exact z_X5_readAct_B182 hrw b hk93 hk188 _ _ _ _ _ h
          · replace h := h.2 c1
            refine z_iconst (v := 0) b dX5_readAct_166 (by decide) ?_
            obtain ⟨g74, h⟩ := h
            exact z_zret (u := S51) b rfl (by decide) dX5_readAct_167 h rfl g74.1 g74.2
        · replace h := h.2 c1
          refine z_aload_n b dX5_readAct_137 rfl rfl ?_
          refine z_iconst (v := 3) b dX5_readAct_138 (by decide) ?_
          obtain ⟨g75, h⟩ := h
          refine z_calli b (z_runV (q0 := 26) (As := [.int 3]) (st := []) b (k_X5_refuse hrw S48 3 _ h) cf_X5_refuse (kw_26 cy a rw S48) rfl wm_X5_70 wi_X5_refuse ws_X5_refuse dX5_readAct_139 rfl (Nat.le_of_ble_eq_true rfl) ⟨by decide, by decide, g75.1, g75.2⟩) (fun r76 S77 h => ?_)
          obtain ⟨g78, h⟩ := h
          obtain ⟨g79, h⟩ := h
          exact z_zret (u := S77) b rfl (z_bool g78) dX5_readAct_142 h rfl g79.1 g79.2
      · replace h := h.2 c1
        refine z_aload_n b dX5_readAct_116 rfl rfl ?_
        refine z_aload_n b dX5_readAct_117 rfl rfl ?_
        obtain ⟨m80, m81, g82, h⟩ := h
        refine z_calli b (z_runV (q0 := 26) (As := [.ref x1]) (st := []) b (k_X5_readMake hrw S35 x1 _ h) cf_X5_readMake (kw_26 cy a rw S35) rfl wm_X5_105 wi_X5_readMake ws_X5_readMake dX5_readAct_118 rfl (Nat.le_of_ble_eq_true rfl) ⟨by decide, by decide, g82.1, g82.2⟩) (fun r83 S84 h => ?_)
        refine y_if_ne (tgt := 182) (xl := r83.toInt) b rfl dX5_readAct_121 (by decide) (fun c1 => ?_) (fun c1 => ?_)
        · replace h := h.1 c1
          exact z_X5_readAct_B182 hrw b hk93 hk188 _ _ _ _ _ h
        · replace h := h.2 c1
          refine z_iconst (v := 0) b dX5_readAct_124 (by decide) ?_
          obtain ⟨g85, h⟩ := h
          exact z_zret (u := S84) b rfl (by decide) dX5_readAct_125 h rfl g85.1 g85.2

set_option maxHeartbeats 200000 in
set_option maxRecDepth 100000 in
theorem zl_X5_readAct_L93 {p : Program} {l : Launch} {e : Env} {R : Room} {s : State} {m : MethodId} {args : Array Value} {below : List Frame} {meth : Method} {c : Code} {D : va_G} {cy : Nat → ClassId} {T0 tB tE : Nat} {A : Nat → Prop} {a : Nat → Nat} {rw : Nat → Option Nat} (hrw : ∀ i, i < 6 → rw i = some (a (12 + 2 * i))) {mc ms : Nat} {post : Int32 → KS → Prop} {k188 : KS → Nat → Nat → Nat → Prop} (b : Bz p R s m args meth c D cy T0 tB tE A 3 cX5_readAct RX5 (some .boolean) "readAct" 36 825 mc ms) (hk188 : ∀ (S : KS) (nc : Nat) (ns : Nat) (x1 : Nat), k188 S nc ns x1 → Z p l e R s m args below meth c D A 3 (MQ below (QI D (U := KS) post (kw cy a rw) A) args s mc ms A) nc ns (kw cy a rw S) [(0, .ref (a 26)), (1, .ref x1)] 188 []) : ∀ (n : Nat) (S : KS) (nc : Nat) (ns : Nat) (x1 : Nat) (x2 : Int32), lpn (w_X5_readAct_F93 cy tE mc ms post k188) (fun _ _ _ _ _ => False) n S nc ns x1 x2 → Z p l e R s m args below meth c D A 3 (MQ below (QI D (U := KS) post (kw cy a rw) A) args s mc ms A) nc ns (kw cy a rw S) [(0, .ref (a 26)), (1, .ref x1), (2, .int x2)] 93 [] := by
  intro n
  induction n with
  | zero => intro _ _ _ _ _ h; exact h.elim
  | succ n ih => intro S nc ns x1 x2 h; exact z_X5_readAct_F93 hrw b hk188 ih S nc ns x1 x2 h

def w_X5_readAct_B188 (cy : Nat → ClassId) (tE : Nat) (mc ms : Nat) (post : Int32 → KS → Prop) (S : KS) (nc : Nat) (ns : Nat) (x1 : Nat) : Prop :=
  ((fi S.1 17) = 0 ∨ (fi S.1 17) = 1) ∧ ∃ (i87 : Nat) (f88 : Int64) (f89 : Value) (f90 : Value) (f91 : Int32) (f92 : Int32), S.2.2.2[i87]? = some (x1, .inr (1, [.long f88, f89, f90, .int f91, .int f92])) ∧ ((fi S.1 18) = 0 ∨ (fi S.1 18) = 1) ∧ ∃ (i95 : Nat) (f96 : Int64) (f97 : Value) (f98 : Value) (f99 : Int32) (f100 : Int32), (S.2.2.2.set i87 (x1, .inr (1, [.long f88, f89, f90, .int (fi S.1 17), .int f92])))[i95]? = some (x1, .inr (1, [.long f96, f97, f98, .int f99, .int f100])) ∧ ∃ m102 m103 : Nat, (nc + m102 ≤ mc ∧ ns + m103 ≤ ms) ∧ ∃ (i105 : Nat) (f106 : List Value), ((S.2.2.2.set i87 (x1, .inr (1, [.long f88, f89, f90, .int (fi S.1 17), .int f92]))).set i95 (x1, .inr (1, [.long f96, f97, f98, .int f99, .int (fi S.1 18)])))[i105]? = some ((S.2.1 0), .inr (0, f106)) ∧ w_Jx4a65c_add_9ea2d_X0 cy tE m102 m103 (ksL (ksL (ksi S 15 ((fi S.1 15) + 1)) (S.2.2.2.set i87 (x1, .inr (1, [.long f88, f89, f90, .int (fi S.1 17), .int f92])))) ((S.2.2.2.set i87 (x1, .inr (1, [.long f88, f89, f90, .int (fi S.1 17), .int f92]))).set i95 (x1, .inr (1, [.long f96, f97, f98, .int f99, .int (fi S.1 18)])))) (S.2.1 0) x1 (fun r108 S109 => ((nc + m102) ≤ mc ∧ (ns + m103) ≤ ms) ∧ post 1 S109)

set_option maxHeartbeats 200000 in
set_option maxRecDepth 100000 in
theorem z_X5_readAct_B188 {p : Program} {l : Launch} {e : Env} {R : Room} {s : State} {m : MethodId} {args : Array Value} {below : List Frame} {meth : Method} {c : Code} {D : va_G} {cy : Nat → ClassId} {T0 tB tE : Nat} {A : Nat → Prop} {a : Nat → Nat} {rw : Nat → Option Nat} (hrw : ∀ i, i < 6 → rw i = some (a (12 + 2 * i))) {mc ms : Nat} {post : Int32 → KS → Prop} (b : Bz p R s m args meth c D cy T0 tB tE A 3 cX5_readAct RX5 (some .boolean) "readAct" 36 825 mc ms) (S : KS) (nc : Nat) (ns : Nat) (x1 : Nat) (h : w_X5_readAct_B188 cy tE mc ms post S nc ns x1) : Z p l e R s m args below meth c D A 3 (MQ below (QI D (U := KS) post (kw cy a rw) A) args s mc ms A) nc ns (kw cy a rw S) [(0, .ref (a 26)), (1, .ref x1)] 188 [] := by
  unfold w_X5_readAct_B188 at h
  refine z_aload_n b dX5_readAct_188 rfl rfl ?_
  refine z_dup b dX5_readAct_189 rfl ?_
  refine z_get (q0 := 26) (k9 := 1) (v := .int (fi S.1 15)) b (kw_26 cy a rw S) rfl in_X5 (by decide) wf_X5_18 rfl dX5_readAct_190 ?_
  refine z_iconst (v := 1) b dX5_readAct_193 (by decide) ?_
  refine z_iadd b dX5_readAct_194 rfl ?_
  refine z_put (q0 := 26) (k9 := 1) tyX5 b (kw_26 cy a rw S) rfl in_X5 tyX5_ok nmX5 (by decide) wf_X5_18 rfl rfl rfl rfl (Nat.le_of_ble_eq_true rfl) dX5_readAct_195 (kwp_26_1 cy a rw S ((fi S.1 15) + 1)) ?_
  refine z_aload_n b dX5_readAct_198 rfl rfl ?_
  refine z_aload_n b dX5_readAct_199 rfl rfl ?_
  refine z_get (q0 := 26) (k9 := 4) (v := .int (fi S.1 17)) b (kw_26 cy a rw (ksi S 15 ((fi S.1 15) + 1))) rfl in_X5 (by decide) wf_X5_29 rfl dX5_readAct_200 ?_
  obtain ⟨g86, h⟩ := h
  obtain ⟨i87, f88, f89, f90, f91, f92, g93, h⟩ := h
  refine z_put (q0 := 47 + i87) (k9 := 3) tyX0 b (kw_dyn cy a rw (ksi S 15 ((fi S.1 15) + 1)) g93) rfl in_X0 tyX0_ok nmX0 (by decide) wf_X5_123 rfl rfl (z_bool g86) (z_boolf g86) (Nat.le_of_ble_eq_true rfl) dX5_readAct_203 (kw_dset cy a rw (ksi S 15 ((fi S.1 15) + 1)) i87 (x1, .inr (1, [.long f88, f89, f90, .int (fi S.1 17), .int f92]))) ?_
  refine z_aload_n b dX5_readAct_206 rfl rfl ?_
  refine z_aload_n b dX5_readAct_207 rfl rfl ?_
  refine z_get (q0 := 26) (k9 := 5) (v := .int (fi S.1 18)) b (kw_26 cy a rw (ksL (ksi S 15 ((fi S.1 15) + 1)) (S.2.2.2.set i87 (x1, .inr (1, [.long f88, f89, f90, .int (fi S.1 17), .int f92]))))) rfl in_X5 (by decide) wf_X5_33 rfl dX5_readAct_208 ?_
  obtain ⟨g94, h⟩ := h
  obtain ⟨i95, f96, f97, f98, f99, f100, g101, h⟩ := h
  refine z_put (q0 := 47 + i95) (k9 := 4) tyX0 b (kw_dyn cy a rw (ksL (ksi S 15 ((fi S.1 15) + 1)) (S.2.2.2.set i87 (x1, .inr (1, [.long f88, f89, f90, .int (fi S.1 17), .int f92])))) g101) rfl in_X0 tyX0_ok nmX0 (by decide) wf_X5_126 rfl rfl (z_bool g94) (z_boolf g94) (Nat.le_of_ble_eq_true rfl) dX5_readAct_211 (kw_dset cy a rw (ksL (ksi S 15 ((fi S.1 15) + 1)) (S.2.2.2.set i87 (x1, .inr (1, [.long f88, f89, f90, .int (fi S.1 17), .int f92])))) i95 (x1, .inr (1, [.long f96, f97, f98, .int f99, .int (fi S.1 18)]))) ?_
  refine z_aload_n b dX5_readAct_214 rfl rfl ?_
  refine z_get (q0 := 26) (k9 := 6) (v := .ref (S.2.1 0)) b (kw_26 cy a rw (ksL (ksL (ksi S 15 ((fi S.1 15) + 1)) (S.2.2.2.set i87 (x1, .inr (1, [.long f88, f89, f90, .int (fi S.1 17), .int f92])))) ((S.2.2.2.set i87 (x1, .inr (1, [.long f88, f89, f90, .int (fi S.1 17), .int f92]))).set i95 (x1, .inr (1, [.long f96, f97, f98, .int f99, .int (fi S.1 18)]))))) rfl in_X5 (by decide) wf_X5_39 rfl dX5_readAct_215 ?_
  refine z_aload_n b dX5_readAct_218 rfl rfl ?_
  obtain ⟨m102, m103, g104, h⟩ := h
  obtain ⟨i105, f106, g107, h⟩ := h
  refine z_calli b (z_runV (q0 := 47 + i105) (As := [.ref x1]) (st := []) b (k_Jx4a65c_add_9ea2d_X0 hrw (ksL (ksL (ksi S 15 ((fi S.1 15) + 1)) (S.2.2.2.set i87 (x1, .inr (1, [.long f88, f89, f90, .int (fi S.1 17), .int f92])))) ((S.2.2.2.set i87 (x1, .inr (1, [.long f88, f89, f90, .int (fi S.1 17), .int f92]))).set i95 (x1, .inr (1, [.long f96, f97, f98, .int f99, .int (fi S.1 18)])))) (S.2.1 0) x1 _ h) cf_Jx4a65c_add_9ea2d (kw_dyn cy a rw (ksL (ksL (ksi S 15 ((fi S.1 15) + 1)) (S.2.2.2.set i87 (x1, .inr (1, [.long f88, f89, f90, .int (fi S.1 17), .int f92])))) ((S.2.2.2.set i87 (x1, .inr (1, [.long f88, f89, f90, .int (fi S.1 17), .int f92]))).set i95 (x1, .inr (1, [.long f96, f97, f98, .int f99, .int (fi S.1 18)])))) g107) rfl wm_X5_119 wi_Jx4a65c_add_9ea2d ws_Jx4a65c_add_9ea2d dX5_readAct_219 rfl (Nat.le_of_ble_eq_true rfl) ⟨by decide, by decide, g104.1, g104.2⟩) (fun r108 S109 h => ?_)
  refine z_pop b dX5_readAct_222 rfl ?_
  refine z_iconst (v := 1) b dX5_readAct_223 (by decide) ?_
  obtain ⟨g110, h⟩ := h
  exact z_zret (u := S109) b rfl (by decide) dX5_readAct_224 h rfl g110.1 g110.2

def w_X5_readAct (cy : Nat → ClassId) (tE : Nat) (mc ms : Nat) (S : KS)  (post : Int32 → KS → Prop) : Prop :=
  (0 ≤ mc ∧ 0 ≤ ms) ∧ ∃ (i2 : Nat) (f3 : List Value), S.2.2.2[i2]? = some ((S.2.1 0), .inr (0, f3)) ∧ w_Jx4a65c_size_8abf5 cy tE S (S.2.1 0) (fun r5 S6 => ((r5.toInt < 6 → (0 ≤ mc ∧ 0 ≤ ms) ∧ w_X5_kind cy tE (ksi S6 15 ((fi S6.1 15) + 1)) (fun r8 S9 => ((r8.toInt = 3 → (0 + 1 ≤ mc ∧ 0 + 5 ≤ ms) ∧ ∀ q11 : Nat, ((0 + 1) ≤ mc ∧ (0 + 5) ≤ ms) ∧ w_X5_value cy tE (ksL S9 (vn S9.2.2.2 (q11, .inr (1, [.long 0, .null, .null, .int 0, .int 0])))) (fun r13 S14 => ∃ m15 m16 : Nat, ((0 + 1) + m15 ≤ mc ∧ (0 + 5) + m16 ≤ ms) ∧ w_X0_init cy tE m15 m16 S14 q11 r13 (fun S19 => ∃ (i20 : Nat) (f21 : Int64) (f22 : Value) (f23 : Value) (f24 : Int32) (f25 : Int32), S19.2.2.2[i20]? = some (q11, .inr (1, [.long f21, f22, f23, .int f24, .int f25])) ∧ (((0 + 1) + m15) ≤ mc ∧ ((0 + 5) + m16) ≤ ms) ∧ w_X5_isNamed cy tE S19 f21 (fun r28 S29 => ((r28.toInt = 0 → ∃ n, lpn (w_X5_readAct_F93 cy tE mc ms post (w_X5_readAct_B188 cy tE mc ms post)) (fun _ _ _ _ _ => False) n (ksi (ksi (ksi S29 15 ((fi S29.1 15) + 1)) 17 0) 18 0) ((0 + 1) + m15) ((0 + 5) + m16) q11 0) ∧ (r28.toInt ≠ 0 → (((0 + 1) + m15) ≤ mc ∧ ((0 + 5) + m16) ≤ ms) ∧ w_X5_refuse cy tE S29 2 (fun r112 S113 => (r112 = 0 ∨ r112 = 1) ∧ (((0 + 1) + m15) ≤ mc ∧ ((0 + 5) + m16) ≤ ms) ∧ post r112 S113))))))) ∧ (r8.toInt ≠ 3 → (0 ≤ mc ∧ 0 ≤ ms) ∧ w_X5_refuse cy tE S9 1 (fun r117 S118 => (r117 = 0 ∨ r117 = 1) ∧ (0 ≤ mc ∧ 0 ≤ ms) ∧ post r117 S118))))) ∧ (6 ≤ r5.toInt → (0 ≤ mc ∧ 0 ≤ ms) ∧ w_X5_refuse cy tE S6 3 (fun r122 S123 => (r122 = 0 ∨ r122 = 1) ∧ (0 ≤ mc ∧ 0 ≤ ms) ∧ post r122 S123))))

set_option maxHeartbeats 200000 in
set_option maxRecDepth 100000 in
theorem k_X5_readAct {l : Launch} {D : va_G} {cy : Nat → ClassId} {T0 tB tE : Nat} {a : Nat → Nat} {rw : Nat → Option Nat} (hrw : ∀ i, i < 6 → rw i = some (a (12 + 2 * i))) {mc ms : Nat} (S : KS)  (post : Int32 → KS → Prop) (h : w_X5_readAct cy tE mc ms S  post) : Ct l D cy T0 tB tE yX5_readAct cX5_readAct 3 (some .boolean) 36 825 mc ms (kw cy a rw S) [.ref (a 26)] (QI D (U := KS) post (kw cy a rw)) := by
  refine Ct.ofZ RX5 "readAct" [(0, .ref (a 26))] rfl rfl rfl rfl (Nat.le_of_ble_eq_true rfl) ?_
  intro p e R s m args below meth c A b
  unfold w_X5_readAct at h
  refine z_aload_n b dX5_readAct_0 rfl rfl ?_
  refine z_get (q0 := 26) (k9 := 6) (v := .ref (S.2.1 0)) b (kw_26 cy a rw S) rfl in_X5 (by decide) wf_X5_39 rfl dX5_readAct_1 ?_
  obtain ⟨g1, h⟩ := h
  obtain ⟨i2, f3, g4, h⟩ := h
  refine z_calli b (z_runV (q0 := 47 + i2) (As := []) (st := []) b (k_Jx4a65c_size_8abf5 hrw S (S.2.1 0) _ h) cf_Jx4a65c_size_8abf5 (kw_dyn cy a rw S g4) rfl wm_X5_85 wi_Jx4a65c_size_8abf5 ws_Jx4a65c_size_8abf5 dX5_readAct_4 rfl (Nat.le_of_ble_eq_true rfl) ⟨by decide, by decide, g1.1, g1.2⟩) (fun r5 S6 h => ?_)
  refine z_bipush (v := 6) b dX5_readAct_7 (by decide) ?_
  refine y_icmp_lt (tgt := 18) (xl := r5.toInt) (yl := 6) b rfl (by decide) dX5_readAct_9 (by decide) (fun c1 => ?_) (fun c1 => ?_)
  · replace h := h.1 c1
    refine z_aload_n b dX5_readAct_18 rfl rfl ?_
    refine z_dup b dX5_readAct_19 rfl ?_
    refine z_get (q0 := 26) (k9 := 1) (v := .int (fi S6.1 15)) b (kw_26 cy a rw S6) rfl in_X5 (by decide) wf_X5_18 rfl dX5_readAct_20 ?_
    refine z_iconst (v := 1) b dX5_readAct_23 (by decide) ?_
    refine z_iadd b dX5_readAct_24 rfl ?_
    refine z_put (q0 := 26) (k9 := 1) tyX5 b (kw_26 cy a rw S6) rfl in_X5 tyX5_ok nmX5 (by decide) wf_X5_18 rfl rfl rfl rfl (Nat.le_of_ble_eq_true rfl) dX5_readAct_25 (kwp_26_1 cy a rw S6 ((fi S6.1 15) + 1)) ?_
    refine z_aload_n b dX5_readAct_28 rfl rfl ?_
    obtain ⟨g7, h⟩ := h
    refine z_calli b (z_runV (q0 := 26) (As := []) (st := []) b (k_X5_kind hrw (ksi S6 15 ((fi S6.1 15) + 1)) _ h) cf_X5_kind (kw_26 cy a rw (ksi S6 15 ((fi S6.1 15) + 1))) rfl wm_X5_66 wi_X5_kind ws_X5_kind dX5_readAct_29 rfl (Nat.le_of_ble_eq_true rfl) ⟨by decide, by decide, g7.1, g7.2⟩) (fun r8 S9 h => ?_)
    refine z_iconst (v := 3) b dX5_readAct_32 (by decide) ?_
    refine y_icmp_eq (tgt := 42) (xl := r8.toInt) (yl := 3) b rfl (by decide) dX5_readAct_33 (by decide) (fun c1 => ?_) (fun c1 => ?_)
    · replace h := h.1 c1
      obtain ⟨g10, h⟩ := h
      refine z_new (fs := [.long 0, .null, .null, .int 0, .int 0]) (N := 5) (ci := 1) tyX0 b in_X0 tyX0_ok wk_X5_88 wn_X0 w0_X0 rfl tyX0_df g10 dX5_readAct_42 (fun q11 => ?_)
      replace h := h q11
      refine z_wseq (kw_newv cy a rw S9 (q11, .inr (1, [.long 0, .null, .null, .int 0, .int 0]))) ?_
      refine z_dup b dX5_readAct_45 rfl ?_
      refine z_aload_n b dX5_readAct_46 rfl rfl ?_
      obtain ⟨g12, h⟩ := h
      refine z_calll b (z_runV (q0 := 26) (As := []) (st := [.ref q11, .ref q11]) b (k_X5_value hrw (ksL S9 (vn S9.2.2.2 (q11, .inr (1, [.long 0, .null, .null, .int 0, .int 0])))) _ h) cf_X5_value (kw_26 cy a rw (ksL S9 (vn S9.2.2.2 (q11, .inr (1, [.long 0, .null, .null, .int 0, .int 0]))))) rfl wm_X5_90 wi_X5_value ws_X5_value dX5_readAct_47 rfl (Nat.le_of_ble_eq_true rfl) ⟨by decide, by decide, g12.1, g12.2⟩) (fun r13 S14 h => ?_)
      obtain ⟨m15, m16, g17, h⟩ := h
      refine z_callv b (z_runI (As := [.long r13]) (st := [.ref q11]) b (k_X0_init hrw S14 q11 r13 _ h) cf_X0_init wm_X5_94 wi_X0_init rfl dX5_readAct_50 rfl (Nat.le_of_ble_eq_true rfl) ⟨by decide, by decide, g17.1, g17.2⟩) (fun S19 h => ?_)
      refine z_astore_n (lv' := [(1, .ref q11), (0, .ref (a 26))]) b dX5_readAct_53 rfl (by decide) rfl ?_
      refine z_aload_n b dX5_readAct_54 rfl rfl ?_
      refine z_aload_n b dX5_readAct_55 rfl rfl ?_
      obtain ⟨i20, f21, f22, f23, f24, f25, g26, h⟩ := h
      refine z_get (q0 := 47 + i20) (k9 := 0) (v := .long f21) b (kw_dyn cy a rw S19 g26) rfl in_X0 (by decide) wf_X5_97 rfl dX5_readAct_56 ?_
      obtain ⟨g27, h⟩ := h
      refine z_calli b (z_runV (q0 := 26) (As := [.long f21]) (st := []) b (k_X5_isNamed hrw S19 f21 _ h) cf_X5_isNamed (kw_26 cy a rw S19) rfl wm_X5_101 wi_X5_isNamed ws_X5_isNamed dX5_readAct_59 rfl (Nat.le_of_ble_eq_true rfl) ⟨by decide, by decide, g27.1, g27.2⟩) (fun r28 S29 h => ?_)
      refine y_if_eq (tgt := 71) (xl := r28.toInt) b rfl dX5_readAct_62 (by decide) (fun c1 => ?_) (fun c1 => ?_)
      · replace h := h.1 c1
        refine z_aload_n b dX5_readAct_71 rfl rfl ?_
        refine z_dup b dX5_readAct_72 rfl ?_
        refine z_get (q0 := 26) (k9 := 1) (v := .int (fi S29.1 15)) b (kw_26 cy a rw S29) rfl in_X5 (by decide) wf_X5_18 rfl dX5_readAct_73 ?_
        refine z_iconst (v := 1) b dX5_readAct_76 (by decide) ?_
        refine z_iadd b dX5_readAct_77 rfl ?_
        refine z_put (q0 := 26) (k9 := 1) tyX5 b (kw_26 cy a rw S29) rfl in_X5 tyX5_ok nmX5 (by decide) wf_X5_18 rfl rfl rfl rfl (Nat.le_of_ble_eq_true rfl) dX5_readAct_78 (kwp_26_1 cy a rw S29 ((fi S29.1 15) + 1)) ?_
        refine z_aload_n b dX5_readAct_81 rfl rfl ?_
        refine z_iconst (v := 0) b dX5_readAct_82 (by decide) ?_
        refine z_put (q0 := 26) (k9 := 4) tyX5 b (kw_26 cy a rw (ksi S29 15 ((fi S29.1 15) + 1))) rfl in_X5 tyX5_ok nmX5 (by decide) wf_X5_29 rfl rfl rfl rfl (Nat.le_of_ble_eq_true rfl) dX5_readAct_83 (kwp_26_4 cy a rw (ksi S29 15 ((fi S29.1 15) + 1)) 0) ?_
        refine z_aload_n b dX5_readAct_86 rfl rfl ?_
        refine z_iconst (v := 0) b dX5_readAct_87 (by decide) ?_
        refine z_put (q0 := 26) (k9 := 5) tyX5 b (kw_26 cy a rw (ksi (ksi S29 15 ((fi S29.1 15) + 1)) 17 0)) rfl in_X5 tyX5_ok nmX5 (by decide) wf_X5_33 rfl rfl rfl rfl (Nat.le_of_ble_eq_true rfl) dX5_readAct_88 (kwp_26_5 cy a rw (ksi (ksi S29 15 ((fi S29.1 15) + 1)) 17 0) 0) ?_
        refine z_iconst (v := 0) b dX5_readAct_91 (by decide) ?_
        refine z_istore_n (lv' := [(2, .int 0), (1, .ref q11), (0, .ref (a 26))]) b dX5_readAct_92 rfl (by decide) rfl ?_
        refine z_lv0 (lv' := [(0, .ref (a 26)), (1, .ref q11), (2, .int 0)]) [2, 1, 0] rfl ?_
        obtain ⟨n, h⟩ := h
        exact zl_X5_readAct_L93 hrw b (fun S nc ns x1 h => z_X5_readAct_B188 hrw b _ _ _ _ h) n _ _ _ _ _ h
      · replace h := h.2 c1
        refine z_aload_n b dX5_readAct_65 rfl rfl ?_
        refine z_iconst (v := 2) b dX5_readAct_66 (by decide) ?_
        obtain ⟨g111, h⟩ := h
        refine z_calli b (z_runV (q0 := 26) (As := [.int 2]) (st := []) b (k_X5_refuse hrw S29 2 _ h) cf_X5_refuse (kw_26 cy a rw S29) rfl wm_X5_70 wi_X5_refuse ws_X5_refuse dX5_readAct_67 rfl (Nat.le_of_ble_eq_true rfl) ⟨by decide, by decide, g111.1, g111.2⟩) (fun r112 S113 h => ?_)
        obtain ⟨g114, h⟩ := h
        obtain ⟨g115, h⟩ := h
        exact z_zret (u := S113) b rfl (z_bool g114) dX5_readAct_70 h rfl g115.1 g115.2
    · replace h := h.2 c1
      refine z_aload_n b dX5_readAct_36 rfl rfl ?_
      refine z_iconst (v := 1) b dX5_readAct_37 (by decide) ?_
      obtain ⟨g116, h⟩ := h
      refine z_calli b (z_runV (q0 := 26) (As := [.int 1]) (st := []) b (k_X5_refuse hrw S9 1 _ h) cf_X5_refuse (kw_26 cy a rw S9) rfl wm_X5_70 wi_X5_refuse ws_X5_refuse dX5_readAct_38 rfl (Nat.le_of_ble_eq_true rfl) ⟨by decide, by decide, g116.1, g116.2⟩) (fun r117 S118 h => ?_)
      obtain ⟨g119, h⟩ := h
      obtain ⟨g120, h⟩ := h
      exact z_zret (u := S118) b rfl (z_bool g119) dX5_readAct_41 h rfl g120.1 g120.2
  · replace h := h.2 c1
    refine z_aload_n b dX5_readAct_12 rfl rfl ?_
    refine z_iconst (v := 3) b dX5_readAct_13 (by decide) ?_
    obtain ⟨g121, h⟩ := h
    refine z_calli b (z_runV (q0 := 26) (As := [.int 3]) (st := []) b (k_X5_refuse hrw S6 3 _ h) cf_X5_refuse (kw_26 cy a rw S6) rfl wm_X5_70 wi_X5_refuse ws_X5_refuse dX5_readAct_14 rfl (Nat.le_of_ble_eq_true rfl) ⟨by decide, by decide, g121.1, g121.2⟩) (fun r122 S123 h => ?_)
    obtain ⟨g124, h⟩ := h
    obtain ⟨g125, h⟩ := h
    exact z_zret (u := S123) b rfl (z_bool g124) dX5_readAct_17 h rfl g125.1 g125.2

def w_X11_statute_F16 (cy : Nat → ClassId) (tE : Nat) (mc ms : Nat) (post : Int32 → KS → Prop) (k51 : KS → Nat → Nat → Int32 → Prop) (k16 : KS → Nat → Nat → Int32 → Int32 → Prop) (S : KS) (nc : Nat) (ns : Nat) (x1 : Int32) (x2 : Int32) : Prop :=
  ((6 < x2.toInt → k51 S nc ns x1) ∧ (x2.toInt ≤ 6 → (nc ≤ mc ∧ ns ≤ ms) ∧ w_X5_kind cy tE S (fun r8 S9 => ((r8.toInt ≠ 4 → k51 S9 nc ns x1) ∧ (r8.toInt = 4 → ∃ m10 m11 : Nat, (nc + m10 ≤ mc ∧ ns + m11 ≤ ms) ∧ w_X5_readAct cy tE m10 m11 S9 (fun r13 S14 => ((r13.toInt ≠ 0 → k16 S14 (nc + m10) (ns + m11) x1 (x2 + 1)) ∧ (r13.toInt = 0 → ((nc + m10) ≤ mc ∧ (ns + m11) ≤ ms) ∧ post (-1) S14))))))))

set_option maxHeartbeats 200000 in
set_option maxRecDepth 100000 in
theorem z_X11_statute_F16 {p : Program} {l : Launch} {e : Env} {R : Room} {s : State} {m : MethodId} {args : Array Value} {below : List Frame} {meth : Method} {c : Code} {D : va_G} {cy : Nat → ClassId} {T0 tB tE : Nat} {A : Nat → Prop} {a : Nat → Nat} {rw : Nat → Option Nat} (hrw : ∀ i, i < 6 → rw i = some (a (12 + 2 * i))) {mc ms : Nat} {post : Int32 → KS → Prop} {k51 : KS → Nat → Nat → Int32 → Prop} {k16 : KS → Nat → Nat → Int32 → Int32 → Prop} (b : Bz p R s m args meth c D cy T0 tB tE A 3 cX11_statute RX11 (some .int) "statute" 37 847 mc ms) (hk51 : ∀ (S : KS) (nc : Nat) (ns : Nat) (x1 : Int32), k51 S nc ns x1 → Z p l e R s m args below meth c D A 3 (MQ below (QI D (U := KS) post (kw cy a rw) A) args s mc ms A) nc ns (kw cy a rw S) [(0, .ref (a 0)), (1, .int x1)] 51 []) (hk16 : ∀ (S : KS) (nc : Nat) (ns : Nat) (x1 : Int32) (x2 : Int32), k16 S nc ns x1 x2 → Z p l e R s m args below meth c D A 3 (MQ below (QI D (U := KS) post (kw cy a rw) A) args s mc ms A) nc ns (kw cy a rw S) [(0, .ref (a 0)), (1, .int x1), (2, .int x2)] 16 []) (S : KS) (nc : Nat) (ns : Nat) (x1 : Int32) (x2 : Int32) (h : w_X11_statute_F16 cy tE mc ms post k51 k16 S nc ns x1 x2) : Z p l e R s m args below meth c D A 3 (MQ below (QI D (U := KS) post (kw cy a rw) A) args s mc ms A) nc ns (kw cy a rw S) [(0, .ref (a 0)), (1, .int x1), (2, .int x2)] 16 [] := by
  unfold w_X11_statute_F16 at h
  refine z_iload_n b dX11_statute_16 rfl rfl ?_
  refine z_bipush (v := 6) b dX11_statute_17 (by decide) ?_
  refine y_icmp_gt (tgt := 51) (xl := x2.toInt) (yl := 6) b rfl (by decide) dX11_statute_19 (by decide) (fun c1 => ?_) (fun c1 => ?_)
  · replace h := h.1 c1
    refine z_lv0 (lv' := [(0, .ref (a 0)), (1, .int x1)]) [0, 1] rfl ?_
    exact hk51 _ _ _ _ h
  · replace h := h.2 c1
    refine z_aload_n b dX11_statute_22 rfl rfl ?_
    refine z_get (q0 := 0) (k9 := 2) (v := .ref (a 26)) b (kw_0 cy a rw S) rfl in_X11 (by decide) wf_X11_20 rfl dX11_statute_23 ?_
    obtain ⟨g7, h⟩ := h
    refine z_calli b (z_runV (q0 := 26) (As := []) (st := []) b (k_X5_kind hrw S _ h) cf_X5_kind (kw_26 cy a rw S) rfl wm_X11_96 wi_X5_kind ws_X5_kind dX11_statute_26 rfl (Nat.le_of_ble_eq_true rfl) ⟨by decide, by decide, g7.1, g7.2⟩) (fun r8 S9 h => ?_)
    refine z_iconst (v := 4) b dX11_statute_29 (by decide) ?_
    refine y_icmp_ne (tgt := 51) (xl := r8.toInt) (yl := 4) b rfl (by decide) dX11_statute_30 (by decide) (fun c1 => ?_) (fun c1 => ?_)
    · replace h := h.1 c1
      refine z_lv0 (lv' := [(0, .ref (a 0)), (1, .int x1)]) [0, 1] rfl ?_
      exact hk51 _ _ _ _ h
    · replace h := h.2 c1
      refine z_aload_n b dX11_statute_33 rfl rfl ?_
      refine z_get (q0 := 0) (k9 := 2) (v := .ref (a 26)) b (kw_0 cy a rw S9) rfl in_X11 (by decide) wf_X11_20 rfl dX11_statute_34 ?_
      obtain ⟨m10, m11, g12, h⟩ := h
      refine z_calli b (z_runV (q0 := 26) (As := []) (st := []) b (k_X5_readAct hrw S9 _ h) cf_X5_readAct (kw_26 cy a rw S9) rfl wm_X11_102 wi_X5_readAct ws_X5_readAct dX11_statute_37 rfl (Nat.le_of_ble_eq_true rfl) ⟨by decide, by decide, g12.1, g12.2⟩) (fun r13 S14 h => ?_)
      refine y_if_ne (tgt := 45) (xl := r13.toInt) b rfl dX11_statute_40 (by decide) (fun c1 => ?_) (fun c1 => ?_)
      · replace h := h.1 c1
        refine z_iinc (k9 := 2) (v := (x2 + 1)) (lv' := [(2, .int (x2 + 1)), (0, .ref (a 0)), (1, .int x1)]) b dX11_statute_45 rfl rfl (by decide) rfl ?_
        refine z_goto (tgt := 16) b dX11_statute_48 (by decide) ?_
        refine z_lv0 (lv' := [(0, .ref (a 0)), (1, .int x1), (2, .int (x2 + 1))]) [1, 2, 0] rfl ?_
        exact hk16 _ _ _ _ _ h
      · replace h := h.2 c1
        refine z_iconst (v := (-1)) b dX11_statute_43 (by decide) ?_
        obtain ⟨g15, h⟩ := h
        exact z_iret (u := S14) b rfl dX11_statute_44 h rfl g15.1 g15.2

set_option maxHeartbeats 200000 in
set_option maxRecDepth 100000 in
theorem zl_X11_statute_L16 {p : Program} {l : Launch} {e : Env} {R : Room} {s : State} {m : MethodId} {args : Array Value} {below : List Frame} {meth : Method} {c : Code} {D : va_G} {cy : Nat → ClassId} {T0 tB tE : Nat} {A : Nat → Prop} {a : Nat → Nat} {rw : Nat → Option Nat} (hrw : ∀ i, i < 6 → rw i = some (a (12 + 2 * i))) {mc ms : Nat} {post : Int32 → KS → Prop} {k51 : KS → Nat → Nat → Int32 → Prop} (b : Bz p R s m args meth c D cy T0 tB tE A 3 cX11_statute RX11 (some .int) "statute" 37 847 mc ms) (hk51 : ∀ (S : KS) (nc : Nat) (ns : Nat) (x1 : Int32), k51 S nc ns x1 → Z p l e R s m args below meth c D A 3 (MQ below (QI D (U := KS) post (kw cy a rw) A) args s mc ms A) nc ns (kw cy a rw S) [(0, .ref (a 0)), (1, .int x1)] 51 []) : ∀ (n : Nat) (S : KS) (nc : Nat) (ns : Nat) (x1 : Int32) (x2 : Int32), lpn (w_X11_statute_F16 cy tE mc ms post k51) (fun _ _ _ _ _ => False) n S nc ns x1 x2 → Z p l e R s m args below meth c D A 3 (MQ below (QI D (U := KS) post (kw cy a rw) A) args s mc ms A) nc ns (kw cy a rw S) [(0, .ref (a 0)), (1, .int x1), (2, .int x2)] 16 [] := by
  intro n
  induction n with
  | zero => intro _ _ _ _ _ h; exact h.elim
  | succ n ih => intro S nc ns x1 x2 h; exact z_X11_statute_F16 hrw b hk51 ih S nc ns x1 x2 h

def w_X11_statute_B51 (cy : Nat → ClassId) (tE : Nat) (mc ms : Nat) (post : Int32 → KS → Prop) (S : KS) (nc : Nat) (ns : Nat) (x1 : Int32) : Prop :=
  (nc ≤ mc ∧ ns ≤ ms) ∧ w_X5_isAtEnd cy tE S (fun r17 S18 => ((r17.toInt ≠ 0 → (nc ≤ mc ∧ ns ≤ ms) ∧ w_X4_enact cy tE S18 x1 (S18.2.1 0) (fun S21 => (nc ≤ mc ∧ ns ≤ ms) ∧ w_X8_forget cy tE S21 (fun S24 => (nc ≤ mc ∧ ns ≤ ms) ∧ ∃ (i26 : Nat) (f27 : List Value), S24.2.2.2[i26]? = some ((S24.2.1 0), .inr (0, f27)) ∧ w_Jx4a65c_size_8abf5 cy tE S24 (S24.2.1 0) (fun r29 S30 => (nc ≤ mc ∧ ns ≤ ms) ∧ post r29 S30)))) ∧ (r17.toInt = 0 → (nc ≤ mc ∧ ns ≤ ms) ∧ post (-1) S18)))

set_option maxHeartbeats 200000 in
set_option maxRecDepth 100000 in
theorem z_X11_statute_B51 {p : Program} {l : Launch} {e : Env} {R : Room} {s : State} {m : MethodId} {args : Array Value} {below : List Frame} {meth : Method} {c : Code} {D : va_G} {cy : Nat → ClassId} {T0 tB tE : Nat} {A : Nat → Prop} {a : Nat → Nat} {rw : Nat → Option Nat} (hrw : ∀ i, i < 6 → rw i = some (a (12 + 2 * i))) {mc ms : Nat} {post : Int32 → KS → Prop} (b : Bz p R s m args meth c D cy T0 tB tE A 3 cX11_statute RX11 (some .int) "statute" 37 847 mc ms) (S : KS) (nc : Nat) (ns : Nat) (x1 : Int32) (h : w_X11_statute_B51 cy tE mc ms post S nc ns x1) : Z p l e R s m args below meth c D A 3 (MQ below (QI D (U := KS) post (kw cy a rw) A) args s mc ms A) nc ns (kw cy a rw S) [(0, .ref (a 0)), (1, .int x1)] 51 [] := by
  unfold w_X11_statute_B51 at h
  refine z_aload_n b dX11_statute_51 rfl rfl ?_
  refine z_get (q0 := 0) (k9 := 2) (v := .ref (a 26)) b (kw_0 cy a rw S) rfl in_X11 (by decide) wf_X11_20 rfl dX11_statute_52 ?_
  obtain ⟨g16, h⟩ := h
  refine z_calli b (z_runV (q0 := 26) (As := []) (st := []) b (k_X5_isAtEnd hrw S _ h) cf_X5_isAtEnd (kw_26 cy a rw S) rfl wm_X11_106 wi_X5_isAtEnd ws_X5_isAtEnd dX11_statute_55 rfl (Nat.le_of_ble_eq_true rfl) ⟨by decide, by decide, g16.1, g16.2⟩) (fun r17 S18 h => ?_)
  refine y_if_ne (tgt := 63) (xl := r17.toInt) b rfl dX11_statute_58 (by decide) (fun c1 => ?_) (fun c1 => ?_)
  · replace h := h.1 c1
    refine z_aload_n b dX11_statute_63 rfl rfl ?_
    refine z_get (q0 := 0) (k9 := 3) (v := .ref (a 33)) b (kw_0 cy a rw S18) rfl in_X11 (by decide) wf_X11_27 rfl dX11_statute_64 ?_
    refine z_iload_n b dX11_statute_67 rfl rfl ?_
    refine z_aload_n b dX11_statute_68 rfl rfl ?_
    refine z_get (q0 := 0) (k9 := 2) (v := .ref (a 26)) b (kw_0 cy a rw S18) rfl in_X11 (by decide) wf_X11_20 rfl dX11_statute_69 ?_
    refine z_get (q0 := 26) (k9 := 6) (v := .ref (S18.2.1 0)) b (kw_26 cy a rw S18) rfl in_X5 (by decide) wf_X11_109 rfl dX11_statute_72 ?_
    obtain ⟨g19, h⟩ := h
    refine z_callv b (z_runV (q0 := 33) (As := [.int x1, .ref (S18.2.1 0)]) (st := []) b (k_X4_enact hrw S18 x1 (S18.2.1 0) _ h) cf_X4_enact (kw_33 cy a rw S18) rfl wm_X11_113 wi_X4_enact ws_X4_enact dX11_statute_75 rfl (Nat.le_of_ble_eq_true rfl) ⟨by decide, by decide, g19.1, g19.2⟩) (fun S21 h => ?_)
    refine z_aload_n b dX11_statute_78 rfl rfl ?_
    refine z_get (q0 := 0) (k9 := 6) (v := .ref (a 38)) b (kw_0 cy a rw S21) rfl in_X11 (by decide) wf_X11_52 rfl dX11_statute_79 ?_
    obtain ⟨g22, h⟩ := h
    refine z_callv b (z_runV (q0 := 38) (As := []) (st := []) b (k_X8_forget hrw S21 _ h) cf_X8_forget (kw_38 cy a rw S21) rfl wm_X11_81 wi_X8_forget ws_X8_forget dX11_statute_82 rfl (Nat.le_of_ble_eq_true rfl) ⟨by decide, by decide, g22.1, g22.2⟩) (fun S24 h => ?_)
    refine z_aload_n b dX11_statute_85 rfl rfl ?_
    refine z_get (q0 := 0) (k9 := 2) (v := .ref (a 26)) b (kw_0 cy a rw S24) rfl in_X11 (by decide) wf_X11_20 rfl dX11_statute_86 ?_
    refine z_get (q0 := 26) (k9 := 6) (v := .ref (S24.2.1 0)) b (kw_26 cy a rw S24) rfl in_X5 (by decide) wf_X11_109 rfl dX11_statute_89 ?_
    obtain ⟨g25, h⟩ := h
    obtain ⟨i26, f27, g28, h⟩ := h
    refine z_calli b (z_runV (q0 := 47 + i26) (As := []) (st := []) b (k_Jx4a65c_size_8abf5 hrw S24 (S24.2.1 0) _ h) cf_Jx4a65c_size_8abf5 (kw_dyn cy a rw S24 g28) rfl wm_X11_117 wi_Jx4a65c_size_8abf5 ws_Jx4a65c_size_8abf5 dX11_statute_92 rfl (Nat.le_of_ble_eq_true rfl) ⟨by decide, by decide, g25.1, g25.2⟩) (fun r29 S30 h => ?_)
    obtain ⟨g31, h⟩ := h
    exact z_iret (u := S30) b rfl dX11_statute_95 h rfl g31.1 g31.2
  · replace h := h.2 c1
    refine z_iconst (v := (-1)) b dX11_statute_61 (by decide) ?_
    obtain ⟨g32, h⟩ := h
    exact z_iret (u := S18) b rfl dX11_statute_62 h rfl g32.1 g32.2

def w_X11_statute (cy : Nat → ClassId) (tE : Nat) (mc ms : Nat) (S : KS) (p0 : Int32) (post : Int32 → KS → Prop) : Prop :=
  (0 ≤ mc ∧ 0 ≤ ms) ∧ w_X11_takeTape cy tE S (fun S3 => (0 ≤ mc ∧ 0 ≤ ms) ∧ w_X11_isWithin cy tE S3 p0 1 (fun r5 S6 => ((r5.toInt ≠ 0 → ∃ n, lpn (w_X11_statute_F16 cy tE mc ms post (w_X11_statute_B51 cy tE mc ms post)) (fun _ _ _ _ _ => False) n S6 0 0 p0 0) ∧ (r5.toInt = 0 → (0 ≤ mc ∧ 0 ≤ ms) ∧ post (-1) S6))))

set_option maxHeartbeats 200000 in
set_option maxRecDepth 100000 in
theorem k_X11_statute {l : Launch} {D : va_G} {cy : Nat → ClassId} {T0 tB tE : Nat} {a : Nat → Nat} {rw : Nat → Option Nat} (hrw : ∀ i, i < 6 → rw i = some (a (12 + 2 * i))) {mc ms : Nat} (S : KS) (p0 : Int32) (post : Int32 → KS → Prop) (h : w_X11_statute cy tE mc ms S p0 post) : Ct l D cy T0 tB tE yX11_statute cX11_statute 3 (some .int) 37 847 mc ms (kw cy a rw S) [.ref (a 0), .int p0] (QI D (U := KS) post (kw cy a rw)) := by
  refine Ct.ofZ RX11 "statute" [(0, .ref (a 0)), (1, .int p0)] rfl rfl rfl rfl (Nat.le_of_ble_eq_true rfl) ?_
  intro p e R s m args below meth c A b
  unfold w_X11_statute at h
  refine z_aload_n b dX11_statute_0 rfl rfl ?_
  obtain ⟨g1, h⟩ := h
  refine z_callv b (z_runV (q0 := 0) (As := []) (st := []) b (k_X11_takeTape hrw S _ h) cf_X11_takeTape (kw_0 cy a rw S) rfl wm_X11_93 wi_X11_takeTape ws_X11_takeTape dX11_statute_1 rfl (Nat.le_of_ble_eq_true rfl) ⟨by decide, by decide, g1.1, g1.2⟩) (fun S3 h => ?_)
  refine z_iload_n b dX11_statute_4 rfl rfl ?_
  refine z_iconst (v := 1) b dX11_statute_5 (by decide) ?_
  obtain ⟨g4, h⟩ := h
  refine z_calli b (z_runS (As := [.int p0, .int 1]) (st := []) b (k_X11_isWithin hrw S3 p0 1 _ h) cf_X11_isWithin wm_X11_73 ws_X11_isWithin dX11_statute_6 rfl (Nat.le_of_ble_eq_true rfl) ⟨by decide, by decide, g4.1, g4.2⟩) (fun r5 S6 h => ?_)
  refine y_if_ne (tgt := 14) (xl := r5.toInt) b rfl dX11_statute_9 (by decide) (fun c1 => ?_) (fun c1 => ?_)
  · replace h := h.1 c1
    refine z_iconst (v := 0) b dX11_statute_14 (by decide) ?_
    refine z_istore_n (lv' := [(2, .int 0), (0, .ref (a 0)), (1, .int p0)]) b dX11_statute_15 rfl (by decide) rfl ?_
    refine z_lv0 (lv' := [(0, .ref (a 0)), (1, .int p0), (2, .int 0)]) [1, 2, 0] rfl ?_
    obtain ⟨n, h⟩ := h
    exact zl_X11_statute_L16 hrw b (fun S nc ns x1 h => z_X11_statute_B51 hrw b _ _ _ _ h) n _ _ _ _ _ h
  · replace h := h.2 c1
    refine z_iconst (v := (-1)) b dX11_statute_12 (by decide) ?_
    obtain ⟨g33, h⟩ := h
    exact z_iret (u := S6) b rfl dX11_statute_13 h rfl g33.1 g33.2

def w_J6_bitCount_0f7a4 (cy : Nat → ClassId) (tE : Nat) (S : KS) (p0 : Int32) (post : Int32 → KS → Prop) : Prop :=
  post ((((((((p0 - (((p0).toUInt32 >>> ((1 : Int32).toUInt32 &&& Int32.toUInt32 31)).toInt32 &&& 1431655765)) &&& 858993459) + ((((p0 - (((p0).toUInt32 >>> ((1 : Int32).toUInt32 &&& Int32.toUInt32 31)).toInt32 &&& 1431655765))).toUInt32 >>> ((2 : Int32).toUInt32 &&& Int32.toUInt32 31)).toInt32 &&& 858993459)) + (((((p0 - (((p0).toUInt32 >>> ((1 : Int32).toUInt32 &&& Int32.toUInt32 31)).toInt32 &&& 1431655765)) &&& 858993459) + ((((p0 - (((p0).toUInt32 >>> ((1 : Int32).toUInt32 &&& Int32.toUInt32 31)).toInt32 &&& 1431655765))).toUInt32 >>> ((2 : Int32).toUInt32 &&& Int32.toUInt32 31)).toInt32 &&& 858993459))).toUInt32 >>> ((4 : Int32).toUInt32 &&& Int32.toUInt32 31)).toInt32) &&& 252645135) + (((((((p0 - (((p0).toUInt32 >>> ((1 : Int32).toUInt32 &&& Int32.toUInt32 31)).toInt32 &&& 1431655765)) &&& 858993459) + ((((p0 - (((p0).toUInt32 >>> ((1 : Int32).toUInt32 &&& Int32.toUInt32 31)).toInt32 &&& 1431655765))).toUInt32 >>> ((2 : Int32).toUInt32 &&& Int32.toUInt32 31)).toInt32 &&& 858993459)) + (((((p0 - (((p0).toUInt32 >>> ((1 : Int32).toUInt32 &&& Int32.toUInt32 31)).toInt32 &&& 1431655765)) &&& 858993459) + ((((p0 - (((p0).toUInt32 >>> ((1 : Int32).toUInt32 &&& Int32.toUInt32 31)).toInt32 &&& 1431655765))).toUInt32 >>> ((2 : Int32).toUInt32 &&& Int32.toUInt32 31)).toInt32 &&& 858993459))).toUInt32 >>> ((4 : Int32).toUInt32 &&& Int32.toUInt32 31)).toInt32) &&& 252645135)).toUInt32 >>> ((8 : Int32).toUInt32 &&& Int32.toUInt32 31)).toInt32) + ((((((((p0 - (((p0).toUInt32 >>> ((1 : Int32).toUInt32 &&& Int32.toUInt32 31)).toInt32 &&& 1431655765)) &&& 858993459) + ((((p0 - (((p0).toUInt32 >>> ((1 : Int32).toUInt32 &&& Int32.toUInt32 31)).toInt32 &&& 1431655765))).toUInt32 >>> ((2 : Int32).toUInt32 &&& Int32.toUInt32 31)).toInt32 &&& 858993459)) + (((((p0 - (((p0).toUInt32 >>> ((1 : Int32).toUInt32 &&& Int32.toUInt32 31)).toInt32 &&& 1431655765)) &&& 858993459) + ((((p0 - (((p0).toUInt32 >>> ((1 : Int32).toUInt32 &&& Int32.toUInt32 31)).toInt32 &&& 1431655765))).toUInt32 >>> ((2 : Int32).toUInt32 &&& Int32.toUInt32 31)).toInt32 &&& 858993459))).toUInt32 >>> ((4 : Int32).toUInt32 &&& Int32.toUInt32 31)).toInt32) &&& 252645135) + (((((((p0 - (((p0).toUInt32 >>> ((1 : Int32).toUInt32 &&& Int32.toUInt32 31)).toInt32 &&& 1431655765)) &&& 858993459) + ((((p0 - (((p0).toUInt32 >>> ((1 : Int32).toUInt32 &&& Int32.toUInt32 31)).toInt32 &&& 1431655765))).toUInt32 >>> ((2 : Int32).toUInt32 &&& Int32.toUInt32 31)).toInt32 &&& 858993459)) + (((((p0 - (((p0).toUInt32 >>> ((1 : Int32).toUInt32 &&& Int32.toUInt32 31)).toInt32 &&& 1431655765)) &&& 858993459) + ((((p0 - (((p0).toUInt32 >>> ((1 : Int32).toUInt32 &&& Int32.toUInt32 31)).toInt32 &&& 1431655765))).toUInt32 >>> ((2 : Int32).toUInt32 &&& Int32.toUInt32 31)).toInt32 &&& 858993459))).toUInt32 >>> ((4 : Int32).toUInt32 &&& Int32.toUInt32 31)).toInt32) &&& 252645135)).toUInt32 >>> ((8 : Int32).toUInt32 &&& Int32.toUInt32 31)).toInt32)).toUInt32 >>> ((16 : Int32).toUInt32 &&& Int32.toUInt32 31)).toInt32) &&& 63) S

set_option maxHeartbeats 200000 in
set_option maxRecDepth 100000 in
theorem k_J6_bitCount_0f7a4 {l : Launch} {D : va_G} {cy : Nat → ClassId} {T0 tB tE : Nat} {a : Nat → Nat} {rw : Nat → Option Nat} (hrw : ∀ i, i < 6 → rw i = some (a (12 + 2 * i))) (S : KS) (p0 : Int32) (post : Int32 → KS → Prop) (h : w_J6_bitCount_0f7a4 cy tE S p0 post) : Ct l D cy T0 tB tE yJ6_bitCount_0f7a4 cJ6_bitCount_0f7a4 1 (some .int) 0 0 0 0 (kw cy a rw S) [.int p0] (QI D (U := KS) post (kw cy a rw)) := by
  refine Ct.ofZ RJ6 "bitCount" [(0, .int p0)] rfl rfl rfl rfl (Nat.le_of_ble_eq_true rfl) ?_
  intro p e R s m args below meth c A b
  unfold w_J6_bitCount_0f7a4 at h
  refine z_iload_n b dJ6_bitCount_0f7a4_0 rfl rfl ?_
  refine z_iload_n b dJ6_bitCount_0f7a4_1 rfl rfl ?_
  refine z_iconst (v := 1) b dJ6_bitCount_0f7a4_2 (by decide) ?_
  refine z_iushr b dJ6_bitCount_0f7a4_3 rfl ?_
  refine z_ldcw b wc_J6_265 dJ6_bitCount_0f7a4_4 ?_
  refine z_iand b dJ6_bitCount_0f7a4_7 rfl ?_
  refine z_isub b dJ6_bitCount_0f7a4_8 rfl ?_
  refine z_istore_n (lv' := [(0, .int (p0 - (((p0).toUInt32 >>> ((1 : Int32).toUInt32 &&& Int32.toUInt32 31)).toInt32 &&& 1431655765)))]) b dJ6_bitCount_0f7a4_9 rfl (by decide) rfl ?_
  refine z_iload_n b dJ6_bitCount_0f7a4_10 rfl rfl ?_
  refine z_ldcw b wc_J6_266 dJ6_bitCount_0f7a4_11 ?_
  refine z_iand b dJ6_bitCount_0f7a4_14 rfl ?_
  refine z_iload_n b dJ6_bitCount_0f7a4_15 rfl rfl ?_
  refine z_iconst (v := 2) b dJ6_bitCount_0f7a4_16 (by decide) ?_
  refine z_iushr b dJ6_bitCount_0f7a4_17 rfl ?_
  refine z_ldcw b wc_J6_266 dJ6_bitCount_0f7a4_18 ?_
  refine z_iand b dJ6_bitCount_0f7a4_21 rfl ?_
  refine z_iadd b dJ6_bitCount_0f7a4_22 rfl ?_
  refine z_istore_n (lv' := [(0, .int (((p0 - (((p0).toUInt32 >>> ((1 : Int32).toUInt32 &&& Int32.toUInt32 31)).toInt32 &&& 1431655765)) &&& 858993459) + ((((p0 - (((p0).toUInt32 >>> ((1 : Int32).toUInt32 &&& Int32.toUInt32 31)).toInt32 &&& 1431655765))).toUInt32 >>> ((2 : Int32).toUInt32 &&& Int32.toUInt32 31)).toInt32 &&& 858993459)))]) b dJ6_bitCount_0f7a4_23 rfl (by decide) rfl ?_
  refine z_iload_n b dJ6_bitCount_0f7a4_24 rfl rfl ?_
  refine z_iload_n b dJ6_bitCount_0f7a4_25 rfl rfl ?_
  refine z_iconst (v := 4) b dJ6_bitCount_0f7a4_26 (by decide) ?_
  refine z_iushr b dJ6_bitCount_0f7a4_27 rfl ?_
  refine z_iadd b dJ6_bitCount_0f7a4_28 rfl ?_
  refine z_ldcw b wc_J6_267 dJ6_bitCount_0f7a4_29 ?_
  refine z_iand b dJ6_bitCount_0f7a4_32 rfl ?_
  refine z_istore_n (lv' := [(0, .int (((((p0 - (((p0).toUInt32 >>> ((1 : Int32).toUInt32 &&& Int32.toUInt32 31)).toInt32 &&& 1431655765)) &&& 858993459) + ((((p0 - (((p0).toUInt32 >>> ((1 : Int32).toUInt32 &&& Int32.toUInt32 31)).toInt32 &&& 1431655765))).toUInt32 >>> ((2 : Int32).toUInt32 &&& Int32.toUInt32 31)).toInt32 &&& 858993459)) + (((((p0 - (((p0).toUInt32 >>> ((1 : Int32).toUInt32 &&& Int32.toUInt32 31)).toInt32 &&& 1431655765)) &&& 858993459) + ((((p0 - (((p0).toUInt32 >>> ((1 : Int32).toUInt32 &&& Int32.toUInt32 31)).toInt32 &&& 1431655765))).toUInt32 >>> ((2 : Int32).toUInt32 &&& Int32.toUInt32 31)).toInt32 &&& 858993459))).toUInt32 >>> ((4 : Int32).toUInt32 &&& Int32.toUInt32 31)).toInt32) &&& 252645135))]) b dJ6_bitCount_0f7a4_33 rfl (by decide) rfl ?_
  refine z_iload_n b dJ6_bitCount_0f7a4_34 rfl rfl ?_
  refine z_iload_n b dJ6_bitCount_0f7a4_35 rfl rfl ?_
  refine z_bipush (v := 8) b dJ6_bitCount_0f7a4_36 (by decide) ?_
  refine z_iushr b dJ6_bitCount_0f7a4_38 rfl ?_
  refine z_iadd b dJ6_bitCount_0f7a4_39 rfl ?_
  refine z_istore_n (lv' := [(0, .int ((((((p0 - (((p0).toUInt32 >>> ((1 : Int32).toUInt32 &&& Int32.toUInt32 31)).toInt32 &&& 1431655765)) &&& 858993459) + ((((p0 - (((p0).toUInt32 >>> ((1 : Int32).toUInt32 &&& Int32.toUInt32 31)).toInt32 &&& 1431655765))).toUInt32 >>> ((2 : Int32).toUInt32 &&& Int32.toUInt32 31)).toInt32 &&& 858993459)) + (((((p0 - (((p0).toUInt32 >>> ((1 : Int32).toUInt32 &&& Int32.toUInt32 31)).toInt32 &&& 1431655765)) &&& 858993459) + ((((p0 - (((p0).toUInt32 >>> ((1 : Int32).toUInt32 &&& Int32.toUInt32 31)).toInt32 &&& 1431655765))).toUInt32 >>> ((2 : Int32).toUInt32 &&& Int32.toUInt32 31)).toInt32 &&& 858993459))).toUInt32 >>> ((4 : Int32).toUInt32 &&& Int32.toUInt32 31)).toInt32) &&& 252645135) + (((((((p0 - (((p0).toUInt32 >>> ((1 : Int32).toUInt32 &&& Int32.toUInt32 31)).toInt32 &&& 1431655765)) &&& 858993459) + ((((p0 - (((p0).toUInt32 >>> ((1 : Int32).toUInt32 &&& Int32.toUInt32 31)).toInt32 &&& 1431655765))).toUInt32 >>> ((2 : Int32).toUInt32 &&& Int32.toUInt32 31)).toInt32 &&& 858993459)) + (((((p0 - (((p0).toUInt32 >>> ((1 : Int32).toUInt32 &&& Int32.toUInt32 31)).toInt32 &&& 1431655765)) &&& 858993459) + ((((p0 - (((p0).toUInt32 >>> ((1 : Int32).toUInt32 &&& Int32.toUInt32 31)).toInt32 &&& 1431655765))).toUInt32 >>> ((2 : Int32).toUInt32 &&& Int32.toUInt32 31)).toInt32 &&& 858993459))).toUInt32 >>> ((4 : Int32).toUInt32 &&& Int32.toUInt32 31)).toInt32) &&& 252645135)).toUInt32 >>> ((8 : Int32).toUInt32 &&& Int32.toUInt32 31)).toInt32))]) b dJ6_bitCount_0f7a4_40 rfl (by decide) rfl ?_
  refine z_iload_n b dJ6_bitCount_0f7a4_41 rfl rfl ?_
  refine z_iload_n b dJ6_bitCount_0f7a4_42 rfl rfl ?_
  refine z_bipush (v := 16) b dJ6_bitCount_0f7a4_43 (by decide) ?_
  refine z_iushr b dJ6_bitCount_0f7a4_45 rfl ?_
  refine z_iadd b dJ6_bitCount_0f7a4_46 rfl ?_
  refine z_istore_n (lv' := [(0, .int (((((((p0 - (((p0).toUInt32 >>> ((1 : Int32).toUInt32 &&& Int32.toUInt32 31)).toInt32 &&& 1431655765)) &&& 858993459) + ((((p0 - (((p0).toUInt32 >>> ((1 : Int32).toUInt32 &&& Int32.toUInt32 31)).toInt32 &&& 1431655765))).toUInt32 >>> ((2 : Int32).toUInt32 &&& Int32.toUInt32 31)).toInt32 &&& 858993459)) + (((((p0 - (((p0).toUInt32 >>> ((1 : Int32).toUInt32 &&& Int32.toUInt32 31)).toInt32 &&& 1431655765)) &&& 858993459) + ((((p0 - (((p0).toUInt32 >>> ((1 : Int32).toUInt32 &&& Int32.toUInt32 31)).toInt32 &&& 1431655765))).toUInt32 >>> ((2 : Int32).toUInt32 &&& Int32.toUInt32 31)).toInt32 &&& 858993459))).toUInt32 >>> ((4 : Int32).toUInt32 &&& Int32.toUInt32 31)).toInt32) &&& 252645135) + (((((((p0 - (((p0).toUInt32 >>> ((1 : Int32).toUInt32 &&& Int32.toUInt32 31)).toInt32 &&& 1431655765)) &&& 858993459) + ((((p0 - (((p0).toUInt32 >>> ((1 : Int32).toUInt32 &&& Int32.toUInt32 31)).toInt32 &&& 1431655765))).toUInt32 >>> ((2 : Int32).toUInt32 &&& Int32.toUInt32 31)).toInt32 &&& 858993459)) + (((((p0 - (((p0).toUInt32 >>> ((1 : Int32).toUInt32 &&& Int32.toUInt32 31)).toInt32 &&& 1431655765)) &&& 858993459) + ((((p0 - (((p0).toUInt32 >>> ((1 : Int32).toUInt32 &&& Int32.toUInt32 31)).toInt32 &&& 1431655765))).toUInt32 >>> ((2 : Int32).toUInt32 &&& Int32.toUInt32 31)).toInt32 &&& 858993459))).toUInt32 >>> ((4 : Int32).toUInt32 &&& Int32.toUInt32 31)).toInt32) &&& 252645135)).toUInt32 >>> ((8 : Int32).toUInt32 &&& Int32.toUInt32 31)).toInt32) + ((((((((p0 - (((p0).toUInt32 >>> ((1 : Int32).toUInt32 &&& Int32.toUInt32 31)).toInt32 &&& 1431655765)) &&& 858993459) + ((((p0 - (((p0).toUInt32 >>> ((1 : Int32).toUInt32 &&& Int32.toUInt32 31)).toInt32 &&& 1431655765))).toUInt32 >>> ((2 : Int32).toUInt32 &&& Int32.toUInt32 31)).toInt32 &&& 858993459)) + (((((p0 - (((p0).toUInt32 >>> ((1 : Int32).toUInt32 &&& Int32.toUInt32 31)).toInt32 &&& 1431655765)) &&& 858993459) + ((((p0 - (((p0).toUInt32 >>> ((1 : Int32).toUInt32 &&& Int32.toUInt32 31)).toInt32 &&& 1431655765))).toUInt32 >>> ((2 : Int32).toUInt32 &&& Int32.toUInt32 31)).toInt32 &&& 858993459))).toUInt32 >>> ((4 : Int32).toUInt32 &&& Int32.toUInt32 31)).toInt32) &&& 252645135) + (((((((p0 - (((p0).toUInt32 >>> ((1 : Int32).toUInt32 &&& Int32.toUInt32 31)).toInt32 &&& 1431655765)) &&& 858993459) + ((((p0 - (((p0).toUInt32 >>> ((1 : Int32).toUInt32 &&& Int32.toUInt32 31)).toInt32 &&& 1431655765))).toUInt32 >>> ((2 : Int32).toUInt32 &&& Int32.toUInt32 31)).toInt32 &&& 858993459)) + (((((p0 - (((p0).toUInt32 >>> ((1 : Int32).toUInt32 &&& Int32.toUInt32 31)).toInt32 &&& 1431655765)) &&& 858993459) + ((((p0 - (((p0).toUInt32 >>> ((1 : Int32).toUInt32 &&& Int32.toUInt32 31)).toInt32 &&& 1431655765))).toUInt32 >>> ((2 : Int32).toUInt32 &&& Int32.toUInt32 31)).toInt32 &&& 858993459))).toUInt32 >>> ((4 : Int32).toUInt32 &&& Int32.toUInt32 31)).toInt32) &&& 252645135)).toUInt32 >>> ((8 : Int32).toUInt32 &&& Int32.toUInt32 31)).toInt32)).toUInt32 >>> ((16 : Int32).toUInt32 &&& Int32.toUInt32 31)).toInt32))]) b dJ6_bitCount_0f7a4_47 rfl (by decide) rfl ?_
  refine z_iload_n b dJ6_bitCount_0f7a4_48 rfl rfl ?_
  refine z_bipush (v := 63) b dJ6_bitCount_0f7a4_49 (by decide) ?_
  refine z_iand b dJ6_bitCount_0f7a4_51 rfl ?_
  exact z_iret (u := S) b rfl dJ6_bitCount_0f7a4_52 h rfl (by decide) (by decide)

def w_X11_friends_B22 (cy : Nat → ClassId) (tE : Nat) (post : Int32 → KS → Prop) (S : KS)  : Prop :=
  post (-1) S

set_option maxHeartbeats 200000 in
set_option maxRecDepth 100000 in
theorem z_X11_friends_B22 {p : Program} {l : Launch} {e : Env} {R : Room} {s : State} {m : MethodId} {args : Array Value} {below : List Frame} {meth : Method} {c : Code} {D : va_G} {cy : Nat → ClassId} {T0 tB tE : Nat} {A : Nat → Prop} {a : Nat → Nat} {rw : Nat → Option Nat} (hrw : ∀ i, i < 6 → rw i = some (a (12 + 2 * i))) {post : Int32 → KS → Prop} (b : Bz p R s m args meth c D cy T0 tB tE A 6 cX11_friends RX11 (some .int) "friends" 6 146 0 0) (S : KS)  (h : w_X11_friends_B22 cy tE post S ) : Z p l e R s m args below meth c D A 6 (MQ below (QI D (U := KS) post (kw cy a rw) A) args s 0 0 A) 0 0 (kw cy a rw S) [] 22 [] := by
  unfold w_X11_friends_B22 at h
  refine z_iconst (v := (-1)) b dX11_friends_22 (by decide) ?_
  exact z_iret (u := S) b rfl dX11_friends_23 h rfl (by decide) (by decide)

def w_X11_friends_B83 (cy : Nat → ClassId) (tE : Nat) (post : Int32 → KS → Prop) (k36 : KS → Int32 → Int32 → Int32 → Int32 → Int32 → Prop) (k89 : KS → Int32 → Int32 → Int32 → Int32 → Prop) (S : KS) (x1 : Int32) (x2 : Int32) (x3 : Int32) (x4 : Int32) (x5 : Int32) : Prop :=
  k36 S x1 x2 x3 x4 (x5 + 1)

set_option maxHeartbeats 200000 in
set_option maxRecDepth 100000 in
theorem z_X11_friends_B83 {p : Program} {l : Launch} {e : Env} {R : Room} {s : State} {m : MethodId} {args : Array Value} {below : List Frame} {meth : Method} {c : Code} {D : va_G} {cy : Nat → ClassId} {T0 tB tE : Nat} {A : Nat → Prop} {a : Nat → Nat} {rw : Nat → Option Nat} (hrw : ∀ i, i < 6 → rw i = some (a (12 + 2 * i))) {post : Int32 → KS → Prop} {k36 : KS → Int32 → Int32 → Int32 → Int32 → Int32 → Prop} {k89 : KS → Int32 → Int32 → Int32 → Int32 → Prop} (b : Bz p R s m args meth c D cy T0 tB tE A 6 cX11_friends RX11 (some .int) "friends" 6 146 0 0) (hk36 : ∀ (S : KS) (x1 : Int32) (x2 : Int32) (x3 : Int32) (x4 : Int32) (x5 : Int32), k36 S x1 x2 x3 x4 x5 → Z p l e R s m args below meth c D A 6 (MQ below (QI D (U := KS) post (kw cy a rw) A) args s 0 0 A) 0 0 (kw cy a rw S) [(0, .ref (a 0)), (1, .int x1), (2, .int x2), (3, .int x3), (4, .int x4), (5, .int x5)] 36 []) (hk89 : ∀ (S : KS) (x1 : Int32) (x2 : Int32) (x3 : Int32) (x4 : Int32), k89 S x1 x2 x3 x4 → Z p l e R s m args below meth c D A 6 (MQ below (QI D (U := KS) post (kw cy a rw) A) args s 0 0 A) 0 0 (kw cy a rw S) [(0, .ref (a 0)), (1, .int x1), (2, .int x2), (3, .int x3), (4, .int x4)] 89 []) (S : KS) (x1 : Int32) (x2 : Int32) (x3 : Int32) (x4 : Int32) (x5 : Int32) (h : w_X11_friends_B83 cy tE post k36 k89 S x1 x2 x3 x4 x5) : Z p l e R s m args below meth c D A 6 (MQ below (QI D (U := KS) post (kw cy a rw) A) args s 0 0 A) 0 0 (kw cy a rw S) [(0, .ref (a 0)), (1, .int x1), (2, .int x2), (3, .int x3), (4, .int x4), (5, .int x5)] 83 [] := by
  unfold w_X11_friends_B83 at h
  refine z_iinc (k9 := 5) (v := (x5 + 1)) (lv' := [(5, .int (x5 + 1)), (0, .ref (a 0)), (1, .int x1), (2, .int x2), (3, .int x3), (4, .int x4)]) b dX11_friends_83 rfl rfl (by decide) rfl ?_
  refine z_goto (tgt := 36) b dX11_friends_86 (by decide) ?_
  refine z_lv0 (lv' := [(0, .ref (a 0)), (1, .int x1), (2, .int x2), (3, .int x3), (4, .int x4), (5, .int (x5 + 1))]) [1, 2, 3, 4, 5, 0] rfl ?_
  exact hk36 _ _ _ _ _ _ h

def w_X11_friends_F36 (cy : Nat → ClassId) (tE : Nat) (post : Int32 → KS → Prop) (k89 : KS → Int32 → Int32 → Int32 → Int32 → Prop) (k36 : KS → Int32 → Int32 → Int32 → Int32 → Int32 → Prop) (S : KS) (x1 : Int32) (x2 : Int32) (x3 : Int32) (x4 : Int32) (x5 : Int32) : Prop :=
  ((7 < x5.toInt → k89 S x1 x2 x3 x4) ∧ (x5.toInt ≤ 7 → w_J6_bitCount_0f7a4 cy tE S x5 (fun r7 S8 => ((r7.toInt = x4.toInt → w_X8_begin cy tE S8 x2 x3 x5 0 (fun S10 => w_X8_first cy tE S10 x1 (fun r11 S12 => ((r11.toInt = (-1) → w_X11_friends_B83 cy tE post k36 k89 S12 x1 x2 x3 x4 x5) ∧ (r11.toInt ≠ (-1) → post x5 S12))))) ∧ (r7.toInt ≠ x4.toInt → w_X11_friends_B83 cy tE post k36 k89 S8 x1 x2 x3 x4 x5)))))

set_option maxHeartbeats 200000 in
set_option maxRecDepth 100000 in
theorem z_X11_friends_F36 {p : Program} {l : Launch} {e : Env} {R : Room} {s : State} {m : MethodId} {args : Array Value} {below : List Frame} {meth : Method} {c : Code} {D : va_G} {cy : Nat → ClassId} {T0 tB tE : Nat} {A : Nat → Prop} {a : Nat → Nat} {rw : Nat → Option Nat} (hrw : ∀ i, i < 6 → rw i = some (a (12 + 2 * i))) {post : Int32 → KS → Prop} {k89 : KS → Int32 → Int32 → Int32 → Int32 → Prop} {k36 : KS → Int32 → Int32 → Int32 → Int32 → Int32 → Prop} (b : Bz p R s m args meth c D cy T0 tB tE A 6 cX11_friends RX11 (some .int) "friends" 6 146 0 0) (hk89 : ∀ (S : KS) (x1 : Int32) (x2 : Int32) (x3 : Int32) (x4 : Int32), k89 S x1 x2 x3 x4 → Z p l e R s m args below meth c D A 6 (MQ below (QI D (U := KS) post (kw cy a rw) A) args s 0 0 A) 0 0 (kw cy a rw S) [(0, .ref (a 0)), (1, .int x1), (2, .int x2), (3, .int x3), (4, .int x4)] 89 []) (hk36 : ∀ (S : KS) (x1 : Int32) (x2 : Int32) (x3 : Int32) (x4 : Int32) (x5 : Int32), k36 S x1 x2 x3 x4 x5 → Z p l e R s m args below meth c D A 6 (MQ below (QI D (U := KS) post (kw cy a rw) A) args s 0 0 A) 0 0 (kw cy a rw S) [(0, .ref (a 0)), (1, .int x1), (2, .int x2), (3, .int x3), (4, .int x4), (5, .int x5)] 36 []) (S : KS) (x1 : Int32) (x2 : Int32) (x3 : Int32) (x4 : Int32) (x5 : Int32) (h : w_X11_friends_F36 cy tE post k89 k36 S x1 x2 x3 x4 x5) : Z p l e R s m args below meth c D A 6 (MQ below (QI D (U := KS) post (kw cy a rw) A) args s 0 0 A) 0 0 (kw cy a rw S) [(0, .ref (a 0)), (1, .int x1), (2, .int x2), (3, .int x3), (4, .int x4), (5, .int x5)] 36 [] := by
  unfold w_X11_friends_F36 at h
  refine z_iload b dX11_friends_36 rfl ?_
  refine z_bipush (v := 7) b dX11_friends_38 (by decide) ?_
  refine y_icmp_gt (tgt := 89) (xl := x5.toInt) (yl := 7) b rfl (by decide) dX11_friends_40 (by decide) (fun c1 => ?_) (fun c1 => ?_)
  · replace h := h.1 c1
    refine z_lv0 (lv' := [(0, .ref (a 0)), (1, .int x1), (2, .int x2), (3, .int x3), (4, .int x4)]) [0, 1, 2, 3, 4] rfl ?_
    exact hk89 _ _ _ _ _ h
  · replace h := h.2 c1
    refine z_iload b dX11_friends_43 rfl ?_
    refine z_calli b (z_runS (As := [.int x5]) (st := []) b (k_J6_bitCount_0f7a4 hrw S x5 _ h) cf_J6_bitCount_0f7a4 wm_X11_223 ws_J6_bitCount_0f7a4 dX11_friends_45 rfl (Nat.le_of_ble_eq_true rfl) ⟨by decide, by decide, Nat.le_of_ble_eq_true rfl, Nat.le_of_ble_eq_true rfl⟩) (fun r7 S8 h => ?_)
    refine z_iload b dX11_friends_48 rfl ?_
    refine y_icmp_eq (tgt := 56) (xl := r7.toInt) (yl := x4.toInt) b rfl rfl dX11_friends_50 (by decide) (fun c1 => ?_) (fun c1 => ?_)
    · replace h := h.1 c1
      refine z_aload_n b dX11_friends_56 rfl rfl ?_
      refine z_get (q0 := 0) (k9 := 6) (v := .ref (a 38)) b (kw_0 cy a rw S8) rfl in_X11 (by decide) wf_X11_52 rfl dX11_friends_57 ?_
      refine z_iload_n b dX11_friends_60 rfl rfl ?_
      refine z_iload_n b dX11_friends_61 rfl rfl ?_
      refine z_iload b dX11_friends_62 rfl ?_
      refine z_iconst (v := 0) b dX11_friends_64 (by decide) ?_
      refine z_callv b (z_runV (q0 := 38) (As := [.int x2, .int x3, .int x5, .int 0]) (st := []) b (k_X8_begin hrw S8 x2 x3 x5 0 _ h) cf_X8_begin (kw_38 cy a rw S8) rfl wm_X11_206 wi_X8_begin ws_X8_begin dX11_friends_65 rfl (Nat.le_of_ble_eq_true rfl) ⟨by decide, by decide, Nat.le_of_ble_eq_true rfl, Nat.le_of_ble_eq_true rfl⟩) (fun S10 h => ?_)
      refine z_aload_n b dX11_friends_68 rfl rfl ?_
      refine z_get (q0 := 0) (k9 := 6) (v := .ref (a 38)) b (kw_0 cy a rw S10) rfl in_X11 (by decide) wf_X11_52 rfl dX11_friends_69 ?_
      refine z_iload_n b dX11_friends_72 rfl rfl ?_
      refine z_calli b (z_runV (q0 := 38) (As := [.int x1]) (st := []) b (k_X8_first hrw S10 x1 _ h) cf_X8_first (kw_38 cy a rw S10) rfl wm_X11_210 wi_X8_first ws_X8_first dX11_friends_73 rfl (Nat.le_of_ble_eq_true rfl) ⟨by decide, by decide, Nat.le_of_ble_eq_true rfl, Nat.le_of_ble_eq_true rfl⟩) (fun r11 S12 h => ?_)
      refine z_iconst (v := (-1)) b dX11_friends_76 (by decide) ?_
      refine y_icmp_eq (tgt := 83) (xl := r11.toInt) (yl := (-1)) b rfl (by decide) dX11_friends_77 (by decide) (fun c1 => ?_) (fun c1 => ?_)
      · replace h := h.1 c1
        exact z_X11_friends_B83 hrw b hk36 hk89 _ _ _ _ _ _ h
      · replace h := h.2 c1
        refine z_iload b dX11_friends_80 rfl ?_
        exact z_iret (u := S12) b rfl dX11_friends_82 h rfl (by decide) (by decide)
    · replace h := h.2 c1
      refine z_goto (tgt := 83) b dX11_friends_53 (by decide) ?_
      exact z_X11_friends_B83 hrw b hk36 hk89 _ _ _ _ _ _ h

set_option maxHeartbeats 200000 in
set_option maxRecDepth 100000 in
theorem zl_X11_friends_L36 {p : Program} {l : Launch} {e : Env} {R : Room} {s : State} {m : MethodId} {args : Array Value} {below : List Frame} {meth : Method} {c : Code} {D : va_G} {cy : Nat → ClassId} {T0 tB tE : Nat} {A : Nat → Prop} {a : Nat → Nat} {rw : Nat → Option Nat} (hrw : ∀ i, i < 6 → rw i = some (a (12 + 2 * i))) {post : Int32 → KS → Prop} {k89 : KS → Int32 → Int32 → Int32 → Int32 → Prop} (b : Bz p R s m args meth c D cy T0 tB tE A 6 cX11_friends RX11 (some .int) "friends" 6 146 0 0) (hk89 : ∀ (S : KS) (x1 : Int32) (x2 : Int32) (x3 : Int32) (x4 : Int32), k89 S x1 x2 x3 x4 → Z p l e R s m args below meth c D A 6 (MQ below (QI D (U := KS) post (kw cy a rw) A) args s 0 0 A) 0 0 (kw cy a rw S) [(0, .ref (a 0)), (1, .int x1), (2, .int x2), (3, .int x3), (4, .int x4)] 89 []) : ∀ (n : Nat) (S : KS) (x1 : Int32) (x2 : Int32) (x3 : Int32) (x4 : Int32) (x5 : Int32), lpn (w_X11_friends_F36 cy tE post k89) (fun _ _ _ _ _ _ => False) n S x1 x2 x3 x4 x5 → Z p l e R s m args below meth c D A 6 (MQ below (QI D (U := KS) post (kw cy a rw) A) args s 0 0 A) 0 0 (kw cy a rw S) [(0, .ref (a 0)), (1, .int x1), (2, .int x2), (3, .int x3), (4, .int x4), (5, .int x5)] 36 [] := by
  intro n
  induction n with
  | zero => intro _ _ _ _ _ _ h; exact h.elim
  | succ n ih => intro S x1 x2 x3 x4 x5 h; exact z_X11_friends_F36 hrw b hk89 ih S x1 x2 x3 x4 x5 h

def w_X11_friends_B89 (cy : Nat → ClassId) (tE : Nat) (post : Int32 → KS → Prop) (k27 : KS → Int32 → Int32 → Int32 → Int32 → Prop) (k95 : KS → Prop) (S : KS) (x1 : Int32) (x2 : Int32) (x3 : Int32) (x4 : Int32) : Prop :=
  k27 S x1 x2 x3 (x4 + 1)

set_option maxHeartbeats 200000 in
set_option maxRecDepth 100000 in
theorem z_X11_friends_B89 {p : Program} {l : Launch} {e : Env} {R : Room} {s : State} {m : MethodId} {args : Array Value} {below : List Frame} {meth : Method} {c : Code} {D : va_G} {cy : Nat → ClassId} {T0 tB tE : Nat} {A : Nat → Prop} {a : Nat → Nat} {rw : Nat → Option Nat} (hrw : ∀ i, i < 6 → rw i = some (a (12 + 2 * i))) {post : Int32 → KS → Prop} {k27 : KS → Int32 → Int32 → Int32 → Int32 → Prop} {k95 : KS → Prop} (b : Bz p R s m args meth c D cy T0 tB tE A 6 cX11_friends RX11 (some .int) "friends" 6 146 0 0) (hk27 : ∀ (S : KS) (x1 : Int32) (x2 : Int32) (x3 : Int32) (x4 : Int32), k27 S x1 x2 x3 x4 → Z p l e R s m args below meth c D A 6 (MQ below (QI D (U := KS) post (kw cy a rw) A) args s 0 0 A) 0 0 (kw cy a rw S) [(0, .ref (a 0)), (1, .int x1), (2, .int x2), (3, .int x3), (4, .int x4)] 27 []) (hk95 : ∀ (S : KS), k95 S → Z p l e R s m args below meth c D A 6 (MQ below (QI D (U := KS) post (kw cy a rw) A) args s 0 0 A) 0 0 (kw cy a rw S) [] 95 []) (S : KS) (x1 : Int32) (x2 : Int32) (x3 : Int32) (x4 : Int32) (h : w_X11_friends_B89 cy tE post k27 k95 S x1 x2 x3 x4) : Z p l e R s m args below meth c D A 6 (MQ below (QI D (U := KS) post (kw cy a rw) A) args s 0 0 A) 0 0 (kw cy a rw S) [(0, .ref (a 0)), (1, .int x1), (2, .int x2), (3, .int x3), (4, .int x4)] 89 [] := by
  unfold w_X11_friends_B89 at h
  refine z_iinc (k9 := 4) (v := (x4 + 1)) (lv' := [(4, .int (x4 + 1)), (0, .ref (a 0)), (1, .int x1), (2, .int x2), (3, .int x3)]) b dX11_friends_89 rfl rfl (by decide) rfl ?_
  refine z_goto (tgt := 27) b dX11_friends_92 (by decide) ?_
  refine z_lv0 (lv' := [(0, .ref (a 0)), (1, .int x1), (2, .int x2), (3, .int x3), (4, .int (x4 + 1))]) [1, 2, 3, 4, 0] rfl ?_
  exact hk27 _ _ _ _ _ h

def w_X11_friends_F27 (cy : Nat → ClassId) (tE : Nat) (post : Int32 → KS → Prop) (k95 : KS → Prop) (k27 : KS → Int32 → Int32 → Int32 → Int32 → Prop) (S : KS) (x1 : Int32) (x2 : Int32) (x3 : Int32) (x4 : Int32) : Prop :=
  ((3 < x4.toInt → k95 S) ∧ (x4.toInt ≤ 3 → ∃ n, lpn (w_X11_friends_F36 cy tE post (w_X11_friends_B89 cy tE post k27 k95)) (fun _ _ _ _ _ _ => False) n S x1 x2 x3 x4 1))

set_option maxHeartbeats 200000 in
set_option maxRecDepth 100000 in
theorem z_X11_friends_F27 {p : Program} {l : Launch} {e : Env} {R : Room} {s : State} {m : MethodId} {args : Array Value} {below : List Frame} {meth : Method} {c : Code} {D : va_G} {cy : Nat → ClassId} {T0 tB tE : Nat} {A : Nat → Prop} {a : Nat → Nat} {rw : Nat → Option Nat} (hrw : ∀ i, i < 6 → rw i = some (a (12 + 2 * i))) {post : Int32 → KS → Prop} {k95 : KS → Prop} {k27 : KS → Int32 → Int32 → Int32 → Int32 → Prop} (b : Bz p R s m args meth c D cy T0 tB tE A 6 cX11_friends RX11 (some .int) "friends" 6 146 0 0) (hk95 : ∀ (S : KS), k95 S → Z p l e R s m args below meth c D A 6 (MQ below (QI D (U := KS) post (kw cy a rw) A) args s 0 0 A) 0 0 (kw cy a rw S) [] 95 []) (hk27 : ∀ (S : KS) (x1 : Int32) (x2 : Int32) (x3 : Int32) (x4 : Int32), k27 S x1 x2 x3 x4 → Z p l e R s m args below meth c D A 6 (MQ below (QI D (U := KS) post (kw cy a rw) A) args s 0 0 A) 0 0 (kw cy a rw S) [(0, .ref (a 0)), (1, .int x1), (2, .int x2), (3, .int x3), (4, .int x4)] 27 []) (S : KS) (x1 : Int32) (x2 : Int32) (x3 : Int32) (x4 : Int32) (h : w_X11_friends_F27 cy tE post k95 k27 S x1 x2 x3 x4) : Z p l e R s m args below meth c D A 6 (MQ below (QI D (U := KS) post (kw cy a rw) A) args s 0 0 A) 0 0 (kw cy a rw S) [(0, .ref (a 0)), (1, .int x1), (2, .int x2), (3, .int x3), (4, .int x4)] 27 [] := by
  unfold w_X11_friends_F27 at h
  refine z_iload b dX11_friends_27 rfl ?_
  refine z_iconst (v := 3) b dX11_friends_29 (by decide) ?_
  refine y_icmp_gt (tgt := 95) (xl := x4.toInt) (yl := 3) b rfl (by decide) dX11_friends_30 (by decide) (fun c1 => ?_) (fun c1 => ?_)
  · replace h := h.1 c1
    refine z_lv0 (lv' := []) [] rfl ?_
    exact hk95 _ h
  · replace h := h.2 c1
    refine z_iconst (v := 1) b dX11_friends_33 (by decide) ?_
    refine z_istore (lv' := [(5, .int 1), (0, .ref (a 0)), (1, .int x1), (2, .int x2), (3, .int x3), (4, .int x4)]) b dX11_friends_34 (by decide) rfl ?_
    refine z_lv0 (lv' := [(0, .ref (a 0)), (1, .int x1), (2, .int x2), (3, .int x3), (4, .int x4), (5, .int 1)]) [1, 2, 3, 4, 5, 0] rfl ?_
    obtain ⟨n, h⟩ := h
    exact zl_X11_friends_L36 hrw b (fun S x1 x2 x3 x4 h => z_X11_friends_B89 hrw b hk27 hk95 _ _ _ _ _ h) n _ _ _ _ _ _ h

