set_option maxHeartbeats 4000000 in
set_option maxRecDepth 100000 in
theorem zl_X2_follow_L16 {p : Program} {l : Launch} {e : Env} {R : Room} {s : State} {m : MethodId} {args : Array Value} {below : List Frame} {meth : Method} {c : Code} {D : va_G} {cy : Nat → ClassId} {T0 tB tE : Nat} {A : Nat → Prop} {a : Nat → Nat} {rw : Nat → Option Nat} (hrw : ∀ i, i < 6 → rw i = some (a (12 + 2 * i))) {post : Int32 → KS → Prop} {k74 : KS → Nat → Prop} (b : Bz p R s m args meth c D cy T0 tB tE A 6 cX2_follow RX2 (some .int) "follow" 4 101 0 0) (hk74 : ∀ (S : KS) (x1 : Nat), k74 S x1 → Z p l e R s m args below meth c D A 6 (MQ below (QI D (U := KS) post (kw cy a rw) A) args s 0 0 A) 0 0 (kw cy a rw S) [(1, .ref (a (12 + 2 * x1)))] 74 []) : ∀ (n : Nat) (S : KS) (x1 : Nat) (x3 : Int32) (x4 : Int32) (x5 : Int32), lpn (w_X2_follow_F16 cy tE post k74) (fun _ _ _ _ _ => False) n S x1 x3 x4 x5 → Z p l e R s m args below meth c D A 6 (MQ below (QI D (U := KS) post (kw cy a rw) A) args s 0 0 A) 0 0 (kw cy a rw S) [(0, .ref (a 35)), (1, .ref (a (12 + 2 * x1))), (3, .int x3), (4, .int x4), (5, .int x5)] 16 [] := by
  intro n
  induction n with
  | zero => intro _ _ _ _ _ h; exact h.elim
  | succ n ih => intro S x1 x3 x4 x5 h; exact z_X2_follow_F16 hrw b hk74 ih S x1 x3 x4 x5 h

def w_X2_follow_B74 (cy : Nat → ClassId) (tE : Nat) (post : Int32 → KS → Prop) (S : KS) (x1 : Nat) : Prop :=
  (x1 < 7) ∧ post (fi S.1 (1 + 2 * x1)) S

set_option maxHeartbeats 4000000 in
set_option maxRecDepth 100000 in
theorem z_X2_follow_B74 {p : Program} {l : Launch} {e : Env} {R : Room} {s : State} {m : MethodId} {args : Array Value} {below : List Frame} {meth : Method} {c : Code} {D : va_G} {cy : Nat → ClassId} {T0 tB tE : Nat} {A : Nat → Prop} {a : Nat → Nat} {rw : Nat → Option Nat} (hrw : ∀ i, i < 6 → rw i = some (a (12 + 2 * i))) {post : Int32 → KS → Prop} (b : Bz p R s m args meth c D cy T0 tB tE A 6 cX2_follow RX2 (some .int) "follow" 4 101 0 0) (S : KS) (x1 : Nat) (h : w_X2_follow_B74 cy tE post S x1) : Z p l e R s m args below meth c D A 6 (MQ below (QI D (U := KS) post (kw cy a rw) A) args s 0 0 A) 0 0 (kw cy a rw S) [(1, .ref (a (12 + 2 * x1)))] 74 [] := by
  unfold w_X2_follow_B74 at h
  refine z_aload_n b dX2_follow_74 rfl rfl ?_
  obtain ⟨g11, h⟩ := h
  refine z_get (q0 := 12 + 2 * x1) (k9 := 1) (v := .int (fi S.1 (1 + 2 * x1))) b (kw_ro cy a rw S g11) rfl in_X7 (by decide) wf_X2_108 rfl dX2_follow_75 ?_
  exact z_iret (u := S) b rfl dX2_follow_78 h rfl (by decide) (by decide)

def w_X2_follow (cy : Nat → ClassId) (tE : Nat) (S : KS) (p0 : Nat) (p1 : Nat) (p2 : Int32) (p3 : Int32) (post : Int32 → KS → Prop) : Prop :=
  w_X9_copy cy tE S 3 p1 (fun S2 => ∃ n, lpn (w_X2_follow_F16 cy tE post (w_X2_follow_B74 cy tE post)) (fun _ _ _ _ _ => False) n (ksi S2 22 (-1)) p0 p2 p3 0)

set_option maxHeartbeats 4000000 in
set_option maxRecDepth 100000 in
theorem k_X2_follow {l : Launch} {D : va_G} {cy : Nat → ClassId} {T0 tB tE : Nat} {a : Nat → Nat} {rw : Nat → Option Nat} (hrw : ∀ i, i < 6 → rw i = some (a (12 + 2 * i))) (S : KS) (p0 : Nat) (p1 : Nat) (p2 : Int32) (p3 : Int32) (post : Int32 → KS → Prop) (h : w_X2_follow cy tE S p0 p1 p2 p3 post) : Ct l D cy T0 tB tE yX2_follow cX2_follow 6 (some .int) 4 101 0 0 (kw cy a rw S) [.ref (a 35), .ref (a (12 + 2 * p0)), .ref (a (2 + 2 * p1)), .int p2, .int p3] (QI D (U := KS) post (kw cy a rw)) := by
  refine Ct.ofZ RX2 "follow" [(0, .ref (a 35)), (1, .ref (a (12 + 2 * p0))), (2, .ref (a (2 + 2 * p1))), (3, .int p2), (4, .int p3)] rfl rfl rfl rfl (Nat.le_of_ble_eq_true rfl) ?_
  intro p e R s m args below meth c A b
  unfold w_X2_follow at h
  refine z_aload_n b dX2_follow_0 rfl rfl ?_
  refine z_get (q0 := 35) (k9 := 3) (v := .ref (a 8)) b (kw_35 cy a rw S) rfl in_X2 (by decide) wf_X2_25 rfl dX2_follow_1 ?_
  refine z_aload_n b dX2_follow_4 rfl rfl ?_
  refine z_callv b (z_runV (q0 := 8) (As := [.ref (a (2 + 2 * p1))]) (st := []) b (k_X9_copy hrw S 3 p1 _ h) cf_X9_copy (kw_8 cy a rw S) rfl wm_X2_80 wi_X9_copy ws_X9_copy dX2_follow_5 rfl (Nat.le_of_ble_eq_true rfl) ⟨by decide, by decide, Nat.le_of_ble_eq_true rfl, Nat.le_of_ble_eq_true rfl⟩) (fun S2 h => ?_)
  refine z_aload_n b dX2_follow_8 rfl rfl ?_
  refine z_iconst (v := (-1)) b dX2_follow_9 (by decide) ?_
  refine z_put (q0 := 35) (k9 := 4) tyX2 b (kw_35 cy a rw S2) rfl in_X2 tyX2_ok nmX2 (by decide) wf_X2_28 rfl rfl rfl rfl (Nat.le_of_ble_eq_true rfl) dX2_follow_10 (kwp_35_4 cy a rw S2 (-1)) ?_
  refine z_iconst (v := 0) b dX2_follow_13 (by decide) ?_
  refine z_istore (lv' := [(5, .int 0), (0, .ref (a 35)), (1, .ref (a (12 + 2 * p0))), (2, .ref (a (2 + 2 * p1))), (3, .int p2), (4, .int p3)]) b dX2_follow_14 (by decide) rfl ?_
  refine z_lv0 (lv' := [(0, .ref (a 35)), (1, .ref (a (12 + 2 * p0))), (3, .int p2), (4, .int p3), (5, .int 0)]) [1, 2, 4, 5, 0] rfl ?_
  obtain ⟨n, h⟩ := h
  exact zl_X2_follow_L16 hrw b (fun S x1 h => z_X2_follow_B74 hrw b _ _ h) n _ _ _ _ _ h

def w_X11_after_B14 (cy : Nat → ClassId) (tE : Nat) (post : Int32 → KS → Prop) (S : KS)  : Prop :=
  post (-1) S

set_option maxHeartbeats 4000000 in
set_option maxRecDepth 100000 in
theorem z_X11_after_B14 {p : Program} {l : Launch} {e : Env} {R : Room} {s : State} {m : MethodId} {args : Array Value} {below : List Frame} {meth : Method} {c : Code} {D : va_G} {cy : Nat → ClassId} {T0 tB tE : Nat} {A : Nat → Prop} {a : Nat → Nat} {rw : Nat → Option Nat} (hrw : ∀ i, i < 6 → rw i = some (a (12 + 2 * i))) {post : Int32 → KS → Prop} (b : Bz p R s m args meth c D cy T0 tB tE A 3 cX11_after RX11 (some .int) "after" 5 126 0 0) (S : KS)  (h : w_X11_after_B14 cy tE post S ) : Z p l e R s m args below meth c D A 3 (MQ below (QI D (U := KS) post (kw cy a rw) A) args s 0 0 A) 0 0 (kw cy a rw S) [] 14 [] := by
  unfold w_X11_after_B14 at h
  refine z_iconst (v := (-1)) b dX11_after_14 (by decide) ?_
  exact z_iret (u := S) b rfl dX11_after_15 h rfl (by decide) (by decide)

def w_X11_after (cy : Nat → ClassId) (tE : Nat) (S : KS) (p0 : Int32) (p1 : Int32) (post : Int32 → KS → Prop) : Prop :=
  w_X11_isRow cy tE S p0 (fun r1 S2 => ((r1.toInt = 0 → w_X11_after_B14 cy tE post S2) ∧ (r1.toInt ≠ 0 → w_X9_has cy tE S2 p1 (fun r3 S4 => ((r3.toInt ≠ 0 → (0 ≤ p0.toInt ∧ p0.toInt < 6) ∧ w_X2_follow cy tE S4 (p0.toNatClampNeg) 0 3 0 (fun r7 S8 => w_X9_get cy tE S8 3 p1 (fun r9 S10 => post r9 S10))) ∧ (r3.toInt = 0 → w_X11_after_B14 cy tE post S4))))))

set_option maxHeartbeats 4000000 in
set_option maxRecDepth 100000 in
theorem k_X11_after {l : Launch} {D : va_G} {cy : Nat → ClassId} {T0 tB tE : Nat} {a : Nat → Nat} {rw : Nat → Option Nat} (hrw : ∀ i, i < 6 → rw i = some (a (12 + 2 * i))) (S : KS) (p0 : Int32) (p1 : Int32) (post : Int32 → KS → Prop) (h : w_X11_after cy tE S p0 p1 post) : Ct l D cy T0 tB tE yX11_after cX11_after 3 (some .int) 5 126 0 0 (kw cy a rw S) [.ref (a 0), .int p0, .int p1] (QI D (U := KS) post (kw cy a rw)) := by
  refine Ct.ofZ RX11 "after" [(0, .ref (a 0)), (1, .int p0), (2, .int p1)] rfl rfl rfl rfl (Nat.le_of_ble_eq_true rfl) ?_
  intro p e R s m args below meth c A b
  unfold w_X11_after at h
  refine z_iload_n b dX11_after_0 rfl rfl ?_
  refine z_calli b (z_runS (As := [.int p0]) (st := []) b (k_X11_isRow hrw S p0 _ h) cf_X11_isRow wm_X11_169 ws_X11_isRow dX11_after_1 rfl (Nat.le_of_ble_eq_true rfl) ⟨by decide, by decide, Nat.le_of_ble_eq_true rfl, Nat.le_of_ble_eq_true rfl⟩) (fun r1 S2 h => ?_)
  refine y_if_eq (tgt := 14) (xl := r1.toInt) b rfl dX11_after_4 (by decide) (fun c1 => ?_) (fun c1 => ?_)
  · replace h := h.1 c1
    refine z_lv0 (lv' := []) [] rfl ?_
    exact z_X11_after_B14 hrw b _ h
  · replace h := h.2 c1
    refine z_iload_n b dX11_after_7 rfl rfl ?_
    refine z_calli b (z_runS (As := [.int p1]) (st := []) b (k_X9_has hrw S2 p1 _ h) cf_X9_has wm_X11_191 ws_X9_has dX11_after_8 rfl (Nat.le_of_ble_eq_true rfl) ⟨by decide, by decide, Nat.le_of_ble_eq_true rfl, Nat.le_of_ble_eq_true rfl⟩) (fun r3 S4 h => ?_)
    refine y_if_ne (tgt := 16) (xl := r3.toInt) b rfl dX11_after_11 (by decide) (fun c1 => ?_) (fun c1 => ?_)
    · replace h := h.1 c1
      refine z_aload_n b dX11_after_16 rfl rfl ?_
      refine z_get (q0 := 0) (k9 := 5) (v := .ref (a 35)) b (kw_0 cy a rw S4) rfl in_X11 (by decide) wf_X11_43 rfl dX11_after_17 ?_
      refine z_aload_n b dX11_after_20 rfl rfl ?_
      refine z_get (q0 := 0) (k9 := 7) (v := .ref (a 46)) b (kw_0 cy a rw S4) rfl in_X11 (by decide) wf_X11_58 rfl dX11_after_21 ?_
      refine z_iload_n b dX11_after_24 rfl rfl ?_
      obtain ⟨g5, h⟩ := h
      refine y_aald (q0 := 46) (t0 := 4) (j := p0.toNatClampNeg) (v := .ref (a (12 + 2 * (p0.toNatClampNeg)))) b (kw_46 cy a rw S4) rfl (zx_r g5.1 g5.2) (by rw [hrw _ (zx_lt (zx_r g5.1 g5.2))]; rfl) dX11_after_25 ?_
      refine z_aload_n b dX11_after_26 rfl rfl ?_
      refine z_get (q0 := 0) (k9 := 4) (v := .ref (a 2)) b (kw_0 cy a rw S4) rfl in_X11 (by decide) wf_X11_34 rfl dX11_after_27 ?_
      refine z_iconst (v := 3) b dX11_after_30 (by decide) ?_
      refine z_iconst (v := 0) b dX11_after_31 (by decide) ?_
      refine z_calli b (z_runV (q0 := 35) (As := [.ref (a (12 + 2 * (p0.toNatClampNeg))), .ref (a 2), .int 3, .int 0]) (st := []) b (k_X2_follow hrw S4 (p0.toNatClampNeg) 0 3 0 _ h) cf_X2_follow (kw_35 cy a rw S4) rfl wm_X11_184 wi_X2_follow ws_X2_follow dX11_after_32 rfl (Nat.le_of_ble_eq_true rfl) ⟨by decide, by decide, Nat.le_of_ble_eq_true rfl, Nat.le_of_ble_eq_true rfl⟩) (fun r7 S8 h => ?_)
      refine z_pop b dX11_after_35 rfl ?_
      refine z_aload_n b dX11_after_36 rfl rfl ?_
      refine z_get (q0 := 0) (k9 := 5) (v := .ref (a 35)) b (kw_0 cy a rw S8) rfl in_X11 (by decide) wf_X11_43 rfl dX11_after_37 ?_
      refine z_get (q0 := 35) (k9 := 3) (v := .ref (a 8)) b (kw_35 cy a rw S8) rfl in_X2 (by decide) wf_X11_194 rfl dX11_after_40 ?_
      refine z_iload_n b dX11_after_43 rfl rfl ?_
      refine z_calli b (z_runV (q0 := 8) (As := [.int p1]) (st := []) b (k_X9_get hrw S8 3 p1 _ h) cf_X9_get (kw_8 cy a rw S8) rfl wm_X11_197 wi_X9_get ws_X9_get dX11_after_44 rfl (Nat.le_of_ble_eq_true rfl) ⟨by decide, by decide, Nat.le_of_ble_eq_true rfl, Nat.le_of_ble_eq_true rfl⟩) (fun r9 S10 h => ?_)
      exact z_iret (u := S10) b rfl dX11_after_47 h rfl (by decide) (by decide)
    · replace h := h.2 c1
      refine z_lv0 (lv' := []) [] rfl ?_
      exact z_X11_after_B14 hrw b _ h

def w_X8_leastName_F12 (cy : Nat → ClassId) (tE : Nat) (post : Int64 → KS → Prop) (k44 : KS → Int64 → Prop) (k12 : KS → Int64 → Int32 → Prop) (S : KS) (x1 : Int64) (x3 : Int32) : Prop :=
  ((36 ≤ x3.toInt → k44 S x1) ∧ (x3.toInt < 36 → w_X9_packed cy tE S 4 (x3 / 6) (x3 - x3 / 6 * 6) (fun r3 S4 => k12 S4 (if (r3 < x1 : Prop) then r3 else x1) (x3 + 1))))

set_option maxHeartbeats 4000000 in
set_option maxRecDepth 100000 in
theorem z_X8_leastName_F12 {p : Program} {l : Launch} {e : Env} {R : Room} {s : State} {m : MethodId} {args : Array Value} {below : List Frame} {meth : Method} {c : Code} {D : va_G} {cy : Nat → ClassId} {T0 tB tE : Nat} {A : Nat → Prop} {a : Nat → Nat} {rw : Nat → Option Nat} (hrw : ∀ i, i < 6 → rw i = some (a (12 + 2 * i))) {post : Int64 → KS → Prop} {k44 : KS → Int64 → Prop} {k12 : KS → Int64 → Int32 → Prop} (b : Bz p R s m args meth c D cy T0 tB tE A 4 cX8_leastName RX8 (some .long) "leastName" 2 51 0 0) (hk44 : ∀ (S : KS) (x1 : Int64), k44 S x1 → Z p l e R s m args below meth c D A 4 (MQ below (QL D (U := KS) post (kw cy a rw) A) args s 0 0 A) 0 0 (kw cy a rw S) [(1, .long x1)] 44 []) (hk12 : ∀ (S : KS) (x1 : Int64) (x3 : Int32), k12 S x1 x3 → Z p l e R s m args below meth c D A 4 (MQ below (QL D (U := KS) post (kw cy a rw) A) args s 0 0 A) 0 0 (kw cy a rw S) [(0, .ref (a 38)), (1, .long x1), (3, .int x3)] 12 []) (S : KS) (x1 : Int64) (x3 : Int32) (h : w_X8_leastName_F12 cy tE post k44 k12 S x1 x3) : Z p l e R s m args below meth c D A 4 (MQ below (QL D (U := KS) post (kw cy a rw) A) args s 0 0 A) 0 0 (kw cy a rw S) [(0, .ref (a 38)), (1, .long x1), (3, .int x3)] 12 [] := by
  unfold w_X8_leastName_F12 at h
  refine z_iload_n b dX8_leastName_12 rfl rfl ?_
  refine z_bipush (v := 36) b dX8_leastName_13 (by decide) ?_
  refine y_icmp_ge (tgt := 44) (xl := x3.toInt) (yl := 36) b rfl (by decide) dX8_leastName_15 (by decide) (fun c1 => ?_) (fun c1 => ?_)
  · replace h := h.1 c1
    refine z_lv0 (lv' := [(1, .long x1)]) [1] rfl ?_
    exact hk44 _ _ h
  · replace h := h.2 c1
    refine z_lload_n b dX8_leastName_18 rfl rfl ?_
    refine z_aload_n b dX8_leastName_19 rfl rfl ?_
    refine z_get (q0 := 38) (k9 := 2) (v := .ref (a 10)) b (kw_38 cy a rw S) rfl in_X8 (by decide) wf_X8_12 rfl dX8_leastName_20 ?_
    refine z_iload_n b dX8_leastName_23 rfl rfl ?_
    refine z_bipush (v := 6) b dX8_leastName_24 (by decide) ?_
    refine z_idiv b dX8_leastName_26 (by decide) rfl ?_
    refine z_iload_n b dX8_leastName_27 rfl rfl ?_
    refine z_bipush (v := 6) b dX8_leastName_28 (by decide) ?_
    refine z_irem b dX8_leastName_30 (by decide) rfl ?_
    refine z_calll b (z_runV (q0 := 10) (As := [.int (x3 / 6), .int (x3 - x3 / 6 * 6)]) (st := [.long x1]) b (k_X9_packed hrw S 4 (x3 / 6) (x3 - x3 / 6 * 6) _ h) cf_X9_packed (kw_10 cy a rw S) rfl wm_X8_86 wi_X9_packed ws_X9_packed dX8_leastName_31 rfl (Nat.le_of_ble_eq_true rfl) ⟨by decide, by decide, Nat.le_of_ble_eq_true rfl, Nat.le_of_ble_eq_true rfl⟩) (fun r3 S4 h => ?_)
    refine z_mminl (v := (if (r3 < x1 : Prop) then r3 else x1)) b wL_X8_171 wLs_mminl wi_Math wLc_mminl dX8_leastName_34 (by decide) (Nat.le_of_ble_eq_true rfl) ⟨by decide, by decide⟩ rfl ?_
    refine z_lstore_n (lv' := [(1, .long (if (r3 < x1 : Prop) then r3 else x1)), (0, .ref (a 38)), (3, .int x3)]) b dX8_leastName_37 rfl (by decide) rfl ?_
    refine z_iinc (k9 := 2) (v := (x3 + 1)) (lv' := [(3, .int (x3 + 1)), (1, .long (if (r3 < x1 : Prop) then r3 else x1)), (0, .ref (a 38))]) b dX8_leastName_38 rfl rfl (by decide) rfl ?_
    refine z_goto (tgt := 12) b dX8_leastName_41 (by decide) ?_
    refine z_lv0 (lv' := [(0, .ref (a 38)), (1, .long (if (r3 < x1 : Prop) then r3 else x1)), (3, .int (x3 + 1))]) [2, 1, 0] rfl ?_
    exact hk12 _ _ _ h

set_option maxHeartbeats 4000000 in
set_option maxRecDepth 100000 in
theorem zl_X8_leastName_L12 {p : Program} {l : Launch} {e : Env} {R : Room} {s : State} {m : MethodId} {args : Array Value} {below : List Frame} {meth : Method} {c : Code} {D : va_G} {cy : Nat → ClassId} {T0 tB tE : Nat} {A : Nat → Prop} {a : Nat → Nat} {rw : Nat → Option Nat} (hrw : ∀ i, i < 6 → rw i = some (a (12 + 2 * i))) {post : Int64 → KS → Prop} {k44 : KS → Int64 → Prop} (b : Bz p R s m args meth c D cy T0 tB tE A 4 cX8_leastName RX8 (some .long) "leastName" 2 51 0 0) (hk44 : ∀ (S : KS) (x1 : Int64), k44 S x1 → Z p l e R s m args below meth c D A 4 (MQ below (QL D (U := KS) post (kw cy a rw) A) args s 0 0 A) 0 0 (kw cy a rw S) [(1, .long x1)] 44 []) : ∀ (n : Nat) (S : KS) (x1 : Int64) (x3 : Int32), lpn (w_X8_leastName_F12 cy tE post k44) (fun _ _ _ => False) n S x1 x3 → Z p l e R s m args below meth c D A 4 (MQ below (QL D (U := KS) post (kw cy a rw) A) args s 0 0 A) 0 0 (kw cy a rw S) [(0, .ref (a 38)), (1, .long x1), (3, .int x3)] 12 [] := by
  intro n
  induction n with
  | zero => intro _ _ _ h; exact h.elim
  | succ n ih => intro S x1 x3 h; exact z_X8_leastName_F12 hrw b hk44 ih S x1 x3 h

def w_X8_leastName_B44 (cy : Nat → ClassId) (tE : Nat) (post : Int64 → KS → Prop) (S : KS) (x1 : Int64) : Prop :=
  post x1 S

set_option maxHeartbeats 4000000 in
set_option maxRecDepth 100000 in
theorem z_X8_leastName_B44 {p : Program} {l : Launch} {e : Env} {R : Room} {s : State} {m : MethodId} {args : Array Value} {below : List Frame} {meth : Method} {c : Code} {D : va_G} {cy : Nat → ClassId} {T0 tB tE : Nat} {A : Nat → Prop} {a : Nat → Nat} {rw : Nat → Option Nat} (hrw : ∀ i, i < 6 → rw i = some (a (12 + 2 * i))) {post : Int64 → KS → Prop} (b : Bz p R s m args meth c D cy T0 tB tE A 4 cX8_leastName RX8 (some .long) "leastName" 2 51 0 0) (S : KS) (x1 : Int64) (h : w_X8_leastName_B44 cy tE post S x1) : Z p l e R s m args below meth c D A 4 (MQ below (QL D (U := KS) post (kw cy a rw) A) args s 0 0 A) 0 0 (kw cy a rw S) [(1, .long x1)] 44 [] := by
  unfold w_X8_leastName_B44 at h
  refine z_lload_n b dX8_leastName_44 rfl rfl ?_
  exact z_lret (u := S) b rfl dX8_leastName_45 h rfl (by decide) (by decide)

def w_X8_leastName (cy : Nat → ClassId) (tE : Nat) (S : KS)  (post : Int64 → KS → Prop) : Prop :=
  w_X9_packed cy tE S 4 0 0 (fun r1 S2 => ∃ n, lpn (w_X8_leastName_F12 cy tE post (w_X8_leastName_B44 cy tE post)) (fun _ _ _ => False) n S2 r1 1)

set_option maxHeartbeats 4000000 in
set_option maxRecDepth 100000 in
theorem k_X8_leastName {l : Launch} {D : va_G} {cy : Nat → ClassId} {T0 tB tE : Nat} {a : Nat → Nat} {rw : Nat → Option Nat} (hrw : ∀ i, i < 6 → rw i = some (a (12 + 2 * i))) (S : KS)  (post : Int64 → KS → Prop) (h : w_X8_leastName cy tE S  post) : Ct l D cy T0 tB tE yX8_leastName cX8_leastName 4 (some .long) 2 51 0 0 (kw cy a rw S) [.ref (a 38)] (QL D (U := KS) post (kw cy a rw)) := by
  refine Ct.ofZ RX8 "leastName" [(0, .ref (a 38))] rfl rfl rfl rfl (Nat.le_of_ble_eq_true rfl) ?_
  intro p e R s m args below meth c A b
  unfold w_X8_leastName at h
  refine z_aload_n b dX8_leastName_0 rfl rfl ?_
  refine z_get (q0 := 38) (k9 := 2) (v := .ref (a 10)) b (kw_38 cy a rw S) rfl in_X8 (by decide) wf_X8_12 rfl dX8_leastName_1 ?_
  refine z_iconst (v := 0) b dX8_leastName_4 (by decide) ?_
  refine z_iconst (v := 0) b dX8_leastName_5 (by decide) ?_
  refine z_calll b (z_runV (q0 := 10) (As := [.int 0, .int 0]) (st := []) b (k_X9_packed hrw S 4 0 0 _ h) cf_X9_packed (kw_10 cy a rw S) rfl wm_X8_86 wi_X9_packed ws_X9_packed dX8_leastName_6 rfl (Nat.le_of_ble_eq_true rfl) ⟨by decide, by decide, Nat.le_of_ble_eq_true rfl, Nat.le_of_ble_eq_true rfl⟩) (fun r1 S2 h => ?_)
  refine z_lstore_n (lv' := [(1, .long r1), (0, .ref (a 38))]) b dX8_leastName_9 rfl (by decide) rfl ?_
  refine z_iconst (v := 1) b dX8_leastName_10 (by decide) ?_
  refine z_istore_n (lv' := [(3, .int 1), (1, .long r1), (0, .ref (a 38))]) b dX8_leastName_11 rfl (by decide) rfl ?_
  refine z_lv0 (lv' := [(0, .ref (a 38)), (1, .long r1), (3, .int 1)]) [2, 1, 0] rfl ?_
  obtain ⟨n, h⟩ := h
  exact zl_X8_leastName_L12 hrw b (fun S x1 h => z_X8_leastName_B44 hrw b _ _ h) n _ _ _ h

def w_X7_renamed (cy : Nat → ClassId) (tE : Nat) (S : KS) (p0 : Int32) (p1 : Int32) (p2 : Int32) (post : Int32 → KS → Prop) : Prop :=
  w_X11_doerOf cy tE S p0 (fun r1 S2 => w_X11_become cy tE S2 p1 r1 (fun r3 S4 => w_X11_otherOf cy tE S4 p0 (fun r5 S6 => w_X11_become cy tE S6 p1 r5 (fun r7 S8 => w_X11_thingOf cy tE S8 p0 (fun r9 S10 => w_X11_become cy tE S10 p2 r9 (fun r11 S12 => post (((((p0 / 64) * 64) + ((16 : Int32) * r3)) + ((4 : Int32) * r7)) + r11) S12))))))

set_option maxHeartbeats 4000000 in
set_option maxRecDepth 100000 in
theorem k_X7_renamed {l : Launch} {D : va_G} {cy : Nat → ClassId} {T0 tB tE : Nat} {a : Nat → Nat} {rw : Nat → Option Nat} (hrw : ∀ i, i < 6 → rw i = some (a (12 + 2 * i))) (S : KS) (p0 : Int32) (p1 : Int32) (p2 : Int32) (post : Int32 → KS → Prop) (h : w_X7_renamed cy tE S p0 p1 p2 post) : Ct l D cy T0 tB tE yX7_renamed cX7_renamed 6 (some .int) 1 22 0 0 (kw cy a rw S) [.int p0, .int p1, .int p2] (QI D (U := KS) post (kw cy a rw)) := by
  refine Ct.ofZ RX7 "renamed" [(0, .int p0), (1, .int p1), (2, .int p2)] rfl rfl rfl rfl (Nat.le_of_ble_eq_true rfl) ?_
  intro p e R s m args below meth c A b
  unfold w_X7_renamed at h
  refine z_iload_n b dX7_renamed_0 rfl rfl ?_
  refine z_iload_n b dX7_renamed_1 rfl rfl ?_
  refine z_calli b (z_runSN (As := [.int p0]) (st := [.int p1]) b (k_X11_doerOf hrw S p0 _ h) cf_X11_doerOf (nw_X7_37) ws_X11_doerOf dX7_renamed_2 rfl (Nat.le_of_ble_eq_true rfl) ⟨by decide, by decide, Nat.le_of_ble_eq_true rfl, Nat.le_of_ble_eq_true rfl⟩) (fun r1 S2 h => ?_)
  refine z_calli b (z_runSN (As := [.int p1, .int r1]) (st := []) b (k_X11_become hrw S2 p1 r1 _ h) cf_X11_become (nw_X7_40) ws_X11_become dX7_renamed_5 rfl (Nat.le_of_ble_eq_true rfl) ⟨by decide, by decide, Nat.le_of_ble_eq_true rfl, Nat.le_of_ble_eq_true rfl⟩) (fun r3 S4 h => ?_)
  refine z_istore_n (lv' := [(3, .int r3), (0, .int p0), (1, .int p1), (2, .int p2)]) b dX7_renamed_8 rfl (by decide) rfl ?_
  refine z_iload_n b dX7_renamed_9 rfl rfl ?_
  refine z_iload_n b dX7_renamed_10 rfl rfl ?_
  refine z_calli b (z_runSN (As := [.int p0]) (st := [.int p1]) b (k_X11_otherOf hrw S4 p0 _ h) cf_X11_otherOf (nw_X7_43) ws_X11_otherOf dX7_renamed_11 rfl (Nat.le_of_ble_eq_true rfl) ⟨by decide, by decide, Nat.le_of_ble_eq_true rfl, Nat.le_of_ble_eq_true rfl⟩) (fun r5 S6 h => ?_)
  refine z_calli b (z_runSN (As := [.int p1, .int r5]) (st := []) b (k_X11_become hrw S6 p1 r5 _ h) cf_X11_become (nw_X7_40) ws_X11_become dX7_renamed_14 rfl (Nat.le_of_ble_eq_true rfl) ⟨by decide, by decide, Nat.le_of_ble_eq_true rfl, Nat.le_of_ble_eq_true rfl⟩) (fun r7 S8 h => ?_)
  refine z_istore (lv' := [(4, .int r7), (3, .int r3), (0, .int p0), (1, .int p1), (2, .int p2)]) b dX7_renamed_17 (by decide) rfl ?_
  refine z_iload_n b dX7_renamed_19 rfl rfl ?_
  refine z_iload_n b dX7_renamed_20 rfl rfl ?_
  refine z_calli b (z_runSN (As := [.int p0]) (st := [.int p2]) b (k_X11_thingOf hrw S8 p0 _ h) cf_X11_thingOf (nw_X7_46) ws_X11_thingOf dX7_renamed_21 rfl (Nat.le_of_ble_eq_true rfl) ⟨by decide, by decide, Nat.le_of_ble_eq_true rfl, Nat.le_of_ble_eq_true rfl⟩) (fun r9 S10 h => ?_)
  refine z_calli b (z_runSN (As := [.int p2, .int r9]) (st := []) b (k_X11_become hrw S10 p2 r9 _ h) cf_X11_become (nw_X7_40) ws_X11_become dX7_renamed_24 rfl (Nat.le_of_ble_eq_true rfl) ⟨by decide, by decide, Nat.le_of_ble_eq_true rfl, Nat.le_of_ble_eq_true rfl⟩) (fun r11 S12 h => ?_)
  refine z_istore (lv' := [(5, .int r11), (4, .int r7), (3, .int r3), (0, .int p0), (1, .int p1), (2, .int p2)]) b dX7_renamed_27 (by decide) rfl ?_
  refine z_iload_n b dX7_renamed_29 rfl rfl ?_
  refine z_bipush (v := 64) b dX7_renamed_30 (by decide) ?_
  refine z_idiv b dX7_renamed_32 (by decide) rfl ?_
  refine z_bipush (v := 64) b dX7_renamed_33 (by decide) ?_
  refine z_imul b dX7_renamed_35 rfl ?_
  refine z_bipush (v := 16) b dX7_renamed_36 (by decide) ?_
  refine z_iload_n b dX7_renamed_38 rfl rfl ?_
  refine z_imul b dX7_renamed_39 rfl ?_
  refine z_iadd b dX7_renamed_40 rfl ?_
  refine z_iconst (v := 4) b dX7_renamed_41 (by decide) ?_
  refine z_iload b dX7_renamed_42 rfl ?_
  refine z_imul b dX7_renamed_44 rfl ?_
  refine z_iadd b dX7_renamed_45 rfl ?_
  refine z_iload b dX7_renamed_46 rfl ?_
  refine z_iadd b dX7_renamed_48 rfl ?_
  exact z_iret (u := S12) b rfl dX7_renamed_49 h rfl (by decide) (by decide)

def w_X10_add_B52 (cy : Nat → ClassId) (tE : Nat) (post : KS → Prop) (S : KS)  : Prop :=
  post S

set_option maxHeartbeats 4000000 in
set_option maxRecDepth 100000 in
theorem z_X10_add_B52 {p : Program} {l : Launch} {e : Env} {R : Room} {s : State} {m : MethodId} {args : Array Value} {below : List Frame} {meth : Method} {c : Code} {D : va_G} {cy : Nat → ClassId} {T0 tB tE : Nat} {A : Nat → Prop} {a : Nat → Nat} {rw : Nat → Option Nat} (hrw : ∀ i, i < 6 → rw i = some (a (12 + 2 * i))) {post : KS → Prop} (b : Bz p R s m args meth c D cy T0 tB tE A 5 cX10_add RX10 none "add" 0 0 0 0) (S : KS)  (h : w_X10_add_B52 cy tE post S ) : Z p l e R s m args below meth c D A 5 (MQ below (QV D (U := KS) post (kw cy a rw) A) args s 0 0 A) 0 0 (kw cy a rw S) [] 52 [] := by
  unfold w_X10_add_B52 at h
  exact z_vret (u := S) b rfl dX10_add_52 h rfl (by decide) (by decide)

def w_X10_add (cy : Nat → ClassId) (tE : Nat) (S : KS) (p0 : Int32) (p1 : Int32) (p2 : Int64) (post : KS → Prop) : Prop :=
  ((701 ≤ (fi S.1 21).toInt → w_X10_add_B52 cy tE post S) ∧ ((fi S.1 21).toInt < 701 → (0 ≤ (fi S.1 21).toInt ∧ (fi S.1 21).toInt < 701) ∧ (0 ≤ (fi S.1 21).toInt ∧ (fi S.1 21).toInt < 701) ∧ (0 ≤ (fi S.1 21).toInt ∧ (fi S.1 21).toInt < 701) ∧ w_X10_add_B52 cy tE post (ksi (ksv (ksu (ksu S 13 ((fi S.1 21).toNatClampNeg) p0) 14 ((fi S.1 21).toNatClampNeg) p1) 1 ((fi S.1 21).toNatClampNeg) p2) 21 ((fi S.1 21) + 1))))

set_option maxHeartbeats 4000000 in
set_option maxRecDepth 100000 in
theorem k_X10_add {l : Launch} {D : va_G} {cy : Nat → ClassId} {T0 tB tE : Nat} {a : Nat → Nat} {rw : Nat → Option Nat} (hrw : ∀ i, i < 6 → rw i = some (a (12 + 2 * i))) (S : KS) (p0 : Int32) (p1 : Int32) (p2 : Int64) (post : KS → Prop) (h : w_X10_add cy tE S p0 p1 p2 post) : Ct l D cy T0 tB tE yX10_add cX10_add 5 none 0 0 0 0 (kw cy a rw S) [.ref (a 27), .int p0, .int p1, .long p2] (QV D (U := KS) post (kw cy a rw)) := by
  refine Ct.ofZ RX10 "add" [(0, .ref (a 27)), (1, .int p0), (2, .int p1), (3, .long p2)] rfl rfl rfl rfl (Nat.le_of_ble_eq_true rfl) ?_
  intro p e R s m args below meth c A b
  unfold w_X10_add at h
  refine z_aload_n b dX10_add_0 rfl rfl ?_
  refine z_get (q0 := 27) (k9 := 4) (v := .int (fi S.1 21)) b (kw_27 cy a rw S) rfl in_X10 (by decide) wf_X10_25 rfl dX10_add_1 ?_
  refine z_aload_n b dX10_add_4 rfl rfl ?_
  refine z_get (q0 := 27) (k9 := 1) (v := .ref (a 29)) b (kw_27 cy a rw S) rfl in_X10 (by decide) wf_X10_15 rfl dX10_add_5 ?_
  refine z_alen (q0 := 29) (t0 := 0) (v := 701) b (kw_29 cy a rw S) rfl rfl dX10_add_8 ?_
  refine y_icmp_ge (tgt := 52) (xl := (fi S.1 21).toInt) (yl := 701) b rfl (by decide) dX10_add_9 (by decide) (fun c1 => ?_) (fun c1 => ?_)
  · replace h := h.1 c1
    refine z_lv0 (lv' := []) [] rfl ?_
    exact z_X10_add_B52 hrw b _ h
  · replace h := h.2 c1
    refine z_aload_n b dX10_add_12 rfl rfl ?_
    refine z_get (q0 := 27) (k9 := 1) (v := .ref (a 29)) b (kw_27 cy a rw S) rfl in_X10 (by decide) wf_X10_15 rfl dX10_add_13 ?_
    refine z_aload_n b dX10_add_16 rfl rfl ?_
    refine z_get (q0 := 27) (k9 := 4) (v := .int (fi S.1 21)) b (kw_27 cy a rw S) rfl in_X10 (by decide) wf_X10_25 rfl dX10_add_17 ?_
    refine z_iload_n b dX10_add_20 rfl rfl ?_
    obtain ⟨g1, h⟩ := h
    refine y_iast (q0 := 29) (j := (fi S.1 21).toNatClampNeg) b (kw_29 cy a rw S) (zx_r g1.1 g1.2) dX10_add_21 (kwa_29 cy a rw S ((fi S.1 21).toNatClampNeg) p0) ?_
    refine z_aload_n b dX10_add_22 rfl rfl ?_
    refine z_get (q0 := 27) (k9 := 2) (v := .ref (a 30)) b (kw_27 cy a rw (ksu S 13 ((fi S.1 21).toNatClampNeg) p0)) rfl in_X10 (by decide) wf_X10_19 rfl dX10_add_23 ?_
    refine z_aload_n b dX10_add_26 rfl rfl ?_
    refine z_get (q0 := 27) (k9 := 4) (v := .int (fi S.1 21)) b (kw_27 cy a rw (ksu S 13 ((fi S.1 21).toNatClampNeg) p0)) rfl in_X10 (by decide) wf_X10_25 rfl dX10_add_27 ?_
    refine z_iload_n b dX10_add_30 rfl rfl ?_
    obtain ⟨g2, h⟩ := h
    refine y_iast (q0 := 30) (j := (fi S.1 21).toNatClampNeg) b (kw_30 cy a rw (ksu S 13 ((fi S.1 21).toNatClampNeg) p0)) (zx_r g2.1 g2.2) dX10_add_31 (kwa_30 cy a rw (ksu S 13 ((fi S.1 21).toNatClampNeg) p0) ((fi S.1 21).toNatClampNeg) p1) ?_
    refine z_aload_n b dX10_add_32 rfl rfl ?_
    refine z_get (q0 := 27) (k9 := 3) (v := .ref (a 31)) b (kw_27 cy a rw (ksu (ksu S 13 ((fi S.1 21).toNatClampNeg) p0) 14 ((fi S.1 21).toNatClampNeg) p1)) rfl in_X10 (by decide) wf_X10_22 rfl dX10_add_33 ?_
    refine z_aload_n b dX10_add_36 rfl rfl ?_
    refine z_get (q0 := 27) (k9 := 4) (v := .int (fi S.1 21)) b (kw_27 cy a rw (ksu (ksu S 13 ((fi S.1 21).toNatClampNeg) p0) 14 ((fi S.1 21).toNatClampNeg) p1)) rfl in_X10 (by decide) wf_X10_25 rfl dX10_add_37 ?_
    refine z_lload_n b dX10_add_40 rfl rfl ?_
    obtain ⟨g3, h⟩ := h
    refine y_last (q0 := 31) (j := (fi S.1 21).toNatClampNeg) b (kw_31 cy a rw (ksu (ksu S 13 ((fi S.1 21).toNatClampNeg) p0) 14 ((fi S.1 21).toNatClampNeg) p1)) (zx_r g3.1 g3.2) dX10_add_41 (kwa_31 cy a rw (ksu (ksu S 13 ((fi S.1 21).toNatClampNeg) p0) 14 ((fi S.1 21).toNatClampNeg) p1) ((fi S.1 21).toNatClampNeg) p2) ?_
    refine z_aload_n b dX10_add_42 rfl rfl ?_
    refine z_dup b dX10_add_43 rfl ?_
    refine z_get (q0 := 27) (k9 := 4) (v := .int (fi S.1 21)) b (kw_27 cy a rw (ksv (ksu (ksu S 13 ((fi S.1 21).toNatClampNeg) p0) 14 ((fi S.1 21).toNatClampNeg) p1) 1 ((fi S.1 21).toNatClampNeg) p2)) rfl in_X10 (by decide) wf_X10_25 rfl dX10_add_44 ?_
    refine z_iconst (v := 1) b dX10_add_47 (by decide) ?_
    refine z_iadd b dX10_add_48 rfl ?_
    refine z_put (q0 := 27) (k9 := 4) tyX10 b (kw_27 cy a rw (ksv (ksu (ksu S 13 ((fi S.1 21).toNatClampNeg) p0) 14 ((fi S.1 21).toNatClampNeg) p1) 1 ((fi S.1 21).toNatClampNeg) p2)) rfl in_X10 tyX10_ok nmX10 (by decide) wf_X10_25 rfl rfl rfl rfl (Nat.le_of_ble_eq_true rfl) dX10_add_49 (kwp_27_4 cy a rw (ksv (ksu (ksu S 13 ((fi S.1 21).toNatClampNeg) p0) 14 ((fi S.1 21).toNatClampNeg) p1) 1 ((fi S.1 21).toNatClampNeg) p2) ((fi S.1 21) + 1)) ?_
    refine z_lv0 (lv' := []) [] rfl ?_
    exact z_X10_add_B52 hrw b _ h

def w_X8_wealth_B48 (cy : Nat → ClassId) (tE : Nat) (post : Int32 → KS → Prop) (k17 : KS → Int32 → Int32 → Int32 → Prop) (k54 : KS → Int32 → Prop) (S : KS) (x2 : Int32) (x3 : Int32) (x4 : Int32) : Prop :=
  k17 S x2 x3 (x4 + 1)

set_option maxHeartbeats 4000000 in
set_option maxRecDepth 100000 in
theorem z_X8_wealth_B48 {p : Program} {l : Launch} {e : Env} {R : Room} {s : State} {m : MethodId} {args : Array Value} {below : List Frame} {meth : Method} {c : Code} {D : va_G} {cy : Nat → ClassId} {T0 tB tE : Nat} {A : Nat → Prop} {a : Nat → Nat} {rw : Nat → Option Nat} (hrw : ∀ i, i < 6 → rw i = some (a (12 + 2 * i))) {post : Int32 → KS → Prop} {k17 : KS → Int32 → Int32 → Int32 → Prop} {k54 : KS → Int32 → Prop} (b : Bz p R s m args meth c D cy T0 tB tE A 5 cX8_wealth RX8 (some .int) "wealth" 3 68 0 0) (hk17 : ∀ (S : KS) (x2 : Int32) (x3 : Int32) (x4 : Int32), k17 S x2 x3 x4 → Z p l e R s m args below meth c D A 5 (MQ below (QI D (U := KS) post (kw cy a rw) A) args s 0 0 A) 0 0 (kw cy a rw S) [(0, .ref (a 38)), (2, .int x2), (3, .int x3), (4, .int x4)] 17 []) (hk54 : ∀ (S : KS) (x3 : Int32), k54 S x3 → Z p l e R s m args below meth c D A 5 (MQ below (QI D (U := KS) post (kw cy a rw) A) args s 0 0 A) 0 0 (kw cy a rw S) [(3, .int x3)] 54 []) (S : KS) (x2 : Int32) (x3 : Int32) (x4 : Int32) (h : w_X8_wealth_B48 cy tE post k17 k54 S x2 x3 x4) : Z p l e R s m args below meth c D A 5 (MQ below (QI D (U := KS) post (kw cy a rw) A) args s 0 0 A) 0 0 (kw cy a rw S) [(0, .ref (a 38)), (2, .int x2), (3, .int x3), (4, .int x4)] 48 [] := by
  unfold w_X8_wealth_B48 at h
  refine z_iinc (k9 := 3) (v := (x4 + 1)) (lv' := [(4, .int (x4 + 1)), (0, .ref (a 38)), (2, .int x2), (3, .int x3)]) b dX8_wealth_48 rfl rfl (by decide) rfl ?_
  refine z_goto (tgt := 17) b dX8_wealth_51 (by decide) ?_
  refine z_lv0 (lv' := [(0, .ref (a 38)), (2, .int x2), (3, .int x3), (4, .int (x4 + 1))]) [1, 2, 3, 0] rfl ?_
  exact hk17 _ _ _ _ h

def w_X8_wealth_F17 (cy : Nat → ClassId) (tE : Nat) (post : Int32 → KS → Prop) (k54 : KS → Int32 → Prop) (k17 : KS → Int32 → Int32 → Int32 → Prop) (S : KS) (x2 : Int32) (x3 : Int32) (x4 : Int32) : Prop :=
  ((3 ≤ x4.toInt → k54 S x3) ∧ (x4.toInt < 3 → ((x4.toInt = x2.toInt → w_X8_wealth_B48 cy tE post k17 k54 S x2 x3 x4) ∧ (x4.toInt ≠ x2.toInt → w_X9_get cy tE S 4 (((10 : Int32) + ((3 : Int32) * x2)) + x4) (fun r5 S6 => w_X8_wealth_B48 cy tE post k17 k54 S6 x2 (x3 - r5) x4)))))

set_option maxHeartbeats 4000000 in
set_option maxRecDepth 100000 in
theorem z_X8_wealth_F17 {p : Program} {l : Launch} {e : Env} {R : Room} {s : State} {m : MethodId} {args : Array Value} {below : List Frame} {meth : Method} {c : Code} {D : va_G} {cy : Nat → ClassId} {T0 tB tE : Nat} {A : Nat → Prop} {a : Nat → Nat} {rw : Nat → Option Nat} (hrw : ∀ i, i < 6 → rw i = some (a (12 + 2 * i))) {post : Int32 → KS → Prop} {k54 : KS → Int32 → Prop} {k17 : KS → Int32 → Int32 → Int32 → Prop} (b : Bz p R s m args meth c D cy T0 tB tE A 5 cX8_wealth RX8 (some .int) "wealth" 3 68 0 0) (hk54 : ∀ (S : KS) (x3 : Int32), k54 S x3 → Z p l e R s m args below meth c D A 5 (MQ below (QI D (U := KS) post (kw cy a rw) A) args s 0 0 A) 0 0 (kw cy a rw S) [(3, .int x3)] 54 []) (hk17 : ∀ (S : KS) (x2 : Int32) (x3 : Int32) (x4 : Int32), k17 S x2 x3 x4 → Z p l e R s m args below meth c D A 5 (MQ below (QI D (U := KS) post (kw cy a rw) A) args s 0 0 A) 0 0 (kw cy a rw S) [(0, .ref (a 38)), (2, .int x2), (3, .int x3), (4, .int x4)] 17 []) (S : KS) (x2 : Int32) (x3 : Int32) (x4 : Int32) (h : w_X8_wealth_F17 cy tE post k54 k17 S x2 x3 x4) : Z p l e R s m args below meth c D A 5 (MQ below (QI D (U := KS) post (kw cy a rw) A) args s 0 0 A) 0 0 (kw cy a rw S) [(0, .ref (a 38)), (2, .int x2), (3, .int x3), (4, .int x4)] 17 [] := by
  unfold w_X8_wealth_F17 at h
  refine z_iload b dX8_wealth_17 rfl ?_
  refine z_iconst (v := 3) b dX8_wealth_19 (by decide) ?_
  refine y_icmp_ge (tgt := 54) (xl := x4.toInt) (yl := 3) b rfl (by decide) dX8_wealth_20 (by decide) (fun c1 => ?_) (fun c1 => ?_)
  · replace h := h.1 c1
    refine z_lv0 (lv' := [(3, .int x3)]) [2] rfl ?_
    exact hk54 _ _ h
  · replace h := h.2 c1
    refine z_iload b dX8_wealth_23 rfl ?_
    refine z_iload_n b dX8_wealth_25 rfl rfl ?_
    refine y_icmp_eq (tgt := 48) (xl := x4.toInt) (yl := x2.toInt) b rfl rfl dX8_wealth_26 (by decide) (fun c1 => ?_) (fun c1 => ?_)
    · replace h := h.1 c1
      exact z_X8_wealth_B48 hrw b hk17 hk54 _ _ _ _ h
    · replace h := h.2 c1
      refine z_iload_n b dX8_wealth_29 rfl rfl ?_
      refine z_aload_n b dX8_wealth_30 rfl rfl ?_
      refine z_get (q0 := 38) (k9 := 2) (v := .ref (a 10)) b (kw_38 cy a rw S) rfl in_X8 (by decide) wf_X8_12 rfl dX8_wealth_31 ?_
      refine z_bipush (v := 10) b dX8_wealth_34 (by decide) ?_
      refine z_iconst (v := 3) b dX8_wealth_36 (by decide) ?_
      refine z_iload_n b dX8_wealth_37 rfl rfl ?_
      refine z_imul b dX8_wealth_38 rfl ?_
      refine z_iadd b dX8_wealth_39 rfl ?_
      refine z_iload b dX8_wealth_40 rfl ?_
      refine z_iadd b dX8_wealth_42 rfl ?_
      refine z_calli b (z_runV (q0 := 10) (As := [.int (((10 : Int32) + ((3 : Int32) * x2)) + x4)]) (st := [.int x3]) b (k_X9_get hrw S 4 (((10 : Int32) + ((3 : Int32) * x2)) + x4) _ h) cf_X9_get (kw_10 cy a rw S) rfl wm_X8_161 wi_X9_get ws_X9_get dX8_wealth_43 rfl (Nat.le_of_ble_eq_true rfl) ⟨by decide, by decide, Nat.le_of_ble_eq_true rfl, Nat.le_of_ble_eq_true rfl⟩) (fun r5 S6 h => ?_)
      refine z_isub b dX8_wealth_46 rfl ?_
      refine z_istore_n (lv' := [(3, .int (x3 - r5)), (0, .ref (a 38)), (2, .int x2), (4, .int x4)]) b dX8_wealth_47 rfl (by decide) rfl ?_
      refine z_lv0 (lv' := [(0, .ref (a 38)), (2, .int x2), (3, .int (x3 - r5)), (4, .int x4)]) [1, 2, 0, 3] rfl ?_
      exact z_X8_wealth_B48 hrw b hk17 hk54 _ _ _ _ h

set_option maxHeartbeats 4000000 in
set_option maxRecDepth 100000 in
theorem zl_X8_wealth_L17 {p : Program} {l : Launch} {e : Env} {R : Room} {s : State} {m : MethodId} {args : Array Value} {below : List Frame} {meth : Method} {c : Code} {D : va_G} {cy : Nat → ClassId} {T0 tB tE : Nat} {A : Nat → Prop} {a : Nat → Nat} {rw : Nat → Option Nat} (hrw : ∀ i, i < 6 → rw i = some (a (12 + 2 * i))) {post : Int32 → KS → Prop} {k54 : KS → Int32 → Prop} (b : Bz p R s m args meth c D cy T0 tB tE A 5 cX8_wealth RX8 (some .int) "wealth" 3 68 0 0) (hk54 : ∀ (S : KS) (x3 : Int32), k54 S x3 → Z p l e R s m args below meth c D A 5 (MQ below (QI D (U := KS) post (kw cy a rw) A) args s 0 0 A) 0 0 (kw cy a rw S) [(3, .int x3)] 54 []) : ∀ (n : Nat) (S : KS) (x2 : Int32) (x3 : Int32) (x4 : Int32), lpn (w_X8_wealth_F17 cy tE post k54) (fun _ _ _ _ => False) n S x2 x3 x4 → Z p l e R s m args below meth c D A 5 (MQ below (QI D (U := KS) post (kw cy a rw) A) args s 0 0 A) 0 0 (kw cy a rw S) [(0, .ref (a 38)), (2, .int x2), (3, .int x3), (4, .int x4)] 17 [] := by
  intro n
  induction n with
  | zero => intro _ _ _ _ h; exact h.elim
  | succ n ih => intro S x2 x3 x4 h; exact z_X8_wealth_F17 hrw b hk54 ih S x2 x3 x4 h

def w_X8_wealth_B54 (cy : Nat → ClassId) (tE : Nat) (post : Int32 → KS → Prop) (S : KS) (x3 : Int32) : Prop :=
  post x3 S

set_option maxHeartbeats 4000000 in
set_option maxRecDepth 100000 in
theorem z_X8_wealth_B54 {p : Program} {l : Launch} {e : Env} {R : Room} {s : State} {m : MethodId} {args : Array Value} {below : List Frame} {meth : Method} {c : Code} {D : va_G} {cy : Nat → ClassId} {T0 tB tE : Nat} {A : Nat → Prop} {a : Nat → Nat} {rw : Nat → Option Nat} (hrw : ∀ i, i < 6 → rw i = some (a (12 + 2 * i))) {post : Int32 → KS → Prop} (b : Bz p R s m args meth c D cy T0 tB tE A 5 cX8_wealth RX8 (some .int) "wealth" 3 68 0 0) (S : KS) (x3 : Int32) (h : w_X8_wealth_B54 cy tE post S x3) : Z p l e R s m args below meth c D A 5 (MQ below (QI D (U := KS) post (kw cy a rw) A) args s 0 0 A) 0 0 (kw cy a rw S) [(3, .int x3)] 54 [] := by
  unfold w_X8_wealth_B54 at h
  refine z_iload_n b dX8_wealth_54 rfl rfl ?_
  exact z_iret (u := S) b rfl dX8_wealth_55 h rfl (by decide) (by decide)

def w_X8_wealth (cy : Nat → ClassId) (tE : Nat) (S : KS) (p0 : Int32) (p1 : Int32) (post : Int32 → KS → Prop) : Prop :=
  w_X8_load cy tE S p0 (fun S2 => w_X9_get cy tE S2 4 p1 (fun r3 S4 => ∃ n, lpn (w_X8_wealth_F17 cy tE post (w_X8_wealth_B54 cy tE post)) (fun _ _ _ _ => False) n S4 p1 r3 0))

set_option maxHeartbeats 4000000 in
set_option maxRecDepth 100000 in
theorem k_X8_wealth {l : Launch} {D : va_G} {cy : Nat → ClassId} {T0 tB tE : Nat} {a : Nat → Nat} {rw : Nat → Option Nat} (hrw : ∀ i, i < 6 → rw i = some (a (12 + 2 * i))) (S : KS) (p0 : Int32) (p1 : Int32) (post : Int32 → KS → Prop) (h : w_X8_wealth cy tE S p0 p1 post) : Ct l D cy T0 tB tE yX8_wealth cX8_wealth 5 (some .int) 3 68 0 0 (kw cy a rw S) [.ref (a 38), .int p0, .int p1] (QI D (U := KS) post (kw cy a rw)) := by
  refine Ct.ofZ RX8 "wealth" [(0, .ref (a 38)), (1, .int p0), (2, .int p1)] rfl rfl rfl rfl (Nat.le_of_ble_eq_true rfl) ?_
  intro p e R s m args below meth c A b
  unfold w_X8_wealth at h
  refine z_aload_n b dX8_wealth_0 rfl rfl ?_
  refine z_iload_n b dX8_wealth_1 rfl rfl ?_
  refine z_callv b (z_runV (q0 := 38) (As := [.int p0]) (st := []) b (k_X8_load hrw S p0 _ h) cf_X8_load (kw_38 cy a rw S) rfl wm_X8_153 wi_X8_load ws_X8_load dX8_wealth_2 rfl (Nat.le_of_ble_eq_true rfl) ⟨by decide, by decide, Nat.le_of_ble_eq_true rfl, Nat.le_of_ble_eq_true rfl⟩) (fun S2 h => ?_)
  refine z_aload_n b dX8_wealth_5 rfl rfl ?_
  refine z_get (q0 := 38) (k9 := 2) (v := .ref (a 10)) b (kw_38 cy a rw S2) rfl in_X8 (by decide) wf_X8_12 rfl dX8_wealth_6 ?_
  refine z_iload_n b dX8_wealth_9 rfl rfl ?_
  refine z_calli b (z_runV (q0 := 10) (As := [.int p1]) (st := []) b (k_X9_get hrw S2 4 p1 _ h) cf_X9_get (kw_10 cy a rw S2) rfl wm_X8_161 wi_X9_get ws_X9_get dX8_wealth_10 rfl (Nat.le_of_ble_eq_true rfl) ⟨by decide, by decide, Nat.le_of_ble_eq_true rfl, Nat.le_of_ble_eq_true rfl⟩) (fun r3 S4 h => ?_)
  refine z_istore_n (lv' := [(3, .int r3), (0, .ref (a 38)), (1, .int p0), (2, .int p1)]) b dX8_wealth_13 rfl (by decide) rfl ?_
  refine z_iconst (v := 0) b dX8_wealth_14 (by decide) ?_
  refine z_istore (lv' := [(4, .int 0), (3, .int r3), (0, .ref (a 38)), (1, .int p0), (2, .int p1)]) b dX8_wealth_15 (by decide) rfl ?_
  refine z_lv0 (lv' := [(0, .ref (a 38)), (2, .int p1), (3, .int r3), (4, .int 0)]) [2, 4, 1, 0] rfl ?_
  obtain ⟨n, h⟩ := h
  exact zl_X8_wealth_L17 hrw b (fun S x3 h => z_X8_wealth_B54 hrw b _ _ h) n _ _ _ _ h

def w_X8_richest_B50 (cy : Nat → ClassId) (tE : Nat) (post : Int32 → KS → Prop) (k12 : KS → Int32 → Int32 → Int32 → Int32 → Prop) (k56 : KS → Int32 → Prop) (S : KS) (x1 : Int32) (x2 : Int32) (x3 : Int32) (x4 : Int32) : Prop :=
  k12 S x1 x2 x3 (x4 + 1)

set_option maxHeartbeats 4000000 in
set_option maxRecDepth 100000 in
theorem z_X8_richest_B50 {p : Program} {l : Launch} {e : Env} {R : Room} {s : State} {m : MethodId} {args : Array Value} {below : List Frame} {meth : Method} {c : Code} {D : va_G} {cy : Nat → ClassId} {T0 tB tE : Nat} {A : Nat → Prop} {a : Nat → Nat} {rw : Nat → Option Nat} (hrw : ∀ i, i < 6 → rw i = some (a (12 + 2 * i))) {post : Int32 → KS → Prop} {k12 : KS → Int32 → Int32 → Int32 → Int32 → Prop} {k56 : KS → Int32 → Prop} (b : Bz p R s m args meth c D cy T0 tB tE A 6 cX8_richest RX8 (some .int) "richest" 4 92 0 0) (hk12 : ∀ (S : KS) (x1 : Int32) (x2 : Int32) (x3 : Int32) (x4 : Int32), k12 S x1 x2 x3 x4 → Z p l e R s m args below meth c D A 6 (MQ below (QI D (U := KS) post (kw cy a rw) A) args s 0 0 A) 0 0 (kw cy a rw S) [(0, .ref (a 38)), (1, .int x1), (2, .int x2), (3, .int x3), (4, .int x4)] 12 []) (hk56 : ∀ (S : KS) (x2 : Int32), k56 S x2 → Z p l e R s m args below meth c D A 6 (MQ below (QI D (U := KS) post (kw cy a rw) A) args s 0 0 A) 0 0 (kw cy a rw S) [(2, .int x2)] 56 []) (S : KS) (x1 : Int32) (x2 : Int32) (x3 : Int32) (x4 : Int32) (h : w_X8_richest_B50 cy tE post k12 k56 S x1 x2 x3 x4) : Z p l e R s m args below meth c D A 6 (MQ below (QI D (U := KS) post (kw cy a rw) A) args s 0 0 A) 0 0 (kw cy a rw S) [(0, .ref (a 38)), (1, .int x1), (2, .int x2), (3, .int x3), (4, .int x4)] 50 [] := by
  unfold w_X8_richest_B50 at h
  refine z_iinc (k9 := 4) (v := (x4 + 1)) (lv' := [(4, .int (x4 + 1)), (0, .ref (a 38)), (1, .int x1), (2, .int x2), (3, .int x3)]) b dX8_richest_50 rfl rfl (by decide) rfl ?_
  refine z_goto (tgt := 12) b dX8_richest_53 (by decide) ?_
  refine z_lv0 (lv' := [(0, .ref (a 38)), (1, .int x1), (2, .int x2), (3, .int x3), (4, .int (x4 + 1))]) [1, 2, 3, 4, 0] rfl ?_
  exact hk12 _ _ _ _ _ h

def w_X8_richest_F12 (cy : Nat → ClassId) (tE : Nat) (post : Int32 → KS → Prop) (k56 : KS → Int32 → Prop) (k12 : KS → Int32 → Int32 → Int32 → Int32 → Prop) (S : KS) (x1 : Int32) (x2 : Int32) (x3 : Int32) (x4 : Int32) : Prop :=
  (((fi S.1 33).toInt ≤ x4.toInt → k56 S x2) ∧ (x4.toInt < (fi S.1 33).toInt → ((400 ≤ x4.toInt → k56 S x2) ∧ (x4.toInt < 400 → w_X8_wealth cy tE S x4 x1 (fun r3 S4 => ((r3.toInt ≤ x3.toInt → w_X8_richest_B50 cy tE post k12 k56 S4 x1 x2 x3 x4) ∧ (x3.toInt < r3.toInt → w_X8_richest_B50 cy tE post k12 k56 S4 x1 x4 r3 x4)))))))

set_option maxHeartbeats 4000000 in
set_option maxRecDepth 100000 in
theorem z_X8_richest_F12 {p : Program} {l : Launch} {e : Env} {R : Room} {s : State} {m : MethodId} {args : Array Value} {below : List Frame} {meth : Method} {c : Code} {D : va_G} {cy : Nat → ClassId} {T0 tB tE : Nat} {A : Nat → Prop} {a : Nat → Nat} {rw : Nat → Option Nat} (hrw : ∀ i, i < 6 → rw i = some (a (12 + 2 * i))) {post : Int32 → KS → Prop} {k56 : KS → Int32 → Prop} {k12 : KS → Int32 → Int32 → Int32 → Int32 → Prop} (b : Bz p R s m args meth c D cy T0 tB tE A 6 cX8_richest RX8 (some .int) "richest" 4 92 0 0) (hk56 : ∀ (S : KS) (x2 : Int32), k56 S x2 → Z p l e R s m args below meth c D A 6 (MQ below (QI D (U := KS) post (kw cy a rw) A) args s 0 0 A) 0 0 (kw cy a rw S) [(2, .int x2)] 56 []) (hk12 : ∀ (S : KS) (x1 : Int32) (x2 : Int32) (x3 : Int32) (x4 : Int32), k12 S x1 x2 x3 x4 → Z p l e R s m args below meth c D A 6 (MQ below (QI D (U := KS) post (kw cy a rw) A) args s 0 0 A) 0 0 (kw cy a rw S) [(0, .ref (a 38)), (1, .int x1), (2, .int x2), (3, .int x3), (4, .int x4)] 12 []) (S : KS) (x1 : Int32) (x2 : Int32) (x3 : Int32) (x4 : Int32) (h : w_X8_richest_F12 cy tE post k56 k12 S x1 x2 x3 x4) : Z p l e R s m args below meth c D A 6 (MQ below (QI D (U := KS) post (kw cy a rw) A) args s 0 0 A) 0 0 (kw cy a rw S) [(0, .ref (a 38)), (1, .int x1), (2, .int x2), (3, .int x3), (4, .int x4)] 12 [] := by
  unfold w_X8_richest_F12 at h
  refine z_iload b dX8_richest_12 rfl ?_
  refine z_aload_n b dX8_richest_14 rfl rfl ?_
  refine z_get (q0 := 38) (k9 := 17) (v := .int (fi S.1 33)) b (kw_38 cy a rw S) rfl in_X8 (by decide) wf_X8_64 rfl dX8_richest_15 ?_
  refine y_icmp_ge (tgt := 56) (xl := x4.toInt) (yl := (fi S.1 33).toInt) b rfl rfl dX8_richest_18 (by decide) (fun c1 => ?_) (fun c1 => ?_)
  · replace h := h.1 c1
    refine z_lv0 (lv' := [(2, .int x2)]) [2] rfl ?_
    exact hk56 _ _ h
  · replace h := h.2 c1
    refine z_iload b dX8_richest_21 rfl ?_
    refine z_sipush (v := 400) b dX8_richest_23 (by decide) ?_
    refine y_icmp_ge (tgt := 56) (xl := x4.toInt) (yl := 400) b rfl (by decide) dX8_richest_26 (by decide) (fun c1 => ?_) (fun c1 => ?_)
    · replace h := h.1 c1
      refine z_lv0 (lv' := [(2, .int x2)]) [2] rfl ?_
      exact hk56 _ _ h
    · replace h := h.2 c1
      refine z_aload_n b dX8_richest_29 rfl rfl ?_
      refine z_iload b dX8_richest_30 rfl ?_
      refine z_iload_n b dX8_richest_32 rfl rfl ?_
      refine z_calli b (z_runV (q0 := 38) (As := [.int x4, .int x1]) (st := []) b (k_X8_wealth hrw S x4 x1 _ h) cf_X8_wealth (kw_38 cy a rw S) rfl wm_X8_163 wi_X8_wealth ws_X8_wealth dX8_richest_33 rfl (Nat.le_of_ble_eq_true rfl) ⟨by decide, by decide, Nat.le_of_ble_eq_true rfl, Nat.le_of_ble_eq_true rfl⟩) (fun r3 S4 h => ?_)
      refine z_istore (lv' := [(5, .int r3), (0, .ref (a 38)), (1, .int x1), (2, .int x2), (3, .int x3), (4, .int x4)]) b dX8_richest_36 (by decide) rfl ?_
      refine z_iload b dX8_richest_38 rfl ?_
      refine z_iload_n b dX8_richest_40 rfl rfl ?_
      refine y_icmp_le (tgt := 50) (xl := r3.toInt) (yl := x3.toInt) b rfl rfl dX8_richest_41 (by decide) (fun c1 => ?_) (fun c1 => ?_)
      · replace h := h.1 c1
        refine z_lv0 (lv' := [(0, .ref (a 38)), (1, .int x1), (2, .int x2), (3, .int x3), (4, .int x4)]) [1, 2, 3, 4, 5] rfl ?_
        exact z_X8_richest_B50 hrw b hk12 hk56 _ _ _ _ _ h
      · replace h := h.2 c1
        refine z_iload b dX8_richest_44 rfl ?_
        refine z_istore_n (lv' := [(3, .int r3), (5, .int r3), (0, .ref (a 38)), (1, .int x1), (2, .int x2), (4, .int x4)]) b dX8_richest_46 rfl (by decide) rfl ?_
        refine z_iload b dX8_richest_47 rfl ?_
        refine z_istore_n (lv' := [(2, .int x4), (3, .int r3), (5, .int r3), (0, .ref (a 38)), (1, .int x1), (4, .int x4)]) b dX8_richest_49 rfl (by decide) rfl ?_
        refine z_lv0 (lv' := [(0, .ref (a 38)), (1, .int x1), (2, .int x4), (3, .int r3), (4, .int x4)]) [3, 4, 0, 1, 5] rfl ?_
        exact z_X8_richest_B50 hrw b hk12 hk56 _ _ _ _ _ h

set_option maxHeartbeats 4000000 in
set_option maxRecDepth 100000 in
theorem zl_X8_richest_L12 {p : Program} {l : Launch} {e : Env} {R : Room} {s : State} {m : MethodId} {args : Array Value} {below : List Frame} {meth : Method} {c : Code} {D : va_G} {cy : Nat → ClassId} {T0 tB tE : Nat} {A : Nat → Prop} {a : Nat → Nat} {rw : Nat → Option Nat} (hrw : ∀ i, i < 6 → rw i = some (a (12 + 2 * i))) {post : Int32 → KS → Prop} {k56 : KS → Int32 → Prop} (b : Bz p R s m args meth c D cy T0 tB tE A 6 cX8_richest RX8 (some .int) "richest" 4 92 0 0) (hk56 : ∀ (S : KS) (x2 : Int32), k56 S x2 → Z p l e R s m args below meth c D A 6 (MQ below (QI D (U := KS) post (kw cy a rw) A) args s 0 0 A) 0 0 (kw cy a rw S) [(2, .int x2)] 56 []) : ∀ (n : Nat) (S : KS) (x1 : Int32) (x2 : Int32) (x3 : Int32) (x4 : Int32), lpn (w_X8_richest_F12 cy tE post k56) (fun _ _ _ _ _ => False) n S x1 x2 x3 x4 → Z p l e R s m args below meth c D A 6 (MQ below (QI D (U := KS) post (kw cy a rw) A) args s 0 0 A) 0 0 (kw cy a rw S) [(0, .ref (a 38)), (1, .int x1), (2, .int x2), (3, .int x3), (4, .int x4)] 12 [] := by
  intro n
  induction n with
  | zero => intro _ _ _ _ _ h; exact h.elim
  | succ n ih => intro S x1 x2 x3 x4 h; exact z_X8_richest_F12 hrw b hk56 ih S x1 x2 x3 x4 h

def w_X8_richest_B56 (cy : Nat → ClassId) (tE : Nat) (post : Int32 → KS → Prop) (S : KS) (x2 : Int32) : Prop :=
  post x2 S

set_option maxHeartbeats 4000000 in
set_option maxRecDepth 100000 in
theorem z_X8_richest_B56 {p : Program} {l : Launch} {e : Env} {R : Room} {s : State} {m : MethodId} {args : Array Value} {below : List Frame} {meth : Method} {c : Code} {D : va_G} {cy : Nat → ClassId} {T0 tB tE : Nat} {A : Nat → Prop} {a : Nat → Nat} {rw : Nat → Option Nat} (hrw : ∀ i, i < 6 → rw i = some (a (12 + 2 * i))) {post : Int32 → KS → Prop} (b : Bz p R s m args meth c D cy T0 tB tE A 6 cX8_richest RX8 (some .int) "richest" 4 92 0 0) (S : KS) (x2 : Int32) (h : w_X8_richest_B56 cy tE post S x2) : Z p l e R s m args below meth c D A 6 (MQ below (QI D (U := KS) post (kw cy a rw) A) args s 0 0 A) 0 0 (kw cy a rw S) [(2, .int x2)] 56 [] := by
  unfold w_X8_richest_B56 at h
  refine z_iload_n b dX8_richest_56 rfl rfl ?_
  exact z_iret (u := S) b rfl dX8_richest_57 h rfl (by decide) (by decide)

def w_X8_richest (cy : Nat → ClassId) (tE : Nat) (S : KS) (p0 : Int32) (post : Int32 → KS → Prop) : Prop :=
  w_X8_wealth cy tE S 0 p0 (fun r1 S2 => ∃ n, lpn (w_X8_richest_F12 cy tE post (w_X8_richest_B56 cy tE post)) (fun _ _ _ _ _ => False) n S2 p0 0 r1 1)

set_option maxHeartbeats 4000000 in
set_option maxRecDepth 100000 in
theorem k_X8_richest {l : Launch} {D : va_G} {cy : Nat → ClassId} {T0 tB tE : Nat} {a : Nat → Nat} {rw : Nat → Option Nat} (hrw : ∀ i, i < 6 → rw i = some (a (12 + 2 * i))) (S : KS) (p0 : Int32) (post : Int32 → KS → Prop) (h : w_X8_richest cy tE S p0 post) : Ct l D cy T0 tB tE yX8_richest cX8_richest 6 (some .int) 4 92 0 0 (kw cy a rw S) [.ref (a 38), .int p0] (QI D (U := KS) post (kw cy a rw)) := by
  refine Ct.ofZ RX8 "richest" [(0, .ref (a 38)), (1, .int p0)] rfl rfl rfl rfl (Nat.le_of_ble_eq_true rfl) ?_
  intro p e R s m args below meth c A b
  unfold w_X8_richest at h
  refine z_iconst (v := 0) b dX8_richest_0 (by decide) ?_
  refine z_istore_n (lv' := [(2, .int 0), (0, .ref (a 38)), (1, .int p0)]) b dX8_richest_1 rfl (by decide) rfl ?_
  refine z_aload_n b dX8_richest_2 rfl rfl ?_
  refine z_iconst (v := 0) b dX8_richest_3 (by decide) ?_
  refine z_iload_n b dX8_richest_4 rfl rfl ?_
  refine z_calli b (z_runV (q0 := 38) (As := [.int 0, .int p0]) (st := []) b (k_X8_wealth hrw S 0 p0 _ h) cf_X8_wealth (kw_38 cy a rw S) rfl wm_X8_163 wi_X8_wealth ws_X8_wealth dX8_richest_5 rfl (Nat.le_of_ble_eq_true rfl) ⟨by decide, by decide, Nat.le_of_ble_eq_true rfl, Nat.le_of_ble_eq_true rfl⟩) (fun r1 S2 h => ?_)
  refine z_istore_n (lv' := [(3, .int r1), (2, .int 0), (0, .ref (a 38)), (1, .int p0)]) b dX8_richest_8 rfl (by decide) rfl ?_
  refine z_iconst (v := 1) b dX8_richest_9 (by decide) ?_
  refine z_istore (lv' := [(4, .int 1), (3, .int r1), (2, .int 0), (0, .ref (a 38)), (1, .int p0)]) b dX8_richest_10 (by decide) rfl ?_
  refine z_lv0 (lv' := [(0, .ref (a 38)), (1, .int p0), (2, .int 0), (3, .int r1), (4, .int 1)]) [3, 4, 2, 1, 0] rfl ?_
  obtain ⟨n, h⟩ := h
  exact zl_X8_richest_L12 hrw b (fun S x2 h => z_X8_richest_B56 hrw b _ _ h) n _ _ _ _ _ h

def w_X10_kindOfWord_F11 (cy : Nat → ClassId) (tE : Nat) (post : Int32 → KS → Prop) (k44 : KS → Int32 → Prop) (k11 : KS → Int64 → Int32 → Int32 → Prop) (S : KS) (x1 : Int64) (x3 : Int32) (x4 : Int32) : Prop :=
  ((19 ≤ x4.toInt → k44 S x3) ∧ (x4.toInt < 19 → (0 ≤ x4.toInt ∧ x4.toInt < 19) ∧ (((lg_cmp ((al S.1 0) x4.toNatClampNeg) x1).toInt ≠ 0 → k11 S x1 x3 (x4 + 1)) ∧ ((lg_cmp ((al S.1 0) x4.toNatClampNeg) x1).toInt = 0 → post ((4 : Int32) + x4) S))))

set_option maxHeartbeats 4000000 in
set_option maxRecDepth 100000 in
theorem z_X10_kindOfWord_F11 {p : Program} {l : Launch} {e : Env} {R : Room} {s : State} {m : MethodId} {args : Array Value} {below : List Frame} {meth : Method} {c : Code} {D : va_G} {cy : Nat → ClassId} {T0 tB tE : Nat} {A : Nat → Prop} {a : Nat → Nat} {rw : Nat → Option Nat} (hrw : ∀ i, i < 6 → rw i = some (a (12 + 2 * i))) {post : Int32 → KS → Prop} {k44 : KS → Int32 → Prop} {k11 : KS → Int64 → Int32 → Int32 → Prop} (b : Bz p R s m args meth c D cy T0 tB tE A 5 cX10_kindOfWord RX10 (some .int) "kindOfWord" 0 0 0 0) (hk44 : ∀ (S : KS) (x3 : Int32), k44 S x3 → Z p l e R s m args below meth c D A 5 (MQ below (QI D (U := KS) post (kw cy a rw) A) args s 0 0 A) 0 0 (kw cy a rw S) [(3, .int x3)] 44 []) (hk11 : ∀ (S : KS) (x1 : Int64) (x3 : Int32) (x4 : Int32), k11 S x1 x3 x4 → Z p l e R s m args below meth c D A 5 (MQ below (QI D (U := KS) post (kw cy a rw) A) args s 0 0 A) 0 0 (kw cy a rw S) [(0, .ref (a 27)), (1, .long x1), (3, .int x3), (4, .int x4)] 11 []) (S : KS) (x1 : Int64) (x3 : Int32) (x4 : Int32) (h : w_X10_kindOfWord_F11 cy tE post k44 k11 S x1 x3 x4) : Z p l e R s m args below meth c D A 5 (MQ below (QI D (U := KS) post (kw cy a rw) A) args s 0 0 A) 0 0 (kw cy a rw S) [(0, .ref (a 27)), (1, .long x1), (3, .int x3), (4, .int x4)] 11 [] := by
  unfold w_X10_kindOfWord_F11 at h
  refine z_iload b dX10_kindOfWord_11 rfl ?_
  refine z_aload_n b dX10_kindOfWord_13 rfl rfl ?_
  refine z_get (q0 := 27) (k9 := 0) (v := .ref (a 28)) b (kw_27 cy a rw S) rfl in_X10 (by decide) wf_X10_11 rfl dX10_kindOfWord_14 ?_
  refine z_alen (q0 := 28) (t0 := 1) (v := 19) b (kw_28 cy a rw S) rfl rfl dX10_kindOfWord_17 ?_
  refine y_icmp_ge (tgt := 44) (xl := x4.toInt) (yl := 19) b rfl (by decide) dX10_kindOfWord_18 (by decide) (fun c1 => ?_) (fun c1 => ?_)
  · replace h := h.1 c1
    refine z_lv0 (lv' := [(3, .int x3)]) [2] rfl ?_
    exact hk44 _ _ h
  · replace h := h.2 c1
    refine z_aload_n b dX10_kindOfWord_21 rfl rfl ?_
    refine z_get (q0 := 27) (k9 := 0) (v := .ref (a 28)) b (kw_27 cy a rw S) rfl in_X10 (by decide) wf_X10_11 rfl dX10_kindOfWord_22 ?_
    refine z_iload b dX10_kindOfWord_25 rfl ?_
    obtain ⟨g1, h⟩ := h
    refine y_lald (q0 := 28) (j := x4.toNatClampNeg) (v := ((al S.1 0) x4.toNatClampNeg)) b (kw_28 cy a rw S) (zx_r g1.1 g1.2) rfl dX10_kindOfWord_27 ?_
    refine z_lload_n b dX10_kindOfWord_28 rfl rfl ?_
    refine z_lcmp b dX10_kindOfWord_29 rfl ?_
    refine y_if_ne (tgt := 38) (xl := (lg_cmp ((al S.1 0) x4.toNatClampNeg) x1).toInt) b rfl dX10_kindOfWord_30 (by decide) (fun c1 => ?_) (fun c1 => ?_)
    · replace h := h.1 c1
      refine z_iinc (k9 := 3) (v := (x4 + 1)) (lv' := [(4, .int (x4 + 1)), (0, .ref (a 27)), (1, .long x1), (3, .int x3)]) b dX10_kindOfWord_38 rfl rfl (by decide) rfl ?_
      refine z_goto (tgt := 11) b dX10_kindOfWord_41 (by decide) ?_
      refine z_lv0 (lv' := [(0, .ref (a 27)), (1, .long x1), (3, .int x3), (4, .int (x4 + 1))]) [1, 2, 3, 0] rfl ?_
      exact hk11 _ _ _ _ h
    · replace h := h.2 c1
      refine z_iconst (v := 4) b dX10_kindOfWord_33 (by decide) ?_
      refine z_iload b dX10_kindOfWord_34 rfl ?_
      refine z_iadd b dX10_kindOfWord_36 rfl ?_
      exact z_iret (u := S) b rfl dX10_kindOfWord_37 h rfl (by decide) (by decide)

set_option maxHeartbeats 4000000 in
set_option maxRecDepth 100000 in
theorem zl_X10_kindOfWord_L11 {p : Program} {l : Launch} {e : Env} {R : Room} {s : State} {m : MethodId} {args : Array Value} {below : List Frame} {meth : Method} {c : Code} {D : va_G} {cy : Nat → ClassId} {T0 tB tE : Nat} {A : Nat → Prop} {a : Nat → Nat} {rw : Nat → Option Nat} (hrw : ∀ i, i < 6 → rw i = some (a (12 + 2 * i))) {post : Int32 → KS → Prop} {k44 : KS → Int32 → Prop} (b : Bz p R s m args meth c D cy T0 tB tE A 5 cX10_kindOfWord RX10 (some .int) "kindOfWord" 0 0 0 0) (hk44 : ∀ (S : KS) (x3 : Int32), k44 S x3 → Z p l e R s m args below meth c D A 5 (MQ below (QI D (U := KS) post (kw cy a rw) A) args s 0 0 A) 0 0 (kw cy a rw S) [(3, .int x3)] 44 []) : ∀ (n : Nat) (S : KS) (x1 : Int64) (x3 : Int32) (x4 : Int32), lpn (w_X10_kindOfWord_F11 cy tE post k44) (fun _ _ _ _ => False) n S x1 x3 x4 → Z p l e R s m args below meth c D A 5 (MQ below (QI D (U := KS) post (kw cy a rw) A) args s 0 0 A) 0 0 (kw cy a rw S) [(0, .ref (a 27)), (1, .long x1), (3, .int x3), (4, .int x4)] 11 [] := by
  intro n
  induction n with
  | zero => intro _ _ _ _ h; exact h.elim
  | succ n ih => intro S x1 x3 x4 h; exact z_X10_kindOfWord_F11 hrw b hk44 ih S x1 x3 x4 h

def w_X10_kindOfWord_B54 (cy : Nat → ClassId) (tE : Nat) (post : Int32 → KS → Prop) (S : KS) (y0 : Int32) : Prop :=
  post y0 S

set_option maxHeartbeats 4000000 in
set_option maxRecDepth 100000 in
theorem z_X10_kindOfWord_B54 {p : Program} {l : Launch} {e : Env} {R : Room} {s : State} {m : MethodId} {args : Array Value} {below : List Frame} {meth : Method} {c : Code} {D : va_G} {cy : Nat → ClassId} {T0 tB tE : Nat} {A : Nat → Prop} {a : Nat → Nat} {rw : Nat → Option Nat} (hrw : ∀ i, i < 6 → rw i = some (a (12 + 2 * i))) {post : Int32 → KS → Prop} (b : Bz p R s m args meth c D cy T0 tB tE A 5 cX10_kindOfWord RX10 (some .int) "kindOfWord" 0 0 0 0) (S : KS) (y0 : Int32) (h : w_X10_kindOfWord_B54 cy tE post S y0) : Z p l e R s m args below meth c D A 5 (MQ below (QI D (U := KS) post (kw cy a rw) A) args s 0 0 A) 0 0 (kw cy a rw S) [] 54 [.int y0] := by
  unfold w_X10_kindOfWord_B54 at h
  exact z_iret (u := S) b rfl dX10_kindOfWord_54 h rfl (by decide) (by decide)

def w_X10_kindOfWord_B44 (cy : Nat → ClassId) (tE : Nat) (post : Int32 → KS → Prop) (S : KS) (x3 : Int32) : Prop :=
  ((x3.toInt ≤ 1 → w_X10_kindOfWord_B54 cy tE post S 1) ∧ (1 < x3.toInt → w_X10_kindOfWord_B54 cy tE post S 3))

set_option maxHeartbeats 4000000 in
set_option maxRecDepth 100000 in
theorem z_X10_kindOfWord_B44 {p : Program} {l : Launch} {e : Env} {R : Room} {s : State} {m : MethodId} {args : Array Value} {below : List Frame} {meth : Method} {c : Code} {D : va_G} {cy : Nat → ClassId} {T0 tB tE : Nat} {A : Nat → Prop} {a : Nat → Nat} {rw : Nat → Option Nat} (hrw : ∀ i, i < 6 → rw i = some (a (12 + 2 * i))) {post : Int32 → KS → Prop} (b : Bz p R s m args meth c D cy T0 tB tE A 5 cX10_kindOfWord RX10 (some .int) "kindOfWord" 0 0 0 0) (S : KS) (x3 : Int32) (h : w_X10_kindOfWord_B44 cy tE post S x3) : Z p l e R s m args below meth c D A 5 (MQ below (QI D (U := KS) post (kw cy a rw) A) args s 0 0 A) 0 0 (kw cy a rw S) [(3, .int x3)] 44 [] := by
  unfold w_X10_kindOfWord_B44 at h
  refine z_iload_n b dX10_kindOfWord_44 rfl rfl ?_
  refine z_iconst (v := 1) b dX10_kindOfWord_45 (by decide) ?_
  refine y_icmp_le (tgt := 53) (xl := x3.toInt) (yl := 1) b rfl (by decide) dX10_kindOfWord_46 (by decide) (fun c1 => ?_) (fun c1 => ?_)
  · replace h := h.1 c1
    refine z_iconst (v := 1) b dX10_kindOfWord_53 (by decide) ?_
    refine z_lv0 (lv' := []) [] rfl ?_
    exact z_X10_kindOfWord_B54 hrw b _ _ h
  · replace h := h.2 c1
    refine z_iconst (v := 3) b dX10_kindOfWord_49 (by decide) ?_
    refine z_goto (tgt := 54) b dX10_kindOfWord_50 (by decide) ?_
    refine z_lv0 (lv' := []) [] rfl ?_
    exact z_X10_kindOfWord_B54 hrw b _ _ h

def w_X10_kindOfWord (cy : Nat → ClassId) (tE : Nat) (S : KS) (p0 : Int64) (p1 : Int32) (post : Int32 → KS → Prop) : Prop :=
  ((p1.toInt ≤ 8 → ∃ n, lpn (w_X10_kindOfWord_F11 cy tE post (w_X10_kindOfWord_B44 cy tE post)) (fun _ _ _ _ => False) n S p0 p1 0) ∧ (8 < p1.toInt → post 1 S))

set_option maxHeartbeats 4000000 in
set_option maxRecDepth 100000 in
theorem k_X10_kindOfWord {l : Launch} {D : va_G} {cy : Nat → ClassId} {T0 tB tE : Nat} {a : Nat → Nat} {rw : Nat → Option Nat} (hrw : ∀ i, i < 6 → rw i = some (a (12 + 2 * i))) (S : KS) (p0 : Int64) (p1 : Int32) (post : Int32 → KS → Prop) (h : w_X10_kindOfWord cy tE S p0 p1 post) : Ct l D cy T0 tB tE yX10_kindOfWord cX10_kindOfWord 5 (some .int) 0 0 0 0 (kw cy a rw S) [.ref (a 27), .long p0, .int p1] (QI D (U := KS) post (kw cy a rw)) := by
  refine Ct.ofZ RX10 "kindOfWord" [(0, .ref (a 27)), (1, .long p0), (3, .int p1)] rfl rfl rfl rfl (Nat.le_of_ble_eq_true rfl) ?_
  intro p e R s m args below meth c A b
  unfold w_X10_kindOfWord at h
  refine z_iload_n b dX10_kindOfWord_0 rfl rfl ?_
  refine z_bipush (v := 8) b dX10_kindOfWord_1 (by decide) ?_
  refine y_icmp_le (tgt := 8) (xl := p1.toInt) (yl := 8) b rfl (by decide) dX10_kindOfWord_3 (by decide) (fun c1 => ?_) (fun c1 => ?_)
  · replace h := h.1 c1
    refine z_iconst (v := 0) b dX10_kindOfWord_8 (by decide) ?_
    refine z_istore (lv' := [(4, .int 0), (0, .ref (a 27)), (1, .long p0), (3, .int p1)]) b dX10_kindOfWord_9 (by decide) rfl ?_
    refine z_lv0 (lv' := [(0, .ref (a 27)), (1, .long p0), (3, .int p1), (4, .int 0)]) [1, 2, 3, 0] rfl ?_
    obtain ⟨n, h⟩ := h
    exact zl_X10_kindOfWord_L11 hrw b (fun S x3 h => z_X10_kindOfWord_B44 hrw b _ _ h) n _ _ _ _ h
  · replace h := h.2 c1
    refine z_iconst (v := 1) b dX10_kindOfWord_6 (by decide) ?_
    exact z_iret (u := S) b rfl dX10_kindOfWord_7 h rfl (by decide) (by decide)

def w_X7_endOf_B59 (cy : Nat → ClassId) (tE : Nat) (post : Int32 → KS → Prop) (k6 : KS → Nat → Nat → Int32 → Int32 → Int32 → Int32 → Prop) (k65 : KS → Prop) (S : KS) (x0 : Nat) (x1 : Nat) (x2 : Int32) (x3 : Int32) (x4 : Int32) (x5 : Int32) : Prop :=
  k6 S x0 x1 x2 x3 x4 (x5 + 1)

set_option maxHeartbeats 4000000 in
set_option maxRecDepth 100000 in
theorem z_X7_endOf_B59 {p : Program} {l : Launch} {e : Env} {R : Room} {s : State} {m : MethodId} {args : Array Value} {below : List Frame} {meth : Method} {c : Code} {D : va_G} {cy : Nat → ClassId} {T0 tB tE : Nat} {A : Nat → Prop} {a : Nat → Nat} {rw : Nat → Option Nat} (hrw : ∀ i, i < 6 → rw i = some (a (12 + 2 * i))) {post : Int32 → KS → Prop} {k6 : KS → Nat → Nat → Int32 → Int32 → Int32 → Int32 → Prop} {k65 : KS → Prop} (b : Bz p R s m args meth c D cy T0 tB tE A 6 cX7_endOf RX7 (some .int) "endOf" 2 47 0 0) (hk6 : ∀ (S : KS) (x0 : Nat) (x1 : Nat) (x2 : Int32) (x3 : Int32) (x4 : Int32) (x5 : Int32), k6 S x0 x1 x2 x3 x4 x5 → Z p l e R s m args below meth c D A 6 (MQ below (QI D (U := KS) post (kw cy a rw) A) args s 0 0 A) 0 0 (kw cy a rw S) [(0, .ref (a (12 + 2 * x0))), (1, .ref (a (12 + 2 * x1))), (2, .int x2), (3, .int x3), (4, .int x4), (5, .int x5)] 6 []) (hk65 : ∀ (S : KS), k65 S → Z p l e R s m args below meth c D A 6 (MQ below (QI D (U := KS) post (kw cy a rw) A) args s 0 0 A) 0 0 (kw cy a rw S) [] 65 []) (S : KS) (x0 : Nat) (x1 : Nat) (x2 : Int32) (x3 : Int32) (x4 : Int32) (x5 : Int32) (h : w_X7_endOf_B59 cy tE post k6 k65 S x0 x1 x2 x3 x4 x5) : Z p l e R s m args below meth c D A 6 (MQ below (QI D (U := KS) post (kw cy a rw) A) args s 0 0 A) 0 0 (kw cy a rw S) [(0, .ref (a (12 + 2 * x0))), (1, .ref (a (12 + 2 * x1))), (2, .int x2), (3, .int x3), (4, .int x4), (5, .int x5)] 59 [] := by
  unfold w_X7_endOf_B59 at h
  refine z_iinc (k9 := 5) (v := (x5 + 1)) (lv' := [(5, .int (x5 + 1)), (0, .ref (a (12 + 2 * x0))), (1, .ref (a (12 + 2 * x1))), (2, .int x2), (3, .int x3), (4, .int x4)]) b dX7_endOf_59 rfl rfl (by decide) rfl ?_
  refine z_goto (tgt := 6) b dX7_endOf_62 (by decide) ?_
  refine z_lv0 (lv' := [(0, .ref (a (12 + 2 * x0))), (1, .ref (a (12 + 2 * x1))), (2, .int x2), (3, .int x3), (4, .int x4), (5, .int (x5 + 1))]) [1, 2, 3, 4, 5, 0] rfl ?_
  exact hk6 _ _ _ _ _ _ _ h

def w_X7_endOf_F6 (cy : Nat → ClassId) (tE : Nat) (post : Int32 → KS → Prop) (k65 : KS → Prop) (k6 : KS → Nat → Nat → Int32 → Int32 → Int32 → Int32 → Prop) (S : KS) (x0 : Nat) (x1 : Nat) (x2 : Int32) (x3 : Int32) (x4 : Int32) (x5 : Int32) : Prop :=
  (x0 < 7) ∧ (((fi S.1 (1 + 2 * x0)).toInt ≤ x5.toInt → k65 S) ∧ (x5.toInt < (fi S.1 (1 + 2 * x0)).toInt → (x1 < 7) ∧ (((fi S.1 (1 + 2 * x1)).toInt ≤ x4.toInt → w_X7_endOf_B59 cy tE post k6 k65 S x0 x1 x2 x3 x4 x5) ∧ (x4.toInt < (fi S.1 (1 + 2 * x1)).toInt → (x0 < 7) ∧ w_X7_get cy tE S x0 x5 (fun r4 S5 => (x1 < 7) ∧ w_X7_get cy tE S5 x1 x4 (fun r7 S8 => w_X7_renamed cy tE S8 r7 x2 x3 (fun r9 S10 => ((r4.toInt ≠ r9.toInt → w_X7_endOf_B59 cy tE post k6 k65 S10 x0 x1 x2 x3 x4 x5) ∧ (r4.toInt = r9.toInt → (x1 < 7) ∧ (((x4 + 1).toInt ≠ (fi S10.1 (1 + 2 * x1)).toInt → w_X7_endOf_B59 cy tE post k6 k65 S10 x0 x1 x2 x3 (x4 + 1) x5) ∧ ((x4 + 1).toInt = (fi S10.1 (1 + 2 * x1)).toInt → post x5 S10)))))))))))

set_option maxHeartbeats 4000000 in
set_option maxRecDepth 100000 in
theorem z_X7_endOf_F6 {p : Program} {l : Launch} {e : Env} {R : Room} {s : State} {m : MethodId} {args : Array Value} {below : List Frame} {meth : Method} {c : Code} {D : va_G} {cy : Nat → ClassId} {T0 tB tE : Nat} {A : Nat → Prop} {a : Nat → Nat} {rw : Nat → Option Nat} (hrw : ∀ i, i < 6 → rw i = some (a (12 + 2 * i))) {post : Int32 → KS → Prop} {k65 : KS → Prop} {k6 : KS → Nat → Nat → Int32 → Int32 → Int32 → Int32 → Prop} (b : Bz p R s m args meth c D cy T0 tB tE A 6 cX7_endOf RX7 (some .int) "endOf" 2 47 0 0) (hk65 : ∀ (S : KS), k65 S → Z p l e R s m args below meth c D A 6 (MQ below (QI D (U := KS) post (kw cy a rw) A) args s 0 0 A) 0 0 (kw cy a rw S) [] 65 []) (hk6 : ∀ (S : KS) (x0 : Nat) (x1 : Nat) (x2 : Int32) (x3 : Int32) (x4 : Int32) (x5 : Int32), k6 S x0 x1 x2 x3 x4 x5 → Z p l e R s m args below meth c D A 6 (MQ below (QI D (U := KS) post (kw cy a rw) A) args s 0 0 A) 0 0 (kw cy a rw S) [(0, .ref (a (12 + 2 * x0))), (1, .ref (a (12 + 2 * x1))), (2, .int x2), (3, .int x3), (4, .int x4), (5, .int x5)] 6 []) (S : KS) (x0 : Nat) (x1 : Nat) (x2 : Int32) (x3 : Int32) (x4 : Int32) (x5 : Int32) (h : w_X7_endOf_F6 cy tE post k65 k6 S x0 x1 x2 x3 x4 x5) : Z p l e R s m args below meth c D A 6 (MQ below (QI D (U := KS) post (kw cy a rw) A) args s 0 0 A) 0 0 (kw cy a rw S) [(0, .ref (a (12 + 2 * x0))), (1, .ref (a (12 + 2 * x1))), (2, .int x2), (3, .int x3), (4, .int x4), (5, .int x5)] 6 [] := by
  unfold w_X7_endOf_F6 at h
  refine z_iload b dX7_endOf_6 rfl ?_
  refine z_aload_n b dX7_endOf_8 rfl rfl ?_
  obtain ⟨g1, h⟩ := h
  refine z_get (q0 := 12 + 2 * x0) (k9 := 1) (v := .int (fi S.1 (1 + 2 * x0))) b (kw_ro cy a rw S g1) rfl in_X7 (by decide) wf_X7_9 rfl dX7_endOf_9 ?_
  refine y_icmp_ge (tgt := 65) (xl := x5.toInt) (yl := (fi S.1 (1 + 2 * x0)).toInt) b rfl rfl dX7_endOf_12 (by decide) (fun c1 => ?_) (fun c1 => ?_)
  · replace h := h.1 c1
    refine z_lv0 (lv' := []) [] rfl ?_
    exact hk65 _ h
  · replace h := h.2 c1
    refine z_iload b dX7_endOf_15 rfl ?_
    refine z_aload_n b dX7_endOf_17 rfl rfl ?_
    obtain ⟨g2, h⟩ := h
    refine z_get (q0 := 12 + 2 * x1) (k9 := 1) (v := .int (fi S.1 (1 + 2 * x1))) b (kw_ro cy a rw S g2) rfl in_X7 (by decide) wf_X7_9 rfl dX7_endOf_18 ?_
    refine y_icmp_ge (tgt := 59) (xl := x4.toInt) (yl := (fi S.1 (1 + 2 * x1)).toInt) b rfl rfl dX7_endOf_21 (by decide) (fun c1 => ?_) (fun c1 => ?_)
    · replace h := h.1 c1
      exact z_X7_endOf_B59 hrw b hk6 hk65 _ _ _ _ _ _ _ h
    · replace h := h.2 c1
      refine z_aload_n b dX7_endOf_24 rfl rfl ?_
      refine z_iload b dX7_endOf_25 rfl ?_
      obtain ⟨g3, h⟩ := h
      refine z_calli b (z_runV (q0 := 12 + 2 * x0) (As := [.int x5]) (st := []) b (k_X7_get hrw S x0 x5 _ h) cf_X7_get (kw_ro cy a rw S g3) rfl wm_X7_29 wi_X7_get ws_X7_get dX7_endOf_27 rfl (Nat.le_of_ble_eq_true rfl) ⟨by decide, by decide, Nat.le_of_ble_eq_true rfl, Nat.le_of_ble_eq_true rfl⟩) (fun r4 S5 h => ?_)
      refine z_aload_n b dX7_endOf_30 rfl rfl ?_
      refine z_iload b dX7_endOf_31 rfl ?_
      obtain ⟨g6, h⟩ := h
      refine z_calli b (z_runV (q0 := 12 + 2 * x1) (As := [.int x4]) (st := [.int r4]) b (k_X7_get hrw S5 x1 x4 _ h) cf_X7_get (kw_ro cy a rw S5 g6) rfl wm_X7_29 wi_X7_get ws_X7_get dX7_endOf_33 rfl (Nat.le_of_ble_eq_true rfl) ⟨by decide, by decide, Nat.le_of_ble_eq_true rfl, Nat.le_of_ble_eq_true rfl⟩) (fun r7 S8 h => ?_)
      refine z_iload_n b dX7_endOf_36 rfl rfl ?_
      refine z_iload_n b dX7_endOf_37 rfl rfl ?_
      refine z_calli b (z_runS (As := [.int r7, .int x2, .int x3]) (st := [.int r4]) b (k_X7_renamed hrw S8 r7 x2 x3 _ h) cf_X7_renamed wm_X7_33 ws_X7_renamed dX7_endOf_38 rfl (Nat.le_of_ble_eq_true rfl) ⟨by decide, by decide, Nat.le_of_ble_eq_true rfl, Nat.le_of_ble_eq_true rfl⟩) (fun r9 S10 h => ?_)
      refine y_icmp_ne (tgt := 59) (xl := r4.toInt) (yl := r9.toInt) b rfl rfl dX7_endOf_41 (by decide) (fun c1 => ?_) (fun c1 => ?_)
      · replace h := h.1 c1
        exact z_X7_endOf_B59 hrw b hk6 hk65 _ _ _ _ _ _ _ h
      · replace h := h.2 c1
        refine z_iinc (k9 := 4) (v := (x4 + 1)) (lv' := [(4, .int (x4 + 1)), (0, .ref (a (12 + 2 * x0))), (1, .ref (a (12 + 2 * x1))), (2, .int x2), (3, .int x3), (5, .int x5)]) b dX7_endOf_44 rfl rfl (by decide) rfl ?_
        refine z_iload b dX7_endOf_47 rfl ?_
        refine z_aload_n b dX7_endOf_49 rfl rfl ?_
        obtain ⟨g11, h⟩ := h
        refine z_get (q0 := 12 + 2 * x1) (k9 := 1) (v := .int (fi S10.1 (1 + 2 * x1))) b (kw_ro cy a rw S10 g11) rfl in_X7 (by decide) wf_X7_9 rfl dX7_endOf_50 ?_
        refine y_icmp_ne (tgt := 59) (xl := (x4 + 1).toInt) (yl := (fi S10.1 (1 + 2 * x1)).toInt) b rfl rfl dX7_endOf_53 (by decide) (fun c1 => ?_) (fun c1 => ?_)
        · replace h := h.1 c1
          refine z_lv0 (lv' := [(0, .ref (a (12 + 2 * x0))), (1, .ref (a (12 + 2 * x1))), (2, .int x2), (3, .int x3), (4, .int (x4 + 1)), (5, .int x5)]) [1, 2, 3, 4, 0, 5] rfl ?_
          exact z_X7_endOf_B59 hrw b hk6 hk65 _ _ _ _ _ _ _ h
        · replace h := h.2 c1
          refine z_iload b dX7_endOf_56 rfl ?_
          exact z_iret (u := S10) b rfl dX7_endOf_58 h rfl (by decide) (by decide)

set_option maxHeartbeats 4000000 in
set_option maxRecDepth 100000 in
theorem zl_X7_endOf_L6 {p : Program} {l : Launch} {e : Env} {R : Room} {s : State} {m : MethodId} {args : Array Value} {below : List Frame} {meth : Method} {c : Code} {D : va_G} {cy : Nat → ClassId} {T0 tB tE : Nat} {A : Nat → Prop} {a : Nat → Nat} {rw : Nat → Option Nat} (hrw : ∀ i, i < 6 → rw i = some (a (12 + 2 * i))) {post : Int32 → KS → Prop} {k65 : KS → Prop} (b : Bz p R s m args meth c D cy T0 tB tE A 6 cX7_endOf RX7 (some .int) "endOf" 2 47 0 0) (hk65 : ∀ (S : KS), k65 S → Z p l e R s m args below meth c D A 6 (MQ below (QI D (U := KS) post (kw cy a rw) A) args s 0 0 A) 0 0 (kw cy a rw S) [] 65 []) : ∀ (n : Nat) (S : KS) (x0 : Nat) (x1 : Nat) (x2 : Int32) (x3 : Int32) (x4 : Int32) (x5 : Int32), lpn (w_X7_endOf_F6 cy tE post k65) (fun _ _ _ _ _ _ _ => False) n S x0 x1 x2 x3 x4 x5 → Z p l e R s m args below meth c D A 6 (MQ below (QI D (U := KS) post (kw cy a rw) A) args s 0 0 A) 0 0 (kw cy a rw S) [(0, .ref (a (12 + 2 * x0))), (1, .ref (a (12 + 2 * x1))), (2, .int x2), (3, .int x3), (4, .int x4), (5, .int x5)] 6 [] := by
  intro n
  induction n with
  | zero => intro _ _ _ _ _ _ _ h; exact h.elim
  | succ n ih => intro S x0 x1 x2 x3 x4 x5 h; exact z_X7_endOf_F6 hrw b hk65 ih S x0 x1 x2 x3 x4 x5 h

def w_X7_endOf_B65 (cy : Nat → ClassId) (tE : Nat) (post : Int32 → KS → Prop) (S : KS)  : Prop :=
  post (-1) S

set_option maxHeartbeats 4000000 in
set_option maxRecDepth 100000 in
theorem z_X7_endOf_B65 {p : Program} {l : Launch} {e : Env} {R : Room} {s : State} {m : MethodId} {args : Array Value} {below : List Frame} {meth : Method} {c : Code} {D : va_G} {cy : Nat → ClassId} {T0 tB tE : Nat} {A : Nat → Prop} {a : Nat → Nat} {rw : Nat → Option Nat} (hrw : ∀ i, i < 6 → rw i = some (a (12 + 2 * i))) {post : Int32 → KS → Prop} (b : Bz p R s m args meth c D cy T0 tB tE A 6 cX7_endOf RX7 (some .int) "endOf" 2 47 0 0) (S : KS)  (h : w_X7_endOf_B65 cy tE post S ) : Z p l e R s m args below meth c D A 6 (MQ below (QI D (U := KS) post (kw cy a rw) A) args s 0 0 A) 0 0 (kw cy a rw S) [] 65 [] := by
  unfold w_X7_endOf_B65 at h
  refine z_iconst (v := (-1)) b dX7_endOf_65 (by decide) ?_
  exact z_iret (u := S) b rfl dX7_endOf_66 h rfl (by decide) (by decide)

def w_X7_endOf (cy : Nat → ClassId) (tE : Nat) (S : KS) (p9 : Nat) (p0 : Nat) (p1 : Int32) (p2 : Int32) (post : Int32 → KS → Prop) : Prop :=
  ∃ n, lpn (w_X7_endOf_F6 cy tE post (w_X7_endOf_B65 cy tE post)) (fun _ _ _ _ _ _ _ => False) n S p9 p0 p1 p2 0 0

set_option maxHeartbeats 4000000 in
set_option maxRecDepth 100000 in
theorem k_X7_endOf {l : Launch} {D : va_G} {cy : Nat → ClassId} {T0 tB tE : Nat} {a : Nat → Nat} {rw : Nat → Option Nat} (hrw : ∀ i, i < 6 → rw i = some (a (12 + 2 * i))) (S : KS) (p9 : Nat) (p0 : Nat) (p1 : Int32) (p2 : Int32) (post : Int32 → KS → Prop) (h : w_X7_endOf cy tE S p9 p0 p1 p2 post) : Ct l D cy T0 tB tE yX7_endOf cX7_endOf 6 (some .int) 2 47 0 0 (kw cy a rw S) [.ref (a (12 + 2 * p9)), .ref (a (12 + 2 * p0)), .int p1, .int p2] (QI D (U := KS) post (kw cy a rw)) := by
  refine Ct.ofZ RX7 "endOf" [(0, .ref (a (12 + 2 * p9))), (1, .ref (a (12 + 2 * p0))), (2, .int p1), (3, .int p2)] rfl rfl rfl rfl (Nat.le_of_ble_eq_true rfl) ?_
  intro p e R s m args below meth c A b
  unfold w_X7_endOf at h
  refine z_iconst (v := 0) b dX7_endOf_0 (by decide) ?_
  refine z_istore (lv' := [(4, .int 0), (0, .ref (a (12 + 2 * p9))), (1, .ref (a (12 + 2 * p0))), (2, .int p1), (3, .int p2)]) b dX7_endOf_1 (by decide) rfl ?_
  refine z_iconst (v := 0) b dX7_endOf_3 (by decide) ?_
  refine z_istore (lv' := [(5, .int 0), (4, .int 0), (0, .ref (a (12 + 2 * p9))), (1, .ref (a (12 + 2 * p0))), (2, .int p1), (3, .int p2)]) b dX7_endOf_4 (by decide) rfl ?_
  refine z_lv0 (lv' := [(0, .ref (a (12 + 2 * p9))), (1, .ref (a (12 + 2 * p0))), (2, .int p1), (3, .int p2), (4, .int 0), (5, .int 0)]) [2, 3, 4, 5, 1, 0] rfl ?_
  obtain ⟨n, h⟩ := h
  exact zl_X7_endOf_L6 hrw b (fun S h => z_X7_endOf_B65 hrw b _ h) n _ _ _ _ _ _ _ h

def w_X8_unlike_B63 (cy : Nat → ClassId) (tE : Nat) (post : Int32 → KS → Prop) (k35 : KS → Int32 → Int32 → Int64 → Int32 → Int32 → Prop) (k71 : KS → Int32 → Int32 → Int64 → Int32 → Prop) (S : KS) (x1 : Int32) (x2 : Int32) (x3 : Int64) (x6 : Int32) (y0 : Int32) : Prop :=
  k35 S x1 x2 x3 y0 (x6 + 1)

set_option maxHeartbeats 4000000 in
set_option maxRecDepth 100000 in
theorem z_X8_unlike_B63 {p : Program} {l : Launch} {e : Env} {R : Room} {s : State} {m : MethodId} {args : Array Value} {below : List Frame} {meth : Method} {c : Code} {D : va_G} {cy : Nat → ClassId} {T0 tB tE : Nat} {A : Nat → Prop} {a : Nat → Nat} {rw : Nat → Option Nat} (hrw : ∀ i, i < 6 → rw i = some (a (12 + 2 * i))) {post : Int32 → KS → Prop} {k35 : KS → Int32 → Int32 → Int64 → Int32 → Int32 → Prop} {k71 : KS → Int32 → Int32 → Int64 → Int32 → Prop} (b : Bz p R s m args meth c D cy T0 tB tE A 7 cX8_unlike RX8 (some .int) "unlike" 3 74 0 0) (hk35 : ∀ (S : KS) (x1 : Int32) (x2 : Int32) (x3 : Int64) (x5 : Int32) (x6 : Int32), k35 S x1 x2 x3 x5 x6 → Z p l e R s m args below meth c D A 7 (MQ below (QI D (U := KS) post (kw cy a rw) A) args s 0 0 A) 0 0 (kw cy a rw S) [(0, .ref (a 38)), (1, .int x1), (2, .int x2), (3, .long x3), (5, .int x5), (6, .int x6)] 35 []) (hk71 : ∀ (S : KS) (x1 : Int32) (x2 : Int32) (x3 : Int64) (x5 : Int32), k71 S x1 x2 x3 x5 → Z p l e R s m args below meth c D A 7 (MQ below (QI D (U := KS) post (kw cy a rw) A) args s 0 0 A) 0 0 (kw cy a rw S) [(0, .ref (a 38)), (1, .int x1), (2, .int x2), (3, .long x3), (5, .int x5)] 71 []) (S : KS) (x1 : Int32) (x2 : Int32) (x3 : Int64) (x6 : Int32) (y0 : Int32) (h : w_X8_unlike_B63 cy tE post k35 k71 S x1 x2 x3 x6 y0) : Z p l e R s m args below meth c D A 7 (MQ below (QI D (U := KS) post (kw cy a rw) A) args s 0 0 A) 0 0 (kw cy a rw S) [(0, .ref (a 38)), (1, .int x1), (2, .int x2), (3, .long x3), (6, .int x6)] 63 [.int y0] := by
  unfold w_X8_unlike_B63 at h
  refine z_istore (lv' := [(5, .int y0), (0, .ref (a 38)), (1, .int x1), (2, .int x2), (3, .long x3), (6, .int x6)]) b dX8_unlike_63 (by decide) rfl ?_
  refine z_iinc (k9 := 5) (v := (x6 + 1)) (lv' := [(6, .int (x6 + 1)), (5, .int y0), (0, .ref (a 38)), (1, .int x1), (2, .int x2), (3, .long x3)]) b dX8_unlike_65 rfl rfl (by decide) rfl ?_
  refine z_goto (tgt := 35) b dX8_unlike_68 (by decide) ?_
  refine z_lv0 (lv' := [(0, .ref (a 38)), (1, .int x1), (2, .int x2), (3, .long x3), (5, .int y0), (6, .int (x6 + 1))]) [2, 3, 4, 5, 1, 0] rfl ?_
  exact hk35 _ _ _ _ _ _ h

def w_X8_unlike_F35 (cy : Nat → ClassId) (tE : Nat) (post : Int32 → KS → Prop) (k71 : KS → Int32 → Int32 → Int64 → Int32 → Prop) (k35 : KS → Int32 → Int32 → Int64 → Int32 → Int32 → Prop) (S : KS) (x1 : Int32) (x2 : Int32) (x3 : Int64) (x5 : Int32) (x6 : Int32) : Prop :=
  ((x1.toInt ≤ x6.toInt → k71 S x1 x2 x3 x5) ∧ (x6.toInt < x1.toInt → ((x5.toInt = 0 → k71 S x1 x2 x3 x5) ∧ (x5.toInt ≠ 0 → (0 ≤ x6.toInt ∧ x6.toInt < 400) ∧ (((lg_cmp ((al S.1 3) x6.toNatClampNeg) x3).toInt = 0 → w_X8_unlike_B63 cy tE post k35 k71 S x1 x2 x3 x6 0) ∧ ((lg_cmp ((al S.1 3) x6.toNatClampNeg) x3).toInt ≠ 0 → w_X8_unlike_B63 cy tE post k35 k71 S x1 x2 x3 x6 1))))))

set_option maxHeartbeats 4000000 in
set_option maxRecDepth 100000 in
theorem z_X8_unlike_F35 {p : Program} {l : Launch} {e : Env} {R : Room} {s : State} {m : MethodId} {args : Array Value} {below : List Frame} {meth : Method} {c : Code} {D : va_G} {cy : Nat → ClassId} {T0 tB tE : Nat} {A : Nat → Prop} {a : Nat → Nat} {rw : Nat → Option Nat} (hrw : ∀ i, i < 6 → rw i = some (a (12 + 2 * i))) {post : Int32 → KS → Prop} {k71 : KS → Int32 → Int32 → Int64 → Int32 → Prop} {k35 : KS → Int32 → Int32 → Int64 → Int32 → Int32 → Prop} (b : Bz p R s m args meth c D cy T0 tB tE A 7 cX8_unlike RX8 (some .int) "unlike" 3 74 0 0) (hk71 : ∀ (S : KS) (x1 : Int32) (x2 : Int32) (x3 : Int64) (x5 : Int32), k71 S x1 x2 x3 x5 → Z p l e R s m args below meth c D A 7 (MQ below (QI D (U := KS) post (kw cy a rw) A) args s 0 0 A) 0 0 (kw cy a rw S) [(0, .ref (a 38)), (1, .int x1), (2, .int x2), (3, .long x3), (5, .int x5)] 71 []) (hk35 : ∀ (S : KS) (x1 : Int32) (x2 : Int32) (x3 : Int64) (x5 : Int32) (x6 : Int32), k35 S x1 x2 x3 x5 x6 → Z p l e R s m args below meth c D A 7 (MQ below (QI D (U := KS) post (kw cy a rw) A) args s 0 0 A) 0 0 (kw cy a rw S) [(0, .ref (a 38)), (1, .int x1), (2, .int x2), (3, .long x3), (5, .int x5), (6, .int x6)] 35 []) (S : KS) (x1 : Int32) (x2 : Int32) (x3 : Int64) (x5 : Int32) (x6 : Int32) (h : w_X8_unlike_F35 cy tE post k71 k35 S x1 x2 x3 x5 x6) : Z p l e R s m args below meth c D A 7 (MQ below (QI D (U := KS) post (kw cy a rw) A) args s 0 0 A) 0 0 (kw cy a rw S) [(0, .ref (a 38)), (1, .int x1), (2, .int x2), (3, .long x3), (5, .int x5), (6, .int x6)] 35 [] := by
  unfold w_X8_unlike_F35 at h
  refine z_iload b dX8_unlike_35 rfl ?_
  refine z_iload_n b dX8_unlike_37 rfl rfl ?_
  refine y_icmp_ge (tgt := 71) (xl := x6.toInt) (yl := x1.toInt) b rfl rfl dX8_unlike_38 (by decide) (fun c1 => ?_) (fun c1 => ?_)
  · replace h := h.1 c1
    refine z_lv0 (lv' := [(0, .ref (a 38)), (1, .int x1), (2, .int x2), (3, .long x3), (5, .int x5)]) [0, 1, 2, 3, 4] rfl ?_
    exact hk71 _ _ _ _ _ h
  · replace h := h.2 c1
    refine z_iload b dX8_unlike_41 rfl ?_
    refine y_if_eq (tgt := 71) (xl := x5.toInt) b rfl dX8_unlike_43 (by decide) (fun c1 => ?_) (fun c1 => ?_)
    · replace h := h.1 c1
      refine z_lv0 (lv' := [(0, .ref (a 38)), (1, .int x1), (2, .int x2), (3, .long x3), (5, .int x5)]) [0, 1, 2, 3, 4] rfl ?_
      exact hk71 _ _ _ _ _ h
    · replace h := h.2 c1
      refine z_aload_n b dX8_unlike_46 rfl rfl ?_
      refine z_get (q0 := 38) (k9 := 8) (v := .ref (a 44)) b (kw_38 cy a rw S) rfl in_X8 (by decide) wf_X8_35 rfl dX8_unlike_47 ?_
      refine z_iload b dX8_unlike_50 rfl ?_
      obtain ⟨g5, h⟩ := h
      refine y_lald (q0 := 44) (j := x6.toNatClampNeg) (v := ((al S.1 3) x6.toNatClampNeg)) b (kw_44 cy a rw S) (zx_r g5.1 g5.2) rfl dX8_unlike_52 ?_
      refine z_lload_n b dX8_unlike_53 rfl rfl ?_
      refine z_lcmp b dX8_unlike_54 rfl ?_
      refine y_if_eq (tgt := 62) (xl := (lg_cmp ((al S.1 3) x6.toNatClampNeg) x3).toInt) b rfl dX8_unlike_55 (by decide) (fun c1 => ?_) (fun c1 => ?_)
      · replace h := h.1 c1
        refine z_iconst (v := 0) b dX8_unlike_62 (by decide) ?_
        refine z_lv0 (lv' := [(0, .ref (a 38)), (1, .int x1), (2, .int x2), (3, .long x3), (6, .int x6)]) [0, 1, 2, 3, 5] rfl ?_
        exact z_X8_unlike_B63 hrw b hk35 hk71 _ _ _ _ _ _ h
      · replace h := h.2 c1
        refine z_iconst (v := 1) b dX8_unlike_58 (by decide) ?_
        refine z_goto (tgt := 63) b dX8_unlike_59 (by decide) ?_
        refine z_lv0 (lv' := [(0, .ref (a 38)), (1, .int x1), (2, .int x2), (3, .long x3), (6, .int x6)]) [0, 1, 2, 3, 5] rfl ?_
        exact z_X8_unlike_B63 hrw b hk35 hk71 _ _ _ _ _ _ h

set_option maxHeartbeats 4000000 in
set_option maxRecDepth 100000 in
theorem zl_X8_unlike_L35 {p : Program} {l : Launch} {e : Env} {R : Room} {s : State} {m : MethodId} {args : Array Value} {below : List Frame} {meth : Method} {c : Code} {D : va_G} {cy : Nat → ClassId} {T0 tB tE : Nat} {A : Nat → Prop} {a : Nat → Nat} {rw : Nat → Option Nat} (hrw : ∀ i, i < 6 → rw i = some (a (12 + 2 * i))) {post : Int32 → KS → Prop} {k71 : KS → Int32 → Int32 → Int64 → Int32 → Prop} (b : Bz p R s m args meth c D cy T0 tB tE A 7 cX8_unlike RX8 (some .int) "unlike" 3 74 0 0) (hk71 : ∀ (S : KS) (x1 : Int32) (x2 : Int32) (x3 : Int64) (x5 : Int32), k71 S x1 x2 x3 x5 → Z p l e R s m args below meth c D A 7 (MQ below (QI D (U := KS) post (kw cy a rw) A) args s 0 0 A) 0 0 (kw cy a rw S) [(0, .ref (a 38)), (1, .int x1), (2, .int x2), (3, .long x3), (5, .int x5)] 71 []) : ∀ (n : Nat) (S : KS) (x1 : Int32) (x2 : Int32) (x3 : Int64) (x5 : Int32) (x6 : Int32), lpn (w_X8_unlike_F35 cy tE post k71) (fun _ _ _ _ _ _ => False) n S x1 x2 x3 x5 x6 → Z p l e R s m args below meth c D A 7 (MQ below (QI D (U := KS) post (kw cy a rw) A) args s 0 0 A) 0 0 (kw cy a rw S) [(0, .ref (a 38)), (1, .int x1), (2, .int x2), (3, .long x3), (5, .int x5), (6, .int x6)] 35 [] := by
  intro n
  induction n with
  | zero => intro _ _ _ _ _ _ h; exact h.elim
  | succ n ih => intro S x1 x2 x3 x5 x6 h; exact z_X8_unlike_F35 hrw b hk71 ih S x1 x2 x3 x5 x6 h

def w_X8_unlike_B86 (cy : Nat → ClassId) (tE : Nat) (post : Int32 → KS → Prop) (k4 : KS → Int32 → Int32 → Prop) (k92 : KS → Int32 → Prop) (S : KS) (x1 : Int32) (x2 : Int32) : Prop :=
  k4 S x1 (x2 + 1)

set_option maxHeartbeats 4000000 in
set_option maxRecDepth 100000 in
theorem z_X8_unlike_B86 {p : Program} {l : Launch} {e : Env} {R : Room} {s : State} {m : MethodId} {args : Array Value} {below : List Frame} {meth : Method} {c : Code} {D : va_G} {cy : Nat → ClassId} {T0 tB tE : Nat} {A : Nat → Prop} {a : Nat → Nat} {rw : Nat → Option Nat} (hrw : ∀ i, i < 6 → rw i = some (a (12 + 2 * i))) {post : Int32 → KS → Prop} {k4 : KS → Int32 → Int32 → Prop} {k92 : KS → Int32 → Prop} (b : Bz p R s m args meth c D cy T0 tB tE A 7 cX8_unlike RX8 (some .int) "unlike" 3 74 0 0) (hk4 : ∀ (S : KS) (x1 : Int32) (x2 : Int32), k4 S x1 x2 → Z p l e R s m args below meth c D A 7 (MQ below (QI D (U := KS) post (kw cy a rw) A) args s 0 0 A) 0 0 (kw cy a rw S) [(0, .ref (a 38)), (1, .int x1), (2, .int x2)] 4 []) (hk92 : ∀ (S : KS) (x1 : Int32), k92 S x1 → Z p l e R s m args below meth c D A 7 (MQ below (QI D (U := KS) post (kw cy a rw) A) args s 0 0 A) 0 0 (kw cy a rw S) [(1, .int x1)] 92 []) (S : KS) (x1 : Int32) (x2 : Int32) (h : w_X8_unlike_B86 cy tE post k4 k92 S x1 x2) : Z p l e R s m args below meth c D A 7 (MQ below (QI D (U := KS) post (kw cy a rw) A) args s 0 0 A) 0 0 (kw cy a rw S) [(0, .ref (a 38)), (1, .int x1), (2, .int x2)] 86 [] := by
  unfold w_X8_unlike_B86 at h
  refine z_iinc (k9 := 2) (v := (x2 + 1)) (lv' := [(2, .int (x2 + 1)), (0, .ref (a 38)), (1, .int x1)]) b dX8_unlike_86 rfl rfl (by decide) rfl ?_
  refine z_goto (tgt := 4) b dX8_unlike_89 (by decide) ?_
  refine z_lv0 (lv' := [(0, .ref (a 38)), (1, .int x1), (2, .int (x2 + 1))]) [1, 2, 0] rfl ?_
  exact hk4 _ _ _ h

def w_X8_unlike_B71 (cy : Nat → ClassId) (tE : Nat) (post : Int32 → KS → Prop) (k4 : KS → Int32 → Int32 → Prop) (k92 : KS → Int32 → Prop) (S : KS) (x1 : Int32) (x2 : Int32) (x3 : Int64) (x5 : Int32) : Prop :=
  ((x5.toInt = 0 → w_X8_unlike_B86 cy tE post k4 k92 S x1 x2) ∧ (x5.toInt ≠ 0 → (0 ≤ x1.toInt ∧ x1.toInt < 400) ∧ w_X8_unlike_B86 cy tE post k4 k92 (ksv S 3 (x1.toNatClampNeg) x3) (x1 + 1) x2))

set_option maxHeartbeats 4000000 in
set_option maxRecDepth 100000 in
theorem z_X8_unlike_B71 {p : Program} {l : Launch} {e : Env} {R : Room} {s : State} {m : MethodId} {args : Array Value} {below : List Frame} {meth : Method} {c : Code} {D : va_G} {cy : Nat → ClassId} {T0 tB tE : Nat} {A : Nat → Prop} {a : Nat → Nat} {rw : Nat → Option Nat} (hrw : ∀ i, i < 6 → rw i = some (a (12 + 2 * i))) {post : Int32 → KS → Prop} {k4 : KS → Int32 → Int32 → Prop} {k92 : KS → Int32 → Prop} (b : Bz p R s m args meth c D cy T0 tB tE A 7 cX8_unlike RX8 (some .int) "unlike" 3 74 0 0) (hk4 : ∀ (S : KS) (x1 : Int32) (x2 : Int32), k4 S x1 x2 → Z p l e R s m args below meth c D A 7 (MQ below (QI D (U := KS) post (kw cy a rw) A) args s 0 0 A) 0 0 (kw cy a rw S) [(0, .ref (a 38)), (1, .int x1), (2, .int x2)] 4 []) (hk92 : ∀ (S : KS) (x1 : Int32), k92 S x1 → Z p l e R s m args below meth c D A 7 (MQ below (QI D (U := KS) post (kw cy a rw) A) args s 0 0 A) 0 0 (kw cy a rw S) [(1, .int x1)] 92 []) (S : KS) (x1 : Int32) (x2 : Int32) (x3 : Int64) (x5 : Int32) (h : w_X8_unlike_B71 cy tE post k4 k92 S x1 x2 x3 x5) : Z p l e R s m args below meth c D A 7 (MQ below (QI D (U := KS) post (kw cy a rw) A) args s 0 0 A) 0 0 (kw cy a rw S) [(0, .ref (a 38)), (1, .int x1), (2, .int x2), (3, .long x3), (5, .int x5)] 71 [] := by
  unfold w_X8_unlike_B71 at h
  refine z_iload b dX8_unlike_71 rfl ?_
  refine y_if_eq (tgt := 86) (xl := x5.toInt) b rfl dX8_unlike_73 (by decide) (fun c1 => ?_) (fun c1 => ?_)
  · replace h := h.1 c1
    refine z_lv0 (lv' := [(0, .ref (a 38)), (1, .int x1), (2, .int x2)]) [0, 1, 2] rfl ?_
    exact z_X8_unlike_B86 hrw b hk4 hk92 _ _ _ h
  · replace h := h.2 c1
    refine z_aload_n b dX8_unlike_76 rfl rfl ?_
    refine z_get (q0 := 38) (k9 := 8) (v := .ref (a 44)) b (kw_38 cy a rw S) rfl in_X8 (by decide) wf_X8_35 rfl dX8_unlike_77 ?_
    refine z_iload_n b dX8_unlike_80 rfl rfl ?_
    refine z_lload_n b dX8_unlike_81 rfl rfl ?_
    obtain ⟨g6, h⟩ := h
    refine y_last (q0 := 44) (j := x1.toNatClampNeg) b (kw_44 cy a rw S) (zx_r g6.1 g6.2) dX8_unlike_82 (kwa_44 cy a rw S (x1.toNatClampNeg) x3) ?_
    refine z_iinc (k9 := 1) (v := (x1 + 1)) (lv' := [(1, .int (x1 + 1)), (0, .ref (a 38)), (2, .int x2), (3, .long x3), (5, .int x5)]) b dX8_unlike_83 rfl rfl (by decide) rfl ?_
    refine z_lv0 (lv' := [(0, .ref (a 38)), (1, .int (x1 + 1)), (2, .int x2)]) [1, 0, 2] rfl ?_
    exact z_X8_unlike_B86 hrw b hk4 hk92 _ _ _ h

def w_X8_unlike_F4 (cy : Nat → ClassId) (tE : Nat) (post : Int32 → KS → Prop) (k92 : KS → Int32 → Prop) (k4 : KS → Int32 → Int32 → Prop) (S : KS) (x1 : Int32) (x2 : Int32) : Prop :=
  (((fi S.1 33).toInt ≤ x2.toInt → k92 S x1) ∧ (x2.toInt < (fi S.1 33).toInt → ((400 ≤ x2.toInt → k92 S x1) ∧ (x2.toInt < 400 → w_X8_load cy tE S x2 (fun S2 => w_X8_leastName cy tE S2 (fun r3 S4 => ∃ n, lpn (w_X8_unlike_F35 cy tE post (w_X8_unlike_B71 cy tE post k4 k92)) (fun _ _ _ _ _ _ => False) n S4 x1 x2 r3 1 0))))))

set_option maxHeartbeats 4000000 in
set_option maxRecDepth 100000 in
theorem z_X8_unlike_F4 {p : Program} {l : Launch} {e : Env} {R : Room} {s : State} {m : MethodId} {args : Array Value} {below : List Frame} {meth : Method} {c : Code} {D : va_G} {cy : Nat → ClassId} {T0 tB tE : Nat} {A : Nat → Prop} {a : Nat → Nat} {rw : Nat → Option Nat} (hrw : ∀ i, i < 6 → rw i = some (a (12 + 2 * i))) {post : Int32 → KS → Prop} {k92 : KS → Int32 → Prop} {k4 : KS → Int32 → Int32 → Prop} (b : Bz p R s m args meth c D cy T0 tB tE A 7 cX8_unlike RX8 (some .int) "unlike" 3 74 0 0) (hk92 : ∀ (S : KS) (x1 : Int32), k92 S x1 → Z p l e R s m args below meth c D A 7 (MQ below (QI D (U := KS) post (kw cy a rw) A) args s 0 0 A) 0 0 (kw cy a rw S) [(1, .int x1)] 92 []) (hk4 : ∀ (S : KS) (x1 : Int32) (x2 : Int32), k4 S x1 x2 → Z p l e R s m args below meth c D A 7 (MQ below (QI D (U := KS) post (kw cy a rw) A) args s 0 0 A) 0 0 (kw cy a rw S) [(0, .ref (a 38)), (1, .int x1), (2, .int x2)] 4 []) (S : KS) (x1 : Int32) (x2 : Int32) (h : w_X8_unlike_F4 cy tE post k92 k4 S x1 x2) : Z p l e R s m args below meth c D A 7 (MQ below (QI D (U := KS) post (kw cy a rw) A) args s 0 0 A) 0 0 (kw cy a rw S) [(0, .ref (a 38)), (1, .int x1), (2, .int x2)] 4 [] := by
  unfold w_X8_unlike_F4 at h
  refine z_iload_n b dX8_unlike_4 rfl rfl ?_
  refine z_aload_n b dX8_unlike_5 rfl rfl ?_
  refine z_get (q0 := 38) (k9 := 17) (v := .int (fi S.1 33)) b (kw_38 cy a rw S) rfl in_X8 (by decide) wf_X8_64 rfl dX8_unlike_6 ?_
  refine y_icmp_ge (tgt := 92) (xl := x2.toInt) (yl := (fi S.1 33).toInt) b rfl rfl dX8_unlike_9 (by decide) (fun c1 => ?_) (fun c1 => ?_)
  · replace h := h.1 c1
    refine z_lv0 (lv' := [(1, .int x1)]) [1] rfl ?_
    exact hk92 _ _ h
  · replace h := h.2 c1
    refine z_iload_n b dX8_unlike_12 rfl rfl ?_
    refine z_sipush (v := 400) b dX8_unlike_13 (by decide) ?_
    refine y_icmp_ge (tgt := 92) (xl := x2.toInt) (yl := 400) b rfl (by decide) dX8_unlike_16 (by decide) (fun c1 => ?_) (fun c1 => ?_)
    · replace h := h.1 c1
      refine z_lv0 (lv' := [(1, .int x1)]) [1] rfl ?_
      exact hk92 _ _ h
    · replace h := h.2 c1
      refine z_aload_n b dX8_unlike_19 rfl rfl ?_
      refine z_iload_n b dX8_unlike_20 rfl rfl ?_
      refine z_callv b (z_runV (q0 := 38) (As := [.int x2]) (st := []) b (k_X8_load hrw S x2 _ h) cf_X8_load (kw_38 cy a rw S) rfl wm_X8_153 wi_X8_load ws_X8_load dX8_unlike_21 rfl (Nat.le_of_ble_eq_true rfl) ⟨by decide, by decide, Nat.le_of_ble_eq_true rfl, Nat.le_of_ble_eq_true rfl⟩) (fun S2 h => ?_)
      refine z_aload_n b dX8_unlike_24 rfl rfl ?_
      refine z_calll b (z_runV (q0 := 38) (As := []) (st := []) b (k_X8_leastName hrw S2 _ h) cf_X8_leastName (kw_38 cy a rw S2) rfl wm_X8_167 wi_X8_leastName ws_X8_leastName dX8_unlike_25 rfl (Nat.le_of_ble_eq_true rfl) ⟨by decide, by decide, Nat.le_of_ble_eq_true rfl, Nat.le_of_ble_eq_true rfl⟩) (fun r3 S4 h => ?_)
      refine z_lstore_n (lv' := [(3, .long r3), (0, .ref (a 38)), (1, .int x1), (2, .int x2)]) b dX8_unlike_28 rfl (by decide) rfl ?_
      refine z_iconst (v := 1) b dX8_unlike_29 (by decide) ?_
      refine z_istore (lv' := [(5, .int 1), (3, .long r3), (0, .ref (a 38)), (1, .int x1), (2, .int x2)]) b dX8_unlike_30 (by decide) rfl ?_
      refine z_iconst (v := 0) b dX8_unlike_32 (by decide) ?_
      refine z_istore (lv' := [(6, .int 0), (5, .int 1), (3, .long r3), (0, .ref (a 38)), (1, .int x1), (2, .int x2)]) b dX8_unlike_33 (by decide) rfl ?_
      refine z_lv0 (lv' := [(0, .ref (a 38)), (1, .int x1), (2, .int x2), (3, .long r3), (5, .int 1), (6, .int 0)]) [3, 4, 5, 2, 1, 0] rfl ?_
      obtain ⟨n, h⟩ := h
      exact zl_X8_unlike_L35 hrw b (fun S x1 x2 x3 x5 h => z_X8_unlike_B71 hrw b hk4 hk92 _ _ _ _ _ h) n _ _ _ _ _ _ h

set_option maxHeartbeats 4000000 in
set_option maxRecDepth 100000 in
theorem zl_X8_unlike_L4 {p : Program} {l : Launch} {e : Env} {R : Room} {s : State} {m : MethodId} {args : Array Value} {below : List Frame} {meth : Method} {c : Code} {D : va_G} {cy : Nat → ClassId} {T0 tB tE : Nat} {A : Nat → Prop} {a : Nat → Nat} {rw : Nat → Option Nat} (hrw : ∀ i, i < 6 → rw i = some (a (12 + 2 * i))) {post : Int32 → KS → Prop} {k92 : KS → Int32 → Prop} (b : Bz p R s m args meth c D cy T0 tB tE A 7 cX8_unlike RX8 (some .int) "unlike" 3 74 0 0) (hk92 : ∀ (S : KS) (x1 : Int32), k92 S x1 → Z p l e R s m args below meth c D A 7 (MQ below (QI D (U := KS) post (kw cy a rw) A) args s 0 0 A) 0 0 (kw cy a rw S) [(1, .int x1)] 92 []) : ∀ (n : Nat) (S : KS) (x1 : Int32) (x2 : Int32), lpn (w_X8_unlike_F4 cy tE post k92) (fun _ _ _ => False) n S x1 x2 → Z p l e R s m args below meth c D A 7 (MQ below (QI D (U := KS) post (kw cy a rw) A) args s 0 0 A) 0 0 (kw cy a rw S) [(0, .ref (a 38)), (1, .int x1), (2, .int x2)] 4 [] := by
  intro n
  induction n with
  | zero => intro _ _ _ h; exact h.elim
  | succ n ih => intro S x1 x2 h; exact z_X8_unlike_F4 hrw b hk92 ih S x1 x2 h

def w_X8_unlike_B92 (cy : Nat → ClassId) (tE : Nat) (post : Int32 → KS → Prop) (S : KS) (x1 : Int32) : Prop :=
  post x1 S

set_option maxHeartbeats 4000000 in
set_option maxRecDepth 100000 in
theorem z_X8_unlike_B92 {p : Program} {l : Launch} {e : Env} {R : Room} {s : State} {m : MethodId} {args : Array Value} {below : List Frame} {meth : Method} {c : Code} {D : va_G} {cy : Nat → ClassId} {T0 tB tE : Nat} {A : Nat → Prop} {a : Nat → Nat} {rw : Nat → Option Nat} (hrw : ∀ i, i < 6 → rw i = some (a (12 + 2 * i))) {post : Int32 → KS → Prop} (b : Bz p R s m args meth c D cy T0 tB tE A 7 cX8_unlike RX8 (some .int) "unlike" 3 74 0 0) (S : KS) (x1 : Int32) (h : w_X8_unlike_B92 cy tE post S x1) : Z p l e R s m args below meth c D A 7 (MQ below (QI D (U := KS) post (kw cy a rw) A) args s 0 0 A) 0 0 (kw cy a rw S) [(1, .int x1)] 92 [] := by
  unfold w_X8_unlike_B92 at h
  refine z_iload_n b dX8_unlike_92 rfl rfl ?_
  exact z_iret (u := S) b rfl dX8_unlike_93 h rfl (by decide) (by decide)

def w_X8_unlike (cy : Nat → ClassId) (tE : Nat) (S : KS)  (post : Int32 → KS → Prop) : Prop :=
  ∃ n, lpn (w_X8_unlike_F4 cy tE post (w_X8_unlike_B92 cy tE post)) (fun _ _ _ => False) n S 0 0

set_option maxHeartbeats 4000000 in
set_option maxRecDepth 100000 in
theorem k_X8_unlike {l : Launch} {D : va_G} {cy : Nat → ClassId} {T0 tB tE : Nat} {a : Nat → Nat} {rw : Nat → Option Nat} (hrw : ∀ i, i < 6 → rw i = some (a (12 + 2 * i))) (S : KS)  (post : Int32 → KS → Prop) (h : w_X8_unlike cy tE S  post) : Ct l D cy T0 tB tE yX8_unlike cX8_unlike 7 (some .int) 3 74 0 0 (kw cy a rw S) [.ref (a 38)] (QI D (U := KS) post (kw cy a rw)) := by
  refine Ct.ofZ RX8 "unlike" [(0, .ref (a 38))] rfl rfl rfl rfl (Nat.le_of_ble_eq_true rfl) ?_
  intro p e R s m args below meth c A b
  unfold w_X8_unlike at h
  refine z_iconst (v := 0) b dX8_unlike_0 (by decide) ?_
  refine z_istore_n (lv' := [(1, .int 0), (0, .ref (a 38))]) b dX8_unlike_1 rfl (by decide) rfl ?_
  refine z_iconst (v := 0) b dX8_unlike_2 (by decide) ?_
  refine z_istore_n (lv' := [(2, .int 0), (1, .int 0), (0, .ref (a 38))]) b dX8_unlike_3 rfl (by decide) rfl ?_
  refine z_lv0 (lv' := [(0, .ref (a 38)), (1, .int 0), (2, .int 0)]) [2, 1, 0] rfl ?_
  obtain ⟨n, h⟩ := h
  exact zl_X8_unlike_L4 hrw b (fun S x1 h => z_X8_unlike_B92 hrw b _ _ h) n _ _ _ h

def w_X11_met_B14 (cy : Nat → ClassId) (tE : Nat) (post : Int32 → KS → Prop) (S : KS)  : Prop :=
  post (-1) S

set_option maxHeartbeats 4000000 in
set_option maxRecDepth 100000 in
theorem z_X11_met_B14 {p : Program} {l : Launch} {e : Env} {R : Room} {s : State} {m : MethodId} {args : Array Value} {below : List Frame} {meth : Method} {c : Code} {D : va_G} {cy : Nat → ClassId} {T0 tB tE : Nat} {A : Nat → Prop} {a : Nat → Nat} {rw : Nat → Option Nat} (hrw : ∀ i, i < 6 → rw i = some (a (12 + 2 * i))) {post : Int32 → KS → Prop} (b : Bz p R s m args meth c D cy T0 tB tE A 4 cX11_met RX11 (some .int) "met" 6 144 0 0) (S : KS)  (h : w_X11_met_B14 cy tE post S ) : Z p l e R s m args below meth c D A 4 (MQ below (QI D (U := KS) post (kw cy a rw) A) args s 0 0 A) 0 0 (kw cy a rw S) [] 14 [] := by
  unfold w_X11_met_B14 at h
  refine z_iconst (v := (-1)) b dX11_met_14 (by decide) ?_
  exact z_iret (u := S) b rfl dX11_met_15 h rfl (by decide) (by decide)

def w_X11_met_B69 (cy : Nat → ClassId) (tE : Nat) (post : Int32 → KS → Prop) (S : KS) (y0 : Int32) : Prop :=
  post y0 S

set_option maxHeartbeats 4000000 in
set_option maxRecDepth 100000 in
theorem z_X11_met_B69 {p : Program} {l : Launch} {e : Env} {R : Room} {s : State} {m : MethodId} {args : Array Value} {below : List Frame} {meth : Method} {c : Code} {D : va_G} {cy : Nat → ClassId} {T0 tB tE : Nat} {A : Nat → Prop} {a : Nat → Nat} {rw : Nat → Option Nat} (hrw : ∀ i, i < 6 → rw i = some (a (12 + 2 * i))) {post : Int32 → KS → Prop} (b : Bz p R s m args meth c D cy T0 tB tE A 4 cX11_met RX11 (some .int) "met" 6 144 0 0) (S : KS) (y0 : Int32) (h : w_X11_met_B69 cy tE post S y0) : Z p l e R s m args below meth c D A 4 (MQ below (QI D (U := KS) post (kw cy a rw) A) args s 0 0 A) 0 0 (kw cy a rw S) [] 69 [.int y0] := by
  unfold w_X11_met_B69 at h
  exact z_iret (u := S) b rfl dX11_met_69 h rfl (by decide) (by decide)

def w_X11_met (cy : Nat → ClassId) (tE : Nat) (S : KS) (p0 : Int32) (p1 : Int32) (p2 : Int32) (post : Int32 → KS → Prop) : Prop :=
  w_X11_areLaws cy tE S p0 (fun r1 S2 => ((r1.toInt = 0 → w_X11_met_B14 cy tE post S2) ∧ (r1.toInt ≠ 0 → w_X11_isDepth cy tE S2 p1 (fun r3 S4 => ((r3.toInt ≠ 0 → w_X8_begin cy tE S4 p0 p1 7 0 (fun S6 => w_X8_finish cy tE S6 (fun S8 => (((fi S8.1 34).toInt = 0 → ((p2.toInt = 0 → w_X11_met_B69 cy tE post S8 (fi S8.1 33)) ∧ (p2.toInt ≠ 0 → w_X8_unlike cy tE S8 (fun r9 S10 => w_X11_met_B69 cy tE post S10 r9)))) ∧ ((fi S8.1 34).toInt ≠ 0 → post (-2) S8))))) ∧ (r3.toInt = 0 → w_X11_met_B14 cy tE post S4))))))

set_option maxHeartbeats 4000000 in
set_option maxRecDepth 100000 in
theorem k_X11_met {l : Launch} {D : va_G} {cy : Nat → ClassId} {T0 tB tE : Nat} {a : Nat → Nat} {rw : Nat → Option Nat} (hrw : ∀ i, i < 6 → rw i = some (a (12 + 2 * i))) (S : KS) (p0 : Int32) (p1 : Int32) (p2 : Int32) (post : Int32 → KS → Prop) (h : w_X11_met cy tE S p0 p1 p2 post) : Ct l D cy T0 tB tE yX11_met cX11_met 4 (some .int) 6 144 0 0 (kw cy a rw S) [.ref (a 0), .int p0, .int p1, .int p2] (QI D (U := KS) post (kw cy a rw)) := by
  refine Ct.ofZ RX11 "met" [(0, .ref (a 0)), (1, .int p0), (2, .int p1), (3, .int p2)] rfl rfl rfl rfl (Nat.le_of_ble_eq_true rfl) ?_
  intro p e R s m args below meth c A b
  unfold w_X11_met at h
  refine z_iload_n b dX11_met_0 rfl rfl ?_
  refine z_calli b (z_runS (As := [.int p0]) (st := []) b (k_X11_areLaws hrw S p0 _ h) cf_X11_areLaws wm_X11_181 ws_X11_areLaws dX11_met_1 rfl (Nat.le_of_ble_eq_true rfl) ⟨by decide, by decide, Nat.le_of_ble_eq_true rfl, Nat.le_of_ble_eq_true rfl⟩) (fun r1 S2 h => ?_)
  refine y_if_eq (tgt := 14) (xl := r1.toInt) b rfl dX11_met_4 (by decide) (fun c1 => ?_) (fun c1 => ?_)
  · replace h := h.1 c1
    refine z_lv0 (lv' := []) [] rfl ?_
    exact z_X11_met_B14 hrw b _ h
  · replace h := h.2 c1
    refine z_iload_n b dX11_met_7 rfl rfl ?_
    refine z_calli b (z_runS (As := [.int p1]) (st := []) b (k_X11_isDepth hrw S2 p1 _ h) cf_X11_isDepth wm_X11_203 ws_X11_isDepth dX11_met_8 rfl (Nat.le_of_ble_eq_true rfl) ⟨by decide, by decide, Nat.le_of_ble_eq_true rfl, Nat.le_of_ble_eq_true rfl⟩) (fun r3 S4 h => ?_)
    refine y_if_ne (tgt := 16) (xl := r3.toInt) b rfl dX11_met_11 (by decide) (fun c1 => ?_) (fun c1 => ?_)
    · replace h := h.1 c1
      refine z_aload_n b dX11_met_16 rfl rfl ?_
      refine z_get (q0 := 0) (k9 := 6) (v := .ref (a 38)) b (kw_0 cy a rw S4) rfl in_X11 (by decide) wf_X11_52 rfl dX11_met_17 ?_
      refine z_iload_n b dX11_met_20 rfl rfl ?_
      refine z_iload_n b dX11_met_21 rfl rfl ?_
      refine z_bipush (v := 7) b dX11_met_22 (by decide) ?_
      refine z_iconst (v := 0) b dX11_met_24 (by decide) ?_
      refine z_callv b (z_runV (q0 := 38) (As := [.int p0, .int p1, .int 7, .int 0]) (st := []) b (k_X8_begin hrw S4 p0 p1 7 0 _ h) cf_X8_begin (kw_38 cy a rw S4) rfl wm_X11_206 wi_X8_begin ws_X8_begin dX11_met_25 rfl (Nat.le_of_ble_eq_true rfl) ⟨by decide, by decide, Nat.le_of_ble_eq_true rfl, Nat.le_of_ble_eq_true rfl⟩) (fun S6 h => ?_)
      refine z_aload_n b dX11_met_28 rfl rfl ?_
      refine z_get (q0 := 0) (k9 := 6) (v := .ref (a 38)) b (kw_0 cy a rw S6) rfl in_X11 (by decide) wf_X11_52 rfl dX11_met_29 ?_
      refine z_callv b (z_runV (q0 := 38) (As := []) (st := []) b (k_X8_finish hrw S6 _ h) cf_X8_finish (kw_38 cy a rw S6) rfl wm_X11_232 wi_X8_finish ws_X8_finish dX11_met_32 rfl (Nat.le_of_ble_eq_true rfl) ⟨by decide, by decide, Nat.le_of_ble_eq_true rfl, Nat.le_of_ble_eq_true rfl⟩) (fun S8 h => ?_)
      refine z_aload_n b dX11_met_35 rfl rfl ?_
      refine z_get (q0 := 0) (k9 := 6) (v := .ref (a 38)) b (kw_0 cy a rw S8) rfl in_X11 (by decide) wf_X11_52 rfl dX11_met_36 ?_
      refine z_get (q0 := 38) (k9 := 18) (v := .int (fi S8.1 34)) b (kw_38 cy a rw S8) rfl in_X8 (by decide) wf_X11_214 rfl dX11_met_39 ?_
      refine y_if_eq (tgt := 48) (xl := (fi S8.1 34).toInt) b rfl dX11_met_42 (by decide) (fun c1 => ?_) (fun c1 => ?_)
      · replace h := h.1 c1
        refine z_iload_n b dX11_met_48 rfl rfl ?_
        refine y_if_eq (tgt := 62) (xl := p2.toInt) b rfl dX11_met_49 (by decide) (fun c1 => ?_) (fun c1 => ?_)
        · replace h := h.1 c1
          refine z_aload_n b dX11_met_62 rfl rfl ?_
          refine z_get (q0 := 0) (k9 := 6) (v := .ref (a 38)) b (kw_0 cy a rw S8) rfl in_X11 (by decide) wf_X11_52 rfl dX11_met_63 ?_
          refine z_get (q0 := 38) (k9 := 17) (v := .int (fi S8.1 33)) b (kw_38 cy a rw S8) rfl in_X8 (by decide) wf_X11_213 rfl dX11_met_66 ?_
          refine z_lv0 (lv' := []) [] rfl ?_
          exact z_X11_met_B69 hrw b _ _ h
        · replace h := h.2 c1
          refine z_aload_n b dX11_met_52 rfl rfl ?_
          refine z_get (q0 := 0) (k9 := 6) (v := .ref (a 38)) b (kw_0 cy a rw S8) rfl in_X11 (by decide) wf_X11_52 rfl dX11_met_53 ?_
          refine z_calli b (z_runV (q0 := 38) (As := []) (st := []) b (k_X8_unlike hrw S8 _ h) cf_X8_unlike (kw_38 cy a rw S8) rfl wm_X11_235 wi_X8_unlike ws_X8_unlike dX11_met_56 rfl (Nat.le_of_ble_eq_true rfl) ⟨by decide, by decide, Nat.le_of_ble_eq_true rfl, Nat.le_of_ble_eq_true rfl⟩) (fun r9 S10 h => ?_)
          refine z_goto (tgt := 69) b dX11_met_59 (by decide) ?_
          refine z_lv0 (lv' := []) [] rfl ?_
          exact z_X11_met_B69 hrw b _ _ h
      · replace h := h.2 c1
        refine z_bipush (v := (-2)) b dX11_met_45 (by decide) ?_
        exact z_iret (u := S8) b rfl dX11_met_47 h rfl (by decide) (by decide)
    · replace h := h.2 c1
      refine z_lv0 (lv' := []) [] rfl ?_
      exact z_X11_met_B14 hrw b _ h

def w_X4_enact_B58 (cy : Nat → ClassId) (tE : Nat) (post : KS → Prop) (k2 : KS → Int32 → Nat → Int32 → Prop) (k64 : KS → Prop) (S : KS) (x1 : Int32) (x2 : Nat) (x3 : Int32) : Prop :=
  k2 S x1 x2 (x3 + 1)

set_option maxHeartbeats 4000000 in
set_option maxRecDepth 100000 in
theorem z_X4_enact_B58 {p : Program} {l : Launch} {e : Env} {R : Room} {s : State} {m : MethodId} {args : Array Value} {below : List Frame} {meth : Method} {c : Code} {D : va_G} {cy : Nat → ClassId} {T0 tB tE : Nat} {A : Nat → Prop} {a : Nat → Nat} {rw : Nat → Option Nat} (hrw : ∀ i, i < 6 → rw i = some (a (12 + 2 * i))) {post : KS → Prop} {k2 : KS → Int32 → Nat → Int32 → Prop} {k64 : KS → Prop} (b : Bz p R s m args meth c D cy T0 tB tE A 5 cX4_enact RX4 none "enact" 3 64 0 0) (hk2 : ∀ (S : KS) (x1 : Int32) (x2 : Nat) (x3 : Int32), k2 S x1 x2 x3 → Z p l e R s m args below meth c D A 5 (MQ below (QV D (U := KS) post (kw cy a rw) A) args s 0 0 A) 0 0 (kw cy a rw S) [(0, .ref (a 33)), (1, .int x1), (2, .ref x2), (3, .int x3)] 2 []) (hk64 : ∀ (S : KS), k64 S → Z p l e R s m args below meth c D A 5 (MQ below (QV D (U := KS) post (kw cy a rw) A) args s 0 0 A) 0 0 (kw cy a rw S) [] 64 []) (S : KS) (x1 : Int32) (x2 : Nat) (x3 : Int32) (h : w_X4_enact_B58 cy tE post k2 k64 S x1 x2 x3) : Z p l e R s m args below meth c D A 5 (MQ below (QV D (U := KS) post (kw cy a rw) A) args s 0 0 A) 0 0 (kw cy a rw S) [(0, .ref (a 33)), (1, .int x1), (2, .ref x2), (3, .int x3)] 58 [] := by
  unfold w_X4_enact_B58 at h
  refine z_iinc (k9 := 3) (v := (x3 + 1)) (lv' := [(3, .int (x3 + 1)), (0, .ref (a 33)), (1, .int x1), (2, .ref x2)]) b dX4_enact_58 rfl rfl (by decide) rfl ?_
  refine z_goto (tgt := 2) b dX4_enact_61 (by decide) ?_
  refine z_lv0 (lv' := [(0, .ref (a 33)), (1, .int x1), (2, .ref x2), (3, .int (x3 + 1))]) [1, 2, 3, 0] rfl ?_
  exact hk2 _ _ _ _ h

def w_X4_enact_B57 (cy : Nat → ClassId) (tE : Nat) (post : KS → Prop) (k2 : KS → Int32 → Nat → Int32 → Prop) (k64 : KS → Prop) (S : KS) (x1 : Int32) (x2 : Nat) (x3 : Int32) (y0 : Option Nat) (y1 : Int32) : Prop :=
  (0 ≤ y1.toInt ∧ y1.toInt < 12) ∧ ((y0 = none → w_X4_enact_B58 cy tE post k2 k64 (ksg S (va_up S.2.2.1 (y1.toNatClampNeg) none)) x1 x2 x3) ∧ (∀ q7 : Nat, y0 = some q7 → ∃ (i8 : Nat) (f9 : List Value), S.2.2.2[i8]? = some (q7, .inr (1, f9)) ∧ w_X4_enact_B58 cy tE post k2 k64 (ksg S (va_up S.2.2.1 (y1.toNatClampNeg) (some q7))) x1 x2 x3))

set_option maxHeartbeats 4000000 in
set_option maxRecDepth 100000 in
theorem z_X4_enact_B57 {p : Program} {l : Launch} {e : Env} {R : Room} {s : State} {m : MethodId} {args : Array Value} {below : List Frame} {meth : Method} {c : Code} {D : va_G} {cy : Nat → ClassId} {T0 tB tE : Nat} {A : Nat → Prop} {a : Nat → Nat} {rw : Nat → Option Nat} (hrw : ∀ i, i < 6 → rw i = some (a (12 + 2 * i))) {post : KS → Prop} {k2 : KS → Int32 → Nat → Int32 → Prop} {k64 : KS → Prop} (b : Bz p R s m args meth c D cy T0 tB tE A 5 cX4_enact RX4 none "enact" 3 64 0 0) (hk2 : ∀ (S : KS) (x1 : Int32) (x2 : Nat) (x3 : Int32), k2 S x1 x2 x3 → Z p l e R s m args below meth c D A 5 (MQ below (QV D (U := KS) post (kw cy a rw) A) args s 0 0 A) 0 0 (kw cy a rw S) [(0, .ref (a 33)), (1, .int x1), (2, .ref x2), (3, .int x3)] 2 []) (hk64 : ∀ (S : KS), k64 S → Z p l e R s m args below meth c D A 5 (MQ below (QV D (U := KS) post (kw cy a rw) A) args s 0 0 A) 0 0 (kw cy a rw S) [] 64 []) (S : KS) (x1 : Int32) (x2 : Nat) (x3 : Int32) (y0 : Option Nat) (y1 : Int32) (h : w_X4_enact_B57 cy tE post k2 k64 S x1 x2 x3 y0 y1) : Z p l e R s m args below meth c D A 5 (MQ below (QV D (U := KS) post (kw cy a rw) A) args s 0 0 A) 0 0 (kw cy a rw S) [(0, .ref (a 33)), (1, .int x1), (2, .ref x2), (3, .int x3)] 57 [va_rf y0, .int y1, .ref (a 34)] := by
  unfold w_X4_enact_B57 at h
  obtain ⟨g6, h⟩ := h
  cases y0 with
  | none =>
    replace h := h.1 rfl
    refine y_aastN (q0 := 34) (t0 := 3) (j := y1.toNatClampNeg) b (kw_34 cy a rw S) rfl (zx_r g6.1 g6.2) dX4_enact_57 (kwg cy a rw S (y1.toNatClampNeg) none) ?_
    exact z_X4_enact_B58 hrw b hk2 hk64 _ _ _ _ h
  | some q7 =>
    obtain ⟨i8, f9, g10, h⟩ := h.2 q7 rfl
    refine y_aast (q0 := 34) (t0 := 3) (qk := 47 + i8) (ci := 1) (j := y1.toNatClampNeg) b (kw_34 cy a rw S) rfl (kw_dyn cy a rw S g10) rfl (zx_r g6.1 g6.2) dX4_enact_57 (kwg cy a rw S (y1.toNatClampNeg) (some q7)) ?_
    exact z_X4_enact_B58 hrw b hk2 hk64 _ _ _ _ h

def w_X4_enact_F2 (cy : Nat → ClassId) (tE : Nat) (post : KS → Prop) (k64 : KS → Prop) (k2 : KS → Int32 → Nat → Int32 → Prop) (S : KS) (x1 : Int32) (x2 : Nat) (x3 : Int32) : Prop :=
  ((6 ≤ x3.toInt → k64 S) ∧ (x3.toInt < 6 → (((((6 : Int32) * x1) + x3).toInt < 0 → w_X4_enact_B58 cy tE post k2 k64 S x1 x2 x3) ∧ (0 ≤ (((6 : Int32) * x1) + x3).toInt → ((12 ≤ (((6 : Int32) * x1) + x3).toInt → w_X4_enact_B58 cy tE post k2 k64 S x1 x2 x3) ∧ ((((6 : Int32) * x1) + x3).toInt < 12 → ∃ (i1 : Nat) (f2 : List Value), S.2.2.2[i1]? = some (x2, .inr (0, f2)) ∧ w_Jx4a65c_size_8abf5 cy tE S x2 (fun r4 S5 => ((r4.toInt ≤ x3.toInt → w_X4_enact_B57 cy tE post k2 k64 S5 x1 x2 x3 none (((6 : Int32) * x1) + x3)) ∧ (x3.toInt < r4.toInt → ∃ (i11 : Nat) (f12 : List Value), S5.2.2.2[i11]? = some (x2, .inr (0, f12)) ∧ w_Jx4a65c_get_915e3 cy tE S5 x2 x3 (fun r14 S15 => ∃ q16 : Nat, r14 = some q16 ∧ ∃ (i18 : Nat) (f19 : List Value), S15.2.2.2[i18]? = some (q16, .inr (1, f19)) ∧ w_X4_enact_B57 cy tE post k2 k64 S15 x1 x2 x3 (some q16) (((6 : Int32) * x1) + x3)))))))))))

set_option maxHeartbeats 4000000 in
set_option maxRecDepth 100000 in
theorem z_X4_enact_F2 {p : Program} {l : Launch} {e : Env} {R : Room} {s : State} {m : MethodId} {args : Array Value} {below : List Frame} {meth : Method} {c : Code} {D : va_G} {cy : Nat → ClassId} {T0 tB tE : Nat} {A : Nat → Prop} {a : Nat → Nat} {rw : Nat → Option Nat} (hrw : ∀ i, i < 6 → rw i = some (a (12 + 2 * i))) {post : KS → Prop} {k64 : KS → Prop} {k2 : KS → Int32 → Nat → Int32 → Prop} (b : Bz p R s m args meth c D cy T0 tB tE A 5 cX4_enact RX4 none "enact" 3 64 0 0) (hk64 : ∀ (S : KS), k64 S → Z p l e R s m args below meth c D A 5 (MQ below (QV D (U := KS) post (kw cy a rw) A) args s 0 0 A) 0 0 (kw cy a rw S) [] 64 []) (hk2 : ∀ (S : KS) (x1 : Int32) (x2 : Nat) (x3 : Int32), k2 S x1 x2 x3 → Z p l e R s m args below meth c D A 5 (MQ below (QV D (U := KS) post (kw cy a rw) A) args s 0 0 A) 0 0 (kw cy a rw S) [(0, .ref (a 33)), (1, .int x1), (2, .ref x2), (3, .int x3)] 2 []) (S : KS) (x1 : Int32) (x2 : Nat) (x3 : Int32) (h : w_X4_enact_F2 cy tE post k64 k2 S x1 x2 x3) : Z p l e R s m args below meth c D A 5 (MQ below (QV D (U := KS) post (kw cy a rw) A) args s 0 0 A) 0 0 (kw cy a rw S) [(0, .ref (a 33)), (1, .int x1), (2, .ref x2), (3, .int x3)] 2 [] := by
  unfold w_X4_enact_F2 at h
  refine z_iload_n b dX4_enact_2 rfl rfl ?_
  refine z_bipush (v := 6) b dX4_enact_3 (by decide) ?_
  refine y_icmp_ge (tgt := 64) (xl := x3.toInt) (yl := 6) b rfl (by decide) dX4_enact_5 (by decide) (fun c1 => ?_) (fun c1 => ?_)
  · replace h := h.1 c1
    refine z_lv0 (lv' := []) [] rfl ?_
    exact hk64 _ h
  · replace h := h.2 c1
    refine z_bipush (v := 6) b dX4_enact_8 (by decide) ?_
    refine z_iload_n b dX4_enact_10 rfl rfl ?_
    refine z_imul b dX4_enact_11 rfl ?_
    refine z_iload_n b dX4_enact_12 rfl rfl ?_
    refine z_iadd b dX4_enact_13 rfl ?_
    refine z_istore (lv' := [(4, .int (((6 : Int32) * x1) + x3)), (0, .ref (a 33)), (1, .int x1), (2, .ref x2), (3, .int x3)]) b dX4_enact_14 (by decide) rfl ?_
    refine z_iload b dX4_enact_16 rfl ?_
    refine y_if_lt (tgt := 58) (xl := (((6 : Int32) * x1) + x3).toInt) b rfl dX4_enact_18 (by decide) (fun c1 => ?_) (fun c1 => ?_)
    · replace h := h.1 c1
      refine z_lv0 (lv' := [(0, .ref (a 33)), (1, .int x1), (2, .ref x2), (3, .int x3)]) [1, 2, 3, 4] rfl ?_
      exact z_X4_enact_B58 hrw b hk2 hk64 _ _ _ _ h
    · replace h := h.2 c1
      refine z_iload b dX4_enact_21 rfl ?_
      refine z_aload_n b dX4_enact_23 rfl rfl ?_
      refine z_get (q0 := 33) (k9 := 0) (v := .ref (a 34)) b (kw_33 cy a rw S) rfl in_X4 (by decide) wf_X4_11 rfl dX4_enact_24 ?_
      refine z_alen (q0 := 34) (t0 := 3) (v := 12) b (kw_34 cy a rw S) rfl rfl dX4_enact_27 ?_
      refine y_icmp_ge (tgt := 58) (xl := (((6 : Int32) * x1) + x3).toInt) (yl := 12) b rfl (by decide) dX4_enact_28 (by decide) (fun c1 => ?_) (fun c1 => ?_)
      · replace h := h.1 c1
        refine z_lv0 (lv' := [(0, .ref (a 33)), (1, .int x1), (2, .ref x2), (3, .int x3)]) [1, 2, 3, 4] rfl ?_
        exact z_X4_enact_B58 hrw b hk2 hk64 _ _ _ _ h
      · replace h := h.2 c1
        refine z_aload_n b dX4_enact_31 rfl rfl ?_
        refine z_get (q0 := 33) (k9 := 0) (v := .ref (a 34)) b (kw_33 cy a rw S) rfl in_X4 (by decide) wf_X4_11 rfl dX4_enact_32 ?_
        refine z_iload b dX4_enact_35 rfl ?_
        refine z_iload_n b dX4_enact_37 rfl rfl ?_
        refine z_aload_n b dX4_enact_38 rfl rfl ?_
        obtain ⟨i1, f2, g3, h⟩ := h
        refine z_calli b (z_runV (q0 := 47 + i1) (As := []) (st := [.int x3, .int (((6 : Int32) * x1) + x3), .ref (a 34)]) b (k_Jx4a65c_size_8abf5 hrw S x2 _ h) cf_Jx4a65c_size_8abf5 (kw_dyn cy a rw S g3) rfl wm_X4_27 wi_Jx4a65c_size_8abf5 ws_Jx4a65c_size_8abf5 dX4_enact_39 rfl (Nat.le_of_ble_eq_true rfl) ⟨by decide, by decide, Nat.le_of_ble_eq_true rfl, Nat.le_of_ble_eq_true rfl⟩) (fun r4 S5 h => ?_)
        refine y_icmp_ge (tgt := 56) (xl := x3.toInt) (yl := r4.toInt) b rfl rfl dX4_enact_42 (by decide) (fun c1 => ?_) (fun c1 => ?_)
        · replace h := h.1 c1
          refine z_null b dX4_enact_56 ?_
          refine z_lv0 (lv' := [(0, .ref (a 33)), (1, .int x1), (2, .ref x2), (3, .int x3)]) [1, 2, 3, 4] rfl ?_
          exact z_X4_enact_B57 hrw b hk2 hk64 _ _ _ _ _ _ h
        · replace h := h.2 c1
          refine z_aload_n b dX4_enact_45 rfl rfl ?_
          refine z_iload_n b dX4_enact_46 rfl rfl ?_
          obtain ⟨i11, f12, g13, h⟩ := h
          refine z_callq b (z_runV (q0 := 47 + i11) (As := [.int x3]) (st := [.int (((6 : Int32) * x1) + x3), .ref (a 34)]) b (k_Jx4a65c_get_915e3 hrw S5 x2 x3 _ h) cf_Jx4a65c_get_915e3 (kw_dyn cy a rw S5 g13) rfl wm_X4_31 wi_Jx4a65c_get_915e3 ws_Jx4a65c_get_915e3 dX4_enact_47 rfl (Nat.le_of_ble_eq_true rfl) ⟨by decide, by decide, Nat.le_of_ble_eq_true rfl, Nat.le_of_ble_eq_true rfl⟩) (fun r14 S15 h => ?_)
          obtain ⟨q16, g17, h⟩ := h
          subst g17
          obtain ⟨i18, f19, g20, h⟩ := h
          refine z_cast (q0 := 47 + i18) (ci := 1) b wk_X4_9 (kw_dyn cy a rw S15 g20) rfl dX4_enact_50 ?_
          refine z_goto (tgt := 57) b dX4_enact_53 (by decide) ?_
          refine z_lv0 (lv' := [(0, .ref (a 33)), (1, .int x1), (2, .ref x2), (3, .int x3)]) [1, 2, 3, 4] rfl ?_
          exact z_X4_enact_B57 hrw b hk2 hk64 _ _ _ _ _ _ h

set_option maxHeartbeats 4000000 in
set_option maxRecDepth 100000 in
theorem zl_X4_enact_L2 {p : Program} {l : Launch} {e : Env} {R : Room} {s : State} {m : MethodId} {args : Array Value} {below : List Frame} {meth : Method} {c : Code} {D : va_G} {cy : Nat → ClassId} {T0 tB tE : Nat} {A : Nat → Prop} {a : Nat → Nat} {rw : Nat → Option Nat} (hrw : ∀ i, i < 6 → rw i = some (a (12 + 2 * i))) {post : KS → Prop} {k64 : KS → Prop} (b : Bz p R s m args meth c D cy T0 tB tE A 5 cX4_enact RX4 none "enact" 3 64 0 0) (hk64 : ∀ (S : KS), k64 S → Z p l e R s m args below meth c D A 5 (MQ below (QV D (U := KS) post (kw cy a rw) A) args s 0 0 A) 0 0 (kw cy a rw S) [] 64 []) : ∀ (n : Nat) (S : KS) (x1 : Int32) (x2 : Nat) (x3 : Int32), lpn (w_X4_enact_F2 cy tE post k64) (fun _ _ _ _ => False) n S x1 x2 x3 → Z p l e R s m args below meth c D A 5 (MQ below (QV D (U := KS) post (kw cy a rw) A) args s 0 0 A) 0 0 (kw cy a rw S) [(0, .ref (a 33)), (1, .int x1), (2, .ref x2), (3, .int x3)] 2 [] := by
  intro n
  induction n with
  | zero => intro _ _ _ _ h; exact h.elim
  | succ n ih => intro S x1 x2 x3 h; exact z_X4_enact_F2 hrw b hk64 ih S x1 x2 x3 h

def w_X4_enact_B64 (cy : Nat → ClassId) (tE : Nat) (post : KS → Prop) (S : KS)  : Prop :=
  post S

set_option maxHeartbeats 4000000 in
set_option maxRecDepth 100000 in
theorem z_X4_enact_B64 {p : Program} {l : Launch} {e : Env} {R : Room} {s : State} {m : MethodId} {args : Array Value} {below : List Frame} {meth : Method} {c : Code} {D : va_G} {cy : Nat → ClassId} {T0 tB tE : Nat} {A : Nat → Prop} {a : Nat → Nat} {rw : Nat → Option Nat} (hrw : ∀ i, i < 6 → rw i = some (a (12 + 2 * i))) {post : KS → Prop} (b : Bz p R s m args meth c D cy T0 tB tE A 5 cX4_enact RX4 none "enact" 3 64 0 0) (S : KS)  (h : w_X4_enact_B64 cy tE post S ) : Z p l e R s m args below meth c D A 5 (MQ below (QV D (U := KS) post (kw cy a rw) A) args s 0 0 A) 0 0 (kw cy a rw S) [] 64 [] := by
  unfold w_X4_enact_B64 at h
  exact z_vret (u := S) b rfl dX4_enact_64 h rfl (by decide) (by decide)

def w_X4_enact (cy : Nat → ClassId) (tE : Nat) (S : KS) (p0 : Int32) (p1 : Nat) (post : KS → Prop) : Prop :=
  ∃ n, lpn (w_X4_enact_F2 cy tE post (w_X4_enact_B64 cy tE post)) (fun _ _ _ _ => False) n S p0 p1 0

set_option maxHeartbeats 4000000 in
set_option maxRecDepth 100000 in
theorem k_X4_enact {l : Launch} {D : va_G} {cy : Nat → ClassId} {T0 tB tE : Nat} {a : Nat → Nat} {rw : Nat → Option Nat} (hrw : ∀ i, i < 6 → rw i = some (a (12 + 2 * i))) (S : KS) (p0 : Int32) (p1 : Nat) (post : KS → Prop) (h : w_X4_enact cy tE S p0 p1 post) : Ct l D cy T0 tB tE yX4_enact cX4_enact 5 none 3 64 0 0 (kw cy a rw S) [.ref (a 33), .int p0, .ref p1] (QV D (U := KS) post (kw cy a rw)) := by
  refine Ct.ofZ RX4 "enact" [(0, .ref (a 33)), (1, .int p0), (2, .ref p1)] rfl rfl rfl rfl (Nat.le_of_ble_eq_true rfl) ?_
  intro p e R s m args below meth c A b
  unfold w_X4_enact at h
  refine z_iconst (v := 0) b dX4_enact_0 (by decide) ?_
  refine z_istore_n (lv' := [(3, .int 0), (0, .ref (a 33)), (1, .int p0), (2, .ref p1)]) b dX4_enact_1 rfl (by decide) rfl ?_
  refine z_lv0 (lv' := [(0, .ref (a 33)), (1, .int p0), (2, .ref p1), (3, .int 0)]) [1, 2, 3, 0] rfl ?_
  obtain ⟨n, h⟩ := h
  exact zl_X4_enact_L2 hrw b (fun S h => z_X4_enact_B64 hrw b _ h) n _ _ _ _ h

def w_X11_act_B60 (cy : Nat → ClassId) (tE : Nat) (post : Int32 → KS → Prop) (S : KS) (y0 : Int32) : Prop :=
  post y0 S

set_option maxHeartbeats 4000000 in
set_option maxRecDepth 100000 in
theorem z_X11_act_B60 {p : Program} {l : Launch} {e : Env} {R : Room} {s : State} {m : MethodId} {args : Array Value} {below : List Frame} {meth : Method} {c : Code} {D : va_G} {cy : Nat → ClassId} {T0 tB tE : Nat} {A : Nat → Prop} {a : Nat → Nat} {rw : Nat → Option Nat} (hrw : ∀ i, i < 6 → rw i = some (a (12 + 2 * i))) {post : Int32 → KS → Prop} (b : Bz p R s m args meth c D cy T0 tB tE A 4 cX11_act RX11 (some .int) "act" 1 21 0 0) (S : KS) (y0 : Int32) (h : w_X11_act_B60 cy tE post S y0) : Z p l e R s m args below meth c D A 4 (MQ below (QI D (U := KS) post (kw cy a rw) A) args s 0 0 A) 0 0 (kw cy a rw S) [] 60 [.int y0] := by
  unfold w_X11_act_B60 at h
  exact z_iret (u := S) b rfl dX11_act_60 h rfl (by decide) (by decide)

def w_X11_act_B73 (cy : Nat → ClassId) (tE : Nat) (post : Int32 → KS → Prop) (S : KS) (y0 : Int32) : Prop :=
  post y0 S

set_option maxHeartbeats 4000000 in
set_option maxRecDepth 100000 in
theorem z_X11_act_B73 {p : Program} {l : Launch} {e : Env} {R : Room} {s : State} {m : MethodId} {args : Array Value} {below : List Frame} {meth : Method} {c : Code} {D : va_G} {cy : Nat → ClassId} {T0 tB tE : Nat} {A : Nat → Prop} {a : Nat → Nat} {rw : Nat → Option Nat} (hrw : ∀ i, i < 6 → rw i = some (a (12 + 2 * i))) {post : Int32 → KS → Prop} (b : Bz p R s m args meth c D cy T0 tB tE A 4 cX11_act RX11 (some .int) "act" 1 21 0 0) (S : KS) (y0 : Int32) (h : w_X11_act_B73 cy tE post S y0) : Z p l e R s m args below meth c D A 4 (MQ below (QI D (U := KS) post (kw cy a rw) A) args s 0 0 A) 0 0 (kw cy a rw S) [] 73 [.int y0] := by
  unfold w_X11_act_B73 at h
  exact z_iret (u := S) b rfl dX11_act_73 h rfl (by decide) (by decide)

def w_X11_act (cy : Nat → ClassId) (tE : Nat) (S : KS) (p0 : Int32) (p1 : Int32) (post : Int32 → KS → Prop) : Prop :=
  w_X4_actAt cy tE S p0 (fun r1 S2 => ((r1 = none → post (-1) S2) ∧ (∀ q3 : Nat, r1 = some q3 → ((p1.toInt = 0 → ∃ (i4 : Nat) (f5 : Int64) (f6 : Nat) (f7 : Nat) (f8 : Int32) (f9 : Int32), S2.2.2.2[i4]? = some (q3, .inr (1, [.long f5, .ref f6, .ref f7, .int f8, .int f9])) ∧ ((f8.toInt = 0 → w_X11_act_B60 cy tE post S2 0) ∧ (f8.toInt ≠ 0 → w_X11_act_B60 cy tE post S2 1))) ∧ (p1.toInt = 1 → ∃ (i11 : Nat) (f12 : Int64) (f13 : Nat) (f14 : Nat) (f15 : Int32) (f16 : Int32), S2.2.2.2[i11]? = some (q3, .inr (1, [.long f12, .ref f13, .ref f14, .int f15, .int f16])) ∧ ((f16.toInt = 0 → w_X11_act_B73 cy tE post S2 0) ∧ (f16.toInt ≠ 0 → w_X11_act_B73 cy tE post S2 1))) ∧ (p1.toInt = 2 → ∃ (i18 : Nat) (f19 : Int64) (f20 : Nat) (f21 : Nat) (f22 : Int32) (f23 : Int32), S2.2.2.2[i18]? = some (q3, .inr (1, [.long f19, .ref f20, .ref f21, .int f22, .int f23])) ∧ ∃ (i25 : Nat) (f26 : List Value), S2.2.2.2[i25]? = some (f20, .inr (0, f26)) ∧ w_Jx4a65c_size_8abf5 cy tE S2 f20 (fun r28 S29 => post r28 S29)) ∧ (p1.toInt = 3 → ∃ (i30 : Nat) (f31 : Int64) (f32 : Nat) (f33 : Nat) (f34 : Int32) (f35 : Int32), S2.2.2.2[i30]? = some (q3, .inr (1, [.long f31, .ref f32, .ref f33, .int f34, .int f35])) ∧ ∃ (i37 : Nat) (f38 : List Value), S2.2.2.2[i37]? = some (f33, .inr (0, f38)) ∧ w_Jx4a65c_size_8abf5 cy tE S2 f33 (fun r40 S41 => post r40 S41)) ∧ (p1.toInt ≠ 0 ∧ p1.toInt ≠ 1 ∧ p1.toInt ≠ 2 ∧ p1.toInt ≠ 3 → post (-1) S2)))))

set_option maxHeartbeats 4000000 in
set_option maxRecDepth 100000 in
theorem k_X11_act {l : Launch} {D : va_G} {cy : Nat → ClassId} {T0 tB tE : Nat} {a : Nat → Nat} {rw : Nat → Option Nat} (hrw : ∀ i, i < 6 → rw i = some (a (12 + 2 * i))) (S : KS) (p0 : Int32) (p1 : Int32) (post : Int32 → KS → Prop) (h : w_X11_act cy tE S p0 p1 post) : Ct l D cy T0 tB tE yX11_act cX11_act 4 (some .int) 1 21 0 0 (kw cy a rw S) [.ref (a 0), .int p0, .int p1] (QI D (U := KS) post (kw cy a rw)) := by
  refine Ct.ofZ RX11 "act" [(0, .ref (a 0)), (1, .int p0), (2, .int p1)] rfl rfl rfl rfl (Nat.le_of_ble_eq_true rfl) ?_
  intro p e R s m args below meth c A b
  unfold w_X11_act at h
  refine z_aload_n b dX11_act_0 rfl rfl ?_
  refine z_get (q0 := 0) (k9 := 3) (v := .ref (a 33)) b (kw_0 cy a rw S) rfl in_X11 (by decide) wf_X11_27 rfl dX11_act_1 ?_
  refine z_iload_n b dX11_act_4 rfl rfl ?_
  refine z_callq b (z_runV (q0 := 33) (As := [.int p0]) (st := []) b (k_X4_actAt hrw S p0 _ h) cf_X4_actAt (kw_33 cy a rw S) rfl wm_X11_150 wi_X4_actAt ws_X4_actAt dX11_act_5 rfl (Nat.le_of_ble_eq_true rfl) ⟨by decide, by decide, Nat.le_of_ble_eq_true rfl, Nat.le_of_ble_eq_true rfl⟩) (fun r1 S2 h => ?_)
  refine z_astore_n (lv' := [(3, va_rf r1), (0, .ref (a 0)), (1, .int p0), (2, .int p1)]) b dX11_act_8 rfl (by decide) rfl ?_
  refine z_aload_n b dX11_act_9 rfl rfl ?_
  cases r1 with
  | none =>
    replace h := h.1 rfl
    refine z_ifnonnullN b dX11_act_10 ?_
    refine z_iconst (v := (-1)) b dX11_act_13 (by decide) ?_
    exact z_iret (u := S2) b rfl dX11_act_14 h rfl (by decide) (by decide)
  | some q3 =>
    replace h := h.2 q3 rfl
    refine z_ifnonnull (tgt := 15) b dX11_act_10 (by decide) ?_
    refine z_iload_n b dX11_act_15 rfl rfl ?_
    by_cases e1 : p1.toInt = 0
    · replace h := h.1 e1
      refine z_eqi (y := 0) (y_eqc e1 (by decide)) ?_
      refine z_tableIn (tgt := 48) (off := 32) b dX11_act_16 (by decide) (by decide) (by decide) (by decide) ?_
      refine z_aload_n b dX11_act_48 rfl rfl ?_
      obtain ⟨i4, f5, f6, f7, f8, f9, g10, h⟩ := h
      refine z_get (q0 := 47 + i4) (k9 := 3) (v := .int f8) b (kw_dyn cy a rw S2 g10) rfl in_X0 (by decide) wf_X11_154 rfl dX11_act_49 ?_
      refine y_if_eq (tgt := 59) (xl := f8.toInt) b rfl dX11_act_52 (by decide) (fun c1 => ?_) (fun c1 => ?_)
      · replace h := h.1 c1
        refine z_iconst (v := 0) b dX11_act_59 (by decide) ?_
        refine z_lv0 (lv' := []) [] rfl ?_
        exact z_X11_act_B60 hrw b _ _ h
      · replace h := h.2 c1
        refine z_iconst (v := 1) b dX11_act_55 (by decide) ?_
        refine z_goto (tgt := 60) b dX11_act_56 (by decide) ?_
        refine z_lv0 (lv' := []) [] rfl ?_
        exact z_X11_act_B60 hrw b _ _ h
    replace h := h.2
    have o0 := e1
    by_cases e1 : p1.toInt = 1
    · replace h := h.1 e1
      refine z_eqi (y := 1) (y_eqc e1 (by decide)) ?_
      refine z_tableIn (tgt := 61) (off := 45) b dX11_act_16 (by decide) (by decide) (by decide) (by decide) ?_
      refine z_aload_n b dX11_act_61 rfl rfl ?_
      obtain ⟨i11, f12, f13, f14, f15, f16, g17, h⟩ := h
      refine z_get (q0 := 47 + i11) (k9 := 4) (v := .int f16) b (kw_dyn cy a rw S2 g17) rfl in_X0 (by decide) wf_X11_160 rfl dX11_act_62 ?_
      refine y_if_eq (tgt := 72) (xl := f16.toInt) b rfl dX11_act_65 (by decide) (fun c1 => ?_) (fun c1 => ?_)
      · replace h := h.1 c1
        refine z_iconst (v := 0) b dX11_act_72 (by decide) ?_
        refine z_lv0 (lv' := []) [] rfl ?_
        exact z_X11_act_B73 hrw b _ _ h
      · replace h := h.2 c1
        refine z_iconst (v := 1) b dX11_act_68 (by decide) ?_
        refine z_goto (tgt := 73) b dX11_act_69 (by decide) ?_
        refine z_lv0 (lv' := []) [] rfl ?_
        exact z_X11_act_B73 hrw b _ _ h
    replace h := h.2
    have o1 := e1
    by_cases e1 : p1.toInt = 2
    · replace h := h.1 e1
      refine z_eqi (y := 2) (y_eqc e1 (by decide)) ?_
      refine z_tableIn (tgt := 74) (off := 58) b dX11_act_16 (by decide) (by decide) (by decide) (by decide) ?_
      refine z_aload_n b dX11_act_74 rfl rfl ?_
      obtain ⟨i18, f19, f20, f21, f22, f23, g24, h⟩ := h
      refine z_get (q0 := 47 + i18) (k9 := 1) (v := .ref f20) b (kw_dyn cy a rw S2 g24) rfl in_X0 (by decide) wf_X11_163 rfl dX11_act_75 ?_
      obtain ⟨i25, f26, g27, h⟩ := h
      refine z_calli b (z_runV (q0 := 47 + i25) (As := []) (st := []) b (k_Jx4a65c_size_8abf5 hrw S2 f20 _ h) cf_Jx4a65c_size_8abf5 (kw_dyn cy a rw S2 g27) rfl wm_X11_117 wi_Jx4a65c_size_8abf5 ws_Jx4a65c_size_8abf5 dX11_act_78 rfl (Nat.le_of_ble_eq_true rfl) ⟨by decide, by decide, Nat.le_of_ble_eq_true rfl, Nat.le_of_ble_eq_true rfl⟩) (fun r28 S29 h => ?_)
      exact z_iret (u := S29) b rfl dX11_act_81 h rfl (by decide) (by decide)
    replace h := h.2
    have o2 := e1
    by_cases e1 : p1.toInt = 3
    · replace h := h.1 e1
      refine z_eqi (y := 3) (y_eqc e1 (by decide)) ?_
      refine z_tableIn (tgt := 82) (off := 66) b dX11_act_16 (by decide) (by decide) (by decide) (by decide) ?_
      refine z_aload_n b dX11_act_82 rfl rfl ?_
      obtain ⟨i30, f31, f32, f33, f34, f35, g36, h⟩ := h
      refine z_get (q0 := 47 + i30) (k9 := 2) (v := .ref f33) b (kw_dyn cy a rw S2 g36) rfl in_X0 (by decide) wf_X11_166 rfl dX11_act_83 ?_
      obtain ⟨i37, f38, g39, h⟩ := h
      refine z_calli b (z_runV (q0 := 47 + i37) (As := []) (st := []) b (k_Jx4a65c_size_8abf5 hrw S2 f33 _ h) cf_Jx4a65c_size_8abf5 (kw_dyn cy a rw S2 g39) rfl wm_X11_117 wi_Jx4a65c_size_8abf5 ws_Jx4a65c_size_8abf5 dX11_act_86 rfl (Nat.le_of_ble_eq_true rfl) ⟨by decide, by decide, Nat.le_of_ble_eq_true rfl, Nat.le_of_ble_eq_true rfl⟩) (fun r40 S41 h => ?_)
      exact z_iret (u := S41) b rfl dX11_act_89 h rfl (by decide) (by decide)
    replace h := h.2
    have o3 := e1
    replace h := h ⟨o0, o1, o2, o3⟩
    refine z_tableOut (tgt := 90) b dX11_act_16 (by omega) (by decide) ?_
    refine z_iconst (v := (-1)) b dX11_act_90 (by decide) ?_
    exact z_iret (u := S2) b rfl dX11_act_91 h rfl (by decide) (by decide)

def w_X11_lawful_B32 (cy : Nat → ClassId) (tE : Nat) (post : Int32 → KS → Prop) (S : KS)  : Prop :=
  post (-1) S

set_option maxHeartbeats 4000000 in
set_option maxRecDepth 100000 in
theorem z_X11_lawful_B32 {p : Program} {l : Launch} {e : Env} {R : Room} {s : State} {m : MethodId} {args : Array Value} {below : List Frame} {meth : Method} {c : Code} {D : va_G} {cy : Nat → ClassId} {T0 tB tE : Nat} {A : Nat → Prop} {a : Nat → Nat} {rw : Nat → Option Nat} (hrw : ∀ i, i < 6 → rw i = some (a (12 + 2 * i))) {post : Int32 → KS → Prop} (b : Bz p R s m args meth c D cy T0 tB tE A 6 cX11_lawful RX11 (some .int) "lawful" 5 126 0 0) (S : KS)  (h : w_X11_lawful_B32 cy tE post S ) : Z p l e R s m args below meth c D A 6 (MQ below (QI D (U := KS) post (kw cy a rw) A) args s 0 0 A) 0 0 (kw cy a rw S) [] 32 [] := by
  unfold w_X11_lawful_B32 at h
  refine z_iconst (v := (-1)) b dX11_lawful_32 (by decide) ?_
  exact z_iret (u := S) b rfl dX11_lawful_33 h rfl (by decide) (by decide)

def w_X11_lawful_B72 (cy : Nat → ClassId) (tE : Nat) (post : Int32 → KS → Prop) (S : KS) (y0 : Int32) : Prop :=
  post y0 S

set_option maxHeartbeats 4000000 in
set_option maxRecDepth 100000 in
theorem z_X11_lawful_B72 {p : Program} {l : Launch} {e : Env} {R : Room} {s : State} {m : MethodId} {args : Array Value} {below : List Frame} {meth : Method} {c : Code} {D : va_G} {cy : Nat → ClassId} {T0 tB tE : Nat} {A : Nat → Prop} {a : Nat → Nat} {rw : Nat → Option Nat} (hrw : ∀ i, i < 6 → rw i = some (a (12 + 2 * i))) {post : Int32 → KS → Prop} (b : Bz p R s m args meth c D cy T0 tB tE A 6 cX11_lawful RX11 (some .int) "lawful" 5 126 0 0) (S : KS) (y0 : Int32) (h : w_X11_lawful_B72 cy tE post S y0) : Z p l e R s m args below meth c D A 6 (MQ below (QI D (U := KS) post (kw cy a rw) A) args s 0 0 A) 0 0 (kw cy a rw S) [] 72 [.int y0] := by
  unfold w_X11_lawful_B72 at h
  exact z_iret (u := S) b rfl dX11_lawful_72 h rfl (by decide) (by decide)

def w_X11_lawful (cy : Nat → ClassId) (tE : Nat) (S : KS) (p0 : Int32) (p1 : Int32) (p2 : Int32) (p3 : Int32) (post : Int32 → KS → Prop) : Prop :=
  w_X11_isRow cy tE S p0 (fun r1 S2 => ((r1.toInt = 0 → w_X11_lawful_B32 cy tE post S2) ∧ (r1.toInt ≠ 0 → w_X11_areLaws cy tE S2 p1 (fun r3 S4 => ((r3.toInt = 0 → w_X11_lawful_B32 cy tE post S4) ∧ (r3.toInt ≠ 0 → w_X11_isWithin cy tE S4 p2 31 (fun r5 S6 => ((r5.toInt = 0 → w_X11_lawful_B32 cy tE post S6) ∧ (r5.toInt ≠ 0 → w_X11_isWithin cy tE S6 p3 1 (fun r7 S8 => ((r7.toInt ≠ 0 → (0 ≤ p0.toInt ∧ p0.toInt < 6) ∧ w_X2_follow cy tE S8 (p0.toNatClampNeg) 0 p1 p2 (fun r11 S12 => ((p3.toInt ≠ 0 → w_X11_lawful_B72 cy tE post S12 (fi S12.1 22)) ∧ (p3.toInt = 0 → w_X11_lawful_B72 cy tE post S12 r11)))) ∧ (r7.toInt = 0 → w_X11_lawful_B32 cy tE post S8))))))))))))

set_option maxHeartbeats 4000000 in
set_option maxRecDepth 100000 in
theorem k_X11_lawful {l : Launch} {D : va_G} {cy : Nat → ClassId} {T0 tB tE : Nat} {a : Nat → Nat} {rw : Nat → Option Nat} (hrw : ∀ i, i < 6 → rw i = some (a (12 + 2 * i))) (S : KS) (p0 : Int32) (p1 : Int32) (p2 : Int32) (p3 : Int32) (post : Int32 → KS → Prop) (h : w_X11_lawful cy tE S p0 p1 p2 p3 post) : Ct l D cy T0 tB tE yX11_lawful cX11_lawful 6 (some .int) 5 126 0 0 (kw cy a rw S) [.ref (a 0), .int p0, .int p1, .int p2, .int p3] (QI D (U := KS) post (kw cy a rw)) := by
  refine Ct.ofZ RX11 "lawful" [(0, .ref (a 0)), (1, .int p0), (2, .int p1), (3, .int p2), (4, .int p3)] rfl rfl rfl rfl (Nat.le_of_ble_eq_true rfl) ?_
  intro p e R s m args below meth c A b
  unfold w_X11_lawful at h
  refine z_iload_n b dX11_lawful_0 rfl rfl ?_
  refine z_calli b (z_runS (As := [.int p0]) (st := []) b (k_X11_isRow hrw S p0 _ h) cf_X11_isRow wm_X11_169 ws_X11_isRow dX11_lawful_1 rfl (Nat.le_of_ble_eq_true rfl) ⟨by decide, by decide, Nat.le_of_ble_eq_true rfl, Nat.le_of_ble_eq_true rfl⟩) (fun r1 S2 h => ?_)
  refine y_if_eq (tgt := 32) (xl := r1.toInt) b rfl dX11_lawful_4 (by decide) (fun c1 => ?_) (fun c1 => ?_)
  · replace h := h.1 c1
    refine z_lv0 (lv' := []) [] rfl ?_
    exact z_X11_lawful_B32 hrw b _ h
  · replace h := h.2 c1
    refine z_iload_n b dX11_lawful_7 rfl rfl ?_
    refine z_calli b (z_runS (As := [.int p1]) (st := []) b (k_X11_areLaws hrw S2 p1 _ h) cf_X11_areLaws wm_X11_181 ws_X11_areLaws dX11_lawful_8 rfl (Nat.le_of_ble_eq_true rfl) ⟨by decide, by decide, Nat.le_of_ble_eq_true rfl, Nat.le_of_ble_eq_true rfl⟩) (fun r3 S4 h => ?_)
    refine y_if_eq (tgt := 32) (xl := r3.toInt) b rfl dX11_lawful_11 (by decide) (fun c1 => ?_) (fun c1 => ?_)
    · replace h := h.1 c1
      refine z_lv0 (lv' := []) [] rfl ?_
      exact z_X11_lawful_B32 hrw b _ h
    · replace h := h.2 c1
      refine z_iload_n b dX11_lawful_14 rfl rfl ?_
      refine z_bipush (v := 31) b dX11_lawful_15 (by decide) ?_
      refine z_calli b (z_runS (As := [.int p2, .int 31]) (st := []) b (k_X11_isWithin hrw S4 p2 31 _ h) cf_X11_isWithin wm_X11_73 ws_X11_isWithin dX11_lawful_17 rfl (Nat.le_of_ble_eq_true rfl) ⟨by decide, by decide, Nat.le_of_ble_eq_true rfl, Nat.le_of_ble_eq_true rfl⟩) (fun r5 S6 h => ?_)
      refine y_if_eq (tgt := 32) (xl := r5.toInt) b rfl dX11_lawful_20 (by decide) (fun c1 => ?_) (fun c1 => ?_)
      · replace h := h.1 c1
        refine z_lv0 (lv' := []) [] rfl ?_
        exact z_X11_lawful_B32 hrw b _ h
      · replace h := h.2 c1
        refine z_iload b dX11_lawful_23 rfl ?_
        refine z_iconst (v := 1) b dX11_lawful_25 (by decide) ?_
        refine z_calli b (z_runS (As := [.int p3, .int 1]) (st := []) b (k_X11_isWithin hrw S6 p3 1 _ h) cf_X11_isWithin wm_X11_73 ws_X11_isWithin dX11_lawful_26 rfl (Nat.le_of_ble_eq_true rfl) ⟨by decide, by decide, Nat.le_of_ble_eq_true rfl, Nat.le_of_ble_eq_true rfl⟩) (fun r7 S8 h => ?_)
        refine y_if_ne (tgt := 34) (xl := r7.toInt) b rfl dX11_lawful_29 (by decide) (fun c1 => ?_) (fun c1 => ?_)
        · replace h := h.1 c1
          refine z_aload_n b dX11_lawful_34 rfl rfl ?_
          refine z_get (q0 := 0) (k9 := 5) (v := .ref (a 35)) b (kw_0 cy a rw S8) rfl in_X11 (by decide) wf_X11_43 rfl dX11_lawful_35 ?_
          refine z_aload_n b dX11_lawful_38 rfl rfl ?_
          refine z_get (q0 := 0) (k9 := 7) (v := .ref (a 46)) b (kw_0 cy a rw S8) rfl in_X11 (by decide) wf_X11_58 rfl dX11_lawful_39 ?_
          refine z_iload_n b dX11_lawful_42 rfl rfl ?_
          obtain ⟨g9, h⟩ := h
          refine y_aald (q0 := 46) (t0 := 4) (j := p0.toNatClampNeg) (v := .ref (a (12 + 2 * (p0.toNatClampNeg)))) b (kw_46 cy a rw S8) rfl (zx_r g9.1 g9.2) (by rw [hrw _ (zx_lt (zx_r g9.1 g9.2))]; rfl) dX11_lawful_43 ?_
          refine z_aload_n b dX11_lawful_44 rfl rfl ?_
          refine z_get (q0 := 0) (k9 := 4) (v := .ref (a 2)) b (kw_0 cy a rw S8) rfl in_X11 (by decide) wf_X11_34 rfl dX11_lawful_45 ?_
          refine z_iload_n b dX11_lawful_48 rfl rfl ?_
          refine z_iload_n b dX11_lawful_49 rfl rfl ?_
          refine z_calli b (z_runV (q0 := 35) (As := [.ref (a (12 + 2 * (p0.toNatClampNeg))), .ref (a 2), .int p1, .int p2]) (st := []) b (k_X2_follow hrw S8 (p0.toNatClampNeg) 0 p1 p2 _ h) cf_X2_follow (kw_35 cy a rw S8) rfl wm_X11_184 wi_X2_follow ws_X2_follow dX11_lawful_50 rfl (Nat.le_of_ble_eq_true rfl) ⟨by decide, by decide, Nat.le_of_ble_eq_true rfl, Nat.le_of_ble_eq_true rfl⟩) (fun r11 S12 h => ?_)
          refine z_istore (lv' := [(5, .int r11), (0, .ref (a 0)), (1, .int p0), (2, .int p1), (3, .int p2), (4, .int p3)]) b dX11_lawful_53 (by decide) rfl ?_
          refine z_iload b dX11_lawful_55 rfl ?_
          refine y_if_ne (tgt := 65) (xl := p3.toInt) b rfl dX11_lawful_57 (by decide) (fun c1 => ?_) (fun c1 => ?_)
          · replace h := h.1 c1
            refine z_aload_n b dX11_lawful_65 rfl rfl ?_
            refine z_get (q0 := 0) (k9 := 5) (v := .ref (a 35)) b (kw_0 cy a rw S12) rfl in_X11 (by decide) wf_X11_43 rfl dX11_lawful_66 ?_
            refine z_get (q0 := 35) (k9 := 4) (v := .int (fi S12.1 22)) b (kw_35 cy a rw S12) rfl in_X2 (by decide) wf_X11_188 rfl dX11_lawful_69 ?_
            refine z_lv0 (lv' := []) [] rfl ?_
            exact z_X11_lawful_B72 hrw b _ _ h
          · replace h := h.2 c1
            refine z_iload b dX11_lawful_60 rfl ?_
            refine z_goto (tgt := 72) b dX11_lawful_62 (by decide) ?_
            refine z_lv0 (lv' := []) [] rfl ?_
            exact z_X11_lawful_B72 hrw b _ _ h
        · replace h := h.2 c1
          refine z_lv0 (lv' := []) [] rfl ?_
          exact z_X11_lawful_B32 hrw b _ h

def w_X10_readWord_B42 (cy : Nat → ClassId) (tE : Nat) (post : Int32 → KS → Prop) (k6 : KS → Int32 → Int32 → Int64 → Int32 → Prop) (k48 : KS → Int32 → Int64 → Int32 → Prop) (S : KS) (x2 : Int32) (x3 : Int32) (x4 : Int64) (x6 : Int32) : Prop :=
  k6 S x2 x3 x4 (x6 + 1)

set_option maxHeartbeats 4000000 in
set_option maxRecDepth 100000 in
theorem z_X10_readWord_B42 {p : Program} {l : Launch} {e : Env} {R : Room} {s : State} {m : MethodId} {args : Array Value} {below : List Frame} {meth : Method} {c : Code} {D : va_G} {cy : Nat → ClassId} {T0 tB tE : Nat} {A : Nat → Prop} {a : Nat → Nat} {rw : Nat → Option Nat} (hrw : ∀ i, i < 6 → rw i = some (a (12 + 2 * i))) {post : Int32 → KS → Prop} {k6 : KS → Int32 → Int32 → Int64 → Int32 → Prop} {k48 : KS → Int32 → Int64 → Int32 → Prop} (b : Bz p R s m args meth c D cy T0 tB tE A 7 cX10_readWord RX10 (some .int) "readWord" 1 24 0 0) (hk6 : ∀ (S : KS) (x2 : Int32) (x3 : Int32) (x4 : Int64) (x6 : Int32), k6 S x2 x3 x4 x6 → Z p l e R s m args below meth c D A 7 (MQ below (QI D (U := KS) post (kw cy a rw) A) args s 0 0 A) 0 0 (kw cy a rw S) [(0, .ref (a 27)), (1, .ref (a 1)), (2, .int x2), (3, .int x3), (4, .long x4), (6, .int x6)] 6 []) (hk48 : ∀ (S : KS) (x2 : Int32) (x4 : Int64) (x6 : Int32), k48 S x2 x4 x6 → Z p l e R s m args below meth c D A 7 (MQ below (QI D (U := KS) post (kw cy a rw) A) args s 0 0 A) 0 0 (kw cy a rw S) [(0, .ref (a 27)), (2, .int x2), (4, .long x4), (6, .int x6)] 48 []) (S : KS) (x2 : Int32) (x3 : Int32) (x4 : Int64) (x6 : Int32) (h : w_X10_readWord_B42 cy tE post k6 k48 S x2 x3 x4 x6) : Z p l e R s m args below meth c D A 7 (MQ below (QI D (U := KS) post (kw cy a rw) A) args s 0 0 A) 0 0 (kw cy a rw S) [(0, .ref (a 27)), (1, .ref (a 1)), (2, .int x2), (3, .int x3), (4, .long x4), (6, .int x6)] 42 [] := by
  unfold w_X10_readWord_B42 at h
  refine z_iinc (k9 := 5) (v := (x6 + 1)) (lv' := [(6, .int (x6 + 1)), (0, .ref (a 27)), (1, .ref (a 1)), (2, .int x2), (3, .int x3), (4, .long x4)]) b dX10_readWord_42 rfl rfl (by decide) rfl ?_
  refine z_goto (tgt := 6) b dX10_readWord_45 (by decide) ?_
  refine z_lv0 (lv' := [(0, .ref (a 27)), (1, .ref (a 1)), (2, .int x2), (3, .int x3), (4, .long x4), (6, .int (x6 + 1))]) [1, 2, 3, 4, 5, 0] rfl ?_
  exact hk6 _ _ _ _ _ h

def w_X10_readWord_F6 (cy : Nat → ClassId) (tE : Nat) (post : Int32 → KS → Prop) (k48 : KS → Int32 → Int64 → Int32 → Prop) (k6 : KS → Int32 → Int32 → Int64 → Int32 → Prop) (S : KS) (x2 : Int32) (x3 : Int32) (x4 : Int64) (x6 : Int32) : Prop :=
  ((x3.toInt ≤ x6.toInt → k48 S x2 x4 x6) ∧ (x6.toInt < x3.toInt → (0 ≤ x6.toInt ∧ x6.toInt < 700) ∧ w_X10_isLetter cy tE S ((ar S.1 0) x6.toNatClampNeg) (fun r2 S3 => ((r2.toInt = 0 → k48 S3 x2 x4 x6) ∧ (r2.toInt ≠ 0 → ((8 ≤ (x6 - x2).toInt → w_X10_readWord_B42 cy tE post k6 k48 S3 x2 x3 x4 x6) ∧ ((x6 - x2).toInt < 8 → (0 ≤ x6.toInt ∧ x6.toInt < 700) ∧ w_X10_withLetter cy tE S3 x4 ((ar S3.1 0) x6.toNatClampNeg) (fun r5 S6 => w_X10_readWord_B42 cy tE post k6 k48 S6 x2 x3 r5 x6))))))))

set_option maxHeartbeats 4000000 in
set_option maxRecDepth 100000 in
theorem z_X10_readWord_F6 {p : Program} {l : Launch} {e : Env} {R : Room} {s : State} {m : MethodId} {args : Array Value} {below : List Frame} {meth : Method} {c : Code} {D : va_G} {cy : Nat → ClassId} {T0 tB tE : Nat} {A : Nat → Prop} {a : Nat → Nat} {rw : Nat → Option Nat} (hrw : ∀ i, i < 6 → rw i = some (a (12 + 2 * i))) {post : Int32 → KS → Prop} {k48 : KS → Int32 → Int64 → Int32 → Prop} {k6 : KS → Int32 → Int32 → Int64 → Int32 → Prop} (b : Bz p R s m args meth c D cy T0 tB tE A 7 cX10_readWord RX10 (some .int) "readWord" 1 24 0 0) (hk48 : ∀ (S : KS) (x2 : Int32) (x4 : Int64) (x6 : Int32), k48 S x2 x4 x6 → Z p l e R s m args below meth c D A 7 (MQ below (QI D (U := KS) post (kw cy a rw) A) args s 0 0 A) 0 0 (kw cy a rw S) [(0, .ref (a 27)), (2, .int x2), (4, .long x4), (6, .int x6)] 48 []) (hk6 : ∀ (S : KS) (x2 : Int32) (x3 : Int32) (x4 : Int64) (x6 : Int32), k6 S x2 x3 x4 x6 → Z p l e R s m args below meth c D A 7 (MQ below (QI D (U := KS) post (kw cy a rw) A) args s 0 0 A) 0 0 (kw cy a rw S) [(0, .ref (a 27)), (1, .ref (a 1)), (2, .int x2), (3, .int x3), (4, .long x4), (6, .int x6)] 6 []) (S : KS) (x2 : Int32) (x3 : Int32) (x4 : Int64) (x6 : Int32) (h : w_X10_readWord_F6 cy tE post k48 k6 S x2 x3 x4 x6) : Z p l e R s m args below meth c D A 7 (MQ below (QI D (U := KS) post (kw cy a rw) A) args s 0 0 A) 0 0 (kw cy a rw S) [(0, .ref (a 27)), (1, .ref (a 1)), (2, .int x2), (3, .int x3), (4, .long x4), (6, .int x6)] 6 [] := by
  unfold w_X10_readWord_F6 at h
  refine z_iload b dX10_readWord_6 rfl ?_
  refine z_iload_n b dX10_readWord_8 rfl rfl ?_
  refine y_icmp_ge (tgt := 48) (xl := x6.toInt) (yl := x3.toInt) b rfl rfl dX10_readWord_9 (by decide) (fun c1 => ?_) (fun c1 => ?_)
  · replace h := h.1 c1
    refine z_lv0 (lv' := [(0, .ref (a 27)), (2, .int x2), (4, .long x4), (6, .int x6)]) [0, 2, 4, 5] rfl ?_
    exact hk48 _ _ _ _ h
  · replace h := h.2 c1
    refine z_aload_n b dX10_readWord_12 rfl rfl ?_
    refine z_iload b dX10_readWord_13 rfl ?_
    obtain ⟨g1, h⟩ := h
    refine y_iald (q0 := 1) (j := x6.toNatClampNeg) (v := ((ar S.1 0) x6.toNatClampNeg)) b (kw_1 cy a rw S) (zx_r g1.1 g1.2) rfl dX10_readWord_15 ?_
    refine z_calli b (z_runS (As := [.int ((ar S.1 0) x6.toNatClampNeg)]) (st := []) b (k_X10_isLetter hrw S ((ar S.1 0) x6.toNatClampNeg) _ h) cf_X10_isLetter wm_X10_41 ws_X10_isLetter dX10_readWord_16 rfl (Nat.le_of_ble_eq_true rfl) ⟨by decide, by decide, Nat.le_of_ble_eq_true rfl, Nat.le_of_ble_eq_true rfl⟩) (fun r2 S3 h => ?_)
    refine y_if_eq (tgt := 48) (xl := r2.toInt) b rfl dX10_readWord_19 (by decide) (fun c1 => ?_) (fun c1 => ?_)
    · replace h := h.1 c1
      refine z_lv0 (lv' := [(0, .ref (a 27)), (2, .int x2), (4, .long x4), (6, .int x6)]) [0, 2, 4, 5] rfl ?_
      exact hk48 _ _ _ _ h
    · replace h := h.2 c1
      refine z_iload b dX10_readWord_22 rfl ?_
      refine z_iload_n b dX10_readWord_24 rfl rfl ?_
      refine z_isub b dX10_readWord_25 rfl ?_
      refine z_bipush (v := 8) b dX10_readWord_26 (by decide) ?_
      refine y_icmp_ge (tgt := 42) (xl := (x6 - x2).toInt) (yl := 8) b rfl (by decide) dX10_readWord_28 (by decide) (fun c1 => ?_) (fun c1 => ?_)
      · replace h := h.1 c1
        exact z_X10_readWord_B42 hrw b hk6 hk48 _ _ _ _ _ h
      · replace h := h.2 c1
        refine z_lload b dX10_readWord_31 rfl ?_
        refine z_aload_n b dX10_readWord_33 rfl rfl ?_
        refine z_iload b dX10_readWord_34 rfl ?_
        obtain ⟨g4, h⟩ := h
        refine y_iald (q0 := 1) (j := x6.toNatClampNeg) (v := ((ar S3.1 0) x6.toNatClampNeg)) b (kw_1 cy a rw S3) (zx_r g4.1 g4.2) rfl dX10_readWord_36 ?_
        refine z_calll b (z_runS (As := [.long x4, .int ((ar S3.1 0) x6.toNatClampNeg)]) (st := []) b (k_X10_withLetter hrw S3 x4 ((ar S3.1 0) x6.toNatClampNeg) _ h) cf_X10_withLetter wm_X10_45 ws_X10_withLetter dX10_readWord_37 rfl (Nat.le_of_ble_eq_true rfl) ⟨by decide, by decide, Nat.le_of_ble_eq_true rfl, Nat.le_of_ble_eq_true rfl⟩) (fun r5 S6 h => ?_)
        refine z_lstore (lv' := [(4, .long r5), (0, .ref (a 27)), (1, .ref (a 1)), (2, .int x2), (3, .int x3), (6, .int x6)]) b dX10_readWord_40 (by decide) rfl ?_
        refine z_lv0 (lv' := [(0, .ref (a 27)), (1, .ref (a 1)), (2, .int x2), (3, .int x3), (4, .long r5), (6, .int x6)]) [1, 2, 3, 4, 0, 5] rfl ?_
        exact z_X10_readWord_B42 hrw b hk6 hk48 _ _ _ _ _ h

set_option maxHeartbeats 4000000 in
set_option maxRecDepth 100000 in
theorem zl_X10_readWord_L6 {p : Program} {l : Launch} {e : Env} {R : Room} {s : State} {m : MethodId} {args : Array Value} {below : List Frame} {meth : Method} {c : Code} {D : va_G} {cy : Nat → ClassId} {T0 tB tE : Nat} {A : Nat → Prop} {a : Nat → Nat} {rw : Nat → Option Nat} (hrw : ∀ i, i < 6 → rw i = some (a (12 + 2 * i))) {post : Int32 → KS → Prop} {k48 : KS → Int32 → Int64 → Int32 → Prop} (b : Bz p R s m args meth c D cy T0 tB tE A 7 cX10_readWord RX10 (some .int) "readWord" 1 24 0 0) (hk48 : ∀ (S : KS) (x2 : Int32) (x4 : Int64) (x6 : Int32), k48 S x2 x4 x6 → Z p l e R s m args below meth c D A 7 (MQ below (QI D (U := KS) post (kw cy a rw) A) args s 0 0 A) 0 0 (kw cy a rw S) [(0, .ref (a 27)), (2, .int x2), (4, .long x4), (6, .int x6)] 48 []) : ∀ (n : Nat) (S : KS) (x2 : Int32) (x3 : Int32) (x4 : Int64) (x6 : Int32), lpn (w_X10_readWord_F6 cy tE post k48) (fun _ _ _ _ _ => False) n S x2 x3 x4 x6 → Z p l e R s m args below meth c D A 7 (MQ below (QI D (U := KS) post (kw cy a rw) A) args s 0 0 A) 0 0 (kw cy a rw S) [(0, .ref (a 27)), (1, .ref (a 1)), (2, .int x2), (3, .int x3), (4, .long x4), (6, .int x6)] 6 [] := by
  intro n
  induction n with
  | zero => intro _ _ _ _ _ h; exact h.elim
  | succ n ih => intro S x2 x3 x4 x6 h; exact z_X10_readWord_F6 hrw b hk48 ih S x2 x3 x4 x6 h

def w_X10_readWord_B48 (cy : Nat → ClassId) (tE : Nat) (post : Int32 → KS → Prop) (S : KS) (x2 : Int32) (x4 : Int64) (x6 : Int32) : Prop :=
  w_X10_kindOfWord cy tE S x4 (x6 - x2) (fun r7 S8 => w_X10_add cy tE S8 r7 x2 x4 (fun S10 => post x6 S10))

set_option maxHeartbeats 4000000 in
set_option maxRecDepth 100000 in
theorem z_X10_readWord_B48 {p : Program} {l : Launch} {e : Env} {R : Room} {s : State} {m : MethodId} {args : Array Value} {below : List Frame} {meth : Method} {c : Code} {D : va_G} {cy : Nat → ClassId} {T0 tB tE : Nat} {A : Nat → Prop} {a : Nat → Nat} {rw : Nat → Option Nat} (hrw : ∀ i, i < 6 → rw i = some (a (12 + 2 * i))) {post : Int32 → KS → Prop} (b : Bz p R s m args meth c D cy T0 tB tE A 7 cX10_readWord RX10 (some .int) "readWord" 1 24 0 0) (S : KS) (x2 : Int32) (x4 : Int64) (x6 : Int32) (h : w_X10_readWord_B48 cy tE post S x2 x4 x6) : Z p l e R s m args below meth c D A 7 (MQ below (QI D (U := KS) post (kw cy a rw) A) args s 0 0 A) 0 0 (kw cy a rw S) [(0, .ref (a 27)), (2, .int x2), (4, .long x4), (6, .int x6)] 48 [] := by
  unfold w_X10_readWord_B48 at h
  refine z_aload_n b dX10_readWord_48 rfl rfl ?_
  refine z_aload_n b dX10_readWord_49 rfl rfl ?_
  refine z_lload b dX10_readWord_50 rfl ?_
  refine z_iload b dX10_readWord_52 rfl ?_
  refine z_iload_n b dX10_readWord_54 rfl rfl ?_
  refine z_isub b dX10_readWord_55 rfl ?_
  refine z_calli b (z_runV (q0 := 27) (As := [.long x4, .int (x6 - x2)]) (st := [.ref (a 27)]) b (k_X10_kindOfWord hrw S x4 (x6 - x2) _ h) cf_X10_kindOfWord (kw_27 cy a rw S) rfl wm_X10_75 wi_X10_kindOfWord ws_X10_kindOfWord dX10_readWord_56 rfl (Nat.le_of_ble_eq_true rfl) ⟨by decide, by decide, Nat.le_of_ble_eq_true rfl, Nat.le_of_ble_eq_true rfl⟩) (fun r7 S8 h => ?_)
  refine z_iload_n b dX10_readWord_59 rfl rfl ?_
  refine z_lload b dX10_readWord_60 rfl ?_
  refine z_callv b (z_runV (q0 := 27) (As := [.int r7, .int x2, .long x4]) (st := []) b (k_X10_add hrw S8 r7 x2 x4 _ h) cf_X10_add (kw_27 cy a rw S8) rfl wm_X10_71 wi_X10_add ws_X10_add dX10_readWord_62 rfl (Nat.le_of_ble_eq_true rfl) ⟨by decide, by decide, Nat.le_of_ble_eq_true rfl, Nat.le_of_ble_eq_true rfl⟩) (fun S10 h => ?_)
  refine z_iload b dX10_readWord_65 rfl ?_
  exact z_iret (u := S10) b rfl dX10_readWord_67 h rfl (by decide) (by decide)

def w_X10_readWord (cy : Nat → ClassId) (tE : Nat) (S : KS) (p1 : Int32) (p2 : Int32) (post : Int32 → KS → Prop) : Prop :=
  ∃ n, lpn (w_X10_readWord_F6 cy tE post (w_X10_readWord_B48 cy tE post)) (fun _ _ _ _ _ => False) n S p1 p2 0 p1

set_option maxHeartbeats 4000000 in
set_option maxRecDepth 100000 in
theorem k_X10_readWord {l : Launch} {D : va_G} {cy : Nat → ClassId} {T0 tB tE : Nat} {a : Nat → Nat} {rw : Nat → Option Nat} (hrw : ∀ i, i < 6 → rw i = some (a (12 + 2 * i))) (S : KS) (p1 : Int32) (p2 : Int32) (post : Int32 → KS → Prop) (h : w_X10_readWord cy tE S p1 p2 post) : Ct l D cy T0 tB tE yX10_readWord cX10_readWord 7 (some .int) 1 24 0 0 (kw cy a rw S) [.ref (a 27), .ref (a 1), .int p1, .int p2] (QI D (U := KS) post (kw cy a rw)) := by
  refine Ct.ofZ RX10 "readWord" [(0, .ref (a 27)), (1, .ref (a 1)), (2, .int p1), (3, .int p2)] rfl rfl rfl rfl (Nat.le_of_ble_eq_true rfl) ?_
  intro p e R s m args below meth c A b
  unfold w_X10_readWord at h
  refine z_lconst (v := 0) b dX10_readWord_0 (by decide) ?_
  refine z_lstore (lv' := [(4, .long 0), (0, .ref (a 27)), (1, .ref (a 1)), (2, .int p1), (3, .int p2)]) b dX10_readWord_1 (by decide) rfl ?_
  refine z_iload_n b dX10_readWord_3 rfl rfl ?_
  refine z_istore (lv' := [(6, .int p1), (4, .long 0), (0, .ref (a 27)), (1, .ref (a 1)), (2, .int p1), (3, .int p2)]) b dX10_readWord_4 (by decide) rfl ?_
  refine z_lv0 (lv' := [(0, .ref (a 27)), (1, .ref (a 1)), (2, .int p1), (3, .int p2), (4, .long 0), (6, .int p1)]) [2, 3, 4, 5, 1, 0] rfl ?_
  obtain ⟨n, h⟩ := h
  exact zl_X10_readWord_L6 hrw b (fun S x2 x4 x6 h => z_X10_readWord_B48 hrw b _ _ _ _ h) n _ _ _ _ _ h

def w_X10_readNumber_F6 (cy : Nat → ClassId) (tE : Nat) (post : Int32 → KS → Prop) (k43 : KS → Int32 → Int32 → Int32 → Prop) (k6 : KS → Int32 → Int32 → Int32 → Int32 → Prop) (S : KS) (x2 : Int32) (x3 : Int32) (x4 : Int32) (x5 : Int32) : Prop :=
  ((x3.toInt ≤ x5.toInt → k43 S x2 x4 x5) ∧ (x5.toInt < x3.toInt → (0 ≤ x5.toInt ∧ x5.toInt < 700) ∧ w_X10_isDigit cy tE S ((ar S.1 0) x5.toNatClampNeg) (fun r2 S3 => ((r2.toInt = 0 → k43 S3 x2 x4 x5) ∧ (r2.toInt ≠ 0 → (0 ≤ x5.toInt ∧ x5.toInt < 700) ∧ k6 S3 x2 x3 ((((10 : Int32) * x4) + ((ar S3.1 0) x5.toNatClampNeg)) - 48) (x5 + 1))))))

set_option maxHeartbeats 4000000 in
set_option maxRecDepth 100000 in
theorem z_X10_readNumber_F6 {p : Program} {l : Launch} {e : Env} {R : Room} {s : State} {m : MethodId} {args : Array Value} {below : List Frame} {meth : Method} {c : Code} {D : va_G} {cy : Nat → ClassId} {T0 tB tE : Nat} {A : Nat → Prop} {a : Nat → Nat} {rw : Nat → Option Nat} (hrw : ∀ i, i < 6 → rw i = some (a (12 + 2 * i))) {post : Int32 → KS → Prop} {k43 : KS → Int32 → Int32 → Int32 → Prop} {k6 : KS → Int32 → Int32 → Int32 → Int32 → Prop} (b : Bz p R s m args meth c D cy T0 tB tE A 6 cX10_readNumber RX10 (some .int) "readNumber" 1 24 0 0) (hk43 : ∀ (S : KS) (x2 : Int32) (x4 : Int32) (x5 : Int32), k43 S x2 x4 x5 → Z p l e R s m args below meth c D A 6 (MQ below (QI D (U := KS) post (kw cy a rw) A) args s 0 0 A) 0 0 (kw cy a rw S) [(0, .ref (a 27)), (2, .int x2), (4, .int x4), (5, .int x5)] 43 []) (hk6 : ∀ (S : KS) (x2 : Int32) (x3 : Int32) (x4 : Int32) (x5 : Int32), k6 S x2 x3 x4 x5 → Z p l e R s m args below meth c D A 6 (MQ below (QI D (U := KS) post (kw cy a rw) A) args s 0 0 A) 0 0 (kw cy a rw S) [(0, .ref (a 27)), (1, .ref (a 1)), (2, .int x2), (3, .int x3), (4, .int x4), (5, .int x5)] 6 []) (S : KS) (x2 : Int32) (x3 : Int32) (x4 : Int32) (x5 : Int32) (h : w_X10_readNumber_F6 cy tE post k43 k6 S x2 x3 x4 x5) : Z p l e R s m args below meth c D A 6 (MQ below (QI D (U := KS) post (kw cy a rw) A) args s 0 0 A) 0 0 (kw cy a rw S) [(0, .ref (a 27)), (1, .ref (a 1)), (2, .int x2), (3, .int x3), (4, .int x4), (5, .int x5)] 6 [] := by
  unfold w_X10_readNumber_F6 at h
  refine z_iload b dX10_readNumber_6 rfl ?_
  refine z_iload_n b dX10_readNumber_8 rfl rfl ?_
  refine y_icmp_ge (tgt := 43) (xl := x5.toInt) (yl := x3.toInt) b rfl rfl dX10_readNumber_9 (by decide) (fun c1 => ?_) (fun c1 => ?_)
  · replace h := h.1 c1
    refine z_lv0 (lv' := [(0, .ref (a 27)), (2, .int x2), (4, .int x4), (5, .int x5)]) [0, 2, 4, 5] rfl ?_
    exact hk43 _ _ _ _ h
  · replace h := h.2 c1
    refine z_aload_n b dX10_readNumber_12 rfl rfl ?_
    refine z_iload b dX10_readNumber_13 rfl ?_
    obtain ⟨g1, h⟩ := h
    refine y_iald (q0 := 1) (j := x5.toNatClampNeg) (v := ((ar S.1 0) x5.toNatClampNeg)) b (kw_1 cy a rw S) (zx_r g1.1 g1.2) rfl dX10_readNumber_15 ?_
    refine z_calli b (z_runS (As := [.int ((ar S.1 0) x5.toNatClampNeg)]) (st := []) b (k_X10_isDigit hrw S ((ar S.1 0) x5.toNatClampNeg) _ h) cf_X10_isDigit wm_X10_59 ws_X10_isDigit dX10_readNumber_16 rfl (Nat.le_of_ble_eq_true rfl) ⟨by decide, by decide, Nat.le_of_ble_eq_true rfl, Nat.le_of_ble_eq_true rfl⟩) (fun r2 S3 h => ?_)
    refine y_if_eq (tgt := 43) (xl := r2.toInt) b rfl dX10_readNumber_19 (by decide) (fun c1 => ?_) (fun c1 => ?_)
    · replace h := h.1 c1
      refine z_lv0 (lv' := [(0, .ref (a 27)), (2, .int x2), (4, .int x4), (5, .int x5)]) [0, 2, 4, 5] rfl ?_
      exact hk43 _ _ _ _ h
    · replace h := h.2 c1
      refine z_bipush (v := 10) b dX10_readNumber_22 (by decide) ?_
      refine z_iload b dX10_readNumber_24 rfl ?_
      refine z_imul b dX10_readNumber_26 rfl ?_
      refine z_aload_n b dX10_readNumber_27 rfl rfl ?_
      refine z_iload b dX10_readNumber_28 rfl ?_
      obtain ⟨g4, h⟩ := h
      refine y_iald (q0 := 1) (j := x5.toNatClampNeg) (v := ((ar S3.1 0) x5.toNatClampNeg)) b (kw_1 cy a rw S3) (zx_r g4.1 g4.2) rfl dX10_readNumber_30 ?_
      refine z_iadd b dX10_readNumber_31 rfl ?_
      refine z_bipush (v := 48) b dX10_readNumber_32 (by decide) ?_
      refine z_isub b dX10_readNumber_34 rfl ?_
      refine z_istore (lv' := [(4, .int ((((10 : Int32) * x4) + ((ar S3.1 0) x5.toNatClampNeg)) - 48)), (0, .ref (a 27)), (1, .ref (a 1)), (2, .int x2), (3, .int x3), (5, .int x5)]) b dX10_readNumber_35 (by decide) rfl ?_
      refine z_iinc (k9 := 5) (v := (x5 + 1)) (lv' := [(5, .int (x5 + 1)), (4, .int ((((10 : Int32) * x4) + ((ar S3.1 0) x5.toNatClampNeg)) - 48)), (0, .ref (a 27)), (1, .ref (a 1)), (2, .int x2), (3, .int x3)]) b dX10_readNumber_37 rfl rfl (by decide) rfl ?_
      refine z_goto (tgt := 6) b dX10_readNumber_40 (by decide) ?_
      refine z_lv0 (lv' := [(0, .ref (a 27)), (1, .ref (a 1)), (2, .int x2), (3, .int x3), (4, .int ((((10 : Int32) * x4) + ((ar S3.1 0) x5.toNatClampNeg)) - 48)), (5, .int (x5 + 1))]) [2, 3, 4, 5, 1, 0] rfl ?_
      exact hk6 _ _ _ _ _ h

set_option maxHeartbeats 4000000 in
set_option maxRecDepth 100000 in
theorem zl_X10_readNumber_L6 {p : Program} {l : Launch} {e : Env} {R : Room} {s : State} {m : MethodId} {args : Array Value} {below : List Frame} {meth : Method} {c : Code} {D : va_G} {cy : Nat → ClassId} {T0 tB tE : Nat} {A : Nat → Prop} {a : Nat → Nat} {rw : Nat → Option Nat} (hrw : ∀ i, i < 6 → rw i = some (a (12 + 2 * i))) {post : Int32 → KS → Prop} {k43 : KS → Int32 → Int32 → Int32 → Prop} (b : Bz p R s m args meth c D cy T0 tB tE A 6 cX10_readNumber RX10 (some .int) "readNumber" 1 24 0 0) (hk43 : ∀ (S : KS) (x2 : Int32) (x4 : Int32) (x5 : Int32), k43 S x2 x4 x5 → Z p l e R s m args below meth c D A 6 (MQ below (QI D (U := KS) post (kw cy a rw) A) args s 0 0 A) 0 0 (kw cy a rw S) [(0, .ref (a 27)), (2, .int x2), (4, .int x4), (5, .int x5)] 43 []) : ∀ (n : Nat) (S : KS) (x2 : Int32) (x3 : Int32) (x4 : Int32) (x5 : Int32), lpn (w_X10_readNumber_F6 cy tE post k43) (fun _ _ _ _ _ => False) n S x2 x3 x4 x5 → Z p l e R s m args below meth c D A 6 (MQ below (QI D (U := KS) post (kw cy a rw) A) args s 0 0 A) 0 0 (kw cy a rw S) [(0, .ref (a 27)), (1, .ref (a 1)), (2, .int x2), (3, .int x3), (4, .int x4), (5, .int x5)] 6 [] := by
  intro n
  induction n with
  | zero => intro _ _ _ _ _ h; exact h.elim
  | succ n ih => intro S x2 x3 x4 x5 h; exact z_X10_readNumber_F6 hrw b hk43 ih S x2 x3 x4 x5 h

def w_X10_readNumber_B57 (cy : Nat → ClassId) (tE : Nat) (post : Int32 → KS → Prop) (S : KS) (x2 : Int32) (x4 : Int32) (x5 : Int32) (y0 : Int32) : Prop :=
  w_X10_add cy tE S y0 x2 ((x4 : Int32).toInt64) (fun S6 => post x5 S6)

set_option maxHeartbeats 4000000 in
set_option maxRecDepth 100000 in
theorem z_X10_readNumber_B57 {p : Program} {l : Launch} {e : Env} {R : Room} {s : State} {m : MethodId} {args : Array Value} {below : List Frame} {meth : Method} {c : Code} {D : va_G} {cy : Nat → ClassId} {T0 tB tE : Nat} {A : Nat → Prop} {a : Nat → Nat} {rw : Nat → Option Nat} (hrw : ∀ i, i < 6 → rw i = some (a (12 + 2 * i))) {post : Int32 → KS → Prop} (b : Bz p R s m args meth c D cy T0 tB tE A 6 cX10_readNumber RX10 (some .int) "readNumber" 1 24 0 0) (S : KS) (x2 : Int32) (x4 : Int32) (x5 : Int32) (y0 : Int32) (h : w_X10_readNumber_B57 cy tE post S x2 x4 x5 y0) : Z p l e R s m args below meth c D A 6 (MQ below (QI D (U := KS) post (kw cy a rw) A) args s 0 0 A) 0 0 (kw cy a rw S) [(2, .int x2), (4, .int x4), (5, .int x5)] 57 [.int y0, .ref (a 27)] := by
  unfold w_X10_readNumber_B57 at h
  refine z_iload_n b dX10_readNumber_57 rfl rfl ?_
  refine z_iload b dX10_readNumber_58 rfl ?_
  refine z_i2l b dX10_readNumber_60 rfl ?_
  refine z_callv b (z_runV (q0 := 27) (As := [.int y0, .int x2, .long (x4 : Int32).toInt64]) (st := []) b (k_X10_add hrw S y0 x2 ((x4 : Int32).toInt64) _ h) cf_X10_add (kw_27 cy a rw S) rfl wm_X10_71 wi_X10_add ws_X10_add dX10_readNumber_61 rfl (Nat.le_of_ble_eq_true rfl) ⟨by decide, by decide, Nat.le_of_ble_eq_true rfl, Nat.le_of_ble_eq_true rfl⟩) (fun S6 h => ?_)
  refine z_iload b dX10_readNumber_64 rfl ?_
  exact z_iret (u := S6) b rfl dX10_readNumber_66 h rfl (by decide) (by decide)

def w_X10_readNumber_B43 (cy : Nat → ClassId) (tE : Nat) (post : Int32 → KS → Prop) (S : KS) (x2 : Int32) (x4 : Int32) (x5 : Int32) : Prop :=
  ((3 < (x5 - x2).toInt → w_X10_readNumber_B57 cy tE post S x2 x4 x5 1) ∧ ((x5 - x2).toInt ≤ 3 → w_X10_readNumber_B57 cy tE post S x2 x4 x5 2))

set_option maxHeartbeats 4000000 in
set_option maxRecDepth 100000 in
theorem z_X10_readNumber_B43 {p : Program} {l : Launch} {e : Env} {R : Room} {s : State} {m : MethodId} {args : Array Value} {below : List Frame} {meth : Method} {c : Code} {D : va_G} {cy : Nat → ClassId} {T0 tB tE : Nat} {A : Nat → Prop} {a : Nat → Nat} {rw : Nat → Option Nat} (hrw : ∀ i, i < 6 → rw i = some (a (12 + 2 * i))) {post : Int32 → KS → Prop} (b : Bz p R s m args meth c D cy T0 tB tE A 6 cX10_readNumber RX10 (some .int) "readNumber" 1 24 0 0) (S : KS) (x2 : Int32) (x4 : Int32) (x5 : Int32) (h : w_X10_readNumber_B43 cy tE post S x2 x4 x5) : Z p l e R s m args below meth c D A 6 (MQ below (QI D (U := KS) post (kw cy a rw) A) args s 0 0 A) 0 0 (kw cy a rw S) [(0, .ref (a 27)), (2, .int x2), (4, .int x4), (5, .int x5)] 43 [] := by
  unfold w_X10_readNumber_B43 at h
  refine z_aload_n b dX10_readNumber_43 rfl rfl ?_
  refine z_iload b dX10_readNumber_44 rfl ?_
  refine z_iload_n b dX10_readNumber_46 rfl rfl ?_
  refine z_isub b dX10_readNumber_47 rfl ?_
  refine z_iconst (v := 3) b dX10_readNumber_48 (by decide) ?_
  refine y_icmp_gt (tgt := 56) (xl := (x5 - x2).toInt) (yl := 3) b rfl (by decide) dX10_readNumber_49 (by decide) (fun c1 => ?_) (fun c1 => ?_)
  · replace h := h.1 c1
    refine z_iconst (v := 1) b dX10_readNumber_56 (by decide) ?_
    refine z_lv0 (lv' := [(2, .int x2), (4, .int x4), (5, .int x5)]) [1, 2, 3] rfl ?_
    exact z_X10_readNumber_B57 hrw b _ _ _ _ _ h
  · replace h := h.2 c1
    refine z_iconst (v := 2) b dX10_readNumber_52 (by decide) ?_
    refine z_goto (tgt := 57) b dX10_readNumber_53 (by decide) ?_
    refine z_lv0 (lv' := [(2, .int x2), (4, .int x4), (5, .int x5)]) [1, 2, 3] rfl ?_
    exact z_X10_readNumber_B57 hrw b _ _ _ _ _ h

def w_X10_readNumber (cy : Nat → ClassId) (tE : Nat) (S : KS) (p1 : Int32) (p2 : Int32) (post : Int32 → KS → Prop) : Prop :=
  ∃ n, lpn (w_X10_readNumber_F6 cy tE post (w_X10_readNumber_B43 cy tE post)) (fun _ _ _ _ _ => False) n S p1 p2 0 p1

set_option maxHeartbeats 4000000 in
set_option maxRecDepth 100000 in
theorem k_X10_readNumber {l : Launch} {D : va_G} {cy : Nat → ClassId} {T0 tB tE : Nat} {a : Nat → Nat} {rw : Nat → Option Nat} (hrw : ∀ i, i < 6 → rw i = some (a (12 + 2 * i))) (S : KS) (p1 : Int32) (p2 : Int32) (post : Int32 → KS → Prop) (h : w_X10_readNumber cy tE S p1 p2 post) : Ct l D cy T0 tB tE yX10_readNumber cX10_readNumber 6 (some .int) 1 24 0 0 (kw cy a rw S) [.ref (a 27), .ref (a 1), .int p1, .int p2] (QI D (U := KS) post (kw cy a rw)) := by
  refine Ct.ofZ RX10 "readNumber" [(0, .ref (a 27)), (1, .ref (a 1)), (2, .int p1), (3, .int p2)] rfl rfl rfl rfl (Nat.le_of_ble_eq_true rfl) ?_
  intro p e R s m args below meth c A b
  unfold w_X10_readNumber at h
  refine z_iconst (v := 0) b dX10_readNumber_0 (by decide) ?_
  refine z_istore (lv' := [(4, .int 0), (0, .ref (a 27)), (1, .ref (a 1)), (2, .int p1), (3, .int p2)]) b dX10_readNumber_1 (by decide) rfl ?_
  refine z_iload_n b dX10_readNumber_3 rfl rfl ?_
  refine z_istore (lv' := [(5, .int p1), (4, .int 0), (0, .ref (a 27)), (1, .ref (a 1)), (2, .int p1), (3, .int p2)]) b dX10_readNumber_4 (by decide) rfl ?_
  refine z_lv0 (lv' := [(0, .ref (a 27)), (1, .ref (a 1)), (2, .int p1), (3, .int p2), (4, .int 0), (5, .int p1)]) [2, 3, 4, 5, 1, 0] rfl ?_
  obtain ⟨n, h⟩ := h
  exact zl_X10_readNumber_L6 hrw b (fun S x2 x4 x5 h => z_X10_readNumber_B43 hrw b _ _ _ _ h) n _ _ _ _ _ h

def w_X5_readAmount_B78 (cy : Nat → ClassId) (tE : Nat) (post : Int32 → KS → Prop) (S : KS)  : Prop :=
  post 1 S

set_option maxHeartbeats 4000000 in
set_option maxRecDepth 100000 in
theorem z_X5_readAmount_B78 {p : Program} {l : Launch} {e : Env} {R : Room} {s : State} {m : MethodId} {args : Array Value} {below : List Frame} {meth : Method} {c : Code} {D : va_G} {cy : Nat → ClassId} {T0 tB tE : Nat} {A : Nat → Prop} {a : Nat → Nat} {rw : Nat → Option Nat} (hrw : ∀ i, i < 6 → rw i = some (a (12 + 2 * i))) {post : Int32 → KS → Prop} (b : Bz p R s m args meth c D cy T0 tB tE A 3 cX5_readAmount RX5 (some .boolean) "readAmount" 4 88 0 0) (S : KS)  (h : w_X5_readAmount_B78 cy tE post S ) : Z p l e R s m args below meth c D A 3 (MQ below (QI D (U := KS) post (kw cy a rw) A) args s 0 0 A) 0 0 (kw cy a rw S) [] 78 [] := by
  unfold w_X5_readAmount_B78 at h
  refine z_iconst (v := 1) b dX5_readAmount_78 (by decide) ?_
  exact z_zret (u := S) b rfl (by decide) dX5_readAmount_79 h rfl (by decide) (by decide)

def w_X5_readAmount_B58 (cy : Nat → ClassId) (tE : Nat) (post : Int32 → KS → Prop) (S : KS) (x2 : Int32) : Prop :=
  w_X5_readSum cy tE S (fun r3 S4 => ((r3.toInt ≠ 0 → ((x2.toInt = 0 → w_X5_readAmount_B78 cy tE post S4) ∧ (x2.toInt ≠ 0 → w_X5_emit cy tE S4 25 0 (fun S6 => w_X5_readAmount_B78 cy tE post S6)))) ∧ (r3.toInt = 0 → post 0 S4)))

set_option maxHeartbeats 4000000 in
set_option maxRecDepth 100000 in
theorem z_X5_readAmount_B58 {p : Program} {l : Launch} {e : Env} {R : Room} {s : State} {m : MethodId} {args : Array Value} {below : List Frame} {meth : Method} {c : Code} {D : va_G} {cy : Nat → ClassId} {T0 tB tE : Nat} {A : Nat → Prop} {a : Nat → Nat} {rw : Nat → Option Nat} (hrw : ∀ i, i < 6 → rw i = some (a (12 + 2 * i))) {post : Int32 → KS → Prop} (b : Bz p R s m args meth c D cy T0 tB tE A 3 cX5_readAmount RX5 (some .boolean) "readAmount" 4 88 0 0) (S : KS) (x2 : Int32) (h : w_X5_readAmount_B58 cy tE post S x2) : Z p l e R s m args below meth c D A 3 (MQ below (QI D (U := KS) post (kw cy a rw) A) args s 0 0 A) 0 0 (kw cy a rw S) [(0, .ref (a 26)), (2, .int x2)] 58 [] := by
  unfold w_X5_readAmount_B58 at h
  refine z_aload_n b dX5_readAmount_58 rfl rfl ?_
  refine z_calli b (z_runV (q0 := 26) (As := []) (st := []) b (k_X5_readSum hrw S _ h) cf_X5_readSum (kw_26 cy a rw S) rfl wm_X5_151 wi_X5_readSum ws_X5_readSum dX5_readAmount_59 rfl (Nat.le_of_ble_eq_true rfl) ⟨by decide, by decide, Nat.le_of_ble_eq_true rfl, Nat.le_of_ble_eq_true rfl⟩) (fun r3 S4 h => ?_)
  refine y_if_ne (tgt := 67) (xl := r3.toInt) b rfl dX5_readAmount_62 (by decide) (fun c1 => ?_) (fun c1 => ?_)
  · replace h := h.1 c1
    refine z_iload_n b dX5_readAmount_67 rfl rfl ?_
    refine y_if_eq (tgt := 78) (xl := x2.toInt) b rfl dX5_readAmount_68 (by decide) (fun c1 => ?_) (fun c1 => ?_)
    · replace h := h.1 c1
      refine z_lv0 (lv' := []) [] rfl ?_
      exact z_X5_readAmount_B78 hrw b _ h
    · replace h := h.2 c1
      refine z_aload_n b dX5_readAmount_71 rfl rfl ?_
      refine z_bipush (v := 25) b dX5_readAmount_72 (by decide) ?_
      refine z_iconst (v := 0) b dX5_readAmount_74 (by decide) ?_
      refine z_callv b (z_runV (q0 := 26) (As := [.int 25, .int 0]) (st := []) b (k_X5_emit hrw S4 25 0 _ h) cf_X5_emit (kw_26 cy a rw S4) rfl wm_X5_147 wi_X5_emit ws_X5_emit dX5_readAmount_75 rfl (Nat.le_of_ble_eq_true rfl) ⟨by decide, by decide, Nat.le_of_ble_eq_true rfl, Nat.le_of_ble_eq_true rfl⟩) (fun S6 h => ?_)
      refine z_lv0 (lv' := []) [] rfl ?_
      exact z_X5_readAmount_B78 hrw b _ h
  · replace h := h.2 c1
    refine z_iconst (v := 0) b dX5_readAmount_65 (by decide) ?_
    exact z_zret (u := S4) b rfl (by decide) dX5_readAmount_66 h rfl (by decide) (by decide)

def w_X5_readAmount_B38 (cy : Nat → ClassId) (tE : Nat) (post : Int32 → KS → Prop) (S : KS) (x2 : Int32) : Prop :=
  ((x2.toInt = 0 → w_X5_readAmount_B58 cy tE post (ksi S 15 ((fi S.1 15) + 1)) x2) ∧ (x2.toInt ≠ 0 → w_X5_emit cy tE (ksi S 15 ((fi S.1 15) + 1)) 2 0 (fun S8 => w_X5_readAmount_B58 cy tE post S8 x2)))

set_option maxHeartbeats 4000000 in
set_option maxRecDepth 100000 in
theorem z_X5_readAmount_B38 {p : Program} {l : Launch} {e : Env} {R : Room} {s : State} {m : MethodId} {args : Array Value} {below : List Frame} {meth : Method} {c : Code} {D : va_G} {cy : Nat → ClassId} {T0 tB tE : Nat} {A : Nat → Prop} {a : Nat → Nat} {rw : Nat → Option Nat} (hrw : ∀ i, i < 6 → rw i = some (a (12 + 2 * i))) {post : Int32 → KS → Prop} (b : Bz p R s m args meth c D cy T0 tB tE A 3 cX5_readAmount RX5 (some .boolean) "readAmount" 4 88 0 0) (S : KS) (x2 : Int32) (h : w_X5_readAmount_B38 cy tE post S x2) : Z p l e R s m args below meth c D A 3 (MQ below (QI D (U := KS) post (kw cy a rw) A) args s 0 0 A) 0 0 (kw cy a rw S) [(0, .ref (a 26)), (2, .int x2)] 38 [] := by
  unfold w_X5_readAmount_B38 at h
  refine z_aload_n b dX5_readAmount_38 rfl rfl ?_
  refine z_dup b dX5_readAmount_39 rfl ?_
  refine z_get (q0 := 26) (k9 := 1) (v := .int (fi S.1 15)) b (kw_26 cy a rw S) rfl in_X5 (by decide) wf_X5_18 rfl dX5_readAmount_40 ?_
  refine z_iconst (v := 1) b dX5_readAmount_43 (by decide) ?_
  refine z_iadd b dX5_readAmount_44 rfl ?_
  refine z_put (q0 := 26) (k9 := 1) tyX5 b (kw_26 cy a rw S) rfl in_X5 tyX5_ok nmX5 (by decide) wf_X5_18 rfl rfl rfl rfl (Nat.le_of_ble_eq_true rfl) dX5_readAmount_45 (kwp_26_1 cy a rw S ((fi S.1 15) + 1)) ?_
  refine z_iload_n b dX5_readAmount_48 rfl rfl ?_
  refine y_if_eq (tgt := 58) (xl := x2.toInt) b rfl dX5_readAmount_49 (by decide) (fun c1 => ?_) (fun c1 => ?_)
  · replace h := h.1 c1
    exact z_X5_readAmount_B58 hrw b _ _ h
  · replace h := h.2 c1
    refine z_aload_n b dX5_readAmount_52 rfl rfl ?_
    refine z_iconst (v := 2) b dX5_readAmount_53 (by decide) ?_
    refine z_iconst (v := 0) b dX5_readAmount_54 (by decide) ?_
    refine z_callv b (z_runV (q0 := 26) (As := [.int 2, .int 0]) (st := []) b (k_X5_emit hrw (ksi S 15 ((fi S.1 15) + 1)) 2 0 _ h) cf_X5_emit (kw_26 cy a rw (ksi S 15 ((fi S.1 15) + 1))) rfl wm_X5_147 wi_X5_emit ws_X5_emit dX5_readAmount_55 rfl (Nat.le_of_ble_eq_true rfl) ⟨by decide, by decide, Nat.le_of_ble_eq_true rfl, Nat.le_of_ble_eq_true rfl⟩) (fun S8 h => ?_)
    exact z_X5_readAmount_B58 hrw b _ _ h

def w_X5_readAmount_B18 (cy : Nat → ClassId) (tE : Nat) (post : Int32 → KS → Prop) (S : KS) (y0 : Int32) : Prop :=
  w_X5_kind cy tE S (fun r1 S2 => ((r1.toInt = 24 → w_X5_readAmount_B38 cy tE post S2 y0) ∧ (r1.toInt ≠ 24 → ((y0.toInt ≠ 0 → w_X5_readAmount_B38 cy tE post S2 y0) ∧ (y0.toInt = 0 → w_X5_refuse cy tE S2 1 (fun r9 S10 => (r9 = 0 ∨ r9 = 1) ∧ post r9 S10))))))

set_option maxHeartbeats 4000000 in
set_option maxRecDepth 100000 in
theorem z_X5_readAmount_B18 {p : Program} {l : Launch} {e : Env} {R : Room} {s : State} {m : MethodId} {args : Array Value} {below : List Frame} {meth : Method} {c : Code} {D : va_G} {cy : Nat → ClassId} {T0 tB tE : Nat} {A : Nat → Prop} {a : Nat → Nat} {rw : Nat → Option Nat} (hrw : ∀ i, i < 6 → rw i = some (a (12 + 2 * i))) {post : Int32 → KS → Prop} (b : Bz p R s m args meth c D cy T0 tB tE A 3 cX5_readAmount RX5 (some .boolean) "readAmount" 4 88 0 0) (S : KS) (y0 : Int32) (h : w_X5_readAmount_B18 cy tE post S y0) : Z p l e R s m args below meth c D A 3 (MQ below (QI D (U := KS) post (kw cy a rw) A) args s 0 0 A) 0 0 (kw cy a rw S) [(0, .ref (a 26))] 18 [.int y0] := by
  unfold w_X5_readAmount_B18 at h
  refine z_istore_n (lv' := [(2, .int y0), (0, .ref (a 26))]) b dX5_readAmount_18 rfl (by decide) rfl ?_
  refine z_aload_n b dX5_readAmount_19 rfl rfl ?_
  refine z_calli b (z_runV (q0 := 26) (As := []) (st := []) b (k_X5_kind hrw S _ h) cf_X5_kind (kw_26 cy a rw S) rfl wm_X5_66 wi_X5_kind ws_X5_kind dX5_readAmount_20 rfl (Nat.le_of_ble_eq_true rfl) ⟨by decide, by decide, Nat.le_of_ble_eq_true rfl, Nat.le_of_ble_eq_true rfl⟩) (fun r1 S2 h => ?_)
  refine z_bipush (v := 24) b dX5_readAmount_23 (by decide) ?_
  refine y_icmp_eq (tgt := 38) (xl := r1.toInt) (yl := 24) b rfl (by decide) dX5_readAmount_25 (by decide) (fun c1 => ?_) (fun c1 => ?_)
  · replace h := h.1 c1
    refine z_lv0 (lv' := [(0, .ref (a 26)), (2, .int y0)]) [1, 0] rfl ?_
    exact z_X5_readAmount_B38 hrw b _ _ h
  · replace h := h.2 c1
    refine z_iload_n b dX5_readAmount_28 rfl rfl ?_
    refine y_if_ne (tgt := 38) (xl := y0.toInt) b rfl dX5_readAmount_29 (by decide) (fun c1 => ?_) (fun c1 => ?_)
    · replace h := h.1 c1
      refine z_lv0 (lv' := [(0, .ref (a 26)), (2, .int y0)]) [1, 0] rfl ?_
      exact z_X5_readAmount_B38 hrw b _ _ h
    · replace h := h.2 c1
      refine z_aload_n b dX5_readAmount_32 rfl rfl ?_
      refine z_iconst (v := 1) b dX5_readAmount_33 (by decide) ?_
      refine z_calli b (z_runV (q0 := 26) (As := [.int 1]) (st := []) b (k_X5_refuse hrw S2 1 _ h) cf_X5_refuse (kw_26 cy a rw S2) rfl wm_X5_70 wi_X5_refuse ws_X5_refuse dX5_readAmount_34 rfl (Nat.le_of_ble_eq_true rfl) ⟨by decide, by decide, Nat.le_of_ble_eq_true rfl, Nat.le_of_ble_eq_true rfl⟩) (fun r9 S10 h => ?_)
      obtain ⟨g11, h⟩ := h
      exact z_zret (u := S10) b rfl (z_bool g11) dX5_readAmount_37 h rfl (by decide) (by decide)

def w_X5_readAmount_B17 (cy : Nat → ClassId) (tE : Nat) (post : Int32 → KS → Prop) (S : KS)  : Prop :=
  w_X5_readAmount_B18 cy tE post S 0

set_option maxHeartbeats 4000000 in
set_option maxRecDepth 100000 in
theorem z_X5_readAmount_B17 {p : Program} {l : Launch} {e : Env} {R : Room} {s : State} {m : MethodId} {args : Array Value} {below : List Frame} {meth : Method} {c : Code} {D : va_G} {cy : Nat → ClassId} {T0 tB tE : Nat} {A : Nat → Prop} {a : Nat → Nat} {rw : Nat → Option Nat} (hrw : ∀ i, i < 6 → rw i = some (a (12 + 2 * i))) {post : Int32 → KS → Prop} (b : Bz p R s m args meth c D cy T0 tB tE A 3 cX5_readAmount RX5 (some .boolean) "readAmount" 4 88 0 0) (S : KS)  (h : w_X5_readAmount_B17 cy tE post S ) : Z p l e R s m args below meth c D A 3 (MQ below (QI D (U := KS) post (kw cy a rw) A) args s 0 0 A) 0 0 (kw cy a rw S) [(0, .ref (a 26))] 17 [] := by
  unfold w_X5_readAmount_B17 at h
  refine z_iconst (v := 0) b dX5_readAmount_17 (by decide) ?_
  exact z_X5_readAmount_B18 hrw b _ _ h

def w_X5_readAmount (cy : Nat → ClassId) (tE : Nat) (S : KS) (p0 : Int32) (post : Int32 → KS → Prop) : Prop :=
  ((p0.toInt = 0 → w_X5_readAmount_B17 cy tE post S) ∧ (p0.toInt ≠ 0 → w_X5_kind cy tE S (fun r12 S13 => ((r12.toInt ≠ 25 → w_X5_readAmount_B17 cy tE post S13) ∧ (r12.toInt = 25 → w_X5_readAmount_B18 cy tE post S13 1)))))

set_option maxHeartbeats 4000000 in
set_option maxRecDepth 100000 in
theorem k_X5_readAmount {l : Launch} {D : va_G} {cy : Nat → ClassId} {T0 tB tE : Nat} {a : Nat → Nat} {rw : Nat → Option Nat} (hrw : ∀ i, i < 6 → rw i = some (a (12 + 2 * i))) (S : KS) (p0 : Int32) (post : Int32 → KS → Prop) (h : w_X5_readAmount cy tE S p0 post) : Ct l D cy T0 tB tE yX5_readAmount cX5_readAmount 3 (some .boolean) 4 88 0 0 (kw cy a rw S) [.ref (a 26), .int p0] (QI D (U := KS) post (kw cy a rw)) := by
  refine Ct.ofZ RX5 "readAmount" [(0, .ref (a 26)), (1, .int p0)] rfl rfl rfl rfl (Nat.le_of_ble_eq_true rfl) ?_
  intro p e R s m args below meth c A b
  unfold w_X5_readAmount at h
  refine z_iload_n b dX5_readAmount_0 rfl rfl ?_
  refine y_if_eq (tgt := 17) (xl := p0.toInt) b rfl dX5_readAmount_1 (by decide) (fun c1 => ?_) (fun c1 => ?_)
  · replace h := h.1 c1
    refine z_lv0 (lv' := [(0, .ref (a 26))]) [0] rfl ?_
    exact z_X5_readAmount_B17 hrw b _ h
  · replace h := h.2 c1
    refine z_aload_n b dX5_readAmount_4 rfl rfl ?_
    refine z_calli b (z_runV (q0 := 26) (As := []) (st := []) b (k_X5_kind hrw S _ h) cf_X5_kind (kw_26 cy a rw S) rfl wm_X5_66 wi_X5_kind ws_X5_kind dX5_readAmount_5 rfl (Nat.le_of_ble_eq_true rfl) ⟨by decide, by decide, Nat.le_of_ble_eq_true rfl, Nat.le_of_ble_eq_true rfl⟩) (fun r12 S13 h => ?_)
    refine z_bipush (v := 25) b dX5_readAmount_8 (by decide) ?_
    refine y_icmp_ne (tgt := 17) (xl := r12.toInt) (yl := 25) b rfl (by decide) dX5_readAmount_10 (by decide) (fun c1 => ?_) (fun c1 => ?_)
    · replace h := h.1 c1
      refine z_lv0 (lv' := [(0, .ref (a 26))]) [0] rfl ?_
      exact z_X5_readAmount_B17 hrw b _ h
    · replace h := h.2 c1
      refine z_iconst (v := 1) b dX5_readAmount_13 (by decide) ?_
      refine z_goto (tgt := 18) b dX5_readAmount_14 (by decide) ?_
      refine z_lv0 (lv' := [(0, .ref (a 26))]) [0] rfl ?_
      exact z_X5_readAmount_B18 hrw b _ _ h

def w_X8_code_B13 (cy : Nat → ClassId) (tE : Nat) (post : Int32 → KS → Prop) (S : KS)  : Prop :=
  post (-1) S

set_option maxHeartbeats 4000000 in
set_option maxRecDepth 100000 in
theorem z_X8_code_B13 {p : Program} {l : Launch} {e : Env} {R : Room} {s : State} {m : MethodId} {args : Array Value} {below : List Frame} {meth : Method} {c : Code} {D : va_G} {cy : Nat → ClassId} {T0 tB tE : Nat} {A : Nat → Prop} {a : Nat → Nat} {rw : Nat → Option Nat} (hrw : ∀ i, i < 6 → rw i = some (a (12 + 2 * i))) {post : Int32 → KS → Prop} (b : Bz p R s m args meth c D cy T0 tB tE A 5 cX8_code RX8 (some .int) "code" 1 21 0 0) (S : KS)  (h : w_X8_code_B13 cy tE post S ) : Z p l e R s m args below meth c D A 5 (MQ below (QI D (U := KS) post (kw cy a rw) A) args s 0 0 A) 0 0 (kw cy a rw S) [] 13 [] := by
  unfold w_X8_code_B13 at h
  refine z_iconst (v := (-1)) b dX8_code_13 (by decide) ?_
  exact z_iret (u := S) b rfl dX8_code_14 h rfl (by decide) (by decide)

def w_X8_code_F28 (cy : Nat → ClassId) (tE : Nat) (post : Int32 → KS → Prop) (k58 : KS → Int32 → Prop) (k28 : KS → Int32 → Int32 → Prop) (S : KS) (x3 : Int32) (x4 : Int32) : Prop :=
  ((x4.toInt ≤ 0 → k58 S x3) ∧ (0 < x4.toInt → ((x3.toInt < 0 → k58 S x3) ∧ (0 ≤ x3.toInt → (((fi S.1 33).toInt ≤ x3.toInt → k58 S x3) ∧ (x3.toInt < (fi S.1 33).toInt → (0 ≤ x3.toInt ∧ x3.toInt < 400) ∧ k28 S ((ar S.1 18) x3.toNatClampNeg) (x4 + (-1))))))))

set_option maxHeartbeats 4000000 in
set_option maxRecDepth 100000 in
theorem z_X8_code_F28 {p : Program} {l : Launch} {e : Env} {R : Room} {s : State} {m : MethodId} {args : Array Value} {below : List Frame} {meth : Method} {c : Code} {D : va_G} {cy : Nat → ClassId} {T0 tB tE : Nat} {A : Nat → Prop} {a : Nat → Nat} {rw : Nat → Option Nat} (hrw : ∀ i, i < 6 → rw i = some (a (12 + 2 * i))) {post : Int32 → KS → Prop} {k58 : KS → Int32 → Prop} {k28 : KS → Int32 → Int32 → Prop} (b : Bz p R s m args meth c D cy T0 tB tE A 5 cX8_code RX8 (some .int) "code" 1 21 0 0) (hk58 : ∀ (S : KS) (x3 : Int32), k58 S x3 → Z p l e R s m args below meth c D A 5 (MQ below (QI D (U := KS) post (kw cy a rw) A) args s 0 0 A) 0 0 (kw cy a rw S) [(0, .ref (a 38)), (3, .int x3)] 58 []) (hk28 : ∀ (S : KS) (x3 : Int32) (x4 : Int32), k28 S x3 x4 → Z p l e R s m args below meth c D A 5 (MQ below (QI D (U := KS) post (kw cy a rw) A) args s 0 0 A) 0 0 (kw cy a rw S) [(0, .ref (a 38)), (3, .int x3), (4, .int x4)] 28 []) (S : KS) (x3 : Int32) (x4 : Int32) (h : w_X8_code_F28 cy tE post k58 k28 S x3 x4) : Z p l e R s m args below meth c D A 5 (MQ below (QI D (U := KS) post (kw cy a rw) A) args s 0 0 A) 0 0 (kw cy a rw S) [(0, .ref (a 38)), (3, .int x3), (4, .int x4)] 28 [] := by
  unfold w_X8_code_F28 at h
  refine z_iload b dX8_code_28 rfl ?_
  refine y_if_le (tgt := 58) (xl := x4.toInt) b rfl dX8_code_30 (by decide) (fun c1 => ?_) (fun c1 => ?_)
  · replace h := h.1 c1
    refine z_lv0 (lv' := [(0, .ref (a 38)), (3, .int x3)]) [0, 1] rfl ?_
    exact hk58 _ _ h
  · replace h := h.2 c1
    refine z_iload_n b dX8_code_33 rfl rfl ?_
    refine y_if_lt (tgt := 58) (xl := x3.toInt) b rfl dX8_code_34 (by decide) (fun c1 => ?_) (fun c1 => ?_)
    · replace h := h.1 c1
      refine z_lv0 (lv' := [(0, .ref (a 38)), (3, .int x3)]) [0, 1] rfl ?_
      exact hk58 _ _ h
    · replace h := h.2 c1
      refine z_iload_n b dX8_code_37 rfl rfl ?_
      refine z_aload_n b dX8_code_38 rfl rfl ?_
      refine z_get (q0 := 38) (k9 := 17) (v := .int (fi S.1 33)) b (kw_38 cy a rw S) rfl in_X8 (by decide) wf_X8_64 rfl dX8_code_39 ?_
      refine y_icmp_ge (tgt := 58) (xl := x3.toInt) (yl := (fi S.1 33).toInt) b rfl rfl dX8_code_42 (by decide) (fun c1 => ?_) (fun c1 => ?_)
      · replace h := h.1 c1
        refine z_lv0 (lv' := [(0, .ref (a 38)), (3, .int x3)]) [0, 1] rfl ?_
        exact hk58 _ _ h
      · replace h := h.2 c1
        refine z_aload_n b dX8_code_45 rfl rfl ?_
        refine z_get (q0 := 38) (k9 := 5) (v := .ref (a 41)) b (kw_38 cy a rw S) rfl in_X8 (by decide) wf_X8_26 rfl dX8_code_46 ?_
        refine z_iload_n b dX8_code_49 rfl rfl ?_
        obtain ⟨g5, h⟩ := h
        refine y_iald (q0 := 41) (j := x3.toNatClampNeg) (v := ((ar S.1 18) x3.toNatClampNeg)) b (kw_41 cy a rw S) (zx_r g5.1 g5.2) rfl dX8_code_50 ?_
        refine z_istore_n (lv' := [(3, .int ((ar S.1 18) x3.toNatClampNeg)), (0, .ref (a 38)), (4, .int x4)]) b dX8_code_51 rfl (by decide) rfl ?_
        refine z_iinc (k9 := 2) (v := (x4 + (-1))) (lv' := [(4, .int (x4 + (-1))), (3, .int ((ar S.1 18) x3.toNatClampNeg)), (0, .ref (a 38))]) b dX8_code_52 rfl rfl (by decide) rfl ?_
        refine z_goto (tgt := 28) b dX8_code_55 (by decide) ?_
        refine z_lv0 (lv' := [(0, .ref (a 38)), (3, .int ((ar S.1 18) x3.toNatClampNeg)), (4, .int (x4 + (-1)))]) [2, 1, 0] rfl ?_
        exact hk28 _ _ _ h

set_option maxHeartbeats 4000000 in
set_option maxRecDepth 100000 in
theorem zl_X8_code_L28 {p : Program} {l : Launch} {e : Env} {R : Room} {s : State} {m : MethodId} {args : Array Value} {below : List Frame} {meth : Method} {c : Code} {D : va_G} {cy : Nat → ClassId} {T0 tB tE : Nat} {A : Nat → Prop} {a : Nat → Nat} {rw : Nat → Option Nat} (hrw : ∀ i, i < 6 → rw i = some (a (12 + 2 * i))) {post : Int32 → KS → Prop} {k58 : KS → Int32 → Prop} (b : Bz p R s m args meth c D cy T0 tB tE A 5 cX8_code RX8 (some .int) "code" 1 21 0 0) (hk58 : ∀ (S : KS) (x3 : Int32), k58 S x3 → Z p l e R s m args below meth c D A 5 (MQ below (QI D (U := KS) post (kw cy a rw) A) args s 0 0 A) 0 0 (kw cy a rw S) [(0, .ref (a 38)), (3, .int x3)] 58 []) : ∀ (n : Nat) (S : KS) (x3 : Int32) (x4 : Int32), lpn (w_X8_code_F28 cy tE post k58) (fun _ _ _ => False) n S x3 x4 → Z p l e R s m args below meth c D A 5 (MQ below (QI D (U := KS) post (kw cy a rw) A) args s 0 0 A) 0 0 (kw cy a rw S) [(0, .ref (a 38)), (3, .int x3), (4, .int x4)] 28 [] := by
  intro n
  induction n with
  | zero => intro _ _ _ h; exact h.elim
  | succ n ih => intro S x3 x4 h; exact z_X8_code_F28 hrw b hk58 ih S x3 x4 h

def w_X8_code_B80 (cy : Nat → ClassId) (tE : Nat) (post : Int32 → KS → Prop) (S : KS) (y0 : Int32) : Prop :=
  post y0 S

set_option maxHeartbeats 4000000 in
set_option maxRecDepth 100000 in
theorem z_X8_code_B80 {p : Program} {l : Launch} {e : Env} {R : Room} {s : State} {m : MethodId} {args : Array Value} {below : List Frame} {meth : Method} {c : Code} {D : va_G} {cy : Nat → ClassId} {T0 tB tE : Nat} {A : Nat → Prop} {a : Nat → Nat} {rw : Nat → Option Nat} (hrw : ∀ i, i < 6 → rw i = some (a (12 + 2 * i))) {post : Int32 → KS → Prop} (b : Bz p R s m args meth c D cy T0 tB tE A 5 cX8_code RX8 (some .int) "code" 1 21 0 0) (S : KS) (y0 : Int32) (h : w_X8_code_B80 cy tE post S y0) : Z p l e R s m args below meth c D A 5 (MQ below (QI D (U := KS) post (kw cy a rw) A) args s 0 0 A) 0 0 (kw cy a rw S) [] 80 [.int y0] := by
  unfold w_X8_code_B80 at h
  exact z_iret (u := S) b rfl dX8_code_80 h rfl (by decide) (by decide)

def w_X8_code_B79 (cy : Nat → ClassId) (tE : Nat) (post : Int32 → KS → Prop) (S : KS)  : Prop :=
  w_X8_code_B80 cy tE post S (-1)

set_option maxHeartbeats 4000000 in
set_option maxRecDepth 100000 in
theorem z_X8_code_B79 {p : Program} {l : Launch} {e : Env} {R : Room} {s : State} {m : MethodId} {args : Array Value} {below : List Frame} {meth : Method} {c : Code} {D : va_G} {cy : Nat → ClassId} {T0 tB tE : Nat} {A : Nat → Prop} {a : Nat → Nat} {rw : Nat → Option Nat} (hrw : ∀ i, i < 6 → rw i = some (a (12 + 2 * i))) {post : Int32 → KS → Prop} (b : Bz p R s m args meth c D cy T0 tB tE A 5 cX8_code RX8 (some .int) "code" 1 21 0 0) (S : KS)  (h : w_X8_code_B79 cy tE post S ) : Z p l e R s m args below meth c D A 5 (MQ below (QI D (U := KS) post (kw cy a rw) A) args s 0 0 A) 0 0 (kw cy a rw S) [] 79 [] := by
  unfold w_X8_code_B79 at h
  refine z_iconst (v := (-1)) b dX8_code_79 (by decide) ?_
  exact z_X8_code_B80 hrw b _ _ h

def w_X8_code_B58 (cy : Nat → ClassId) (tE : Nat) (post : Int32 → KS → Prop) (S : KS) (x3 : Int32) : Prop :=
  ((x3.toInt < 0 → w_X8_code_B79 cy tE post S) ∧ (0 ≤ x3.toInt → (((fi S.1 33).toInt ≤ x3.toInt → w_X8_code_B79 cy tE post S) ∧ (x3.toInt < (fi S.1 33).toInt → (0 ≤ x3.toInt ∧ x3.toInt < 400) ∧ w_X8_code_B80 cy tE post S ((ar S.1 19) x3.toNatClampNeg)))))

set_option maxHeartbeats 4000000 in
set_option maxRecDepth 100000 in
theorem z_X8_code_B58 {p : Program} {l : Launch} {e : Env} {R : Room} {s : State} {m : MethodId} {args : Array Value} {below : List Frame} {meth : Method} {c : Code} {D : va_G} {cy : Nat → ClassId} {T0 tB tE : Nat} {A : Nat → Prop} {a : Nat → Nat} {rw : Nat → Option Nat} (hrw : ∀ i, i < 6 → rw i = some (a (12 + 2 * i))) {post : Int32 → KS → Prop} (b : Bz p R s m args meth c D cy T0 tB tE A 5 cX8_code RX8 (some .int) "code" 1 21 0 0) (S : KS) (x3 : Int32) (h : w_X8_code_B58 cy tE post S x3) : Z p l e R s m args below meth c D A 5 (MQ below (QI D (U := KS) post (kw cy a rw) A) args s 0 0 A) 0 0 (kw cy a rw S) [(0, .ref (a 38)), (3, .int x3)] 58 [] := by
  unfold w_X8_code_B58 at h
  refine z_iload_n b dX8_code_58 rfl rfl ?_
  refine y_if_lt (tgt := 79) (xl := x3.toInt) b rfl dX8_code_59 (by decide) (fun c1 => ?_) (fun c1 => ?_)
  · replace h := h.1 c1
    refine z_lv0 (lv' := []) [] rfl ?_
    exact z_X8_code_B79 hrw b _ h
  · replace h := h.2 c1
    refine z_iload_n b dX8_code_62 rfl rfl ?_
    refine z_aload_n b dX8_code_63 rfl rfl ?_
    refine z_get (q0 := 38) (k9 := 17) (v := .int (fi S.1 33)) b (kw_38 cy a rw S) rfl in_X8 (by decide) wf_X8_64 rfl dX8_code_64 ?_
    refine y_icmp_ge (tgt := 79) (xl := x3.toInt) (yl := (fi S.1 33).toInt) b rfl rfl dX8_code_67 (by decide) (fun c1 => ?_) (fun c1 => ?_)
    · replace h := h.1 c1
      refine z_lv0 (lv' := []) [] rfl ?_
      exact z_X8_code_B79 hrw b _ h
    · replace h := h.2 c1
      refine z_aload_n b dX8_code_70 rfl rfl ?_
      refine z_get (q0 := 38) (k9 := 6) (v := .ref (a 42)) b (kw_38 cy a rw S) rfl in_X8 (by decide) wf_X8_29 rfl dX8_code_71 ?_
      refine z_iload_n b dX8_code_74 rfl rfl ?_
      obtain ⟨g6, h⟩ := h
      refine y_iald (q0 := 42) (j := x3.toNatClampNeg) (v := ((ar S.1 19) x3.toNatClampNeg)) b (kw_42 cy a rw S) (zx_r g6.1 g6.2) rfl dX8_code_75 ?_
      refine z_goto (tgt := 80) b dX8_code_76 (by decide) ?_
      refine z_lv0 (lv' := []) [] rfl ?_
      exact z_X8_code_B80 hrw b _ _ h

def w_X8_code (cy : Nat → ClassId) (tE : Nat) (S : KS) (p0 : Int32) (p1 : Int32) (post : Int32 → KS → Prop) : Prop :=
  ((p1.toInt < 0 → w_X8_code_B13 cy tE post S) ∧ (0 ≤ p1.toInt → w_X8_acts cy tE S p0 (fun r1 S2 => ((p1.toInt < r1.toInt → w_X8_acts cy tE S2 p0 (fun r3 S4 => ∃ n, lpn (w_X8_code_F28 cy tE post (w_X8_code_B58 cy tE post)) (fun _ _ _ => False) n S4 p0 ((r3 - 1) - p1))) ∧ (r1.toInt ≤ p1.toInt → w_X8_code_B13 cy tE post S2)))))

set_option maxHeartbeats 4000000 in
set_option maxRecDepth 100000 in
theorem k_X8_code {l : Launch} {D : va_G} {cy : Nat → ClassId} {T0 tB tE : Nat} {a : Nat → Nat} {rw : Nat → Option Nat} (hrw : ∀ i, i < 6 → rw i = some (a (12 + 2 * i))) (S : KS) (p0 : Int32) (p1 : Int32) (post : Int32 → KS → Prop) (h : w_X8_code cy tE S p0 p1 post) : Ct l D cy T0 tB tE yX8_code cX8_code 5 (some .int) 1 21 0 0 (kw cy a rw S) [.ref (a 38), .int p0, .int p1] (QI D (U := KS) post (kw cy a rw)) := by
  refine Ct.ofZ RX8 "code" [(0, .ref (a 38)), (1, .int p0), (2, .int p1)] rfl rfl rfl rfl (Nat.le_of_ble_eq_true rfl) ?_
  intro p e R s m args below meth c A b
  unfold w_X8_code at h
  refine z_iload_n b dX8_code_0 rfl rfl ?_
  refine y_if_lt (tgt := 13) (xl := p1.toInt) b rfl dX8_code_1 (by decide) (fun c1 => ?_) (fun c1 => ?_)
  · replace h := h.1 c1
    refine z_lv0 (lv' := []) [] rfl ?_
    exact z_X8_code_B13 hrw b _ h
  · replace h := h.2 c1
    refine z_iload_n b dX8_code_4 rfl rfl ?_
    refine z_aload_n b dX8_code_5 rfl rfl ?_
    refine z_iload_n b dX8_code_6 rfl rfl ?_
    refine z_calli b (z_runV (q0 := 38) (As := [.int p0]) (st := [.int p1]) b (k_X8_acts hrw S p0 _ h) cf_X8_acts (kw_38 cy a rw S) rfl wm_X8_117 wi_X8_acts ws_X8_acts dX8_code_7 rfl (Nat.le_of_ble_eq_true rfl) ⟨by decide, by decide, Nat.le_of_ble_eq_true rfl, Nat.le_of_ble_eq_true rfl⟩) (fun r1 S2 h => ?_)
    refine y_icmp_lt (tgt := 15) (xl := p1.toInt) (yl := r1.toInt) b rfl rfl dX8_code_10 (by decide) (fun c1 => ?_) (fun c1 => ?_)
    · replace h := h.1 c1
      refine z_iload_n b dX8_code_15 rfl rfl ?_
      refine z_istore_n (lv' := [(3, .int p0), (0, .ref (a 38)), (1, .int p0), (2, .int p1)]) b dX8_code_16 rfl (by decide) rfl ?_
      refine z_aload_n b dX8_code_17 rfl rfl ?_
      refine z_iload_n b dX8_code_18 rfl rfl ?_
      refine z_calli b (z_runV (q0 := 38) (As := [.int p0]) (st := []) b (k_X8_acts hrw S2 p0 _ h) cf_X8_acts (kw_38 cy a rw S2) rfl wm_X8_117 wi_X8_acts ws_X8_acts dX8_code_19 rfl (Nat.le_of_ble_eq_true rfl) ⟨by decide, by decide, Nat.le_of_ble_eq_true rfl, Nat.le_of_ble_eq_true rfl⟩) (fun r3 S4 h => ?_)
      refine z_iconst (v := 1) b dX8_code_22 (by decide) ?_
      refine z_isub b dX8_code_23 rfl ?_
      refine z_iload_n b dX8_code_24 rfl rfl ?_
      refine z_isub b dX8_code_25 rfl ?_
      refine z_istore (lv' := [(4, .int ((r3 - 1) - p1)), (3, .int p0), (0, .ref (a 38)), (1, .int p0), (2, .int p1)]) b dX8_code_26 (by decide) rfl ?_
      refine z_lv0 (lv' := [(0, .ref (a 38)), (3, .int p0), (4, .int ((r3 - 1) - p1))]) [2, 1, 0] rfl ?_
      obtain ⟨n, h⟩ := h
      exact zl_X8_code_L28 hrw b (fun S x3 h => z_X8_code_B58 hrw b _ _ h) n _ _ _ h
    · replace h := h.2 c1
      refine z_lv0 (lv' := []) [] rfl ?_
      exact z_X8_code_B13 hrw b _ h

def w_J6_bitCount_0f7a4 (cy : Nat → ClassId) (tE : Nat) (S : KS) (p0 : Int32) (post : Int32 → KS → Prop) : Prop :=
  post ((((((((p0 - (((p0).toUInt32 >>> ((1 : Int32).toUInt32 &&& Int32.toUInt32 31)).toInt32 &&& 1431655765)) &&& 858993459) + ((((p0 - (((p0).toUInt32 >>> ((1 : Int32).toUInt32 &&& Int32.toUInt32 31)).toInt32 &&& 1431655765))).toUInt32 >>> ((2 : Int32).toUInt32 &&& Int32.toUInt32 31)).toInt32 &&& 858993459)) + (((((p0 - (((p0).toUInt32 >>> ((1 : Int32).toUInt32 &&& Int32.toUInt32 31)).toInt32 &&& 1431655765)) &&& 858993459) + ((((p0 - (((p0).toUInt32 >>> ((1 : Int32).toUInt32 &&& Int32.toUInt32 31)).toInt32 &&& 1431655765))).toUInt32 >>> ((2 : Int32).toUInt32 &&& Int32.toUInt32 31)).toInt32 &&& 858993459))).toUInt32 >>> ((4 : Int32).toUInt32 &&& Int32.toUInt32 31)).toInt32) &&& 252645135) + (((((((p0 - (((p0).toUInt32 >>> ((1 : Int32).toUInt32 &&& Int32.toUInt32 31)).toInt32 &&& 1431655765)) &&& 858993459) + ((((p0 - (((p0).toUInt32 >>> ((1 : Int32).toUInt32 &&& Int32.toUInt32 31)).toInt32 &&& 1431655765))).toUInt32 >>> ((2 : Int32).toUInt32 &&& Int32.toUInt32 31)).toInt32 &&& 858993459)) + (((((p0 - (((p0).toUInt32 >>> ((1 : Int32).toUInt32 &&& Int32.toUInt32 31)).toInt32 &&& 1431655765)) &&& 858993459) + ((((p0 - (((p0).toUInt32 >>> ((1 : Int32).toUInt32 &&& Int32.toUInt32 31)).toInt32 &&& 1431655765))).toUInt32 >>> ((2 : Int32).toUInt32 &&& Int32.toUInt32 31)).toInt32 &&& 858993459))).toUInt32 >>> ((4 : Int32).toUInt32 &&& Int32.toUInt32 31)).toInt32) &&& 252645135)).toUInt32 >>> ((8 : Int32).toUInt32 &&& Int32.toUInt32 31)).toInt32) + ((((((((p0 - (((p0).toUInt32 >>> ((1 : Int32).toUInt32 &&& Int32.toUInt32 31)).toInt32 &&& 1431655765)) &&& 858993459) + ((((p0 - (((p0).toUInt32 >>> ((1 : Int32).toUInt32 &&& Int32.toUInt32 31)).toInt32 &&& 1431655765))).toUInt32 >>> ((2 : Int32).toUInt32 &&& Int32.toUInt32 31)).toInt32 &&& 858993459)) + (((((p0 - (((p0).toUInt32 >>> ((1 : Int32).toUInt32 &&& Int32.toUInt32 31)).toInt32 &&& 1431655765)) &&& 858993459) + ((((p0 - (((p0).toUInt32 >>> ((1 : Int32).toUInt32 &&& Int32.toUInt32 31)).toInt32 &&& 1431655765))).toUInt32 >>> ((2 : Int32).toUInt32 &&& Int32.toUInt32 31)).toInt32 &&& 858993459))).toUInt32 >>> ((4 : Int32).toUInt32 &&& Int32.toUInt32 31)).toInt32) &&& 252645135) + (((((((p0 - (((p0).toUInt32 >>> ((1 : Int32).toUInt32 &&& Int32.toUInt32 31)).toInt32 &&& 1431655765)) &&& 858993459) + ((((p0 - (((p0).toUInt32 >>> ((1 : Int32).toUInt32 &&& Int32.toUInt32 31)).toInt32 &&& 1431655765))).toUInt32 >>> ((2 : Int32).toUInt32 &&& Int32.toUInt32 31)).toInt32 &&& 858993459)) + (((((p0 - (((p0).toUInt32 >>> ((1 : Int32).toUInt32 &&& Int32.toUInt32 31)).toInt32 &&& 1431655765)) &&& 858993459) + ((((p0 - (((p0).toUInt32 >>> ((1 : Int32).toUInt32 &&& Int32.toUInt32 31)).toInt32 &&& 1431655765))).toUInt32 >>> ((2 : Int32).toUInt32 &&& Int32.toUInt32 31)).toInt32 &&& 858993459))).toUInt32 >>> ((4 : Int32).toUInt32 &&& Int32.toUInt32 31)).toInt32) &&& 252645135)).toUInt32 >>> ((8 : Int32).toUInt32 &&& Int32.toUInt32 31)).toInt32)).toUInt32 >>> ((16 : Int32).toUInt32 &&& Int32.toUInt32 31)).toInt32) &&& 63) S

set_option maxHeartbeats 4000000 in
set_option maxRecDepth 100000 in
theorem k_J6_bitCount_0f7a4 {l : Launch} {D : va_G} {cy : Nat → ClassId} {T0 tB tE : Nat} {a : Nat → Nat} {rw : Nat → Option Nat} (hrw : ∀ i, i < 6 → rw i = some (a (12 + 2 * i))) (S : KS) (p0 : Int32) (post : Int32 → KS → Prop) (h : w_J6_bitCount_0f7a4 cy tE S p0 post) : Ct l D cy T0 tB tE yJ6_bitCount_0f7a4 cJ6_bitCount_0f7a4 1 (some .int) 0 0 0 0 (kw cy a rw S) [.int p0] (QI D (U := KS) post (kw cy a rw)) := by
  refine Ct.ofZ RJ6 "bitCount" [(0, .int p0)] rfl rfl rfl rfl (Nat.le_of_ble_eq_true rfl) ?_
  intro p e R s m args below meth c A b
  unfold w_J6_bitCount_0f7a4 at h
  refine z_iload_n b dJ6_bitCount_0f7a4_0 rfl rfl ?_
  refine z_iload_n b dJ6_bitCount_0f7a4_1 rfl rfl ?_
  refine z_iconst (v := 1) b dJ6_bitCount_0f7a4_2 (by decide) ?_
  refine z_iushr b dJ6_bitCount_0f7a4_3 rfl ?_
  refine z_ldcw b wc_J6_265 dJ6_bitCount_0f7a4_4 ?_
  refine z_iand b dJ6_bitCount_0f7a4_7 rfl ?_
  refine z_isub b dJ6_bitCount_0f7a4_8 rfl ?_
  refine z_istore_n (lv' := [(0, .int (p0 - (((p0).toUInt32 >>> ((1 : Int32).toUInt32 &&& Int32.toUInt32 31)).toInt32 &&& 1431655765)))]) b dJ6_bitCount_0f7a4_9 rfl (by decide) rfl ?_
  refine z_iload_n b dJ6_bitCount_0f7a4_10 rfl rfl ?_
  refine z_ldcw b wc_J6_266 dJ6_bitCount_0f7a4_11 ?_
  refine z_iand b dJ6_bitCount_0f7a4_14 rfl ?_
  refine z_iload_n b dJ6_bitCount_0f7a4_15 rfl rfl ?_
  refine z_iconst (v := 2) b dJ6_bitCount_0f7a4_16 (by decide) ?_
  refine z_iushr b dJ6_bitCount_0f7a4_17 rfl ?_
  refine z_ldcw b wc_J6_266 dJ6_bitCount_0f7a4_18 ?_
  refine z_iand b dJ6_bitCount_0f7a4_21 rfl ?_
  refine z_iadd b dJ6_bitCount_0f7a4_22 rfl ?_
  refine z_istore_n (lv' := [(0, .int (((p0 - (((p0).toUInt32 >>> ((1 : Int32).toUInt32 &&& Int32.toUInt32 31)).toInt32 &&& 1431655765)) &&& 858993459) + ((((p0 - (((p0).toUInt32 >>> ((1 : Int32).toUInt32 &&& Int32.toUInt32 31)).toInt32 &&& 1431655765))).toUInt32 >>> ((2 : Int32).toUInt32 &&& Int32.toUInt32 31)).toInt32 &&& 858993459)))]) b dJ6_bitCount_0f7a4_23 rfl (by decide) rfl ?_
  refine z_iload_n b dJ6_bitCount_0f7a4_24 rfl rfl ?_
  refine z_iload_n b dJ6_bitCount_0f7a4_25 rfl rfl ?_
  refine z_iconst (v := 4) b dJ6_bitCount_0f7a4_26 (by decide) ?_
  refine z_iushr b dJ6_bitCount_0f7a4_27 rfl ?_
  refine z_iadd b dJ6_bitCount_0f7a4_28 rfl ?_
  refine z_ldcw b wc_J6_267 dJ6_bitCount_0f7a4_29 ?_
  refine z_iand b dJ6_bitCount_0f7a4_32 rfl ?_
  refine z_istore_n (lv' := [(0, .int (((((p0 - (((p0).toUInt32 >>> ((1 : Int32).toUInt32 &&& Int32.toUInt32 31)).toInt32 &&& 1431655765)) &&& 858993459) + ((((p0 - (((p0).toUInt32 >>> ((1 : Int32).toUInt32 &&& Int32.toUInt32 31)).toInt32 &&& 1431655765))).toUInt32 >>> ((2 : Int32).toUInt32 &&& Int32.toUInt32 31)).toInt32 &&& 858993459)) + (((((p0 - (((p0).toUInt32 >>> ((1 : Int32).toUInt32 &&& Int32.toUInt32 31)).toInt32 &&& 1431655765)) &&& 858993459) + ((((p0 - (((p0).toUInt32 >>> ((1 : Int32).toUInt32 &&& Int32.toUInt32 31)).toInt32 &&& 1431655765))).toUInt32 >>> ((2 : Int32).toUInt32 &&& Int32.toUInt32 31)).toInt32 &&& 858993459))).toUInt32 >>> ((4 : Int32).toUInt32 &&& Int32.toUInt32 31)).toInt32) &&& 252645135))]) b dJ6_bitCount_0f7a4_33 rfl (by decide) rfl ?_
  refine z_iload_n b dJ6_bitCount_0f7a4_34 rfl rfl ?_
  refine z_iload_n b dJ6_bitCount_0f7a4_35 rfl rfl ?_
  refine z_bipush (v := 8) b dJ6_bitCount_0f7a4_36 (by decide) ?_
  refine z_iushr b dJ6_bitCount_0f7a4_38 rfl ?_
  refine z_iadd b dJ6_bitCount_0f7a4_39 rfl ?_
  refine z_istore_n (lv' := [(0, .int ((((((p0 - (((p0).toUInt32 >>> ((1 : Int32).toUInt32 &&& Int32.toUInt32 31)).toInt32 &&& 1431655765)) &&& 858993459) + ((((p0 - (((p0).toUInt32 >>> ((1 : Int32).toUInt32 &&& Int32.toUInt32 31)).toInt32 &&& 1431655765))).toUInt32 >>> ((2 : Int32).toUInt32 &&& Int32.toUInt32 31)).toInt32 &&& 858993459)) + (((((p0 - (((p0).toUInt32 >>> ((1 : Int32).toUInt32 &&& Int32.toUInt32 31)).toInt32 &&& 1431655765)) &&& 858993459) + ((((p0 - (((p0).toUInt32 >>> ((1 : Int32).toUInt32 &&& Int32.toUInt32 31)).toInt32 &&& 1431655765))).toUInt32 >>> ((2 : Int32).toUInt32 &&& Int32.toUInt32 31)).toInt32 &&& 858993459))).toUInt32 >>> ((4 : Int32).toUInt32 &&& Int32.toUInt32 31)).toInt32) &&& 252645135) + (((((((p0 - (((p0).toUInt32 >>> ((1 : Int32).toUInt32 &&& Int32.toUInt32 31)).toInt32 &&& 1431655765)) &&& 858993459) + ((((p0 - (((p0).toUInt32 >>> ((1 : Int32).toUInt32 &&& Int32.toUInt32 31)).toInt32 &&& 1431655765))).toUInt32 >>> ((2 : Int32).toUInt32 &&& Int32.toUInt32 31)).toInt32 &&& 858993459)) + (((((p0 - (((p0).toUInt32 >>> ((1 : Int32).toUInt32 &&& Int32.toUInt32 31)).toInt32 &&& 1431655765)) &&& 858993459) + ((((p0 - (((p0).toUInt32 >>> ((1 : Int32).toUInt32 &&& Int32.toUInt32 31)).toInt32 &&& 1431655765))).toUInt32 >>> ((2 : Int32).toUInt32 &&& Int32.toUInt32 31)).toInt32 &&& 858993459))).toUInt32 >>> ((4 : Int32).toUInt32 &&& Int32.toUInt32 31)).toInt32) &&& 252645135)).toUInt32 >>> ((8 : Int32).toUInt32 &&& Int32.toUInt32 31)).toInt32))]) b dJ6_bitCount_0f7a4_40 rfl (by decide) rfl ?_
  refine z_iload_n b dJ6_bitCount_0f7a4_41 rfl rfl ?_
  refine z_iload_n b dJ6_bitCount_0f7a4_42 rfl rfl ?_
  refine z_bipush (v := 16) b dJ6_bitCount_0f7a4_43 (by decide) ?_
  refine z_iushr b dJ6_bitCount_0f7a4_45 rfl ?_
  refine z_iadd b dJ6_bitCount_0f7a4_46 rfl ?_
  refine z_istore_n (lv' := [(0, .int (((((((p0 - (((p0).toUInt32 >>> ((1 : Int32).toUInt32 &&& Int32.toUInt32 31)).toInt32 &&& 1431655765)) &&& 858993459) + ((((p0 - (((p0).toUInt32 >>> ((1 : Int32).toUInt32 &&& Int32.toUInt32 31)).toInt32 &&& 1431655765))).toUInt32 >>> ((2 : Int32).toUInt32 &&& Int32.toUInt32 31)).toInt32 &&& 858993459)) + (((((p0 - (((p0).toUInt32 >>> ((1 : Int32).toUInt32 &&& Int32.toUInt32 31)).toInt32 &&& 1431655765)) &&& 858993459) + ((((p0 - (((p0).toUInt32 >>> ((1 : Int32).toUInt32 &&& Int32.toUInt32 31)).toInt32 &&& 1431655765))).toUInt32 >>> ((2 : Int32).toUInt32 &&& Int32.toUInt32 31)).toInt32 &&& 858993459))).toUInt32 >>> ((4 : Int32).toUInt32 &&& Int32.toUInt32 31)).toInt32) &&& 252645135) + (((((((p0 - (((p0).toUInt32 >>> ((1 : Int32).toUInt32 &&& Int32.toUInt32 31)).toInt32 &&& 1431655765)) &&& 858993459) + ((((p0 - (((p0).toUInt32 >>> ((1 : Int32).toUInt32 &&& Int32.toUInt32 31)).toInt32 &&& 1431655765))).toUInt32 >>> ((2 : Int32).toUInt32 &&& Int32.toUInt32 31)).toInt32 &&& 858993459)) + (((((p0 - (((p0).toUInt32 >>> ((1 : Int32).toUInt32 &&& Int32.toUInt32 31)).toInt32 &&& 1431655765)) &&& 858993459) + ((((p0 - (((p0).toUInt32 >>> ((1 : Int32).toUInt32 &&& Int32.toUInt32 31)).toInt32 &&& 1431655765))).toUInt32 >>> ((2 : Int32).toUInt32 &&& Int32.toUInt32 31)).toInt32 &&& 858993459))).toUInt32 >>> ((4 : Int32).toUInt32 &&& Int32.toUInt32 31)).toInt32) &&& 252645135)).toUInt32 >>> ((8 : Int32).toUInt32 &&& Int32.toUInt32 31)).toInt32) + ((((((((p0 - (((p0).toUInt32 >>> ((1 : Int32).toUInt32 &&& Int32.toUInt32 31)).toInt32 &&& 1431655765)) &&& 858993459) + ((((p0 - (((p0).toUInt32 >>> ((1 : Int32).toUInt32 &&& Int32.toUInt32 31)).toInt32 &&& 1431655765))).toUInt32 >>> ((2 : Int32).toUInt32 &&& Int32.toUInt32 31)).toInt32 &&& 858993459)) + (((((p0 - (((p0).toUInt32 >>> ((1 : Int32).toUInt32 &&& Int32.toUInt32 31)).toInt32 &&& 1431655765)) &&& 858993459) + ((((p0 - (((p0).toUInt32 >>> ((1 : Int32).toUInt32 &&& Int32.toUInt32 31)).toInt32 &&& 1431655765))).toUInt32 >>> ((2 : Int32).toUInt32 &&& Int32.toUInt32 31)).toInt32 &&& 858993459))).toUInt32 >>> ((4 : Int32).toUInt32 &&& Int32.toUInt32 31)).toInt32) &&& 252645135) + (((((((p0 - (((p0).toUInt32 >>> ((1 : Int32).toUInt32 &&& Int32.toUInt32 31)).toInt32 &&& 1431655765)) &&& 858993459) + ((((p0 - (((p0).toUInt32 >>> ((1 : Int32).toUInt32 &&& Int32.toUInt32 31)).toInt32 &&& 1431655765))).toUInt32 >>> ((2 : Int32).toUInt32 &&& Int32.toUInt32 31)).toInt32 &&& 858993459)) + (((((p0 - (((p0).toUInt32 >>> ((1 : Int32).toUInt32 &&& Int32.toUInt32 31)).toInt32 &&& 1431655765)) &&& 858993459) + ((((p0 - (((p0).toUInt32 >>> ((1 : Int32).toUInt32 &&& Int32.toUInt32 31)).toInt32 &&& 1431655765))).toUInt32 >>> ((2 : Int32).toUInt32 &&& Int32.toUInt32 31)).toInt32 &&& 858993459))).toUInt32 >>> ((4 : Int32).toUInt32 &&& Int32.toUInt32 31)).toInt32) &&& 252645135)).toUInt32 >>> ((8 : Int32).toUInt32 &&& Int32.toUInt32 31)).toInt32)).toUInt32 >>> ((16 : Int32).toUInt32 &&& Int32.toUInt32 31)).toInt32))]) b dJ6_bitCount_0f7a4_47 rfl (by decide) rfl ?_
  refine z_iload_n b dJ6_bitCount_0f7a4_48 rfl rfl ?_
  refine z_bipush (v := 63) b dJ6_bitCount_0f7a4_49 (by decide) ?_
  refine z_iand b dJ6_bitCount_0f7a4_51 rfl ?_
  exact z_iret (u := S) b rfl dJ6_bitCount_0f7a4_52 h rfl (by decide) (by decide)

def w_X11_friends_B22 (cy : Nat → ClassId) (tE : Nat) (post : Int32 → KS → Prop) (S : KS)  : Prop :=
  post (-1) S

set_option maxHeartbeats 4000000 in
set_option maxRecDepth 100000 in
theorem z_X11_friends_B22 {p : Program} {l : Launch} {e : Env} {R : Room} {s : State} {m : MethodId} {args : Array Value} {below : List Frame} {meth : Method} {c : Code} {D : va_G} {cy : Nat → ClassId} {T0 tB tE : Nat} {A : Nat → Prop} {a : Nat → Nat} {rw : Nat → Option Nat} (hrw : ∀ i, i < 6 → rw i = some (a (12 + 2 * i))) {post : Int32 → KS → Prop} (b : Bz p R s m args meth c D cy T0 tB tE A 6 cX11_friends RX11 (some .int) "friends" 6 146 0 0) (S : KS)  (h : w_X11_friends_B22 cy tE post S ) : Z p l e R s m args below meth c D A 6 (MQ below (QI D (U := KS) post (kw cy a rw) A) args s 0 0 A) 0 0 (kw cy a rw S) [] 22 [] := by
  unfold w_X11_friends_B22 at h
  refine z_iconst (v := (-1)) b dX11_friends_22 (by decide) ?_
  exact z_iret (u := S) b rfl dX11_friends_23 h rfl (by decide) (by decide)

def w_X11_friends_B83 (cy : Nat → ClassId) (tE : Nat) (post : Int32 → KS → Prop) (k36 : KS → Int32 → Int32 → Int32 → Int32 → Int32 → Prop) (k89 : KS → Int32 → Int32 → Int32 → Int32 → Prop) (S : KS) (x1 : Int32) (x2 : Int32) (x3 : Int32) (x4 : Int32) (x5 : Int32) : Prop :=
  k36 S x1 x2 x3 x4 (x5 + 1)

set_option maxHeartbeats 4000000 in
set_option maxRecDepth 100000 in
theorem z_X11_friends_B83 {p : Program} {l : Launch} {e : Env} {R : Room} {s : State} {m : MethodId} {args : Array Value} {below : List Frame} {meth : Method} {c : Code} {D : va_G} {cy : Nat → ClassId} {T0 tB tE : Nat} {A : Nat → Prop} {a : Nat → Nat} {rw : Nat → Option Nat} (hrw : ∀ i, i < 6 → rw i = some (a (12 + 2 * i))) {post : Int32 → KS → Prop} {k36 : KS → Int32 → Int32 → Int32 → Int32 → Int32 → Prop} {k89 : KS → Int32 → Int32 → Int32 → Int32 → Prop} (b : Bz p R s m args meth c D cy T0 tB tE A 6 cX11_friends RX11 (some .int) "friends" 6 146 0 0) (hk36 : ∀ (S : KS) (x1 : Int32) (x2 : Int32) (x3 : Int32) (x4 : Int32) (x5 : Int32), k36 S x1 x2 x3 x4 x5 → Z p l e R s m args below meth c D A 6 (MQ below (QI D (U := KS) post (kw cy a rw) A) args s 0 0 A) 0 0 (kw cy a rw S) [(0, .ref (a 0)), (1, .int x1), (2, .int x2), (3, .int x3), (4, .int x4), (5, .int x5)] 36 []) (hk89 : ∀ (S : KS) (x1 : Int32) (x2 : Int32) (x3 : Int32) (x4 : Int32), k89 S x1 x2 x3 x4 → Z p l e R s m args below meth c D A 6 (MQ below (QI D (U := KS) post (kw cy a rw) A) args s 0 0 A) 0 0 (kw cy a rw S) [(0, .ref (a 0)), (1, .int x1), (2, .int x2), (3, .int x3), (4, .int x4)] 89 []) (S : KS) (x1 : Int32) (x2 : Int32) (x3 : Int32) (x4 : Int32) (x5 : Int32) (h : w_X11_friends_B83 cy tE post k36 k89 S x1 x2 x3 x4 x5) : Z p l e R s m args below meth c D A 6 (MQ below (QI D (U := KS) post (kw cy a rw) A) args s 0 0 A) 0 0 (kw cy a rw S) [(0, .ref (a 0)), (1, .int x1), (2, .int x2), (3, .int x3), (4, .int x4), (5, .int x5)] 83 [] := by
  unfold w_X11_friends_B83 at h
  refine z_iinc (k9 := 5) (v := (x5 + 1)) (lv' := [(5, .int (x5 + 1)), (0, .ref (a 0)), (1, .int x1), (2, .int x2), (3, .int x3), (4, .int x4)]) b dX11_friends_83 rfl rfl (by decide) rfl ?_
  refine z_goto (tgt := 36) b dX11_friends_86 (by decide) ?_
  refine z_lv0 (lv' := [(0, .ref (a 0)), (1, .int x1), (2, .int x2), (3, .int x3), (4, .int x4), (5, .int (x5 + 1))]) [1, 2, 3, 4, 5, 0] rfl ?_
  exact hk36 _ _ _ _ _ _ h

def w_X11_friends_F36 (cy : Nat → ClassId) (tE : Nat) (post : Int32 → KS → Prop) (k89 : KS → Int32 → Int32 → Int32 → Int32 → Prop) (k36 : KS → Int32 → Int32 → Int32 → Int32 → Int32 → Prop) (S : KS) (x1 : Int32) (x2 : Int32) (x3 : Int32) (x4 : Int32) (x5 : Int32) : Prop :=
  ((7 < x5.toInt → k89 S x1 x2 x3 x4) ∧ (x5.toInt ≤ 7 → w_J6_bitCount_0f7a4 cy tE S x5 (fun r7 S8 => ((r7.toInt = x4.toInt → w_X8_begin cy tE S8 x2 x3 x5 0 (fun S10 => w_X8_first cy tE S10 x1 (fun r11 S12 => ((r11.toInt = (-1) → w_X11_friends_B83 cy tE post k36 k89 S12 x1 x2 x3 x4 x5) ∧ (r11.toInt ≠ (-1) → post x5 S12))))) ∧ (r7.toInt ≠ x4.toInt → w_X11_friends_B83 cy tE post k36 k89 S8 x1 x2 x3 x4 x5)))))

set_option maxHeartbeats 4000000 in
set_option maxRecDepth 100000 in
theorem z_X11_friends_F36 {p : Program} {l : Launch} {e : Env} {R : Room} {s : State} {m : MethodId} {args : Array Value} {below : List Frame} {meth : Method} {c : Code} {D : va_G} {cy : Nat → ClassId} {T0 tB tE : Nat} {A : Nat → Prop} {a : Nat → Nat} {rw : Nat → Option Nat} (hrw : ∀ i, i < 6 → rw i = some (a (12 + 2 * i))) {post : Int32 → KS → Prop} {k89 : KS → Int32 → Int32 → Int32 → Int32 → Prop} {k36 : KS → Int32 → Int32 → Int32 → Int32 → Int32 → Prop} (b : Bz p R s m args meth c D cy T0 tB tE A 6 cX11_friends RX11 (some .int) "friends" 6 146 0 0) (hk89 : ∀ (S : KS) (x1 : Int32) (x2 : Int32) (x3 : Int32) (x4 : Int32), k89 S x1 x2 x3 x4 → Z p l e R s m args below meth c D A 6 (MQ below (QI D (U := KS) post (kw cy a rw) A) args s 0 0 A) 0 0 (kw cy a rw S) [(0, .ref (a 0)), (1, .int x1), (2, .int x2), (3, .int x3), (4, .int x4)] 89 []) (hk36 : ∀ (S : KS) (x1 : Int32) (x2 : Int32) (x3 : Int32) (x4 : Int32) (x5 : Int32), k36 S x1 x2 x3 x4 x5 → Z p l e R s m args below meth c D A 6 (MQ below (QI D (U := KS) post (kw cy a rw) A) args s 0 0 A) 0 0 (kw cy a rw S) [(0, .ref (a 0)), (1, .int x1), (2, .int x2), (3, .int x3), (4, .int x4), (5, .int x5)] 36 []) (S : KS) (x1 : Int32) (x2 : Int32) (x3 : Int32) (x4 : Int32) (x5 : Int32) (h : w_X11_friends_F36 cy tE post k89 k36 S x1 x2 x3 x4 x5) : Z p l e R s m args below meth c D A 6 (MQ below (QI D (U := KS) post (kw cy a rw) A) args s 0 0 A) 0 0 (kw cy a rw S) [(0, .ref (a 0)), (1, .int x1), (2, .int x2), (3, .int x3), (4, .int x4), (5, .int x5)] 36 [] := by
  unfold w_X11_friends_F36 at h
  refine z_iload b dX11_friends_36 rfl ?_
  refine z_bipush (v := 7) b dX11_friends_38 (by decide) ?_
  refine y_icmp_gt (tgt := 89) (xl := x5.toInt) (yl := 7) b rfl (by decide) dX11_friends_40 (by decide) (fun c1 => ?_) (fun c1 => ?_)
  · replace h := h.1 c1
    refine z_lv0 (lv' := [(0, .ref (a 0)), (1, .int x1), (2, .int x2), (3, .int x3), (4, .int x4)]) [0, 1, 2, 3, 4] rfl ?_
    exact hk89 _ _ _ _ _ h
  · replace h := h.2 c1
    refine z_iload b dX11_friends_43 rfl ?_
    refine z_calli b (z_runS (As := [.int x5]) (st := []) b (k_J6_bitCount_0f7a4 hrw S x5 _ h) cf_J6_bitCount_0f7a4 wm_X11_223 ws_J6_bitCount_0f7a4 dX11_friends_45 rfl (Nat.le_of_ble_eq_true rfl) ⟨by decide, by decide, Nat.le_of_ble_eq_true rfl, Nat.le_of_ble_eq_true rfl⟩) (fun r7 S8 h => ?_)
    refine z_iload b dX11_friends_48 rfl ?_
    refine y_icmp_eq (tgt := 56) (xl := r7.toInt) (yl := x4.toInt) b rfl rfl dX11_friends_50 (by decide) (fun c1 => ?_) (fun c1 => ?_)
    · replace h := h.1 c1
      refine z_aload_n b dX11_friends_56 rfl rfl ?_
      refine z_get (q0 := 0) (k9 := 6) (v := .ref (a 38)) b (kw_0 cy a rw S8) rfl in_X11 (by decide) wf_X11_52 rfl dX11_friends_57 ?_
      refine z_iload_n b dX11_friends_60 rfl rfl ?_
      refine z_iload_n b dX11_friends_61 rfl rfl ?_
      refine z_iload b dX11_friends_62 rfl ?_
      refine z_iconst (v := 0) b dX11_friends_64 (by decide) ?_
      refine z_callv b (z_runV (q0 := 38) (As := [.int x2, .int x3, .int x5, .int 0]) (st := []) b (k_X8_begin hrw S8 x2 x3 x5 0 _ h) cf_X8_begin (kw_38 cy a rw S8) rfl wm_X11_206 wi_X8_begin ws_X8_begin dX11_friends_65 rfl (Nat.le_of_ble_eq_true rfl) ⟨by decide, by decide, Nat.le_of_ble_eq_true rfl, Nat.le_of_ble_eq_true rfl⟩) (fun S10 h => ?_)
      refine z_aload_n b dX11_friends_68 rfl rfl ?_
      refine z_get (q0 := 0) (k9 := 6) (v := .ref (a 38)) b (kw_0 cy a rw S10) rfl in_X11 (by decide) wf_X11_52 rfl dX11_friends_69 ?_
      refine z_iload_n b dX11_friends_72 rfl rfl ?_
      refine z_calli b (z_runV (q0 := 38) (As := [.int x1]) (st := []) b (k_X8_first hrw S10 x1 _ h) cf_X8_first (kw_38 cy a rw S10) rfl wm_X11_210 wi_X8_first ws_X8_first dX11_friends_73 rfl (Nat.le_of_ble_eq_true rfl) ⟨by decide, by decide, Nat.le_of_ble_eq_true rfl, Nat.le_of_ble_eq_true rfl⟩) (fun r11 S12 h => ?_)
      refine z_iconst (v := (-1)) b dX11_friends_76 (by decide) ?_
      refine y_icmp_eq (tgt := 83) (xl := r11.toInt) (yl := (-1)) b rfl (by decide) dX11_friends_77 (by decide) (fun c1 => ?_) (fun c1 => ?_)
      · replace h := h.1 c1
        exact z_X11_friends_B83 hrw b hk36 hk89 _ _ _ _ _ _ h
      · replace h := h.2 c1
        refine z_iload b dX11_friends_80 rfl ?_
        exact z_iret (u := S12) b rfl dX11_friends_82 h rfl (by decide) (by decide)
    · replace h := h.2 c1
      refine z_goto (tgt := 83) b dX11_friends_53 (by decide) ?_
      exact z_X11_friends_B83 hrw b hk36 hk89 _ _ _ _ _ _ h

set_option maxHeartbeats 4000000 in
set_option maxRecDepth 100000 in
theorem zl_X11_friends_L36 {p : Program} {l : Launch} {e : Env} {R : Room} {s : State} {m : MethodId} {args : Array Value} {below : List Frame} {meth : Method} {c : Code} {D : va_G} {cy : Nat → ClassId} {T0 tB tE : Nat} {A : Nat → Prop} {a : Nat → Nat} {rw : Nat → Option Nat} (hrw : ∀ i, i < 6 → rw i = some (a (12 + 2 * i))) {post : Int32 → KS → Prop} {k89 : KS → Int32 → Int32 → Int32 → Int32 → Prop} (b : Bz p R s m args meth c D cy T0 tB tE A 6 cX11_friends RX11 (some .int) "friends" 6 146 0 0) (hk89 : ∀ (S : KS) (x1 : Int32) (x2 : Int32) (x3 : Int32) (x4 : Int32), k89 S x1 x2 x3 x4 → Z p l e R s m args below meth c D A 6 (MQ below (QI D (U := KS) post (kw cy a rw) A) args s 0 0 A) 0 0 (kw cy a rw S) [(0, .ref (a 0)), (1, .int x1), (2, .int x2), (3, .int x3), (4, .int x4)] 89 []) : ∀ (n : Nat) (S : KS) (x1 : Int32) (x2 : Int32) (x3 : Int32) (x4 : Int32) (x5 : Int32), lpn (w_X11_friends_F36 cy tE post k89) (fun _ _ _ _ _ _ => False) n S x1 x2 x3 x4 x5 → Z p l e R s m args below meth c D A 6 (MQ below (QI D (U := KS) post (kw cy a rw) A) args s 0 0 A) 0 0 (kw cy a rw S) [(0, .ref (a 0)), (1, .int x1), (2, .int x2), (3, .int x3), (4, .int x4), (5, .int x5)] 36 [] := by
  intro n
  induction n with
  | zero => intro _ _ _ _ _ _ h; exact h.elim
  | succ n ih => intro S x1 x2 x3 x4 x5 h; exact z_X11_friends_F36 hrw b hk89 ih S x1 x2 x3 x4 x5 h

def w_X11_friends_B89 (cy : Nat → ClassId) (tE : Nat) (post : Int32 → KS → Prop) (k27 : KS → Int32 → Int32 → Int32 → Int32 → Prop) (k95 : KS → Prop) (S : KS) (x1 : Int32) (x2 : Int32) (x3 : Int32) (x4 : Int32) : Prop :=
  k27 S x1 x2 x3 (x4 + 1)

set_option maxHeartbeats 4000000 in
set_option maxRecDepth 100000 in
theorem z_X11_friends_B89 {p : Program} {l : Launch} {e : Env} {R : Room} {s : State} {m : MethodId} {args : Array Value} {below : List Frame} {meth : Method} {c : Code} {D : va_G} {cy : Nat → ClassId} {T0 tB tE : Nat} {A : Nat → Prop} {a : Nat → Nat} {rw : Nat → Option Nat} (hrw : ∀ i, i < 6 → rw i = some (a (12 + 2 * i))) {post : Int32 → KS → Prop} {k27 : KS → Int32 → Int32 → Int32 → Int32 → Prop} {k95 : KS → Prop} (b : Bz p R s m args meth c D cy T0 tB tE A 6 cX11_friends RX11 (some .int) "friends" 6 146 0 0) (hk27 : ∀ (S : KS) (x1 : Int32) (x2 : Int32) (x3 : Int32) (x4 : Int32), k27 S x1 x2 x3 x4 → Z p l e R s m args below meth c D A 6 (MQ below (QI D (U := KS) post (kw cy a rw) A) args s 0 0 A) 0 0 (kw cy a rw S) [(0, .ref (a 0)), (1, .int x1), (2, .int x2), (3, .int x3), (4, .int x4)] 27 []) (hk95 : ∀ (S : KS), k95 S → Z p l e R s m args below meth c D A 6 (MQ below (QI D (U := KS) post (kw cy a rw) A) args s 0 0 A) 0 0 (kw cy a rw S) [] 95 []) (S : KS) (x1 : Int32) (x2 : Int32) (x3 : Int32) (x4 : Int32) (h : w_X11_friends_B89 cy tE post k27 k95 S x1 x2 x3 x4) : Z p l e R s m args below meth c D A 6 (MQ below (QI D (U := KS) post (kw cy a rw) A) args s 0 0 A) 0 0 (kw cy a rw S) [(0, .ref (a 0)), (1, .int x1), (2, .int x2), (3, .int x3), (4, .int x4)] 89 [] := by
  unfold w_X11_friends_B89 at h
  refine z_iinc (k9 := 4) (v := (x4 + 1)) (lv' := [(4, .int (x4 + 1)), (0, .ref (a 0)), (1, .int x1), (2, .int x2), (3, .int x3)]) b dX11_friends_89 rfl rfl (by decide) rfl ?_
  refine z_goto (tgt := 27) b dX11_friends_92 (by decide) ?_
  refine z_lv0 (lv' := [(0, .ref (a 0)), (1, .int x1), (2, .int x2), (3, .int x3), (4, .int (x4 + 1))]) [1, 2, 3, 4, 0] rfl ?_
  exact hk27 _ _ _ _ _ h

def w_X11_friends_F27 (cy : Nat → ClassId) (tE : Nat) (post : Int32 → KS → Prop) (k95 : KS → Prop) (k27 : KS → Int32 → Int32 → Int32 → Int32 → Prop) (S : KS) (x1 : Int32) (x2 : Int32) (x3 : Int32) (x4 : Int32) : Prop :=
  ((3 < x4.toInt → k95 S) ∧ (x4.toInt ≤ 3 → ∃ n, lpn (w_X11_friends_F36 cy tE post (w_X11_friends_B89 cy tE post k27 k95)) (fun _ _ _ _ _ _ => False) n S x1 x2 x3 x4 1))

set_option maxHeartbeats 4000000 in
set_option maxRecDepth 100000 in
theorem z_X11_friends_F27 {p : Program} {l : Launch} {e : Env} {R : Room} {s : State} {m : MethodId} {args : Array Value} {below : List Frame} {meth : Method} {c : Code} {D : va_G} {cy : Nat → ClassId} {T0 tB tE : Nat} {A : Nat → Prop} {a : Nat → Nat} {rw : Nat → Option Nat} (hrw : ∀ i, i < 6 → rw i = some (a (12 + 2 * i))) {post : Int32 → KS → Prop} {k95 : KS → Prop} {k27 : KS → Int32 → Int32 → Int32 → Int32 → Prop} (b : Bz p R s m args meth c D cy T0 tB tE A 6 cX11_friends RX11 (some .int) "friends" 6 146 0 0) (hk95 : ∀ (S : KS), k95 S → Z p l e R s m args below meth c D A 6 (MQ below (QI D (U := KS) post (kw cy a rw) A) args s 0 0 A) 0 0 (kw cy a rw S) [] 95 []) (hk27 : ∀ (S : KS) (x1 : Int32) (x2 : Int32) (x3 : Int32) (x4 : Int32), k27 S x1 x2 x3 x4 → Z p l e R s m args below meth c D A 6 (MQ below (QI D (U := KS) post (kw cy a rw) A) args s 0 0 A) 0 0 (kw cy a rw S) [(0, .ref (a 0)), (1, .int x1), (2, .int x2), (3, .int x3), (4, .int x4)] 27 []) (S : KS) (x1 : Int32) (x2 : Int32) (x3 : Int32) (x4 : Int32) (h : w_X11_friends_F27 cy tE post k95 k27 S x1 x2 x3 x4) : Z p l e R s m args below meth c D A 6 (MQ below (QI D (U := KS) post (kw cy a rw) A) args s 0 0 A) 0 0 (kw cy a rw S) [(0, .ref (a 0)), (1, .int x1), (2, .int x2), (3, .int x3), (4, .int x4)] 27 [] := by
  unfold w_X11_friends_F27 at h
  refine z_iload b dX11_friends_27 rfl ?_
  refine z_iconst (v := 3) b dX11_friends_29 (by decide) ?_
  refine y_icmp_gt (tgt := 95) (xl := x4.toInt) (yl := 3) b rfl (by decide) dX11_friends_30 (by decide) (fun c1 => ?_) (fun c1 => ?_)
  · replace h := h.1 c1
    refine z_lv0 (lv' := []) [] rfl ?_
    exact hk95 _ h
  · replace h := h.2 c1
    refine z_iconst (v := 1) b dX11_friends_33 (by decide) ?_
    refine z_istore (lv' := [(5, .int 1), (0, .ref (a 0)), (1, .int x1), (2, .int x2), (3, .int x3), (4, .int x4)]) b dX11_friends_34 (by decide) rfl ?_
    refine z_lv0 (lv' := [(0, .ref (a 0)), (1, .int x1), (2, .int x2), (3, .int x3), (4, .int x4), (5, .int 1)]) [1, 2, 3, 4, 5, 0] rfl ?_
    obtain ⟨n, h⟩ := h
    exact zl_X11_friends_L36 hrw b (fun S x1 x2 x3 x4 h => z_X11_friends_B89 hrw b hk27 hk95 _ _ _ _ _ h) n _ _ _ _ _ _ h

set_option maxHeartbeats 4000000 in
set_option maxRecDepth 100000 in
theorem zl_X11_friends_L27 {p : Program} {l : Launch} {e : Env} {R : Room} {s : State} {m : MethodId} {args : Array Value} {below : List Frame} {meth : Method} {c : Code} {D : va_G} {cy : Nat → ClassId} {T0 tB tE : Nat} {A : Nat → Prop} {a : Nat → Nat} {rw : Nat → Option Nat} (hrw : ∀ i, i < 6 → rw i = some (a (12 + 2 * i))) {post : Int32 → KS → Prop} {k95 : KS → Prop} (b : Bz p R s m args meth c D cy T0 tB tE A 6 cX11_friends RX11 (some .int) "friends" 6 146 0 0) (hk95 : ∀ (S : KS), k95 S → Z p l e R s m args below meth c D A 6 (MQ below (QI D (U := KS) post (kw cy a rw) A) args s 0 0 A) 0 0 (kw cy a rw S) [] 95 []) : ∀ (n : Nat) (S : KS) (x1 : Int32) (x2 : Int32) (x3 : Int32) (x4 : Int32), lpn (w_X11_friends_F27 cy tE post k95) (fun _ _ _ _ _ => False) n S x1 x2 x3 x4 → Z p l e R s m args below meth c D A 6 (MQ below (QI D (U := KS) post (kw cy a rw) A) args s 0 0 A) 0 0 (kw cy a rw S) [(0, .ref (a 0)), (1, .int x1), (2, .int x2), (3, .int x3), (4, .int x4)] 27 [] := by
  intro n
  induction n with
  | zero => intro _ _ _ _ _ h; exact h.elim
  | succ n ih => intro S x1 x2 x3 x4 h; exact z_X11_friends_F27 hrw b hk95 ih S x1 x2 x3 x4 h

def w_X11_friends_B95 (cy : Nat → ClassId) (tE : Nat) (post : Int32 → KS → Prop) (S : KS)  : Prop :=
  post (-1) S

set_option maxHeartbeats 4000000 in
set_option maxRecDepth 100000 in
theorem z_X11_friends_B95 {p : Program} {l : Launch} {e : Env} {R : Room} {s : State} {m : MethodId} {args : Array Value} {below : List Frame} {meth : Method} {c : Code} {D : va_G} {cy : Nat → ClassId} {T0 tB tE : Nat} {A : Nat → Prop} {a : Nat → Nat} {rw : Nat → Option Nat} (hrw : ∀ i, i < 6 → rw i = some (a (12 + 2 * i))) {post : Int32 → KS → Prop} (b : Bz p R s m args meth c D cy T0 tB tE A 6 cX11_friends RX11 (some .int) "friends" 6 146 0 0) (S : KS)  (h : w_X11_friends_B95 cy tE post S ) : Z p l e R s m args below meth c D A 6 (MQ below (QI D (U := KS) post (kw cy a rw) A) args s 0 0 A) 0 0 (kw cy a rw S) [] 95 [] := by
  unfold w_X11_friends_B95 at h
  refine z_iconst (v := (-1)) b dX11_friends_95 (by decide) ?_
  exact z_iret (u := S) b rfl dX11_friends_96 h rfl (by decide) (by decide)

def w_X11_friends (cy : Nat → ClassId) (tE : Nat) (S : KS) (p0 : Int32) (p1 : Int32) (p2 : Int32) (post : Int32 → KS → Prop) : Prop :=
  w_X11_isNever cy tE S p0 (fun r1 S2 => ((r1.toInt = 0 → w_X11_friends_B22 cy tE post S2) ∧ (r1.toInt ≠ 0 → w_X11_areLaws cy tE S2 p1 (fun r3 S4 => ((r3.toInt = 0 → w_X11_friends_B22 cy tE post S4) ∧ (r3.toInt ≠ 0 → w_X11_isDepth cy tE S4 p2 (fun r5 S6 => ((r5.toInt ≠ 0 → ∃ n, lpn (w_X11_friends_F27 cy tE post (w_X11_friends_B95 cy tE post)) (fun _ _ _ _ _ => False) n S6 p0 p1 p2 1) ∧ (r5.toInt = 0 → w_X11_friends_B22 cy tE post S6)))))))))

set_option maxHeartbeats 4000000 in
set_option maxRecDepth 100000 in
theorem k_X11_friends {l : Launch} {D : va_G} {cy : Nat → ClassId} {T0 tB tE : Nat} {a : Nat → Nat} {rw : Nat → Option Nat} (hrw : ∀ i, i < 6 → rw i = some (a (12 + 2 * i))) (S : KS) (p0 : Int32) (p1 : Int32) (p2 : Int32) (post : Int32 → KS → Prop) (h : w_X11_friends cy tE S p0 p1 p2 post) : Ct l D cy T0 tB tE yX11_friends cX11_friends 6 (some .int) 6 146 0 0 (kw cy a rw S) [.ref (a 0), .int p0, .int p1, .int p2] (QI D (U := KS) post (kw cy a rw)) := by
  refine Ct.ofZ RX11 "friends" [(0, .ref (a 0)), (1, .int p0), (2, .int p1), (3, .int p2)] rfl rfl rfl rfl (Nat.le_of_ble_eq_true rfl) ?_
  intro p e R s m args below meth c A b
  unfold w_X11_friends at h
  refine z_aload_n b dX11_friends_0 rfl rfl ?_
  refine z_iload_n b dX11_friends_1 rfl rfl ?_
  refine z_calli b (z_runV (q0 := 0) (As := [.int p0]) (st := []) b (k_X11_isNever hrw S p0 _ h) cf_X11_isNever (kw_0 cy a rw S) rfl wm_X11_200 wi_X11_isNever ws_X11_isNever dX11_friends_2 rfl (Nat.le_of_ble_eq_true rfl) ⟨by decide, by decide, Nat.le_of_ble_eq_true rfl, Nat.le_of_ble_eq_true rfl⟩) (fun r1 S2 h => ?_)
  refine y_if_eq (tgt := 22) (xl := r1.toInt) b rfl dX11_friends_5 (by decide) (fun c1 => ?_) (fun c1 => ?_)
  · replace h := h.1 c1
    refine z_lv0 (lv' := []) [] rfl ?_
    exact z_X11_friends_B22 hrw b _ h
  · replace h := h.2 c1
    refine z_iload_n b dX11_friends_8 rfl rfl ?_
    refine z_calli b (z_runS (As := [.int p1]) (st := []) b (k_X11_areLaws hrw S2 p1 _ h) cf_X11_areLaws wm_X11_181 ws_X11_areLaws dX11_friends_9 rfl (Nat.le_of_ble_eq_true rfl) ⟨by decide, by decide, Nat.le_of_ble_eq_true rfl, Nat.le_of_ble_eq_true rfl⟩) (fun r3 S4 h => ?_)
    refine y_if_eq (tgt := 22) (xl := r3.toInt) b rfl dX11_friends_12 (by decide) (fun c1 => ?_) (fun c1 => ?_)
    · replace h := h.1 c1
      refine z_lv0 (lv' := []) [] rfl ?_
      exact z_X11_friends_B22 hrw b _ h
    · replace h := h.2 c1
      refine z_iload_n b dX11_friends_15 rfl rfl ?_
      refine z_calli b (z_runS (As := [.int p2]) (st := []) b (k_X11_isDepth hrw S4 p2 _ h) cf_X11_isDepth wm_X11_203 ws_X11_isDepth dX11_friends_16 rfl (Nat.le_of_ble_eq_true rfl) ⟨by decide, by decide, Nat.le_of_ble_eq_true rfl, Nat.le_of_ble_eq_true rfl⟩) (fun r5 S6 h => ?_)
      refine y_if_ne (tgt := 24) (xl := r5.toInt) b rfl dX11_friends_19 (by decide) (fun c1 => ?_) (fun c1 => ?_)
      · replace h := h.1 c1
        refine z_iconst (v := 1) b dX11_friends_24 (by decide) ?_
        refine z_istore (lv' := [(4, .int 1), (0, .ref (a 0)), (1, .int p0), (2, .int p1), (3, .int p2)]) b dX11_friends_25 (by decide) rfl ?_
        refine z_lv0 (lv' := [(0, .ref (a 0)), (1, .int p0), (2, .int p1), (3, .int p2), (4, .int 1)]) [1, 2, 3, 4, 0] rfl ?_
        obtain ⟨n, h⟩ := h
        exact zl_X11_friends_L27 hrw b (fun S h => z_X11_friends_B95 hrw b _ h) n _ _ _ _ _ h
      · replace h := h.2 c1
        refine z_lv0 (lv' := []) [] rfl ?_
        exact z_X11_friends_B22 hrw b _ h

def w_X11_only_B15 (cy : Nat → ClassId) (tE : Nat) (post : Int32 → KS → Prop) (S : KS)  : Prop :=
  post (-1) S

set_option maxHeartbeats 4000000 in
set_option maxRecDepth 100000 in
theorem z_X11_only_B15 {p : Program} {l : Launch} {e : Env} {R : Room} {s : State} {m : MethodId} {args : Array Value} {below : List Frame} {meth : Method} {c : Code} {D : va_G} {cy : Nat → ClassId} {T0 tB tE : Nat} {A : Nat → Prop} {a : Nat → Nat} {rw : Nat → Option Nat} (hrw : ∀ i, i < 6 → rw i = some (a (12 + 2 * i))) {post : Int32 → KS → Prop} (b : Bz p R s m args meth c D cy T0 tB tE A 6 cX11_only RX11 (some .int) "only" 7 169 0 0) (S : KS)  (h : w_X11_only_B15 cy tE post S ) : Z p l e R s m args below meth c D A 6 (MQ below (QI D (U := KS) post (kw cy a rw) A) args s 0 0 A) 0 0 (kw cy a rw S) [] 15 [] := by
  unfold w_X11_only_B15 at h
  refine z_iconst (v := (-1)) b dX11_only_15 (by decide) ?_
  exact z_iret (u := S) b rfl dX11_only_16 h rfl (by decide) (by decide)

def w_X11_only_B63 (cy : Nat → ClassId) (tE : Nat) (post : Int32 → KS → Prop) (S : KS)  : Prop :=
  post (-2) S

set_option maxHeartbeats 4000000 in
set_option maxRecDepth 100000 in
theorem z_X11_only_B63 {p : Program} {l : Launch} {e : Env} {R : Room} {s : State} {m : MethodId} {args : Array Value} {below : List Frame} {meth : Method} {c : Code} {D : va_G} {cy : Nat → ClassId} {T0 tB tE : Nat} {A : Nat → Prop} {a : Nat → Nat} {rw : Nat → Option Nat} (hrw : ∀ i, i < 6 → rw i = some (a (12 + 2 * i))) {post : Int32 → KS → Prop} (b : Bz p R s m args meth c D cy T0 tB tE A 6 cX11_only RX11 (some .int) "only" 7 169 0 0) (S : KS)  (h : w_X11_only_B63 cy tE post S ) : Z p l e R s m args below meth c D A 6 (MQ below (QI D (U := KS) post (kw cy a rw) A) args s 0 0 A) 0 0 (kw cy a rw S) [] 63 [] := by
  unfold w_X11_only_B63 at h
  refine z_bipush (v := (-2)) b dX11_only_63 (by decide) ?_
  exact z_iret (u := S) b rfl dX11_only_65 h rfl (by decide) (by decide)

def w_X11_only_B86 (cy : Nat → ClassId) (tE : Nat) (post : Int32 → KS → Prop) (S : KS) (y0 : Int32) : Prop :=
  post y0 S

set_option maxHeartbeats 4000000 in
set_option maxRecDepth 100000 in
theorem z_X11_only_B86 {p : Program} {l : Launch} {e : Env} {R : Room} {s : State} {m : MethodId} {args : Array Value} {below : List Frame} {meth : Method} {c : Code} {D : va_G} {cy : Nat → ClassId} {T0 tB tE : Nat} {A : Nat → Prop} {a : Nat → Nat} {rw : Nat → Option Nat} (hrw : ∀ i, i < 6 → rw i = some (a (12 + 2 * i))) {post : Int32 → KS → Prop} (b : Bz p R s m args meth c D cy T0 tB tE A 6 cX11_only RX11 (some .int) "only" 7 169 0 0) (S : KS) (y0 : Int32) (h : w_X11_only_B86 cy tE post S y0) : Z p l e R s m args below meth c D A 6 (MQ below (QI D (U := KS) post (kw cy a rw) A) args s 0 0 A) 0 0 (kw cy a rw S) [] 86 [.int y0] := by
  unfold w_X11_only_B86 at h
  exact z_iret (u := S) b rfl dX11_only_86 h rfl (by decide) (by decide)

def w_X11_only_B85 (cy : Nat → ClassId) (tE : Nat) (post : Int32 → KS → Prop) (S : KS)  : Prop :=
  w_X11_only_B86 cy tE post S 0

set_option maxHeartbeats 4000000 in
set_option maxRecDepth 100000 in
theorem z_X11_only_B85 {p : Program} {l : Launch} {e : Env} {R : Room} {s : State} {m : MethodId} {args : Array Value} {below : List Frame} {meth : Method} {c : Code} {D : va_G} {cy : Nat → ClassId} {T0 tB tE : Nat} {A : Nat → Prop} {a : Nat → Nat} {rw : Nat → Option Nat} (hrw : ∀ i, i < 6 → rw i = some (a (12 + 2 * i))) {post : Int32 → KS → Prop} (b : Bz p R s m args meth c D cy T0 tB tE A 6 cX11_only RX11 (some .int) "only" 7 169 0 0) (S : KS)  (h : w_X11_only_B85 cy tE post S ) : Z p l e R s m args below meth c D A 6 (MQ below (QI D (U := KS) post (kw cy a rw) A) args s 0 0 A) 0 0 (kw cy a rw S) [] 85 [] := by
  unfold w_X11_only_B85 at h
  refine z_iconst (v := 0) b dX11_only_85 (by decide) ?_
  exact z_X11_only_B86 hrw b _ _ h

def w_X11_only (cy : Nat → ClassId) (tE : Nat) (S : KS) (p0 : Int32) (p1 : Int32) (post : Int32 → KS → Prop) : Prop :=
  w_X11_isNever cy tE S p0 (fun r1 S2 => ((r1.toInt = 0 → w_X11_only_B15 cy tE post S2) ∧ (r1.toInt ≠ 0 → w_X11_isDepth cy tE S2 p1 (fun r3 S4 => ((r3.toInt ≠ 0 → w_X11_hasHole cy tE S4 p0 3 p1 (fun r5 S6 => w_X11_hasHole cy tE S6 p0 1 p1 (fun r7 S8 => w_X11_hasHole cy tE S8 p0 2 p1 (fun r9 S10 => ((r5.toInt = (-2) → w_X11_only_B63 cy tE post S10) ∧ (r5.toInt ≠ (-2) → ((r7.toInt = (-2) → w_X11_only_B63 cy tE post S10) ∧ (r7.toInt ≠ (-2) → ((r9.toInt ≠ (-2) → ((r5.toInt ≠ 1 → w_X11_only_B85 cy tE post S10) ∧ (r5.toInt = 1 → ((r7.toInt ≠ 0 → w_X11_only_B85 cy tE post S10) ∧ (r7.toInt = 0 → ((r9.toInt ≠ 0 → w_X11_only_B85 cy tE post S10) ∧ (r9.toInt = 0 → w_X11_only_B86 cy tE post S10 1))))))) ∧ (r9.toInt = (-2) → w_X11_only_B63 cy tE post S10)))))))))) ∧ (r3.toInt = 0 → w_X11_only_B15 cy tE post S4))))))

set_option maxHeartbeats 4000000 in
set_option maxRecDepth 100000 in
theorem k_X11_only {l : Launch} {D : va_G} {cy : Nat → ClassId} {T0 tB tE : Nat} {a : Nat → Nat} {rw : Nat → Option Nat} (hrw : ∀ i, i < 6 → rw i = some (a (12 + 2 * i))) (S : KS) (p0 : Int32) (p1 : Int32) (post : Int32 → KS → Prop) (h : w_X11_only cy tE S p0 p1 post) : Ct l D cy T0 tB tE yX11_only cX11_only 6 (some .int) 7 169 0 0 (kw cy a rw S) [.ref (a 0), .int p0, .int p1] (QI D (U := KS) post (kw cy a rw)) := by
  refine Ct.ofZ RX11 "only" [(0, .ref (a 0)), (1, .int p0), (2, .int p1)] rfl rfl rfl rfl (Nat.le_of_ble_eq_true rfl) ?_
  intro p e R s m args below meth c A b
  unfold w_X11_only at h
  refine z_aload_n b dX11_only_0 rfl rfl ?_
  refine z_iload_n b dX11_only_1 rfl rfl ?_
  refine z_calli b (z_runV (q0 := 0) (As := [.int p0]) (st := []) b (k_X11_isNever hrw S p0 _ h) cf_X11_isNever (kw_0 cy a rw S) rfl wm_X11_200 wi_X11_isNever ws_X11_isNever dX11_only_2 rfl (Nat.le_of_ble_eq_true rfl) ⟨by decide, by decide, Nat.le_of_ble_eq_true rfl, Nat.le_of_ble_eq_true rfl⟩) (fun r1 S2 h => ?_)
  refine y_if_eq (tgt := 15) (xl := r1.toInt) b rfl dX11_only_5 (by decide) (fun c1 => ?_) (fun c1 => ?_)
  · replace h := h.1 c1
    refine z_lv0 (lv' := []) [] rfl ?_
    exact z_X11_only_B15 hrw b _ h
  · replace h := h.2 c1
    refine z_iload_n b dX11_only_8 rfl rfl ?_
    refine z_calli b (z_runS (As := [.int p1]) (st := []) b (k_X11_isDepth hrw S2 p1 _ h) cf_X11_isDepth wm_X11_203 ws_X11_isDepth dX11_only_9 rfl (Nat.le_of_ble_eq_true rfl) ⟨by decide, by decide, Nat.le_of_ble_eq_true rfl, Nat.le_of_ble_eq_true rfl⟩) (fun r3 S4 h => ?_)
    refine y_if_ne (tgt := 17) (xl := r3.toInt) b rfl dX11_only_12 (by decide) (fun c1 => ?_) (fun c1 => ?_)
    · replace h := h.1 c1
      refine z_aload_n b dX11_only_17 rfl rfl ?_
      refine z_iload_n b dX11_only_18 rfl rfl ?_
      refine z_iconst (v := 3) b dX11_only_19 (by decide) ?_
      refine z_iload_n b dX11_only_20 rfl rfl ?_
      refine z_calli b (z_runV (q0 := 0) (As := [.int p0, .int 3, .int p1]) (st := []) b (k_X11_hasHole hrw S4 p0 3 p1 _ h) cf_X11_hasHole (kw_0 cy a rw S4) rfl wm_X11_228 wi_X11_hasHole ws_X11_hasHole dX11_only_21 rfl (Nat.le_of_ble_eq_true rfl) ⟨by decide, by decide, Nat.le_of_ble_eq_true rfl, Nat.le_of_ble_eq_true rfl⟩) (fun r5 S6 h => ?_)
      refine z_istore_n (lv' := [(3, .int r5), (0, .ref (a 0)), (1, .int p0), (2, .int p1)]) b dX11_only_24 rfl (by decide) rfl ?_
      refine z_aload_n b dX11_only_25 rfl rfl ?_
      refine z_iload_n b dX11_only_26 rfl rfl ?_
      refine z_iconst (v := 1) b dX11_only_27 (by decide) ?_
      refine z_iload_n b dX11_only_28 rfl rfl ?_
      refine z_calli b (z_runV (q0 := 0) (As := [.int p0, .int 1, .int p1]) (st := []) b (k_X11_hasHole hrw S6 p0 1 p1 _ h) cf_X11_hasHole (kw_0 cy a rw S6) rfl wm_X11_228 wi_X11_hasHole ws_X11_hasHole dX11_only_29 rfl (Nat.le_of_ble_eq_true rfl) ⟨by decide, by decide, Nat.le_of_ble_eq_true rfl, Nat.le_of_ble_eq_true rfl⟩) (fun r7 S8 h => ?_)
      refine z_istore (lv' := [(4, .int r7), (3, .int r5), (0, .ref (a 0)), (1, .int p0), (2, .int p1)]) b dX11_only_32 (by decide) rfl ?_
      refine z_aload_n b dX11_only_34 rfl rfl ?_
      refine z_iload_n b dX11_only_35 rfl rfl ?_
      refine z_iconst (v := 2) b dX11_only_36 (by decide) ?_
      refine z_iload_n b dX11_only_37 rfl rfl ?_
      refine z_calli b (z_runV (q0 := 0) (As := [.int p0, .int 2, .int p1]) (st := []) b (k_X11_hasHole hrw S8 p0 2 p1 _ h) cf_X11_hasHole (kw_0 cy a rw S8) rfl wm_X11_228 wi_X11_hasHole ws_X11_hasHole dX11_only_38 rfl (Nat.le_of_ble_eq_true rfl) ⟨by decide, by decide, Nat.le_of_ble_eq_true rfl, Nat.le_of_ble_eq_true rfl⟩) (fun r9 S10 h => ?_)
      refine z_istore (lv' := [(5, .int r9), (4, .int r7), (3, .int r5), (0, .ref (a 0)), (1, .int p0), (2, .int p1)]) b dX11_only_41 (by decide) rfl ?_
      refine z_iload_n b dX11_only_43 rfl rfl ?_
      refine z_bipush (v := (-2)) b dX11_only_44 (by decide) ?_
      refine y_icmp_eq (tgt := 63) (xl := r5.toInt) (yl := (-2)) b rfl (by decide) dX11_only_46 (by decide) (fun c1 => ?_) (fun c1 => ?_)
      · replace h := h.1 c1
        refine z_lv0 (lv' := []) [] rfl ?_
        exact z_X11_only_B63 hrw b _ h
      · replace h := h.2 c1
        refine z_iload b dX11_only_49 rfl ?_
        refine z_bipush (v := (-2)) b dX11_only_51 (by decide) ?_
        refine y_icmp_eq (tgt := 63) (xl := r7.toInt) (yl := (-2)) b rfl (by decide) dX11_only_53 (by decide) (fun c1 => ?_) (fun c1 => ?_)
        · replace h := h.1 c1
          refine z_lv0 (lv' := []) [] rfl ?_
          exact z_X11_only_B63 hrw b _ h
        · replace h := h.2 c1
          refine z_iload b dX11_only_56 rfl ?_
          refine z_bipush (v := (-2)) b dX11_only_58 (by decide) ?_
          refine y_icmp_ne (tgt := 66) (xl := r9.toInt) (yl := (-2)) b rfl (by decide) dX11_only_60 (by decide) (fun c1 => ?_) (fun c1 => ?_)
          · replace h := h.1 c1
            refine z_iload_n b dX11_only_66 rfl rfl ?_
            refine z_iconst (v := 1) b dX11_only_67 (by decide) ?_
            refine y_icmp_ne (tgt := 85) (xl := r5.toInt) (yl := 1) b rfl (by decide) dX11_only_68 (by decide) (fun c1 => ?_) (fun c1 => ?_)
            · replace h := h.1 c1
              refine z_lv0 (lv' := []) [] rfl ?_
              exact z_X11_only_B85 hrw b _ h
            · replace h := h.2 c1
              refine z_iload b dX11_only_71 rfl ?_
              refine y_if_ne (tgt := 85) (xl := r7.toInt) b rfl dX11_only_73 (by decide) (fun c1 => ?_) (fun c1 => ?_)
              · replace h := h.1 c1
                refine z_lv0 (lv' := []) [] rfl ?_
                exact z_X11_only_B85 hrw b _ h
              · replace h := h.2 c1
                refine z_iload b dX11_only_76 rfl ?_
                refine y_if_ne (tgt := 85) (xl := r9.toInt) b rfl dX11_only_78 (by decide) (fun c1 => ?_) (fun c1 => ?_)
                · replace h := h.1 c1
                  refine z_lv0 (lv' := []) [] rfl ?_
                  exact z_X11_only_B85 hrw b _ h
                · replace h := h.2 c1
                  refine z_iconst (v := 1) b dX11_only_81 (by decide) ?_
                  refine z_goto (tgt := 86) b dX11_only_82 (by decide) ?_
                  refine z_lv0 (lv' := []) [] rfl ?_
                  exact z_X11_only_B86 hrw b _ _ h
          · replace h := h.2 c1
            refine z_lv0 (lv' := []) [] rfl ?_
            exact z_X11_only_B63 hrw b _ h
    · replace h := h.2 c1
      refine z_lv0 (lv' := []) [] rfl ?_
      exact z_X11_only_B15 hrw b _ h

def w_X11_stopsWith_B58 (cy : Nat → ClassId) (tE : Nat) (post : Int32 → KS → Prop) (k3 : KS → Int32 → Int32 → Int32 → Int32 → Prop) (k64 : KS → Int32 → Int32 → Int32 → Prop) (S : KS) (x1 : Int32) (x2 : Int32) (x3 : Int32) (x4 : Int32) : Prop :=
  k3 S x1 x2 x3 (x4 + 1)

set_option maxHeartbeats 4000000 in
set_option maxRecDepth 100000 in
theorem z_X11_stopsWith_B58 {p : Program} {l : Launch} {e : Env} {R : Room} {s : State} {m : MethodId} {args : Array Value} {below : List Frame} {meth : Method} {c : Code} {D : va_G} {cy : Nat → ClassId} {T0 tB tE : Nat} {A : Nat → Prop} {a : Nat → Nat} {rw : Nat → Option Nat} (hrw : ∀ i, i < 6 → rw i = some (a (12 + 2 * i))) {post : Int32 → KS → Prop} {k3 : KS → Int32 → Int32 → Int32 → Int32 → Prop} {k64 : KS → Int32 → Int32 → Int32 → Prop} (b : Bz p R s m args meth c D cy T0 tB tE A 5 cX11_stopsWith RX11 (some .boolean) "stopsWith" 6 146 0 0) (hk3 : ∀ (S : KS) (x1 : Int32) (x2 : Int32) (x3 : Int32) (x4 : Int32), k3 S x1 x2 x3 x4 → Z p l e R s m args below meth c D A 5 (MQ below (QI D (U := KS) post (kw cy a rw) A) args s 0 0 A) 0 0 (kw cy a rw S) [(0, .ref (a 0)), (1, .int x1), (2, .int x2), (3, .int x3), (4, .int x4)] 3 []) (hk64 : ∀ (S : KS) (x1 : Int32) (x2 : Int32) (x3 : Int32), k64 S x1 x2 x3 → Z p l e R s m args below meth c D A 5 (MQ below (QI D (U := KS) post (kw cy a rw) A) args s 0 0 A) 0 0 (kw cy a rw S) [(0, .ref (a 0)), (1, .int x1), (2, .int x2), (3, .int x3)] 64 []) (S : KS) (x1 : Int32) (x2 : Int32) (x3 : Int32) (x4 : Int32) (h : w_X11_stopsWith_B58 cy tE post k3 k64 S x1 x2 x3 x4) : Z p l e R s m args below meth c D A 5 (MQ below (QI D (U := KS) post (kw cy a rw) A) args s 0 0 A) 0 0 (kw cy a rw S) [(0, .ref (a 0)), (1, .int x1), (2, .int x2), (3, .int x3), (4, .int x4)] 58 [] := by
  unfold w_X11_stopsWith_B58 at h
  refine z_iinc (k9 := 4) (v := (x4 + 1)) (lv' := [(4, .int (x4 + 1)), (0, .ref (a 0)), (1, .int x1), (2, .int x2), (3, .int x3)]) b dX11_stopsWith_58 rfl rfl (by decide) rfl ?_
  refine z_goto (tgt := 3) b dX11_stopsWith_61 (by decide) ?_
  refine z_lv0 (lv' := [(0, .ref (a 0)), (1, .int x1), (2, .int x2), (3, .int x3), (4, .int (x4 + 1))]) [1, 2, 3, 4, 0] rfl ?_
  exact hk3 _ _ _ _ _ h

def w_X11_stopsWith_F3 (cy : Nat → ClassId) (tE : Nat) (post : Int32 → KS → Prop) (k64 : KS → Int32 → Int32 → Int32 → Prop) (k3 : KS → Int32 → Int32 → Int32 → Int32 → Prop) (S : KS) (x1 : Int32) (x2 : Int32) (x3 : Int32) (x4 : Int32) : Prop :=
  ((6 ≤ x4.toInt → k64 S x1 x2 x3) ∧ (x4.toInt < 6 → (0 ≤ x4.toInt ∧ x4.toInt < 6) ∧ ((x4.toNatClampNeg) < 7) ∧ (((fi S.1 (2 + 2 * (x4.toNatClampNeg))).toInt = 0 → w_X11_stopsWith_B58 cy tE post k3 k64 S x1 x2 x3 x4) ∧ ((fi S.1 (2 + 2 * (x4.toNatClampNeg))).toInt ≠ 0 → (0 ≤ x4.toInt ∧ x4.toInt < 6) ∧ w_X2_follow cy tE S (x4.toNatClampNeg) 0 3 x3 (fun r6 S7 => (0 ≤ x4.toInt ∧ x4.toInt < 6) ∧ ((x4.toNatClampNeg) < 7) ∧ (((fi S7.1 (1 + 2 * (x4.toNatClampNeg))).toInt ≤ r6.toInt → w_X11_stopsWith_B58 cy tE post k3 k64 S7 x1 x2 x3 x4) ∧ (r6.toInt < (fi S7.1 (1 + 2 * (x4.toNatClampNeg))).toInt → post 0 S7)))))))

set_option maxHeartbeats 4000000 in
set_option maxRecDepth 100000 in
theorem z_X11_stopsWith_F3 {p : Program} {l : Launch} {e : Env} {R : Room} {s : State} {m : MethodId} {args : Array Value} {below : List Frame} {meth : Method} {c : Code} {D : va_G} {cy : Nat → ClassId} {T0 tB tE : Nat} {A : Nat → Prop} {a : Nat → Nat} {rw : Nat → Option Nat} (hrw : ∀ i, i < 6 → rw i = some (a (12 + 2 * i))) {post : Int32 → KS → Prop} {k64 : KS → Int32 → Int32 → Int32 → Prop} {k3 : KS → Int32 → Int32 → Int32 → Int32 → Prop} (b : Bz p R s m args meth c D cy T0 tB tE A 5 cX11_stopsWith RX11 (some .boolean) "stopsWith" 6 146 0 0) (hk64 : ∀ (S : KS) (x1 : Int32) (x2 : Int32) (x3 : Int32), k64 S x1 x2 x3 → Z p l e R s m args below meth c D A 5 (MQ below (QI D (U := KS) post (kw cy a rw) A) args s 0 0 A) 0 0 (kw cy a rw S) [(0, .ref (a 0)), (1, .int x1), (2, .int x2), (3, .int x3)] 64 []) (hk3 : ∀ (S : KS) (x1 : Int32) (x2 : Int32) (x3 : Int32) (x4 : Int32), k3 S x1 x2 x3 x4 → Z p l e R s m args below meth c D A 5 (MQ below (QI D (U := KS) post (kw cy a rw) A) args s 0 0 A) 0 0 (kw cy a rw S) [(0, .ref (a 0)), (1, .int x1), (2, .int x2), (3, .int x3), (4, .int x4)] 3 []) (S : KS) (x1 : Int32) (x2 : Int32) (x3 : Int32) (x4 : Int32) (h : w_X11_stopsWith_F3 cy tE post k64 k3 S x1 x2 x3 x4) : Z p l e R s m args below meth c D A 5 (MQ below (QI D (U := KS) post (kw cy a rw) A) args s 0 0 A) 0 0 (kw cy a rw S) [(0, .ref (a 0)), (1, .int x1), (2, .int x2), (3, .int x3), (4, .int x4)] 3 [] := by
  unfold w_X11_stopsWith_F3 at h
  refine z_iload b dX11_stopsWith_3 rfl ?_
  refine z_bipush (v := 6) b dX11_stopsWith_5 (by decide) ?_
  refine y_icmp_ge (tgt := 64) (xl := x4.toInt) (yl := 6) b rfl (by decide) dX11_stopsWith_7 (by decide) (fun c1 => ?_) (fun c1 => ?_)
  · replace h := h.1 c1
    refine z_lv0 (lv' := [(0, .ref (a 0)), (1, .int x1), (2, .int x2), (3, .int x3)]) [0, 1, 2, 3] rfl ?_
    exact hk64 _ _ _ _ h
  · replace h := h.2 c1
    refine z_aload_n b dX11_stopsWith_10 rfl rfl ?_
    refine z_get (q0 := 0) (k9 := 7) (v := .ref (a 46)) b (kw_0 cy a rw S) rfl in_X11 (by decide) wf_X11_58 rfl dX11_stopsWith_11 ?_
    refine z_iload b dX11_stopsWith_14 rfl ?_
    obtain ⟨g1, h⟩ := h
    refine y_aald (q0 := 46) (t0 := 4) (j := x4.toNatClampNeg) (v := .ref (a (12 + 2 * (x4.toNatClampNeg)))) b (kw_46 cy a rw S) rfl (zx_r g1.1 g1.2) (by rw [hrw _ (zx_lt (zx_r g1.1 g1.2))]; rfl) dX11_stopsWith_16 ?_
    obtain ⟨g3, h⟩ := h
    refine z_get (q0 := 12 + 2 * (x4.toNatClampNeg)) (k9 := 2) (v := .int (fi S.1 (2 + 2 * (x4.toNatClampNeg)))) b (kw_ro cy a rw S g3) rfl in_X7 (by decide) wf_X11_178 rfl dX11_stopsWith_17 ?_
    refine y_if_eq (tgt := 58) (xl := (fi S.1 (2 + 2 * (x4.toNatClampNeg))).toInt) b rfl dX11_stopsWith_20 (by decide) (fun c1 => ?_) (fun c1 => ?_)
    · replace h := h.1 c1
      exact z_X11_stopsWith_B58 hrw b hk3 hk64 _ _ _ _ _ h
    · replace h := h.2 c1
      refine z_aload_n b dX11_stopsWith_23 rfl rfl ?_
      refine z_get (q0 := 0) (k9 := 5) (v := .ref (a 35)) b (kw_0 cy a rw S) rfl in_X11 (by decide) wf_X11_43 rfl dX11_stopsWith_24 ?_
      refine z_aload_n b dX11_stopsWith_27 rfl rfl ?_
      refine z_get (q0 := 0) (k9 := 7) (v := .ref (a 46)) b (kw_0 cy a rw S) rfl in_X11 (by decide) wf_X11_58 rfl dX11_stopsWith_28 ?_
      refine z_iload b dX11_stopsWith_31 rfl ?_
      obtain ⟨g4, h⟩ := h
      refine y_aald (q0 := 46) (t0 := 4) (j := x4.toNatClampNeg) (v := .ref (a (12 + 2 * (x4.toNatClampNeg)))) b (kw_46 cy a rw S) rfl (zx_r g4.1 g4.2) (by rw [hrw _ (zx_lt (zx_r g4.1 g4.2))]; rfl) dX11_stopsWith_33 ?_
      refine z_aload_n b dX11_stopsWith_34 rfl rfl ?_
      refine z_get (q0 := 0) (k9 := 4) (v := .ref (a 2)) b (kw_0 cy a rw S) rfl in_X11 (by decide) wf_X11_34 rfl dX11_stopsWith_35 ?_
      refine z_iconst (v := 3) b dX11_stopsWith_38 (by decide) ?_
      refine z_iload_n b dX11_stopsWith_39 rfl rfl ?_
      refine z_calli b (z_runV (q0 := 35) (As := [.ref (a (12 + 2 * (x4.toNatClampNeg))), .ref (a 2), .int 3, .int x3]) (st := []) b (k_X2_follow hrw S (x4.toNatClampNeg) 0 3 x3 _ h) cf_X2_follow (kw_35 cy a rw S) rfl wm_X11_184 wi_X2_follow ws_X2_follow dX11_stopsWith_40 rfl (Nat.le_of_ble_eq_true rfl) ⟨by decide, by decide, Nat.le_of_ble_eq_true rfl, Nat.le_of_ble_eq_true rfl⟩) (fun r6 S7 h => ?_)
      refine z_aload_n b dX11_stopsWith_43 rfl rfl ?_
      refine z_get (q0 := 0) (k9 := 7) (v := .ref (a 46)) b (kw_0 cy a rw S7) rfl in_X11 (by decide) wf_X11_58 rfl dX11_stopsWith_44 ?_
      refine z_iload b dX11_stopsWith_47 rfl ?_
      obtain ⟨g8, h⟩ := h
      refine y_aald (q0 := 46) (t0 := 4) (j := x4.toNatClampNeg) (v := .ref (a (12 + 2 * (x4.toNatClampNeg)))) b (kw_46 cy a rw S7) rfl (zx_r g8.1 g8.2) (by rw [hrw _ (zx_lt (zx_r g8.1 g8.2))]; rfl) dX11_stopsWith_49 ?_
      obtain ⟨g10, h⟩ := h
      refine z_get (q0 := 12 + 2 * (x4.toNatClampNeg)) (k9 := 1) (v := .int (fi S7.1 (1 + 2 * (x4.toNatClampNeg)))) b (kw_ro cy a rw S7 g10) rfl in_X7 (by decide) wf_X11_175 rfl dX11_stopsWith_50 ?_
      refine y_icmp_ge (tgt := 58) (xl := r6.toInt) (yl := (fi S7.1 (1 + 2 * (x4.toNatClampNeg))).toInt) b rfl rfl dX11_stopsWith_53 (by decide) (fun c1 => ?_) (fun c1 => ?_)
      · replace h := h.1 c1
        exact z_X11_stopsWith_B58 hrw b hk3 hk64 _ _ _ _ _ h
      · replace h := h.2 c1
        refine z_iconst (v := 0) b dX11_stopsWith_56 (by decide) ?_
        exact z_zret (u := S7) b rfl (by decide) dX11_stopsWith_57 h rfl (by decide) (by decide)

set_option maxHeartbeats 4000000 in
set_option maxRecDepth 100000 in
theorem zl_X11_stopsWith_L3 {p : Program} {l : Launch} {e : Env} {R : Room} {s : State} {m : MethodId} {args : Array Value} {below : List Frame} {meth : Method} {c : Code} {D : va_G} {cy : Nat → ClassId} {T0 tB tE : Nat} {A : Nat → Prop} {a : Nat → Nat} {rw : Nat → Option Nat} (hrw : ∀ i, i < 6 → rw i = some (a (12 + 2 * i))) {post : Int32 → KS → Prop} {k64 : KS → Int32 → Int32 → Int32 → Prop} (b : Bz p R s m args meth c D cy T0 tB tE A 5 cX11_stopsWith RX11 (some .boolean) "stopsWith" 6 146 0 0) (hk64 : ∀ (S : KS) (x1 : Int32) (x2 : Int32) (x3 : Int32), k64 S x1 x2 x3 → Z p l e R s m args below meth c D A 5 (MQ below (QI D (U := KS) post (kw cy a rw) A) args s 0 0 A) 0 0 (kw cy a rw S) [(0, .ref (a 0)), (1, .int x1), (2, .int x2), (3, .int x3)] 64 []) : ∀ (n : Nat) (S : KS) (x1 : Int32) (x2 : Int32) (x3 : Int32) (x4 : Int32), lpn (w_X11_stopsWith_F3 cy tE post k64) (fun _ _ _ _ _ => False) n S x1 x2 x3 x4 → Z p l e R s m args below meth c D A 5 (MQ below (QI D (U := KS) post (kw cy a rw) A) args s 0 0 A) 0 0 (kw cy a rw S) [(0, .ref (a 0)), (1, .int x1), (2, .int x2), (3, .int x3), (4, .int x4)] 3 [] := by
  intro n
  induction n with
  | zero => intro _ _ _ _ _ h; exact h.elim
  | succ n ih => intro S x1 x2 x3 x4 h; exact z_X11_stopsWith_F3 hrw b hk64 ih S x1 x2 x3 x4 h

def w_X11_stopsWith_B103 (cy : Nat → ClassId) (tE : Nat) (post : Int32 → KS → Prop) (S : KS) (y0 : Int32) : Prop :=
  (y0 = 0 ∨ y0 = 1) ∧ post y0 S

set_option maxHeartbeats 4000000 in
set_option maxRecDepth 100000 in
theorem z_X11_stopsWith_B103 {p : Program} {l : Launch} {e : Env} {R : Room} {s : State} {m : MethodId} {args : Array Value} {below : List Frame} {meth : Method} {c : Code} {D : va_G} {cy : Nat → ClassId} {T0 tB tE : Nat} {A : Nat → Prop} {a : Nat → Nat} {rw : Nat → Option Nat} (hrw : ∀ i, i < 6 → rw i = some (a (12 + 2 * i))) {post : Int32 → KS → Prop} (b : Bz p R s m args meth c D cy T0 tB tE A 5 cX11_stopsWith RX11 (some .boolean) "stopsWith" 6 146 0 0) (S : KS) (y0 : Int32) (h : w_X11_stopsWith_B103 cy tE post S y0) : Z p l e R s m args below meth c D A 5 (MQ below (QI D (U := KS) post (kw cy a rw) A) args s 0 0 A) 0 0 (kw cy a rw S) [] 103 [.int y0] := by
  unfold w_X11_stopsWith_B103 at h
  obtain ⟨g15, h⟩ := h
  exact z_zret (u := S) b rfl (z_bool g15) dX11_stopsWith_103 h rfl (by decide) (by decide)

def w_X11_stopsWith_B102 (cy : Nat → ClassId) (tE : Nat) (post : Int32 → KS → Prop) (S : KS)  : Prop :=
  w_X11_stopsWith_B103 cy tE post S 0

set_option maxHeartbeats 4000000 in
set_option maxRecDepth 100000 in
theorem z_X11_stopsWith_B102 {p : Program} {l : Launch} {e : Env} {R : Room} {s : State} {m : MethodId} {args : Array Value} {below : List Frame} {meth : Method} {c : Code} {D : va_G} {cy : Nat → ClassId} {T0 tB tE : Nat} {A : Nat → Prop} {a : Nat → Nat} {rw : Nat → Option Nat} (hrw : ∀ i, i < 6 → rw i = some (a (12 + 2 * i))) {post : Int32 → KS → Prop} (b : Bz p R s m args meth c D cy T0 tB tE A 5 cX11_stopsWith RX11 (some .boolean) "stopsWith" 6 146 0 0) (S : KS)  (h : w_X11_stopsWith_B102 cy tE post S ) : Z p l e R s m args below meth c D A 5 (MQ below (QI D (U := KS) post (kw cy a rw) A) args s 0 0 A) 0 0 (kw cy a rw S) [] 102 [] := by
  unfold w_X11_stopsWith_B102 at h
  refine z_iconst (v := 0) b dX11_stopsWith_102 (by decide) ?_
  exact z_X11_stopsWith_B103 hrw b _ _ h

def w_X11_stopsWith_B64 (cy : Nat → ClassId) (tE : Nat) (post : Int32 → KS → Prop) (S : KS) (x1 : Int32) (x2 : Int32) (x3 : Int32) : Prop :=
  w_X8_begin cy tE S 3 x2 7 x3 (fun S12 => w_X8_first cy tE S12 x1 (fun r13 S14 => ((r13.toInt ≠ (-1) → w_X11_stopsWith_B102 cy tE post S14) ∧ (r13.toInt = (-1) → (((fi S14.1 34).toInt ≠ 0 → w_X11_stopsWith_B102 cy tE post S14) ∧ ((fi S14.1 34).toInt = 0 → w_X11_stopsWith_B103 cy tE post S14 1))))))

set_option maxHeartbeats 4000000 in
set_option maxRecDepth 100000 in
theorem z_X11_stopsWith_B64 {p : Program} {l : Launch} {e : Env} {R : Room} {s : State} {m : MethodId} {args : Array Value} {below : List Frame} {meth : Method} {c : Code} {D : va_G} {cy : Nat → ClassId} {T0 tB tE : Nat} {A : Nat → Prop} {a : Nat → Nat} {rw : Nat → Option Nat} (hrw : ∀ i, i < 6 → rw i = some (a (12 + 2 * i))) {post : Int32 → KS → Prop} (b : Bz p R s m args meth c D cy T0 tB tE A 5 cX11_stopsWith RX11 (some .boolean) "stopsWith" 6 146 0 0) (S : KS) (x1 : Int32) (x2 : Int32) (x3 : Int32) (h : w_X11_stopsWith_B64 cy tE post S x1 x2 x3) : Z p l e R s m args below meth c D A 5 (MQ below (QI D (U := KS) post (kw cy a rw) A) args s 0 0 A) 0 0 (kw cy a rw S) [(0, .ref (a 0)), (1, .int x1), (2, .int x2), (3, .int x3)] 64 [] := by
  unfold w_X11_stopsWith_B64 at h
  refine z_aload_n b dX11_stopsWith_64 rfl rfl ?_
  refine z_get (q0 := 0) (k9 := 6) (v := .ref (a 38)) b (kw_0 cy a rw S) rfl in_X11 (by decide) wf_X11_52 rfl dX11_stopsWith_65 ?_
  refine z_iconst (v := 3) b dX11_stopsWith_68 (by decide) ?_
  refine z_iload_n b dX11_stopsWith_69 rfl rfl ?_
  refine z_bipush (v := 7) b dX11_stopsWith_70 (by decide) ?_
  refine z_iload_n b dX11_stopsWith_72 rfl rfl ?_
  refine z_callv b (z_runV (q0 := 38) (As := [.int 3, .int x2, .int 7, .int x3]) (st := []) b (k_X8_begin hrw S 3 x2 7 x3 _ h) cf_X8_begin (kw_38 cy a rw S) rfl wm_X11_206 wi_X8_begin ws_X8_begin dX11_stopsWith_73 rfl (Nat.le_of_ble_eq_true rfl) ⟨by decide, by decide, Nat.le_of_ble_eq_true rfl, Nat.le_of_ble_eq_true rfl⟩) (fun S12 h => ?_)
  refine z_aload_n b dX11_stopsWith_76 rfl rfl ?_
  refine z_get (q0 := 0) (k9 := 6) (v := .ref (a 38)) b (kw_0 cy a rw S12) rfl in_X11 (by decide) wf_X11_52 rfl dX11_stopsWith_77 ?_
  refine z_iload_n b dX11_stopsWith_80 rfl rfl ?_
  refine z_calli b (z_runV (q0 := 38) (As := [.int x1]) (st := []) b (k_X8_first hrw S12 x1 _ h) cf_X8_first (kw_38 cy a rw S12) rfl wm_X11_210 wi_X8_first ws_X8_first dX11_stopsWith_81 rfl (Nat.le_of_ble_eq_true rfl) ⟨by decide, by decide, Nat.le_of_ble_eq_true rfl, Nat.le_of_ble_eq_true rfl⟩) (fun r13 S14 h => ?_)
  refine z_iconst (v := (-1)) b dX11_stopsWith_84 (by decide) ?_
  refine y_icmp_ne (tgt := 102) (xl := r13.toInt) (yl := (-1)) b rfl (by decide) dX11_stopsWith_85 (by decide) (fun c1 => ?_) (fun c1 => ?_)
  · replace h := h.1 c1
    refine z_lv0 (lv' := []) [] rfl ?_
    exact z_X11_stopsWith_B102 hrw b _ h
  · replace h := h.2 c1
    refine z_aload_n b dX11_stopsWith_88 rfl rfl ?_
    refine z_get (q0 := 0) (k9 := 6) (v := .ref (a 38)) b (kw_0 cy a rw S14) rfl in_X11 (by decide) wf_X11_52 rfl dX11_stopsWith_89 ?_
    refine z_get (q0 := 38) (k9 := 18) (v := .int (fi S14.1 34)) b (kw_38 cy a rw S14) rfl in_X8 (by decide) wf_X11_214 rfl dX11_stopsWith_92 ?_
    refine y_if_ne (tgt := 102) (xl := (fi S14.1 34).toInt) b rfl dX11_stopsWith_95 (by decide) (fun c1 => ?_) (fun c1 => ?_)
    · replace h := h.1 c1
      refine z_lv0 (lv' := []) [] rfl ?_
      exact z_X11_stopsWith_B102 hrw b _ h
    · replace h := h.2 c1
      refine z_iconst (v := 1) b dX11_stopsWith_98 (by decide) ?_
      refine z_goto (tgt := 103) b dX11_stopsWith_99 (by decide) ?_
      refine z_lv0 (lv' := []) [] rfl ?_
      exact z_X11_stopsWith_B103 hrw b _ _ h

def w_X11_stopsWith (cy : Nat → ClassId) (tE : Nat) (S : KS) (p0 : Int32) (p1 : Int32) (p2 : Int32) (post : Int32 → KS → Prop) : Prop :=
  ∃ n, lpn (w_X11_stopsWith_F3 cy tE post (w_X11_stopsWith_B64 cy tE post)) (fun _ _ _ _ _ => False) n S p0 p1 p2 0

set_option maxHeartbeats 4000000 in
set_option maxRecDepth 100000 in
theorem k_X11_stopsWith {l : Launch} {D : va_G} {cy : Nat → ClassId} {T0 tB tE : Nat} {a : Nat → Nat} {rw : Nat → Option Nat} (hrw : ∀ i, i < 6 → rw i = some (a (12 + 2 * i))) (S : KS) (p0 : Int32) (p1 : Int32) (p2 : Int32) (post : Int32 → KS → Prop) (h : w_X11_stopsWith cy tE S p0 p1 p2 post) : Ct l D cy T0 tB tE yX11_stopsWith cX11_stopsWith 5 (some .boolean) 6 146 0 0 (kw cy a rw S) [.ref (a 0), .int p0, .int p1, .int p2] (QI D (U := KS) post (kw cy a rw)) := by
  refine Ct.ofZ RX11 "stopsWith" [(0, .ref (a 0)), (1, .int p0), (2, .int p1), (3, .int p2)] rfl rfl rfl rfl (Nat.le_of_ble_eq_true rfl) ?_
  intro p e R s m args below meth c A b
  unfold w_X11_stopsWith at h
  refine z_iconst (v := 0) b dX11_stopsWith_0 (by decide) ?_
  refine z_istore (lv' := [(4, .int 0), (0, .ref (a 0)), (1, .int p0), (2, .int p1), (3, .int p2)]) b dX11_stopsWith_1 (by decide) rfl ?_
  refine z_lv0 (lv' := [(0, .ref (a 0)), (1, .int p0), (2, .int p1), (3, .int p2), (4, .int 0)]) [1, 2, 3, 4, 0] rfl ?_
  obtain ⟨n, h⟩ := h
  exact zl_X11_stopsWith_L3 hrw b (fun S x1 x2 x3 h => z_X11_stopsWith_B64 hrw b _ _ _ _ h) n _ _ _ _ _ h

def w_X11_stop_B23 (cy : Nat → ClassId) (tE : Nat) (post : Int32 → KS → Prop) (S : KS)  : Prop :=
  post (-1) S

set_option maxHeartbeats 4000000 in
set_option maxRecDepth 100000 in
theorem z_X11_stop_B23 {p : Program} {l : Launch} {e : Env} {R : Room} {s : State} {m : MethodId} {args : Array Value} {below : List Frame} {meth : Method} {c : Code} {D : va_G} {cy : Nat → ClassId} {T0 tB tE : Nat} {A : Nat → Prop} {a : Nat → Nat} {rw : Nat → Option Nat} (hrw : ∀ i, i < 6 → rw i = some (a (12 + 2 * i))) {post : Int32 → KS → Prop} (b : Bz p R s m args meth c D cy T0 tB tE A 7 cX11_stop RX11 (some .int) "stop" 7 170 0 0) (S : KS)  (h : w_X11_stop_B23 cy tE post S ) : Z p l e R s m args below meth c D A 7 (MQ below (QI D (U := KS) post (kw cy a rw) A) args s 0 0 A) 0 0 (kw cy a rw S) [] 23 [] := by
  unfold w_X11_stop_B23 at h
  refine z_iconst (v := (-1)) b dX11_stop_23 (by decide) ?_
  exact z_iret (u := S) b rfl dX11_stop_24 h rfl (by decide) (by decide)

def w_X11_stop_B100 (cy : Nat → ClassId) (tE : Nat) (post : Int32 → KS → Prop) (k60 : KS → Int32 → Int32 → Int32 → Int32 → Int32 → Int32 → Prop) (k106 : KS → Int32 → Int32 → Int32 → Int32 → Int32 → Prop) (S : KS) (x1 : Int32) (x2 : Int32) (x3 : Int32) (x4 : Int32) (x5 : Int32) (x6 : Int32) : Prop :=
  k60 S x1 x2 x3 x4 x5 (x6 + 1)

set_option maxHeartbeats 4000000 in
set_option maxRecDepth 100000 in
theorem z_X11_stop_B100 {p : Program} {l : Launch} {e : Env} {R : Room} {s : State} {m : MethodId} {args : Array Value} {below : List Frame} {meth : Method} {c : Code} {D : va_G} {cy : Nat → ClassId} {T0 tB tE : Nat} {A : Nat → Prop} {a : Nat → Nat} {rw : Nat → Option Nat} (hrw : ∀ i, i < 6 → rw i = some (a (12 + 2 * i))) {post : Int32 → KS → Prop} {k60 : KS → Int32 → Int32 → Int32 → Int32 → Int32 → Int32 → Prop} {k106 : KS → Int32 → Int32 → Int32 → Int32 → Int32 → Prop} (b : Bz p R s m args meth c D cy T0 tB tE A 7 cX11_stop RX11 (some .int) "stop" 7 170 0 0) (hk60 : ∀ (S : KS) (x1 : Int32) (x2 : Int32) (x3 : Int32) (x4 : Int32) (x5 : Int32) (x6 : Int32), k60 S x1 x2 x3 x4 x5 x6 → Z p l e R s m args below meth c D A 7 (MQ below (QI D (U := KS) post (kw cy a rw) A) args s 0 0 A) 0 0 (kw cy a rw S) [(0, .ref (a 0)), (1, .int x1), (2, .int x2), (3, .int x3), (4, .int x4), (5, .int x5), (6, .int x6)] 60 []) (hk106 : ∀ (S : KS) (x1 : Int32) (x2 : Int32) (x3 : Int32) (x4 : Int32) (x5 : Int32), k106 S x1 x2 x3 x4 x5 → Z p l e R s m args below meth c D A 7 (MQ below (QI D (U := KS) post (kw cy a rw) A) args s 0 0 A) 0 0 (kw cy a rw S) [(0, .ref (a 0)), (1, .int x1), (2, .int x2), (3, .int x3), (4, .int x4), (5, .int x5)] 106 []) (S : KS) (x1 : Int32) (x2 : Int32) (x3 : Int32) (x4 : Int32) (x5 : Int32) (x6 : Int32) (h : w_X11_stop_B100 cy tE post k60 k106 S x1 x2 x3 x4 x5 x6) : Z p l e R s m args below meth c D A 7 (MQ below (QI D (U := KS) post (kw cy a rw) A) args s 0 0 A) 0 0 (kw cy a rw S) [(0, .ref (a 0)), (1, .int x1), (2, .int x2), (3, .int x3), (4, .int x4), (5, .int x5), (6, .int x6)] 100 [] := by
  unfold w_X11_stop_B100 at h
  refine z_iinc (k9 := 6) (v := (x6 + 1)) (lv' := [(6, .int (x6 + 1)), (0, .ref (a 0)), (1, .int x1), (2, .int x2), (3, .int x3), (4, .int x4), (5, .int x5)]) b dX11_stop_100 rfl rfl (by decide) rfl ?_
  refine z_goto (tgt := 60) b dX11_stop_103 (by decide) ?_
  refine z_lv0 (lv' := [(0, .ref (a 0)), (1, .int x1), (2, .int x2), (3, .int x3), (4, .int x4), (5, .int x5), (6, .int (x6 + 1))]) [1, 2, 3, 4, 5, 6, 0] rfl ?_
  exact hk60 _ _ _ _ _ _ _ h

def w_X11_stop_B99 (cy : Nat → ClassId) (tE : Nat) (post : Int32 → KS → Prop) (k60 : KS → Int32 → Int32 → Int32 → Int32 → Int32 → Int32 → Prop) (k106 : KS → Int32 → Int32 → Int32 → Int32 → Int32 → Prop) (S : KS) (y0 : Int32) : Prop :=
  post y0 S

set_option maxHeartbeats 4000000 in
set_option maxRecDepth 100000 in
theorem z_X11_stop_B99 {p : Program} {l : Launch} {e : Env} {R : Room} {s : State} {m : MethodId} {args : Array Value} {below : List Frame} {meth : Method} {c : Code} {D : va_G} {cy : Nat → ClassId} {T0 tB tE : Nat} {A : Nat → Prop} {a : Nat → Nat} {rw : Nat → Option Nat} (hrw : ∀ i, i < 6 → rw i = some (a (12 + 2 * i))) {post : Int32 → KS → Prop} {k60 : KS → Int32 → Int32 → Int32 → Int32 → Int32 → Int32 → Prop} {k106 : KS → Int32 → Int32 → Int32 → Int32 → Int32 → Prop} (b : Bz p R s m args meth c D cy T0 tB tE A 7 cX11_stop RX11 (some .int) "stop" 7 170 0 0) (hk60 : ∀ (S : KS) (x1 : Int32) (x2 : Int32) (x3 : Int32) (x4 : Int32) (x5 : Int32) (x6 : Int32), k60 S x1 x2 x3 x4 x5 x6 → Z p l e R s m args below meth c D A 7 (MQ below (QI D (U := KS) post (kw cy a rw) A) args s 0 0 A) 0 0 (kw cy a rw S) [(0, .ref (a 0)), (1, .int x1), (2, .int x2), (3, .int x3), (4, .int x4), (5, .int x5), (6, .int x6)] 60 []) (hk106 : ∀ (S : KS) (x1 : Int32) (x2 : Int32) (x3 : Int32) (x4 : Int32) (x5 : Int32), k106 S x1 x2 x3 x4 x5 → Z p l e R s m args below meth c D A 7 (MQ below (QI D (U := KS) post (kw cy a rw) A) args s 0 0 A) 0 0 (kw cy a rw S) [(0, .ref (a 0)), (1, .int x1), (2, .int x2), (3, .int x3), (4, .int x4), (5, .int x5)] 106 []) (S : KS) (y0 : Int32) (h : w_X11_stop_B99 cy tE post k60 k106 S y0) : Z p l e R s m args below meth c D A 7 (MQ below (QI D (U := KS) post (kw cy a rw) A) args s 0 0 A) 0 0 (kw cy a rw S) [] 99 [.int y0] := by
  unfold w_X11_stop_B99 at h
  exact z_iret (u := S) b rfl dX11_stop_99 h rfl (by decide) (by decide)

def w_X11_stop_F60 (cy : Nat → ClassId) (tE : Nat) (post : Int32 → KS → Prop) (k106 : KS → Int32 → Int32 → Int32 → Int32 → Int32 → Prop) (k60 : KS → Int32 → Int32 → Int32 → Int32 → Int32 → Int32 → Prop) (S : KS) (x1 : Int32) (x2 : Int32) (x3 : Int32) (x4 : Int32) (x5 : Int32) (x6 : Int32) : Prop :=
  ((x4.toInt ≤ x6.toInt → k106 S x1 x2 x3 x4 x5) ∧ (x6.toInt < x4.toInt → w_J6_bitCount_0f7a4 cy tE S x6 (fun r17 S18 => ((r17.toInt ≠ x5.toInt → w_X11_stop_B100 cy tE post k60 k106 S18 x1 x2 x3 x4 x5 x6) ∧ (r17.toInt = x5.toInt → w_X11_stopsWith cy tE S18 x1 x2 x6 (fun r19 S20 => ((r19.toInt = 0 → w_X11_stop_B100 cy tE post k60 k106 S20 x1 x2 x3 x4 x5 x6) ∧ (r19.toInt ≠ 0 → ((x3.toInt ≠ 0 → w_X11_stop_B99 cy tE post k60 k106 S20 x5) ∧ (x3.toInt = 0 → w_X11_stop_B99 cy tE post k60 k106 S20 x6))))))))))

set_option maxHeartbeats 4000000 in
set_option maxRecDepth 100000 in
theorem z_X11_stop_F60 {p : Program} {l : Launch} {e : Env} {R : Room} {s : State} {m : MethodId} {args : Array Value} {below : List Frame} {meth : Method} {c : Code} {D : va_G} {cy : Nat → ClassId} {T0 tB tE : Nat} {A : Nat → Prop} {a : Nat → Nat} {rw : Nat → Option Nat} (hrw : ∀ i, i < 6 → rw i = some (a (12 + 2 * i))) {post : Int32 → KS → Prop} {k106 : KS → Int32 → Int32 → Int32 → Int32 → Int32 → Prop} {k60 : KS → Int32 → Int32 → Int32 → Int32 → Int32 → Int32 → Prop} (b : Bz p R s m args meth c D cy T0 tB tE A 7 cX11_stop RX11 (some .int) "stop" 7 170 0 0) (hk106 : ∀ (S : KS) (x1 : Int32) (x2 : Int32) (x3 : Int32) (x4 : Int32) (x5 : Int32), k106 S x1 x2 x3 x4 x5 → Z p l e R s m args below meth c D A 7 (MQ below (QI D (U := KS) post (kw cy a rw) A) args s 0 0 A) 0 0 (kw cy a rw S) [(0, .ref (a 0)), (1, .int x1), (2, .int x2), (3, .int x3), (4, .int x4), (5, .int x5)] 106 []) (hk60 : ∀ (S : KS) (x1 : Int32) (x2 : Int32) (x3 : Int32) (x4 : Int32) (x5 : Int32) (x6 : Int32), k60 S x1 x2 x3 x4 x5 x6 → Z p l e R s m args below meth c D A 7 (MQ below (QI D (U := KS) post (kw cy a rw) A) args s 0 0 A) 0 0 (kw cy a rw S) [(0, .ref (a 0)), (1, .int x1), (2, .int x2), (3, .int x3), (4, .int x4), (5, .int x5), (6, .int x6)] 60 []) (S : KS) (x1 : Int32) (x2 : Int32) (x3 : Int32) (x4 : Int32) (x5 : Int32) (x6 : Int32) (h : w_X11_stop_F60 cy tE post k106 k60 S x1 x2 x3 x4 x5 x6) : Z p l e R s m args below meth c D A 7 (MQ below (QI D (U := KS) post (kw cy a rw) A) args s 0 0 A) 0 0 (kw cy a rw S) [(0, .ref (a 0)), (1, .int x1), (2, .int x2), (3, .int x3), (4, .int x4), (5, .int x5), (6, .int x6)] 60 [] := by
  unfold w_X11_stop_F60 at h
  refine z_iload b dX11_stop_60 rfl ?_
  refine z_iload b dX11_stop_62 rfl ?_
  refine y_icmp_ge (tgt := 106) (xl := x6.toInt) (yl := x4.toInt) b rfl rfl dX11_stop_64 (by decide) (fun c1 => ?_) (fun c1 => ?_)
  · replace h := h.1 c1
    refine z_lv0 (lv' := [(0, .ref (a 0)), (1, .int x1), (2, .int x2), (3, .int x3), (4, .int x4), (5, .int x5)]) [0, 1, 2, 3, 4, 5] rfl ?_
    exact hk106 _ _ _ _ _ _ h
  · replace h := h.2 c1
    refine z_iload b dX11_stop_67 rfl ?_
    refine z_calli b (z_runS (As := [.int x6]) (st := []) b (k_J6_bitCount_0f7a4 hrw S x6 _ h) cf_J6_bitCount_0f7a4 wm_X11_223 ws_J6_bitCount_0f7a4 dX11_stop_69 rfl (Nat.le_of_ble_eq_true rfl) ⟨by decide, by decide, Nat.le_of_ble_eq_true rfl, Nat.le_of_ble_eq_true rfl⟩) (fun r17 S18 h => ?_)
    refine z_iload b dX11_stop_72 rfl ?_
    refine y_icmp_ne (tgt := 100) (xl := r17.toInt) (yl := x5.toInt) b rfl rfl dX11_stop_74 (by decide) (fun c1 => ?_) (fun c1 => ?_)
    · replace h := h.1 c1
      exact z_X11_stop_B100 hrw b hk60 hk106 _ _ _ _ _ _ _ h
    · replace h := h.2 c1
      refine z_aload_n b dX11_stop_77 rfl rfl ?_
      refine z_iload_n b dX11_stop_78 rfl rfl ?_
      refine z_iload_n b dX11_stop_79 rfl rfl ?_
      refine z_iload b dX11_stop_80 rfl ?_
      refine z_calli b (z_runV (q0 := 0) (As := [.int x1, .int x2, .int x6]) (st := []) b (k_X11_stopsWith hrw S18 x1 x2 x6 _ h) cf_X11_stopsWith (kw_0 cy a rw S18) rfl wm_X11_244 wi_X11_stopsWith ws_X11_stopsWith dX11_stop_82 rfl (Nat.le_of_ble_eq_true rfl) ⟨by decide, by decide, Nat.le_of_ble_eq_true rfl, Nat.le_of_ble_eq_true rfl⟩) (fun r19 S20 h => ?_)
      refine y_if_eq (tgt := 100) (xl := r19.toInt) b rfl dX11_stop_85 (by decide) (fun c1 => ?_) (fun c1 => ?_)
      · replace h := h.1 c1
        exact z_X11_stop_B100 hrw b hk60 hk106 _ _ _ _ _ _ _ h
      · replace h := h.2 c1
        refine z_iload_n b dX11_stop_88 rfl rfl ?_
        refine y_if_ne (tgt := 97) (xl := x3.toInt) b rfl dX11_stop_89 (by decide) (fun c1 => ?_) (fun c1 => ?_)
        · replace h := h.1 c1
          refine z_iload b dX11_stop_97 rfl ?_
          refine z_lv0 (lv' := []) [] rfl ?_
          exact z_X11_stop_B99 hrw b hk60 hk106 _ _ h
        · replace h := h.2 c1
          refine z_iload b dX11_stop_92 rfl ?_
          refine z_goto (tgt := 99) b dX11_stop_94 (by decide) ?_
          refine z_lv0 (lv' := []) [] rfl ?_
          exact z_X11_stop_B99 hrw b hk60 hk106 _ _ h

set_option maxHeartbeats 4000000 in
set_option maxRecDepth 100000 in
theorem zl_X11_stop_L60 {p : Program} {l : Launch} {e : Env} {R : Room} {s : State} {m : MethodId} {args : Array Value} {below : List Frame} {meth : Method} {c : Code} {D : va_G} {cy : Nat → ClassId} {T0 tB tE : Nat} {A : Nat → Prop} {a : Nat → Nat} {rw : Nat → Option Nat} (hrw : ∀ i, i < 6 → rw i = some (a (12 + 2 * i))) {post : Int32 → KS → Prop} {k106 : KS → Int32 → Int32 → Int32 → Int32 → Int32 → Prop} (b : Bz p R s m args meth c D cy T0 tB tE A 7 cX11_stop RX11 (some .int) "stop" 7 170 0 0) (hk106 : ∀ (S : KS) (x1 : Int32) (x2 : Int32) (x3 : Int32) (x4 : Int32) (x5 : Int32), k106 S x1 x2 x3 x4 x5 → Z p l e R s m args below meth c D A 7 (MQ below (QI D (U := KS) post (kw cy a rw) A) args s 0 0 A) 0 0 (kw cy a rw S) [(0, .ref (a 0)), (1, .int x1), (2, .int x2), (3, .int x3), (4, .int x4), (5, .int x5)] 106 []) : ∀ (n : Nat) (S : KS) (x1 : Int32) (x2 : Int32) (x3 : Int32) (x4 : Int32) (x5 : Int32) (x6 : Int32), lpn (w_X11_stop_F60 cy tE post k106) (fun _ _ _ _ _ _ _ => False) n S x1 x2 x3 x4 x5 x6 → Z p l e R s m args below meth c D A 7 (MQ below (QI D (U := KS) post (kw cy a rw) A) args s 0 0 A) 0 0 (kw cy a rw S) [(0, .ref (a 0)), (1, .int x1), (2, .int x2), (3, .int x3), (4, .int x4), (5, .int x5), (6, .int x6)] 60 [] := by
  intro n
  induction n with
  | zero => intro _ _ _ _ _ _ _ h; exact h.elim
  | succ n ih => intro S x1 x2 x3 x4 x5 x6 h; exact z_X11_stop_F60 hrw b hk106 ih S x1 x2 x3 x4 x5 x6 h

def w_X11_stop_B106 (cy : Nat → ClassId) (tE : Nat) (post : Int32 → KS → Prop) (k42 : KS → Int32 → Int32 → Int32 → Int32 → Int32 → Prop) (k112 : KS → Prop) (S : KS) (x1 : Int32) (x2 : Int32) (x3 : Int32) (x4 : Int32) (x5 : Int32) : Prop :=
  k42 S x1 x2 x3 x4 (x5 + 1)

set_option maxHeartbeats 4000000 in
set_option maxRecDepth 100000 in
theorem z_X11_stop_B106 {p : Program} {l : Launch} {e : Env} {R : Room} {s : State} {m : MethodId} {args : Array Value} {below : List Frame} {meth : Method} {c : Code} {D : va_G} {cy : Nat → ClassId} {T0 tB tE : Nat} {A : Nat → Prop} {a : Nat → Nat} {rw : Nat → Option Nat} (hrw : ∀ i, i < 6 → rw i = some (a (12 + 2 * i))) {post : Int32 → KS → Prop} {k42 : KS → Int32 → Int32 → Int32 → Int32 → Int32 → Prop} {k112 : KS → Prop} (b : Bz p R s m args meth c D cy T0 tB tE A 7 cX11_stop RX11 (some .int) "stop" 7 170 0 0) (hk42 : ∀ (S : KS) (x1 : Int32) (x2 : Int32) (x3 : Int32) (x4 : Int32) (x5 : Int32), k42 S x1 x2 x3 x4 x5 → Z p l e R s m args below meth c D A 7 (MQ below (QI D (U := KS) post (kw cy a rw) A) args s 0 0 A) 0 0 (kw cy a rw S) [(0, .ref (a 0)), (1, .int x1), (2, .int x2), (3, .int x3), (4, .int x4), (5, .int x5)] 42 []) (hk112 : ∀ (S : KS), k112 S → Z p l e R s m args below meth c D A 7 (MQ below (QI D (U := KS) post (kw cy a rw) A) args s 0 0 A) 0 0 (kw cy a rw S) [] 112 []) (S : KS) (x1 : Int32) (x2 : Int32) (x3 : Int32) (x4 : Int32) (x5 : Int32) (h : w_X11_stop_B106 cy tE post k42 k112 S x1 x2 x3 x4 x5) : Z p l e R s m args below meth c D A 7 (MQ below (QI D (U := KS) post (kw cy a rw) A) args s 0 0 A) 0 0 (kw cy a rw S) [(0, .ref (a 0)), (1, .int x1), (2, .int x2), (3, .int x3), (4, .int x4), (5, .int x5)] 106 [] := by
  unfold w_X11_stop_B106 at h
  refine z_iinc (k9 := 5) (v := (x5 + 1)) (lv' := [(5, .int (x5 + 1)), (0, .ref (a 0)), (1, .int x1), (2, .int x2), (3, .int x3), (4, .int x4)]) b dX11_stop_106 rfl rfl (by decide) rfl ?_
  refine z_goto (tgt := 42) b dX11_stop_109 (by decide) ?_
  refine z_lv0 (lv' := [(0, .ref (a 0)), (1, .int x1), (2, .int x2), (3, .int x3), (4, .int x4), (5, .int (x5 + 1))]) [1, 2, 3, 4, 5, 0] rfl ?_
  exact hk42 _ _ _ _ _ _ h

def w_X11_stop_F42 (cy : Nat → ClassId) (tE : Nat) (post : Int32 → KS → Prop) (k112 : KS → Prop) (k42 : KS → Int32 → Int32 → Int32 → Int32 → Int32 → Prop) (S : KS) (x1 : Int32) (x2 : Int32) (x3 : Int32) (x4 : Int32) (x5 : Int32) : Prop :=
  ∃ (i12 : Nat) (f13 : List Value), S.2.2.2[i12]? = some ((S.2.1 2), .inr (0, f13)) ∧ w_Jx4a65c_size_8abf5 cy tE S (S.2.1 2) (fun r15 S16 => ((r15.toInt < x5.toInt → k112 S16) ∧ (x5.toInt ≤ r15.toInt → ∃ n, lpn (w_X11_stop_F60 cy tE post (w_X11_stop_B106 cy tE post k42 k112)) (fun _ _ _ _ _ _ _ => False) n S16 x1 x2 x3 x4 x5 0)))

set_option maxHeartbeats 4000000 in
set_option maxRecDepth 100000 in
theorem z_X11_stop_F42 {p : Program} {l : Launch} {e : Env} {R : Room} {s : State} {m : MethodId} {args : Array Value} {below : List Frame} {meth : Method} {c : Code} {D : va_G} {cy : Nat → ClassId} {T0 tB tE : Nat} {A : Nat → Prop} {a : Nat → Nat} {rw : Nat → Option Nat} (hrw : ∀ i, i < 6 → rw i = some (a (12 + 2 * i))) {post : Int32 → KS → Prop} {k112 : KS → Prop} {k42 : KS → Int32 → Int32 → Int32 → Int32 → Int32 → Prop} (b : Bz p R s m args meth c D cy T0 tB tE A 7 cX11_stop RX11 (some .int) "stop" 7 170 0 0) (hk112 : ∀ (S : KS), k112 S → Z p l e R s m args below meth c D A 7 (MQ below (QI D (U := KS) post (kw cy a rw) A) args s 0 0 A) 0 0 (kw cy a rw S) [] 112 []) (hk42 : ∀ (S : KS) (x1 : Int32) (x2 : Int32) (x3 : Int32) (x4 : Int32) (x5 : Int32), k42 S x1 x2 x3 x4 x5 → Z p l e R s m args below meth c D A 7 (MQ below (QI D (U := KS) post (kw cy a rw) A) args s 0 0 A) 0 0 (kw cy a rw S) [(0, .ref (a 0)), (1, .int x1), (2, .int x2), (3, .int x3), (4, .int x4), (5, .int x5)] 42 []) (S : KS) (x1 : Int32) (x2 : Int32) (x3 : Int32) (x4 : Int32) (x5 : Int32) (h : w_X11_stop_F42 cy tE post k112 k42 S x1 x2 x3 x4 x5) : Z p l e R s m args below meth c D A 7 (MQ below (QI D (U := KS) post (kw cy a rw) A) args s 0 0 A) 0 0 (kw cy a rw S) [(0, .ref (a 0)), (1, .int x1), (2, .int x2), (3, .int x3), (4, .int x4), (5, .int x5)] 42 [] := by
  unfold w_X11_stop_F42 at h
  refine z_iload b dX11_stop_42 rfl ?_
  refine z_aload_n b dX11_stop_44 rfl rfl ?_
  refine z_get (q0 := 0) (k9 := 3) (v := .ref (a 33)) b (kw_0 cy a rw S) rfl in_X11 (by decide) wf_X11_27 rfl dX11_stop_45 ?_
  refine z_get (q0 := 33) (k9 := 2) (v := .ref (S.2.1 2)) b (kw_33 cy a rw S) rfl in_X4 (by decide) wf_X11_136 rfl dX11_stop_48 ?_
  obtain ⟨i12, f13, g14, h⟩ := h
  refine z_calli b (z_runV (q0 := 47 + i12) (As := []) (st := [.int x5]) b (k_Jx4a65c_size_8abf5 hrw S (S.2.1 2) _ h) cf_Jx4a65c_size_8abf5 (kw_dyn cy a rw S g14) rfl wm_X11_117 wi_Jx4a65c_size_8abf5 ws_Jx4a65c_size_8abf5 dX11_stop_51 rfl (Nat.le_of_ble_eq_true rfl) ⟨by decide, by decide, Nat.le_of_ble_eq_true rfl, Nat.le_of_ble_eq_true rfl⟩) (fun r15 S16 h => ?_)
  refine y_icmp_gt (tgt := 112) (xl := x5.toInt) (yl := r15.toInt) b rfl rfl dX11_stop_54 (by decide) (fun c1 => ?_) (fun c1 => ?_)
  · replace h := h.1 c1
    refine z_lv0 (lv' := []) [] rfl ?_
    exact hk112 _ h
  · replace h := h.2 c1
    refine z_iconst (v := 0) b dX11_stop_57 (by decide) ?_
    refine z_istore (lv' := [(6, .int 0), (0, .ref (a 0)), (1, .int x1), (2, .int x2), (3, .int x3), (4, .int x4), (5, .int x5)]) b dX11_stop_58 (by decide) rfl ?_
    refine z_lv0 (lv' := [(0, .ref (a 0)), (1, .int x1), (2, .int x2), (3, .int x3), (4, .int x4), (5, .int x5), (6, .int 0)]) [1, 2, 3, 4, 5, 6, 0] rfl ?_
    obtain ⟨n, h⟩ := h
    exact zl_X11_stop_L60 hrw b (fun S x1 x2 x3 x4 x5 h => z_X11_stop_B106 hrw b hk42 hk112 _ _ _ _ _ _ h) n _ _ _ _ _ _ _ h

set_option maxHeartbeats 4000000 in
set_option maxRecDepth 100000 in
theorem zl_X11_stop_L42 {p : Program} {l : Launch} {e : Env} {R : Room} {s : State} {m : MethodId} {args : Array Value} {below : List Frame} {meth : Method} {c : Code} {D : va_G} {cy : Nat → ClassId} {T0 tB tE : Nat} {A : Nat → Prop} {a : Nat → Nat} {rw : Nat → Option Nat} (hrw : ∀ i, i < 6 → rw i = some (a (12 + 2 * i))) {post : Int32 → KS → Prop} {k112 : KS → Prop} (b : Bz p R s m args meth c D cy T0 tB tE A 7 cX11_stop RX11 (some .int) "stop" 7 170 0 0) (hk112 : ∀ (S : KS), k112 S → Z p l e R s m args below meth c D A 7 (MQ below (QI D (U := KS) post (kw cy a rw) A) args s 0 0 A) 0 0 (kw cy a rw S) [] 112 []) : ∀ (n : Nat) (S : KS) (x1 : Int32) (x2 : Int32) (x3 : Int32) (x4 : Int32) (x5 : Int32), lpn (w_X11_stop_F42 cy tE post k112) (fun _ _ _ _ _ _ => False) n S x1 x2 x3 x4 x5 → Z p l e R s m args below meth c D A 7 (MQ below (QI D (U := KS) post (kw cy a rw) A) args s 0 0 A) 0 0 (kw cy a rw S) [(0, .ref (a 0)), (1, .int x1), (2, .int x2), (3, .int x3), (4, .int x4), (5, .int x5)] 42 [] := by
  intro n
  induction n with
  | zero => intro _ _ _ _ _ _ h; exact h.elim
  | succ n ih => intro S x1 x2 x3 x4 x5 h; exact z_X11_stop_F42 hrw b hk112 ih S x1 x2 x3 x4 x5 h

def w_X11_stop_B112 (cy : Nat → ClassId) (tE : Nat) (post : Int32 → KS → Prop) (S : KS)  : Prop :=
  post (-1) S

set_option maxHeartbeats 4000000 in
set_option maxRecDepth 100000 in
theorem z_X11_stop_B112 {p : Program} {l : Launch} {e : Env} {R : Room} {s : State} {m : MethodId} {args : Array Value} {below : List Frame} {meth : Method} {c : Code} {D : va_G} {cy : Nat → ClassId} {T0 tB tE : Nat} {A : Nat → Prop} {a : Nat → Nat} {rw : Nat → Option Nat} (hrw : ∀ i, i < 6 → rw i = some (a (12 + 2 * i))) {post : Int32 → KS → Prop} (b : Bz p R s m args meth c D cy T0 tB tE A 7 cX11_stop RX11 (some .int) "stop" 7 170 0 0) (S : KS)  (h : w_X11_stop_B112 cy tE post S ) : Z p l e R s m args below meth c D A 7 (MQ below (QI D (U := KS) post (kw cy a rw) A) args s 0 0 A) 0 0 (kw cy a rw S) [] 112 [] := by
  unfold w_X11_stop_B112 at h
  refine z_iconst (v := (-1)) b dX11_stop_112 (by decide) ?_
  exact z_iret (u := S) b rfl dX11_stop_113 h rfl (by decide) (by decide)

def w_X11_stop (cy : Nat → ClassId) (tE : Nat) (S : KS) (p0 : Int32) (p1 : Int32) (p2 : Int32) (post : Int32 → KS → Prop) : Prop :=
  w_X11_isNever cy tE S p0 (fun r1 S2 => ((r1.toInt = 0 → w_X11_stop_B23 cy tE post S2) ∧ (r1.toInt ≠ 0 → w_X11_isDepth cy tE S2 p1 (fun r3 S4 => ((r3.toInt = 0 → w_X11_stop_B23 cy tE post S4) ∧ (r3.toInt ≠ 0 → w_X11_isWithin cy tE S4 p2 1 (fun r5 S6 => ((r5.toInt ≠ 0 → ∃ (i7 : Nat) (f8 : List Value), S6.2.2.2[i7]? = some ((S6.2.1 2), .inr (0, f8)) ∧ w_Jx4a65c_size_8abf5 cy tE S6 (S6.2.1 2) (fun r10 S11 => ∃ n, lpn (w_X11_stop_F42 cy tE post (w_X11_stop_B112 cy tE post)) (fun _ _ _ _ _ _ => False) n S11 p0 p1 p2 ((1 : Int32) <<< (r10 &&& 31)) 0)) ∧ (r5.toInt = 0 → w_X11_stop_B23 cy tE post S6)))))))))

set_option maxHeartbeats 4000000 in
set_option maxRecDepth 100000 in
theorem k_X11_stop {l : Launch} {D : va_G} {cy : Nat → ClassId} {T0 tB tE : Nat} {a : Nat → Nat} {rw : Nat → Option Nat} (hrw : ∀ i, i < 6 → rw i = some (a (12 + 2 * i))) (S : KS) (p0 : Int32) (p1 : Int32) (p2 : Int32) (post : Int32 → KS → Prop) (h : w_X11_stop cy tE S p0 p1 p2 post) : Ct l D cy T0 tB tE yX11_stop cX11_stop 7 (some .int) 7 170 0 0 (kw cy a rw S) [.ref (a 0), .int p0, .int p1, .int p2] (QI D (U := KS) post (kw cy a rw)) := by
  refine Ct.ofZ RX11 "stop" [(0, .ref (a 0)), (1, .int p0), (2, .int p1), (3, .int p2)] rfl rfl rfl rfl (Nat.le_of_ble_eq_true rfl) ?_
  intro p e R s m args below meth c A b
  unfold w_X11_stop at h
  refine z_aload_n b dX11_stop_0 rfl rfl ?_
  refine z_iload_n b dX11_stop_1 rfl rfl ?_
  refine z_calli b (z_runV (q0 := 0) (As := [.int p0]) (st := []) b (k_X11_isNever hrw S p0 _ h) cf_X11_isNever (kw_0 cy a rw S) rfl wm_X11_200 wi_X11_isNever ws_X11_isNever dX11_stop_2 rfl (Nat.le_of_ble_eq_true rfl) ⟨by decide, by decide, Nat.le_of_ble_eq_true rfl, Nat.le_of_ble_eq_true rfl⟩) (fun r1 S2 h => ?_)
  refine y_if_eq (tgt := 23) (xl := r1.toInt) b rfl dX11_stop_5 (by decide) (fun c1 => ?_) (fun c1 => ?_)
  · replace h := h.1 c1
    refine z_lv0 (lv' := []) [] rfl ?_
    exact z_X11_stop_B23 hrw b _ h
  · replace h := h.2 c1
    refine z_iload_n b dX11_stop_8 rfl rfl ?_
    refine z_calli b (z_runS (As := [.int p1]) (st := []) b (k_X11_isDepth hrw S2 p1 _ h) cf_X11_isDepth wm_X11_203 ws_X11_isDepth dX11_stop_9 rfl (Nat.le_of_ble_eq_true rfl) ⟨by decide, by decide, Nat.le_of_ble_eq_true rfl, Nat.le_of_ble_eq_true rfl⟩) (fun r3 S4 h => ?_)
    refine y_if_eq (tgt := 23) (xl := r3.toInt) b rfl dX11_stop_12 (by decide) (fun c1 => ?_) (fun c1 => ?_)
    · replace h := h.1 c1
      refine z_lv0 (lv' := []) [] rfl ?_
      exact z_X11_stop_B23 hrw b _ h
    · replace h := h.2 c1
      refine z_iload_n b dX11_stop_15 rfl rfl ?_
      refine z_iconst (v := 1) b dX11_stop_16 (by decide) ?_
      refine z_calli b (z_runS (As := [.int p2, .int 1]) (st := []) b (k_X11_isWithin hrw S4 p2 1 _ h) cf_X11_isWithin wm_X11_73 ws_X11_isWithin dX11_stop_17 rfl (Nat.le_of_ble_eq_true rfl) ⟨by decide, by decide, Nat.le_of_ble_eq_true rfl, Nat.le_of_ble_eq_true rfl⟩) (fun r5 S6 h => ?_)
      refine y_if_ne (tgt := 25) (xl := r5.toInt) b rfl dX11_stop_20 (by decide) (fun c1 => ?_) (fun c1 => ?_)
      · replace h := h.1 c1
        refine z_iconst (v := 1) b dX11_stop_25 (by decide) ?_
        refine z_aload_n b dX11_stop_26 rfl rfl ?_
        refine z_get (q0 := 0) (k9 := 3) (v := .ref (a 33)) b (kw_0 cy a rw S6) rfl in_X11 (by decide) wf_X11_27 rfl dX11_stop_27 ?_
        refine z_get (q0 := 33) (k9 := 2) (v := .ref (S6.2.1 2)) b (kw_33 cy a rw S6) rfl in_X4 (by decide) wf_X11_136 rfl dX11_stop_30 ?_
        obtain ⟨i7, f8, g9, h⟩ := h
        refine z_calli b (z_runV (q0 := 47 + i7) (As := []) (st := [.int 1]) b (k_Jx4a65c_size_8abf5 hrw S6 (S6.2.1 2) _ h) cf_Jx4a65c_size_8abf5 (kw_dyn cy a rw S6 g9) rfl wm_X11_117 wi_Jx4a65c_size_8abf5 ws_Jx4a65c_size_8abf5 dX11_stop_33 rfl (Nat.le_of_ble_eq_true rfl) ⟨by decide, by decide, Nat.le_of_ble_eq_true rfl, Nat.le_of_ble_eq_true rfl⟩) (fun r10 S11 h => ?_)
        refine z_ishl b dX11_stop_36 rfl ?_
        refine z_istore (lv' := [(4, .int ((1 : Int32) <<< (r10 &&& 31))), (0, .ref (a 0)), (1, .int p0), (2, .int p1), (3, .int p2)]) b dX11_stop_37 (by decide) rfl ?_
        refine z_iconst (v := 0) b dX11_stop_39 (by decide) ?_
        refine z_istore (lv' := [(5, .int 0), (4, .int ((1 : Int32) <<< (r10 &&& 31))), (0, .ref (a 0)), (1, .int p0), (2, .int p1), (3, .int p2)]) b dX11_stop_40 (by decide) rfl ?_
        refine z_lv0 (lv' := [(0, .ref (a 0)), (1, .int p0), (2, .int p1), (3, .int p2), (4, .int ((1 : Int32) <<< (r10 &&& 31))), (5, .int 0)]) [2, 3, 4, 5, 1, 0] rfl ?_
        obtain ⟨n, h⟩ := h
        exact zl_X11_stop_L42 hrw b (fun S h => z_X11_stop_B112 hrw b _ h) n _ _ _ _ _ _ h
      · replace h := h.2 c1
        refine z_lv0 (lv' := []) [] rfl ?_
        exact z_X11_stop_B23 hrw b _ h

def w_X11_kin_B16 (cy : Nat → ClassId) (tE : Nat) (post : Int32 → KS → Prop) (S : KS)  : Prop :=
  post 0 S

set_option maxHeartbeats 4000000 in
set_option maxRecDepth 100000 in
theorem z_X11_kin_B16 {p : Program} {l : Launch} {e : Env} {R : Room} {s : State} {m : MethodId} {args : Array Value} {below : List Frame} {meth : Method} {c : Code} {D : va_G} {cy : Nat → ClassId} {T0 tB tE : Nat} {A : Nat → Prop} {a : Nat → Nat} {rw : Nat → Option Nat} (hrw : ∀ i, i < 6 → rw i = some (a (12 + 2 * i))) {post : Int32 → KS → Prop} (b : Bz p R s m args meth c D cy T0 tB tE A 6 cX11_kin RX11 (some .boolean) "kin" 2 41 0 0) (S : KS)  (h : w_X11_kin_B16 cy tE post S ) : Z p l e R s m args below meth c D A 6 (MQ below (QI D (U := KS) post (kw cy a rw) A) args s 0 0 A) 0 0 (kw cy a rw S) [] 16 [] := by
  unfold w_X11_kin_B16 at h
  refine z_iconst (v := 0) b dX11_kin_16 (by decide) ?_
  exact z_zret (u := S) b rfl (by decide) dX11_kin_17 h rfl (by decide) (by decide)

def w_X11_kin_B88 (cy : Nat → ClassId) (tE : Nat) (post : Int32 → KS → Prop) (S : KS)  : Prop :=
  w_X8_forget cy tE S (fun S8 => post 1 S8)

set_option maxHeartbeats 4000000 in
set_option maxRecDepth 100000 in
theorem z_X11_kin_B88 {p : Program} {l : Launch} {e : Env} {R : Room} {s : State} {m : MethodId} {args : Array Value} {below : List Frame} {meth : Method} {c : Code} {D : va_G} {cy : Nat → ClassId} {T0 tB tE : Nat} {A : Nat → Prop} {a : Nat → Nat} {rw : Nat → Option Nat} (hrw : ∀ i, i < 6 → rw i = some (a (12 + 2 * i))) {post : Int32 → KS → Prop} (b : Bz p R s m args meth c D cy T0 tB tE A 6 cX11_kin RX11 (some .boolean) "kin" 2 41 0 0) (S : KS)  (h : w_X11_kin_B88 cy tE post S ) : Z p l e R s m args below meth c D A 6 (MQ below (QI D (U := KS) post (kw cy a rw) A) args s 0 0 A) 0 0 (kw cy a rw S) [(0, .ref (a 0))] 88 [] := by
  unfold w_X11_kin_B88 at h
  refine z_aload_n b dX11_kin_88 rfl rfl ?_
  refine z_get (q0 := 0) (k9 := 6) (v := .ref (a 38)) b (kw_0 cy a rw S) rfl in_X11 (by decide) wf_X11_52 rfl dX11_kin_89 ?_
  refine z_callv b (z_runV (q0 := 38) (As := []) (st := []) b (k_X8_forget hrw S _ h) cf_X8_forget (kw_38 cy a rw S) rfl wm_X11_81 wi_X8_forget ws_X8_forget dX11_kin_92 rfl (Nat.le_of_ble_eq_true rfl) ⟨by decide, by decide, Nat.le_of_ble_eq_true rfl, Nat.le_of_ble_eq_true rfl⟩) (fun S8 h => ?_)
  refine z_iconst (v := 1) b dX11_kin_95 (by decide) ?_
  exact z_zret (u := S8) b rfl (by decide) dX11_kin_96 h rfl (by decide) (by decide)

def w_X11_kin_B28 (cy : Nat → ClassId) (tE : Nat) (post : Int32 → KS → Prop) (S : KS) (x1 : Int32) (x2 : Int32) (x3 : Int32) (y0 : Int32) : Prop :=
  ((x3.toInt ≠ 0 → w_X9_set cy tE S 0 (((30 : Int32) + ((3 : Int32) * x1)) + x2) y0 (fun S6 => w_X11_kin_B88 cy tE post S6)) ∧ (x3.toInt = 0 → w_X9_set cy tE S 0 (((20 : Int32) + ((3 : Int32) * x1)) + x2) y0 (fun S10 => w_X9_set cy tE S10 0 (((20 : Int32) + ((3 : Int32) * x2)) + x1) y0 (fun S12 => w_X11_kin_B88 cy tE post S12))))

set_option maxHeartbeats 4000000 in
set_option maxRecDepth 100000 in
theorem z_X11_kin_B28 {p : Program} {l : Launch} {e : Env} {R : Room} {s : State} {m : MethodId} {args : Array Value} {below : List Frame} {meth : Method} {c : Code} {D : va_G} {cy : Nat → ClassId} {T0 tB tE : Nat} {A : Nat → Prop} {a : Nat → Nat} {rw : Nat → Option Nat} (hrw : ∀ i, i < 6 → rw i = some (a (12 + 2 * i))) {post : Int32 → KS → Prop} (b : Bz p R s m args meth c D cy T0 tB tE A 6 cX11_kin RX11 (some .boolean) "kin" 2 41 0 0) (S : KS) (x1 : Int32) (x2 : Int32) (x3 : Int32) (y0 : Int32) (h : w_X11_kin_B28 cy tE post S x1 x2 x3 y0) : Z p l e R s m args below meth c D A 6 (MQ below (QI D (U := KS) post (kw cy a rw) A) args s 0 0 A) 0 0 (kw cy a rw S) [(0, .ref (a 0)), (1, .int x1), (2, .int x2), (3, .int x3)] 28 [.int y0] := by
  unfold w_X11_kin_B28 at h
  refine z_istore (lv' := [(5, .int y0), (0, .ref (a 0)), (1, .int x1), (2, .int x2), (3, .int x3)]) b dX11_kin_28 (by decide) rfl ?_
  refine z_iload_n b dX11_kin_30 rfl rfl ?_
  refine y_if_ne (tgt := 71) (xl := x3.toInt) b rfl dX11_kin_31 (by decide) (fun c1 => ?_) (fun c1 => ?_)
  · replace h := h.1 c1
    refine z_aload_n b dX11_kin_71 rfl rfl ?_
    refine z_get (q0 := 0) (k9 := 4) (v := .ref (a 2)) b (kw_0 cy a rw S) rfl in_X11 (by decide) wf_X11_34 rfl dX11_kin_72 ?_
    refine z_bipush (v := 30) b dX11_kin_75 (by decide) ?_
    refine z_iconst (v := 3) b dX11_kin_77 (by decide) ?_
    refine z_iload_n b dX11_kin_78 rfl rfl ?_
    refine z_imul b dX11_kin_79 rfl ?_
    refine z_iadd b dX11_kin_80 rfl ?_
    refine z_iload_n b dX11_kin_81 rfl rfl ?_
    refine z_iadd b dX11_kin_82 rfl ?_
    refine z_iload b dX11_kin_83 rfl ?_
    refine z_callv b (z_runV (q0 := 2) (As := [.int (((30 : Int32) + ((3 : Int32) * x1)) + x2), .int y0]) (st := []) b (k_X9_set hrw S 0 (((30 : Int32) + ((3 : Int32) * x1)) + x2) y0 _ h) cf_X9_set (kw_2 cy a rw S) rfl wm_X11_77 wi_X9_set ws_X9_set dX11_kin_85 rfl (Nat.le_of_ble_eq_true rfl) ⟨by decide, by decide, Nat.le_of_ble_eq_true rfl, Nat.le_of_ble_eq_true rfl⟩) (fun S6 h => ?_)
    refine z_lv0 (lv' := [(0, .ref (a 0))]) [1] rfl ?_
    exact z_X11_kin_B88 hrw b _ h
  · replace h := h.2 c1
    refine z_aload_n b dX11_kin_34 rfl rfl ?_
    refine z_get (q0 := 0) (k9 := 4) (v := .ref (a 2)) b (kw_0 cy a rw S) rfl in_X11 (by decide) wf_X11_34 rfl dX11_kin_35 ?_
    refine z_bipush (v := 20) b dX11_kin_38 (by decide) ?_
    refine z_iconst (v := 3) b dX11_kin_40 (by decide) ?_
    refine z_iload_n b dX11_kin_41 rfl rfl ?_
    refine z_imul b dX11_kin_42 rfl ?_
    refine z_iadd b dX11_kin_43 rfl ?_
    refine z_iload_n b dX11_kin_44 rfl rfl ?_
    refine z_iadd b dX11_kin_45 rfl ?_
    refine z_iload b dX11_kin_46 rfl ?_
    refine z_callv b (z_runV (q0 := 2) (As := [.int (((20 : Int32) + ((3 : Int32) * x1)) + x2), .int y0]) (st := []) b (k_X9_set hrw S 0 (((20 : Int32) + ((3 : Int32) * x1)) + x2) y0 _ h) cf_X9_set (kw_2 cy a rw S) rfl wm_X11_77 wi_X9_set ws_X9_set dX11_kin_48 rfl (Nat.le_of_ble_eq_true rfl) ⟨by decide, by decide, Nat.le_of_ble_eq_true rfl, Nat.le_of_ble_eq_true rfl⟩) (fun S10 h => ?_)
    refine z_aload_n b dX11_kin_51 rfl rfl ?_
    refine z_get (q0 := 0) (k9 := 4) (v := .ref (a 2)) b (kw_0 cy a rw S10) rfl in_X11 (by decide) wf_X11_34 rfl dX11_kin_52 ?_
    refine z_bipush (v := 20) b dX11_kin_55 (by decide) ?_
    refine z_iconst (v := 3) b dX11_kin_57 (by decide) ?_
    refine z_iload_n b dX11_kin_58 rfl rfl ?_
    refine z_imul b dX11_kin_59 rfl ?_
    refine z_iadd b dX11_kin_60 rfl ?_
    refine z_iload_n b dX11_kin_61 rfl rfl ?_
    refine z_iadd b dX11_kin_62 rfl ?_
    refine z_iload b dX11_kin_63 rfl ?_
    refine z_callv b (z_runV (q0 := 2) (As := [.int (((20 : Int32) + ((3 : Int32) * x2)) + x1), .int y0]) (st := []) b (k_X9_set hrw S10 0 (((20 : Int32) + ((3 : Int32) * x2)) + x1) y0 _ h) cf_X9_set (kw_2 cy a rw S10) rfl wm_X11_77 wi_X9_set ws_X9_set dX11_kin_65 rfl (Nat.le_of_ble_eq_true rfl) ⟨by decide, by decide, Nat.le_of_ble_eq_true rfl, Nat.le_of_ble_eq_true rfl⟩) (fun S12 h => ?_)
    refine z_goto (tgt := 88) b dX11_kin_68 (by decide) ?_
    refine z_lv0 (lv' := [(0, .ref (a 0))]) [1] rfl ?_
    exact z_X11_kin_B88 hrw b _ h

def w_X11_kin (cy : Nat → ClassId) (tE : Nat) (S : KS) (p0 : Int32) (p1 : Int32) (p2 : Int32) (p3 : Int32) (post : Int32 → KS → Prop) : Prop :=
  w_X11_arePair cy tE S p0 p1 (fun r1 S2 => ((r1.toInt = 0 → w_X11_kin_B16 cy tE post S2) ∧ (r1.toInt ≠ 0 → w_X11_isWithin cy tE S2 p2 1 (fun r3 S4 => ((r3.toInt ≠ 0 → ((p3.toInt = 0 → w_X11_kin_B28 cy tE post S4 p0 p1 p2 0) ∧ (p3.toInt ≠ 0 → w_X11_kin_B28 cy tE post S4 p0 p1 p2 1))) ∧ (r3.toInt = 0 → w_X11_kin_B16 cy tE post S4))))))

set_option maxHeartbeats 4000000 in
set_option maxRecDepth 100000 in
theorem k_X11_kin {l : Launch} {D : va_G} {cy : Nat → ClassId} {T0 tB tE : Nat} {a : Nat → Nat} {rw : Nat → Option Nat} (hrw : ∀ i, i < 6 → rw i = some (a (12 + 2 * i))) (S : KS) (p0 : Int32) (p1 : Int32) (p2 : Int32) (p3 : Int32) (post : Int32 → KS → Prop) (h : w_X11_kin cy tE S p0 p1 p2 p3 post) : Ct l D cy T0 tB tE yX11_kin cX11_kin 6 (some .boolean) 2 41 0 0 (kw cy a rw S) [.ref (a 0), .int p0, .int p1, .int p2, .int p3] (QI D (U := KS) post (kw cy a rw)) := by
  refine Ct.ofZ RX11 "kin" [(0, .ref (a 0)), (1, .int p0), (2, .int p1), (3, .int p2), (4, .int p3)] rfl rfl rfl rfl (Nat.le_of_ble_eq_true rfl) ?_
  intro p e R s m args below meth c A b
  unfold w_X11_kin at h
  refine z_iload_n b dX11_kin_0 rfl rfl ?_
  refine z_iload_n b dX11_kin_1 rfl rfl ?_
  refine z_calli b (z_runS (As := [.int p0, .int p1]) (st := []) b (k_X11_arePair hrw S p0 p1 _ h) cf_X11_arePair wm_X11_84 ws_X11_arePair dX11_kin_2 rfl (Nat.le_of_ble_eq_true rfl) ⟨by decide, by decide, Nat.le_of_ble_eq_true rfl, Nat.le_of_ble_eq_true rfl⟩) (fun r1 S2 h => ?_)
  refine y_if_eq (tgt := 16) (xl := r1.toInt) b rfl dX11_kin_5 (by decide) (fun c1 => ?_) (fun c1 => ?_)
  · replace h := h.1 c1
    refine z_lv0 (lv' := []) [] rfl ?_
    exact z_X11_kin_B16 hrw b _ h
  · replace h := h.2 c1
    refine z_iload_n b dX11_kin_8 rfl rfl ?_
    refine z_iconst (v := 1) b dX11_kin_9 (by decide) ?_
    refine z_calli b (z_runS (As := [.int p2, .int 1]) (st := []) b (k_X11_isWithin hrw S2 p2 1 _ h) cf_X11_isWithin wm_X11_73 ws_X11_isWithin dX11_kin_10 rfl (Nat.le_of_ble_eq_true rfl) ⟨by decide, by decide, Nat.le_of_ble_eq_true rfl, Nat.le_of_ble_eq_true rfl⟩) (fun r3 S4 h => ?_)
    refine y_if_ne (tgt := 18) (xl := r3.toInt) b rfl dX11_kin_13 (by decide) (fun c1 => ?_) (fun c1 => ?_)
    · replace h := h.1 c1
      refine z_iload b dX11_kin_18 rfl ?_
      refine y_if_eq (tgt := 27) (xl := p3.toInt) b rfl dX11_kin_20 (by decide) (fun c1 => ?_) (fun c1 => ?_)
      · replace h := h.1 c1
        refine z_iconst (v := 0) b dX11_kin_27 (by decide) ?_
        refine z_lv0 (lv' := [(0, .ref (a 0)), (1, .int p0), (2, .int p1), (3, .int p2)]) [0, 1, 2, 3] rfl ?_
        exact z_X11_kin_B28 hrw b _ _ _ _ _ h
      · replace h := h.2 c1
        refine z_iconst (v := 1) b dX11_kin_23 (by decide) ?_
        refine z_goto (tgt := 28) b dX11_kin_24 (by decide) ?_
        refine z_lv0 (lv' := [(0, .ref (a 0)), (1, .int p0), (2, .int p1), (3, .int p2)]) [0, 1, 2, 3] rfl ?_
        exact z_X11_kin_B28 hrw b _ _ _ _ _ h
    · replace h := h.2 c1
      refine z_lv0 (lv' := []) [] rfl ?_
      exact z_X11_kin_B16 hrw b _ h

def w_X5_readChanged_B118 (cy : Nat → ClassId) (tE : Nat) (post : Int32 → KS → Prop) (S : KS)  : Prop :=
  w_X5_readPersons cy tE (ksi S 15 ((fi S.1 15) + 1)) 2 (fun r3 S4 => post r3 S4)

set_option maxHeartbeats 4000000 in
set_option maxRecDepth 100000 in
theorem z_X5_readChanged_B118 {p : Program} {l : Launch} {e : Env} {R : Room} {s : State} {m : MethodId} {args : Array Value} {below : List Frame} {meth : Method} {c : Code} {D : va_G} {cy : Nat → ClassId} {T0 tB tE : Nat} {A : Nat → Prop} {a : Nat → Nat} {rw : Nat → Option Nat} (hrw : ∀ i, i < 6 → rw i = some (a (12 + 2 * i))) {post : Int32 → KS → Prop} (b : Bz p R s m args meth c D cy T0 tB tE A 2 cX5_readChanged RX5 (some .int) "readChanged" 2 43 0 0) (S : KS)  (h : w_X5_readChanged_B118 cy tE post S ) : Z p l e R s m args below meth c D A 2 (MQ below (QI D (U := KS) post (kw cy a rw) A) args s 0 0 A) 0 0 (kw cy a rw S) [(0, .ref (a 26))] 118 [] := by
  unfold w_X5_readChanged_B118 at h
  refine z_aload_n b dX5_readChanged_118 rfl rfl ?_
  refine z_dup b dX5_readChanged_119 rfl ?_
  refine z_get (q0 := 26) (k9 := 1) (v := .int (fi S.1 15)) b (kw_26 cy a rw S) rfl in_X5 (by decide) wf_X5_18 rfl dX5_readChanged_120 ?_
  refine z_iconst (v := 1) b dX5_readChanged_123 (by decide) ?_
  refine z_iadd b dX5_readChanged_124 rfl ?_
  refine z_put (q0 := 26) (k9 := 1) tyX5 b (kw_26 cy a rw S) rfl in_X5 tyX5_ok nmX5 (by decide) wf_X5_18 rfl rfl rfl rfl (Nat.le_of_ble_eq_true rfl) dX5_readChanged_125 (kwp_26_1 cy a rw S ((fi S.1 15) + 1)) ?_
  refine z_aload_n b dX5_readChanged_128 rfl rfl ?_
  refine z_iconst (v := 2) b dX5_readChanged_129 (by decide) ?_
  refine z_calli b (z_runV (q0 := 26) (As := [.int 2]) (st := []) b (k_X5_readPersons hrw (ksi S 15 ((fi S.1 15) + 1)) 2 _ h) cf_X5_readPersons (kw_26 cy a rw (ksi S 15 ((fi S.1 15) + 1))) rfl wm_X5_144 wi_X5_readPersons ws_X5_readPersons dX5_readChanged_130 rfl (Nat.le_of_ble_eq_true rfl) ⟨by decide, by decide, Nat.le_of_ble_eq_true rfl, Nat.le_of_ble_eq_true rfl⟩) (fun r3 S4 h => ?_)
  exact z_iret (u := S4) b rfl dX5_readChanged_133 h rfl (by decide) (by decide)

def w_X5_readChanged_B134 (cy : Nat → ClassId) (tE : Nat) (post : Int32 → KS → Prop) (S : KS)  : Prop :=
  w_X5_refuse cy tE S 1 (fun r9 S10 => post (-1) S10)

set_option maxHeartbeats 4000000 in
set_option maxRecDepth 100000 in
theorem z_X5_readChanged_B134 {p : Program} {l : Launch} {e : Env} {R : Room} {s : State} {m : MethodId} {args : Array Value} {below : List Frame} {meth : Method} {c : Code} {D : va_G} {cy : Nat → ClassId} {T0 tB tE : Nat} {A : Nat → Prop} {a : Nat → Nat} {rw : Nat → Option Nat} (hrw : ∀ i, i < 6 → rw i = some (a (12 + 2 * i))) {post : Int32 → KS → Prop} (b : Bz p R s m args meth c D cy T0 tB tE A 2 cX5_readChanged RX5 (some .int) "readChanged" 2 43 0 0) (S : KS)  (h : w_X5_readChanged_B134 cy tE post S ) : Z p l e R s m args below meth c D A 2 (MQ below (QI D (U := KS) post (kw cy a rw) A) args s 0 0 A) 0 0 (kw cy a rw S) [(0, .ref (a 26))] 134 [] := by
  unfold w_X5_readChanged_B134 at h
  refine z_aload_n b dX5_readChanged_134 rfl rfl ?_
  refine z_iconst (v := 1) b dX5_readChanged_135 (by decide) ?_
  refine z_calli b (z_runV (q0 := 26) (As := [.int 1]) (st := []) b (k_X5_refuse hrw S 1 _ h) cf_X5_refuse (kw_26 cy a rw S) rfl wm_X5_70 wi_X5_refuse ws_X5_refuse dX5_readChanged_136 rfl (Nat.le_of_ble_eq_true rfl) ⟨by decide, by decide, Nat.le_of_ble_eq_true rfl, Nat.le_of_ble_eq_true rfl⟩) (fun r9 S10 h => ?_)
  refine z_pop b dX5_readChanged_139 rfl ?_
  refine z_iconst (v := (-1)) b dX5_readChanged_140 (by decide) ?_
  exact z_iret (u := S10) b rfl dX5_readChanged_141 h rfl (by decide) (by decide)

def w_X5_readChanged (cy : Nat → ClassId) (tE : Nat) (S : KS) (p0 : Int32) (post : Int32 → KS → Prop) : Prop :=
  ((p0.toInt = 7 → w_X5_readPersons cy tE (ksi S 15 ((fi S.1 15) + 1)) 1 (fun r1 S2 => post r1 S2)) ∧ (p0.toInt = 8 → w_X5_readChanged_B118 cy tE post S) ∧ (p0.toInt = 9 → w_X5_kind cy tE (ksi (ksi S 15 ((fi S.1 15) + 1)) 18 1) (fun r5 S6 => ((r5.toInt ≠ 10 → w_X5_readPersons cy tE S6 1 (fun r7 S8 => post r7 S8)) ∧ (r5.toInt = 10 → post 2 (ksi S6 15 ((fi S6.1 15) + 1)))))) ∧ (p0.toInt = 10 → w_X5_readChanged_B134 cy tE post S) ∧ (p0.toInt = 11 → w_X5_readChanged_B118 cy tE post S) ∧ (p0.toInt = 12 → w_X5_readChanged_B118 cy tE post S) ∧ (p0.toInt = 13 → w_X5_readChanged_B118 cy tE post S) ∧ (p0.toInt = 14 → post 0 (ksi S 15 ((fi S.1 15) + 1))) ∧ (p0.toInt ≠ 7 ∧ p0.toInt ≠ 8 ∧ p0.toInt ≠ 9 ∧ p0.toInt ≠ 10 ∧ p0.toInt ≠ 11 ∧ p0.toInt ≠ 12 ∧ p0.toInt ≠ 13 ∧ p0.toInt ≠ 14 → w_X5_readChanged_B134 cy tE post S))

set_option maxHeartbeats 4000000 in
set_option maxRecDepth 100000 in
theorem k_X5_readChanged {l : Launch} {D : va_G} {cy : Nat → ClassId} {T0 tB tE : Nat} {a : Nat → Nat} {rw : Nat → Option Nat} (hrw : ∀ i, i < 6 → rw i = some (a (12 + 2 * i))) (S : KS) (p0 : Int32) (post : Int32 → KS → Prop) (h : w_X5_readChanged cy tE S p0 post) : Ct l D cy T0 tB tE yX5_readChanged cX5_readChanged 2 (some .int) 2 43 0 0 (kw cy a rw S) [.ref (a 26), .int p0] (QI D (U := KS) post (kw cy a rw)) := by
  refine Ct.ofZ RX5 "readChanged" [(0, .ref (a 26)), (1, .int p0)] rfl rfl rfl rfl (Nat.le_of_ble_eq_true rfl) ?_
  intro p e R s m args below meth c A b
  unfold w_X5_readChanged at h
  refine z_iload_n b dX5_readChanged_0 rfl rfl ?_
  by_cases e1 : p0.toInt = 7
  · replace h := h.1 e1
    refine z_eqi (y := 7) (y_eqc e1 (by decide)) ?_
    refine z_tableIn (tgt := 102) (off := 101) b dX5_readChanged_1 (by decide) (by decide) (by decide) (by decide) ?_
    refine z_aload_n b dX5_readChanged_102 rfl rfl ?_
    refine z_dup b dX5_readChanged_103 rfl ?_
    refine z_get (q0 := 26) (k9 := 1) (v := .int (fi S.1 15)) b (kw_26 cy a rw S) rfl in_X5 (by decide) wf_X5_18 rfl dX5_readChanged_104 ?_
    refine z_iconst (v := 1) b dX5_readChanged_107 (by decide) ?_
    refine z_iadd b dX5_readChanged_108 rfl ?_
    refine z_put (q0 := 26) (k9 := 1) tyX5 b (kw_26 cy a rw S) rfl in_X5 tyX5_ok nmX5 (by decide) wf_X5_18 rfl rfl rfl rfl (Nat.le_of_ble_eq_true rfl) dX5_readChanged_109 (kwp_26_1 cy a rw S ((fi S.1 15) + 1)) ?_
    refine z_aload_n b dX5_readChanged_112 rfl rfl ?_
    refine z_iconst (v := 1) b dX5_readChanged_113 (by decide) ?_
    refine z_calli b (z_runV (q0 := 26) (As := [.int 1]) (st := []) b (k_X5_readPersons hrw (ksi S 15 ((fi S.1 15) + 1)) 1 _ h) cf_X5_readPersons (kw_26 cy a rw (ksi S 15 ((fi S.1 15) + 1))) rfl wm_X5_144 wi_X5_readPersons ws_X5_readPersons dX5_readChanged_114 rfl (Nat.le_of_ble_eq_true rfl) ⟨by decide, by decide, Nat.le_of_ble_eq_true rfl, Nat.le_of_ble_eq_true rfl⟩) (fun r1 S2 h => ?_)
    exact z_iret (u := S2) b rfl dX5_readChanged_117 h rfl (by decide) (by decide)
  replace h := h.2
  have o0 := e1
  by_cases e1 : p0.toInt = 8
  · replace h := h.1 e1
    refine z_eqi (y := 8) (y_eqc e1 (by decide)) ?_
    refine z_tableIn (tgt := 118) (off := 117) b dX5_readChanged_1 (by decide) (by decide) (by decide) (by decide) ?_
    refine z_lv0 (lv' := [(0, .ref (a 26))]) [0] rfl ?_
    exact z_X5_readChanged_B118 hrw b _ h
  replace h := h.2
  have o1 := e1
  by_cases e1 : p0.toInt = 9
  · replace h := h.1 e1
    refine z_eqi (y := 9) (y_eqc e1 (by decide)) ?_
    refine z_tableIn (tgt := 60) (off := 59) b dX5_readChanged_1 (by decide) (by decide) (by decide) (by decide) ?_
    refine z_aload_n b dX5_readChanged_60 rfl rfl ?_
    refine z_dup b dX5_readChanged_61 rfl ?_
    refine z_get (q0 := 26) (k9 := 1) (v := .int (fi S.1 15)) b (kw_26 cy a rw S) rfl in_X5 (by decide) wf_X5_18 rfl dX5_readChanged_62 ?_
    refine z_iconst (v := 1) b dX5_readChanged_65 (by decide) ?_
    refine z_iadd b dX5_readChanged_66 rfl ?_
    refine z_put (q0 := 26) (k9 := 1) tyX5 b (kw_26 cy a rw S) rfl in_X5 tyX5_ok nmX5 (by decide) wf_X5_18 rfl rfl rfl rfl (Nat.le_of_ble_eq_true rfl) dX5_readChanged_67 (kwp_26_1 cy a rw S ((fi S.1 15) + 1)) ?_
    refine z_aload_n b dX5_readChanged_70 rfl rfl ?_
    refine z_iconst (v := 1) b dX5_readChanged_71 (by decide) ?_
    refine z_put (q0 := 26) (k9 := 5) tyX5 b (kw_26 cy a rw (ksi S 15 ((fi S.1 15) + 1))) rfl in_X5 tyX5_ok nmX5 (by decide) wf_X5_33 rfl rfl rfl rfl (Nat.le_of_ble_eq_true rfl) dX5_readChanged_72 (kwp_26_5 cy a rw (ksi S 15 ((fi S.1 15) + 1)) 1) ?_
    refine z_aload_n b dX5_readChanged_75 rfl rfl ?_
    refine z_calli b (z_runV (q0 := 26) (As := []) (st := []) b (k_X5_kind hrw (ksi (ksi S 15 ((fi S.1 15) + 1)) 18 1) _ h) cf_X5_kind (kw_26 cy a rw (ksi (ksi S 15 ((fi S.1 15) + 1)) 18 1)) rfl wm_X5_66 wi_X5_kind ws_X5_kind dX5_readChanged_76 rfl (Nat.le_of_ble_eq_true rfl) ⟨by decide, by decide, Nat.le_of_ble_eq_true rfl, Nat.le_of_ble_eq_true rfl⟩) (fun r5 S6 h => ?_)
    refine z_bipush (v := 10) b dX5_readChanged_79 (by decide) ?_
    refine y_icmp_ne (tgt := 96) (xl := r5.toInt) (yl := 10) b rfl (by decide) dX5_readChanged_81 (by decide) (fun c1 => ?_) (fun c1 => ?_)
    · replace h := h.1 c1
      refine z_aload_n b dX5_readChanged_96 rfl rfl ?_
      refine z_iconst (v := 1) b dX5_readChanged_97 (by decide) ?_
      refine z_calli b (z_runV (q0 := 26) (As := [.int 1]) (st := []) b (k_X5_readPersons hrw S6 1 _ h) cf_X5_readPersons (kw_26 cy a rw S6) rfl wm_X5_144 wi_X5_readPersons ws_X5_readPersons dX5_readChanged_98 rfl (Nat.le_of_ble_eq_true rfl) ⟨by decide, by decide, Nat.le_of_ble_eq_true rfl, Nat.le_of_ble_eq_true rfl⟩) (fun r7 S8 h => ?_)
      exact z_iret (u := S8) b rfl dX5_readChanged_101 h rfl (by decide) (by decide)
    · replace h := h.2 c1
      refine z_aload_n b dX5_readChanged_84 rfl rfl ?_
      refine z_dup b dX5_readChanged_85 rfl ?_
      refine z_get (q0 := 26) (k9 := 1) (v := .int (fi S6.1 15)) b (kw_26 cy a rw S6) rfl in_X5 (by decide) wf_X5_18 rfl dX5_readChanged_86 ?_
      refine z_iconst (v := 1) b dX5_readChanged_89 (by decide) ?_
      refine z_iadd b dX5_readChanged_90 rfl ?_
      refine z_put (q0 := 26) (k9 := 1) tyX5 b (kw_26 cy a rw S6) rfl in_X5 tyX5_ok nmX5 (by decide) wf_X5_18 rfl rfl rfl rfl (Nat.le_of_ble_eq_true rfl) dX5_readChanged_91 (kwp_26_1 cy a rw S6 ((fi S6.1 15) + 1)) ?_
      refine z_iconst (v := 2) b dX5_readChanged_94 (by decide) ?_
      exact z_iret (u := (ksi S6 15 ((fi S6.1 15) + 1))) b rfl dX5_readChanged_95 h rfl (by decide) (by decide)
  replace h := h.2
  have o2 := e1
  by_cases e1 : p0.toInt = 10
  · replace h := h.1 e1
    refine z_eqi (y := 10) (y_eqc e1 (by decide)) ?_
    refine z_tableIn (tgt := 134) (off := 133) b dX5_readChanged_1 (by decide) (by decide) (by decide) (by decide) ?_
    refine z_lv0 (lv' := [(0, .ref (a 26))]) [0] rfl ?_
    exact z_X5_readChanged_B134 hrw b _ h
  replace h := h.2
  have o3 := e1
  by_cases e1 : p0.toInt = 11
  · replace h := h.1 e1
    refine z_eqi (y := 11) (y_eqc e1 (by decide)) ?_
    refine z_tableIn (tgt := 118) (off := 117) b dX5_readChanged_1 (by decide) (by decide) (by decide) (by decide) ?_
    refine z_lv0 (lv' := [(0, .ref (a 26))]) [0] rfl ?_
    exact z_X5_readChanged_B118 hrw b _ h
  replace h := h.2
  have o4 := e1
  by_cases e1 : p0.toInt = 12
  · replace h := h.1 e1
    refine z_eqi (y := 12) (y_eqc e1 (by decide)) ?_
    refine z_tableIn (tgt := 118) (off := 117) b dX5_readChanged_1 (by decide) (by decide) (by decide) (by decide) ?_
    refine z_lv0 (lv' := [(0, .ref (a 26))]) [0] rfl ?_
    exact z_X5_readChanged_B118 hrw b _ h
  replace h := h.2
  have o5 := e1
  by_cases e1 : p0.toInt = 13
  · replace h := h.1 e1
    refine z_eqi (y := 13) (y_eqc e1 (by decide)) ?_
    refine z_tableIn (tgt := 118) (off := 117) b dX5_readChanged_1 (by decide) (by decide) (by decide) (by decide) ?_
    refine z_lv0 (lv' := [(0, .ref (a 26))]) [0] rfl ?_
    exact z_X5_readChanged_B118 hrw b _ h
  replace h := h.2
  have o6 := e1
  by_cases e1 : p0.toInt = 14
  · replace h := h.1 e1
    refine z_eqi (y := 14) (y_eqc e1 (by decide)) ?_
    refine z_tableIn (tgt := 48) (off := 47) b dX5_readChanged_1 (by decide) (by decide) (by decide) (by decide) ?_
    refine z_aload_n b dX5_readChanged_48 rfl rfl ?_
    refine z_dup b dX5_readChanged_49 rfl ?_
    refine z_get (q0 := 26) (k9 := 1) (v := .int (fi S.1 15)) b (kw_26 cy a rw S) rfl in_X5 (by decide) wf_X5_18 rfl dX5_readChanged_50 ?_
    refine z_iconst (v := 1) b dX5_readChanged_53 (by decide) ?_
    refine z_iadd b dX5_readChanged_54 rfl ?_
    refine z_put (q0 := 26) (k9 := 1) tyX5 b (kw_26 cy a rw S) rfl in_X5 tyX5_ok nmX5 (by decide) wf_X5_18 rfl rfl rfl rfl (Nat.le_of_ble_eq_true rfl) dX5_readChanged_55 (kwp_26_1 cy a rw S ((fi S.1 15) + 1)) ?_
    refine z_iconst (v := 0) b dX5_readChanged_58 (by decide) ?_
    exact z_iret (u := (ksi S 15 ((fi S.1 15) + 1))) b rfl dX5_readChanged_59 h rfl (by decide) (by decide)
  replace h := h.2
  have o7 := e1
  replace h := h ⟨o0, o1, o2, o3, o4, o5, o6, o7⟩
  refine z_tableOut (tgt := 134) b dX5_readChanged_1 (by omega) (by decide) ?_
  refine z_lv0 (lv' := [(0, .ref (a 26))]) [0] rfl ?_
  exact z_X5_readChanged_B134 hrw b _ h

def w_X11_gain_B26 (cy : Nat → ClassId) (tE : Nat) (post : Int32 → KS → Prop) (S : KS)  : Prop :=
  post (-100) S

set_option maxHeartbeats 4000000 in
set_option maxRecDepth 100000 in
theorem z_X11_gain_B26 {p : Program} {l : Launch} {e : Env} {R : Room} {s : State} {m : MethodId} {args : Array Value} {below : List Frame} {meth : Method} {c : Code} {D : va_G} {cy : Nat → ClassId} {T0 tB tE : Nat} {A : Nat → Prop} {a : Nat → Nat} {rw : Nat → Option Nat} (hrw : ∀ i, i < 6 → rw i = some (a (12 + 2 * i))) {post : Int32 → KS → Prop} (b : Bz p R s m args meth c D cy T0 tB tE A 7 cX11_gain RX11 (some .int) "gain" 6 144 0 0) (S : KS)  (h : w_X11_gain_B26 cy tE post S ) : Z p l e R s m args below meth c D A 7 (MQ below (QI D (U := KS) post (kw cy a rw) A) args s 0 0 A) 0 0 (kw cy a rw S) [] 26 [] := by
  unfold w_X11_gain_B26 at h
  refine z_bipush (v := (-100)) b dX11_gain_26 (by decide) ?_
  exact z_iret (u := S) b rfl dX11_gain_28 h rfl (by decide) (by decide)

def w_X11_gain_B131 (cy : Nat → ClassId) (tE : Nat) (post : Int32 → KS → Prop) (S : KS) (y0 : Int32) : Prop :=
  post y0 S

set_option maxHeartbeats 4000000 in
set_option maxRecDepth 100000 in
theorem z_X11_gain_B131 {p : Program} {l : Launch} {e : Env} {R : Room} {s : State} {m : MethodId} {args : Array Value} {below : List Frame} {meth : Method} {c : Code} {D : va_G} {cy : Nat → ClassId} {T0 tB tE : Nat} {A : Nat → Prop} {a : Nat → Nat} {rw : Nat → Option Nat} (hrw : ∀ i, i < 6 → rw i = some (a (12 + 2 * i))) {post : Int32 → KS → Prop} (b : Bz p R s m args meth c D cy T0 tB tE A 7 cX11_gain RX11 (some .int) "gain" 6 144 0 0) (S : KS) (y0 : Int32) (h : w_X11_gain_B131 cy tE post S y0) : Z p l e R s m args below meth c D A 7 (MQ below (QI D (U := KS) post (kw cy a rw) A) args s 0 0 A) 0 0 (kw cy a rw S) [] 131 [.int y0] := by
  unfold w_X11_gain_B131 at h
  exact z_iret (u := S) b rfl dX11_gain_131 h rfl (by decide) (by decide)

def w_X11_gain (cy : Nat → ClassId) (tE : Nat) (S : KS) (p0 : Int32) (p1 : Int32) (p2 : Int32) (p3 : Int32) (post : Int32 → KS → Prop) : Prop :=
  w_X11_isPerson cy tE S p0 (fun r1 S2 => ((r1.toInt = 0 → w_X11_gain_B26 cy tE post S2) ∧ (r1.toInt ≠ 0 → w_X11_areLaws cy tE S2 p1 (fun r3 S4 => ((r3.toInt = 0 → w_X11_gain_B26 cy tE post S4) ∧ (r3.toInt ≠ 0 → w_X11_isDepth cy tE S4 p2 (fun r5 S6 => ((r5.toInt = 0 → w_X11_gain_B26 cy tE post S6) ∧ (r5.toInt ≠ 0 → ((0 ≤ p3.toInt → w_X8_begin cy tE S6 p1 p2 7 0 (fun S8 => w_X8_finish cy tE S8 (fun S10 => (((fi S10.1 34).toInt = 0 → w_X8_richest cy tE S10 p0 (fun r11 S12 => ((p3.toInt ≠ 0 → ((p3.toInt ≠ 1 → w_X8_code cy tE S12 r11 (p3 - 2) (fun r13 S14 => ((r13.toInt ≠ (-1) → w_X11_gain_B131 cy tE post S14 r13) ∧ (r13.toInt = (-1) → w_X11_gain_B131 cy tE post S14 (-100))))) ∧ (p3.toInt = 1 → w_X8_acts cy tE S12 r11 (fun r15 S16 => post r15 S16)))) ∧ (p3.toInt = 0 → w_X8_wealth cy tE S12 r11 p0 (fun r17 S18 => post r17 S18))))) ∧ ((fi S10.1 34).toInt ≠ 0 → post (-101) S10))))) ∧ (p3.toInt < 0 → w_X11_gain_B26 cy tE post S6)))))))))))

set_option maxHeartbeats 4000000 in
set_option maxRecDepth 100000 in
theorem k_X11_gain {l : Launch} {D : va_G} {cy : Nat → ClassId} {T0 tB tE : Nat} {a : Nat → Nat} {rw : Nat → Option Nat} (hrw : ∀ i, i < 6 → rw i = some (a (12 + 2 * i))) (S : KS) (p0 : Int32) (p1 : Int32) (p2 : Int32) (p3 : Int32) (post : Int32 → KS → Prop) (h : w_X11_gain cy tE S p0 p1 p2 p3 post) : Ct l D cy T0 tB tE yX11_gain cX11_gain 7 (some .int) 6 144 0 0 (kw cy a rw S) [.ref (a 0), .int p0, .int p1, .int p2, .int p3] (QI D (U := KS) post (kw cy a rw)) := by
  refine Ct.ofZ RX11 "gain" [(0, .ref (a 0)), (1, .int p0), (2, .int p1), (3, .int p2), (4, .int p3)] rfl rfl rfl rfl (Nat.le_of_ble_eq_true rfl) ?_
  intro p e R s m args below meth c A b
  unfold w_X11_gain at h
  refine z_iload_n b dX11_gain_0 rfl rfl ?_
  refine z_calli b (z_runS (As := [.int p0]) (st := []) b (k_X11_isPerson hrw S p0 _ h) cf_X11_isPerson wm_X11_69 ws_X11_isPerson dX11_gain_1 rfl (Nat.le_of_ble_eq_true rfl) ⟨by decide, by decide, Nat.le_of_ble_eq_true rfl, Nat.le_of_ble_eq_true rfl⟩) (fun r1 S2 h => ?_)
  refine y_if_eq (tgt := 26) (xl := r1.toInt) b rfl dX11_gain_4 (by decide) (fun c1 => ?_) (fun c1 => ?_)
  · replace h := h.1 c1
    refine z_lv0 (lv' := []) [] rfl ?_
    exact z_X11_gain_B26 hrw b _ h
  · replace h := h.2 c1
    refine z_iload_n b dX11_gain_7 rfl rfl ?_
    refine z_calli b (z_runS (As := [.int p1]) (st := []) b (k_X11_areLaws hrw S2 p1 _ h) cf_X11_areLaws wm_X11_181 ws_X11_areLaws dX11_gain_8 rfl (Nat.le_of_ble_eq_true rfl) ⟨by decide, by decide, Nat.le_of_ble_eq_true rfl, Nat.le_of_ble_eq_true rfl⟩) (fun r3 S4 h => ?_)
    refine y_if_eq (tgt := 26) (xl := r3.toInt) b rfl dX11_gain_11 (by decide) (fun c1 => ?_) (fun c1 => ?_)
    · replace h := h.1 c1
      refine z_lv0 (lv' := []) [] rfl ?_
      exact z_X11_gain_B26 hrw b _ h
    · replace h := h.2 c1
      refine z_iload_n b dX11_gain_14 rfl rfl ?_
      refine z_calli b (z_runS (As := [.int p2]) (st := []) b (k_X11_isDepth hrw S4 p2 _ h) cf_X11_isDepth wm_X11_203 ws_X11_isDepth dX11_gain_15 rfl (Nat.le_of_ble_eq_true rfl) ⟨by decide, by decide, Nat.le_of_ble_eq_true rfl, Nat.le_of_ble_eq_true rfl⟩) (fun r5 S6 h => ?_)
      refine y_if_eq (tgt := 26) (xl := r5.toInt) b rfl dX11_gain_18 (by decide) (fun c1 => ?_) (fun c1 => ?_)
      · replace h := h.1 c1
        refine z_lv0 (lv' := []) [] rfl ?_
        exact z_X11_gain_B26 hrw b _ h
      · replace h := h.2 c1
        refine z_iload b dX11_gain_21 rfl ?_
        refine y_if_ge (tgt := 29) (xl := p3.toInt) b rfl dX11_gain_23 (by decide) (fun c1 => ?_) (fun c1 => ?_)
        · replace h := h.1 c1
          refine z_aload_n b dX11_gain_29 rfl rfl ?_
          refine z_get (q0 := 0) (k9 := 6) (v := .ref (a 38)) b (kw_0 cy a rw S6) rfl in_X11 (by decide) wf_X11_52 rfl dX11_gain_30 ?_
          refine z_iload_n b dX11_gain_33 rfl rfl ?_
          refine z_iload_n b dX11_gain_34 rfl rfl ?_
          refine z_bipush (v := 7) b dX11_gain_35 (by decide) ?_
          refine z_iconst (v := 0) b dX11_gain_37 (by decide) ?_
          refine z_callv b (z_runV (q0 := 38) (As := [.int p1, .int p2, .int 7, .int 0]) (st := []) b (k_X8_begin hrw S6 p1 p2 7 0 _ h) cf_X8_begin (kw_38 cy a rw S6) rfl wm_X11_206 wi_X8_begin ws_X8_begin dX11_gain_38 rfl (Nat.le_of_ble_eq_true rfl) ⟨by decide, by decide, Nat.le_of_ble_eq_true rfl, Nat.le_of_ble_eq_true rfl⟩) (fun S8 h => ?_)
          refine z_aload_n b dX11_gain_41 rfl rfl ?_
          refine z_get (q0 := 0) (k9 := 6) (v := .ref (a 38)) b (kw_0 cy a rw S8) rfl in_X11 (by decide) wf_X11_52 rfl dX11_gain_42 ?_
          refine z_callv b (z_runV (q0 := 38) (As := []) (st := []) b (k_X8_finish hrw S8 _ h) cf_X8_finish (kw_38 cy a rw S8) rfl wm_X11_232 wi_X8_finish ws_X8_finish dX11_gain_45 rfl (Nat.le_of_ble_eq_true rfl) ⟨by decide, by decide, Nat.le_of_ble_eq_true rfl, Nat.le_of_ble_eq_true rfl⟩) (fun S10 h => ?_)
          refine z_aload_n b dX11_gain_48 rfl rfl ?_
          refine z_get (q0 := 0) (k9 := 6) (v := .ref (a 38)) b (kw_0 cy a rw S10) rfl in_X11 (by decide) wf_X11_52 rfl dX11_gain_49 ?_
          refine z_get (q0 := 38) (k9 := 18) (v := .int (fi S10.1 34)) b (kw_38 cy a rw S10) rfl in_X8 (by decide) wf_X11_214 rfl dX11_gain_52 ?_
          refine y_if_eq (tgt := 61) (xl := (fi S10.1 34).toInt) b rfl dX11_gain_55 (by decide) (fun c1 => ?_) (fun c1 => ?_)
          · replace h := h.1 c1
            refine z_aload_n b dX11_gain_61 rfl rfl ?_
            refine z_get (q0 := 0) (k9 := 6) (v := .ref (a 38)) b (kw_0 cy a rw S10) rfl in_X11 (by decide) wf_X11_52 rfl dX11_gain_62 ?_
            refine z_iload_n b dX11_gain_65 rfl rfl ?_
            refine z_calli b (z_runV (q0 := 38) (As := [.int p0]) (st := []) b (k_X8_richest hrw S10 p0 _ h) cf_X8_richest (kw_38 cy a rw S10) rfl wm_X11_238 wi_X8_richest ws_X8_richest dX11_gain_66 rfl (Nat.le_of_ble_eq_true rfl) ⟨by decide, by decide, Nat.le_of_ble_eq_true rfl, Nat.le_of_ble_eq_true rfl⟩) (fun r11 S12 h => ?_)
            refine z_istore (lv' := [(5, .int r11), (0, .ref (a 0)), (1, .int p0), (2, .int p1), (3, .int p2), (4, .int p3)]) b dX11_gain_69 (by decide) rfl ?_
            refine z_iload b dX11_gain_71 rfl ?_
            refine y_if_ne (tgt := 87) (xl := p3.toInt) b rfl dX11_gain_73 (by decide) (fun c1 => ?_) (fun c1 => ?_)
            · replace h := h.1 c1
              refine z_iload b dX11_gain_87 rfl ?_
              refine z_iconst (v := 1) b dX11_gain_89 (by decide) ?_
              refine y_icmp_ne (tgt := 103) (xl := p3.toInt) (yl := 1) b rfl (by decide) dX11_gain_90 (by decide) (fun c1 => ?_) (fun c1 => ?_)
              · replace h := h.1 c1
                refine z_aload_n b dX11_gain_103 rfl rfl ?_
                refine z_get (q0 := 0) (k9 := 6) (v := .ref (a 38)) b (kw_0 cy a rw S12) rfl in_X11 (by decide) wf_X11_52 rfl dX11_gain_104 ?_
                refine z_iload b dX11_gain_107 rfl ?_
                refine z_iload b dX11_gain_109 rfl ?_
                refine z_iconst (v := 2) b dX11_gain_111 (by decide) ?_
                refine z_isub b dX11_gain_112 rfl ?_
                refine z_calli b (z_runV (q0 := 38) (As := [.int r11, .int (p3 - 2)]) (st := []) b (k_X8_code hrw S12 r11 (p3 - 2) _ h) cf_X8_code (kw_38 cy a rw S12) rfl wm_X11_219 wi_X8_code ws_X8_code dX11_gain_113 rfl (Nat.le_of_ble_eq_true rfl) ⟨by decide, by decide, Nat.le_of_ble_eq_true rfl, Nat.le_of_ble_eq_true rfl⟩) (fun r13 S14 h => ?_)
                refine z_istore (lv' := [(6, .int r13), (5, .int r11), (0, .ref (a 0)), (1, .int p0), (2, .int p1), (3, .int p2), (4, .int p3)]) b dX11_gain_116 (by decide) rfl ?_
                refine z_iload b dX11_gain_118 rfl ?_
                refine z_iconst (v := (-1)) b dX11_gain_120 (by decide) ?_
                refine y_icmp_ne (tgt := 129) (xl := r13.toInt) (yl := (-1)) b rfl (by decide) dX11_gain_121 (by decide) (fun c1 => ?_) (fun c1 => ?_)
                · replace h := h.1 c1
                  refine z_iload b dX11_gain_129 rfl ?_
                  refine z_lv0 (lv' := []) [] rfl ?_
                  exact z_X11_gain_B131 hrw b _ _ h
                · replace h := h.2 c1
                  refine z_bipush (v := (-100)) b dX11_gain_124 (by decide) ?_
                  refine z_goto (tgt := 131) b dX11_gain_126 (by decide) ?_
                  refine z_lv0 (lv' := []) [] rfl ?_
                  exact z_X11_gain_B131 hrw b _ _ h
              · replace h := h.2 c1
                refine z_aload_n b dX11_gain_93 rfl rfl ?_
                refine z_get (q0 := 0) (k9 := 6) (v := .ref (a 38)) b (kw_0 cy a rw S12) rfl in_X11 (by decide) wf_X11_52 rfl dX11_gain_94 ?_
                refine z_iload b dX11_gain_97 rfl ?_
                refine z_calli b (z_runV (q0 := 38) (As := [.int r11]) (st := []) b (k_X8_acts hrw S12 r11 _ h) cf_X8_acts (kw_38 cy a rw S12) rfl wm_X11_217 wi_X8_acts ws_X8_acts dX11_gain_99 rfl (Nat.le_of_ble_eq_true rfl) ⟨by decide, by decide, Nat.le_of_ble_eq_true rfl, Nat.le_of_ble_eq_true rfl⟩) (fun r15 S16 h => ?_)
                exact z_iret (u := S16) b rfl dX11_gain_102 h rfl (by decide) (by decide)
            · replace h := h.2 c1
              refine z_aload_n b dX11_gain_76 rfl rfl ?_
              refine z_get (q0 := 0) (k9 := 6) (v := .ref (a 38)) b (kw_0 cy a rw S12) rfl in_X11 (by decide) wf_X11_52 rfl dX11_gain_77 ?_
              refine z_iload b dX11_gain_80 rfl ?_
              refine z_iload_n b dX11_gain_82 rfl rfl ?_
              refine z_calli b (z_runV (q0 := 38) (As := [.int r11, .int p0]) (st := []) b (k_X8_wealth hrw S12 r11 p0 _ h) cf_X8_wealth (kw_38 cy a rw S12) rfl wm_X11_241 wi_X8_wealth ws_X8_wealth dX11_gain_83 rfl (Nat.le_of_ble_eq_true rfl) ⟨by decide, by decide, Nat.le_of_ble_eq_true rfl, Nat.le_of_ble_eq_true rfl⟩) (fun r17 S18 h => ?_)
              exact z_iret (u := S18) b rfl dX11_gain_86 h rfl (by decide) (by decide)
          · replace h := h.2 c1
            refine z_bipush (v := (-101)) b dX11_gain_58 (by decide) ?_
            exact z_iret (u := S10) b rfl dX11_gain_60 h rfl (by decide) (by decide)
        · replace h := h.2 c1
          refine z_lv0 (lv' := []) [] rfl ?_
          exact z_X11_gain_B26 hrw b _ h

def w_X11_through_B27 (cy : Nat → ClassId) (tE : Nat) (post : Int32 → KS → Prop) (S : KS)  : Prop :=
  post (-1) S

set_option maxHeartbeats 4000000 in
set_option maxRecDepth 100000 in
theorem z_X11_through_B27 {p : Program} {l : Launch} {e : Env} {R : Room} {s : State} {m : MethodId} {args : Array Value} {below : List Frame} {meth : Method} {c : Code} {D : va_G} {cy : Nat → ClassId} {T0 tB tE : Nat} {A : Nat → Prop} {a : Nat → Nat} {rw : Nat → Option Nat} (hrw : ∀ i, i < 6 → rw i = some (a (12 + 2 * i))) {post : Int32 → KS → Prop} (b : Bz p R s m args meth c D cy T0 tB tE A 7 cX11_through RX11 (some .int) "through" 3 72 0 0) (S : KS)  (h : w_X11_through_B27 cy tE post S ) : Z p l e R s m args below meth c D A 7 (MQ below (QI D (U := KS) post (kw cy a rw) A) args s 0 0 A) 0 0 (kw cy a rw S) [] 27 [] := by
  unfold w_X11_through_B27 at h
  refine z_iconst (v := (-1)) b dX11_through_27 (by decide) ?_
  exact z_iret (u := S) b rfl dX11_through_28 h rfl (by decide) (by decide)

def w_X11_through_B93 (cy : Nat → ClassId) (tE : Nat) (post : Int32 → KS → Prop) (k37 : KS → Int32 → Int32 → Int32 → Int32 → Int32 → Prop) (k99 : KS → Int32 → Int32 → Int32 → Prop) (S : KS) (x1 : Int32) (x2 : Int32) (x3 : Int32) (x4 : Int32) (x5 : Int32) : Prop :=
  k37 S x1 x2 x3 x4 (x5 + 1)

set_option maxHeartbeats 4000000 in
set_option maxRecDepth 100000 in
theorem z_X11_through_B93 {p : Program} {l : Launch} {e : Env} {R : Room} {s : State} {m : MethodId} {args : Array Value} {below : List Frame} {meth : Method} {c : Code} {D : va_G} {cy : Nat → ClassId} {T0 tB tE : Nat} {A : Nat → Prop} {a : Nat → Nat} {rw : Nat → Option Nat} (hrw : ∀ i, i < 6 → rw i = some (a (12 + 2 * i))) {post : Int32 → KS → Prop} {k37 : KS → Int32 → Int32 → Int32 → Int32 → Int32 → Prop} {k99 : KS → Int32 → Int32 → Int32 → Prop} (b : Bz p R s m args meth c D cy T0 tB tE A 7 cX11_through RX11 (some .int) "through" 3 72 0 0) (hk37 : ∀ (S : KS) (x1 : Int32) (x2 : Int32) (x3 : Int32) (x4 : Int32) (x5 : Int32), k37 S x1 x2 x3 x4 x5 → Z p l e R s m args below meth c D A 7 (MQ below (QI D (U := KS) post (kw cy a rw) A) args s 0 0 A) 0 0 (kw cy a rw S) [(0, .ref (a 0)), (1, .int x1), (2, .int x2), (3, .int x3), (4, .int x4), (5, .int x5)] 37 []) (hk99 : ∀ (S : KS) (x2 : Int32) (x3 : Int32) (x4 : Int32), k99 S x2 x3 x4 → Z p l e R s m args below meth c D A 7 (MQ below (QI D (U := KS) post (kw cy a rw) A) args s 0 0 A) 0 0 (kw cy a rw S) [(2, .int x2), (3, .int x3), (4, .int x4)] 99 []) (S : KS) (x1 : Int32) (x2 : Int32) (x3 : Int32) (x4 : Int32) (x5 : Int32) (h : w_X11_through_B93 cy tE post k37 k99 S x1 x2 x3 x4 x5) : Z p l e R s m args below meth c D A 7 (MQ below (QI D (U := KS) post (kw cy a rw) A) args s 0 0 A) 0 0 (kw cy a rw S) [(0, .ref (a 0)), (1, .int x1), (2, .int x2), (3, .int x3), (4, .int x4), (5, .int x5)] 93 [] := by
  unfold w_X11_through_B93 at h
  refine z_iinc (k9 := 5) (v := (x5 + 1)) (lv' := [(5, .int (x5 + 1)), (0, .ref (a 0)), (1, .int x1), (2, .int x2), (3, .int x3), (4, .int x4)]) b dX11_through_93 rfl rfl (by decide) rfl ?_
  refine z_goto (tgt := 37) b dX11_through_96 (by decide) ?_
  refine z_lv0 (lv' := [(0, .ref (a 0)), (1, .int x1), (2, .int x2), (3, .int x3), (4, .int x4), (5, .int (x5 + 1))]) [1, 2, 3, 4, 5, 0] rfl ?_
  exact hk37 _ _ _ _ _ _ h

def w_X11_through_B86 (cy : Nat → ClassId) (tE : Nat) (post : Int32 → KS → Prop) (k37 : KS → Int32 → Int32 → Int32 → Int32 → Int32 → Prop) (k99 : KS → Int32 → Int32 → Int32 → Prop) (S : KS) (x1 : Int32) (x2 : Int32) (x5 : Int32) (x6 : Int32) : Prop :=
  w_X11_through_B93 cy tE post k37 k99 S x1 x2 x6 x5 x5

set_option maxHeartbeats 4000000 in
set_option maxRecDepth 100000 in
theorem z_X11_through_B86 {p : Program} {l : Launch} {e : Env} {R : Room} {s : State} {m : MethodId} {args : Array Value} {below : List Frame} {meth : Method} {c : Code} {D : va_G} {cy : Nat → ClassId} {T0 tB tE : Nat} {A : Nat → Prop} {a : Nat → Nat} {rw : Nat → Option Nat} (hrw : ∀ i, i < 6 → rw i = some (a (12 + 2 * i))) {post : Int32 → KS → Prop} {k37 : KS → Int32 → Int32 → Int32 → Int32 → Int32 → Prop} {k99 : KS → Int32 → Int32 → Int32 → Prop} (b : Bz p R s m args meth c D cy T0 tB tE A 7 cX11_through RX11 (some .int) "through" 3 72 0 0) (hk37 : ∀ (S : KS) (x1 : Int32) (x2 : Int32) (x3 : Int32) (x4 : Int32) (x5 : Int32), k37 S x1 x2 x3 x4 x5 → Z p l e R s m args below meth c D A 7 (MQ below (QI D (U := KS) post (kw cy a rw) A) args s 0 0 A) 0 0 (kw cy a rw S) [(0, .ref (a 0)), (1, .int x1), (2, .int x2), (3, .int x3), (4, .int x4), (5, .int x5)] 37 []) (hk99 : ∀ (S : KS) (x2 : Int32) (x3 : Int32) (x4 : Int32), k99 S x2 x3 x4 → Z p l e R s m args below meth c D A 7 (MQ below (QI D (U := KS) post (kw cy a rw) A) args s 0 0 A) 0 0 (kw cy a rw S) [(2, .int x2), (3, .int x3), (4, .int x4)] 99 []) (S : KS) (x1 : Int32) (x2 : Int32) (x5 : Int32) (x6 : Int32) (h : w_X11_through_B86 cy tE post k37 k99 S x1 x2 x5 x6) : Z p l e R s m args below meth c D A 7 (MQ below (QI D (U := KS) post (kw cy a rw) A) args s 0 0 A) 0 0 (kw cy a rw S) [(0, .ref (a 0)), (1, .int x1), (2, .int x2), (5, .int x5), (6, .int x6)] 86 [] := by
  unfold w_X11_through_B86 at h
  refine z_iload b dX11_through_86 rfl ?_
  refine z_istore_n (lv' := [(3, .int x6), (0, .ref (a 0)), (1, .int x1), (2, .int x2), (5, .int x5), (6, .int x6)]) b dX11_through_88 rfl (by decide) rfl ?_
  refine z_iload b dX11_through_89 rfl ?_
  refine z_istore (lv' := [(4, .int x5), (3, .int x6), (0, .ref (a 0)), (1, .int x1), (2, .int x2), (5, .int x5), (6, .int x6)]) b dX11_through_91 (by decide) rfl ?_
  refine z_lv0 (lv' := [(0, .ref (a 0)), (1, .int x1), (2, .int x2), (3, .int x6), (4, .int x5), (5, .int x5)]) [2, 3, 4, 1, 0, 5] rfl ?_
  exact z_X11_through_B93 hrw b hk37 hk99 _ _ _ _ _ _ h

def w_X11_through_F37 (cy : Nat → ClassId) (tE : Nat) (post : Int32 → KS → Prop) (k99 : KS → Int32 → Int32 → Int32 → Prop) (k37 : KS → Int32 → Int32 → Int32 → Int32 → Int32 → Prop) (S : KS) (x1 : Int32) (x2 : Int32) (x3 : Int32) (x4 : Int32) (x5 : Int32) : Prop :=
  ((36 ≤ x5.toInt → k99 S x2 x3 x4) ∧ (x5.toInt < 36 → (0 ≤ x1.toInt ∧ x1.toInt < 6) ∧ w_X7_endOf cy tE S 6 (x1.toNatClampNeg) (x5 / 6) (x5 - x5 / 6 * 6) (fun r10 S11 => ((r10.toInt = (-1) → w_X11_through_B93 cy tE post k37 k99 S11 x1 x2 x3 x4 x5) ∧ (r10.toInt ≠ (-1) → ((x3.toInt = (-1) → w_X11_through_B86 cy tE post k37 k99 S11 x1 x2 x5 r10) ∧ (x3.toInt ≠ (-1) → ((x3.toInt ≤ r10.toInt → w_X11_through_B93 cy tE post k37 k99 S11 x1 x2 x3 x4 x5) ∧ (r10.toInt < x3.toInt → w_X11_through_B86 cy tE post k37 k99 S11 x1 x2 x5 r10)))))))))

set_option maxHeartbeats 4000000 in
set_option maxRecDepth 100000 in
theorem z_X11_through_F37 {p : Program} {l : Launch} {e : Env} {R : Room} {s : State} {m : MethodId} {args : Array Value} {below : List Frame} {meth : Method} {c : Code} {D : va_G} {cy : Nat → ClassId} {T0 tB tE : Nat} {A : Nat → Prop} {a : Nat → Nat} {rw : Nat → Option Nat} (hrw : ∀ i, i < 6 → rw i = some (a (12 + 2 * i))) {post : Int32 → KS → Prop} {k99 : KS → Int32 → Int32 → Int32 → Prop} {k37 : KS → Int32 → Int32 → Int32 → Int32 → Int32 → Prop} (b : Bz p R s m args meth c D cy T0 tB tE A 7 cX11_through RX11 (some .int) "through" 3 72 0 0) (hk99 : ∀ (S : KS) (x2 : Int32) (x3 : Int32) (x4 : Int32), k99 S x2 x3 x4 → Z p l e R s m args below meth c D A 7 (MQ below (QI D (U := KS) post (kw cy a rw) A) args s 0 0 A) 0 0 (kw cy a rw S) [(2, .int x2), (3, .int x3), (4, .int x4)] 99 []) (hk37 : ∀ (S : KS) (x1 : Int32) (x2 : Int32) (x3 : Int32) (x4 : Int32) (x5 : Int32), k37 S x1 x2 x3 x4 x5 → Z p l e R s m args below meth c D A 7 (MQ below (QI D (U := KS) post (kw cy a rw) A) args s 0 0 A) 0 0 (kw cy a rw S) [(0, .ref (a 0)), (1, .int x1), (2, .int x2), (3, .int x3), (4, .int x4), (5, .int x5)] 37 []) (S : KS) (x1 : Int32) (x2 : Int32) (x3 : Int32) (x4 : Int32) (x5 : Int32) (h : w_X11_through_F37 cy tE post k99 k37 S x1 x2 x3 x4 x5) : Z p l e R s m args below meth c D A 7 (MQ below (QI D (U := KS) post (kw cy a rw) A) args s 0 0 A) 0 0 (kw cy a rw S) [(0, .ref (a 0)), (1, .int x1), (2, .int x2), (3, .int x3), (4, .int x4), (5, .int x5)] 37 [] := by
  unfold w_X11_through_F37 at h
  refine z_iload b dX11_through_37 rfl ?_
  refine z_bipush (v := 36) b dX11_through_39 (by decide) ?_
  refine y_icmp_ge (tgt := 99) (xl := x5.toInt) (yl := 36) b rfl (by decide) dX11_through_41 (by decide) (fun c1 => ?_) (fun c1 => ?_)
  · replace h := h.1 c1
    refine z_lv0 (lv' := [(2, .int x2), (3, .int x3), (4, .int x4)]) [2, 3, 4] rfl ?_
    exact hk99 _ _ _ _ h
  · replace h := h.2 c1
    refine z_aload_n b dX11_through_44 rfl rfl ?_
    refine z_get (q0 := 0) (k9 := 8) (v := .ref (a 24)) b (kw_0 cy a rw S) rfl in_X11 (by decide) wf_X11_65 rfl dX11_through_45 ?_
    refine z_aload_n b dX11_through_48 rfl rfl ?_
    refine z_get (q0 := 0) (k9 := 7) (v := .ref (a 46)) b (kw_0 cy a rw S) rfl in_X11 (by decide) wf_X11_58 rfl dX11_through_49 ?_
    refine z_iload_n b dX11_through_52 rfl rfl ?_
    obtain ⟨g8, h⟩ := h
    refine y_aald (q0 := 46) (t0 := 4) (j := x1.toNatClampNeg) (v := .ref (a (12 + 2 * (x1.toNatClampNeg)))) b (kw_46 cy a rw S) rfl (zx_r g8.1 g8.2) (by rw [hrw _ (zx_lt (zx_r g8.1 g8.2))]; rfl) dX11_through_53 ?_
    refine z_iload b dX11_through_54 rfl ?_
    refine z_bipush (v := 6) b dX11_through_56 (by decide) ?_
    refine z_idiv b dX11_through_58 (by decide) rfl ?_
    refine z_iload b dX11_through_59 rfl ?_
    refine z_bipush (v := 6) b dX11_through_61 (by decide) ?_
    refine z_irem b dX11_through_63 (by decide) rfl ?_
    refine z_calli b (z_runV (q0 := 24) (As := [.ref (a (12 + 2 * (x1.toNatClampNeg))), .int (x5 / 6), .int (x5 - x5 / 6 * 6)]) (st := []) b (k_X7_endOf hrw S 6 (x1.toNatClampNeg) (x5 / 6) (x5 - x5 / 6 * 6) _ h) cf_X7_endOf (kw_24 cy a rw S) rfl wm_X11_248 wi_X7_endOf ws_X7_endOf dX11_through_64 rfl (Nat.le_of_ble_eq_true rfl) ⟨by decide, by decide, Nat.le_of_ble_eq_true rfl, Nat.le_of_ble_eq_true rfl⟩) (fun r10 S11 h => ?_)
    refine z_istore (lv' := [(6, .int r10), (0, .ref (a 0)), (1, .int x1), (2, .int x2), (3, .int x3), (4, .int x4), (5, .int x5)]) b dX11_through_67 (by decide) rfl ?_
    refine z_iload b dX11_through_69 rfl ?_
    refine z_iconst (v := (-1)) b dX11_through_71 (by decide) ?_
    refine y_icmp_eq (tgt := 93) (xl := r10.toInt) (yl := (-1)) b rfl (by decide) dX11_through_72 (by decide) (fun c1 => ?_) (fun c1 => ?_)
    · replace h := h.1 c1
      refine z_lv0 (lv' := [(0, .ref (a 0)), (1, .int x1), (2, .int x2), (3, .int x3), (4, .int x4), (5, .int x5)]) [1, 2, 3, 4, 5, 6] rfl ?_
      exact z_X11_through_B93 hrw b hk37 hk99 _ _ _ _ _ _ h
    · replace h := h.2 c1
      refine z_iload_n b dX11_through_75 rfl rfl ?_
      refine z_iconst (v := (-1)) b dX11_through_76 (by decide) ?_
      refine y_icmp_eq (tgt := 86) (xl := x3.toInt) (yl := (-1)) b rfl (by decide) dX11_through_77 (by decide) (fun c1 => ?_) (fun c1 => ?_)
      · replace h := h.1 c1
        refine z_lv0 (lv' := [(0, .ref (a 0)), (1, .int x1), (2, .int x2), (5, .int x5), (6, .int r10)]) [1, 2, 3, 6, 0] rfl ?_
        exact z_X11_through_B86 hrw b hk37 hk99 _ _ _ _ _ h
      · replace h := h.2 c1
        refine z_iload b dX11_through_80 rfl ?_
        refine z_iload_n b dX11_through_82 rfl rfl ?_
        refine y_icmp_ge (tgt := 93) (xl := r10.toInt) (yl := x3.toInt) b rfl rfl dX11_through_83 (by decide) (fun c1 => ?_) (fun c1 => ?_)
        · replace h := h.1 c1
          refine z_lv0 (lv' := [(0, .ref (a 0)), (1, .int x1), (2, .int x2), (3, .int x3), (4, .int x4), (5, .int x5)]) [1, 2, 3, 4, 5, 6] rfl ?_
          exact z_X11_through_B93 hrw b hk37 hk99 _ _ _ _ _ _ h
        · replace h := h.2 c1
          refine z_lv0 (lv' := [(0, .ref (a 0)), (1, .int x1), (2, .int x2), (5, .int x5), (6, .int r10)]) [1, 2, 3, 6, 0] rfl ?_
          exact z_X11_through_B86 hrw b hk37 hk99 _ _ _ _ _ h

set_option maxHeartbeats 4000000 in
set_option maxRecDepth 100000 in
theorem zl_X11_through_L37 {p : Program} {l : Launch} {e : Env} {R : Room} {s : State} {m : MethodId} {args : Array Value} {below : List Frame} {meth : Method} {c : Code} {D : va_G} {cy : Nat → ClassId} {T0 tB tE : Nat} {A : Nat → Prop} {a : Nat → Nat} {rw : Nat → Option Nat} (hrw : ∀ i, i < 6 → rw i = some (a (12 + 2 * i))) {post : Int32 → KS → Prop} {k99 : KS → Int32 → Int32 → Int32 → Prop} (b : Bz p R s m args meth c D cy T0 tB tE A 7 cX11_through RX11 (some .int) "through" 3 72 0 0) (hk99 : ∀ (S : KS) (x2 : Int32) (x3 : Int32) (x4 : Int32), k99 S x2 x3 x4 → Z p l e R s m args below meth c D A 7 (MQ below (QI D (U := KS) post (kw cy a rw) A) args s 0 0 A) 0 0 (kw cy a rw S) [(2, .int x2), (3, .int x3), (4, .int x4)] 99 []) : ∀ (n : Nat) (S : KS) (x1 : Int32) (x2 : Int32) (x3 : Int32) (x4 : Int32) (x5 : Int32), lpn (w_X11_through_F37 cy tE post k99) (fun _ _ _ _ _ _ => False) n S x1 x2 x3 x4 x5 → Z p l e R s m args below meth c D A 7 (MQ below (QI D (U := KS) post (kw cy a rw) A) args s 0 0 A) 0 0 (kw cy a rw S) [(0, .ref (a 0)), (1, .int x1), (2, .int x2), (3, .int x3), (4, .int x4), (5, .int x5)] 37 [] := by
  intro n
  induction n with
  | zero => intro _ _ _ _ _ _ h; exact h.elim
  | succ n ih => intro S x1 x2 x3 x4 x5 h; exact z_X11_through_F37 hrw b hk99 ih S x1 x2 x3 x4 x5 h

def w_X11_through_B108 (cy : Nat → ClassId) (tE : Nat) (post : Int32 → KS → Prop) (S : KS) (x3 : Int32) : Prop :=
  post x3 S

set_option maxHeartbeats 4000000 in
set_option maxRecDepth 100000 in
theorem z_X11_through_B108 {p : Program} {l : Launch} {e : Env} {R : Room} {s : State} {m : MethodId} {args : Array Value} {below : List Frame} {meth : Method} {c : Code} {D : va_G} {cy : Nat → ClassId} {T0 tB tE : Nat} {A : Nat → Prop} {a : Nat → Nat} {rw : Nat → Option Nat} (hrw : ∀ i, i < 6 → rw i = some (a (12 + 2 * i))) {post : Int32 → KS → Prop} (b : Bz p R s m args meth c D cy T0 tB tE A 7 cX11_through RX11 (some .int) "through" 3 72 0 0) (S : KS) (x3 : Int32) (h : w_X11_through_B108 cy tE post S x3) : Z p l e R s m args below meth c D A 7 (MQ below (QI D (U := KS) post (kw cy a rw) A) args s 0 0 A) 0 0 (kw cy a rw S) [(3, .int x3)] 108 [] := by
  unfold w_X11_through_B108 at h
  refine z_iload_n b dX11_through_108 rfl rfl ?_
  exact z_iret (u := S) b rfl dX11_through_109 h rfl (by decide) (by decide)

def w_X11_through_B99 (cy : Nat → ClassId) (tE : Nat) (post : Int32 → KS → Prop) (S : KS) (x2 : Int32) (x3 : Int32) (x4 : Int32) : Prop :=
  ((x3.toInt = (-1) → w_X11_through_B108 cy tE post S x3) ∧ (x3.toInt ≠ (-1) → ((x2.toInt ≠ 0 → w_X11_digits cy tE S (x4 / 6) (fun r12 S13 => w_X11_digits cy tE S13 (x4 - x4 / 6 * 6) (fun r14 S15 => post (((1000 : Int32) * r12) + r14) S15))) ∧ (x2.toInt = 0 → w_X11_through_B108 cy tE post S x3))))

set_option maxHeartbeats 4000000 in
set_option maxRecDepth 100000 in
theorem z_X11_through_B99 {p : Program} {l : Launch} {e : Env} {R : Room} {s : State} {m : MethodId} {args : Array Value} {below : List Frame} {meth : Method} {c : Code} {D : va_G} {cy : Nat → ClassId} {T0 tB tE : Nat} {A : Nat → Prop} {a : Nat → Nat} {rw : Nat → Option Nat} (hrw : ∀ i, i < 6 → rw i = some (a (12 + 2 * i))) {post : Int32 → KS → Prop} (b : Bz p R s m args meth c D cy T0 tB tE A 7 cX11_through RX11 (some .int) "through" 3 72 0 0) (S : KS) (x2 : Int32) (x3 : Int32) (x4 : Int32) (h : w_X11_through_B99 cy tE post S x2 x3 x4) : Z p l e R s m args below meth c D A 7 (MQ below (QI D (U := KS) post (kw cy a rw) A) args s 0 0 A) 0 0 (kw cy a rw S) [(2, .int x2), (3, .int x3), (4, .int x4)] 99 [] := by
  unfold w_X11_through_B99 at h
  refine z_iload_n b dX11_through_99 rfl rfl ?_
  refine z_iconst (v := (-1)) b dX11_through_100 (by decide) ?_
  refine y_icmp_eq (tgt := 108) (xl := x3.toInt) (yl := (-1)) b rfl (by decide) dX11_through_101 (by decide) (fun c1 => ?_) (fun c1 => ?_)
  · replace h := h.1 c1
    refine z_lv0 (lv' := [(3, .int x3)]) [1] rfl ?_
    exact z_X11_through_B108 hrw b _ _ h
  · replace h := h.2 c1
    refine z_iload_n b dX11_through_104 rfl rfl ?_
    refine y_if_ne (tgt := 110) (xl := x2.toInt) b rfl dX11_through_105 (by decide) (fun c1 => ?_) (fun c1 => ?_)
    · replace h := h.1 c1
      refine z_sipush (v := 1000) b dX11_through_110 (by decide) ?_
      refine z_iload b dX11_through_113 rfl ?_
      refine z_bipush (v := 6) b dX11_through_115 (by decide) ?_
      refine z_idiv b dX11_through_117 (by decide) rfl ?_
      refine z_calli b (z_runS (As := [.int (x4 / 6)]) (st := [.int 1000]) b (k_X11_digits hrw S (x4 / 6) _ h) cf_X11_digits wm_X11_252 ws_X11_digits dX11_through_118 rfl (Nat.le_of_ble_eq_true rfl) ⟨by decide, by decide, Nat.le_of_ble_eq_true rfl, Nat.le_of_ble_eq_true rfl⟩) (fun r12 S13 h => ?_)
      refine z_imul b dX11_through_121 rfl ?_
      refine z_iload b dX11_through_122 rfl ?_
      refine z_bipush (v := 6) b dX11_through_124 (by decide) ?_
      refine z_irem b dX11_through_126 (by decide) rfl ?_
      refine z_calli b (z_runS (As := [.int (x4 - x4 / 6 * 6)]) (st := [.int ((1000 : Int32) * r12)]) b (k_X11_digits hrw S13 (x4 - x4 / 6 * 6) _ h) cf_X11_digits wm_X11_252 ws_X11_digits dX11_through_127 rfl (Nat.le_of_ble_eq_true rfl) ⟨by decide, by decide, Nat.le_of_ble_eq_true rfl, Nat.le_of_ble_eq_true rfl⟩) (fun r14 S15 h => ?_)
      refine z_iadd b dX11_through_130 rfl ?_
      exact z_iret (u := S15) b rfl dX11_through_131 h rfl (by decide) (by decide)
    · replace h := h.2 c1
      refine z_lv0 (lv' := [(3, .int x3)]) [1] rfl ?_
      exact z_X11_through_B108 hrw b _ _ h

def w_X11_through (cy : Nat → ClassId) (tE : Nat) (S : KS) (p0 : Int32) (p1 : Int32) (post : Int32 → KS → Prop) : Prop :=
  w_X11_isRow cy tE S p0 (fun r1 S2 => ((r1.toInt = 0 → w_X11_through_B27 cy tE post S2) ∧ (r1.toInt ≠ 0 → (0 ≤ p0.toInt ∧ p0.toInt < 6) ∧ ((p0.toNatClampNeg) < 7) ∧ (((fi S2.1 (1 + 2 * (p0.toNatClampNeg))).toInt = 0 → w_X11_through_B27 cy tE post S2) ∧ ((fi S2.1 (1 + 2 * (p0.toNatClampNeg))).toInt ≠ 0 → w_X11_isWithin cy tE S2 p1 1 (fun r6 S7 => ((r6.toInt ≠ 0 → ∃ n, lpn (w_X11_through_F37 cy tE post (w_X11_through_B99 cy tE post)) (fun _ _ _ _ _ _ => False) n S7 p0 p1 (-1) (-1) 0) ∧ (r6.toInt = 0 → w_X11_through_B27 cy tE post S7))))))))

set_option maxHeartbeats 4000000 in
set_option maxRecDepth 100000 in
theorem k_X11_through {l : Launch} {D : va_G} {cy : Nat → ClassId} {T0 tB tE : Nat} {a : Nat → Nat} {rw : Nat → Option Nat} (hrw : ∀ i, i < 6 → rw i = some (a (12 + 2 * i))) (S : KS) (p0 : Int32) (p1 : Int32) (post : Int32 → KS → Prop) (h : w_X11_through cy tE S p0 p1 post) : Ct l D cy T0 tB tE yX11_through cX11_through 7 (some .int) 3 72 0 0 (kw cy a rw S) [.ref (a 0), .int p0, .int p1] (QI D (U := KS) post (kw cy a rw)) := by
  refine Ct.ofZ RX11 "through" [(0, .ref (a 0)), (1, .int p0), (2, .int p1)] rfl rfl rfl rfl (Nat.le_of_ble_eq_true rfl) ?_
  intro p e R s m args below meth c A b
  unfold w_X11_through at h
  refine z_iload_n b dX11_through_0 rfl rfl ?_
  refine z_calli b (z_runS (As := [.int p0]) (st := []) b (k_X11_isRow hrw S p0 _ h) cf_X11_isRow wm_X11_169 ws_X11_isRow dX11_through_1 rfl (Nat.le_of_ble_eq_true rfl) ⟨by decide, by decide, Nat.le_of_ble_eq_true rfl, Nat.le_of_ble_eq_true rfl⟩) (fun r1 S2 h => ?_)
  refine y_if_eq (tgt := 27) (xl := r1.toInt) b rfl dX11_through_4 (by decide) (fun c1 => ?_) (fun c1 => ?_)
  · replace h := h.1 c1
    refine z_lv0 (lv' := []) [] rfl ?_
    exact z_X11_through_B27 hrw b _ h
  · replace h := h.2 c1
    refine z_aload_n b dX11_through_7 rfl rfl ?_
    refine z_get (q0 := 0) (k9 := 7) (v := .ref (a 46)) b (kw_0 cy a rw S2) rfl in_X11 (by decide) wf_X11_58 rfl dX11_through_8 ?_
    refine z_iload_n b dX11_through_11 rfl rfl ?_
    obtain ⟨g3, h⟩ := h
    refine y_aald (q0 := 46) (t0 := 4) (j := p0.toNatClampNeg) (v := .ref (a (12 + 2 * (p0.toNatClampNeg)))) b (kw_46 cy a rw S2) rfl (zx_r g3.1 g3.2) (by rw [hrw _ (zx_lt (zx_r g3.1 g3.2))]; rfl) dX11_through_12 ?_
    obtain ⟨g5, h⟩ := h
    refine z_get (q0 := 12 + 2 * (p0.toNatClampNeg)) (k9 := 1) (v := .int (fi S2.1 (1 + 2 * (p0.toNatClampNeg)))) b (kw_ro cy a rw S2 g5) rfl in_X7 (by decide) wf_X11_175 rfl dX11_through_13 ?_
    refine y_if_eq (tgt := 27) (xl := (fi S2.1 (1 + 2 * (p0.toNatClampNeg))).toInt) b rfl dX11_through_16 (by decide) (fun c1 => ?_) (fun c1 => ?_)
    · replace h := h.1 c1
      refine z_lv0 (lv' := []) [] rfl ?_
      exact z_X11_through_B27 hrw b _ h
    · replace h := h.2 c1
      refine z_iload_n b dX11_through_19 rfl rfl ?_
      refine z_iconst (v := 1) b dX11_through_20 (by decide) ?_
      refine z_calli b (z_runS (As := [.int p1, .int 1]) (st := []) b (k_X11_isWithin hrw S2 p1 1 _ h) cf_X11_isWithin wm_X11_73 ws_X11_isWithin dX11_through_21 rfl (Nat.le_of_ble_eq_true rfl) ⟨by decide, by decide, Nat.le_of_ble_eq_true rfl, Nat.le_of_ble_eq_true rfl⟩) (fun r6 S7 h => ?_)
      refine y_if_ne (tgt := 29) (xl := r6.toInt) b rfl dX11_through_24 (by decide) (fun c1 => ?_) (fun c1 => ?_)
      · replace h := h.1 c1
        refine z_iconst (v := (-1)) b dX11_through_29 (by decide) ?_
        refine z_istore_n (lv' := [(3, .int (-1)), (0, .ref (a 0)), (1, .int p0), (2, .int p1)]) b dX11_through_30 rfl (by decide) rfl ?_
        refine z_iconst (v := (-1)) b dX11_through_31 (by decide) ?_
        refine z_istore (lv' := [(4, .int (-1)), (3, .int (-1)), (0, .ref (a 0)), (1, .int p0), (2, .int p1)]) b dX11_through_32 (by decide) rfl ?_
        refine z_iconst (v := 0) b dX11_through_34 (by decide) ?_
        refine z_istore (lv' := [(5, .int 0), (4, .int (-1)), (3, .int (-1)), (0, .ref (a 0)), (1, .int p0), (2, .int p1)]) b dX11_through_35 (by decide) rfl ?_
        refine z_lv0 (lv' := [(0, .ref (a 0)), (1, .int p0), (2, .int p1), (3, .int (-1)), (4, .int (-1)), (5, .int 0)]) [3, 4, 5, 2, 1, 0] rfl ?_
        obtain ⟨n, h⟩ := h
        exact zl_X11_through_L37 hrw b (fun S x2 x3 x4 h => z_X11_through_B99 hrw b _ _ _ _ h) n _ _ _ _ _ _ h
      · replace h := h.2 c1
        refine z_lv0 (lv' := []) [] rfl ?_
        exact z_X11_through_B27 hrw b _ h

def w_Jx4a65c_grow_92f84_B20 (cy : Nat → ClassId) (tE : Nat) (mc ms : Nat) (post : Option Nat → KS → Prop) (S : KS) (nc : Nat) (ns : Nat) (x0 : Nat) (x1 : Int32) (x2 : Int32) : Prop :=
  False

set_option maxHeartbeats 4000000 in
set_option maxRecDepth 100000 in
theorem z_Jx4a65c_grow_92f84_B20 {p : Program} {l : Launch} {e : Env} {R : Room} {s : State} {m : MethodId} {args : Array Value} {below : List Frame} {meth : Method} {c : Code} {D : va_G} {cy : Nat → ClassId} {T0 tB tE : Nat} {A : Nat → Prop} {a : Nat → Nat} {rw : Nat → Option Nat} (hrw : ∀ i, i < 6 → rw i = some (a (12 + 2 * i))) {mc ms : Nat} {post : Option Nat → KS → Prop} (b : Bz p R s m args meth c D cy T0 tB tE A 4 cJx4a65c_grow_92f84 RJx4a65c (some (.array (.object "java/lang/Object"))) "grow" 1 40 mc ms) (S : KS) (nc : Nat) (ns : Nat) (x0 : Nat) (x1 : Int32) (x2 : Int32) (h : w_Jx4a65c_grow_92f84_B20 cy tE mc ms post S nc ns x0 x1 x2) : Z p l e R s m args below meth c D A 4 (MQ below (QQ D (U := KS) post (kw cy a rw) A) args s mc ms A) nc ns (kw cy a rw S) [(0, .ref x0), (1, .int x1), (2, .int x2)] 20 [] := by
  unfold w_Jx4a65c_grow_92f84_B20 at h
  refine z_iload_n b dJx4a65c_grow_92f84_20 rfl rfl ?_
  refine z_iload_n b dJx4a65c_grow_92f84_21 rfl rfl ?_
  refine z_iload_n b dJx4a65c_grow_92f84_22 rfl rfl ?_
  refine z_isub b dJx4a65c_grow_92f84_23 rfl ?_
  refine z_iload_n b dJx4a65c_grow_92f84_24 rfl rfl ?_
  refine z_iconst (v := 1) b dJx4a65c_grow_92f84_25 (by decide) ?_
  refine z_ishr b dJx4a65c_grow_92f84_26 rfl ?_
  exact h.elim

def w_Jx4a65c_grow_92f84 (cy : Nat → ClassId) (tE : Nat) (mc ms : Nat) (S : KS) (p9 : Nat) (p0 : Int32) (post : Option Nat → KS → Prop) : Prop :=
  ∃ (i1 : Nat) (f2 : Int32) (f3 : Nat) (f4 : Int32), S.2.2.2[i1]? = some (p9, .inr (0, [.int f2, .ref f3, .int f4])) ∧ ((f3 = tE ∧ ∃ (i6 : Nat) (f7 : Int32) (f8 : Nat) (f9 : Int32), S.2.2.2[i6]? = some (p9, .inr (0, [.int f7, .ref f8, .int f9])) ∧ ((f8 = tE → (0 ≤ mc ∧ 0 ≤ ms) ∧ (0 ≤ (if (10 < p0 : Prop) then p0 else 10).toInt ∧ (if (10 < p0 : Prop) then p0 else 10).toInt ≤ 100000) ∧ (0 + 1 ≤ mc ∧ 0 + (if (10 < p0 : Prop) then p0 else 10).toNatClampNeg ≤ ms) ∧ ∀ q12 : Nat, ∃ (i15 : Nat) (f16 : Int32) (f17 : Nat) (f18 : Int32), (S.2.2.2 ++ [(q12, .inl (cy 5, (if (10 < p0 : Prop) then p0 else 10).toNatClampNeg, .inr (.inr (.inr (.inr (fun _ => none))))))])[i15]? = some (p9, .inr (0, [.int f16, .ref f17, .int f18])) ∧ ((0 + 1) ≤ mc ∧ (0 + (if (10 < p0 : Prop) then p0 else 10).toNatClampNeg) ≤ ms) ∧ post (some q12) (ksL (ksL S (S.2.2.2 ++ [(q12, .inl (cy 5, (if (10 < p0 : Prop) then p0 else 10).toNatClampNeg, .inr (.inr (.inr (.inr (fun _ => none))))))])) ((S.2.2.2 ++ [(q12, .inl (cy 5, (if (10 < p0 : Prop) then p0 else 10).toNatClampNeg, .inr (.inr (.inr (.inr (fun _ => none))))))]).set i15 (p9, .inr (0, [.int f16, .ref q12, .int f18]))))) ∧ (¬ f8 = tE → w_Jx4a65c_grow_92f84_B20 cy tE mc ms post S 0 0 p9 p0 0))) ∨ (∃ (i21 n22 : Nat) (f23 : Nat → Option Nat), S.2.2.2[i21]? = some (f3, .inl (cy 5, n22, .inr (.inr (.inr (.inr f23))))) ∧ ((0 < (Int32.ofNat n22).toInt → w_Jx4a65c_grow_92f84_B20 cy tE mc ms post S 0 0 p9 p0 (Int32.ofNat n22)) ∧ ((Int32.ofNat n22).toInt ≤ 0 → ∃ (i25 : Nat) (f26 : Int32) (f27 : Nat) (f28 : Int32), S.2.2.2[i25]? = some (p9, .inr (0, [.int f26, .ref f27, .int f28])) ∧ ((f27 = tE → (0 ≤ mc ∧ 0 ≤ ms) ∧ (0 ≤ (if (10 < p0 : Prop) then p0 else 10).toInt ∧ (if (10 < p0 : Prop) then p0 else 10).toInt ≤ 100000) ∧ (0 + 1 ≤ mc ∧ 0 + (if (10 < p0 : Prop) then p0 else 10).toNatClampNeg ≤ ms) ∧ ∀ q31 : Nat, ∃ (i34 : Nat) (f35 : Int32) (f36 : Nat) (f37 : Int32), (S.2.2.2 ++ [(q31, .inl (cy 5, (if (10 < p0 : Prop) then p0 else 10).toNatClampNeg, .inr (.inr (.inr (.inr (fun _ => none))))))])[i34]? = some (p9, .inr (0, [.int f35, .ref f36, .int f37])) ∧ ((0 + 1) ≤ mc ∧ (0 + (if (10 < p0 : Prop) then p0 else 10).toNatClampNeg) ≤ ms) ∧ post (some q31) (ksL (ksL S (S.2.2.2 ++ [(q31, .inl (cy 5, (if (10 < p0 : Prop) then p0 else 10).toNatClampNeg, .inr (.inr (.inr (.inr (fun _ => none))))))])) ((S.2.2.2 ++ [(q31, .inl (cy 5, (if (10 < p0 : Prop) then p0 else 10).toNatClampNeg, .inr (.inr (.inr (.inr (fun _ => none))))))]).set i34 (p9, .inr (0, [.int f35, .ref q31, .int f37]))))) ∧ (¬ f27 = tE → w_Jx4a65c_grow_92f84_B20 cy tE mc ms post S 0 0 p9 p0 (Int32.ofNat n22)))))))

set_option maxHeartbeats 4000000 in
set_option maxRecDepth 100000 in
theorem k_Jx4a65c_grow_92f84 {l : Launch} {D : va_G} {cy : Nat → ClassId} {T0 tB tE : Nat} {a : Nat → Nat} {rw : Nat → Option Nat} (hrw : ∀ i, i < 6 → rw i = some (a (12 + 2 * i))) {mc ms : Nat} (S : KS) (p9 : Nat) (p0 : Int32) (post : Option Nat → KS → Prop) (h : w_Jx4a65c_grow_92f84 cy tE mc ms S p9 p0 post) : Ct l D cy T0 tB tE yJx4a65c_grow_92f84 cJx4a65c_grow_92f84 4 (some (.array (.object "java/lang/Object"))) 1 40 mc ms (kw cy a rw S) [.ref p9, .int p0] (QQ D (U := KS) post (kw cy a rw)) := by
  refine Ct.ofZ RJx4a65c "grow" [(0, .ref p9), (1, .int p0)] rfl rfl rfl rfl (Nat.le_of_ble_eq_true rfl) ?_
  intro p e R s m args below meth c A b
  unfold w_Jx4a65c_grow_92f84 at h
  refine z_aload_n b dJx4a65c_grow_92f84_0 rfl rfl ?_
  obtain ⟨i1, f2, f3, f4, g5, h⟩ := h
  refine z_get (q0 := 47 + i1) (k9 := 1) (v := .ref f3) b (kw_dyn cy a rw S g5) rfl in_Jx4a65c (by decide) wf_Jx4a65c_9 rfl dJx4a65c_grow_92f84_1 ?_
  rcases h with ⟨e1, h⟩ | h
  · refine z_elen (t := f3) b e1 dJx4a65c_grow_92f84_4 ?_
    refine z_istore_n (lv' := [(2, .int 0), (0, .ref p9), (1, .int p0)]) b dJx4a65c_grow_92f84_5 rfl (by decide) rfl ?_
    refine z_iload_n b dJx4a65c_grow_92f84_6 rfl rfl ?_
    refine z_if_gt_f (tgt := 20) b dJx4a65c_grow_92f84_7 (by decide) (by decide) ?_
    refine z_aload_n b dJx4a65c_grow_92f84_10 rfl rfl ?_
    obtain ⟨i6, f7, f8, f9, g10, h⟩ := h
    refine z_get (q0 := 47 + i6) (k9 := 1) (v := .ref f8) b (kw_dyn cy a rw S g10) rfl in_Jx4a65c (by decide) wf_Jx4a65c_9 rfl dJx4a65c_grow_92f84_11 ?_
    refine z_getE b wf_Jx4a65c_39 dJx4a65c_grow_92f84_14 ?_
    refine z_acmp_eq (tgt := 45) b dJx4a65c_grow_92f84_17 (by decide) (fun c1 => ?_) (fun c1 => ?_)
    · replace h := h.1 c1
      refine z_aload_n b dJx4a65c_grow_92f84_45 rfl rfl ?_
      refine z_bipush (v := 10) b dJx4a65c_grow_92f84_46 (by decide) ?_
      refine z_iload_n b dJx4a65c_grow_92f84_48 rfl rfl ?_
      obtain ⟨g11, h⟩ := h
      refine z_mmax (v := (if (10 < p0 : Prop) then p0 else 10)) b wL_Jx4a65c_79 wLs_mmax wi_Math wLc_mmax dJx4a65c_grow_92f84_49 (by decide) (Nat.le_of_ble_eq_true rfl) ⟨g11.1, g11.2⟩ rfl ?_
      obtain ⟨g13, h⟩ := h
      obtain ⟨g14, h⟩ := h
      refine z_newq (N' := (if (10 < p0 : Prop) then p0 else 10).toNatClampNeg) (t0 := 5) b wk_Jx4a65c_7 b.E1.2.2.2.2.2.2.2.1 rfl (i_nneg g13.1) rfl (i_byt g13.1 g13.2) g14 dJx4a65c_grow_92f84_52 (fun q12 => ?_)
      replace h := h q12
      refine z_wseq (kw_new cy a rw S (q12, .inl (cy 5, (if (10 < p0 : Prop) then p0 else 10).toNatClampNeg, .inr (.inr (.inr (.inr (fun _ => none))))))) ?_
      refine z_dup_x1 b dJx4a65c_grow_92f84_55 rfl rfl ?_
      obtain ⟨i15, f16, f17, f18, g19, h⟩ := h
      refine z_put (q0 := 47 + i15) (k9 := 1) tyJx4a65c b (kw_dyn cy a rw (ksL S (S.2.2.2 ++ [(q12, .inl (cy 5, (if (10 < p0 : Prop) then p0 else 10).toNatClampNeg, .inr (.inr (.inr (.inr (fun _ => none))))))])) g19) rfl in_Jx4a65c tyJx4a65c_ok nmJx4a65c (by decide) wf_Jx4a65c_9 rfl rfl rfl rfl (Nat.le_of_ble_eq_true rfl) dJx4a65c_grow_92f84_56 (kw_dset cy a rw (ksL S (S.2.2.2 ++ [(q12, .inl (cy 5, (if (10 < p0 : Prop) then p0 else 10).toNatClampNeg, .inr (.inr (.inr (.inr (fun _ => none))))))])) i15 (p9, .inr (0, [.int f16, .ref q12, .int f18]))) ?_
      obtain ⟨g20, h⟩ := h
      exact z_aret (v := (some q12)) (u := (ksL (ksL S (S.2.2.2 ++ [(q12, .inl (cy 5, (if (10 < p0 : Prop) then p0 else 10).toNatClampNeg, .inr (.inr (.inr (.inr (fun _ => none))))))])) ((S.2.2.2 ++ [(q12, .inl (cy 5, (if (10 < p0 : Prop) then p0 else 10).toNatClampNeg, .inr (.inr (.inr (.inr (fun _ => none))))))]).set i15 (p9, .inr (0, [.int f16, .ref q12, .int f18]))))) b rfl (Or.inr ⟨_, rfl⟩) dJx4a65c_grow_92f84_59 h rfl g20.1 g20.2
    · replace h := h.2 c1
      refine z_lv0 (lv' := [(0, .ref p9), (1, .int p0), (2, .int 0)]) [1, 2, 0] rfl ?_
      exact z_Jx4a65c_grow_92f84_B20 hrw b _ _ _ _ _ _ h
  · obtain ⟨i21, n22, f23, g24, h⟩ := h
    refine z_alen (q0 := 47 + i21) (t0 := 5) (v := Int32.ofNat n22) b (kw_dyn cy a rw S g24) rfl rfl dJx4a65c_grow_92f84_4 ?_
    refine z_istore_n (lv' := [(2, .int (Int32.ofNat n22)), (0, .ref p9), (1, .int p0)]) b dJx4a65c_grow_92f84_5 rfl (by decide) rfl ?_
    refine z_iload_n b dJx4a65c_grow_92f84_6 rfl rfl ?_
    refine y_if_gt (tgt := 20) (xl := (Int32.ofNat n22).toInt) b rfl dJx4a65c_grow_92f84_7 (by decide) (fun c1 => ?_) (fun c1 => ?_)
    · replace h := h.1 c1
      refine z_lv0 (lv' := [(0, .ref p9), (1, .int p0), (2, .int (Int32.ofNat n22))]) [1, 2, 0] rfl ?_
      exact z_Jx4a65c_grow_92f84_B20 hrw b _ _ _ _ _ _ h
    · replace h := h.2 c1
      refine z_aload_n b dJx4a65c_grow_92f84_10 rfl rfl ?_
      obtain ⟨i25, f26, f27, f28, g29, h⟩ := h
      refine z_get (q0 := 47 + i25) (k9 := 1) (v := .ref f27) b (kw_dyn cy a rw S g29) rfl in_Jx4a65c (by decide) wf_Jx4a65c_9 rfl dJx4a65c_grow_92f84_11 ?_
      refine z_getE b wf_Jx4a65c_39 dJx4a65c_grow_92f84_14 ?_
      refine z_acmp_eq (tgt := 45) b dJx4a65c_grow_92f84_17 (by decide) (fun c1 => ?_) (fun c1 => ?_)
      · replace h := h.1 c1
        refine z_aload_n b dJx4a65c_grow_92f84_45 rfl rfl ?_
        refine z_bipush (v := 10) b dJx4a65c_grow_92f84_46 (by decide) ?_
        refine z_iload_n b dJx4a65c_grow_92f84_48 rfl rfl ?_
        obtain ⟨g30, h⟩ := h
        refine z_mmax (v := (if (10 < p0 : Prop) then p0 else 10)) b wL_Jx4a65c_79 wLs_mmax wi_Math wLc_mmax dJx4a65c_grow_92f84_49 (by decide) (Nat.le_of_ble_eq_true rfl) ⟨g30.1, g30.2⟩ rfl ?_
        obtain ⟨g32, h⟩ := h
        obtain ⟨g33, h⟩ := h
        refine z_newq (N' := (if (10 < p0 : Prop) then p0 else 10).toNatClampNeg) (t0 := 5) b wk_Jx4a65c_7 b.E1.2.2.2.2.2.2.2.1 rfl (i_nneg g32.1) rfl (i_byt g32.1 g32.2) g33 dJx4a65c_grow_92f84_52 (fun q31 => ?_)
        replace h := h q31
        refine z_wseq (kw_new cy a rw S (q31, .inl (cy 5, (if (10 < p0 : Prop) then p0 else 10).toNatClampNeg, .inr (.inr (.inr (.inr (fun _ => none))))))) ?_
        refine z_dup_x1 b dJx4a65c_grow_92f84_55 rfl rfl ?_
        obtain ⟨i34, f35, f36, f37, g38, h⟩ := h
        refine z_put (q0 := 47 + i34) (k9 := 1) tyJx4a65c b (kw_dyn cy a rw (ksL S (S.2.2.2 ++ [(q31, .inl (cy 5, (if (10 < p0 : Prop) then p0 else 10).toNatClampNeg, .inr (.inr (.inr (.inr (fun _ => none))))))])) g38) rfl in_Jx4a65c tyJx4a65c_ok nmJx4a65c (by decide) wf_Jx4a65c_9 rfl rfl rfl rfl (Nat.le_of_ble_eq_true rfl) dJx4a65c_grow_92f84_56 (kw_dset cy a rw (ksL S (S.2.2.2 ++ [(q31, .inl (cy 5, (if (10 < p0 : Prop) then p0 else 10).toNatClampNeg, .inr (.inr (.inr (.inr (fun _ => none))))))])) i34 (p9, .inr (0, [.int f35, .ref q31, .int f37]))) ?_
        obtain ⟨g39, h⟩ := h
        exact z_aret (v := (some q31)) (u := (ksL (ksL S (S.2.2.2 ++ [(q31, .inl (cy 5, (if (10 < p0 : Prop) then p0 else 10).toNatClampNeg, .inr (.inr (.inr (.inr (fun _ => none))))))])) ((S.2.2.2 ++ [(q31, .inl (cy 5, (if (10 < p0 : Prop) then p0 else 10).toNatClampNeg, .inr (.inr (.inr (.inr (fun _ => none))))))]).set i34 (p9, .inr (0, [.int f35, .ref q31, .int f37]))))) b rfl (Or.inr ⟨_, rfl⟩) dJx4a65c_grow_92f84_59 h rfl g39.1 g39.2
      · replace h := h.2 c1
        refine z_lv0 (lv' := [(0, .ref p9), (1, .int p0), (2, .int (Int32.ofNat n22))]) [1, 2, 0] rfl ?_
        exact z_Jx4a65c_grow_92f84_B20 hrw b _ _ _ _ _ _ h

def w_Jx4a65c_grow_d5877 (cy : Nat → ClassId) (tE : Nat) (mc ms : Nat) (S : KS) (p9 : Nat) (post : Option Nat → KS → Prop) : Prop :=
  ∃ (i1 : Nat) (f2 : Int32) (f3 : Nat) (f4 : Int32), S.2.2.2[i1]? = some (p9, .inr (0, [.int f2, .ref f3, .int f4])) ∧ ∃ m6 m7 : Nat, (0 + m6 ≤ mc ∧ 0 + m7 ≤ ms) ∧ ∃ (i9 : Nat) (f10 : List Value), S.2.2.2[i9]? = some (p9, .inr (0, f10)) ∧ w_Jx4a65c_grow_92f84 cy tE m6 m7 S p9 (f4 + 1) (fun r12 S13 => ((0 + m6) ≤ mc ∧ (0 + m7) ≤ ms) ∧ post r12 S13)

set_option maxHeartbeats 4000000 in
set_option maxRecDepth 100000 in
theorem k_Jx4a65c_grow_d5877 {l : Launch} {D : va_G} {cy : Nat → ClassId} {T0 tB tE : Nat} {a : Nat → Nat} {rw : Nat → Option Nat} (hrw : ∀ i, i < 6 → rw i = some (a (12 + 2 * i))) {mc ms : Nat} (S : KS) (p9 : Nat) (post : Option Nat → KS → Prop) (h : w_Jx4a65c_grow_d5877 cy tE mc ms S p9 post) : Ct l D cy T0 tB tE yJx4a65c_grow_d5877 cJx4a65c_grow_d5877 1 (some (.array (.object "java/lang/Object"))) 2 63 mc ms (kw cy a rw S) [.ref p9] (QQ D (U := KS) post (kw cy a rw)) := by
  refine Ct.ofZ RJx4a65c "grow" [(0, .ref p9)] rfl rfl rfl rfl (Nat.le_of_ble_eq_true rfl) ?_
  intro p e R s m args below meth c A b
  unfold w_Jx4a65c_grow_d5877 at h
  refine z_aload_n b dJx4a65c_grow_d5877_0 rfl rfl ?_
  refine z_aload_n b dJx4a65c_grow_d5877_1 rfl rfl ?_
  obtain ⟨i1, f2, f3, f4, g5, h⟩ := h
  refine z_get (q0 := 47 + i1) (k9 := 2) (v := .int f4) b (kw_dyn cy a rw S g5) rfl in_Jx4a65c (by decide) wf_Jx4a65c_48 rfl dJx4a65c_grow_d5877_2 ?_
  refine z_iconst (v := 1) b dJx4a65c_grow_d5877_5 (by decide) ?_
  refine z_iadd b dJx4a65c_grow_d5877_6 rfl ?_
  obtain ⟨m6, m7, g8, h⟩ := h
  obtain ⟨i9, f10, g11, h⟩ := h
  refine z_callq b (z_runV (q0 := 47 + i9) (As := [.int (f4 + 1)]) (st := []) b (k_Jx4a65c_grow_92f84 hrw S p9 (f4 + 1) _ h) cf_Jx4a65c_grow_92f84 (kw_dyn cy a rw S g11) rfl wm_Jx4a65c_69 wi_Jx4a65c_grow_92f84 ws_Jx4a65c_grow_92f84 dJx4a65c_grow_d5877_7 rfl (Nat.le_of_ble_eq_true rfl) ⟨by decide, by decide, g8.1, g8.2⟩) (fun r12 S13 h => ?_)
  obtain ⟨g14, h⟩ := h
  exact z_aret (v := r12) (u := S13) b rfl (Or.inr ⟨_, rfl⟩) dJx4a65c_grow_d5877_10 h rfl g14.1 g14.2

def w_Jx4a65c_add_72be8_X1_B11 (cy : Nat → ClassId) (tE : Nat) (mc ms : Nat) (post : KS → Prop) (S : KS) (nc : Nat) (ns : Nat) (x0 : Nat) (x1 : Nat) (x2 : Option Nat) (x3 : Int32) : Prop :=
  ∃ q1 : Nat, x2 = some q1 ∧ ∃ (i3 n4 : Nat) (f5 : Nat → Option Nat), S.2.2.2[i3]? = some (q1, .inl (cy 5, n4, .inr (.inr (.inr (.inr f5))))) ∧ (0 ≤ x3.toInt ∧ x3.toInt < (n4 : Int)) ∧ ∃ (i8 : Nat) (f9 : List Value), S.2.2.2[i8]? = some (x1, .inr (2, f9)) ∧ ∃ (i11 : Nat) (f12 : Int32) (f13 : Nat) (f14 : Int32), (S.2.2.2.set i3 (q1, .inl (cy 5, n4, .inr (.inr (.inr (.inr (va_up f5 x3.toNatClampNeg (some x1))))))))[i11]? = some (x0, .inr (0, [.int f12, .ref f13, .int f14])) ∧ (nc ≤ mc ∧ ns ≤ ms) ∧ post (ksL (ksL S (S.2.2.2.set i3 (q1, .inl (cy 5, n4, .inr (.inr (.inr (.inr (va_up f5 x3.toNatClampNeg (some x1))))))))) ((S.2.2.2.set i3 (q1, .inl (cy 5, n4, .inr (.inr (.inr (.inr (va_up f5 x3.toNatClampNeg (some x1)))))))).set i11 (x0, .inr (0, [.int f12, .ref f13, .int (x3 + 1)]))))

set_option maxHeartbeats 4000000 in
set_option maxRecDepth 100000 in
theorem z_Jx4a65c_add_72be8_X1_B11 {p : Program} {l : Launch} {e : Env} {R : Room} {s : State} {m : MethodId} {args : Array Value} {below : List Frame} {meth : Method} {c : Code} {D : va_G} {cy : Nat → ClassId} {T0 tB tE : Nat} {A : Nat → Prop} {a : Nat → Nat} {rw : Nat → Option Nat} (hrw : ∀ i, i < 6 → rw i = some (a (12 + 2 * i))) {mc ms : Nat} {post : KS → Prop} (b : Bz p R s m args meth c D cy T0 tB tE A 4 cJx4a65c_add_72be8 RJx4a65c none "add" 3 83 mc ms) (S : KS) (nc : Nat) (ns : Nat) (x0 : Nat) (x1 : Nat) (x2 : Option Nat) (x3 : Int32) (h : w_Jx4a65c_add_72be8_X1_B11 cy tE mc ms post S nc ns x0 x1 x2 x3) : Z p l e R s m args below meth c D A 4 (MQ below (QV D (U := KS) post (kw cy a rw) A) args s mc ms A) nc ns (kw cy a rw S) [(0, .ref x0), (1, .ref x1), (2, va_rf x2), (3, .int x3)] 11 [] := by
  unfold w_Jx4a65c_add_72be8_X1_B11 at h
  refine z_aload_n b dJx4a65c_add_72be8_11 rfl rfl ?_
  refine z_iload_n b dJx4a65c_add_72be8_12 rfl rfl ?_
  refine z_aload_n b dJx4a65c_add_72be8_13 rfl rfl ?_
  obtain ⟨q1, g2, h⟩ := h
  subst g2
  obtain ⟨i3, n4, f5, g6, h⟩ := h
  obtain ⟨g7, h⟩ := h
  obtain ⟨i8, f9, g10, h⟩ := h
  refine y_aastO (q0 := 47 + i3) (t0 := 5) (qk := 47 + i8) (ci := 2) (j := x3.toNatClampNeg) b (kw_dyn cy a rw S g6) rfl (kw_dyn cy a rw S g10) rfl wca_X1 (zx_r g7.1 g7.2) dJx4a65c_add_72be8_14 (kw_dset cy a rw S i3 (q1, .inl (cy 5, n4, .inr (.inr (.inr (.inr (va_up f5 x3.toNatClampNeg (some x1)))))))) ?_
  refine z_aload_n b dJx4a65c_add_72be8_15 rfl rfl ?_
  refine z_iload_n b dJx4a65c_add_72be8_16 rfl rfl ?_
  refine z_iconst (v := 1) b dJx4a65c_add_72be8_17 (by decide) ?_
  refine z_iadd b dJx4a65c_add_72be8_18 rfl ?_
  obtain ⟨i11, f12, f13, f14, g15, h⟩ := h
  refine z_put (q0 := 47 + i11) (k9 := 2) tyJx4a65c b (kw_dyn cy a rw (ksL S (S.2.2.2.set i3 (q1, .inl (cy 5, n4, .inr (.inr (.inr (.inr (va_up f5 x3.toNatClampNeg (some x1))))))))) g15) rfl in_Jx4a65c tyJx4a65c_ok nmJx4a65c (by decide) wf_Jx4a65c_48 rfl rfl rfl rfl (Nat.le_of_ble_eq_true rfl) dJx4a65c_add_72be8_19 (kw_dset cy a rw (ksL S (S.2.2.2.set i3 (q1, .inl (cy 5, n4, .inr (.inr (.inr (.inr (va_up f5 x3.toNatClampNeg (some x1))))))))) i11 (x0, .inr (0, [.int f12, .ref f13, .int (x3 + 1)]))) ?_
  obtain ⟨g16, h⟩ := h
  exact z_vret (u := (ksL (ksL S (S.2.2.2.set i3 (q1, .inl (cy 5, n4, .inr (.inr (.inr (.inr (va_up f5 x3.toNatClampNeg (some x1))))))))) ((S.2.2.2.set i3 (q1, .inl (cy 5, n4, .inr (.inr (.inr (.inr (va_up f5 x3.toNatClampNeg (some x1)))))))).set i11 (x0, .inr (0, [.int f12, .ref f13, .int (x3 + 1)]))))) b rfl dJx4a65c_add_72be8_22 h rfl g16.1 g16.2

def w_Jx4a65c_add_72be8_X1 (cy : Nat → ClassId) (tE : Nat) (mc ms : Nat) (S : KS) (p9 : Nat) (p0 : Nat) (p1 : Nat) (p2 : Int32) (post : KS → Prop) : Prop :=
  ((p1 = tE ∧ ((p2.toInt ≠ 0 → w_Jx4a65c_add_72be8_X1_B11 cy tE mc ms post S 0 0 p9 p0 (some p1) p2) ∧ (p2.toInt = 0 → ∃ m17 m18 : Nat, (0 + m17 ≤ mc ∧ 0 + m18 ≤ ms) ∧ ∃ (i20 : Nat) (f21 : List Value), S.2.2.2[i20]? = some (p9, .inr (0, f21)) ∧ w_Jx4a65c_grow_d5877 cy tE m17 m18 S p9 (fun r23 S24 => w_Jx4a65c_add_72be8_X1_B11 cy tE mc ms post S24 (0 + m17) (0 + m18) p9 p0 r23 p2)))) ∨ (∃ (i25 n26 : Nat) (f27 : Nat → Option Nat), S.2.2.2[i25]? = some (p1, .inl (cy 5, n26, .inr (.inr (.inr (.inr f27))))) ∧ ((p2.toInt ≠ (Int32.ofNat n26).toInt → w_Jx4a65c_add_72be8_X1_B11 cy tE mc ms post S 0 0 p9 p0 (some p1) p2) ∧ (p2.toInt = (Int32.ofNat n26).toInt → ∃ m29 m30 : Nat, (0 + m29 ≤ mc ∧ 0 + m30 ≤ ms) ∧ ∃ (i32 : Nat) (f33 : List Value), S.2.2.2[i32]? = some (p9, .inr (0, f33)) ∧ w_Jx4a65c_grow_d5877 cy tE m29 m30 S p9 (fun r35 S36 => w_Jx4a65c_add_72be8_X1_B11 cy tE mc ms post S36 (0 + m29) (0 + m30) p9 p0 r35 p2)))))

set_option maxHeartbeats 4000000 in
set_option maxRecDepth 100000 in
theorem k_Jx4a65c_add_72be8_X1 {l : Launch} {D : va_G} {cy : Nat → ClassId} {T0 tB tE : Nat} {a : Nat → Nat} {rw : Nat → Option Nat} (hrw : ∀ i, i < 6 → rw i = some (a (12 + 2 * i))) {mc ms : Nat} (S : KS) (p9 : Nat) (p0 : Nat) (p1 : Nat) (p2 : Int32) (post : KS → Prop) (h : w_Jx4a65c_add_72be8_X1 cy tE mc ms S p9 p0 p1 p2 post) : Ct l D cy T0 tB tE yJx4a65c_add_72be8 cJx4a65c_add_72be8 4 none 3 83 mc ms (kw cy a rw S) [.ref p9, .ref p0, .ref p1, .int p2] (QV D (U := KS) post (kw cy a rw)) := by
  refine Ct.ofZ RJx4a65c "add" [(0, .ref p9), (1, .ref p0), (2, .ref p1), (3, .int p2)] rfl rfl rfl rfl (Nat.le_of_ble_eq_true rfl) ?_
  intro p e R s m args below meth c A b
  unfold w_Jx4a65c_add_72be8_X1 at h
  refine z_iload_n b dJx4a65c_add_72be8_0 rfl rfl ?_
  refine z_aload_n b dJx4a65c_add_72be8_1 rfl rfl ?_
  rcases h with ⟨e1, h⟩ | h
  · refine z_elen (t := p1) b e1 dJx4a65c_add_72be8_2 ?_
    refine y_icmp_ne (tgt := 11) (xl := p2.toInt) (yl := 0) b rfl (by decide) dJx4a65c_add_72be8_3 (by decide) (fun c1 => ?_) (fun c1 => ?_)
    · replace h := h.1 c1
      exact z_Jx4a65c_add_72be8_X1_B11 hrw b _ _ _ _ _ _ _ h
    · replace h := h.2 c1
      refine z_aload_n b dJx4a65c_add_72be8_6 rfl rfl ?_
      obtain ⟨m17, m18, g19, h⟩ := h
      obtain ⟨i20, f21, g22, h⟩ := h
      refine z_callq b (z_runV (q0 := 47 + i20) (As := []) (st := []) b (k_Jx4a65c_grow_d5877 hrw S p9 _ h) cf_Jx4a65c_grow_d5877 (kw_dyn cy a rw S g22) rfl wm_Jx4a65c_129 wi_Jx4a65c_grow_d5877 ws_Jx4a65c_grow_d5877 dJx4a65c_add_72be8_7 rfl (Nat.le_of_ble_eq_true rfl) ⟨by decide, by decide, g19.1, g19.2⟩) (fun r23 S24 h => ?_)
      refine z_astore_n (lv' := [(2, va_rf r23), (0, .ref p9), (1, .ref p0), (3, .int p2)]) b dJx4a65c_add_72be8_10 rfl (by decide) rfl ?_
      refine z_lv0 (lv' := [(0, .ref p9), (1, .ref p0), (2, va_rf r23), (3, .int p2)]) [1, 2, 0, 3] rfl ?_
      exact z_Jx4a65c_add_72be8_X1_B11 hrw b _ _ _ _ _ _ _ h
  · obtain ⟨i25, n26, f27, g28, h⟩ := h
    refine z_alen (q0 := 47 + i25) (t0 := 5) (v := Int32.ofNat n26) b (kw_dyn cy a rw S g28) rfl rfl dJx4a65c_add_72be8_2 ?_
    refine y_icmp_ne (tgt := 11) (xl := p2.toInt) (yl := (Int32.ofNat n26).toInt) b rfl rfl dJx4a65c_add_72be8_3 (by decide) (fun c1 => ?_) (fun c1 => ?_)
    · replace h := h.1 c1
      exact z_Jx4a65c_add_72be8_X1_B11 hrw b _ _ _ _ _ _ _ h
    · replace h := h.2 c1
      refine z_aload_n b dJx4a65c_add_72be8_6 rfl rfl ?_
      obtain ⟨m29, m30, g31, h⟩ := h
      obtain ⟨i32, f33, g34, h⟩ := h
      refine z_callq b (z_runV (q0 := 47 + i32) (As := []) (st := []) b (k_Jx4a65c_grow_d5877 hrw S p9 _ h) cf_Jx4a65c_grow_d5877 (kw_dyn cy a rw S g34) rfl wm_Jx4a65c_129 wi_Jx4a65c_grow_d5877 ws_Jx4a65c_grow_d5877 dJx4a65c_add_72be8_7 rfl (Nat.le_of_ble_eq_true rfl) ⟨by decide, by decide, g31.1, g31.2⟩) (fun r35 S36 h => ?_)
      refine z_astore_n (lv' := [(2, va_rf r35), (0, .ref p9), (1, .ref p0), (3, .int p2)]) b dJx4a65c_add_72be8_10 rfl (by decide) rfl ?_
      refine z_lv0 (lv' := [(0, .ref p9), (1, .ref p0), (2, va_rf r35), (3, .int p2)]) [1, 2, 0, 3] rfl ?_
      exact z_Jx4a65c_add_72be8_X1_B11 hrw b _ _ _ _ _ _ _ h

def w_Jx4a65c_add_9ea2d_X1 (cy : Nat → ClassId) (tE : Nat) (mc ms : Nat) (S : KS) (p9 : Nat) (p0 : Nat) (post : Int32 → KS → Prop) : Prop :=
  ∃ (i1 : Nat) (f2 : Int32) (f3 : Nat) (f4 : Int32), S.2.2.2[i1]? = some (p9, .inr (0, [.int f2, .ref f3, .int f4])) ∧ ∃ (i6 : Nat) (f7 : Int32) (f8 : Nat) (f9 : Int32), S.2.2.2[i6]? = some (p9, .inr (0, [.int f7, .ref f8, .int f9])) ∧ ∃ (i11 : Nat) (f12 : Int32) (f13 : Nat) (f14 : Int32), (S.2.2.2.set i6 (p9, .inr (0, [.int (f2 + 1), .ref f8, .int f9])))[i11]? = some (p9, .inr (0, [.int f12, .ref f13, .int f14])) ∧ ∃ (i16 : Nat) (f17 : Int32) (f18 : Nat) (f19 : Int32), (S.2.2.2.set i6 (p9, .inr (0, [.int (f2 + 1), .ref f8, .int f9])))[i16]? = some (p9, .inr (0, [.int f17, .ref f18, .int f19])) ∧ ∃ m21 m22 : Nat, (0 + m21 ≤ mc ∧ 0 + m22 ≤ ms) ∧ ∃ (i24 : Nat) (f25 : List Value), (S.2.2.2.set i6 (p9, .inr (0, [.int (f2 + 1), .ref f8, .int f9])))[i24]? = some (p9, .inr (0, f25)) ∧ w_Jx4a65c_add_72be8_X1 cy tE m21 m22 (ksL S (S.2.2.2.set i6 (p9, .inr (0, [.int (f2 + 1), .ref f8, .int f9])))) p9 p0 f13 f19 (fun S28 => ((0 + m21) ≤ mc ∧ (0 + m22) ≤ ms) ∧ post 1 S28)

set_option maxHeartbeats 4000000 in
set_option maxRecDepth 100000 in
theorem k_Jx4a65c_add_9ea2d_X1 {l : Launch} {D : va_G} {cy : Nat → ClassId} {T0 tB tE : Nat} {a : Nat → Nat} {rw : Nat → Option Nat} (hrw : ∀ i, i < 6 → rw i = some (a (12 + 2 * i))) {mc ms : Nat} (S : KS) (p9 : Nat) (p0 : Nat) (post : Int32 → KS → Prop) (h : w_Jx4a65c_add_9ea2d_X1 cy tE mc ms S p9 p0 post) : Ct l D cy T0 tB tE yJx4a65c_add_9ea2d cJx4a65c_add_9ea2d 2 (some .boolean) 4 106 mc ms (kw cy a rw S) [.ref p9, .ref p0] (QI D (U := KS) post (kw cy a rw)) := by
  refine Ct.ofZ RJx4a65c "add" [(0, .ref p9), (1, .ref p0)] rfl rfl rfl rfl (Nat.le_of_ble_eq_true rfl) ?_
  intro p e R s m args below meth c A b
  unfold w_Jx4a65c_add_9ea2d_X1 at h
  refine z_aload_n b dJx4a65c_add_9ea2d_0 rfl rfl ?_
  refine z_dup b dJx4a65c_add_9ea2d_1 rfl ?_
  obtain ⟨i1, f2, f3, f4, g5, h⟩ := h
  refine z_getS (q0 := 47 + i1) (k9 := 0) (v := .int f2) b (kw_dyn cy a rw S g5) rfl in_Jx4a65c (by decide) wf_Jx4a65c_63 wsf_mod rfl dJx4a65c_add_9ea2d_2 ?_
  refine z_iconst (v := 1) b dJx4a65c_add_9ea2d_5 (by decide) ?_
  refine z_iadd b dJx4a65c_add_9ea2d_6 rfl ?_
  obtain ⟨i6, f7, f8, f9, g10, h⟩ := h
  refine z_putS (q0 := 47 + i6) (k9 := 0) tyJx4a65c b (kw_dyn cy a rw S g10) rfl in_Jx4a65c tyJx4a65c_ok nmJx4a65c (by decide) wf_Jx4a65c_63 wsf_mod rfl rfl rfl rfl (Nat.le_of_ble_eq_true rfl) dJx4a65c_add_9ea2d_7 (kw_dset cy a rw S i6 (p9, .inr (0, [.int (f2 + 1), .ref f8, .int f9]))) ?_
  refine z_aload_n b dJx4a65c_add_9ea2d_10 rfl rfl ?_
  refine z_aload_n b dJx4a65c_add_9ea2d_11 rfl rfl ?_
  refine z_aload_n b dJx4a65c_add_9ea2d_12 rfl rfl ?_
  obtain ⟨i11, f12, f13, f14, g15, h⟩ := h
  refine z_get (q0 := 47 + i11) (k9 := 1) (v := .ref f13) b (kw_dyn cy a rw (ksL S (S.2.2.2.set i6 (p9, .inr (0, [.int (f2 + 1), .ref f8, .int f9])))) g15) rfl in_Jx4a65c (by decide) wf_Jx4a65c_9 rfl dJx4a65c_add_9ea2d_13 ?_
  refine z_aload_n b dJx4a65c_add_9ea2d_16 rfl rfl ?_
  obtain ⟨i16, f17, f18, f19, g20, h⟩ := h
  refine z_get (q0 := 47 + i16) (k9 := 2) (v := .int f19) b (kw_dyn cy a rw (ksL S (S.2.2.2.set i6 (p9, .inr (0, [.int (f2 + 1), .ref f8, .int f9])))) g20) rfl in_Jx4a65c (by decide) wf_Jx4a65c_48 rfl dJx4a65c_add_9ea2d_17 ?_
  obtain ⟨m21, m22, g23, h⟩ := h
  obtain ⟨i24, f25, g26, h⟩ := h
  refine z_callv b (z_runV (q0 := 47 + i24) (As := [.ref p0, .ref f13, .int f19]) (st := []) b (k_Jx4a65c_add_72be8_X1 hrw (ksL S (S.2.2.2.set i6 (p9, .inr (0, [.int (f2 + 1), .ref f8, .int f9])))) p9 p0 f13 f19 _ h) cf_Jx4a65c_add_72be8 (kw_dyn cy a rw (ksL S (S.2.2.2.set i6 (p9, .inr (0, [.int (f2 + 1), .ref f8, .int f9])))) g26) rfl wm_Jx4a65c_131 wi_Jx4a65c_add_72be8 ws_Jx4a65c_add_72be8 dJx4a65c_add_9ea2d_20 rfl (Nat.le_of_ble_eq_true rfl) ⟨by decide, by decide, g23.1, g23.2⟩) (fun S28 h => ?_)
  refine z_iconst (v := 1) b dJx4a65c_add_9ea2d_23 (by decide) ?_
  obtain ⟨g29, h⟩ := h
  exact z_zret (u := S28) b rfl (by decide) dJx4a65c_add_9ea2d_24 h rfl g29.1 g29.2

def w_X5_readMake_B116 (cy : Nat → ClassId) (tE : Nat) (mc ms : Nat) (post : Int32 → KS → Prop) (S : KS) (nc : Nat) (ns : Nat) (x1 : Nat) (x2 : Int32) (x3 : Int32) : Prop :=
  ∃ (i23 : Nat) (f24 : Int64) (f25 : Nat) (f26 : Nat) (f27 : Int32) (f28 : Int32), S.2.2.2[i23]? = some (x1, .inr (1, [.long f24, .ref f25, .ref f26, .int f27, .int f28])) ∧ ∃ m30 m31 : Nat, (nc + m30 ≤ mc ∧ ns + m31 ≤ ms) ∧ w_X5_clause cy tE m30 m31 S x2 x3 (fun r33 S34 => ∃ q35 : Nat, r33 = some q35 ∧ ∃ m37 m38 : Nat, ((nc + m30) + m37 ≤ mc ∧ (ns + m31) + m38 ≤ ms) ∧ ∃ (i40 : Nat) (f41 : List Value), S34.2.2.2[i40]? = some (f26, .inr (0, f41)) ∧ w_Jx4a65c_add_9ea2d_X1 cy tE m37 m38 S34 f26 q35 (fun r43 S44 => (((nc + m30) + m37) ≤ mc ∧ ((ns + m31) + m38) ≤ ms) ∧ post 1 S44))

set_option maxHeartbeats 4000000 in
set_option maxRecDepth 100000 in
theorem z_X5_readMake_B116 {p : Program} {l : Launch} {e : Env} {R : Room} {s : State} {m : MethodId} {args : Array Value} {below : List Frame} {meth : Method} {c : Code} {D : va_G} {cy : Nat → ClassId} {T0 tB tE : Nat} {A : Nat → Prop} {a : Nat → Nat} {rw : Nat → Option Nat} (hrw : ∀ i, i < 6 → rw i = some (a (12 + 2 * i))) {mc ms : Nat} {post : Int32 → KS → Prop} (b : Bz p R s m args meth c D cy T0 tB tE A 5 cX5_readMake RX5 (some .boolean) "readMake" 5 127 mc ms) (S : KS) (nc : Nat) (ns : Nat) (x1 : Nat) (x2 : Int32) (x3 : Int32) (h : w_X5_readMake_B116 cy tE mc ms post S nc ns x1 x2 x3) : Z p l e R s m args below meth c D A 5 (MQ below (QI D (U := KS) post (kw cy a rw) A) args s mc ms A) nc ns (kw cy a rw S) [(0, .ref (a 26)), (1, .ref x1), (2, .int x2), (3, .int x3)] 116 [] := by
  unfold w_X5_readMake_B116 at h
  refine z_aload_n b dX5_readMake_116 rfl rfl ?_
  obtain ⟨i23, f24, f25, f26, f27, f28, g29, h⟩ := h
  refine z_get (q0 := 47 + i23) (k9 := 2) (v := .ref f26) b (kw_dyn cy a rw S g29) rfl in_X0 (by decide) wf_X5_133 rfl dX5_readMake_117 ?_
  refine z_aload_n b dX5_readMake_120 rfl rfl ?_
  refine z_iload_n b dX5_readMake_121 rfl rfl ?_
  refine z_iload_n b dX5_readMake_122 rfl rfl ?_
  obtain ⟨m30, m31, g32, h⟩ := h
  refine z_callq b (z_runV (q0 := 26) (As := [.int x2, .int x3]) (st := [.ref f26]) b (k_X5_clause hrw S x2 x3 _ h) cf_X5_clause (kw_26 cy a rw S) rfl wm_X5_115 wi_X5_clause ws_X5_clause dX5_readMake_123 rfl (Nat.le_of_ble_eq_true rfl) ⟨by decide, by decide, g32.1, g32.2⟩) (fun r33 S34 h => ?_)
  obtain ⟨q35, g36, h⟩ := h
  subst g36
  obtain ⟨m37, m38, g39, h⟩ := h
  obtain ⟨i40, f41, g42, h⟩ := h
  refine z_calli b (z_runV (q0 := 47 + i40) (As := [.ref q35]) (st := []) b (k_Jx4a65c_add_9ea2d_X1 hrw S34 f26 q35 _ h) cf_Jx4a65c_add_9ea2d (kw_dyn cy a rw S34 g42) rfl wm_X5_119 wi_Jx4a65c_add_9ea2d ws_Jx4a65c_add_9ea2d dX5_readMake_126 rfl (Nat.le_of_ble_eq_true rfl) ⟨by decide, by decide, g39.1, g39.2⟩) (fun r43 S44 h => ?_)
  refine z_pop b dX5_readMake_129 rfl ?_
  refine z_iconst (v := 1) b dX5_readMake_130 (by decide) ?_
  obtain ⟨g45, h⟩ := h
  exact z_zret (u := S44) b rfl (by decide) dX5_readMake_131 h rfl g45.1 g45.2

def w_X5_readMake_B108 (cy : Nat → ClassId) (tE : Nat) (mc ms : Nat) (post : Int32 → KS → Prop) (S : KS) (nc : Nat) (ns : Nat) (x1 : Nat) (x2 : Int32) (x3 : Int32) (y0 : Int32) : Prop :=
  (nc ≤ mc ∧ ns ≤ ms) ∧ w_X5_readAmount cy tE S y0 (fun r47 S48 => ((r47.toInt ≠ 0 → w_X5_readMake_B116 cy tE mc ms post S48 nc ns x1 x2 x3) ∧ (r47.toInt = 0 → (nc ≤ mc ∧ ns ≤ ms) ∧ post 0 S48)))

set_option maxHeartbeats 4000000 in
set_option maxRecDepth 100000 in
theorem z_X5_readMake_B108 {p : Program} {l : Launch} {e : Env} {R : Room} {s : State} {m : MethodId} {args : Array Value} {below : List Frame} {meth : Method} {c : Code} {D : va_G} {cy : Nat → ClassId} {T0 tB tE : Nat} {A : Nat → Prop} {a : Nat → Nat} {rw : Nat → Option Nat} (hrw : ∀ i, i < 6 → rw i = some (a (12 + 2 * i))) {mc ms : Nat} {post : Int32 → KS → Prop} (b : Bz p R s m args meth c D cy T0 tB tE A 5 cX5_readMake RX5 (some .boolean) "readMake" 5 127 mc ms) (S : KS) (nc : Nat) (ns : Nat) (x1 : Nat) (x2 : Int32) (x3 : Int32) (y0 : Int32) (h : w_X5_readMake_B108 cy tE mc ms post S nc ns x1 x2 x3 y0) : Z p l e R s m args below meth c D A 5 (MQ below (QI D (U := KS) post (kw cy a rw) A) args s mc ms A) nc ns (kw cy a rw S) [(0, .ref (a 26)), (1, .ref x1), (2, .int x2), (3, .int x3)] 108 [.int y0, .ref (a 26)] := by
  unfold w_X5_readMake_B108 at h
  obtain ⟨g46, h⟩ := h
  refine z_calli b (z_runV (q0 := 26) (As := [.int y0]) (st := []) b (k_X5_readAmount hrw S y0 _ h) cf_X5_readAmount (kw_26 cy a rw S) rfl wm_X5_140 wi_X5_readAmount ws_X5_readAmount dX5_readMake_108 rfl (Nat.le_of_ble_eq_true rfl) ⟨by decide, by decide, g46.1, g46.2⟩) (fun r47 S48 h => ?_)
  refine y_if_ne (tgt := 116) (xl := r47.toInt) b rfl dX5_readMake_111 (by decide) (fun c1 => ?_) (fun c1 => ?_)
  · replace h := h.1 c1
    exact z_X5_readMake_B116 hrw b _ _ _ _ _ _ h
  · replace h := h.2 c1
    refine z_iconst (v := 0) b dX5_readMake_114 (by decide) ?_
    obtain ⟨g49, h⟩ := h
    exact z_zret (u := S48) b rfl (by decide) dX5_readMake_115 h rfl g49.1 g49.2

def w_X5_readMake_B89 (cy : Nat → ClassId) (tE : Nat) (mc ms : Nat) (post : Int32 → KS → Prop) (S : KS) (nc : Nat) (ns : Nat) (x1 : Nat) (x2 : Int32) (x3 : Int32) (y0 : Int32) : Prop :=
  ((y0.toInt = 0 → w_X5_readMake_B116 cy tE mc ms post S nc ns x1 x2 x3) ∧ (y0.toInt ≠ 0 → ((x2.toInt = 14 → w_X5_readMake_B108 cy tE mc ms post S nc ns x1 x2 x3 0) ∧ (x2.toInt ≠ 14 → w_X5_readMake_B108 cy tE mc ms post S nc ns x1 x2 x3 1))))

set_option maxHeartbeats 4000000 in
set_option maxRecDepth 100000 in
theorem z_X5_readMake_B89 {p : Program} {l : Launch} {e : Env} {R : Room} {s : State} {m : MethodId} {args : Array Value} {below : List Frame} {meth : Method} {c : Code} {D : va_G} {cy : Nat → ClassId} {T0 tB tE : Nat} {A : Nat → Prop} {a : Nat → Nat} {rw : Nat → Option Nat} (hrw : ∀ i, i < 6 → rw i = some (a (12 + 2 * i))) {mc ms : Nat} {post : Int32 → KS → Prop} (b : Bz p R s m args meth c D cy T0 tB tE A 5 cX5_readMake RX5 (some .boolean) "readMake" 5 127 mc ms) (S : KS) (nc : Nat) (ns : Nat) (x1 : Nat) (x2 : Int32) (x3 : Int32) (y0 : Int32) (h : w_X5_readMake_B89 cy tE mc ms post S nc ns x1 x2 x3 y0) : Z p l e R s m args below meth c D A 5 (MQ below (QI D (U := KS) post (kw cy a rw) A) args s mc ms A) nc ns (kw cy a rw S) [(0, .ref (a 26)), (1, .ref x1), (2, .int x2), (3, .int x3)] 89 [.int y0] := by
  unfold w_X5_readMake_B89 at h
  refine z_istore (lv' := [(4, .int y0), (0, .ref (a 26)), (1, .ref x1), (2, .int x2), (3, .int x3)]) b dX5_readMake_89 (by decide) rfl ?_
  refine z_iload b dX5_readMake_91 rfl ?_
  refine y_if_eq (tgt := 116) (xl := y0.toInt) b rfl dX5_readMake_93 (by decide) (fun c1 => ?_) (fun c1 => ?_)
  · replace h := h.1 c1
    refine z_lv0 (lv' := [(0, .ref (a 26)), (1, .ref x1), (2, .int x2), (3, .int x3)]) [1, 2, 3, 4] rfl ?_
    exact z_X5_readMake_B116 hrw b _ _ _ _ _ _ h
  · replace h := h.2 c1
    refine z_aload_n b dX5_readMake_96 rfl rfl ?_
    refine z_iload_n b dX5_readMake_97 rfl rfl ?_
    refine z_bipush (v := 14) b dX5_readMake_98 (by decide) ?_
    refine y_icmp_eq (tgt := 107) (xl := x2.toInt) (yl := 14) b rfl (by decide) dX5_readMake_100 (by decide) (fun c1 => ?_) (fun c1 => ?_)
    · replace h := h.1 c1
      refine z_iconst (v := 0) b dX5_readMake_107 (by decide) ?_
      refine z_lv0 (lv' := [(0, .ref (a 26)), (1, .ref x1), (2, .int x2), (3, .int x3)]) [1, 2, 3, 4] rfl ?_
      exact z_X5_readMake_B108 hrw b _ _ _ _ _ _ _ h
    · replace h := h.2 c1
      refine z_iconst (v := 1) b dX5_readMake_103 (by decide) ?_
      refine z_goto (tgt := 108) b dX5_readMake_104 (by decide) ?_
      refine z_lv0 (lv' := [(0, .ref (a 26)), (1, .ref x1), (2, .int x2), (3, .int x3)]) [1, 2, 3, 4] rfl ?_
      exact z_X5_readMake_B108 hrw b _ _ _ _ _ _ _ h

def w_X5_readMake_B84 (cy : Nat → ClassId) (tE : Nat) (mc ms : Nat) (post : Int32 → KS → Prop) (S : KS) (nc : Nat) (ns : Nat) (x1 : Nat) (x2 : Int32) (x3 : Int32) : Prop :=
  w_X5_readMake_B89 cy tE mc ms post S nc ns x1 x2 x3 1

set_option maxHeartbeats 4000000 in
set_option maxRecDepth 100000 in
theorem z_X5_readMake_B84 {p : Program} {l : Launch} {e : Env} {R : Room} {s : State} {m : MethodId} {args : Array Value} {below : List Frame} {meth : Method} {c : Code} {D : va_G} {cy : Nat → ClassId} {T0 tB tE : Nat} {A : Nat → Prop} {a : Nat → Nat} {rw : Nat → Option Nat} (hrw : ∀ i, i < 6 → rw i = some (a (12 + 2 * i))) {mc ms : Nat} {post : Int32 → KS → Prop} (b : Bz p R s m args meth c D cy T0 tB tE A 5 cX5_readMake RX5 (some .boolean) "readMake" 5 127 mc ms) (S : KS) (nc : Nat) (ns : Nat) (x1 : Nat) (x2 : Int32) (x3 : Int32) (h : w_X5_readMake_B84 cy tE mc ms post S nc ns x1 x2 x3) : Z p l e R s m args below meth c D A 5 (MQ below (QI D (U := KS) post (kw cy a rw) A) args s mc ms A) nc ns (kw cy a rw S) [(0, .ref (a 26)), (1, .ref x1), (2, .int x2), (3, .int x3)] 84 [] := by
  unfold w_X5_readMake_B84 at h
  refine z_iconst (v := 1) b dX5_readMake_84 (by decide) ?_
  refine z_goto (tgt := 89) b dX5_readMake_85 (by decide) ?_
  exact z_X5_readMake_B89 hrw b _ _ _ _ _ _ _ h

def w_X5_readMake (cy : Nat → ClassId) (tE : Nat) (mc ms : Nat) (S : KS) (p0 : Nat) (post : Int32 → KS → Prop) : Prop :=
  (0 ≤ mc ∧ 0 ≤ ms) ∧ w_X5_kind cy tE S (fun r2 S3 => ((r2.toInt = 6 → ∃ (i4 : Nat) (f5 : Int64) (f6 : Nat) (f7 : Nat) (f8 : Int32) (f9 : Int32), S3.2.2.2[i4]? = some (p0, .inr (1, [.long f5, .ref f6, .ref f7, .int f8, .int f9])) ∧ (0 ≤ mc ∧ 0 ≤ ms) ∧ ∃ (i12 : Nat) (f13 : List Value), S3.2.2.2[i12]? = some (f7, .inr (0, f13)) ∧ w_Jx4a65c_size_8abf5 cy tE S3 f7 (fun r15 S16 => ((r15.toInt < 6 → (0 ≤ mc ∧ 0 ≤ ms) ∧ w_X5_kind cy tE (ksi (ksi S16 15 ((fi S16.1 15) + 1)) 16 0) (fun r18 S19 => (0 ≤ mc ∧ 0 ≤ ms) ∧ w_X5_readChanged cy tE S19 r18 (fun r21 S22 => ((r21.toInt ≠ (-1) → ((r18.toInt = 7 → w_X5_readMake_B84 cy tE mc ms post S22 0 0 p0 r18 r21) ∧ (r18.toInt ≠ 7 → ((r18.toInt = 8 → w_X5_readMake_B84 cy tE mc ms post S22 0 0 p0 r18 r21) ∧ (r18.toInt ≠ 8 → ((r18.toInt ≠ 14 → w_X5_readMake_B89 cy tE mc ms post S22 0 0 p0 r18 r21 0) ∧ (r18.toInt = 14 → w_X5_readMake_B84 cy tE mc ms post S22 0 0 p0 r18 r21))))))) ∧ (r21.toInt = (-1) → (0 ≤ mc ∧ 0 ≤ ms) ∧ post 0 S22))))) ∧ (6 ≤ r15.toInt → (0 ≤ mc ∧ 0 ≤ ms) ∧ w_X5_refuse cy tE S16 3 (fun r52 S53 => (r52 = 0 ∨ r52 = 1) ∧ (0 ≤ mc ∧ 0 ≤ ms) ∧ post r52 S53))))) ∧ (r2.toInt ≠ 6 → (0 ≤ mc ∧ 0 ≤ ms) ∧ w_X5_refuse cy tE S3 1 (fun r57 S58 => (r57 = 0 ∨ r57 = 1) ∧ (0 ≤ mc ∧ 0 ≤ ms) ∧ post r57 S58))))

set_option maxHeartbeats 4000000 in
set_option maxRecDepth 100000 in
theorem k_X5_readMake {l : Launch} {D : va_G} {cy : Nat → ClassId} {T0 tB tE : Nat} {a : Nat → Nat} {rw : Nat → Option Nat} (hrw : ∀ i, i < 6 → rw i = some (a (12 + 2 * i))) {mc ms : Nat} (S : KS) (p0 : Nat) (post : Int32 → KS → Prop) (h : w_X5_readMake cy tE mc ms S p0 post) : Ct l D cy T0 tB tE yX5_readMake cX5_readMake 5 (some .boolean) 5 127 mc ms (kw cy a rw S) [.ref (a 26), .ref p0] (QI D (U := KS) post (kw cy a rw)) := by
  refine Ct.ofZ RX5 "readMake" [(0, .ref (a 26)), (1, .ref p0)] rfl rfl rfl rfl (Nat.le_of_ble_eq_true rfl) ?_
  intro p e R s m args below meth c A b
  unfold w_X5_readMake at h
  refine z_aload_n b dX5_readMake_0 rfl rfl ?_
  obtain ⟨g1, h⟩ := h
  refine z_calli b (z_runV (q0 := 26) (As := []) (st := []) b (k_X5_kind hrw S _ h) cf_X5_kind (kw_26 cy a rw S) rfl wm_X5_66 wi_X5_kind ws_X5_kind dX5_readMake_1 rfl (Nat.le_of_ble_eq_true rfl) ⟨by decide, by decide, g1.1, g1.2⟩) (fun r2 S3 h => ?_)
  refine z_bipush (v := 6) b dX5_readMake_4 (by decide) ?_
  refine y_icmp_eq (tgt := 15) (xl := r2.toInt) (yl := 6) b rfl (by decide) dX5_readMake_6 (by decide) (fun c1 => ?_) (fun c1 => ?_)
  · replace h := h.1 c1
    refine z_aload_n b dX5_readMake_15 rfl rfl ?_
    obtain ⟨i4, f5, f6, f7, f8, f9, g10, h⟩ := h
    refine z_get (q0 := 47 + i4) (k9 := 2) (v := .ref f7) b (kw_dyn cy a rw S3 g10) rfl in_X0 (by decide) wf_X5_133 rfl dX5_readMake_16 ?_
    obtain ⟨g11, h⟩ := h
    obtain ⟨i12, f13, g14, h⟩ := h
    refine z_calli b (z_runV (q0 := 47 + i12) (As := []) (st := []) b (k_Jx4a65c_size_8abf5 hrw S3 f7 _ h) cf_Jx4a65c_size_8abf5 (kw_dyn cy a rw S3 g14) rfl wm_X5_85 wi_Jx4a65c_size_8abf5 ws_Jx4a65c_size_8abf5 dX5_readMake_19 rfl (Nat.le_of_ble_eq_true rfl) ⟨by decide, by decide, g11.1, g11.2⟩) (fun r15 S16 h => ?_)
    refine z_bipush (v := 6) b dX5_readMake_22 (by decide) ?_
    refine y_icmp_lt (tgt := 33) (xl := r15.toInt) (yl := 6) b rfl (by decide) dX5_readMake_24 (by decide) (fun c1 => ?_) (fun c1 => ?_)
    · replace h := h.1 c1
      refine z_aload_n b dX5_readMake_33 rfl rfl ?_
      refine z_dup b dX5_readMake_34 rfl ?_
      refine z_get (q0 := 26) (k9 := 1) (v := .int (fi S16.1 15)) b (kw_26 cy a rw S16) rfl in_X5 (by decide) wf_X5_18 rfl dX5_readMake_35 ?_
      refine z_iconst (v := 1) b dX5_readMake_38 (by decide) ?_
      refine z_iadd b dX5_readMake_39 rfl ?_
      refine z_put (q0 := 26) (k9 := 1) tyX5 b (kw_26 cy a rw S16) rfl in_X5 tyX5_ok nmX5 (by decide) wf_X5_18 rfl rfl rfl rfl (Nat.le_of_ble_eq_true rfl) dX5_readMake_40 (kwp_26_1 cy a rw S16 ((fi S16.1 15) + 1)) ?_
      refine z_aload_n b dX5_readMake_43 rfl rfl ?_
      refine z_iconst (v := 0) b dX5_readMake_44 (by decide) ?_
      refine z_put (q0 := 26) (k9 := 3) tyX5 b (kw_26 cy a rw (ksi S16 15 ((fi S16.1 15) + 1))) rfl in_X5 tyX5_ok nmX5 (by decide) wf_X5_26 rfl rfl rfl rfl (Nat.le_of_ble_eq_true rfl) dX5_readMake_45 (kwp_26_3 cy a rw (ksi S16 15 ((fi S16.1 15) + 1)) 0) ?_
      refine z_aload_n b dX5_readMake_48 rfl rfl ?_
      obtain ⟨g17, h⟩ := h
      refine z_calli b (z_runV (q0 := 26) (As := []) (st := []) b (k_X5_kind hrw (ksi (ksi S16 15 ((fi S16.1 15) + 1)) 16 0) _ h) cf_X5_kind (kw_26 cy a rw (ksi (ksi S16 15 ((fi S16.1 15) + 1)) 16 0)) rfl wm_X5_66 wi_X5_kind ws_X5_kind dX5_readMake_49 rfl (Nat.le_of_ble_eq_true rfl) ⟨by decide, by decide, g17.1, g17.2⟩) (fun r18 S19 h => ?_)
      refine z_istore_n (lv' := [(2, .int r18), (0, .ref (a 26)), (1, .ref p0)]) b dX5_readMake_52 rfl (by decide) rfl ?_
      refine z_aload_n b dX5_readMake_53 rfl rfl ?_
      refine z_iload_n b dX5_readMake_54 rfl rfl ?_
      obtain ⟨g20, h⟩ := h
      refine z_calli b (z_runV (q0 := 26) (As := [.int r18]) (st := []) b (k_X5_readChanged hrw S19 r18 _ h) cf_X5_readChanged (kw_26 cy a rw S19) rfl wm_X5_136 wi_X5_readChanged ws_X5_readChanged dX5_readMake_55 rfl (Nat.le_of_ble_eq_true rfl) ⟨by decide, by decide, g20.1, g20.2⟩) (fun r21 S22 h => ?_)
      refine z_istore_n (lv' := [(3, .int r21), (2, .int r18), (0, .ref (a 26)), (1, .ref p0)]) b dX5_readMake_58 rfl (by decide) rfl ?_
      refine z_iload_n b dX5_readMake_59 rfl rfl ?_
      refine z_iconst (v := (-1)) b dX5_readMake_60 (by decide) ?_
      refine y_icmp_ne (tgt := 66) (xl := r21.toInt) (yl := (-1)) b rfl (by decide) dX5_readMake_61 (by decide) (fun c1 => ?_) (fun c1 => ?_)
      · replace h := h.1 c1
        refine z_iload_n b dX5_readMake_66 rfl rfl ?_
        refine z_bipush (v := 7) b dX5_readMake_67 (by decide) ?_
        refine y_icmp_eq (tgt := 84) (xl := r18.toInt) (yl := 7) b rfl (by decide) dX5_readMake_69 (by decide) (fun c1 => ?_) (fun c1 => ?_)
        · replace h := h.1 c1
          refine z_lv0 (lv' := [(0, .ref (a 26)), (1, .ref p0), (2, .int r18), (3, .int r21)]) [2, 3, 1, 0] rfl ?_
          exact z_X5_readMake_B84 hrw b _ _ _ _ _ _ h
        · replace h := h.2 c1
          refine z_iload_n b dX5_readMake_72 rfl rfl ?_
          refine z_bipush (v := 8) b dX5_readMake_73 (by decide) ?_
          refine y_icmp_eq (tgt := 84) (xl := r18.toInt) (yl := 8) b rfl (by decide) dX5_readMake_75 (by decide) (fun c1 => ?_) (fun c1 => ?_)
          · replace h := h.1 c1
            refine z_lv0 (lv' := [(0, .ref (a 26)), (1, .ref p0), (2, .int r18), (3, .int r21)]) [2, 3, 1, 0] rfl ?_
            exact z_X5_readMake_B84 hrw b _ _ _ _ _ _ h
          · replace h := h.2 c1
            refine z_iload_n b dX5_readMake_78 rfl rfl ?_
            refine z_bipush (v := 14) b dX5_readMake_79 (by decide) ?_
            refine y_icmp_ne (tgt := 88) (xl := r18.toInt) (yl := 14) b rfl (by decide) dX5_readMake_81 (by decide) (fun c1 => ?_) (fun c1 => ?_)
            · replace h := h.1 c1
              refine z_iconst (v := 0) b dX5_readMake_88 (by decide) ?_
              refine z_lv0 (lv' := [(0, .ref (a 26)), (1, .ref p0), (2, .int r18), (3, .int r21)]) [2, 3, 1, 0] rfl ?_
              exact z_X5_readMake_B89 hrw b _ _ _ _ _ _ _ h
            · replace h := h.2 c1
              refine z_lv0 (lv' := [(0, .ref (a 26)), (1, .ref p0), (2, .int r18), (3, .int r21)]) [2, 3, 1, 0] rfl ?_
              exact z_X5_readMake_B84 hrw b _ _ _ _ _ _ h
      · replace h := h.2 c1
        refine z_iconst (v := 0) b dX5_readMake_64 (by decide) ?_
        obtain ⟨g50, h⟩ := h
        exact z_zret (u := S22) b rfl (by decide) dX5_readMake_65 h rfl g50.1 g50.2
    · replace h := h.2 c1
      refine z_aload_n b dX5_readMake_27 rfl rfl ?_
      refine z_iconst (v := 3) b dX5_readMake_28 (by decide) ?_
      obtain ⟨g51, h⟩ := h
      refine z_calli b (z_runV (q0 := 26) (As := [.int 3]) (st := []) b (k_X5_refuse hrw S16 3 _ h) cf_X5_refuse (kw_26 cy a rw S16) rfl wm_X5_70 wi_X5_refuse ws_X5_refuse dX5_readMake_29 rfl (Nat.le_of_ble_eq_true rfl) ⟨by decide, by decide, g51.1, g51.2⟩) (fun r52 S53 h => ?_)
      obtain ⟨g54, h⟩ := h
      obtain ⟨g55, h⟩ := h
      exact z_zret (u := S53) b rfl (z_bool g54) dX5_readMake_32 h rfl g55.1 g55.2
  · replace h := h.2 c1
    refine z_aload_n b dX5_readMake_9 rfl rfl ?_
    refine z_iconst (v := 1) b dX5_readMake_10 (by decide) ?_
    obtain ⟨g56, h⟩ := h
    refine z_calli b (z_runV (q0 := 26) (As := [.int 1]) (st := []) b (k_X5_refuse hrw S3 1 _ h) cf_X5_refuse (kw_26 cy a rw S3) rfl wm_X5_70 wi_X5_refuse ws_X5_refuse dX5_readMake_11 rfl (Nat.le_of_ble_eq_true rfl) ⟨by decide, by decide, g56.1, g56.2⟩) (fun r57 S58 h => ?_)
    obtain ⟨g59, h⟩ := h
    obtain ⟨g60, h⟩ := h
    exact z_zret (u := S58) b rfl (z_bool g59) dX5_readMake_14 h rfl g60.1 g60.2

def w_X11_hole_B22 (cy : Nat → ClassId) (tE : Nat) (post : Int32 → KS → Prop) (S : KS)  : Prop :=
  post (-1) S

set_option maxHeartbeats 4000000 in
set_option maxRecDepth 100000 in
theorem z_X11_hole_B22 {p : Program} {l : Launch} {e : Env} {R : Room} {s : State} {m : MethodId} {args : Array Value} {below : List Frame} {meth : Method} {c : Code} {D : va_G} {cy : Nat → ClassId} {T0 tB tE : Nat} {A : Nat → Prop} {a : Nat → Nat} {rw : Nat → Option Nat} (hrw : ∀ i, i < 6 → rw i = some (a (12 + 2 * i))) {post : Int32 → KS → Prop} (b : Bz p R s m args meth c D cy T0 tB tE A 7 cX11_hole RX11 (some .int) "hole" 6 146 0 0) (S : KS)  (h : w_X11_hole_B22 cy tE post S ) : Z p l e R s m args below meth c D A 7 (MQ below (QI D (U := KS) post (kw cy a rw) A) args s 0 0 A) 0 0 (kw cy a rw S) [] 22 [] := by
  unfold w_X11_hole_B22 at h
  refine z_iconst (v := (-1)) b dX11_hole_22 (by decide) ?_
  exact z_iret (u := S) b rfl dX11_hole_23 h rfl (by decide) (by decide)

def w_X11_hole_B47 (cy : Nat → ClassId) (tE : Nat) (post : Int32 → KS → Prop) (S : KS)  : Prop :=
  post (-1) S

set_option maxHeartbeats 4000000 in
set_option maxRecDepth 100000 in
theorem z_X11_hole_B47 {p : Program} {l : Launch} {e : Env} {R : Room} {s : State} {m : MethodId} {args : Array Value} {below : List Frame} {meth : Method} {c : Code} {D : va_G} {cy : Nat → ClassId} {T0 tB tE : Nat} {A : Nat → Prop} {a : Nat → Nat} {rw : Nat → Option Nat} (hrw : ∀ i, i < 6 → rw i = some (a (12 + 2 * i))) {post : Int32 → KS → Prop} (b : Bz p R s m args meth c D cy T0 tB tE A 7 cX11_hole RX11 (some .int) "hole" 6 146 0 0) (S : KS)  (h : w_X11_hole_B47 cy tE post S ) : Z p l e R s m args below meth c D A 7 (MQ below (QI D (U := KS) post (kw cy a rw) A) args s 0 0 A) 0 0 (kw cy a rw S) [] 47 [] := by
  unfold w_X11_hole_B47 at h
  refine z_iconst (v := (-1)) b dX11_hole_47 (by decide) ?_
  exact z_iret (u := S) b rfl dX11_hole_48 h rfl (by decide) (by decide)

def w_X11_hole_B152 (cy : Nat → ClassId) (tE : Nat) (post : Int32 → KS → Prop) (S : KS) (y0 : Int32) : Prop :=
  post y0 S

set_option maxHeartbeats 4000000 in
set_option maxRecDepth 100000 in
theorem z_X11_hole_B152 {p : Program} {l : Launch} {e : Env} {R : Room} {s : State} {m : MethodId} {args : Array Value} {below : List Frame} {meth : Method} {c : Code} {D : va_G} {cy : Nat → ClassId} {T0 tB tE : Nat} {A : Nat → Prop} {a : Nat → Nat} {rw : Nat → Option Nat} (hrw : ∀ i, i < 6 → rw i = some (a (12 + 2 * i))) {post : Int32 → KS → Prop} (b : Bz p R s m args meth c D cy T0 tB tE A 7 cX11_hole RX11 (some .int) "hole" 6 146 0 0) (S : KS) (y0 : Int32) (h : w_X11_hole_B152 cy tE post S y0) : Z p l e R s m args below meth c D A 7 (MQ below (QI D (U := KS) post (kw cy a rw) A) args s 0 0 A) 0 0 (kw cy a rw S) [] 152 [.int y0] := by
  unfold w_X11_hole_B152 at h
  exact z_iret (u := S) b rfl dX11_hole_152 h rfl (by decide) (by decide)

def w_X11_hole_B121 (cy : Nat → ClassId) (tE : Nat) (post : Int32 → KS → Prop) (S : KS) (y0 : Int32) : Prop :=
  post y0 S

set_option maxHeartbeats 4000000 in
set_option maxRecDepth 100000 in
theorem z_X11_hole_B121 {p : Program} {l : Launch} {e : Env} {R : Room} {s : State} {m : MethodId} {args : Array Value} {below : List Frame} {meth : Method} {c : Code} {D : va_G} {cy : Nat → ClassId} {T0 tB tE : Nat} {A : Nat → Prop} {a : Nat → Nat} {rw : Nat → Option Nat} (hrw : ∀ i, i < 6 → rw i = some (a (12 + 2 * i))) {post : Int32 → KS → Prop} (b : Bz p R s m args meth c D cy T0 tB tE A 7 cX11_hole RX11 (some .int) "hole" 6 146 0 0) (S : KS) (y0 : Int32) (h : w_X11_hole_B121 cy tE post S y0) : Z p l e R s m args below meth c D A 7 (MQ below (QI D (U := KS) post (kw cy a rw) A) args s 0 0 A) 0 0 (kw cy a rw S) [] 121 [.int y0] := by
  unfold w_X11_hole_B121 at h
  exact z_iret (u := S) b rfl dX11_hole_121 h rfl (by decide) (by decide)

def w_X11_hole_B98 (cy : Nat → ClassId) (tE : Nat) (post : Int32 → KS → Prop) (S : KS) (y0 : Int32) : Prop :=
  post y0 S

set_option maxHeartbeats 4000000 in
set_option maxRecDepth 100000 in
theorem z_X11_hole_B98 {p : Program} {l : Launch} {e : Env} {R : Room} {s : State} {m : MethodId} {args : Array Value} {below : List Frame} {meth : Method} {c : Code} {D : va_G} {cy : Nat → ClassId} {T0 tB tE : Nat} {A : Nat → Prop} {a : Nat → Nat} {rw : Nat → Option Nat} (hrw : ∀ i, i < 6 → rw i = some (a (12 + 2 * i))) {post : Int32 → KS → Prop} (b : Bz p R s m args meth c D cy T0 tB tE A 7 cX11_hole RX11 (some .int) "hole" 6 146 0 0) (S : KS) (y0 : Int32) (h : w_X11_hole_B98 cy tE post S y0) : Z p l e R s m args below meth c D A 7 (MQ below (QI D (U := KS) post (kw cy a rw) A) args s 0 0 A) 0 0 (kw cy a rw S) [] 98 [.int y0] := by
  unfold w_X11_hole_B98 at h
  exact z_iret (u := S) b rfl dX11_hole_98 h rfl (by decide) (by decide)

def w_X11_hole (cy : Nat → ClassId) (tE : Nat) (S : KS) (p0 : Int32) (p1 : Int32) (p2 : Int32) (p3 : Int32) (p4 : Int32) (post : Int32 → KS → Prop) : Prop :=
  w_X11_isNever cy tE S p0 (fun r1 S2 => ((r1.toInt = 0 → w_X11_hole_B22 cy tE post S2) ∧ (r1.toInt ≠ 0 → w_X11_areLaws cy tE S2 p1 (fun r3 S4 => ((r3.toInt = 0 → w_X11_hole_B22 cy tE post S4) ∧ (r3.toInt ≠ 0 → w_X11_isDepth cy tE S4 p2 (fun r5 S6 => ((r5.toInt ≠ 0 → ((p3.toInt < 1 → w_X11_hole_B47 cy tE post S6) ∧ (1 ≤ p3.toInt → ((7 < p3.toInt → w_X11_hole_B47 cy tE post S6) ∧ (p3.toInt ≤ 7 → w_X11_isWithin cy tE S6 p4 20 (fun r7 S8 => ((r7.toInt ≠ 0 → w_X8_begin cy tE S8 p1 p2 p3 0 (fun S10 => w_X8_first cy tE S10 p0 (fun r11 S12 => ((p4.toInt ≠ 20 → ((r11.toInt ≠ (-1) → ((p4.toInt ≠ 0 → w_X8_code cy tE S12 r11 (p4 - 1) (fun r13 S14 => w_X11_hole_B152 cy tE post S14 r13)) ∧ (p4.toInt = 0 → w_X8_acts cy tE S12 r11 (fun r15 S16 => w_X11_hole_B152 cy tE post S16 r15)))) ∧ (r11.toInt = (-1) → (((fi S12.1 34).toInt = 0 → w_X11_hole_B121 cy tE post S12 (-1)) ∧ ((fi S12.1 34).toInt ≠ 0 → w_X11_hole_B121 cy tE post S12 (-2)))))) ∧ (p4.toInt = 20 → ((r11.toInt ≠ (-1) → w_X11_hole_B98 cy tE post S12 (r11 + 1)) ∧ (r11.toInt = (-1) → w_X11_hole_B98 cy tE post S12 (fi S12.1 33)))))))) ∧ (r7.toInt = 0 → w_X11_hole_B47 cy tE post S8)))))))) ∧ (r5.toInt = 0 → w_X11_hole_B22 cy tE post S6)))))))))

set_option maxHeartbeats 4000000 in
set_option maxRecDepth 100000 in
theorem k_X11_hole {l : Launch} {D : va_G} {cy : Nat → ClassId} {T0 tB tE : Nat} {a : Nat → Nat} {rw : Nat → Option Nat} (hrw : ∀ i, i < 6 → rw i = some (a (12 + 2 * i))) (S : KS) (p0 : Int32) (p1 : Int32) (p2 : Int32) (p3 : Int32) (p4 : Int32) (post : Int32 → KS → Prop) (h : w_X11_hole cy tE S p0 p1 p2 p3 p4 post) : Ct l D cy T0 tB tE yX11_hole cX11_hole 7 (some .int) 6 146 0 0 (kw cy a rw S) [.ref (a 0), .int p0, .int p1, .int p2, .int p3, .int p4] (QI D (U := KS) post (kw cy a rw)) := by
  refine Ct.ofZ RX11 "hole" [(0, .ref (a 0)), (1, .int p0), (2, .int p1), (3, .int p2), (4, .int p3), (5, .int p4)] rfl rfl rfl rfl (Nat.le_of_ble_eq_true rfl) ?_
  intro p e R s m args below meth c A b
  unfold w_X11_hole at h
  refine z_aload_n b dX11_hole_0 rfl rfl ?_
  refine z_iload_n b dX11_hole_1 rfl rfl ?_
  refine z_calli b (z_runV (q0 := 0) (As := [.int p0]) (st := []) b (k_X11_isNever hrw S p0 _ h) cf_X11_isNever (kw_0 cy a rw S) rfl wm_X11_200 wi_X11_isNever ws_X11_isNever dX11_hole_2 rfl (Nat.le_of_ble_eq_true rfl) ⟨by decide, by decide, Nat.le_of_ble_eq_true rfl, Nat.le_of_ble_eq_true rfl⟩) (fun r1 S2 h => ?_)
  refine y_if_eq (tgt := 22) (xl := r1.toInt) b rfl dX11_hole_5 (by decide) (fun c1 => ?_) (fun c1 => ?_)
  · replace h := h.1 c1
    refine z_lv0 (lv' := []) [] rfl ?_
    exact z_X11_hole_B22 hrw b _ h
  · replace h := h.2 c1
    refine z_iload_n b dX11_hole_8 rfl rfl ?_
    refine z_calli b (z_runS (As := [.int p1]) (st := []) b (k_X11_areLaws hrw S2 p1 _ h) cf_X11_areLaws wm_X11_181 ws_X11_areLaws dX11_hole_9 rfl (Nat.le_of_ble_eq_true rfl) ⟨by decide, by decide, Nat.le_of_ble_eq_true rfl, Nat.le_of_ble_eq_true rfl⟩) (fun r3 S4 h => ?_)
    refine y_if_eq (tgt := 22) (xl := r3.toInt) b rfl dX11_hole_12 (by decide) (fun c1 => ?_) (fun c1 => ?_)
    · replace h := h.1 c1
      refine z_lv0 (lv' := []) [] rfl ?_
      exact z_X11_hole_B22 hrw b _ h
    · replace h := h.2 c1
      refine z_iload_n b dX11_hole_15 rfl rfl ?_
      refine z_calli b (z_runS (As := [.int p2]) (st := []) b (k_X11_isDepth hrw S4 p2 _ h) cf_X11_isDepth wm_X11_203 ws_X11_isDepth dX11_hole_16 rfl (Nat.le_of_ble_eq_true rfl) ⟨by decide, by decide, Nat.le_of_ble_eq_true rfl, Nat.le_of_ble_eq_true rfl⟩) (fun r5 S6 h => ?_)
      refine y_if_ne (tgt := 24) (xl := r5.toInt) b rfl dX11_hole_19 (by decide) (fun c1 => ?_) (fun c1 => ?_)
      · replace h := h.1 c1
        refine z_iload b dX11_hole_24 rfl ?_
        refine z_iconst (v := 1) b dX11_hole_26 (by decide) ?_
        refine y_icmp_lt (tgt := 47) (xl := p3.toInt) (yl := 1) b rfl (by decide) dX11_hole_27 (by decide) (fun c1 => ?_) (fun c1 => ?_)
        · replace h := h.1 c1
          refine z_lv0 (lv' := []) [] rfl ?_
          exact z_X11_hole_B47 hrw b _ h
        · replace h := h.2 c1
          refine z_iload b dX11_hole_30 rfl ?_
          refine z_bipush (v := 7) b dX11_hole_32 (by decide) ?_
          refine y_icmp_gt (tgt := 47) (xl := p3.toInt) (yl := 7) b rfl (by decide) dX11_hole_34 (by decide) (fun c1 => ?_) (fun c1 => ?_)
          · replace h := h.1 c1
            refine z_lv0 (lv' := []) [] rfl ?_
            exact z_X11_hole_B47 hrw b _ h
          · replace h := h.2 c1
            refine z_iload b dX11_hole_37 rfl ?_
            refine z_bipush (v := 20) b dX11_hole_39 (by decide) ?_
            refine z_calli b (z_runS (As := [.int p4, .int 20]) (st := []) b (k_X11_isWithin hrw S6 p4 20 _ h) cf_X11_isWithin wm_X11_73 ws_X11_isWithin dX11_hole_41 rfl (Nat.le_of_ble_eq_true rfl) ⟨by decide, by decide, Nat.le_of_ble_eq_true rfl, Nat.le_of_ble_eq_true rfl⟩) (fun r7 S8 h => ?_)
            refine y_if_ne (tgt := 49) (xl := r7.toInt) b rfl dX11_hole_44 (by decide) (fun c1 => ?_) (fun c1 => ?_)
            · replace h := h.1 c1
              refine z_aload_n b dX11_hole_49 rfl rfl ?_
              refine z_get (q0 := 0) (k9 := 6) (v := .ref (a 38)) b (kw_0 cy a rw S8) rfl in_X11 (by decide) wf_X11_52 rfl dX11_hole_50 ?_
              refine z_iload_n b dX11_hole_53 rfl rfl ?_
              refine z_iload_n b dX11_hole_54 rfl rfl ?_
              refine z_iload b dX11_hole_55 rfl ?_
              refine z_iconst (v := 0) b dX11_hole_57 (by decide) ?_
              refine z_callv b (z_runV (q0 := 38) (As := [.int p1, .int p2, .int p3, .int 0]) (st := []) b (k_X8_begin hrw S8 p1 p2 p3 0 _ h) cf_X8_begin (kw_38 cy a rw S8) rfl wm_X11_206 wi_X8_begin ws_X8_begin dX11_hole_58 rfl (Nat.le_of_ble_eq_true rfl) ⟨by decide, by decide, Nat.le_of_ble_eq_true rfl, Nat.le_of_ble_eq_true rfl⟩) (fun S10 h => ?_)
              refine z_aload_n b dX11_hole_61 rfl rfl ?_
              refine z_get (q0 := 0) (k9 := 6) (v := .ref (a 38)) b (kw_0 cy a rw S10) rfl in_X11 (by decide) wf_X11_52 rfl dX11_hole_62 ?_
              refine z_iload_n b dX11_hole_65 rfl rfl ?_
              refine z_calli b (z_runV (q0 := 38) (As := [.int p0]) (st := []) b (k_X8_first hrw S10 p0 _ h) cf_X8_first (kw_38 cy a rw S10) rfl wm_X11_210 wi_X8_first ws_X8_first dX11_hole_66 rfl (Nat.le_of_ble_eq_true rfl) ⟨by decide, by decide, Nat.le_of_ble_eq_true rfl, Nat.le_of_ble_eq_true rfl⟩) (fun r11 S12 h => ?_)
              refine z_istore (lv' := [(6, .int r11), (0, .ref (a 0)), (1, .int p0), (2, .int p1), (3, .int p2), (4, .int p3), (5, .int p4)]) b dX11_hole_69 (by decide) rfl ?_
              refine z_iload b dX11_hole_71 rfl ?_
              refine z_bipush (v := 20) b dX11_hole_73 (by decide) ?_
              refine y_icmp_ne (tgt := 99) (xl := p4.toInt) (yl := 20) b rfl (by decide) dX11_hole_75 (by decide) (fun c1 => ?_) (fun c1 => ?_)
              · replace h := h.1 c1
                refine z_iload b dX11_hole_99 rfl ?_
                refine z_iconst (v := (-1)) b dX11_hole_101 (by decide) ?_
                refine y_icmp_ne (tgt := 122) (xl := r11.toInt) (yl := (-1)) b rfl (by decide) dX11_hole_102 (by decide) (fun c1 => ?_) (fun c1 => ?_)
                · replace h := h.1 c1
                  refine z_iload b dX11_hole_122 rfl ?_
                  refine y_if_ne (tgt := 139) (xl := p4.toInt) b rfl dX11_hole_124 (by decide) (fun c1 => ?_) (fun c1 => ?_)
                  · replace h := h.1 c1
                    refine z_aload_n b dX11_hole_139 rfl rfl ?_
                    refine z_get (q0 := 0) (k9 := 6) (v := .ref (a 38)) b (kw_0 cy a rw S12) rfl in_X11 (by decide) wf_X11_52 rfl dX11_hole_140 ?_
                    refine z_iload b dX11_hole_143 rfl ?_
                    refine z_iload b dX11_hole_145 rfl ?_
                    refine z_iconst (v := 1) b dX11_hole_147 (by decide) ?_
                    refine z_isub b dX11_hole_148 rfl ?_
                    refine z_calli b (z_runV (q0 := 38) (As := [.int r11, .int (p4 - 1)]) (st := []) b (k_X8_code hrw S12 r11 (p4 - 1) _ h) cf_X8_code (kw_38 cy a rw S12) rfl wm_X11_219 wi_X8_code ws_X8_code dX11_hole_149 rfl (Nat.le_of_ble_eq_true rfl) ⟨by decide, by decide, Nat.le_of_ble_eq_true rfl, Nat.le_of_ble_eq_true rfl⟩) (fun r13 S14 h => ?_)
                    refine z_lv0 (lv' := []) [] rfl ?_
                    exact z_X11_hole_B152 hrw b _ _ h
                  · replace h := h.2 c1
                    refine z_aload_n b dX11_hole_127 rfl rfl ?_
                    refine z_get (q0 := 0) (k9 := 6) (v := .ref (a 38)) b (kw_0 cy a rw S12) rfl in_X11 (by decide) wf_X11_52 rfl dX11_hole_128 ?_
                    refine z_iload b dX11_hole_131 rfl ?_
                    refine z_calli b (z_runV (q0 := 38) (As := [.int r11]) (st := []) b (k_X8_acts hrw S12 r11 _ h) cf_X8_acts (kw_38 cy a rw S12) rfl wm_X11_217 wi_X8_acts ws_X8_acts dX11_hole_133 rfl (Nat.le_of_ble_eq_true rfl) ⟨by decide, by decide, Nat.le_of_ble_eq_true rfl, Nat.le_of_ble_eq_true rfl⟩) (fun r15 S16 h => ?_)
                    refine z_goto (tgt := 152) b dX11_hole_136 (by decide) ?_
                    refine z_lv0 (lv' := []) [] rfl ?_
                    exact z_X11_hole_B152 hrw b _ _ h
                · replace h := h.2 c1
                  refine z_aload_n b dX11_hole_105 rfl rfl ?_
                  refine z_get (q0 := 0) (k9 := 6) (v := .ref (a 38)) b (kw_0 cy a rw S12) rfl in_X11 (by decide) wf_X11_52 rfl dX11_hole_106 ?_
                  refine z_get (q0 := 38) (k9 := 18) (v := .int (fi S12.1 34)) b (kw_38 cy a rw S12) rfl in_X8 (by decide) wf_X11_214 rfl dX11_hole_109 ?_
                  refine y_if_eq (tgt := 120) (xl := (fi S12.1 34).toInt) b rfl dX11_hole_112 (by decide) (fun c1 => ?_) (fun c1 => ?_)
                  · replace h := h.1 c1
                    refine z_iconst (v := (-1)) b dX11_hole_120 (by decide) ?_
                    refine z_lv0 (lv' := []) [] rfl ?_
                    exact z_X11_hole_B121 hrw b _ _ h
                  · replace h := h.2 c1
                    refine z_bipush (v := (-2)) b dX11_hole_115 (by decide) ?_
                    refine z_goto (tgt := 121) b dX11_hole_117 (by decide) ?_
                    refine z_lv0 (lv' := []) [] rfl ?_
                    exact z_X11_hole_B121 hrw b _ _ h
              · replace h := h.2 c1
                refine z_iload b dX11_hole_78 rfl ?_
                refine z_iconst (v := (-1)) b dX11_hole_80 (by decide) ?_
                refine y_icmp_ne (tgt := 94) (xl := r11.toInt) (yl := (-1)) b rfl (by decide) dX11_hole_81 (by decide) (fun c1 => ?_) (fun c1 => ?_)
                · replace h := h.1 c1
                  refine z_iload b dX11_hole_94 rfl ?_
                  refine z_iconst (v := 1) b dX11_hole_96 (by decide) ?_
                  refine z_iadd b dX11_hole_97 rfl ?_
                  refine z_lv0 (lv' := []) [] rfl ?_
                  exact z_X11_hole_B98 hrw b _ _ h
                · replace h := h.2 c1
                  refine z_aload_n b dX11_hole_84 rfl rfl ?_
                  refine z_get (q0 := 0) (k9 := 6) (v := .ref (a 38)) b (kw_0 cy a rw S12) rfl in_X11 (by decide) wf_X11_52 rfl dX11_hole_85 ?_
                  refine z_get (q0 := 38) (k9 := 17) (v := .int (fi S12.1 33)) b (kw_38 cy a rw S12) rfl in_X8 (by decide) wf_X11_213 rfl dX11_hole_88 ?_
                  refine z_goto (tgt := 98) b dX11_hole_91 (by decide) ?_
                  refine z_lv0 (lv' := []) [] rfl ?_
                  exact z_X11_hole_B98 hrw b _ _ h
            · replace h := h.2 c1
              refine z_lv0 (lv' := []) [] rfl ?_
              exact z_X11_hole_B47 hrw b _ h
      · replace h := h.2 c1
        refine z_lv0 (lv' := []) [] rfl ?_
        exact z_X11_hole_B22 hrw b _ h

def w_Jx4a65c_add_72be8_X0_B11 (cy : Nat → ClassId) (tE : Nat) (mc ms : Nat) (post : KS → Prop) (S : KS) (nc : Nat) (ns : Nat) (x0 : Nat) (x1 : Nat) (x2 : Option Nat) (x3 : Int32) : Prop :=
  ∃ q1 : Nat, x2 = some q1 ∧ ∃ (i3 n4 : Nat) (f5 : Nat → Option Nat), S.2.2.2[i3]? = some (q1, .inl (cy 5, n4, .inr (.inr (.inr (.inr f5))))) ∧ (0 ≤ x3.toInt ∧ x3.toInt < (n4 : Int)) ∧ ∃ (i8 : Nat) (f9 : List Value), S.2.2.2[i8]? = some (x1, .inr (1, f9)) ∧ ∃ (i11 : Nat) (f12 : Int32) (f13 : Nat) (f14 : Int32), (S.2.2.2.set i3 (q1, .inl (cy 5, n4, .inr (.inr (.inr (.inr (va_up f5 x3.toNatClampNeg (some x1))))))))[i11]? = some (x0, .inr (0, [.int f12, .ref f13, .int f14])) ∧ (nc ≤ mc ∧ ns ≤ ms) ∧ post (ksL (ksL S (S.2.2.2.set i3 (q1, .inl (cy 5, n4, .inr (.inr (.inr (.inr (va_up f5 x3.toNatClampNeg (some x1))))))))) ((S.2.2.2.set i3 (q1, .inl (cy 5, n4, .inr (.inr (.inr (.inr (va_up f5 x3.toNatClampNeg (some x1)))))))).set i11 (x0, .inr (0, [.int f12, .ref f13, .int (x3 + 1)]))))

set_option maxHeartbeats 4000000 in
set_option maxRecDepth 100000 in
theorem z_Jx4a65c_add_72be8_X0_B11 {p : Program} {l : Launch} {e : Env} {R : Room} {s : State} {m : MethodId} {args : Array Value} {below : List Frame} {meth : Method} {c : Code} {D : va_G} {cy : Nat → ClassId} {T0 tB tE : Nat} {A : Nat → Prop} {a : Nat → Nat} {rw : Nat → Option Nat} (hrw : ∀ i, i < 6 → rw i = some (a (12 + 2 * i))) {mc ms : Nat} {post : KS → Prop} (b : Bz p R s m args meth c D cy T0 tB tE A 4 cJx4a65c_add_72be8 RJx4a65c none "add" 3 83 mc ms) (S : KS) (nc : Nat) (ns : Nat) (x0 : Nat) (x1 : Nat) (x2 : Option Nat) (x3 : Int32) (h : w_Jx4a65c_add_72be8_X0_B11 cy tE mc ms post S nc ns x0 x1 x2 x3) : Z p l e R s m args below meth c D A 4 (MQ below (QV D (U := KS) post (kw cy a rw) A) args s mc ms A) nc ns (kw cy a rw S) [(0, .ref x0), (1, .ref x1), (2, va_rf x2), (3, .int x3)] 11 [] := by
  unfold w_Jx4a65c_add_72be8_X0_B11 at h
  refine z_aload_n b dJx4a65c_add_72be8_11 rfl rfl ?_
  refine z_iload_n b dJx4a65c_add_72be8_12 rfl rfl ?_
  refine z_aload_n b dJx4a65c_add_72be8_13 rfl rfl ?_
  obtain ⟨q1, g2, h⟩ := h
  subst g2
  obtain ⟨i3, n4, f5, g6, h⟩ := h
  obtain ⟨g7, h⟩ := h
  obtain ⟨i8, f9, g10, h⟩ := h
  refine y_aastO (q0 := 47 + i3) (t0 := 5) (qk := 47 + i8) (ci := 1) (j := x3.toNatClampNeg) b (kw_dyn cy a rw S g6) rfl (kw_dyn cy a rw S g10) rfl wca_X0 (zx_r g7.1 g7.2) dJx4a65c_add_72be8_14 (kw_dset cy a rw S i3 (q1, .inl (cy 5, n4, .inr (.inr (.inr (.inr (va_up f5 x3.toNatClampNeg (some x1)))))))) ?_
  refine z_aload_n b dJx4a65c_add_72be8_15 rfl rfl ?_
  refine z_iload_n b dJx4a65c_add_72be8_16 rfl rfl ?_
  refine z_iconst (v := 1) b dJx4a65c_add_72be8_17 (by decide) ?_
  refine z_iadd b dJx4a65c_add_72be8_18 rfl ?_
  obtain ⟨i11, f12, f13, f14, g15, h⟩ := h
  refine z_put (q0 := 47 + i11) (k9 := 2) tyJx4a65c b (kw_dyn cy a rw (ksL S (S.2.2.2.set i3 (q1, .inl (cy 5, n4, .inr (.inr (.inr (.inr (va_up f5 x3.toNatClampNeg (some x1))))))))) g15) rfl in_Jx4a65c tyJx4a65c_ok nmJx4a65c (by decide) wf_Jx4a65c_48 rfl rfl rfl rfl (Nat.le_of_ble_eq_true rfl) dJx4a65c_add_72be8_19 (kw_dset cy a rw (ksL S (S.2.2.2.set i3 (q1, .inl (cy 5, n4, .inr (.inr (.inr (.inr (va_up f5 x3.toNatClampNeg (some x1))))))))) i11 (x0, .inr (0, [.int f12, .ref f13, .int (x3 + 1)]))) ?_
  obtain ⟨g16, h⟩ := h
  exact z_vret (u := (ksL (ksL S (S.2.2.2.set i3 (q1, .inl (cy 5, n4, .inr (.inr (.inr (.inr (va_up f5 x3.toNatClampNeg (some x1))))))))) ((S.2.2.2.set i3 (q1, .inl (cy 5, n4, .inr (.inr (.inr (.inr (va_up f5 x3.toNatClampNeg (some x1)))))))).set i11 (x0, .inr (0, [.int f12, .ref f13, .int (x3 + 1)]))))) b rfl dJx4a65c_add_72be8_22 h rfl g16.1 g16.2

def w_Jx4a65c_add_72be8_X0 (cy : Nat → ClassId) (tE : Nat) (mc ms : Nat) (S : KS) (p9 : Nat) (p0 : Nat) (p1 : Nat) (p2 : Int32) (post : KS → Prop) : Prop :=
  ((p1 = tE ∧ ((p2.toInt ≠ 0 → w_Jx4a65c_add_72be8_X0_B11 cy tE mc ms post S 0 0 p9 p0 (some p1) p2) ∧ (p2.toInt = 0 → ∃ m17 m18 : Nat, (0 + m17 ≤ mc ∧ 0 + m18 ≤ ms) ∧ ∃ (i20 : Nat) (f21 : List Value), S.2.2.2[i20]? = some (p9, .inr (0, f21)) ∧ w_Jx4a65c_grow_d5877 cy tE m17 m18 S p9 (fun r23 S24 => w_Jx4a65c_add_72be8_X0_B11 cy tE mc ms post S24 (0 + m17) (0 + m18) p9 p0 r23 p2)))) ∨ (∃ (i25 n26 : Nat) (f27 : Nat → Option Nat), S.2.2.2[i25]? = some (p1, .inl (cy 5, n26, .inr (.inr (.inr (.inr f27))))) ∧ ((p2.toInt ≠ (Int32.ofNat n26).toInt → w_Jx4a65c_add_72be8_X0_B11 cy tE mc ms post S 0 0 p9 p0 (some p1) p2) ∧ (p2.toInt = (Int32.ofNat n26).toInt → ∃ m29 m30 : Nat, (0 + m29 ≤ mc ∧ 0 + m30 ≤ ms) ∧ ∃ (i32 : Nat) (f33 : List Value), S.2.2.2[i32]? = some (p9, .inr (0, f33)) ∧ w_Jx4a65c_grow_d5877 cy tE m29 m30 S p9 (fun r35 S36 => w_Jx4a65c_add_72be8_X0_B11 cy tE mc ms post S36 (0 + m29) (0 + m30) p9 p0 r35 p2)))))

set_option maxHeartbeats 4000000 in
set_option maxRecDepth 100000 in
theorem k_Jx4a65c_add_72be8_X0 {l : Launch} {D : va_G} {cy : Nat → ClassId} {T0 tB tE : Nat} {a : Nat → Nat} {rw : Nat → Option Nat} (hrw : ∀ i, i < 6 → rw i = some (a (12 + 2 * i))) {mc ms : Nat} (S : KS) (p9 : Nat) (p0 : Nat) (p1 : Nat) (p2 : Int32) (post : KS → Prop) (h : w_Jx4a65c_add_72be8_X0 cy tE mc ms S p9 p0 p1 p2 post) : Ct l D cy T0 tB tE yJx4a65c_add_72be8 cJx4a65c_add_72be8 4 none 3 83 mc ms (kw cy a rw S) [.ref p9, .ref p0, .ref p1, .int p2] (QV D (U := KS) post (kw cy a rw)) := by
  refine Ct.ofZ RJx4a65c "add" [(0, .ref p9), (1, .ref p0), (2, .ref p1), (3, .int p2)] rfl rfl rfl rfl (Nat.le_of_ble_eq_true rfl) ?_
  intro p e R s m args below meth c A b
  unfold w_Jx4a65c_add_72be8_X0 at h
  refine z_iload_n b dJx4a65c_add_72be8_0 rfl rfl ?_
  refine z_aload_n b dJx4a65c_add_72be8_1 rfl rfl ?_
  rcases h with ⟨e1, h⟩ | h
  · refine z_elen (t := p1) b e1 dJx4a65c_add_72be8_2 ?_
    refine y_icmp_ne (tgt := 11) (xl := p2.toInt) (yl := 0) b rfl (by decide) dJx4a65c_add_72be8_3 (by decide) (fun c1 => ?_) (fun c1 => ?_)
    · replace h := h.1 c1
      exact z_Jx4a65c_add_72be8_X0_B11 hrw b _ _ _ _ _ _ _ h
    · replace h := h.2 c1
      refine z_aload_n b dJx4a65c_add_72be8_6 rfl rfl ?_
      obtain ⟨m17, m18, g19, h⟩ := h
      obtain ⟨i20, f21, g22, h⟩ := h
      refine z_callq b (z_runV (q0 := 47 + i20) (As := []) (st := []) b (k_Jx4a65c_grow_d5877 hrw S p9 _ h) cf_Jx4a65c_grow_d5877 (kw_dyn cy a rw S g22) rfl wm_Jx4a65c_129 wi_Jx4a65c_grow_d5877 ws_Jx4a65c_grow_d5877 dJx4a65c_add_72be8_7 rfl (Nat.le_of_ble_eq_true rfl) ⟨by decide, by decide, g19.1, g19.2⟩) (fun r23 S24 h => ?_)
      refine z_astore_n (lv' := [(2, va_rf r23), (0, .ref p9), (1, .ref p0), (3, .int p2)]) b dJx4a65c_add_72be8_10 rfl (by decide) rfl ?_
      refine z_lv0 (lv' := [(0, .ref p9), (1, .ref p0), (2, va_rf r23), (3, .int p2)]) [1, 2, 0, 3] rfl ?_
      exact z_Jx4a65c_add_72be8_X0_B11 hrw b _ _ _ _ _ _ _ h
  · obtain ⟨i25, n26, f27, g28, h⟩ := h
    refine z_alen (q0 := 47 + i25) (t0 := 5) (v := Int32.ofNat n26) b (kw_dyn cy a rw S g28) rfl rfl dJx4a65c_add_72be8_2 ?_
    refine y_icmp_ne (tgt := 11) (xl := p2.toInt) (yl := (Int32.ofNat n26).toInt) b rfl rfl dJx4a65c_add_72be8_3 (by decide) (fun c1 => ?_) (fun c1 => ?_)
    · replace h := h.1 c1
      exact z_Jx4a65c_add_72be8_X0_B11 hrw b _ _ _ _ _ _ _ h
    · replace h := h.2 c1
      refine z_aload_n b dJx4a65c_add_72be8_6 rfl rfl ?_
      obtain ⟨m29, m30, g31, h⟩ := h
      obtain ⟨i32, f33, g34, h⟩ := h
      refine z_callq b (z_runV (q0 := 47 + i32) (As := []) (st := []) b (k_Jx4a65c_grow_d5877 hrw S p9 _ h) cf_Jx4a65c_grow_d5877 (kw_dyn cy a rw S g34) rfl wm_Jx4a65c_129 wi_Jx4a65c_grow_d5877 ws_Jx4a65c_grow_d5877 dJx4a65c_add_72be8_7 rfl (Nat.le_of_ble_eq_true rfl) ⟨by decide, by decide, g31.1, g31.2⟩) (fun r35 S36 h => ?_)
      refine z_astore_n (lv' := [(2, va_rf r35), (0, .ref p9), (1, .ref p0), (3, .int p2)]) b dJx4a65c_add_72be8_10 rfl (by decide) rfl ?_
      refine z_lv0 (lv' := [(0, .ref p9), (1, .ref p0), (2, va_rf r35), (3, .int p2)]) [1, 2, 0, 3] rfl ?_
      exact z_Jx4a65c_add_72be8_X0_B11 hrw b _ _ _ _ _ _ _ h

def w_Jx4a65c_add_9ea2d_X0 (cy : Nat → ClassId) (tE : Nat) (mc ms : Nat) (S : KS) (p9 : Nat) (p0 : Nat) (post : Int32 → KS → Prop) : Prop :=
  ∃ (i1 : Nat) (f2 : Int32) (f3 : Nat) (f4 : Int32), S.2.2.2[i1]? = some (p9, .inr (0, [.int f2, .ref f3, .int f4])) ∧ ∃ (i6 : Nat) (f7 : Int32) (f8 : Nat) (f9 : Int32), S.2.2.2[i6]? = some (p9, .inr (0, [.int f7, .ref f8, .int f9])) ∧ ∃ (i11 : Nat) (f12 : Int32) (f13 : Nat) (f14 : Int32), (S.2.2.2.set i6 (p9, .inr (0, [.int (f2 + 1), .ref f8, .int f9])))[i11]? = some (p9, .inr (0, [.int f12, .ref f13, .int f14])) ∧ ∃ (i16 : Nat) (f17 : Int32) (f18 : Nat) (f19 : Int32), (S.2.2.2.set i6 (p9, .inr (0, [.int (f2 + 1), .ref f8, .int f9])))[i16]? = some (p9, .inr (0, [.int f17, .ref f18, .int f19])) ∧ ∃ m21 m22 : Nat, (0 + m21 ≤ mc ∧ 0 + m22 ≤ ms) ∧ ∃ (i24 : Nat) (f25 : List Value), (S.2.2.2.set i6 (p9, .inr (0, [.int (f2 + 1), .ref f8, .int f9])))[i24]? = some (p9, .inr (0, f25)) ∧ w_Jx4a65c_add_72be8_X0 cy tE m21 m22 (ksL S (S.2.2.2.set i6 (p9, .inr (0, [.int (f2 + 1), .ref f8, .int f9])))) p9 p0 f13 f19 (fun S28 => ((0 + m21) ≤ mc ∧ (0 + m22) ≤ ms) ∧ post 1 S28)

set_option maxHeartbeats 4000000 in
set_option maxRecDepth 100000 in
theorem k_Jx4a65c_add_9ea2d_X0 {l : Launch} {D : va_G} {cy : Nat → ClassId} {T0 tB tE : Nat} {a : Nat → Nat} {rw : Nat → Option Nat} (hrw : ∀ i, i < 6 → rw i = some (a (12 + 2 * i))) {mc ms : Nat} (S : KS) (p9 : Nat) (p0 : Nat) (post : Int32 → KS → Prop) (h : w_Jx4a65c_add_9ea2d_X0 cy tE mc ms S p9 p0 post) : Ct l D cy T0 tB tE yJx4a65c_add_9ea2d cJx4a65c_add_9ea2d 2 (some .boolean) 4 106 mc ms (kw cy a rw S) [.ref p9, .ref p0] (QI D (U := KS) post (kw cy a rw)) := by
  refine Ct.ofZ RJx4a65c "add" [(0, .ref p9), (1, .ref p0)] rfl rfl rfl rfl (Nat.le_of_ble_eq_true rfl) ?_
  intro p e R s m args below meth c A b
  unfold w_Jx4a65c_add_9ea2d_X0 at h
  refine z_aload_n b dJx4a65c_add_9ea2d_0 rfl rfl ?_
  refine z_dup b dJx4a65c_add_9ea2d_1 rfl ?_
  obtain ⟨i1, f2, f3, f4, g5, h⟩ := h
  refine z_getS (q0 := 47 + i1) (k9 := 0) (v := .int f2) b (kw_dyn cy a rw S g5) rfl in_Jx4a65c (by decide) wf_Jx4a65c_63 wsf_mod rfl dJx4a65c_add_9ea2d_2 ?_
  refine z_iconst (v := 1) b dJx4a65c_add_9ea2d_5 (by decide) ?_
  refine z_iadd b dJx4a65c_add_9ea2d_6 rfl ?_
  obtain ⟨i6, f7, f8, f9, g10, h⟩ := h
  refine z_putS (q0 := 47 + i6) (k9 := 0) tyJx4a65c b (kw_dyn cy a rw S g10) rfl in_Jx4a65c tyJx4a65c_ok nmJx4a65c (by decide) wf_Jx4a65c_63 wsf_mod rfl rfl rfl rfl (Nat.le_of_ble_eq_true rfl) dJx4a65c_add_9ea2d_7 (kw_dset cy a rw S i6 (p9, .inr (0, [.int (f2 + 1), .ref f8, .int f9]))) ?_
  refine z_aload_n b dJx4a65c_add_9ea2d_10 rfl rfl ?_
  refine z_aload_n b dJx4a65c_add_9ea2d_11 rfl rfl ?_
  refine z_aload_n b dJx4a65c_add_9ea2d_12 rfl rfl ?_
  obtain ⟨i11, f12, f13, f14, g15, h⟩ := h
  refine z_get (q0 := 47 + i11) (k9 := 1) (v := .ref f13) b (kw_dyn cy a rw (ksL S (S.2.2.2.set i6 (p9, .inr (0, [.int (f2 + 1), .ref f8, .int f9])))) g15) rfl in_Jx4a65c (by decide) wf_Jx4a65c_9 rfl dJx4a65c_add_9ea2d_13 ?_
  refine z_aload_n b dJx4a65c_add_9ea2d_16 rfl rfl ?_
  obtain ⟨i16, f17, f18, f19, g20, h⟩ := h
  refine z_get (q0 := 47 + i16) (k9 := 2) (v := .int f19) b (kw_dyn cy a rw (ksL S (S.2.2.2.set i6 (p9, .inr (0, [.int (f2 + 1), .ref f8, .int f9])))) g20) rfl in_Jx4a65c (by decide) wf_Jx4a65c_48 rfl dJx4a65c_add_9ea2d_17 ?_
  obtain ⟨m21, m22, g23, h⟩ := h
  obtain ⟨i24, f25, g26, h⟩ := h
  refine z_callv b (z_runV (q0 := 47 + i24) (As := [.ref p0, .ref f13, .int f19]) (st := []) b (k_Jx4a65c_add_72be8_X0 hrw (ksL S (S.2.2.2.set i6 (p9, .inr (0, [.int (f2 + 1), .ref f8, .int f9])))) p9 p0 f13 f19 _ h) cf_Jx4a65c_add_72be8 (kw_dyn cy a rw (ksL S (S.2.2.2.set i6 (p9, .inr (0, [.int (f2 + 1), .ref f8, .int f9])))) g26) rfl wm_Jx4a65c_131 wi_Jx4a65c_add_72be8 ws_Jx4a65c_add_72be8 dJx4a65c_add_9ea2d_20 rfl (Nat.le_of_ble_eq_true rfl) ⟨by decide, by decide, g23.1, g23.2⟩) (fun S28 h => ?_)
  refine z_iconst (v := 1) b dJx4a65c_add_9ea2d_23 (by decide) ?_
  obtain ⟨g29, h⟩ := h
  exact z_zret (u := S28) b rfl (by decide) dJx4a65c_add_9ea2d_24 h rfl g29.1 g29.2

def w_X5_readAct_B182 (cy : Nat → ClassId) (tE : Nat) (mc ms : Nat) (post : Int32 → KS → Prop) (k93 : KS → Nat → Nat → Nat → Int32 → Prop) (k188 : KS → Nat → Nat → Nat → Prop) (S : KS) (nc : Nat) (ns : Nat) (x1 : Nat) (x2 : Int32) : Prop :=
  k93 S nc ns x1 (x2 + 1)

set_option maxHeartbeats 4000000 in
set_option maxRecDepth 100000 in
theorem z_X5_readAct_B182 {p : Program} {l : Launch} {e : Env} {R : Room} {s : State} {m : MethodId} {args : Array Value} {below : List Frame} {meth : Method} {c : Code} {D : va_G} {cy : Nat → ClassId} {T0 tB tE : Nat} {A : Nat → Prop} {a : Nat → Nat} {rw : Nat → Option Nat} (hrw : ∀ i, i < 6 → rw i = some (a (12 + 2 * i))) {mc ms : Nat} {post : Int32 → KS → Prop} {k93 : KS → Nat → Nat → Nat → Int32 → Prop} {k188 : KS → Nat → Nat → Nat → Prop} (b : Bz p R s m args meth c D cy T0 tB tE A 3 cX5_readAct RX5 (some .boolean) "readAct" 36 825 mc ms) (hk93 : ∀ (S : KS) (nc : Nat) (ns : Nat) (x1 : Nat) (x2 : Int32), k93 S nc ns x1 x2 → Z p l e R s m args below meth c D A 3 (MQ below (QI D (U := KS) post (kw cy a rw) A) args s mc ms A) nc ns (kw cy a rw S) [(0, .ref (a 26)), (1, .ref x1), (2, .int x2)] 93 []) (hk188 : ∀ (S : KS) (nc : Nat) (ns : Nat) (x1 : Nat), k188 S nc ns x1 → Z p l e R s m args below meth c D A 3 (MQ below (QI D (U := KS) post (kw cy a rw) A) args s mc ms A) nc ns (kw cy a rw S) [(0, .ref (a 26)), (1, .ref x1)] 188 []) (S : KS) (nc : Nat) (ns : Nat) (x1 : Nat) (x2 : Int32) (h : w_X5_readAct_B182 cy tE mc ms post k93 k188 S nc ns x1 x2) : Z p l e R s m args below meth c D A 3 (MQ below (QI D (U := KS) post (kw cy a rw) A) args s mc ms A) nc ns (kw cy a rw S) [(0, .ref (a 26)), (1, .ref x1), (2, .int x2)] 182 [] := by
  unfold w_X5_readAct_B182 at h
  refine z_iinc (k9 := 2) (v := (x2 + 1)) (lv' := [(2, .int (x2 + 1)), (0, .ref (a 26)), (1, .ref x1)]) b dX5_readAct_182 rfl rfl (by decide) rfl ?_
  refine z_goto (tgt := 93) b dX5_readAct_185 (by decide) ?_
  refine z_lv0 (lv' := [(0, .ref (a 26)), (1, .ref x1), (2, .int (x2 + 1))]) [1, 2, 0] rfl ?_
  exact hk93 _ _ _ _ _ h

def w_X5_readAct_F93 (cy : Nat → ClassId) (tE : Nat) (mc ms : Nat) (post : Int32 → KS → Prop) (k188 : KS → Nat → Nat → Nat → Prop) (k93 : KS → Nat → Nat → Nat → Int32 → Prop) (S : KS) (nc : Nat) (ns : Nat) (x1 : Nat) (x2 : Int32) : Prop :=
  ((10 < x2.toInt → k188 S nc ns x1) ∧ (x2.toInt ≤ 10 → (nc ≤ mc ∧ ns ≤ ms) ∧ w_X5_kind cy tE S (fun r31 S32 => ((r31.toInt = 23 → k188 S32 nc ns x1) ∧ (r31.toInt ≠ 23 → (nc ≤ mc ∧ ns ≤ ms) ∧ w_X5_kind cy tE S32 (fun r34 S35 => ((r34.toInt = 5 → ∃ (i36 : Nat) (f37 : Int64) (f38 : Nat) (f39 : Nat) (f40 : Int32) (f41 : Int32), S35.2.2.2[i36]? = some (x1, .inr (1, [.long f37, .ref f38, .ref f39, .int f40, .int f41])) ∧ (nc ≤ mc ∧ ns ≤ ms) ∧ ∃ (i44 : Nat) (f45 : List Value), S35.2.2.2[i44]? = some (f38, .inr (0, f45)) ∧ w_Jx4a65c_size_8abf5 cy tE S35 f38 (fun r47 S48 => ((r47.toInt < 4 → (nc ≤ mc ∧ ns ≤ ms) ∧ w_X5_readEither cy tE (ksi (ksi S48 15 ((fi S48.1 15) + 1)) 16 0) 0 (fun r50 S51 => ((r50.toInt ≠ 0 → ∃ (i52 : Nat) (f53 : Int64) (f54 : Nat) (f55 : Nat) (f56 : Int32) (f57 : Int32), S51.2.2.2[i52]? = some (x1, .inr (1, [.long f53, .ref f54, .ref f55, .int f56, .int f57])) ∧ ∃ m59 m60 : Nat, (nc + m59 ≤ mc ∧ ns + m60 ≤ ms) ∧ w_X5_clause cy tE m59 m60 S51 5 0 (fun r62 S63 => ∃ q64 : Nat, r62 = some q64 ∧ ∃ m66 m67 : Nat, ((nc + m59) + m66 ≤ mc ∧ (ns + m60) + m67 ≤ ms) ∧ ∃ (i69 : Nat) (f70 : List Value), S63.2.2.2[i69]? = some (f54, .inr (0, f70)) ∧ w_Jx4a65c_add_9ea2d_X1 cy tE m66 m67 S63 f54 q64 (fun r72 S73 => w_X5_readAct_B182 cy tE mc ms post k93 k188 S73 ((nc + m59) + m66) ((ns + m60) + m67) x1 x2))) ∧ (r50.toInt = 0 → (nc ≤ mc ∧ ns ≤ ms) ∧ post 0 S51)))) ∧ (4 ≤ r47.toInt → (nc ≤ mc ∧ ns ≤ ms) ∧ w_X5_refuse cy tE S48 3 (fun r76 S77 => (r76 = 0 ∨ r76 = 1) ∧ (nc ≤ mc ∧ ns ≤ ms) ∧ post r76 S77))))) ∧ (r34.toInt ≠ 5 → ∃ m80 m81 : Nat, (nc + m80 ≤ mc ∧ ns + m81 ≤ ms) ∧ w_X5_readMake cy tE m80 m81 S35 x1 (fun r83 S84 => ((r83.toInt ≠ 0 → w_X5_readAct_B182 cy tE mc ms post k93 k188 S84 (nc + m80) (ns + m81) x1 x2) ∧ (r83.toInt = 0 → ((nc + m80) ≤ mc ∧ (ns + m81) ≤ ms) ∧ post 0 S84)))))))))))

set_option maxHeartbeats 4000000 in
set_option maxRecDepth 100000 in
theorem z_X5_readAct_F93 {p : Program} {l : Launch} {e : Env} {R : Room} {s : State} {m : MethodId} {args : Array Value} {below : List Frame} {meth : Method} {c : Code} {D : va_G} {cy : Nat → ClassId} {T0 tB tE : Nat} {A : Nat → Prop} {a : Nat → Nat} {rw : Nat → Option Nat} (hrw : ∀ i, i < 6 → rw i = some (a (12 + 2 * i))) {mc ms : Nat} {post : Int32 → KS → Prop} {k188 : KS → Nat → Nat → Nat → Prop} {k93 : KS → Nat → Nat → Nat → Int32 → Prop} (b : Bz p R s m args meth c D cy T0 tB tE A 3 cX5_readAct RX5 (some .boolean) "readAct" 36 825 mc ms) (hk188 : ∀ (S : KS) (nc : Nat) (ns : Nat) (x1 : Nat), k188 S nc ns x1 → Z p l e R s m args below meth c D A 3 (MQ below (QI D (U := KS) post (kw cy a rw) A) args s mc ms A) nc ns (kw cy a rw S) [(0, .ref (a 26)), (1, .ref x1)] 188 []) (hk93 : ∀ (S : KS) (nc : Nat) (ns : Nat) (x1 : Nat) (x2 : Int32), k93 S nc ns x1 x2 → Z p l e R s m args below meth c D A 3 (MQ below (QI D (U := KS) post (kw cy a rw) A) args s mc ms A) nc ns (kw cy a rw S) [(0, .ref (a 26)), (1, .ref x1), (2, .int x2)] 93 []) (S : KS) (nc : Nat) (ns : Nat) (x1 : Nat) (x2 : Int32) (h : w_X5_readAct_F93 cy tE mc ms post k188 k93 S nc ns x1 x2) : Z p l e R s m args below meth c D A 3 (MQ below (QI D (U := KS) post (kw cy a rw) A) args s mc ms A) nc ns (kw cy a rw S) [(0, .ref (a 26)), (1, .ref x1), (2, .int x2)] 93 [] := by
  unfold w_X5_readAct_F93 at h
  refine z_iload_n b dX5_readAct_93 rfl rfl ?_
  refine z_bipush (v := 10) b dX5_readAct_94 (by decide) ?_
  refine y_icmp_gt (tgt := 188) (xl := x2.toInt) (yl := 10) b rfl (by decide) dX5_readAct_96 (by decide) (fun c1 => ?_) (fun c1 => ?_)
  · replace h := h.1 c1
    refine z_lv0 (lv' := [(0, .ref (a 26)), (1, .ref x1)]) [0, 1] rfl ?_
    exact hk188 _ _ _ _ h
  · replace h := h.2 c1
    refine z_aload_n b dX5_readAct_99 rfl rfl ?_
    obtain ⟨g30, h⟩ := h
    refine z_calli b (z_runV (q0 := 26) (As := []) (st := []) b (k_X5_kind hrw S _ h) cf_X5_kind (kw_26 cy a rw S) rfl wm_X5_66 wi_X5_kind ws_X5_kind dX5_readAct_100 rfl (Nat.le_of_ble_eq_true rfl) ⟨by decide, by decide, g30.1, g30.2⟩) (fun r31 S32 h => ?_)
    refine z_bipush (v := 23) b dX5_readAct_103 (by decide) ?_
    refine y_icmp_eq (tgt := 188) (xl := r31.toInt) (yl := 23) b rfl (by decide) dX5_readAct_105 (by decide) (fun c1 => ?_) (fun c1 => ?_)
    · replace h := h.1 c1
      refine z_lv0 (lv' := [(0, .ref (a 26)), (1, .ref x1)]) [0, 1] rfl ?_
      exact hk188 _ _ _ _ h
    · replace h := h.2 c1
      refine z_aload_n b dX5_readAct_108 rfl rfl ?_
      obtain ⟨g33, h⟩ := h
      refine z_calli b (z_runV (q0 := 26) (As := []) (st := []) b (k_X5_kind hrw S32 _ h) cf_X5_kind (kw_26 cy a rw S32) rfl wm_X5_66 wi_X5_kind ws_X5_kind dX5_readAct_109 rfl (Nat.le_of_ble_eq_true rfl) ⟨by decide, by decide, g33.1, g33.2⟩) (fun r34 S35 h => ?_)
      refine z_iconst (v := 5) b dX5_readAct_112 (by decide) ?_
      refine y_icmp_eq (tgt := 126) (xl := r34.toInt) (yl := 5) b rfl (by decide) dX5_readAct_113 (by decide) (fun c1 => ?_) (fun c1 => ?_)
      · replace h := h.1 c1
        refine z_aload_n b dX5_readAct_126 rfl rfl ?_
        obtain ⟨i36, f37, f38, f39, f40, f41, g42, h⟩ := h
        refine z_get (q0 := 47 + i36) (k9 := 1) (v := .ref f38) b (kw_dyn cy a rw S35 g42) rfl in_X0 (by decide) wf_X5_109 rfl dX5_readAct_127 ?_
        obtain ⟨g43, h⟩ := h
        obtain ⟨i44, f45, g46, h⟩ := h
        refine z_calli b (z_runV (q0 := 47 + i44) (As := []) (st := []) b (k_Jx4a65c_size_8abf5 hrw S35 f38 _ h) cf_Jx4a65c_size_8abf5 (kw_dyn cy a rw S35 g46) rfl wm_X5_85 wi_Jx4a65c_size_8abf5 ws_Jx4a65c_size_8abf5 dX5_readAct_130 rfl (Nat.le_of_ble_eq_true rfl) ⟨by decide, by decide, g43.1, g43.2⟩) (fun r47 S48 h => ?_)
        refine z_iconst (v := 4) b dX5_readAct_133 (by decide) ?_
        refine y_icmp_lt (tgt := 143) (xl := r47.toInt) (yl := 4) b rfl (by decide) dX5_readAct_134 (by decide) (fun c1 => ?_) (fun c1 => ?_)
        · replace h := h.1 c1
          refine z_aload_n b dX5_readAct_143 rfl rfl ?_
          refine z_dup b dX5_readAct_144 rfl ?_
          refine z_get (q0 := 26) (k9 := 1) (v := .int (fi S48.1 15)) b (kw_26 cy a rw S48) rfl in_X5 (by decide) wf_X5_18 rfl dX5_readAct_145 ?_
          refine z_iconst (v := 1) b dX5_readAct_148 (by decide) ?_
          refine z_iadd b dX5_readAct_149 rfl ?_
          refine z_put (q0 := 26) (k9 := 1) tyX5 b (kw_26 cy a rw S48) rfl in_X5 tyX5_ok nmX5 (by decide) wf_X5_18 rfl rfl rfl rfl (Nat.le_of_ble_eq_true rfl) dX5_readAct_150 (kwp_26_1 cy a rw S48 ((fi S48.1 15) + 1)) ?_
          refine z_aload_n b dX5_readAct_153 rfl rfl ?_
          refine z_iconst (v := 0) b dX5_readAct_154 (by decide) ?_
          refine z_put (q0 := 26) (k9 := 3) tyX5 b (kw_26 cy a rw (ksi S48 15 ((fi S48.1 15) + 1))) rfl in_X5 tyX5_ok nmX5 (by decide) wf_X5_26 rfl rfl rfl rfl (Nat.le_of_ble_eq_true rfl) dX5_readAct_155 (kwp_26_3 cy a rw (ksi S48 15 ((fi S48.1 15) + 1)) 0) ?_
          refine z_aload_n b dX5_readAct_158 rfl rfl ?_
          refine z_iconst (v := 0) b dX5_readAct_159 (by decide) ?_
          obtain ⟨g49, h⟩ := h
          refine z_calli b (z_runV (q0 := 26) (As := [.int 0]) (st := []) b (k_X5_readEither hrw (ksi (ksi S48 15 ((fi S48.1 15) + 1)) 16 0) 0 _ h) cf_X5_readEither (kw_26 cy a rw (ksi (ksi S48 15 ((fi S48.1 15) + 1)) 16 0)) rfl wm_X5_112 wi_X5_readEither ws_X5_readEither dX5_readAct_160 rfl (Nat.le_of_ble_eq_true rfl) ⟨by decide, by decide, g49.1, g49.2⟩) (fun r50 S51 h => ?_)
          refine y_if_ne (tgt := 168) (xl := r50.toInt) b rfl dX5_readAct_163 (by decide) (fun c1 => ?_) (fun c1 => ?_)
          · replace h := h.1 c1
            refine z_aload_n b dX5_readAct_168 rfl rfl ?_
            obtain ⟨i52, f53, f54, f55, f56, f57, g58, h⟩ := h
            refine z_get (q0 := 47 + i52) (k9 := 1) (v := .ref f54) b (kw_dyn cy a rw S51 g58) rfl in_X0 (by decide) wf_X5_109 rfl dX5_readAct_169 ?_
            refine z_aload_n b dX5_readAct_172 rfl rfl ?_
            refine z_iconst (v := 5) b dX5_readAct_173 (by decide) ?_
            refine z_iconst (v := 0) b dX5_readAct_174 (by decide) ?_
            obtain ⟨m59, m60, g61, h⟩ := h
            refine z_callq b (z_runV (q0 := 26) (As := [.int 5, .int 0]) (st := [.ref f54]) b (k_X5_clause hrw S51 5 0 _ h) cf_X5_clause (kw_26 cy a rw S51) rfl wm_X5_115 wi_X5_clause ws_X5_clause dX5_readAct_175 rfl (Nat.le_of_ble_eq_true rfl) ⟨by decide, by decide, g61.1, g61.2⟩) (fun r62 S63 h => ?_)
            obtain ⟨q64, g65, h⟩ := h
            subst g65
            obtain ⟨m66, m67, g68, h⟩ := h
            obtain ⟨i69, f70, g71, h⟩ := h
            refine z_calli b (z_runV (q0 := 47 + i69) (As := [.ref q64]) (st := []) b (k_Jx4a65c_add_9ea2d_X1 hrw S63 f54 q64 _ h) cf_Jx4a65c_add_9ea2d (kw_dyn cy a rw S63 g71) rfl wm_X5_119 wi_Jx4a65c_add_9ea2d ws_Jx4a65c_add_9ea2d dX5_readAct_178 rfl (Nat.le_of_ble_eq_true rfl) ⟨by decide, by decide, g68.1, g68.2⟩) (fun r72 S73 h => ?_)
            refine z_pop b dX5_readAct_181 rfl ?_
            exact z_X5_readAct_B182 hrw b hk93 hk188 _ _ _ _ _ h
          · replace h := h.2 c1
            refine z_iconst (v := 0) b dX5_readAct_166 (by decide) ?_
            obtain ⟨g74, h⟩ := h
            exact z_zret (u := S51) b rfl (by decide) dX5_readAct_167 h rfl g74.1 g74.2
        · replace h := h.2 c1
          refine z_aload_n b dX5_readAct_137 rfl rfl ?_
          refine z_iconst (v := 3) b dX5_readAct_138 (by decide) ?_
          obtain ⟨g75, h⟩ := h
          refine z_calli b (z_runV (q0 := 26) (As := [.int 3]) (st := []) b (k_X5_refuse hrw S48 3 _ h) cf_X5_refuse (kw_26 cy a rw S48) rfl wm_X5_70 wi_X5_refuse ws_X5_refuse dX5_readAct_139 rfl (Nat.le_of_ble_eq_true rfl) ⟨by decide, by decide, g75.1, g75.2⟩) (fun r76 S77 h => ?_)
          obtain ⟨g78, h⟩ := h
          obtain ⟨g79, h⟩ := h
          exact z_zret (u := S77) b rfl (z_bool g78) dX5_readAct_142 h rfl g79.1 g79.2
      · replace h := h.2 c1
        refine z_aload_n b dX5_readAct_116 rfl rfl ?_
        refine z_aload_n b dX5_readAct_117 rfl rfl ?_
        obtain ⟨m80, m81, g82, h⟩ := h
        refine z_calli b (z_runV (q0 := 26) (As := [.ref x1]) (st := []) b (k_X5_readMake hrw S35 x1 _ h) cf_X5_readMake (kw_26 cy a rw S35) rfl wm_X5_105 wi_X5_readMake ws_X5_readMake dX5_readAct_118 rfl (Nat.le_of_ble_eq_true rfl) ⟨by decide, by decide, g82.1, g82.2⟩) (fun r83 S84 h => ?_)
        refine y_if_ne (tgt := 182) (xl := r83.toInt) b rfl dX5_readAct_121 (by decide) (fun c1 => ?_) (fun c1 => ?_)
        · replace h := h.1 c1
          exact z_X5_readAct_B182 hrw b hk93 hk188 _ _ _ _ _ h
        · replace h := h.2 c1
          refine z_iconst (v := 0) b dX5_readAct_124 (by decide) ?_
          obtain ⟨g85, h⟩ := h
          exact z_zret (u := S84) b rfl (by decide) dX5_readAct_125 h rfl g85.1 g85.2

set_option maxHeartbeats 4000000 in
set_option maxRecDepth 100000 in
theorem zl_X5_readAct_L93 {p : Program} {l : Launch} {e : Env} {R : Room} {s : State} {m : MethodId} {args : Array Value} {below : List Frame} {meth : Method} {c : Code} {D : va_G} {cy : Nat → ClassId} {T0 tB tE : Nat} {A : Nat → Prop} {a : Nat → Nat} {rw : Nat → Option Nat} (hrw : ∀ i, i < 6 → rw i = some (a (12 + 2 * i))) {mc ms : Nat} {post : Int32 → KS → Prop} {k188 : KS → Nat → Nat → Nat → Prop} (b : Bz p R s m args meth c D cy T0 tB tE A 3 cX5_readAct RX5 (some .boolean) "readAct" 36 825 mc ms) (hk188 : ∀ (S : KS) (nc : Nat) (ns : Nat) (x1 : Nat), k188 S nc ns x1 → Z p l e R s m args below meth c D A 3 (MQ below (QI D (U := KS) post (kw cy a rw) A) args s mc ms A) nc ns (kw cy a rw S) [(0, .ref (a 26)), (1, .ref x1)] 188 []) : ∀ (n : Nat) (S : KS) (nc : Nat) (ns : Nat) (x1 : Nat) (x2 : Int32), lpn (w_X5_readAct_F93 cy tE mc ms post k188) (fun _ _ _ _ _ => False) n S nc ns x1 x2 → Z p l e R s m args below meth c D A 3 (MQ below (QI D (U := KS) post (kw cy a rw) A) args s mc ms A) nc ns (kw cy a rw S) [(0, .ref (a 26)), (1, .ref x1), (2, .int x2)] 93 [] := by
  intro n
  induction n with
  | zero => intro _ _ _ _ _ h; exact h.elim
  | succ n ih => intro S nc ns x1 x2 h; exact z_X5_readAct_F93 hrw b hk188 ih S nc ns x1 x2 h

def w_X5_readAct_B188 (cy : Nat → ClassId) (tE : Nat) (mc ms : Nat) (post : Int32 → KS → Prop) (S : KS) (nc : Nat) (ns : Nat) (x1 : Nat) : Prop :=
  ((fi S.1 17) = 0 ∨ (fi S.1 17) = 1) ∧ ∃ (i87 : Nat) (f88 : Int64) (f89 : Nat) (f90 : Nat) (f91 : Int32) (f92 : Int32), S.2.2.2[i87]? = some (x1, .inr (1, [.long f88, .ref f89, .ref f90, .int f91, .int f92])) ∧ ((fi S.1 18) = 0 ∨ (fi S.1 18) = 1) ∧ ∃ (i95 : Nat) (f96 : Int64) (f97 : Nat) (f98 : Nat) (f99 : Int32) (f100 : Int32), (S.2.2.2.set i87 (x1, .inr (1, [.long f88, .ref f89, .ref f90, .int (fi S.1 17), .int f92])))[i95]? = some (x1, .inr (1, [.long f96, .ref f97, .ref f98, .int f99, .int f100])) ∧ ∃ m102 m103 : Nat, (nc + m102 ≤ mc ∧ ns + m103 ≤ ms) ∧ ∃ (i105 : Nat) (f106 : List Value), ((S.2.2.2.set i87 (x1, .inr (1, [.long f88, .ref f89, .ref f90, .int (fi S.1 17), .int f92]))).set i95 (x1, .inr (1, [.long f96, .ref f97, .ref f98, .int f99, .int (fi S.1 18)])))[i105]? = some ((S.2.1 0), .inr (0, f106)) ∧ w_Jx4a65c_add_9ea2d_X0 cy tE m102 m103 (ksL (ksL (ksi S 15 ((fi S.1 15) + 1)) (S.2.2.2.set i87 (x1, .inr (1, [.long f88, .ref f89, .ref f90, .int (fi S.1 17), .int f92])))) ((S.2.2.2.set i87 (x1, .inr (1, [.long f88, .ref f89, .ref f90, .int (fi S.1 17), .int f92]))).set i95 (x1, .inr (1, [.long f96, .ref f97, .ref f98, .int f99, .int (fi S.1 18)])))) (S.2.1 0) x1 (fun r108 S109 => ((nc + m102) ≤ mc ∧ (ns + m103) ≤ ms) ∧ post 1 S109)

set_option maxHeartbeats 4000000 in
set_option maxRecDepth 100000 in
theorem z_X5_readAct_B188 {p : Program} {l : Launch} {e : Env} {R : Room} {s : State} {m : MethodId} {args : Array Value} {below : List Frame} {meth : Method} {c : Code} {D : va_G} {cy : Nat → ClassId} {T0 tB tE : Nat} {A : Nat → Prop} {a : Nat → Nat} {rw : Nat → Option Nat} (hrw : ∀ i, i < 6 → rw i = some (a (12 + 2 * i))) {mc ms : Nat} {post : Int32 → KS → Prop} (b : Bz p R s m args meth c D cy T0 tB tE A 3 cX5_readAct RX5 (some .boolean) "readAct" 36 825 mc ms) (S : KS) (nc : Nat) (ns : Nat) (x1 : Nat) (h : w_X5_readAct_B188 cy tE mc ms post S nc ns x1) : Z p l e R s m args below meth c D A 3 (MQ below (QI D (U := KS) post (kw cy a rw) A) args s mc ms A) nc ns (kw cy a rw S) [(0, .ref (a 26)), (1, .ref x1)] 188 [] := by
  unfold w_X5_readAct_B188 at h
  refine z_aload_n b dX5_readAct_188 rfl rfl ?_
  refine z_dup b dX5_readAct_189 rfl ?_
  refine z_get (q0 := 26) (k9 := 1) (v := .int (fi S.1 15)) b (kw_26 cy a rw S) rfl in_X5 (by decide) wf_X5_18 rfl dX5_readAct_190 ?_
  refine z_iconst (v := 1) b dX5_readAct_193 (by decide) ?_
  refine z_iadd b dX5_readAct_194 rfl ?_
  refine z_put (q0 := 26) (k9 := 1) tyX5 b (kw_26 cy a rw S) rfl in_X5 tyX5_ok nmX5 (by decide) wf_X5_18 rfl rfl rfl rfl (Nat.le_of_ble_eq_true rfl) dX5_readAct_195 (kwp_26_1 cy a rw S ((fi S.1 15) + 1)) ?_
  refine z_aload_n b dX5_readAct_198 rfl rfl ?_
  refine z_aload_n b dX5_readAct_199 rfl rfl ?_
  refine z_get (q0 := 26) (k9 := 4) (v := .int (fi S.1 17)) b (kw_26 cy a rw (ksi S 15 ((fi S.1 15) + 1))) rfl in_X5 (by decide) wf_X5_29 rfl dX5_readAct_200 ?_
  obtain ⟨g86, h⟩ := h
  obtain ⟨i87, f88, f89, f90, f91, f92, g93, h⟩ := h
  refine z_put (q0 := 47 + i87) (k9 := 3) tyX0 b (kw_dyn cy a rw (ksi S 15 ((fi S.1 15) + 1)) g93) rfl in_X0 tyX0_ok nmX0 (by decide) wf_X5_123 rfl rfl (z_bool g86) (z_boolf g86) (Nat.le_of_ble_eq_true rfl) dX5_readAct_203 (kw_dset cy a rw (ksi S 15 ((fi S.1 15) + 1)) i87 (x1, .inr (1, [.long f88, .ref f89, .ref f90, .int (fi S.1 17), .int f92]))) ?_
  refine z_aload_n b dX5_readAct_206 rfl rfl ?_
  refine z_aload_n b dX5_readAct_207 rfl rfl ?_
  refine z_get (q0 := 26) (k9 := 5) (v := .int (fi S.1 18)) b (kw_26 cy a rw (ksL (ksi S 15 ((fi S.1 15) + 1)) (S.2.2.2.set i87 (x1, .inr (1, [.long f88, .ref f89, .ref f90, .int (fi S.1 17), .int f92]))))) rfl in_X5 (by decide) wf_X5_33 rfl dX5_readAct_208 ?_
  obtain ⟨g94, h⟩ := h
  obtain ⟨i95, f96, f97, f98, f99, f100, g101, h⟩ := h
  refine z_put (q0 := 47 + i95) (k9 := 4) tyX0 b (kw_dyn cy a rw (ksL (ksi S 15 ((fi S.1 15) + 1)) (S.2.2.2.set i87 (x1, .inr (1, [.long f88, .ref f89, .ref f90, .int (fi S.1 17), .int f92])))) g101) rfl in_X0 tyX0_ok nmX0 (by decide) wf_X5_126 rfl rfl (z_bool g94) (z_boolf g94) (Nat.le_of_ble_eq_true rfl) dX5_readAct_211 (kw_dset cy a rw (ksL (ksi S 15 ((fi S.1 15) + 1)) (S.2.2.2.set i87 (x1, .inr (1, [.long f88, .ref f89, .ref f90, .int (fi S.1 17), .int f92])))) i95 (x1, .inr (1, [.long f96, .ref f97, .ref f98, .int f99, .int (fi S.1 18)]))) ?_
  refine z_aload_n b dX5_readAct_214 rfl rfl ?_
  refine z_get (q0 := 26) (k9 := 6) (v := .ref (S.2.1 0)) b (kw_26 cy a rw (ksL (ksL (ksi S 15 ((fi S.1 15) + 1)) (S.2.2.2.set i87 (x1, .inr (1, [.long f88, .ref f89, .ref f90, .int (fi S.1 17), .int f92])))) ((S.2.2.2.set i87 (x1, .inr (1, [.long f88, .ref f89, .ref f90, .int (fi S.1 17), .int f92]))).set i95 (x1, .inr (1, [.long f96, .ref f97, .ref f98, .int f99, .int (fi S.1 18)]))))) rfl in_X5 (by decide) wf_X5_39 rfl dX5_readAct_215 ?_
  refine z_aload_n b dX5_readAct_218 rfl rfl ?_
  obtain ⟨m102, m103, g104, h⟩ := h
  obtain ⟨i105, f106, g107, h⟩ := h
  refine z_calli b (z_runV (q0 := 47 + i105) (As := [.ref x1]) (st := []) b (k_Jx4a65c_add_9ea2d_X0 hrw (ksL (ksL (ksi S 15 ((fi S.1 15) + 1)) (S.2.2.2.set i87 (x1, .inr (1, [.long f88, .ref f89, .ref f90, .int (fi S.1 17), .int f92])))) ((S.2.2.2.set i87 (x1, .inr (1, [.long f88, .ref f89, .ref f90, .int (fi S.1 17), .int f92]))).set i95 (x1, .inr (1, [.long f96, .ref f97, .ref f98, .int f99, .int (fi S.1 18)])))) (S.2.1 0) x1 _ h) cf_Jx4a65c_add_9ea2d (kw_dyn cy a rw (ksL (ksL (ksi S 15 ((fi S.1 15) + 1)) (S.2.2.2.set i87 (x1, .inr (1, [.long f88, .ref f89, .ref f90, .int (fi S.1 17), .int f92])))) ((S.2.2.2.set i87 (x1, .inr (1, [.long f88, .ref f89, .ref f90, .int (fi S.1 17), .int f92]))).set i95 (x1, .inr (1, [.long f96, .ref f97, .ref f98, .int f99, .int (fi S.1 18)])))) g107) rfl wm_X5_119 wi_Jx4a65c_add_9ea2d ws_Jx4a65c_add_9ea2d dX5_readAct_219 rfl (Nat.le_of_ble_eq_true rfl) ⟨by decide, by decide, g104.1, g104.2⟩) (fun r108 S109 h => ?_)
  refine z_pop b dX5_readAct_222 rfl ?_
  refine z_iconst (v := 1) b dX5_readAct_223 (by decide) ?_
  obtain ⟨g110, h⟩ := h
  exact z_zret (u := S109) b rfl (by decide) dX5_readAct_224 h rfl g110.1 g110.2

def w_X5_readAct (cy : Nat → ClassId) (tE : Nat) (mc ms : Nat) (S : KS)  (post : Int32 → KS → Prop) : Prop :=
  (0 ≤ mc ∧ 0 ≤ ms) ∧ ∃ (i2 : Nat) (f3 : List Value), S.2.2.2[i2]? = some ((S.2.1 0), .inr (0, f3)) ∧ w_Jx4a65c_size_8abf5 cy tE S (S.2.1 0) (fun r5 S6 => ((r5.toInt < 6 → (0 ≤ mc ∧ 0 ≤ ms) ∧ w_X5_kind cy tE (ksi S6 15 ((fi S6.1 15) + 1)) (fun r8 S9 => ((r8.toInt = 3 → (0 + 1 ≤ mc ∧ 0 + 5 ≤ ms) ∧ ∀ q11 : Nat, ((0 + 1) ≤ mc ∧ (0 + 5) ≤ ms) ∧ w_X5_value cy tE (ksL S9 (S9.2.2.2 ++ [(q11, .inr (1, [.long 0, .null, .null, .int 0, .int 0]))])) (fun r13 S14 => ∃ m15 m16 : Nat, ((0 + 1) + m15 ≤ mc ∧ (0 + 5) + m16 ≤ ms) ∧ w_X0_init cy tE m15 m16 S14 q11 r13 (fun S19 => ∃ (i20 : Nat) (f21 : Int64) (f22 : Nat) (f23 : Nat) (f24 : Int32) (f25 : Int32), S19.2.2.2[i20]? = some (q11, .inr (1, [.long f21, .ref f22, .ref f23, .int f24, .int f25])) ∧ (((0 + 1) + m15) ≤ mc ∧ ((0 + 5) + m16) ≤ ms) ∧ w_X5_isNamed cy tE S19 f21 (fun r28 S29 => ((r28.toInt = 0 → ∃ n, lpn (w_X5_readAct_F93 cy tE mc ms post (w_X5_readAct_B188 cy tE mc ms post)) (fun _ _ _ _ _ => False) n (ksi (ksi (ksi S29 15 ((fi S29.1 15) + 1)) 17 0) 18 0) ((0 + 1) + m15) ((0 + 5) + m16) q11 0) ∧ (r28.toInt ≠ 0 → (((0 + 1) + m15) ≤ mc ∧ ((0 + 5) + m16) ≤ ms) ∧ w_X5_refuse cy tE S29 2 (fun r112 S113 => (r112 = 0 ∨ r112 = 1) ∧ (((0 + 1) + m15) ≤ mc ∧ ((0 + 5) + m16) ≤ ms) ∧ post r112 S113))))))) ∧ (r8.toInt ≠ 3 → (0 ≤ mc ∧ 0 ≤ ms) ∧ w_X5_refuse cy tE S9 1 (fun r117 S118 => (r117 = 0 ∨ r117 = 1) ∧ (0 ≤ mc ∧ 0 ≤ ms) ∧ post r117 S118))))) ∧ (6 ≤ r5.toInt → (0 ≤ mc ∧ 0 ≤ ms) ∧ w_X5_refuse cy tE S6 3 (fun r122 S123 => (r122 = 0 ∨ r122 = 1) ∧ (0 ≤ mc ∧ 0 ≤ ms) ∧ post r122 S123))))

set_option maxHeartbeats 4000000 in
set_option maxRecDepth 100000 in
theorem k_X5_readAct {l : Launch} {D : va_G} {cy : Nat → ClassId} {T0 tB tE : Nat} {a : Nat → Nat} {rw : Nat → Option Nat} (hrw : ∀ i, i < 6 → rw i = some (a (12 + 2 * i))) {mc ms : Nat} (S : KS)  (post : Int32 → KS → Prop) (h : w_X5_readAct cy tE mc ms S  post) : Ct l D cy T0 tB tE yX5_readAct cX5_readAct 3 (some .boolean) 36 825 mc ms (kw cy a rw S) [.ref (a 26)] (QI D (U := KS) post (kw cy a rw)) := by
  refine Ct.ofZ RX5 "readAct" [(0, .ref (a 26))] rfl rfl rfl rfl (Nat.le_of_ble_eq_true rfl) ?_
  intro p e R s m args below meth c A b
  unfold w_X5_readAct at h
  refine z_aload_n b dX5_readAct_0 rfl rfl ?_
  refine z_get (q0 := 26) (k9 := 6) (v := .ref (S.2.1 0)) b (kw_26 cy a rw S) rfl in_X5 (by decide) wf_X5_39 rfl dX5_readAct_1 ?_
  obtain ⟨g1, h⟩ := h
  obtain ⟨i2, f3, g4, h⟩ := h
  refine z_calli b (z_runV (q0 := 47 + i2) (As := []) (st := []) b (k_Jx4a65c_size_8abf5 hrw S (S.2.1 0) _ h) cf_Jx4a65c_size_8abf5 (kw_dyn cy a rw S g4) rfl wm_X5_85 wi_Jx4a65c_size_8abf5 ws_Jx4a65c_size_8abf5 dX5_readAct_4 rfl (Nat.le_of_ble_eq_true rfl) ⟨by decide, by decide, g1.1, g1.2⟩) (fun r5 S6 h => ?_)
  refine z_bipush (v := 6) b dX5_readAct_7 (by decide) ?_
  refine y_icmp_lt (tgt := 18) (xl := r5.toInt) (yl := 6) b rfl (by decide) dX5_readAct_9 (by decide) (fun c1 => ?_) (fun c1 => ?_)
  · replace h := h.1 c1
    refine z_aload_n b dX5_readAct_18 rfl rfl ?_
    refine z_dup b dX5_readAct_19 rfl ?_
    refine z_get (q0 := 26) (k9 := 1) (v := .int (fi S6.1 15)) b (kw_26 cy a rw S6) rfl in_X5 (by decide) wf_X5_18 rfl dX5_readAct_20 ?_
    refine z_iconst (v := 1) b dX5_readAct_23 (by decide) ?_
    refine z_iadd b dX5_readAct_24 rfl ?_
    refine z_put (q0 := 26) (k9 := 1) tyX5 b (kw_26 cy a rw S6) rfl in_X5 tyX5_ok nmX5 (by decide) wf_X5_18 rfl rfl rfl rfl (Nat.le_of_ble_eq_true rfl) dX5_readAct_25 (kwp_26_1 cy a rw S6 ((fi S6.1 15) + 1)) ?_
    refine z_aload_n b dX5_readAct_28 rfl rfl ?_
    obtain ⟨g7, h⟩ := h
    refine z_calli b (z_runV (q0 := 26) (As := []) (st := []) b (k_X5_kind hrw (ksi S6 15 ((fi S6.1 15) + 1)) _ h) cf_X5_kind (kw_26 cy a rw (ksi S6 15 ((fi S6.1 15) + 1))) rfl wm_X5_66 wi_X5_kind ws_X5_kind dX5_readAct_29 rfl (Nat.le_of_ble_eq_true rfl) ⟨by decide, by decide, g7.1, g7.2⟩) (fun r8 S9 h => ?_)
    refine z_iconst (v := 3) b dX5_readAct_32 (by decide) ?_
    refine y_icmp_eq (tgt := 42) (xl := r8.toInt) (yl := 3) b rfl (by decide) dX5_readAct_33 (by decide) (fun c1 => ?_) (fun c1 => ?_)
    · replace h := h.1 c1
      obtain ⟨g10, h⟩ := h
      refine z_new (fs := [.long 0, .null, .null, .int 0, .int 0]) (N := 5) (ci := 1) tyX0 b in_X0 tyX0_ok wk_X5_88 wn_X0 w0_X0 rfl tyX0_df g10 dX5_readAct_42 (fun q11 => ?_)
      replace h := h q11
      refine z_wseq (kw_new cy a rw S9 (q11, .inr (1, [.long 0, .null, .null, .int 0, .int 0]))) ?_
      refine z_dup b dX5_readAct_45 rfl ?_
      refine z_aload_n b dX5_readAct_46 rfl rfl ?_
      obtain ⟨g12, h⟩ := h
      refine z_calll b (z_runV (q0 := 26) (As := []) (st := [.ref q11, .ref q11]) b (k_X5_value hrw (ksL S9 (S9.2.2.2 ++ [(q11, .inr (1, [.long 0, .null, .null, .int 0, .int 0]))])) _ h) cf_X5_value (kw_26 cy a rw (ksL S9 (S9.2.2.2 ++ [(q11, .inr (1, [.long 0, .null, .null, .int 0, .int 0]))]))) rfl wm_X5_90 wi_X5_value ws_X5_value dX5_readAct_47 rfl (Nat.le_of_ble_eq_true rfl) ⟨by decide, by decide, g12.1, g12.2⟩) (fun r13 S14 h => ?_)
      obtain ⟨m15, m16, g17, h⟩ := h
      refine z_callv b (z_runI (As := [.long r13]) (st := [.ref q11]) b (k_X0_init hrw S14 q11 r13 _ h) cf_X0_init wm_X5_94 wi_X0_init rfl dX5_readAct_50 rfl (Nat.le_of_ble_eq_true rfl) ⟨by decide, by decide, g17.1, g17.2⟩) (fun S19 h => ?_)
      refine z_astore_n (lv' := [(1, .ref q11), (0, .ref (a 26))]) b dX5_readAct_53 rfl (by decide) rfl ?_
      refine z_aload_n b dX5_readAct_54 rfl rfl ?_
      refine z_aload_n b dX5_readAct_55 rfl rfl ?_
      obtain ⟨i20, f21, f22, f23, f24, f25, g26, h⟩ := h
      refine z_get (q0 := 47 + i20) (k9 := 0) (v := .long f21) b (kw_dyn cy a rw S19 g26) rfl in_X0 (by decide) wf_X5_97 rfl dX5_readAct_56 ?_
      obtain ⟨g27, h⟩ := h
      refine z_calli b (z_runV (q0 := 26) (As := [.long f21]) (st := []) b (k_X5_isNamed hrw S19 f21 _ h) cf_X5_isNamed (kw_26 cy a rw S19) rfl wm_X5_101 wi_X5_isNamed ws_X5_isNamed dX5_readAct_59 rfl (Nat.le_of_ble_eq_true rfl) ⟨by decide, by decide, g27.1, g27.2⟩) (fun r28 S29 h => ?_)
      refine y_if_eq (tgt := 71) (xl := r28.toInt) b rfl dX5_readAct_62 (by decide) (fun c1 => ?_) (fun c1 => ?_)
      · replace h := h.1 c1
        refine z_aload_n b dX5_readAct_71 rfl rfl ?_
        refine z_dup b dX5_readAct_72 rfl ?_
        refine z_get (q0 := 26) (k9 := 1) (v := .int (fi S29.1 15)) b (kw_26 cy a rw S29) rfl in_X5 (by decide) wf_X5_18 rfl dX5_readAct_73 ?_
        refine z_iconst (v := 1) b dX5_readAct_76 (by decide) ?_
        refine z_iadd b dX5_readAct_77 rfl ?_
        refine z_put (q0 := 26) (k9 := 1) tyX5 b (kw_26 cy a rw S29) rfl in_X5 tyX5_ok nmX5 (by decide) wf_X5_18 rfl rfl rfl rfl (Nat.le_of_ble_eq_true rfl) dX5_readAct_78 (kwp_26_1 cy a rw S29 ((fi S29.1 15) + 1)) ?_
        refine z_aload_n b dX5_readAct_81 rfl rfl ?_
        refine z_iconst (v := 0) b dX5_readAct_82 (by decide) ?_
        refine z_put (q0 := 26) (k9 := 4) tyX5 b (kw_26 cy a rw (ksi S29 15 ((fi S29.1 15) + 1))) rfl in_X5 tyX5_ok nmX5 (by decide) wf_X5_29 rfl rfl rfl rfl (Nat.le_of_ble_eq_true rfl) dX5_readAct_83 (kwp_26_4 cy a rw (ksi S29 15 ((fi S29.1 15) + 1)) 0) ?_
        refine z_aload_n b dX5_readAct_86 rfl rfl ?_
        refine z_iconst (v := 0) b dX5_readAct_87 (by decide) ?_
        refine z_put (q0 := 26) (k9 := 5) tyX5 b (kw_26 cy a rw (ksi (ksi S29 15 ((fi S29.1 15) + 1)) 17 0)) rfl in_X5 tyX5_ok nmX5 (by decide) wf_X5_33 rfl rfl rfl rfl (Nat.le_of_ble_eq_true rfl) dX5_readAct_88 (kwp_26_5 cy a rw (ksi (ksi S29 15 ((fi S29.1 15) + 1)) 17 0) 0) ?_
        refine z_iconst (v := 0) b dX5_readAct_91 (by decide) ?_
        refine z_istore_n (lv' := [(2, .int 0), (1, .ref q11), (0, .ref (a 26))]) b dX5_readAct_92 rfl (by decide) rfl ?_
        refine z_lv0 (lv' := [(0, .ref (a 26)), (1, .ref q11), (2, .int 0)]) [2, 1, 0] rfl ?_
        obtain ⟨n, h⟩ := h
        exact zl_X5_readAct_L93 hrw b (fun S nc ns x1 h => z_X5_readAct_B188 hrw b _ _ _ _ h) n _ _ _ _ _ h
      · replace h := h.2 c1
        refine z_aload_n b dX5_readAct_65 rfl rfl ?_
        refine z_iconst (v := 2) b dX5_readAct_66 (by decide) ?_
        obtain ⟨g111, h⟩ := h
        refine z_calli b (z_runV (q0 := 26) (As := [.int 2]) (st := []) b (k_X5_refuse hrw S29 2 _ h) cf_X5_refuse (kw_26 cy a rw S29) rfl wm_X5_70 wi_X5_refuse ws_X5_refuse dX5_readAct_67 rfl (Nat.le_of_ble_eq_true rfl) ⟨by decide, by decide, g111.1, g111.2⟩) (fun r112 S113 h => ?_)
        obtain ⟨g114, h⟩ := h
        obtain ⟨g115, h⟩ := h
        exact z_zret (u := S113) b rfl (z_bool g114) dX5_readAct_70 h rfl g115.1 g115.2
    · replace h := h.2 c1
      refine z_aload_n b dX5_readAct_36 rfl rfl ?_
      refine z_iconst (v := 1) b dX5_readAct_37 (by decide) ?_
      obtain ⟨g116, h⟩ := h
      refine z_calli b (z_runV (q0 := 26) (As := [.int 1]) (st := []) b (k_X5_refuse hrw S9 1 _ h) cf_X5_refuse (kw_26 cy a rw S9) rfl wm_X5_70 wi_X5_refuse ws_X5_refuse dX5_readAct_38 rfl (Nat.le_of_ble_eq_true rfl) ⟨by decide, by decide, g116.1, g116.2⟩) (fun r117 S118 h => ?_)
      obtain ⟨g119, h⟩ := h
      obtain ⟨g120, h⟩ := h
      exact z_zret (u := S118) b rfl (z_bool g119) dX5_readAct_41 h rfl g120.1 g120.2
  · replace h := h.2 c1
    refine z_aload_n b dX5_readAct_12 rfl rfl ?_
    refine z_iconst (v := 3) b dX5_readAct_13 (by decide) ?_
    obtain ⟨g121, h⟩ := h
    refine z_calli b (z_runV (q0 := 26) (As := [.int 3]) (st := []) b (k_X5_refuse hrw S6 3 _ h) cf_X5_refuse (kw_26 cy a rw S6) rfl wm_X5_70 wi_X5_refuse ws_X5_refuse dX5_readAct_14 rfl (Nat.le_of_ble_eq_true rfl) ⟨by decide, by decide, g121.1, g121.2⟩) (fun r122 S123 h => ?_)
    obtain ⟨g124, h⟩ := h
    obtain ⟨g125, h⟩ := h
    exact z_zret (u := S123) b rfl (z_bool g124) dX5_readAct_17 h rfl g125.1 g125.2

