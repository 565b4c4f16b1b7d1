def w_X8_wealth (cy : Nat → ClassId) (tE : Nat) (S : KS) (p0 : Int32) (p1 : Int32) (post : Int32 → KS → Prop) : Prop :=
  w_X8_load cy tE S p0 (fun S2 => w_X9_get cy tE S2 4 p1 (fun r3 S4 => ∃ n, lpn (w_X8_wealth_F17 cy tE post (w_X8_wealth_B54 cy tE post)) (fun _ _ _ _ => False) n S4 p1 r3 0))

set_option maxHeartbeats 200000 in
set_option maxRecDepth 100000 in
theorem k_X8_wealth {l : Launch} {D : va_G} {cy : Nat → ClassId} {T0 tB tE : Nat} {a : Nat → Nat} {rw : Nat → Option Nat} (hrw : ∀ i, i < 6 → rw i = some (a (12 + 2 * i))) (S : KS) (p0 : Int32) (p1 : Int32) (post : Int32 → KS → Prop) (h : w_X8_wealth cy tE S p0 p1 post) : Ct l D cy T0 tB tE yX8_wealth cX8_wealth 5 (some .int) 3 68 0 0 (kw cy a rw S) [.ref (a 38), .int p0, .int p1] (QI D (U := KS) post (kw cy a rw)) := by
  refine Ct.ofZ RX8 "wealth" [(0, .ref (a 38)), (1, .int p0), (2, .int p1)] rfl rfl rfl rfl (Nat.le_of_ble_eq_true rfl) ?_
  intro p e R s m args below meth c A b
  unfold w_X8_wealth at h
  refine z_aload_n b dX8_wealth_0 rfl rfl ?_
  refine z_iload_n b dX8_wealth_1 rfl rfl ?_
  refine z_callv b (z_runV (q0 := 38) (As := [.int p0]) (st := []) b (k_X8_load hrw S p0 _ h) cf_X8_load (kw_38 cy a rw S) rfl wm_X8_153 wi_X8_load ws_X8_load dX8_wealth_2 rfl (Nat.le_of_ble_eq_true rfl) ⟨by decide, by decide, Nat.le_of_ble_eq_true rfl, Nat.le_of_ble_eq_true rfl⟩) (fun S2 h => ?_)
  refine z_aload_n b dX8_wealth_5 rfl rfl ?_
  refine z_get (q0 := 38) (k9 := 2) (v := .ref (a 10)) b (kw_38 cy a rw S2) rfl in_X8 (by decide) wf_X8_12 rfl dX8_wealth_6 ?_
  refine z_iload_n b dX8_wealth_9 rfl rfl ?_
  refine z_calli b (z_runV (q0 := 10) (As := [.int p1]) (st := []) b (k_X9_get hrw S2 4 p1 _ h) cf_X9_get (kw_10 cy a rw S2) rfl wm_X8_161 wi_X9_get ws_X9_get dX8_wealth_10 rfl (Nat.le_of_ble_eq_true rfl) ⟨by decide, by decide, Nat.le_of_ble_eq_true rfl, Nat.le_of_ble_eq_true rfl⟩) (fun r3 S4 h => ?_)
  refine z_istore_n (lv' := [(3, .int r3), (0, .ref (a 38)), (1, .int p0), (2, .int p1)]) b dX8_wealth_13 rfl (by decide) rfl ?_
  refine z_iconst (v := 0) b dX8_wealth_14 (by decide) ?_
  refine z_istore (lv' := [(4, .int 0), (3, .int r3), (0, .ref (a 38)), (1, .int p0), (2, .int p1)]) b dX8_wealth_15 (by decide) rfl ?_
  refine z_lv0 (lv' := [(0, .ref (a 38)), (2, .int p1), (3, .int r3), (4, .int 0)]) [2, 4, 1, 0] rfl ?_
  obtain ⟨n, h⟩ := h
  exact zl_X8_wealth_L17 hrw b (fun S x3 h => z_X8_wealth_B54 hrw b _ _ h) n _ _ _ _ h

def w_X8_richest_B50 (cy : Nat → ClassId) (tE : Nat) (post : Int32 → KS → Prop) (k12 : KS → Int32 → Int32 → Int32 → Int32 → Prop) (k56 : KS → Int32 → Prop) (S : KS) (x1 : Int32) (x2 : Int32) (x3 : Int32) (x4 : Int32) : Prop :=
  k12 S x1 x2 x3 (x4 + 1)

set_option maxHeartbeats 200000 in
set_option maxRecDepth 100000 in
theorem z_X8_richest_B50 {p : Program} {l : Launch} {e : Env} {R : Room} {s : State} {m : MethodId} {args : Array Value} {below : List Frame} {meth : Method} {c : Code} {D : va_G} {cy : Nat → ClassId} {T0 tB tE : Nat} {A : Nat → Prop} {a : Nat → Nat} {rw : Nat → Option Nat} (hrw : ∀ i, i < 6 → rw i = some (a (12 + 2 * i))) {post : Int32 → KS → Prop} {k12 : KS → Int32 → Int32 → Int32 → Int32 → Prop} {k56 : KS → Int32 → Prop} (b : Bz p R s m args meth c D cy T0 tB tE A 6 cX8_richest RX8 (some .int) "richest" 4 92 0 0) (hk12 : ∀ (S : KS) (x1 : Int32) (x2 : Int32) (x3 : Int32) (x4 : Int32), k12 S x1 x2 x3 x4 → Z p l e R s m args below meth c D A 6 (MQ below (QI D (U := KS) post (kw cy a rw) A) args s 0 0 A) 0 0 (kw cy a rw S) [(0, .ref (a 38)), (1, .int x1), (2, .int x2), (3, .int x3), (4, .int x4)] 12 []) (hk56 : ∀ (S : KS) (x2 : Int32), k56 S x2 → Z p l e R s m args below meth c D A 6 (MQ below (QI D (U := KS) post (kw cy a rw) A) args s 0 0 A) 0 0 (kw cy a rw S) [(2, .int x2)] 56 []) (S : KS) (x1 : Int32) (x2 : Int32) (x3 : Int32) (x4 : Int32) (h : w_X8_richest_B50 cy tE post k12 k56 S x1 x2 x3 x4) : Z p l e R s m args below meth c D A 6 (MQ below (QI D (U := KS) post (kw cy a rw) A) args s 0 0 A) 0 0 (kw cy a rw S) [(0, .ref (a 38)), (1, .int x1), (2, .int x2), (3, .int x3), (4, .int x4)] 50 [] := by
  unfold w_X8_richest_B50 at h
  refine z_iinc (k9 := 4) (v := (x4 + 1)) (lv' := [(4, .int (x4 + 1)), (0, .ref (a 38)), (1, .int x1), (2, .int x2), (3, .int x3)]) b dX8_richest_50 rfl rfl (by decide) rfl ?_
  refine z_goto (tgt := 12) b dX8_richest_53 (by decide) ?_
  refine z_lv0 (lv' := [(0, .ref (a 38)), (1, .int x1), (2, .int x2), (3, .int x3), (4, .int (x4 + 1))]) [1, 2, 3, 4, 0] rfl ?_
  exact hk12 _ _ _ _ _ h

def w_X8_richest_F12 (cy : Nat → ClassId) (tE : Nat) (post : Int32 → KS → Prop) (k56 : KS → Int32 → Prop) (k12 : KS → Int32 → Int32 → Int32 → Int32 → Prop) (S : KS) (x1 : Int32) (x2 : Int32) (x3 : Int32) (x4 : Int32) : Prop :=
  (((fi S.1 33).toInt ≤ x4.toInt → k56 S x2) ∧ (x4.toInt < (fi S.1 33).toInt → ((400 ≤ x4.toInt → k56 S x2) ∧ (x4.toInt < 400 → w_X8_wealth cy tE S x4 x1 (fun r3 S4 => ((r3.toInt ≤ x3.toInt → w_X8_richest_B50 cy tE post k12 k56 S4 x1 x2 x3 x4) ∧ (x3.toInt < r3.toInt → w_X8_richest_B50 cy tE post k12 k56 S4 x1 x4 r3 x4)))))))

set_option maxHeartbeats 200000 in
set_option maxRecDepth 100000 in
theorem z_X8_richest_F12 {p : Program} {l : Launch} {e : Env} {R : Room} {s : State} {m : MethodId} {args : Array Value} {below : List Frame} {meth : Method} {c : Code} {D : va_G} {cy : Nat → ClassId} {T0 tB tE : Nat} {A : Nat → Prop} {a : Nat → Nat} {rw : Nat → Option Nat} (hrw : ∀ i, i < 6 → rw i = some (a (12 + 2 * i))) {post : Int32 → KS → Prop} {k56 : KS → Int32 → Prop} {k12 : KS → Int32 → Int32 → Int32 → Int32 → Prop} (b : Bz p R s m args meth c D cy T0 tB tE A 6 cX8_richest RX8 (some .int) "richest" 4 92 0 0) (hk56 : ∀ (S : KS) (x2 : Int32), k56 S x2 → Z p l e R s m args below meth c D A 6 (MQ below (QI D (U := KS) post (kw cy a rw) A) args s 0 0 A) 0 0 (kw cy a rw S) [(2, .int x2)] 56 []) (hk12 : ∀ (S : KS) (x1 : Int32) (x2 : Int32) (x3 : Int32) (x4 : Int32), k12 S x1 x2 x3 x4 → Z p l e R s m args below meth c D A 6 (MQ below (QI D (U := KS) post (kw cy a rw) A) args s 0 0 A) 0 0 (kw cy a rw S) [(0, .ref (a 38)), (1, .int x1), (2, .int x2), (3, .int x3), (4, .int x4)] 12 []) (S : KS) (x1 : Int32) (x2 : Int32) (x3 : Int32) (x4 : Int32) (h : w_X8_richest_F12 cy tE post k56 k12 S x1 x2 x3 x4) : Z p l e R s m args below meth c D A 6 (MQ below (QI D (U := KS) post (kw cy a rw) A) args s 0 0 A) 0 0 (kw cy a rw S) [(0, .ref (a 38)), (1, .int x1), (2, .int x2), (3, .int x3), (4, .int x4)] 12 [] := by
  unfold w_X8_richest_F12 at h
  refine z_iload b dX8_richest_12 rfl ?_
  refine z_aload_n b dX8_richest_14 rfl rfl ?_
  refine z_get (q0 := 38) (k9 := 17) (v := .int (fi S.1 33)) b (kw_38 cy a rw S) rfl in_X8 (by decide) wf_X8_64 rfl dX8_richest_15 ?_
  refine y_icmp_ge (tgt := 56) (xl := x4.toInt) (yl := (fi S.1 33).toInt) b rfl rfl dX8_richest_18 (by decide) (fun c1 => ?_) (fun c1 => ?_)
  · replace h := h.1 c1
    refine z_lv0 (lv' := [(2, .int x2)]) [2] rfl ?_
    exact hk56 _ _ h
  · replace h := h.2 c1
    refine z_iload b dX8_richest_21 rfl ?_
    refine z_sipush (v := 400) b dX8_richest_23 (by decide) ?_
    refine y_icmp_ge (tgt := 56) (xl := x4.toInt) (yl := 400) b rfl (by decide) dX8_richest_26 (by decide) (fun c1 => ?_) (fun c1 => ?_)
    · replace h := h.1 c1
      refine z_lv0 (lv' := [(2, .int x2)]) [2] rfl ?_
      exact hk56 _ _ h
    · replace h := h.2 c1
      refine z_aload_n b dX8_richest_29 rfl rfl ?_
      refine z_iload b dX8_richest_30 rfl ?_
      refine z_iload_n b dX8_richest_32 rfl rfl ?_
      refine z_calli b (z_runV (q0 := 38) (As := [.int x4, .int x1]) (st := []) b (k_X8_wealth hrw S x4 x1 _ h) cf_X8_wealth (kw_38 cy a rw S) rfl wm_X8_163 wi_X8_wealth ws_X8_wealth dX8_richest_33 rfl (Nat.le_of_ble_eq_true rfl) ⟨by decide, by decide, Nat.le_of_ble_eq_true rfl, Nat.le_of_ble_eq_true rfl⟩) (fun r3 S4 h => ?_)
      refine z_istore (lv' := [(5, .int r3), (0, .ref (a 38)), (1, .int x1), (2, .int x2), (3, .int x3), (4, .int x4)]) b dX8_richest_36 (by decide) rfl ?_
      refine z_iload b dX8_richest_38 rfl ?_
      refine z_iload_n b dX8_richest_40 rfl rfl ?_
      refine y_icmp_le (tgt := 50) (xl := r3.toInt) (yl := x3.toInt) b rfl rfl dX8_richest_41 (by decide) (fun c1 => ?_) (fun c1 => ?_)
      · replace h := h.1 c1
        refine z_lv0 (lv' := [(0, .ref (a 38)), (1, .int x1), (2, .int x2), (3, .int x3), (4, .int x4)]) [1, 2, 3, 4, 5] rfl ?_
        exact z_X8_richest_B50 hrw b hk12 hk56 _ _ _ _ _ h
      · replace h := h.2 c1
        refine z_iload b dX8_richest_44 rfl ?_
        refine z_istore_n (lv' := [(3, .int r3), (5, .int r3), (0, .ref (a 38)), (1, .int x1), (2, .int x2), (4, .int x4)]) b dX8_richest_46 rfl (by decide) rfl ?_
        refine z_iload b dX8_richest_47 rfl ?_
        refine z_istore_n (lv' := [(2, .int x4), (3, .int r3), (5, .int r3), (0, .ref (a 38)), (1, .int x1), (4, .int x4)]) b dX8_richest_49 rfl (by decide) rfl ?_
        refine z_lv0 (lv' := [(0, .ref (a 38)), (1, .int x1), (2, .int x4), (3, .int r3), (4, .int x4)]) [3, 4, 0, 1, 5] rfl ?_
        exact z_X8_richest_B50 hrw b hk12 hk56 _ _ _ _ _ h

set_option maxHeartbeats 200000 in
set_option maxRecDepth 100000 in
theorem zl_X8_richest_L12 {p : Program} {l : Launch} {e : Env} {R : Room} {s : State} {m : MethodId} {args : Array Value} {below : List Frame} {meth : Method} {c : Code} {D : va_G} {cy : Nat → ClassId} {T0 tB tE : Nat} {A : Nat → Prop} {a : Nat → Nat} {rw : Nat → Option Nat} (hrw : ∀ i, i < 6 → rw i = some (a (12 + 2 * i))) {post : Int32 → KS → Prop} {k56 : KS → Int32 → Prop} (b : Bz p R s m args meth c D cy T0 tB tE A 6 cX8_richest RX8 (some .int) "richest" 4 92 0 0) (hk56 : ∀ (S : KS) (x2 : Int32), k56 S x2 → Z p l e R s m args below meth c D A 6 (MQ below (QI D (U := KS) post (kw cy a rw) A) args s 0 0 A) 0 0 (kw cy a rw S) [(2, .int x2)] 56 []) : ∀ (n : Nat) (S : KS) (x1 : Int32) (x2 : Int32) (x3 : Int32) (x4 : Int32), lpn (w_X8_richest_F12 cy tE post k56) (fun _ _ _ _ _ => False) n S x1 x2 x3 x4 → Z p l e R s m args below meth c D A 6 (MQ below (QI D (U := KS) post (kw cy a rw) A) args s 0 0 A) 0 0 (kw cy a rw S) [(0, .ref (a 38)), (1, .int x1), (2, .int x2), (3, .int x3), (4, .int x4)] 12 [] := by
  intro n
  induction n with
  | zero => intro _ _ _ _ _ h; exact h.elim
  | succ n ih => intro S x1 x2 x3 x4 h; exact z_X8_richest_F12 hrw b hk56 ih S x1 x2 x3 x4 h

def w_X8_richest_B56 (cy : Nat → ClassId) (tE : Nat) (post : Int32 → KS → Prop) (S : KS) (x2 : Int32) : Prop :=
  post x2 S

set_option maxHeartbeats 200000 in
set_option maxRecDepth 100000 in
theorem z_X8_richest_B56 {p : Program} {l : Launch} {e : Env} {R : Room} {s : State} {m : MethodId} {args : Array Value} {below : List Frame} {meth : Method} {c : Code} {D : va_G} {cy : Nat → ClassId} {T0 tB tE : Nat} {A : Nat → Prop} {a : Nat → Nat} {rw : Nat → Option Nat} (hrw : ∀ i, i < 6 → rw i = some (a (12 + 2 * i))) {post : Int32 → KS → Prop} (b : Bz p R s m args meth c D cy T0 tB tE A 6 cX8_richest RX8 (some .int) "richest" 4 92 0 0) (S : KS) (x2 : Int32) (h : w_X8_richest_B56 cy tE post S x2) : Z p l e R s m args below meth c D A 6 (MQ below (QI D (U := KS) post (kw cy a rw) A) args s 0 0 A) 0 0 (kw cy a rw S) [(2, .int x2)] 56 [] := by
  unfold w_X8_richest_B56 at h
  refine z_iload_n b dX8_richest_56 rfl rfl ?_
  exact z_iret (u := S) b rfl dX8_richest_57 h rfl (by decide) (by decide)

def w_X8_richest (cy : Nat → ClassId) (tE : Nat) (S : KS) (p0 : Int32) (post : Int32 → KS → Prop) : Prop :=
  w_X8_wealth cy tE S 0 p0 (fun r1 S2 => ∃ n, lpn (w_X8_richest_F12 cy tE post (w_X8_richest_B56 cy tE post)) (fun _ _ _ _ _ => False) n S2 p0 0 r1 1)

set_option maxHeartbeats 200000 in
set_option maxRecDepth 100000 in
theorem k_X8_richest {l : Launch} {D : va_G} {cy : Nat → ClassId} {T0 tB tE : Nat} {a : Nat → Nat} {rw : Nat → Option Nat} (hrw : ∀ i, i < 6 → rw i = some (a (12 + 2 * i))) (S : KS) (p0 : Int32) (post : Int32 → KS → Prop) (h : w_X8_richest cy tE S p0 post) : Ct l D cy T0 tB tE yX8_richest cX8_richest 6 (some .int) 4 92 0 0 (kw cy a rw S) [.ref (a 38), .int p0] (QI D (U := KS) post (kw cy a rw)) := by
  refine Ct.ofZ RX8 "richest" [(0, .ref (a 38)), (1, .int p0)] rfl rfl rfl rfl (Nat.le_of_ble_eq_true rfl) ?_
  intro p e R s m args below meth c A b
  unfold w_X8_richest at h
  refine z_iconst (v := 0) b dX8_richest_0 (by decide) ?_
  refine z_istore_n (lv' := [(2, .int 0), (0, .ref (a 38)), (1, .int p0)]) b dX8_richest_1 rfl (by decide) rfl ?_
  refine z_aload_n b dX8_richest_2 rfl rfl ?_
  refine z_iconst (v := 0) b dX8_richest_3 (by decide) ?_
  refine z_iload_n b dX8_richest_4 rfl rfl ?_
  refine z_calli b (z_runV (q0 := 38) (As := [.int 0, .int p0]) (st := []) b (k_X8_wealth hrw S 0 p0 _ h) cf_X8_wealth (kw_38 cy a rw S) rfl wm_X8_163 wi_X8_wealth ws_X8_wealth dX8_richest_5 rfl (Nat.le_of_ble_eq_true rfl) ⟨by decide, by decide, Nat.le_of_ble_eq_true rfl, Nat.le_of_ble_eq_true rfl⟩) (fun r1 S2 h => ?_)
  refine z_istore_n (lv' := [(3, .int r1), (2, .int 0), (0, .ref (a 38)), (1, .int p0)]) b dX8_richest_8 rfl (by decide) rfl ?_
  refine z_iconst (v := 1) b dX8_richest_9 (by decide) ?_
  refine z_istore (lv' := [(4, .int 1), (3, .int r1), (2, .int 0), (0, .ref (a 38)), (1, .int p0)]) b dX8_richest_10 (by decide) rfl ?_
  refine z_lv0 (lv' := [(0, .ref (a 38)), (1, .int p0), (2, .int 0), (3, .int r1), (4, .int 1)]) [3, 4, 2, 1, 0] rfl ?_
  obtain ⟨n, h⟩ := h
  exact zl_X8_richest_L12 hrw b (fun S x2 h => z_X8_richest_B56 hrw b _ _ h) n _ _ _ _ _ h

def w_X7_endOf_B59 (cy : Nat → ClassId) (tE : Nat) (post : Int32 → KS → Prop) (k6 : KS → Nat → Nat → Int32 → Int32 → Int32 → Int32 → Prop) (k65 : KS → Prop) (S : KS) (x0 : Nat) (x1 : Nat) (x2 : Int32) (x3 : Int32) (x4 : Int32) (x5 : Int32) : Prop :=
  k6 S x0 x1 x2 x3 x4 (x5 + 1)

set_option maxHeartbeats 200000 in
set_option maxRecDepth 100000 in
theorem z_X7_endOf_B59 {p : Program} {l : Launch} {e : Env} {R : Room} {s : State} {m : MethodId} {args : Array Value} {below : List Frame} {meth : Method} {c : Code} {D : va_G} {cy : Nat → ClassId} {T0 tB tE : Nat} {A : Nat → Prop} {a : Nat → Nat} {rw : Nat → Option Nat} (hrw : ∀ i, i < 6 → rw i = some (a (12 + 2 * i))) {post : Int32 → KS → Prop} {k6 : KS → Nat → Nat → Int32 → Int32 → Int32 → Int32 → Prop} {k65 : KS → Prop} (b : Bz p R s m args meth c D cy T0 tB tE A 6 cX7_endOf RX7 (some .int) "endOf" 2 47 0 0) (hk6 : ∀ (S : KS) (x0 : Nat) (x1 : Nat) (x2 : Int32) (x3 : Int32) (x4 : Int32) (x5 : Int32), k6 S x0 x1 x2 x3 x4 x5 → Z p l e R s m args below meth c D A 6 (MQ below (QI D (U := KS) post (kw cy a rw) A) args s 0 0 A) 0 0 (kw cy a rw S) [(0, .ref (a (12 + 2 * x0))), (1, .ref (a (12 + 2 * x1))), (2, .int x2), (3, .int x3), (4, .int x4), (5, .int x5)] 6 []) (hk65 : ∀ (S : KS), k65 S → Z p l e R s m args below meth c D A 6 (MQ below (QI D (U := KS) post (kw cy a rw) A) args s 0 0 A) 0 0 (kw cy a rw S) [] 65 []) (S : KS) (x0 : Nat) (x1 : Nat) (x2 : Int32) (x3 : Int32) (x4 : Int32) (x5 : Int32) (h : w_X7_endOf_B59 cy tE post k6 k65 S x0 x1 x2 x3 x4 x5) : Z p l e R s m args below meth c D A 6 (MQ below (QI D (U := KS) post (kw cy a rw) A) args s 0 0 A) 0 0 (kw cy a rw S) [(0, .ref (a (12 + 2 * x0))), (1, .ref (a (12 + 2 * x1))), (2, .int x2), (3, .int x3), (4, .int x4), (5, .int x5)] 59 [] := by
  unfold w_X7_endOf_B59 at h
  refine z_iinc (k9 := 5) (v := (x5 + 1)) (lv' := [(5, .int (x5 + 1)), (0, .ref (a (12 + 2 * x0))), (1, .ref (a (12 + 2 * x1))), (2, .int x2), (3, .int x3), (4, .int x4)]) b dX7_endOf_59 rfl rfl (by decide) rfl ?_
  refine z_goto (tgt := 6) b dX7_endOf_62 (by decide) ?_
  refine z_lv0 (lv' := [(0, .ref (a (12 + 2 * x0))), (1, .ref (a (12 + 2 * x1))), (2, .int x2), (3, .int x3), (4, .int x4), (5, .int (x5 + 1))]) [1, 2, 3, 4, 5, 0] rfl ?_
  exact hk6 _ _ _ _ _ _ _ h

def w_X7_endOf_F6 (cy : Nat → ClassId) (tE : Nat) (post : Int32 → KS → Prop) (k65 : KS → Prop) (k6 : KS → Nat → Nat → Int32 → Int32 → Int32 → Int32 → Prop) (S : KS) (x0 : Nat) (x1 : Nat) (x2 : Int32) (x3 : Int32) (x4 : Int32) (x5 : Int32) : Prop :=
  (x0 < 7) ∧ (((fi S.1 (1 + 2 * x0)).toInt ≤ x5.toInt → k65 S) ∧ (x5.toInt < (fi S.1 (1 + 2 * x0)).toInt → (x1 < 7) ∧ (((fi S.1 (1 + 2 * x1)).toInt ≤ x4.toInt → w_X7_endOf_B59 cy tE post k6 k65 S x0 x1 x2 x3 x4 x5) ∧ (x4.toInt < (fi S.1 (1 + 2 * x1)).toInt → (x0 < 7) ∧ w_X7_get cy tE S x0 x5 (fun r4 S5 => (x1 < 7) ∧ w_X7_get cy tE S5 x1 x4 (fun r7 S8 => w_X7_renamed cy tE S8 r7 x2 x3 (fun r9 S10 => ((r4.toInt ≠ r9.toInt → w_X7_endOf_B59 cy tE post k6 k65 S10 x0 x1 x2 x3 x4 x5) ∧ (r4.toInt = r9.toInt → (x1 < 7) ∧ (((x4 + 1).toInt ≠ (fi S10.1 (1 + 2 * x1)).toInt → w_X7_endOf_B59 cy tE post k6 k65 S10 x0 x1 x2 x3 (x4 + 1) x5) ∧ ((x4 + 1).toInt = (fi S10.1 (1 + 2 * x1)).toInt → post x5 S10)))))))))))

set_option maxHeartbeats 200000 in
set_option maxRecDepth 100000 in
theorem z_X7_endOf_F6 {p : Program} {l : Launch} {e : Env} {R : Room} {s : State} {m : MethodId} {args : Array Value} {below : List Frame} {meth : Method} {c : Code} {D : va_G} {cy : Nat → ClassId} {T0 tB tE : Nat} {A : Nat → Prop} {a : Nat → Nat} {rw : Nat → Option Nat} (hrw : ∀ i, i < 6 → rw i = some (a (12 + 2 * i))) {post : Int32 → KS → Prop} {k65 : KS → Prop} {k6 : KS → Nat → Nat → Int32 → Int32 → Int32 → Int32 → Prop} (b : Bz p R s m args meth c D cy T0 tB tE A 6 cX7_endOf RX7 (some .int) "endOf" 2 47 0 0) (hk65 : ∀ (S : KS), k65 S → Z p l e R s m args below meth c D A 6 (MQ below (QI D (U := KS) post (kw cy a rw) A) args s 0 0 A) 0 0 (kw cy a rw S) [] 65 []) (hk6 : ∀ (S : KS) (x0 : Nat) (x1 : Nat) (x2 : Int32) (x3 : Int32) (x4 : Int32) (x5 : Int32), k6 S x0 x1 x2 x3 x4 x5 → Z p l e R s m args below meth c D A 6 (MQ below (QI D (U := KS) post (kw cy a rw) A) args s 0 0 A) 0 0 (kw cy a rw S) [(0, .ref (a (12 + 2 * x0))), (1, .ref (a (12 + 2 * x1))), (2, .int x2), (3, .int x3), (4, .int x4), (5, .int x5)] 6 []) (S : KS) (x0 : Nat) (x1 : Nat) (x2 : Int32) (x3 : Int32) (x4 : Int32) (x5 : Int32) (h : w_X7_endOf_F6 cy tE post k65 k6 S x0 x1 x2 x3 x4 x5) : Z p l e R s m args below meth c D A 6 (MQ below (QI D (U := KS) post (kw cy a rw) A) args s 0 0 A) 0 0 (kw cy a rw S) [(0, .ref (a (12 + 2 * x0))), (1, .ref (a (12 + 2 * x1))), (2, .int x2), (3, .int x3), (4, .int x4), (5, .int x5)] 6 [] := by
  unfold w_X7_endOf_F6 at h
  refine z_iload b dX7_endOf_6 rfl ?_
  refine z_aload_n b dX7_endOf_8 rfl rfl ?_
  obtain ⟨g1, h⟩ := h
  refine z_get (q0 := 12 + 2 * x0) (k9 := 1) (v := .int (fi S.1 (1 + 2 * x0))) b (kw_ro cy a rw S g1) rfl in_X7 (by decide) wf_X7_9 rfl dX7_endOf_9 ?_
  refine y_icmp_ge (tgt := 65) (xl := x5.toInt) (yl := (fi S.1 (1 + 2 * x0)).toInt) b rfl rfl dX7_endOf_12 (by decide) (fun c1 => ?_) (fun c1 => ?_)
  · replace h := h.1 c1
    refine z_lv0 (lv' := []) [] rfl ?_
    exact hk65 _ h
  · replace h := h.2 c1
    refine z_iload b dX7_endOf_15 rfl ?_
    refine z_aload_n b dX7_endOf_17 rfl rfl ?_
    obtain ⟨g2, h⟩ := h
    refine z_get (q0 := 12 + 2 * x1) (k9 := 1) (v := .int (fi S.1 (1 + 2 * x1))) b (kw_ro cy a rw S g2) rfl in_X7 (by decide) wf_X7_9 rfl dX7_endOf_18 ?_
    refine y_icmp_ge (tgt := 59) (xl := x4.toInt) (yl := (fi S.1 (1 + 2 * x1)).toInt) b rfl rfl dX7_endOf_21 (by decide) (fun c1 => ?_) (fun c1 => ?_)
    · replace h := h.1 c1
      exact z_X7_endOf_B59 hrw b hk6 hk65 _ _ _ _ _ _ _ h
    · replace h := h.2 c1
      refine z_aload_n b dX7_endOf_24 rfl rfl ?_
      refine z_iload b dX7_endOf_25 rfl ?_
      obtain ⟨g3, h⟩ := h
      refine z_calli b (z_runV (q0 := 12 + 2 * x0) (As := [.int x5]) (st := []) b (k_X7_get hrw S x0 x5 _ h) cf_X7_get (kw_ro cy a rw S g3) rfl wm_X7_29 wi_X7_get ws_X7_get dX7_endOf_27 rfl (Nat.le_of_ble_eq_true rfl) ⟨by decide, by decide, Nat.le_of_ble_eq_true rfl, Nat.le_of_ble_eq_true rfl⟩) (fun r4 S5 h => ?_)
      refine z_aload_n b dX7_endOf_30 rfl rfl ?_
      refine z_iload b dX7_endOf_31 rfl ?_
      obtain ⟨g6, h⟩ := h
      refine z_calli b (z_runV (q0 := 12 + 2 * x1) (As := [.int x4]) (st := [.int r4]) b (k_X7_get hrw S5 x1 x4 _ h) cf_X7_get (kw_ro cy a rw S5 g6) rfl wm_X7_29 wi_X7_get ws_X7_get dX7_endOf_33 rfl (Nat.le_of_ble_eq_true rfl) ⟨by decide, by decide, Nat.le_of_ble_eq_true rfl, Nat.le_of_ble_eq_true rfl⟩) (fun r7 S8 h => ?_)
      refine z_iload_n b dX7_endOf_36 rfl rfl ?_
      refine z_iload_n b dX7_endOf_37 rfl rfl ?_
      refine z_calli b (z_runS (As := [.int r7, .int x2, .int x3]) (st := [.int r4]) b (k_X7_renamed hrw S8 r7 x2 x3 _ h) cf_X7_renamed wm_X7_33 ws_X7_renamed dX7_endOf_38 rfl (Nat.le_of_ble_eq_true rfl) ⟨by decide, by decide, Nat.le_of_ble_eq_true rfl, Nat.le_of_ble_eq_true rfl⟩) (fun r9 S10 h => ?_)
      refine y_icmp_ne (tgt := 59) (xl := r4.toInt) (yl := r9.toInt) b rfl rfl dX7_endOf_41 (by decide) (fun c1 => ?_) (fun c1 => ?_)
      · replace h := h.1 c1
        exact z_X7_endOf_B59 hrw b hk6 hk65 _ _ _ _ _ _ _ h
      · replace h := h.2 c1
        refine z_iinc (k9 := 4) (v := (x4 + 1)) (lv' := [(4, .int (x4 + 1)), (0, .ref (a (12 + 2 * x0))), (1, .ref (a (12 + 2 * x1))), (2, .int x2), (3, .int x3), (5, .int x5)]) b dX7_endOf_44 rfl rfl (by decide) rfl ?_
        refine z_iload b dX7_endOf_47 rfl ?_
        refine z_aload_n b dX7_endOf_49 rfl rfl ?_
        obtain ⟨g11, h⟩ := h
        refine z_get (q0 := 12 + 2 * x1) (k9 := 1) (v := .int (fi S10.1 (1 + 2 * x1))) b (kw_ro cy a rw S10 g11) rfl in_X7 (by decide) wf_X7_9 rfl dX7_endOf_50 ?_
        refine y_icmp_ne (tgt := 59) (xl := (x4 + 1).toInt) (yl := (fi S10.1 (1 + 2 * x1)).toInt) b rfl rfl dX7_endOf_53 (by decide) (fun c1 => ?_) (fun c1 => ?_)
        · replace h := h.1 c1
          refine z_lv0 (lv' := [(0, .ref (a (12 + 2 * x0))), (1, .ref (a (12 + 2 * x1))), (2, .int x2), (3, .int x3), (4, .int (x4 + 1)), (5, .int x5)]) [1, 2, 3, 4, 0, 5] rfl ?_
          exact z_X7_endOf_B59 hrw b hk6 hk65 _ _ _ _ _ _ _ h
        · replace h := h.2 c1
          refine z_iload b dX7_endOf_56 rfl ?_
          exact z_iret (u := S10) b rfl dX7_endOf_58 h rfl (by decide) (by decide)

set_option maxHeartbeats 200000 in
set_option maxRecDepth 100000 in
theorem zl_X7_endOf_L6 {p : Program} {l : Launch} {e : Env} {R : Room} {s : State} {m : MethodId} {args : Array Value} {below : List Frame} {meth : Method} {c : Code} {D : va_G} {cy : Nat → ClassId} {T0 tB tE : Nat} {A : Nat → Prop} {a : Nat → Nat} {rw : Nat → Option Nat} (hrw : ∀ i, i < 6 → rw i = some (a (12 + 2 * i))) {post : Int32 → KS → Prop} {k65 : KS → Prop} (b : Bz p R s m args meth c D cy T0 tB tE A 6 cX7_endOf RX7 (some .int) "endOf" 2 47 0 0) (hk65 : ∀ (S : KS), k65 S → Z p l e R s m args below meth c D A 6 (MQ below (QI D (U := KS) post (kw cy a rw) A) args s 0 0 A) 0 0 (kw cy a rw S) [] 65 []) : ∀ (n : Nat) (S : KS) (x0 : Nat) (x1 : Nat) (x2 : Int32) (x3 : Int32) (x4 : Int32) (x5 : Int32), lpn (w_X7_endOf_F6 cy tE post k65) (fun _ _ _ _ _ _ _ => False) n S x0 x1 x2 x3 x4 x5 → Z p l e R s m args below meth c D A 6 (MQ below (QI D (U := KS) post (kw cy a rw) A) args s 0 0 A) 0 0 (kw cy a rw S) [(0, .ref (a (12 + 2 * x0))), (1, .ref (a (12 + 2 * x1))), (2, .int x2), (3, .int x3), (4, .int x4), (5, .int x5)] 6 [] := by
  intro n
  induction n with
  | zero => intro _ _ _ _ _ _ _ h; exact h.elim
  | succ n ih => intro S x0 x1 x2 x3 x4 x5 h; exact z_X7_endOf_F6 hrw b hk65 ih S x0 x1 x2 x3 x4 x5 h

def w_X7_endOf_B65 (cy : Nat → ClassId) (tE : Nat) (post : Int32 → KS → Prop) (S : KS)  : Prop :=
  post (-1) S

set_option maxHeartbeats 200000 in
set_option maxRecDepth 100000 in
theorem z_X7_endOf_B65 {p : Program} {l : Launch} {e : Env} {R : Room} {s : State} {m : MethodId} {args : Array Value} {below : List Frame} {meth : Method} {c : Code} {D : va_G} {cy : Nat → ClassId} {T0 tB tE : Nat} {A : Nat → Prop} {a : Nat → Nat} {rw : Nat → Option Nat} (hrw : ∀ i, i < 6 → rw i = some (a (12 + 2 * i))) {post : Int32 → KS → Prop} (b : Bz p R s m args meth c D cy T0 tB tE A 6 cX7_endOf RX7 (some .int) "endOf" 2 47 0 0) (S : KS)  (h : w_X7_endOf_B65 cy tE post S ) : Z p l e R s m args below meth c D A 6 (MQ below (QI D (U := KS) post (kw cy a rw) A) args s 0 0 A) 0 0 (kw cy a rw S) [] 65 [] := by
  unfold w_X7_endOf_B65 at h
  refine z_iconst (v := (-1)) b dX7_endOf_65 (by decide) ?_
  exact z_iret (u := S) b rfl dX7_endOf_66 h rfl (by decide) (by decide)

def w_X7_endOf (cy : Nat → ClassId) (tE : Nat) (S : KS) (p9 : Nat) (p0 : Nat) (p1 : Int32) (p2 : Int32) (post : Int32 → KS → Prop) : Prop :=
  ∃ n, lpn (w_X7_endOf_F6 cy tE post (w_X7_endOf_B65 cy tE post)) (fun _ _ _ _ _ _ _ => False) n S p9 p0 p1 p2 0 0

set_option maxHeartbeats 200000 in
set_option maxRecDepth 100000 in
theorem k_X7_endOf {l : Launch} {D : va_G} {cy : Nat → ClassId} {T0 tB tE : Nat} {a : Nat → Nat} {rw : Nat → Option Nat} (hrw : ∀ i, i < 6 → rw i = some (a (12 + 2 * i))) (S : KS) (p9 : Nat) (p0 : Nat) (p1 : Int32) (p2 : Int32) (post : Int32 → KS → Prop) (h : w_X7_endOf cy tE S p9 p0 p1 p2 post) : Ct l D cy T0 tB tE yX7_endOf cX7_endOf 6 (some .int) 2 47 0 0 (kw cy a rw S) [.ref (a (12 + 2 * p9)), .ref (a (12 + 2 * p0)), .int p1, .int p2] (QI D (U := KS) post (kw cy a rw)) := by
  refine Ct.ofZ RX7 "endOf" [(0, .ref (a (12 + 2 * p9))), (1, .ref (a (12 + 2 * p0))), (2, .int p1), (3, .int p2)] rfl rfl rfl rfl (Nat.le_of_ble_eq_true rfl) ?_
  intro p e R s m args below meth c A b
  unfold w_X7_endOf at h
  refine z_iconst (v := 0) b dX7_endOf_0 (by decide) ?_
  refine z_istore (lv' := [(4, .int 0), (0, .ref (a (12 + 2 * p9))), (1, .ref (a (12 + 2 * p0))), (2, .int p1), (3, .int p2)]) b dX7_endOf_1 (by decide) rfl ?_
  refine z_iconst (v := 0) b dX7_endOf_3 (by decide) ?_
  refine z_istore (lv' := [(5, .int 0), (4, .int 0), (0, .ref (a (12 + 2 * p9))), (1, .ref (a (12 + 2 * p0))), (2, .int p1), (3, .int p2)]) b dX7_endOf_4 (by decide) rfl ?_
  refine z_lv0 (lv' := [(0, .ref (a (12 + 2 * p9))), (1, .ref (a (12 + 2 * p0))), (2, .int p1), (3, .int p2), (4, .int 0), (5, .int 0)]) [2, 3, 4, 5, 1, 0] rfl ?_
  obtain ⟨n, h⟩ := h
  exact zl_X7_endOf_L6 hrw b (fun S h => z_X7_endOf_B65 hrw b _ h) n _ _ _ _ _ _ _ h

def w_X8_unlike_B63 (cy : Nat → ClassId) (tE : Nat) (post : Int32 → KS → Prop) (k35 : KS → Int32 → Int32 → Int64 → Int32 → Int32 → Prop) (k71 : KS → Int32 → Int32 → Int64 → Int32 → Prop) (S : KS) (x1 : Int32) (x2 : Int32) (x3 : Int64) (x6 : Int32) (y0 : Int32) : Prop :=
  k35 S x1 x2 x3 y0 (x6 + 1)

set_option maxHeartbeats 200000 in
set_option maxRecDepth 100000 in
theorem z_X8_unlike_B63 {p : Program} {l : Launch} {e : Env} {R : Room} {s : State} {m : MethodId} {args : Array Value} {below : List Frame} {meth : Method} {c : Code} {D : va_G} {cy : Nat → ClassId} {T0 tB tE : Nat} {A : Nat → Prop} {a : Nat → Nat} {rw : Nat → Option Nat} (hrw : ∀ i, i < 6 → rw i = some (a (12 + 2 * i))) {post : Int32 → KS → Prop} {k35 : KS → Int32 → Int32 → Int64 → Int32 → Int32 → Prop} {k71 : KS → Int32 → Int32 → Int64 → Int32 → Prop} (b : Bz p R s m args meth c D cy T0 tB tE A 7 cX8_unlike RX8 (some .int) "unlike" 3 74 0 0) (hk35 : ∀ (S : KS) (x1 : Int32) (x2 : Int32) (x3 : Int64) (x5 : Int32) (x6 : Int32), k35 S x1 x2 x3 x5 x6 → Z p l e R s m args below meth c D A 7 (MQ below (QI D (U := KS) post (kw cy a rw) A) args s 0 0 A) 0 0 (kw cy a rw S) [(0, .ref (a 38)), (1, .int x1), (2, .int x2), (3, .long x3), (5, .int x5), (6, .int x6)] 35 []) (hk71 : ∀ (S : KS) (x1 : Int32) (x2 : Int32) (x3 : Int64) (x5 : Int32), k71 S x1 x2 x3 x5 → Z p l e R s m args below meth c D A 7 (MQ below (QI D (U := KS) post (kw cy a rw) A) args s 0 0 A) 0 0 (kw cy a rw S) [(0, .ref (a 38)), (1, .int x1), (2, .int x2), (3, .long x3), (5, .int x5)] 71 []) (S : KS) (x1 : Int32) (x2 : Int32) (x3 : Int64) (x6 : Int32) (y0 : Int32) (h : w_X8_unlike_B63 cy tE post k35 k71 S x1 x2 x3 x6 y0) : Z p l e R s m args below meth c D A 7 (MQ below (QI D (U := KS) post (kw cy a rw) A) args s 0 0 A) 0 0 (kw cy a rw S) [(0, .ref (a 38)), (1, .int x1), (2, .int x2), (3, .long x3), (6, .int x6)] 63 [.int y0] := by
  unfold w_X8_unlike_B63 at h
  refine z_istore (lv' := [(5, .int y0), (0, .ref (a 38)), (1, .int x1), (2, .int x2), (3, .long x3), (6, .int x6)]) b dX8_unlike_63 (by decide) rfl ?_
  refine z_iinc (k9 := 5) (v := (x6 + 1)) (lv' := [(6, .int (x6 + 1)), (5, .int y0), (0, .ref (a 38)), (1, .int x1), (2, .int x2), (3, .long x3)]) b dX8_unlike_65 rfl rfl (by decide) rfl ?_
  refine z_goto (tgt := 35) b dX8_unlike_68 (by decide) ?_
  refine z_lv0 (lv' := [(0, .ref (a 38)), (1, .int x1), (2, .int x2), (3, .long x3), (5, .int y0), (6, .int (x6 + 1))]) [2, 3, 4, 5, 1, 0] rfl ?_
  exact hk35 _ _ _ _ _ _ h

def w_X8_unlike_F35 (cy : Nat → ClassId) (tE : Nat) (post : Int32 → KS → Prop) (k71 : KS → Int32 → Int32 → Int64 → Int32 → Prop) (k35 : KS → Int32 → Int32 → Int64 → Int32 → Int32 → Prop) (S : KS) (x1 : Int32) (x2 : Int32) (x3 : Int64) (x5 : Int32) (x6 : Int32) : Prop :=
  ((x1.toInt ≤ x6.toInt → k71 S x1 x2 x3 x5) ∧ (x6.toInt < x1.toInt → ((x5.toInt = 0 → k71 S x1 x2 x3 x5) ∧ (x5.toInt ≠ 0 → (0 ≤ x6.toInt ∧ x6.toInt < 400) ∧ (((lg_cmp ((al S.1 3) x6.toNatClampNeg) x3).toInt = 0 → w_X8_unlike_B63 cy tE post k35 k71 S x1 x2 x3 x6 0) ∧ ((lg_cmp ((al S.1 3) x6.toNatClampNeg) x3).toInt ≠ 0 → w_X8_unlike_B63 cy tE post k35 k71 S x1 x2 x3 x6 1))))))

set_option maxHeartbeats 200000 in
set_option maxRecDepth 100000 in
theorem z_X8_unlike_F35 {p : Program} {l : Launch} {e : Env} {R : Room} {s : State} {m : MethodId} {args : Array Value} {below : List Frame} {meth : Method} {c : Code} {D : va_G} {cy : Nat → ClassId} {T0 tB tE : Nat} {A : Nat → Prop} {a : Nat → Nat} {rw : Nat → Option Nat} (hrw : ∀ i, i < 6 → rw i = some (a (12 + 2 * i))) {post : Int32 → KS → Prop} {k71 : KS → Int32 → Int32 → Int64 → Int32 → Prop} {k35 : KS → Int32 → Int32 → Int64 → Int32 → Int32 → Prop} (b : Bz p R s m args meth c D cy T0 tB tE A 7 cX8_unlike RX8 (some .int) "unlike" 3 74 0 0) (hk71 : ∀ (S : KS) (x1 : Int32) (x2 : Int32) (x3 : Int64) (x5 : Int32), k71 S x1 x2 x3 x5 → Z p l e R s m args below meth c D A 7 (MQ below (QI D (U := KS) post (kw cy a rw) A) args s 0 0 A) 0 0 (kw cy a rw S) [(0, .ref (a 38)), (1, .int x1), (2, .int x2), (3, .long x3), (5, .int x5)] 71 []) (hk35 : ∀ (S : KS) (x1 : Int32) (x2 : Int32) (x3 : Int64) (x5 : Int32) (x6 : Int32), k35 S x1 x2 x3 x5 x6 → Z p l e R s m args below meth c D A 7 (MQ below (QI D (U := KS) post (kw cy a rw) A) args s 0 0 A) 0 0 (kw cy a rw S) [(0, .ref (a 38)), (1, .int x1), (2, .int x2), (3, .long x3), (5, .int x5), (6, .int x6)] 35 []) (S : KS) (x1 : Int32) (x2 : Int32) (x3 : Int64) (x5 : Int32) (x6 : Int32) (h : w_X8_unlike_F35 cy tE post k71 k35 S x1 x2 x3 x5 x6) : Z p l e R s m args below meth c D A 7 (MQ below (QI D (U := KS) post (kw cy a rw) A) args s 0 0 A) 0 0 (kw cy a rw S) [(0, .ref (a 38)), (1, .int x1), (2, .int x2), (3, .long x3), (5, .int x5), (6, .int x6)] 35 [] := by
  unfold w_X8_unlike_F35 at h
  refine z_iload b dX8_unlike_35 rfl ?_
  refine z_iload_n b dX8_unlike_37 rfl rfl ?_
  refine y_icmp_ge (tgt := 71) (xl := x6.toInt) (yl := x1.toInt) b rfl rfl dX8_unlike_38 (by decide) (fun c1 => ?_) (fun c1 => ?_)
  · replace h := h.1 c1
    refine z_lv0 (lv' := [(0, .ref (a 38)), (1, .int x1), (2, .int x2), (3, .long x3), (5, .int x5)]) [0, 1, 2, 3, 4] rfl ?_
    exact hk71 _ _ _ _ _ h
  · replace h := h.2 c1
    refine z_iload b dX8_unlike_41 rfl ?_
    refine y_if_eq (tgt := 71) (xl := x5.toInt) b rfl dX8_unlike_43 (by decide) (fun c1 => ?_) (fun c1 => ?_)
    · replace h := h.1 c1
      refine z_lv0 (lv' := [(0, .ref (a 38)), (1, .int x1), (2, .int x2), (3, .long x3), (5, .int x5)]) [0, 1, 2, 3, 4] rfl ?_
      exact hk71 _ _ _ _ _ h
    · replace h := h.2 c1
      refine z_aload_n b dX8_unlike_46 rfl rfl ?_
      refine z_get (q0 := 38) (k9 := 8) (v := .ref (a 44)) b (kw_38 cy a rw S) rfl in_X8 (by decide) wf_X8_35 rfl dX8_unlike_47 ?_
      refine z_iload b dX8_unlike_50 rfl ?_
      obtain ⟨g5, h⟩ := h
      refine y_lald (q0 := 44) (j := x6.toNatClampNeg) (v := ((al S.1 3) x6.toNatClampNeg)) b (kw_44 cy a rw S) (zx_r g5.1 g5.2) rfl dX8_unlike_52 ?_
      refine z_lload_n b dX8_unlike_53 rfl rfl ?_
      refine z_lcmp b dX8_unlike_54 rfl ?_
      refine y_if_eq (tgt := 62) (xl := (lg_cmp ((al S.1 3) x6.toNatClampNeg) x3).toInt) b rfl dX8_unlike_55 (by decide) (fun c1 => ?_) (fun c1 => ?_)
      · replace h := h.1 c1
        refine z_iconst (v := 0) b dX8_unlike_62 (by decide) ?_
        refine z_lv0 (lv' := [(0, .ref (a 38)), (1, .int x1), (2, .int x2), (3, .long x3), (6, .int x6)]) [0, 1, 2, 3, 5] rfl ?_
        exact z_X8_unlike_B63 hrw b hk35 hk71 _ _ _ _ _ _ h
      · replace h := h.2 c1
        refine z_iconst (v := 1) b dX8_unlike_58 (by decide) ?_
        refine z_goto (tgt := 63) b dX8_unlike_59 (by decide) ?_
        refine z_lv0 (lv' := [(0, .ref (a 38)), (1, .int x1), (2, .int x2), (3, .long x3), (6, .int x6)]) [0, 1, 2, 3, 5] rfl ?_
        exact z_X8_unlike_B63 hrw b hk35 hk71 _ _ _ _ _ _ h

set_option maxHeartbeats 200000 in
set_option maxRecDepth 100000 in
theorem zl_X8_unlike_L35 {p : Program} {l : Launch} {e : Env} {R : Room} {s : State} {m : MethodId} {args : Array Value} {below : List Frame} {meth : Method} {c : Code} {D : va_G} {cy : Nat → ClassId} {T0 tB tE : Nat} {A : Nat → Prop} {a : Nat → Nat} {rw : Nat → Option Nat} (hrw : ∀ i, i < 6 → rw i = some (a (12 + 2 * i))) {post : Int32 → KS → Prop} {k71 : KS → Int32 → Int32 → Int64 → Int32 → Prop} (b : Bz p R s m args meth c D cy T0 tB tE A 7 cX8_unlike RX8 (some .int) "unlike" 3 74 0 0) (hk71 : ∀ (S : KS) (x1 : Int32) (x2 : Int32) (x3 : Int64) (x5 : Int32), k71 S x1 x2 x3 x5 → Z p l e R s m args below meth c D A 7 (MQ below (QI D (U := KS) post (kw cy a rw) A) args s 0 0 A) 0 0 (kw cy a rw S) [(0, .ref (a 38)), (1, .int x1), (2, .int x2), (3, .long x3), (5, .int x5)] 71 []) : ∀ (n : Nat) (S : KS) (x1 : Int32) (x2 : Int32) (x3 : Int64) (x5 : Int32) (x6 : Int32), lpn (w_X8_unlike_F35 cy tE post k71) (fun _ _ _ _ _ _ => False) n S x1 x2 x3 x5 x6 → Z p l e R s m args below meth c D A 7 (MQ below (QI D (U := KS) post (kw cy a rw) A) args s 0 0 A) 0 0 (kw cy a rw S) [(0, .ref (a 38)), (1, .int x1), (2, .int x2), (3, .long x3), (5, .int x5), (6, .int x6)] 35 [] := by
  intro n
  induction n with
  | zero => intro _ _ _ _ _ _ h; exact h.elim
  | succ n ih => intro S x1 x2 x3 x5 x6 h; exact z_X8_unlike_F35 hrw b hk71 ih S x1 x2 x3 x5 x6 h

def w_X8_unlike_B86 (cy : Nat → ClassId) (tE : Nat) (post : Int32 → KS → Prop) (k4 : KS → Int32 → Int32 → Prop) (k92 : KS → Int32 → Prop) (S : KS) (x1 : Int32) (x2 : Int32) : Prop :=
  k4 S x1 (x2 + 1)

set_option maxHeartbeats 200000 in
set_option maxRecDepth 100000 in
theorem z_X8_unlike_B86 {p : Program} {l : Launch} {e : Env} {R : Room} {s : State} {m : MethodId} {args : Array Value} {below : List Frame} {meth : Method} {c : Code} {D : va_G} {cy : Nat → ClassId} {T0 tB tE : Nat} {A : Nat → Prop} {a : Nat → Nat} {rw : Nat → Option Nat} (hrw : ∀ i, i < 6 → rw i = some (a (12 + 2 * i))) {post : Int32 → KS → Prop} {k4 : KS → Int32 → Int32 → Prop} {k92 : KS → Int32 → Prop} (b : Bz p R s m args meth c D cy T0 tB tE A 7 cX8_unlike RX8 (some .int) "unlike" 3 74 0 0) (hk4 : ∀ (S : KS) (x1 : Int32) (x2 : Int32), k4 S x1 x2 → Z p l e R s m args below meth c D A 7 (MQ below (QI D (U := KS) post (kw cy a rw) A) args s 0 0 A) 0 0 (kw cy a rw S) [(0, .ref (a 38)), (1, .int x1), (2, .int x2)] 4 []) (hk92 : ∀ (S : KS) (x1 : Int32), k92 S x1 → Z p l e R s m args below meth c D A 7 (MQ below (QI D (U := KS) post (kw cy a rw) A) args s 0 0 A) 0 0 (kw cy a rw S) [(1, .int x1)] 92 []) (S : KS) (x1 : Int32) (x2 : Int32) (h : w_X8_unlike_B86 cy tE post k4 k92 S x1 x2) : Z p l e R s m args below meth c D A 7 (MQ below (QI D (U := KS) post (kw cy a rw) A) args s 0 0 A) 0 0 (kw cy a rw S) [(0, .ref (a 38)), (1, .int x1), (2, .int x2)] 86 [] := by
  unfold w_X8_unlike_B86 at h
  refine z_iinc (k9 := 2) (v := (x2 + 1)) (lv' := [(2, .int (x2 + 1)), (0, .ref (a 38)), (1, .int x1)]) b dX8_unlike_86 rfl rfl (by decide) rfl ?_
  refine z_goto (tgt := 4) b dX8_unlike_89 (by decide) ?_
  refine z_lv0 (lv' := [(0, .ref (a 38)), (1, .int x1), (2, .int (x2 + 1))]) [1, 2, 0] rfl ?_
  exact hk4 _ _ _ h

def w_X8_unlike_B71 (cy : Nat → ClassId) (tE : Nat) (post : Int32 → KS → Prop) (k4 : KS → Int32 → Int32 → Prop) (k92 : KS → Int32 → Prop) (S : KS) (x1 : Int32) (x2 : Int32) (x3 : Int64) (x5 : Int32) : Prop :=
  ((x5.toInt = 0 → w_X8_unlike_B86 cy tE post k4 k92 S x1 x2) ∧ (x5.toInt ≠ 0 → (0 ≤ x1.toInt ∧ x1.toInt < 400) ∧ w_X8_unlike_B86 cy tE post k4 k92 (ksv S 3 (x1.toNatClampNeg) x3) (x1 + 1) x2))

set_option maxHeartbeats 200000 in
set_option maxRecDepth 100000 in
theorem z_X8_unlike_B71 {p : Program} {l : Launch} {e : Env} {R : Room} {s : State} {m : MethodId} {args : Array Value} {below : List Frame} {meth : Method} {c : Code} {D : va_G} {cy : Nat → ClassId} {T0 tB tE : Nat} {A : Nat → Prop} {a : Nat → Nat} {rw : Nat → Option Nat} (hrw : ∀ i, i < 6 → rw i = some (a (12 + 2 * i))) {post : Int32 → KS → Prop} {k4 : KS → Int32 → Int32 → Prop} {k92 : KS → Int32 → Prop} (b : Bz p R s m args meth c D cy T0 tB tE A 7 cX8_unlike RX8 (some .int) "unlike" 3 74 0 0) (hk4 : ∀ (S : KS) (x1 : Int32) (x2 : Int32), k4 S x1 x2 → Z p l e R s m args below meth c D A 7 (MQ below (QI D (U := KS) post (kw cy a rw) A) args s 0 0 A) 0 0 (kw cy a rw S) [(0, .ref (a 38)), (1, .int x1), (2, .int x2)] 4 []) (hk92 : ∀ (S : KS) (x1 : Int32), k92 S x1 → Z p l e R s m args below meth c D A 7 (MQ below (QI D (U := KS) post (kw cy a rw) A) args s 0 0 A) 0 0 (kw cy a rw S) [(1, .int x1)] 92 []) (S : KS) (x1 : Int32) (x2 : Int32) (x3 : Int64) (x5 : Int32) (h : w_X8_unlike_B71 cy tE post k4 k92 S x1 x2 x3 x5) : Z p l e R s m args below meth c D A 7 (MQ below (QI D (U := KS) post (kw cy a rw) A) args s 0 0 A) 0 0 (kw cy a rw S) [(0, .ref (a 38)), (1, .int x1), (2, .int x2), (3, .long x3), (5, .int x5)] 71 [] := by
  unfold w_X8_unlike_B71 at h
  refine z_iload b dX8_unlike_71 rfl ?_
  refine y_if_eq (tgt := 86) (xl := x5.toInt) b rfl dX8_unlike_73 (by decide) (fun c1 => ?_) (fun c1 => ?_)
  · replace h := h.1 c1
    refine z_lv0 (lv' := [(0, .ref (a 38)), (1, .int x1), (2, .int x2)]) [0, 1, 2] rfl ?_
    exact z_X8_unlike_B86 hrw b hk4 hk92 _ _ _ h
  · replace h := h.2 c1
    refine z_aload_n b dX8_unlike_76 rfl rfl ?_
    refine z_get (q0 := 38) (k9 := 8) (v := .ref (a 44)) b (kw_38 cy a rw S) rfl in_X8 (by decide) wf_X8_35 rfl dX8_unlike_77 ?_
    refine z_iload_n b dX8_unlike_80 rfl rfl ?_
    refine z_lload_n b dX8_unlike_81 rfl rfl ?_
    obtain ⟨g6, h⟩ := h
    refine y_last (q0 := 44) (j := x1.toNatClampNeg) b (kw_44 cy a rw S) (zx_r g6.1 g6.2) dX8_unlike_82 (kwa_44 cy a rw S (x1.toNatClampNeg) x3) ?_
    refine z_iinc (k9 := 1) (v := (x1 + 1)) (lv' := [(1, .int (x1 + 1)), (0, .ref (a 38)), (2, .int x2), (3, .long x3), (5, .int x5)]) b dX8_unlike_83 rfl rfl (by decide) rfl ?_
    refine z_lv0 (lv' := [(0, .ref (a 38)), (1, .int (x1 + 1)), (2, .int x2)]) [1, 0, 2] rfl ?_
    exact z_X8_unlike_B86 hrw b hk4 hk92 _ _ _ h

def w_X8_unlike_F4 (cy : Nat → ClassId) (tE : Nat) (post : Int32 → KS → Prop) (k92 : KS → Int32 → Prop) (k4 : KS → Int32 → Int32 → Prop) (S : KS) (x1 : Int32) (x2 : Int32) : Prop :=
  (((fi S.1 33).toInt ≤ x2.toInt → k92 S x1) ∧ (x2.toInt < (fi S.1 33).toInt → ((400 ≤ x2.toInt → k92 S x1) ∧ (x2.toInt < 400 → w_X8_load cy tE S x2 (fun S2 => w_X8_leastName cy tE S2 (fun r3 S4 => ∃ n, lpn (w_X8_unlike_F35 cy tE post (w_X8_unlike_B71 cy tE post k4 k92)) (fun _ _ _ _ _ _ => False) n S4 x1 x2 r3 1 0))))))

set_option maxHeartbeats 200000 in
set_option maxRecDepth 100000 in
theorem z_X8_unlike_F4 {p : Program} {l : Launch} {e : Env} {R : Room} {s : State} {m : MethodId} {args : Array Value} {below : List Frame} {meth : Method} {c : Code} {D : va_G} {cy : Nat → ClassId} {T0 tB tE : Nat} {A : Nat → Prop} {a : Nat → Nat} {rw : Nat → Option Nat} (hrw : ∀ i, i < 6 → rw i = some (a (12 + 2 * i))) {post : Int32 → KS → Prop} {k92 : KS → Int32 → Prop} {k4 : KS → Int32 → Int32 → Prop} (b : Bz p R s m args meth c D cy T0 tB tE A 7 cX8_unlike RX8 (some .int) "unlike" 3 74 0 0) (hk92 : ∀ (S : KS) (x1 : Int32), k92 S x1 → Z p l e R s m args below meth c D A 7 (MQ below (QI D (U := KS) post (kw cy a rw) A) args s 0 0 A) 0 0 (kw cy a rw S) [(1, .int x1)] 92 []) (hk4 : ∀ (S : KS) (x1 : Int32) (x2 : Int32), k4 S x1 x2 → Z p l e R s m args below meth c D A 7 (MQ below (QI D (U := KS) post (kw cy a rw) A) args s 0 0 A) 0 0 (kw cy a rw S) [(0, .ref (a 38)), (1, .int x1), (2, .int x2)] 4 []) (S : KS) (x1 : Int32) (x2 : Int32) (h : w_X8_unlike_F4 cy tE post k92 k4 S x1 x2) : Z p l e R s m args below meth c D A 7 (MQ below (QI D (U := KS) post (kw cy a rw) A) args s 0 0 A) 0 0 (kw cy a rw S) [(0, .ref (a 38)), (1, .int x1), (2, .int x2)] 4 [] := by
  unfold w_X8_unlike_F4 at h
  refine z_iload_n b dX8_unlike_4 rfl rfl ?_
  refine z_aload_n b dX8_unlike_5 rfl rfl ?_
  refine z_get (q0 := 38) (k9 := 17) (v := .int (fi S.1 33)) b (kw_38 cy a rw S) rfl in_X8 (by decide) wf_X8_64 rfl dX8_unlike_6 ?_
  refine y_icmp_ge (tgt := 92) (xl := x2.toInt) (yl := (fi S.1 33).toInt) b rfl rfl dX8_unlike_9 (by decide) (fun c1 => ?_) (fun c1 => ?_)
  · replace h := h.1 c1
    refine z_lv0 (lv' := [(1, .int x1)]) [1] rfl ?_
    exact hk92 _ _ h
  · replace h := h.2 c1
    refine z_iload_n b dX8_unlike_12 rfl rfl ?_
    refine z_sipush (v := 400) b dX8_unlike_13 (by decide) ?_
    refine y_icmp_ge (tgt := 92) (xl := x2.toInt) (yl := 400) b rfl (by decide) dX8_unlike_16 (by decide) (fun c1 => ?_) (fun c1 => ?_)
    · replace h := h.1 c1
      refine z_lv0 (lv' := [(1, .int x1)]) [1] rfl ?_
      exact hk92 _ _ h
    · replace h := h.2 c1
      refine z_aload_n b dX8_unlike_19 rfl rfl ?_
      refine z_iload_n b dX8_unlike_20 rfl rfl ?_
      refine z_callv b (z_runV (q0 := 38) (As := [.int x2]) (st := []) b (k_X8_load hrw S x2 _ h) cf_X8_load (kw_38 cy a rw S) rfl wm_X8_153 wi_X8_load ws_X8_load dX8_unlike_21 rfl (Nat.le_of_ble_eq_true rfl) ⟨by decide, by decide, Nat.le_of_ble_eq_true rfl, Nat.le_of_ble_eq_true rfl⟩) (fun S2 h => ?_)
      refine z_aload_n b dX8_unlike_24 rfl rfl ?_
      refine z_calll b (z_runV (q0 := 38) (As := []) (st := []) b (k_X8_leastName hrw S2 _ h) cf_X8_leastName (kw_38 cy a rw S2) rfl wm_X8_167 wi_X8_leastName ws_X8_leastName dX8_unlike_25 rfl (Nat.le_of_ble_eq_true rfl) ⟨by decide, by decide, Nat.le_of_ble_eq_true rfl, Nat.le_of_ble_eq_true rfl⟩) (fun r3 S4 h => ?_)
      refine z_lstore_n (lv' := [(3, .long r3), (0, .ref (a 38)), (1, .int x1), (2, .int x2)]) b dX8_unlike_28 rfl (by decide) rfl ?_
      refine z_iconst (v := 1) b dX8_unlike_29 (by decide) ?_
      refine z_istore (lv' := [(5, .int 1), (3, .long r3), (0, .ref (a 38)), (1, .int x1), (2, .int x2)]) b dX8_unlike_30 (by decide) rfl ?_
      refine z_iconst (v := 0) b dX8_unlike_32 (by decide) ?_
      refine z_istore (lv' := [(6, .int 0), (5, .int 1), (3, .long r3), (0, .ref (a 38)), (1, .int x1), (2, .int x2)]) b dX8_unlike_33 (by decide) rfl ?_
      refine z_lv0 (lv' := [(0, .ref (a 38)), (1, .int x1), (2, .int x2), (3, .long r3), (5, .int 1), (6, .int 0)]) [3, 4, 5, 2, 1, 0] rfl ?_
      obtain ⟨n, h⟩ := h
      exact zl_X8_unlike_L35 hrw b (fun S x1 x2 x3 x5 h => z_X8_unlike_B71 hrw b hk4 hk92 _ _ _ _ _ h) n _ _ _ _ _ _ h

set_option maxHeartbeats 200000 in
set_option maxRecDepth 100000 in
theorem zl_X8_unlike_L4 {p : Program} {l : Launch} {e : Env} {R : Room} {s : State} {m : MethodId} {args : Array Value} {below : List Frame} {meth : Method} {c : Code} {D : va_G} {cy : Nat → ClassId} {T0 tB tE : Nat} {A : Nat → Prop} {a : Nat → Nat} {rw : Nat → Option Nat} (hrw : ∀ i, i < 6 → rw i = some (a (12 + 2 * i))) {post : Int32 → KS → Prop} {k92 : KS → Int32 → Prop} (b : Bz p R s m args meth c D cy T0 tB tE A 7 cX8_unlike RX8 (some .int) "unlike" 3 74 0 0) (hk92 : ∀ (S : KS) (x1 : Int32), k92 S x1 → Z p l e R s m args below meth c D A 7 (MQ below (QI D (U := KS) post (kw cy a rw) A) args s 0 0 A) 0 0 (kw cy a rw S) [(1, .int x1)] 92 []) : ∀ (n : Nat) (S : KS) (x1 : Int32) (x2 : Int32), lpn (w_X8_unlike_F4 cy tE post k92) (fun _ _ _ => False) n S x1 x2 → Z p l e R s m args below meth c D A 7 (MQ below (QI D (U := KS) post (kw cy a rw) A) args s 0 0 A) 0 0 (kw cy a rw S) [(0, .ref (a 38)), (1, .int x1), (2, .int x2)] 4 [] := by
  intro n
  induction n with
  | zero => intro _ _ _ h; exact h.elim
  | succ n ih => intro S x1 x2 h; exact z_X8_unlike_F4 hrw b hk92 ih S x1 x2 h

def w_X8_unlike_B92 (cy : Nat → ClassId) (tE : Nat) (post : Int32 → KS → Prop) (S : KS) (x1 : Int32) : Prop :=
  post x1 S

set_option maxHeartbeats 200000 in
set_option maxRecDepth 100000 in
theorem z_X8_unlike_B92 {p : Program} {l : Launch} {e : Env} {R : Room} {s : State} {m : MethodId} {args : Array Value} {below : List Frame} {meth : Method} {c : Code} {D : va_G} {cy : Nat → ClassId} {T0 tB tE : Nat} {A : Nat → Prop} {a : Nat → Nat} {rw : Nat → Option Nat} (hrw : ∀ i, i < 6 → rw i = some (a (12 + 2 * i))) {post : Int32 → KS → Prop} (b : Bz p R s m args meth c D cy T0 tB tE A 7 cX8_unlike RX8 (some .int) "unlike" 3 74 0 0) (S : KS) (x1 : Int32) (h : w_X8_unlike_B92 cy tE post S x1) : Z p l e R s m args below meth c D A 7 (MQ below (QI D (U := KS) post (kw cy a rw) A) args s 0 0 A) 0 0 (kw cy a rw S) [(1, .int x1)] 92 [] := by
  unfold w_X8_unlike_B92 at h
  refine z_iload_n b dX8_unlike_92 rfl rfl ?_
  exact z_iret (u := S) b rfl dX8_unlike_93 h rfl (by decide) (by decide)

def w_X8_unlike (cy : Nat → ClassId) (tE : Nat) (S : KS)  (post : Int32 → KS → Prop) : Prop :=
  ∃ n, lpn (w_X8_unlike_F4 cy tE post (w_X8_unlike_B92 cy tE post)) (fun _ _ _ => False) n S 0 0

set_option maxHeartbeats 200000 in
set_option maxRecDepth 100000 in
theorem k_X8_unlike {l : Launch} {D : va_G} {cy : Nat → ClassId} {T0 tB tE : Nat} {a : Nat → Nat} {rw : Nat → Option Nat} (hrw : ∀ i, i < 6 → rw i = some (a (12 + 2 * i))) (S : KS)  (post : Int32 → KS → Prop) (h : w_X8_unlike cy tE S  post) : Ct l D cy T0 tB tE yX8_unlike cX8_unlike 7 (some .int) 3 74 0 0 (kw cy a rw S) [.ref (a 38)] (QI D (U := KS) post (kw cy a rw)) := by
  refine Ct.ofZ RX8 "unlike" [(0, .ref (a 38))] rfl rfl rfl rfl (Nat.le_of_ble_eq_true rfl) ?_
  intro p e R s m args below meth c A b
  unfold w_X8_unlike at h
  refine z_iconst (v := 0) b dX8_unlike_0 (by decide) ?_
  refine z_istore_n (lv' := [(1, .int 0), (0, .ref (a 38))]) b dX8_unlike_1 rfl (by decide) rfl ?_
  refine z_iconst (v := 0) b dX8_unlike_2 (by decide) ?_
  refine z_istore_n (lv' := [(2, .int 0), (1, .int 0), (0, .ref (a 38))]) b dX8_unlike_3 rfl (by decide) rfl ?_
  refine z_lv0 (lv' := [(0, .ref (a 38)), (1, .int 0), (2, .int 0)]) [2, 1, 0] rfl ?_
  obtain ⟨n, h⟩ := h
  exact zl_X8_unlike_L4 hrw b (fun S x1 h => z_X8_unlike_B92 hrw b _ _ h) n _ _ _ h

def w_X11_met_B14 (cy : Nat → ClassId) (tE : Nat) (post : Int32 → KS → Prop) (S : KS)  : Prop :=
  post (-1) S

set_option maxHeartbeats 200000 in
set_option maxRecDepth 100000 in
theorem z_X11_met_B14 {p : Program} {l : Launch} {e : Env} {R : Room} {s : State} {m : MethodId} {args : Array Value} {below : List Frame} {meth : Method} {c : Code} {D : va_G} {cy : Nat → ClassId} {T0 tB tE : Nat} {A : Nat → Prop} {a : Nat → Nat} {rw : Nat → Option Nat} (hrw : ∀ i, i < 6 → rw i = some (a (12 + 2 * i))) {post : Int32 → KS → Prop} (b : Bz p R s m args meth c D cy T0 tB tE A 4 cX11_met RX11 (some .int) "met" 6 144 0 0) (S : KS)  (h : w_X11_met_B14 cy tE post S ) : Z p l e R s m args below meth c D A 4 (MQ below (QI D (U := KS) post (kw cy a rw) A) args s 0 0 A) 0 0 (kw cy a rw S) [] 14 [] := by
  unfold w_X11_met_B14 at h
  refine z_iconst (v := (-1)) b dX11_met_14 (by decide) ?_
  exact z_iret (u := S) b rfl dX11_met_15 h rfl (by decide) (by decide)

def w_X11_met_B69 (cy : Nat → ClassId) (tE : Nat) (post : Int32 → KS → Prop) (S : KS) (y0 : Int32) : Prop :=
  post y0 S

set_option maxHeartbeats 200000 in
set_option maxRecDepth 100000 in
theorem z_X11_met_B69 {p : Program} {l : Launch} {e : Env} {R : Room} {s : State} {m : MethodId} {args : Array Value} {below : List Frame} {meth : Method} {c : Code} {D : va_G} {cy : Nat → ClassId} {T0 tB tE : Nat} {A : Nat → Prop} {a : Nat → Nat} {rw : Nat → Option Nat} (hrw : ∀ i, i < 6 → rw i = some (a (12 + 2 * i))) {post : Int32 → KS → Prop} (b : Bz p R s m args meth c D cy T0 tB tE A 4 cX11_met RX11 (some .int) "met" 6 144 0 0) (S : KS) (y0 : Int32) (h : w_X11_met_B69 cy tE post S y0) : Z p l e R s m args below meth c D A 4 (MQ below (QI D (U := KS) post (kw cy a rw) A) args s 0 0 A) 0 0 (kw cy a rw S) [] 69 [.int y0] := by
  unfold w_X11_met_B69 at h
  exact z_iret (u := S) b rfl dX11_met_69 h rfl (by decide) (by decide)

def w_X11_met (cy : Nat → ClassId) (tE : Nat) (S : KS) (p0 : Int32) (p1 : Int32) (p2 : Int32) (post : Int32 → KS → Prop) : Prop :=
  w_X11_areLaws cy tE S p0 (fun r1 S2 => ((r1.toInt = 0 → w_X11_met_B14 cy tE post S2) ∧ (r1.toInt ≠ 0 → w_X11_isDepth cy tE S2 p1 (fun r3 S4 => ((r3.toInt ≠ 0 → w_X8_begin cy tE S4 p0 p1 7 0 (fun S6 => w_X8_finish cy tE S6 (fun S8 => (((fi S8.1 34).toInt = 0 → ((p2.toInt = 0 → w_X11_met_B69 cy tE post S8 (fi S8.1 33)) ∧ (p2.toInt ≠ 0 → w_X8_unlike cy tE S8 (fun r9 S10 => w_X11_met_B69 cy tE post S10 r9)))) ∧ ((fi S8.1 34).toInt ≠ 0 → post (-2) S8))))) ∧ (r3.toInt = 0 → w_X11_met_B14 cy tE post S4))))))

set_option maxHeartbeats 200000 in
set_option maxRecDepth 100000 in
theorem k_X11_met {l : Launch} {D : va_G} {cy : Nat → ClassId} {T0 tB tE : Nat} {a : Nat → Nat} {rw : Nat → Option Nat} (hrw : ∀ i, i < 6 → rw i = some (a (12 + 2 * i))) (S : KS) (p0 : Int32) (p1 : Int32) (p2 : Int32) (post : Int32 → KS → Prop) (h : w_X11_met cy tE S p0 p1 p2 post) : Ct l D cy T0 tB tE yX11_met cX11_met 4 (some .int) 6 144 0 0 (kw cy a rw S) [.ref (a 0), .int p0, .int p1, .int p2] (QI D (U := KS) post (kw cy a rw)) := by
  refine Ct.ofZ RX11 "met" [(0, .ref (a 0)), (1, .int p0), (2, .int p1), (3, .int p2)] rfl rfl rfl rfl (Nat.le_of_ble_eq_true rfl) ?_
  intro p e R s m args below meth c A b
  unfold w_X11_met at h
  refine z_iload_n b dX11_met_0 rfl rfl ?_
  refine z_calli b (z_runS (As := [.int p0]) (st := []) b (k_X11_areLaws hrw S p0 _ h) cf_X11_areLaws wm_X11_181 ws_X11_areLaws dX11_met_1 rfl (Nat.le_of_ble_eq_true rfl) ⟨by decide, by decide, Nat.le_of_ble_eq_true rfl, Nat.le_of_ble_eq_true rfl⟩) (fun r1 S2 h => ?_)
  refine y_if_eq (tgt := 14) (xl := r1.toInt) b rfl dX11_met_4 (by decide) (fun c1 => ?_) (fun c1 => ?_)
  · replace h := h.1 c1
    refine z_lv0 (lv' := []) [] rfl ?_
    exact z_X11_met_B14 hrw b _ h
  · replace h := h.2 c1
    refine z_iload_n b dX11_met_7 rfl rfl ?_
    refine z_calli b (z_runS (As := [.int p1]) (st := []) b (k_X11_isDepth hrw S2 p1 _ h) cf_X11_isDepth wm_X11_203 ws_X11_isDepth dX11_met_8 rfl (Nat.le_of_ble_eq_true rfl) ⟨by decide, by decide, Nat.le_of_ble_eq_true rfl, Nat.le_of_ble_eq_true rfl⟩) (fun r3 S4 h => ?_)
    refine y_if_ne (tgt := 16) (xl := r3.toInt) b rfl dX11_met_11 (by decide) (fun c1 => ?_) (fun c1 => ?_)
    · replace h := h.1 c1
      refine z_aload_n b dX11_met_16 rfl rfl ?_
      refine z_get (q0 := 0) (k9 := 6) (v := .ref (a 38)) b (kw_0 cy a rw S4) rfl in_X11 (by decide) wf_X11_52 rfl dX11_met_17 ?_
      refine z_iload_n b dX11_met_20 rfl rfl ?_
      refine z_iload_n b dX11_met_21 rfl rfl ?_
      refine z_bipush (v := 7) b dX11_met_22 (by decide) ?_
      refine z_iconst (v := 0) b dX11_met_24 (by decide) ?_
      refine z_callv b (z_runV (q0 := 38) (As := [.int p0, .int p1, .int 7, .int 0]) (st := []) b (k_X8_begin hrw S4 p0 p1 7 0 _ h) cf_X8_begin (kw_38 cy a rw S4) rfl wm_X11_206 wi_X8_begin ws_X8_begin dX11_met_25 rfl (Nat.le_of_ble_eq_true rfl) ⟨by decide, by decide, Nat.le_of_ble_eq_true rfl, Nat.le_of_ble_eq_true rfl⟩) (fun S6 h => ?_)
      refine z_aload_n b dX11_met_28 rfl rfl ?_
      refine z_get (q0 := 0) (k9 := 6) (v := .ref (a 38)) b (kw_0 cy a rw S6) rfl in_X11 (by decide) wf_X11_52 rfl dX11_met_29 ?_
      refine z_callv b (z_runV (q0 := 38) (As := []) (st := []) b (k_X8_finish hrw S6 _ h) cf_X8_finish (kw_38 cy a rw S6) rfl wm_X11_232 wi_X8_finish ws_X8_finish dX11_met_32 rfl (Nat.le_of_ble_eq_true rfl) ⟨by decide, by decide, Nat.le_of_ble_eq_true rfl, Nat.le_of_ble_eq_true rfl⟩) (fun S8 h => ?_)
      refine z_aload_n b dX11_met_35 rfl rfl ?_
      refine z_get (q0 := 0) (k9 := 6) (v := .ref (a 38)) b (kw_0 cy a rw S8) rfl in_X11 (by decide) wf_X11_52 rfl dX11_met_36 ?_
      refine z_get (q0 := 38) (k9 := 18) (v := .int (fi S8.1 34)) b (kw_38 cy a rw S8) rfl in_X8 (by decide) wf_X11_214 rfl dX11_met_39 ?_
      refine y_if_eq (tgt := 48) (xl := (fi S8.1 34).toInt) b rfl dX11_met_42 (by decide) (fun c1 => ?_) (fun c1 => ?_)
      · replace h := h.1 c1
        refine z_iload_n b dX11_met_48 rfl rfl ?_
        refine y_if_eq (tgt := 62) (xl := p2.toInt) b rfl dX11_met_49 (by decide) (fun c1 => ?_) (fun c1 => ?_)
        · replace h := h.1 c1
          refine z_aload_n b dX11_met_62 rfl rfl ?_
          refine z_get (q0 := 0) (k9 := 6) (v := .ref (a 38)) b (kw_0 cy a rw S8) rfl in_X11 (by decide) wf_X11_52 rfl dX11_met_63 ?_
          refine z_get (q0 := 38) (k9 := 17) (v := .int (fi S8.1 33)) b (kw_38 cy a rw S8) rfl in_X8 (by decide) wf_X11_213 rfl dX11_met_66 ?_
          refine z_lv0 (lv' := []) [] rfl ?_
          exact z_X11_met_B69 hrw b _ _ h
        · replace h := h.2 c1
          refine z_aload_n b dX11_met_52 rfl rfl ?_
          refine z_get (q0 := 0) (k9 := 6) (v := .ref (a 38)) b (kw_0 cy a rw S8) rfl in_X11 (by decide) wf_X11_52 rfl dX11_met_53 ?_
          refine z_calli b (z_runV (q0 := 38) (As := []) (st := []) b (k_X8_unlike hrw S8 _ h) cf_X8_unlike (kw_38 cy a rw S8) rfl wm_X11_235 wi_X8_unlike ws_X8_unlike dX11_met_56 rfl (Nat.le_of_ble_eq_true rfl) ⟨by decide, by decide, Nat.le_of_ble_eq_true rfl, Nat.le_of_ble_eq_true rfl⟩) (fun r9 S10 h => ?_)
          refine z_goto (tgt := 69) b dX11_met_59 (by decide) ?_
          refine z_lv0 (lv' := []) [] rfl ?_
          exact z_X11_met_B69 hrw b _ _ h
      · replace h := h.2 c1
        refine z_bipush (v := (-2)) b dX11_met_45 (by decide) ?_
        exact z_iret (u := S8) b rfl dX11_met_47 h rfl (by decide) (by decide)
    · replace h := h.2 c1
      refine z_lv0 (lv' := []) [] rfl ?_
      exact z_X11_met_B14 hrw b _ h

def w_X4_enact_B58 (cy : Nat → ClassId) (tE : Nat) (post : KS → Prop) (k2 : KS → Int32 → Nat → Int32 → Prop) (k64 : KS → Prop) (S : KS) (x1 : Int32) (x2 : Nat) (x3 : Int32) : Prop :=
  k2 S x1 x2 (x3 + 1)

set_option maxHeartbeats 200000 in
set_option maxRecDepth 100000 in
theorem z_X4_enact_B58 {p : Program} {l : Launch} {e : Env} {R : Room} {s : State} {m : MethodId} {args : Array Value} {below : List Frame} {meth : Method} {c : Code} {D : va_G} {cy : Nat → ClassId} {T0 tB tE : Nat} {A : Nat → Prop} {a : Nat → Nat} {rw : Nat → Option Nat} (hrw : ∀ i, i < 6 → rw i = some (a (12 + 2 * i))) {post : KS → Prop} {k2 : KS → Int32 → Nat → Int32 → Prop} {k64 : KS → Prop} (b : Bz p R s m args meth c D cy T0 tB tE A 5 cX4_enact RX4 none "enact" 3 64 0 0) (hk2 : ∀ (S : KS) (x1 : Int32) (x2 : Nat) (x3 : Int32), k2 S x1 x2 x3 → Z p l e R s m args below meth c D A 5 (MQ below (QV D (U := KS) post (kw cy a rw) A) args s 0 0 A) 0 0 (kw cy a rw S) [(0, .ref (a 33)), (1, .int x1), (2, .ref x2), (3, .int x3)] 2 []) (hk64 : ∀ (S : KS), k64 S → Z p l e R s m args below meth c D A 5 (MQ below (QV D (U := KS) post (kw cy a rw) A) args s 0 0 A) 0 0 (kw cy a rw S) [] 64 []) (S : KS) (x1 : Int32) (x2 : Nat) (x3 : Int32) (h : w_X4_enact_B58 cy tE post k2 k64 S x1 x2 x3) : Z p l e R s m args below meth c D A 5 (MQ below (QV D (U := KS) post (kw cy a rw) A) args s 0 0 A) 0 0 (kw cy a rw S) [(0, .ref (a 33)), (1, .int x1), (2, .ref x2), (3, .int x3)] 58 [] := by
  unfold w_X4_enact_B58 at h
  refine z_iinc (k9 := 3) (v := (x3 + 1)) (lv' := [(3, .int (x3 + 1)), (0, .ref (a 33)), (1, .int x1), (2, .ref x2)]) b dX4_enact_58 rfl rfl (by decide) rfl ?_
  refine z_goto (tgt := 2) b dX4_enact_61 (by decide) ?_
  refine z_lv0 (lv' := [(0, .ref (a 33)), (1, .int x1), (2, .ref x2), (3, .int (x3 + 1))]) [1, 2, 3, 0] rfl ?_
  exact hk2 _ _ _ _ h

def w_X4_enact_B57 (cy : Nat → ClassId) (tE : Nat) (post : KS → Prop) (k2 : KS → Int32 → Nat → Int32 → Prop) (k64 : KS → Prop) (S : KS) (x1 : Int32) (x2 : Nat) (x3 : Int32) (y0 : Option Nat) (y1 : Int32) : Prop :=
  (0 ≤ y1.toInt ∧ y1.toInt < 12) ∧ ((y0 = none → w_X4_enact_B58 cy tE post k2 k64 (ksg S (va_up S.2.2.1 (y1.toNatClampNeg) none)) x1 x2 x3) ∧ (∀ q7 : Nat, y0 = some q7 → ∃ (i8 : Nat) (f9 : List Value), S.2.2.2[i8]? = some (q7, .inr (1, f9)) ∧ w_X4_enact_B58 cy tE post k2 k64 (ksg S (va_up S.2.2.1 (y1.toNatClampNeg) (some q7))) x1 x2 x3))

set_option maxHeartbeats 200000 in
set_option maxRecDepth 100000 in
theorem z_X4_enact_B57 {p : Program} {l : Launch} {e : Env} {R : Room} {s : State} {m : MethodId} {args : Array Value} {below : List Frame} {meth : Method} {c : Code} {D : va_G} {cy : Nat → ClassId} {T0 tB tE : Nat} {A : Nat → Prop} {a : Nat → Nat} {rw : Nat → Option Nat} (hrw : ∀ i, i < 6 → rw i = some (a (12 + 2 * i))) {post : KS → Prop} {k2 : KS → Int32 → Nat → Int32 → Prop} {k64 : KS → Prop} (b : Bz p R s m args meth c D cy T0 tB tE A 5 cX4_enact RX4 none "enact" 3 64 0 0) (hk2 : ∀ (S : KS) (x1 : Int32) (x2 : Nat) (x3 : Int32), k2 S x1 x2 x3 → Z p l e R s m args below meth c D A 5 (MQ below (QV D (U := KS) post (kw cy a rw) A) args s 0 0 A) 0 0 (kw cy a rw S) [(0, .ref (a 33)), (1, .int x1), (2, .ref x2), (3, .int x3)] 2 []) (hk64 : ∀ (S : KS), k64 S → Z p l e R s m args below meth c D A 5 (MQ below (QV D (U := KS) post (kw cy a rw) A) args s 0 0 A) 0 0 (kw cy a rw S) [] 64 []) (S : KS) (x1 : Int32) (x2 : Nat) (x3 : Int32) (y0 : Option Nat) (y1 : Int32) (h : w_X4_enact_B57 cy tE post k2 k64 S x1 x2 x3 y0 y1) : Z p l e R s m args below meth c D A 5 (MQ below (QV D (U := KS) post (kw cy a rw) A) args s 0 0 A) 0 0 (kw cy a rw S) [(0, .ref (a 33)), (1, .int x1), (2, .ref x2), (3, .int x3)] 57 [va_rf y0, .int y1, .ref (a 34)] := by
  unfold w_X4_enact_B57 at h
  obtain ⟨g6, h⟩ := h
  cases y0 with
  | none =>
    replace h := h.1 rfl
    refine y_aastN (q0 := 34) (t0 := 3) (j := y1.toNatClampNeg) b (kw_34 cy a rw S) rfl (zx_r g6.1 g6.2) dX4_enact_57 (kwg cy a rw S (y1.toNatClampNeg) none) ?_
    exact z_X4_enact_B58 hrw b hk2 hk64 _ _ _ _ h
  | some q7 =>
    obtain ⟨i8, f9, g10, h⟩ := h.2 q7 rfl
    refine y_aast (q0 := 34) (t0 := 3) (qk := 47 + i8) (ci := 1) (j := y1.toNatClampNeg) b (kw_34 cy a rw S) rfl (kw_dyn cy a rw S g10) rfl (zx_r g6.1 g6.2) dX4_enact_57 (kwg cy a rw S (y1.toNatClampNeg) (some q7)) ?_
    exact z_X4_enact_B58 hrw b hk2 hk64 _ _ _ _ h

def w_X4_enact_F2 (cy : Nat → ClassId) (tE : Nat) (post : KS → Prop) (k64 : KS → Prop) (k2 : KS → Int32 → Nat → Int32 → Prop) (S : KS) (x1 : Int32) (x2 : Nat) (x3 : Int32) : Prop :=
  ((6 ≤ x3.toInt → k64 S) ∧ (x3.toInt < 6 → (((((6 : Int32) * x1) + x3).toInt < 0 → w_X4_enact_B58 cy tE post k2 k64 S x1 x2 x3) ∧ (0 ≤ (((6 : Int32) * x1) + x3).toInt → ((12 ≤ (((6 : Int32) * x1) + x3).toInt → w_X4_enact_B58 cy tE post k2 k64 S x1 x2 x3) ∧ ((((6 : Int32) * x1) + x3).toInt < 12 → ∃ (i1 : Nat) (f2 : List Value), S.2.2.2[i1]? = some (x2, .inr (0, f2)) ∧ w_Jx4a65c_size_8abf5 cy tE S x2 (fun r4 S5 => ((r4.toInt ≤ x3.toInt → w_X4_enact_B57 cy tE post k2 k64 S5 x1 x2 x3 none (((6 : Int32) * x1) + x3)) ∧ (x3.toInt < r4.toInt → ∃ (i11 : Nat) (f12 : List Value), S5.2.2.2[i11]? = some (x2, .inr (0, f12)) ∧ w_Jx4a65c_get_915e3 cy tE S5 x2 x3 (fun r14 S15 => ∃ q16 : Nat, r14 = some q16 ∧ ∃ (i18 : Nat) (f19 : List Value), S15.2.2.2[i18]? = some (q16, .inr (1, f19)) ∧ w_X4_enact_B57 cy tE post k2 k64 S15 x1 x2 x3 (some q16) (((6 : Int32) * x1) + x3)))))))))))

set_option maxHeartbeats 200000 in
set_option maxRecDepth 100000 in
theorem z_X4_enact_F2 {p : Program} {l : Launch} {e : Env} {R : Room} {s : State} {m : MethodId} {args : Array Value} {below : List Frame} {meth : Method} {c : Code} {D : va_G} {cy : Nat → ClassId} {T0 tB tE : Nat} {A : Nat → Prop} {a : Nat → Nat} {rw : Nat → Option Nat} (hrw : ∀ i, i < 6 → rw i = some (a (12 + 2 * i))) {post : KS → Prop} {k64 : KS → Prop} {k2 : KS → Int32 → Nat → Int32 → Prop} (b : Bz p R s m args meth c D cy T0 tB tE A 5 cX4_enact RX4 none "enact" 3 64 0 0) (hk64 : ∀ (S : KS), k64 S → Z p l e R s m args below meth c D A 5 (MQ below (QV D (U := KS) post (kw cy a rw) A) args s 0 0 A) 0 0 (kw cy a rw S) [] 64 []) (hk2 : ∀ (S : KS) (x1 : Int32) (x2 : Nat) (x3 : Int32), k2 S x1 x2 x3 → Z p l e R s m args below meth c D A 5 (MQ below (QV D (U := KS) post (kw cy a rw) A) args s 0 0 A) 0 0 (kw cy a rw S) [(0, .ref (a 33)), (1, .int x1), (2, .ref x2), (3, .int x3)] 2 []) (S : KS) (x1 : Int32) (x2 : Nat) (x3 : Int32) (h : w_X4_enact_F2 cy tE post k64 k2 S x1 x2 x3) : Z p l e R s m args below meth c D A 5 (MQ below (QV D (U := KS) post (kw cy a rw) A) args s 0 0 A) 0 0 (kw cy a rw S) [(0, .ref (a 33)), (1, .int x1), (2, .ref x2), (3, .int x3)] 2 [] := by
  unfold w_X4_enact_F2 at h
  refine z_iload_n b dX4_enact_2 rfl rfl ?_
  refine z_bipush (v := 6) b dX4_enact_3 (by decide) ?_
  refine y_icmp_ge (tgt := 64) (xl := x3.toInt) (yl := 6) b rfl (by decide) dX4_enact_5 (by decide) (fun c1 => ?_) (fun c1 => ?_)
  · replace h := h.1 c1
    refine z_lv0 (lv' := []) [] rfl ?_
    exact hk64 _ h
  · replace h := h.2 c1
    refine z_bipush (v := 6) b dX4_enact_8 (by decide) ?_
    refine z_iload_n b dX4_enact_10 rfl rfl ?_
    refine z_imul b dX4_enact_11 rfl ?_
    refine z_iload_n b dX4_enact_12 rfl rfl ?_
    refine z_iadd b dX4_enact_13 rfl ?_
    refine z_istore (lv' := [(4, .int (((6 : Int32) * x1) + x3)), (0, .ref (a 33)), (1, .int x1), (2, .ref x2), (3, .int x3)]) b dX4_enact_14 (by decide) rfl ?_
    refine z_iload b dX4_enact_16 rfl ?_
    refine y_if_lt (tgt := 58) (xl := (((6 : Int32) * x1) + x3).toInt) b rfl dX4_enact_18 (by decide) (fun c1 => ?_) (fun c1 => ?_)
    · replace h := h.1 c1
      refine z_lv0 (lv' := [(0, .ref (a 33)), (1, .int x1), (2, .ref x2), (3, .int x3)]) [1, 2, 3, 4] rfl ?_
      exact z_X4_enact_B58 hrw b hk2 hk64 _ _ _ _ h
    · replace h := h.2 c1
      refine z_iload b dX4_enact_21 rfl ?_
      refine z_aload_n b dX4_enact_23 rfl rfl ?_
      refine z_get (q0 := 33) (k9 := 0) (v := .ref (a 34)) b (kw_33 cy a rw S) rfl in_X4 (by decide) wf_X4_11 rfl dX4_enact_24 ?_
      refine z_alen (q0 := 34) (t0 := 3) (v := 12) b (kw_34 cy a rw S) rfl rfl dX4_enact_27 ?_
      refine y_icmp_ge (tgt := 58) (xl := (((6 : Int32) * x1) + x3).toInt) (yl := 12) b rfl (by decide) dX4_enact_28 (by decide) (fun c1 => ?_) (fun c1 => ?_)
      · replace h := h.1 c1
        refine z_lv0 (lv' := [(0, .ref (a 33)), (1, .int x1), (2, .ref x2), (3, .int x3)]) [1, 2, 3, 4] rfl ?_
        exact z_X4_enact_B58 hrw b hk2 hk64 _ _ _ _ h
      · replace h := h.2 c1
        refine z_aload_n b dX4_enact_31 rfl rfl ?_
        refine z_get (q0 := 33) (k9 := 0) (v := .ref (a 34)) b (kw_33 cy a rw S) rfl in_X4 (by decide) wf_X4_11 rfl dX4_enact_32 ?_
        refine z_iload b dX4_enact_35 rfl ?_
        refine z_iload_n b dX4_enact_37 rfl rfl ?_
        refine z_aload_n b dX4_enact_38 rfl rfl ?_
        obtain ⟨i1, f2, g3, h⟩ := h
        refine z_calli b (z_runV (q0 := 47 + i1) (As := []) (st := [.int x3, .int (((6 : Int32) * x1) + x3), .ref (a 34)]) b (k_Jx4a65c_size_8abf5 hrw S x2 _ h) cf_Jx4a65c_size_8abf5 (kw_dyn cy a rw S g3) rfl wm_X4_27 wi_Jx4a65c_size_8abf5 ws_Jx4a65c_size_8abf5 dX4_enact_39 rfl (Nat.le_of_ble_eq_true rfl) ⟨by decide, by decide, Nat.le_of_ble_eq_true rfl, Nat.le_of_ble_eq_true rfl⟩) (fun r4 S5 h => ?_)
        refine y_icmp_ge (tgt := 56) (xl := x3.toInt) (yl := r4.toInt) b rfl rfl dX4_enact_42 (by decide) (fun c1 => ?_) (fun c1 => ?_)
        · replace h := h.1 c1
          refine z_null b dX4_enact_56 ?_
          refine z_lv0 (lv' := [(0, .ref (a 33)), (1, .int x1), (2, .ref x2), (3, .int x3)]) [1, 2, 3, 4] rfl ?_
          exact z_X4_enact_B57 hrw b hk2 hk64 _ _ _ _ _ _ h
        · replace h := h.2 c1
          refine z_aload_n b dX4_enact_45 rfl rfl ?_
          refine z_iload_n b dX4_enact_46 rfl rfl ?_
          obtain ⟨i11, f12, g13, h⟩ := h
          refine z_callq b (z_runV (q0 := 47 + i11) (As := [.int x3]) (st := [.int (((6 : Int32) * x1) + x3), .ref (a 34)]) b (k_Jx4a65c_get_915e3 hrw S5 x2 x3 _ h) cf_Jx4a65c_get_915e3 (kw_dyn cy a rw S5 g13) rfl wm_X4_31 wi_Jx4a65c_get_915e3 ws_Jx4a65c_get_915e3 dX4_enact_47 rfl (Nat.le_of_ble_eq_true rfl) ⟨by decide, by decide, Nat.le_of_ble_eq_true rfl, Nat.le_of_ble_eq_true rfl⟩) (fun r14 S15 h => ?_)
          obtain ⟨q16, g17, h⟩ := h
          subst g17
          obtain ⟨i18, f19, g20, h⟩ := h
          refine z_cast (q0 := 47 + i18) (ci := 1) b wk_X4_9 (kw_dyn cy a rw S15 g20) rfl dX4_enact_50 ?_
          refine z_goto (tgt := 57) b dX4_enact_53 (by decide) ?_
          refine z_lv0 (lv' := [(0, .ref (a 33)), (1, .int x1), (2, .ref x2), (3, .int x3)]) [1, 2, 3, 4] rfl ?_
          exact z_X4_enact_B57 hrw b hk2 hk64 _ _ _ _ _ _ h

set_option maxHeartbeats 200000 in
set_option maxRecDepth 100000 in
theorem zl_X4_enact_L2 {p : Program} {l : Launch} {e : Env} {R : Room} {s : State} {m : MethodId} {args : Array Value} {below : List Frame} {meth : Method} {c : Code} {D : va_G} {cy : Nat → ClassId} {T0 tB tE : Nat} {A : Nat → Prop} {a : Nat → Nat} {rw : Nat → Option Nat} (hrw : ∀ i, i < 6 → rw i = some (a (12 + 2 * i))) {post : KS → Prop} {k64 : KS → Prop} (b : Bz p R s m args meth c D cy T0 tB tE A 5 cX4_enact RX4 none "enact" 3 64 0 0) (hk64 : ∀ (S : KS), k64 S → Z p l e R s m args below meth c D A 5 (MQ below (QV D (U := KS) post (kw cy a rw) A) args s 0 0 A) 0 0 (kw cy a rw S) [] 64 []) : ∀ (n : Nat) (S : KS) (x1 : Int32) (x2 : Nat) (x3 : Int32), lpn (w_X4_enact_F2 cy tE post k64) (fun _ _ _ _ => False) n S x1 x2 x3 → Z p l e R s m args below meth c D A 5 (MQ below (QV D (U := KS) post (kw cy a rw) A) args s 0 0 A) 0 0 (kw cy a rw S) [(0, .ref (a 33)), (1, .int x1), (2, .ref x2), (3, .int x3)] 2 [] := by
  intro n
  induction n with
  | zero => intro _ _ _ _ h; exact h.elim
  | succ n ih => intro S x1 x2 x3 h; exact z_X4_enact_F2 hrw b hk64 ih S x1 x2 x3 h

def w_X4_enact_B64 (cy : Nat → ClassId) (tE : Nat) (post : KS → Prop) (S : KS)  : Prop :=
  post S

set_option maxHeartbeats 200000 in
set_option maxRecDepth 100000 in
theorem z_X4_enact_B64 {p : Program} {l : Launch} {e : Env} {R : Room} {s : State} {m : MethodId} {args : Array Value} {below : List Frame} {meth : Method} {c : Code} {D : va_G} {cy : Nat → ClassId} {T0 tB tE : Nat} {A : Nat → Prop} {a : Nat → Nat} {rw : Nat → Option Nat} (hrw : ∀ i, i < 6 → rw i = some (a (12 + 2 * i))) {post : KS → Prop} (b : Bz p R s m args meth c D cy T0 tB tE A 5 cX4_enact RX4 none "enact" 3 64 0 0) (S : KS)  (h : w_X4_enact_B64 cy tE post S ) : Z p l e R s m args below meth c D A 5 (MQ below (QV D (U := KS) post (kw cy a rw) A) args s 0 0 A) 0 0 (kw cy a rw S) [] 64 [] := by
  unfold w_X4_enact_B64 at h
  exact z_vret (u := S) b rfl dX4_enact_64 h rfl (by decide) (by decide)

def w_X4_enact (cy : Nat → ClassId) (tE : Nat) (S : KS) (p0 : Int32) (p1 : Nat) (post : KS → Prop) : Prop :=
  ∃ n, lpn (w_X4_enact_F2 cy tE post (w_X4_enact_B64 cy tE post)) (fun _ _ _ _ => False) n S p0 p1 0

set_option maxHeartbeats 200000 in
set_option maxRecDepth 100000 in
theorem k_X4_enact {l : Launch} {D : va_G} {cy : Nat → ClassId} {T0 tB tE : Nat} {a : Nat → Nat} {rw : Nat → Option Nat} (hrw : ∀ i, i < 6 → rw i = some (a (12 + 2 * i))) (S : KS) (p0 : Int32) (p1 : Nat) (post : KS → Prop) (h : w_X4_enact cy tE S p0 p1 post) : Ct l D cy T0 tB tE yX4_enact cX4_enact 5 none 3 64 0 0 (kw cy a rw S) [.ref (a 33), .int p0, .ref p1] (QV D (U := KS) post (kw cy a rw)) := by
  refine Ct.ofZ RX4 "enact" [(0, .ref (a 33)), (1, .int p0), (2, .ref p1)] rfl rfl rfl rfl (Nat.le_of_ble_eq_true rfl) ?_
  intro p e R s m args below meth c A b
  unfold w_X4_enact at h
  refine z_iconst (v := 0) b dX4_enact_0 (by decide) ?_
  refine z_istore_n (lv' := [(3, .int 0), (0, .ref (a 33)), (1, .int p0), (2, .ref p1)]) b dX4_enact_1 rfl (by decide) rfl ?_
  refine z_lv0 (lv' := [(0, .ref (a 33)), (1, .int p0), (2, .ref p1), (3, .int 0)]) [1, 2, 3, 0] rfl ?_
  obtain ⟨n, h⟩ := h
  exact zl_X4_enact_L2 hrw b (fun S h => z_X4_enact_B64 hrw b _ h) n _ _ _ _ h

def w_X11_act_B60 (cy : Nat → ClassId) (tE : Nat) (post : Int32 → KS → Prop) (S : KS) (y0 : Int32) : Prop :=
  post y0 S

set_option maxHeartbeats 200000 in
set_option maxRecDepth 100000 in
theorem z_X11_act_B60 {p : Program} {l : Launch} {e : Env} {R : Room} {s : State} {m : MethodId} {args : Array Value} {below : List Frame} {meth : Method} {c : Code} {D : va_G} {cy : Nat → ClassId} {T0 tB tE : Nat} {A : Nat → Prop} {a : Nat → Nat} {rw : Nat → Option Nat} (hrw : ∀ i, i < 6 → rw i = some (a (12 + 2 * i))) {post : Int32 → KS → Prop} (b : Bz p R s m args meth c D cy T0 tB tE A 4 cX11_act RX11 (some .int) "act" 1 21 0 0) (S : KS) (y0 : Int32) (h : w_X11_act_B60 cy tE post S y0) : Z p l e R s m args below meth c D A 4 (MQ below (QI D (U := KS) post (kw cy a rw) A) args s 0 0 A) 0 0 (kw cy a rw S) [] 60 [.int y0] := by
  unfold w_X11_act_B60 at h
  exact z_iret (u := S) b rfl dX11_act_60 h rfl (by decide) (by decide)

def w_X11_act_B73 (cy : Nat → ClassId) (tE : Nat) (post : Int32 → KS → Prop) (S : KS) (y0 : Int32) : Prop :=
  post y0 S

set_option maxHeartbeats 200000 in
set_option maxRecDepth 100000 in
theorem z_X11_act_B73 {p : Program} {l : Launch} {e : Env} {R : Room} {s : State} {m : MethodId} {args : Array Value} {below : List Frame} {meth : Method} {c : Code} {D : va_G} {cy : Nat → ClassId} {T0 tB tE : Nat} {A : Nat → Prop} {a : Nat → Nat} {rw : Nat → Option Nat} (hrw : ∀ i, i < 6 → rw i = some (a (12 + 2 * i))) {post : Int32 → KS → Prop} (b : Bz p R s m args meth c D cy T0 tB tE A 4 cX11_act RX11 (some .int) "act" 1 21 0 0) (S : KS) (y0 : Int32) (h : w_X11_act_B73 cy tE post S y0) : Z p l e R s m args below meth c D A 4 (MQ below (QI D (U := KS) post (kw cy a rw) A) args s 0 0 A) 0 0 (kw cy a rw S) [] 73 [.int y0] := by
  unfold w_X11_act_B73 at h
  exact z_iret (u := S) b rfl dX11_act_73 h rfl (by decide) (by decide)

def w_X11_act (cy : Nat → ClassId) (tE : Nat) (S : KS) (p0 : Int32) (p1 : Int32) (post : Int32 → KS → Prop) : Prop :=
  w_X4_actAt cy tE S p0 (fun r1 S2 => ((r1 = none → post (-1) S2) ∧ (∀ q3 : Nat, r1 = some q3 → ((p1.toInt = 0 → ∃ (i4 : Nat) (f5 : Int64) (f6 : Value) (f7 : Value) (f8 : Int32) (f9 : Int32), S2.2.2.2[i4]? = some (q3, .inr (1, [.long f5, f6, f7, .int f8, .int f9])) ∧ ((f8.toInt = 0 → w_X11_act_B60 cy tE post S2 0) ∧ (f8.toInt ≠ 0 → w_X11_act_B60 cy tE post S2 1))) ∧ (p1.toInt = 1 → ∃ (i11 : Nat) (f12 : Int64) (f13 : Value) (f14 : Value) (f15 : Int32) (f16 : Int32), S2.2.2.2[i11]? = some (q3, .inr (1, [.long f12, f13, f14, .int f15, .int f16])) ∧ ((f16.toInt = 0 → w_X11_act_B73 cy tE post S2 0) ∧ (f16.toInt ≠ 0 → w_X11_act_B73 cy tE post S2 1))) ∧ (p1.toInt = 2 → ∃ (i18 : Nat) (f19 : Int64) (f20 : Nat) (f21 : Value) (f22 : Int32) (f23 : Int32), S2.2.2.2[i18]? = some (q3, .inr (1, [.long f19, .ref f20, f21, .int f22, .int f23])) ∧ ∃ (i25 : Nat) (f26 : List Value), S2.2.2.2[i25]? = some (f20, .inr (0, f26)) ∧ w_Jx4a65c_size_8abf5 cy tE S2 f20 (fun r28 S29 => post r28 S29)) ∧ (p1.toInt = 3 → ∃ (i30 : Nat) (f31 : Int64) (f32 : Value) (f33 : Nat) (f34 : Int32) (f35 : Int32), S2.2.2.2[i30]? = some (q3, .inr (1, [.long f31, f32, .ref f33, .int f34, .int f35])) ∧ ∃ (i37 : Nat) (f38 : List Value), S2.2.2.2[i37]? = some (f33, .inr (0, f38)) ∧ w_Jx4a65c_size_8abf5 cy tE S2 f33 (fun r40 S41 => post r40 S41)) ∧ (p1.toInt ≠ 0 ∧ p1.toInt ≠ 1 ∧ p1.toInt ≠ 2 ∧ p1.toInt ≠ 3 → post (-1) S2)))))

set_option maxHeartbeats 200000 in
set_option maxRecDepth 100000 in
theorem k_X11_act {l : Launch} {D : va_G} {cy : Nat → ClassId} {T0 tB tE : Nat} {a : Nat → Nat} {rw : Nat → Option Nat} (hrw : ∀ i, i < 6 → rw i = some (a (12 + 2 * i))) (S : KS) (p0 : Int32) (p1 : Int32) (post : Int32 → KS → Prop) (h : w_X11_act cy tE S p0 p1 post) : Ct l D cy T0 tB tE yX11_act cX11_act 4 (some .int) 1 21 0 0 (kw cy a rw S) [.ref (a 0), .int p0, .int p1] (QI D (U := KS) post (kw cy a rw)) := by
  refine Ct.ofZ RX11 "act" [(0, .ref (a 0)), (1, .int p0), (2, .int p1)] rfl rfl rfl rfl (Nat.le_of_ble_eq_true rfl) ?_
  intro p e R s m args below meth c A b
  unfold w_X11_act at h
  refine z_aload_n b dX11_act_0 rfl rfl ?_
  refine z_get (q0 := 0) (k9 := 3) (v := .ref (a 33)) b (kw_0 cy a rw S) rfl in_X11 (by decide) wf_X11_27 rfl dX11_act_1 ?_
  refine z_iload_n b dX11_act_4 rfl rfl ?_
  refine z_callq b (z_runV (q0 := 33) (As := [.int p0]) (st := []) b (k_X4_actAt hrw S p0 _ h) cf_X4_actAt (kw_33 cy a rw S) rfl wm_X11_150 wi_X4_actAt ws_X4_actAt dX11_act_5 rfl (Nat.le_of_ble_eq_true rfl) ⟨by decide, by decide, Nat.le_of_ble_eq_true rfl, Nat.le_of_ble_eq_true rfl⟩) (fun r1 S2 h => ?_)
  refine z_astore_nQ (lv' := [(3, va_rf r1), (0, .ref (a 0)), (1, .int p0), (2, .int p1)]) b dX11_act_8 rfl (by decide) rfl ?_
  refine z_aload_nQ b dX11_act_9 rfl rfl ?_
  cases r1 with
  | none =>
    replace h := h.1 rfl
    refine z_ifnonnullN b dX11_act_10 ?_
    refine z_iconst (v := (-1)) b dX11_act_13 (by decide) ?_
    exact z_iret (u := S2) b rfl dX11_act_14 h rfl (by decide) (by decide)
  | some q3 =>
    replace h := h.2 q3 rfl
    refine z_ifnonnull (tgt := 15) b dX11_act_10 (by decide) ?_
    refine z_iload_n b dX11_act_15 rfl rfl ?_
    by_cases e1 : p1.toInt = 0
    · replace h := h.1 e1
      refine z_eqi (y := 0) (y_eqc e1 (by decide)) ?_
      refine z_tableIn (tgt := 48) (off := 32) b dX11_act_16 (by decide) (by decide) (by decide) (by decide) ?_
      refine z_aload_n b dX11_act_48 rfl rfl ?_
      obtain ⟨i4, f5, f6, f7, f8, f9, g10, h⟩ := h
      refine z_get (q0 := 47 + i4) (k9 := 3) (v := .int f8) b (kw_dyn cy a rw S2 g10) rfl in_X0 (by decide) wf_X11_154 rfl dX11_act_49 ?_
      refine y_if_eq (tgt := 59) (xl := f8.toInt) b rfl dX11_act_52 (by decide) (fun c1 => ?_) (fun c1 => ?_)
      · replace h := h.1 c1
        refine z_iconst (v := 0) b dX11_act_59 (by decide) ?_
        refine z_lv0 (lv' := []) [] rfl ?_
        exact z_X11_act_B60 hrw b _ _ h
      · replace h := h.2 c1
        refine z_iconst (v := 1) b dX11_act_55 (by decide) ?_
        refine z_goto (tgt := 60) b dX11_act_56 (by decide) ?_
        refine z_lv0 (lv' := []) [] rfl ?_
        exact z_X11_act_B60 hrw b _ _ h
    replace h := h.2
    have o0 := e1
    by_cases e1 : p1.toInt = 1
    · replace h := h.1 e1
      refine z_eqi (y := 1) (y_eqc e1 (by decide)) ?_
      refine z_tableIn (tgt := 61) (off := 45) b dX11_act_16 (by decide) (by decide) (by decide) (by decide) ?_
      refine z_aload_n b dX11_act_61 rfl rfl ?_
      obtain ⟨i11, f12, f13, f14, f15, f16, g17, h⟩ := h
      refine z_get (q0 := 47 + i11) (k9 := 4) (v := .int f16) b (kw_dyn cy a rw S2 g17) rfl in_X0 (by decide) wf_X11_160 rfl dX11_act_62 ?_
      refine y_if_eq (tgt := 72) (xl := f16.toInt) b rfl dX11_act_65 (by decide) (fun c1 => ?_) (fun c1 => ?_)
      · replace h := h.1 c1
        refine z_iconst (v := 0) b dX11_act_72 (by decide) ?_
        refine z_lv0 (lv' := []) [] rfl ?_
        exact z_X11_act_B73 hrw b _ _ h
      · replace h := h.2 c1
        refine z_iconst (v := 1) b dX11_act_68 (by decide) ?_
        refine z_goto (tgt := 73) b dX11_act_69 (by decide) ?_
        refine z_lv0 (lv' := []) [] rfl ?_
        exact z_X11_act_B73 hrw b _ _ h
    replace h := h.2
    have o1 := e1
    by_cases e1 : p1.toInt = 2
    · replace h := h.1 e1
      refine z_eqi (y := 2) (y_eqc e1 (by decide)) ?_
      refine z_tableIn (tgt := 74) (off := 58) b dX11_act_16 (by decide) (by decide) (by decide) (by decide) ?_
      refine z_aload_n b dX11_act_74 rfl rfl ?_
      obtain ⟨i18, f19, f20, f21, f22, f23, g24, h⟩ := h
      refine z_get (q0 := 47 + i18) (k9 := 1) (v := .ref f20) b (kw_dyn cy a rw S2 g24) rfl in_X0 (by decide) wf_X11_163 rfl dX11_act_75 ?_
      obtain ⟨i25, f26, g27, h⟩ := h
      refine z_calli b (z_runV (q0 := 47 + i25) (As := []) (st := []) b (k_Jx4a65c_size_8abf5 hrw S2 f20 _ h) cf_Jx4a65c_size_8abf5 (kw_dyn cy a rw S2 g27) rfl wm_X11_117 wi_Jx4a65c_size_8abf5 ws_Jx4a65c_size_8abf5 dX11_act_78 rfl (Nat.le_of_ble_eq_true rfl) ⟨by decide, by decide, Nat.le_of_ble_eq_true rfl, Nat.le_of_ble_eq_true rfl⟩) (fun r28 S29 h => ?_)
      exact z_iret (u := S29) b rfl dX11_act_81 h rfl (by decide) (by decide)
    replace h := h.2
    have o2 := e1
    by_cases e1 : p1.toInt = 3
    · replace h := h.1 e1
      refine z_eqi (y := 3) (y_eqc e1 (by decide)) ?_
      refine z_tableIn (tgt := 82) (off := 66) b dX11_act_16 (by decide) (by decide) (by decide) (by decide) ?_
      refine z_aload_n b dX11_act_82 rfl rfl ?_
      obtain ⟨i30, f31, f32, f33, f34, f35, g36, h⟩ := h
      refine z_get (q0 := 47 + i30) (k9 := 2) (v := .ref f33) b (kw_dyn cy a rw S2 g36) rfl in_X0 (by decide) wf_X11_166 rfl dX11_act_83 ?_
      obtain ⟨i37, f38, g39, h⟩ := h
      refine z_calli b (z_runV (q0 := 47 + i37) (As := []) (st := []) b (k_Jx4a65c_size_8abf5 hrw S2 f33 _ h) cf_Jx4a65c_size_8abf5 (kw_dyn cy a rw S2 g39) rfl wm_X11_117 wi_Jx4a65c_size_8abf5 ws_Jx4a65c_size_8abf5 dX11_act_86 rfl (Nat.le_of_ble_eq_true rfl) ⟨by decide, by decide, Nat.le_of_ble_eq_true rfl, Nat.le_of_ble_eq_true rfl⟩) (fun r40 S41 h => ?_)
      exact z_iret (u := S41) b rfl dX11_act_89 h rfl (by decide) (by decide)
    replace h := h.2
    have o3 := e1
    replace h := h ⟨o0, o1, o2, o3⟩
    refine z_tableOut (tgt := 90) b dX11_act_16 (by omega) (by decide) ?_
    refine z_iconst (v := (-1)) b dX11_act_90 (by decide) ?_
    exact z_iret (u := S2) b rfl dX11_act_91 h rfl (by decide) (by decide)

def w_X11_lawful_B32 (cy : Nat → ClassId) (tE : Nat) (post : Int32 → KS → Prop) (S : KS)  : Prop :=
  post (-1) S

set_option maxHeartbeats 200000 in
set_option maxRecDepth 100000 in
theorem z_X11_lawful_B32 {p : Program} {l : Launch} {e : Env} {R : Room} {s : State} {m : MethodId} {args : Array Value} {below : List Frame} {meth : Method} {c : Code} {D : va_G} {cy : Nat → ClassId} {T0 tB tE : Nat} {A : Nat → Prop} {a : Nat → Nat} {rw : Nat → Option Nat} (hrw : ∀ i, i < 6 → rw i = some (a (12 + 2 * i))) {post : Int32 → KS → Prop} (b : Bz p R s m args meth c D cy T0 tB tE A 6 cX11_lawful RX11 (some .int) "lawful" 5 126 0 0) (S : KS)  (h : w_X11_lawful_B32 cy tE post S ) : Z p l e R s m args below meth c D A 6 (MQ below (QI D (U := KS) post (kw cy a rw) A) args s 0 0 A) 0 0 (kw cy a rw S) [] 32 [] := by
  unfold w_X11_lawful_B32 at h
  refine z_iconst (v := (-1)) b dX11_lawful_32 (by decide) ?_
  exact z_iret (u := S) b rfl dX11_lawful_33 h rfl (by decide) (by decide)

def w_X11_lawful_B72 (cy : Nat → ClassId) (tE : Nat) (post : Int32 → KS → Prop) (S : KS) (y0 : Int32) : Prop :=
  post y0 S

set_option maxHeartbeats 200000 in
set_option maxRecDepth 100000 in
theorem z_X11_lawful_B72 {p : Program} {l : Launch} {e : Env} {R : Room} {s : State} {m : MethodId} {args : Array Value} {below : List Frame} {meth : Method} {c : Code} {D : va_G} {cy : Nat → ClassId} {T0 tB tE : Nat} {A : Nat → Prop} {a : Nat → Nat} {rw : Nat → Option Nat} (hrw : ∀ i, i < 6 → rw i = some (a (12 + 2 * i))) {post : Int32 → KS → Prop} (b : Bz p R s m args meth c D cy T0 tB tE A 6 cX11_lawful RX11 (some .int) "lawful" 5 126 0 0) (S : KS) (y0 : Int32) (h : w_X11_lawful_B72 cy tE post S y0) : Z p l e R s m args below meth c D A 6 (MQ below (QI D (U := KS) post (kw cy a rw) A) args s 0 0 A) 0 0 (kw cy a rw S) [] 72 [.int y0] := by
  unfold w_X11_lawful_B72 at h
  exact z_iret (u := S) b rfl dX11_lawful_72 h rfl (by decide) (by decide)

def w_X11_lawful (cy : Nat → ClassId) (tE : Nat) (S : KS) (p0 : Int32) (p1 : Int32) (p2 : Int32) (p3 : Int32) (post : Int32 → KS → Prop) : Prop :=
  w_X11_isRow cy tE S p0 (fun r1 S2 => ((r1.toInt = 0 → w_X11_lawful_B32 cy tE post S2) ∧ (r1.toInt ≠ 0 → w_X11_areLaws cy tE S2 p1 (fun r3 S4 => ((r3.toInt = 0 → w_X11_lawful_B32 cy tE post S4) ∧ (r3.toInt ≠ 0 → w_X11_isWithin cy tE S4 p2 31 (fun r5 S6 => ((r5.toInt = 0 → w_X11_lawful_B32 cy tE post S6) ∧ (r5.toInt ≠ 0 → w_X11_isWithin cy tE S6 p3 1 (fun r7 S8 => ((r7.toInt ≠ 0 → (0 ≤ p0.toInt ∧ p0.toInt < 6) ∧ w_X2_follow cy tE S8 (p0.toNatClampNeg) 0 p1 p2 (fun r11 S12 => ((p3.toInt ≠ 0 → w_X11_lawful_B72 cy tE post S12 (fi S12.1 22)) ∧ (p3.toInt = 0 → w_X11_lawful_B72 cy tE post S12 r11)))) ∧ (r7.toInt = 0 → w_X11_lawful_B32 cy tE post S8))))))))))))

set_option maxHeartbeats 200000 in
set_option maxRecDepth 100000 in
theorem k_X11_lawful {l : Launch} {D : va_G} {cy : Nat → ClassId} {T0 tB tE : Nat} {a : Nat → Nat} {rw : Nat → Option Nat} (hrw : ∀ i, i < 6 → rw i = some (a (12 + 2 * i))) (S : KS) (p0 : Int32) (p1 : Int32) (p2 : Int32) (p3 : Int32) (post : Int32 → KS → Prop) (h : w_X11_lawful cy tE S p0 p1 p2 p3 post) : Ct l D cy T0 tB tE yX11_lawful cX11_lawful 6 (some .int) 5 126 0 0 (kw cy a rw S) [.ref (a 0), .int p0, .int p1, .int p2, .int p3] (QI D (U := KS) post (kw cy a rw)) := by
  refine Ct.ofZ RX11 "lawful" [(0, .ref (a 0)), (1, .int p0), (2, .int p1), (3, .int p2), (4, .int p3)] rfl rfl rfl rfl (Nat.le_of_ble_eq_true rfl) ?_
  intro p e R s m args below meth c A b
  unfold w_X11_lawful at h
  refine z_iload_n b dX11_lawful_0 rfl rfl ?_
  refine z_calli b (z_runS (As := [.int p0]) (st := []) b (k_X11_isRow hrw S p0 _ h) cf_X11_isRow wm_X11_169 ws_X11_isRow dX11_lawful_1 rfl (Nat.le_of_ble_eq_true rfl) ⟨by decide, by decide, Nat.le_of_ble_eq_true rfl, Nat.le_of_ble_eq_true rfl⟩) (fun r1 S2 h => ?_)
  refine y_if_eq (tgt := 32) (xl := r1.toInt) b rfl dX11_lawful_4 (by decide) (fun c1 => ?_) (fun c1 => ?_)
  · replace h := h.1 c1
    refine z_lv0 (lv' := []) [] rfl ?_
    exact z_X11_lawful_B32 hrw b _ h
  · replace h := h.2 c1
    refine z_iload_n b dX11_lawful_7 rfl rfl ?_
    refine z_calli b (z_runS (As := [.int p1]) (st := []) b (k_X11_areLaws hrw S2 p1 _ h) cf_X11_areLaws wm_X11_181 ws_X11_areLaws dX11_lawful_8 rfl (Nat.le_of_ble_eq_true rfl) ⟨by decide, by decide, Nat.le_of_ble_eq_true rfl, Nat.le_of_ble_eq_true rfl⟩) (fun r3 S4 h => ?_)
    refine y_if_eq (tgt := 32) (xl := r3.toInt) b rfl dX11_lawful_11 (by decide) (fun c1 => ?_) (fun c1 => ?_)
    · replace h := h.1 c1
      refine z_lv0 (lv' := []) [] rfl ?_
      exact z_X11_lawful_B32 hrw b _ h
    · replace h := h.2 c1
      refine z_iload_n b dX11_lawful_14 rfl rfl ?_
      refine z_bipush (v := 31) b dX11_lawful_15 (by decide) ?_
      refine z_calli b (z_runS (As := [.int p2, .int 31]) (st := []) b (k_X11_isWithin hrw S4 p2 31 _ h) cf_X11_isWithin wm_X11_73 ws_X11_isWithin dX11_lawful_17 rfl (Nat.le_of_ble_eq_true rfl) ⟨by decide, by decide, Nat.le_of_ble_eq_true rfl, Nat.le_of_ble_eq_true rfl⟩) (fun r5 S6 h => ?_)
      refine y_if_eq (tgt := 32) (xl := r5.toInt) b rfl dX11_lawful_20 (by decide) (fun c1 => ?_) (fun c1 => ?_)
      · replace h := h.1 c1
        refine z_lv0 (lv' := []) [] rfl ?_
        exact z_X11_lawful_B32 hrw b _ h
      · replace h := h.2 c1
        refine z_iload b dX11_lawful_23 rfl ?_
        refine z_iconst (v := 1) b dX11_lawful_25 (by decide) ?_
        refine z_calli b (z_runS (As := [.int p3, .int 1]) (st := []) b (k_X11_isWithin hrw S6 p3 1 _ h) cf_X11_isWithin wm_X11_73 ws_X11_isWithin dX11_lawful_26 rfl (Nat.le_of_ble_eq_true rfl) ⟨by decide, by decide, Nat.le_of_ble_eq_true rfl, Nat.le_of_ble_eq_true rfl⟩) (fun r7 S8 h => ?_)
        refine y_if_ne (tgt := 34) (xl := r7.toInt) b rfl dX11_lawful_29 (by decide) (fun c1 => ?_) (fun c1 => ?_)
        · replace h := h.1 c1
          refine z_aload_n b dX11_lawful_34 rfl rfl ?_
          refine z_get (q0 := 0) (k9 := 5) (v := .ref (a 35)) b (kw_0 cy a rw S8) rfl in_X11 (by decide) wf_X11_43 rfl dX11_lawful_35 ?_
          refine z_aload_n b dX11_lawful_38 rfl rfl ?_
          refine z_get (q0 := 0) (k9 := 7) (v := .ref (a 46)) b (kw_0 cy a rw S8) rfl in_X11 (by decide) wf_X11_58 rfl dX11_lawful_39 ?_
          refine z_iload_n b dX11_lawful_42 rfl rfl ?_
          obtain ⟨g9, h⟩ := h
          refine y_aald (q0 := 46) (t0 := 4) (j := p0.toNatClampNeg) (v := .ref (a (12 + 2 * (p0.toNatClampNeg)))) b (kw_46 cy a rw S8) rfl (zx_r g9.1 g9.2) (by rw [hrw _ (zx_lt (zx_r g9.1 g9.2))]; rfl) dX11_lawful_43 ?_
          refine z_aload_n b dX11_lawful_44 rfl rfl ?_
          refine z_get (q0 := 0) (k9 := 4) (v := .ref (a 2)) b (kw_0 cy a rw S8) rfl in_X11 (by decide) wf_X11_34 rfl dX11_lawful_45 ?_
          refine z_iload_n b dX11_lawful_48 rfl rfl ?_
          refine z_iload_n b dX11_lawful_49 rfl rfl ?_
          refine z_calli b (z_runV (q0 := 35) (As := [.ref (a (12 + 2 * (p0.toNatClampNeg))), .ref (a 2), .int p1, .int p2]) (st := []) b (k_X2_follow hrw S8 (p0.toNatClampNeg) 0 p1 p2 _ h) cf_X2_follow (kw_35 cy a rw S8) rfl wm_X11_184 wi_X2_follow ws_X2_follow dX11_lawful_50 rfl (Nat.le_of_ble_eq_true rfl) ⟨by decide, by decide, Nat.le_of_ble_eq_true rfl, Nat.le_of_ble_eq_true rfl⟩) (fun r11 S12 h => ?_)
          refine z_istore (lv' := [(5, .int r11), (0, .ref (a 0)), (1, .int p0), (2, .int p1), (3, .int p2), (4, .int p3)]) b dX11_lawful_53 (by decide) rfl ?_
          refine z_iload b dX11_lawful_55 rfl ?_
          refine y_if_ne (tgt := 65) (xl := p3.toInt) b rfl dX11_lawful_57 (by decide) (fun c1 => ?_) (fun c1 => ?_)
          · replace h := h.1 c1
            refine z_aload_n b dX11_lawful_65 rfl rfl ?_
            refine z_get (q0 := 0) (k9 := 5) (v := .ref (a 35)) b (kw_0 cy a rw S12) rfl in_X11 (by decide) wf_X11_43 rfl dX11_lawful_66 ?_
            refine z_get (q0 := 35) (k9 := 4) (v := .int (fi S12.1 22)) b (kw_35 cy a rw S12) rfl in_X2 (by decide) wf_X11_188 rfl dX11_lawful_69 ?_
            refine z_lv0 (lv' := []) [] rfl ?_
            exact z_X11_lawful_B72 hrw b _ _ h
          · replace h := h.2 c1
            refine z_iload b dX11_lawful_60 rfl ?_
            refine z_goto (tgt := 72) b dX11_lawful_62 (by decide) ?_
            refine z_lv0 (lv' := []) [] rfl ?_
            exact z_X11_lawful_B72 hrw b _ _ h
        · replace h := h.2 c1
          refine z_lv0 (lv' := []) [] rfl ?_
          exact z_X11_lawful_B32 hrw b _ h

def w_Jx4a65c_add_72be8_X3_B11 (cy : Nat → ClassId) (tE : Nat) (mc ms : Nat) (post : KS → Prop) (S : KS) (nc : Nat) (ns : Nat) (x0 : Nat) (x1 : Nat) (x2 : Option Nat) (x3 : Int32) : Prop :=
  ∃ q1 : Nat, x2 = some q1 ∧ ∃ (i3 n4 : Nat) (f5 : Nat → Option Nat), S.2.2.2[i3]? = some (q1, .inl (cy 5, n4, .inr (.inr (.inr (.inr f5))))) ∧ (0 ≤ x3.toInt ∧ x3.toInt < (n4 : Int)) ∧ ∃ (i8 : Nat) (f9 : List Value), S.2.2.2[i8]? = some (x1, .inr (4, f9)) ∧ ∃ (i11 : Nat) (f12 : Int32) (f13 : Value) (f14 : Int32), (S.2.2.2.set i3 (q1, .inl (cy 5, n4, .inr (.inr (.inr (.inr (va_up f5 x3.toNatClampNeg (some x1))))))))[i11]? = some (x0, .inr (0, [.int f12, f13, .int f14])) ∧ (nc ≤ mc ∧ ns ≤ ms) ∧ post (ksL (ksL S (S.2.2.2.set i3 (q1, .inl (cy 5, n4, .inr (.inr (.inr (.inr (va_up f5 x3.toNatClampNeg (some x1))))))))) ((S.2.2.2.set i3 (q1, .inl (cy 5, n4, .inr (.inr (.inr (.inr (va_up f5 x3.toNatClampNeg (some x1)))))))).set i11 (x0, .inr (0, [.int f12, f13, .int (x3 + 1)]))))

set_option maxHeartbeats 200000 in
set_option maxRecDepth 100000 in
theorem z_Jx4a65c_add_72be8_X3_B11 {p : Program} {l : Launch} {e : Env} {R : Room} {s : State} {m : MethodId} {args : Array Value} {below : List Frame} {meth : Method} {c : Code} {D : va_G} {cy : Nat → ClassId} {T0 tB tE : Nat} {A : Nat → Prop} {a : Nat → Nat} {rw : Nat → Option Nat} (hrw : ∀ i, i < 6 → rw i = some (a (12 + 2 * i))) {mc ms : Nat} {post : KS → Prop} (b : Bz p R s m args meth c D cy T0 tB tE A 4 cJx4a65c_add_72be8 RJx4a65c none "add" 3 83 mc ms) (S : KS) (nc : Nat) (ns : Nat) (x0 : Nat) (x1 : Nat) (x2 : Option Nat) (x3 : Int32) (h : w_Jx4a65c_add_72be8_X3_B11 cy tE mc ms post S nc ns x0 x1 x2 x3) : Z p l e R s m args below meth c D A 4 (MQ below (QV D (U := KS) post (kw cy a rw) A) args s mc ms A) nc ns (kw cy a rw S) [(0, .ref x0), (1, .ref x1), (2, va_rf x2), (3, .int x3)] 11 [] := by
  unfold w_Jx4a65c_add_72be8_X3_B11 at h
  refine z_aload_nQ b dJx4a65c_add_72be8_11 rfl rfl ?_
  refine z_iload_n b dJx4a65c_add_72be8_12 rfl rfl ?_
  refine z_aload_n b dJx4a65c_add_72be8_13 rfl rfl ?_
  obtain ⟨q1, g2, h⟩ := h
  subst g2
  obtain ⟨i3, n4, f5, g6, h⟩ := h
  obtain ⟨g7, h⟩ := h
  obtain ⟨i8, f9, g10, h⟩ := h
  refine y_aastO (q0 := 47 + i3) (t0 := 5) (qk := 47 + i8) (ci := 4) (j := x3.toNatClampNeg) b (kw_dyn cy a rw S g6) rfl (kw_dyn cy a rw S g10) rfl wca_X3 (zx_r g7.1 g7.2) dJx4a65c_add_72be8_14 (kw_dset cy a rw S i3 (q1, .inl (cy 5, n4, .inr (.inr (.inr (.inr (va_up f5 x3.toNatClampNeg (some x1)))))))) ?_
  refine z_aload_n b dJx4a65c_add_72be8_15 rfl rfl ?_
  refine z_iload_n b dJx4a65c_add_72be8_16 rfl rfl ?_
  refine z_iconst (v := 1) b dJx4a65c_add_72be8_17 (by decide) ?_
  refine z_iadd b dJx4a65c_add_72be8_18 rfl ?_
  obtain ⟨i11, f12, f13, f14, g15, h⟩ := h
  refine z_put (q0 := 47 + i11) (k9 := 2) tyJx4a65c b (kw_dyn cy a rw (ksL S (S.2.2.2.set i3 (q1, .inl (cy 5, n4, .inr (.inr (.inr (.inr (va_up f5 x3.toNatClampNeg (some x1))))))))) g15) rfl in_Jx4a65c tyJx4a65c_ok nmJx4a65c (by decide) wf_Jx4a65c_48 rfl rfl rfl rfl (Nat.le_of_ble_eq_true rfl) dJx4a65c_add_72be8_19 (kw_dset cy a rw (ksL S (S.2.2.2.set i3 (q1, .inl (cy 5, n4, .inr (.inr (.inr (.inr (va_up f5 x3.toNatClampNeg (some x1))))))))) i11 (x0, .inr (0, [.int f12, f13, .int (x3 + 1)]))) ?_
  obtain ⟨g16, h⟩ := h
  exact z_vret (u := (ksL (ksL S (S.2.2.2.set i3 (q1, .inl (cy 5, n4, .inr (.inr (.inr (.inr (va_up f5 x3.toNatClampNeg (some x1))))))))) ((S.2.2.2.set i3 (q1, .inl (cy 5, n4, .inr (.inr (.inr (.inr (va_up f5 x3.toNatClampNeg (some x1)))))))).set i11 (x0, .inr (0, [.int f12, f13, .int (x3 + 1)]))))) b rfl dJx4a65c_add_72be8_22 h rfl g16.1 g16.2

def w_Jx4a65c_add_72be8_X3 (cy : Nat → ClassId) (tE : Nat) (mc ms : Nat) (S : KS) (p9 : Nat) (p0 : Nat) (p1 : Nat) (p2 : Int32) (post : KS → Prop) : Prop :=
  ((p1 = tE ∧ ((p2.toInt ≠ 0 → w_Jx4a65c_add_72be8_X3_B11 cy tE mc ms post S 0 0 p9 p0 (some p1) p2) ∧ (p2.toInt = 0 → ∃ m17 m18 : Nat, (0 + m17 ≤ mc ∧ 0 + m18 ≤ ms) ∧ ∃ (i20 : Nat) (f21 : List Value), S.2.2.2[i20]? = some (p9, .inr (0, f21)) ∧ w_Jx4a65c_grow_d5877 cy tE m17 m18 S p9 (fun r23 S24 => w_Jx4a65c_add_72be8_X3_B11 cy tE mc ms post S24 (0 + m17) (0 + m18) p9 p0 r23 p2)))) ∨ (∃ (i25 n26 : Nat) (f27 : Nat → Option Nat), S.2.2.2[i25]? = some (p1, .inl (cy 5, n26, .inr (.inr (.inr (.inr f27))))) ∧ ((p2.toInt ≠ (Int32.ofNat n26).toInt → w_Jx4a65c_add_72be8_X3_B11 cy tE mc ms post S 0 0 p9 p0 (some p1) p2) ∧ (p2.toInt = (Int32.ofNat n26).toInt → ∃ m29 m30 : Nat, (0 + m29 ≤ mc ∧ 0 + m30 ≤ ms) ∧ ∃ (i32 : Nat) (f33 : List Value), S.2.2.2[i32]? = some (p9, .inr (0, f33)) ∧ w_Jx4a65c_grow_d5877 cy tE m29 m30 S p9 (fun r35 S36 => w_Jx4a65c_add_72be8_X3_B11 cy tE mc ms post S36 (0 + m29) (0 + m30) p9 p0 r35 p2)))))

set_option maxHeartbeats 200000 in
set_option maxRecDepth 100000 in
theorem k_Jx4a65c_add_72be8_X3 {l : Launch} {D : va_G} {cy : Nat → ClassId} {T0 tB tE : Nat} {a : Nat → Nat} {rw : Nat → Option Nat} (hrw : ∀ i, i < 6 → rw i = some (a (12 + 2 * i))) {mc ms : Nat} (S : KS) (p9 : Nat) (p0 : Nat) (p1 : Nat) (p2 : Int32) (post : KS → Prop) (h : w_Jx4a65c_add_72be8_X3 cy tE mc ms S p9 p0 p1 p2 post) : Ct l D cy T0 tB tE yJx4a65c_add_72be8 cJx4a65c_add_72be8 4 none 3 83 mc ms (kw cy a rw S) [.ref p9, .ref p0, .ref p1, .int p2] (QV D (U := KS) post (kw cy a rw)) := by
  refine Ct.ofZ RJx4a65c "add" [(0, .ref p9), (1, .ref p0), (2, .ref p1), (3, .int p2)] rfl rfl rfl rfl (Nat.le_of_ble_eq_true rfl) ?_
  intro p e R s m args below meth c A b
  unfold w_Jx4a65c_add_72be8_X3 at h
  refine z_iload_n b dJx4a65c_add_72be8_0 rfl rfl ?_
  refine z_aload_n b dJx4a65c_add_72be8_1 rfl rfl ?_
  rcases h with ⟨e1, h⟩ | h
  · refine z_elen (t := p1) b e1 dJx4a65c_add_72be8_2 ?_
    refine y_icmp_ne (tgt := 11) (xl := p2.toInt) (yl := 0) b rfl (by decide) dJx4a65c_add_72be8_3 (by decide) (fun c1 => ?_) (fun c1 => ?_)
    · replace h := h.1 c1
      exact z_Jx4a65c_add_72be8_X3_B11 hrw b _ _ _ _ _ _ _ h
    · replace h := h.2 c1
      refine z_aload_n b dJx4a65c_add_72be8_6 rfl rfl ?_
      obtain ⟨m17, m18, g19, h⟩ := h
      obtain ⟨i20, f21, g22, h⟩ := h
      refine z_callq b (z_runV (q0 := 47 + i20) (As := []) (st := []) b (k_Jx4a65c_grow_d5877 hrw S p9 _ h) cf_Jx4a65c_grow_d5877 (kw_dyn cy a rw S g22) rfl wm_Jx4a65c_129 wi_Jx4a65c_grow_d5877 ws_Jx4a65c_grow_d5877 dJx4a65c_add_72be8_7 rfl (Nat.le_of_ble_eq_true rfl) ⟨by decide, by decide, g19.1, g19.2⟩) (fun r23 S24 h => ?_)
      refine z_astore_nQ (lv' := [(2, va_rf r23), (0, .ref p9), (1, .ref p0), (3, .int p2)]) b dJx4a65c_add_72be8_10 rfl (by decide) rfl ?_
      refine z_lv0 (lv' := [(0, .ref p9), (1, .ref p0), (2, va_rf r23), (3, .int p2)]) [1, 2, 0, 3] rfl ?_
      exact z_Jx4a65c_add_72be8_X3_B11 hrw b _ _ _ _ _ _ _ h
  · obtain ⟨i25, n26, f27, g28, h⟩ := h
    refine z_alen (q0 := 47 + i25) (t0 := 5) (v := Int32.ofNat n26) b (kw_dyn cy a rw S g28) rfl rfl dJx4a65c_add_72be8_2 ?_
    refine y_icmp_ne (tgt := 11) (xl := p2.toInt) (yl := (Int32.ofNat n26).toInt) b rfl rfl dJx4a65c_add_72be8_3 (by decide) (fun c1 => ?_) (fun c1 => ?_)
    · replace h := h.1 c1
      exact z_Jx4a65c_add_72be8_X3_B11 hrw b _ _ _ _ _ _ _ h
    · replace h := h.2 c1
      refine z_aload_n b dJx4a65c_add_72be8_6 rfl rfl ?_
      obtain ⟨m29, m30, g31, h⟩ := h
      obtain ⟨i32, f33, g34, h⟩ := h
      refine z_callq b (z_runV (q0 := 47 + i32) (As := []) (st := []) b (k_Jx4a65c_grow_d5877 hrw S p9 _ h) cf_Jx4a65c_grow_d5877 (kw_dyn cy a rw S g34) rfl wm_Jx4a65c_129 wi_Jx4a65c_grow_d5877 ws_Jx4a65c_grow_d5877 dJx4a65c_add_72be8_7 rfl (Nat.le_of_ble_eq_true rfl) ⟨by decide, by decide, g31.1, g31.2⟩) (fun r35 S36 h => ?_)
      refine z_astore_nQ (lv' := [(2, va_rf r35), (0, .ref p9), (1, .ref p0), (3, .int p2)]) b dJx4a65c_add_72be8_10 rfl (by decide) rfl ?_
      refine z_lv0 (lv' := [(0, .ref p9), (1, .ref p0), (2, va_rf r35), (3, .int p2)]) [1, 2, 0, 3] rfl ?_
      exact z_Jx4a65c_add_72be8_X3_B11 hrw b _ _ _ _ _ _ _ h

def w_Jx4a65c_add_9ea2d_X3 (cy : Nat → ClassId) (tE : Nat) (mc ms : Nat) (S : KS) (p9 : Nat) (p0 : Nat) (post : Int32 → KS → Prop) : Prop :=
  ∃ (i1 : Nat) (f2 : Int32) (f3 : Value) (f4 : Int32), S.2.2.2[i1]? = some (p9, .inr (0, [.int f2, f3, .int f4])) ∧ ∃ (i6 : Nat) (f7 : Int32) (f8 : Value) (f9 : Int32), S.2.2.2[i6]? = some (p9, .inr (0, [.int f7, f8, .int f9])) ∧ ∃ (i11 : Nat) (f12 : Int32) (f13 : Nat) (f14 : Int32), (S.2.2.2.set i6 (p9, .inr (0, [.int (f2 + 1), f8, .int f9])))[i11]? = some (p9, .inr (0, [.int f12, .ref f13, .int f14])) ∧ ∃ (i16 : Nat) (f17 : Int32) (f18 : Value) (f19 : Int32), (S.2.2.2.set i6 (p9, .inr (0, [.int (f2 + 1), f8, .int f9])))[i16]? = some (p9, .inr (0, [.int f17, f18, .int f19])) ∧ ∃ m21 m22 : Nat, (0 + m21 ≤ mc ∧ 0 + m22 ≤ ms) ∧ ∃ (i24 : Nat) (f25 : List Value), (S.2.2.2.set i6 (p9, .inr (0, [.int (f2 + 1), f8, .int f9])))[i24]? = some (p9, .inr (0, f25)) ∧ w_Jx4a65c_add_72be8_X3 cy tE m21 m22 (ksL S (S.2.2.2.set i6 (p9, .inr (0, [.int (f2 + 1), f8, .int f9])))) p9 p0 f13 f19 (fun S28 => ((0 + m21) ≤ mc ∧ (0 + m22) ≤ ms) ∧ post 1 S28)

set_option maxHeartbeats 200000 in
set_option maxRecDepth 100000 in
theorem k_Jx4a65c_add_9ea2d_X3 {l : Launch} {D : va_G} {cy : Nat → ClassId} {T0 tB tE : Nat} {a : Nat → Nat} {rw : Nat → Option Nat} (hrw : ∀ i, i < 6 → rw i = some (a (12 + 2 * i))) {mc ms : Nat} (S : KS) (p9 : Nat) (p0 : Nat) (post : Int32 → KS → Prop) (h : w_Jx4a65c_add_9ea2d_X3 cy tE mc ms S p9 p0 post) : Ct l D cy T0 tB tE yJx4a65c_add_9ea2d cJx4a65c_add_9ea2d 2 (some .boolean) 4 106 mc ms (kw cy a rw S) [.ref p9, .ref p0] (QI D (U := KS) post (kw cy a rw)) := by
  refine Ct.ofZ RJx4a65c "add" [(0, .ref p9), (1, .ref p0)] rfl rfl rfl rfl (Nat.le_of_ble_eq_true rfl) ?_
  intro p e R s m args below meth c A b
  unfold w_Jx4a65c_add_9ea2d_X3 at h
  refine z_aload_n b dJx4a65c_add_9ea2d_0 rfl rfl ?_
  refine z_dup b dJx4a65c_add_9ea2d_1 rfl ?_
  obtain ⟨i1, f2, f3, f4, g5, h⟩ := h
  refine z_getS (q0 := 47 + i1) (k9 := 0) (v := .int f2) b (kw_dyn cy a rw S g5) rfl in_Jx4a65c (by decide) wf_Jx4a65c_63 wsf_mod rfl dJx4a65c_add_9ea2d_2 ?_
  refine z_iconst (v := 1) b dJx4a65c_add_9ea2d_5 (by decide) ?_
  refine z_iadd b dJx4a65c_add_9ea2d_6 rfl ?_
  obtain ⟨i6, f7, f8, f9, g10, h⟩ := h
  refine z_putS (q0 := 47 + i6) (k9 := 0) tyJx4a65c b (kw_dyn cy a rw S g10) rfl in_Jx4a65c tyJx4a65c_ok nmJx4a65c (by decide) wf_Jx4a65c_63 wsf_mod rfl rfl rfl rfl (Nat.le_of_ble_eq_true rfl) dJx4a65c_add_9ea2d_7 (kw_dset cy a rw S i6 (p9, .inr (0, [.int (f2 + 1), f8, .int f9]))) ?_
  refine z_aload_n b dJx4a65c_add_9ea2d_10 rfl rfl ?_
  refine z_aload_n b dJx4a65c_add_9ea2d_11 rfl rfl ?_
  refine z_aload_n b dJx4a65c_add_9ea2d_12 rfl rfl ?_
  obtain ⟨i11, f12, f13, f14, g15, h⟩ := h
  refine z_get (q0 := 47 + i11) (k9 := 1) (v := .ref f13) b (kw_dyn cy a rw (ksL S (S.2.2.2.set i6 (p9, .inr (0, [.int (f2 + 1), f8, .int f9])))) g15) rfl in_Jx4a65c (by decide) wf_Jx4a65c_9 rfl dJx4a65c_add_9ea2d_13 ?_
  refine z_aload_n b dJx4a65c_add_9ea2d_16 rfl rfl ?_
  obtain ⟨i16, f17, f18, f19, g20, h⟩ := h
  refine z_get (q0 := 47 + i16) (k9 := 2) (v := .int f19) b (kw_dyn cy a rw (ksL S (S.2.2.2.set i6 (p9, .inr (0, [.int (f2 + 1), f8, .int f9])))) g20) rfl in_Jx4a65c (by decide) wf_Jx4a65c_48 rfl dJx4a65c_add_9ea2d_17 ?_
  obtain ⟨m21, m22, g23, h⟩ := h
  obtain ⟨i24, f25, g26, h⟩ := h
  refine z_callv b (z_runV (q0 := 47 + i24) (As := [.ref p0, .ref f13, .int f19]) (st := []) b (k_Jx4a65c_add_72be8_X3 hrw (ksL S (S.2.2.2.set i6 (p9, .inr (0, [.int (f2 + 1), f8, .int f9])))) p9 p0 f13 f19 _ h) cf_Jx4a65c_add_72be8 (kw_dyn cy a rw (ksL S (S.2.2.2.set i6 (p9, .inr (0, [.int (f2 + 1), f8, .int f9])))) g26) rfl wm_Jx4a65c_131 wi_Jx4a65c_add_72be8 ws_Jx4a65c_add_72be8 dJx4a65c_add_9ea2d_20 rfl (Nat.le_of_ble_eq_true rfl) ⟨by decide, by decide, g23.1, g23.2⟩) (fun S28 h => ?_)
  refine z_iconst (v := 1) b dJx4a65c_add_9ea2d_23 (by decide) ?_
  obtain ⟨g29, h⟩ := h
  exact z_zret (u := S28) b rfl (by decide) dJx4a65c_add_9ea2d_24 h rfl g29.1 g29.2

def w_X11_cure_B37 (cy : Nat → ClassId) (tE : Nat) (mc ms : Nat) (post : Int32 → KS → Prop) (S : KS) (nc : Nat) (ns : Nat) : Prop :=
  (nc ≤ mc ∧ ns ≤ ms) ∧ post (-1) S

set_option maxHeartbeats 200000 in
set_option maxRecDepth 100000 in
theorem z_X11_cure_B37 {p : Program} {l : Launch} {e : Env} {R : Room} {s : State} {m : MethodId} {args : Array Value} {below : List Frame} {meth : Method} {c : Code} {D : va_G} {cy : Nat → ClassId} {T0 tB tE : Nat} {A : Nat → Prop} {a : Nat → Nat} {rw : Nat → Option Nat} (hrw : ∀ i, i < 6 → rw i = some (a (12 + 2 * i))) {mc ms : Nat} {post : Int32 → KS → Prop} (b : Bz p R s m args meth c D cy T0 tB tE A 2 cX11_cure RX11 (some .int) "cure" 37 845 mc ms) (S : KS) (nc : Nat) (ns : Nat) (h : w_X11_cure_B37 cy tE mc ms post S nc ns) : Z p l e R s m args below meth c D A 2 (MQ below (QI D (U := KS) post (kw cy a rw) A) args s mc ms A) nc ns (kw cy a rw S) [] 37 [] := by
  unfold w_X11_cure_B37 at h
  refine z_iconst (v := (-1)) b dX11_cure_37 (by decide) ?_
  obtain ⟨g10, h⟩ := h
  exact z_iret (u := S) b rfl dX11_cure_38 h rfl g10.1 g10.2

def w_X11_cure (cy : Nat → ClassId) (tE : Nat) (mc ms : Nat) (S : KS) (p0 : Int32) (post : Int32 → KS → Prop) : Prop :=
  (0 ≤ mc ∧ 0 ≤ ms) ∧ w_X11_takeTape cy tE S (fun S3 => (0 ≤ mc ∧ 0 ≤ ms) ∧ ∃ (i5 : Nat) (f6 : List Value), S3.2.2.2[i5]? = some ((S3.2.1 2), .inr (0, f6)) ∧ w_Jx4a65c_size_8abf5 cy tE S3 (S3.2.1 2) (fun r8 S9 => ((5 ≤ r8.toInt → w_X11_cure_B37 cy tE mc ms post S9 0 0) ∧ (r8.toInt < 5 → (0 ≤ mc ∧ 0 ≤ ms) ∧ w_X11_isWithin cy tE S9 p0 11 (fun r12 S13 => ((r12.toInt = 0 → w_X11_cure_B37 cy tE mc ms post S13 0 0) ∧ (r12.toInt ≠ 0 → (0 ≤ mc ∧ 0 ≤ ms) ∧ w_X5_readCondition cy tE S13 (fun r15 S16 => ((r15.toInt ≠ 0 → (0 + 1 ≤ mc ∧ 0 + 2 ≤ ms) ∧ ∀ q18 : Nat, ∃ m19 m20 : Nat, ((0 + 1) + m19 ≤ mc ∧ (0 + 2) + m20 ≤ ms) ∧ w_X5_clause cy tE m19 m20 (ksL S16 (vn S16.2.2.2 (q18, .inr (4, [.int 0, .null])))) 5 0 (fun r22 S23 => ∃ q24 : Nat, r22 = some q24 ∧ (((0 + 1) + m19) ≤ mc ∧ ((0 + 2) + m20) ≤ ms) ∧ w_X3_init cy tE S23 q18 p0 q24 (fun S28 => ∃ m29 m30 : Nat, (((0 + 1) + m19) + m29 ≤ mc ∧ ((0 + 2) + m20) + m30 ≤ ms) ∧ ∃ (i32 : Nat) (f33 : List Value), S28.2.2.2[i32]? = some ((S16.2.1 2), .inr (0, f33)) ∧ w_Jx4a65c_add_9ea2d_X3 cy tE m29 m30 S28 (S16.2.1 2) q18 (fun r35 S36 => ((((0 + 1) + m19) + m29) ≤ mc ∧ (((0 + 2) + m20) + m30) ≤ ms) ∧ w_X8_forget cy tE S36 (fun S39 => ((((0 + 1) + m19) + m29) ≤ mc ∧ (((0 + 2) + m20) + m30) ≤ ms) ∧ ∃ (i41 : Nat) (f42 : List Value), S39.2.2.2[i41]? = some ((S39.2.1 2), .inr (0, f42)) ∧ w_Jx4a65c_size_8abf5 cy tE S39 (S39.2.1 2) (fun r44 S45 => ((((0 + 1) + m19) + m29) ≤ mc ∧ (((0 + 2) + m20) + m30) ≤ ms) ∧ post (r44 - 1) S45)))))) ∧ (r15.toInt = 0 → w_X11_cure_B37 cy tE mc ms post S16 0 0))))))))))

set_option maxHeartbeats 200000 in
set_option maxRecDepth 100000 in
theorem k_X11_cure {l : Launch} {D : va_G} {cy : Nat → ClassId} {T0 tB tE : Nat} {a : Nat → Nat} {rw : Nat → Option Nat} (hrw : ∀ i, i < 6 → rw i = some (a (12 + 2 * i))) {mc ms : Nat} (S : KS) (p0 : Int32) (post : Int32 → KS → Prop) (h : w_X11_cure cy tE mc ms S p0 post) : Ct l D cy T0 tB tE yX11_cure cX11_cure 2 (some .int) 37 845 mc ms (kw cy a rw S) [.ref (a 0), .int p0] (QI D (U := KS) post (kw cy a rw)) := by
  refine Ct.ofZ RX11 "cure" [(0, .ref (a 0)), (1, .int p0)] rfl rfl rfl rfl (Nat.le_of_ble_eq_true rfl) ?_
  intro p e R s m args below meth c A b
  unfold w_X11_cure at h
  refine z_aload_n b dX11_cure_0 rfl rfl ?_
  obtain ⟨g1, h⟩ := h
  refine z_callv b (z_runV (q0 := 0) (As := []) (st := []) b (k_X11_takeTape hrw S _ h) cf_X11_takeTape (kw_0 cy a rw S) rfl wm_X11_93 wi_X11_takeTape ws_X11_takeTape dX11_cure_1 rfl (Nat.le_of_ble_eq_true rfl) ⟨by decide, by decide, g1.1, g1.2⟩) (fun S3 h => ?_)
  refine z_aload_n b dX11_cure_4 rfl rfl ?_
  refine z_get (q0 := 0) (k9 := 3) (v := .ref (a 33)) b (kw_0 cy a rw S3) rfl in_X11 (by decide) wf_X11_27 rfl dX11_cure_5 ?_
  refine z_get (q0 := 33) (k9 := 2) (v := .ref (S3.2.1 2)) b (kw_33 cy a rw S3) rfl in_X4 (by decide) wf_X11_136 rfl dX11_cure_8 ?_
  obtain ⟨g4, h⟩ := h
  obtain ⟨i5, f6, g7, h⟩ := h
  refine z_calli b (z_runV (q0 := 47 + i5) (As := []) (st := []) b (k_Jx4a65c_size_8abf5 hrw S3 (S3.2.1 2) _ h) cf_Jx4a65c_size_8abf5 (kw_dyn cy a rw S3 g7) rfl wm_X11_117 wi_Jx4a65c_size_8abf5 ws_Jx4a65c_size_8abf5 dX11_cure_11 rfl (Nat.le_of_ble_eq_true rfl) ⟨by decide, by decide, g4.1, g4.2⟩) (fun r8 S9 h => ?_)
  refine z_iconst (v := 5) b dX11_cure_14 (by decide) ?_
  refine y_icmp_ge (tgt := 37) (xl := r8.toInt) (yl := 5) b rfl (by decide) dX11_cure_15 (by decide) (fun c1 => ?_) (fun c1 => ?_)
  · replace h := h.1 c1
    refine z_lv0 (lv' := []) [] rfl ?_
    exact z_X11_cure_B37 hrw b _ _ _ h
  · replace h := h.2 c1
    refine z_iload_n b dX11_cure_18 rfl rfl ?_
    refine z_bipush (v := 11) b dX11_cure_19 (by decide) ?_
    obtain ⟨g11, h⟩ := h
    refine z_calli b (z_runS (As := [.int p0, .int 11]) (st := []) b (k_X11_isWithin hrw S9 p0 11 _ h) cf_X11_isWithin wm_X11_73 ws_X11_isWithin dX11_cure_21 rfl (Nat.le_of_ble_eq_true rfl) ⟨by decide, by decide, g11.1, g11.2⟩) (fun r12 S13 h => ?_)
    refine y_if_eq (tgt := 37) (xl := r12.toInt) b rfl dX11_cure_24 (by decide) (fun c1 => ?_) (fun c1 => ?_)
    · replace h := h.1 c1
      refine z_lv0 (lv' := []) [] rfl ?_
      exact z_X11_cure_B37 hrw b _ _ _ h
    · replace h := h.2 c1
      refine z_aload_n b dX11_cure_27 rfl rfl ?_
      refine z_get (q0 := 0) (k9 := 2) (v := .ref (a 26)) b (kw_0 cy a rw S13) rfl in_X11 (by decide) wf_X11_20 rfl dX11_cure_28 ?_
      obtain ⟨g14, h⟩ := h
      refine z_calli b (z_runV (q0 := 26) (As := []) (st := []) b (k_X5_readCondition hrw S13 _ h) cf_X5_readCondition (kw_26 cy a rw S13) rfl wm_X11_125 wi_X5_readCondition ws_X5_readCondition dX11_cure_31 rfl (Nat.le_of_ble_eq_true rfl) ⟨by decide, by decide, g14.1, g14.2⟩) (fun r15 S16 h => ?_)
      refine y_if_ne (tgt := 39) (xl := r15.toInt) b rfl dX11_cure_34 (by decide) (fun c1 => ?_) (fun c1 => ?_)
      · replace h := h.1 c1
        refine z_aload_n b dX11_cure_39 rfl rfl ?_
        refine z_get (q0 := 0) (k9 := 3) (v := .ref (a 33)) b (kw_0 cy a rw S16) rfl in_X11 (by decide) wf_X11_27 rfl dX11_cure_40 ?_
        refine z_get (q0 := 33) (k9 := 2) (v := .ref (S16.2.1 2)) b (kw_33 cy a rw S16) rfl in_X4 (by decide) wf_X11_136 rfl dX11_cure_43 ?_
        obtain ⟨g17, h⟩ := h
        refine z_new (fs := [.int 0, .null]) (N := 2) (ci := 4) tyX3 b in_X3 tyX3_ok wk_X11_139 wn_X3 w0_X3 rfl tyX3_df g17 dX11_cure_46 (fun q18 => ?_)
        replace h := h q18
        refine z_wseq (kw_newv cy a rw S16 (q18, .inr (4, [.int 0, .null]))) ?_
        refine z_dup b dX11_cure_49 rfl ?_
        refine z_iload_n b dX11_cure_50 rfl rfl ?_
        refine z_aload_n b dX11_cure_51 rfl rfl ?_
        refine z_get (q0 := 0) (k9 := 2) (v := .ref (a 26)) b (kw_0 cy a rw (ksL S16 (vn S16.2.2.2 (q18, .inr (4, [.int 0, .null]))))) rfl in_X11 (by decide) wf_X11_20 rfl dX11_cure_52 ?_
        refine z_iconst (v := 5) b dX11_cure_55 (by decide) ?_
        refine z_iconst (v := 0) b dX11_cure_56 (by decide) ?_
        obtain ⟨m19, m20, g21, h⟩ := h
        refine z_callq b (z_runV (q0 := 26) (As := [.int 5, .int 0]) (st := [.int p0, .ref q18, .ref q18, .ref (S16.2.1 2)]) b (k_X5_clause hrw (ksL S16 (vn S16.2.2.2 (q18, .inr (4, [.int 0, .null])))) 5 0 _ h) cf_X5_clause (kw_26 cy a rw (ksL S16 (vn S16.2.2.2 (q18, .inr (4, [.int 0, .null]))))) rfl wm_X11_128 wi_X5_clause ws_X5_clause dX11_cure_57 rfl (Nat.le_of_ble_eq_true rfl) ⟨by decide, by decide, g21.1, g21.2⟩) (fun r22 S23 h => ?_)
        obtain ⟨q24, g25, h⟩ := h
        subst g25
        obtain ⟨g26, h⟩ := h
        refine z_callv b (z_runI (As := [.int p0, .ref q24]) (st := [.ref q18, .ref (S16.2.1 2)]) b (k_X3_init hrw S23 q18 p0 q24 _ h) cf_X3_init wm_X11_141 wi_X3_init rfl dX11_cure_60 rfl (Nat.le_of_ble_eq_true rfl) ⟨by decide, by decide, g26.1, g26.2⟩) (fun S28 h => ?_)
        obtain ⟨m29, m30, g31, h⟩ := h
        obtain ⟨i32, f33, g34, h⟩ := h
        refine z_calli b (z_runV (q0 := 47 + i32) (As := [.ref q18]) (st := []) b (k_Jx4a65c_add_9ea2d_X3 hrw S28 (S16.2.1 2) q18 _ h) cf_Jx4a65c_add_9ea2d (kw_dyn cy a rw S28 g34) rfl wm_X11_132 wi_Jx4a65c_add_9ea2d ws_Jx4a65c_add_9ea2d dX11_cure_63 rfl (Nat.le_of_ble_eq_true rfl) ⟨by decide, by decide, g31.1, g31.2⟩) (fun r35 S36 h => ?_)
        refine z_pop b dX11_cure_66 rfl ?_
        refine z_aload_n b dX11_cure_67 rfl rfl ?_
        refine z_get (q0 := 0) (k9 := 6) (v := .ref (a 38)) b (kw_0 cy a rw S36) rfl in_X11 (by decide) wf_X11_52 rfl dX11_cure_68 ?_
        obtain ⟨g37, h⟩ := h
        refine z_callv b (z_runV (q0 := 38) (As := []) (st := []) b (k_X8_forget hrw S36 _ h) cf_X8_forget (kw_38 cy a rw S36) rfl wm_X11_81 wi_X8_forget ws_X8_forget dX11_cure_71 rfl (Nat.le_of_ble_eq_true rfl) ⟨by decide, by decide, g37.1, g37.2⟩) (fun S39 h => ?_)
        refine z_aload_n b dX11_cure_74 rfl rfl ?_
        refine z_get (q0 := 0) (k9 := 3) (v := .ref (a 33)) b (kw_0 cy a rw S39) rfl in_X11 (by decide) wf_X11_27 rfl dX11_cure_75 ?_
        refine z_get (q0 := 33) (k9 := 2) (v := .ref (S39.2.1 2)) b (kw_33 cy a rw S39) rfl in_X4 (by decide) wf_X11_136 rfl dX11_cure_78 ?_
        obtain ⟨g40, h⟩ := h
        obtain ⟨i41, f42, g43, h⟩ := h
        refine z_calli b (z_runV (q0 := 47 + i41) (As := []) (st := []) b (k_Jx4a65c_size_8abf5 hrw S39 (S39.2.1 2) _ h) cf_Jx4a65c_size_8abf5 (kw_dyn cy a rw S39 g43) rfl wm_X11_117 wi_Jx4a65c_size_8abf5 ws_Jx4a65c_size_8abf5 dX11_cure_81 rfl (Nat.le_of_ble_eq_true rfl) ⟨by decide, by decide, g40.1, g40.2⟩) (fun r44 S45 h => ?_)
        refine z_iconst (v := 1) b dX11_cure_84 (by decide) ?_
        refine z_isub b dX11_cure_85 rfl ?_
        obtain ⟨g46, h⟩ := h
        exact z_iret (u := S45) b rfl dX11_cure_86 h rfl g46.1 g46.2
      · replace h := h.2 c1
        refine z_lv0 (lv' := []) [] rfl ?_
        exact z_X11_cure_B37 hrw b _ _ _ h

def w_X5_readAmount_B78 (cy : Nat → ClassId) (tE : Nat) (post : Int32 → KS → Prop) (S : KS)  : Prop :=
  post 1 S

set_option maxHeartbeats 200000 in
set_option maxRecDepth 100000 in
theorem z_X5_readAmount_B78 {p : Program} {l : Launch} {e : Env} {R : Room} {s : State} {m : MethodId} {args : Array Value} {below : List Frame} {meth : Method} {c : Code} {D : va_G} {cy : Nat → ClassId} {T0 tB tE : Nat} {A : Nat → Prop} {a : Nat → Nat} {rw : Nat → Option Nat} (hrw : ∀ i, i < 6 → rw i = some (a (12 + 2 * i))) {post : Int32 → KS → Prop} (b : Bz p R s m args meth c D cy T0 tB tE A 3 cX5_readAmount RX5 (some .boolean) "readAmount" 4 88 0 0) (S : KS)  (h : w_X5_readAmount_B78 cy tE post S ) : Z p l e R s m args below meth c D A 3 (MQ below (QI D (U := KS) post (kw cy a rw) A) args s 0 0 A) 0 0 (kw cy a rw S) [] 78 [] := by
  unfold w_X5_readAmount_B78 at h
  refine z_iconst (v := 1) b dX5_readAmount_78 (by decide) ?_
  exact z_zret (u := S) b rfl (by decide) dX5_readAmount_79 h rfl (by decide) (by decide)

def w_X5_readAmount_B58 (cy : Nat → ClassId) (tE : Nat) (post : Int32 → KS → Prop) (S : KS) (x2 : Int32) : Prop :=
  w_X5_readSum cy tE S (fun r3 S4 => ((r3.toInt ≠ 0 → ((x2.toInt = 0 → w_X5_readAmount_B78 cy tE post S4) ∧ (x2.toInt ≠ 0 → w_X5_emit cy tE S4 25 0 (fun S6 => w_X5_readAmount_B78 cy tE post S6)))) ∧ (r3.toInt = 0 → post 0 S4)))

set_option maxHeartbeats 200000 in
set_option maxRecDepth 100000 in
theorem z_X5_readAmount_B58 {p : Program} {l : Launch} {e : Env} {R : Room} {s : State} {m : MethodId} {args : Array Value} {below : List Frame} {meth : Method} {c : Code} {D : va_G} {cy : Nat → ClassId} {T0 tB tE : Nat} {A : Nat → Prop} {a : Nat → Nat} {rw : Nat → Option Nat} (hrw : ∀ i, i < 6 → rw i = some (a (12 + 2 * i))) {post : Int32 → KS → Prop} (b : Bz p R s m args meth c D cy T0 tB tE A 3 cX5_readAmount RX5 (some .boolean) "readAmount" 4 88 0 0) (S : KS) (x2 : Int32) (h : w_X5_readAmount_B58 cy tE post S x2) : Z p l e R s m args below meth c D A 3 (MQ below (QI D (U := KS) post (kw cy a rw) A) args s 0 0 A) 0 0 (kw cy a rw S) [(0, .ref (a 26)), (2, .int x2)] 58 [] := by
  unfold w_X5_readAmount_B58 at h
  refine z_aload_n b dX5_readAmount_58 rfl rfl ?_
  refine z_calli b (z_runV (q0 := 26) (As := []) (st := []) b (k_X5_readSum hrw S _ h) cf_X5_readSum (kw_26 cy a rw S) rfl wm_X5_151 wi_X5_readSum ws_X5_readSum dX5_readAmount_59 rfl (Nat.le_of_ble_eq_true rfl) ⟨by decide, by decide, Nat.le_of_ble_eq_true rfl, Nat.le_of_ble_eq_true rfl⟩) (fun r3 S4 h => ?_)
  refine y_if_ne (tgt := 67) (xl := r3.toInt) b rfl dX5_readAmount_62 (by decide) (fun c1 => ?_) (fun c1 => ?_)
  · replace h := h.1 c1
    refine z_iload_n b dX5_readAmount_67 rfl rfl ?_
    refine y_if_eq (tgt := 78) (xl := x2.toInt) b rfl dX5_readAmount_68 (by decide) (fun c1 => ?_) (fun c1 => ?_)
    · replace h := h.1 c1
      refine z_lv0 (lv' := []) [] rfl ?_
      exact z_X5_readAmount_B78 hrw b _ h
    · replace h := h.2 c1
      refine z_aload_n b dX5_readAmount_71 rfl rfl ?_
      refine z_bipush (v := 25) b dX5_readAmount_72 (by decide) ?_
      refine z_iconst (v := 0) b dX5_readAmount_74 (by decide) ?_
      refine z_callv b (z_runV (q0 := 26) (As := [.int 25, .int 0]) (st := []) b (k_X5_emit hrw S4 25 0 _ h) cf_X5_emit (kw_26 cy a rw S4) rfl wm_X5_147 wi_X5_emit ws_X5_emit dX5_readAmount_75 rfl (Nat.le_of_ble_eq_true rfl) ⟨by decide, by decide, Nat.le_of_ble_eq_true rfl, Nat.le_of_ble_eq_true rfl⟩) (fun S6 h => ?_)
      refine z_lv0 (lv' := []) [] rfl ?_
      exact z_X5_readAmount_B78 hrw b _ h
  · replace h := h.2 c1
    refine z_iconst (v := 0) b dX5_readAmount_65 (by decide) ?_
    exact z_zret (u := S4) b rfl (by decide) dX5_readAmount_66 h rfl (by decide) (by decide)

def w_X5_readAmount_B38 (cy : Nat → ClassId) (tE : Nat) (post : Int32 → KS → Prop) (S : KS) (x2 : Int32) : Prop :=
  ((x2.toInt = 0 → w_X5_readAmount_B58 cy tE post (ksi S 15 ((fi S.1 15) + 1)) x2) ∧ (x2.toInt ≠ 0 → w_X5_emit cy tE (ksi S 15 ((fi S.1 15) + 1)) 2 0 (fun S8 => w_X5_readAmount_B58 cy tE post S8 x2)))

set_option maxHeartbeats 200000 in
set_option maxRecDepth 100000 in
theorem z_X5_readAmount_B38 {p : Program} {l : Launch} {e : Env} {R : Room} {s : State} {m : MethodId} {args : Array Value} {below : List Frame} {meth : Method} {c : Code} {D : va_G} {cy : Nat → ClassId} {T0 tB tE : Nat} {A : Nat → Prop} {a : Nat → Nat} {rw : Nat → Option Nat} (hrw : ∀ i, i < 6 → rw i = some (a (12 + 2 * i))) {post : Int32 → KS → Prop} (b : Bz p R s m args meth c D cy T0 tB tE A 3 cX5_readAmount RX5 (some .boolean) "readAmount" 4 88 0 0) (S : KS) (x2 : Int32) (h : w_X5_readAmount_B38 cy tE post S x2) : Z p l e R s m args below meth c D A 3 (MQ below (QI D (U := KS) post (kw cy a rw) A) args s 0 0 A) 0 0 (kw cy a rw S) [(0, .ref (a 26)), (2, .int x2)] 38 [] := by
  unfold w_X5_readAmount_B38 at h
  refine z_aload_n b dX5_readAmount_38 rfl rfl ?_
  refine z_dup b dX5_readAmount_39 rfl ?_
  refine z_get (q0 := 26) (k9 := 1) (v := .int (fi S.1 15)) b (kw_26 cy a rw S) rfl in_X5 (by decide) wf_X5_18 rfl dX5_readAmount_40 ?_
  refine z_iconst (v := 1) b dX5_readAmount_43 (by decide) ?_
  refine z_iadd b dX5_readAmount_44 rfl ?_
  refine z_put (q0 := 26) (k9 := 1) tyX5 b (kw_26 cy a rw S) rfl in_X5 tyX5_ok nmX5 (by decide) wf_X5_18 rfl rfl rfl rfl (Nat.le_of_ble_eq_true rfl) dX5_readAmount_45 (kwp_26_1 cy a rw S ((fi S.1 15) + 1)) ?_
  refine z_iload_n b dX5_readAmount_48 rfl rfl ?_
  refine y_if_eq (tgt := 58) (xl := x2.toInt) b rfl dX5_readAmount_49 (by decide) (fun c1 => ?_) (fun c1 => ?_)
  · replace h := h.1 c1
    exact z_X5_readAmount_B58 hrw b _ _ h
  · replace h := h.2 c1
    refine z_aload_n b dX5_readAmount_52 rfl rfl ?_
    refine z_iconst (v := 2) b dX5_readAmount_53 (by decide) ?_
    refine z_iconst (v := 0) b dX5_readAmount_54 (by decide) ?_
    refine z_callv b (z_runV (q0 := 26) (As := [.int 2, .int 0]) (st := []) b (k_X5_emit hrw (ksi S 15 ((fi S.1 15) + 1)) 2 0 _ h) cf_X5_emit (kw_26 cy a rw (ksi S 15 ((fi S.1 15) + 1))) rfl wm_X5_147 wi_X5_emit ws_X5_emit dX5_readAmount_55 rfl (Nat.le_of_ble_eq_true rfl) ⟨by decide, by decide, Nat.le_of_ble_eq_true rfl, Nat.le_of_ble_eq_true rfl⟩) (fun S8 h => ?_)
    exact z_X5_readAmount_B58 hrw b _ _ h

def w_X5_readAmount_B18 (cy : Nat → ClassId) (tE : Nat) (post : Int32 → KS → Prop) (S : KS) (y0 : Int32) : Prop :=
  w_X5_kind cy tE S (fun r1 S2 => ((r1.toInt = 24 → w_X5_readAmount_B38 cy tE post S2 y0) ∧ (r1.toInt ≠ 24 → ((y0.toInt ≠ 0 → w_X5_readAmount_B38 cy tE post S2 y0) ∧ (y0.toInt = 0 → w_X5_refuse cy tE S2 1 (fun r9 S10 => (r9 = 0 ∨ r9 = 1) ∧ post r9 S10))))))

set_option maxHeartbeats 200000 in
set_option maxRecDepth 100000 in
theorem z_X5_readAmount_B18 {p : Program} {l : Launch} {e : Env} {R : Room} {s : State} {m : MethodId} {args : Array Value} {below : List Frame} {meth : Method} {c : Code} {D : va_G} {cy : Nat → ClassId} {T0 tB tE : Nat} {A : Nat → Prop} {a : Nat → Nat} {rw : Nat → Option Nat} (hrw : ∀ i, i < 6 → rw i = some (a (12 + 2 * i))) {post : Int32 → KS → Prop} (b : Bz p R s m args meth c D cy T0 tB tE A 3 cX5_readAmount RX5 (some .boolean) "readAmount" 4 88 0 0) (S : KS) (y0 : Int32) (h : w_X5_readAmount_B18 cy tE post S y0) : Z p l e R s m args below meth c D A 3 (MQ below (QI D (U := KS) post (kw cy a rw) A) args s 0 0 A) 0 0 (kw cy a rw S) [(0, .ref (a 26))] 18 [.int y0] := by
  unfold w_X5_readAmount_B18 at h
  refine z_istore_n (lv' := [(2, .int y0), (0, .ref (a 26))]) b dX5_readAmount_18 rfl (by decide) rfl ?_
  refine z_aload_n b dX5_readAmount_19 rfl rfl ?_
  refine z_calli b (z_runV (q0 := 26) (As := []) (st := []) b (k_X5_kind hrw S _ h) cf_X5_kind (kw_26 cy a rw S) rfl wm_X5_66 wi_X5_kind ws_X5_kind dX5_readAmount_20 rfl (Nat.le_of_ble_eq_true rfl) ⟨by decide, by decide, Nat.le_of_ble_eq_true rfl, Nat.le_of_ble_eq_true rfl⟩) (fun r1 S2 h => ?_)
  refine z_bipush (v := 24) b dX5_readAmount_23 (by decide) ?_
  refine y_icmp_eq (tgt := 38) (xl := r1.toInt) (yl := 24) b rfl (by decide) dX5_readAmount_25 (by decide) (fun c1 => ?_) (fun c1 => ?_)
  · replace h := h.1 c1
    refine z_lv0 (lv' := [(0, .ref (a 26)), (2, .int y0)]) [1, 0] rfl ?_
    exact z_X5_readAmount_B38 hrw b _ _ h
  · replace h := h.2 c1
    refine z_iload_n b dX5_readAmount_28 rfl rfl ?_
    refine y_if_ne (tgt := 38) (xl := y0.toInt) b rfl dX5_readAmount_29 (by decide) (fun c1 => ?_) (fun c1 => ?_)
    · replace h := h.1 c1
      refine z_lv0 (lv' := [(0, .ref (a 26)), (2, .int y0)]) [1, 0] rfl ?_
      exact z_X5_readAmount_B38 hrw b _ _ h
    · replace h := h.2 c1
      refine z_aload_n b dX5_readAmount_32 rfl rfl ?_
      refine z_iconst (v := 1) b dX5_readAmount_33 (by decide) ?_
      refine z_calli b (z_runV (q0 := 26) (As := [.int 1]) (st := []) b (k_X5_refuse hrw S2 1 _ h) cf_X5_refuse (kw_26 cy a rw S2) rfl wm_X5_70 wi_X5_refuse ws_X5_refuse dX5_readAmount_34 rfl (Nat.le_of_ble_eq_true rfl) ⟨by decide, by decide, Nat.le_of_ble_eq_true rfl, Nat.le_of_ble_eq_true rfl⟩) (fun r9 S10 h => ?_)
      obtain ⟨g11, h⟩ := h
      exact z_zret (u := S10) b rfl (z_bool g11) dX5_readAmount_37 h rfl (by decide) (by decide)

def w_X5_readAmount_B17 (cy : Nat → ClassId) (tE : Nat) (post : Int32 → KS → Prop) (S : KS)  : Prop :=
  w_X5_readAmount_B18 cy tE post S 0

set_option maxHeartbeats 200000 in
set_option maxRecDepth 100000 in
theorem z_X5_readAmount_B17 {p : Program} {l : Launch} {e : Env} {R : Room} {s : State} {m : MethodId} {args : Array Value} {below : List Frame} {meth : Method} {c : Code} {D : va_G} {cy : Nat → ClassId} {T0 tB tE : Nat} {A : Nat → Prop} {a : Nat → Nat} {rw : Nat → Option Nat} (hrw : ∀ i, i < 6 → rw i = some (a (12 + 2 * i))) {post : Int32 → KS → Prop} (b : Bz p R s m args meth c D cy T0 tB tE A 3 cX5_readAmount RX5 (some .boolean) "readAmount" 4 88 0 0) (S : KS)  (h : w_X5_readAmount_B17 cy tE post S ) : Z p l e R s m args below meth c D A 3 (MQ below (QI D (U := KS) post (kw cy a rw) A) args s 0 0 A) 0 0 (kw cy a rw S) [(0, .ref (a 26))] 17 [] := by
  unfold w_X5_readAmount_B17 at h
  refine z_iconst (v := 0) b dX5_readAmount_17 (by decide) ?_
  exact z_X5_readAmount_B18 hrw b _ _ h

def w_X5_readAmount (cy : Nat → ClassId) (tE : Nat) (S : KS) (p0 : Int32) (post : Int32 → KS → Prop) : Prop :=
  ((p0.toInt = 0 → w_X5_readAmount_B17 cy tE post S) ∧ (p0.toInt ≠ 0 → w_X5_kind cy tE S (fun r12 S13 => ((r12.toInt ≠ 25 → w_X5_readAmount_B17 cy tE post S13) ∧ (r12.toInt = 25 → w_X5_readAmount_B18 cy tE post S13 1)))))

set_option maxHeartbeats 200000 in
set_option maxRecDepth 100000 in
theorem k_X5_readAmount {l : Launch} {D : va_G} {cy : Nat → ClassId} {T0 tB tE : Nat} {a : Nat → Nat} {rw : Nat → Option Nat} (hrw : ∀ i, i < 6 → rw i = some (a (12 + 2 * i))) (S : KS) (p0 : Int32) (post : Int32 → KS → Prop) (h : w_X5_readAmount cy tE S p0 post) : Ct l D cy T0 tB tE yX5_readAmount cX5_readAmount 3 (some .boolean) 4 88 0 0 (kw cy a rw S) [.ref (a 26), .int p0] (QI D (U := KS) post (kw cy a rw)) := by
  refine Ct.ofZ RX5 "readAmount" [(0, .ref (a 26)), (1, .int p0)] rfl rfl rfl rfl (Nat.le_of_ble_eq_true rfl) ?_
  intro p e R s m args below meth c A b
  unfold w_X5_readAmount at h
  refine z_iload_n b dX5_readAmount_0 rfl rfl ?_
  refine y_if_eq (tgt := 17) (xl := p0.toInt) b rfl dX5_readAmount_1 (by decide) (fun c1 => ?_) (fun c1 => ?_)
  · replace h := h.1 c1
    refine z_lv0 (lv' := [(0, .ref (a 26))]) [0] rfl ?_
    exact z_X5_readAmount_B17 hrw b _ h
  · replace h := h.2 c1
    refine z_aload_n b dX5_readAmount_4 rfl rfl ?_
    refine z_calli b (z_runV (q0 := 26) (As := []) (st := []) b (k_X5_kind hrw S _ h) cf_X5_kind (kw_26 cy a rw S) rfl wm_X5_66 wi_X5_kind ws_X5_kind dX5_readAmount_5 rfl (Nat.le_of_ble_eq_true rfl) ⟨by decide, by decide, Nat.le_of_ble_eq_true rfl, Nat.le_of_ble_eq_true rfl⟩) (fun r12 S13 h => ?_)
    refine z_bipush (v := 25) b dX5_readAmount_8 (by decide) ?_
    refine y_icmp_ne (tgt := 17) (xl := r12.toInt) (yl := 25) b rfl (by decide) dX5_readAmount_10 (by decide) (fun c1 => ?_) (fun c1 => ?_)
    · replace h := h.1 c1
      refine z_lv0 (lv' := [(0, .ref (a 26))]) [0] rfl ?_
      exact z_X5_readAmount_B17 hrw b _ h
    · replace h := h.2 c1
      refine z_iconst (v := 1) b dX5_readAmount_13 (by decide) ?_
      refine z_goto (tgt := 18) b dX5_readAmount_14 (by decide) ?_
      refine z_lv0 (lv' := [(0, .ref (a 26))]) [0] rfl ?_
      exact z_X5_readAmount_B18 hrw b _ _ h

def w_X8_code_B13 (cy : Nat → ClassId) (tE : Nat) (post : Int32 → KS → Prop) (S : KS)  : Prop :=
  post (-1) S

set_option maxHeartbeats 200000 in
set_option maxRecDepth 100000 in
theorem z_X8_code_B13 {p : Program} {l : Launch} {e : Env} {R : Room} {s : State} {m : MethodId} {args : Array Value} {below : List Frame} {meth : Method} {c : Code} {D : va_G} {cy : Nat → ClassId} {T0 tB tE : Nat} {A : Nat → Prop} {a : Nat → Nat} {rw : Nat → Option Nat} (hrw : ∀ i, i < 6 → rw i = some (a (12 + 2 * i))) {post : Int32 → KS → Prop} (b : Bz p R s m args meth c D cy T0 tB tE A 5 cX8_code RX8 (some .int) "code" 1 21 0 0) (S : KS)  (h : w_X8_code_B13 cy tE post S ) : Z p l e R s m args below meth c D A 5 (MQ below (QI D (U := KS) post (kw cy a rw) A) args s 0 0 A) 0 0 (kw cy a rw S) [] 13 [] := by
  unfold w_X8_code_B13 at h
  refine z_iconst (v := (-1)) b dX8_code_13 (by decide) ?_
  exact z_iret (u := S) b rfl dX8_code_14 h rfl (by decide) (by decide)

def w_X8_code_F28 (cy : Nat → ClassId) (tE : Nat) (post : Int32 → KS → Prop) (k58 : KS → Int32 → Prop) (k28 : KS → Int32 → Int32 → Prop) (S : KS) (x3 : Int32) (x4 : Int32) : Prop :=
  ((x4.toInt ≤ 0 → k58 S x3) ∧ (0 < x4.toInt → ((x3.toInt < 0 → k58 S x3) ∧ (0 ≤ x3.toInt → (((fi S.1 33).toInt ≤ x3.toInt → k58 S x3) ∧ (x3.toInt < (fi S.1 33).toInt → (0 ≤ x3.toInt ∧ x3.toInt < 400) ∧ k28 S ((ar S.1 18) x3.toNatClampNeg) (x4 + (-1))))))))

set_option maxHeartbeats 200000 in
set_option maxRecDepth 100000 in
theorem z_X8_code_F28 {p : Program} {l : Launch} {e : Env} {R : Room} {s : State} {m : MethodId} {args : Array Value} {below : List Frame} {meth : Method} {c : Code} {D : va_G} {cy : Nat → ClassId} {T0 tB tE : Nat} {A : Nat → Prop} {a : Nat → Nat} {rw : Nat → Option Nat} (hrw : ∀ i, i < 6 → rw i = some (a (12 + 2 * i))) {post : Int32 → KS → Prop} {k58 : KS → Int32 → Prop} {k28 : KS → Int32 → Int32 → Prop} (b : Bz p R s m args meth c D cy T0 tB tE A 5 cX8_code RX8 (some .int) "code" 1 21 0 0) (hk58 : ∀ (S : KS) (x3 : Int32), k58 S x3 → Z p l e R s m args below meth c D A 5 (MQ below (QI D (U := KS) post (kw cy a rw) A) args s 0 0 A) 0 0 (kw cy a rw S) [(0, .ref (a 38)), (3, .int x3)] 58 []) (hk28 : ∀ (S : KS) (x3 : Int32) (x4 : Int32), k28 S x3 x4 → Z p l e R s m args below meth c D A 5 (MQ below (QI D (U := KS) post (kw cy a rw) A) args s 0 0 A) 0 0 (kw cy a rw S) [(0, .ref (a 38)), (3, .int x3), (4, .int x4)] 28 []) (S : KS) (x3 : Int32) (x4 : Int32) (h : w_X8_code_F28 cy tE post k58 k28 S x3 x4) : Z p l e R s m args below meth c D A 5 (MQ below (QI D (U := KS) post (kw cy a rw) A) args s 0 0 A) 0 0 (kw cy a rw S) [(0, .ref (a 38)), (3, .int x3), (4, .int x4)] 28 [] := by
  unfold w_X8_code_F28 at h
  refine z_iload b dX8_code_28 rfl ?_
  refine y_if_le (tgt := 58) (xl := x4.toInt) b rfl dX8_code_30 (by decide) (fun c1 => ?_) (fun c1 => ?_)
  · replace h := h.1 c1
    refine z_lv0 (lv' := [(0, .ref (a 38)), (3, .int x3)]) [0, 1] rfl ?_
    exact hk58 _ _ h
  · replace h := h.2 c1
    refine z_iload_n b dX8_code_33 rfl rfl ?_
    refine y_if_lt (tgt := 58) (xl := x3.toInt) b rfl dX8_code_34 (by decide) (fun c1 => ?_) (fun c1 => ?_)
    · replace h := h.1 c1
      refine z_lv0 (lv' := [(0, .ref (a 38)), (3, .int x3)]) [0, 1] rfl ?_
      exact hk58 _ _ h
    · replace h := h.2 c1
      refine z_iload_n b dX8_code_37 rfl rfl ?_
      refine z_aload_n b dX8_code_38 rfl rfl ?_
      refine z_get (q0 := 38) (k9 := 17) (v := .int (fi S.1 33)) b (kw_38 cy a rw S) rfl in_X8 (by decide) wf_X8_64 rfl dX8_code_39 ?_
      refine y_icmp_ge (tgt := 58) (xl := x3.toInt) (yl := (fi S.1 33).toInt) b rfl rfl dX8_code_42 (by decide) (fun c1 => ?_) (fun c1 => ?_)
      · replace h := h.1 c1
        refine z_lv0 (lv' := [(0, .ref (a 38)), (3, .int x3)]) [0, 1] rfl ?_
        exact hk58 _ _ h
      · replace h := h.2 c1
        refine z_aload_n b dX8_code_45 rfl rfl ?_
        refine z_get (q0 := 38) (k9 := 5) (v := .ref (a 41)) b (kw_38 cy a rw S) rfl in_X8 (by decide) wf_X8_26 rfl dX8_code_46 ?_
        refine z_iload_n b dX8_code_49 rfl rfl ?_
        obtain ⟨g5, h⟩ := h
        refine y_iald (q0 := 41) (j := x3.toNatClampNeg) (v := ((ar S.1 18) x3.toNatClampNeg)) b (kw_41 cy a rw S) (zx_r g5.1 g5.2) rfl dX8_code_50 ?_
        refine z_istore_n (lv' := [(3, .int ((ar S.1 18) x3.toNatClampNeg)), (0, .ref (a 38)), (4, .int x4)]) b dX8_code_51 rfl (by decide) rfl ?_
        refine z_iinc (k9 := 2) (v := (x4 + (-1))) (lv' := [(4, .int (x4 + (-1))), (3, .int ((ar S.1 18) x3.toNatClampNeg)), (0, .ref (a 38))]) b dX8_code_52 rfl rfl (by decide) rfl ?_
        refine z_goto (tgt := 28) b dX8_code_55 (by decide) ?_
        refine z_lv0 (lv' := [(0, .ref (a 38)), (3, .int ((ar S.1 18) x3.toNatClampNeg)), (4, .int (x4 + (-1)))]) [2, 1, 0] rfl ?_
        exact hk28 _ _ _ h

