set_option maxHeartbeats 200000 in
set_option maxRecDepth 100000 in
theorem zl_X11_friends_L27 {p : Program} {l : Launch} {e : Env} {R : Room} {s : State} {m : MethodId} {args : Array Value} {below : List Frame} {meth : Method} {c : Code} {D : va_G} {cy : Nat → ClassId} {T0 tB tE : Nat} {A : Nat → Prop} {a : Nat → Nat} {rw : Nat → Option Nat} (hrw : ∀ i, i < 6 → rw i = some (a (12 + 2 * i))) {post : Int32 → KS → Prop} {k95 : KS → Prop} (b : Bz p R s m args meth c D cy T0 tB tE A 6 cX11_friends RX11 (some .int) "friends" 6 146 0 0) (hk95 : ∀ (S : KS), k95 S → Z p l e R s m args below meth c D A 6 (MQ below (QI D (U := KS) post (kw cy a rw) A) args s 0 0 A) 0 0 (kw cy a rw S) [] 95 []) : ∀ (n : Nat) (S : KS) (x1 : Int32) (x2 : Int32) (x3 : Int32) (x4 : Int32), lpn (w_X11_friends_F27 cy tE post k95) (fun _ _ _ _ _ => False) n S x1 x2 x3 x4 → Z p l e R s m args below meth c D A 6 (MQ below (QI D (U := KS) post (kw cy a rw) A) args s 0 0 A) 0 0 (kw cy a rw S) [(0, .ref (a 0)), (1, .int x1), (2, .int x2), (3, .int x3), (4, .int x4)] 27 [] := by
  intro n
  induction n with
  | zero => intro _ _ _ _ _ h; exact h.elim
  | succ n ih => intro S x1 x2 x3 x4 h; exact z_X11_friends_F27 hrw b hk95 ih S x1 x2 x3 x4 h

def w_X11_friends_B95 (cy : Nat → ClassId) (tE : Nat) (post : Int32 → KS → Prop) (S : KS)  : Prop :=
  post (-1) S

set_option maxHeartbeats 200000 in
set_option maxRecDepth 100000 in
theorem z_X11_friends_B95 {p : Program} {l : Launch} {e : Env} {R : Room} {s : State} {m : MethodId} {args : Array Value} {below : List Frame} {meth : Method} {c : Code} {D : va_G} {cy : Nat → ClassId} {T0 tB tE : Nat} {A : Nat → Prop} {a : Nat → Nat} {rw : Nat → Option Nat} (hrw : ∀ i, i < 6 → rw i = some (a (12 + 2 * i))) {post : Int32 → KS → Prop} (b : Bz p R s m args meth c D cy T0 tB tE A 6 cX11_friends RX11 (some .int) "friends" 6 146 0 0) (S : KS)  (h : w_X11_friends_B95 cy tE post S ) : Z p l e R s m args below meth c D A 6 (MQ below (QI D (U := KS) post (kw cy a rw) A) args s 0 0 A) 0 0 (kw cy a rw S) [] 95 [] := by
  unfold w_X11_friends_B95 at h
  refine z_iconst (v := (-1)) b dX11_friends_95 (by decide) ?_
  exact z_iret (u := S) b rfl dX11_friends_96 h rfl (by decide) (by decide)

def w_X11_friends (cy : Nat → ClassId) (tE : Nat) (S : KS) (p0 : Int32) (p1 : Int32) (p2 : Int32) (post : Int32 → KS → Prop) : Prop :=
  w_X11_isNever cy tE S p0 (fun r1 S2 => ((r1.toInt = 0 → w_X11_friends_B22 cy tE post S2) ∧ (r1.toInt ≠ 0 → w_X11_areLaws cy tE S2 p1 (fun r3 S4 => ((r3.toInt = 0 → w_X11_friends_B22 cy tE post S4) ∧ (r3.toInt ≠ 0 → w_X11_isDepth cy tE S4 p2 (fun r5 S6 => ((r5.toInt ≠ 0 → ∃ n, lpn (w_X11_friends_F27 cy tE post (w_X11_friends_B95 cy tE post)) (fun _ _ _ _ _ => False) n S6 p0 p1 p2 1) ∧ (r5.toInt = 0 → w_X11_friends_B22 cy tE post S6)))))))))

set_option maxHeartbeats 200000 in
set_option maxRecDepth 100000 in
theorem k_X11_friends {l : Launch} {D : va_G} {cy : Nat → ClassId} {T0 tB tE : Nat} {a : Nat → Nat} {rw : Nat → Option Nat} (hrw : ∀ i, i < 6 → rw i = some (a (12 + 2 * i))) (S : KS) (p0 : Int32) (p1 : Int32) (p2 : Int32) (post : Int32 → KS → Prop) (h : w_X11_friends cy tE S p0 p1 p2 post) : Ct l D cy T0 tB tE yX11_friends cX11_friends 6 (some .int) 6 146 0 0 (kw cy a rw S) [.ref (a 0), .int p0, .int p1, .int p2] (QI D (U := KS) post (kw cy a rw)) := by
  refine Ct.ofZ RX11 "friends" [(0, .ref (a 0)), (1, .int p0), (2, .int p1), (3, .int p2)] rfl rfl rfl rfl (Nat.le_of_ble_eq_true rfl) ?_
  intro p e R s m args below meth c A b
  unfold w_X11_friends at h
  refine z_aload_n b dX11_friends_0 rfl rfl ?_
  refine z_iload_n b dX11_friends_1 rfl rfl ?_
  refine z_calli b (z_runV (q0 := 0) (As := [.int p0]) (st := []) b (k_X11_isNever hrw S p0 _ h) cf_X11_isNever (kw_0 cy a rw S) rfl wm_X11_200 wi_X11_isNever ws_X11_isNever dX11_friends_2 rfl (Nat.le_of_ble_eq_true rfl) ⟨by decide, by decide, Nat.le_of_ble_eq_true rfl, Nat.le_of_ble_eq_true rfl⟩) (fun r1 S2 h => ?_)
  refine y_if_eq (tgt := 22) (xl := r1.toInt) b rfl dX11_friends_5 (by decide) (fun c1 => ?_) (fun c1 => ?_)
  · replace h := h.1 c1
    refine z_lv0 (lv' := []) [] rfl ?_
    exact z_X11_friends_B22 hrw b _ h
  · replace h := h.2 c1
    refine z_iload_n b dX11_friends_8 rfl rfl ?_
    refine z_calli b (z_runS (As := [.int p1]) (st := []) b (k_X11_areLaws hrw S2 p1 _ h) cf_X11_areLaws wm_X11_181 ws_X11_areLaws dX11_friends_9 rfl (Nat.le_of_ble_eq_true rfl) ⟨by decide, by decide, Nat.le_of_ble_eq_true rfl, Nat.le_of_ble_eq_true rfl⟩) (fun r3 S4 h => ?_)
    refine y_if_eq (tgt := 22) (xl := r3.toInt) b rfl dX11_friends_12 (by decide) (fun c1 => ?_) (fun c1 => ?_)
    · replace h := h.1 c1
      refine z_lv0 (lv' := []) [] rfl ?_
      exact z_X11_friends_B22 hrw b _ h
    · replace h := h.2 c1
      refine z_iload_n b dX11_friends_15 rfl rfl ?_
      refine z_calli b (z_runS (As := [.int p2]) (st := []) b (k_X11_isDepth hrw S4 p2 _ h) cf_X11_isDepth wm_X11_203 ws_X11_isDepth dX11_friends_16 rfl (Nat.le_of_ble_eq_true rfl) ⟨by decide, by decide, Nat.le_of_ble_eq_true rfl, Nat.le_of_ble_eq_true rfl⟩) (fun r5 S6 h => ?_)
      refine y_if_ne (tgt := 24) (xl := r5.toInt) b rfl dX11_friends_19 (by decide) (fun c1 => ?_) (fun c1 => ?_)
      · replace h := h.1 c1
        refine z_iconst (v := 1) b dX11_friends_24 (by decide) ?_
        refine z_istore (lv' := [(4, .int 1), (0, .ref (a 0)), (1, .int p0), (2, .int p1), (3, .int p2)]) b dX11_friends_25 (by decide) rfl ?_
        refine z_lv0 (lv' := [(0, .ref (a 0)), (1, .int p0), (2, .int p1), (3, .int p2), (4, .int 1)]) [1, 2, 3, 4, 0] rfl ?_
        obtain ⟨n, h⟩ := h
        exact zl_X11_friends_L27 hrw b (fun S h => z_X11_friends_B95 hrw b _ h) n _ _ _ _ _ h
      · replace h := h.2 c1
        refine z_lv0 (lv' := []) [] rfl ?_
        exact z_X11_friends_B22 hrw b _ h

def w_X11_only_B15 (cy : Nat → ClassId) (tE : Nat) (post : Int32 → KS → Prop) (S : KS)  : Prop :=
  post (-1) S

set_option maxHeartbeats 200000 in
set_option maxRecDepth 100000 in
theorem z_X11_only_B15 {p : Program} {l : Launch} {e : Env} {R : Room} {s : State} {m : MethodId} {args : Array Value} {below : List Frame} {meth : Method} {c : Code} {D : va_G} {cy : Nat → ClassId} {T0 tB tE : Nat} {A : Nat → Prop} {a : Nat → Nat} {rw : Nat → Option Nat} (hrw : ∀ i, i < 6 → rw i = some (a (12 + 2 * i))) {post : Int32 → KS → Prop} (b : Bz p R s m args meth c D cy T0 tB tE A 6 cX11_only RX11 (some .int) "only" 7 169 0 0) (S : KS)  (h : w_X11_only_B15 cy tE post S ) : Z p l e R s m args below meth c D A 6 (MQ below (QI D (U := KS) post (kw cy a rw) A) args s 0 0 A) 0 0 (kw cy a rw S) [] 15 [] := by
  unfold w_X11_only_B15 at h
  refine z_iconst (v := (-1)) b dX11_only_15 (by decide) ?_
  exact z_iret (u := S) b rfl dX11_only_16 h rfl (by decide) (by decide)

def w_X11_only_B63 (cy : Nat → ClassId) (tE : Nat) (post : Int32 → KS → Prop) (S : KS)  : Prop :=
  post (-2) S

set_option maxHeartbeats 200000 in
set_option maxRecDepth 100000 in
theorem z_X11_only_B63 {p : Program} {l : Launch} {e : Env} {R : Room} {s : State} {m : MethodId} {args : Array Value} {below : List Frame} {meth : Method} {c : Code} {D : va_G} {cy : Nat → ClassId} {T0 tB tE : Nat} {A : Nat → Prop} {a : Nat → Nat} {rw : Nat → Option Nat} (hrw : ∀ i, i < 6 → rw i = some (a (12 + 2 * i))) {post : Int32 → KS → Prop} (b : Bz p R s m args meth c D cy T0 tB tE A 6 cX11_only RX11 (some .int) "only" 7 169 0 0) (S : KS)  (h : w_X11_only_B63 cy tE post S ) : Z p l e R s m args below meth c D A 6 (MQ below (QI D (U := KS) post (kw cy a rw) A) args s 0 0 A) 0 0 (kw cy a rw S) [] 63 [] := by
  unfold w_X11_only_B63 at h
  refine z_bipush (v := (-2)) b dX11_only_63 (by decide) ?_
  exact z_iret (u := S) b rfl dX11_only_65 h rfl (by decide) (by decide)

def w_X11_only_B86 (cy : Nat → ClassId) (tE : Nat) (post : Int32 → KS → Prop) (S : KS) (y0 : Int32) : Prop :=
  post y0 S

set_option maxHeartbeats 200000 in
set_option maxRecDepth 100000 in
theorem z_X11_only_B86 {p : Program} {l : Launch} {e : Env} {R : Room} {s : State} {m : MethodId} {args : Array Value} {below : List Frame} {meth : Method} {c : Code} {D : va_G} {cy : Nat → ClassId} {T0 tB tE : Nat} {A : Nat → Prop} {a : Nat → Nat} {rw : Nat → Option Nat} (hrw : ∀ i, i < 6 → rw i = some (a (12 + 2 * i))) {post : Int32 → KS → Prop} (b : Bz p R s m args meth c D cy T0 tB tE A 6 cX11_only RX11 (some .int) "only" 7 169 0 0) (S : KS) (y0 : Int32) (h : w_X11_only_B86 cy tE post S y0) : Z p l e R s m args below meth c D A 6 (MQ below (QI D (U := KS) post (kw cy a rw) A) args s 0 0 A) 0 0 (kw cy a rw S) [] 86 [.int y0] := by
  unfold w_X11_only_B86 at h
  exact z_iret (u := S) b rfl dX11_only_86 h rfl (by decide) (by decide)

def w_X11_only_B85 (cy : Nat → ClassId) (tE : Nat) (post : Int32 → KS → Prop) (S : KS)  : Prop :=
  w_X11_only_B86 cy tE post S 0

set_option maxHeartbeats 200000 in
set_option maxRecDepth 100000 in
theorem z_X11_only_B85 {p : Program} {l : Launch} {e : Env} {R : Room} {s : State} {m : MethodId} {args : Array Value} {below : List Frame} {meth : Method} {c : Code} {D : va_G} {cy : Nat → ClassId} {T0 tB tE : Nat} {A : Nat → Prop} {a : Nat → Nat} {rw : Nat → Option Nat} (hrw : ∀ i, i < 6 → rw i = some (a (12 + 2 * i))) {post : Int32 → KS → Prop} (b : Bz p R s m args meth c D cy T0 tB tE A 6 cX11_only RX11 (some .int) "only" 7 169 0 0) (S : KS)  (h : w_X11_only_B85 cy tE post S ) : Z p l e R s m args below meth c D A 6 (MQ below (QI D (U := KS) post (kw cy a rw) A) args s 0 0 A) 0 0 (kw cy a rw S) [] 85 [] := by
  unfold w_X11_only_B85 at h
  refine z_iconst (v := 0) b dX11_only_85 (by decide) ?_
  exact z_X11_only_B86 hrw b _ _ h

def w_X11_only (cy : Nat → ClassId) (tE : Nat) (S : KS) (p0 : Int32) (p1 : Int32) (post : Int32 → KS → Prop) : Prop :=
  w_X11_isNever cy tE S p0 (fun r1 S2 => ((r1.toInt = 0 → w_X11_only_B15 cy tE post S2) ∧ (r1.toInt ≠ 0 → w_X11_isDepth cy tE S2 p1 (fun r3 S4 => ((r3.toInt ≠ 0 → w_X11_hasHole cy tE S4 p0 3 p1 (fun r5 S6 => w_X11_hasHole cy tE S6 p0 1 p1 (fun r7 S8 => w_X11_hasHole cy tE S8 p0 2 p1 (fun r9 S10 => ((r5.toInt = (-2) → w_X11_only_B63 cy tE post S10) ∧ (r5.toInt ≠ (-2) → ((r7.toInt = (-2) → w_X11_only_B63 cy tE post S10) ∧ (r7.toInt ≠ (-2) → ((r9.toInt ≠ (-2) → ((r5.toInt ≠ 1 → w_X11_only_B85 cy tE post S10) ∧ (r5.toInt = 1 → ((r7.toInt ≠ 0 → w_X11_only_B85 cy tE post S10) ∧ (r7.toInt = 0 → ((r9.toInt ≠ 0 → w_X11_only_B85 cy tE post S10) ∧ (r9.toInt = 0 → w_X11_only_B86 cy tE post S10 1))))))) ∧ (r9.toInt = (-2) → w_X11_only_B63 cy tE post S10)))))))))) ∧ (r3.toInt = 0 → w_X11_only_B15 cy tE post S4))))))

set_option maxHeartbeats 200000 in
set_option maxRecDepth 100000 in
theorem k_X11_only {l : Launch} {D : va_G} {cy : Nat → ClassId} {T0 tB tE : Nat} {a : Nat → Nat} {rw : Nat → Option Nat} (hrw : ∀ i, i < 6 → rw i = some (a (12 + 2 * i))) (S : KS) (p0 : Int32) (p1 : Int32) (post : Int32 → KS → Prop) (h : w_X11_only cy tE S p0 p1 post) : Ct l D cy T0 tB tE yX11_only cX11_only 6 (some .int) 7 169 0 0 (kw cy a rw S) [.ref (a 0), .int p0, .int p1] (QI D (U := KS) post (kw cy a rw)) := by
  refine Ct.ofZ RX11 "only" [(0, .ref (a 0)), (1, .int p0), (2, .int p1)] rfl rfl rfl rfl (Nat.le_of_ble_eq_true rfl) ?_
  intro p e R s m args below meth c A b
  unfold w_X11_only at h
  refine z_aload_n b dX11_only_0 rfl rfl ?_
  refine z_iload_n b dX11_only_1 rfl rfl ?_
  refine z_calli b (z_runV (q0 := 0) (As := [.int p0]) (st := []) b (k_X11_isNever hrw S p0 _ h) cf_X11_isNever (kw_0 cy a rw S) rfl wm_X11_200 wi_X11_isNever ws_X11_isNever dX11_only_2 rfl (Nat.le_of_ble_eq_true rfl) ⟨by decide, by decide, Nat.le_of_ble_eq_true rfl, Nat.le_of_ble_eq_true rfl⟩) (fun r1 S2 h => ?_)
  refine y_if_eq (tgt := 15) (xl := r1.toInt) b rfl dX11_only_5 (by decide) (fun c1 => ?_) (fun c1 => ?_)
  · replace h := h.1 c1
    refine z_lv0 (lv' := []) [] rfl ?_
    exact z_X11_only_B15 hrw b _ h
  · replace h := h.2 c1
    refine z_iload_n b dX11_only_8 rfl rfl ?_
    refine z_calli b (z_runS (As := [.int p1]) (st := []) b (k_X11_isDepth hrw S2 p1 _ h) cf_X11_isDepth wm_X11_203 ws_X11_isDepth dX11_only_9 rfl (Nat.le_of_ble_eq_true rfl) ⟨by decide, by decide, Nat.le_of_ble_eq_true rfl, Nat.le_of_ble_eq_true rfl⟩) (fun r3 S4 h => ?_)
    refine y_if_ne (tgt := 17) (xl := r3.toInt) b rfl dX11_only_12 (by decide) (fun c1 => ?_) (fun c1 => ?_)
    · replace h := h.1 c1
      refine z_aload_n b dX11_only_17 rfl rfl ?_
      refine z_iload_n b dX11_only_18 rfl rfl ?_
      refine z_iconst (v := 3) b dX11_only_19 (by decide) ?_
      refine z_iload_n b dX11_only_20 rfl rfl ?_
      refine z_calli b (z_runV (q0 := 0) (As := [.int p0, .int 3, .int p1]) (st := []) b (k_X11_hasHole hrw S4 p0 3 p1 _ h) cf_X11_hasHole (kw_0 cy a rw S4) rfl wm_X11_228 wi_X11_hasHole ws_X11_hasHole dX11_only_21 rfl (Nat.le_of_ble_eq_true rfl) ⟨by decide, by decide, Nat.le_of_ble_eq_true rfl, Nat.le_of_ble_eq_true rfl⟩) (fun r5 S6 h => ?_)
      refine z_istore_n (lv' := [(3, .int r5), (0, .ref (a 0)), (1, .int p0), (2, .int p1)]) b dX11_only_24 rfl (by decide) rfl ?_
      refine z_aload_n b dX11_only_25 rfl rfl ?_
      refine z_iload_n b dX11_only_26 rfl rfl ?_
      refine z_iconst (v := 1) b dX11_only_27 (by decide) ?_
      refine z_iload_n b dX11_only_28 rfl rfl ?_
      refine z_calli b (z_runV (q0 := 0) (As := [.int p0, .int 1, .int p1]) (st := []) b (k_X11_hasHole hrw S6 p0 1 p1 _ h) cf_X11_hasHole (kw_0 cy a rw S6) rfl wm_X11_228 wi_X11_hasHole ws_X11_hasHole dX11_only_29 rfl (Nat.le_of_ble_eq_true rfl) ⟨by decide, by decide, Nat.le_of_ble_eq_true rfl, Nat.le_of_ble_eq_true rfl⟩) (fun r7 S8 h => ?_)
      refine z_istore (lv' := [(4, .int r7), (3, .int r5), (0, .ref (a 0)), (1, .int p0), (2, .int p1)]) b dX11_only_32 (by decide) rfl ?_
      refine z_aload_n b dX11_only_34 rfl rfl ?_
      refine z_iload_n b dX11_only_35 rfl rfl ?_
      refine z_iconst (v := 2) b dX11_only_36 (by decide) ?_
      refine z_iload_n b dX11_only_37 rfl rfl ?_
      refine z_calli b (z_runV (q0 := 0) (As := [.int p0, .int 2, .int p1]) (st := []) b (k_X11_hasHole hrw S8 p0 2 p1 _ h) cf_X11_hasHole (kw_0 cy a rw S8) rfl wm_X11_228 wi_X11_hasHole ws_X11_hasHole dX11_only_38 rfl (Nat.le_of_ble_eq_true rfl) ⟨by decide, by decide, Nat.le_of_ble_eq_true rfl, Nat.le_of_ble_eq_true rfl⟩) (fun r9 S10 h => ?_)
      refine z_istore (lv' := [(5, .int r9), (4, .int r7), (3, .int r5), (0, .ref (a 0)), (1, .int p0), (2, .int p1)]) b dX11_only_41 (by decide) rfl ?_
      refine z_iload_n b dX11_only_43 rfl rfl ?_
      refine z_bipush (v := (-2)) b dX11_only_44 (by decide) ?_
      refine y_icmp_eq (tgt := 63) (xl := r5.toInt) (yl := (-2)) b rfl (by decide) dX11_only_46 (by decide) (fun c1 => ?_) (fun c1 => ?_)
      · replace h := h.1 c1
        refine z_lv0 (lv' := []) [] rfl ?_
        exact z_X11_only_B63 hrw b _ h
      · replace h := h.2 c1
        refine z_iload b dX11_only_49 rfl ?_
        refine z_bipush (v := (-2)) b dX11_only_51 (by decide) ?_
        refine y_icmp_eq (tgt := 63) (xl := r7.toInt) (yl := (-2)) b rfl (by decide) dX11_only_53 (by decide) (fun c1 => ?_) (fun c1 => ?_)
        · replace h := h.1 c1
          refine z_lv0 (lv' := []) [] rfl ?_
          exact z_X11_only_B63 hrw b _ h
        · replace h := h.2 c1
          refine z_iload b dX11_only_56 rfl ?_
          refine z_bipush (v := (-2)) b dX11_only_58 (by decide) ?_
          refine y_icmp_ne (tgt := 66) (xl := r9.toInt) (yl := (-2)) b rfl (by decide) dX11_only_60 (by decide) (fun c1 => ?_) (fun c1 => ?_)
          · replace h := h.1 c1
            refine z_iload_n b dX11_only_66 rfl rfl ?_
            refine z_iconst (v := 1) b dX11_only_67 (by decide) ?_
            refine y_icmp_ne (tgt := 85) (xl := r5.toInt) (yl := 1) b rfl (by decide) dX11_only_68 (by decide) (fun c1 => ?_) (fun c1 => ?_)
            · replace h := h.1 c1
              refine z_lv0 (lv' := []) [] rfl ?_
              exact z_X11_only_B85 hrw b _ h
            · replace h := h.2 c1
              refine z_iload b dX11_only_71 rfl ?_
              refine y_if_ne (tgt := 85) (xl := r7.toInt) b rfl dX11_only_73 (by decide) (fun c1 => ?_) (fun c1 => ?_)
              · replace h := h.1 c1
                refine z_lv0 (lv' := []) [] rfl ?_
                exact z_X11_only_B85 hrw b _ h
              · replace h := h.2 c1
                refine z_iload b dX11_only_76 rfl ?_
                refine y_if_ne (tgt := 85) (xl := r9.toInt) b rfl dX11_only_78 (by decide) (fun c1 => ?_) (fun c1 => ?_)
                · replace h := h.1 c1
                  refine z_lv0 (lv' := []) [] rfl ?_
                  exact z_X11_only_B85 hrw b _ h
                · replace h := h.2 c1
                  refine z_iconst (v := 1) b dX11_only_81 (by decide) ?_
                  refine z_goto (tgt := 86) b dX11_only_82 (by decide) ?_
                  refine z_lv0 (lv' := []) [] rfl ?_
                  exact z_X11_only_B86 hrw b _ _ h
          · replace h := h.2 c1
            refine z_lv0 (lv' := []) [] rfl ?_
            exact z_X11_only_B63 hrw b _ h
    · replace h := h.2 c1
      refine z_lv0 (lv' := []) [] rfl ?_
      exact z_X11_only_B15 hrw b _ h

def w_X11_stopsWith_B58 (cy : Nat → ClassId) (tE : Nat) (post : Int32 → KS → Prop) (k3 : KS → Int32 → Int32 → Int32 → Int32 → Prop) (k64 : KS → Int32 → Int32 → Int32 → Prop) (S : KS) (x1 : Int32) (x2 : Int32) (x3 : Int32) (x4 : Int32) : Prop :=
  k3 S x1 x2 x3 (x4 + 1)

set_option maxHeartbeats 200000 in
set_option maxRecDepth 100000 in
theorem z_X11_stopsWith_B58 {p : Program} {l : Launch} {e : Env} {R : Room} {s : State} {m : MethodId} {args : Array Value} {below : List Frame} {meth : Method} {c : Code} {D : va_G} {cy : Nat → ClassId} {T0 tB tE : Nat} {A : Nat → Prop} {a : Nat → Nat} {rw : Nat → Option Nat} (hrw : ∀ i, i < 6 → rw i = some (a (12 + 2 * i))) {post : Int32 → KS → Prop} {k3 : KS → Int32 → Int32 → Int32 → Int32 → Prop} {k64 : KS → Int32 → Int32 → Int32 → Prop} (b : Bz p R s m args meth c D cy T0 tB tE A 5 cX11_stopsWith RX11 (some .boolean) "stopsWith" 6 146 0 0) (hk3 : ∀ (S : KS) (x1 : Int32) (x2 : Int32) (x3 : Int32) (x4 : Int32), k3 S x1 x2 x3 x4 → Z p l e R s m args below meth c D A 5 (MQ below (QI D (U := KS) post (kw cy a rw) A) args s 0 0 A) 0 0 (kw cy a rw S) [(0, .ref (a 0)), (1, .int x1), (2, .int x2), (3, .int x3), (4, .int x4)] 3 []) (hk64 : ∀ (S : KS) (x1 : Int32) (x2 : Int32) (x3 : Int32), k64 S x1 x2 x3 → Z p l e R s m args below meth c D A 5 (MQ below (QI D (U := KS) post (kw cy a rw) A) args s 0 0 A) 0 0 (kw cy a rw S) [(0, .ref (a 0)), (1, .int x1), (2, .int x2), (3, .int x3)] 64 []) (S : KS) (x1 : Int32) (x2 : Int32) (x3 : Int32) (x4 : Int32) (h : w_X11_stopsWith_B58 cy tE post k3 k64 S x1 x2 x3 x4) : Z p l e R s m args below meth c D A 5 (MQ below (QI D (U := KS) post (kw cy a rw) A) args s 0 0 A) 0 0 (kw cy a rw S) [(0, .ref (a 0)), (1, .int x1), (2, .int x2), (3, .int x3), (4, .int x4)] 58 [] := by
  unfold w_X11_stopsWith_B58 at h
  refine z_iinc (k9 := 4) (v := (x4 + 1)) (lv' := [(4, .int (x4 + 1)), (0, .ref (a 0)), (1, .int x1), (2, .int x2), (3, .int x3)]) b dX11_stopsWith_58 rfl rfl (by decide) rfl ?_
  refine z_goto (tgt := 3) b dX11_stopsWith_61 (by decide) ?_
  refine z_lv0 (lv' := [(0, .ref (a 0)), (1, .int x1), (2, .int x2), (3, .int x3), (4, .int (x4 + 1))]) [1, 2, 3, 4, 0] rfl ?_
  exact hk3 _ _ _ _ _ h

def w_X11_stopsWith_F3 (cy : Nat → ClassId) (tE : Nat) (post : Int32 → KS → Prop) (k64 : KS → Int32 → Int32 → Int32 → Prop) (k3 : KS → Int32 → Int32 → Int32 → Int32 → Prop) (S : KS) (x1 : Int32) (x2 : Int32) (x3 : Int32) (x4 : Int32) : Prop :=
  ((6 ≤ x4.toInt → k64 S x1 x2 x3) ∧ (x4.toInt < 6 → (0 ≤ x4.toInt ∧ x4.toInt < 6) ∧ ((x4.toNatClampNeg) < 7) ∧ (((fi S.1 (2 + 2 * (x4.toNatClampNeg))).toInt = 0 → w_X11_stopsWith_B58 cy tE post k3 k64 S x1 x2 x3 x4) ∧ ((fi S.1 (2 + 2 * (x4.toNatClampNeg))).toInt ≠ 0 → (0 ≤ x4.toInt ∧ x4.toInt < 6) ∧ w_X2_follow cy tE S (x4.toNatClampNeg) 0 3 x3 (fun r6 S7 => (0 ≤ x4.toInt ∧ x4.toInt < 6) ∧ ((x4.toNatClampNeg) < 7) ∧ (((fi S7.1 (1 + 2 * (x4.toNatClampNeg))).toInt ≤ r6.toInt → w_X11_stopsWith_B58 cy tE post k3 k64 S7 x1 x2 x3 x4) ∧ (r6.toInt < (fi S7.1 (1 + 2 * (x4.toNatClampNeg))).toInt → post 0 S7)))))))

set_option maxHeartbeats 200000 in
set_option maxRecDepth 100000 in
theorem z_X11_stopsWith_F3 {p : Program} {l : Launch} {e : Env} {R : Room} {s : State} {m : MethodId} {args : Array Value} {below : List Frame} {meth : Method} {c : Code} {D : va_G} {cy : Nat → ClassId} {T0 tB tE : Nat} {A : Nat → Prop} {a : Nat → Nat} {rw : Nat → Option Nat} (hrw : ∀ i, i < 6 → rw i = some (a (12 + 2 * i))) {post : Int32 → KS → Prop} {k64 : KS → Int32 → Int32 → Int32 → Prop} {k3 : KS → Int32 → Int32 → Int32 → Int32 → Prop} (b : Bz p R s m args meth c D cy T0 tB tE A 5 cX11_stopsWith RX11 (some .boolean) "stopsWith" 6 146 0 0) (hk64 : ∀ (S : KS) (x1 : Int32) (x2 : Int32) (x3 : Int32), k64 S x1 x2 x3 → Z p l e R s m args below meth c D A 5 (MQ below (QI D (U := KS) post (kw cy a rw) A) args s 0 0 A) 0 0 (kw cy a rw S) [(0, .ref (a 0)), (1, .int x1), (2, .int x2), (3, .int x3)] 64 []) (hk3 : ∀ (S : KS) (x1 : Int32) (x2 : Int32) (x3 : Int32) (x4 : Int32), k3 S x1 x2 x3 x4 → Z p l e R s m args below meth c D A 5 (MQ below (QI D (U := KS) post (kw cy a rw) A) args s 0 0 A) 0 0 (kw cy a rw S) [(0, .ref (a 0)), (1, .int x1), (2, .int x2), (3, .int x3), (4, .int x4)] 3 []) (S : KS) (x1 : Int32) (x2 : Int32) (x3 : Int32) (x4 : Int32) (h : w_X11_stopsWith_F3 cy tE post k64 k3 S x1 x2 x3 x4) : Z p l e R s m args below meth c D A 5 (MQ below (QI D (U := KS) post (kw cy a rw) A) args s 0 0 A) 0 0 (kw cy a rw S) [(0, .ref (a 0)), (1, .int x1), (2, .int x2), (3, .int x3), (4, .int x4)] 3 [] := by
  unfold w_X11_stopsWith_F3 at h
  refine z_iload b dX11_stopsWith_3 rfl ?_
  refine z_bipush (v := 6) b dX11_stopsWith_5 (by decide) ?_
  refine y_icmp_ge (tgt := 64) (xl := x4.toInt) (yl := 6) b rfl (by decide) dX11_stopsWith_7 (by decide) (fun c1 => ?_) (fun c1 => ?_)
  · replace h := h.1 c1
    refine z_lv0 (lv' := [(0, .ref (a 0)), (1, .int x1), (2, .int x2), (3, .int x3)]) [0, 1, 2, 3] rfl ?_
    exact hk64 _ _ _ _ h
  · replace h := h.2 c1
    refine z_aload_n b dX11_stopsWith_10 rfl rfl ?_
    refine z_get (q0 := 0) (k9 := 7) (v := .ref (a 46)) b (kw_0 cy a rw S) rfl in_X11 (by decide) wf_X11_58 rfl dX11_stopsWith_11 ?_
    refine z_iload b dX11_stopsWith_14 rfl ?_
    obtain ⟨g1, h⟩ := h
    refine y_aald (q0 := 46) (t0 := 4) (j := x4.toNatClampNeg) (v := .ref (a (12 + 2 * (x4.toNatClampNeg)))) b (kw_46 cy a rw S) rfl (zx_r g1.1 g1.2) (by rw [hrw _ (zx_lt (zx_r g1.1 g1.2))]; rfl) dX11_stopsWith_16 ?_
    obtain ⟨g3, h⟩ := h
    refine z_get (q0 := 12 + 2 * (x4.toNatClampNeg)) (k9 := 2) (v := .int (fi S.1 (2 + 2 * (x4.toNatClampNeg)))) b (kw_ro cy a rw S g3) rfl in_X7 (by decide) wf_X11_178 rfl dX11_stopsWith_17 ?_
    refine y_if_eq (tgt := 58) (xl := (fi S.1 (2 + 2 * (x4.toNatClampNeg))).toInt) b rfl dX11_stopsWith_20 (by decide) (fun c1 => ?_) (fun c1 => ?_)
    · replace h := h.1 c1
      exact z_X11_stopsWith_B58 hrw b hk3 hk64 _ _ _ _ _ h
    · replace h := h.2 c1
      refine z_aload_n b dX11_stopsWith_23 rfl rfl ?_
      refine z_get (q0 := 0) (k9 := 5) (v := .ref (a 35)) b (kw_0 cy a rw S) rfl in_X11 (by decide) wf_X11_43 rfl dX11_stopsWith_24 ?_
      refine z_aload_n b dX11_stopsWith_27 rfl rfl ?_
      refine z_get (q0 := 0) (k9 := 7) (v := .ref (a 46)) b (kw_0 cy a rw S) rfl in_X11 (by decide) wf_X11_58 rfl dX11_stopsWith_28 ?_
      refine z_iload b dX11_stopsWith_31 rfl ?_
      obtain ⟨g4, h⟩ := h
      refine y_aald (q0 := 46) (t0 := 4) (j := x4.toNatClampNeg) (v := .ref (a (12 + 2 * (x4.toNatClampNeg)))) b (kw_46 cy a rw S) rfl (zx_r g4.1 g4.2) (by rw [hrw _ (zx_lt (zx_r g4.1 g4.2))]; rfl) dX11_stopsWith_33 ?_
      refine z_aload_n b dX11_stopsWith_34 rfl rfl ?_
      refine z_get (q0 := 0) (k9 := 4) (v := .ref (a 2)) b (kw_0 cy a rw S) rfl in_X11 (by decide) wf_X11_34 rfl dX11_stopsWith_35 ?_
      refine z_iconst (v := 3) b dX11_stopsWith_38 (by decide) ?_
      refine z_iload_n b dX11_stopsWith_39 rfl rfl ?_
      refine z_calli b (z_runV (q0 := 35) (As := [.ref (a (12 + 2 * (x4.toNatClampNeg))), .ref (a 2), .int 3, .int x3]) (st := []) b (k_X2_follow hrw S (x4.toNatClampNeg) 0 3 x3 _ h) cf_X2_follow (kw_35 cy a rw S) rfl wm_X11_184 wi_X2_follow ws_X2_follow dX11_stopsWith_40 rfl (Nat.le_of_ble_eq_true rfl) ⟨by decide, by decide, Nat.le_of_ble_eq_true rfl, Nat.le_of_ble_eq_true rfl⟩) (fun r6 S7 h => ?_)
      refine z_aload_n b dX11_stopsWith_43 rfl rfl ?_
      refine z_get (q0 := 0) (k9 := 7) (v := .ref (a 46)) b (kw_0 cy a rw S7) rfl in_X11 (by decide) wf_X11_58 rfl dX11_stopsWith_44 ?_
      refine z_iload b dX11_stopsWith_47 rfl ?_
      obtain ⟨g8, h⟩ := h
      refine y_aald (q0 := 46) (t0 := 4) (j := x4.toNatClampNeg) (v := .ref (a (12 + 2 * (x4.toNatClampNeg)))) b (kw_46 cy a rw S7) rfl (zx_r g8.1 g8.2) (by rw [hrw _ (zx_lt (zx_r g8.1 g8.2))]; rfl) dX11_stopsWith_49 ?_
      obtain ⟨g10, h⟩ := h
      refine z_get (q0 := 12 + 2 * (x4.toNatClampNeg)) (k9 := 1) (v := .int (fi S7.1 (1 + 2 * (x4.toNatClampNeg)))) b (kw_ro cy a rw S7 g10) rfl in_X7 (by decide) wf_X11_175 rfl dX11_stopsWith_50 ?_
      refine y_icmp_ge (tgt := 58) (xl := r6.toInt) (yl := (fi S7.1 (1 + 2 * (x4.toNatClampNeg))).toInt) b rfl rfl dX11_stopsWith_53 (by decide) (fun c1 => ?_) (fun c1 => ?_)
      · replace h := h.1 c1
        exact z_X11_stopsWith_B58 hrw b hk3 hk64 _ _ _ _ _ h
      · replace h := h.2 c1
        refine z_iconst (v := 0) b dX11_stopsWith_56 (by decide) ?_
        exact z_zret (u := S7) b rfl (by decide) dX11_stopsWith_57 h rfl (by decide) (by decide)

set_option maxHeartbeats 200000 in
set_option maxRecDepth 100000 in
theorem zl_X11_stopsWith_L3 {p : Program} {l : Launch} {e : Env} {R : Room} {s : State} {m : MethodId} {args : Array Value} {below : List Frame} {meth : Method} {c : Code} {D : va_G} {cy : Nat → ClassId} {T0 tB tE : Nat} {A : Nat → Prop} {a : Nat → Nat} {rw : Nat → Option Nat} (hrw : ∀ i, i < 6 → rw i = some (a (12 + 2 * i))) {post : Int32 → KS → Prop} {k64 : KS → Int32 → Int32 → Int32 → Prop} (b : Bz p R s m args meth c D cy T0 tB tE A 5 cX11_stopsWith RX11 (some .boolean) "stopsWith" 6 146 0 0) (hk64 : ∀ (S : KS) (x1 : Int32) (x2 : Int32) (x3 : Int32), k64 S x1 x2 x3 → Z p l e R s m args below meth c D A 5 (MQ below (QI D (U := KS) post (kw cy a rw) A) args s 0 0 A) 0 0 (kw cy a rw S) [(0, .ref (a 0)), (1, .int x1), (2, .int x2), (3, .int x3)] 64 []) : ∀ (n : Nat) (S : KS) (x1 : Int32) (x2 : Int32) (x3 : Int32) (x4 : Int32), lpn (w_X11_stopsWith_F3 cy tE post k64) (fun _ _ _ _ _ => False) n S x1 x2 x3 x4 → Z p l e R s m args below meth c D A 5 (MQ below (QI D (U := KS) post (kw cy a rw) A) args s 0 0 A) 0 0 (kw cy a rw S) [(0, .ref (a 0)), (1, .int x1), (2, .int x2), (3, .int x3), (4, .int x4)] 3 [] := by
  intro n
  induction n with
  | zero => intro _ _ _ _ _ h; exact h.elim
  | succ n ih => intro S x1 x2 x3 x4 h; exact z_X11_stopsWith_F3 hrw b hk64 ih S x1 x2 x3 x4 h

def w_X11_stopsWith_B103 (cy : Nat → ClassId) (tE : Nat) (post : Int32 → KS → Prop) (S : KS) (y0 : Int32) : Prop :=
  (y0 = 0 ∨ y0 = 1) ∧ post y0 S

set_option maxHeartbeats 200000 in
set_option maxRecDepth 100000 in
theorem z_X11_stopsWith_B103 {p : Program} {l : Launch} {e : Env} {R : Room} {s : State} {m : MethodId} {args : Array Value} {below : List Frame} {meth : Method} {c : Code} {D : va_G} {cy : Nat → ClassId} {T0 tB tE : Nat} {A : Nat → Prop} {a : Nat → Nat} {rw : Nat → Option Nat} (hrw : ∀ i, i < 6 → rw i = some (a (12 + 2 * i))) {post : Int32 → KS → Prop} (b : Bz p R s m args meth c D cy T0 tB tE A 5 cX11_stopsWith RX11 (some .boolean) "stopsWith" 6 146 0 0) (S : KS) (y0 : Int32) (h : w_X11_stopsWith_B103 cy tE post S y0) : Z p l e R s m args below meth c D A 5 (MQ below (QI D (U := KS) post (kw cy a rw) A) args s 0 0 A) 0 0 (kw cy a rw S) [] 103 [.int y0] := by
  unfold w_X11_stopsWith_B103 at h
  obtain ⟨g15, h⟩ := h
  exact z_zret (u := S) b rfl (z_bool g15) dX11_stopsWith_103 h rfl (by decide) (by decide)

def w_X11_stopsWith_B102 (cy : Nat → ClassId) (tE : Nat) (post : Int32 → KS → Prop) (S : KS)  : Prop :=
  w_X11_stopsWith_B103 cy tE post S 0

set_option maxHeartbeats 200000 in
set_option maxRecDepth 100000 in
theorem z_X11_stopsWith_B102 {p : Program} {l : Launch} {e : Env} {R : Room} {s : State} {m : MethodId} {args : Array Value} {below : List Frame} {meth : Method} {c : Code} {D : va_G} {cy : Nat → ClassId} {T0 tB tE : Nat} {A : Nat → Prop} {a : Nat → Nat} {rw : Nat → Option Nat} (hrw : ∀ i, i < 6 → rw i = some (a (12 + 2 * i))) {post : Int32 → KS → Prop} (b : Bz p R s m args meth c D cy T0 tB tE A 5 cX11_stopsWith RX11 (some .boolean) "stopsWith" 6 146 0 0) (S : KS)  (h : w_X11_stopsWith_B102 cy tE post S ) : Z p l e R s m args below meth c D A 5 (MQ below (QI D (U := KS) post (kw cy a rw) A) args s 0 0 A) 0 0 (kw cy a rw S) [] 102 [] := by
  unfold w_X11_stopsWith_B102 at h
  refine z_iconst (v := 0) b dX11_stopsWith_102 (by decide) ?_
  exact z_X11_stopsWith_B103 hrw b _ _ h

def w_X11_stopsWith_B64 (cy : Nat → ClassId) (tE : Nat) (post : Int32 → KS → Prop) (S : KS) (x1 : Int32) (x2 : Int32) (x3 : Int32) : Prop :=
  w_X8_begin cy tE S 3 x2 7 x3 (fun S12 => w_X8_first cy tE S12 x1 (fun r13 S14 => ((r13.toInt ≠ (-1) → w_X11_stopsWith_B102 cy tE post S14) ∧ (r13.toInt = (-1) → (((fi S14.1 34).toInt ≠ 0 → w_X11_stopsWith_B102 cy tE post S14) ∧ ((fi S14.1 34).toInt = 0 → w_X11_stopsWith_B103 cy tE post S14 1))))))

set_option maxHeartbeats 200000 in
set_option maxRecDepth 100000 in
theorem z_X11_stopsWith_B64 {p : Program} {l : Launch} {e : Env} {R : Room} {s : State} {m : MethodId} {args : Array Value} {below : List Frame} {meth : Method} {c : Code} {D : va_G} {cy : Nat → ClassId} {T0 tB tE : Nat} {A : Nat → Prop} {a : Nat → Nat} {rw : Nat → Option Nat} (hrw : ∀ i, i < 6 → rw i = some (a (12 + 2 * i))) {post : Int32 → KS → Prop} (b : Bz p R s m args meth c D cy T0 tB tE A 5 cX11_stopsWith RX11 (some .boolean) "stopsWith" 6 146 0 0) (S : KS) (x1 : Int32) (x2 : Int32) (x3 : Int32) (h : w_X11_stopsWith_B64 cy tE post S x1 x2 x3) : Z p l e R s m args below meth c D A 5 (MQ below (QI D (U := KS) post (kw cy a rw) A) args s 0 0 A) 0 0 (kw cy a rw S) [(0, .ref (a 0)), (1, .int x1), (2, .int x2), (3, .int x3)] 64 [] := by
  unfold w_X11_stopsWith_B64 at h
  refine z_aload_n b dX11_stopsWith_64 rfl rfl ?_
  refine z_get (q0 := 0) (k9 := 6) (v := .ref (a 38)) b (kw_0 cy a rw S) rfl in_X11 (by decide) wf_X11_52 rfl dX11_stopsWith_65 ?_
  refine z_iconst (v := 3) b dX11_stopsWith_68 (by decide) ?_
  refine z_iload_n b dX11_stopsWith_69 rfl rfl ?_
  refine z_bipush (v := 7) b dX11_stopsWith_70 (by decide) ?_
  refine z_iload_n b dX11_stopsWith_72 rfl rfl ?_
  refine z_callv b (z_runV (q0 := 38) (As := [.int 3, .int x2, .int 7, .int x3]) (st := []) b (k_X8_begin hrw S 3 x2 7 x3 _ h) cf_X8_begin (kw_38 cy a rw S) rfl wm_X11_206 wi_X8_begin ws_X8_begin dX11_stopsWith_73 rfl (Nat.le_of_ble_eq_true rfl) ⟨by decide, by decide, Nat.le_of_ble_eq_true rfl, Nat.le_of_ble_eq_true rfl⟩) (fun S12 h => ?_)
  refine z_aload_n b dX11_stopsWith_76 rfl rfl ?_
  refine z_get (q0 := 0) (k9 := 6) (v := .ref (a 38)) b (kw_0 cy a rw S12) rfl in_X11 (by decide) wf_X11_52 rfl dX11_stopsWith_77 ?_
  refine z_iload_n b dX11_stopsWith_80 rfl rfl ?_
  refine z_calli b (z_runV (q0 := 38) (As := [.int x1]) (st := []) b (k_X8_first hrw S12 x1 _ h) cf_X8_first (kw_38 cy a rw S12) rfl wm_X11_210 wi_X8_first ws_X8_first dX11_stopsWith_81 rfl (Nat.le_of_ble_eq_true rfl) ⟨by decide, by decide, Nat.le_of_ble_eq_true rfl, Nat.le_of_ble_eq_true rfl⟩) (fun r13 S14 h => ?_)
  refine z_iconst (v := (-1)) b dX11_stopsWith_84 (by decide) ?_
  refine y_icmp_ne (tgt := 102) (xl := r13.toInt) (yl := (-1)) b rfl (by decide) dX11_stopsWith_85 (by decide) (fun c1 => ?_) (fun c1 => ?_)
  · replace h := h.1 c1
    refine z_lv0 (lv' := []) [] rfl ?_
    exact z_X11_stopsWith_B102 hrw b _ h
  · replace h := h.2 c1
    refine z_aload_n b dX11_stopsWith_88 rfl rfl ?_
    refine z_get (q0 := 0) (k9 := 6) (v := .ref (a 38)) b (kw_0 cy a rw S14) rfl in_X11 (by decide) wf_X11_52 rfl dX11_stopsWith_89 ?_
    refine z_get (q0 := 38) (k9 := 18) (v := .int (fi S14.1 34)) b (kw_38 cy a rw S14) rfl in_X8 (by decide) wf_X11_214 rfl dX11_stopsWith_92 ?_
    refine y_if_ne (tgt := 102) (xl := (fi S14.1 34).toInt) b rfl dX11_stopsWith_95 (by decide) (fun c1 => ?_) (fun c1 => ?_)
    · replace h := h.1 c1
      refine z_lv0 (lv' := []) [] rfl ?_
      exact z_X11_stopsWith_B102 hrw b _ h
    · replace h := h.2 c1
      refine z_iconst (v := 1) b dX11_stopsWith_98 (by decide) ?_
      refine z_goto (tgt := 103) b dX11_stopsWith_99 (by decide) ?_
      refine z_lv0 (lv' := []) [] rfl ?_
      exact z_X11_stopsWith_B103 hrw b _ _ h

def w_X11_stopsWith (cy : Nat → ClassId) (tE : Nat) (S : KS) (p0 : Int32) (p1 : Int32) (p2 : Int32) (post : Int32 → KS → Prop) : Prop :=
  ∃ n, lpn (w_X11_stopsWith_F3 cy tE post (w_X11_stopsWith_B64 cy tE post)) (fun _ _ _ _ _ => False) n S p0 p1 p2 0

set_option maxHeartbeats 200000 in
set_option maxRecDepth 100000 in
theorem k_X11_stopsWith {l : Launch} {D : va_G} {cy : Nat → ClassId} {T0 tB tE : Nat} {a : Nat → Nat} {rw : Nat → Option Nat} (hrw : ∀ i, i < 6 → rw i = some (a (12 + 2 * i))) (S : KS) (p0 : Int32) (p1 : Int32) (p2 : Int32) (post : Int32 → KS → Prop) (h : w_X11_stopsWith cy tE S p0 p1 p2 post) : Ct l D cy T0 tB tE yX11_stopsWith cX11_stopsWith 5 (some .boolean) 6 146 0 0 (kw cy a rw S) [.ref (a 0), .int p0, .int p1, .int p2] (QI D (U := KS) post (kw cy a rw)) := by
  refine Ct.ofZ RX11 "stopsWith" [(0, .ref (a 0)), (1, .int p0), (2, .int p1), (3, .int p2)] rfl rfl rfl rfl (Nat.le_of_ble_eq_true rfl) ?_
  intro p e R s m args below meth c A b
  unfold w_X11_stopsWith at h
  refine z_iconst (v := 0) b dX11_stopsWith_0 (by decide) ?_
  refine z_istore (lv' := [(4, .int 0), (0, .ref (a 0)), (1, .int p0), (2, .int p1), (3, .int p2)]) b dX11_stopsWith_1 (by decide) rfl ?_
  refine z_lv0 (lv' := [(0, .ref (a 0)), (1, .int p0), (2, .int p1), (3, .int p2), (4, .int 0)]) [1, 2, 3, 4, 0] rfl ?_
  obtain ⟨n, h⟩ := h
  exact zl_X11_stopsWith_L3 hrw b (fun S x1 x2 x3 h => z_X11_stopsWith_B64 hrw b _ _ _ _ h) n _ _ _ _ _ h

def w_X11_stop_B23 (cy : Nat → ClassId) (tE : Nat) (post : Int32 → KS → Prop) (S : KS)  : Prop :=
  post (-1) S

set_option maxHeartbeats 200000 in
set_option maxRecDepth 100000 in
theorem z_X11_stop_B23 {p : Program} {l : Launch} {e : Env} {R : Room} {s : State} {m : MethodId} {args : Array Value} {below : List Frame} {meth : Method} {c : Code} {D : va_G} {cy : Nat → ClassId} {T0 tB tE : Nat} {A : Nat → Prop} {a : Nat → Nat} {rw : Nat → Option Nat} (hrw : ∀ i, i < 6 → rw i = some (a (12 + 2 * i))) {post : Int32 → KS → Prop} (b : Bz p R s m args meth c D cy T0 tB tE A 7 cX11_stop RX11 (some .int) "stop" 7 170 0 0) (S : KS)  (h : w_X11_stop_B23 cy tE post S ) : Z p l e R s m args below meth c D A 7 (MQ below (QI D (U := KS) post (kw cy a rw) A) args s 0 0 A) 0 0 (kw cy a rw S) [] 23 [] := by
  unfold w_X11_stop_B23 at h
  refine z_iconst (v := (-1)) b dX11_stop_23 (by decide) ?_
  exact z_iret (u := S) b rfl dX11_stop_24 h rfl (by decide) (by decide)

def w_X11_stop_B100 (cy : Nat → ClassId) (tE : Nat) (post : Int32 → KS → Prop) (k60 : KS → Int32 → Int32 → Int32 → Int32 → Int32 → Int32 → Prop) (k106 : KS → Int32 → Int32 → Int32 → Int32 → Int32 → Prop) (S : KS) (x1 : Int32) (x2 : Int32) (x3 : Int32) (x4 : Int32) (x5 : Int32) (x6 : Int32) : Prop :=
  k60 S x1 x2 x3 x4 x5 (x6 + 1)

set_option maxHeartbeats 200000 in
set_option maxRecDepth 100000 in
theorem z_X11_stop_B100 {p : Program} {l : Launch} {e : Env} {R : Room} {s : State} {m : MethodId} {args : Array Value} {below : List Frame} {meth : Method} {c : Code} {D : va_G} {cy : Nat → ClassId} {T0 tB tE : Nat} {A : Nat → Prop} {a : Nat → Nat} {rw : Nat → Option Nat} (hrw : ∀ i, i < 6 → rw i = some (a (12 + 2 * i))) {post : Int32 → KS → Prop} {k60 : KS → Int32 → Int32 → Int32 → Int32 → Int32 → Int32 → Prop} {k106 : KS → Int32 → Int32 → Int32 → Int32 → Int32 → Prop} (b : Bz p R s m args meth c D cy T0 tB tE A 7 cX11_stop RX11 (some .int) "stop" 7 170 0 0) (hk60 : ∀ (S : KS) (x1 : Int32) (x2 : Int32) (x3 : Int32) (x4 : Int32) (x5 : Int32) (x6 : Int32), k60 S x1 x2 x3 x4 x5 x6 → Z p l e R s m args below meth c D A 7 (MQ below (QI D (U := KS) post (kw cy a rw) A) args s 0 0 A) 0 0 (kw cy a rw S) [(0, .ref (a 0)), (1, .int x1), (2, .int x2), (3, .int x3), (4, .int x4), (5, .int x5), (6, .int x6)] 60 []) (hk106 : ∀ (S : KS) (x1 : Int32) (x2 : Int32) (x3 : Int32) (x4 : Int32) (x5 : Int32), k106 S x1 x2 x3 x4 x5 → Z p l e R s m args below meth c D A 7 (MQ below (QI D (U := KS) post (kw cy a rw) A) args s 0 0 A) 0 0 (kw cy a rw S) [(0, .ref (a 0)), (1, .int x1), (2, .int x2), (3, .int x3), (4, .int x4), (5, .int x5)] 106 []) (S : KS) (x1 : Int32) (x2 : Int32) (x3 : Int32) (x4 : Int32) (x5 : Int32) (x6 : Int32) (h : w_X11_stop_B100 cy tE post k60 k106 S x1 x2 x3 x4 x5 x6) : Z p l e R s m args below meth c D A 7 (MQ below (QI D (U := KS) post (kw cy a rw) A) args s 0 0 A) 0 0 (kw cy a rw S) [(0, .ref (a 0)), (1, .int x1), (2, .int x2), (3, .int x3), (4, .int x4), (5, .int x5), (6, .int x6)] 100 [] := by
  unfold w_X11_stop_B100 at h
  refine z_iinc (k9 := 6) (v := (x6 + 1)) (lv' := [(6, .int (x6 + 1)), (0, .ref (a 0)), (1, .int x1), (2, .int x2), (3, .int x3), (4, .int x4), (5, .int x5)]) b dX11_stop_100 rfl rfl (by decide) rfl ?_
  refine z_goto (tgt := 60) b dX11_stop_103 (by decide) ?_
  refine z_lv0 (lv' := [(0, .ref (a 0)), (1, .int x1), (2, .int x2), (3, .int x3), (4, .int x4), (5, .int x5), (6, .int (x6 + 1))]) [1, 2, 3, 4, 5, 6, 0] rfl ?_
  exact hk60 _ _ _ _ _ _ _ h

def w_X11_stop_B99 (cy : Nat → ClassId) (tE : Nat) (post : Int32 → KS → Prop) (k60 : KS → Int32 → Int32 → Int32 → Int32 → Int32 → Int32 → Prop) (k106 : KS → Int32 → Int32 → Int32 → Int32 → Int32 → Prop) (S : KS) (y0 : Int32) : Prop :=
  post y0 S

set_option maxHeartbeats 200000 in
set_option maxRecDepth 100000 in
theorem z_X11_stop_B99 {p : Program} {l : Launch} {e : Env} {R : Room} {s : State} {m : MethodId} {args : Array Value} {below : List Frame} {meth : Method} {c : Code} {D : va_G} {cy : Nat → ClassId} {T0 tB tE : Nat} {A : Nat → Prop} {a : Nat → Nat} {rw : Nat → Option Nat} (hrw : ∀ i, i < 6 → rw i = some (a (12 + 2 * i))) {post : Int32 → KS → Prop} {k60 : KS → Int32 → Int32 → Int32 → Int32 → Int32 → Int32 → Prop} {k106 : KS → Int32 → Int32 → Int32 → Int32 → Int32 → Prop} (b : Bz p R s m args meth c D cy T0 tB tE A 7 cX11_stop RX11 (some .int) "stop" 7 170 0 0) (hk60 : ∀ (S : KS) (x1 : Int32) (x2 : Int32) (x3 : Int32) (x4 : Int32) (x5 : Int32) (x6 : Int32), k60 S x1 x2 x3 x4 x5 x6 → Z p l e R s m args below meth c D A 7 (MQ below (QI D (U := KS) post (kw cy a rw) A) args s 0 0 A) 0 0 (kw cy a rw S) [(0, .ref (a 0)), (1, .int x1), (2, .int x2), (3, .int x3), (4, .int x4), (5, .int x5), (6, .int x6)] 60 []) (hk106 : ∀ (S : KS) (x1 : Int32) (x2 : Int32) (x3 : Int32) (x4 : Int32) (x5 : Int32), k106 S x1 x2 x3 x4 x5 → Z p l e R s m args below meth c D A 7 (MQ below (QI D (U := KS) post (kw cy a rw) A) args s 0 0 A) 0 0 (kw cy a rw S) [(0, .ref (a 0)), (1, .int x1), (2, .int x2), (3, .int x3), (4, .int x4), (5, .int x5)] 106 []) (S : KS) (y0 : Int32) (h : w_X11_stop_B99 cy tE post k60 k106 S y0) : Z p l e R s m args below meth c D A 7 (MQ below (QI D (U := KS) post (kw cy a rw) A) args s 0 0 A) 0 0 (kw cy a rw S) [] 99 [.int y0] := by
  unfold w_X11_stop_B99 at h
  exact z_iret (u := S) b rfl dX11_stop_99 h rfl (by decide) (by decide)

def w_X11_stop_F60 (cy : Nat → ClassId) (tE : Nat) (post : Int32 → KS → Prop) (k106 : KS → Int32 → Int32 → Int32 → Int32 → Int32 → Prop) (k60 : KS → Int32 → Int32 → Int32 → Int32 → Int32 → Int32 → Prop) (S : KS) (x1 : Int32) (x2 : Int32) (x3 : Int32) (x4 : Int32) (x5 : Int32) (x6 : Int32) : Prop :=
  ((x4.toInt ≤ x6.toInt → k106 S x1 x2 x3 x4 x5) ∧ (x6.toInt < x4.toInt → w_J6_bitCount_0f7a4 cy tE S x6 (fun r17 S18 => ((r17.toInt ≠ x5.toInt → w_X11_stop_B100 cy tE post k60 k106 S18 x1 x2 x3 x4 x5 x6) ∧ (r17.toInt = x5.toInt → w_X11_stopsWith cy tE S18 x1 x2 x6 (fun r19 S20 => ((r19.toInt = 0 → w_X11_stop_B100 cy tE post k60 k106 S20 x1 x2 x3 x4 x5 x6) ∧ (r19.toInt ≠ 0 → ((x3.toInt ≠ 0 → w_X11_stop_B99 cy tE post k60 k106 S20 x5) ∧ (x3.toInt = 0 → w_X11_stop_B99 cy tE post k60 k106 S20 x6))))))))))

set_option maxHeartbeats 200000 in
set_option maxRecDepth 100000 in
theorem z_X11_stop_F60 {p : Program} {l : Launch} {e : Env} {R : Room} {s : State} {m : MethodId} {args : Array Value} {below : List Frame} {meth : Method} {c : Code} {D : va_G} {cy : Nat → ClassId} {T0 tB tE : Nat} {A : Nat → Prop} {a : Nat → Nat} {rw : Nat → Option Nat} (hrw : ∀ i, i < 6 → rw i = some (a (12 + 2 * i))) {post : Int32 → KS → Prop} {k106 : KS → Int32 → Int32 → Int32 → Int32 → Int32 → Prop} {k60 : KS → Int32 → Int32 → Int32 → Int32 → Int32 → Int32 → Prop} (b : Bz p R s m args meth c D cy T0 tB tE A 7 cX11_stop RX11 (some .int) "stop" 7 170 0 0) (hk106 : ∀ (S : KS) (x1 : Int32) (x2 : Int32) (x3 : Int32) (x4 : Int32) (x5 : Int32), k106 S x1 x2 x3 x4 x5 → Z p l e R s m args below meth c D A 7 (MQ below (QI D (U := KS) post (kw cy a rw) A) args s 0 0 A) 0 0 (kw cy a rw S) [(0, .ref (a 0)), (1, .int x1), (2, .int x2), (3, .int x3), (4, .int x4), (5, .int x5)] 106 []) (hk60 : ∀ (S : KS) (x1 : Int32) (x2 : Int32) (x3 : Int32) (x4 : Int32) (x5 : Int32) (x6 : Int32), k60 S x1 x2 x3 x4 x5 x6 → Z p l e R s m args below meth c D A 7 (MQ below (QI D (U := KS) post (kw cy a rw) A) args s 0 0 A) 0 0 (kw cy a rw S) [(0, .ref (a 0)), (1, .int x1), (2, .int x2), (3, .int x3), (4, .int x4), (5, .int x5), (6, .int x6)] 60 []) (S : KS) (x1 : Int32) (x2 : Int32) (x3 : Int32) (x4 : Int32) (x5 : Int32) (x6 : Int32) (h : w_X11_stop_F60 cy tE post k106 k60 S x1 x2 x3 x4 x5 x6) : Z p l e R s m args below meth c D A 7 (MQ below (QI D (U := KS) post (kw cy a rw) A) args s 0 0 A) 0 0 (kw cy a rw S) [(0, .ref (a 0)), (1, .int x1), (2, .int x2), (3, .int x3), (4, .int x4), (5, .int x5), (6, .int x6)] 60 [] := by
  unfold w_X11_stop_F60 at h
  refine z_iload b dX11_stop_60 rfl ?_
  refine z_iload b dX11_stop_62 rfl ?_
  refine y_icmp_ge (tgt := 106) (xl := x6.toInt) (yl := x4.toInt) b rfl rfl dX11_stop_64 (by decide) (fun c1 => ?_) (fun c1 => ?_)
  · replace h := h.1 c1
    refine z_lv0 (lv' := [(0, .ref (a 0)), (1, .int x1), (2, .int x2), (3, .int x3), (4, .int x4), (5, .int x5)]) [0, 1, 2, 3, 4, 5] rfl ?_
    exact hk106 _ _ _ _ _ _ h
  · replace h := h.2 c1
    refine z_iload b dX11_stop_67 rfl ?_
    refine z_calli b (z_runS (As := [.int x6]) (st := []) b (k_J6_bitCount_0f7a4 hrw S x6 _ h) cf_J6_bitCount_0f7a4 wm_X11_223 ws_J6_bitCount_0f7a4 dX11_stop_69 rfl (Nat.le_of_ble_eq_true rfl) ⟨by decide, by decide, Nat.le_of_ble_eq_true rfl, Nat.le_of_ble_eq_true rfl⟩) (fun r17 S18 h => ?_)
    refine z_iload b dX11_stop_72 rfl ?_
    refine y_icmp_ne (tgt := 100) (xl := r17.toInt) (yl := x5.toInt) b rfl rfl dX11_stop_74 (by decide) (fun c1 => ?_) (fun c1 => ?_)
    · replace h := h.1 c1
      exact z_X11_stop_B100 hrw b hk60 hk106 _ _ _ _ _ _ _ h
    · replace h := h.2 c1
      refine z_aload_n b dX11_stop_77 rfl rfl ?_
      refine z_iload_n b dX11_stop_78 rfl rfl ?_
      refine z_iload_n b dX11_stop_79 rfl rfl ?_
      refine z_iload b dX11_stop_80 rfl ?_
      refine z_calli b (z_runV (q0 := 0) (As := [.int x1, .int x2, .int x6]) (st := []) b (k_X11_stopsWith hrw S18 x1 x2 x6 _ h) cf_X11_stopsWith (kw_0 cy a rw S18) rfl wm_X11_244 wi_X11_stopsWith ws_X11_stopsWith dX11_stop_82 rfl (Nat.le_of_ble_eq_true rfl) ⟨by decide, by decide, Nat.le_of_ble_eq_true rfl, Nat.le_of_ble_eq_true rfl⟩) (fun r19 S20 h => ?_)
      refine y_if_eq (tgt := 100) (xl := r19.toInt) b rfl dX11_stop_85 (by decide) (fun c1 => ?_) (fun c1 => ?_)
      · replace h := h.1 c1
        exact z_X11_stop_B100 hrw b hk60 hk106 _ _ _ _ _ _ _ h
      · replace h := h.2 c1
        refine z_iload_n b dX11_stop_88 rfl rfl ?_
        refine y_if_ne (tgt := 97) (xl := x3.toInt) b rfl dX11_stop_89 (by decide) (fun c1 => ?_) (fun c1 => ?_)
        · replace h := h.1 c1
          refine z_iload b dX11_stop_97 rfl ?_
          refine z_lv0 (lv' := []) [] rfl ?_
          exact z_X11_stop_B99 hrw b hk60 hk106 _ _ h
        · replace h := h.2 c1
          refine z_iload b dX11_stop_92 rfl ?_
          refine z_goto (tgt := 99) b dX11_stop_94 (by decide) ?_
          refine z_lv0 (lv' := []) [] rfl ?_
          exact z_X11_stop_B99 hrw b hk60 hk106 _ _ h

set_option maxHeartbeats 200000 in
set_option maxRecDepth 100000 in
theorem zl_X11_stop_L60 {p : Program} {l : Launch} {e : Env} {R : Room} {s : State} {m : MethodId} {args : Array Value} {below : List Frame} {meth : Method} {c : Code} {D : va_G} {cy : Nat → ClassId} {T0 tB tE : Nat} {A : Nat → Prop} {a : Nat → Nat} {rw : Nat → Option Nat} (hrw : ∀ i, i < 6 → rw i = some (a (12 + 2 * i))) {post : Int32 → KS → Prop} {k106 : KS → Int32 → Int32 → Int32 → Int32 → Int32 → Prop} (b : Bz p R s m args meth c D cy T0 tB tE A 7 cX11_stop RX11 (some .int) "stop" 7 170 0 0) (hk106 : ∀ (S : KS) (x1 : Int32) (x2 : Int32) (x3 : Int32) (x4 : Int32) (x5 : Int32), k106 S x1 x2 x3 x4 x5 → Z p l e R s m args below meth c D A 7 (MQ below (QI D (U := KS) post (kw cy a rw) A) args s 0 0 A) 0 0 (kw cy a rw S) [(0, .ref (a 0)), (1, .int x1), (2, .int x2), (3, .int x3), (4, .int x4), (5, .int x5)] 106 []) : ∀ (n : Nat) (S : KS) (x1 : Int32) (x2 : Int32) (x3 : Int32) (x4 : Int32) (x5 : Int32) (x6 : Int32), lpn (w_X11_stop_F60 cy tE post k106) (fun _ _ _ _ _ _ _ => False) n S x1 x2 x3 x4 x5 x6 → Z p l e R s m args below meth c D A 7 (MQ below (QI D (U := KS) post (kw cy a rw) A) args s 0 0 A) 0 0 (kw cy a rw S) [(0, .ref (a 0)), (1, .int x1), (2, .int x2), (3, .int x3), (4, .int x4), (5, .int x5), (6, .int x6)] 60 [] := by
  intro n
  induction n with
  | zero => intro _ _ _ _ _ _ _ h; exact h.elim
  | succ n ih => intro S x1 x2 x3 x4 x5 x6 h; exact z_X11_stop_F60 hrw b hk106 ih S x1 x2 x3 x4 x5 x6 h

def w_X11_stop_B106 (cy : Nat → ClassId) (tE : Nat) (post : Int32 → KS → Prop) (k42 : KS → Int32 → Int32 → Int32 → Int32 → Int32 → Prop) (k112 : KS → Prop) (S : KS) (x1 : Int32) (x2 : Int32) (x3 : Int32) (x4 : Int32) (x5 : Int32) : Prop :=
  k42 S x1 x2 x3 x4 (x5 + 1)

set_option maxHeartbeats 200000 in
set_option maxRecDepth 100000 in
theorem z_X11_stop_B106 {p : Program} {l : Launch} {e : Env} {R : Room} {s : State} {m : MethodId} {args : Array Value} {below : List Frame} {meth : Method} {c : Code} {D : va_G} {cy : Nat → ClassId} {T0 tB tE : Nat} {A : Nat → Prop} {a : Nat → Nat} {rw : Nat → Option Nat} (hrw : ∀ i, i < 6 → rw i = some (a (12 + 2 * i))) {post : Int32 → KS → Prop} {k42 : KS → Int32 → Int32 → Int32 → Int32 → Int32 → Prop} {k112 : KS → Prop} (b : Bz p R s m args meth c D cy T0 tB tE A 7 cX11_stop RX11 (some .int) "stop" 7 170 0 0) (hk42 : ∀ (S : KS) (x1 : Int32) (x2 : Int32) (x3 : Int32) (x4 : Int32) (x5 : Int32), k42 S x1 x2 x3 x4 x5 → Z p l e R s m args below meth c D A 7 (MQ below (QI D (U := KS) post (kw cy a rw) A) args s 0 0 A) 0 0 (kw cy a rw S) [(0, .ref (a 0)), (1, .int x1), (2, .int x2), (3, .int x3), (4, .int x4), (5, .int x5)] 42 []) (hk112 : ∀ (S : KS), k112 S → Z p l e R s m args below meth c D A 7 (MQ below (QI D (U := KS) post (kw cy a rw) A) args s 0 0 A) 0 0 (kw cy a rw S) [] 112 []) (S : KS) (x1 : Int32) (x2 : Int32) (x3 : Int32) (x4 : Int32) (x5 : Int32) (h : w_X11_stop_B106 cy tE post k42 k112 S x1 x2 x3 x4 x5) : Z p l e R s m args below meth c D A 7 (MQ below (QI D (U := KS) post (kw cy a rw) A) args s 0 0 A) 0 0 (kw cy a rw S) [(0, .ref (a 0)), (1, .int x1), (2, .int x2), (3, .int x3), (4, .int x4), (5, .int x5)] 106 [] := by
  unfold w_X11_stop_B106 at h
  refine z_iinc (k9 := 5) (v := (x5 + 1)) (lv' := [(5, .int (x5 + 1)), (0, .ref (a 0)), (1, .int x1), (2, .int x2), (3, .int x3), (4, .int x4)]) b dX11_stop_106 rfl rfl (by decide) rfl ?_
  refine z_goto (tgt := 42) b dX11_stop_109 (by decide) ?_
  refine z_lv0 (lv' := [(0, .ref (a 0)), (1, .int x1), (2, .int x2), (3, .int x3), (4, .int x4), (5, .int (x5 + 1))]) [1, 2, 3, 4, 5, 0] rfl ?_
  exact hk42 _ _ _ _ _ _ h

def w_X11_stop_F42 (cy : Nat → ClassId) (tE : Nat) (post : Int32 → KS → Prop) (k112 : KS → Prop) (k42 : KS → Int32 → Int32 → Int32 → Int32 → Int32 → Prop) (S : KS) (x1 : Int32) (x2 : Int32) (x3 : Int32) (x4 : Int32) (x5 : Int32) : Prop :=
  ∃ (i12 : Nat) (f13 : List Value), S.2.2.2[i12]? = some ((S.2.1 2), .inr (0, f13)) ∧ w_Jx4a65c_size_8abf5 cy tE S (S.2.1 2) (fun r15 S16 => ((r15.toInt < x5.toInt → k112 S16) ∧ (x5.toInt ≤ r15.toInt → ∃ n, lpn (w_X11_stop_F60 cy tE post (w_X11_stop_B106 cy tE post k42 k112)) (fun _ _ _ _ _ _ _ => False) n S16 x1 x2 x3 x4 x5 0)))

set_option maxHeartbeats 200000 in
set_option maxRecDepth 100000 in
theorem z_X11_stop_F42 {p : Program} {l : Launch} {e : Env} {R : Room} {s : State} {m : MethodId} {args : Array Value} {below : List Frame} {meth : Method} {c : Code} {D : va_G} {cy : Nat → ClassId} {T0 tB tE : Nat} {A : Nat → Prop} {a : Nat → Nat} {rw : Nat → Option Nat} (hrw : ∀ i, i < 6 → rw i = some (a (12 + 2 * i))) {post : Int32 → KS → Prop} {k112 : KS → Prop} {k42 : KS → Int32 → Int32 → Int32 → Int32 → Int32 → Prop} (b : Bz p R s m args meth c D cy T0 tB tE A 7 cX11_stop RX11 (some .int) "stop" 7 170 0 0) (hk112 : ∀ (S : KS), k112 S → Z p l e R s m args below meth c D A 7 (MQ below (QI D (U := KS) post (kw cy a rw) A) args s 0 0 A) 0 0 (kw cy a rw S) [] 112 []) (hk42 : ∀ (S : KS) (x1 : Int32) (x2 : Int32) (x3 : Int32) (x4 : Int32) (x5 : Int32), k42 S x1 x2 x3 x4 x5 → Z p l e R s m args below meth c D A 7 (MQ below (QI D (U := KS) post (kw cy a rw) A) args s 0 0 A) 0 0 (kw cy a rw S) [(0, .ref (a 0)), (1, .int x1), (2, .int x2), (3, .int x3), (4, .int x4), (5, .int x5)] 42 []) (S : KS) (x1 : Int32) (x2 : Int32) (x3 : Int32) (x4 : Int32) (x5 : Int32) (h : w_X11_stop_F42 cy tE post k112 k42 S x1 x2 x3 x4 x5) : Z p l e R s m args below meth c D A 7 (MQ below (QI D (U := KS) post (kw cy a rw) A) args s 0 0 A) 0 0 (kw cy a rw S) [(0, .ref (a 0)), (1, .int x1), (2, .int x2), (3, .int x3), (4, .int x4), (5, .int x5)] 42 [] := by
  unfold w_X11_stop_F42 at h
  refine z_iload b dX11_stop_42 rfl ?_
  refine z_aload_n b dX11_stop_44 rfl rfl ?_
  refine z_get (q0 := 0) (k9 := 3) (v := .ref (a 33)) b (kw_0 cy a rw S) rfl in_X11 (by decide) wf_X11_27 rfl dX11_stop_45 ?_
  refine z_get (q0 := 33) (k9 := 2) (v := .ref (S.2.1 2)) b (kw_33 cy a rw S) rfl in_X4 (by decide) wf_X11_136 rfl dX11_stop_48 ?_
  obtain ⟨i12, f13, g14, h⟩ := h
  refine z_calli b (z_runV (q0 := 47 + i12) (As := []) (st := [.int x5]) b (k_Jx4a65c_size_8abf5 hrw S (S.2.1 2) _ h) cf_Jx4a65c_size_8abf5 (kw_dyn cy a rw S g14) rfl wm_X11_117 wi_Jx4a65c_size_8abf5 ws_Jx4a65c_size_8abf5 dX11_stop_51 rfl (Nat.le_of_ble_eq_true rfl) ⟨by decide, by decide, Nat.le_of_ble_eq_true rfl, Nat.le_of_ble_eq_true rfl⟩) (fun r15 S16 h => ?_)
  refine y_icmp_gt (tgt := 112) (xl := x5.toInt) (yl := r15.toInt) b rfl rfl dX11_stop_54 (by decide) (fun c1 => ?_) (fun c1 => ?_)
  · replace h := h.1 c1
    refine z_lv0 (lv' := []) [] rfl ?_
    exact hk112 _ h
  · replace h := h.2 c1
    refine z_iconst (v := 0) b dX11_stop_57 (by decide) ?_
    refine z_istore (lv' := [(6, .int 0), (0, .ref (a 0)), (1, .int x1), (2, .int x2), (3, .int x3), (4, .int x4), (5, .int x5)]) b dX11_stop_58 (by decide) rfl ?_
    refine z_lv0 (lv' := [(0, .ref (a 0)), (1, .int x1), (2, .int x2), (3, .int x3), (4, .int x4), (5, .int x5), (6, .int 0)]) [1, 2, 3, 4, 5, 6, 0] rfl ?_
    obtain ⟨n, h⟩ := h
    exact zl_X11_stop_L60 hrw b (fun S x1 x2 x3 x4 x5 h => z_X11_stop_B106 hrw b hk42 hk112 _ _ _ _ _ _ h) n _ _ _ _ _ _ _ h

set_option maxHeartbeats 200000 in
set_option maxRecDepth 100000 in
theorem zl_X11_stop_L42 {p : Program} {l : Launch} {e : Env} {R : Room} {s : State} {m : MethodId} {args : Array Value} {below : List Frame} {meth : Method} {c : Code} {D : va_G} {cy : Nat → ClassId} {T0 tB tE : Nat} {A : Nat → Prop} {a : Nat → Nat} {rw : Nat → Option Nat} (hrw : ∀ i, i < 6 → rw i = some (a (12 + 2 * i))) {post : Int32 → KS → Prop} {k112 : KS → Prop} (b : Bz p R s m args meth c D cy T0 tB tE A 7 cX11_stop RX11 (some .int) "stop" 7 170 0 0) (hk112 : ∀ (S : KS), k112 S → Z p l e R s m args below meth c D A 7 (MQ below (QI D (U := KS) post (kw cy a rw) A) args s 0 0 A) 0 0 (kw cy a rw S) [] 112 []) : ∀ (n : Nat) (S : KS) (x1 : Int32) (x2 : Int32) (x3 : Int32) (x4 : Int32) (x5 : Int32), lpn (w_X11_stop_F42 cy tE post k112) (fun _ _ _ _ _ _ => False) n S x1 x2 x3 x4 x5 → Z p l e R s m args below meth c D A 7 (MQ below (QI D (U := KS) post (kw cy a rw) A) args s 0 0 A) 0 0 (kw cy a rw S) [(0, .ref (a 0)), (1, .int x1), (2, .int x2), (3, .int x3), (4, .int x4), (5, .int x5)] 42 [] := by
  intro n
  induction n with
  | zero => intro _ _ _ _ _ _ h; exact h.elim
  | succ n ih => intro S x1 x2 x3 x4 x5 h; exact z_X11_stop_F42 hrw b hk112 ih S x1 x2 x3 x4 x5 h

def w_X11_stop_B112 (cy : Nat → ClassId) (tE : Nat) (post : Int32 → KS → Prop) (S : KS)  : Prop :=
  post (-1) S

set_option maxHeartbeats 200000 in
set_option maxRecDepth 100000 in
theorem z_X11_stop_B112 {p : Program} {l : Launch} {e : Env} {R : Room} {s : State} {m : MethodId} {args : Array Value} {below : List Frame} {meth : Method} {c : Code} {D : va_G} {cy : Nat → ClassId} {T0 tB tE : Nat} {A : Nat → Prop} {a : Nat → Nat} {rw : Nat → Option Nat} (hrw : ∀ i, i < 6 → rw i = some (a (12 + 2 * i))) {post : Int32 → KS → Prop} (b : Bz p R s m args meth c D cy T0 tB tE A 7 cX11_stop RX11 (some .int) "stop" 7 170 0 0) (S : KS)  (h : w_X11_stop_B112 cy tE post S ) : Z p l e R s m args below meth c D A 7 (MQ below (QI D (U := KS) post (kw cy a rw) A) args s 0 0 A) 0 0 (kw cy a rw S) [] 112 [] := by
  unfold w_X11_stop_B112 at h
  refine z_iconst (v := (-1)) b dX11_stop_112 (by decide) ?_
  exact z_iret (u := S) b rfl dX11_stop_113 h rfl (by decide) (by decide)

def w_X11_stop (cy : Nat → ClassId) (tE : Nat) (S : KS) (p0 : Int32) (p1 : Int32) (p2 : Int32) (post : Int32 → KS → Prop) : Prop :=
  w_X11_isNever cy tE S p0 (fun r1 S2 => ((r1.toInt = 0 → w_X11_stop_B23 cy tE post S2) ∧ (r1.toInt ≠ 0 → w_X11_isDepth cy tE S2 p1 (fun r3 S4 => ((r3.toInt = 0 → w_X11_stop_B23 cy tE post S4) ∧ (r3.toInt ≠ 0 → w_X11_isWithin cy tE S4 p2 1 (fun r5 S6 => ((r5.toInt ≠ 0 → ∃ (i7 : Nat) (f8 : List Value), S6.2.2.2[i7]? = some ((S6.2.1 2), .inr (0, f8)) ∧ w_Jx4a65c_size_8abf5 cy tE S6 (S6.2.1 2) (fun r10 S11 => ∃ n, lpn (w_X11_stop_F42 cy tE post (w_X11_stop_B112 cy tE post)) (fun _ _ _ _ _ _ => False) n S11 p0 p1 p2 ((1 : Int32) <<< (r10 &&& 31)) 0)) ∧ (r5.toInt = 0 → w_X11_stop_B23 cy tE post S6)))))))))

set_option maxHeartbeats 200000 in
set_option maxRecDepth 100000 in
theorem k_X11_stop {l : Launch} {D : va_G} {cy : Nat → ClassId} {T0 tB tE : Nat} {a : Nat → Nat} {rw : Nat → Option Nat} (hrw : ∀ i, i < 6 → rw i = some (a (12 + 2 * i))) (S : KS) (p0 : Int32) (p1 : Int32) (p2 : Int32) (post : Int32 → KS → Prop) (h : w_X11_stop cy tE S p0 p1 p2 post) : Ct l D cy T0 tB tE yX11_stop cX11_stop 7 (some .int) 7 170 0 0 (kw cy a rw S) [.ref (a 0), .int p0, .int p1, .int p2] (QI D (U := KS) post (kw cy a rw)) := by
  refine Ct.ofZ RX11 "stop" [(0, .ref (a 0)), (1, .int p0), (2, .int p1), (3, .int p2)] rfl rfl rfl rfl (Nat.le_of_ble_eq_true rfl) ?_
  intro p e R s m args below meth c A b
  unfold w_X11_stop at h
  refine z_aload_n b dX11_stop_0 rfl rfl ?_
  refine z_iload_n b dX11_stop_1 rfl rfl ?_
  refine z_calli b (z_runV (q0 := 0) (As := [.int p0]) (st := []) b (k_X11_isNever hrw S p0 _ h) cf_X11_isNever (kw_0 cy a rw S) rfl wm_X11_200 wi_X11_isNever ws_X11_isNever dX11_stop_2 rfl (Nat.le_of_ble_eq_true rfl) ⟨by decide, by decide, Nat.le_of_ble_eq_true rfl, Nat.le_of_ble_eq_true rfl⟩) (fun r1 S2 h => ?_)
  refine y_if_eq (tgt := 23) (xl := r1.toInt) b rfl dX11_stop_5 (by decide) (fun c1 => ?_) (fun c1 => ?_)
  · replace h := h.1 c1
    refine z_lv0 (lv' := []) [] rfl ?_
    exact z_X11_stop_B23 hrw b _ h
  · replace h := h.2 c1
    refine z_iload_n b dX11_stop_8 rfl rfl ?_
    refine z_calli b (z_runS (As := [.int p1]) (st := []) b (k_X11_isDepth hrw S2 p1 _ h) cf_X11_isDepth wm_X11_203 ws_X11_isDepth dX11_stop_9 rfl (Nat.le_of_ble_eq_true rfl) ⟨by decide, by decide, Nat.le_of_ble_eq_true rfl, Nat.le_of_ble_eq_true rfl⟩) (fun r3 S4 h => ?_)
    refine y_if_eq (tgt := 23) (xl := r3.toInt) b rfl dX11_stop_12 (by decide) (fun c1 => ?_) (fun c1 => ?_)
    · replace h := h.1 c1
      refine z_lv0 (lv' := []) [] rfl ?_
      exact z_X11_stop_B23 hrw b _ h
    · replace h := h.2 c1
      refine z_iload_n b dX11_stop_15 rfl rfl ?_
      refine z_iconst (v := 1) b dX11_stop_16 (by decide) ?_
      refine z_calli b (z_runS (As := [.int p2, .int 1]) (st := []) b (k_X11_isWithin hrw S4 p2 1 _ h) cf_X11_isWithin wm_X11_73 ws_X11_isWithin dX11_stop_17 rfl (Nat.le_of_ble_eq_true rfl) ⟨by decide, by decide, Nat.le_of_ble_eq_true rfl, Nat.le_of_ble_eq_true rfl⟩) (fun r5 S6 h => ?_)
      refine y_if_ne (tgt := 25) (xl := r5.toInt) b rfl dX11_stop_20 (by decide) (fun c1 => ?_) (fun c1 => ?_)
      · replace h := h.1 c1
        refine z_iconst (v := 1) b dX11_stop_25 (by decide) ?_
        refine z_aload_n b dX11_stop_26 rfl rfl ?_
        refine z_get (q0 := 0) (k9 := 3) (v := .ref (a 33)) b (kw_0 cy a rw S6) rfl in_X11 (by decide) wf_X11_27 rfl dX11_stop_27 ?_
        refine z_get (q0 := 33) (k9 := 2) (v := .ref (S6.2.1 2)) b (kw_33 cy a rw S6) rfl in_X4 (by decide) wf_X11_136 rfl dX11_stop_30 ?_
        obtain ⟨i7, f8, g9, h⟩ := h
        refine z_calli b (z_runV (q0 := 47 + i7) (As := []) (st := [.int 1]) b (k_Jx4a65c_size_8abf5 hrw S6 (S6.2.1 2) _ h) cf_Jx4a65c_size_8abf5 (kw_dyn cy a rw S6 g9) rfl wm_X11_117 wi_Jx4a65c_size_8abf5 ws_Jx4a65c_size_8abf5 dX11_stop_33 rfl (Nat.le_of_ble_eq_true rfl) ⟨by decide, by decide, Nat.le_of_ble_eq_true rfl, Nat.le_of_ble_eq_true rfl⟩) (fun r10 S11 h => ?_)
        refine z_ishl b dX11_stop_36 rfl ?_
        refine z_istore (lv' := [(4, .int ((1 : Int32) <<< (r10 &&& 31))), (0, .ref (a 0)), (1, .int p0), (2, .int p1), (3, .int p2)]) b dX11_stop_37 (by decide) rfl ?_
        refine z_iconst (v := 0) b dX11_stop_39 (by decide) ?_
        refine z_istore (lv' := [(5, .int 0), (4, .int ((1 : Int32) <<< (r10 &&& 31))), (0, .ref (a 0)), (1, .int p0), (2, .int p1), (3, .int p2)]) b dX11_stop_40 (by decide) rfl ?_
        refine z_lv0 (lv' := [(0, .ref (a 0)), (1, .int p0), (2, .int p1), (3, .int p2), (4, .int ((1 : Int32) <<< (r10 &&& 31))), (5, .int 0)]) [2, 3, 4, 5, 1, 0] rfl ?_
        obtain ⟨n, h⟩ := h
        exact zl_X11_stop_L42 hrw b (fun S h => z_X11_stop_B112 hrw b _ h) n _ _ _ _ _ _ h
      · replace h := h.2 c1
        refine z_lv0 (lv' := []) [] rfl ?_
        exact z_X11_stop_B23 hrw b _ h

def w_X11_kin_B16 (cy : Nat → ClassId) (tE : Nat) (post : Int32 → KS → Prop) (S : KS)  : Prop :=
  post 0 S

set_option maxHeartbeats 200000 in
set_option maxRecDepth 100000 in
theorem z_X11_kin_B16 {p : Program} {l : Launch} {e : Env} {R : Room} {s : State} {m : MethodId} {args : Array Value} {below : List Frame} {meth : Method} {c : Code} {D : va_G} {cy : Nat → ClassId} {T0 tB tE : Nat} {A : Nat → Prop} {a : Nat → Nat} {rw : Nat → Option Nat} (hrw : ∀ i, i < 6 → rw i = some (a (12 + 2 * i))) {post : Int32 → KS → Prop} (b : Bz p R s m args meth c D cy T0 tB tE A 6 cX11_kin RX11 (some .boolean) "kin" 2 41 0 0) (S : KS)  (h : w_X11_kin_B16 cy tE post S ) : Z p l e R s m args below meth c D A 6 (MQ below (QI D (U := KS) post (kw cy a rw) A) args s 0 0 A) 0 0 (kw cy a rw S) [] 16 [] := by
  unfold w_X11_kin_B16 at h
  refine z_iconst (v := 0) b dX11_kin_16 (by decide) ?_
  exact z_zret (u := S) b rfl (by decide) dX11_kin_17 h rfl (by decide) (by decide)

def w_X11_kin_B88 (cy : Nat → ClassId) (tE : Nat) (post : Int32 → KS → Prop) (S : KS)  : Prop :=
  w_X8_forget cy tE S (fun S8 => post 1 S8)

set_option maxHeartbeats 200000 in
set_option maxRecDepth 100000 in
theorem z_X11_kin_B88 {p : Program} {l : Launch} {e : Env} {R : Room} {s : State} {m : MethodId} {args : Array Value} {below : List Frame} {meth : Method} {c : Code} {D : va_G} {cy : Nat → ClassId} {T0 tB tE : Nat} {A : Nat → Prop} {a : Nat → Nat} {rw : Nat → Option Nat} (hrw : ∀ i, i < 6 → rw i = some (a (12 + 2 * i))) {post : Int32 → KS → Prop} (b : Bz p R s m args meth c D cy T0 tB tE A 6 cX11_kin RX11 (some .boolean) "kin" 2 41 0 0) (S : KS)  (h : w_X11_kin_B88 cy tE post S ) : Z p l e R s m args below meth c D A 6 (MQ below (QI D (U := KS) post (kw cy a rw) A) args s 0 0 A) 0 0 (kw cy a rw S) [(0, .ref (a 0))] 88 [] := by
  unfold w_X11_kin_B88 at h
  refine z_aload_n b dX11_kin_88 rfl rfl ?_
  refine z_get (q0 := 0) (k9 := 6) (v := .ref (a 38)) b (kw_0 cy a rw S) rfl in_X11 (by decide) wf_X11_52 rfl dX11_kin_89 ?_
  refine z_callv b (z_runV (q0 := 38) (As := []) (st := []) b (k_X8_forget hrw S _ h) cf_X8_forget (kw_38 cy a rw S) rfl wm_X11_81 wi_X8_forget ws_X8_forget dX11_kin_92 rfl (Nat.le_of_ble_eq_true rfl) ⟨by decide, by decide, Nat.le_of_ble_eq_true rfl, Nat.le_of_ble_eq_true rfl⟩) (fun S8 h => ?_)
  refine z_iconst (v := 1) b dX11_kin_95 (by decide) ?_
  exact z_zret (u := S8) b rfl (by decide) dX11_kin_96 h rfl (by decide) (by decide)

def w_X11_kin_B28 (cy : Nat → ClassId) (tE : Nat) (post : Int32 → KS → Prop) (S : KS) (x1 : Int32) (x2 : Int32) (x3 : Int32) (y0 : Int32) : Prop :=
  ((x3.toInt ≠ 0 → w_X9_set cy tE S 0 (((30 : Int32) + ((3 : Int32) * x1)) + x2) y0 (fun S6 => w_X11_kin_B88 cy tE post S6)) ∧ (x3.toInt = 0 → w_X9_set cy tE S 0 (((20 : Int32) + ((3 : Int32) * x1)) + x2) y0 (fun S10 => w_X9_set cy tE S10 0 (((20 : Int32) + ((3 : Int32) * x2)) + x1) y0 (fun S12 => w_X11_kin_B88 cy tE post S12))))

set_option maxHeartbeats 200000 in
set_option maxRecDepth 100000 in
theorem z_X11_kin_B28 {p : Program} {l : Launch} {e : Env} {R : Room} {s : State} {m : MethodId} {args : Array Value} {below : List Frame} {meth : Method} {c : Code} {D : va_G} {cy : Nat → ClassId} {T0 tB tE : Nat} {A : Nat → Prop} {a : Nat → Nat} {rw : Nat → Option Nat} (hrw : ∀ i, i < 6 → rw i = some (a (12 + 2 * i))) {post : Int32 → KS → Prop} (b : Bz p R s m args meth c D cy T0 tB tE A 6 cX11_kin RX11 (some .boolean) "kin" 2 41 0 0) (S : KS) (x1 : Int32) (x2 : Int32) (x3 : Int32) (y0 : Int32) (h : w_X11_kin_B28 cy tE post S x1 x2 x3 y0) : Z p l e R s m args below meth c D A 6 (MQ below (QI D (U := KS) post (kw cy a rw) A) args s 0 0 A) 0 0 (kw cy a rw S) [(0, .ref (a 0)), (1, .int x1), (2, .int x2), (3, .int x3)] 28 [.int y0] := by
  unfold w_X11_kin_B28 at h
  refine z_istore (lv' := [(5, .int y0), (0, .ref (a 0)), (1, .int x1), (2, .int x2), (3, .int x3)]) b dX11_kin_28 (by decide) rfl ?_
  refine z_iload_n b dX11_kin_30 rfl rfl ?_
  refine y_if_ne (tgt := 71) (xl := x3.toInt) b rfl dX11_kin_31 (by decide) (fun c1 => ?_) (fun c1 => ?_)
  · replace h := h.1 c1
    refine z_aload_n b dX11_kin_71 rfl rfl ?_
    refine z_get (q0 := 0) (k9 := 4) (v := .ref (a 2)) b (kw_0 cy a rw S) rfl in_X11 (by decide) wf_X11_34 rfl dX11_kin_72 ?_
    refine z_bipush (v := 30) b dX11_kin_75 (by decide) ?_
    refine z_iconst (v := 3) b dX11_kin_77 (by decide) ?_
    refine z_iload_n b dX11_kin_78 rfl rfl ?_
    refine z_imul b dX11_kin_79 rfl ?_
    refine z_iadd b dX11_kin_80 rfl ?_
    refine z_iload_n b dX11_kin_81 rfl rfl ?_
    refine z_iadd b dX11_kin_82 rfl ?_
    refine z_iload b dX11_kin_83 rfl ?_
    refine z_callv b (z_runV (q0 := 2) (As := [.int (((30 : Int32) + ((3 : Int32) * x1)) + x2), .int y0]) (st := []) b (k_X9_set hrw S 0 (((30 : Int32) + ((3 : Int32) * x1)) + x2) y0 _ h) cf_X9_set (kw_2 cy a rw S) rfl wm_X11_77 wi_X9_set ws_X9_set dX11_kin_85 rfl (Nat.le_of_ble_eq_true rfl) ⟨by decide, by decide, Nat.le_of_ble_eq_true rfl, Nat.le_of_ble_eq_true rfl⟩) (fun S6 h => ?_)
    refine z_lv0 (lv' := [(0, .ref (a 0))]) [1] rfl ?_
    exact z_X11_kin_B88 hrw b _ h
  · replace h := h.2 c1
    refine z_aload_n b dX11_kin_34 rfl rfl ?_
    refine z_get (q0 := 0) (k9 := 4) (v := .ref (a 2)) b (kw_0 cy a rw S) rfl in_X11 (by decide) wf_X11_34 rfl dX11_kin_35 ?_
    refine z_bipush (v := 20) b dX11_kin_38 (by decide) ?_
    refine z_iconst (v := 3) b dX11_kin_40 (by decide) ?_
    refine z_iload_n b dX11_kin_41 rfl rfl ?_
    refine z_imul b dX11_kin_42 rfl ?_
    refine z_iadd b dX11_kin_43 rfl ?_
    refine z_iload_n b dX11_kin_44 rfl rfl ?_
    refine z_iadd b dX11_kin_45 rfl ?_
    refine z_iload b dX11_kin_46 rfl ?_
    refine z_callv b (z_runV (q0 := 2) (As := [.int (((20 : Int32) + ((3 : Int32) * x1)) + x2), .int y0]) (st := []) b (k_X9_set hrw S 0 (((20 : Int32) + ((3 : Int32) * x1)) + x2) y0 _ h) cf_X9_set (kw_2 cy a rw S) rfl wm_X11_77 wi_X9_set ws_X9_set dX11_kin_48 rfl (Nat.le_of_ble_eq_true rfl) ⟨by decide, by decide, Nat.le_of_ble_eq_true rfl, Nat.le_of_ble_eq_true rfl⟩) (fun S10 h => ?_)
    refine z_aload_n b dX11_kin_51 rfl rfl ?_
    refine z_get (q0 := 0) (k9 := 4) (v := .ref (a 2)) b (kw_0 cy a rw S10) rfl in_X11 (by decide) wf_X11_34 rfl dX11_kin_52 ?_
    refine z_bipush (v := 20) b dX11_kin_55 (by decide) ?_
    refine z_iconst (v := 3) b dX11_kin_57 (by decide) ?_
    refine z_iload_n b dX11_kin_58 rfl rfl ?_
    refine z_imul b dX11_kin_59 rfl ?_
    refine z_iadd b dX11_kin_60 rfl ?_
    refine z_iload_n b dX11_kin_61 rfl rfl ?_
    refine z_iadd b dX11_kin_62 rfl ?_
    refine z_iload b dX11_kin_63 rfl ?_
    refine z_callv b (z_runV (q0 := 2) (As := [.int (((20 : Int32) + ((3 : Int32) * x2)) + x1), .int y0]) (st := []) b (k_X9_set hrw S10 0 (((20 : Int32) + ((3 : Int32) * x2)) + x1) y0 _ h) cf_X9_set (kw_2 cy a rw S10) rfl wm_X11_77 wi_X9_set ws_X9_set dX11_kin_65 rfl (Nat.le_of_ble_eq_true rfl) ⟨by decide, by decide, Nat.le_of_ble_eq_true rfl, Nat.le_of_ble_eq_true rfl⟩) (fun S12 h => ?_)
    refine z_goto (tgt := 88) b dX11_kin_68 (by decide) ?_
    refine z_lv0 (lv' := [(0, .ref (a 0))]) [1] rfl ?_
    exact z_X11_kin_B88 hrw b _ h

def w_X11_kin (cy : Nat → ClassId) (tE : Nat) (S : KS) (p0 : Int32) (p1 : Int32) (p2 : Int32) (p3 : Int32) (post : Int32 → KS → Prop) : Prop :=
  w_X11_arePair cy tE S p0 p1 (fun r1 S2 => ((r1.toInt = 0 → w_X11_kin_B16 cy tE post S2) ∧ (r1.toInt ≠ 0 → w_X11_isWithin cy tE S2 p2 1 (fun r3 S4 => ((r3.toInt ≠ 0 → ((p3.toInt = 0 → w_X11_kin_B28 cy tE post S4 p0 p1 p2 0) ∧ (p3.toInt ≠ 0 → w_X11_kin_B28 cy tE post S4 p0 p1 p2 1))) ∧ (r3.toInt = 0 → w_X11_kin_B16 cy tE post S4))))))

set_option maxHeartbeats 200000 in
set_option maxRecDepth 100000 in
theorem k_X11_kin {l : Launch} {D : va_G} {cy : Nat → ClassId} {T0 tB tE : Nat} {a : Nat → Nat} {rw : Nat → Option Nat} (hrw : ∀ i, i < 6 → rw i = some (a (12 + 2 * i))) (S : KS) (p0 : Int32) (p1 : Int32) (p2 : Int32) (p3 : Int32) (post : Int32 → KS → Prop) (h : w_X11_kin cy tE S p0 p1 p2 p3 post) : Ct l D cy T0 tB tE yX11_kin cX11_kin 6 (some .boolean) 2 41 0 0 (kw cy a rw S) [.ref (a 0), .int p0, .int p1, .int p2, .int p3] (QI D (U := KS) post (kw cy a rw)) := by
  refine Ct.ofZ RX11 "kin" [(0, .ref (a 0)), (1, .int p0), (2, .int p1), (3, .int p2), (4, .int p3)] rfl rfl rfl rfl (Nat.le_of_ble_eq_true rfl) ?_
  intro p e R s m args below meth c A b
  unfold w_X11_kin at h
  refine z_iload_n b dX11_kin_0 rfl rfl ?_
  refine z_iload_n b dX11_kin_1 rfl rfl ?_
  refine z_calli b (z_runS (As := [.int p0, .int p1]) (st := []) b (k_X11_arePair hrw S p0 p1 _ h) cf_X11_arePair wm_X11_84 ws_X11_arePair dX11_kin_2 rfl (Nat.le_of_ble_eq_true rfl) ⟨by decide, by decide, Nat.le_of_ble_eq_true rfl, Nat.le_of_ble_eq_true rfl⟩) (fun r1 S2 h => ?_)
  refine y_if_eq (tgt := 16) (xl := r1.toInt) b rfl dX11_kin_5 (by decide) (fun c1 => ?_) (fun c1 => ?_)
  · replace h := h.1 c1
    refine z_lv0 (lv' := []) [] rfl ?_
    exact z_X11_kin_B16 hrw b _ h
  · replace h := h.2 c1
    refine z_iload_n b dX11_kin_8 rfl rfl ?_
    refine z_iconst (v := 1) b dX11_kin_9 (by decide) ?_
    refine z_calli b (z_runS (As := [.int p2, .int 1]) (st := []) b (k_X11_isWithin hrw S2 p2 1 _ h) cf_X11_isWithin wm_X11_73 ws_X11_isWithin dX11_kin_10 rfl (Nat.le_of_ble_eq_true rfl) ⟨by decide, by decide, Nat.le_of_ble_eq_true rfl, Nat.le_of_ble_eq_true rfl⟩) (fun r3 S4 h => ?_)
    refine y_if_ne (tgt := 18) (xl := r3.toInt) b rfl dX11_kin_13 (by decide) (fun c1 => ?_) (fun c1 => ?_)
    · replace h := h.1 c1
      refine z_iload b dX11_kin_18 rfl ?_
      refine y_if_eq (tgt := 27) (xl := p3.toInt) b rfl dX11_kin_20 (by decide) (fun c1 => ?_) (fun c1 => ?_)
      · replace h := h.1 c1
        refine z_iconst (v := 0) b dX11_kin_27 (by decide) ?_
        refine z_lv0 (lv' := [(0, .ref (a 0)), (1, .int p0), (2, .int p1), (3, .int p2)]) [0, 1, 2, 3] rfl ?_
        exact z_X11_kin_B28 hrw b _ _ _ _ _ h
      · replace h := h.2 c1
        refine z_iconst (v := 1) b dX11_kin_23 (by decide) ?_
        refine z_goto (tgt := 28) b dX11_kin_24 (by decide) ?_
        refine z_lv0 (lv' := [(0, .ref (a 0)), (1, .int p0), (2, .int p1), (3, .int p2)]) [0, 1, 2, 3] rfl ?_
        exact z_X11_kin_B28 hrw b _ _ _ _ _ h
    · replace h := h.2 c1
      refine z_lv0 (lv' := []) [] rfl ?_
      exact z_X11_kin_B16 hrw b _ h

def w_X11_gain_B26 (cy : Nat → ClassId) (tE : Nat) (post : Int32 → KS → Prop) (S : KS)  : Prop :=
  post (-100) S

set_option maxHeartbeats 200000 in
set_option maxRecDepth 100000 in
theorem z_X11_gain_B26 {p : Program} {l : Launch} {e : Env} {R : Room} {s : State} {m : MethodId} {args : Array Value} {below : List Frame} {meth : Method} {c : Code} {D : va_G} {cy : Nat → ClassId} {T0 tB tE : Nat} {A : Nat → Prop} {a : Nat → Nat} {rw : Nat → Option Nat} (hrw : ∀ i, i < 6 → rw i = some (a (12 + 2 * i))) {post : Int32 → KS → Prop} (b : Bz p R s m args meth c D cy T0 tB tE A 7 cX11_gain RX11 (some .int) "gain" 6 144 0 0) (S : KS)  (h : w_X11_gain_B26 cy tE post S ) : Z p l e R s m args below meth c D A 7 (MQ below (QI D (U := KS) post (kw cy a rw) A) args s 0 0 A) 0 0 (kw cy a rw S) [] 26 [] := by
  unfold w_X11_gain_B26 at h
  refine z_bipush (v := (-100)) b dX11_gain_26 (by decide) ?_
  exact z_iret (u := S) b rfl dX11_gain_28 h rfl (by decide) (by decide)

def w_X11_gain_B131 (cy : Nat → ClassId) (tE : Nat) (post : Int32 → KS → Prop) (S : KS) (y0 : Int32) : Prop :=
  post y0 S

set_option maxHeartbeats 200000 in
set_option maxRecDepth 100000 in
theorem z_X11_gain_B131 {p : Program} {l : Launch} {e : Env} {R : Room} {s : State} {m : MethodId} {args : Array Value} {below : List Frame} {meth : Method} {c : Code} {D : va_G} {cy : Nat → ClassId} {T0 tB tE : Nat} {A : Nat → Prop} {a : Nat → Nat} {rw : Nat → Option Nat} (hrw : ∀ i, i < 6 → rw i = some (a (12 + 2 * i))) {post : Int32 → KS → Prop} (b : Bz p R s m args meth c D cy T0 tB tE A 7 cX11_gain RX11 (some .int) "gain" 6 144 0 0) (S : KS) (y0 : Int32) (h : w_X11_gain_B131 cy tE post S y0) : Z p l e R s m args below meth c D A 7 (MQ below (QI D (U := KS) post (kw cy a rw) A) args s 0 0 A) 0 0 (kw cy a rw S) [] 131 [.int y0] := by
  unfold w_X11_gain_B131 at h
  exact z_iret (u := S) b rfl dX11_gain_131 h rfl (by decide) (by decide)

def w_X11_gain (cy : Nat → ClassId) (tE : Nat) (S : KS) (p0 : Int32) (p1 : Int32) (p2 : Int32) (p3 : Int32) (post : Int32 → KS → Prop) : Prop :=
  w_X11_isPerson cy tE S p0 (fun r1 S2 => ((r1.toInt = 0 → w_X11_gain_B26 cy tE post S2) ∧ (r1.toInt ≠ 0 → w_X11_areLaws cy tE S2 p1 (fun r3 S4 => ((r3.toInt = 0 → w_X11_gain_B26 cy tE post S4) ∧ (r3.toInt ≠ 0 → w_X11_isDepth cy tE S4 p2 (fun r5 S6 => ((r5.toInt = 0 → w_X11_gain_B26 cy tE post S6) ∧ (r5.toInt ≠ 0 → ((0 ≤ p3.toInt → w_X8_begin cy tE S6 p1 p2 7 0 (fun S8 => w_X8_finish cy tE S8 (fun S10 => (((fi S10.1 34).toInt = 0 → w_X8_richest cy tE S10 p0 (fun r11 S12 => ((p3.toInt ≠ 0 → ((p3.toInt ≠ 1 → w_X8_code cy tE S12 r11 (p3 - 2) (fun r13 S14 => ((r13.toInt ≠ (-1) → w_X11_gain_B131 cy tE post S14 r13) ∧ (r13.toInt = (-1) → w_X11_gain_B131 cy tE post S14 (-100))))) ∧ (p3.toInt = 1 → w_X8_acts cy tE S12 r11 (fun r15 S16 => post r15 S16)))) ∧ (p3.toInt = 0 → w_X8_wealth cy tE S12 r11 p0 (fun r17 S18 => post r17 S18))))) ∧ ((fi S10.1 34).toInt ≠ 0 → post (-101) S10))))) ∧ (p3.toInt < 0 → w_X11_gain_B26 cy tE post S6)))))))))))

set_option maxHeartbeats 200000 in
set_option maxRecDepth 100000 in
theorem k_X11_gain {l : Launch} {D : va_G} {cy : Nat → ClassId} {T0 tB tE : Nat} {a : Nat → Nat} {rw : Nat → Option Nat} (hrw : ∀ i, i < 6 → rw i = some (a (12 + 2 * i))) (S : KS) (p0 : Int32) (p1 : Int32) (p2 : Int32) (p3 : Int32) (post : Int32 → KS → Prop) (h : w_X11_gain cy tE S p0 p1 p2 p3 post) : Ct l D cy T0 tB tE yX11_gain cX11_gain 7 (some .int) 6 144 0 0 (kw cy a rw S) [.ref (a 0), .int p0, .int p1, .int p2, .int p3] (QI D (U := KS) post (kw cy a rw)) := by
  refine Ct.ofZ RX11 "gain" [(0, .ref (a 0)), (1, .int p0), (2, .int p1), (3, .int p2), (4, .int p3)] rfl rfl rfl rfl (Nat.le_of_ble_eq_true rfl) ?_
  intro p e R s m args below meth c A b
  unfold w_X11_gain at h
  refine z_iload_n b dX11_gain_0 rfl rfl ?_
  refine z_calli b (z_runS (As := [.int p0]) (st := []) b (k_X11_isPerson hrw S p0 _ h) cf_X11_isPerson wm_X11_69 ws_X11_isPerson dX11_gain_1 rfl (Nat.le_of_ble_eq_true rfl) ⟨by decide, by decide, Nat.le_of_ble_eq_true rfl, Nat.le_of_ble_eq_true rfl⟩) (fun r1 S2 h => ?_)
  refine y_if_eq (tgt := 26) (xl := r1.toInt) b rfl dX11_gain_4 (by decide) (fun c1 => ?_) (fun c1 => ?_)
  · replace h := h.1 c1
    refine z_lv0 (lv' := []) [] rfl ?_
    exact z_X11_gain_B26 hrw b _ h
  · replace h := h.2 c1
    refine z_iload_n b dX11_gain_7 rfl rfl ?_
    refine z_calli b (z_runS (As := [.int p1]) (st := []) b (k_X11_areLaws hrw S2 p1 _ h) cf_X11_areLaws wm_X11_181 ws_X11_areLaws dX11_gain_8 rfl (Nat.le_of_ble_eq_true rfl) ⟨by decide, by decide, Nat.le_of_ble_eq_true rfl, Nat.le_of_ble_eq_true rfl⟩) (fun r3 S4 h => ?_)
    refine y_if_eq (tgt := 26) (xl := r3.toInt) b rfl dX11_gain_11 (by decide) (fun c1 => ?_) (fun c1 => ?_)
    · replace h := h.1 c1
      refine z_lv0 (lv' := []) [] rfl ?_
      exact z_X11_gain_B26 hrw b _ h
    · replace h := h.2 c1
      refine z_iload_n b dX11_gain_14 rfl rfl ?_
      refine z_calli b (z_runS (As := [.int p2]) (st := []) b (k_X11_isDepth hrw S4 p2 _ h) cf_X11_isDepth wm_X11_203 ws_X11_isDepth dX11_gain_15 rfl (Nat.le_of_ble_eq_true rfl) ⟨by decide, by decide, Nat.le_of_ble_eq_true rfl, Nat.le_of_ble_eq_true rfl⟩) (fun r5 S6 h => ?_)
      refine y_if_eq (tgt := 26) (xl := r5.toInt) b rfl dX11_gain_18 (by decide) (fun c1 => ?_) (fun c1 => ?_)
      · replace h := h.1 c1
        refine z_lv0 (lv' := []) [] rfl ?_
        exact z_X11_gain_B26 hrw b _ h
      · replace h := h.2 c1
        refine z_iload b dX11_gain_21 rfl ?_
        refine y_if_ge (tgt := 29) (xl := p3.toInt) b rfl dX11_gain_23 (by decide) (fun c1 => ?_) (fun c1 => ?_)
        · replace h := h.1 c1
          refine z_aload_n b dX11_gain_29 rfl rfl ?_
          refine z_get (q0 := 0) (k9 := 6) (v := .ref (a 38)) b (kw_0 cy a rw S6) rfl in_X11 (by decide) wf_X11_52 rfl dX11_gain_30 ?_
          refine z_iload_n b dX11_gain_33 rfl rfl ?_
          refine z_iload_n b dX11_gain_34 rfl rfl ?_
          refine z_bipush (v := 7) b dX11_gain_35 (by decide) ?_
          refine z_iconst (v := 0) b dX11_gain_37 (by decide) ?_
          refine z_callv b (z_runV (q0 := 38) (As := [.int p1, .int p2, .int 7, .int 0]) (st := []) b (k_X8_begin hrw S6 p1 p2 7 0 _ h) cf_X8_begin (kw_38 cy a rw S6) rfl wm_X11_206 wi_X8_begin ws_X8_begin dX11_gain_38 rfl (Nat.le_of_ble_eq_true rfl) ⟨by decide, by decide, Nat.le_of_ble_eq_true rfl, Nat.le_of_ble_eq_true rfl⟩) (fun S8 h => ?_)
          refine z_aload_n b dX11_gain_41 rfl rfl ?_
          refine z_get (q0 := 0) (k9 := 6) (v := .ref (a 38)) b (kw_0 cy a rw S8) rfl in_X11 (by decide) wf_X11_52 rfl dX11_gain_42 ?_
          refine z_callv b (z_runV (q0 := 38) (As := []) (st := []) b (k_X8_finish hrw S8 _ h) cf_X8_finish (kw_38 cy a rw S8) rfl wm_X11_232 wi_X8_finish ws_X8_finish dX11_gain_45 rfl (Nat.le_of_ble_eq_true rfl) ⟨by decide, by decide, Nat.le_of_ble_eq_true rfl, Nat.le_of_ble_eq_true rfl⟩) (fun S10 h => ?_)
          refine z_aload_n b dX11_gain_48 rfl rfl ?_
          refine z_get (q0 := 0) (k9 := 6) (v := .ref (a 38)) b (kw_0 cy a rw S10) rfl in_X11 (by decide) wf_X11_52 rfl dX11_gain_49 ?_
          refine z_get (q0 := 38) (k9 := 18) (v := .int (fi S10.1 34)) b (kw_38 cy a rw S10) rfl in_X8 (by decide) wf_X11_214 rfl dX11_gain_52 ?_
          refine y_if_eq (tgt := 61) (xl := (fi S10.1 34).toInt) b rfl dX11_gain_55 (by decide) (fun c1 => ?_) (fun c1 => ?_)
          · replace h := h.1 c1
            refine z_aload_n b dX11_gain_61 rfl rfl ?_
            refine z_get (q0 := 0) (k9 := 6) (v := .ref (a 38)) b (kw_0 cy a rw S10) rfl in_X11 (by decide) wf_X11_52 rfl dX11_gain_62 ?_
            refine z_iload_n b dX11_gain_65 rfl rfl ?_
            refine z_calli b (z_runV (q0 := 38) (As := [.int p0]) (st := []) b (k_X8_richest hrw S10 p0 _ h) cf_X8_richest (kw_38 cy a rw S10) rfl wm_X11_238 wi_X8_richest ws_X8_richest dX11_gain_66 rfl (Nat.le_of_ble_eq_true rfl) ⟨by decide, by decide, Nat.le_of_ble_eq_true rfl, Nat.le_of_ble_eq_true rfl⟩) (fun r11 S12 h => ?_)
            refine z_istore (lv' := [(5, .int r11), (0, .ref (a 0)), (1, .int p0), (2, .int p1), (3, .int p2), (4, .int p3)]) b dX11_gain_69 (by decide) rfl ?_
            refine z_iload b dX11_gain_71 rfl ?_
            refine y_if_ne (tgt := 87) (xl := p3.toInt) b rfl dX11_gain_73 (by decide) (fun c1 => ?_) (fun c1 => ?_)
            · replace h := h.1 c1
              refine z_iload b dX11_gain_87 rfl ?_
              refine z_iconst (v := 1) b dX11_gain_89 (by decide) ?_
              refine y_icmp_ne (tgt := 103) (xl := p3.toInt) (yl := 1) b rfl (by decide) dX11_gain_90 (by decide) (fun c1 => ?_) (fun c1 => ?_)
              · replace h := h.1 c1
                refine z_aload_n b dX11_gain_103 rfl rfl ?_
                refine z_get (q0 := 0) (k9 := 6) (v := .ref (a 38)) b (kw_0 cy a rw S12) rfl in_X11 (by decide) wf_X11_52 rfl dX11_gain_104 ?_
                refine z_iload b dX11_gain_107 rfl ?_
                refine z_iload b dX11_gain_109 rfl ?_
                refine z_iconst (v := 2) b dX11_gain_111 (by decide) ?_
                refine z_isub b dX11_gain_112 rfl ?_
                refine z_calli b (z_runV (q0 := 38) (As := [.int r11, .int (p3 - 2)]) (st := []) b (k_X8_code hrw S12 r11 (p3 - 2) _ h) cf_X8_code (kw_38 cy a rw S12) rfl wm_X11_219 wi_X8_code ws_X8_code dX11_gain_113 rfl (Nat.le_of_ble_eq_true rfl) ⟨by decide, by decide, Nat.le_of_ble_eq_true rfl, Nat.le_of_ble_eq_true rfl⟩) (fun r13 S14 h => ?_)
                refine z_istore (lv' := [(6, .int r13), (5, .int r11), (0, .ref (a 0)), (1, .int p0), (2, .int p1), (3, .int p2), (4, .int p3)]) b dX11_gain_116 (by decide) rfl ?_
                refine z_iload b dX11_gain_118 rfl ?_
                refine z_iconst (v := (-1)) b dX11_gain_120 (by decide) ?_
                refine y_icmp_ne (tgt := 129) (xl := r13.toInt) (yl := (-1)) b rfl (by decide) dX11_gain_121 (by decide) (fun c1 => ?_) (fun c1 => ?_)
                · replace h := h.1 c1
                  refine z_iload b dX11_gain_129 rfl ?_
                  refine z_lv0 (lv' := []) [] rfl ?_
                  exact z_X11_gain_B131 hrw b _ _ h
                · replace h := h.2 c1
                  refine z_bipush (v := (-100)) b dX11_gain_124 (by decide) ?_
                  refine z_goto (tgt := 131) b dX11_gain_126 (by decide) ?_
                  refine z_lv0 (lv' := []) [] rfl ?_
                  exact z_X11_gain_B131 hrw b _ _ h
              · replace h := h.2 c1
                refine z_aload_n b dX11_gain_93 rfl rfl ?_
                refine z_get (q0 := 0) (k9 := 6) (v := .ref (a 38)) b (kw_0 cy a rw S12) rfl in_X11 (by decide) wf_X11_52 rfl dX11_gain_94 ?_
                refine z_iload b dX11_gain_97 rfl ?_
                refine z_calli b (z_runV (q0 := 38) (As := [.int r11]) (st := []) b (k_X8_acts hrw S12 r11 _ h) cf_X8_acts (kw_38 cy a rw S12) rfl wm_X11_217 wi_X8_acts ws_X8_acts dX11_gain_99 rfl (Nat.le_of_ble_eq_true rfl) ⟨by decide, by decide, Nat.le_of_ble_eq_true rfl, Nat.le_of_ble_eq_true rfl⟩) (fun r15 S16 h => ?_)
                exact z_iret (u := S16) b rfl dX11_gain_102 h rfl (by decide) (by decide)
            · replace h := h.2 c1
              refine z_aload_n b dX11_gain_76 rfl rfl ?_
              refine z_get (q0 := 0) (k9 := 6) (v := .ref (a 38)) b (kw_0 cy a rw S12) rfl in_X11 (by decide) wf_X11_52 rfl dX11_gain_77 ?_
              refine z_iload b dX11_gain_80 rfl ?_
              refine z_iload_n b dX11_gain_82 rfl rfl ?_
              refine z_calli b (z_runV (q0 := 38) (As := [.int r11, .int p0]) (st := []) b (k_X8_wealth hrw S12 r11 p0 _ h) cf_X8_wealth (kw_38 cy a rw S12) rfl wm_X11_241 wi_X8_wealth ws_X8_wealth dX11_gain_83 rfl (Nat.le_of_ble_eq_true rfl) ⟨by decide, by decide, Nat.le_of_ble_eq_true rfl, Nat.le_of_ble_eq_true rfl⟩) (fun r17 S18 h => ?_)
              exact z_iret (u := S18) b rfl dX11_gain_86 h rfl (by decide) (by decide)
          · replace h := h.2 c1
            refine z_bipush (v := (-101)) b dX11_gain_58 (by decide) ?_
            exact z_iret (u := S10) b rfl dX11_gain_60 h rfl (by decide) (by decide)
        · replace h := h.2 c1
          refine z_lv0 (lv' := []) [] rfl ?_
          exact z_X11_gain_B26 hrw b _ h

def w_X11_through_B27 (cy : Nat → ClassId) (tE : Nat) (post : Int32 → KS → Prop) (S : KS)  : Prop :=
  post (-1) S

set_option maxHeartbeats 200000 in
set_option maxRecDepth 100000 in
theorem z_X11_through_B27 {p : Program} {l : Launch} {e : Env} {R : Room} {s : State} {m : MethodId} {args : Array Value} {below : List Frame} {meth : Method} {c : Code} {D : va_G} {cy : Nat → ClassId} {T0 tB tE : Nat} {A : Nat → Prop} {a : Nat → Nat} {rw : Nat → Option Nat} (hrw : ∀ i, i < 6 → rw i = some (a (12 + 2 * i))) {post : Int32 → KS → Prop} (b : Bz p R s m args meth c D cy T0 tB tE A 7 cX11_through RX11 (some .int) "through" 3 72 0 0) (S : KS)  (h : w_X11_through_B27 cy tE post S ) : Z p l e R s m args below meth c D A 7 (MQ below (QI D (U := KS) post (kw cy a rw) A) args s 0 0 A) 0 0 (kw cy a rw S) [] 27 [] := by
  unfold w_X11_through_B27 at h
  refine z_iconst (v := (-1)) b dX11_through_27 (by decide) ?_
  exact z_iret (u := S) b rfl dX11_through_28 h rfl (by decide) (by decide)

def w_X11_through_B93 (cy : Nat → ClassId) (tE : Nat) (post : Int32 → KS → Prop) (k37 : KS → Int32 → Int32 → Int32 → Int32 → Int32 → Prop) (k99 : KS → Int32 → Int32 → Int32 → Prop) (S : KS) (x1 : Int32) (x2 : Int32) (x3 : Int32) (x4 : Int32) (x5 : Int32) : Prop :=
  k37 S x1 x2 x3 x4 (x5 + 1)

set_option maxHeartbeats 200000 in
set_option maxRecDepth 100000 in
theorem z_X11_through_B93 {p : Program} {l : Launch} {e : Env} {R : Room} {s : State} {m : MethodId} {args : Array Value} {below : List Frame} {meth : Method} {c : Code} {D : va_G} {cy : Nat → ClassId} {T0 tB tE : Nat} {A : Nat → Prop} {a : Nat → Nat} {rw : Nat → Option Nat} (hrw : ∀ i, i < 6 → rw i = some (a (12 + 2 * i))) {post : Int32 → KS → Prop} {k37 : KS → Int32 → Int32 → Int32 → Int32 → Int32 → Prop} {k99 : KS → Int32 → Int32 → Int32 → Prop} (b : Bz p R s m args meth c D cy T0 tB tE A 7 cX11_through RX11 (some .int) "through" 3 72 0 0) (hk37 : ∀ (S : KS) (x1 : Int32) (x2 : Int32) (x3 : Int32) (x4 : Int32) (x5 : Int32), k37 S x1 x2 x3 x4 x5 → Z p l e R s m args below meth c D A 7 (MQ below (QI D (U := KS) post (kw cy a rw) A) args s 0 0 A) 0 0 (kw cy a rw S) [(0, .ref (a 0)), (1, .int x1), (2, .int x2), (3, .int x3), (4, .int x4), (5, .int x5)] 37 []) (hk99 : ∀ (S : KS) (x2 : Int32) (x3 : Int32) (x4 : Int32), k99 S x2 x3 x4 → Z p l e R s m args below meth c D A 7 (MQ below (QI D (U := KS) post (kw cy a rw) A) args s 0 0 A) 0 0 (kw cy a rw S) [(2, .int x2), (3, .int x3), (4, .int x4)] 99 []) (S : KS) (x1 : Int32) (x2 : Int32) (x3 : Int32) (x4 : Int32) (x5 : Int32) (h : w_X11_through_B93 cy tE post k37 k99 S x1 x2 x3 x4 x5) : Z p l e R s m args below meth c D A 7 (MQ below (QI D (U := KS) post (kw cy a rw) A) args s 0 0 A) 0 0 (kw cy a rw S) [(0, .ref (a 0)), (1, .int x1), (2, .int x2), (3, .int x3), (4, .int x4), (5, .int x5)] 93 [] := by
  unfold w_X11_through_B93 at h
  refine z_iinc (k9 := 5) (v := (x5 + 1)) (lv' := [(5, .int (x5 + 1)), (0, .ref (a 0)), (1, .int x1), (2, .int x2), (3, .int x3), (4, .int x4)]) b dX11_through_93 rfl rfl (by decide) rfl ?_
  refine z_goto (tgt := 37) b dX11_through_96 (by decide) ?_
  refine z_lv0 (lv' := [(0, .ref (a 0)), (1, .int x1), (2, .int x2), (3, .int x3), (4, .int x4), (5, .int (x5 + 1))]) [1, 2, 3, 4, 5, 0] rfl ?_
  exact hk37 _ _ _ _ _ _ h

def w_X11_through_B86 (cy : Nat → ClassId) (tE : Nat) (post : Int32 → KS → Prop) (k37 : KS → Int32 → Int32 → Int32 → Int32 → Int32 → Prop) (k99 : KS → Int32 → Int32 → Int32 → Prop) (S : KS) (x1 : Int32) (x2 : Int32) (x5 : Int32) (x6 : Int32) : Prop :=
  w_X11_through_B93 cy tE post k37 k99 S x1 x2 x6 x5 x5

set_option maxHeartbeats 200000 in
set_option maxRecDepth 100000 in
theorem z_X11_through_B86 {p : Program} {l : Launch} {e : Env} {R : Room} {s : State} {m : MethodId} {args : Array Value} {below : List Frame} {meth : Method} {c : Code} {D : va_G} {cy : Nat → ClassId} {T0 tB tE : Nat} {A : Nat → Prop} {a : Nat → Nat} {rw : Nat → Option Nat} (hrw : ∀ i, i < 6 → rw i = some (a (12 + 2 * i))) {post : Int32 → KS → Prop} {k37 : KS → Int32 → Int32 → Int32 → Int32 → Int32 → Prop} {k99 : KS → Int32 → Int32 → Int32 → Prop} (b : Bz p R s m args meth c D cy T0 tB tE A 7 cX11_through RX11 (some .int) "through" 3 72 0 0) (hk37 : ∀ (S : KS) (x1 : Int32) (x2 : Int32) (x3 : Int32) (x4 : Int32) (x5 : Int32), k37 S x1 x2 x3 x4 x5 → Z p l e R s m args below meth c D A 7 (MQ below (QI D (U := KS) post (kw cy a rw) A) args s 0 0 A) 0 0 (kw cy a rw S) [(0, .ref (a 0)), (1, .int x1), (2, .int x2), (3, .int x3), (4, .int x4), (5, .int x5)] 37 []) (hk99 : ∀ (S : KS) (x2 : Int32) (x3 : Int32) (x4 : Int32), k99 S x2 x3 x4 → Z p l e R s m args below meth c D A 7 (MQ below (QI D (U := KS) post (kw cy a rw) A) args s 0 0 A) 0 0 (kw cy a rw S) [(2, .int x2), (3, .int x3), (4, .int x4)] 99 []) (S : KS) (x1 : Int32) (x2 : Int32) (x5 : Int32) (x6 : Int32) (h : w_X11_through_B86 cy tE post k37 k99 S x1 x2 x5 x6) : Z p l e R s m args below meth c D A 7 (MQ below (QI D (U := KS) post (kw cy a rw) A) args s 0 0 A) 0 0 (kw cy a rw S) [(0, .ref (a 0)), (1, .int x1), (2, .int x2), (5, .int x5), (6, .int x6)] 86 [] := by
  unfold w_X11_through_B86 at h
  refine z_iload b dX11_through_86 rfl ?_
  refine z_istore_n (lv' := [(3, .int x6), (0, .ref (a 0)), (1, .int x1), (2, .int x2), (5, .int x5), (6, .int x6)]) b dX11_through_88 rfl (by decide) rfl ?_
  refine z_iload b dX11_through_89 rfl ?_
  refine z_istore (lv' := [(4, .int x5), (3, .int x6), (0, .ref (a 0)), (1, .int x1), (2, .int x2), (5, .int x5), (6, .int x6)]) b dX11_through_91 (by decide) rfl ?_
  refine z_lv0 (lv' := [(0, .ref (a 0)), (1, .int x1), (2, .int x2), (3, .int x6), (4, .int x5), (5, .int x5)]) [2, 3, 4, 1, 0, 5] rfl ?_
  exact z_X11_through_B93 hrw b hk37 hk99 _ _ _ _ _ _ h

def w_X11_through_F37 (cy : Nat → ClassId) (tE : Nat) (post : Int32 → KS → Prop) (k99 : KS → Int32 → Int32 → Int32 → Prop) (k37 : KS → Int32 → Int32 → Int32 → Int32 → Int32 → Prop) (S : KS) (x1 : Int32) (x2 : Int32) (x3 : Int32) (x4 : Int32) (x5 : Int32) : Prop :=
  ((36 ≤ x5.toInt → k99 S x2 x3 x4) ∧ (x5.toInt < 36 → (0 ≤ x1.toInt ∧ x1.toInt < 6) ∧ w_X7_endOf cy tE S 6 (x1.toNatClampNeg) (x5 / 6) (x5 - x5 / 6 * 6) (fun r10 S11 => ((r10.toInt = (-1) → w_X11_through_B93 cy tE post k37 k99 S11 x1 x2 x3 x4 x5) ∧ (r10.toInt ≠ (-1) → ((x3.toInt = (-1) → w_X11_through_B86 cy tE post k37 k99 S11 x1 x2 x5 r10) ∧ (x3.toInt ≠ (-1) → ((x3.toInt ≤ r10.toInt → w_X11_through_B93 cy tE post k37 k99 S11 x1 x2 x3 x4 x5) ∧ (r10.toInt < x3.toInt → w_X11_through_B86 cy tE post k37 k99 S11 x1 x2 x5 r10)))))))))

set_option maxHeartbeats 200000 in
set_option maxRecDepth 100000 in
theorem z_X11_through_F37 {p : Program} {l : Launch} {e : Env} {R : Room} {s : State} {m : MethodId} {args : Array Value} {below : List Frame} {meth : Method} {c : Code} {D : va_G} {cy : Nat → ClassId} {T0 tB tE : Nat} {A : Nat → Prop} {a : Nat → Nat} {rw : Nat → Option Nat} (hrw : ∀ i, i < 6 → rw i = some (a (12 + 2 * i))) {post : Int32 → KS → Prop} {k99 : KS → Int32 → Int32 → Int32 → Prop} {k37 : KS → Int32 → Int32 → Int32 → Int32 → Int32 → Prop} (b : Bz p R s m args meth c D cy T0 tB tE A 7 cX11_through RX11 (some .int) "through" 3 72 0 0) (hk99 : ∀ (S : KS) (x2 : Int32) (x3 : Int32) (x4 : Int32), k99 S x2 x3 x4 → Z p l e R s m args below meth c D A 7 (MQ below (QI D (U := KS) post (kw cy a rw) A) args s 0 0 A) 0 0 (kw cy a rw S) [(2, .int x2), (3, .int x3), (4, .int x4)] 99 []) (hk37 : ∀ (S : KS) (x1 : Int32) (x2 : Int32) (x3 : Int32) (x4 : Int32) (x5 : Int32), k37 S x1 x2 x3 x4 x5 → Z p l e R s m args below meth c D A 7 (MQ below (QI D (U := KS) post (kw cy a rw) A) args s 0 0 A) 0 0 (kw cy a rw S) [(0, .ref (a 0)), (1, .int x1), (2, .int x2), (3, .int x3), (4, .int x4), (5, .int x5)] 37 []) (S : KS) (x1 : Int32) (x2 : Int32) (x3 : Int32) (x4 : Int32) (x5 : Int32) (h : w_X11_through_F37 cy tE post k99 k37 S x1 x2 x3 x4 x5) : Z p l e R s m args below meth c D A 7 (MQ below (QI D (U := KS) post (kw cy a rw) A) args s 0 0 A) 0 0 (kw cy a rw S) [(0, .ref (a 0)), (1, .int x1), (2, .int x2), (3, .int x3), (4, .int x4), (5, .int x5)] 37 [] := by
  unfold w_X11_through_F37 at h
  refine z_iload b dX11_through_37 rfl ?_
  refine z_bipush (v := 36) b dX11_through_39 (by decide) ?_
  refine y_icmp_ge (tgt := 99) (xl := x5.toInt) (yl := 36) b rfl (by decide) dX11_through_41 (by decide) (fun c1 => ?_) (fun c1 => ?_)
  · replace h := h.1 c1
    refine z_lv0 (lv' := [(2, .int x2), (3, .int x3), (4, .int x4)]) [2, 3, 4] rfl ?_
    exact hk99 _ _ _ _ h
  · replace h := h.2 c1
    refine z_aload_n b dX11_through_44 rfl rfl ?_
    refine z_get (q0 := 0) (k9 := 8) (v := .ref (a 24)) b (kw_0 cy a rw S) rfl in_X11 (by decide) wf_X11_65 rfl dX11_through_45 ?_
    refine z_aload_n b dX11_through_48 rfl rfl ?_
    refine z_get (q0 := 0) (k9 := 7) (v := .ref (a 46)) b (kw_0 cy a rw S) rfl in_X11 (by decide) wf_X11_58 rfl dX11_through_49 ?_
    refine z_iload_n b dX11_through_52 rfl rfl ?_
    obtain ⟨g8, h⟩ := h
    refine y_aald (q0 := 46) (t0 := 4) (j := x1.toNatClampNeg) (v := .ref (a (12 + 2 * (x1.toNatClampNeg)))) b (kw_46 cy a rw S) rfl (zx_r g8.1 g8.2) (by rw [hrw _ (zx_lt (zx_r g8.1 g8.2))]; rfl) dX11_through_53 ?_
    refine z_iload b dX11_through_54 rfl ?_
    refine z_bipush (v := 6) b dX11_through_56 (by decide) ?_
    refine z_idiv b dX11_through_58 (by decide) rfl ?_
    refine z_iload b dX11_through_59 rfl ?_
    refine z_bipush (v := 6) b dX11_through_61 (by decide) ?_
    refine z_irem b dX11_through_63 (by decide) rfl ?_
    refine z_calli b (z_runV (q0 := 24) (As := [.ref (a (12 + 2 * (x1.toNatClampNeg))), .int (x5 / 6), .int (x5 - x5 / 6 * 6)]) (st := []) b (k_X7_endOf hrw S 6 (x1.toNatClampNeg) (x5 / 6) (x5 - x5 / 6 * 6) _ h) cf_X7_endOf (kw_24 cy a rw S) rfl wm_X11_248 wi_X7_endOf ws_X7_endOf dX11_through_64 rfl (Nat.le_of_ble_eq_true rfl) ⟨by decide, by decide, Nat.le_of_ble_eq_true rfl, Nat.le_of_ble_eq_true rfl⟩) (fun r10 S11 h => ?_)
    refine z_istore (lv' := [(6, .int r10), (0, .ref (a 0)), (1, .int x1), (2, .int x2), (3, .int x3), (4, .int x4), (5, .int x5)]) b dX11_through_67 (by decide) rfl ?_
    refine z_iload b dX11_through_69 rfl ?_
    refine z_iconst (v := (-1)) b dX11_through_71 (by decide) ?_
    refine y_icmp_eq (tgt := 93) (xl := r10.toInt) (yl := (-1)) b rfl (by decide) dX11_through_72 (by decide) (fun c1 => ?_) (fun c1 => ?_)
    · replace h := h.1 c1
      refine z_lv0 (lv' := [(0, .ref (a 0)), (1, .int x1), (2, .int x2), (3, .int x3), (4, .int x4), (5, .int x5)]) [1, 2, 3, 4, 5, 6] rfl ?_
      exact z_X11_through_B93 hrw b hk37 hk99 _ _ _ _ _ _ h
    · replace h := h.2 c1
      refine z_iload_n b dX11_through_75 rfl rfl ?_
      refine z_iconst (v := (-1)) b dX11_through_76 (by decide) ?_
      refine y_icmp_eq (tgt := 86) (xl := x3.toInt) (yl := (-1)) b rfl (by decide) dX11_through_77 (by decide) (fun c1 => ?_) (fun c1 => ?_)
      · replace h := h.1 c1
        refine z_lv0 (lv' := [(0, .ref (a 0)), (1, .int x1), (2, .int x2), (5, .int x5), (6, .int r10)]) [1, 2, 3, 6, 0] rfl ?_
        exact z_X11_through_B86 hrw b hk37 hk99 _ _ _ _ _ h
      · replace h := h.2 c1
        refine z_iload b dX11_through_80 rfl ?_
        refine z_iload_n b dX11_through_82 rfl rfl ?_
        refine y_icmp_ge (tgt := 93) (xl := r10.toInt) (yl := x3.toInt) b rfl rfl dX11_through_83 (by decide) (fun c1 => ?_) (fun c1 => ?_)
        · replace h := h.1 c1
          refine z_lv0 (lv' := [(0, .ref (a 0)), (1, .int x1), (2, .int x2), (3, .int x3), (4, .int x4), (5, .int x5)]) [1, 2, 3, 4, 5, 6] rfl ?_
          exact z_X11_through_B93 hrw b hk37 hk99 _ _ _ _ _ _ h
        · replace h := h.2 c1
          refine z_lv0 (lv' := [(0, .ref (a 0)), (1, .int x1), (2, .int x2), (5, .int x5), (6, .int r10)]) [1, 2, 3, 6, 0] rfl ?_
          exact z_X11_through_B86 hrw b hk37 hk99 _ _ _ _ _ h

set_option maxHeartbeats 200000 in
set_option maxRecDepth 100000 in
theorem zl_X11_through_L37 {p : Program} {l : Launch} {e : Env} {R : Room} {s : State} {m : MethodId} {args : Array Value} {below : List Frame} {meth : Method} {c : Code} {D : va_G} {cy : Nat → ClassId} {T0 tB tE : Nat} {A : Nat → Prop} {a : Nat → Nat} {rw : Nat → Option Nat} (hrw : ∀ i, i < 6 → rw i = some (a (12 + 2 * i))) {post : Int32 → KS → Prop} {k99 : KS → Int32 → Int32 → Int32 → Prop} (b : Bz p R s m args meth c D cy T0 tB tE A 7 cX11_through RX11 (some .int) "through" 3 72 0 0) (hk99 : ∀ (S : KS) (x2 : Int32) (x3 : Int32) (x4 : Int32), k99 S x2 x3 x4 → Z p l e R s m args below meth c D A 7 (MQ below (QI D (U := KS) post (kw cy a rw) A) args s 0 0 A) 0 0 (kw cy a rw S) [(2, .int x2), (3, .int x3), (4, .int x4)] 99 []) : ∀ (n : Nat) (S : KS) (x1 : Int32) (x2 : Int32) (x3 : Int32) (x4 : Int32) (x5 : Int32), lpn (w_X11_through_F37 cy tE post k99) (fun _ _ _ _ _ _ => False) n S x1 x2 x3 x4 x5 → Z p l e R s m args below meth c D A 7 (MQ below (QI D (U := KS) post (kw cy a rw) A) args s 0 0 A) 0 0 (kw cy a rw S) [(0, .ref (a 0)), (1, .int x1), (2, .int x2), (3, .int x3), (4, .int x4), (5, .int x5)] 37 [] := by
  intro n
  induction n with
  | zero => intro _ _ _ _ _ _ h; exact h.elim
  | succ n ih => intro S x1 x2 x3 x4 x5 h; exact z_X11_through_F37 hrw b hk99 ih S x1 x2 x3 x4 x5 h

def w_X11_through_B108 (cy : Nat → ClassId) (tE : Nat) (post : Int32 → KS → Prop) (S : KS) (x3 : Int32) : Prop :=
  post x3 S

set_option maxHeartbeats 200000 in
set_option maxRecDepth 100000 in
theorem z_X11_through_B108 {p : Program} {l : Launch} {e : Env} {R : Room} {s : State} {m : MethodId} {args : Array Value} {below : List Frame} {meth : Method} {c : Code} {D : va_G} {cy : Nat → ClassId} {T0 tB tE : Nat} {A : Nat → Prop} {a : Nat → Nat} {rw : Nat → Option Nat} (hrw : ∀ i, i < 6 → rw i = some (a (12 + 2 * i))) {post : Int32 → KS → Prop} (b : Bz p R s m args meth c D cy T0 tB tE A 7 cX11_through RX11 (some .int) "through" 3 72 0 0) (S : KS) (x3 : Int32) (h : w_X11_through_B108 cy tE post S x3) : Z p l e R s m args below meth c D A 7 (MQ below (QI D (U := KS) post (kw cy a rw) A) args s 0 0 A) 0 0 (kw cy a rw S) [(3, .int x3)] 108 [] := by
  unfold w_X11_through_B108 at h
  refine z_iload_n b dX11_through_108 rfl rfl ?_
  exact z_iret (u := S) b rfl dX11_through_109 h rfl (by decide) (by decide)

def w_X11_through_B99 (cy : Nat → ClassId) (tE : Nat) (post : Int32 → KS → Prop) (S : KS) (x2 : Int32) (x3 : Int32) (x4 : Int32) : Prop :=
  ((x3.toInt = (-1) → w_X11_through_B108 cy tE post S x3) ∧ (x3.toInt ≠ (-1) → ((x2.toInt ≠ 0 → w_X11_digits cy tE S (x4 / 6) (fun r12 S13 => w_X11_digits cy tE S13 (x4 - x4 / 6 * 6) (fun r14 S15 => post (((1000 : Int32) * r12) + r14) S15))) ∧ (x2.toInt = 0 → w_X11_through_B108 cy tE post S x3))))

set_option maxHeartbeats 200000 in
set_option maxRecDepth 100000 in
theorem z_X11_through_B99 {p : Program} {l : Launch} {e : Env} {R : Room} {s : State} {m : MethodId} {args : Array Value} {below : List Frame} {meth : Method} {c : Code} {D : va_G} {cy : Nat → ClassId} {T0 tB tE : Nat} {A : Nat → Prop} {a : Nat → Nat} {rw : Nat → Option Nat} (hrw : ∀ i, i < 6 → rw i = some (a (12 + 2 * i))) {post : Int32 → KS → Prop} (b : Bz p R s m args meth c D cy T0 tB tE A 7 cX11_through RX11 (some .int) "through" 3 72 0 0) (S : KS) (x2 : Int32) (x3 : Int32) (x4 : Int32) (h : w_X11_through_B99 cy tE post S x2 x3 x4) : Z p l e R s m args below meth c D A 7 (MQ below (QI D (U := KS) post (kw cy a rw) A) args s 0 0 A) 0 0 (kw cy a rw S) [(2, .int x2), (3, .int x3), (4, .int x4)] 99 [] := by
  unfold w_X11_through_B99 at h
  refine z_iload_n b dX11_through_99 rfl rfl ?_
  refine z_iconst (v := (-1)) b dX11_through_100 (by decide) ?_
  refine y_icmp_eq (tgt := 108) (xl := x3.toInt) (yl := (-1)) b rfl (by decide) dX11_through_101 (by decide) (fun c1 => ?_) (fun c1 => ?_)
  · replace h := h.1 c1
    refine z_lv0 (lv' := [(3, .int x3)]) [1] rfl ?_
    exact z_X11_through_B108 hrw b _ _ h
  · replace h := h.2 c1
    refine z_iload_n b dX11_through_104 rfl rfl ?_
    refine y_if_ne (tgt := 110) (xl := x2.toInt) b rfl dX11_through_105 (by decide) (fun c1 => ?_) (fun c1 => ?_)
    · replace h := h.1 c1
      refine z_sipush (v := 1000) b dX11_through_110 (by decide) ?_
      refine z_iload b dX11_through_113 rfl ?_
      refine z_bipush (v := 6) b dX11_through_115 (by decide) ?_
      refine z_idiv b dX11_through_117 (by decide) rfl ?_
      refine z_calli b (z_runS (As := [.int (x4 / 6)]) (st := [.int 1000]) b (k_X11_digits hrw S (x4 / 6) _ h) cf_X11_digits wm_X11_252 ws_X11_digits dX11_through_118 rfl (Nat.le_of_ble_eq_true rfl) ⟨by decide, by decide, Nat.le_of_ble_eq_true rfl, Nat.le_of_ble_eq_true rfl⟩) (fun r12 S13 h => ?_)
      refine z_imul b dX11_through_121 rfl ?_
      refine z_iload b dX11_through_122 rfl ?_
      refine z_bipush (v := 6) b dX11_through_124 (by decide) ?_
      refine z_irem b dX11_through_126 (by decide) rfl ?_
      refine z_calli b (z_runS (As := [.int (x4 - x4 / 6 * 6)]) (st := [.int ((1000 : Int32) * r12)]) b (k_X11_digits hrw S13 (x4 - x4 / 6 * 6) _ h) cf_X11_digits wm_X11_252 ws_X11_digits dX11_through_127 rfl (Nat.le_of_ble_eq_true rfl) ⟨by decide, by decide, Nat.le_of_ble_eq_true rfl, Nat.le_of_ble_eq_true rfl⟩) (fun r14 S15 h => ?_)
      refine z_iadd b dX11_through_130 rfl ?_
      exact z_iret (u := S15) b rfl dX11_through_131 h rfl (by decide) (by decide)
    · replace h := h.2 c1
      refine z_lv0 (lv' := [(3, .int x3)]) [1] rfl ?_
      exact z_X11_through_B108 hrw b _ _ h

def w_X11_through (cy : Nat → ClassId) (tE : Nat) (S : KS) (p0 : Int32) (p1 : Int32) (post : Int32 → KS → Prop) : Prop :=
  w_X11_isRow cy tE S p0 (fun r1 S2 => ((r1.toInt = 0 → w_X11_through_B27 cy tE post S2) ∧ (r1.toInt ≠ 0 → (0 ≤ p0.toInt ∧ p0.toInt < 6) ∧ ((p0.toNatClampNeg) < 7) ∧ (((fi S2.1 (1 + 2 * (p0.toNatClampNeg))).toInt = 0 → w_X11_through_B27 cy tE post S2) ∧ ((fi S2.1 (1 + 2 * (p0.toNatClampNeg))).toInt ≠ 0 → w_X11_isWithin cy tE S2 p1 1 (fun r6 S7 => ((r6.toInt ≠ 0 → ∃ n, lpn (w_X11_through_F37 cy tE post (w_X11_through_B99 cy tE post)) (fun _ _ _ _ _ _ => False) n S7 p0 p1 (-1) (-1) 0) ∧ (r6.toInt = 0 → w_X11_through_B27 cy tE post S7))))))))

set_option maxHeartbeats 200000 in
set_option maxRecDepth 100000 in
theorem k_X11_through {l : Launch} {D : va_G} {cy : Nat → ClassId} {T0 tB tE : Nat} {a : Nat → Nat} {rw : Nat → Option Nat} (hrw : ∀ i, i < 6 → rw i = some (a (12 + 2 * i))) (S : KS) (p0 : Int32) (p1 : Int32) (post : Int32 → KS → Prop) (h : w_X11_through cy tE S p0 p1 post) : Ct l D cy T0 tB tE yX11_through cX11_through 7 (some .int) 3 72 0 0 (kw cy a rw S) [.ref (a 0), .int p0, .int p1] (QI D (U := KS) post (kw cy a rw)) := by
  refine Ct.ofZ RX11 "through" [(0, .ref (a 0)), (1, .int p0), (2, .int p1)] rfl rfl rfl rfl (Nat.le_of_ble_eq_true rfl) ?_
  intro p e R s m args below meth c A b
  unfold w_X11_through at h
  refine z_iload_n b dX11_through_0 rfl rfl ?_
  refine z_calli b (z_runS (As := [.int p0]) (st := []) b (k_X11_isRow hrw S p0 _ h) cf_X11_isRow wm_X11_169 ws_X11_isRow dX11_through_1 rfl (Nat.le_of_ble_eq_true rfl) ⟨by decide, by decide, Nat.le_of_ble_eq_true rfl, Nat.le_of_ble_eq_true rfl⟩) (fun r1 S2 h => ?_)
  refine y_if_eq (tgt := 27) (xl := r1.toInt) b rfl dX11_through_4 (by decide) (fun c1 => ?_) (fun c1 => ?_)
  · replace h := h.1 c1
    refine z_lv0 (lv' := []) [] rfl ?_
    exact z_X11_through_B27 hrw b _ h
  · replace h := h.2 c1
    refine z_aload_n b dX11_through_7 rfl rfl ?_
    refine z_get (q0 := 0) (k9 := 7) (v := .ref (a 46)) b (kw_0 cy a rw S2) rfl in_X11 (by decide) wf_X11_58 rfl dX11_through_8 ?_
    refine z_iload_n b dX11_through_11 rfl rfl ?_
    obtain ⟨g3, h⟩ := h
    refine y_aald (q0 := 46) (t0 := 4) (j := p0.toNatClampNeg) (v := .ref (a (12 + 2 * (p0.toNatClampNeg)))) b (kw_46 cy a rw S2) rfl (zx_r g3.1 g3.2) (by rw [hrw _ (zx_lt (zx_r g3.1 g3.2))]; rfl) dX11_through_12 ?_
    obtain ⟨g5, h⟩ := h
    refine z_get (q0 := 12 + 2 * (p0.toNatClampNeg)) (k9 := 1) (v := .int (fi S2.1 (1 + 2 * (p0.toNatClampNeg)))) b (kw_ro cy a rw S2 g5) rfl in_X7 (by decide) wf_X11_175 rfl dX11_through_13 ?_
    refine y_if_eq (tgt := 27) (xl := (fi S2.1 (1 + 2 * (p0.toNatClampNeg))).toInt) b rfl dX11_through_16 (by decide) (fun c1 => ?_) (fun c1 => ?_)
    · replace h := h.1 c1
      refine z_lv0 (lv' := []) [] rfl ?_
      exact z_X11_through_B27 hrw b _ h
    · replace h := h.2 c1
      refine z_iload_n b dX11_through_19 rfl rfl ?_
      refine z_iconst (v := 1) b dX11_through_20 (by decide) ?_
      refine z_calli b (z_runS (As := [.int p1, .int 1]) (st := []) b (k_X11_isWithin hrw S2 p1 1 _ h) cf_X11_isWithin wm_X11_73 ws_X11_isWithin dX11_through_21 rfl (Nat.le_of_ble_eq_true rfl) ⟨by decide, by decide, Nat.le_of_ble_eq_true rfl, Nat.le_of_ble_eq_true rfl⟩) (fun r6 S7 h => ?_)
      refine y_if_ne (tgt := 29) (xl := r6.toInt) b rfl dX11_through_24 (by decide) (fun c1 => ?_) (fun c1 => ?_)
      · replace h := h.1 c1
        refine z_iconst (v := (-1)) b dX11_through_29 (by decide) ?_
        refine z_istore_n (lv' := [(3, .int (-1)), (0, .ref (a 0)), (1, .int p0), (2, .int p1)]) b dX11_through_30 rfl (by decide) rfl ?_
        refine z_iconst (v := (-1)) b dX11_through_31 (by decide) ?_
        refine z_istore (lv' := [(4, .int (-1)), (3, .int (-1)), (0, .ref (a 0)), (1, .int p0), (2, .int p1)]) b dX11_through_32 (by decide) rfl ?_
        refine z_iconst (v := 0) b dX11_through_34 (by decide) ?_
        refine z_istore (lv' := [(5, .int 0), (4, .int (-1)), (3, .int (-1)), (0, .ref (a 0)), (1, .int p0), (2, .int p1)]) b dX11_through_35 (by decide) rfl ?_
        refine z_lv0 (lv' := [(0, .ref (a 0)), (1, .int p0), (2, .int p1), (3, .int (-1)), (4, .int (-1)), (5, .int 0)]) [3, 4, 5, 2, 1, 0] rfl ?_
        obtain ⟨n, h⟩ := h
        exact zl_X11_through_L37 hrw b (fun S x2 x3 x4 h => z_X11_through_B99 hrw b _ _ _ _ h) n _ _ _ _ _ _ h
      · replace h := h.2 c1
        refine z_lv0 (lv' := []) [] rfl ?_
        exact z_X11_through_B27 hrw b _ h

def w_X11_hole_B22 (cy : Nat → ClassId) (tE : Nat) (post : Int32 → KS → Prop) (S : KS)  : Prop :=
  post (-1) S

set_option maxHeartbeats 200000 in
set_option maxRecDepth 100000 in
theorem z_X11_hole_B22 {p : Program} {l : Launch} {e : Env} {R : Room} {s : State} {m : MethodId} {args : Array Value} {below : List Frame} {meth : Method} {c : Code} {D : va_G} {cy : Nat → ClassId} {T0 tB tE : Nat} {A : Nat → Prop} {a : Nat → Nat} {rw : Nat → Option Nat} (hrw : ∀ i, i < 6 → rw i = some (a (12 + 2 * i))) {post : Int32 → KS → Prop} (b : Bz p R s m args meth c D cy T0 tB tE A 7 cX11_hole RX11 (some .int) "hole" 6 146 0 0) (S : KS)  (h : w_X11_hole_B22 cy tE post S ) : Z p l e R s m args below meth c D A 7 (MQ below (QI D (U := KS) post (kw cy a rw) A) args s 0 0 A) 0 0 (kw cy a rw S) [] 22 [] := by
  unfold w_X11_hole_B22 at h
  refine z_iconst (v := (-1)) b dX11_hole_22 (by decide) ?_
  exact z_iret (u := S) b rfl dX11_hole_23 h rfl (by decide) (by decide)

def w_X11_hole_B47 (cy : Nat → ClassId) (tE : Nat) (post : Int32 → KS → Prop) (S : KS)  : Prop :=
  post (-1) S

set_option maxHeartbeats 200000 in
set_option maxRecDepth 100000 in
theorem z_X11_hole_B47 {p : Program} {l : Launch} {e : Env} {R : Room} {s : State} {m : MethodId} {args : Array Value} {below : List Frame} {meth : Method} {c : Code} {D : va_G} {cy : Nat → ClassId} {T0 tB tE : Nat} {A : Nat → Prop} {a : Nat → Nat} {rw : Nat → Option Nat} (hrw : ∀ i, i < 6 → rw i = some (a (12 + 2 * i))) {post : Int32 → KS → Prop} (b : Bz p R s m args meth c D cy T0 tB tE A 7 cX11_hole RX11 (some .int) "hole" 6 146 0 0) (S : KS)  (h : w_X11_hole_B47 cy tE post S ) : Z p l e R s m args below meth c D A 7 (MQ below (QI D (U := KS) post (kw cy a rw) A) args s 0 0 A) 0 0 (kw cy a rw S) [] 47 [] := by
  unfold w_X11_hole_B47 at h
  refine z_iconst (v := (-1)) b dX11_hole_47 (by decide) ?_
  exact z_iret (u := S) b rfl dX11_hole_48 h rfl (by decide) (by decide)

def w_X11_hole_B152 (cy : Nat → ClassId) (tE : Nat) (post : Int32 → KS → Prop) (S : KS) (y0 : Int32) : Prop :=
  post y0 S

set_option maxHeartbeats 200000 in
set_option maxRecDepth 100000 in
theorem z_X11_hole_B152 {p : Program} {l : Launch} {e : Env} {R : Room} {s : State} {m : MethodId} {args : Array Value} {below : List Frame} {meth : Method} {c : Code} {D : va_G} {cy : Nat → ClassId} {T0 tB tE : Nat} {A : Nat → Prop} {a : Nat → Nat} {rw : Nat → Option Nat} (hrw : ∀ i, i < 6 → rw i = some (a (12 + 2 * i))) {post : Int32 → KS → Prop} (b : Bz p R s m args meth c D cy T0 tB tE A 7 cX11_hole RX11 (some .int) "hole" 6 146 0 0) (S : KS) (y0 : Int32) (h : w_X11_hole_B152 cy tE post S y0) : Z p l e R s m args below meth c D A 7 (MQ below (QI D (U := KS) post (kw cy a rw) A) args s 0 0 A) 0 0 (kw cy a rw S) [] 152 [.int y0] := by
  unfold w_X11_hole_B152 at h
  exact z_iret (u := S) b rfl dX11_hole_152 h rfl (by decide) (by decide)

def w_X11_hole_B121 (cy : Nat → ClassId) (tE : Nat) (post : Int32 → KS → Prop) (S : KS) (y0 : Int32) : Prop :=
  post y0 S

set_option maxHeartbeats 200000 in
set_option maxRecDepth 100000 in
theorem z_X11_hole_B121 {p : Program} {l : Launch} {e : Env} {R : Room} {s : State} {m : MethodId} {args : Array Value} {below : List Frame} {meth : Method} {c : Code} {D : va_G} {cy : Nat → ClassId} {T0 tB tE : Nat} {A : Nat → Prop} {a : Nat → Nat} {rw : Nat → Option Nat} (hrw : ∀ i, i < 6 → rw i = some (a (12 + 2 * i))) {post : Int32 → KS → Prop} (b : Bz p R s m args meth c D cy T0 tB tE A 7 cX11_hole RX11 (some .int) "hole" 6 146 0 0) (S : KS) (y0 : Int32) (h : w_X11_hole_B121 cy tE post S y0) : Z p l e R s m args below meth c D A 7 (MQ below (QI D (U := KS) post (kw cy a rw) A) args s 0 0 A) 0 0 (kw cy a rw S) [] 121 [.int y0] := by
  unfold w_X11_hole_B121 at h
  exact z_iret (u := S) b rfl dX11_hole_121 h rfl (by decide) (by decide)

def w_X11_hole_B98 (cy : Nat → ClassId) (tE : Nat) (post : Int32 → KS → Prop) (S : KS) (y0 : Int32) : Prop :=
  post y0 S

set_option maxHeartbeats 200000 in
set_option maxRecDepth 100000 in
theorem z_X11_hole_B98 {p : Program} {l : Launch} {e : Env} {R : Room} {s : State} {m : MethodId} {args : Array Value} {below : List Frame} {meth : Method} {c : Code} {D : va_G} {cy : Nat → ClassId} {T0 tB tE : Nat} {A : Nat → Prop} {a : Nat → Nat} {rw : Nat → Option Nat} (hrw : ∀ i, i < 6 → rw i = some (a (12 + 2 * i))) {post : Int32 → KS → Prop} (b : Bz p R s m args meth c D cy T0 tB tE A 7 cX11_hole RX11 (some .int) "hole" 6 146 0 0) (S : KS) (y0 : Int32) (h : w_X11_hole_B98 cy tE post S y0) : Z p l e R s m args below meth c D A 7 (MQ below (QI D (U := KS) post (kw cy a rw) A) args s 0 0 A) 0 0 (kw cy a rw S) [] 98 [.int y0] := by
  unfold w_X11_hole_B98 at h
  exact z_iret (u := S) b rfl dX11_hole_98 h rfl (by decide) (by decide)

def w_X11_hole (cy : Nat → ClassId) (tE : Nat) (S : KS) (p0 : Int32) (p1 : Int32) (p2 : Int32) (p3 : Int32) (p4 : Int32) (post : Int32 → KS → Prop) : Prop :=
  w_X11_isNever cy tE S p0 (fun r1 S2 => ((r1.toInt = 0 → w_X11_hole_B22 cy tE post S2) ∧ (r1.toInt ≠ 0 → w_X11_areLaws cy tE S2 p1 (fun r3 S4 => ((r3.toInt = 0 → w_X11_hole_B22 cy tE post S4) ∧ (r3.toInt ≠ 0 → w_X11_isDepth cy tE S4 p2 (fun r5 S6 => ((r5.toInt ≠ 0 → ((p3.toInt < 1 → w_X11_hole_B47 cy tE post S6) ∧ (1 ≤ p3.toInt → ((7 < p3.toInt → w_X11_hole_B47 cy tE post S6) ∧ (p3.toInt ≤ 7 → w_X11_isWithin cy tE S6 p4 20 (fun r7 S8 => ((r7.toInt ≠ 0 → w_X8_begin cy tE S8 p1 p2 p3 0 (fun S10 => w_X8_first cy tE S10 p0 (fun r11 S12 => ((p4.toInt ≠ 20 → ((r11.toInt ≠ (-1) → ((p4.toInt ≠ 0 → w_X8_code cy tE S12 r11 (p4 - 1) (fun r13 S14 => w_X11_hole_B152 cy tE post S14 r13)) ∧ (p4.toInt = 0 → w_X8_acts cy tE S12 r11 (fun r15 S16 => w_X11_hole_B152 cy tE post S16 r15)))) ∧ (r11.toInt = (-1) → (((fi S12.1 34).toInt = 0 → w_X11_hole_B121 cy tE post S12 (-1)) ∧ ((fi S12.1 34).toInt ≠ 0 → w_X11_hole_B121 cy tE post S12 (-2)))))) ∧ (p4.toInt = 20 → ((r11.toInt ≠ (-1) → w_X11_hole_B98 cy tE post S12 (r11 + 1)) ∧ (r11.toInt = (-1) → w_X11_hole_B98 cy tE post S12 (fi S12.1 33)))))))) ∧ (r7.toInt = 0 → w_X11_hole_B47 cy tE post S8)))))))) ∧ (r5.toInt = 0 → w_X11_hole_B22 cy tE post S6)))))))))

set_option maxHeartbeats 200000 in
set_option maxRecDepth 100000 in
theorem k_X11_hole {l : Launch} {D : va_G} {cy : Nat → ClassId} {T0 tB tE : Nat} {a : Nat → Nat} {rw : Nat → Option Nat} (hrw : ∀ i, i < 6 → rw i = some (a (12 + 2 * i))) (S : KS) (p0 : Int32) (p1 : Int32) (p2 : Int32) (p3 : Int32) (p4 : Int32) (post : Int32 → KS → Prop) (h : w_X11_hole cy tE S p0 p1 p2 p3 p4 post) : Ct l D cy T0 tB tE yX11_hole cX11_hole 7 (some .int) 6 146 0 0 (kw cy a rw S) [.ref (a 0), .int p0, .int p1, .int p2, .int p3, .int p4] (QI D (U := KS) post (kw cy a rw)) := by
  refine Ct.ofZ RX11 "hole" [(0, .ref (a 0)), (1, .int p0), (2, .int p1), (3, .int p2), (4, .int p3), (5, .int p4)] rfl rfl rfl rfl (Nat.le_of_ble_eq_true rfl) ?_
  intro p e R s m args below meth c A b
  unfold w_X11_hole at h
  refine z_aload_n b dX11_hole_0 rfl rfl ?_
  refine z_iload_n b dX11_hole_1 rfl rfl ?_
  refine z_calli b (z_runV (q0 := 0) (As := [.int p0]) (st := []) b (k_X11_isNever hrw S p0 _ h) cf_X11_isNever (kw_0 cy a rw S) rfl wm_X11_200 wi_X11_isNever ws_X11_isNever dX11_hole_2 rfl (Nat.le_of_ble_eq_true rfl) ⟨by decide, by decide, Nat.le_of_ble_eq_true rfl, Nat.le_of_ble_eq_true rfl⟩) (fun r1 S2 h => ?_)
  refine y_if_eq (tgt := 22) (xl := r1.toInt) b rfl dX11_hole_5 (by decide) (fun c1 => ?_) (fun c1 => ?_)
  · replace h := h.1 c1
    refine z_lv0 (lv' := []) [] rfl ?_
    exact z_X11_hole_B22 hrw b _ h
  · replace h := h.2 c1
    refine z_iload_n b dX11_hole_8 rfl rfl ?_
    refine z_calli b (z_runS (As := [.int p1]) (st := []) b (k_X11_areLaws hrw S2 p1 _ h) cf_X11_areLaws wm_X11_181 ws_X11_areLaws dX11_hole_9 rfl (Nat.le_of_ble_eq_true rfl) ⟨by decide, by decide, Nat.le_of_ble_eq_true rfl, Nat.le_of_ble_eq_true rfl⟩) (fun r3 S4 h => ?_)
    refine y_if_eq (tgt := 22) (xl := r3.toInt) b rfl dX11_hole_12 (by decide) (fun c1 => ?_) (fun c1 => ?_)
    · replace h := h.1 c1
      refine z_lv0 (lv' := []) [] rfl ?_
      exact z_X11_hole_B22 hrw b _ h
    · replace h := h.2 c1
      refine z_iload_n b dX11_hole_15 rfl rfl ?_
      refine z_calli b (z_runS (As := [.int p2]) (st := []) b (k_X11_isDepth hrw S4 p2 _ h) cf_X11_isDepth wm_X11_203 ws_X11_isDepth dX11_hole_16 rfl (Nat.le_of_ble_eq_true rfl) ⟨by decide, by decide, Nat.le_of_ble_eq_true rfl, Nat.le_of_ble_eq_true rfl⟩) (fun r5 S6 h => ?_)
      refine y_if_ne (tgt := 24) (xl := r5.toInt) b rfl dX11_hole_19 (by decide) (fun c1 => ?_) (fun c1 => ?_)
      · replace h := h.1 c1
        refine z_iload b dX11_hole_24 rfl ?_
        refine z_iconst (v := 1) b dX11_hole_26 (by decide) ?_
        refine y_icmp_lt (tgt := 47) (xl := p3.toInt) (yl := 1) b rfl (by decide) dX11_hole_27 (by decide) (fun c1 => ?_) (fun c1 => ?_)
        · replace h := h.1 c1
          refine z_lv0 (lv' := []) [] rfl ?_
          exact z_X11_hole_B47 hrw b _ h
        · replace h := h.2 c1
          refine z_iload b dX11_hole_30 rfl ?_
          refine z_bipush (v := 7) b dX11_hole_32 (by decide) ?_
          refine y_icmp_gt (tgt := 47) (xl := p3.toInt) (yl := 7) b rfl (by decide) dX11_hole_34 (by decide) (fun c1 => ?_) (fun c1 => ?_)
          · replace h := h.1 c1
            refine z_lv0 (lv' := []) [] rfl ?_
            exact z_X11_hole_B47 hrw b _ h
          · replace h := h.2 c1
            refine z_iload b dX11_hole_37 rfl ?_
            refine z_bipush (v := 20) b dX11_hole_39 (by decide) ?_
            refine z_calli b (z_runS (As := [.int p4, .int 20]) (st := []) b (k_X11_isWithin hrw S6 p4 20 _ h) cf_X11_isWithin wm_X11_73 ws_X11_isWithin dX11_hole_41 rfl (Nat.le_of_ble_eq_true rfl) ⟨by decide, by decide, Nat.le_of_ble_eq_true rfl, Nat.le_of_ble_eq_true rfl⟩) (fun r7 S8 h => ?_)
            refine y_if_ne (tgt := 49) (xl := r7.toInt) b rfl dX11_hole_44 (by decide) (fun c1 => ?_) (fun c1 => ?_)
            · replace h := h.1 c1
              refine z_aload_n b dX11_hole_49 rfl rfl ?_
              refine z_get (q0 := 0) (k9 := 6) (v := .ref (a 38)) b (kw_0 cy a rw S8) rfl in_X11 (by decide) wf_X11_52 rfl dX11_hole_50 ?_
              refine z_iload_n b dX11_hole_53 rfl rfl ?_
              refine z_iload_n b dX11_hole_54 rfl rfl ?_
              refine z_iload b dX11_hole_55 rfl ?_
              refine z_iconst (v := 0) b dX11_hole_57 (by decide) ?_
              refine z_callv b (z_runV (q0 := 38) (As := [.int p1, .int p2, .int p3, .int 0]) (st := []) b (k_X8_begin hrw S8 p1 p2 p3 0 _ h) cf_X8_begin (kw_38 cy a rw S8) rfl wm_X11_206 wi_X8_begin ws_X8_begin dX11_hole_58 rfl (Nat.le_of_ble_eq_true rfl) ⟨by decide, by decide, Nat.le_of_ble_eq_true rfl, Nat.le_of_ble_eq_true rfl⟩) (fun S10 h => ?_)
              refine z_aload_n b dX11_hole_61 rfl rfl ?_
              refine z_get (q0 := 0) (k9 := 6) (v := .ref (a 38)) b (kw_0 cy a rw S10) rfl in_X11 (by decide) wf_X11_52 rfl dX11_hole_62 ?_
              refine z_iload_n b dX11_hole_65 rfl rfl ?_
              refine z_calli b (z_runV (q0 := 38) (As := [.int p0]) (st := []) b (k_X8_first hrw S10 p0 _ h) cf_X8_first (kw_38 cy a rw S10) rfl wm_X11_210 wi_X8_first ws_X8_first dX11_hole_66 rfl (Nat.le_of_ble_eq_true rfl) ⟨by decide, by decide, Nat.le_of_ble_eq_true rfl, Nat.le_of_ble_eq_true rfl⟩) (fun r11 S12 h => ?_)
              refine z_istore (lv' := [(6, .int r11), (0, .ref (a 0)), (1, .int p0), (2, .int p1), (3, .int p2), (4, .int p3), (5, .int p4)]) b dX11_hole_69 (by decide) rfl ?_
              refine z_iload b dX11_hole_71 rfl ?_
              refine z_bipush (v := 20) b dX11_hole_73 (by decide) ?_
              refine y_icmp_ne (tgt := 99) (xl := p4.toInt) (yl := 20) b rfl (by decide) dX11_hole_75 (by decide) (fun c1 => ?_) (fun c1 => ?_)
              · replace h := h.1 c1
                refine z_iload b dX11_hole_99 rfl ?_
                refine z_iconst (v := (-1)) b dX11_hole_101 (by decide) ?_
                refine y_icmp_ne (tgt := 122) (xl := r11.toInt) (yl := (-1)) b rfl (by decide) dX11_hole_102 (by decide) (fun c1 => ?_) (fun c1 => ?_)
                · replace h := h.1 c1
                  refine z_iload b dX11_hole_122 rfl ?_
                  refine y_if_ne (tgt := 139) (xl := p4.toInt) b rfl dX11_hole_124 (by decide) (fun c1 => ?_) (fun c1 => ?_)
                  · replace h := h.1 c1
                    refine z_aload_n b dX11_hole_139 rfl rfl ?_
                    refine z_get (q0 := 0) (k9 := 6) (v := .ref (a 38)) b (kw_0 cy a rw S12) rfl in_X11 (by decide) wf_X11_52 rfl dX11_hole_140 ?_
                    refine z_iload b dX11_hole_143 rfl ?_
                    refine z_iload b dX11_hole_145 rfl ?_
                    refine z_iconst (v := 1) b dX11_hole_147 (by decide) ?_
                    refine z_isub b dX11_hole_148 rfl ?_
                    refine z_calli b (z_runV (q0 := 38) (As := [.int r11, .int (p4 - 1)]) (st := []) b (k_X8_code hrw S12 r11 (p4 - 1) _ h) cf_X8_code (kw_38 cy a rw S12) rfl wm_X11_219 wi_X8_code ws_X8_code dX11_hole_149 rfl (Nat.le_of_ble_eq_true rfl) ⟨by decide, by decide, Nat.le_of_ble_eq_true rfl, Nat.le_of_ble_eq_true rfl⟩) (fun r13 S14 h => ?_)
                    refine z_lv0 (lv' := []) [] rfl ?_
                    exact z_X11_hole_B152 hrw b _ _ h
                  · replace h := h.2 c1
                    refine z_aload_n b dX11_hole_127 rfl rfl ?_
                    refine z_get (q0 := 0) (k9 := 6) (v := .ref (a 38)) b (kw_0 cy a rw S12) rfl in_X11 (by decide) wf_X11_52 rfl dX11_hole_128 ?_
                    refine z_iload b dX11_hole_131 rfl ?_
                    refine z_calli b (z_runV (q0 := 38) (As := [.int r11]) (st := []) b (k_X8_acts hrw S12 r11 _ h) cf_X8_acts (kw_38 cy a rw S12) rfl wm_X11_217 wi_X8_acts ws_X8_acts dX11_hole_133 rfl (Nat.le_of_ble_eq_true rfl) ⟨by decide, by decide, Nat.le_of_ble_eq_true rfl, Nat.le_of_ble_eq_true rfl⟩) (fun r15 S16 h => ?_)
                    refine z_goto (tgt := 152) b dX11_hole_136 (by decide) ?_
                    refine z_lv0 (lv' := []) [] rfl ?_
                    exact z_X11_hole_B152 hrw b _ _ h
                · replace h := h.2 c1
                  refine z_aload_n b dX11_hole_105 rfl rfl ?_
                  refine z_get (q0 := 0) (k9 := 6) (v := .ref (a 38)) b (kw_0 cy a rw S12) rfl in_X11 (by decide) wf_X11_52 rfl dX11_hole_106 ?_
                  refine z_get (q0 := 38) (k9 := 18) (v := .int (fi S12.1 34)) b (kw_38 cy a rw S12) rfl in_X8 (by decide) wf_X11_214 rfl dX11_hole_109 ?_
                  refine y_if_eq (tgt := 120) (xl := (fi S12.1 34).toInt) b rfl dX11_hole_112 (by decide) (fun c1 => ?_) (fun c1 => ?_)
                  · replace h := h.1 c1
                    refine z_iconst (v := (-1)) b dX11_hole_120 (by decide) ?_
                    refine z_lv0 (lv' := []) [] rfl ?_
                    exact z_X11_hole_B121 hrw b _ _ h
                  · replace h := h.2 c1
                    refine z_bipush (v := (-2)) b dX11_hole_115 (by decide) ?_
                    refine z_goto (tgt := 121) b dX11_hole_117 (by decide) ?_
                    refine z_lv0 (lv' := []) [] rfl ?_
                    exact z_X11_hole_B121 hrw b _ _ h
              · replace h := h.2 c1
                refine z_iload b dX11_hole_78 rfl ?_
                refine z_iconst (v := (-1)) b dX11_hole_80 (by decide) ?_
                refine y_icmp_ne (tgt := 94) (xl := r11.toInt) (yl := (-1)) b rfl (by decide) dX11_hole_81 (by decide) (fun c1 => ?_) (fun c1 => ?_)
                · replace h := h.1 c1
                  refine z_iload b dX11_hole_94 rfl ?_
                  refine z_iconst (v := 1) b dX11_hole_96 (by decide) ?_
                  refine z_iadd b dX11_hole_97 rfl ?_
                  refine z_lv0 (lv' := []) [] rfl ?_
                  exact z_X11_hole_B98 hrw b _ _ h
                · replace h := h.2 c1
                  refine z_aload_n b dX11_hole_84 rfl rfl ?_
                  refine z_get (q0 := 0) (k9 := 6) (v := .ref (a 38)) b (kw_0 cy a rw S12) rfl in_X11 (by decide) wf_X11_52 rfl dX11_hole_85 ?_
                  refine z_get (q0 := 38) (k9 := 17) (v := .int (fi S12.1 33)) b (kw_38 cy a rw S12) rfl in_X8 (by decide) wf_X11_213 rfl dX11_hole_88 ?_
                  refine z_goto (tgt := 98) b dX11_hole_91 (by decide) ?_
                  refine z_lv0 (lv' := []) [] rfl ?_
                  exact z_X11_hole_B98 hrw b _ _ h
            · replace h := h.2 c1
              refine z_lv0 (lv' := []) [] rfl ?_
              exact z_X11_hole_B47 hrw b _ h
      · replace h := h.2 c1
        refine z_lv0 (lv' := []) [] rfl ?_
        exact z_X11_hole_B22 hrw b _ h

