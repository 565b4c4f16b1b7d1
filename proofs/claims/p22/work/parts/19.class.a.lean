def w_X8_forget (cy : Nat → ClassId) (tE : Nat) (S : KS)  (post : KS → Prop) : Prop :=
  post (ksi S 32 0)

set_option maxHeartbeats 200000 in
set_option maxRecDepth 100000 in
theorem k_X8_forget {l : Launch} {D : va_G} {cy : Nat → ClassId} {T0 tB tE : Nat} {a : Nat → Nat} {rw : Nat → Option Nat} (hrw : ∀ i, i < 6 → rw i = some (a (12 + 2 * i))) (S : KS)  (post : KS → Prop) (h : w_X8_forget cy tE S  post) : Ct l D cy T0 tB tE yX8_forget cX8_forget 1 none 0 0 0 0 (kw cy a rw S) [.ref (a 38)] (QV D (U := KS) post (kw cy a rw)) := by
  refine Ct.ofZ RX8 "forget" [(0, .ref (a 38))] rfl rfl rfl rfl (Nat.le_of_ble_eq_true rfl) ?_
  intro p e R s m args below meth c A b
  unfold w_X8_forget at h
  refine z_aload_n b dX8_forget_0 rfl rfl ?_
  refine z_iconst (v := 0) b dX8_forget_1 (by decide) ?_
  refine z_put (q0 := 38) (k9 := 16) tyX8 b (kw_38 cy a rw S) rfl in_X8 tyX8_ok nmX8 (by decide) wf_X8_60 rfl rfl rfl rfl (Nat.le_of_ble_eq_true rfl) dX8_forget_2 (kwp_38_16 cy a rw S 0) ?_
  exact z_vret (u := (ksi S 32 0)) b rfl dX8_forget_5 h rfl (by decide) (by decide)

def w_X11_thingOf (cy : Nat → ClassId) (tE : Nat) (S : KS) (p0 : Int32) (post : Int32 → KS → Prop) : Prop :=
  post (p0 &&& 3) S

set_option maxHeartbeats 200000 in
set_option maxRecDepth 100000 in
theorem k_X11_thingOf {l : Launch} {D : va_G} {cy : Nat → ClassId} {T0 tB tE : Nat} {a : Nat → Nat} {rw : Nat → Option Nat} (hrw : ∀ i, i < 6 → rw i = some (a (12 + 2 * i))) (S : KS) (p0 : Int32) (post : Int32 → KS → Prop) (h : w_X11_thingOf cy tE S p0 post) : Ct l D cy T0 tB tE yX11_thingOf cX11_thingOf 1 (some .int) 0 0 0 0 (kw cy a rw S) [.int p0] (QI D (U := KS) post (kw cy a rw)) := by
  refine Ct.ofZ RX11 "thingOf" [(0, .int p0)] rfl rfl rfl rfl (Nat.le_of_ble_eq_true rfl) ?_
  intro p e R s m args below meth c A b
  unfold w_X11_thingOf at h
  refine z_iload_n b dX11_thingOf_0 rfl rfl ?_
  refine z_iconst (v := 3) b dX11_thingOf_1 (by decide) ?_
  refine z_iand b dX11_thingOf_2 rfl ?_
  exact z_iret (u := S) b rfl dX11_thingOf_3 h rfl (by decide) (by decide)

def w_X9_coinShift (cy : Nat → ClassId) (tE : Nat) (S : KS) (p0 : Int32) (post : Int32 → KS → Prop) : Prop :=
  post ((4 : Int32) + ((4 : Int32) * p0)) S

set_option maxHeartbeats 200000 in
set_option maxRecDepth 100000 in
theorem k_X9_coinShift {l : Launch} {D : va_G} {cy : Nat → ClassId} {T0 tB tE : Nat} {a : Nat → Nat} {rw : Nat → Option Nat} (hrw : ∀ i, i < 6 → rw i = some (a (12 + 2 * i))) (S : KS) (p0 : Int32) (post : Int32 → KS → Prop) (h : w_X9_coinShift cy tE S p0 post) : Ct l D cy T0 tB tE yX9_coinShift cX9_coinShift 1 (some .int) 0 0 0 0 (kw cy a rw S) [.int p0] (QI D (U := KS) post (kw cy a rw)) := by
  refine Ct.ofZ RX9 "coinShift" [(0, .int p0)] rfl rfl rfl rfl (Nat.le_of_ble_eq_true rfl) ?_
  intro p e R s m args below meth c A b
  unfold w_X9_coinShift at h
  refine z_iconst (v := 4) b dX9_coinShift_0 (by decide) ?_
  refine z_iconst (v := 4) b dX9_coinShift_1 (by decide) ?_
  refine z_iload_n b dX9_coinShift_2 rfl rfl ?_
  refine z_imul b dX9_coinShift_3 rfl ?_
  refine z_iadd b dX9_coinShift_4 rfl ?_
  exact z_iret (u := S) b rfl dX9_coinShift_5 h rfl (by decide) (by decide)

def w_X9_ownerShift (cy : Nat → ClassId) (tE : Nat) (S : KS) (p0 : Int32) (post : Int32 → KS → Prop) : Prop :=
  post ((16 : Int32) + ((2 : Int32) * p0)) S

set_option maxHeartbeats 200000 in
set_option maxRecDepth 100000 in
theorem k_X9_ownerShift {l : Launch} {D : va_G} {cy : Nat → ClassId} {T0 tB tE : Nat} {a : Nat → Nat} {rw : Nat → Option Nat} (hrw : ∀ i, i < 6 → rw i = some (a (12 + 2 * i))) (S : KS) (p0 : Int32) (post : Int32 → KS → Prop) (h : w_X9_ownerShift cy tE S p0 post) : Ct l D cy T0 tB tE yX9_ownerShift cX9_ownerShift 1 (some .int) 0 0 0 0 (kw cy a rw S) [.int p0] (QI D (U := KS) post (kw cy a rw)) := by
  refine Ct.ofZ RX9 "ownerShift" [(0, .int p0)] rfl rfl rfl rfl (Nat.le_of_ble_eq_true rfl) ?_
  intro p e R s m args below meth c A b
  unfold w_X9_ownerShift at h
  refine z_bipush (v := 16) b dX9_ownerShift_0 (by decide) ?_
  refine z_iconst (v := 2) b dX9_ownerShift_2 (by decide) ?_
  refine z_iload_n b dX9_ownerShift_3 rfl rfl ?_
  refine z_imul b dX9_ownerShift_4 rfl ?_
  refine z_iadd b dX9_ownerShift_5 rfl ?_
  exact z_iret (u := S) b rfl dX9_ownerShift_6 h rfl (by decide) (by decide)

def w_X11_doerOf (cy : Nat → ClassId) (tE : Nat) (S : KS) (p0 : Int32) (post : Int32 → KS → Prop) : Prop :=
  post ((p0 >>> ((4 : Int32) &&& 31)) &&& 3) S

set_option maxHeartbeats 200000 in
set_option maxRecDepth 100000 in
theorem k_X11_doerOf {l : Launch} {D : va_G} {cy : Nat → ClassId} {T0 tB tE : Nat} {a : Nat → Nat} {rw : Nat → Option Nat} (hrw : ∀ i, i < 6 → rw i = some (a (12 + 2 * i))) (S : KS) (p0 : Int32) (post : Int32 → KS → Prop) (h : w_X11_doerOf cy tE S p0 post) : Ct l D cy T0 tB tE yX11_doerOf cX11_doerOf 1 (some .int) 0 0 0 0 (kw cy a rw S) [.int p0] (QI D (U := KS) post (kw cy a rw)) := by
  refine Ct.ofZ RX11 "doerOf" [(0, .int p0)] rfl rfl rfl rfl (Nat.le_of_ble_eq_true rfl) ?_
  intro p e R s m args below meth c A b
  unfold w_X11_doerOf at h
  refine z_iload_n b dX11_doerOf_0 rfl rfl ?_
  refine z_iconst (v := 4) b dX11_doerOf_1 (by decide) ?_
  refine z_ishr b dX11_doerOf_2 rfl ?_
  refine z_iconst (v := 3) b dX11_doerOf_3 (by decide) ?_
  refine z_iand b dX11_doerOf_4 rfl ?_
  exact z_iret (u := S) b rfl dX11_doerOf_5 h rfl (by decide) (by decide)

def w_X11_otherOf (cy : Nat → ClassId) (tE : Nat) (S : KS) (p0 : Int32) (post : Int32 → KS → Prop) : Prop :=
  post ((p0 >>> ((2 : Int32) &&& 31)) &&& 3) S

set_option maxHeartbeats 200000 in
set_option maxRecDepth 100000 in
theorem k_X11_otherOf {l : Launch} {D : va_G} {cy : Nat → ClassId} {T0 tB tE : Nat} {a : Nat → Nat} {rw : Nat → Option Nat} (hrw : ∀ i, i < 6 → rw i = some (a (12 + 2 * i))) (S : KS) (p0 : Int32) (post : Int32 → KS → Prop) (h : w_X11_otherOf cy tE S p0 post) : Ct l D cy T0 tB tE yX11_otherOf cX11_otherOf 1 (some .int) 0 0 0 0 (kw cy a rw S) [.int p0] (QI D (U := KS) post (kw cy a rw)) := by
  refine Ct.ofZ RX11 "otherOf" [(0, .int p0)] rfl rfl rfl rfl (Nat.le_of_ble_eq_true rfl) ?_
  intro p e R s m args below meth c A b
  unfold w_X11_otherOf at h
  refine z_iload_n b dX11_otherOf_0 rfl rfl ?_
  refine z_iconst (v := 2) b dX11_otherOf_1 (by decide) ?_
  refine z_ishr b dX11_otherOf_2 rfl ?_
  refine z_iconst (v := 3) b dX11_otherOf_3 (by decide) ?_
  refine z_iand b dX11_otherOf_4 rfl ?_
  exact z_iret (u := S) b rfl dX11_otherOf_5 h rfl (by decide) (by decide)

def w_X3_init (cy : Nat → ClassId) (tE : Nat) (S : KS) (p9 : Nat) (p0 : Int32) (p1 : Nat) (post : KS → Prop) : Prop :=
  ∃ (i1 : Nat) (f2 : Int32) (f3 : Value), S.2.2.2[i1]? = some (p9, .inr (4, [.int f2, f3])) ∧ ∃ (i5 : Nat) (f6 : Int32) (f7 : Value), (S.2.2.2.set i1 (p9, .inr (4, [.int p0, f3])))[i5]? = some (p9, .inr (4, [.int f6, f7])) ∧ post (ksL (ksL S (S.2.2.2.set i1 (p9, .inr (4, [.int p0, f3])))) ((S.2.2.2.set i1 (p9, .inr (4, [.int p0, f3]))).set i5 (p9, .inr (4, [.int f6, .ref p1]))))

set_option maxHeartbeats 200000 in
set_option maxRecDepth 100000 in
theorem k_X3_init {l : Launch} {D : va_G} {cy : Nat → ClassId} {T0 tB tE : Nat} {a : Nat → Nat} {rw : Nat → Option Nat} (hrw : ∀ i, i < 6 → rw i = some (a (12 + 2 * i))) (S : KS) (p9 : Nat) (p0 : Int32) (p1 : Nat) (post : KS → Prop) (h : w_X3_init cy tE S p9 p0 p1 post) : Ct l D cy T0 tB tE yX3_init cX3_init 3 none 1 20 0 0 (kw cy a rw S) [.ref p9, .int p0, .ref p1] (QV D (U := KS) post (kw cy a rw)) := by
  refine Ct.ofZ RX3 "<init>" [(0, .ref p9), (1, .int p0), (2, .ref p1)] rfl rfl rfl rfl (Nat.le_of_ble_eq_true rfl) ?_
  intro p e R s m args below meth c A b
  unfold w_X3_init at h
  refine z_aload_n b dX3_init_0 rfl rfl ?_
  refine z_objInit b wm_X3_1 wi_objInit wc_objInit dX3_init_1 (by decide) (Nat.le_of_ble_eq_true rfl) ?_
  refine z_aload_n b dX3_init_4 rfl rfl ?_
  refine z_iload_n b dX3_init_5 rfl rfl ?_
  obtain ⟨i1, f2, f3, g4, h⟩ := h
  refine z_putF (q0 := 47 + i1) (k9 := 0) tyX3 b (kw_dyn cy a rw S g4) rfl in_X3 tyX3_ok nmX3 (by decide) wf_X3_7 rfl rfl rfl rfl rfl rfl (Nat.le_of_ble_eq_true rfl) dX3_init_6 (kw_dset cy a rw S i1 (p9, .inr (4, [.int p0, f3]))) ?_
  refine z_aload_n b dX3_init_9 rfl rfl ?_
  refine z_aload_n b dX3_init_10 rfl rfl ?_
  obtain ⟨i5, f6, f7, g8, h⟩ := h
  refine z_putF (q0 := 47 + i5) (k9 := 1) tyX3 b (kw_dyn cy a rw (ksL S (S.2.2.2.set i1 (p9, .inr (4, [.int p0, f3])))) g8) rfl in_X3 tyX3_ok nmX3 (by decide) wf_X3_13 rfl rfl rfl rfl rfl rfl (Nat.le_of_ble_eq_true rfl) dX3_init_11 (kw_dset cy a rw (ksL S (S.2.2.2.set i1 (p9, .inr (4, [.int p0, f3])))) i5 (p9, .inr (4, [.int f6, .ref p1]))) ?_
  exact z_vret (u := (ksL (ksL S (S.2.2.2.set i1 (p9, .inr (4, [.int p0, f3])))) ((S.2.2.2.set i1 (p9, .inr (4, [.int p0, f3]))).set i5 (p9, .inr (4, [.int f6, .ref p1]))))) b rfl dX3_init_14 h rfl (by decide) (by decide)

def w_X11_isWithin_B14 (cy : Nat → ClassId) (tE : Nat) (post : Int32 → KS → Prop) (S : KS) (y0 : Int32) : Prop :=
  (y0 = 0 ∨ y0 = 1) ∧ post y0 S

set_option maxHeartbeats 200000 in
set_option maxRecDepth 100000 in
theorem z_X11_isWithin_B14 {p : Program} {l : Launch} {e : Env} {R : Room} {s : State} {m : MethodId} {args : Array Value} {below : List Frame} {meth : Method} {c : Code} {D : va_G} {cy : Nat → ClassId} {T0 tB tE : Nat} {A : Nat → Prop} {a : Nat → Nat} {rw : Nat → Option Nat} (hrw : ∀ i, i < 6 → rw i = some (a (12 + 2 * i))) {post : Int32 → KS → Prop} (b : Bz p R s m args meth c D cy T0 tB tE A 2 cX11_isWithin RX11 (some .boolean) "isWithin" 0 0 0 0) (S : KS) (y0 : Int32) (h : w_X11_isWithin_B14 cy tE post S y0) : Z p l e R s m args below meth c D A 2 (MQ below (QI D (U := KS) post (kw cy a rw) A) args s 0 0 A) 0 0 (kw cy a rw S) [] 14 [.int y0] := by
  unfold w_X11_isWithin_B14 at h
  obtain ⟨g1, h⟩ := h
  exact z_zret (u := S) b rfl (z_bool g1) dX11_isWithin_14 h rfl (by decide) (by decide)

def w_X11_isWithin_B13 (cy : Nat → ClassId) (tE : Nat) (post : Int32 → KS → Prop) (S : KS)  : Prop :=
  w_X11_isWithin_B14 cy tE post S 0

set_option maxHeartbeats 200000 in
set_option maxRecDepth 100000 in
theorem z_X11_isWithin_B13 {p : Program} {l : Launch} {e : Env} {R : Room} {s : State} {m : MethodId} {args : Array Value} {below : List Frame} {meth : Method} {c : Code} {D : va_G} {cy : Nat → ClassId} {T0 tB tE : Nat} {A : Nat → Prop} {a : Nat → Nat} {rw : Nat → Option Nat} (hrw : ∀ i, i < 6 → rw i = some (a (12 + 2 * i))) {post : Int32 → KS → Prop} (b : Bz p R s m args meth c D cy T0 tB tE A 2 cX11_isWithin RX11 (some .boolean) "isWithin" 0 0 0 0) (S : KS)  (h : w_X11_isWithin_B13 cy tE post S ) : Z p l e R s m args below meth c D A 2 (MQ below (QI D (U := KS) post (kw cy a rw) A) args s 0 0 A) 0 0 (kw cy a rw S) [] 13 [] := by
  unfold w_X11_isWithin_B13 at h
  refine z_iconst (v := 0) b dX11_isWithin_13 (by decide) ?_
  exact z_X11_isWithin_B14 hrw b _ _ h

def w_X11_isWithin (cy : Nat → ClassId) (tE : Nat) (S : KS) (p0 : Int32) (p1 : Int32) (post : Int32 → KS → Prop) : Prop :=
  ((p0.toInt < 0 → w_X11_isWithin_B13 cy tE post S) ∧ (0 ≤ p0.toInt → ((p1.toInt < p0.toInt → w_X11_isWithin_B13 cy tE post S) ∧ (p0.toInt ≤ p1.toInt → w_X11_isWithin_B14 cy tE post S 1))))

set_option maxHeartbeats 200000 in
set_option maxRecDepth 100000 in
theorem k_X11_isWithin {l : Launch} {D : va_G} {cy : Nat → ClassId} {T0 tB tE : Nat} {a : Nat → Nat} {rw : Nat → Option Nat} (hrw : ∀ i, i < 6 → rw i = some (a (12 + 2 * i))) (S : KS) (p0 : Int32) (p1 : Int32) (post : Int32 → KS → Prop) (h : w_X11_isWithin cy tE S p0 p1 post) : Ct l D cy T0 tB tE yX11_isWithin cX11_isWithin 2 (some .boolean) 0 0 0 0 (kw cy a rw S) [.int p0, .int p1] (QI D (U := KS) post (kw cy a rw)) := by
  refine Ct.ofZ RX11 "isWithin" [(0, .int p0), (1, .int p1)] rfl rfl rfl rfl (Nat.le_of_ble_eq_true rfl) ?_
  intro p e R s m args below meth c A b
  unfold w_X11_isWithin at h
  refine z_iload_n b dX11_isWithin_0 rfl rfl ?_
  refine y_if_lt (tgt := 13) (xl := p0.toInt) b rfl dX11_isWithin_1 (by decide) (fun c1 => ?_) (fun c1 => ?_)
  · replace h := h.1 c1
    refine z_lv0 (lv' := []) [] rfl ?_
    exact z_X11_isWithin_B13 hrw b _ h
  · replace h := h.2 c1
    refine z_iload_n b dX11_isWithin_4 rfl rfl ?_
    refine z_iload_n b dX11_isWithin_5 rfl rfl ?_
    refine y_icmp_gt (tgt := 13) (xl := p0.toInt) (yl := p1.toInt) b rfl rfl dX11_isWithin_6 (by decide) (fun c1 => ?_) (fun c1 => ?_)
    · replace h := h.1 c1
      refine z_lv0 (lv' := []) [] rfl ?_
      exact z_X11_isWithin_B13 hrw b _ h
    · replace h := h.2 c1
      refine z_iconst (v := 1) b dX11_isWithin_9 (by decide) ?_
      refine z_goto (tgt := 14) b dX11_isWithin_10 (by decide) ?_
      refine z_lv0 (lv' := []) [] rfl ?_
      exact z_X11_isWithin_B14 hrw b _ _ h

def w_X11_isPerson_B14 (cy : Nat → ClassId) (tE : Nat) (post : Int32 → KS → Prop) (S : KS) (y0 : Int32) : Prop :=
  (y0 = 0 ∨ y0 = 1) ∧ post y0 S

set_option maxHeartbeats 200000 in
set_option maxRecDepth 100000 in
theorem z_X11_isPerson_B14 {p : Program} {l : Launch} {e : Env} {R : Room} {s : State} {m : MethodId} {args : Array Value} {below : List Frame} {meth : Method} {c : Code} {D : va_G} {cy : Nat → ClassId} {T0 tB tE : Nat} {A : Nat → Prop} {a : Nat → Nat} {rw : Nat → Option Nat} (hrw : ∀ i, i < 6 → rw i = some (a (12 + 2 * i))) {post : Int32 → KS → Prop} (b : Bz p R s m args meth c D cy T0 tB tE A 1 cX11_isPerson RX11 (some .boolean) "isPerson" 0 0 0 0) (S : KS) (y0 : Int32) (h : w_X11_isPerson_B14 cy tE post S y0) : Z p l e R s m args below meth c D A 1 (MQ below (QI D (U := KS) post (kw cy a rw) A) args s 0 0 A) 0 0 (kw cy a rw S) [] 14 [.int y0] := by
  unfold w_X11_isPerson_B14 at h
  obtain ⟨g1, h⟩ := h
  exact z_zret (u := S) b rfl (z_bool g1) dX11_isPerson_14 h rfl (by decide) (by decide)

def w_X11_isPerson_B13 (cy : Nat → ClassId) (tE : Nat) (post : Int32 → KS → Prop) (S : KS)  : Prop :=
  w_X11_isPerson_B14 cy tE post S 0

set_option maxHeartbeats 200000 in
set_option maxRecDepth 100000 in
theorem z_X11_isPerson_B13 {p : Program} {l : Launch} {e : Env} {R : Room} {s : State} {m : MethodId} {args : Array Value} {below : List Frame} {meth : Method} {c : Code} {D : va_G} {cy : Nat → ClassId} {T0 tB tE : Nat} {A : Nat → Prop} {a : Nat → Nat} {rw : Nat → Option Nat} (hrw : ∀ i, i < 6 → rw i = some (a (12 + 2 * i))) {post : Int32 → KS → Prop} (b : Bz p R s m args meth c D cy T0 tB tE A 1 cX11_isPerson RX11 (some .boolean) "isPerson" 0 0 0 0) (S : KS)  (h : w_X11_isPerson_B13 cy tE post S ) : Z p l e R s m args below meth c D A 1 (MQ below (QI D (U := KS) post (kw cy a rw) A) args s 0 0 A) 0 0 (kw cy a rw S) [] 13 [] := by
  unfold w_X11_isPerson_B13 at h
  refine z_iconst (v := 0) b dX11_isPerson_13 (by decide) ?_
  exact z_X11_isPerson_B14 hrw b _ _ h

def w_X11_isPerson (cy : Nat → ClassId) (tE : Nat) (S : KS) (p0 : Int32) (post : Int32 → KS → Prop) : Prop :=
  ((p0.toInt < 0 → w_X11_isPerson_B13 cy tE post S) ∧ (0 ≤ p0.toInt → ((3 ≤ p0.toInt → w_X11_isPerson_B13 cy tE post S) ∧ (p0.toInt < 3 → w_X11_isPerson_B14 cy tE post S 1))))

set_option maxHeartbeats 200000 in
set_option maxRecDepth 100000 in
theorem k_X11_isPerson {l : Launch} {D : va_G} {cy : Nat → ClassId} {T0 tB tE : Nat} {a : Nat → Nat} {rw : Nat → Option Nat} (hrw : ∀ i, i < 6 → rw i = some (a (12 + 2 * i))) (S : KS) (p0 : Int32) (post : Int32 → KS → Prop) (h : w_X11_isPerson cy tE S p0 post) : Ct l D cy T0 tB tE yX11_isPerson cX11_isPerson 1 (some .boolean) 0 0 0 0 (kw cy a rw S) [.int p0] (QI D (U := KS) post (kw cy a rw)) := by
  refine Ct.ofZ RX11 "isPerson" [(0, .int p0)] rfl rfl rfl rfl (Nat.le_of_ble_eq_true rfl) ?_
  intro p e R s m args below meth c A b
  unfold w_X11_isPerson at h
  refine z_iload_n b dX11_isPerson_0 rfl rfl ?_
  refine y_if_lt (tgt := 13) (xl := p0.toInt) b rfl dX11_isPerson_1 (by decide) (fun c1 => ?_) (fun c1 => ?_)
  · replace h := h.1 c1
    refine z_lv0 (lv' := []) [] rfl ?_
    exact z_X11_isPerson_B13 hrw b _ h
  · replace h := h.2 c1
    refine z_iload_n b dX11_isPerson_4 rfl rfl ?_
    refine z_iconst (v := 3) b dX11_isPerson_5 (by decide) ?_
    refine y_icmp_ge (tgt := 13) (xl := p0.toInt) (yl := 3) b rfl (by decide) dX11_isPerson_6 (by decide) (fun c1 => ?_) (fun c1 => ?_)
    · replace h := h.1 c1
      refine z_lv0 (lv' := []) [] rfl ?_
      exact z_X11_isPerson_B13 hrw b _ h
    · replace h := h.2 c1
      refine z_iconst (v := 1) b dX11_isPerson_9 (by decide) ?_
      refine z_goto (tgt := 14) b dX11_isPerson_10 (by decide) ?_
      refine z_lv0 (lv' := []) [] rfl ?_
      exact z_X11_isPerson_B14 hrw b _ _ h

def w_X11_isThing_B14 (cy : Nat → ClassId) (tE : Nat) (post : Int32 → KS → Prop) (S : KS) (y0 : Int32) : Prop :=
  (y0 = 0 ∨ y0 = 1) ∧ post y0 S

set_option maxHeartbeats 200000 in
set_option maxRecDepth 100000 in
theorem z_X11_isThing_B14 {p : Program} {l : Launch} {e : Env} {R : Room} {s : State} {m : MethodId} {args : Array Value} {below : List Frame} {meth : Method} {c : Code} {D : va_G} {cy : Nat → ClassId} {T0 tB tE : Nat} {A : Nat → Prop} {a : Nat → Nat} {rw : Nat → Option Nat} (hrw : ∀ i, i < 6 → rw i = some (a (12 + 2 * i))) {post : Int32 → KS → Prop} (b : Bz p R s m args meth c D cy T0 tB tE A 1 cX11_isThing RX11 (some .boolean) "isThing" 0 0 0 0) (S : KS) (y0 : Int32) (h : w_X11_isThing_B14 cy tE post S y0) : Z p l e R s m args below meth c D A 1 (MQ below (QI D (U := KS) post (kw cy a rw) A) args s 0 0 A) 0 0 (kw cy a rw S) [] 14 [.int y0] := by
  unfold w_X11_isThing_B14 at h
  obtain ⟨g1, h⟩ := h
  exact z_zret (u := S) b rfl (z_bool g1) dX11_isThing_14 h rfl (by decide) (by decide)

def w_X11_isThing_B13 (cy : Nat → ClassId) (tE : Nat) (post : Int32 → KS → Prop) (S : KS)  : Prop :=
  w_X11_isThing_B14 cy tE post S 0

set_option maxHeartbeats 200000 in
set_option maxRecDepth 100000 in
theorem z_X11_isThing_B13 {p : Program} {l : Launch} {e : Env} {R : Room} {s : State} {m : MethodId} {args : Array Value} {below : List Frame} {meth : Method} {c : Code} {D : va_G} {cy : Nat → ClassId} {T0 tB tE : Nat} {A : Nat → Prop} {a : Nat → Nat} {rw : Nat → Option Nat} (hrw : ∀ i, i < 6 → rw i = some (a (12 + 2 * i))) {post : Int32 → KS → Prop} (b : Bz p R s m args meth c D cy T0 tB tE A 1 cX11_isThing RX11 (some .boolean) "isThing" 0 0 0 0) (S : KS)  (h : w_X11_isThing_B13 cy tE post S ) : Z p l e R s m args below meth c D A 1 (MQ below (QI D (U := KS) post (kw cy a rw) A) args s 0 0 A) 0 0 (kw cy a rw S) [] 13 [] := by
  unfold w_X11_isThing_B13 at h
  refine z_iconst (v := 0) b dX11_isThing_13 (by decide) ?_
  exact z_X11_isThing_B14 hrw b _ _ h

def w_X11_isThing (cy : Nat → ClassId) (tE : Nat) (S : KS) (p0 : Int32) (post : Int32 → KS → Prop) : Prop :=
  ((p0.toInt < 0 → w_X11_isThing_B13 cy tE post S) ∧ (0 ≤ p0.toInt → ((3 ≤ p0.toInt → w_X11_isThing_B13 cy tE post S) ∧ (p0.toInt < 3 → w_X11_isThing_B14 cy tE post S 1))))

set_option maxHeartbeats 200000 in
set_option maxRecDepth 100000 in
theorem k_X11_isThing {l : Launch} {D : va_G} {cy : Nat → ClassId} {T0 tB tE : Nat} {a : Nat → Nat} {rw : Nat → Option Nat} (hrw : ∀ i, i < 6 → rw i = some (a (12 + 2 * i))) (S : KS) (p0 : Int32) (post : Int32 → KS → Prop) (h : w_X11_isThing cy tE S p0 post) : Ct l D cy T0 tB tE yX11_isThing cX11_isThing 1 (some .boolean) 0 0 0 0 (kw cy a rw S) [.int p0] (QI D (U := KS) post (kw cy a rw)) := by
  refine Ct.ofZ RX11 "isThing" [(0, .int p0)] rfl rfl rfl rfl (Nat.le_of_ble_eq_true rfl) ?_
  intro p e R s m args below meth c A b
  unfold w_X11_isThing at h
  refine z_iload_n b dX11_isThing_0 rfl rfl ?_
  refine y_if_lt (tgt := 13) (xl := p0.toInt) b rfl dX11_isThing_1 (by decide) (fun c1 => ?_) (fun c1 => ?_)
  · replace h := h.1 c1
    refine z_lv0 (lv' := []) [] rfl ?_
    exact z_X11_isThing_B13 hrw b _ h
  · replace h := h.2 c1
    refine z_iload_n b dX11_isThing_4 rfl rfl ?_
    refine z_iconst (v := 3) b dX11_isThing_5 (by decide) ?_
    refine y_icmp_ge (tgt := 13) (xl := p0.toInt) (yl := 3) b rfl (by decide) dX11_isThing_6 (by decide) (fun c1 => ?_) (fun c1 => ?_)
    · replace h := h.1 c1
      refine z_lv0 (lv' := []) [] rfl ?_
      exact z_X11_isThing_B13 hrw b _ h
    · replace h := h.2 c1
      refine z_iconst (v := 1) b dX11_isThing_9 (by decide) ?_
      refine z_goto (tgt := 14) b dX11_isThing_10 (by decide) ?_
      refine z_lv0 (lv' := []) [] rfl ?_
      exact z_X11_isThing_B14 hrw b _ _ h

def w_X11_isRow_B15 (cy : Nat → ClassId) (tE : Nat) (post : Int32 → KS → Prop) (S : KS) (y0 : Int32) : Prop :=
  (y0 = 0 ∨ y0 = 1) ∧ post y0 S

set_option maxHeartbeats 200000 in
set_option maxRecDepth 100000 in
theorem z_X11_isRow_B15 {p : Program} {l : Launch} {e : Env} {R : Room} {s : State} {m : MethodId} {args : Array Value} {below : List Frame} {meth : Method} {c : Code} {D : va_G} {cy : Nat → ClassId} {T0 tB tE : Nat} {A : Nat → Prop} {a : Nat → Nat} {rw : Nat → Option Nat} (hrw : ∀ i, i < 6 → rw i = some (a (12 + 2 * i))) {post : Int32 → KS → Prop} (b : Bz p R s m args meth c D cy T0 tB tE A 1 cX11_isRow RX11 (some .boolean) "isRow" 0 0 0 0) (S : KS) (y0 : Int32) (h : w_X11_isRow_B15 cy tE post S y0) : Z p l e R s m args below meth c D A 1 (MQ below (QI D (U := KS) post (kw cy a rw) A) args s 0 0 A) 0 0 (kw cy a rw S) [] 15 [.int y0] := by
  unfold w_X11_isRow_B15 at h
  obtain ⟨g1, h⟩ := h
  exact z_zret (u := S) b rfl (z_bool g1) dX11_isRow_15 h rfl (by decide) (by decide)

def w_X11_isRow_B14 (cy : Nat → ClassId) (tE : Nat) (post : Int32 → KS → Prop) (S : KS)  : Prop :=
  w_X11_isRow_B15 cy tE post S 0

set_option maxHeartbeats 200000 in
set_option maxRecDepth 100000 in
theorem z_X11_isRow_B14 {p : Program} {l : Launch} {e : Env} {R : Room} {s : State} {m : MethodId} {args : Array Value} {below : List Frame} {meth : Method} {c : Code} {D : va_G} {cy : Nat → ClassId} {T0 tB tE : Nat} {A : Nat → Prop} {a : Nat → Nat} {rw : Nat → Option Nat} (hrw : ∀ i, i < 6 → rw i = some (a (12 + 2 * i))) {post : Int32 → KS → Prop} (b : Bz p R s m args meth c D cy T0 tB tE A 1 cX11_isRow RX11 (some .boolean) "isRow" 0 0 0 0) (S : KS)  (h : w_X11_isRow_B14 cy tE post S ) : Z p l e R s m args below meth c D A 1 (MQ below (QI D (U := KS) post (kw cy a rw) A) args s 0 0 A) 0 0 (kw cy a rw S) [] 14 [] := by
  unfold w_X11_isRow_B14 at h
  refine z_iconst (v := 0) b dX11_isRow_14 (by decide) ?_
  exact z_X11_isRow_B15 hrw b _ _ h

def w_X11_isRow (cy : Nat → ClassId) (tE : Nat) (S : KS) (p0 : Int32) (post : Int32 → KS → Prop) : Prop :=
  ((p0.toInt < 0 → w_X11_isRow_B14 cy tE post S) ∧ (0 ≤ p0.toInt → ((6 ≤ p0.toInt → w_X11_isRow_B14 cy tE post S) ∧ (p0.toInt < 6 → w_X11_isRow_B15 cy tE post S 1))))

set_option maxHeartbeats 200000 in
set_option maxRecDepth 100000 in
theorem k_X11_isRow {l : Launch} {D : va_G} {cy : Nat → ClassId} {T0 tB tE : Nat} {a : Nat → Nat} {rw : Nat → Option Nat} (hrw : ∀ i, i < 6 → rw i = some (a (12 + 2 * i))) (S : KS) (p0 : Int32) (post : Int32 → KS → Prop) (h : w_X11_isRow cy tE S p0 post) : Ct l D cy T0 tB tE yX11_isRow cX11_isRow 1 (some .boolean) 0 0 0 0 (kw cy a rw S) [.int p0] (QI D (U := KS) post (kw cy a rw)) := by
  refine Ct.ofZ RX11 "isRow" [(0, .int p0)] rfl rfl rfl rfl (Nat.le_of_ble_eq_true rfl) ?_
  intro p e R s m args below meth c A b
  unfold w_X11_isRow at h
  refine z_iload_n b dX11_isRow_0 rfl rfl ?_
  refine y_if_lt (tgt := 14) (xl := p0.toInt) b rfl dX11_isRow_1 (by decide) (fun c1 => ?_) (fun c1 => ?_)
  · replace h := h.1 c1
    refine z_lv0 (lv' := []) [] rfl ?_
    exact z_X11_isRow_B14 hrw b _ h
  · replace h := h.2 c1
    refine z_iload_n b dX11_isRow_4 rfl rfl ?_
    refine z_bipush (v := 6) b dX11_isRow_5 (by decide) ?_
    refine y_icmp_ge (tgt := 14) (xl := p0.toInt) (yl := 6) b rfl (by decide) dX11_isRow_7 (by decide) (fun c1 => ?_) (fun c1 => ?_)
    · replace h := h.1 c1
      refine z_lv0 (lv' := []) [] rfl ?_
      exact z_X11_isRow_B14 hrw b _ h
    · replace h := h.2 c1
      refine z_iconst (v := 1) b dX11_isRow_10 (by decide) ?_
      refine z_goto (tgt := 15) b dX11_isRow_11 (by decide) ?_
      refine z_lv0 (lv' := []) [] rfl ?_
      exact z_X11_isRow_B15 hrw b _ _ h

def w_X11_isDepth_B15 (cy : Nat → ClassId) (tE : Nat) (post : Int32 → KS → Prop) (S : KS) (y0 : Int32) : Prop :=
  (y0 = 0 ∨ y0 = 1) ∧ post y0 S

set_option maxHeartbeats 200000 in
set_option maxRecDepth 100000 in
theorem z_X11_isDepth_B15 {p : Program} {l : Launch} {e : Env} {R : Room} {s : State} {m : MethodId} {args : Array Value} {below : List Frame} {meth : Method} {c : Code} {D : va_G} {cy : Nat → ClassId} {T0 tB tE : Nat} {A : Nat → Prop} {a : Nat → Nat} {rw : Nat → Option Nat} (hrw : ∀ i, i < 6 → rw i = some (a (12 + 2 * i))) {post : Int32 → KS → Prop} (b : Bz p R s m args meth c D cy T0 tB tE A 1 cX11_isDepth RX11 (some .boolean) "isDepth" 0 0 0 0) (S : KS) (y0 : Int32) (h : w_X11_isDepth_B15 cy tE post S y0) : Z p l e R s m args below meth c D A 1 (MQ below (QI D (U := KS) post (kw cy a rw) A) args s 0 0 A) 0 0 (kw cy a rw S) [] 15 [.int y0] := by
  unfold w_X11_isDepth_B15 at h
  obtain ⟨g1, h⟩ := h
  exact z_zret (u := S) b rfl (z_bool g1) dX11_isDepth_15 h rfl (by decide) (by decide)

def w_X11_isDepth_B14 (cy : Nat → ClassId) (tE : Nat) (post : Int32 → KS → Prop) (S : KS)  : Prop :=
  w_X11_isDepth_B15 cy tE post S 0

set_option maxHeartbeats 200000 in
set_option maxRecDepth 100000 in
theorem z_X11_isDepth_B14 {p : Program} {l : Launch} {e : Env} {R : Room} {s : State} {m : MethodId} {args : Array Value} {below : List Frame} {meth : Method} {c : Code} {D : va_G} {cy : Nat → ClassId} {T0 tB tE : Nat} {A : Nat → Prop} {a : Nat → Nat} {rw : Nat → Option Nat} (hrw : ∀ i, i < 6 → rw i = some (a (12 + 2 * i))) {post : Int32 → KS → Prop} (b : Bz p R s m args meth c D cy T0 tB tE A 1 cX11_isDepth RX11 (some .boolean) "isDepth" 0 0 0 0) (S : KS)  (h : w_X11_isDepth_B14 cy tE post S ) : Z p l e R s m args below meth c D A 1 (MQ below (QI D (U := KS) post (kw cy a rw) A) args s 0 0 A) 0 0 (kw cy a rw S) [] 14 [] := by
  unfold w_X11_isDepth_B14 at h
  refine z_iconst (v := 0) b dX11_isDepth_14 (by decide) ?_
  exact z_X11_isDepth_B15 hrw b _ _ h

def w_X11_isDepth (cy : Nat → ClassId) (tE : Nat) (S : KS) (p0 : Int32) (post : Int32 → KS → Prop) : Prop :=
  ((p0.toInt < 0 → w_X11_isDepth_B14 cy tE post S) ∧ (0 ≤ p0.toInt → ((6 < p0.toInt → w_X11_isDepth_B14 cy tE post S) ∧ (p0.toInt ≤ 6 → w_X11_isDepth_B15 cy tE post S 1))))

set_option maxHeartbeats 200000 in
set_option maxRecDepth 100000 in
theorem k_X11_isDepth {l : Launch} {D : va_G} {cy : Nat → ClassId} {T0 tB tE : Nat} {a : Nat → Nat} {rw : Nat → Option Nat} (hrw : ∀ i, i < 6 → rw i = some (a (12 + 2 * i))) (S : KS) (p0 : Int32) (post : Int32 → KS → Prop) (h : w_X11_isDepth cy tE S p0 post) : Ct l D cy T0 tB tE yX11_isDepth cX11_isDepth 1 (some .boolean) 0 0 0 0 (kw cy a rw S) [.int p0] (QI D (U := KS) post (kw cy a rw)) := by
  refine Ct.ofZ RX11 "isDepth" [(0, .int p0)] rfl rfl rfl rfl (Nat.le_of_ble_eq_true rfl) ?_
  intro p e R s m args below meth c A b
  unfold w_X11_isDepth at h
  refine z_iload_n b dX11_isDepth_0 rfl rfl ?_
  refine y_if_lt (tgt := 14) (xl := p0.toInt) b rfl dX11_isDepth_1 (by decide) (fun c1 => ?_) (fun c1 => ?_)
  · replace h := h.1 c1
    refine z_lv0 (lv' := []) [] rfl ?_
    exact z_X11_isDepth_B14 hrw b _ h
  · replace h := h.2 c1
    refine z_iload_n b dX11_isDepth_4 rfl rfl ?_
    refine z_bipush (v := 6) b dX11_isDepth_5 (by decide) ?_
    refine y_icmp_gt (tgt := 14) (xl := p0.toInt) (yl := 6) b rfl (by decide) dX11_isDepth_7 (by decide) (fun c1 => ?_) (fun c1 => ?_)
    · replace h := h.1 c1
      refine z_lv0 (lv' := []) [] rfl ?_
      exact z_X11_isDepth_B14 hrw b _ h
    · replace h := h.2 c1
      refine z_iconst (v := 1) b dX11_isDepth_10 (by decide) ?_
      refine z_goto (tgt := 15) b dX11_isDepth_11 (by decide) ?_
      refine z_lv0 (lv' := []) [] rfl ?_
      exact z_X11_isDepth_B15 hrw b _ _ h

def w_X10_isLetter_B17 (cy : Nat → ClassId) (tE : Nat) (post : Int32 → KS → Prop) (S : KS) (y0 : Int32) : Prop :=
  (y0 = 0 ∨ y0 = 1) ∧ post y0 S

set_option maxHeartbeats 200000 in
set_option maxRecDepth 100000 in
theorem z_X10_isLetter_B17 {p : Program} {l : Launch} {e : Env} {R : Room} {s : State} {m : MethodId} {args : Array Value} {below : List Frame} {meth : Method} {c : Code} {D : va_G} {cy : Nat → ClassId} {T0 tB tE : Nat} {A : Nat → Prop} {a : Nat → Nat} {rw : Nat → Option Nat} (hrw : ∀ i, i < 6 → rw i = some (a (12 + 2 * i))) {post : Int32 → KS → Prop} (b : Bz p R s m args meth c D cy T0 tB tE A 1 cX10_isLetter RX10 (some .boolean) "isLetter" 0 0 0 0) (S : KS) (y0 : Int32) (h : w_X10_isLetter_B17 cy tE post S y0) : Z p l e R s m args below meth c D A 1 (MQ below (QI D (U := KS) post (kw cy a rw) A) args s 0 0 A) 0 0 (kw cy a rw S) [] 17 [.int y0] := by
  unfold w_X10_isLetter_B17 at h
  obtain ⟨g1, h⟩ := h
  exact z_zret (u := S) b rfl (z_bool g1) dX10_isLetter_17 h rfl (by decide) (by decide)

def w_X10_isLetter_B16 (cy : Nat → ClassId) (tE : Nat) (post : Int32 → KS → Prop) (S : KS)  : Prop :=
  w_X10_isLetter_B17 cy tE post S 0

set_option maxHeartbeats 200000 in
set_option maxRecDepth 100000 in
theorem z_X10_isLetter_B16 {p : Program} {l : Launch} {e : Env} {R : Room} {s : State} {m : MethodId} {args : Array Value} {below : List Frame} {meth : Method} {c : Code} {D : va_G} {cy : Nat → ClassId} {T0 tB tE : Nat} {A : Nat → Prop} {a : Nat → Nat} {rw : Nat → Option Nat} (hrw : ∀ i, i < 6 → rw i = some (a (12 + 2 * i))) {post : Int32 → KS → Prop} (b : Bz p R s m args meth c D cy T0 tB tE A 1 cX10_isLetter RX10 (some .boolean) "isLetter" 0 0 0 0) (S : KS)  (h : w_X10_isLetter_B16 cy tE post S ) : Z p l e R s m args below meth c D A 1 (MQ below (QI D (U := KS) post (kw cy a rw) A) args s 0 0 A) 0 0 (kw cy a rw S) [] 16 [] := by
  unfold w_X10_isLetter_B16 at h
  refine z_iconst (v := 0) b dX10_isLetter_16 (by decide) ?_
  exact z_X10_isLetter_B17 hrw b _ _ h

def w_X10_isLetter (cy : Nat → ClassId) (tE : Nat) (S : KS) (p0 : Int32) (post : Int32 → KS → Prop) : Prop :=
  ((p0.toInt < 97 → w_X10_isLetter_B16 cy tE post S) ∧ (97 ≤ p0.toInt → ((122 < p0.toInt → w_X10_isLetter_B16 cy tE post S) ∧ (p0.toInt ≤ 122 → w_X10_isLetter_B17 cy tE post S 1))))

set_option maxHeartbeats 200000 in
set_option maxRecDepth 100000 in
theorem k_X10_isLetter {l : Launch} {D : va_G} {cy : Nat → ClassId} {T0 tB tE : Nat} {a : Nat → Nat} {rw : Nat → Option Nat} (hrw : ∀ i, i < 6 → rw i = some (a (12 + 2 * i))) (S : KS) (p0 : Int32) (post : Int32 → KS → Prop) (h : w_X10_isLetter cy tE S p0 post) : Ct l D cy T0 tB tE yX10_isLetter cX10_isLetter 1 (some .boolean) 0 0 0 0 (kw cy a rw S) [.int p0] (QI D (U := KS) post (kw cy a rw)) := by
  refine Ct.ofZ RX10 "isLetter" [(0, .int p0)] rfl rfl rfl rfl (Nat.le_of_ble_eq_true rfl) ?_
  intro p e R s m args below meth c A b
  unfold w_X10_isLetter at h
  refine z_iload_n b dX10_isLetter_0 rfl rfl ?_
  refine z_bipush (v := 97) b dX10_isLetter_1 (by decide) ?_
  refine y_icmp_lt (tgt := 16) (xl := p0.toInt) (yl := 97) b rfl (by decide) dX10_isLetter_3 (by decide) (fun c1 => ?_) (fun c1 => ?_)
  · replace h := h.1 c1
    refine z_lv0 (lv' := []) [] rfl ?_
    exact z_X10_isLetter_B16 hrw b _ h
  · replace h := h.2 c1
    refine z_iload_n b dX10_isLetter_6 rfl rfl ?_
    refine z_bipush (v := 122) b dX10_isLetter_7 (by decide) ?_
    refine y_icmp_gt (tgt := 16) (xl := p0.toInt) (yl := 122) b rfl (by decide) dX10_isLetter_9 (by decide) (fun c1 => ?_) (fun c1 => ?_)
    · replace h := h.1 c1
      refine z_lv0 (lv' := []) [] rfl ?_
      exact z_X10_isLetter_B16 hrw b _ h
    · replace h := h.2 c1
      refine z_iconst (v := 1) b dX10_isLetter_12 (by decide) ?_
      refine z_goto (tgt := 17) b dX10_isLetter_13 (by decide) ?_
      refine z_lv0 (lv' := []) [] rfl ?_
      exact z_X10_isLetter_B17 hrw b _ _ h

def w_X10_isDigit_B17 (cy : Nat → ClassId) (tE : Nat) (post : Int32 → KS → Prop) (S : KS) (y0 : Int32) : Prop :=
  (y0 = 0 ∨ y0 = 1) ∧ post y0 S

set_option maxHeartbeats 200000 in
set_option maxRecDepth 100000 in
theorem z_X10_isDigit_B17 {p : Program} {l : Launch} {e : Env} {R : Room} {s : State} {m : MethodId} {args : Array Value} {below : List Frame} {meth : Method} {c : Code} {D : va_G} {cy : Nat → ClassId} {T0 tB tE : Nat} {A : Nat → Prop} {a : Nat → Nat} {rw : Nat → Option Nat} (hrw : ∀ i, i < 6 → rw i = some (a (12 + 2 * i))) {post : Int32 → KS → Prop} (b : Bz p R s m args meth c D cy T0 tB tE A 1 cX10_isDigit RX10 (some .boolean) "isDigit" 0 0 0 0) (S : KS) (y0 : Int32) (h : w_X10_isDigit_B17 cy tE post S y0) : Z p l e R s m args below meth c D A 1 (MQ below (QI D (U := KS) post (kw cy a rw) A) args s 0 0 A) 0 0 (kw cy a rw S) [] 17 [.int y0] := by
  unfold w_X10_isDigit_B17 at h
  obtain ⟨g1, h⟩ := h
  exact z_zret (u := S) b rfl (z_bool g1) dX10_isDigit_17 h rfl (by decide) (by decide)

def w_X10_isDigit_B16 (cy : Nat → ClassId) (tE : Nat) (post : Int32 → KS → Prop) (S : KS)  : Prop :=
  w_X10_isDigit_B17 cy tE post S 0

set_option maxHeartbeats 200000 in
set_option maxRecDepth 100000 in
theorem z_X10_isDigit_B16 {p : Program} {l : Launch} {e : Env} {R : Room} {s : State} {m : MethodId} {args : Array Value} {below : List Frame} {meth : Method} {c : Code} {D : va_G} {cy : Nat → ClassId} {T0 tB tE : Nat} {A : Nat → Prop} {a : Nat → Nat} {rw : Nat → Option Nat} (hrw : ∀ i, i < 6 → rw i = some (a (12 + 2 * i))) {post : Int32 → KS → Prop} (b : Bz p R s m args meth c D cy T0 tB tE A 1 cX10_isDigit RX10 (some .boolean) "isDigit" 0 0 0 0) (S : KS)  (h : w_X10_isDigit_B16 cy tE post S ) : Z p l e R s m args below meth c D A 1 (MQ below (QI D (U := KS) post (kw cy a rw) A) args s 0 0 A) 0 0 (kw cy a rw S) [] 16 [] := by
  unfold w_X10_isDigit_B16 at h
  refine z_iconst (v := 0) b dX10_isDigit_16 (by decide) ?_
  exact z_X10_isDigit_B17 hrw b _ _ h

def w_X10_isDigit (cy : Nat → ClassId) (tE : Nat) (S : KS) (p0 : Int32) (post : Int32 → KS → Prop) : Prop :=
  ((p0.toInt < 48 → w_X10_isDigit_B16 cy tE post S) ∧ (48 ≤ p0.toInt → ((57 < p0.toInt → w_X10_isDigit_B16 cy tE post S) ∧ (p0.toInt ≤ 57 → w_X10_isDigit_B17 cy tE post S 1))))

set_option maxHeartbeats 200000 in
set_option maxRecDepth 100000 in
theorem k_X10_isDigit {l : Launch} {D : va_G} {cy : Nat → ClassId} {T0 tB tE : Nat} {a : Nat → Nat} {rw : Nat → Option Nat} (hrw : ∀ i, i < 6 → rw i = some (a (12 + 2 * i))) (S : KS) (p0 : Int32) (post : Int32 → KS → Prop) (h : w_X10_isDigit cy tE S p0 post) : Ct l D cy T0 tB tE yX10_isDigit cX10_isDigit 1 (some .boolean) 0 0 0 0 (kw cy a rw S) [.int p0] (QI D (U := KS) post (kw cy a rw)) := by
  refine Ct.ofZ RX10 "isDigit" [(0, .int p0)] rfl rfl rfl rfl (Nat.le_of_ble_eq_true rfl) ?_
  intro p e R s m args below meth c A b
  unfold w_X10_isDigit at h
  refine z_iload_n b dX10_isDigit_0 rfl rfl ?_
  refine z_bipush (v := 48) b dX10_isDigit_1 (by decide) ?_
  refine y_icmp_lt (tgt := 16) (xl := p0.toInt) (yl := 48) b rfl (by decide) dX10_isDigit_3 (by decide) (fun c1 => ?_) (fun c1 => ?_)
  · replace h := h.1 c1
    refine z_lv0 (lv' := []) [] rfl ?_
    exact z_X10_isDigit_B16 hrw b _ h
  · replace h := h.2 c1
    refine z_iload_n b dX10_isDigit_6 rfl rfl ?_
    refine z_bipush (v := 57) b dX10_isDigit_7 (by decide) ?_
    refine y_icmp_gt (tgt := 16) (xl := p0.toInt) (yl := 57) b rfl (by decide) dX10_isDigit_9 (by decide) (fun c1 => ?_) (fun c1 => ?_)
    · replace h := h.1 c1
      refine z_lv0 (lv' := []) [] rfl ?_
      exact z_X10_isDigit_B16 hrw b _ h
    · replace h := h.2 c1
      refine z_iconst (v := 1) b dX10_isDigit_12 (by decide) ?_
      refine z_goto (tgt := 17) b dX10_isDigit_13 (by decide) ?_
      refine z_lv0 (lv' := []) [] rfl ?_
      exact z_X10_isDigit_B17 hrw b _ _ h

def w_X11_areLaws_B15 (cy : Nat → ClassId) (tE : Nat) (post : Int32 → KS → Prop) (S : KS) (y0 : Int32) : Prop :=
  (y0 = 0 ∨ y0 = 1) ∧ post y0 S

set_option maxHeartbeats 200000 in
set_option maxRecDepth 100000 in
theorem z_X11_areLaws_B15 {p : Program} {l : Launch} {e : Env} {R : Room} {s : State} {m : MethodId} {args : Array Value} {below : List Frame} {meth : Method} {c : Code} {D : va_G} {cy : Nat → ClassId} {T0 tB tE : Nat} {A : Nat → Prop} {a : Nat → Nat} {rw : Nat → Option Nat} (hrw : ∀ i, i < 6 → rw i = some (a (12 + 2 * i))) {post : Int32 → KS → Prop} (b : Bz p R s m args meth c D cy T0 tB tE A 1 cX11_areLaws RX11 (some .boolean) "areLaws" 0 0 0 0) (S : KS) (y0 : Int32) (h : w_X11_areLaws_B15 cy tE post S y0) : Z p l e R s m args below meth c D A 1 (MQ below (QI D (U := KS) post (kw cy a rw) A) args s 0 0 A) 0 0 (kw cy a rw S) [] 15 [.int y0] := by
  unfold w_X11_areLaws_B15 at h
  obtain ⟨g1, h⟩ := h
  exact z_zret (u := S) b rfl (z_bool g1) dX11_areLaws_15 h rfl (by decide) (by decide)

def w_X11_areLaws_B14 (cy : Nat → ClassId) (tE : Nat) (post : Int32 → KS → Prop) (S : KS)  : Prop :=
  w_X11_areLaws_B15 cy tE post S 0

set_option maxHeartbeats 200000 in
set_option maxRecDepth 100000 in
theorem z_X11_areLaws_B14 {p : Program} {l : Launch} {e : Env} {R : Room} {s : State} {m : MethodId} {args : Array Value} {below : List Frame} {meth : Method} {c : Code} {D : va_G} {cy : Nat → ClassId} {T0 tB tE : Nat} {A : Nat → Prop} {a : Nat → Nat} {rw : Nat → Option Nat} (hrw : ∀ i, i < 6 → rw i = some (a (12 + 2 * i))) {post : Int32 → KS → Prop} (b : Bz p R s m args meth c D cy T0 tB tE A 1 cX11_areLaws RX11 (some .boolean) "areLaws" 0 0 0 0) (S : KS)  (h : w_X11_areLaws_B14 cy tE post S ) : Z p l e R s m args below meth c D A 1 (MQ below (QI D (U := KS) post (kw cy a rw) A) args s 0 0 A) 0 0 (kw cy a rw S) [] 14 [] := by
  unfold w_X11_areLaws_B14 at h
  refine z_iconst (v := 0) b dX11_areLaws_14 (by decide) ?_
  exact z_X11_areLaws_B15 hrw b _ _ h

def w_X11_areLaws (cy : Nat → ClassId) (tE : Nat) (S : KS) (p0 : Int32) (post : Int32 → KS → Prop) : Prop :=
  ((p0.toInt < 1 → w_X11_areLaws_B14 cy tE post S) ∧ (1 ≤ p0.toInt → ((3 < p0.toInt → w_X11_areLaws_B14 cy tE post S) ∧ (p0.toInt ≤ 3 → w_X11_areLaws_B15 cy tE post S 1))))

set_option maxHeartbeats 200000 in
set_option maxRecDepth 100000 in
theorem k_X11_areLaws {l : Launch} {D : va_G} {cy : Nat → ClassId} {T0 tB tE : Nat} {a : Nat → Nat} {rw : Nat → Option Nat} (hrw : ∀ i, i < 6 → rw i = some (a (12 + 2 * i))) (S : KS) (p0 : Int32) (post : Int32 → KS → Prop) (h : w_X11_areLaws cy tE S p0 post) : Ct l D cy T0 tB tE yX11_areLaws cX11_areLaws 1 (some .boolean) 0 0 0 0 (kw cy a rw S) [.int p0] (QI D (U := KS) post (kw cy a rw)) := by
  refine Ct.ofZ RX11 "areLaws" [(0, .int p0)] rfl rfl rfl rfl (Nat.le_of_ble_eq_true rfl) ?_
  intro p e R s m args below meth c A b
  unfold w_X11_areLaws at h
  refine z_iload_n b dX11_areLaws_0 rfl rfl ?_
  refine z_iconst (v := 1) b dX11_areLaws_1 (by decide) ?_
  refine y_icmp_lt (tgt := 14) (xl := p0.toInt) (yl := 1) b rfl (by decide) dX11_areLaws_2 (by decide) (fun c1 => ?_) (fun c1 => ?_)
  · replace h := h.1 c1
    refine z_lv0 (lv' := []) [] rfl ?_
    exact z_X11_areLaws_B14 hrw b _ h
  · replace h := h.2 c1
    refine z_iload_n b dX11_areLaws_5 rfl rfl ?_
    refine z_iconst (v := 3) b dX11_areLaws_6 (by decide) ?_
    refine y_icmp_gt (tgt := 14) (xl := p0.toInt) (yl := 3) b rfl (by decide) dX11_areLaws_7 (by decide) (fun c1 => ?_) (fun c1 => ?_)
    · replace h := h.1 c1
      refine z_lv0 (lv' := []) [] rfl ?_
      exact z_X11_areLaws_B14 hrw b _ h
    · replace h := h.2 c1
      refine z_iconst (v := 1) b dX11_areLaws_10 (by decide) ?_
      refine z_goto (tgt := 15) b dX11_areLaws_11 (by decide) ?_
      refine z_lv0 (lv' := []) [] rfl ?_
      exact z_X11_areLaws_B15 hrw b _ _ h

def w_X5_kind_B30 (cy : Nat → ClassId) (tE : Nat) (post : Int32 → KS → Prop) (S : KS) (y0 : Int32) : Prop :=
  post y0 S

set_option maxHeartbeats 200000 in
set_option maxRecDepth 100000 in
theorem z_X5_kind_B30 {p : Program} {l : Launch} {e : Env} {R : Room} {s : State} {m : MethodId} {args : Array Value} {below : List Frame} {meth : Method} {c : Code} {D : va_G} {cy : Nat → ClassId} {T0 tB tE : Nat} {A : Nat → Prop} {a : Nat → Nat} {rw : Nat → Option Nat} (hrw : ∀ i, i < 6 → rw i = some (a (12 + 2 * i))) {post : Int32 → KS → Prop} (b : Bz p R s m args meth c D cy T0 tB tE A 1 cX5_kind RX5 (some .int) "kind" 0 0 0 0) (S : KS) (y0 : Int32) (h : w_X5_kind_B30 cy tE post S y0) : Z p l e R s m args below meth c D A 1 (MQ below (QI D (U := KS) post (kw cy a rw) A) args s 0 0 A) 0 0 (kw cy a rw S) [] 30 [.int y0] := by
  unfold w_X5_kind_B30 at h
  exact z_iret (u := S) b rfl dX5_kind_30 h rfl (by decide) (by decide)

def w_X5_kind (cy : Nat → ClassId) (tE : Nat) (S : KS)  (post : Int32 → KS → Prop) : Prop :=
  (((fi S.1 21).toInt ≤ (fi S.1 15).toInt → w_X5_kind_B30 cy tE post S 0) ∧ ((fi S.1 15).toInt < (fi S.1 21).toInt → (0 ≤ (fi S.1 15).toInt ∧ (fi S.1 15).toInt < 701) ∧ w_X5_kind_B30 cy tE post S ((ar S.1 13) (fi S.1 15).toNatClampNeg)))

set_option maxHeartbeats 200000 in
set_option maxRecDepth 100000 in
theorem k_X5_kind {l : Launch} {D : va_G} {cy : Nat → ClassId} {T0 tB tE : Nat} {a : Nat → Nat} {rw : Nat → Option Nat} (hrw : ∀ i, i < 6 → rw i = some (a (12 + 2 * i))) (S : KS)  (post : Int32 → KS → Prop) (h : w_X5_kind cy tE S  post) : Ct l D cy T0 tB tE yX5_kind cX5_kind 1 (some .int) 0 0 0 0 (kw cy a rw S) [.ref (a 26)] (QI D (U := KS) post (kw cy a rw)) := by
  refine Ct.ofZ RX5 "kind" [(0, .ref (a 26))] rfl rfl rfl rfl (Nat.le_of_ble_eq_true rfl) ?_
  intro p e R s m args below meth c A b
  unfold w_X5_kind at h
  refine z_aload_n b dX5_kind_0 rfl rfl ?_
  refine z_get (q0 := 26) (k9 := 1) (v := .int (fi S.1 15)) b (kw_26 cy a rw S) rfl in_X5 (by decide) wf_X5_18 rfl dX5_kind_1 ?_
  refine z_aload_n b dX5_kind_4 rfl rfl ?_
  refine z_get (q0 := 26) (k9 := 0) (v := .ref (a 27)) b (kw_26 cy a rw S) rfl in_X5 (by decide) wf_X5_12 rfl dX5_kind_5 ?_
  refine z_get (q0 := 27) (k9 := 4) (v := .int (fi S.1 21)) b (kw_27 cy a rw S) rfl in_X10 (by decide) wf_X5_56 rfl dX5_kind_8 ?_
  refine y_icmp_ge (tgt := 29) (xl := (fi S.1 15).toInt) (yl := (fi S.1 21).toInt) b rfl rfl dX5_kind_11 (by decide) (fun c1 => ?_) (fun c1 => ?_)
  · replace h := h.1 c1
    refine z_iconst (v := 0) b dX5_kind_29 (by decide) ?_
    refine z_lv0 (lv' := []) [] rfl ?_
    exact z_X5_kind_B30 hrw b _ _ h
  · replace h := h.2 c1
    refine z_aload_n b dX5_kind_14 rfl rfl ?_
    refine z_get (q0 := 26) (k9 := 0) (v := .ref (a 27)) b (kw_26 cy a rw S) rfl in_X5 (by decide) wf_X5_12 rfl dX5_kind_15 ?_
    refine z_get (q0 := 27) (k9 := 1) (v := .ref (a 29)) b (kw_27 cy a rw S) rfl in_X10 (by decide) wf_X5_59 rfl dX5_kind_18 ?_
    refine z_aload_n b dX5_kind_21 rfl rfl ?_
    refine z_get (q0 := 26) (k9 := 1) (v := .int (fi S.1 15)) b (kw_26 cy a rw S) rfl in_X5 (by decide) wf_X5_18 rfl dX5_kind_22 ?_
    obtain ⟨g1, h⟩ := h
    refine y_iald (q0 := 29) (j := (fi S.1 15).toNatClampNeg) (v := ((ar S.1 13) (fi S.1 15).toNatClampNeg)) b (kw_29 cy a rw S) (zx_r g1.1 g1.2) rfl dX5_kind_25 ?_
    refine z_goto (tgt := 30) b dX5_kind_26 (by decide) ?_
    refine z_lv0 (lv' := []) [] rfl ?_
    exact z_X5_kind_B30 hrw b _ _ h

def w_X5_refuse_B36 (cy : Nat → ClassId) (tE : Nat) (post : Int32 → KS → Prop) (S : KS) (y0 : Int32) : Prop :=
  post 0 (ksi S 20 y0)

set_option maxHeartbeats 200000 in
set_option maxRecDepth 100000 in
theorem z_X5_refuse_B36 {p : Program} {l : Launch} {e : Env} {R : Room} {s : State} {m : MethodId} {args : Array Value} {below : List Frame} {meth : Method} {c : Code} {D : va_G} {cy : Nat → ClassId} {T0 tB tE : Nat} {A : Nat → Prop} {a : Nat → Nat} {rw : Nat → Option Nat} (hrw : ∀ i, i < 6 → rw i = some (a (12 + 2 * i))) {post : Int32 → KS → Prop} (b : Bz p R s m args meth c D cy T0 tB tE A 2 cX5_refuse RX5 (some .boolean) "refuse" 0 0 0 0) (S : KS) (y0 : Int32) (h : w_X5_refuse_B36 cy tE post S y0) : Z p l e R s m args below meth c D A 2 (MQ below (QI D (U := KS) post (kw cy a rw) A) args s 0 0 A) 0 0 (kw cy a rw S) [] 36 [.int y0, .ref (a 26)] := by
  unfold w_X5_refuse_B36 at h
  refine z_put (q0 := 26) (k9 := 8) tyX5 b (kw_26 cy a rw S) rfl in_X5 tyX5_ok nmX5 (by decide) wf_X5_46 rfl rfl rfl rfl (Nat.le_of_ble_eq_true rfl) dX5_refuse_36 (kwp_26_8 cy a rw S y0) ?_
  refine z_iconst (v := 0) b dX5_refuse_39 (by decide) ?_
  exact z_zret (u := (ksi S 20 y0)) b rfl (by decide) dX5_refuse_40 h rfl (by decide) (by decide)

def w_X5_refuse (cy : Nat → ClassId) (tE : Nat) (S : KS) (p0 : Int32) (post : Int32 → KS → Prop) : Prop :=
  (((fi S.1 21).toInt ≤ (fi S.1 15).toInt → w_X5_refuse_B36 cy tE post (ksi S 19 p0) (-1)) ∧ ((fi S.1 15).toInt < (fi S.1 21).toInt → (0 ≤ (fi S.1 15).toInt ∧ (fi S.1 15).toInt < 701) ∧ w_X5_refuse_B36 cy tE post (ksi S 19 p0) ((ar S.1 14) (fi S.1 15).toNatClampNeg)))

set_option maxHeartbeats 200000 in
set_option maxRecDepth 100000 in
theorem k_X5_refuse {l : Launch} {D : va_G} {cy : Nat → ClassId} {T0 tB tE : Nat} {a : Nat → Nat} {rw : Nat → Option Nat} (hrw : ∀ i, i < 6 → rw i = some (a (12 + 2 * i))) (S : KS) (p0 : Int32) (post : Int32 → KS → Prop) (h : w_X5_refuse cy tE S p0 post) : Ct l D cy T0 tB tE yX5_refuse cX5_refuse 2 (some .boolean) 0 0 0 0 (kw cy a rw S) [.ref (a 26), .int p0] (QI D (U := KS) post (kw cy a rw)) := by
  refine Ct.ofZ RX5 "refuse" [(0, .ref (a 26)), (1, .int p0)] rfl rfl rfl rfl (Nat.le_of_ble_eq_true rfl) ?_
  intro p e R s m args below meth c A b
  unfold w_X5_refuse at h
  refine z_aload_n b dX5_refuse_0 rfl rfl ?_
  refine z_iload_n b dX5_refuse_1 rfl rfl ?_
  refine z_put (q0 := 26) (k9 := 7) tyX5 b (kw_26 cy a rw S) rfl in_X5 tyX5_ok nmX5 (by decide) wf_X5_43 rfl rfl rfl rfl (Nat.le_of_ble_eq_true rfl) dX5_refuse_2 (kwp_26_7 cy a rw S p0) ?_
  refine z_aload_n b dX5_refuse_5 rfl rfl ?_
  refine z_aload_n b dX5_refuse_6 rfl rfl ?_
  refine z_get (q0 := 26) (k9 := 1) (v := .int (fi S.1 15)) b (kw_26 cy a rw (ksi S 19 p0)) rfl in_X5 (by decide) wf_X5_18 rfl dX5_refuse_7 ?_
  refine z_aload_n b dX5_refuse_10 rfl rfl ?_
  refine z_get (q0 := 26) (k9 := 0) (v := .ref (a 27)) b (kw_26 cy a rw (ksi S 19 p0)) rfl in_X5 (by decide) wf_X5_12 rfl dX5_refuse_11 ?_
  refine z_get (q0 := 27) (k9 := 4) (v := .int (fi S.1 21)) b (kw_27 cy a rw (ksi S 19 p0)) rfl in_X10 (by decide) wf_X5_56 rfl dX5_refuse_14 ?_
  refine y_icmp_ge (tgt := 35) (xl := (fi S.1 15).toInt) (yl := (fi S.1 21).toInt) b rfl rfl dX5_refuse_17 (by decide) (fun c1 => ?_) (fun c1 => ?_)
  · replace h := h.1 c1
    refine z_iconst (v := (-1)) b dX5_refuse_35 (by decide) ?_
    refine z_lv0 (lv' := []) [] rfl ?_
    exact z_X5_refuse_B36 hrw b _ _ h
  · replace h := h.2 c1
    refine z_aload_n b dX5_refuse_20 rfl rfl ?_
    refine z_get (q0 := 26) (k9 := 0) (v := .ref (a 27)) b (kw_26 cy a rw (ksi S 19 p0)) rfl in_X5 (by decide) wf_X5_12 rfl dX5_refuse_21 ?_
    refine z_get (q0 := 27) (k9 := 2) (v := .ref (a 30)) b (kw_27 cy a rw (ksi S 19 p0)) rfl in_X10 (by decide) wf_X5_168 rfl dX5_refuse_24 ?_
    refine z_aload_n b dX5_refuse_27 rfl rfl ?_
    refine z_get (q0 := 26) (k9 := 1) (v := .int (fi S.1 15)) b (kw_26 cy a rw (ksi S 19 p0)) rfl in_X5 (by decide) wf_X5_18 rfl dX5_refuse_28 ?_
    obtain ⟨g1, h⟩ := h
    refine y_iald (q0 := 30) (j := (fi S.1 15).toNatClampNeg) (v := ((ar S.1 14) (fi S.1 15).toNatClampNeg)) b (kw_30 cy a rw (ksi S 19 p0)) (zx_r g1.1 g1.2) rfl dX5_refuse_31 ?_
    refine z_goto (tgt := 36) b dX5_refuse_32 (by decide) ?_
    refine z_lv0 (lv' := []) [] rfl ?_
    exact z_X5_refuse_B36 hrw b _ _ h

def w_X5_isAtEnd_B20 (cy : Nat → ClassId) (tE : Nat) (post : Int32 → KS → Prop) (S : KS) (y0 : Int32) : Prop :=
  (y0 = 0 ∨ y0 = 1) ∧ post y0 S

set_option maxHeartbeats 200000 in
set_option maxRecDepth 100000 in
theorem z_X5_isAtEnd_B20 {p : Program} {l : Launch} {e : Env} {R : Room} {s : State} {m : MethodId} {args : Array Value} {below : List Frame} {meth : Method} {c : Code} {D : va_G} {cy : Nat → ClassId} {T0 tB tE : Nat} {A : Nat → Prop} {a : Nat → Nat} {rw : Nat → Option Nat} (hrw : ∀ i, i < 6 → rw i = some (a (12 + 2 * i))) {post : Int32 → KS → Prop} (b : Bz p R s m args meth c D cy T0 tB tE A 1 cX5_isAtEnd RX5 (some .boolean) "isAtEnd" 1 21 0 0) (S : KS) (y0 : Int32) (h : w_X5_isAtEnd_B20 cy tE post S y0) : Z p l e R s m args below meth c D A 1 (MQ below (QI D (U := KS) post (kw cy a rw) A) args s 0 0 A) 0 0 (kw cy a rw S) [] 20 [.int y0] := by
  unfold w_X5_isAtEnd_B20 at h
  obtain ⟨g3, h⟩ := h
  exact z_zret (u := S) b rfl (z_bool g3) dX5_isAtEnd_20 h rfl (by decide) (by decide)

def w_X5_isAtEnd_B15 (cy : Nat → ClassId) (tE : Nat) (post : Int32 → KS → Prop) (S : KS)  : Prop :=
  w_X5_isAtEnd_B20 cy tE post S 1

set_option maxHeartbeats 200000 in
set_option maxRecDepth 100000 in
theorem z_X5_isAtEnd_B15 {p : Program} {l : Launch} {e : Env} {R : Room} {s : State} {m : MethodId} {args : Array Value} {below : List Frame} {meth : Method} {c : Code} {D : va_G} {cy : Nat → ClassId} {T0 tB tE : Nat} {A : Nat → Prop} {a : Nat → Nat} {rw : Nat → Option Nat} (hrw : ∀ i, i < 6 → rw i = some (a (12 + 2 * i))) {post : Int32 → KS → Prop} (b : Bz p R s m args meth c D cy T0 tB tE A 1 cX5_isAtEnd RX5 (some .boolean) "isAtEnd" 1 21 0 0) (S : KS)  (h : w_X5_isAtEnd_B15 cy tE post S ) : Z p l e R s m args below meth c D A 1 (MQ below (QI D (U := KS) post (kw cy a rw) A) args s 0 0 A) 0 0 (kw cy a rw S) [] 15 [] := by
  unfold w_X5_isAtEnd_B15 at h
  refine z_iconst (v := 1) b dX5_isAtEnd_15 (by decide) ?_
  refine z_goto (tgt := 20) b dX5_isAtEnd_16 (by decide) ?_
  exact z_X5_isAtEnd_B20 hrw b _ _ h

def w_X5_isAtEnd (cy : Nat → ClassId) (tE : Nat) (S : KS)  (post : Int32 → KS → Prop) : Prop :=
  w_X5_kind cy tE S (fun r1 S2 => ((r1.toInt = 0 → w_X5_isAtEnd_B15 cy tE post S2) ∧ (r1.toInt ≠ 0 → w_X5_refuse cy tE S2 1 (fun r4 S5 => ((r4.toInt = 0 → w_X5_isAtEnd_B20 cy tE post S5 0) ∧ (r4.toInt ≠ 0 → w_X5_isAtEnd_B15 cy tE post S5))))))

set_option maxHeartbeats 200000 in
set_option maxRecDepth 100000 in
theorem k_X5_isAtEnd {l : Launch} {D : va_G} {cy : Nat → ClassId} {T0 tB tE : Nat} {a : Nat → Nat} {rw : Nat → Option Nat} (hrw : ∀ i, i < 6 → rw i = some (a (12 + 2 * i))) (S : KS)  (post : Int32 → KS → Prop) (h : w_X5_isAtEnd cy tE S  post) : Ct l D cy T0 tB tE yX5_isAtEnd cX5_isAtEnd 1 (some .boolean) 1 21 0 0 (kw cy a rw S) [.ref (a 26)] (QI D (U := KS) post (kw cy a rw)) := by
  refine Ct.ofZ RX5 "isAtEnd" [(0, .ref (a 26))] rfl rfl rfl rfl (Nat.le_of_ble_eq_true rfl) ?_
  intro p e R s m args below meth c A b
  unfold w_X5_isAtEnd at h
  refine z_aload_n b dX5_isAtEnd_0 rfl rfl ?_
  refine z_calli b (z_runV (q0 := 26) (As := []) (st := []) b (k_X5_kind hrw S _ h) cf_X5_kind (kw_26 cy a rw S) rfl wm_X5_66 wi_X5_kind ws_X5_kind dX5_isAtEnd_1 rfl (Nat.le_of_ble_eq_true rfl) ⟨by decide, by decide, Nat.le_of_ble_eq_true rfl, Nat.le_of_ble_eq_true rfl⟩) (fun r1 S2 h => ?_)
  refine y_if_eq (tgt := 15) (xl := r1.toInt) b rfl dX5_isAtEnd_4 (by decide) (fun c1 => ?_) (fun c1 => ?_)
  · replace h := h.1 c1
    refine z_lv0 (lv' := []) [] rfl ?_
    exact z_X5_isAtEnd_B15 hrw b _ h
  · replace h := h.2 c1
    refine z_aload_n b dX5_isAtEnd_7 rfl rfl ?_
    refine z_iconst (v := 1) b dX5_isAtEnd_8 (by decide) ?_
    refine z_calli b (z_runV (q0 := 26) (As := [.int 1]) (st := []) b (k_X5_refuse hrw S2 1 _ h) cf_X5_refuse (kw_26 cy a rw S2) rfl wm_X5_70 wi_X5_refuse ws_X5_refuse dX5_isAtEnd_9 rfl (Nat.le_of_ble_eq_true rfl) ⟨by decide, by decide, Nat.le_of_ble_eq_true rfl, Nat.le_of_ble_eq_true rfl⟩) (fun r4 S5 h => ?_)
    refine y_if_eq (tgt := 19) (xl := r4.toInt) b rfl dX5_isAtEnd_12 (by decide) (fun c1 => ?_) (fun c1 => ?_)
    · replace h := h.1 c1
      refine z_iconst (v := 0) b dX5_isAtEnd_19 (by decide) ?_
      refine z_lv0 (lv' := []) [] rfl ?_
      exact z_X5_isAtEnd_B20 hrw b _ _ h
    · replace h := h.2 c1
      refine z_lv0 (lv' := []) [] rfl ?_
      exact z_X5_isAtEnd_B15 hrw b _ h

def w_J7_copyOf_59c91 (cy : Nat → ClassId) (tE : Nat) (mc ms : Nat) (S : KS) (p1 : Int32) (post : Option Nat → KS → Prop) : Prop :=
  ((p1.toInt ≠ 700 → (0 ≤ p1.toInt ∧ p1.toInt ≤ 100000) ∧ (0 + 1 ≤ mc ∧ 0 + p1.toNatClampNeg ≤ ms) ∧ ∀ q1 : Nat, ((0 + 1) ≤ mc ∧ (0 + p1.toNatClampNeg) ≤ ms) ∧ ∃ (i5 n6 : Nat) (f7 : Nat → Int32), (vn S.2.2.2 (q1, .inl (cy 0, p1.toNatClampNeg, .inl (fun _ => 0))))[i5]? = some (q1, .inl (cy 0, n6, .inl f7)) ∧ (0 ≤ (if (p1 < 700 : Prop) then p1 else 700).toInt ∧ (if (p1 < 700 : Prop) then p1 else 700).toNatClampNeg ≤ 700 ∧ (if (p1 < 700 : Prop) then p1 else 700).toNatClampNeg ≤ n6) ∧ ((0 + 1) ≤ mc ∧ (0 + p1.toNatClampNeg) ≤ ms) ∧ post (some q1) (ksL (ksL S (vn S.2.2.2 (q1, .inl (cy 0, p1.toNatClampNeg, .inl (fun _ => 0))))) ((vn S.2.2.2 (q1, .inl (cy 0, p1.toNatClampNeg, .inl (fun _ => 0)))).set i5 (q1, .inl (cy 0, n6, .inl (va_cpy (ar S.1 15) f7 0 0 (if (p1 < 700 : Prop) then p1 else 700).toNatClampNeg)))))) ∧ (p1.toInt = 700 → False))

set_option maxHeartbeats 200000 in
set_option maxRecDepth 100000 in
theorem k_J7_copyOf_59c91 {l : Launch} {D : va_G} {cy : Nat → ClassId} {T0 tB tE : Nat} {a : Nat → Nat} {rw : Nat → Option Nat} (hrw : ∀ i, i < 6 → rw i = some (a (12 + 2 * i))) {mc ms : Nat} (S : KS) (p1 : Int32) (post : Option Nat → KS → Prop) (h : w_J7_copyOf_59c91 cy tE mc ms S p1 post) : Ct l D cy T0 tB tE yJ7_copyOf_59c91 cJ7_copyOf_59c91 3 (some (.array .int)) 1 40 mc ms (kw cy a rw S) [.ref (a 32), .int p1] (QQ D (U := KS) post (kw cy a rw)) := by
  refine Ct.ofZ RJ7 "copyOf" [(0, .ref (a 32)), (1, .int p1)] rfl rfl rfl rfl (Nat.le_of_ble_eq_true rfl) ?_
  intro p e R s m args below meth c A b
  unfold w_J7_copyOf_59c91 at h
  refine z_iload_n b dJ7_copyOf_59c91_0 rfl rfl ?_
  refine z_aload_n b dJ7_copyOf_59c91_1 rfl rfl ?_
  refine z_alen (q0 := 32) (t0 := 0) (v := 700) b (kw_32 cy a rw S) rfl rfl dJ7_copyOf_59c91_2 ?_
  refine y_icmp_ne (tgt := 14) (xl := p1.toInt) (yl := 700) b rfl (by decide) dJ7_copyOf_59c91_3 (by decide) (fun c1 => ?_) (fun c1 => ?_)
  · replace h := h.1 c1
    refine z_iload_n b dJ7_copyOf_59c91_14 rfl rfl ?_
    obtain ⟨g2, h⟩ := h
    obtain ⟨g3, h⟩ := h
    refine z_newI (N' := p1.toNatClampNeg) b wa_int (i_nneg g2.1) rfl (i_byt g2.1 g2.2) g3 dJ7_copyOf_59c91_15 (fun q1 => ?_)
    replace h := h q1
    refine z_wseq (kw_newv cy a rw S (q1, .inl (cy 0, p1.toNatClampNeg, .inl (fun _ => 0)))) ?_
    refine z_astore_n (lv' := [(2, .ref q1), (0, .ref (a 32)), (1, .int p1)]) b dJ7_copyOf_59c91_17 rfl (by decide) rfl ?_
    refine z_aload_n b dJ7_copyOf_59c91_18 rfl rfl ?_
    refine z_iconst (v := 0) b dJ7_copyOf_59c91_19 (by decide) ?_
    refine z_aload_n b dJ7_copyOf_59c91_20 rfl rfl ?_
    refine z_iconst (v := 0) b dJ7_copyOf_59c91_21 (by decide) ?_
    refine z_aload_n b dJ7_copyOf_59c91_22 rfl rfl ?_
    refine z_alen (q0 := 32) (t0 := 0) (v := 700) b (kw_32 cy a rw (ksL S (vn S.2.2.2 (q1, .inl (cy 0, p1.toNatClampNeg, .inl (fun _ => 0)))))) rfl rfl dJ7_copyOf_59c91_23 ?_
    refine z_iload_n b dJ7_copyOf_59c91_24 rfl rfl ?_
    obtain ⟨g4, h⟩ := h
    refine z_mmin (v := (if (p1 < 700 : Prop) then p1 else 700)) b wL_J7_304 wLs_mmin wi_Math wLc_mmin dJ7_copyOf_59c91_25 (by decide) (Nat.le_of_ble_eq_true rfl) ⟨g4.1, g4.2⟩ rfl ?_
    obtain ⟨i5, n6, f7, g8, h⟩ := h
    obtain ⟨g9, h⟩ := h
    refine z_copyi (q0 := 32) (q1 := 47 + i5) (j0 := 0) (j1 := 0) (jn := (if (p1 < 700 : Prop) then p1 else 700).toNatClampNeg) b wm_J7_150 wn_arraycopy ws_arraycopy wi_System (kw_32 cy a rw (ksL S (vn S.2.2.2 (q1, .inl (cy 0, p1.toNatClampNeg, .inl (fun _ => 0)))))) (kw_dyn cy a rw (ksL S (vn S.2.2.2 (q1, .inl (cy 0, p1.toNatClampNeg, .inl (fun _ => 0))))) g8) (by decide) (by decide) ⟨rfl, i_nneg g9.1⟩ (by rw [Nat.zero_add]; exact g9.2.1) (by rw [Nat.zero_add]; exact g9.2.2) (by decide) (by decide +kernel) dJ7_copyOf_59c91_28 (kw_dset cy a rw (ksL S (vn S.2.2.2 (q1, .inl (cy 0, p1.toNatClampNeg, .inl (fun _ => 0))))) i5 (q1, .inl (cy 0, n6, .inl (va_cpy (ar S.1 15) f7 0 0 (if (p1 < 700 : Prop) then p1 else 700).toNatClampNeg)))) ?_
    refine z_aload_n b dJ7_copyOf_59c91_31 rfl rfl ?_
    obtain ⟨g10, h⟩ := h
    exact z_aret (v := (some q1)) (u := (ksL (ksL S (vn S.2.2.2 (q1, .inl (cy 0, p1.toNatClampNeg, .inl (fun _ => 0))))) ((vn S.2.2.2 (q1, .inl (cy 0, p1.toNatClampNeg, .inl (fun _ => 0)))).set i5 (q1, .inl (cy 0, n6, .inl (va_cpy (ar S.1 15) f7 0 0 (if (p1 < 700 : Prop) then p1 else 700).toNatClampNeg)))))) b rfl (Or.inr ⟨_, rfl⟩) dJ7_copyOf_59c91_32 h rfl g10.1 g10.2
  · replace h := h.2 c1
    refine z_aload_n b dJ7_copyOf_59c91_6 rfl rfl ?_
    exact h.elim

def w_X1_init (cy : Nat → ClassId) (tE : Nat) (S : KS) (p9 : Nat) (p0 : Int32) (p1 : Int32) (p2 : Nat) (post : KS → Prop) : Prop :=
  ∃ (i1 : Nat) (f2 : Int32) (f3 : Int32) (f4 : Value), S.2.2.2[i1]? = some (p9, .inr (2, [.int f2, .int f3, f4])) ∧ ∃ (i6 : Nat) (f7 : Int32) (f8 : Int32) (f9 : Value), (S.2.2.2.set i1 (p9, .inr (2, [.int p0, .int f3, f4])))[i6]? = some (p9, .inr (2, [.int f7, .int f8, f9])) ∧ ∃ (i11 : Nat) (f12 : Int32) (f13 : Int32) (f14 : Value), ((S.2.2.2.set i1 (p9, .inr (2, [.int p0, .int f3, f4]))).set i6 (p9, .inr (2, [.int f7, .int p1, f9])))[i11]? = some (p9, .inr (2, [.int f12, .int f13, f14])) ∧ post (ksL (ksL (ksL S (S.2.2.2.set i1 (p9, .inr (2, [.int p0, .int f3, f4])))) ((S.2.2.2.set i1 (p9, .inr (2, [.int p0, .int f3, f4]))).set i6 (p9, .inr (2, [.int f7, .int p1, f9])))) (((S.2.2.2.set i1 (p9, .inr (2, [.int p0, .int f3, f4]))).set i6 (p9, .inr (2, [.int f7, .int p1, f9]))).set i11 (p9, .inr (2, [.int f12, .int f13, .ref p2]))))

set_option maxHeartbeats 200000 in
set_option maxRecDepth 100000 in
theorem k_X1_init {l : Launch} {D : va_G} {cy : Nat → ClassId} {T0 tB tE : Nat} {a : Nat → Nat} {rw : Nat → Option Nat} (hrw : ∀ i, i < 6 → rw i = some (a (12 + 2 * i))) (S : KS) (p9 : Nat) (p0 : Int32) (p1 : Int32) (p2 : Nat) (post : KS → Prop) (h : w_X1_init cy tE S p9 p0 p1 p2 post) : Ct l D cy T0 tB tE yX1_init cX1_init 4 none 1 20 0 0 (kw cy a rw S) [.ref p9, .int p0, .int p1, .ref p2] (QV D (U := KS) post (kw cy a rw)) := by
  refine Ct.ofZ RX1 "<init>" [(0, .ref p9), (1, .int p0), (2, .int p1), (3, .ref p2)] rfl rfl rfl rfl (Nat.le_of_ble_eq_true rfl) ?_
  intro p e R s m args below meth c A b
  unfold w_X1_init at h
  refine z_aload_n b dX1_init_0 rfl rfl ?_
  refine z_objInit b wm_X1_1 wi_objInit wc_objInit dX1_init_1 (by decide) (Nat.le_of_ble_eq_true rfl) ?_
  refine z_aload_n b dX1_init_4 rfl rfl ?_
  refine z_iload_n b dX1_init_5 rfl rfl ?_
  obtain ⟨i1, f2, f3, f4, g5, h⟩ := h
  refine z_putF (q0 := 47 + i1) (k9 := 0) tyX1 b (kw_dyn cy a rw S g5) rfl in_X1 tyX1_ok nmX1 (by decide) wf_X1_7 rfl rfl rfl rfl rfl rfl (Nat.le_of_ble_eq_true rfl) dX1_init_6 (kw_dset cy a rw S i1 (p9, .inr (2, [.int p0, .int f3, f4]))) ?_
  refine z_aload_n b dX1_init_9 rfl rfl ?_
  refine z_iload_n b dX1_init_10 rfl rfl ?_
  obtain ⟨i6, f7, f8, f9, g10, h⟩ := h
  refine z_putF (q0 := 47 + i6) (k9 := 1) tyX1 b (kw_dyn cy a rw (ksL S (S.2.2.2.set i1 (p9, .inr (2, [.int p0, .int f3, f4])))) g10) rfl in_X1 tyX1_ok nmX1 (by decide) wf_X1_13 rfl rfl rfl rfl rfl rfl (Nat.le_of_ble_eq_true rfl) dX1_init_11 (kw_dset cy a rw (ksL S (S.2.2.2.set i1 (p9, .inr (2, [.int p0, .int f3, f4])))) i6 (p9, .inr (2, [.int f7, .int p1, f9]))) ?_
  refine z_aload_n b dX1_init_14 rfl rfl ?_
  refine z_aload_n b dX1_init_15 rfl rfl ?_
  obtain ⟨i11, f12, f13, f14, g15, h⟩ := h
  refine z_putF (q0 := 47 + i11) (k9 := 2) tyX1 b (kw_dyn cy a rw (ksL (ksL S (S.2.2.2.set i1 (p9, .inr (2, [.int p0, .int f3, f4])))) ((S.2.2.2.set i1 (p9, .inr (2, [.int p0, .int f3, f4]))).set i6 (p9, .inr (2, [.int f7, .int p1, f9])))) g15) rfl in_X1 tyX1_ok nmX1 (by decide) wf_X1_16 rfl rfl rfl rfl rfl rfl (Nat.le_of_ble_eq_true rfl) dX1_init_16 (kw_dset cy a rw (ksL (ksL S (S.2.2.2.set i1 (p9, .inr (2, [.int p0, .int f3, f4])))) ((S.2.2.2.set i1 (p9, .inr (2, [.int p0, .int f3, f4]))).set i6 (p9, .inr (2, [.int f7, .int p1, f9])))) i11 (p9, .inr (2, [.int f12, .int f13, .ref p2]))) ?_
  exact z_vret (u := (ksL (ksL (ksL S (S.2.2.2.set i1 (p9, .inr (2, [.int p0, .int f3, f4])))) ((S.2.2.2.set i1 (p9, .inr (2, [.int p0, .int f3, f4]))).set i6 (p9, .inr (2, [.int f7, .int p1, f9])))) (((S.2.2.2.set i1 (p9, .inr (2, [.int p0, .int f3, f4]))).set i6 (p9, .inr (2, [.int f7, .int p1, f9]))).set i11 (p9, .inr (2, [.int f12, .int f13, .ref p2]))))) b rfl dX1_init_19 h rfl (by decide) (by decide)

def w_X5_clause (cy : Nat → ClassId) (tE : Nat) (mc ms : Nat) (S : KS) (p0 : Int32) (p1 : Int32) (post : Option Nat → KS → Prop) : Prop :=
  (0 + 1 ≤ mc ∧ 0 + 3 ≤ ms) ∧ ∀ q2 : Nat, ∃ m3 m4 : Nat, ((0 + 1) + m3 ≤ mc ∧ (0 + 3) + m4 ≤ ms) ∧ w_J7_copyOf_59c91 cy tE m3 m4 (ksL S (vn S.2.2.2 (q2, .inr (2, [.int 0, .int 0, .null])))) (fi S.1 16) (fun r6 S7 => ∃ q8 : Nat, r6 = some q8 ∧ (((0 + 1) + m3) ≤ mc ∧ ((0 + 3) + m4) ≤ ms) ∧ w_X1_init cy tE S7 q2 p0 p1 q8 (fun S12 => (((0 + 1) + m3) ≤ mc ∧ ((0 + 3) + m4) ≤ ms) ∧ post (some q2) S12))

set_option maxHeartbeats 200000 in
set_option maxRecDepth 100000 in
theorem k_X5_clause {l : Launch} {D : va_G} {cy : Nat → ClassId} {T0 tB tE : Nat} {a : Nat → Nat} {rw : Nat → Option Nat} (hrw : ∀ i, i < 6 → rw i = some (a (12 + 2 * i))) {mc ms : Nat} (S : KS) (p0 : Int32) (p1 : Int32) (post : Option Nat → KS → Prop) (h : w_X5_clause cy tE mc ms S p0 p1 post) : Ct l D cy T0 tB tE yX5_clause cX5_clause 3 (some (.object "LawHoles$Clause")) 2 62 mc ms (kw cy a rw S) [.ref (a 26), .int p0, .int p1] (QQ D (U := KS) post (kw cy a rw)) := by
  refine Ct.ofZ RX5 "clause" [(0, .ref (a 26)), (1, .int p0), (2, .int p1)] rfl rfl rfl rfl (Nat.le_of_ble_eq_true rfl) ?_
  intro p e R s m args below meth c A b
  unfold w_X5_clause at h
  obtain ⟨g1, h⟩ := h
  refine z_new (fs := [.int 0, .int 0, .null]) (N := 3) (ci := 2) tyX1 b in_X1 tyX1_ok wk_X5_74 wn_X1 w0_X1 rfl tyX1_df g1 dX5_clause_0 (fun q2 => ?_)
  replace h := h q2
  refine z_wseq (kw_newv cy a rw S (q2, .inr (2, [.int 0, .int 0, .null]))) ?_
  refine z_dup b dX5_clause_3 rfl ?_
  refine z_iload_n b dX5_clause_4 rfl rfl ?_
  refine z_iload_n b dX5_clause_5 rfl rfl ?_
  refine z_aload_n b dX5_clause_6 rfl rfl ?_
  refine z_get (q0 := 26) (k9 := 2) (v := .ref (a 32)) b (kw_26 cy a rw (ksL S (vn S.2.2.2 (q2, .inr (2, [.int 0, .int 0, .null]))))) rfl in_X5 (by decide) wf_X5_22 rfl dX5_clause_7 ?_
  refine z_aload_n b dX5_clause_10 rfl rfl ?_
  refine z_get (q0 := 26) (k9 := 3) (v := .int (fi S.1 16)) b (kw_26 cy a rw (ksL S (vn S.2.2.2 (q2, .inr (2, [.int 0, .int 0, .null]))))) rfl in_X5 (by decide) wf_X5_26 rfl dX5_clause_11 ?_
  obtain ⟨m3, m4, g5, h⟩ := h
  refine z_callq b (z_runS (As := [.ref (a 32), .int (fi S.1 16)]) (st := [.int p1, .int p0, .ref q2, .ref q2]) b (k_J7_copyOf_59c91 hrw (ksL S (vn S.2.2.2 (q2, .inr (2, [.int 0, .int 0, .null])))) (fi S.1 16) _ h) cf_J7_copyOf_59c91 wm_X5_76 ws_J7_copyOf_59c91 dX5_clause_14 rfl (Nat.le_of_ble_eq_true rfl) ⟨by decide, by decide, g5.1, g5.2⟩) (fun r6 S7 h => ?_)
  obtain ⟨q8, g9, h⟩ := h
  subst g9
  obtain ⟨g10, h⟩ := h
  refine z_callv b (z_runI (As := [.int p0, .int p1, .ref q8]) (st := [.ref q2]) b (k_X1_init hrw S7 q2 p0 p1 q8 _ h) cf_X1_init wm_X5_82 wi_X1_init rfl dX5_clause_17 rfl (Nat.le_of_ble_eq_true rfl) ⟨by decide, by decide, g10.1, g10.2⟩) (fun S12 h => ?_)
  obtain ⟨g13, h⟩ := h
  exact z_aret (v := (some q2)) (u := S12) b rfl (Or.inl ⟨_, rfl⟩) dX5_clause_20 h rfl g13.1 g13.2

def w_X5_emit_B37 (cy : Nat → ClassId) (tE : Nat) (post : KS → Prop) (S : KS)  : Prop :=
  post S

set_option maxHeartbeats 200000 in
set_option maxRecDepth 100000 in
theorem z_X5_emit_B37 {p : Program} {l : Launch} {e : Env} {R : Room} {s : State} {m : MethodId} {args : Array Value} {below : List Frame} {meth : Method} {c : Code} {D : va_G} {cy : Nat → ClassId} {T0 tB tE : Nat} {A : Nat → Prop} {a : Nat → Nat} {rw : Nat → Option Nat} (hrw : ∀ i, i < 6 → rw i = some (a (12 + 2 * i))) {post : KS → Prop} (b : Bz p R s m args meth c D cy T0 tB tE A 3 cX5_emit RX5 none "emit" 0 0 0 0) (S : KS)  (h : w_X5_emit_B37 cy tE post S ) : Z p l e R s m args below meth c D A 3 (MQ below (QV D (U := KS) post (kw cy a rw) A) args s 0 0 A) 0 0 (kw cy a rw S) [] 37 [] := by
  unfold w_X5_emit_B37 at h
  exact z_vret (u := S) b rfl dX5_emit_37 h rfl (by decide) (by decide)

def w_X5_emit (cy : Nat → ClassId) (tE : Nat) (S : KS) (p0 : Int32) (p1 : Int32) (post : KS → Prop) : Prop :=
  ((700 ≤ (fi S.1 16).toInt → w_X5_emit_B37 cy tE post S) ∧ ((fi S.1 16).toInt < 700 → (0 ≤ (fi S.1 16).toInt ∧ (fi S.1 16).toInt < 700) ∧ w_X5_emit_B37 cy tE post (ksi (ksu S 15 ((fi S.1 16).toNatClampNeg) (p0 + ((32 : Int32) * p1))) 16 ((fi S.1 16) + 1))))

set_option maxHeartbeats 200000 in
set_option maxRecDepth 100000 in
theorem k_X5_emit {l : Launch} {D : va_G} {cy : Nat → ClassId} {T0 tB tE : Nat} {a : Nat → Nat} {rw : Nat → Option Nat} (hrw : ∀ i, i < 6 → rw i = some (a (12 + 2 * i))) (S : KS) (p0 : Int32) (p1 : Int32) (post : KS → Prop) (h : w_X5_emit cy tE S p0 p1 post) : Ct l D cy T0 tB tE yX5_emit cX5_emit 3 none 0 0 0 0 (kw cy a rw S) [.ref (a 26), .int p0, .int p1] (QV D (U := KS) post (kw cy a rw)) := by
  refine Ct.ofZ RX5 "emit" [(0, .ref (a 26)), (1, .int p0), (2, .int p1)] rfl rfl rfl rfl (Nat.le_of_ble_eq_true rfl) ?_
  intro p e R s m args below meth c A b
  unfold w_X5_emit at h
  refine z_aload_n b dX5_emit_0 rfl rfl ?_
  refine z_get (q0 := 26) (k9 := 3) (v := .int (fi S.1 16)) b (kw_26 cy a rw S) rfl in_X5 (by decide) wf_X5_26 rfl dX5_emit_1 ?_
  refine z_aload_n b dX5_emit_4 rfl rfl ?_
  refine z_get (q0 := 26) (k9 := 2) (v := .ref (a 32)) b (kw_26 cy a rw S) rfl in_X5 (by decide) wf_X5_22 rfl dX5_emit_5 ?_
  refine z_alen (q0 := 32) (t0 := 0) (v := 700) b (kw_32 cy a rw S) rfl rfl dX5_emit_8 ?_
  refine y_icmp_ge (tgt := 37) (xl := (fi S.1 16).toInt) (yl := 700) b rfl (by decide) dX5_emit_9 (by decide) (fun c1 => ?_) (fun c1 => ?_)
  · replace h := h.1 c1
    refine z_lv0 (lv' := []) [] rfl ?_
    exact z_X5_emit_B37 hrw b _ h
  · replace h := h.2 c1
    refine z_aload_n b dX5_emit_12 rfl rfl ?_
    refine z_get (q0 := 26) (k9 := 2) (v := .ref (a 32)) b (kw_26 cy a rw S) rfl in_X5 (by decide) wf_X5_22 rfl dX5_emit_13 ?_
    refine z_aload_n b dX5_emit_16 rfl rfl ?_
    refine z_get (q0 := 26) (k9 := 3) (v := .int (fi S.1 16)) b (kw_26 cy a rw S) rfl in_X5 (by decide) wf_X5_26 rfl dX5_emit_17 ?_
    refine z_iload_n b dX5_emit_20 rfl rfl ?_
    refine z_bipush (v := 32) b dX5_emit_21 (by decide) ?_
    refine z_iload_n b dX5_emit_23 rfl rfl ?_
    refine z_imul b dX5_emit_24 rfl ?_
    refine z_iadd b dX5_emit_25 rfl ?_
    obtain ⟨g1, h⟩ := h
    refine y_iast (q0 := 32) (j := (fi S.1 16).toNatClampNeg) b (kw_32 cy a rw S) (zx_r g1.1 g1.2) dX5_emit_26 (kwa_32 cy a rw S ((fi S.1 16).toNatClampNeg) (p0 + ((32 : Int32) * p1))) ?_
    refine z_aload_n b dX5_emit_27 rfl rfl ?_
    refine z_dup b dX5_emit_28 rfl ?_
    refine z_get (q0 := 26) (k9 := 3) (v := .int (fi S.1 16)) b (kw_26 cy a rw (ksu S 15 ((fi S.1 16).toNatClampNeg) (p0 + ((32 : Int32) * p1)))) rfl in_X5 (by decide) wf_X5_26 rfl dX5_emit_29 ?_
    refine z_iconst (v := 1) b dX5_emit_32 (by decide) ?_
    refine z_iadd b dX5_emit_33 rfl ?_
    refine z_put (q0 := 26) (k9 := 3) tyX5 b (kw_26 cy a rw (ksu S 15 ((fi S.1 16).toNatClampNeg) (p0 + ((32 : Int32) * p1)))) rfl in_X5 tyX5_ok nmX5 (by decide) wf_X5_26 rfl rfl rfl rfl (Nat.le_of_ble_eq_true rfl) dX5_emit_34 (kwp_26_3 cy a rw (ksu S 15 ((fi S.1 16).toNatClampNeg) (p0 + ((32 : Int32) * p1))) ((fi S.1 16) + 1)) ?_
    refine z_lv0 (lv' := []) [] rfl ?_
    exact z_X5_emit_B37 hrw b _ h

def w_X5_readEither_B122 (cy : Nat → ClassId) (tE : Nat) (sg : KS → Int32 → (Int32 → KS → Prop) → Prop) (post : Int32 → KS → Prop) (k14 : KS → Int32 → Int32 → Int32 → Prop) (k128 : KS → Int32 → Prop) (S : KS) (x1 : Int32) (x2 : Int32) (x3 : Int32) : Prop :=
  k14 S x1 x2 (x3 + 1)

set_option maxHeartbeats 200000 in
set_option maxRecDepth 100000 in
theorem z_X5_readEither_B122 {p : Program} {l : Launch} {e : Env} {R : Room} {s : State} {m : MethodId} {args : Array Value} {below : List Frame} {meth : Method} {c : Code} {D : va_G} {cy : Nat → ClassId} {T0 tB tE : Nat} {A : Nat → Prop} {a : Nat → Nat} {rw : Nat → Option Nat} (hrw : ∀ i, i < 6 → rw i = some (a (12 + 2 * i))) {d : Nat} {sg : KS → Int32 → (Int32 → KS → Prop) → Prop} (hsg : ∀ (S : KS) (q0 : Int32) (post : Int32 → KS → Prop), sg S q0 post → Ct l D cy T0 tB tE yX5_readClaim cX5_readClaim 4 (some .boolean) (4 + 3 * d) (88 + 69 * d) 0 0 (kw cy a rw S) [.ref (a 26), .int q0] (QI D (U := KS) post (kw cy a rw))) {post : Int32 → KS → Prop} {k14 : KS → Int32 → Int32 → Int32 → Prop} {k128 : KS → Int32 → Prop} (b : Bz p R s m args meth c D cy T0 tB tE A 5 cX5_readEither RX5 (some .boolean) "readEither" (4 + 3 * d + 1) (88 + 69 * d + 23) 0 0) (hk14 : ∀ (S : KS) (x1 : Int32) (x2 : Int32) (x3 : Int32), k14 S x1 x2 x3 → Z p l e R s m args below meth c D A 5 (MQ below (QI D (U := KS) post (kw cy a rw) A) args s 0 0 A) 0 0 (kw cy a rw S) [(0, .ref (a 26)), (1, .int x1), (2, .int x2), (3, .int x3)] 14 []) (hk128 : ∀ (S : KS) (x2 : Int32), k128 S x2 → Z p l e R s m args below meth c D A 5 (MQ below (QI D (U := KS) post (kw cy a rw) A) args s 0 0 A) 0 0 (kw cy a rw S) [(0, .ref (a 26)), (2, .int x2)] 128 []) (S : KS) (x1 : Int32) (x2 : Int32) (x3 : Int32) (h : w_X5_readEither_B122 cy tE sg post k14 k128 S x1 x2 x3) : Z p l e R s m args below meth c D A 5 (MQ below (QI D (U := KS) post (kw cy a rw) A) args s 0 0 A) 0 0 (kw cy a rw S) [(0, .ref (a 26)), (1, .int x1), (2, .int x2), (3, .int x3)] 122 [] := by
  unfold w_X5_readEither_B122 at h
  refine z_iinc (k9 := 3) (v := (x3 + 1)) (lv' := [(3, .int (x3 + 1)), (0, .ref (a 26)), (1, .int x1), (2, .int x2)]) b dX5_readEither_122 rfl rfl (by decide) rfl ?_
  refine z_goto (tgt := 14) b dX5_readEither_125 (by decide) ?_
  refine z_lv0 (lv' := [(0, .ref (a 26)), (1, .int x1), (2, .int x2), (3, .int (x3 + 1))]) [1, 2, 3, 0] rfl ?_
  exact hk14 _ _ _ _ h

def w_X5_readEither_B99 (cy : Nat → ClassId) (tE : Nat) (sg : KS → Int32 → (Int32 → KS → Prop) → Prop) (post : Int32 → KS → Prop) (k14 : KS → Int32 → Int32 → Int32 → Prop) (k128 : KS → Int32 → Prop) (S : KS) (x1 : Int32) (x3 : Int32) (x4 : Int32) (y0 : Int32) : Prop :=
  sg S x1 (fun r7 S8 => ((r7.toInt ≠ 0 → ((x4.toInt = 0 → w_X5_readEither_B122 cy tE sg post k14 k128 S8 x1 y0 x3) ∧ (x4.toInt ≠ 0 → w_X5_emit cy tE S8 16 0 (fun S10 => w_X5_readEither_B122 cy tE sg post k14 k128 S10 x1 y0 x3)))) ∧ (r7.toInt = 0 → post 0 S8)))

set_option maxHeartbeats 200000 in
set_option maxRecDepth 100000 in
theorem z_X5_readEither_B99 {p : Program} {l : Launch} {e : Env} {R : Room} {s : State} {m : MethodId} {args : Array Value} {below : List Frame} {meth : Method} {c : Code} {D : va_G} {cy : Nat → ClassId} {T0 tB tE : Nat} {A : Nat → Prop} {a : Nat → Nat} {rw : Nat → Option Nat} (hrw : ∀ i, i < 6 → rw i = some (a (12 + 2 * i))) {d : Nat} {sg : KS → Int32 → (Int32 → KS → Prop) → Prop} (hsg : ∀ (S : KS) (q0 : Int32) (post : Int32 → KS → Prop), sg S q0 post → Ct l D cy T0 tB tE yX5_readClaim cX5_readClaim 4 (some .boolean) (4 + 3 * d) (88 + 69 * d) 0 0 (kw cy a rw S) [.ref (a 26), .int q0] (QI D (U := KS) post (kw cy a rw))) {post : Int32 → KS → Prop} {k14 : KS → Int32 → Int32 → Int32 → Prop} {k128 : KS → Int32 → Prop} (b : Bz p R s m args meth c D cy T0 tB tE A 5 cX5_readEither RX5 (some .boolean) "readEither" (4 + 3 * d + 1) (88 + 69 * d + 23) 0 0) (hk14 : ∀ (S : KS) (x1 : Int32) (x2 : Int32) (x3 : Int32), k14 S x1 x2 x3 → Z p l e R s m args below meth c D A 5 (MQ below (QI D (U := KS) post (kw cy a rw) A) args s 0 0 A) 0 0 (kw cy a rw S) [(0, .ref (a 26)), (1, .int x1), (2, .int x2), (3, .int x3)] 14 []) (hk128 : ∀ (S : KS) (x2 : Int32), k128 S x2 → Z p l e R s m args below meth c D A 5 (MQ below (QI D (U := KS) post (kw cy a rw) A) args s 0 0 A) 0 0 (kw cy a rw S) [(0, .ref (a 26)), (2, .int x2)] 128 []) (S : KS) (x1 : Int32) (x3 : Int32) (x4 : Int32) (y0 : Int32) (h : w_X5_readEither_B99 cy tE sg post k14 k128 S x1 x3 x4 y0) : Z p l e R s m args below meth c D A 5 (MQ below (QI D (U := KS) post (kw cy a rw) A) args s 0 0 A) 0 0 (kw cy a rw S) [(0, .ref (a 26)), (1, .int x1), (3, .int x3), (4, .int x4)] 99 [.int y0] := by
  unfold w_X5_readEither_B99 at h
  refine z_istore_n (lv' := [(2, .int y0), (0, .ref (a 26)), (1, .int x1), (3, .int x3), (4, .int x4)]) b dX5_readEither_99 rfl (by decide) rfl ?_
  refine z_aload_n b dX5_readEither_100 rfl rfl ?_
  refine z_iload_n b dX5_readEither_101 rfl rfl ?_
  refine z_calli b (z_runV (q0 := 26) (As := [.int x1]) (st := []) b (hsg S x1 _ h) cf_X5_readClaim (kw_26 cy a rw S) rfl wm_X5_158 wi_X5_readClaim ws_X5_readClaim dX5_readEither_102 rfl (Nat.le_of_ble_eq_true rfl) ⟨by omega, by omega, Nat.le_of_ble_eq_true rfl, Nat.le_of_ble_eq_true rfl⟩) (fun r7 S8 h => ?_)
  refine y_if_ne (tgt := 110) (xl := r7.toInt) b rfl dX5_readEither_105 (by decide) (fun c1 => ?_) (fun c1 => ?_)
  · replace h := h.1 c1
    refine z_iload b dX5_readEither_110 rfl ?_
    refine y_if_eq (tgt := 122) (xl := x4.toInt) b rfl dX5_readEither_112 (by decide) (fun c1 => ?_) (fun c1 => ?_)
    · replace h := h.1 c1
      refine z_lv0 (lv' := [(0, .ref (a 26)), (1, .int x1), (2, .int y0), (3, .int x3)]) [1, 2, 0, 3] rfl ?_
      exact z_X5_readEither_B122 hrw hsg b hk14 hk128 _ _ _ _ h
    · replace h := h.2 c1
      refine z_aload_n b dX5_readEither_115 rfl rfl ?_
      refine z_bipush (v := 16) b dX5_readEither_116 (by decide) ?_
      refine z_iconst (v := 0) b dX5_readEither_118 (by decide) ?_
      refine z_callv b (z_runV (q0 := 26) (As := [.int 16, .int 0]) (st := []) b (k_X5_emit hrw S8 16 0 _ h) cf_X5_emit (kw_26 cy a rw S8) rfl wm_X5_147 wi_X5_emit ws_X5_emit dX5_readEither_119 rfl (Nat.le_of_ble_eq_true rfl) ⟨by omega, by omega, Nat.le_of_ble_eq_true rfl, Nat.le_of_ble_eq_true rfl⟩) (fun S10 h => ?_)
      refine z_lv0 (lv' := [(0, .ref (a 26)), (1, .int x1), (2, .int y0), (3, .int x3)]) [1, 2, 0, 3] rfl ?_
      exact z_X5_readEither_B122 hrw hsg b hk14 hk128 _ _ _ _ h
  · replace h := h.2 c1
    refine z_iconst (v := 0) b dX5_readEither_108 (by decide) ?_
    exact z_zret (u := S8) b rfl (by decide) dX5_readEither_109 h rfl (by decide) (by decide)

def w_X5_readEither_B94 (cy : Nat → ClassId) (tE : Nat) (sg : KS → Int32 → (Int32 → KS → Prop) → Prop) (post : Int32 → KS → Prop) (k14 : KS → Int32 → Int32 → Int32 → Prop) (k128 : KS → Int32 → Prop) (S : KS) (x1 : Int32) (x3 : Int32) (x4 : Int32) : Prop :=
  w_X5_readEither_B99 cy tE sg post k14 k128 S x1 x3 x4 1

set_option maxHeartbeats 200000 in
set_option maxRecDepth 100000 in
theorem z_X5_readEither_B94 {p : Program} {l : Launch} {e : Env} {R : Room} {s : State} {m : MethodId} {args : Array Value} {below : List Frame} {meth : Method} {c : Code} {D : va_G} {cy : Nat → ClassId} {T0 tB tE : Nat} {A : Nat → Prop} {a : Nat → Nat} {rw : Nat → Option Nat} (hrw : ∀ i, i < 6 → rw i = some (a (12 + 2 * i))) {d : Nat} {sg : KS → Int32 → (Int32 → KS → Prop) → Prop} (hsg : ∀ (S : KS) (q0 : Int32) (post : Int32 → KS → Prop), sg S q0 post → Ct l D cy T0 tB tE yX5_readClaim cX5_readClaim 4 (some .boolean) (4 + 3 * d) (88 + 69 * d) 0 0 (kw cy a rw S) [.ref (a 26), .int q0] (QI D (U := KS) post (kw cy a rw))) {post : Int32 → KS → Prop} {k14 : KS → Int32 → Int32 → Int32 → Prop} {k128 : KS → Int32 → Prop} (b : Bz p R s m args meth c D cy T0 tB tE A 5 cX5_readEither RX5 (some .boolean) "readEither" (4 + 3 * d + 1) (88 + 69 * d + 23) 0 0) (hk14 : ∀ (S : KS) (x1 : Int32) (x2 : Int32) (x3 : Int32), k14 S x1 x2 x3 → Z p l e R s m args below meth c D A 5 (MQ below (QI D (U := KS) post (kw cy a rw) A) args s 0 0 A) 0 0 (kw cy a rw S) [(0, .ref (a 26)), (1, .int x1), (2, .int x2), (3, .int x3)] 14 []) (hk128 : ∀ (S : KS) (x2 : Int32), k128 S x2 → Z p l e R s m args below meth c D A 5 (MQ below (QI D (U := KS) post (kw cy a rw) A) args s 0 0 A) 0 0 (kw cy a rw S) [(0, .ref (a 26)), (2, .int x2)] 128 []) (S : KS) (x1 : Int32) (x3 : Int32) (x4 : Int32) (h : w_X5_readEither_B94 cy tE sg post k14 k128 S x1 x3 x4) : Z p l e R s m args below meth c D A 5 (MQ below (QI D (U := KS) post (kw cy a rw) A) args s 0 0 A) 0 0 (kw cy a rw S) [(0, .ref (a 26)), (1, .int x1), (3, .int x3), (4, .int x4)] 94 [] := by
  unfold w_X5_readEither_B94 at h
  refine z_iconst (v := 1) b dX5_readEither_94 (by decide) ?_
  refine z_goto (tgt := 99) b dX5_readEither_95 (by decide) ?_
  exact z_X5_readEither_B99 hrw hsg b hk14 hk128 _ _ _ _ _ h

def w_X5_readEither_B85 (cy : Nat → ClassId) (tE : Nat) (sg : KS → Int32 → (Int32 → KS → Prop) → Prop) (post : Int32 → KS → Prop) (k14 : KS → Int32 → Int32 → Int32 → Prop) (k128 : KS → Int32 → Prop) (S : KS) (x1 : Int32) (x2 : Int32) (x3 : Int32) (x4 : Int32) : Prop :=
  ((x2.toInt ≠ 0 → w_X5_readEither_B94 cy tE sg post k14 k128 S x1 x3 x4) ∧ (x2.toInt = 0 → ((x4.toInt ≠ 0 → w_X5_readEither_B99 cy tE sg post k14 k128 S x1 x3 x4 0) ∧ (x4.toInt = 0 → w_X5_readEither_B94 cy tE sg post k14 k128 S x1 x3 x4))))

set_option maxHeartbeats 200000 in
set_option maxRecDepth 100000 in
theorem z_X5_readEither_B85 {p : Program} {l : Launch} {e : Env} {R : Room} {s : State} {m : MethodId} {args : Array Value} {below : List Frame} {meth : Method} {c : Code} {D : va_G} {cy : Nat → ClassId} {T0 tB tE : Nat} {A : Nat → Prop} {a : Nat → Nat} {rw : Nat → Option Nat} (hrw : ∀ i, i < 6 → rw i = some (a (12 + 2 * i))) {d : Nat} {sg : KS → Int32 → (Int32 → KS → Prop) → Prop} (hsg : ∀ (S : KS) (q0 : Int32) (post : Int32 → KS → Prop), sg S q0 post → Ct l D cy T0 tB tE yX5_readClaim cX5_readClaim 4 (some .boolean) (4 + 3 * d) (88 + 69 * d) 0 0 (kw cy a rw S) [.ref (a 26), .int q0] (QI D (U := KS) post (kw cy a rw))) {post : Int32 → KS → Prop} {k14 : KS → Int32 → Int32 → Int32 → Prop} {k128 : KS → Int32 → Prop} (b : Bz p R s m args meth c D cy T0 tB tE A 5 cX5_readEither RX5 (some .boolean) "readEither" (4 + 3 * d + 1) (88 + 69 * d + 23) 0 0) (hk14 : ∀ (S : KS) (x1 : Int32) (x2 : Int32) (x3 : Int32), k14 S x1 x2 x3 → Z p l e R s m args below meth c D A 5 (MQ below (QI D (U := KS) post (kw cy a rw) A) args s 0 0 A) 0 0 (kw cy a rw S) [(0, .ref (a 26)), (1, .int x1), (2, .int x2), (3, .int x3)] 14 []) (hk128 : ∀ (S : KS) (x2 : Int32), k128 S x2 → Z p l e R s m args below meth c D A 5 (MQ below (QI D (U := KS) post (kw cy a rw) A) args s 0 0 A) 0 0 (kw cy a rw S) [(0, .ref (a 26)), (2, .int x2)] 128 []) (S : KS) (x1 : Int32) (x2 : Int32) (x3 : Int32) (x4 : Int32) (h : w_X5_readEither_B85 cy tE sg post k14 k128 S x1 x2 x3 x4) : Z p l e R s m args below meth c D A 5 (MQ below (QI D (U := KS) post (kw cy a rw) A) args s 0 0 A) 0 0 (kw cy a rw S) [(0, .ref (a 26)), (1, .int x1), (2, .int x2), (3, .int x3), (4, .int x4)] 85 [] := by
  unfold w_X5_readEither_B85 at h
  refine z_iload_n b dX5_readEither_85 rfl rfl ?_
  refine y_if_ne (tgt := 94) (xl := x2.toInt) b rfl dX5_readEither_86 (by decide) (fun c1 => ?_) (fun c1 => ?_)
  · replace h := h.1 c1
    refine z_lv0 (lv' := [(0, .ref (a 26)), (1, .int x1), (3, .int x3), (4, .int x4)]) [0, 1, 3, 4] rfl ?_
    exact z_X5_readEither_B94 hrw hsg b hk14 hk128 _ _ _ _ h
  · replace h := h.2 c1
    refine z_iload b dX5_readEither_89 rfl ?_
    refine y_if_ne (tgt := 98) (xl := x4.toInt) b rfl dX5_readEither_91 (by decide) (fun c1 => ?_) (fun c1 => ?_)
    · replace h := h.1 c1
      refine z_iconst (v := 0) b dX5_readEither_98 (by decide) ?_
      refine z_lv0 (lv' := [(0, .ref (a 26)), (1, .int x1), (3, .int x3), (4, .int x4)]) [0, 1, 3, 4] rfl ?_
      exact z_X5_readEither_B99 hrw hsg b hk14 hk128 _ _ _ _ _ h
    · replace h := h.2 c1
      refine z_lv0 (lv' := [(0, .ref (a 26)), (1, .int x1), (3, .int x3), (4, .int x4)]) [0, 1, 3, 4] rfl ?_
      exact z_X5_readEither_B94 hrw hsg b hk14 hk128 _ _ _ _ h

def w_X5_readEither_B57 (cy : Nat → ClassId) (tE : Nat) (sg : KS → Int32 → (Int32 → KS → Prop) → Prop) (post : Int32 → KS → Prop) (k14 : KS → Int32 → Int32 → Int32 → Prop) (k128 : KS → Int32 → Prop) (S : KS) (x1 : Int32) (x2 : Int32) (x3 : Int32) (y0 : Int32) : Prop :=
  ((y0.toInt ≠ 0 → w_X5_readEither_B85 cy tE sg post k14 k128 (ksi S 15 ((fi S.1 15) + 1)) x1 x2 x3 y0) ∧ (y0.toInt = 0 → ((x2.toInt = 0 → w_X5_readEither_B85 cy tE sg post k14 k128 (ksi S 15 ((fi S.1 15) + 1)) x1 x2 x3 y0) ∧ (x2.toInt ≠ 0 → w_X5_emit cy tE (ksi S 15 ((fi S.1 15) + 1)) 15 0 (fun S12 => w_X5_readEither_B85 cy tE sg post k14 k128 S12 x1 x2 x3 y0)))))

set_option maxHeartbeats 200000 in
set_option maxRecDepth 100000 in
theorem z_X5_readEither_B57 {p : Program} {l : Launch} {e : Env} {R : Room} {s : State} {m : MethodId} {args : Array Value} {below : List Frame} {meth : Method} {c : Code} {D : va_G} {cy : Nat → ClassId} {T0 tB tE : Nat} {A : Nat → Prop} {a : Nat → Nat} {rw : Nat → Option Nat} (hrw : ∀ i, i < 6 → rw i = some (a (12 + 2 * i))) {d : Nat} {sg : KS → Int32 → (Int32 → KS → Prop) → Prop} (hsg : ∀ (S : KS) (q0 : Int32) (post : Int32 → KS → Prop), sg S q0 post → Ct l D cy T0 tB tE yX5_readClaim cX5_readClaim 4 (some .boolean) (4 + 3 * d) (88 + 69 * d) 0 0 (kw cy a rw S) [.ref (a 26), .int q0] (QI D (U := KS) post (kw cy a rw))) {post : Int32 → KS → Prop} {k14 : KS → Int32 → Int32 → Int32 → Prop} {k128 : KS → Int32 → Prop} (b : Bz p R s m args meth c D cy T0 tB tE A 5 cX5_readEither RX5 (some .boolean) "readEither" (4 + 3 * d + 1) (88 + 69 * d + 23) 0 0) (hk14 : ∀ (S : KS) (x1 : Int32) (x2 : Int32) (x3 : Int32), k14 S x1 x2 x3 → Z p l e R s m args below meth c D A 5 (MQ below (QI D (U := KS) post (kw cy a rw) A) args s 0 0 A) 0 0 (kw cy a rw S) [(0, .ref (a 26)), (1, .int x1), (2, .int x2), (3, .int x3)] 14 []) (hk128 : ∀ (S : KS) (x2 : Int32), k128 S x2 → Z p l e R s m args below meth c D A 5 (MQ below (QI D (U := KS) post (kw cy a rw) A) args s 0 0 A) 0 0 (kw cy a rw S) [(0, .ref (a 26)), (2, .int x2)] 128 []) (S : KS) (x1 : Int32) (x2 : Int32) (x3 : Int32) (y0 : Int32) (h : w_X5_readEither_B57 cy tE sg post k14 k128 S x1 x2 x3 y0) : Z p l e R s m args below meth c D A 5 (MQ below (QI D (U := KS) post (kw cy a rw) A) args s 0 0 A) 0 0 (kw cy a rw S) [(0, .ref (a 26)), (1, .int x1), (2, .int x2), (3, .int x3)] 57 [.int y0] := by
  unfold w_X5_readEither_B57 at h
  refine z_istore (lv' := [(4, .int y0), (0, .ref (a 26)), (1, .int x1), (2, .int x2), (3, .int x3)]) b dX5_readEither_57 (by decide) rfl ?_
  refine z_aload_n b dX5_readEither_59 rfl rfl ?_
  refine z_dup b dX5_readEither_60 rfl ?_
  refine z_get (q0 := 26) (k9 := 1) (v := .int (fi S.1 15)) b (kw_26 cy a rw S) rfl in_X5 (by decide) wf_X5_18 rfl dX5_readEither_61 ?_
  refine z_iconst (v := 1) b dX5_readEither_64 (by decide) ?_
  refine z_iadd b dX5_readEither_65 rfl ?_
  refine z_put (q0 := 26) (k9 := 1) tyX5 b (kw_26 cy a rw S) rfl in_X5 tyX5_ok nmX5 (by decide) wf_X5_18 rfl rfl rfl rfl (Nat.le_of_ble_eq_true rfl) dX5_readEither_66 (kwp_26_1 cy a rw S ((fi S.1 15) + 1)) ?_
  refine z_iload b dX5_readEither_69 rfl ?_
  refine y_if_ne (tgt := 85) (xl := y0.toInt) b rfl dX5_readEither_71 (by decide) (fun c1 => ?_) (fun c1 => ?_)
  · replace h := h.1 c1
    refine z_lv0 (lv' := [(0, .ref (a 26)), (1, .int x1), (2, .int x2), (3, .int x3), (4, .int y0)]) [1, 2, 3, 4, 0] rfl ?_
    exact z_X5_readEither_B85 hrw hsg b hk14 hk128 _ _ _ _ _ h
  · replace h := h.2 c1
    refine z_iload_n b dX5_readEither_74 rfl rfl ?_
    refine y_if_eq (tgt := 85) (xl := x2.toInt) b rfl dX5_readEither_75 (by decide) (fun c1 => ?_) (fun c1 => ?_)
    · replace h := h.1 c1
      refine z_lv0 (lv' := [(0, .ref (a 26)), (1, .int x1), (2, .int x2), (3, .int x3), (4, .int y0)]) [1, 2, 3, 4, 0] rfl ?_
      exact z_X5_readEither_B85 hrw hsg b hk14 hk128 _ _ _ _ _ h
    · replace h := h.2 c1
      refine z_aload_n b dX5_readEither_78 rfl rfl ?_
      refine z_bipush (v := 15) b dX5_readEither_79 (by decide) ?_
      refine z_iconst (v := 0) b dX5_readEither_81 (by decide) ?_
      refine z_callv b (z_runV (q0 := 26) (As := [.int 15, .int 0]) (st := []) b (k_X5_emit hrw (ksi S 15 ((fi S.1 15) + 1)) 15 0 _ h) cf_X5_emit (kw_26 cy a rw (ksi S 15 ((fi S.1 15) + 1))) rfl wm_X5_147 wi_X5_emit ws_X5_emit dX5_readEither_82 rfl (Nat.le_of_ble_eq_true rfl) ⟨by omega, by omega, Nat.le_of_ble_eq_true rfl, Nat.le_of_ble_eq_true rfl⟩) (fun S12 h => ?_)
      refine z_lv0 (lv' := [(0, .ref (a 26)), (1, .int x1), (2, .int x2), (3, .int x3), (4, .int y0)]) [1, 2, 3, 4, 0] rfl ?_
      exact z_X5_readEither_B85 hrw hsg b hk14 hk128 _ _ _ _ _ h

def w_X5_readEither_B43 (cy : Nat → ClassId) (tE : Nat) (sg : KS → Int32 → (Int32 → KS → Prop) → Prop) (post : Int32 → KS → Prop) (k14 : KS → Int32 → Int32 → Int32 → Prop) (k128 : KS → Int32 → Prop) (S : KS) (x1 : Int32) (x2 : Int32) (x3 : Int32) : Prop :=
  w_X5_kind cy tE S (fun r5 S6 => ((r5.toInt ≠ 16 → w_X5_readEither_B57 cy tE sg post k14 k128 S6 x1 x2 x3 0) ∧ (r5.toInt = 16 → w_X5_readEither_B57 cy tE sg post k14 k128 S6 x1 x2 x3 1)))

set_option maxHeartbeats 200000 in
set_option maxRecDepth 100000 in
theorem z_X5_readEither_B43 {p : Program} {l : Launch} {e : Env} {R : Room} {s : State} {m : MethodId} {args : Array Value} {below : List Frame} {meth : Method} {c : Code} {D : va_G} {cy : Nat → ClassId} {T0 tB tE : Nat} {A : Nat → Prop} {a : Nat → Nat} {rw : Nat → Option Nat} (hrw : ∀ i, i < 6 → rw i = some (a (12 + 2 * i))) {d : Nat} {sg : KS → Int32 → (Int32 → KS → Prop) → Prop} (hsg : ∀ (S : KS) (q0 : Int32) (post : Int32 → KS → Prop), sg S q0 post → Ct l D cy T0 tB tE yX5_readClaim cX5_readClaim 4 (some .boolean) (4 + 3 * d) (88 + 69 * d) 0 0 (kw cy a rw S) [.ref (a 26), .int q0] (QI D (U := KS) post (kw cy a rw))) {post : Int32 → KS → Prop} {k14 : KS → Int32 → Int32 → Int32 → Prop} {k128 : KS → Int32 → Prop} (b : Bz p R s m args meth c D cy T0 tB tE A 5 cX5_readEither RX5 (some .boolean) "readEither" (4 + 3 * d + 1) (88 + 69 * d + 23) 0 0) (hk14 : ∀ (S : KS) (x1 : Int32) (x2 : Int32) (x3 : Int32), k14 S x1 x2 x3 → Z p l e R s m args below meth c D A 5 (MQ below (QI D (U := KS) post (kw cy a rw) A) args s 0 0 A) 0 0 (kw cy a rw S) [(0, .ref (a 26)), (1, .int x1), (2, .int x2), (3, .int x3)] 14 []) (hk128 : ∀ (S : KS) (x2 : Int32), k128 S x2 → Z p l e R s m args below meth c D A 5 (MQ below (QI D (U := KS) post (kw cy a rw) A) args s 0 0 A) 0 0 (kw cy a rw S) [(0, .ref (a 26)), (2, .int x2)] 128 []) (S : KS) (x1 : Int32) (x2 : Int32) (x3 : Int32) (h : w_X5_readEither_B43 cy tE sg post k14 k128 S x1 x2 x3) : Z p l e R s m args below meth c D A 5 (MQ below (QI D (U := KS) post (kw cy a rw) A) args s 0 0 A) 0 0 (kw cy a rw S) [(0, .ref (a 26)), (1, .int x1), (2, .int x2), (3, .int x3)] 43 [] := by
  unfold w_X5_readEither_B43 at h
  refine z_aload_n b dX5_readEither_43 rfl rfl ?_
  refine z_calli b (z_runV (q0 := 26) (As := []) (st := []) b (k_X5_kind hrw S _ h) cf_X5_kind (kw_26 cy a rw S) rfl wm_X5_66 wi_X5_kind ws_X5_kind dX5_readEither_44 rfl (Nat.le_of_ble_eq_true rfl) ⟨by omega, by omega, Nat.le_of_ble_eq_true rfl, Nat.le_of_ble_eq_true rfl⟩) (fun r5 S6 h => ?_)
  refine z_bipush (v := 16) b dX5_readEither_47 (by decide) ?_
  refine y_icmp_ne (tgt := 56) (xl := r5.toInt) (yl := 16) b rfl (by decide) dX5_readEither_49 (by decide) (fun c1 => ?_) (fun c1 => ?_)
  · replace h := h.1 c1
    refine z_iconst (v := 0) b dX5_readEither_56 (by decide) ?_
    exact z_X5_readEither_B57 hrw hsg b hk14 hk128 _ _ _ _ _ h
  · replace h := h.2 c1
    refine z_iconst (v := 1) b dX5_readEither_52 (by decide) ?_
    refine z_goto (tgt := 57) b dX5_readEither_53 (by decide) ?_
    exact z_X5_readEither_B57 hrw hsg b hk14 hk128 _ _ _ _ _ h

def w_X5_readEither_F14 (cy : Nat → ClassId) (tE : Nat) (sg : KS → Int32 → (Int32 → KS → Prop) → Prop) (post : Int32 → KS → Prop) (k128 : KS → Int32 → Prop) (k14 : KS → Int32 → Int32 → Int32 → Prop) (S : KS) (x1 : Int32) (x2 : Int32) (x3 : Int32) : Prop :=
  (((fi S.1 21).toInt ≤ x3.toInt → k128 S x2) ∧ (x3.toInt < (fi S.1 21).toInt → w_X5_kind cy tE S (fun r3 S4 => ((r3.toInt = 16 → w_X5_readEither_B43 cy tE sg post k14 k128 S4 x1 x2 x3) ∧ (r3.toInt ≠ 16 → w_X5_kind cy tE S4 (fun r13 S14 => ((r13.toInt ≠ 15 → k128 S14 x2) ∧ (r13.toInt = 15 → w_X5_readEither_B43 cy tE sg post k14 k128 S14 x1 x2 x3))))))))

set_option maxHeartbeats 200000 in
set_option maxRecDepth 100000 in
theorem z_X5_readEither_F14 {p : Program} {l : Launch} {e : Env} {R : Room} {s : State} {m : MethodId} {args : Array Value} {below : List Frame} {meth : Method} {c : Code} {D : va_G} {cy : Nat → ClassId} {T0 tB tE : Nat} {A : Nat → Prop} {a : Nat → Nat} {rw : Nat → Option Nat} (hrw : ∀ i, i < 6 → rw i = some (a (12 + 2 * i))) {d : Nat} {sg : KS → Int32 → (Int32 → KS → Prop) → Prop} (hsg : ∀ (S : KS) (q0 : Int32) (post : Int32 → KS → Prop), sg S q0 post → Ct l D cy T0 tB tE yX5_readClaim cX5_readClaim 4 (some .boolean) (4 + 3 * d) (88 + 69 * d) 0 0 (kw cy a rw S) [.ref (a 26), .int q0] (QI D (U := KS) post (kw cy a rw))) {post : Int32 → KS → Prop} {k128 : KS → Int32 → Prop} {k14 : KS → Int32 → Int32 → Int32 → Prop} (b : Bz p R s m args meth c D cy T0 tB tE A 5 cX5_readEither RX5 (some .boolean) "readEither" (4 + 3 * d + 1) (88 + 69 * d + 23) 0 0) (hk128 : ∀ (S : KS) (x2 : Int32), k128 S x2 → Z p l e R s m args below meth c D A 5 (MQ below (QI D (U := KS) post (kw cy a rw) A) args s 0 0 A) 0 0 (kw cy a rw S) [(0, .ref (a 26)), (2, .int x2)] 128 []) (hk14 : ∀ (S : KS) (x1 : Int32) (x2 : Int32) (x3 : Int32), k14 S x1 x2 x3 → Z p l e R s m args below meth c D A 5 (MQ below (QI D (U := KS) post (kw cy a rw) A) args s 0 0 A) 0 0 (kw cy a rw S) [(0, .ref (a 26)), (1, .int x1), (2, .int x2), (3, .int x3)] 14 []) (S : KS) (x1 : Int32) (x2 : Int32) (x3 : Int32) (h : w_X5_readEither_F14 cy tE sg post k128 k14 S x1 x2 x3) : Z p l e R s m args below meth c D A 5 (MQ below (QI D (U := KS) post (kw cy a rw) A) args s 0 0 A) 0 0 (kw cy a rw S) [(0, .ref (a 26)), (1, .int x1), (2, .int x2), (3, .int x3)] 14 [] := by
  unfold w_X5_readEither_F14 at h
  refine z_iload_n b dX5_readEither_14 rfl rfl ?_
  refine z_aload_n b dX5_readEither_15 rfl rfl ?_
  refine z_get (q0 := 26) (k9 := 0) (v := .ref (a 27)) b (kw_26 cy a rw S) rfl in_X5 (by decide) wf_X5_12 rfl dX5_readEither_16 ?_
  refine z_get (q0 := 27) (k9 := 4) (v := .int (fi S.1 21)) b (kw_27 cy a rw S) rfl in_X10 (by decide) wf_X5_56 rfl dX5_readEither_19 ?_
  refine y_icmp_ge (tgt := 128) (xl := x3.toInt) (yl := (fi S.1 21).toInt) b rfl rfl dX5_readEither_22 (by decide) (fun c1 => ?_) (fun c1 => ?_)
  · replace h := h.1 c1
    refine z_lv0 (lv' := [(0, .ref (a 26)), (2, .int x2)]) [0, 2] rfl ?_
    exact hk128 _ _ h
  · replace h := h.2 c1
    refine z_aload_n b dX5_readEither_25 rfl rfl ?_
    refine z_calli b (z_runV (q0 := 26) (As := []) (st := []) b (k_X5_kind hrw S _ h) cf_X5_kind (kw_26 cy a rw S) rfl wm_X5_66 wi_X5_kind ws_X5_kind dX5_readEither_26 rfl (Nat.le_of_ble_eq_true rfl) ⟨by omega, by omega, Nat.le_of_ble_eq_true rfl, Nat.le_of_ble_eq_true rfl⟩) (fun r3 S4 h => ?_)
    refine z_bipush (v := 16) b dX5_readEither_29 (by decide) ?_
    refine y_icmp_eq (tgt := 43) (xl := r3.toInt) (yl := 16) b rfl (by decide) dX5_readEither_31 (by decide) (fun c1 => ?_) (fun c1 => ?_)
    · replace h := h.1 c1
      exact z_X5_readEither_B43 hrw hsg b hk14 hk128 _ _ _ _ h
    · replace h := h.2 c1
      refine z_aload_n b dX5_readEither_34 rfl rfl ?_
      refine z_calli b (z_runV (q0 := 26) (As := []) (st := []) b (k_X5_kind hrw S4 _ h) cf_X5_kind (kw_26 cy a rw S4) rfl wm_X5_66 wi_X5_kind ws_X5_kind dX5_readEither_35 rfl (Nat.le_of_ble_eq_true rfl) ⟨by omega, by omega, Nat.le_of_ble_eq_true rfl, Nat.le_of_ble_eq_true rfl⟩) (fun r13 S14 h => ?_)
      refine z_bipush (v := 15) b dX5_readEither_38 (by decide) ?_
      refine y_icmp_ne (tgt := 128) (xl := r13.toInt) (yl := 15) b rfl (by decide) dX5_readEither_40 (by decide) (fun c1 => ?_) (fun c1 => ?_)
      · replace h := h.1 c1
        refine z_lv0 (lv' := [(0, .ref (a 26)), (2, .int x2)]) [0, 2] rfl ?_
        exact hk128 _ _ h
      · replace h := h.2 c1
        exact z_X5_readEither_B43 hrw hsg b hk14 hk128 _ _ _ _ h

set_option maxHeartbeats 200000 in
set_option maxRecDepth 100000 in
theorem zl_X5_readEither_L14 {p : Program} {l : Launch} {e : Env} {R : Room} {s : State} {m : MethodId} {args : Array Value} {below : List Frame} {meth : Method} {c : Code} {D : va_G} {cy : Nat → ClassId} {T0 tB tE : Nat} {A : Nat → Prop} {a : Nat → Nat} {rw : Nat → Option Nat} (hrw : ∀ i, i < 6 → rw i = some (a (12 + 2 * i))) {d : Nat} {sg : KS → Int32 → (Int32 → KS → Prop) → Prop} (hsg : ∀ (S : KS) (q0 : Int32) (post : Int32 → KS → Prop), sg S q0 post → Ct l D cy T0 tB tE yX5_readClaim cX5_readClaim 4 (some .boolean) (4 + 3 * d) (88 + 69 * d) 0 0 (kw cy a rw S) [.ref (a 26), .int q0] (QI D (U := KS) post (kw cy a rw))) {post : Int32 → KS → Prop} {k128 : KS → Int32 → Prop} (b : Bz p R s m args meth c D cy T0 tB tE A 5 cX5_readEither RX5 (some .boolean) "readEither" (4 + 3 * d + 1) (88 + 69 * d + 23) 0 0) (hk128 : ∀ (S : KS) (x2 : Int32), k128 S x2 → Z p l e R s m args below meth c D A 5 (MQ below (QI D (U := KS) post (kw cy a rw) A) args s 0 0 A) 0 0 (kw cy a rw S) [(0, .ref (a 26)), (2, .int x2)] 128 []) : ∀ (n : Nat) (S : KS) (x1 : Int32) (x2 : Int32) (x3 : Int32), lpn (w_X5_readEither_F14 cy tE sg post k128) (fun _ _ _ _ => False) n S x1 x2 x3 → Z p l e R s m args below meth c D A 5 (MQ below (QI D (U := KS) post (kw cy a rw) A) args s 0 0 A) 0 0 (kw cy a rw S) [(0, .ref (a 26)), (1, .int x1), (2, .int x2), (3, .int x3)] 14 [] := by
  intro n
  induction n with
  | zero => intro _ _ _ _ h; exact h.elim
  | succ n ih => intro S x1 x2 x3 h; exact z_X5_readEither_F14 hrw hsg b hk128 ih S x1 x2 x3 h

def w_X5_readEither_B139 (cy : Nat → ClassId) (tE : Nat) (sg : KS → Int32 → (Int32 → KS → Prop) → Prop) (post : Int32 → KS → Prop) (S : KS)  : Prop :=
  post 1 S

set_option maxHeartbeats 200000 in
set_option maxRecDepth 100000 in
theorem z_X5_readEither_B139 {p : Program} {l : Launch} {e : Env} {R : Room} {s : State} {m : MethodId} {args : Array Value} {below : List Frame} {meth : Method} {c : Code} {D : va_G} {cy : Nat → ClassId} {T0 tB tE : Nat} {A : Nat → Prop} {a : Nat → Nat} {rw : Nat → Option Nat} (hrw : ∀ i, i < 6 → rw i = some (a (12 + 2 * i))) {d : Nat} {sg : KS → Int32 → (Int32 → KS → Prop) → Prop} (hsg : ∀ (S : KS) (q0 : Int32) (post : Int32 → KS → Prop), sg S q0 post → Ct l D cy T0 tB tE yX5_readClaim cX5_readClaim 4 (some .boolean) (4 + 3 * d) (88 + 69 * d) 0 0 (kw cy a rw S) [.ref (a 26), .int q0] (QI D (U := KS) post (kw cy a rw))) {post : Int32 → KS → Prop} (b : Bz p R s m args meth c D cy T0 tB tE A 5 cX5_readEither RX5 (some .boolean) "readEither" (4 + 3 * d + 1) (88 + 69 * d + 23) 0 0) (S : KS)  (h : w_X5_readEither_B139 cy tE sg post S ) : Z p l e R s m args below meth c D A 5 (MQ below (QI D (U := KS) post (kw cy a rw) A) args s 0 0 A) 0 0 (kw cy a rw S) [] 139 [] := by
  unfold w_X5_readEither_B139 at h
  refine z_iconst (v := 1) b dX5_readEither_139 (by decide) ?_
  exact z_zret (u := S) b rfl (by decide) dX5_readEither_140 h rfl (by decide) (by decide)

def w_X5_readEither_B128 (cy : Nat → ClassId) (tE : Nat) (sg : KS → Int32 → (Int32 → KS → Prop) → Prop) (post : Int32 → KS → Prop) (S : KS) (x2 : Int32) : Prop :=
  ((x2.toInt = 0 → w_X5_readEither_B139 cy tE sg post S) ∧ (x2.toInt ≠ 0 → w_X5_emit cy tE S 15 0 (fun S16 => w_X5_readEither_B139 cy tE sg post S16)))

set_option maxHeartbeats 200000 in
set_option maxRecDepth 100000 in
theorem z_X5_readEither_B128 {p : Program} {l : Launch} {e : Env} {R : Room} {s : State} {m : MethodId} {args : Array Value} {below : List Frame} {meth : Method} {c : Code} {D : va_G} {cy : Nat → ClassId} {T0 tB tE : Nat} {A : Nat → Prop} {a : Nat → Nat} {rw : Nat → Option Nat} (hrw : ∀ i, i < 6 → rw i = some (a (12 + 2 * i))) {d : Nat} {sg : KS → Int32 → (Int32 → KS → Prop) → Prop} (hsg : ∀ (S : KS) (q0 : Int32) (post : Int32 → KS → Prop), sg S q0 post → Ct l D cy T0 tB tE yX5_readClaim cX5_readClaim 4 (some .boolean) (4 + 3 * d) (88 + 69 * d) 0 0 (kw cy a rw S) [.ref (a 26), .int q0] (QI D (U := KS) post (kw cy a rw))) {post : Int32 → KS → Prop} (b : Bz p R s m args meth c D cy T0 tB tE A 5 cX5_readEither RX5 (some .boolean) "readEither" (4 + 3 * d + 1) (88 + 69 * d + 23) 0 0) (S : KS) (x2 : Int32) (h : w_X5_readEither_B128 cy tE sg post S x2) : Z p l e R s m args below meth c D A 5 (MQ below (QI D (U := KS) post (kw cy a rw) A) args s 0 0 A) 0 0 (kw cy a rw S) [(0, .ref (a 26)), (2, .int x2)] 128 [] := by
  unfold w_X5_readEither_B128 at h
  refine z_iload_n b dX5_readEither_128 rfl rfl ?_
  refine y_if_eq (tgt := 139) (xl := x2.toInt) b rfl dX5_readEither_129 (by decide) (fun c1 => ?_) (fun c1 => ?_)
  · replace h := h.1 c1
    refine z_lv0 (lv' := []) [] rfl ?_
    exact z_X5_readEither_B139 hrw hsg b _ h
  · replace h := h.2 c1
    refine z_aload_n b dX5_readEither_132 rfl rfl ?_
    refine z_bipush (v := 15) b dX5_readEither_133 (by decide) ?_
    refine z_iconst (v := 0) b dX5_readEither_135 (by decide) ?_
    refine z_callv b (z_runV (q0 := 26) (As := [.int 15, .int 0]) (st := []) b (k_X5_emit hrw S 15 0 _ h) cf_X5_emit (kw_26 cy a rw S) rfl wm_X5_147 wi_X5_emit ws_X5_emit dX5_readEither_136 rfl (Nat.le_of_ble_eq_true rfl) ⟨by omega, by omega, Nat.le_of_ble_eq_true rfl, Nat.le_of_ble_eq_true rfl⟩) (fun S16 h => ?_)
    refine z_lv0 (lv' := []) [] rfl ?_
    exact z_X5_readEither_B139 hrw hsg b _ h

def w_X5_readEither_R (cy : Nat → ClassId) (tE : Nat) (sg : KS → Int32 → (Int32 → KS → Prop) → Prop) (S : KS) (p0 : Int32) (post : Int32 → KS → Prop) : Prop :=
  sg S p0 (fun r1 S2 => ((r1.toInt ≠ 0 → ∃ n, lpn (w_X5_readEither_F14 cy tE sg post (w_X5_readEither_B128 cy tE sg post)) (fun _ _ _ _ => False) n S2 p0 0 0) ∧ (r1.toInt = 0 → post 0 S2)))

set_option maxHeartbeats 200000 in
set_option maxRecDepth 100000 in
theorem k_X5_readEither_R {l : Launch} {D : va_G} {cy : Nat → ClassId} {T0 tB tE : Nat} {a : Nat → Nat} {rw : Nat → Option Nat} (hrw : ∀ i, i < 6 → rw i = some (a (12 + 2 * i))) {d : Nat} {sg : KS → Int32 → (Int32 → KS → Prop) → Prop} (hsg : ∀ (S : KS) (q0 : Int32) (post : Int32 → KS → Prop), sg S q0 post → Ct l D cy T0 tB tE yX5_readClaim cX5_readClaim 4 (some .boolean) (4 + 3 * d) (88 + 69 * d) 0 0 (kw cy a rw S) [.ref (a 26), .int q0] (QI D (U := KS) post (kw cy a rw))) (S : KS) (p0 : Int32) (post : Int32 → KS → Prop) (h : w_X5_readEither_R cy tE sg S p0 post) : Ct l D cy T0 tB tE yX5_readEither cX5_readEither 5 (some .boolean) (4 + 3 * d + 1) (88 + 69 * d + 23) 0 0 (kw cy a rw S) [.ref (a 26), .int p0] (QI D (U := KS) post (kw cy a rw)) := by
  refine Ct.ofZ RX5 "readEither" [(0, .ref (a 26)), (1, .int p0)] rfl rfl rfl rfl (Nat.le_of_ble_eq_true rfl) ?_
  intro p e R s m args below meth c A b
  unfold w_X5_readEither_R at h
  refine z_aload_n b dX5_readEither_0 rfl rfl ?_
  refine z_iload_n b dX5_readEither_1 rfl rfl ?_
  refine z_calli b (z_runV (q0 := 26) (As := [.int p0]) (st := []) b (hsg S p0 _ h) cf_X5_readClaim (kw_26 cy a rw S) rfl wm_X5_158 wi_X5_readClaim ws_X5_readClaim dX5_readEither_2 rfl (Nat.le_of_ble_eq_true rfl) ⟨by omega, by omega, Nat.le_of_ble_eq_true rfl, Nat.le_of_ble_eq_true rfl⟩) (fun r1 S2 h => ?_)
  refine y_if_ne (tgt := 10) (xl := r1.toInt) b rfl dX5_readEither_5 (by decide) (fun c1 => ?_) (fun c1 => ?_)
  · replace h := h.1 c1
    refine z_iconst (v := 0) b dX5_readEither_10 (by decide) ?_
    refine z_istore_n (lv' := [(2, .int 0), (0, .ref (a 26)), (1, .int p0)]) b dX5_readEither_11 rfl (by decide) rfl ?_
    refine z_iconst (v := 0) b dX5_readEither_12 (by decide) ?_
    refine z_istore_n (lv' := [(3, .int 0), (2, .int 0), (0, .ref (a 26)), (1, .int p0)]) b dX5_readEither_13 rfl (by decide) rfl ?_
    refine z_lv0 (lv' := [(0, .ref (a 26)), (1, .int p0), (2, .int 0), (3, .int 0)]) [2, 3, 1, 0] rfl ?_
    obtain ⟨n, h⟩ := h
    exact zl_X5_readEither_L14 hrw hsg b (fun S x2 h => z_X5_readEither_B128 hrw hsg b _ _ h) n _ _ _ _ h
  · replace h := h.2 c1
    refine z_iconst (v := 0) b dX5_readEither_8 (by decide) ?_
    exact z_zret (u := S2) b rfl (by decide) dX5_readEither_9 h rfl (by decide) (by decide)

def w_X5_readOpened_R (cy : Nat → ClassId) (tE : Nat) (sg : KS → Int32 → (Int32 → KS → Prop) → Prop) (S : KS) (p0 : Int32) (p1 : Int32) (post : Int32 → KS → Prop) : Prop :=
  ((p0.toInt ≠ 17 → w_X5_readEither_R cy tE sg (ksi S 15 ((fi S.1 15) + 1)) p1 (fun r1 S2 => ((r1.toInt ≠ 0 → w_X5_kind cy tE S2 (fun r3 S4 => ((r3.toInt = 28 → post 1 (ksi S4 15 ((fi S4.1 15) + 1))) ∧ (r3.toInt ≠ 28 → w_X5_refuse cy tE S4 1 (fun r5 S6 => (r5 = 0 ∨ r5 = 1) ∧ post r5 S6))))) ∧ (r1.toInt = 0 → post 0 S2)))) ∧ (p0.toInt = 17 → sg (ksi S 15 ((fi S.1 15) + 1)) p1 (fun r8 S9 => ((r8.toInt ≠ 0 → w_X5_emit cy tE S9 17 0 (fun S11 => post 1 S11)) ∧ (r8.toInt = 0 → post 0 S9)))))

set_option maxHeartbeats 200000 in
set_option maxRecDepth 100000 in
theorem k_X5_readOpened_R {l : Launch} {D : va_G} {cy : Nat → ClassId} {T0 tB tE : Nat} {a : Nat → Nat} {rw : Nat → Option Nat} (hrw : ∀ i, i < 6 → rw i = some (a (12 + 2 * i))) {d : Nat} {sg : KS → Int32 → (Int32 → KS → Prop) → Prop} (hsg : ∀ (S : KS) (q0 : Int32) (post : Int32 → KS → Prop), sg S q0 post → Ct l D cy T0 tB tE yX5_readClaim cX5_readClaim 4 (some .boolean) (4 + 3 * d) (88 + 69 * d) 0 0 (kw cy a rw S) [.ref (a 26), .int q0] (QI D (U := KS) post (kw cy a rw))) (S : KS) (p0 : Int32) (p1 : Int32) (post : Int32 → KS → Prop) (h : w_X5_readOpened_R cy tE sg S p0 p1 post) : Ct l D cy T0 tB tE yX5_readOpened cX5_readOpened 3 (some .boolean) (4 + 3 * d + 2) (88 + 69 * d + 47) 0 0 (kw cy a rw S) [.ref (a 26), .int p0, .int p1] (QI D (U := KS) post (kw cy a rw)) := by
  refine Ct.ofZ RX5 "readOpened" [(0, .ref (a 26)), (1, .int p0), (2, .int p1)] rfl rfl rfl rfl (Nat.le_of_ble_eq_true rfl) ?_
  intro p e R s m args below meth c A b
  unfold w_X5_readOpened_R at h
  refine z_aload_n b dX5_readOpened_0 rfl rfl ?_
  refine z_dup b dX5_readOpened_1 rfl ?_
  refine z_get (q0 := 26) (k9 := 1) (v := .int (fi S.1 15)) b (kw_26 cy a rw S) rfl in_X5 (by decide) wf_X5_18 rfl dX5_readOpened_2 ?_
  refine z_iconst (v := 1) b dX5_readOpened_5 (by decide) ?_
  refine z_iadd b dX5_readOpened_6 rfl ?_
  refine z_put (q0 := 26) (k9 := 1) tyX5 b (kw_26 cy a rw S) rfl in_X5 tyX5_ok nmX5 (by decide) wf_X5_18 rfl rfl rfl rfl (Nat.le_of_ble_eq_true rfl) dX5_readOpened_7 (kwp_26_1 cy a rw S ((fi S.1 15) + 1)) ?_
  refine z_iload_n b dX5_readOpened_10 rfl rfl ?_
  refine z_bipush (v := 17) b dX5_readOpened_11 (by decide) ?_
  refine y_icmp_ne (tgt := 35) (xl := p0.toInt) (yl := 17) b rfl (by decide) dX5_readOpened_13 (by decide) (fun c1 => ?_) (fun c1 => ?_)
  · replace h := h.1 c1
    refine z_aload_n b dX5_readOpened_35 rfl rfl ?_
    refine z_iload_n b dX5_readOpened_36 rfl rfl ?_
    refine z_calli b (z_runV (q0 := 26) (As := [.int p1]) (st := []) b (k_X5_readEither_R hrw hsg (ksi S 15 ((fi S.1 15) + 1)) p1 _ h) cf_X5_readEither (kw_26 cy a rw (ksi S 15 ((fi S.1 15) + 1))) rfl wm_X5_112 wi_X5_readEither ws_X5_readEither dX5_readOpened_37 rfl (Nat.le_of_ble_eq_true rfl) ⟨by omega, by omega, Nat.le_of_ble_eq_true rfl, Nat.le_of_ble_eq_true rfl⟩) (fun r1 S2 h => ?_)
    refine y_if_ne (tgt := 45) (xl := r1.toInt) b rfl dX5_readOpened_40 (by decide) (fun c1 => ?_) (fun c1 => ?_)
    · replace h := h.1 c1
      refine z_aload_n b dX5_readOpened_45 rfl rfl ?_
      refine z_calli b (z_runV (q0 := 26) (As := []) (st := []) b (k_X5_kind hrw S2 _ h) cf_X5_kind (kw_26 cy a rw S2) rfl wm_X5_66 wi_X5_kind ws_X5_kind dX5_readOpened_46 rfl (Nat.le_of_ble_eq_true rfl) ⟨by omega, by omega, Nat.le_of_ble_eq_true rfl, Nat.le_of_ble_eq_true rfl⟩) (fun r3 S4 h => ?_)
      refine z_bipush (v := 28) b dX5_readOpened_49 (by decide) ?_
      refine y_icmp_eq (tgt := 60) (xl := r3.toInt) (yl := 28) b rfl (by decide) dX5_readOpened_51 (by decide) (fun c1 => ?_) (fun c1 => ?_)
      · replace h := h.1 c1
        refine z_aload_n b dX5_readOpened_60 rfl rfl ?_
        refine z_dup b dX5_readOpened_61 rfl ?_
        refine z_get (q0 := 26) (k9 := 1) (v := .int (fi S4.1 15)) b (kw_26 cy a rw S4) rfl in_X5 (by decide) wf_X5_18 rfl dX5_readOpened_62 ?_
        refine z_iconst (v := 1) b dX5_readOpened_65 (by decide) ?_
        refine z_iadd b dX5_readOpened_66 rfl ?_
        refine z_put (q0 := 26) (k9 := 1) tyX5 b (kw_26 cy a rw S4) rfl in_X5 tyX5_ok nmX5 (by decide) wf_X5_18 rfl rfl rfl rfl (Nat.le_of_ble_eq_true rfl) dX5_readOpened_67 (kwp_26_1 cy a rw S4 ((fi S4.1 15) + 1)) ?_
        refine z_iconst (v := 1) b dX5_readOpened_70 (by decide) ?_
        exact z_zret (u := (ksi S4 15 ((fi S4.1 15) + 1))) b rfl (by decide) dX5_readOpened_71 h rfl (by decide) (by decide)
      · replace h := h.2 c1
        refine z_aload_n b dX5_readOpened_54 rfl rfl ?_
        refine z_iconst (v := 1) b dX5_readOpened_55 (by decide) ?_
        refine z_calli b (z_runV (q0 := 26) (As := [.int 1]) (st := []) b (k_X5_refuse hrw S4 1 _ h) cf_X5_refuse (kw_26 cy a rw S4) rfl wm_X5_70 wi_X5_refuse ws_X5_refuse dX5_readOpened_56 rfl (Nat.le_of_ble_eq_true rfl) ⟨by omega, by omega, Nat.le_of_ble_eq_true rfl, Nat.le_of_ble_eq_true rfl⟩) (fun r5 S6 h => ?_)
        obtain ⟨g7, h⟩ := h
        exact z_zret (u := S6) b rfl (z_bool g7) dX5_readOpened_59 h rfl (by decide) (by decide)
    · replace h := h.2 c1
      refine z_iconst (v := 0) b dX5_readOpened_43 (by decide) ?_
      exact z_zret (u := S2) b rfl (by decide) dX5_readOpened_44 h rfl (by decide) (by decide)
  · replace h := h.2 c1
    refine z_aload_n b dX5_readOpened_16 rfl rfl ?_
    refine z_iload_n b dX5_readOpened_17 rfl rfl ?_
    refine z_calli b (z_runV (q0 := 26) (As := [.int p1]) (st := []) b (hsg (ksi S 15 ((fi S.1 15) + 1)) p1 _ h) cf_X5_readClaim (kw_26 cy a rw (ksi S 15 ((fi S.1 15) + 1))) rfl wm_X5_158 wi_X5_readClaim ws_X5_readClaim dX5_readOpened_18 rfl (Nat.le_of_ble_eq_true rfl) ⟨by omega, by omega, Nat.le_of_ble_eq_true rfl, Nat.le_of_ble_eq_true rfl⟩) (fun r8 S9 h => ?_)
    refine y_if_ne (tgt := 26) (xl := r8.toInt) b rfl dX5_readOpened_21 (by decide) (fun c1 => ?_) (fun c1 => ?_)
    · replace h := h.1 c1
      refine z_aload_n b dX5_readOpened_26 rfl rfl ?_
      refine z_bipush (v := 17) b dX5_readOpened_27 (by decide) ?_
      refine z_iconst (v := 0) b dX5_readOpened_29 (by decide) ?_
      refine z_callv b (z_runV (q0 := 26) (As := [.int 17, .int 0]) (st := []) b (k_X5_emit hrw S9 17 0 _ h) cf_X5_emit (kw_26 cy a rw S9) rfl wm_X5_147 wi_X5_emit ws_X5_emit dX5_readOpened_30 rfl (Nat.le_of_ble_eq_true rfl) ⟨by omega, by omega, Nat.le_of_ble_eq_true rfl, Nat.le_of_ble_eq_true rfl⟩) (fun S11 h => ?_)
      refine z_iconst (v := 1) b dX5_readOpened_33 (by decide) ?_
      exact z_zret (u := S11) b rfl (by decide) dX5_readOpened_34 h rfl (by decide) (by decide)
    · replace h := h.2 c1
      refine z_iconst (v := 0) b dX5_readOpened_24 (by decide) ?_
      exact z_zret (u := S9) b rfl (by decide) dX5_readOpened_25 h rfl (by decide) (by decide)

def w_X5_value_B30 (cy : Nat → ClassId) (tE : Nat) (post : Int64 → KS → Prop) (S : KS) (y0 : Int64) : Prop :=
  post y0 S

set_option maxHeartbeats 200000 in
set_option maxRecDepth 100000 in
theorem z_X5_value_B30 {p : Program} {l : Launch} {e : Env} {R : Room} {s : State} {m : MethodId} {args : Array Value} {below : List Frame} {meth : Method} {c : Code} {D : va_G} {cy : Nat → ClassId} {T0 tB tE : Nat} {A : Nat → Prop} {a : Nat → Nat} {rw : Nat → Option Nat} (hrw : ∀ i, i < 6 → rw i = some (a (12 + 2 * i))) {post : Int64 → KS → Prop} (b : Bz p R s m args meth c D cy T0 tB tE A 1 cX5_value RX5 (some .long) "value" 0 0 0 0) (S : KS) (y0 : Int64) (h : w_X5_value_B30 cy tE post S y0) : Z p l e R s m args below meth c D A 1 (MQ below (QL D (U := KS) post (kw cy a rw) A) args s 0 0 A) 0 0 (kw cy a rw S) [] 30 [.long y0] := by
  unfold w_X5_value_B30 at h
  exact z_lret (u := S) b rfl dX5_value_30 h rfl (by decide) (by decide)

def w_X5_value (cy : Nat → ClassId) (tE : Nat) (S : KS)  (post : Int64 → KS → Prop) : Prop :=
  (((fi S.1 21).toInt ≤ (fi S.1 15).toInt → w_X5_value_B30 cy tE post S 0) ∧ ((fi S.1 15).toInt < (fi S.1 21).toInt → (0 ≤ (fi S.1 15).toInt ∧ (fi S.1 15).toInt < 701) ∧ w_X5_value_B30 cy tE post S ((al S.1 1) (fi S.1 15).toNatClampNeg)))

set_option maxHeartbeats 200000 in
set_option maxRecDepth 100000 in
theorem k_X5_value {l : Launch} {D : va_G} {cy : Nat → ClassId} {T0 tB tE : Nat} {a : Nat → Nat} {rw : Nat → Option Nat} (hrw : ∀ i, i < 6 → rw i = some (a (12 + 2 * i))) (S : KS)  (post : Int64 → KS → Prop) (h : w_X5_value cy tE S  post) : Ct l D cy T0 tB tE yX5_value cX5_value 1 (some .long) 0 0 0 0 (kw cy a rw S) [.ref (a 26)] (QL D (U := KS) post (kw cy a rw)) := by
  refine Ct.ofZ RX5 "value" [(0, .ref (a 26))] rfl rfl rfl rfl (Nat.le_of_ble_eq_true rfl) ?_
  intro p e R s m args below meth c A b
  unfold w_X5_value at h
  refine z_aload_n b dX5_value_0 rfl rfl ?_
  refine z_get (q0 := 26) (k9 := 1) (v := .int (fi S.1 15)) b (kw_26 cy a rw S) rfl in_X5 (by decide) wf_X5_18 rfl dX5_value_1 ?_
  refine z_aload_n b dX5_value_4 rfl rfl ?_
  refine z_get (q0 := 26) (k9 := 0) (v := .ref (a 27)) b (kw_26 cy a rw S) rfl in_X5 (by decide) wf_X5_12 rfl dX5_value_5 ?_
  refine z_get (q0 := 27) (k9 := 4) (v := .int (fi S.1 21)) b (kw_27 cy a rw S) rfl in_X10 (by decide) wf_X5_56 rfl dX5_value_8 ?_
  refine y_icmp_ge (tgt := 29) (xl := (fi S.1 15).toInt) (yl := (fi S.1 21).toInt) b rfl rfl dX5_value_11 (by decide) (fun c1 => ?_) (fun c1 => ?_)
  · replace h := h.1 c1
    refine z_lconst (v := 0) b dX5_value_29 (by decide) ?_
    refine z_lv0 (lv' := []) [] rfl ?_
    exact z_X5_value_B30 hrw b _ _ h
  · replace h := h.2 c1
    refine z_aload_n b dX5_value_14 rfl rfl ?_
    refine z_get (q0 := 26) (k9 := 0) (v := .ref (a 27)) b (kw_26 cy a rw S) rfl in_X5 (by decide) wf_X5_12 rfl dX5_value_15 ?_
    refine z_get (q0 := 27) (k9 := 3) (v := .ref (a 31)) b (kw_27 cy a rw S) rfl in_X10 (by decide) wf_X5_62 rfl dX5_value_18 ?_
    refine z_aload_n b dX5_value_21 rfl rfl ?_
    refine z_get (q0 := 26) (k9 := 1) (v := .int (fi S.1 15)) b (kw_26 cy a rw S) rfl in_X5 (by decide) wf_X5_18 rfl dX5_value_22 ?_
    obtain ⟨g1, h⟩ := h
    refine y_lald (q0 := 31) (j := (fi S.1 15).toNatClampNeg) (v := ((al S.1 1) (fi S.1 15).toNatClampNeg)) b (kw_31 cy a rw S) (zx_r g1.1 g1.2) rfl dX5_value_25 ?_
    refine z_goto (tgt := 30) b dX5_value_26 (by decide) ?_
    refine z_lv0 (lv' := []) [] rfl ?_
    exact z_X5_value_B30 hrw b _ _ h

def w_X5_readPersons_B83 (cy : Nat → ClassId) (tE : Nat) (post : Int32 → KS → Prop) (S : KS) (x2 : Int32) (y0 : Int32) (y1 : Int32) : Prop :=
  ((y1.toInt = y0.toInt → post x2 (ksi S 15 ((fi S.1 15) + 1))) ∧ (y1.toInt ≠ y0.toInt → w_X5_refuse cy tE S 1 (fun r6 S7 => post (-1) S7)))

set_option maxHeartbeats 200000 in
set_option maxRecDepth 100000 in
theorem z_X5_readPersons_B83 {p : Program} {l : Launch} {e : Env} {R : Room} {s : State} {m : MethodId} {args : Array Value} {below : List Frame} {meth : Method} {c : Code} {D : va_G} {cy : Nat → ClassId} {T0 tB tE : Nat} {A : Nat → Prop} {a : Nat → Nat} {rw : Nat → Option Nat} (hrw : ∀ i, i < 6 → rw i = some (a (12 + 2 * i))) {post : Int32 → KS → Prop} (b : Bz p R s m args meth c D cy T0 tB tE A 3 cX5_readPersons RX5 (some .int) "readPersons" 1 21 0 0) (S : KS) (x2 : Int32) (y0 : Int32) (y1 : Int32) (h : w_X5_readPersons_B83 cy tE post S x2 y0 y1) : Z p l e R s m args below meth c D A 3 (MQ below (QI D (U := KS) post (kw cy a rw) A) args s 0 0 A) 0 0 (kw cy a rw S) [(0, .ref (a 26)), (2, .int x2)] 83 [.int y0, .int y1] := by
  unfold w_X5_readPersons_B83 at h
  refine y_icmp_eq (tgt := 94) (xl := y1.toInt) (yl := y0.toInt) b rfl rfl dX5_readPersons_83 (by decide) (fun c1 => ?_) (fun c1 => ?_)
  · replace h := h.1 c1
    refine z_aload_n b dX5_readPersons_94 rfl rfl ?_
    refine z_dup b dX5_readPersons_95 rfl ?_
    refine z_get (q0 := 26) (k9 := 1) (v := .int (fi S.1 15)) b (kw_26 cy a rw S) rfl in_X5 (by decide) wf_X5_18 rfl dX5_readPersons_96 ?_
    refine z_iconst (v := 1) b dX5_readPersons_99 (by decide) ?_
    refine z_iadd b dX5_readPersons_100 rfl ?_
    refine z_put (q0 := 26) (k9 := 1) tyX5 b (kw_26 cy a rw S) rfl in_X5 tyX5_ok nmX5 (by decide) wf_X5_18 rfl rfl rfl rfl (Nat.le_of_ble_eq_true rfl) dX5_readPersons_101 (kwp_26_1 cy a rw S ((fi S.1 15) + 1)) ?_
    refine z_iload_n b dX5_readPersons_104 rfl rfl ?_
    exact z_iret (u := (ksi S 15 ((fi S.1 15) + 1))) b rfl dX5_readPersons_105 h rfl (by decide) (by decide)
  · replace h := h.2 c1
    refine z_aload_n b dX5_readPersons_86 rfl rfl ?_
    refine z_iconst (v := 1) b dX5_readPersons_87 (by decide) ?_
    refine z_calli b (z_runV (q0 := 26) (As := [.int 1]) (st := []) b (k_X5_refuse hrw S 1 _ h) cf_X5_refuse (kw_26 cy a rw S) rfl wm_X5_70 wi_X5_refuse ws_X5_refuse dX5_readPersons_88 rfl (Nat.le_of_ble_eq_true rfl) ⟨by decide, by decide, Nat.le_of_ble_eq_true rfl, Nat.le_of_ble_eq_true rfl⟩) (fun r6 S7 h => ?_)
    refine z_pop b dX5_readPersons_91 rfl ?_
    refine z_iconst (v := (-1)) b dX5_readPersons_92 (by decide) ?_
    exact z_iret (u := S7) b rfl dX5_readPersons_93 h rfl (by decide) (by decide)

def w_X5_readPersons_B58 (cy : Nat → ClassId) (tE : Nat) (post : Int32 → KS → Prop) (S : KS) (x1 : Int32) (x2 : Int32) (y0 : Int32) : Prop :=
  (y0 = 0 ∨ y0 = 1) ∧ ((x1.toInt ≠ 1 → w_X5_kind cy tE (ksi S 17 y0) (fun r4 S5 => ((x2.toInt ≠ 0 → w_X5_readPersons_B83 cy tE post S5 x2 21 r4) ∧ (x2.toInt = 0 → w_X5_readPersons_B83 cy tE post S5 x2 22 r4)))) ∧ (x1.toInt = 1 → post x2 (ksi S 17 y0)))

set_option maxHeartbeats 200000 in
set_option maxRecDepth 100000 in
theorem z_X5_readPersons_B58 {p : Program} {l : Launch} {e : Env} {R : Room} {s : State} {m : MethodId} {args : Array Value} {below : List Frame} {meth : Method} {c : Code} {D : va_G} {cy : Nat → ClassId} {T0 tB tE : Nat} {A : Nat → Prop} {a : Nat → Nat} {rw : Nat → Option Nat} (hrw : ∀ i, i < 6 → rw i = some (a (12 + 2 * i))) {post : Int32 → KS → Prop} (b : Bz p R s m args meth c D cy T0 tB tE A 3 cX5_readPersons RX5 (some .int) "readPersons" 1 21 0 0) (S : KS) (x1 : Int32) (x2 : Int32) (y0 : Int32) (h : w_X5_readPersons_B58 cy tE post S x1 x2 y0) : Z p l e R s m args below meth c D A 3 (MQ below (QI D (U := KS) post (kw cy a rw) A) args s 0 0 A) 0 0 (kw cy a rw S) [(0, .ref (a 26)), (1, .int x1), (2, .int x2)] 58 [.int y0, .ref (a 26)] := by
  unfold w_X5_readPersons_B58 at h
  obtain ⟨g3, h⟩ := h
  refine z_put (q0 := 26) (k9 := 4) tyX5 b (kw_26 cy a rw S) rfl in_X5 tyX5_ok nmX5 (by decide) wf_X5_29 rfl rfl (z_bool g3) (z_boolf g3) (Nat.le_of_ble_eq_true rfl) dX5_readPersons_58 (kwp_26_4 cy a rw S y0) ?_
  refine z_iload_n b dX5_readPersons_61 rfl rfl ?_
  refine z_iconst (v := 1) b dX5_readPersons_62 (by decide) ?_
  refine y_icmp_ne (tgt := 68) (xl := x1.toInt) (yl := 1) b rfl (by decide) dX5_readPersons_63 (by decide) (fun c1 => ?_) (fun c1 => ?_)
  · replace h := h.1 c1
    refine z_aload_n b dX5_readPersons_68 rfl rfl ?_
    refine z_calli b (z_runV (q0 := 26) (As := []) (st := []) b (k_X5_kind hrw (ksi S 17 y0) _ h) cf_X5_kind (kw_26 cy a rw (ksi S 17 y0)) rfl wm_X5_66 wi_X5_kind ws_X5_kind dX5_readPersons_69 rfl (Nat.le_of_ble_eq_true rfl) ⟨by decide, by decide, Nat.le_of_ble_eq_true rfl, Nat.le_of_ble_eq_true rfl⟩) (fun r4 S5 h => ?_)
    refine z_iload_n b dX5_readPersons_72 rfl rfl ?_
    refine y_if_ne (tgt := 81) (xl := x2.toInt) b rfl dX5_readPersons_73 (by decide) (fun c1 => ?_) (fun c1 => ?_)
    · replace h := h.1 c1
      refine z_bipush (v := 21) b dX5_readPersons_81 (by decide) ?_
      refine z_lv0 (lv' := [(0, .ref (a 26)), (2, .int x2)]) [0, 2] rfl ?_
      exact z_X5_readPersons_B83 hrw b _ _ _ _ h
    · replace h := h.2 c1
      refine z_bipush (v := 22) b dX5_readPersons_76 (by decide) ?_
      refine z_goto (tgt := 83) b dX5_readPersons_78 (by decide) ?_
      refine z_lv0 (lv' := [(0, .ref (a 26)), (2, .int x2)]) [0, 2] rfl ?_
      exact z_X5_readPersons_B83 hrw b _ _ _ _ h
  · replace h := h.2 c1
    refine z_iload_n b dX5_readPersons_66 rfl rfl ?_
    exact z_iret (u := (ksi S 17 y0)) b rfl dX5_readPersons_67 h rfl (by decide) (by decide)

def w_X5_readPersons_B53 (cy : Nat → ClassId) (tE : Nat) (post : Int32 → KS → Prop) (S : KS) (x1 : Int32) (x2 : Int32) : Prop :=
  w_X5_readPersons_B58 cy tE post S x1 x2 1

set_option maxHeartbeats 200000 in
set_option maxRecDepth 100000 in
theorem z_X5_readPersons_B53 {p : Program} {l : Launch} {e : Env} {R : Room} {s : State} {m : MethodId} {args : Array Value} {below : List Frame} {meth : Method} {c : Code} {D : va_G} {cy : Nat → ClassId} {T0 tB tE : Nat} {A : Nat → Prop} {a : Nat → Nat} {rw : Nat → Option Nat} (hrw : ∀ i, i < 6 → rw i = some (a (12 + 2 * i))) {post : Int32 → KS → Prop} (b : Bz p R s m args meth c D cy T0 tB tE A 3 cX5_readPersons RX5 (some .int) "readPersons" 1 21 0 0) (S : KS) (x1 : Int32) (x2 : Int32) (h : w_X5_readPersons_B53 cy tE post S x1 x2) : Z p l e R s m args below meth c D A 3 (MQ below (QI D (U := KS) post (kw cy a rw) A) args s 0 0 A) 0 0 (kw cy a rw S) [(0, .ref (a 26)), (1, .int x1), (2, .int x2)] 53 [.ref (a 26)] := by
  unfold w_X5_readPersons_B53 at h
  refine z_iconst (v := 1) b dX5_readPersons_53 (by decide) ?_
  refine z_goto (tgt := 58) b dX5_readPersons_54 (by decide) ?_
  exact z_X5_readPersons_B58 hrw b _ _ _ _ h

def w_X5_readPersons_B25 (cy : Nat → ClassId) (tE : Nat) (post : Int32 → KS → Prop) (S : KS) (x1 : Int32) (x2 : Int32) : Prop :=
  (((fi S.1 17).toInt ≠ 0 → w_X5_readPersons_B53 cy tE post (ksi S 15 ((fi S.1 15) + 1)) x1 x2) ∧ ((fi S.1 17).toInt = 0 → ((x2.toInt = 1 → w_X5_readPersons_B53 cy tE post (ksi S 15 ((fi S.1 15) + 1)) x1 x2) ∧ (x2.toInt ≠ 1 → ((x1.toInt ≠ 2 → w_X5_readPersons_B58 cy tE post (ksi S 15 ((fi S.1 15) + 1)) x1 x2 0) ∧ (x1.toInt = 2 → w_X5_readPersons_B53 cy tE post (ksi S 15 ((fi S.1 15) + 1)) x1 x2))))))

set_option maxHeartbeats 200000 in
set_option maxRecDepth 100000 in
theorem z_X5_readPersons_B25 {p : Program} {l : Launch} {e : Env} {R : Room} {s : State} {m : MethodId} {args : Array Value} {below : List Frame} {meth : Method} {c : Code} {D : va_G} {cy : Nat → ClassId} {T0 tB tE : Nat} {A : Nat → Prop} {a : Nat → Nat} {rw : Nat → Option Nat} (hrw : ∀ i, i < 6 → rw i = some (a (12 + 2 * i))) {post : Int32 → KS → Prop} (b : Bz p R s m args meth c D cy T0 tB tE A 3 cX5_readPersons RX5 (some .int) "readPersons" 1 21 0 0) (S : KS) (x1 : Int32) (x2 : Int32) (h : w_X5_readPersons_B25 cy tE post S x1 x2) : Z p l e R s m args below meth c D A 3 (MQ below (QI D (U := KS) post (kw cy a rw) A) args s 0 0 A) 0 0 (kw cy a rw S) [(0, .ref (a 26)), (1, .int x1), (2, .int x2)] 25 [] := by
  unfold w_X5_readPersons_B25 at h
  refine z_aload_n b dX5_readPersons_25 rfl rfl ?_
  refine z_dup b dX5_readPersons_26 rfl ?_
  refine z_get (q0 := 26) (k9 := 1) (v := .int (fi S.1 15)) b (kw_26 cy a rw S) rfl in_X5 (by decide) wf_X5_18 rfl dX5_readPersons_27 ?_
  refine z_iconst (v := 1) b dX5_readPersons_30 (by decide) ?_
  refine z_iadd b dX5_readPersons_31 rfl ?_
  refine z_put (q0 := 26) (k9 := 1) tyX5 b (kw_26 cy a rw S) rfl in_X5 tyX5_ok nmX5 (by decide) wf_X5_18 rfl rfl rfl rfl (Nat.le_of_ble_eq_true rfl) dX5_readPersons_32 (kwp_26_1 cy a rw S ((fi S.1 15) + 1)) ?_
  refine z_aload_n b dX5_readPersons_35 rfl rfl ?_
  refine z_aload_n b dX5_readPersons_36 rfl rfl ?_
  refine z_get (q0 := 26) (k9 := 4) (v := .int (fi S.1 17)) b (kw_26 cy a rw (ksi S 15 ((fi S.1 15) + 1))) rfl in_X5 (by decide) wf_X5_29 rfl dX5_readPersons_37 ?_
  refine y_if_ne (tgt := 53) (xl := (fi S.1 17).toInt) b rfl dX5_readPersons_40 (by decide) (fun c1 => ?_) (fun c1 => ?_)
  · replace h := h.1 c1
    exact z_X5_readPersons_B53 hrw b _ _ _ h
  · replace h := h.2 c1
    refine z_iload_n b dX5_readPersons_43 rfl rfl ?_
    refine z_iconst (v := 1) b dX5_readPersons_44 (by decide) ?_
    refine y_icmp_eq (tgt := 53) (xl := x2.toInt) (yl := 1) b rfl (by decide) dX5_readPersons_45 (by decide) (fun c1 => ?_) (fun c1 => ?_)
    · replace h := h.1 c1
      exact z_X5_readPersons_B53 hrw b _ _ _ h
    · replace h := h.2 c1
      refine z_iload_n b dX5_readPersons_48 rfl rfl ?_
      refine z_iconst (v := 2) b dX5_readPersons_49 (by decide) ?_
      refine y_icmp_ne (tgt := 57) (xl := x1.toInt) (yl := 2) b rfl (by decide) dX5_readPersons_50 (by decide) (fun c1 => ?_) (fun c1 => ?_)
      · replace h := h.1 c1
        refine z_iconst (v := 0) b dX5_readPersons_57 (by decide) ?_
        exact z_X5_readPersons_B58 hrw b _ _ _ _ h
      · replace h := h.2 c1
        exact z_X5_readPersons_B53 hrw b _ _ _ h

def w_X5_readPersons (cy : Nat → ClassId) (tE : Nat) (S : KS) (p0 : Int32) (post : Int32 → KS → Prop) : Prop :=
  w_X5_kind cy tE S (fun r1 S2 => (((r1 - 21).toInt = 0 → w_X5_readPersons_B25 cy tE post S2 p0 (r1 - 21)) ∧ ((r1 - 21).toInt ≠ 0 → (((r1 - 21).toInt = 1 → w_X5_readPersons_B25 cy tE post S2 p0 (r1 - 21)) ∧ ((r1 - 21).toInt ≠ 1 → w_X5_refuse cy tE S2 1 (fun r8 S9 => post (-1) S9))))))

set_option maxHeartbeats 200000 in
set_option maxRecDepth 100000 in
theorem k_X5_readPersons {l : Launch} {D : va_G} {cy : Nat → ClassId} {T0 tB tE : Nat} {a : Nat → Nat} {rw : Nat → Option Nat} (hrw : ∀ i, i < 6 → rw i = some (a (12 + 2 * i))) (S : KS) (p0 : Int32) (post : Int32 → KS → Prop) (h : w_X5_readPersons cy tE S p0 post) : Ct l D cy T0 tB tE yX5_readPersons cX5_readPersons 3 (some .int) 1 21 0 0 (kw cy a rw S) [.ref (a 26), .int p0] (QI D (U := KS) post (kw cy a rw)) := by
  refine Ct.ofZ RX5 "readPersons" [(0, .ref (a 26)), (1, .int p0)] rfl rfl rfl rfl (Nat.le_of_ble_eq_true rfl) ?_
  intro p e R s m args below meth c A b
  unfold w_X5_readPersons at h
  refine z_aload_n b dX5_readPersons_0 rfl rfl ?_
  refine z_calli b (z_runV (q0 := 26) (As := []) (st := []) b (k_X5_kind hrw S _ h) cf_X5_kind (kw_26 cy a rw S) rfl wm_X5_66 wi_X5_kind ws_X5_kind dX5_readPersons_1 rfl (Nat.le_of_ble_eq_true rfl) ⟨by decide, by decide, Nat.le_of_ble_eq_true rfl, Nat.le_of_ble_eq_true rfl⟩) (fun r1 S2 h => ?_)
  refine z_bipush (v := 21) b dX5_readPersons_4 (by decide) ?_
  refine z_isub b dX5_readPersons_6 rfl ?_
  refine z_istore_n (lv' := [(2, .int (r1 - 21)), (0, .ref (a 26)), (1, .int p0)]) b dX5_readPersons_7 rfl (by decide) rfl ?_
  refine z_iload_n b dX5_readPersons_8 rfl rfl ?_
  refine y_if_eq (tgt := 25) (xl := (r1 - 21).toInt) b rfl dX5_readPersons_9 (by decide) (fun c1 => ?_) (fun c1 => ?_)
  · replace h := h.1 c1
    refine z_lv0 (lv' := [(0, .ref (a 26)), (1, .int p0), (2, .int (r1 - 21))]) [1, 2, 0] rfl ?_
    exact z_X5_readPersons_B25 hrw b _ _ _ h
  · replace h := h.2 c1
    refine z_iload_n b dX5_readPersons_12 rfl rfl ?_
    refine z_iconst (v := 1) b dX5_readPersons_13 (by decide) ?_
    refine y_icmp_eq (tgt := 25) (xl := (r1 - 21).toInt) (yl := 1) b rfl (by decide) dX5_readPersons_14 (by decide) (fun c1 => ?_) (fun c1 => ?_)
    · replace h := h.1 c1
      refine z_lv0 (lv' := [(0, .ref (a 26)), (1, .int p0), (2, .int (r1 - 21))]) [1, 2, 0] rfl ?_
      exact z_X5_readPersons_B25 hrw b _ _ _ h
    · replace h := h.2 c1
      refine z_aload_n b dX5_readPersons_17 rfl rfl ?_
      refine z_iconst (v := 1) b dX5_readPersons_18 (by decide) ?_
      refine z_calli b (z_runV (q0 := 26) (As := [.int 1]) (st := []) b (k_X5_refuse hrw S2 1 _ h) cf_X5_refuse (kw_26 cy a rw S2) rfl wm_X5_70 wi_X5_refuse ws_X5_refuse dX5_readPersons_19 rfl (Nat.le_of_ble_eq_true rfl) ⟨by decide, by decide, Nat.le_of_ble_eq_true rfl, Nat.le_of_ble_eq_true rfl⟩) (fun r8 S9 h => ?_)
      refine z_pop b dX5_readPersons_22 rfl ?_
      refine z_iconst (v := (-1)) b dX5_readPersons_23 (by decide) ?_
      exact z_iret (u := S9) b rfl dX5_readPersons_24 h rfl (by decide) (by decide)

