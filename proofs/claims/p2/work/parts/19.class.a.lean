def w_X8_forget (cy : Nat → ClassId) (tE : Nat) (S : KS)  (post : KS → Prop) : Prop :=
  post (ksi S 32 0)

set_option maxHeartbeats 4000000 in
set_option maxRecDepth 100000 in
theorem k_X8_forget {l : Launch} {D : va_G} {cy : Nat → ClassId} {T0 tB tE : Nat} {a : Nat → Nat} {rw : Nat → Option Nat} (hrw : ∀ i, i < 6 → rw i = some (a (12 + 2 * i))) (S : KS)  (post : KS → Prop) (h : w_X8_forget cy tE S  post) : Ct l D cy T0 tB tE yX8_forget cX8_forget 1 none 0 0 0 0 (kw cy a rw S) [.ref (a 38)] (QV D (U := KS) post (kw cy a rw)) := by
  refine Ct.ofZ RX8 "forget" [(0, .ref (a 38))] rfl rfl rfl rfl (Nat.le_of_ble_eq_true rfl) ?_
  intro p e R s m args below meth c A b
  unfold w_X8_forget at h
  refine z_aload_n b dX8_forget_0 rfl rfl ?_
  refine z_iconst (v := 0) b dX8_forget_1 (by decide) ?_
  refine z_put (q0 := 38) (k9 := 16) tyX8 b (kw_38 cy a rw S) rfl in_X8 tyX8_ok nmX8 (by decide) wf_X8_60 rfl rfl rfl rfl (Nat.le_of_ble_eq_true rfl) dX8_forget_2 (kwp_38_16 cy a rw S 0) ?_
  exact z_vret (u := (ksi S 32 0)) b rfl dX8_forget_5 h rfl (by decide) (by decide)

def w_X11_thingOf (cy : Nat → ClassId) (tE : Nat) (S : KS) (p0 : Int32) (post : Int32 → KS → Prop) : Prop :=
  post (p0 &&& 3) S

set_option maxHeartbeats 4000000 in
set_option maxRecDepth 100000 in
theorem k_X11_thingOf {l : Launch} {D : va_G} {cy : Nat → ClassId} {T0 tB tE : Nat} {a : Nat → Nat} {rw : Nat → Option Nat} (hrw : ∀ i, i < 6 → rw i = some (a (12 + 2 * i))) (S : KS) (p0 : Int32) (post : Int32 → KS → Prop) (h : w_X11_thingOf cy tE S p0 post) : Ct l D cy T0 tB tE yX11_thingOf cX11_thingOf 1 (some .int) 0 0 0 0 (kw cy a rw S) [.int p0] (QI D (U := KS) post (kw cy a rw)) := by
  refine Ct.ofZ RX11 "thingOf" [(0, .int p0)] rfl rfl rfl rfl (Nat.le_of_ble_eq_true rfl) ?_
  intro p e R s m args below meth c A b
  unfold w_X11_thingOf at h
  refine z_iload_n b dX11_thingOf_0 rfl rfl ?_
  refine z_iconst (v := 3) b dX11_thingOf_1 (by decide) ?_
  refine z_iand b dX11_thingOf_2 rfl ?_
  exact z_iret (u := S) b rfl dX11_thingOf_3 h rfl (by decide) (by decide)

def w_X9_coinShift (cy : Nat → ClassId) (tE : Nat) (S : KS) (p0 : Int32) (post : Int32 → KS → Prop) : Prop :=
  post ((4 : Int32) + ((4 : Int32) * p0)) S

set_option maxHeartbeats 4000000 in
set_option maxRecDepth 100000 in
theorem k_X9_coinShift {l : Launch} {D : va_G} {cy : Nat → ClassId} {T0 tB tE : Nat} {a : Nat → Nat} {rw : Nat → Option Nat} (hrw : ∀ i, i < 6 → rw i = some (a (12 + 2 * i))) (S : KS) (p0 : Int32) (post : Int32 → KS → Prop) (h : w_X9_coinShift cy tE S p0 post) : Ct l D cy T0 tB tE yX9_coinShift cX9_coinShift 1 (some .int) 0 0 0 0 (kw cy a rw S) [.int p0] (QI D (U := KS) post (kw cy a rw)) := by
  refine Ct.ofZ RX9 "coinShift" [(0, .int p0)] rfl rfl rfl rfl (Nat.le_of_ble_eq_true rfl) ?_
  intro p e R s m args below meth c A b
  unfold w_X9_coinShift at h
  refine z_iconst (v := 4) b dX9_coinShift_0 (by decide) ?_
  refine z_iconst (v := 4) b dX9_coinShift_1 (by decide) ?_
  refine z_iload_n b dX9_coinShift_2 rfl rfl ?_
  refine z_imul b dX9_coinShift_3 rfl ?_
  refine z_iadd b dX9_coinShift_4 rfl ?_
  exact z_iret (u := S) b rfl dX9_coinShift_5 h rfl (by decide) (by decide)

def w_X9_ownerShift (cy : Nat → ClassId) (tE : Nat) (S : KS) (p0 : Int32) (post : Int32 → KS → Prop) : Prop :=
  post ((16 : Int32) + ((2 : Int32) * p0)) S

set_option maxHeartbeats 4000000 in
set_option maxRecDepth 100000 in
theorem k_X9_ownerShift {l : Launch} {D : va_G} {cy : Nat → ClassId} {T0 tB tE : Nat} {a : Nat → Nat} {rw : Nat → Option Nat} (hrw : ∀ i, i < 6 → rw i = some (a (12 + 2 * i))) (S : KS) (p0 : Int32) (post : Int32 → KS → Prop) (h : w_X9_ownerShift cy tE S p0 post) : Ct l D cy T0 tB tE yX9_ownerShift cX9_ownerShift 1 (some .int) 0 0 0 0 (kw cy a rw S) [.int p0] (QI D (U := KS) post (kw cy a rw)) := by
  refine Ct.ofZ RX9 "ownerShift" [(0, .int p0)] rfl rfl rfl rfl (Nat.le_of_ble_eq_true rfl) ?_
  intro p e R s m args below meth c A b
  unfold w_X9_ownerShift at h
  refine z_bipush (v := 16) b dX9_ownerShift_0 (by decide) ?_
  refine z_iconst (v := 2) b dX9_ownerShift_2 (by decide) ?_
  refine z_iload_n b dX9_ownerShift_3 rfl rfl ?_
  refine z_imul b dX9_ownerShift_4 rfl ?_
  refine z_iadd b dX9_ownerShift_5 rfl ?_
  exact z_iret (u := S) b rfl dX9_ownerShift_6 h rfl (by decide) (by decide)

def w_X11_doerOf (cy : Nat → ClassId) (tE : Nat) (S : KS) (p0 : Int32) (post : Int32 → KS → Prop) : Prop :=
  post ((p0 >>> ((4 : Int32) &&& 31)) &&& 3) S

set_option maxHeartbeats 4000000 in
set_option maxRecDepth 100000 in
theorem k_X11_doerOf {l : Launch} {D : va_G} {cy : Nat → ClassId} {T0 tB tE : Nat} {a : Nat → Nat} {rw : Nat → Option Nat} (hrw : ∀ i, i < 6 → rw i = some (a (12 + 2 * i))) (S : KS) (p0 : Int32) (post : Int32 → KS → Prop) (h : w_X11_doerOf cy tE S p0 post) : Ct l D cy T0 tB tE yX11_doerOf cX11_doerOf 1 (some .int) 0 0 0 0 (kw cy a rw S) [.int p0] (QI D (U := KS) post (kw cy a rw)) := by
  refine Ct.ofZ RX11 "doerOf" [(0, .int p0)] rfl rfl rfl rfl (Nat.le_of_ble_eq_true rfl) ?_
  intro p e R s m args below meth c A b
  unfold w_X11_doerOf at h
  refine z_iload_n b dX11_doerOf_0 rfl rfl ?_
  refine z_iconst (v := 4) b dX11_doerOf_1 (by decide) ?_
  refine z_ishr b dX11_doerOf_2 rfl ?_
  refine z_iconst (v := 3) b dX11_doerOf_3 (by decide) ?_
  refine z_iand b dX11_doerOf_4 rfl ?_
  exact z_iret (u := S) b rfl dX11_doerOf_5 h rfl (by decide) (by decide)

def w_X11_otherOf (cy : Nat → ClassId) (tE : Nat) (S : KS) (p0 : Int32) (post : Int32 → KS → Prop) : Prop :=
  post ((p0 >>> ((2 : Int32) &&& 31)) &&& 3) S

set_option maxHeartbeats 4000000 in
set_option maxRecDepth 100000 in
theorem k_X11_otherOf {l : Launch} {D : va_G} {cy : Nat → ClassId} {T0 tB tE : Nat} {a : Nat → Nat} {rw : Nat → Option Nat} (hrw : ∀ i, i < 6 → rw i = some (a (12 + 2 * i))) (S : KS) (p0 : Int32) (post : Int32 → KS → Prop) (h : w_X11_otherOf cy tE S p0 post) : Ct l D cy T0 tB tE yX11_otherOf cX11_otherOf 1 (some .int) 0 0 0 0 (kw cy a rw S) [.int p0] (QI D (U := KS) post (kw cy a rw)) := by
  refine Ct.ofZ RX11 "otherOf" [(0, .int p0)] rfl rfl rfl rfl (Nat.le_of_ble_eq_true rfl) ?_
  intro p e R s m args below meth c A b
  unfold w_X11_otherOf at h
  refine z_iload_n b dX11_otherOf_0 rfl rfl ?_
  refine z_iconst (v := 2) b dX11_otherOf_1 (by decide) ?_
  refine z_ishr b dX11_otherOf_2 rfl ?_
  refine z_iconst (v := 3) b dX11_otherOf_3 (by decide) ?_
  refine z_iand b dX11_otherOf_4 rfl ?_
  exact z_iret (u := S) b rfl dX11_otherOf_5 h rfl (by decide) (by decide)

def w_X3_init (cy : Nat → ClassId) (tE : Nat) (S : KS) (p9 : Nat) (p0 : Int32) (p1 : Nat) (post : KS → Prop) : Prop :=
  ∃ (i1 : Nat) (f2 : Int32) (f3 : Nat), S.2.2.2[i1]? = some (p9, .inr (4, [.int f2, .ref f3])) ∧ ∃ (i5 : Nat) (f6 : Int32) (f7 : Nat), (S.2.2.2.set i1 (p9, .inr (4, [.int p0, .ref f3])))[i5]? = some (p9, .inr (4, [.int f6, .ref f7])) ∧ post (ksL (ksL S (S.2.2.2.set i1 (p9, .inr (4, [.int p0, .ref f3])))) ((S.2.2.2.set i1 (p9, .inr (4, [.int p0, .ref f3]))).set i5 (p9, .inr (4, [.int f6, .ref p1]))))

set_option maxHeartbeats 4000000 in
set_option maxRecDepth 100000 in
theorem k_X3_init {l : Launch} {D : va_G} {cy : Nat → ClassId} {T0 tB tE : Nat} {a : Nat → Nat} {rw : Nat → Option Nat} (hrw : ∀ i, i < 6 → rw i = some (a (12 + 2 * i))) (S : KS) (p9 : Nat) (p0 : Int32) (p1 : Nat) (post : KS → Prop) (h : w_X3_init cy tE S p9 p0 p1 post) : Ct l D cy T0 tB tE yX3_init cX3_init 3 none 1 20 0 0 (kw cy a rw S) [.ref p9, .int p0, .ref p1] (QV D (U := KS) post (kw cy a rw)) := by
  refine Ct.ofZ RX3 "<init>" [(0, .ref p9), (1, .int p0), (2, .ref p1)] rfl rfl rfl rfl (Nat.le_of_ble_eq_true rfl) ?_
  intro p e R s m args below meth c A b
  unfold w_X3_init at h
  refine z_aload_n b dX3_init_0 rfl rfl ?_
  refine z_objInit b wm_X3_1 wi_objInit wc_objInit dX3_init_1 (by decide) (Nat.le_of_ble_eq_true rfl) ?_
  refine z_aload_n b dX3_init_4 rfl rfl ?_
  refine z_iload_n b dX3_init_5 rfl rfl ?_
  obtain ⟨i1, f2, f3, g4, h⟩ := h
  refine z_putF (q0 := 47 + i1) (k9 := 0) tyX3 b (kw_dyn cy a rw S g4) rfl in_X3 tyX3_ok nmX3 (by decide) wf_X3_7 rfl rfl rfl rfl rfl rfl (Nat.le_of_ble_eq_true rfl) dX3_init_6 (kw_dset cy a rw S i1 (p9, .inr (4, [.int p0, .ref f3]))) ?_
  refine z_aload_n b dX3_init_9 rfl rfl ?_
  refine z_aload_n b dX3_init_10 rfl rfl ?_
  obtain ⟨i5, f6, f7, g8, h⟩ := h
  refine z_putF (q0 := 47 + i5) (k9 := 1) tyX3 b (kw_dyn cy a rw (ksL S (S.2.2.2.set i1 (p9, .inr (4, [.int p0, .ref f3])))) g8) rfl in_X3 tyX3_ok nmX3 (by decide) wf_X3_13 rfl rfl rfl rfl rfl rfl (Nat.le_of_ble_eq_true rfl) dX3_init_11 (kw_dset cy a rw (ksL S (S.2.2.2.set i1 (p9, .inr (4, [.int p0, .ref f3])))) i5 (p9, .inr (4, [.int f6, .ref p1]))) ?_
  exact z_vret (u := (ksL (ksL S (S.2.2.2.set i1 (p9, .inr (4, [.int p0, .ref f3])))) ((S.2.2.2.set i1 (p9, .inr (4, [.int p0, .ref f3]))).set i5 (p9, .inr (4, [.int f6, .ref p1]))))) b rfl dX3_init_14 h rfl (by decide) (by decide)

def w_X11_isWithin_B14 (cy : Nat → ClassId) (tE : Nat) (post : Int32 → KS → Prop) (S : KS) (y0 : Int32) : Prop :=
  (y0 = 0 ∨ y0 = 1) ∧ post y0 S

set_option maxHeartbeats 4000000 in
set_option maxRecDepth 100000 in
theorem z_X11_isWithin_B14 {p : Program} {l : Launch} {e : Env} {R : Room} {s : State} {m : MethodId} {args : Array Value} {below : List Frame} {meth : Method} {c : Code} {D : va_G} {cy : Nat → ClassId} {T0 tB tE : Nat} {A : Nat → Prop} {a : Nat → Nat} {rw : Nat → Option Nat} (hrw : ∀ i, i < 6 → rw i = some (a (12 + 2 * i))) {post : Int32 → KS → Prop} (b : Bz p R s m args meth c D cy T0 tB tE A 2 cX11_isWithin RX11 (some .boolean) "isWithin" 0 0 0 0) (S : KS) (y0 : Int32) (h : w_X11_isWithin_B14 cy tE post S y0) : Z p l e R s m args below meth c D A 2 (MQ below (QI D (U := KS) post (kw cy a rw) A) args s 0 0 A) 0 0 (kw cy a rw S) [] 14 [.int y0] := by
  unfold w_X11_isWithin_B14 at h
  obtain ⟨g1, h⟩ := h
  exact z_zret (u := S) b rfl (z_bool g1) dX11_isWithin_14 h rfl (by decide) (by decide)

def w_X11_isWithin_B13 (cy : Nat → ClassId) (tE : Nat) (post : Int32 → KS → Prop) (S : KS)  : Prop :=
  w_X11_isWithin_B14 cy tE post S 0

set_option maxHeartbeats 4000000 in
set_option maxRecDepth 100000 in
theorem z_X11_isWithin_B13 {p : Program} {l : Launch} {e : Env} {R : Room} {s : State} {m : MethodId} {args : Array Value} {below : List Frame} {meth : Method} {c : Code} {D : va_G} {cy : Nat → ClassId} {T0 tB tE : Nat} {A : Nat → Prop} {a : Nat → Nat} {rw : Nat → Option Nat} (hrw : ∀ i, i < 6 → rw i = some (a (12 + 2 * i))) {post : Int32 → KS → Prop} (b : Bz p R s m args meth c D cy T0 tB tE A 2 cX11_isWithin RX11 (some .boolean) "isWithin" 0 0 0 0) (S : KS)  (h : w_X11_isWithin_B13 cy tE post S ) : Z p l e R s m args below meth c D A 2 (MQ below (QI D (U := KS) post (kw cy a rw) A) args s 0 0 A) 0 0 (kw cy a rw S) [] 13 [] := by
  unfold w_X11_isWithin_B13 at h
  refine z_iconst (v := 0) b dX11_isWithin_13 (by decide) ?_
  exact z_X11_isWithin_B14 hrw b _ _ h

def w_X11_isWithin (cy : Nat → ClassId) (tE : Nat) (S : KS) (p0 : Int32) (p1 : Int32) (post : Int32 → KS → Prop) : Prop :=
  ((p0.toInt < 0 → w_X11_isWithin_B13 cy tE post S) ∧ (0 ≤ p0.toInt → ((p1.toInt < p0.toInt → w_X11_isWithin_B13 cy tE post S) ∧ (p0.toInt ≤ p1.toInt → w_X11_isWithin_B14 cy tE post S 1))))

set_option maxHeartbeats 4000000 in
set_option maxRecDepth 100000 in
theorem k_X11_isWithin {l : Launch} {D : va_G} {cy : Nat → ClassId} {T0 tB tE : Nat} {a : Nat → Nat} {rw : Nat → Option Nat} (hrw : ∀ i, i < 6 → rw i = some (a (12 + 2 * i))) (S : KS) (p0 : Int32) (p1 : Int32) (post : Int32 → KS → Prop) (h : w_X11_isWithin cy tE S p0 p1 post) : Ct l D cy T0 tB tE yX11_isWithin cX11_isWithin 2 (some .boolean) 0 0 0 0 (kw cy a rw S) [.int p0, .int p1] (QI D (U := KS) post (kw cy a rw)) := by
  refine Ct.ofZ RX11 "isWithin" [(0, .int p0), (1, .int p1)] rfl rfl rfl rfl (Nat.le_of_ble_eq_true rfl) ?_
  intro p e R s m args below meth c A b
  unfold w_X11_isWithin at h
  refine z_iload_n b dX11_isWithin_0 rfl rfl ?_
  refine y_if_lt (tgt := 13) (xl := p0.toInt) b rfl dX11_isWithin_1 (by decide) (fun c1 => ?_) (fun c1 => ?_)
  · replace h := h.1 c1
    refine z_lv0 (lv' := []) [] rfl ?_
    exact z_X11_isWithin_B13 hrw b _ h
  · replace h := h.2 c1
    refine z_iload_n b dX11_isWithin_4 rfl rfl ?_
    refine z_iload_n b dX11_isWithin_5 rfl rfl ?_
    refine y_icmp_gt (tgt := 13) (xl := p0.toInt) (yl := p1.toInt) b rfl rfl dX11_isWithin_6 (by decide) (fun c1 => ?_) (fun c1 => ?_)
    · replace h := h.1 c1
      refine z_lv0 (lv' := []) [] rfl ?_
      exact z_X11_isWithin_B13 hrw b _ h
    · replace h := h.2 c1
      refine z_iconst (v := 1) b dX11_isWithin_9 (by decide) ?_
      refine z_goto (tgt := 14) b dX11_isWithin_10 (by decide) ?_
      refine z_lv0 (lv' := []) [] rfl ?_
      exact z_X11_isWithin_B14 hrw b _ _ h

def w_X11_isPerson_B14 (cy : Nat → ClassId) (tE : Nat) (post : Int32 → KS → Prop) (S : KS) (y0 : Int32) : Prop :=
  (y0 = 0 ∨ y0 = 1) ∧ post y0 S

set_option maxHeartbeats 4000000 in
set_option maxRecDepth 100000 in
theorem z_X11_isPerson_B14 {p : Program} {l : Launch} {e : Env} {R : Room} {s : State} {m : MethodId} {args : Array Value} {below : List Frame} {meth : Method} {c : Code} {D : va_G} {cy : Nat → ClassId} {T0 tB tE : Nat} {A : Nat → Prop} {a : Nat → Nat} {rw : Nat → Option Nat} (hrw : ∀ i, i < 6 → rw i = some (a (12 + 2 * i))) {post : Int32 → KS → Prop} (b : Bz p R s m args meth c D cy T0 tB tE A 1 cX11_isPerson RX11 (some .boolean) "isPerson" 0 0 0 0) (S : KS) (y0 : Int32) (h : w_X11_isPerson_B14 cy tE post S y0) : Z p l e R s m args below meth c D A 1 (MQ below (QI D (U := KS) post (kw cy a rw) A) args s 0 0 A) 0 0 (kw cy a rw S) [] 14 [.int y0] := by
  unfold w_X11_isPerson_B14 at h
  obtain ⟨g1, h⟩ := h
  exact z_zret (u := S) b rfl (z_bool g1) dX11_isPerson_14 h rfl (by decide) (by decide)

def w_X11_isPerson_B13 (cy : Nat → ClassId) (tE : Nat) (post : Int32 → KS → Prop) (S : KS)  : Prop :=
  w_X11_isPerson_B14 cy tE post S 0

set_option maxHeartbeats 4000000 in
set_option maxRecDepth 100000 in
theorem z_X11_isPerson_B13 {p : Program} {l : Launch} {e : Env} {R : Room} {s : State} {m : MethodId} {args : Array Value} {below : List Frame} {meth : Method} {c : Code} {D : va_G} {cy : Nat → ClassId} {T0 tB tE : Nat} {A : Nat → Prop} {a : Nat → Nat} {rw : Nat → Option Nat} (hrw : ∀ i, i < 6 → rw i = some (a (12 + 2 * i))) {post : Int32 → KS → Prop} (b : Bz p R s m args meth c D cy T0 tB tE A 1 cX11_isPerson RX11 (some .boolean) "isPerson" 0 0 0 0) (S : KS)  (h : w_X11_isPerson_B13 cy tE post S ) : Z p l e R s m args below meth c D A 1 (MQ below (QI D (U := KS) post (kw cy a rw) A) args s 0 0 A) 0 0 (kw cy a rw S) [] 13 [] := by
  unfold w_X11_isPerson_B13 at h
  refine z_iconst (v := 0) b dX11_isPerson_13 (by decide) ?_
  exact z_X11_isPerson_B14 hrw b _ _ h

def w_X11_isPerson (cy : Nat → ClassId) (tE : Nat) (S : KS) (p0 : Int32) (post : Int32 → KS → Prop) : Prop :=
  ((p0.toInt < 0 → w_X11_isPerson_B13 cy tE post S) ∧ (0 ≤ p0.toInt → ((3 ≤ p0.toInt → w_X11_isPerson_B13 cy tE post S) ∧ (p0.toInt < 3 → w_X11_isPerson_B14 cy tE post S 1))))

set_option maxHeartbeats 4000000 in
set_option maxRecDepth 100000 in
theorem k_X11_isPerson {l : Launch} {D : va_G} {cy : Nat → ClassId} {T0 tB tE : Nat} {a : Nat → Nat} {rw : Nat → Option Nat} (hrw : ∀ i, i < 6 → rw i = some (a (12 + 2 * i))) (S : KS) (p0 : Int32) (post : Int32 → KS → Prop) (h : w_X11_isPerson cy tE S p0 post) : Ct l D cy T0 tB tE yX11_isPerson cX11_isPerson 1 (some .boolean) 0 0 0 0 (kw cy a rw S) [.int p0] (QI D (U := KS) post (kw cy a rw)) := by
  refine Ct.ofZ RX11 "isPerson" [(0, .int p0)] rfl rfl rfl rfl (Nat.le_of_ble_eq_true rfl) ?_
  intro p e R s m args below meth c A b
  unfold w_X11_isPerson at h
  refine z_iload_n b dX11_isPerson_0 rfl rfl ?_
  refine y_if_lt (tgt := 13) (xl := p0.toInt) b rfl dX11_isPerson_1 (by decide) (fun c1 => ?_) (fun c1 => ?_)
  · replace h := h.1 c1
    refine z_lv0 (lv' := []) [] rfl ?_
    exact z_X11_isPerson_B13 hrw b _ h
  · replace h := h.2 c1
    refine z_iload_n b dX11_isPerson_4 rfl rfl ?_
    refine z_iconst (v := 3) b dX11_isPerson_5 (by decide) ?_
    refine y_icmp_ge (tgt := 13) (xl := p0.toInt) (yl := 3) b rfl (by decide) dX11_isPerson_6 (by decide) (fun c1 => ?_) (fun c1 => ?_)
    · replace h := h.1 c1
      refine z_lv0 (lv' := []) [] rfl ?_
      exact z_X11_isPerson_B13 hrw b _ h
    · replace h := h.2 c1
      refine z_iconst (v := 1) b dX11_isPerson_9 (by decide) ?_
      refine z_goto (tgt := 14) b dX11_isPerson_10 (by decide) ?_
      refine z_lv0 (lv' := []) [] rfl ?_
      exact z_X11_isPerson_B14 hrw b _ _ h

def w_X11_isThing_B14 (cy : Nat → ClassId) (tE : Nat) (post : Int32 → KS → Prop) (S : KS) (y0 : Int32) : Prop :=
  (y0 = 0 ∨ y0 = 1) ∧ post y0 S

set_option maxHeartbeats 4000000 in
set_option maxRecDepth 100000 in
theorem z_X11_isThing_B14 {p : Program} {l : Launch} {e : Env} {R : Room} {s : State} {m : MethodId} {args : Array Value} {below : List Frame} {meth : Method} {c : Code} {D : va_G} {cy : Nat → ClassId} {T0 tB tE : Nat} {A : Nat → Prop} {a : Nat → Nat} {rw : Nat → Option Nat} (hrw : ∀ i, i < 6 → rw i = some (a (12 + 2 * i))) {post : Int32 → KS → Prop} (b : Bz p R s m args meth c D cy T0 tB tE A 1 cX11_isThing RX11 (some .boolean) "isThing" 0 0 0 0) (S : KS) (y0 : Int32) (h : w_X11_isThing_B14 cy tE post S y0) : Z p l e R s m args below meth c D A 1 (MQ below (QI D (U := KS) post (kw cy a rw) A) args s 0 0 A) 0 0 (kw cy a rw S) [] 14 [.int y0] := by
  unfold w_X11_isThing_B14 at h
  obtain ⟨g1, h⟩ := h
  exact z_zret (u := S) b rfl (z_bool g1) dX11_isThing_14 h rfl (by decide) (by decide)

def w_X11_isThing_B13 (cy : Nat → ClassId) (tE : Nat) (post : Int32 → KS → Prop) (S : KS)  : Prop :=
  w_X11_isThing_B14 cy tE post S 0

set_option maxHeartbeats 4000000 in
set_option maxRecDepth 100000 in
theorem z_X11_isThing_B13 {p : Program} {l : Launch} {e : Env} {R : Room} {s : State} {m : MethodId} {args : Array Value} {below : List Frame} {meth : Method} {c : Code} {D : va_G} {cy : Nat → ClassId} {T0 tB tE : Nat} {A : Nat → Prop} {a : Nat → Nat} {rw : Nat → Option Nat} (hrw : ∀ i, i < 6 → rw i = some (a (12 + 2 * i))) {post : Int32 → KS → Prop} (b : Bz p R s m args meth c D cy T0 tB tE A 1 cX11_isThing RX11 (some .boolean) "isThing" 0 0 0 0) (S : KS)  (h : w_X11_isThing_B13 cy tE post S ) : Z p l e R s m args below meth c D A 1 (MQ below (QI D (U := KS) post (kw cy a rw) A) args s 0 0 A) 0 0 (kw cy a rw S) [] 13 [] := by
  unfold w_X11_isThing_B13 at h
  refine z_iconst (v := 0) b dX11_isThing_13 (by decide) ?_
  exact z_X11_isThing_B14 hrw b _ _ h

def w_X11_isThing (cy : Nat → ClassId) (tE : Nat) (S : KS) (p0 : Int32) (post : Int32 → KS → Prop) : Prop :=
  ((p0.toInt < 0 → w_X11_isThing_B13 cy tE post S) ∧ (0 ≤ p0.toInt → ((3 ≤ p0.toInt → w_X11_isThing_B13 cy tE post S) ∧ (p0.toInt < 3 → w_X11_isThing_B14 cy tE post S 1))))

set_option maxHeartbeats 4000000 in
set_option maxRecDepth 100000 in
theorem k_X11_isThing {l : Launch} {D : va_G} {cy : Nat → ClassId} {T0 tB tE : Nat} {a : Nat → Nat} {rw : Nat → Option Nat} (hrw : ∀ i, i < 6 → rw i = some (a (12 + 2 * i))) (S : KS) (p0 : Int32) (post : Int32 → KS → Prop) (h : w_X11_isThing cy tE S p0 post) : Ct l D cy T0 tB tE yX11_isThing cX11_isThing 1 (some .boolean) 0 0 0 0 (kw cy a rw S) [.int p0] (QI D (U := KS) post (kw cy a rw)) := by
  refine Ct.ofZ RX11 "isThing" [(0, .int p0)] rfl rfl rfl rfl (Nat.le_of_ble_eq_true rfl) ?_
  intro p e R s m args below meth c A b
  unfold w_X11_isThing at h
  refine z_iload_n b dX11_isThing_0 rfl rfl ?_
  refine y_if_lt (tgt := 13) (xl := p0.toInt) b rfl dX11_isThing_1 (by decide) (fun c1 => ?_) (fun c1 => ?_)
  · replace h := h.1 c1
    refine z_lv0 (lv' := []) [] rfl ?_
    exact z_X11_isThing_B13 hrw b _ h
  · replace h := h.2 c1
    refine z_iload_n b dX11_isThing_4 rfl rfl ?_
    refine z_iconst (v := 3) b dX11_isThing_5 (by decide) ?_
    refine y_icmp_ge (tgt := 13) (xl := p0.toInt) (yl := 3) b rfl (by decide) dX11_isThing_6 (by decide) (fun c1 => ?_) (fun c1 => ?_)
    · replace h := h.1 c1
      refine z_lv0 (lv' := []) [] rfl ?_
      exact z_X11_isThing_B13 hrw b _ h
    · replace h := h.2 c1
      refine z_iconst (v := 1) b dX11_isThing_9 (by decide) ?_
      refine z_goto (tgt := 14) b dX11_isThing_10 (by decide) ?_
      refine z_lv0 (lv' := []) [] rfl ?_
      exact z_X11_isThing_B14 hrw b _ _ h

def w_X11_isRow_B15 (cy : Nat → ClassId) (tE : Nat) (post : Int32 → KS → Prop) (S : KS) (y0 : Int32) : Prop :=
  (y0 = 0 ∨ y0 = 1) ∧ post y0 S

set_option maxHeartbeats 4000000 in
set_option maxRecDepth 100000 in
theorem z_X11_isRow_B15 {p : Program} {l : Launch} {e : Env} {R : Room} {s : State} {m : MethodId} {args : Array Value} {below : List Frame} {meth : Method} {c : Code} {D : va_G} {cy : Nat → ClassId} {T0 tB tE : Nat} {A : Nat → Prop} {a : Nat → Nat} {rw : Nat → Option Nat} (hrw : ∀ i, i < 6 → rw i = some (a (12 + 2 * i))) {post : Int32 → KS → Prop} (b : Bz p R s m args meth c D cy T0 tB tE A 1 cX11_isRow RX11 (some .boolean) "isRow" 0 0 0 0) (S : KS) (y0 : Int32) (h : w_X11_isRow_B15 cy tE post S y0) : Z p l e R s m args below meth c D A 1 (MQ below (QI D (U := KS) post (kw cy a rw) A) args s 0 0 A) 0 0 (kw cy a rw S) [] 15 [.int y0] := by
  unfold w_X11_isRow_B15 at h
  obtain ⟨g1, h⟩ := h
  exact z_zret (u := S) b rfl (z_bool g1) dX11_isRow_15 h rfl (by decide) (by decide)

def w_X11_isRow_B14 (cy : Nat → ClassId) (tE : Nat) (post : Int32 → KS → Prop) (S : KS)  : Prop :=
  w_X11_isRow_B15 cy tE post S 0

set_option maxHeartbeats 4000000 in
set_option maxRecDepth 100000 in
theorem z_X11_isRow_B14 {p : Program} {l : Launch} {e : Env} {R : Room} {s : State} {m : MethodId} {args : Array Value} {below : List Frame} {meth : Method} {c : Code} {D : va_G} {cy : Nat → ClassId} {T0 tB tE : Nat} {A : Nat → Prop} {a : Nat → Nat} {rw : Nat → Option Nat} (hrw : ∀ i, i < 6 → rw i = some (a (12 + 2 * i))) {post : Int32 → KS → Prop} (b : Bz p R s m args meth c D cy T0 tB tE A 1 cX11_isRow RX11 (some .boolean) "isRow" 0 0 0 0) (S : KS)  (h : w_X11_isRow_B14 cy tE post S ) : Z p l e R s m args below meth c D A 1 (MQ below (QI D (U := KS) post (kw cy a rw) A) args s 0 0 A) 0 0 (kw cy a rw S) [] 14 [] := by
  unfold w_X11_isRow_B14 at h
  refine z_iconst (v := 0) b dX11_isRow_14 (by decide) ?_
  exact z_X11_isRow_B15 hrw b _ _ h

def w_X11_isRow (cy : Nat → ClassId) (tE : Nat) (S : KS) (p0 : Int32) (post : Int32 → KS → Prop) : Prop :=
  ((p0.toInt < 0 → w_X11_isRow_B14 cy tE post S) ∧ (0 ≤ p0.toInt → ((6 ≤ p0.toInt → w_X11_isRow_B14 cy tE post S) ∧ (p0.toInt < 6 → w_X11_isRow_B15 cy tE post S 1))))

set_option maxHeartbeats 4000000 in
set_option maxRecDepth 100000 in
theorem k_X11_isRow {l : Launch} {D : va_G} {cy : Nat → ClassId} {T0 tB tE : Nat} {a : Nat → Nat} {rw : Nat → Option Nat} (hrw : ∀ i, i < 6 → rw i = some (a (12 + 2 * i))) (S : KS) (p0 : Int32) (post : Int32 → KS → Prop) (h : w_X11_isRow cy tE S p0 post) : Ct l D cy T0 tB tE yX11_isRow cX11_isRow 1 (some .boolean) 0 0 0 0 (kw cy a rw S) [.int p0] (QI D (U := KS) post (kw cy a rw)) := by
  refine Ct.ofZ RX11 "isRow" [(0, .int p0)] rfl rfl rfl rfl (Nat.le_of_ble_eq_true rfl) ?_
  intro p e R s m args below meth c A b
  unfold w_X11_isRow at h
  refine z_iload_n b dX11_isRow_0 rfl rfl ?_
  refine y_if_lt (tgt := 14) (xl := p0.toInt) b rfl dX11_isRow_1 (by decide) (fun c1 => ?_) (fun c1 => ?_)
  · replace h := h.1 c1
    refine z_lv0 (lv' := []) [] rfl ?_
    exact z_X11_isRow_B14 hrw b _ h
  · replace h := h.2 c1
    refine z_iload_n b dX11_isRow_4 rfl rfl ?_
    refine z_bipush (v := 6) b dX11_isRow_5 (by decide) ?_
    refine y_icmp_ge (tgt := 14) (xl := p0.toInt) (yl := 6) b rfl (by decide) dX11_isRow_7 (by decide) (fun c1 => ?_) (fun c1 => ?_)
    · replace h := h.1 c1
      refine z_lv0 (lv' := []) [] rfl ?_
      exact z_X11_isRow_B14 hrw b _ h
    · replace h := h.2 c1
      refine z_iconst (v := 1) b dX11_isRow_10 (by decide) ?_
      refine z_goto (tgt := 15) b dX11_isRow_11 (by decide) ?_
      refine z_lv0 (lv' := []) [] rfl ?_
      exact z_X11_isRow_B15 hrw b _ _ h

def w_X11_isDepth_B15 (cy : Nat → ClassId) (tE : Nat) (post : Int32 → KS → Prop) (S : KS) (y0 : Int32) : Prop :=
  (y0 = 0 ∨ y0 = 1) ∧ post y0 S

set_option maxHeartbeats 4000000 in
set_option maxRecDepth 100000 in
theorem z_X11_isDepth_B15 {p : Program} {l : Launch} {e : Env} {R : Room} {s : State} {m : MethodId} {args : Array Value} {below : List Frame} {meth : Method} {c : Code} {D : va_G} {cy : Nat → ClassId} {T0 tB tE : Nat} {A : Nat → Prop} {a : Nat → Nat} {rw : Nat → Option Nat} (hrw : ∀ i, i < 6 → rw i = some (a (12 + 2 * i))) {post : Int32 → KS → Prop} (b : Bz p R s m args meth c D cy T0 tB tE A 1 cX11_isDepth RX11 (some .boolean) "isDepth" 0 0 0 0) (S : KS) (y0 : Int32) (h : w_X11_isDepth_B15 cy tE post S y0) : Z p l e R s m args below meth c D A 1 (MQ below (QI D (U := KS) post (kw cy a rw) A) args s 0 0 A) 0 0 (kw cy a rw S) [] 15 [.int y0] := by
  unfold w_X11_isDepth_B15 at h
  obtain ⟨g1, h⟩ := h
  exact z_zret (u := S) b rfl (z_bool g1) dX11_isDepth_15 h rfl (by decide) (by decide)

def w_X11_isDepth_B14 (cy : Nat → ClassId) (tE : Nat) (post : Int32 → KS → Prop) (S : KS)  : Prop :=
  w_X11_isDepth_B15 cy tE post S 0

set_option maxHeartbeats 4000000 in
set_option maxRecDepth 100000 in
theorem z_X11_isDepth_B14 {p : Program} {l : Launch} {e : Env} {R : Room} {s : State} {m : MethodId} {args : Array Value} {below : List Frame} {meth : Method} {c : Code} {D : va_G} {cy : Nat → ClassId} {T0 tB tE : Nat} {A : Nat → Prop} {a : Nat → Nat} {rw : Nat → Option Nat} (hrw : ∀ i, i < 6 → rw i = some (a (12 + 2 * i))) {post : Int32 → KS → Prop} (b : Bz p R s m args meth c D cy T0 tB tE A 1 cX11_isDepth RX11 (some .boolean) "isDepth" 0 0 0 0) (S : KS)  (h : w_X11_isDepth_B14 cy tE post S ) : Z p l e R s m args below meth c D A 1 (MQ below (QI D (U := KS) post (kw cy a rw) A) args s 0 0 A) 0 0 (kw cy a rw S) [] 14 [] := by
  unfold w_X11_isDepth_B14 at h
  refine z_iconst (v := 0) b dX11_isDepth_14 (by decide) ?_
  exact z_X11_isDepth_B15 hrw b _ _ h

def w_X11_isDepth (cy : Nat → ClassId) (tE : Nat) (S : KS) (p0 : Int32) (post : Int32 → KS → Prop) : Prop :=
  ((p0.toInt < 0 → w_X11_isDepth_B14 cy tE post S) ∧ (0 ≤ p0.toInt → ((6 < p0.toInt → w_X11_isDepth_B14 cy tE post S) ∧ (p0.toInt ≤ 6 → w_X11_isDepth_B15 cy tE post S 1))))

set_option maxHeartbeats 4000000 in
set_option maxRecDepth 100000 in
theorem k_X11_isDepth {l : Launch} {D : va_G} {cy : Nat → ClassId} {T0 tB tE : Nat} {a : Nat → Nat} {rw : Nat → Option Nat} (hrw : ∀ i, i < 6 → rw i = some (a (12 + 2 * i))) (S : KS) (p0 : Int32) (post : Int32 → KS → Prop) (h : w_X11_isDepth cy tE S p0 post) : Ct l D cy T0 tB tE yX11_isDepth cX11_isDepth 1 (some .boolean) 0 0 0 0 (kw cy a rw S) [.int p0] (QI D (U := KS) post (kw cy a rw)) := by
  refine Ct.ofZ RX11 "isDepth" [(0, .int p0)] rfl rfl rfl rfl (Nat.le_of_ble_eq_true rfl) ?_
  intro p e R s m args below meth c A b
  unfold w_X11_isDepth at h
  refine z_iload_n b dX11_isDepth_0 rfl rfl ?_
  refine y_if_lt (tgt := 14) (xl := p0.toInt) b rfl dX11_isDepth_1 (by decide) (fun c1 => ?_) (fun c1 => ?_)
  · replace h := h.1 c1
    refine z_lv0 (lv' := []) [] rfl ?_
    exact z_X11_isDepth_B14 hrw b _ h
  · replace h := h.2 c1
    refine z_iload_n b dX11_isDepth_4 rfl rfl ?_
    refine z_bipush (v := 6) b dX11_isDepth_5 (by decide) ?_
    refine y_icmp_gt (tgt := 14) (xl := p0.toInt) (yl := 6) b rfl (by decide) dX11_isDepth_7 (by decide) (fun c1 => ?_) (fun c1 => ?_)
    · replace h := h.1 c1
      refine z_lv0 (lv' := []) [] rfl ?_
      exact z_X11_isDepth_B14 hrw b _ h
    · replace h := h.2 c1
      refine z_iconst (v := 1) b dX11_isDepth_10 (by decide) ?_
      refine z_goto (tgt := 15) b dX11_isDepth_11 (by decide) ?_
      refine z_lv0 (lv' := []) [] rfl ?_
      exact z_X11_isDepth_B15 hrw b _ _ h

def w_X10_isLetter_B17 (cy : Nat → ClassId) (tE : Nat) (post : Int32 → KS → Prop) (S : KS) (y0 : Int32) : Prop :=
  (y0 = 0 ∨ y0 = 1) ∧ post y0 S

set_option maxHeartbeats 4000000 in
set_option maxRecDepth 100000 in
theorem z_X10_isLetter_B17 {p : Program} {l : Launch} {e : Env} {R : Room} {s : State} {m : MethodId} {args : Array Value} {below : List Frame} {meth : Method} {c : Code} {D : va_G} {cy : Nat → ClassId} {T0 tB tE : Nat} {A : Nat → Prop} {a : Nat → Nat} {rw : Nat → Option Nat} (hrw : ∀ i, i < 6 → rw i = some (a (12 + 2 * i))) {post : Int32 → KS → Prop} (b : Bz p R s m args meth c D cy T0 tB tE A 1 cX10_isLetter RX10 (some .boolean) "isLetter" 0 0 0 0) (S : KS) (y0 : Int32) (h : w_X10_isLetter_B17 cy tE post S y0) : Z p l e R s m args below meth c D A 1 (MQ below (QI D (U := KS) post (kw cy a rw) A) args s 0 0 A) 0 0 (kw cy a rw S) [] 17 [.int y0] := by
  unfold w_X10_isLetter_B17 at h
  obtain ⟨g1, h⟩ := h
  exact z_zret (u := S) b rfl (z_bool g1) dX10_isLetter_17 h rfl (by decide) (by decide)

def w_X10_isLetter_B16 (cy : Nat → ClassId) (tE : Nat) (post : Int32 → KS → Prop) (S : KS)  : Prop :=
  w_X10_isLetter_B17 cy tE post S 0

set_option maxHeartbeats 4000000 in
set_option maxRecDepth 100000 in
theorem z_X10_isLetter_B16 {p : Program} {l : Launch} {e : Env} {R : Room} {s : State} {m : MethodId} {args : Array Value} {below : List Frame} {meth : Method} {c : Code} {D : va_G} {cy : Nat → ClassId} {T0 tB tE : Nat} {A : Nat → Prop} {a : Nat → Nat} {rw : Nat → Option Nat} (hrw : ∀ i, i < 6 → rw i = some (a (12 + 2 * i))) {post : Int32 → KS → Prop} (b : Bz p R s m args meth c D cy T0 tB tE A 1 cX10_isLetter RX10 (some .boolean) "isLetter" 0 0 0 0) (S : KS)  (h : w_X10_isLetter_B16 cy tE post S ) : Z p l e R s m args below meth c D A 1 (MQ below (QI D (U := KS) post (kw cy a rw) A) args s 0 0 A) 0 0 (kw cy a rw S) [] 16 [] := by
  unfold w_X10_isLetter_B16 at h
  refine z_iconst (v := 0) b dX10_isLetter_16 (by decide) ?_
  exact z_X10_isLetter_B17 hrw b _ _ h

def w_X10_isLetter (cy : Nat → ClassId) (tE : Nat) (S : KS) (p0 : Int32) (post : Int32 → KS → Prop) : Prop :=
  ((p0.toInt < 97 → w_X10_isLetter_B16 cy tE post S) ∧ (97 ≤ p0.toInt → ((122 < p0.toInt → w_X10_isLetter_B16 cy tE post S) ∧ (p0.toInt ≤ 122 → w_X10_isLetter_B17 cy tE post S 1))))

set_option maxHeartbeats 4000000 in
set_option maxRecDepth 100000 in
theorem k_X10_isLetter {l : Launch} {D : va_G} {cy : Nat → ClassId} {T0 tB tE : Nat} {a : Nat → Nat} {rw : Nat → Option Nat} (hrw : ∀ i, i < 6 → rw i = some (a (12 + 2 * i))) (S : KS) (p0 : Int32) (post : Int32 → KS → Prop) (h : w_X10_isLetter cy tE S p0 post) : Ct l D cy T0 tB tE yX10_isLetter cX10_isLetter 1 (some .boolean) 0 0 0 0 (kw cy a rw S) [.int p0] (QI D (U := KS) post (kw cy a rw)) := by
  refine Ct.ofZ RX10 "isLetter" [(0, .int p0)] rfl rfl rfl rfl (Nat.le_of_ble_eq_true rfl) ?_
  intro p e R s m args below meth c A b
  unfold w_X10_isLetter at h
  refine z_iload_n b dX10_isLetter_0 rfl rfl ?_
  refine z_bipush (v := 97) b dX10_isLetter_1 (by decide) ?_
  refine y_icmp_lt (tgt := 16) (xl := p0.toInt) (yl := 97) b rfl (by decide) dX10_isLetter_3 (by decide) (fun c1 => ?_) (fun c1 => ?_)
  · replace h := h.1 c1
    refine z_lv0 (lv' := []) [] rfl ?_
    exact z_X10_isLetter_B16 hrw b _ h
  · replace h := h.2 c1
    refine z_iload_n b dX10_isLetter_6 rfl rfl ?_
    refine z_bipush (v := 122) b dX10_isLetter_7 (by decide) ?_
    refine y_icmp_gt (tgt := 16) (xl := p0.toInt) (yl := 122) b rfl (by decide) dX10_isLetter_9 (by decide) (fun c1 => ?_) (fun c1 => ?_)
    · replace h := h.1 c1
      refine z_lv0 (lv' := []) [] rfl ?_
      exact z_X10_isLetter_B16 hrw b _ h
    · replace h := h.2 c1
      refine z_iconst (v := 1) b dX10_isLetter_12 (by decide) ?_
      refine z_goto (tgt := 17) b dX10_isLetter_13 (by decide) ?_
      refine z_lv0 (lv' := []) [] rfl ?_
      exact z_X10_isLetter_B17 hrw b _ _ h

def w_X10_isDigit_B17 (cy : Nat → ClassId) (tE : Nat) (post : Int32 → KS → Prop) (S : KS) (y0 : Int32) : Prop :=
  (y0 = 0 ∨ y0 = 1) ∧ post y0 S

set_option maxHeartbeats 4000000 in
set_option maxRecDepth 100000 in
theorem z_X10_isDigit_B17 {p : Program} {l : Launch} {e : Env} {R : Room} {s : State} {m : MethodId} {args : Array Value} {below : List Frame} {meth : Method} {c : Code} {D : va_G} {cy : Nat → ClassId} {T0 tB tE : Nat} {A : Nat → Prop} {a : Nat → Nat} {rw : Nat → Option Nat} (hrw : ∀ i, i < 6 → rw i = some (a (12 + 2 * i))) {post : Int32 → KS → Prop} (b : Bz p R s m args meth c D cy T0 tB tE A 1 cX10_isDigit RX10 (some .boolean) "isDigit" 0 0 0 0) (S : KS) (y0 : Int32) (h : w_X10_isDigit_B17 cy tE post S y0) : Z p l e R s m args below meth c D A 1 (MQ below (QI D (U := KS) post (kw cy a rw) A) args s 0 0 A) 0 0 (kw cy a rw S) [] 17 [.int y0] := by
  unfold w_X10_isDigit_B17 at h
  obtain ⟨g1, h⟩ := h
  exact z_zret (u := S) b rfl (z_bool g1) dX10_isDigit_17 h rfl (by decide) (by decide)

def w_X10_isDigit_B16 (cy : Nat → ClassId) (tE : Nat) (post : Int32 → KS → Prop) (S : KS)  : Prop :=
  w_X10_isDigit_B17 cy tE post S 0

set_option maxHeartbeats 4000000 in
set_option maxRecDepth 100000 in
theorem z_X10_isDigit_B16 {p : Program} {l : Launch} {e : Env} {R : Room} {s : State} {m : MethodId} {args : Array Value} {below : List Frame} {meth : Method} {c : Code} {D : va_G} {cy : Nat → ClassId} {T0 tB tE : Nat} {A : Nat → Prop} {a : Nat → Nat} {rw : Nat → Option Nat} (hrw : ∀ i, i < 6 → rw i = some (a (12 + 2 * i))) {post : Int32 → KS → Prop} (b : Bz p R s m args meth c D cy T0 tB tE A 1 cX10_isDigit RX10 (some .boolean) "isDigit" 0 0 0 0) (S : KS)  (h : w_X10_isDigit_B16 cy tE post S ) : Z p l e R s m args below meth c D A 1 (MQ below (QI D (U := KS) post (kw cy a rw) A) args s 0 0 A) 0 0 (kw cy a rw S) [] 16 [] := by
  unfold w_X10_isDigit_B16 at h
  refine z_iconst (v := 0) b dX10_isDigit_16 (by decide) ?_
  exact z_X10_isDigit_B17 hrw b _ _ h

def w_X10_isDigit (cy : Nat → ClassId) (tE : Nat) (S : KS) (p0 : Int32) (post : Int32 → KS → Prop) : Prop :=
  ((p0.toInt < 48 → w_X10_isDigit_B16 cy tE post S) ∧ (48 ≤ p0.toInt → ((57 < p0.toInt → w_X10_isDigit_B16 cy tE post S) ∧ (p0.toInt ≤ 57 → w_X10_isDigit_B17 cy tE post S 1))))

set_option maxHeartbeats 4000000 in
set_option maxRecDepth 100000 in
theorem k_X10_isDigit {l : Launch} {D : va_G} {cy : Nat → ClassId} {T0 tB tE : Nat} {a : Nat → Nat} {rw : Nat → Option Nat} (hrw : ∀ i, i < 6 → rw i = some (a (12 + 2 * i))) (S : KS) (p0 : Int32) (post : Int32 → KS → Prop) (h : w_X10_isDigit cy tE S p0 post) : Ct l D cy T0 tB tE yX10_isDigit cX10_isDigit 1 (some .boolean) 0 0 0 0 (kw cy a rw S) [.int p0] (QI D (U := KS) post (kw cy a rw)) := by
  refine Ct.ofZ RX10 "isDigit" [(0, .int p0)] rfl rfl rfl rfl (Nat.le_of_ble_eq_true rfl) ?_
  intro p e R s m args below meth c A b
  unfold w_X10_isDigit at h
  refine z_iload_n b dX10_isDigit_0 rfl rfl ?_
  refine z_bipush (v := 48) b dX10_isDigit_1 (by decide) ?_
  refine y_icmp_lt (tgt := 16) (xl := p0.toInt) (yl := 48) b rfl (by decide) dX10_isDigit_3 (by decide) (fun c1 => ?_) (fun c1 => ?_)
  · replace h := h.1 c1
    refine z_lv0 (lv' := []) [] rfl ?_
    exact z_X10_isDigit_B16 hrw b _ h
  · replace h := h.2 c1
    refine z_iload_n b dX10_isDigit_6 rfl rfl ?_
    refine z_bipush (v := 57) b dX10_isDigit_7 (by decide) ?_
    refine y_icmp_gt (tgt := 16) (xl := p0.toInt) (yl := 57) b rfl (by decide) dX10_isDigit_9 (by decide) (fun c1 => ?_) (fun c1 => ?_)
    · replace h := h.1 c1
      refine z_lv0 (lv' := []) [] rfl ?_
      exact z_X10_isDigit_B16 hrw b _ h
    · replace h := h.2 c1
      refine z_iconst (v := 1) b dX10_isDigit_12 (by decide) ?_
      refine z_goto (tgt := 17) b dX10_isDigit_13 (by decide) ?_
      refine z_lv0 (lv' := []) [] rfl ?_
      exact z_X10_isDigit_B17 hrw b _ _ h

def w_X11_areLaws_B15 (cy : Nat → ClassId) (tE : Nat) (post : Int32 → KS → Prop) (S : KS) (y0 : Int32) : Prop :=
  (y0 = 0 ∨ y0 = 1) ∧ post y0 S

set_option maxHeartbeats 4000000 in
set_option maxRecDepth 100000 in
theorem z_X11_areLaws_B15 {p : Program} {l : Launch} {e : Env} {R : Room} {s : State} {m : MethodId} {args : Array Value} {below : List Frame} {meth : Method} {c : Code} {D : va_G} {cy : Nat → ClassId} {T0 tB tE : Nat} {A : Nat → Prop} {a : Nat → Nat} {rw : Nat → Option Nat} (hrw : ∀ i, i < 6 → rw i = some (a (12 + 2 * i))) {post : Int32 → KS → Prop} (b : Bz p R s m args meth c D cy T0 tB tE A 1 cX11_areLaws RX11 (some .boolean) "areLaws" 0 0 0 0) (S : KS) (y0 : Int32) (h : w_X11_areLaws_B15 cy tE post S y0) : Z p l e R s m args below meth c D A 1 (MQ below (QI D (U := KS) post (kw cy a rw) A) args s 0 0 A) 0 0 (kw cy a rw S) [] 15 [.int y0] := by
  unfold w_X11_areLaws_B15 at h
  obtain ⟨g1, h⟩ := h
  exact z_zret (u := S) b rfl (z_bool g1) dX11_areLaws_15 h rfl (by decide) (by decide)

def w_X11_areLaws_B14 (cy : Nat → ClassId) (tE : Nat) (post : Int32 → KS → Prop) (S : KS)  : Prop :=
  w_X11_areLaws_B15 cy tE post S 0

set_option maxHeartbeats 4000000 in
set_option maxRecDepth 100000 in
theorem z_X11_areLaws_B14 {p : Program} {l : Launch} {e : Env} {R : Room} {s : State} {m : MethodId} {args : Array Value} {below : List Frame} {meth : Method} {c : Code} {D : va_G} {cy : Nat → ClassId} {T0 tB tE : Nat} {A : Nat → Prop} {a : Nat → Nat} {rw : Nat → Option Nat} (hrw : ∀ i, i < 6 → rw i = some (a (12 + 2 * i))) {post : Int32 → KS → Prop} (b : Bz p R s m args meth c D cy T0 tB tE A 1 cX11_areLaws RX11 (some .boolean) "areLaws" 0 0 0 0) (S : KS)  (h : w_X11_areLaws_B14 cy tE post S ) : Z p l e R s m args below meth c D A 1 (MQ below (QI D (U := KS) post (kw cy a rw) A) args s 0 0 A) 0 0 (kw cy a rw S) [] 14 [] := by
  unfold w_X11_areLaws_B14 at h
  refine z_iconst (v := 0) b dX11_areLaws_14 (by decide) ?_
  exact z_X11_areLaws_B15 hrw b _ _ h

def w_X11_areLaws (cy : Nat → ClassId) (tE : Nat) (S : KS) (p0 : Int32) (post : Int32 → KS → Prop) : Prop :=
  ((p0.toInt < 1 → w_X11_areLaws_B14 cy tE post S) ∧ (1 ≤ p0.toInt → ((3 < p0.toInt → w_X11_areLaws_B14 cy tE post S) ∧ (p0.toInt ≤ 3 → w_X11_areLaws_B15 cy tE post S 1))))

set_option maxHeartbeats 4000000 in
set_option maxRecDepth 100000 in
theorem k_X11_areLaws {l : Launch} {D : va_G} {cy : Nat → ClassId} {T0 tB tE : Nat} {a : Nat → Nat} {rw : Nat → Option Nat} (hrw : ∀ i, i < 6 → rw i = some (a (12 + 2 * i))) (S : KS) (p0 : Int32) (post : Int32 → KS → Prop) (h : w_X11_areLaws cy tE S p0 post) : Ct l D cy T0 tB tE yX11_areLaws cX11_areLaws 1 (some .boolean) 0 0 0 0 (kw cy a rw S) [.int p0] (QI D (U := KS) post (kw cy a rw)) := by
  refine Ct.ofZ RX11 "areLaws" [(0, .int p0)] rfl rfl rfl rfl (Nat.le_of_ble_eq_true rfl) ?_
  intro p e R s m args below meth c A b
  unfold w_X11_areLaws at h
  refine z_iload_n b dX11_areLaws_0 rfl rfl ?_
  refine z_iconst (v := 1) b dX11_areLaws_1 (by decide) ?_
  refine y_icmp_lt (tgt := 14) (xl := p0.toInt) (yl := 1) b rfl (by decide) dX11_areLaws_2 (by decide) (fun c1 => ?_) (fun c1 => ?_)
  · replace h := h.1 c1
    refine z_lv0 (lv' := []) [] rfl ?_
    exact z_X11_areLaws_B14 hrw b _ h
  · replace h := h.2 c1
    refine z_iload_n b dX11_areLaws_5 rfl rfl ?_
    refine z_iconst (v := 3) b dX11_areLaws_6 (by decide) ?_
    refine y_icmp_gt (tgt := 14) (xl := p0.toInt) (yl := 3) b rfl (by decide) dX11_areLaws_7 (by decide) (fun c1 => ?_) (fun c1 => ?_)
    · replace h := h.1 c1
      refine z_lv0 (lv' := []) [] rfl ?_
      exact z_X11_areLaws_B14 hrw b _ h
    · replace h := h.2 c1
      refine z_iconst (v := 1) b dX11_areLaws_10 (by decide) ?_
      refine z_goto (tgt := 15) b dX11_areLaws_11 (by decide) ?_
      refine z_lv0 (lv' := []) [] rfl ?_
      exact z_X11_areLaws_B15 hrw b _ _ h

def w_X5_kind_B30 (cy : Nat → ClassId) (tE : Nat) (post : Int32 → KS → Prop) (S : KS) (y0 : Int32) : Prop :=
  post y0 S

set_option maxHeartbeats 4000000 in
set_option maxRecDepth 100000 in
theorem z_X5_kind_B30 {p : Program} {l : Launch} {e : Env} {R : Room} {s : State} {m : MethodId} {args : Array Value} {below : List Frame} {meth : Method} {c : Code} {D : va_G} {cy : Nat → ClassId} {T0 tB tE : Nat} {A : Nat → Prop} {a : Nat → Nat} {rw : Nat → Option Nat} (hrw : ∀ i, i < 6 → rw i = some (a (12 + 2 * i))) {post : Int32 → KS → Prop} (b : Bz p R s m args meth c D cy T0 tB tE A 1 cX5_kind RX5 (some .int) "kind" 0 0 0 0) (S : KS) (y0 : Int32) (h : w_X5_kind_B30 cy tE post S y0) : Z p l e R s m args below meth c D A 1 (MQ below (QI D (U := KS) post (kw cy a rw) A) args s 0 0 A) 0 0 (kw cy a rw S) [] 30 [.int y0] := by
  unfold w_X5_kind_B30 at h
  exact z_iret (u := S) b rfl dX5_kind_30 h rfl (by decide) (by decide)

def w_X5_kind (cy : Nat → ClassId) (tE : Nat) (S : KS)  (post : Int32 → KS → Prop) : Prop :=
  (((fi S.1 21).toInt ≤ (fi S.1 15).toInt → w_X5_kind_B30 cy tE post S 0) ∧ ((fi S.1 15).toInt < (fi S.1 21).toInt → (0 ≤ (fi S.1 15).toInt ∧ (fi S.1 15).toInt < 701) ∧ w_X5_kind_B30 cy tE post S ((ar S.1 13) (fi S.1 15).toNatClampNeg)))

set_option maxHeartbeats 4000000 in
set_option maxRecDepth 100000 in
theorem k_X5_kind {l : Launch} {D : va_G} {cy : Nat → ClassId} {T0 tB tE : Nat} {a : Nat → Nat} {rw : Nat → Option Nat} (hrw : ∀ i, i < 6 → rw i = some (a (12 + 2 * i))) (S : KS)  (post : Int32 → KS → Prop) (h : w_X5_kind cy tE S  post) : Ct l D cy T0 tB tE yX5_kind cX5_kind 1 (some .int) 0 0 0 0 (kw cy a rw S) [.ref (a 26)] (QI D (U := KS) post (kw cy a rw)) := by
  refine Ct.ofZ RX5 "kind" [(0, .ref (a 26))] rfl rfl rfl rfl (Nat.le_of_ble_eq_true rfl) ?_
  intro p e R s m args below meth c A b
  unfold w_X5_kind at h
  refine z_aload_n b dX5_kind_0 rfl rfl ?_
  refine z_get (q0 := 26) (k9 := 1) (v := .int (fi S.1 15)) b (kw_26 cy a rw S) rfl in_X5 (by decide) wf_X5_18 rfl dX5_kind_1 ?_
  refine z_aload_n b dX5_kind_4 rfl rfl ?_
  refine z_get (q0 := 26) (k9 := 0) (v := .ref (a 27)) b (kw_26 cy a rw S) rfl in_X5 (by decide) wf_X5_12 rfl dX5_kind_5 ?_
  refine z_get (q0 := 27) (k9 := 4) (v := .int (fi S.1 21)) b (kw_27 cy a rw S) rfl in_X10 (by decide) wf_X5_56 rfl dX5_kind_8 ?_
  refine y_icmp_ge (tgt := 29) (xl := (fi S.1 15).toInt) (yl := (fi S.1 21).toInt) b rfl rfl dX5_kind_11 (by decide) (fun c1 => ?_) (fun c1 => ?_)
  · replace h := h.1 c1
    refine z_iconst (v := 0) b dX5_kind_29 (by decide) ?_
    refine z_lv0 (lv' := []) [] rfl ?_
    exact z_X5_kind_B30 hrw b _ _ h
  · replace h := h.2 c1
    refine z_aload_n b dX5_kind_14 rfl rfl ?_
    refine z_get (q0 := 26) (k9 := 0) (v := .ref (a 27)) b (kw_26 cy a rw S) rfl in_X5 (by decide) wf_X5_12 rfl dX5_kind_15 ?_
    refine z_get (q0 := 27) (k9 := 1) (v := .ref (a 29)) b (kw_27 cy a rw S) rfl in_X10 (by decide) wf_X5_59 rfl dX5_kind_18 ?_
    refine z_aload_n b dX5_kind_21 rfl rfl ?_
    refine z_get (q0 := 26) (k9 := 1) (v := .int (fi S.1 15)) b (kw_26 cy a rw S) rfl in_X5 (by decide) wf_X5_18 rfl dX5_kind_22 ?_
    obtain ⟨g1, h⟩ := h
    refine y_iald (q0 := 29) (j := (fi S.1 15).toNatClampNeg) (v := ((ar S.1 13) (fi S.1 15).toNatClampNeg)) b (kw_29 cy a rw S) (zx_r g1.1 g1.2) rfl dX5_kind_25 ?_
    refine z_goto (tgt := 30) b dX5_kind_26 (by decide) ?_
    refine z_lv0 (lv' := []) [] rfl ?_
    exact z_X5_kind_B30 hrw b _ _ h

def w_X5_refuse_B36 (cy : Nat → ClassId) (tE : Nat) (post : Int32 → KS → Prop) (S : KS) (y0 : Int32) : Prop :=
  post 0 (ksi S 20 y0)

set_option maxHeartbeats 4000000 in
set_option maxRecDepth 100000 in
theorem z_X5_refuse_B36 {p : Program} {l : Launch} {e : Env} {R : Room} {s : State} {m : MethodId} {args : Array Value} {below : List Frame} {meth : Method} {c : Code} {D : va_G} {cy : Nat → ClassId} {T0 tB tE : Nat} {A : Nat → Prop} {a : Nat → Nat} {rw : Nat → Option Nat} (hrw : ∀ i, i < 6 → rw i = some (a (12 + 2 * i))) {post : Int32 → KS → Prop} (b : Bz p R s m args meth c D cy T0 tB tE A 2 cX5_refuse RX5 (some .boolean) "refuse" 0 0 0 0) (S : KS) (y0 : Int32) (h : w_X5_refuse_B36 cy tE post S y0) : Z p l e R s m args below meth c D A 2 (MQ below (QI D (U := KS) post (kw cy a rw) A) args s 0 0 A) 0 0 (kw cy a rw S) [] 36 [.int y0, .ref (a 26)] := by
  unfold w_X5_refuse_B36 at h
  refine z_put (q0 := 26) (k9 := 8) tyX5 b (kw_26 cy a rw S) rfl in_X5 tyX5_ok nmX5 (by decide) wf_X5_46 rfl rfl rfl rfl (Nat.le_of_ble_eq_true rfl) dX5_refuse_36 (kwp_26_8 cy a rw S y0) ?_
  refine z_iconst (v := 0) b dX5_refuse_39 (by decide) ?_
  exact z_zret (u := (ksi S 20 y0)) b rfl (by decide) dX5_refuse_40 h rfl (by decide) (by decide)

def w_X5_refuse (cy : Nat → ClassId) (tE : Nat) (S : KS) (p0 : Int32) (post : Int32 → KS → Prop) : Prop :=
  (((fi S.1 21).toInt ≤ (fi S.1 15).toInt → w_X5_refuse_B36 cy tE post (ksi S 19 p0) (-1)) ∧ ((fi S.1 15).toInt < (fi S.1 21).toInt → (0 ≤ (fi S.1 15).toInt ∧ (fi S.1 15).toInt < 701) ∧ w_X5_refuse_B36 cy tE post (ksi S 19 p0) ((ar S.1 14) (fi S.1 15).toNatClampNeg)))

set_option maxHeartbeats 4000000 in
set_option maxRecDepth 100000 in
theorem k_X5_refuse {l : Launch} {D : va_G} {cy : Nat → ClassId} {T0 tB tE : Nat} {a : Nat → Nat} {rw : Nat → Option Nat} (hrw : ∀ i, i < 6 → rw i = some (a (12 + 2 * i))) (S : KS) (p0 : Int32) (post : Int32 → KS → Prop) (h : w_X5_refuse cy tE S p0 post) : Ct l D cy T0 tB tE yX5_refuse cX5_refuse 2 (some .boolean) 0 0 0 0 (kw cy a rw S) [.ref (a 26), .int p0] (QI D (U := KS) post (kw cy a rw)) := by
  refine Ct.ofZ RX5 "refuse" [(0, .ref (a 26)), (1, .int p0)] rfl rfl rfl rfl (Nat.le_of_ble_eq_true rfl) ?_
  intro p e R s m args below meth c A b
  unfold w_X5_refuse at h
  refine z_aload_n b dX5_refuse_0 rfl rfl ?_
  refine z_iload_n b dX5_refuse_1 rfl rfl ?_
  refine z_put (q0 := 26) (k9 := 7) tyX5 b (kw_26 cy a rw S) rfl in_X5 tyX5_ok nmX5 (by decide) wf_X5_43 rfl rfl rfl rfl (Nat.le_of_ble_eq_true rfl) dX5_refuse_2 (kwp_26_7 cy a rw S p0) ?_
  refine z_aload_n b dX5_refuse_5 rfl rfl ?_
  refine z_aload_n b dX5_refuse_6 rfl rfl ?_
  refine z_get (q0 := 26) (k9 := 1) (v := .int (fi S.1 15)) b (kw_26 cy a rw (ksi S 19 p0)) rfl in_X5 (by decide) wf_X5_18 rfl dX5_refuse_7 ?_
  refine z_aload_n b dX5_refuse_10 rfl rfl ?_
  refine z_get (q0 := 26) (k9 := 0) (v := .ref (a 27)) b (kw_26 cy a rw (ksi S 19 p0)) rfl in_X5 (by decide) wf_X5_12 rfl dX5_refuse_11 ?_
  refine z_get (q0 := 27) (k9 := 4) (v := .int (fi S.1 21)) b (kw_27 cy a rw (ksi S 19 p0)) rfl in_X10 (by decide) wf_X5_56 rfl dX5_refuse_14 ?_
  refine y_icmp_ge (tgt := 35) (xl := (fi S.1 15).toInt) (yl := (fi S.1 21).toInt) b rfl rfl dX5_refuse_17 (by decide) (fun c1 => ?_) (fun c1 => ?_)
  · replace h := h.1 c1
    refine z_iconst (v := (-1)) b dX5_refuse_35 (by decide) ?_
    refine z_lv0 (lv' := []) [] rfl ?_
    exact z_X5_refuse_B36 hrw b _ _ h
  · replace h := h.2 c1
    refine z_aload_n b dX5_refuse_20 rfl rfl ?_
    refine z_get (q0 := 26) (k9 := 0) (v := .ref (a 27)) b (kw_26 cy a rw (ksi S 19 p0)) rfl in_X5 (by decide) wf_X5_12 rfl dX5_refuse_21 ?_
    refine z_get (q0 := 27) (k9 := 2) (v := .ref (a 30)) b (kw_27 cy a rw (ksi S 19 p0)) rfl in_X10 (by decide) wf_X5_168 rfl dX5_refuse_24 ?_
    refine z_aload_n b dX5_refuse_27 rfl rfl ?_
    refine z_get (q0 := 26) (k9 := 1) (v := .int (fi S.1 15)) b (kw_26 cy a rw (ksi S 19 p0)) rfl in_X5 (by decide) wf_X5_18 rfl dX5_refuse_28 ?_
    obtain ⟨g1, h⟩ := h
    refine y_iald (q0 := 30) (j := (fi S.1 15).toNatClampNeg) (v := ((ar S.1 14) (fi S.1 15).toNatClampNeg)) b (kw_30 cy a rw (ksi S 19 p0)) (zx_r g1.1 g1.2) rfl dX5_refuse_31 ?_
    refine z_goto (tgt := 36) b dX5_refuse_32 (by decide) ?_
    refine z_lv0 (lv' := []) [] rfl ?_
    exact z_X5_refuse_B36 hrw b _ _ h

def w_X5_isAtEnd_B20 (cy : Nat → ClassId) (tE : Nat) (post : Int32 → KS → Prop) (S : KS) (y0 : Int32) : Prop :=
  (y0 = 0 ∨ y0 = 1) ∧ post y0 S

set_option maxHeartbeats 4000000 in
set_option maxRecDepth 100000 in
theorem z_X5_isAtEnd_B20 {p : Program} {l : Launch} {e : Env} {R : Room} {s : State} {m : MethodId} {args : Array Value} {below : List Frame} {meth : Method} {c : Code} {D : va_G} {cy : Nat → ClassId} {T0 tB tE : Nat} {A : Nat → Prop} {a : Nat → Nat} {rw : Nat → Option Nat} (hrw : ∀ i, i < 6 → rw i = some (a (12 + 2 * i))) {post : Int32 → KS → Prop} (b : Bz p R s m args meth c D cy T0 tB tE A 1 cX5_isAtEnd RX5 (some .boolean) "isAtEnd" 1 21 0 0) (S : KS) (y0 : Int32) (h : w_X5_isAtEnd_B20 cy tE post S y0) : Z p l e R s m args below meth c D A 1 (MQ below (QI D (U := KS) post (kw cy a rw) A) args s 0 0 A) 0 0 (kw cy a rw S) [] 20 [.int y0] := by
  unfold w_X5_isAtEnd_B20 at h
  obtain ⟨g3, h⟩ := h
  exact z_zret (u := S) b rfl (z_bool g3) dX5_isAtEnd_20 h rfl (by decide) (by decide)

def w_X5_isAtEnd_B15 (cy : Nat → ClassId) (tE : Nat) (post : Int32 → KS → Prop) (S : KS)  : Prop :=
  w_X5_isAtEnd_B20 cy tE post S 1

set_option maxHeartbeats 4000000 in
set_option maxRecDepth 100000 in
theorem z_X5_isAtEnd_B15 {p : Program} {l : Launch} {e : Env} {R : Room} {s : State} {m : MethodId} {args : Array Value} {below : List Frame} {meth : Method} {c : Code} {D : va_G} {cy : Nat → ClassId} {T0 tB tE : Nat} {A : Nat → Prop} {a : Nat → Nat} {rw : Nat → Option Nat} (hrw : ∀ i, i < 6 → rw i = some (a (12 + 2 * i))) {post : Int32 → KS → Prop} (b : Bz p R s m args meth c D cy T0 tB tE A 1 cX5_isAtEnd RX5 (some .boolean) "isAtEnd" 1 21 0 0) (S : KS)  (h : w_X5_isAtEnd_B15 cy tE post S ) : Z p l e R s m args below meth c D A 1 (MQ below (QI D (U := KS) post (kw cy a rw) A) args s 0 0 A) 0 0 (kw cy a rw S) [] 15 [] := by
  unfold w_X5_isAtEnd_B15 at h
  refine z_iconst (v := 1) b dX5_isAtEnd_15 (by decide) ?_
  refine z_goto (tgt := 20) b dX5_isAtEnd_16 (by decide) ?_
  exact z_X5_isAtEnd_B20 hrw b _ _ h

def w_X5_isAtEnd (cy : Nat → ClassId) (tE : Nat) (S : KS)  (post : Int32 → KS → Prop) : Prop :=
  w_X5_kind cy tE S (fun r1 S2 => ((r1.toInt = 0 → w_X5_isAtEnd_B15 cy tE post S2) ∧ (r1.toInt ≠ 0 → w_X5_refuse cy tE S2 1 (fun r4 S5 => ((r4.toInt = 0 → w_X5_isAtEnd_B20 cy tE post S5 0) ∧ (r4.toInt ≠ 0 → w_X5_isAtEnd_B15 cy tE post S5))))))

set_option maxHeartbeats 4000000 in
set_option maxRecDepth 100000 in
theorem k_X5_isAtEnd {l : Launch} {D : va_G} {cy : Nat → ClassId} {T0 tB tE : Nat} {a : Nat → Nat} {rw : Nat → Option Nat} (hrw : ∀ i, i < 6 → rw i = some (a (12 + 2 * i))) (S : KS)  (post : Int32 → KS → Prop) (h : w_X5_isAtEnd cy tE S  post) : Ct l D cy T0 tB tE yX5_isAtEnd cX5_isAtEnd 1 (some .boolean) 1 21 0 0 (kw cy a rw S) [.ref (a 26)] (QI D (U := KS) post (kw cy a rw)) := by
  refine Ct.ofZ RX5 "isAtEnd" [(0, .ref (a 26))] rfl rfl rfl rfl (Nat.le_of_ble_eq_true rfl) ?_
  intro p e R s m args below meth c A b
  unfold w_X5_isAtEnd at h
  refine z_aload_n b dX5_isAtEnd_0 rfl rfl ?_
  refine z_calli b (z_runV (q0 := 26) (As := []) (st := []) b (k_X5_kind hrw S _ h) cf_X5_kind (kw_26 cy a rw S) rfl wm_X5_66 wi_X5_kind ws_X5_kind dX5_isAtEnd_1 rfl (Nat.le_of_ble_eq_true rfl) ⟨by decide, by decide, Nat.le_of_ble_eq_true rfl, Nat.le_of_ble_eq_true rfl⟩) (fun r1 S2 h => ?_)
  refine y_if_eq (tgt := 15) (xl := r1.toInt) b rfl dX5_isAtEnd_4 (by decide) (fun c1 => ?_) (fun c1 => ?_)
  · replace h := h.1 c1
    refine z_lv0 (lv' := []) [] rfl ?_
    exact z_X5_isAtEnd_B15 hrw b _ h
  · replace h := h.2 c1
    refine z_aload_n b dX5_isAtEnd_7 rfl rfl ?_
    refine z_iconst (v := 1) b dX5_isAtEnd_8 (by decide) ?_
    refine z_calli b (z_runV (q0 := 26) (As := [.int 1]) (st := []) b (k_X5_refuse hrw S2 1 _ h) cf_X5_refuse (kw_26 cy a rw S2) rfl wm_X5_70 wi_X5_refuse ws_X5_refuse dX5_isAtEnd_9 rfl (Nat.le_of_ble_eq_true rfl) ⟨by decide, by decide, Nat.le_of_ble_eq_true rfl, Nat.le_of_ble_eq_true rfl⟩) (fun r4 S5 h => ?_)
    refine y_if_eq (tgt := 19) (xl := r4.toInt) b rfl dX5_isAtEnd_12 (by decide) (fun c1 => ?_) (fun c1 => ?_)
    · replace h := h.1 c1
      refine z_iconst (v := 0) b dX5_isAtEnd_19 (by decide) ?_
      refine z_lv0 (lv' := []) [] rfl ?_
      exact z_X5_isAtEnd_B20 hrw b _ _ h
    · replace h := h.2 c1
      refine z_lv0 (lv' := []) [] rfl ?_
      exact z_X5_isAtEnd_B15 hrw b _ h

def w_J7_copyOf_59c91 (cy : Nat → ClassId) (tE : Nat) (mc ms : Nat) (S : KS) (p1 : Int32) (post : Option Nat → KS → Prop) : Prop :=
  ((p1.toInt ≠ 700 → (0 ≤ p1.toInt ∧ p1.toInt ≤ 100000) ∧ (0 + 1 ≤ mc ∧ 0 + p1.toNatClampNeg ≤ ms) ∧ ∀ q1 : Nat, ((0 + 1) ≤ mc ∧ (0 + p1.toNatClampNeg) ≤ ms) ∧ ∃ (i5 n6 : Nat) (f7 : Nat → Int32), (S.2.2.2 ++ [(q1, .inl (cy 0, p1.toNatClampNeg, .inl (fun _ => 0)))])[i5]? = some (q1, .inl (cy 0, n6, .inl f7)) ∧ (0 ≤ (if (p1 < 700 : Prop) then p1 else 700).toInt ∧ (if (p1 < 700 : Prop) then p1 else 700).toNatClampNeg ≤ 700 ∧ (if (p1 < 700 : Prop) then p1 else 700).toNatClampNeg ≤ n6) ∧ ((0 + 1) ≤ mc ∧ (0 + p1.toNatClampNeg) ≤ ms) ∧ post (some q1) (ksL (ksL S (S.2.2.2 ++ [(q1, .inl (cy 0, p1.toNatClampNeg, .inl (fun _ => 0)))])) ((S.2.2.2 ++ [(q1, .inl (cy 0, p1.toNatClampNeg, .inl (fun _ => 0)))]).set i5 (q1, .inl (cy 0, n6, .inl (va_cpy (ar S.1 15) f7 0 0 (if (p1 < 700 : Prop) then p1 else 700).toNatClampNeg)))))) ∧ (p1.toInt = 700 → False))

set_option maxHeartbeats 4000000 in
set_option maxRecDepth 100000 in
theorem k_J7_copyOf_59c91 {l : Launch} {D : va_G} {cy : Nat → ClassId} {T0 tB tE : Nat} {a : Nat → Nat} {rw : Nat → Option Nat} (hrw : ∀ i, i < 6 → rw i = some (a (12 + 2 * i))) {mc ms : Nat} (S : KS) (p1 : Int32) (post : Option Nat → KS → Prop) (h : w_J7_copyOf_59c91 cy tE mc ms S p1 post) : Ct l D cy T0 tB tE yJ7_copyOf_59c91 cJ7_copyOf_59c91 3 (some (.array .int)) 1 40 mc ms (kw cy a rw S) [.ref (a 32), .int p1] (QQ D (U := KS) post (kw cy a rw)) := by
  refine Ct.ofZ RJ7 "copyOf" [(0, .ref (a 32)), (1, .int p1)] rfl rfl rfl rfl (Nat.le_of_ble_eq_true rfl) ?_
  intro p e R s m args below meth c A b
  unfold w_J7_copyOf_59c91 at h
  refine z_iload_n b dJ7_copyOf_59c91_0 rfl rfl ?_
  refine z_aload_n b dJ7_copyOf_59c91_1 rfl rfl ?_
  refine z_alen (q0 := 32) (t0 := 0) (v := 700) b (kw_32 cy a rw S) rfl rfl dJ7_copyOf_59c91_2 ?_
  refine y_icmp_ne (tgt := 14) (xl := p1.toInt) (yl := 700) b rfl (by decide) dJ7_copyOf_59c91_3 (by decide) (fun c1 => ?_) (fun c1 => ?_)
  · replace h := h.1 c1
    refine z_iload_n b dJ7_copyOf_59c91_14 rfl rfl ?_
    obtain ⟨g2, h⟩ := h
    obtain ⟨g3, h⟩ := h
    refine z_newI (N' := p1.toNatClampNeg) b wa_int (i_nneg g2.1) rfl (i_byt g2.1 g2.2) g3 dJ7_copyOf_59c91_15 (fun q1 => ?_)
    replace h := h q1
    refine z_wseq (kw_new cy a rw S (q1, .inl (cy 0, p1.toNatClampNeg, .inl (fun _ => 0)))) ?_
    refine z_astore_n (lv' := [(2, .ref q1), (0, .ref (a 32)), (1, .int p1)]) b dJ7_copyOf_59c91_17 rfl (by decide) rfl ?_
    refine z_aload_n b dJ7_copyOf_59c91_18 rfl rfl ?_
    refine z_iconst (v := 0) b dJ7_copyOf_59c91_19 (by decide) ?_
    refine z_aload_n b dJ7_copyOf_59c91_20 rfl rfl ?_
    refine z_iconst (v := 0) b dJ7_copyOf_59c91_21 (by decide) ?_
    refine z_aload_n b dJ7_copyOf_59c91_22 rfl rfl ?_
    refine z_alen (q0 := 32) (t0 := 0) (v := 700) b (kw_32 cy a rw (ksL S (S.2.2.2 ++ [(q1, .inl (cy 0, p1.toNatClampNeg, .inl (fun _ => 0)))]))) rfl rfl dJ7_copyOf_59c91_23 ?_
    refine z_iload_n b dJ7_copyOf_59c91_24 rfl rfl ?_
    obtain ⟨g4, h⟩ := h
    refine z_mmin (v := (if (p1 < 700 : Prop) then p1 else 700)) b wL_J7_304 wLs_mmin wi_Math wLc_mmin dJ7_copyOf_59c91_25 (by decide) (Nat.le_of_ble_eq_true rfl) ⟨g4.1, g4.2⟩ rfl ?_
    obtain ⟨i5, n6, f7, g8, h⟩ := h
    obtain ⟨g9, h⟩ := h
    refine z_copyi (q0 := 32) (q1 := 47 + i5) (j0 := 0) (j1 := 0) (jn := (if (p1 < 700 : Prop) then p1 else 700).toNatClampNeg) b wm_J7_150 wn_arraycopy ws_arraycopy wi_System (kw_32 cy a rw (ksL S (S.2.2.2 ++ [(q1, .inl (cy 0, p1.toNatClampNeg, .inl (fun _ => 0)))]))) (kw_dyn cy a rw (ksL S (S.2.2.2 ++ [(q1, .inl (cy 0, p1.toNatClampNeg, .inl (fun _ => 0)))])) g8) (by decide) (by decide) ⟨rfl, i_nneg g9.1⟩ (by rw [Nat.zero_add]; exact g9.2.1) (by rw [Nat.zero_add]; exact g9.2.2) (by decide) (by decide +kernel) dJ7_copyOf_59c91_28 (kw_dset cy a rw (ksL S (S.2.2.2 ++ [(q1, .inl (cy 0, p1.toNatClampNeg, .inl (fun _ => 0)))])) i5 (q1, .inl (cy 0, n6, .inl (va_cpy (ar S.1 15) f7 0 0 (if (p1 < 700 : Prop) then p1 else 700).toNatClampNeg)))) ?_
    refine z_aload_n b dJ7_copyOf_59c91_31 rfl rfl ?_
    obtain ⟨g10, h⟩ := h
    exact z_aret (v := (some q1)) (u := (ksL (ksL S (S.2.2.2 ++ [(q1, .inl (cy 0, p1.toNatClampNeg, .inl (fun _ => 0)))])) ((S.2.2.2 ++ [(q1, .inl (cy 0, p1.toNatClampNeg, .inl (fun _ => 0)))]).set i5 (q1, .inl (cy 0, n6, .inl (va_cpy (ar S.1 15) f7 0 0 (if (p1 < 700 : Prop) then p1 else 700).toNatClampNeg)))))) b rfl (Or.inr ⟨_, rfl⟩) dJ7_copyOf_59c91_32 h rfl g10.1 g10.2
  · replace h := h.2 c1
    refine z_aload_n b dJ7_copyOf_59c91_6 rfl rfl ?_
    exact h.elim

def w_X1_init (cy : Nat → ClassId) (tE : Nat) (S : KS) (p9 : Nat) (p0 : Int32) (p1 : Int32) (p2 : Nat) (post : KS → Prop) : Prop :=
  ∃ (i1 : Nat) (f2 : Int32) (f3 : Int32) (f4 : Nat), S.2.2.2[i1]? = some (p9, .inr (2, [.int f2, .int f3, .ref f4])) ∧ ∃ (i6 : Nat) (f7 : Int32) (f8 : Int32) (f9 : Nat), (S.2.2.2.set i1 (p9, .inr (2, [.int p0, .int f3, .ref f4])))[i6]? = some (p9, .inr (2, [.int f7, .int f8, .ref f9])) ∧ ∃ (i11 : Nat) (f12 : Int32) (f13 : Int32) (f14 : Nat), ((S.2.2.2.set i1 (p9, .inr (2, [.int p0, .int f3, .ref f4]))).set i6 (p9, .inr (2, [.int f7, .int p1, .ref f9])))[i11]? = some (p9, .inr (2, [.int f12, .int f13, .ref f14])) ∧ post (ksL (ksL (ksL S (S.2.2.2.set i1 (p9, .inr (2, [.int p0, .int f3, .ref f4])))) ((S.2.2.2.set i1 (p9, .inr (2, [.int p0, .int f3, .ref f4]))).set i6 (p9, .inr (2, [.int f7, .int p1, .ref f9])))) (((S.2.2.2.set i1 (p9, .inr (2, [.int p0, .int f3, .ref f4]))).set i6 (p9, .inr (2, [.int f7, .int p1, .ref f9]))).set i11 (p9, .inr (2, [.int f12, .int f13, .ref p2]))))

set_option maxHeartbeats 4000000 in
set_option maxRecDepth 100000 in
theorem k_X1_init {l : Launch} {D : va_G} {cy : Nat → ClassId} {T0 tB tE : Nat} {a : Nat → Nat} {rw : Nat → Option Nat} (hrw : ∀ i, i < 6 → rw i = some (a (12 + 2 * i))) (S : KS) (p9 : Nat) (p0 : Int32) (p1 : Int32) (p2 : Nat) (post : KS → Prop) (h : w_X1_init cy tE S p9 p0 p1 p2 post) : Ct l D cy T0 tB tE yX1_init cX1_init 4 none 1 20 0 0 (kw cy a rw S) [.ref p9, .int p0, .int p1, .ref p2] (QV D (U := KS) post (kw cy a rw)) := by
  refine Ct.ofZ RX1 "<init>" [(0, .ref p9), (1, .int p0), (2, .int p1), (3, .ref p2)] rfl rfl rfl rfl (Nat.le_of_ble_eq_true rfl) ?_
  intro p e R s m args below meth c A b
  unfold w_X1_init at h
  refine z_aload_n b dX1_init_0 rfl rfl ?_
  refine z_objInit b wm_X1_1 wi_objInit wc_objInit dX1_init_1 (by decide) (Nat.le_of_ble_eq_true rfl) ?_
  refine z_aload_n b dX1_init_4 rfl rfl ?_
  refine z_iload_n b dX1_init_5 rfl rfl ?_
  obtain ⟨i1, f2, f3, f4, g5, h⟩ := h
  refine z_putF (q0 := 47 + i1) (k9 := 0) tyX1 b (kw_dyn cy a rw S g5) rfl in_X1 tyX1_ok nmX1 (by decide) wf_X1_7 rfl rfl rfl rfl rfl rfl (Nat.le_of_ble_eq_true rfl) dX1_init_6 (kw_dset cy a rw S i1 (p9, .inr (2, [.int p0, .int f3, .ref f4]))) ?_
  refine z_aload_n b dX1_init_9 rfl rfl ?_
  refine z_iload_n b dX1_init_10 rfl rfl ?_
  obtain ⟨i6, f7, f8, f9, g10, h⟩ := h
  refine z_putF (q0 := 47 + i6) (k9 := 1) tyX1 b (kw_dyn cy a rw (ksL S (S.2.2.2.set i1 (p9, .inr (2, [.int p0, .int f3, .ref f4])))) g10) rfl in_X1 tyX1_ok nmX1 (by decide) wf_X1_13 rfl rfl rfl rfl rfl rfl (Nat.le_of_ble_eq_true rfl) dX1_init_11 (kw_dset cy a rw (ksL S (S.2.2.2.set i1 (p9, .inr (2, [.int p0, .int f3, .ref f4])))) i6 (p9, .inr (2, [.int f7, .int p1, .ref f9]))) ?_
  refine z_aload_n b dX1_init_14 rfl rfl ?_
  refine z_aload_n b dX1_init_15 rfl rfl ?_
  obtain ⟨i11, f12, f13, f14, g15, h⟩ := h
  refine z_putF (q0 := 47 + i11) (k9 := 2) tyX1 b (kw_dyn cy a rw (ksL (ksL S (S.2.2.2.set i1 (p9, .inr (2, [.int p0, .int f3, .ref f4])))) ((S.2.2.2.set i1 (p9, .inr (2, [.int p0, .int f3, .ref f4]))).set i6 (p9, .inr (2, [.int f7, .int p1, .ref f9])))) g15) rfl in_X1 tyX1_ok nmX1 (by decide) wf_X1_16 rfl rfl rfl rfl rfl rfl (Nat.le_of_ble_eq_true rfl) dX1_init_16 (kw_dset cy a rw (ksL (ksL S (S.2.2.2.set i1 (p9, .inr (2, [.int p0, .int f3, .ref f4])))) ((S.2.2.2.set i1 (p9, .inr (2, [.int p0, .int f3, .ref f4]))).set i6 (p9, .inr (2, [.int f7, .int p1, .ref f9])))) i11 (p9, .inr (2, [.int f12, .int f13, .ref p2]))) ?_
  exact z_vret (u := (ksL (ksL (ksL S (S.2.2.2.set i1 (p9, .inr (2, [.int p0, .int f3, .ref f4])))) ((S.2.2.2.set i1 (p9, .inr (2, [.int p0, .int f3, .ref f4]))).set i6 (p9, .inr (2, [.int f7, .int p1, .ref f9])))) (((S.2.2.2.set i1 (p9, .inr (2, [.int p0, .int f3, .ref f4]))).set i6 (p9, .inr (2, [.int f7, .int p1, .ref f9]))).set i11 (p9, .inr (2, [.int f12, .int f13, .ref p2]))))) b rfl dX1_init_19 h rfl (by decide) (by decide)

def w_X5_clause (cy : Nat → ClassId) (tE : Nat) (mc ms : Nat) (S : KS) (p0 : Int32) (p1 : Int32) (post : Option Nat → KS → Prop) : Prop :=
  (0 + 1 ≤ mc ∧ 0 + 3 ≤ ms) ∧ ∀ q2 : Nat, ∃ m3 m4 : Nat, ((0 + 1) + m3 ≤ mc ∧ (0 + 3) + m4 ≤ ms) ∧ w_J7_copyOf_59c91 cy tE m3 m4 (ksL S (S.2.2.2 ++ [(q2, .inr (2, [.int 0, .int 0, .null]))])) (fi S.1 16) (fun r6 S7 => ∃ q8 : Nat, r6 = some q8 ∧ (((0 + 1) + m3) ≤ mc ∧ ((0 + 3) + m4) ≤ ms) ∧ w_X1_init cy tE S7 q2 p0 p1 q8 (fun S12 => (((0 + 1) + m3) ≤ mc ∧ ((0 + 3) + m4) ≤ ms) ∧ post (some q2) S12))

set_option maxHeartbeats 4000000 in
set_option maxRecDepth 100000 in
theorem k_X5_clause {l : Launch} {D : va_G} {cy : Nat → ClassId} {T0 tB tE : Nat} {a : Nat → Nat} {rw : Nat → Option Nat} (hrw : ∀ i, i < 6 → rw i = some (a (12 + 2 * i))) {mc ms : Nat} (S : KS) (p0 : Int32) (p1 : Int32) (post : Option Nat → KS → Prop) (h : w_X5_clause cy tE mc ms S p0 p1 post) : Ct l D cy T0 tB tE yX5_clause cX5_clause 3 (some (.object "LawHoles$Clause")) 2 62 mc ms (kw cy a rw S) [.ref (a 26), .int p0, .int p1] (QQ D (U := KS) post (kw cy a rw)) := by
  refine Ct.ofZ RX5 "clause" [(0, .ref (a 26)), (1, .int p0), (2, .int p1)] rfl rfl rfl rfl (Nat.le_of_ble_eq_true rfl) ?_
  intro p e R s m args below meth c A b
  unfold w_X5_clause at h
  obtain ⟨g1, h⟩ := h
  refine z_new (fs := [.int 0, .int 0, .null]) (N := 3) (ci := 2) tyX1 b in_X1 tyX1_ok wk_X5_74 wn_X1 w0_X1 rfl tyX1_df g1 dX5_clause_0 (fun q2 => ?_)
  replace h := h q2
  refine z_wseq (kw_new cy a rw S (q2, .inr (2, [.int 0, .int 0, .null]))) ?_
  refine z_dup b dX5_clause_3 rfl ?_
  refine z_iload_n b dX5_clause_4 rfl rfl ?_
  refine z_iload_n b dX5_clause_5 rfl rfl ?_
  refine z_aload_n b dX5_clause_6 rfl rfl ?_
  refine z_get (q0 := 26) (k9 := 2) (v := .ref (a 32)) b (kw_26 cy a rw (ksL S (S.2.2.2 ++ [(q2, .inr (2, [.int 0, .int 0, .null]))]))) rfl in_X5 (by decide) wf_X5_22 rfl dX5_clause_7 ?_
  refine z_aload_n b dX5_clause_10 rfl rfl ?_
  refine z_get (q0 := 26) (k9 := 3) (v := .int (fi S.1 16)) b (kw_26 cy a rw (ksL S (S.2.2.2 ++ [(q2, .inr (2, [.int 0, .int 0, .null]))]))) rfl in_X5 (by decide) wf_X5_26 rfl dX5_clause_11 ?_
  obtain ⟨m3, m4, g5, h⟩ := h
  refine z_callq b (z_runS (As := [.ref (a 32), .int (fi S.1 16)]) (st := [.int p1, .int p0, .ref q2, .ref q2]) b (k_J7_copyOf_59c91 hrw (ksL S (S.2.2.2 ++ [(q2, .inr (2, [.int 0, .int 0, .null]))])) (fi S.1 16) _ h) cf_J7_copyOf_59c91 wm_X5_76 ws_J7_copyOf_59c91 dX5_clause_14 rfl (Nat.le_of_ble_eq_true rfl) ⟨by decide, by decide, g5.1, g5.2⟩) (fun r6 S7 h => ?_)
  obtain ⟨q8, g9, h⟩ := h
  subst g9
  obtain ⟨g10, h⟩ := h
  refine z_callv b (z_runI (As := [.int p0, .int p1, .ref q8]) (st := [.ref q2]) b (k_X1_init hrw S7 q2 p0 p1 q8 _ h) cf_X1_init wm_X5_82 wi_X1_init rfl dX5_clause_17 rfl (Nat.le_of_ble_eq_true rfl) ⟨by decide, by decide, g10.1, g10.2⟩) (fun S12 h => ?_)
  obtain ⟨g13, h⟩ := h
  exact z_aret (v := (some q2)) (u := S12) b rfl (Or.inl ⟨_, rfl⟩) dX5_clause_20 h rfl g13.1 g13.2

def w_X5_emit_B37 (cy : Nat → ClassId) (tE : Nat) (post : KS → Prop) (S : KS)  : Prop :=
  post S

set_option maxHeartbeats 4000000 in
set_option maxRecDepth 100000 in
theorem z_X5_emit_B37 {p : Program} {l : Launch} {e : Env} {R : Room} {s : State} {m : MethodId} {args : Array Value} {below : List Frame} {meth : Method} {c : Code} {D : va_G} {cy : Nat → ClassId} {T0 tB tE : Nat} {A : Nat → Prop} {a : Nat → Nat} {rw : Nat → Option Nat} (hrw : ∀ i, i < 6 → rw i = some (a (12 + 2 * i))) {post : KS → Prop} (b : Bz p R s m args meth c D cy T0 tB tE A 3 cX5_emit RX5 none "emit" 0 0 0 0) (S : KS)  (h : w_X5_emit_B37 cy tE post S ) : Z p l e R s m args below meth c D A 3 (MQ below (QV D (U := KS) post (kw cy a rw) A) args s 0 0 A) 0 0 (kw cy a rw S) [] 37 [] := by
  unfold w_X5_emit_B37 at h
  exact z_vret (u := S) b rfl dX5_emit_37 h rfl (by decide) (by decide)

def w_X5_emit (cy : Nat → ClassId) (tE : Nat) (S : KS) (p0 : Int32) (p1 : Int32) (post : KS → Prop) : Prop :=
  ((700 ≤ (fi S.1 16).toInt → w_X5_emit_B37 cy tE post S) ∧ ((fi S.1 16).toInt < 700 → (0 ≤ (fi S.1 16).toInt ∧ (fi S.1 16).toInt < 700) ∧ w_X5_emit_B37 cy tE post (ksi (ksu S 15 ((fi S.1 16).toNatClampNeg) (p0 + ((32 : Int32) * p1))) 16 ((fi S.1 16) + 1))))

set_option maxHeartbeats 4000000 in
set_option maxRecDepth 100000 in
theorem k_X5_emit {l : Launch} {D : va_G} {cy : Nat → ClassId} {T0 tB tE : Nat} {a : Nat → Nat} {rw : Nat → Option Nat} (hrw : ∀ i, i < 6 → rw i = some (a (12 + 2 * i))) (S : KS) (p0 : Int32) (p1 : Int32) (post : KS → Prop) (h : w_X5_emit cy tE S p0 p1 post) : Ct l D cy T0 tB tE yX5_emit cX5_emit 3 none 0 0 0 0 (kw cy a rw S) [.ref (a 26), .int p0, .int p1] (QV D (U := KS) post (kw cy a rw)) := by
  refine Ct.ofZ RX5 "emit" [(0, .ref (a 26)), (1, .int p0), (2, .int p1)] rfl rfl rfl rfl (Nat.le_of_ble_eq_true rfl) ?_
  intro p e R s m args below meth c A b
  unfold w_X5_emit at h
  refine z_aload_n b dX5_emit_0 rfl rfl ?_
  refine z_get (q0 := 26) (k9 := 3) (v := .int (fi S.1 16)) b (kw_26 cy a rw S) rfl in_X5 (by decide) wf_X5_26 rfl dX5_emit_1 ?_
  refine z_aload_n b dX5_emit_4 rfl rfl ?_
  refine z_get (q0 := 26) (k9 := 2) (v := .ref (a 32)) b (kw_26 cy a rw S) rfl in_X5 (by decide) wf_X5_22 rfl dX5_emit_5 ?_
  refine z_alen (q0 := 32) (t0 := 0) (v := 700) b (kw_32 cy a rw S) rfl rfl dX5_emit_8 ?_
  refine y_icmp_ge (tgt := 37) (xl := (fi S.1 16).toInt) (yl := 700) b rfl (by decide) dX5_emit_9 (by decide) (fun c1 => ?_) (fun c1 => ?_)
  · replace h := h.1 c1
    refine z_lv0 (lv' := []) [] rfl ?_
    exact z_X5_emit_B37 hrw b _ h
  · replace h := h.2 c1
    refine z_aload_n b dX5_emit_12 rfl rfl ?_
    refine z_get (q0 := 26) (k9 := 2) (v := .ref (a 32)) b (kw_26 cy a rw S) rfl in_X5 (by decide) wf_X5_22 rfl dX5_emit_13 ?_
    refine z_aload_n b dX5_emit_16 rfl rfl ?_
    refine z_get (q0 := 26) (k9 := 3) (v := .int (fi S.1 16)) b (kw_26 cy a rw S) rfl in_X5 (by decide) wf_X5_26 rfl dX5_emit_17 ?_
    refine z_iload_n b dX5_emit_20 rfl rfl ?_
    refine z_bipush (v := 32) b dX5_emit_21 (by decide) ?_
    refine z_iload_n b dX5_emit_23 rfl rfl ?_
    refine z_imul b dX5_emit_24 rfl ?_
    refine z_iadd b dX5_emit_25 rfl ?_
    obtain ⟨g1, h⟩ := h
    refine y_iast (q0 := 32) (j := (fi S.1 16).toNatClampNeg) b (kw_32 cy a rw S) (zx_r g1.1 g1.2) dX5_emit_26 (kwa_32 cy a rw S ((fi S.1 16).toNatClampNeg) (p0 + ((32 : Int32) * p1))) ?_
    refine z_aload_n b dX5_emit_27 rfl rfl ?_
    refine z_dup b dX5_emit_28 rfl ?_
    refine z_get (q0 := 26) (k9 := 3) (v := .int (fi S.1 16)) b (kw_26 cy a rw (ksu S 15 ((fi S.1 16).toNatClampNeg) (p0 + ((32 : Int32) * p1)))) rfl in_X5 (by decide) wf_X5_26 rfl dX5_emit_29 ?_
    refine z_iconst (v := 1) b dX5_emit_32 (by decide) ?_
    refine z_iadd b dX5_emit_33 rfl ?_
    refine z_put (q0 := 26) (k9 := 3) tyX5 b (kw_26 cy a rw (ksu S 15 ((fi S.1 16).toNatClampNeg) (p0 + ((32 : Int32) * p1)))) rfl in_X5 tyX5_ok nmX5 (by decide) wf_X5_26 rfl rfl rfl rfl (Nat.le_of_ble_eq_true rfl) dX5_emit_34 (kwp_26_3 cy a rw (ksu S 15 ((fi S.1 16).toNatClampNeg) (p0 + ((32 : Int32) * p1))) ((fi S.1 16) + 1)) ?_
    refine z_lv0 (lv' := []) [] rfl ?_
    exact z_X5_emit_B37 hrw b _ h

def w_X5_readEither_B122 (cy : Nat → ClassId) (tE : Nat) (sg : KS → Int32 → (Int32 → KS → Prop) → Prop) (post : Int32 → KS → Prop) (k14 : KS → Int32 → Int32 → Int32 → Prop) (k128 : KS → Int32 → Prop) (S : KS) (x1 : Int32) (x2 : Int32) (x3 : Int32) : Prop :=
  k14 S x1 x2 (x3 + 1)

set_option maxHeartbeats 4000000 in
set_option maxRecDepth 100000 in
theorem z_X5_readEither_B122 {p : Program} {l : Launch} {e : Env} {R : Room} {s : State} {m : MethodId} {args : Array Value} {below : List Frame} {meth : Method} {c : Code} {D : va_G} {cy : Nat → ClassId} {T0 tB tE : Nat} {A : Nat → Prop} {a : Nat → Nat} {rw : Nat → Option Nat} (hrw : ∀ i, i < 6 → rw i = some (a (12 + 2 * i))) {d : Nat} {sg : KS → Int32 → (Int32 → KS → Prop) → Prop} (hsg : ∀ (S : KS) (q0 : Int32) (post : Int32 → KS → Prop), sg S q0 post → Ct l D cy T0 tB tE yX5_readClaim cX5_readClaim 4 (some .boolean) (4 + 3 * d) (88 + 69 * d) 0 0 (kw cy a rw S) [.ref (a 26), .int q0] (QI D (U := KS) post (kw cy a rw))) {post : Int32 → KS → Prop} {k14 : KS → Int32 → Int32 → Int32 → Prop} {k128 : KS → Int32 → Prop} (b : Bz p R s m args meth c D cy T0 tB tE A 5 cX5_readEither RX5 (some .boolean) "readEither" (4 + 3 * d + 1) (88 + 69 * d + 23) 0 0) (hk14 : ∀ (S : KS) (x1 : Int32) (x2 : Int32) (x3 : Int32), k14 S x1 x2 x3 → Z p l e R s m args below meth c D A 5 (MQ below (QI D (U := KS) post (kw cy a rw) A) args s 0 0 A) 0 0 (kw cy a rw S) [(0, .ref (a 26)), (1, .int x1), (2, .int x2), (3, .int x3)] 14 []) (hk128 : ∀ (S : KS) (x2 : Int32), k128 S x2 → Z p l e R s m args below meth c D A 5 (MQ below (QI D (U := KS) post (kw cy a rw) A) args s 0 0 A) 0 0 (kw cy a rw S) [(0, .ref (a 26)), (2, .int x2)] 128 []) (S : KS) (x1 : Int32) (x2 : Int32) (x3 : Int32) (h : w_X5_readEither_B122 cy tE sg post k14 k128 S x1 x2 x3) : Z p l e R s m args below meth c D A 5 (MQ below (QI D (U := KS) post (kw cy a rw) A) args s 0 0 A) 0 0 (kw cy a rw S) [(0, .ref (a 26)), (1, .int x1), (2, .int x2), (3, .int x3)] 122 [] := by
  unfold w_X5_readEither_B122 at h
  refine z_iinc (k9 := 3) (v := (x3 + 1)) (lv' := [(3, .int (x3 + 1)), (0, .ref (a 26)), (1, .int x1), (2, .int x2)]) b dX5_readEither_122 rfl rfl (by decide) rfl ?_
  refine z_goto (tgt := 14) b dX5_readEither_125 (by decide) ?_
  refine z_lv0 (lv' := [(0, .ref (a 26)), (1, .int x1), (2, .int x2), (3, .int (x3 + 1))]) [1, 2, 3, 0] rfl ?_
  exact hk14 _ _ _ _ h

def w_X5_readEither_B99 (cy : Nat → ClassId) (tE : Nat) (sg : KS → Int32 → (Int32 → KS → Prop) → Prop) (post : Int32 → KS → Prop) (k14 : KS → Int32 → Int32 → Int32 → Prop) (k128 : KS → Int32 → Prop) (S : KS) (x1 : Int32) (x3 : Int32) (x4 : Int32) (y0 : Int32) : Prop :=
  sg S x1 (fun r7 S8 => ((r7.toInt ≠ 0 → ((x4.toInt = 0 → w_X5_readEither_B122 cy tE sg post k14 k128 S8 x1 y0 x3) ∧ (x4.toInt ≠ 0 → w_X5_emit cy tE S8 16 0 (fun S10 => w_X5_readEither_B122 cy tE sg post k14 k128 S10 x1 y0 x3)))) ∧ (r7.toInt = 0 → post 0 S8)))

set_option maxHeartbeats 4000000 in
set_option maxRecDepth 100000 in
theorem z_X5_readEither_B99 {p : Program} {l : Launch} {e : Env} {R : Room} {s : State} {m : MethodId} {args : Array Value} {below : List Frame} {meth : Method} {c : Code} {D : va_G} {cy : Nat → ClassId} {T0 tB tE : Nat} {A : Nat → Prop} {a : Nat → Nat} {rw : Nat → Option Nat} (hrw : ∀ i, i < 6 → rw i = some (a (12 + 2 * i))) {d : Nat} {sg : KS → Int32 → (Int32 → KS → Prop) → Prop} (hsg : ∀ (S : KS) (q0 : Int32) (post : Int32 → KS → Prop), sg S q0 post → Ct l D cy T0 tB tE yX5_readClaim cX5_readClaim 4 (some .boolean) (4 + 3 * d) (88 + 69 * d) 0 0 (kw cy a rw S) [.ref (a 26), .int q0] (QI D (U := KS) post (kw cy a rw))) {post : Int32 → KS → Prop} {k14 : KS → Int32 → Int32 → Int32 → Prop} {k128 : KS → Int32 → Prop} (b : Bz p R s m args meth c D cy T0 tB tE A 5 cX5_readEither RX5 (some .boolean) "readEither" (4 + 3 * d + 1) (88 + 69 * d + 23) 0 0) (hk14 : ∀ (S : KS) (x1 : Int32) (x2 : Int32) (x3 : Int32), k14 S x1 x2 x3 → Z p l e R s m args below meth c D A 5 (MQ below (QI D (U := KS) post (kw cy a rw) A) args s 0 0 A) 0 0 (kw cy a rw S) [(0, .ref (a 26)), (1, .int x1), (2, .int x2), (3, .int x3)] 14 []) (hk128 : ∀ (S : KS) (x2 : Int32), k128 S x2 → Z p l e R s m args below meth c D A 5 (MQ below (QI D (U := KS) post (kw cy a rw) A) args s 0 0 A) 0 0 (kw cy a rw S) [(0, .ref (a 26)), (2, .int x2)] 128 []) (S : KS) (x1 : Int32) (x3 : Int32) (x4 : Int32) (y0 : Int32) (h : w_X5_readEither_B99 cy tE sg post k14 k128 S x1 x3 x4 y0) : Z p l e R s m args below meth c D A 5 (MQ below (QI D (U := KS) post (kw cy a rw) A) args s 0 0 A) 0 0 (kw cy a rw S) [(0, .ref (a 26)), (1, .int x1), (3, .int x3), (4, .int x4)] 99 [.int y0] := by
  unfold w_X5_readEither_B99 at h
  refine z_istore_n (lv' := [(2, .int y0), (0, .ref (a 26)), (1, .int x1), (3, .int x3), (4, .int x4)]) b dX5_readEither_99 rfl (by decide) rfl ?_
  refine z_aload_n b dX5_readEither_100 rfl rfl ?_
  refine z_iload_n b dX5_readEither_101 rfl rfl ?_
  refine z_calli b (z_runV (q0 := 26) (As := [.int x1]) (st := []) b (hsg S x1 _ h) cf_X5_readClaim (kw_26 cy a rw S) rfl wm_X5_158 wi_X5_readClaim ws_X5_readClaim dX5_readEither_102 rfl (Nat.le_of_ble_eq_true rfl) ⟨by omega, by omega, Nat.le_of_ble_eq_true rfl, Nat.le_of_ble_eq_true rfl⟩) (fun r7 S8 h => ?_)
  refine y_if_ne (tgt := 110) (xl := r7.toInt) b rfl dX5_readEither_105 (by decide) (fun c1 => ?_) (fun c1 => ?_)
  · replace h := h.1 c1
    refine z_iload b dX5_readEither_110 rfl ?_
    refine y_if_eq (tgt := 122) (xl := x4.toInt) b rfl dX5_readEither_112 (by decide) (fun c1 => ?_) (fun c1 => ?_)
    · replace h := h.1 c1
      refine z_lv0 (lv' := [(0, .ref (a 26)), (1, .int x1), (2, .int y0), (3, .int x3)]) [1, 2, 0, 3] rfl ?_
      exact z_X5_readEither_B122 hrw hsg b hk14 hk128 _ _ _ _ h
    · replace h := h.2 c1
      refine z_aload_n b dX5_readEither_115 rfl rfl ?_
      refine z_bipush (v := 16) b dX5_readEither_116 (by decide) ?_
      refine z_iconst (v := 0) b dX5_readEither_118 (by decide) ?_
      refine z_callv b (z_runV (q0 := 26) (As := [.int 16, .int 0]) (st := []) b (k_X5_emit hrw S8 16 0 _ h) cf_X5_emit (kw_26 cy a rw S8) rfl wm_X5_147 wi_X5_emit ws_X5_emit dX5_readEither_119 rfl (Nat.le_of_ble_eq_true rfl) ⟨by omega, by omega, Nat.le_of_ble_eq_true rfl, Nat.le_of_ble_eq_true rfl⟩) (fun S10 h => ?_)
      refine z_lv0 (lv' := [(0, .ref (a 26)), (1, .int x1), (2, .int y0), (3, .int x3)]) [1, 2, 0, 3] rfl ?_
      exact z_X5_readEither_B122 hrw hsg b hk14 hk128 _ _ _ _ h
  · replace h := h.2 c1
    refine z_iconst (v := 0) b dX5_readEither_108 (by decide) ?_
    exact z_zret (u := S8) b rfl (by decide) dX5_readEither_109 h rfl (by decide) (by decide)

def w_X5_readEither_B94 (cy : Nat → ClassId) (tE : Nat) (sg : KS → Int32 → (Int32 → KS → Prop) → Prop) (post : Int32 → KS → Prop) (k14 : KS → Int32 → Int32 → Int32 → Prop) (k128 : KS → Int32 → Prop) (S : KS) (x1 : Int32) (x3 : Int32) (x4 : Int32) : Prop :=
  w_X5_readEither_B99 cy tE sg post k14 k128 S x1 x3 x4 1

set_option maxHeartbeats 4000000 in
set_option maxRecDepth 100000 in
theorem z_X5_readEither_B94 {p : Program} {l : Launch} {e : Env} {R : Room} {s : State} {m : MethodId} {args : Array Value} {below : List Frame} {meth : Method} {c : Code} {D : va_G} {cy : Nat → ClassId} {T0 tB tE : Nat} {A : Nat → Prop} {a : Nat → Nat} {rw : Nat → Option Nat} (hrw : ∀ i, i < 6 → rw i = some (a (12 + 2 * i))) {d : Nat} {sg : KS → Int32 → (Int32 → KS → Prop) → Prop} (hsg : ∀ (S : KS) (q0 : Int32) (post : Int32 → KS → Prop), sg S q0 post → Ct l D cy T0 tB tE yX5_readClaim cX5_readClaim 4 (some .boolean) (4 + 3 * d) (88 + 69 * d) 0 0 (kw cy a rw S) [.ref (a 26), .int q0] (QI D (U := KS) post (kw cy a rw))) {post : Int32 → KS → Prop} {k14 : KS → Int32 → Int32 → Int32 → Prop} {k128 : KS → Int32 → Prop} (b : Bz p R s m args meth c D cy T0 tB tE A 5 cX5_readEither RX5 (some .boolean) "readEither" (4 + 3 * d + 1) (88 + 69 * d + 23) 0 0) (hk14 : ∀ (S : KS) (x1 : Int32) (x2 : Int32) (x3 : Int32), k14 S x1 x2 x3 → Z p l e R s m args below meth c D A 5 (MQ below (QI D (U := KS) post (kw cy a rw) A) args s 0 0 A) 0 0 (kw cy a rw S) [(0, .ref (a 26)), (1, .int x1), (2, .int x2), (3, .int x3)] 14 []) (hk128 : ∀ (S : KS) (x2 : Int32), k128 S x2 → Z p l e R s m args below meth c D A 5 (MQ below (QI D (U := KS) post (kw cy a rw) A) args s 0 0 A) 0 0 (kw cy a rw S) [(0, .ref (a 26)), (2, .int x2)] 128 []) (S : KS) (x1 : Int32) (x3 : Int32) (x4 : Int32) (h : w_X5_readEither_B94 cy tE sg post k14 k128 S x1 x3 x4) : Z p l e R s m args below meth c D A 5 (MQ below (QI D (U := KS) post (kw cy a rw) A) args s 0 0 A) 0 0 (kw cy a rw S) [(0, .ref (a 26)), (1, .int x1), (3, .int x3), (4, .int x4)] 94 [] := by
  unfold w_X5_readEither_B94 at h
  refine z_iconst (v := 1) b dX5_readEither_94 (by decide) ?_
  refine z_goto (tgt := 99) b dX5_readEither_95 (by decide) ?_
  exact z_X5_readEither_B99 hrw hsg b hk14 hk128 _ _ _ _ _ h

def w_X5_readEither_B85 (cy : Nat → ClassId) (tE : Nat) (sg : KS → Int32 → (Int32 → KS → Prop) → Prop) (post : Int32 → KS → Prop) (k14 : KS → Int32 → Int32 → Int32 → Prop) (k128 : KS → Int32 → Prop) (S : KS) (x1 : Int32) (x2 : Int32) (x3 : Int32) (x4 : Int32) : Prop :=
  ((x2.toInt ≠ 0 → w_X5_readEither_B94 cy tE sg post k14 k128 S x1 x3 x4) ∧ (x2.toInt = 0 → ((x4.toInt ≠ 0 → w_X5_readEither_B99 cy tE sg post k14 k128 S x1 x3 x4 0) ∧ (x4.toInt = 0 → w_X5_readEither_B94 cy tE sg post k14 k128 S x1 x3 x4))))

set_option maxHeartbeats 4000000 in
set_option maxRecDepth 100000 in
theorem z_X5_readEither_B85 {p : Program} {l : Launch} {e : Env} {R : Room} {s : State} {m : MethodId} {args : Array Value} {below : List Frame} {meth : Method} {c : Code} {D : va_G} {cy : Nat → ClassId} {T0 tB tE : Nat} {A : Nat → Prop} {a : Nat → Nat} {rw : Nat → Option Nat} (hrw : ∀ i, i < 6 → rw i = some (a (12 + 2 * i))) {d : Nat} {sg : KS → Int32 → (Int32 → KS → Prop) → Prop} (hsg : ∀ (S : KS) (q0 : Int32) (post : Int32 → KS → Prop), sg S q0 post → Ct l D cy T0 tB tE yX5_readClaim cX5_readClaim 4 (some .boolean) (4 + 3 * d) (88 + 69 * d) 0 0 (kw cy a rw S) [.ref (a 26), .int q0] (QI D (U := KS) post (kw cy a rw))) {post : Int32 → KS → Prop} {k14 : KS → Int32 → Int32 → Int32 → Prop} {k128 : KS → Int32 → Prop} (b : Bz p R s m args meth c D cy T0 tB tE A 5 cX5_readEither RX5 (some .boolean) "readEither" (4 + 3 * d + 1) (88 + 69 * d + 23) 0 0) (hk14 : ∀ (S : KS) (x1 : Int32) (x2 : Int32) (x3 : Int32), k14 S x1 x2 x3 → Z p l e R s m args below meth c D A 5 (MQ below (QI D (U := KS) post (kw cy a rw) A) args s 0 0 A) 0 0 (kw cy a rw S) [(0, .ref (a 26)), (1, .int x1), (2, .int x2), (3, .int x3)] 14 []) (hk128 : ∀ (S : KS) (x2 : Int32), k128 S x2 → Z p l e R s m args below meth c D A 5 (MQ below (QI D (U := KS) post (kw cy a rw) A) args s 0 0 A) 0 0 (kw cy a rw S) [(0, .ref (a 26)), (2, .int x2)] 128 []) (S : KS) (x1 : Int32) (x2 : Int32) (x3 : Int32) (x4 : Int32) (h : w_X5_readEither_B85 cy tE sg post k14 k128 S x1 x2 x3 x4) : Z p l e R s m args below meth c D A 5 (MQ below (QI D (U := KS) post (kw cy a rw) A) args s 0 0 A) 0 0 (kw cy a rw S) [(0, .ref (a 26)), (1, .int x1), (2, .int x2), (3, .int x3), (4, .int x4)] 85 [] := by
  unfold w_X5_readEither_B85 at h
  refine z_iload_n b dX5_readEither_85 rfl rfl ?_
  refine y_if_ne (tgt := 94) (xl := x2.toInt) b rfl dX5_readEither_86 (by decide) (fun c1 => ?_) (fun c1 => ?_)
  · replace h := h.1 c1
    refine z_lv0 (lv' := [(0, .ref (a 26)), (1, .int x1), (3, .int x3), (4, .int x4)]) [0, 1, 3, 4] rfl ?_
    exact z_X5_readEither_B94 hrw hsg b hk14 hk128 _ _ _ _ h
  · replace h := h.2 c1
    refine z_iload b dX5_readEither_89 rfl ?_
    refine y_if_ne (tgt := 98) (xl := x4.toInt) b rfl dX5_readEither_91 (by decide) (fun c1 => ?_) (fun c1 => ?_)
    · replace h := h.1 c1
      refine z_iconst (v := 0) b dX5_readEither_98 (by decide) ?_
      refine z_lv0 (lv' := [(0, .ref (a 26)), (1, .int x1), (3, .int x3), (4, .int x4)]) [0, 1, 3, 4] rfl ?_
      exact z_X5_readEither_B99 hrw hsg b hk14 hk128 _ _ _ _ _ h
    · replace h := h.2 c1
      refine z_lv0 (lv' := [(0, .ref (a 26)), (1, .int x1), (3, .int x3), (4, .int x4)]) [0, 1, 3, 4] rfl ?_
      exact z_X5_readEither_B94 hrw hsg b hk14 hk128 _ _ _ _ h

def w_X5_readEither_B57 (cy : Nat → ClassId) (tE : Nat) (sg : KS → Int32 → (Int32 → KS → Prop) → Prop) (post : Int32 → KS → Prop) (k14 : KS → Int32 → Int32 → Int32 → Prop) (k128 : KS → Int32 → Prop) (S : KS) (x1 : Int32) (x2 : Int32) (x3 : Int32) (y0 : Int32) : Prop :=
  ((y0.toInt ≠ 0 → w_X5_readEither_B85 cy tE sg post k14 k128 (ksi S 15 ((fi S.1 15) + 1)) x1 x2 x3 y0) ∧ (y0.toInt = 0 → ((x2.toInt = 0 → w_X5_readEither_B85 cy tE sg post k14 k128 (ksi S 15 ((fi S.1 15) + 1)) x1 x2 x3 y0) ∧ (x2.toInt ≠ 0 → w_X5_emit cy tE (ksi S 15 ((fi S.1 15) + 1)) 15 0 (fun S12 => w_X5_readEither_B85 cy tE sg post k14 k128 S12 x1 x2 x3 y0)))))

set_option maxHeartbeats 4000000 in
set_option maxRecDepth 100000 in
theorem z_X5_readEither_B57 {p : Program} {l : Launch} {e : Env} {R : Room} {s : State} {m : MethodId} {args : Array Value} {below : List Frame} {meth : Method} {c : Code} {D : va_G} {cy : Nat → ClassId} {T0 tB tE : Nat} {A : Nat → Prop} {a : Nat → Nat} {rw : Nat → Option Nat} (hrw : ∀ i, i < 6 → rw i = some (a (12 + 2 * i))) {d : Nat} {sg : KS → Int32 → (Int32 → KS → Prop) → Prop} (hsg : ∀ (S : KS) (q0 : Int32) (post : Int32 → KS → Prop), sg S q0 post → Ct l D cy T0 tB tE yX5_readClaim cX5_readClaim 4 (some .boolean) (4 + 3 * d) (88 + 69 * d) 0 0 (kw cy a rw S) [.ref (a 26), .int q0] (QI D (U := KS) post (kw cy a rw))) {post : Int32 → KS → Prop} {k14 : KS → Int32 → Int32 → Int32 → Prop} {k128 : KS → Int32 → Prop} (b : Bz p R s m args meth c D cy T0 tB tE A 5 cX5_readEither RX5 (some .boolean) "readEither" (4 + 3 * d + 1) (88 + 69 * d + 23) 0 0) (hk14 : ∀ (S : KS) (x1 : Int32) (x2 : Int32) (x3 : Int32), k14 S x1 x2 x3 → Z p l e R s m args below meth c D A 5 (MQ below (QI D (U := KS) post (kw cy a rw) A) args s 0 0 A) 0 0 (kw cy a rw S) [(0, .ref (a 26)), (1, .int x1), (2, .int x2), (3, .int x3)] 14 []) (hk128 : ∀ (S : KS) (x2 : Int32), k128 S x2 → Z p l e R s m args below meth c D A 5 (MQ below (QI D (U := KS) post (kw cy a rw) A) args s 0 0 A) 0 0 (kw cy a rw S) [(0, .ref (a 26)), (2, .int x2)] 128 []) (S : KS) (x1 : Int32) (x2 : Int32) (x3 : Int32) (y0 : Int32) (h : w_X5_readEither_B57 cy tE sg post k14 k128 S x1 x2 x3 y0) : Z p l e R s m args below meth c D A 5 (MQ below (QI D (U := KS) post (kw cy a rw) A) args s 0 0 A) 0 0 (kw cy a rw S) [(0, .ref (a 26)), (1, .int x1), (2, .int x2), (3, .int x3)] 57 [.int y0] := by
  unfold w_X5_readEither_B57 at h
  refine z_istore (lv' := [(4, .int y0), (0, .ref (a 26)), (1, .int x1), (2, .int x2), (3, .int x3)]) b dX5_readEither_57 (by decide) rfl ?_
  refine z_aload_n b dX5_readEither_59 rfl rfl ?_
  refine z_dup b dX5_readEither_60 rfl ?_
  refine z_get (q0 := 26) (k9 := 1) (v := .int (fi S.1 15)) b (kw_26 cy a rw S) rfl in_X5 (by decide) wf_X5_18 rfl dX5_readEither_61 ?_
  refine z_iconst (v := 1) b dX5_readEither_64 (by decide) ?_
  refine z_iadd b dX5_readEither_65 rfl ?_
  refine z_put (q0 := 26) (k9 := 1) tyX5 b (kw_26 cy a rw S) rfl in_X5 tyX5_ok nmX5 (by decide) wf_X5_18 rfl rfl rfl rfl (Nat.le_of_ble_eq_true rfl) dX5_readEither_66 (kwp_26_1 cy a rw S ((fi S.1 15) + 1)) ?_
  refine z_iload b dX5_readEither_69 rfl ?_
  refine y_if_ne (tgt := 85) (xl := y0.toInt) b rfl dX5_readEither_71 (by decide) (fun c1 => ?_) (fun c1 => ?_)
  · replace h := h.1 c1
    refine z_lv0 (lv' := [(0, .ref (a 26)), (1, .int x1), (2, .int x2), (3, .int x3), (4, .int y0)]) [1, 2, 3, 4, 0] rfl ?_
    exact z_X5_readEither_B85 hrw hsg b hk14 hk128 _ _ _ _ _ h
  · replace h := h.2 c1
    refine z_iload_n b dX5_readEither_74 rfl rfl ?_
    refine y_if_eq (tgt := 85) (xl := x2.toInt) b rfl dX5_readEither_75 (by decide) (fun c1 => ?_) (fun c1 => ?_)
    · replace h := h.1 c1
      refine z_lv0 (lv' := [(0, .ref (a 26)), (1, .int x1), (2, .int x2), (3, .int x3), (4, .int y0)]) [1, 2, 3, 4, 0] rfl ?_
      exact z_X5_readEither_B85 hrw hsg b hk14 hk128 _ _ _ _ _ h
    · replace h := h.2 c1
      refine z_aload_n b dX5_readEither_78 rfl rfl ?_
      refine z_bipush (v := 15) b dX5_readEither_79 (by decide) ?_
      refine z_iconst (v := 0) b dX5_readEither_81 (by decide) ?_
      refine z_callv b (z_runV (q0 := 26) (As := [.int 15, .int 0]) (st := []) b (k_X5_emit hrw (ksi S 15 ((fi S.1 15) + 1)) 15 0 _ h) cf_X5_emit (kw_26 cy a rw (ksi S 15 ((fi S.1 15) + 1))) rfl wm_X5_147 wi_X5_emit ws_X5_emit dX5_readEither_82 rfl (Nat.le_of_ble_eq_true rfl) ⟨by omega, by omega, Nat.le_of_ble_eq_true rfl, Nat.le_of_ble_eq_true rfl⟩) (fun S12 h => ?_)
      refine z_lv0 (lv' := [(0, .ref (a 26)), (1, .int x1), (2, .int x2), (3, .int x3), (4, .int y0)]) [1, 2, 3, 4, 0] rfl ?_
      exact z_X5_readEither_B85 hrw hsg b hk14 hk128 _ _ _ _ _ h

def w_X5_readEither_B43 (cy : Nat → ClassId) (tE : Nat) (sg : KS → Int32 → (Int32 → KS → Prop) → Prop) (post : Int32 → KS → Prop) (k14 : KS → Int32 → Int32 → Int32 → Prop) (k128 : KS → Int32 → Prop) (S : KS) (x1 : Int32) (x2 : Int32) (x3 : Int32) : Prop :=
  w_X5_kind cy tE S (fun r5 S6 => ((r5.toInt ≠ 16 → w_X5_readEither_B57 cy tE sg post k14 k128 S6 x1 x2 x3 0) ∧ (r5.toInt = 16 → w_X5_readEither_B57 cy tE sg post k14 k128 S6 x1 x2 x3 1)))

set_option maxHeartbeats 4000000 in
set_option maxRecDepth 100000 in
theorem z_X5_readEither_B43 {p : Program} {l : Launch} {e : Env} {R : Room} {s : State} {m : MethodId} {args : Array Value} {below : List Frame} {meth : Method} {c : Code} {D : va_G} {cy : Nat → ClassId} {T0 tB tE : Nat} {A : Nat → Prop} {a : Nat → Nat} {rw : Nat → Option Nat} (hrw : ∀ i, i < 6 → rw i = some (a (12 + 2 * i))) {d : Nat} {sg : KS → Int32 → (Int32 → KS → Prop) → Prop} (hsg : ∀ (S : KS) (q0 : Int32) (post : Int32 → KS → Prop), sg S q0 post → Ct l D cy T0 tB tE yX5_readClaim cX5_readClaim 4 (some .boolean) (4 + 3 * d) (88 + 69 * d) 0 0 (kw cy a rw S) [.ref (a 26), .int q0] (QI D (U := KS) post (kw cy a rw))) {post : Int32 → KS → Prop} {k14 : KS → Int32 → Int32 → Int32 → Prop} {k128 : KS → Int32 → Prop} (b : Bz p R s m args meth c D cy T0 tB tE A 5 cX5_readEither RX5 (some .boolean) "readEither" (4 + 3 * d + 1) (88 + 69 * d + 23) 0 0) (hk14 : ∀ (S : KS) (x1 : Int32) (x2 : Int32) (x3 : Int32), k14 S x1 x2 x3 → Z p l e R s m args below meth c D A 5 (MQ below (QI D (U := KS) post (kw cy a rw) A) args s 0 0 A) 0 0 (kw cy a rw S) [(0, .ref (a 26)), (1, .int x1), (2, .int x2), (3, .int x3)] 14 []) (hk128 : ∀ (S : KS) (x2 : Int32), k128 S x2 → Z p l e R s m args below meth c D A 5 (MQ below (QI D (U := KS) post (kw cy a rw) A) args s 0 0 A) 0 0 (kw cy a rw S) [(0, .ref (a 26)), (2, .int x2)] 128 []) (S : KS) (x1 : Int32) (x2 : Int32) (x3 : Int32) (h : w_X5_readEither_B43 cy tE sg post k14 k128 S x1 x2 x3) : Z p l e R s m args below meth c D A 5 (MQ below (QI D (U := KS) post (kw cy a rw) A) args s 0 0 A) 0 0 (kw cy a rw S) [(0, .ref (a 26)), (1, .int x1), (2, .int x2), (3, .int x3)] 43 [] := by
  unfold w_X5_readEither_B43 at h
  refine z_aload_n b dX5_readEither_43 rfl rfl ?_
  refine z_calli b (z_runV (q0 := 26) (As := []) (st := []) b (k_X5_kind hrw S _ h) cf_X5_kind (kw_26 cy a rw S) rfl wm_X5_66 wi_X5_kind ws_X5_kind dX5_readEither_44 rfl (Nat.le_of_ble_eq_true rfl) ⟨by omega, by omega, Nat.le_of_ble_eq_true rfl, Nat.le_of_ble_eq_true rfl⟩) (fun r5 S6 h => ?_)
  refine z_bipush (v := 16) b dX5_readEither_47 (by decide) ?_
  refine y_icmp_ne (tgt := 56) (xl := r5.toInt) (yl := 16) b rfl (by decide) dX5_readEither_49 (by decide) (fun c1 => ?_) (fun c1 => ?_)
  · replace h := h.1 c1
    refine z_iconst (v := 0) b dX5_readEither_56 (by decide) ?_
    exact z_X5_readEither_B57 hrw hsg b hk14 hk128 _ _ _ _ _ h
  · replace h := h.2 c1
    refine z_iconst (v := 1) b dX5_readEither_52 (by decide) ?_
    refine z_goto (tgt := 57) b dX5_readEither_53 (by decide) ?_
    exact z_X5_readEither_B57 hrw hsg b hk14 hk128 _ _ _ _ _ h

def w_X5_readEither_F14 (cy : Nat → ClassId) (tE : Nat) (sg : KS → Int32 → (Int32 → KS → Prop) → Prop) (post : Int32 → KS → Prop) (k128 : KS → Int32 → Prop) (k14 : KS → Int32 → Int32 → Int32 → Prop) (S : KS) (x1 : Int32) (x2 : Int32) (x3 : Int32) : Prop :=
  (((fi S.1 21).toInt ≤ x3.toInt → k128 S x2) ∧ (x3.toInt < (fi S.1 21).toInt → w_X5_kind cy tE S (fun r3 S4 => ((r3.toInt = 16 → w_X5_readEither_B43 cy tE sg post k14 k128 S4 x1 x2 x3) ∧ (r3.toInt ≠ 16 → w_X5_kind cy tE S4 (fun r13 S14 => ((r13.toInt ≠ 15 → k128 S14 x2) ∧ (r13.toInt = 15 → w_X5_readEither_B43 cy tE sg post k14 k128 S14 x1 x2 x3))))))))

set_option maxHeartbeats 4000000 in
set_option maxRecDepth 100000 in
theorem z_X5_readEither_F14 {p : Program} {l : Launch} {e : Env} {R : Room} {s : State} {m : MethodId} {args : Array Value} {below : List Frame} {meth : Method} {c : Code} {D : va_G} {cy : Nat → ClassId} {T0 tB tE : Nat} {A : Nat → Prop} {a : Nat → Nat} {rw : Nat → Option Nat} (hrw : ∀ i, i < 6 → rw i = some (a (12 + 2 * i))) {d : Nat} {sg : KS → Int32 → (Int32 → KS → Prop) → Prop} (hsg : ∀ (S : KS) (q0 : Int32) (post : Int32 → KS → Prop), sg S q0 post → Ct l D cy T0 tB tE yX5_readClaim cX5_readClaim 4 (some .boolean) (4 + 3 * d) (88 + 69 * d) 0 0 (kw cy a rw S) [.ref (a 26), .int q0] (QI D (U := KS) post (kw cy a rw))) {post : Int32 → KS → Prop} {k128 : KS → Int32 → Prop} {k14 : KS → Int32 → Int32 → Int32 → Prop} (b : Bz p R s m args meth c D cy T0 tB tE A 5 cX5_readEither RX5 (some .boolean) "readEither" (4 + 3 * d + 1) (88 + 69 * d + 23) 0 0) (hk128 : ∀ (S : KS) (x2 : Int32), k128 S x2 → Z p l e R s m args below meth c D A 5 (MQ below (QI D (U := KS) post (kw cy a rw) A) args s 0 0 A) 0 0 (kw cy a rw S) [(0, .ref (a 26)), (2, .int x2)] 128 []) (hk14 : ∀ (S : KS) (x1 : Int32) (x2 : Int32) (x3 : Int32), k14 S x1 x2 x3 → Z p l e R s m args below meth c D A 5 (MQ below (QI D (U := KS) post (kw cy a rw) A) args s 0 0 A) 0 0 (kw cy a rw S) [(0, .ref (a 26)), (1, .int x1), (2, .int x2), (3, .int x3)] 14 []) (S : KS) (x1 : Int32) (x2 : Int32) (x3 : Int32) (h : w_X5_readEither_F14 cy tE sg post k128 k14 S x1 x2 x3) : Z p l e R s m args below meth c D A 5 (MQ below (QI D (U := KS) post (kw cy a rw) A) args s 0 0 A) 0 0 (kw cy a rw S) [(0, .ref (a 26)), (1, .int x1), (2, .int x2), (3, .int x3)] 14 [] := by
  unfold w_X5_readEither_F14 at h
  refine z_iload_n b dX5_readEither_14 rfl rfl ?_
  refine z_aload_n b dX5_readEither_15 rfl rfl ?_
  refine z_get (q0 := 26) (k9 := 0) (v := .ref (a 27)) b (kw_26 cy a rw S) rfl in_X5 (by decide) wf_X5_12 rfl dX5_readEither_16 ?_
  refine z_get (q0 := 27) (k9 := 4) (v := .int (fi S.1 21)) b (kw_27 cy a rw S) rfl in_X10 (by decide) wf_X5_56 rfl dX5_readEither_19 ?_
  refine y_icmp_ge (tgt := 128) (xl := x3.toInt) (yl := (fi S.1 21).toInt) b rfl rfl dX5_readEither_22 (by decide) (fun c1 => ?_) (fun c1 => ?_)
  · replace h := h.1 c1
    refine z_lv0 (lv' := [(0, .ref (a 26)), (2, .int x2)]) [0, 2] rfl ?_
    exact hk128 _ _ h
  · replace h := h.2 c1
    refine z_aload_n b dX5_readEither_25 rfl rfl ?_
    refine z_calli b (z_runV (q0 := 26) (As := []) (st := []) b (k_X5_kind hrw S _ h) cf_X5_kind (kw_26 cy a rw S) rfl wm_X5_66 wi_X5_kind ws_X5_kind dX5_readEither_26 rfl (Nat.le_of_ble_eq_true rfl) ⟨by omega, by omega, Nat.le_of_ble_eq_true rfl, Nat.le_of_ble_eq_true rfl⟩) (fun r3 S4 h => ?_)
    refine z_bipush (v := 16) b dX5_readEither_29 (by decide) ?_
    refine y_icmp_eq (tgt := 43) (xl := r3.toInt) (yl := 16) b rfl (by decide) dX5_readEither_31 (by decide) (fun c1 => ?_) (fun c1 => ?_)
    · replace h := h.1 c1
      exact z_X5_readEither_B43 hrw hsg b hk14 hk128 _ _ _ _ h
    · replace h := h.2 c1
      refine z_aload_n b dX5_readEither_34 rfl rfl ?_
      refine z_calli b (z_runV (q0 := 26) (As := []) (st := []) b (k_X5_kind hrw S4 _ h) cf_X5_kind (kw_26 cy a rw S4) rfl wm_X5_66 wi_X5_kind ws_X5_kind dX5_readEither_35 rfl (Nat.le_of_ble_eq_true rfl) ⟨by omega, by omega, Nat.le_of_ble_eq_true rfl, Nat.le_of_ble_eq_true rfl⟩) (fun r13 S14 h => ?_)
      refine z_bipush (v := 15) b dX5_readEither_38 (by decide) ?_
      refine y_icmp_ne (tgt := 128) (xl := r13.toInt) (yl := 15) b rfl (by decide) dX5_readEither_40 (by decide) (fun c1 => ?_) (fun c1 => ?_)
      · replace h := h.1 c1
        refine z_lv0 (lv' := [(0, .ref (a 26)), (2, .int x2)]) [0, 2] rfl ?_
        exact hk128 _ _ h
      · replace h := h.2 c1
        exact z_X5_readEither_B43 hrw hsg b hk14 hk128 _ _ _ _ h

set_option maxHeartbeats 4000000 in
set_option maxRecDepth 100000 in
theorem zl_X5_readEither_L14 {p : Program} {l : Launch} {e : Env} {R : Room} {s : State} {m : MethodId} {args : Array Value} {below : List Frame} {meth : Method} {c : Code} {D : va_G} {cy : Nat → ClassId} {T0 tB tE : Nat} {A : Nat → Prop} {a : Nat → Nat} {rw : Nat → Option Nat} (hrw : ∀ i, i < 6 → rw i = some (a (12 + 2 * i))) {d : Nat} {sg : KS → Int32 → (Int32 → KS → Prop) → Prop} (hsg : ∀ (S : KS) (q0 : Int32) (post : Int32 → KS → Prop), sg S q0 post → Ct l D cy T0 tB tE yX5_readClaim cX5_readClaim 4 (some .boolean) (4 + 3 * d) (88 + 69 * d) 0 0 (kw cy a rw S) [.ref (a 26), .int q0] (QI D (U := KS) post (kw cy a rw))) {post : Int32 → KS → Prop} {k128 : KS → Int32 → Prop} (b : Bz p R s m args meth c D cy T0 tB tE A 5 cX5_readEither RX5 (some .boolean) "readEither" (4 + 3 * d + 1) (88 + 69 * d + 23) 0 0) (hk128 : ∀ (S : KS) (x2 : Int32), k128 S x2 → Z p l e R s m args below meth c D A 5 (MQ below (QI D (U := KS) post (kw cy a rw) A) args s 0 0 A) 0 0 (kw cy a rw S) [(0, .ref (a 26)), (2, .int x2)] 128 []) : ∀ (n : Nat) (S : KS) (x1 : Int32) (x2 : Int32) (x3 : Int32), lpn (w_X5_readEither_F14 cy tE sg post k128) (fun _ _ _ _ => False) n S x1 x2 x3 → Z p l e R s m args below meth c D A 5 (MQ below (QI D (U := KS) post (kw cy a rw) A) args s 0 0 A) 0 0 (kw cy a rw S) [(0, .ref (a 26)), (1, .int x1), (2, .int x2), (3, .int x3)] 14 [] := by
  intro n
  induction n with
  | zero => intro _ _ _ _ h; exact h.elim
  | succ n ih => intro S x1 x2 x3 h; exact z_X5_readEither_F14 hrw hsg b hk128 ih S x1 x2 x3 h

def w_X5_readEither_B139 (cy : Nat → ClassId) (tE : Nat) (sg : KS → Int32 → (Int32 → KS → Prop) → Prop) (post : Int32 → KS → Prop) (S : KS)  : Prop :=
  post 1 S

set_option maxHeartbeats 4000000 in
set_option maxRecDepth 100000 in
theorem z_X5_readEither_B139 {p : Program} {l : Launch} {e : Env} {R : Room} {s : State} {m : MethodId} {args : Array Value} {below : List Frame} {meth : Method} {c : Code} {D : va_G} {cy : Nat → ClassId} {T0 tB tE : Nat} {A : Nat → Prop} {a : Nat → Nat} {rw : Nat → Option Nat} (hrw : ∀ i, i < 6 → rw i = some (a (12 + 2 * i))) {d : Nat} {sg : KS → Int32 → (Int32 → KS → Prop) → Prop} (hsg : ∀ (S : KS) (q0 : Int32) (post : Int32 → KS → Prop), sg S q0 post → Ct l D cy T0 tB tE yX5_readClaim cX5_readClaim 4 (some .boolean) (4 + 3 * d) (88 + 69 * d) 0 0 (kw cy a rw S) [.ref (a 26), .int q0] (QI D (U := KS) post (kw cy a rw))) {post : Int32 → KS → Prop} (b : Bz p R s m args meth c D cy T0 tB tE A 5 cX5_readEither RX5 (some .boolean) "readEither" (4 + 3 * d + 1) (88 + 69 * d + 23) 0 0) (S : KS)  (h : w_X5_readEither_B139 cy tE sg post S ) : Z p l e R s m args below meth c D A 5 (MQ below (QI D (U := KS) post (kw cy a rw) A) args s 0 0 A) 0 0 (kw cy a rw S) [] 139 [] := by
  unfold w_X5_readEither_B139 at h
  refine z_iconst (v := 1) b dX5_readEither_139 (by decide) ?_
  exact z_zret (u := S) b rfl (by decide) dX5_readEither_140 h rfl (by decide) (by decide)

def w_X5_readEither_B128 (cy : Nat → ClassId) (tE : Nat) (sg : KS → Int32 → (Int32 → KS → Prop) → Prop) (post : Int32 → KS → Prop) (S : KS) (x2 : Int32) : Prop :=
  ((x2.toInt = 0 → w_X5_readEither_B139 cy tE sg post S) ∧ (x2.toInt ≠ 0 → w_X5_emit cy tE S 15 0 (fun S16 => w_X5_readEither_B139 cy tE sg post S16)))

set_option maxHeartbeats 4000000 in
set_option maxRecDepth 100000 in
theorem z_X5_readEither_B128 {p : Program} {l : Launch} {e : Env} {R : Room} {s : State} {m : MethodId} {args : Array Value} {below : List Frame} {meth : Method} {c : Code} {D : va_G} {cy : Nat → ClassId} {T0 tB tE : Nat} {A : Nat → Prop} {a : Nat → Nat} {rw : Nat → Option Nat} (hrw : ∀ i, i < 6 → rw i = some (a (12 + 2 * i))) {d : Nat} {sg : KS → Int32 → (Int32 → KS → Prop) → Prop} (hsg : ∀ (S : KS) (q0 : Int32) (post : Int32 → KS → Prop), sg S q0 post → Ct l D cy T0 tB tE yX5_readClaim cX5_readClaim 4 (some .boolean) (4 + 3 * d) (88 + 69 * d) 0 0 (kw cy a rw S) [.ref (a 26), .int q0] (QI D (U := KS) post (kw cy a rw))) {post : Int32 → KS → Prop} (b : Bz p R s m args meth c D cy T0 tB tE A 5 cX5_readEither RX5 (some .boolean) "readEither" (4 + 3 * d + 1) (88 + 69 * d + 23) 0 0) (S : KS) (x2 : Int32) (h : w_X5_readEither_B128 cy tE sg post S x2) : Z p l e R s m args below meth c D A 5 (MQ below (QI D (U := KS) post (kw cy a rw) A) args s 0 0 A) 0 0 (kw cy a rw S) [(0, .ref (a 26)), (2, .int x2)] 128 [] := by
  unfold w_X5_readEither_B128 at h
  refine z_iload_n b dX5_readEither_128 rfl rfl ?_
  refine y_if_eq (tgt := 139) (xl := x2.toInt) b rfl dX5_readEither_129 (by decide) (fun c1 => ?_) (fun c1 => ?_)
  · replace h := h.1 c1
    refine z_lv0 (lv' := []) [] rfl ?_
    exact z_X5_readEither_B139 hrw hsg b _ h
  · replace h := h.2 c1
    refine z_aload_n b dX5_readEither_132 rfl rfl ?_
    refine z_bipush (v := 15) b dX5_readEither_133 (by decide) ?_
    refine z_iconst (v := 0) b dX5_readEither_135 (by decide) ?_
    refine z_callv b (z_runV (q0 := 26) (As := [.int 15, .int 0]) (st := []) b (k_X5_emit hrw S 15 0 _ h) cf_X5_emit (kw_26 cy a rw S) rfl wm_X5_147 wi_X5_emit ws_X5_emit dX5_readEither_136 rfl (Nat.le_of_ble_eq_true rfl) ⟨by omega, by omega, Nat.le_of_ble_eq_true rfl, Nat.le_of_ble_eq_true rfl⟩) (fun S16 h => ?_)
    refine z_lv0 (lv' := []) [] rfl ?_
    exact z_X5_readEither_B139 hrw hsg b _ h

def w_X5_readEither_R (cy : Nat → ClassId) (tE : Nat) (sg : KS → Int32 → (Int32 → KS → Prop) → Prop) (S : KS) (p0 : Int32) (post : Int32 → KS → Prop) : Prop :=
  sg S p0 (fun r1 S2 => ((r1.toInt ≠ 0 → ∃ n, lpn (w_X5_readEither_F14 cy tE sg post (w_X5_readEither_B128 cy tE sg post)) (fun _ _ _ _ => False) n S2 p0 0 0) ∧ (r1.toInt = 0 → post 0 S2)))

set_option maxHeartbeats 4000000 in
set_option maxRecDepth 100000 in
theorem k_X5_readEither_R {l : Launch} {D : va_G} {cy : Nat → ClassId} {T0 tB tE : Nat} {a : Nat → Nat} {rw : Nat → Option Nat} (hrw : ∀ i, i < 6 → rw i = some (a (12 + 2 * i))) {d : Nat} {sg : KS → Int32 → (Int32 → KS → Prop) → Prop} (hsg : ∀ (S : KS) (q0 : Int32) (post : Int32 → KS → Prop), sg S q0 post → Ct l D cy T0 tB tE yX5_readClaim cX5_readClaim 4 (some .boolean) (4 + 3 * d) (88 + 69 * d) 0 0 (kw cy a rw S) [.ref (a 26), .int q0] (QI D (U := KS) post (kw cy a rw))) (S : KS) (p0 : Int32) (post : Int32 → KS → Prop) (h : w_X5_readEither_R cy tE sg S p0 post) : Ct l D cy T0 tB tE yX5_readEither cX5_readEither 5 (some .boolean) (4 + 3 * d + 1) (88 + 69 * d + 23) 0 0 (kw cy a rw S) [.ref (a 26), .int p0] (QI D (U := KS) post (kw cy a rw)) := by
  refine Ct.ofZ RX5 "readEither" [(0, .ref (a 26)), (1, .int p0)] rfl rfl rfl rfl (Nat.le_of_ble_eq_true rfl) ?_
  intro p e R s m args below meth c A b
  unfold w_X5_readEither_R at h
  refine z_aload_n b dX5_readEither_0 rfl rfl ?_
  refine z_iload_n b dX5_readEither_1 rfl rfl ?_
  refine z_calli b (z_runV (q0 := 26) (As := [.int p0]) (st := []) b (hsg S p0 _ h) cf_X5_readClaim (kw_26 cy a rw S) rfl wm_X5_158 wi_X5_readClaim ws_X5_readClaim dX5_readEither_2 rfl (Nat.le_of_ble_eq_true rfl) ⟨by omega, by omega, Nat.le_of_ble_eq_true rfl, Nat.le_of_ble_eq_true rfl⟩) (fun r1 S2 h => ?_)
  refine y_if_ne (tgt := 10) (xl := r1.toInt) b rfl dX5_readEither_5 (by decide) (fun c1 => ?_) (fun c1 => ?_)
  · replace h := h.1 c1
    refine z_iconst (v := 0) b dX5_readEither_10 (by decide) ?_
    refine z_istore_n (lv' := [(2, .int 0), (0, .ref (a 26)), (1, .int p0)]) b dX5_readEither_11 rfl (by decide) rfl ?_
    refine z_iconst (v := 0) b dX5_readEither_12 (by decide) ?_
    refine z_istore_n (lv' := [(3, .int 0), (2, .int 0), (0, .ref (a 26)), (1, .int p0)]) b dX5_readEither_13 rfl (by decide) rfl ?_
    refine z_lv0 (lv' := [(0, .ref (a 26)), (1, .int p0), (2, .int 0), (3, .int 0)]) [2, 3, 1, 0] rfl ?_
    obtain ⟨n, h⟩ := h
    exact zl_X5_readEither_L14 hrw hsg b (fun S x2 h => z_X5_readEither_B128 hrw hsg b _ _ h) n _ _ _ _ h
  · replace h := h.2 c1
    refine z_iconst (v := 0) b dX5_readEither_8 (by decide) ?_
    exact z_zret (u := S2) b rfl (by decide) dX5_readEither_9 h rfl (by decide) (by decide)

def w_X5_readOpened_R (cy : Nat → ClassId) (tE : Nat) (sg : KS → Int32 → (Int32 → KS → Prop) → Prop) (S : KS) (p0 : Int32) (p1 : Int32) (post : Int32 → KS → Prop) : Prop :=
  ((p0.toInt ≠ 17 → w_X5_readEither_R cy tE sg (ksi S 15 ((fi S.1 15) + 1)) p1 (fun r1 S2 => ((r1.toInt ≠ 0 → w_X5_kind cy tE S2 (fun r3 S4 => ((r3.toInt = 28 → post 1 (ksi S4 15 ((fi S4.1 15) + 1))) ∧ (r3.toInt ≠ 28 → w_X5_refuse cy tE S4 1 (fun r5 S6 => (r5 = 0 ∨ r5 = 1) ∧ post r5 S6))))) ∧ (r1.toInt = 0 → post 0 S2)))) ∧ (p0.toInt = 17 → sg (ksi S 15 ((fi S.1 15) + 1)) p1 (fun r8 S9 => ((r8.toInt ≠ 0 → w_X5_emit cy tE S9 17 0 (fun S11 => post 1 S11)) ∧ (r8.toInt = 0 → post 0 S9)))))

set_option maxHeartbeats 4000000 in
set_option maxRecDepth 100000 in
theorem k_X5_readOpened_R {l : Launch} {D : va_G} {cy : Nat → ClassId} {T0 tB tE : Nat} {a : Nat → Nat} {rw : Nat → Option Nat} (hrw : ∀ i, i < 6 → rw i = some (a (12 + 2 * i))) {d : Nat} {sg : KS → Int32 → (Int32 → KS → Prop) → Prop} (hsg : ∀ (S : KS) (q0 : Int32) (post : Int32 → KS → Prop), sg S q0 post → Ct l D cy T0 tB tE yX5_readClaim cX5_readClaim 4 (some .boolean) (4 + 3 * d) (88 + 69 * d) 0 0 (kw cy a rw S) [.ref (a 26), .int q0] (QI D (U := KS) post (kw cy a rw))) (S : KS) (p0 : Int32) (p1 : Int32) (post : Int32 → KS → Prop) (h : w_X5_readOpened_R cy tE sg S p0 p1 post) : Ct l D cy T0 tB tE yX5_readOpened cX5_readOpened 3 (some .boolean) (4 + 3 * d + 2) (88 + 69 * d + 47) 0 0 (kw cy a rw S) [.ref (a 26), .int p0, .int p1] (QI D (U := KS) post (kw cy a rw)) := by
  refine Ct.ofZ RX5 "readOpened" [(0, .ref (a 26)), (1, .int p0), (2, .int p1)] rfl rfl rfl rfl (Nat.le_of_ble_eq_true rfl) ?_
  intro p e R s m args below meth c A b
  unfold w_X5_readOpened_R at h
  refine z_aload_n b dX5_readOpened_0 rfl rfl ?_
  refine z_dup b dX5_readOpened_1 rfl ?_
  refine z_get (q0 := 26) (k9 := 1) (v := .int (fi S.1 15)) b (kw_26 cy a rw S) rfl in_X5 (by decide) wf_X5_18 rfl dX5_readOpened_2 ?_
  refine z_iconst (v := 1) b dX5_readOpened_5 (by decide) ?_
  refine z_iadd b dX5_readOpened_6 rfl ?_
  refine z_put (q0 := 26) (k9 := 1) tyX5 b (kw_26 cy a rw S) rfl in_X5 tyX5_ok nmX5 (by decide) wf_X5_18 rfl rfl rfl rfl (Nat.le_of_ble_eq_true rfl) dX5_readOpened_7 (kwp_26_1 cy a rw S ((fi S.1 15) + 1)) ?_
  refine z_iload_n b dX5_readOpened_10 rfl rfl ?_
  refine z_bipush (v := 17) b dX5_readOpened_11 (by decide) ?_
  refine y_icmp_ne (tgt := 35) (xl := p0.toInt) (yl := 17) b rfl (by decide) dX5_readOpened_13 (by decide) (fun c1 => ?_) (fun c1 => ?_)
  · replace h := h.1 c1
    refine z_aload_n b dX5_readOpened_35 rfl rfl ?_
    refine z_iload_n b dX5_readOpened_36 rfl rfl ?_
    refine z_calli b (z_runV (q0 := 26) (As := [.int p1]) (st := []) b (k_X5_readEither_R hrw hsg (ksi S 15 ((fi S.1 15) + 1)) p1 _ h) cf_X5_readEither (kw_26 cy a rw (ksi S 15 ((fi S.1 15) + 1))) rfl wm_X5_112 wi_X5_readEither ws_X5_readEither dX5_readOpened_37 rfl (Nat.le_of_ble_eq_true rfl) ⟨by omega, by omega, Nat.le_of_ble_eq_true rfl, Nat.le_of_ble_eq_true rfl⟩) (fun r1 S2 h => ?_)
    refine y_if_ne (tgt := 45) (xl := r1.toInt) b rfl dX5_readOpened_40 (by decide) (fun c1 => ?_) (fun c1 => ?_)
    · replace h := h.1 c1
      refine z_aload_n b dX5_readOpened_45 rfl rfl ?_
      refine z_calli b (z_runV (q0 := 26) (As := []) (st := []) b (k_X5_kind hrw S2 _ h) cf_X5_kind (kw_26 cy a rw S2) rfl wm_X5_66 wi_X5_kind ws_X5_kind dX5_readOpened_46 rfl (Nat.le_of_ble_eq_true rfl) ⟨by omega, by omega, Nat.le_of_ble_eq_true rfl, Nat.le_of_ble_eq_true rfl⟩) (fun r3 S4 h => ?_)
      refine z_bipush (v := 28) b dX5_readOpened_49 (by decide) ?_
      refine y_icmp_eq (tgt := 60) (xl := r3.toInt) (yl := 28) b rfl (by decide) dX5_readOpened_51 (by decide) (fun c1 => ?_) (fun c1 => ?_)
      · replace h := h.1 c1
        refine z_aload_n b dX5_readOpened_60 rfl rfl ?_
        refine z_dup b dX5_readOpened_61 rfl ?_
        refine z_get (q0 := 26) (k9 := 1) (v := .int (fi S4.1 15)) b (kw_26 cy a rw S4) rfl in_X5 (by decide) wf_X5_18 rfl dX5_readOpened_62 ?_
        refine z_iconst (v := 1) b dX5_readOpened_65 (by decide) ?_
        refine z_iadd b dX5_readOpened_66 rfl ?_
        refine z_put (q0 := 26) (k9 := 1) tyX5 b (kw_26 cy a rw S4) rfl in_X5 tyX5_ok nmX5 (by decide) wf_X5_18 rfl rfl rfl rfl (Nat.le_of_ble_eq_true rfl) dX5_readOpened_67 (kwp_26_1 cy a rw S4 ((fi S4.1 15) + 1)) ?_
        refine z_iconst (v := 1) b dX5_readOpened_70 (by decide) ?_
        exact z_zret (u := (ksi S4 15 ((fi S4.1 15) + 1))) b rfl (by decide) dX5_readOpened_71 h rfl (by decide) (by decide)
      · replace h := h.2 c1
        refine z_aload_n b dX5_readOpened_54 rfl rfl ?_
        refine z_iconst (v := 1) b dX5_readOpened_55 (by decide) ?_
        refine z_calli b (z_runV (q0 := 26) (As := [.int 1]) (st := []) b (k_X5_refuse hrw S4 1 _ h) cf_X5_refuse (kw_26 cy a rw S4) rfl wm_X5_70 wi_X5_refuse ws_X5_refuse dX5_readOpened_56 rfl (Nat.le_of_ble_eq_true rfl) ⟨by omega, by omega, Nat.le_of_ble_eq_true rfl, Nat.le_of_ble_eq_true rfl⟩) (fun r5 S6 h => ?_)
        obtain ⟨g7, h⟩ := h
        exact z_zret (u := S6) b rfl (z_bool g7) dX5_readOpened_59 h rfl (by decide) (by decide)
    · replace h := h.2 c1
      refine z_iconst (v := 0) b dX5_readOpened_43 (by decide) ?_
      exact z_zret (u := S2) b rfl (by decide) dX5_readOpened_44 h rfl (by decide) (by decide)
  · replace h := h.2 c1
    refine z_aload_n b dX5_readOpened_16 rfl rfl ?_
    refine z_iload_n b dX5_readOpened_17 rfl rfl ?_
    refine z_calli b (z_runV (q0 := 26) (As := [.int p1]) (st := []) b (hsg (ksi S 15 ((fi S.1 15) + 1)) p1 _ h) cf_X5_readClaim (kw_26 cy a rw (ksi S 15 ((fi S.1 15) + 1))) rfl wm_X5_158 wi_X5_readClaim ws_X5_readClaim dX5_readOpened_18 rfl (Nat.le_of_ble_eq_true rfl) ⟨by omega, by omega, Nat.le_of_ble_eq_true rfl, Nat.le_of_ble_eq_true rfl⟩) (fun r8 S9 h => ?_)
    refine y_if_ne (tgt := 26) (xl := r8.toInt) b rfl dX5_readOpened_21 (by decide) (fun c1 => ?_) (fun c1 => ?_)
    · replace h := h.1 c1
      refine z_aload_n b dX5_readOpened_26 rfl rfl ?_
      refine z_bipush (v := 17) b dX5_readOpened_27 (by decide) ?_
      refine z_iconst (v := 0) b dX5_readOpened_29 (by decide) ?_
      refine z_callv b (z_runV (q0 := 26) (As := [.int 17, .int 0]) (st := []) b (k_X5_emit hrw S9 17 0 _ h) cf_X5_emit (kw_26 cy a rw S9) rfl wm_X5_147 wi_X5_emit ws_X5_emit dX5_readOpened_30 rfl (Nat.le_of_ble_eq_true rfl) ⟨by omega, by omega, Nat.le_of_ble_eq_true rfl, Nat.le_of_ble_eq_true rfl⟩) (fun S11 h => ?_)
      refine z_iconst (v := 1) b dX5_readOpened_33 (by decide) ?_
      exact z_zret (u := S11) b rfl (by decide) dX5_readOpened_34 h rfl (by decide) (by decide)
    · replace h := h.2 c1
      refine z_iconst (v := 0) b dX5_readOpened_24 (by decide) ?_
      exact z_zret (u := S9) b rfl (by decide) dX5_readOpened_25 h rfl (by decide) (by decide)

def w_X5_value_B30 (cy : Nat → ClassId) (tE : Nat) (post : Int64 → KS → Prop) (S : KS) (y0 : Int64) : Prop :=
  post y0 S

set_option maxHeartbeats 4000000 in
set_option maxRecDepth 100000 in
theorem z_X5_value_B30 {p : Program} {l : Launch} {e : Env} {R : Room} {s : State} {m : MethodId} {args : Array Value} {below : List Frame} {meth : Method} {c : Code} {D : va_G} {cy : Nat → ClassId} {T0 tB tE : Nat} {A : Nat → Prop} {a : Nat → Nat} {rw : Nat → Option Nat} (hrw : ∀ i, i < 6 → rw i = some (a (12 + 2 * i))) {post : Int64 → KS → Prop} (b : Bz p R s m args meth c D cy T0 tB tE A 1 cX5_value RX5 (some .long) "value" 0 0 0 0) (S : KS) (y0 : Int64) (h : w_X5_value_B30 cy tE post S y0) : Z p l e R s m args below meth c D A 1 (MQ below (QL D (U := KS) post (kw cy a rw) A) args s 0 0 A) 0 0 (kw cy a rw S) [] 30 [.long y0] := by
  unfold w_X5_value_B30 at h
  exact z_lret (u := S) b rfl dX5_value_30 h rfl (by decide) (by decide)

def w_X5_value (cy : Nat → ClassId) (tE : Nat) (S : KS)  (post : Int64 → KS → Prop) : Prop :=
  (((fi S.1 21).toInt ≤ (fi S.1 15).toInt → w_X5_value_B30 cy tE post S 0) ∧ ((fi S.1 15).toInt < (fi S.1 21).toInt → (0 ≤ (fi S.1 15).toInt ∧ (fi S.1 15).toInt < 701) ∧ w_X5_value_B30 cy tE post S ((al S.1 1) (fi S.1 15).toNatClampNeg)))

set_option maxHeartbeats 4000000 in
set_option maxRecDepth 100000 in
theorem k_X5_value {l : Launch} {D : va_G} {cy : Nat → ClassId} {T0 tB tE : Nat} {a : Nat → Nat} {rw : Nat → Option Nat} (hrw : ∀ i, i < 6 → rw i = some (a (12 + 2 * i))) (S : KS)  (post : Int64 → KS → Prop) (h : w_X5_value cy tE S  post) : Ct l D cy T0 tB tE yX5_value cX5_value 1 (some .long) 0 0 0 0 (kw cy a rw S) [.ref (a 26)] (QL D (U := KS) post (kw cy a rw)) := by
  refine Ct.ofZ RX5 "value" [(0, .ref (a 26))] rfl rfl rfl rfl (Nat.le_of_ble_eq_true rfl) ?_
  intro p e R s m args below meth c A b
  unfold w_X5_value at h
  refine z_aload_n b dX5_value_0 rfl rfl ?_
  refine z_get (q0 := 26) (k9 := 1) (v := .int (fi S.1 15)) b (kw_26 cy a rw S) rfl in_X5 (by decide) wf_X5_18 rfl dX5_value_1 ?_
  refine z_aload_n b dX5_value_4 rfl rfl ?_
  refine z_get (q0 := 26) (k9 := 0) (v := .ref (a 27)) b (kw_26 cy a rw S) rfl in_X5 (by decide) wf_X5_12 rfl dX5_value_5 ?_
  refine z_get (q0 := 27) (k9 := 4) (v := .int (fi S.1 21)) b (kw_27 cy a rw S) rfl in_X10 (by decide) wf_X5_56 rfl dX5_value_8 ?_
  refine y_icmp_ge (tgt := 29) (xl := (fi S.1 15).toInt) (yl := (fi S.1 21).toInt) b rfl rfl dX5_value_11 (by decide) (fun c1 => ?_) (fun c1 => ?_)
  · replace h := h.1 c1
    refine z_lconst (v := 0) b dX5_value_29 (by decide) ?_
    refine z_lv0 (lv' := []) [] rfl ?_
    exact z_X5_value_B30 hrw b _ _ h
  · replace h := h.2 c1
    refine z_aload_n b dX5_value_14 rfl rfl ?_
    refine z_get (q0 := 26) (k9 := 0) (v := .ref (a 27)) b (kw_26 cy a rw S) rfl in_X5 (by decide) wf_X5_12 rfl dX5_value_15 ?_
    refine z_get (q0 := 27) (k9 := 3) (v := .ref (a 31)) b (kw_27 cy a rw S) rfl in_X10 (by decide) wf_X5_62 rfl dX5_value_18 ?_
    refine z_aload_n b dX5_value_21 rfl rfl ?_
    refine z_get (q0 := 26) (k9 := 1) (v := .int (fi S.1 15)) b (kw_26 cy a rw S) rfl in_X5 (by decide) wf_X5_18 rfl dX5_value_22 ?_
    obtain ⟨g1, h⟩ := h
    refine y_lald (q0 := 31) (j := (fi S.1 15).toNatClampNeg) (v := ((al S.1 1) (fi S.1 15).toNatClampNeg)) b (kw_31 cy a rw S) (zx_r g1.1 g1.2) rfl dX5_value_25 ?_
    refine z_goto (tgt := 30) b dX5_value_26 (by decide) ?_
    refine z_lv0 (lv' := []) [] rfl ?_
    exact z_X5_value_B30 hrw b _ _ h

def w_X5_readPersons_B83 (cy : Nat → ClassId) (tE : Nat) (post : Int32 → KS → Prop) (S : KS) (x2 : Int32) (y0 : Int32) (y1 : Int32) : Prop :=
  ((y1.toInt = y0.toInt → post x2 (ksi S 15 ((fi S.1 15) + 1))) ∧ (y1.toInt ≠ y0.toInt → w_X5_refuse cy tE S 1 (fun r6 S7 => post (-1) S7)))

set_option maxHeartbeats 4000000 in
set_option maxRecDepth 100000 in
theorem z_X5_readPersons_B83 {p : Program} {l : Launch} {e : Env} {R : Room} {s : State} {m : MethodId} {args : Array Value} {below : List Frame} {meth : Method} {c : Code} {D : va_G} {cy : Nat → ClassId} {T0 tB tE : Nat} {A : Nat → Prop} {a : Nat → Nat} {rw : Nat → Option Nat} (hrw : ∀ i, i < 6 → rw i = some (a (12 + 2 * i))) {post : Int32 → KS → Prop} (b : Bz p R s m args meth c D cy T0 tB tE A 3 cX5_readPersons RX5 (some .int) "readPersons" 1 21 0 0) (S : KS) (x2 : Int32) (y0 : Int32) (y1 : Int32) (h : w_X5_readPersons_B83 cy tE post S x2 y0 y1) : Z p l e R s m args below meth c D A 3 (MQ below (QI D (U := KS) post (kw cy a rw) A) args s 0 0 A) 0 0 (kw cy a rw S) [(0, .ref (a 26)), (2, .int x2)] 83 [.int y0, .int y1] := by
  unfold w_X5_readPersons_B83 at h
  refine y_icmp_eq (tgt := 94) (xl := y1.toInt) (yl := y0.toInt) b rfl rfl dX5_readPersons_83 (by decide) (fun c1 => ?_) (fun c1 => ?_)
  · replace h := h.1 c1
    refine z_aload_n b dX5_readPersons_94 rfl rfl ?_
    refine z_dup b dX5_readPersons_95 rfl ?_
    refine z_get (q0 := 26) (k9 := 1) (v := .int (fi S.1 15)) b (kw_26 cy a rw S) rfl in_X5 (by decide) wf_X5_18 rfl dX5_readPersons_96 ?_
    refine z_iconst (v := 1) b dX5_readPersons_99 (by decide) ?_
    refine z_iadd b dX5_readPersons_100 rfl ?_
    refine z_put (q0 := 26) (k9 := 1) tyX5 b (kw_26 cy a rw S) rfl in_X5 tyX5_ok nmX5 (by decide) wf_X5_18 rfl rfl rfl rfl (Nat.le_of_ble_eq_true rfl) dX5_readPersons_101 (kwp_26_1 cy a rw S ((fi S.1 15) + 1)) ?_
    refine z_iload_n b dX5_readPersons_104 rfl rfl ?_
    exact z_iret (u := (ksi S 15 ((fi S.1 15) + 1))) b rfl dX5_readPersons_105 h rfl (by decide) (by decide)
  · replace h := h.2 c1
    refine z_aload_n b dX5_readPersons_86 rfl rfl ?_
    refine z_iconst (v := 1) b dX5_readPersons_87 (by decide) ?_
    refine z_calli b (z_runV (q0 := 26) (As := [.int 1]) (st := []) b (k_X5_refuse hrw S 1 _ h) cf_X5_refuse (kw_26 cy a rw S) rfl wm_X5_70 wi_X5_refuse ws_X5_refuse dX5_readPersons_88 rfl (Nat.le_of_ble_eq_true rfl) ⟨by decide, by decide, Nat.le_of_ble_eq_true rfl, Nat.le_of_ble_eq_true rfl⟩) (fun r6 S7 h => ?_)
    refine z_pop b dX5_readPersons_91 rfl ?_
    refine z_iconst (v := (-1)) b dX5_readPersons_92 (by decide) ?_
    exact z_iret (u := S7) b rfl dX5_readPersons_93 h rfl (by decide) (by decide)

def w_X5_readPersons_B58 (cy : Nat → ClassId) (tE : Nat) (post : Int32 → KS → Prop) (S : KS) (x1 : Int32) (x2 : Int32) (y0 : Int32) : Prop :=
  (y0 = 0 ∨ y0 = 1) ∧ ((x1.toInt ≠ 1 → w_X5_kind cy tE (ksi S 17 y0) (fun r4 S5 => ((x2.toInt ≠ 0 → w_X5_readPersons_B83 cy tE post S5 x2 21 r4) ∧ (x2.toInt = 0 → w_X5_readPersons_B83 cy tE post S5 x2 22 r4)))) ∧ (x1.toInt = 1 → post x2 (ksi S 17 y0)))

set_option maxHeartbeats 4000000 in
set_option maxRecDepth 100000 in
theorem z_X5_readPersons_B58 {p : Program} {l : Launch} {e : Env} {R : Room} {s : State} {m : MethodId} {args : Array Value} {below : List Frame} {meth : Method} {c : Code} {D : va_G} {cy : Nat → ClassId} {T0 tB tE : Nat} {A : Nat → Prop} {a : Nat → Nat} {rw : Nat → Option Nat} (hrw : ∀ i, i < 6 → rw i = some (a (12 + 2 * i))) {post : Int32 → KS → Prop} (b : Bz p R s m args meth c D cy T0 tB tE A 3 cX5_readPersons RX5 (some .int) "readPersons" 1 21 0 0) (S : KS) (x1 : Int32) (x2 : Int32) (y0 : Int32) (h : w_X5_readPersons_B58 cy tE post S x1 x2 y0) : Z p l e R s m args below meth c D A 3 (MQ below (QI D (U := KS) post (kw cy a rw) A) args s 0 0 A) 0 0 (kw cy a rw S) [(0, .ref (a 26)), (1, .int x1), (2, .int x2)] 58 [.int y0, .ref (a 26)] := by
  unfold w_X5_readPersons_B58 at h
  obtain ⟨g3, h⟩ := h
  refine z_put (q0 := 26) (k9 := 4) tyX5 b (kw_26 cy a rw S) rfl in_X5 tyX5_ok nmX5 (by decide) wf_X5_29 rfl rfl (z_bool g3) (z_boolf g3) (Nat.le_of_ble_eq_true rfl) dX5_readPersons_58 (kwp_26_4 cy a rw S y0) ?_
  refine z_iload_n b dX5_readPersons_61 rfl rfl ?_
  refine z_iconst (v := 1) b dX5_readPersons_62 (by decide) ?_
  refine y_icmp_ne (tgt := 68) (xl := x1.toInt) (yl := 1) b rfl (by decide) dX5_readPersons_63 (by decide) (fun c1 => ?_) (fun c1 => ?_)
  · replace h := h.1 c1
    refine z_aload_n b dX5_readPersons_68 rfl rfl ?_
    refine z_calli b (z_runV (q0 := 26) (As := []) (st := []) b (k_X5_kind hrw (ksi S 17 y0) _ h) cf_X5_kind (kw_26 cy a rw (ksi S 17 y0)) rfl wm_X5_66 wi_X5_kind ws_X5_kind dX5_readPersons_69 rfl (Nat.le_of_ble_eq_true rfl) ⟨by decide, by decide, Nat.le_of_ble_eq_true rfl, Nat.le_of_ble_eq_true rfl⟩) (fun r4 S5 h => ?_)
    refine z_iload_n b dX5_readPersons_72 rfl rfl ?_
    refine y_if_ne (tgt := 81) (xl := x2.toInt) b rfl dX5_readPersons_73 (by decide) (fun c1 => ?_) (fun c1 => ?_)
    · replace h := h.1 c1
      refine z_bipush (v := 21) b dX5_readPersons_81 (by decide) ?_
      refine z_lv0 (lv' := [(0, .ref (a 26)), (2, .int x2)]) [0, 2] rfl ?_
      exact z_X5_readPersons_B83 hrw b _ _ _ _ h
    · replace h := h.2 c1
      refine z_bipush (v := 22) b dX5_readPersons_76 (by decide) ?_
      refine z_goto (tgt := 83) b dX5_readPersons_78 (by decide) ?_
      refine z_lv0 (lv' := [(0, .ref (a 26)), (2, .int x2)]) [0, 2] rfl ?_
      exact z_X5_readPersons_B83 hrw b _ _ _ _ h
  · replace h := h.2 c1
    refine z_iload_n b dX5_readPersons_66 rfl rfl ?_
    exact z_iret (u := (ksi S 17 y0)) b rfl dX5_readPersons_67 h rfl (by decide) (by decide)

def w_X5_readPersons_B53 (cy : Nat → ClassId) (tE : Nat) (post : Int32 → KS → Prop) (S : KS) (x1 : Int32) (x2 : Int32) : Prop :=
  w_X5_readPersons_B58 cy tE post S x1 x2 1

set_option maxHeartbeats 4000000 in
set_option maxRecDepth 100000 in
theorem z_X5_readPersons_B53 {p : Program} {l : Launch} {e : Env} {R : Room} {s : State} {m : MethodId} {args : Array Value} {below : List Frame} {meth : Method} {c : Code} {D : va_G} {cy : Nat → ClassId} {T0 tB tE : Nat} {A : Nat → Prop} {a : Nat → Nat} {rw : Nat → Option Nat} (hrw : ∀ i, i < 6 → rw i = some (a (12 + 2 * i))) {post : Int32 → KS → Prop} (b : Bz p R s m args meth c D cy T0 tB tE A 3 cX5_readPersons RX5 (some .int) "readPersons" 1 21 0 0) (S : KS) (x1 : Int32) (x2 : Int32) (h : w_X5_readPersons_B53 cy tE post S x1 x2) : Z p l e R s m args below meth c D A 3 (MQ below (QI D (U := KS) post (kw cy a rw) A) args s 0 0 A) 0 0 (kw cy a rw S) [(0, .ref (a 26)), (1, .int x1), (2, .int x2)] 53 [.ref (a 26)] := by
  unfold w_X5_readPersons_B53 at h
  refine z_iconst (v := 1) b dX5_readPersons_53 (by decide) ?_
  refine z_goto (tgt := 58) b dX5_readPersons_54 (by decide) ?_
  exact z_X5_readPersons_B58 hrw b _ _ _ _ h

def w_X5_readPersons_B25 (cy : Nat → ClassId) (tE : Nat) (post : Int32 → KS → Prop) (S : KS) (x1 : Int32) (x2 : Int32) : Prop :=
  (((fi S.1 17).toInt ≠ 0 → w_X5_readPersons_B53 cy tE post (ksi S 15 ((fi S.1 15) + 1)) x1 x2) ∧ ((fi S.1 17).toInt = 0 → ((x2.toInt = 1 → w_X5_readPersons_B53 cy tE post (ksi S 15 ((fi S.1 15) + 1)) x1 x2) ∧ (x2.toInt ≠ 1 → ((x1.toInt ≠ 2 → w_X5_readPersons_B58 cy tE post (ksi S 15 ((fi S.1 15) + 1)) x1 x2 0) ∧ (x1.toInt = 2 → w_X5_readPersons_B53 cy tE post (ksi S 15 ((fi S.1 15) + 1)) x1 x2))))))

set_option maxHeartbeats 4000000 in
set_option maxRecDepth 100000 in
theorem z_X5_readPersons_B25 {p : Program} {l : Launch} {e : Env} {R : Room} {s : State} {m : MethodId} {args : Array Value} {below : List Frame} {meth : Method} {c : Code} {D : va_G} {cy : Nat → ClassId} {T0 tB tE : Nat} {A : Nat → Prop} {a : Nat → Nat} {rw : Nat → Option Nat} (hrw : ∀ i, i < 6 → rw i = some (a (12 + 2 * i))) {post : Int32 → KS → Prop} (b : Bz p R s m args meth c D cy T0 tB tE A 3 cX5_readPersons RX5 (some .int) "readPersons" 1 21 0 0) (S : KS) (x1 : Int32) (x2 : Int32) (h : w_X5_readPersons_B25 cy tE post S x1 x2) : Z p l e R s m args below meth c D A 3 (MQ below (QI D (U := KS) post (kw cy a rw) A) args s 0 0 A) 0 0 (kw cy a rw S) [(0, .ref (a 26)), (1, .int x1), (2, .int x2)] 25 [] := by
  unfold w_X5_readPersons_B25 at h
  refine z_aload_n b dX5_readPersons_25 rfl rfl ?_
  refine z_dup b dX5_readPersons_26 rfl ?_
  refine z_get (q0 := 26) (k9 := 1) (v := .int (fi S.1 15)) b (kw_26 cy a rw S) rfl in_X5 (by decide) wf_X5_18 rfl dX5_readPersons_27 ?_
  refine z_iconst (v := 1) b dX5_readPersons_30 (by decide) ?_
  refine z_iadd b dX5_readPersons_31 rfl ?_
  refine z_put (q0 := 26) (k9 := 1) tyX5 b (kw_26 cy a rw S) rfl in_X5 tyX5_ok nmX5 (by decide) wf_X5_18 rfl rfl rfl rfl (Nat.le_of_ble_eq_true rfl) dX5_readPersons_32 (kwp_26_1 cy a rw S ((fi S.1 15) + 1)) ?_
  refine z_aload_n b dX5_readPersons_35 rfl rfl ?_
  refine z_aload_n b dX5_readPersons_36 rfl rfl ?_
  refine z_get (q0 := 26) (k9 := 4) (v := .int (fi S.1 17)) b (kw_26 cy a rw (ksi S 15 ((fi S.1 15) + 1))) rfl in_X5 (by decide) wf_X5_29 rfl dX5_readPersons_37 ?_
  refine y_if_ne (tgt := 53) (xl := (fi S.1 17).toInt) b rfl dX5_readPersons_40 (by decide) (fun c1 => ?_) (fun c1 => ?_)
  · replace h := h.1 c1
    exact z_X5_readPersons_B53 hrw b _ _ _ h
  · replace h := h.2 c1
    refine z_iload_n b dX5_readPersons_43 rfl rfl ?_
    refine z_iconst (v := 1) b dX5_readPersons_44 (by decide) ?_
    refine y_icmp_eq (tgt := 53) (xl := x2.toInt) (yl := 1) b rfl (by decide) dX5_readPersons_45 (by decide) (fun c1 => ?_) (fun c1 => ?_)
    · replace h := h.1 c1
      exact z_X5_readPersons_B53 hrw b _ _ _ h
    · replace h := h.2 c1
      refine z_iload_n b dX5_readPersons_48 rfl rfl ?_
      refine z_iconst (v := 2) b dX5_readPersons_49 (by decide) ?_
      refine y_icmp_ne (tgt := 57) (xl := x1.toInt) (yl := 2) b rfl (by decide) dX5_readPersons_50 (by decide) (fun c1 => ?_) (fun c1 => ?_)
      · replace h := h.1 c1
        refine z_iconst (v := 0) b dX5_readPersons_57 (by decide) ?_
        exact z_X5_readPersons_B58 hrw b _ _ _ _ h
      · replace h := h.2 c1
        exact z_X5_readPersons_B53 hrw b _ _ _ h

def w_X5_readPersons (cy : Nat → ClassId) (tE : Nat) (S : KS) (p0 : Int32) (post : Int32 → KS → Prop) : Prop :=
  w_X5_kind cy tE S (fun r1 S2 => (((r1 - 21).toInt = 0 → w_X5_readPersons_B25 cy tE post S2 p0 (r1 - 21)) ∧ ((r1 - 21).toInt ≠ 0 → (((r1 - 21).toInt = 1 → w_X5_readPersons_B25 cy tE post S2 p0 (r1 - 21)) ∧ ((r1 - 21).toInt ≠ 1 → w_X5_refuse cy tE S2 1 (fun r8 S9 => post (-1) S9))))))

set_option maxHeartbeats 4000000 in
set_option maxRecDepth 100000 in
theorem k_X5_readPersons {l : Launch} {D : va_G} {cy : Nat → ClassId} {T0 tB tE : Nat} {a : Nat → Nat} {rw : Nat → Option Nat} (hrw : ∀ i, i < 6 → rw i = some (a (12 + 2 * i))) (S : KS) (p0 : Int32) (post : Int32 → KS → Prop) (h : w_X5_readPersons cy tE S p0 post) : Ct l D cy T0 tB tE yX5_readPersons cX5_readPersons 3 (some .int) 1 21 0 0 (kw cy a rw S) [.ref (a 26), .int p0] (QI D (U := KS) post (kw cy a rw)) := by
  refine Ct.ofZ RX5 "readPersons" [(0, .ref (a 26)), (1, .int p0)] rfl rfl rfl rfl (Nat.le_of_ble_eq_true rfl) ?_
  intro p e R s m args below meth c A b
  unfold w_X5_readPersons at h
  refine z_aload_n b dX5_readPersons_0 rfl rfl ?_
  refine z_calli b (z_runV (q0 := 26) (As := []) (st := []) b (k_X5_kind hrw S _ h) cf_X5_kind (kw_26 cy a rw S) rfl wm_X5_66 wi_X5_kind ws_X5_kind dX5_readPersons_1 rfl (Nat.le_of_ble_eq_true rfl) ⟨by decide, by decide, Nat.le_of_ble_eq_true rfl, Nat.le_of_ble_eq_true rfl⟩) (fun r1 S2 h => ?_)
  refine z_bipush (v := 21) b dX5_readPersons_4 (by decide) ?_
  refine z_isub b dX5_readPersons_6 rfl ?_
  refine z_istore_n (lv' := [(2, .int (r1 - 21)), (0, .ref (a 26)), (1, .int p0)]) b dX5_readPersons_7 rfl (by decide) rfl ?_
  refine z_iload_n b dX5_readPersons_8 rfl rfl ?_
  refine y_if_eq (tgt := 25) (xl := (r1 - 21).toInt) b rfl dX5_readPersons_9 (by decide) (fun c1 => ?_) (fun c1 => ?_)
  · replace h := h.1 c1
    refine z_lv0 (lv' := [(0, .ref (a 26)), (1, .int p0), (2, .int (r1 - 21))]) [1, 2, 0] rfl ?_
    exact z_X5_readPersons_B25 hrw b _ _ _ h
  · replace h := h.2 c1
    refine z_iload_n b dX5_readPersons_12 rfl rfl ?_
    refine z_iconst (v := 1) b dX5_readPersons_13 (by decide) ?_
    refine y_icmp_eq (tgt := 25) (xl := (r1 - 21).toInt) (yl := 1) b rfl (by decide) dX5_readPersons_14 (by decide) (fun c1 => ?_) (fun c1 => ?_)
    · replace h := h.1 c1
      refine z_lv0 (lv' := [(0, .ref (a 26)), (1, .int p0), (2, .int (r1 - 21))]) [1, 2, 0] rfl ?_
      exact z_X5_readPersons_B25 hrw b _ _ _ h
    · replace h := h.2 c1
      refine z_aload_n b dX5_readPersons_17 rfl rfl ?_
      refine z_iconst (v := 1) b dX5_readPersons_18 (by decide) ?_
      refine z_calli b (z_runV (q0 := 26) (As := [.int 1]) (st := []) b (k_X5_refuse hrw S2 1 _ h) cf_X5_refuse (kw_26 cy a rw S2) rfl wm_X5_70 wi_X5_refuse ws_X5_refuse dX5_readPersons_19 rfl (Nat.le_of_ble_eq_true rfl) ⟨by decide, by decide, Nat.le_of_ble_eq_true rfl, Nat.le_of_ble_eq_true rfl⟩) (fun r8 S9 h => ?_)
      refine z_pop b dX5_readPersons_22 rfl ?_
      refine z_iconst (v := (-1)) b dX5_readPersons_23 (by decide) ?_
      exact z_iret (u := S9) b rfl dX5_readPersons_24 h rfl (by decide) (by decide)

def w_X5_readOperand_B202 (cy : Nat → ClassId) (tE : Nat) (post : Int32 → KS → Prop) (S : KS) (x1 : Int32) (x2 : Int32) (y0 : Int32) : Prop :=
  (y0 = 0 ∨ y0 = 1) ∧ w_X5_emit cy tE (ksi S 18 y0) x1 x2 (fun S7 => post 1 S7)

set_option maxHeartbeats 4000000 in
set_option maxRecDepth 100000 in
theorem z_X5_readOperand_B202 {p : Program} {l : Launch} {e : Env} {R : Room} {s : State} {m : MethodId} {args : Array Value} {below : List Frame} {meth : Method} {c : Code} {D : va_G} {cy : Nat → ClassId} {T0 tB tE : Nat} {A : Nat → Prop} {a : Nat → Nat} {rw : Nat → Option Nat} (hrw : ∀ i, i < 6 → rw i = some (a (12 + 2 * i))) {post : Int32 → KS → Prop} (b : Bz p R s m args meth c D cy T0 tB tE A 3 cX5_readOperand RX5 (some .boolean) "readOperand" 2 43 0 0) (S : KS) (x1 : Int32) (x2 : Int32) (y0 : Int32) (h : w_X5_readOperand_B202 cy tE post S x1 x2 y0) : Z p l e R s m args below meth c D A 3 (MQ below (QI D (U := KS) post (kw cy a rw) A) args s 0 0 A) 0 0 (kw cy a rw S) [(0, .ref (a 26)), (1, .int x1), (2, .int x2)] 202 [.int y0, .ref (a 26)] := by
  unfold w_X5_readOperand_B202 at h
  obtain ⟨g5, h⟩ := h
  refine z_put (q0 := 26) (k9 := 5) tyX5 b (kw_26 cy a rw S) rfl in_X5 tyX5_ok nmX5 (by decide) wf_X5_33 rfl rfl (z_bool g5) (z_boolf g5) (Nat.le_of_ble_eq_true rfl) dX5_readOperand_202 (kwp_26_5 cy a rw S y0) ?_
  refine z_aload_n b dX5_readOperand_205 rfl rfl ?_
  refine z_iload_n b dX5_readOperand_206 rfl rfl ?_
  refine z_iload_n b dX5_readOperand_207 rfl rfl ?_
  refine z_callv b (z_runV (q0 := 26) (As := [.int x1, .int x2]) (st := []) b (k_X5_emit hrw (ksi S 18 y0) x1 x2 _ h) cf_X5_emit (kw_26 cy a rw (ksi S 18 y0)) rfl wm_X5_147 wi_X5_emit ws_X5_emit dX5_readOperand_208 rfl (Nat.le_of_ble_eq_true rfl) ⟨by decide, by decide, Nat.le_of_ble_eq_true rfl, Nat.le_of_ble_eq_true rfl⟩) (fun S7 h => ?_)
  refine z_iconst (v := 1) b dX5_readOperand_211 (by decide) ?_
  exact z_zret (u := S7) b rfl (by decide) dX5_readOperand_212 h rfl (by decide) (by decide)

def w_X5_readOperand_B197 (cy : Nat → ClassId) (tE : Nat) (post : Int32 → KS → Prop) (S : KS) (x1 : Int32) (x2 : Int32) : Prop :=
  w_X5_readOperand_B202 cy tE post S x1 x2 1

set_option maxHeartbeats 4000000 in
set_option maxRecDepth 100000 in
theorem z_X5_readOperand_B197 {p : Program} {l : Launch} {e : Env} {R : Room} {s : State} {m : MethodId} {args : Array Value} {below : List Frame} {meth : Method} {c : Code} {D : va_G} {cy : Nat → ClassId} {T0 tB tE : Nat} {A : Nat → Prop} {a : Nat → Nat} {rw : Nat → Option Nat} (hrw : ∀ i, i < 6 → rw i = some (a (12 + 2 * i))) {post : Int32 → KS → Prop} (b : Bz p R s m args meth c D cy T0 tB tE A 3 cX5_readOperand RX5 (some .boolean) "readOperand" 2 43 0 0) (S : KS) (x1 : Int32) (x2 : Int32) (h : w_X5_readOperand_B197 cy tE post S x1 x2) : Z p l e R s m args below meth c D A 3 (MQ below (QI D (U := KS) post (kw cy a rw) A) args s 0 0 A) 0 0 (kw cy a rw S) [(0, .ref (a 26)), (1, .int x1), (2, .int x2)] 197 [.ref (a 26)] := by
  unfold w_X5_readOperand_B197 at h
  refine z_iconst (v := 1) b dX5_readOperand_197 (by decide) ?_
  refine z_goto (tgt := 202) b dX5_readOperand_198 (by decide) ?_
  exact z_X5_readOperand_B202 hrw b _ _ _ _ h

def w_X5_readOperand_B176 (cy : Nat → ClassId) (tE : Nat) (post : Int32 → KS → Prop) (S : KS) (x1 : Int32) (x2 : Int32) : Prop :=
  ((x2.toInt ≠ (-1) → (((fi S.1 18).toInt ≠ 0 → w_X5_readOperand_B197 cy tE post S x1 x2) ∧ ((fi S.1 18).toInt = 0 → ((x1.toInt ≠ 19 → w_X5_readOperand_B202 cy tE post S x1 x2 0) ∧ (x1.toInt = 19 → w_X5_readOperand_B197 cy tE post S x1 x2))))) ∧ (x2.toInt = (-1) → post 0 S))

set_option maxHeartbeats 4000000 in
set_option maxRecDepth 100000 in
theorem z_X5_readOperand_B176 {p : Program} {l : Launch} {e : Env} {R : Room} {s : State} {m : MethodId} {args : Array Value} {below : List Frame} {meth : Method} {c : Code} {D : va_G} {cy : Nat → ClassId} {T0 tB tE : Nat} {A : Nat → Prop} {a : Nat → Nat} {rw : Nat → Option Nat} (hrw : ∀ i, i < 6 → rw i = some (a (12 + 2 * i))) {post : Int32 → KS → Prop} (b : Bz p R s m args meth c D cy T0 tB tE A 3 cX5_readOperand RX5 (some .boolean) "readOperand" 2 43 0 0) (S : KS) (x1 : Int32) (x2 : Int32) (h : w_X5_readOperand_B176 cy tE post S x1 x2) : Z p l e R s m args below meth c D A 3 (MQ below (QI D (U := KS) post (kw cy a rw) A) args s 0 0 A) 0 0 (kw cy a rw S) [(0, .ref (a 26)), (1, .int x1), (2, .int x2)] 176 [] := by
  unfold w_X5_readOperand_B176 at h
  refine z_iload_n b dX5_readOperand_176 rfl rfl ?_
  refine z_iconst (v := (-1)) b dX5_readOperand_177 (by decide) ?_
  refine y_icmp_ne (tgt := 183) (xl := x2.toInt) (yl := (-1)) b rfl (by decide) dX5_readOperand_178 (by decide) (fun c1 => ?_) (fun c1 => ?_)
  · replace h := h.1 c1
    refine z_aload_n b dX5_readOperand_183 rfl rfl ?_
    refine z_aload_n b dX5_readOperand_184 rfl rfl ?_
    refine z_get (q0 := 26) (k9 := 5) (v := .int (fi S.1 18)) b (kw_26 cy a rw S) rfl in_X5 (by decide) wf_X5_33 rfl dX5_readOperand_185 ?_
    refine y_if_ne (tgt := 197) (xl := (fi S.1 18).toInt) b rfl dX5_readOperand_188 (by decide) (fun c1 => ?_) (fun c1 => ?_)
    · replace h := h.1 c1
      exact z_X5_readOperand_B197 hrw b _ _ _ h
    · replace h := h.2 c1
      refine z_iload_n b dX5_readOperand_191 rfl rfl ?_
      refine z_bipush (v := 19) b dX5_readOperand_192 (by decide) ?_
      refine y_icmp_ne (tgt := 201) (xl := x1.toInt) (yl := 19) b rfl (by decide) dX5_readOperand_194 (by decide) (fun c1 => ?_) (fun c1 => ?_)
      · replace h := h.1 c1
        refine z_iconst (v := 0) b dX5_readOperand_201 (by decide) ?_
        exact z_X5_readOperand_B202 hrw b _ _ _ _ h
      · replace h := h.2 c1
        exact z_X5_readOperand_B197 hrw b _ _ _ h
  · replace h := h.2 c1
    refine z_iconst (v := 0) b dX5_readOperand_181 (by decide) ?_
    exact z_zret (u := S) b rfl (by decide) dX5_readOperand_182 h rfl (by decide) (by decide)

def w_X5_readOperand_B170 (cy : Nat → ClassId) (tE : Nat) (post : Int32 → KS → Prop) (S : KS)  : Prop :=
  w_X5_refuse cy tE S 1 (fun r8 S9 => (r8 = 0 ∨ r8 = 1) ∧ post r8 S9)

set_option maxHeartbeats 4000000 in
set_option maxRecDepth 100000 in
theorem z_X5_readOperand_B170 {p : Program} {l : Launch} {e : Env} {R : Room} {s : State} {m : MethodId} {args : Array Value} {below : List Frame} {meth : Method} {c : Code} {D : va_G} {cy : Nat → ClassId} {T0 tB tE : Nat} {A : Nat → Prop} {a : Nat → Nat} {rw : Nat → Option Nat} (hrw : ∀ i, i < 6 → rw i = some (a (12 + 2 * i))) {post : Int32 → KS → Prop} (b : Bz p R s m args meth c D cy T0 tB tE A 3 cX5_readOperand RX5 (some .boolean) "readOperand" 2 43 0 0) (S : KS)  (h : w_X5_readOperand_B170 cy tE post S ) : Z p l e R s m args below meth c D A 3 (MQ below (QI D (U := KS) post (kw cy a rw) A) args s 0 0 A) 0 0 (kw cy a rw S) [(0, .ref (a 26))] 170 [] := by
  unfold w_X5_readOperand_B170 at h
  refine z_aload_n b dX5_readOperand_170 rfl rfl ?_
  refine z_iconst (v := 1) b dX5_readOperand_171 (by decide) ?_
  refine z_calli b (z_runV (q0 := 26) (As := [.int 1]) (st := []) b (k_X5_refuse hrw S 1 _ h) cf_X5_refuse (kw_26 cy a rw S) rfl wm_X5_70 wi_X5_refuse ws_X5_refuse dX5_readOperand_172 rfl (Nat.le_of_ble_eq_true rfl) ⟨by decide, by decide, Nat.le_of_ble_eq_true rfl, Nat.le_of_ble_eq_true rfl⟩) (fun r8 S9 h => ?_)
  obtain ⟨g10, h⟩ := h
  exact z_zret (u := S9) b rfl (z_bool g10) dX5_readOperand_175 h rfl (by decide) (by decide)

def w_X5_readOperand_B132 (cy : Nat → ClassId) (tE : Nat) (post : Int32 → KS → Prop) (S : KS) (x1 : Int32) : Prop :=
  w_X5_readPersons cy tE (ksi S 15 ((fi S.1 15) + 1)) 1 (fun r11 S12 => w_X5_readOperand_B176 cy tE post S12 x1 r11)

set_option maxHeartbeats 4000000 in
set_option maxRecDepth 100000 in
theorem z_X5_readOperand_B132 {p : Program} {l : Launch} {e : Env} {R : Room} {s : State} {m : MethodId} {args : Array Value} {below : List Frame} {meth : Method} {c : Code} {D : va_G} {cy : Nat → ClassId} {T0 tB tE : Nat} {A : Nat → Prop} {a : Nat → Nat} {rw : Nat → Option Nat} (hrw : ∀ i, i < 6 → rw i = some (a (12 + 2 * i))) {post : Int32 → KS → Prop} (b : Bz p R s m args meth c D cy T0 tB tE A 3 cX5_readOperand RX5 (some .boolean) "readOperand" 2 43 0 0) (S : KS) (x1 : Int32) (h : w_X5_readOperand_B132 cy tE post S x1) : Z p l e R s m args below meth c D A 3 (MQ below (QI D (U := KS) post (kw cy a rw) A) args s 0 0 A) 0 0 (kw cy a rw S) [(0, .ref (a 26)), (1, .int x1)] 132 [] := by
  unfold w_X5_readOperand_B132 at h
  refine z_aload_n b dX5_readOperand_132 rfl rfl ?_
  refine z_dup b dX5_readOperand_133 rfl ?_
  refine z_get (q0 := 26) (k9 := 1) (v := .int (fi S.1 15)) b (kw_26 cy a rw S) rfl in_X5 (by decide) wf_X5_18 rfl dX5_readOperand_134 ?_
  refine z_iconst (v := 1) b dX5_readOperand_137 (by decide) ?_
  refine z_iadd b dX5_readOperand_138 rfl ?_
  refine z_put (q0 := 26) (k9 := 1) tyX5 b (kw_26 cy a rw S) rfl in_X5 tyX5_ok nmX5 (by decide) wf_X5_18 rfl rfl rfl rfl (Nat.le_of_ble_eq_true rfl) dX5_readOperand_139 (kwp_26_1 cy a rw S ((fi S.1 15) + 1)) ?_
  refine z_aload_n b dX5_readOperand_142 rfl rfl ?_
  refine z_iconst (v := 1) b dX5_readOperand_143 (by decide) ?_
  refine z_calli b (z_runV (q0 := 26) (As := [.int 1]) (st := []) b (k_X5_readPersons hrw (ksi S 15 ((fi S.1 15) + 1)) 1 _ h) cf_X5_readPersons (kw_26 cy a rw (ksi S 15 ((fi S.1 15) + 1))) rfl wm_X5_144 wi_X5_readPersons ws_X5_readPersons dX5_readOperand_144 rfl (Nat.le_of_ble_eq_true rfl) ⟨by decide, by decide, Nat.le_of_ble_eq_true rfl, Nat.le_of_ble_eq_true rfl⟩) (fun r11 S12 h => ?_)
  refine z_istore_n (lv' := [(2, .int r11), (0, .ref (a 26)), (1, .int x1)]) b dX5_readOperand_147 rfl (by decide) rfl ?_
  refine z_goto (tgt := 176) b dX5_readOperand_148 (by decide) ?_
  refine z_lv0 (lv' := [(0, .ref (a 26)), (1, .int x1), (2, .int r11)]) [1, 2, 0] rfl ?_
  exact z_X5_readOperand_B176 hrw b _ _ _ h

def w_X5_readOperand_B151 (cy : Nat → ClassId) (tE : Nat) (post : Int32 → KS → Prop) (S : KS) (x1 : Int32) : Prop :=
  w_X5_readPersons cy tE (ksi S 15 ((fi S.1 15) + 1)) 2 (fun r13 S14 => w_X5_readOperand_B176 cy tE post S14 x1 r13)

set_option maxHeartbeats 4000000 in
set_option maxRecDepth 100000 in
theorem z_X5_readOperand_B151 {p : Program} {l : Launch} {e : Env} {R : Room} {s : State} {m : MethodId} {args : Array Value} {below : List Frame} {meth : Method} {c : Code} {D : va_G} {cy : Nat → ClassId} {T0 tB tE : Nat} {A : Nat → Prop} {a : Nat → Nat} {rw : Nat → Option Nat} (hrw : ∀ i, i < 6 → rw i = some (a (12 + 2 * i))) {post : Int32 → KS → Prop} (b : Bz p R s m args meth c D cy T0 tB tE A 3 cX5_readOperand RX5 (some .boolean) "readOperand" 2 43 0 0) (S : KS) (x1 : Int32) (h : w_X5_readOperand_B151 cy tE post S x1) : Z p l e R s m args below meth c D A 3 (MQ below (QI D (U := KS) post (kw cy a rw) A) args s 0 0 A) 0 0 (kw cy a rw S) [(0, .ref (a 26)), (1, .int x1)] 151 [] := by
  unfold w_X5_readOperand_B151 at h
  refine z_aload_n b dX5_readOperand_151 rfl rfl ?_
  refine z_dup b dX5_readOperand_152 rfl ?_
  refine z_get (q0 := 26) (k9 := 1) (v := .int (fi S.1 15)) b (kw_26 cy a rw S) rfl in_X5 (by decide) wf_X5_18 rfl dX5_readOperand_153 ?_
  refine z_iconst (v := 1) b dX5_readOperand_156 (by decide) ?_
  refine z_iadd b dX5_readOperand_157 rfl ?_
  refine z_put (q0 := 26) (k9 := 1) tyX5 b (kw_26 cy a rw S) rfl in_X5 tyX5_ok nmX5 (by decide) wf_X5_18 rfl rfl rfl rfl (Nat.le_of_ble_eq_true rfl) dX5_readOperand_158 (kwp_26_1 cy a rw S ((fi S.1 15) + 1)) ?_
  refine z_aload_n b dX5_readOperand_161 rfl rfl ?_
  refine z_iconst (v := 2) b dX5_readOperand_162 (by decide) ?_
  refine z_calli b (z_runV (q0 := 26) (As := [.int 2]) (st := []) b (k_X5_readPersons hrw (ksi S 15 ((fi S.1 15) + 1)) 2 _ h) cf_X5_readPersons (kw_26 cy a rw (ksi S 15 ((fi S.1 15) + 1))) rfl wm_X5_144 wi_X5_readPersons ws_X5_readPersons dX5_readOperand_163 rfl (Nat.le_of_ble_eq_true rfl) ⟨by decide, by decide, Nat.le_of_ble_eq_true rfl, Nat.le_of_ble_eq_true rfl⟩) (fun r13 S14 h => ?_)
  refine z_istore_n (lv' := [(2, .int r13), (0, .ref (a 26)), (1, .int x1)]) b dX5_readOperand_166 rfl (by decide) rfl ?_
  refine z_goto (tgt := 176) b dX5_readOperand_167 (by decide) ?_
  refine z_lv0 (lv' := [(0, .ref (a 26)), (1, .int x1), (2, .int r13)]) [1, 2, 0] rfl ?_
  exact z_X5_readOperand_B176 hrw b _ _ _ h

def w_X5_readOperand (cy : Nat → ClassId) (tE : Nat) (S : KS)  (post : Int32 → KS → Prop) : Prop :=
  w_X5_kind cy tE S (fun r1 S2 => ((r1.toInt = 2 → w_X5_value cy tE S2 (fun r3 S4 => w_X5_readOperand_B176 cy tE post (ksi S4 15 ((fi S4.1 15) + 1)) r1 ((r3 : Int64).toInt32))) ∧ (r1.toInt = 3 → w_X5_readOperand_B170 cy tE post S2) ∧ (r1.toInt = 4 → w_X5_readOperand_B170 cy tE post S2) ∧ (r1.toInt = 5 → w_X5_readOperand_B170 cy tE post S2) ∧ (r1.toInt = 6 → w_X5_readOperand_B170 cy tE post S2) ∧ (r1.toInt = 7 → w_X5_readOperand_B132 cy tE post S2 r1) ∧ (r1.toInt = 8 → w_X5_readOperand_B151 cy tE post S2 r1) ∧ (r1.toInt = 9 → w_X5_readOperand_B170 cy tE post S2) ∧ (r1.toInt = 10 → w_X5_readOperand_B170 cy tE post S2) ∧ (r1.toInt = 11 → w_X5_readOperand_B151 cy tE post S2 r1) ∧ (r1.toInt = 12 → w_X5_readOperand_B170 cy tE post S2) ∧ (r1.toInt = 13 → w_X5_readOperand_B170 cy tE post S2) ∧ (r1.toInt = 14 → w_X5_readOperand_B176 cy tE post (ksi S2 15 ((fi S2.1 15) + 1)) r1 0) ∧ (r1.toInt = 15 → w_X5_readOperand_B170 cy tE post S2) ∧ (r1.toInt = 16 → w_X5_readOperand_B170 cy tE post S2) ∧ (r1.toInt = 17 → w_X5_readOperand_B170 cy tE post S2) ∧ (r1.toInt = 18 → w_X5_readOperand_B151 cy tE post S2 r1) ∧ (r1.toInt = 19 → w_X5_readOperand_B132 cy tE post S2 r1) ∧ (r1.toInt = 20 → w_X5_readOperand_B132 cy tE post S2 r1) ∧ (r1.toInt ≠ 2 ∧ r1.toInt ≠ 3 ∧ r1.toInt ≠ 4 ∧ r1.toInt ≠ 5 ∧ r1.toInt ≠ 6 ∧ r1.toInt ≠ 7 ∧ r1.toInt ≠ 8 ∧ r1.toInt ≠ 9 ∧ r1.toInt ≠ 10 ∧ r1.toInt ≠ 11 ∧ r1.toInt ≠ 12 ∧ r1.toInt ≠ 13 ∧ r1.toInt ≠ 14 ∧ r1.toInt ≠ 15 ∧ r1.toInt ≠ 16 ∧ r1.toInt ≠ 17 ∧ r1.toInt ≠ 18 ∧ r1.toInt ≠ 19 ∧ r1.toInt ≠ 20 → w_X5_readOperand_B170 cy tE post S2)))

set_option maxHeartbeats 4000000 in
set_option maxRecDepth 100000 in
theorem k_X5_readOperand {l : Launch} {D : va_G} {cy : Nat → ClassId} {T0 tB tE : Nat} {a : Nat → Nat} {rw : Nat → Option Nat} (hrw : ∀ i, i < 6 → rw i = some (a (12 + 2 * i))) (S : KS)  (post : Int32 → KS → Prop) (h : w_X5_readOperand cy tE S  post) : Ct l D cy T0 tB tE yX5_readOperand cX5_readOperand 3 (some .boolean) 2 43 0 0 (kw cy a rw S) [.ref (a 26)] (QI D (U := KS) post (kw cy a rw)) := by
  refine Ct.ofZ RX5 "readOperand" [(0, .ref (a 26))] rfl rfl rfl rfl (Nat.le_of_ble_eq_true rfl) ?_
  intro p e R s m args below meth c A b
  unfold w_X5_readOperand at h
  refine z_aload_n b dX5_readOperand_0 rfl rfl ?_
  refine z_calli b (z_runV (q0 := 26) (As := []) (st := []) b (k_X5_kind hrw S _ h) cf_X5_kind (kw_26 cy a rw S) rfl wm_X5_66 wi_X5_kind ws_X5_kind dX5_readOperand_1 rfl (Nat.le_of_ble_eq_true rfl) ⟨by decide, by decide, Nat.le_of_ble_eq_true rfl, Nat.le_of_ble_eq_true rfl⟩) (fun r1 S2 h => ?_)
  refine z_istore_n (lv' := [(1, .int r1), (0, .ref (a 26))]) b dX5_readOperand_4 rfl (by decide) rfl ?_
  refine z_iconst (v := 0) b dX5_readOperand_5 (by decide) ?_
  refine z_istore_n (lv' := [(2, .int 0), (1, .int r1), (0, .ref (a 26))]) b dX5_readOperand_6 rfl (by decide) rfl ?_
  refine z_iload_n b dX5_readOperand_7 rfl rfl ?_
  by_cases e1 : r1.toInt = 2
  · replace h := h.1 e1
    refine z_eqi (y := 2) (y_eqc e1 (by decide)) ?_
    refine z_tableIn (tgt := 100) (off := 92) b dX5_readOperand_8 (by decide) (by decide) (by decide) (by decide) ?_
    refine z_aload_n b dX5_readOperand_100 rfl rfl ?_
    refine z_calll b (z_runV (q0 := 26) (As := []) (st := []) b (k_X5_value hrw S2 _ h) cf_X5_value (kw_26 cy a rw S2) rfl wm_X5_90 wi_X5_value ws_X5_value dX5_readOperand_101 rfl (Nat.le_of_ble_eq_true rfl) ⟨by decide, by decide, Nat.le_of_ble_eq_true rfl, Nat.le_of_ble_eq_true rfl⟩) (fun r3 S4 h => ?_)
    refine z_l2i b dX5_readOperand_104 rfl ?_
    refine z_istore_n (lv' := [(2, .int (r3 : Int64).toInt32), (1, .int r1), (0, .ref (a 26))]) b dX5_readOperand_105 rfl (by decide) rfl ?_
    refine z_aload_n b dX5_readOperand_106 rfl rfl ?_
    refine z_dup b dX5_readOperand_107 rfl ?_
    refine z_get (q0 := 26) (k9 := 1) (v := .int (fi S4.1 15)) b (kw_26 cy a rw S4) rfl in_X5 (by decide) wf_X5_18 rfl dX5_readOperand_108 ?_
    refine z_iconst (v := 1) b dX5_readOperand_111 (by decide) ?_
    refine z_iadd b dX5_readOperand_112 rfl ?_
    refine z_put (q0 := 26) (k9 := 1) tyX5 b (kw_26 cy a rw S4) rfl in_X5 tyX5_ok nmX5 (by decide) wf_X5_18 rfl rfl rfl rfl (Nat.le_of_ble_eq_true rfl) dX5_readOperand_113 (kwp_26_1 cy a rw S4 ((fi S4.1 15) + 1)) ?_
    refine z_goto (tgt := 176) b dX5_readOperand_116 (by decide) ?_
    refine z_lv0 (lv' := [(0, .ref (a 26)), (1, .int r1), (2, .int (r3 : Int64).toInt32)]) [2, 1, 0] rfl ?_
    exact z_X5_readOperand_B176 hrw b _ _ _ h
  replace h := h.2
  have o0 := e1
  by_cases e1 : r1.toInt = 3
  · replace h := h.1 e1
    refine z_eqi (y := 3) (y_eqc e1 (by decide)) ?_
    refine z_tableIn (tgt := 170) (off := 162) b dX5_readOperand_8 (by decide) (by decide) (by decide) (by decide) ?_
    refine z_lv0 (lv' := [(0, .ref (a 26))]) [2] rfl ?_
    exact z_X5_readOperand_B170 hrw b _ h
  replace h := h.2
  have o1 := e1
  by_cases e1 : r1.toInt = 4
  · replace h := h.1 e1
    refine z_eqi (y := 4) (y_eqc e1 (by decide)) ?_
    refine z_tableIn (tgt := 170) (off := 162) b dX5_readOperand_8 (by decide) (by decide) (by decide) (by decide) ?_
    refine z_lv0 (lv' := [(0, .ref (a 26))]) [2] rfl ?_
    exact z_X5_readOperand_B170 hrw b _ h
  replace h := h.2
  have o2 := e1
  by_cases e1 : r1.toInt = 5
  · replace h := h.1 e1
    refine z_eqi (y := 5) (y_eqc e1 (by decide)) ?_
    refine z_tableIn (tgt := 170) (off := 162) b dX5_readOperand_8 (by decide) (by decide) (by decide) (by decide) ?_
    refine z_lv0 (lv' := [(0, .ref (a 26))]) [2] rfl ?_
    exact z_X5_readOperand_B170 hrw b _ h
  replace h := h.2
  have o3 := e1
  by_cases e1 : r1.toInt = 6
  · replace h := h.1 e1
    refine z_eqi (y := 6) (y_eqc e1 (by decide)) ?_
    refine z_tableIn (tgt := 170) (off := 162) b dX5_readOperand_8 (by decide) (by decide) (by decide) (by decide) ?_
    refine z_lv0 (lv' := [(0, .ref (a 26))]) [2] rfl ?_
    exact z_X5_readOperand_B170 hrw b _ h
  replace h := h.2
  have o4 := e1
  by_cases e1 : r1.toInt = 7
  · replace h := h.1 e1
    refine z_eqi (y := 7) (y_eqc e1 (by decide)) ?_
    refine z_tableIn (tgt := 132) (off := 124) b dX5_readOperand_8 (by decide) (by decide) (by decide) (by decide) ?_
    refine z_lv0 (lv' := [(0, .ref (a 26)), (1, .int r1)]) [2, 1] rfl ?_
    exact z_X5_readOperand_B132 hrw b _ _ h
  replace h := h.2
  have o5 := e1
  by_cases e1 : r1.toInt = 8
  · replace h := h.1 e1
    refine z_eqi (y := 8) (y_eqc e1 (by decide)) ?_
    refine z_tableIn (tgt := 151) (off := 143) b dX5_readOperand_8 (by decide) (by decide) (by decide) (by decide) ?_
    refine z_lv0 (lv' := [(0, .ref (a 26)), (1, .int r1)]) [2, 1] rfl ?_
    exact z_X5_readOperand_B151 hrw b _ _ h
  replace h := h.2
  have o6 := e1
  by_cases e1 : r1.toInt = 9
  · replace h := h.1 e1
    refine z_eqi (y := 9) (y_eqc e1 (by decide)) ?_
    refine z_tableIn (tgt := 170) (off := 162) b dX5_readOperand_8 (by decide) (by decide) (by decide) (by decide) ?_
    refine z_lv0 (lv' := [(0, .ref (a 26))]) [2] rfl ?_
    exact z_X5_readOperand_B170 hrw b _ h
  replace h := h.2
  have o7 := e1
  by_cases e1 : r1.toInt = 10
  · replace h := h.1 e1
    refine z_eqi (y := 10) (y_eqc e1 (by decide)) ?_
    refine z_tableIn (tgt := 170) (off := 162) b dX5_readOperand_8 (by decide) (by decide) (by decide) (by decide) ?_
    refine z_lv0 (lv' := [(0, .ref (a 26))]) [2] rfl ?_
    exact z_X5_readOperand_B170 hrw b _ h
  replace h := h.2
  have o8 := e1
  by_cases e1 : r1.toInt = 11
  · replace h := h.1 e1
    refine z_eqi (y := 11) (y_eqc e1 (by decide)) ?_
    refine z_tableIn (tgt := 151) (off := 143) b dX5_readOperand_8 (by decide) (by decide) (by decide) (by decide) ?_
    refine z_lv0 (lv' := [(0, .ref (a 26)), (1, .int r1)]) [2, 1] rfl ?_
    exact z_X5_readOperand_B151 hrw b _ _ h
  replace h := h.2
  have o9 := e1
  by_cases e1 : r1.toInt = 12
  · replace h := h.1 e1
    refine z_eqi (y := 12) (y_eqc e1 (by decide)) ?_
    refine z_tableIn (tgt := 170) (off := 162) b dX5_readOperand_8 (by decide) (by decide) (by decide) (by decide) ?_
    refine z_lv0 (lv' := [(0, .ref (a 26))]) [2] rfl ?_
    exact z_X5_readOperand_B170 hrw b _ h
  replace h := h.2
  have o10 := e1
  by_cases e1 : r1.toInt = 13
  · replace h := h.1 e1
    refine z_eqi (y := 13) (y_eqc e1 (by decide)) ?_
    refine z_tableIn (tgt := 170) (off := 162) b dX5_readOperand_8 (by decide) (by decide) (by decide) (by decide) ?_
    refine z_lv0 (lv' := [(0, .ref (a 26))]) [2] rfl ?_
    exact z_X5_readOperand_B170 hrw b _ h
  replace h := h.2
  have o11 := e1
  by_cases e1 : r1.toInt = 14
  · replace h := h.1 e1
    refine z_eqi (y := 14) (y_eqc e1 (by decide)) ?_
    refine z_tableIn (tgt := 119) (off := 111) b dX5_readOperand_8 (by decide) (by decide) (by decide) (by decide) ?_
    refine z_aload_n b dX5_readOperand_119 rfl rfl ?_
    refine z_dup b dX5_readOperand_120 rfl ?_
    refine z_get (q0 := 26) (k9 := 1) (v := .int (fi S2.1 15)) b (kw_26 cy a rw S2) rfl in_X5 (by decide) wf_X5_18 rfl dX5_readOperand_121 ?_
    refine z_iconst (v := 1) b dX5_readOperand_124 (by decide) ?_
    refine z_iadd b dX5_readOperand_125 rfl ?_
    refine z_put (q0 := 26) (k9 := 1) tyX5 b (kw_26 cy a rw S2) rfl in_X5 tyX5_ok nmX5 (by decide) wf_X5_18 rfl rfl rfl rfl (Nat.le_of_ble_eq_true rfl) dX5_readOperand_126 (kwp_26_1 cy a rw S2 ((fi S2.1 15) + 1)) ?_
    refine z_goto (tgt := 176) b dX5_readOperand_129 (by decide) ?_
    refine z_lv0 (lv' := [(0, .ref (a 26)), (1, .int r1), (2, .int 0)]) [2, 1, 0] rfl ?_
    exact z_X5_readOperand_B176 hrw b _ _ _ h
  replace h := h.2
  have o12 := e1
  by_cases e1 : r1.toInt = 15
  · replace h := h.1 e1
    refine z_eqi (y := 15) (y_eqc e1 (by decide)) ?_
    refine z_tableIn (tgt := 170) (off := 162) b dX5_readOperand_8 (by decide) (by decide) (by decide) (by decide) ?_
    refine z_lv0 (lv' := [(0, .ref (a 26))]) [2] rfl ?_
    exact z_X5_readOperand_B170 hrw b _ h
  replace h := h.2
  have o13 := e1
  by_cases e1 : r1.toInt = 16
  · replace h := h.1 e1
    refine z_eqi (y := 16) (y_eqc e1 (by decide)) ?_
    refine z_tableIn (tgt := 170) (off := 162) b dX5_readOperand_8 (by decide) (by decide) (by decide) (by decide) ?_
    refine z_lv0 (lv' := [(0, .ref (a 26))]) [2] rfl ?_
    exact z_X5_readOperand_B170 hrw b _ h
  replace h := h.2
  have o14 := e1
  by_cases e1 : r1.toInt = 17
  · replace h := h.1 e1
    refine z_eqi (y := 17) (y_eqc e1 (by decide)) ?_
    refine z_tableIn (tgt := 170) (off := 162) b dX5_readOperand_8 (by decide) (by decide) (by decide) (by decide) ?_
    refine z_lv0 (lv' := [(0, .ref (a 26))]) [2] rfl ?_
    exact z_X5_readOperand_B170 hrw b _ h
  replace h := h.2
  have o15 := e1
  by_cases e1 : r1.toInt = 18
  · replace h := h.1 e1
    refine z_eqi (y := 18) (y_eqc e1 (by decide)) ?_
    refine z_tableIn (tgt := 151) (off := 143) b dX5_readOperand_8 (by decide) (by decide) (by decide) (by decide) ?_
    refine z_lv0 (lv' := [(0, .ref (a 26)), (1, .int r1)]) [2, 1] rfl ?_
    exact z_X5_readOperand_B151 hrw b _ _ h
  replace h := h.2
  have o16 := e1
  by_cases e1 : r1.toInt = 19
  · replace h := h.1 e1
    refine z_eqi (y := 19) (y_eqc e1 (by decide)) ?_
    refine z_tableIn (tgt := 132) (off := 124) b dX5_readOperand_8 (by decide) (by decide) (by decide) (by decide) ?_
    refine z_lv0 (lv' := [(0, .ref (a 26)), (1, .int r1)]) [2, 1] rfl ?_
    exact z_X5_readOperand_B132 hrw b _ _ h
  replace h := h.2
  have o17 := e1
  by_cases e1 : r1.toInt = 20
  · replace h := h.1 e1
    refine z_eqi (y := 20) (y_eqc e1 (by decide)) ?_
    refine z_tableIn (tgt := 132) (off := 124) b dX5_readOperand_8 (by decide) (by decide) (by decide) (by decide) ?_
    refine z_lv0 (lv' := [(0, .ref (a 26)), (1, .int r1)]) [2, 1] rfl ?_
    exact z_X5_readOperand_B132 hrw b _ _ h
  replace h := h.2
  have o18 := e1
  replace h := h ⟨o0, o1, o2, o3, o4, o5, o6, o7, o8, o9, o10, o11, o12, o13, o14, o15, o16, o17, o18⟩
  refine z_tableOut (tgt := 170) b dX5_readOperand_8 (by omega) (by decide) ?_
  refine z_lv0 (lv' := [(0, .ref (a 26))]) [2] rfl ?_
  exact z_X5_readOperand_B170 hrw b _ h

def w_X5_readSum_B101 (cy : Nat → ClassId) (tE : Nat) (post : Int32 → KS → Prop) (k13 : KS → Int32 → Int32 → Prop) (k107 : KS → Int32 → Prop) (S : KS) (x1 : Int32) (x2 : Int32) : Prop :=
  k13 S x1 (x2 + 1)

set_option maxHeartbeats 4000000 in
set_option maxRecDepth 100000 in
theorem z_X5_readSum_B101 {p : Program} {l : Launch} {e : Env} {R : Room} {s : State} {m : MethodId} {args : Array Value} {below : List Frame} {meth : Method} {c : Code} {D : va_G} {cy : Nat → ClassId} {T0 tB tE : Nat} {A : Nat → Prop} {a : Nat → Nat} {rw : Nat → Option Nat} (hrw : ∀ i, i < 6 → rw i = some (a (12 + 2 * i))) {post : Int32 → KS → Prop} {k13 : KS → Int32 → Int32 → Prop} {k107 : KS → Int32 → Prop} (b : Bz p R s m args meth c D cy T0 tB tE A 4 cX5_readSum RX5 (some .boolean) "readSum" 3 65 0 0) (hk13 : ∀ (S : KS) (x1 : Int32) (x2 : Int32), k13 S x1 x2 → Z p l e R s m args below meth c D A 4 (MQ below (QI D (U := KS) post (kw cy a rw) A) args s 0 0 A) 0 0 (kw cy a rw S) [(0, .ref (a 26)), (1, .int x1), (2, .int x2)] 13 []) (hk107 : ∀ (S : KS) (x1 : Int32), k107 S x1 → Z p l e R s m args below meth c D A 4 (MQ below (QI D (U := KS) post (kw cy a rw) A) args s 0 0 A) 0 0 (kw cy a rw S) [(0, .ref (a 26)), (1, .int x1)] 107 []) (S : KS) (x1 : Int32) (x2 : Int32) (h : w_X5_readSum_B101 cy tE post k13 k107 S x1 x2) : Z p l e R s m args below meth c D A 4 (MQ below (QI D (U := KS) post (kw cy a rw) A) args s 0 0 A) 0 0 (kw cy a rw S) [(0, .ref (a 26)), (1, .int x1), (2, .int x2)] 101 [] := by
  unfold w_X5_readSum_B101 at h
  refine z_iinc (k9 := 2) (v := (x2 + 1)) (lv' := [(2, .int (x2 + 1)), (0, .ref (a 26)), (1, .int x1)]) b dX5_readSum_101 rfl rfl (by decide) rfl ?_
  refine z_goto (tgt := 13) b dX5_readSum_104 (by decide) ?_
  refine z_lv0 (lv' := [(0, .ref (a 26)), (1, .int x1), (2, .int (x2 + 1))]) [1, 2, 0] rfl ?_
  exact hk13 _ _ _ h

def w_X5_readSum_B79 (cy : Nat → ClassId) (tE : Nat) (post : Int32 → KS → Prop) (k13 : KS → Int32 → Int32 → Prop) (k107 : KS → Int32 → Prop) (S : KS) (x1 : Int32) (x2 : Int32) (x3 : Int32) : Prop :=
  w_X5_readOperand cy tE S (fun r5 S6 => ((r5.toInt ≠ 0 → ((x3.toInt ≠ 26 → w_X5_readSum_B101 cy tE post k13 k107 S6 x1 x2) ∧ (x3.toInt = 26 → w_X5_emit cy tE S6 26 0 (fun S8 => w_X5_readSum_B101 cy tE post k13 k107 S8 x1 x2)))) ∧ (r5.toInt = 0 → post 0 S6)))

set_option maxHeartbeats 4000000 in
set_option maxRecDepth 100000 in
theorem z_X5_readSum_B79 {p : Program} {l : Launch} {e : Env} {R : Room} {s : State} {m : MethodId} {args : Array Value} {below : List Frame} {meth : Method} {c : Code} {D : va_G} {cy : Nat → ClassId} {T0 tB tE : Nat} {A : Nat → Prop} {a : Nat → Nat} {rw : Nat → Option Nat} (hrw : ∀ i, i < 6 → rw i = some (a (12 + 2 * i))) {post : Int32 → KS → Prop} {k13 : KS → Int32 → Int32 → Prop} {k107 : KS → Int32 → Prop} (b : Bz p R s m args meth c D cy T0 tB tE A 4 cX5_readSum RX5 (some .boolean) "readSum" 3 65 0 0) (hk13 : ∀ (S : KS) (x1 : Int32) (x2 : Int32), k13 S x1 x2 → Z p l e R s m args below meth c D A 4 (MQ below (QI D (U := KS) post (kw cy a rw) A) args s 0 0 A) 0 0 (kw cy a rw S) [(0, .ref (a 26)), (1, .int x1), (2, .int x2)] 13 []) (hk107 : ∀ (S : KS) (x1 : Int32), k107 S x1 → Z p l e R s m args below meth c D A 4 (MQ below (QI D (U := KS) post (kw cy a rw) A) args s 0 0 A) 0 0 (kw cy a rw S) [(0, .ref (a 26)), (1, .int x1)] 107 []) (S : KS) (x1 : Int32) (x2 : Int32) (x3 : Int32) (h : w_X5_readSum_B79 cy tE post k13 k107 S x1 x2 x3) : Z p l e R s m args below meth c D A 4 (MQ below (QI D (U := KS) post (kw cy a rw) A) args s 0 0 A) 0 0 (kw cy a rw S) [(0, .ref (a 26)), (1, .int x1), (2, .int x2), (3, .int x3)] 79 [] := by
  unfold w_X5_readSum_B79 at h
  refine z_aload_n b dX5_readSum_79 rfl rfl ?_
  refine z_calli b (z_runV (q0 := 26) (As := []) (st := []) b (k_X5_readOperand hrw S _ h) cf_X5_readOperand (kw_26 cy a rw S) rfl wm_X5_165 wi_X5_readOperand ws_X5_readOperand dX5_readSum_80 rfl (Nat.le_of_ble_eq_true rfl) ⟨by decide, by decide, Nat.le_of_ble_eq_true rfl, Nat.le_of_ble_eq_true rfl⟩) (fun r5 S6 h => ?_)
  refine y_if_ne (tgt := 88) (xl := r5.toInt) b rfl dX5_readSum_83 (by decide) (fun c1 => ?_) (fun c1 => ?_)
  · replace h := h.1 c1
    refine z_iload_n b dX5_readSum_88 rfl rfl ?_
    refine z_bipush (v := 26) b dX5_readSum_89 (by decide) ?_
    refine y_icmp_ne (tgt := 101) (xl := x3.toInt) (yl := 26) b rfl (by decide) dX5_readSum_91 (by decide) (fun c1 => ?_) (fun c1 => ?_)
    · replace h := h.1 c1
      refine z_lv0 (lv' := [(0, .ref (a 26)), (1, .int x1), (2, .int x2)]) [0, 1, 2] rfl ?_
      exact z_X5_readSum_B101 hrw b hk13 hk107 _ _ _ h
    · replace h := h.2 c1
      refine z_aload_n b dX5_readSum_94 rfl rfl ?_
      refine z_bipush (v := 26) b dX5_readSum_95 (by decide) ?_
      refine z_iconst (v := 0) b dX5_readSum_97 (by decide) ?_
      refine z_callv b (z_runV (q0 := 26) (As := [.int 26, .int 0]) (st := []) b (k_X5_emit hrw S6 26 0 _ h) cf_X5_emit (kw_26 cy a rw S6) rfl wm_X5_147 wi_X5_emit ws_X5_emit dX5_readSum_98 rfl (Nat.le_of_ble_eq_true rfl) ⟨by decide, by decide, Nat.le_of_ble_eq_true rfl, Nat.le_of_ble_eq_true rfl⟩) (fun S8 h => ?_)
      refine z_lv0 (lv' := [(0, .ref (a 26)), (1, .int x1), (2, .int x2)]) [0, 1, 2] rfl ?_
      exact z_X5_readSum_B101 hrw b hk13 hk107 _ _ _ h
  · replace h := h.2 c1
    refine z_iconst (v := 0) b dX5_readSum_86 (by decide) ?_
    exact z_zret (u := S6) b rfl (by decide) dX5_readSum_87 h rfl (by decide) (by decide)

def w_X5_readSum_B77 (cy : Nat → ClassId) (tE : Nat) (post : Int32 → KS → Prop) (k13 : KS → Int32 → Int32 → Prop) (k107 : KS → Int32 → Prop) (S : KS) (x2 : Int32) (x3 : Int32) : Prop :=
  w_X5_readSum_B79 cy tE post k13 k107 S x3 x2 x3

set_option maxHeartbeats 4000000 in
set_option maxRecDepth 100000 in
theorem z_X5_readSum_B77 {p : Program} {l : Launch} {e : Env} {R : Room} {s : State} {m : MethodId} {args : Array Value} {below : List Frame} {meth : Method} {c : Code} {D : va_G} {cy : Nat → ClassId} {T0 tB tE : Nat} {A : Nat → Prop} {a : Nat → Nat} {rw : Nat → Option Nat} (hrw : ∀ i, i < 6 → rw i = some (a (12 + 2 * i))) {post : Int32 → KS → Prop} {k13 : KS → Int32 → Int32 → Prop} {k107 : KS → Int32 → Prop} (b : Bz p R s m args meth c D cy T0 tB tE A 4 cX5_readSum RX5 (some .boolean) "readSum" 3 65 0 0) (hk13 : ∀ (S : KS) (x1 : Int32) (x2 : Int32), k13 S x1 x2 → Z p l e R s m args below meth c D A 4 (MQ below (QI D (U := KS) post (kw cy a rw) A) args s 0 0 A) 0 0 (kw cy a rw S) [(0, .ref (a 26)), (1, .int x1), (2, .int x2)] 13 []) (hk107 : ∀ (S : KS) (x1 : Int32), k107 S x1 → Z p l e R s m args below meth c D A 4 (MQ below (QI D (U := KS) post (kw cy a rw) A) args s 0 0 A) 0 0 (kw cy a rw S) [(0, .ref (a 26)), (1, .int x1)] 107 []) (S : KS) (x2 : Int32) (x3 : Int32) (h : w_X5_readSum_B77 cy tE post k13 k107 S x2 x3) : Z p l e R s m args below meth c D A 4 (MQ below (QI D (U := KS) post (kw cy a rw) A) args s 0 0 A) 0 0 (kw cy a rw S) [(0, .ref (a 26)), (2, .int x2), (3, .int x3)] 77 [] := by
  unfold w_X5_readSum_B77 at h
  refine z_iload_n b dX5_readSum_77 rfl rfl ?_
  refine z_istore_n (lv' := [(1, .int x3), (0, .ref (a 26)), (2, .int x2), (3, .int x3)]) b dX5_readSum_78 rfl (by decide) rfl ?_
  refine z_lv0 (lv' := [(0, .ref (a 26)), (1, .int x3), (2, .int x2), (3, .int x3)]) [1, 0, 2, 3] rfl ?_
  exact z_X5_readSum_B79 hrw b hk13 hk107 _ _ _ _ h

def w_X5_readSum_B50 (cy : Nat → ClassId) (tE : Nat) (post : Int32 → KS → Prop) (k13 : KS → Int32 → Int32 → Prop) (k107 : KS → Int32 → Prop) (S : KS) (x1 : Int32) (x2 : Int32) (x3 : Int32) : Prop :=
  ((x3.toInt = 26 → w_X5_readSum_B79 cy tE post k13 k107 (ksi S 15 ((fi S.1 15) + 1)) x1 x2 x3) ∧ (x3.toInt ≠ 26 → ((x1.toInt = (-1) → w_X5_readSum_B77 cy tE post k13 k107 (ksi S 15 ((fi S.1 15) + 1)) x2 x3) ∧ (x1.toInt ≠ (-1) → w_X5_emit cy tE (ksi S 15 ((fi S.1 15) + 1)) x1 0 (fun S10 => w_X5_readSum_B77 cy tE post k13 k107 S10 x2 x3)))))

set_option maxHeartbeats 4000000 in
set_option maxRecDepth 100000 in
theorem z_X5_readSum_B50 {p : Program} {l : Launch} {e : Env} {R : Room} {s : State} {m : MethodId} {args : Array Value} {below : List Frame} {meth : Method} {c : Code} {D : va_G} {cy : Nat → ClassId} {T0 tB tE : Nat} {A : Nat → Prop} {a : Nat → Nat} {rw : Nat → Option Nat} (hrw : ∀ i, i < 6 → rw i = some (a (12 + 2 * i))) {post : Int32 → KS → Prop} {k13 : KS → Int32 → Int32 → Prop} {k107 : KS → Int32 → Prop} (b : Bz p R s m args meth c D cy T0 tB tE A 4 cX5_readSum RX5 (some .boolean) "readSum" 3 65 0 0) (hk13 : ∀ (S : KS) (x1 : Int32) (x2 : Int32), k13 S x1 x2 → Z p l e R s m args below meth c D A 4 (MQ below (QI D (U := KS) post (kw cy a rw) A) args s 0 0 A) 0 0 (kw cy a rw S) [(0, .ref (a 26)), (1, .int x1), (2, .int x2)] 13 []) (hk107 : ∀ (S : KS) (x1 : Int32), k107 S x1 → Z p l e R s m args below meth c D A 4 (MQ below (QI D (U := KS) post (kw cy a rw) A) args s 0 0 A) 0 0 (kw cy a rw S) [(0, .ref (a 26)), (1, .int x1)] 107 []) (S : KS) (x1 : Int32) (x2 : Int32) (x3 : Int32) (h : w_X5_readSum_B50 cy tE post k13 k107 S x1 x2 x3) : Z p l e R s m args below meth c D A 4 (MQ below (QI D (U := KS) post (kw cy a rw) A) args s 0 0 A) 0 0 (kw cy a rw S) [(0, .ref (a 26)), (1, .int x1), (2, .int x2), (3, .int x3)] 50 [] := by
  unfold w_X5_readSum_B50 at h
  refine z_aload_n b dX5_readSum_50 rfl rfl ?_
  refine z_dup b dX5_readSum_51 rfl ?_
  refine z_get (q0 := 26) (k9 := 1) (v := .int (fi S.1 15)) b (kw_26 cy a rw S) rfl in_X5 (by decide) wf_X5_18 rfl dX5_readSum_52 ?_
  refine z_iconst (v := 1) b dX5_readSum_55 (by decide) ?_
  refine z_iadd b dX5_readSum_56 rfl ?_
  refine z_put (q0 := 26) (k9 := 1) tyX5 b (kw_26 cy a rw S) rfl in_X5 tyX5_ok nmX5 (by decide) wf_X5_18 rfl rfl rfl rfl (Nat.le_of_ble_eq_true rfl) dX5_readSum_57 (kwp_26_1 cy a rw S ((fi S.1 15) + 1)) ?_
  refine z_iload_n b dX5_readSum_60 rfl rfl ?_
  refine z_bipush (v := 26) b dX5_readSum_61 (by decide) ?_
  refine y_icmp_eq (tgt := 79) (xl := x3.toInt) (yl := 26) b rfl (by decide) dX5_readSum_63 (by decide) (fun c1 => ?_) (fun c1 => ?_)
  · replace h := h.1 c1
    exact z_X5_readSum_B79 hrw b hk13 hk107 _ _ _ _ h
  · replace h := h.2 c1
    refine z_iload_n b dX5_readSum_66 rfl rfl ?_
    refine z_iconst (v := (-1)) b dX5_readSum_67 (by decide) ?_
    refine y_icmp_eq (tgt := 77) (xl := x1.toInt) (yl := (-1)) b rfl (by decide) dX5_readSum_68 (by decide) (fun c1 => ?_) (fun c1 => ?_)
    · replace h := h.1 c1
      refine z_lv0 (lv' := [(0, .ref (a 26)), (2, .int x2), (3, .int x3)]) [0, 2, 3] rfl ?_
      exact z_X5_readSum_B77 hrw b hk13 hk107 _ _ _ h
    · replace h := h.2 c1
      refine z_aload_n b dX5_readSum_71 rfl rfl ?_
      refine z_iload_n b dX5_readSum_72 rfl rfl ?_
      refine z_iconst (v := 0) b dX5_readSum_73 (by decide) ?_
      refine z_callv b (z_runV (q0 := 26) (As := [.int x1, .int 0]) (st := []) b (k_X5_emit hrw (ksi S 15 ((fi S.1 15) + 1)) x1 0 _ h) cf_X5_emit (kw_26 cy a rw (ksi S 15 ((fi S.1 15) + 1))) rfl wm_X5_147 wi_X5_emit ws_X5_emit dX5_readSum_74 rfl (Nat.le_of_ble_eq_true rfl) ⟨by decide, by decide, Nat.le_of_ble_eq_true rfl, Nat.le_of_ble_eq_true rfl⟩) (fun S10 h => ?_)
      refine z_lv0 (lv' := [(0, .ref (a 26)), (2, .int x2), (3, .int x3)]) [0, 2, 3] rfl ?_
      exact z_X5_readSum_B77 hrw b hk13 hk107 _ _ _ h

def w_X5_readSum_F13 (cy : Nat → ClassId) (tE : Nat) (post : Int32 → KS → Prop) (k107 : KS → Int32 → Prop) (k13 : KS → Int32 → Int32 → Prop) (S : KS) (x1 : Int32) (x2 : Int32) : Prop :=
  (((fi S.1 21).toInt ≤ x2.toInt → k107 S x1) ∧ (x2.toInt < (fi S.1 21).toInt → w_X5_kind cy tE S (fun r3 S4 => ((r3.toInt = 24 → w_X5_readSum_B50 cy tE post k13 k107 S4 x1 x2 r3) ∧ (r3.toInt ≠ 24 → ((r3.toInt = 25 → w_X5_readSum_B50 cy tE post k13 k107 S4 x1 x2 r3) ∧ (r3.toInt ≠ 25 → ((r3.toInt = 26 → w_X5_readSum_B50 cy tE post k13 k107 S4 x1 x2 r3) ∧ (r3.toInt ≠ 26 → k107 S4 x1)))))))))

set_option maxHeartbeats 4000000 in
set_option maxRecDepth 100000 in
theorem z_X5_readSum_F13 {p : Program} {l : Launch} {e : Env} {R : Room} {s : State} {m : MethodId} {args : Array Value} {below : List Frame} {meth : Method} {c : Code} {D : va_G} {cy : Nat → ClassId} {T0 tB tE : Nat} {A : Nat → Prop} {a : Nat → Nat} {rw : Nat → Option Nat} (hrw : ∀ i, i < 6 → rw i = some (a (12 + 2 * i))) {post : Int32 → KS → Prop} {k107 : KS → Int32 → Prop} {k13 : KS → Int32 → Int32 → Prop} (b : Bz p R s m args meth c D cy T0 tB tE A 4 cX5_readSum RX5 (some .boolean) "readSum" 3 65 0 0) (hk107 : ∀ (S : KS) (x1 : Int32), k107 S x1 → Z p l e R s m args below meth c D A 4 (MQ below (QI D (U := KS) post (kw cy a rw) A) args s 0 0 A) 0 0 (kw cy a rw S) [(0, .ref (a 26)), (1, .int x1)] 107 []) (hk13 : ∀ (S : KS) (x1 : Int32) (x2 : Int32), k13 S x1 x2 → Z p l e R s m args below meth c D A 4 (MQ below (QI D (U := KS) post (kw cy a rw) A) args s 0 0 A) 0 0 (kw cy a rw S) [(0, .ref (a 26)), (1, .int x1), (2, .int x2)] 13 []) (S : KS) (x1 : Int32) (x2 : Int32) (h : w_X5_readSum_F13 cy tE post k107 k13 S x1 x2) : Z p l e R s m args below meth c D A 4 (MQ below (QI D (U := KS) post (kw cy a rw) A) args s 0 0 A) 0 0 (kw cy a rw S) [(0, .ref (a 26)), (1, .int x1), (2, .int x2)] 13 [] := by
  unfold w_X5_readSum_F13 at h
  refine z_iload_n b dX5_readSum_13 rfl rfl ?_
  refine z_aload_n b dX5_readSum_14 rfl rfl ?_
  refine z_get (q0 := 26) (k9 := 0) (v := .ref (a 27)) b (kw_26 cy a rw S) rfl in_X5 (by decide) wf_X5_12 rfl dX5_readSum_15 ?_
  refine z_get (q0 := 27) (k9 := 4) (v := .int (fi S.1 21)) b (kw_27 cy a rw S) rfl in_X10 (by decide) wf_X5_56 rfl dX5_readSum_18 ?_
  refine y_icmp_ge (tgt := 107) (xl := x2.toInt) (yl := (fi S.1 21).toInt) b rfl rfl dX5_readSum_21 (by decide) (fun c1 => ?_) (fun c1 => ?_)
  · replace h := h.1 c1
    refine z_lv0 (lv' := [(0, .ref (a 26)), (1, .int x1)]) [0, 1] rfl ?_
    exact hk107 _ _ h
  · replace h := h.2 c1
    refine z_aload_n b dX5_readSum_24 rfl rfl ?_
    refine z_calli b (z_runV (q0 := 26) (As := []) (st := []) b (k_X5_kind hrw S _ h) cf_X5_kind (kw_26 cy a rw S) rfl wm_X5_66 wi_X5_kind ws_X5_kind dX5_readSum_25 rfl (Nat.le_of_ble_eq_true rfl) ⟨by decide, by decide, Nat.le_of_ble_eq_true rfl, Nat.le_of_ble_eq_true rfl⟩) (fun r3 S4 h => ?_)
    refine z_istore_n (lv' := [(3, .int r3), (0, .ref (a 26)), (1, .int x1), (2, .int x2)]) b dX5_readSum_28 rfl (by decide) rfl ?_
    refine z_iload_n b dX5_readSum_29 rfl rfl ?_
    refine z_bipush (v := 24) b dX5_readSum_30 (by decide) ?_
    refine y_icmp_eq (tgt := 50) (xl := r3.toInt) (yl := 24) b rfl (by decide) dX5_readSum_32 (by decide) (fun c1 => ?_) (fun c1 => ?_)
    · replace h := h.1 c1
      refine z_lv0 (lv' := [(0, .ref (a 26)), (1, .int x1), (2, .int x2), (3, .int r3)]) [1, 2, 3, 0] rfl ?_
      exact z_X5_readSum_B50 hrw b hk13 hk107 _ _ _ _ h
    · replace h := h.2 c1
      refine z_iload_n b dX5_readSum_35 rfl rfl ?_
      refine z_bipush (v := 25) b dX5_readSum_36 (by decide) ?_
      refine y_icmp_eq (tgt := 50) (xl := r3.toInt) (yl := 25) b rfl (by decide) dX5_readSum_38 (by decide) (fun c1 => ?_) (fun c1 => ?_)
      · replace h := h.1 c1
        refine z_lv0 (lv' := [(0, .ref (a 26)), (1, .int x1), (2, .int x2), (3, .int r3)]) [1, 2, 3, 0] rfl ?_
        exact z_X5_readSum_B50 hrw b hk13 hk107 _ _ _ _ h
      · replace h := h.2 c1
        refine z_iload_n b dX5_readSum_41 rfl rfl ?_
        refine z_bipush (v := 26) b dX5_readSum_42 (by decide) ?_
        refine y_icmp_eq (tgt := 50) (xl := r3.toInt) (yl := 26) b rfl (by decide) dX5_readSum_44 (by decide) (fun c1 => ?_) (fun c1 => ?_)
        · replace h := h.1 c1
          refine z_lv0 (lv' := [(0, .ref (a 26)), (1, .int x1), (2, .int x2), (3, .int r3)]) [1, 2, 3, 0] rfl ?_
          exact z_X5_readSum_B50 hrw b hk13 hk107 _ _ _ _ h
        · replace h := h.2 c1
          refine z_goto (tgt := 107) b dX5_readSum_47 (by decide) ?_
          refine z_lv0 (lv' := [(0, .ref (a 26)), (1, .int x1)]) [1, 2] rfl ?_
          exact hk107 _ _ h

set_option maxHeartbeats 4000000 in
set_option maxRecDepth 100000 in
theorem zl_X5_readSum_L13 {p : Program} {l : Launch} {e : Env} {R : Room} {s : State} {m : MethodId} {args : Array Value} {below : List Frame} {meth : Method} {c : Code} {D : va_G} {cy : Nat → ClassId} {T0 tB tE : Nat} {A : Nat → Prop} {a : Nat → Nat} {rw : Nat → Option Nat} (hrw : ∀ i, i < 6 → rw i = some (a (12 + 2 * i))) {post : Int32 → KS → Prop} {k107 : KS → Int32 → Prop} (b : Bz p R s m args meth c D cy T0 tB tE A 4 cX5_readSum RX5 (some .boolean) "readSum" 3 65 0 0) (hk107 : ∀ (S : KS) (x1 : Int32), k107 S x1 → Z p l e R s m args below meth c D A 4 (MQ below (QI D (U := KS) post (kw cy a rw) A) args s 0 0 A) 0 0 (kw cy a rw S) [(0, .ref (a 26)), (1, .int x1)] 107 []) : ∀ (n : Nat) (S : KS) (x1 : Int32) (x2 : Int32), lpn (w_X5_readSum_F13 cy tE post k107) (fun _ _ _ => False) n S x1 x2 → Z p l e R s m args below meth c D A 4 (MQ below (QI D (U := KS) post (kw cy a rw) A) args s 0 0 A) 0 0 (kw cy a rw S) [(0, .ref (a 26)), (1, .int x1), (2, .int x2)] 13 [] := by
  intro n
  induction n with
  | zero => intro _ _ _ h; exact h.elim
  | succ n ih => intro S x1 x2 h; exact z_X5_readSum_F13 hrw b hk107 ih S x1 x2 h

def w_X5_readSum_B118 (cy : Nat → ClassId) (tE : Nat) (post : Int32 → KS → Prop) (S : KS)  : Prop :=
  post 1 S

set_option maxHeartbeats 4000000 in
set_option maxRecDepth 100000 in
theorem z_X5_readSum_B118 {p : Program} {l : Launch} {e : Env} {R : Room} {s : State} {m : MethodId} {args : Array Value} {below : List Frame} {meth : Method} {c : Code} {D : va_G} {cy : Nat → ClassId} {T0 tB tE : Nat} {A : Nat → Prop} {a : Nat → Nat} {rw : Nat → Option Nat} (hrw : ∀ i, i < 6 → rw i = some (a (12 + 2 * i))) {post : Int32 → KS → Prop} (b : Bz p R s m args meth c D cy T0 tB tE A 4 cX5_readSum RX5 (some .boolean) "readSum" 3 65 0 0) (S : KS)  (h : w_X5_readSum_B118 cy tE post S ) : Z p l e R s m args below meth c D A 4 (MQ below (QI D (U := KS) post (kw cy a rw) A) args s 0 0 A) 0 0 (kw cy a rw S) [] 118 [] := by
  unfold w_X5_readSum_B118 at h
  refine z_iconst (v := 1) b dX5_readSum_118 (by decide) ?_
  exact z_zret (u := S) b rfl (by decide) dX5_readSum_119 h rfl (by decide) (by decide)

def w_X5_readSum_B107 (cy : Nat → ClassId) (tE : Nat) (post : Int32 → KS → Prop) (S : KS) (x1 : Int32) : Prop :=
  ((x1.toInt = (-1) → w_X5_readSum_B118 cy tE post S) ∧ (x1.toInt ≠ (-1) → w_X5_emit cy tE S x1 0 (fun S12 => w_X5_readSum_B118 cy tE post S12)))

set_option maxHeartbeats 4000000 in
set_option maxRecDepth 100000 in
theorem z_X5_readSum_B107 {p : Program} {l : Launch} {e : Env} {R : Room} {s : State} {m : MethodId} {args : Array Value} {below : List Frame} {meth : Method} {c : Code} {D : va_G} {cy : Nat → ClassId} {T0 tB tE : Nat} {A : Nat → Prop} {a : Nat → Nat} {rw : Nat → Option Nat} (hrw : ∀ i, i < 6 → rw i = some (a (12 + 2 * i))) {post : Int32 → KS → Prop} (b : Bz p R s m args meth c D cy T0 tB tE A 4 cX5_readSum RX5 (some .boolean) "readSum" 3 65 0 0) (S : KS) (x1 : Int32) (h : w_X5_readSum_B107 cy tE post S x1) : Z p l e R s m args below meth c D A 4 (MQ below (QI D (U := KS) post (kw cy a rw) A) args s 0 0 A) 0 0 (kw cy a rw S) [(0, .ref (a 26)), (1, .int x1)] 107 [] := by
  unfold w_X5_readSum_B107 at h
  refine z_iload_n b dX5_readSum_107 rfl rfl ?_
  refine z_iconst (v := (-1)) b dX5_readSum_108 (by decide) ?_
  refine y_icmp_eq (tgt := 118) (xl := x1.toInt) (yl := (-1)) b rfl (by decide) dX5_readSum_109 (by decide) (fun c1 => ?_) (fun c1 => ?_)
  · replace h := h.1 c1
    refine z_lv0 (lv' := []) [] rfl ?_
    exact z_X5_readSum_B118 hrw b _ h
  · replace h := h.2 c1
    refine z_aload_n b dX5_readSum_112 rfl rfl ?_
    refine z_iload_n b dX5_readSum_113 rfl rfl ?_
    refine z_iconst (v := 0) b dX5_readSum_114 (by decide) ?_
    refine z_callv b (z_runV (q0 := 26) (As := [.int x1, .int 0]) (st := []) b (k_X5_emit hrw S x1 0 _ h) cf_X5_emit (kw_26 cy a rw S) rfl wm_X5_147 wi_X5_emit ws_X5_emit dX5_readSum_115 rfl (Nat.le_of_ble_eq_true rfl) ⟨by decide, by decide, Nat.le_of_ble_eq_true rfl, Nat.le_of_ble_eq_true rfl⟩) (fun S12 h => ?_)
    refine z_lv0 (lv' := []) [] rfl ?_
    exact z_X5_readSum_B118 hrw b _ h

def w_X5_readSum (cy : Nat → ClassId) (tE : Nat) (S : KS)  (post : Int32 → KS → Prop) : Prop :=
  w_X5_readOperand cy tE S (fun r1 S2 => ((r1.toInt ≠ 0 → ∃ n, lpn (w_X5_readSum_F13 cy tE post (w_X5_readSum_B107 cy tE post)) (fun _ _ _ => False) n S2 (-1) 0) ∧ (r1.toInt = 0 → post 0 S2)))

set_option maxHeartbeats 4000000 in
set_option maxRecDepth 100000 in
theorem k_X5_readSum {l : Launch} {D : va_G} {cy : Nat → ClassId} {T0 tB tE : Nat} {a : Nat → Nat} {rw : Nat → Option Nat} (hrw : ∀ i, i < 6 → rw i = some (a (12 + 2 * i))) (S : KS)  (post : Int32 → KS → Prop) (h : w_X5_readSum cy tE S  post) : Ct l D cy T0 tB tE yX5_readSum cX5_readSum 4 (some .boolean) 3 65 0 0 (kw cy a rw S) [.ref (a 26)] (QI D (U := KS) post (kw cy a rw)) := by
  refine Ct.ofZ RX5 "readSum" [(0, .ref (a 26))] rfl rfl rfl rfl (Nat.le_of_ble_eq_true rfl) ?_
  intro p e R s m args below meth c A b
  unfold w_X5_readSum at h
  refine z_aload_n b dX5_readSum_0 rfl rfl ?_
  refine z_calli b (z_runV (q0 := 26) (As := []) (st := []) b (k_X5_readOperand hrw S _ h) cf_X5_readOperand (kw_26 cy a rw S) rfl wm_X5_165 wi_X5_readOperand ws_X5_readOperand dX5_readSum_1 rfl (Nat.le_of_ble_eq_true rfl) ⟨by decide, by decide, Nat.le_of_ble_eq_true rfl, Nat.le_of_ble_eq_true rfl⟩) (fun r1 S2 h => ?_)
  refine y_if_ne (tgt := 9) (xl := r1.toInt) b rfl dX5_readSum_4 (by decide) (fun c1 => ?_) (fun c1 => ?_)
  · replace h := h.1 c1
    refine z_iconst (v := (-1)) b dX5_readSum_9 (by decide) ?_
    refine z_istore_n (lv' := [(1, .int (-1)), (0, .ref (a 26))]) b dX5_readSum_10 rfl (by decide) rfl ?_
    refine z_iconst (v := 0) b dX5_readSum_11 (by decide) ?_
    refine z_istore_n (lv' := [(2, .int 0), (1, .int (-1)), (0, .ref (a 26))]) b dX5_readSum_12 rfl (by decide) rfl ?_
    refine z_lv0 (lv' := [(0, .ref (a 26)), (1, .int (-1)), (2, .int 0)]) [2, 1, 0] rfl ?_
    obtain ⟨n, h⟩ := h
    exact zl_X5_readSum_L13 hrw b (fun S x1 h => z_X5_readSum_B107 hrw b _ _ h) n _ _ _ h
  · replace h := h.2 c1
    refine z_iconst (v := 0) b dX5_readSum_7 (by decide) ?_
    exact z_zret (u := S2) b rfl (by decide) dX5_readSum_8 h rfl (by decide) (by decide)

def w_X5_readClaim_B39 (cy : Nat → ClassId) (tE : Nat) (sg : KS → Int32 → (Int32 → KS → Prop) → Prop) (post : Int32 → KS → Prop) (S : KS) (y0 : Int32) : Prop :=
  (y0 = 0 ∨ y0 = 1) ∧ post y0 S

set_option maxHeartbeats 4000000 in
set_option maxRecDepth 100000 in
theorem z_X5_readClaim_B39 {p : Program} {l : Launch} {e : Env} {R : Room} {s : State} {m : MethodId} {args : Array Value} {below : List Frame} {meth : Method} {c : Code} {D : va_G} {cy : Nat → ClassId} {T0 tB tE : Nat} {A : Nat → Prop} {a : Nat → Nat} {rw : Nat → Option Nat} (hrw : ∀ i, i < 6 → rw i = some (a (12 + 2 * i))) {d : Nat} {sg : KS → Int32 → (Int32 → KS → Prop) → Prop} (hsg : ∀ (S : KS) (q0 : Int32) (post : Int32 → KS → Prop), sg S q0 post → Ct l D cy T0 tB tE yX5_readClaim cX5_readClaim 4 (some .boolean) (4 + 3 * d) (88 + 69 * d) 0 0 (kw cy a rw S) [.ref (a 26), .int q0] (QI D (U := KS) post (kw cy a rw))) {post : Int32 → KS → Prop} (b : Bz p R s m args meth c D cy T0 tB tE A 4 cX5_readClaim RX5 (some .boolean) "readClaim" (4 + 3 * d + 3) (88 + 69 * d + 69) 0 0) (S : KS) (y0 : Int32) (h : w_X5_readClaim_B39 cy tE sg post S y0) : Z p l e R s m args below meth c D A 4 (MQ below (QI D (U := KS) post (kw cy a rw) A) args s 0 0 A) 0 0 (kw cy a rw S) [] 39 [.int y0] := by
  unfold w_X5_readClaim_B39 at h
  obtain ⟨g5, h⟩ := h
  exact z_zret (u := S) b rfl (z_bool g5) dX5_readClaim_39 h rfl (by decide) (by decide)

def w_X5_readClaim_B17 (cy : Nat → ClassId) (tE : Nat) (sg : KS → Int32 → (Int32 → KS → Prop) → Prop) (post : Int32 → KS → Prop) (S : KS) (x1 : Int32) (x2 : Int32) : Prop :=
  ((8 ≤ x1.toInt → w_X5_refuse cy tE S 3 (fun r3 S4 => w_X5_readClaim_B39 cy tE sg post S4 r3)) ∧ (x1.toInt < 8 → w_X5_readOpened_R cy tE sg S x2 (x1 + 1) (fun r6 S7 => w_X5_readClaim_B39 cy tE sg post S7 r6)))

set_option maxHeartbeats 4000000 in
set_option maxRecDepth 100000 in
theorem z_X5_readClaim_B17 {p : Program} {l : Launch} {e : Env} {R : Room} {s : State} {m : MethodId} {args : Array Value} {below : List Frame} {meth : Method} {c : Code} {D : va_G} {cy : Nat → ClassId} {T0 tB tE : Nat} {A : Nat → Prop} {a : Nat → Nat} {rw : Nat → Option Nat} (hrw : ∀ i, i < 6 → rw i = some (a (12 + 2 * i))) {d : Nat} {sg : KS → Int32 → (Int32 → KS → Prop) → Prop} (hsg : ∀ (S : KS) (q0 : Int32) (post : Int32 → KS → Prop), sg S q0 post → Ct l D cy T0 tB tE yX5_readClaim cX5_readClaim 4 (some .boolean) (4 + 3 * d) (88 + 69 * d) 0 0 (kw cy a rw S) [.ref (a 26), .int q0] (QI D (U := KS) post (kw cy a rw))) {post : Int32 → KS → Prop} (b : Bz p R s m args meth c D cy T0 tB tE A 4 cX5_readClaim RX5 (some .boolean) "readClaim" (4 + 3 * d + 3) (88 + 69 * d + 69) 0 0) (S : KS) (x1 : Int32) (x2 : Int32) (h : w_X5_readClaim_B17 cy tE sg post S x1 x2) : Z p l e R s m args below meth c D A 4 (MQ below (QI D (U := KS) post (kw cy a rw) A) args s 0 0 A) 0 0 (kw cy a rw S) [(0, .ref (a 26)), (1, .int x1), (2, .int x2)] 17 [] := by
  unfold w_X5_readClaim_B17 at h
  refine z_iload_n b dX5_readClaim_17 rfl rfl ?_
  refine z_bipush (v := 8) b dX5_readClaim_18 (by decide) ?_
  refine y_icmp_ge (tgt := 34) (xl := x1.toInt) (yl := 8) b rfl (by decide) dX5_readClaim_20 (by decide) (fun c1 => ?_) (fun c1 => ?_)
  · replace h := h.1 c1
    refine z_aload_n b dX5_readClaim_34 rfl rfl ?_
    refine z_iconst (v := 3) b dX5_readClaim_35 (by decide) ?_
    refine z_calli b (z_runV (q0 := 26) (As := [.int 3]) (st := []) b (k_X5_refuse hrw S 3 _ h) cf_X5_refuse (kw_26 cy a rw S) rfl wm_X5_70 wi_X5_refuse ws_X5_refuse dX5_readClaim_36 rfl (Nat.le_of_ble_eq_true rfl) ⟨by omega, by omega, Nat.le_of_ble_eq_true rfl, Nat.le_of_ble_eq_true rfl⟩) (fun r3 S4 h => ?_)
    refine z_lv0 (lv' := []) [] rfl ?_
    exact z_X5_readClaim_B39 hrw hsg b _ _ h
  · replace h := h.2 c1
    refine z_aload_n b dX5_readClaim_23 rfl rfl ?_
    refine z_iload_n b dX5_readClaim_24 rfl rfl ?_
    refine z_iload_n b dX5_readClaim_25 rfl rfl ?_
    refine z_iconst (v := 1) b dX5_readClaim_26 (by decide) ?_
    refine z_iadd b dX5_readClaim_27 rfl ?_
    refine z_calli b (z_runV (q0 := 26) (As := [.int x2, .int (x1 + 1)]) (st := []) b (k_X5_readOpened_R hrw hsg S x2 (x1 + 1) _ h) cf_X5_readOpened (kw_26 cy a rw S) rfl wm_X5_161 wi_X5_readOpened ws_X5_readOpened dX5_readClaim_28 rfl (Nat.le_of_ble_eq_true rfl) ⟨by omega, by omega, Nat.le_of_ble_eq_true rfl, Nat.le_of_ble_eq_true rfl⟩) (fun r6 S7 h => ?_)
    refine z_goto (tgt := 39) b dX5_readClaim_31 (by decide) ?_
    refine z_lv0 (lv' := []) [] rfl ?_
    exact z_X5_readClaim_B39 hrw hsg b _ _ h

def w_X5_readClaim_B78 (cy : Nat → ClassId) (tE : Nat) (sg : KS → Int32 → (Int32 → KS → Prop) → Prop) (post : Int32 → KS → Prop) (S : KS) (x3 : Int32) : Prop :=
  w_X5_readSum cy tE (ksi S 15 ((fi S.1 15) + 1)) (fun r12 S13 => ((r12.toInt ≠ 0 → w_X5_emit cy tE S13 x3 0 (fun S15 => post 1 S15)) ∧ (r12.toInt = 0 → post 0 S13)))

set_option maxHeartbeats 4000000 in
set_option maxRecDepth 100000 in
theorem z_X5_readClaim_B78 {p : Program} {l : Launch} {e : Env} {R : Room} {s : State} {m : MethodId} {args : Array Value} {below : List Frame} {meth : Method} {c : Code} {D : va_G} {cy : Nat → ClassId} {T0 tB tE : Nat} {A : Nat → Prop} {a : Nat → Nat} {rw : Nat → Option Nat} (hrw : ∀ i, i < 6 → rw i = some (a (12 + 2 * i))) {d : Nat} {sg : KS → Int32 → (Int32 → KS → Prop) → Prop} (hsg : ∀ (S : KS) (q0 : Int32) (post : Int32 → KS → Prop), sg S q0 post → Ct l D cy T0 tB tE yX5_readClaim cX5_readClaim 4 (some .boolean) (4 + 3 * d) (88 + 69 * d) 0 0 (kw cy a rw S) [.ref (a 26), .int q0] (QI D (U := KS) post (kw cy a rw))) {post : Int32 → KS → Prop} (b : Bz p R s m args meth c D cy T0 tB tE A 4 cX5_readClaim RX5 (some .boolean) "readClaim" (4 + 3 * d + 3) (88 + 69 * d + 69) 0 0) (S : KS) (x3 : Int32) (h : w_X5_readClaim_B78 cy tE sg post S x3) : Z p l e R s m args below meth c D A 4 (MQ below (QI D (U := KS) post (kw cy a rw) A) args s 0 0 A) 0 0 (kw cy a rw S) [(0, .ref (a 26)), (3, .int x3)] 78 [] := by
  unfold w_X5_readClaim_B78 at h
  refine z_aload_n b dX5_readClaim_78 rfl rfl ?_
  refine z_dup b dX5_readClaim_79 rfl ?_
  refine z_get (q0 := 26) (k9 := 1) (v := .int (fi S.1 15)) b (kw_26 cy a rw S) rfl in_X5 (by decide) wf_X5_18 rfl dX5_readClaim_80 ?_
  refine z_iconst (v := 1) b dX5_readClaim_83 (by decide) ?_
  refine z_iadd b dX5_readClaim_84 rfl ?_
  refine z_put (q0 := 26) (k9 := 1) tyX5 b (kw_26 cy a rw S) rfl in_X5 tyX5_ok nmX5 (by decide) wf_X5_18 rfl rfl rfl rfl (Nat.le_of_ble_eq_true rfl) dX5_readClaim_85 (kwp_26_1 cy a rw S ((fi S.1 15) + 1)) ?_
  refine z_aload_n b dX5_readClaim_88 rfl rfl ?_
  refine z_calli b (z_runV (q0 := 26) (As := []) (st := []) b (k_X5_readSum hrw (ksi S 15 ((fi S.1 15) + 1)) _ h) cf_X5_readSum (kw_26 cy a rw (ksi S 15 ((fi S.1 15) + 1))) rfl wm_X5_151 wi_X5_readSum ws_X5_readSum dX5_readClaim_89 rfl (Nat.le_of_ble_eq_true rfl) ⟨by omega, by omega, Nat.le_of_ble_eq_true rfl, Nat.le_of_ble_eq_true rfl⟩) (fun r12 S13 h => ?_)
  refine y_if_ne (tgt := 97) (xl := r12.toInt) b rfl dX5_readClaim_92 (by decide) (fun c1 => ?_) (fun c1 => ?_)
  · replace h := h.1 c1
    refine z_aload_n b dX5_readClaim_97 rfl rfl ?_
    refine z_iload_n b dX5_readClaim_98 rfl rfl ?_
    refine z_iconst (v := 0) b dX5_readClaim_99 (by decide) ?_
    refine z_callv b (z_runV (q0 := 26) (As := [.int x3, .int 0]) (st := []) b (k_X5_emit hrw S13 x3 0 _ h) cf_X5_emit (kw_26 cy a rw S13) rfl wm_X5_147 wi_X5_emit ws_X5_emit dX5_readClaim_100 rfl (Nat.le_of_ble_eq_true rfl) ⟨by omega, by omega, Nat.le_of_ble_eq_true rfl, Nat.le_of_ble_eq_true rfl⟩) (fun S15 h => ?_)
    refine z_iconst (v := 1) b dX5_readClaim_103 (by decide) ?_
    exact z_zret (u := S15) b rfl (by decide) dX5_readClaim_104 h rfl (by decide) (by decide)
  · replace h := h.2 c1
    refine z_iconst (v := 0) b dX5_readClaim_95 (by decide) ?_
    exact z_zret (u := S13) b rfl (by decide) dX5_readClaim_96 h rfl (by decide) (by decide)

def w_X5_readClaim_R (cy : Nat → ClassId) (tE : Nat) (sg : KS → Int32 → (Int32 → KS → Prop) → Prop) (S : KS) (p0 : Int32) (post : Int32 → KS → Prop) : Prop :=
  w_X5_kind cy tE S (fun r1 S2 => ((r1.toInt = 17 → w_X5_readClaim_B17 cy tE sg post S2 p0 r1) ∧ (r1.toInt ≠ 17 → ((r1.toInt ≠ 27 → w_X5_readSum cy tE S2 (fun r8 S9 => ((r8.toInt ≠ 0 → w_X5_kind cy tE S9 (fun r10 S11 => ((r10.toInt = 29 → w_X5_readClaim_B78 cy tE sg post S11 r10) ∧ (r10.toInt ≠ 29 → ((r10.toInt = 30 → w_X5_readClaim_B78 cy tE sg post S11 r10) ∧ (r10.toInt ≠ 30 → ((r10.toInt = 31 → w_X5_readClaim_B78 cy tE sg post S11 r10) ∧ (r10.toInt ≠ 31 → w_X5_refuse cy tE S11 1 (fun r16 S17 => (r16 = 0 ∨ r16 = 1) ∧ post r16 S17))))))))) ∧ (r8.toInt = 0 → post 0 S9)))) ∧ (r1.toInt = 27 → w_X5_readClaim_B17 cy tE sg post S2 p0 r1)))))

set_option maxHeartbeats 4000000 in
set_option maxRecDepth 100000 in
theorem k_X5_readClaim_R {l : Launch} {D : va_G} {cy : Nat → ClassId} {T0 tB tE : Nat} {a : Nat → Nat} {rw : Nat → Option Nat} (hrw : ∀ i, i < 6 → rw i = some (a (12 + 2 * i))) {d : Nat} {sg : KS → Int32 → (Int32 → KS → Prop) → Prop} (hsg : ∀ (S : KS) (q0 : Int32) (post : Int32 → KS → Prop), sg S q0 post → Ct l D cy T0 tB tE yX5_readClaim cX5_readClaim 4 (some .boolean) (4 + 3 * d) (88 + 69 * d) 0 0 (kw cy a rw S) [.ref (a 26), .int q0] (QI D (U := KS) post (kw cy a rw))) (S : KS) (p0 : Int32) (post : Int32 → KS → Prop) (h : w_X5_readClaim_R cy tE sg S p0 post) : Ct l D cy T0 tB tE yX5_readClaim cX5_readClaim 4 (some .boolean) (4 + 3 * d + 3) (88 + 69 * d + 69) 0 0 (kw cy a rw S) [.ref (a 26), .int p0] (QI D (U := KS) post (kw cy a rw)) := by
  refine Ct.ofZ RX5 "readClaim" [(0, .ref (a 26)), (1, .int p0)] rfl rfl rfl rfl (Nat.le_of_ble_eq_true rfl) ?_
  intro p e R s m args below meth c A b
  unfold w_X5_readClaim_R at h
  refine z_aload_n b dX5_readClaim_0 rfl rfl ?_
  refine z_calli b (z_runV (q0 := 26) (As := []) (st := []) b (k_X5_kind hrw S _ h) cf_X5_kind (kw_26 cy a rw S) rfl wm_X5_66 wi_X5_kind ws_X5_kind dX5_readClaim_1 rfl (Nat.le_of_ble_eq_true rfl) ⟨by omega, by omega, Nat.le_of_ble_eq_true rfl, Nat.le_of_ble_eq_true rfl⟩) (fun r1 S2 h => ?_)
  refine z_istore_n (lv' := [(2, .int r1), (0, .ref (a 26)), (1, .int p0)]) b dX5_readClaim_4 rfl (by decide) rfl ?_
  refine z_iload_n b dX5_readClaim_5 rfl rfl ?_
  refine z_bipush (v := 17) b dX5_readClaim_6 (by decide) ?_
  refine y_icmp_eq (tgt := 17) (xl := r1.toInt) (yl := 17) b rfl (by decide) dX5_readClaim_8 (by decide) (fun c1 => ?_) (fun c1 => ?_)
  · replace h := h.1 c1
    refine z_lv0 (lv' := [(0, .ref (a 26)), (1, .int p0), (2, .int r1)]) [1, 2, 0] rfl ?_
    exact z_X5_readClaim_B17 hrw hsg b _ _ _ h
  · replace h := h.2 c1
    refine z_iload_n b dX5_readClaim_11 rfl rfl ?_
    refine z_bipush (v := 27) b dX5_readClaim_12 (by decide) ?_
    refine y_icmp_ne (tgt := 40) (xl := r1.toInt) (yl := 27) b rfl (by decide) dX5_readClaim_14 (by decide) (fun c1 => ?_) (fun c1 => ?_)
    · replace h := h.1 c1
      refine z_aload_n b dX5_readClaim_40 rfl rfl ?_
      refine z_calli b (z_runV (q0 := 26) (As := []) (st := []) b (k_X5_readSum hrw S2 _ h) cf_X5_readSum (kw_26 cy a rw S2) rfl wm_X5_151 wi_X5_readSum ws_X5_readSum dX5_readClaim_41 rfl (Nat.le_of_ble_eq_true rfl) ⟨by omega, by omega, Nat.le_of_ble_eq_true rfl, Nat.le_of_ble_eq_true rfl⟩) (fun r8 S9 h => ?_)
      refine y_if_ne (tgt := 49) (xl := r8.toInt) b rfl dX5_readClaim_44 (by decide) (fun c1 => ?_) (fun c1 => ?_)
      · replace h := h.1 c1
        refine z_aload_n b dX5_readClaim_49 rfl rfl ?_
        refine z_calli b (z_runV (q0 := 26) (As := []) (st := []) b (k_X5_kind hrw S9 _ h) cf_X5_kind (kw_26 cy a rw S9) rfl wm_X5_66 wi_X5_kind ws_X5_kind dX5_readClaim_50 rfl (Nat.le_of_ble_eq_true rfl) ⟨by omega, by omega, Nat.le_of_ble_eq_true rfl, Nat.le_of_ble_eq_true rfl⟩) (fun r10 S11 h => ?_)
        refine z_istore_n (lv' := [(3, .int r10), (2, .int r1), (0, .ref (a 26)), (1, .int p0)]) b dX5_readClaim_53 rfl (by decide) rfl ?_
        refine z_iload_n b dX5_readClaim_54 rfl rfl ?_
        refine z_bipush (v := 29) b dX5_readClaim_55 (by decide) ?_
        refine y_icmp_eq (tgt := 78) (xl := r10.toInt) (yl := 29) b rfl (by decide) dX5_readClaim_57 (by decide) (fun c1 => ?_) (fun c1 => ?_)
        · replace h := h.1 c1
          refine z_lv0 (lv' := [(0, .ref (a 26)), (3, .int r10)]) [2, 0] rfl ?_
          exact z_X5_readClaim_B78 hrw hsg b _ _ h
        · replace h := h.2 c1
          refine z_iload_n b dX5_readClaim_60 rfl rfl ?_
          refine z_bipush (v := 30) b dX5_readClaim_61 (by decide) ?_
          refine y_icmp_eq (tgt := 78) (xl := r10.toInt) (yl := 30) b rfl (by decide) dX5_readClaim_63 (by decide) (fun c1 => ?_) (fun c1 => ?_)
          · replace h := h.1 c1
            refine z_lv0 (lv' := [(0, .ref (a 26)), (3, .int r10)]) [2, 0] rfl ?_
            exact z_X5_readClaim_B78 hrw hsg b _ _ h
          · replace h := h.2 c1
            refine z_iload_n b dX5_readClaim_66 rfl rfl ?_
            refine z_bipush (v := 31) b dX5_readClaim_67 (by decide) ?_
            refine y_icmp_eq (tgt := 78) (xl := r10.toInt) (yl := 31) b rfl (by decide) dX5_readClaim_69 (by decide) (fun c1 => ?_) (fun c1 => ?_)
            · replace h := h.1 c1
              refine z_lv0 (lv' := [(0, .ref (a 26)), (3, .int r10)]) [2, 0] rfl ?_
              exact z_X5_readClaim_B78 hrw hsg b _ _ h
            · replace h := h.2 c1
              refine z_aload_n b dX5_readClaim_72 rfl rfl ?_
              refine z_iconst (v := 1) b dX5_readClaim_73 (by decide) ?_
              refine z_calli b (z_runV (q0 := 26) (As := [.int 1]) (st := []) b (k_X5_refuse hrw S11 1 _ h) cf_X5_refuse (kw_26 cy a rw S11) rfl wm_X5_70 wi_X5_refuse ws_X5_refuse dX5_readClaim_74 rfl (Nat.le_of_ble_eq_true rfl) ⟨by omega, by omega, Nat.le_of_ble_eq_true rfl, Nat.le_of_ble_eq_true rfl⟩) (fun r16 S17 h => ?_)
              obtain ⟨g18, h⟩ := h
              exact z_zret (u := S17) b rfl (z_bool g18) dX5_readClaim_77 h rfl (by decide) (by decide)
      · replace h := h.2 c1
        refine z_iconst (v := 0) b dX5_readClaim_47 (by decide) ?_
        exact z_zret (u := S9) b rfl (by decide) dX5_readClaim_48 h rfl (by decide) (by decide)
    · replace h := h.2 c1
      refine z_lv0 (lv' := [(0, .ref (a 26)), (1, .int p0), (2, .int r1)]) [1, 2, 0] rfl ?_
      exact z_X5_readClaim_B17 hrw hsg b _ _ _ h

set_option maxHeartbeats 4000000 in
set_option maxRecDepth 100000 in
theorem k_X5_readClaim_all {l : Launch} {D : va_G} {cy : Nat → ClassId} {T0 tB tE : Nat} {a : Nat → Nat} {rw : Nat → Option Nat} (hrw : ∀ i, i < 6 → rw i = some (a (12 + 2 * i))) : ∀ (d : Nat), ∀ (S : KS) (q0 : Int32) (post : Int32 → KS → Prop), lpn (w_X5_readClaim_R cy tE) (fun _ _ _ => False) d S q0 post → Ct l D cy T0 tB tE yX5_readClaim cX5_readClaim 4 (some .boolean) (4 + 3 * d) (88 + 69 * d) 0 0 (kw cy a rw S) [.ref (a 26), .int q0] (QI D (U := KS) post (kw cy a rw)) := by
  intro d
  induction d with
  | zero => intro _ _ _ h; exact h.elim
  | succ d ih =>
    intro S q0 post h
    have e1 : 4 + 3 * (d + 1) = 4 + 3 * d + 3 := by omega
    have e2 : 88 + 69 * (d + 1) = 88 + 69 * d + 69 := by omega
    rw [e1, e2]
    exact k_X5_readClaim_R hrw (d := d) ih S q0 post h

def w_X5_readEither (cy : Nat → ClassId) (tE : Nat) (S : KS) (p0 : Int32) (post : Int32 → KS → Prop) : Prop := w_X5_readEither_R cy tE (lpn (w_X5_readClaim_R cy tE) (fun _ _ _ => False) 10) S p0 post

set_option maxHeartbeats 4000000 in
set_option maxRecDepth 100000 in
theorem k_X5_readEither {l : Launch} {D : va_G} {cy : Nat → ClassId} {T0 tB tE : Nat} {a : Nat → Nat} {rw : Nat → Option Nat} (hrw : ∀ i, i < 6 → rw i = some (a (12 + 2 * i))) (S : KS) (p0 : Int32) (post : Int32 → KS → Prop) (h : w_X5_readEither cy tE S p0 post) : Ct l D cy T0 tB tE yX5_readEither cX5_readEither 5 (some .boolean) 35 801 0 0 (kw cy a rw S) [.ref (a 26), .int p0] (QI D (U := KS) post (kw cy a rw)) := k_X5_readEither_R hrw (d := 10) (k_X5_readClaim_all hrw 10) S p0 post h

def w_X5_readOpened (cy : Nat → ClassId) (tE : Nat) (S : KS) (p0 : Int32) (p1 : Int32) (post : Int32 → KS → Prop) : Prop := w_X5_readOpened_R cy tE (lpn (w_X5_readClaim_R cy tE) (fun _ _ _ => False) 10) S p0 p1 post

set_option maxHeartbeats 4000000 in
set_option maxRecDepth 100000 in
theorem k_X5_readOpened {l : Launch} {D : va_G} {cy : Nat → ClassId} {T0 tB tE : Nat} {a : Nat → Nat} {rw : Nat → Option Nat} (hrw : ∀ i, i < 6 → rw i = some (a (12 + 2 * i))) (S : KS) (p0 : Int32) (p1 : Int32) (post : Int32 → KS → Prop) (h : w_X5_readOpened cy tE S p0 p1 post) : Ct l D cy T0 tB tE yX5_readOpened cX5_readOpened 3 (some .boolean) 36 825 0 0 (kw cy a rw S) [.ref (a 26), .int p0, .int p1] (QI D (U := KS) post (kw cy a rw)) := k_X5_readOpened_R hrw (d := 10) (k_X5_readClaim_all hrw 10) S p0 p1 post h

def w_X5_readClaim (cy : Nat → ClassId) (tE : Nat) (S : KS) (p0 : Int32) (post : Int32 → KS → Prop) : Prop := w_X5_readClaim_R cy tE (lpn (w_X5_readClaim_R cy tE) (fun _ _ _ => False) 10) S p0 post

set_option maxHeartbeats 4000000 in
set_option maxRecDepth 100000 in
theorem k_X5_readClaim {l : Launch} {D : va_G} {cy : Nat → ClassId} {T0 tB tE : Nat} {a : Nat → Nat} {rw : Nat → Option Nat} (hrw : ∀ i, i < 6 → rw i = some (a (12 + 2 * i))) (S : KS) (p0 : Int32) (post : Int32 → KS → Prop) (h : w_X5_readClaim cy tE S p0 post) : Ct l D cy T0 tB tE yX5_readClaim cX5_readClaim 4 (some .boolean) 37 847 0 0 (kw cy a rw S) [.ref (a 26), .int p0] (QI D (U := KS) post (kw cy a rw)) := k_X5_readClaim_R hrw (d := 10) (k_X5_readClaim_all hrw 10) S p0 post h

def w_X5_readCondition_B20 (cy : Nat → ClassId) (tE : Nat) (post : Int32 → KS → Prop) (S : KS) (y0 : Int32) : Prop :=
  (y0 = 0 ∨ y0 = 1) ∧ post y0 S

set_option maxHeartbeats 4000000 in
set_option maxRecDepth 100000 in
theorem z_X5_readCondition_B20 {p : Program} {l : Launch} {e : Env} {R : Room} {s : State} {m : MethodId} {args : Array Value} {below : List Frame} {meth : Method} {c : Code} {D : va_G} {cy : Nat → ClassId} {T0 tB tE : Nat} {A : Nat → Prop} {a : Nat → Nat} {rw : Nat → Option Nat} (hrw : ∀ i, i < 6 → rw i = some (a (12 + 2 * i))) {post : Int32 → KS → Prop} (b : Bz p R s m args meth c D cy T0 tB tE A 1 cX5_readCondition RX5 (some .boolean) "readCondition" 36 825 0 0) (S : KS) (y0 : Int32) (h : w_X5_readCondition_B20 cy tE post S y0) : Z p l e R s m args below meth c D A 1 (MQ below (QI D (U := KS) post (kw cy a rw) A) args s 0 0 A) 0 0 (kw cy a rw S) [] 20 [.int y0] := by
  unfold w_X5_readCondition_B20 at h
  obtain ⟨g3, h⟩ := h
  exact z_zret (u := S) b rfl (z_bool g3) dX5_readCondition_20 h rfl (by decide) (by decide)

def w_X5_readCondition_B19 (cy : Nat → ClassId) (tE : Nat) (post : Int32 → KS → Prop) (S : KS)  : Prop :=
  w_X5_readCondition_B20 cy tE post S 0

set_option maxHeartbeats 4000000 in
set_option maxRecDepth 100000 in
theorem z_X5_readCondition_B19 {p : Program} {l : Launch} {e : Env} {R : Room} {s : State} {m : MethodId} {args : Array Value} {below : List Frame} {meth : Method} {c : Code} {D : va_G} {cy : Nat → ClassId} {T0 tB tE : Nat} {A : Nat → Prop} {a : Nat → Nat} {rw : Nat → Option Nat} (hrw : ∀ i, i < 6 → rw i = some (a (12 + 2 * i))) {post : Int32 → KS → Prop} (b : Bz p R s m args meth c D cy T0 tB tE A 1 cX5_readCondition RX5 (some .boolean) "readCondition" 36 825 0 0) (S : KS)  (h : w_X5_readCondition_B19 cy tE post S ) : Z p l e R s m args below meth c D A 1 (MQ below (QI D (U := KS) post (kw cy a rw) A) args s 0 0 A) 0 0 (kw cy a rw S) [] 19 [] := by
  unfold w_X5_readCondition_B19 at h
  refine z_iconst (v := 0) b dX5_readCondition_19 (by decide) ?_
  exact z_X5_readCondition_B20 hrw b _ _ h

def w_X5_readCondition (cy : Nat → ClassId) (tE : Nat) (S : KS)  (post : Int32 → KS → Prop) : Prop :=
  w_X5_readEither cy tE S 0 (fun r1 S2 => ((r1.toInt = 0 → w_X5_readCondition_B19 cy tE post S2) ∧ (r1.toInt ≠ 0 → w_X5_isAtEnd cy tE S2 (fun r4 S5 => ((r4.toInt = 0 → w_X5_readCondition_B19 cy tE post S5) ∧ (r4.toInt ≠ 0 → w_X5_readCondition_B20 cy tE post S5 1))))))

set_option maxHeartbeats 4000000 in
set_option maxRecDepth 100000 in
theorem k_X5_readCondition {l : Launch} {D : va_G} {cy : Nat → ClassId} {T0 tB tE : Nat} {a : Nat → Nat} {rw : Nat → Option Nat} (hrw : ∀ i, i < 6 → rw i = some (a (12 + 2 * i))) (S : KS)  (post : Int32 → KS → Prop) (h : w_X5_readCondition cy tE S  post) : Ct l D cy T0 tB tE yX5_readCondition cX5_readCondition 1 (some .boolean) 36 825 0 0 (kw cy a rw S) [.ref (a 26)] (QI D (U := KS) post (kw cy a rw)) := by
  refine Ct.ofZ RX5 "readCondition" [(0, .ref (a 26))] rfl rfl rfl rfl (Nat.le_of_ble_eq_true rfl) ?_
  intro p e R s m args below meth c A b
  unfold w_X5_readCondition at h
  refine z_aload_n b dX5_readCondition_0 rfl rfl ?_
  refine z_iconst (v := 0) b dX5_readCondition_1 (by decide) ?_
  refine z_calli b (z_runV (q0 := 26) (As := [.int 0]) (st := []) b (k_X5_readEither hrw S 0 _ h) cf_X5_readEither (kw_26 cy a rw S) rfl wm_X5_112 wi_X5_readEither ws_X5_readEither dX5_readCondition_2 rfl (Nat.le_of_ble_eq_true rfl) ⟨by decide, by decide, Nat.le_of_ble_eq_true rfl, Nat.le_of_ble_eq_true rfl⟩) (fun r1 S2 h => ?_)
  refine y_if_eq (tgt := 19) (xl := r1.toInt) b rfl dX5_readCondition_5 (by decide) (fun c1 => ?_) (fun c1 => ?_)
  · replace h := h.1 c1
    refine z_lv0 (lv' := []) [] rfl ?_
    exact z_X5_readCondition_B19 hrw b _ h
  · replace h := h.2 c1
    refine z_aload_n b dX5_readCondition_8 rfl rfl ?_
    refine z_calli b (z_runV (q0 := 26) (As := []) (st := []) b (k_X5_isAtEnd hrw S2 _ h) cf_X5_isAtEnd (kw_26 cy a rw S2) rfl wm_X5_155 wi_X5_isAtEnd ws_X5_isAtEnd dX5_readCondition_9 rfl (Nat.le_of_ble_eq_true rfl) ⟨by decide, by decide, Nat.le_of_ble_eq_true rfl, Nat.le_of_ble_eq_true rfl⟩) (fun r4 S5 h => ?_)
    refine y_if_eq (tgt := 19) (xl := r4.toInt) b rfl dX5_readCondition_12 (by decide) (fun c1 => ?_) (fun c1 => ?_)
    · replace h := h.1 c1
      refine z_lv0 (lv' := []) [] rfl ?_
      exact z_X5_readCondition_B19 hrw b _ h
    · replace h := h.2 c1
      refine z_iconst (v := 1) b dX5_readCondition_15 (by decide) ?_
      refine z_goto (tgt := 20) b dX5_readCondition_16 (by decide) ?_
      refine z_lv0 (lv' := []) [] rfl ?_
      exact z_X5_readCondition_B20 hrw b _ _ h

def w_X9_copy (cy : Nat → ClassId) (tE : Nat) (S : KS) (p9 : Nat) (p0 : Nat) (post : KS → Prop) : Prop :=
  (p0 < 5) ∧ (p9 < 5) ∧ (p9 < 5) ∧ (p9 < 5) ∧ (p0 < 5) ∧ (p9 < 5) ∧ post (ksa S (1 + p9) (va_cpy (ar S.1 (1 + p0)) (ar S.1 (1 + p9)) 0 0 51))

set_option maxHeartbeats 4000000 in
set_option maxRecDepth 100000 in
theorem k_X9_copy {l : Launch} {D : va_G} {cy : Nat → ClassId} {T0 tB tE : Nat} {a : Nat → Nat} {rw : Nat → Option Nat} (hrw : ∀ i, i < 6 → rw i = some (a (12 + 2 * i))) (S : KS) (p9 : Nat) (p0 : Nat) (post : KS → Prop) (h : w_X9_copy cy tE S p9 p0 post) : Ct l D cy T0 tB tE yX9_copy cX9_copy 2 none 1 40 0 0 (kw cy a rw S) [.ref (a (2 + 2 * p9)), .ref (a (2 + 2 * p0))] (QV D (U := KS) post (kw cy a rw)) := by
  refine Ct.ofZ RX9 "copy" [(0, .ref (a (2 + 2 * p9))), (1, .ref (a (2 + 2 * p0)))] rfl rfl rfl rfl (Nat.le_of_ble_eq_true rfl) ?_
  intro p e R s m args below meth c A b
  unfold w_X9_copy at h
  refine z_aload_n b dX9_copy_0 rfl rfl ?_
  obtain ⟨g1, h⟩ := h
  refine z_get (q0 := 2 + 2 * p0) (k9 := 0) (v := .ref (a (3 + 2 * p0))) b (kw_so cy a rw S g1) rfl in_X9 (by decide) wf_X9_11 rfl dX9_copy_1 ?_
  refine z_iconst (v := 0) b dX9_copy_4 (by decide) ?_
  refine z_aload_n b dX9_copy_5 rfl rfl ?_
  obtain ⟨g2, h⟩ := h
  refine z_get (q0 := 2 + 2 * p9) (k9 := 0) (v := .ref (a (3 + 2 * p9))) b (kw_so cy a rw S g2) rfl in_X9 (by decide) wf_X9_11 rfl dX9_copy_6 ?_
  refine z_iconst (v := 0) b dX9_copy_9 (by decide) ?_
  refine z_aload_n b dX9_copy_10 rfl rfl ?_
  obtain ⟨g3, h⟩ := h
  refine z_get (q0 := 2 + 2 * p9) (k9 := 0) (v := .ref (a (3 + 2 * p9))) b (kw_so cy a rw S g3) rfl in_X9 (by decide) wf_X9_11 rfl dX9_copy_11 ?_
  obtain ⟨g4, h⟩ := h
  refine z_alen (q0 := 3 + 2 * p9) (t0 := 0) (v := 51) b (kw_sr cy a rw S g4) rfl rfl dX9_copy_14 ?_
  obtain ⟨g5, h⟩ := h
  obtain ⟨g6, h⟩ := h
  refine z_copyi (q0 := 3 + 2 * p0) (q1 := 3 + 2 * p9) (j0 := 0) (j1 := 0) (jn := 51) b wm_X9_26 wn_arraycopy ws_arraycopy wi_System (kw_sr (j := p0) cy a rw S g5) (kw_sr (j := p9) cy a rw S g6) (by decide) (by decide) (by decide) (by decide) (by decide) (by decide) (by decide +kernel) dX9_copy_15 (kwf_sr (j := p9) cy a rw S g6 _) ?_
  exact z_vret (u := (ksa S (1 + p9) (va_cpy (ar S.1 (1 + p0)) (ar S.1 (1 + p9)) 0 0 51))) b rfl dX9_copy_18 h rfl (by decide) (by decide)

def w_X10_withLetter (cy : Nat → ClassId) (tE : Nat) (S : KS) (p0 : Int64) (p1 : Int32) (post : Int64 → KS → Prop) : Prop :=
  post ((((p0 * 32) + (p1 : Int32).toInt64) - 97) + 1) S

set_option maxHeartbeats 4000000 in
set_option maxRecDepth 100000 in
theorem k_X10_withLetter {l : Launch} {D : va_G} {cy : Nat → ClassId} {T0 tB tE : Nat} {a : Nat → Nat} {rw : Nat → Option Nat} (hrw : ∀ i, i < 6 → rw i = some (a (12 + 2 * i))) (S : KS) (p0 : Int64) (p1 : Int32) (post : Int64 → KS → Prop) (h : w_X10_withLetter cy tE S p0 p1 post) : Ct l D cy T0 tB tE yX10_withLetter cX10_withLetter 3 (some .long) 0 0 0 0 (kw cy a rw S) [.long p0, .int p1] (QL D (U := KS) post (kw cy a rw)) := by
  refine Ct.ofZ RX10 "withLetter" [(0, .long p0), (2, .int p1)] rfl rfl rfl rfl (Nat.le_of_ble_eq_true rfl) ?_
  intro p e R s m args below meth c A b
  unfold w_X10_withLetter at h
  refine z_lload_n b dX10_withLetter_0 rfl rfl ?_
  refine z_ldc2 b wl_X10_79 dX10_withLetter_1 ?_
  refine z_lmul b dX10_withLetter_4 rfl ?_
  refine z_iload_n b dX10_withLetter_5 rfl rfl ?_
  refine z_i2l b dX10_withLetter_6 rfl ?_
  refine z_ladd b dX10_withLetter_7 rfl ?_
  refine z_ldc2 b wl_X10_81 dX10_withLetter_8 ?_
  refine z_lsub b dX10_withLetter_11 rfl ?_
  refine z_lconst (v := 1) b dX10_withLetter_12 (by decide) ?_
  refine z_ladd b dX10_withLetter_13 rfl ?_
  exact z_lret (u := S) b rfl dX10_withLetter_14 h rfl (by decide) (by decide)

def w_X7_add_B19 (cy : Nat → ClassId) (tE : Nat) (post : Int32 → KS → Prop) (S : KS)  : Prop :=
  post (-1) S

set_option maxHeartbeats 4000000 in
set_option maxRecDepth 100000 in
theorem z_X7_add_B19 {p : Program} {l : Launch} {e : Env} {R : Room} {s : State} {m : MethodId} {args : Array Value} {below : List Frame} {meth : Method} {c : Code} {D : va_G} {cy : Nat → ClassId} {T0 tB tE : Nat} {A : Nat → Prop} {a : Nat → Nat} {rw : Nat → Option Nat} (hrw : ∀ i, i < 6 → rw i = some (a (12 + 2 * i))) {post : Int32 → KS → Prop} (b : Bz p R s m args meth c D cy T0 tB tE A 2 cX7_add RX7 (some .int) "add" 0 0 0 0) (S : KS)  (h : w_X7_add_B19 cy tE post S ) : Z p l e R s m args below meth c D A 2 (MQ below (QI D (U := KS) post (kw cy a rw) A) args s 0 0 A) 0 0 (kw cy a rw S) [] 19 [] := by
  unfold w_X7_add_B19 at h
  refine z_iconst (v := (-1)) b dX7_add_19 (by decide) ?_
  exact z_iret (u := S) b rfl dX7_add_20 h rfl (by decide) (by decide)

def w_X7_add (cy : Nat → ClassId) (tE : Nat) (S : KS) (p9 : Nat) (p0 : Int32) (post : Int32 → KS → Prop) : Prop :=
  (p9 < 7) ∧ (((fi S.1 (1 + 2 * p9)).toInt < 0 → w_X7_add_B19 cy tE post S) ∧ (0 ≤ (fi S.1 (1 + 2 * p9)).toInt → (p9 < 7) ∧ (p9 < 7) ∧ (p9 < 7) ∧ (((fi S.1 (1 + 2 * p9)).toInt < (Int32.ofNat (rowN p9)).toInt → (p9 < 7) ∧ (p9 < 7) ∧ (p9 < 7) ∧ (0 ≤ (fi S.1 (1 + 2 * p9)).toInt ∧ (fi S.1 (1 + 2 * p9)).toInt < (rowN p9 : Nat)) ∧ (p9 < 7) ∧ (p9 < 7) ∧ (p9 < 7) ∧ post (fi (ksi (ksu S (6 + p9) ((fi S.1 (1 + 2 * p9)).toNatClampNeg) p0) (1 + 2 * p9) ((fi S.1 (1 + 2 * p9)) + 1)).1 (1 + 2 * p9)) (ksi (ksu S (6 + p9) ((fi S.1 (1 + 2 * p9)).toNatClampNeg) p0) (1 + 2 * p9) ((fi S.1 (1 + 2 * p9)) + 1))) ∧ ((Int32.ofNat (rowN p9)).toInt ≤ (fi S.1 (1 + 2 * p9)).toInt → w_X7_add_B19 cy tE post S))))

set_option maxHeartbeats 4000000 in
set_option maxRecDepth 100000 in
theorem k_X7_add {l : Launch} {D : va_G} {cy : Nat → ClassId} {T0 tB tE : Nat} {a : Nat → Nat} {rw : Nat → Option Nat} (hrw : ∀ i, i < 6 → rw i = some (a (12 + 2 * i))) (S : KS) (p9 : Nat) (p0 : Int32) (post : Int32 → KS → Prop) (h : w_X7_add cy tE S p9 p0 post) : Ct l D cy T0 tB tE yX7_add cX7_add 2 (some .int) 0 0 0 0 (kw cy a rw S) [.ref (a (12 + 2 * p9)), .int p0] (QI D (U := KS) post (kw cy a rw)) := by
  refine Ct.ofZ RX7 "add" [(0, .ref (a (12 + 2 * p9))), (1, .int p0)] rfl rfl rfl rfl (Nat.le_of_ble_eq_true rfl) ?_
  intro p e R s m args below meth c A b
  unfold w_X7_add at h
  refine z_aload_n b dX7_add_0 rfl rfl ?_
  obtain ⟨g1, h⟩ := h
  refine z_get (q0 := 12 + 2 * p9) (k9 := 1) (v := .int (fi S.1 (1 + 2 * p9))) b (kw_ro cy a rw S g1) rfl in_X7 (by decide) wf_X7_9 rfl dX7_add_1 ?_
  refine y_if_lt (tgt := 19) (xl := (fi S.1 (1 + 2 * p9)).toInt) b rfl dX7_add_4 (by decide) (fun c1 => ?_) (fun c1 => ?_)
  · replace h := h.1 c1
    refine z_lv0 (lv' := []) [] rfl ?_
    exact z_X7_add_B19 hrw b _ h
  · replace h := h.2 c1
    refine z_aload_n b dX7_add_7 rfl rfl ?_
    obtain ⟨g2, h⟩ := h
    refine z_get (q0 := 12 + 2 * p9) (k9 := 1) (v := .int (fi S.1 (1 + 2 * p9))) b (kw_ro cy a rw S g2) rfl in_X7 (by decide) wf_X7_9 rfl dX7_add_8 ?_
    refine z_aload_n b dX7_add_11 rfl rfl ?_
    obtain ⟨g3, h⟩ := h
    refine z_get (q0 := 12 + 2 * p9) (k9 := 0) (v := .ref (a (13 + 2 * p9))) b (kw_ro cy a rw S g3) rfl in_X7 (by decide) wf_X7_25 rfl dX7_add_12 ?_
    obtain ⟨g4, h⟩ := h
    refine z_alen (q0 := 13 + 2 * p9) (t0 := 0) (v := (Int32.ofNat (rowN p9))) b (kw_rr cy a rw S g4) rfl rfl dX7_add_15 ?_
    refine y_icmp_lt (tgt := 21) (xl := (fi S.1 (1 + 2 * p9)).toInt) (yl := (Int32.ofNat (rowN p9)).toInt) b rfl rfl dX7_add_16 (by decide) (fun c1 => ?_) (fun c1 => ?_)
    · replace h := h.1 c1
      refine z_aload_n b dX7_add_21 rfl rfl ?_
      obtain ⟨g5, h⟩ := h
      refine z_get (q0 := 12 + 2 * p9) (k9 := 0) (v := .ref (a (13 + 2 * p9))) b (kw_ro cy a rw S g5) rfl in_X7 (by decide) wf_X7_25 rfl dX7_add_22 ?_
      refine z_aload_n b dX7_add_25 rfl rfl ?_
      obtain ⟨g6, h⟩ := h
      refine z_get (q0 := 12 + 2 * p9) (k9 := 1) (v := .int (fi S.1 (1 + 2 * p9))) b (kw_ro cy a rw S g6) rfl in_X7 (by decide) wf_X7_9 rfl dX7_add_26 ?_
      refine z_iload_n b dX7_add_29 rfl rfl ?_
      obtain ⟨g7, h⟩ := h
      obtain ⟨g8, h⟩ := h
      refine y_iast (q0 := 13 + 2 * p9) (j := (fi S.1 (1 + 2 * p9)).toNatClampNeg) b (kw_rr cy a rw S g7) (zx_r g8.1 g8.2) dX7_add_30 (kwa_rr cy a rw S g7 ((fi S.1 (1 + 2 * p9)).toNatClampNeg) p0) ?_
      refine z_aload_n b dX7_add_31 rfl rfl ?_
      refine z_dup b dX7_add_32 rfl ?_
      obtain ⟨g9, h⟩ := h
      refine z_get (q0 := 12 + 2 * p9) (k9 := 1) (v := .int (fi S.1 (1 + 2 * p9))) b (kw_ro cy a rw (ksu S (6 + p9) ((fi S.1 (1 + 2 * p9)).toNatClampNeg) p0) g9) rfl in_X7 (by decide) wf_X7_9 rfl dX7_add_33 ?_
      refine z_iconst (v := 1) b dX7_add_36 (by decide) ?_
      refine z_iadd b dX7_add_37 rfl ?_
      obtain ⟨g10, h⟩ := h
      refine z_put (q0 := 12 + 2 * p9) (k9 := 1) tyX7 b (kw_ro cy a rw (ksu S (6 + p9) ((fi S.1 (1 + 2 * p9)).toNatClampNeg) p0) g10) rfl in_X7 tyX7_ok nmX7 (by decide) wf_X7_9 rfl rfl rfl rfl (Nat.le_of_ble_eq_true rfl) dX7_add_38 (kwp_ro_1 cy a rw (ksu S (6 + p9) ((fi S.1 (1 + 2 * p9)).toNatClampNeg) p0) g10 ((fi S.1 (1 + 2 * p9)) + 1)) ?_
      refine z_aload_n b dX7_add_41 rfl rfl ?_
      obtain ⟨g11, h⟩ := h
      refine z_get (q0 := 12 + 2 * p9) (k9 := 1) (v := .int (fi (ksi (ksu S (6 + p9) ((fi S.1 (1 + 2 * p9)).toNatClampNeg) p0) (1 + 2 * p9) ((fi S.1 (1 + 2 * p9)) + 1)).1 (1 + 2 * p9))) b (kw_ro cy a rw (ksi (ksu S (6 + p9) ((fi S.1 (1 + 2 * p9)).toNatClampNeg) p0) (1 + 2 * p9) ((fi S.1 (1 + 2 * p9)) + 1)) g11) rfl in_X7 (by decide) wf_X7_9 rfl dX7_add_42 ?_
      exact z_iret (u := (ksi (ksu S (6 + p9) ((fi S.1 (1 + 2 * p9)).toNatClampNeg) p0) (1 + 2 * p9) ((fi S.1 (1 + 2 * p9)) + 1))) b rfl dX7_add_45 h rfl (by decide) (by decide)
    · replace h := h.2 c1
      refine z_lv0 (lv' := []) [] rfl ?_
      exact z_X7_add_B19 hrw b _ h

def w_X11_past_B22 (cy : Nat → ClassId) (tE : Nat) (post : Int32 → KS → Prop) (S : KS) (y0 : Int32) : Prop :=
  post y0 S

set_option maxHeartbeats 4000000 in
set_option maxRecDepth 100000 in
theorem z_X11_past_B22 {p : Program} {l : Launch} {e : Env} {R : Room} {s : State} {m : MethodId} {args : Array Value} {below : List Frame} {meth : Method} {c : Code} {D : va_G} {cy : Nat → ClassId} {T0 tB tE : Nat} {A : Nat → Prop} {a : Nat → Nat} {rw : Nat → Option Nat} (hrw : ∀ i, i < 6 → rw i = some (a (12 + 2 * i))) {post : Int32 → KS → Prop} (b : Bz p R s m args meth c D cy T0 tB tE A 2 cX11_past RX11 (some .int) "past" 1 21 0 0) (S : KS) (y0 : Int32) (h : w_X11_past_B22 cy tE post S y0) : Z p l e R s m args below meth c D A 2 (MQ below (QI D (U := KS) post (kw cy a rw) A) args s 0 0 A) 0 0 (kw cy a rw S) [] 22 [.int y0] := by
  unfold w_X11_past_B22 at h
  exact z_iret (u := S) b rfl dX11_past_22 h rfl (by decide) (by decide)

def w_X11_past (cy : Nat → ClassId) (tE : Nat) (S : KS) (p0 : Int32) (post : Int32 → KS → Prop) : Prop :=
  w_X11_isWithin cy tE S p0 767 (fun r1 S2 => ((r1.toInt = 0 → w_X11_past_B22 cy tE post S2 (-1)) ∧ (r1.toInt ≠ 0 → w_X7_add cy tE S2 6 p0 (fun r3 S4 => w_X11_past_B22 cy tE post S4 r3))))

set_option maxHeartbeats 4000000 in
set_option maxRecDepth 100000 in
theorem k_X11_past {l : Launch} {D : va_G} {cy : Nat → ClassId} {T0 tB tE : Nat} {a : Nat → Nat} {rw : Nat → Option Nat} (hrw : ∀ i, i < 6 → rw i = some (a (12 + 2 * i))) (S : KS) (p0 : Int32) (post : Int32 → KS → Prop) (h : w_X11_past cy tE S p0 post) : Ct l D cy T0 tB tE yX11_past cX11_past 2 (some .int) 1 21 0 0 (kw cy a rw S) [.ref (a 0), .int p0] (QI D (U := KS) post (kw cy a rw)) := by
  refine Ct.ofZ RX11 "past" [(0, .ref (a 0)), (1, .int p0)] rfl rfl rfl rfl (Nat.le_of_ble_eq_true rfl) ?_
  intro p e R s m args below meth c A b
  unfold w_X11_past at h
  refine z_iload_n b dX11_past_0 rfl rfl ?_
  refine z_sipush (v := 767) b dX11_past_1 (by decide) ?_
  refine z_calli b (z_runS (As := [.int p0, .int 767]) (st := []) b (k_X11_isWithin hrw S p0 767 _ h) cf_X11_isWithin wm_X11_73 ws_X11_isWithin dX11_past_4 rfl (Nat.le_of_ble_eq_true rfl) ⟨by decide, by decide, Nat.le_of_ble_eq_true rfl, Nat.le_of_ble_eq_true rfl⟩) (fun r1 S2 h => ?_)
  refine y_if_eq (tgt := 21) (xl := r1.toInt) b rfl dX11_past_7 (by decide) (fun c1 => ?_) (fun c1 => ?_)
  · replace h := h.1 c1
    refine z_iconst (v := (-1)) b dX11_past_21 (by decide) ?_
    refine z_lv0 (lv' := []) [] rfl ?_
    exact z_X11_past_B22 hrw b _ _ h
  · replace h := h.2 c1
    refine z_aload_n b dX11_past_10 rfl rfl ?_
    refine z_get (q0 := 0) (k9 := 8) (v := .ref (a 24)) b (kw_0 cy a rw S2) rfl in_X11 (by decide) wf_X11_65 rfl dX11_past_11 ?_
    refine z_iload_n b dX11_past_14 rfl rfl ?_
    refine z_calli b (z_runV (q0 := 24) (As := [.int p0]) (st := []) b (k_X7_add hrw S2 6 p0 _ h) cf_X7_add (kw_24 cy a rw S2) rfl wm_X11_172 wi_X7_add ws_X7_add dX11_past_15 rfl (Nat.le_of_ble_eq_true rfl) ⟨by decide, by decide, Nat.le_of_ble_eq_true rfl, Nat.le_of_ble_eq_true rfl⟩) (fun r3 S4 h => ?_)
    refine z_goto (tgt := 22) b dX11_past_18 (by decide) ?_
    refine z_lv0 (lv' := []) [] rfl ?_
    exact z_X11_past_B22 hrw b _ _ h

def w_X11_end (cy : Nat → ClassId) (tE : Nat) (S : KS) (p0 : Int32) (post : Int32 → KS → Prop) : Prop :=
  w_X11_isWithin cy tE S p0 (fi S.1 0) (fun r1 S2 => ((r1.toInt ≠ 0 → post 1 (ksi S2 0 p0)) ∧ (r1.toInt = 0 → post 0 S2)))

set_option maxHeartbeats 4000000 in
set_option maxRecDepth 100000 in
theorem k_X11_end {l : Launch} {D : va_G} {cy : Nat → ClassId} {T0 tB tE : Nat} {a : Nat → Nat} {rw : Nat → Option Nat} (hrw : ∀ i, i < 6 → rw i = some (a (12 + 2 * i))) (S : KS) (p0 : Int32) (post : Int32 → KS → Prop) (h : w_X11_end cy tE S p0 post) : Ct l D cy T0 tB tE yX11_end cX11_end 2 (some .boolean) 1 21 0 0 (kw cy a rw S) [.ref (a 0), .int p0] (QI D (U := KS) post (kw cy a rw)) := by
  refine Ct.ofZ RX11 "end" [(0, .ref (a 0)), (1, .int p0)] rfl rfl rfl rfl (Nat.le_of_ble_eq_true rfl) ?_
  intro p e R s m args below meth c A b
  unfold w_X11_end at h
  refine z_iload_n b dX11_end_0 rfl rfl ?_
  refine z_aload_n b dX11_end_1 rfl rfl ?_
  refine z_get (q0 := 0) (k9 := 1) (v := .int (fi S.1 0)) b (kw_0 cy a rw S) rfl in_X11 (by decide) wf_X11_13 rfl dX11_end_2 ?_
  refine z_calli b (z_runS (As := [.int p0, .int (fi S.1 0)]) (st := []) b (k_X11_isWithin hrw S p0 (fi S.1 0) _ h) cf_X11_isWithin wm_X11_73 ws_X11_isWithin dX11_end_5 rfl (Nat.le_of_ble_eq_true rfl) ⟨by decide, by decide, Nat.le_of_ble_eq_true rfl, Nat.le_of_ble_eq_true rfl⟩) (fun r1 S2 h => ?_)
  refine y_if_ne (tgt := 13) (xl := r1.toInt) b rfl dX11_end_8 (by decide) (fun c1 => ?_) (fun c1 => ?_)
  · replace h := h.1 c1
    refine z_aload_n b dX11_end_13 rfl rfl ?_
    refine z_iload_n b dX11_end_14 rfl rfl ?_
    refine z_put (q0 := 0) (k9 := 1) tyX11 b (kw_0 cy a rw S2) rfl in_X11 tyX11_ok nmX11 (by decide) wf_X11_13 rfl rfl rfl rfl (Nat.le_of_ble_eq_true rfl) dX11_end_15 (kwp_0_1 cy a rw S2 p0) ?_
    refine z_iconst (v := 1) b dX11_end_18 (by decide) ?_
    exact z_zret (u := (ksi S2 0 p0)) b rfl (by decide) dX11_end_19 h rfl (by decide) (by decide)
  · replace h := h.2 c1
    refine z_iconst (v := 0) b dX11_end_11 (by decide) ?_
    exact z_zret (u := S2) b rfl (by decide) dX11_end_12 h rfl (by decide) (by decide)

def w_Jx4a65c_size_8abf5 (cy : Nat → ClassId) (tE : Nat) (S : KS) (p9 : Nat) (post : Int32 → KS → Prop) : Prop :=
  ∃ (i1 : Nat) (f2 : Int32) (f3 : Nat) (f4 : Int32), S.2.2.2[i1]? = some (p9, .inr (0, [.int f2, .ref f3, .int f4])) ∧ post f4 S

set_option maxHeartbeats 4000000 in
set_option maxRecDepth 100000 in
theorem k_Jx4a65c_size_8abf5 {l : Launch} {D : va_G} {cy : Nat → ClassId} {T0 tB tE : Nat} {a : Nat → Nat} {rw : Nat → Option Nat} (hrw : ∀ i, i < 6 → rw i = some (a (12 + 2 * i))) (S : KS) (p9 : Nat) (post : Int32 → KS → Prop) (h : w_Jx4a65c_size_8abf5 cy tE S p9 post) : Ct l D cy T0 tB tE yJx4a65c_size_8abf5 cJx4a65c_size_8abf5 1 (some .int) 0 0 0 0 (kw cy a rw S) [.ref p9] (QI D (U := KS) post (kw cy a rw)) := by
  refine Ct.ofZ RJx4a65c "size" [(0, .ref p9)] rfl rfl rfl rfl (Nat.le_of_ble_eq_true rfl) ?_
  intro p e R s m args below meth c A b
  unfold w_Jx4a65c_size_8abf5 at h
  refine z_aload_n b dJx4a65c_size_8abf5_0 rfl rfl ?_
  obtain ⟨i1, f2, f3, f4, g5, h⟩ := h
  refine z_get (q0 := 47 + i1) (k9 := 2) (v := .int f4) b (kw_dyn cy a rw S g5) rfl in_Jx4a65c (by decide) wf_Jx4a65c_48 rfl dJx4a65c_size_8abf5_1 ?_
  exact z_iret (u := S) b rfl dJx4a65c_size_8abf5_4 h rfl (by decide) (by decide)

def w_X11_isNever_B23 (cy : Nat → ClassId) (tE : Nat) (post : Int32 → KS → Prop) (S : KS) (y0 : Int32) : Prop :=
  (y0 = 0 ∨ y0 = 1) ∧ post y0 S

set_option maxHeartbeats 4000000 in
set_option maxRecDepth 100000 in
theorem z_X11_isNever_B23 {p : Program} {l : Launch} {e : Env} {R : Room} {s : State} {m : MethodId} {args : Array Value} {below : List Frame} {meth : Method} {c : Code} {D : va_G} {cy : Nat → ClassId} {T0 tB tE : Nat} {A : Nat → Prop} {a : Nat → Nat} {rw : Nat → Option Nat} (hrw : ∀ i, i < 6 → rw i = some (a (12 + 2 * i))) {post : Int32 → KS → Prop} (b : Bz p R s m args meth c D cy T0 tB tE A 2 cX11_isNever RX11 (some .boolean) "isNever" 1 20 0 0) (S : KS) (y0 : Int32) (h : w_X11_isNever_B23 cy tE post S y0) : Z p l e R s m args below meth c D A 2 (MQ below (QI D (U := KS) post (kw cy a rw) A) args s 0 0 A) 0 0 (kw cy a rw S) [] 23 [.int y0] := by
  unfold w_X11_isNever_B23 at h
  obtain ⟨g1, h⟩ := h
  exact z_zret (u := S) b rfl (z_bool g1) dX11_isNever_23 h rfl (by decide) (by decide)

def w_X11_isNever_B22 (cy : Nat → ClassId) (tE : Nat) (post : Int32 → KS → Prop) (S : KS)  : Prop :=
  w_X11_isNever_B23 cy tE post S 0

set_option maxHeartbeats 4000000 in
set_option maxRecDepth 100000 in
theorem z_X11_isNever_B22 {p : Program} {l : Launch} {e : Env} {R : Room} {s : State} {m : MethodId} {args : Array Value} {below : List Frame} {meth : Method} {c : Code} {D : va_G} {cy : Nat → ClassId} {T0 tB tE : Nat} {A : Nat → Prop} {a : Nat → Nat} {rw : Nat → Option Nat} (hrw : ∀ i, i < 6 → rw i = some (a (12 + 2 * i))) {post : Int32 → KS → Prop} (b : Bz p R s m args meth c D cy T0 tB tE A 2 cX11_isNever RX11 (some .boolean) "isNever" 1 20 0 0) (S : KS)  (h : w_X11_isNever_B22 cy tE post S ) : Z p l e R s m args below meth c D A 2 (MQ below (QI D (U := KS) post (kw cy a rw) A) args s 0 0 A) 0 0 (kw cy a rw S) [] 22 [] := by
  unfold w_X11_isNever_B22 at h
  refine z_iconst (v := 0) b dX11_isNever_22 (by decide) ?_
  exact z_X11_isNever_B23 hrw b _ _ h

def w_X11_isNever (cy : Nat → ClassId) (tE : Nat) (S : KS) (p0 : Int32) (post : Int32 → KS → Prop) : Prop :=
  ((p0.toInt < 0 → w_X11_isNever_B22 cy tE post S) ∧ (0 ≤ p0.toInt → ∃ (i2 : Nat) (f3 : List Value), S.2.2.2[i2]? = some ((S.2.1 1), .inr (0, f3)) ∧ w_Jx4a65c_size_8abf5 cy tE S (S.2.1 1) (fun r5 S6 => ((r5.toInt ≤ p0.toInt → w_X11_isNever_B22 cy tE post S6) ∧ (p0.toInt < r5.toInt → w_X11_isNever_B23 cy tE post S6 1)))))

set_option maxHeartbeats 4000000 in
set_option maxRecDepth 100000 in
theorem k_X11_isNever {l : Launch} {D : va_G} {cy : Nat → ClassId} {T0 tB tE : Nat} {a : Nat → Nat} {rw : Nat → Option Nat} (hrw : ∀ i, i < 6 → rw i = some (a (12 + 2 * i))) (S : KS) (p0 : Int32) (post : Int32 → KS → Prop) (h : w_X11_isNever cy tE S p0 post) : Ct l D cy T0 tB tE yX11_isNever cX11_isNever 2 (some .boolean) 1 20 0 0 (kw cy a rw S) [.ref (a 0), .int p0] (QI D (U := KS) post (kw cy a rw)) := by
  refine Ct.ofZ RX11 "isNever" [(0, .ref (a 0)), (1, .int p0)] rfl rfl rfl rfl (Nat.le_of_ble_eq_true rfl) ?_
  intro p e R s m args below meth c A b
  unfold w_X11_isNever at h
  refine z_iload_n b dX11_isNever_0 rfl rfl ?_
  refine y_if_lt (tgt := 22) (xl := p0.toInt) b rfl dX11_isNever_1 (by decide) (fun c1 => ?_) (fun c1 => ?_)
  · replace h := h.1 c1
    refine z_lv0 (lv' := []) [] rfl ?_
    exact z_X11_isNever_B22 hrw b _ h
  · replace h := h.2 c1
    refine z_iload_n b dX11_isNever_4 rfl rfl ?_
    refine z_aload_n b dX11_isNever_5 rfl rfl ?_
    refine z_get (q0 := 0) (k9 := 3) (v := .ref (a 33)) b (kw_0 cy a rw S) rfl in_X11 (by decide) wf_X11_27 rfl dX11_isNever_6 ?_
    refine z_get (q0 := 33) (k9 := 1) (v := .ref (S.2.1 1)) b (kw_33 cy a rw S) rfl in_X4 (by decide) wf_X11_122 rfl dX11_isNever_9 ?_
    obtain ⟨i2, f3, g4, h⟩ := h
    refine z_calli b (z_runV (q0 := 47 + i2) (As := []) (st := [.int p0]) b (k_Jx4a65c_size_8abf5 hrw S (S.2.1 1) _ h) cf_Jx4a65c_size_8abf5 (kw_dyn cy a rw S g4) rfl wm_X11_117 wi_Jx4a65c_size_8abf5 ws_Jx4a65c_size_8abf5 dX11_isNever_12 rfl (Nat.le_of_ble_eq_true rfl) ⟨by decide, by decide, Nat.le_of_ble_eq_true rfl, Nat.le_of_ble_eq_true rfl⟩) (fun r5 S6 h => ?_)
    refine y_icmp_ge (tgt := 22) (xl := p0.toInt) (yl := r5.toInt) b rfl rfl dX11_isNever_15 (by decide) (fun c1 => ?_) (fun c1 => ?_)
    · replace h := h.1 c1
      refine z_lv0 (lv' := []) [] rfl ?_
      exact z_X11_isNever_B22 hrw b _ h
    · replace h := h.2 c1
      refine z_iconst (v := 1) b dX11_isNever_18 (by decide) ?_
      refine z_goto (tgt := 23) b dX11_isNever_19 (by decide) ?_
      refine z_lv0 (lv' := []) [] rfl ?_
      exact z_X11_isNever_B23 hrw b _ _ h

def w_X6_person_B22 (cy : Nat → ClassId) (tE : Nat) (post : Int32 → KS → Prop) (S : KS) (y0 : Int32) : Prop :=
  post y0 S

set_option maxHeartbeats 4000000 in
set_option maxRecDepth 100000 in
theorem z_X6_person_B22 {p : Program} {l : Launch} {e : Env} {R : Room} {s : State} {m : MethodId} {args : Array Value} {below : List Frame} {meth : Method} {c : Code} {D : va_G} {cy : Nat → ClassId} {T0 tB tE : Nat} {A : Nat → Prop} {a : Nat → Nat} {rw : Nat → Option Nat} (hrw : ∀ i, i < 6 → rw i = some (a (12 + 2 * i))) {post : Int32 → KS → Prop} (b : Bz p R s m args meth c D cy T0 tB tE A 2 cX6_person RX6 (some .int) "person" 0 0 0 0) (S : KS) (y0 : Int32) (h : w_X6_person_B22 cy tE post S y0) : Z p l e R s m args below meth c D A 2 (MQ below (QI D (U := KS) post (kw cy a rw) A) args s 0 0 A) 0 0 (kw cy a rw S) [] 22 [.int y0] := by
  unfold w_X6_person_B22 at h
  exact z_iret (u := S) b rfl dX6_person_22 h rfl (by decide) (by decide)

def w_X6_person (cy : Nat → ClassId) (tE : Nat) (S : KS) (p0 : Int32) (post : Int32 → KS → Prop) : Prop :=
  ((p0.toInt ≠ 0 → ((p0.toInt ≠ 1 → w_X6_person_B22 cy tE post S 3) ∧ (p0.toInt = 1 → w_X6_person_B22 cy tE post S (fi S.1 24)))) ∧ (p0.toInt = 0 → post (fi S.1 23) S))

set_option maxHeartbeats 4000000 in
set_option maxRecDepth 100000 in
theorem k_X6_person {l : Launch} {D : va_G} {cy : Nat → ClassId} {T0 tB tE : Nat} {a : Nat → Nat} {rw : Nat → Option Nat} (hrw : ∀ i, i < 6 → rw i = some (a (12 + 2 * i))) (S : KS) (p0 : Int32) (post : Int32 → KS → Prop) (h : w_X6_person cy tE S p0 post) : Ct l D cy T0 tB tE yX6_person cX6_person 2 (some .int) 0 0 0 0 (kw cy a rw S) [.ref (a 36), .int p0] (QI D (U := KS) post (kw cy a rw)) := by
  refine Ct.ofZ RX6 "person" [(0, .ref (a 36)), (1, .int p0)] rfl rfl rfl rfl (Nat.le_of_ble_eq_true rfl) ?_
  intro p e R s m args below meth c A b
  unfold w_X6_person at h
  refine z_iload_n b dX6_person_0 rfl rfl ?_
  refine y_if_ne (tgt := 9) (xl := p0.toInt) b rfl dX6_person_1 (by decide) (fun c1 => ?_) (fun c1 => ?_)
  · replace h := h.1 c1
    refine z_iload_n b dX6_person_9 rfl rfl ?_
    refine z_iconst (v := 1) b dX6_person_10 (by decide) ?_
    refine y_icmp_ne (tgt := 21) (xl := p0.toInt) (yl := 1) b rfl (by decide) dX6_person_11 (by decide) (fun c1 => ?_) (fun c1 => ?_)
    · replace h := h.1 c1
      refine z_iconst (v := 3) b dX6_person_21 (by decide) ?_
      refine z_lv0 (lv' := []) [] rfl ?_
      exact z_X6_person_B22 hrw b _ _ h
    · replace h := h.2 c1
      refine z_aload_n b dX6_person_14 rfl rfl ?_
      refine z_get (q0 := 36) (k9 := 3) (v := .int (fi S.1 24)) b (kw_36 cy a rw S) rfl in_X6 (by decide) wf_X6_26 rfl dX6_person_15 ?_
      refine z_goto (tgt := 22) b dX6_person_18 (by decide) ?_
      refine z_lv0 (lv' := []) [] rfl ?_
      exact z_X6_person_B22 hrw b _ _ h
  · replace h := h.2 c1
    refine z_aload_n b dX6_person_4 rfl rfl ?_
    refine z_get (q0 := 36) (k9 := 2) (v := .int (fi S.1 23)) b (kw_36 cy a rw S) rfl in_X6 (by decide) wf_X6_22 rfl dX6_person_5 ?_
    exact z_iret (u := S) b rfl dX6_person_8 h rfl (by decide) (by decide)

def w_X6_isJoint_B23 (cy : Nat → ClassId) (tE : Nat) (post : Int32 → KS → Prop) (S : KS) (y0 : Int32) : Prop :=
  (y0 = 0 ∨ y0 = 1) ∧ post y0 S

set_option maxHeartbeats 4000000 in
set_option maxRecDepth 100000 in
theorem z_X6_isJoint_B23 {p : Program} {l : Launch} {e : Env} {R : Room} {s : State} {m : MethodId} {args : Array Value} {below : List Frame} {meth : Method} {c : Code} {D : va_G} {cy : Nat → ClassId} {T0 tB tE : Nat} {A : Nat → Prop} {a : Nat → Nat} {rw : Nat → Option Nat} (hrw : ∀ i, i < 6 → rw i = some (a (12 + 2 * i))) {post : Int32 → KS → Prop} (b : Bz p R s m args meth c D cy T0 tB tE A 1 cX6_isJoint RX6 (some .boolean) "isJoint" 0 0 0 0) (S : KS) (y0 : Int32) (h : w_X6_isJoint_B23 cy tE post S y0) : Z p l e R s m args below meth c D A 1 (MQ below (QI D (U := KS) post (kw cy a rw) A) args s 0 0 A) 0 0 (kw cy a rw S) [] 23 [.int y0] := by
  unfold w_X6_isJoint_B23 at h
  obtain ⟨g1, h⟩ := h
  exact z_zret (u := S) b rfl (z_bool g1) dX6_isJoint_23 h rfl (by decide) (by decide)

def w_X6_isJoint_B18 (cy : Nat → ClassId) (tE : Nat) (post : Int32 → KS → Prop) (S : KS)  : Prop :=
  w_X6_isJoint_B23 cy tE post S 1

set_option maxHeartbeats 4000000 in
set_option maxRecDepth 100000 in
theorem z_X6_isJoint_B18 {p : Program} {l : Launch} {e : Env} {R : Room} {s : State} {m : MethodId} {args : Array Value} {below : List Frame} {meth : Method} {c : Code} {D : va_G} {cy : Nat → ClassId} {T0 tB tE : Nat} {A : Nat → Prop} {a : Nat → Nat} {rw : Nat → Option Nat} (hrw : ∀ i, i < 6 → rw i = some (a (12 + 2 * i))) {post : Int32 → KS → Prop} (b : Bz p R s m args meth c D cy T0 tB tE A 1 cX6_isJoint RX6 (some .boolean) "isJoint" 0 0 0 0) (S : KS)  (h : w_X6_isJoint_B18 cy tE post S ) : Z p l e R s m args below meth c D A 1 (MQ below (QI D (U := KS) post (kw cy a rw) A) args s 0 0 A) 0 0 (kw cy a rw S) [] 18 [] := by
  unfold w_X6_isJoint_B18 at h
  refine z_iconst (v := 1) b dX6_isJoint_18 (by decide) ?_
  refine z_goto (tgt := 23) b dX6_isJoint_19 (by decide) ?_
  exact z_X6_isJoint_B23 hrw b _ _ h

def w_X6_isJoint (cy : Nat → ClassId) (tE : Nat) (S : KS) (p0 : Int32) (post : Int32 → KS → Prop) : Prop :=
  ((p0.toInt = 15 → w_X6_isJoint_B18 cy tE post S) ∧ (p0.toInt ≠ 15 → ((p0.toInt = 16 → w_X6_isJoint_B18 cy tE post S) ∧ (p0.toInt ≠ 16 → ((p0.toInt < 24 → w_X6_isJoint_B23 cy tE post S 0) ∧ (24 ≤ p0.toInt → w_X6_isJoint_B18 cy tE post S))))))

set_option maxHeartbeats 4000000 in
set_option maxRecDepth 100000 in
theorem k_X6_isJoint {l : Launch} {D : va_G} {cy : Nat → ClassId} {T0 tB tE : Nat} {a : Nat → Nat} {rw : Nat → Option Nat} (hrw : ∀ i, i < 6 → rw i = some (a (12 + 2 * i))) (S : KS) (p0 : Int32) (post : Int32 → KS → Prop) (h : w_X6_isJoint cy tE S p0 post) : Ct l D cy T0 tB tE yX6_isJoint cX6_isJoint 1 (some .boolean) 0 0 0 0 (kw cy a rw S) [.int p0] (QI D (U := KS) post (kw cy a rw)) := by
  refine Ct.ofZ RX6 "isJoint" [(0, .int p0)] rfl rfl rfl rfl (Nat.le_of_ble_eq_true rfl) ?_
  intro p e R s m args below meth c A b
  unfold w_X6_isJoint at h
  refine z_iload_n b dX6_isJoint_0 rfl rfl ?_
  refine z_bipush (v := 15) b dX6_isJoint_1 (by decide) ?_
  refine y_icmp_eq (tgt := 18) (xl := p0.toInt) (yl := 15) b rfl (by decide) dX6_isJoint_3 (by decide) (fun c1 => ?_) (fun c1 => ?_)
  · replace h := h.1 c1
    refine z_lv0 (lv' := []) [] rfl ?_
    exact z_X6_isJoint_B18 hrw b _ h
  · replace h := h.2 c1
    refine z_iload_n b dX6_isJoint_6 rfl rfl ?_
    refine z_bipush (v := 16) b dX6_isJoint_7 (by decide) ?_
    refine y_icmp_eq (tgt := 18) (xl := p0.toInt) (yl := 16) b rfl (by decide) dX6_isJoint_9 (by decide) (fun c1 => ?_) (fun c1 => ?_)
    · replace h := h.1 c1
      refine z_lv0 (lv' := []) [] rfl ?_
      exact z_X6_isJoint_B18 hrw b _ h
    · replace h := h.2 c1
      refine z_iload_n b dX6_isJoint_12 rfl rfl ?_
      refine z_bipush (v := 24) b dX6_isJoint_13 (by decide) ?_
      refine y_icmp_lt (tgt := 22) (xl := p0.toInt) (yl := 24) b rfl (by decide) dX6_isJoint_15 (by decide) (fun c1 => ?_) (fun c1 => ?_)
      · replace h := h.1 c1
        refine z_iconst (v := 0) b dX6_isJoint_22 (by decide) ?_
        refine z_lv0 (lv' := []) [] rfl ?_
        exact z_X6_isJoint_B23 hrw b _ _ h
      · replace h := h.2 c1
        refine z_lv0 (lv' := []) [] rfl ?_
        exact z_X6_isJoint_B18 hrw b _ h

def w_X8_acts_B22 (cy : Nat → ClassId) (tE : Nat) (post : Int32 → KS → Prop) (S : KS) (y0 : Int32) : Prop :=
  post y0 S

set_option maxHeartbeats 4000000 in
set_option maxRecDepth 100000 in
theorem z_X8_acts_B22 {p : Program} {l : Launch} {e : Env} {R : Room} {s : State} {m : MethodId} {args : Array Value} {below : List Frame} {meth : Method} {c : Code} {D : va_G} {cy : Nat → ClassId} {T0 tB tE : Nat} {A : Nat → Prop} {a : Nat → Nat} {rw : Nat → Option Nat} (hrw : ∀ i, i < 6 → rw i = some (a (12 + 2 * i))) {post : Int32 → KS → Prop} (b : Bz p R s m args meth c D cy T0 tB tE A 2 cX8_acts RX8 (some .int) "acts" 0 0 0 0) (S : KS) (y0 : Int32) (h : w_X8_acts_B22 cy tE post S y0) : Z p l e R s m args below meth c D A 2 (MQ below (QI D (U := KS) post (kw cy a rw) A) args s 0 0 A) 0 0 (kw cy a rw S) [] 22 [.int y0] := by
  unfold w_X8_acts_B22 at h
  exact z_iret (u := S) b rfl dX8_acts_22 h rfl (by decide) (by decide)

def w_X8_acts_B21 (cy : Nat → ClassId) (tE : Nat) (post : Int32 → KS → Prop) (S : KS)  : Prop :=
  w_X8_acts_B22 cy tE post S 0

set_option maxHeartbeats 4000000 in
set_option maxRecDepth 100000 in
theorem z_X8_acts_B21 {p : Program} {l : Launch} {e : Env} {R : Room} {s : State} {m : MethodId} {args : Array Value} {below : List Frame} {meth : Method} {c : Code} {D : va_G} {cy : Nat → ClassId} {T0 tB tE : Nat} {A : Nat → Prop} {a : Nat → Nat} {rw : Nat → Option Nat} (hrw : ∀ i, i < 6 → rw i = some (a (12 + 2 * i))) {post : Int32 → KS → Prop} (b : Bz p R s m args meth c D cy T0 tB tE A 2 cX8_acts RX8 (some .int) "acts" 0 0 0 0) (S : KS)  (h : w_X8_acts_B21 cy tE post S ) : Z p l e R s m args below meth c D A 2 (MQ below (QI D (U := KS) post (kw cy a rw) A) args s 0 0 A) 0 0 (kw cy a rw S) [] 21 [] := by
  unfold w_X8_acts_B21 at h
  refine z_iconst (v := 0) b dX8_acts_21 (by decide) ?_
  exact z_X8_acts_B22 hrw b _ _ h

def w_X8_acts (cy : Nat → ClassId) (tE : Nat) (S : KS) (p0 : Int32) (post : Int32 → KS → Prop) : Prop :=
  ((p0.toInt < 0 → w_X8_acts_B21 cy tE post S) ∧ (0 ≤ p0.toInt → (((fi S.1 33).toInt ≤ p0.toInt → w_X8_acts_B21 cy tE post S) ∧ (p0.toInt < (fi S.1 33).toInt → (0 ≤ p0.toInt ∧ p0.toInt < 400) ∧ w_X8_acts_B22 cy tE post S ((ar S.1 17) p0.toNatClampNeg)))))

set_option maxHeartbeats 4000000 in
set_option maxRecDepth 100000 in
theorem k_X8_acts {l : Launch} {D : va_G} {cy : Nat → ClassId} {T0 tB tE : Nat} {a : Nat → Nat} {rw : Nat → Option Nat} (hrw : ∀ i, i < 6 → rw i = some (a (12 + 2 * i))) (S : KS) (p0 : Int32) (post : Int32 → KS → Prop) (h : w_X8_acts cy tE S p0 post) : Ct l D cy T0 tB tE yX8_acts cX8_acts 2 (some .int) 0 0 0 0 (kw cy a rw S) [.ref (a 38), .int p0] (QI D (U := KS) post (kw cy a rw)) := by
  refine Ct.ofZ RX8 "acts" [(0, .ref (a 38)), (1, .int p0)] rfl rfl rfl rfl (Nat.le_of_ble_eq_true rfl) ?_
  intro p e R s m args below meth c A b
  unfold w_X8_acts at h
  refine z_iload_n b dX8_acts_0 rfl rfl ?_
  refine y_if_lt (tgt := 21) (xl := p0.toInt) b rfl dX8_acts_1 (by decide) (fun c1 => ?_) (fun c1 => ?_)
  · replace h := h.1 c1
    refine z_lv0 (lv' := []) [] rfl ?_
    exact z_X8_acts_B21 hrw b _ h
  · replace h := h.2 c1
    refine z_iload_n b dX8_acts_4 rfl rfl ?_
    refine z_aload_n b dX8_acts_5 rfl rfl ?_
    refine z_get (q0 := 38) (k9 := 17) (v := .int (fi S.1 33)) b (kw_38 cy a rw S) rfl in_X8 (by decide) wf_X8_64 rfl dX8_acts_6 ?_
    refine y_icmp_ge (tgt := 21) (xl := p0.toInt) (yl := (fi S.1 33).toInt) b rfl rfl dX8_acts_9 (by decide) (fun c1 => ?_) (fun c1 => ?_)
    · replace h := h.1 c1
      refine z_lv0 (lv' := []) [] rfl ?_
      exact z_X8_acts_B21 hrw b _ h
    · replace h := h.2 c1
      refine z_aload_n b dX8_acts_12 rfl rfl ?_
      refine z_get (q0 := 38) (k9 := 4) (v := .ref (a 40)) b (kw_38 cy a rw S) rfl in_X8 (by decide) wf_X8_22 rfl dX8_acts_13 ?_
      refine z_iload_n b dX8_acts_16 rfl rfl ?_
      obtain ⟨g1, h⟩ := h
      refine y_iald (q0 := 40) (j := p0.toNatClampNeg) (v := ((ar S.1 17) p0.toNatClampNeg)) b (kw_40 cy a rw S) (zx_r g1.1 g1.2) rfl dX8_acts_17 ?_
      refine z_goto (tgt := 22) b dX8_acts_18 (by decide) ?_
      refine z_lv0 (lv' := []) [] rfl ?_
      exact z_X8_acts_B22 hrw b _ _ h

def w_X9_set_B20 (cy : Nat → ClassId) (tE : Nat) (post : KS → Prop) (S : KS)  : Prop :=
  post S

set_option maxHeartbeats 4000000 in
set_option maxRecDepth 100000 in
theorem z_X9_set_B20 {p : Program} {l : Launch} {e : Env} {R : Room} {s : State} {m : MethodId} {args : Array Value} {below : List Frame} {meth : Method} {c : Code} {D : va_G} {cy : Nat → ClassId} {T0 tB tE : Nat} {A : Nat → Prop} {a : Nat → Nat} {rw : Nat → Option Nat} (hrw : ∀ i, i < 6 → rw i = some (a (12 + 2 * i))) {post : KS → Prop} (b : Bz p R s m args meth c D cy T0 tB tE A 3 cX9_set RX9 none "set" 0 0 0 0) (S : KS)  (h : w_X9_set_B20 cy tE post S ) : Z p l e R s m args below meth c D A 3 (MQ below (QV D (U := KS) post (kw cy a rw) A) args s 0 0 A) 0 0 (kw cy a rw S) [] 20 [] := by
  unfold w_X9_set_B20 at h
  exact z_vret (u := S) b rfl dX9_set_20 h rfl (by decide) (by decide)

def w_X9_set (cy : Nat → ClassId) (tE : Nat) (S : KS) (p9 : Nat) (p0 : Int32) (p1 : Int32) (post : KS → Prop) : Prop :=
  ((p0.toInt < 0 → w_X9_set_B20 cy tE post S) ∧ (0 ≤ p0.toInt → (p9 < 5) ∧ (p9 < 5) ∧ ((51 ≤ p0.toInt → w_X9_set_B20 cy tE post S) ∧ (p0.toInt < 51 → (p9 < 5) ∧ (p9 < 5) ∧ (0 ≤ p0.toInt ∧ p0.toInt < 51) ∧ w_X9_set_B20 cy tE post (ksu S (1 + p9) (p0.toNatClampNeg) p1)))))

set_option maxHeartbeats 4000000 in
set_option maxRecDepth 100000 in
theorem k_X9_set {l : Launch} {D : va_G} {cy : Nat → ClassId} {T0 tB tE : Nat} {a : Nat → Nat} {rw : Nat → Option Nat} (hrw : ∀ i, i < 6 → rw i = some (a (12 + 2 * i))) (S : KS) (p9 : Nat) (p0 : Int32) (p1 : Int32) (post : KS → Prop) (h : w_X9_set cy tE S p9 p0 p1 post) : Ct l D cy T0 tB tE yX9_set cX9_set 3 none 0 0 0 0 (kw cy a rw S) [.ref (a (2 + 2 * p9)), .int p0, .int p1] (QV D (U := KS) post (kw cy a rw)) := by
  refine Ct.ofZ RX9 "set" [(0, .ref (a (2 + 2 * p9))), (1, .int p0), (2, .int p1)] rfl rfl rfl rfl (Nat.le_of_ble_eq_true rfl) ?_
  intro p e R s m args below meth c A b
  unfold w_X9_set at h
  refine z_iload_n b dX9_set_0 rfl rfl ?_
  refine y_if_lt (tgt := 20) (xl := p0.toInt) b rfl dX9_set_1 (by decide) (fun c1 => ?_) (fun c1 => ?_)
  · replace h := h.1 c1
    refine z_lv0 (lv' := []) [] rfl ?_
    exact z_X9_set_B20 hrw b _ h
  · replace h := h.2 c1
    refine z_iload_n b dX9_set_4 rfl rfl ?_
    refine z_aload_n b dX9_set_5 rfl rfl ?_
    obtain ⟨g1, h⟩ := h
    refine z_get (q0 := 2 + 2 * p9) (k9 := 0) (v := .ref (a (3 + 2 * p9))) b (kw_so cy a rw S g1) rfl in_X9 (by decide) wf_X9_11 rfl dX9_set_6 ?_
    obtain ⟨g2, h⟩ := h
    refine z_alen (q0 := 3 + 2 * p9) (t0 := 0) (v := 51) b (kw_sr cy a rw S g2) rfl rfl dX9_set_9 ?_
    refine y_icmp_ge (tgt := 20) (xl := p0.toInt) (yl := 51) b rfl (by decide) dX9_set_10 (by decide) (fun c1 => ?_) (fun c1 => ?_)
    · replace h := h.1 c1
      refine z_lv0 (lv' := []) [] rfl ?_
      exact z_X9_set_B20 hrw b _ h
    · replace h := h.2 c1
      refine z_aload_n b dX9_set_13 rfl rfl ?_
      obtain ⟨g3, h⟩ := h
      refine z_get (q0 := 2 + 2 * p9) (k9 := 0) (v := .ref (a (3 + 2 * p9))) b (kw_so cy a rw S g3) rfl in_X9 (by decide) wf_X9_11 rfl dX9_set_14 ?_
      refine z_iload_n b dX9_set_17 rfl rfl ?_
      refine z_iload_n b dX9_set_18 rfl rfl ?_
      obtain ⟨g4, h⟩ := h
      obtain ⟨g5, h⟩ := h
      refine y_iast (q0 := 3 + 2 * p9) (j := p0.toNatClampNeg) b (kw_sr cy a rw S g4) (zx_r g5.1 g5.2) dX9_set_19 (kwa_sr cy a rw S g4 (p0.toNatClampNeg) p1) ?_
      refine z_lv0 (lv' := []) [] rfl ?_
      exact z_X9_set_B20 hrw b _ h

def w_X11_arePair_B24 (cy : Nat → ClassId) (tE : Nat) (post : Int32 → KS → Prop) (S : KS) (y0 : Int32) : Prop :=
  (y0 = 0 ∨ y0 = 1) ∧ post y0 S

set_option maxHeartbeats 4000000 in
set_option maxRecDepth 100000 in
theorem z_X11_arePair_B24 {p : Program} {l : Launch} {e : Env} {R : Room} {s : State} {m : MethodId} {args : Array Value} {below : List Frame} {meth : Method} {c : Code} {D : va_G} {cy : Nat → ClassId} {T0 tB tE : Nat} {A : Nat → Prop} {a : Nat → Nat} {rw : Nat → Option Nat} (hrw : ∀ i, i < 6 → rw i = some (a (12 + 2 * i))) {post : Int32 → KS → Prop} (b : Bz p R s m args meth c D cy T0 tB tE A 2 cX11_arePair RX11 (some .boolean) "arePair" 1 20 0 0) (S : KS) (y0 : Int32) (h : w_X11_arePair_B24 cy tE post S y0) : Z p l e R s m args below meth c D A 2 (MQ below (QI D (U := KS) post (kw cy a rw) A) args s 0 0 A) 0 0 (kw cy a rw S) [] 24 [.int y0] := by
  unfold w_X11_arePair_B24 at h
  obtain ⟨g3, h⟩ := h
  exact z_zret (u := S) b rfl (z_bool g3) dX11_arePair_24 h rfl (by decide) (by decide)

def w_X11_arePair_B23 (cy : Nat → ClassId) (tE : Nat) (post : Int32 → KS → Prop) (S : KS)  : Prop :=
  w_X11_arePair_B24 cy tE post S 0

set_option maxHeartbeats 4000000 in
set_option maxRecDepth 100000 in
theorem z_X11_arePair_B23 {p : Program} {l : Launch} {e : Env} {R : Room} {s : State} {m : MethodId} {args : Array Value} {below : List Frame} {meth : Method} {c : Code} {D : va_G} {cy : Nat → ClassId} {T0 tB tE : Nat} {A : Nat → Prop} {a : Nat → Nat} {rw : Nat → Option Nat} (hrw : ∀ i, i < 6 → rw i = some (a (12 + 2 * i))) {post : Int32 → KS → Prop} (b : Bz p R s m args meth c D cy T0 tB tE A 2 cX11_arePair RX11 (some .boolean) "arePair" 1 20 0 0) (S : KS)  (h : w_X11_arePair_B23 cy tE post S ) : Z p l e R s m args below meth c D A 2 (MQ below (QI D (U := KS) post (kw cy a rw) A) args s 0 0 A) 0 0 (kw cy a rw S) [] 23 [] := by
  unfold w_X11_arePair_B23 at h
  refine z_iconst (v := 0) b dX11_arePair_23 (by decide) ?_
  exact z_X11_arePair_B24 hrw b _ _ h

def w_X11_arePair (cy : Nat → ClassId) (tE : Nat) (S : KS) (p0 : Int32) (p1 : Int32) (post : Int32 → KS → Prop) : Prop :=
  w_X11_isPerson cy tE S p0 (fun r1 S2 => ((r1.toInt = 0 → w_X11_arePair_B23 cy tE post S2) ∧ (r1.toInt ≠ 0 → w_X11_isPerson cy tE S2 p1 (fun r4 S5 => ((r4.toInt = 0 → w_X11_arePair_B23 cy tE post S5) ∧ (r4.toInt ≠ 0 → ((p0.toInt = p1.toInt → w_X11_arePair_B23 cy tE post S5) ∧ (p0.toInt ≠ p1.toInt → w_X11_arePair_B24 cy tE post S5 1))))))))

set_option maxHeartbeats 4000000 in
set_option maxRecDepth 100000 in
theorem k_X11_arePair {l : Launch} {D : va_G} {cy : Nat → ClassId} {T0 tB tE : Nat} {a : Nat → Nat} {rw : Nat → Option Nat} (hrw : ∀ i, i < 6 → rw i = some (a (12 + 2 * i))) (S : KS) (p0 : Int32) (p1 : Int32) (post : Int32 → KS → Prop) (h : w_X11_arePair cy tE S p0 p1 post) : Ct l D cy T0 tB tE yX11_arePair cX11_arePair 2 (some .boolean) 1 20 0 0 (kw cy a rw S) [.int p0, .int p1] (QI D (U := KS) post (kw cy a rw)) := by
  refine Ct.ofZ RX11 "arePair" [(0, .int p0), (1, .int p1)] rfl rfl rfl rfl (Nat.le_of_ble_eq_true rfl) ?_
  intro p e R s m args below meth c A b
  unfold w_X11_arePair at h
  refine z_iload_n b dX11_arePair_0 rfl rfl ?_
  refine z_calli b (z_runS (As := [.int p0]) (st := []) b (k_X11_isPerson hrw S p0 _ h) cf_X11_isPerson wm_X11_69 ws_X11_isPerson dX11_arePair_1 rfl (Nat.le_of_ble_eq_true rfl) ⟨by decide, by decide, Nat.le_of_ble_eq_true rfl, Nat.le_of_ble_eq_true rfl⟩) (fun r1 S2 h => ?_)
  refine y_if_eq (tgt := 23) (xl := r1.toInt) b rfl dX11_arePair_4 (by decide) (fun c1 => ?_) (fun c1 => ?_)
  · replace h := h.1 c1
    refine z_lv0 (lv' := []) [] rfl ?_
    exact z_X11_arePair_B23 hrw b _ h
  · replace h := h.2 c1
    refine z_iload_n b dX11_arePair_7 rfl rfl ?_
    refine z_calli b (z_runS (As := [.int p1]) (st := []) b (k_X11_isPerson hrw S2 p1 _ h) cf_X11_isPerson wm_X11_69 ws_X11_isPerson dX11_arePair_8 rfl (Nat.le_of_ble_eq_true rfl) ⟨by decide, by decide, Nat.le_of_ble_eq_true rfl, Nat.le_of_ble_eq_true rfl⟩) (fun r4 S5 h => ?_)
    refine y_if_eq (tgt := 23) (xl := r4.toInt) b rfl dX11_arePair_11 (by decide) (fun c1 => ?_) (fun c1 => ?_)
    · replace h := h.1 c1
      refine z_lv0 (lv' := []) [] rfl ?_
      exact z_X11_arePair_B23 hrw b _ h
    · replace h := h.2 c1
      refine z_iload_n b dX11_arePair_14 rfl rfl ?_
      refine z_iload_n b dX11_arePair_15 rfl rfl ?_
      refine y_icmp_eq (tgt := 23) (xl := p0.toInt) (yl := p1.toInt) b rfl rfl dX11_arePair_16 (by decide) (fun c1 => ?_) (fun c1 => ?_)
      · replace h := h.1 c1
        refine z_lv0 (lv' := []) [] rfl ?_
        exact z_X11_arePair_B23 hrw b _ h
      · replace h := h.2 c1
        refine z_iconst (v := 1) b dX11_arePair_19 (by decide) ?_
        refine z_goto (tgt := 24) b dX11_arePair_20 (by decide) ?_
        refine z_lv0 (lv' := []) [] rfl ?_
        exact z_X11_arePair_B24 hrw b _ _ h

def w_X4_actAt_B23 (cy : Nat → ClassId) (tE : Nat) (post : Option Nat → KS → Prop) (S : KS) (y0 : Option Nat) : Prop :=
  post y0 S

set_option maxHeartbeats 4000000 in
set_option maxRecDepth 100000 in
theorem z_X4_actAt_B23 {p : Program} {l : Launch} {e : Env} {R : Room} {s : State} {m : MethodId} {args : Array Value} {below : List Frame} {meth : Method} {c : Code} {D : va_G} {cy : Nat → ClassId} {T0 tB tE : Nat} {A : Nat → Prop} {a : Nat → Nat} {rw : Nat → Option Nat} (hrw : ∀ i, i < 6 → rw i = some (a (12 + 2 * i))) {post : Option Nat → KS → Prop} (b : Bz p R s m args meth c D cy T0 tB tE A 2 cX4_actAt RX4 (some (.object "LawHoles$Act")) "actAt" 0 0 0 0) (S : KS) (y0 : Option Nat) (h : w_X4_actAt_B23 cy tE post S y0) : Z p l e R s m args below meth c D A 2 (MQ below (QQ D (U := KS) post (kw cy a rw) A) args s 0 0 A) 0 0 (kw cy a rw S) [] 23 [va_rf y0] := by
  unfold w_X4_actAt_B23 at h
  exact z_aret (v := y0) (u := S) b rfl (Or.inl ⟨_, rfl⟩) dX4_actAt_23 h rfl (by decide) (by decide)

def w_X4_actAt_B22 (cy : Nat → ClassId) (tE : Nat) (post : Option Nat → KS → Prop) (S : KS)  : Prop :=
  w_X4_actAt_B23 cy tE post S none

set_option maxHeartbeats 4000000 in
set_option maxRecDepth 100000 in
theorem z_X4_actAt_B22 {p : Program} {l : Launch} {e : Env} {R : Room} {s : State} {m : MethodId} {args : Array Value} {below : List Frame} {meth : Method} {c : Code} {D : va_G} {cy : Nat → ClassId} {T0 tB tE : Nat} {A : Nat → Prop} {a : Nat → Nat} {rw : Nat → Option Nat} (hrw : ∀ i, i < 6 → rw i = some (a (12 + 2 * i))) {post : Option Nat → KS → Prop} (b : Bz p R s m args meth c D cy T0 tB tE A 2 cX4_actAt RX4 (some (.object "LawHoles$Act")) "actAt" 0 0 0 0) (S : KS)  (h : w_X4_actAt_B22 cy tE post S ) : Z p l e R s m args below meth c D A 2 (MQ below (QQ D (U := KS) post (kw cy a rw) A) args s 0 0 A) 0 0 (kw cy a rw S) [] 22 [] := by
  unfold w_X4_actAt_B22 at h
  refine z_null b dX4_actAt_22 ?_
  exact z_X4_actAt_B23 hrw b _ _ h

def w_X4_actAt (cy : Nat → ClassId) (tE : Nat) (S : KS) (p0 : Int32) (post : Option Nat → KS → Prop) : Prop :=
  ((p0.toInt < 0 → w_X4_actAt_B22 cy tE post S) ∧ (0 ≤ p0.toInt → ((12 ≤ p0.toInt → w_X4_actAt_B22 cy tE post S) ∧ (p0.toInt < 12 → (0 ≤ p0.toInt ∧ p0.toInt < 12) ∧ w_X4_actAt_B23 cy tE post S (S.2.2.1 (p0.toNatClampNeg))))))

set_option maxHeartbeats 4000000 in
set_option maxRecDepth 100000 in
theorem k_X4_actAt {l : Launch} {D : va_G} {cy : Nat → ClassId} {T0 tB tE : Nat} {a : Nat → Nat} {rw : Nat → Option Nat} (hrw : ∀ i, i < 6 → rw i = some (a (12 + 2 * i))) (S : KS) (p0 : Int32) (post : Option Nat → KS → Prop) (h : w_X4_actAt cy tE S p0 post) : Ct l D cy T0 tB tE yX4_actAt cX4_actAt 2 (some (.object "LawHoles$Act")) 0 0 0 0 (kw cy a rw S) [.ref (a 33), .int p0] (QQ D (U := KS) post (kw cy a rw)) := by
  refine Ct.ofZ RX4 "actAt" [(0, .ref (a 33)), (1, .int p0)] rfl rfl rfl rfl (Nat.le_of_ble_eq_true rfl) ?_
  intro p e R s m args below meth c A b
  unfold w_X4_actAt at h
  refine z_iload_n b dX4_actAt_0 rfl rfl ?_
  refine y_if_lt (tgt := 22) (xl := p0.toInt) b rfl dX4_actAt_1 (by decide) (fun c1 => ?_) (fun c1 => ?_)
  · replace h := h.1 c1
    refine z_lv0 (lv' := []) [] rfl ?_
    exact z_X4_actAt_B22 hrw b _ h
  · replace h := h.2 c1
    refine z_iload_n b dX4_actAt_4 rfl rfl ?_
    refine z_aload_n b dX4_actAt_5 rfl rfl ?_
    refine z_get (q0 := 33) (k9 := 0) (v := .ref (a 34)) b (kw_33 cy a rw S) rfl in_X4 (by decide) wf_X4_11 rfl dX4_actAt_6 ?_
    refine z_alen (q0 := 34) (t0 := 3) (v := 12) b (kw_34 cy a rw S) rfl rfl dX4_actAt_9 ?_
    refine y_icmp_ge (tgt := 22) (xl := p0.toInt) (yl := 12) b rfl (by decide) dX4_actAt_10 (by decide) (fun c1 => ?_) (fun c1 => ?_)
    · replace h := h.1 c1
      refine z_lv0 (lv' := []) [] rfl ?_
      exact z_X4_actAt_B22 hrw b _ h
    · replace h := h.2 c1
      refine z_aload_n b dX4_actAt_13 rfl rfl ?_
      refine z_get (q0 := 33) (k9 := 0) (v := .ref (a 34)) b (kw_33 cy a rw S) rfl in_X4 (by decide) wf_X4_11 rfl dX4_actAt_14 ?_
      refine z_iload_n b dX4_actAt_17 rfl rfl ?_
      obtain ⟨g1, h⟩ := h
      refine y_aald (q0 := 34) (t0 := 3) (j := p0.toNatClampNeg) (v := va_rf (S.2.2.1 (p0.toNatClampNeg))) b (kw_34 cy a rw S) rfl (zx_r g1.1 g1.2) rfl dX4_actAt_18 ?_
      refine z_goto (tgt := 23) b dX4_actAt_19 (by decide) ?_
      refine z_lv0 (lv' := []) [] rfl ?_
      exact z_X4_actAt_B23 hrw b _ _ h

def w_X7_get_B23 (cy : Nat → ClassId) (tE : Nat) (post : Int32 → KS → Prop) (S : KS) (y0 : Int32) : Prop :=
  post y0 S

set_option maxHeartbeats 4000000 in
set_option maxRecDepth 100000 in
theorem z_X7_get_B23 {p : Program} {l : Launch} {e : Env} {R : Room} {s : State} {m : MethodId} {args : Array Value} {below : List Frame} {meth : Method} {c : Code} {D : va_G} {cy : Nat → ClassId} {T0 tB tE : Nat} {A : Nat → Prop} {a : Nat → Nat} {rw : Nat → Option Nat} (hrw : ∀ i, i < 6 → rw i = some (a (12 + 2 * i))) {post : Int32 → KS → Prop} (b : Bz p R s m args meth c D cy T0 tB tE A 2 cX7_get RX7 (some .int) "get" 0 0 0 0) (S : KS) (y0 : Int32) (h : w_X7_get_B23 cy tE post S y0) : Z p l e R s m args below meth c D A 2 (MQ below (QI D (U := KS) post (kw cy a rw) A) args s 0 0 A) 0 0 (kw cy a rw S) [] 23 [.int y0] := by
  unfold w_X7_get_B23 at h
  exact z_iret (u := S) b rfl dX7_get_23 h rfl (by decide) (by decide)

def w_X7_get_B22 (cy : Nat → ClassId) (tE : Nat) (post : Int32 → KS → Prop) (S : KS)  : Prop :=
  w_X7_get_B23 cy tE post S (-1)

set_option maxHeartbeats 4000000 in
set_option maxRecDepth 100000 in
theorem z_X7_get_B22 {p : Program} {l : Launch} {e : Env} {R : Room} {s : State} {m : MethodId} {args : Array Value} {below : List Frame} {meth : Method} {c : Code} {D : va_G} {cy : Nat → ClassId} {T0 tB tE : Nat} {A : Nat → Prop} {a : Nat → Nat} {rw : Nat → Option Nat} (hrw : ∀ i, i < 6 → rw i = some (a (12 + 2 * i))) {post : Int32 → KS → Prop} (b : Bz p R s m args meth c D cy T0 tB tE A 2 cX7_get RX7 (some .int) "get" 0 0 0 0) (S : KS)  (h : w_X7_get_B22 cy tE post S ) : Z p l e R s m args below meth c D A 2 (MQ below (QI D (U := KS) post (kw cy a rw) A) args s 0 0 A) 0 0 (kw cy a rw S) [] 22 [] := by
  unfold w_X7_get_B22 at h
  refine z_iconst (v := (-1)) b dX7_get_22 (by decide) ?_
  exact z_X7_get_B23 hrw b _ _ h

def w_X7_get (cy : Nat → ClassId) (tE : Nat) (S : KS) (p9 : Nat) (p0 : Int32) (post : Int32 → KS → Prop) : Prop :=
  ((p0.toInt < 0 → w_X7_get_B22 cy tE post S) ∧ (0 ≤ p0.toInt → (p9 < 7) ∧ (p9 < 7) ∧ (((Int32.ofNat (rowN p9)).toInt ≤ p0.toInt → w_X7_get_B22 cy tE post S) ∧ (p0.toInt < (Int32.ofNat (rowN p9)).toInt → (p9 < 7) ∧ (p9 < 7) ∧ (0 ≤ p0.toInt ∧ p0.toInt < (rowN p9 : Nat)) ∧ w_X7_get_B23 cy tE post S ((ar S.1 (6 + p9)) p0.toNatClampNeg)))))

set_option maxHeartbeats 4000000 in
set_option maxRecDepth 100000 in
theorem k_X7_get {l : Launch} {D : va_G} {cy : Nat → ClassId} {T0 tB tE : Nat} {a : Nat → Nat} {rw : Nat → Option Nat} (hrw : ∀ i, i < 6 → rw i = some (a (12 + 2 * i))) (S : KS) (p9 : Nat) (p0 : Int32) (post : Int32 → KS → Prop) (h : w_X7_get cy tE S p9 p0 post) : Ct l D cy T0 tB tE yX7_get cX7_get 2 (some .int) 0 0 0 0 (kw cy a rw S) [.ref (a (12 + 2 * p9)), .int p0] (QI D (U := KS) post (kw cy a rw)) := by
  refine Ct.ofZ RX7 "get" [(0, .ref (a (12 + 2 * p9))), (1, .int p0)] rfl rfl rfl rfl (Nat.le_of_ble_eq_true rfl) ?_
  intro p e R s m args below meth c A b
  unfold w_X7_get at h
  refine z_iload_n b dX7_get_0 rfl rfl ?_
  refine y_if_lt (tgt := 22) (xl := p0.toInt) b rfl dX7_get_1 (by decide) (fun c1 => ?_) (fun c1 => ?_)
  · replace h := h.1 c1
    refine z_lv0 (lv' := []) [] rfl ?_
    exact z_X7_get_B22 hrw b _ h
  · replace h := h.2 c1
    refine z_iload_n b dX7_get_4 rfl rfl ?_
    refine z_aload_n b dX7_get_5 rfl rfl ?_
    obtain ⟨g1, h⟩ := h
    refine z_get (q0 := 12 + 2 * p9) (k9 := 0) (v := .ref (a (13 + 2 * p9))) b (kw_ro cy a rw S g1) rfl in_X7 (by decide) wf_X7_25 rfl dX7_get_6 ?_
    obtain ⟨g2, h⟩ := h
    refine z_alen (q0 := 13 + 2 * p9) (t0 := 0) (v := (Int32.ofNat (rowN p9))) b (kw_rr cy a rw S g2) rfl rfl dX7_get_9 ?_
    refine y_icmp_ge (tgt := 22) (xl := p0.toInt) (yl := (Int32.ofNat (rowN p9)).toInt) b rfl rfl dX7_get_10 (by decide) (fun c1 => ?_) (fun c1 => ?_)
    · replace h := h.1 c1
      refine z_lv0 (lv' := []) [] rfl ?_
      exact z_X7_get_B22 hrw b _ h
    · replace h := h.2 c1
      refine z_aload_n b dX7_get_13 rfl rfl ?_
      obtain ⟨g3, h⟩ := h
      refine z_get (q0 := 12 + 2 * p9) (k9 := 0) (v := .ref (a (13 + 2 * p9))) b (kw_ro cy a rw S g3) rfl in_X7 (by decide) wf_X7_25 rfl dX7_get_14 ?_
      refine z_iload_n b dX7_get_17 rfl rfl ?_
      obtain ⟨g4, h⟩ := h
      obtain ⟨g5, h⟩ := h
      refine y_iald (q0 := 13 + 2 * p9) (j := p0.toNatClampNeg) (v := ((ar S.1 (6 + p9)) p0.toNatClampNeg)) b (kw_rr cy a rw S g4) (zx_r g5.1 g5.2) rfl dX7_get_18 ?_
      refine z_goto (tgt := 23) b dX7_get_19 (by decide) ?_
      refine z_lv0 (lv' := []) [] rfl ?_
      exact z_X7_get_B23 hrw b _ _ h

def w_X9_pairShift_B18 (cy : Nat → ClassId) (tE : Nat) (post : Int32 → KS → Prop) (S : KS) (y0 : Int32) (y1 : Int32) (y2 : Int32) (y3 : Int32) : Prop :=
  post (y3 + (y2 * (y1 + y0))) S

set_option maxHeartbeats 4000000 in
set_option maxRecDepth 100000 in
theorem z_X9_pairShift_B18 {p : Program} {l : Launch} {e : Env} {R : Room} {s : State} {m : MethodId} {args : Array Value} {below : List Frame} {meth : Method} {c : Code} {D : va_G} {cy : Nat → ClassId} {T0 tB tE : Nat} {A : Nat → Prop} {a : Nat → Nat} {rw : Nat → Option Nat} (hrw : ∀ i, i < 6 → rw i = some (a (12 + 2 * i))) {post : Int32 → KS → Prop} (b : Bz p R s m args meth c D cy T0 tB tE A 2 cX9_pairShift RX9 (some .int) "pairShift" 0 0 0 0) (S : KS) (y0 : Int32) (y1 : Int32) (y2 : Int32) (y3 : Int32) (h : w_X9_pairShift_B18 cy tE post S y0 y1 y2 y3) : Z p l e R s m args below meth c D A 2 (MQ below (QI D (U := KS) post (kw cy a rw) A) args s 0 0 A) 0 0 (kw cy a rw S) [] 18 [.int y0, .int y1, .int y2, .int y3] := by
  unfold w_X9_pairShift_B18 at h
  refine z_iadd b dX9_pairShift_18 rfl ?_
  refine z_imul b dX9_pairShift_19 rfl ?_
  refine z_iadd b dX9_pairShift_20 rfl ?_
  exact z_iret (u := S) b rfl dX9_pairShift_21 h rfl (by decide) (by decide)

def w_X9_pairShift (cy : Nat → ClassId) (tE : Nat) (S : KS) (p0 : Int32) (p1 : Int32) (post : Int32 → KS → Prop) : Prop :=
  ((p1.toInt ≤ p0.toInt → w_X9_pairShift_B18 cy tE post S p1 ((2 : Int32) * p0) 5 22) ∧ (p0.toInt < p1.toInt → w_X9_pairShift_B18 cy tE post S (p1 - 1) ((2 : Int32) * p0) 5 22))

set_option maxHeartbeats 4000000 in
set_option maxRecDepth 100000 in
theorem k_X9_pairShift {l : Launch} {D : va_G} {cy : Nat → ClassId} {T0 tB tE : Nat} {a : Nat → Nat} {rw : Nat → Option Nat} (hrw : ∀ i, i < 6 → rw i = some (a (12 + 2 * i))) (S : KS) (p0 : Int32) (p1 : Int32) (post : Int32 → KS → Prop) (h : w_X9_pairShift cy tE S p0 p1 post) : Ct l D cy T0 tB tE yX9_pairShift cX9_pairShift 2 (some .int) 0 0 0 0 (kw cy a rw S) [.int p0, .int p1] (QI D (U := KS) post (kw cy a rw)) := by
  refine Ct.ofZ RX9 "pairShift" [(0, .int p0), (1, .int p1)] rfl rfl rfl rfl (Nat.le_of_ble_eq_true rfl) ?_
  intro p e R s m args below meth c A b
  unfold w_X9_pairShift at h
  refine z_bipush (v := 22) b dX9_pairShift_0 (by decide) ?_
  refine z_iconst (v := 5) b dX9_pairShift_2 (by decide) ?_
  refine z_iconst (v := 2) b dX9_pairShift_3 (by decide) ?_
  refine z_iload_n b dX9_pairShift_4 rfl rfl ?_
  refine z_imul b dX9_pairShift_5 rfl ?_
  refine z_iload_n b dX9_pairShift_6 rfl rfl ?_
  refine z_iload_n b dX9_pairShift_7 rfl rfl ?_
  refine y_icmp_le (tgt := 17) (xl := p1.toInt) (yl := p0.toInt) b rfl rfl dX9_pairShift_8 (by decide) (fun c1 => ?_) (fun c1 => ?_)
  · replace h := h.1 c1
    refine z_iload_n b dX9_pairShift_17 rfl rfl ?_
    refine z_lv0 (lv' := []) [] rfl ?_
    exact z_X9_pairShift_B18 hrw b _ _ _ _ _ h
  · replace h := h.2 c1
    refine z_iload_n b dX9_pairShift_11 rfl rfl ?_
    refine z_iconst (v := 1) b dX9_pairShift_12 (by decide) ?_
    refine z_isub b dX9_pairShift_13 rfl ?_
    refine z_goto (tgt := 18) b dX9_pairShift_14 (by decide) ?_
    refine z_lv0 (lv' := []) [] rfl ?_
    exact z_X9_pairShift_B18 hrw b _ _ _ _ _ h

def w_X9_unpack_F15 (cy : Nat → ClassId) (tE : Nat) (post : KS → Prop) (k46 : KS → Nat → Int64 → Prop) (k15 : KS → Nat → Int64 → Int32 → Prop) (S : KS) (x0 : Nat) (x1 : Int64) (x3 : Int32) : Prop :=
  ((3 ≤ x3.toInt → k46 S x0 x1) ∧ (x3.toInt < 3 → (x0 < 5) ∧ w_X9_ownerShift cy tE S x3 (fun r4 S5 => (x0 < 5) ∧ (0 ≤ ((40 : Int32) + x3).toInt ∧ ((40 : Int32) + x3).toInt < 51) ∧ k15 (ksu S5 (1 + x0) (((40 : Int32) + x3).toNatClampNeg) ((((x1).toUInt64 >>> ((r4 : Int32).toInt64.toUInt64 &&& Int64.toUInt64 63)).toInt64 &&& 3) : Int64).toInt32) x0 x1 (x3 + 1))))

set_option maxHeartbeats 4000000 in
set_option maxRecDepth 100000 in
theorem z_X9_unpack_F15 {p : Program} {l : Launch} {e : Env} {R : Room} {s : State} {m : MethodId} {args : Array Value} {below : List Frame} {meth : Method} {c : Code} {D : va_G} {cy : Nat → ClassId} {T0 tB tE : Nat} {A : Nat → Prop} {a : Nat → Nat} {rw : Nat → Option Nat} (hrw : ∀ i, i < 6 → rw i = some (a (12 + 2 * i))) {post : KS → Prop} {k46 : KS → Nat → Int64 → Prop} {k15 : KS → Nat → Int64 → Int32 → Prop} (b : Bz p R s m args meth c D cy T0 tB tE A 7 cX9_unpack RX9 none "unpack" 1 21 0 0) (hk46 : ∀ (S : KS) (x0 : Nat) (x1 : Int64), k46 S x0 x1 → Z p l e R s m args below meth c D A 7 (MQ below (QV D (U := KS) post (kw cy a rw) A) args s 0 0 A) 0 0 (kw cy a rw S) [(0, .ref (a (2 + 2 * x0))), (1, .long x1)] 46 []) (hk15 : ∀ (S : KS) (x0 : Nat) (x1 : Int64) (x3 : Int32), k15 S x0 x1 x3 → Z p l e R s m args below meth c D A 7 (MQ below (QV D (U := KS) post (kw cy a rw) A) args s 0 0 A) 0 0 (kw cy a rw S) [(0, .ref (a (2 + 2 * x0))), (1, .long x1), (3, .int x3)] 15 []) (S : KS) (x0 : Nat) (x1 : Int64) (x3 : Int32) (h : w_X9_unpack_F15 cy tE post k46 k15 S x0 x1 x3) : Z p l e R s m args below meth c D A 7 (MQ below (QV D (U := KS) post (kw cy a rw) A) args s 0 0 A) 0 0 (kw cy a rw S) [(0, .ref (a (2 + 2 * x0))), (1, .long x1), (3, .int x3)] 15 [] := by
  unfold w_X9_unpack_F15 at h
  refine z_iload_n b dX9_unpack_15 rfl rfl ?_
  refine z_iconst (v := 3) b dX9_unpack_16 (by decide) ?_
  refine y_icmp_ge (tgt := 46) (xl := x3.toInt) (yl := 3) b rfl (by decide) dX9_unpack_17 (by decide) (fun c1 => ?_) (fun c1 => ?_)
  · replace h := h.1 c1
    refine z_lv0 (lv' := [(0, .ref (a (2 + 2 * x0))), (1, .long x1)]) [0, 1] rfl ?_
    exact hk46 _ _ _ h
  · replace h := h.2 c1
    refine z_aload_n b dX9_unpack_20 rfl rfl ?_
    obtain ⟨g3, h⟩ := h
    refine z_get (q0 := 2 + 2 * x0) (k9 := 0) (v := .ref (a (3 + 2 * x0))) b (kw_so cy a rw S g3) rfl in_X9 (by decide) wf_X9_11 rfl dX9_unpack_21 ?_
    refine z_bipush (v := 40) b dX9_unpack_24 (by decide) ?_
    refine z_iload_n b dX9_unpack_26 rfl rfl ?_
    refine z_iadd b dX9_unpack_27 rfl ?_
    refine z_lload_n b dX9_unpack_28 rfl rfl ?_
    refine z_iload_n b dX9_unpack_29 rfl rfl ?_
    refine z_calli b (z_runS (As := [.int x3]) (st := [.long x1, .int ((40 : Int32) + x3), .ref (a (3 + 2 * x0))]) b (k_X9_ownerShift hrw S x3 _ h) cf_X9_ownerShift wm_X9_49 ws_X9_ownerShift dX9_unpack_30 rfl (Nat.le_of_ble_eq_true rfl) ⟨by decide, by decide, Nat.le_of_ble_eq_true rfl, Nat.le_of_ble_eq_true rfl⟩) (fun r4 S5 h => ?_)
    refine z_lushr b dX9_unpack_33 rfl ?_
    refine z_ldc2 b wl_X9_60 dX9_unpack_34 ?_
    refine z_land b dX9_unpack_37 rfl ?_
    refine z_l2i b dX9_unpack_38 rfl ?_
    obtain ⟨g6, h⟩ := h
    obtain ⟨g7, h⟩ := h
    refine y_iast (q0 := 3 + 2 * x0) (j := ((40 : Int32) + x3).toNatClampNeg) b (kw_sr cy a rw S5 g6) (zx_r g7.1 g7.2) dX9_unpack_39 (kwa_sr cy a rw S5 g6 (((40 : Int32) + x3).toNatClampNeg) ((((x1).toUInt64 >>> ((r4 : Int32).toInt64.toUInt64 &&& Int64.toUInt64 63)).toInt64 &&& 3) : Int64).toInt32) ?_
    refine z_iinc (k9 := 2) (v := (x3 + 1)) (lv' := [(3, .int (x3 + 1)), (0, .ref (a (2 + 2 * x0))), (1, .long x1)]) b dX9_unpack_40 rfl rfl (by decide) rfl ?_
    refine z_goto (tgt := 15) b dX9_unpack_43 (by decide) ?_
    refine z_lv0 (lv' := [(0, .ref (a (2 + 2 * x0))), (1, .long x1), (3, .int (x3 + 1))]) [1, 2, 0] rfl ?_
    exact hk15 _ _ _ _ h

set_option maxHeartbeats 4000000 in
set_option maxRecDepth 100000 in
theorem zl_X9_unpack_L15 {p : Program} {l : Launch} {e : Env} {R : Room} {s : State} {m : MethodId} {args : Array Value} {below : List Frame} {meth : Method} {c : Code} {D : va_G} {cy : Nat → ClassId} {T0 tB tE : Nat} {A : Nat → Prop} {a : Nat → Nat} {rw : Nat → Option Nat} (hrw : ∀ i, i < 6 → rw i = some (a (12 + 2 * i))) {post : KS → Prop} {k46 : KS → Nat → Int64 → Prop} (b : Bz p R s m args meth c D cy T0 tB tE A 7 cX9_unpack RX9 none "unpack" 1 21 0 0) (hk46 : ∀ (S : KS) (x0 : Nat) (x1 : Int64), k46 S x0 x1 → Z p l e R s m args below meth c D A 7 (MQ below (QV D (U := KS) post (kw cy a rw) A) args s 0 0 A) 0 0 (kw cy a rw S) [(0, .ref (a (2 + 2 * x0))), (1, .long x1)] 46 []) : ∀ (n : Nat) (S : KS) (x0 : Nat) (x1 : Int64) (x3 : Int32), lpn (w_X9_unpack_F15 cy tE post k46) (fun _ _ _ _ => False) n S x0 x1 x3 → Z p l e R s m args below meth c D A 7 (MQ below (QV D (U := KS) post (kw cy a rw) A) args s 0 0 A) 0 0 (kw cy a rw S) [(0, .ref (a (2 + 2 * x0))), (1, .long x1), (3, .int x3)] 15 [] := by
  intro n
  induction n with
  | zero => intro _ _ _ _ h; exact h.elim
  | succ n ih => intro S x0 x1 x3 h; exact z_X9_unpack_F15 hrw b hk46 ih S x0 x1 x3 h

def w_X9_unpack_B153 (cy : Nat → ClassId) (tE : Nat) (post : KS → Prop) (k73 : KS → Nat → Int64 → Int32 → Int32 → Prop) (k159 : KS → Nat → Int64 → Int32 → Prop) (S : KS) (x0 : Nat) (x1 : Int64) (x3 : Int32) (x4 : Int32) : Prop :=
  k73 S x0 x1 x3 (x4 + 1)

set_option maxHeartbeats 4000000 in
set_option maxRecDepth 100000 in
theorem z_X9_unpack_B153 {p : Program} {l : Launch} {e : Env} {R : Room} {s : State} {m : MethodId} {args : Array Value} {below : List Frame} {meth : Method} {c : Code} {D : va_G} {cy : Nat → ClassId} {T0 tB tE : Nat} {A : Nat → Prop} {a : Nat → Nat} {rw : Nat → Option Nat} (hrw : ∀ i, i < 6 → rw i = some (a (12 + 2 * i))) {post : KS → Prop} {k73 : KS → Nat → Int64 → Int32 → Int32 → Prop} {k159 : KS → Nat → Int64 → Int32 → Prop} (b : Bz p R s m args meth c D cy T0 tB tE A 7 cX9_unpack RX9 none "unpack" 1 21 0 0) (hk73 : ∀ (S : KS) (x0 : Nat) (x1 : Int64) (x3 : Int32) (x4 : Int32), k73 S x0 x1 x3 x4 → Z p l e R s m args below meth c D A 7 (MQ below (QV D (U := KS) post (kw cy a rw) A) args s 0 0 A) 0 0 (kw cy a rw S) [(0, .ref (a (2 + 2 * x0))), (1, .long x1), (3, .int x3), (4, .int x4)] 73 []) (hk159 : ∀ (S : KS) (x0 : Nat) (x1 : Int64) (x3 : Int32), k159 S x0 x1 x3 → Z p l e R s m args below meth c D A 7 (MQ below (QV D (U := KS) post (kw cy a rw) A) args s 0 0 A) 0 0 (kw cy a rw S) [(0, .ref (a (2 + 2 * x0))), (1, .long x1), (3, .int x3)] 159 []) (S : KS) (x0 : Nat) (x1 : Int64) (x3 : Int32) (x4 : Int32) (h : w_X9_unpack_B153 cy tE post k73 k159 S x0 x1 x3 x4) : Z p l e R s m args below meth c D A 7 (MQ below (QV D (U := KS) post (kw cy a rw) A) args s 0 0 A) 0 0 (kw cy a rw S) [(0, .ref (a (2 + 2 * x0))), (1, .long x1), (3, .int x3), (4, .int x4)] 153 [] := by
  unfold w_X9_unpack_B153 at h
  refine z_iinc (k9 := 3) (v := (x4 + 1)) (lv' := [(4, .int (x4 + 1)), (0, .ref (a (2 + 2 * x0))), (1, .long x1), (3, .int x3)]) b dX9_unpack_153 rfl rfl (by decide) rfl ?_
  refine z_goto (tgt := 73) b dX9_unpack_156 (by decide) ?_
  refine z_lv0 (lv' := [(0, .ref (a (2 + 2 * x0))), (1, .long x1), (3, .int x3), (4, .int (x4 + 1))]) [1, 2, 3, 0] rfl ?_
  exact hk73 _ _ _ _ _ h

def w_X9_unpack_F73 (cy : Nat → ClassId) (tE : Nat) (post : KS → Prop) (k159 : KS → Nat → Int64 → Int32 → Prop) (k73 : KS → Nat → Int64 → Int32 → Int32 → Prop) (S : KS) (x0 : Nat) (x1 : Int64) (x3 : Int32) (x4 : Int32) : Prop :=
  ((3 ≤ x4.toInt → k159 S x0 x1 x3) ∧ (x4.toInt < 3 → ((x4.toInt = x3.toInt → w_X9_unpack_B153 cy tE post k73 k159 S x0 x1 x3 x4) ∧ (x4.toInt ≠ x3.toInt → w_X9_pairShift cy tE S x3 x4 (fun r13 S14 => (x0 < 5) ∧ (x0 < 5) ∧ (0 ≤ ((10 : Int32) + (((3 : Int32) * x3) + x4)).toInt ∧ ((10 : Int32) + (((3 : Int32) * x3) + x4)).toInt < 51) ∧ (x0 < 5) ∧ (x0 < 5) ∧ (0 ≤ ((20 : Int32) + (((3 : Int32) * x3) + x4)).toInt ∧ ((20 : Int32) + (((3 : Int32) * x3) + x4)).toInt < 51) ∧ (x0 < 5) ∧ (x0 < 5) ∧ (0 ≤ ((30 : Int32) + (((3 : Int32) * x3) + x4)).toInt ∧ ((30 : Int32) + (((3 : Int32) * x3) + x4)).toInt < 51) ∧ w_X9_unpack_B153 cy tE post k73 k159 (ksu (ksu (ksu S14 (1 + x0) (((10 : Int32) + (((3 : Int32) * x3) + x4)).toNatClampNeg) (((((x1).toUInt64 >>> ((r13 : Int32).toInt64.toUInt64 &&& Int64.toUInt64 63)).toInt64 &&& 31) : Int64).toInt32 &&& 7)) (1 + x0) (((20 : Int32) + (((3 : Int32) * x3) + x4)).toNatClampNeg) ((((((x1).toUInt64 >>> ((r13 : Int32).toInt64.toUInt64 &&& Int64.toUInt64 63)).toInt64 &&& 31) : Int64).toInt32 >>> ((3 : Int32) &&& 31)) &&& 1)) (1 + x0) (((30 : Int32) + (((3 : Int32) * x3) + x4)).toNatClampNeg) (((((x1).toUInt64 >>> ((r13 : Int32).toInt64.toUInt64 &&& Int64.toUInt64 63)).toInt64 &&& 31) : Int64).toInt32 >>> ((4 : Int32) &&& 31))) x0 x1 x3 x4)))))

set_option maxHeartbeats 4000000 in
set_option maxRecDepth 100000 in
theorem z_X9_unpack_F73 {p : Program} {l : Launch} {e : Env} {R : Room} {s : State} {m : MethodId} {args : Array Value} {below : List Frame} {meth : Method} {c : Code} {D : va_G} {cy : Nat → ClassId} {T0 tB tE : Nat} {A : Nat → Prop} {a : Nat → Nat} {rw : Nat → Option Nat} (hrw : ∀ i, i < 6 → rw i = some (a (12 + 2 * i))) {post : KS → Prop} {k159 : KS → Nat → Int64 → Int32 → Prop} {k73 : KS → Nat → Int64 → Int32 → Int32 → Prop} (b : Bz p R s m args meth c D cy T0 tB tE A 7 cX9_unpack RX9 none "unpack" 1 21 0 0) (hk159 : ∀ (S : KS) (x0 : Nat) (x1 : Int64) (x3 : Int32), k159 S x0 x1 x3 → Z p l e R s m args below meth c D A 7 (MQ below (QV D (U := KS) post (kw cy a rw) A) args s 0 0 A) 0 0 (kw cy a rw S) [(0, .ref (a (2 + 2 * x0))), (1, .long x1), (3, .int x3)] 159 []) (hk73 : ∀ (S : KS) (x0 : Nat) (x1 : Int64) (x3 : Int32) (x4 : Int32), k73 S x0 x1 x3 x4 → Z p l e R s m args below meth c D A 7 (MQ below (QV D (U := KS) post (kw cy a rw) A) args s 0 0 A) 0 0 (kw cy a rw S) [(0, .ref (a (2 + 2 * x0))), (1, .long x1), (3, .int x3), (4, .int x4)] 73 []) (S : KS) (x0 : Nat) (x1 : Int64) (x3 : Int32) (x4 : Int32) (h : w_X9_unpack_F73 cy tE post k159 k73 S x0 x1 x3 x4) : Z p l e R s m args below meth c D A 7 (MQ below (QV D (U := KS) post (kw cy a rw) A) args s 0 0 A) 0 0 (kw cy a rw S) [(0, .ref (a (2 + 2 * x0))), (1, .long x1), (3, .int x3), (4, .int x4)] 73 [] := by
  unfold w_X9_unpack_F73 at h
  refine z_iload b dX9_unpack_73 rfl ?_
  refine z_iconst (v := 3) b dX9_unpack_75 (by decide) ?_
  refine y_icmp_ge (tgt := 159) (xl := x4.toInt) (yl := 3) b rfl (by decide) dX9_unpack_76 (by decide) (fun c1 => ?_) (fun c1 => ?_)
  · replace h := h.1 c1
    refine z_lv0 (lv' := [(0, .ref (a (2 + 2 * x0))), (1, .long x1), (3, .int x3)]) [0, 1, 2] rfl ?_
    exact hk159 _ _ _ _ h
  · replace h := h.2 c1
    refine z_iload b dX9_unpack_79 rfl ?_
    refine z_iload_n b dX9_unpack_81 rfl rfl ?_
    refine y_icmp_eq (tgt := 153) (xl := x4.toInt) (yl := x3.toInt) b rfl rfl dX9_unpack_82 (by decide) (fun c1 => ?_) (fun c1 => ?_)
    · replace h := h.1 c1
      exact z_X9_unpack_B153 hrw b hk73 hk159 _ _ _ _ _ h
    · replace h := h.2 c1
      refine z_iconst (v := 3) b dX9_unpack_85 (by decide) ?_
      refine z_iload_n b dX9_unpack_86 rfl rfl ?_
      refine z_imul b dX9_unpack_87 rfl ?_
      refine z_iload b dX9_unpack_88 rfl ?_
      refine z_iadd b dX9_unpack_90 rfl ?_
      refine z_istore (lv' := [(5, .int (((3 : Int32) * x3) + x4)), (0, .ref (a (2 + 2 * x0))), (1, .long x1), (3, .int x3), (4, .int x4)]) b dX9_unpack_91 (by decide) rfl ?_
      refine z_lload_n b dX9_unpack_93 rfl rfl ?_
      refine z_iload_n b dX9_unpack_94 rfl rfl ?_
      refine z_iload b dX9_unpack_95 rfl ?_
      refine z_calli b (z_runS (As := [.int x3, .int x4]) (st := [.long x1]) b (k_X9_pairShift hrw S x3 x4 _ h) cf_X9_pairShift wm_X9_55 ws_X9_pairShift dX9_unpack_97 rfl (Nat.le_of_ble_eq_true rfl) ⟨by decide, by decide, Nat.le_of_ble_eq_true rfl, Nat.le_of_ble_eq_true rfl⟩) (fun r13 S14 h => ?_)
      refine z_lushr b dX9_unpack_100 rfl ?_
      refine z_ldc2 b wl_X9_62 dX9_unpack_101 ?_
      refine z_land b dX9_unpack_104 rfl ?_
      refine z_l2i b dX9_unpack_105 rfl ?_
      refine z_istore (lv' := [(6, .int ((((x1).toUInt64 >>> ((r13 : Int32).toInt64.toUInt64 &&& Int64.toUInt64 63)).toInt64 &&& 31) : Int64).toInt32), (5, .int (((3 : Int32) * x3) + x4)), (0, .ref (a (2 + 2 * x0))), (1, .long x1), (3, .int x3), (4, .int x4)]) b dX9_unpack_106 (by decide) rfl ?_
      refine z_aload_n b dX9_unpack_108 rfl rfl ?_
      obtain ⟨g15, h⟩ := h
      refine z_get (q0 := 2 + 2 * x0) (k9 := 0) (v := .ref (a (3 + 2 * x0))) b (kw_so cy a rw S14 g15) rfl in_X9 (by decide) wf_X9_11 rfl dX9_unpack_109 ?_
      refine z_bipush (v := 10) b dX9_unpack_112 (by decide) ?_
      refine z_iload b dX9_unpack_114 rfl ?_
      refine z_iadd b dX9_unpack_116 rfl ?_
      refine z_iload b dX9_unpack_117 rfl ?_
      refine z_bipush (v := 7) b dX9_unpack_119 (by decide) ?_
      refine z_iand b dX9_unpack_121 rfl ?_
      obtain ⟨g16, h⟩ := h
      obtain ⟨g17, h⟩ := h
      refine y_iast (q0 := 3 + 2 * x0) (j := ((10 : Int32) + (((3 : Int32) * x3) + x4)).toNatClampNeg) b (kw_sr cy a rw S14 g16) (zx_r g17.1 g17.2) dX9_unpack_122 (kwa_sr cy a rw S14 g16 (((10 : Int32) + (((3 : Int32) * x3) + x4)).toNatClampNeg) (((((x1).toUInt64 >>> ((r13 : Int32).toInt64.toUInt64 &&& Int64.toUInt64 63)).toInt64 &&& 31) : Int64).toInt32 &&& 7)) ?_
      refine z_aload_n b dX9_unpack_123 rfl rfl ?_
      obtain ⟨g18, h⟩ := h
      refine z_get (q0 := 2 + 2 * x0) (k9 := 0) (v := .ref (a (3 + 2 * x0))) b (kw_so cy a rw (ksu S14 (1 + x0) (((10 : Int32) + (((3 : Int32) * x3) + x4)).toNatClampNeg) (((((x1).toUInt64 >>> ((r13 : Int32).toInt64.toUInt64 &&& Int64.toUInt64 63)).toInt64 &&& 31) : Int64).toInt32 &&& 7)) g18) rfl in_X9 (by decide) wf_X9_11 rfl dX9_unpack_124 ?_
      refine z_bipush (v := 20) b dX9_unpack_127 (by decide) ?_
      refine z_iload b dX9_unpack_129 rfl ?_
      refine z_iadd b dX9_unpack_131 rfl ?_
      refine z_iload b dX9_unpack_132 rfl ?_
      refine z_iconst (v := 3) b dX9_unpack_134 (by decide) ?_
      refine z_ishr b dX9_unpack_135 rfl ?_
      refine z_iconst (v := 1) b dX9_unpack_136 (by decide) ?_
      refine z_iand b dX9_unpack_137 rfl ?_
      obtain ⟨g19, h⟩ := h
      obtain ⟨g20, h⟩ := h
      refine y_iast (q0 := 3 + 2 * x0) (j := ((20 : Int32) + (((3 : Int32) * x3) + x4)).toNatClampNeg) b (kw_sr cy a rw (ksu S14 (1 + x0) (((10 : Int32) + (((3 : Int32) * x3) + x4)).toNatClampNeg) (((((x1).toUInt64 >>> ((r13 : Int32).toInt64.toUInt64 &&& Int64.toUInt64 63)).toInt64 &&& 31) : Int64).toInt32 &&& 7)) g19) (zx_r g20.1 g20.2) dX9_unpack_138 (kwa_sr cy a rw (ksu S14 (1 + x0) (((10 : Int32) + (((3 : Int32) * x3) + x4)).toNatClampNeg) (((((x1).toUInt64 >>> ((r13 : Int32).toInt64.toUInt64 &&& Int64.toUInt64 63)).toInt64 &&& 31) : Int64).toInt32 &&& 7)) g19 (((20 : Int32) + (((3 : Int32) * x3) + x4)).toNatClampNeg) ((((((x1).toUInt64 >>> ((r13 : Int32).toInt64.toUInt64 &&& Int64.toUInt64 63)).toInt64 &&& 31) : Int64).toInt32 >>> ((3 : Int32) &&& 31)) &&& 1)) ?_
      refine z_aload_n b dX9_unpack_139 rfl rfl ?_
      obtain ⟨g21, h⟩ := h
      refine z_get (q0 := 2 + 2 * x0) (k9 := 0) (v := .ref (a (3 + 2 * x0))) b (kw_so cy a rw (ksu (ksu S14 (1 + x0) (((10 : Int32) + (((3 : Int32) * x3) + x4)).toNatClampNeg) (((((x1).toUInt64 >>> ((r13 : Int32).toInt64.toUInt64 &&& Int64.toUInt64 63)).toInt64 &&& 31) : Int64).toInt32 &&& 7)) (1 + x0) (((20 : Int32) + (((3 : Int32) * x3) + x4)).toNatClampNeg) ((((((x1).toUInt64 >>> ((r13 : Int32).toInt64.toUInt64 &&& Int64.toUInt64 63)).toInt64 &&& 31) : Int64).toInt32 >>> ((3 : Int32) &&& 31)) &&& 1)) g21) rfl in_X9 (by decide) wf_X9_11 rfl dX9_unpack_140 ?_
      refine z_bipush (v := 30) b dX9_unpack_143 (by decide) ?_
      refine z_iload b dX9_unpack_145 rfl ?_
      refine z_iadd b dX9_unpack_147 rfl ?_
      refine z_iload b dX9_unpack_148 rfl ?_
      refine z_iconst (v := 4) b dX9_unpack_150 (by decide) ?_
      refine z_ishr b dX9_unpack_151 rfl ?_
      obtain ⟨g22, h⟩ := h
      obtain ⟨g23, h⟩ := h
      refine y_iast (q0 := 3 + 2 * x0) (j := ((30 : Int32) + (((3 : Int32) * x3) + x4)).toNatClampNeg) b (kw_sr cy a rw (ksu (ksu S14 (1 + x0) (((10 : Int32) + (((3 : Int32) * x3) + x4)).toNatClampNeg) (((((x1).toUInt64 >>> ((r13 : Int32).toInt64.toUInt64 &&& Int64.toUInt64 63)).toInt64 &&& 31) : Int64).toInt32 &&& 7)) (1 + x0) (((20 : Int32) + (((3 : Int32) * x3) + x4)).toNatClampNeg) ((((((x1).toUInt64 >>> ((r13 : Int32).toInt64.toUInt64 &&& Int64.toUInt64 63)).toInt64 &&& 31) : Int64).toInt32 >>> ((3 : Int32) &&& 31)) &&& 1)) g22) (zx_r g23.1 g23.2) dX9_unpack_152 (kwa_sr cy a rw (ksu (ksu S14 (1 + x0) (((10 : Int32) + (((3 : Int32) * x3) + x4)).toNatClampNeg) (((((x1).toUInt64 >>> ((r13 : Int32).toInt64.toUInt64 &&& Int64.toUInt64 63)).toInt64 &&& 31) : Int64).toInt32 &&& 7)) (1 + x0) (((20 : Int32) + (((3 : Int32) * x3) + x4)).toNatClampNeg) ((((((x1).toUInt64 >>> ((r13 : Int32).toInt64.toUInt64 &&& Int64.toUInt64 63)).toInt64 &&& 31) : Int64).toInt32 >>> ((3 : Int32) &&& 31)) &&& 1)) g22 (((30 : Int32) + (((3 : Int32) * x3) + x4)).toNatClampNeg) (((((x1).toUInt64 >>> ((r13 : Int32).toInt64.toUInt64 &&& Int64.toUInt64 63)).toInt64 &&& 31) : Int64).toInt32 >>> ((4 : Int32) &&& 31))) ?_
      refine z_lv0 (lv' := [(0, .ref (a (2 + 2 * x0))), (1, .long x1), (3, .int x3), (4, .int x4)]) [2, 3, 4, 5] rfl ?_
      exact z_X9_unpack_B153 hrw b hk73 hk159 _ _ _ _ _ h

set_option maxHeartbeats 4000000 in
set_option maxRecDepth 100000 in
theorem zl_X9_unpack_L73 {p : Program} {l : Launch} {e : Env} {R : Room} {s : State} {m : MethodId} {args : Array Value} {below : List Frame} {meth : Method} {c : Code} {D : va_G} {cy : Nat → ClassId} {T0 tB tE : Nat} {A : Nat → Prop} {a : Nat → Nat} {rw : Nat → Option Nat} (hrw : ∀ i, i < 6 → rw i = some (a (12 + 2 * i))) {post : KS → Prop} {k159 : KS → Nat → Int64 → Int32 → Prop} (b : Bz p R s m args meth c D cy T0 tB tE A 7 cX9_unpack RX9 none "unpack" 1 21 0 0) (hk159 : ∀ (S : KS) (x0 : Nat) (x1 : Int64) (x3 : Int32), k159 S x0 x1 x3 → Z p l e R s m args below meth c D A 7 (MQ below (QV D (U := KS) post (kw cy a rw) A) args s 0 0 A) 0 0 (kw cy a rw S) [(0, .ref (a (2 + 2 * x0))), (1, .long x1), (3, .int x3)] 159 []) : ∀ (n : Nat) (S : KS) (x0 : Nat) (x1 : Int64) (x3 : Int32) (x4 : Int32), lpn (w_X9_unpack_F73 cy tE post k159) (fun _ _ _ _ _ => False) n S x0 x1 x3 x4 → Z p l e R s m args below meth c D A 7 (MQ below (QV D (U := KS) post (kw cy a rw) A) args s 0 0 A) 0 0 (kw cy a rw S) [(0, .ref (a (2 + 2 * x0))), (1, .long x1), (3, .int x3), (4, .int x4)] 73 [] := by
  intro n
  induction n with
  | zero => intro _ _ _ _ _ h; exact h.elim
  | succ n ih => intro S x0 x1 x3 x4 h; exact z_X9_unpack_F73 hrw b hk159 ih S x0 x1 x3 x4 h

def w_X9_unpack_B159 (cy : Nat → ClassId) (tE : Nat) (post : KS → Prop) (k48 : KS → Nat → Int64 → Int32 → Prop) (k165 : KS → Prop) (S : KS) (x0 : Nat) (x1 : Int64) (x3 : Int32) : Prop :=
  k48 S x0 x1 (x3 + 1)

set_option maxHeartbeats 4000000 in
set_option maxRecDepth 100000 in
theorem z_X9_unpack_B159 {p : Program} {l : Launch} {e : Env} {R : Room} {s : State} {m : MethodId} {args : Array Value} {below : List Frame} {meth : Method} {c : Code} {D : va_G} {cy : Nat → ClassId} {T0 tB tE : Nat} {A : Nat → Prop} {a : Nat → Nat} {rw : Nat → Option Nat} (hrw : ∀ i, i < 6 → rw i = some (a (12 + 2 * i))) {post : KS → Prop} {k48 : KS → Nat → Int64 → Int32 → Prop} {k165 : KS → Prop} (b : Bz p R s m args meth c D cy T0 tB tE A 7 cX9_unpack RX9 none "unpack" 1 21 0 0) (hk48 : ∀ (S : KS) (x0 : Nat) (x1 : Int64) (x3 : Int32), k48 S x0 x1 x3 → Z p l e R s m args below meth c D A 7 (MQ below (QV D (U := KS) post (kw cy a rw) A) args s 0 0 A) 0 0 (kw cy a rw S) [(0, .ref (a (2 + 2 * x0))), (1, .long x1), (3, .int x3)] 48 []) (hk165 : ∀ (S : KS), k165 S → Z p l e R s m args below meth c D A 7 (MQ below (QV D (U := KS) post (kw cy a rw) A) args s 0 0 A) 0 0 (kw cy a rw S) [] 165 []) (S : KS) (x0 : Nat) (x1 : Int64) (x3 : Int32) (h : w_X9_unpack_B159 cy tE post k48 k165 S x0 x1 x3) : Z p l e R s m args below meth c D A 7 (MQ below (QV D (U := KS) post (kw cy a rw) A) args s 0 0 A) 0 0 (kw cy a rw S) [(0, .ref (a (2 + 2 * x0))), (1, .long x1), (3, .int x3)] 159 [] := by
  unfold w_X9_unpack_B159 at h
  refine z_iinc (k9 := 2) (v := (x3 + 1)) (lv' := [(3, .int (x3 + 1)), (0, .ref (a (2 + 2 * x0))), (1, .long x1)]) b dX9_unpack_159 rfl rfl (by decide) rfl ?_
  refine z_goto (tgt := 48) b dX9_unpack_162 (by decide) ?_
  refine z_lv0 (lv' := [(0, .ref (a (2 + 2 * x0))), (1, .long x1), (3, .int (x3 + 1))]) [1, 2, 0] rfl ?_
  exact hk48 _ _ _ _ h

def w_X9_unpack_F48 (cy : Nat → ClassId) (tE : Nat) (post : KS → Prop) (k165 : KS → Prop) (k48 : KS → Nat → Int64 → Int32 → Prop) (S : KS) (x0 : Nat) (x1 : Int64) (x3 : Int32) : Prop :=
  ((3 ≤ x3.toInt → k165 S) ∧ (x3.toInt < 3 → (x0 < 5) ∧ w_X9_coinShift cy tE S x3 (fun r9 S10 => (x0 < 5) ∧ (0 ≤ x3.toInt ∧ x3.toInt < 51) ∧ ∃ n, lpn (w_X9_unpack_F73 cy tE post (w_X9_unpack_B159 cy tE post k48 k165)) (fun _ _ _ _ _ => False) n (ksu S10 (1 + x0) (x3.toNatClampNeg) ((((x1).toUInt64 >>> ((r9 : Int32).toInt64.toUInt64 &&& Int64.toUInt64 63)).toInt64 &&& 15) : Int64).toInt32) x0 x1 x3 0)))

set_option maxHeartbeats 4000000 in
set_option maxRecDepth 100000 in
theorem z_X9_unpack_F48 {p : Program} {l : Launch} {e : Env} {R : Room} {s : State} {m : MethodId} {args : Array Value} {below : List Frame} {meth : Method} {c : Code} {D : va_G} {cy : Nat → ClassId} {T0 tB tE : Nat} {A : Nat → Prop} {a : Nat → Nat} {rw : Nat → Option Nat} (hrw : ∀ i, i < 6 → rw i = some (a (12 + 2 * i))) {post : KS → Prop} {k165 : KS → Prop} {k48 : KS → Nat → Int64 → Int32 → Prop} (b : Bz p R s m args meth c D cy T0 tB tE A 7 cX9_unpack RX9 none "unpack" 1 21 0 0) (hk165 : ∀ (S : KS), k165 S → Z p l e R s m args below meth c D A 7 (MQ below (QV D (U := KS) post (kw cy a rw) A) args s 0 0 A) 0 0 (kw cy a rw S) [] 165 []) (hk48 : ∀ (S : KS) (x0 : Nat) (x1 : Int64) (x3 : Int32), k48 S x0 x1 x3 → Z p l e R s m args below meth c D A 7 (MQ below (QV D (U := KS) post (kw cy a rw) A) args s 0 0 A) 0 0 (kw cy a rw S) [(0, .ref (a (2 + 2 * x0))), (1, .long x1), (3, .int x3)] 48 []) (S : KS) (x0 : Nat) (x1 : Int64) (x3 : Int32) (h : w_X9_unpack_F48 cy tE post k165 k48 S x0 x1 x3) : Z p l e R s m args below meth c D A 7 (MQ below (QV D (U := KS) post (kw cy a rw) A) args s 0 0 A) 0 0 (kw cy a rw S) [(0, .ref (a (2 + 2 * x0))), (1, .long x1), (3, .int x3)] 48 [] := by
  unfold w_X9_unpack_F48 at h
  refine z_iload_n b dX9_unpack_48 rfl rfl ?_
  refine z_iconst (v := 3) b dX9_unpack_49 (by decide) ?_
  refine y_icmp_ge (tgt := 165) (xl := x3.toInt) (yl := 3) b rfl (by decide) dX9_unpack_50 (by decide) (fun c1 => ?_) (fun c1 => ?_)
  · replace h := h.1 c1
    refine z_lv0 (lv' := []) [] rfl ?_
    exact hk165 _ h
  · replace h := h.2 c1
    refine z_aload_n b dX9_unpack_53 rfl rfl ?_
    obtain ⟨g8, h⟩ := h
    refine z_get (q0 := 2 + 2 * x0) (k9 := 0) (v := .ref (a (3 + 2 * x0))) b (kw_so cy a rw S g8) rfl in_X9 (by decide) wf_X9_11 rfl dX9_unpack_54 ?_
    refine z_iload_n b dX9_unpack_57 rfl rfl ?_
    refine z_lload_n b dX9_unpack_58 rfl rfl ?_
    refine z_iload_n b dX9_unpack_59 rfl rfl ?_
    refine z_calli b (z_runS (As := [.int x3]) (st := [.long x1, .int x3, .ref (a (3 + 2 * x0))]) b (k_X9_coinShift hrw S x3 _ h) cf_X9_coinShift wm_X9_52 ws_X9_coinShift dX9_unpack_60 rfl (Nat.le_of_ble_eq_true rfl) ⟨by decide, by decide, Nat.le_of_ble_eq_true rfl, Nat.le_of_ble_eq_true rfl⟩) (fun r9 S10 h => ?_)
    refine z_lushr b dX9_unpack_63 rfl ?_
    refine z_ldc2 b wl_X9_58 dX9_unpack_64 ?_
    refine z_land b dX9_unpack_67 rfl ?_
    refine z_l2i b dX9_unpack_68 rfl ?_
    obtain ⟨g11, h⟩ := h
    obtain ⟨g12, h⟩ := h
    refine y_iast (q0 := 3 + 2 * x0) (j := x3.toNatClampNeg) b (kw_sr cy a rw S10 g11) (zx_r g12.1 g12.2) dX9_unpack_69 (kwa_sr cy a rw S10 g11 (x3.toNatClampNeg) ((((x1).toUInt64 >>> ((r9 : Int32).toInt64.toUInt64 &&& Int64.toUInt64 63)).toInt64 &&& 15) : Int64).toInt32) ?_
    refine z_iconst (v := 0) b dX9_unpack_70 (by decide) ?_
    refine z_istore (lv' := [(4, .int 0), (0, .ref (a (2 + 2 * x0))), (1, .long x1), (3, .int x3)]) b dX9_unpack_71 (by decide) rfl ?_
    refine z_lv0 (lv' := [(0, .ref (a (2 + 2 * x0))), (1, .long x1), (3, .int x3), (4, .int 0)]) [1, 2, 3, 0] rfl ?_
    obtain ⟨n, h⟩ := h
    exact zl_X9_unpack_L73 hrw b (fun S x0 x1 x3 h => z_X9_unpack_B159 hrw b hk48 hk165 _ _ _ _ h) n _ _ _ _ _ h

set_option maxHeartbeats 4000000 in
set_option maxRecDepth 100000 in
theorem zl_X9_unpack_L48 {p : Program} {l : Launch} {e : Env} {R : Room} {s : State} {m : MethodId} {args : Array Value} {below : List Frame} {meth : Method} {c : Code} {D : va_G} {cy : Nat → ClassId} {T0 tB tE : Nat} {A : Nat → Prop} {a : Nat → Nat} {rw : Nat → Option Nat} (hrw : ∀ i, i < 6 → rw i = some (a (12 + 2 * i))) {post : KS → Prop} {k165 : KS → Prop} (b : Bz p R s m args meth c D cy T0 tB tE A 7 cX9_unpack RX9 none "unpack" 1 21 0 0) (hk165 : ∀ (S : KS), k165 S → Z p l e R s m args below meth c D A 7 (MQ below (QV D (U := KS) post (kw cy a rw) A) args s 0 0 A) 0 0 (kw cy a rw S) [] 165 []) : ∀ (n : Nat) (S : KS) (x0 : Nat) (x1 : Int64) (x3 : Int32), lpn (w_X9_unpack_F48 cy tE post k165) (fun _ _ _ _ => False) n S x0 x1 x3 → Z p l e R s m args below meth c D A 7 (MQ below (QV D (U := KS) post (kw cy a rw) A) args s 0 0 A) 0 0 (kw cy a rw S) [(0, .ref (a (2 + 2 * x0))), (1, .long x1), (3, .int x3)] 48 [] := by
  intro n
  induction n with
  | zero => intro _ _ _ _ h; exact h.elim
  | succ n ih => intro S x0 x1 x3 h; exact z_X9_unpack_F48 hrw b hk165 ih S x0 x1 x3 h

def w_X9_unpack_B165 (cy : Nat → ClassId) (tE : Nat) (post : KS → Prop) (S : KS)  : Prop :=
  post S

set_option maxHeartbeats 4000000 in
set_option maxRecDepth 100000 in
theorem z_X9_unpack_B165 {p : Program} {l : Launch} {e : Env} {R : Room} {s : State} {m : MethodId} {args : Array Value} {below : List Frame} {meth : Method} {c : Code} {D : va_G} {cy : Nat → ClassId} {T0 tB tE : Nat} {A : Nat → Prop} {a : Nat → Nat} {rw : Nat → Option Nat} (hrw : ∀ i, i < 6 → rw i = some (a (12 + 2 * i))) {post : KS → Prop} (b : Bz p R s m args meth c D cy T0 tB tE A 7 cX9_unpack RX9 none "unpack" 1 21 0 0) (S : KS)  (h : w_X9_unpack_B165 cy tE post S ) : Z p l e R s m args below meth c D A 7 (MQ below (QV D (U := KS) post (kw cy a rw) A) args s 0 0 A) 0 0 (kw cy a rw S) [] 165 [] := by
  unfold w_X9_unpack_B165 at h
  exact z_vret (u := S) b rfl dX9_unpack_165 h rfl (by decide) (by decide)

def w_X9_unpack_B46 (cy : Nat → ClassId) (tE : Nat) (post : KS → Prop) (S : KS) (x0 : Nat) (x1 : Int64) : Prop :=
  ∃ n, lpn (w_X9_unpack_F48 cy tE post (w_X9_unpack_B165 cy tE post)) (fun _ _ _ _ => False) n S x0 x1 0

set_option maxHeartbeats 4000000 in
set_option maxRecDepth 100000 in
theorem z_X9_unpack_B46 {p : Program} {l : Launch} {e : Env} {R : Room} {s : State} {m : MethodId} {args : Array Value} {below : List Frame} {meth : Method} {c : Code} {D : va_G} {cy : Nat → ClassId} {T0 tB tE : Nat} {A : Nat → Prop} {a : Nat → Nat} {rw : Nat → Option Nat} (hrw : ∀ i, i < 6 → rw i = some (a (12 + 2 * i))) {post : KS → Prop} (b : Bz p R s m args meth c D cy T0 tB tE A 7 cX9_unpack RX9 none "unpack" 1 21 0 0) (S : KS) (x0 : Nat) (x1 : Int64) (h : w_X9_unpack_B46 cy tE post S x0 x1) : Z p l e R s m args below meth c D A 7 (MQ below (QV D (U := KS) post (kw cy a rw) A) args s 0 0 A) 0 0 (kw cy a rw S) [(0, .ref (a (2 + 2 * x0))), (1, .long x1)] 46 [] := by
  unfold w_X9_unpack_B46 at h
  refine z_iconst (v := 0) b dX9_unpack_46 (by decide) ?_
  refine z_istore_n (lv' := [(3, .int 0), (0, .ref (a (2 + 2 * x0))), (1, .long x1)]) b dX9_unpack_47 rfl (by decide) rfl ?_
  refine z_lv0 (lv' := [(0, .ref (a (2 + 2 * x0))), (1, .long x1), (3, .int 0)]) [1, 2, 0] rfl ?_
  obtain ⟨n, h⟩ := h
  exact zl_X9_unpack_L48 hrw b (fun S h => z_X9_unpack_B165 hrw b _ h) n _ _ _ _ h

def w_X9_unpack (cy : Nat → ClassId) (tE : Nat) (S : KS) (p9 : Nat) (p0 : Int64) (post : KS → Prop) : Prop :=
  (p9 < 5) ∧ (p9 < 5) ∧ ∃ n, lpn (w_X9_unpack_F15 cy tE post (w_X9_unpack_B46 cy tE post)) (fun _ _ _ _ => False) n (ksu S (1 + p9) 50 ((p0 &&& 15) : Int64).toInt32) p9 p0 0

set_option maxHeartbeats 4000000 in
set_option maxRecDepth 100000 in
theorem k_X9_unpack {l : Launch} {D : va_G} {cy : Nat → ClassId} {T0 tB tE : Nat} {a : Nat → Nat} {rw : Nat → Option Nat} (hrw : ∀ i, i < 6 → rw i = some (a (12 + 2 * i))) (S : KS) (p9 : Nat) (p0 : Int64) (post : KS → Prop) (h : w_X9_unpack cy tE S p9 p0 post) : Ct l D cy T0 tB tE yX9_unpack cX9_unpack 7 none 1 21 0 0 (kw cy a rw S) [.ref (a (2 + 2 * p9)), .long p0] (QV D (U := KS) post (kw cy a rw)) := by
  refine Ct.ofZ RX9 "unpack" [(0, .ref (a (2 + 2 * p9))), (1, .long p0)] rfl rfl rfl rfl (Nat.le_of_ble_eq_true rfl) ?_
  intro p e R s m args below meth c A b
  unfold w_X9_unpack at h
  refine z_aload_n b dX9_unpack_0 rfl rfl ?_
  obtain ⟨g1, h⟩ := h
  refine z_get (q0 := 2 + 2 * p9) (k9 := 0) (v := .ref (a (3 + 2 * p9))) b (kw_so cy a rw S g1) rfl in_X9 (by decide) wf_X9_11 rfl dX9_unpack_1 ?_
  refine z_bipush (v := 50) b dX9_unpack_4 (by decide) ?_
  refine z_lload_n b dX9_unpack_6 rfl rfl ?_
  refine z_ldc2 b wl_X9_58 dX9_unpack_7 ?_
  refine z_land b dX9_unpack_10 rfl ?_
  refine z_l2i b dX9_unpack_11 rfl ?_
  obtain ⟨g2, h⟩ := h
  refine y_iast (q0 := 3 + 2 * p9) (j := 50) b (kw_sr cy a rw S g2) (by decide) dX9_unpack_12 (kwa_sr cy a rw S g2 50 ((p0 &&& 15) : Int64).toInt32) ?_
  refine z_iconst (v := 0) b dX9_unpack_13 (by decide) ?_
  refine z_istore_n (lv' := [(3, .int 0), (0, .ref (a (2 + 2 * p9))), (1, .long p0)]) b dX9_unpack_14 rfl (by decide) rfl ?_
  refine z_lv0 (lv' := [(0, .ref (a (2 + 2 * p9))), (1, .long p0), (3, .int 0)]) [1, 2, 0] rfl ?_
  obtain ⟨n, h⟩ := h
  exact zl_X9_unpack_L15 hrw b (fun S x0 x1 h => z_X9_unpack_B46 hrw b _ _ _ h) n _ _ _ _ h

def w_X8_load_B25 (cy : Nat → ClassId) (tE : Nat) (post : KS → Prop) (S : KS)  : Prop :=
  post S

set_option maxHeartbeats 4000000 in
set_option maxRecDepth 100000 in
theorem z_X8_load_B25 {p : Program} {l : Launch} {e : Env} {R : Room} {s : State} {m : MethodId} {args : Array Value} {below : List Frame} {meth : Method} {c : Code} {D : va_G} {cy : Nat → ClassId} {T0 tB tE : Nat} {A : Nat → Prop} {a : Nat → Nat} {rw : Nat → Option Nat} (hrw : ∀ i, i < 6 → rw i = some (a (12 + 2 * i))) {post : KS → Prop} (b : Bz p R s m args meth c D cy T0 tB tE A 2 cX8_load RX8 none "load" 2 47 0 0) (S : KS)  (h : w_X8_load_B25 cy tE post S ) : Z p l e R s m args below meth c D A 2 (MQ below (QV D (U := KS) post (kw cy a rw) A) args s 0 0 A) 0 0 (kw cy a rw S) [] 25 [] := by
  unfold w_X8_load_B25 at h
  exact z_vret (u := S) b rfl dX8_load_25 h rfl (by decide) (by decide)

def w_X8_load (cy : Nat → ClassId) (tE : Nat) (S : KS) (p0 : Int32) (post : KS → Prop) : Prop :=
  ((p0.toInt < 0 → w_X8_load_B25 cy tE post S) ∧ (0 ≤ p0.toInt → (((fi S.1 33).toInt ≤ p0.toInt → w_X8_load_B25 cy tE post S) ∧ (p0.toInt < (fi S.1 33).toInt → (0 ≤ p0.toInt ∧ p0.toInt < 400) ∧ w_X9_unpack cy tE S 4 ((al S.1 2) p0.toNatClampNeg) (fun S3 => w_X8_load_B25 cy tE post S3)))))

set_option maxHeartbeats 4000000 in
set_option maxRecDepth 100000 in
theorem k_X8_load {l : Launch} {D : va_G} {cy : Nat → ClassId} {T0 tB tE : Nat} {a : Nat → Nat} {rw : Nat → Option Nat} (hrw : ∀ i, i < 6 → rw i = some (a (12 + 2 * i))) (S : KS) (p0 : Int32) (post : KS → Prop) (h : w_X8_load cy tE S p0 post) : Ct l D cy T0 tB tE yX8_load cX8_load 2 none 2 47 0 0 (kw cy a rw S) [.ref (a 38), .int p0] (QV D (U := KS) post (kw cy a rw)) := by
  refine Ct.ofZ RX8 "load" [(0, .ref (a 38)), (1, .int p0)] rfl rfl rfl rfl (Nat.le_of_ble_eq_true rfl) ?_
  intro p e R s m args below meth c A b
  unfold w_X8_load at h
  refine z_iload_n b dX8_load_0 rfl rfl ?_
  refine y_if_lt (tgt := 25) (xl := p0.toInt) b rfl dX8_load_1 (by decide) (fun c1 => ?_) (fun c1 => ?_)
  · replace h := h.1 c1
    refine z_lv0 (lv' := []) [] rfl ?_
    exact z_X8_load_B25 hrw b _ h
  · replace h := h.2 c1
    refine z_iload_n b dX8_load_4 rfl rfl ?_
    refine z_aload_n b dX8_load_5 rfl rfl ?_
    refine z_get (q0 := 38) (k9 := 17) (v := .int (fi S.1 33)) b (kw_38 cy a rw S) rfl in_X8 (by decide) wf_X8_64 rfl dX8_load_6 ?_
    refine y_icmp_ge (tgt := 25) (xl := p0.toInt) (yl := (fi S.1 33).toInt) b rfl rfl dX8_load_9 (by decide) (fun c1 => ?_) (fun c1 => ?_)
    · replace h := h.1 c1
      refine z_lv0 (lv' := []) [] rfl ?_
      exact z_X8_load_B25 hrw b _ h
    · replace h := h.2 c1
      refine z_aload_n b dX8_load_12 rfl rfl ?_
      refine z_get (q0 := 38) (k9 := 2) (v := .ref (a 10)) b (kw_38 cy a rw S) rfl in_X8 (by decide) wf_X8_12 rfl dX8_load_13 ?_
      refine z_aload_n b dX8_load_16 rfl rfl ?_
      refine z_get (q0 := 38) (k9 := 3) (v := .ref (a 39)) b (kw_38 cy a rw S) rfl in_X8 (by decide) wf_X8_18 rfl dX8_load_17 ?_
      refine z_iload_n b dX8_load_20 rfl rfl ?_
      obtain ⟨g1, h⟩ := h
      refine y_lald (q0 := 39) (j := p0.toNatClampNeg) (v := ((al S.1 2) p0.toNatClampNeg)) b (kw_39 cy a rw S) (zx_r g1.1 g1.2) rfl dX8_load_21 ?_
      refine z_callv b (z_runV (q0 := 10) (As := [.long ((al S.1 2) p0.toNatClampNeg)]) (st := []) b (k_X9_unpack hrw S 4 ((al S.1 2) p0.toNatClampNeg) _ h) cf_X9_unpack (kw_10 cy a rw S) rfl wm_X8_122 wi_X9_unpack ws_X9_unpack dX8_load_22 rfl (Nat.le_of_ble_eq_true rfl) ⟨by decide, by decide, Nat.le_of_ble_eq_true rfl, Nat.le_of_ble_eq_true rfl⟩) (fun S3 h => ?_)
      refine z_lv0 (lv' := []) [] rfl ?_
      exact z_X8_load_B25 hrw b _ h

def w_X9_get_B23 (cy : Nat → ClassId) (tE : Nat) (post : Int32 → KS → Prop) (S : KS) (y0 : Int32) : Prop :=
  post y0 S

set_option maxHeartbeats 4000000 in
set_option maxRecDepth 100000 in
theorem z_X9_get_B23 {p : Program} {l : Launch} {e : Env} {R : Room} {s : State} {m : MethodId} {args : Array Value} {below : List Frame} {meth : Method} {c : Code} {D : va_G} {cy : Nat → ClassId} {T0 tB tE : Nat} {A : Nat → Prop} {a : Nat → Nat} {rw : Nat → Option Nat} (hrw : ∀ i, i < 6 → rw i = some (a (12 + 2 * i))) {post : Int32 → KS → Prop} (b : Bz p R s m args meth c D cy T0 tB tE A 2 cX9_get RX9 (some .int) "get" 0 0 0 0) (S : KS) (y0 : Int32) (h : w_X9_get_B23 cy tE post S y0) : Z p l e R s m args below meth c D A 2 (MQ below (QI D (U := KS) post (kw cy a rw) A) args s 0 0 A) 0 0 (kw cy a rw S) [] 23 [.int y0] := by
  unfold w_X9_get_B23 at h
  exact z_iret (u := S) b rfl dX9_get_23 h rfl (by decide) (by decide)

def w_X9_get_B22 (cy : Nat → ClassId) (tE : Nat) (post : Int32 → KS → Prop) (S : KS)  : Prop :=
  w_X9_get_B23 cy tE post S 0

set_option maxHeartbeats 4000000 in
set_option maxRecDepth 100000 in
theorem z_X9_get_B22 {p : Program} {l : Launch} {e : Env} {R : Room} {s : State} {m : MethodId} {args : Array Value} {below : List Frame} {meth : Method} {c : Code} {D : va_G} {cy : Nat → ClassId} {T0 tB tE : Nat} {A : Nat → Prop} {a : Nat → Nat} {rw : Nat → Option Nat} (hrw : ∀ i, i < 6 → rw i = some (a (12 + 2 * i))) {post : Int32 → KS → Prop} (b : Bz p R s m args meth c D cy T0 tB tE A 2 cX9_get RX9 (some .int) "get" 0 0 0 0) (S : KS)  (h : w_X9_get_B22 cy tE post S ) : Z p l e R s m args below meth c D A 2 (MQ below (QI D (U := KS) post (kw cy a rw) A) args s 0 0 A) 0 0 (kw cy a rw S) [] 22 [] := by
  unfold w_X9_get_B22 at h
  refine z_iconst (v := 0) b dX9_get_22 (by decide) ?_
  exact z_X9_get_B23 hrw b _ _ h

def w_X9_get (cy : Nat → ClassId) (tE : Nat) (S : KS) (p9 : Nat) (p0 : Int32) (post : Int32 → KS → Prop) : Prop :=
  ((p0.toInt < 0 → w_X9_get_B22 cy tE post S) ∧ (0 ≤ p0.toInt → (p9 < 5) ∧ (p9 < 5) ∧ ((51 ≤ p0.toInt → w_X9_get_B22 cy tE post S) ∧ (p0.toInt < 51 → (p9 < 5) ∧ (p9 < 5) ∧ (0 ≤ p0.toInt ∧ p0.toInt < 51) ∧ w_X9_get_B23 cy tE post S ((ar S.1 (1 + p9)) p0.toNatClampNeg)))))

set_option maxHeartbeats 4000000 in
set_option maxRecDepth 100000 in
theorem k_X9_get {l : Launch} {D : va_G} {cy : Nat → ClassId} {T0 tB tE : Nat} {a : Nat → Nat} {rw : Nat → Option Nat} (hrw : ∀ i, i < 6 → rw i = some (a (12 + 2 * i))) (S : KS) (p9 : Nat) (p0 : Int32) (post : Int32 → KS → Prop) (h : w_X9_get cy tE S p9 p0 post) : Ct l D cy T0 tB tE yX9_get cX9_get 2 (some .int) 0 0 0 0 (kw cy a rw S) [.ref (a (2 + 2 * p9)), .int p0] (QI D (U := KS) post (kw cy a rw)) := by
  refine Ct.ofZ RX9 "get" [(0, .ref (a (2 + 2 * p9))), (1, .int p0)] rfl rfl rfl rfl (Nat.le_of_ble_eq_true rfl) ?_
  intro p e R s m args below meth c A b
  unfold w_X9_get at h
  refine z_iload_n b dX9_get_0 rfl rfl ?_
  refine y_if_lt (tgt := 22) (xl := p0.toInt) b rfl dX9_get_1 (by decide) (fun c1 => ?_) (fun c1 => ?_)
  · replace h := h.1 c1
    refine z_lv0 (lv' := []) [] rfl ?_
    exact z_X9_get_B22 hrw b _ h
  · replace h := h.2 c1
    refine z_iload_n b dX9_get_4 rfl rfl ?_
    refine z_aload_n b dX9_get_5 rfl rfl ?_
    obtain ⟨g1, h⟩ := h
    refine z_get (q0 := 2 + 2 * p9) (k9 := 0) (v := .ref (a (3 + 2 * p9))) b (kw_so cy a rw S g1) rfl in_X9 (by decide) wf_X9_11 rfl dX9_get_6 ?_
    obtain ⟨g2, h⟩ := h
    refine z_alen (q0 := 3 + 2 * p9) (t0 := 0) (v := 51) b (kw_sr cy a rw S g2) rfl rfl dX9_get_9 ?_
    refine y_icmp_ge (tgt := 22) (xl := p0.toInt) (yl := 51) b rfl (by decide) dX9_get_10 (by decide) (fun c1 => ?_) (fun c1 => ?_)
    · replace h := h.1 c1
      refine z_lv0 (lv' := []) [] rfl ?_
      exact z_X9_get_B22 hrw b _ h
    · replace h := h.2 c1
      refine z_aload_n b dX9_get_13 rfl rfl ?_
      obtain ⟨g3, h⟩ := h
      refine z_get (q0 := 2 + 2 * p9) (k9 := 0) (v := .ref (a (3 + 2 * p9))) b (kw_so cy a rw S g3) rfl in_X9 (by decide) wf_X9_11 rfl dX9_get_14 ?_
      refine z_iload_n b dX9_get_17 rfl rfl ?_
      obtain ⟨g4, h⟩ := h
      obtain ⟨g5, h⟩ := h
      refine y_iald (q0 := 3 + 2 * p9) (j := p0.toNatClampNeg) (v := ((ar S.1 (1 + p9)) p0.toNatClampNeg)) b (kw_sr cy a rw S g4) (zx_r g5.1 g5.2) rfl dX9_get_18 ?_
      refine z_goto (tgt := 23) b dX9_get_19 (by decide) ?_
      refine z_lv0 (lv' := []) [] rfl ?_
      exact z_X9_get_B23 hrw b _ _ h

def w_X4_actOf_B117 (cy : Nat → ClassId) (tE : Nat) (post : Option Nat → KS → Prop) (S : KS) (y0 : Option Nat) : Prop :=
  post y0 S

set_option maxHeartbeats 4000000 in
set_option maxRecDepth 100000 in
theorem z_X4_actOf_B117 {p : Program} {l : Launch} {e : Env} {R : Room} {s : State} {m : MethodId} {args : Array Value} {below : List Frame} {meth : Method} {c : Code} {D : va_G} {cy : Nat → ClassId} {T0 tB tE : Nat} {A : Nat → Prop} {a : Nat → Nat} {rw : Nat → Option Nat} (hrw : ∀ i, i < 6 → rw i = some (a (12 + 2 * i))) {post : Option Nat → KS → Prop} (b : Bz p R s m args meth c D cy T0 tB tE A 8 cX4_actOf RX4 (some (.object "LawHoles$Act")) "actOf" 1 21 0 0) (S : KS) (y0 : Option Nat) (h : w_X4_actOf_B117 cy tE post S y0) : Z p l e R s m args below meth c D A 8 (MQ below (QQ D (U := KS) post (kw cy a rw) A) args s 0 0 A) 0 0 (kw cy a rw S) [] 117 [va_rf y0] := by
  unfold w_X4_actOf_B117 at h
  exact z_aret (v := y0) (u := S) b rfl (Or.inl ⟨_, rfl⟩) dX4_actOf_117 h rfl (by decide) (by decide)

def w_X4_actOf_B104 (cy : Nat → ClassId) (tE : Nat) (post : Option Nat → KS → Prop) (S : KS) (x4 : Option Nat) (y0 : Int32) : Prop :=
  ((y0.toInt = 0 → w_X4_actOf_B117 cy tE post S none) ∧ (y0.toInt ≠ 0 → w_X4_actOf_B117 cy tE post S x4))

set_option maxHeartbeats 4000000 in
set_option maxRecDepth 100000 in
theorem z_X4_actOf_B104 {p : Program} {l : Launch} {e : Env} {R : Room} {s : State} {m : MethodId} {args : Array Value} {below : List Frame} {meth : Method} {c : Code} {D : va_G} {cy : Nat → ClassId} {T0 tB tE : Nat} {A : Nat → Prop} {a : Nat → Nat} {rw : Nat → Option Nat} (hrw : ∀ i, i < 6 → rw i = some (a (12 + 2 * i))) {post : Option Nat → KS → Prop} (b : Bz p R s m args meth c D cy T0 tB tE A 8 cX4_actOf RX4 (some (.object "LawHoles$Act")) "actOf" 1 21 0 0) (S : KS) (x4 : Option Nat) (y0 : Int32) (h : w_X4_actOf_B104 cy tE post S x4 y0) : Z p l e R s m args below meth c D A 8 (MQ below (QQ D (U := KS) post (kw cy a rw) A) args s 0 0 A) 0 0 (kw cy a rw S) [(4, va_rf x4)] 104 [.int y0] := by
  unfold w_X4_actOf_B104 at h
  refine z_istore (lv' := [(7, .int y0), (4, va_rf x4)]) b dX4_actOf_104 (by decide) rfl ?_
  refine z_iload b dX4_actOf_106 rfl ?_
  refine y_if_eq (tgt := 116) (xl := y0.toInt) b rfl dX4_actOf_108 (by decide) (fun c1 => ?_) (fun c1 => ?_)
  · replace h := h.1 c1
    refine z_null b dX4_actOf_116 ?_
    refine z_lv0 (lv' := []) [] rfl ?_
    exact z_X4_actOf_B117 hrw b _ _ h
  · replace h := h.2 c1
    refine z_aload b dX4_actOf_111 rfl ?_
    refine z_goto (tgt := 117) b dX4_actOf_113 (by decide) ?_
    refine z_lv0 (lv' := []) [] rfl ?_
    exact z_X4_actOf_B117 hrw b _ _ h

def w_X4_actOf_B103 (cy : Nat → ClassId) (tE : Nat) (post : Option Nat → KS → Prop) (S : KS) (x4 : Option Nat) : Prop :=
  w_X4_actOf_B104 cy tE post S x4 0

set_option maxHeartbeats 4000000 in
set_option maxRecDepth 100000 in
theorem z_X4_actOf_B103 {p : Program} {l : Launch} {e : Env} {R : Room} {s : State} {m : MethodId} {args : Array Value} {below : List Frame} {meth : Method} {c : Code} {D : va_G} {cy : Nat → ClassId} {T0 tB tE : Nat} {A : Nat → Prop} {a : Nat → Nat} {rw : Nat → Option Nat} (hrw : ∀ i, i < 6 → rw i = some (a (12 + 2 * i))) {post : Option Nat → KS → Prop} (b : Bz p R s m args meth c D cy T0 tB tE A 8 cX4_actOf RX4 (some (.object "LawHoles$Act")) "actOf" 1 21 0 0) (S : KS) (x4 : Option Nat) (h : w_X4_actOf_B103 cy tE post S x4) : Z p l e R s m args below meth c D A 8 (MQ below (QQ D (U := KS) post (kw cy a rw) A) args s 0 0 A) 0 0 (kw cy a rw S) [(4, va_rf x4)] 103 [] := by
  unfold w_X4_actOf_B103 at h
  refine z_iconst (v := 0) b dX4_actOf_103 (by decide) ?_
  exact z_X4_actOf_B104 hrw b _ _ _ h

def w_X4_actOf_B84 (cy : Nat → ClassId) (tE : Nat) (post : Option Nat → KS → Prop) (S : KS) (x1 : Int32) (x4 : Option Nat) : Prop :=
  ∃ q17 : Nat, x4 = some q17 ∧ ∃ (i19 : Nat) (f20 : Int64) (f21 : Nat) (f22 : Nat) (f23 : Int32) (f24 : Int32), S.2.2.2[i19]? = some (q17, .inr (1, [.long f20, .ref f21, .ref f22, .int f23, .int f24])) ∧ w_X11_thingOf cy tE S x1 (fun r26 S27 => w_X11_isThing cy tE S27 r26 (fun r28 S29 => ((f24.toInt ≠ r28.toInt → w_X4_actOf_B103 cy tE post S29 (some q17)) ∧ (f24.toInt = r28.toInt → w_X4_actOf_B104 cy tE post S29 (some q17) 1))))

set_option maxHeartbeats 4000000 in
set_option maxRecDepth 100000 in
theorem z_X4_actOf_B84 {p : Program} {l : Launch} {e : Env} {R : Room} {s : State} {m : MethodId} {args : Array Value} {below : List Frame} {meth : Method} {c : Code} {D : va_G} {cy : Nat → ClassId} {T0 tB tE : Nat} {A : Nat → Prop} {a : Nat → Nat} {rw : Nat → Option Nat} (hrw : ∀ i, i < 6 → rw i = some (a (12 + 2 * i))) {post : Option Nat → KS → Prop} (b : Bz p R s m args meth c D cy T0 tB tE A 8 cX4_actOf RX4 (some (.object "LawHoles$Act")) "actOf" 1 21 0 0) (S : KS) (x1 : Int32) (x4 : Option Nat) (h : w_X4_actOf_B84 cy tE post S x1 x4) : Z p l e R s m args below meth c D A 8 (MQ below (QQ D (U := KS) post (kw cy a rw) A) args s 0 0 A) 0 0 (kw cy a rw S) [(1, .int x1), (4, va_rf x4)] 84 [] := by
  unfold w_X4_actOf_B84 at h
  refine z_aload b dX4_actOf_84 rfl ?_
  obtain ⟨q17, g18, h⟩ := h
  subst g18
  obtain ⟨i19, f20, f21, f22, f23, f24, g25, h⟩ := h
  refine z_get (q0 := 47 + i19) (k9 := 4) (v := .int f24) b (kw_dyn cy a rw S g25) rfl in_X0 (by decide) wf_X4_54 rfl dX4_actOf_86 ?_
  refine z_iload_n b dX4_actOf_89 rfl rfl ?_
  refine z_calli b (z_runSN (As := [.int x1]) (st := [.int f24]) b (k_X11_thingOf hrw S x1 _ h) cf_X11_thingOf (nw_X4_57) ws_X11_thingOf dX4_actOf_90 rfl (Nat.le_of_ble_eq_true rfl) ⟨by decide, by decide, Nat.le_of_ble_eq_true rfl, Nat.le_of_ble_eq_true rfl⟩) (fun r26 S27 h => ?_)
  refine z_calli b (z_runSN (As := [.int r26]) (st := [.int f24]) b (k_X11_isThing hrw S27 r26 _ h) cf_X11_isThing (nw_X4_60) ws_X11_isThing dX4_actOf_93 rfl (Nat.le_of_ble_eq_true rfl) ⟨by decide, by decide, Nat.le_of_ble_eq_true rfl, Nat.le_of_ble_eq_true rfl⟩) (fun r28 S29 h => ?_)
  refine y_icmp_ne (tgt := 103) (xl := f24.toInt) (yl := r28.toInt) b rfl rfl dX4_actOf_96 (by decide) (fun c1 => ?_) (fun c1 => ?_)
  · replace h := h.1 c1
    refine z_lv0 (lv' := [(4, .ref q17)]) [1] rfl ?_
    exact z_X4_actOf_B103 hrw b _ _ h
  · replace h := h.2 c1
    refine z_iconst (v := 1) b dX4_actOf_99 (by decide) ?_
    refine z_goto (tgt := 104) b dX4_actOf_100 (by decide) ?_
    refine z_lv0 (lv' := [(4, .ref q17)]) [1] rfl ?_
    exact z_X4_actOf_B104 hrw b _ _ _ h

def w_X4_actOf (cy : Nat → ClassId) (tE : Nat) (S : KS) (p0 : Int32) (p1 : Int32) (post : Option Nat → KS → Prop) : Prop :=
  ((((p1 >>> (((p0 / 64) / 6) &&& 31)) &&& 1).toInt ≠ 0 → w_X4_actAt cy tE S (p0 / 64) (fun r1 S2 => ((r1 = none → post none S2) ∧ (∀ q3 : Nat, r1 = some q3 → w_X11_doerOf cy tE S2 p0 (fun r4 S5 => w_X11_otherOf cy tE S5 p0 (fun r6 S7 => w_X11_isPerson cy tE S7 r4 (fun r8 S9 => ((r8.toInt = 0 → w_X4_actOf_B103 cy tE post S9 (some q3)) ∧ (r8.toInt ≠ 0 → ∃ (i10 : Nat) (f11 : Int64) (f12 : Nat) (f13 : Nat) (f14 : Int32) (f15 : Int32), S9.2.2.2[i10]? = some (q3, .inr (1, [.long f11, .ref f12, .ref f13, .int f14, .int f15])) ∧ ((f14.toInt = 0 → ((r6.toInt ≠ 3 → w_X4_actOf_B103 cy tE post S9 (some q3)) ∧ (r6.toInt = 3 → w_X4_actOf_B84 cy tE post S9 p0 (some q3)))) ∧ (f14.toInt ≠ 0 → w_X11_isPerson cy tE S9 r6 (fun r30 S31 => ((r30.toInt = 0 → w_X4_actOf_B103 cy tE post S31 (some q3)) ∧ (r30.toInt ≠ 0 → ((r6.toInt = r4.toInt → w_X4_actOf_B103 cy tE post S31 (some q3)) ∧ (r6.toInt ≠ r4.toInt → w_X4_actOf_B84 cy tE post S31 p0 (some q3))))))))))))))))) ∧ (((p1 >>> (((p0 / 64) / 6) &&& 31)) &&& 1).toInt = 0 → post none S))

set_option maxHeartbeats 4000000 in
set_option maxRecDepth 100000 in
theorem k_X4_actOf {l : Launch} {D : va_G} {cy : Nat → ClassId} {T0 tB tE : Nat} {a : Nat → Nat} {rw : Nat → Option Nat} (hrw : ∀ i, i < 6 → rw i = some (a (12 + 2 * i))) (S : KS) (p0 : Int32) (p1 : Int32) (post : Option Nat → KS → Prop) (h : w_X4_actOf cy tE S p0 p1 post) : Ct l D cy T0 tB tE yX4_actOf cX4_actOf 8 (some (.object "LawHoles$Act")) 1 21 0 0 (kw cy a rw S) [.ref (a 33), .int p0, .int p1] (QQ D (U := KS) post (kw cy a rw)) := by
  refine Ct.ofZ RX4 "actOf" [(0, .ref (a 33)), (1, .int p0), (2, .int p1)] rfl rfl rfl rfl (Nat.le_of_ble_eq_true rfl) ?_
  intro p e R s m args below meth c A b
  unfold w_X4_actOf at h
  refine z_iload_n b dX4_actOf_0 rfl rfl ?_
  refine z_bipush (v := 64) b dX4_actOf_1 (by decide) ?_
  refine z_idiv b dX4_actOf_3 (by decide) rfl ?_
  refine z_istore_n (lv' := [(3, .int (p0 / 64)), (0, .ref (a 33)), (1, .int p0), (2, .int p1)]) b dX4_actOf_4 rfl (by decide) rfl ?_
  refine z_iload_n b dX4_actOf_5 rfl rfl ?_
  refine z_iload_n b dX4_actOf_6 rfl rfl ?_
  refine z_bipush (v := 6) b dX4_actOf_7 (by decide) ?_
  refine z_idiv b dX4_actOf_9 (by decide) rfl ?_
  refine z_ishr b dX4_actOf_10 rfl ?_
  refine z_iconst (v := 1) b dX4_actOf_11 (by decide) ?_
  refine z_iand b dX4_actOf_12 rfl ?_
  refine y_if_ne (tgt := 18) (xl := ((p1 >>> (((p0 / 64) / 6) &&& 31)) &&& 1).toInt) b rfl dX4_actOf_13 (by decide) (fun c1 => ?_) (fun c1 => ?_)
  · replace h := h.1 c1
    refine z_aload_n b dX4_actOf_18 rfl rfl ?_
    refine z_iload_n b dX4_actOf_19 rfl rfl ?_
    refine z_callq b (z_runV (q0 := 33) (As := [.int (p0 / 64)]) (st := []) b (k_X4_actAt hrw S (p0 / 64) _ h) cf_X4_actAt (kw_33 cy a rw S) rfl wm_X4_35 wi_X4_actAt ws_X4_actAt dX4_actOf_20 rfl (Nat.le_of_ble_eq_true rfl) ⟨by decide, by decide, Nat.le_of_ble_eq_true rfl, Nat.le_of_ble_eq_true rfl⟩) (fun r1 S2 h => ?_)
    refine z_astore (lv' := [(4, va_rf r1), (3, .int (p0 / 64)), (0, .ref (a 33)), (1, .int p0), (2, .int p1)]) b dX4_actOf_23 (by decide) rfl ?_
    refine z_aload b dX4_actOf_25 rfl ?_
    cases r1 with
    | none =>
      replace h := h.1 rfl
      refine z_ifnonnullN b dX4_actOf_27 ?_
      refine z_null b dX4_actOf_30 ?_
      exact z_aret (v := none) (u := S2) b rfl (Or.inl ⟨_, rfl⟩) dX4_actOf_31 h rfl (by decide) (by decide)
    | some q3 =>
      replace h := h.2 q3 rfl
      refine z_ifnonnull (tgt := 32) b dX4_actOf_27 (by decide) ?_
      refine z_iload_n b dX4_actOf_32 rfl rfl ?_
      refine z_calli b (z_runSN (As := [.int p0]) (st := []) b (k_X11_doerOf hrw S2 p0 _ h) cf_X11_doerOf (nw_X4_39) ws_X11_doerOf dX4_actOf_33 rfl (Nat.le_of_ble_eq_true rfl) ⟨by decide, by decide, Nat.le_of_ble_eq_true rfl, Nat.le_of_ble_eq_true rfl⟩) (fun r4 S5 h => ?_)
      refine z_istore (lv' := [(5, .int r4), (4, .ref q3), (3, .int (p0 / 64)), (0, .ref (a 33)), (1, .int p0), (2, .int p1)]) b dX4_actOf_36 (by decide) rfl ?_
      refine z_iload_n b dX4_actOf_38 rfl rfl ?_
      refine z_calli b (z_runSN (As := [.int p0]) (st := []) b (k_X11_otherOf hrw S5 p0 _ h) cf_X11_otherOf (nw_X4_43) ws_X11_otherOf dX4_actOf_39 rfl (Nat.le_of_ble_eq_true rfl) ⟨by decide, by decide, Nat.le_of_ble_eq_true rfl, Nat.le_of_ble_eq_true rfl⟩) (fun r6 S7 h => ?_)
      refine z_istore (lv' := [(6, .int r6), (5, .int r4), (4, .ref q3), (3, .int (p0 / 64)), (0, .ref (a 33)), (1, .int p0), (2, .int p1)]) b dX4_actOf_42 (by decide) rfl ?_
      refine z_iload b dX4_actOf_44 rfl ?_
      refine z_calli b (z_runSN (As := [.int r4]) (st := []) b (k_X11_isPerson hrw S7 r4 _ h) cf_X11_isPerson (nw_X4_46) ws_X11_isPerson dX4_actOf_46 rfl (Nat.le_of_ble_eq_true rfl) ⟨by decide, by decide, Nat.le_of_ble_eq_true rfl, Nat.le_of_ble_eq_true rfl⟩) (fun r8 S9 h => ?_)
      refine y_if_eq (tgt := 103) (xl := r8.toInt) b rfl dX4_actOf_49 (by decide) (fun c1 => ?_) (fun c1 => ?_)
      · replace h := h.1 c1
        refine z_lv0 (lv' := [(4, .ref q3)]) [2] rfl ?_
        exact z_X4_actOf_B103 hrw b _ _ h
      · replace h := h.2 c1
        refine z_aload b dX4_actOf_52 rfl ?_
        obtain ⟨i10, f11, f12, f13, f14, f15, g16, h⟩ := h
        refine z_get (q0 := 47 + i10) (k9 := 3) (v := .int f14) b (kw_dyn cy a rw S9 g16) rfl in_X0 (by decide) wf_X4_50 rfl dX4_actOf_54 ?_
        refine y_if_eq (tgt := 78) (xl := f14.toInt) b rfl dX4_actOf_57 (by decide) (fun c1 => ?_) (fun c1 => ?_)
        · replace h := h.1 c1
          refine z_iload b dX4_actOf_78 rfl ?_
          refine z_iconst (v := 3) b dX4_actOf_80 (by decide) ?_
          refine y_icmp_ne (tgt := 103) (xl := r6.toInt) (yl := 3) b rfl (by decide) dX4_actOf_81 (by decide) (fun c1 => ?_) (fun c1 => ?_)
          · replace h := h.1 c1
            refine z_lv0 (lv' := [(4, .ref q3)]) [2] rfl ?_
            exact z_X4_actOf_B103 hrw b _ _ h
          · replace h := h.2 c1
            refine z_lv0 (lv' := [(1, .int p0), (4, .ref q3)]) [5, 2] rfl ?_
            exact z_X4_actOf_B84 hrw b _ _ _ h
        · replace h := h.2 c1
          refine z_iload b dX4_actOf_60 rfl ?_
          refine z_calli b (z_runSN (As := [.int r6]) (st := []) b (k_X11_isPerson hrw S9 r6 _ h) cf_X11_isPerson (nw_X4_46) ws_X11_isPerson dX4_actOf_62 rfl (Nat.le_of_ble_eq_true rfl) ⟨by decide, by decide, Nat.le_of_ble_eq_true rfl, Nat.le_of_ble_eq_true rfl⟩) (fun r30 S31 h => ?_)
          refine y_if_eq (tgt := 103) (xl := r30.toInt) b rfl dX4_actOf_65 (by decide) (fun c1 => ?_) (fun c1 => ?_)
          · replace h := h.1 c1
            refine z_lv0 (lv' := [(4, .ref q3)]) [2] rfl ?_
            exact z_X4_actOf_B103 hrw b _ _ h
          · replace h := h.2 c1
            refine z_iload b dX4_actOf_68 rfl ?_
            refine z_iload b dX4_actOf_70 rfl ?_
            refine y_icmp_eq (tgt := 103) (xl := r6.toInt) (yl := r4.toInt) b rfl rfl dX4_actOf_72 (by decide) (fun c1 => ?_) (fun c1 => ?_)
            · replace h := h.1 c1
              refine z_lv0 (lv' := [(4, .ref q3)]) [2] rfl ?_
              exact z_X4_actOf_B103 hrw b _ _ h
            · replace h := h.2 c1
              refine z_goto (tgt := 84) b dX4_actOf_75 (by decide) ?_
              refine z_lv0 (lv' := [(1, .int p0), (4, .ref q3)]) [5, 2] rfl ?_
              exact z_X4_actOf_B84 hrw b _ _ _ h
  · replace h := h.2 c1
    refine z_null b dX4_actOf_16 ?_
    exact z_aret (v := none) (u := S) b rfl (Or.inl ⟨_, rfl⟩) dX4_actOf_17 h rfl (by decide) (by decide)

def w_X6_look (cy : Nat → ClassId) (tE : Nat) (S : KS) (p0 : Nat) (p1 : Int32) (post : KS → Prop) : Prop :=
  w_X11_doerOf cy tE (kse S 3 p0) p1 (fun r1 S2 => w_X11_otherOf cy tE (ksi S2 23 r1) p1 (fun r3 S4 => w_X11_thingOf cy tE (ksi S4 24 r3) p1 (fun r5 S6 => post (ksi S6 25 r5))))

set_option maxHeartbeats 4000000 in
set_option maxRecDepth 100000 in
theorem k_X6_look {l : Launch} {D : va_G} {cy : Nat → ClassId} {T0 tB tE : Nat} {a : Nat → Nat} {rw : Nat → Option Nat} (hrw : ∀ i, i < 6 → rw i = some (a (12 + 2 * i))) (S : KS) (p0 : Nat) (p1 : Int32) (post : KS → Prop) (h : w_X6_look cy tE S p0 p1 post) : Ct l D cy T0 tB tE yX6_look cX6_look 3 none 1 20 0 0 (kw cy a rw S) [.ref (a 36), .ref (a (2 + 2 * p0)), .int p1] (QV D (U := KS) post (kw cy a rw)) := by
  refine Ct.ofZ RX6 "look" [(0, .ref (a 36)), (1, .ref (a (2 + 2 * p0))), (2, .int p1)] rfl rfl rfl rfl (Nat.le_of_ble_eq_true rfl) ?_
  intro p e R s m args below meth c A b
  unfold w_X6_look at h
  refine z_aload_n b dX6_look_0 rfl rfl ?_
  refine z_aload_n b dX6_look_1 rfl rfl ?_
  refine z_put (q0 := 36) (k9 := 1) tyX6 b (kw_36 cy a rw S) rfl in_X6 tyX6_ok nmX6 (by decide) wf_X6_18 rfl rfl rfl rfl (Nat.le_of_ble_eq_true rfl) dX6_look_2 (kwp_36_1 cy a rw S p0) ?_
  refine z_aload_n b dX6_look_5 rfl rfl ?_
  refine z_iload_n b dX6_look_6 rfl rfl ?_
  refine z_calli b (z_runSN (As := [.int p1]) (st := [.ref (a 36)]) b (k_X11_doerOf hrw (kse S 3 p0) p1 _ h) cf_X11_doerOf (nw_X6_32) ws_X11_doerOf dX6_look_7 rfl (Nat.le_of_ble_eq_true rfl) ⟨by decide, by decide, Nat.le_of_ble_eq_true rfl, Nat.le_of_ble_eq_true rfl⟩) (fun r1 S2 h => ?_)
  refine z_put (q0 := 36) (k9 := 2) tyX6 b (kw_36 cy a rw S2) rfl in_X6 tyX6_ok nmX6 (by decide) wf_X6_22 rfl rfl rfl rfl (Nat.le_of_ble_eq_true rfl) dX6_look_10 (kwp_36_2 cy a rw S2 r1) ?_
  refine z_aload_n b dX6_look_13 rfl rfl ?_
  refine z_iload_n b dX6_look_14 rfl rfl ?_
  refine z_calli b (z_runSN (As := [.int p1]) (st := [.ref (a 36)]) b (k_X11_otherOf hrw (ksi S2 23 r1) p1 _ h) cf_X11_otherOf (nw_X6_36) ws_X11_otherOf dX6_look_15 rfl (Nat.le_of_ble_eq_true rfl) ⟨by decide, by decide, Nat.le_of_ble_eq_true rfl, Nat.le_of_ble_eq_true rfl⟩) (fun r3 S4 h => ?_)
  refine z_put (q0 := 36) (k9 := 3) tyX6 b (kw_36 cy a rw S4) rfl in_X6 tyX6_ok nmX6 (by decide) wf_X6_26 rfl rfl rfl rfl (Nat.le_of_ble_eq_true rfl) dX6_look_18 (kwp_36_3 cy a rw S4 r3) ?_
  refine z_aload_n b dX6_look_21 rfl rfl ?_
  refine z_iload_n b dX6_look_22 rfl rfl ?_
  refine z_calli b (z_runSN (As := [.int p1]) (st := [.ref (a 36)]) b (k_X11_thingOf hrw (ksi S4 24 r3) p1 _ h) cf_X11_thingOf (nw_X6_39) ws_X11_thingOf dX6_look_23 rfl (Nat.le_of_ble_eq_true rfl) ⟨by decide, by decide, Nat.le_of_ble_eq_true rfl, Nat.le_of_ble_eq_true rfl⟩) (fun r5 S6 h => ?_)
  refine z_put (q0 := 36) (k9 := 4) tyX6 b (kw_36 cy a rw S6) rfl in_X6 tyX6_ok nmX6 (by decide) wf_X6_29 rfl rfl rfl rfl (Nat.le_of_ble_eq_true rfl) dX6_look_26 (kwp_36_4 cy a rw S6 r5) ?_
  exact z_vret (u := (ksi S6 25 r5)) b rfl dX6_look_29 h rfl (by decide) (by decide)

def w_J3_checkIndex_8e157_B9 (cy : Nat → ClassId) (tE : Nat) (post : Int32 → KS → Prop) (S : KS) (x0 : Int32) (x1 : Int32) : Prop :=
  False

set_option maxHeartbeats 4000000 in
set_option maxRecDepth 100000 in
theorem z_J3_checkIndex_8e157_B9 {p : Program} {l : Launch} {e : Env} {R : Room} {s : State} {m : MethodId} {args : Array Value} {below : List Frame} {meth : Method} {c : Code} {D : va_G} {cy : Nat → ClassId} {T0 tB tE : Nat} {A : Nat → Prop} {a : Nat → Nat} {rw : Nat → Option Nat} (hrw : ∀ i, i < 6 → rw i = some (a (12 + 2 * i))) {post : Int32 → KS → Prop} (b : Bz p R s m args meth c D cy T0 tB tE A 3 cJ3_checkIndex_8e157 RJ3 (some .int) "checkIndex" 0 0 0 0) (S : KS) (x0 : Int32) (x1 : Int32) (h : w_J3_checkIndex_8e157_B9 cy tE post S x0 x1) : Z p l e R s m args below meth c D A 3 (MQ below (QI D (U := KS) post (kw cy a rw) A) args s 0 0 A) 0 0 (kw cy a rw S) [(0, .int x0), (1, .int x1), (2, .null)] 9 [] := by
  unfold w_J3_checkIndex_8e157_B9 at h
  refine z_aload_nN b dJ3_checkIndex_8e157_9 rfl rfl ?_
  refine z_iload_n b dJ3_checkIndex_8e157_10 rfl rfl ?_
  refine z_iload_n b dJ3_checkIndex_8e157_11 rfl rfl ?_
  exact h.elim

def w_J3_checkIndex_8e157 (cy : Nat → ClassId) (tE : Nat) (S : KS) (p0 : Int32) (p1 : Int32) (post : Int32 → KS → Prop) : Prop :=
  ((p0.toInt < 0 → w_J3_checkIndex_8e157_B9 cy tE post S p0 p1) ∧ (0 ≤ p0.toInt → ((p0.toInt < p1.toInt → post p0 S) ∧ (p1.toInt ≤ p0.toInt → w_J3_checkIndex_8e157_B9 cy tE post S p0 p1))))

set_option maxHeartbeats 4000000 in
set_option maxRecDepth 100000 in
theorem k_J3_checkIndex_8e157 {l : Launch} {D : va_G} {cy : Nat → ClassId} {T0 tB tE : Nat} {a : Nat → Nat} {rw : Nat → Option Nat} (hrw : ∀ i, i < 6 → rw i = some (a (12 + 2 * i))) (S : KS) (p0 : Int32) (p1 : Int32) (post : Int32 → KS → Prop) (h : w_J3_checkIndex_8e157 cy tE S p0 p1 post) : Ct l D cy T0 tB tE yJ3_checkIndex_8e157 cJ3_checkIndex_8e157 3 (some .int) 0 0 0 0 (kw cy a rw S) [.int p0, .int p1, .null] (QI D (U := KS) post (kw cy a rw)) := by
  refine Ct.ofZ RJ3 "checkIndex" [(0, .int p0), (1, .int p1), (2, .null)] rfl rfl rfl rfl (Nat.le_of_ble_eq_true rfl) ?_
  intro p e R s m args below meth c A b
  unfold w_J3_checkIndex_8e157 at h
  refine z_iload_n b dJ3_checkIndex_8e157_0 rfl rfl ?_
  refine y_if_lt (tgt := 9) (xl := p0.toInt) b rfl dJ3_checkIndex_8e157_1 (by decide) (fun c1 => ?_) (fun c1 => ?_)
  · replace h := h.1 c1
    exact z_J3_checkIndex_8e157_B9 hrw b _ _ _ h
  · replace h := h.2 c1
    refine z_iload_n b dJ3_checkIndex_8e157_4 rfl rfl ?_
    refine z_iload_n b dJ3_checkIndex_8e157_5 rfl rfl ?_
    refine y_icmp_lt (tgt := 16) (xl := p0.toInt) (yl := p1.toInt) b rfl rfl dJ3_checkIndex_8e157_6 (by decide) (fun c1 => ?_) (fun c1 => ?_)
    · replace h := h.1 c1
      refine z_iload_n b dJ3_checkIndex_8e157_16 rfl rfl ?_
      exact z_iret (u := S) b rfl dJ3_checkIndex_8e157_17 h rfl (by decide) (by decide)
    · replace h := h.2 c1
      exact z_J3_checkIndex_8e157_B9 hrw b _ _ _ h

def w_J15_checkIndex_7cf53 (cy : Nat → ClassId) (tE : Nat) (S : KS) (p0 : Int32) (p1 : Int32) (post : Int32 → KS → Prop) : Prop :=
  w_J3_checkIndex_8e157 cy tE S p0 p1 (fun r1 S2 => post r1 S2)

set_option maxHeartbeats 4000000 in
set_option maxRecDepth 100000 in
theorem k_J15_checkIndex_7cf53 {l : Launch} {D : va_G} {cy : Nat → ClassId} {T0 tB tE : Nat} {a : Nat → Nat} {rw : Nat → Option Nat} (hrw : ∀ i, i < 6 → rw i = some (a (12 + 2 * i))) (S : KS) (p0 : Int32) (p1 : Int32) (post : Int32 → KS → Prop) (h : w_J15_checkIndex_7cf53 cy tE S p0 p1 post) : Ct l D cy T0 tB tE yJ15_checkIndex_7cf53 cJ15_checkIndex_7cf53 2 (some .int) 1 22 0 0 (kw cy a rw S) [.int p0, .int p1] (QI D (U := KS) post (kw cy a rw)) := by
  refine Ct.ofZ RJ15 "checkIndex" [(0, .int p0), (1, .int p1)] rfl rfl rfl rfl (Nat.le_of_ble_eq_true rfl) ?_
  intro p e R s m args below meth c A b
  unfold w_J15_checkIndex_7cf53 at h
  refine z_iload_n b dJ15_checkIndex_7cf53_0 rfl rfl ?_
  refine z_iload_n b dJ15_checkIndex_7cf53_1 rfl rfl ?_
  refine z_null b dJ15_checkIndex_7cf53_2 ?_
  refine z_calli b (z_runS (As := [.int p0, .int p1, .null]) (st := []) b (k_J3_checkIndex_8e157 hrw S p0 p1 _ h) cf_J3_checkIndex_8e157 wm_J15_105 ws_J3_checkIndex_8e157 dJ15_checkIndex_7cf53_3 rfl (Nat.le_of_ble_eq_true rfl) ⟨by decide, by decide, Nat.le_of_ble_eq_true rfl, Nat.le_of_ble_eq_true rfl⟩) (fun r1 S2 h => ?_)
  exact z_iret (u := S2) b rfl dJ15_checkIndex_7cf53_6 h rfl (by decide) (by decide)

def w_Jx4a65c_elementData_915e3 (cy : Nat → ClassId) (tE : Nat) (S : KS) (p9 : Nat) (p0 : Int32) (post : Option Nat → KS → Prop) : Prop :=
  ∃ (i1 : Nat) (f2 : Int32) (f3 : Nat) (f4 : Int32), S.2.2.2[i1]? = some (p9, .inr (0, [.int f2, .ref f3, .int f4])) ∧ ∃ (i6 n7 : Nat) (f8 : Nat → Option Nat), S.2.2.2[i6]? = some (f3, .inl (cy 5, n7, .inr (.inr (.inr (.inr f8))))) ∧ (0 ≤ p0.toInt ∧ p0.toInt < (n7 : Int)) ∧ post (f8 p0.toNatClampNeg) S

set_option maxHeartbeats 4000000 in
set_option maxRecDepth 100000 in
theorem k_Jx4a65c_elementData_915e3 {l : Launch} {D : va_G} {cy : Nat → ClassId} {T0 tB tE : Nat} {a : Nat → Nat} {rw : Nat → Option Nat} (hrw : ∀ i, i < 6 → rw i = some (a (12 + 2 * i))) (S : KS) (p9 : Nat) (p0 : Int32) (post : Option Nat → KS → Prop) (h : w_Jx4a65c_elementData_915e3 cy tE S p9 p0 post) : Ct l D cy T0 tB tE yJx4a65c_elementData_915e3 cJx4a65c_elementData_915e3 2 (some (.object "java/lang/Object")) 0 0 0 0 (kw cy a rw S) [.ref p9, .int p0] (QQ D (U := KS) post (kw cy a rw)) := by
  refine Ct.ofZ RJx4a65c "elementData" [(0, .ref p9), (1, .int p0)] rfl rfl rfl rfl (Nat.le_of_ble_eq_true rfl) ?_
  intro p e R s m args below meth c A b
  unfold w_Jx4a65c_elementData_915e3 at h
  refine z_aload_n b dJx4a65c_elementData_915e3_0 rfl rfl ?_
  obtain ⟨i1, f2, f3, f4, g5, h⟩ := h
  refine z_get (q0 := 47 + i1) (k9 := 1) (v := .ref f3) b (kw_dyn cy a rw S g5) rfl in_Jx4a65c (by decide) wf_Jx4a65c_9 rfl dJx4a65c_elementData_915e3_1 ?_
  refine z_iload_n b dJx4a65c_elementData_915e3_4 rfl rfl ?_
  obtain ⟨i6, n7, f8, g9, h⟩ := h
  obtain ⟨g10, h⟩ := h
  refine y_aald (q0 := 47 + i6) (t0 := 5) (j := p0.toNatClampNeg) (v := va_rf (f8 p0.toNatClampNeg)) b (kw_dyn cy a rw S g9) rfl (zx_r g10.1 g10.2) rfl dJx4a65c_elementData_915e3_5 ?_
  exact z_aret (v := (f8 p0.toNatClampNeg)) (u := S) b rfl (Or.inl ⟨_, rfl⟩) dJx4a65c_elementData_915e3_6 h rfl (by decide) (by decide)

