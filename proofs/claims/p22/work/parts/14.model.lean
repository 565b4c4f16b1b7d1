def w_X12_isIn_B15 (post : Int32 → GS → Prop) (S : GS) (y0 : Int32) : Prop :=
  (y0 = 0 ∨ y0 = 1) ∧ post y0 S

set_option maxHeartbeats 4000000 in
set_option maxRecDepth 100000 in
theorem z_X12_isIn_B15 {p : Program} {l : Launch} {e : Env} {R : Room} {s : State} {m : MethodId} {args : Array Value} {below : List Frame} {meth : Method} {c : Code} {D : va_G} {cy : Nat → ClassId} {T0 tB tE : Nat} {A : Nat → Prop} {a : Nat → Nat} {post : Int32 → GS → Prop} (b : Bz p R s m args meth c D cy T0 tB tE A 3 cX12_isIn RX12 (some .boolean) "isIn" 0 0 0 0) (S : GS) (y0 : Int32) (h : w_X12_isIn_B15 post S y0) : Z p l e R s m args below meth c D A 3 (MQ below (QI D (U := GS) post (mw cy a) A) args s 0 0 A) 0 0 (mw cy a S) [] 15 [.int y0] := by
  unfold w_X12_isIn_B15 at h
  obtain ⟨g1, h⟩ := h
  exact z_zret (u := S) b rfl (z_bool g1) dX12_isIn_15 h rfl (by decide) (by decide)

def w_X12_isIn_B14 (post : Int32 → GS → Prop) (S : GS)  : Prop :=
  w_X12_isIn_B15 post S 0

set_option maxHeartbeats 4000000 in
set_option maxRecDepth 100000 in
theorem z_X12_isIn_B14 {p : Program} {l : Launch} {e : Env} {R : Room} {s : State} {m : MethodId} {args : Array Value} {below : List Frame} {meth : Method} {c : Code} {D : va_G} {cy : Nat → ClassId} {T0 tB tE : Nat} {A : Nat → Prop} {a : Nat → Nat} {post : Int32 → GS → Prop} (b : Bz p R s m args meth c D cy T0 tB tE A 3 cX12_isIn RX12 (some .boolean) "isIn" 0 0 0 0) (S : GS)  (h : w_X12_isIn_B14 post S ) : Z p l e R s m args below meth c D A 3 (MQ below (QI D (U := GS) post (mw cy a) A) args s 0 0 A) 0 0 (mw cy a S) [] 14 [] := by
  unfold w_X12_isIn_B14 at h
  refine z_iconst (v := 0) b dX12_isIn_14 (by decide) ?_
  exact z_X12_isIn_B15 b _ _ h

def w_X12_isIn (S : GS) (p0 : Int32) (p1 : Int32) (p2 : Int32) (post : Int32 → GS → Prop) : Prop :=
  ((p0.toInt < p1.toInt → w_X12_isIn_B14 post S) ∧ (p1.toInt ≤ p0.toInt → ((p2.toInt < p0.toInt → w_X12_isIn_B14 post S) ∧ (p0.toInt ≤ p2.toInt → w_X12_isIn_B15 post S 1))))

set_option maxHeartbeats 4000000 in
set_option maxRecDepth 100000 in
theorem k_X12_isIn {l : Launch} {D : va_G} {cy : Nat → ClassId} {T0 tB tE : Nat} {a : Nat → Nat} (S : GS) (p0 : Int32) (p1 : Int32) (p2 : Int32) (post : Int32 → GS → Prop) (h : w_X12_isIn S p0 p1 p2 post) : Ct l D cy T0 tB tE yX12_isIn cX12_isIn 3 (some .boolean) 0 0 0 0 (mw cy a S) [.int p0, .int p1, .int p2] (QI D (U := GS) post (mw cy a)) := by
  refine Ct.ofZ RX12 "isIn" [(0, .int p0), (1, .int p1), (2, .int p2)] rfl rfl rfl rfl (Nat.le_of_ble_eq_true rfl) ?_
  intro p e R s m args below meth c A b
  unfold w_X12_isIn at h
  refine z_iload_n b dX12_isIn_0 rfl rfl ?_
  refine z_iload_n b dX12_isIn_1 rfl rfl ?_
  refine y_icmp_lt (tgt := 14) (xl := p0.toInt) (yl := p1.toInt) b rfl rfl dX12_isIn_2 (by decide) (fun c1 => ?_) (fun c1 => ?_)
  · replace h := h.1 c1
    refine z_lv0 (lv' := []) [] rfl ?_
    exact z_X12_isIn_B14 b _ h
  · replace h := h.2 c1
    refine z_iload_n b dX12_isIn_5 rfl rfl ?_
    refine z_iload_n b dX12_isIn_6 rfl rfl ?_
    refine y_icmp_gt (tgt := 14) (xl := p0.toInt) (yl := p2.toInt) b rfl rfl dX12_isIn_7 (by decide) (fun c1 => ?_) (fun c1 => ?_)
    · replace h := h.1 c1
      refine z_lv0 (lv' := []) [] rfl ?_
      exact z_X12_isIn_B14 b _ h
    · replace h := h.2 c1
      refine z_iconst (v := 1) b dX12_isIn_10 (by decide) ?_
      refine z_goto (tgt := 15) b dX12_isIn_11 (by decide) ?_
      refine z_lv0 (lv' := []) [] rfl ?_
      exact z_X12_isIn_B15 b _ _ h

def w_X12_isOne (S : GS) (p0 : Int32) (post : Int32 → GS → Prop) : Prop :=
  w_X12_isIn S p0 0 2 (fun r1 S2 => (r1 = 0 ∨ r1 = 1) ∧ post r1 S2)

set_option maxHeartbeats 4000000 in
set_option maxRecDepth 100000 in
theorem k_X12_isOne {l : Launch} {D : va_G} {cy : Nat → ClassId} {T0 tB tE : Nat} {a : Nat → Nat} (S : GS) (p0 : Int32) (post : Int32 → GS → Prop) (h : w_X12_isOne S p0 post) : Ct l D cy T0 tB tE yX12_isOne cX12_isOne 1 (some .boolean) 1 22 0 0 (mw cy a S) [.int p0] (QI D (U := GS) post (mw cy a)) := by
  refine Ct.ofZ RX12 "isOne" [(0, .int p0)] rfl rfl rfl rfl (Nat.le_of_ble_eq_true rfl) ?_
  intro p e R s m args below meth c A b
  unfold w_X12_isOne at h
  refine z_iload_n b dX12_isOne_0 rfl rfl ?_
  refine z_iconst (v := 0) b dX12_isOne_1 (by decide) ?_
  refine z_iconst (v := 2) b dX12_isOne_2 (by decide) ?_
  refine z_calli b (z_runS (As := [.int p0, .int 0, .int 2]) (st := []) b (k_X12_isIn S p0 0 2 _ h) cf_X12_isIn wm_X12_1 ws_X12_isIn dX12_isOne_3 rfl (Nat.le_of_ble_eq_true rfl) ⟨by decide, by decide, by decide, by decide⟩) (fun r1 S2 h => ?_)
  obtain ⟨g3, h⟩ := h
  exact z_zret (u := S2) b rfl (z_bool g3) dX12_isOne_6 h rfl (by decide) (by decide)

def w_X12_isLetter (S : GS) (p0 : Int32) (post : Int32 → GS → Prop) : Prop :=
  w_X12_isIn S p0 97 122 (fun r1 S2 => (r1 = 0 ∨ r1 = 1) ∧ post r1 S2)

set_option maxHeartbeats 4000000 in
set_option maxRecDepth 100000 in
theorem k_X12_isLetter {l : Launch} {D : va_G} {cy : Nat → ClassId} {T0 tB tE : Nat} {a : Nat → Nat} (S : GS) (p0 : Int32) (post : Int32 → GS → Prop) (h : w_X12_isLetter S p0 post) : Ct l D cy T0 tB tE yX12_isLetter cX12_isLetter 1 (some .boolean) 1 22 0 0 (mw cy a S) [.int p0] (QI D (U := GS) post (mw cy a)) := by
  refine Ct.ofZ RX12 "isLetter" [(0, .int p0)] rfl rfl rfl rfl (Nat.le_of_ble_eq_true rfl) ?_
  intro p e R s m args below meth c A b
  unfold w_X12_isLetter at h
  refine z_iload_n b dX12_isLetter_0 rfl rfl ?_
  refine z_bipush (v := 97) b dX12_isLetter_1 (by decide) ?_
  refine z_bipush (v := 122) b dX12_isLetter_3 (by decide) ?_
  refine z_calli b (z_runS (As := [.int p0, .int 97, .int 122]) (st := []) b (k_X12_isIn S p0 97 122 _ h) cf_X12_isIn wm_X12_1 ws_X12_isIn dX12_isLetter_5 rfl (Nat.le_of_ble_eq_true rfl) ⟨by decide, by decide, by decide, by decide⟩) (fun r1 S2 h => ?_)
  obtain ⟨g3, h⟩ := h
  exact z_zret (u := S2) b rfl (z_bool g3) dX12_isLetter_8 h rfl (by decide) (by decide)

def w_X12_isDigit (S : GS) (p0 : Int32) (post : Int32 → GS → Prop) : Prop :=
  w_X12_isIn S p0 48 57 (fun r1 S2 => (r1 = 0 ∨ r1 = 1) ∧ post r1 S2)

set_option maxHeartbeats 4000000 in
set_option maxRecDepth 100000 in
theorem k_X12_isDigit {l : Launch} {D : va_G} {cy : Nat → ClassId} {T0 tB tE : Nat} {a : Nat → Nat} (S : GS) (p0 : Int32) (post : Int32 → GS → Prop) (h : w_X12_isDigit S p0 post) : Ct l D cy T0 tB tE yX12_isDigit cX12_isDigit 1 (some .boolean) 1 22 0 0 (mw cy a S) [.int p0] (QI D (U := GS) post (mw cy a)) := by
  refine Ct.ofZ RX12 "isDigit" [(0, .int p0)] rfl rfl rfl rfl (Nat.le_of_ble_eq_true rfl) ?_
  intro p e R s m args below meth c A b
  unfold w_X12_isDigit at h
  refine z_iload_n b dX12_isDigit_0 rfl rfl ?_
  refine z_bipush (v := 48) b dX12_isDigit_1 (by decide) ?_
  refine z_bipush (v := 57) b dX12_isDigit_3 (by decide) ?_
  refine z_calli b (z_runS (As := [.int p0, .int 48, .int 57]) (st := []) b (k_X12_isIn S p0 48 57 _ h) cf_X12_isIn wm_X12_1 ws_X12_isIn dX12_isDigit_5 rfl (Nat.le_of_ble_eq_true rfl) ⟨by decide, by decide, by decide, by decide⟩) (fun r1 S2 h => ?_)
  obtain ⟨g3, h⟩ := h
  exact z_zret (u := S2) b rfl (z_bool g3) dX12_isDigit_8 h rfl (by decide) (by decide)

def w_X12_isRow (S : GS) (p0 : Int32) (post : Int32 → GS → Prop) : Prop :=
  w_X12_isIn S p0 0 5 (fun r1 S2 => (r1 = 0 ∨ r1 = 1) ∧ post r1 S2)

set_option maxHeartbeats 4000000 in
set_option maxRecDepth 100000 in
theorem k_X12_isRow {l : Launch} {D : va_G} {cy : Nat → ClassId} {T0 tB tE : Nat} {a : Nat → Nat} (S : GS) (p0 : Int32) (post : Int32 → GS → Prop) (h : w_X12_isRow S p0 post) : Ct l D cy T0 tB tE yX12_isRow cX12_isRow 1 (some .boolean) 1 22 0 0 (mw cy a S) [.int p0] (QI D (U := GS) post (mw cy a)) := by
  refine Ct.ofZ RX12 "isRow" [(0, .int p0)] rfl rfl rfl rfl (Nat.le_of_ble_eq_true rfl) ?_
  intro p e R s m args below meth c A b
  unfold w_X12_isRow at h
  refine z_iload_n b dX12_isRow_0 rfl rfl ?_
  refine z_iconst (v := 0) b dX12_isRow_1 (by decide) ?_
  refine z_iconst (v := 5) b dX12_isRow_2 (by decide) ?_
  refine z_calli b (z_runS (As := [.int p0, .int 0, .int 5]) (st := []) b (k_X12_isIn S p0 0 5 _ h) cf_X12_isIn wm_X12_1 ws_X12_isIn dX12_isRow_3 rfl (Nat.le_of_ble_eq_true rfl) ⟨by decide, by decide, by decide, by decide⟩) (fun r1 S2 h => ?_)
  obtain ⟨g3, h⟩ := h
  exact z_zret (u := S2) b rfl (z_bool g3) dX12_isRow_6 h rfl (by decide) (by decide)

def w_X12_isNumber (S : GS) (p0 : Int32) (post : Int32 → GS → Prop) : Prop :=
  w_X12_isIn S p0 0 767 (fun r1 S2 => (r1 = 0 ∨ r1 = 1) ∧ post r1 S2)

set_option maxHeartbeats 4000000 in
set_option maxRecDepth 100000 in
theorem k_X12_isNumber {l : Launch} {D : va_G} {cy : Nat → ClassId} {T0 tB tE : Nat} {a : Nat → Nat} (S : GS) (p0 : Int32) (post : Int32 → GS → Prop) (h : w_X12_isNumber S p0 post) : Ct l D cy T0 tB tE yX12_isNumber cX12_isNumber 1 (some .boolean) 1 22 0 0 (mw cy a S) [.int p0] (QI D (U := GS) post (mw cy a)) := by
  refine Ct.ofZ RX12 "isNumber" [(0, .int p0)] rfl rfl rfl rfl (Nat.le_of_ble_eq_true rfl) ?_
  intro p e R s m args below meth c A b
  unfold w_X12_isNumber at h
  refine z_iload_n b dX12_isNumber_0 rfl rfl ?_
  refine z_iconst (v := 0) b dX12_isNumber_1 (by decide) ?_
  refine z_sipush (v := 767) b dX12_isNumber_2 (by decide) ?_
  refine z_calli b (z_runS (As := [.int p0, .int 0, .int 767]) (st := []) b (k_X12_isIn S p0 0 767 _ h) cf_X12_isIn wm_X12_1 ws_X12_isIn dX12_isNumber_5 rfl (Nat.le_of_ble_eq_true rfl) ⟨by decide, by decide, by decide, by decide⟩) (fun r1 S2 h => ?_)
  obtain ⟨g3, h⟩ := h
  exact z_zret (u := S2) b rfl (z_bool g3) dX12_isNumber_8 h rfl (by decide) (by decide)

def w_X12_other (S : GS) (p0 : Int32) (p1 : Int32) (post : Int32 → GS → Prop) : Prop :=
  post (((p0 + 1) + p1) - ((p0 + 1) + p1) / 3 * 3) S

set_option maxHeartbeats 4000000 in
set_option maxRecDepth 100000 in
theorem k_X12_other {l : Launch} {D : va_G} {cy : Nat → ClassId} {T0 tB tE : Nat} {a : Nat → Nat} (S : GS) (p0 : Int32) (p1 : Int32) (post : Int32 → GS → Prop) (h : w_X12_other S p0 p1 post) : Ct l D cy T0 tB tE yX12_other cX12_other 2 (some .int) 0 0 0 0 (mw cy a S) [.int p0, .int p1] (QI D (U := GS) post (mw cy a)) := by
  refine Ct.ofZ RX12 "other" [(0, .int p0), (1, .int p1)] rfl rfl rfl rfl (Nat.le_of_ble_eq_true rfl) ?_
  intro p e R s m args below meth c A b
  unfold w_X12_other at h
  refine z_iload_n b dX12_other_0 rfl rfl ?_
  refine z_iconst (v := 1) b dX12_other_1 (by decide) ?_
  refine z_iadd b dX12_other_2 rfl ?_
  refine z_iload_n b dX12_other_3 rfl rfl ?_
  refine z_iadd b dX12_other_4 rfl ?_
  refine z_iconst (v := 3) b dX12_other_5 (by decide) ?_
  refine z_irem b dX12_other_6 (by decide) rfl ?_
  exact z_iret (u := S) b rfl dX12_other_7 h rfl (by decide) (by decide)

def w_X12_packs_B120 (post : Int64 → GS → Prop) (k67 : GS → Int64 → Int32 → Int32 → Prop) (k128 : GS → Int64 → Int32 → Prop) (S : GS) (x3 : Int32) (x4 : Int32) (y0 : Int64) (y1 : Int64) : Prop :=
  k67 S (y1 ||| y0) x3 (x4 + 1)

set_option maxHeartbeats 4000000 in
set_option maxRecDepth 100000 in
theorem z_X12_packs_B120 {p : Program} {l : Launch} {e : Env} {R : Room} {s : State} {m : MethodId} {args : Array Value} {below : List Frame} {meth : Method} {c : Code} {D : va_G} {cy : Nat → ClassId} {T0 tB tE : Nat} {A : Nat → Prop} {a : Nat → Nat} {post : Int64 → GS → Prop} {k67 : GS → Int64 → Int32 → Int32 → Prop} {k128 : GS → Int64 → Int32 → Prop} (b : Bz p R s m args meth c D cy T0 tB tE A 5 cX12_packs RX12 (some .long) "packs" 1 21 0 0) (hk67 : ∀ (S : GS) (x1 : Int64) (x3 : Int32) (x4 : Int32), k67 S x1 x3 x4 → Z p l e R s m args below meth c D A 5 (MQ below (QL D (U := GS) post (mw cy a) A) args s 0 0 A) 0 0 (mw cy a S) [(0, .ref (a 0)), (1, .long x1), (3, .int x3), (4, .int x4)] 67 []) (hk128 : ∀ (S : GS) (x1 : Int64) (x3 : Int32), k128 S x1 x3 → Z p l e R s m args below meth c D A 5 (MQ below (QL D (U := GS) post (mw cy a) A) args s 0 0 A) 0 0 (mw cy a S) [(0, .ref (a 0)), (1, .long x1), (3, .int x3)] 128 []) (S : GS) (x3 : Int32) (x4 : Int32) (y0 : Int64) (y1 : Int64) (h : w_X12_packs_B120 post k67 k128 S x3 x4 y0 y1) : Z p l e R s m args below meth c D A 5 (MQ below (QL D (U := GS) post (mw cy a) A) args s 0 0 A) 0 0 (mw cy a S) [(0, .ref (a 0)), (3, .int x3), (4, .int x4)] 120 [.long y0, .long y1] := by
  unfold w_X12_packs_B120 at h
  refine z_lor b dX12_packs_120 rfl ?_
  refine z_lstore_n (lv' := [(1, .long (y1 ||| y0)), (0, .ref (a 0)), (3, .int x3), (4, .int x4)]) b dX12_packs_121 rfl (by decide) rfl ?_
  refine z_iinc (k9 := 3) (v := (x4 + 1)) (lv' := [(4, .int (x4 + 1)), (1, .long (y1 ||| y0)), (0, .ref (a 0)), (3, .int x3)]) b dX12_packs_122 rfl rfl (by decide) rfl ?_
  refine z_goto (tgt := 67) b dX12_packs_125 (by decide) ?_
  refine z_lv0 (lv' := [(0, .ref (a 0)), (1, .long (y1 ||| y0)), (3, .int x3), (4, .int (x4 + 1))]) [2, 1, 3, 0] rfl ?_
  exact hk67 _ _ _ _ h

def w_X12_packs_F67 (post : Int64 → GS → Prop) (k128 : GS → Int64 → Int32 → Prop) (k67 : GS → Int64 → Int32 → Int32 → Prop) (S : GS) (x1 : Int64) (x3 : Int32) (x4 : Int32) : Prop :=
  ((2 ≤ x4.toInt → k128 S x1 x3) ∧ (x4.toInt < 2 → w_X12_other S x3 x4 (fun r6 S7 => (0 ≤ (((3 : Int32) * x3) + r6).toInt ∧ (((3 : Int32) * x3) + r6).toInt < 9) ∧ w_X12_other S7 x3 x4 (fun r9 S10 => (0 ≤ (((3 : Int32) * x3) + r9).toInt ∧ (((3 : Int32) * x3) + r9).toInt < 9) ∧ ((((ar S10 4) (((3 : Int32) * x3) + r9).toNatClampNeg).toInt = 0 → w_X12_packs_B120 post k67 k128 S10 x3 x4 0 (((x1 <<< ((3 : Int32).toInt64 &&& 63)) ||| (((ar S7 1) (((3 : Int32) * x3) + r6).toNatClampNeg) : Int32).toInt64) <<< ((1 : Int32).toInt64 &&& 63))) ∧ (((ar S10 4) (((3 : Int32) * x3) + r9).toNatClampNeg).toInt ≠ 0 → w_X12_packs_B120 post k67 k128 S10 x3 x4 1 (((x1 <<< ((3 : Int32).toInt64 &&& 63)) ||| (((ar S7 1) (((3 : Int32) * x3) + r6).toNatClampNeg) : Int32).toInt64) <<< ((1 : Int32).toInt64 &&& 63))))))))

set_option maxHeartbeats 4000000 in
set_option maxRecDepth 100000 in
theorem z_X12_packs_F67 {p : Program} {l : Launch} {e : Env} {R : Room} {s : State} {m : MethodId} {args : Array Value} {below : List Frame} {meth : Method} {c : Code} {D : va_G} {cy : Nat → ClassId} {T0 tB tE : Nat} {A : Nat → Prop} {a : Nat → Nat} {post : Int64 → GS → Prop} {k128 : GS → Int64 → Int32 → Prop} {k67 : GS → Int64 → Int32 → Int32 → Prop} (b : Bz p R s m args meth c D cy T0 tB tE A 5 cX12_packs RX12 (some .long) "packs" 1 21 0 0) (hk128 : ∀ (S : GS) (x1 : Int64) (x3 : Int32), k128 S x1 x3 → Z p l e R s m args below meth c D A 5 (MQ below (QL D (U := GS) post (mw cy a) A) args s 0 0 A) 0 0 (mw cy a S) [(0, .ref (a 0)), (1, .long x1), (3, .int x3)] 128 []) (hk67 : ∀ (S : GS) (x1 : Int64) (x3 : Int32) (x4 : Int32), k67 S x1 x3 x4 → Z p l e R s m args below meth c D A 5 (MQ below (QL D (U := GS) post (mw cy a) A) args s 0 0 A) 0 0 (mw cy a S) [(0, .ref (a 0)), (1, .long x1), (3, .int x3), (4, .int x4)] 67 []) (S : GS) (x1 : Int64) (x3 : Int32) (x4 : Int32) (h : w_X12_packs_F67 post k128 k67 S x1 x3 x4) : Z p l e R s m args below meth c D A 5 (MQ below (QL D (U := GS) post (mw cy a) A) args s 0 0 A) 0 0 (mw cy a S) [(0, .ref (a 0)), (1, .long x1), (3, .int x3), (4, .int x4)] 67 [] := by
  unfold w_X12_packs_F67 at h
  refine z_iload b dX12_packs_67 rfl ?_
  refine z_iconst (v := 2) b dX12_packs_69 (by decide) ?_
  refine y_icmp_ge (tgt := 128) (xl := x4.toInt) (yl := 2) b rfl (by decide) dX12_packs_70 (by decide) (fun c1 => ?_) (fun c1 => ?_)
  · replace h := h.1 c1
    refine z_lv0 (lv' := [(0, .ref (a 0)), (1, .long x1), (3, .int x3)]) [0, 1, 2] rfl ?_
    exact hk128 _ _ _ h
  · replace h := h.2 c1
    refine z_lload_n b dX12_packs_73 rfl rfl ?_
    refine z_iconst (v := 3) b dX12_packs_74 (by decide) ?_
    refine z_lshl b dX12_packs_75 rfl ?_
    refine z_aload_n b dX12_packs_76 rfl rfl ?_
    refine z_get (q0 := 0) (k9 := 1) (v := .ref (a 2)) b (mw_0 cy a S) rfl in_X12 (by decide) wf_X12_17 rfl dX12_packs_77 ?_
    refine z_iconst (v := 3) b dX12_packs_80 (by decide) ?_
    refine z_iload_n b dX12_packs_81 rfl rfl ?_
    refine z_imul b dX12_packs_82 rfl ?_
    refine z_iload_n b dX12_packs_83 rfl rfl ?_
    refine z_iload b dX12_packs_84 rfl ?_
    refine z_calli b (z_runS (As := [.int x3, .int x4]) (st := [.int ((3 : Int32) * x3), .ref (a 2), .long (x1 <<< ((3 : Int32).toInt64 &&& 63))]) b (k_X12_other S x3 x4 _ h) cf_X12_other wm_X12_160 ws_X12_other dX12_packs_86 rfl (Nat.le_of_ble_eq_true rfl) ⟨by decide, by decide, by decide, by decide⟩) (fun r6 S7 h => ?_)
    refine z_iadd b dX12_packs_89 rfl ?_
    obtain ⟨g8, h⟩ := h
    refine y_iald (q0 := 2) (j := (((3 : Int32) * x3) + r6).toNatClampNeg) (v := ((ar S7 1) (((3 : Int32) * x3) + r6).toNatClampNeg)) b (mw_2 cy a S7) (zx_r g8.1 g8.2) rfl dX12_packs_90 ?_
    refine z_i2l b dX12_packs_91 rfl ?_
    refine z_lor b dX12_packs_92 rfl ?_
    refine z_lstore_n (lv' := [(1, .long ((x1 <<< ((3 : Int32).toInt64 &&& 63)) ||| (((ar S7 1) (((3 : Int32) * x3) + r6).toNatClampNeg) : Int32).toInt64)), (0, .ref (a 0)), (3, .int x3), (4, .int x4)]) b dX12_packs_93 rfl (by decide) rfl ?_
    refine z_lload_n b dX12_packs_94 rfl rfl ?_
    refine z_iconst (v := 1) b dX12_packs_95 (by decide) ?_
    refine z_lshl b dX12_packs_96 rfl ?_
    refine z_aload_n b dX12_packs_97 rfl rfl ?_
    refine z_get (q0 := 0) (k9 := 4) (v := .ref (a 5)) b (mw_0 cy a S7) rfl in_X12 (by decide) wf_X12_27 rfl dX12_packs_98 ?_
    refine z_iconst (v := 3) b dX12_packs_101 (by decide) ?_
    refine z_iload_n b dX12_packs_102 rfl rfl ?_
    refine z_imul b dX12_packs_103 rfl ?_
    refine z_iload_n b dX12_packs_104 rfl rfl ?_
    refine z_iload b dX12_packs_105 rfl ?_
    refine z_calli b (z_runS (As := [.int x3, .int x4]) (st := [.int ((3 : Int32) * x3), .ref (a 5), .long (((x1 <<< ((3 : Int32).toInt64 &&& 63)) ||| (((ar S7 1) (((3 : Int32) * x3) + r6).toNatClampNeg) : Int32).toInt64) <<< ((1 : Int32).toInt64 &&& 63))]) b (k_X12_other S7 x3 x4 _ h) cf_X12_other wm_X12_160 ws_X12_other dX12_packs_107 rfl (Nat.le_of_ble_eq_true rfl) ⟨by decide, by decide, by decide, by decide⟩) (fun r9 S10 h => ?_)
    refine z_iadd b dX12_packs_110 rfl ?_
    obtain ⟨g11, h⟩ := h
    refine y_zald (q0 := 5) (j := (((3 : Int32) * x3) + r9).toNatClampNeg) (v := ((ar S10 4) (((3 : Int32) * x3) + r9).toNatClampNeg)) b (mw_5 cy a S10) (zx_r g11.1 g11.2) rfl dX12_packs_111 ?_
    refine y_if_eq (tgt := 119) (xl := ((ar S10 4) (((3 : Int32) * x3) + r9).toNatClampNeg).toInt) b rfl dX12_packs_112 (by decide) (fun c1 => ?_) (fun c1 => ?_)
    · replace h := h.1 c1
      refine z_lconst (v := 0) b dX12_packs_119 (by decide) ?_
      refine z_lv0 (lv' := [(0, .ref (a 0)), (3, .int x3), (4, .int x4)]) [1, 2, 3] rfl ?_
      exact z_X12_packs_B120 b hk67 hk128 _ _ _ _ _ h
    · replace h := h.2 c1
      refine z_lconst (v := 1) b dX12_packs_115 (by decide) ?_
      refine z_goto (tgt := 120) b dX12_packs_116 (by decide) ?_
      refine z_lv0 (lv' := [(0, .ref (a 0)), (3, .int x3), (4, .int x4)]) [1, 2, 3] rfl ?_
      exact z_X12_packs_B120 b hk67 hk128 _ _ _ _ _ h

set_option maxHeartbeats 4000000 in
set_option maxRecDepth 100000 in
theorem zl_X12_packs_L67 {p : Program} {l : Launch} {e : Env} {R : Room} {s : State} {m : MethodId} {args : Array Value} {below : List Frame} {meth : Method} {c : Code} {D : va_G} {cy : Nat → ClassId} {T0 tB tE : Nat} {A : Nat → Prop} {a : Nat → Nat} {post : Int64 → GS → Prop} {k128 : GS → Int64 → Int32 → Prop} (b : Bz p R s m args meth c D cy T0 tB tE A 5 cX12_packs RX12 (some .long) "packs" 1 21 0 0) (hk128 : ∀ (S : GS) (x1 : Int64) (x3 : Int32), k128 S x1 x3 → Z p l e R s m args below meth c D A 5 (MQ below (QL D (U := GS) post (mw cy a) A) args s 0 0 A) 0 0 (mw cy a S) [(0, .ref (a 0)), (1, .long x1), (3, .int x3)] 128 []) : ∀ (n : Nat) (S : GS) (x1 : Int64) (x3 : Int32) (x4 : Int32), lpn (w_X12_packs_F67 post k128) (fun _ _ _ _ => False) n S x1 x3 x4 → Z p l e R s m args below meth c D A 5 (MQ below (QL D (U := GS) post (mw cy a) A) args s 0 0 A) 0 0 (mw cy a S) [(0, .ref (a 0)), (1, .long x1), (3, .int x3), (4, .int x4)] 67 [] := by
  intro n
  induction n with
  | zero => intro _ _ _ _ h; exact h.elim
  | succ n ih => intro S x1 x3 x4 h; exact z_X12_packs_F67 b hk128 ih S x1 x3 x4 h

def w_X12_packs_B128 (post : Int64 → GS → Prop) (k8 : GS → Int64 → Int32 → Prop) (k134 : GS → Int64 → Prop) (S : GS) (x1 : Int64) (x3 : Int32) : Prop :=
  k8 S x1 (x3 + 1)

set_option maxHeartbeats 4000000 in
set_option maxRecDepth 100000 in
theorem z_X12_packs_B128 {p : Program} {l : Launch} {e : Env} {R : Room} {s : State} {m : MethodId} {args : Array Value} {below : List Frame} {meth : Method} {c : Code} {D : va_G} {cy : Nat → ClassId} {T0 tB tE : Nat} {A : Nat → Prop} {a : Nat → Nat} {post : Int64 → GS → Prop} {k8 : GS → Int64 → Int32 → Prop} {k134 : GS → Int64 → Prop} (b : Bz p R s m args meth c D cy T0 tB tE A 5 cX12_packs RX12 (some .long) "packs" 1 21 0 0) (hk8 : ∀ (S : GS) (x1 : Int64) (x3 : Int32), k8 S x1 x3 → Z p l e R s m args below meth c D A 5 (MQ below (QL D (U := GS) post (mw cy a) A) args s 0 0 A) 0 0 (mw cy a S) [(0, .ref (a 0)), (1, .long x1), (3, .int x3)] 8 []) (hk134 : ∀ (S : GS) (x1 : Int64), k134 S x1 → Z p l e R s m args below meth c D A 5 (MQ below (QL D (U := GS) post (mw cy a) A) args s 0 0 A) 0 0 (mw cy a S) [(1, .long x1)] 134 []) (S : GS) (x1 : Int64) (x3 : Int32) (h : w_X12_packs_B128 post k8 k134 S x1 x3) : Z p l e R s m args below meth c D A 5 (MQ below (QL D (U := GS) post (mw cy a) A) args s 0 0 A) 0 0 (mw cy a S) [(0, .ref (a 0)), (1, .long x1), (3, .int x3)] 128 [] := by
  unfold w_X12_packs_B128 at h
  refine z_iinc (k9 := 2) (v := (x3 + 1)) (lv' := [(3, .int (x3 + 1)), (0, .ref (a 0)), (1, .long x1)]) b dX12_packs_128 rfl rfl (by decide) rfl ?_
  refine z_goto (tgt := 8) b dX12_packs_131 (by decide) ?_
  refine z_lv0 (lv' := [(0, .ref (a 0)), (1, .long x1), (3, .int (x3 + 1))]) [1, 2, 0] rfl ?_
  exact hk8 _ _ _ h

def w_X12_packs_B62 (post : Int64 → GS → Prop) (k8 : GS → Int64 → Int32 → Prop) (k134 : GS → Int64 → Prop) (S : GS) (x3 : Int32) (y0 : Int64) (y1 : Int64) : Prop :=
  ∃ n, lpn (w_X12_packs_F67 post (w_X12_packs_B128 post k8 k134)) (fun _ _ _ _ => False) n S (y1 ||| y0) x3 0

set_option maxHeartbeats 4000000 in
set_option maxRecDepth 100000 in
theorem z_X12_packs_B62 {p : Program} {l : Launch} {e : Env} {R : Room} {s : State} {m : MethodId} {args : Array Value} {below : List Frame} {meth : Method} {c : Code} {D : va_G} {cy : Nat → ClassId} {T0 tB tE : Nat} {A : Nat → Prop} {a : Nat → Nat} {post : Int64 → GS → Prop} {k8 : GS → Int64 → Int32 → Prop} {k134 : GS → Int64 → Prop} (b : Bz p R s m args meth c D cy T0 tB tE A 5 cX12_packs RX12 (some .long) "packs" 1 21 0 0) (hk8 : ∀ (S : GS) (x1 : Int64) (x3 : Int32), k8 S x1 x3 → Z p l e R s m args below meth c D A 5 (MQ below (QL D (U := GS) post (mw cy a) A) args s 0 0 A) 0 0 (mw cy a S) [(0, .ref (a 0)), (1, .long x1), (3, .int x3)] 8 []) (hk134 : ∀ (S : GS) (x1 : Int64), k134 S x1 → Z p l e R s m args below meth c D A 5 (MQ below (QL D (U := GS) post (mw cy a) A) args s 0 0 A) 0 0 (mw cy a S) [(1, .long x1)] 134 []) (S : GS) (x3 : Int32) (y0 : Int64) (y1 : Int64) (h : w_X12_packs_B62 post k8 k134 S x3 y0 y1) : Z p l e R s m args below meth c D A 5 (MQ below (QL D (U := GS) post (mw cy a) A) args s 0 0 A) 0 0 (mw cy a S) [(0, .ref (a 0)), (3, .int x3)] 62 [.long y0, .long y1] := by
  unfold w_X12_packs_B62 at h
  refine z_lor b dX12_packs_62 rfl ?_
  refine z_lstore_n (lv' := [(1, .long (y1 ||| y0)), (0, .ref (a 0)), (3, .int x3)]) b dX12_packs_63 rfl (by decide) rfl ?_
  refine z_iconst (v := 0) b dX12_packs_64 (by decide) ?_
  refine z_istore (lv' := [(4, .int 0), (1, .long (y1 ||| y0)), (0, .ref (a 0)), (3, .int x3)]) b dX12_packs_65 (by decide) rfl ?_
  refine z_lv0 (lv' := [(0, .ref (a 0)), (1, .long (y1 ||| y0)), (3, .int x3), (4, .int 0)]) [2, 1, 3, 0] rfl ?_
  obtain ⟨n, h⟩ := h
  exact zl_X12_packs_L67 b (fun S x1 x3 h => z_X12_packs_B128 b hk8 hk134 _ _ _ h) n _ _ _ _ h

def w_X12_packs_F8 (post : Int64 → GS → Prop) (k134 : GS → Int64 → Prop) (k8 : GS → Int64 → Int32 → Prop) (S : GS) (x1 : Int64) (x3 : Int32) : Prop :=
  ((3 ≤ x3.toInt → k134 S x1) ∧ (x3.toInt < 3 → (0 ≤ x3.toInt ∧ x3.toInt < 3) ∧ (0 ≤ x3.toInt ∧ x3.toInt < 3) ∧ w_X12_other S x3 0 (fun r3 S4 => (0 ≤ (((3 : Int32) * x3) + r3).toInt ∧ (((3 : Int32) * x3) + r3).toInt < 9) ∧ ((((ar S4 3) (((3 : Int32) * x3) + r3).toNatClampNeg).toInt = 0 → w_X12_packs_B62 post k8 k134 S4 x3 0 (((((x1 <<< ((4 : Int32).toInt64 &&& 63)) ||| (((ar S 0) x3.toNatClampNeg) : Int32).toInt64) <<< ((2 : Int32).toInt64 &&& 63)) ||| (((ar S 2) x3.toNatClampNeg) : Int32).toInt64) <<< ((1 : Int32).toInt64 &&& 63))) ∧ (((ar S4 3) (((3 : Int32) * x3) + r3).toNatClampNeg).toInt ≠ 0 → w_X12_packs_B62 post k8 k134 S4 x3 1 (((((x1 <<< ((4 : Int32).toInt64 &&& 63)) ||| (((ar S 0) x3.toNatClampNeg) : Int32).toInt64) <<< ((2 : Int32).toInt64 &&& 63)) ||| (((ar S 2) x3.toNatClampNeg) : Int32).toInt64) <<< ((1 : Int32).toInt64 &&& 63)))))))

set_option maxHeartbeats 4000000 in
set_option maxRecDepth 100000 in
theorem z_X12_packs_F8 {p : Program} {l : Launch} {e : Env} {R : Room} {s : State} {m : MethodId} {args : Array Value} {below : List Frame} {meth : Method} {c : Code} {D : va_G} {cy : Nat → ClassId} {T0 tB tE : Nat} {A : Nat → Prop} {a : Nat → Nat} {post : Int64 → GS → Prop} {k134 : GS → Int64 → Prop} {k8 : GS → Int64 → Int32 → Prop} (b : Bz p R s m args meth c D cy T0 tB tE A 5 cX12_packs RX12 (some .long) "packs" 1 21 0 0) (hk134 : ∀ (S : GS) (x1 : Int64), k134 S x1 → Z p l e R s m args below meth c D A 5 (MQ below (QL D (U := GS) post (mw cy a) A) args s 0 0 A) 0 0 (mw cy a S) [(1, .long x1)] 134 []) (hk8 : ∀ (S : GS) (x1 : Int64) (x3 : Int32), k8 S x1 x3 → Z p l e R s m args below meth c D A 5 (MQ below (QL D (U := GS) post (mw cy a) A) args s 0 0 A) 0 0 (mw cy a S) [(0, .ref (a 0)), (1, .long x1), (3, .int x3)] 8 []) (S : GS) (x1 : Int64) (x3 : Int32) (h : w_X12_packs_F8 post k134 k8 S x1 x3) : Z p l e R s m args below meth c D A 5 (MQ below (QL D (U := GS) post (mw cy a) A) args s 0 0 A) 0 0 (mw cy a S) [(0, .ref (a 0)), (1, .long x1), (3, .int x3)] 8 [] := by
  unfold w_X12_packs_F8 at h
  refine z_iload_n b dX12_packs_8 rfl rfl ?_
  refine z_iconst (v := 3) b dX12_packs_9 (by decide) ?_
  refine y_icmp_ge (tgt := 134) (xl := x3.toInt) (yl := 3) b rfl (by decide) dX12_packs_10 (by decide) (fun c1 => ?_) (fun c1 => ?_)
  · replace h := h.1 c1
    refine z_lv0 (lv' := [(1, .long x1)]) [1] rfl ?_
    exact hk134 _ _ h
  · replace h := h.2 c1
    refine z_lload_n b dX12_packs_13 rfl rfl ?_
    refine z_iconst (v := 4) b dX12_packs_14 (by decide) ?_
    refine z_lshl b dX12_packs_15 rfl ?_
    refine z_aload_n b dX12_packs_16 rfl rfl ?_
    refine z_get (q0 := 0) (k9 := 0) (v := .ref (a 1)) b (mw_0 cy a S) rfl in_X12 (by decide) wf_X12_13 rfl dX12_packs_17 ?_
    refine z_iload_n b dX12_packs_20 rfl rfl ?_
    obtain ⟨g1, h⟩ := h
    refine y_iald (q0 := 1) (j := x3.toNatClampNeg) (v := ((ar S 0) x3.toNatClampNeg)) b (mw_1 cy a S) (zx_r g1.1 g1.2) rfl dX12_packs_21 ?_
    refine z_i2l b dX12_packs_22 rfl ?_
    refine z_lor b dX12_packs_23 rfl ?_
    refine z_lstore_n (lv' := [(1, .long ((x1 <<< ((4 : Int32).toInt64 &&& 63)) ||| (((ar S 0) x3.toNatClampNeg) : Int32).toInt64)), (0, .ref (a 0)), (3, .int x3)]) b dX12_packs_24 rfl (by decide) rfl ?_
    refine z_lload_n b dX12_packs_25 rfl rfl ?_
    refine z_iconst (v := 2) b dX12_packs_26 (by decide) ?_
    refine z_lshl b dX12_packs_27 rfl ?_
    refine z_aload_n b dX12_packs_28 rfl rfl ?_
    refine z_get (q0 := 0) (k9 := 2) (v := .ref (a 3)) b (mw_0 cy a S) rfl in_X12 (by decide) wf_X12_20 rfl dX12_packs_29 ?_
    refine z_iload_n b dX12_packs_32 rfl rfl ?_
    obtain ⟨g2, h⟩ := h
    refine y_iald (q0 := 3) (j := x3.toNatClampNeg) (v := ((ar S 2) x3.toNatClampNeg)) b (mw_3 cy a S) (zx_r g2.1 g2.2) rfl dX12_packs_33 ?_
    refine z_i2l b dX12_packs_34 rfl ?_
    refine z_lor b dX12_packs_35 rfl ?_
    refine z_lstore_n (lv' := [(1, .long ((((x1 <<< ((4 : Int32).toInt64 &&& 63)) ||| (((ar S 0) x3.toNatClampNeg) : Int32).toInt64) <<< ((2 : Int32).toInt64 &&& 63)) ||| (((ar S 2) x3.toNatClampNeg) : Int32).toInt64)), (0, .ref (a 0)), (3, .int x3)]) b dX12_packs_36 rfl (by decide) rfl ?_
    refine z_lload_n b dX12_packs_37 rfl rfl ?_
    refine z_iconst (v := 1) b dX12_packs_38 (by decide) ?_
    refine z_lshl b dX12_packs_39 rfl ?_
    refine z_aload_n b dX12_packs_40 rfl rfl ?_
    refine z_get (q0 := 0) (k9 := 3) (v := .ref (a 4)) b (mw_0 cy a S) rfl in_X12 (by decide) wf_X12_23 rfl dX12_packs_41 ?_
    refine z_iconst (v := 3) b dX12_packs_44 (by decide) ?_
    refine z_iload_n b dX12_packs_45 rfl rfl ?_
    refine z_imul b dX12_packs_46 rfl ?_
    refine z_iload_n b dX12_packs_47 rfl rfl ?_
    refine z_iconst (v := 0) b dX12_packs_48 (by decide) ?_
    refine z_calli b (z_runS (As := [.int x3, .int 0]) (st := [.int ((3 : Int32) * x3), .ref (a 4), .long (((((x1 <<< ((4 : Int32).toInt64 &&& 63)) ||| (((ar S 0) x3.toNatClampNeg) : Int32).toInt64) <<< ((2 : Int32).toInt64 &&& 63)) ||| (((ar S 2) x3.toNatClampNeg) : Int32).toInt64) <<< ((1 : Int32).toInt64 &&& 63))]) b (k_X12_other S x3 0 _ h) cf_X12_other wm_X12_160 ws_X12_other dX12_packs_49 rfl (Nat.le_of_ble_eq_true rfl) ⟨by decide, by decide, by decide, by decide⟩) (fun r3 S4 h => ?_)
    refine z_iadd b dX12_packs_52 rfl ?_
    obtain ⟨g5, h⟩ := h
    refine y_zald (q0 := 4) (j := (((3 : Int32) * x3) + r3).toNatClampNeg) (v := ((ar S4 3) (((3 : Int32) * x3) + r3).toNatClampNeg)) b (mw_4 cy a S4) (zx_r g5.1 g5.2) rfl dX12_packs_53 ?_
    refine y_if_eq (tgt := 61) (xl := ((ar S4 3) (((3 : Int32) * x3) + r3).toNatClampNeg).toInt) b rfl dX12_packs_54 (by decide) (fun c1 => ?_) (fun c1 => ?_)
    · replace h := h.1 c1
      refine z_lconst (v := 0) b dX12_packs_61 (by decide) ?_
      refine z_lv0 (lv' := [(0, .ref (a 0)), (3, .int x3)]) [1, 2] rfl ?_
      exact z_X12_packs_B62 b hk8 hk134 _ _ _ _ h
    · replace h := h.2 c1
      refine z_lconst (v := 1) b dX12_packs_57 (by decide) ?_
      refine z_goto (tgt := 62) b dX12_packs_58 (by decide) ?_
      refine z_lv0 (lv' := [(0, .ref (a 0)), (3, .int x3)]) [1, 2] rfl ?_
      exact z_X12_packs_B62 b hk8 hk134 _ _ _ _ h

set_option maxHeartbeats 4000000 in
set_option maxRecDepth 100000 in
theorem zl_X12_packs_L8 {p : Program} {l : Launch} {e : Env} {R : Room} {s : State} {m : MethodId} {args : Array Value} {below : List Frame} {meth : Method} {c : Code} {D : va_G} {cy : Nat → ClassId} {T0 tB tE : Nat} {A : Nat → Prop} {a : Nat → Nat} {post : Int64 → GS → Prop} {k134 : GS → Int64 → Prop} (b : Bz p R s m args meth c D cy T0 tB tE A 5 cX12_packs RX12 (some .long) "packs" 1 21 0 0) (hk134 : ∀ (S : GS) (x1 : Int64), k134 S x1 → Z p l e R s m args below meth c D A 5 (MQ below (QL D (U := GS) post (mw cy a) A) args s 0 0 A) 0 0 (mw cy a S) [(1, .long x1)] 134 []) : ∀ (n : Nat) (S : GS) (x1 : Int64) (x3 : Int32), lpn (w_X12_packs_F8 post k134) (fun _ _ _ => False) n S x1 x3 → Z p l e R s m args below meth c D A 5 (MQ below (QL D (U := GS) post (mw cy a) A) args s 0 0 A) 0 0 (mw cy a S) [(0, .ref (a 0)), (1, .long x1), (3, .int x3)] 8 [] := by
  intro n
  induction n with
  | zero => intro _ _ _ h; exact h.elim
  | succ n ih => intro S x1 x3 h; exact z_X12_packs_F8 b hk134 ih S x1 x3 h

def w_X12_packs_B134 (post : Int64 → GS → Prop) (S : GS) (x1 : Int64) : Prop :=
  post x1 S

set_option maxHeartbeats 4000000 in
set_option maxRecDepth 100000 in
theorem z_X12_packs_B134 {p : Program} {l : Launch} {e : Env} {R : Room} {s : State} {m : MethodId} {args : Array Value} {below : List Frame} {meth : Method} {c : Code} {D : va_G} {cy : Nat → ClassId} {T0 tB tE : Nat} {A : Nat → Prop} {a : Nat → Nat} {post : Int64 → GS → Prop} (b : Bz p R s m args meth c D cy T0 tB tE A 5 cX12_packs RX12 (some .long) "packs" 1 21 0 0) (S : GS) (x1 : Int64) (h : w_X12_packs_B134 post S x1) : Z p l e R s m args below meth c D A 5 (MQ below (QL D (U := GS) post (mw cy a) A) args s 0 0 A) 0 0 (mw cy a S) [(1, .long x1)] 134 [] := by
  unfold w_X12_packs_B134 at h
  refine z_lload_n b dX12_packs_134 rfl rfl ?_
  exact z_lret (u := S) b rfl dX12_packs_135 h rfl (by decide) (by decide)

def w_X12_packs (S : GS)  (post : Int64 → GS → Prop) : Prop :=
  ∃ n, lpn (w_X12_packs_F8 post (w_X12_packs_B134 post)) (fun _ _ _ => False) n S (((fi S 0) : Int32).toInt64) 0

set_option maxHeartbeats 4000000 in
set_option maxRecDepth 100000 in
theorem k_X12_packs {l : Launch} {D : va_G} {cy : Nat → ClassId} {T0 tB tE : Nat} {a : Nat → Nat} (S : GS)  (post : Int64 → GS → Prop) (h : w_X12_packs S  post) : Ct l D cy T0 tB tE yX12_packs cX12_packs 5 (some .long) 1 21 0 0 (mw cy a S) [.ref (a 0)] (QL D (U := GS) post (mw cy a)) := by
  refine Ct.ofZ RX12 "packs" [(0, .ref (a 0))] rfl rfl rfl rfl (Nat.le_of_ble_eq_true rfl) ?_
  intro p e R s m args below meth c A b
  unfold w_X12_packs at h
  refine z_aload_n b dX12_packs_0 rfl rfl ?_
  refine z_get (q0 := 0) (k9 := 5) (v := .int (fi S 0)) b (mw_0 cy a S) rfl in_X12 (by decide) wf_X12_157 rfl dX12_packs_1 ?_
  refine z_i2l b dX12_packs_4 rfl ?_
  refine z_lstore_n (lv' := [(1, .long ((fi S 0) : Int32).toInt64), (0, .ref (a 0))]) b dX12_packs_5 rfl (by decide) rfl ?_
  refine z_iconst (v := 0) b dX12_packs_6 (by decide) ?_
  refine z_istore_n (lv' := [(3, .int 0), (1, .long ((fi S 0) : Int32).toInt64), (0, .ref (a 0))]) b dX12_packs_7 rfl (by decide) rfl ?_
  refine z_lv0 (lv' := [(0, .ref (a 0)), (1, .long ((fi S 0) : Int32).toInt64), (3, .int 0)]) [2, 1, 0] rfl ?_
  obtain ⟨n, h⟩ := h
  exact zl_X12_packs_L8 b (fun S x1 h => z_X12_packs_B134 b _ _ h) n _ _ _ h

def w_X12_told (S : GS)  (post : Int32 → GS → Prop) : Prop :=
  w_X12_packs S (fun r1 S2 => post 1 (sl S2 0 r1))

set_option maxHeartbeats 4000000 in
set_option maxRecDepth 100000 in
theorem k_X12_told {l : Launch} {D : va_G} {cy : Nat → ClassId} {T0 tB tE : Nat} {a : Nat → Nat} (S : GS)  (post : Int32 → GS → Prop) (h : w_X12_told S  post) : Ct l D cy T0 tB tE yX12_told cX12_told 1 (some .boolean) 2 45 0 0 (mw cy a S) [.ref (a 0)] (QI D (U := GS) post (mw cy a)) := by
  refine Ct.ofZ RX12 "told" [(0, .ref (a 0))] rfl rfl rfl rfl (Nat.le_of_ble_eq_true rfl) ?_
  intro p e R s m args below meth c A b
  unfold w_X12_told at h
  refine z_aload_n b dX12_told_0 rfl rfl ?_
  refine z_aload_n b dX12_told_1 rfl rfl ?_
  refine z_calll b (z_runV (q0 := 0) (As := []) (st := [.ref (a 0)]) b (k_X12_packs S _ h) cf_X12_packs (mw_0 cy a S) rfl wm_X12_149 wi_X12_packs ws_X12_packs dX12_told_2 rfl (Nat.le_of_ble_eq_true rfl) ⟨by decide, by decide, by decide, by decide⟩) (fun r1 S2 h => ?_)
  refine z_put (q0 := 0) (k9 := 6) tyX12 b (mw_0 cy a S2) rfl in_X12 tyX12_ok nmX12 (by decide) wf_X12_153 rfl rfl rfl rfl (Nat.le_of_ble_eq_true rfl) dX12_told_5 (mwp_0_6 cy a S2 r1) ?_
  refine z_iconst (v := 1) b dX12_told_8 (by decide) ?_
  exact z_zret (u := (sl S2 0 r1)) b rfl (by decide) dX12_told_9 h rfl (by decide) (by decide)

def w_X12_see_B18 (post : Int32 → GS → Prop) (S : GS) (y0 : Int32) : Prop :=
  post y0 S

set_option maxHeartbeats 4000000 in
set_option maxRecDepth 100000 in
theorem z_X12_see_B18 {p : Program} {l : Launch} {e : Env} {R : Room} {s : State} {m : MethodId} {args : Array Value} {below : List Frame} {meth : Method} {c : Code} {D : va_G} {cy : Nat → ClassId} {T0 tB tE : Nat} {A : Nat → Prop} {a : Nat → Nat} {post : Int32 → GS → Prop} (b : Bz p R s m args meth c D cy T0 tB tE A 2 cX12_see RX12 (some .int) "see" 0 0 0 0) (S : GS) (y0 : Int32) (h : w_X12_see_B18 post S y0) : Z p l e R s m args below meth c D A 2 (MQ below (QI D (U := GS) post (mw cy a) A) args s 0 0 A) 0 0 (mw cy a S) [] 18 [.int y0] := by
  unfold w_X12_see_B18 at h
  exact z_iret (u := S) b rfl dX12_see_18 h rfl (by decide) (by decide)

def w_X12_see (S : GS) (p0 : Int32) (post : Int32 → GS → Prop) : Prop :=
  (((fi S 1).toInt ≤ p0.toInt → w_X12_see_B18 post S (-1)) ∧ (p0.toInt < (fi S 1).toInt → (0 ≤ p0.toInt ∧ p0.toInt < 700) ∧ w_X12_see_B18 post S ((ar S 21) p0.toNatClampNeg)))

set_option maxHeartbeats 4000000 in
set_option maxRecDepth 100000 in
theorem k_X12_see {l : Launch} {D : va_G} {cy : Nat → ClassId} {T0 tB tE : Nat} {a : Nat → Nat} (S : GS) (p0 : Int32) (post : Int32 → GS → Prop) (h : w_X12_see S p0 post) : Ct l D cy T0 tB tE yX12_see cX12_see 2 (some .int) 0 0 0 0 (mw cy a S) [.ref (a 0), .int p0] (QI D (U := GS) post (mw cy a)) := by
  refine Ct.ofZ RX12 "see" [(0, .ref (a 0)), (1, .int p0)] rfl rfl rfl rfl (Nat.le_of_ble_eq_true rfl) ?_
  intro p e R s m args below meth c A b
  unfold w_X12_see at h
  refine z_iload_n b dX12_see_0 rfl rfl ?_
  refine z_aload_n b dX12_see_1 rfl rfl ?_
  refine z_get (q0 := 0) (k9 := 25) (v := .int (fi S 1)) b (mw_0 cy a S) rfl in_X12 (by decide) wf_X12_182 rfl dX12_see_2 ?_
  refine y_icmp_ge (tgt := 17) (xl := p0.toInt) (yl := (fi S 1).toInt) b rfl rfl dX12_see_5 (by decide) (fun c1 => ?_) (fun c1 => ?_)
  · replace h := h.1 c1
    refine z_iconst (v := (-1)) b dX12_see_17 (by decide) ?_
    refine z_lv0 (lv' := []) [] rfl ?_
    exact z_X12_see_B18 b _ _ h
  · replace h := h.2 c1
    refine z_aload_n b dX12_see_8 rfl rfl ?_
    refine z_get (q0 := 0) (k9 := 23) (v := .ref (a 22)) b (mw_0 cy a S) rfl in_X12 (by decide) wf_X12_78 rfl dX12_see_9 ?_
    refine z_iload_n b dX12_see_12 rfl rfl ?_
    obtain ⟨g1, h⟩ := h
    refine y_iald (q0 := 22) (j := p0.toNatClampNeg) (v := ((ar S 21) p0.toNatClampNeg)) b (mw_22 cy a S) (zx_r g1.1 g1.2) rfl dX12_see_13 ?_
    refine z_goto (tgt := 18) b dX12_see_14 (by decide) ?_
    refine z_lv0 (lv' := []) [] rfl ?_
    exact z_X12_see_B18 b _ _ h

def w_X12_is_B60 (p0 : Nat) (post : Int32 → GS → Prop) (k24 : GS → Int32 → Int32 → Prop) (k67 : GS → Int32 → Prop) (S : GS) (x3 : Int32) (y0 : Int32) : Prop :=
  k24 S y0 (x3 + 1)

set_option maxHeartbeats 4000000 in
set_option maxRecDepth 100000 in
theorem z_X12_is_B60 {p : Program} {l : Launch} {e : Env} {R : Room} {s : State} {m : MethodId} {args : Array Value} {below : List Frame} {meth : Method} {c : Code} {D : va_G} {cy : Nat → ClassId} {T0 tB tE : Nat} {A : Nat → Prop} {a : Nat → Nat} {sW tW p0 : Nat} (hx : sX T0 sW tW (sN p0) (sF p0) s) {post : Int32 → GS → Prop} {k24 : GS → Int32 → Int32 → Prop} {k67 : GS → Int32 → Prop} (b : Bz p R s m args meth c D cy T0 tB tE A 4 cX12_is RX12 (some .boolean) "is" 4 85 0 0) (hk24 : ∀ (S : GS) (x2 : Int32) (x3 : Int32), k24 S x2 x3 → Z p l e R s m args below meth c D A 4 (MQ below (QI D (U := GS) post (mw cy a) A) args s 0 0 A) 0 0 (mw cy a S) [(0, .ref (a 0)), (1, .ref sW), (2, .int x2), (3, .int x3)] 24 []) (hk67 : ∀ (S : GS) (x2 : Int32), k67 S x2 → Z p l e R s m args below meth c D A 4 (MQ below (QI D (U := GS) post (mw cy a) A) args s 0 0 A) 0 0 (mw cy a S) [(2, .int x2)] 67 []) (S : GS) (x3 : Int32) (y0 : Int32) (h : w_X12_is_B60 p0 post k24 k67 S x3 y0) : Z p l e R s m args below meth c D A 4 (MQ below (QI D (U := GS) post (mw cy a) A) args s 0 0 A) 0 0 (mw cy a S) [(0, .ref (a 0)), (1, .ref sW), (3, .int x3)] 60 [.int y0] := by
  unfold w_X12_is_B60 at h
  refine z_istore_n (lv' := [(2, .int y0), (0, .ref (a 0)), (1, .ref sW), (3, .int x3)]) b dX12_is_60 rfl (by decide) rfl ?_
  refine z_iinc (k9 := 3) (v := (x3 + 1)) (lv' := [(3, .int (x3 + 1)), (2, .int y0), (0, .ref (a 0)), (1, .ref sW)]) b dX12_is_61 rfl rfl (by decide) rfl ?_
  refine z_goto (tgt := 24) b dX12_is_64 (by decide) ?_
  refine z_lv0 (lv' := [(0, .ref (a 0)), (1, .ref sW), (2, .int y0), (3, .int (x3 + 1))]) [2, 3, 1, 0] rfl ?_
  exact hk24 _ _ _ h

def w_X12_is_F24 (p0 : Nat) (post : Int32 → GS → Prop) (k67 : GS → Int32 → Prop) (k24 : GS → Int32 → Int32 → Prop) (S : GS) (x2 : Int32) (x3 : Int32) : Prop :=
  (((Int32.ofNat (sN p0)).toInt ≤ x3.toInt → k67 S x2) ∧ (x3.toInt < (Int32.ofNat (sN p0)).toInt → ((x2.toInt = 0 → k67 S x2) ∧ (x2.toInt ≠ 0 → (0 ≤ ((fi S 4) + x3).toInt ∧ ((fi S 4) + x3).toInt < 700) ∧ (0 ≤ x3.toInt ∧ x3.toInt < ((sN p0 : Nat) : Int)) ∧ x3.toInt < (Int32.ofNat (sN p0)).toInt ∧ ((((ar S 21) ((fi S 4) + x3).toNatClampNeg).toInt ≠ (sC p0 x3.toNatClampNeg).toInt → w_X12_is_B60 p0 post k24 k67 S x3 0) ∧ (((ar S 21) ((fi S 4) + x3).toNatClampNeg).toInt = (sC p0 x3.toNatClampNeg).toInt → w_X12_is_B60 p0 post k24 k67 S x3 1))))))

set_option maxHeartbeats 4000000 in
set_option maxRecDepth 100000 in
theorem z_X12_is_F24 {p : Program} {l : Launch} {e : Env} {R : Room} {s : State} {m : MethodId} {args : Array Value} {below : List Frame} {meth : Method} {c : Code} {D : va_G} {cy : Nat → ClassId} {T0 tB tE : Nat} {A : Nat → Prop} {a : Nat → Nat} {sW tW p0 : Nat} (hx : sX T0 sW tW (sN p0) (sF p0) s) {post : Int32 → GS → Prop} {k67 : GS → Int32 → Prop} {k24 : GS → Int32 → Int32 → Prop} (b : Bz p R s m args meth c D cy T0 tB tE A 4 cX12_is RX12 (some .boolean) "is" 4 85 0 0) (hk67 : ∀ (S : GS) (x2 : Int32), k67 S x2 → Z p l e R s m args below meth c D A 4 (MQ below (QI D (U := GS) post (mw cy a) A) args s 0 0 A) 0 0 (mw cy a S) [(2, .int x2)] 67 []) (hk24 : ∀ (S : GS) (x2 : Int32) (x3 : Int32), k24 S x2 x3 → Z p l e R s m args below meth c D A 4 (MQ below (QI D (U := GS) post (mw cy a) A) args s 0 0 A) 0 0 (mw cy a S) [(0, .ref (a 0)), (1, .ref sW), (2, .int x2), (3, .int x3)] 24 []) (S : GS) (x2 : Int32) (x3 : Int32) (h : w_X12_is_F24 p0 post k67 k24 S x2 x3) : Z p l e R s m args below meth c D A 4 (MQ below (QI D (U := GS) post (mw cy a) A) args s 0 0 A) 0 0 (mw cy a S) [(0, .ref (a 0)), (1, .ref sW), (2, .int x2), (3, .int x3)] 24 [] := by
  unfold w_X12_is_F24 at h
  refine z_iload_n b dX12_is_24 rfl rfl ?_
  refine z_aload_n b dX12_is_25 rfl rfl ?_
  refine z_calli b (s_runV (As := []) (st := [.int x3]) b hx (gx_length (mw cy a S) _ rfl (zshr0 _)) cf_J0_length_8abf5 rfl wm_X12_191 wi_J0_length_8abf5 ws_J0_length_8abf5 dX12_is_26 rfl (Nat.le_of_ble_eq_true rfl) ⟨by decide, by decide, by decide, by decide⟩) (fun r2 _ h9 => ?_)
  subst h9
  refine y_icmp_ge (tgt := 67) (xl := x3.toInt) (yl := (Int32.ofNat (sN p0)).toInt) b rfl rfl dX12_is_29 (by decide) (fun c1 => ?_) (fun c1 => ?_)
  · replace h := h.1 c1
    refine z_lv0 (lv' := [(2, .int x2)]) [2] rfl ?_
    exact hk67 _ _ h
  · replace h := h.2 c1
    refine z_iload_n b dX12_is_32 rfl rfl ?_
    refine y_if_eq (tgt := 67) (xl := x2.toInt) b rfl dX12_is_33 (by decide) (fun c1 => ?_) (fun c1 => ?_)
    · replace h := h.1 c1
      refine z_lv0 (lv' := [(2, .int x2)]) [2] rfl ?_
      exact hk67 _ _ h
    · replace h := h.2 c1
      refine z_aload_n b dX12_is_36 rfl rfl ?_
      refine z_get (q0 := 0) (k9 := 23) (v := .ref (a 22)) b (mw_0 cy a S) rfl in_X12 (by decide) wf_X12_78 rfl dX12_is_37 ?_
      refine z_aload_n b dX12_is_40 rfl rfl ?_
      refine z_get (q0 := 0) (k9 := 28) (v := .int (fi S 4)) b (mw_0 cy a S) rfl in_X12 (by decide) wf_X12_188 rfl dX12_is_41 ?_
      refine z_iload_n b dX12_is_44 rfl rfl ?_
      refine z_iadd b dX12_is_45 rfl ?_
      obtain ⟨g3, h⟩ := h
      refine y_iald (q0 := 22) (j := ((fi S 4) + x3).toNatClampNeg) (v := ((ar S 21) ((fi S 4) + x3).toNatClampNeg)) b (mw_22 cy a S) (zx_r g3.1 g3.2) rfl dX12_is_46 ?_
      refine z_aload_n b dX12_is_47 rfl rfl ?_
      refine z_iload_n b dX12_is_48 rfl rfl ?_
      obtain ⟨g4, g5, h⟩ := h
      refine z_calli b (s_runV (As := [.int x3]) (st := [.int ((ar S 21) ((fi S 4) + x3).toNatClampNeg)]) b hx (gx_char (mw cy a S) x3 _ _ (zx_r g4.1 g4.2) rfl (Int32.lt_iff_toInt_lt.mpr g5)) cf_J0_charAt_5068e rfl wm_X12_197 wi_J0_charAt_5068e ws_J0_charAt_5068e dX12_is_49 rfl (Nat.le_of_ble_eq_true rfl) ⟨by decide, by decide, by decide, by decide⟩) (fun r6 _ h9 => ?_)
      subst h9
      refine y_icmp_ne (tgt := 59) (xl := ((ar S 21) ((fi S 4) + x3).toNatClampNeg).toInt) (yl := (sC p0 x3.toNatClampNeg).toInt) b rfl rfl dX12_is_52 (by decide) (fun c1 => ?_) (fun c1 => ?_)
      · replace h := h.1 c1
        refine z_iconst (v := 0) b dX12_is_59 (by decide) ?_
        refine z_lv0 (lv' := [(0, .ref (a 0)), (1, .ref sW), (3, .int x3)]) [0, 1, 3] rfl ?_
        exact z_X12_is_B60 hx b hk24 hk67 _ _ _ h
      · replace h := h.2 c1
        refine z_iconst (v := 1) b dX12_is_55 (by decide) ?_
        refine z_goto (tgt := 60) b dX12_is_56 (by decide) ?_
        refine z_lv0 (lv' := [(0, .ref (a 0)), (1, .ref sW), (3, .int x3)]) [0, 1, 3] rfl ?_
        exact z_X12_is_B60 hx b hk24 hk67 _ _ _ h

set_option maxHeartbeats 4000000 in
set_option maxRecDepth 100000 in
theorem zl_X12_is_L24 {p : Program} {l : Launch} {e : Env} {R : Room} {s : State} {m : MethodId} {args : Array Value} {below : List Frame} {meth : Method} {c : Code} {D : va_G} {cy : Nat → ClassId} {T0 tB tE : Nat} {A : Nat → Prop} {a : Nat → Nat} {sW tW p0 : Nat} (hx : sX T0 sW tW (sN p0) (sF p0) s) {post : Int32 → GS → Prop} {k67 : GS → Int32 → Prop} (b : Bz p R s m args meth c D cy T0 tB tE A 4 cX12_is RX12 (some .boolean) "is" 4 85 0 0) (hk67 : ∀ (S : GS) (x2 : Int32), k67 S x2 → Z p l e R s m args below meth c D A 4 (MQ below (QI D (U := GS) post (mw cy a) A) args s 0 0 A) 0 0 (mw cy a S) [(2, .int x2)] 67 []) : ∀ (n : Nat) (S : GS) (x2 : Int32) (x3 : Int32), lpn (w_X12_is_F24 p0 post k67) (fun _ _ _ => False) n S x2 x3 → Z p l e R s m args below meth c D A 4 (MQ below (QI D (U := GS) post (mw cy a) A) args s 0 0 A) 0 0 (mw cy a S) [(0, .ref (a 0)), (1, .ref sW), (2, .int x2), (3, .int x3)] 24 [] := by
  intro n
  induction n with
  | zero => intro _ _ _ h; exact h.elim
  | succ n ih => intro S x2 x3 h; exact z_X12_is_F24 hx b hk67 ih S x2 x3 h

def w_X12_is_B67 (p0 : Nat) (post : Int32 → GS → Prop) (S : GS) (x2 : Int32) : Prop :=
  (x2 = 0 ∨ x2 = 1) ∧ post x2 S

set_option maxHeartbeats 4000000 in
set_option maxRecDepth 100000 in
theorem z_X12_is_B67 {p : Program} {l : Launch} {e : Env} {R : Room} {s : State} {m : MethodId} {args : Array Value} {below : List Frame} {meth : Method} {c : Code} {D : va_G} {cy : Nat → ClassId} {T0 tB tE : Nat} {A : Nat → Prop} {a : Nat → Nat} {sW tW p0 : Nat} (hx : sX T0 sW tW (sN p0) (sF p0) s) {post : Int32 → GS → Prop} (b : Bz p R s m args meth c D cy T0 tB tE A 4 cX12_is RX12 (some .boolean) "is" 4 85 0 0) (S : GS) (x2 : Int32) (h : w_X12_is_B67 p0 post S x2) : Z p l e R s m args below meth c D A 4 (MQ below (QI D (U := GS) post (mw cy a) A) args s 0 0 A) 0 0 (mw cy a S) [(2, .int x2)] 67 [] := by
  unfold w_X12_is_B67 at h
  refine z_iload_n b dX12_is_67 rfl rfl ?_
  obtain ⟨g7, h⟩ := h
  exact z_zret (u := S) b rfl (z_bool g7) dX12_is_68 h rfl (by decide) (by decide)

def w_X12_is_B21 (p0 : Nat) (post : Int32 → GS → Prop) (S : GS) (y0 : Int32) : Prop :=
  ∃ n, lpn (w_X12_is_F24 p0 post (w_X12_is_B67 p0 post)) (fun _ _ _ => False) n S y0 0

set_option maxHeartbeats 4000000 in
set_option maxRecDepth 100000 in
theorem z_X12_is_B21 {p : Program} {l : Launch} {e : Env} {R : Room} {s : State} {m : MethodId} {args : Array Value} {below : List Frame} {meth : Method} {c : Code} {D : va_G} {cy : Nat → ClassId} {T0 tB tE : Nat} {A : Nat → Prop} {a : Nat → Nat} {sW tW p0 : Nat} (hx : sX T0 sW tW (sN p0) (sF p0) s) {post : Int32 → GS → Prop} (b : Bz p R s m args meth c D cy T0 tB tE A 4 cX12_is RX12 (some .boolean) "is" 4 85 0 0) (S : GS) (y0 : Int32) (h : w_X12_is_B21 p0 post S y0) : Z p l e R s m args below meth c D A 4 (MQ below (QI D (U := GS) post (mw cy a) A) args s 0 0 A) 0 0 (mw cy a S) [(0, .ref (a 0)), (1, .ref sW)] 21 [.int y0] := by
  unfold w_X12_is_B21 at h
  refine z_istore_n (lv' := [(2, .int y0), (0, .ref (a 0)), (1, .ref sW)]) b dX12_is_21 rfl (by decide) rfl ?_
  refine z_iconst (v := 0) b dX12_is_22 (by decide) ?_
  refine z_istore_n (lv' := [(3, .int 0), (2, .int y0), (0, .ref (a 0)), (1, .ref sW)]) b dX12_is_23 rfl (by decide) rfl ?_
  refine z_lv0 (lv' := [(0, .ref (a 0)), (1, .ref sW), (2, .int y0), (3, .int 0)]) [2, 3, 1, 0] rfl ?_
  obtain ⟨n, h⟩ := h
  exact zl_X12_is_L24 hx b (fun S x2 h => z_X12_is_B67 hx b _ _ h) n _ _ _ h

def w_X12_is (S : GS) (p0 : Nat) (post : Int32 → GS → Prop) : Prop :=
  ((((fi S 2) - (fi S 4)).toInt ≠ (Int32.ofNat (sN p0)).toInt → w_X12_is_B21 p0 post S 0) ∧ (((fi S 2) - (fi S 4)).toInt = (Int32.ofNat (sN p0)).toInt → w_X12_is_B21 p0 post S 1))

set_option maxHeartbeats 4000000 in
set_option maxRecDepth 100000 in
theorem k_X12_is {sW tW : Nat} {l : Launch} {D : va_G} {cy : Nat → ClassId} {T0 tB tE : Nat} {a : Nat → Nat} (S : GS) (p0 : Nat) (post : Int32 → GS → Prop) (h : w_X12_is S p0 post) : CtX (sX T0 sW tW (sN p0) (sF p0)) l D cy T0 tB tE yX12_is cX12_is 4 (some .boolean) 4 85 0 0 (mw cy a S) [.ref (a 0), .ref sW] (QI D (U := GS) post (mw cy a)) := by
  refine CtX.ofZ RX12 "is" [(0, .ref (a 0)), (1, .ref sW)] rfl rfl rfl rfl (Nat.le_of_ble_eq_true rfl) ?_
  intro p e R s m args below meth c A hx b
  unfold w_X12_is at h
  refine z_aload_n b dX12_is_0 rfl rfl ?_
  refine z_get (q0 := 0) (k9 := 26) (v := .int (fi S 2)) b (mw_0 cy a S) rfl in_X12 (by decide) wf_X12_185 rfl dX12_is_1 ?_
  refine z_aload_n b dX12_is_4 rfl rfl ?_
  refine z_get (q0 := 0) (k9 := 28) (v := .int (fi S 4)) b (mw_0 cy a S) rfl in_X12 (by decide) wf_X12_188 rfl dX12_is_5 ?_
  refine z_isub b dX12_is_8 rfl ?_
  refine z_aload_n b dX12_is_9 rfl rfl ?_
  refine z_calli b (s_runV (As := []) (st := [.int ((fi S 2) - (fi S 4))]) b hx (gx_length (mw cy a S) _ rfl (zshr0 _)) cf_J0_length_8abf5 rfl wm_X12_191 wi_J0_length_8abf5 ws_J0_length_8abf5 dX12_is_10 rfl (Nat.le_of_ble_eq_true rfl) ⟨by decide, by decide, by decide, by decide⟩) (fun r1 _ h9 => ?_)
  subst h9
  refine y_icmp_ne (tgt := 20) (xl := ((fi S 2) - (fi S 4)).toInt) (yl := (Int32.ofNat (sN p0)).toInt) b rfl rfl dX12_is_13 (by decide) (fun c1 => ?_) (fun c1 => ?_)
  · replace h := h.1 c1
    refine z_iconst (v := 0) b dX12_is_20 (by decide) ?_
    exact z_X12_is_B21 hx b _ _ h
  · replace h := h.2 c1
    refine z_iconst (v := 1) b dX12_is_16 (by decide) ?_
    refine z_goto (tgt := 21) b dX12_is_17 (by decide) ?_
    exact z_X12_is_B21 hx b _ _ h

def w_X12_word_B270 (post : Int32 → GS → Prop) (S : GS) (y0 : Int32) : Prop :=
  post y0 S

set_option maxHeartbeats 4000000 in
set_option maxRecDepth 100000 in
theorem z_X12_word_B270 {p : Program} {l : Launch} {e : Env} {R : Room} {s : State} {m : MethodId} {args : Array Value} {below : List Frame} {meth : Method} {c : Code} {D : va_G} {cy : Nat → ClassId} {T0 tB tE : Nat} {A : Nat → Prop} {a : Nat → Nat} {post : Int32 → GS → Prop} (b : Bz p R s m args meth c D cy T0 tB tE A 1 cX12_word RX12 (some .int) "word" 5 108 0 0) (S : GS) (y0 : Int32) (h : w_X12_word_B270 post S y0) : Z p l e R s m args below meth c D A 1 (MQ below (QI D (U := GS) post (mw cy a) A) args s 0 0 A) 0 0 (mw cy a S) [] 270 [.int y0] := by
  unfold w_X12_word_B270 at h
  exact z_iret (u := S) b rfl dX12_word_270 h rfl (by decide) (by decide)

def w_X12_word (S : GS)  (post : Int32 → GS → Prop) : Prop :=
  w_X12_is S 2 (fun r1 S2 => ((r1.toInt = 0 → w_X12_is S2 3 (fun r3 S4 => ((r3.toInt = 0 → w_X12_is S4 4 (fun r5 S6 => ((r5.toInt = 0 → w_X12_is S6 5 (fun r7 S8 => ((r7.toInt = 0 → w_X12_is S8 6 (fun r9 S10 => ((r9.toInt = 0 → w_X12_is S10 7 (fun r11 S12 => ((r11.toInt = 0 → w_X12_is S12 8 (fun r13 S14 => ((r13.toInt = 0 → w_X12_is S14 9 (fun r15 S16 => ((r15.toInt = 0 → w_X12_is S16 10 (fun r17 S18 => ((r17.toInt = 0 → w_X12_is S18 11 (fun r19 S20 => ((r19.toInt = 0 → w_X12_is S20 12 (fun r21 S22 => ((r21.toInt = 0 → w_X12_is S22 13 (fun r23 S24 => ((r23.toInt = 0 → w_X12_is S24 14 (fun r25 S26 => ((r25.toInt = 0 → w_X12_is S26 15 (fun r27 S28 => ((r27.toInt = 0 → w_X12_is S28 16 (fun r29 S30 => ((r29.toInt = 0 → w_X12_is S30 17 (fun r31 S32 => ((r31.toInt = 0 → w_X12_is S32 18 (fun r33 S34 => ((r33.toInt = 0 → w_X12_is S34 19 (fun r35 S36 => ((r35.toInt = 0 → w_X12_is S36 20 (fun r37 S38 => ((r37.toInt = 0 → w_X12_isIn S38 ((fi S38 2) - (fi S38 4)) 2 8 (fun r39 S40 => ((r39.toInt = 0 → w_X12_word_B270 post S40 1) ∧ (r39.toInt ≠ 0 → w_X12_word_B270 post S40 3)))) ∧ (r37.toInt ≠ 0 → post 319 S38)))) ∧ (r35.toInt ≠ 0 → post 318 S36)))) ∧ (r33.toInt ≠ 0 → post 317 S34)))) ∧ (r31.toInt ≠ 0 → post 316 S32)))) ∧ (r29.toInt ≠ 0 → post 315 S30)))) ∧ (r27.toInt ≠ 0 → post 314 S28)))) ∧ (r25.toInt ≠ 0 → post 313 S26)))) ∧ (r23.toInt ≠ 0 → post 312 S24)))) ∧ (r21.toInt ≠ 0 → post 311 S22)))) ∧ (r19.toInt ≠ 0 → post 310 S20)))) ∧ (r17.toInt ≠ 0 → post 309 S18)))) ∧ (r15.toInt ≠ 0 → post 308 S16)))) ∧ (r13.toInt ≠ 0 → post 307 S14)))) ∧ (r11.toInt ≠ 0 → post 306 S12)))) ∧ (r9.toInt ≠ 0 → post 305 S10)))) ∧ (r7.toInt ≠ 0 → post 304 S8)))) ∧ (r5.toInt ≠ 0 → post 303 S6)))) ∧ (r3.toInt ≠ 0 → post 302 S4)))) ∧ (r1.toInt ≠ 0 → post 301 S2)))

set_option maxHeartbeats 4000000 in
set_option maxRecDepth 100000 in
theorem k_X12_word {l : Launch} {D : va_G} {cy : Nat → ClassId} {T0 tB tE : Nat} {a : Nat → Nat} (S : GS)  (post : Int32 → GS → Prop) (h : w_X12_word S  post) : Ct l D cy T0 tB tE yX12_word cX12_word 1 (some .int) 5 108 0 0 (mw cy a S) [.ref (a 0)] (QI D (U := GS) post (mw cy a)) := by
  refine Ct.ofZ RX12 "word" [(0, .ref (a 0))] rfl rfl rfl rfl (Nat.le_of_ble_eq_true rfl) ?_
  intro p e R s m args below meth c A b
  unfold w_X12_word at h
  refine z_aload_n b dX12_word_0 rfl rfl ?_
  obtain ⟨adK, adV, hk1, hk2⟩ := b.E1.2.2.2.2.1.2.2
  refine s_ldc b rfl (hk2 2 (by decide)) dX12_word_1 ?_
  refine z_calli b (z_runVX (q0 := 0) (As := [.ref (adK 2)]) (st := []) b (sX_at b hk1 (by decide)) (k_X12_is S 2 _ h) cf_X12_is (mw_0 cy a S) rfl wm_X12_203 wi_X12_is ws_X12_is dX12_word_3 rfl (Nat.le_of_ble_eq_true rfl) ⟨by decide, by decide, by decide, by decide⟩) (fun r1 S2 h => ?_)
  refine y_if_eq (tgt := 13) (xl := r1.toInt) b rfl dX12_word_6 (by decide) (fun c1 => ?_) (fun c1 => ?_)
  · replace h := h.1 c1
    refine z_aload_n b dX12_word_13 rfl rfl ?_
    obtain ⟨adK, adV, hk1, hk2⟩ := b.E1.2.2.2.2.1.2.2
    refine s_ldc b rfl (hk2 3 (by decide)) dX12_word_14 ?_
    refine z_calli b (z_runVX (q0 := 0) (As := [.ref (adK 3)]) (st := []) b (sX_at b hk1 (by decide)) (k_X12_is S2 3 _ h) cf_X12_is (mw_0 cy a S2) rfl wm_X12_203 wi_X12_is ws_X12_is dX12_word_16 rfl (Nat.le_of_ble_eq_true rfl) ⟨by decide, by decide, by decide, by decide⟩) (fun r3 S4 h => ?_)
    refine y_if_eq (tgt := 26) (xl := r3.toInt) b rfl dX12_word_19 (by decide) (fun c1 => ?_) (fun c1 => ?_)
    · replace h := h.1 c1
      refine z_aload_n b dX12_word_26 rfl rfl ?_
      obtain ⟨adK, adV, hk1, hk2⟩ := b.E1.2.2.2.2.1.2.2
      refine s_ldc b rfl (hk2 4 (by decide)) dX12_word_27 ?_
      refine z_calli b (z_runVX (q0 := 0) (As := [.ref (adK 4)]) (st := []) b (sX_at b hk1 (by decide)) (k_X12_is S4 4 _ h) cf_X12_is (mw_0 cy a S4) rfl wm_X12_203 wi_X12_is ws_X12_is dX12_word_29 rfl (Nat.le_of_ble_eq_true rfl) ⟨by decide, by decide, by decide, by decide⟩) (fun r5 S6 h => ?_)
      refine y_if_eq (tgt := 39) (xl := r5.toInt) b rfl dX12_word_32 (by decide) (fun c1 => ?_) (fun c1 => ?_)
      · replace h := h.1 c1
        refine z_aload_n b dX12_word_39 rfl rfl ?_
        obtain ⟨adK, adV, hk1, hk2⟩ := b.E1.2.2.2.2.1.2.2
        refine s_ldc b rfl (hk2 5 (by decide)) dX12_word_40 ?_
        refine z_calli b (z_runVX (q0 := 0) (As := [.ref (adK 5)]) (st := []) b (sX_at b hk1 (by decide)) (k_X12_is S6 5 _ h) cf_X12_is (mw_0 cy a S6) rfl wm_X12_203 wi_X12_is ws_X12_is dX12_word_42 rfl (Nat.le_of_ble_eq_true rfl) ⟨by decide, by decide, by decide, by decide⟩) (fun r7 S8 h => ?_)
        refine y_if_eq (tgt := 52) (xl := r7.toInt) b rfl dX12_word_45 (by decide) (fun c1 => ?_) (fun c1 => ?_)
        · replace h := h.1 c1
          refine z_aload_n b dX12_word_52 rfl rfl ?_
          obtain ⟨adK, adV, hk1, hk2⟩ := b.E1.2.2.2.2.1.2.2
          refine s_ldc b rfl (hk2 6 (by decide)) dX12_word_53 ?_
          refine z_calli b (z_runVX (q0 := 0) (As := [.ref (adK 6)]) (st := []) b (sX_at b hk1 (by decide)) (k_X12_is S8 6 _ h) cf_X12_is (mw_0 cy a S8) rfl wm_X12_203 wi_X12_is ws_X12_is dX12_word_55 rfl (Nat.le_of_ble_eq_true rfl) ⟨by decide, by decide, by decide, by decide⟩) (fun r9 S10 h => ?_)
          refine y_if_eq (tgt := 65) (xl := r9.toInt) b rfl dX12_word_58 (by decide) (fun c1 => ?_) (fun c1 => ?_)
          · replace h := h.1 c1
            refine z_aload_n b dX12_word_65 rfl rfl ?_
            obtain ⟨adK, adV, hk1, hk2⟩ := b.E1.2.2.2.2.1.2.2
            refine s_ldc b rfl (hk2 7 (by decide)) dX12_word_66 ?_
            refine z_calli b (z_runVX (q0 := 0) (As := [.ref (adK 7)]) (st := []) b (sX_at b hk1 (by decide)) (k_X12_is S10 7 _ h) cf_X12_is (mw_0 cy a S10) rfl wm_X12_203 wi_X12_is ws_X12_is dX12_word_68 rfl (Nat.le_of_ble_eq_true rfl) ⟨by decide, by decide, by decide, by decide⟩) (fun r11 S12 h => ?_)
            refine y_if_eq (tgt := 78) (xl := r11.toInt) b rfl dX12_word_71 (by decide) (fun c1 => ?_) (fun c1 => ?_)
            · replace h := h.1 c1
              refine z_aload_n b dX12_word_78 rfl rfl ?_
              obtain ⟨adK, adV, hk1, hk2⟩ := b.E1.2.2.2.2.1.2.2
              refine s_ldc b rfl (hk2 8 (by decide)) dX12_word_79 ?_
              refine z_calli b (z_runVX (q0 := 0) (As := [.ref (adK 8)]) (st := []) b (sX_at b hk1 (by decide)) (k_X12_is S12 8 _ h) cf_X12_is (mw_0 cy a S12) rfl wm_X12_203 wi_X12_is ws_X12_is dX12_word_81 rfl (Nat.le_of_ble_eq_true rfl) ⟨by decide, by decide, by decide, by decide⟩) (fun r13 S14 h => ?_)
              refine y_if_eq (tgt := 91) (xl := r13.toInt) b rfl dX12_word_84 (by decide) (fun c1 => ?_) (fun c1 => ?_)
              · replace h := h.1 c1
                refine z_aload_n b dX12_word_91 rfl rfl ?_
                obtain ⟨adK, adV, hk1, hk2⟩ := b.E1.2.2.2.2.1.2.2
                refine s_ldc b rfl (hk2 9 (by decide)) dX12_word_92 ?_
                refine z_calli b (z_runVX (q0 := 0) (As := [.ref (adK 9)]) (st := []) b (sX_at b hk1 (by decide)) (k_X12_is S14 9 _ h) cf_X12_is (mw_0 cy a S14) rfl wm_X12_203 wi_X12_is ws_X12_is dX12_word_94 rfl (Nat.le_of_ble_eq_true rfl) ⟨by decide, by decide, by decide, by decide⟩) (fun r15 S16 h => ?_)
                refine y_if_eq (tgt := 104) (xl := r15.toInt) b rfl dX12_word_97 (by decide) (fun c1 => ?_) (fun c1 => ?_)
                · replace h := h.1 c1
                  refine z_aload_n b dX12_word_104 rfl rfl ?_
                  obtain ⟨adK, adV, hk1, hk2⟩ := b.E1.2.2.2.2.1.2.2
                  refine s_ldc b rfl (hk2 10 (by decide)) dX12_word_105 ?_
                  refine z_calli b (z_runVX (q0 := 0) (As := [.ref (adK 10)]) (st := []) b (sX_at b hk1 (by decide)) (k_X12_is S16 10 _ h) cf_X12_is (mw_0 cy a S16) rfl wm_X12_203 wi_X12_is ws_X12_is dX12_word_107 rfl (Nat.le_of_ble_eq_true rfl) ⟨by decide, by decide, by decide, by decide⟩) (fun r17 S18 h => ?_)
                  refine y_if_eq (tgt := 117) (xl := r17.toInt) b rfl dX12_word_110 (by decide) (fun c1 => ?_) (fun c1 => ?_)
                  · replace h := h.1 c1
                    refine z_aload_n b dX12_word_117 rfl rfl ?_
                    obtain ⟨adK, adV, hk1, hk2⟩ := b.E1.2.2.2.2.1.2.2
                    refine s_ldc b rfl (hk2 11 (by decide)) dX12_word_118 ?_
                    refine z_calli b (z_runVX (q0 := 0) (As := [.ref (adK 11)]) (st := []) b (sX_at b hk1 (by decide)) (k_X12_is S18 11 _ h) cf_X12_is (mw_0 cy a S18) rfl wm_X12_203 wi_X12_is ws_X12_is dX12_word_120 rfl (Nat.le_of_ble_eq_true rfl) ⟨by decide, by decide, by decide, by decide⟩) (fun r19 S20 h => ?_)
                    refine y_if_eq (tgt := 130) (xl := r19.toInt) b rfl dX12_word_123 (by decide) (fun c1 => ?_) (fun c1 => ?_)
                    · replace h := h.1 c1
                      refine z_aload_n b dX12_word_130 rfl rfl ?_
                      obtain ⟨adK, adV, hk1, hk2⟩ := b.E1.2.2.2.2.1.2.2
                      refine s_ldc b rfl (hk2 12 (by decide)) dX12_word_131 ?_
                      refine z_calli b (z_runVX (q0 := 0) (As := [.ref (adK 12)]) (st := []) b (sX_at b hk1 (by decide)) (k_X12_is S20 12 _ h) cf_X12_is (mw_0 cy a S20) rfl wm_X12_203 wi_X12_is ws_X12_is dX12_word_133 rfl (Nat.le_of_ble_eq_true rfl) ⟨by decide, by decide, by decide, by decide⟩) (fun r21 S22 h => ?_)
                      refine y_if_eq (tgt := 143) (xl := r21.toInt) b rfl dX12_word_136 (by decide) (fun c1 => ?_) (fun c1 => ?_)
                      · replace h := h.1 c1
                        refine z_aload_n b dX12_word_143 rfl rfl ?_
                        obtain ⟨adK, adV, hk1, hk2⟩ := b.E1.2.2.2.2.1.2.2
                        refine s_ldc b rfl (hk2 13 (by decide)) dX12_word_144 ?_
                        refine z_calli b (z_runVX (q0 := 0) (As := [.ref (adK 13)]) (st := []) b (sX_at b hk1 (by decide)) (k_X12_is S22 13 _ h) cf_X12_is (mw_0 cy a S22) rfl wm_X12_203 wi_X12_is ws_X12_is dX12_word_146 rfl (Nat.le_of_ble_eq_true rfl) ⟨by decide, by decide, by decide, by decide⟩) (fun r23 S24 h => ?_)
                        refine y_if_eq (tgt := 156) (xl := r23.toInt) b rfl dX12_word_149 (by decide) (fun c1 => ?_) (fun c1 => ?_)
                        · replace h := h.1 c1
                          refine z_aload_n b dX12_word_156 rfl rfl ?_
                          obtain ⟨adK, adV, hk1, hk2⟩ := b.E1.2.2.2.2.1.2.2
                          refine s_ldc b rfl (hk2 14 (by decide)) dX12_word_157 ?_
                          refine z_calli b (z_runVX (q0 := 0) (As := [.ref (adK 14)]) (st := []) b (sX_at b hk1 (by decide)) (k_X12_is S24 14 _ h) cf_X12_is (mw_0 cy a S24) rfl wm_X12_203 wi_X12_is ws_X12_is dX12_word_159 rfl (Nat.le_of_ble_eq_true rfl) ⟨by decide, by decide, by decide, by decide⟩) (fun r25 S26 h => ?_)
                          refine y_if_eq (tgt := 169) (xl := r25.toInt) b rfl dX12_word_162 (by decide) (fun c1 => ?_) (fun c1 => ?_)
                          · replace h := h.1 c1
                            refine z_aload_n b dX12_word_169 rfl rfl ?_
                            obtain ⟨adK, adV, hk1, hk2⟩ := b.E1.2.2.2.2.1.2.2
                            refine s_ldc b rfl (hk2 15 (by decide)) dX12_word_170 ?_
                            refine z_calli b (z_runVX (q0 := 0) (As := [.ref (adK 15)]) (st := []) b (sX_at b hk1 (by decide)) (k_X12_is S26 15 _ h) cf_X12_is (mw_0 cy a S26) rfl wm_X12_203 wi_X12_is ws_X12_is dX12_word_172 rfl (Nat.le_of_ble_eq_true rfl) ⟨by decide, by decide, by decide, by decide⟩) (fun r27 S28 h => ?_)
                            refine y_if_eq (tgt := 182) (xl := r27.toInt) b rfl dX12_word_175 (by decide) (fun c1 => ?_) (fun c1 => ?_)
                            · replace h := h.1 c1
                              refine z_aload_n b dX12_word_182 rfl rfl ?_
                              obtain ⟨adK, adV, hk1, hk2⟩ := b.E1.2.2.2.2.1.2.2
                              refine s_ldc b rfl (hk2 16 (by decide)) dX12_word_183 ?_
                              refine z_calli b (z_runVX (q0 := 0) (As := [.ref (adK 16)]) (st := []) b (sX_at b hk1 (by decide)) (k_X12_is S28 16 _ h) cf_X12_is (mw_0 cy a S28) rfl wm_X12_203 wi_X12_is ws_X12_is dX12_word_185 rfl (Nat.le_of_ble_eq_true rfl) ⟨by decide, by decide, by decide, by decide⟩) (fun r29 S30 h => ?_)
                              refine y_if_eq (tgt := 195) (xl := r29.toInt) b rfl dX12_word_188 (by decide) (fun c1 => ?_) (fun c1 => ?_)
                              · replace h := h.1 c1
                                refine z_aload_n b dX12_word_195 rfl rfl ?_
                                obtain ⟨adK, adV, hk1, hk2⟩ := b.E1.2.2.2.2.1.2.2
                                refine s_ldc b rfl (hk2 17 (by decide)) dX12_word_196 ?_
                                refine z_calli b (z_runVX (q0 := 0) (As := [.ref (adK 17)]) (st := []) b (sX_at b hk1 (by decide)) (k_X12_is S30 17 _ h) cf_X12_is (mw_0 cy a S30) rfl wm_X12_203 wi_X12_is ws_X12_is dX12_word_198 rfl (Nat.le_of_ble_eq_true rfl) ⟨by decide, by decide, by decide, by decide⟩) (fun r31 S32 h => ?_)
                                refine y_if_eq (tgt := 208) (xl := r31.toInt) b rfl dX12_word_201 (by decide) (fun c1 => ?_) (fun c1 => ?_)
                                · replace h := h.1 c1
                                  refine z_aload_n b dX12_word_208 rfl rfl ?_
                                  obtain ⟨adK, adV, hk1, hk2⟩ := b.E1.2.2.2.2.1.2.2
                                  refine s_ldc b rfl (hk2 18 (by decide)) dX12_word_209 ?_
                                  refine z_calli b (z_runVX (q0 := 0) (As := [.ref (adK 18)]) (st := []) b (sX_at b hk1 (by decide)) (k_X12_is S32 18 _ h) cf_X12_is (mw_0 cy a S32) rfl wm_X12_203 wi_X12_is ws_X12_is dX12_word_211 rfl (Nat.le_of_ble_eq_true rfl) ⟨by decide, by decide, by decide, by decide⟩) (fun r33 S34 h => ?_)
                                  refine y_if_eq (tgt := 221) (xl := r33.toInt) b rfl dX12_word_214 (by decide) (fun c1 => ?_) (fun c1 => ?_)
                                  · replace h := h.1 c1
                                    refine z_aload_n b dX12_word_221 rfl rfl ?_
                                    obtain ⟨adK, adV, hk1, hk2⟩ := b.E1.2.2.2.2.1.2.2
                                    refine s_ldc b rfl (hk2 19 (by decide)) dX12_word_222 ?_
                                    refine z_calli b (z_runVX (q0 := 0) (As := [.ref (adK 19)]) (st := []) b (sX_at b hk1 (by decide)) (k_X12_is S34 19 _ h) cf_X12_is (mw_0 cy a S34) rfl wm_X12_203 wi_X12_is ws_X12_is dX12_word_224 rfl (Nat.le_of_ble_eq_true rfl) ⟨by decide, by decide, by decide, by decide⟩) (fun r35 S36 h => ?_)
                                    refine y_if_eq (tgt := 234) (xl := r35.toInt) b rfl dX12_word_227 (by decide) (fun c1 => ?_) (fun c1 => ?_)
                                    · replace h := h.1 c1
                                      refine z_aload_n b dX12_word_234 rfl rfl ?_
                                      obtain ⟨adK, adV, hk1, hk2⟩ := b.E1.2.2.2.2.1.2.2
                                      refine s_ldc b rfl (hk2 20 (by decide)) dX12_word_235 ?_
                                      refine z_calli b (z_runVX (q0 := 0) (As := [.ref (adK 20)]) (st := []) b (sX_at b hk1 (by decide)) (k_X12_is S36 20 _ h) cf_X12_is (mw_0 cy a S36) rfl wm_X12_203 wi_X12_is ws_X12_is dX12_word_237 rfl (Nat.le_of_ble_eq_true rfl) ⟨by decide, by decide, by decide, by decide⟩) (fun r37 S38 h => ?_)
                                      refine y_if_eq (tgt := 247) (xl := r37.toInt) b rfl dX12_word_240 (by decide) (fun c1 => ?_) (fun c1 => ?_)
                                      · replace h := h.1 c1
                                        refine z_aload_n b dX12_word_247 rfl rfl ?_
                                        refine z_get (q0 := 0) (k9 := 26) (v := .int (fi S38 2)) b (mw_0 cy a S38) rfl in_X12 (by decide) wf_X12_185 rfl dX12_word_248 ?_
                                        refine z_aload_n b dX12_word_251 rfl rfl ?_
                                        refine z_get (q0 := 0) (k9 := 28) (v := .int (fi S38 4)) b (mw_0 cy a S38) rfl in_X12 (by decide) wf_X12_188 rfl dX12_word_252 ?_
                                        refine z_isub b dX12_word_255 rfl ?_
                                        refine z_iconst (v := 2) b dX12_word_256 (by decide) ?_
                                        refine z_bipush (v := 8) b dX12_word_257 (by decide) ?_
                                        refine z_calli b (z_runS (As := [.int ((fi S38 2) - (fi S38 4)), .int 2, .int 8]) (st := []) b (k_X12_isIn S38 ((fi S38 2) - (fi S38 4)) 2 8 _ h) cf_X12_isIn wm_X12_1 ws_X12_isIn dX12_word_259 rfl (Nat.le_of_ble_eq_true rfl) ⟨by decide, by decide, by decide, by decide⟩) (fun r39 S40 h => ?_)
                                        refine y_if_eq (tgt := 269) (xl := r39.toInt) b rfl dX12_word_262 (by decide) (fun c1 => ?_) (fun c1 => ?_)
                                        · replace h := h.1 c1
                                          refine z_iconst (v := 1) b dX12_word_269 (by decide) ?_
                                          refine z_lv0 (lv' := []) [] rfl ?_
                                          exact z_X12_word_B270 b _ _ h
                                        · replace h := h.2 c1
                                          refine z_iconst (v := 3) b dX12_word_265 (by decide) ?_
                                          refine z_goto (tgt := 270) b dX12_word_266 (by decide) ?_
                                          refine z_lv0 (lv' := []) [] rfl ?_
                                          exact z_X12_word_B270 b _ _ h
                                      · replace h := h.2 c1
                                        refine z_sipush (v := 319) b dX12_word_243 (by decide) ?_
                                        exact z_iret (u := S38) b rfl dX12_word_246 h rfl (by decide) (by decide)
                                    · replace h := h.2 c1
                                      refine z_sipush (v := 318) b dX12_word_230 (by decide) ?_
                                      exact z_iret (u := S36) b rfl dX12_word_233 h rfl (by decide) (by decide)
                                  · replace h := h.2 c1
                                    refine z_sipush (v := 317) b dX12_word_217 (by decide) ?_
                                    exact z_iret (u := S34) b rfl dX12_word_220 h rfl (by decide) (by decide)
                                · replace h := h.2 c1
                                  refine z_sipush (v := 316) b dX12_word_204 (by decide) ?_
                                  exact z_iret (u := S32) b rfl dX12_word_207 h rfl (by decide) (by decide)
                              · replace h := h.2 c1
                                refine z_sipush (v := 315) b dX12_word_191 (by decide) ?_
                                exact z_iret (u := S30) b rfl dX12_word_194 h rfl (by decide) (by decide)
                            · replace h := h.2 c1
                              refine z_sipush (v := 314) b dX12_word_178 (by decide) ?_
                              exact z_iret (u := S28) b rfl dX12_word_181 h rfl (by decide) (by decide)
                          · replace h := h.2 c1
                            refine z_sipush (v := 313) b dX12_word_165 (by decide) ?_
                            exact z_iret (u := S26) b rfl dX12_word_168 h rfl (by decide) (by decide)
                        · replace h := h.2 c1
                          refine z_sipush (v := 312) b dX12_word_152 (by decide) ?_
                          exact z_iret (u := S24) b rfl dX12_word_155 h rfl (by decide) (by decide)
                      · replace h := h.2 c1
                        refine z_sipush (v := 311) b dX12_word_139 (by decide) ?_
                        exact z_iret (u := S22) b rfl dX12_word_142 h rfl (by decide) (by decide)
                    · replace h := h.2 c1
                      refine z_sipush (v := 310) b dX12_word_126 (by decide) ?_
                      exact z_iret (u := S20) b rfl dX12_word_129 h rfl (by decide) (by decide)
                  · replace h := h.2 c1
                    refine z_sipush (v := 309) b dX12_word_113 (by decide) ?_
                    exact z_iret (u := S18) b rfl dX12_word_116 h rfl (by decide) (by decide)
                · replace h := h.2 c1
                  refine z_sipush (v := 308) b dX12_word_100 (by decide) ?_
                  exact z_iret (u := S16) b rfl dX12_word_103 h rfl (by decide) (by decide)
              · replace h := h.2 c1
                refine z_sipush (v := 307) b dX12_word_87 (by decide) ?_
                exact z_iret (u := S14) b rfl dX12_word_90 h rfl (by decide) (by decide)
            · replace h := h.2 c1
              refine z_sipush (v := 306) b dX12_word_74 (by decide) ?_
              exact z_iret (u := S12) b rfl dX12_word_77 h rfl (by decide) (by decide)
          · replace h := h.2 c1
            refine z_sipush (v := 305) b dX12_word_61 (by decide) ?_
            exact z_iret (u := S10) b rfl dX12_word_64 h rfl (by decide) (by decide)
        · replace h := h.2 c1
          refine z_sipush (v := 304) b dX12_word_48 (by decide) ?_
          exact z_iret (u := S8) b rfl dX12_word_51 h rfl (by decide) (by decide)
      · replace h := h.2 c1
        refine z_sipush (v := 303) b dX12_word_35 (by decide) ?_
        exact z_iret (u := S6) b rfl dX12_word_38 h rfl (by decide) (by decide)
    · replace h := h.2 c1
      refine z_sipush (v := 302) b dX12_word_22 (by decide) ?_
      exact z_iret (u := S4) b rfl dX12_word_25 h rfl (by decide) (by decide)
  · replace h := h.2 c1
    refine z_sipush (v := 301) b dX12_word_9 (by decide) ?_
    exact z_iret (u := S2) b rfl dX12_word_12 h rfl (by decide) (by decide)

def w_X12_next0_B26 (post : GS → Prop) (k0 : GS → Prop) (k39 : GS → Prop) (S : GS)  : Prop :=
  k0 (si S 2 ((fi S 2) + 1))

set_option maxHeartbeats 4000000 in
set_option maxRecDepth 100000 in
theorem z_X12_next0_B26 {p : Program} {l : Launch} {e : Env} {R : Room} {s : State} {m : MethodId} {args : Array Value} {below : List Frame} {meth : Method} {c : Code} {D : va_G} {cy : Nat → ClassId} {T0 tB tE : Nat} {A : Nat → Prop} {a : Nat → Nat} {post : GS → Prop} {k0 : GS → Prop} {k39 : GS → Prop} (b : Bz p R s m args meth c D cy T0 tB tE A 3 cX12_next0 RX12 none "next0" 6 128 0 0) (hk0 : ∀ (S : GS), k0 S → Z p l e R s m args below meth c D A 3 (MQ below (QV D (U := GS) post (mw cy a) A) args s 0 0 A) 0 0 (mw cy a S) [(0, .ref (a 0))] 0 []) (hk39 : ∀ (S : GS), k39 S → Z p l e R s m args below meth c D A 3 (MQ below (QV D (U := GS) post (mw cy a) A) args s 0 0 A) 0 0 (mw cy a S) [(0, .ref (a 0))] 39 []) (S : GS)  (h : w_X12_next0_B26 post k0 k39 S ) : Z p l e R s m args below meth c D A 3 (MQ below (QV D (U := GS) post (mw cy a) A) args s 0 0 A) 0 0 (mw cy a S) [(0, .ref (a 0))] 26 [] := by
  unfold w_X12_next0_B26 at h
  refine z_aload_n b dX12_next0_26 rfl rfl ?_
  refine z_dup b dX12_next0_27 rfl ?_
  refine z_get (q0 := 0) (k9 := 26) (v := .int (fi S 2)) b (mw_0 cy a S) rfl in_X12 (by decide) wf_X12_185 rfl dX12_next0_28 ?_
  refine z_iconst (v := 1) b dX12_next0_31 (by decide) ?_
  refine z_iadd b dX12_next0_32 rfl ?_
  refine z_put (q0 := 0) (k9 := 26) tyX12 b (mw_0 cy a S) rfl in_X12 tyX12_ok nmX12 (by decide) wf_X12_185 rfl rfl rfl rfl (Nat.le_of_ble_eq_true rfl) dX12_next0_33 (mwp_0_26 cy a S ((fi S 2) + 1)) ?_
  refine z_goto (tgt := 0) b dX12_next0_36 (by decide) ?_
  exact hk0 _ h

def w_X12_next0_F0 (post : GS → Prop) (k39 : GS → Prop) (k0 : GS → Prop) (S : GS)  : Prop :=
  w_X12_see S (fi S 2) (fun r1 S2 => ((r1.toInt = 32 → w_X12_next0_B26 post k0 k39 S2) ∧ (r1.toInt ≠ 32 → w_X12_see S2 (fi S2 2) (fun r3 S4 => ((r3.toInt ≠ 10 → k39 S4) ∧ (r3.toInt = 10 → w_X12_next0_B26 post k0 k39 S4))))))

set_option maxHeartbeats 4000000 in
set_option maxRecDepth 100000 in
theorem z_X12_next0_F0 {p : Program} {l : Launch} {e : Env} {R : Room} {s : State} {m : MethodId} {args : Array Value} {below : List Frame} {meth : Method} {c : Code} {D : va_G} {cy : Nat → ClassId} {T0 tB tE : Nat} {A : Nat → Prop} {a : Nat → Nat} {post : GS → Prop} {k39 : GS → Prop} {k0 : GS → Prop} (b : Bz p R s m args meth c D cy T0 tB tE A 3 cX12_next0 RX12 none "next0" 6 128 0 0) (hk39 : ∀ (S : GS), k39 S → Z p l e R s m args below meth c D A 3 (MQ below (QV D (U := GS) post (mw cy a) A) args s 0 0 A) 0 0 (mw cy a S) [(0, .ref (a 0))] 39 []) (hk0 : ∀ (S : GS), k0 S → Z p l e R s m args below meth c D A 3 (MQ below (QV D (U := GS) post (mw cy a) A) args s 0 0 A) 0 0 (mw cy a S) [(0, .ref (a 0))] 0 []) (S : GS)  (h : w_X12_next0_F0 post k39 k0 S ) : Z p l e R s m args below meth c D A 3 (MQ below (QV D (U := GS) post (mw cy a) A) args s 0 0 A) 0 0 (mw cy a S) [(0, .ref (a 0))] 0 [] := by
  unfold w_X12_next0_F0 at h
  refine z_aload_n b dX12_next0_0 rfl rfl ?_
  refine z_aload_n b dX12_next0_1 rfl rfl ?_
  refine z_get (q0 := 0) (k9 := 26) (v := .int (fi S 2)) b (mw_0 cy a S) rfl in_X12 (by decide) wf_X12_185 rfl dX12_next0_2 ?_
  refine z_calli b (z_runV (q0 := 0) (As := [.int (fi S 2)]) (st := []) b (k_X12_see S (fi S 2) _ h) cf_X12_see (mw_0 cy a S) rfl wm_X12_238 wi_X12_see ws_X12_see dX12_next0_5 rfl (Nat.le_of_ble_eq_true rfl) ⟨by decide, by decide, by decide, by decide⟩) (fun r1 S2 h => ?_)
  refine z_bipush (v := 32) b dX12_next0_8 (by decide) ?_
  refine y_icmp_eq (tgt := 26) (xl := r1.toInt) (yl := 32) b rfl (by decide) dX12_next0_10 (by decide) (fun c1 => ?_) (fun c1 => ?_)
  · replace h := h.1 c1
    exact z_X12_next0_B26 b hk0 hk39 _ h
  · replace h := h.2 c1
    refine z_aload_n b dX12_next0_13 rfl rfl ?_
    refine z_aload_n b dX12_next0_14 rfl rfl ?_
    refine z_get (q0 := 0) (k9 := 26) (v := .int (fi S2 2)) b (mw_0 cy a S2) rfl in_X12 (by decide) wf_X12_185 rfl dX12_next0_15 ?_
    refine z_calli b (z_runV (q0 := 0) (As := [.int (fi S2 2)]) (st := []) b (k_X12_see S2 (fi S2 2) _ h) cf_X12_see (mw_0 cy a S2) rfl wm_X12_238 wi_X12_see ws_X12_see dX12_next0_18 rfl (Nat.le_of_ble_eq_true rfl) ⟨by decide, by decide, by decide, by decide⟩) (fun r3 S4 h => ?_)
    refine z_bipush (v := 10) b dX12_next0_21 (by decide) ?_
    refine y_icmp_ne (tgt := 39) (xl := r3.toInt) (yl := 10) b rfl (by decide) dX12_next0_23 (by decide) (fun c1 => ?_) (fun c1 => ?_)
    · replace h := h.1 c1
      exact hk39 _ h
    · replace h := h.2 c1
      exact z_X12_next0_B26 b hk0 hk39 _ h

set_option maxHeartbeats 4000000 in
set_option maxRecDepth 100000 in
theorem zl_X12_next0_L0 {p : Program} {l : Launch} {e : Env} {R : Room} {s : State} {m : MethodId} {args : Array Value} {below : List Frame} {meth : Method} {c : Code} {D : va_G} {cy : Nat → ClassId} {T0 tB tE : Nat} {A : Nat → Prop} {a : Nat → Nat} {post : GS → Prop} {k39 : GS → Prop} (b : Bz p R s m args meth c D cy T0 tB tE A 3 cX12_next0 RX12 none "next0" 6 128 0 0) (hk39 : ∀ (S : GS), k39 S → Z p l e R s m args below meth c D A 3 (MQ below (QV D (U := GS) post (mw cy a) A) args s 0 0 A) 0 0 (mw cy a S) [(0, .ref (a 0))] 39 []) : ∀ (n : Nat) (S : GS), lpn (w_X12_next0_F0 post k39) (fun _ => False) n S  → Z p l e R s m args below meth c D A 3 (MQ below (QV D (U := GS) post (mw cy a) A) args s 0 0 A) 0 0 (mw cy a S) [(0, .ref (a 0))] 0 [] := by
  intro n
  induction n with
  | zero => intro _ h; exact h.elim
  | succ n ih => intro S  h; exact z_X12_next0_F0 b hk39 ih S  h

def w_X12_next0_B297 (post : GS → Prop) (S : GS)  : Prop :=
  post S

set_option maxHeartbeats 4000000 in
set_option maxRecDepth 100000 in
theorem z_X12_next0_B297 {p : Program} {l : Launch} {e : Env} {R : Room} {s : State} {m : MethodId} {args : Array Value} {below : List Frame} {meth : Method} {c : Code} {D : va_G} {cy : Nat → ClassId} {T0 tB tE : Nat} {A : Nat → Prop} {a : Nat → Nat} {post : GS → Prop} (b : Bz p R s m args meth c D cy T0 tB tE A 3 cX12_next0 RX12 none "next0" 6 128 0 0) (S : GS)  (h : w_X12_next0_B297 post S ) : Z p l e R s m args below meth c D A 3 (MQ below (QV D (U := GS) post (mw cy a) A) args s 0 0 A) 0 0 (mw cy a S) [] 297 [] := by
  unfold w_X12_next0_B297 at h
  exact z_vret (u := S) b rfl dX12_next0_297 h rfl (by decide) (by decide)

def w_X12_next0_B294 (post : GS → Prop) (S : GS) (y0 : Int32) : Prop :=
  w_X12_next0_B297 post (si S 3 y0)

set_option maxHeartbeats 4000000 in
set_option maxRecDepth 100000 in
theorem z_X12_next0_B294 {p : Program} {l : Launch} {e : Env} {R : Room} {s : State} {m : MethodId} {args : Array Value} {below : List Frame} {meth : Method} {c : Code} {D : va_G} {cy : Nat → ClassId} {T0 tB tE : Nat} {A : Nat → Prop} {a : Nat → Nat} {post : GS → Prop} (b : Bz p R s m args meth c D cy T0 tB tE A 3 cX12_next0 RX12 none "next0" 6 128 0 0) (S : GS) (y0 : Int32) (h : w_X12_next0_B294 post S y0) : Z p l e R s m args below meth c D A 3 (MQ below (QV D (U := GS) post (mw cy a) A) args s 0 0 A) 0 0 (mw cy a S) [] 294 [.int y0, .ref (a 0)] := by
  unfold w_X12_next0_B294 at h
  refine z_put (q0 := 0) (k9 := 27) tyX12 b (mw_0 cy a S) rfl in_X12 tyX12_ok nmX12 (by decide) wf_X12_242 rfl rfl rfl rfl (Nat.le_of_ble_eq_true rfl) dX12_next0_294 (mwp_0_27 cy a S y0) ?_
  exact z_X12_next0_B297 b _ h

def w_X12_next0_B283 (post : GS → Prop) (S : GS) (x1 : Int32) (y0 : Int32) : Prop :=
  ((y0.toInt = 0 → w_X12_next0_B294 post S 1) ∧ (y0.toInt ≠ 0 → w_X12_next0_B294 post S x1))

set_option maxHeartbeats 4000000 in
set_option maxRecDepth 100000 in
theorem z_X12_next0_B283 {p : Program} {l : Launch} {e : Env} {R : Room} {s : State} {m : MethodId} {args : Array Value} {below : List Frame} {meth : Method} {c : Code} {D : va_G} {cy : Nat → ClassId} {T0 tB tE : Nat} {A : Nat → Prop} {a : Nat → Nat} {post : GS → Prop} (b : Bz p R s m args meth c D cy T0 tB tE A 3 cX12_next0 RX12 none "next0" 6 128 0 0) (S : GS) (x1 : Int32) (y0 : Int32) (h : w_X12_next0_B283 post S x1 y0) : Z p l e R s m args below meth c D A 3 (MQ below (QV D (U := GS) post (mw cy a) A) args s 0 0 A) 0 0 (mw cy a S) [(0, .ref (a 0)), (1, .int x1)] 283 [.int y0] := by
  unfold w_X12_next0_B283 at h
  refine z_istore_n (lv' := [(2, .int y0), (0, .ref (a 0)), (1, .int x1)]) b dX12_next0_283 rfl (by decide) rfl ?_
  refine z_aload_n b dX12_next0_284 rfl rfl ?_
  refine z_iload_n b dX12_next0_285 rfl rfl ?_
  refine y_if_eq (tgt := 293) (xl := y0.toInt) b rfl dX12_next0_286 (by decide) (fun c1 => ?_) (fun c1 => ?_)
  · replace h := h.1 c1
    refine z_iconst (v := 1) b dX12_next0_293 (by decide) ?_
    refine z_lv0 (lv' := []) [] rfl ?_
    exact z_X12_next0_B294 b _ _ h
  · replace h := h.2 c1
    refine z_iload_n b dX12_next0_289 rfl rfl ?_
    refine z_goto (tgt := 294) b dX12_next0_290 (by decide) ?_
    refine z_lv0 (lv' := []) [] rfl ?_
    exact z_X12_next0_B294 b _ _ h

def w_X12_next0_B278 (post : GS → Prop) (S : GS) (x1 : Int32) : Prop :=
  w_X12_next0_B283 post S x1 1

set_option maxHeartbeats 4000000 in
set_option maxRecDepth 100000 in
theorem z_X12_next0_B278 {p : Program} {l : Launch} {e : Env} {R : Room} {s : State} {m : MethodId} {args : Array Value} {below : List Frame} {meth : Method} {c : Code} {D : va_G} {cy : Nat → ClassId} {T0 tB tE : Nat} {A : Nat → Prop} {a : Nat → Nat} {post : GS → Prop} (b : Bz p R s m args meth c D cy T0 tB tE A 3 cX12_next0 RX12 none "next0" 6 128 0 0) (S : GS) (x1 : Int32) (h : w_X12_next0_B278 post S x1) : Z p l e R s m args below meth c D A 3 (MQ below (QV D (U := GS) post (mw cy a) A) args s 0 0 A) 0 0 (mw cy a S) [(0, .ref (a 0)), (1, .int x1)] 278 [] := by
  unfold w_X12_next0_B278 at h
  refine z_iconst (v := 1) b dX12_next0_278 (by decide) ?_
  refine z_goto (tgt := 283) b dX12_next0_279 (by decide) ?_
  exact z_X12_next0_B283 b _ _ _ h

def w_X12_next0_B176 (post : GS → Prop) (k126 : GS → Prop) (k189 : GS → Prop) (S : GS)  : Prop :=
  k126 (si S 2 ((fi S 2) + 1))

set_option maxHeartbeats 4000000 in
set_option maxRecDepth 100000 in
theorem z_X12_next0_B176 {p : Program} {l : Launch} {e : Env} {R : Room} {s : State} {m : MethodId} {args : Array Value} {below : List Frame} {meth : Method} {c : Code} {D : va_G} {cy : Nat → ClassId} {T0 tB tE : Nat} {A : Nat → Prop} {a : Nat → Nat} {post : GS → Prop} {k126 : GS → Prop} {k189 : GS → Prop} (b : Bz p R s m args meth c D cy T0 tB tE A 3 cX12_next0 RX12 none "next0" 6 128 0 0) (hk126 : ∀ (S : GS), k126 S → Z p l e R s m args below meth c D A 3 (MQ below (QV D (U := GS) post (mw cy a) A) args s 0 0 A) 0 0 (mw cy a S) [(0, .ref (a 0))] 126 []) (hk189 : ∀ (S : GS), k189 S → Z p l e R s m args below meth c D A 3 (MQ below (QV D (U := GS) post (mw cy a) A) args s 0 0 A) 0 0 (mw cy a S) [(0, .ref (a 0))] 189 []) (S : GS)  (h : w_X12_next0_B176 post k126 k189 S ) : Z p l e R s m args below meth c D A 3 (MQ below (QV D (U := GS) post (mw cy a) A) args s 0 0 A) 0 0 (mw cy a S) [(0, .ref (a 0))] 176 [] := by
  unfold w_X12_next0_B176 at h
  refine z_aload_n b dX12_next0_176 rfl rfl ?_
  refine z_dup b dX12_next0_177 rfl ?_
  refine z_get (q0 := 0) (k9 := 26) (v := .int (fi S 2)) b (mw_0 cy a S) rfl in_X12 (by decide) wf_X12_185 rfl dX12_next0_178 ?_
  refine z_iconst (v := 1) b dX12_next0_181 (by decide) ?_
  refine z_iadd b dX12_next0_182 rfl ?_
  refine z_put (q0 := 0) (k9 := 26) tyX12 b (mw_0 cy a S) rfl in_X12 tyX12_ok nmX12 (by decide) wf_X12_185 rfl rfl rfl rfl (Nat.le_of_ble_eq_true rfl) dX12_next0_183 (mwp_0_26 cy a S ((fi S 2) + 1)) ?_
  refine z_goto (tgt := 126) b dX12_next0_186 (by decide) ?_
  exact hk126 _ h

def w_X12_next0_F126 (post : GS → Prop) (k189 : GS → Prop) (k126 : GS → Prop) (S : GS)  : Prop :=
  w_X12_see S (fi S 2) (fun r11 S12 => w_X12_isDigit S12 r11 (fun r13 S14 => ((r13.toInt = 0 → k189 S14) ∧ (r13.toInt ≠ 0 → ((((fi S14 4) + 3).toInt ≤ (fi S14 2).toInt → w_X12_next0_B176 post k126 k189 S14) ∧ ((fi S14 2).toInt < ((fi S14 4) + 3).toInt → w_X12_see S14 (fi S14 2) (fun r15 S16 => w_X12_next0_B176 post k126 k189 (si S16 5 ((((10 : Int32) * (fi S14 5)) + r15) - 48)))))))))

set_option maxHeartbeats 4000000 in
set_option maxRecDepth 100000 in
theorem z_X12_next0_F126 {p : Program} {l : Launch} {e : Env} {R : Room} {s : State} {m : MethodId} {args : Array Value} {below : List Frame} {meth : Method} {c : Code} {D : va_G} {cy : Nat → ClassId} {T0 tB tE : Nat} {A : Nat → Prop} {a : Nat → Nat} {post : GS → Prop} {k189 : GS → Prop} {k126 : GS → Prop} (b : Bz p R s m args meth c D cy T0 tB tE A 3 cX12_next0 RX12 none "next0" 6 128 0 0) (hk189 : ∀ (S : GS), k189 S → Z p l e R s m args below meth c D A 3 (MQ below (QV D (U := GS) post (mw cy a) A) args s 0 0 A) 0 0 (mw cy a S) [(0, .ref (a 0))] 189 []) (hk126 : ∀ (S : GS), k126 S → Z p l e R s m args below meth c D A 3 (MQ below (QV D (U := GS) post (mw cy a) A) args s 0 0 A) 0 0 (mw cy a S) [(0, .ref (a 0))] 126 []) (S : GS)  (h : w_X12_next0_F126 post k189 k126 S ) : Z p l e R s m args below meth c D A 3 (MQ below (QV D (U := GS) post (mw cy a) A) args s 0 0 A) 0 0 (mw cy a S) [(0, .ref (a 0))] 126 [] := by
  unfold w_X12_next0_F126 at h
  refine z_aload_n b dX12_next0_126 rfl rfl ?_
  refine z_aload_n b dX12_next0_127 rfl rfl ?_
  refine z_get (q0 := 0) (k9 := 26) (v := .int (fi S 2)) b (mw_0 cy a S) rfl in_X12 (by decide) wf_X12_185 rfl dX12_next0_128 ?_
  refine z_calli b (z_runV (q0 := 0) (As := [.int (fi S 2)]) (st := []) b (k_X12_see S (fi S 2) _ h) cf_X12_see (mw_0 cy a S) rfl wm_X12_238 wi_X12_see ws_X12_see dX12_next0_131 rfl (Nat.le_of_ble_eq_true rfl) ⟨by decide, by decide, by decide, by decide⟩) (fun r11 S12 h => ?_)
  refine z_calli b (z_runS (As := [.int r11]) (st := []) b (k_X12_isDigit S12 r11 _ h) cf_X12_isDigit wm_X12_251 ws_X12_isDigit dX12_next0_134 rfl (Nat.le_of_ble_eq_true rfl) ⟨by decide, by decide, by decide, by decide⟩) (fun r13 S14 h => ?_)
  refine y_if_eq (tgt := 189) (xl := r13.toInt) b rfl dX12_next0_137 (by decide) (fun c1 => ?_) (fun c1 => ?_)
  · replace h := h.1 c1
    exact hk189 _ h
  · replace h := h.2 c1
    refine z_aload_n b dX12_next0_140 rfl rfl ?_
    refine z_get (q0 := 0) (k9 := 26) (v := .int (fi S14 2)) b (mw_0 cy a S14) rfl in_X12 (by decide) wf_X12_185 rfl dX12_next0_141 ?_
    refine z_aload_n b dX12_next0_144 rfl rfl ?_
    refine z_get (q0 := 0) (k9 := 28) (v := .int (fi S14 4)) b (mw_0 cy a S14) rfl in_X12 (by decide) wf_X12_188 rfl dX12_next0_145 ?_
    refine z_iconst (v := 3) b dX12_next0_148 (by decide) ?_
    refine z_iadd b dX12_next0_149 rfl ?_
    refine y_icmp_ge (tgt := 176) (xl := (fi S14 2).toInt) (yl := ((fi S14 4) + 3).toInt) b rfl rfl dX12_next0_150 (by decide) (fun c1 => ?_) (fun c1 => ?_)
    · replace h := h.1 c1
      exact z_X12_next0_B176 b hk126 hk189 _ h
    · replace h := h.2 c1
      refine z_aload_n b dX12_next0_153 rfl rfl ?_
      refine z_bipush (v := 10) b dX12_next0_154 (by decide) ?_
      refine z_aload_n b dX12_next0_156 rfl rfl ?_
      refine z_get (q0 := 0) (k9 := 29) (v := .int (fi S14 5)) b (mw_0 cy a S14) rfl in_X12 (by decide) wf_X12_254 rfl dX12_next0_157 ?_
      refine z_imul b dX12_next0_160 rfl ?_
      refine z_aload_n b dX12_next0_161 rfl rfl ?_
      refine z_aload_n b dX12_next0_162 rfl rfl ?_
      refine z_get (q0 := 0) (k9 := 26) (v := .int (fi S14 2)) b (mw_0 cy a S14) rfl in_X12 (by decide) wf_X12_185 rfl dX12_next0_163 ?_
      refine z_calli b (z_runV (q0 := 0) (As := [.int (fi S14 2)]) (st := [.int ((10 : Int32) * (fi S14 5)), .ref (a 0)]) b (k_X12_see S14 (fi S14 2) _ h) cf_X12_see (mw_0 cy a S14) rfl wm_X12_238 wi_X12_see ws_X12_see dX12_next0_166 rfl (Nat.le_of_ble_eq_true rfl) ⟨by decide, by decide, by decide, by decide⟩) (fun r15 S16 h => ?_)
      refine z_iadd b dX12_next0_169 rfl ?_
      refine z_bipush (v := 48) b dX12_next0_170 (by decide) ?_
      refine z_isub b dX12_next0_172 rfl ?_
      refine z_put (q0 := 0) (k9 := 29) tyX12 b (mw_0 cy a S16) rfl in_X12 tyX12_ok nmX12 (by decide) wf_X12_254 rfl rfl rfl rfl (Nat.le_of_ble_eq_true rfl) dX12_next0_173 (mwp_0_29 cy a S16 ((((10 : Int32) * (fi S14 5)) + r15) - 48)) ?_
      exact z_X12_next0_B176 b hk126 hk189 _ h

set_option maxHeartbeats 4000000 in
set_option maxRecDepth 100000 in
theorem zl_X12_next0_L126 {p : Program} {l : Launch} {e : Env} {R : Room} {s : State} {m : MethodId} {args : Array Value} {below : List Frame} {meth : Method} {c : Code} {D : va_G} {cy : Nat → ClassId} {T0 tB tE : Nat} {A : Nat → Prop} {a : Nat → Nat} {post : GS → Prop} {k189 : GS → Prop} (b : Bz p R s m args meth c D cy T0 tB tE A 3 cX12_next0 RX12 none "next0" 6 128 0 0) (hk189 : ∀ (S : GS), k189 S → Z p l e R s m args below meth c D A 3 (MQ below (QV D (U := GS) post (mw cy a) A) args s 0 0 A) 0 0 (mw cy a S) [(0, .ref (a 0))] 189 []) : ∀ (n : Nat) (S : GS), lpn (w_X12_next0_F126 post k189) (fun _ => False) n S  → Z p l e R s m args below meth c D A 3 (MQ below (QV D (U := GS) post (mw cy a) A) args s 0 0 A) 0 0 (mw cy a S) [(0, .ref (a 0))] 126 [] := by
  intro n
  induction n with
  | zero => intro _ h; exact h.elim
  | succ n ih => intro S  h; exact z_X12_next0_F126 b hk189 ih S  h

def w_X12_next0_B208 (post : GS → Prop) (S : GS) (y0 : Int32) : Prop :=
  w_X12_next0_B297 post (si S 3 y0)

set_option maxHeartbeats 4000000 in
set_option maxRecDepth 100000 in
theorem z_X12_next0_B208 {p : Program} {l : Launch} {e : Env} {R : Room} {s : State} {m : MethodId} {args : Array Value} {below : List Frame} {meth : Method} {c : Code} {D : va_G} {cy : Nat → ClassId} {T0 tB tE : Nat} {A : Nat → Prop} {a : Nat → Nat} {post : GS → Prop} (b : Bz p R s m args meth c D cy T0 tB tE A 3 cX12_next0 RX12 none "next0" 6 128 0 0) (S : GS) (y0 : Int32) (h : w_X12_next0_B208 post S y0) : Z p l e R s m args below meth c D A 3 (MQ below (QV D (U := GS) post (mw cy a) A) args s 0 0 A) 0 0 (mw cy a S) [] 208 [.int y0, .ref (a 0)] := by
  unfold w_X12_next0_B208 at h
  refine z_put (q0 := 0) (k9 := 27) tyX12 b (mw_0 cy a S) rfl in_X12 tyX12_ok nmX12 (by decide) wf_X12_242 rfl rfl rfl rfl (Nat.le_of_ble_eq_true rfl) dX12_next0_208 (mwp_0_27 cy a S y0) ?_
  refine z_goto (tgt := 297) b dX12_next0_211 (by decide) ?_
  exact z_X12_next0_B297 b _ h

def w_X12_next0_B189 (post : GS → Prop) (S : GS)  : Prop :=
  ((4 ≤ ((fi S 2) - (fi S 4)).toInt → w_X12_next0_B208 post S 1) ∧ (((fi S 2) - (fi S 4)).toInt < 4 → w_X12_next0_B208 post S 2))

set_option maxHeartbeats 4000000 in
set_option maxRecDepth 100000 in
theorem z_X12_next0_B189 {p : Program} {l : Launch} {e : Env} {R : Room} {s : State} {m : MethodId} {args : Array Value} {below : List Frame} {meth : Method} {c : Code} {D : va_G} {cy : Nat → ClassId} {T0 tB tE : Nat} {A : Nat → Prop} {a : Nat → Nat} {post : GS → Prop} (b : Bz p R s m args meth c D cy T0 tB tE A 3 cX12_next0 RX12 none "next0" 6 128 0 0) (S : GS)  (h : w_X12_next0_B189 post S ) : Z p l e R s m args below meth c D A 3 (MQ below (QV D (U := GS) post (mw cy a) A) args s 0 0 A) 0 0 (mw cy a S) [(0, .ref (a 0))] 189 [] := by
  unfold w_X12_next0_B189 at h
  refine z_aload_n b dX12_next0_189 rfl rfl ?_
  refine z_aload_n b dX12_next0_190 rfl rfl ?_
  refine z_get (q0 := 0) (k9 := 26) (v := .int (fi S 2)) b (mw_0 cy a S) rfl in_X12 (by decide) wf_X12_185 rfl dX12_next0_191 ?_
  refine z_aload_n b dX12_next0_194 rfl rfl ?_
  refine z_get (q0 := 0) (k9 := 28) (v := .int (fi S 4)) b (mw_0 cy a S) rfl in_X12 (by decide) wf_X12_188 rfl dX12_next0_195 ?_
  refine z_isub b dX12_next0_198 rfl ?_
  refine z_iconst (v := 4) b dX12_next0_199 (by decide) ?_
  refine y_icmp_ge (tgt := 207) (xl := ((fi S 2) - (fi S 4)).toInt) (yl := 4) b rfl (by decide) dX12_next0_200 (by decide) (fun c1 => ?_) (fun c1 => ?_)
  · replace h := h.1 c1
    refine z_iconst (v := 1) b dX12_next0_207 (by decide) ?_
    refine z_lv0 (lv' := []) [] rfl ?_
    exact z_X12_next0_B208 b _ _ h
  · replace h := h.2 c1
    refine z_iconst (v := 2) b dX12_next0_203 (by decide) ?_
    refine z_goto (tgt := 208) b dX12_next0_204 (by decide) ?_
    refine z_lv0 (lv' := []) [] rfl ?_
    exact z_X12_next0_B208 b _ _ h

def w_X12_next0_F76 (post : GS → Prop) (k103 : GS → Prop) (k76 : GS → Prop) (S : GS)  : Prop :=
  w_X12_see S (fi S 2) (fun r17 S18 => w_X12_isLetter S18 r17 (fun r19 S20 => ((r19.toInt = 0 → k103 S20) ∧ (r19.toInt ≠ 0 → k76 (si S20 2 ((fi S20 2) + 1))))))

set_option maxHeartbeats 4000000 in
set_option maxRecDepth 100000 in
theorem z_X12_next0_F76 {p : Program} {l : Launch} {e : Env} {R : Room} {s : State} {m : MethodId} {args : Array Value} {below : List Frame} {meth : Method} {c : Code} {D : va_G} {cy : Nat → ClassId} {T0 tB tE : Nat} {A : Nat → Prop} {a : Nat → Nat} {post : GS → Prop} {k103 : GS → Prop} {k76 : GS → Prop} (b : Bz p R s m args meth c D cy T0 tB tE A 3 cX12_next0 RX12 none "next0" 6 128 0 0) (hk103 : ∀ (S : GS), k103 S → Z p l e R s m args below meth c D A 3 (MQ below (QV D (U := GS) post (mw cy a) A) args s 0 0 A) 0 0 (mw cy a S) [(0, .ref (a 0))] 103 []) (hk76 : ∀ (S : GS), k76 S → Z p l e R s m args below meth c D A 3 (MQ below (QV D (U := GS) post (mw cy a) A) args s 0 0 A) 0 0 (mw cy a S) [(0, .ref (a 0))] 76 []) (S : GS)  (h : w_X12_next0_F76 post k103 k76 S ) : Z p l e R s m args below meth c D A 3 (MQ below (QV D (U := GS) post (mw cy a) A) args s 0 0 A) 0 0 (mw cy a S) [(0, .ref (a 0))] 76 [] := by
  unfold w_X12_next0_F76 at h
  refine z_aload_n b dX12_next0_76 rfl rfl ?_
  refine z_aload_n b dX12_next0_77 rfl rfl ?_
  refine z_get (q0 := 0) (k9 := 26) (v := .int (fi S 2)) b (mw_0 cy a S) rfl in_X12 (by decide) wf_X12_185 rfl dX12_next0_78 ?_
  refine z_calli b (z_runV (q0 := 0) (As := [.int (fi S 2)]) (st := []) b (k_X12_see S (fi S 2) _ h) cf_X12_see (mw_0 cy a S) rfl wm_X12_238 wi_X12_see ws_X12_see dX12_next0_81 rfl (Nat.le_of_ble_eq_true rfl) ⟨by decide, by decide, by decide, by decide⟩) (fun r17 S18 h => ?_)
  refine z_calli b (z_runS (As := [.int r17]) (st := []) b (k_X12_isLetter S18 r17 _ h) cf_X12_isLetter wm_X12_245 ws_X12_isLetter dX12_next0_84 rfl (Nat.le_of_ble_eq_true rfl) ⟨by decide, by decide, by decide, by decide⟩) (fun r19 S20 h => ?_)
  refine y_if_eq (tgt := 103) (xl := r19.toInt) b rfl dX12_next0_87 (by decide) (fun c1 => ?_) (fun c1 => ?_)
  · replace h := h.1 c1
    exact hk103 _ h
  · replace h := h.2 c1
    refine z_aload_n b dX12_next0_90 rfl rfl ?_
    refine z_dup b dX12_next0_91 rfl ?_
    refine z_get (q0 := 0) (k9 := 26) (v := .int (fi S20 2)) b (mw_0 cy a S20) rfl in_X12 (by decide) wf_X12_185 rfl dX12_next0_92 ?_
    refine z_iconst (v := 1) b dX12_next0_95 (by decide) ?_
    refine z_iadd b dX12_next0_96 rfl ?_
    refine z_put (q0 := 0) (k9 := 26) tyX12 b (mw_0 cy a S20) rfl in_X12 tyX12_ok nmX12 (by decide) wf_X12_185 rfl rfl rfl rfl (Nat.le_of_ble_eq_true rfl) dX12_next0_97 (mwp_0_26 cy a S20 ((fi S20 2) + 1)) ?_
    refine z_goto (tgt := 76) b dX12_next0_100 (by decide) ?_
    exact hk76 _ h

set_option maxHeartbeats 4000000 in
set_option maxRecDepth 100000 in
theorem zl_X12_next0_L76 {p : Program} {l : Launch} {e : Env} {R : Room} {s : State} {m : MethodId} {args : Array Value} {below : List Frame} {meth : Method} {c : Code} {D : va_G} {cy : Nat → ClassId} {T0 tB tE : Nat} {A : Nat → Prop} {a : Nat → Nat} {post : GS → Prop} {k103 : GS → Prop} (b : Bz p R s m args meth c D cy T0 tB tE A 3 cX12_next0 RX12 none "next0" 6 128 0 0) (hk103 : ∀ (S : GS), k103 S → Z p l e R s m args below meth c D A 3 (MQ below (QV D (U := GS) post (mw cy a) A) args s 0 0 A) 0 0 (mw cy a S) [(0, .ref (a 0))] 103 []) : ∀ (n : Nat) (S : GS), lpn (w_X12_next0_F76 post k103) (fun _ => False) n S  → Z p l e R s m args below meth c D A 3 (MQ below (QV D (U := GS) post (mw cy a) A) args s 0 0 A) 0 0 (mw cy a S) [(0, .ref (a 0))] 76 [] := by
  intro n
  induction n with
  | zero => intro _ h; exact h.elim
  | succ n ih => intro S  h; exact z_X12_next0_F76 b hk103 ih S  h

def w_X12_next0_B103 (post : GS → Prop) (S : GS)  : Prop :=
  w_X12_word S (fun r21 S22 => w_X12_next0_B297 post (si S22 3 r21))

set_option maxHeartbeats 4000000 in
set_option maxRecDepth 100000 in
theorem z_X12_next0_B103 {p : Program} {l : Launch} {e : Env} {R : Room} {s : State} {m : MethodId} {args : Array Value} {below : List Frame} {meth : Method} {c : Code} {D : va_G} {cy : Nat → ClassId} {T0 tB tE : Nat} {A : Nat → Prop} {a : Nat → Nat} {post : GS → Prop} (b : Bz p R s m args meth c D cy T0 tB tE A 3 cX12_next0 RX12 none "next0" 6 128 0 0) (S : GS)  (h : w_X12_next0_B103 post S ) : Z p l e R s m args below meth c D A 3 (MQ below (QV D (U := GS) post (mw cy a) A) args s 0 0 A) 0 0 (mw cy a S) [(0, .ref (a 0))] 103 [] := by
  unfold w_X12_next0_B103 at h
  refine z_aload_n b dX12_next0_103 rfl rfl ?_
  refine z_aload_n b dX12_next0_104 rfl rfl ?_
  refine z_calli b (z_runV (q0 := 0) (As := []) (st := [.ref (a 0)]) b (k_X12_word S _ h) cf_X12_word (mw_0 cy a S) rfl wm_X12_248 wi_X12_word ws_X12_word dX12_next0_105 rfl (Nat.le_of_ble_eq_true rfl) ⟨by decide, by decide, by decide, by decide⟩) (fun r21 S22 h => ?_)
  refine z_put (q0 := 0) (k9 := 27) tyX12 b (mw_0 cy a S22) rfl in_X12 tyX12_ok nmX12 (by decide) wf_X12_242 rfl rfl rfl rfl (Nat.le_of_ble_eq_true rfl) dX12_next0_108 (mwp_0_27 cy a S22 r21) ?_
  refine z_goto (tgt := 297) b dX12_next0_111 (by decide) ?_
  refine z_lv0 (lv' := []) [] rfl ?_
  exact z_X12_next0_B297 b _ h

def w_X12_next0_B39 (post : GS → Prop) (S : GS)  : Prop :=
  w_X12_see (si S 4 (fi S 2)) (fi S 2) (fun r5 S6 => ((r5.toInt ≠ (-1) → w_X12_isLetter S6 r5 (fun r7 S8 => ((r7.toInt = 0 → w_X12_isDigit S8 r5 (fun r9 S10 => ((r9.toInt = 0 → ((r5.toInt = 59 → w_X12_next0_B278 post (si S10 2 ((fi S10 2) + 1)) r5) ∧ (r5.toInt ≠ 59 → ((r5.toInt = 43 → w_X12_next0_B278 post (si S10 2 ((fi S10 2) + 1)) r5) ∧ (r5.toInt ≠ 43 → ((r5.toInt = 45 → w_X12_next0_B278 post (si S10 2 ((fi S10 2) + 1)) r5) ∧ (r5.toInt ≠ 45 → ((r5.toInt = 42 → w_X12_next0_B278 post (si S10 2 ((fi S10 2) + 1)) r5) ∧ (r5.toInt ≠ 42 → ((r5.toInt = 40 → w_X12_next0_B278 post (si S10 2 ((fi S10 2) + 1)) r5) ∧ (r5.toInt ≠ 40 → ((r5.toInt = 41 → w_X12_next0_B278 post (si S10 2 ((fi S10 2) + 1)) r5) ∧ (r5.toInt ≠ 41 → ((r5.toInt = 60 → w_X12_next0_B278 post (si S10 2 ((fi S10 2) + 1)) r5) ∧ (r5.toInt ≠ 60 → ((r5.toInt = 61 → w_X12_next0_B278 post (si S10 2 ((fi S10 2) + 1)) r5) ∧ (r5.toInt ≠ 61 → ((r5.toInt ≠ 62 → w_X12_next0_B283 post (si S10 2 ((fi S10 2) + 1)) r5 0) ∧ (r5.toInt = 62 → w_X12_next0_B278 post (si S10 2 ((fi S10 2) + 1)) r5))))))))))))))))))) ∧ (r9.toInt ≠ 0 → ∃ n, lpn (w_X12_next0_F126 post (w_X12_next0_B189 post)) (fun _ => False) n (si S10 5 0))))) ∧ (r7.toInt ≠ 0 → ∃ n, lpn (w_X12_next0_F76 post (w_X12_next0_B103 post)) (fun _ => False) n S8)))) ∧ (r5.toInt = (-1) → w_X12_next0_B297 post (si S6 3 0))))

set_option maxHeartbeats 4000000 in
set_option maxRecDepth 100000 in
theorem z_X12_next0_B39 {p : Program} {l : Launch} {e : Env} {R : Room} {s : State} {m : MethodId} {args : Array Value} {below : List Frame} {meth : Method} {c : Code} {D : va_G} {cy : Nat → ClassId} {T0 tB tE : Nat} {A : Nat → Prop} {a : Nat → Nat} {post : GS → Prop} (b : Bz p R s m args meth c D cy T0 tB tE A 3 cX12_next0 RX12 none "next0" 6 128 0 0) (S : GS)  (h : w_X12_next0_B39 post S ) : Z p l e R s m args below meth c D A 3 (MQ below (QV D (U := GS) post (mw cy a) A) args s 0 0 A) 0 0 (mw cy a S) [(0, .ref (a 0))] 39 [] := by
  unfold w_X12_next0_B39 at h
  refine z_aload_n b dX12_next0_39 rfl rfl ?_
  refine z_aload_n b dX12_next0_40 rfl rfl ?_
  refine z_get (q0 := 0) (k9 := 26) (v := .int (fi S 2)) b (mw_0 cy a S) rfl in_X12 (by decide) wf_X12_185 rfl dX12_next0_41 ?_
  refine z_put (q0 := 0) (k9 := 28) tyX12 b (mw_0 cy a S) rfl in_X12 tyX12_ok nmX12 (by decide) wf_X12_188 rfl rfl rfl rfl (Nat.le_of_ble_eq_true rfl) dX12_next0_44 (mwp_0_28 cy a S (fi S 2)) ?_
  refine z_aload_n b dX12_next0_47 rfl rfl ?_
  refine z_aload_n b dX12_next0_48 rfl rfl ?_
  refine z_get (q0 := 0) (k9 := 26) (v := .int (fi S 2)) b (mw_0 cy a (si S 4 (fi S 2))) rfl in_X12 (by decide) wf_X12_185 rfl dX12_next0_49 ?_
  refine z_calli b (z_runV (q0 := 0) (As := [.int (fi S 2)]) (st := []) b (k_X12_see (si S 4 (fi S 2)) (fi S 2) _ h) cf_X12_see (mw_0 cy a (si S 4 (fi S 2))) rfl wm_X12_238 wi_X12_see ws_X12_see dX12_next0_52 rfl (Nat.le_of_ble_eq_true rfl) ⟨by decide, by decide, by decide, by decide⟩) (fun r5 S6 h => ?_)
  refine z_istore_n (lv' := [(1, .int r5), (0, .ref (a 0))]) b dX12_next0_55 rfl (by decide) rfl ?_
  refine z_iload_n b dX12_next0_56 rfl rfl ?_
  refine z_iconst (v := (-1)) b dX12_next0_57 (by decide) ?_
  refine y_icmp_ne (tgt := 69) (xl := r5.toInt) (yl := (-1)) b rfl (by decide) dX12_next0_58 (by decide) (fun c1 => ?_) (fun c1 => ?_)
  · replace h := h.1 c1
    refine z_iload_n b dX12_next0_69 rfl rfl ?_
    refine z_calli b (z_runS (As := [.int r5]) (st := []) b (k_X12_isLetter S6 r5 _ h) cf_X12_isLetter wm_X12_245 ws_X12_isLetter dX12_next0_70 rfl (Nat.le_of_ble_eq_true rfl) ⟨by decide, by decide, by decide, by decide⟩) (fun r7 S8 h => ?_)
    refine y_if_eq (tgt := 114) (xl := r7.toInt) b rfl dX12_next0_73 (by decide) (fun c1 => ?_) (fun c1 => ?_)
    · replace h := h.1 c1
      refine z_iload_n b dX12_next0_114 rfl rfl ?_
      refine z_calli b (z_runS (As := [.int r5]) (st := []) b (k_X12_isDigit S8 r5 _ h) cf_X12_isDigit wm_X12_251 ws_X12_isDigit dX12_next0_115 rfl (Nat.le_of_ble_eq_true rfl) ⟨by decide, by decide, by decide, by decide⟩) (fun r9 S10 h => ?_)
      refine y_if_eq (tgt := 214) (xl := r9.toInt) b rfl dX12_next0_118 (by decide) (fun c1 => ?_) (fun c1 => ?_)
      · replace h := h.1 c1
        refine z_aload_n b dX12_next0_214 rfl rfl ?_
        refine z_dup b dX12_next0_215 rfl ?_
        refine z_get (q0 := 0) (k9 := 26) (v := .int (fi S10 2)) b (mw_0 cy a S10) rfl in_X12 (by decide) wf_X12_185 rfl dX12_next0_216 ?_
        refine z_iconst (v := 1) b dX12_next0_219 (by decide) ?_
        refine z_iadd b dX12_next0_220 rfl ?_
        refine z_put (q0 := 0) (k9 := 26) tyX12 b (mw_0 cy a S10) rfl in_X12 tyX12_ok nmX12 (by decide) wf_X12_185 rfl rfl rfl rfl (Nat.le_of_ble_eq_true rfl) dX12_next0_221 (mwp_0_26 cy a S10 ((fi S10 2) + 1)) ?_
        refine z_iload_n b dX12_next0_224 rfl rfl ?_
        refine z_bipush (v := 59) b dX12_next0_225 (by decide) ?_
        refine y_icmp_eq (tgt := 278) (xl := r5.toInt) (yl := 59) b rfl (by decide) dX12_next0_227 (by decide) (fun c1 => ?_) (fun c1 => ?_)
        · replace h := h.1 c1
          refine z_lv0 (lv' := [(0, .ref (a 0)), (1, .int r5)]) [1, 0] rfl ?_
          exact z_X12_next0_B278 b _ _ h
        · replace h := h.2 c1
          refine z_iload_n b dX12_next0_230 rfl rfl ?_
          refine z_bipush (v := 43) b dX12_next0_231 (by decide) ?_
          refine y_icmp_eq (tgt := 278) (xl := r5.toInt) (yl := 43) b rfl (by decide) dX12_next0_233 (by decide) (fun c1 => ?_) (fun c1 => ?_)
          · replace h := h.1 c1
            refine z_lv0 (lv' := [(0, .ref (a 0)), (1, .int r5)]) [1, 0] rfl ?_
            exact z_X12_next0_B278 b _ _ h
          · replace h := h.2 c1
            refine z_iload_n b dX12_next0_236 rfl rfl ?_
            refine z_bipush (v := 45) b dX12_next0_237 (by decide) ?_
            refine y_icmp_eq (tgt := 278) (xl := r5.toInt) (yl := 45) b rfl (by decide) dX12_next0_239 (by decide) (fun c1 => ?_) (fun c1 => ?_)
            · replace h := h.1 c1
              refine z_lv0 (lv' := [(0, .ref (a 0)), (1, .int r5)]) [1, 0] rfl ?_
              exact z_X12_next0_B278 b _ _ h
            · replace h := h.2 c1
              refine z_iload_n b dX12_next0_242 rfl rfl ?_
              refine z_bipush (v := 42) b dX12_next0_243 (by decide) ?_
              refine y_icmp_eq (tgt := 278) (xl := r5.toInt) (yl := 42) b rfl (by decide) dX12_next0_245 (by decide) (fun c1 => ?_) (fun c1 => ?_)
              · replace h := h.1 c1
                refine z_lv0 (lv' := [(0, .ref (a 0)), (1, .int r5)]) [1, 0] rfl ?_
                exact z_X12_next0_B278 b _ _ h
              · replace h := h.2 c1
                refine z_iload_n b dX12_next0_248 rfl rfl ?_
                refine z_bipush (v := 40) b dX12_next0_249 (by decide) ?_
                refine y_icmp_eq (tgt := 278) (xl := r5.toInt) (yl := 40) b rfl (by decide) dX12_next0_251 (by decide) (fun c1 => ?_) (fun c1 => ?_)
                · replace h := h.1 c1
                  refine z_lv0 (lv' := [(0, .ref (a 0)), (1, .int r5)]) [1, 0] rfl ?_
                  exact z_X12_next0_B278 b _ _ h
                · replace h := h.2 c1
                  refine z_iload_n b dX12_next0_254 rfl rfl ?_
                  refine z_bipush (v := 41) b dX12_next0_255 (by decide) ?_
                  refine y_icmp_eq (tgt := 278) (xl := r5.toInt) (yl := 41) b rfl (by decide) dX12_next0_257 (by decide) (fun c1 => ?_) (fun c1 => ?_)
                  · replace h := h.1 c1
                    refine z_lv0 (lv' := [(0, .ref (a 0)), (1, .int r5)]) [1, 0] rfl ?_
                    exact z_X12_next0_B278 b _ _ h
                  · replace h := h.2 c1
                    refine z_iload_n b dX12_next0_260 rfl rfl ?_
                    refine z_bipush (v := 60) b dX12_next0_261 (by decide) ?_
                    refine y_icmp_eq (tgt := 278) (xl := r5.toInt) (yl := 60) b rfl (by decide) dX12_next0_263 (by decide) (fun c1 => ?_) (fun c1 => ?_)
                    · replace h := h.1 c1
                      refine z_lv0 (lv' := [(0, .ref (a 0)), (1, .int r5)]) [1, 0] rfl ?_
                      exact z_X12_next0_B278 b _ _ h
                    · replace h := h.2 c1
                      refine z_iload_n b dX12_next0_266 rfl rfl ?_
                      refine z_bipush (v := 61) b dX12_next0_267 (by decide) ?_
                      refine y_icmp_eq (tgt := 278) (xl := r5.toInt) (yl := 61) b rfl (by decide) dX12_next0_269 (by decide) (fun c1 => ?_) (fun c1 => ?_)
                      · replace h := h.1 c1
                        refine z_lv0 (lv' := [(0, .ref (a 0)), (1, .int r5)]) [1, 0] rfl ?_
                        exact z_X12_next0_B278 b _ _ h
                      · replace h := h.2 c1
                        refine z_iload_n b dX12_next0_272 rfl rfl ?_
                        refine z_bipush (v := 62) b dX12_next0_273 (by decide) ?_
                        refine y_icmp_ne (tgt := 282) (xl := r5.toInt) (yl := 62) b rfl (by decide) dX12_next0_275 (by decide) (fun c1 => ?_) (fun c1 => ?_)
                        · replace h := h.1 c1
                          refine z_iconst (v := 0) b dX12_next0_282 (by decide) ?_
                          refine z_lv0 (lv' := [(0, .ref (a 0)), (1, .int r5)]) [1, 0] rfl ?_
                          exact z_X12_next0_B283 b _ _ _ h
                        · replace h := h.2 c1
                          refine z_lv0 (lv' := [(0, .ref (a 0)), (1, .int r5)]) [1, 0] rfl ?_
                          exact z_X12_next0_B278 b _ _ h
      · replace h := h.2 c1
        refine z_aload_n b dX12_next0_121 rfl rfl ?_
        refine z_iconst (v := 0) b dX12_next0_122 (by decide) ?_
        refine z_put (q0 := 0) (k9 := 29) tyX12 b (mw_0 cy a S10) rfl in_X12 tyX12_ok nmX12 (by decide) wf_X12_254 rfl rfl rfl rfl (Nat.le_of_ble_eq_true rfl) dX12_next0_123 (mwp_0_29 cy a S10 0) ?_
        refine z_lv0 (lv' := [(0, .ref (a 0))]) [1] rfl ?_
        obtain ⟨n, h⟩ := h
        exact zl_X12_next0_L126 b (fun S h => z_X12_next0_B189 b _ h) n _ h
    · replace h := h.2 c1
      refine z_lv0 (lv' := [(0, .ref (a 0))]) [1] rfl ?_
      obtain ⟨n, h⟩ := h
      exact zl_X12_next0_L76 b (fun S h => z_X12_next0_B103 b _ h) n _ h
  · replace h := h.2 c1
    refine z_aload_n b dX12_next0_61 rfl rfl ?_
    refine z_iconst (v := 0) b dX12_next0_62 (by decide) ?_
    refine z_put (q0 := 0) (k9 := 27) tyX12 b (mw_0 cy a S6) rfl in_X12 tyX12_ok nmX12 (by decide) wf_X12_242 rfl rfl rfl rfl (Nat.le_of_ble_eq_true rfl) dX12_next0_63 (mwp_0_27 cy a S6 0) ?_
    refine z_goto (tgt := 297) b dX12_next0_66 (by decide) ?_
    refine z_lv0 (lv' := []) [] rfl ?_
    exact z_X12_next0_B297 b _ h

def w_X12_next0 (S : GS)  (post : GS → Prop) : Prop :=
  ∃ n, lpn (w_X12_next0_F0 post (w_X12_next0_B39 post)) (fun _ => False) n S

set_option maxHeartbeats 4000000 in
set_option maxRecDepth 100000 in
theorem k_X12_next0 {l : Launch} {D : va_G} {cy : Nat → ClassId} {T0 tB tE : Nat} {a : Nat → Nat} (S : GS)  (post : GS → Prop) (h : w_X12_next0 S  post) : Ct l D cy T0 tB tE yX12_next0 cX12_next0 3 none 6 128 0 0 (mw cy a S) [.ref (a 0)] (QV D (U := GS) post (mw cy a)) := by
  refine Ct.ofZ RX12 "next0" [(0, .ref (a 0))] rfl rfl rfl rfl (Nat.le_of_ble_eq_true rfl) ?_
  intro p e R s m args below meth c A b
  unfold w_X12_next0 at h
  obtain ⟨n, h⟩ := h
  exact zl_X12_next0_L0 b (fun S h => z_X12_next0_B39 b _ h) n _ h

def w_X12_lay (S : GS) (p0 : Int32) (p1 : Int32) (post : GS → Prop) : Prop :=
  (0 ≤ ((18720 : Int32) + ((2 : Int32) * ((ar S 6) 13))).toInt ∧ ((18720 : Int32) + ((2 : Int32) * ((ar S 6) 13))).toInt < 20160) ∧ (0 ≤ (((18720 : Int32) + ((2 : Int32) * ((ar S 6) 13))) + 1).toInt ∧ (((18720 : Int32) + ((2 : Int32) * ((ar S 6) 13))) + 1).toInt < 20160) ∧ post (su (su (su S 5 (((18720 : Int32) + ((2 : Int32) * ((ar S 6) 13))).toNatClampNeg) p0) 5 ((((18720 : Int32) + ((2 : Int32) * ((ar S 6) 13))) + 1).toNatClampNeg) p1) 6 13 (((ar S 6) 13) + 1))

set_option maxHeartbeats 4000000 in
set_option maxRecDepth 100000 in
theorem k_X12_lay {l : Launch} {D : va_G} {cy : Nat → ClassId} {T0 tB tE : Nat} {a : Nat → Nat} (S : GS) (p0 : Int32) (p1 : Int32) (post : GS → Prop) (h : w_X12_lay S p0 p1 post) : Ct l D cy T0 tB tE yX12_lay cX12_lay 3 none 0 0 0 0 (mw cy a S) [.ref (a 0), .int p0, .int p1] (QV D (U := GS) post (mw cy a)) := by
  refine Ct.ofZ RX12 "lay" [(0, .ref (a 0)), (1, .int p0), (2, .int p1)] rfl rfl rfl rfl (Nat.le_of_ble_eq_true rfl) ?_
  intro p e R s m args below meth c A b
  unfold w_X12_lay at h
  refine z_aload_n b dX12_lay_0 rfl rfl ?_
  refine z_get (q0 := 0) (k9 := 7) (v := .ref (a 6)) b (mw_0 cy a S) rfl in_X12 (by decide) wf_X12_30 rfl dX12_lay_1 ?_
  refine z_sipush (v := 18720) b dX12_lay_4 (by decide) ?_
  refine z_iconst (v := 2) b dX12_lay_7 (by decide) ?_
  refine z_aload_n b dX12_lay_8 rfl rfl ?_
  refine z_get (q0 := 0) (k9 := 8) (v := .ref (a 7)) b (mw_0 cy a S) rfl in_X12 (by decide) wf_X12_33 rfl dX12_lay_9 ?_
  refine z_bipush (v := 13) b dX12_lay_12 (by decide) ?_
  refine y_iald (q0 := 7) (j := 13) (v := ((ar S 6) 13)) b (mw_7 cy a S) (by decide) rfl dX12_lay_14 ?_
  refine z_imul b dX12_lay_15 rfl ?_
  refine z_iadd b dX12_lay_16 rfl ?_
  refine z_iload_n b dX12_lay_17 rfl rfl ?_
  obtain ⟨g1, h⟩ := h
  refine y_iast (q0 := 6) (j := ((18720 : Int32) + ((2 : Int32) * ((ar S 6) 13))).toNatClampNeg) b (mw_6 cy a S) (zx_r g1.1 g1.2) dX12_lay_18 (mwa_6 cy a S (((18720 : Int32) + ((2 : Int32) * ((ar S 6) 13))).toNatClampNeg) p0) ?_
  refine z_aload_n b dX12_lay_19 rfl rfl ?_
  refine z_get (q0 := 0) (k9 := 7) (v := .ref (a 6)) b (mw_0 cy a (su S 5 (((18720 : Int32) + ((2 : Int32) * ((ar S 6) 13))).toNatClampNeg) p0)) rfl in_X12 (by decide) wf_X12_30 rfl dX12_lay_20 ?_
  refine z_sipush (v := 18720) b dX12_lay_23 (by decide) ?_
  refine z_iconst (v := 2) b dX12_lay_26 (by decide) ?_
  refine z_aload_n b dX12_lay_27 rfl rfl ?_
  refine z_get (q0 := 0) (k9 := 8) (v := .ref (a 7)) b (mw_0 cy a (su S 5 (((18720 : Int32) + ((2 : Int32) * ((ar S 6) 13))).toNatClampNeg) p0)) rfl in_X12 (by decide) wf_X12_33 rfl dX12_lay_28 ?_
  refine z_bipush (v := 13) b dX12_lay_31 (by decide) ?_
  refine y_iald (q0 := 7) (j := 13) (v := ((ar S 6) 13)) b (mw_7 cy a (su S 5 (((18720 : Int32) + ((2 : Int32) * ((ar S 6) 13))).toNatClampNeg) p0)) (by decide) rfl dX12_lay_33 ?_
  refine z_imul b dX12_lay_34 rfl ?_
  refine z_iadd b dX12_lay_35 rfl ?_
  refine z_iconst (v := 1) b dX12_lay_36 (by decide) ?_
  refine z_iadd b dX12_lay_37 rfl ?_
  refine z_iload_n b dX12_lay_38 rfl rfl ?_
  obtain ⟨g2, h⟩ := h
  refine y_iast (q0 := 6) (j := (((18720 : Int32) + ((2 : Int32) * ((ar S 6) 13))) + 1).toNatClampNeg) b (mw_6 cy a (su S 5 (((18720 : Int32) + ((2 : Int32) * ((ar S 6) 13))).toNatClampNeg) p0)) (zx_r g2.1 g2.2) dX12_lay_39 (mwa_6 cy a (su S 5 (((18720 : Int32) + ((2 : Int32) * ((ar S 6) 13))).toNatClampNeg) p0) ((((18720 : Int32) + ((2 : Int32) * ((ar S 6) 13))) + 1).toNatClampNeg) p1) ?_
  refine z_aload_n b dX12_lay_40 rfl rfl ?_
  refine z_get (q0 := 0) (k9 := 8) (v := .ref (a 7)) b (mw_0 cy a (su (su S 5 (((18720 : Int32) + ((2 : Int32) * ((ar S 6) 13))).toNatClampNeg) p0) 5 ((((18720 : Int32) + ((2 : Int32) * ((ar S 6) 13))) + 1).toNatClampNeg) p1)) rfl in_X12 (by decide) wf_X12_33 rfl dX12_lay_41 ?_
  refine z_bipush (v := 13) b dX12_lay_44 (by decide) ?_
  refine z_dup2 b dX12_lay_46 rfl rfl ?_
  refine y_iald (q0 := 7) (j := 13) (v := ((ar S 6) 13)) b (mw_7 cy a (su (su S 5 (((18720 : Int32) + ((2 : Int32) * ((ar S 6) 13))).toNatClampNeg) p0) 5 ((((18720 : Int32) + ((2 : Int32) * ((ar S 6) 13))) + 1).toNatClampNeg) p1)) (by decide) rfl dX12_lay_47 ?_
  refine z_iconst (v := 1) b dX12_lay_48 (by decide) ?_
  refine z_iadd b dX12_lay_49 rfl ?_
  refine y_iast (q0 := 7) (j := 13) b (mw_7 cy a (su (su S 5 (((18720 : Int32) + ((2 : Int32) * ((ar S 6) 13))).toNatClampNeg) p0) 5 ((((18720 : Int32) + ((2 : Int32) * ((ar S 6) 13))) + 1).toNatClampNeg) p1)) (by decide) dX12_lay_50 (mwa_7 cy a (su (su S 5 (((18720 : Int32) + ((2 : Int32) * ((ar S 6) 13))).toNatClampNeg) p0) 5 ((((18720 : Int32) + ((2 : Int32) * ((ar S 6) 13))) + 1).toNatClampNeg) p1) 13 (((ar S 6) 13) + 1)) ?_
  exact z_vret (u := (su (su (su S 5 (((18720 : Int32) + ((2 : Int32) * ((ar S 6) 13))).toNatClampNeg) p0) 5 ((((18720 : Int32) + ((2 : Int32) * ((ar S 6) 13))) + 1).toNatClampNeg) p1) 6 13 (((ar S 6) 13) + 1))) b rfl dX12_lay_51 h rfl (by decide) (by decide)

def w_X12_every_F9 (sg : GS → (Int32 → GS → Prop) → Prop) (post : Int32 → GS → Prop) (k42 : GS → Prop) (k9 : GS → Prop) (S : GS)  : Prop :=
  (((fi S 3).toInt ≠ 313 → k42 S) ∧ ((fi S 3).toInt = 313 → w_X12_next0 S (fun S4 => sg S4 (fun r5 S6 => ((r5.toInt ≠ 0 → w_X12_lay S6 15 0 (fun S8 => k9 S8)) ∧ (r5.toInt = 0 → post 0 S6))))))

set_option maxHeartbeats 4000000 in
set_option maxRecDepth 100000 in
theorem z_X12_every_F9 {p : Program} {l : Launch} {e : Env} {R : Room} {s : State} {m : MethodId} {args : Array Value} {below : List Frame} {meth : Method} {c : Code} {D : va_G} {cy : Nat → ClassId} {T0 tB tE : Nat} {A : Nat → Prop} {a : Nat → Nat} {d : Nat} {sg : GS → (Int32 → GS → Prop) → Prop} (hsg : ∀ (S : GS) (post : Int32 → GS → Prop), sg S post → Ct l D cy T0 tB tE yX12_single cX12_single 2 (some .boolean) (12 + 3 * d) (254 + 61 * d) 0 0 (mw cy a S) [.ref (a 0)] (QI D (U := GS) post (mw cy a))) {post : Int32 → GS → Prop} {k42 : GS → Prop} {k9 : GS → Prop} (b : Bz p R s m args meth c D cy T0 tB tE A 1 cX12_every RX12 (some .boolean) "every" (12 + 3 * d + 1) (254 + 61 * d + 21) 0 0) (hk42 : ∀ (S : GS), k42 S → Z p l e R s m args below meth c D A 1 (MQ below (QI D (U := GS) post (mw cy a) A) args s 0 0 A) 0 0 (mw cy a S) [] 42 []) (hk9 : ∀ (S : GS), k9 S → Z p l e R s m args below meth c D A 1 (MQ below (QI D (U := GS) post (mw cy a) A) args s 0 0 A) 0 0 (mw cy a S) [(0, .ref (a 0))] 9 []) (S : GS)  (h : w_X12_every_F9 sg post k42 k9 S ) : Z p l e R s m args below meth c D A 1 (MQ below (QI D (U := GS) post (mw cy a) A) args s 0 0 A) 0 0 (mw cy a S) [(0, .ref (a 0))] 9 [] := by
  unfold w_X12_every_F9 at h
  refine z_aload_n b dX12_every_9 rfl rfl ?_
  refine z_get (q0 := 0) (k9 := 27) (v := .int (fi S 3)) b (mw_0 cy a S) rfl in_X12 (by decide) wf_X12_242 rfl dX12_every_10 ?_
  refine z_sipush (v := 313) b dX12_every_13 (by decide) ?_
  refine y_icmp_ne (tgt := 42) (xl := (fi S 3).toInt) (yl := 313) b rfl (by decide) dX12_every_16 (by decide) (fun c1 => ?_) (fun c1 => ?_)
  · replace h := h.1 c1
    refine z_lv0 (lv' := []) [] rfl ?_
    exact hk42 _ h
  · replace h := h.2 c1
    refine z_aload_n b dX12_every_19 rfl rfl ?_
    refine z_callv b (z_runV (q0 := 0) (As := []) (st := []) b (k_X12_next0 S _ h) cf_X12_next0 (mw_0 cy a S) rfl wm_X12_266 wi_X12_next0 ws_X12_next0 dX12_every_20 rfl (Nat.le_of_ble_eq_true rfl) ⟨by omega, by omega, by decide, by decide⟩) (fun S4 h => ?_)
    refine z_aload_n b dX12_every_23 rfl rfl ?_
    refine z_calli b (z_runV (q0 := 0) (As := []) (st := []) b (hsg S4 _ h) cf_X12_single (mw_0 cy a S4) rfl wm_X12_304 wi_X12_single ws_X12_single dX12_every_24 rfl (Nat.le_of_ble_eq_true rfl) ⟨by omega, by omega, by decide, by decide⟩) (fun r5 S6 h => ?_)
    refine y_if_ne (tgt := 32) (xl := r5.toInt) b rfl dX12_every_27 (by decide) (fun c1 => ?_) (fun c1 => ?_)
    · replace h := h.1 c1
      refine z_aload_n b dX12_every_32 rfl rfl ?_
      refine z_bipush (v := 15) b dX12_every_33 (by decide) ?_
      refine z_iconst (v := 0) b dX12_every_35 (by decide) ?_
      refine z_callv b (z_runV (q0 := 0) (As := [.int 15, .int 0]) (st := []) b (k_X12_lay S6 15 0 _ h) cf_X12_lay (mw_0 cy a S6) rfl wm_X12_288 wi_X12_lay ws_X12_lay dX12_every_36 rfl (Nat.le_of_ble_eq_true rfl) ⟨by omega, by omega, by decide, by decide⟩) (fun S8 h => ?_)
      refine z_goto (tgt := 9) b dX12_every_39 (by decide) ?_
      exact hk9 _ h
    · replace h := h.2 c1
      refine z_iconst (v := 0) b dX12_every_30 (by decide) ?_
      exact z_zret (u := S6) b rfl (by decide) dX12_every_31 h rfl (by decide) (by decide)

set_option maxHeartbeats 4000000 in
set_option maxRecDepth 100000 in
theorem zl_X12_every_L9 {p : Program} {l : Launch} {e : Env} {R : Room} {s : State} {m : MethodId} {args : Array Value} {below : List Frame} {meth : Method} {c : Code} {D : va_G} {cy : Nat → ClassId} {T0 tB tE : Nat} {A : Nat → Prop} {a : Nat → Nat} {d : Nat} {sg : GS → (Int32 → GS → Prop) → Prop} (hsg : ∀ (S : GS) (post : Int32 → GS → Prop), sg S post → Ct l D cy T0 tB tE yX12_single cX12_single 2 (some .boolean) (12 + 3 * d) (254 + 61 * d) 0 0 (mw cy a S) [.ref (a 0)] (QI D (U := GS) post (mw cy a))) {post : Int32 → GS → Prop} {k42 : GS → Prop} (b : Bz p R s m args meth c D cy T0 tB tE A 1 cX12_every RX12 (some .boolean) "every" (12 + 3 * d + 1) (254 + 61 * d + 21) 0 0) (hk42 : ∀ (S : GS), k42 S → Z p l e R s m args below meth c D A 1 (MQ below (QI D (U := GS) post (mw cy a) A) args s 0 0 A) 0 0 (mw cy a S) [] 42 []) : ∀ (n : Nat) (S : GS), lpn (w_X12_every_F9 sg post k42) (fun _ => False) n S  → Z p l e R s m args below meth c D A 1 (MQ below (QI D (U := GS) post (mw cy a) A) args s 0 0 A) 0 0 (mw cy a S) [(0, .ref (a 0))] 9 [] := by
  intro n
  induction n with
  | zero => intro _ h; exact h.elim
  | succ n ih => intro S  h; exact z_X12_every_F9 hsg b hk42 ih S  h

def w_X12_every_B42 (sg : GS → (Int32 → GS → Prop) → Prop) (post : Int32 → GS → Prop) (S : GS)  : Prop :=
  post 1 S

set_option maxHeartbeats 4000000 in
set_option maxRecDepth 100000 in
theorem z_X12_every_B42 {p : Program} {l : Launch} {e : Env} {R : Room} {s : State} {m : MethodId} {args : Array Value} {below : List Frame} {meth : Method} {c : Code} {D : va_G} {cy : Nat → ClassId} {T0 tB tE : Nat} {A : Nat → Prop} {a : Nat → Nat} {d : Nat} {sg : GS → (Int32 → GS → Prop) → Prop} (hsg : ∀ (S : GS) (post : Int32 → GS → Prop), sg S post → Ct l D cy T0 tB tE yX12_single cX12_single 2 (some .boolean) (12 + 3 * d) (254 + 61 * d) 0 0 (mw cy a S) [.ref (a 0)] (QI D (U := GS) post (mw cy a))) {post : Int32 → GS → Prop} (b : Bz p R s m args meth c D cy T0 tB tE A 1 cX12_every RX12 (some .boolean) "every" (12 + 3 * d + 1) (254 + 61 * d + 21) 0 0) (S : GS)  (h : w_X12_every_B42 sg post S ) : Z p l e R s m args below meth c D A 1 (MQ below (QI D (U := GS) post (mw cy a) A) args s 0 0 A) 0 0 (mw cy a S) [] 42 [] := by
  unfold w_X12_every_B42 at h
  refine z_iconst (v := 1) b dX12_every_42 (by decide) ?_
  exact z_zret (u := S) b rfl (by decide) dX12_every_43 h rfl (by decide) (by decide)

def w_X12_every_R (sg : GS → (Int32 → GS → Prop) → Prop) (S : GS)  (post : Int32 → GS → Prop) : Prop :=
  sg S (fun r1 S2 => ((r1.toInt ≠ 0 → ∃ n, lpn (w_X12_every_F9 sg post (w_X12_every_B42 sg post)) (fun _ => False) n S2) ∧ (r1.toInt = 0 → post 0 S2)))

set_option maxHeartbeats 4000000 in
set_option maxRecDepth 100000 in
theorem k_X12_every_R {l : Launch} {D : va_G} {cy : Nat → ClassId} {T0 tB tE : Nat} {a : Nat → Nat} {d : Nat} {sg : GS → (Int32 → GS → Prop) → Prop} (hsg : ∀ (S : GS) (post : Int32 → GS → Prop), sg S post → Ct l D cy T0 tB tE yX12_single cX12_single 2 (some .boolean) (12 + 3 * d) (254 + 61 * d) 0 0 (mw cy a S) [.ref (a 0)] (QI D (U := GS) post (mw cy a))) (S : GS)  (post : Int32 → GS → Prop) (h : w_X12_every_R sg S  post) : Ct l D cy T0 tB tE yX12_every cX12_every 1 (some .boolean) (12 + 3 * d + 1) (254 + 61 * d + 21) 0 0 (mw cy a S) [.ref (a 0)] (QI D (U := GS) post (mw cy a)) := by
  refine Ct.ofZ RX12 "every" [(0, .ref (a 0))] rfl rfl rfl rfl (Nat.le_of_ble_eq_true rfl) ?_
  intro p e R s m args below meth c A b
  unfold w_X12_every_R at h
  refine z_aload_n b dX12_every_0 rfl rfl ?_
  refine z_calli b (z_runV (q0 := 0) (As := []) (st := []) b (hsg S _ h) cf_X12_single (mw_0 cy a S) rfl wm_X12_304 wi_X12_single ws_X12_single dX12_every_1 rfl (Nat.le_of_ble_eq_true rfl) ⟨by omega, by omega, by decide, by decide⟩) (fun r1 S2 h => ?_)
  refine y_if_ne (tgt := 9) (xl := r1.toInt) b rfl dX12_every_4 (by decide) (fun c1 => ?_) (fun c1 => ?_)
  · replace h := h.1 c1
    obtain ⟨n, h⟩ := h
    exact zl_X12_every_L9 hsg b (fun S h => z_X12_every_B42 hsg b _ h) n _ h
  · replace h := h.2 c1
    refine z_iconst (v := 0) b dX12_every_7 (by decide) ?_
    exact z_zret (u := S2) b rfl (by decide) dX12_every_8 h rfl (by decide) (by decide)

def w_X12_any_F9 (sg : GS → (Int32 → GS → Prop) → Prop) (post : Int32 → GS → Prop) (k42 : GS → Prop) (k9 : GS → Prop) (S : GS)  : Prop :=
  (((fi S 3).toInt ≠ 312 → k42 S) ∧ ((fi S 3).toInt = 312 → w_X12_next0 S (fun S4 => w_X12_every_R sg S4 (fun r5 S6 => ((r5.toInt ≠ 0 → w_X12_lay S6 16 0 (fun S8 => k9 S8)) ∧ (r5.toInt = 0 → post 0 S6))))))

set_option maxHeartbeats 4000000 in
set_option maxRecDepth 100000 in
theorem z_X12_any_F9 {p : Program} {l : Launch} {e : Env} {R : Room} {s : State} {m : MethodId} {args : Array Value} {below : List Frame} {meth : Method} {c : Code} {D : va_G} {cy : Nat → ClassId} {T0 tB tE : Nat} {A : Nat → Prop} {a : Nat → Nat} {d : Nat} {sg : GS → (Int32 → GS → Prop) → Prop} (hsg : ∀ (S : GS) (post : Int32 → GS → Prop), sg S post → Ct l D cy T0 tB tE yX12_single cX12_single 2 (some .boolean) (12 + 3 * d) (254 + 61 * d) 0 0 (mw cy a S) [.ref (a 0)] (QI D (U := GS) post (mw cy a))) {post : Int32 → GS → Prop} {k42 : GS → Prop} {k9 : GS → Prop} (b : Bz p R s m args meth c D cy T0 tB tE A 1 cX12_any RX12 (some .boolean) "any" (12 + 3 * d + 2) (254 + 61 * d + 41) 0 0) (hk42 : ∀ (S : GS), k42 S → Z p l e R s m args below meth c D A 1 (MQ below (QI D (U := GS) post (mw cy a) A) args s 0 0 A) 0 0 (mw cy a S) [] 42 []) (hk9 : ∀ (S : GS), k9 S → Z p l e R s m args below meth c D A 1 (MQ below (QI D (U := GS) post (mw cy a) A) args s 0 0 A) 0 0 (mw cy a S) [(0, .ref (a 0))] 9 []) (S : GS)  (h : w_X12_any_F9 sg post k42 k9 S ) : Z p l e R s m args below meth c D A 1 (MQ below (QI D (U := GS) post (mw cy a) A) args s 0 0 A) 0 0 (mw cy a S) [(0, .ref (a 0))] 9 [] := by
  unfold w_X12_any_F9 at h
  refine z_aload_n b dX12_any_9 rfl rfl ?_
  refine z_get (q0 := 0) (k9 := 27) (v := .int (fi S 3)) b (mw_0 cy a S) rfl in_X12 (by decide) wf_X12_242 rfl dX12_any_10 ?_
  refine z_sipush (v := 312) b dX12_any_13 (by decide) ?_
  refine y_icmp_ne (tgt := 42) (xl := (fi S 3).toInt) (yl := 312) b rfl (by decide) dX12_any_16 (by decide) (fun c1 => ?_) (fun c1 => ?_)
  · replace h := h.1 c1
    refine z_lv0 (lv' := []) [] rfl ?_
    exact hk42 _ h
  · replace h := h.2 c1
    refine z_aload_n b dX12_any_19 rfl rfl ?_
    refine z_callv b (z_runV (q0 := 0) (As := []) (st := []) b (k_X12_next0 S _ h) cf_X12_next0 (mw_0 cy a S) rfl wm_X12_266 wi_X12_next0 ws_X12_next0 dX12_any_20 rfl (Nat.le_of_ble_eq_true rfl) ⟨by omega, by omega, by decide, by decide⟩) (fun S4 h => ?_)
    refine z_aload_n b dX12_any_23 rfl rfl ?_
    refine z_calli b (z_runV (q0 := 0) (As := []) (st := []) b (k_X12_every_R hsg S4 _ h) cf_X12_every (mw_0 cy a S4) rfl wm_X12_301 wi_X12_every ws_X12_every dX12_any_24 rfl (Nat.le_of_ble_eq_true rfl) ⟨by omega, by omega, by decide, by decide⟩) (fun r5 S6 h => ?_)
    refine y_if_ne (tgt := 32) (xl := r5.toInt) b rfl dX12_any_27 (by decide) (fun c1 => ?_) (fun c1 => ?_)
    · replace h := h.1 c1
      refine z_aload_n b dX12_any_32 rfl rfl ?_
      refine z_bipush (v := 16) b dX12_any_33 (by decide) ?_
      refine z_iconst (v := 0) b dX12_any_35 (by decide) ?_
      refine z_callv b (z_runV (q0 := 0) (As := [.int 16, .int 0]) (st := []) b (k_X12_lay S6 16 0 _ h) cf_X12_lay (mw_0 cy a S6) rfl wm_X12_288 wi_X12_lay ws_X12_lay dX12_any_36 rfl (Nat.le_of_ble_eq_true rfl) ⟨by omega, by omega, by decide, by decide⟩) (fun S8 h => ?_)
      refine z_goto (tgt := 9) b dX12_any_39 (by decide) ?_
      exact hk9 _ h
    · replace h := h.2 c1
      refine z_iconst (v := 0) b dX12_any_30 (by decide) ?_
      exact z_zret (u := S6) b rfl (by decide) dX12_any_31 h rfl (by decide) (by decide)

set_option maxHeartbeats 4000000 in
set_option maxRecDepth 100000 in
theorem zl_X12_any_L9 {p : Program} {l : Launch} {e : Env} {R : Room} {s : State} {m : MethodId} {args : Array Value} {below : List Frame} {meth : Method} {c : Code} {D : va_G} {cy : Nat → ClassId} {T0 tB tE : Nat} {A : Nat → Prop} {a : Nat → Nat} {d : Nat} {sg : GS → (Int32 → GS → Prop) → Prop} (hsg : ∀ (S : GS) (post : Int32 → GS → Prop), sg S post → Ct l D cy T0 tB tE yX12_single cX12_single 2 (some .boolean) (12 + 3 * d) (254 + 61 * d) 0 0 (mw cy a S) [.ref (a 0)] (QI D (U := GS) post (mw cy a))) {post : Int32 → GS → Prop} {k42 : GS → Prop} (b : Bz p R s m args meth c D cy T0 tB tE A 1 cX12_any RX12 (some .boolean) "any" (12 + 3 * d + 2) (254 + 61 * d + 41) 0 0) (hk42 : ∀ (S : GS), k42 S → Z p l e R s m args below meth c D A 1 (MQ below (QI D (U := GS) post (mw cy a) A) args s 0 0 A) 0 0 (mw cy a S) [] 42 []) : ∀ (n : Nat) (S : GS), lpn (w_X12_any_F9 sg post k42) (fun _ => False) n S  → Z p l e R s m args below meth c D A 1 (MQ below (QI D (U := GS) post (mw cy a) A) args s 0 0 A) 0 0 (mw cy a S) [(0, .ref (a 0))] 9 [] := by
  intro n
  induction n with
  | zero => intro _ h; exact h.elim
  | succ n ih => intro S  h; exact z_X12_any_F9 hsg b hk42 ih S  h

def w_X12_any_B42 (sg : GS → (Int32 → GS → Prop) → Prop) (post : Int32 → GS → Prop) (S : GS)  : Prop :=
  post 1 S

set_option maxHeartbeats 4000000 in
set_option maxRecDepth 100000 in
theorem z_X12_any_B42 {p : Program} {l : Launch} {e : Env} {R : Room} {s : State} {m : MethodId} {args : Array Value} {below : List Frame} {meth : Method} {c : Code} {D : va_G} {cy : Nat → ClassId} {T0 tB tE : Nat} {A : Nat → Prop} {a : Nat → Nat} {d : Nat} {sg : GS → (Int32 → GS → Prop) → Prop} (hsg : ∀ (S : GS) (post : Int32 → GS → Prop), sg S post → Ct l D cy T0 tB tE yX12_single cX12_single 2 (some .boolean) (12 + 3 * d) (254 + 61 * d) 0 0 (mw cy a S) [.ref (a 0)] (QI D (U := GS) post (mw cy a))) {post : Int32 → GS → Prop} (b : Bz p R s m args meth c D cy T0 tB tE A 1 cX12_any RX12 (some .boolean) "any" (12 + 3 * d + 2) (254 + 61 * d + 41) 0 0) (S : GS)  (h : w_X12_any_B42 sg post S ) : Z p l e R s m args below meth c D A 1 (MQ below (QI D (U := GS) post (mw cy a) A) args s 0 0 A) 0 0 (mw cy a S) [] 42 [] := by
  unfold w_X12_any_B42 at h
  refine z_iconst (v := 1) b dX12_any_42 (by decide) ?_
  exact z_zret (u := S) b rfl (by decide) dX12_any_43 h rfl (by decide) (by decide)

def w_X12_any_R (sg : GS → (Int32 → GS → Prop) → Prop) (S : GS)  (post : Int32 → GS → Prop) : Prop :=
  w_X12_every_R sg S (fun r1 S2 => ((r1.toInt ≠ 0 → ∃ n, lpn (w_X12_any_F9 sg post (w_X12_any_B42 sg post)) (fun _ => False) n S2) ∧ (r1.toInt = 0 → post 0 S2)))

set_option maxHeartbeats 4000000 in
set_option maxRecDepth 100000 in
theorem k_X12_any_R {l : Launch} {D : va_G} {cy : Nat → ClassId} {T0 tB tE : Nat} {a : Nat → Nat} {d : Nat} {sg : GS → (Int32 → GS → Prop) → Prop} (hsg : ∀ (S : GS) (post : Int32 → GS → Prop), sg S post → Ct l D cy T0 tB tE yX12_single cX12_single 2 (some .boolean) (12 + 3 * d) (254 + 61 * d) 0 0 (mw cy a S) [.ref (a 0)] (QI D (U := GS) post (mw cy a))) (S : GS)  (post : Int32 → GS → Prop) (h : w_X12_any_R sg S  post) : Ct l D cy T0 tB tE yX12_any cX12_any 1 (some .boolean) (12 + 3 * d + 2) (254 + 61 * d + 41) 0 0 (mw cy a S) [.ref (a 0)] (QI D (U := GS) post (mw cy a)) := by
  refine Ct.ofZ RX12 "any" [(0, .ref (a 0))] rfl rfl rfl rfl (Nat.le_of_ble_eq_true rfl) ?_
  intro p e R s m args below meth c A b
  unfold w_X12_any_R at h
  refine z_aload_n b dX12_any_0 rfl rfl ?_
  refine z_calli b (z_runV (q0 := 0) (As := []) (st := []) b (k_X12_every_R hsg S _ h) cf_X12_every (mw_0 cy a S) rfl wm_X12_301 wi_X12_every ws_X12_every dX12_any_1 rfl (Nat.le_of_ble_eq_true rfl) ⟨by omega, by omega, by decide, by decide⟩) (fun r1 S2 h => ?_)
  refine y_if_ne (tgt := 9) (xl := r1.toInt) b rfl dX12_any_4 (by decide) (fun c1 => ?_) (fun c1 => ?_)
  · replace h := h.1 c1
    obtain ⟨n, h⟩ := h
    exact zl_X12_any_L9 hsg b (fun S h => z_X12_any_B42 hsg b _ h) n _ h
  · replace h := h.2 c1
    refine z_iconst (v := 0) b dX12_any_7 (by decide) ?_
    exact z_zret (u := S2) b rfl (by decide) dX12_any_8 h rfl (by decide) (by decide)

def w_X12_bad (S : GS) (p0 : Int32) (post : Int32 → GS → Prop) : Prop :=
  post 0 (si (si S 6 p0) 7 (fi S 4))

set_option maxHeartbeats 4000000 in
set_option maxRecDepth 100000 in
theorem k_X12_bad {l : Launch} {D : va_G} {cy : Nat → ClassId} {T0 tB tE : Nat} {a : Nat → Nat} (S : GS) (p0 : Int32) (post : Int32 → GS → Prop) (h : w_X12_bad S p0 post) : Ct l D cy T0 tB tE yX12_bad cX12_bad 2 (some .boolean) 0 0 0 0 (mw cy a S) [.ref (a 0), .int p0] (QI D (U := GS) post (mw cy a)) := by
  refine Ct.ofZ RX12 "bad" [(0, .ref (a 0)), (1, .int p0)] rfl rfl rfl rfl (Nat.le_of_ble_eq_true rfl) ?_
  intro p e R s m args below meth c A b
  unfold w_X12_bad at h
  refine z_aload_n b dX12_bad_0 rfl rfl ?_
  refine z_iload_n b dX12_bad_1 rfl rfl ?_
  refine z_put (q0 := 0) (k9 := 30) tyX12 b (mw_0 cy a S) rfl in_X12 tyX12_ok nmX12 (by decide) wf_X12_257 rfl rfl rfl rfl (Nat.le_of_ble_eq_true rfl) dX12_bad_2 (mwp_0_30 cy a S p0) ?_
  refine z_aload_n b dX12_bad_5 rfl rfl ?_
  refine z_aload_n b dX12_bad_6 rfl rfl ?_
  refine z_get (q0 := 0) (k9 := 28) (v := .int (fi S 4)) b (mw_0 cy a (si S 6 p0)) rfl in_X12 (by decide) wf_X12_188 rfl dX12_bad_7 ?_
  refine z_put (q0 := 0) (k9 := 31) tyX12 b (mw_0 cy a (si S 6 p0)) rfl in_X12 tyX12_ok nmX12 (by decide) wf_X12_260 rfl rfl rfl rfl (Nat.le_of_ble_eq_true rfl) dX12_bad_10 (mwp_0_31 cy a (si S 6 p0) (fi S 4)) ?_
  refine z_iconst (v := 0) b dX12_bad_13 (by decide) ?_
  exact z_zret (u := (si (si S 6 p0) 7 (fi S 4))) b rfl (by decide) dX12_bad_14 h rfl (by decide) (by decide)

def w_X12_person_B59 (post : Int32 → GS → Prop) (S : GS) (y0 : Int32) : Prop :=
  (y0 = 0 ∨ y0 = 1) ∧ w_X12_next0 (si S 14 y0) (fun S3 => post 1 S3)

set_option maxHeartbeats 4000000 in
set_option maxRecDepth 100000 in
theorem z_X12_person_B59 {p : Program} {l : Launch} {e : Env} {R : Room} {s : State} {m : MethodId} {args : Array Value} {below : List Frame} {meth : Method} {c : Code} {D : va_G} {cy : Nat → ClassId} {T0 tB tE : Nat} {A : Nat → Prop} {a : Nat → Nat} {post : Int32 → GS → Prop} (b : Bz p R s m args meth c D cy T0 tB tE A 1 cX12_person RX12 (some .boolean) "person" 7 150 0 0) (S : GS) (y0 : Int32) (h : w_X12_person_B59 post S y0) : Z p l e R s m args below meth c D A 1 (MQ below (QI D (U := GS) post (mw cy a) A) args s 0 0 A) 0 0 (mw cy a S) [(0, .ref (a 0))] 59 [.int y0, .ref (a 0)] := by
  unfold w_X12_person_B59 at h
  obtain ⟨g1, h⟩ := h
  refine z_put (q0 := 0) (k9 := 38) tyX12 b (mw_0 cy a S) rfl in_X12 tyX12_ok nmX12 (by decide) wf_X12_272 rfl rfl (z_bool g1) (z_boolf g1) (Nat.le_of_ble_eq_true rfl) dX12_person_59 (mwp_0_38 cy a S y0) ?_
  refine z_aload_n b dX12_person_62 rfl rfl ?_
  refine z_callv b (z_runV (q0 := 0) (As := []) (st := []) b (k_X12_next0 (si S 14 y0) _ h) cf_X12_next0 (mw_0 cy a (si S 14 y0)) rfl wm_X12_266 wi_X12_next0 ws_X12_next0 dX12_person_63 rfl (Nat.le_of_ble_eq_true rfl) ⟨by decide, by decide, by decide, by decide⟩) (fun S3 h => ?_)
  refine z_iconst (v := 1) b dX12_person_66 (by decide) ?_
  exact z_zret (u := S3) b rfl (by decide) dX12_person_67 h rfl (by decide) (by decide)

def w_X12_person_B54 (post : Int32 → GS → Prop) (S : GS)  : Prop :=
  w_X12_person_B59 post S 1

set_option maxHeartbeats 4000000 in
set_option maxRecDepth 100000 in
theorem z_X12_person_B54 {p : Program} {l : Launch} {e : Env} {R : Room} {s : State} {m : MethodId} {args : Array Value} {below : List Frame} {meth : Method} {c : Code} {D : va_G} {cy : Nat → ClassId} {T0 tB tE : Nat} {A : Nat → Prop} {a : Nat → Nat} {post : Int32 → GS → Prop} (b : Bz p R s m args meth c D cy T0 tB tE A 1 cX12_person RX12 (some .boolean) "person" 7 150 0 0) (S : GS)  (h : w_X12_person_B54 post S ) : Z p l e R s m args below meth c D A 1 (MQ below (QI D (U := GS) post (mw cy a) A) args s 0 0 A) 0 0 (mw cy a S) [(0, .ref (a 0))] 54 [.ref (a 0)] := by
  unfold w_X12_person_B54 at h
  refine z_iconst (v := 1) b dX12_person_54 (by decide) ?_
  refine z_goto (tgt := 59) b dX12_person_55 (by decide) ?_
  exact z_X12_person_B59 b _ _ h

def w_X12_person_B26 (post : Int32 → GS → Prop) (S : GS)  : Prop :=
  (((fi S 14).toInt ≠ 0 → w_X12_person_B54 post (si S 10 ((fi S 3) - 318))) ∧ ((fi S 14).toInt = 0 → ((((fi S 3) - 318).toInt ≠ 1 → w_X12_person_B59 post (si S 10 ((fi S 3) - 318)) 0) ∧ (((fi S 3) - 318).toInt = 1 → w_X12_person_B54 post (si S 10 ((fi S 3) - 318))))))

set_option maxHeartbeats 4000000 in
set_option maxRecDepth 100000 in
theorem z_X12_person_B26 {p : Program} {l : Launch} {e : Env} {R : Room} {s : State} {m : MethodId} {args : Array Value} {below : List Frame} {meth : Method} {c : Code} {D : va_G} {cy : Nat → ClassId} {T0 tB tE : Nat} {A : Nat → Prop} {a : Nat → Nat} {post : Int32 → GS → Prop} (b : Bz p R s m args meth c D cy T0 tB tE A 1 cX12_person RX12 (some .boolean) "person" 7 150 0 0) (S : GS)  (h : w_X12_person_B26 post S ) : Z p l e R s m args below meth c D A 1 (MQ below (QI D (U := GS) post (mw cy a) A) args s 0 0 A) 0 0 (mw cy a S) [(0, .ref (a 0))] 26 [] := by
  unfold w_X12_person_B26 at h
  refine z_aload_n b dX12_person_26 rfl rfl ?_
  refine z_aload_n b dX12_person_27 rfl rfl ?_
  refine z_get (q0 := 0) (k9 := 27) (v := .int (fi S 3)) b (mw_0 cy a S) rfl in_X12 (by decide) wf_X12_242 rfl dX12_person_28 ?_
  refine z_sipush (v := 318) b dX12_person_31 (by decide) ?_
  refine z_isub b dX12_person_34 rfl ?_
  refine z_put (q0 := 0) (k9 := 34) tyX12 b (mw_0 cy a S) rfl in_X12 tyX12_ok nmX12 (by decide) wf_X12_269 rfl rfl rfl rfl (Nat.le_of_ble_eq_true rfl) dX12_person_35 (mwp_0_34 cy a S ((fi S 3) - 318)) ?_
  refine z_aload_n b dX12_person_38 rfl rfl ?_
  refine z_aload_n b dX12_person_39 rfl rfl ?_
  refine z_get (q0 := 0) (k9 := 38) (v := .int (fi S 14)) b (mw_0 cy a (si S 10 ((fi S 3) - 318))) rfl in_X12 (by decide) wf_X12_272 rfl dX12_person_40 ?_
  refine y_if_ne (tgt := 54) (xl := (fi S 14).toInt) b rfl dX12_person_43 (by decide) (fun c1 => ?_) (fun c1 => ?_)
  · replace h := h.1 c1
    exact z_X12_person_B54 b _ h
  · replace h := h.2 c1
    refine z_aload_n b dX12_person_46 rfl rfl ?_
    refine z_get (q0 := 0) (k9 := 34) (v := .int ((fi S 3) - 318)) b (mw_0 cy a (si S 10 ((fi S 3) - 318))) rfl in_X12 (by decide) wf_X12_269 rfl dX12_person_47 ?_
    refine z_iconst (v := 1) b dX12_person_50 (by decide) ?_
    refine y_icmp_ne (tgt := 58) (xl := ((fi S 3) - 318).toInt) (yl := 1) b rfl (by decide) dX12_person_51 (by decide) (fun c1 => ?_) (fun c1 => ?_)
    · replace h := h.1 c1
      refine z_iconst (v := 0) b dX12_person_58 (by decide) ?_
      exact z_X12_person_B59 b _ _ h
    · replace h := h.2 c1
      exact z_X12_person_B54 b _ h

def w_X12_person (S : GS)  (post : Int32 → GS → Prop) : Prop :=
  (((fi S 3).toInt = 318 → w_X12_person_B26 post S) ∧ ((fi S 3).toInt ≠ 318 → (((fi S 3).toInt = 319 → w_X12_person_B26 post S) ∧ ((fi S 3).toInt ≠ 319 → w_X12_bad S 1 (fun r4 S5 => (r4 = 0 ∨ r4 = 1) ∧ post r4 S5)))))

set_option maxHeartbeats 4000000 in
set_option maxRecDepth 100000 in
theorem k_X12_person {l : Launch} {D : va_G} {cy : Nat → ClassId} {T0 tB tE : Nat} {a : Nat → Nat} (S : GS)  (post : Int32 → GS → Prop) (h : w_X12_person S  post) : Ct l D cy T0 tB tE yX12_person cX12_person 1 (some .boolean) 7 150 0 0 (mw cy a S) [.ref (a 0)] (QI D (U := GS) post (mw cy a)) := by
  refine Ct.ofZ RX12 "person" [(0, .ref (a 0))] rfl rfl rfl rfl (Nat.le_of_ble_eq_true rfl) ?_
  intro p e R s m args below meth c A b
  unfold w_X12_person at h
  refine z_aload_n b dX12_person_0 rfl rfl ?_
  refine z_get (q0 := 0) (k9 := 27) (v := .int (fi S 3)) b (mw_0 cy a S) rfl in_X12 (by decide) wf_X12_242 rfl dX12_person_1 ?_
  refine z_sipush (v := 318) b dX12_person_4 (by decide) ?_
  refine y_icmp_eq (tgt := 26) (xl := (fi S 3).toInt) (yl := 318) b rfl (by decide) dX12_person_7 (by decide) (fun c1 => ?_) (fun c1 => ?_)
  · replace h := h.1 c1
    exact z_X12_person_B26 b _ h
  · replace h := h.2 c1
    refine z_aload_n b dX12_person_10 rfl rfl ?_
    refine z_get (q0 := 0) (k9 := 27) (v := .int (fi S 3)) b (mw_0 cy a S) rfl in_X12 (by decide) wf_X12_242 rfl dX12_person_11 ?_
    refine z_sipush (v := 319) b dX12_person_14 (by decide) ?_
    refine y_icmp_eq (tgt := 26) (xl := (fi S 3).toInt) (yl := 319) b rfl (by decide) dX12_person_17 (by decide) (fun c1 => ?_) (fun c1 => ?_)
    · replace h := h.1 c1
      exact z_X12_person_B26 b _ h
    · replace h := h.2 c1
      refine z_aload_n b dX12_person_20 rfl rfl ?_
      refine z_iconst (v := 1) b dX12_person_21 (by decide) ?_
      refine z_calli b (z_runV (q0 := 0) (As := [.int 1]) (st := []) b (k_X12_bad S 1 _ h) cf_X12_bad (mw_0 cy a S) rfl wm_X12_263 wi_X12_bad ws_X12_bad dX12_person_22 rfl (Nat.le_of_ble_eq_true rfl) ⟨by decide, by decide, by decide, by decide⟩) (fun r4 S5 h => ?_)
      obtain ⟨g6, h⟩ := h
      exact z_zret (u := S5) b rfl (z_bool g6) dX12_person_25 h rfl (by decide) (by decide)

def w_X12_persons (S : GS)  (post : Int32 → GS → Prop) : Prop :=
  w_X12_person S (fun r1 S2 => ((r1.toInt ≠ 0 → (((fi S2 3).toInt ≠ ((318 : Int32) + (fi S2 10)).toInt → w_X12_person S2 (fun r3 S4 => ((r3.toInt ≠ 0 → post 1 (si (si S4 11 (fi S4 10)) 10 (fi S2 10))) ∧ (r3.toInt = 0 → post 0 S4)))) ∧ ((fi S2 3).toInt = ((318 : Int32) + (fi S2 10)).toInt → w_X12_bad S2 1 (fun r5 S6 => (r5 = 0 ∨ r5 = 1) ∧ post r5 S6)))) ∧ (r1.toInt = 0 → post 0 S2)))

set_option maxHeartbeats 4000000 in
set_option maxRecDepth 100000 in
theorem k_X12_persons {l : Launch} {D : va_G} {cy : Nat → ClassId} {T0 tB tE : Nat} {a : Nat → Nat} (S : GS)  (post : Int32 → GS → Prop) (h : w_X12_persons S  post) : Ct l D cy T0 tB tE yX12_persons cX12_persons 2 (some .boolean) 8 170 0 0 (mw cy a S) [.ref (a 0)] (QI D (U := GS) post (mw cy a)) := by
  refine Ct.ofZ RX12 "persons" [(0, .ref (a 0))] rfl rfl rfl rfl (Nat.le_of_ble_eq_true rfl) ?_
  intro p e R s m args below meth c A b
  unfold w_X12_persons at h
  refine z_aload_n b dX12_persons_0 rfl rfl ?_
  refine z_calli b (z_runV (q0 := 0) (As := []) (st := []) b (k_X12_person S _ h) cf_X12_person (mw_0 cy a S) rfl wm_X12_276 wi_X12_person ws_X12_person dX12_persons_1 rfl (Nat.le_of_ble_eq_true rfl) ⟨by decide, by decide, by decide, by decide⟩) (fun r1 S2 h => ?_)
  refine y_if_ne (tgt := 9) (xl := r1.toInt) b rfl dX12_persons_4 (by decide) (fun c1 => ?_) (fun c1 => ?_)
  · replace h := h.1 c1
    refine z_aload_n b dX12_persons_9 rfl rfl ?_
    refine z_get (q0 := 0) (k9 := 34) (v := .int (fi S2 10)) b (mw_0 cy a S2) rfl in_X12 (by decide) wf_X12_269 rfl dX12_persons_10 ?_
    refine z_istore_n (lv' := [(1, .int (fi S2 10)), (0, .ref (a 0))]) b dX12_persons_13 rfl (by decide) rfl ?_
    refine z_aload_n b dX12_persons_14 rfl rfl ?_
    refine z_get (q0 := 0) (k9 := 27) (v := .int (fi S2 3)) b (mw_0 cy a S2) rfl in_X12 (by decide) wf_X12_242 rfl dX12_persons_15 ?_
    refine z_sipush (v := 318) b dX12_persons_18 (by decide) ?_
    refine z_iload_n b dX12_persons_21 rfl rfl ?_
    refine z_iadd b dX12_persons_22 rfl ?_
    refine y_icmp_ne (tgt := 32) (xl := (fi S2 3).toInt) (yl := ((318 : Int32) + (fi S2 10)).toInt) b rfl rfl dX12_persons_23 (by decide) (fun c1 => ?_) (fun c1 => ?_)
    · replace h := h.1 c1
      refine z_aload_n b dX12_persons_32 rfl rfl ?_
      refine z_calli b (z_runV (q0 := 0) (As := []) (st := []) b (k_X12_person S2 _ h) cf_X12_person (mw_0 cy a S2) rfl wm_X12_276 wi_X12_person ws_X12_person dX12_persons_33 rfl (Nat.le_of_ble_eq_true rfl) ⟨by decide, by decide, by decide, by decide⟩) (fun r3 S4 h => ?_)
      refine y_if_ne (tgt := 41) (xl := r3.toInt) b rfl dX12_persons_36 (by decide) (fun c1 => ?_) (fun c1 => ?_)
      · replace h := h.1 c1
        refine z_aload_n b dX12_persons_41 rfl rfl ?_
        refine z_aload_n b dX12_persons_42 rfl rfl ?_
        refine z_get (q0 := 0) (k9 := 34) (v := .int (fi S4 10)) b (mw_0 cy a S4) rfl in_X12 (by decide) wf_X12_269 rfl dX12_persons_43 ?_
        refine z_put (q0 := 0) (k9 := 35) tyX12 b (mw_0 cy a S4) rfl in_X12 tyX12_ok nmX12 (by decide) wf_X12_279 rfl rfl rfl rfl (Nat.le_of_ble_eq_true rfl) dX12_persons_46 (mwp_0_35 cy a S4 (fi S4 10)) ?_
        refine z_aload_n b dX12_persons_49 rfl rfl ?_
        refine z_iload_n b dX12_persons_50 rfl rfl ?_
        refine z_put (q0 := 0) (k9 := 34) tyX12 b (mw_0 cy a (si S4 11 (fi S4 10))) rfl in_X12 tyX12_ok nmX12 (by decide) wf_X12_269 rfl rfl rfl rfl (Nat.le_of_ble_eq_true rfl) dX12_persons_51 (mwp_0_34 cy a (si S4 11 (fi S4 10)) (fi S2 10)) ?_
        refine z_iconst (v := 1) b dX12_persons_54 (by decide) ?_
        exact z_zret (u := (si (si S4 11 (fi S4 10)) 10 (fi S2 10))) b rfl (by decide) dX12_persons_55 h rfl (by decide) (by decide)
      · replace h := h.2 c1
        refine z_iconst (v := 0) b dX12_persons_39 (by decide) ?_
        exact z_zret (u := S4) b rfl (by decide) dX12_persons_40 h rfl (by decide) (by decide)
    · replace h := h.2 c1
      refine z_aload_n b dX12_persons_26 rfl rfl ?_
      refine z_iconst (v := 1) b dX12_persons_27 (by decide) ?_
      refine z_calli b (z_runV (q0 := 0) (As := [.int 1]) (st := []) b (k_X12_bad S2 1 _ h) cf_X12_bad (mw_0 cy a S2) rfl wm_X12_263 wi_X12_bad ws_X12_bad dX12_persons_28 rfl (Nat.le_of_ble_eq_true rfl) ⟨by decide, by decide, by decide, by decide⟩) (fun r5 S6 h => ?_)
      obtain ⟨g7, h⟩ := h
      exact z_zret (u := S6) b rfl (z_bool g7) dX12_persons_31 h rfl (by decide) (by decide)
  · replace h := h.2 c1
    refine z_iconst (v := 0) b dX12_persons_7 (by decide) ?_
    exact z_zret (u := S2) b rfl (by decide) dX12_persons_8 h rfl (by decide) (by decide)

def w_X12_unit_B31 (post : Int32 → GS → Prop) (S : GS) (y0 : Int32) : Prop :=
  w_X12_lay S y0 (fi S 5) (fun S2 => w_X12_next0 S2 (fun S4 => post 1 S4))

set_option maxHeartbeats 4000000 in
set_option maxRecDepth 100000 in
theorem z_X12_unit_B31 {p : Program} {l : Launch} {e : Env} {R : Room} {s : State} {m : MethodId} {args : Array Value} {below : List Frame} {meth : Method} {c : Code} {D : va_G} {cy : Nat → ClassId} {T0 tB tE : Nat} {A : Nat → Prop} {a : Nat → Nat} {post : Int32 → GS → Prop} (b : Bz p R s m args meth c D cy T0 tB tE A 3 cX12_unit RX12 (some .boolean) "unit" 9 191 0 0) (S : GS) (y0 : Int32) (h : w_X12_unit_B31 post S y0) : Z p l e R s m args below meth c D A 3 (MQ below (QI D (U := GS) post (mw cy a) A) args s 0 0 A) 0 0 (mw cy a S) [(0, .ref (a 0))] 31 [.int y0, .ref (a 0)] := by
  unfold w_X12_unit_B31 at h
  refine z_aload_n b dX12_unit_31 rfl rfl ?_
  refine z_get (q0 := 0) (k9 := 29) (v := .int (fi S 5)) b (mw_0 cy a S) rfl in_X12 (by decide) wf_X12_254 rfl dX12_unit_32 ?_
  refine z_callv b (z_runV (q0 := 0) (As := [.int y0, .int (fi S 5)]) (st := []) b (k_X12_lay S y0 (fi S 5) _ h) cf_X12_lay (mw_0 cy a S) rfl wm_X12_288 wi_X12_lay ws_X12_lay dX12_unit_35 rfl (Nat.le_of_ble_eq_true rfl) ⟨by decide, by decide, by decide, by decide⟩) (fun S2 h => ?_)
  refine z_aload_n b dX12_unit_38 rfl rfl ?_
  refine z_callv b (z_runV (q0 := 0) (As := []) (st := []) b (k_X12_next0 S2 _ h) cf_X12_next0 (mw_0 cy a S2) rfl wm_X12_266 wi_X12_next0 ws_X12_next0 dX12_unit_39 rfl (Nat.le_of_ble_eq_true rfl) ⟨by decide, by decide, by decide, by decide⟩) (fun S4 h => ?_)
  refine z_iconst (v := 1) b dX12_unit_42 (by decide) ?_
  exact z_zret (u := S4) b rfl (by decide) dX12_unit_43 h rfl (by decide) (by decide)

def w_X12_unit_B17 (post : Int32 → GS → Prop) (S : GS) (x1 : Int32) : Prop :=
  ((x1.toInt ≠ 311 → w_X12_unit_B31 post S 0) ∧ (x1.toInt = 311 → w_X12_unit_B31 post S 7))

set_option maxHeartbeats 4000000 in
set_option maxRecDepth 100000 in
theorem z_X12_unit_B17 {p : Program} {l : Launch} {e : Env} {R : Room} {s : State} {m : MethodId} {args : Array Value} {below : List Frame} {meth : Method} {c : Code} {D : va_G} {cy : Nat → ClassId} {T0 tB tE : Nat} {A : Nat → Prop} {a : Nat → Nat} {post : Int32 → GS → Prop} (b : Bz p R s m args meth c D cy T0 tB tE A 3 cX12_unit RX12 (some .boolean) "unit" 9 191 0 0) (S : GS) (x1 : Int32) (h : w_X12_unit_B17 post S x1) : Z p l e R s m args below meth c D A 3 (MQ below (QI D (U := GS) post (mw cy a) A) args s 0 0 A) 0 0 (mw cy a S) [(0, .ref (a 0)), (1, .int x1)] 17 [] := by
  unfold w_X12_unit_B17 at h
  refine z_aload_n b dX12_unit_17 rfl rfl ?_
  refine z_iload_n b dX12_unit_18 rfl rfl ?_
  refine z_sipush (v := 311) b dX12_unit_19 (by decide) ?_
  refine y_icmp_ne (tgt := 30) (xl := x1.toInt) (yl := 311) b rfl (by decide) dX12_unit_22 (by decide) (fun c1 => ?_) (fun c1 => ?_)
  · replace h := h.1 c1
    refine z_iconst (v := 0) b dX12_unit_30 (by decide) ?_
    refine z_lv0 (lv' := [(0, .ref (a 0))]) [0] rfl ?_
    exact z_X12_unit_B31 b _ _ h
  · replace h := h.2 c1
    refine z_bipush (v := 7) b dX12_unit_25 (by decide) ?_
    refine z_goto (tgt := 31) b dX12_unit_27 (by decide) ?_
    refine z_lv0 (lv' := [(0, .ref (a 0))]) [0] rfl ?_
    exact z_X12_unit_B31 b _ _ h

def w_X12_unit_B172 (post : Int32 → GS → Prop) (S : GS) (x2 : Int32) : Prop :=
  w_X12_lay S x2 (fi S 10) (fun S10 => post 1 S10)

set_option maxHeartbeats 4000000 in
set_option maxRecDepth 100000 in
theorem z_X12_unit_B172 {p : Program} {l : Launch} {e : Env} {R : Room} {s : State} {m : MethodId} {args : Array Value} {below : List Frame} {meth : Method} {c : Code} {D : va_G} {cy : Nat → ClassId} {T0 tB tE : Nat} {A : Nat → Prop} {a : Nat → Nat} {post : Int32 → GS → Prop} (b : Bz p R s m args meth c D cy T0 tB tE A 3 cX12_unit RX12 (some .boolean) "unit" 9 191 0 0) (S : GS) (x2 : Int32) (h : w_X12_unit_B172 post S x2) : Z p l e R s m args below meth c D A 3 (MQ below (QI D (U := GS) post (mw cy a) A) args s 0 0 A) 0 0 (mw cy a S) [(0, .ref (a 0)), (2, .int x2)] 172 [] := by
  unfold w_X12_unit_B172 at h
  refine z_aload_n b dX12_unit_172 rfl rfl ?_
  refine z_iload_n b dX12_unit_173 rfl rfl ?_
  refine z_aload_n b dX12_unit_174 rfl rfl ?_
  refine z_get (q0 := 0) (k9 := 34) (v := .int (fi S 10)) b (mw_0 cy a S) rfl in_X12 (by decide) wf_X12_269 rfl dX12_unit_175 ?_
  refine z_callv b (z_runV (q0 := 0) (As := [.int x2, .int (fi S 10)]) (st := []) b (k_X12_lay S x2 (fi S 10) _ h) cf_X12_lay (mw_0 cy a S) rfl wm_X12_288 wi_X12_lay ws_X12_lay dX12_unit_178 rfl (Nat.le_of_ble_eq_true rfl) ⟨by decide, by decide, by decide, by decide⟩) (fun S10 h => ?_)
  refine z_iconst (v := 1) b dX12_unit_181 (by decide) ?_
  exact z_zret (u := S10) b rfl (by decide) dX12_unit_182 h rfl (by decide) (by decide)

def w_X12_unit_B162 (post : Int32 → GS → Prop) (S : GS) (x2 : Int32) : Prop :=
  ((x2.toInt ≠ 5 → w_X12_unit_B172 post S x2) ∧ (x2.toInt = 5 → w_X12_unit_B172 post (si S 15 1) x2))

set_option maxHeartbeats 4000000 in
set_option maxRecDepth 100000 in
theorem z_X12_unit_B162 {p : Program} {l : Launch} {e : Env} {R : Room} {s : State} {m : MethodId} {args : Array Value} {below : List Frame} {meth : Method} {c : Code} {D : va_G} {cy : Nat → ClassId} {T0 tB tE : Nat} {A : Nat → Prop} {a : Nat → Nat} {post : Int32 → GS → Prop} (b : Bz p R s m args meth c D cy T0 tB tE A 3 cX12_unit RX12 (some .boolean) "unit" 9 191 0 0) (S : GS) (x2 : Int32) (h : w_X12_unit_B162 post S x2) : Z p l e R s m args below meth c D A 3 (MQ below (QI D (U := GS) post (mw cy a) A) args s 0 0 A) 0 0 (mw cy a S) [(0, .ref (a 0)), (2, .int x2)] 162 [] := by
  unfold w_X12_unit_B162 at h
  refine z_iload_n b dX12_unit_162 rfl rfl ?_
  refine z_iconst (v := 5) b dX12_unit_163 (by decide) ?_
  refine y_icmp_ne (tgt := 172) (xl := x2.toInt) (yl := 5) b rfl (by decide) dX12_unit_164 (by decide) (fun c1 => ?_) (fun c1 => ?_)
  · replace h := h.1 c1
    exact z_X12_unit_B172 b _ _ h
  · replace h := h.2 c1
    refine z_aload_n b dX12_unit_167 rfl rfl ?_
    refine z_iconst (v := 1) b dX12_unit_168 (by decide) ?_
    refine z_put (q0 := 0) (k9 := 39) tyX12 b (mw_0 cy a S) rfl in_X12 tyX12_ok nmX12 (by decide) wf_X12_298 rfl rfl rfl rfl (Nat.le_of_ble_eq_true rfl) dX12_unit_169 (mwp_0_39 cy a S 1) ?_
    exact z_X12_unit_B172 b _ _ h

def w_X12_unit_B160 (post : Int32 → GS → Prop) (S : GS)  : Prop :=
  post 0 S

set_option maxHeartbeats 4000000 in
set_option maxRecDepth 100000 in
theorem z_X12_unit_B160 {p : Program} {l : Launch} {e : Env} {R : Room} {s : State} {m : MethodId} {args : Array Value} {below : List Frame} {meth : Method} {c : Code} {D : va_G} {cy : Nat → ClassId} {T0 tB tE : Nat} {A : Nat → Prop} {a : Nat → Nat} {post : Int32 → GS → Prop} (b : Bz p R s m args meth c D cy T0 tB tE A 3 cX12_unit RX12 (some .boolean) "unit" 9 191 0 0) (S : GS)  (h : w_X12_unit_B160 post S ) : Z p l e R s m args below meth c D A 3 (MQ below (QI D (U := GS) post (mw cy a) A) args s 0 0 A) 0 0 (mw cy a S) [] 160 [] := by
  unfold w_X12_unit_B160 at h
  refine z_iconst (v := 0) b dX12_unit_160 (by decide) ?_
  exact z_zret (u := S) b rfl (by decide) dX12_unit_161 h rfl (by decide) (by decide)

def w_X12_unit_B143 (post : Int32 → GS → Prop) (S : GS) (x2 : Int32) : Prop :=
  w_X12_persons S (fun r7 S8 => ((r7.toInt ≠ 0 → w_X12_unit_B162 post S8 x2) ∧ (r7.toInt = 0 → w_X12_unit_B160 post S8)))

set_option maxHeartbeats 4000000 in
set_option maxRecDepth 100000 in
theorem z_X12_unit_B143 {p : Program} {l : Launch} {e : Env} {R : Room} {s : State} {m : MethodId} {args : Array Value} {below : List Frame} {meth : Method} {c : Code} {D : va_G} {cy : Nat → ClassId} {T0 tB tE : Nat} {A : Nat → Prop} {a : Nat → Nat} {post : Int32 → GS → Prop} (b : Bz p R s m args meth c D cy T0 tB tE A 3 cX12_unit RX12 (some .boolean) "unit" 9 191 0 0) (S : GS) (x2 : Int32) (h : w_X12_unit_B143 post S x2) : Z p l e R s m args below meth c D A 3 (MQ below (QI D (U := GS) post (mw cy a) A) args s 0 0 A) 0 0 (mw cy a S) [(0, .ref (a 0)), (2, .int x2)] 143 [] := by
  unfold w_X12_unit_B143 at h
  refine z_aload_n b dX12_unit_143 rfl rfl ?_
  refine z_calli b (z_runV (q0 := 0) (As := []) (st := []) b (k_X12_persons S _ h) cf_X12_persons (mw_0 cy a S) rfl wm_X12_295 wi_X12_persons ws_X12_persons dX12_unit_144 rfl (Nat.le_of_ble_eq_true rfl) ⟨by decide, by decide, by decide, by decide⟩) (fun r7 S8 h => ?_)
  refine y_if_ne (tgt := 162) (xl := r7.toInt) b rfl dX12_unit_147 (by decide) (fun c1 => ?_) (fun c1 => ?_)
  · replace h := h.1 c1
    exact z_X12_unit_B162 b _ _ h
  · replace h := h.2 c1
    refine z_goto (tgt := 160) b dX12_unit_150 (by decide) ?_
    refine z_lv0 (lv' := []) [] rfl ?_
    exact z_X12_unit_B160 b _ h

def w_X12_unit_B112 (post : Int32 → GS → Prop) (S : GS) (y0 : Int32) : Prop :=
  ((y0.toInt ≠ (-1) → w_X12_next0 S (fun S6 => ((y0.toInt = 2 → w_X12_unit_B143 post S6 y0) ∧ (y0.toInt ≠ 2 → ((y0.toInt = 3 → w_X12_unit_B143 post S6 y0) ∧ (y0.toInt ≠ 3 → ((y0.toInt ≠ 4 → w_X12_person S6 (fun r11 S12 => ((r11.toInt ≠ 0 → w_X12_unit_B162 post S12 y0) ∧ (r11.toInt = 0 → w_X12_unit_B160 post S12)))) ∧ (y0.toInt = 4 → w_X12_unit_B143 post S6 y0)))))))) ∧ (y0.toInt = (-1) → w_X12_bad S 1 (fun r13 S14 => (r13 = 0 ∨ r13 = 1) ∧ post r13 S14)))

set_option maxHeartbeats 4000000 in
set_option maxRecDepth 100000 in
theorem z_X12_unit_B112 {p : Program} {l : Launch} {e : Env} {R : Room} {s : State} {m : MethodId} {args : Array Value} {below : List Frame} {meth : Method} {c : Code} {D : va_G} {cy : Nat → ClassId} {T0 tB tE : Nat} {A : Nat → Prop} {a : Nat → Nat} {post : Int32 → GS → Prop} (b : Bz p R s m args meth c D cy T0 tB tE A 3 cX12_unit RX12 (some .boolean) "unit" 9 191 0 0) (S : GS) (y0 : Int32) (h : w_X12_unit_B112 post S y0) : Z p l e R s m args below meth c D A 3 (MQ below (QI D (U := GS) post (mw cy a) A) args s 0 0 A) 0 0 (mw cy a S) [(0, .ref (a 0))] 112 [.int y0] := by
  unfold w_X12_unit_B112 at h
  refine z_istore_n (lv' := [(2, .int y0), (0, .ref (a 0))]) b dX12_unit_112 rfl (by decide) rfl ?_
  refine z_iload_n b dX12_unit_113 rfl rfl ?_
  refine z_iconst (v := (-1)) b dX12_unit_114 (by decide) ?_
  refine y_icmp_ne (tgt := 124) (xl := y0.toInt) (yl := (-1)) b rfl (by decide) dX12_unit_115 (by decide) (fun c1 => ?_) (fun c1 => ?_)
  · replace h := h.1 c1
    refine z_aload_n b dX12_unit_124 rfl rfl ?_
    refine z_callv b (z_runV (q0 := 0) (As := []) (st := []) b (k_X12_next0 S _ h) cf_X12_next0 (mw_0 cy a S) rfl wm_X12_266 wi_X12_next0 ws_X12_next0 dX12_unit_125 rfl (Nat.le_of_ble_eq_true rfl) ⟨by decide, by decide, by decide, by decide⟩) (fun S6 h => ?_)
    refine z_iload_n b dX12_unit_128 rfl rfl ?_
    refine z_iconst (v := 2) b dX12_unit_129 (by decide) ?_
    refine y_icmp_eq (tgt := 143) (xl := y0.toInt) (yl := 2) b rfl (by decide) dX12_unit_130 (by decide) (fun c1 => ?_) (fun c1 => ?_)
    · replace h := h.1 c1
      refine z_lv0 (lv' := [(0, .ref (a 0)), (2, .int y0)]) [1, 0] rfl ?_
      exact z_X12_unit_B143 b _ _ h
    · replace h := h.2 c1
      refine z_iload_n b dX12_unit_133 rfl rfl ?_
      refine z_iconst (v := 3) b dX12_unit_134 (by decide) ?_
      refine y_icmp_eq (tgt := 143) (xl := y0.toInt) (yl := 3) b rfl (by decide) dX12_unit_135 (by decide) (fun c1 => ?_) (fun c1 => ?_)
      · replace h := h.1 c1
        refine z_lv0 (lv' := [(0, .ref (a 0)), (2, .int y0)]) [1, 0] rfl ?_
        exact z_X12_unit_B143 b _ _ h
      · replace h := h.2 c1
        refine z_iload_n b dX12_unit_138 rfl rfl ?_
        refine z_iconst (v := 4) b dX12_unit_139 (by decide) ?_
        refine y_icmp_ne (tgt := 153) (xl := y0.toInt) (yl := 4) b rfl (by decide) dX12_unit_140 (by decide) (fun c1 => ?_) (fun c1 => ?_)
        · replace h := h.1 c1
          refine z_aload_n b dX12_unit_153 rfl rfl ?_
          refine z_calli b (z_runV (q0 := 0) (As := []) (st := []) b (k_X12_person S6 _ h) cf_X12_person (mw_0 cy a S6) rfl wm_X12_276 wi_X12_person ws_X12_person dX12_unit_154 rfl (Nat.le_of_ble_eq_true rfl) ⟨by decide, by decide, by decide, by decide⟩) (fun r11 S12 h => ?_)
          refine y_if_ne (tgt := 162) (xl := r11.toInt) b rfl dX12_unit_157 (by decide) (fun c1 => ?_) (fun c1 => ?_)
          · replace h := h.1 c1
            refine z_lv0 (lv' := [(0, .ref (a 0)), (2, .int y0)]) [1, 0] rfl ?_
            exact z_X12_unit_B162 b _ _ h
          · replace h := h.2 c1
            refine z_lv0 (lv' := []) [] rfl ?_
            exact z_X12_unit_B160 b _ h
        · replace h := h.2 c1
          refine z_lv0 (lv' := [(0, .ref (a 0)), (2, .int y0)]) [1, 0] rfl ?_
          exact z_X12_unit_B143 b _ _ h
  · replace h := h.2 c1
    refine z_aload_n b dX12_unit_118 rfl rfl ?_
    refine z_iconst (v := 1) b dX12_unit_119 (by decide) ?_
    refine z_calli b (z_runV (q0 := 0) (As := [.int 1]) (st := []) b (k_X12_bad S 1 _ h) cf_X12_bad (mw_0 cy a S) rfl wm_X12_263 wi_X12_bad ws_X12_bad dX12_unit_120 rfl (Nat.le_of_ble_eq_true rfl) ⟨by decide, by decide, by decide, by decide⟩) (fun r13 S14 h => ?_)
    obtain ⟨g15, h⟩ := h
    exact z_zret (u := S14) b rfl (z_bool g15) dX12_unit_123 h rfl (by decide) (by decide)

def w_X12_unit (S : GS)  (post : Int32 → GS → Prop) : Prop :=
  (((fi S 3).toInt = 2 → w_X12_unit_B17 post S (fi S 3)) ∧ ((fi S 3).toInt ≠ 2 → (((fi S 3).toInt ≠ 311 → (((fi S 3).toInt ≠ 304 → (((fi S 3).toInt ≠ 305 → (((fi S 3).toInt ≠ 308 → (((fi S 3).toInt ≠ 315 → (((fi S 3).toInt ≠ 316 → (((fi S 3).toInt ≠ 317 → w_X12_unit_B112 post S (-1)) ∧ ((fi S 3).toInt = 317 → w_X12_unit_B112 post S 6))) ∧ ((fi S 3).toInt = 316 → w_X12_unit_B112 post S 5))) ∧ ((fi S 3).toInt = 315 → w_X12_unit_B112 post S 4))) ∧ ((fi S 3).toInt = 308 → w_X12_unit_B112 post S 3))) ∧ ((fi S 3).toInt = 305 → w_X12_unit_B112 post S 2))) ∧ ((fi S 3).toInt = 304 → w_X12_unit_B112 post S 1))) ∧ ((fi S 3).toInt = 311 → w_X12_unit_B17 post S (fi S 3)))))

set_option maxHeartbeats 4000000 in
set_option maxRecDepth 100000 in
theorem k_X12_unit {l : Launch} {D : va_G} {cy : Nat → ClassId} {T0 tB tE : Nat} {a : Nat → Nat} (S : GS)  (post : Int32 → GS → Prop) (h : w_X12_unit S  post) : Ct l D cy T0 tB tE yX12_unit cX12_unit 3 (some .boolean) 9 191 0 0 (mw cy a S) [.ref (a 0)] (QI D (U := GS) post (mw cy a)) := by
  refine Ct.ofZ RX12 "unit" [(0, .ref (a 0))] rfl rfl rfl rfl (Nat.le_of_ble_eq_true rfl) ?_
  intro p e R s m args below meth c A b
  unfold w_X12_unit at h
  refine z_aload_n b dX12_unit_0 rfl rfl ?_
  refine z_get (q0 := 0) (k9 := 27) (v := .int (fi S 3)) b (mw_0 cy a S) rfl in_X12 (by decide) wf_X12_242 rfl dX12_unit_1 ?_
  refine z_istore_n (lv' := [(1, .int (fi S 3)), (0, .ref (a 0))]) b dX12_unit_4 rfl (by decide) rfl ?_
  refine z_iload_n b dX12_unit_5 rfl rfl ?_
  refine z_iconst (v := 2) b dX12_unit_6 (by decide) ?_
  refine y_icmp_eq (tgt := 17) (xl := (fi S 3).toInt) (yl := 2) b rfl (by decide) dX12_unit_7 (by decide) (fun c1 => ?_) (fun c1 => ?_)
  · replace h := h.1 c1
    refine z_lv0 (lv' := [(0, .ref (a 0)), (1, .int (fi S 3))]) [1, 0] rfl ?_
    exact z_X12_unit_B17 b _ _ h
  · replace h := h.2 c1
    refine z_iload_n b dX12_unit_10 rfl rfl ?_
    refine z_sipush (v := 311) b dX12_unit_11 (by decide) ?_
    refine y_icmp_ne (tgt := 44) (xl := (fi S 3).toInt) (yl := 311) b rfl (by decide) dX12_unit_14 (by decide) (fun c1 => ?_) (fun c1 => ?_)
    · replace h := h.1 c1
      refine z_iload_n b dX12_unit_44 rfl rfl ?_
      refine z_sipush (v := 304) b dX12_unit_45 (by decide) ?_
      refine y_icmp_ne (tgt := 55) (xl := (fi S 3).toInt) (yl := 304) b rfl (by decide) dX12_unit_48 (by decide) (fun c1 => ?_) (fun c1 => ?_)
      · replace h := h.1 c1
        refine z_iload_n b dX12_unit_55 rfl rfl ?_
        refine z_sipush (v := 305) b dX12_unit_56 (by decide) ?_
        refine y_icmp_ne (tgt := 66) (xl := (fi S 3).toInt) (yl := 305) b rfl (by decide) dX12_unit_59 (by decide) (fun c1 => ?_) (fun c1 => ?_)
        · replace h := h.1 c1
          refine z_iload_n b dX12_unit_66 rfl rfl ?_
          refine z_sipush (v := 308) b dX12_unit_67 (by decide) ?_
          refine y_icmp_ne (tgt := 77) (xl := (fi S 3).toInt) (yl := 308) b rfl (by decide) dX12_unit_70 (by decide) (fun c1 => ?_) (fun c1 => ?_)
          · replace h := h.1 c1
            refine z_iload_n b dX12_unit_77 rfl rfl ?_
            refine z_sipush (v := 315) b dX12_unit_78 (by decide) ?_
            refine y_icmp_ne (tgt := 88) (xl := (fi S 3).toInt) (yl := 315) b rfl (by decide) dX12_unit_81 (by decide) (fun c1 => ?_) (fun c1 => ?_)
            · replace h := h.1 c1
              refine z_iload_n b dX12_unit_88 rfl rfl ?_
              refine z_sipush (v := 316) b dX12_unit_89 (by decide) ?_
              refine y_icmp_ne (tgt := 99) (xl := (fi S 3).toInt) (yl := 316) b rfl (by decide) dX12_unit_92 (by decide) (fun c1 => ?_) (fun c1 => ?_)
              · replace h := h.1 c1
                refine z_iload_n b dX12_unit_99 rfl rfl ?_
                refine z_sipush (v := 317) b dX12_unit_100 (by decide) ?_
                refine y_icmp_ne (tgt := 111) (xl := (fi S 3).toInt) (yl := 317) b rfl (by decide) dX12_unit_103 (by decide) (fun c1 => ?_) (fun c1 => ?_)
                · replace h := h.1 c1
                  refine z_iconst (v := (-1)) b dX12_unit_111 (by decide) ?_
                  refine z_lv0 (lv' := [(0, .ref (a 0))]) [1] rfl ?_
                  exact z_X12_unit_B112 b _ _ h
                · replace h := h.2 c1
                  refine z_bipush (v := 6) b dX12_unit_106 (by decide) ?_
                  refine z_goto (tgt := 112) b dX12_unit_108 (by decide) ?_
                  refine z_lv0 (lv' := [(0, .ref (a 0))]) [1] rfl ?_
                  exact z_X12_unit_B112 b _ _ h
              · replace h := h.2 c1
                refine z_iconst (v := 5) b dX12_unit_95 (by decide) ?_
                refine z_goto (tgt := 112) b dX12_unit_96 (by decide) ?_
                refine z_lv0 (lv' := [(0, .ref (a 0))]) [1] rfl ?_
                exact z_X12_unit_B112 b _ _ h
            · replace h := h.2 c1
              refine z_iconst (v := 4) b dX12_unit_84 (by decide) ?_
              refine z_goto (tgt := 112) b dX12_unit_85 (by decide) ?_
              refine z_lv0 (lv' := [(0, .ref (a 0))]) [1] rfl ?_
              exact z_X12_unit_B112 b _ _ h
          · replace h := h.2 c1
            refine z_iconst (v := 3) b dX12_unit_73 (by decide) ?_
            refine z_goto (tgt := 112) b dX12_unit_74 (by decide) ?_
            refine z_lv0 (lv' := [(0, .ref (a 0))]) [1] rfl ?_
            exact z_X12_unit_B112 b _ _ h
        · replace h := h.2 c1
          refine z_iconst (v := 2) b dX12_unit_62 (by decide) ?_
          refine z_goto (tgt := 112) b dX12_unit_63 (by decide) ?_
          refine z_lv0 (lv' := [(0, .ref (a 0))]) [1] rfl ?_
          exact z_X12_unit_B112 b _ _ h
      · replace h := h.2 c1
        refine z_iconst (v := 1) b dX12_unit_51 (by decide) ?_
        refine z_goto (tgt := 112) b dX12_unit_52 (by decide) ?_
        refine z_lv0 (lv' := [(0, .ref (a 0))]) [1] rfl ?_
        exact z_X12_unit_B112 b _ _ h
    · replace h := h.2 c1
      refine z_lv0 (lv' := [(0, .ref (a 0)), (1, .int (fi S 3))]) [1, 0] rfl ?_
      exact z_X12_unit_B17 b _ _ h

def w_X12_product_F9 (post : Int32 → GS → Prop) (k41 : GS → Prop) (k9 : GS → Prop) (S : GS)  : Prop :=
  (((fi S 3).toInt ≠ 42 → k41 S) ∧ ((fi S 3).toInt = 42 → w_X12_next0 S (fun S4 => w_X12_unit S4 (fun r5 S6 => ((r5.toInt ≠ 0 → w_X12_lay S6 10 0 (fun S8 => k9 S8)) ∧ (r5.toInt = 0 → post 0 S6))))))

set_option maxHeartbeats 4000000 in
set_option maxRecDepth 100000 in
theorem z_X12_product_F9 {p : Program} {l : Launch} {e : Env} {R : Room} {s : State} {m : MethodId} {args : Array Value} {below : List Frame} {meth : Method} {c : Code} {D : va_G} {cy : Nat → ClassId} {T0 tB tE : Nat} {A : Nat → Prop} {a : Nat → Nat} {post : Int32 → GS → Prop} {k41 : GS → Prop} {k9 : GS → Prop} (b : Bz p R s m args meth c D cy T0 tB tE A 1 cX12_product RX12 (some .boolean) "product" 10 213 0 0) (hk41 : ∀ (S : GS), k41 S → Z p l e R s m args below meth c D A 1 (MQ below (QI D (U := GS) post (mw cy a) A) args s 0 0 A) 0 0 (mw cy a S) [] 41 []) (hk9 : ∀ (S : GS), k9 S → Z p l e R s m args below meth c D A 1 (MQ below (QI D (U := GS) post (mw cy a) A) args s 0 0 A) 0 0 (mw cy a S) [(0, .ref (a 0))] 9 []) (S : GS)  (h : w_X12_product_F9 post k41 k9 S ) : Z p l e R s m args below meth c D A 1 (MQ below (QI D (U := GS) post (mw cy a) A) args s 0 0 A) 0 0 (mw cy a S) [(0, .ref (a 0))] 9 [] := by
  unfold w_X12_product_F9 at h
  refine z_aload_n b dX12_product_9 rfl rfl ?_
  refine z_get (q0 := 0) (k9 := 27) (v := .int (fi S 3)) b (mw_0 cy a S) rfl in_X12 (by decide) wf_X12_242 rfl dX12_product_10 ?_
  refine z_bipush (v := 42) b dX12_product_13 (by decide) ?_
  refine y_icmp_ne (tgt := 41) (xl := (fi S 3).toInt) (yl := 42) b rfl (by decide) dX12_product_15 (by decide) (fun c1 => ?_) (fun c1 => ?_)
  · replace h := h.1 c1
    refine z_lv0 (lv' := []) [] rfl ?_
    exact hk41 _ h
  · replace h := h.2 c1
    refine z_aload_n b dX12_product_18 rfl rfl ?_
    refine z_callv b (z_runV (q0 := 0) (As := []) (st := []) b (k_X12_next0 S _ h) cf_X12_next0 (mw_0 cy a S) rfl wm_X12_266 wi_X12_next0 ws_X12_next0 dX12_product_19 rfl (Nat.le_of_ble_eq_true rfl) ⟨by decide, by decide, by decide, by decide⟩) (fun S4 h => ?_)
    refine z_aload_n b dX12_product_22 rfl rfl ?_
    refine z_calli b (z_runV (q0 := 0) (As := []) (st := []) b (k_X12_unit S4 _ h) cf_X12_unit (mw_0 cy a S4) rfl wm_X12_292 wi_X12_unit ws_X12_unit dX12_product_23 rfl (Nat.le_of_ble_eq_true rfl) ⟨by decide, by decide, by decide, by decide⟩) (fun r5 S6 h => ?_)
    refine y_if_ne (tgt := 31) (xl := r5.toInt) b rfl dX12_product_26 (by decide) (fun c1 => ?_) (fun c1 => ?_)
    · replace h := h.1 c1
      refine z_aload_n b dX12_product_31 rfl rfl ?_
      refine z_bipush (v := 10) b dX12_product_32 (by decide) ?_
      refine z_iconst (v := 0) b dX12_product_34 (by decide) ?_
      refine z_callv b (z_runV (q0 := 0) (As := [.int 10, .int 0]) (st := []) b (k_X12_lay S6 10 0 _ h) cf_X12_lay (mw_0 cy a S6) rfl wm_X12_288 wi_X12_lay ws_X12_lay dX12_product_35 rfl (Nat.le_of_ble_eq_true rfl) ⟨by decide, by decide, by decide, by decide⟩) (fun S8 h => ?_)
      refine z_goto (tgt := 9) b dX12_product_38 (by decide) ?_
      exact hk9 _ h
    · replace h := h.2 c1
      refine z_iconst (v := 0) b dX12_product_29 (by decide) ?_
      exact z_zret (u := S6) b rfl (by decide) dX12_product_30 h rfl (by decide) (by decide)

set_option maxHeartbeats 4000000 in
set_option maxRecDepth 100000 in
theorem zl_X12_product_L9 {p : Program} {l : Launch} {e : Env} {R : Room} {s : State} {m : MethodId} {args : Array Value} {below : List Frame} {meth : Method} {c : Code} {D : va_G} {cy : Nat → ClassId} {T0 tB tE : Nat} {A : Nat → Prop} {a : Nat → Nat} {post : Int32 → GS → Prop} {k41 : GS → Prop} (b : Bz p R s m args meth c D cy T0 tB tE A 1 cX12_product RX12 (some .boolean) "product" 10 213 0 0) (hk41 : ∀ (S : GS), k41 S → Z p l e R s m args below meth c D A 1 (MQ below (QI D (U := GS) post (mw cy a) A) args s 0 0 A) 0 0 (mw cy a S) [] 41 []) : ∀ (n : Nat) (S : GS), lpn (w_X12_product_F9 post k41) (fun _ => False) n S  → Z p l e R s m args below meth c D A 1 (MQ below (QI D (U := GS) post (mw cy a) A) args s 0 0 A) 0 0 (mw cy a S) [(0, .ref (a 0))] 9 [] := by
  intro n
  induction n with
  | zero => intro _ h; exact h.elim
  | succ n ih => intro S  h; exact z_X12_product_F9 b hk41 ih S  h

def w_X12_product_B41 (post : Int32 → GS → Prop) (S : GS)  : Prop :=
  post 1 S

set_option maxHeartbeats 4000000 in
set_option maxRecDepth 100000 in
theorem z_X12_product_B41 {p : Program} {l : Launch} {e : Env} {R : Room} {s : State} {m : MethodId} {args : Array Value} {below : List Frame} {meth : Method} {c : Code} {D : va_G} {cy : Nat → ClassId} {T0 tB tE : Nat} {A : Nat → Prop} {a : Nat → Nat} {post : Int32 → GS → Prop} (b : Bz p R s m args meth c D cy T0 tB tE A 1 cX12_product RX12 (some .boolean) "product" 10 213 0 0) (S : GS)  (h : w_X12_product_B41 post S ) : Z p l e R s m args below meth c D A 1 (MQ below (QI D (U := GS) post (mw cy a) A) args s 0 0 A) 0 0 (mw cy a S) [] 41 [] := by
  unfold w_X12_product_B41 at h
  refine z_iconst (v := 1) b dX12_product_41 (by decide) ?_
  exact z_zret (u := S) b rfl (by decide) dX12_product_42 h rfl (by decide) (by decide)

def w_X12_product (S : GS)  (post : Int32 → GS → Prop) : Prop :=
  w_X12_unit S (fun r1 S2 => ((r1.toInt ≠ 0 → ∃ n, lpn (w_X12_product_F9 post (w_X12_product_B41 post)) (fun _ => False) n S2) ∧ (r1.toInt = 0 → post 0 S2)))

set_option maxHeartbeats 4000000 in
set_option maxRecDepth 100000 in
theorem k_X12_product {l : Launch} {D : va_G} {cy : Nat → ClassId} {T0 tB tE : Nat} {a : Nat → Nat} (S : GS)  (post : Int32 → GS → Prop) (h : w_X12_product S  post) : Ct l D cy T0 tB tE yX12_product cX12_product 1 (some .boolean) 10 213 0 0 (mw cy a S) [.ref (a 0)] (QI D (U := GS) post (mw cy a)) := by
  refine Ct.ofZ RX12 "product" [(0, .ref (a 0))] rfl rfl rfl rfl (Nat.le_of_ble_eq_true rfl) ?_
  intro p e R s m args below meth c A b
  unfold w_X12_product at h
  refine z_aload_n b dX12_product_0 rfl rfl ?_
  refine z_calli b (z_runV (q0 := 0) (As := []) (st := []) b (k_X12_unit S _ h) cf_X12_unit (mw_0 cy a S) rfl wm_X12_292 wi_X12_unit ws_X12_unit dX12_product_1 rfl (Nat.le_of_ble_eq_true rfl) ⟨by decide, by decide, by decide, by decide⟩) (fun r1 S2 h => ?_)
  refine y_if_ne (tgt := 9) (xl := r1.toInt) b rfl dX12_product_4 (by decide) (fun c1 => ?_) (fun c1 => ?_)
  · replace h := h.1 c1
    obtain ⟨n, h⟩ := h
    exact zl_X12_product_L9 b (fun S h => z_X12_product_B41 b _ h) n _ h
  · replace h := h.2 c1
    refine z_iconst (v := 0) b dX12_product_7 (by decide) ?_
    exact z_zret (u := S2) b rfl (by decide) dX12_product_8 h rfl (by decide) (by decide)

def w_X12_sumUp_B43 (post : Int32 → GS → Prop) (k9 : GS → Prop) (k66 : GS → Prop) (S : GS) (y0 : Int32) : Prop :=
  w_X12_next0 S (fun S4 => w_X12_product S4 (fun r5 S6 => ((r5.toInt ≠ 0 → w_X12_lay S6 y0 0 (fun S8 => k9 S8)) ∧ (r5.toInt = 0 → post 0 S6))))

set_option maxHeartbeats 4000000 in
set_option maxRecDepth 100000 in
theorem z_X12_sumUp_B43 {p : Program} {l : Launch} {e : Env} {R : Room} {s : State} {m : MethodId} {args : Array Value} {below : List Frame} {meth : Method} {c : Code} {D : va_G} {cy : Nat → ClassId} {T0 tB tE : Nat} {A : Nat → Prop} {a : Nat → Nat} {post : Int32 → GS → Prop} {k9 : GS → Prop} {k66 : GS → Prop} (b : Bz p R s m args meth c D cy T0 tB tE A 2 cX12_sumUp RX12 (some .boolean) "sumUp" 11 233 0 0) (hk9 : ∀ (S : GS), k9 S → Z p l e R s m args below meth c D A 2 (MQ below (QI D (U := GS) post (mw cy a) A) args s 0 0 A) 0 0 (mw cy a S) [(0, .ref (a 0))] 9 []) (hk66 : ∀ (S : GS), k66 S → Z p l e R s m args below meth c D A 2 (MQ below (QI D (U := GS) post (mw cy a) A) args s 0 0 A) 0 0 (mw cy a S) [] 66 []) (S : GS) (y0 : Int32) (h : w_X12_sumUp_B43 post k9 k66 S y0) : Z p l e R s m args below meth c D A 2 (MQ below (QI D (U := GS) post (mw cy a) A) args s 0 0 A) 0 0 (mw cy a S) [(0, .ref (a 0))] 43 [.int y0] := by
  unfold w_X12_sumUp_B43 at h
  refine z_istore_n (lv' := [(1, .int y0), (0, .ref (a 0))]) b dX12_sumUp_43 rfl (by decide) rfl ?_
  refine z_aload_n b dX12_sumUp_44 rfl rfl ?_
  refine z_callv b (z_runV (q0 := 0) (As := []) (st := []) b (k_X12_next0 S _ h) cf_X12_next0 (mw_0 cy a S) rfl wm_X12_266 wi_X12_next0 ws_X12_next0 dX12_sumUp_45 rfl (Nat.le_of_ble_eq_true rfl) ⟨by decide, by decide, by decide, by decide⟩) (fun S4 h => ?_)
  refine z_aload_n b dX12_sumUp_48 rfl rfl ?_
  refine z_calli b (z_runV (q0 := 0) (As := []) (st := []) b (k_X12_product S4 _ h) cf_X12_product (mw_0 cy a S4) rfl wm_X12_285 wi_X12_product ws_X12_product dX12_sumUp_49 rfl (Nat.le_of_ble_eq_true rfl) ⟨by decide, by decide, by decide, by decide⟩) (fun r5 S6 h => ?_)
  refine y_if_ne (tgt := 57) (xl := r5.toInt) b rfl dX12_sumUp_52 (by decide) (fun c1 => ?_) (fun c1 => ?_)
  · replace h := h.1 c1
    refine z_aload_n b dX12_sumUp_57 rfl rfl ?_
    refine z_iload_n b dX12_sumUp_58 rfl rfl ?_
    refine z_iconst (v := 0) b dX12_sumUp_59 (by decide) ?_
    refine z_callv b (z_runV (q0 := 0) (As := [.int y0, .int 0]) (st := []) b (k_X12_lay S6 y0 0 _ h) cf_X12_lay (mw_0 cy a S6) rfl wm_X12_288 wi_X12_lay ws_X12_lay dX12_sumUp_60 rfl (Nat.le_of_ble_eq_true rfl) ⟨by decide, by decide, by decide, by decide⟩) (fun S8 h => ?_)
    refine z_goto (tgt := 9) b dX12_sumUp_63 (by decide) ?_
    refine z_lv0 (lv' := [(0, .ref (a 0))]) [1] rfl ?_
    exact hk9 _ h
  · replace h := h.2 c1
    refine z_iconst (v := 0) b dX12_sumUp_55 (by decide) ?_
    exact z_zret (u := S6) b rfl (by decide) dX12_sumUp_56 h rfl (by decide) (by decide)

def w_X12_sumUp_B27 (post : Int32 → GS → Prop) (k9 : GS → Prop) (k66 : GS → Prop) (S : GS)  : Prop :=
  (((fi S 3).toInt ≠ 43 → w_X12_sumUp_B43 post k9 k66 S 9) ∧ ((fi S 3).toInt = 43 → w_X12_sumUp_B43 post k9 k66 S 8))

set_option maxHeartbeats 4000000 in
set_option maxRecDepth 100000 in
theorem z_X12_sumUp_B27 {p : Program} {l : Launch} {e : Env} {R : Room} {s : State} {m : MethodId} {args : Array Value} {below : List Frame} {meth : Method} {c : Code} {D : va_G} {cy : Nat → ClassId} {T0 tB tE : Nat} {A : Nat → Prop} {a : Nat → Nat} {post : Int32 → GS → Prop} {k9 : GS → Prop} {k66 : GS → Prop} (b : Bz p R s m args meth c D cy T0 tB tE A 2 cX12_sumUp RX12 (some .boolean) "sumUp" 11 233 0 0) (hk9 : ∀ (S : GS), k9 S → Z p l e R s m args below meth c D A 2 (MQ below (QI D (U := GS) post (mw cy a) A) args s 0 0 A) 0 0 (mw cy a S) [(0, .ref (a 0))] 9 []) (hk66 : ∀ (S : GS), k66 S → Z p l e R s m args below meth c D A 2 (MQ below (QI D (U := GS) post (mw cy a) A) args s 0 0 A) 0 0 (mw cy a S) [] 66 []) (S : GS)  (h : w_X12_sumUp_B27 post k9 k66 S ) : Z p l e R s m args below meth c D A 2 (MQ below (QI D (U := GS) post (mw cy a) A) args s 0 0 A) 0 0 (mw cy a S) [(0, .ref (a 0))] 27 [] := by
  unfold w_X12_sumUp_B27 at h
  refine z_aload_n b dX12_sumUp_27 rfl rfl ?_
  refine z_get (q0 := 0) (k9 := 27) (v := .int (fi S 3)) b (mw_0 cy a S) rfl in_X12 (by decide) wf_X12_242 rfl dX12_sumUp_28 ?_
  refine z_bipush (v := 43) b dX12_sumUp_31 (by decide) ?_
  refine y_icmp_ne (tgt := 41) (xl := (fi S 3).toInt) (yl := 43) b rfl (by decide) dX12_sumUp_33 (by decide) (fun c1 => ?_) (fun c1 => ?_)
  · replace h := h.1 c1
    refine z_bipush (v := 9) b dX12_sumUp_41 (by decide) ?_
    exact z_X12_sumUp_B43 b hk9 hk66 _ _ h
  · replace h := h.2 c1
    refine z_bipush (v := 8) b dX12_sumUp_36 (by decide) ?_
    refine z_goto (tgt := 43) b dX12_sumUp_38 (by decide) ?_
    exact z_X12_sumUp_B43 b hk9 hk66 _ _ h

def w_X12_sumUp_F9 (post : Int32 → GS → Prop) (k66 : GS → Prop) (k9 : GS → Prop) (S : GS)  : Prop :=
  (((fi S 3).toInt = 43 → w_X12_sumUp_B27 post k9 k66 S) ∧ ((fi S 3).toInt ≠ 43 → (((fi S 3).toInt ≠ 45 → k66 S) ∧ ((fi S 3).toInt = 45 → w_X12_sumUp_B27 post k9 k66 S))))

set_option maxHeartbeats 4000000 in
set_option maxRecDepth 100000 in
theorem z_X12_sumUp_F9 {p : Program} {l : Launch} {e : Env} {R : Room} {s : State} {m : MethodId} {args : Array Value} {below : List Frame} {meth : Method} {c : Code} {D : va_G} {cy : Nat → ClassId} {T0 tB tE : Nat} {A : Nat → Prop} {a : Nat → Nat} {post : Int32 → GS → Prop} {k66 : GS → Prop} {k9 : GS → Prop} (b : Bz p R s m args meth c D cy T0 tB tE A 2 cX12_sumUp RX12 (some .boolean) "sumUp" 11 233 0 0) (hk66 : ∀ (S : GS), k66 S → Z p l e R s m args below meth c D A 2 (MQ below (QI D (U := GS) post (mw cy a) A) args s 0 0 A) 0 0 (mw cy a S) [] 66 []) (hk9 : ∀ (S : GS), k9 S → Z p l e R s m args below meth c D A 2 (MQ below (QI D (U := GS) post (mw cy a) A) args s 0 0 A) 0 0 (mw cy a S) [(0, .ref (a 0))] 9 []) (S : GS)  (h : w_X12_sumUp_F9 post k66 k9 S ) : Z p l e R s m args below meth c D A 2 (MQ below (QI D (U := GS) post (mw cy a) A) args s 0 0 A) 0 0 (mw cy a S) [(0, .ref (a 0))] 9 [] := by
  unfold w_X12_sumUp_F9 at h
  refine z_aload_n b dX12_sumUp_9 rfl rfl ?_
  refine z_get (q0 := 0) (k9 := 27) (v := .int (fi S 3)) b (mw_0 cy a S) rfl in_X12 (by decide) wf_X12_242 rfl dX12_sumUp_10 ?_
  refine z_bipush (v := 43) b dX12_sumUp_13 (by decide) ?_
  refine y_icmp_eq (tgt := 27) (xl := (fi S 3).toInt) (yl := 43) b rfl (by decide) dX12_sumUp_15 (by decide) (fun c1 => ?_) (fun c1 => ?_)
  · replace h := h.1 c1
    exact z_X12_sumUp_B27 b hk9 hk66 _ h
  · replace h := h.2 c1
    refine z_aload_n b dX12_sumUp_18 rfl rfl ?_
    refine z_get (q0 := 0) (k9 := 27) (v := .int (fi S 3)) b (mw_0 cy a S) rfl in_X12 (by decide) wf_X12_242 rfl dX12_sumUp_19 ?_
    refine z_bipush (v := 45) b dX12_sumUp_22 (by decide) ?_
    refine y_icmp_ne (tgt := 66) (xl := (fi S 3).toInt) (yl := 45) b rfl (by decide) dX12_sumUp_24 (by decide) (fun c1 => ?_) (fun c1 => ?_)
    · replace h := h.1 c1
      refine z_lv0 (lv' := []) [] rfl ?_
      exact hk66 _ h
    · replace h := h.2 c1
      exact z_X12_sumUp_B27 b hk9 hk66 _ h

set_option maxHeartbeats 4000000 in
set_option maxRecDepth 100000 in
theorem zl_X12_sumUp_L9 {p : Program} {l : Launch} {e : Env} {R : Room} {s : State} {m : MethodId} {args : Array Value} {below : List Frame} {meth : Method} {c : Code} {D : va_G} {cy : Nat → ClassId} {T0 tB tE : Nat} {A : Nat → Prop} {a : Nat → Nat} {post : Int32 → GS → Prop} {k66 : GS → Prop} (b : Bz p R s m args meth c D cy T0 tB tE A 2 cX12_sumUp RX12 (some .boolean) "sumUp" 11 233 0 0) (hk66 : ∀ (S : GS), k66 S → Z p l e R s m args below meth c D A 2 (MQ below (QI D (U := GS) post (mw cy a) A) args s 0 0 A) 0 0 (mw cy a S) [] 66 []) : ∀ (n : Nat) (S : GS), lpn (w_X12_sumUp_F9 post k66) (fun _ => False) n S  → Z p l e R s m args below meth c D A 2 (MQ below (QI D (U := GS) post (mw cy a) A) args s 0 0 A) 0 0 (mw cy a S) [(0, .ref (a 0))] 9 [] := by
  intro n
  induction n with
  | zero => intro _ h; exact h.elim
  | succ n ih => intro S  h; exact z_X12_sumUp_F9 b hk66 ih S  h

def w_X12_sumUp_B66 (post : Int32 → GS → Prop) (S : GS)  : Prop :=
  post 1 S

set_option maxHeartbeats 4000000 in
set_option maxRecDepth 100000 in
theorem z_X12_sumUp_B66 {p : Program} {l : Launch} {e : Env} {R : Room} {s : State} {m : MethodId} {args : Array Value} {below : List Frame} {meth : Method} {c : Code} {D : va_G} {cy : Nat → ClassId} {T0 tB tE : Nat} {A : Nat → Prop} {a : Nat → Nat} {post : Int32 → GS → Prop} (b : Bz p R s m args meth c D cy T0 tB tE A 2 cX12_sumUp RX12 (some .boolean) "sumUp" 11 233 0 0) (S : GS)  (h : w_X12_sumUp_B66 post S ) : Z p l e R s m args below meth c D A 2 (MQ below (QI D (U := GS) post (mw cy a) A) args s 0 0 A) 0 0 (mw cy a S) [] 66 [] := by
  unfold w_X12_sumUp_B66 at h
  refine z_iconst (v := 1) b dX12_sumUp_66 (by decide) ?_
  exact z_zret (u := S) b rfl (by decide) dX12_sumUp_67 h rfl (by decide) (by decide)

def w_X12_sumUp (S : GS)  (post : Int32 → GS → Prop) : Prop :=
  w_X12_product S (fun r1 S2 => ((r1.toInt ≠ 0 → ∃ n, lpn (w_X12_sumUp_F9 post (w_X12_sumUp_B66 post)) (fun _ => False) n S2) ∧ (r1.toInt = 0 → post 0 S2)))

set_option maxHeartbeats 4000000 in
set_option maxRecDepth 100000 in
theorem k_X12_sumUp {l : Launch} {D : va_G} {cy : Nat → ClassId} {T0 tB tE : Nat} {a : Nat → Nat} (S : GS)  (post : Int32 → GS → Prop) (h : w_X12_sumUp S  post) : Ct l D cy T0 tB tE yX12_sumUp cX12_sumUp 2 (some .boolean) 11 233 0 0 (mw cy a S) [.ref (a 0)] (QI D (U := GS) post (mw cy a)) := by
  refine Ct.ofZ RX12 "sumUp" [(0, .ref (a 0))] rfl rfl rfl rfl (Nat.le_of_ble_eq_true rfl) ?_
  intro p e R s m args below meth c A b
  unfold w_X12_sumUp at h
  refine z_aload_n b dX12_sumUp_0 rfl rfl ?_
  refine z_calli b (z_runV (q0 := 0) (As := []) (st := []) b (k_X12_product S _ h) cf_X12_product (mw_0 cy a S) rfl wm_X12_285 wi_X12_product ws_X12_product dX12_sumUp_1 rfl (Nat.le_of_ble_eq_true rfl) ⟨by decide, by decide, by decide, by decide⟩) (fun r1 S2 h => ?_)
  refine y_if_ne (tgt := 9) (xl := r1.toInt) b rfl dX12_sumUp_4 (by decide) (fun c1 => ?_) (fun c1 => ?_)
  · replace h := h.1 c1
    obtain ⟨n, h⟩ := h
    exact zl_X12_sumUp_L9 b (fun S h => z_X12_sumUp_B66 b _ h) n _ h
  · replace h := h.2 c1
    refine z_iconst (v := 0) b dX12_sumUp_7 (by decide) ?_
    exact z_zret (u := S2) b rfl (by decide) dX12_sumUp_8 h rfl (by decide) (by decide)

def w_X12_opens (S : GS)  (post : Int32 → GS → Prop) : Prop :=
  (((fi S 9).toInt ≠ 8 → w_X12_next0 (si S 9 ((fi S 9) + 1)) (fun S2 => post 1 S2)) ∧ ((fi S 9).toInt = 8 → w_X12_bad S 3 (fun r3 S4 => (r3 = 0 ∨ r3 = 1) ∧ post r3 S4)))

set_option maxHeartbeats 4000000 in
set_option maxRecDepth 100000 in
theorem k_X12_opens {l : Launch} {D : va_G} {cy : Nat → ClassId} {T0 tB tE : Nat} {a : Nat → Nat} (S : GS)  (post : Int32 → GS → Prop) (h : w_X12_opens S  post) : Ct l D cy T0 tB tE yX12_opens cX12_opens 1 (some .boolean) 7 150 0 0 (mw cy a S) [.ref (a 0)] (QI D (U := GS) post (mw cy a)) := by
  refine Ct.ofZ RX12 "opens" [(0, .ref (a 0))] rfl rfl rfl rfl (Nat.le_of_ble_eq_true rfl) ?_
  intro p e R s m args below meth c A b
  unfold w_X12_opens at h
  refine z_aload_n b dX12_opens_0 rfl rfl ?_
  refine z_get (q0 := 0) (k9 := 33) (v := .int (fi S 9)) b (mw_0 cy a S) rfl in_X12 (by decide) wf_X12_282 rfl dX12_opens_1 ?_
  refine z_bipush (v := 8) b dX12_opens_4 (by decide) ?_
  refine y_icmp_ne (tgt := 15) (xl := (fi S 9).toInt) (yl := 8) b rfl (by decide) dX12_opens_6 (by decide) (fun c1 => ?_) (fun c1 => ?_)
  · replace h := h.1 c1
    refine z_aload_n b dX12_opens_15 rfl rfl ?_
    refine z_dup b dX12_opens_16 rfl ?_
    refine z_get (q0 := 0) (k9 := 33) (v := .int (fi S 9)) b (mw_0 cy a S) rfl in_X12 (by decide) wf_X12_282 rfl dX12_opens_17 ?_
    refine z_iconst (v := 1) b dX12_opens_20 (by decide) ?_
    refine z_iadd b dX12_opens_21 rfl ?_
    refine z_put (q0 := 0) (k9 := 33) tyX12 b (mw_0 cy a S) rfl in_X12 tyX12_ok nmX12 (by decide) wf_X12_282 rfl rfl rfl rfl (Nat.le_of_ble_eq_true rfl) dX12_opens_22 (mwp_0_33 cy a S ((fi S 9) + 1)) ?_
    refine z_aload_n b dX12_opens_25 rfl rfl ?_
    refine z_callv b (z_runV (q0 := 0) (As := []) (st := []) b (k_X12_next0 (si S 9 ((fi S 9) + 1)) _ h) cf_X12_next0 (mw_0 cy a (si S 9 ((fi S 9) + 1))) rfl wm_X12_266 wi_X12_next0 ws_X12_next0 dX12_opens_26 rfl (Nat.le_of_ble_eq_true rfl) ⟨by decide, by decide, by decide, by decide⟩) (fun S2 h => ?_)
    refine z_iconst (v := 1) b dX12_opens_29 (by decide) ?_
    exact z_zret (u := S2) b rfl (by decide) dX12_opens_30 h rfl (by decide) (by decide)
  · replace h := h.2 c1
    refine z_aload_n b dX12_opens_9 rfl rfl ?_
    refine z_iconst (v := 3) b dX12_opens_10 (by decide) ?_
    refine z_calli b (z_runV (q0 := 0) (As := [.int 3]) (st := []) b (k_X12_bad S 3 _ h) cf_X12_bad (mw_0 cy a S) rfl wm_X12_263 wi_X12_bad ws_X12_bad dX12_opens_11 rfl (Nat.le_of_ble_eq_true rfl) ⟨by decide, by decide, by decide, by decide⟩) (fun r3 S4 h => ?_)
    obtain ⟨g5, h⟩ := h
    exact z_zret (u := S4) b rfl (z_bool g5) dX12_opens_14 h rfl (by decide) (by decide)

def w_X12_need (S : GS) (p0 : Int32) (post : Int32 → GS → Prop) : Prop :=
  (((fi S 3).toInt = p0.toInt → w_X12_next0 S (fun S2 => post 1 S2)) ∧ ((fi S 3).toInt ≠ p0.toInt → w_X12_bad S 1 (fun r3 S4 => (r3 = 0 ∨ r3 = 1) ∧ post r3 S4)))

set_option maxHeartbeats 4000000 in
set_option maxRecDepth 100000 in
theorem k_X12_need {l : Launch} {D : va_G} {cy : Nat → ClassId} {T0 tB tE : Nat} {a : Nat → Nat} (S : GS) (p0 : Int32) (post : Int32 → GS → Prop) (h : w_X12_need S p0 post) : Ct l D cy T0 tB tE yX12_need cX12_need 2 (some .boolean) 7 150 0 0 (mw cy a S) [.ref (a 0), .int p0] (QI D (U := GS) post (mw cy a)) := by
  refine Ct.ofZ RX12 "need" [(0, .ref (a 0)), (1, .int p0)] rfl rfl rfl rfl (Nat.le_of_ble_eq_true rfl) ?_
  intro p e R s m args below meth c A b
  unfold w_X12_need at h
  refine z_aload_n b dX12_need_0 rfl rfl ?_
  refine z_get (q0 := 0) (k9 := 27) (v := .int (fi S 3)) b (mw_0 cy a S) rfl in_X12 (by decide) wf_X12_242 rfl dX12_need_1 ?_
  refine z_iload_n b dX12_need_4 rfl rfl ?_
  refine y_icmp_eq (tgt := 14) (xl := (fi S 3).toInt) (yl := p0.toInt) b rfl rfl dX12_need_5 (by decide) (fun c1 => ?_) (fun c1 => ?_)
  · replace h := h.1 c1
    refine z_aload_n b dX12_need_14 rfl rfl ?_
    refine z_callv b (z_runV (q0 := 0) (As := []) (st := []) b (k_X12_next0 S _ h) cf_X12_next0 (mw_0 cy a S) rfl wm_X12_266 wi_X12_next0 ws_X12_next0 dX12_need_15 rfl (Nat.le_of_ble_eq_true rfl) ⟨by decide, by decide, by decide, by decide⟩) (fun S2 h => ?_)
    refine z_iconst (v := 1) b dX12_need_18 (by decide) ?_
    exact z_zret (u := S2) b rfl (by decide) dX12_need_19 h rfl (by decide) (by decide)
  · replace h := h.2 c1
    refine z_aload_n b dX12_need_8 rfl rfl ?_
    refine z_iconst (v := 1) b dX12_need_9 (by decide) ?_
    refine z_calli b (z_runV (q0 := 0) (As := [.int 1]) (st := []) b (k_X12_bad S 1 _ h) cf_X12_bad (mw_0 cy a S) rfl wm_X12_263 wi_X12_bad ws_X12_bad dX12_need_10 rfl (Nat.le_of_ble_eq_true rfl) ⟨by decide, by decide, by decide, by decide⟩) (fun r3 S4 h => ?_)
    obtain ⟨g5, h⟩ := h
    exact z_zret (u := S4) b rfl (z_bool g5) dX12_need_13 h rfl (by decide) (by decide)

def w_X12_single_B143 (sg : GS → (Int32 → GS → Prop) → Prop) (post : Int32 → GS → Prop) (S : GS) (y0 : Int32) : Prop :=
  ((y0.toInt ≠ (-1) → w_X12_next0 S (fun S4 => w_X12_sumUp S4 (fun r5 S6 => ((r5.toInt ≠ 0 → w_X12_lay S6 y0 0 (fun S8 => post 1 S8)) ∧ (r5.toInt = 0 → post 0 S6))))) ∧ (y0.toInt = (-1) → w_X12_bad S 1 (fun r9 S10 => (r9 = 0 ∨ r9 = 1) ∧ post r9 S10)))

set_option maxHeartbeats 4000000 in
set_option maxRecDepth 100000 in
theorem z_X12_single_B143 {p : Program} {l : Launch} {e : Env} {R : Room} {s : State} {m : MethodId} {args : Array Value} {below : List Frame} {meth : Method} {c : Code} {D : va_G} {cy : Nat → ClassId} {T0 tB tE : Nat} {A : Nat → Prop} {a : Nat → Nat} {d : Nat} {sg : GS → (Int32 → GS → Prop) → Prop} (hsg : ∀ (S : GS) (post : Int32 → GS → Prop), sg S post → Ct l D cy T0 tB tE yX12_single cX12_single 2 (some .boolean) (12 + 3 * d) (254 + 61 * d) 0 0 (mw cy a S) [.ref (a 0)] (QI D (U := GS) post (mw cy a))) {post : Int32 → GS → Prop} (b : Bz p R s m args meth c D cy T0 tB tE A 2 cX12_single RX12 (some .boolean) "single" (12 + 3 * d + 3) (254 + 61 * d + 61) 0 0) (S : GS) (y0 : Int32) (h : w_X12_single_B143 sg post S y0) : Z p l e R s m args below meth c D A 2 (MQ below (QI D (U := GS) post (mw cy a) A) args s 0 0 A) 0 0 (mw cy a S) [(0, .ref (a 0))] 143 [.int y0] := by
  unfold w_X12_single_B143 at h
  refine z_istore_n (lv' := [(1, .int y0), (0, .ref (a 0))]) b dX12_single_143 rfl (by decide) rfl ?_
  refine z_iload_n b dX12_single_144 rfl rfl ?_
  refine z_iconst (v := (-1)) b dX12_single_145 (by decide) ?_
  refine y_icmp_ne (tgt := 155) (xl := y0.toInt) (yl := (-1)) b rfl (by decide) dX12_single_146 (by decide) (fun c1 => ?_) (fun c1 => ?_)
  · replace h := h.1 c1
    refine z_aload_n b dX12_single_155 rfl rfl ?_
    refine z_callv b (z_runV (q0 := 0) (As := []) (st := []) b (k_X12_next0 S _ h) cf_X12_next0 (mw_0 cy a S) rfl wm_X12_266 wi_X12_next0 ws_X12_next0 dX12_single_156 rfl (Nat.le_of_ble_eq_true rfl) ⟨by omega, by omega, by decide, by decide⟩) (fun S4 h => ?_)
    refine z_aload_n b dX12_single_159 rfl rfl ?_
    refine z_calli b (z_runV (q0 := 0) (As := []) (st := []) b (k_X12_sumUp S4 _ h) cf_X12_sumUp (mw_0 cy a S4) rfl wm_X12_315 wi_X12_sumUp ws_X12_sumUp dX12_single_160 rfl (Nat.le_of_ble_eq_true rfl) ⟨by omega, by omega, by decide, by decide⟩) (fun r5 S6 h => ?_)
    refine y_if_ne (tgt := 168) (xl := r5.toInt) b rfl dX12_single_163 (by decide) (fun c1 => ?_) (fun c1 => ?_)
    · replace h := h.1 c1
      refine z_aload_n b dX12_single_168 rfl rfl ?_
      refine z_iload_n b dX12_single_169 rfl rfl ?_
      refine z_iconst (v := 0) b dX12_single_170 (by decide) ?_
      refine z_callv b (z_runV (q0 := 0) (As := [.int y0, .int 0]) (st := []) b (k_X12_lay S6 y0 0 _ h) cf_X12_lay (mw_0 cy a S6) rfl wm_X12_288 wi_X12_lay ws_X12_lay dX12_single_171 rfl (Nat.le_of_ble_eq_true rfl) ⟨by omega, by omega, by decide, by decide⟩) (fun S8 h => ?_)
      refine z_iconst (v := 1) b dX12_single_174 (by decide) ?_
      exact z_zret (u := S8) b rfl (by decide) dX12_single_175 h rfl (by decide) (by decide)
    · replace h := h.2 c1
      refine z_iconst (v := 0) b dX12_single_166 (by decide) ?_
      exact z_zret (u := S6) b rfl (by decide) dX12_single_167 h rfl (by decide) (by decide)
  · replace h := h.2 c1
    refine z_aload_n b dX12_single_149 rfl rfl ?_
    refine z_iconst (v := 1) b dX12_single_150 (by decide) ?_
    refine z_calli b (z_runV (q0 := 0) (As := [.int 1]) (st := []) b (k_X12_bad S 1 _ h) cf_X12_bad (mw_0 cy a S) rfl wm_X12_263 wi_X12_bad ws_X12_bad dX12_single_151 rfl (Nat.le_of_ble_eq_true rfl) ⟨by omega, by omega, by decide, by decide⟩) (fun r9 S10 h => ?_)
    obtain ⟨g11, h⟩ := h
    exact z_zret (u := S10) b rfl (z_bool g11) dX12_single_154 h rfl (by decide) (by decide)

def w_X12_single_B77 (sg : GS → (Int32 → GS → Prop) → Prop) (post : Int32 → GS → Prop) (S : GS)  : Prop :=
  post 0 S

set_option maxHeartbeats 4000000 in
set_option maxRecDepth 100000 in
theorem z_X12_single_B77 {p : Program} {l : Launch} {e : Env} {R : Room} {s : State} {m : MethodId} {args : Array Value} {below : List Frame} {meth : Method} {c : Code} {D : va_G} {cy : Nat → ClassId} {T0 tB tE : Nat} {A : Nat → Prop} {a : Nat → Nat} {d : Nat} {sg : GS → (Int32 → GS → Prop) → Prop} (hsg : ∀ (S : GS) (post : Int32 → GS → Prop), sg S post → Ct l D cy T0 tB tE yX12_single cX12_single 2 (some .boolean) (12 + 3 * d) (254 + 61 * d) 0 0 (mw cy a S) [.ref (a 0)] (QI D (U := GS) post (mw cy a))) {post : Int32 → GS → Prop} (b : Bz p R s m args meth c D cy T0 tB tE A 2 cX12_single RX12 (some .boolean) "single" (12 + 3 * d + 3) (254 + 61 * d + 61) 0 0) (S : GS)  (h : w_X12_single_B77 sg post S ) : Z p l e R s m args below meth c D A 2 (MQ below (QI D (U := GS) post (mw cy a) A) args s 0 0 A) 0 0 (mw cy a S) [] 77 [] := by
  unfold w_X12_single_B77 at h
  refine z_iconst (v := 0) b dX12_single_77 (by decide) ?_
  exact z_zret (u := S) b rfl (by decide) dX12_single_78 h rfl (by decide) (by decide)

def w_X12_single_B24 (sg : GS → (Int32 → GS → Prop) → Prop) (post : Int32 → GS → Prop) (S : GS)  : Prop :=
  post 0 S

set_option maxHeartbeats 4000000 in
set_option maxRecDepth 100000 in
theorem z_X12_single_B24 {p : Program} {l : Launch} {e : Env} {R : Room} {s : State} {m : MethodId} {args : Array Value} {below : List Frame} {meth : Method} {c : Code} {D : va_G} {cy : Nat → ClassId} {T0 tB tE : Nat} {A : Nat → Prop} {a : Nat → Nat} {d : Nat} {sg : GS → (Int32 → GS → Prop) → Prop} (hsg : ∀ (S : GS) (post : Int32 → GS → Prop), sg S post → Ct l D cy T0 tB tE yX12_single cX12_single 2 (some .boolean) (12 + 3 * d) (254 + 61 * d) 0 0 (mw cy a S) [.ref (a 0)] (QI D (U := GS) post (mw cy a))) {post : Int32 → GS → Prop} (b : Bz p R s m args meth c D cy T0 tB tE A 2 cX12_single RX12 (some .boolean) "single" (12 + 3 * d + 3) (254 + 61 * d + 61) 0 0) (S : GS)  (h : w_X12_single_B24 sg post S ) : Z p l e R s m args below meth c D A 2 (MQ below (QI D (U := GS) post (mw cy a) A) args s 0 0 A) 0 0 (mw cy a S) [] 24 [] := by
  unfold w_X12_single_B24 at h
  refine z_iconst (v := 0) b dX12_single_24 (by decide) ?_
  exact z_zret (u := S) b rfl (by decide) dX12_single_25 h rfl (by decide) (by decide)

def w_X12_single_R (sg : GS → (Int32 → GS → Prop) → Prop) (S : GS)  (post : Int32 → GS → Prop) : Prop :=
  (((fi S 3).toInt ≠ 314 → (((fi S 3).toInt ≠ 40 → w_X12_sumUp S (fun r1 S2 => ((r1.toInt ≠ 0 → (((fi S2 3).toInt ≠ 60 → (((fi S2 3).toInt ≠ 61 → (((fi S2 3).toInt ≠ 62 → w_X12_single_B143 sg post S2 (-1)) ∧ ((fi S2 3).toInt = 62 → w_X12_single_B143 sg post S2 13))) ∧ ((fi S2 3).toInt = 61 → w_X12_single_B143 sg post S2 12))) ∧ ((fi S2 3).toInt = 60 → w_X12_single_B143 sg post S2 11))) ∧ (r1.toInt = 0 → post 0 S2)))) ∧ ((fi S 3).toInt = 40 → w_X12_opens S (fun r12 S13 => ((r12.toInt = 0 → w_X12_single_B77 sg post S13) ∧ (r12.toInt ≠ 0 → w_X12_any_R sg S13 (fun r14 S15 => ((r14.toInt = 0 → w_X12_single_B77 sg post S15) ∧ (r14.toInt ≠ 0 → w_X12_need S15 41 (fun r16 S17 => ((r16.toInt ≠ 0 → post 1 (si S17 9 ((fi S17 9) - 1))) ∧ (r16.toInt = 0 → w_X12_single_B77 sg post S17)))))))))))) ∧ ((fi S 3).toInt = 314 → w_X12_opens S (fun r18 S19 => ((r18.toInt = 0 → w_X12_single_B24 sg post S19) ∧ (r18.toInt ≠ 0 → sg S19 (fun r20 S21 => ((r20.toInt ≠ 0 → w_X12_lay (si S21 9 ((fi S21 9) - 1)) 14 0 (fun S23 => post 1 S23)) ∧ (r20.toInt = 0 → w_X12_single_B24 sg post S21))))))))

set_option maxHeartbeats 4000000 in
set_option maxRecDepth 100000 in
theorem k_X12_single_R {l : Launch} {D : va_G} {cy : Nat → ClassId} {T0 tB tE : Nat} {a : Nat → Nat} {d : Nat} {sg : GS → (Int32 → GS → Prop) → Prop} (hsg : ∀ (S : GS) (post : Int32 → GS → Prop), sg S post → Ct l D cy T0 tB tE yX12_single cX12_single 2 (some .boolean) (12 + 3 * d) (254 + 61 * d) 0 0 (mw cy a S) [.ref (a 0)] (QI D (U := GS) post (mw cy a))) (S : GS)  (post : Int32 → GS → Prop) (h : w_X12_single_R sg S  post) : Ct l D cy T0 tB tE yX12_single cX12_single 2 (some .boolean) (12 + 3 * d + 3) (254 + 61 * d + 61) 0 0 (mw cy a S) [.ref (a 0)] (QI D (U := GS) post (mw cy a)) := by
  refine Ct.ofZ RX12 "single" [(0, .ref (a 0))] rfl rfl rfl rfl (Nat.le_of_ble_eq_true rfl) ?_
  intro p e R s m args below meth c A b
  unfold w_X12_single_R at h
  refine z_aload_n b dX12_single_0 rfl rfl ?_
  refine z_get (q0 := 0) (k9 := 27) (v := .int (fi S 3)) b (mw_0 cy a S) rfl in_X12 (by decide) wf_X12_242 rfl dX12_single_1 ?_
  refine z_sipush (v := 314) b dX12_single_4 (by decide) ?_
  refine y_icmp_ne (tgt := 45) (xl := (fi S 3).toInt) (yl := 314) b rfl (by decide) dX12_single_7 (by decide) (fun c1 => ?_) (fun c1 => ?_)
  · replace h := h.1 c1
    refine z_aload_n b dX12_single_45 rfl rfl ?_
    refine z_get (q0 := 0) (k9 := 27) (v := .int (fi S 3)) b (mw_0 cy a S) rfl in_X12 (by decide) wf_X12_242 rfl dX12_single_46 ?_
    refine z_bipush (v := 40) b dX12_single_49 (by decide) ?_
    refine y_icmp_ne (tgt := 91) (xl := (fi S 3).toInt) (yl := 40) b rfl (by decide) dX12_single_51 (by decide) (fun c1 => ?_) (fun c1 => ?_)
    · replace h := h.1 c1
      refine z_aload_n b dX12_single_91 rfl rfl ?_
      refine z_calli b (z_runV (q0 := 0) (As := []) (st := []) b (k_X12_sumUp S _ h) cf_X12_sumUp (mw_0 cy a S) rfl wm_X12_315 wi_X12_sumUp ws_X12_sumUp dX12_single_92 rfl (Nat.le_of_ble_eq_true rfl) ⟨by omega, by omega, by decide, by decide⟩) (fun r1 S2 h => ?_)
      refine y_if_ne (tgt := 100) (xl := r1.toInt) b rfl dX12_single_95 (by decide) (fun c1 => ?_) (fun c1 => ?_)
      · replace h := h.1 c1
        refine z_aload_n b dX12_single_100 rfl rfl ?_
        refine z_get (q0 := 0) (k9 := 27) (v := .int (fi S2 3)) b (mw_0 cy a S2) rfl in_X12 (by decide) wf_X12_242 rfl dX12_single_101 ?_
        refine z_bipush (v := 60) b dX12_single_104 (by decide) ?_
        refine y_icmp_ne (tgt := 114) (xl := (fi S2 3).toInt) (yl := 60) b rfl (by decide) dX12_single_106 (by decide) (fun c1 => ?_) (fun c1 => ?_)
        · replace h := h.1 c1
          refine z_aload_n b dX12_single_114 rfl rfl ?_
          refine z_get (q0 := 0) (k9 := 27) (v := .int (fi S2 3)) b (mw_0 cy a S2) rfl in_X12 (by decide) wf_X12_242 rfl dX12_single_115 ?_
          refine z_bipush (v := 61) b dX12_single_118 (by decide) ?_
          refine y_icmp_ne (tgt := 128) (xl := (fi S2 3).toInt) (yl := 61) b rfl (by decide) dX12_single_120 (by decide) (fun c1 => ?_) (fun c1 => ?_)
          · replace h := h.1 c1
            refine z_aload_n b dX12_single_128 rfl rfl ?_
            refine z_get (q0 := 0) (k9 := 27) (v := .int (fi S2 3)) b (mw_0 cy a S2) rfl in_X12 (by decide) wf_X12_242 rfl dX12_single_129 ?_
            refine z_bipush (v := 62) b dX12_single_132 (by decide) ?_
            refine y_icmp_ne (tgt := 142) (xl := (fi S2 3).toInt) (yl := 62) b rfl (by decide) dX12_single_134 (by decide) (fun c1 => ?_) (fun c1 => ?_)
            · replace h := h.1 c1
              refine z_iconst (v := (-1)) b dX12_single_142 (by decide) ?_
              exact z_X12_single_B143 hsg b _ _ h
            · replace h := h.2 c1
              refine z_bipush (v := 13) b dX12_single_137 (by decide) ?_
              refine z_goto (tgt := 143) b dX12_single_139 (by decide) ?_
              exact z_X12_single_B143 hsg b _ _ h
          · replace h := h.2 c1
            refine z_bipush (v := 12) b dX12_single_123 (by decide) ?_
            refine z_goto (tgt := 143) b dX12_single_125 (by decide) ?_
            exact z_X12_single_B143 hsg b _ _ h
        · replace h := h.2 c1
          refine z_bipush (v := 11) b dX12_single_109 (by decide) ?_
          refine z_goto (tgt := 143) b dX12_single_111 (by decide) ?_
          exact z_X12_single_B143 hsg b _ _ h
      · replace h := h.2 c1
        refine z_iconst (v := 0) b dX12_single_98 (by decide) ?_
        exact z_zret (u := S2) b rfl (by decide) dX12_single_99 h rfl (by decide) (by decide)
    · replace h := h.2 c1
      refine z_aload_n b dX12_single_54 rfl rfl ?_
      refine z_calli b (z_runV (q0 := 0) (As := []) (st := []) b (k_X12_opens S _ h) cf_X12_opens (mw_0 cy a S) rfl wm_X12_307 wi_X12_opens ws_X12_opens dX12_single_55 rfl (Nat.le_of_ble_eq_true rfl) ⟨by omega, by omega, by decide, by decide⟩) (fun r12 S13 h => ?_)
      refine y_if_eq (tgt := 77) (xl := r12.toInt) b rfl dX12_single_58 (by decide) (fun c1 => ?_) (fun c1 => ?_)
      · replace h := h.1 c1
        refine z_lv0 (lv' := []) [] rfl ?_
        exact z_X12_single_B77 hsg b _ h
      · replace h := h.2 c1
        refine z_aload_n b dX12_single_61 rfl rfl ?_
        refine z_calli b (z_runV (q0 := 0) (As := []) (st := []) b (k_X12_any_R hsg S13 _ h) cf_X12_any (mw_0 cy a S13) rfl wm_X12_310 wi_X12_any ws_X12_any dX12_single_62 rfl (Nat.le_of_ble_eq_true rfl) ⟨by omega, by omega, by decide, by decide⟩) (fun r14 S15 h => ?_)
        refine y_if_eq (tgt := 77) (xl := r14.toInt) b rfl dX12_single_65 (by decide) (fun c1 => ?_) (fun c1 => ?_)
        · replace h := h.1 c1
          refine z_lv0 (lv' := []) [] rfl ?_
          exact z_X12_single_B77 hsg b _ h
        · replace h := h.2 c1
          refine z_aload_n b dX12_single_68 rfl rfl ?_
          refine z_bipush (v := 41) b dX12_single_69 (by decide) ?_
          refine z_calli b (z_runV (q0 := 0) (As := [.int 41]) (st := []) b (k_X12_need S15 41 _ h) cf_X12_need (mw_0 cy a S15) rfl wm_X12_313 wi_X12_need ws_X12_need dX12_single_71 rfl (Nat.le_of_ble_eq_true rfl) ⟨by omega, by omega, by decide, by decide⟩) (fun r16 S17 h => ?_)
          refine y_if_ne (tgt := 79) (xl := r16.toInt) b rfl dX12_single_74 (by decide) (fun c1 => ?_) (fun c1 => ?_)
          · replace h := h.1 c1
            refine z_aload_n b dX12_single_79 rfl rfl ?_
            refine z_dup b dX12_single_80 rfl ?_
            refine z_get (q0 := 0) (k9 := 33) (v := .int (fi S17 9)) b (mw_0 cy a S17) rfl in_X12 (by decide) wf_X12_282 rfl dX12_single_81 ?_
            refine z_iconst (v := 1) b dX12_single_84 (by decide) ?_
            refine z_isub b dX12_single_85 rfl ?_
            refine z_put (q0 := 0) (k9 := 33) tyX12 b (mw_0 cy a S17) rfl in_X12 tyX12_ok nmX12 (by decide) wf_X12_282 rfl rfl rfl rfl (Nat.le_of_ble_eq_true rfl) dX12_single_86 (mwp_0_33 cy a S17 ((fi S17 9) - 1)) ?_
            refine z_iconst (v := 1) b dX12_single_89 (by decide) ?_
            exact z_zret (u := (si S17 9 ((fi S17 9) - 1))) b rfl (by decide) dX12_single_90 h rfl (by decide) (by decide)
          · replace h := h.2 c1
            refine z_lv0 (lv' := []) [] rfl ?_
            exact z_X12_single_B77 hsg b _ h
  · replace h := h.2 c1
    refine z_aload_n b dX12_single_10 rfl rfl ?_
    refine z_calli b (z_runV (q0 := 0) (As := []) (st := []) b (k_X12_opens S _ h) cf_X12_opens (mw_0 cy a S) rfl wm_X12_307 wi_X12_opens ws_X12_opens dX12_single_11 rfl (Nat.le_of_ble_eq_true rfl) ⟨by omega, by omega, by decide, by decide⟩) (fun r18 S19 h => ?_)
    refine y_if_eq (tgt := 24) (xl := r18.toInt) b rfl dX12_single_14 (by decide) (fun c1 => ?_) (fun c1 => ?_)
    · replace h := h.1 c1
      refine z_lv0 (lv' := []) [] rfl ?_
      exact z_X12_single_B24 hsg b _ h
    · replace h := h.2 c1
      refine z_aload_n b dX12_single_17 rfl rfl ?_
      refine z_calli b (z_runV (q0 := 0) (As := []) (st := []) b (hsg S19 _ h) cf_X12_single (mw_0 cy a S19) rfl wm_X12_304 wi_X12_single ws_X12_single dX12_single_18 rfl (Nat.le_of_ble_eq_true rfl) ⟨by omega, by omega, by decide, by decide⟩) (fun r20 S21 h => ?_)
      refine y_if_ne (tgt := 26) (xl := r20.toInt) b rfl dX12_single_21 (by decide) (fun c1 => ?_) (fun c1 => ?_)
      · replace h := h.1 c1
        refine z_aload_n b dX12_single_26 rfl rfl ?_
        refine z_dup b dX12_single_27 rfl ?_
        refine z_get (q0 := 0) (k9 := 33) (v := .int (fi S21 9)) b (mw_0 cy a S21) rfl in_X12 (by decide) wf_X12_282 rfl dX12_single_28 ?_
        refine z_iconst (v := 1) b dX12_single_31 (by decide) ?_
        refine z_isub b dX12_single_32 rfl ?_
        refine z_put (q0 := 0) (k9 := 33) tyX12 b (mw_0 cy a S21) rfl in_X12 tyX12_ok nmX12 (by decide) wf_X12_282 rfl rfl rfl rfl (Nat.le_of_ble_eq_true rfl) dX12_single_33 (mwp_0_33 cy a S21 ((fi S21 9) - 1)) ?_
        refine z_aload_n b dX12_single_36 rfl rfl ?_
        refine z_bipush (v := 14) b dX12_single_37 (by decide) ?_
        refine z_iconst (v := 0) b dX12_single_39 (by decide) ?_
        refine z_callv b (z_runV (q0 := 0) (As := [.int 14, .int 0]) (st := []) b (k_X12_lay (si S21 9 ((fi S21 9) - 1)) 14 0 _ h) cf_X12_lay (mw_0 cy a (si S21 9 ((fi S21 9) - 1))) rfl wm_X12_288 wi_X12_lay ws_X12_lay dX12_single_40 rfl (Nat.le_of_ble_eq_true rfl) ⟨by omega, by omega, by decide, by decide⟩) (fun S23 h => ?_)
        refine z_iconst (v := 1) b dX12_single_43 (by decide) ?_
        exact z_zret (u := S23) b rfl (by decide) dX12_single_44 h rfl (by decide) (by decide)
      · replace h := h.2 c1
        refine z_lv0 (lv' := []) [] rfl ?_
        exact z_X12_single_B24 hsg b _ h

set_option maxHeartbeats 4000000 in
set_option maxRecDepth 100000 in
theorem k_X12_single_all {l : Launch} {D : va_G} {cy : Nat → ClassId} {T0 tB tE : Nat} {a : Nat → Nat} : ∀ (d : Nat), ∀ (S : GS) (post : Int32 → GS → Prop), lpn w_X12_single_R (fun _ _ => False) d S post → Ct l D cy T0 tB tE yX12_single cX12_single 2 (some .boolean) (12 + 3 * d) (254 + 61 * d) 0 0 (mw cy a S) [.ref (a 0)] (QI D (U := GS) post (mw cy a)) := by
  intro d
  induction d with
  | zero => intro _ _ h; exact h.elim
  | succ d ih =>
    intro S post h
    have e1 : 12 + 3 * (d + 1) = 12 + 3 * d + 3 := by omega
    have e2 : 254 + 61 * (d + 1) = 254 + 61 * d + 61 := by omega
    rw [e1, e2]
    exact k_X12_single_R (d := d) ih S post h

def w_X12_every (S : GS)  (post : Int32 → GS → Prop) : Prop := w_X12_every_R (lpn w_X12_single_R (fun _ _ => False) 10) S  post

set_option maxHeartbeats 4000000 in
set_option maxRecDepth 100000 in
theorem k_X12_every {l : Launch} {D : va_G} {cy : Nat → ClassId} {T0 tB tE : Nat} {a : Nat → Nat} (S : GS)  (post : Int32 → GS → Prop) (h : w_X12_every S  post) : Ct l D cy T0 tB tE yX12_every cX12_every 1 (some .boolean) 43 885 0 0 (mw cy a S) [.ref (a 0)] (QI D (U := GS) post (mw cy a)) := k_X12_every_R (d := 10) (k_X12_single_all 10) S  post h

def w_X12_any (S : GS)  (post : Int32 → GS → Prop) : Prop := w_X12_any_R (lpn w_X12_single_R (fun _ _ => False) 10) S  post

set_option maxHeartbeats 4000000 in
set_option maxRecDepth 100000 in
theorem k_X12_any {l : Launch} {D : va_G} {cy : Nat → ClassId} {T0 tB tE : Nat} {a : Nat → Nat} (S : GS)  (post : Int32 → GS → Prop) (h : w_X12_any S  post) : Ct l D cy T0 tB tE yX12_any cX12_any 1 (some .boolean) 44 905 0 0 (mw cy a S) [.ref (a 0)] (QI D (U := GS) post (mw cy a)) := k_X12_any_R (d := 10) (k_X12_single_all 10) S  post h

def w_X12_single (S : GS)  (post : Int32 → GS → Prop) : Prop := w_X12_single_R (lpn w_X12_single_R (fun _ _ => False) 10) S  post

set_option maxHeartbeats 4000000 in
set_option maxRecDepth 100000 in
theorem k_X12_single {l : Launch} {D : va_G} {cy : Nat → ClassId} {T0 tB tE : Nat} {a : Nat → Nat} (S : GS)  (post : Int32 → GS → Prop) (h : w_X12_single S  post) : Ct l D cy T0 tB tE yX12_single cX12_single 2 (some .boolean) 45 925 0 0 (mw cy a S) [.ref (a 0)] (QI D (U := GS) post (mw cy a)) := k_X12_single_R (d := 10) (k_X12_single_all 10) S  post h

def w_X12_asked (S : GS)  (post : Int32 → GS → Prop) : Prop :=
  w_X12_any (si S 9 0) (fun r1 S2 => (r1 = 0 ∨ r1 = 1) ∧ post r1 S2)

set_option maxHeartbeats 4000000 in
set_option maxRecDepth 100000 in
theorem k_X12_asked {l : Launch} {D : va_G} {cy : Nat → ClassId} {T0 tB tE : Nat} {a : Nat → Nat} (S : GS)  (post : Int32 → GS → Prop) (h : w_X12_asked S  post) : Ct l D cy T0 tB tE yX12_asked cX12_asked 1 (some .boolean) 45 925 0 0 (mw cy a S) [.ref (a 0)] (QI D (U := GS) post (mw cy a)) := by
  refine Ct.ofZ RX12 "asked" [(0, .ref (a 0))] rfl rfl rfl rfl (Nat.le_of_ble_eq_true rfl) ?_
  intro p e R s m args below meth c A b
  unfold w_X12_asked at h
  refine z_aload_n b dX12_asked_0 rfl rfl ?_
  refine z_iconst (v := 0) b dX12_asked_1 (by decide) ?_
  refine z_put (q0 := 0) (k9 := 33) tyX12 b (mw_0 cy a S) rfl in_X12 tyX12_ok nmX12 (by decide) wf_X12_282 rfl rfl rfl rfl (Nat.le_of_ble_eq_true rfl) dX12_asked_2 (mwp_0_33 cy a S 0) ?_
  refine z_aload_n b dX12_asked_5 rfl rfl ?_
  refine z_calli b (z_runV (q0 := 0) (As := []) (st := []) b (k_X12_any (si S 9 0) _ h) cf_X12_any (mw_0 cy a (si S 9 0)) rfl wm_X12_310 wi_X12_any ws_X12_any dX12_asked_6 rfl (Nat.le_of_ble_eq_true rfl) ⟨by decide, by decide, by decide, by decide⟩) (fun r1 S2 h => ?_)
  obtain ⟨g3, h⟩ := h
  exact z_zret (u := S2) b rfl (z_bool g3) dX12_asked_9 h rfl (by decide) (by decide)

def w_X12_isNeverText (S : GS) (p0 : Int32) (post : Int32 → GS → Prop) : Prop :=
  w_X12_isIn S p0 0 ((fi S 16) - 1) (fun r1 S2 => (r1 = 0 ∨ r1 = 1) ∧ post r1 S2)

set_option maxHeartbeats 4000000 in
set_option maxRecDepth 100000 in
theorem k_X12_isNeverText {l : Launch} {D : va_G} {cy : Nat → ClassId} {T0 tB tE : Nat} {a : Nat → Nat} (S : GS) (p0 : Int32) (post : Int32 → GS → Prop) (h : w_X12_isNeverText S p0 post) : Ct l D cy T0 tB tE yX12_isNeverText cX12_isNeverText 2 (some .boolean) 1 22 0 0 (mw cy a S) [.ref (a 0), .int p0] (QI D (U := GS) post (mw cy a)) := by
  refine Ct.ofZ RX12 "isNeverText" [(0, .ref (a 0)), (1, .int p0)] rfl rfl rfl rfl (Nat.le_of_ble_eq_true rfl) ?_
  intro p e R s m args below meth c A b
  unfold w_X12_isNeverText at h
  refine z_iload_n b dX12_isNeverText_0 rfl rfl ?_
  refine z_iconst (v := 0) b dX12_isNeverText_1 (by decide) ?_
  refine z_aload_n b dX12_isNeverText_2 rfl rfl ?_
  refine z_get (q0 := 0) (k9 := 40) (v := .int (fi S 16)) b (mw_0 cy a S) rfl in_X12 (by decide) wf_X12_352 rfl dX12_isNeverText_3 ?_
  refine z_iconst (v := 1) b dX12_isNeverText_6 (by decide) ?_
  refine z_isub b dX12_isNeverText_7 rfl ?_
  refine z_calli b (z_runS (As := [.int p0, .int 0, .int ((fi S 16) - 1)]) (st := []) b (k_X12_isIn S p0 0 ((fi S 16) - 1) _ h) cf_X12_isIn wm_X12_1 ws_X12_isIn dX12_isNeverText_8 rfl (Nat.le_of_ble_eq_true rfl) ⟨by decide, by decide, by decide, by decide⟩) (fun r1 S2 h => ?_)
  obtain ⟨g3, h⟩ := h
  exact z_zret (u := S2) b rfl (z_bool g3) dX12_isNeverText_11 h rfl (by decide) (by decide)

def w_X12_end (S : GS) (p0 : Int32) (post : Int32 → GS → Prop) : Prop :=
  w_X12_isIn S p0 0 (fi S 1) (fun r1 S2 => ((r1.toInt ≠ 0 → post 1 (si S2 1 p0)) ∧ (r1.toInt = 0 → post 0 S2)))

set_option maxHeartbeats 4000000 in
set_option maxRecDepth 100000 in
theorem k_X12_end {l : Launch} {D : va_G} {cy : Nat → ClassId} {T0 tB tE : Nat} {a : Nat → Nat} (S : GS) (p0 : Int32) (post : Int32 → GS → Prop) (h : w_X12_end S p0 post) : Ct l D cy T0 tB tE yX12_end cX12_end 2 (some .boolean) 1 22 0 0 (mw cy a S) [.ref (a 0), .int p0] (QI D (U := GS) post (mw cy a)) := by
  refine Ct.ofZ RX12 "end" [(0, .ref (a 0)), (1, .int p0)] rfl rfl rfl rfl (Nat.le_of_ble_eq_true rfl) ?_
  intro p e R s m args below meth c A b
  unfold w_X12_end at h
  refine z_iload_n b dX12_end_0 rfl rfl ?_
  refine z_iconst (v := 0) b dX12_end_1 (by decide) ?_
  refine z_aload_n b dX12_end_2 rfl rfl ?_
  refine z_get (q0 := 0) (k9 := 25) (v := .int (fi S 1)) b (mw_0 cy a S) rfl in_X12 (by decide) wf_X12_182 rfl dX12_end_3 ?_
  refine z_calli b (z_runS (As := [.int p0, .int 0, .int (fi S 1)]) (st := []) b (k_X12_isIn S p0 0 (fi S 1) _ h) cf_X12_isIn wm_X12_1 ws_X12_isIn dX12_end_6 rfl (Nat.le_of_ble_eq_true rfl) ⟨by decide, by decide, by decide, by decide⟩) (fun r1 S2 h => ?_)
  refine y_if_ne (tgt := 14) (xl := r1.toInt) b rfl dX12_end_9 (by decide) (fun c1 => ?_) (fun c1 => ?_)
  · replace h := h.1 c1
    refine z_aload_n b dX12_end_14 rfl rfl ?_
    refine z_iload_n b dX12_end_15 rfl rfl ?_
    refine z_put (q0 := 0) (k9 := 25) tyX12 b (mw_0 cy a S2) rfl in_X12 tyX12_ok nmX12 (by decide) wf_X12_182 rfl rfl rfl rfl (Nat.le_of_ble_eq_true rfl) dX12_end_16 (mwp_0_25 cy a S2 p0) ?_
    refine z_iconst (v := 1) b dX12_end_19 (by decide) ?_
    exact z_zret (u := (si S2 1 p0)) b rfl (by decide) dX12_end_20 h rfl (by decide) (by decide)
  · replace h := h.2 c1
    refine z_iconst (v := 0) b dX12_end_12 (by decide) ?_
    exact z_zret (u := S2) b rfl (by decide) dX12_end_13 h rfl (by decide) (by decide)

def w_X12_fault_B24 (post : Int32 → GS → Prop) (S : GS) (y0 : Int32) : Prop :=
  post y0 S

set_option maxHeartbeats 4000000 in
set_option maxRecDepth 100000 in
theorem z_X12_fault_B24 {p : Program} {l : Launch} {e : Env} {R : Room} {s : State} {m : MethodId} {args : Array Value} {below : List Frame} {meth : Method} {c : Code} {D : va_G} {cy : Nat → ClassId} {T0 tB tE : Nat} {A : Nat → Prop} {a : Nat → Nat} {post : Int32 → GS → Prop} (b : Bz p R s m args meth c D cy T0 tB tE A 2 cX12_fault RX12 (some .int) "fault" 0 0 0 0) (S : GS) (y0 : Int32) (h : w_X12_fault_B24 post S y0) : Z p l e R s m args below meth c D A 2 (MQ below (QI D (U := GS) post (mw cy a) A) args s 0 0 A) 0 0 (mw cy a S) [] 24 [.int y0] := by
  unfold w_X12_fault_B24 at h
  exact z_iret (u := S) b rfl dX12_fault_24 h rfl (by decide) (by decide)

def w_X12_fault (S : GS) (p0 : Int32) (post : Int32 → GS → Prop) : Prop :=
  ((p0.toInt ≠ 0 → ((p0.toInt ≠ 1 → w_X12_fault_B24 post S (-1)) ∧ (p0.toInt = 1 → w_X12_fault_B24 post S (fi S 13)))) ∧ (p0.toInt = 0 → w_X12_fault_B24 post S (fi S 8)))

set_option maxHeartbeats 4000000 in
set_option maxRecDepth 100000 in
theorem k_X12_fault {l : Launch} {D : va_G} {cy : Nat → ClassId} {T0 tB tE : Nat} {a : Nat → Nat} (S : GS) (p0 : Int32) (post : Int32 → GS → Prop) (h : w_X12_fault S p0 post) : Ct l D cy T0 tB tE yX12_fault cX12_fault 2 (some .int) 0 0 0 0 (mw cy a S) [.ref (a 0), .int p0] (QI D (U := GS) post (mw cy a)) := by
  refine Ct.ofZ RX12 "fault" [(0, .ref (a 0)), (1, .int p0)] rfl rfl rfl rfl (Nat.le_of_ble_eq_true rfl) ?_
  intro p e R s m args below meth c A b
  unfold w_X12_fault at h
  refine z_iload_n b dX12_fault_0 rfl rfl ?_
  refine y_if_ne (tgt := 11) (xl := p0.toInt) b rfl dX12_fault_1 (by decide) (fun c1 => ?_) (fun c1 => ?_)
  · replace h := h.1 c1
    refine z_iload_n b dX12_fault_11 rfl rfl ?_
    refine z_iconst (v := 1) b dX12_fault_12 (by decide) ?_
    refine y_icmp_ne (tgt := 23) (xl := p0.toInt) (yl := 1) b rfl (by decide) dX12_fault_13 (by decide) (fun c1 => ?_) (fun c1 => ?_)
    · replace h := h.1 c1
      refine z_iconst (v := (-1)) b dX12_fault_23 (by decide) ?_
      refine z_lv0 (lv' := []) [] rfl ?_
      exact z_X12_fault_B24 b _ _ h
    · replace h := h.2 c1
      refine z_aload_n b dX12_fault_16 rfl rfl ?_
      refine z_get (q0 := 0) (k9 := 37) (v := .int (fi S 13)) b (mw_0 cy a S) rfl in_X12 (by decide) wf_X12_84 rfl dX12_fault_17 ?_
      refine z_goto (tgt := 24) b dX12_fault_20 (by decide) ?_
      refine z_lv0 (lv' := []) [] rfl ?_
      exact z_X12_fault_B24 b _ _ h
  · replace h := h.2 c1
    refine z_aload_n b dX12_fault_4 rfl rfl ?_
    refine z_get (q0 := 0) (k9 := 32) (v := .int (fi S 8)) b (mw_0 cy a S) rfl in_X12 (by decide) wf_X12_333 rfl dX12_fault_5 ?_
    refine z_goto (tgt := 24) b dX12_fault_8 (by decide) ?_
    refine z_lv0 (lv' := []) [] rfl ?_
    exact z_X12_fault_B24 b _ _ h

def w_X12_stood_B24 (post : Int32 → GS → Prop) (S : GS) (y0 : Int32) : Prop :=
  post y0 S

set_option maxHeartbeats 4000000 in
set_option maxRecDepth 100000 in
theorem z_X12_stood_B24 {p : Program} {l : Launch} {e : Env} {R : Room} {s : State} {m : MethodId} {args : Array Value} {below : List Frame} {meth : Method} {c : Code} {D : va_G} {cy : Nat → ClassId} {T0 tB tE : Nat} {A : Nat → Prop} {a : Nat → Nat} {post : Int32 → GS → Prop} (b : Bz p R s m args meth c D cy T0 tB tE A 2 cX12_stood RX12 (some .int) "stood" 0 0 0 0) (S : GS) (y0 : Int32) (h : w_X12_stood_B24 post S y0) : Z p l e R s m args below meth c D A 2 (MQ below (QI D (U := GS) post (mw cy a) A) args s 0 0 A) 0 0 (mw cy a S) [] 24 [.int y0] := by
  unfold w_X12_stood_B24 at h
  exact z_iret (u := S) b rfl dX12_stood_24 h rfl (by decide) (by decide)

def w_X12_stood (S : GS) (p0 : Int32) (post : Int32 → GS → Prop) : Prop :=
  ((p0.toInt ≠ 3 → ((p0.toInt ≠ 0 → w_X12_stood_B24 post S (fi S 19)) ∧ (p0.toInt = 0 → w_X12_stood_B24 post S (fi S 18)))) ∧ (p0.toInt = 3 → w_X12_stood_B24 post S 3))

set_option maxHeartbeats 4000000 in
set_option maxRecDepth 100000 in
theorem k_X12_stood {l : Launch} {D : va_G} {cy : Nat → ClassId} {T0 tB tE : Nat} {a : Nat → Nat} (S : GS) (p0 : Int32) (post : Int32 → GS → Prop) (h : w_X12_stood S p0 post) : Ct l D cy T0 tB tE yX12_stood cX12_stood 2 (some .int) 0 0 0 0 (mw cy a S) [.ref (a 0), .int p0] (QI D (U := GS) post (mw cy a)) := by
  refine Ct.ofZ RX12 "stood" [(0, .ref (a 0)), (1, .int p0)] rfl rfl rfl rfl (Nat.le_of_ble_eq_true rfl) ?_
  intro p e R s m args below meth c A b
  unfold w_X12_stood at h
  refine z_iload_n b dX12_stood_0 rfl rfl ?_
  refine z_iconst (v := 3) b dX12_stood_1 (by decide) ?_
  refine y_icmp_ne (tgt := 9) (xl := p0.toInt) (yl := 3) b rfl (by decide) dX12_stood_2 (by decide) (fun c1 => ?_) (fun c1 => ?_)
  · replace h := h.1 c1
    refine z_iload_n b dX12_stood_9 rfl rfl ?_
    refine y_if_ne (tgt := 20) (xl := p0.toInt) b rfl dX12_stood_10 (by decide) (fun c1 => ?_) (fun c1 => ?_)
    · replace h := h.1 c1
      refine z_aload_n b dX12_stood_20 rfl rfl ?_
      refine z_get (q0 := 0) (k9 := 44) (v := .int (fi S 19)) b (mw_0 cy a S) rfl in_X12 (by decide) wf_X12_367 rfl dX12_stood_21 ?_
      refine z_lv0 (lv' := []) [] rfl ?_
      exact z_X12_stood_B24 b _ _ h
    · replace h := h.2 c1
      refine z_aload_n b dX12_stood_13 rfl rfl ?_
      refine z_get (q0 := 0) (k9 := 43) (v := .int (fi S 18)) b (mw_0 cy a S) rfl in_X12 (by decide) wf_X12_364 rfl dX12_stood_14 ?_
      refine z_goto (tgt := 24) b dX12_stood_17 (by decide) ?_
      refine z_lv0 (lv' := []) [] rfl ?_
      exact z_X12_stood_B24 b _ _ h
  · replace h := h.2 c1
    refine z_iconst (v := 3) b dX12_stood_5 (by decide) ?_
    refine z_goto (tgt := 24) b dX12_stood_6 (by decide) ?_
    refine z_lv0 (lv' := []) [] rfl ?_
    exact z_X12_stood_B24 b _ _ h

def w_X12_canSearch_B24 (post : Int32 → GS → Prop) (S : GS) (y0 : Int32) : Prop :=
  (y0 = 0 ∨ y0 = 1) ∧ post y0 S

set_option maxHeartbeats 4000000 in
set_option maxRecDepth 100000 in
theorem z_X12_canSearch_B24 {p : Program} {l : Launch} {e : Env} {R : Room} {s : State} {m : MethodId} {args : Array Value} {below : List Frame} {meth : Method} {c : Code} {D : va_G} {cy : Nat → ClassId} {T0 tB tE : Nat} {A : Nat → Prop} {a : Nat → Nat} {post : Int32 → GS → Prop} (b : Bz p R s m args meth c D cy T0 tB tE A 3 cX12_canSearch RX12 (some .boolean) "canSearch" 1 22 0 0) (S : GS) (y0 : Int32) (h : w_X12_canSearch_B24 post S y0) : Z p l e R s m args below meth c D A 3 (MQ below (QI D (U := GS) post (mw cy a) A) args s 0 0 A) 0 0 (mw cy a S) [] 24 [.int y0] := by
  unfold w_X12_canSearch_B24 at h
  obtain ⟨g3, h⟩ := h
  exact z_zret (u := S) b rfl (z_bool g3) dX12_canSearch_24 h rfl (by decide) (by decide)

def w_X12_canSearch_B23 (post : Int32 → GS → Prop) (S : GS)  : Prop :=
  w_X12_canSearch_B24 post S 0

set_option maxHeartbeats 4000000 in
set_option maxRecDepth 100000 in
theorem z_X12_canSearch_B23 {p : Program} {l : Launch} {e : Env} {R : Room} {s : State} {m : MethodId} {args : Array Value} {below : List Frame} {meth : Method} {c : Code} {D : va_G} {cy : Nat → ClassId} {T0 tB tE : Nat} {A : Nat → Prop} {a : Nat → Nat} {post : Int32 → GS → Prop} (b : Bz p R s m args meth c D cy T0 tB tE A 3 cX12_canSearch RX12 (some .boolean) "canSearch" 1 22 0 0) (S : GS)  (h : w_X12_canSearch_B23 post S ) : Z p l e R s m args below meth c D A 3 (MQ below (QI D (U := GS) post (mw cy a) A) args s 0 0 A) 0 0 (mw cy a S) [] 23 [] := by
  unfold w_X12_canSearch_B23 at h
  refine z_iconst (v := 0) b dX12_canSearch_23 (by decide) ?_
  exact z_X12_canSearch_B24 b _ _ h

def w_X12_canSearch (S : GS) (p0 : Int32) (p1 : Int32) (post : Int32 → GS → Prop) : Prop :=
  w_X12_isIn S p0 1 3 (fun r1 S2 => ((r1.toInt = 0 → w_X12_canSearch_B23 post S2) ∧ (r1.toInt ≠ 0 → w_X12_isIn S2 p1 0 6 (fun r4 S5 => ((r4.toInt = 0 → w_X12_canSearch_B23 post S5) ∧ (r4.toInt ≠ 0 → w_X12_canSearch_B24 post S5 1))))))

set_option maxHeartbeats 4000000 in
set_option maxRecDepth 100000 in
theorem k_X12_canSearch {l : Launch} {D : va_G} {cy : Nat → ClassId} {T0 tB tE : Nat} {a : Nat → Nat} (S : GS) (p0 : Int32) (p1 : Int32) (post : Int32 → GS → Prop) (h : w_X12_canSearch S p0 p1 post) : Ct l D cy T0 tB tE yX12_canSearch cX12_canSearch 3 (some .boolean) 1 22 0 0 (mw cy a S) [.ref (a 0), .int p0, .int p1] (QI D (U := GS) post (mw cy a)) := by
  refine Ct.ofZ RX12 "canSearch" [(0, .ref (a 0)), (1, .int p0), (2, .int p1)] rfl rfl rfl rfl (Nat.le_of_ble_eq_true rfl) ?_
  intro p e R s m args below meth c A b
  unfold w_X12_canSearch at h
  refine z_iload_n b dX12_canSearch_0 rfl rfl ?_
  refine z_iconst (v := 1) b dX12_canSearch_1 (by decide) ?_
  refine z_iconst (v := 3) b dX12_canSearch_2 (by decide) ?_
  refine z_calli b (z_runS (As := [.int p0, .int 1, .int 3]) (st := []) b (k_X12_isIn S p0 1 3 _ h) cf_X12_isIn wm_X12_1 ws_X12_isIn dX12_canSearch_3 rfl (Nat.le_of_ble_eq_true rfl) ⟨by decide, by decide, by decide, by decide⟩) (fun r1 S2 h => ?_)
  refine y_if_eq (tgt := 23) (xl := r1.toInt) b rfl dX12_canSearch_6 (by decide) (fun c1 => ?_) (fun c1 => ?_)
  · replace h := h.1 c1
    refine z_lv0 (lv' := []) [] rfl ?_
    exact z_X12_canSearch_B23 b _ h
  · replace h := h.2 c1
    refine z_iload_n b dX12_canSearch_9 rfl rfl ?_
    refine z_iconst (v := 0) b dX12_canSearch_10 (by decide) ?_
    refine z_bipush (v := 6) b dX12_canSearch_11 (by decide) ?_
    refine z_calli b (z_runS (As := [.int p1, .int 0, .int 6]) (st := []) b (k_X12_isIn S2 p1 0 6 _ h) cf_X12_isIn wm_X12_1 ws_X12_isIn dX12_canSearch_13 rfl (Nat.le_of_ble_eq_true rfl) ⟨by decide, by decide, by decide, by decide⟩) (fun r4 S5 h => ?_)
    refine y_if_eq (tgt := 23) (xl := r4.toInt) b rfl dX12_canSearch_16 (by decide) (fun c1 => ?_) (fun c1 => ?_)
    · replace h := h.1 c1
      refine z_lv0 (lv' := []) [] rfl ?_
      exact z_X12_canSearch_B23 b _ h
    · replace h := h.2 c1
      refine z_iconst (v := 1) b dX12_canSearch_19 (by decide) ?_
      refine z_goto (tgt := 24) b dX12_canSearch_20 (by decide) ?_
      refine z_lv0 (lv' := []) [] rfl ?_
      exact z_X12_canSearch_B24 b _ _ h

def w_X12_renamed_B19 (post : Int32 → GS → Prop) (S : GS) (y0 : Int32) : Prop :=
  post y0 S

set_option maxHeartbeats 4000000 in
set_option maxRecDepth 100000 in
theorem z_X12_renamed_B19 {p : Program} {l : Launch} {e : Env} {R : Room} {s : State} {m : MethodId} {args : Array Value} {below : List Frame} {meth : Method} {c : Code} {D : va_G} {cy : Nat → ClassId} {T0 tB tE : Nat} {A : Nat → Prop} {a : Nat → Nat} {post : Int32 → GS → Prop} (b : Bz p R s m args meth c D cy T0 tB tE A 3 cX12_renamed RX12 (some .int) "renamed" 0 0 0 0) (S : GS) (y0 : Int32) (h : w_X12_renamed_B19 post S y0) : Z p l e R s m args below meth c D A 3 (MQ below (QI D (U := GS) post (mw cy a) A) args s 0 0 A) 0 0 (mw cy a S) [] 19 [.int y0] := by
  unfold w_X12_renamed_B19 at h
  exact z_iret (u := S) b rfl dX12_renamed_19 h rfl (by decide) (by decide)

def w_X12_renamed (S : GS) (p0 : Int32) (p1 : Int32) (post : Int32 → GS → Prop) : Prop :=
  ((p1.toInt ≠ 3 → (0 ≤ (((3 : Int32) * p0) + p1).toInt ∧ (((3 : Int32) * p0) + p1).toInt < 18) ∧ w_X12_renamed_B19 post S ((ar S 31) (((3 : Int32) * p0) + p1).toNatClampNeg)) ∧ (p1.toInt = 3 → w_X12_renamed_B19 post S 3))

set_option maxHeartbeats 4000000 in
set_option maxRecDepth 100000 in
theorem k_X12_renamed {l : Launch} {D : va_G} {cy : Nat → ClassId} {T0 tB tE : Nat} {a : Nat → Nat} (S : GS) (p0 : Int32) (p1 : Int32) (post : Int32 → GS → Prop) (h : w_X12_renamed S p0 p1 post) : Ct l D cy T0 tB tE yX12_renamed cX12_renamed 3 (some .int) 0 0 0 0 (mw cy a S) [.ref (a 0), .int p0, .int p1] (QI D (U := GS) post (mw cy a)) := by
  refine Ct.ofZ RX12 "renamed" [(0, .ref (a 0)), (1, .int p0), (2, .int p1)] rfl rfl rfl rfl (Nat.le_of_ble_eq_true rfl) ?_
  intro p e R s m args below meth c A b
  unfold w_X12_renamed at h
  refine z_iload_n b dX12_renamed_0 rfl rfl ?_
  refine z_iconst (v := 3) b dX12_renamed_1 (by decide) ?_
  refine y_icmp_ne (tgt := 9) (xl := p1.toInt) (yl := 3) b rfl (by decide) dX12_renamed_2 (by decide) (fun c1 => ?_) (fun c1 => ?_)
  · replace h := h.1 c1
    refine z_aload_n b dX12_renamed_9 rfl rfl ?_
    refine z_get (q0 := 0) (k9 := 58) (v := .ref (a 33)) b (mw_0 cy a S) rfl in_X12 (by decide) wf_X12_116 rfl dX12_renamed_10 ?_
    refine z_iconst (v := 3) b dX12_renamed_13 (by decide) ?_
    refine z_iload_n b dX12_renamed_14 rfl rfl ?_
    refine z_imul b dX12_renamed_15 rfl ?_
    refine z_iload_n b dX12_renamed_16 rfl rfl ?_
    refine z_iadd b dX12_renamed_17 rfl ?_
    obtain ⟨g1, h⟩ := h
    refine y_iald (q0 := 33) (j := (((3 : Int32) * p0) + p1).toNatClampNeg) (v := ((ar S 31) (((3 : Int32) * p0) + p1).toNatClampNeg)) b (mw_33 cy a S) (zx_r g1.1 g1.2) rfl dX12_renamed_18 ?_
    refine z_lv0 (lv' := []) [] rfl ?_
    exact z_X12_renamed_B19 b _ _ h
  · replace h := h.2 c1
    refine z_iconst (v := 3) b dX12_renamed_5 (by decide) ?_
    refine z_goto (tgt := 19) b dX12_renamed_6 (by decide) ?_
    refine z_lv0 (lv' := []) [] rfl ?_
    exact z_X12_renamed_B19 b _ _ h

def w_X12_takes_B47 (post : GS → Prop) (k13 : GS → Int64 → Int32 → Int32 → Prop) (k83 : GS → Int64 → Int32 → Prop) (S : GS) (x3 : Int64) (x5 : Int32) (x6 : Int32) (y0 : Int32) (y1 : Int32) : Prop :=
  (0 ≤ y1.toInt ∧ y1.toInt < 9) ∧ (y0 = 0 ∨ y0 = 1) ∧ w_X12_other (su S 4 (y1.toNatClampNeg) y0) x5 x6 (fun r5 S6 => (0 ≤ (((3 : Int32) * x5) + r5).toInt ∧ (((3 : Int32) * x5) + r5).toInt < 9) ∧ k13 (su S6 1 ((((3 : Int32) * x5) + r5).toNatClampNeg) (((x3 >>> ((1 : Int32).toInt64 &&& 63)) &&& 7) : Int64).toInt32) (x3 >>> ((4 : Int32).toInt64 &&& 63)) x5 (x6 + (-1)))

set_option maxHeartbeats 4000000 in
set_option maxRecDepth 100000 in
theorem z_X12_takes_B47 {p : Program} {l : Launch} {e : Env} {R : Room} {s : State} {m : MethodId} {args : Array Value} {below : List Frame} {meth : Method} {c : Code} {D : va_G} {cy : Nat → ClassId} {T0 tB tE : Nat} {A : Nat → Prop} {a : Nat → Nat} {post : GS → Prop} {k13 : GS → Int64 → Int32 → Int32 → Prop} {k83 : GS → Int64 → Int32 → Prop} (b : Bz p R s m args meth c D cy T0 tB tE A 7 cX12_takes RX12 none "takes" 1 21 0 0) (hk13 : ∀ (S : GS) (x3 : Int64) (x5 : Int32) (x6 : Int32), k13 S x3 x5 x6 → Z p l e R s m args below meth c D A 7 (MQ below (QV D (U := GS) post (mw cy a) A) args s 0 0 A) 0 0 (mw cy a S) [(0, .ref (a 0)), (3, .long x3), (5, .int x5), (6, .int x6)] 13 []) (hk83 : ∀ (S : GS) (x3 : Int64) (x5 : Int32), k83 S x3 x5 → Z p l e R s m args below meth c D A 7 (MQ below (QV D (U := GS) post (mw cy a) A) args s 0 0 A) 0 0 (mw cy a S) [(0, .ref (a 0)), (3, .long x3), (5, .int x5)] 83 []) (S : GS) (x3 : Int64) (x5 : Int32) (x6 : Int32) (y0 : Int32) (y1 : Int32) (h : w_X12_takes_B47 post k13 k83 S x3 x5 x6 y0 y1) : Z p l e R s m args below meth c D A 7 (MQ below (QV D (U := GS) post (mw cy a) A) args s 0 0 A) 0 0 (mw cy a S) [(0, .ref (a 0)), (3, .long x3), (5, .int x5), (6, .int x6)] 47 [.int y0, .int y1, .ref (a 5)] := by
  unfold w_X12_takes_B47 at h
  obtain ⟨g3, h⟩ := h
  obtain ⟨g4, h⟩ := h
  refine y_zast (q0 := 5) (j := y1.toNatClampNeg) b (mw_5 cy a S) (zx_r g3.1 g3.2) g4 dX12_takes_47 (mwa_5 cy a S (y1.toNatClampNeg) y0) ?_
  refine z_aload_n b dX12_takes_48 rfl rfl ?_
  refine z_get (q0 := 0) (k9 := 1) (v := .ref (a 2)) b (mw_0 cy a (su S 4 (y1.toNatClampNeg) y0)) rfl in_X12 (by decide) wf_X12_17 rfl dX12_takes_49 ?_
  refine z_iconst (v := 3) b dX12_takes_52 (by decide) ?_
  refine z_iload b dX12_takes_53 rfl ?_
  refine z_imul b dX12_takes_55 rfl ?_
  refine z_iload b dX12_takes_56 rfl ?_
  refine z_iload b dX12_takes_58 rfl ?_
  refine z_calli b (z_runS (As := [.int x5, .int x6]) (st := [.int ((3 : Int32) * x5), .ref (a 2)]) b (k_X12_other (su S 4 (y1.toNatClampNeg) y0) x5 x6 _ h) cf_X12_other wm_X12_160 ws_X12_other dX12_takes_60 rfl (Nat.le_of_ble_eq_true rfl) ⟨by decide, by decide, by decide, by decide⟩) (fun r5 S6 h => ?_)
  refine z_iadd b dX12_takes_63 rfl ?_
  refine z_lload_n b dX12_takes_64 rfl rfl ?_
  refine z_iconst (v := 1) b dX12_takes_65 (by decide) ?_
  refine z_lshr b dX12_takes_66 rfl ?_
  refine z_ldc2 b wl_X12_164 dX12_takes_67 ?_
  refine z_land b dX12_takes_70 rfl ?_
  refine z_l2i b dX12_takes_71 rfl ?_
  obtain ⟨g7, h⟩ := h
  refine y_iast (q0 := 2) (j := (((3 : Int32) * x5) + r5).toNatClampNeg) b (mw_2 cy a S6) (zx_r g7.1 g7.2) dX12_takes_72 (mwa_2 cy a S6 ((((3 : Int32) * x5) + r5).toNatClampNeg) (((x3 >>> ((1 : Int32).toInt64 &&& 63)) &&& 7) : Int64).toInt32) ?_
  refine z_lload_n b dX12_takes_73 rfl rfl ?_
  refine z_iconst (v := 4) b dX12_takes_74 (by decide) ?_
  refine z_lshr b dX12_takes_75 rfl ?_
  refine z_lstore_n (lv' := [(3, .long (x3 >>> ((4 : Int32).toInt64 &&& 63))), (0, .ref (a 0)), (5, .int x5), (6, .int x6)]) b dX12_takes_76 rfl (by decide) rfl ?_
  refine z_iinc (k9 := 3) (v := (x6 + (-1))) (lv' := [(6, .int (x6 + (-1))), (3, .long (x3 >>> ((4 : Int32).toInt64 &&& 63))), (0, .ref (a 0)), (5, .int x5)]) b dX12_takes_77 rfl rfl (by decide) rfl ?_
  refine z_goto (tgt := 13) b dX12_takes_80 (by decide) ?_
  refine z_lv0 (lv' := [(0, .ref (a 0)), (3, .long (x3 >>> ((4 : Int32).toInt64 &&& 63))), (5, .int x5), (6, .int (x6 + (-1)))]) [2, 1, 3, 0] rfl ?_
  exact hk13 _ _ _ _ h

def w_X12_takes_F13 (post : GS → Prop) (k83 : GS → Int64 → Int32 → Prop) (k13 : GS → Int64 → Int32 → Int32 → Prop) (S : GS) (x3 : Int64) (x5 : Int32) (x6 : Int32) : Prop :=
  ((x6.toInt < 0 → k83 S x3 x5) ∧ (0 ≤ x6.toInt → w_X12_other S x5 x6 (fun r1 S2 => (((lg_cmp (x3 &&& 1) 1).toInt ≠ 0 → w_X12_takes_B47 post k13 k83 S2 x3 x5 x6 0 (((3 : Int32) * x5) + r1)) ∧ ((lg_cmp (x3 &&& 1) 1).toInt = 0 → w_X12_takes_B47 post k13 k83 S2 x3 x5 x6 1 (((3 : Int32) * x5) + r1))))))

set_option maxHeartbeats 4000000 in
set_option maxRecDepth 100000 in
theorem z_X12_takes_F13 {p : Program} {l : Launch} {e : Env} {R : Room} {s : State} {m : MethodId} {args : Array Value} {below : List Frame} {meth : Method} {c : Code} {D : va_G} {cy : Nat → ClassId} {T0 tB tE : Nat} {A : Nat → Prop} {a : Nat → Nat} {post : GS → Prop} {k83 : GS → Int64 → Int32 → Prop} {k13 : GS → Int64 → Int32 → Int32 → Prop} (b : Bz p R s m args meth c D cy T0 tB tE A 7 cX12_takes RX12 none "takes" 1 21 0 0) (hk83 : ∀ (S : GS) (x3 : Int64) (x5 : Int32), k83 S x3 x5 → Z p l e R s m args below meth c D A 7 (MQ below (QV D (U := GS) post (mw cy a) A) args s 0 0 A) 0 0 (mw cy a S) [(0, .ref (a 0)), (3, .long x3), (5, .int x5)] 83 []) (hk13 : ∀ (S : GS) (x3 : Int64) (x5 : Int32) (x6 : Int32), k13 S x3 x5 x6 → Z p l e R s m args below meth c D A 7 (MQ below (QV D (U := GS) post (mw cy a) A) args s 0 0 A) 0 0 (mw cy a S) [(0, .ref (a 0)), (3, .long x3), (5, .int x5), (6, .int x6)] 13 []) (S : GS) (x3 : Int64) (x5 : Int32) (x6 : Int32) (h : w_X12_takes_F13 post k83 k13 S x3 x5 x6) : Z p l e R s m args below meth c D A 7 (MQ below (QV D (U := GS) post (mw cy a) A) args s 0 0 A) 0 0 (mw cy a S) [(0, .ref (a 0)), (3, .long x3), (5, .int x5), (6, .int x6)] 13 [] := by
  unfold w_X12_takes_F13 at h
  refine z_iload b dX12_takes_13 rfl ?_
  refine y_if_lt (tgt := 83) (xl := x6.toInt) b rfl dX12_takes_15 (by decide) (fun c1 => ?_) (fun c1 => ?_)
  · replace h := h.1 c1
    refine z_lv0 (lv' := [(0, .ref (a 0)), (3, .long x3), (5, .int x5)]) [0, 1, 2] rfl ?_
    exact hk83 _ _ _ h
  · replace h := h.2 c1
    refine z_aload_n b dX12_takes_18 rfl rfl ?_
    refine z_get (q0 := 0) (k9 := 4) (v := .ref (a 5)) b (mw_0 cy a S) rfl in_X12 (by decide) wf_X12_27 rfl dX12_takes_19 ?_
    refine z_iconst (v := 3) b dX12_takes_22 (by decide) ?_
    refine z_iload b dX12_takes_23 rfl ?_
    refine z_imul b dX12_takes_25 rfl ?_
    refine z_iload b dX12_takes_26 rfl ?_
    refine z_iload b dX12_takes_28 rfl ?_
    refine z_calli b (z_runS (As := [.int x5, .int x6]) (st := [.int ((3 : Int32) * x5), .ref (a 5)]) b (k_X12_other S x5 x6 _ h) cf_X12_other wm_X12_160 ws_X12_other dX12_takes_30 rfl (Nat.le_of_ble_eq_true rfl) ⟨by decide, by decide, by decide, by decide⟩) (fun r1 S2 h => ?_)
    refine z_iadd b dX12_takes_33 rfl ?_
    refine z_lload_n b dX12_takes_34 rfl rfl ?_
    refine z_lconst (v := 1) b dX12_takes_35 (by decide) ?_
    refine z_land b dX12_takes_36 rfl ?_
    refine z_lconst (v := 1) b dX12_takes_37 (by decide) ?_
    refine z_lcmp b dX12_takes_38 rfl ?_
    refine y_if_ne (tgt := 46) (xl := (lg_cmp (x3 &&& 1) 1).toInt) b rfl dX12_takes_39 (by decide) (fun c1 => ?_) (fun c1 => ?_)
    · replace h := h.1 c1
      refine z_iconst (v := 0) b dX12_takes_46 (by decide) ?_
      exact z_X12_takes_B47 b hk13 hk83 _ _ _ _ _ _ h
    · replace h := h.2 c1
      refine z_iconst (v := 1) b dX12_takes_42 (by decide) ?_
      refine z_goto (tgt := 47) b dX12_takes_43 (by decide) ?_
      exact z_X12_takes_B47 b hk13 hk83 _ _ _ _ _ _ h

set_option maxHeartbeats 4000000 in
set_option maxRecDepth 100000 in
theorem zl_X12_takes_L13 {p : Program} {l : Launch} {e : Env} {R : Room} {s : State} {m : MethodId} {args : Array Value} {below : List Frame} {meth : Method} {c : Code} {D : va_G} {cy : Nat → ClassId} {T0 tB tE : Nat} {A : Nat → Prop} {a : Nat → Nat} {post : GS → Prop} {k83 : GS → Int64 → Int32 → Prop} (b : Bz p R s m args meth c D cy T0 tB tE A 7 cX12_takes RX12 none "takes" 1 21 0 0) (hk83 : ∀ (S : GS) (x3 : Int64) (x5 : Int32), k83 S x3 x5 → Z p l e R s m args below meth c D A 7 (MQ below (QV D (U := GS) post (mw cy a) A) args s 0 0 A) 0 0 (mw cy a S) [(0, .ref (a 0)), (3, .long x3), (5, .int x5)] 83 []) : ∀ (n : Nat) (S : GS) (x3 : Int64) (x5 : Int32) (x6 : Int32), lpn (w_X12_takes_F13 post k83) (fun _ _ _ _ => False) n S x3 x5 x6 → Z p l e R s m args below meth c D A 7 (MQ below (QV D (U := GS) post (mw cy a) A) args s 0 0 A) 0 0 (mw cy a S) [(0, .ref (a 0)), (3, .long x3), (5, .int x5), (6, .int x6)] 13 [] := by
  intro n
  induction n with
  | zero => intro _ _ _ _ h; exact h.elim
  | succ n ih => intro S x3 x5 x6 h; exact z_X12_takes_F13 b hk83 ih S x3 x5 x6 h

def w_X12_takes_B115 (post : GS → Prop) (k5 : GS → Int64 → Int32 → Prop) (k181 : GS → Int64 → Prop) (S : GS) (x3 : Int64) (x5 : Int32) (x6 : Int32) (y0 : Int32) (y1 : Int32) : Prop :=
  (0 ≤ y1.toInt ∧ y1.toInt < 9) ∧ (y0 = 0 ∨ y0 = 1) ∧ (0 ≤ (((3 : Int32) * x5) + x6).toInt ∧ (((3 : Int32) * x5) + x6).toInt < 9) ∧ (0 ≤ (((3 : Int32) * x6) + x5).toInt ∧ (((3 : Int32) * x6) + x5).toInt < 9) ∧ (((upd (ar S 3) (y1.toNatClampNeg) y0) (((3 : Int32) * x5) + x6).toNatClampNeg) = 0 ∨ ((upd (ar S 3) (y1.toNatClampNeg) y0) (((3 : Int32) * x5) + x6).toNatClampNeg) = 1) ∧ (0 ≤ x5.toInt ∧ x5.toInt < 3) ∧ (0 ≤ x5.toInt ∧ x5.toInt < 3) ∧ k5 (su (su (su (su S 3 (y1.toNatClampNeg) y0) 3 ((((3 : Int32) * x6) + x5).toNatClampNeg) ((upd (ar S 3) (y1.toNatClampNeg) y0) (((3 : Int32) * x5) + x6).toNatClampNeg)) 2 (x5.toNatClampNeg) (((x3 >>> ((1 : Int32).toInt64 &&& 63)) &&& 3) : Int64).toInt32) 0 (x5.toNatClampNeg) (((x3 >>> ((3 : Int32).toInt64 &&& 63)) &&& 15) : Int64).toInt32) (x3 >>> ((7 : Int32).toInt64 &&& 63)) (x5 + (-1))

set_option maxHeartbeats 4000000 in
set_option maxRecDepth 100000 in
theorem z_X12_takes_B115 {p : Program} {l : Launch} {e : Env} {R : Room} {s : State} {m : MethodId} {args : Array Value} {below : List Frame} {meth : Method} {c : Code} {D : va_G} {cy : Nat → ClassId} {T0 tB tE : Nat} {A : Nat → Prop} {a : Nat → Nat} {post : GS → Prop} {k5 : GS → Int64 → Int32 → Prop} {k181 : GS → Int64 → Prop} (b : Bz p R s m args meth c D cy T0 tB tE A 7 cX12_takes RX12 none "takes" 1 21 0 0) (hk5 : ∀ (S : GS) (x3 : Int64) (x5 : Int32), k5 S x3 x5 → Z p l e R s m args below meth c D A 7 (MQ below (QV D (U := GS) post (mw cy a) A) args s 0 0 A) 0 0 (mw cy a S) [(0, .ref (a 0)), (3, .long x3), (5, .int x5)] 5 []) (hk181 : ∀ (S : GS) (x3 : Int64), k181 S x3 → Z p l e R s m args below meth c D A 7 (MQ below (QV D (U := GS) post (mw cy a) A) args s 0 0 A) 0 0 (mw cy a S) [(0, .ref (a 0)), (3, .long x3)] 181 []) (S : GS) (x3 : Int64) (x5 : Int32) (x6 : Int32) (y0 : Int32) (y1 : Int32) (h : w_X12_takes_B115 post k5 k181 S x3 x5 x6 y0 y1) : Z p l e R s m args below meth c D A 7 (MQ below (QV D (U := GS) post (mw cy a) A) args s 0 0 A) 0 0 (mw cy a S) [(0, .ref (a 0)), (3, .long x3), (5, .int x5), (6, .int x6)] 115 [.int y0, .int y1, .ref (a 4)] := by
  unfold w_X12_takes_B115 at h
  obtain ⟨g10, h⟩ := h
  obtain ⟨g11, h⟩ := h
  refine y_zast (q0 := 4) (j := y1.toNatClampNeg) b (mw_4 cy a S) (zx_r g10.1 g10.2) g11 dX12_takes_115 (mwa_4 cy a S (y1.toNatClampNeg) y0) ?_
  refine z_aload_n b dX12_takes_116 rfl rfl ?_
  refine z_get (q0 := 0) (k9 := 3) (v := .ref (a 4)) b (mw_0 cy a (su S 3 (y1.toNatClampNeg) y0)) rfl in_X12 (by decide) wf_X12_23 rfl dX12_takes_117 ?_
  refine z_iconst (v := 3) b dX12_takes_120 (by decide) ?_
  refine z_iload b dX12_takes_121 rfl ?_
  refine z_imul b dX12_takes_123 rfl ?_
  refine z_iload b dX12_takes_124 rfl ?_
  refine z_iadd b dX12_takes_126 rfl ?_
  refine z_aload_n b dX12_takes_127 rfl rfl ?_
  refine z_get (q0 := 0) (k9 := 3) (v := .ref (a 4)) b (mw_0 cy a (su S 3 (y1.toNatClampNeg) y0)) rfl in_X12 (by decide) wf_X12_23 rfl dX12_takes_128 ?_
  refine z_iconst (v := 3) b dX12_takes_131 (by decide) ?_
  refine z_iload b dX12_takes_132 rfl ?_
  refine z_imul b dX12_takes_134 rfl ?_
  refine z_iload b dX12_takes_135 rfl ?_
  refine z_iadd b dX12_takes_137 rfl ?_
  obtain ⟨g12, h⟩ := h
  refine y_zald (q0 := 4) (j := (((3 : Int32) * x5) + x6).toNatClampNeg) (v := ((upd (ar S 3) (y1.toNatClampNeg) y0) (((3 : Int32) * x5) + x6).toNatClampNeg)) b (mw_4 cy a (su S 3 (y1.toNatClampNeg) y0)) (zx_r g12.1 g12.2) rfl dX12_takes_138 ?_
  obtain ⟨g13, h⟩ := h
  obtain ⟨g14, h⟩ := h
  refine y_zast (q0 := 4) (j := (((3 : Int32) * x6) + x5).toNatClampNeg) b (mw_4 cy a (su S 3 (y1.toNatClampNeg) y0)) (zx_r g13.1 g13.2) g14 dX12_takes_139 (mwa_4 cy a (su S 3 (y1.toNatClampNeg) y0) ((((3 : Int32) * x6) + x5).toNatClampNeg) ((upd (ar S 3) (y1.toNatClampNeg) y0) (((3 : Int32) * x5) + x6).toNatClampNeg)) ?_
  refine z_aload_n b dX12_takes_140 rfl rfl ?_
  refine z_get (q0 := 0) (k9 := 2) (v := .ref (a 3)) b (mw_0 cy a (su (su S 3 (y1.toNatClampNeg) y0) 3 ((((3 : Int32) * x6) + x5).toNatClampNeg) ((upd (ar S 3) (y1.toNatClampNeg) y0) (((3 : Int32) * x5) + x6).toNatClampNeg))) rfl in_X12 (by decide) wf_X12_20 rfl dX12_takes_141 ?_
  refine z_iload b dX12_takes_144 rfl ?_
  refine z_lload_n b dX12_takes_146 rfl rfl ?_
  refine z_iconst (v := 1) b dX12_takes_147 (by decide) ?_
  refine z_lshr b dX12_takes_148 rfl ?_
  refine z_ldc2 b wl_X12_166 dX12_takes_149 ?_
  refine z_land b dX12_takes_152 rfl ?_
  refine z_l2i b dX12_takes_153 rfl ?_
  obtain ⟨g15, h⟩ := h
  refine y_iast (q0 := 3) (j := x5.toNatClampNeg) b (mw_3 cy a (su (su S 3 (y1.toNatClampNeg) y0) 3 ((((3 : Int32) * x6) + x5).toNatClampNeg) ((upd (ar S 3) (y1.toNatClampNeg) y0) (((3 : Int32) * x5) + x6).toNatClampNeg))) (zx_r g15.1 g15.2) dX12_takes_154 (mwa_3 cy a (su (su S 3 (y1.toNatClampNeg) y0) 3 ((((3 : Int32) * x6) + x5).toNatClampNeg) ((upd (ar S 3) (y1.toNatClampNeg) y0) (((3 : Int32) * x5) + x6).toNatClampNeg)) (x5.toNatClampNeg) (((x3 >>> ((1 : Int32).toInt64 &&& 63)) &&& 3) : Int64).toInt32) ?_
  refine z_aload_n b dX12_takes_155 rfl rfl ?_
  refine z_get (q0 := 0) (k9 := 0) (v := .ref (a 1)) b (mw_0 cy a (su (su (su S 3 (y1.toNatClampNeg) y0) 3 ((((3 : Int32) * x6) + x5).toNatClampNeg) ((upd (ar S 3) (y1.toNatClampNeg) y0) (((3 : Int32) * x5) + x6).toNatClampNeg)) 2 (x5.toNatClampNeg) (((x3 >>> ((1 : Int32).toInt64 &&& 63)) &&& 3) : Int64).toInt32)) rfl in_X12 (by decide) wf_X12_13 rfl dX12_takes_156 ?_
  refine z_iload b dX12_takes_159 rfl ?_
  refine z_lload_n b dX12_takes_161 rfl rfl ?_
  refine z_iconst (v := 3) b dX12_takes_162 (by decide) ?_
  refine z_lshr b dX12_takes_163 rfl ?_
  refine z_ldc2 b wl_X12_168 dX12_takes_164 ?_
  refine z_land b dX12_takes_167 rfl ?_
  refine z_l2i b dX12_takes_168 rfl ?_
  obtain ⟨g16, h⟩ := h
  refine y_iast (q0 := 1) (j := x5.toNatClampNeg) b (mw_1 cy a (su (su (su S 3 (y1.toNatClampNeg) y0) 3 ((((3 : Int32) * x6) + x5).toNatClampNeg) ((upd (ar S 3) (y1.toNatClampNeg) y0) (((3 : Int32) * x5) + x6).toNatClampNeg)) 2 (x5.toNatClampNeg) (((x3 >>> ((1 : Int32).toInt64 &&& 63)) &&& 3) : Int64).toInt32)) (zx_r g16.1 g16.2) dX12_takes_169 (mwa_1 cy a (su (su (su S 3 (y1.toNatClampNeg) y0) 3 ((((3 : Int32) * x6) + x5).toNatClampNeg) ((upd (ar S 3) (y1.toNatClampNeg) y0) (((3 : Int32) * x5) + x6).toNatClampNeg)) 2 (x5.toNatClampNeg) (((x3 >>> ((1 : Int32).toInt64 &&& 63)) &&& 3) : Int64).toInt32) (x5.toNatClampNeg) (((x3 >>> ((3 : Int32).toInt64 &&& 63)) &&& 15) : Int64).toInt32) ?_
  refine z_lload_n b dX12_takes_170 rfl rfl ?_
  refine z_bipush (v := 7) b dX12_takes_171 (by decide) ?_
  refine z_lshr b dX12_takes_173 rfl ?_
  refine z_lstore_n (lv' := [(3, .long (x3 >>> ((7 : Int32).toInt64 &&& 63))), (0, .ref (a 0)), (5, .int x5), (6, .int x6)]) b dX12_takes_174 rfl (by decide) rfl ?_
  refine z_iinc (k9 := 2) (v := (x5 + (-1))) (lv' := [(5, .int (x5 + (-1))), (3, .long (x3 >>> ((7 : Int32).toInt64 &&& 63))), (0, .ref (a 0)), (6, .int x6)]) b dX12_takes_175 rfl rfl (by decide) rfl ?_
  refine z_goto (tgt := 5) b dX12_takes_178 (by decide) ?_
  refine z_lv0 (lv' := [(0, .ref (a 0)), (3, .long (x3 >>> ((7 : Int32).toInt64 &&& 63))), (5, .int (x5 + (-1)))]) [2, 1, 0] rfl ?_
  exact hk5 _ _ _ h

def w_X12_takes_B83 (post : GS → Prop) (k5 : GS → Int64 → Int32 → Prop) (k181 : GS → Int64 → Prop) (S : GS) (x3 : Int64) (x5 : Int32) : Prop :=
  w_X12_other S x5 0 (fun r8 S9 => (((lg_cmp (x3 &&& 1) 1).toInt ≠ 0 → w_X12_takes_B115 post k5 k181 S9 x3 x5 r8 0 (((3 : Int32) * x5) + r8)) ∧ ((lg_cmp (x3 &&& 1) 1).toInt = 0 → w_X12_takes_B115 post k5 k181 S9 x3 x5 r8 1 (((3 : Int32) * x5) + r8))))

set_option maxHeartbeats 4000000 in
set_option maxRecDepth 100000 in
theorem z_X12_takes_B83 {p : Program} {l : Launch} {e : Env} {R : Room} {s : State} {m : MethodId} {args : Array Value} {below : List Frame} {meth : Method} {c : Code} {D : va_G} {cy : Nat → ClassId} {T0 tB tE : Nat} {A : Nat → Prop} {a : Nat → Nat} {post : GS → Prop} {k5 : GS → Int64 → Int32 → Prop} {k181 : GS → Int64 → Prop} (b : Bz p R s m args meth c D cy T0 tB tE A 7 cX12_takes RX12 none "takes" 1 21 0 0) (hk5 : ∀ (S : GS) (x3 : Int64) (x5 : Int32), k5 S x3 x5 → Z p l e R s m args below meth c D A 7 (MQ below (QV D (U := GS) post (mw cy a) A) args s 0 0 A) 0 0 (mw cy a S) [(0, .ref (a 0)), (3, .long x3), (5, .int x5)] 5 []) (hk181 : ∀ (S : GS) (x3 : Int64), k181 S x3 → Z p l e R s m args below meth c D A 7 (MQ below (QV D (U := GS) post (mw cy a) A) args s 0 0 A) 0 0 (mw cy a S) [(0, .ref (a 0)), (3, .long x3)] 181 []) (S : GS) (x3 : Int64) (x5 : Int32) (h : w_X12_takes_B83 post k5 k181 S x3 x5) : Z p l e R s m args below meth c D A 7 (MQ below (QV D (U := GS) post (mw cy a) A) args s 0 0 A) 0 0 (mw cy a S) [(0, .ref (a 0)), (3, .long x3), (5, .int x5)] 83 [] := by
  unfold w_X12_takes_B83 at h
  refine z_iload b dX12_takes_83 rfl ?_
  refine z_iconst (v := 0) b dX12_takes_85 (by decide) ?_
  refine z_calli b (z_runS (As := [.int x5, .int 0]) (st := []) b (k_X12_other S x5 0 _ h) cf_X12_other wm_X12_160 ws_X12_other dX12_takes_86 rfl (Nat.le_of_ble_eq_true rfl) ⟨by decide, by decide, by decide, by decide⟩) (fun r8 S9 h => ?_)
  refine z_istore (lv' := [(6, .int r8), (0, .ref (a 0)), (3, .long x3), (5, .int x5)]) b dX12_takes_89 (by decide) rfl ?_
  refine z_aload_n b dX12_takes_91 rfl rfl ?_
  refine z_get (q0 := 0) (k9 := 3) (v := .ref (a 4)) b (mw_0 cy a S9) rfl in_X12 (by decide) wf_X12_23 rfl dX12_takes_92 ?_
  refine z_iconst (v := 3) b dX12_takes_95 (by decide) ?_
  refine z_iload b dX12_takes_96 rfl ?_
  refine z_imul b dX12_takes_98 rfl ?_
  refine z_iload b dX12_takes_99 rfl ?_
  refine z_iadd b dX12_takes_101 rfl ?_
  refine z_lload_n b dX12_takes_102 rfl rfl ?_
  refine z_lconst (v := 1) b dX12_takes_103 (by decide) ?_
  refine z_land b dX12_takes_104 rfl ?_
  refine z_lconst (v := 1) b dX12_takes_105 (by decide) ?_
  refine z_lcmp b dX12_takes_106 rfl ?_
  refine y_if_ne (tgt := 114) (xl := (lg_cmp (x3 &&& 1) 1).toInt) b rfl dX12_takes_107 (by decide) (fun c1 => ?_) (fun c1 => ?_)
  · replace h := h.1 c1
    refine z_iconst (v := 0) b dX12_takes_114 (by decide) ?_
    refine z_lv0 (lv' := [(0, .ref (a 0)), (3, .long x3), (5, .int x5), (6, .int r8)]) [1, 2, 3, 0] rfl ?_
    exact z_X12_takes_B115 b hk5 hk181 _ _ _ _ _ _ h
  · replace h := h.2 c1
    refine z_iconst (v := 1) b dX12_takes_110 (by decide) ?_
    refine z_goto (tgt := 115) b dX12_takes_111 (by decide) ?_
    refine z_lv0 (lv' := [(0, .ref (a 0)), (3, .long x3), (5, .int x5), (6, .int r8)]) [1, 2, 3, 0] rfl ?_
    exact z_X12_takes_B115 b hk5 hk181 _ _ _ _ _ _ h

def w_X12_takes_F5 (post : GS → Prop) (k181 : GS → Int64 → Prop) (k5 : GS → Int64 → Int32 → Prop) (S : GS) (x3 : Int64) (x5 : Int32) : Prop :=
  ((x5.toInt < 0 → k181 S x3) ∧ (0 ≤ x5.toInt → ∃ n, lpn (w_X12_takes_F13 post (w_X12_takes_B83 post k5 k181)) (fun _ _ _ _ => False) n S x3 x5 1))

set_option maxHeartbeats 4000000 in
set_option maxRecDepth 100000 in
theorem z_X12_takes_F5 {p : Program} {l : Launch} {e : Env} {R : Room} {s : State} {m : MethodId} {args : Array Value} {below : List Frame} {meth : Method} {c : Code} {D : va_G} {cy : Nat → ClassId} {T0 tB tE : Nat} {A : Nat → Prop} {a : Nat → Nat} {post : GS → Prop} {k181 : GS → Int64 → Prop} {k5 : GS → Int64 → Int32 → Prop} (b : Bz p R s m args meth c D cy T0 tB tE A 7 cX12_takes RX12 none "takes" 1 21 0 0) (hk181 : ∀ (S : GS) (x3 : Int64), k181 S x3 → Z p l e R s m args below meth c D A 7 (MQ below (QV D (U := GS) post (mw cy a) A) args s 0 0 A) 0 0 (mw cy a S) [(0, .ref (a 0)), (3, .long x3)] 181 []) (hk5 : ∀ (S : GS) (x3 : Int64) (x5 : Int32), k5 S x3 x5 → Z p l e R s m args below meth c D A 7 (MQ below (QV D (U := GS) post (mw cy a) A) args s 0 0 A) 0 0 (mw cy a S) [(0, .ref (a 0)), (3, .long x3), (5, .int x5)] 5 []) (S : GS) (x3 : Int64) (x5 : Int32) (h : w_X12_takes_F5 post k181 k5 S x3 x5) : Z p l e R s m args below meth c D A 7 (MQ below (QV D (U := GS) post (mw cy a) A) args s 0 0 A) 0 0 (mw cy a S) [(0, .ref (a 0)), (3, .long x3), (5, .int x5)] 5 [] := by
  unfold w_X12_takes_F5 at h
  refine z_iload b dX12_takes_5 rfl ?_
  refine y_if_lt (tgt := 181) (xl := x5.toInt) b rfl dX12_takes_7 (by decide) (fun c1 => ?_) (fun c1 => ?_)
  · replace h := h.1 c1
    refine z_lv0 (lv' := [(0, .ref (a 0)), (3, .long x3)]) [0, 1] rfl ?_
    exact hk181 _ _ h
  · replace h := h.2 c1
    refine z_iconst (v := 1) b dX12_takes_10 (by decide) ?_
    refine z_istore (lv' := [(6, .int 1), (0, .ref (a 0)), (3, .long x3), (5, .int x5)]) b dX12_takes_11 (by decide) rfl ?_
    refine z_lv0 (lv' := [(0, .ref (a 0)), (3, .long x3), (5, .int x5), (6, .int 1)]) [1, 2, 3, 0] rfl ?_
    obtain ⟨n, h⟩ := h
    exact zl_X12_takes_L13 b (fun S x3 x5 h => z_X12_takes_B83 b hk5 hk181 _ _ _ h) n _ _ _ _ h

set_option maxHeartbeats 4000000 in
set_option maxRecDepth 100000 in
theorem zl_X12_takes_L5 {p : Program} {l : Launch} {e : Env} {R : Room} {s : State} {m : MethodId} {args : Array Value} {below : List Frame} {meth : Method} {c : Code} {D : va_G} {cy : Nat → ClassId} {T0 tB tE : Nat} {A : Nat → Prop} {a : Nat → Nat} {post : GS → Prop} {k181 : GS → Int64 → Prop} (b : Bz p R s m args meth c D cy T0 tB tE A 7 cX12_takes RX12 none "takes" 1 21 0 0) (hk181 : ∀ (S : GS) (x3 : Int64), k181 S x3 → Z p l e R s m args below meth c D A 7 (MQ below (QV D (U := GS) post (mw cy a) A) args s 0 0 A) 0 0 (mw cy a S) [(0, .ref (a 0)), (3, .long x3)] 181 []) : ∀ (n : Nat) (S : GS) (x3 : Int64) (x5 : Int32), lpn (w_X12_takes_F5 post k181) (fun _ _ _ => False) n S x3 x5 → Z p l e R s m args below meth c D A 7 (MQ below (QV D (U := GS) post (mw cy a) A) args s 0 0 A) 0 0 (mw cy a S) [(0, .ref (a 0)), (3, .long x3), (5, .int x5)] 5 [] := by
  intro n
  induction n with
  | zero => intro _ _ _ h; exact h.elim
  | succ n ih => intro S x3 x5 h; exact z_X12_takes_F5 b hk181 ih S x3 x5 h

def w_X12_takes_B181 (post : GS → Prop) (S : GS) (x3 : Int64) : Prop :=
  post (si S 0 (x3 : Int64).toInt32)

set_option maxHeartbeats 4000000 in
set_option maxRecDepth 100000 in
theorem z_X12_takes_B181 {p : Program} {l : Launch} {e : Env} {R : Room} {s : State} {m : MethodId} {args : Array Value} {below : List Frame} {meth : Method} {c : Code} {D : va_G} {cy : Nat → ClassId} {T0 tB tE : Nat} {A : Nat → Prop} {a : Nat → Nat} {post : GS → Prop} (b : Bz p R s m args meth c D cy T0 tB tE A 7 cX12_takes RX12 none "takes" 1 21 0 0) (S : GS) (x3 : Int64) (h : w_X12_takes_B181 post S x3) : Z p l e R s m args below meth c D A 7 (MQ below (QV D (U := GS) post (mw cy a) A) args s 0 0 A) 0 0 (mw cy a S) [(0, .ref (a 0)), (3, .long x3)] 181 [] := by
  unfold w_X12_takes_B181 at h
  refine z_aload_n b dX12_takes_181 rfl rfl ?_
  refine z_lload_n b dX12_takes_182 rfl rfl ?_
  refine z_l2i b dX12_takes_183 rfl ?_
  refine z_put (q0 := 0) (k9 := 5) tyX12 b (mw_0 cy a S) rfl in_X12 tyX12_ok nmX12 (by decide) wf_X12_157 rfl rfl rfl rfl (Nat.le_of_ble_eq_true rfl) dX12_takes_184 (mwp_0_5 cy a S (x3 : Int64).toInt32) ?_
  exact z_vret (u := (si S 0 (x3 : Int64).toInt32)) b rfl dX12_takes_187 h rfl (by decide) (by decide)

def w_X12_takes (S : GS) (p0 : Int64) (post : GS → Prop) : Prop :=
  ∃ n, lpn (w_X12_takes_F5 post (w_X12_takes_B181 post)) (fun _ _ _ => False) n S p0 2

set_option maxHeartbeats 4000000 in
set_option maxRecDepth 100000 in
theorem k_X12_takes {l : Launch} {D : va_G} {cy : Nat → ClassId} {T0 tB tE : Nat} {a : Nat → Nat} (S : GS) (p0 : Int64) (post : GS → Prop) (h : w_X12_takes S p0 post) : Ct l D cy T0 tB tE yX12_takes cX12_takes 7 none 1 21 0 0 (mw cy a S) [.ref (a 0), .long p0] (QV D (U := GS) post (mw cy a)) := by
  refine Ct.ofZ RX12 "takes" [(0, .ref (a 0)), (1, .long p0)] rfl rfl rfl rfl (Nat.le_of_ble_eq_true rfl) ?_
  intro p e R s m args below meth c A b
  unfold w_X12_takes at h
  refine z_lload_n b dX12_takes_0 rfl rfl ?_
  refine z_lstore_n (lv' := [(3, .long p0), (0, .ref (a 0)), (1, .long p0)]) b dX12_takes_1 rfl (by decide) rfl ?_
  refine z_iconst (v := 2) b dX12_takes_2 (by decide) ?_
  refine z_istore (lv' := [(5, .int 2), (3, .long p0), (0, .ref (a 0)), (1, .long p0)]) b dX12_takes_3 (by decide) rfl ?_
  refine z_lv0 (lv' := [(0, .ref (a 0)), (3, .long p0), (5, .int 2)]) [2, 1, 0] rfl ?_
  obtain ⟨n, h⟩ := h
  exact zl_X12_takes_L5 b (fun S x3 h => z_X12_takes_B181 b _ _ h) n _ _ _ h

def w_X12_day (S : GS) (p0 : Int32) (post : Int32 → GS → Prop) : Prop :=
  w_X12_isIn S p0 0 15 (fun r1 S2 => ((r1.toInt ≠ 0 → w_X12_takes S2 (fl S2 0) (fun S4 => w_X12_told (si S4 0 p0) (fun r5 S6 => (r5 = 0 ∨ r5 = 1) ∧ post r5 S6))) ∧ (r1.toInt = 0 → post 0 S2)))

set_option maxHeartbeats 4000000 in
set_option maxRecDepth 100000 in
theorem k_X12_day {l : Launch} {D : va_G} {cy : Nat → ClassId} {T0 tB tE : Nat} {a : Nat → Nat} (S : GS) (p0 : Int32) (post : Int32 → GS → Prop) (h : w_X12_day S p0 post) : Ct l D cy T0 tB tE yX12_day cX12_day 2 (some .boolean) 3 65 0 0 (mw cy a S) [.ref (a 0), .int p0] (QI D (U := GS) post (mw cy a)) := by
  refine Ct.ofZ RX12 "day" [(0, .ref (a 0)), (1, .int p0)] rfl rfl rfl rfl (Nat.le_of_ble_eq_true rfl) ?_
  intro p e R s m args below meth c A b
  unfold w_X12_day at h
  refine z_iload_n b dX12_day_0 rfl rfl ?_
  refine z_iconst (v := 0) b dX12_day_1 (by decide) ?_
  refine z_bipush (v := 15) b dX12_day_2 (by decide) ?_
  refine z_calli b (z_runS (As := [.int p0, .int 0, .int 15]) (st := []) b (k_X12_isIn S p0 0 15 _ h) cf_X12_isIn wm_X12_1 ws_X12_isIn dX12_day_4 rfl (Nat.le_of_ble_eq_true rfl) ⟨by decide, by decide, by decide, by decide⟩) (fun r1 S2 h => ?_)
  refine y_if_ne (tgt := 12) (xl := r1.toInt) b rfl dX12_day_7 (by decide) (fun c1 => ?_) (fun c1 => ?_)
  · replace h := h.1 c1
    refine z_aload_n b dX12_day_12 rfl rfl ?_
    refine z_aload_n b dX12_day_13 rfl rfl ?_
    refine z_get (q0 := 0) (k9 := 6) (v := .long (fl S2 0)) b (mw_0 cy a S2) rfl in_X12 (by decide) wf_X12_153 rfl dX12_day_14 ?_
    refine z_callv b (z_runV (q0 := 0) (As := [.long (fl S2 0)]) (st := []) b (k_X12_takes S2 (fl S2 0) _ h) cf_X12_takes (mw_0 cy a S2) rfl wm_X12_174 wi_X12_takes ws_X12_takes dX12_day_17 rfl (Nat.le_of_ble_eq_true rfl) ⟨by decide, by decide, by decide, by decide⟩) (fun S4 h => ?_)
    refine z_aload_n b dX12_day_20 rfl rfl ?_
    refine z_iload_n b dX12_day_21 rfl rfl ?_
    refine z_put (q0 := 0) (k9 := 5) tyX12 b (mw_0 cy a S4) rfl in_X12 tyX12_ok nmX12 (by decide) wf_X12_157 rfl rfl rfl rfl (Nat.le_of_ble_eq_true rfl) dX12_day_22 (mwp_0_5 cy a S4 p0) ?_
    refine z_aload_n b dX12_day_25 rfl rfl ?_
    refine z_calli b (z_runV (q0 := 0) (As := []) (st := []) b (k_X12_told (si S4 0 p0) _ h) cf_X12_told (mw_0 cy a (si S4 0 p0)) rfl wm_X12_178 wi_X12_told ws_X12_told dX12_day_26 rfl (Nat.le_of_ble_eq_true rfl) ⟨by decide, by decide, by decide, by decide⟩) (fun r5 S6 h => ?_)
    obtain ⟨g7, h⟩ := h
    exact z_zret (u := S6) b rfl (z_bool g7) dX12_day_29 h rfl (by decide) (by decide)
  · replace h := h.2 c1
    refine z_iconst (v := 0) b dX12_day_10 (by decide) ?_
    exact z_zret (u := S2) b rfl (by decide) dX12_day_11 h rfl (by decide) (by decide)

def w_X12_begins (S : GS)  (post : GS → Prop) : Prop :=
  w_X12_next0 (su (si (si (si S 6 0) 2 0) 12 0) 6 13 0) (fun S2 => post S2)

set_option maxHeartbeats 4000000 in
set_option maxRecDepth 100000 in
theorem k_X12_begins {l : Launch} {D : va_G} {cy : Nat → ClassId} {T0 tB tE : Nat} {a : Nat → Nat} (S : GS)  (post : GS → Prop) (h : w_X12_begins S  post) : Ct l D cy T0 tB tE yX12_begins cX12_begins 1 none 7 150 0 0 (mw cy a S) [.ref (a 0)] (QV D (U := GS) post (mw cy a)) := by
  refine Ct.ofZ RX12 "begins" [(0, .ref (a 0))] rfl rfl rfl rfl (Nat.le_of_ble_eq_true rfl) ?_
  intro p e R s m args below meth c A b
  unfold w_X12_begins at h
  refine z_aload_n b dX12_begins_0 rfl rfl ?_
  refine z_iconst (v := 0) b dX12_begins_1 (by decide) ?_
  refine z_put (q0 := 0) (k9 := 30) tyX12 b (mw_0 cy a S) rfl in_X12 tyX12_ok nmX12 (by decide) wf_X12_257 rfl rfl rfl rfl (Nat.le_of_ble_eq_true rfl) dX12_begins_2 (mwp_0_30 cy a S 0) ?_
  refine z_aload_n b dX12_begins_5 rfl rfl ?_
  refine z_iconst (v := 0) b dX12_begins_6 (by decide) ?_
  refine z_put (q0 := 0) (k9 := 26) tyX12 b (mw_0 cy a (si S 6 0)) rfl in_X12 tyX12_ok nmX12 (by decide) wf_X12_185 rfl rfl rfl rfl (Nat.le_of_ble_eq_true rfl) dX12_begins_7 (mwp_0_26 cy a (si S 6 0) 0) ?_
  refine z_aload_n b dX12_begins_10 rfl rfl ?_
  refine z_iconst (v := 0) b dX12_begins_11 (by decide) ?_
  refine z_put (q0 := 0) (k9 := 36) tyX12 b (mw_0 cy a (si (si S 6 0) 2 0)) rfl in_X12 tyX12_ok nmX12 (by decide) wf_X12_321 rfl rfl rfl rfl (Nat.le_of_ble_eq_true rfl) dX12_begins_12 (mwp_0_36 cy a (si (si S 6 0) 2 0) 0) ?_
  refine z_aload_n b dX12_begins_15 rfl rfl ?_
  refine z_get (q0 := 0) (k9 := 8) (v := .ref (a 7)) b (mw_0 cy a (si (si (si S 6 0) 2 0) 12 0)) rfl in_X12 (by decide) wf_X12_33 rfl dX12_begins_16 ?_
  refine z_bipush (v := 13) b dX12_begins_19 (by decide) ?_
  refine z_iconst (v := 0) b dX12_begins_21 (by decide) ?_
  refine y_iast (q0 := 7) (j := 13) b (mw_7 cy a (si (si (si S 6 0) 2 0) 12 0)) (by decide) dX12_begins_22 (mwa_7 cy a (si (si (si S 6 0) 2 0) 12 0) 13 0) ?_
  refine z_aload_n b dX12_begins_23 rfl rfl ?_
  refine z_callv b (z_runV (q0 := 0) (As := []) (st := []) b (k_X12_next0 (su (si (si (si S 6 0) 2 0) 12 0) 6 13 0) _ h) cf_X12_next0 (mw_0 cy a (su (si (si (si S 6 0) 2 0) 12 0) 6 13 0)) rfl wm_X12_266 wi_X12_next0 ws_X12_next0 dX12_begins_24 rfl (Nat.le_of_ble_eq_true rfl) ⟨by decide, by decide, by decide, by decide⟩) (fun S2 h => ?_)
  exact z_vret (u := S2) b rfl dX12_begins_27 h rfl (by decide) (by decide)

def w_X12_ends_B29 (post : GS → Prop) (S : GS) (y0 : Int32) : Prop :=
  post (si S 13 y0)

set_option maxHeartbeats 4000000 in
set_option maxRecDepth 100000 in
theorem z_X12_ends_B29 {p : Program} {l : Launch} {e : Env} {R : Room} {s : State} {m : MethodId} {args : Array Value} {below : List Frame} {meth : Method} {c : Code} {D : va_G} {cy : Nat → ClassId} {T0 tB tE : Nat} {A : Nat → Prop} {a : Nat → Nat} {post : GS → Prop} (b : Bz p R s m args meth c D cy T0 tB tE A 1 cX12_ends RX12 none "ends" 0 0 0 0) (S : GS) (y0 : Int32) (h : w_X12_ends_B29 post S y0) : Z p l e R s m args below meth c D A 1 (MQ below (QV D (U := GS) post (mw cy a) A) args s 0 0 A) 0 0 (mw cy a S) [] 29 [.int y0, .ref (a 0)] := by
  unfold w_X12_ends_B29 at h
  refine z_put (q0 := 0) (k9 := 37) tyX12 b (mw_0 cy a S) rfl in_X12 tyX12_ok nmX12 (by decide) wf_X12_84 rfl rfl rfl rfl (Nat.le_of_ble_eq_true rfl) dX12_ends_29 (mwp_0_37 cy a S y0) ?_
  exact z_vret (u := (si S 13 y0)) b rfl dX12_ends_32 h rfl (by decide) (by decide)

def w_X12_ends (S : GS)  (post : GS → Prop) : Prop :=
  (((fi S 6).toInt ≠ 0 → w_X12_ends_B29 post (si (si S 1 0) 8 (fi S 6)) (fi S 7)) ∧ ((fi S 6).toInt = 0 → w_X12_ends_B29 post (si (si S 1 0) 8 (fi S 6)) (-1)))

set_option maxHeartbeats 4000000 in
set_option maxRecDepth 100000 in
theorem k_X12_ends {l : Launch} {D : va_G} {cy : Nat → ClassId} {T0 tB tE : Nat} {a : Nat → Nat} (S : GS)  (post : GS → Prop) (h : w_X12_ends S  post) : Ct l D cy T0 tB tE yX12_ends cX12_ends 1 none 0 0 0 0 (mw cy a S) [.ref (a 0)] (QV D (U := GS) post (mw cy a)) := by
  refine Ct.ofZ RX12 "ends" [(0, .ref (a 0))] rfl rfl rfl rfl (Nat.le_of_ble_eq_true rfl) ?_
  intro p e R s m args below meth c A b
  unfold w_X12_ends at h
  refine z_aload_n b dX12_ends_0 rfl rfl ?_
  refine z_iconst (v := 0) b dX12_ends_1 (by decide) ?_
  refine z_put (q0 := 0) (k9 := 25) tyX12 b (mw_0 cy a S) rfl in_X12 tyX12_ok nmX12 (by decide) wf_X12_182 rfl rfl rfl rfl (Nat.le_of_ble_eq_true rfl) dX12_ends_2 (mwp_0_25 cy a S 0) ?_
  refine z_aload_n b dX12_ends_5 rfl rfl ?_
  refine z_aload_n b dX12_ends_6 rfl rfl ?_
  refine z_get (q0 := 0) (k9 := 30) (v := .int (fi S 6)) b (mw_0 cy a (si S 1 0)) rfl in_X12 (by decide) wf_X12_257 rfl dX12_ends_7 ?_
  refine z_put (q0 := 0) (k9 := 32) tyX12 b (mw_0 cy a (si S 1 0)) rfl in_X12 tyX12_ok nmX12 (by decide) wf_X12_333 rfl rfl rfl rfl (Nat.le_of_ble_eq_true rfl) dX12_ends_10 (mwp_0_32 cy a (si S 1 0) (fi S 6)) ?_
  refine z_aload_n b dX12_ends_13 rfl rfl ?_
  refine z_aload_n b dX12_ends_14 rfl rfl ?_
  refine z_get (q0 := 0) (k9 := 30) (v := .int (fi S 6)) b (mw_0 cy a (si (si S 1 0) 8 (fi S 6))) rfl in_X12 (by decide) wf_X12_257 rfl dX12_ends_15 ?_
  refine y_if_ne (tgt := 25) (xl := (fi S 6).toInt) b rfl dX12_ends_18 (by decide) (fun c1 => ?_) (fun c1 => ?_)
  · replace h := h.1 c1
    refine z_aload_n b dX12_ends_25 rfl rfl ?_
    refine z_get (q0 := 0) (k9 := 31) (v := .int (fi S 7)) b (mw_0 cy a (si (si S 1 0) 8 (fi S 6))) rfl in_X12 (by decide) wf_X12_260 rfl dX12_ends_26 ?_
    refine z_lv0 (lv' := []) [] rfl ?_
    exact z_X12_ends_B29 b _ _ h
  · replace h := h.2 c1
    refine z_iconst (v := (-1)) b dX12_ends_21 (by decide) ?_
    refine z_goto (tgt := 29) b dX12_ends_22 (by decide) ?_
    refine z_lv0 (lv' := []) [] rfl ?_
    exact z_X12_ends_B29 b _ _ h

def w_X12_clear (S : GS) (p0 : Int32) (post : Int32 → GS → Prop) : Prop :=
  w_X12_isRow S p0 (fun r1 S2 => ((r1.toInt ≠ 0 → (0 ≤ p0.toInt ∧ p0.toInt < 6) ∧ (0 ≤ p0.toInt ∧ p0.toInt < 6) ∧ post 1 (su (su S2 38 (p0.toNatClampNeg) 0) 39 (p0.toNatClampNeg) 0)) ∧ (r1.toInt = 0 → post 0 S2)))

set_option maxHeartbeats 4000000 in
set_option maxRecDepth 100000 in
theorem k_X12_clear {l : Launch} {D : va_G} {cy : Nat → ClassId} {T0 tB tE : Nat} {a : Nat → Nat} (S : GS) (p0 : Int32) (post : Int32 → GS → Prop) (h : w_X12_clear S p0 post) : Ct l D cy T0 tB tE yX12_clear cX12_clear 2 (some .boolean) 2 42 0 0 (mw cy a S) [.ref (a 0), .int p0] (QI D (U := GS) post (mw cy a)) := by
  refine Ct.ofZ RX12 "clear" [(0, .ref (a 0)), (1, .int p0)] rfl rfl rfl rfl (Nat.le_of_ble_eq_true rfl) ?_
  intro p e R s m args below meth c A b
  unfold w_X12_clear at h
  refine z_iload_n b dX12_clear_0 rfl rfl ?_
  refine z_calli b (z_runS (As := [.int p0]) (st := []) b (k_X12_isRow S p0 _ h) cf_X12_isRow wm_X12_452 ws_X12_isRow dX12_clear_1 rfl (Nat.le_of_ble_eq_true rfl) ⟨by decide, by decide, by decide, by decide⟩) (fun r1 S2 h => ?_)
  refine y_if_ne (tgt := 9) (xl := r1.toInt) b rfl dX12_clear_4 (by decide) (fun c1 => ?_) (fun c1 => ?_)
  · replace h := h.1 c1
    refine z_aload_n b dX12_clear_9 rfl rfl ?_
    refine z_get (q0 := 0) (k9 := 66) (v := .ref (a 41)) b (mw_0 cy a S2) rfl in_X12 (by decide) wf_X12_140 rfl dX12_clear_10 ?_
    refine z_iload_n b dX12_clear_13 rfl rfl ?_
    refine z_iconst (v := 0) b dX12_clear_14 (by decide) ?_
    obtain ⟨g3, h⟩ := h
    refine y_iast (q0 := 41) (j := p0.toNatClampNeg) b (mw_41 cy a S2) (zx_r g3.1 g3.2) dX12_clear_15 (mwa_41 cy a S2 (p0.toNatClampNeg) 0) ?_
    refine z_aload_n b dX12_clear_16 rfl rfl ?_
    refine z_get (q0 := 0) (k9 := 67) (v := .ref (a 42)) b (mw_0 cy a (su S2 38 (p0.toNatClampNeg) 0)) rfl in_X12 (by decide) wf_X12_143 rfl dX12_clear_17 ?_
    refine z_iload_n b dX12_clear_20 rfl rfl ?_
    refine z_iconst (v := 0) b dX12_clear_21 (by decide) ?_
    obtain ⟨g4, h⟩ := h
    refine y_zast (q0 := 42) (j := p0.toNatClampNeg) b (mw_42 cy a (su S2 38 (p0.toNatClampNeg) 0)) (zx_r g4.1 g4.2) (by decide) dX12_clear_22 (mwa_42 cy a (su S2 38 (p0.toNatClampNeg) 0) (p0.toNatClampNeg) 0) ?_
    refine z_iconst (v := 1) b dX12_clear_23 (by decide) ?_
    exact z_zret (u := (su (su S2 38 (p0.toNatClampNeg) 0) 39 (p0.toNatClampNeg) 0)) b rfl (by decide) dX12_clear_24 h rfl (by decide) (by decide)
  · replace h := h.2 c1
    refine z_iconst (v := 0) b dX12_clear_7 (by decide) ?_
    exact z_zret (u := S2) b rfl (by decide) dX12_clear_8 h rfl (by decide) (by decide)

def w_X12_honest_B17 (post : Int32 → GS → Prop) (S : GS)  : Prop :=
  post 0 S

set_option maxHeartbeats 4000000 in
set_option maxRecDepth 100000 in
theorem z_X12_honest_B17 {p : Program} {l : Launch} {e : Env} {R : Room} {s : State} {m : MethodId} {args : Array Value} {below : List Frame} {meth : Method} {c : Code} {D : va_G} {cy : Nat → ClassId} {T0 tB tE : Nat} {A : Nat → Prop} {a : Nat → Nat} {post : Int32 → GS → Prop} (b : Bz p R s m args meth c D cy T0 tB tE A 3 cX12_honest RX12 (some .boolean) "honest" 2 42 0 0) (S : GS)  (h : w_X12_honest_B17 post S ) : Z p l e R s m args below meth c D A 3 (MQ below (QI D (U := GS) post (mw cy a) A) args s 0 0 A) 0 0 (mw cy a S) [] 17 [] := by
  unfold w_X12_honest_B17 at h
  refine z_iconst (v := 0) b dX12_honest_17 (by decide) ?_
  exact z_zret (u := S) b rfl (by decide) dX12_honest_18 h rfl (by decide) (by decide)

def w_X12_honest (S : GS) (p0 : Int32) (p1 : Int32) (post : Int32 → GS → Prop) : Prop :=
  w_X12_isRow S p0 (fun r1 S2 => ((r1.toInt = 0 → w_X12_honest_B17 post S2) ∧ (r1.toInt ≠ 0 → (0 ≤ p0.toInt ∧ p0.toInt < 6) ∧ ((((ar S2 39) p0.toNatClampNeg).toInt ≠ p1.toInt → (0 ≤ p0.toInt ∧ p0.toInt < 6) ∧ (p1 = 0 ∨ p1 = 1) ∧ post 1 (su S2 39 (p0.toNatClampNeg) p1)) ∧ (((ar S2 39) p0.toNatClampNeg).toInt = p1.toInt → w_X12_honest_B17 post S2)))))

set_option maxHeartbeats 4000000 in
set_option maxRecDepth 100000 in
theorem k_X12_honest {l : Launch} {D : va_G} {cy : Nat → ClassId} {T0 tB tE : Nat} {a : Nat → Nat} (S : GS) (p0 : Int32) (p1 : Int32) (post : Int32 → GS → Prop) (h : w_X12_honest S p0 p1 post) : Ct l D cy T0 tB tE yX12_honest cX12_honest 3 (some .boolean) 2 42 0 0 (mw cy a S) [.ref (a 0), .int p0, .int p1] (QI D (U := GS) post (mw cy a)) := by
  refine Ct.ofZ RX12 "honest" [(0, .ref (a 0)), (1, .int p0), (2, .int p1)] rfl rfl rfl rfl (Nat.le_of_ble_eq_true rfl) ?_
  intro p e R s m args below meth c A b
  unfold w_X12_honest at h
  refine z_iload_n b dX12_honest_0 rfl rfl ?_
  refine z_calli b (z_runS (As := [.int p0]) (st := []) b (k_X12_isRow S p0 _ h) cf_X12_isRow wm_X12_452 ws_X12_isRow dX12_honest_1 rfl (Nat.le_of_ble_eq_true rfl) ⟨by decide, by decide, by decide, by decide⟩) (fun r1 S2 h => ?_)
  refine y_if_eq (tgt := 17) (xl := r1.toInt) b rfl dX12_honest_4 (by decide) (fun c1 => ?_) (fun c1 => ?_)
  · replace h := h.1 c1
    refine z_lv0 (lv' := []) [] rfl ?_
    exact z_X12_honest_B17 b _ h
  · replace h := h.2 c1
    refine z_aload_n b dX12_honest_7 rfl rfl ?_
    refine z_get (q0 := 0) (k9 := 67) (v := .ref (a 42)) b (mw_0 cy a S2) rfl in_X12 (by decide) wf_X12_143 rfl dX12_honest_8 ?_
    refine z_iload_n b dX12_honest_11 rfl rfl ?_
    obtain ⟨g3, h⟩ := h
    refine y_zald (q0 := 42) (j := p0.toNatClampNeg) (v := ((ar S2 39) p0.toNatClampNeg)) b (mw_42 cy a S2) (zx_r g3.1 g3.2) rfl dX12_honest_12 ?_
    refine z_iload_n b dX12_honest_13 rfl rfl ?_
    refine y_icmp_ne (tgt := 19) (xl := ((ar S2 39) p0.toNatClampNeg).toInt) (yl := p1.toInt) b rfl rfl dX12_honest_14 (by decide) (fun c1 => ?_) (fun c1 => ?_)
    · replace h := h.1 c1
      refine z_aload_n b dX12_honest_19 rfl rfl ?_
      refine z_get (q0 := 0) (k9 := 67) (v := .ref (a 42)) b (mw_0 cy a S2) rfl in_X12 (by decide) wf_X12_143 rfl dX12_honest_20 ?_
      refine z_iload_n b dX12_honest_23 rfl rfl ?_
      refine z_iload_n b dX12_honest_24 rfl rfl ?_
      obtain ⟨g4, h⟩ := h
      obtain ⟨g5, h⟩ := h
      refine y_zast (q0 := 42) (j := p0.toNatClampNeg) b (mw_42 cy a S2) (zx_r g4.1 g4.2) g5 dX12_honest_25 (mwa_42 cy a S2 (p0.toNatClampNeg) p1) ?_
      refine z_iconst (v := 1) b dX12_honest_26 (by decide) ?_
      exact z_zret (u := (su S2 39 (p0.toNatClampNeg) p1)) b rfl (by decide) dX12_honest_27 h rfl (by decide) (by decide)
    · replace h := h.2 c1
      refine z_lv0 (lv' := []) [] rfl ?_
      exact z_X12_honest_B17 b _ h

def w_X12_isAct_B31 (post : Int32 → GS → Prop) (S : GS) (y0 : Int32) : Prop :=
  (y0 = 0 ∨ y0 = 1) ∧ post y0 S

set_option maxHeartbeats 4000000 in
set_option maxRecDepth 100000 in
theorem z_X12_isAct_B31 {p : Program} {l : Launch} {e : Env} {R : Room} {s : State} {m : MethodId} {args : Array Value} {below : List Frame} {meth : Method} {c : Code} {D : va_G} {cy : Nat → ClassId} {T0 tB tE : Nat} {A : Nat → Prop} {a : Nat → Nat} {post : Int32 → GS → Prop} (b : Bz p R s m args meth c D cy T0 tB tE A 2 cX12_isAct RX12 (some .boolean) "isAct" 1 22 0 0) (S : GS) (y0 : Int32) (h : w_X12_isAct_B31 post S y0) : Z p l e R s m args below meth c D A 2 (MQ below (QI D (U := GS) post (mw cy a) A) args s 0 0 A) 0 0 (mw cy a S) [] 31 [.int y0] := by
  unfold w_X12_isAct_B31 at h
  obtain ⟨g3, h⟩ := h
  exact z_zret (u := S) b rfl (z_bool g3) dX12_isAct_31 h rfl (by decide) (by decide)

def w_X12_isAct_B30 (post : Int32 → GS → Prop) (S : GS)  : Prop :=
  w_X12_isAct_B31 post S 0

set_option maxHeartbeats 4000000 in
set_option maxRecDepth 100000 in
theorem z_X12_isAct_B30 {p : Program} {l : Launch} {e : Env} {R : Room} {s : State} {m : MethodId} {args : Array Value} {below : List Frame} {meth : Method} {c : Code} {D : va_G} {cy : Nat → ClassId} {T0 tB tE : Nat} {A : Nat → Prop} {a : Nat → Nat} {post : Int32 → GS → Prop} (b : Bz p R s m args meth c D cy T0 tB tE A 2 cX12_isAct RX12 (some .boolean) "isAct" 1 22 0 0) (S : GS)  (h : w_X12_isAct_B30 post S ) : Z p l e R s m args below meth c D A 2 (MQ below (QI D (U := GS) post (mw cy a) A) args s 0 0 A) 0 0 (mw cy a S) [] 30 [] := by
  unfold w_X12_isAct_B30 at h
  refine z_iconst (v := 0) b dX12_isAct_30 (by decide) ?_
  exact z_X12_isAct_B31 b _ _ h

def w_X12_isAct (S : GS) (p0 : Int32) (post : Int32 → GS → Prop) : Prop :=
  w_X12_isIn S p0 0 11 (fun r1 S2 => ((r1.toInt = 0 → w_X12_isAct_B30 post S2) ∧ (r1.toInt ≠ 0 → (0 ≤ (p0 / 6).toInt ∧ (p0 / 6).toInt < 2) ∧ ((((ar S2 7) (p0 / 6).toNatClampNeg).toInt ≤ (p0 - p0 / 6 * 6).toInt → w_X12_isAct_B30 post S2) ∧ ((p0 - p0 / 6 * 6).toInt < ((ar S2 7) (p0 / 6).toNatClampNeg).toInt → w_X12_isAct_B31 post S2 1)))))

set_option maxHeartbeats 4000000 in
set_option maxRecDepth 100000 in
theorem k_X12_isAct {l : Launch} {D : va_G} {cy : Nat → ClassId} {T0 tB tE : Nat} {a : Nat → Nat} (S : GS) (p0 : Int32) (post : Int32 → GS → Prop) (h : w_X12_isAct S p0 post) : Ct l D cy T0 tB tE yX12_isAct cX12_isAct 2 (some .boolean) 1 22 0 0 (mw cy a S) [.ref (a 0), .int p0] (QI D (U := GS) post (mw cy a)) := by
  refine Ct.ofZ RX12 "isAct" [(0, .ref (a 0)), (1, .int p0)] rfl rfl rfl rfl (Nat.le_of_ble_eq_true rfl) ?_
  intro p e R s m args below meth c A b
  unfold w_X12_isAct at h
  refine z_iload_n b dX12_isAct_0 rfl rfl ?_
  refine z_iconst (v := 0) b dX12_isAct_1 (by decide) ?_
  refine z_bipush (v := 11) b dX12_isAct_2 (by decide) ?_
  refine z_calli b (z_runS (As := [.int p0, .int 0, .int 11]) (st := []) b (k_X12_isIn S p0 0 11 _ h) cf_X12_isIn wm_X12_1 ws_X12_isIn dX12_isAct_4 rfl (Nat.le_of_ble_eq_true rfl) ⟨by decide, by decide, by decide, by decide⟩) (fun r1 S2 h => ?_)
  refine y_if_eq (tgt := 30) (xl := r1.toInt) b rfl dX12_isAct_7 (by decide) (fun c1 => ?_) (fun c1 => ?_)
  · replace h := h.1 c1
    refine z_lv0 (lv' := []) [] rfl ?_
    exact z_X12_isAct_B30 b _ h
  · replace h := h.2 c1
    refine z_iload_n b dX12_isAct_10 rfl rfl ?_
    refine z_bipush (v := 6) b dX12_isAct_11 (by decide) ?_
    refine z_irem b dX12_isAct_13 (by decide) rfl ?_
    refine z_aload_n b dX12_isAct_14 rfl rfl ?_
    refine z_get (q0 := 0) (k9 := 9) (v := .ref (a 8)) b (mw_0 cy a S2) rfl in_X12 (by decide) wf_X12_36 rfl dX12_isAct_15 ?_
    refine z_iload_n b dX12_isAct_18 rfl rfl ?_
    refine z_bipush (v := 6) b dX12_isAct_19 (by decide) ?_
    refine z_idiv b dX12_isAct_21 (by decide) rfl ?_
    obtain ⟨g4, h⟩ := h
    refine y_iald (q0 := 8) (j := (p0 / 6).toNatClampNeg) (v := ((ar S2 7) (p0 / 6).toNatClampNeg)) b (mw_8 cy a S2) (zx_r g4.1 g4.2) rfl dX12_isAct_22 ?_
    refine y_icmp_ge (tgt := 30) (xl := (p0 - p0 / 6 * 6).toInt) (yl := ((ar S2 7) (p0 / 6).toNatClampNeg).toInt) b rfl rfl dX12_isAct_23 (by decide) (fun c1 => ?_) (fun c1 => ?_)
    · replace h := h.1 c1
      refine z_lv0 (lv' := []) [] rfl ?_
      exact z_X12_isAct_B30 b _ h
    · replace h := h.2 c1
      refine z_iconst (v := 1) b dX12_isAct_26 (by decide) ?_
      refine z_goto (tgt := 31) b dX12_isAct_27 (by decide) ?_
      refine z_lv0 (lv' := []) [] rfl ?_
      exact z_X12_isAct_B31 b _ _ h

def w_X12_reads_B31 (post : Int32 → GS → Prop) (S : GS) (y0 : Int32) : Prop :=
  w_X12_ends S (fun S6 => (y0 = 0 ∨ y0 = 1) ∧ post y0 S6)

set_option maxHeartbeats 4000000 in
set_option maxRecDepth 100000 in
theorem z_X12_reads_B31 {p : Program} {l : Launch} {e : Env} {R : Room} {s : State} {m : MethodId} {args : Array Value} {below : List Frame} {meth : Method} {c : Code} {D : va_G} {cy : Nat → ClassId} {T0 tB tE : Nat} {A : Nat → Prop} {a : Nat → Nat} {post : Int32 → GS → Prop} (b : Bz p R s m args meth c D cy T0 tB tE A 2 cX12_reads RX12 (some .boolean) "reads" 46 945 0 0) (S : GS) (y0 : Int32) (h : w_X12_reads_B31 post S y0) : Z p l e R s m args below meth c D A 2 (MQ below (QI D (U := GS) post (mw cy a) A) args s 0 0 A) 0 0 (mw cy a S) [(0, .ref (a 0))] 31 [.int y0] := by
  unfold w_X12_reads_B31 at h
  refine z_istore_n (lv' := [(1, .int y0), (0, .ref (a 0))]) b dX12_reads_31 rfl (by decide) rfl ?_
  refine z_aload_n b dX12_reads_32 rfl rfl ?_
  refine z_callv b (z_runV (q0 := 0) (As := []) (st := []) b (k_X12_ends S _ h) cf_X12_ends (mw_0 cy a S) rfl wm_X12_336 wi_X12_ends ws_X12_ends dX12_reads_33 rfl (Nat.le_of_ble_eq_true rfl) ⟨by decide, by decide, by decide, by decide⟩) (fun S6 h => ?_)
  refine z_iload_n b dX12_reads_36 rfl rfl ?_
  obtain ⟨g7, h⟩ := h
  exact z_zret (u := S6) b rfl (z_bool g7) dX12_reads_37 h rfl (by decide) (by decide)

def w_X12_reads_B30 (post : Int32 → GS → Prop) (S : GS)  : Prop :=
  w_X12_reads_B31 post S 0

set_option maxHeartbeats 4000000 in
set_option maxRecDepth 100000 in
theorem z_X12_reads_B30 {p : Program} {l : Launch} {e : Env} {R : Room} {s : State} {m : MethodId} {args : Array Value} {below : List Frame} {meth : Method} {c : Code} {D : va_G} {cy : Nat → ClassId} {T0 tB tE : Nat} {A : Nat → Prop} {a : Nat → Nat} {post : Int32 → GS → Prop} (b : Bz p R s m args meth c D cy T0 tB tE A 2 cX12_reads RX12 (some .boolean) "reads" 46 945 0 0) (S : GS)  (h : w_X12_reads_B30 post S ) : Z p l e R s m args below meth c D A 2 (MQ below (QI D (U := GS) post (mw cy a) A) args s 0 0 A) 0 0 (mw cy a S) [(0, .ref (a 0))] 30 [] := by
  unfold w_X12_reads_B30 at h
  refine z_iconst (v := 0) b dX12_reads_30 (by decide) ?_
  exact z_X12_reads_B31 b _ _ h

def w_X12_reads_B26 (post : Int32 → GS → Prop) (S : GS)  : Prop :=
  w_X12_reads_B31 post S 1

set_option maxHeartbeats 4000000 in
set_option maxRecDepth 100000 in
theorem z_X12_reads_B26 {p : Program} {l : Launch} {e : Env} {R : Room} {s : State} {m : MethodId} {args : Array Value} {below : List Frame} {meth : Method} {c : Code} {D : va_G} {cy : Nat → ClassId} {T0 tB tE : Nat} {A : Nat → Prop} {a : Nat → Nat} {post : Int32 → GS → Prop} (b : Bz p R s m args meth c D cy T0 tB tE A 2 cX12_reads RX12 (some .boolean) "reads" 46 945 0 0) (S : GS)  (h : w_X12_reads_B26 post S ) : Z p l e R s m args below meth c D A 2 (MQ below (QI D (U := GS) post (mw cy a) A) args s 0 0 A) 0 0 (mw cy a S) [(0, .ref (a 0))] 26 [] := by
  unfold w_X12_reads_B26 at h
  refine z_iconst (v := 1) b dX12_reads_26 (by decide) ?_
  refine z_goto (tgt := 31) b dX12_reads_27 (by decide) ?_
  exact z_X12_reads_B31 b _ _ h

def w_X12_reads (S : GS)  (post : Int32 → GS → Prop) : Prop :=
  w_X12_begins S (fun S2 => w_X12_asked S2 (fun r3 S4 => ((r3.toInt = 0 → w_X12_reads_B30 post S4) ∧ (r3.toInt ≠ 0 → (((fi S4 3).toInt = 0 → w_X12_reads_B26 post S4) ∧ ((fi S4 3).toInt ≠ 0 → w_X12_bad S4 1 (fun r8 S9 => ((r8.toInt = 0 → w_X12_reads_B30 post S9) ∧ (r8.toInt ≠ 0 → w_X12_reads_B26 post S9)))))))))

set_option maxHeartbeats 4000000 in
set_option maxRecDepth 100000 in
theorem k_X12_reads {l : Launch} {D : va_G} {cy : Nat → ClassId} {T0 tB tE : Nat} {a : Nat → Nat} (S : GS)  (post : Int32 → GS → Prop) (h : w_X12_reads S  post) : Ct l D cy T0 tB tE yX12_reads cX12_reads 2 (some .boolean) 46 945 0 0 (mw cy a S) [.ref (a 0)] (QI D (U := GS) post (mw cy a)) := by
  refine Ct.ofZ RX12 "reads" [(0, .ref (a 0))] rfl rfl rfl rfl (Nat.le_of_ble_eq_true rfl) ?_
  intro p e R s m args below meth c A b
  unfold w_X12_reads at h
  refine z_aload_n b dX12_reads_0 rfl rfl ?_
  refine z_callv b (z_runV (q0 := 0) (As := []) (st := []) b (k_X12_begins S _ h) cf_X12_begins (mw_0 cy a S) rfl wm_X12_339 wi_X12_begins ws_X12_begins dX12_reads_1 rfl (Nat.le_of_ble_eq_true rfl) ⟨by decide, by decide, by decide, by decide⟩) (fun S2 h => ?_)
  refine z_aload_n b dX12_reads_4 rfl rfl ?_
  refine z_calli b (z_runV (q0 := 0) (As := []) (st := []) b (k_X12_asked S2 _ h) cf_X12_asked (mw_0 cy a S2) rfl wm_X12_327 wi_X12_asked ws_X12_asked dX12_reads_5 rfl (Nat.le_of_ble_eq_true rfl) ⟨by decide, by decide, by decide, by decide⟩) (fun r3 S4 h => ?_)
  refine y_if_eq (tgt := 30) (xl := r3.toInt) b rfl dX12_reads_8 (by decide) (fun c1 => ?_) (fun c1 => ?_)
  · replace h := h.1 c1
    exact z_X12_reads_B30 b _ h
  · replace h := h.2 c1
    refine z_aload_n b dX12_reads_11 rfl rfl ?_
    refine z_get (q0 := 0) (k9 := 27) (v := .int (fi S4 3)) b (mw_0 cy a S4) rfl in_X12 (by decide) wf_X12_242 rfl dX12_reads_12 ?_
    refine y_if_eq (tgt := 26) (xl := (fi S4 3).toInt) b rfl dX12_reads_15 (by decide) (fun c1 => ?_) (fun c1 => ?_)
    · replace h := h.1 c1
      exact z_X12_reads_B26 b _ h
    · replace h := h.2 c1
      refine z_aload_n b dX12_reads_18 rfl rfl ?_
      refine z_iconst (v := 1) b dX12_reads_19 (by decide) ?_
      refine z_calli b (z_runV (q0 := 0) (As := [.int 1]) (st := []) b (k_X12_bad S4 1 _ h) cf_X12_bad (mw_0 cy a S4) rfl wm_X12_263 wi_X12_bad ws_X12_bad dX12_reads_20 rfl (Nat.le_of_ble_eq_true rfl) ⟨by decide, by decide, by decide, by decide⟩) (fun r8 S9 h => ?_)
      refine y_if_eq (tgt := 30) (xl := r8.toInt) b rfl dX12_reads_23 (by decide) (fun c1 => ?_) (fun c1 => ?_)
      · replace h := h.1 c1
        exact z_X12_reads_B30 b _ h
      · replace h := h.2 c1
        exact z_X12_reads_B26 b _ h

def w_X12_codeOf_F2 (post : Int32 → GS → Prop) (k24 : GS → Int32 → Prop) (k2 : GS → Int32 → Int32 → Prop) (S : GS) (x2 : Int32) (x3 : Int32) : Prop :=
  (0 ≤ x3.toInt ∧ x3.toInt < 400) ∧ ((((ar S 28) x3.toNatClampNeg).toInt ≤ (x2 + 1).toInt → k24 S x3) ∧ ((x2 + 1).toInt < ((ar S 28) x3.toNatClampNeg).toInt → (0 ≤ x3.toInt ∧ x3.toInt < 400) ∧ k2 S x2 ((ar S 26) x3.toNatClampNeg)))

set_option maxHeartbeats 4000000 in
set_option maxRecDepth 100000 in
theorem z_X12_codeOf_F2 {p : Program} {l : Launch} {e : Env} {R : Room} {s : State} {m : MethodId} {args : Array Value} {below : List Frame} {meth : Method} {c : Code} {D : va_G} {cy : Nat → ClassId} {T0 tB tE : Nat} {A : Nat → Prop} {a : Nat → Nat} {post : Int32 → GS → Prop} {k24 : GS → Int32 → Prop} {k2 : GS → Int32 → Int32 → Prop} (b : Bz p R s m args meth c D cy T0 tB tE A 4 cX12_codeOf RX12 (some .int) "codeOf" 0 0 0 0) (hk24 : ∀ (S : GS) (x3 : Int32), k24 S x3 → Z p l e R s m args below meth c D A 4 (MQ below (QI D (U := GS) post (mw cy a) A) args s 0 0 A) 0 0 (mw cy a S) [(0, .ref (a 0)), (3, .int x3)] 24 []) (hk2 : ∀ (S : GS) (x2 : Int32) (x3 : Int32), k2 S x2 x3 → Z p l e R s m args below meth c D A 4 (MQ below (QI D (U := GS) post (mw cy a) A) args s 0 0 A) 0 0 (mw cy a S) [(0, .ref (a 0)), (2, .int x2), (3, .int x3)] 2 []) (S : GS) (x2 : Int32) (x3 : Int32) (h : w_X12_codeOf_F2 post k24 k2 S x2 x3) : Z p l e R s m args below meth c D A 4 (MQ below (QI D (U := GS) post (mw cy a) A) args s 0 0 A) 0 0 (mw cy a S) [(0, .ref (a 0)), (2, .int x2), (3, .int x3)] 2 [] := by
  unfold w_X12_codeOf_F2 at h
  refine z_aload_n b dX12_codeOf_2 rfl rfl ?_
  refine z_get (q0 := 0) (k9 := 52) (v := .ref (a 30)) b (mw_0 cy a S) rfl in_X12 (by decide) wf_X12_107 rfl dX12_codeOf_3 ?_
  refine z_iload_n b dX12_codeOf_6 rfl rfl ?_
  obtain ⟨g1, h⟩ := h
  refine y_iald (q0 := 30) (j := x3.toNatClampNeg) (v := ((ar S 28) x3.toNatClampNeg)) b (mw_30 cy a S) (zx_r g1.1 g1.2) rfl dX12_codeOf_7 ?_
  refine z_iload_n b dX12_codeOf_8 rfl rfl ?_
  refine z_iconst (v := 1) b dX12_codeOf_9 (by decide) ?_
  refine z_iadd b dX12_codeOf_10 rfl ?_
  refine y_icmp_le (tgt := 24) (xl := ((ar S 28) x3.toNatClampNeg).toInt) (yl := (x2 + 1).toInt) b rfl rfl dX12_codeOf_11 (by decide) (fun c1 => ?_) (fun c1 => ?_)
  · replace h := h.1 c1
    refine z_lv0 (lv' := [(0, .ref (a 0)), (3, .int x3)]) [0, 2] rfl ?_
    exact hk24 _ _ h
  · replace h := h.2 c1
    refine z_aload_n b dX12_codeOf_14 rfl rfl ?_
    refine z_get (q0 := 0) (k9 := 50) (v := .ref (a 28)) b (mw_0 cy a S) rfl in_X12 (by decide) wf_X12_101 rfl dX12_codeOf_15 ?_
    refine z_iload_n b dX12_codeOf_18 rfl rfl ?_
    obtain ⟨g2, h⟩ := h
    refine y_iald (q0 := 28) (j := x3.toNatClampNeg) (v := ((ar S 26) x3.toNatClampNeg)) b (mw_28 cy a S) (zx_r g2.1 g2.2) rfl dX12_codeOf_19 ?_
    refine z_istore_n (lv' := [(3, .int ((ar S 26) x3.toNatClampNeg)), (0, .ref (a 0)), (2, .int x2)]) b dX12_codeOf_20 rfl (by decide) rfl ?_
    refine z_goto (tgt := 2) b dX12_codeOf_21 (by decide) ?_
    refine z_lv0 (lv' := [(0, .ref (a 0)), (2, .int x2), (3, .int ((ar S 26) x3.toNatClampNeg))]) [1, 2, 0] rfl ?_
    exact hk2 _ _ _ h

set_option maxHeartbeats 4000000 in
set_option maxRecDepth 100000 in
theorem zl_X12_codeOf_L2 {p : Program} {l : Launch} {e : Env} {R : Room} {s : State} {m : MethodId} {args : Array Value} {below : List Frame} {meth : Method} {c : Code} {D : va_G} {cy : Nat → ClassId} {T0 tB tE : Nat} {A : Nat → Prop} {a : Nat → Nat} {post : Int32 → GS → Prop} {k24 : GS → Int32 → Prop} (b : Bz p R s m args meth c D cy T0 tB tE A 4 cX12_codeOf RX12 (some .int) "codeOf" 0 0 0 0) (hk24 : ∀ (S : GS) (x3 : Int32), k24 S x3 → Z p l e R s m args below meth c D A 4 (MQ below (QI D (U := GS) post (mw cy a) A) args s 0 0 A) 0 0 (mw cy a S) [(0, .ref (a 0)), (3, .int x3)] 24 []) : ∀ (n : Nat) (S : GS) (x2 : Int32) (x3 : Int32), lpn (w_X12_codeOf_F2 post k24) (fun _ _ _ => False) n S x2 x3 → Z p l e R s m args below meth c D A 4 (MQ below (QI D (U := GS) post (mw cy a) A) args s 0 0 A) 0 0 (mw cy a S) [(0, .ref (a 0)), (2, .int x2), (3, .int x3)] 2 [] := by
  intro n
  induction n with
  | zero => intro _ _ _ h; exact h.elim
  | succ n ih => intro S x2 x3 h; exact z_X12_codeOf_F2 b hk24 ih S x2 x3 h

def w_X12_codeOf_B24 (post : Int32 → GS → Prop) (S : GS) (x3 : Int32) : Prop :=
  (0 ≤ x3.toInt ∧ x3.toInt < 400) ∧ post ((ar S 27) x3.toNatClampNeg) S

set_option maxHeartbeats 4000000 in
set_option maxRecDepth 100000 in
theorem z_X12_codeOf_B24 {p : Program} {l : Launch} {e : Env} {R : Room} {s : State} {m : MethodId} {args : Array Value} {below : List Frame} {meth : Method} {c : Code} {D : va_G} {cy : Nat → ClassId} {T0 tB tE : Nat} {A : Nat → Prop} {a : Nat → Nat} {post : Int32 → GS → Prop} (b : Bz p R s m args meth c D cy T0 tB tE A 4 cX12_codeOf RX12 (some .int) "codeOf" 0 0 0 0) (S : GS) (x3 : Int32) (h : w_X12_codeOf_B24 post S x3) : Z p l e R s m args below meth c D A 4 (MQ below (QI D (U := GS) post (mw cy a) A) args s 0 0 A) 0 0 (mw cy a S) [(0, .ref (a 0)), (3, .int x3)] 24 [] := by
  unfold w_X12_codeOf_B24 at h
  refine z_aload_n b dX12_codeOf_24 rfl rfl ?_
  refine z_get (q0 := 0) (k9 := 51) (v := .ref (a 29)) b (mw_0 cy a S) rfl in_X12 (by decide) wf_X12_104 rfl dX12_codeOf_25 ?_
  refine z_iload_n b dX12_codeOf_28 rfl rfl ?_
  obtain ⟨g3, h⟩ := h
  refine y_iald (q0 := 29) (j := x3.toNatClampNeg) (v := ((ar S 27) x3.toNatClampNeg)) b (mw_29 cy a S) (zx_r g3.1 g3.2) rfl dX12_codeOf_29 ?_
  exact z_iret (u := S) b rfl dX12_codeOf_30 h rfl (by decide) (by decide)

def w_X12_codeOf (S : GS) (p0 : Int32) (p1 : Int32) (post : Int32 → GS → Prop) : Prop :=
  ∃ n, lpn (w_X12_codeOf_F2 post (w_X12_codeOf_B24 post)) (fun _ _ _ => False) n S p1 p0

set_option maxHeartbeats 4000000 in
set_option maxRecDepth 100000 in
theorem k_X12_codeOf {l : Launch} {D : va_G} {cy : Nat → ClassId} {T0 tB tE : Nat} {a : Nat → Nat} (S : GS) (p0 : Int32) (p1 : Int32) (post : Int32 → GS → Prop) (h : w_X12_codeOf S p0 p1 post) : Ct l D cy T0 tB tE yX12_codeOf cX12_codeOf 4 (some .int) 0 0 0 0 (mw cy a S) [.ref (a 0), .int p0, .int p1] (QI D (U := GS) post (mw cy a)) := by
  refine Ct.ofZ RX12 "codeOf" [(0, .ref (a 0)), (1, .int p0), (2, .int p1)] rfl rfl rfl rfl (Nat.le_of_ble_eq_true rfl) ?_
  intro p e R s m args below meth c A b
  unfold w_X12_codeOf at h
  refine z_iload_n b dX12_codeOf_0 rfl rfl ?_
  refine z_istore_n (lv' := [(3, .int p0), (0, .ref (a 0)), (1, .int p0), (2, .int p1)]) b dX12_codeOf_1 rfl (by decide) rfl ?_
  refine z_lv0 (lv' := [(0, .ref (a 0)), (2, .int p1), (3, .int p0)]) [1, 3, 0] rfl ?_
  obtain ⟨n, h⟩ := h
  exact zl_X12_codeOf_L2 b (fun S x3 h => z_X12_codeOf_B24 b _ _ h) n _ _ _ h

def w_X12_coin_B17 (post : Int32 → GS → Prop) (S : GS)  : Prop :=
  post 0 S

set_option maxHeartbeats 4000000 in
set_option maxRecDepth 100000 in
theorem z_X12_coin_B17 {p : Program} {l : Launch} {e : Env} {R : Room} {s : State} {m : MethodId} {args : Array Value} {below : List Frame} {meth : Method} {c : Code} {D : va_G} {cy : Nat → ClassId} {T0 tB tE : Nat} {A : Nat → Prop} {a : Nat → Nat} {post : Int32 → GS → Prop} (b : Bz p R s m args meth c D cy T0 tB tE A 3 cX12_coin RX12 (some .boolean) "coin" 3 65 0 0) (S : GS)  (h : w_X12_coin_B17 post S ) : Z p l e R s m args below meth c D A 3 (MQ below (QI D (U := GS) post (mw cy a) A) args s 0 0 A) 0 0 (mw cy a S) [] 17 [] := by
  unfold w_X12_coin_B17 at h
  refine z_iconst (v := 0) b dX12_coin_17 (by decide) ?_
  exact z_zret (u := S) b rfl (by decide) dX12_coin_18 h rfl (by decide) (by decide)

def w_X12_coin (S : GS) (p0 : Int32) (p1 : Int32) (post : Int32 → GS → Prop) : Prop :=
  w_X12_isOne S p0 (fun r1 S2 => ((r1.toInt = 0 → w_X12_coin_B17 post S2) ∧ (r1.toInt ≠ 0 → w_X12_isIn S2 p1 0 15 (fun r3 S4 => ((r3.toInt ≠ 0 → w_X12_takes S4 (fl S4 0) (fun S6 => (0 ≤ p0.toInt ∧ p0.toInt < 3) ∧ w_X12_told (su S6 0 (p0.toNatClampNeg) p1) (fun r8 S9 => (r8 = 0 ∨ r8 = 1) ∧ post r8 S9))) ∧ (r3.toInt = 0 → w_X12_coin_B17 post S4))))))

set_option maxHeartbeats 4000000 in
set_option maxRecDepth 100000 in
theorem k_X12_coin {l : Launch} {D : va_G} {cy : Nat → ClassId} {T0 tB tE : Nat} {a : Nat → Nat} (S : GS) (p0 : Int32) (p1 : Int32) (post : Int32 → GS → Prop) (h : w_X12_coin S p0 p1 post) : Ct l D cy T0 tB tE yX12_coin cX12_coin 3 (some .boolean) 3 65 0 0 (mw cy a S) [.ref (a 0), .int p0, .int p1] (QI D (U := GS) post (mw cy a)) := by
  refine Ct.ofZ RX12 "coin" [(0, .ref (a 0)), (1, .int p0), (2, .int p1)] rfl rfl rfl rfl (Nat.le_of_ble_eq_true rfl) ?_
  intro p e R s m args below meth c A b
  unfold w_X12_coin at h
  refine z_iload_n b dX12_coin_0 rfl rfl ?_
  refine z_calli b (z_runS (As := [.int p0]) (st := []) b (k_X12_isOne S p0 _ h) cf_X12_isOne wm_X12_170 ws_X12_isOne dX12_coin_1 rfl (Nat.le_of_ble_eq_true rfl) ⟨by decide, by decide, by decide, by decide⟩) (fun r1 S2 h => ?_)
  refine y_if_eq (tgt := 17) (xl := r1.toInt) b rfl dX12_coin_4 (by decide) (fun c1 => ?_) (fun c1 => ?_)
  · replace h := h.1 c1
    refine z_lv0 (lv' := []) [] rfl ?_
    exact z_X12_coin_B17 b _ h
  · replace h := h.2 c1
    refine z_iload_n b dX12_coin_7 rfl rfl ?_
    refine z_iconst (v := 0) b dX12_coin_8 (by decide) ?_
    refine z_bipush (v := 15) b dX12_coin_9 (by decide) ?_
    refine z_calli b (z_runS (As := [.int p1, .int 0, .int 15]) (st := []) b (k_X12_isIn S2 p1 0 15 _ h) cf_X12_isIn wm_X12_1 ws_X12_isIn dX12_coin_11 rfl (Nat.le_of_ble_eq_true rfl) ⟨by decide, by decide, by decide, by decide⟩) (fun r3 S4 h => ?_)
    refine y_if_ne (tgt := 19) (xl := r3.toInt) b rfl dX12_coin_14 (by decide) (fun c1 => ?_) (fun c1 => ?_)
    · replace h := h.1 c1
      refine z_aload_n b dX12_coin_19 rfl rfl ?_
      refine z_aload_n b dX12_coin_20 rfl rfl ?_
      refine z_get (q0 := 0) (k9 := 6) (v := .long (fl S4 0)) b (mw_0 cy a S4) rfl in_X12 (by decide) wf_X12_153 rfl dX12_coin_21 ?_
      refine z_callv b (z_runV (q0 := 0) (As := [.long (fl S4 0)]) (st := []) b (k_X12_takes S4 (fl S4 0) _ h) cf_X12_takes (mw_0 cy a S4) rfl wm_X12_174 wi_X12_takes ws_X12_takes dX12_coin_24 rfl (Nat.le_of_ble_eq_true rfl) ⟨by decide, by decide, by decide, by decide⟩) (fun S6 h => ?_)
      refine z_aload_n b dX12_coin_27 rfl rfl ?_
      refine z_get (q0 := 0) (k9 := 0) (v := .ref (a 1)) b (mw_0 cy a S6) rfl in_X12 (by decide) wf_X12_13 rfl dX12_coin_28 ?_
      refine z_iload_n b dX12_coin_31 rfl rfl ?_
      refine z_iload_n b dX12_coin_32 rfl rfl ?_
      obtain ⟨g7, h⟩ := h
      refine y_iast (q0 := 1) (j := p0.toNatClampNeg) b (mw_1 cy a S6) (zx_r g7.1 g7.2) dX12_coin_33 (mwa_1 cy a S6 (p0.toNatClampNeg) p1) ?_
      refine z_aload_n b dX12_coin_34 rfl rfl ?_
      refine z_calli b (z_runV (q0 := 0) (As := []) (st := []) b (k_X12_told (su S6 0 (p0.toNatClampNeg) p1) _ h) cf_X12_told (mw_0 cy a (su S6 0 (p0.toNatClampNeg) p1)) rfl wm_X12_178 wi_X12_told ws_X12_told dX12_coin_35 rfl (Nat.le_of_ble_eq_true rfl) ⟨by decide, by decide, by decide, by decide⟩) (fun r8 S9 h => ?_)
      obtain ⟨g10, h⟩ := h
      exact z_zret (u := S9) b rfl (z_bool g10) dX12_coin_38 h rfl (by decide) (by decide)
    · replace h := h.2 c1
      refine z_lv0 (lv' := []) [] rfl ?_
      exact z_X12_coin_B17 b _ h

def w_X12_owner_B16 (post : Int32 → GS → Prop) (S : GS)  : Prop :=
  post 0 S

set_option maxHeartbeats 4000000 in
set_option maxRecDepth 100000 in
theorem z_X12_owner_B16 {p : Program} {l : Launch} {e : Env} {R : Room} {s : State} {m : MethodId} {args : Array Value} {below : List Frame} {meth : Method} {c : Code} {D : va_G} {cy : Nat → ClassId} {T0 tB tE : Nat} {A : Nat → Prop} {a : Nat → Nat} {post : Int32 → GS → Prop} (b : Bz p R s m args meth c D cy T0 tB tE A 3 cX12_owner RX12 (some .boolean) "owner" 3 65 0 0) (S : GS)  (h : w_X12_owner_B16 post S ) : Z p l e R s m args below meth c D A 3 (MQ below (QI D (U := GS) post (mw cy a) A) args s 0 0 A) 0 0 (mw cy a S) [] 16 [] := by
  unfold w_X12_owner_B16 at h
  refine z_iconst (v := 0) b dX12_owner_16 (by decide) ?_
  exact z_zret (u := S) b rfl (by decide) dX12_owner_17 h rfl (by decide) (by decide)

def w_X12_owner (S : GS) (p0 : Int32) (p1 : Int32) (post : Int32 → GS → Prop) : Prop :=
  w_X12_isOne S p0 (fun r1 S2 => ((r1.toInt = 0 → w_X12_owner_B16 post S2) ∧ (r1.toInt ≠ 0 → w_X12_isIn S2 p1 0 3 (fun r3 S4 => ((r3.toInt ≠ 0 → w_X12_takes S4 (fl S4 0) (fun S6 => (0 ≤ p0.toInt ∧ p0.toInt < 3) ∧ w_X12_told (su S6 2 (p0.toNatClampNeg) p1) (fun r8 S9 => (r8 = 0 ∨ r8 = 1) ∧ post r8 S9))) ∧ (r3.toInt = 0 → w_X12_owner_B16 post S4))))))

set_option maxHeartbeats 4000000 in
set_option maxRecDepth 100000 in
theorem k_X12_owner {l : Launch} {D : va_G} {cy : Nat → ClassId} {T0 tB tE : Nat} {a : Nat → Nat} (S : GS) (p0 : Int32) (p1 : Int32) (post : Int32 → GS → Prop) (h : w_X12_owner S p0 p1 post) : Ct l D cy T0 tB tE yX12_owner cX12_owner 3 (some .boolean) 3 65 0 0 (mw cy a S) [.ref (a 0), .int p0, .int p1] (QI D (U := GS) post (mw cy a)) := by
  refine Ct.ofZ RX12 "owner" [(0, .ref (a 0)), (1, .int p0), (2, .int p1)] rfl rfl rfl rfl (Nat.le_of_ble_eq_true rfl) ?_
  intro p e R s m args below meth c A b
  unfold w_X12_owner at h
  refine z_iload_n b dX12_owner_0 rfl rfl ?_
  refine z_calli b (z_runS (As := [.int p0]) (st := []) b (k_X12_isOne S p0 _ h) cf_X12_isOne wm_X12_170 ws_X12_isOne dX12_owner_1 rfl (Nat.le_of_ble_eq_true rfl) ⟨by decide, by decide, by decide, by decide⟩) (fun r1 S2 h => ?_)
  refine y_if_eq (tgt := 16) (xl := r1.toInt) b rfl dX12_owner_4 (by decide) (fun c1 => ?_) (fun c1 => ?_)
  · replace h := h.1 c1
    refine z_lv0 (lv' := []) [] rfl ?_
    exact z_X12_owner_B16 b _ h
  · replace h := h.2 c1
    refine z_iload_n b dX12_owner_7 rfl rfl ?_
    refine z_iconst (v := 0) b dX12_owner_8 (by decide) ?_
    refine z_iconst (v := 3) b dX12_owner_9 (by decide) ?_
    refine z_calli b (z_runS (As := [.int p1, .int 0, .int 3]) (st := []) b (k_X12_isIn S2 p1 0 3 _ h) cf_X12_isIn wm_X12_1 ws_X12_isIn dX12_owner_10 rfl (Nat.le_of_ble_eq_true rfl) ⟨by decide, by decide, by decide, by decide⟩) (fun r3 S4 h => ?_)
    refine y_if_ne (tgt := 18) (xl := r3.toInt) b rfl dX12_owner_13 (by decide) (fun c1 => ?_) (fun c1 => ?_)
    · replace h := h.1 c1
      refine z_aload_n b dX12_owner_18 rfl rfl ?_
      refine z_aload_n b dX12_owner_19 rfl rfl ?_
      refine z_get (q0 := 0) (k9 := 6) (v := .long (fl S4 0)) b (mw_0 cy a S4) rfl in_X12 (by decide) wf_X12_153 rfl dX12_owner_20 ?_
      refine z_callv b (z_runV (q0 := 0) (As := [.long (fl S4 0)]) (st := []) b (k_X12_takes S4 (fl S4 0) _ h) cf_X12_takes (mw_0 cy a S4) rfl wm_X12_174 wi_X12_takes ws_X12_takes dX12_owner_23 rfl (Nat.le_of_ble_eq_true rfl) ⟨by decide, by decide, by decide, by decide⟩) (fun S6 h => ?_)
      refine z_aload_n b dX12_owner_26 rfl rfl ?_
      refine z_get (q0 := 0) (k9 := 2) (v := .ref (a 3)) b (mw_0 cy a S6) rfl in_X12 (by decide) wf_X12_20 rfl dX12_owner_27 ?_
      refine z_iload_n b dX12_owner_30 rfl rfl ?_
      refine z_iload_n b dX12_owner_31 rfl rfl ?_
      obtain ⟨g7, h⟩ := h
      refine y_iast (q0 := 3) (j := p0.toNatClampNeg) b (mw_3 cy a S6) (zx_r g7.1 g7.2) dX12_owner_32 (mwa_3 cy a S6 (p0.toNatClampNeg) p1) ?_
      refine z_aload_n b dX12_owner_33 rfl rfl ?_
      refine z_calli b (z_runV (q0 := 0) (As := []) (st := []) b (k_X12_told (su S6 2 (p0.toNatClampNeg) p1) _ h) cf_X12_told (mw_0 cy a (su S6 2 (p0.toNatClampNeg) p1)) rfl wm_X12_178 wi_X12_told ws_X12_told dX12_owner_34 rfl (Nat.le_of_ble_eq_true rfl) ⟨by decide, by decide, by decide, by decide⟩) (fun r8 S9 h => ?_)
      obtain ⟨g10, h⟩ := h
      exact z_zret (u := S9) b rfl (z_bool g10) dX12_owner_37 h rfl (by decide) (by decide)
    · replace h := h.2 c1
      refine z_lv0 (lv' := []) [] rfl ?_
      exact z_X12_owner_B16 b _ h

def w_X12_past_B17 (post : Int32 → GS → Prop) (S : GS)  : Prop :=
  post (-1) S

set_option maxHeartbeats 4000000 in
set_option maxRecDepth 100000 in
theorem z_X12_past_B17 {p : Program} {l : Launch} {e : Env} {R : Room} {s : State} {m : MethodId} {args : Array Value} {below : List Frame} {meth : Method} {c : Code} {D : va_G} {cy : Nat → ClassId} {T0 tB tE : Nat} {A : Nat → Prop} {a : Nat → Nat} {post : Int32 → GS → Prop} (b : Bz p R s m args meth c D cy T0 tB tE A 2 cX12_past RX12 (some .int) "past" 2 42 0 0) (S : GS)  (h : w_X12_past_B17 post S ) : Z p l e R s m args below meth c D A 2 (MQ below (QI D (U := GS) post (mw cy a) A) args s 0 0 A) 0 0 (mw cy a S) [] 17 [] := by
  unfold w_X12_past_B17 at h
  refine z_iconst (v := (-1)) b dX12_past_17 (by decide) ?_
  exact z_iret (u := S) b rfl dX12_past_18 h rfl (by decide) (by decide)

def w_X12_past (S : GS) (p0 : Int32) (post : Int32 → GS → Prop) : Prop :=
  w_X12_isNumber S p0 (fun r1 S2 => ((r1.toInt = 0 → w_X12_past_B17 post S2) ∧ (r1.toInt ≠ 0 → (((fi S2 25).toInt ≠ 200 → (0 ≤ (fi S2 25).toInt ∧ (fi S2 25).toInt < 200) ∧ post ((fi S2 25) + 1) (si (su S2 40 ((fi S2 25).toNatClampNeg) p0) 25 ((fi S2 25) + 1))) ∧ ((fi S2 25).toInt = 200 → w_X12_past_B17 post S2)))))

set_option maxHeartbeats 4000000 in
set_option maxRecDepth 100000 in
theorem k_X12_past {l : Launch} {D : va_G} {cy : Nat → ClassId} {T0 tB tE : Nat} {a : Nat → Nat} (S : GS) (p0 : Int32) (post : Int32 → GS → Prop) (h : w_X12_past S p0 post) : Ct l D cy T0 tB tE yX12_past cX12_past 2 (some .int) 2 42 0 0 (mw cy a S) [.ref (a 0), .int p0] (QI D (U := GS) post (mw cy a)) := by
  refine Ct.ofZ RX12 "past" [(0, .ref (a 0)), (1, .int p0)] rfl rfl rfl rfl (Nat.le_of_ble_eq_true rfl) ?_
  intro p e R s m args below meth c A b
  unfold w_X12_past at h
  refine z_iload_n b dX12_past_0 rfl rfl ?_
  refine z_calli b (z_runS (As := [.int p0]) (st := []) b (k_X12_isNumber S p0 _ h) cf_X12_isNumber wm_X12_455 ws_X12_isNumber dX12_past_1 rfl (Nat.le_of_ble_eq_true rfl) ⟨by decide, by decide, by decide, by decide⟩) (fun r1 S2 h => ?_)
  refine y_if_eq (tgt := 17) (xl := r1.toInt) b rfl dX12_past_4 (by decide) (fun c1 => ?_) (fun c1 => ?_)
  · replace h := h.1 c1
    refine z_lv0 (lv' := []) [] rfl ?_
    exact z_X12_past_B17 b _ h
  · replace h := h.2 c1
    refine z_aload_n b dX12_past_7 rfl rfl ?_
    refine z_get (q0 := 0) (k9 := 71) (v := .int (fi S2 25)) b (mw_0 cy a S2) rfl in_X12 (by decide) wf_X12_470 rfl dX12_past_8 ?_
    refine z_sipush (v := 200) b dX12_past_11 (by decide) ?_
    refine y_icmp_ne (tgt := 19) (xl := (fi S2 25).toInt) (yl := 200) b rfl (by decide) dX12_past_14 (by decide) (fun c1 => ?_) (fun c1 => ?_)
    · replace h := h.1 c1
      refine z_aload_n b dX12_past_19 rfl rfl ?_
      refine z_get (q0 := 0) (k9 := 70) (v := .ref (a 43)) b (mw_0 cy a S2) rfl in_X12 (by decide) wf_X12_146 rfl dX12_past_20 ?_
      refine z_aload_n b dX12_past_23 rfl rfl ?_
      refine z_get (q0 := 0) (k9 := 71) (v := .int (fi S2 25)) b (mw_0 cy a S2) rfl in_X12 (by decide) wf_X12_470 rfl dX12_past_24 ?_
      refine z_iload_n b dX12_past_27 rfl rfl ?_
      obtain ⟨g3, h⟩ := h
      refine y_iast (q0 := 43) (j := (fi S2 25).toNatClampNeg) b (mw_43 cy a S2) (zx_r g3.1 g3.2) dX12_past_28 (mwa_43 cy a S2 ((fi S2 25).toNatClampNeg) p0) ?_
      refine z_aload_n b dX12_past_29 rfl rfl ?_
      refine z_dup b dX12_past_30 rfl ?_
      refine z_get (q0 := 0) (k9 := 71) (v := .int (fi S2 25)) b (mw_0 cy a (su S2 40 ((fi S2 25).toNatClampNeg) p0)) rfl in_X12 (by decide) wf_X12_470 rfl dX12_past_31 ?_
      refine z_iconst (v := 1) b dX12_past_34 (by decide) ?_
      refine z_iadd b dX12_past_35 rfl ?_
      refine z_put (q0 := 0) (k9 := 71) tyX12 b (mw_0 cy a (su S2 40 ((fi S2 25).toNatClampNeg) p0)) rfl in_X12 tyX12_ok nmX12 (by decide) wf_X12_470 rfl rfl rfl rfl (Nat.le_of_ble_eq_true rfl) dX12_past_36 (mwp_0_71 cy a (su S2 40 ((fi S2 25).toNatClampNeg) p0) ((fi S2 25) + 1)) ?_
      refine z_aload_n b dX12_past_39 rfl rfl ?_
      refine z_get (q0 := 0) (k9 := 71) (v := .int ((fi S2 25) + 1)) b (mw_0 cy a (si (su S2 40 ((fi S2 25).toNatClampNeg) p0) 25 ((fi S2 25) + 1))) rfl in_X12 (by decide) wf_X12_470 rfl dX12_past_40 ?_
      exact z_iret (u := (si (su S2 40 ((fi S2 25).toNatClampNeg) p0) 25 ((fi S2 25) + 1))) b rfl dX12_past_43 h rfl (by decide) (by decide)
    · replace h := h.2 c1
      refine z_lv0 (lv' := []) [] rfl ?_
      exact z_X12_past_B17 b _ h

def w_X12_bits (S : GS) (p0 : Int32) (post : Int32 → GS → Prop) : Prop :=
  post (((((p0 &&& 1) + ((p0 >>> ((1 : Int32) &&& 31)) &&& 1)) + ((p0 >>> ((2 : Int32) &&& 31)) &&& 1)) + ((p0 >>> ((3 : Int32) &&& 31)) &&& 1)) + ((p0 >>> ((4 : Int32) &&& 31)) &&& 1)) S

set_option maxHeartbeats 4000000 in
set_option maxRecDepth 100000 in
theorem k_X12_bits {l : Launch} {D : va_G} {cy : Nat → ClassId} {T0 tB tE : Nat} {a : Nat → Nat} (S : GS) (p0 : Int32) (post : Int32 → GS → Prop) (h : w_X12_bits S p0 post) : Ct l D cy T0 tB tE yX12_bits cX12_bits 1 (some .int) 0 0 0 0 (mw cy a S) [.int p0] (QI D (U := GS) post (mw cy a)) := by
  refine Ct.ofZ RX12 "bits" [(0, .int p0)] rfl rfl rfl rfl (Nat.le_of_ble_eq_true rfl) ?_
  intro p e R s m args below meth c A b
  unfold w_X12_bits at h
  refine z_iload_n b dX12_bits_0 rfl rfl ?_
  refine z_iconst (v := 1) b dX12_bits_1 (by decide) ?_
  refine z_iand b dX12_bits_2 rfl ?_
  refine z_iload_n b dX12_bits_3 rfl rfl ?_
  refine z_iconst (v := 1) b dX12_bits_4 (by decide) ?_
  refine z_ishr b dX12_bits_5 rfl ?_
  refine z_iconst (v := 1) b dX12_bits_6 (by decide) ?_
  refine z_iand b dX12_bits_7 rfl ?_
  refine z_iadd b dX12_bits_8 rfl ?_
  refine z_iload_n b dX12_bits_9 rfl rfl ?_
  refine z_iconst (v := 2) b dX12_bits_10 (by decide) ?_
  refine z_ishr b dX12_bits_11 rfl ?_
  refine z_iconst (v := 1) b dX12_bits_12 (by decide) ?_
  refine z_iand b dX12_bits_13 rfl ?_
  refine z_iadd b dX12_bits_14 rfl ?_
  refine z_iload_n b dX12_bits_15 rfl rfl ?_
  refine z_iconst (v := 3) b dX12_bits_16 (by decide) ?_
  refine z_ishr b dX12_bits_17 rfl ?_
  refine z_iconst (v := 1) b dX12_bits_18 (by decide) ?_
  refine z_iand b dX12_bits_19 rfl ?_
  refine z_iadd b dX12_bits_20 rfl ?_
  refine z_iload_n b dX12_bits_21 rfl rfl ?_
  refine z_iconst (v := 4) b dX12_bits_22 (by decide) ?_
  refine z_ishr b dX12_bits_23 rfl ?_
  refine z_iconst (v := 1) b dX12_bits_24 (by decide) ?_
  refine z_iand b dX12_bits_25 rfl ?_
  refine z_iadd b dX12_bits_26 rfl ?_
  exact z_iret (u := S) b rfl dX12_bits_27 h rfl (by decide) (by decide)

def w_X12_debt_B29 (post : Int32 → GS → Prop) (S : GS)  : Prop :=
  post 0 S

set_option maxHeartbeats 4000000 in
set_option maxRecDepth 100000 in
theorem z_X12_debt_B29 {p : Program} {l : Launch} {e : Env} {R : Room} {s : State} {m : MethodId} {args : Array Value} {below : List Frame} {meth : Method} {c : Code} {D : va_G} {cy : Nat → ClassId} {T0 tB tE : Nat} {A : Nat → Prop} {a : Nat → Nat} {post : Int32 → GS → Prop} (b : Bz p R s m args meth c D cy T0 tB tE A 4 cX12_debt RX12 (some .boolean) "debt" 3 65 0 0) (S : GS)  (h : w_X12_debt_B29 post S ) : Z p l e R s m args below meth c D A 4 (MQ below (QI D (U := GS) post (mw cy a) A) args s 0 0 A) 0 0 (mw cy a S) [] 29 [] := by
  unfold w_X12_debt_B29 at h
  refine z_iconst (v := 0) b dX12_debt_29 (by decide) ?_
  exact z_zret (u := S) b rfl (by decide) dX12_debt_30 h rfl (by decide) (by decide)

def w_X12_debt (S : GS) (p0 : Int32) (p1 : Int32) (p2 : Int32) (post : Int32 → GS → Prop) : Prop :=
  w_X12_isOne S p0 (fun r1 S2 => ((r1.toInt = 0 → w_X12_debt_B29 post S2) ∧ (r1.toInt ≠ 0 → w_X12_isOne S2 p1 (fun r3 S4 => ((r3.toInt = 0 → w_X12_debt_B29 post S4) ∧ (r3.toInt ≠ 0 → ((p0.toInt = p1.toInt → w_X12_debt_B29 post S4) ∧ (p0.toInt ≠ p1.toInt → w_X12_isIn S4 p2 0 7 (fun r5 S6 => ((r5.toInt ≠ 0 → w_X12_takes S6 (fl S6 0) (fun S8 => (0 ≤ (((3 : Int32) * p0) + p1).toInt ∧ (((3 : Int32) * p0) + p1).toInt < 9) ∧ w_X12_told (su S8 1 ((((3 : Int32) * p0) + p1).toNatClampNeg) p2) (fun r10 S11 => (r10 = 0 ∨ r10 = 1) ∧ post r10 S11))) ∧ (r5.toInt = 0 → w_X12_debt_B29 post S6)))))))))))

set_option maxHeartbeats 4000000 in
set_option maxRecDepth 100000 in
theorem k_X12_debt {l : Launch} {D : va_G} {cy : Nat → ClassId} {T0 tB tE : Nat} {a : Nat → Nat} (S : GS) (p0 : Int32) (p1 : Int32) (p2 : Int32) (post : Int32 → GS → Prop) (h : w_X12_debt S p0 p1 p2 post) : Ct l D cy T0 tB tE yX12_debt cX12_debt 4 (some .boolean) 3 65 0 0 (mw cy a S) [.ref (a 0), .int p0, .int p1, .int p2] (QI D (U := GS) post (mw cy a)) := by
  refine Ct.ofZ RX12 "debt" [(0, .ref (a 0)), (1, .int p0), (2, .int p1), (3, .int p2)] rfl rfl rfl rfl (Nat.le_of_ble_eq_true rfl) ?_
  intro p e R s m args below meth c A b
  unfold w_X12_debt at h
  refine z_iload_n b dX12_debt_0 rfl rfl ?_
  refine z_calli b (z_runS (As := [.int p0]) (st := []) b (k_X12_isOne S p0 _ h) cf_X12_isOne wm_X12_170 ws_X12_isOne dX12_debt_1 rfl (Nat.le_of_ble_eq_true rfl) ⟨by decide, by decide, by decide, by decide⟩) (fun r1 S2 h => ?_)
  refine y_if_eq (tgt := 29) (xl := r1.toInt) b rfl dX12_debt_4 (by decide) (fun c1 => ?_) (fun c1 => ?_)
  · replace h := h.1 c1
    refine z_lv0 (lv' := []) [] rfl ?_
    exact z_X12_debt_B29 b _ h
  · replace h := h.2 c1
    refine z_iload_n b dX12_debt_7 rfl rfl ?_
    refine z_calli b (z_runS (As := [.int p1]) (st := []) b (k_X12_isOne S2 p1 _ h) cf_X12_isOne wm_X12_170 ws_X12_isOne dX12_debt_8 rfl (Nat.le_of_ble_eq_true rfl) ⟨by decide, by decide, by decide, by decide⟩) (fun r3 S4 h => ?_)
    refine y_if_eq (tgt := 29) (xl := r3.toInt) b rfl dX12_debt_11 (by decide) (fun c1 => ?_) (fun c1 => ?_)
    · replace h := h.1 c1
      refine z_lv0 (lv' := []) [] rfl ?_
      exact z_X12_debt_B29 b _ h
    · replace h := h.2 c1
      refine z_iload_n b dX12_debt_14 rfl rfl ?_
      refine z_iload_n b dX12_debt_15 rfl rfl ?_
      refine y_icmp_eq (tgt := 29) (xl := p0.toInt) (yl := p1.toInt) b rfl rfl dX12_debt_16 (by decide) (fun c1 => ?_) (fun c1 => ?_)
      · replace h := h.1 c1
        refine z_lv0 (lv' := []) [] rfl ?_
        exact z_X12_debt_B29 b _ h
      · replace h := h.2 c1
        refine z_iload_n b dX12_debt_19 rfl rfl ?_
        refine z_iconst (v := 0) b dX12_debt_20 (by decide) ?_
        refine z_bipush (v := 7) b dX12_debt_21 (by decide) ?_
        refine z_calli b (z_runS (As := [.int p2, .int 0, .int 7]) (st := []) b (k_X12_isIn S4 p2 0 7 _ h) cf_X12_isIn wm_X12_1 ws_X12_isIn dX12_debt_23 rfl (Nat.le_of_ble_eq_true rfl) ⟨by decide, by decide, by decide, by decide⟩) (fun r5 S6 h => ?_)
        refine y_if_ne (tgt := 31) (xl := r5.toInt) b rfl dX12_debt_26 (by decide) (fun c1 => ?_) (fun c1 => ?_)
        · replace h := h.1 c1
          refine z_aload_n b dX12_debt_31 rfl rfl ?_
          refine z_aload_n b dX12_debt_32 rfl rfl ?_
          refine z_get (q0 := 0) (k9 := 6) (v := .long (fl S6 0)) b (mw_0 cy a S6) rfl in_X12 (by decide) wf_X12_153 rfl dX12_debt_33 ?_
          refine z_callv b (z_runV (q0 := 0) (As := [.long (fl S6 0)]) (st := []) b (k_X12_takes S6 (fl S6 0) _ h) cf_X12_takes (mw_0 cy a S6) rfl wm_X12_174 wi_X12_takes ws_X12_takes dX12_debt_36 rfl (Nat.le_of_ble_eq_true rfl) ⟨by decide, by decide, by decide, by decide⟩) (fun S8 h => ?_)
          refine z_aload_n b dX12_debt_39 rfl rfl ?_
          refine z_get (q0 := 0) (k9 := 1) (v := .ref (a 2)) b (mw_0 cy a S8) rfl in_X12 (by decide) wf_X12_17 rfl dX12_debt_40 ?_
          refine z_iconst (v := 3) b dX12_debt_43 (by decide) ?_
          refine z_iload_n b dX12_debt_44 rfl rfl ?_
          refine z_imul b dX12_debt_45 rfl ?_
          refine z_iload_n b dX12_debt_46 rfl rfl ?_
          refine z_iadd b dX12_debt_47 rfl ?_
          refine z_iload_n b dX12_debt_48 rfl rfl ?_
          obtain ⟨g9, h⟩ := h
          refine y_iast (q0 := 2) (j := (((3 : Int32) * p0) + p1).toNatClampNeg) b (mw_2 cy a S8) (zx_r g9.1 g9.2) dX12_debt_49 (mwa_2 cy a S8 ((((3 : Int32) * p0) + p1).toNatClampNeg) p2) ?_
          refine z_aload_n b dX12_debt_50 rfl rfl ?_
          refine z_calli b (z_runV (q0 := 0) (As := []) (st := []) b (k_X12_told (su S8 1 ((((3 : Int32) * p0) + p1).toNatClampNeg) p2) _ h) cf_X12_told (mw_0 cy a (su S8 1 ((((3 : Int32) * p0) + p1).toNatClampNeg) p2)) rfl wm_X12_178 wi_X12_told ws_X12_told dX12_debt_51 rfl (Nat.le_of_ble_eq_true rfl) ⟨by decide, by decide, by decide, by decide⟩) (fun r10 S11 h => ?_)
          obtain ⟨g12, h⟩ := h
          exact z_zret (u := S11) b rfl (z_bool g12) dX12_debt_54 h rfl (by decide) (by decide)
        · replace h := h.2 c1
          refine z_lv0 (lv' := []) [] rfl ?_
          exact z_X12_debt_B29 b _ h

def w_X12_isCode_B119 (post : Int32 → GS → Prop) (S : GS) (y0 : Int32) : Prop :=
  (y0 = 0 ∨ y0 = 1) ∧ post y0 S

set_option maxHeartbeats 4000000 in
set_option maxRecDepth 100000 in
theorem z_X12_isCode_B119 {p : Program} {l : Launch} {e : Env} {R : Room} {s : State} {m : MethodId} {args : Array Value} {below : List Frame} {meth : Method} {c : Code} {D : va_G} {cy : Nat → ClassId} {T0 tB tE : Nat} {A : Nat → Prop} {a : Nat → Nat} {post : Int32 → GS → Prop} (b : Bz p R s m args meth c D cy T0 tB tE A 4 cX12_isCode RX12 (some .boolean) "isCode" 2 43 0 0) (S : GS) (y0 : Int32) (h : w_X12_isCode_B119 post S y0) : Z p l e R s m args below meth c D A 4 (MQ below (QI D (U := GS) post (mw cy a) A) args s 0 0 A) 0 0 (mw cy a S) [] 119 [.int y0] := by
  unfold w_X12_isCode_B119 at h
  obtain ⟨g3, h⟩ := h
  exact z_zret (u := S) b rfl (z_bool g3) dX12_isCode_119 h rfl (by decide) (by decide)

def w_X12_isCode_B118 (post : Int32 → GS → Prop) (S : GS)  : Prop :=
  w_X12_isCode_B119 post S 0

set_option maxHeartbeats 4000000 in
set_option maxRecDepth 100000 in
theorem z_X12_isCode_B118 {p : Program} {l : Launch} {e : Env} {R : Room} {s : State} {m : MethodId} {args : Array Value} {below : List Frame} {meth : Method} {c : Code} {D : va_G} {cy : Nat → ClassId} {T0 tB tE : Nat} {A : Nat → Prop} {a : Nat → Nat} {post : Int32 → GS → Prop} (b : Bz p R s m args meth c D cy T0 tB tE A 4 cX12_isCode RX12 (some .boolean) "isCode" 2 43 0 0) (S : GS)  (h : w_X12_isCode_B118 post S ) : Z p l e R s m args below meth c D A 4 (MQ below (QI D (U := GS) post (mw cy a) A) args s 0 0 A) 0 0 (mw cy a S) [] 118 [] := by
  unfold w_X12_isCode_B118 at h
  refine z_iconst (v := 0) b dX12_isCode_118 (by decide) ?_
  exact z_X12_isCode_B119 b _ _ h

def w_X12_isCode_B105 (post : Int32 → GS → Prop) (S : GS) (x3 : Int32) (y0 : Int32) : Prop :=
  (0 ≤ x3.toInt ∧ x3.toInt < 18) ∧ ((y0.toInt = ((ar S 20) x3.toNatClampNeg).toInt → w_X12_isCode_B118 post S) ∧ (y0.toInt ≠ ((ar S 20) x3.toNatClampNeg).toInt → w_X12_isCode_B119 post S 1))

set_option maxHeartbeats 4000000 in
set_option maxRecDepth 100000 in
theorem z_X12_isCode_B105 {p : Program} {l : Launch} {e : Env} {R : Room} {s : State} {m : MethodId} {args : Array Value} {below : List Frame} {meth : Method} {c : Code} {D : va_G} {cy : Nat → ClassId} {T0 tB tE : Nat} {A : Nat → Prop} {a : Nat → Nat} {post : Int32 → GS → Prop} (b : Bz p R s m args meth c D cy T0 tB tE A 4 cX12_isCode RX12 (some .boolean) "isCode" 2 43 0 0) (S : GS) (x3 : Int32) (y0 : Int32) (h : w_X12_isCode_B105 post S x3 y0) : Z p l e R s m args below meth c D A 4 (MQ below (QI D (U := GS) post (mw cy a) A) args s 0 0 A) 0 0 (mw cy a S) [(0, .ref (a 0)), (3, .int x3)] 105 [.int y0] := by
  unfold w_X12_isCode_B105 at h
  refine z_aload_n b dX12_isCode_105 rfl rfl ?_
  refine z_get (q0 := 0) (k9 := 22) (v := .ref (a 21)) b (mw_0 cy a S) rfl in_X12 (by decide) wf_X12_75 rfl dX12_isCode_106 ?_
  refine z_iload_n b dX12_isCode_109 rfl rfl ?_
  obtain ⟨g5, h⟩ := h
  refine y_zald (q0 := 21) (j := x3.toNatClampNeg) (v := ((ar S 20) x3.toNatClampNeg)) b (mw_21 cy a S) (zx_r g5.1 g5.2) rfl dX12_isCode_110 ?_
  refine y_icmp_eq (tgt := 118) (xl := y0.toInt) (yl := ((ar S 20) x3.toNatClampNeg).toInt) b rfl rfl dX12_isCode_111 (by decide) (fun c1 => ?_) (fun c1 => ?_)
  · replace h := h.1 c1
    refine z_lv0 (lv' := []) [] rfl ?_
    exact z_X12_isCode_B118 b _ h
  · replace h := h.2 c1
    refine z_iconst (v := 1) b dX12_isCode_114 (by decide) ?_
    refine z_goto (tgt := 119) b dX12_isCode_115 (by decide) ?_
    refine z_lv0 (lv' := []) [] rfl ?_
    exact z_X12_isCode_B119 b _ _ h

def w_X12_isCode_B83 (post : Int32 → GS → Prop) (S : GS) (x3 : Int32) (y0 : Int32) : Prop :=
  (0 ≤ x3.toInt ∧ x3.toInt < 18) ∧ ((y0.toInt = ((ar S 19) x3.toNatClampNeg).toInt → w_X12_isCode_B118 post S) ∧ (y0.toInt ≠ ((ar S 19) x3.toNatClampNeg).toInt → (((fi S 20).toInt ≠ 3 → w_X12_isCode_B105 post S x3 0) ∧ ((fi S 20).toInt = 3 → w_X12_isCode_B105 post S x3 1))))

set_option maxHeartbeats 4000000 in
set_option maxRecDepth 100000 in
theorem z_X12_isCode_B83 {p : Program} {l : Launch} {e : Env} {R : Room} {s : State} {m : MethodId} {args : Array Value} {below : List Frame} {meth : Method} {c : Code} {D : va_G} {cy : Nat → ClassId} {T0 tB tE : Nat} {A : Nat → Prop} {a : Nat → Nat} {post : Int32 → GS → Prop} (b : Bz p R s m args meth c D cy T0 tB tE A 4 cX12_isCode RX12 (some .boolean) "isCode" 2 43 0 0) (S : GS) (x3 : Int32) (y0 : Int32) (h : w_X12_isCode_B83 post S x3 y0) : Z p l e R s m args below meth c D A 4 (MQ below (QI D (U := GS) post (mw cy a) A) args s 0 0 A) 0 0 (mw cy a S) [(0, .ref (a 0)), (3, .int x3)] 83 [.int y0] := by
  unfold w_X12_isCode_B83 at h
  refine z_aload_n b dX12_isCode_83 rfl rfl ?_
  refine z_get (q0 := 0) (k9 := 21) (v := .ref (a 20)) b (mw_0 cy a S) rfl in_X12 (by decide) wf_X12_72 rfl dX12_isCode_84 ?_
  refine z_iload_n b dX12_isCode_87 rfl rfl ?_
  obtain ⟨g4, h⟩ := h
  refine y_zald (q0 := 20) (j := x3.toNatClampNeg) (v := ((ar S 19) x3.toNatClampNeg)) b (mw_20 cy a S) (zx_r g4.1 g4.2) rfl dX12_isCode_88 ?_
  refine y_icmp_eq (tgt := 118) (xl := y0.toInt) (yl := ((ar S 19) x3.toNatClampNeg).toInt) b rfl rfl dX12_isCode_89 (by decide) (fun c1 => ?_) (fun c1 => ?_)
  · replace h := h.1 c1
    refine z_lv0 (lv' := []) [] rfl ?_
    exact z_X12_isCode_B118 b _ h
  · replace h := h.2 c1
    refine z_aload_n b dX12_isCode_92 rfl rfl ?_
    refine z_get (q0 := 0) (k9 := 45) (v := .int (fi S 20)) b (mw_0 cy a S) rfl in_X12 (by decide) wf_X12_370 rfl dX12_isCode_93 ?_
    refine z_iconst (v := 3) b dX12_isCode_96 (by decide) ?_
    refine y_icmp_ne (tgt := 104) (xl := (fi S 20).toInt) (yl := 3) b rfl (by decide) dX12_isCode_97 (by decide) (fun c1 => ?_) (fun c1 => ?_)
    · replace h := h.1 c1
      refine z_iconst (v := 0) b dX12_isCode_104 (by decide) ?_
      exact z_X12_isCode_B105 b _ _ _ h
    · replace h := h.2 c1
      refine z_iconst (v := 1) b dX12_isCode_100 (by decide) ?_
      refine z_goto (tgt := 105) b dX12_isCode_101 (by decide) ?_
      exact z_X12_isCode_B105 b _ _ _ h

def w_X12_isCode (S : GS) (p0 : Int32) (p1 : Int32) (post : Int32 → GS → Prop) : Prop :=
  w_X12_isAct (si (si (si S 18 ((p0 / 16) - (p0 / 16) / 4 * 4)) 19 ((p0 / 4) - (p0 / 4) / 4 * 4)) 20 (p0 - p0 / 4 * 4)) (p0 / 64) (fun r1 S2 => ((r1.toInt = 0 → w_X12_isCode_B118 post S2) ∧ (r1.toInt ≠ 0 → ((((p1 >>> (((p0 / 64) / 6) &&& 31)) &&& 1).toInt ≠ 1 → w_X12_isCode_B118 post S2) ∧ (((p1 >>> (((p0 / 64) / 6) &&& 31)) &&& 1).toInt = 1 → (((fi S2 18).toInt = 3 → w_X12_isCode_B118 post S2) ∧ ((fi S2 18).toInt ≠ 3 → (((fi S2 19).toInt = (fi S2 18).toInt → w_X12_isCode_B118 post S2) ∧ ((fi S2 19).toInt ≠ (fi S2 18).toInt → (((fi S2 19).toInt ≠ 3 → w_X12_isCode_B83 post S2 (p0 / 64) 0) ∧ ((fi S2 19).toInt = 3 → w_X12_isCode_B83 post S2 (p0 / 64) 1)))))))))))

set_option maxHeartbeats 4000000 in
set_option maxRecDepth 100000 in
theorem k_X12_isCode {l : Launch} {D : va_G} {cy : Nat → ClassId} {T0 tB tE : Nat} {a : Nat → Nat} (S : GS) (p0 : Int32) (p1 : Int32) (post : Int32 → GS → Prop) (h : w_X12_isCode S p0 p1 post) : Ct l D cy T0 tB tE yX12_isCode cX12_isCode 4 (some .boolean) 2 43 0 0 (mw cy a S) [.ref (a 0), .int p0, .int p1] (QI D (U := GS) post (mw cy a)) := by
  refine Ct.ofZ RX12 "isCode" [(0, .ref (a 0)), (1, .int p0), (2, .int p1)] rfl rfl rfl rfl (Nat.le_of_ble_eq_true rfl) ?_
  intro p e R s m args below meth c A b
  unfold w_X12_isCode at h
  refine z_iload_n b dX12_isCode_0 rfl rfl ?_
  refine z_bipush (v := 64) b dX12_isCode_1 (by decide) ?_
  refine z_idiv b dX12_isCode_3 (by decide) rfl ?_
  refine z_istore_n (lv' := [(3, .int (p0 / 64)), (0, .ref (a 0)), (1, .int p0), (2, .int p1)]) b dX12_isCode_4 rfl (by decide) rfl ?_
  refine z_aload_n b dX12_isCode_5 rfl rfl ?_
  refine z_iload_n b dX12_isCode_6 rfl rfl ?_
  refine z_bipush (v := 16) b dX12_isCode_7 (by decide) ?_
  refine z_idiv b dX12_isCode_9 (by decide) rfl ?_
  refine z_iconst (v := 4) b dX12_isCode_10 (by decide) ?_
  refine z_irem b dX12_isCode_11 (by decide) rfl ?_
  refine z_put (q0 := 0) (k9 := 43) tyX12 b (mw_0 cy a S) rfl in_X12 tyX12_ok nmX12 (by decide) wf_X12_364 rfl rfl rfl rfl (Nat.le_of_ble_eq_true rfl) dX12_isCode_12 (mwp_0_43 cy a S ((p0 / 16) - (p0 / 16) / 4 * 4)) ?_
  refine z_aload_n b dX12_isCode_15 rfl rfl ?_
  refine z_iload_n b dX12_isCode_16 rfl rfl ?_
  refine z_iconst (v := 4) b dX12_isCode_17 (by decide) ?_
  refine z_idiv b dX12_isCode_18 (by decide) rfl ?_
  refine z_iconst (v := 4) b dX12_isCode_19 (by decide) ?_
  refine z_irem b dX12_isCode_20 (by decide) rfl ?_
  refine z_put (q0 := 0) (k9 := 44) tyX12 b (mw_0 cy a (si S 18 ((p0 / 16) - (p0 / 16) / 4 * 4))) rfl in_X12 tyX12_ok nmX12 (by decide) wf_X12_367 rfl rfl rfl rfl (Nat.le_of_ble_eq_true rfl) dX12_isCode_21 (mwp_0_44 cy a (si S 18 ((p0 / 16) - (p0 / 16) / 4 * 4)) ((p0 / 4) - (p0 / 4) / 4 * 4)) ?_
  refine z_aload_n b dX12_isCode_24 rfl rfl ?_
  refine z_iload_n b dX12_isCode_25 rfl rfl ?_
  refine z_iconst (v := 4) b dX12_isCode_26 (by decide) ?_
  refine z_irem b dX12_isCode_27 (by decide) rfl ?_
  refine z_put (q0 := 0) (k9 := 45) tyX12 b (mw_0 cy a (si (si S 18 ((p0 / 16) - (p0 / 16) / 4 * 4)) 19 ((p0 / 4) - (p0 / 4) / 4 * 4))) rfl in_X12 tyX12_ok nmX12 (by decide) wf_X12_370 rfl rfl rfl rfl (Nat.le_of_ble_eq_true rfl) dX12_isCode_28 (mwp_0_45 cy a (si (si S 18 ((p0 / 16) - (p0 / 16) / 4 * 4)) 19 ((p0 / 4) - (p0 / 4) / 4 * 4)) (p0 - p0 / 4 * 4)) ?_
  refine z_aload_n b dX12_isCode_31 rfl rfl ?_
  refine z_iload_n b dX12_isCode_32 rfl rfl ?_
  refine z_calli b (z_runV (q0 := 0) (As := [.int (p0 / 64)]) (st := []) b (k_X12_isAct (si (si (si S 18 ((p0 / 16) - (p0 / 16) / 4 * 4)) 19 ((p0 / 4) - (p0 / 4) / 4 * 4)) 20 (p0 - p0 / 4 * 4)) (p0 / 64) _ h) cf_X12_isAct (mw_0 cy a (si (si (si S 18 ((p0 / 16) - (p0 / 16) / 4 * 4)) 19 ((p0 / 4) - (p0 / 4) / 4 * 4)) 20 (p0 - p0 / 4 * 4))) rfl wm_X12_361 wi_X12_isAct ws_X12_isAct dX12_isCode_33 rfl (Nat.le_of_ble_eq_true rfl) ⟨by decide, by decide, by decide, by decide⟩) (fun r1 S2 h => ?_)
  refine y_if_eq (tgt := 118) (xl := r1.toInt) b rfl dX12_isCode_36 (by decide) (fun c1 => ?_) (fun c1 => ?_)
  · replace h := h.1 c1
    refine z_lv0 (lv' := []) [] rfl ?_
    exact z_X12_isCode_B118 b _ h
  · replace h := h.2 c1
    refine z_iload_n b dX12_isCode_39 rfl rfl ?_
    refine z_iload_n b dX12_isCode_40 rfl rfl ?_
    refine z_bipush (v := 6) b dX12_isCode_41 (by decide) ?_
    refine z_idiv b dX12_isCode_43 (by decide) rfl ?_
    refine z_ishr b dX12_isCode_44 rfl ?_
    refine z_iconst (v := 1) b dX12_isCode_45 (by decide) ?_
    refine z_iand b dX12_isCode_46 rfl ?_
    refine z_iconst (v := 1) b dX12_isCode_47 (by decide) ?_
    refine y_icmp_ne (tgt := 118) (xl := ((p1 >>> (((p0 / 64) / 6) &&& 31)) &&& 1).toInt) (yl := 1) b rfl (by decide) dX12_isCode_48 (by decide) (fun c1 => ?_) (fun c1 => ?_)
    · replace h := h.1 c1
      refine z_lv0 (lv' := []) [] rfl ?_
      exact z_X12_isCode_B118 b _ h
    · replace h := h.2 c1
      refine z_aload_n b dX12_isCode_51 rfl rfl ?_
      refine z_get (q0 := 0) (k9 := 43) (v := .int (fi S2 18)) b (mw_0 cy a S2) rfl in_X12 (by decide) wf_X12_364 rfl dX12_isCode_52 ?_
      refine z_iconst (v := 3) b dX12_isCode_55 (by decide) ?_
      refine y_icmp_eq (tgt := 118) (xl := (fi S2 18).toInt) (yl := 3) b rfl (by decide) dX12_isCode_56 (by decide) (fun c1 => ?_) (fun c1 => ?_)
      · replace h := h.1 c1
        refine z_lv0 (lv' := []) [] rfl ?_
        exact z_X12_isCode_B118 b _ h
      · replace h := h.2 c1
        refine z_aload_n b dX12_isCode_59 rfl rfl ?_
        refine z_get (q0 := 0) (k9 := 44) (v := .int (fi S2 19)) b (mw_0 cy a S2) rfl in_X12 (by decide) wf_X12_367 rfl dX12_isCode_60 ?_
        refine z_aload_n b dX12_isCode_63 rfl rfl ?_
        refine z_get (q0 := 0) (k9 := 43) (v := .int (fi S2 18)) b (mw_0 cy a S2) rfl in_X12 (by decide) wf_X12_364 rfl dX12_isCode_64 ?_
        refine y_icmp_eq (tgt := 118) (xl := (fi S2 19).toInt) (yl := (fi S2 18).toInt) b rfl rfl dX12_isCode_67 (by decide) (fun c1 => ?_) (fun c1 => ?_)
        · replace h := h.1 c1
          refine z_lv0 (lv' := []) [] rfl ?_
          exact z_X12_isCode_B118 b _ h
        · replace h := h.2 c1
          refine z_aload_n b dX12_isCode_70 rfl rfl ?_
          refine z_get (q0 := 0) (k9 := 44) (v := .int (fi S2 19)) b (mw_0 cy a S2) rfl in_X12 (by decide) wf_X12_367 rfl dX12_isCode_71 ?_
          refine z_iconst (v := 3) b dX12_isCode_74 (by decide) ?_
          refine y_icmp_ne (tgt := 82) (xl := (fi S2 19).toInt) (yl := 3) b rfl (by decide) dX12_isCode_75 (by decide) (fun c1 => ?_) (fun c1 => ?_)
          · replace h := h.1 c1
            refine z_iconst (v := 0) b dX12_isCode_82 (by decide) ?_
            refine z_lv0 (lv' := [(0, .ref (a 0)), (3, .int (p0 / 64))]) [1, 0] rfl ?_
            exact z_X12_isCode_B83 b _ _ _ h
          · replace h := h.2 c1
            refine z_iconst (v := 1) b dX12_isCode_78 (by decide) ?_
            refine z_goto (tgt := 83) b dX12_isCode_79 (by decide) ?_
            refine z_lv0 (lv' := [(0, .ref (a 0)), (3, .int (p0 / 64))]) [1, 0] rfl ?_
            exact z_X12_isCode_B83 b _ _ _ h

def w_X12_both_B70 (post : Int32 → GS → Prop) (S : GS) (y0 : Int32) : Prop :=
  post y0 S

set_option maxHeartbeats 4000000 in
set_option maxRecDepth 100000 in
theorem z_X12_both_B70 {p : Program} {l : Launch} {e : Env} {R : Room} {s : State} {m : MethodId} {args : Array Value} {below : List Frame} {meth : Method} {c : Code} {D : va_G} {cy : Nat → ClassId} {T0 tB tE : Nat} {A : Nat → Prop} {a : Nat → Nat} {post : Int32 → GS → Prop} (b : Bz p R s m args meth c D cy T0 tB tE A 3 cX12_both RX12 (some .int) "both" 0 0 0 0) (S : GS) (y0 : Int32) (h : w_X12_both_B70 post S y0) : Z p l e R s m args below meth c D A 3 (MQ below (QI D (U := GS) post (mw cy a) A) args s 0 0 A) 0 0 (mw cy a S) [] 70 [.int y0] := by
  unfold w_X12_both_B70 at h
  exact z_iret (u := S) b rfl dX12_both_70 h rfl (by decide) (by decide)

def w_X12_both_B81 (post : Int32 → GS → Prop) (S : GS) (y0 : Int32) : Prop :=
  post y0 S

set_option maxHeartbeats 4000000 in
set_option maxRecDepth 100000 in
theorem z_X12_both_B81 {p : Program} {l : Launch} {e : Env} {R : Room} {s : State} {m : MethodId} {args : Array Value} {below : List Frame} {meth : Method} {c : Code} {D : va_G} {cy : Nat → ClassId} {T0 tB tE : Nat} {A : Nat → Prop} {a : Nat → Nat} {post : Int32 → GS → Prop} (b : Bz p R s m args meth c D cy T0 tB tE A 3 cX12_both RX12 (some .int) "both" 0 0 0 0) (S : GS) (y0 : Int32) (h : w_X12_both_B81 post S y0) : Z p l e R s m args below meth c D A 3 (MQ below (QI D (U := GS) post (mw cy a) A) args s 0 0 A) 0 0 (mw cy a S) [] 81 [.int y0] := by
  unfold w_X12_both_B81 at h
  exact z_iret (u := S) b rfl dX12_both_81 h rfl (by decide) (by decide)

def w_X12_both_B92 (post : Int32 → GS → Prop) (S : GS) (y0 : Int32) : Prop :=
  post y0 S

set_option maxHeartbeats 4000000 in
set_option maxRecDepth 100000 in
theorem z_X12_both_B92 {p : Program} {l : Launch} {e : Env} {R : Room} {s : State} {m : MethodId} {args : Array Value} {below : List Frame} {meth : Method} {c : Code} {D : va_G} {cy : Nat → ClassId} {T0 tB tE : Nat} {A : Nat → Prop} {a : Nat → Nat} {post : Int32 → GS → Prop} (b : Bz p R s m args meth c D cy T0 tB tE A 3 cX12_both RX12 (some .int) "both" 0 0 0 0) (S : GS) (y0 : Int32) (h : w_X12_both_B92 post S y0) : Z p l e R s m args below meth c D A 3 (MQ below (QI D (U := GS) post (mw cy a) A) args s 0 0 A) 0 0 (mw cy a S) [] 92 [.int y0] := by
  unfold w_X12_both_B92 at h
  exact z_iret (u := S) b rfl dX12_both_92 h rfl (by decide) (by decide)

def w_X12_both_B97 (post : Int32 → GS → Prop) (S : GS) (x1 : Int32) (x2 : Int32) : Prop :=
  post (x1 ||| x2) S

set_option maxHeartbeats 4000000 in
set_option maxRecDepth 100000 in
theorem z_X12_both_B97 {p : Program} {l : Launch} {e : Env} {R : Room} {s : State} {m : MethodId} {args : Array Value} {below : List Frame} {meth : Method} {c : Code} {D : va_G} {cy : Nat → ClassId} {T0 tB tE : Nat} {A : Nat → Prop} {a : Nat → Nat} {post : Int32 → GS → Prop} (b : Bz p R s m args meth c D cy T0 tB tE A 3 cX12_both RX12 (some .int) "both" 0 0 0 0) (S : GS) (x1 : Int32) (x2 : Int32) (h : w_X12_both_B97 post S x1 x2) : Z p l e R s m args below meth c D A 3 (MQ below (QI D (U := GS) post (mw cy a) A) args s 0 0 A) 0 0 (mw cy a S) [(1, .int x1), (2, .int x2)] 97 [] := by
  unfold w_X12_both_B97 at h
  refine z_iload_n b dX12_both_97 rfl rfl ?_
  refine z_iload_n b dX12_both_98 rfl rfl ?_
  refine z_ior b dX12_both_99 rfl ?_
  exact z_iret (u := S) b rfl dX12_both_100 h rfl (by decide) (by decide)

def w_X12_both (S : GS) (p0 : Int32) (p1 : Int32) (p2 : Int32) (post : Int32 → GS → Prop) : Prop :=
  ((p0.toInt = 8 → post (p1 + p2) S) ∧ (p0.toInt = 9 → post (p1 - p2) S) ∧ (p0.toInt = 10 → post (p1 * p2) S) ∧ (p0.toInt = 11 → ((p2.toInt ≤ p1.toInt → w_X12_both_B70 post S 0) ∧ (p1.toInt < p2.toInt → w_X12_both_B70 post S 1))) ∧ (p0.toInt = 12 → ((p1.toInt ≠ p2.toInt → w_X12_both_B81 post S 0) ∧ (p1.toInt = p2.toInt → w_X12_both_B81 post S 1))) ∧ (p0.toInt = 13 → ((p1.toInt ≤ p2.toInt → w_X12_both_B92 post S 0) ∧ (p2.toInt < p1.toInt → w_X12_both_B92 post S 1))) ∧ (p0.toInt = 14 → w_X12_both_B97 post S p1 p2) ∧ (p0.toInt = 15 → post (p1 &&& p2) S) ∧ (p0.toInt ≠ 8 ∧ p0.toInt ≠ 9 ∧ p0.toInt ≠ 10 ∧ p0.toInt ≠ 11 ∧ p0.toInt ≠ 12 ∧ p0.toInt ≠ 13 ∧ p0.toInt ≠ 14 ∧ p0.toInt ≠ 15 → w_X12_both_B97 post S p1 p2))

set_option maxHeartbeats 4000000 in
set_option maxRecDepth 100000 in
theorem k_X12_both {l : Launch} {D : va_G} {cy : Nat → ClassId} {T0 tB tE : Nat} {a : Nat → Nat} (S : GS) (p0 : Int32) (p1 : Int32) (p2 : Int32) (post : Int32 → GS → Prop) (h : w_X12_both S p0 p1 p2 post) : Ct l D cy T0 tB tE yX12_both cX12_both 3 (some .int) 0 0 0 0 (mw cy a S) [.int p0, .int p1, .int p2] (QI D (U := GS) post (mw cy a)) := by
  refine Ct.ofZ RX12 "both" [(0, .int p0), (1, .int p1), (2, .int p2)] rfl rfl rfl rfl (Nat.le_of_ble_eq_true rfl) ?_
  intro p e R s m args below meth c A b
  unfold w_X12_both at h
  refine z_iload_n b dX12_both_0 rfl rfl ?_
  by_cases e1 : p0.toInt = 8
  · replace h := h.1 e1
    refine z_eqi (y := 8) (y_eqc e1 (by decide)) ?_
    refine z_tableIn (tgt := 48) (off := 47) b dX12_both_1 (by decide) (by decide) (by decide) (by decide) ?_
    refine z_iload_n b dX12_both_48 rfl rfl ?_
    refine z_iload_n b dX12_both_49 rfl rfl ?_
    refine z_iadd b dX12_both_50 rfl ?_
    exact z_iret (u := S) b rfl dX12_both_51 h rfl (by decide) (by decide)
  replace h := h.2
  have o0 := e1
  by_cases e1 : p0.toInt = 9
  · replace h := h.1 e1
    refine z_eqi (y := 9) (y_eqc e1 (by decide)) ?_
    refine z_tableIn (tgt := 52) (off := 51) b dX12_both_1 (by decide) (by decide) (by decide) (by decide) ?_
    refine z_iload_n b dX12_both_52 rfl rfl ?_
    refine z_iload_n b dX12_both_53 rfl rfl ?_
    refine z_isub b dX12_both_54 rfl ?_
    exact z_iret (u := S) b rfl dX12_both_55 h rfl (by decide) (by decide)
  replace h := h.2
  have o1 := e1
  by_cases e1 : p0.toInt = 10
  · replace h := h.1 e1
    refine z_eqi (y := 10) (y_eqc e1 (by decide)) ?_
    refine z_tableIn (tgt := 56) (off := 55) b dX12_both_1 (by decide) (by decide) (by decide) (by decide) ?_
    refine z_iload_n b dX12_both_56 rfl rfl ?_
    refine z_iload_n b dX12_both_57 rfl rfl ?_
    refine z_imul b dX12_both_58 rfl ?_
    exact z_iret (u := S) b rfl dX12_both_59 h rfl (by decide) (by decide)
  replace h := h.2
  have o2 := e1
  by_cases e1 : p0.toInt = 11
  · replace h := h.1 e1
    refine z_eqi (y := 11) (y_eqc e1 (by decide)) ?_
    refine z_tableIn (tgt := 60) (off := 59) b dX12_both_1 (by decide) (by decide) (by decide) (by decide) ?_
    refine z_iload_n b dX12_both_60 rfl rfl ?_
    refine z_iload_n b dX12_both_61 rfl rfl ?_
    refine y_icmp_ge (tgt := 69) (xl := p1.toInt) (yl := p2.toInt) b rfl rfl dX12_both_62 (by decide) (fun c1 => ?_) (fun c1 => ?_)
    · replace h := h.1 c1
      refine z_iconst (v := 0) b dX12_both_69 (by decide) ?_
      refine z_lv0 (lv' := []) [] rfl ?_
      exact z_X12_both_B70 b _ _ h
    · replace h := h.2 c1
      refine z_iconst (v := 1) b dX12_both_65 (by decide) ?_
      refine z_goto (tgt := 70) b dX12_both_66 (by decide) ?_
      refine z_lv0 (lv' := []) [] rfl ?_
      exact z_X12_both_B70 b _ _ h
  replace h := h.2
  have o3 := e1
  by_cases e1 : p0.toInt = 12
  · replace h := h.1 e1
    refine z_eqi (y := 12) (y_eqc e1 (by decide)) ?_
    refine z_tableIn (tgt := 71) (off := 70) b dX12_both_1 (by decide) (by decide) (by decide) (by decide) ?_
    refine z_iload_n b dX12_both_71 rfl rfl ?_
    refine z_iload_n b dX12_both_72 rfl rfl ?_
    refine y_icmp_ne (tgt := 80) (xl := p1.toInt) (yl := p2.toInt) b rfl rfl dX12_both_73 (by decide) (fun c1 => ?_) (fun c1 => ?_)
    · replace h := h.1 c1
      refine z_iconst (v := 0) b dX12_both_80 (by decide) ?_
      refine z_lv0 (lv' := []) [] rfl ?_
      exact z_X12_both_B81 b _ _ h
    · replace h := h.2 c1
      refine z_iconst (v := 1) b dX12_both_76 (by decide) ?_
      refine z_goto (tgt := 81) b dX12_both_77 (by decide) ?_
      refine z_lv0 (lv' := []) [] rfl ?_
      exact z_X12_both_B81 b _ _ h
  replace h := h.2
  have o4 := e1
  by_cases e1 : p0.toInt = 13
  · replace h := h.1 e1
    refine z_eqi (y := 13) (y_eqc e1 (by decide)) ?_
    refine z_tableIn (tgt := 82) (off := 81) b dX12_both_1 (by decide) (by decide) (by decide) (by decide) ?_
    refine z_iload_n b dX12_both_82 rfl rfl ?_
    refine z_iload_n b dX12_both_83 rfl rfl ?_
    refine y_icmp_le (tgt := 91) (xl := p1.toInt) (yl := p2.toInt) b rfl rfl dX12_both_84 (by decide) (fun c1 => ?_) (fun c1 => ?_)
    · replace h := h.1 c1
      refine z_iconst (v := 0) b dX12_both_91 (by decide) ?_
      refine z_lv0 (lv' := []) [] rfl ?_
      exact z_X12_both_B92 b _ _ h
    · replace h := h.2 c1
      refine z_iconst (v := 1) b dX12_both_87 (by decide) ?_
      refine z_goto (tgt := 92) b dX12_both_88 (by decide) ?_
      refine z_lv0 (lv' := []) [] rfl ?_
      exact z_X12_both_B92 b _ _ h
  replace h := h.2
  have o5 := e1
  by_cases e1 : p0.toInt = 14
  · replace h := h.1 e1
    refine z_eqi (y := 14) (y_eqc e1 (by decide)) ?_
    refine z_tableIn (tgt := 97) (off := 96) b dX12_both_1 (by decide) (by decide) (by decide) (by decide) ?_
    refine z_lv0 (lv' := [(1, .int p1), (2, .int p2)]) [1, 2] rfl ?_
    exact z_X12_both_B97 b _ _ _ h
  replace h := h.2
  have o6 := e1
  by_cases e1 : p0.toInt = 15
  · replace h := h.1 e1
    refine z_eqi (y := 15) (y_eqc e1 (by decide)) ?_
    refine z_tableIn (tgt := 93) (off := 92) b dX12_both_1 (by decide) (by decide) (by decide) (by decide) ?_
    refine z_iload_n b dX12_both_93 rfl rfl ?_
    refine z_iload_n b dX12_both_94 rfl rfl ?_
    refine z_iand b dX12_both_95 rfl ?_
    exact z_iret (u := S) b rfl dX12_both_96 h rfl (by decide) (by decide)
  replace h := h.2
  have o7 := e1
  replace h := h ⟨o0, o1, o2, o3, o4, o5, o6, o7⟩
  refine z_tableOut (tgt := 97) b dX12_both_1 (by omega) (by decide) ?_
  refine z_lv0 (lv' := [(1, .int p1), (2, .int p2)]) [1, 2] rfl ?_
  exact z_X12_both_B97 b _ _ _ h

def w_X12_fact_B88 (post : Int32 → GS → Prop) (S : GS)  : Prop :=
  post 0 S

set_option maxHeartbeats 4000000 in
set_option maxRecDepth 100000 in
theorem z_X12_fact_B88 {p : Program} {l : Launch} {e : Env} {R : Room} {s : State} {m : MethodId} {args : Array Value} {below : List Frame} {meth : Method} {c : Code} {D : va_G} {cy : Nat → ClassId} {T0 tB tE : Nat} {A : Nat → Prop} {a : Nat → Nat} {post : Int32 → GS → Prop} (b : Bz p R s m args meth c D cy T0 tB tE A 8 cX12_fact RX12 (some .int) "fact" 0 0 0 0) (S : GS)  (h : w_X12_fact_B88 post S ) : Z p l e R s m args below meth c D A 8 (MQ below (QI D (U := GS) post (mw cy a) A) args s 0 0 A) 0 0 (mw cy a S) [] 88 [] := by
  unfold w_X12_fact_B88 at h
  refine z_iconst (v := 0) b dX12_fact_88 (by decide) ?_
  exact z_iret (u := S) b rfl dX12_fact_89 h rfl (by decide) (by decide)

def w_X12_fact_B162 (post : Int32 → GS → Prop) (S : GS) (y0 : Int32) : Prop :=
  post y0 S

set_option maxHeartbeats 4000000 in
set_option maxRecDepth 100000 in
theorem z_X12_fact_B162 {p : Program} {l : Launch} {e : Env} {R : Room} {s : State} {m : MethodId} {args : Array Value} {below : List Frame} {meth : Method} {c : Code} {D : va_G} {cy : Nat → ClassId} {T0 tB tE : Nat} {A : Nat → Prop} {a : Nat → Nat} {post : Int32 → GS → Prop} (b : Bz p R s m args meth c D cy T0 tB tE A 8 cX12_fact RX12 (some .int) "fact" 0 0 0 0) (S : GS) (y0 : Int32) (h : w_X12_fact_B162 post S y0) : Z p l e R s m args below meth c D A 8 (MQ below (QI D (U := GS) post (mw cy a) A) args s 0 0 A) 0 0 (mw cy a S) [] 162 [.int y0] := by
  unfold w_X12_fact_B162 at h
  exact z_iret (u := S) b rfl dX12_fact_162 h rfl (by decide) (by decide)

def w_X12_fact_B182 (post : Int32 → GS → Prop) (S : GS) (y0 : Int32) : Prop :=
  post y0 S

set_option maxHeartbeats 4000000 in
set_option maxRecDepth 100000 in
theorem z_X12_fact_B182 {p : Program} {l : Launch} {e : Env} {R : Room} {s : State} {m : MethodId} {args : Array Value} {below : List Frame} {meth : Method} {c : Code} {D : va_G} {cy : Nat → ClassId} {T0 tB tE : Nat} {A : Nat → Prop} {a : Nat → Nat} {post : Int32 → GS → Prop} (b : Bz p R s m args meth c D cy T0 tB tE A 8 cX12_fact RX12 (some .int) "fact" 0 0 0 0) (S : GS) (y0 : Int32) (h : w_X12_fact_B182 post S y0) : Z p l e R s m args below meth c D A 8 (MQ below (QI D (U := GS) post (mw cy a) A) args s 0 0 A) 0 0 (mw cy a S) [] 182 [.int y0] := by
  unfold w_X12_fact_B182 at h
  exact z_iret (u := S) b rfl dX12_fact_182 h rfl (by decide) (by decide)

def w_X12_fact_B209 (post : Int32 → GS → Prop) (S : GS) (y0 : Int32) : Prop :=
  post y0 S

set_option maxHeartbeats 4000000 in
set_option maxRecDepth 100000 in
theorem z_X12_fact_B209 {p : Program} {l : Launch} {e : Env} {R : Room} {s : State} {m : MethodId} {args : Array Value} {below : List Frame} {meth : Method} {c : Code} {D : va_G} {cy : Nat → ClassId} {T0 tB tE : Nat} {A : Nat → Prop} {a : Nat → Nat} {post : Int32 → GS → Prop} (b : Bz p R s m args meth c D cy T0 tB tE A 8 cX12_fact RX12 (some .int) "fact" 0 0 0 0) (S : GS) (y0 : Int32) (h : w_X12_fact_B209 post S y0) : Z p l e R s m args below meth c D A 8 (MQ below (QI D (U := GS) post (mw cy a) A) args s 0 0 A) 0 0 (mw cy a S) [] 209 [.int y0] := by
  unfold w_X12_fact_B209 at h
  exact z_iret (u := S) b rfl dX12_fact_209 h rfl (by decide) (by decide)

def w_X12_fact_B208 (post : Int32 → GS → Prop) (S : GS)  : Prop :=
  w_X12_fact_B209 post S 0

set_option maxHeartbeats 4000000 in
set_option maxRecDepth 100000 in
theorem z_X12_fact_B208 {p : Program} {l : Launch} {e : Env} {R : Room} {s : State} {m : MethodId} {args : Array Value} {below : List Frame} {meth : Method} {c : Code} {D : va_G} {cy : Nat → ClassId} {T0 tB tE : Nat} {A : Nat → Prop} {a : Nat → Nat} {post : Int32 → GS → Prop} (b : Bz p R s m args meth c D cy T0 tB tE A 8 cX12_fact RX12 (some .int) "fact" 0 0 0 0) (S : GS)  (h : w_X12_fact_B208 post S ) : Z p l e R s m args below meth c D A 8 (MQ below (QI D (U := GS) post (mw cy a) A) args s 0 0 A) 0 0 (mw cy a S) [] 208 [] := by
  unfold w_X12_fact_B208 at h
  refine z_iconst (v := 0) b dX12_fact_208 (by decide) ?_
  exact z_X12_fact_B209 b _ _ h

def w_X12_fact_B240 (post : Int32 → GS → Prop) (k216 : GS → Int32 → Int32 → Int32 → Prop) (k249 : GS → Int32 → Prop) (S : GS) (x3 : Int32) (x7 : Int32) (y0 : Int32) (y1 : Int32) : Prop :=
  k216 S x3 (y1 + y0) (x7 + 1)

set_option maxHeartbeats 4000000 in
set_option maxRecDepth 100000 in
theorem z_X12_fact_B240 {p : Program} {l : Launch} {e : Env} {R : Room} {s : State} {m : MethodId} {args : Array Value} {below : List Frame} {meth : Method} {c : Code} {D : va_G} {cy : Nat → ClassId} {T0 tB tE : Nat} {A : Nat → Prop} {a : Nat → Nat} {post : Int32 → GS → Prop} {k216 : GS → Int32 → Int32 → Int32 → Prop} {k249 : GS → Int32 → Prop} (b : Bz p R s m args meth c D cy T0 tB tE A 8 cX12_fact RX12 (some .int) "fact" 0 0 0 0) (hk216 : ∀ (S : GS) (x3 : Int32) (x6 : Int32) (x7 : Int32), k216 S x3 x6 x7 → Z p l e R s m args below meth c D A 8 (MQ below (QI D (U := GS) post (mw cy a) A) args s 0 0 A) 0 0 (mw cy a S) [(0, .ref (a 0)), (3, .int x3), (6, .int x6), (7, .int x7)] 216 []) (hk249 : ∀ (S : GS) (x6 : Int32), k249 S x6 → Z p l e R s m args below meth c D A 8 (MQ below (QI D (U := GS) post (mw cy a) A) args s 0 0 A) 0 0 (mw cy a S) [(6, .int x6)] 249 []) (S : GS) (x3 : Int32) (x7 : Int32) (y0 : Int32) (y1 : Int32) (h : w_X12_fact_B240 post k216 k249 S x3 x7 y0 y1) : Z p l e R s m args below meth c D A 8 (MQ below (QI D (U := GS) post (mw cy a) A) args s 0 0 A) 0 0 (mw cy a S) [(0, .ref (a 0)), (3, .int x3), (7, .int x7)] 240 [.int y0, .int y1] := by
  unfold w_X12_fact_B240 at h
  refine z_iadd b dX12_fact_240 rfl ?_
  refine z_istore (lv' := [(6, .int (y1 + y0)), (0, .ref (a 0)), (3, .int x3), (7, .int x7)]) b dX12_fact_241 (by decide) rfl ?_
  refine z_iinc (k9 := 3) (v := (x7 + 1)) (lv' := [(7, .int (x7 + 1)), (6, .int (y1 + y0)), (0, .ref (a 0)), (3, .int x3)]) b dX12_fact_243 rfl rfl (by decide) rfl ?_
  refine z_goto (tgt := 216) b dX12_fact_246 (by decide) ?_
  refine z_lv0 (lv' := [(0, .ref (a 0)), (3, .int x3), (6, .int (y1 + y0)), (7, .int (x7 + 1))]) [2, 3, 1, 0] rfl ?_
  exact hk216 _ _ _ _ h

def w_X12_fact_F216 (post : Int32 → GS → Prop) (k249 : GS → Int32 → Prop) (k216 : GS → Int32 → Int32 → Int32 → Prop) (S : GS) (x3 : Int32) (x6 : Int32) (x7 : Int32) : Prop :=
  ((3 ≤ x7.toInt → k249 S x6) ∧ (x7.toInt < 3 → (0 ≤ x7.toInt ∧ x7.toInt < 3) ∧ ((((ar S 2) x7.toNatClampNeg).toInt ≠ x3.toInt → w_X12_fact_B240 post k216 k249 S x3 x7 0 x6) ∧ (((ar S 2) x7.toNatClampNeg).toInt = x3.toInt → w_X12_fact_B240 post k216 k249 S x3 x7 1 x6))))

set_option maxHeartbeats 4000000 in
set_option maxRecDepth 100000 in
theorem z_X12_fact_F216 {p : Program} {l : Launch} {e : Env} {R : Room} {s : State} {m : MethodId} {args : Array Value} {below : List Frame} {meth : Method} {c : Code} {D : va_G} {cy : Nat → ClassId} {T0 tB tE : Nat} {A : Nat → Prop} {a : Nat → Nat} {post : Int32 → GS → Prop} {k249 : GS → Int32 → Prop} {k216 : GS → Int32 → Int32 → Int32 → Prop} (b : Bz p R s m args meth c D cy T0 tB tE A 8 cX12_fact RX12 (some .int) "fact" 0 0 0 0) (hk249 : ∀ (S : GS) (x6 : Int32), k249 S x6 → Z p l e R s m args below meth c D A 8 (MQ below (QI D (U := GS) post (mw cy a) A) args s 0 0 A) 0 0 (mw cy a S) [(6, .int x6)] 249 []) (hk216 : ∀ (S : GS) (x3 : Int32) (x6 : Int32) (x7 : Int32), k216 S x3 x6 x7 → Z p l e R s m args below meth c D A 8 (MQ below (QI D (U := GS) post (mw cy a) A) args s 0 0 A) 0 0 (mw cy a S) [(0, .ref (a 0)), (3, .int x3), (6, .int x6), (7, .int x7)] 216 []) (S : GS) (x3 : Int32) (x6 : Int32) (x7 : Int32) (h : w_X12_fact_F216 post k249 k216 S x3 x6 x7) : Z p l e R s m args below meth c D A 8 (MQ below (QI D (U := GS) post (mw cy a) A) args s 0 0 A) 0 0 (mw cy a S) [(0, .ref (a 0)), (3, .int x3), (6, .int x6), (7, .int x7)] 216 [] := by
  unfold w_X12_fact_F216 at h
  refine z_iload b dX12_fact_216 rfl ?_
  refine z_iconst (v := 3) b dX12_fact_218 (by decide) ?_
  refine y_icmp_ge (tgt := 249) (xl := x7.toInt) (yl := 3) b rfl (by decide) dX12_fact_219 (by decide) (fun c1 => ?_) (fun c1 => ?_)
  · replace h := h.1 c1
    refine z_lv0 (lv' := [(6, .int x6)]) [2] rfl ?_
    exact hk249 _ _ h
  · replace h := h.2 c1
    refine z_iload b dX12_fact_222 rfl ?_
    refine z_aload_n b dX12_fact_224 rfl rfl ?_
    refine z_get (q0 := 0) (k9 := 2) (v := .ref (a 3)) b (mw_0 cy a S) rfl in_X12 (by decide) wf_X12_20 rfl dX12_fact_225 ?_
    refine z_iload b dX12_fact_228 rfl ?_
    obtain ⟨g6, h⟩ := h
    refine y_iald (q0 := 3) (j := x7.toNatClampNeg) (v := ((ar S 2) x7.toNatClampNeg)) b (mw_3 cy a S) (zx_r g6.1 g6.2) rfl dX12_fact_230 ?_
    refine z_iload_n b dX12_fact_231 rfl rfl ?_
    refine y_icmp_ne (tgt := 239) (xl := ((ar S 2) x7.toNatClampNeg).toInt) (yl := x3.toInt) b rfl rfl dX12_fact_232 (by decide) (fun c1 => ?_) (fun c1 => ?_)
    · replace h := h.1 c1
      refine z_iconst (v := 0) b dX12_fact_239 (by decide) ?_
      refine z_lv0 (lv' := [(0, .ref (a 0)), (3, .int x3), (7, .int x7)]) [0, 1, 3] rfl ?_
      exact z_X12_fact_B240 b hk216 hk249 _ _ _ _ _ h
    · replace h := h.2 c1
      refine z_iconst (v := 1) b dX12_fact_235 (by decide) ?_
      refine z_goto (tgt := 240) b dX12_fact_236 (by decide) ?_
      refine z_lv0 (lv' := [(0, .ref (a 0)), (3, .int x3), (7, .int x7)]) [0, 1, 3] rfl ?_
      exact z_X12_fact_B240 b hk216 hk249 _ _ _ _ _ h

set_option maxHeartbeats 4000000 in
set_option maxRecDepth 100000 in
theorem zl_X12_fact_L216 {p : Program} {l : Launch} {e : Env} {R : Room} {s : State} {m : MethodId} {args : Array Value} {below : List Frame} {meth : Method} {c : Code} {D : va_G} {cy : Nat → ClassId} {T0 tB tE : Nat} {A : Nat → Prop} {a : Nat → Nat} {post : Int32 → GS → Prop} {k249 : GS → Int32 → Prop} (b : Bz p R s m args meth c D cy T0 tB tE A 8 cX12_fact RX12 (some .int) "fact" 0 0 0 0) (hk249 : ∀ (S : GS) (x6 : Int32), k249 S x6 → Z p l e R s m args below meth c D A 8 (MQ below (QI D (U := GS) post (mw cy a) A) args s 0 0 A) 0 0 (mw cy a S) [(6, .int x6)] 249 []) : ∀ (n : Nat) (S : GS) (x3 : Int32) (x6 : Int32) (x7 : Int32), lpn (w_X12_fact_F216 post k249) (fun _ _ _ _ => False) n S x3 x6 x7 → Z p l e R s m args below meth c D A 8 (MQ below (QI D (U := GS) post (mw cy a) A) args s 0 0 A) 0 0 (mw cy a S) [(0, .ref (a 0)), (3, .int x3), (6, .int x6), (7, .int x7)] 216 [] := by
  intro n
  induction n with
  | zero => intro _ _ _ _ h; exact h.elim
  | succ n ih => intro S x3 x6 x7 h; exact z_X12_fact_F216 b hk249 ih S x3 x6 x7 h

def w_X12_fact_B249 (post : Int32 → GS → Prop) (S : GS) (x6 : Int32) : Prop :=
  post x6 S

set_option maxHeartbeats 4000000 in
set_option maxRecDepth 100000 in
theorem z_X12_fact_B249 {p : Program} {l : Launch} {e : Env} {R : Room} {s : State} {m : MethodId} {args : Array Value} {below : List Frame} {meth : Method} {c : Code} {D : va_G} {cy : Nat → ClassId} {T0 tB tE : Nat} {A : Nat → Prop} {a : Nat → Nat} {post : Int32 → GS → Prop} (b : Bz p R s m args meth c D cy T0 tB tE A 8 cX12_fact RX12 (some .int) "fact" 0 0 0 0) (S : GS) (x6 : Int32) (h : w_X12_fact_B249 post S x6) : Z p l e R s m args below meth c D A 8 (MQ below (QI D (U := GS) post (mw cy a) A) args s 0 0 A) 0 0 (mw cy a S) [(6, .int x6)] 249 [] := by
  unfold w_X12_fact_B249 at h
  refine z_iload b dX12_fact_249 rfl ?_
  exact z_iret (u := S) b rfl dX12_fact_251 h rfl (by decide) (by decide)

def w_X12_fact_B90 (post : Int32 → GS → Prop) (S : GS) (x1 : Int32) (x3 : Int32) (x4 : Int32) : Prop :=
  ((x1.toInt = 1 → (0 ≤ x3.toInt ∧ x3.toInt < 3) ∧ post ((ar S 0) x3.toNatClampNeg) S) ∧ (x1.toInt = 2 → (0 ≤ (((3 : Int32) * x3) + x4).toInt ∧ (((3 : Int32) * x3) + x4).toInt < 9) ∧ post ((ar S 1) (((3 : Int32) * x3) + x4).toNatClampNeg) S) ∧ (x1.toInt = 3 → (0 ≤ (((3 : Int32) * x3) + x4).toInt ∧ (((3 : Int32) * x3) + x4).toInt < 9) ∧ ((((ar S 3) (((3 : Int32) * x3) + x4).toNatClampNeg).toInt = 0 → w_X12_fact_B162 post S 0) ∧ (((ar S 3) (((3 : Int32) * x3) + x4).toNatClampNeg).toInt ≠ 0 → w_X12_fact_B162 post S 1))) ∧ (x1.toInt = 4 → (0 ≤ (((3 : Int32) * x3) + x4).toInt ∧ (((3 : Int32) * x3) + x4).toInt < 9) ∧ ((((ar S 4) (((3 : Int32) * x3) + x4).toNatClampNeg).toInt = 0 → w_X12_fact_B182 post S 0) ∧ (((ar S 4) (((3 : Int32) * x3) + x4).toNatClampNeg).toInt ≠ 0 → w_X12_fact_B182 post S 1))) ∧ (x1.toInt = 5 → (((fi S 20).toInt = 3 → w_X12_fact_B208 post S) ∧ ((fi S 20).toInt ≠ 3 → (0 ≤ (fi S 20).toInt ∧ (fi S 20).toInt < 3) ∧ ((((ar S 2) (fi S 20).toNatClampNeg).toInt ≠ x3.toInt → w_X12_fact_B208 post S) ∧ (((ar S 2) (fi S 20).toNatClampNeg).toInt = x3.toInt → w_X12_fact_B209 post S 1))))) ∧ (x1.toInt ≠ 1 ∧ x1.toInt ≠ 2 ∧ x1.toInt ≠ 3 ∧ x1.toInt ≠ 4 ∧ x1.toInt ≠ 5 → ∃ n, lpn (w_X12_fact_F216 post (w_X12_fact_B249 post)) (fun _ _ _ _ => False) n S x3 0 0))

set_option maxHeartbeats 4000000 in
set_option maxRecDepth 100000 in
theorem z_X12_fact_B90 {p : Program} {l : Launch} {e : Env} {R : Room} {s : State} {m : MethodId} {args : Array Value} {below : List Frame} {meth : Method} {c : Code} {D : va_G} {cy : Nat → ClassId} {T0 tB tE : Nat} {A : Nat → Prop} {a : Nat → Nat} {post : Int32 → GS → Prop} (b : Bz p R s m args meth c D cy T0 tB tE A 8 cX12_fact RX12 (some .int) "fact" 0 0 0 0) (S : GS) (x1 : Int32) (x3 : Int32) (x4 : Int32) (h : w_X12_fact_B90 post S x1 x3 x4) : Z p l e R s m args below meth c D A 8 (MQ below (QI D (U := GS) post (mw cy a) A) args s 0 0 A) 0 0 (mw cy a S) [(0, .ref (a 0)), (1, .int x1), (3, .int x3), (4, .int x4)] 90 [] := by
  unfold w_X12_fact_B90 at h
  refine z_iload_n b dX12_fact_90 rfl rfl ?_
  by_cases e1 : x1.toInt = 1
  · replace h := h.1 e1
    refine z_eqi (y := 1) (y_eqc e1 (by decide)) ?_
    refine z_tableIn (tgt := 124) (off := 33) b dX12_fact_91 (by decide) (by decide) (by decide) (by decide) ?_
    refine z_aload_n b dX12_fact_124 rfl rfl ?_
    refine z_get (q0 := 0) (k9 := 0) (v := .ref (a 1)) b (mw_0 cy a S) rfl in_X12 (by decide) wf_X12_13 rfl dX12_fact_125 ?_
    refine z_iload_n b dX12_fact_128 rfl rfl ?_
    obtain ⟨g1, h⟩ := h
    refine y_iald (q0 := 1) (j := x3.toNatClampNeg) (v := ((ar S 0) x3.toNatClampNeg)) b (mw_1 cy a S) (zx_r g1.1 g1.2) rfl dX12_fact_129 ?_
    exact z_iret (u := S) b rfl dX12_fact_130 h rfl (by decide) (by decide)
  replace h := h.2
  have o0 := e1
  by_cases e1 : x1.toInt = 2
  · replace h := h.1 e1
    refine z_eqi (y := 2) (y_eqc e1 (by decide)) ?_
    refine z_tableIn (tgt := 131) (off := 40) b dX12_fact_91 (by decide) (by decide) (by decide) (by decide) ?_
    refine z_aload_n b dX12_fact_131 rfl rfl ?_
    refine z_get (q0 := 0) (k9 := 1) (v := .ref (a 2)) b (mw_0 cy a S) rfl in_X12 (by decide) wf_X12_17 rfl dX12_fact_132 ?_
    refine z_iconst (v := 3) b dX12_fact_135 (by decide) ?_
    refine z_iload_n b dX12_fact_136 rfl rfl ?_
    refine z_imul b dX12_fact_137 rfl ?_
    refine z_iload b dX12_fact_138 rfl ?_
    refine z_iadd b dX12_fact_140 rfl ?_
    obtain ⟨g2, h⟩ := h
    refine y_iald (q0 := 2) (j := (((3 : Int32) * x3) + x4).toNatClampNeg) (v := ((ar S 1) (((3 : Int32) * x3) + x4).toNatClampNeg)) b (mw_2 cy a S) (zx_r g2.1 g2.2) rfl dX12_fact_141 ?_
    exact z_iret (u := S) b rfl dX12_fact_142 h rfl (by decide) (by decide)
  replace h := h.2
  have o1 := e1
  by_cases e1 : x1.toInt = 3
  · replace h := h.1 e1
    refine z_eqi (y := 3) (y_eqc e1 (by decide)) ?_
    refine z_tableIn (tgt := 143) (off := 52) b dX12_fact_91 (by decide) (by decide) (by decide) (by decide) ?_
    refine z_aload_n b dX12_fact_143 rfl rfl ?_
    refine z_get (q0 := 0) (k9 := 3) (v := .ref (a 4)) b (mw_0 cy a S) rfl in_X12 (by decide) wf_X12_23 rfl dX12_fact_144 ?_
    refine z_iconst (v := 3) b dX12_fact_147 (by decide) ?_
    refine z_iload_n b dX12_fact_148 rfl rfl ?_
    refine z_imul b dX12_fact_149 rfl ?_
    refine z_iload b dX12_fact_150 rfl ?_
    refine z_iadd b dX12_fact_152 rfl ?_
    obtain ⟨g3, h⟩ := h
    refine y_zald (q0 := 4) (j := (((3 : Int32) * x3) + x4).toNatClampNeg) (v := ((ar S 3) (((3 : Int32) * x3) + x4).toNatClampNeg)) b (mw_4 cy a S) (zx_r g3.1 g3.2) rfl dX12_fact_153 ?_
    refine y_if_eq (tgt := 161) (xl := ((ar S 3) (((3 : Int32) * x3) + x4).toNatClampNeg).toInt) b rfl dX12_fact_154 (by decide) (fun c1 => ?_) (fun c1 => ?_)
    · replace h := h.1 c1
      refine z_iconst (v := 0) b dX12_fact_161 (by decide) ?_
      refine z_lv0 (lv' := []) [] rfl ?_
      exact z_X12_fact_B162 b _ _ h
    · replace h := h.2 c1
      refine z_iconst (v := 1) b dX12_fact_157 (by decide) ?_
      refine z_goto (tgt := 162) b dX12_fact_158 (by decide) ?_
      refine z_lv0 (lv' := []) [] rfl ?_
      exact z_X12_fact_B162 b _ _ h
  replace h := h.2
  have o2 := e1
  by_cases e1 : x1.toInt = 4
  · replace h := h.1 e1
    refine z_eqi (y := 4) (y_eqc e1 (by decide)) ?_
    refine z_tableIn (tgt := 163) (off := 72) b dX12_fact_91 (by decide) (by decide) (by decide) (by decide) ?_
    refine z_aload_n b dX12_fact_163 rfl rfl ?_
    refine z_get (q0 := 0) (k9 := 4) (v := .ref (a 5)) b (mw_0 cy a S) rfl in_X12 (by decide) wf_X12_27 rfl dX12_fact_164 ?_
    refine z_iconst (v := 3) b dX12_fact_167 (by decide) ?_
    refine z_iload_n b dX12_fact_168 rfl rfl ?_
    refine z_imul b dX12_fact_169 rfl ?_
    refine z_iload b dX12_fact_170 rfl ?_
    refine z_iadd b dX12_fact_172 rfl ?_
    obtain ⟨g4, h⟩ := h
    refine y_zald (q0 := 5) (j := (((3 : Int32) * x3) + x4).toNatClampNeg) (v := ((ar S 4) (((3 : Int32) * x3) + x4).toNatClampNeg)) b (mw_5 cy a S) (zx_r g4.1 g4.2) rfl dX12_fact_173 ?_
    refine y_if_eq (tgt := 181) (xl := ((ar S 4) (((3 : Int32) * x3) + x4).toNatClampNeg).toInt) b rfl dX12_fact_174 (by decide) (fun c1 => ?_) (fun c1 => ?_)
    · replace h := h.1 c1
      refine z_iconst (v := 0) b dX12_fact_181 (by decide) ?_
      refine z_lv0 (lv' := []) [] rfl ?_
      exact z_X12_fact_B182 b _ _ h
    · replace h := h.2 c1
      refine z_iconst (v := 1) b dX12_fact_177 (by decide) ?_
      refine z_goto (tgt := 182) b dX12_fact_178 (by decide) ?_
      refine z_lv0 (lv' := []) [] rfl ?_
      exact z_X12_fact_B182 b _ _ h
  replace h := h.2
  have o3 := e1
  by_cases e1 : x1.toInt = 5
  · replace h := h.1 e1
    refine z_eqi (y := 5) (y_eqc e1 (by decide)) ?_
    refine z_tableIn (tgt := 183) (off := 92) b dX12_fact_91 (by decide) (by decide) (by decide) (by decide) ?_
    refine z_aload_n b dX12_fact_183 rfl rfl ?_
    refine z_get (q0 := 0) (k9 := 45) (v := .int (fi S 20)) b (mw_0 cy a S) rfl in_X12 (by decide) wf_X12_370 rfl dX12_fact_184 ?_
    refine z_iconst (v := 3) b dX12_fact_187 (by decide) ?_
    refine y_icmp_eq (tgt := 208) (xl := (fi S 20).toInt) (yl := 3) b rfl (by decide) dX12_fact_188 (by decide) (fun c1 => ?_) (fun c1 => ?_)
    · replace h := h.1 c1
      refine z_lv0 (lv' := []) [] rfl ?_
      exact z_X12_fact_B208 b _ h
    · replace h := h.2 c1
      refine z_aload_n b dX12_fact_191 rfl rfl ?_
      refine z_get (q0 := 0) (k9 := 2) (v := .ref (a 3)) b (mw_0 cy a S) rfl in_X12 (by decide) wf_X12_20 rfl dX12_fact_192 ?_
      refine z_aload_n b dX12_fact_195 rfl rfl ?_
      refine z_get (q0 := 0) (k9 := 45) (v := .int (fi S 20)) b (mw_0 cy a S) rfl in_X12 (by decide) wf_X12_370 rfl dX12_fact_196 ?_
      obtain ⟨g5, h⟩ := h
      refine y_iald (q0 := 3) (j := (fi S 20).toNatClampNeg) (v := ((ar S 2) (fi S 20).toNatClampNeg)) b (mw_3 cy a S) (zx_r g5.1 g5.2) rfl dX12_fact_199 ?_
      refine z_iload_n b dX12_fact_200 rfl rfl ?_
      refine y_icmp_ne (tgt := 208) (xl := ((ar S 2) (fi S 20).toNatClampNeg).toInt) (yl := x3.toInt) b rfl rfl dX12_fact_201 (by decide) (fun c1 => ?_) (fun c1 => ?_)
      · replace h := h.1 c1
        refine z_lv0 (lv' := []) [] rfl ?_
        exact z_X12_fact_B208 b _ h
      · replace h := h.2 c1
        refine z_iconst (v := 1) b dX12_fact_204 (by decide) ?_
        refine z_goto (tgt := 209) b dX12_fact_205 (by decide) ?_
        refine z_lv0 (lv' := []) [] rfl ?_
        exact z_X12_fact_B209 b _ _ h
  replace h := h.2
  have o4 := e1
  replace h := h ⟨o0, o1, o2, o3, o4⟩
  refine z_tableOut (tgt := 210) b dX12_fact_91 (by omega) (by decide) ?_
  refine z_iconst (v := 0) b dX12_fact_210 (by decide) ?_
  refine z_istore (lv' := [(6, .int 0), (0, .ref (a 0)), (1, .int x1), (3, .int x3), (4, .int x4)]) b dX12_fact_211 (by decide) rfl ?_
  refine z_iconst (v := 0) b dX12_fact_213 (by decide) ?_
  refine z_istore (lv' := [(7, .int 0), (6, .int 0), (0, .ref (a 0)), (1, .int x1), (3, .int x3), (4, .int x4)]) b dX12_fact_214 (by decide) rfl ?_
  refine z_lv0 (lv' := [(0, .ref (a 0)), (3, .int x3), (6, .int 0), (7, .int 0)]) [2, 4, 1, 0] rfl ?_
  obtain ⟨n, h⟩ := h
  exact zl_X12_fact_L216 b (fun S x6 h => z_X12_fact_B249 b _ _ h) n _ _ _ _ h

def w_X12_fact_B70 (post : Int32 → GS → Prop) (S : GS) (x1 : Int32) (x3 : Int32) (x4 : Int32) (y0 : Int32) : Prop :=
  ((x3.toInt = 3 → w_X12_fact_B88 post S) ∧ (x3.toInt ≠ 3 → ((y0.toInt = 0 → w_X12_fact_B90 post S x1 x3 x4) ∧ (y0.toInt ≠ 0 → ((x4.toInt ≠ 3 → w_X12_fact_B90 post S x1 x3 x4) ∧ (x4.toInt = 3 → w_X12_fact_B88 post S))))))

set_option maxHeartbeats 4000000 in
set_option maxRecDepth 100000 in
theorem z_X12_fact_B70 {p : Program} {l : Launch} {e : Env} {R : Room} {s : State} {m : MethodId} {args : Array Value} {below : List Frame} {meth : Method} {c : Code} {D : va_G} {cy : Nat → ClassId} {T0 tB tE : Nat} {A : Nat → Prop} {a : Nat → Nat} {post : Int32 → GS → Prop} (b : Bz p R s m args meth c D cy T0 tB tE A 8 cX12_fact RX12 (some .int) "fact" 0 0 0 0) (S : GS) (x1 : Int32) (x3 : Int32) (x4 : Int32) (y0 : Int32) (h : w_X12_fact_B70 post S x1 x3 x4 y0) : Z p l e R s m args below meth c D A 8 (MQ below (QI D (U := GS) post (mw cy a) A) args s 0 0 A) 0 0 (mw cy a S) [(0, .ref (a 0)), (1, .int x1), (3, .int x3), (4, .int x4)] 70 [.int y0] := by
  unfold w_X12_fact_B70 at h
  refine z_istore (lv' := [(5, .int y0), (0, .ref (a 0)), (1, .int x1), (3, .int x3), (4, .int x4)]) b dX12_fact_70 (by decide) rfl ?_
  refine z_iload_n b dX12_fact_72 rfl rfl ?_
  refine z_iconst (v := 3) b dX12_fact_73 (by decide) ?_
  refine y_icmp_eq (tgt := 88) (xl := x3.toInt) (yl := 3) b rfl (by decide) dX12_fact_74 (by decide) (fun c1 => ?_) (fun c1 => ?_)
  · replace h := h.1 c1
    refine z_lv0 (lv' := []) [] rfl ?_
    exact z_X12_fact_B88 b _ h
  · replace h := h.2 c1
    refine z_iload b dX12_fact_77 rfl ?_
    refine y_if_eq (tgt := 90) (xl := y0.toInt) b rfl dX12_fact_79 (by decide) (fun c1 => ?_) (fun c1 => ?_)
    · replace h := h.1 c1
      refine z_lv0 (lv' := [(0, .ref (a 0)), (1, .int x1), (3, .int x3), (4, .int x4)]) [1, 2, 3, 4] rfl ?_
      exact z_X12_fact_B90 b _ _ _ _ h
    · replace h := h.2 c1
      refine z_iload b dX12_fact_82 rfl ?_
      refine z_iconst (v := 3) b dX12_fact_84 (by decide) ?_
      refine y_icmp_ne (tgt := 90) (xl := x4.toInt) (yl := 3) b rfl (by decide) dX12_fact_85 (by decide) (fun c1 => ?_) (fun c1 => ?_)
      · replace h := h.1 c1
        refine z_lv0 (lv' := [(0, .ref (a 0)), (1, .int x1), (3, .int x3), (4, .int x4)]) [1, 2, 3, 4] rfl ?_
        exact z_X12_fact_B90 b _ _ _ _ h
      · replace h := h.2 c1
        refine z_lv0 (lv' := []) [] rfl ?_
        exact z_X12_fact_B88 b _ h

def w_X12_fact_B65 (post : Int32 → GS → Prop) (S : GS) (x1 : Int32) (x3 : Int32) (x4 : Int32) : Prop :=
  w_X12_fact_B70 post S x1 x3 x4 1

set_option maxHeartbeats 4000000 in
set_option maxRecDepth 100000 in
theorem z_X12_fact_B65 {p : Program} {l : Launch} {e : Env} {R : Room} {s : State} {m : MethodId} {args : Array Value} {below : List Frame} {meth : Method} {c : Code} {D : va_G} {cy : Nat → ClassId} {T0 tB tE : Nat} {A : Nat → Prop} {a : Nat → Nat} {post : Int32 → GS → Prop} (b : Bz p R s m args meth c D cy T0 tB tE A 8 cX12_fact RX12 (some .int) "fact" 0 0 0 0) (S : GS) (x1 : Int32) (x3 : Int32) (x4 : Int32) (h : w_X12_fact_B65 post S x1 x3 x4) : Z p l e R s m args below meth c D A 8 (MQ below (QI D (U := GS) post (mw cy a) A) args s 0 0 A) 0 0 (mw cy a S) [(0, .ref (a 0)), (1, .int x1), (3, .int x3), (4, .int x4)] 65 [] := by
  unfold w_X12_fact_B65 at h
  refine z_iconst (v := 1) b dX12_fact_65 (by decide) ?_
  refine z_goto (tgt := 70) b dX12_fact_66 (by decide) ?_
  exact z_X12_fact_B70 b _ _ _ _ _ h

def w_X12_fact_B31 (post : Int32 → GS → Prop) (S : GS) (x1 : Int32) (x2 : Int32) (x3 : Int32) (y0 : Int32) : Prop :=
  ((x1.toInt ≠ 0 → ((x1.toInt ≠ 7 → ((x1.toInt = 2 → w_X12_fact_B65 post S x1 x3 y0) ∧ (x1.toInt ≠ 2 → ((x1.toInt = 3 → w_X12_fact_B65 post S x1 x3 y0) ∧ (x1.toInt ≠ 3 → ((x1.toInt ≠ 4 → w_X12_fact_B70 post S x1 x3 y0 0) ∧ (x1.toInt = 4 → w_X12_fact_B65 post S x1 x3 y0))))))) ∧ (x1.toInt = 7 → post (fi S 0) S))) ∧ (x1.toInt = 0 → post x2 S))

set_option maxHeartbeats 4000000 in
set_option maxRecDepth 100000 in
theorem z_X12_fact_B31 {p : Program} {l : Launch} {e : Env} {R : Room} {s : State} {m : MethodId} {args : Array Value} {below : List Frame} {meth : Method} {c : Code} {D : va_G} {cy : Nat → ClassId} {T0 tB tE : Nat} {A : Nat → Prop} {a : Nat → Nat} {post : Int32 → GS → Prop} (b : Bz p R s m args meth c D cy T0 tB tE A 8 cX12_fact RX12 (some .int) "fact" 0 0 0 0) (S : GS) (x1 : Int32) (x2 : Int32) (x3 : Int32) (y0 : Int32) (h : w_X12_fact_B31 post S x1 x2 x3 y0) : Z p l e R s m args below meth c D A 8 (MQ below (QI D (U := GS) post (mw cy a) A) args s 0 0 A) 0 0 (mw cy a S) [(0, .ref (a 0)), (1, .int x1), (2, .int x2), (3, .int x3)] 31 [.int y0] := by
  unfold w_X12_fact_B31 at h
  refine z_istore (lv' := [(4, .int y0), (0, .ref (a 0)), (1, .int x1), (2, .int x2), (3, .int x3)]) b dX12_fact_31 (by decide) rfl ?_
  refine z_iload_n b dX12_fact_33 rfl rfl ?_
  refine y_if_ne (tgt := 39) (xl := x1.toInt) b rfl dX12_fact_34 (by decide) (fun c1 => ?_) (fun c1 => ?_)
  · replace h := h.1 c1
    refine z_iload_n b dX12_fact_39 rfl rfl ?_
    refine z_bipush (v := 7) b dX12_fact_40 (by decide) ?_
    refine y_icmp_ne (tgt := 50) (xl := x1.toInt) (yl := 7) b rfl (by decide) dX12_fact_42 (by decide) (fun c1 => ?_) (fun c1 => ?_)
    · replace h := h.1 c1
      refine z_iload_n b dX12_fact_50 rfl rfl ?_
      refine z_iconst (v := 2) b dX12_fact_51 (by decide) ?_
      refine y_icmp_eq (tgt := 65) (xl := x1.toInt) (yl := 2) b rfl (by decide) dX12_fact_52 (by decide) (fun c1 => ?_) (fun c1 => ?_)
      · replace h := h.1 c1
        refine z_lv0 (lv' := [(0, .ref (a 0)), (1, .int x1), (3, .int x3), (4, .int y0)]) [1, 2, 4, 0] rfl ?_
        exact z_X12_fact_B65 b _ _ _ _ h
      · replace h := h.2 c1
        refine z_iload_n b dX12_fact_55 rfl rfl ?_
        refine z_iconst (v := 3) b dX12_fact_56 (by decide) ?_
        refine y_icmp_eq (tgt := 65) (xl := x1.toInt) (yl := 3) b rfl (by decide) dX12_fact_57 (by decide) (fun c1 => ?_) (fun c1 => ?_)
        · replace h := h.1 c1
          refine z_lv0 (lv' := [(0, .ref (a 0)), (1, .int x1), (3, .int x3), (4, .int y0)]) [1, 2, 4, 0] rfl ?_
          exact z_X12_fact_B65 b _ _ _ _ h
        · replace h := h.2 c1
          refine z_iload_n b dX12_fact_60 rfl rfl ?_
          refine z_iconst (v := 4) b dX12_fact_61 (by decide) ?_
          refine y_icmp_ne (tgt := 69) (xl := x1.toInt) (yl := 4) b rfl (by decide) dX12_fact_62 (by decide) (fun c1 => ?_) (fun c1 => ?_)
          · replace h := h.1 c1
            refine z_iconst (v := 0) b dX12_fact_69 (by decide) ?_
            refine z_lv0 (lv' := [(0, .ref (a 0)), (1, .int x1), (3, .int x3), (4, .int y0)]) [1, 2, 4, 0] rfl ?_
            exact z_X12_fact_B70 b _ _ _ _ _ h
          · replace h := h.2 c1
            refine z_lv0 (lv' := [(0, .ref (a 0)), (1, .int x1), (3, .int x3), (4, .int y0)]) [1, 2, 4, 0] rfl ?_
            exact z_X12_fact_B65 b _ _ _ _ h
    · replace h := h.2 c1
      refine z_aload_n b dX12_fact_45 rfl rfl ?_
      refine z_get (q0 := 0) (k9 := 5) (v := .int (fi S 0)) b (mw_0 cy a S) rfl in_X12 (by decide) wf_X12_157 rfl dX12_fact_46 ?_
      exact z_iret (u := S) b rfl dX12_fact_49 h rfl (by decide) (by decide)
  · replace h := h.2 c1
    refine z_iload_n b dX12_fact_37 rfl rfl ?_
    exact z_iret (u := S) b rfl dX12_fact_38 h rfl (by decide) (by decide)

def w_X12_fact_B15 (post : Int32 → GS → Prop) (S : GS) (x1 : Int32) (x2 : Int32) (y0 : Int32) : Prop :=
  ((x2.toInt ≠ 0 → w_X12_fact_B31 post S x1 x2 y0 (fi S 18)) ∧ (x2.toInt = 0 → w_X12_fact_B31 post S x1 x2 y0 (fi S 19)))

set_option maxHeartbeats 4000000 in
set_option maxRecDepth 100000 in
theorem z_X12_fact_B15 {p : Program} {l : Launch} {e : Env} {R : Room} {s : State} {m : MethodId} {args : Array Value} {below : List Frame} {meth : Method} {c : Code} {D : va_G} {cy : Nat → ClassId} {T0 tB tE : Nat} {A : Nat → Prop} {a : Nat → Nat} {post : Int32 → GS → Prop} (b : Bz p R s m args meth c D cy T0 tB tE A 8 cX12_fact RX12 (some .int) "fact" 0 0 0 0) (S : GS) (x1 : Int32) (x2 : Int32) (y0 : Int32) (h : w_X12_fact_B15 post S x1 x2 y0) : Z p l e R s m args below meth c D A 8 (MQ below (QI D (U := GS) post (mw cy a) A) args s 0 0 A) 0 0 (mw cy a S) [(0, .ref (a 0)), (1, .int x1), (2, .int x2)] 15 [.int y0] := by
  unfold w_X12_fact_B15 at h
  refine z_istore_n (lv' := [(3, .int y0), (0, .ref (a 0)), (1, .int x1), (2, .int x2)]) b dX12_fact_15 rfl (by decide) rfl ?_
  refine z_iload_n b dX12_fact_16 rfl rfl ?_
  refine y_if_ne (tgt := 27) (xl := x2.toInt) b rfl dX12_fact_17 (by decide) (fun c1 => ?_) (fun c1 => ?_)
  · replace h := h.1 c1
    refine z_aload_n b dX12_fact_27 rfl rfl ?_
    refine z_get (q0 := 0) (k9 := 43) (v := .int (fi S 18)) b (mw_0 cy a S) rfl in_X12 (by decide) wf_X12_364 rfl dX12_fact_28 ?_
    refine z_lv0 (lv' := [(0, .ref (a 0)), (1, .int x1), (2, .int x2), (3, .int y0)]) [1, 2, 3, 0] rfl ?_
    exact z_X12_fact_B31 b _ _ _ _ _ h
  · replace h := h.2 c1
    refine z_aload_n b dX12_fact_20 rfl rfl ?_
    refine z_get (q0 := 0) (k9 := 44) (v := .int (fi S 19)) b (mw_0 cy a S) rfl in_X12 (by decide) wf_X12_367 rfl dX12_fact_21 ?_
    refine z_goto (tgt := 31) b dX12_fact_24 (by decide) ?_
    refine z_lv0 (lv' := [(0, .ref (a 0)), (1, .int x1), (2, .int x2), (3, .int y0)]) [1, 2, 3, 0] rfl ?_
    exact z_X12_fact_B31 b _ _ _ _ _ h

def w_X12_fact (S : GS) (p0 : Int32) (p1 : Int32) (post : Int32 → GS → Prop) : Prop :=
  ((p1.toInt ≠ 0 → w_X12_fact_B15 post S p0 p1 (fi S 19)) ∧ (p1.toInt = 0 → w_X12_fact_B15 post S p0 p1 (fi S 18)))

set_option maxHeartbeats 4000000 in
set_option maxRecDepth 100000 in
theorem k_X12_fact {l : Launch} {D : va_G} {cy : Nat → ClassId} {T0 tB tE : Nat} {a : Nat → Nat} (S : GS) (p0 : Int32) (p1 : Int32) (post : Int32 → GS → Prop) (h : w_X12_fact S p0 p1 post) : Ct l D cy T0 tB tE yX12_fact cX12_fact 8 (some .int) 0 0 0 0 (mw cy a S) [.ref (a 0), .int p0, .int p1] (QI D (U := GS) post (mw cy a)) := by
  refine Ct.ofZ RX12 "fact" [(0, .ref (a 0)), (1, .int p0), (2, .int p1)] rfl rfl rfl rfl (Nat.le_of_ble_eq_true rfl) ?_
  intro p e R s m args below meth c A b
  unfold w_X12_fact at h
  refine z_iload_n b dX12_fact_0 rfl rfl ?_
  refine y_if_ne (tgt := 11) (xl := p1.toInt) b rfl dX12_fact_1 (by decide) (fun c1 => ?_) (fun c1 => ?_)
  · replace h := h.1 c1
    refine z_aload_n b dX12_fact_11 rfl rfl ?_
    refine z_get (q0 := 0) (k9 := 44) (v := .int (fi S 19)) b (mw_0 cy a S) rfl in_X12 (by decide) wf_X12_367 rfl dX12_fact_12 ?_
    exact z_X12_fact_B15 b _ _ _ _ h
  · replace h := h.2 c1
    refine z_aload_n b dX12_fact_4 rfl rfl ?_
    refine z_get (q0 := 0) (k9 := 43) (v := .int (fi S 18)) b (mw_0 cy a S) rfl in_X12 (by decide) wf_X12_364 rfl dX12_fact_5 ?_
    refine z_goto (tgt := 15) b dX12_fact_8 (by decide) ?_
    exact z_X12_fact_B15 b _ _ _ _ h

def w_X12_comesTo_B139 (post : Int32 → GS → Prop) (k6 : GS → Int32 → Int32 → Int32 → Int32 → Prop) (k145 : GS → Prop) (S : GS) (x1 : Int32) (x3 : Int32) (x4 : Int32) (x5 : Int32) : Prop :=
  k6 S x1 x3 x4 (x5 + 1)

set_option maxHeartbeats 4000000 in
set_option maxRecDepth 100000 in
theorem z_X12_comesTo_B139 {p : Program} {l : Launch} {e : Env} {R : Room} {s : State} {m : MethodId} {args : Array Value} {below : List Frame} {meth : Method} {c : Code} {D : va_G} {cy : Nat → ClassId} {T0 tB tE : Nat} {A : Nat → Prop} {a : Nat → Nat} {post : Int32 → GS → Prop} {k6 : GS → Int32 → Int32 → Int32 → Int32 → Prop} {k145 : GS → Prop} (b : Bz p R s m args meth c D cy T0 tB tE A 8 cX12_comesTo RX12 (some .int) "comesTo" 1 27 0 0) (hk6 : ∀ (S : GS) (x1 : Int32) (x3 : Int32) (x4 : Int32) (x5 : Int32), k6 S x1 x3 x4 x5 → Z p l e R s m args below meth c D A 8 (MQ below (QI D (U := GS) post (mw cy a) A) args s 0 0 A) 0 0 (mw cy a S) [(0, .ref (a 0)), (1, .int x1), (3, .int x3), (4, .int x4), (5, .int x5)] 6 []) (hk145 : ∀ (S : GS), k145 S → Z p l e R s m args below meth c D A 8 (MQ below (QI D (U := GS) post (mw cy a) A) args s 0 0 A) 0 0 (mw cy a S) [(0, .ref (a 0))] 145 []) (S : GS) (x1 : Int32) (x3 : Int32) (x4 : Int32) (x5 : Int32) (h : w_X12_comesTo_B139 post k6 k145 S x1 x3 x4 x5) : Z p l e R s m args below meth c D A 8 (MQ below (QI D (U := GS) post (mw cy a) A) args s 0 0 A) 0 0 (mw cy a S) [(0, .ref (a 0)), (1, .int x1), (3, .int x3), (4, .int x4), (5, .int x5)] 139 [] := by
  unfold w_X12_comesTo_B139 at h
  refine z_iinc (k9 := 4) (v := (x5 + 1)) (lv' := [(5, .int (x5 + 1)), (0, .ref (a 0)), (1, .int x1), (3, .int x3), (4, .int x4)]) b dX12_comesTo_139 rfl rfl (by decide) rfl ?_
  refine z_goto (tgt := 6) b dX12_comesTo_142 (by decide) ?_
  refine z_lv0 (lv' := [(0, .ref (a 0)), (1, .int x1), (3, .int x3), (4, .int x4), (5, .int (x5 + 1))]) [1, 2, 3, 4, 0] rfl ?_
  exact hk6 _ _ _ _ _ h

def w_X12_comesTo_F6 (post : Int32 → GS → Prop) (k145 : GS → Prop) (k6 : GS → Int32 → Int32 → Int32 → Int32 → Prop) (S : GS) (x1 : Int32) (x3 : Int32) (x4 : Int32) (x5 : Int32) : Prop :=
  ((x3.toInt ≤ x5.toInt → k145 S) ∧ (x5.toInt < x3.toInt → (0 ≤ (((1440 : Int32) * x1) + ((2 : Int32) * x5)).toInt ∧ (((1440 : Int32) * x1) + ((2 : Int32) * x5)).toInt < 20160) ∧ (0 ≤ ((((1440 : Int32) * x1) + ((2 : Int32) * x5)) + 1).toInt ∧ ((((1440 : Int32) * x1) + ((2 : Int32) * x5)) + 1).toInt < 20160) ∧ ((8 ≤ ((ar S 5) (((1440 : Int32) * x1) + ((2 : Int32) * x5)).toNatClampNeg).toInt → ((((ar S 5) (((1440 : Int32) * x1) + ((2 : Int32) * x5)).toNatClampNeg).toInt ≠ 14 → (0 ≤ ((x4 + (-1)) - 1).toInt ∧ ((x4 + (-1)) - 1).toInt < 720) ∧ (0 ≤ (x4 + (-1)).toInt ∧ (x4 + (-1)).toInt < 720) ∧ w_X12_both S ((ar S 5) (((1440 : Int32) * x1) + ((2 : Int32) * x5)).toNatClampNeg) ((ar S 22) ((x4 + (-1)) - 1).toNatClampNeg) ((ar S 22) (x4 + (-1)).toNatClampNeg) (fun r5 S6 => (0 ≤ ((x4 + (-1)) - 1).toInt ∧ ((x4 + (-1)) - 1).toInt < 720) ∧ w_X12_comesTo_B139 post k6 k145 (su S6 22 (((x4 + (-1)) - 1).toNatClampNeg) r5) x1 x3 (x4 + (-1)) x5)) ∧ (((ar S 5) (((1440 : Int32) * x1) + ((2 : Int32) * x5)).toNatClampNeg).toInt = 14 → (0 ≤ (x4 - 1).toInt ∧ (x4 - 1).toInt < 720) ∧ (0 ≤ (x4 - 1).toInt ∧ (x4 - 1).toInt < 720) ∧ w_X12_comesTo_B139 post k6 k145 (su S 22 ((x4 - 1).toNatClampNeg) ((1 : Int32) - ((ar S 22) (x4 - 1).toNatClampNeg))) x1 x3 x4 x5))) ∧ (((ar S 5) (((1440 : Int32) * x1) + ((2 : Int32) * x5)).toNatClampNeg).toInt < 8 → w_X12_fact S ((ar S 5) (((1440 : Int32) * x1) + ((2 : Int32) * x5)).toNatClampNeg) ((ar S 5) ((((1440 : Int32) * x1) + ((2 : Int32) * x5)) + 1).toNatClampNeg) (fun r10 S11 => (0 ≤ x4.toInt ∧ x4.toInt < 720) ∧ w_X12_comesTo_B139 post k6 k145 (su S11 22 (x4.toNatClampNeg) r10) x1 x3 (x4 + 1) x5)))))

set_option maxHeartbeats 4000000 in
set_option maxRecDepth 100000 in
theorem z_X12_comesTo_F6 {p : Program} {l : Launch} {e : Env} {R : Room} {s : State} {m : MethodId} {args : Array Value} {below : List Frame} {meth : Method} {c : Code} {D : va_G} {cy : Nat → ClassId} {T0 tB tE : Nat} {A : Nat → Prop} {a : Nat → Nat} {post : Int32 → GS → Prop} {k145 : GS → Prop} {k6 : GS → Int32 → Int32 → Int32 → Int32 → Prop} (b : Bz p R s m args meth c D cy T0 tB tE A 8 cX12_comesTo RX12 (some .int) "comesTo" 1 27 0 0) (hk145 : ∀ (S : GS), k145 S → Z p l e R s m args below meth c D A 8 (MQ below (QI D (U := GS) post (mw cy a) A) args s 0 0 A) 0 0 (mw cy a S) [(0, .ref (a 0))] 145 []) (hk6 : ∀ (S : GS) (x1 : Int32) (x3 : Int32) (x4 : Int32) (x5 : Int32), k6 S x1 x3 x4 x5 → Z p l e R s m args below meth c D A 8 (MQ below (QI D (U := GS) post (mw cy a) A) args s 0 0 A) 0 0 (mw cy a S) [(0, .ref (a 0)), (1, .int x1), (3, .int x3), (4, .int x4), (5, .int x5)] 6 []) (S : GS) (x1 : Int32) (x3 : Int32) (x4 : Int32) (x5 : Int32) (h : w_X12_comesTo_F6 post k145 k6 S x1 x3 x4 x5) : Z p l e R s m args below meth c D A 8 (MQ below (QI D (U := GS) post (mw cy a) A) args s 0 0 A) 0 0 (mw cy a S) [(0, .ref (a 0)), (1, .int x1), (3, .int x3), (4, .int x4), (5, .int x5)] 6 [] := by
  unfold w_X12_comesTo_F6 at h
  refine z_iload b dX12_comesTo_6 rfl ?_
  refine z_iload_n b dX12_comesTo_8 rfl rfl ?_
  refine y_icmp_ge (tgt := 145) (xl := x5.toInt) (yl := x3.toInt) b rfl rfl dX12_comesTo_9 (by decide) (fun c1 => ?_) (fun c1 => ?_)
  · replace h := h.1 c1
    refine z_lv0 (lv' := [(0, .ref (a 0))]) [0] rfl ?_
    exact hk145 _ h
  · replace h := h.2 c1
    refine z_aload_n b dX12_comesTo_12 rfl rfl ?_
    refine z_get (q0 := 0) (k9 := 7) (v := .ref (a 6)) b (mw_0 cy a S) rfl in_X12 (by decide) wf_X12_30 rfl dX12_comesTo_13 ?_
    refine z_sipush (v := 1440) b dX12_comesTo_16 (by decide) ?_
    refine z_iload_n b dX12_comesTo_19 rfl rfl ?_
    refine z_imul b dX12_comesTo_20 rfl ?_
    refine z_iconst (v := 2) b dX12_comesTo_21 (by decide) ?_
    refine z_iload b dX12_comesTo_22 rfl ?_
    refine z_imul b dX12_comesTo_24 rfl ?_
    refine z_iadd b dX12_comesTo_25 rfl ?_
    obtain ⟨g1, h⟩ := h
    refine y_iald (q0 := 6) (j := (((1440 : Int32) * x1) + ((2 : Int32) * x5)).toNatClampNeg) (v := ((ar S 5) (((1440 : Int32) * x1) + ((2 : Int32) * x5)).toNatClampNeg)) b (mw_6 cy a S) (zx_r g1.1 g1.2) rfl dX12_comesTo_26 ?_
    refine z_istore (lv' := [(6, .int ((ar S 5) (((1440 : Int32) * x1) + ((2 : Int32) * x5)).toNatClampNeg)), (0, .ref (a 0)), (1, .int x1), (3, .int x3), (4, .int x4), (5, .int x5)]) b dX12_comesTo_27 (by decide) rfl ?_
    refine z_aload_n b dX12_comesTo_29 rfl rfl ?_
    refine z_get (q0 := 0) (k9 := 7) (v := .ref (a 6)) b (mw_0 cy a S) rfl in_X12 (by decide) wf_X12_30 rfl dX12_comesTo_30 ?_
    refine z_sipush (v := 1440) b dX12_comesTo_33 (by decide) ?_
    refine z_iload_n b dX12_comesTo_36 rfl rfl ?_
    refine z_imul b dX12_comesTo_37 rfl ?_
    refine z_iconst (v := 2) b dX12_comesTo_38 (by decide) ?_
    refine z_iload b dX12_comesTo_39 rfl ?_
    refine z_imul b dX12_comesTo_41 rfl ?_
    refine z_iadd b dX12_comesTo_42 rfl ?_
    refine z_iconst (v := 1) b dX12_comesTo_43 (by decide) ?_
    refine z_iadd b dX12_comesTo_44 rfl ?_
    obtain ⟨g2, h⟩ := h
    refine y_iald (q0 := 6) (j := ((((1440 : Int32) * x1) + ((2 : Int32) * x5)) + 1).toNatClampNeg) (v := ((ar S 5) ((((1440 : Int32) * x1) + ((2 : Int32) * x5)) + 1).toNatClampNeg)) b (mw_6 cy a S) (zx_r g2.1 g2.2) rfl dX12_comesTo_45 ?_
    refine z_istore (lv' := [(7, .int ((ar S 5) ((((1440 : Int32) * x1) + ((2 : Int32) * x5)) + 1).toNatClampNeg)), (6, .int ((ar S 5) (((1440 : Int32) * x1) + ((2 : Int32) * x5)).toNatClampNeg)), (0, .ref (a 0)), (1, .int x1), (3, .int x3), (4, .int x4), (5, .int x5)]) b dX12_comesTo_46 (by decide) rfl ?_
    refine z_iload b dX12_comesTo_48 rfl ?_
    refine z_bipush (v := 8) b dX12_comesTo_50 (by decide) ?_
    refine y_icmp_ge (tgt := 76) (xl := ((ar S 5) (((1440 : Int32) * x1) + ((2 : Int32) * x5)).toNatClampNeg).toInt) (yl := 8) b rfl (by decide) dX12_comesTo_52 (by decide) (fun c1 => ?_) (fun c1 => ?_)
    · replace h := h.1 c1
      refine z_iload b dX12_comesTo_76 rfl ?_
      refine z_bipush (v := 14) b dX12_comesTo_78 (by decide) ?_
      refine y_icmp_ne (tgt := 106) (xl := ((ar S 5) (((1440 : Int32) * x1) + ((2 : Int32) * x5)).toNatClampNeg).toInt) (yl := 14) b rfl (by decide) dX12_comesTo_80 (by decide) (fun c1 => ?_) (fun c1 => ?_)
      · replace h := h.1 c1
        refine z_iinc (k9 := 5) (v := (x4 + (-1))) (lv' := [(4, .int (x4 + (-1))), (7, .int ((ar S 5) ((((1440 : Int32) * x1) + ((2 : Int32) * x5)) + 1).toNatClampNeg)), (6, .int ((ar S 5) (((1440 : Int32) * x1) + ((2 : Int32) * x5)).toNatClampNeg)), (0, .ref (a 0)), (1, .int x1), (3, .int x3), (5, .int x5)]) b dX12_comesTo_106 rfl rfl (by decide) rfl ?_
        refine z_aload_n b dX12_comesTo_109 rfl rfl ?_
        refine z_get (q0 := 0) (k9 := 24) (v := .ref (a 23)) b (mw_0 cy a S) rfl in_X12 (by decide) wf_X12_81 rfl dX12_comesTo_110 ?_
        refine z_iload b dX12_comesTo_113 rfl ?_
        refine z_iconst (v := 1) b dX12_comesTo_115 (by decide) ?_
        refine z_isub b dX12_comesTo_116 rfl ?_
        refine z_iload b dX12_comesTo_117 rfl ?_
        refine z_aload_n b dX12_comesTo_119 rfl rfl ?_
        refine z_get (q0 := 0) (k9 := 24) (v := .ref (a 23)) b (mw_0 cy a S) rfl in_X12 (by decide) wf_X12_81 rfl dX12_comesTo_120 ?_
        refine z_iload b dX12_comesTo_123 rfl ?_
        refine z_iconst (v := 1) b dX12_comesTo_125 (by decide) ?_
        refine z_isub b dX12_comesTo_126 rfl ?_
        obtain ⟨g3, h⟩ := h
        refine y_iald (q0 := 23) (j := ((x4 + (-1)) - 1).toNatClampNeg) (v := ((ar S 22) ((x4 + (-1)) - 1).toNatClampNeg)) b (mw_23 cy a S) (zx_r g3.1 g3.2) rfl dX12_comesTo_127 ?_
        refine z_aload_n b dX12_comesTo_128 rfl rfl ?_
        refine z_get (q0 := 0) (k9 := 24) (v := .ref (a 23)) b (mw_0 cy a S) rfl in_X12 (by decide) wf_X12_81 rfl dX12_comesTo_129 ?_
        refine z_iload b dX12_comesTo_132 rfl ?_
        obtain ⟨g4, h⟩ := h
        refine y_iald (q0 := 23) (j := (x4 + (-1)).toNatClampNeg) (v := ((ar S 22) (x4 + (-1)).toNatClampNeg)) b (mw_23 cy a S) (zx_r g4.1 g4.2) rfl dX12_comesTo_134 ?_
        refine z_calli b (z_runS (As := [.int ((ar S 5) (((1440 : Int32) * x1) + ((2 : Int32) * x5)).toNatClampNeg), .int ((ar S 22) ((x4 + (-1)) - 1).toNatClampNeg), .int ((ar S 22) (x4 + (-1)).toNatClampNeg)]) (st := [.int ((x4 + (-1)) - 1), .ref (a 23)]) b (k_X12_both S ((ar S 5) (((1440 : Int32) * x1) + ((2 : Int32) * x5)).toNatClampNeg) ((ar S 22) ((x4 + (-1)) - 1).toNatClampNeg) ((ar S 22) (x4 + (-1)).toNatClampNeg) _ h) cf_X12_both wm_X12_376 ws_X12_both dX12_comesTo_135 rfl (Nat.le_of_ble_eq_true rfl) ⟨by decide, by decide, by decide, by decide⟩) (fun r5 S6 h => ?_)
        obtain ⟨g7, h⟩ := h
        refine y_iast (q0 := 23) (j := ((x4 + (-1)) - 1).toNatClampNeg) b (mw_23 cy a S6) (zx_r g7.1 g7.2) dX12_comesTo_138 (mwa_23 cy a S6 (((x4 + (-1)) - 1).toNatClampNeg) r5) ?_
        refine z_lv0 (lv' := [(0, .ref (a 0)), (1, .int x1), (3, .int x3), (4, .int (x4 + (-1))), (5, .int x5)]) [3, 4, 5, 0, 6] rfl ?_
        exact z_X12_comesTo_B139 b hk6 hk145 _ _ _ _ _ h
      · replace h := h.2 c1
        refine z_aload_n b dX12_comesTo_83 rfl rfl ?_
        refine z_get (q0 := 0) (k9 := 24) (v := .ref (a 23)) b (mw_0 cy a S) rfl in_X12 (by decide) wf_X12_81 rfl dX12_comesTo_84 ?_
        refine z_iload b dX12_comesTo_87 rfl ?_
        refine z_iconst (v := 1) b dX12_comesTo_89 (by decide) ?_
        refine z_isub b dX12_comesTo_90 rfl ?_
        refine z_iconst (v := 1) b dX12_comesTo_91 (by decide) ?_
        refine z_aload_n b dX12_comesTo_92 rfl rfl ?_
        refine z_get (q0 := 0) (k9 := 24) (v := .ref (a 23)) b (mw_0 cy a S) rfl in_X12 (by decide) wf_X12_81 rfl dX12_comesTo_93 ?_
        refine z_iload b dX12_comesTo_96 rfl ?_
        refine z_iconst (v := 1) b dX12_comesTo_98 (by decide) ?_
        refine z_isub b dX12_comesTo_99 rfl ?_
        obtain ⟨g8, h⟩ := h
        refine y_iald (q0 := 23) (j := (x4 - 1).toNatClampNeg) (v := ((ar S 22) (x4 - 1).toNatClampNeg)) b (mw_23 cy a S) (zx_r g8.1 g8.2) rfl dX12_comesTo_100 ?_
        refine z_isub b dX12_comesTo_101 rfl ?_
        obtain ⟨g9, h⟩ := h
        refine y_iast (q0 := 23) (j := (x4 - 1).toNatClampNeg) b (mw_23 cy a S) (zx_r g9.1 g9.2) dX12_comesTo_102 (mwa_23 cy a S ((x4 - 1).toNatClampNeg) ((1 : Int32) - ((ar S 22) (x4 - 1).toNatClampNeg))) ?_
        refine z_goto (tgt := 139) b dX12_comesTo_103 (by decide) ?_
        refine z_lv0 (lv' := [(0, .ref (a 0)), (1, .int x1), (3, .int x3), (4, .int x4), (5, .int x5)]) [2, 3, 4, 5, 6] rfl ?_
        exact z_X12_comesTo_B139 b hk6 hk145 _ _ _ _ _ h
    · replace h := h.2 c1
      refine z_aload_n b dX12_comesTo_55 rfl rfl ?_
      refine z_get (q0 := 0) (k9 := 24) (v := .ref (a 23)) b (mw_0 cy a S) rfl in_X12 (by decide) wf_X12_81 rfl dX12_comesTo_56 ?_
      refine z_iload b dX12_comesTo_59 rfl ?_
      refine z_aload_n b dX12_comesTo_61 rfl rfl ?_
      refine z_iload b dX12_comesTo_62 rfl ?_
      refine z_iload b dX12_comesTo_64 rfl ?_
      refine z_calli b (z_runV (q0 := 0) (As := [.int ((ar S 5) (((1440 : Int32) * x1) + ((2 : Int32) * x5)).toNatClampNeg), .int ((ar S 5) ((((1440 : Int32) * x1) + ((2 : Int32) * x5)) + 1).toNatClampNeg)]) (st := [.int x4, .ref (a 23)]) b (k_X12_fact S ((ar S 5) (((1440 : Int32) * x1) + ((2 : Int32) * x5)).toNatClampNeg) ((ar S 5) ((((1440 : Int32) * x1) + ((2 : Int32) * x5)) + 1).toNatClampNeg) _ h) cf_X12_fact (mw_0 cy a S) rfl wm_X12_373 wi_X12_fact ws_X12_fact dX12_comesTo_66 rfl (Nat.le_of_ble_eq_true rfl) ⟨by decide, by decide, by decide, by decide⟩) (fun r10 S11 h => ?_)
      obtain ⟨g12, h⟩ := h
      refine y_iast (q0 := 23) (j := x4.toNatClampNeg) b (mw_23 cy a S11) (zx_r g12.1 g12.2) dX12_comesTo_69 (mwa_23 cy a S11 (x4.toNatClampNeg) r10) ?_
      refine z_iinc (k9 := 5) (v := (x4 + 1)) (lv' := [(4, .int (x4 + 1)), (7, .int ((ar S 5) ((((1440 : Int32) * x1) + ((2 : Int32) * x5)) + 1).toNatClampNeg)), (6, .int ((ar S 5) (((1440 : Int32) * x1) + ((2 : Int32) * x5)).toNatClampNeg)), (0, .ref (a 0)), (1, .int x1), (3, .int x3), (5, .int x5)]) b dX12_comesTo_70 rfl rfl (by decide) rfl ?_
      refine z_goto (tgt := 139) b dX12_comesTo_73 (by decide) ?_
      refine z_lv0 (lv' := [(0, .ref (a 0)), (1, .int x1), (3, .int x3), (4, .int (x4 + 1)), (5, .int x5)]) [3, 4, 5, 0, 6] rfl ?_
      exact z_X12_comesTo_B139 b hk6 hk145 _ _ _ _ _ h

set_option maxHeartbeats 4000000 in
set_option maxRecDepth 100000 in
theorem zl_X12_comesTo_L6 {p : Program} {l : Launch} {e : Env} {R : Room} {s : State} {m : MethodId} {args : Array Value} {below : List Frame} {meth : Method} {c : Code} {D : va_G} {cy : Nat → ClassId} {T0 tB tE : Nat} {A : Nat → Prop} {a : Nat → Nat} {post : Int32 → GS → Prop} {k145 : GS → Prop} (b : Bz p R s m args meth c D cy T0 tB tE A 8 cX12_comesTo RX12 (some .int) "comesTo" 1 27 0 0) (hk145 : ∀ (S : GS), k145 S → Z p l e R s m args below meth c D A 8 (MQ below (QI D (U := GS) post (mw cy a) A) args s 0 0 A) 0 0 (mw cy a S) [(0, .ref (a 0))] 145 []) : ∀ (n : Nat) (S : GS) (x1 : Int32) (x3 : Int32) (x4 : Int32) (x5 : Int32), lpn (w_X12_comesTo_F6 post k145) (fun _ _ _ _ _ => False) n S x1 x3 x4 x5 → Z p l e R s m args below meth c D A 8 (MQ below (QI D (U := GS) post (mw cy a) A) args s 0 0 A) 0 0 (mw cy a S) [(0, .ref (a 0)), (1, .int x1), (3, .int x3), (4, .int x4), (5, .int x5)] 6 [] := by
  intro n
  induction n with
  | zero => intro _ _ _ _ _ h; exact h.elim
  | succ n ih => intro S x1 x3 x4 x5 h; exact z_X12_comesTo_F6 b hk145 ih S x1 x3 x4 x5 h

def w_X12_comesTo_B145 (post : Int32 → GS → Prop) (S : GS)  : Prop :=
  post ((ar S 22) 0) S

set_option maxHeartbeats 4000000 in
set_option maxRecDepth 100000 in
theorem z_X12_comesTo_B145 {p : Program} {l : Launch} {e : Env} {R : Room} {s : State} {m : MethodId} {args : Array Value} {below : List Frame} {meth : Method} {c : Code} {D : va_G} {cy : Nat → ClassId} {T0 tB tE : Nat} {A : Nat → Prop} {a : Nat → Nat} {post : Int32 → GS → Prop} (b : Bz p R s m args meth c D cy T0 tB tE A 8 cX12_comesTo RX12 (some .int) "comesTo" 1 27 0 0) (S : GS)  (h : w_X12_comesTo_B145 post S ) : Z p l e R s m args below meth c D A 8 (MQ below (QI D (U := GS) post (mw cy a) A) args s 0 0 A) 0 0 (mw cy a S) [(0, .ref (a 0))] 145 [] := by
  unfold w_X12_comesTo_B145 at h
  refine z_aload_n b dX12_comesTo_145 rfl rfl ?_
  refine z_get (q0 := 0) (k9 := 24) (v := .ref (a 23)) b (mw_0 cy a S) rfl in_X12 (by decide) wf_X12_81 rfl dX12_comesTo_146 ?_
  refine z_iconst (v := 0) b dX12_comesTo_149 (by decide) ?_
  refine y_iald (q0 := 23) (j := 0) (v := ((ar S 22) 0)) b (mw_23 cy a S) (by decide) rfl dX12_comesTo_150 ?_
  exact z_iret (u := S) b rfl dX12_comesTo_151 h rfl (by decide) (by decide)

def w_X12_comesTo (S : GS) (p0 : Int32) (p1 : Int32) (p2 : Int32) (post : Int32 → GS → Prop) : Prop :=
  ∃ n, lpn (w_X12_comesTo_F6 post (w_X12_comesTo_B145 post)) (fun _ _ _ _ _ => False) n S p0 p2 0 p1

set_option maxHeartbeats 4000000 in
set_option maxRecDepth 100000 in
theorem k_X12_comesTo {l : Launch} {D : va_G} {cy : Nat → ClassId} {T0 tB tE : Nat} {a : Nat → Nat} (S : GS) (p0 : Int32) (p1 : Int32) (p2 : Int32) (post : Int32 → GS → Prop) (h : w_X12_comesTo S p0 p1 p2 post) : Ct l D cy T0 tB tE yX12_comesTo cX12_comesTo 8 (some .int) 1 27 0 0 (mw cy a S) [.ref (a 0), .int p0, .int p1, .int p2] (QI D (U := GS) post (mw cy a)) := by
  refine Ct.ofZ RX12 "comesTo" [(0, .ref (a 0)), (1, .int p0), (2, .int p1), (3, .int p2)] rfl rfl rfl rfl (Nat.le_of_ble_eq_true rfl) ?_
  intro p e R s m args below meth c A b
  unfold w_X12_comesTo at h
  refine z_iconst (v := 0) b dX12_comesTo_0 (by decide) ?_
  refine z_istore (lv' := [(4, .int 0), (0, .ref (a 0)), (1, .int p0), (2, .int p1), (3, .int p2)]) b dX12_comesTo_1 (by decide) rfl ?_
  refine z_iload_n b dX12_comesTo_3 rfl rfl ?_
  refine z_istore (lv' := [(5, .int p1), (4, .int 0), (0, .ref (a 0)), (1, .int p0), (2, .int p1), (3, .int p2)]) b dX12_comesTo_4 (by decide) rfl ?_
  refine z_lv0 (lv' := [(0, .ref (a 0)), (1, .int p0), (3, .int p2), (4, .int 0), (5, .int p1)]) [2, 3, 5, 1, 0] rfl ?_
  obtain ⟨n, h⟩ := h
  exact zl_X12_comesTo_L6 b (fun S h => z_X12_comesTo_B145 b _ h) n _ _ _ _ _ h

def w_X12_ties_B119 (post : GS → Prop) (S : GS)  : Prop :=
  post S

set_option maxHeartbeats 4000000 in
set_option maxRecDepth 100000 in
theorem z_X12_ties_B119 {p : Program} {l : Launch} {e : Env} {R : Room} {s : State} {m : MethodId} {args : Array Value} {below : List Frame} {meth : Method} {c : Code} {D : va_G} {cy : Nat → ClassId} {T0 tB tE : Nat} {A : Nat → Prop} {a : Nat → Nat} {post : GS → Prop} (b : Bz p R s m args meth c D cy T0 tB tE A 5 cX12_ties RX12 none "ties" 1 21 0 0) (S : GS)  (h : w_X12_ties_B119 post S ) : Z p l e R s m args below meth c D A 5 (MQ below (QV D (U := GS) post (mw cy a) A) args s 0 0 A) 0 0 (mw cy a S) [] 119 [] := by
  unfold w_X12_ties_B119 at h
  exact z_vret (u := S) b rfl dX12_ties_119 h rfl (by decide) (by decide)

def w_X12_ties_B101 (post : GS → Prop) (S : GS) (x2 : Int32) (x3 : Int32) (x4 : Int32) : Prop :=
  ((x2.toInt ≠ 6 → w_X12_ties_B119 post S) ∧ (x2.toInt = 6 → (0 ≤ (((3 : Int32) * x3) + x4).toInt ∧ (((3 : Int32) * x3) + x4).toInt < 9) ∧ w_X12_ties_B119 post (su S 4 ((((3 : Int32) * x3) + x4).toNatClampNeg) 1)))

set_option maxHeartbeats 4000000 in
set_option maxRecDepth 100000 in
theorem z_X12_ties_B101 {p : Program} {l : Launch} {e : Env} {R : Room} {s : State} {m : MethodId} {args : Array Value} {below : List Frame} {meth : Method} {c : Code} {D : va_G} {cy : Nat → ClassId} {T0 tB tE : Nat} {A : Nat → Prop} {a : Nat → Nat} {post : GS → Prop} (b : Bz p R s m args meth c D cy T0 tB tE A 5 cX12_ties RX12 none "ties" 1 21 0 0) (S : GS) (x2 : Int32) (x3 : Int32) (x4 : Int32) (h : w_X12_ties_B101 post S x2 x3 x4) : Z p l e R s m args below meth c D A 5 (MQ below (QV D (U := GS) post (mw cy a) A) args s 0 0 A) 0 0 (mw cy a S) [(0, .ref (a 0)), (2, .int x2), (3, .int x3), (4, .int x4)] 101 [] := by
  unfold w_X12_ties_B101 at h
  refine z_iload_n b dX12_ties_101 rfl rfl ?_
  refine z_bipush (v := 6) b dX12_ties_102 (by decide) ?_
  refine y_icmp_ne (tgt := 119) (xl := x2.toInt) (yl := 6) b rfl (by decide) dX12_ties_104 (by decide) (fun c1 => ?_) (fun c1 => ?_)
  · replace h := h.1 c1
    refine z_lv0 (lv' := []) [] rfl ?_
    exact z_X12_ties_B119 b _ h
  · replace h := h.2 c1
    refine z_aload_n b dX12_ties_107 rfl rfl ?_
    refine z_get (q0 := 0) (k9 := 4) (v := .ref (a 5)) b (mw_0 cy a S) rfl in_X12 (by decide) wf_X12_27 rfl dX12_ties_108 ?_
    refine z_iconst (v := 3) b dX12_ties_111 (by decide) ?_
    refine z_iload_n b dX12_ties_112 rfl rfl ?_
    refine z_imul b dX12_ties_113 rfl ?_
    refine z_iload b dX12_ties_114 rfl ?_
    refine z_iadd b dX12_ties_116 rfl ?_
    refine z_iconst (v := 1) b dX12_ties_117 (by decide) ?_
    obtain ⟨g13, h⟩ := h
    refine y_zast (q0 := 5) (j := (((3 : Int32) * x3) + x4).toNatClampNeg) b (mw_5 cy a S) (zx_r g13.1 g13.2) (by decide) dX12_ties_118 (mwa_5 cy a S ((((3 : Int32) * x3) + x4).toNatClampNeg) 1) ?_
    refine z_lv0 (lv' := []) [] rfl ?_
    exact z_X12_ties_B119 b _ h

def w_X12_ties_B78 (post : GS → Prop) (S : GS) (x2 : Int32) (x3 : Int32) (x4 : Int32) (y0 : Int32) (y1 : Int32) : Prop :=
  (0 ≤ y1.toInt ∧ y1.toInt < 9) ∧ (y0 = 0 ∨ y0 = 1) ∧ (0 ≤ (((3 : Int32) * x3) + x4).toInt ∧ (((3 : Int32) * x3) + x4).toInt < 9) ∧ (0 ≤ (((3 : Int32) * x4) + x3).toInt ∧ (((3 : Int32) * x4) + x3).toInt < 9) ∧ (((upd (ar S 3) (y1.toNatClampNeg) y0) (((3 : Int32) * x3) + x4).toNatClampNeg) = 0 ∨ ((upd (ar S 3) (y1.toNatClampNeg) y0) (((3 : Int32) * x3) + x4).toNatClampNeg) = 1) ∧ w_X12_ties_B101 post (su (su S 3 (y1.toNatClampNeg) y0) 3 ((((3 : Int32) * x4) + x3).toNatClampNeg) ((upd (ar S 3) (y1.toNatClampNeg) y0) (((3 : Int32) * x3) + x4).toNatClampNeg)) x2 x3 x4

set_option maxHeartbeats 4000000 in
set_option maxRecDepth 100000 in
theorem z_X12_ties_B78 {p : Program} {l : Launch} {e : Env} {R : Room} {s : State} {m : MethodId} {args : Array Value} {below : List Frame} {meth : Method} {c : Code} {D : va_G} {cy : Nat → ClassId} {T0 tB tE : Nat} {A : Nat → Prop} {a : Nat → Nat} {post : GS → Prop} (b : Bz p R s m args meth c D cy T0 tB tE A 5 cX12_ties RX12 none "ties" 1 21 0 0) (S : GS) (x2 : Int32) (x3 : Int32) (x4 : Int32) (y0 : Int32) (y1 : Int32) (h : w_X12_ties_B78 post S x2 x3 x4 y0 y1) : Z p l e R s m args below meth c D A 5 (MQ below (QV D (U := GS) post (mw cy a) A) args s 0 0 A) 0 0 (mw cy a S) [(0, .ref (a 0)), (2, .int x2), (3, .int x3), (4, .int x4)] 78 [.int y0, .int y1, .ref (a 4)] := by
  unfold w_X12_ties_B78 at h
  obtain ⟨g8, h⟩ := h
  obtain ⟨g9, h⟩ := h
  refine y_zast (q0 := 4) (j := y1.toNatClampNeg) b (mw_4 cy a S) (zx_r g8.1 g8.2) g9 dX12_ties_78 (mwa_4 cy a S (y1.toNatClampNeg) y0) ?_
  refine z_aload_n b dX12_ties_79 rfl rfl ?_
  refine z_get (q0 := 0) (k9 := 3) (v := .ref (a 4)) b (mw_0 cy a (su S 3 (y1.toNatClampNeg) y0)) rfl in_X12 (by decide) wf_X12_23 rfl dX12_ties_80 ?_
  refine z_iconst (v := 3) b dX12_ties_83 (by decide) ?_
  refine z_iload b dX12_ties_84 rfl ?_
  refine z_imul b dX12_ties_86 rfl ?_
  refine z_iload_n b dX12_ties_87 rfl rfl ?_
  refine z_iadd b dX12_ties_88 rfl ?_
  refine z_aload_n b dX12_ties_89 rfl rfl ?_
  refine z_get (q0 := 0) (k9 := 3) (v := .ref (a 4)) b (mw_0 cy a (su S 3 (y1.toNatClampNeg) y0)) rfl in_X12 (by decide) wf_X12_23 rfl dX12_ties_90 ?_
  refine z_iconst (v := 3) b dX12_ties_93 (by decide) ?_
  refine z_iload_n b dX12_ties_94 rfl rfl ?_
  refine z_imul b dX12_ties_95 rfl ?_
  refine z_iload b dX12_ties_96 rfl ?_
  refine z_iadd b dX12_ties_98 rfl ?_
  obtain ⟨g10, h⟩ := h
  refine y_zald (q0 := 4) (j := (((3 : Int32) * x3) + x4).toNatClampNeg) (v := ((upd (ar S 3) (y1.toNatClampNeg) y0) (((3 : Int32) * x3) + x4).toNatClampNeg)) b (mw_4 cy a (su S 3 (y1.toNatClampNeg) y0)) (zx_r g10.1 g10.2) rfl dX12_ties_99 ?_
  obtain ⟨g11, h⟩ := h
  obtain ⟨g12, h⟩ := h
  refine y_zast (q0 := 4) (j := (((3 : Int32) * x4) + x3).toNatClampNeg) b (mw_4 cy a (su S 3 (y1.toNatClampNeg) y0)) (zx_r g11.1 g11.2) g12 dX12_ties_100 (mwa_4 cy a (su S 3 (y1.toNatClampNeg) y0) ((((3 : Int32) * x4) + x3).toNatClampNeg) ((upd (ar S 3) (y1.toNatClampNeg) y0) (((3 : Int32) * x3) + x4).toNatClampNeg)) ?_
  exact z_X12_ties_B101 b _ _ _ _ h

def w_X12_ties_B58 (post : GS → Prop) (S : GS) (x2 : Int32) (x3 : Int32) (x4 : Int32) : Prop :=
  ((x2.toInt ≠ 4 → w_X12_ties_B78 post S x2 x3 x4 0 (((3 : Int32) * x3) + x4)) ∧ (x2.toInt = 4 → w_X12_ties_B78 post S x2 x3 x4 1 (((3 : Int32) * x3) + x4)))

set_option maxHeartbeats 4000000 in
set_option maxRecDepth 100000 in
theorem z_X12_ties_B58 {p : Program} {l : Launch} {e : Env} {R : Room} {s : State} {m : MethodId} {args : Array Value} {below : List Frame} {meth : Method} {c : Code} {D : va_G} {cy : Nat → ClassId} {T0 tB tE : Nat} {A : Nat → Prop} {a : Nat → Nat} {post : GS → Prop} (b : Bz p R s m args meth c D cy T0 tB tE A 5 cX12_ties RX12 none "ties" 1 21 0 0) (S : GS) (x2 : Int32) (x3 : Int32) (x4 : Int32) (h : w_X12_ties_B58 post S x2 x3 x4) : Z p l e R s m args below meth c D A 5 (MQ below (QV D (U := GS) post (mw cy a) A) args s 0 0 A) 0 0 (mw cy a S) [(0, .ref (a 0)), (2, .int x2), (3, .int x3), (4, .int x4)] 58 [] := by
  unfold w_X12_ties_B58 at h
  refine z_aload_n b dX12_ties_58 rfl rfl ?_
  refine z_get (q0 := 0) (k9 := 3) (v := .ref (a 4)) b (mw_0 cy a S) rfl in_X12 (by decide) wf_X12_23 rfl dX12_ties_59 ?_
  refine z_iconst (v := 3) b dX12_ties_62 (by decide) ?_
  refine z_iload_n b dX12_ties_63 rfl rfl ?_
  refine z_imul b dX12_ties_64 rfl ?_
  refine z_iload b dX12_ties_65 rfl ?_
  refine z_iadd b dX12_ties_67 rfl ?_
  refine z_iload_n b dX12_ties_68 rfl rfl ?_
  refine z_iconst (v := 4) b dX12_ties_69 (by decide) ?_
  refine y_icmp_ne (tgt := 77) (xl := x2.toInt) (yl := 4) b rfl (by decide) dX12_ties_70 (by decide) (fun c1 => ?_) (fun c1 => ?_)
  · replace h := h.1 c1
    refine z_iconst (v := 0) b dX12_ties_77 (by decide) ?_
    exact z_X12_ties_B78 b _ _ _ _ _ _ h
  · replace h := h.2 c1
    refine z_iconst (v := 1) b dX12_ties_73 (by decide) ?_
    refine z_goto (tgt := 78) b dX12_ties_74 (by decide) ?_
    exact z_X12_ties_B78 b _ _ _ _ _ _ h

def w_X12_ties_B48 (post : GS → Prop) (S : GS) (x2 : Int32) (x3 : Int32) (x4 : Int32) : Prop :=
  ((x2.toInt = 4 → w_X12_ties_B58 post S x2 x3 x4) ∧ (x2.toInt ≠ 4 → ((x2.toInt ≠ 5 → w_X12_ties_B101 post S x2 x3 x4) ∧ (x2.toInt = 5 → w_X12_ties_B58 post S x2 x3 x4))))

set_option maxHeartbeats 4000000 in
set_option maxRecDepth 100000 in
theorem z_X12_ties_B48 {p : Program} {l : Launch} {e : Env} {R : Room} {s : State} {m : MethodId} {args : Array Value} {below : List Frame} {meth : Method} {c : Code} {D : va_G} {cy : Nat → ClassId} {T0 tB tE : Nat} {A : Nat → Prop} {a : Nat → Nat} {post : GS → Prop} (b : Bz p R s m args meth c D cy T0 tB tE A 5 cX12_ties RX12 none "ties" 1 21 0 0) (S : GS) (x2 : Int32) (x3 : Int32) (x4 : Int32) (h : w_X12_ties_B48 post S x2 x3 x4) : Z p l e R s m args below meth c D A 5 (MQ below (QV D (U := GS) post (mw cy a) A) args s 0 0 A) 0 0 (mw cy a S) [(0, .ref (a 0)), (2, .int x2), (3, .int x3), (4, .int x4)] 48 [] := by
  unfold w_X12_ties_B48 at h
  refine z_iload_n b dX12_ties_48 rfl rfl ?_
  refine z_iconst (v := 4) b dX12_ties_49 (by decide) ?_
  refine y_icmp_eq (tgt := 58) (xl := x2.toInt) (yl := 4) b rfl (by decide) dX12_ties_50 (by decide) (fun c1 => ?_) (fun c1 => ?_)
  · replace h := h.1 c1
    exact z_X12_ties_B58 b _ _ _ _ h
  · replace h := h.2 c1
    refine z_iload_n b dX12_ties_53 rfl rfl ?_
    refine z_iconst (v := 5) b dX12_ties_54 (by decide) ?_
    refine y_icmp_ne (tgt := 101) (xl := x2.toInt) (yl := 5) b rfl (by decide) dX12_ties_55 (by decide) (fun c1 => ?_) (fun c1 => ?_)
    · replace h := h.1 c1
      exact z_X12_ties_B101 b _ _ _ _ h
    · replace h := h.2 c1
      exact z_X12_ties_B58 b _ _ _ _ h

def w_X12_ties (S : GS) (p0 : Int32) (post : GS → Prop) : Prop :=
  (0 ≤ p0.toInt ∧ p0.toInt < 108) ∧ (0 ≤ p0.toInt ∧ p0.toInt < 108) ∧ w_X12_stood S ((ar S 13) p0.toNatClampNeg) (fun r3 S4 => (0 ≤ p0.toInt ∧ p0.toInt < 108) ∧ w_X12_stood S4 ((ar S4 14) p0.toNatClampNeg) (fun r6 S7 => (((((ar S 12) p0.toNatClampNeg) - ((ar S 12) p0.toNatClampNeg) / 100 * 100).toInt ≠ 2 → w_X12_ties_B48 post S7 (((ar S 12) p0.toNatClampNeg) - ((ar S 12) p0.toNatClampNeg) / 100 * 100) r3 r6) ∧ ((((ar S 12) p0.toNatClampNeg) - ((ar S 12) p0.toNatClampNeg) / 100 * 100).toInt = 2 → (0 ≤ (fi S7 20).toInt ∧ (fi S7 20).toInt < 3) ∧ w_X12_ties_B48 post (su S7 2 ((fi S7 20).toNatClampNeg) r3) (((ar S 12) p0.toNatClampNeg) - ((ar S 12) p0.toNatClampNeg) / 100 * 100) r3 r6))))

set_option maxHeartbeats 4000000 in
set_option maxRecDepth 100000 in
theorem k_X12_ties {l : Launch} {D : va_G} {cy : Nat → ClassId} {T0 tB tE : Nat} {a : Nat → Nat} (S : GS) (p0 : Int32) (post : GS → Prop) (h : w_X12_ties S p0 post) : Ct l D cy T0 tB tE yX12_ties cX12_ties 5 none 1 21 0 0 (mw cy a S) [.ref (a 0), .int p0] (QV D (U := GS) post (mw cy a)) := by
  refine Ct.ofZ RX12 "ties" [(0, .ref (a 0)), (1, .int p0)] rfl rfl rfl rfl (Nat.le_of_ble_eq_true rfl) ?_
  intro p e R s m args below meth c A b
  unfold w_X12_ties at h
  refine z_aload_n b dX12_ties_0 rfl rfl ?_
  refine z_get (q0 := 0) (k9 := 14) (v := .ref (a 13)) b (mw_0 cy a S) rfl in_X12 (by decide) wf_X12_51 rfl dX12_ties_1 ?_
  refine z_iload_n b dX12_ties_4 rfl rfl ?_
  obtain ⟨g1, h⟩ := h
  refine y_iald (q0 := 13) (j := p0.toNatClampNeg) (v := ((ar S 12) p0.toNatClampNeg)) b (mw_13 cy a S) (zx_r g1.1 g1.2) rfl dX12_ties_5 ?_
  refine z_bipush (v := 100) b dX12_ties_6 (by decide) ?_
  refine z_irem b dX12_ties_8 (by decide) rfl ?_
  refine z_istore_n (lv' := [(2, .int (((ar S 12) p0.toNatClampNeg) - ((ar S 12) p0.toNatClampNeg) / 100 * 100)), (0, .ref (a 0)), (1, .int p0)]) b dX12_ties_9 rfl (by decide) rfl ?_
  refine z_aload_n b dX12_ties_10 rfl rfl ?_
  refine z_aload_n b dX12_ties_11 rfl rfl ?_
  refine z_get (q0 := 0) (k9 := 15) (v := .ref (a 14)) b (mw_0 cy a S) rfl in_X12 (by decide) wf_X12_54 rfl dX12_ties_12 ?_
  refine z_iload_n b dX12_ties_15 rfl rfl ?_
  obtain ⟨g2, h⟩ := h
  refine y_iald (q0 := 14) (j := p0.toNatClampNeg) (v := ((ar S 13) p0.toNatClampNeg)) b (mw_14 cy a S) (zx_r g2.1 g2.2) rfl dX12_ties_16 ?_
  refine z_calli b (z_runV (q0 := 0) (As := [.int ((ar S 13) p0.toNatClampNeg)]) (st := []) b (k_X12_stood S ((ar S 13) p0.toNatClampNeg) _ h) cf_X12_stood (mw_0 cy a S) rfl wm_X12_383 wi_X12_stood ws_X12_stood dX12_ties_17 rfl (Nat.le_of_ble_eq_true rfl) ⟨by decide, by decide, by decide, by decide⟩) (fun r3 S4 h => ?_)
  refine z_istore_n (lv' := [(3, .int r3), (2, .int (((ar S 12) p0.toNatClampNeg) - ((ar S 12) p0.toNatClampNeg) / 100 * 100)), (0, .ref (a 0)), (1, .int p0)]) b dX12_ties_20 rfl (by decide) rfl ?_
  refine z_aload_n b dX12_ties_21 rfl rfl ?_
  refine z_aload_n b dX12_ties_22 rfl rfl ?_
  refine z_get (q0 := 0) (k9 := 16) (v := .ref (a 15)) b (mw_0 cy a S4) rfl in_X12 (by decide) wf_X12_57 rfl dX12_ties_23 ?_
  refine z_iload_n b dX12_ties_26 rfl rfl ?_
  obtain ⟨g5, h⟩ := h
  refine y_iald (q0 := 15) (j := p0.toNatClampNeg) (v := ((ar S4 14) p0.toNatClampNeg)) b (mw_15 cy a S4) (zx_r g5.1 g5.2) rfl dX12_ties_27 ?_
  refine z_calli b (z_runV (q0 := 0) (As := [.int ((ar S4 14) p0.toNatClampNeg)]) (st := []) b (k_X12_stood S4 ((ar S4 14) p0.toNatClampNeg) _ h) cf_X12_stood (mw_0 cy a S4) rfl wm_X12_383 wi_X12_stood ws_X12_stood dX12_ties_28 rfl (Nat.le_of_ble_eq_true rfl) ⟨by decide, by decide, by decide, by decide⟩) (fun r6 S7 h => ?_)
  refine z_istore (lv' := [(4, .int r6), (3, .int r3), (2, .int (((ar S 12) p0.toNatClampNeg) - ((ar S 12) p0.toNatClampNeg) / 100 * 100)), (0, .ref (a 0)), (1, .int p0)]) b dX12_ties_31 (by decide) rfl ?_
  refine z_iload_n b dX12_ties_33 rfl rfl ?_
  refine z_iconst (v := 2) b dX12_ties_34 (by decide) ?_
  refine y_icmp_ne (tgt := 48) (xl := (((ar S 12) p0.toNatClampNeg) - ((ar S 12) p0.toNatClampNeg) / 100 * 100).toInt) (yl := 2) b rfl (by decide) dX12_ties_35 (by decide) (fun c1 => ?_) (fun c1 => ?_)
  · replace h := h.1 c1
    refine z_lv0 (lv' := [(0, .ref (a 0)), (2, .int (((ar S 12) p0.toNatClampNeg) - ((ar S 12) p0.toNatClampNeg) / 100 * 100)), (3, .int r3), (4, .int r6)]) [3, 2, 1, 0] rfl ?_
    exact z_X12_ties_B48 b _ _ _ _ h
  · replace h := h.2 c1
    refine z_aload_n b dX12_ties_38 rfl rfl ?_
    refine z_get (q0 := 0) (k9 := 2) (v := .ref (a 3)) b (mw_0 cy a S7) rfl in_X12 (by decide) wf_X12_20 rfl dX12_ties_39 ?_
    refine z_aload_n b dX12_ties_42 rfl rfl ?_
    refine z_get (q0 := 0) (k9 := 45) (v := .int (fi S7 20)) b (mw_0 cy a S7) rfl in_X12 (by decide) wf_X12_370 rfl dX12_ties_43 ?_
    refine z_iload_n b dX12_ties_46 rfl rfl ?_
    obtain ⟨g14, h⟩ := h
    refine y_iast (q0 := 3) (j := (fi S7 20).toNatClampNeg) b (mw_3 cy a S7) (zx_r g14.1 g14.2) dX12_ties_47 (mwa_3 cy a S7 ((fi S7 20).toNatClampNeg) r3) ?_
    refine z_lv0 (lv' := [(0, .ref (a 0)), (2, .int (((ar S 12) p0.toNatClampNeg) - ((ar S 12) p0.toNatClampNeg) / 100 * 100)), (3, .int r3), (4, .int r6)]) [3, 2, 1, 0] rfl ?_
    exact z_X12_ties_B48 b _ _ _ _ h

def w_X12_makes_F7 (post : Int32 → GS → Prop) (k30 : GS → Int32 → Int32 → Prop) (k7 : GS → Int32 → Int32 → Int32 → Prop) (S : GS) (x1 : Int32) (x2 : Int32) (x3 : Int32) : Prop :=
  ((3 ≤ x3.toInt → k30 S x1 x2) ∧ (x3.toInt < 3 → (0 ≤ x3.toInt ∧ x3.toInt < 3) ∧ (0 ≤ x3.toInt ∧ x3.toInt < 3) ∧ k7 (su S 24 (x3.toNatClampNeg) ((ar S 0) x3.toNatClampNeg)) x1 x2 (x3 + 1)))

set_option maxHeartbeats 4000000 in
set_option maxRecDepth 100000 in
theorem z_X12_makes_F7 {p : Program} {l : Launch} {e : Env} {R : Room} {s : State} {m : MethodId} {args : Array Value} {below : List Frame} {meth : Method} {c : Code} {D : va_G} {cy : Nat → ClassId} {T0 tB tE : Nat} {A : Nat → Prop} {a : Nat → Nat} {post : Int32 → GS → Prop} {k30 : GS → Int32 → Int32 → Prop} {k7 : GS → Int32 → Int32 → Int32 → Prop} (b : Bz p R s m args meth c D cy T0 tB tE A 8 cX12_makes RX12 (some .boolean) "makes" 2 54 0 0) (hk30 : ∀ (S : GS) (x1 : Int32) (x2 : Int32), k30 S x1 x2 → Z p l e R s m args below meth c D A 8 (MQ below (QI D (U := GS) post (mw cy a) A) args s 0 0 A) 0 0 (mw cy a S) [(0, .ref (a 0)), (1, .int x1), (2, .int x2)] 30 []) (hk7 : ∀ (S : GS) (x1 : Int32) (x2 : Int32) (x3 : Int32), k7 S x1 x2 x3 → Z p l e R s m args below meth c D A 8 (MQ below (QI D (U := GS) post (mw cy a) A) args s 0 0 A) 0 0 (mw cy a S) [(0, .ref (a 0)), (1, .int x1), (2, .int x2), (3, .int x3)] 7 []) (S : GS) (x1 : Int32) (x2 : Int32) (x3 : Int32) (h : w_X12_makes_F7 post k30 k7 S x1 x2 x3) : Z p l e R s m args below meth c D A 8 (MQ below (QI D (U := GS) post (mw cy a) A) args s 0 0 A) 0 0 (mw cy a S) [(0, .ref (a 0)), (1, .int x1), (2, .int x2), (3, .int x3)] 7 [] := by
  unfold w_X12_makes_F7 at h
  refine z_iload_n b dX12_makes_7 rfl rfl ?_
  refine z_iconst (v := 3) b dX12_makes_8 (by decide) ?_
  refine y_icmp_ge (tgt := 30) (xl := x3.toInt) (yl := 3) b rfl (by decide) dX12_makes_9 (by decide) (fun c1 => ?_) (fun c1 => ?_)
  · replace h := h.1 c1
    refine z_lv0 (lv' := [(0, .ref (a 0)), (1, .int x1), (2, .int x2)]) [0, 1, 2] rfl ?_
    exact hk30 _ _ _ h
  · replace h := h.2 c1
    refine z_aload_n b dX12_makes_12 rfl rfl ?_
    refine z_get (q0 := 0) (k9 := 47) (v := .ref (a 25)) b (mw_0 cy a S) rfl in_X12 (by decide) wf_X12_91 rfl dX12_makes_13 ?_
    refine z_iload_n b dX12_makes_16 rfl rfl ?_
    refine z_aload_n b dX12_makes_17 rfl rfl ?_
    refine z_get (q0 := 0) (k9 := 0) (v := .ref (a 1)) b (mw_0 cy a S) rfl in_X12 (by decide) wf_X12_13 rfl dX12_makes_18 ?_
    refine z_iload_n b dX12_makes_21 rfl rfl ?_
    obtain ⟨g1, h⟩ := h
    refine y_iald (q0 := 1) (j := x3.toNatClampNeg) (v := ((ar S 0) x3.toNatClampNeg)) b (mw_1 cy a S) (zx_r g1.1 g1.2) rfl dX12_makes_22 ?_
    obtain ⟨g2, h⟩ := h
    refine y_iast (q0 := 25) (j := x3.toNatClampNeg) b (mw_25 cy a S) (zx_r g2.1 g2.2) dX12_makes_23 (mwa_25 cy a S (x3.toNatClampNeg) ((ar S 0) x3.toNatClampNeg)) ?_
    refine z_iinc (k9 := 3) (v := (x3 + 1)) (lv' := [(3, .int (x3 + 1)), (0, .ref (a 0)), (1, .int x1), (2, .int x2)]) b dX12_makes_24 rfl rfl (by decide) rfl ?_
    refine z_goto (tgt := 7) b dX12_makes_27 (by decide) ?_
    refine z_lv0 (lv' := [(0, .ref (a 0)), (1, .int x1), (2, .int x2), (3, .int (x3 + 1))]) [1, 2, 3, 0] rfl ?_
    exact hk7 _ _ _ _ h

set_option maxHeartbeats 4000000 in
set_option maxRecDepth 100000 in
theorem zl_X12_makes_L7 {p : Program} {l : Launch} {e : Env} {R : Room} {s : State} {m : MethodId} {args : Array Value} {below : List Frame} {meth : Method} {c : Code} {D : va_G} {cy : Nat → ClassId} {T0 tB tE : Nat} {A : Nat → Prop} {a : Nat → Nat} {post : Int32 → GS → Prop} {k30 : GS → Int32 → Int32 → Prop} (b : Bz p R s m args meth c D cy T0 tB tE A 8 cX12_makes RX12 (some .boolean) "makes" 2 54 0 0) (hk30 : ∀ (S : GS) (x1 : Int32) (x2 : Int32), k30 S x1 x2 → Z p l e R s m args below meth c D A 8 (MQ below (QI D (U := GS) post (mw cy a) A) args s 0 0 A) 0 0 (mw cy a S) [(0, .ref (a 0)), (1, .int x1), (2, .int x2)] 30 []) : ∀ (n : Nat) (S : GS) (x1 : Int32) (x2 : Int32) (x3 : Int32), lpn (w_X12_makes_F7 post k30) (fun _ _ _ _ => False) n S x1 x2 x3 → Z p l e R s m args below meth c D A 8 (MQ below (QI D (U := GS) post (mw cy a) A) args s 0 0 A) 0 0 (mw cy a S) [(0, .ref (a 0)), (1, .int x1), (2, .int x2), (3, .int x3)] 7 [] := by
  intro n
  induction n with
  | zero => intro _ _ _ _ h; exact h.elim
  | succ n ih => intro S x1 x2 x3 h; exact z_X12_makes_F7 b hk30 ih S x1 x2 x3 h

def w_X12_makes_F32 (post : Int32 → GS → Prop) (k56 : GS → Int32 → Int32 → Prop) (k32 : GS → Int32 → Int32 → Int32 → Prop) (S : GS) (x1 : Int32) (x2 : Int32) (x3 : Int32) : Prop :=
  ((9 ≤ x3.toInt → k56 S x1 x2) ∧ (x3.toInt < 9 → (0 ≤ x3.toInt ∧ x3.toInt < 9) ∧ (0 ≤ x3.toInt ∧ x3.toInt < 9) ∧ k32 (su S 25 (x3.toNatClampNeg) ((ar S 1) x3.toNatClampNeg)) x1 x2 (x3 + 1)))

set_option maxHeartbeats 4000000 in
set_option maxRecDepth 100000 in
theorem z_X12_makes_F32 {p : Program} {l : Launch} {e : Env} {R : Room} {s : State} {m : MethodId} {args : Array Value} {below : List Frame} {meth : Method} {c : Code} {D : va_G} {cy : Nat → ClassId} {T0 tB tE : Nat} {A : Nat → Prop} {a : Nat → Nat} {post : Int32 → GS → Prop} {k56 : GS → Int32 → Int32 → Prop} {k32 : GS → Int32 → Int32 → Int32 → Prop} (b : Bz p R s m args meth c D cy T0 tB tE A 8 cX12_makes RX12 (some .boolean) "makes" 2 54 0 0) (hk56 : ∀ (S : GS) (x1 : Int32) (x2 : Int32), k56 S x1 x2 → Z p l e R s m args below meth c D A 8 (MQ below (QI D (U := GS) post (mw cy a) A) args s 0 0 A) 0 0 (mw cy a S) [(0, .ref (a 0)), (1, .int x1), (2, .int x2)] 56 []) (hk32 : ∀ (S : GS) (x1 : Int32) (x2 : Int32) (x3 : Int32), k32 S x1 x2 x3 → Z p l e R s m args below meth c D A 8 (MQ below (QI D (U := GS) post (mw cy a) A) args s 0 0 A) 0 0 (mw cy a S) [(0, .ref (a 0)), (1, .int x1), (2, .int x2), (3, .int x3)] 32 []) (S : GS) (x1 : Int32) (x2 : Int32) (x3 : Int32) (h : w_X12_makes_F32 post k56 k32 S x1 x2 x3) : Z p l e R s m args below meth c D A 8 (MQ below (QI D (U := GS) post (mw cy a) A) args s 0 0 A) 0 0 (mw cy a S) [(0, .ref (a 0)), (1, .int x1), (2, .int x2), (3, .int x3)] 32 [] := by
  unfold w_X12_makes_F32 at h
  refine z_iload_n b dX12_makes_32 rfl rfl ?_
  refine z_bipush (v := 9) b dX12_makes_33 (by decide) ?_
  refine y_icmp_ge (tgt := 56) (xl := x3.toInt) (yl := 9) b rfl (by decide) dX12_makes_35 (by decide) (fun c1 => ?_) (fun c1 => ?_)
  · replace h := h.1 c1
    refine z_lv0 (lv' := [(0, .ref (a 0)), (1, .int x1), (2, .int x2)]) [0, 1, 2] rfl ?_
    exact hk56 _ _ _ h
  · replace h := h.2 c1
    refine z_aload_n b dX12_makes_38 rfl rfl ?_
    refine z_get (q0 := 0) (k9 := 48) (v := .ref (a 26)) b (mw_0 cy a S) rfl in_X12 (by decide) wf_X12_94 rfl dX12_makes_39 ?_
    refine z_iload_n b dX12_makes_42 rfl rfl ?_
    refine z_aload_n b dX12_makes_43 rfl rfl ?_
    refine z_get (q0 := 0) (k9 := 1) (v := .ref (a 2)) b (mw_0 cy a S) rfl in_X12 (by decide) wf_X12_17 rfl dX12_makes_44 ?_
    refine z_iload_n b dX12_makes_47 rfl rfl ?_
    obtain ⟨g3, h⟩ := h
    refine y_iald (q0 := 2) (j := x3.toNatClampNeg) (v := ((ar S 1) x3.toNatClampNeg)) b (mw_2 cy a S) (zx_r g3.1 g3.2) rfl dX12_makes_48 ?_
    obtain ⟨g4, h⟩ := h
    refine y_iast (q0 := 26) (j := x3.toNatClampNeg) b (mw_26 cy a S) (zx_r g4.1 g4.2) dX12_makes_49 (mwa_26 cy a S (x3.toNatClampNeg) ((ar S 1) x3.toNatClampNeg)) ?_
    refine z_iinc (k9 := 3) (v := (x3 + 1)) (lv' := [(3, .int (x3 + 1)), (0, .ref (a 0)), (1, .int x1), (2, .int x2)]) b dX12_makes_50 rfl rfl (by decide) rfl ?_
    refine z_goto (tgt := 32) b dX12_makes_53 (by decide) ?_
    refine z_lv0 (lv' := [(0, .ref (a 0)), (1, .int x1), (2, .int x2), (3, .int (x3 + 1))]) [1, 2, 3, 0] rfl ?_
    exact hk32 _ _ _ _ h

set_option maxHeartbeats 4000000 in
set_option maxRecDepth 100000 in
theorem zl_X12_makes_L32 {p : Program} {l : Launch} {e : Env} {R : Room} {s : State} {m : MethodId} {args : Array Value} {below : List Frame} {meth : Method} {c : Code} {D : va_G} {cy : Nat → ClassId} {T0 tB tE : Nat} {A : Nat → Prop} {a : Nat → Nat} {post : Int32 → GS → Prop} {k56 : GS → Int32 → Int32 → Prop} (b : Bz p R s m args meth c D cy T0 tB tE A 8 cX12_makes RX12 (some .boolean) "makes" 2 54 0 0) (hk56 : ∀ (S : GS) (x1 : Int32) (x2 : Int32), k56 S x1 x2 → Z p l e R s m args below meth c D A 8 (MQ below (QI D (U := GS) post (mw cy a) A) args s 0 0 A) 0 0 (mw cy a S) [(0, .ref (a 0)), (1, .int x1), (2, .int x2)] 56 []) : ∀ (n : Nat) (S : GS) (x1 : Int32) (x2 : Int32) (x3 : Int32), lpn (w_X12_makes_F32 post k56) (fun _ _ _ _ => False) n S x1 x2 x3 → Z p l e R s m args below meth c D A 8 (MQ below (QI D (U := GS) post (mw cy a) A) args s 0 0 A) 0 0 (mw cy a S) [(0, .ref (a 0)), (1, .int x1), (2, .int x2), (3, .int x3)] 32 [] := by
  intro n
  induction n with
  | zero => intro _ _ _ _ h; exact h.elim
  | succ n ih => intro S x1 x2 x3 h; exact z_X12_makes_F32 b hk56 ih S x1 x2 x3 h

def w_X12_makes_B232 (post : Int32 → GS → Prop) (k64 : GS → Int32 → Int32 → Int32 → Int32 → Prop) (k238 : GS → Int32 → Int32 → Prop) (S : GS) (x1 : Int32) (x2 : Int32) (x3 : Int32) (x4 : Int32) : Prop :=
  k64 S x1 x2 x3 (x4 + 1)

set_option maxHeartbeats 4000000 in
set_option maxRecDepth 100000 in
theorem z_X12_makes_B232 {p : Program} {l : Launch} {e : Env} {R : Room} {s : State} {m : MethodId} {args : Array Value} {below : List Frame} {meth : Method} {c : Code} {D : va_G} {cy : Nat → ClassId} {T0 tB tE : Nat} {A : Nat → Prop} {a : Nat → Nat} {post : Int32 → GS → Prop} {k64 : GS → Int32 → Int32 → Int32 → Int32 → Prop} {k238 : GS → Int32 → Int32 → Prop} (b : Bz p R s m args meth c D cy T0 tB tE A 8 cX12_makes RX12 (some .boolean) "makes" 2 54 0 0) (hk64 : ∀ (S : GS) (x1 : Int32) (x2 : Int32) (x3 : Int32) (x4 : Int32), k64 S x1 x2 x3 x4 → Z p l e R s m args below meth c D A 8 (MQ below (QI D (U := GS) post (mw cy a) A) args s 0 0 A) 0 0 (mw cy a S) [(0, .ref (a 0)), (1, .int x1), (2, .int x2), (3, .int x3), (4, .int x4)] 64 []) (hk238 : ∀ (S : GS) (x1 : Int32) (x3 : Int32), k238 S x1 x3 → Z p l e R s m args below meth c D A 8 (MQ below (QI D (U := GS) post (mw cy a) A) args s 0 0 A) 0 0 (mw cy a S) [(0, .ref (a 0)), (1, .int x1), (3, .int x3)] 238 []) (S : GS) (x1 : Int32) (x2 : Int32) (x3 : Int32) (x4 : Int32) (h : w_X12_makes_B232 post k64 k238 S x1 x2 x3 x4) : Z p l e R s m args below meth c D A 8 (MQ below (QI D (U := GS) post (mw cy a) A) args s 0 0 A) 0 0 (mw cy a S) [(0, .ref (a 0)), (1, .int x1), (2, .int x2), (3, .int x3), (4, .int x4)] 232 [] := by
  unfold w_X12_makes_B232 at h
  refine z_iinc (k9 := 4) (v := (x4 + 1)) (lv' := [(4, .int (x4 + 1)), (0, .ref (a 0)), (1, .int x1), (2, .int x2), (3, .int x3)]) b dX12_makes_232 rfl rfl (by decide) rfl ?_
  refine z_goto (tgt := 64) b dX12_makes_235 (by decide) ?_
  refine z_lv0 (lv' := [(0, .ref (a 0)), (1, .int x1), (2, .int x2), (3, .int x3), (4, .int (x4 + 1))]) [1, 2, 3, 4, 0] rfl ?_
  exact hk64 _ _ _ _ _ h

def w_X12_makes_B154 (post : Int32 → GS → Prop) (k64 : GS → Int32 → Int32 → Int32 → Int32 → Prop) (k238 : GS → Int32 → Int32 → Prop) (S : GS) (x1 : Int32) (x2 : Int32) (x3 : Int32) (x4 : Int32) (x5 : Int32) (x6 : Int32) (x7 : Int32) : Prop :=
  ((x6.toInt ≠ 0 → ((x6.toInt ≠ 1 → w_X12_makes_B232 post k64 k238 S x1 x2 (x3 + x7) x4) ∧ (x6.toInt = 1 → (0 ≤ x5.toInt ∧ x5.toInt < 108) ∧ w_X12_stood S ((ar S 13) x5.toNatClampNeg) (fun r15 S16 => (0 ≤ x5.toInt ∧ x5.toInt < 108) ∧ w_X12_stood S16 ((ar S16 14) x5.toNatClampNeg) (fun r18 S19 => (0 ≤ (((3 : Int32) * r15) + r18).toInt ∧ (((3 : Int32) * r15) + r18).toInt < 9) ∧ (0 ≤ (((3 : Int32) * r15) + r18).toInt ∧ (((3 : Int32) * r15) + r18).toInt < 9) ∧ w_X12_makes_B232 post k64 k238 (su S19 25 ((((3 : Int32) * r15) + r18).toNatClampNeg) (((ar S19 25) (((3 : Int32) * r15) + r18).toNatClampNeg) + x7)) x1 x2 x3 x4))))) ∧ (x6.toInt = 0 → (0 ≤ x5.toInt ∧ x5.toInt < 108) ∧ w_X12_stood S ((ar S 13) x5.toNatClampNeg) (fun r23 S24 => (0 ≤ r23.toInt ∧ r23.toInt < 3) ∧ (0 ≤ r23.toInt ∧ r23.toInt < 3) ∧ w_X12_makes_B232 post k64 k238 (su S24 24 (r23.toNatClampNeg) (((ar S24 24) r23.toNatClampNeg) + x7)) x1 x2 x3 x4)))

set_option maxHeartbeats 4000000 in
set_option maxRecDepth 100000 in
theorem z_X12_makes_B154 {p : Program} {l : Launch} {e : Env} {R : Room} {s : State} {m : MethodId} {args : Array Value} {below : List Frame} {meth : Method} {c : Code} {D : va_G} {cy : Nat → ClassId} {T0 tB tE : Nat} {A : Nat → Prop} {a : Nat → Nat} {post : Int32 → GS → Prop} {k64 : GS → Int32 → Int32 → Int32 → Int32 → Prop} {k238 : GS → Int32 → Int32 → Prop} (b : Bz p R s m args meth c D cy T0 tB tE A 8 cX12_makes RX12 (some .boolean) "makes" 2 54 0 0) (hk64 : ∀ (S : GS) (x1 : Int32) (x2 : Int32) (x3 : Int32) (x4 : Int32), k64 S x1 x2 x3 x4 → Z p l e R s m args below meth c D A 8 (MQ below (QI D (U := GS) post (mw cy a) A) args s 0 0 A) 0 0 (mw cy a S) [(0, .ref (a 0)), (1, .int x1), (2, .int x2), (3, .int x3), (4, .int x4)] 64 []) (hk238 : ∀ (S : GS) (x1 : Int32) (x3 : Int32), k238 S x1 x3 → Z p l e R s m args below meth c D A 8 (MQ below (QI D (U := GS) post (mw cy a) A) args s 0 0 A) 0 0 (mw cy a S) [(0, .ref (a 0)), (1, .int x1), (3, .int x3)] 238 []) (S : GS) (x1 : Int32) (x2 : Int32) (x3 : Int32) (x4 : Int32) (x5 : Int32) (x6 : Int32) (x7 : Int32) (h : w_X12_makes_B154 post k64 k238 S x1 x2 x3 x4 x5 x6 x7) : Z p l e R s m args below meth c D A 8 (MQ below (QI D (U := GS) post (mw cy a) A) args s 0 0 A) 0 0 (mw cy a S) [(0, .ref (a 0)), (1, .int x1), (2, .int x2), (3, .int x3), (4, .int x4), (5, .int x5), (6, .int x6), (7, .int x7)] 154 [] := by
  unfold w_X12_makes_B154 at h
  refine z_iload b dX12_makes_154 rfl ?_
  refine y_if_ne (tgt := 183) (xl := x6.toInt) b rfl dX12_makes_156 (by decide) (fun c1 => ?_) (fun c1 => ?_)
  · replace h := h.1 c1
    refine z_iload b dX12_makes_183 rfl ?_
    refine z_iconst (v := 1) b dX12_makes_185 (by decide) ?_
    refine y_icmp_ne (tgt := 227) (xl := x6.toInt) (yl := 1) b rfl (by decide) dX12_makes_186 (by decide) (fun c1 => ?_) (fun c1 => ?_)
    · replace h := h.1 c1
      refine z_iload_n b dX12_makes_227 rfl rfl ?_
      refine z_iload b dX12_makes_228 rfl ?_
      refine z_iadd b dX12_makes_230 rfl ?_
      refine z_istore_n (lv' := [(3, .int (x3 + x7)), (0, .ref (a 0)), (1, .int x1), (2, .int x2), (4, .int x4), (5, .int x5), (6, .int x6), (7, .int x7)]) b dX12_makes_231 rfl (by decide) rfl ?_
      refine z_lv0 (lv' := [(0, .ref (a 0)), (1, .int x1), (2, .int x2), (3, .int (x3 + x7)), (4, .int x4)]) [1, 2, 3, 0, 4] rfl ?_
      exact z_X12_makes_B232 b hk64 hk238 _ _ _ _ _ h
    · replace h := h.2 c1
      refine z_aload_n b dX12_makes_189 rfl rfl ?_
      refine z_get (q0 := 0) (k9 := 48) (v := .ref (a 26)) b (mw_0 cy a S) rfl in_X12 (by decide) wf_X12_94 rfl dX12_makes_190 ?_
      refine z_iconst (v := 3) b dX12_makes_193 (by decide) ?_
      refine z_aload_n b dX12_makes_194 rfl rfl ?_
      refine z_aload_n b dX12_makes_195 rfl rfl ?_
      refine z_get (q0 := 0) (k9 := 15) (v := .ref (a 14)) b (mw_0 cy a S) rfl in_X12 (by decide) wf_X12_54 rfl dX12_makes_196 ?_
      refine z_iload b dX12_makes_199 rfl ?_
      obtain ⟨g14, h⟩ := h
      refine y_iald (q0 := 14) (j := x5.toNatClampNeg) (v := ((ar S 13) x5.toNatClampNeg)) b (mw_14 cy a S) (zx_r g14.1 g14.2) rfl dX12_makes_201 ?_
      refine z_calli b (z_runV (q0 := 0) (As := [.int ((ar S 13) x5.toNatClampNeg)]) (st := [.int 3, .ref (a 26)]) b (k_X12_stood S ((ar S 13) x5.toNatClampNeg) _ h) cf_X12_stood (mw_0 cy a S) rfl wm_X12_383 wi_X12_stood ws_X12_stood dX12_makes_202 rfl (Nat.le_of_ble_eq_true rfl) ⟨by decide, by decide, by decide, by decide⟩) (fun r15 S16 h => ?_)
      refine z_imul b dX12_makes_205 rfl ?_
      refine z_aload_n b dX12_makes_206 rfl rfl ?_
      refine z_aload_n b dX12_makes_207 rfl rfl ?_
      refine z_get (q0 := 0) (k9 := 16) (v := .ref (a 15)) b (mw_0 cy a S16) rfl in_X12 (by decide) wf_X12_57 rfl dX12_makes_208 ?_
      refine z_iload b dX12_makes_211 rfl ?_
      obtain ⟨g17, h⟩ := h
      refine y_iald (q0 := 15) (j := x5.toNatClampNeg) (v := ((ar S16 14) x5.toNatClampNeg)) b (mw_15 cy a S16) (zx_r g17.1 g17.2) rfl dX12_makes_213 ?_
      refine z_calli b (z_runV (q0 := 0) (As := [.int ((ar S16 14) x5.toNatClampNeg)]) (st := [.int ((3 : Int32) * r15), .ref (a 26)]) b (k_X12_stood S16 ((ar S16 14) x5.toNatClampNeg) _ h) cf_X12_stood (mw_0 cy a S16) rfl wm_X12_383 wi_X12_stood ws_X12_stood dX12_makes_214 rfl (Nat.le_of_ble_eq_true rfl) ⟨by decide, by decide, by decide, by decide⟩) (fun r18 S19 h => ?_)
      refine z_iadd b dX12_makes_217 rfl ?_
      refine z_dup2 b dX12_makes_218 rfl rfl ?_
      obtain ⟨g20, h⟩ := h
      refine y_iald (q0 := 26) (j := (((3 : Int32) * r15) + r18).toNatClampNeg) (v := ((ar S19 25) (((3 : Int32) * r15) + r18).toNatClampNeg)) b (mw_26 cy a S19) (zx_r g20.1 g20.2) rfl dX12_makes_219 ?_
      refine z_iload b dX12_makes_220 rfl ?_
      refine z_iadd b dX12_makes_222 rfl ?_
      obtain ⟨g21, h⟩ := h
      refine y_iast (q0 := 26) (j := (((3 : Int32) * r15) + r18).toNatClampNeg) b (mw_26 cy a S19) (zx_r g21.1 g21.2) dX12_makes_223 (mwa_26 cy a S19 ((((3 : Int32) * r15) + r18).toNatClampNeg) (((ar S19 25) (((3 : Int32) * r15) + r18).toNatClampNeg) + x7)) ?_
      refine z_goto (tgt := 232) b dX12_makes_224 (by decide) ?_
      refine z_lv0 (lv' := [(0, .ref (a 0)), (1, .int x1), (2, .int x2), (3, .int x3), (4, .int x4)]) [0, 1, 2, 3, 4] rfl ?_
      exact z_X12_makes_B232 b hk64 hk238 _ _ _ _ _ h
  · replace h := h.2 c1
    refine z_aload_n b dX12_makes_159 rfl rfl ?_
    refine z_get (q0 := 0) (k9 := 47) (v := .ref (a 25)) b (mw_0 cy a S) rfl in_X12 (by decide) wf_X12_91 rfl dX12_makes_160 ?_
    refine z_aload_n b dX12_makes_163 rfl rfl ?_
    refine z_aload_n b dX12_makes_164 rfl rfl ?_
    refine z_get (q0 := 0) (k9 := 15) (v := .ref (a 14)) b (mw_0 cy a S) rfl in_X12 (by decide) wf_X12_54 rfl dX12_makes_165 ?_
    refine z_iload b dX12_makes_168 rfl ?_
    obtain ⟨g22, h⟩ := h
    refine y_iald (q0 := 14) (j := x5.toNatClampNeg) (v := ((ar S 13) x5.toNatClampNeg)) b (mw_14 cy a S) (zx_r g22.1 g22.2) rfl dX12_makes_170 ?_
    refine z_calli b (z_runV (q0 := 0) (As := [.int ((ar S 13) x5.toNatClampNeg)]) (st := [.ref (a 25)]) b (k_X12_stood S ((ar S 13) x5.toNatClampNeg) _ h) cf_X12_stood (mw_0 cy a S) rfl wm_X12_383 wi_X12_stood ws_X12_stood dX12_makes_171 rfl (Nat.le_of_ble_eq_true rfl) ⟨by decide, by decide, by decide, by decide⟩) (fun r23 S24 h => ?_)
    refine z_dup2 b dX12_makes_174 rfl rfl ?_
    obtain ⟨g25, h⟩ := h
    refine y_iald (q0 := 25) (j := r23.toNatClampNeg) (v := ((ar S24 24) r23.toNatClampNeg)) b (mw_25 cy a S24) (zx_r g25.1 g25.2) rfl dX12_makes_175 ?_
    refine z_iload b dX12_makes_176 rfl ?_
    refine z_iadd b dX12_makes_178 rfl ?_
    obtain ⟨g26, h⟩ := h
    refine y_iast (q0 := 25) (j := r23.toNatClampNeg) b (mw_25 cy a S24) (zx_r g26.1 g26.2) dX12_makes_179 (mwa_25 cy a S24 (r23.toNatClampNeg) (((ar S24 24) r23.toNatClampNeg) + x7)) ?_
    refine z_goto (tgt := 232) b dX12_makes_180 (by decide) ?_
    refine z_lv0 (lv' := [(0, .ref (a 0)), (1, .int x1), (2, .int x2), (3, .int x3), (4, .int x4)]) [0, 1, 2, 3, 4] rfl ?_
    exact z_X12_makes_B232 b hk64 hk238 _ _ _ _ _ h

def w_X12_makes_F64 (post : Int32 → GS → Prop) (k238 : GS → Int32 → Int32 → Prop) (k64 : GS → Int32 → Int32 → Int32 → Int32 → Prop) (S : GS) (x1 : Int32) (x2 : Int32) (x3 : Int32) (x4 : Int32) : Prop :=
  (0 ≤ x1.toInt ∧ x1.toInt < 18) ∧ ((((ar S 9) x1.toNatClampNeg).toInt ≤ x4.toInt → k238 S x1 x3) ∧ (x4.toInt < ((ar S 9) x1.toNatClampNeg).toInt → (0 ≤ (((6 : Int32) * x1) + x4).toInt ∧ (((6 : Int32) * x1) + x4).toInt < 108) ∧ (0 ≤ (((6 : Int32) * x1) + x4).toInt ∧ (((6 : Int32) * x1) + x4).toInt < 108) ∧ (0 ≤ (((6 : Int32) * x1) + x4).toInt ∧ (((6 : Int32) * x1) + x4).toInt < 108) ∧ ((((ar S 16) (((6 : Int32) * x1) + x4).toNatClampNeg).toInt ≠ ((ar S 15) (((6 : Int32) * x1) + x4).toNatClampNeg).toInt → (0 ≤ (((6 : Int32) * x1) + x4).toInt ∧ (((6 : Int32) * x1) + x4).toInt < 108) ∧ (0 ≤ (((6 : Int32) * x1) + x4).toInt ∧ (((6 : Int32) * x1) + x4).toInt < 108) ∧ w_X12_comesTo S x2 ((ar S 15) (((6 : Int32) * x1) + x4).toNatClampNeg) ((ar S 16) (((6 : Int32) * x1) + x4).toNatClampNeg) (fun r11 S12 => (0 ≤ (((6 : Int32) * x1) + x4).toInt ∧ (((6 : Int32) * x1) + x4).toInt < 108) ∧ ((((ar S12 12) (((6 : Int32) * x1) + x4).toNatClampNeg).toInt ≤ 99 → w_X12_makes_B154 post k64 k238 S12 x1 x2 x3 x4 (((6 : Int32) * x1) + x4) (((ar S 12) (((6 : Int32) * x1) + x4).toNatClampNeg) - ((ar S 12) (((6 : Int32) * x1) + x4).toNatClampNeg) / 100 * 100) r11) ∧ (99 < ((ar S12 12) (((6 : Int32) * x1) + x4).toNatClampNeg).toInt → w_X12_makes_B154 post k64 k238 S12 x1 x2 x3 x4 (((6 : Int32) * x1) + x4) (((ar S 12) (((6 : Int32) * x1) + x4).toNatClampNeg) - ((ar S 12) (((6 : Int32) * x1) + x4).toNatClampNeg) / 100 * 100) (-r11))))) ∧ (((ar S 16) (((6 : Int32) * x1) + x4).toNatClampNeg).toInt = ((ar S 15) (((6 : Int32) * x1) + x4).toNatClampNeg).toInt → w_X12_makes_B232 post k64 k238 S x1 x2 x3 x4))))

set_option maxHeartbeats 4000000 in
set_option maxRecDepth 100000 in
theorem z_X12_makes_F64 {p : Program} {l : Launch} {e : Env} {R : Room} {s : State} {m : MethodId} {args : Array Value} {below : List Frame} {meth : Method} {c : Code} {D : va_G} {cy : Nat → ClassId} {T0 tB tE : Nat} {A : Nat → Prop} {a : Nat → Nat} {post : Int32 → GS → Prop} {k238 : GS → Int32 → Int32 → Prop} {k64 : GS → Int32 → Int32 → Int32 → Int32 → Prop} (b : Bz p R s m args meth c D cy T0 tB tE A 8 cX12_makes RX12 (some .boolean) "makes" 2 54 0 0) (hk238 : ∀ (S : GS) (x1 : Int32) (x3 : Int32), k238 S x1 x3 → Z p l e R s m args below meth c D A 8 (MQ below (QI D (U := GS) post (mw cy a) A) args s 0 0 A) 0 0 (mw cy a S) [(0, .ref (a 0)), (1, .int x1), (3, .int x3)] 238 []) (hk64 : ∀ (S : GS) (x1 : Int32) (x2 : Int32) (x3 : Int32) (x4 : Int32), k64 S x1 x2 x3 x4 → Z p l e R s m args below meth c D A 8 (MQ below (QI D (U := GS) post (mw cy a) A) args s 0 0 A) 0 0 (mw cy a S) [(0, .ref (a 0)), (1, .int x1), (2, .int x2), (3, .int x3), (4, .int x4)] 64 []) (S : GS) (x1 : Int32) (x2 : Int32) (x3 : Int32) (x4 : Int32) (h : w_X12_makes_F64 post k238 k64 S x1 x2 x3 x4) : Z p l e R s m args below meth c D A 8 (MQ below (QI D (U := GS) post (mw cy a) A) args s 0 0 A) 0 0 (mw cy a S) [(0, .ref (a 0)), (1, .int x1), (2, .int x2), (3, .int x3), (4, .int x4)] 64 [] := by
  unfold w_X12_makes_F64 at h
  refine z_iload b dX12_makes_64 rfl ?_
  refine z_aload_n b dX12_makes_66 rfl rfl ?_
  refine z_get (q0 := 0) (k9 := 11) (v := .ref (a 10)) b (mw_0 cy a S) rfl in_X12 (by decide) wf_X12_42 rfl dX12_makes_67 ?_
  refine z_iload_n b dX12_makes_70 rfl rfl ?_
  obtain ⟨g5, h⟩ := h
  refine y_iald (q0 := 10) (j := x1.toNatClampNeg) (v := ((ar S 9) x1.toNatClampNeg)) b (mw_10 cy a S) (zx_r g5.1 g5.2) rfl dX12_makes_71 ?_
  refine y_icmp_ge (tgt := 238) (xl := x4.toInt) (yl := ((ar S 9) x1.toNatClampNeg).toInt) b rfl rfl dX12_makes_72 (by decide) (fun c1 => ?_) (fun c1 => ?_)
  · replace h := h.1 c1
    refine z_lv0 (lv' := [(0, .ref (a 0)), (1, .int x1), (3, .int x3)]) [0, 1, 3] rfl ?_
    exact hk238 _ _ _ h
  · replace h := h.2 c1
    refine z_bipush (v := 6) b dX12_makes_75 (by decide) ?_
    refine z_iload_n b dX12_makes_77 rfl rfl ?_
    refine z_imul b dX12_makes_78 rfl ?_
    refine z_iload b dX12_makes_79 rfl ?_
    refine z_iadd b dX12_makes_81 rfl ?_
    refine z_istore (lv' := [(5, .int (((6 : Int32) * x1) + x4)), (0, .ref (a 0)), (1, .int x1), (2, .int x2), (3, .int x3), (4, .int x4)]) b dX12_makes_82 (by decide) rfl ?_
    refine z_aload_n b dX12_makes_84 rfl rfl ?_
    refine z_get (q0 := 0) (k9 := 14) (v := .ref (a 13)) b (mw_0 cy a S) rfl in_X12 (by decide) wf_X12_51 rfl dX12_makes_85 ?_
    refine z_iload b dX12_makes_88 rfl ?_
    obtain ⟨g6, h⟩ := h
    refine y_iald (q0 := 13) (j := (((6 : Int32) * x1) + x4).toNatClampNeg) (v := ((ar S 12) (((6 : Int32) * x1) + x4).toNatClampNeg)) b (mw_13 cy a S) (zx_r g6.1 g6.2) rfl dX12_makes_90 ?_
    refine z_bipush (v := 100) b dX12_makes_91 (by decide) ?_
    refine z_irem b dX12_makes_93 (by decide) rfl ?_
    refine z_istore (lv' := [(6, .int (((ar S 12) (((6 : Int32) * x1) + x4).toNatClampNeg) - ((ar S 12) (((6 : Int32) * x1) + x4).toNatClampNeg) / 100 * 100)), (5, .int (((6 : Int32) * x1) + x4)), (0, .ref (a 0)), (1, .int x1), (2, .int x2), (3, .int x3), (4, .int x4)]) b dX12_makes_94 (by decide) rfl ?_
    refine z_aload_n b dX12_makes_96 rfl rfl ?_
    refine z_get (q0 := 0) (k9 := 18) (v := .ref (a 17)) b (mw_0 cy a S) rfl in_X12 (by decide) wf_X12_63 rfl dX12_makes_97 ?_
    refine z_iload b dX12_makes_100 rfl ?_
    obtain ⟨g7, h⟩ := h
    refine y_iald (q0 := 17) (j := (((6 : Int32) * x1) + x4).toNatClampNeg) (v := ((ar S 16) (((6 : Int32) * x1) + x4).toNatClampNeg)) b (mw_17 cy a S) (zx_r g7.1 g7.2) rfl dX12_makes_102 ?_
    refine z_aload_n b dX12_makes_103 rfl rfl ?_
    refine z_get (q0 := 0) (k9 := 17) (v := .ref (a 16)) b (mw_0 cy a S) rfl in_X12 (by decide) wf_X12_60 rfl dX12_makes_104 ?_
    refine z_iload b dX12_makes_107 rfl ?_
    obtain ⟨g8, h⟩ := h
    refine y_iald (q0 := 16) (j := (((6 : Int32) * x1) + x4).toNatClampNeg) (v := ((ar S 15) (((6 : Int32) * x1) + x4).toNatClampNeg)) b (mw_16 cy a S) (zx_r g8.1 g8.2) rfl dX12_makes_109 ?_
    refine y_icmp_ne (tgt := 116) (xl := ((ar S 16) (((6 : Int32) * x1) + x4).toNatClampNeg).toInt) (yl := ((ar S 15) (((6 : Int32) * x1) + x4).toNatClampNeg).toInt) b rfl rfl dX12_makes_110 (by decide) (fun c1 => ?_) (fun c1 => ?_)
    · replace h := h.1 c1
      refine z_aload_n b dX12_makes_116 rfl rfl ?_
      refine z_iload_n b dX12_makes_117 rfl rfl ?_
      refine z_aload_n b dX12_makes_118 rfl rfl ?_
      refine z_get (q0 := 0) (k9 := 17) (v := .ref (a 16)) b (mw_0 cy a S) rfl in_X12 (by decide) wf_X12_60 rfl dX12_makes_119 ?_
      refine z_iload b dX12_makes_122 rfl ?_
      obtain ⟨g9, h⟩ := h
      refine y_iald (q0 := 16) (j := (((6 : Int32) * x1) + x4).toNatClampNeg) (v := ((ar S 15) (((6 : Int32) * x1) + x4).toNatClampNeg)) b (mw_16 cy a S) (zx_r g9.1 g9.2) rfl dX12_makes_124 ?_
      refine z_aload_n b dX12_makes_125 rfl rfl ?_
      refine z_get (q0 := 0) (k9 := 18) (v := .ref (a 17)) b (mw_0 cy a S) rfl in_X12 (by decide) wf_X12_63 rfl dX12_makes_126 ?_
      refine z_iload b dX12_makes_129 rfl ?_
      obtain ⟨g10, h⟩ := h
      refine y_iald (q0 := 17) (j := (((6 : Int32) * x1) + x4).toNatClampNeg) (v := ((ar S 16) (((6 : Int32) * x1) + x4).toNatClampNeg)) b (mw_17 cy a S) (zx_r g10.1 g10.2) rfl dX12_makes_131 ?_
      refine z_calli b (z_runV (q0 := 0) (As := [.int x2, .int ((ar S 15) (((6 : Int32) * x1) + x4).toNatClampNeg), .int ((ar S 16) (((6 : Int32) * x1) + x4).toNatClampNeg)]) (st := []) b (k_X12_comesTo S x2 ((ar S 15) (((6 : Int32) * x1) + x4).toNatClampNeg) ((ar S 16) (((6 : Int32) * x1) + x4).toNatClampNeg) _ h) cf_X12_comesTo (mw_0 cy a S) rfl wm_X12_380 wi_X12_comesTo ws_X12_comesTo dX12_makes_132 rfl (Nat.le_of_ble_eq_true rfl) ⟨by decide, by decide, by decide, by decide⟩) (fun r11 S12 h => ?_)
      refine z_istore (lv' := [(7, .int r11), (6, .int (((ar S 12) (((6 : Int32) * x1) + x4).toNatClampNeg) - ((ar S 12) (((6 : Int32) * x1) + x4).toNatClampNeg) / 100 * 100)), (5, .int (((6 : Int32) * x1) + x4)), (0, .ref (a 0)), (1, .int x1), (2, .int x2), (3, .int x3), (4, .int x4)]) b dX12_makes_135 (by decide) rfl ?_
      refine z_aload_n b dX12_makes_137 rfl rfl ?_
      refine z_get (q0 := 0) (k9 := 14) (v := .ref (a 13)) b (mw_0 cy a S12) rfl in_X12 (by decide) wf_X12_51 rfl dX12_makes_138 ?_
      refine z_iload b dX12_makes_141 rfl ?_
      obtain ⟨g13, h⟩ := h
      refine y_iald (q0 := 13) (j := (((6 : Int32) * x1) + x4).toNatClampNeg) (v := ((ar S12 12) (((6 : Int32) * x1) + x4).toNatClampNeg)) b (mw_13 cy a S12) (zx_r g13.1 g13.2) rfl dX12_makes_143 ?_
      refine z_bipush (v := 99) b dX12_makes_144 (by decide) ?_
      refine y_icmp_le (tgt := 154) (xl := ((ar S12 12) (((6 : Int32) * x1) + x4).toNatClampNeg).toInt) (yl := 99) b rfl (by decide) dX12_makes_146 (by decide) (fun c1 => ?_) (fun c1 => ?_)
      · replace h := h.1 c1
        refine z_lv0 (lv' := [(0, .ref (a 0)), (1, .int x1), (2, .int x2), (3, .int x3), (4, .int x4), (5, .int (((6 : Int32) * x1) + x4)), (6, .int (((ar S 12) (((6 : Int32) * x1) + x4).toNatClampNeg) - ((ar S 12) (((6 : Int32) * x1) + x4).toNatClampNeg) / 100 * 100)), (7, .int r11)]) [3, 4, 5, 6, 7, 2, 1, 0] rfl ?_
        exact z_X12_makes_B154 b hk64 hk238 _ _ _ _ _ _ _ _ h
      · replace h := h.2 c1
        refine z_iload b dX12_makes_149 rfl ?_
        refine z_ineg b dX12_makes_151 rfl ?_
        refine z_istore (lv' := [(7, .int (-r11)), (6, .int (((ar S 12) (((6 : Int32) * x1) + x4).toNatClampNeg) - ((ar S 12) (((6 : Int32) * x1) + x4).toNatClampNeg) / 100 * 100)), (5, .int (((6 : Int32) * x1) + x4)), (0, .ref (a 0)), (1, .int x1), (2, .int x2), (3, .int x3), (4, .int x4)]) b dX12_makes_152 (by decide) rfl ?_
        refine z_lv0 (lv' := [(0, .ref (a 0)), (1, .int x1), (2, .int x2), (3, .int x3), (4, .int x4), (5, .int (((6 : Int32) * x1) + x4)), (6, .int (((ar S 12) (((6 : Int32) * x1) + x4).toNatClampNeg) - ((ar S 12) (((6 : Int32) * x1) + x4).toNatClampNeg) / 100 * 100)), (7, .int (-r11))]) [3, 4, 5, 6, 7, 2, 1, 0] rfl ?_
        exact z_X12_makes_B154 b hk64 hk238 _ _ _ _ _ _ _ _ h
    · replace h := h.2 c1
      refine z_goto (tgt := 232) b dX12_makes_113 (by decide) ?_
      refine z_lv0 (lv' := [(0, .ref (a 0)), (1, .int x1), (2, .int x2), (3, .int x3), (4, .int x4)]) [2, 3, 4, 5, 6] rfl ?_
      exact z_X12_makes_B232 b hk64 hk238 _ _ _ _ _ h

set_option maxHeartbeats 4000000 in
set_option maxRecDepth 100000 in
theorem zl_X12_makes_L64 {p : Program} {l : Launch} {e : Env} {R : Room} {s : State} {m : MethodId} {args : Array Value} {below : List Frame} {meth : Method} {c : Code} {D : va_G} {cy : Nat → ClassId} {T0 tB tE : Nat} {A : Nat → Prop} {a : Nat → Nat} {post : Int32 → GS → Prop} {k238 : GS → Int32 → Int32 → Prop} (b : Bz p R s m args meth c D cy T0 tB tE A 8 cX12_makes RX12 (some .boolean) "makes" 2 54 0 0) (hk238 : ∀ (S : GS) (x1 : Int32) (x3 : Int32), k238 S x1 x3 → Z p l e R s m args below meth c D A 8 (MQ below (QI D (U := GS) post (mw cy a) A) args s 0 0 A) 0 0 (mw cy a S) [(0, .ref (a 0)), (1, .int x1), (3, .int x3)] 238 []) : ∀ (n : Nat) (S : GS) (x1 : Int32) (x2 : Int32) (x3 : Int32) (x4 : Int32), lpn (w_X12_makes_F64 post k238) (fun _ _ _ _ _ => False) n S x1 x2 x3 x4 → Z p l e R s m args below meth c D A 8 (MQ below (QI D (U := GS) post (mw cy a) A) args s 0 0 A) 0 0 (mw cy a S) [(0, .ref (a 0)), (1, .int x1), (2, .int x2), (3, .int x3), (4, .int x4)] 64 [] := by
  intro n
  induction n with
  | zero => intro _ _ _ _ _ h; exact h.elim
  | succ n ih => intro S x1 x2 x3 x4 h; exact z_X12_makes_F64 b hk238 ih S x1 x2 x3 x4 h

def w_X12_makes_B282 (post : Int32 → GS → Prop) (k250 : GS → Int32 → Int32 → Int32 → Int32 → Prop) (k290 : GS → Int32 → Int32 → Int32 → Prop) (S : GS) (x1 : Int32) (x3 : Int32) (x5 : Int32) (y0 : Int32) : Prop :=
  k250 S x1 x3 y0 (x5 + 1)

set_option maxHeartbeats 4000000 in
set_option maxRecDepth 100000 in
theorem z_X12_makes_B282 {p : Program} {l : Launch} {e : Env} {R : Room} {s : State} {m : MethodId} {args : Array Value} {below : List Frame} {meth : Method} {c : Code} {D : va_G} {cy : Nat → ClassId} {T0 tB tE : Nat} {A : Nat → Prop} {a : Nat → Nat} {post : Int32 → GS → Prop} {k250 : GS → Int32 → Int32 → Int32 → Int32 → Prop} {k290 : GS → Int32 → Int32 → Int32 → Prop} (b : Bz p R s m args meth c D cy T0 tB tE A 8 cX12_makes RX12 (some .boolean) "makes" 2 54 0 0) (hk250 : ∀ (S : GS) (x1 : Int32) (x3 : Int32) (x4 : Int32) (x5 : Int32), k250 S x1 x3 x4 x5 → Z p l e R s m args below meth c D A 8 (MQ below (QI D (U := GS) post (mw cy a) A) args s 0 0 A) 0 0 (mw cy a S) [(0, .ref (a 0)), (1, .int x1), (3, .int x3), (4, .int x4), (5, .int x5)] 250 []) (hk290 : ∀ (S : GS) (x1 : Int32) (x3 : Int32) (x4 : Int32), k290 S x1 x3 x4 → Z p l e R s m args below meth c D A 8 (MQ below (QI D (U := GS) post (mw cy a) A) args s 0 0 A) 0 0 (mw cy a S) [(0, .ref (a 0)), (1, .int x1), (3, .int x3), (4, .int x4)] 290 []) (S : GS) (x1 : Int32) (x3 : Int32) (x5 : Int32) (y0 : Int32) (h : w_X12_makes_B282 post k250 k290 S x1 x3 x5 y0) : Z p l e R s m args below meth c D A 8 (MQ below (QI D (U := GS) post (mw cy a) A) args s 0 0 A) 0 0 (mw cy a S) [(0, .ref (a 0)), (1, .int x1), (3, .int x3), (5, .int x5)] 282 [.int y0] := by
  unfold w_X12_makes_B282 at h
  refine z_istore (lv' := [(4, .int y0), (0, .ref (a 0)), (1, .int x1), (3, .int x3), (5, .int x5)]) b dX12_makes_282 (by decide) rfl ?_
  refine z_iinc (k9 := 4) (v := (x5 + 1)) (lv' := [(5, .int (x5 + 1)), (4, .int y0), (0, .ref (a 0)), (1, .int x1), (3, .int x3)]) b dX12_makes_284 rfl rfl (by decide) rfl ?_
  refine z_goto (tgt := 250) b dX12_makes_287 (by decide) ?_
  refine z_lv0 (lv' := [(0, .ref (a 0)), (1, .int x1), (3, .int x3), (4, .int y0), (5, .int (x5 + 1))]) [2, 3, 4, 1, 0] rfl ?_
  exact hk250 _ _ _ _ _ h

def w_X12_makes_B281 (post : Int32 → GS → Prop) (k250 : GS → Int32 → Int32 → Int32 → Int32 → Prop) (k290 : GS → Int32 → Int32 → Int32 → Prop) (S : GS) (x1 : Int32) (x3 : Int32) (x5 : Int32) : Prop :=
  w_X12_makes_B282 post k250 k290 S x1 x3 x5 0

set_option maxHeartbeats 4000000 in
set_option maxRecDepth 100000 in
theorem z_X12_makes_B281 {p : Program} {l : Launch} {e : Env} {R : Room} {s : State} {m : MethodId} {args : Array Value} {below : List Frame} {meth : Method} {c : Code} {D : va_G} {cy : Nat → ClassId} {T0 tB tE : Nat} {A : Nat → Prop} {a : Nat → Nat} {post : Int32 → GS → Prop} {k250 : GS → Int32 → Int32 → Int32 → Int32 → Prop} {k290 : GS → Int32 → Int32 → Int32 → Prop} (b : Bz p R s m args meth c D cy T0 tB tE A 8 cX12_makes RX12 (some .boolean) "makes" 2 54 0 0) (hk250 : ∀ (S : GS) (x1 : Int32) (x3 : Int32) (x4 : Int32) (x5 : Int32), k250 S x1 x3 x4 x5 → Z p l e R s m args below meth c D A 8 (MQ below (QI D (U := GS) post (mw cy a) A) args s 0 0 A) 0 0 (mw cy a S) [(0, .ref (a 0)), (1, .int x1), (3, .int x3), (4, .int x4), (5, .int x5)] 250 []) (hk290 : ∀ (S : GS) (x1 : Int32) (x3 : Int32) (x4 : Int32), k290 S x1 x3 x4 → Z p l e R s m args below meth c D A 8 (MQ below (QI D (U := GS) post (mw cy a) A) args s 0 0 A) 0 0 (mw cy a S) [(0, .ref (a 0)), (1, .int x1), (3, .int x3), (4, .int x4)] 290 []) (S : GS) (x1 : Int32) (x3 : Int32) (x5 : Int32) (h : w_X12_makes_B281 post k250 k290 S x1 x3 x5) : Z p l e R s m args below meth c D A 8 (MQ below (QI D (U := GS) post (mw cy a) A) args s 0 0 A) 0 0 (mw cy a S) [(0, .ref (a 0)), (1, .int x1), (3, .int x3), (5, .int x5)] 281 [] := by
  unfold w_X12_makes_B281 at h
  refine z_iconst (v := 0) b dX12_makes_281 (by decide) ?_
  exact z_X12_makes_B282 b hk250 hk290 _ _ _ _ _ h

def w_X12_makes_F250 (post : Int32 → GS → Prop) (k290 : GS → Int32 → Int32 → Int32 → Prop) (k250 : GS → Int32 → Int32 → Int32 → Int32 → Prop) (S : GS) (x1 : Int32) (x3 : Int32) (x4 : Int32) (x5 : Int32) : Prop :=
  ((3 ≤ x5.toInt → k290 S x1 x3 x4) ∧ (x5.toInt < 3 → ((x4.toInt = 0 → w_X12_makes_B281 post k250 k290 S x1 x3 x5) ∧ (x4.toInt ≠ 0 → (0 ≤ x5.toInt ∧ x5.toInt < 3) ∧ w_X12_isIn S ((ar S 24) x5.toNatClampNeg) 0 15 (fun r30 S31 => ((r30.toInt = 0 → w_X12_makes_B281 post k250 k290 S31 x1 x3 x5) ∧ (r30.toInt ≠ 0 → w_X12_makes_B282 post k250 k290 S31 x1 x3 x5 1)))))))

set_option maxHeartbeats 4000000 in
set_option maxRecDepth 100000 in
theorem z_X12_makes_F250 {p : Program} {l : Launch} {e : Env} {R : Room} {s : State} {m : MethodId} {args : Array Value} {below : List Frame} {meth : Method} {c : Code} {D : va_G} {cy : Nat → ClassId} {T0 tB tE : Nat} {A : Nat → Prop} {a : Nat → Nat} {post : Int32 → GS → Prop} {k290 : GS → Int32 → Int32 → Int32 → Prop} {k250 : GS → Int32 → Int32 → Int32 → Int32 → Prop} (b : Bz p R s m args meth c D cy T0 tB tE A 8 cX12_makes RX12 (some .boolean) "makes" 2 54 0 0) (hk290 : ∀ (S : GS) (x1 : Int32) (x3 : Int32) (x4 : Int32), k290 S x1 x3 x4 → Z p l e R s m args below meth c D A 8 (MQ below (QI D (U := GS) post (mw cy a) A) args s 0 0 A) 0 0 (mw cy a S) [(0, .ref (a 0)), (1, .int x1), (3, .int x3), (4, .int x4)] 290 []) (hk250 : ∀ (S : GS) (x1 : Int32) (x3 : Int32) (x4 : Int32) (x5 : Int32), k250 S x1 x3 x4 x5 → Z p l e R s m args below meth c D A 8 (MQ below (QI D (U := GS) post (mw cy a) A) args s 0 0 A) 0 0 (mw cy a S) [(0, .ref (a 0)), (1, .int x1), (3, .int x3), (4, .int x4), (5, .int x5)] 250 []) (S : GS) (x1 : Int32) (x3 : Int32) (x4 : Int32) (x5 : Int32) (h : w_X12_makes_F250 post k290 k250 S x1 x3 x4 x5) : Z p l e R s m args below meth c D A 8 (MQ below (QI D (U := GS) post (mw cy a) A) args s 0 0 A) 0 0 (mw cy a S) [(0, .ref (a 0)), (1, .int x1), (3, .int x3), (4, .int x4), (5, .int x5)] 250 [] := by
  unfold w_X12_makes_F250 at h
  refine z_iload b dX12_makes_250 rfl ?_
  refine z_iconst (v := 3) b dX12_makes_252 (by decide) ?_
  refine y_icmp_ge (tgt := 290) (xl := x5.toInt) (yl := 3) b rfl (by decide) dX12_makes_253 (by decide) (fun c1 => ?_) (fun c1 => ?_)
  · replace h := h.1 c1
    refine z_lv0 (lv' := [(0, .ref (a 0)), (1, .int x1), (3, .int x3), (4, .int x4)]) [0, 1, 2, 3] rfl ?_
    exact hk290 _ _ _ _ h
  · replace h := h.2 c1
    refine z_iload b dX12_makes_256 rfl ?_
    refine y_if_eq (tgt := 281) (xl := x4.toInt) b rfl dX12_makes_258 (by decide) (fun c1 => ?_) (fun c1 => ?_)
    · replace h := h.1 c1
      refine z_lv0 (lv' := [(0, .ref (a 0)), (1, .int x1), (3, .int x3), (5, .int x5)]) [0, 1, 2, 4] rfl ?_
      exact z_X12_makes_B281 b hk250 hk290 _ _ _ _ h
    · replace h := h.2 c1
      refine z_aload_n b dX12_makes_261 rfl rfl ?_
      refine z_get (q0 := 0) (k9 := 47) (v := .ref (a 25)) b (mw_0 cy a S) rfl in_X12 (by decide) wf_X12_91 rfl dX12_makes_262 ?_
      refine z_iload b dX12_makes_265 rfl ?_
      obtain ⟨g29, h⟩ := h
      refine y_iald (q0 := 25) (j := x5.toNatClampNeg) (v := ((ar S 24) x5.toNatClampNeg)) b (mw_25 cy a S) (zx_r g29.1 g29.2) rfl dX12_makes_267 ?_
      refine z_iconst (v := 0) b dX12_makes_268 (by decide) ?_
      refine z_bipush (v := 15) b dX12_makes_269 (by decide) ?_
      refine z_calli b (z_runS (As := [.int ((ar S 24) x5.toNatClampNeg), .int 0, .int 15]) (st := []) b (k_X12_isIn S ((ar S 24) x5.toNatClampNeg) 0 15 _ h) cf_X12_isIn wm_X12_1 ws_X12_isIn dX12_makes_271 rfl (Nat.le_of_ble_eq_true rfl) ⟨by decide, by decide, by decide, by decide⟩) (fun r30 S31 h => ?_)
      refine y_if_eq (tgt := 281) (xl := r30.toInt) b rfl dX12_makes_274 (by decide) (fun c1 => ?_) (fun c1 => ?_)
      · replace h := h.1 c1
        refine z_lv0 (lv' := [(0, .ref (a 0)), (1, .int x1), (3, .int x3), (5, .int x5)]) [0, 1, 2, 4] rfl ?_
        exact z_X12_makes_B281 b hk250 hk290 _ _ _ _ h
      · replace h := h.2 c1
        refine z_iconst (v := 1) b dX12_makes_277 (by decide) ?_
        refine z_goto (tgt := 282) b dX12_makes_278 (by decide) ?_
        refine z_lv0 (lv' := [(0, .ref (a 0)), (1, .int x1), (3, .int x3), (5, .int x5)]) [0, 1, 2, 4] rfl ?_
        exact z_X12_makes_B282 b hk250 hk290 _ _ _ _ _ h

set_option maxHeartbeats 4000000 in
set_option maxRecDepth 100000 in
theorem zl_X12_makes_L250 {p : Program} {l : Launch} {e : Env} {R : Room} {s : State} {m : MethodId} {args : Array Value} {below : List Frame} {meth : Method} {c : Code} {D : va_G} {cy : Nat → ClassId} {T0 tB tE : Nat} {A : Nat → Prop} {a : Nat → Nat} {post : Int32 → GS → Prop} {k290 : GS → Int32 → Int32 → Int32 → Prop} (b : Bz p R s m args meth c D cy T0 tB tE A 8 cX12_makes RX12 (some .boolean) "makes" 2 54 0 0) (hk290 : ∀ (S : GS) (x1 : Int32) (x3 : Int32) (x4 : Int32), k290 S x1 x3 x4 → Z p l e R s m args below meth c D A 8 (MQ below (QI D (U := GS) post (mw cy a) A) args s 0 0 A) 0 0 (mw cy a S) [(0, .ref (a 0)), (1, .int x1), (3, .int x3), (4, .int x4)] 290 []) : ∀ (n : Nat) (S : GS) (x1 : Int32) (x3 : Int32) (x4 : Int32) (x5 : Int32), lpn (w_X12_makes_F250 post k290) (fun _ _ _ _ _ => False) n S x1 x3 x4 x5 → Z p l e R s m args below meth c D A 8 (MQ below (QI D (U := GS) post (mw cy a) A) args s 0 0 A) 0 0 (mw cy a S) [(0, .ref (a 0)), (1, .int x1), (3, .int x3), (4, .int x4), (5, .int x5)] 250 [] := by
  intro n
  induction n with
  | zero => intro _ _ _ _ _ h; exact h.elim
  | succ n ih => intro S x1 x3 x4 x5 h; exact z_X12_makes_F250 b hk290 ih S x1 x3 x4 x5 h

def w_X12_makes_B326 (post : Int32 → GS → Prop) (k293 : GS → Int32 → Int32 → Int32 → Int32 → Prop) (k334 : GS → Int32 → Int32 → Int32 → Prop) (S : GS) (x1 : Int32) (x3 : Int32) (x5 : Int32) (y0 : Int32) : Prop :=
  k293 S x1 x3 y0 (x5 + 1)

set_option maxHeartbeats 4000000 in
set_option maxRecDepth 100000 in
theorem z_X12_makes_B326 {p : Program} {l : Launch} {e : Env} {R : Room} {s : State} {m : MethodId} {args : Array Value} {below : List Frame} {meth : Method} {c : Code} {D : va_G} {cy : Nat → ClassId} {T0 tB tE : Nat} {A : Nat → Prop} {a : Nat → Nat} {post : Int32 → GS → Prop} {k293 : GS → Int32 → Int32 → Int32 → Int32 → Prop} {k334 : GS → Int32 → Int32 → Int32 → Prop} (b : Bz p R s m args meth c D cy T0 tB tE A 8 cX12_makes RX12 (some .boolean) "makes" 2 54 0 0) (hk293 : ∀ (S : GS) (x1 : Int32) (x3 : Int32) (x4 : Int32) (x5 : Int32), k293 S x1 x3 x4 x5 → Z p l e R s m args below meth c D A 8 (MQ below (QI D (U := GS) post (mw cy a) A) args s 0 0 A) 0 0 (mw cy a S) [(0, .ref (a 0)), (1, .int x1), (3, .int x3), (4, .int x4), (5, .int x5)] 293 []) (hk334 : ∀ (S : GS) (x1 : Int32) (x3 : Int32) (x4 : Int32), k334 S x1 x3 x4 → Z p l e R s m args below meth c D A 8 (MQ below (QI D (U := GS) post (mw cy a) A) args s 0 0 A) 0 0 (mw cy a S) [(0, .ref (a 0)), (1, .int x1), (3, .int x3), (4, .int x4)] 334 []) (S : GS) (x1 : Int32) (x3 : Int32) (x5 : Int32) (y0 : Int32) (h : w_X12_makes_B326 post k293 k334 S x1 x3 x5 y0) : Z p l e R s m args below meth c D A 8 (MQ below (QI D (U := GS) post (mw cy a) A) args s 0 0 A) 0 0 (mw cy a S) [(0, .ref (a 0)), (1, .int x1), (3, .int x3), (5, .int x5)] 326 [.int y0] := by
  unfold w_X12_makes_B326 at h
  refine z_istore (lv' := [(4, .int y0), (0, .ref (a 0)), (1, .int x1), (3, .int x3), (5, .int x5)]) b dX12_makes_326 (by decide) rfl ?_
  refine z_iinc (k9 := 4) (v := (x5 + 1)) (lv' := [(5, .int (x5 + 1)), (4, .int y0), (0, .ref (a 0)), (1, .int x1), (3, .int x3)]) b dX12_makes_328 rfl rfl (by decide) rfl ?_
  refine z_goto (tgt := 293) b dX12_makes_331 (by decide) ?_
  refine z_lv0 (lv' := [(0, .ref (a 0)), (1, .int x1), (3, .int x3), (4, .int y0), (5, .int (x5 + 1))]) [2, 3, 4, 1, 0] rfl ?_
  exact hk293 _ _ _ _ _ h

def w_X12_makes_B325 (post : Int32 → GS → Prop) (k293 : GS → Int32 → Int32 → Int32 → Int32 → Prop) (k334 : GS → Int32 → Int32 → Int32 → Prop) (S : GS) (x1 : Int32) (x3 : Int32) (x5 : Int32) : Prop :=
  w_X12_makes_B326 post k293 k334 S x1 x3 x5 0

set_option maxHeartbeats 4000000 in
set_option maxRecDepth 100000 in
theorem z_X12_makes_B325 {p : Program} {l : Launch} {e : Env} {R : Room} {s : State} {m : MethodId} {args : Array Value} {below : List Frame} {meth : Method} {c : Code} {D : va_G} {cy : Nat → ClassId} {T0 tB tE : Nat} {A : Nat → Prop} {a : Nat → Nat} {post : Int32 → GS → Prop} {k293 : GS → Int32 → Int32 → Int32 → Int32 → Prop} {k334 : GS → Int32 → Int32 → Int32 → Prop} (b : Bz p R s m args meth c D cy T0 tB tE A 8 cX12_makes RX12 (some .boolean) "makes" 2 54 0 0) (hk293 : ∀ (S : GS) (x1 : Int32) (x3 : Int32) (x4 : Int32) (x5 : Int32), k293 S x1 x3 x4 x5 → Z p l e R s m args below meth c D A 8 (MQ below (QI D (U := GS) post (mw cy a) A) args s 0 0 A) 0 0 (mw cy a S) [(0, .ref (a 0)), (1, .int x1), (3, .int x3), (4, .int x4), (5, .int x5)] 293 []) (hk334 : ∀ (S : GS) (x1 : Int32) (x3 : Int32) (x4 : Int32), k334 S x1 x3 x4 → Z p l e R s m args below meth c D A 8 (MQ below (QI D (U := GS) post (mw cy a) A) args s 0 0 A) 0 0 (mw cy a S) [(0, .ref (a 0)), (1, .int x1), (3, .int x3), (4, .int x4)] 334 []) (S : GS) (x1 : Int32) (x3 : Int32) (x5 : Int32) (h : w_X12_makes_B325 post k293 k334 S x1 x3 x5) : Z p l e R s m args below meth c D A 8 (MQ below (QI D (U := GS) post (mw cy a) A) args s 0 0 A) 0 0 (mw cy a S) [(0, .ref (a 0)), (1, .int x1), (3, .int x3), (5, .int x5)] 325 [] := by
  unfold w_X12_makes_B325 at h
  refine z_iconst (v := 0) b dX12_makes_325 (by decide) ?_
  exact z_X12_makes_B326 b hk293 hk334 _ _ _ _ _ h

def w_X12_makes_F293 (post : Int32 → GS → Prop) (k334 : GS → Int32 → Int32 → Int32 → Prop) (k293 : GS → Int32 → Int32 → Int32 → Int32 → Prop) (S : GS) (x1 : Int32) (x3 : Int32) (x4 : Int32) (x5 : Int32) : Prop :=
  ((9 ≤ x5.toInt → k334 S x1 x3 x4) ∧ (x5.toInt < 9 → ((x4.toInt = 0 → w_X12_makes_B325 post k293 k334 S x1 x3 x5) ∧ (x4.toInt ≠ 0 → (0 ≤ x5.toInt ∧ x5.toInt < 9) ∧ w_X12_isIn S ((ar S 25) x5.toNatClampNeg) 0 7 (fun r33 S34 => ((r33.toInt = 0 → w_X12_makes_B325 post k293 k334 S34 x1 x3 x5) ∧ (r33.toInt ≠ 0 → w_X12_makes_B326 post k293 k334 S34 x1 x3 x5 1)))))))

set_option maxHeartbeats 4000000 in
set_option maxRecDepth 100000 in
theorem z_X12_makes_F293 {p : Program} {l : Launch} {e : Env} {R : Room} {s : State} {m : MethodId} {args : Array Value} {below : List Frame} {meth : Method} {c : Code} {D : va_G} {cy : Nat → ClassId} {T0 tB tE : Nat} {A : Nat → Prop} {a : Nat → Nat} {post : Int32 → GS → Prop} {k334 : GS → Int32 → Int32 → Int32 → Prop} {k293 : GS → Int32 → Int32 → Int32 → Int32 → Prop} (b : Bz p R s m args meth c D cy T0 tB tE A 8 cX12_makes RX12 (some .boolean) "makes" 2 54 0 0) (hk334 : ∀ (S : GS) (x1 : Int32) (x3 : Int32) (x4 : Int32), k334 S x1 x3 x4 → Z p l e R s m args below meth c D A 8 (MQ below (QI D (U := GS) post (mw cy a) A) args s 0 0 A) 0 0 (mw cy a S) [(0, .ref (a 0)), (1, .int x1), (3, .int x3), (4, .int x4)] 334 []) (hk293 : ∀ (S : GS) (x1 : Int32) (x3 : Int32) (x4 : Int32) (x5 : Int32), k293 S x1 x3 x4 x5 → Z p l e R s m args below meth c D A 8 (MQ below (QI D (U := GS) post (mw cy a) A) args s 0 0 A) 0 0 (mw cy a S) [(0, .ref (a 0)), (1, .int x1), (3, .int x3), (4, .int x4), (5, .int x5)] 293 []) (S : GS) (x1 : Int32) (x3 : Int32) (x4 : Int32) (x5 : Int32) (h : w_X12_makes_F293 post k334 k293 S x1 x3 x4 x5) : Z p l e R s m args below meth c D A 8 (MQ below (QI D (U := GS) post (mw cy a) A) args s 0 0 A) 0 0 (mw cy a S) [(0, .ref (a 0)), (1, .int x1), (3, .int x3), (4, .int x4), (5, .int x5)] 293 [] := by
  unfold w_X12_makes_F293 at h
  refine z_iload b dX12_makes_293 rfl ?_
  refine z_bipush (v := 9) b dX12_makes_295 (by decide) ?_
  refine y_icmp_ge (tgt := 334) (xl := x5.toInt) (yl := 9) b rfl (by decide) dX12_makes_297 (by decide) (fun c1 => ?_) (fun c1 => ?_)
  · replace h := h.1 c1
    refine z_lv0 (lv' := [(0, .ref (a 0)), (1, .int x1), (3, .int x3), (4, .int x4)]) [0, 1, 2, 3] rfl ?_
    exact hk334 _ _ _ _ h
  · replace h := h.2 c1
    refine z_iload b dX12_makes_300 rfl ?_
    refine y_if_eq (tgt := 325) (xl := x4.toInt) b rfl dX12_makes_302 (by decide) (fun c1 => ?_) (fun c1 => ?_)
    · replace h := h.1 c1
      refine z_lv0 (lv' := [(0, .ref (a 0)), (1, .int x1), (3, .int x3), (5, .int x5)]) [0, 1, 2, 4] rfl ?_
      exact z_X12_makes_B325 b hk293 hk334 _ _ _ _ h
    · replace h := h.2 c1
      refine z_aload_n b dX12_makes_305 rfl rfl ?_
      refine z_get (q0 := 0) (k9 := 48) (v := .ref (a 26)) b (mw_0 cy a S) rfl in_X12 (by decide) wf_X12_94 rfl dX12_makes_306 ?_
      refine z_iload b dX12_makes_309 rfl ?_
      obtain ⟨g32, h⟩ := h
      refine y_iald (q0 := 26) (j := x5.toNatClampNeg) (v := ((ar S 25) x5.toNatClampNeg)) b (mw_26 cy a S) (zx_r g32.1 g32.2) rfl dX12_makes_311 ?_
      refine z_iconst (v := 0) b dX12_makes_312 (by decide) ?_
      refine z_bipush (v := 7) b dX12_makes_313 (by decide) ?_
      refine z_calli b (z_runS (As := [.int ((ar S 25) x5.toNatClampNeg), .int 0, .int 7]) (st := []) b (k_X12_isIn S ((ar S 25) x5.toNatClampNeg) 0 7 _ h) cf_X12_isIn wm_X12_1 ws_X12_isIn dX12_makes_315 rfl (Nat.le_of_ble_eq_true rfl) ⟨by decide, by decide, by decide, by decide⟩) (fun r33 S34 h => ?_)
      refine y_if_eq (tgt := 325) (xl := r33.toInt) b rfl dX12_makes_318 (by decide) (fun c1 => ?_) (fun c1 => ?_)
      · replace h := h.1 c1
        refine z_lv0 (lv' := [(0, .ref (a 0)), (1, .int x1), (3, .int x3), (5, .int x5)]) [0, 1, 2, 4] rfl ?_
        exact z_X12_makes_B325 b hk293 hk334 _ _ _ _ h
      · replace h := h.2 c1
        refine z_iconst (v := 1) b dX12_makes_321 (by decide) ?_
        refine z_goto (tgt := 326) b dX12_makes_322 (by decide) ?_
        refine z_lv0 (lv' := [(0, .ref (a 0)), (1, .int x1), (3, .int x3), (5, .int x5)]) [0, 1, 2, 4] rfl ?_
        exact z_X12_makes_B326 b hk293 hk334 _ _ _ _ _ h

set_option maxHeartbeats 4000000 in
set_option maxRecDepth 100000 in
theorem zl_X12_makes_L293 {p : Program} {l : Launch} {e : Env} {R : Room} {s : State} {m : MethodId} {args : Array Value} {below : List Frame} {meth : Method} {c : Code} {D : va_G} {cy : Nat → ClassId} {T0 tB tE : Nat} {A : Nat → Prop} {a : Nat → Nat} {post : Int32 → GS → Prop} {k334 : GS → Int32 → Int32 → Int32 → Prop} (b : Bz p R s m args meth c D cy T0 tB tE A 8 cX12_makes RX12 (some .boolean) "makes" 2 54 0 0) (hk334 : ∀ (S : GS) (x1 : Int32) (x3 : Int32) (x4 : Int32), k334 S x1 x3 x4 → Z p l e R s m args below meth c D A 8 (MQ below (QI D (U := GS) post (mw cy a) A) args s 0 0 A) 0 0 (mw cy a S) [(0, .ref (a 0)), (1, .int x1), (3, .int x3), (4, .int x4)] 334 []) : ∀ (n : Nat) (S : GS) (x1 : Int32) (x3 : Int32) (x4 : Int32) (x5 : Int32), lpn (w_X12_makes_F293 post k334) (fun _ _ _ _ _ => False) n S x1 x3 x4 x5 → Z p l e R s m args below meth c D A 8 (MQ below (QI D (U := GS) post (mw cy a) A) args s 0 0 A) 0 0 (mw cy a S) [(0, .ref (a 0)), (1, .int x1), (3, .int x3), (4, .int x4), (5, .int x5)] 293 [] := by
  intro n
  induction n with
  | zero => intro _ _ _ _ _ h; exact h.elim
  | succ n ih => intro S x1 x3 x4 x5 h; exact z_X12_makes_F293 b hk334 ih S x1 x3 x4 x5 h

def w_X12_makes_F349 (post : Int32 → GS → Prop) (k375 : GS → Int32 → Prop) (k349 : GS → Int32 → Int32 → Prop) (S : GS) (x1 : Int32) (x5 : Int32) : Prop :=
  ((3 ≤ x5.toInt → k375 S x1) ∧ (x5.toInt < 3 → (0 ≤ x5.toInt ∧ x5.toInt < 3) ∧ (0 ≤ x5.toInt ∧ x5.toInt < 3) ∧ k349 (su S 0 (x5.toNatClampNeg) ((ar S 24) x5.toNatClampNeg)) x1 (x5 + 1)))

set_option maxHeartbeats 4000000 in
set_option maxRecDepth 100000 in
theorem z_X12_makes_F349 {p : Program} {l : Launch} {e : Env} {R : Room} {s : State} {m : MethodId} {args : Array Value} {below : List Frame} {meth : Method} {c : Code} {D : va_G} {cy : Nat → ClassId} {T0 tB tE : Nat} {A : Nat → Prop} {a : Nat → Nat} {post : Int32 → GS → Prop} {k375 : GS → Int32 → Prop} {k349 : GS → Int32 → Int32 → Prop} (b : Bz p R s m args meth c D cy T0 tB tE A 8 cX12_makes RX12 (some .boolean) "makes" 2 54 0 0) (hk375 : ∀ (S : GS) (x1 : Int32), k375 S x1 → Z p l e R s m args below meth c D A 8 (MQ below (QI D (U := GS) post (mw cy a) A) args s 0 0 A) 0 0 (mw cy a S) [(0, .ref (a 0)), (1, .int x1)] 375 []) (hk349 : ∀ (S : GS) (x1 : Int32) (x5 : Int32), k349 S x1 x5 → Z p l e R s m args below meth c D A 8 (MQ below (QI D (U := GS) post (mw cy a) A) args s 0 0 A) 0 0 (mw cy a S) [(0, .ref (a 0)), (1, .int x1), (5, .int x5)] 349 []) (S : GS) (x1 : Int32) (x5 : Int32) (h : w_X12_makes_F349 post k375 k349 S x1 x5) : Z p l e R s m args below meth c D A 8 (MQ below (QI D (U := GS) post (mw cy a) A) args s 0 0 A) 0 0 (mw cy a S) [(0, .ref (a 0)), (1, .int x1), (5, .int x5)] 349 [] := by
  unfold w_X12_makes_F349 at h
  refine z_iload b dX12_makes_349 rfl ?_
  refine z_iconst (v := 3) b dX12_makes_351 (by decide) ?_
  refine y_icmp_ge (tgt := 375) (xl := x5.toInt) (yl := 3) b rfl (by decide) dX12_makes_352 (by decide) (fun c1 => ?_) (fun c1 => ?_)
  · replace h := h.1 c1
    refine z_lv0 (lv' := [(0, .ref (a 0)), (1, .int x1)]) [0, 1] rfl ?_
    exact hk375 _ _ h
  · replace h := h.2 c1
    refine z_aload_n b dX12_makes_355 rfl rfl ?_
    refine z_get (q0 := 0) (k9 := 0) (v := .ref (a 1)) b (mw_0 cy a S) rfl in_X12 (by decide) wf_X12_13 rfl dX12_makes_356 ?_
    refine z_iload b dX12_makes_359 rfl ?_
    refine z_aload_n b dX12_makes_361 rfl rfl ?_
    refine z_get (q0 := 0) (k9 := 47) (v := .ref (a 25)) b (mw_0 cy a S) rfl in_X12 (by decide) wf_X12_91 rfl dX12_makes_362 ?_
    refine z_iload b dX12_makes_365 rfl ?_
    obtain ⟨g35, h⟩ := h
    refine y_iald (q0 := 25) (j := x5.toNatClampNeg) (v := ((ar S 24) x5.toNatClampNeg)) b (mw_25 cy a S) (zx_r g35.1 g35.2) rfl dX12_makes_367 ?_
    obtain ⟨g36, h⟩ := h
    refine y_iast (q0 := 1) (j := x5.toNatClampNeg) b (mw_1 cy a S) (zx_r g36.1 g36.2) dX12_makes_368 (mwa_1 cy a S (x5.toNatClampNeg) ((ar S 24) x5.toNatClampNeg)) ?_
    refine z_iinc (k9 := 2) (v := (x5 + 1)) (lv' := [(5, .int (x5 + 1)), (0, .ref (a 0)), (1, .int x1)]) b dX12_makes_369 rfl rfl (by decide) rfl ?_
    refine z_goto (tgt := 349) b dX12_makes_372 (by decide) ?_
    refine z_lv0 (lv' := [(0, .ref (a 0)), (1, .int x1), (5, .int (x5 + 1))]) [1, 2, 0] rfl ?_
    exact hk349 _ _ _ h

set_option maxHeartbeats 4000000 in
set_option maxRecDepth 100000 in
theorem zl_X12_makes_L349 {p : Program} {l : Launch} {e : Env} {R : Room} {s : State} {m : MethodId} {args : Array Value} {below : List Frame} {meth : Method} {c : Code} {D : va_G} {cy : Nat → ClassId} {T0 tB tE : Nat} {A : Nat → Prop} {a : Nat → Nat} {post : Int32 → GS → Prop} {k375 : GS → Int32 → Prop} (b : Bz p R s m args meth c D cy T0 tB tE A 8 cX12_makes RX12 (some .boolean) "makes" 2 54 0 0) (hk375 : ∀ (S : GS) (x1 : Int32), k375 S x1 → Z p l e R s m args below meth c D A 8 (MQ below (QI D (U := GS) post (mw cy a) A) args s 0 0 A) 0 0 (mw cy a S) [(0, .ref (a 0)), (1, .int x1)] 375 []) : ∀ (n : Nat) (S : GS) (x1 : Int32) (x5 : Int32), lpn (w_X12_makes_F349 post k375) (fun _ _ _ => False) n S x1 x5 → Z p l e R s m args below meth c D A 8 (MQ below (QI D (U := GS) post (mw cy a) A) args s 0 0 A) 0 0 (mw cy a S) [(0, .ref (a 0)), (1, .int x1), (5, .int x5)] 349 [] := by
  intro n
  induction n with
  | zero => intro _ _ _ h; exact h.elim
  | succ n ih => intro S x1 x5 h; exact z_X12_makes_F349 b hk375 ih S x1 x5 h

def w_X12_makes_F378 (post : Int32 → GS → Prop) (k405 : GS → Int32 → Prop) (k378 : GS → Int32 → Int32 → Prop) (S : GS) (x1 : Int32) (x5 : Int32) : Prop :=
  ((9 ≤ x5.toInt → k405 S x1) ∧ (x5.toInt < 9 → (0 ≤ x5.toInt ∧ x5.toInt < 9) ∧ (0 ≤ x5.toInt ∧ x5.toInt < 9) ∧ k378 (su S 1 (x5.toNatClampNeg) ((ar S 25) x5.toNatClampNeg)) x1 (x5 + 1)))

set_option maxHeartbeats 4000000 in
set_option maxRecDepth 100000 in
theorem z_X12_makes_F378 {p : Program} {l : Launch} {e : Env} {R : Room} {s : State} {m : MethodId} {args : Array Value} {below : List Frame} {meth : Method} {c : Code} {D : va_G} {cy : Nat → ClassId} {T0 tB tE : Nat} {A : Nat → Prop} {a : Nat → Nat} {post : Int32 → GS → Prop} {k405 : GS → Int32 → Prop} {k378 : GS → Int32 → Int32 → Prop} (b : Bz p R s m args meth c D cy T0 tB tE A 8 cX12_makes RX12 (some .boolean) "makes" 2 54 0 0) (hk405 : ∀ (S : GS) (x1 : Int32), k405 S x1 → Z p l e R s m args below meth c D A 8 (MQ below (QI D (U := GS) post (mw cy a) A) args s 0 0 A) 0 0 (mw cy a S) [(0, .ref (a 0)), (1, .int x1)] 405 []) (hk378 : ∀ (S : GS) (x1 : Int32) (x5 : Int32), k378 S x1 x5 → Z p l e R s m args below meth c D A 8 (MQ below (QI D (U := GS) post (mw cy a) A) args s 0 0 A) 0 0 (mw cy a S) [(0, .ref (a 0)), (1, .int x1), (5, .int x5)] 378 []) (S : GS) (x1 : Int32) (x5 : Int32) (h : w_X12_makes_F378 post k405 k378 S x1 x5) : Z p l e R s m args below meth c D A 8 (MQ below (QI D (U := GS) post (mw cy a) A) args s 0 0 A) 0 0 (mw cy a S) [(0, .ref (a 0)), (1, .int x1), (5, .int x5)] 378 [] := by
  unfold w_X12_makes_F378 at h
  refine z_iload b dX12_makes_378 rfl ?_
  refine z_bipush (v := 9) b dX12_makes_380 (by decide) ?_
  refine y_icmp_ge (tgt := 405) (xl := x5.toInt) (yl := 9) b rfl (by decide) dX12_makes_382 (by decide) (fun c1 => ?_) (fun c1 => ?_)
  · replace h := h.1 c1
    refine z_lv0 (lv' := [(0, .ref (a 0)), (1, .int x1)]) [0, 1] rfl ?_
    exact hk405 _ _ h
  · replace h := h.2 c1
    refine z_aload_n b dX12_makes_385 rfl rfl ?_
    refine z_get (q0 := 0) (k9 := 1) (v := .ref (a 2)) b (mw_0 cy a S) rfl in_X12 (by decide) wf_X12_17 rfl dX12_makes_386 ?_
    refine z_iload b dX12_makes_389 rfl ?_
    refine z_aload_n b dX12_makes_391 rfl rfl ?_
    refine z_get (q0 := 0) (k9 := 48) (v := .ref (a 26)) b (mw_0 cy a S) rfl in_X12 (by decide) wf_X12_94 rfl dX12_makes_392 ?_
    refine z_iload b dX12_makes_395 rfl ?_
    obtain ⟨g37, h⟩ := h
    refine y_iald (q0 := 26) (j := x5.toNatClampNeg) (v := ((ar S 25) x5.toNatClampNeg)) b (mw_26 cy a S) (zx_r g37.1 g37.2) rfl dX12_makes_397 ?_
    obtain ⟨g38, h⟩ := h
    refine y_iast (q0 := 2) (j := x5.toNatClampNeg) b (mw_2 cy a S) (zx_r g38.1 g38.2) dX12_makes_398 (mwa_2 cy a S (x5.toNatClampNeg) ((ar S 25) x5.toNatClampNeg)) ?_
    refine z_iinc (k9 := 2) (v := (x5 + 1)) (lv' := [(5, .int (x5 + 1)), (0, .ref (a 0)), (1, .int x1)]) b dX12_makes_399 rfl rfl (by decide) rfl ?_
    refine z_goto (tgt := 378) b dX12_makes_402 (by decide) ?_
    refine z_lv0 (lv' := [(0, .ref (a 0)), (1, .int x1), (5, .int (x5 + 1))]) [1, 2, 0] rfl ?_
    exact hk378 _ _ _ h

set_option maxHeartbeats 4000000 in
set_option maxRecDepth 100000 in
theorem zl_X12_makes_L378 {p : Program} {l : Launch} {e : Env} {R : Room} {s : State} {m : MethodId} {args : Array Value} {below : List Frame} {meth : Method} {c : Code} {D : va_G} {cy : Nat → ClassId} {T0 tB tE : Nat} {A : Nat → Prop} {a : Nat → Nat} {post : Int32 → GS → Prop} {k405 : GS → Int32 → Prop} (b : Bz p R s m args meth c D cy T0 tB tE A 8 cX12_makes RX12 (some .boolean) "makes" 2 54 0 0) (hk405 : ∀ (S : GS) (x1 : Int32), k405 S x1 → Z p l e R s m args below meth c D A 8 (MQ below (QI D (U := GS) post (mw cy a) A) args s 0 0 A) 0 0 (mw cy a S) [(0, .ref (a 0)), (1, .int x1)] 405 []) : ∀ (n : Nat) (S : GS) (x1 : Int32) (x5 : Int32), lpn (w_X12_makes_F378 post k405) (fun _ _ _ => False) n S x1 x5 → Z p l e R s m args below meth c D A 8 (MQ below (QI D (U := GS) post (mw cy a) A) args s 0 0 A) 0 0 (mw cy a S) [(0, .ref (a 0)), (1, .int x1), (5, .int x5)] 378 [] := by
  intro n
  induction n with
  | zero => intro _ _ _ h; exact h.elim
  | succ n ih => intro S x1 x5 h; exact z_X12_makes_F378 b hk405 ih S x1 x5 h

def w_X12_makes_F408 (post : Int32 → GS → Prop) (k436 : GS → Prop) (k408 : GS → Int32 → Int32 → Prop) (S : GS) (x1 : Int32) (x5 : Int32) : Prop :=
  (0 ≤ x1.toInt ∧ x1.toInt < 18) ∧ ((((ar S 9) x1.toNatClampNeg).toInt ≤ x5.toInt → k436 S) ∧ (x5.toInt < ((ar S 9) x1.toNatClampNeg).toInt → w_X12_ties S (((6 : Int32) * x1) + x5) (fun S41 => k408 S41 x1 (x5 + 1))))

set_option maxHeartbeats 4000000 in
set_option maxRecDepth 100000 in
theorem z_X12_makes_F408 {p : Program} {l : Launch} {e : Env} {R : Room} {s : State} {m : MethodId} {args : Array Value} {below : List Frame} {meth : Method} {c : Code} {D : va_G} {cy : Nat → ClassId} {T0 tB tE : Nat} {A : Nat → Prop} {a : Nat → Nat} {post : Int32 → GS → Prop} {k436 : GS → Prop} {k408 : GS → Int32 → Int32 → Prop} (b : Bz p R s m args meth c D cy T0 tB tE A 8 cX12_makes RX12 (some .boolean) "makes" 2 54 0 0) (hk436 : ∀ (S : GS), k436 S → Z p l e R s m args below meth c D A 8 (MQ below (QI D (U := GS) post (mw cy a) A) args s 0 0 A) 0 0 (mw cy a S) [] 436 []) (hk408 : ∀ (S : GS) (x1 : Int32) (x5 : Int32), k408 S x1 x5 → Z p l e R s m args below meth c D A 8 (MQ below (QI D (U := GS) post (mw cy a) A) args s 0 0 A) 0 0 (mw cy a S) [(0, .ref (a 0)), (1, .int x1), (5, .int x5)] 408 []) (S : GS) (x1 : Int32) (x5 : Int32) (h : w_X12_makes_F408 post k436 k408 S x1 x5) : Z p l e R s m args below meth c D A 8 (MQ below (QI D (U := GS) post (mw cy a) A) args s 0 0 A) 0 0 (mw cy a S) [(0, .ref (a 0)), (1, .int x1), (5, .int x5)] 408 [] := by
  unfold w_X12_makes_F408 at h
  refine z_iload b dX12_makes_408 rfl ?_
  refine z_aload_n b dX12_makes_410 rfl rfl ?_
  refine z_get (q0 := 0) (k9 := 11) (v := .ref (a 10)) b (mw_0 cy a S) rfl in_X12 (by decide) wf_X12_42 rfl dX12_makes_411 ?_
  refine z_iload_n b dX12_makes_414 rfl rfl ?_
  obtain ⟨g39, h⟩ := h
  refine y_iald (q0 := 10) (j := x1.toNatClampNeg) (v := ((ar S 9) x1.toNatClampNeg)) b (mw_10 cy a S) (zx_r g39.1 g39.2) rfl dX12_makes_415 ?_
  refine y_icmp_ge (tgt := 436) (xl := x5.toInt) (yl := ((ar S 9) x1.toNatClampNeg).toInt) b rfl rfl dX12_makes_416 (by decide) (fun c1 => ?_) (fun c1 => ?_)
  · replace h := h.1 c1
    refine z_lv0 (lv' := []) [] rfl ?_
    exact hk436 _ h
  · replace h := h.2 c1
    refine z_aload_n b dX12_makes_419 rfl rfl ?_
    refine z_bipush (v := 6) b dX12_makes_420 (by decide) ?_
    refine z_iload_n b dX12_makes_422 rfl rfl ?_
    refine z_imul b dX12_makes_423 rfl ?_
    refine z_iload b dX12_makes_424 rfl ?_
    refine z_iadd b dX12_makes_426 rfl ?_
    refine z_callv b (z_runV (q0 := 0) (As := [.int (((6 : Int32) * x1) + x5)]) (st := []) b (k_X12_ties S (((6 : Int32) * x1) + x5) _ h) cf_X12_ties (mw_0 cy a S) rfl wm_X12_386 wi_X12_ties ws_X12_ties dX12_makes_427 rfl (Nat.le_of_ble_eq_true rfl) ⟨by decide, by decide, by decide, by decide⟩) (fun S41 h => ?_)
    refine z_iinc (k9 := 2) (v := (x5 + 1)) (lv' := [(5, .int (x5 + 1)), (0, .ref (a 0)), (1, .int x1)]) b dX12_makes_430 rfl rfl (by decide) rfl ?_
    refine z_goto (tgt := 408) b dX12_makes_433 (by decide) ?_
    refine z_lv0 (lv' := [(0, .ref (a 0)), (1, .int x1), (5, .int (x5 + 1))]) [1, 2, 0] rfl ?_
    exact hk408 _ _ _ h

set_option maxHeartbeats 4000000 in
set_option maxRecDepth 100000 in
theorem zl_X12_makes_L408 {p : Program} {l : Launch} {e : Env} {R : Room} {s : State} {m : MethodId} {args : Array Value} {below : List Frame} {meth : Method} {c : Code} {D : va_G} {cy : Nat → ClassId} {T0 tB tE : Nat} {A : Nat → Prop} {a : Nat → Nat} {post : Int32 → GS → Prop} {k436 : GS → Prop} (b : Bz p R s m args meth c D cy T0 tB tE A 8 cX12_makes RX12 (some .boolean) "makes" 2 54 0 0) (hk436 : ∀ (S : GS), k436 S → Z p l e R s m args below meth c D A 8 (MQ below (QI D (U := GS) post (mw cy a) A) args s 0 0 A) 0 0 (mw cy a S) [] 436 []) : ∀ (n : Nat) (S : GS) (x1 : Int32) (x5 : Int32), lpn (w_X12_makes_F408 post k436) (fun _ _ _ => False) n S x1 x5 → Z p l e R s m args below meth c D A 8 (MQ below (QI D (U := GS) post (mw cy a) A) args s 0 0 A) 0 0 (mw cy a S) [(0, .ref (a 0)), (1, .int x1), (5, .int x5)] 408 [] := by
  intro n
  induction n with
  | zero => intro _ _ _ h; exact h.elim
  | succ n ih => intro S x1 x5 h; exact z_X12_makes_F408 b hk436 ih S x1 x5 h

def w_X12_makes_B436 (post : Int32 → GS → Prop) (S : GS)  : Prop :=
  post 1 S

set_option maxHeartbeats 4000000 in
set_option maxRecDepth 100000 in
theorem z_X12_makes_B436 {p : Program} {l : Launch} {e : Env} {R : Room} {s : State} {m : MethodId} {args : Array Value} {below : List Frame} {meth : Method} {c : Code} {D : va_G} {cy : Nat → ClassId} {T0 tB tE : Nat} {A : Nat → Prop} {a : Nat → Nat} {post : Int32 → GS → Prop} (b : Bz p R s m args meth c D cy T0 tB tE A 8 cX12_makes RX12 (some .boolean) "makes" 2 54 0 0) (S : GS)  (h : w_X12_makes_B436 post S ) : Z p l e R s m args below meth c D A 8 (MQ below (QI D (U := GS) post (mw cy a) A) args s 0 0 A) 0 0 (mw cy a S) [] 436 [] := by
  unfold w_X12_makes_B436 at h
  refine z_iconst (v := 1) b dX12_makes_436 (by decide) ?_
  exact z_zret (u := S) b rfl (by decide) dX12_makes_437 h rfl (by decide) (by decide)

def w_X12_makes_B405 (post : Int32 → GS → Prop) (S : GS) (x1 : Int32) : Prop :=
  ∃ n, lpn (w_X12_makes_F408 post (w_X12_makes_B436 post)) (fun _ _ _ => False) n S x1 0

set_option maxHeartbeats 4000000 in
set_option maxRecDepth 100000 in
theorem z_X12_makes_B405 {p : Program} {l : Launch} {e : Env} {R : Room} {s : State} {m : MethodId} {args : Array Value} {below : List Frame} {meth : Method} {c : Code} {D : va_G} {cy : Nat → ClassId} {T0 tB tE : Nat} {A : Nat → Prop} {a : Nat → Nat} {post : Int32 → GS → Prop} (b : Bz p R s m args meth c D cy T0 tB tE A 8 cX12_makes RX12 (some .boolean) "makes" 2 54 0 0) (S : GS) (x1 : Int32) (h : w_X12_makes_B405 post S x1) : Z p l e R s m args below meth c D A 8 (MQ below (QI D (U := GS) post (mw cy a) A) args s 0 0 A) 0 0 (mw cy a S) [(0, .ref (a 0)), (1, .int x1)] 405 [] := by
  unfold w_X12_makes_B405 at h
  refine z_iconst (v := 0) b dX12_makes_405 (by decide) ?_
  refine z_istore (lv' := [(5, .int 0), (0, .ref (a 0)), (1, .int x1)]) b dX12_makes_406 (by decide) rfl ?_
  refine z_lv0 (lv' := [(0, .ref (a 0)), (1, .int x1), (5, .int 0)]) [1, 2, 0] rfl ?_
  obtain ⟨n, h⟩ := h
  exact zl_X12_makes_L408 b (fun S h => z_X12_makes_B436 b _ h) n _ _ _ h

def w_X12_makes_B375 (post : Int32 → GS → Prop) (S : GS) (x1 : Int32) : Prop :=
  ∃ n, lpn (w_X12_makes_F378 post (w_X12_makes_B405 post)) (fun _ _ _ => False) n S x1 0

set_option maxHeartbeats 4000000 in
set_option maxRecDepth 100000 in
theorem z_X12_makes_B375 {p : Program} {l : Launch} {e : Env} {R : Room} {s : State} {m : MethodId} {args : Array Value} {below : List Frame} {meth : Method} {c : Code} {D : va_G} {cy : Nat → ClassId} {T0 tB tE : Nat} {A : Nat → Prop} {a : Nat → Nat} {post : Int32 → GS → Prop} (b : Bz p R s m args meth c D cy T0 tB tE A 8 cX12_makes RX12 (some .boolean) "makes" 2 54 0 0) (S : GS) (x1 : Int32) (h : w_X12_makes_B375 post S x1) : Z p l e R s m args below meth c D A 8 (MQ below (QI D (U := GS) post (mw cy a) A) args s 0 0 A) 0 0 (mw cy a S) [(0, .ref (a 0)), (1, .int x1)] 375 [] := by
  unfold w_X12_makes_B375 at h
  refine z_iconst (v := 0) b dX12_makes_375 (by decide) ?_
  refine z_istore (lv' := [(5, .int 0), (0, .ref (a 0)), (1, .int x1)]) b dX12_makes_376 (by decide) rfl ?_
  refine z_lv0 (lv' := [(0, .ref (a 0)), (1, .int x1), (5, .int 0)]) [1, 2, 0] rfl ?_
  obtain ⟨n, h⟩ := h
  exact zl_X12_makes_L378 b (fun S x1 h => z_X12_makes_B405 b _ _ h) n _ _ _ h

def w_X12_makes_B334 (post : Int32 → GS → Prop) (S : GS) (x1 : Int32) (x3 : Int32) (x4 : Int32) : Prop :=
  ((x4.toInt ≠ 0 → ∃ n, lpn (w_X12_makes_F349 post (w_X12_makes_B375 post)) (fun _ _ _ => False) n (si S 0 x3) x1 0) ∧ (x4.toInt = 0 → post 0 S))

set_option maxHeartbeats 4000000 in
set_option maxRecDepth 100000 in
theorem z_X12_makes_B334 {p : Program} {l : Launch} {e : Env} {R : Room} {s : State} {m : MethodId} {args : Array Value} {below : List Frame} {meth : Method} {c : Code} {D : va_G} {cy : Nat → ClassId} {T0 tB tE : Nat} {A : Nat → Prop} {a : Nat → Nat} {post : Int32 → GS → Prop} (b : Bz p R s m args meth c D cy T0 tB tE A 8 cX12_makes RX12 (some .boolean) "makes" 2 54 0 0) (S : GS) (x1 : Int32) (x3 : Int32) (x4 : Int32) (h : w_X12_makes_B334 post S x1 x3 x4) : Z p l e R s m args below meth c D A 8 (MQ below (QI D (U := GS) post (mw cy a) A) args s 0 0 A) 0 0 (mw cy a S) [(0, .ref (a 0)), (1, .int x1), (3, .int x3), (4, .int x4)] 334 [] := by
  unfold w_X12_makes_B334 at h
  refine z_iload b dX12_makes_334 rfl ?_
  refine y_if_ne (tgt := 341) (xl := x4.toInt) b rfl dX12_makes_336 (by decide) (fun c1 => ?_) (fun c1 => ?_)
  · replace h := h.1 c1
    refine z_aload_n b dX12_makes_341 rfl rfl ?_
    refine z_iload_n b dX12_makes_342 rfl rfl ?_
    refine z_put (q0 := 0) (k9 := 5) tyX12 b (mw_0 cy a S) rfl in_X12 tyX12_ok nmX12 (by decide) wf_X12_157 rfl rfl rfl rfl (Nat.le_of_ble_eq_true rfl) dX12_makes_343 (mwp_0_5 cy a S x3) ?_
    refine z_iconst (v := 0) b dX12_makes_346 (by decide) ?_
    refine z_istore (lv' := [(5, .int 0), (0, .ref (a 0)), (1, .int x1), (3, .int x3), (4, .int x4)]) b dX12_makes_347 (by decide) rfl ?_
    refine z_lv0 (lv' := [(0, .ref (a 0)), (1, .int x1), (5, .int 0)]) [1, 2, 0] rfl ?_
    obtain ⟨n, h⟩ := h
    exact zl_X12_makes_L349 b (fun S x1 h => z_X12_makes_B375 b _ _ h) n _ _ _ h
  · replace h := h.2 c1
    refine z_iconst (v := 0) b dX12_makes_339 (by decide) ?_
    exact z_zret (u := S) b rfl (by decide) dX12_makes_340 h rfl (by decide) (by decide)

def w_X12_makes_B290 (post : Int32 → GS → Prop) (S : GS) (x1 : Int32) (x3 : Int32) (x4 : Int32) : Prop :=
  ∃ n, lpn (w_X12_makes_F293 post (w_X12_makes_B334 post)) (fun _ _ _ _ _ => False) n S x1 x3 x4 0

set_option maxHeartbeats 4000000 in
set_option maxRecDepth 100000 in
theorem z_X12_makes_B290 {p : Program} {l : Launch} {e : Env} {R : Room} {s : State} {m : MethodId} {args : Array Value} {below : List Frame} {meth : Method} {c : Code} {D : va_G} {cy : Nat → ClassId} {T0 tB tE : Nat} {A : Nat → Prop} {a : Nat → Nat} {post : Int32 → GS → Prop} (b : Bz p R s m args meth c D cy T0 tB tE A 8 cX12_makes RX12 (some .boolean) "makes" 2 54 0 0) (S : GS) (x1 : Int32) (x3 : Int32) (x4 : Int32) (h : w_X12_makes_B290 post S x1 x3 x4) : Z p l e R s m args below meth c D A 8 (MQ below (QI D (U := GS) post (mw cy a) A) args s 0 0 A) 0 0 (mw cy a S) [(0, .ref (a 0)), (1, .int x1), (3, .int x3), (4, .int x4)] 290 [] := by
  unfold w_X12_makes_B290 at h
  refine z_iconst (v := 0) b dX12_makes_290 (by decide) ?_
  refine z_istore (lv' := [(5, .int 0), (0, .ref (a 0)), (1, .int x1), (3, .int x3), (4, .int x4)]) b dX12_makes_291 (by decide) rfl ?_
  refine z_lv0 (lv' := [(0, .ref (a 0)), (1, .int x1), (3, .int x3), (4, .int x4), (5, .int 0)]) [1, 2, 3, 4, 0] rfl ?_
  obtain ⟨n, h⟩ := h
  exact zl_X12_makes_L293 b (fun S x1 x3 x4 h => z_X12_makes_B334 b _ _ _ _ h) n _ _ _ _ _ h

def w_X12_makes_B238 (post : Int32 → GS → Prop) (S : GS) (x1 : Int32) (x3 : Int32) : Prop :=
  w_X12_isIn S x3 0 15 (fun r27 S28 => ∃ n, lpn (w_X12_makes_F250 post (w_X12_makes_B290 post)) (fun _ _ _ _ _ => False) n S28 x1 x3 r27 0)

set_option maxHeartbeats 4000000 in
set_option maxRecDepth 100000 in
theorem z_X12_makes_B238 {p : Program} {l : Launch} {e : Env} {R : Room} {s : State} {m : MethodId} {args : Array Value} {below : List Frame} {meth : Method} {c : Code} {D : va_G} {cy : Nat → ClassId} {T0 tB tE : Nat} {A : Nat → Prop} {a : Nat → Nat} {post : Int32 → GS → Prop} (b : Bz p R s m args meth c D cy T0 tB tE A 8 cX12_makes RX12 (some .boolean) "makes" 2 54 0 0) (S : GS) (x1 : Int32) (x3 : Int32) (h : w_X12_makes_B238 post S x1 x3) : Z p l e R s m args below meth c D A 8 (MQ below (QI D (U := GS) post (mw cy a) A) args s 0 0 A) 0 0 (mw cy a S) [(0, .ref (a 0)), (1, .int x1), (3, .int x3)] 238 [] := by
  unfold w_X12_makes_B238 at h
  refine z_iload_n b dX12_makes_238 rfl rfl ?_
  refine z_iconst (v := 0) b dX12_makes_239 (by decide) ?_
  refine z_bipush (v := 15) b dX12_makes_240 (by decide) ?_
  refine z_calli b (z_runS (As := [.int x3, .int 0, .int 15]) (st := []) b (k_X12_isIn S x3 0 15 _ h) cf_X12_isIn wm_X12_1 ws_X12_isIn dX12_makes_242 rfl (Nat.le_of_ble_eq_true rfl) ⟨by decide, by decide, by decide, by decide⟩) (fun r27 S28 h => ?_)
  refine z_istore (lv' := [(4, .int r27), (0, .ref (a 0)), (1, .int x1), (3, .int x3)]) b dX12_makes_245 (by decide) rfl ?_
  refine z_iconst (v := 0) b dX12_makes_247 (by decide) ?_
  refine z_istore (lv' := [(5, .int 0), (4, .int r27), (0, .ref (a 0)), (1, .int x1), (3, .int x3)]) b dX12_makes_248 (by decide) rfl ?_
  refine z_lv0 (lv' := [(0, .ref (a 0)), (1, .int x1), (3, .int x3), (4, .int r27), (5, .int 0)]) [2, 3, 4, 1, 0] rfl ?_
  obtain ⟨n, h⟩ := h
  exact zl_X12_makes_L250 b (fun S x1 x3 x4 h => z_X12_makes_B290 b _ _ _ _ h) n _ _ _ _ _ h

def w_X12_makes_B56 (post : Int32 → GS → Prop) (S : GS) (x1 : Int32) (x2 : Int32) : Prop :=
  ∃ n, lpn (w_X12_makes_F64 post (w_X12_makes_B238 post)) (fun _ _ _ _ _ => False) n S x1 x2 (fi S 0) 0

set_option maxHeartbeats 4000000 in
set_option maxRecDepth 100000 in
theorem z_X12_makes_B56 {p : Program} {l : Launch} {e : Env} {R : Room} {s : State} {m : MethodId} {args : Array Value} {below : List Frame} {meth : Method} {c : Code} {D : va_G} {cy : Nat → ClassId} {T0 tB tE : Nat} {A : Nat → Prop} {a : Nat → Nat} {post : Int32 → GS → Prop} (b : Bz p R s m args meth c D cy T0 tB tE A 8 cX12_makes RX12 (some .boolean) "makes" 2 54 0 0) (S : GS) (x1 : Int32) (x2 : Int32) (h : w_X12_makes_B56 post S x1 x2) : Z p l e R s m args below meth c D A 8 (MQ below (QI D (U := GS) post (mw cy a) A) args s 0 0 A) 0 0 (mw cy a S) [(0, .ref (a 0)), (1, .int x1), (2, .int x2)] 56 [] := by
  unfold w_X12_makes_B56 at h
  refine z_aload_n b dX12_makes_56 rfl rfl ?_
  refine z_get (q0 := 0) (k9 := 5) (v := .int (fi S 0)) b (mw_0 cy a S) rfl in_X12 (by decide) wf_X12_157 rfl dX12_makes_57 ?_
  refine z_istore_n (lv' := [(3, .int (fi S 0)), (0, .ref (a 0)), (1, .int x1), (2, .int x2)]) b dX12_makes_60 rfl (by decide) rfl ?_
  refine z_iconst (v := 0) b dX12_makes_61 (by decide) ?_
  refine z_istore (lv' := [(4, .int 0), (3, .int (fi S 0)), (0, .ref (a 0)), (1, .int x1), (2, .int x2)]) b dX12_makes_62 (by decide) rfl ?_
  refine z_lv0 (lv' := [(0, .ref (a 0)), (1, .int x1), (2, .int x2), (3, .int (fi S 0)), (4, .int 0)]) [2, 3, 4, 1, 0] rfl ?_
  obtain ⟨n, h⟩ := h
  exact zl_X12_makes_L64 b (fun S x1 x3 h => z_X12_makes_B238 b _ _ _ h) n _ _ _ _ _ h

def w_X12_makes_B30 (post : Int32 → GS → Prop) (S : GS) (x1 : Int32) (x2 : Int32) : Prop :=
  ∃ n, lpn (w_X12_makes_F32 post (w_X12_makes_B56 post)) (fun _ _ _ _ => False) n S x1 x2 0

set_option maxHeartbeats 4000000 in
set_option maxRecDepth 100000 in
theorem z_X12_makes_B30 {p : Program} {l : Launch} {e : Env} {R : Room} {s : State} {m : MethodId} {args : Array Value} {below : List Frame} {meth : Method} {c : Code} {D : va_G} {cy : Nat → ClassId} {T0 tB tE : Nat} {A : Nat → Prop} {a : Nat → Nat} {post : Int32 → GS → Prop} (b : Bz p R s m args meth c D cy T0 tB tE A 8 cX12_makes RX12 (some .boolean) "makes" 2 54 0 0) (S : GS) (x1 : Int32) (x2 : Int32) (h : w_X12_makes_B30 post S x1 x2) : Z p l e R s m args below meth c D A 8 (MQ below (QI D (U := GS) post (mw cy a) A) args s 0 0 A) 0 0 (mw cy a S) [(0, .ref (a 0)), (1, .int x1), (2, .int x2)] 30 [] := by
  unfold w_X12_makes_B30 at h
  refine z_iconst (v := 0) b dX12_makes_30 (by decide) ?_
  refine z_istore_n (lv' := [(3, .int 0), (0, .ref (a 0)), (1, .int x1), (2, .int x2)]) b dX12_makes_31 rfl (by decide) rfl ?_
  refine z_lv0 (lv' := [(0, .ref (a 0)), (1, .int x1), (2, .int x2), (3, .int 0)]) [1, 2, 3, 0] rfl ?_
  obtain ⟨n, h⟩ := h
  exact zl_X12_makes_L32 b (fun S x1 x2 h => z_X12_makes_B56 b _ _ _ h) n _ _ _ _ h

def w_X12_makes (S : GS) (p0 : Int32) (post : Int32 → GS → Prop) : Prop :=
  ∃ n, lpn (w_X12_makes_F7 post (w_X12_makes_B30 post)) (fun _ _ _ _ => False) n S p0 (p0 / 6) 0

set_option maxHeartbeats 4000000 in
set_option maxRecDepth 100000 in
theorem k_X12_makes {l : Launch} {D : va_G} {cy : Nat → ClassId} {T0 tB tE : Nat} {a : Nat → Nat} (S : GS) (p0 : Int32) (post : Int32 → GS → Prop) (h : w_X12_makes S p0 post) : Ct l D cy T0 tB tE yX12_makes cX12_makes 8 (some .boolean) 2 54 0 0 (mw cy a S) [.ref (a 0), .int p0] (QI D (U := GS) post (mw cy a)) := by
  refine Ct.ofZ RX12 "makes" [(0, .ref (a 0)), (1, .int p0)] rfl rfl rfl rfl (Nat.le_of_ble_eq_true rfl) ?_
  intro p e R s m args below meth c A b
  unfold w_X12_makes at h
  refine z_iload_n b dX12_makes_0 rfl rfl ?_
  refine z_bipush (v := 6) b dX12_makes_1 (by decide) ?_
  refine z_idiv b dX12_makes_3 (by decide) rfl ?_
  refine z_istore_n (lv' := [(2, .int (p0 / 6)), (0, .ref (a 0)), (1, .int p0)]) b dX12_makes_4 rfl (by decide) rfl ?_
  refine z_iconst (v := 0) b dX12_makes_5 (by decide) ?_
  refine z_istore_n (lv' := [(3, .int 0), (2, .int (p0 / 6)), (0, .ref (a 0)), (1, .int p0)]) b dX12_makes_6 rfl (by decide) rfl ?_
  refine z_lv0 (lv' := [(0, .ref (a 0)), (1, .int p0), (2, .int (p0 / 6)), (3, .int 0)]) [2, 3, 1, 0] rfl ?_
  obtain ⟨n, h⟩ := h
  exact zl_X12_makes_L7 b (fun S x1 x2 h => z_X12_makes_B30 b _ _ _ h) n _ _ _ _ h

def w_X12_whyNot_F27 (post : Int32 → GS → Prop) (k85 : GS → Int32 → Int32 → Prop) (k27 : GS → Int32 → Int32 → Int32 → Prop) (S : GS) (x5 : Int32) (x6 : Int32) (x7 : Int32) : Prop :=
  (0 ≤ x6.toInt ∧ x6.toInt < 18) ∧ ((((ar S 8) x6.toNatClampNeg).toInt ≤ x7.toInt → k85 S x5 x6) ∧ (x7.toInt < ((ar S 8) x6.toNatClampNeg).toInt → (0 ≤ (((4 : Int32) * x6) + x7).toInt ∧ (((4 : Int32) * x6) + x7).toInt < 72) ∧ (0 ≤ (((4 : Int32) * x6) + x7).toInt ∧ (((4 : Int32) * x6) + x7).toInt < 72) ∧ w_X12_comesTo S (x6 / 6) ((ar S 10) (((4 : Int32) * x6) + x7).toNatClampNeg) ((ar S 11) (((4 : Int32) * x6) + x7).toNatClampNeg) (fun r8 S9 => ((r8.toInt = 1 → k27 S9 x5 x6 (x7 + 1)) ∧ (r8.toInt ≠ 1 → post x7 S9)))))

set_option maxHeartbeats 4000000 in
set_option maxRecDepth 100000 in
theorem z_X12_whyNot_F27 {p : Program} {l : Launch} {e : Env} {R : Room} {s : State} {m : MethodId} {args : Array Value} {below : List Frame} {meth : Method} {c : Code} {D : va_G} {cy : Nat → ClassId} {T0 tB tE : Nat} {A : Nat → Prop} {a : Nat → Nat} {post : Int32 → GS → Prop} {k85 : GS → Int32 → Int32 → Prop} {k27 : GS → Int32 → Int32 → Int32 → Prop} (b : Bz p R s m args meth c D cy T0 tB tE A 8 cX12_whyNot RX12 (some .int) "whyNot" 3 81 0 0) (hk85 : ∀ (S : GS) (x5 : Int32) (x6 : Int32), k85 S x5 x6 → Z p l e R s m args below meth c D A 8 (MQ below (QI D (U := GS) post (mw cy a) A) args s 0 0 A) 0 0 (mw cy a S) [(0, .ref (a 0)), (5, .int x5), (6, .int x6)] 85 []) (hk27 : ∀ (S : GS) (x5 : Int32) (x6 : Int32) (x7 : Int32), k27 S x5 x6 x7 → Z p l e R s m args below meth c D A 8 (MQ below (QI D (U := GS) post (mw cy a) A) args s 0 0 A) 0 0 (mw cy a S) [(0, .ref (a 0)), (5, .int x5), (6, .int x6), (7, .int x7)] 27 []) (S : GS) (x5 : Int32) (x6 : Int32) (x7 : Int32) (h : w_X12_whyNot_F27 post k85 k27 S x5 x6 x7) : Z p l e R s m args below meth c D A 8 (MQ below (QI D (U := GS) post (mw cy a) A) args s 0 0 A) 0 0 (mw cy a S) [(0, .ref (a 0)), (5, .int x5), (6, .int x6), (7, .int x7)] 27 [] := by
  unfold w_X12_whyNot_F27 at h
  refine z_iload b dX12_whyNot_27 rfl ?_
  refine z_aload_n b dX12_whyNot_29 rfl rfl ?_
  refine z_get (q0 := 0) (k9 := 10) (v := .ref (a 9)) b (mw_0 cy a S) rfl in_X12 (by decide) wf_X12_39 rfl dX12_whyNot_30 ?_
  refine z_iload b dX12_whyNot_33 rfl ?_
  obtain ⟨g5, h⟩ := h
  refine y_iald (q0 := 9) (j := x6.toNatClampNeg) (v := ((ar S 8) x6.toNatClampNeg)) b (mw_9 cy a S) (zx_r g5.1 g5.2) rfl dX12_whyNot_35 ?_
  refine y_icmp_ge (tgt := 85) (xl := x7.toInt) (yl := ((ar S 8) x6.toNatClampNeg).toInt) b rfl rfl dX12_whyNot_36 (by decide) (fun c1 => ?_) (fun c1 => ?_)
  · replace h := h.1 c1
    refine z_lv0 (lv' := [(0, .ref (a 0)), (5, .int x5), (6, .int x6)]) [0, 1, 2] rfl ?_
    exact hk85 _ _ _ h
  · replace h := h.2 c1
    refine z_aload_n b dX12_whyNot_39 rfl rfl ?_
    refine z_iload b dX12_whyNot_40 rfl ?_
    refine z_bipush (v := 6) b dX12_whyNot_42 (by decide) ?_
    refine z_idiv b dX12_whyNot_44 (by decide) rfl ?_
    refine z_aload_n b dX12_whyNot_45 rfl rfl ?_
    refine z_get (q0 := 0) (k9 := 12) (v := .ref (a 11)) b (mw_0 cy a S) rfl in_X12 (by decide) wf_X12_45 rfl dX12_whyNot_46 ?_
    refine z_iconst (v := 4) b dX12_whyNot_49 (by decide) ?_
    refine z_iload b dX12_whyNot_50 rfl ?_
    refine z_imul b dX12_whyNot_52 rfl ?_
    refine z_iload b dX12_whyNot_53 rfl ?_
    refine z_iadd b dX12_whyNot_55 rfl ?_
    obtain ⟨g6, h⟩ := h
    refine y_iald (q0 := 11) (j := (((4 : Int32) * x6) + x7).toNatClampNeg) (v := ((ar S 10) (((4 : Int32) * x6) + x7).toNatClampNeg)) b (mw_11 cy a S) (zx_r g6.1 g6.2) rfl dX12_whyNot_56 ?_
    refine z_aload_n b dX12_whyNot_57 rfl rfl ?_
    refine z_get (q0 := 0) (k9 := 13) (v := .ref (a 12)) b (mw_0 cy a S) rfl in_X12 (by decide) wf_X12_48 rfl dX12_whyNot_58 ?_
    refine z_iconst (v := 4) b dX12_whyNot_61 (by decide) ?_
    refine z_iload b dX12_whyNot_62 rfl ?_
    refine z_imul b dX12_whyNot_64 rfl ?_
    refine z_iload b dX12_whyNot_65 rfl ?_
    refine z_iadd b dX12_whyNot_67 rfl ?_
    obtain ⟨g7, h⟩ := h
    refine y_iald (q0 := 12) (j := (((4 : Int32) * x6) + x7).toNatClampNeg) (v := ((ar S 11) (((4 : Int32) * x6) + x7).toNatClampNeg)) b (mw_12 cy a S) (zx_r g7.1 g7.2) rfl dX12_whyNot_68 ?_
    refine z_calli b (z_runV (q0 := 0) (As := [.int (x6 / 6), .int ((ar S 10) (((4 : Int32) * x6) + x7).toNatClampNeg), .int ((ar S 11) (((4 : Int32) * x6) + x7).toNatClampNeg)]) (st := []) b (k_X12_comesTo S (x6 / 6) ((ar S 10) (((4 : Int32) * x6) + x7).toNatClampNeg) ((ar S 11) (((4 : Int32) * x6) + x7).toNatClampNeg) _ h) cf_X12_comesTo (mw_0 cy a S) rfl wm_X12_380 wi_X12_comesTo ws_X12_comesTo dX12_whyNot_69 rfl (Nat.le_of_ble_eq_true rfl) ⟨by decide, by decide, by decide, by decide⟩) (fun r8 S9 h => ?_)
    refine z_iconst (v := 1) b dX12_whyNot_72 (by decide) ?_
    refine y_icmp_eq (tgt := 79) (xl := r8.toInt) (yl := 1) b rfl (by decide) dX12_whyNot_73 (by decide) (fun c1 => ?_) (fun c1 => ?_)
    · replace h := h.1 c1
      refine z_iinc (k9 := 3) (v := (x7 + 1)) (lv' := [(7, .int (x7 + 1)), (0, .ref (a 0)), (5, .int x5), (6, .int x6)]) b dX12_whyNot_79 rfl rfl (by decide) rfl ?_
      refine z_goto (tgt := 27) b dX12_whyNot_82 (by decide) ?_
      refine z_lv0 (lv' := [(0, .ref (a 0)), (5, .int x5), (6, .int x6), (7, .int (x7 + 1))]) [1, 2, 3, 0] rfl ?_
      exact hk27 _ _ _ _ h
    · replace h := h.2 c1
      refine z_iload b dX12_whyNot_76 rfl ?_
      exact z_iret (u := S9) b rfl dX12_whyNot_78 h rfl (by decide) (by decide)

set_option maxHeartbeats 4000000 in
set_option maxRecDepth 100000 in
theorem zl_X12_whyNot_L27 {p : Program} {l : Launch} {e : Env} {R : Room} {s : State} {m : MethodId} {args : Array Value} {below : List Frame} {meth : Method} {c : Code} {D : va_G} {cy : Nat → ClassId} {T0 tB tE : Nat} {A : Nat → Prop} {a : Nat → Nat} {post : Int32 → GS → Prop} {k85 : GS → Int32 → Int32 → Prop} (b : Bz p R s m args meth c D cy T0 tB tE A 8 cX12_whyNot RX12 (some .int) "whyNot" 3 81 0 0) (hk85 : ∀ (S : GS) (x5 : Int32) (x6 : Int32), k85 S x5 x6 → Z p l e R s m args below meth c D A 8 (MQ below (QI D (U := GS) post (mw cy a) A) args s 0 0 A) 0 0 (mw cy a S) [(0, .ref (a 0)), (5, .int x5), (6, .int x6)] 85 []) : ∀ (n : Nat) (S : GS) (x5 : Int32) (x6 : Int32) (x7 : Int32), lpn (w_X12_whyNot_F27 post k85) (fun _ _ _ _ => False) n S x5 x6 x7 → Z p l e R s m args below meth c D A 8 (MQ below (QI D (U := GS) post (mw cy a) A) args s 0 0 A) 0 0 (mw cy a S) [(0, .ref (a 0)), (5, .int x5), (6, .int x6), (7, .int x7)] 27 [] := by
  intro n
  induction n with
  | zero => intro _ _ _ _ h; exact h.elim
  | succ n ih => intro S x5 x6 x7 h; exact z_X12_whyNot_F27 b hk85 ih S x5 x6 x7 h

def w_X12_whyNot_B150 (post : Int32 → GS → Prop) (k88 : GS → Int32 → Int32 → Int32 → Prop) (k156 : GS → Int32 → Prop) (S : GS) (x5 : Int32) (x6 : Int32) (x7 : Int32) : Prop :=
  k88 S x5 x6 (x7 + 1)

set_option maxHeartbeats 4000000 in
set_option maxRecDepth 100000 in
theorem z_X12_whyNot_B150 {p : Program} {l : Launch} {e : Env} {R : Room} {s : State} {m : MethodId} {args : Array Value} {below : List Frame} {meth : Method} {c : Code} {D : va_G} {cy : Nat → ClassId} {T0 tB tE : Nat} {A : Nat → Prop} {a : Nat → Nat} {post : Int32 → GS → Prop} {k88 : GS → Int32 → Int32 → Int32 → Prop} {k156 : GS → Int32 → Prop} (b : Bz p R s m args meth c D cy T0 tB tE A 8 cX12_whyNot RX12 (some .int) "whyNot" 3 81 0 0) (hk88 : ∀ (S : GS) (x5 : Int32) (x6 : Int32) (x7 : Int32), k88 S x5 x6 x7 → Z p l e R s m args below meth c D A 8 (MQ below (QI D (U := GS) post (mw cy a) A) args s 0 0 A) 0 0 (mw cy a S) [(0, .ref (a 0)), (5, .int x5), (6, .int x6), (7, .int x7)] 88 []) (hk156 : ∀ (S : GS) (x6 : Int32), k156 S x6 → Z p l e R s m args below meth c D A 8 (MQ below (QI D (U := GS) post (mw cy a) A) args s 0 0 A) 0 0 (mw cy a S) [(0, .ref (a 0)), (6, .int x6)] 156 []) (S : GS) (x5 : Int32) (x6 : Int32) (x7 : Int32) (h : w_X12_whyNot_B150 post k88 k156 S x5 x6 x7) : Z p l e R s m args below meth c D A 8 (MQ below (QI D (U := GS) post (mw cy a) A) args s 0 0 A) 0 0 (mw cy a S) [(0, .ref (a 0)), (5, .int x5), (6, .int x6), (7, .int x7)] 150 [] := by
  unfold w_X12_whyNot_B150 at h
  refine z_iinc (k9 := 3) (v := (x7 + 1)) (lv' := [(7, .int (x7 + 1)), (0, .ref (a 0)), (5, .int x5), (6, .int x6)]) b dX12_whyNot_150 rfl rfl (by decide) rfl ?_
  refine z_goto (tgt := 88) b dX12_whyNot_153 (by decide) ?_
  refine z_lv0 (lv' := [(0, .ref (a 0)), (5, .int x5), (6, .int x6), (7, .int (x7 + 1))]) [1, 2, 3, 0] rfl ?_
  exact hk88 _ _ _ _ h

