def w_X12_whyNot_F88 (post : Int32 → GS → Prop) (k156 : GS → Int32 → Prop) (k88 : GS → Int32 → Int32 → Int32 → Prop) (S : GS) (x5 : Int32) (x6 : Int32) (x7 : Int32) : Prop :=
  (((fi S 17).toInt ≤ x7.toInt → k156 S x6) ∧ (x7.toInt < (fi S 17).toInt → ((((x5 >>> (x7 &&& 31)) &&& 1).toInt ≠ 1 → w_X12_whyNot_B150 post k88 k156 S x5 x6 x7) ∧ (((x5 >>> (x7 &&& 31)) &&& 1).toInt = 1 → (0 ≤ x7.toInt ∧ x7.toInt < 5) ∧ ((((ar S 23) x7.toNatClampNeg).toInt ≠ x6.toInt → w_X12_whyNot_B150 post k88 k156 S x5 x6 x7) ∧ (((ar S 23) x7.toNatClampNeg).toInt = x6.toInt → (0 ≤ ((8 : Int32) + x7).toInt ∧ ((8 : Int32) + x7).toInt < 14) ∧ w_X12_comesTo S ((8 : Int32) + x7) 0 ((ar S 6) ((8 : Int32) + x7).toNatClampNeg) (fun r12 S13 => ((r12.toInt = 1 → w_X12_whyNot_B150 post k88 k156 S13 x5 x6 x7) ∧ (r12.toInt ≠ 1 → post ((10 : Int32) + x7) S13)))))))))

set_option maxHeartbeats 4000000 in
set_option maxRecDepth 100000 in
theorem z_X12_whyNot_F88 {p : Program} {l : Launch} {e : Env} {R : Room} {s : State} {m : MethodId} {args : Array Value} {below : List Frame} {meth : Method} {c : Code} {D : va_G} {cy : Nat → ClassId} {T0 tB tE : Nat} {A : Nat → Prop} {a : Nat → Nat} {post : Int32 → GS → Prop} {k156 : GS → Int32 → Prop} {k88 : GS → Int32 → Int32 → Int32 → Prop} (b : Bz p R s m args meth c D cy T0 tB tE A 8 cX12_whyNot RX12 (some .int) "whyNot" 3 81 0 0) (hk156 : ∀ (S : GS) (x6 : Int32), k156 S x6 → Z p l e R s m args below meth c D A 8 (MQ below (QI D (U := GS) post (mw cy a) A) args s 0 0 A) 0 0 (mw cy a S) [(0, .ref (a 0)), (6, .int x6)] 156 []) (hk88 : ∀ (S : GS) (x5 : Int32) (x6 : Int32) (x7 : Int32), k88 S x5 x6 x7 → Z p l e R s m args below meth c D A 8 (MQ below (QI D (U := GS) post (mw cy a) A) args s 0 0 A) 0 0 (mw cy a S) [(0, .ref (a 0)), (5, .int x5), (6, .int x6), (7, .int x7)] 88 []) (S : GS) (x5 : Int32) (x6 : Int32) (x7 : Int32) (h : w_X12_whyNot_F88 post k156 k88 S x5 x6 x7) : Z p l e R s m args below meth c D A 8 (MQ below (QI D (U := GS) post (mw cy a) A) args s 0 0 A) 0 0 (mw cy a S) [(0, .ref (a 0)), (5, .int x5), (6, .int x6), (7, .int x7)] 88 [] := by
  unfold w_X12_whyNot_F88 at h
  refine z_iload b dX12_whyNot_88 rfl ?_
  refine z_aload_n b dX12_whyNot_90 rfl rfl ?_
  refine z_get (q0 := 0) (k9 := 41) (v := .int (fi S 17)) b (mw_0 cy a S) rfl in_X12 (by decide) wf_X12_358 rfl dX12_whyNot_91 ?_
  refine y_icmp_ge (tgt := 156) (xl := x7.toInt) (yl := (fi S 17).toInt) b rfl rfl dX12_whyNot_94 (by decide) (fun c1 => ?_) (fun c1 => ?_)
  · replace h := h.1 c1
    refine z_lv0 (lv' := [(0, .ref (a 0)), (6, .int x6)]) [0, 2] rfl ?_
    exact hk156 _ _ h
  · replace h := h.2 c1
    refine z_iload b dX12_whyNot_97 rfl ?_
    refine z_iload b dX12_whyNot_99 rfl ?_
    refine z_ishr b dX12_whyNot_101 rfl ?_
    refine z_iconst (v := 1) b dX12_whyNot_102 (by decide) ?_
    refine z_iand b dX12_whyNot_103 rfl ?_
    refine z_iconst (v := 1) b dX12_whyNot_104 (by decide) ?_
    refine y_icmp_ne (tgt := 150) (xl := ((x5 >>> (x7 &&& 31)) &&& 1).toInt) (yl := 1) b rfl (by decide) dX12_whyNot_105 (by decide) (fun c1 => ?_) (fun c1 => ?_)
    · replace h := h.1 c1
      exact z_X12_whyNot_B150 b hk88 hk156 _ _ _ _ h
    · replace h := h.2 c1
      refine z_aload_n b dX12_whyNot_108 rfl rfl ?_
      refine z_get (q0 := 0) (k9 := 42) (v := .ref (a 24)) b (mw_0 cy a S) rfl in_X12 (by decide) wf_X12_88 rfl dX12_whyNot_109 ?_
      refine z_iload b dX12_whyNot_112 rfl ?_
      obtain ⟨g10, h⟩ := h
      refine y_iald (q0 := 24) (j := x7.toNatClampNeg) (v := ((ar S 23) x7.toNatClampNeg)) b (mw_24 cy a S) (zx_r g10.1 g10.2) rfl dX12_whyNot_114 ?_
      refine z_iload b dX12_whyNot_115 rfl ?_
      refine y_icmp_ne (tgt := 150) (xl := ((ar S 23) x7.toNatClampNeg).toInt) (yl := x6.toInt) b rfl rfl dX12_whyNot_117 (by decide) (fun c1 => ?_) (fun c1 => ?_)
      · replace h := h.1 c1
        exact z_X12_whyNot_B150 b hk88 hk156 _ _ _ _ h
      · replace h := h.2 c1
        refine z_aload_n b dX12_whyNot_120 rfl rfl ?_
        refine z_bipush (v := 8) b dX12_whyNot_121 (by decide) ?_
        refine z_iload b dX12_whyNot_123 rfl ?_
        refine z_iadd b dX12_whyNot_125 rfl ?_
        refine z_iconst (v := 0) b dX12_whyNot_126 (by decide) ?_
        refine z_aload_n b dX12_whyNot_127 rfl rfl ?_
        refine z_get (q0 := 0) (k9 := 8) (v := .ref (a 7)) b (mw_0 cy a S) rfl in_X12 (by decide) wf_X12_33 rfl dX12_whyNot_128 ?_
        refine z_bipush (v := 8) b dX12_whyNot_131 (by decide) ?_
        refine z_iload b dX12_whyNot_133 rfl ?_
        refine z_iadd b dX12_whyNot_135 rfl ?_
        obtain ⟨g11, h⟩ := h
        refine y_iald (q0 := 7) (j := ((8 : Int32) + x7).toNatClampNeg) (v := ((ar S 6) ((8 : Int32) + x7).toNatClampNeg)) b (mw_7 cy a S) (zx_r g11.1 g11.2) rfl dX12_whyNot_136 ?_
        refine z_calli b (z_runV (q0 := 0) (As := [.int ((8 : Int32) + x7), .int 0, .int ((ar S 6) ((8 : Int32) + x7).toNatClampNeg)]) (st := []) b (k_X12_comesTo S ((8 : Int32) + x7) 0 ((ar S 6) ((8 : Int32) + x7).toNatClampNeg) _ h) cf_X12_comesTo (mw_0 cy a S) rfl wm_X12_380 wi_X12_comesTo ws_X12_comesTo dX12_whyNot_137 rfl (Nat.le_of_ble_eq_true rfl) ⟨by decide, by decide, by decide, by decide⟩) (fun r12 S13 h => ?_)
        refine z_iconst (v := 1) b dX12_whyNot_140 (by decide) ?_
        refine y_icmp_eq (tgt := 150) (xl := r12.toInt) (yl := 1) b rfl (by decide) dX12_whyNot_141 (by decide) (fun c1 => ?_) (fun c1 => ?_)
        · replace h := h.1 c1
          exact z_X12_whyNot_B150 b hk88 hk156 _ _ _ _ h
        · replace h := h.2 c1
          refine z_bipush (v := 10) b dX12_whyNot_144 (by decide) ?_
          refine z_iload b dX12_whyNot_146 rfl ?_
          refine z_iadd b dX12_whyNot_148 rfl ?_
          exact z_iret (u := S13) b rfl dX12_whyNot_149 h rfl (by decide) (by decide)

set_option maxHeartbeats 4000000 in
set_option maxRecDepth 100000 in
theorem zl_X12_whyNot_L88 {p : Program} {l : Launch} {e : Env} {R : Room} {s : State} {m : MethodId} {args : Array Value} {below : List Frame} {meth : Method} {c : Code} {D : va_G} {cy : Nat → ClassId} {T0 tB tE : Nat} {A : Nat → Prop} {a : Nat → Nat} {post : Int32 → GS → Prop} {k156 : GS → Int32 → Prop} (b : Bz p R s m args meth c D cy T0 tB tE A 8 cX12_whyNot RX12 (some .int) "whyNot" 3 81 0 0) (hk156 : ∀ (S : GS) (x6 : Int32), k156 S x6 → Z p l e R s m args below meth c D A 8 (MQ below (QI D (U := GS) post (mw cy a) A) args s 0 0 A) 0 0 (mw cy a S) [(0, .ref (a 0)), (6, .int x6)] 156 []) : ∀ (n : Nat) (S : GS) (x5 : Int32) (x6 : Int32) (x7 : Int32), lpn (w_X12_whyNot_F88 post k156) (fun _ _ _ _ => False) n S x5 x6 x7 → Z p l e R s m args below meth c D A 8 (MQ below (QI D (U := GS) post (mw cy a) A) args s 0 0 A) 0 0 (mw cy a S) [(0, .ref (a 0)), (5, .int x5), (6, .int x6), (7, .int x7)] 88 [] := by
  intro n
  induction n with
  | zero => intro _ _ _ _ h; exact h.elim
  | succ n ih => intro S x5 x6 x7 h; exact z_X12_whyNot_F88 b hk156 ih S x5 x6 x7 h

def w_X12_whyNot_B156 (post : Int32 → GS → Prop) (S : GS) (x6 : Int32) : Prop :=
  w_X12_makes S x6 (fun r14 S15 => ((r14.toInt ≠ 0 → w_X12_packs S15 (fun r16 S17 => post (-1) (sl S17 1 r16))) ∧ (r14.toInt = 0 → post 20 S15)))

set_option maxHeartbeats 4000000 in
set_option maxRecDepth 100000 in
theorem z_X12_whyNot_B156 {p : Program} {l : Launch} {e : Env} {R : Room} {s : State} {m : MethodId} {args : Array Value} {below : List Frame} {meth : Method} {c : Code} {D : va_G} {cy : Nat → ClassId} {T0 tB tE : Nat} {A : Nat → Prop} {a : Nat → Nat} {post : Int32 → GS → Prop} (b : Bz p R s m args meth c D cy T0 tB tE A 8 cX12_whyNot RX12 (some .int) "whyNot" 3 81 0 0) (S : GS) (x6 : Int32) (h : w_X12_whyNot_B156 post S x6) : Z p l e R s m args below meth c D A 8 (MQ below (QI D (U := GS) post (mw cy a) A) args s 0 0 A) 0 0 (mw cy a S) [(0, .ref (a 0)), (6, .int x6)] 156 [] := by
  unfold w_X12_whyNot_B156 at h
  refine z_aload_n b dX12_whyNot_156 rfl rfl ?_
  refine z_iload b dX12_whyNot_157 rfl ?_
  refine z_calli b (z_runV (q0 := 0) (As := [.int x6]) (st := []) b (k_X12_makes S x6 _ h) cf_X12_makes (mw_0 cy a S) rfl wm_X12_393 wi_X12_makes ws_X12_makes dX12_whyNot_159 rfl (Nat.le_of_ble_eq_true rfl) ⟨by decide, by decide, by decide, by decide⟩) (fun r14 S15 h => ?_)
  refine y_if_ne (tgt := 168) (xl := r14.toInt) b rfl dX12_whyNot_162 (by decide) (fun c1 => ?_) (fun c1 => ?_)
  · replace h := h.1 c1
    refine z_aload_n b dX12_whyNot_168 rfl rfl ?_
    refine z_aload_n b dX12_whyNot_169 rfl rfl ?_
    refine z_calll b (z_runV (q0 := 0) (As := []) (st := [.ref (a 0)]) b (k_X12_packs S15 _ h) cf_X12_packs (mw_0 cy a S15) rfl wm_X12_149 wi_X12_packs ws_X12_packs dX12_whyNot_170 rfl (Nat.le_of_ble_eq_true rfl) ⟨by decide, by decide, by decide, by decide⟩) (fun r16 S17 h => ?_)
    refine z_put (q0 := 0) (k9 := 46) tyX12 b (mw_0 cy a S17) rfl in_X12 tyX12_ok nmX12 (by decide) wf_X12_396 rfl rfl rfl rfl (Nat.le_of_ble_eq_true rfl) dX12_whyNot_173 (mwp_0_46 cy a S17 r16) ?_
    refine z_iconst (v := (-1)) b dX12_whyNot_176 (by decide) ?_
    exact z_iret (u := (sl S17 1 r16)) b rfl dX12_whyNot_177 h rfl (by decide) (by decide)
  · replace h := h.2 c1
    refine z_bipush (v := 20) b dX12_whyNot_165 (by decide) ?_
    exact z_iret (u := S15) b rfl dX12_whyNot_167 h rfl (by decide) (by decide)

def w_X12_whyNot_B85 (post : Int32 → GS → Prop) (S : GS) (x5 : Int32) (x6 : Int32) : Prop :=
  ∃ n, lpn (w_X12_whyNot_F88 post (w_X12_whyNot_B156 post)) (fun _ _ _ _ => False) n S x5 x6 0

set_option maxHeartbeats 4000000 in
set_option maxRecDepth 100000 in
theorem z_X12_whyNot_B85 {p : Program} {l : Launch} {e : Env} {R : Room} {s : State} {m : MethodId} {args : Array Value} {below : List Frame} {meth : Method} {c : Code} {D : va_G} {cy : Nat → ClassId} {T0 tB tE : Nat} {A : Nat → Prop} {a : Nat → Nat} {post : Int32 → GS → Prop} (b : Bz p R s m args meth c D cy T0 tB tE A 8 cX12_whyNot RX12 (some .int) "whyNot" 3 81 0 0) (S : GS) (x5 : Int32) (x6 : Int32) (h : w_X12_whyNot_B85 post S x5 x6) : Z p l e R s m args below meth c D A 8 (MQ below (QI D (U := GS) post (mw cy a) A) args s 0 0 A) 0 0 (mw cy a S) [(0, .ref (a 0)), (5, .int x5), (6, .int x6)] 85 [] := by
  unfold w_X12_whyNot_B85 at h
  refine z_iconst (v := 0) b dX12_whyNot_85 (by decide) ?_
  refine z_istore (lv' := [(7, .int 0), (0, .ref (a 0)), (5, .int x5), (6, .int x6)]) b dX12_whyNot_86 (by decide) rfl ?_
  refine z_lv0 (lv' := [(0, .ref (a 0)), (5, .int x5), (6, .int x6), (7, .int 0)]) [1, 2, 3, 0] rfl ?_
  obtain ⟨n, h⟩ := h
  exact zl_X12_whyNot_L88 b (fun S x6 h => z_X12_whyNot_B156 b _ _ h) n _ _ _ _ h

def w_X12_whyNot (S : GS) (p0 : Int64) (p1 : Int32) (p2 : Int32) (p3 : Int32) (post : Int32 → GS → Prop) : Prop :=
  w_X12_isCode S p1 p2 (fun r1 S2 => ((r1.toInt ≠ 0 → w_X12_takes S2 p0 (fun S4 => ∃ n, lpn (w_X12_whyNot_F27 post (w_X12_whyNot_B85 post)) (fun _ _ _ _ => False) n S4 p3 (p1 / 64) 0)) ∧ (r1.toInt = 0 → post 30 S2)))

set_option maxHeartbeats 4000000 in
set_option maxRecDepth 100000 in
theorem k_X12_whyNot {l : Launch} {D : va_G} {cy : Nat → ClassId} {T0 tB tE : Nat} {a : Nat → Nat} (S : GS) (p0 : Int64) (p1 : Int32) (p2 : Int32) (p3 : Int32) (post : Int32 → GS → Prop) (h : w_X12_whyNot S p0 p1 p2 p3 post) : Ct l D cy T0 tB tE yX12_whyNot cX12_whyNot 8 (some .int) 3 81 0 0 (mw cy a S) [.ref (a 0), .long p0, .int p1, .int p2, .int p3] (QI D (U := GS) post (mw cy a)) := by
  refine Ct.ofZ RX12 "whyNot" [(0, .ref (a 0)), (1, .long p0), (3, .int p1), (4, .int p2), (5, .int p3)] rfl rfl rfl rfl (Nat.le_of_ble_eq_true rfl) ?_
  intro p e R s m args below meth c A b
  unfold w_X12_whyNot at h
  refine z_aload_n b dX12_whyNot_0 rfl rfl ?_
  refine z_iload_n b dX12_whyNot_1 rfl rfl ?_
  refine z_iload b dX12_whyNot_2 rfl ?_
  refine z_calli b (z_runV (q0 := 0) (As := [.int p1, .int p2]) (st := []) b (k_X12_isCode S p1 p2 _ h) cf_X12_isCode (mw_0 cy a S) rfl wm_X12_389 wi_X12_isCode ws_X12_isCode dX12_whyNot_4 rfl (Nat.le_of_ble_eq_true rfl) ⟨by decide, by decide, by decide, by decide⟩) (fun r1 S2 h => ?_)
  refine y_if_ne (tgt := 13) (xl := r1.toInt) b rfl dX12_whyNot_7 (by decide) (fun c1 => ?_) (fun c1 => ?_)
  · replace h := h.1 c1
    refine z_aload_n b dX12_whyNot_13 rfl rfl ?_
    refine z_lload_n b dX12_whyNot_14 rfl rfl ?_
    refine z_callv b (z_runV (q0 := 0) (As := [.long p0]) (st := []) b (k_X12_takes S2 p0 _ h) cf_X12_takes (mw_0 cy a S2) rfl wm_X12_174 wi_X12_takes ws_X12_takes dX12_whyNot_15 rfl (Nat.le_of_ble_eq_true rfl) ⟨by decide, by decide, by decide, by decide⟩) (fun S4 h => ?_)
    refine z_iload_n b dX12_whyNot_18 rfl rfl ?_
    refine z_bipush (v := 64) b dX12_whyNot_19 (by decide) ?_
    refine z_idiv b dX12_whyNot_21 (by decide) rfl ?_
    refine z_istore (lv' := [(6, .int (p1 / 64)), (0, .ref (a 0)), (1, .long p0), (3, .int p1), (4, .int p2), (5, .int p3)]) b dX12_whyNot_22 (by decide) rfl ?_
    refine z_iconst (v := 0) b dX12_whyNot_24 (by decide) ?_
    refine z_istore (lv' := [(7, .int 0), (6, .int (p1 / 64)), (0, .ref (a 0)), (1, .long p0), (3, .int p1), (4, .int p2), (5, .int p3)]) b dX12_whyNot_25 (by decide) rfl ?_
    refine z_lv0 (lv' := [(0, .ref (a 0)), (5, .int p3), (6, .int (p1 / 64)), (7, .int 0)]) [2, 6, 1, 0] rfl ?_
    obtain ⟨n, h⟩ := h
    exact zl_X12_whyNot_L27 b (fun S x5 x6 h => z_X12_whyNot_B85 b _ _ _ h) n _ _ _ _ h
  · replace h := h.2 c1
    refine z_bipush (v := 30) b dX12_whyNot_10 (by decide) ?_
    exact z_iret (u := S2) b rfl dX12_whyNot_12 h rfl (by decide) (by decide)

def w_X12_goes_F16 (post : Int32 → GS → Prop) (k78 : GS → Int32 → Prop) (k16 : GS → Int32 → Int32 → Int32 → Int32 → Prop) (S : GS) (x1 : Int32) (x2 : Int32) (x3 : Int32) (x4 : Int32) : Prop :=
  (0 ≤ x1.toInt ∧ x1.toInt < 6) ∧ ((((ar S 38) x1.toNatClampNeg).toInt ≤ x4.toInt → k78 S x1) ∧ (x4.toInt < ((ar S 38) x1.toNatClampNeg).toInt → (0 ≤ (((12 : Int32) * x1) + x4).toInt ∧ (((12 : Int32) * x1) + x4).toInt < 72) ∧ w_X12_whyNot S (fl S 2) ((ar S 37) (((12 : Int32) * x1) + x4).toNatClampNeg) x2 x3 (fun r3 S4 => ((r3.toInt = (-1) → k16 (sl (si S4 24 r3) 2 (fl S4 1)) x1 x2 x3 (x4 + 1)) ∧ (r3.toInt ≠ (-1) → post x4 (si S4 24 r3))))))

set_option maxHeartbeats 4000000 in
set_option maxRecDepth 100000 in
theorem z_X12_goes_F16 {p : Program} {l : Launch} {e : Env} {R : Room} {s : State} {m : MethodId} {args : Array Value} {below : List Frame} {meth : Method} {c : Code} {D : va_G} {cy : Nat → ClassId} {T0 tB tE : Nat} {A : Nat → Prop} {a : Nat → Nat} {post : Int32 → GS → Prop} {k78 : GS → Int32 → Prop} {k16 : GS → Int32 → Int32 → Int32 → Int32 → Prop} (b : Bz p R s m args meth c D cy T0 tB tE A 5 cX12_goes RX12 (some .int) "goes" 4 108 0 0) (hk78 : ∀ (S : GS) (x1 : Int32), k78 S x1 → Z p l e R s m args below meth c D A 5 (MQ below (QI D (U := GS) post (mw cy a) A) args s 0 0 A) 0 0 (mw cy a S) [(0, .ref (a 0)), (1, .int x1)] 78 []) (hk16 : ∀ (S : GS) (x1 : Int32) (x2 : Int32) (x3 : Int32) (x4 : Int32), k16 S x1 x2 x3 x4 → Z p l e R s m args below meth c D A 5 (MQ below (QI D (U := GS) post (mw cy a) A) args s 0 0 A) 0 0 (mw cy a S) [(0, .ref (a 0)), (1, .int x1), (2, .int x2), (3, .int x3), (4, .int x4)] 16 []) (S : GS) (x1 : Int32) (x2 : Int32) (x3 : Int32) (x4 : Int32) (h : w_X12_goes_F16 post k78 k16 S x1 x2 x3 x4) : Z p l e R s m args below meth c D A 5 (MQ below (QI D (U := GS) post (mw cy a) A) args s 0 0 A) 0 0 (mw cy a S) [(0, .ref (a 0)), (1, .int x1), (2, .int x2), (3, .int x3), (4, .int x4)] 16 [] := by
  unfold w_X12_goes_F16 at h
  refine z_iload b dX12_goes_16 rfl ?_
  refine z_aload_n b dX12_goes_18 rfl rfl ?_
  refine z_get (q0 := 0) (k9 := 66) (v := .ref (a 41)) b (mw_0 cy a S) rfl in_X12 (by decide) wf_X12_140 rfl dX12_goes_19 ?_
  refine z_iload_n b dX12_goes_22 rfl rfl ?_
  obtain ⟨g1, h⟩ := h
  refine y_iald (q0 := 41) (j := x1.toNatClampNeg) (v := ((ar S 38) x1.toNatClampNeg)) b (mw_41 cy a S) (zx_r g1.1 g1.2) rfl dX12_goes_23 ?_
  refine y_icmp_ge (tgt := 78) (xl := x4.toInt) (yl := ((ar S 38) x1.toNatClampNeg).toInt) b rfl rfl dX12_goes_24 (by decide) (fun c1 => ?_) (fun c1 => ?_)
  · replace h := h.1 c1
    refine z_lv0 (lv' := [(0, .ref (a 0)), (1, .int x1)]) [0, 1] rfl ?_
    exact hk78 _ _ h
  · replace h := h.2 c1
    refine z_aload_n b dX12_goes_27 rfl rfl ?_
    refine z_aload_n b dX12_goes_28 rfl rfl ?_
    refine z_aload_n b dX12_goes_29 rfl rfl ?_
    refine z_get (q0 := 0) (k9 := 68) (v := .long (fl S 2)) b (mw_0 cy a S) rfl in_X12 (by decide) wf_X12_458 rfl dX12_goes_30 ?_
    refine z_aload_n b dX12_goes_33 rfl rfl ?_
    refine z_get (q0 := 0) (k9 := 65) (v := .ref (a 40)) b (mw_0 cy a S) rfl in_X12 (by decide) wf_X12_137 rfl dX12_goes_34 ?_
    refine z_bipush (v := 12) b dX12_goes_37 (by decide) ?_
    refine z_iload_n b dX12_goes_39 rfl rfl ?_
    refine z_imul b dX12_goes_40 rfl ?_
    refine z_iload b dX12_goes_41 rfl ?_
    refine z_iadd b dX12_goes_43 rfl ?_
    obtain ⟨g2, h⟩ := h
    refine y_iald (q0 := 40) (j := (((12 : Int32) * x1) + x4).toNatClampNeg) (v := ((ar S 37) (((12 : Int32) * x1) + x4).toNatClampNeg)) b (mw_40 cy a S) (zx_r g2.1 g2.2) rfl dX12_goes_44 ?_
    refine z_iload_n b dX12_goes_45 rfl rfl ?_
    refine z_iload_n b dX12_goes_46 rfl rfl ?_
    refine z_calli b (z_runV (q0 := 0) (As := [.long (fl S 2), .int ((ar S 37) (((12 : Int32) * x1) + x4).toNatClampNeg), .int x2, .int x3]) (st := [.ref (a 0)]) b (k_X12_whyNot S (fl S 2) ((ar S 37) (((12 : Int32) * x1) + x4).toNatClampNeg) x2 x3 _ h) cf_X12_whyNot (mw_0 cy a S) rfl wm_X12_426 wi_X12_whyNot ws_X12_whyNot dX12_goes_47 rfl (Nat.le_of_ble_eq_true rfl) ⟨by decide, by decide, by decide, by decide⟩) (fun r3 S4 h => ?_)
    refine z_put (q0 := 0) (k9 := 69) tyX12 b (mw_0 cy a S4) rfl in_X12 tyX12_ok nmX12 (by decide) wf_X12_461 rfl rfl rfl rfl (Nat.le_of_ble_eq_true rfl) dX12_goes_50 (mwp_0_69 cy a S4 r3) ?_
    refine z_aload_n b dX12_goes_53 rfl rfl ?_
    refine z_get (q0 := 0) (k9 := 69) (v := .int r3) b (mw_0 cy a (si S4 24 r3)) rfl in_X12 (by decide) wf_X12_461 rfl dX12_goes_54 ?_
    refine z_iconst (v := (-1)) b dX12_goes_57 (by decide) ?_
    refine y_icmp_eq (tgt := 64) (xl := r3.toInt) (yl := (-1)) b rfl (by decide) dX12_goes_58 (by decide) (fun c1 => ?_) (fun c1 => ?_)
    · replace h := h.1 c1
      refine z_aload_n b dX12_goes_64 rfl rfl ?_
      refine z_aload_n b dX12_goes_65 rfl rfl ?_
      refine z_get (q0 := 0) (k9 := 46) (v := .long (fl S4 1)) b (mw_0 cy a (si S4 24 r3)) rfl in_X12 (by decide) wf_X12_396 rfl dX12_goes_66 ?_
      refine z_put (q0 := 0) (k9 := 68) tyX12 b (mw_0 cy a (si S4 24 r3)) rfl in_X12 tyX12_ok nmX12 (by decide) wf_X12_458 rfl rfl rfl rfl (Nat.le_of_ble_eq_true rfl) dX12_goes_69 (mwp_0_68 cy a (si S4 24 r3) (fl S4 1)) ?_
      refine z_iinc (k9 := 4) (v := (x4 + 1)) (lv' := [(4, .int (x4 + 1)), (0, .ref (a 0)), (1, .int x1), (2, .int x2), (3, .int x3)]) b dX12_goes_72 rfl rfl (by decide) rfl ?_
      refine z_goto (tgt := 16) b dX12_goes_75 (by decide) ?_
      refine z_lv0 (lv' := [(0, .ref (a 0)), (1, .int x1), (2, .int x2), (3, .int x3), (4, .int (x4 + 1))]) [1, 2, 3, 4, 0] rfl ?_
      exact hk16 _ _ _ _ _ h
    · replace h := h.2 c1
      refine z_iload b dX12_goes_61 rfl ?_
      exact z_iret (u := (si S4 24 r3)) b rfl dX12_goes_63 h rfl (by decide) (by decide)

set_option maxHeartbeats 4000000 in
set_option maxRecDepth 100000 in
theorem zl_X12_goes_L16 {p : Program} {l : Launch} {e : Env} {R : Room} {s : State} {m : MethodId} {args : Array Value} {below : List Frame} {meth : Method} {c : Code} {D : va_G} {cy : Nat → ClassId} {T0 tB tE : Nat} {A : Nat → Prop} {a : Nat → Nat} {post : Int32 → GS → Prop} {k78 : GS → Int32 → Prop} (b : Bz p R s m args meth c D cy T0 tB tE A 5 cX12_goes RX12 (some .int) "goes" 4 108 0 0) (hk78 : ∀ (S : GS) (x1 : Int32), k78 S x1 → Z p l e R s m args below meth c D A 5 (MQ below (QI D (U := GS) post (mw cy a) A) args s 0 0 A) 0 0 (mw cy a S) [(0, .ref (a 0)), (1, .int x1)] 78 []) : ∀ (n : Nat) (S : GS) (x1 : Int32) (x2 : Int32) (x3 : Int32) (x4 : Int32), lpn (w_X12_goes_F16 post k78) (fun _ _ _ _ _ => False) n S x1 x2 x3 x4 → Z p l e R s m args below meth c D A 5 (MQ below (QI D (U := GS) post (mw cy a) A) args s 0 0 A) 0 0 (mw cy a S) [(0, .ref (a 0)), (1, .int x1), (2, .int x2), (3, .int x3), (4, .int x4)] 16 [] := by
  intro n
  induction n with
  | zero => intro _ _ _ _ _ h; exact h.elim
  | succ n ih => intro S x1 x2 x3 x4 h; exact z_X12_goes_F16 b hk78 ih S x1 x2 x3 x4 h

def w_X12_goes_B78 (post : Int32 → GS → Prop) (S : GS) (x1 : Int32) : Prop :=
  (0 ≤ x1.toInt ∧ x1.toInt < 6) ∧ post ((ar S 38) x1.toNatClampNeg) S

set_option maxHeartbeats 4000000 in
set_option maxRecDepth 100000 in
theorem z_X12_goes_B78 {p : Program} {l : Launch} {e : Env} {R : Room} {s : State} {m : MethodId} {args : Array Value} {below : List Frame} {meth : Method} {c : Code} {D : va_G} {cy : Nat → ClassId} {T0 tB tE : Nat} {A : Nat → Prop} {a : Nat → Nat} {post : Int32 → GS → Prop} (b : Bz p R s m args meth c D cy T0 tB tE A 5 cX12_goes RX12 (some .int) "goes" 4 108 0 0) (S : GS) (x1 : Int32) (h : w_X12_goes_B78 post S x1) : Z p l e R s m args below meth c D A 5 (MQ below (QI D (U := GS) post (mw cy a) A) args s 0 0 A) 0 0 (mw cy a S) [(0, .ref (a 0)), (1, .int x1)] 78 [] := by
  unfold w_X12_goes_B78 at h
  refine z_aload_n b dX12_goes_78 rfl rfl ?_
  refine z_get (q0 := 0) (k9 := 66) (v := .ref (a 41)) b (mw_0 cy a S) rfl in_X12 (by decide) wf_X12_140 rfl dX12_goes_79 ?_
  refine z_iload_n b dX12_goes_82 rfl rfl ?_
  obtain ⟨g5, h⟩ := h
  refine y_iald (q0 := 41) (j := x1.toNatClampNeg) (v := ((ar S 38) x1.toNatClampNeg)) b (mw_41 cy a S) (zx_r g5.1 g5.2) rfl dX12_goes_83 ?_
  exact z_iret (u := S) b rfl dX12_goes_84 h rfl (by decide) (by decide)

def w_X12_goes (S : GS) (p0 : Int32) (p1 : Int32) (p2 : Int32) (post : Int32 → GS → Prop) : Prop :=
  ∃ n, lpn (w_X12_goes_F16 post (w_X12_goes_B78 post)) (fun _ _ _ _ _ => False) n (si (sl S 2 (fl S 0)) 24 (-1)) p0 p1 p2 0

set_option maxHeartbeats 4000000 in
set_option maxRecDepth 100000 in
theorem k_X12_goes {l : Launch} {D : va_G} {cy : Nat → ClassId} {T0 tB tE : Nat} {a : Nat → Nat} (S : GS) (p0 : Int32) (p1 : Int32) (p2 : Int32) (post : Int32 → GS → Prop) (h : w_X12_goes S p0 p1 p2 post) : Ct l D cy T0 tB tE yX12_goes cX12_goes 5 (some .int) 4 108 0 0 (mw cy a S) [.ref (a 0), .int p0, .int p1, .int p2] (QI D (U := GS) post (mw cy a)) := by
  refine Ct.ofZ RX12 "goes" [(0, .ref (a 0)), (1, .int p0), (2, .int p1), (3, .int p2)] rfl rfl rfl rfl (Nat.le_of_ble_eq_true rfl) ?_
  intro p e R s m args below meth c A b
  unfold w_X12_goes at h
  refine z_aload_n b dX12_goes_0 rfl rfl ?_
  refine z_aload_n b dX12_goes_1 rfl rfl ?_
  refine z_get (q0 := 0) (k9 := 6) (v := .long (fl S 0)) b (mw_0 cy a S) rfl in_X12 (by decide) wf_X12_153 rfl dX12_goes_2 ?_
  refine z_put (q0 := 0) (k9 := 68) tyX12 b (mw_0 cy a S) rfl in_X12 tyX12_ok nmX12 (by decide) wf_X12_458 rfl rfl rfl rfl (Nat.le_of_ble_eq_true rfl) dX12_goes_5 (mwp_0_68 cy a S (fl S 0)) ?_
  refine z_aload_n b dX12_goes_8 rfl rfl ?_
  refine z_iconst (v := (-1)) b dX12_goes_9 (by decide) ?_
  refine z_put (q0 := 0) (k9 := 69) tyX12 b (mw_0 cy a (sl S 2 (fl S 0))) rfl in_X12 tyX12_ok nmX12 (by decide) wf_X12_461 rfl rfl rfl rfl (Nat.le_of_ble_eq_true rfl) dX12_goes_10 (mwp_0_69 cy a (sl S 2 (fl S 0)) (-1)) ?_
  refine z_iconst (v := 0) b dX12_goes_13 (by decide) ?_
  refine z_istore (lv' := [(4, .int 0), (0, .ref (a 0)), (1, .int p0), (2, .int p1), (3, .int p2)]) b dX12_goes_14 (by decide) rfl ?_
  refine z_lv0 (lv' := [(0, .ref (a 0)), (1, .int p0), (2, .int p1), (3, .int p2), (4, .int 0)]) [1, 2, 3, 4, 0] rfl ?_
  obtain ⟨n, h⟩ := h
  exact zl_X12_goes_L16 b (fun S x1 h => z_X12_goes_B78 b _ _ h) n _ _ _ _ _ h

def w_X12_isHonestAll_B44 (post : Int32 → GS → Prop) (k4 : GS → Int32 → Int32 → Int32 → Prop) (k51 : GS → Int32 → Prop) (S : GS) (x1 : Int32) (x3 : Int32) (y0 : Int32) : Prop :=
  k4 S x1 y0 (x3 + 1)

set_option maxHeartbeats 4000000 in
set_option maxRecDepth 100000 in
theorem z_X12_isHonestAll_B44 {p : Program} {l : Launch} {e : Env} {R : Room} {s : State} {m : MethodId} {args : Array Value} {below : List Frame} {meth : Method} {c : Code} {D : va_G} {cy : Nat → ClassId} {T0 tB tE : Nat} {A : Nat → Prop} {a : Nat → Nat} {post : Int32 → GS → Prop} {k4 : GS → Int32 → Int32 → Int32 → Prop} {k51 : GS → Int32 → Prop} (b : Bz p R s m args meth c D cy T0 tB tE A 4 cX12_isHonestAll RX12 (some .boolean) "isHonestAll" 5 132 0 0) (hk4 : ∀ (S : GS) (x1 : Int32) (x2 : Int32) (x3 : Int32), k4 S x1 x2 x3 → Z p l e R s m args below meth c D A 4 (MQ below (QI D (U := GS) post (mw cy a) A) args s 0 0 A) 0 0 (mw cy a S) [(0, .ref (a 0)), (1, .int x1), (2, .int x2), (3, .int x3)] 4 []) (hk51 : ∀ (S : GS) (x2 : Int32), k51 S x2 → Z p l e R s m args below meth c D A 4 (MQ below (QI D (U := GS) post (mw cy a) A) args s 0 0 A) 0 0 (mw cy a S) [(2, .int x2)] 51 []) (S : GS) (x1 : Int32) (x3 : Int32) (y0 : Int32) (h : w_X12_isHonestAll_B44 post k4 k51 S x1 x3 y0) : Z p l e R s m args below meth c D A 4 (MQ below (QI D (U := GS) post (mw cy a) A) args s 0 0 A) 0 0 (mw cy a S) [(0, .ref (a 0)), (1, .int x1), (3, .int x3)] 44 [.int y0] := by
  unfold w_X12_isHonestAll_B44 at h
  refine z_istore_n (lv' := [(2, .int y0), (0, .ref (a 0)), (1, .int x1), (3, .int x3)]) b dX12_isHonestAll_44 rfl (by decide) rfl ?_
  refine z_iinc (k9 := 3) (v := (x3 + 1)) (lv' := [(3, .int (x3 + 1)), (2, .int y0), (0, .ref (a 0)), (1, .int x1)]) b dX12_isHonestAll_45 rfl rfl (by decide) rfl ?_
  refine z_goto (tgt := 4) b dX12_isHonestAll_48 (by decide) ?_
  refine z_lv0 (lv' := [(0, .ref (a 0)), (1, .int x1), (2, .int y0), (3, .int (x3 + 1))]) [2, 3, 1, 0] rfl ?_
  exact hk4 _ _ _ _ h

def w_X12_isHonestAll_B43 (post : Int32 → GS → Prop) (k4 : GS → Int32 → Int32 → Int32 → Prop) (k51 : GS → Int32 → Prop) (S : GS) (x1 : Int32) (x3 : Int32) : Prop :=
  w_X12_isHonestAll_B44 post k4 k51 S x1 x3 0

set_option maxHeartbeats 4000000 in
set_option maxRecDepth 100000 in
theorem z_X12_isHonestAll_B43 {p : Program} {l : Launch} {e : Env} {R : Room} {s : State} {m : MethodId} {args : Array Value} {below : List Frame} {meth : Method} {c : Code} {D : va_G} {cy : Nat → ClassId} {T0 tB tE : Nat} {A : Nat → Prop} {a : Nat → Nat} {post : Int32 → GS → Prop} {k4 : GS → Int32 → Int32 → Int32 → Prop} {k51 : GS → Int32 → Prop} (b : Bz p R s m args meth c D cy T0 tB tE A 4 cX12_isHonestAll RX12 (some .boolean) "isHonestAll" 5 132 0 0) (hk4 : ∀ (S : GS) (x1 : Int32) (x2 : Int32) (x3 : Int32), k4 S x1 x2 x3 → Z p l e R s m args below meth c D A 4 (MQ below (QI D (U := GS) post (mw cy a) A) args s 0 0 A) 0 0 (mw cy a S) [(0, .ref (a 0)), (1, .int x1), (2, .int x2), (3, .int x3)] 4 []) (hk51 : ∀ (S : GS) (x2 : Int32), k51 S x2 → Z p l e R s m args below meth c D A 4 (MQ below (QI D (U := GS) post (mw cy a) A) args s 0 0 A) 0 0 (mw cy a S) [(2, .int x2)] 51 []) (S : GS) (x1 : Int32) (x3 : Int32) (h : w_X12_isHonestAll_B43 post k4 k51 S x1 x3) : Z p l e R s m args below meth c D A 4 (MQ below (QI D (U := GS) post (mw cy a) A) args s 0 0 A) 0 0 (mw cy a S) [(0, .ref (a 0)), (1, .int x1), (3, .int x3)] 43 [] := by
  unfold w_X12_isHonestAll_B43 at h
  refine z_iconst (v := 0) b dX12_isHonestAll_43 (by decide) ?_
  exact z_X12_isHonestAll_B44 b hk4 hk51 _ _ _ _ h

def w_X12_isHonestAll_B39 (post : Int32 → GS → Prop) (k4 : GS → Int32 → Int32 → Int32 → Prop) (k51 : GS → Int32 → Prop) (S : GS) (x1 : Int32) (x3 : Int32) : Prop :=
  w_X12_isHonestAll_B44 post k4 k51 S x1 x3 1

set_option maxHeartbeats 4000000 in
set_option maxRecDepth 100000 in
theorem z_X12_isHonestAll_B39 {p : Program} {l : Launch} {e : Env} {R : Room} {s : State} {m : MethodId} {args : Array Value} {below : List Frame} {meth : Method} {c : Code} {D : va_G} {cy : Nat → ClassId} {T0 tB tE : Nat} {A : Nat → Prop} {a : Nat → Nat} {post : Int32 → GS → Prop} {k4 : GS → Int32 → Int32 → Int32 → Prop} {k51 : GS → Int32 → Prop} (b : Bz p R s m args meth c D cy T0 tB tE A 4 cX12_isHonestAll RX12 (some .boolean) "isHonestAll" 5 132 0 0) (hk4 : ∀ (S : GS) (x1 : Int32) (x2 : Int32) (x3 : Int32), k4 S x1 x2 x3 → Z p l e R s m args below meth c D A 4 (MQ below (QI D (U := GS) post (mw cy a) A) args s 0 0 A) 0 0 (mw cy a S) [(0, .ref (a 0)), (1, .int x1), (2, .int x2), (3, .int x3)] 4 []) (hk51 : ∀ (S : GS) (x2 : Int32), k51 S x2 → Z p l e R s m args below meth c D A 4 (MQ below (QI D (U := GS) post (mw cy a) A) args s 0 0 A) 0 0 (mw cy a S) [(2, .int x2)] 51 []) (S : GS) (x1 : Int32) (x3 : Int32) (h : w_X12_isHonestAll_B39 post k4 k51 S x1 x3) : Z p l e R s m args below meth c D A 4 (MQ below (QI D (U := GS) post (mw cy a) A) args s 0 0 A) 0 0 (mw cy a S) [(0, .ref (a 0)), (1, .int x1), (3, .int x3)] 39 [] := by
  unfold w_X12_isHonestAll_B39 at h
  refine z_iconst (v := 1) b dX12_isHonestAll_39 (by decide) ?_
  refine z_goto (tgt := 44) b dX12_isHonestAll_40 (by decide) ?_
  exact z_X12_isHonestAll_B44 b hk4 hk51 _ _ _ _ h

def w_X12_isHonestAll_F4 (post : Int32 → GS → Prop) (k51 : GS → Int32 → Prop) (k4 : GS → Int32 → Int32 → Int32 → Prop) (S : GS) (x1 : Int32) (x2 : Int32) (x3 : Int32) : Prop :=
  ((6 ≤ x3.toInt → k51 S x2) ∧ (x3.toInt < 6 → ((x2.toInt = 0 → w_X12_isHonestAll_B43 post k4 k51 S x1 x3) ∧ (x2.toInt ≠ 0 → (0 ≤ x3.toInt ∧ x3.toInt < 6) ∧ ((((ar S 39) x3.toNatClampNeg).toInt = 0 → w_X12_isHonestAll_B39 post k4 k51 S x1 x3) ∧ (((ar S 39) x3.toNatClampNeg).toInt ≠ 0 → w_X12_goes S x3 3 x1 (fun r2 S3 => (0 ≤ x3.toInt ∧ x3.toInt < 6) ∧ ((r2.toInt ≠ ((ar S3 38) x3.toNatClampNeg).toInt → w_X12_isHonestAll_B43 post k4 k51 S3 x1 x3) ∧ (r2.toInt = ((ar S3 38) x3.toNatClampNeg).toInt → w_X12_isHonestAll_B39 post k4 k51 S3 x1 x3)))))))))

set_option maxHeartbeats 4000000 in
set_option maxRecDepth 100000 in
theorem z_X12_isHonestAll_F4 {p : Program} {l : Launch} {e : Env} {R : Room} {s : State} {m : MethodId} {args : Array Value} {below : List Frame} {meth : Method} {c : Code} {D : va_G} {cy : Nat → ClassId} {T0 tB tE : Nat} {A : Nat → Prop} {a : Nat → Nat} {post : Int32 → GS → Prop} {k51 : GS → Int32 → Prop} {k4 : GS → Int32 → Int32 → Int32 → Prop} (b : Bz p R s m args meth c D cy T0 tB tE A 4 cX12_isHonestAll RX12 (some .boolean) "isHonestAll" 5 132 0 0) (hk51 : ∀ (S : GS) (x2 : Int32), k51 S x2 → Z p l e R s m args below meth c D A 4 (MQ below (QI D (U := GS) post (mw cy a) A) args s 0 0 A) 0 0 (mw cy a S) [(2, .int x2)] 51 []) (hk4 : ∀ (S : GS) (x1 : Int32) (x2 : Int32) (x3 : Int32), k4 S x1 x2 x3 → Z p l e R s m args below meth c D A 4 (MQ below (QI D (U := GS) post (mw cy a) A) args s 0 0 A) 0 0 (mw cy a S) [(0, .ref (a 0)), (1, .int x1), (2, .int x2), (3, .int x3)] 4 []) (S : GS) (x1 : Int32) (x2 : Int32) (x3 : Int32) (h : w_X12_isHonestAll_F4 post k51 k4 S x1 x2 x3) : Z p l e R s m args below meth c D A 4 (MQ below (QI D (U := GS) post (mw cy a) A) args s 0 0 A) 0 0 (mw cy a S) [(0, .ref (a 0)), (1, .int x1), (2, .int x2), (3, .int x3)] 4 [] := by
  unfold w_X12_isHonestAll_F4 at h
  refine z_iload_n b dX12_isHonestAll_4 rfl rfl ?_
  refine z_bipush (v := 6) b dX12_isHonestAll_5 (by decide) ?_
  refine y_icmp_ge (tgt := 51) (xl := x3.toInt) (yl := 6) b rfl (by decide) dX12_isHonestAll_7 (by decide) (fun c1 => ?_) (fun c1 => ?_)
  · replace h := h.1 c1
    refine z_lv0 (lv' := [(2, .int x2)]) [2] rfl ?_
    exact hk51 _ _ h
  · replace h := h.2 c1
    refine z_iload_n b dX12_isHonestAll_10 rfl rfl ?_
    refine y_if_eq (tgt := 43) (xl := x2.toInt) b rfl dX12_isHonestAll_11 (by decide) (fun c1 => ?_) (fun c1 => ?_)
    · replace h := h.1 c1
      refine z_lv0 (lv' := [(0, .ref (a 0)), (1, .int x1), (3, .int x3)]) [0, 1, 3] rfl ?_
      exact z_X12_isHonestAll_B43 b hk4 hk51 _ _ _ h
    · replace h := h.2 c1
      refine z_aload_n b dX12_isHonestAll_14 rfl rfl ?_
      refine z_get (q0 := 0) (k9 := 67) (v := .ref (a 42)) b (mw_0 cy a S) rfl in_X12 (by decide) wf_X12_143 rfl dX12_isHonestAll_15 ?_
      refine z_iload_n b dX12_isHonestAll_18 rfl rfl ?_
      obtain ⟨g1, h⟩ := h
      refine y_zald (q0 := 42) (j := x3.toNatClampNeg) (v := ((ar S 39) x3.toNatClampNeg)) b (mw_42 cy a S) (zx_r g1.1 g1.2) rfl dX12_isHonestAll_19 ?_
      refine y_if_eq (tgt := 39) (xl := ((ar S 39) x3.toNatClampNeg).toInt) b rfl dX12_isHonestAll_20 (by decide) (fun c1 => ?_) (fun c1 => ?_)
      · replace h := h.1 c1
        refine z_lv0 (lv' := [(0, .ref (a 0)), (1, .int x1), (3, .int x3)]) [0, 1, 3] rfl ?_
        exact z_X12_isHonestAll_B39 b hk4 hk51 _ _ _ h
      · replace h := h.2 c1
        refine z_aload_n b dX12_isHonestAll_23 rfl rfl ?_
        refine z_iload_n b dX12_isHonestAll_24 rfl rfl ?_
        refine z_iconst (v := 3) b dX12_isHonestAll_25 (by decide) ?_
        refine z_iload_n b dX12_isHonestAll_26 rfl rfl ?_
        refine z_calli b (z_runV (q0 := 0) (As := [.int x3, .int 3, .int x1]) (st := []) b (k_X12_goes S x3 3 x1 _ h) cf_X12_goes (mw_0 cy a S) rfl wm_X12_464 wi_X12_goes ws_X12_goes dX12_isHonestAll_27 rfl (Nat.le_of_ble_eq_true rfl) ⟨by decide, by decide, by decide, by decide⟩) (fun r2 S3 h => ?_)
        refine z_aload_n b dX12_isHonestAll_30 rfl rfl ?_
        refine z_get (q0 := 0) (k9 := 66) (v := .ref (a 41)) b (mw_0 cy a S3) rfl in_X12 (by decide) wf_X12_140 rfl dX12_isHonestAll_31 ?_
        refine z_iload_n b dX12_isHonestAll_34 rfl rfl ?_
        obtain ⟨g4, h⟩ := h
        refine y_iald (q0 := 41) (j := x3.toNatClampNeg) (v := ((ar S3 38) x3.toNatClampNeg)) b (mw_41 cy a S3) (zx_r g4.1 g4.2) rfl dX12_isHonestAll_35 ?_
        refine y_icmp_ne (tgt := 43) (xl := r2.toInt) (yl := ((ar S3 38) x3.toNatClampNeg).toInt) b rfl rfl dX12_isHonestAll_36 (by decide) (fun c1 => ?_) (fun c1 => ?_)
        · replace h := h.1 c1
          refine z_lv0 (lv' := [(0, .ref (a 0)), (1, .int x1), (3, .int x3)]) [0, 1, 3] rfl ?_
          exact z_X12_isHonestAll_B43 b hk4 hk51 _ _ _ h
        · replace h := h.2 c1
          refine z_lv0 (lv' := [(0, .ref (a 0)), (1, .int x1), (3, .int x3)]) [0, 1, 3] rfl ?_
          exact z_X12_isHonestAll_B39 b hk4 hk51 _ _ _ h

set_option maxHeartbeats 4000000 in
set_option maxRecDepth 100000 in
theorem zl_X12_isHonestAll_L4 {p : Program} {l : Launch} {e : Env} {R : Room} {s : State} {m : MethodId} {args : Array Value} {below : List Frame} {meth : Method} {c : Code} {D : va_G} {cy : Nat → ClassId} {T0 tB tE : Nat} {A : Nat → Prop} {a : Nat → Nat} {post : Int32 → GS → Prop} {k51 : GS → Int32 → Prop} (b : Bz p R s m args meth c D cy T0 tB tE A 4 cX12_isHonestAll RX12 (some .boolean) "isHonestAll" 5 132 0 0) (hk51 : ∀ (S : GS) (x2 : Int32), k51 S x2 → Z p l e R s m args below meth c D A 4 (MQ below (QI D (U := GS) post (mw cy a) A) args s 0 0 A) 0 0 (mw cy a S) [(2, .int x2)] 51 []) : ∀ (n : Nat) (S : GS) (x1 : Int32) (x2 : Int32) (x3 : Int32), lpn (w_X12_isHonestAll_F4 post k51) (fun _ _ _ _ => False) n S x1 x2 x3 → Z p l e R s m args below meth c D A 4 (MQ below (QI D (U := GS) post (mw cy a) A) args s 0 0 A) 0 0 (mw cy a S) [(0, .ref (a 0)), (1, .int x1), (2, .int x2), (3, .int x3)] 4 [] := by
  intro n
  induction n with
  | zero => intro _ _ _ _ h; exact h.elim
  | succ n ih => intro S x1 x2 x3 h; exact z_X12_isHonestAll_F4 b hk51 ih S x1 x2 x3 h

def w_X12_isHonestAll_B51 (post : Int32 → GS → Prop) (S : GS) (x2 : Int32) : Prop :=
  (x2 = 0 ∨ x2 = 1) ∧ post x2 S

set_option maxHeartbeats 4000000 in
set_option maxRecDepth 100000 in
theorem z_X12_isHonestAll_B51 {p : Program} {l : Launch} {e : Env} {R : Room} {s : State} {m : MethodId} {args : Array Value} {below : List Frame} {meth : Method} {c : Code} {D : va_G} {cy : Nat → ClassId} {T0 tB tE : Nat} {A : Nat → Prop} {a : Nat → Nat} {post : Int32 → GS → Prop} (b : Bz p R s m args meth c D cy T0 tB tE A 4 cX12_isHonestAll RX12 (some .boolean) "isHonestAll" 5 132 0 0) (S : GS) (x2 : Int32) (h : w_X12_isHonestAll_B51 post S x2) : Z p l e R s m args below meth c D A 4 (MQ below (QI D (U := GS) post (mw cy a) A) args s 0 0 A) 0 0 (mw cy a S) [(2, .int x2)] 51 [] := by
  unfold w_X12_isHonestAll_B51 at h
  refine z_iload_n b dX12_isHonestAll_51 rfl rfl ?_
  obtain ⟨g5, h⟩ := h
  exact z_zret (u := S) b rfl (z_bool g5) dX12_isHonestAll_52 h rfl (by decide) (by decide)

def w_X12_isHonestAll (S : GS) (p0 : Int32) (post : Int32 → GS → Prop) : Prop :=
  ∃ n, lpn (w_X12_isHonestAll_F4 post (w_X12_isHonestAll_B51 post)) (fun _ _ _ _ => False) n S p0 1 0

set_option maxHeartbeats 4000000 in
set_option maxRecDepth 100000 in
theorem k_X12_isHonestAll {l : Launch} {D : va_G} {cy : Nat → ClassId} {T0 tB tE : Nat} {a : Nat → Nat} (S : GS) (p0 : Int32) (post : Int32 → GS → Prop) (h : w_X12_isHonestAll S p0 post) : Ct l D cy T0 tB tE yX12_isHonestAll cX12_isHonestAll 4 (some .boolean) 5 132 0 0 (mw cy a S) [.ref (a 0), .int p0] (QI D (U := GS) post (mw cy a)) := by
  refine Ct.ofZ RX12 "isHonestAll" [(0, .ref (a 0)), (1, .int p0)] rfl rfl rfl rfl (Nat.le_of_ble_eq_true rfl) ?_
  intro p e R s m args below meth c A b
  unfold w_X12_isHonestAll at h
  refine z_iconst (v := 1) b dX12_isHonestAll_0 (by decide) ?_
  refine z_istore_n (lv' := [(2, .int 1), (0, .ref (a 0)), (1, .int p0)]) b dX12_isHonestAll_1 rfl (by decide) rfl ?_
  refine z_iconst (v := 0) b dX12_isHonestAll_2 (by decide) ?_
  refine z_istore_n (lv' := [(3, .int 0), (2, .int 1), (0, .ref (a 0)), (1, .int p0)]) b dX12_isHonestAll_3 rfl (by decide) rfl ?_
  refine z_lv0 (lv' := [(0, .ref (a 0)), (1, .int p0), (2, .int 1), (3, .int 0)]) [2, 3, 1, 0] rfl ?_
  obtain ⟨n, h⟩ := h
  exact zl_X12_isHonestAll_L4 b (fun S x2 h => z_X12_isHonestAll_B51 b _ _ h) n _ _ _ _ h

def w_X12_keeps_F15 (post : GS → Prop) (k56 : GS → Prop) (k15 : GS → Int32 → Int32 → Prop) (S : GS) (x1 : Int32) (x2 : Int32) : Prop :=
  ((((2 : Int32) * ((ar S 6) 13)).toInt ≤ x2.toInt → k56 S) ∧ (x2.toInt < ((2 : Int32) * ((ar S 6) 13)).toInt → (0 ≤ ((18720 : Int32) + x2).toInt ∧ ((18720 : Int32) + x2).toInt < 20160) ∧ (0 ≤ (((1440 : Int32) * x1) + x2).toInt ∧ (((1440 : Int32) * x1) + x2).toInt < 20160) ∧ k15 (su S 5 ((((1440 : Int32) * x1) + x2).toNatClampNeg) ((ar S 5) ((18720 : Int32) + x2).toNatClampNeg)) x1 (x2 + 1)))

set_option maxHeartbeats 4000000 in
set_option maxRecDepth 100000 in
theorem z_X12_keeps_F15 {p : Program} {l : Launch} {e : Env} {R : Room} {s : State} {m : MethodId} {args : Array Value} {below : List Frame} {meth : Method} {c : Code} {D : va_G} {cy : Nat → ClassId} {T0 tB tE : Nat} {A : Nat → Prop} {a : Nat → Nat} {post : GS → Prop} {k56 : GS → Prop} {k15 : GS → Int32 → Int32 → Prop} (b : Bz p R s m args meth c D cy T0 tB tE A 3 cX12_keeps RX12 none "keeps" 0 0 0 0) (hk56 : ∀ (S : GS), k56 S → Z p l e R s m args below meth c D A 3 (MQ below (QV D (U := GS) post (mw cy a) A) args s 0 0 A) 0 0 (mw cy a S) [] 56 []) (hk15 : ∀ (S : GS) (x1 : Int32) (x2 : Int32), k15 S x1 x2 → Z p l e R s m args below meth c D A 3 (MQ below (QV D (U := GS) post (mw cy a) A) args s 0 0 A) 0 0 (mw cy a S) [(0, .ref (a 0)), (1, .int x1), (2, .int x2)] 15 []) (S : GS) (x1 : Int32) (x2 : Int32) (h : w_X12_keeps_F15 post k56 k15 S x1 x2) : Z p l e R s m args below meth c D A 3 (MQ below (QV D (U := GS) post (mw cy a) A) args s 0 0 A) 0 0 (mw cy a S) [(0, .ref (a 0)), (1, .int x1), (2, .int x2)] 15 [] := by
  unfold w_X12_keeps_F15 at h
  refine z_iload_n b dX12_keeps_15 rfl rfl ?_
  refine z_iconst (v := 2) b dX12_keeps_16 (by decide) ?_
  refine z_aload_n b dX12_keeps_17 rfl rfl ?_
  refine z_get (q0 := 0) (k9 := 8) (v := .ref (a 7)) b (mw_0 cy a S) rfl in_X12 (by decide) wf_X12_33 rfl dX12_keeps_18 ?_
  refine z_bipush (v := 13) b dX12_keeps_21 (by decide) ?_
  refine y_iald (q0 := 7) (j := 13) (v := ((ar S 6) 13)) b (mw_7 cy a S) (by decide) rfl dX12_keeps_23 ?_
  refine z_imul b dX12_keeps_24 rfl ?_
  refine y_icmp_ge (tgt := 56) (xl := x2.toInt) (yl := ((2 : Int32) * ((ar S 6) 13)).toInt) b rfl rfl dX12_keeps_25 (by decide) (fun c1 => ?_) (fun c1 => ?_)
  · replace h := h.1 c1
    refine z_lv0 (lv' := []) [] rfl ?_
    exact hk56 _ h
  · replace h := h.2 c1
    refine z_aload_n b dX12_keeps_28 rfl rfl ?_
    refine z_get (q0 := 0) (k9 := 7) (v := .ref (a 6)) b (mw_0 cy a S) rfl in_X12 (by decide) wf_X12_30 rfl dX12_keeps_29 ?_
    refine z_sipush (v := 1440) b dX12_keeps_32 (by decide) ?_
    refine z_iload_n b dX12_keeps_35 rfl rfl ?_
    refine z_imul b dX12_keeps_36 rfl ?_
    refine z_iload_n b dX12_keeps_37 rfl rfl ?_
    refine z_iadd b dX12_keeps_38 rfl ?_
    refine z_aload_n b dX12_keeps_39 rfl rfl ?_
    refine z_get (q0 := 0) (k9 := 7) (v := .ref (a 6)) b (mw_0 cy a S) rfl in_X12 (by decide) wf_X12_30 rfl dX12_keeps_40 ?_
    refine z_sipush (v := 18720) b dX12_keeps_43 (by decide) ?_
    refine z_iload_n b dX12_keeps_46 rfl rfl ?_
    refine z_iadd b dX12_keeps_47 rfl ?_
    obtain ⟨g2, h⟩ := h
    refine y_iald (q0 := 6) (j := ((18720 : Int32) + x2).toNatClampNeg) (v := ((ar S 5) ((18720 : Int32) + x2).toNatClampNeg)) b (mw_6 cy a S) (zx_r g2.1 g2.2) rfl dX12_keeps_48 ?_
    obtain ⟨g3, h⟩ := h
    refine y_iast (q0 := 6) (j := (((1440 : Int32) * x1) + x2).toNatClampNeg) b (mw_6 cy a S) (zx_r g3.1 g3.2) dX12_keeps_49 (mwa_6 cy a S ((((1440 : Int32) * x1) + x2).toNatClampNeg) ((ar S 5) ((18720 : Int32) + x2).toNatClampNeg)) ?_
    refine z_iinc (k9 := 2) (v := (x2 + 1)) (lv' := [(2, .int (x2 + 1)), (0, .ref (a 0)), (1, .int x1)]) b dX12_keeps_50 rfl rfl (by decide) rfl ?_
    refine z_goto (tgt := 15) b dX12_keeps_53 (by decide) ?_
    refine z_lv0 (lv' := [(0, .ref (a 0)), (1, .int x1), (2, .int (x2 + 1))]) [1, 2, 0] rfl ?_
    exact hk15 _ _ _ h

set_option maxHeartbeats 4000000 in
set_option maxRecDepth 100000 in
theorem zl_X12_keeps_L15 {p : Program} {l : Launch} {e : Env} {R : Room} {s : State} {m : MethodId} {args : Array Value} {below : List Frame} {meth : Method} {c : Code} {D : va_G} {cy : Nat → ClassId} {T0 tB tE : Nat} {A : Nat → Prop} {a : Nat → Nat} {post : GS → Prop} {k56 : GS → Prop} (b : Bz p R s m args meth c D cy T0 tB tE A 3 cX12_keeps RX12 none "keeps" 0 0 0 0) (hk56 : ∀ (S : GS), k56 S → Z p l e R s m args below meth c D A 3 (MQ below (QV D (U := GS) post (mw cy a) A) args s 0 0 A) 0 0 (mw cy a S) [] 56 []) : ∀ (n : Nat) (S : GS) (x1 : Int32) (x2 : Int32), lpn (w_X12_keeps_F15 post k56) (fun _ _ _ => False) n S x1 x2 → Z p l e R s m args below meth c D A 3 (MQ below (QV D (U := GS) post (mw cy a) A) args s 0 0 A) 0 0 (mw cy a S) [(0, .ref (a 0)), (1, .int x1), (2, .int x2)] 15 [] := by
  intro n
  induction n with
  | zero => intro _ _ _ h; exact h.elim
  | succ n ih => intro S x1 x2 h; exact z_X12_keeps_F15 b hk56 ih S x1 x2 h

def w_X12_keeps_B56 (post : GS → Prop) (S : GS)  : Prop :=
  post S

set_option maxHeartbeats 4000000 in
set_option maxRecDepth 100000 in
theorem z_X12_keeps_B56 {p : Program} {l : Launch} {e : Env} {R : Room} {s : State} {m : MethodId} {args : Array Value} {below : List Frame} {meth : Method} {c : Code} {D : va_G} {cy : Nat → ClassId} {T0 tB tE : Nat} {A : Nat → Prop} {a : Nat → Nat} {post : GS → Prop} (b : Bz p R s m args meth c D cy T0 tB tE A 3 cX12_keeps RX12 none "keeps" 0 0 0 0) (S : GS)  (h : w_X12_keeps_B56 post S ) : Z p l e R s m args below meth c D A 3 (MQ below (QV D (U := GS) post (mw cy a) A) args s 0 0 A) 0 0 (mw cy a S) [] 56 [] := by
  unfold w_X12_keeps_B56 at h
  exact z_vret (u := S) b rfl dX12_keeps_56 h rfl (by decide) (by decide)

def w_X12_keeps (S : GS) (p0 : Int32) (post : GS → Prop) : Prop :=
  (0 ≤ p0.toInt ∧ p0.toInt < 14) ∧ ∃ n, lpn (w_X12_keeps_F15 post (w_X12_keeps_B56 post)) (fun _ _ _ => False) n (su S 6 (p0.toNatClampNeg) ((ar S 6) 13)) p0 0

set_option maxHeartbeats 4000000 in
set_option maxRecDepth 100000 in
theorem k_X12_keeps {l : Launch} {D : va_G} {cy : Nat → ClassId} {T0 tB tE : Nat} {a : Nat → Nat} (S : GS) (p0 : Int32) (post : GS → Prop) (h : w_X12_keeps S p0 post) : Ct l D cy T0 tB tE yX12_keeps cX12_keeps 3 none 0 0 0 0 (mw cy a S) [.ref (a 0), .int p0] (QV D (U := GS) post (mw cy a)) := by
  refine Ct.ofZ RX12 "keeps" [(0, .ref (a 0)), (1, .int p0)] rfl rfl rfl rfl (Nat.le_of_ble_eq_true rfl) ?_
  intro p e R s m args below meth c A b
  unfold w_X12_keeps at h
  refine z_aload_n b dX12_keeps_0 rfl rfl ?_
  refine z_get (q0 := 0) (k9 := 8) (v := .ref (a 7)) b (mw_0 cy a S) rfl in_X12 (by decide) wf_X12_33 rfl dX12_keeps_1 ?_
  refine z_iload_n b dX12_keeps_4 rfl rfl ?_
  refine z_aload_n b dX12_keeps_5 rfl rfl ?_
  refine z_get (q0 := 0) (k9 := 8) (v := .ref (a 7)) b (mw_0 cy a S) rfl in_X12 (by decide) wf_X12_33 rfl dX12_keeps_6 ?_
  refine z_bipush (v := 13) b dX12_keeps_9 (by decide) ?_
  refine y_iald (q0 := 7) (j := 13) (v := ((ar S 6) 13)) b (mw_7 cy a S) (by decide) rfl dX12_keeps_11 ?_
  obtain ⟨g1, h⟩ := h
  refine y_iast (q0 := 7) (j := p0.toNatClampNeg) b (mw_7 cy a S) (zx_r g1.1 g1.2) dX12_keeps_12 (mwa_7 cy a S (p0.toNatClampNeg) ((ar S 6) 13)) ?_
  refine z_iconst (v := 0) b dX12_keeps_13 (by decide) ?_
  refine z_istore_n (lv' := [(2, .int 0), (0, .ref (a 0)), (1, .int p0)]) b dX12_keeps_14 rfl (by decide) rfl ?_
  refine z_lv0 (lv' := [(0, .ref (a 0)), (1, .int p0), (2, .int 0)]) [1, 2, 0] rfl ?_
  obtain ⟨n, h⟩ := h
  exact zl_X12_keeps_L15 b (fun S h => z_X12_keeps_B56 b _ h) n _ _ _ h

def w_X12_never (S : GS)  (post : Int32 → GS → Prop) : Prop :=
  (((fi S 16).toInt ≠ 6 → w_X12_reads (si S 6 0) (fun r1 S2 => ((r1.toInt ≠ 0 → w_X12_keeps S2 ((2 : Int32) + (fi S2 16)) (fun S4 => post (((fi S4 16) + 1) - 1) (si S4 16 ((fi S4 16) + 1)))) ∧ (r1.toInt = 0 → post (-1) S2)))) ∧ ((fi S 16).toInt = 6 → w_X12_ends (si S 6 0) (fun S6 => post (-1) S6)))

set_option maxHeartbeats 4000000 in
set_option maxRecDepth 100000 in
theorem k_X12_never {l : Launch} {D : va_G} {cy : Nat → ClassId} {T0 tB tE : Nat} {a : Nat → Nat} (S : GS)  (post : Int32 → GS → Prop) (h : w_X12_never S  post) : Ct l D cy T0 tB tE yX12_never cX12_never 1 (some .int) 47 966 0 0 (mw cy a S) [.ref (a 0)] (QI D (U := GS) post (mw cy a)) := by
  refine Ct.ofZ RX12 "never" [(0, .ref (a 0))] rfl rfl rfl rfl (Nat.le_of_ble_eq_true rfl) ?_
  intro p e R s m args below meth c A b
  unfold w_X12_never at h
  refine z_aload_n b dX12_never_0 rfl rfl ?_
  refine z_iconst (v := 0) b dX12_never_1 (by decide) ?_
  refine z_put (q0 := 0) (k9 := 30) tyX12 b (mw_0 cy a S) rfl in_X12 tyX12_ok nmX12 (by decide) wf_X12_257 rfl rfl rfl rfl (Nat.le_of_ble_eq_true rfl) dX12_never_2 (mwp_0_30 cy a S 0) ?_
  refine z_aload_n b dX12_never_5 rfl rfl ?_
  refine z_get (q0 := 0) (k9 := 40) (v := .int (fi S 16)) b (mw_0 cy a (si S 6 0)) rfl in_X12 (by decide) wf_X12_352 rfl dX12_never_6 ?_
  refine z_bipush (v := 6) b dX12_never_9 (by decide) ?_
  refine y_icmp_ne (tgt := 20) (xl := (fi S 16).toInt) (yl := 6) b rfl (by decide) dX12_never_11 (by decide) (fun c1 => ?_) (fun c1 => ?_)
  · replace h := h.1 c1
    refine z_aload_n b dX12_never_20 rfl rfl ?_
    refine z_calli b (z_runV (q0 := 0) (As := []) (st := []) b (k_X12_reads (si S 6 0) _ h) cf_X12_reads (mw_0 cy a (si S 6 0)) rfl wm_X12_355 wi_X12_reads ws_X12_reads dX12_never_21 rfl (Nat.le_of_ble_eq_true rfl) ⟨by decide, by decide, by decide, by decide⟩) (fun r1 S2 h => ?_)
    refine y_if_ne (tgt := 29) (xl := r1.toInt) b rfl dX12_never_24 (by decide) (fun c1 => ?_) (fun c1 => ?_)
    · replace h := h.1 c1
      refine z_aload_n b dX12_never_29 rfl rfl ?_
      refine z_iconst (v := 2) b dX12_never_30 (by decide) ?_
      refine z_aload_n b dX12_never_31 rfl rfl ?_
      refine z_get (q0 := 0) (k9 := 40) (v := .int (fi S2 16)) b (mw_0 cy a S2) rfl in_X12 (by decide) wf_X12_352 rfl dX12_never_32 ?_
      refine z_iadd b dX12_never_35 rfl ?_
      refine z_callv b (z_runV (q0 := 0) (As := [.int ((2 : Int32) + (fi S2 16))]) (st := []) b (k_X12_keeps S2 ((2 : Int32) + (fi S2 16)) _ h) cf_X12_keeps (mw_0 cy a S2) rfl wm_X12_345 wi_X12_keeps ws_X12_keeps dX12_never_36 rfl (Nat.le_of_ble_eq_true rfl) ⟨by decide, by decide, by decide, by decide⟩) (fun S4 h => ?_)
      refine z_aload_n b dX12_never_39 rfl rfl ?_
      refine z_dup b dX12_never_40 rfl ?_
      refine z_get (q0 := 0) (k9 := 40) (v := .int (fi S4 16)) b (mw_0 cy a S4) rfl in_X12 (by decide) wf_X12_352 rfl dX12_never_41 ?_
      refine z_iconst (v := 1) b dX12_never_44 (by decide) ?_
      refine z_iadd b dX12_never_45 rfl ?_
      refine z_put (q0 := 0) (k9 := 40) tyX12 b (mw_0 cy a S4) rfl in_X12 tyX12_ok nmX12 (by decide) wf_X12_352 rfl rfl rfl rfl (Nat.le_of_ble_eq_true rfl) dX12_never_46 (mwp_0_40 cy a S4 ((fi S4 16) + 1)) ?_
      refine z_aload_n b dX12_never_49 rfl rfl ?_
      refine z_get (q0 := 0) (k9 := 40) (v := .int ((fi S4 16) + 1)) b (mw_0 cy a (si S4 16 ((fi S4 16) + 1))) rfl in_X12 (by decide) wf_X12_352 rfl dX12_never_50 ?_
      refine z_iconst (v := 1) b dX12_never_53 (by decide) ?_
      refine z_isub b dX12_never_54 rfl ?_
      exact z_iret (u := (si S4 16 ((fi S4 16) + 1))) b rfl dX12_never_55 h rfl (by decide) (by decide)
    · replace h := h.2 c1
      refine z_iconst (v := (-1)) b dX12_never_27 (by decide) ?_
      exact z_iret (u := S2) b rfl dX12_never_28 h rfl (by decide) (by decide)
  · replace h := h.2 c1
    refine z_aload_n b dX12_never_14 rfl rfl ?_
    refine z_callv b (z_runV (q0 := 0) (As := []) (st := []) b (k_X12_ends (si S 6 0) _ h) cf_X12_ends (mw_0 cy a (si S 6 0)) rfl wm_X12_336 wi_X12_ends ws_X12_ends dX12_never_15 rfl (Nat.le_of_ble_eq_true rfl) ⟨by decide, by decide, by decide, by decide⟩) (fun S6 h => ?_)
    refine z_iconst (v := (-1)) b dX12_never_18 (by decide) ?_
    exact z_iret (u := S6) b rfl dX12_never_19 h rfl (by decide) (by decide)

def w_X12_lawful_B36 (post : Int32 → GS → Prop) (S : GS)  : Prop :=
  post (-1) S

set_option maxHeartbeats 4000000 in
set_option maxRecDepth 100000 in
theorem z_X12_lawful_B36 {p : Program} {l : Launch} {e : Env} {R : Room} {s : State} {m : MethodId} {args : Array Value} {below : List Frame} {meth : Method} {c : Code} {D : va_G} {cy : Nat → ClassId} {T0 tB tE : Nat} {A : Nat → Prop} {a : Nat → Nat} {post : Int32 → GS → Prop} (b : Bz p R s m args meth c D cy T0 tB tE A 6 cX12_lawful RX12 (some .int) "lawful" 5 132 0 0) (S : GS)  (h : w_X12_lawful_B36 post S ) : Z p l e R s m args below meth c D A 6 (MQ below (QI D (U := GS) post (mw cy a) A) args s 0 0 A) 0 0 (mw cy a S) [] 36 [] := by
  unfold w_X12_lawful_B36 at h
  refine z_iconst (v := (-1)) b dX12_lawful_36 (by decide) ?_
  exact z_iret (u := S) b rfl dX12_lawful_37 h rfl (by decide) (by decide)

def w_X12_lawful_B61 (post : Int32 → GS → Prop) (S : GS) (y0 : Int32) : Prop :=
  post y0 S

set_option maxHeartbeats 4000000 in
set_option maxRecDepth 100000 in
theorem z_X12_lawful_B61 {p : Program} {l : Launch} {e : Env} {R : Room} {s : State} {m : MethodId} {args : Array Value} {below : List Frame} {meth : Method} {c : Code} {D : va_G} {cy : Nat → ClassId} {T0 tB tE : Nat} {A : Nat → Prop} {a : Nat → Nat} {post : Int32 → GS → Prop} (b : Bz p R s m args meth c D cy T0 tB tE A 6 cX12_lawful RX12 (some .int) "lawful" 5 132 0 0) (S : GS) (y0 : Int32) (h : w_X12_lawful_B61 post S y0) : Z p l e R s m args below meth c D A 6 (MQ below (QI D (U := GS) post (mw cy a) A) args s 0 0 A) 0 0 (mw cy a S) [] 61 [.int y0] := by
  unfold w_X12_lawful_B61 at h
  exact z_iret (u := S) b rfl dX12_lawful_61 h rfl (by decide) (by decide)

def w_X12_lawful (S : GS) (p0 : Int32) (p1 : Int32) (p2 : Int32) (p3 : Int32) (post : Int32 → GS → Prop) : Prop :=
  w_X12_isRow S p0 (fun r1 S2 => ((r1.toInt = 0 → w_X12_lawful_B36 post S2) ∧ (r1.toInt ≠ 0 → w_X12_isIn S2 p1 1 3 (fun r3 S4 => ((r3.toInt = 0 → w_X12_lawful_B36 post S4) ∧ (r3.toInt ≠ 0 → w_X12_isIn S4 p2 0 31 (fun r5 S6 => ((r5.toInt = 0 → w_X12_lawful_B36 post S6) ∧ (r5.toInt ≠ 0 → w_X12_isIn S6 p3 0 1 (fun r7 S8 => ((r7.toInt ≠ 0 → w_X12_goes S8 p0 p1 p2 (fun r9 S10 => ((p3.toInt ≠ 0 → w_X12_lawful_B61 post S10 (fi S10 24)) ∧ (p3.toInt = 0 → w_X12_lawful_B61 post S10 r9)))) ∧ (r7.toInt = 0 → w_X12_lawful_B36 post S8))))))))))))

set_option maxHeartbeats 4000000 in
set_option maxRecDepth 100000 in
theorem k_X12_lawful {l : Launch} {D : va_G} {cy : Nat → ClassId} {T0 tB tE : Nat} {a : Nat → Nat} (S : GS) (p0 : Int32) (p1 : Int32) (p2 : Int32) (p3 : Int32) (post : Int32 → GS → Prop) (h : w_X12_lawful S p0 p1 p2 p3 post) : Ct l D cy T0 tB tE yX12_lawful cX12_lawful 6 (some .int) 5 132 0 0 (mw cy a S) [.ref (a 0), .int p0, .int p1, .int p2, .int p3] (QI D (U := GS) post (mw cy a)) := by
  refine Ct.ofZ RX12 "lawful" [(0, .ref (a 0)), (1, .int p0), (2, .int p1), (3, .int p2), (4, .int p3)] rfl rfl rfl rfl (Nat.le_of_ble_eq_true rfl) ?_
  intro p e R s m args below meth c A b
  unfold w_X12_lawful at h
  refine z_iload_n b dX12_lawful_0 rfl rfl ?_
  refine z_calli b (z_runS (As := [.int p0]) (st := []) b (k_X12_isRow S p0 _ h) cf_X12_isRow wm_X12_452 ws_X12_isRow dX12_lawful_1 rfl (Nat.le_of_ble_eq_true rfl) ⟨by decide, by decide, by decide, by decide⟩) (fun r1 S2 h => ?_)
  refine y_if_eq (tgt := 36) (xl := r1.toInt) b rfl dX12_lawful_4 (by decide) (fun c1 => ?_) (fun c1 => ?_)
  · replace h := h.1 c1
    refine z_lv0 (lv' := []) [] rfl ?_
    exact z_X12_lawful_B36 b _ h
  · replace h := h.2 c1
    refine z_iload_n b dX12_lawful_7 rfl rfl ?_
    refine z_iconst (v := 1) b dX12_lawful_8 (by decide) ?_
    refine z_iconst (v := 3) b dX12_lawful_9 (by decide) ?_
    refine z_calli b (z_runS (As := [.int p1, .int 1, .int 3]) (st := []) b (k_X12_isIn S2 p1 1 3 _ h) cf_X12_isIn wm_X12_1 ws_X12_isIn dX12_lawful_10 rfl (Nat.le_of_ble_eq_true rfl) ⟨by decide, by decide, by decide, by decide⟩) (fun r3 S4 h => ?_)
    refine y_if_eq (tgt := 36) (xl := r3.toInt) b rfl dX12_lawful_13 (by decide) (fun c1 => ?_) (fun c1 => ?_)
    · replace h := h.1 c1
      refine z_lv0 (lv' := []) [] rfl ?_
      exact z_X12_lawful_B36 b _ h
    · replace h := h.2 c1
      refine z_iload_n b dX12_lawful_16 rfl rfl ?_
      refine z_iconst (v := 0) b dX12_lawful_17 (by decide) ?_
      refine z_bipush (v := 31) b dX12_lawful_18 (by decide) ?_
      refine z_calli b (z_runS (As := [.int p2, .int 0, .int 31]) (st := []) b (k_X12_isIn S4 p2 0 31 _ h) cf_X12_isIn wm_X12_1 ws_X12_isIn dX12_lawful_20 rfl (Nat.le_of_ble_eq_true rfl) ⟨by decide, by decide, by decide, by decide⟩) (fun r5 S6 h => ?_)
      refine y_if_eq (tgt := 36) (xl := r5.toInt) b rfl dX12_lawful_23 (by decide) (fun c1 => ?_) (fun c1 => ?_)
      · replace h := h.1 c1
        refine z_lv0 (lv' := []) [] rfl ?_
        exact z_X12_lawful_B36 b _ h
      · replace h := h.2 c1
        refine z_iload b dX12_lawful_26 rfl ?_
        refine z_iconst (v := 0) b dX12_lawful_28 (by decide) ?_
        refine z_iconst (v := 1) b dX12_lawful_29 (by decide) ?_
        refine z_calli b (z_runS (As := [.int p3, .int 0, .int 1]) (st := []) b (k_X12_isIn S6 p3 0 1 _ h) cf_X12_isIn wm_X12_1 ws_X12_isIn dX12_lawful_30 rfl (Nat.le_of_ble_eq_true rfl) ⟨by decide, by decide, by decide, by decide⟩) (fun r7 S8 h => ?_)
        refine y_if_ne (tgt := 38) (xl := r7.toInt) b rfl dX12_lawful_33 (by decide) (fun c1 => ?_) (fun c1 => ?_)
        · replace h := h.1 c1
          refine z_aload_n b dX12_lawful_38 rfl rfl ?_
          refine z_iload_n b dX12_lawful_39 rfl rfl ?_
          refine z_iload_n b dX12_lawful_40 rfl rfl ?_
          refine z_iload_n b dX12_lawful_41 rfl rfl ?_
          refine z_calli b (z_runV (q0 := 0) (As := [.int p0, .int p1, .int p2]) (st := []) b (k_X12_goes S8 p0 p1 p2 _ h) cf_X12_goes (mw_0 cy a S8) rfl wm_X12_464 wi_X12_goes ws_X12_goes dX12_lawful_42 rfl (Nat.le_of_ble_eq_true rfl) ⟨by decide, by decide, by decide, by decide⟩) (fun r9 S10 h => ?_)
          refine z_istore (lv' := [(5, .int r9), (0, .ref (a 0)), (1, .int p0), (2, .int p1), (3, .int p2), (4, .int p3)]) b dX12_lawful_45 (by decide) rfl ?_
          refine z_iload b dX12_lawful_47 rfl ?_
          refine y_if_ne (tgt := 57) (xl := p3.toInt) b rfl dX12_lawful_49 (by decide) (fun c1 => ?_) (fun c1 => ?_)
          · replace h := h.1 c1
            refine z_aload_n b dX12_lawful_57 rfl rfl ?_
            refine z_get (q0 := 0) (k9 := 69) (v := .int (fi S10 24)) b (mw_0 cy a S10) rfl in_X12 (by decide) wf_X12_461 rfl dX12_lawful_58 ?_
            refine z_lv0 (lv' := []) [] rfl ?_
            exact z_X12_lawful_B61 b _ _ h
          · replace h := h.2 c1
            refine z_iload b dX12_lawful_52 rfl ?_
            refine z_goto (tgt := 61) b dX12_lawful_54 (by decide) ?_
            refine z_lv0 (lv' := []) [] rfl ?_
            exact z_X12_lawful_B61 b _ _ h
        · replace h := h.2 c1
          refine z_lv0 (lv' := []) [] rfl ?_
          exact z_X12_lawful_B36 b _ h

def w_X12_act_B54 (post : Int32 → GS → Prop) (S : GS) (y0 : Int32) : Prop :=
  post y0 S

set_option maxHeartbeats 4000000 in
set_option maxRecDepth 100000 in
theorem z_X12_act_B54 {p : Program} {l : Launch} {e : Env} {R : Room} {s : State} {m : MethodId} {args : Array Value} {below : List Frame} {meth : Method} {c : Code} {D : va_G} {cy : Nat → ClassId} {T0 tB tE : Nat} {A : Nat → Prop} {a : Nat → Nat} {post : Int32 → GS → Prop} (b : Bz p R s m args meth c D cy T0 tB tE A 3 cX12_act RX12 (some .int) "act" 2 43 0 0) (S : GS) (y0 : Int32) (h : w_X12_act_B54 post S y0) : Z p l e R s m args below meth c D A 3 (MQ below (QI D (U := GS) post (mw cy a) A) args s 0 0 A) 0 0 (mw cy a S) [] 54 [.int y0] := by
  unfold w_X12_act_B54 at h
  exact z_iret (u := S) b rfl dX12_act_54 h rfl (by decide) (by decide)

def w_X12_act_B69 (post : Int32 → GS → Prop) (S : GS) (y0 : Int32) : Prop :=
  post y0 S

set_option maxHeartbeats 4000000 in
set_option maxRecDepth 100000 in
theorem z_X12_act_B69 {p : Program} {l : Launch} {e : Env} {R : Room} {s : State} {m : MethodId} {args : Array Value} {below : List Frame} {meth : Method} {c : Code} {D : va_G} {cy : Nat → ClassId} {T0 tB tE : Nat} {A : Nat → Prop} {a : Nat → Nat} {post : Int32 → GS → Prop} (b : Bz p R s m args meth c D cy T0 tB tE A 3 cX12_act RX12 (some .int) "act" 2 43 0 0) (S : GS) (y0 : Int32) (h : w_X12_act_B69 post S y0) : Z p l e R s m args below meth c D A 3 (MQ below (QI D (U := GS) post (mw cy a) A) args s 0 0 A) 0 0 (mw cy a S) [] 69 [.int y0] := by
  unfold w_X12_act_B69 at h
  exact z_iret (u := S) b rfl dX12_act_69 h rfl (by decide) (by decide)

def w_X12_act (S : GS) (p0 : Int32) (p1 : Int32) (post : Int32 → GS → Prop) : Prop :=
  w_X12_isAct S p0 (fun r1 S2 => ((r1.toInt ≠ 0 → ((p1.toInt = 0 → (0 ≤ p0.toInt ∧ p0.toInt < 18) ∧ ((((ar S2 19) p0.toNatClampNeg).toInt = 0 → w_X12_act_B54 post S2 0) ∧ (((ar S2 19) p0.toNatClampNeg).toInt ≠ 0 → w_X12_act_B54 post S2 1))) ∧ (p1.toInt = 1 → (0 ≤ p0.toInt ∧ p0.toInt < 18) ∧ ((((ar S2 20) p0.toNatClampNeg).toInt = 0 → w_X12_act_B69 post S2 0) ∧ (((ar S2 20) p0.toNatClampNeg).toInt ≠ 0 → w_X12_act_B69 post S2 1))) ∧ (p1.toInt = 2 → (0 ≤ p0.toInt ∧ p0.toInt < 18) ∧ post ((ar S2 8) p0.toNatClampNeg) S2) ∧ (p1.toInt = 3 → (0 ≤ p0.toInt ∧ p0.toInt < 18) ∧ post ((ar S2 9) p0.toNatClampNeg) S2) ∧ (p1.toInt ≠ 0 ∧ p1.toInt ≠ 1 ∧ p1.toInt ≠ 2 ∧ p1.toInt ≠ 3 → post (-1) S2))) ∧ (r1.toInt = 0 → post (-1) S2)))

set_option maxHeartbeats 4000000 in
set_option maxRecDepth 100000 in
theorem k_X12_act {l : Launch} {D : va_G} {cy : Nat → ClassId} {T0 tB tE : Nat} {a : Nat → Nat} (S : GS) (p0 : Int32) (p1 : Int32) (post : Int32 → GS → Prop) (h : w_X12_act S p0 p1 post) : Ct l D cy T0 tB tE yX12_act cX12_act 3 (some .int) 2 43 0 0 (mw cy a S) [.ref (a 0), .int p0, .int p1] (QI D (U := GS) post (mw cy a)) := by
  refine Ct.ofZ RX12 "act" [(0, .ref (a 0)), (1, .int p0), (2, .int p1)] rfl rfl rfl rfl (Nat.le_of_ble_eq_true rfl) ?_
  intro p e R s m args below meth c A b
  unfold w_X12_act at h
  refine z_aload_n b dX12_act_0 rfl rfl ?_
  refine z_iload_n b dX12_act_1 rfl rfl ?_
  refine z_calli b (z_runV (q0 := 0) (As := [.int p0]) (st := []) b (k_X12_isAct S p0 _ h) cf_X12_isAct (mw_0 cy a S) rfl wm_X12_361 wi_X12_isAct ws_X12_isAct dX12_act_2 rfl (Nat.le_of_ble_eq_true rfl) ⟨by decide, by decide, by decide, by decide⟩) (fun r1 S2 h => ?_)
  refine y_if_ne (tgt := 10) (xl := r1.toInt) b rfl dX12_act_5 (by decide) (fun c1 => ?_) (fun c1 => ?_)
  · replace h := h.1 c1
    refine z_iload_n b dX12_act_10 rfl rfl ?_
    by_cases e1 : p1.toInt = 0
    · replace h := h.1 e1
      refine z_eqi (y := 0) (y_eqc e1 (by decide)) ?_
      refine z_tableIn (tgt := 40) (off := 29) b dX12_act_11 (by decide) (by decide) (by decide) (by decide) ?_
      refine z_aload_n b dX12_act_40 rfl rfl ?_
      refine z_get (q0 := 0) (k9 := 21) (v := .ref (a 20)) b (mw_0 cy a S2) rfl in_X12 (by decide) wf_X12_72 rfl dX12_act_41 ?_
      refine z_iload_n b dX12_act_44 rfl rfl ?_
      obtain ⟨g3, h⟩ := h
      refine y_zald (q0 := 20) (j := p0.toNatClampNeg) (v := ((ar S2 19) p0.toNatClampNeg)) b (mw_20 cy a S2) (zx_r g3.1 g3.2) rfl dX12_act_45 ?_
      refine y_if_eq (tgt := 53) (xl := ((ar S2 19) p0.toNatClampNeg).toInt) b rfl dX12_act_46 (by decide) (fun c1 => ?_) (fun c1 => ?_)
      · replace h := h.1 c1
        refine z_iconst (v := 0) b dX12_act_53 (by decide) ?_
        refine z_lv0 (lv' := []) [] rfl ?_
        exact z_X12_act_B54 b _ _ h
      · replace h := h.2 c1
        refine z_iconst (v := 1) b dX12_act_49 (by decide) ?_
        refine z_goto (tgt := 54) b dX12_act_50 (by decide) ?_
        refine z_lv0 (lv' := []) [] rfl ?_
        exact z_X12_act_B54 b _ _ h
    replace h := h.2
    have o0 := e1
    by_cases e1 : p1.toInt = 1
    · replace h := h.1 e1
      refine z_eqi (y := 1) (y_eqc e1 (by decide)) ?_
      refine z_tableIn (tgt := 55) (off := 44) b dX12_act_11 (by decide) (by decide) (by decide) (by decide) ?_
      refine z_aload_n b dX12_act_55 rfl rfl ?_
      refine z_get (q0 := 0) (k9 := 22) (v := .ref (a 21)) b (mw_0 cy a S2) rfl in_X12 (by decide) wf_X12_75 rfl dX12_act_56 ?_
      refine z_iload_n b dX12_act_59 rfl rfl ?_
      obtain ⟨g4, h⟩ := h
      refine y_zald (q0 := 21) (j := p0.toNatClampNeg) (v := ((ar S2 20) p0.toNatClampNeg)) b (mw_21 cy a S2) (zx_r g4.1 g4.2) rfl dX12_act_60 ?_
      refine y_if_eq (tgt := 68) (xl := ((ar S2 20) p0.toNatClampNeg).toInt) b rfl dX12_act_61 (by decide) (fun c1 => ?_) (fun c1 => ?_)
      · replace h := h.1 c1
        refine z_iconst (v := 0) b dX12_act_68 (by decide) ?_
        refine z_lv0 (lv' := []) [] rfl ?_
        exact z_X12_act_B69 b _ _ h
      · replace h := h.2 c1
        refine z_iconst (v := 1) b dX12_act_64 (by decide) ?_
        refine z_goto (tgt := 69) b dX12_act_65 (by decide) ?_
        refine z_lv0 (lv' := []) [] rfl ?_
        exact z_X12_act_B69 b _ _ h
    replace h := h.2
    have o1 := e1
    by_cases e1 : p1.toInt = 2
    · replace h := h.1 e1
      refine z_eqi (y := 2) (y_eqc e1 (by decide)) ?_
      refine z_tableIn (tgt := 70) (off := 59) b dX12_act_11 (by decide) (by decide) (by decide) (by decide) ?_
      refine z_aload_n b dX12_act_70 rfl rfl ?_
      refine z_get (q0 := 0) (k9 := 10) (v := .ref (a 9)) b (mw_0 cy a S2) rfl in_X12 (by decide) wf_X12_39 rfl dX12_act_71 ?_
      refine z_iload_n b dX12_act_74 rfl rfl ?_
      obtain ⟨g5, h⟩ := h
      refine y_iald (q0 := 9) (j := p0.toNatClampNeg) (v := ((ar S2 8) p0.toNatClampNeg)) b (mw_9 cy a S2) (zx_r g5.1 g5.2) rfl dX12_act_75 ?_
      exact z_iret (u := S2) b rfl dX12_act_76 h rfl (by decide) (by decide)
    replace h := h.2
    have o2 := e1
    by_cases e1 : p1.toInt = 3
    · replace h := h.1 e1
      refine z_eqi (y := 3) (y_eqc e1 (by decide)) ?_
      refine z_tableIn (tgt := 77) (off := 66) b dX12_act_11 (by decide) (by decide) (by decide) (by decide) ?_
      refine z_aload_n b dX12_act_77 rfl rfl ?_
      refine z_get (q0 := 0) (k9 := 11) (v := .ref (a 10)) b (mw_0 cy a S2) rfl in_X12 (by decide) wf_X12_42 rfl dX12_act_78 ?_
      refine z_iload_n b dX12_act_81 rfl rfl ?_
      obtain ⟨g6, h⟩ := h
      refine y_iald (q0 := 10) (j := p0.toNatClampNeg) (v := ((ar S2 9) p0.toNatClampNeg)) b (mw_10 cy a S2) (zx_r g6.1 g6.2) rfl dX12_act_82 ?_
      exact z_iret (u := S2) b rfl dX12_act_83 h rfl (by decide) (by decide)
    replace h := h.2
    have o3 := e1
    replace h := h ⟨o0, o1, o2, o3⟩
    refine z_tableOut (tgt := 84) b dX12_act_11 (by omega) (by decide) ?_
    refine z_iconst (v := (-1)) b dX12_act_84 (by decide) ?_
    exact z_iret (u := S2) b rfl dX12_act_85 h rfl (by decide) (by decide)
  · replace h := h.2 c1
    refine z_iconst (v := (-1)) b dX12_act_8 (by decide) ?_
    exact z_iret (u := S2) b rfl dX12_act_9 h rfl (by decide) (by decide)

def w_X12_place_F17 (post : Int32 → GS → Prop) (k54 : GS → Int32 → Prop) (k17 : GS → Int64 → Int32 → Prop) (S : GS) (x1 : Int64) (x3 : Int32) : Prop :=
  (0 ≤ x3.toInt ∧ x3.toInt < 1024) ∧ ((((ar S 29) x3.toNatClampNeg).toInt = (-1) → k54 S x3) ∧ (((ar S 29) x3.toNatClampNeg).toInt ≠ (-1) → (0 ≤ x3.toInt ∧ x3.toInt < 1024) ∧ (0 ≤ ((ar S 29) x3.toNatClampNeg).toInt ∧ ((ar S 29) x3.toNatClampNeg).toInt < 400) ∧ (((lg_cmp ((al S 0) ((ar S 29) x3.toNatClampNeg).toNatClampNeg) x1).toInt = 0 → k54 S x3) ∧ ((lg_cmp ((al S 0) ((ar S 29) x3.toNatClampNeg).toNatClampNeg) x1).toInt ≠ 0 → k17 S x1 ((x3 + 1) &&& 1023)))))

set_option maxHeartbeats 4000000 in
set_option maxRecDepth 100000 in
theorem z_X12_place_F17 {p : Program} {l : Launch} {e : Env} {R : Room} {s : State} {m : MethodId} {args : Array Value} {below : List Frame} {meth : Method} {c : Code} {D : va_G} {cy : Nat → ClassId} {T0 tB tE : Nat} {A : Nat → Prop} {a : Nat → Nat} {post : Int32 → GS → Prop} {k54 : GS → Int32 → Prop} {k17 : GS → Int64 → Int32 → Prop} (b : Bz p R s m args meth c D cy T0 tB tE A 4 cX12_place RX12 (some .int) "place" 0 0 0 0) (hk54 : ∀ (S : GS) (x3 : Int32), k54 S x3 → Z p l e R s m args below meth c D A 4 (MQ below (QI D (U := GS) post (mw cy a) A) args s 0 0 A) 0 0 (mw cy a S) [(3, .int x3)] 54 []) (hk17 : ∀ (S : GS) (x1 : Int64) (x3 : Int32), k17 S x1 x3 → Z p l e R s m args below meth c D A 4 (MQ below (QI D (U := GS) post (mw cy a) A) args s 0 0 A) 0 0 (mw cy a S) [(0, .ref (a 0)), (1, .long x1), (3, .int x3)] 17 []) (S : GS) (x1 : Int64) (x3 : Int32) (h : w_X12_place_F17 post k54 k17 S x1 x3) : Z p l e R s m args below meth c D A 4 (MQ below (QI D (U := GS) post (mw cy a) A) args s 0 0 A) 0 0 (mw cy a S) [(0, .ref (a 0)), (1, .long x1), (3, .int x3)] 17 [] := by
  unfold w_X12_place_F17 at h
  refine z_aload_n b dX12_place_17 rfl rfl ?_
  refine z_get (q0 := 0) (k9 := 53) (v := .ref (a 31)) b (mw_0 cy a S) rfl in_X12 (by decide) wf_X12_110 rfl dX12_place_18 ?_
  refine z_iload_n b dX12_place_21 rfl rfl ?_
  obtain ⟨g1, h⟩ := h
  refine y_iald (q0 := 31) (j := x3.toNatClampNeg) (v := ((ar S 29) x3.toNatClampNeg)) b (mw_31 cy a S) (zx_r g1.1 g1.2) rfl dX12_place_22 ?_
  refine z_iconst (v := (-1)) b dX12_place_23 (by decide) ?_
  refine y_icmp_eq (tgt := 54) (xl := ((ar S 29) x3.toNatClampNeg).toInt) (yl := (-1)) b rfl (by decide) dX12_place_24 (by decide) (fun c1 => ?_) (fun c1 => ?_)
  · replace h := h.1 c1
    refine z_lv0 (lv' := [(3, .int x3)]) [2] rfl ?_
    exact hk54 _ _ h
  · replace h := h.2 c1
    refine z_aload_n b dX12_place_27 rfl rfl ?_
    refine z_get (q0 := 0) (k9 := 49) (v := .ref (a 27)) b (mw_0 cy a S) rfl in_X12 (by decide) wf_X12_97 rfl dX12_place_28 ?_
    refine z_aload_n b dX12_place_31 rfl rfl ?_
    refine z_get (q0 := 0) (k9 := 53) (v := .ref (a 31)) b (mw_0 cy a S) rfl in_X12 (by decide) wf_X12_110 rfl dX12_place_32 ?_
    refine z_iload_n b dX12_place_35 rfl rfl ?_
    obtain ⟨g2, h⟩ := h
    refine y_iald (q0 := 31) (j := x3.toNatClampNeg) (v := ((ar S 29) x3.toNatClampNeg)) b (mw_31 cy a S) (zx_r g2.1 g2.2) rfl dX12_place_36 ?_
    obtain ⟨g3, h⟩ := h
    refine y_lald (q0 := 27) (j := ((ar S 29) x3.toNatClampNeg).toNatClampNeg) (v := ((al S 0) ((ar S 29) x3.toNatClampNeg).toNatClampNeg)) b (mw_27 cy a S) (zx_r g3.1 g3.2) rfl dX12_place_37 ?_
    refine z_lload_n b dX12_place_38 rfl rfl ?_
    refine z_lcmp b dX12_place_39 rfl ?_
    refine y_if_eq (tgt := 54) (xl := (lg_cmp ((al S 0) ((ar S 29) x3.toNatClampNeg).toNatClampNeg) x1).toInt) b rfl dX12_place_40 (by decide) (fun c1 => ?_) (fun c1 => ?_)
    · replace h := h.1 c1
      refine z_lv0 (lv' := [(3, .int x3)]) [2] rfl ?_
      exact hk54 _ _ h
    · replace h := h.2 c1
      refine z_iload_n b dX12_place_43 rfl rfl ?_
      refine z_iconst (v := 1) b dX12_place_44 (by decide) ?_
      refine z_iadd b dX12_place_45 rfl ?_
      refine z_sipush (v := 1023) b dX12_place_46 (by decide) ?_
      refine z_iand b dX12_place_49 rfl ?_
      refine z_istore_n (lv' := [(3, .int ((x3 + 1) &&& 1023)), (0, .ref (a 0)), (1, .long x1)]) b dX12_place_50 rfl (by decide) rfl ?_
      refine z_goto (tgt := 17) b dX12_place_51 (by decide) ?_
      refine z_lv0 (lv' := [(0, .ref (a 0)), (1, .long x1), (3, .int ((x3 + 1) &&& 1023))]) [1, 2, 0] rfl ?_
      exact hk17 _ _ _ h

set_option maxHeartbeats 4000000 in
set_option maxRecDepth 100000 in
theorem zl_X12_place_L17 {p : Program} {l : Launch} {e : Env} {R : Room} {s : State} {m : MethodId} {args : Array Value} {below : List Frame} {meth : Method} {c : Code} {D : va_G} {cy : Nat → ClassId} {T0 tB tE : Nat} {A : Nat → Prop} {a : Nat → Nat} {post : Int32 → GS → Prop} {k54 : GS → Int32 → Prop} (b : Bz p R s m args meth c D cy T0 tB tE A 4 cX12_place RX12 (some .int) "place" 0 0 0 0) (hk54 : ∀ (S : GS) (x3 : Int32), k54 S x3 → Z p l e R s m args below meth c D A 4 (MQ below (QI D (U := GS) post (mw cy a) A) args s 0 0 A) 0 0 (mw cy a S) [(3, .int x3)] 54 []) : ∀ (n : Nat) (S : GS) (x1 : Int64) (x3 : Int32), lpn (w_X12_place_F17 post k54) (fun _ _ _ => False) n S x1 x3 → Z p l e R s m args below meth c D A 4 (MQ below (QI D (U := GS) post (mw cy a) A) args s 0 0 A) 0 0 (mw cy a S) [(0, .ref (a 0)), (1, .long x1), (3, .int x3)] 17 [] := by
  intro n
  induction n with
  | zero => intro _ _ _ h; exact h.elim
  | succ n ih => intro S x1 x3 h; exact z_X12_place_F17 b hk54 ih S x1 x3 h

def w_X12_place_B54 (post : Int32 → GS → Prop) (S : GS) (x3 : Int32) : Prop :=
  post x3 S

set_option maxHeartbeats 4000000 in
set_option maxRecDepth 100000 in
theorem z_X12_place_B54 {p : Program} {l : Launch} {e : Env} {R : Room} {s : State} {m : MethodId} {args : Array Value} {below : List Frame} {meth : Method} {c : Code} {D : va_G} {cy : Nat → ClassId} {T0 tB tE : Nat} {A : Nat → Prop} {a : Nat → Nat} {post : Int32 → GS → Prop} (b : Bz p R s m args meth c D cy T0 tB tE A 4 cX12_place RX12 (some .int) "place" 0 0 0 0) (S : GS) (x3 : Int32) (h : w_X12_place_B54 post S x3) : Z p l e R s m args below meth c D A 4 (MQ below (QI D (U := GS) post (mw cy a) A) args s 0 0 A) 0 0 (mw cy a S) [(3, .int x3)] 54 [] := by
  unfold w_X12_place_B54 at h
  refine z_iload_n b dX12_place_54 rfl rfl ?_
  exact z_iret (u := S) b rfl dX12_place_55 h rfl (by decide) (by decide)

def w_X12_place (S : GS) (p0 : Int64) (post : Int32 → GS → Prop) : Prop :=
  ∃ n, lpn (w_X12_place_F17 post (w_X12_place_B54 post)) (fun _ _ _ => False) n S p0 (((((p0 ^^^ ((p0).toUInt64 >>> ((17 : Int32).toInt64.toUInt64 &&& Int64.toUInt64 63)).toInt64) ^^^ ((p0).toUInt64 >>> ((34 : Int32).toInt64.toUInt64 &&& Int64.toUInt64 63)).toInt64) &&& 1023) : Int64).toInt32)

set_option maxHeartbeats 4000000 in
set_option maxRecDepth 100000 in
theorem k_X12_place {l : Launch} {D : va_G} {cy : Nat → ClassId} {T0 tB tE : Nat} {a : Nat → Nat} (S : GS) (p0 : Int64) (post : Int32 → GS → Prop) (h : w_X12_place S p0 post) : Ct l D cy T0 tB tE yX12_place cX12_place 4 (some .int) 0 0 0 0 (mw cy a S) [.ref (a 0), .long p0] (QI D (U := GS) post (mw cy a)) := by
  refine Ct.ofZ RX12 "place" [(0, .ref (a 0)), (1, .long p0)] rfl rfl rfl rfl (Nat.le_of_ble_eq_true rfl) ?_
  intro p e R s m args below meth c A b
  unfold w_X12_place at h
  refine z_lload_n b dX12_place_0 rfl rfl ?_
  refine z_lload_n b dX12_place_1 rfl rfl ?_
  refine z_bipush (v := 17) b dX12_place_2 (by decide) ?_
  refine z_lushr b dX12_place_4 rfl ?_
  refine z_lxor b dX12_place_5 rfl ?_
  refine z_lload_n b dX12_place_6 rfl rfl ?_
  refine z_bipush (v := 34) b dX12_place_7 (by decide) ?_
  refine z_lushr b dX12_place_9 rfl ?_
  refine z_lxor b dX12_place_10 rfl ?_
  refine z_ldc2 b wl_X12_399 dX12_place_11 ?_
  refine z_land b dX12_place_14 rfl ?_
  refine z_l2i b dX12_place_15 rfl ?_
  refine z_istore_n (lv' := [(3, .int ((((p0 ^^^ ((p0).toUInt64 >>> ((17 : Int32).toInt64.toUInt64 &&& Int64.toUInt64 63)).toInt64) ^^^ ((p0).toUInt64 >>> ((34 : Int32).toInt64.toUInt64 &&& Int64.toUInt64 63)).toInt64) &&& 1023) : Int64).toInt32), (0, .ref (a 0)), (1, .long p0)]) b dX12_place_16 rfl (by decide) rfl ?_
  refine z_lv0 (lv' := [(0, .ref (a 0)), (1, .long p0), (3, .int ((((p0 ^^^ ((p0).toUInt64 >>> ((17 : Int32).toInt64.toUInt64 &&& Int64.toUInt64 63)).toInt64) ^^^ ((p0).toUInt64 >>> ((34 : Int32).toInt64.toUInt64 &&& Int64.toUInt64 63)).toInt64) &&& 1023) : Int64).toInt32)]) [1, 2, 0] rfl ?_
  obtain ⟨n, h⟩ := h
  exact zl_X12_place_L17 b (fun S x3 h => z_X12_place_B54 b _ _ h) n _ _ _ h

def w_X12_renamedCode (S : GS) (p0 : Int32) (p1 : Int32) (post : Int32 → GS → Prop) : Prop :=
  w_X12_renamed S (p0 / 6) ((p1 / 16) - (p1 / 16) / 4 * 4) (fun r1 S2 => w_X12_renamed S2 (p0 / 6) ((p1 / 4) - (p1 / 4) / 4 * 4) (fun r3 S4 => w_X12_renamed S4 (p0 - p0 / 6 * 6) (p1 - p1 / 4 * 4) (fun r5 S6 => post (((((p1 / 64) * 64) + ((16 : Int32) * r1)) + ((4 : Int32) * r3)) + r5) S6)))

set_option maxHeartbeats 4000000 in
set_option maxRecDepth 100000 in
theorem k_X12_renamedCode {l : Launch} {D : va_G} {cy : Nat → ClassId} {T0 tB tE : Nat} {a : Nat → Nat} (S : GS) (p0 : Int32) (p1 : Int32) (post : Int32 → GS → Prop) (h : w_X12_renamedCode S p0 p1 post) : Ct l D cy T0 tB tE yX12_renamedCode cX12_renamedCode 3 (some .int) 1 22 0 0 (mw cy a S) [.ref (a 0), .int p0, .int p1] (QI D (U := GS) post (mw cy a)) := by
  refine Ct.ofZ RX12 "renamedCode" [(0, .ref (a 0)), (1, .int p0), (2, .int p1)] rfl rfl rfl rfl (Nat.le_of_ble_eq_true rfl) ?_
  intro p e R s m args below meth c A b
  unfold w_X12_renamedCode at h
  refine z_iload_n b dX12_renamedCode_0 rfl rfl ?_
  refine z_bipush (v := 64) b dX12_renamedCode_1 (by decide) ?_
  refine z_idiv b dX12_renamedCode_3 (by decide) rfl ?_
  refine z_bipush (v := 64) b dX12_renamedCode_4 (by decide) ?_
  refine z_imul b dX12_renamedCode_6 rfl ?_
  refine z_bipush (v := 16) b dX12_renamedCode_7 (by decide) ?_
  refine z_aload_n b dX12_renamedCode_9 rfl rfl ?_
  refine z_iload_n b dX12_renamedCode_10 rfl rfl ?_
  refine z_bipush (v := 6) b dX12_renamedCode_11 (by decide) ?_
  refine z_idiv b dX12_renamedCode_13 (by decide) rfl ?_
  refine z_iload_n b dX12_renamedCode_14 rfl rfl ?_
  refine z_bipush (v := 16) b dX12_renamedCode_15 (by decide) ?_
  refine z_idiv b dX12_renamedCode_17 (by decide) rfl ?_
  refine z_iconst (v := 4) b dX12_renamedCode_18 (by decide) ?_
  refine z_irem b dX12_renamedCode_19 (by decide) rfl ?_
  refine z_calli b (z_runV (q0 := 0) (As := [.int (p0 / 6), .int ((p1 / 16) - (p1 / 16) / 4 * 4)]) (st := [.int 16, .int ((p1 / 64) * 64)]) b (k_X12_renamed S (p0 / 6) ((p1 / 16) - (p1 / 16) / 4 * 4) _ h) cf_X12_renamed (mw_0 cy a S) rfl wm_X12_445 wi_X12_renamed ws_X12_renamed dX12_renamedCode_20 rfl (Nat.le_of_ble_eq_true rfl) ⟨by decide, by decide, by decide, by decide⟩) (fun r1 S2 h => ?_)
  refine z_imul b dX12_renamedCode_23 rfl ?_
  refine z_iadd b dX12_renamedCode_24 rfl ?_
  refine z_iconst (v := 4) b dX12_renamedCode_25 (by decide) ?_
  refine z_aload_n b dX12_renamedCode_26 rfl rfl ?_
  refine z_iload_n b dX12_renamedCode_27 rfl rfl ?_
  refine z_bipush (v := 6) b dX12_renamedCode_28 (by decide) ?_
  refine z_idiv b dX12_renamedCode_30 (by decide) rfl ?_
  refine z_iload_n b dX12_renamedCode_31 rfl rfl ?_
  refine z_iconst (v := 4) b dX12_renamedCode_32 (by decide) ?_
  refine z_idiv b dX12_renamedCode_33 (by decide) rfl ?_
  refine z_iconst (v := 4) b dX12_renamedCode_34 (by decide) ?_
  refine z_irem b dX12_renamedCode_35 (by decide) rfl ?_
  refine z_calli b (z_runV (q0 := 0) (As := [.int (p0 / 6), .int ((p1 / 4) - (p1 / 4) / 4 * 4)]) (st := [.int 4, .int (((p1 / 64) * 64) + ((16 : Int32) * r1))]) b (k_X12_renamed S2 (p0 / 6) ((p1 / 4) - (p1 / 4) / 4 * 4) _ h) cf_X12_renamed (mw_0 cy a S2) rfl wm_X12_445 wi_X12_renamed ws_X12_renamed dX12_renamedCode_36 rfl (Nat.le_of_ble_eq_true rfl) ⟨by decide, by decide, by decide, by decide⟩) (fun r3 S4 h => ?_)
  refine z_imul b dX12_renamedCode_39 rfl ?_
  refine z_iadd b dX12_renamedCode_40 rfl ?_
  refine z_aload_n b dX12_renamedCode_41 rfl rfl ?_
  refine z_iload_n b dX12_renamedCode_42 rfl rfl ?_
  refine z_bipush (v := 6) b dX12_renamedCode_43 (by decide) ?_
  refine z_irem b dX12_renamedCode_45 (by decide) rfl ?_
  refine z_iload_n b dX12_renamedCode_46 rfl rfl ?_
  refine z_iconst (v := 4) b dX12_renamedCode_47 (by decide) ?_
  refine z_irem b dX12_renamedCode_48 (by decide) rfl ?_
  refine z_calli b (z_runV (q0 := 0) (As := [.int (p0 - p0 / 6 * 6), .int (p1 - p1 / 4 * 4)]) (st := [.int ((((p1 / 64) * 64) + ((16 : Int32) * r1)) + ((4 : Int32) * r3))]) b (k_X12_renamed S4 (p0 - p0 / 6 * 6) (p1 - p1 / 4 * 4) _ h) cf_X12_renamed (mw_0 cy a S4) rfl wm_X12_445 wi_X12_renamed ws_X12_renamed dX12_renamedCode_49 rfl (Nat.le_of_ble_eq_true rfl) ⟨by decide, by decide, by decide, by decide⟩) (fun r5 S6 h => ?_)
  refine z_iadd b dX12_renamedCode_52 rfl ?_
  exact z_iret (u := S6) b rfl dX12_renamedCode_53 h rfl (by decide) (by decide)

def w_X12_endsAt_B59 (post : Int32 → GS → Prop) (k5 : GS → Int32 → Int32 → Int32 → Int32 → Prop) (k65 : GS → Prop) (S : GS) (x1 : Int32) (x2 : Int32) (x3 : Int32) (x4 : Int32) : Prop :=
  k5 S x1 x2 x3 (x4 + 1)

set_option maxHeartbeats 4000000 in
set_option maxRecDepth 100000 in
theorem z_X12_endsAt_B59 {p : Program} {l : Launch} {e : Env} {R : Room} {s : State} {m : MethodId} {args : Array Value} {below : List Frame} {meth : Method} {c : Code} {D : va_G} {cy : Nat → ClassId} {T0 tB tE : Nat} {A : Nat → Prop} {a : Nat → Nat} {post : Int32 → GS → Prop} {k5 : GS → Int32 → Int32 → Int32 → Int32 → Prop} {k65 : GS → Prop} (b : Bz p R s m args meth c D cy T0 tB tE A 5 cX12_endsAt RX12 (some .int) "endsAt" 2 44 0 0) (hk5 : ∀ (S : GS) (x1 : Int32) (x2 : Int32) (x3 : Int32) (x4 : Int32), k5 S x1 x2 x3 x4 → Z p l e R s m args below meth c D A 5 (MQ below (QI D (U := GS) post (mw cy a) A) args s 0 0 A) 0 0 (mw cy a S) [(0, .ref (a 0)), (1, .int x1), (2, .int x2), (3, .int x3), (4, .int x4)] 5 []) (hk65 : ∀ (S : GS), k65 S → Z p l e R s m args below meth c D A 5 (MQ below (QI D (U := GS) post (mw cy a) A) args s 0 0 A) 0 0 (mw cy a S) [] 65 []) (S : GS) (x1 : Int32) (x2 : Int32) (x3 : Int32) (x4 : Int32) (h : w_X12_endsAt_B59 post k5 k65 S x1 x2 x3 x4) : Z p l e R s m args below meth c D A 5 (MQ below (QI D (U := GS) post (mw cy a) A) args s 0 0 A) 0 0 (mw cy a S) [(0, .ref (a 0)), (1, .int x1), (2, .int x2), (3, .int x3), (4, .int x4)] 59 [] := by
  unfold w_X12_endsAt_B59 at h
  refine z_iinc (k9 := 4) (v := (x4 + 1)) (lv' := [(4, .int (x4 + 1)), (0, .ref (a 0)), (1, .int x1), (2, .int x2), (3, .int x3)]) b dX12_endsAt_59 rfl rfl (by decide) rfl ?_
  refine z_goto (tgt := 5) b dX12_endsAt_62 (by decide) ?_
  refine z_lv0 (lv' := [(0, .ref (a 0)), (1, .int x1), (2, .int x2), (3, .int x3), (4, .int (x4 + 1))]) [1, 2, 3, 4, 0] rfl ?_
  exact hk5 _ _ _ _ _ h

def w_X12_endsAt_F5 (post : Int32 → GS → Prop) (k65 : GS → Prop) (k5 : GS → Int32 → Int32 → Int32 → Int32 → Prop) (S : GS) (x1 : Int32) (x2 : Int32) (x3 : Int32) (x4 : Int32) : Prop :=
  (((fi S 25).toInt ≤ x4.toInt → k65 S) ∧ (x4.toInt < (fi S 25).toInt → (0 ≤ x4.toInt ∧ x4.toInt < 200) ∧ (0 ≤ (((12 : Int32) * x1) + x3).toInt ∧ (((12 : Int32) * x1) + x3).toInt < 72) ∧ w_X12_renamedCode S x2 ((ar S 37) (((12 : Int32) * x1) + x3).toNatClampNeg) (fun r3 S4 => ((((ar S 40) x4.toNatClampNeg).toInt = r3.toInt → (0 ≤ x1.toInt ∧ x1.toInt < 6) ∧ (((x3 + 1).toInt ≠ ((ar S4 38) x1.toNatClampNeg).toInt → w_X12_endsAt_B59 post k5 k65 S4 x1 x2 (x3 + 1) x4) ∧ ((x3 + 1).toInt = ((ar S4 38) x1.toNatClampNeg).toInt → post x4 S4))) ∧ (((ar S 40) x4.toNatClampNeg).toInt ≠ r3.toInt → w_X12_endsAt_B59 post k5 k65 S4 x1 x2 x3 x4)))))

set_option maxHeartbeats 4000000 in
set_option maxRecDepth 100000 in
theorem z_X12_endsAt_F5 {p : Program} {l : Launch} {e : Env} {R : Room} {s : State} {m : MethodId} {args : Array Value} {below : List Frame} {meth : Method} {c : Code} {D : va_G} {cy : Nat → ClassId} {T0 tB tE : Nat} {A : Nat → Prop} {a : Nat → Nat} {post : Int32 → GS → Prop} {k65 : GS → Prop} {k5 : GS → Int32 → Int32 → Int32 → Int32 → Prop} (b : Bz p R s m args meth c D cy T0 tB tE A 5 cX12_endsAt RX12 (some .int) "endsAt" 2 44 0 0) (hk65 : ∀ (S : GS), k65 S → Z p l e R s m args below meth c D A 5 (MQ below (QI D (U := GS) post (mw cy a) A) args s 0 0 A) 0 0 (mw cy a S) [] 65 []) (hk5 : ∀ (S : GS) (x1 : Int32) (x2 : Int32) (x3 : Int32) (x4 : Int32), k5 S x1 x2 x3 x4 → Z p l e R s m args below meth c D A 5 (MQ below (QI D (U := GS) post (mw cy a) A) args s 0 0 A) 0 0 (mw cy a S) [(0, .ref (a 0)), (1, .int x1), (2, .int x2), (3, .int x3), (4, .int x4)] 5 []) (S : GS) (x1 : Int32) (x2 : Int32) (x3 : Int32) (x4 : Int32) (h : w_X12_endsAt_F5 post k65 k5 S x1 x2 x3 x4) : Z p l e R s m args below meth c D A 5 (MQ below (QI D (U := GS) post (mw cy a) A) args s 0 0 A) 0 0 (mw cy a S) [(0, .ref (a 0)), (1, .int x1), (2, .int x2), (3, .int x3), (4, .int x4)] 5 [] := by
  unfold w_X12_endsAt_F5 at h
  refine z_iload b dX12_endsAt_5 rfl ?_
  refine z_aload_n b dX12_endsAt_7 rfl rfl ?_
  refine z_get (q0 := 0) (k9 := 71) (v := .int (fi S 25)) b (mw_0 cy a S) rfl in_X12 (by decide) wf_X12_470 rfl dX12_endsAt_8 ?_
  refine y_icmp_ge (tgt := 65) (xl := x4.toInt) (yl := (fi S 25).toInt) b rfl rfl dX12_endsAt_11 (by decide) (fun c1 => ?_) (fun c1 => ?_)
  · replace h := h.1 c1
    refine z_lv0 (lv' := []) [] rfl ?_
    exact hk65 _ h
  · replace h := h.2 c1
    refine z_aload_n b dX12_endsAt_14 rfl rfl ?_
    refine z_get (q0 := 0) (k9 := 70) (v := .ref (a 43)) b (mw_0 cy a S) rfl in_X12 (by decide) wf_X12_146 rfl dX12_endsAt_15 ?_
    refine z_iload b dX12_endsAt_18 rfl ?_
    obtain ⟨g1, h⟩ := h
    refine y_iald (q0 := 43) (j := x4.toNatClampNeg) (v := ((ar S 40) x4.toNatClampNeg)) b (mw_43 cy a S) (zx_r g1.1 g1.2) rfl dX12_endsAt_20 ?_
    refine z_aload_n b dX12_endsAt_21 rfl rfl ?_
    refine z_iload_n b dX12_endsAt_22 rfl rfl ?_
    refine z_aload_n b dX12_endsAt_23 rfl rfl ?_
    refine z_get (q0 := 0) (k9 := 65) (v := .ref (a 40)) b (mw_0 cy a S) rfl in_X12 (by decide) wf_X12_137 rfl dX12_endsAt_24 ?_
    refine z_bipush (v := 12) b dX12_endsAt_27 (by decide) ?_
    refine z_iload_n b dX12_endsAt_29 rfl rfl ?_
    refine z_imul b dX12_endsAt_30 rfl ?_
    refine z_iload_n b dX12_endsAt_31 rfl rfl ?_
    refine z_iadd b dX12_endsAt_32 rfl ?_
    obtain ⟨g2, h⟩ := h
    refine y_iald (q0 := 40) (j := (((12 : Int32) * x1) + x3).toNatClampNeg) (v := ((ar S 37) (((12 : Int32) * x1) + x3).toNatClampNeg)) b (mw_40 cy a S) (zx_r g2.1 g2.2) rfl dX12_endsAt_33 ?_
    refine z_calli b (z_runV (q0 := 0) (As := [.int x2, .int ((ar S 37) (((12 : Int32) * x1) + x3).toNatClampNeg)]) (st := [.int ((ar S 40) x4.toNatClampNeg)]) b (k_X12_renamedCode S x2 ((ar S 37) (((12 : Int32) * x1) + x3).toNatClampNeg) _ h) cf_X12_renamedCode (mw_0 cy a S) rfl wm_X12_473 wi_X12_renamedCode ws_X12_renamedCode dX12_endsAt_34 rfl (Nat.le_of_ble_eq_true rfl) ⟨by decide, by decide, by decide, by decide⟩) (fun r3 S4 h => ?_)
    refine y_icmp_eq (tgt := 43) (xl := ((ar S 40) x4.toNatClampNeg).toInt) (yl := r3.toInt) b rfl rfl dX12_endsAt_37 (by decide) (fun c1 => ?_) (fun c1 => ?_)
    · replace h := h.1 c1
      refine z_iinc (k9 := 3) (v := (x3 + 1)) (lv' := [(3, .int (x3 + 1)), (0, .ref (a 0)), (1, .int x1), (2, .int x2), (4, .int x4)]) b dX12_endsAt_43 rfl rfl (by decide) rfl ?_
      refine z_iload_n b dX12_endsAt_46 rfl rfl ?_
      refine z_aload_n b dX12_endsAt_47 rfl rfl ?_
      refine z_get (q0 := 0) (k9 := 66) (v := .ref (a 41)) b (mw_0 cy a S4) rfl in_X12 (by decide) wf_X12_140 rfl dX12_endsAt_48 ?_
      refine z_iload_n b dX12_endsAt_51 rfl rfl ?_
      obtain ⟨g5, h⟩ := h
      refine y_iald (q0 := 41) (j := x1.toNatClampNeg) (v := ((ar S4 38) x1.toNatClampNeg)) b (mw_41 cy a S4) (zx_r g5.1 g5.2) rfl dX12_endsAt_52 ?_
      refine y_icmp_ne (tgt := 59) (xl := (x3 + 1).toInt) (yl := ((ar S4 38) x1.toNatClampNeg).toInt) b rfl rfl dX12_endsAt_53 (by decide) (fun c1 => ?_) (fun c1 => ?_)
      · replace h := h.1 c1
        refine z_lv0 (lv' := [(0, .ref (a 0)), (1, .int x1), (2, .int x2), (3, .int (x3 + 1)), (4, .int x4)]) [1, 2, 3, 0, 4] rfl ?_
        exact z_X12_endsAt_B59 b hk5 hk65 _ _ _ _ _ h
      · replace h := h.2 c1
        refine z_iload b dX12_endsAt_56 rfl ?_
        exact z_iret (u := S4) b rfl dX12_endsAt_58 h rfl (by decide) (by decide)
    · replace h := h.2 c1
      refine z_goto (tgt := 59) b dX12_endsAt_40 (by decide) ?_
      exact z_X12_endsAt_B59 b hk5 hk65 _ _ _ _ _ h

set_option maxHeartbeats 4000000 in
set_option maxRecDepth 100000 in
theorem zl_X12_endsAt_L5 {p : Program} {l : Launch} {e : Env} {R : Room} {s : State} {m : MethodId} {args : Array Value} {below : List Frame} {meth : Method} {c : Code} {D : va_G} {cy : Nat → ClassId} {T0 tB tE : Nat} {A : Nat → Prop} {a : Nat → Nat} {post : Int32 → GS → Prop} {k65 : GS → Prop} (b : Bz p R s m args meth c D cy T0 tB tE A 5 cX12_endsAt RX12 (some .int) "endsAt" 2 44 0 0) (hk65 : ∀ (S : GS), k65 S → Z p l e R s m args below meth c D A 5 (MQ below (QI D (U := GS) post (mw cy a) A) args s 0 0 A) 0 0 (mw cy a S) [] 65 []) : ∀ (n : Nat) (S : GS) (x1 : Int32) (x2 : Int32) (x3 : Int32) (x4 : Int32), lpn (w_X12_endsAt_F5 post k65) (fun _ _ _ _ _ => False) n S x1 x2 x3 x4 → Z p l e R s m args below meth c D A 5 (MQ below (QI D (U := GS) post (mw cy a) A) args s 0 0 A) 0 0 (mw cy a S) [(0, .ref (a 0)), (1, .int x1), (2, .int x2), (3, .int x3), (4, .int x4)] 5 [] := by
  intro n
  induction n with
  | zero => intro _ _ _ _ _ h; exact h.elim
  | succ n ih => intro S x1 x2 x3 x4 h; exact z_X12_endsAt_F5 b hk65 ih S x1 x2 x3 x4 h

def w_X12_endsAt_B65 (post : Int32 → GS → Prop) (S : GS)  : Prop :=
  post (-1) S

set_option maxHeartbeats 4000000 in
set_option maxRecDepth 100000 in
theorem z_X12_endsAt_B65 {p : Program} {l : Launch} {e : Env} {R : Room} {s : State} {m : MethodId} {args : Array Value} {below : List Frame} {meth : Method} {c : Code} {D : va_G} {cy : Nat → ClassId} {T0 tB tE : Nat} {A : Nat → Prop} {a : Nat → Nat} {post : Int32 → GS → Prop} (b : Bz p R s m args meth c D cy T0 tB tE A 5 cX12_endsAt RX12 (some .int) "endsAt" 2 44 0 0) (S : GS)  (h : w_X12_endsAt_B65 post S ) : Z p l e R s m args below meth c D A 5 (MQ below (QI D (U := GS) post (mw cy a) A) args s 0 0 A) 0 0 (mw cy a S) [] 65 [] := by
  unfold w_X12_endsAt_B65 at h
  refine z_iconst (v := (-1)) b dX12_endsAt_65 (by decide) ?_
  exact z_iret (u := S) b rfl dX12_endsAt_66 h rfl (by decide) (by decide)

def w_X12_endsAt (S : GS) (p0 : Int32) (p1 : Int32) (post : Int32 → GS → Prop) : Prop :=
  ∃ n, lpn (w_X12_endsAt_F5 post (w_X12_endsAt_B65 post)) (fun _ _ _ _ _ => False) n S p0 p1 0 0

set_option maxHeartbeats 4000000 in
set_option maxRecDepth 100000 in
theorem k_X12_endsAt {l : Launch} {D : va_G} {cy : Nat → ClassId} {T0 tB tE : Nat} {a : Nat → Nat} (S : GS) (p0 : Int32) (p1 : Int32) (post : Int32 → GS → Prop) (h : w_X12_endsAt S p0 p1 post) : Ct l D cy T0 tB tE yX12_endsAt cX12_endsAt 5 (some .int) 2 44 0 0 (mw cy a S) [.ref (a 0), .int p0, .int p1] (QI D (U := GS) post (mw cy a)) := by
  refine Ct.ofZ RX12 "endsAt" [(0, .ref (a 0)), (1, .int p0), (2, .int p1)] rfl rfl rfl rfl (Nat.le_of_ble_eq_true rfl) ?_
  intro p e R s m args below meth c A b
  unfold w_X12_endsAt at h
  refine z_iconst (v := 0) b dX12_endsAt_0 (by decide) ?_
  refine z_istore_n (lv' := [(3, .int 0), (0, .ref (a 0)), (1, .int p0), (2, .int p1)]) b dX12_endsAt_1 rfl (by decide) rfl ?_
  refine z_iconst (v := 0) b dX12_endsAt_2 (by decide) ?_
  refine z_istore (lv' := [(4, .int 0), (3, .int 0), (0, .ref (a 0)), (1, .int p0), (2, .int p1)]) b dX12_endsAt_3 (by decide) rfl ?_
  refine z_lv0 (lv' := [(0, .ref (a 0)), (1, .int p0), (2, .int p1), (3, .int 0), (4, .int 0)]) [2, 3, 4, 1, 0] rfl ?_
  obtain ⟨n, h⟩ := h
  exact zl_X12_endsAt_L5 b (fun S h => z_X12_endsAt_B65 b _ h) n _ _ _ _ _ h

def w_X12_put_B25 (post : Int32 → GS → Prop) (S : GS)  : Prop :=
  post (-1) S

set_option maxHeartbeats 4000000 in
set_option maxRecDepth 100000 in
theorem z_X12_put_B25 {p : Program} {l : Launch} {e : Env} {R : Room} {s : State} {m : MethodId} {args : Array Value} {below : List Frame} {meth : Method} {c : Code} {D : va_G} {cy : Nat → ClassId} {T0 tB tE : Nat} {A : Nat → Prop} {a : Nat → Nat} {post : Int32 → GS → Prop} (b : Bz p R s m args meth c D cy T0 tB tE A 3 cX12_put RX12 (some .int) "put" 2 42 0 0) (S : GS)  (h : w_X12_put_B25 post S ) : Z p l e R s m args below meth c D A 3 (MQ below (QI D (U := GS) post (mw cy a) A) args s 0 0 A) 0 0 (mw cy a S) [] 25 [] := by
  unfold w_X12_put_B25 at h
  refine z_iconst (v := (-1)) b dX12_put_25 (by decide) ?_
  exact z_iret (u := S) b rfl dX12_put_26 h rfl (by decide) (by decide)

def w_X12_put (S : GS) (p0 : Int32) (p1 : Int32) (post : Int32 → GS → Prop) : Prop :=
  w_X12_isRow S p0 (fun r1 S2 => ((r1.toInt = 0 → w_X12_put_B25 post S2) ∧ (r1.toInt ≠ 0 → w_X12_isNumber S2 p1 (fun r3 S4 => ((r3.toInt = 0 → w_X12_put_B25 post S4) ∧ (r3.toInt ≠ 0 → (0 ≤ p0.toInt ∧ p0.toInt < 6) ∧ ((((ar S4 38) p0.toNatClampNeg).toInt ≠ 12 → (0 ≤ p0.toInt ∧ p0.toInt < 6) ∧ (0 ≤ (((12 : Int32) * p0) + ((ar S4 38) p0.toNatClampNeg)).toInt ∧ (((12 : Int32) * p0) + ((ar S4 38) p0.toNatClampNeg)).toInt < 72) ∧ (0 ≤ p0.toInt ∧ p0.toInt < 6) ∧ (0 ≤ p0.toInt ∧ p0.toInt < 6) ∧ (0 ≤ p0.toInt ∧ p0.toInt < 6) ∧ post ((upd (ar S4 38) (p0.toNatClampNeg) (((ar S4 38) p0.toNatClampNeg) + 1)) p0.toNatClampNeg) (su (su S4 37 ((((12 : Int32) * p0) + ((ar S4 38) p0.toNatClampNeg)).toNatClampNeg) p1) 38 (p0.toNatClampNeg) (((ar S4 38) p0.toNatClampNeg) + 1))) ∧ (((ar S4 38) p0.toNatClampNeg).toInt = 12 → w_X12_put_B25 post S4))))))))

set_option maxHeartbeats 4000000 in
set_option maxRecDepth 100000 in
theorem k_X12_put {l : Launch} {D : va_G} {cy : Nat → ClassId} {T0 tB tE : Nat} {a : Nat → Nat} (S : GS) (p0 : Int32) (p1 : Int32) (post : Int32 → GS → Prop) (h : w_X12_put S p0 p1 post) : Ct l D cy T0 tB tE yX12_put cX12_put 3 (some .int) 2 42 0 0 (mw cy a S) [.ref (a 0), .int p0, .int p1] (QI D (U := GS) post (mw cy a)) := by
  refine Ct.ofZ RX12 "put" [(0, .ref (a 0)), (1, .int p0), (2, .int p1)] rfl rfl rfl rfl (Nat.le_of_ble_eq_true rfl) ?_
  intro p e R s m args below meth c A b
  unfold w_X12_put at h
  refine z_iload_n b dX12_put_0 rfl rfl ?_
  refine z_calli b (z_runS (As := [.int p0]) (st := []) b (k_X12_isRow S p0 _ h) cf_X12_isRow wm_X12_452 ws_X12_isRow dX12_put_1 rfl (Nat.le_of_ble_eq_true rfl) ⟨by decide, by decide, by decide, by decide⟩) (fun r1 S2 h => ?_)
  refine y_if_eq (tgt := 25) (xl := r1.toInt) b rfl dX12_put_4 (by decide) (fun c1 => ?_) (fun c1 => ?_)
  · replace h := h.1 c1
    refine z_lv0 (lv' := []) [] rfl ?_
    exact z_X12_put_B25 b _ h
  · replace h := h.2 c1
    refine z_iload_n b dX12_put_7 rfl rfl ?_
    refine z_calli b (z_runS (As := [.int p1]) (st := []) b (k_X12_isNumber S2 p1 _ h) cf_X12_isNumber wm_X12_455 ws_X12_isNumber dX12_put_8 rfl (Nat.le_of_ble_eq_true rfl) ⟨by decide, by decide, by decide, by decide⟩) (fun r3 S4 h => ?_)
    refine y_if_eq (tgt := 25) (xl := r3.toInt) b rfl dX12_put_11 (by decide) (fun c1 => ?_) (fun c1 => ?_)
    · replace h := h.1 c1
      refine z_lv0 (lv' := []) [] rfl ?_
      exact z_X12_put_B25 b _ h
    · replace h := h.2 c1
      refine z_aload_n b dX12_put_14 rfl rfl ?_
      refine z_get (q0 := 0) (k9 := 66) (v := .ref (a 41)) b (mw_0 cy a S4) rfl in_X12 (by decide) wf_X12_140 rfl dX12_put_15 ?_
      refine z_iload_n b dX12_put_18 rfl rfl ?_
      obtain ⟨g5, h⟩ := h
      refine y_iald (q0 := 41) (j := p0.toNatClampNeg) (v := ((ar S4 38) p0.toNatClampNeg)) b (mw_41 cy a S4) (zx_r g5.1 g5.2) rfl dX12_put_19 ?_
      refine z_bipush (v := 12) b dX12_put_20 (by decide) ?_
      refine y_icmp_ne (tgt := 27) (xl := ((ar S4 38) p0.toNatClampNeg).toInt) (yl := 12) b rfl (by decide) dX12_put_22 (by decide) (fun c1 => ?_) (fun c1 => ?_)
      · replace h := h.1 c1
        refine z_aload_n b dX12_put_27 rfl rfl ?_
        refine z_get (q0 := 0) (k9 := 65) (v := .ref (a 40)) b (mw_0 cy a S4) rfl in_X12 (by decide) wf_X12_137 rfl dX12_put_28 ?_
        refine z_bipush (v := 12) b dX12_put_31 (by decide) ?_
        refine z_iload_n b dX12_put_33 rfl rfl ?_
        refine z_imul b dX12_put_34 rfl ?_
        refine z_aload_n b dX12_put_35 rfl rfl ?_
        refine z_get (q0 := 0) (k9 := 66) (v := .ref (a 41)) b (mw_0 cy a S4) rfl in_X12 (by decide) wf_X12_140 rfl dX12_put_36 ?_
        refine z_iload_n b dX12_put_39 rfl rfl ?_
        obtain ⟨g6, h⟩ := h
        refine y_iald (q0 := 41) (j := p0.toNatClampNeg) (v := ((ar S4 38) p0.toNatClampNeg)) b (mw_41 cy a S4) (zx_r g6.1 g6.2) rfl dX12_put_40 ?_
        refine z_iadd b dX12_put_41 rfl ?_
        refine z_iload_n b dX12_put_42 rfl rfl ?_
        obtain ⟨g7, h⟩ := h
        refine y_iast (q0 := 40) (j := (((12 : Int32) * p0) + ((ar S4 38) p0.toNatClampNeg)).toNatClampNeg) b (mw_40 cy a S4) (zx_r g7.1 g7.2) dX12_put_43 (mwa_40 cy a S4 ((((12 : Int32) * p0) + ((ar S4 38) p0.toNatClampNeg)).toNatClampNeg) p1) ?_
        refine z_aload_n b dX12_put_44 rfl rfl ?_
        refine z_get (q0 := 0) (k9 := 66) (v := .ref (a 41)) b (mw_0 cy a (su S4 37 ((((12 : Int32) * p0) + ((ar S4 38) p0.toNatClampNeg)).toNatClampNeg) p1)) rfl in_X12 (by decide) wf_X12_140 rfl dX12_put_45 ?_
        refine z_iload_n b dX12_put_48 rfl rfl ?_
        refine z_dup2 b dX12_put_49 rfl rfl ?_
        obtain ⟨g8, h⟩ := h
        refine y_iald (q0 := 41) (j := p0.toNatClampNeg) (v := ((ar S4 38) p0.toNatClampNeg)) b (mw_41 cy a (su S4 37 ((((12 : Int32) * p0) + ((ar S4 38) p0.toNatClampNeg)).toNatClampNeg) p1)) (zx_r g8.1 g8.2) rfl dX12_put_50 ?_
        refine z_iconst (v := 1) b dX12_put_51 (by decide) ?_
        refine z_iadd b dX12_put_52 rfl ?_
        obtain ⟨g9, h⟩ := h
        refine y_iast (q0 := 41) (j := p0.toNatClampNeg) b (mw_41 cy a (su S4 37 ((((12 : Int32) * p0) + ((ar S4 38) p0.toNatClampNeg)).toNatClampNeg) p1)) (zx_r g9.1 g9.2) dX12_put_53 (mwa_41 cy a (su S4 37 ((((12 : Int32) * p0) + ((ar S4 38) p0.toNatClampNeg)).toNatClampNeg) p1) (p0.toNatClampNeg) (((ar S4 38) p0.toNatClampNeg) + 1)) ?_
        refine z_aload_n b dX12_put_54 rfl rfl ?_
        refine z_get (q0 := 0) (k9 := 66) (v := .ref (a 41)) b (mw_0 cy a (su (su S4 37 ((((12 : Int32) * p0) + ((ar S4 38) p0.toNatClampNeg)).toNatClampNeg) p1) 38 (p0.toNatClampNeg) (((ar S4 38) p0.toNatClampNeg) + 1))) rfl in_X12 (by decide) wf_X12_140 rfl dX12_put_55 ?_
        refine z_iload_n b dX12_put_58 rfl rfl ?_
        obtain ⟨g10, h⟩ := h
        refine y_iald (q0 := 41) (j := p0.toNatClampNeg) (v := ((upd (ar S4 38) (p0.toNatClampNeg) (((ar S4 38) p0.toNatClampNeg) + 1)) p0.toNatClampNeg)) b (mw_41 cy a (su (su S4 37 ((((12 : Int32) * p0) + ((ar S4 38) p0.toNatClampNeg)).toNatClampNeg) p1) 38 (p0.toNatClampNeg) (((ar S4 38) p0.toNatClampNeg) + 1))) (zx_r g10.1 g10.2) rfl dX12_put_59 ?_
        exact z_iret (u := (su (su S4 37 ((((12 : Int32) * p0) + ((ar S4 38) p0.toNatClampNeg)).toNatClampNeg) p1) 38 (p0.toNatClampNeg) (((ar S4 38) p0.toNatClampNeg) + 1))) b rfl dX12_put_60 h rfl (by decide) (by decide)
      · replace h := h.2 c1
        refine z_lv0 (lv' := []) [] rfl ?_
        exact z_X12_put_B25 b _ h

def w_X12_cure_B23 (post : Int32 → GS → Prop) (S : GS)  : Prop :=
  w_X12_ends S (fun S2 => post (-1) S2)

set_option maxHeartbeats 4000000 in
set_option maxRecDepth 100000 in
theorem z_X12_cure_B23 {p : Program} {l : Launch} {e : Env} {R : Room} {s : State} {m : MethodId} {args : Array Value} {below : List Frame} {meth : Method} {c : Code} {D : va_G} {cy : Nat → ClassId} {T0 tB tE : Nat} {A : Nat → Prop} {a : Nat → Nat} {post : Int32 → GS → Prop} (b : Bz p R s m args meth c D cy T0 tB tE A 2 cX12_cure RX12 (some .int) "cure" 47 966 0 0) (S : GS)  (h : w_X12_cure_B23 post S ) : Z p l e R s m args below meth c D A 2 (MQ below (QI D (U := GS) post (mw cy a) A) args s 0 0 A) 0 0 (mw cy a S) [(0, .ref (a 0))] 23 [] := by
  unfold w_X12_cure_B23 at h
  refine z_aload_n b dX12_cure_23 rfl rfl ?_
  refine z_callv b (z_runV (q0 := 0) (As := []) (st := []) b (k_X12_ends S _ h) cf_X12_ends (mw_0 cy a S) rfl wm_X12_336 wi_X12_ends ws_X12_ends dX12_cure_24 rfl (Nat.le_of_ble_eq_true rfl) ⟨by decide, by decide, by decide, by decide⟩) (fun S2 h => ?_)
  refine z_iconst (v := (-1)) b dX12_cure_27 (by decide) ?_
  exact z_iret (u := S2) b rfl dX12_cure_28 h rfl (by decide) (by decide)

def w_X12_cure (S : GS) (p0 : Int32) (post : Int32 → GS → Prop) : Prop :=
  (((fi S 17).toInt = 5 → w_X12_cure_B23 post (si S 6 0)) ∧ ((fi S 17).toInt ≠ 5 → w_X12_isIn (si S 6 0) p0 0 11 (fun r3 S4 => ((r3.toInt ≠ 0 → w_X12_reads S4 (fun r5 S6 => ((r5.toInt ≠ 0 → w_X12_keeps S6 ((8 : Int32) + (fi S6 17)) (fun S8 => (0 ≤ (fi S8 17).toInt ∧ (fi S8 17).toInt < 5) ∧ post (((fi S8 17) + 1) - 1) (si (su S8 23 ((fi S8 17).toNatClampNeg) p0) 17 ((fi S8 17) + 1)))) ∧ (r5.toInt = 0 → post (-1) S6)))) ∧ (r3.toInt = 0 → w_X12_cure_B23 post S4)))))

set_option maxHeartbeats 4000000 in
set_option maxRecDepth 100000 in
theorem k_X12_cure {l : Launch} {D : va_G} {cy : Nat → ClassId} {T0 tB tE : Nat} {a : Nat → Nat} (S : GS) (p0 : Int32) (post : Int32 → GS → Prop) (h : w_X12_cure S p0 post) : Ct l D cy T0 tB tE yX12_cure cX12_cure 2 (some .int) 47 966 0 0 (mw cy a S) [.ref (a 0), .int p0] (QI D (U := GS) post (mw cy a)) := by
  refine Ct.ofZ RX12 "cure" [(0, .ref (a 0)), (1, .int p0)] rfl rfl rfl rfl (Nat.le_of_ble_eq_true rfl) ?_
  intro p e R s m args below meth c A b
  unfold w_X12_cure at h
  refine z_aload_n b dX12_cure_0 rfl rfl ?_
  refine z_iconst (v := 0) b dX12_cure_1 (by decide) ?_
  refine z_put (q0 := 0) (k9 := 30) tyX12 b (mw_0 cy a S) rfl in_X12 tyX12_ok nmX12 (by decide) wf_X12_257 rfl rfl rfl rfl (Nat.le_of_ble_eq_true rfl) dX12_cure_2 (mwp_0_30 cy a S 0) ?_
  refine z_aload_n b dX12_cure_5 rfl rfl ?_
  refine z_get (q0 := 0) (k9 := 41) (v := .int (fi S 17)) b (mw_0 cy a (si S 6 0)) rfl in_X12 (by decide) wf_X12_358 rfl dX12_cure_6 ?_
  refine z_iconst (v := 5) b dX12_cure_9 (by decide) ?_
  refine y_icmp_eq (tgt := 23) (xl := (fi S 17).toInt) (yl := 5) b rfl (by decide) dX12_cure_10 (by decide) (fun c1 => ?_) (fun c1 => ?_)
  · replace h := h.1 c1
    refine z_lv0 (lv' := [(0, .ref (a 0))]) [0] rfl ?_
    exact z_X12_cure_B23 b _ h
  · replace h := h.2 c1
    refine z_iload_n b dX12_cure_13 rfl rfl ?_
    refine z_iconst (v := 0) b dX12_cure_14 (by decide) ?_
    refine z_bipush (v := 11) b dX12_cure_15 (by decide) ?_
    refine z_calli b (z_runS (As := [.int p0, .int 0, .int 11]) (st := []) b (k_X12_isIn (si S 6 0) p0 0 11 _ h) cf_X12_isIn wm_X12_1 ws_X12_isIn dX12_cure_17 rfl (Nat.le_of_ble_eq_true rfl) ⟨by decide, by decide, by decide, by decide⟩) (fun r3 S4 h => ?_)
    refine y_if_ne (tgt := 29) (xl := r3.toInt) b rfl dX12_cure_20 (by decide) (fun c1 => ?_) (fun c1 => ?_)
    · replace h := h.1 c1
      refine z_aload_n b dX12_cure_29 rfl rfl ?_
      refine z_calli b (z_runV (q0 := 0) (As := []) (st := []) b (k_X12_reads S4 _ h) cf_X12_reads (mw_0 cy a S4) rfl wm_X12_355 wi_X12_reads ws_X12_reads dX12_cure_30 rfl (Nat.le_of_ble_eq_true rfl) ⟨by decide, by decide, by decide, by decide⟩) (fun r5 S6 h => ?_)
      refine y_if_ne (tgt := 38) (xl := r5.toInt) b rfl dX12_cure_33 (by decide) (fun c1 => ?_) (fun c1 => ?_)
      · replace h := h.1 c1
        refine z_aload_n b dX12_cure_38 rfl rfl ?_
        refine z_bipush (v := 8) b dX12_cure_39 (by decide) ?_
        refine z_aload_n b dX12_cure_41 rfl rfl ?_
        refine z_get (q0 := 0) (k9 := 41) (v := .int (fi S6 17)) b (mw_0 cy a S6) rfl in_X12 (by decide) wf_X12_358 rfl dX12_cure_42 ?_
        refine z_iadd b dX12_cure_45 rfl ?_
        refine z_callv b (z_runV (q0 := 0) (As := [.int ((8 : Int32) + (fi S6 17))]) (st := []) b (k_X12_keeps S6 ((8 : Int32) + (fi S6 17)) _ h) cf_X12_keeps (mw_0 cy a S6) rfl wm_X12_345 wi_X12_keeps ws_X12_keeps dX12_cure_46 rfl (Nat.le_of_ble_eq_true rfl) ⟨by decide, by decide, by decide, by decide⟩) (fun S8 h => ?_)
        refine z_aload_n b dX12_cure_49 rfl rfl ?_
        refine z_get (q0 := 0) (k9 := 42) (v := .ref (a 24)) b (mw_0 cy a S8) rfl in_X12 (by decide) wf_X12_88 rfl dX12_cure_50 ?_
        refine z_aload_n b dX12_cure_53 rfl rfl ?_
        refine z_get (q0 := 0) (k9 := 41) (v := .int (fi S8 17)) b (mw_0 cy a S8) rfl in_X12 (by decide) wf_X12_358 rfl dX12_cure_54 ?_
        refine z_iload_n b dX12_cure_57 rfl rfl ?_
        obtain ⟨g9, h⟩ := h
        refine y_iast (q0 := 24) (j := (fi S8 17).toNatClampNeg) b (mw_24 cy a S8) (zx_r g9.1 g9.2) dX12_cure_58 (mwa_24 cy a S8 ((fi S8 17).toNatClampNeg) p0) ?_
        refine z_aload_n b dX12_cure_59 rfl rfl ?_
        refine z_dup b dX12_cure_60 rfl ?_
        refine z_get (q0 := 0) (k9 := 41) (v := .int (fi S8 17)) b (mw_0 cy a (su S8 23 ((fi S8 17).toNatClampNeg) p0)) rfl in_X12 (by decide) wf_X12_358 rfl dX12_cure_61 ?_
        refine z_iconst (v := 1) b dX12_cure_64 (by decide) ?_
        refine z_iadd b dX12_cure_65 rfl ?_
        refine z_put (q0 := 0) (k9 := 41) tyX12 b (mw_0 cy a (su S8 23 ((fi S8 17).toNatClampNeg) p0)) rfl in_X12 tyX12_ok nmX12 (by decide) wf_X12_358 rfl rfl rfl rfl (Nat.le_of_ble_eq_true rfl) dX12_cure_66 (mwp_0_41 cy a (su S8 23 ((fi S8 17).toNatClampNeg) p0) ((fi S8 17) + 1)) ?_
        refine z_aload_n b dX12_cure_69 rfl rfl ?_
        refine z_get (q0 := 0) (k9 := 41) (v := .int ((fi S8 17) + 1)) b (mw_0 cy a (si (su S8 23 ((fi S8 17).toNatClampNeg) p0) 17 ((fi S8 17) + 1))) rfl in_X12 (by decide) wf_X12_358 rfl dX12_cure_70 ?_
        refine z_iconst (v := 1) b dX12_cure_73 (by decide) ?_
        refine z_isub b dX12_cure_74 rfl ?_
        exact z_iret (u := (si (su S8 23 ((fi S8 17).toNatClampNeg) p0) 17 ((fi S8 17) + 1))) b rfl dX12_cure_75 h rfl (by decide) (by decide)
      · replace h := h.2 c1
        refine z_iconst (v := (-1)) b dX12_cure_36 (by decide) ?_
        exact z_iret (u := S6) b rfl dX12_cure_37 h rfl (by decide) (by decide)
    · replace h := h.2 c1
      refine z_lv0 (lv' := [(0, .ref (a 0))]) [0] rfl ?_
      exact z_X12_cure_B23 b _ h

def w_X12_meets_B85 (post : GS → Prop) (S : GS) (y0 : Int32) (y1 : Int32) : Prop :=
  (0 ≤ y1.toInt ∧ y1.toInt < 400) ∧ post (si (su S 28 (y1.toNatClampNeg) y0) 21 ((fi S 21) + 1))

set_option maxHeartbeats 4000000 in
set_option maxRecDepth 100000 in
theorem z_X12_meets_B85 {p : Program} {l : Launch} {e : Env} {R : Room} {s : State} {m : MethodId} {args : Array Value} {below : List Frame} {meth : Method} {c : Code} {D : va_G} {cy : Nat → ClassId} {T0 tB tE : Nat} {A : Nat → Prop} {a : Nat → Nat} {post : GS → Prop} (b : Bz p R s m args meth c D cy T0 tB tE A 6 cX12_meets RX12 none "meets" 1 23 0 0) (S : GS) (y0 : Int32) (y1 : Int32) (h : w_X12_meets_B85 post S y0 y1) : Z p l e R s m args below meth c D A 6 (MQ below (QV D (U := GS) post (mw cy a) A) args s 0 0 A) 0 0 (mw cy a S) [(0, .ref (a 0))] 85 [.int y0, .int y1, .ref (a 30)] := by
  unfold w_X12_meets_B85 at h
  obtain ⟨g9, h⟩ := h
  refine y_iast (q0 := 30) (j := y1.toNatClampNeg) b (mw_30 cy a S) (zx_r g9.1 g9.2) dX12_meets_85 (mwa_30 cy a S (y1.toNatClampNeg) y0) ?_
  refine z_aload_n b dX12_meets_86 rfl rfl ?_
  refine z_dup b dX12_meets_87 rfl ?_
  refine z_get (q0 := 0) (k9 := 55) (v := .int (fi S 21)) b (mw_0 cy a (su S 28 (y1.toNatClampNeg) y0)) rfl in_X12 (by decide) wf_X12_405 rfl dX12_meets_88 ?_
  refine z_iconst (v := 1) b dX12_meets_91 (by decide) ?_
  refine z_iadd b dX12_meets_92 rfl ?_
  refine z_put (q0 := 0) (k9 := 55) tyX12 b (mw_0 cy a (su S 28 (y1.toNatClampNeg) y0)) rfl in_X12 tyX12_ok nmX12 (by decide) wf_X12_405 rfl rfl rfl rfl (Nat.le_of_ble_eq_true rfl) dX12_meets_93 (mwp_0_55 cy a (su S 28 (y1.toNatClampNeg) y0) ((fi S 21) + 1)) ?_
  exact z_vret (u := (si (su S 28 (y1.toNatClampNeg) y0) 21 ((fi S 21) + 1))) b rfl dX12_meets_96 h rfl (by decide) (by decide)

def w_X12_meets (S : GS) (p0 : Int64) (p1 : Int32) (p2 : Int32) (post : GS → Prop) : Prop :=
  w_X12_place S p0 (fun r1 S2 => (0 ≤ r1.toInt ∧ r1.toInt < 1024) ∧ (0 ≤ (fi S2 21).toInt ∧ (fi S2 21).toInt < 400) ∧ (0 ≤ (fi S2 21).toInt ∧ (fi S2 21).toInt < 400) ∧ (0 ≤ (fi S2 21).toInt ∧ (fi S2 21).toInt < 400) ∧ (0 ≤ (fi S2 21).toInt ∧ (fi S2 21).toInt < 400) ∧ ((p1.toInt ≠ (-1) → (0 ≤ p1.toInt ∧ p1.toInt < 400) ∧ w_X12_meets_B85 post (su (su (sv (su (su S2 29 (r1.toNatClampNeg) (fi S2 21)) 30 ((fi S2 21).toNatClampNeg) r1) 0 ((fi S2 21).toNatClampNeg) p0) 26 ((fi S2 21).toNatClampNeg) p1) 27 ((fi S2 21).toNatClampNeg) p2) (((ar S2 28) p1.toNatClampNeg) + 1) (fi S2 21)) ∧ (p1.toInt = (-1) → w_X12_meets_B85 post (su (su (sv (su (su S2 29 (r1.toNatClampNeg) (fi S2 21)) 30 ((fi S2 21).toNatClampNeg) r1) 0 ((fi S2 21).toNatClampNeg) p0) 26 ((fi S2 21).toNatClampNeg) p1) 27 ((fi S2 21).toNatClampNeg) p2) 0 (fi S2 21))))

set_option maxHeartbeats 4000000 in
set_option maxRecDepth 100000 in
theorem k_X12_meets {l : Launch} {D : va_G} {cy : Nat → ClassId} {T0 tB tE : Nat} {a : Nat → Nat} (S : GS) (p0 : Int64) (p1 : Int32) (p2 : Int32) (post : GS → Prop) (h : w_X12_meets S p0 p1 p2 post) : Ct l D cy T0 tB tE yX12_meets cX12_meets 6 none 1 23 0 0 (mw cy a S) [.ref (a 0), .long p0, .int p1, .int p2] (QV D (U := GS) post (mw cy a)) := by
  refine Ct.ofZ RX12 "meets" [(0, .ref (a 0)), (1, .long p0), (3, .int p1), (4, .int p2)] rfl rfl rfl rfl (Nat.le_of_ble_eq_true rfl) ?_
  intro p e R s m args below meth c A b
  unfold w_X12_meets at h
  refine z_aload_n b dX12_meets_0 rfl rfl ?_
  refine z_lload_n b dX12_meets_1 rfl rfl ?_
  refine z_calli b (z_runV (q0 := 0) (As := [.long p0]) (st := []) b (k_X12_place S p0 _ h) cf_X12_place (mw_0 cy a S) rfl wm_X12_401 wi_X12_place ws_X12_place dX12_meets_2 rfl (Nat.le_of_ble_eq_true rfl) ⟨by decide, by decide, by decide, by decide⟩) (fun r1 S2 h => ?_)
  refine z_istore (lv' := [(5, .int r1), (0, .ref (a 0)), (1, .long p0), (3, .int p1), (4, .int p2)]) b dX12_meets_5 (by decide) rfl ?_
  refine z_aload_n b dX12_meets_7 rfl rfl ?_
  refine z_get (q0 := 0) (k9 := 53) (v := .ref (a 31)) b (mw_0 cy a S2) rfl in_X12 (by decide) wf_X12_110 rfl dX12_meets_8 ?_
  refine z_iload b dX12_meets_11 rfl ?_
  refine z_aload_n b dX12_meets_13 rfl rfl ?_
  refine z_get (q0 := 0) (k9 := 55) (v := .int (fi S2 21)) b (mw_0 cy a S2) rfl in_X12 (by decide) wf_X12_405 rfl dX12_meets_14 ?_
  obtain ⟨g3, h⟩ := h
  refine y_iast (q0 := 31) (j := r1.toNatClampNeg) b (mw_31 cy a S2) (zx_r g3.1 g3.2) dX12_meets_17 (mwa_31 cy a S2 (r1.toNatClampNeg) (fi S2 21)) ?_
  refine z_aload_n b dX12_meets_18 rfl rfl ?_
  refine z_get (q0 := 0) (k9 := 54) (v := .ref (a 32)) b (mw_0 cy a (su S2 29 (r1.toNatClampNeg) (fi S2 21))) rfl in_X12 (by decide) wf_X12_113 rfl dX12_meets_19 ?_
  refine z_aload_n b dX12_meets_22 rfl rfl ?_
  refine z_get (q0 := 0) (k9 := 55) (v := .int (fi S2 21)) b (mw_0 cy a (su S2 29 (r1.toNatClampNeg) (fi S2 21))) rfl in_X12 (by decide) wf_X12_405 rfl dX12_meets_23 ?_
  refine z_iload b dX12_meets_26 rfl ?_
  obtain ⟨g4, h⟩ := h
  refine y_iast (q0 := 32) (j := (fi S2 21).toNatClampNeg) b (mw_32 cy a (su S2 29 (r1.toNatClampNeg) (fi S2 21))) (zx_r g4.1 g4.2) dX12_meets_28 (mwa_32 cy a (su S2 29 (r1.toNatClampNeg) (fi S2 21)) ((fi S2 21).toNatClampNeg) r1) ?_
  refine z_aload_n b dX12_meets_29 rfl rfl ?_
  refine z_get (q0 := 0) (k9 := 49) (v := .ref (a 27)) b (mw_0 cy a (su (su S2 29 (r1.toNatClampNeg) (fi S2 21)) 30 ((fi S2 21).toNatClampNeg) r1)) rfl in_X12 (by decide) wf_X12_97 rfl dX12_meets_30 ?_
  refine z_aload_n b dX12_meets_33 rfl rfl ?_
  refine z_get (q0 := 0) (k9 := 55) (v := .int (fi S2 21)) b (mw_0 cy a (su (su S2 29 (r1.toNatClampNeg) (fi S2 21)) 30 ((fi S2 21).toNatClampNeg) r1)) rfl in_X12 (by decide) wf_X12_405 rfl dX12_meets_34 ?_
  refine z_lload_n b dX12_meets_37 rfl rfl ?_
  obtain ⟨g5, h⟩ := h
  refine y_last (q0 := 27) (j := (fi S2 21).toNatClampNeg) b (mw_27 cy a (su (su S2 29 (r1.toNatClampNeg) (fi S2 21)) 30 ((fi S2 21).toNatClampNeg) r1)) (zx_r g5.1 g5.2) dX12_meets_38 (mwa_27 cy a (su (su S2 29 (r1.toNatClampNeg) (fi S2 21)) 30 ((fi S2 21).toNatClampNeg) r1) ((fi S2 21).toNatClampNeg) p0) ?_
  refine z_aload_n b dX12_meets_39 rfl rfl ?_
  refine z_get (q0 := 0) (k9 := 50) (v := .ref (a 28)) b (mw_0 cy a (sv (su (su S2 29 (r1.toNatClampNeg) (fi S2 21)) 30 ((fi S2 21).toNatClampNeg) r1) 0 ((fi S2 21).toNatClampNeg) p0)) rfl in_X12 (by decide) wf_X12_101 rfl dX12_meets_40 ?_
  refine z_aload_n b dX12_meets_43 rfl rfl ?_
  refine z_get (q0 := 0) (k9 := 55) (v := .int (fi S2 21)) b (mw_0 cy a (sv (su (su S2 29 (r1.toNatClampNeg) (fi S2 21)) 30 ((fi S2 21).toNatClampNeg) r1) 0 ((fi S2 21).toNatClampNeg) p0)) rfl in_X12 (by decide) wf_X12_405 rfl dX12_meets_44 ?_
  refine z_iload_n b dX12_meets_47 rfl rfl ?_
  obtain ⟨g6, h⟩ := h
  refine y_iast (q0 := 28) (j := (fi S2 21).toNatClampNeg) b (mw_28 cy a (sv (su (su S2 29 (r1.toNatClampNeg) (fi S2 21)) 30 ((fi S2 21).toNatClampNeg) r1) 0 ((fi S2 21).toNatClampNeg) p0)) (zx_r g6.1 g6.2) dX12_meets_48 (mwa_28 cy a (sv (su (su S2 29 (r1.toNatClampNeg) (fi S2 21)) 30 ((fi S2 21).toNatClampNeg) r1) 0 ((fi S2 21).toNatClampNeg) p0) ((fi S2 21).toNatClampNeg) p1) ?_
  refine z_aload_n b dX12_meets_49 rfl rfl ?_
  refine z_get (q0 := 0) (k9 := 51) (v := .ref (a 29)) b (mw_0 cy a (su (sv (su (su S2 29 (r1.toNatClampNeg) (fi S2 21)) 30 ((fi S2 21).toNatClampNeg) r1) 0 ((fi S2 21).toNatClampNeg) p0) 26 ((fi S2 21).toNatClampNeg) p1)) rfl in_X12 (by decide) wf_X12_104 rfl dX12_meets_50 ?_
  refine z_aload_n b dX12_meets_53 rfl rfl ?_
  refine z_get (q0 := 0) (k9 := 55) (v := .int (fi S2 21)) b (mw_0 cy a (su (sv (su (su S2 29 (r1.toNatClampNeg) (fi S2 21)) 30 ((fi S2 21).toNatClampNeg) r1) 0 ((fi S2 21).toNatClampNeg) p0) 26 ((fi S2 21).toNatClampNeg) p1)) rfl in_X12 (by decide) wf_X12_405 rfl dX12_meets_54 ?_
  refine z_iload b dX12_meets_57 rfl ?_
  obtain ⟨g7, h⟩ := h
  refine y_iast (q0 := 29) (j := (fi S2 21).toNatClampNeg) b (mw_29 cy a (su (sv (su (su S2 29 (r1.toNatClampNeg) (fi S2 21)) 30 ((fi S2 21).toNatClampNeg) r1) 0 ((fi S2 21).toNatClampNeg) p0) 26 ((fi S2 21).toNatClampNeg) p1)) (zx_r g7.1 g7.2) dX12_meets_59 (mwa_29 cy a (su (sv (su (su S2 29 (r1.toNatClampNeg) (fi S2 21)) 30 ((fi S2 21).toNatClampNeg) r1) 0 ((fi S2 21).toNatClampNeg) p0) 26 ((fi S2 21).toNatClampNeg) p1) ((fi S2 21).toNatClampNeg) p2) ?_
  refine z_aload_n b dX12_meets_60 rfl rfl ?_
  refine z_get (q0 := 0) (k9 := 52) (v := .ref (a 30)) b (mw_0 cy a (su (su (sv (su (su S2 29 (r1.toNatClampNeg) (fi S2 21)) 30 ((fi S2 21).toNatClampNeg) r1) 0 ((fi S2 21).toNatClampNeg) p0) 26 ((fi S2 21).toNatClampNeg) p1) 27 ((fi S2 21).toNatClampNeg) p2)) rfl in_X12 (by decide) wf_X12_107 rfl dX12_meets_61 ?_
  refine z_aload_n b dX12_meets_64 rfl rfl ?_
  refine z_get (q0 := 0) (k9 := 55) (v := .int (fi S2 21)) b (mw_0 cy a (su (su (sv (su (su S2 29 (r1.toNatClampNeg) (fi S2 21)) 30 ((fi S2 21).toNatClampNeg) r1) 0 ((fi S2 21).toNatClampNeg) p0) 26 ((fi S2 21).toNatClampNeg) p1) 27 ((fi S2 21).toNatClampNeg) p2)) rfl in_X12 (by decide) wf_X12_405 rfl dX12_meets_65 ?_
  refine z_iload_n b dX12_meets_68 rfl rfl ?_
  refine z_iconst (v := (-1)) b dX12_meets_69 (by decide) ?_
  refine y_icmp_ne (tgt := 77) (xl := p1.toInt) (yl := (-1)) b rfl (by decide) dX12_meets_70 (by decide) (fun c1 => ?_) (fun c1 => ?_)
  · replace h := h.1 c1
    refine z_aload_n b dX12_meets_77 rfl rfl ?_
    refine z_get (q0 := 0) (k9 := 52) (v := .ref (a 30)) b (mw_0 cy a (su (su (sv (su (su S2 29 (r1.toNatClampNeg) (fi S2 21)) 30 ((fi S2 21).toNatClampNeg) r1) 0 ((fi S2 21).toNatClampNeg) p0) 26 ((fi S2 21).toNatClampNeg) p1) 27 ((fi S2 21).toNatClampNeg) p2)) rfl in_X12 (by decide) wf_X12_107 rfl dX12_meets_78 ?_
    refine z_iload_n b dX12_meets_81 rfl rfl ?_
    obtain ⟨g8, h⟩ := h
    refine y_iald (q0 := 30) (j := p1.toNatClampNeg) (v := ((ar S2 28) p1.toNatClampNeg)) b (mw_30 cy a (su (su (sv (su (su S2 29 (r1.toNatClampNeg) (fi S2 21)) 30 ((fi S2 21).toNatClampNeg) r1) 0 ((fi S2 21).toNatClampNeg) p0) 26 ((fi S2 21).toNatClampNeg) p1) 27 ((fi S2 21).toNatClampNeg) p2)) (zx_r g8.1 g8.2) rfl dX12_meets_82 ?_
    refine z_iconst (v := 1) b dX12_meets_83 (by decide) ?_
    refine z_iadd b dX12_meets_84 rfl ?_
    refine z_lv0 (lv' := [(0, .ref (a 0))]) [1] rfl ?_
    exact z_X12_meets_B85 b _ _ _ h
  · replace h := h.2 c1
    refine z_iconst (v := 0) b dX12_meets_73 (by decide) ?_
    refine z_goto (tgt := 85) b dX12_meets_74 (by decide) ?_
    refine z_lv0 (lv' := [(0, .ref (a 0))]) [1] rfl ?_
    exact z_X12_meets_B85 b _ _ _ h

def w_X12_isNever_F36 (post : Int32 → GS → Prop) (k90 : GS → Int32 → Prop) (k36 : GS → Int32 → Prop) (S : GS) (x3 : Int32) : Prop :=
  ((3 ≤ (fi S 20).toInt → k90 S x3) ∧ ((fi S 20).toInt < 3 → (((fi S 18).toInt = (fi S 19).toInt → k90 S x3) ∧ ((fi S 18).toInt ≠ (fi S 19).toInt → (0 ≤ ((2 : Int32) + x3).toInt ∧ ((2 : Int32) + x3).toInt < 14) ∧ w_X12_comesTo S ((2 : Int32) + x3) 0 ((ar S 6) ((2 : Int32) + x3).toNatClampNeg) (fun r4 S5 => ((r4.toInt ≠ 1 → k36 (si S5 20 ((fi S5 20) + 1)) x3) ∧ (r4.toInt = 1 → post 1 S5)))))))

set_option maxHeartbeats 4000000 in
set_option maxRecDepth 100000 in
theorem z_X12_isNever_F36 {p : Program} {l : Launch} {e : Env} {R : Room} {s : State} {m : MethodId} {args : Array Value} {below : List Frame} {meth : Method} {c : Code} {D : va_G} {cy : Nat → ClassId} {T0 tB tE : Nat} {A : Nat → Prop} {a : Nat → Nat} {post : Int32 → GS → Prop} {k90 : GS → Int32 → Prop} {k36 : GS → Int32 → Prop} (b : Bz p R s m args meth c D cy T0 tB tE A 4 cX12_isNever RX12 (some .boolean) "isNever" 2 54 0 0) (hk90 : ∀ (S : GS) (x3 : Int32), k90 S x3 → Z p l e R s m args below meth c D A 4 (MQ below (QI D (U := GS) post (mw cy a) A) args s 0 0 A) 0 0 (mw cy a S) [(0, .ref (a 0)), (3, .int x3)] 90 []) (hk36 : ∀ (S : GS) (x3 : Int32), k36 S x3 → Z p l e R s m args below meth c D A 4 (MQ below (QI D (U := GS) post (mw cy a) A) args s 0 0 A) 0 0 (mw cy a S) [(0, .ref (a 0)), (3, .int x3)] 36 []) (S : GS) (x3 : Int32) (h : w_X12_isNever_F36 post k90 k36 S x3) : Z p l e R s m args below meth c D A 4 (MQ below (QI D (U := GS) post (mw cy a) A) args s 0 0 A) 0 0 (mw cy a S) [(0, .ref (a 0)), (3, .int x3)] 36 [] := by
  unfold w_X12_isNever_F36 at h
  refine z_aload_n b dX12_isNever_36 rfl rfl ?_
  refine z_get (q0 := 0) (k9 := 45) (v := .int (fi S 20)) b (mw_0 cy a S) rfl in_X12 (by decide) wf_X12_370 rfl dX12_isNever_37 ?_
  refine z_iconst (v := 3) b dX12_isNever_40 (by decide) ?_
  refine y_icmp_ge (tgt := 90) (xl := (fi S 20).toInt) (yl := 3) b rfl (by decide) dX12_isNever_41 (by decide) (fun c1 => ?_) (fun c1 => ?_)
  · replace h := h.1 c1
    exact hk90 _ _ h
  · replace h := h.2 c1
    refine z_aload_n b dX12_isNever_44 rfl rfl ?_
    refine z_get (q0 := 0) (k9 := 43) (v := .int (fi S 18)) b (mw_0 cy a S) rfl in_X12 (by decide) wf_X12_364 rfl dX12_isNever_45 ?_
    refine z_aload_n b dX12_isNever_48 rfl rfl ?_
    refine z_get (q0 := 0) (k9 := 44) (v := .int (fi S 19)) b (mw_0 cy a S) rfl in_X12 (by decide) wf_X12_367 rfl dX12_isNever_49 ?_
    refine y_icmp_eq (tgt := 90) (xl := (fi S 18).toInt) (yl := (fi S 19).toInt) b rfl rfl dX12_isNever_52 (by decide) (fun c1 => ?_) (fun c1 => ?_)
    · replace h := h.1 c1
      exact hk90 _ _ h
    · replace h := h.2 c1
      refine z_aload_n b dX12_isNever_55 rfl rfl ?_
      refine z_iconst (v := 2) b dX12_isNever_56 (by decide) ?_
      refine z_iload_n b dX12_isNever_57 rfl rfl ?_
      refine z_iadd b dX12_isNever_58 rfl ?_
      refine z_iconst (v := 0) b dX12_isNever_59 (by decide) ?_
      refine z_aload_n b dX12_isNever_60 rfl rfl ?_
      refine z_get (q0 := 0) (k9 := 8) (v := .ref (a 7)) b (mw_0 cy a S) rfl in_X12 (by decide) wf_X12_33 rfl dX12_isNever_61 ?_
      refine z_iconst (v := 2) b dX12_isNever_64 (by decide) ?_
      refine z_iload_n b dX12_isNever_65 rfl rfl ?_
      refine z_iadd b dX12_isNever_66 rfl ?_
      obtain ⟨g3, h⟩ := h
      refine y_iald (q0 := 7) (j := ((2 : Int32) + x3).toNatClampNeg) (v := ((ar S 6) ((2 : Int32) + x3).toNatClampNeg)) b (mw_7 cy a S) (zx_r g3.1 g3.2) rfl dX12_isNever_67 ?_
      refine z_calli b (z_runV (q0 := 0) (As := [.int ((2 : Int32) + x3), .int 0, .int ((ar S 6) ((2 : Int32) + x3).toNatClampNeg)]) (st := []) b (k_X12_comesTo S ((2 : Int32) + x3) 0 ((ar S 6) ((2 : Int32) + x3).toNatClampNeg) _ h) cf_X12_comesTo (mw_0 cy a S) rfl wm_X12_380 wi_X12_comesTo ws_X12_comesTo dX12_isNever_68 rfl (Nat.le_of_ble_eq_true rfl) ⟨by decide, by decide, by decide, by decide⟩) (fun r4 S5 h => ?_)
      refine z_iconst (v := 1) b dX12_isNever_71 (by decide) ?_
      refine y_icmp_ne (tgt := 77) (xl := r4.toInt) (yl := 1) b rfl (by decide) dX12_isNever_72 (by decide) (fun c1 => ?_) (fun c1 => ?_)
      · replace h := h.1 c1
        refine z_aload_n b dX12_isNever_77 rfl rfl ?_
        refine z_dup b dX12_isNever_78 rfl ?_
        refine z_get (q0 := 0) (k9 := 45) (v := .int (fi S5 20)) b (mw_0 cy a S5) rfl in_X12 (by decide) wf_X12_370 rfl dX12_isNever_79 ?_
        refine z_iconst (v := 1) b dX12_isNever_82 (by decide) ?_
        refine z_iadd b dX12_isNever_83 rfl ?_
        refine z_put (q0 := 0) (k9 := 45) tyX12 b (mw_0 cy a S5) rfl in_X12 tyX12_ok nmX12 (by decide) wf_X12_370 rfl rfl rfl rfl (Nat.le_of_ble_eq_true rfl) dX12_isNever_84 (mwp_0_45 cy a S5 ((fi S5 20) + 1)) ?_
        refine z_goto (tgt := 36) b dX12_isNever_87 (by decide) ?_
        exact hk36 _ _ h
      · replace h := h.2 c1
        refine z_iconst (v := 1) b dX12_isNever_75 (by decide) ?_
        exact z_zret (u := S5) b rfl (by decide) dX12_isNever_76 h rfl (by decide) (by decide)

set_option maxHeartbeats 4000000 in
set_option maxRecDepth 100000 in
theorem zl_X12_isNever_L36 {p : Program} {l : Launch} {e : Env} {R : Room} {s : State} {m : MethodId} {args : Array Value} {below : List Frame} {meth : Method} {c : Code} {D : va_G} {cy : Nat → ClassId} {T0 tB tE : Nat} {A : Nat → Prop} {a : Nat → Nat} {post : Int32 → GS → Prop} {k90 : GS → Int32 → Prop} (b : Bz p R s m args meth c D cy T0 tB tE A 4 cX12_isNever RX12 (some .boolean) "isNever" 2 54 0 0) (hk90 : ∀ (S : GS) (x3 : Int32), k90 S x3 → Z p l e R s m args below meth c D A 4 (MQ below (QI D (U := GS) post (mw cy a) A) args s 0 0 A) 0 0 (mw cy a S) [(0, .ref (a 0)), (3, .int x3)] 90 []) : ∀ (n : Nat) (S : GS) (x3 : Int32), lpn (w_X12_isNever_F36 post k90) (fun _ _ => False) n S x3 → Z p l e R s m args below meth c D A 4 (MQ below (QI D (U := GS) post (mw cy a) A) args s 0 0 A) 0 0 (mw cy a S) [(0, .ref (a 0)), (3, .int x3)] 36 [] := by
  intro n
  induction n with
  | zero => intro _ _ h; exact h.elim
  | succ n ih => intro S x3 h; exact z_X12_isNever_F36 b hk90 ih S x3 h

def w_X12_isNever_B90 (post : Int32 → GS → Prop) (k23 : GS → Int32 → Prop) (k103 : GS → Int32 → Prop) (S : GS) (x3 : Int32) : Prop :=
  k23 (si S 19 ((fi S 19) + 1)) x3

set_option maxHeartbeats 4000000 in
set_option maxRecDepth 100000 in
theorem z_X12_isNever_B90 {p : Program} {l : Launch} {e : Env} {R : Room} {s : State} {m : MethodId} {args : Array Value} {below : List Frame} {meth : Method} {c : Code} {D : va_G} {cy : Nat → ClassId} {T0 tB tE : Nat} {A : Nat → Prop} {a : Nat → Nat} {post : Int32 → GS → Prop} {k23 : GS → Int32 → Prop} {k103 : GS → Int32 → Prop} (b : Bz p R s m args meth c D cy T0 tB tE A 4 cX12_isNever RX12 (some .boolean) "isNever" 2 54 0 0) (hk23 : ∀ (S : GS) (x3 : Int32), k23 S x3 → Z p l e R s m args below meth c D A 4 (MQ below (QI D (U := GS) post (mw cy a) A) args s 0 0 A) 0 0 (mw cy a S) [(0, .ref (a 0)), (3, .int x3)] 23 []) (hk103 : ∀ (S : GS) (x3 : Int32), k103 S x3 → Z p l e R s m args below meth c D A 4 (MQ below (QI D (U := GS) post (mw cy a) A) args s 0 0 A) 0 0 (mw cy a S) [(0, .ref (a 0)), (3, .int x3)] 103 []) (S : GS) (x3 : Int32) (h : w_X12_isNever_B90 post k23 k103 S x3) : Z p l e R s m args below meth c D A 4 (MQ below (QI D (U := GS) post (mw cy a) A) args s 0 0 A) 0 0 (mw cy a S) [(0, .ref (a 0)), (3, .int x3)] 90 [] := by
  unfold w_X12_isNever_B90 at h
  refine z_aload_n b dX12_isNever_90 rfl rfl ?_
  refine z_dup b dX12_isNever_91 rfl ?_
  refine z_get (q0 := 0) (k9 := 44) (v := .int (fi S 19)) b (mw_0 cy a S) rfl in_X12 (by decide) wf_X12_367 rfl dX12_isNever_92 ?_
  refine z_iconst (v := 1) b dX12_isNever_95 (by decide) ?_
  refine z_iadd b dX12_isNever_96 rfl ?_
  refine z_put (q0 := 0) (k9 := 44) tyX12 b (mw_0 cy a S) rfl in_X12 tyX12_ok nmX12 (by decide) wf_X12_367 rfl rfl rfl rfl (Nat.le_of_ble_eq_true rfl) dX12_isNever_97 (mwp_0_44 cy a S ((fi S 19) + 1)) ?_
  refine z_goto (tgt := 23) b dX12_isNever_100 (by decide) ?_
  exact hk23 _ _ h

def w_X12_isNever_F23 (post : Int32 → GS → Prop) (k103 : GS → Int32 → Prop) (k23 : GS → Int32 → Prop) (S : GS) (x3 : Int32) : Prop :=
  ((3 ≤ (fi S 19).toInt → k103 S x3) ∧ ((fi S 19).toInt < 3 → ∃ n, lpn (w_X12_isNever_F36 post (w_X12_isNever_B90 post k23 k103)) (fun _ _ => False) n (si S 20 0) x3))

set_option maxHeartbeats 4000000 in
set_option maxRecDepth 100000 in
theorem z_X12_isNever_F23 {p : Program} {l : Launch} {e : Env} {R : Room} {s : State} {m : MethodId} {args : Array Value} {below : List Frame} {meth : Method} {c : Code} {D : va_G} {cy : Nat → ClassId} {T0 tB tE : Nat} {A : Nat → Prop} {a : Nat → Nat} {post : Int32 → GS → Prop} {k103 : GS → Int32 → Prop} {k23 : GS → Int32 → Prop} (b : Bz p R s m args meth c D cy T0 tB tE A 4 cX12_isNever RX12 (some .boolean) "isNever" 2 54 0 0) (hk103 : ∀ (S : GS) (x3 : Int32), k103 S x3 → Z p l e R s m args below meth c D A 4 (MQ below (QI D (U := GS) post (mw cy a) A) args s 0 0 A) 0 0 (mw cy a S) [(0, .ref (a 0)), (3, .int x3)] 103 []) (hk23 : ∀ (S : GS) (x3 : Int32), k23 S x3 → Z p l e R s m args below meth c D A 4 (MQ below (QI D (U := GS) post (mw cy a) A) args s 0 0 A) 0 0 (mw cy a S) [(0, .ref (a 0)), (3, .int x3)] 23 []) (S : GS) (x3 : Int32) (h : w_X12_isNever_F23 post k103 k23 S x3) : Z p l e R s m args below meth c D A 4 (MQ below (QI D (U := GS) post (mw cy a) A) args s 0 0 A) 0 0 (mw cy a S) [(0, .ref (a 0)), (3, .int x3)] 23 [] := by
  unfold w_X12_isNever_F23 at h
  refine z_aload_n b dX12_isNever_23 rfl rfl ?_
  refine z_get (q0 := 0) (k9 := 44) (v := .int (fi S 19)) b (mw_0 cy a S) rfl in_X12 (by decide) wf_X12_367 rfl dX12_isNever_24 ?_
  refine z_iconst (v := 3) b dX12_isNever_27 (by decide) ?_
  refine y_icmp_ge (tgt := 103) (xl := (fi S 19).toInt) (yl := 3) b rfl (by decide) dX12_isNever_28 (by decide) (fun c1 => ?_) (fun c1 => ?_)
  · replace h := h.1 c1
    exact hk103 _ _ h
  · replace h := h.2 c1
    refine z_aload_n b dX12_isNever_31 rfl rfl ?_
    refine z_iconst (v := 0) b dX12_isNever_32 (by decide) ?_
    refine z_put (q0 := 0) (k9 := 45) tyX12 b (mw_0 cy a S) rfl in_X12 tyX12_ok nmX12 (by decide) wf_X12_370 rfl rfl rfl rfl (Nat.le_of_ble_eq_true rfl) dX12_isNever_33 (mwp_0_45 cy a S 0) ?_
    obtain ⟨n, h⟩ := h
    exact zl_X12_isNever_L36 b (fun S x3 h => z_X12_isNever_B90 b hk23 hk103 _ _ h) n _ _ h

set_option maxHeartbeats 4000000 in
set_option maxRecDepth 100000 in
theorem zl_X12_isNever_L23 {p : Program} {l : Launch} {e : Env} {R : Room} {s : State} {m : MethodId} {args : Array Value} {below : List Frame} {meth : Method} {c : Code} {D : va_G} {cy : Nat → ClassId} {T0 tB tE : Nat} {A : Nat → Prop} {a : Nat → Nat} {post : Int32 → GS → Prop} {k103 : GS → Int32 → Prop} (b : Bz p R s m args meth c D cy T0 tB tE A 4 cX12_isNever RX12 (some .boolean) "isNever" 2 54 0 0) (hk103 : ∀ (S : GS) (x3 : Int32), k103 S x3 → Z p l e R s m args below meth c D A 4 (MQ below (QI D (U := GS) post (mw cy a) A) args s 0 0 A) 0 0 (mw cy a S) [(0, .ref (a 0)), (3, .int x3)] 103 []) : ∀ (n : Nat) (S : GS) (x3 : Int32), lpn (w_X12_isNever_F23 post k103) (fun _ _ => False) n S x3 → Z p l e R s m args below meth c D A 4 (MQ below (QI D (U := GS) post (mw cy a) A) args s 0 0 A) 0 0 (mw cy a S) [(0, .ref (a 0)), (3, .int x3)] 23 [] := by
  intro n
  induction n with
  | zero => intro _ _ h; exact h.elim
  | succ n ih => intro S x3 h; exact z_X12_isNever_F23 b hk103 ih S x3 h

def w_X12_isNever_B103 (post : Int32 → GS → Prop) (k10 : GS → Int32 → Prop) (k116 : GS → Prop) (S : GS) (x3 : Int32) : Prop :=
  k10 (si S 18 ((fi S 18) + 1)) x3

set_option maxHeartbeats 4000000 in
set_option maxRecDepth 100000 in
theorem z_X12_isNever_B103 {p : Program} {l : Launch} {e : Env} {R : Room} {s : State} {m : MethodId} {args : Array Value} {below : List Frame} {meth : Method} {c : Code} {D : va_G} {cy : Nat → ClassId} {T0 tB tE : Nat} {A : Nat → Prop} {a : Nat → Nat} {post : Int32 → GS → Prop} {k10 : GS → Int32 → Prop} {k116 : GS → Prop} (b : Bz p R s m args meth c D cy T0 tB tE A 4 cX12_isNever RX12 (some .boolean) "isNever" 2 54 0 0) (hk10 : ∀ (S : GS) (x3 : Int32), k10 S x3 → Z p l e R s m args below meth c D A 4 (MQ below (QI D (U := GS) post (mw cy a) A) args s 0 0 A) 0 0 (mw cy a S) [(0, .ref (a 0)), (3, .int x3)] 10 []) (hk116 : ∀ (S : GS), k116 S → Z p l e R s m args below meth c D A 4 (MQ below (QI D (U := GS) post (mw cy a) A) args s 0 0 A) 0 0 (mw cy a S) [] 116 []) (S : GS) (x3 : Int32) (h : w_X12_isNever_B103 post k10 k116 S x3) : Z p l e R s m args below meth c D A 4 (MQ below (QI D (U := GS) post (mw cy a) A) args s 0 0 A) 0 0 (mw cy a S) [(0, .ref (a 0)), (3, .int x3)] 103 [] := by
  unfold w_X12_isNever_B103 at h
  refine z_aload_n b dX12_isNever_103 rfl rfl ?_
  refine z_dup b dX12_isNever_104 rfl ?_
  refine z_get (q0 := 0) (k9 := 43) (v := .int (fi S 18)) b (mw_0 cy a S) rfl in_X12 (by decide) wf_X12_364 rfl dX12_isNever_105 ?_
  refine z_iconst (v := 1) b dX12_isNever_108 (by decide) ?_
  refine z_iadd b dX12_isNever_109 rfl ?_
  refine z_put (q0 := 0) (k9 := 43) tyX12 b (mw_0 cy a S) rfl in_X12 tyX12_ok nmX12 (by decide) wf_X12_364 rfl rfl rfl rfl (Nat.le_of_ble_eq_true rfl) dX12_isNever_110 (mwp_0_43 cy a S ((fi S 18) + 1)) ?_
  refine z_goto (tgt := 10) b dX12_isNever_113 (by decide) ?_
  exact hk10 _ _ h

def w_X12_isNever_F10 (post : Int32 → GS → Prop) (k116 : GS → Prop) (k10 : GS → Int32 → Prop) (S : GS) (x3 : Int32) : Prop :=
  ((3 ≤ (fi S 18).toInt → k116 S) ∧ ((fi S 18).toInt < 3 → ∃ n, lpn (w_X12_isNever_F23 post (w_X12_isNever_B103 post k10 k116)) (fun _ _ => False) n (si S 19 0) x3))

set_option maxHeartbeats 4000000 in
set_option maxRecDepth 100000 in
theorem z_X12_isNever_F10 {p : Program} {l : Launch} {e : Env} {R : Room} {s : State} {m : MethodId} {args : Array Value} {below : List Frame} {meth : Method} {c : Code} {D : va_G} {cy : Nat → ClassId} {T0 tB tE : Nat} {A : Nat → Prop} {a : Nat → Nat} {post : Int32 → GS → Prop} {k116 : GS → Prop} {k10 : GS → Int32 → Prop} (b : Bz p R s m args meth c D cy T0 tB tE A 4 cX12_isNever RX12 (some .boolean) "isNever" 2 54 0 0) (hk116 : ∀ (S : GS), k116 S → Z p l e R s m args below meth c D A 4 (MQ below (QI D (U := GS) post (mw cy a) A) args s 0 0 A) 0 0 (mw cy a S) [] 116 []) (hk10 : ∀ (S : GS) (x3 : Int32), k10 S x3 → Z p l e R s m args below meth c D A 4 (MQ below (QI D (U := GS) post (mw cy a) A) args s 0 0 A) 0 0 (mw cy a S) [(0, .ref (a 0)), (3, .int x3)] 10 []) (S : GS) (x3 : Int32) (h : w_X12_isNever_F10 post k116 k10 S x3) : Z p l e R s m args below meth c D A 4 (MQ below (QI D (U := GS) post (mw cy a) A) args s 0 0 A) 0 0 (mw cy a S) [(0, .ref (a 0)), (3, .int x3)] 10 [] := by
  unfold w_X12_isNever_F10 at h
  refine z_aload_n b dX12_isNever_10 rfl rfl ?_
  refine z_get (q0 := 0) (k9 := 43) (v := .int (fi S 18)) b (mw_0 cy a S) rfl in_X12 (by decide) wf_X12_364 rfl dX12_isNever_11 ?_
  refine z_iconst (v := 3) b dX12_isNever_14 (by decide) ?_
  refine y_icmp_ge (tgt := 116) (xl := (fi S 18).toInt) (yl := 3) b rfl (by decide) dX12_isNever_15 (by decide) (fun c1 => ?_) (fun c1 => ?_)
  · replace h := h.1 c1
    refine z_lv0 (lv' := []) [] rfl ?_
    exact hk116 _ h
  · replace h := h.2 c1
    refine z_aload_n b dX12_isNever_18 rfl rfl ?_
    refine z_iconst (v := 0) b dX12_isNever_19 (by decide) ?_
    refine z_put (q0 := 0) (k9 := 44) tyX12 b (mw_0 cy a S) rfl in_X12 tyX12_ok nmX12 (by decide) wf_X12_367 rfl rfl rfl rfl (Nat.le_of_ble_eq_true rfl) dX12_isNever_20 (mwp_0_44 cy a S 0) ?_
    obtain ⟨n, h⟩ := h
    exact zl_X12_isNever_L23 b (fun S x3 h => z_X12_isNever_B103 b hk10 hk116 _ _ h) n _ _ h

set_option maxHeartbeats 4000000 in
set_option maxRecDepth 100000 in
theorem zl_X12_isNever_L10 {p : Program} {l : Launch} {e : Env} {R : Room} {s : State} {m : MethodId} {args : Array Value} {below : List Frame} {meth : Method} {c : Code} {D : va_G} {cy : Nat → ClassId} {T0 tB tE : Nat} {A : Nat → Prop} {a : Nat → Nat} {post : Int32 → GS → Prop} {k116 : GS → Prop} (b : Bz p R s m args meth c D cy T0 tB tE A 4 cX12_isNever RX12 (some .boolean) "isNever" 2 54 0 0) (hk116 : ∀ (S : GS), k116 S → Z p l e R s m args below meth c D A 4 (MQ below (QI D (U := GS) post (mw cy a) A) args s 0 0 A) 0 0 (mw cy a S) [] 116 []) : ∀ (n : Nat) (S : GS) (x3 : Int32), lpn (w_X12_isNever_F10 post k116) (fun _ _ => False) n S x3 → Z p l e R s m args below meth c D A 4 (MQ below (QI D (U := GS) post (mw cy a) A) args s 0 0 A) 0 0 (mw cy a S) [(0, .ref (a 0)), (3, .int x3)] 10 [] := by
  intro n
  induction n with
  | zero => intro _ _ h; exact h.elim
  | succ n ih => intro S x3 h; exact z_X12_isNever_F10 b hk116 ih S x3 h

def w_X12_isNever_B116 (post : Int32 → GS → Prop) (S : GS)  : Prop :=
  post 0 S

set_option maxHeartbeats 4000000 in
set_option maxRecDepth 100000 in
theorem z_X12_isNever_B116 {p : Program} {l : Launch} {e : Env} {R : Room} {s : State} {m : MethodId} {args : Array Value} {below : List Frame} {meth : Method} {c : Code} {D : va_G} {cy : Nat → ClassId} {T0 tB tE : Nat} {A : Nat → Prop} {a : Nat → Nat} {post : Int32 → GS → Prop} (b : Bz p R s m args meth c D cy T0 tB tE A 4 cX12_isNever RX12 (some .boolean) "isNever" 2 54 0 0) (S : GS)  (h : w_X12_isNever_B116 post S ) : Z p l e R s m args below meth c D A 4 (MQ below (QI D (U := GS) post (mw cy a) A) args s 0 0 A) 0 0 (mw cy a S) [] 116 [] := by
  unfold w_X12_isNever_B116 at h
  refine z_iconst (v := 0) b dX12_isNever_116 (by decide) ?_
  exact z_zret (u := S) b rfl (by decide) dX12_isNever_117 h rfl (by decide) (by decide)

def w_X12_isNever (S : GS) (p0 : Int64) (p1 : Int32) (post : Int32 → GS → Prop) : Prop :=
  w_X12_takes S p0 (fun S2 => ∃ n, lpn (w_X12_isNever_F10 post (w_X12_isNever_B116 post)) (fun _ _ => False) n (si S2 18 0) p1)

set_option maxHeartbeats 4000000 in
set_option maxRecDepth 100000 in
theorem k_X12_isNever {l : Launch} {D : va_G} {cy : Nat → ClassId} {T0 tB tE : Nat} {a : Nat → Nat} (S : GS) (p0 : Int64) (p1 : Int32) (post : Int32 → GS → Prop) (h : w_X12_isNever S p0 p1 post) : Ct l D cy T0 tB tE yX12_isNever cX12_isNever 4 (some .boolean) 2 54 0 0 (mw cy a S) [.ref (a 0), .long p0, .int p1] (QI D (U := GS) post (mw cy a)) := by
  refine Ct.ofZ RX12 "isNever" [(0, .ref (a 0)), (1, .long p0), (3, .int p1)] rfl rfl rfl rfl (Nat.le_of_ble_eq_true rfl) ?_
  intro p e R s m args below meth c A b
  unfold w_X12_isNever at h
  refine z_aload_n b dX12_isNever_0 rfl rfl ?_
  refine z_lload_n b dX12_isNever_1 rfl rfl ?_
  refine z_callv b (z_runV (q0 := 0) (As := [.long p0]) (st := []) b (k_X12_takes S p0 _ h) cf_X12_takes (mw_0 cy a S) rfl wm_X12_174 wi_X12_takes ws_X12_takes dX12_isNever_2 rfl (Nat.le_of_ble_eq_true rfl) ⟨by decide, by decide, by decide, by decide⟩) (fun S2 h => ?_)
  refine z_aload_n b dX12_isNever_5 rfl rfl ?_
  refine z_iconst (v := 0) b dX12_isNever_6 (by decide) ?_
  refine z_put (q0 := 0) (k9 := 43) tyX12 b (mw_0 cy a S2) rfl in_X12 tyX12_ok nmX12 (by decide) wf_X12_364 rfl rfl rfl rfl (Nat.le_of_ble_eq_true rfl) dX12_isNever_7 (mwp_0_43 cy a S2 0) ?_
  refine z_lv0 (lv' := [(0, .ref (a 0)), (3, .int p1)]) [0, 2] rfl ?_
  obtain ⟨n, h⟩ := h
  exact zl_X12_isNever_L10 b (fun S h => z_X12_isNever_B116 b _ h) n _ _ h

def w_X12_goesOn_B193 (post : GS → Prop) (k3 : GS → Int32 → Int32 → Int32 → Int32 → Int32 → Int32 → Prop) (k199 : GS → Prop) (S : GS) (x1 : Int32) (x2 : Int32) (x3 : Int32) (x4 : Int32) (x5 : Int32) (x6 : Int32) : Prop :=
  k3 S x1 x2 x3 x4 x5 (x6 + 1)

set_option maxHeartbeats 4000000 in
set_option maxRecDepth 100000 in
theorem z_X12_goesOn_B193 {p : Program} {l : Launch} {e : Env} {R : Room} {s : State} {m : MethodId} {args : Array Value} {below : List Frame} {meth : Method} {c : Code} {D : va_G} {cy : Nat → ClassId} {T0 tB tE : Nat} {A : Nat → Prop} {a : Nat → Nat} {post : GS → Prop} {k3 : GS → Int32 → Int32 → Int32 → Int32 → Int32 → Int32 → Prop} {k199 : GS → Prop} (b : Bz p R s m args meth c D cy T0 tB tE A 11 cX12_goesOn RX12 none "goesOn" 4 108 0 0) (hk3 : ∀ (S : GS) (x1 : Int32) (x2 : Int32) (x3 : Int32) (x4 : Int32) (x5 : Int32) (x6 : Int32), k3 S x1 x2 x3 x4 x5 x6 → Z p l e R s m args below meth c D A 11 (MQ below (QV D (U := GS) post (mw cy a) A) args s 0 0 A) 0 0 (mw cy a S) [(0, .ref (a 0)), (1, .int x1), (2, .int x2), (3, .int x3), (4, .int x4), (5, .int x5), (6, .int x6)] 3 []) (hk199 : ∀ (S : GS), k199 S → Z p l e R s m args below meth c D A 11 (MQ below (QV D (U := GS) post (mw cy a) A) args s 0 0 A) 0 0 (mw cy a S) [] 199 []) (S : GS) (x1 : Int32) (x2 : Int32) (x3 : Int32) (x4 : Int32) (x5 : Int32) (x6 : Int32) (h : w_X12_goesOn_B193 post k3 k199 S x1 x2 x3 x4 x5 x6) : Z p l e R s m args below meth c D A 11 (MQ below (QV D (U := GS) post (mw cy a) A) args s 0 0 A) 0 0 (mw cy a S) [(0, .ref (a 0)), (1, .int x1), (2, .int x2), (3, .int x3), (4, .int x4), (5, .int x5), (6, .int x6)] 193 [] := by
  unfold w_X12_goesOn_B193 at h
  refine z_iinc (k9 := 6) (v := (x6 + 1)) (lv' := [(6, .int (x6 + 1)), (0, .ref (a 0)), (1, .int x1), (2, .int x2), (3, .int x3), (4, .int x4), (5, .int x5)]) b dX12_goesOn_193 rfl rfl (by decide) rfl ?_
  refine z_goto (tgt := 3) b dX12_goesOn_196 (by decide) ?_
  refine z_lv0 (lv' := [(0, .ref (a 0)), (1, .int x1), (2, .int x2), (3, .int x3), (4, .int x4), (5, .int x5), (6, .int (x6 + 1))]) [1, 2, 3, 4, 5, 6, 0] rfl ?_
  exact hk3 _ _ _ _ _ _ _ h

def w_X12_goesOn_B98 (post : GS → Prop) (k3 : GS → Int32 → Int32 → Int32 → Int32 → Int32 → Int32 → Prop) (k199 : GS → Prop) (S : GS) (x1 : Int32) (x2 : Int32) (x3 : Int32) (x4 : Int32) (x5 : Int32) (x6 : Int32) : Prop :=
  (0 ≤ x1.toInt ∧ x1.toInt < 400) ∧ w_X12_whyNot S ((al S 0) x1.toNatClampNeg) x6 x3 x5 (fun r2 S3 => ((r2.toInt ≠ (-1) → w_X12_goesOn_B193 post k3 k199 S3 x1 x2 x3 x4 x5 x6) ∧ (r2.toInt = (-1) → w_X12_place S3 (fl S3 1) (fun r4 S5 => (0 ≤ r4.toInt ∧ r4.toInt < 1024) ∧ ((((ar S5 29) r4.toNatClampNeg).toInt = (-1) → (((fi S5 21).toInt ≠ 400 → w_X12_meets S5 (fl S5 1) x1 x6 (fun S8 => ((x2.toInt = (-1) → w_X12_goesOn_B193 post k3 k199 S8 x1 x2 x3 x4 x5 x6) ∧ (x2.toInt ≠ (-1) → w_X12_isNever S8 (fl S5 1) x2 (fun r9 S10 => ((r9.toInt = 0 → w_X12_goesOn_B193 post k3 k199 S10 x1 x2 x3 x4 x5 x6) ∧ (r9.toInt ≠ 0 → w_X12_goesOn_B193 post k3 k199 (si S10 22 ((fi S10 21) - 1)) x1 x2 x3 x4 x5 x6))))))) ∧ ((fi S5 21).toInt = 400 → post (si S5 23 1)))) ∧ (((ar S5 29) r4.toNatClampNeg).toInt ≠ (-1) → w_X12_goesOn_B193 post k3 k199 S5 x1 x2 x3 x4 x5 x6))))))

set_option maxHeartbeats 4000000 in
set_option maxRecDepth 100000 in
theorem z_X12_goesOn_B98 {p : Program} {l : Launch} {e : Env} {R : Room} {s : State} {m : MethodId} {args : Array Value} {below : List Frame} {meth : Method} {c : Code} {D : va_G} {cy : Nat → ClassId} {T0 tB tE : Nat} {A : Nat → Prop} {a : Nat → Nat} {post : GS → Prop} {k3 : GS → Int32 → Int32 → Int32 → Int32 → Int32 → Int32 → Prop} {k199 : GS → Prop} (b : Bz p R s m args meth c D cy T0 tB tE A 11 cX12_goesOn RX12 none "goesOn" 4 108 0 0) (hk3 : ∀ (S : GS) (x1 : Int32) (x2 : Int32) (x3 : Int32) (x4 : Int32) (x5 : Int32) (x6 : Int32), k3 S x1 x2 x3 x4 x5 x6 → Z p l e R s m args below meth c D A 11 (MQ below (QV D (U := GS) post (mw cy a) A) args s 0 0 A) 0 0 (mw cy a S) [(0, .ref (a 0)), (1, .int x1), (2, .int x2), (3, .int x3), (4, .int x4), (5, .int x5), (6, .int x6)] 3 []) (hk199 : ∀ (S : GS), k199 S → Z p l e R s m args below meth c D A 11 (MQ below (QV D (U := GS) post (mw cy a) A) args s 0 0 A) 0 0 (mw cy a S) [] 199 []) (S : GS) (x1 : Int32) (x2 : Int32) (x3 : Int32) (x4 : Int32) (x5 : Int32) (x6 : Int32) (h : w_X12_goesOn_B98 post k3 k199 S x1 x2 x3 x4 x5 x6) : Z p l e R s m args below meth c D A 11 (MQ below (QV D (U := GS) post (mw cy a) A) args s 0 0 A) 0 0 (mw cy a S) [(0, .ref (a 0)), (1, .int x1), (2, .int x2), (3, .int x3), (4, .int x4), (5, .int x5), (6, .int x6)] 98 [] := by
  unfold w_X12_goesOn_B98 at h
  refine z_aload_n b dX12_goesOn_98 rfl rfl ?_
  refine z_aload_n b dX12_goesOn_99 rfl rfl ?_
  refine z_get (q0 := 0) (k9 := 49) (v := .ref (a 27)) b (mw_0 cy a S) rfl in_X12 (by decide) wf_X12_97 rfl dX12_goesOn_100 ?_
  refine z_iload_n b dX12_goesOn_103 rfl rfl ?_
  obtain ⟨g1, h⟩ := h
  refine y_lald (q0 := 27) (j := x1.toNatClampNeg) (v := ((al S 0) x1.toNatClampNeg)) b (mw_27 cy a S) (zx_r g1.1 g1.2) rfl dX12_goesOn_104 ?_
  refine z_iload b dX12_goesOn_105 rfl ?_
  refine z_iload_n b dX12_goesOn_107 rfl rfl ?_
  refine z_iload b dX12_goesOn_108 rfl ?_
  refine z_calli b (z_runV (q0 := 0) (As := [.long ((al S 0) x1.toNatClampNeg), .int x6, .int x3, .int x5]) (st := []) b (k_X12_whyNot S ((al S 0) x1.toNatClampNeg) x6 x3 x5 _ h) cf_X12_whyNot (mw_0 cy a S) rfl wm_X12_426 wi_X12_whyNot ws_X12_whyNot dX12_goesOn_110 rfl (Nat.le_of_ble_eq_true rfl) ⟨by decide, by decide, by decide, by decide⟩) (fun r2 S3 h => ?_)
  refine z_iconst (v := (-1)) b dX12_goesOn_113 (by decide) ?_
  refine y_icmp_ne (tgt := 193) (xl := r2.toInt) (yl := (-1)) b rfl (by decide) dX12_goesOn_114 (by decide) (fun c1 => ?_) (fun c1 => ?_)
  · replace h := h.1 c1
    exact z_X12_goesOn_B193 b hk3 hk199 _ _ _ _ _ _ _ h
  · replace h := h.2 c1
    refine z_aload_n b dX12_goesOn_117 rfl rfl ?_
    refine z_get (q0 := 0) (k9 := 53) (v := .ref (a 31)) b (mw_0 cy a S3) rfl in_X12 (by decide) wf_X12_110 rfl dX12_goesOn_118 ?_
    refine z_aload_n b dX12_goesOn_121 rfl rfl ?_
    refine z_aload_n b dX12_goesOn_122 rfl rfl ?_
    refine z_get (q0 := 0) (k9 := 46) (v := .long (fl S3 1)) b (mw_0 cy a S3) rfl in_X12 (by decide) wf_X12_396 rfl dX12_goesOn_123 ?_
    refine z_calli b (z_runV (q0 := 0) (As := [.long (fl S3 1)]) (st := [.ref (a 31)]) b (k_X12_place S3 (fl S3 1) _ h) cf_X12_place (mw_0 cy a S3) rfl wm_X12_401 wi_X12_place ws_X12_place dX12_goesOn_126 rfl (Nat.le_of_ble_eq_true rfl) ⟨by decide, by decide, by decide, by decide⟩) (fun r4 S5 h => ?_)
    obtain ⟨g6, h⟩ := h
    refine y_iald (q0 := 31) (j := r4.toNatClampNeg) (v := ((ar S5 29) r4.toNatClampNeg)) b (mw_31 cy a S5) (zx_r g6.1 g6.2) rfl dX12_goesOn_129 ?_
    refine z_iconst (v := (-1)) b dX12_goesOn_130 (by decide) ?_
    refine y_icmp_eq (tgt := 137) (xl := ((ar S5 29) r4.toNatClampNeg).toInt) (yl := (-1)) b rfl (by decide) dX12_goesOn_131 (by decide) (fun c1 => ?_) (fun c1 => ?_)
    · replace h := h.1 c1
      refine z_aload_n b dX12_goesOn_137 rfl rfl ?_
      refine z_get (q0 := 0) (k9 := 55) (v := .int (fi S5 21)) b (mw_0 cy a S5) rfl in_X12 (by decide) wf_X12_405 rfl dX12_goesOn_138 ?_
      refine z_sipush (v := 400) b dX12_goesOn_141 (by decide) ?_
      refine y_icmp_ne (tgt := 153) (xl := (fi S5 21).toInt) (yl := 400) b rfl (by decide) dX12_goesOn_144 (by decide) (fun c1 => ?_) (fun c1 => ?_)
      · replace h := h.1 c1
        refine z_aload_n b dX12_goesOn_153 rfl rfl ?_
        refine z_get (q0 := 0) (k9 := 46) (v := .long (fl S5 1)) b (mw_0 cy a S5) rfl in_X12 (by decide) wf_X12_396 rfl dX12_goesOn_154 ?_
        refine z_lstore (lv' := [(9, .long (fl S5 1)), (0, .ref (a 0)), (1, .int x1), (2, .int x2), (3, .int x3), (4, .int x4), (5, .int x5), (6, .int x6)]) b dX12_goesOn_157 (by decide) rfl ?_
        refine z_aload_n b dX12_goesOn_159 rfl rfl ?_
        refine z_lload b dX12_goesOn_160 rfl ?_
        refine z_iload_n b dX12_goesOn_162 rfl rfl ?_
        refine z_iload b dX12_goesOn_163 rfl ?_
        refine z_callv b (z_runV (q0 := 0) (As := [.long (fl S5 1), .int x1, .int x6]) (st := []) b (k_X12_meets S5 (fl S5 1) x1 x6 _ h) cf_X12_meets (mw_0 cy a S5) rfl wm_X12_414 wi_X12_meets ws_X12_meets dX12_goesOn_165 rfl (Nat.le_of_ble_eq_true rfl) ⟨by decide, by decide, by decide, by decide⟩) (fun S8 h => ?_)
        refine z_iload_n b dX12_goesOn_168 rfl rfl ?_
        refine z_iconst (v := (-1)) b dX12_goesOn_169 (by decide) ?_
        refine y_icmp_eq (tgt := 193) (xl := x2.toInt) (yl := (-1)) b rfl (by decide) dX12_goesOn_170 (by decide) (fun c1 => ?_) (fun c1 => ?_)
        · replace h := h.1 c1
          refine z_lv0 (lv' := [(0, .ref (a 0)), (1, .int x1), (2, .int x2), (3, .int x3), (4, .int x4), (5, .int x5), (6, .int x6)]) [1, 2, 3, 4, 5, 6, 7] rfl ?_
          exact z_X12_goesOn_B193 b hk3 hk199 _ _ _ _ _ _ _ h
        · replace h := h.2 c1
          refine z_aload_n b dX12_goesOn_173 rfl rfl ?_
          refine z_lload b dX12_goesOn_174 rfl ?_
          refine z_iload_n b dX12_goesOn_176 rfl rfl ?_
          refine z_calli b (z_runV (q0 := 0) (As := [.long (fl S5 1), .int x2]) (st := []) b (k_X12_isNever S8 (fl S5 1) x2 _ h) cf_X12_isNever (mw_0 cy a S8) rfl wm_X12_418 wi_X12_isNever ws_X12_isNever dX12_goesOn_177 rfl (Nat.le_of_ble_eq_true rfl) ⟨by decide, by decide, by decide, by decide⟩) (fun r9 S10 h => ?_)
          refine y_if_eq (tgt := 193) (xl := r9.toInt) b rfl dX12_goesOn_180 (by decide) (fun c1 => ?_) (fun c1 => ?_)
          · replace h := h.1 c1
            refine z_lv0 (lv' := [(0, .ref (a 0)), (1, .int x1), (2, .int x2), (3, .int x3), (4, .int x4), (5, .int x5), (6, .int x6)]) [1, 2, 3, 4, 5, 6, 7] rfl ?_
            exact z_X12_goesOn_B193 b hk3 hk199 _ _ _ _ _ _ _ h
          · replace h := h.2 c1
            refine z_aload_n b dX12_goesOn_183 rfl rfl ?_
            refine z_aload_n b dX12_goesOn_184 rfl rfl ?_
            refine z_get (q0 := 0) (k9 := 55) (v := .int (fi S10 21)) b (mw_0 cy a S10) rfl in_X12 (by decide) wf_X12_405 rfl dX12_goesOn_185 ?_
            refine z_iconst (v := 1) b dX12_goesOn_188 (by decide) ?_
            refine z_isub b dX12_goesOn_189 rfl ?_
            refine z_put (q0 := 0) (k9 := 56) tyX12 b (mw_0 cy a S10) rfl in_X12 tyX12_ok nmX12 (by decide) wf_X12_411 rfl rfl rfl rfl (Nat.le_of_ble_eq_true rfl) dX12_goesOn_190 (mwp_0_56 cy a S10 ((fi S10 21) - 1)) ?_
            refine z_lv0 (lv' := [(0, .ref (a 0)), (1, .int x1), (2, .int x2), (3, .int x3), (4, .int x4), (5, .int x5), (6, .int x6)]) [1, 2, 3, 4, 5, 6, 7] rfl ?_
            exact z_X12_goesOn_B193 b hk3 hk199 _ _ _ _ _ _ _ h
      · replace h := h.2 c1
        refine z_aload_n b dX12_goesOn_147 rfl rfl ?_
        refine z_iconst (v := 1) b dX12_goesOn_148 (by decide) ?_
        refine z_put (q0 := 0) (k9 := 57) tyX12 b (mw_0 cy a S5) rfl in_X12 tyX12_ok nmX12 (by decide) wf_X12_408 rfl rfl rfl rfl (Nat.le_of_ble_eq_true rfl) dX12_goesOn_149 (mwp_0_57 cy a S5 1) ?_
        exact z_vret (u := (si S5 23 1)) b rfl dX12_goesOn_152 h rfl (by decide) (by decide)
    · replace h := h.2 c1
      refine z_goto (tgt := 193) b dX12_goesOn_134 (by decide) ?_
      exact z_X12_goesOn_B193 b hk3 hk199 _ _ _ _ _ _ _ h

def w_X12_goesOn_B52 (post : GS → Prop) (k3 : GS → Int32 → Int32 → Int32 → Int32 → Int32 → Int32 → Prop) (k199 : GS → Prop) (S : GS) (x1 : Int32) (x2 : Int32) (x3 : Int32) (x4 : Int32) (x5 : Int32) (x6 : Int32) : Prop :=
  ((((x4 >>> (((x6 / 16) - (x6 / 16) / 4 * 4) &&& 31)) &&& 1).toInt = 0 → w_X12_goesOn_B193 post k3 k199 S x1 x2 x3 x4 x5 x6) ∧ (((x4 >>> (((x6 / 16) - (x6 / 16) / 4 * 4) &&& 31)) &&& 1).toInt ≠ 0 → ((((x6 / 4) - (x6 / 4) / 4 * 4).toInt = 3 → w_X12_goesOn_B98 post k3 k199 S x1 x2 x3 x4 x5 x6) ∧ (((x6 / 4) - (x6 / 4) / 4 * 4).toInt ≠ 3 → ((((x4 >>> (((x6 / 4) - (x6 / 4) / 4 * 4) &&& 31)) &&& 1).toInt ≠ 0 → w_X12_goesOn_B98 post k3 k199 S x1 x2 x3 x4 x5 x6) ∧ (((x4 >>> (((x6 / 4) - (x6 / 4) / 4 * 4) &&& 31)) &&& 1).toInt = 0 → w_X12_goesOn_B193 post k3 k199 S x1 x2 x3 x4 x5 x6))))))

set_option maxHeartbeats 4000000 in
set_option maxRecDepth 100000 in
theorem z_X12_goesOn_B52 {p : Program} {l : Launch} {e : Env} {R : Room} {s : State} {m : MethodId} {args : Array Value} {below : List Frame} {meth : Method} {c : Code} {D : va_G} {cy : Nat → ClassId} {T0 tB tE : Nat} {A : Nat → Prop} {a : Nat → Nat} {post : GS → Prop} {k3 : GS → Int32 → Int32 → Int32 → Int32 → Int32 → Int32 → Prop} {k199 : GS → Prop} (b : Bz p R s m args meth c D cy T0 tB tE A 11 cX12_goesOn RX12 none "goesOn" 4 108 0 0) (hk3 : ∀ (S : GS) (x1 : Int32) (x2 : Int32) (x3 : Int32) (x4 : Int32) (x5 : Int32) (x6 : Int32), k3 S x1 x2 x3 x4 x5 x6 → Z p l e R s m args below meth c D A 11 (MQ below (QV D (U := GS) post (mw cy a) A) args s 0 0 A) 0 0 (mw cy a S) [(0, .ref (a 0)), (1, .int x1), (2, .int x2), (3, .int x3), (4, .int x4), (5, .int x5), (6, .int x6)] 3 []) (hk199 : ∀ (S : GS), k199 S → Z p l e R s m args below meth c D A 11 (MQ below (QV D (U := GS) post (mw cy a) A) args s 0 0 A) 0 0 (mw cy a S) [] 199 []) (S : GS) (x1 : Int32) (x2 : Int32) (x3 : Int32) (x4 : Int32) (x5 : Int32) (x6 : Int32) (h : w_X12_goesOn_B52 post k3 k199 S x1 x2 x3 x4 x5 x6) : Z p l e R s m args below meth c D A 11 (MQ below (QV D (U := GS) post (mw cy a) A) args s 0 0 A) 0 0 (mw cy a S) [(0, .ref (a 0)), (1, .int x1), (2, .int x2), (3, .int x3), (4, .int x4), (5, .int x5), (6, .int x6)] 52 [] := by
  unfold w_X12_goesOn_B52 at h
  refine z_iload b dX12_goesOn_52 rfl ?_
  refine z_bipush (v := 16) b dX12_goesOn_54 (by decide) ?_
  refine z_idiv b dX12_goesOn_56 (by decide) rfl ?_
  refine z_iconst (v := 4) b dX12_goesOn_57 (by decide) ?_
  refine z_irem b dX12_goesOn_58 (by decide) rfl ?_
  refine z_istore (lv' := [(7, .int ((x6 / 16) - (x6 / 16) / 4 * 4)), (0, .ref (a 0)), (1, .int x1), (2, .int x2), (3, .int x3), (4, .int x4), (5, .int x5), (6, .int x6)]) b dX12_goesOn_59 (by decide) rfl ?_
  refine z_iload b dX12_goesOn_61 rfl ?_
  refine z_iconst (v := 4) b dX12_goesOn_63 (by decide) ?_
  refine z_idiv b dX12_goesOn_64 (by decide) rfl ?_
  refine z_iconst (v := 4) b dX12_goesOn_65 (by decide) ?_
  refine z_irem b dX12_goesOn_66 (by decide) rfl ?_
  refine z_istore (lv' := [(8, .int ((x6 / 4) - (x6 / 4) / 4 * 4)), (7, .int ((x6 / 16) - (x6 / 16) / 4 * 4)), (0, .ref (a 0)), (1, .int x1), (2, .int x2), (3, .int x3), (4, .int x4), (5, .int x5), (6, .int x6)]) b dX12_goesOn_67 (by decide) rfl ?_
  refine z_iload b dX12_goesOn_69 rfl ?_
  refine z_iload b dX12_goesOn_71 rfl ?_
  refine z_ishr b dX12_goesOn_73 rfl ?_
  refine z_iconst (v := 1) b dX12_goesOn_74 (by decide) ?_
  refine z_iand b dX12_goesOn_75 rfl ?_
  refine y_if_eq (tgt := 193) (xl := ((x4 >>> (((x6 / 16) - (x6 / 16) / 4 * 4) &&& 31)) &&& 1).toInt) b rfl dX12_goesOn_76 (by decide) (fun c1 => ?_) (fun c1 => ?_)
  · replace h := h.1 c1
    refine z_lv0 (lv' := [(0, .ref (a 0)), (1, .int x1), (2, .int x2), (3, .int x3), (4, .int x4), (5, .int x5), (6, .int x6)]) [2, 3, 4, 5, 6, 7, 8] rfl ?_
    exact z_X12_goesOn_B193 b hk3 hk199 _ _ _ _ _ _ _ h
  · replace h := h.2 c1
    refine z_iload b dX12_goesOn_79 rfl ?_
    refine z_iconst (v := 3) b dX12_goesOn_81 (by decide) ?_
    refine y_icmp_eq (tgt := 98) (xl := ((x6 / 4) - (x6 / 4) / 4 * 4).toInt) (yl := 3) b rfl (by decide) dX12_goesOn_82 (by decide) (fun c1 => ?_) (fun c1 => ?_)
    · replace h := h.1 c1
      refine z_lv0 (lv' := [(0, .ref (a 0)), (1, .int x1), (2, .int x2), (3, .int x3), (4, .int x4), (5, .int x5), (6, .int x6)]) [2, 3, 4, 5, 6, 7, 8] rfl ?_
      exact z_X12_goesOn_B98 b hk3 hk199 _ _ _ _ _ _ _ h
    · replace h := h.2 c1
      refine z_iload b dX12_goesOn_85 rfl ?_
      refine z_iload b dX12_goesOn_87 rfl ?_
      refine z_ishr b dX12_goesOn_89 rfl ?_
      refine z_iconst (v := 1) b dX12_goesOn_90 (by decide) ?_
      refine z_iand b dX12_goesOn_91 rfl ?_
      refine y_if_ne (tgt := 98) (xl := ((x4 >>> (((x6 / 4) - (x6 / 4) / 4 * 4) &&& 31)) &&& 1).toInt) b rfl dX12_goesOn_92 (by decide) (fun c1 => ?_) (fun c1 => ?_)
      · replace h := h.1 c1
        refine z_lv0 (lv' := [(0, .ref (a 0)), (1, .int x1), (2, .int x2), (3, .int x3), (4, .int x4), (5, .int x5), (6, .int x6)]) [2, 3, 4, 5, 6, 7, 8] rfl ?_
        exact z_X12_goesOn_B98 b hk3 hk199 _ _ _ _ _ _ _ h
      · replace h := h.2 c1
        refine z_goto (tgt := 193) b dX12_goesOn_95 (by decide) ?_
        refine z_lv0 (lv' := [(0, .ref (a 0)), (1, .int x1), (2, .int x2), (3, .int x3), (4, .int x4), (5, .int x5), (6, .int x6)]) [2, 3, 4, 5, 6, 7, 8] rfl ?_
        exact z_X12_goesOn_B193 b hk3 hk199 _ _ _ _ _ _ _ h

def w_X12_goesOn_F3 (post : GS → Prop) (k199 : GS → Prop) (k3 : GS → Int32 → Int32 → Int32 → Int32 → Int32 → Int32 → Prop) (S : GS) (x1 : Int32) (x2 : Int32) (x3 : Int32) (x4 : Int32) (x5 : Int32) (x6 : Int32) : Prop :=
  ((768 ≤ x6.toInt → k199 S) ∧ (x6.toInt < 768 → (((fi S 22).toInt ≠ (-1) → k199 S) ∧ ((fi S 22).toInt = (-1) → (((fi S 23).toInt ≠ 0 → k199 S) ∧ ((fi S 23).toInt = 0 → (((x6 - x6 / 64 * 64).toInt ≠ 0 → w_X12_goesOn_B52 post k3 k199 S x1 x2 x3 x4 x5 x6) ∧ ((x6 - x6 / 64 * 64).toInt = 0 → w_X12_isAct S (x6 / 64) (fun r11 S12 => ((r11.toInt ≠ 0 → w_X12_goesOn_B52 post k3 k199 S12 x1 x2 x3 x4 x5 x6) ∧ (r11.toInt = 0 → w_X12_goesOn_B193 post k3 k199 S12 x1 x2 x3 x4 x5 (x6 + 63))))))))))))

set_option maxHeartbeats 4000000 in
set_option maxRecDepth 100000 in
theorem z_X12_goesOn_F3 {p : Program} {l : Launch} {e : Env} {R : Room} {s : State} {m : MethodId} {args : Array Value} {below : List Frame} {meth : Method} {c : Code} {D : va_G} {cy : Nat → ClassId} {T0 tB tE : Nat} {A : Nat → Prop} {a : Nat → Nat} {post : GS → Prop} {k199 : GS → Prop} {k3 : GS → Int32 → Int32 → Int32 → Int32 → Int32 → Int32 → Prop} (b : Bz p R s m args meth c D cy T0 tB tE A 11 cX12_goesOn RX12 none "goesOn" 4 108 0 0) (hk199 : ∀ (S : GS), k199 S → Z p l e R s m args below meth c D A 11 (MQ below (QV D (U := GS) post (mw cy a) A) args s 0 0 A) 0 0 (mw cy a S) [] 199 []) (hk3 : ∀ (S : GS) (x1 : Int32) (x2 : Int32) (x3 : Int32) (x4 : Int32) (x5 : Int32) (x6 : Int32), k3 S x1 x2 x3 x4 x5 x6 → Z p l e R s m args below meth c D A 11 (MQ below (QV D (U := GS) post (mw cy a) A) args s 0 0 A) 0 0 (mw cy a S) [(0, .ref (a 0)), (1, .int x1), (2, .int x2), (3, .int x3), (4, .int x4), (5, .int x5), (6, .int x6)] 3 []) (S : GS) (x1 : Int32) (x2 : Int32) (x3 : Int32) (x4 : Int32) (x5 : Int32) (x6 : Int32) (h : w_X12_goesOn_F3 post k199 k3 S x1 x2 x3 x4 x5 x6) : Z p l e R s m args below meth c D A 11 (MQ below (QV D (U := GS) post (mw cy a) A) args s 0 0 A) 0 0 (mw cy a S) [(0, .ref (a 0)), (1, .int x1), (2, .int x2), (3, .int x3), (4, .int x4), (5, .int x5), (6, .int x6)] 3 [] := by
  unfold w_X12_goesOn_F3 at h
  refine z_iload b dX12_goesOn_3 rfl ?_
  refine z_sipush (v := 768) b dX12_goesOn_5 (by decide) ?_
  refine y_icmp_ge (tgt := 199) (xl := x6.toInt) (yl := 768) b rfl (by decide) dX12_goesOn_8 (by decide) (fun c1 => ?_) (fun c1 => ?_)
  · replace h := h.1 c1
    refine z_lv0 (lv' := []) [] rfl ?_
    exact hk199 _ h
  · replace h := h.2 c1
    refine z_aload_n b dX12_goesOn_11 rfl rfl ?_
    refine z_get (q0 := 0) (k9 := 56) (v := .int (fi S 22)) b (mw_0 cy a S) rfl in_X12 (by decide) wf_X12_411 rfl dX12_goesOn_12 ?_
    refine z_iconst (v := (-1)) b dX12_goesOn_15 (by decide) ?_
    refine y_icmp_ne (tgt := 199) (xl := (fi S 22).toInt) (yl := (-1)) b rfl (by decide) dX12_goesOn_16 (by decide) (fun c1 => ?_) (fun c1 => ?_)
    · replace h := h.1 c1
      refine z_lv0 (lv' := []) [] rfl ?_
      exact hk199 _ h
    · replace h := h.2 c1
      refine z_aload_n b dX12_goesOn_19 rfl rfl ?_
      refine z_get (q0 := 0) (k9 := 57) (v := .int (fi S 23)) b (mw_0 cy a S) rfl in_X12 (by decide) wf_X12_408 rfl dX12_goesOn_20 ?_
      refine y_if_ne (tgt := 199) (xl := (fi S 23).toInt) b rfl dX12_goesOn_23 (by decide) (fun c1 => ?_) (fun c1 => ?_)
      · replace h := h.1 c1
        refine z_lv0 (lv' := []) [] rfl ?_
        exact hk199 _ h
      · replace h := h.2 c1
        refine z_iload b dX12_goesOn_26 rfl ?_
        refine z_bipush (v := 64) b dX12_goesOn_28 (by decide) ?_
        refine z_irem b dX12_goesOn_30 (by decide) rfl ?_
        refine y_if_ne (tgt := 52) (xl := (x6 - x6 / 64 * 64).toInt) b rfl dX12_goesOn_31 (by decide) (fun c1 => ?_) (fun c1 => ?_)
        · replace h := h.1 c1
          exact z_X12_goesOn_B52 b hk3 hk199 _ _ _ _ _ _ _ h
        · replace h := h.2 c1
          refine z_aload_n b dX12_goesOn_34 rfl rfl ?_
          refine z_iload b dX12_goesOn_35 rfl ?_
          refine z_bipush (v := 64) b dX12_goesOn_37 (by decide) ?_
          refine z_idiv b dX12_goesOn_39 (by decide) rfl ?_
          refine z_calli b (z_runV (q0 := 0) (As := [.int (x6 / 64)]) (st := []) b (k_X12_isAct S (x6 / 64) _ h) cf_X12_isAct (mw_0 cy a S) rfl wm_X12_361 wi_X12_isAct ws_X12_isAct dX12_goesOn_40 rfl (Nat.le_of_ble_eq_true rfl) ⟨by decide, by decide, by decide, by decide⟩) (fun r11 S12 h => ?_)
          refine y_if_ne (tgt := 52) (xl := r11.toInt) b rfl dX12_goesOn_43 (by decide) (fun c1 => ?_) (fun c1 => ?_)
          · replace h := h.1 c1
            exact z_X12_goesOn_B52 b hk3 hk199 _ _ _ _ _ _ _ h
          · replace h := h.2 c1
            refine z_iinc (k9 := 6) (v := (x6 + 63)) (lv' := [(6, .int (x6 + 63)), (0, .ref (a 0)), (1, .int x1), (2, .int x2), (3, .int x3), (4, .int x4), (5, .int x5)]) b dX12_goesOn_46 rfl rfl (by decide) rfl ?_
            refine z_goto (tgt := 193) b dX12_goesOn_49 (by decide) ?_
            refine z_lv0 (lv' := [(0, .ref (a 0)), (1, .int x1), (2, .int x2), (3, .int x3), (4, .int x4), (5, .int x5), (6, .int (x6 + 63))]) [1, 2, 3, 4, 5, 6, 0] rfl ?_
            exact z_X12_goesOn_B193 b hk3 hk199 _ _ _ _ _ _ _ h

set_option maxHeartbeats 4000000 in
set_option maxRecDepth 100000 in
theorem zl_X12_goesOn_L3 {p : Program} {l : Launch} {e : Env} {R : Room} {s : State} {m : MethodId} {args : Array Value} {below : List Frame} {meth : Method} {c : Code} {D : va_G} {cy : Nat → ClassId} {T0 tB tE : Nat} {A : Nat → Prop} {a : Nat → Nat} {post : GS → Prop} {k199 : GS → Prop} (b : Bz p R s m args meth c D cy T0 tB tE A 11 cX12_goesOn RX12 none "goesOn" 4 108 0 0) (hk199 : ∀ (S : GS), k199 S → Z p l e R s m args below meth c D A 11 (MQ below (QV D (U := GS) post (mw cy a) A) args s 0 0 A) 0 0 (mw cy a S) [] 199 []) : ∀ (n : Nat) (S : GS) (x1 : Int32) (x2 : Int32) (x3 : Int32) (x4 : Int32) (x5 : Int32) (x6 : Int32), lpn (w_X12_goesOn_F3 post k199) (fun _ _ _ _ _ _ _ => False) n S x1 x2 x3 x4 x5 x6 → Z p l e R s m args below meth c D A 11 (MQ below (QV D (U := GS) post (mw cy a) A) args s 0 0 A) 0 0 (mw cy a S) [(0, .ref (a 0)), (1, .int x1), (2, .int x2), (3, .int x3), (4, .int x4), (5, .int x5), (6, .int x6)] 3 [] := by
  intro n
  induction n with
  | zero => intro _ _ _ _ _ _ _ h; exact h.elim
  | succ n ih => intro S x1 x2 x3 x4 x5 x6 h; exact z_X12_goesOn_F3 b hk199 ih S x1 x2 x3 x4 x5 x6 h

def w_X12_goesOn_B199 (post : GS → Prop) (S : GS)  : Prop :=
  post S

set_option maxHeartbeats 4000000 in
set_option maxRecDepth 100000 in
theorem z_X12_goesOn_B199 {p : Program} {l : Launch} {e : Env} {R : Room} {s : State} {m : MethodId} {args : Array Value} {below : List Frame} {meth : Method} {c : Code} {D : va_G} {cy : Nat → ClassId} {T0 tB tE : Nat} {A : Nat → Prop} {a : Nat → Nat} {post : GS → Prop} (b : Bz p R s m args meth c D cy T0 tB tE A 11 cX12_goesOn RX12 none "goesOn" 4 108 0 0) (S : GS)  (h : w_X12_goesOn_B199 post S ) : Z p l e R s m args below meth c D A 11 (MQ below (QV D (U := GS) post (mw cy a) A) args s 0 0 A) 0 0 (mw cy a S) [] 199 [] := by
  unfold w_X12_goesOn_B199 at h
  exact z_vret (u := S) b rfl dX12_goesOn_199 h rfl (by decide) (by decide)

def w_X12_goesOn (S : GS) (p0 : Int32) (p1 : Int32) (p2 : Int32) (p3 : Int32) (p4 : Int32) (post : GS → Prop) : Prop :=
  ∃ n, lpn (w_X12_goesOn_F3 post (w_X12_goesOn_B199 post)) (fun _ _ _ _ _ _ _ => False) n S p0 p1 p2 p3 p4 0

set_option maxHeartbeats 4000000 in
set_option maxRecDepth 100000 in
theorem k_X12_goesOn {l : Launch} {D : va_G} {cy : Nat → ClassId} {T0 tB tE : Nat} {a : Nat → Nat} (S : GS) (p0 : Int32) (p1 : Int32) (p2 : Int32) (p3 : Int32) (p4 : Int32) (post : GS → Prop) (h : w_X12_goesOn S p0 p1 p2 p3 p4 post) : Ct l D cy T0 tB tE yX12_goesOn cX12_goesOn 11 none 4 108 0 0 (mw cy a S) [.ref (a 0), .int p0, .int p1, .int p2, .int p3, .int p4] (QV D (U := GS) post (mw cy a)) := by
  refine Ct.ofZ RX12 "goesOn" [(0, .ref (a 0)), (1, .int p0), (2, .int p1), (3, .int p2), (4, .int p3), (5, .int p4)] rfl rfl rfl rfl (Nat.le_of_ble_eq_true rfl) ?_
  intro p e R s m args below meth c A b
  unfold w_X12_goesOn at h
  refine z_iconst (v := 0) b dX12_goesOn_0 (by decide) ?_
  refine z_istore (lv' := [(6, .int 0), (0, .ref (a 0)), (1, .int p0), (2, .int p1), (3, .int p2), (4, .int p3), (5, .int p4)]) b dX12_goesOn_1 (by decide) rfl ?_
  refine z_lv0 (lv' := [(0, .ref (a 0)), (1, .int p0), (2, .int p1), (3, .int p2), (4, .int p3), (5, .int p4), (6, .int 0)]) [1, 2, 3, 4, 5, 6, 0] rfl ?_
  obtain ⟨n, h⟩ := h
  exact zl_X12_goesOn_L3 b (fun S h => z_X12_goesOn_B199 b _ h) n _ _ _ _ _ _ _ h

def w_X12_searches_F3 (post : GS → Prop) (k31 : GS → Int32 → Int32 → Int32 → Int32 → Int32 → Prop) (k3 : GS → Int32 → Int32 → Int32 → Int32 → Int32 → Int32 → Prop) (S : GS) (x1 : Int32) (x2 : Int32) (x3 : Int32) (x4 : Int32) (x5 : Int32) (x6 : Int32) : Prop :=
  (((fi S 21).toInt ≤ x6.toInt → k31 S x1 x2 x3 x4 x5) ∧ (x6.toInt < (fi S 21).toInt → (0 ≤ x6.toInt ∧ x6.toInt < 400) ∧ (0 ≤ ((ar S 30) x6.toNatClampNeg).toInt ∧ ((ar S 30) x6.toNatClampNeg).toInt < 1024) ∧ k3 (su S 29 (((ar S 30) x6.toNatClampNeg).toNatClampNeg) (-1)) x1 x2 x3 x4 x5 (x6 + 1)))

set_option maxHeartbeats 4000000 in
set_option maxRecDepth 100000 in
theorem z_X12_searches_F3 {p : Program} {l : Launch} {e : Env} {R : Room} {s : State} {m : MethodId} {args : Array Value} {below : List Frame} {meth : Method} {c : Code} {D : va_G} {cy : Nat → ClassId} {T0 tB tE : Nat} {A : Nat → Prop} {a : Nat → Nat} {post : GS → Prop} {k31 : GS → Int32 → Int32 → Int32 → Int32 → Int32 → Prop} {k3 : GS → Int32 → Int32 → Int32 → Int32 → Int32 → Int32 → Prop} (b : Bz p R s m args meth c D cy T0 tB tE A 7 cX12_searches RX12 none "searches" 5 138 0 0) (hk31 : ∀ (S : GS) (x1 : Int32) (x2 : Int32) (x3 : Int32) (x4 : Int32) (x5 : Int32), k31 S x1 x2 x3 x4 x5 → Z p l e R s m args below meth c D A 7 (MQ below (QV D (U := GS) post (mw cy a) A) args s 0 0 A) 0 0 (mw cy a S) [(0, .ref (a 0)), (1, .int x1), (2, .int x2), (3, .int x3), (4, .int x4), (5, .int x5)] 31 []) (hk3 : ∀ (S : GS) (x1 : Int32) (x2 : Int32) (x3 : Int32) (x4 : Int32) (x5 : Int32) (x6 : Int32), k3 S x1 x2 x3 x4 x5 x6 → Z p l e R s m args below meth c D A 7 (MQ below (QV D (U := GS) post (mw cy a) A) args s 0 0 A) 0 0 (mw cy a S) [(0, .ref (a 0)), (1, .int x1), (2, .int x2), (3, .int x3), (4, .int x4), (5, .int x5), (6, .int x6)] 3 []) (S : GS) (x1 : Int32) (x2 : Int32) (x3 : Int32) (x4 : Int32) (x5 : Int32) (x6 : Int32) (h : w_X12_searches_F3 post k31 k3 S x1 x2 x3 x4 x5 x6) : Z p l e R s m args below meth c D A 7 (MQ below (QV D (U := GS) post (mw cy a) A) args s 0 0 A) 0 0 (mw cy a S) [(0, .ref (a 0)), (1, .int x1), (2, .int x2), (3, .int x3), (4, .int x4), (5, .int x5), (6, .int x6)] 3 [] := by
  unfold w_X12_searches_F3 at h
  refine z_iload b dX12_searches_3 rfl ?_
  refine z_aload_n b dX12_searches_5 rfl rfl ?_
  refine z_get (q0 := 0) (k9 := 55) (v := .int (fi S 21)) b (mw_0 cy a S) rfl in_X12 (by decide) wf_X12_405 rfl dX12_searches_6 ?_
  refine y_icmp_ge (tgt := 31) (xl := x6.toInt) (yl := (fi S 21).toInt) b rfl rfl dX12_searches_9 (by decide) (fun c1 => ?_) (fun c1 => ?_)
  · replace h := h.1 c1
    refine z_lv0 (lv' := [(0, .ref (a 0)), (1, .int x1), (2, .int x2), (3, .int x3), (4, .int x4), (5, .int x5)]) [0, 1, 2, 3, 4, 5] rfl ?_
    exact hk31 _ _ _ _ _ _ h
  · replace h := h.2 c1
    refine z_aload_n b dX12_searches_12 rfl rfl ?_
    refine z_get (q0 := 0) (k9 := 53) (v := .ref (a 31)) b (mw_0 cy a S) rfl in_X12 (by decide) wf_X12_110 rfl dX12_searches_13 ?_
    refine z_aload_n b dX12_searches_16 rfl rfl ?_
    refine z_get (q0 := 0) (k9 := 54) (v := .ref (a 32)) b (mw_0 cy a S) rfl in_X12 (by decide) wf_X12_113 rfl dX12_searches_17 ?_
    refine z_iload b dX12_searches_20 rfl ?_
    obtain ⟨g1, h⟩ := h
    refine y_iald (q0 := 32) (j := x6.toNatClampNeg) (v := ((ar S 30) x6.toNatClampNeg)) b (mw_32 cy a S) (zx_r g1.1 g1.2) rfl dX12_searches_22 ?_
    refine z_iconst (v := (-1)) b dX12_searches_23 (by decide) ?_
    obtain ⟨g2, h⟩ := h
    refine y_iast (q0 := 31) (j := ((ar S 30) x6.toNatClampNeg).toNatClampNeg) b (mw_31 cy a S) (zx_r g2.1 g2.2) dX12_searches_24 (mwa_31 cy a S (((ar S 30) x6.toNatClampNeg).toNatClampNeg) (-1)) ?_
    refine z_iinc (k9 := 6) (v := (x6 + 1)) (lv' := [(6, .int (x6 + 1)), (0, .ref (a 0)), (1, .int x1), (2, .int x2), (3, .int x3), (4, .int x4), (5, .int x5)]) b dX12_searches_25 rfl rfl (by decide) rfl ?_
    refine z_goto (tgt := 3) b dX12_searches_28 (by decide) ?_
    refine z_lv0 (lv' := [(0, .ref (a 0)), (1, .int x1), (2, .int x2), (3, .int x3), (4, .int x4), (5, .int x5), (6, .int (x6 + 1))]) [1, 2, 3, 4, 5, 6, 0] rfl ?_
    exact hk3 _ _ _ _ _ _ _ h

set_option maxHeartbeats 4000000 in
set_option maxRecDepth 100000 in
theorem zl_X12_searches_L3 {p : Program} {l : Launch} {e : Env} {R : Room} {s : State} {m : MethodId} {args : Array Value} {below : List Frame} {meth : Method} {c : Code} {D : va_G} {cy : Nat → ClassId} {T0 tB tE : Nat} {A : Nat → Prop} {a : Nat → Nat} {post : GS → Prop} {k31 : GS → Int32 → Int32 → Int32 → Int32 → Int32 → Prop} (b : Bz p R s m args meth c D cy T0 tB tE A 7 cX12_searches RX12 none "searches" 5 138 0 0) (hk31 : ∀ (S : GS) (x1 : Int32) (x2 : Int32) (x3 : Int32) (x4 : Int32) (x5 : Int32), k31 S x1 x2 x3 x4 x5 → Z p l e R s m args below meth c D A 7 (MQ below (QV D (U := GS) post (mw cy a) A) args s 0 0 A) 0 0 (mw cy a S) [(0, .ref (a 0)), (1, .int x1), (2, .int x2), (3, .int x3), (4, .int x4), (5, .int x5)] 31 []) : ∀ (n : Nat) (S : GS) (x1 : Int32) (x2 : Int32) (x3 : Int32) (x4 : Int32) (x5 : Int32) (x6 : Int32), lpn (w_X12_searches_F3 post k31) (fun _ _ _ _ _ _ _ => False) n S x1 x2 x3 x4 x5 x6 → Z p l e R s m args below meth c D A 7 (MQ below (QV D (U := GS) post (mw cy a) A) args s 0 0 A) 0 0 (mw cy a S) [(0, .ref (a 0)), (1, .int x1), (2, .int x2), (3, .int x3), (4, .int x4), (5, .int x5), (6, .int x6)] 3 [] := by
  intro n
  induction n with
  | zero => intro _ _ _ _ _ _ _ h; exact h.elim
  | succ n ih => intro S x1 x2 x3 x4 x5 x6 h; exact z_X12_searches_F3 b hk31 ih S x1 x2 x3 x4 x5 x6 h

def w_X12_searches_B128 (post : GS → Prop) (k81 : GS → Int32 → Int32 → Int32 → Int32 → Int32 → Int32 → Prop) (k134 : GS → Prop) (S : GS) (x1 : Int32) (x2 : Int32) (x3 : Int32) (x4 : Int32) (x5 : Int32) (x6 : Int32) : Prop :=
  k81 S x1 x2 x3 x4 x5 (x6 + 1)

set_option maxHeartbeats 4000000 in
set_option maxRecDepth 100000 in
theorem z_X12_searches_B128 {p : Program} {l : Launch} {e : Env} {R : Room} {s : State} {m : MethodId} {args : Array Value} {below : List Frame} {meth : Method} {c : Code} {D : va_G} {cy : Nat → ClassId} {T0 tB tE : Nat} {A : Nat → Prop} {a : Nat → Nat} {post : GS → Prop} {k81 : GS → Int32 → Int32 → Int32 → Int32 → Int32 → Int32 → Prop} {k134 : GS → Prop} (b : Bz p R s m args meth c D cy T0 tB tE A 7 cX12_searches RX12 none "searches" 5 138 0 0) (hk81 : ∀ (S : GS) (x1 : Int32) (x2 : Int32) (x3 : Int32) (x4 : Int32) (x5 : Int32) (x6 : Int32), k81 S x1 x2 x3 x4 x5 x6 → Z p l e R s m args below meth c D A 7 (MQ below (QV D (U := GS) post (mw cy a) A) args s 0 0 A) 0 0 (mw cy a S) [(0, .ref (a 0)), (1, .int x1), (2, .int x2), (3, .int x3), (4, .int x4), (5, .int x5), (6, .int x6)] 81 []) (hk134 : ∀ (S : GS), k134 S → Z p l e R s m args below meth c D A 7 (MQ below (QV D (U := GS) post (mw cy a) A) args s 0 0 A) 0 0 (mw cy a S) [] 134 []) (S : GS) (x1 : Int32) (x2 : Int32) (x3 : Int32) (x4 : Int32) (x5 : Int32) (x6 : Int32) (h : w_X12_searches_B128 post k81 k134 S x1 x2 x3 x4 x5 x6) : Z p l e R s m args below meth c D A 7 (MQ below (QV D (U := GS) post (mw cy a) A) args s 0 0 A) 0 0 (mw cy a S) [(0, .ref (a 0)), (1, .int x1), (2, .int x2), (3, .int x3), (4, .int x4), (5, .int x5), (6, .int x6)] 128 [] := by
  unfold w_X12_searches_B128 at h
  refine z_iinc (k9 := 6) (v := (x6 + 1)) (lv' := [(6, .int (x6 + 1)), (0, .ref (a 0)), (1, .int x1), (2, .int x2), (3, .int x3), (4, .int x4), (5, .int x5)]) b dX12_searches_128 rfl rfl (by decide) rfl ?_
  refine z_goto (tgt := 81) b dX12_searches_131 (by decide) ?_
  refine z_lv0 (lv' := [(0, .ref (a 0)), (1, .int x1), (2, .int x2), (3, .int x3), (4, .int x4), (5, .int x5), (6, .int (x6 + 1))]) [1, 2, 3, 4, 5, 6, 0] rfl ?_
  exact hk81 _ _ _ _ _ _ _ h

def w_X12_searches_F81 (post : GS → Prop) (k134 : GS → Prop) (k81 : GS → Int32 → Int32 → Int32 → Int32 → Int32 → Int32 → Prop) (S : GS) (x1 : Int32) (x2 : Int32) (x3 : Int32) (x4 : Int32) (x5 : Int32) (x6 : Int32) : Prop :=
  (((fi S 21).toInt ≤ x6.toInt → k134 S) ∧ (x6.toInt < (fi S 21).toInt → (((fi S 22).toInt ≠ (-1) → k134 S) ∧ ((fi S 22).toInt = (-1) → (((fi S 23).toInt ≠ 0 → k134 S) ∧ ((fi S 23).toInt = 0 → (0 ≤ x6.toInt ∧ x6.toInt < 400) ∧ ((x3.toInt ≤ ((ar S 28) x6.toNatClampNeg).toInt → w_X12_searches_B128 post k81 k134 S x1 x2 x3 x4 x5 x6) ∧ (((ar S 28) x6.toNatClampNeg).toInt < x3.toInt → w_X12_goesOn S x6 x1 x2 x4 x5 (fun S7 => w_X12_searches_B128 post k81 k134 S7 x1 x2 x3 x4 x5 x6)))))))))

set_option maxHeartbeats 4000000 in
set_option maxRecDepth 100000 in
theorem z_X12_searches_F81 {p : Program} {l : Launch} {e : Env} {R : Room} {s : State} {m : MethodId} {args : Array Value} {below : List Frame} {meth : Method} {c : Code} {D : va_G} {cy : Nat → ClassId} {T0 tB tE : Nat} {A : Nat → Prop} {a : Nat → Nat} {post : GS → Prop} {k134 : GS → Prop} {k81 : GS → Int32 → Int32 → Int32 → Int32 → Int32 → Int32 → Prop} (b : Bz p R s m args meth c D cy T0 tB tE A 7 cX12_searches RX12 none "searches" 5 138 0 0) (hk134 : ∀ (S : GS), k134 S → Z p l e R s m args below meth c D A 7 (MQ below (QV D (U := GS) post (mw cy a) A) args s 0 0 A) 0 0 (mw cy a S) [] 134 []) (hk81 : ∀ (S : GS) (x1 : Int32) (x2 : Int32) (x3 : Int32) (x4 : Int32) (x5 : Int32) (x6 : Int32), k81 S x1 x2 x3 x4 x5 x6 → Z p l e R s m args below meth c D A 7 (MQ below (QV D (U := GS) post (mw cy a) A) args s 0 0 A) 0 0 (mw cy a S) [(0, .ref (a 0)), (1, .int x1), (2, .int x2), (3, .int x3), (4, .int x4), (5, .int x5), (6, .int x6)] 81 []) (S : GS) (x1 : Int32) (x2 : Int32) (x3 : Int32) (x4 : Int32) (x5 : Int32) (x6 : Int32) (h : w_X12_searches_F81 post k134 k81 S x1 x2 x3 x4 x5 x6) : Z p l e R s m args below meth c D A 7 (MQ below (QV D (U := GS) post (mw cy a) A) args s 0 0 A) 0 0 (mw cy a S) [(0, .ref (a 0)), (1, .int x1), (2, .int x2), (3, .int x3), (4, .int x4), (5, .int x5), (6, .int x6)] 81 [] := by
  unfold w_X12_searches_F81 at h
  refine z_iload b dX12_searches_81 rfl ?_
  refine z_aload_n b dX12_searches_83 rfl rfl ?_
  refine z_get (q0 := 0) (k9 := 55) (v := .int (fi S 21)) b (mw_0 cy a S) rfl in_X12 (by decide) wf_X12_405 rfl dX12_searches_84 ?_
  refine y_icmp_ge (tgt := 134) (xl := x6.toInt) (yl := (fi S 21).toInt) b rfl rfl dX12_searches_87 (by decide) (fun c1 => ?_) (fun c1 => ?_)
  · replace h := h.1 c1
    refine z_lv0 (lv' := []) [] rfl ?_
    exact hk134 _ h
  · replace h := h.2 c1
    refine z_aload_n b dX12_searches_90 rfl rfl ?_
    refine z_get (q0 := 0) (k9 := 56) (v := .int (fi S 22)) b (mw_0 cy a S) rfl in_X12 (by decide) wf_X12_411 rfl dX12_searches_91 ?_
    refine z_iconst (v := (-1)) b dX12_searches_94 (by decide) ?_
    refine y_icmp_ne (tgt := 134) (xl := (fi S 22).toInt) (yl := (-1)) b rfl (by decide) dX12_searches_95 (by decide) (fun c1 => ?_) (fun c1 => ?_)
    · replace h := h.1 c1
      refine z_lv0 (lv' := []) [] rfl ?_
      exact hk134 _ h
    · replace h := h.2 c1
      refine z_aload_n b dX12_searches_98 rfl rfl ?_
      refine z_get (q0 := 0) (k9 := 57) (v := .int (fi S 23)) b (mw_0 cy a S) rfl in_X12 (by decide) wf_X12_408 rfl dX12_searches_99 ?_
      refine y_if_ne (tgt := 134) (xl := (fi S 23).toInt) b rfl dX12_searches_102 (by decide) (fun c1 => ?_) (fun c1 => ?_)
      · replace h := h.1 c1
        refine z_lv0 (lv' := []) [] rfl ?_
        exact hk134 _ h
      · replace h := h.2 c1
        refine z_aload_n b dX12_searches_105 rfl rfl ?_
        refine z_get (q0 := 0) (k9 := 52) (v := .ref (a 30)) b (mw_0 cy a S) rfl in_X12 (by decide) wf_X12_107 rfl dX12_searches_106 ?_
        refine z_iload b dX12_searches_109 rfl ?_
        obtain ⟨g5, h⟩ := h
        refine y_iald (q0 := 30) (j := x6.toNatClampNeg) (v := ((ar S 28) x6.toNatClampNeg)) b (mw_30 cy a S) (zx_r g5.1 g5.2) rfl dX12_searches_111 ?_
        refine z_iload_n b dX12_searches_112 rfl rfl ?_
        refine y_icmp_ge (tgt := 128) (xl := ((ar S 28) x6.toNatClampNeg).toInt) (yl := x3.toInt) b rfl rfl dX12_searches_113 (by decide) (fun c1 => ?_) (fun c1 => ?_)
        · replace h := h.1 c1
          exact z_X12_searches_B128 b hk81 hk134 _ _ _ _ _ _ _ h
        · replace h := h.2 c1
          refine z_aload_n b dX12_searches_116 rfl rfl ?_
          refine z_iload b dX12_searches_117 rfl ?_
          refine z_iload_n b dX12_searches_119 rfl rfl ?_
          refine z_iload_n b dX12_searches_120 rfl rfl ?_
          refine z_iload b dX12_searches_121 rfl ?_
          refine z_iload b dX12_searches_123 rfl ?_
          refine z_callv b (z_runV (q0 := 0) (As := [.int x6, .int x1, .int x2, .int x4, .int x5]) (st := []) b (k_X12_goesOn S x6 x1 x2 x4 x5 _ h) cf_X12_goesOn (mw_0 cy a S) rfl wm_X12_422 wi_X12_goesOn ws_X12_goesOn dX12_searches_125 rfl (Nat.le_of_ble_eq_true rfl) ⟨by decide, by decide, by decide, by decide⟩) (fun S7 h => ?_)
          exact z_X12_searches_B128 b hk81 hk134 _ _ _ _ _ _ _ h

set_option maxHeartbeats 4000000 in
set_option maxRecDepth 100000 in
theorem zl_X12_searches_L81 {p : Program} {l : Launch} {e : Env} {R : Room} {s : State} {m : MethodId} {args : Array Value} {below : List Frame} {meth : Method} {c : Code} {D : va_G} {cy : Nat → ClassId} {T0 tB tE : Nat} {A : Nat → Prop} {a : Nat → Nat} {post : GS → Prop} {k134 : GS → Prop} (b : Bz p R s m args meth c D cy T0 tB tE A 7 cX12_searches RX12 none "searches" 5 138 0 0) (hk134 : ∀ (S : GS), k134 S → Z p l e R s m args below meth c D A 7 (MQ below (QV D (U := GS) post (mw cy a) A) args s 0 0 A) 0 0 (mw cy a S) [] 134 []) : ∀ (n : Nat) (S : GS) (x1 : Int32) (x2 : Int32) (x3 : Int32) (x4 : Int32) (x5 : Int32) (x6 : Int32), lpn (w_X12_searches_F81 post k134) (fun _ _ _ _ _ _ _ => False) n S x1 x2 x3 x4 x5 x6 → Z p l e R s m args below meth c D A 7 (MQ below (QV D (U := GS) post (mw cy a) A) args s 0 0 A) 0 0 (mw cy a S) [(0, .ref (a 0)), (1, .int x1), (2, .int x2), (3, .int x3), (4, .int x4), (5, .int x5), (6, .int x6)] 81 [] := by
  intro n
  induction n with
  | zero => intro _ _ _ _ _ _ _ h; exact h.elim
  | succ n ih => intro S x1 x2 x3 x4 x5 x6 h; exact z_X12_searches_F81 b hk134 ih S x1 x2 x3 x4 x5 x6 h

def w_X12_searches_B134 (post : GS → Prop) (S : GS)  : Prop :=
  post S

set_option maxHeartbeats 4000000 in
set_option maxRecDepth 100000 in
theorem z_X12_searches_B134 {p : Program} {l : Launch} {e : Env} {R : Room} {s : State} {m : MethodId} {args : Array Value} {below : List Frame} {meth : Method} {c : Code} {D : va_G} {cy : Nat → ClassId} {T0 tB tE : Nat} {A : Nat → Prop} {a : Nat → Nat} {post : GS → Prop} (b : Bz p R s m args meth c D cy T0 tB tE A 7 cX12_searches RX12 none "searches" 5 138 0 0) (S : GS)  (h : w_X12_searches_B134 post S ) : Z p l e R s m args below meth c D A 7 (MQ below (QV D (U := GS) post (mw cy a) A) args s 0 0 A) 0 0 (mw cy a S) [] 134 [] := by
  unfold w_X12_searches_B134 at h
  exact z_vret (u := S) b rfl dX12_searches_134 h rfl (by decide) (by decide)

def w_X12_searches_B78 (post : GS → Prop) (S : GS) (x1 : Int32) (x2 : Int32) (x3 : Int32) (x4 : Int32) (x5 : Int32) : Prop :=
  ∃ n, lpn (w_X12_searches_F81 post (w_X12_searches_B134 post)) (fun _ _ _ _ _ _ _ => False) n S x1 x2 x3 x4 x5 0

set_option maxHeartbeats 4000000 in
set_option maxRecDepth 100000 in
theorem z_X12_searches_B78 {p : Program} {l : Launch} {e : Env} {R : Room} {s : State} {m : MethodId} {args : Array Value} {below : List Frame} {meth : Method} {c : Code} {D : va_G} {cy : Nat → ClassId} {T0 tB tE : Nat} {A : Nat → Prop} {a : Nat → Nat} {post : GS → Prop} (b : Bz p R s m args meth c D cy T0 tB tE A 7 cX12_searches RX12 none "searches" 5 138 0 0) (S : GS) (x1 : Int32) (x2 : Int32) (x3 : Int32) (x4 : Int32) (x5 : Int32) (h : w_X12_searches_B78 post S x1 x2 x3 x4 x5) : Z p l e R s m args below meth c D A 7 (MQ below (QV D (U := GS) post (mw cy a) A) args s 0 0 A) 0 0 (mw cy a S) [(0, .ref (a 0)), (1, .int x1), (2, .int x2), (3, .int x3), (4, .int x4), (5, .int x5)] 78 [] := by
  unfold w_X12_searches_B78 at h
  refine z_iconst (v := 0) b dX12_searches_78 (by decide) ?_
  refine z_istore (lv' := [(6, .int 0), (0, .ref (a 0)), (1, .int x1), (2, .int x2), (3, .int x3), (4, .int x4), (5, .int x5)]) b dX12_searches_79 (by decide) rfl ?_
  refine z_lv0 (lv' := [(0, .ref (a 0)), (1, .int x1), (2, .int x2), (3, .int x3), (4, .int x4), (5, .int x5), (6, .int 0)]) [1, 2, 3, 4, 5, 6, 0] rfl ?_
  obtain ⟨n, h⟩ := h
  exact zl_X12_searches_L81 b (fun S h => z_X12_searches_B134 b _ h) n _ _ _ _ _ _ _ h

def w_X12_searches_B31 (post : GS → Prop) (S : GS) (x1 : Int32) (x2 : Int32) (x3 : Int32) (x4 : Int32) (x5 : Int32) : Prop :=
  w_X12_meets (si (si (si S 21 0) 23 0) 22 (-1)) (fl S 0) (-1) (-1) (fun S4 => ((x1.toInt = (-1) → w_X12_searches_B78 post S4 x1 x2 x3 x4 x5) ∧ (x1.toInt ≠ (-1) → w_X12_isNever S4 (fl S4 0) x1 (fun r8 S9 => ((r8.toInt = 0 → w_X12_searches_B78 post S9 x1 x2 x3 x4 x5) ∧ (r8.toInt ≠ 0 → w_X12_searches_B78 post (si S9 22 0) x1 x2 x3 x4 x5))))))

set_option maxHeartbeats 4000000 in
set_option maxRecDepth 100000 in
theorem z_X12_searches_B31 {p : Program} {l : Launch} {e : Env} {R : Room} {s : State} {m : MethodId} {args : Array Value} {below : List Frame} {meth : Method} {c : Code} {D : va_G} {cy : Nat → ClassId} {T0 tB tE : Nat} {A : Nat → Prop} {a : Nat → Nat} {post : GS → Prop} (b : Bz p R s m args meth c D cy T0 tB tE A 7 cX12_searches RX12 none "searches" 5 138 0 0) (S : GS) (x1 : Int32) (x2 : Int32) (x3 : Int32) (x4 : Int32) (x5 : Int32) (h : w_X12_searches_B31 post S x1 x2 x3 x4 x5) : Z p l e R s m args below meth c D A 7 (MQ below (QV D (U := GS) post (mw cy a) A) args s 0 0 A) 0 0 (mw cy a S) [(0, .ref (a 0)), (1, .int x1), (2, .int x2), (3, .int x3), (4, .int x4), (5, .int x5)] 31 [] := by
  unfold w_X12_searches_B31 at h
  refine z_aload_n b dX12_searches_31 rfl rfl ?_
  refine z_iconst (v := 0) b dX12_searches_32 (by decide) ?_
  refine z_put (q0 := 0) (k9 := 55) tyX12 b (mw_0 cy a S) rfl in_X12 tyX12_ok nmX12 (by decide) wf_X12_405 rfl rfl rfl rfl (Nat.le_of_ble_eq_true rfl) dX12_searches_33 (mwp_0_55 cy a S 0) ?_
  refine z_aload_n b dX12_searches_36 rfl rfl ?_
  refine z_iconst (v := 0) b dX12_searches_37 (by decide) ?_
  refine z_put (q0 := 0) (k9 := 57) tyX12 b (mw_0 cy a (si S 21 0)) rfl in_X12 tyX12_ok nmX12 (by decide) wf_X12_408 rfl rfl rfl rfl (Nat.le_of_ble_eq_true rfl) dX12_searches_38 (mwp_0_57 cy a (si S 21 0) 0) ?_
  refine z_aload_n b dX12_searches_41 rfl rfl ?_
  refine z_iconst (v := (-1)) b dX12_searches_42 (by decide) ?_
  refine z_put (q0 := 0) (k9 := 56) tyX12 b (mw_0 cy a (si (si S 21 0) 23 0)) rfl in_X12 tyX12_ok nmX12 (by decide) wf_X12_411 rfl rfl rfl rfl (Nat.le_of_ble_eq_true rfl) dX12_searches_43 (mwp_0_56 cy a (si (si S 21 0) 23 0) (-1)) ?_
  refine z_aload_n b dX12_searches_46 rfl rfl ?_
  refine z_aload_n b dX12_searches_47 rfl rfl ?_
  refine z_get (q0 := 0) (k9 := 6) (v := .long (fl S 0)) b (mw_0 cy a (si (si (si S 21 0) 23 0) 22 (-1))) rfl in_X12 (by decide) wf_X12_153 rfl dX12_searches_48 ?_
  refine z_iconst (v := (-1)) b dX12_searches_51 (by decide) ?_
  refine z_iconst (v := (-1)) b dX12_searches_52 (by decide) ?_
  refine z_callv b (z_runV (q0 := 0) (As := [.long (fl S 0), .int (-1), .int (-1)]) (st := []) b (k_X12_meets (si (si (si S 21 0) 23 0) 22 (-1)) (fl S 0) (-1) (-1) _ h) cf_X12_meets (mw_0 cy a (si (si (si S 21 0) 23 0) 22 (-1))) rfl wm_X12_414 wi_X12_meets ws_X12_meets dX12_searches_53 rfl (Nat.le_of_ble_eq_true rfl) ⟨by decide, by decide, by decide, by decide⟩) (fun S4 h => ?_)
  refine z_iload_n b dX12_searches_56 rfl rfl ?_
  refine z_iconst (v := (-1)) b dX12_searches_57 (by decide) ?_
  refine y_icmp_eq (tgt := 78) (xl := x1.toInt) (yl := (-1)) b rfl (by decide) dX12_searches_58 (by decide) (fun c1 => ?_) (fun c1 => ?_)
  · replace h := h.1 c1
    exact z_X12_searches_B78 b _ _ _ _ _ _ h
  · replace h := h.2 c1
    refine z_aload_n b dX12_searches_61 rfl rfl ?_
    refine z_aload_n b dX12_searches_62 rfl rfl ?_
    refine z_get (q0 := 0) (k9 := 6) (v := .long (fl S4 0)) b (mw_0 cy a S4) rfl in_X12 (by decide) wf_X12_153 rfl dX12_searches_63 ?_
    refine z_iload_n b dX12_searches_66 rfl rfl ?_
    refine z_calli b (z_runV (q0 := 0) (As := [.long (fl S4 0), .int x1]) (st := []) b (k_X12_isNever S4 (fl S4 0) x1 _ h) cf_X12_isNever (mw_0 cy a S4) rfl wm_X12_418 wi_X12_isNever ws_X12_isNever dX12_searches_67 rfl (Nat.le_of_ble_eq_true rfl) ⟨by decide, by decide, by decide, by decide⟩) (fun r8 S9 h => ?_)
    refine y_if_eq (tgt := 78) (xl := r8.toInt) b rfl dX12_searches_70 (by decide) (fun c1 => ?_) (fun c1 => ?_)
    · replace h := h.1 c1
      exact z_X12_searches_B78 b _ _ _ _ _ _ h
    · replace h := h.2 c1
      refine z_aload_n b dX12_searches_73 rfl rfl ?_
      refine z_iconst (v := 0) b dX12_searches_74 (by decide) ?_
      refine z_put (q0 := 0) (k9 := 56) tyX12 b (mw_0 cy a S9) rfl in_X12 tyX12_ok nmX12 (by decide) wf_X12_411 rfl rfl rfl rfl (Nat.le_of_ble_eq_true rfl) dX12_searches_75 (mwp_0_56 cy a S9 0) ?_
      exact z_X12_searches_B78 b _ _ _ _ _ _ h

def w_X12_searches (S : GS) (p0 : Int32) (p1 : Int32) (p2 : Int32) (p3 : Int32) (p4 : Int32) (post : GS → Prop) : Prop :=
  ∃ n, lpn (w_X12_searches_F3 post (w_X12_searches_B31 post)) (fun _ _ _ _ _ _ _ => False) n S p0 p1 p2 p3 p4 0

set_option maxHeartbeats 4000000 in
set_option maxRecDepth 100000 in
theorem k_X12_searches {l : Launch} {D : va_G} {cy : Nat → ClassId} {T0 tB tE : Nat} {a : Nat → Nat} (S : GS) (p0 : Int32) (p1 : Int32) (p2 : Int32) (p3 : Int32) (p4 : Int32) (post : GS → Prop) (h : w_X12_searches S p0 p1 p2 p3 p4 post) : Ct l D cy T0 tB tE yX12_searches cX12_searches 7 none 5 138 0 0 (mw cy a S) [.ref (a 0), .int p0, .int p1, .int p2, .int p3, .int p4] (QV D (U := GS) post (mw cy a)) := by
  refine Ct.ofZ RX12 "searches" [(0, .ref (a 0)), (1, .int p0), (2, .int p1), (3, .int p2), (4, .int p3), (5, .int p4)] rfl rfl rfl rfl (Nat.le_of_ble_eq_true rfl) ?_
  intro p e R s m args below meth c A b
  unfold w_X12_searches at h
  refine z_iconst (v := 0) b dX12_searches_0 (by decide) ?_
  refine z_istore (lv' := [(6, .int 0), (0, .ref (a 0)), (1, .int p0), (2, .int p1), (3, .int p2), (4, .int p3), (5, .int p4)]) b dX12_searches_1 (by decide) rfl ?_
  refine z_lv0 (lv' := [(0, .ref (a 0)), (1, .int p0), (2, .int p1), (3, .int p2), (4, .int p3), (5, .int p4), (6, .int 0)]) [1, 2, 3, 4, 5, 6, 0] rfl ?_
  obtain ⟨n, h⟩ := h
  exact zl_X12_searches_L3 b (fun S x1 x2 x3 x4 x5 h => z_X12_searches_B31 b _ _ _ _ _ _ h) n _ _ _ _ _ _ _ h

def w_X12_friends_B17 (post : Int32 → GS → Prop) (S : GS)  : Prop :=
  post (-1) S

set_option maxHeartbeats 4000000 in
set_option maxRecDepth 100000 in
theorem z_X12_friends_B17 {p : Program} {l : Launch} {e : Env} {R : Room} {s : State} {m : MethodId} {args : Array Value} {below : List Frame} {meth : Method} {c : Code} {D : va_G} {cy : Nat → ClassId} {T0 tB tE : Nat} {A : Nat → Prop} {a : Nat → Nat} {post : Int32 → GS → Prop} (b : Bz p R s m args meth c D cy T0 tB tE A 6 cX12_friends RX12 (some .int) "friends" 6 164 0 0) (S : GS)  (h : w_X12_friends_B17 post S ) : Z p l e R s m args below meth c D A 6 (MQ below (QI D (U := GS) post (mw cy a) A) args s 0 0 A) 0 0 (mw cy a S) [] 17 [] := by
  unfold w_X12_friends_B17 at h
  refine z_iconst (v := (-1)) b dX12_friends_17 (by decide) ?_
  exact z_iret (u := S) b rfl dX12_friends_18 h rfl (by decide) (by decide)

def w_X12_friends_B72 (post : Int32 → GS → Prop) (k31 : GS → Int32 → Int32 → Int32 → Int32 → Int32 → Prop) (k78 : GS → Int32 → Int32 → Int32 → Int32 → Prop) (S : GS) (x1 : Int32) (x2 : Int32) (x3 : Int32) (x4 : Int32) (x5 : Int32) : Prop :=
  k31 S x1 x2 x3 x4 (x5 + 1)

set_option maxHeartbeats 4000000 in
set_option maxRecDepth 100000 in
theorem z_X12_friends_B72 {p : Program} {l : Launch} {e : Env} {R : Room} {s : State} {m : MethodId} {args : Array Value} {below : List Frame} {meth : Method} {c : Code} {D : va_G} {cy : Nat → ClassId} {T0 tB tE : Nat} {A : Nat → Prop} {a : Nat → Nat} {post : Int32 → GS → Prop} {k31 : GS → Int32 → Int32 → Int32 → Int32 → Int32 → Prop} {k78 : GS → Int32 → Int32 → Int32 → Int32 → Prop} (b : Bz p R s m args meth c D cy T0 tB tE A 6 cX12_friends RX12 (some .int) "friends" 6 164 0 0) (hk31 : ∀ (S : GS) (x1 : Int32) (x2 : Int32) (x3 : Int32) (x4 : Int32) (x5 : Int32), k31 S x1 x2 x3 x4 x5 → Z p l e R s m args below meth c D A 6 (MQ below (QI D (U := GS) post (mw cy a) A) args s 0 0 A) 0 0 (mw cy a S) [(0, .ref (a 0)), (1, .int x1), (2, .int x2), (3, .int x3), (4, .int x4), (5, .int x5)] 31 []) (hk78 : ∀ (S : GS) (x1 : Int32) (x2 : Int32) (x3 : Int32) (x4 : Int32), k78 S x1 x2 x3 x4 → Z p l e R s m args below meth c D A 6 (MQ below (QI D (U := GS) post (mw cy a) A) args s 0 0 A) 0 0 (mw cy a S) [(0, .ref (a 0)), (1, .int x1), (2, .int x2), (3, .int x3), (4, .int x4)] 78 []) (S : GS) (x1 : Int32) (x2 : Int32) (x3 : Int32) (x4 : Int32) (x5 : Int32) (h : w_X12_friends_B72 post k31 k78 S x1 x2 x3 x4 x5) : Z p l e R s m args below meth c D A 6 (MQ below (QI D (U := GS) post (mw cy a) A) args s 0 0 A) 0 0 (mw cy a S) [(0, .ref (a 0)), (1, .int x1), (2, .int x2), (3, .int x3), (4, .int x4), (5, .int x5)] 72 [] := by
  unfold w_X12_friends_B72 at h
  refine z_iinc (k9 := 5) (v := (x5 + 1)) (lv' := [(5, .int (x5 + 1)), (0, .ref (a 0)), (1, .int x1), (2, .int x2), (3, .int x3), (4, .int x4)]) b dX12_friends_72 rfl rfl (by decide) rfl ?_
  refine z_goto (tgt := 31) b dX12_friends_75 (by decide) ?_
  refine z_lv0 (lv' := [(0, .ref (a 0)), (1, .int x1), (2, .int x2), (3, .int x3), (4, .int x4), (5, .int (x5 + 1))]) [1, 2, 3, 4, 5, 0] rfl ?_
  exact hk31 _ _ _ _ _ _ h

def w_X12_friends_F31 (post : Int32 → GS → Prop) (k78 : GS → Int32 → Int32 → Int32 → Int32 → Prop) (k31 : GS → Int32 → Int32 → Int32 → Int32 → Int32 → Prop) (S : GS) (x1 : Int32) (x2 : Int32) (x3 : Int32) (x4 : Int32) (x5 : Int32) : Prop :=
  ((8 ≤ x5.toInt → k78 S x1 x2 x3 x4) ∧ (x5.toInt < 8 → w_X12_bits S x5 (fun r5 S6 => ((r5.toInt = x4.toInt → w_X12_searches S6 x1 x2 x3 x5 0 (fun S8 => (((fi S8 22).toInt = (-1) → w_X12_friends_B72 post k31 k78 S8 x1 x2 x3 x4 x5) ∧ ((fi S8 22).toInt ≠ (-1) → post x5 S8)))) ∧ (r5.toInt ≠ x4.toInt → w_X12_friends_B72 post k31 k78 S6 x1 x2 x3 x4 x5)))))

set_option maxHeartbeats 4000000 in
set_option maxRecDepth 100000 in
theorem z_X12_friends_F31 {p : Program} {l : Launch} {e : Env} {R : Room} {s : State} {m : MethodId} {args : Array Value} {below : List Frame} {meth : Method} {c : Code} {D : va_G} {cy : Nat → ClassId} {T0 tB tE : Nat} {A : Nat → Prop} {a : Nat → Nat} {post : Int32 → GS → Prop} {k78 : GS → Int32 → Int32 → Int32 → Int32 → Prop} {k31 : GS → Int32 → Int32 → Int32 → Int32 → Int32 → Prop} (b : Bz p R s m args meth c D cy T0 tB tE A 6 cX12_friends RX12 (some .int) "friends" 6 164 0 0) (hk78 : ∀ (S : GS) (x1 : Int32) (x2 : Int32) (x3 : Int32) (x4 : Int32), k78 S x1 x2 x3 x4 → Z p l e R s m args below meth c D A 6 (MQ below (QI D (U := GS) post (mw cy a) A) args s 0 0 A) 0 0 (mw cy a S) [(0, .ref (a 0)), (1, .int x1), (2, .int x2), (3, .int x3), (4, .int x4)] 78 []) (hk31 : ∀ (S : GS) (x1 : Int32) (x2 : Int32) (x3 : Int32) (x4 : Int32) (x5 : Int32), k31 S x1 x2 x3 x4 x5 → Z p l e R s m args below meth c D A 6 (MQ below (QI D (U := GS) post (mw cy a) A) args s 0 0 A) 0 0 (mw cy a S) [(0, .ref (a 0)), (1, .int x1), (2, .int x2), (3, .int x3), (4, .int x4), (5, .int x5)] 31 []) (S : GS) (x1 : Int32) (x2 : Int32) (x3 : Int32) (x4 : Int32) (x5 : Int32) (h : w_X12_friends_F31 post k78 k31 S x1 x2 x3 x4 x5) : Z p l e R s m args below meth c D A 6 (MQ below (QI D (U := GS) post (mw cy a) A) args s 0 0 A) 0 0 (mw cy a S) [(0, .ref (a 0)), (1, .int x1), (2, .int x2), (3, .int x3), (4, .int x4), (5, .int x5)] 31 [] := by
  unfold w_X12_friends_F31 at h
  refine z_iload b dX12_friends_31 rfl ?_
  refine z_bipush (v := 8) b dX12_friends_33 (by decide) ?_
  refine y_icmp_ge (tgt := 78) (xl := x5.toInt) (yl := 8) b rfl (by decide) dX12_friends_35 (by decide) (fun c1 => ?_) (fun c1 => ?_)
  · replace h := h.1 c1
    refine z_lv0 (lv' := [(0, .ref (a 0)), (1, .int x1), (2, .int x2), (3, .int x3), (4, .int x4)]) [0, 1, 2, 3, 4] rfl ?_
    exact hk78 _ _ _ _ _ h
  · replace h := h.2 c1
    refine z_iload b dX12_friends_38 rfl ?_
    refine z_calli b (z_runS (As := [.int x5]) (st := []) b (k_X12_bits S x5 _ h) cf_X12_bits wm_X12_442 ws_X12_bits dX12_friends_40 rfl (Nat.le_of_ble_eq_true rfl) ⟨by decide, by decide, by decide, by decide⟩) (fun r5 S6 h => ?_)
    refine z_iload b dX12_friends_43 rfl ?_
    refine y_icmp_eq (tgt := 51) (xl := r5.toInt) (yl := x4.toInt) b rfl rfl dX12_friends_45 (by decide) (fun c1 => ?_) (fun c1 => ?_)
    · replace h := h.1 c1
      refine z_aload_n b dX12_friends_51 rfl rfl ?_
      refine z_iload_n b dX12_friends_52 rfl rfl ?_
      refine z_iload_n b dX12_friends_53 rfl rfl ?_
      refine z_iload_n b dX12_friends_54 rfl rfl ?_
      refine z_iload b dX12_friends_55 rfl ?_
      refine z_iconst (v := 0) b dX12_friends_57 (by decide) ?_
      refine z_callv b (z_runV (q0 := 0) (As := [.int x1, .int x2, .int x3, .int x5, .int 0]) (st := []) b (k_X12_searches S6 x1 x2 x3 x5 0 _ h) cf_X12_searches (mw_0 cy a S6) rfl wm_X12_436 wi_X12_searches ws_X12_searches dX12_friends_58 rfl (Nat.le_of_ble_eq_true rfl) ⟨by decide, by decide, by decide, by decide⟩) (fun S8 h => ?_)
      refine z_aload_n b dX12_friends_61 rfl rfl ?_
      refine z_get (q0 := 0) (k9 := 56) (v := .int (fi S8 22)) b (mw_0 cy a S8) rfl in_X12 (by decide) wf_X12_411 rfl dX12_friends_62 ?_
      refine z_iconst (v := (-1)) b dX12_friends_65 (by decide) ?_
      refine y_icmp_eq (tgt := 72) (xl := (fi S8 22).toInt) (yl := (-1)) b rfl (by decide) dX12_friends_66 (by decide) (fun c1 => ?_) (fun c1 => ?_)
      · replace h := h.1 c1
        exact z_X12_friends_B72 b hk31 hk78 _ _ _ _ _ _ h
      · replace h := h.2 c1
        refine z_iload b dX12_friends_69 rfl ?_
        exact z_iret (u := S8) b rfl dX12_friends_71 h rfl (by decide) (by decide)
    · replace h := h.2 c1
      refine z_goto (tgt := 72) b dX12_friends_48 (by decide) ?_
      exact z_X12_friends_B72 b hk31 hk78 _ _ _ _ _ _ h

set_option maxHeartbeats 4000000 in
set_option maxRecDepth 100000 in
theorem zl_X12_friends_L31 {p : Program} {l : Launch} {e : Env} {R : Room} {s : State} {m : MethodId} {args : Array Value} {below : List Frame} {meth : Method} {c : Code} {D : va_G} {cy : Nat → ClassId} {T0 tB tE : Nat} {A : Nat → Prop} {a : Nat → Nat} {post : Int32 → GS → Prop} {k78 : GS → Int32 → Int32 → Int32 → Int32 → Prop} (b : Bz p R s m args meth c D cy T0 tB tE A 6 cX12_friends RX12 (some .int) "friends" 6 164 0 0) (hk78 : ∀ (S : GS) (x1 : Int32) (x2 : Int32) (x3 : Int32) (x4 : Int32), k78 S x1 x2 x3 x4 → Z p l e R s m args below meth c D A 6 (MQ below (QI D (U := GS) post (mw cy a) A) args s 0 0 A) 0 0 (mw cy a S) [(0, .ref (a 0)), (1, .int x1), (2, .int x2), (3, .int x3), (4, .int x4)] 78 []) : ∀ (n : Nat) (S : GS) (x1 : Int32) (x2 : Int32) (x3 : Int32) (x4 : Int32) (x5 : Int32), lpn (w_X12_friends_F31 post k78) (fun _ _ _ _ _ _ => False) n S x1 x2 x3 x4 x5 → Z p l e R s m args below meth c D A 6 (MQ below (QI D (U := GS) post (mw cy a) A) args s 0 0 A) 0 0 (mw cy a S) [(0, .ref (a 0)), (1, .int x1), (2, .int x2), (3, .int x3), (4, .int x4), (5, .int x5)] 31 [] := by
  intro n
  induction n with
  | zero => intro _ _ _ _ _ _ h; exact h.elim
  | succ n ih => intro S x1 x2 x3 x4 x5 h; exact z_X12_friends_F31 b hk78 ih S x1 x2 x3 x4 x5 h

def w_X12_friends_B78 (post : Int32 → GS → Prop) (k22 : GS → Int32 → Int32 → Int32 → Int32 → Prop) (k84 : GS → Prop) (S : GS) (x1 : Int32) (x2 : Int32) (x3 : Int32) (x4 : Int32) : Prop :=
  k22 S x1 x2 x3 (x4 + 1)

set_option maxHeartbeats 4000000 in
set_option maxRecDepth 100000 in
theorem z_X12_friends_B78 {p : Program} {l : Launch} {e : Env} {R : Room} {s : State} {m : MethodId} {args : Array Value} {below : List Frame} {meth : Method} {c : Code} {D : va_G} {cy : Nat → ClassId} {T0 tB tE : Nat} {A : Nat → Prop} {a : Nat → Nat} {post : Int32 → GS → Prop} {k22 : GS → Int32 → Int32 → Int32 → Int32 → Prop} {k84 : GS → Prop} (b : Bz p R s m args meth c D cy T0 tB tE A 6 cX12_friends RX12 (some .int) "friends" 6 164 0 0) (hk22 : ∀ (S : GS) (x1 : Int32) (x2 : Int32) (x3 : Int32) (x4 : Int32), k22 S x1 x2 x3 x4 → Z p l e R s m args below meth c D A 6 (MQ below (QI D (U := GS) post (mw cy a) A) args s 0 0 A) 0 0 (mw cy a S) [(0, .ref (a 0)), (1, .int x1), (2, .int x2), (3, .int x3), (4, .int x4)] 22 []) (hk84 : ∀ (S : GS), k84 S → Z p l e R s m args below meth c D A 6 (MQ below (QI D (U := GS) post (mw cy a) A) args s 0 0 A) 0 0 (mw cy a S) [] 84 []) (S : GS) (x1 : Int32) (x2 : Int32) (x3 : Int32) (x4 : Int32) (h : w_X12_friends_B78 post k22 k84 S x1 x2 x3 x4) : Z p l e R s m args below meth c D A 6 (MQ below (QI D (U := GS) post (mw cy a) A) args s 0 0 A) 0 0 (mw cy a S) [(0, .ref (a 0)), (1, .int x1), (2, .int x2), (3, .int x3), (4, .int x4)] 78 [] := by
  unfold w_X12_friends_B78 at h
  refine z_iinc (k9 := 4) (v := (x4 + 1)) (lv' := [(4, .int (x4 + 1)), (0, .ref (a 0)), (1, .int x1), (2, .int x2), (3, .int x3)]) b dX12_friends_78 rfl rfl (by decide) rfl ?_
  refine z_goto (tgt := 22) b dX12_friends_81 (by decide) ?_
  refine z_lv0 (lv' := [(0, .ref (a 0)), (1, .int x1), (2, .int x2), (3, .int x3), (4, .int (x4 + 1))]) [1, 2, 3, 4, 0] rfl ?_
  exact hk22 _ _ _ _ _ h

def w_X12_friends_F22 (post : Int32 → GS → Prop) (k84 : GS → Prop) (k22 : GS → Int32 → Int32 → Int32 → Int32 → Prop) (S : GS) (x1 : Int32) (x2 : Int32) (x3 : Int32) (x4 : Int32) : Prop :=
  ((4 ≤ x4.toInt → k84 S) ∧ (x4.toInt < 4 → ∃ n, lpn (w_X12_friends_F31 post (w_X12_friends_B78 post k22 k84)) (fun _ _ _ _ _ _ => False) n S x1 x2 x3 x4 1))

set_option maxHeartbeats 4000000 in
set_option maxRecDepth 100000 in
theorem z_X12_friends_F22 {p : Program} {l : Launch} {e : Env} {R : Room} {s : State} {m : MethodId} {args : Array Value} {below : List Frame} {meth : Method} {c : Code} {D : va_G} {cy : Nat → ClassId} {T0 tB tE : Nat} {A : Nat → Prop} {a : Nat → Nat} {post : Int32 → GS → Prop} {k84 : GS → Prop} {k22 : GS → Int32 → Int32 → Int32 → Int32 → Prop} (b : Bz p R s m args meth c D cy T0 tB tE A 6 cX12_friends RX12 (some .int) "friends" 6 164 0 0) (hk84 : ∀ (S : GS), k84 S → Z p l e R s m args below meth c D A 6 (MQ below (QI D (U := GS) post (mw cy a) A) args s 0 0 A) 0 0 (mw cy a S) [] 84 []) (hk22 : ∀ (S : GS) (x1 : Int32) (x2 : Int32) (x3 : Int32) (x4 : Int32), k22 S x1 x2 x3 x4 → Z p l e R s m args below meth c D A 6 (MQ below (QI D (U := GS) post (mw cy a) A) args s 0 0 A) 0 0 (mw cy a S) [(0, .ref (a 0)), (1, .int x1), (2, .int x2), (3, .int x3), (4, .int x4)] 22 []) (S : GS) (x1 : Int32) (x2 : Int32) (x3 : Int32) (x4 : Int32) (h : w_X12_friends_F22 post k84 k22 S x1 x2 x3 x4) : Z p l e R s m args below meth c D A 6 (MQ below (QI D (U := GS) post (mw cy a) A) args s 0 0 A) 0 0 (mw cy a S) [(0, .ref (a 0)), (1, .int x1), (2, .int x2), (3, .int x3), (4, .int x4)] 22 [] := by
  unfold w_X12_friends_F22 at h
  refine z_iload b dX12_friends_22 rfl ?_
  refine z_iconst (v := 4) b dX12_friends_24 (by decide) ?_
  refine y_icmp_ge (tgt := 84) (xl := x4.toInt) (yl := 4) b rfl (by decide) dX12_friends_25 (by decide) (fun c1 => ?_) (fun c1 => ?_)
  · replace h := h.1 c1
    refine z_lv0 (lv' := []) [] rfl ?_
    exact hk84 _ h
  · replace h := h.2 c1
    refine z_iconst (v := 1) b dX12_friends_28 (by decide) ?_
    refine z_istore (lv' := [(5, .int 1), (0, .ref (a 0)), (1, .int x1), (2, .int x2), (3, .int x3), (4, .int x4)]) b dX12_friends_29 (by decide) rfl ?_
    refine z_lv0 (lv' := [(0, .ref (a 0)), (1, .int x1), (2, .int x2), (3, .int x3), (4, .int x4), (5, .int 1)]) [1, 2, 3, 4, 5, 0] rfl ?_
    obtain ⟨n, h⟩ := h
    exact zl_X12_friends_L31 b (fun S x1 x2 x3 x4 h => z_X12_friends_B78 b hk22 hk84 _ _ _ _ _ h) n _ _ _ _ _ _ h

set_option maxHeartbeats 4000000 in
set_option maxRecDepth 100000 in
theorem zl_X12_friends_L22 {p : Program} {l : Launch} {e : Env} {R : Room} {s : State} {m : MethodId} {args : Array Value} {below : List Frame} {meth : Method} {c : Code} {D : va_G} {cy : Nat → ClassId} {T0 tB tE : Nat} {A : Nat → Prop} {a : Nat → Nat} {post : Int32 → GS → Prop} {k84 : GS → Prop} (b : Bz p R s m args meth c D cy T0 tB tE A 6 cX12_friends RX12 (some .int) "friends" 6 164 0 0) (hk84 : ∀ (S : GS), k84 S → Z p l e R s m args below meth c D A 6 (MQ below (QI D (U := GS) post (mw cy a) A) args s 0 0 A) 0 0 (mw cy a S) [] 84 []) : ∀ (n : Nat) (S : GS) (x1 : Int32) (x2 : Int32) (x3 : Int32) (x4 : Int32), lpn (w_X12_friends_F22 post k84) (fun _ _ _ _ _ => False) n S x1 x2 x3 x4 → Z p l e R s m args below meth c D A 6 (MQ below (QI D (U := GS) post (mw cy a) A) args s 0 0 A) 0 0 (mw cy a S) [(0, .ref (a 0)), (1, .int x1), (2, .int x2), (3, .int x3), (4, .int x4)] 22 [] := by
  intro n
  induction n with
  | zero => intro _ _ _ _ _ h; exact h.elim
  | succ n ih => intro S x1 x2 x3 x4 h; exact z_X12_friends_F22 b hk84 ih S x1 x2 x3 x4 h

def w_X12_friends_B84 (post : Int32 → GS → Prop) (S : GS)  : Prop :=
  post (-1) S

set_option maxHeartbeats 4000000 in
set_option maxRecDepth 100000 in
theorem z_X12_friends_B84 {p : Program} {l : Launch} {e : Env} {R : Room} {s : State} {m : MethodId} {args : Array Value} {below : List Frame} {meth : Method} {c : Code} {D : va_G} {cy : Nat → ClassId} {T0 tB tE : Nat} {A : Nat → Prop} {a : Nat → Nat} {post : Int32 → GS → Prop} (b : Bz p R s m args meth c D cy T0 tB tE A 6 cX12_friends RX12 (some .int) "friends" 6 164 0 0) (S : GS)  (h : w_X12_friends_B84 post S ) : Z p l e R s m args below meth c D A 6 (MQ below (QI D (U := GS) post (mw cy a) A) args s 0 0 A) 0 0 (mw cy a S) [] 84 [] := by
  unfold w_X12_friends_B84 at h
  refine z_iconst (v := (-1)) b dX12_friends_84 (by decide) ?_
  exact z_iret (u := S) b rfl dX12_friends_85 h rfl (by decide) (by decide)

def w_X12_friends (S : GS) (p0 : Int32) (p1 : Int32) (p2 : Int32) (post : Int32 → GS → Prop) : Prop :=
  w_X12_isNeverText S p0 (fun r1 S2 => ((r1.toInt = 0 → w_X12_friends_B17 post S2) ∧ (r1.toInt ≠ 0 → w_X12_canSearch S2 p1 p2 (fun r3 S4 => ((r3.toInt ≠ 0 → ∃ n, lpn (w_X12_friends_F22 post (w_X12_friends_B84 post)) (fun _ _ _ _ _ => False) n S4 p0 p1 p2 1) ∧ (r3.toInt = 0 → w_X12_friends_B17 post S4))))))

set_option maxHeartbeats 4000000 in
set_option maxRecDepth 100000 in
theorem k_X12_friends {l : Launch} {D : va_G} {cy : Nat → ClassId} {T0 tB tE : Nat} {a : Nat → Nat} (S : GS) (p0 : Int32) (p1 : Int32) (p2 : Int32) (post : Int32 → GS → Prop) (h : w_X12_friends S p0 p1 p2 post) : Ct l D cy T0 tB tE yX12_friends cX12_friends 6 (some .int) 6 164 0 0 (mw cy a S) [.ref (a 0), .int p0, .int p1, .int p2] (QI D (U := GS) post (mw cy a)) := by
  refine Ct.ofZ RX12 "friends" [(0, .ref (a 0)), (1, .int p0), (2, .int p1), (3, .int p2)] rfl rfl rfl rfl (Nat.le_of_ble_eq_true rfl) ?_
  intro p e R s m args below meth c A b
  unfold w_X12_friends at h
  refine z_aload_n b dX12_friends_0 rfl rfl ?_
  refine z_iload_n b dX12_friends_1 rfl rfl ?_
  refine z_calli b (z_runV (q0 := 0) (As := [.int p0]) (st := []) b (k_X12_isNeverText S p0 _ h) cf_X12_isNeverText (mw_0 cy a S) rfl wm_X12_430 wi_X12_isNeverText ws_X12_isNeverText dX12_friends_2 rfl (Nat.le_of_ble_eq_true rfl) ⟨by decide, by decide, by decide, by decide⟩) (fun r1 S2 h => ?_)
  refine y_if_eq (tgt := 17) (xl := r1.toInt) b rfl dX12_friends_5 (by decide) (fun c1 => ?_) (fun c1 => ?_)
  · replace h := h.1 c1
    refine z_lv0 (lv' := []) [] rfl ?_
    exact z_X12_friends_B17 b _ h
  · replace h := h.2 c1
    refine z_aload_n b dX12_friends_8 rfl rfl ?_
    refine z_iload_n b dX12_friends_9 rfl rfl ?_
    refine z_iload_n b dX12_friends_10 rfl rfl ?_
    refine z_calli b (z_runV (q0 := 0) (As := [.int p1, .int p2]) (st := []) b (k_X12_canSearch S2 p1 p2 _ h) cf_X12_canSearch (mw_0 cy a S2) rfl wm_X12_433 wi_X12_canSearch ws_X12_canSearch dX12_friends_11 rfl (Nat.le_of_ble_eq_true rfl) ⟨by decide, by decide, by decide, by decide⟩) (fun r3 S4 h => ?_)
    refine y_if_ne (tgt := 19) (xl := r3.toInt) b rfl dX12_friends_14 (by decide) (fun c1 => ?_) (fun c1 => ?_)
    · replace h := h.1 c1
      refine z_iconst (v := 1) b dX12_friends_19 (by decide) ?_
      refine z_istore (lv' := [(4, .int 1), (0, .ref (a 0)), (1, .int p0), (2, .int p1), (3, .int p2)]) b dX12_friends_20 (by decide) rfl ?_
      refine z_lv0 (lv' := [(0, .ref (a 0)), (1, .int p0), (2, .int p1), (3, .int p2), (4, .int 1)]) [1, 2, 3, 4, 0] rfl ?_
      obtain ⟨n, h⟩ := h
      exact zl_X12_friends_L22 b (fun S h => z_X12_friends_B84 b _ h) n _ _ _ _ _ h
    · replace h := h.2 c1
      refine z_lv0 (lv' := []) [] rfl ?_
      exact z_X12_friends_B17 b _ h

def w_X12_much_B44 (post : Int32 → GS → Prop) (S : GS) (x1 : Int32) : Prop :=
  w_X12_next0 S (fun S2 => (0 ≤ x1.toInt ∧ x1.toInt < 108) ∧ w_X12_sumUp (su S2 15 (x1.toNatClampNeg) ((ar S2 6) 13)) (fun r4 S5 => ((r4.toInt ≠ 0 → (0 ≤ x1.toInt ∧ x1.toInt < 108) ∧ post 1 (su S5 16 (x1.toNatClampNeg) ((ar S5 6) 13))) ∧ (r4.toInt = 0 → post 0 S5))))

set_option maxHeartbeats 4000000 in
set_option maxRecDepth 100000 in
theorem z_X12_much_B44 {p : Program} {l : Launch} {e : Env} {R : Room} {s : State} {m : MethodId} {args : Array Value} {below : List Frame} {meth : Method} {c : Code} {D : va_G} {cy : Nat → ClassId} {T0 tB tE : Nat} {A : Nat → Prop} {a : Nat → Nat} {post : Int32 → GS → Prop} (b : Bz p R s m args meth c D cy T0 tB tE A 2 cX12_much RX12 (some .boolean) "much" 12 254 0 0) (S : GS) (x1 : Int32) (h : w_X12_much_B44 post S x1) : Z p l e R s m args below meth c D A 2 (MQ below (QI D (U := GS) post (mw cy a) A) args s 0 0 A) 0 0 (mw cy a S) [(0, .ref (a 0)), (1, .int x1)] 44 [] := by
  unfold w_X12_much_B44 at h
  refine z_aload_n b dX12_much_44 rfl rfl ?_
  refine z_callv b (z_runV (q0 := 0) (As := []) (st := []) b (k_X12_next0 S _ h) cf_X12_next0 (mw_0 cy a S) rfl wm_X12_266 wi_X12_next0 ws_X12_next0 dX12_much_45 rfl (Nat.le_of_ble_eq_true rfl) ⟨by decide, by decide, by decide, by decide⟩) (fun S2 h => ?_)
  refine z_aload_n b dX12_much_48 rfl rfl ?_
  refine z_get (q0 := 0) (k9 := 17) (v := .ref (a 16)) b (mw_0 cy a S2) rfl in_X12 (by decide) wf_X12_60 rfl dX12_much_49 ?_
  refine z_iload_n b dX12_much_52 rfl rfl ?_
  refine z_aload_n b dX12_much_53 rfl rfl ?_
  refine z_get (q0 := 0) (k9 := 8) (v := .ref (a 7)) b (mw_0 cy a S2) rfl in_X12 (by decide) wf_X12_33 rfl dX12_much_54 ?_
  refine z_bipush (v := 13) b dX12_much_57 (by decide) ?_
  refine y_iald (q0 := 7) (j := 13) (v := ((ar S2 6) 13)) b (mw_7 cy a S2) (by decide) rfl dX12_much_59 ?_
  obtain ⟨g3, h⟩ := h
  refine y_iast (q0 := 16) (j := x1.toNatClampNeg) b (mw_16 cy a S2) (zx_r g3.1 g3.2) dX12_much_60 (mwa_16 cy a S2 (x1.toNatClampNeg) ((ar S2 6) 13)) ?_
  refine z_aload_n b dX12_much_61 rfl rfl ?_
  refine z_calli b (z_runV (q0 := 0) (As := []) (st := []) b (k_X12_sumUp (su S2 15 (x1.toNatClampNeg) ((ar S2 6) 13)) _ h) cf_X12_sumUp (mw_0 cy a (su S2 15 (x1.toNatClampNeg) ((ar S2 6) 13))) rfl wm_X12_315 wi_X12_sumUp ws_X12_sumUp dX12_much_62 rfl (Nat.le_of_ble_eq_true rfl) ⟨by decide, by decide, by decide, by decide⟩) (fun r4 S5 h => ?_)
  refine y_if_ne (tgt := 70) (xl := r4.toInt) b rfl dX12_much_65 (by decide) (fun c1 => ?_) (fun c1 => ?_)
  · replace h := h.1 c1
    refine z_aload_n b dX12_much_70 rfl rfl ?_
    refine z_get (q0 := 0) (k9 := 18) (v := .ref (a 17)) b (mw_0 cy a S5) rfl in_X12 (by decide) wf_X12_63 rfl dX12_much_71 ?_
    refine z_iload_n b dX12_much_74 rfl rfl ?_
    refine z_aload_n b dX12_much_75 rfl rfl ?_
    refine z_get (q0 := 0) (k9 := 8) (v := .ref (a 7)) b (mw_0 cy a S5) rfl in_X12 (by decide) wf_X12_33 rfl dX12_much_76 ?_
    refine z_bipush (v := 13) b dX12_much_79 (by decide) ?_
    refine y_iald (q0 := 7) (j := 13) (v := ((ar S5 6) 13)) b (mw_7 cy a S5) (by decide) rfl dX12_much_81 ?_
    obtain ⟨g6, h⟩ := h
    refine y_iast (q0 := 17) (j := x1.toNatClampNeg) b (mw_17 cy a S5) (zx_r g6.1 g6.2) dX12_much_82 (mwa_17 cy a S5 (x1.toNatClampNeg) ((ar S5 6) 13)) ?_
    refine z_iconst (v := 1) b dX12_much_83 (by decide) ?_
    exact z_zret (u := (su S5 16 (x1.toNatClampNeg) ((ar S5 6) 13))) b rfl (by decide) dX12_much_84 h rfl (by decide) (by decide)
  · replace h := h.2 c1
    refine z_iconst (v := 0) b dX12_much_68 (by decide) ?_
    exact z_zret (u := S5) b rfl (by decide) dX12_much_69 h rfl (by decide) (by decide)

def w_X12_much_B24 (post : Int32 → GS → Prop) (S : GS) (x1 : Int32) : Prop :=
  (((fi S 3).toInt ≠ 45 → w_X12_much_B44 post S x1) ∧ ((fi S 3).toInt = 45 → (0 ≤ x1.toInt ∧ x1.toInt < 108) ∧ (0 ≤ x1.toInt ∧ x1.toInt < 108) ∧ w_X12_much_B44 post (su S 12 (x1.toNatClampNeg) (((ar S 12) x1.toNatClampNeg) + 100)) x1))

set_option maxHeartbeats 4000000 in
set_option maxRecDepth 100000 in
theorem z_X12_much_B24 {p : Program} {l : Launch} {e : Env} {R : Room} {s : State} {m : MethodId} {args : Array Value} {below : List Frame} {meth : Method} {c : Code} {D : va_G} {cy : Nat → ClassId} {T0 tB tE : Nat} {A : Nat → Prop} {a : Nat → Nat} {post : Int32 → GS → Prop} (b : Bz p R s m args meth c D cy T0 tB tE A 2 cX12_much RX12 (some .boolean) "much" 12 254 0 0) (S : GS) (x1 : Int32) (h : w_X12_much_B24 post S x1) : Z p l e R s m args below meth c D A 2 (MQ below (QI D (U := GS) post (mw cy a) A) args s 0 0 A) 0 0 (mw cy a S) [(0, .ref (a 0)), (1, .int x1)] 24 [] := by
  unfold w_X12_much_B24 at h
  refine z_aload_n b dX12_much_24 rfl rfl ?_
  refine z_get (q0 := 0) (k9 := 27) (v := .int (fi S 3)) b (mw_0 cy a S) rfl in_X12 (by decide) wf_X12_242 rfl dX12_much_25 ?_
  refine z_bipush (v := 45) b dX12_much_28 (by decide) ?_
  refine y_icmp_ne (tgt := 44) (xl := (fi S 3).toInt) (yl := 45) b rfl (by decide) dX12_much_30 (by decide) (fun c1 => ?_) (fun c1 => ?_)
  · replace h := h.1 c1
    exact z_X12_much_B44 b _ _ h
  · replace h := h.2 c1
    refine z_aload_n b dX12_much_33 rfl rfl ?_
    refine z_get (q0 := 0) (k9 := 14) (v := .ref (a 13)) b (mw_0 cy a S) rfl in_X12 (by decide) wf_X12_51 rfl dX12_much_34 ?_
    refine z_iload_n b dX12_much_37 rfl rfl ?_
    refine z_dup2 b dX12_much_38 rfl rfl ?_
    obtain ⟨g7, h⟩ := h
    refine y_iald (q0 := 13) (j := x1.toNatClampNeg) (v := ((ar S 12) x1.toNatClampNeg)) b (mw_13 cy a S) (zx_r g7.1 g7.2) rfl dX12_much_39 ?_
    refine z_bipush (v := 100) b dX12_much_40 (by decide) ?_
    refine z_iadd b dX12_much_42 rfl ?_
    obtain ⟨g8, h⟩ := h
    refine y_iast (q0 := 13) (j := x1.toNatClampNeg) b (mw_13 cy a S) (zx_r g8.1 g8.2) dX12_much_43 (mwa_13 cy a S (x1.toNatClampNeg) (((ar S 12) x1.toNatClampNeg) + 100)) ?_
    exact z_X12_much_B44 b _ _ h

def w_X12_much (S : GS) (p0 : Int32) (post : Int32 → GS → Prop) : Prop :=
  (((fi S 3).toInt = 43 → w_X12_much_B24 post S p0) ∧ ((fi S 3).toInt ≠ 43 → (((fi S 3).toInt = 45 → w_X12_much_B24 post S p0) ∧ ((fi S 3).toInt ≠ 45 → w_X12_bad S 1 (fun r9 S10 => (r9 = 0 ∨ r9 = 1) ∧ post r9 S10)))))

set_option maxHeartbeats 4000000 in
set_option maxRecDepth 100000 in
theorem k_X12_much {l : Launch} {D : va_G} {cy : Nat → ClassId} {T0 tB tE : Nat} {a : Nat → Nat} (S : GS) (p0 : Int32) (post : Int32 → GS → Prop) (h : w_X12_much S p0 post) : Ct l D cy T0 tB tE yX12_much cX12_much 2 (some .boolean) 12 254 0 0 (mw cy a S) [.ref (a 0), .int p0] (QI D (U := GS) post (mw cy a)) := by
  refine Ct.ofZ RX12 "much" [(0, .ref (a 0)), (1, .int p0)] rfl rfl rfl rfl (Nat.le_of_ble_eq_true rfl) ?_
  intro p e R s m args below meth c A b
  unfold w_X12_much at h
  refine z_aload_n b dX12_much_0 rfl rfl ?_
  refine z_get (q0 := 0) (k9 := 27) (v := .int (fi S 3)) b (mw_0 cy a S) rfl in_X12 (by decide) wf_X12_242 rfl dX12_much_1 ?_
  refine z_bipush (v := 43) b dX12_much_4 (by decide) ?_
  refine y_icmp_eq (tgt := 24) (xl := (fi S 3).toInt) (yl := 43) b rfl (by decide) dX12_much_6 (by decide) (fun c1 => ?_) (fun c1 => ?_)
  · replace h := h.1 c1
    exact z_X12_much_B24 b _ _ h
  · replace h := h.2 c1
    refine z_aload_n b dX12_much_9 rfl rfl ?_
    refine z_get (q0 := 0) (k9 := 27) (v := .int (fi S 3)) b (mw_0 cy a S) rfl in_X12 (by decide) wf_X12_242 rfl dX12_much_10 ?_
    refine z_bipush (v := 45) b dX12_much_13 (by decide) ?_
    refine y_icmp_eq (tgt := 24) (xl := (fi S 3).toInt) (yl := 45) b rfl (by decide) dX12_much_15 (by decide) (fun c1 => ?_) (fun c1 => ?_)
    · replace h := h.1 c1
      exact z_X12_much_B24 b _ _ h
    · replace h := h.2 c1
      refine z_aload_n b dX12_much_18 rfl rfl ?_
      refine z_iconst (v := 1) b dX12_much_19 (by decide) ?_
      refine z_calli b (z_runV (q0 := 0) (As := [.int 1]) (st := []) b (k_X12_bad S 1 _ h) cf_X12_bad (mw_0 cy a S) rfl wm_X12_263 wi_X12_bad ws_X12_bad dX12_much_20 rfl (Nat.le_of_ble_eq_true rfl) ⟨by decide, by decide, by decide, by decide⟩) (fun r9 S10 h => ?_)
      obtain ⟨g11, h⟩ := h
      exact z_zret (u := S10) b rfl (z_bool g11) dX12_much_23 h rfl (by decide) (by decide)

def w_X12_kin_B28 (post : Int32 → GS → Prop) (S : GS)  : Prop :=
  post 0 S

set_option maxHeartbeats 4000000 in
set_option maxRecDepth 100000 in
theorem z_X12_kin_B28 {p : Program} {l : Launch} {e : Env} {R : Room} {s : State} {m : MethodId} {args : Array Value} {below : List Frame} {meth : Method} {c : Code} {D : va_G} {cy : Nat → ClassId} {T0 tB tE : Nat} {A : Nat → Prop} {a : Nat → Nat} {post : Int32 → GS → Prop} (b : Bz p R s m args meth c D cy T0 tB tE A 5 cX12_kin RX12 (some .boolean) "kin" 3 65 0 0) (S : GS)  (h : w_X12_kin_B28 post S ) : Z p l e R s m args below meth c D A 5 (MQ below (QI D (U := GS) post (mw cy a) A) args s 0 0 A) 0 0 (mw cy a S) [] 28 [] := by
  unfold w_X12_kin_B28 at h
  refine z_iconst (v := 0) b dX12_kin_28 (by decide) ?_
  exact z_zret (u := S) b rfl (by decide) dX12_kin_29 h rfl (by decide) (by decide)

def w_X12_kin_B82 (post : Int32 → GS → Prop) (S : GS)  : Prop :=
  w_X12_told S (fun r13 S14 => (r13 = 0 ∨ r13 = 1) ∧ post r13 S14)

set_option maxHeartbeats 4000000 in
set_option maxRecDepth 100000 in
theorem z_X12_kin_B82 {p : Program} {l : Launch} {e : Env} {R : Room} {s : State} {m : MethodId} {args : Array Value} {below : List Frame} {meth : Method} {c : Code} {D : va_G} {cy : Nat → ClassId} {T0 tB tE : Nat} {A : Nat → Prop} {a : Nat → Nat} {post : Int32 → GS → Prop} (b : Bz p R s m args meth c D cy T0 tB tE A 5 cX12_kin RX12 (some .boolean) "kin" 3 65 0 0) (S : GS)  (h : w_X12_kin_B82 post S ) : Z p l e R s m args below meth c D A 5 (MQ below (QI D (U := GS) post (mw cy a) A) args s 0 0 A) 0 0 (mw cy a S) [(0, .ref (a 0))] 82 [] := by
  unfold w_X12_kin_B82 at h
  refine z_aload_n b dX12_kin_82 rfl rfl ?_
  refine z_calli b (z_runV (q0 := 0) (As := []) (st := []) b (k_X12_told S _ h) cf_X12_told (mw_0 cy a S) rfl wm_X12_178 wi_X12_told ws_X12_told dX12_kin_83 rfl (Nat.le_of_ble_eq_true rfl) ⟨by decide, by decide, by decide, by decide⟩) (fun r13 S14 h => ?_)
  obtain ⟨g15, h⟩ := h
  exact z_zret (u := S14) b rfl (z_bool g15) dX12_kin_86 h rfl (by decide) (by decide)

def w_X12_kin (S : GS) (p0 : Int32) (p1 : Int32) (p2 : Int32) (p3 : Int32) (post : Int32 → GS → Prop) : Prop :=
  w_X12_isOne S p0 (fun r1 S2 => ((r1.toInt = 0 → w_X12_kin_B28 post S2) ∧ (r1.toInt ≠ 0 → w_X12_isOne S2 p1 (fun r3 S4 => ((r3.toInt = 0 → w_X12_kin_B28 post S4) ∧ (r3.toInt ≠ 0 → ((p0.toInt = p1.toInt → w_X12_kin_B28 post S4) ∧ (p0.toInt ≠ p1.toInt → w_X12_isIn S4 p2 0 1 (fun r5 S6 => ((r5.toInt ≠ 0 → w_X12_takes S6 (fl S6 0) (fun S8 => ((p2.toInt ≠ 1 → (0 ≤ (((3 : Int32) * p0) + p1).toInt ∧ (((3 : Int32) * p0) + p1).toInt < 9) ∧ (p3 = 0 ∨ p3 = 1) ∧ (0 ≤ (((3 : Int32) * p1) + p0).toInt ∧ (((3 : Int32) * p1) + p0).toInt < 9) ∧ (p3 = 0 ∨ p3 = 1) ∧ w_X12_kin_B82 post (su (su S8 3 ((((3 : Int32) * p0) + p1).toNatClampNeg) p3) 3 ((((3 : Int32) * p1) + p0).toNatClampNeg) p3)) ∧ (p2.toInt = 1 → (0 ≤ (((3 : Int32) * p0) + p1).toInt ∧ (((3 : Int32) * p0) + p1).toInt < 9) ∧ (p3 = 0 ∨ p3 = 1) ∧ w_X12_kin_B82 post (su S8 4 ((((3 : Int32) * p0) + p1).toNatClampNeg) p3))))) ∧ (r5.toInt = 0 → w_X12_kin_B28 post S6)))))))))))

set_option maxHeartbeats 4000000 in
set_option maxRecDepth 100000 in
theorem k_X12_kin {l : Launch} {D : va_G} {cy : Nat → ClassId} {T0 tB tE : Nat} {a : Nat → Nat} (S : GS) (p0 : Int32) (p1 : Int32) (p2 : Int32) (p3 : Int32) (post : Int32 → GS → Prop) (h : w_X12_kin S p0 p1 p2 p3 post) : Ct l D cy T0 tB tE yX12_kin cX12_kin 5 (some .boolean) 3 65 0 0 (mw cy a S) [.ref (a 0), .int p0, .int p1, .int p2, .int p3] (QI D (U := GS) post (mw cy a)) := by
  refine Ct.ofZ RX12 "kin" [(0, .ref (a 0)), (1, .int p0), (2, .int p1), (3, .int p2), (4, .int p3)] rfl rfl rfl rfl (Nat.le_of_ble_eq_true rfl) ?_
  intro p e R s m args below meth c A b
  unfold w_X12_kin at h
  refine z_iload_n b dX12_kin_0 rfl rfl ?_
  refine z_calli b (z_runS (As := [.int p0]) (st := []) b (k_X12_isOne S p0 _ h) cf_X12_isOne wm_X12_170 ws_X12_isOne dX12_kin_1 rfl (Nat.le_of_ble_eq_true rfl) ⟨by decide, by decide, by decide, by decide⟩) (fun r1 S2 h => ?_)
  refine y_if_eq (tgt := 28) (xl := r1.toInt) b rfl dX12_kin_4 (by decide) (fun c1 => ?_) (fun c1 => ?_)
  · replace h := h.1 c1
    refine z_lv0 (lv' := []) [] rfl ?_
    exact z_X12_kin_B28 b _ h
  · replace h := h.2 c1
    refine z_iload_n b dX12_kin_7 rfl rfl ?_
    refine z_calli b (z_runS (As := [.int p1]) (st := []) b (k_X12_isOne S2 p1 _ h) cf_X12_isOne wm_X12_170 ws_X12_isOne dX12_kin_8 rfl (Nat.le_of_ble_eq_true rfl) ⟨by decide, by decide, by decide, by decide⟩) (fun r3 S4 h => ?_)
    refine y_if_eq (tgt := 28) (xl := r3.toInt) b rfl dX12_kin_11 (by decide) (fun c1 => ?_) (fun c1 => ?_)
    · replace h := h.1 c1
      refine z_lv0 (lv' := []) [] rfl ?_
      exact z_X12_kin_B28 b _ h
    · replace h := h.2 c1
      refine z_iload_n b dX12_kin_14 rfl rfl ?_
      refine z_iload_n b dX12_kin_15 rfl rfl ?_
      refine y_icmp_eq (tgt := 28) (xl := p0.toInt) (yl := p1.toInt) b rfl rfl dX12_kin_16 (by decide) (fun c1 => ?_) (fun c1 => ?_)
      · replace h := h.1 c1
        refine z_lv0 (lv' := []) [] rfl ?_
        exact z_X12_kin_B28 b _ h
      · replace h := h.2 c1
        refine z_iload_n b dX12_kin_19 rfl rfl ?_
        refine z_iconst (v := 0) b dX12_kin_20 (by decide) ?_
        refine z_iconst (v := 1) b dX12_kin_21 (by decide) ?_
        refine z_calli b (z_runS (As := [.int p2, .int 0, .int 1]) (st := []) b (k_X12_isIn S4 p2 0 1 _ h) cf_X12_isIn wm_X12_1 ws_X12_isIn dX12_kin_22 rfl (Nat.le_of_ble_eq_true rfl) ⟨by decide, by decide, by decide, by decide⟩) (fun r5 S6 h => ?_)
        refine y_if_ne (tgt := 30) (xl := r5.toInt) b rfl dX12_kin_25 (by decide) (fun c1 => ?_) (fun c1 => ?_)
        · replace h := h.1 c1
          refine z_aload_n b dX12_kin_30 rfl rfl ?_
          refine z_aload_n b dX12_kin_31 rfl rfl ?_
          refine z_get (q0 := 0) (k9 := 6) (v := .long (fl S6 0)) b (mw_0 cy a S6) rfl in_X12 (by decide) wf_X12_153 rfl dX12_kin_32 ?_
          refine z_callv b (z_runV (q0 := 0) (As := [.long (fl S6 0)]) (st := []) b (k_X12_takes S6 (fl S6 0) _ h) cf_X12_takes (mw_0 cy a S6) rfl wm_X12_174 wi_X12_takes ws_X12_takes dX12_kin_35 rfl (Nat.le_of_ble_eq_true rfl) ⟨by decide, by decide, by decide, by decide⟩) (fun S8 h => ?_)
          refine z_iload_n b dX12_kin_38 rfl rfl ?_
          refine z_iconst (v := 1) b dX12_kin_39 (by decide) ?_
          refine y_icmp_ne (tgt := 58) (xl := p2.toInt) (yl := 1) b rfl (by decide) dX12_kin_40 (by decide) (fun c1 => ?_) (fun c1 => ?_)
          · replace h := h.1 c1
            refine z_aload_n b dX12_kin_58 rfl rfl ?_
            refine z_get (q0 := 0) (k9 := 3) (v := .ref (a 4)) b (mw_0 cy a S8) rfl in_X12 (by decide) wf_X12_23 rfl dX12_kin_59 ?_
            refine z_iconst (v := 3) b dX12_kin_62 (by decide) ?_
            refine z_iload_n b dX12_kin_63 rfl rfl ?_
            refine z_imul b dX12_kin_64 rfl ?_
            refine z_iload_n b dX12_kin_65 rfl rfl ?_
            refine z_iadd b dX12_kin_66 rfl ?_
            refine z_iload b dX12_kin_67 rfl ?_
            obtain ⟨g9, h⟩ := h
            obtain ⟨g10, h⟩ := h
            refine y_zast (q0 := 4) (j := (((3 : Int32) * p0) + p1).toNatClampNeg) b (mw_4 cy a S8) (zx_r g9.1 g9.2) g10 dX12_kin_69 (mwa_4 cy a S8 ((((3 : Int32) * p0) + p1).toNatClampNeg) p3) ?_
            refine z_aload_n b dX12_kin_70 rfl rfl ?_
            refine z_get (q0 := 0) (k9 := 3) (v := .ref (a 4)) b (mw_0 cy a (su S8 3 ((((3 : Int32) * p0) + p1).toNatClampNeg) p3)) rfl in_X12 (by decide) wf_X12_23 rfl dX12_kin_71 ?_
            refine z_iconst (v := 3) b dX12_kin_74 (by decide) ?_
            refine z_iload_n b dX12_kin_75 rfl rfl ?_
            refine z_imul b dX12_kin_76 rfl ?_
            refine z_iload_n b dX12_kin_77 rfl rfl ?_
            refine z_iadd b dX12_kin_78 rfl ?_
            refine z_iload b dX12_kin_79 rfl ?_
            obtain ⟨g11, h⟩ := h
            obtain ⟨g12, h⟩ := h
            refine y_zast (q0 := 4) (j := (((3 : Int32) * p1) + p0).toNatClampNeg) b (mw_4 cy a (su S8 3 ((((3 : Int32) * p0) + p1).toNatClampNeg) p3)) (zx_r g11.1 g11.2) g12 dX12_kin_81 (mwa_4 cy a (su S8 3 ((((3 : Int32) * p0) + p1).toNatClampNeg) p3) ((((3 : Int32) * p1) + p0).toNatClampNeg) p3) ?_
            refine z_lv0 (lv' := [(0, .ref (a 0))]) [0] rfl ?_
            exact z_X12_kin_B82 b _ h
          · replace h := h.2 c1
            refine z_aload_n b dX12_kin_43 rfl rfl ?_
            refine z_get (q0 := 0) (k9 := 4) (v := .ref (a 5)) b (mw_0 cy a S8) rfl in_X12 (by decide) wf_X12_27 rfl dX12_kin_44 ?_
            refine z_iconst (v := 3) b dX12_kin_47 (by decide) ?_
            refine z_iload_n b dX12_kin_48 rfl rfl ?_
            refine z_imul b dX12_kin_49 rfl ?_
            refine z_iload_n b dX12_kin_50 rfl rfl ?_
            refine z_iadd b dX12_kin_51 rfl ?_
            refine z_iload b dX12_kin_52 rfl ?_
            obtain ⟨g16, h⟩ := h
            obtain ⟨g17, h⟩ := h
            refine y_zast (q0 := 5) (j := (((3 : Int32) * p0) + p1).toNatClampNeg) b (mw_5 cy a S8) (zx_r g16.1 g16.2) g17 dX12_kin_54 (mwa_5 cy a S8 ((((3 : Int32) * p0) + p1).toNatClampNeg) p3) ?_
            refine z_goto (tgt := 82) b dX12_kin_55 (by decide) ?_
            refine z_lv0 (lv' := [(0, .ref (a 0))]) [0] rfl ?_
            exact z_X12_kin_B82 b _ h
        · replace h := h.2 c1
          refine z_lv0 (lv' := []) [] rfl ?_
          exact z_X12_kin_B28 b _ h

def w_X12_isKnown_B84 (post : Int32 → GS → Prop) (k35 : GS → Int32 → Int32 → Int32 → Int32 → Prop) (k91 : GS → Int32 → Int32 → Int32 → Prop) (S : GS) (x1 : Int32) (x2 : Int32) (x4 : Int32) (y0 : Int32) : Prop :=
  k35 S x1 x2 y0 (x4 + 1)

set_option maxHeartbeats 4000000 in
set_option maxRecDepth 100000 in
theorem z_X12_isKnown_B84 {p : Program} {l : Launch} {e : Env} {R : Room} {s : State} {m : MethodId} {args : Array Value} {below : List Frame} {meth : Method} {c : Code} {D : va_G} {cy : Nat → ClassId} {T0 tB tE : Nat} {A : Nat → Prop} {a : Nat → Nat} {post : Int32 → GS → Prop} {k35 : GS → Int32 → Int32 → Int32 → Int32 → Prop} {k91 : GS → Int32 → Int32 → Int32 → Prop} (b : Bz p R s m args meth c D cy T0 tB tE A 5 cX12_isKnown RX12 (some .boolean) "isKnown" 0 0 0 0) (hk35 : ∀ (S : GS) (x1 : Int32) (x2 : Int32) (x3 : Int32) (x4 : Int32), k35 S x1 x2 x3 x4 → Z p l e R s m args below meth c D A 5 (MQ below (QI D (U := GS) post (mw cy a) A) args s 0 0 A) 0 0 (mw cy a S) [(0, .ref (a 0)), (1, .int x1), (2, .int x2), (3, .int x3), (4, .int x4)] 35 []) (hk91 : ∀ (S : GS) (x1 : Int32) (x2 : Int32) (x3 : Int32), k91 S x1 x2 x3 → Z p l e R s m args below meth c D A 5 (MQ below (QI D (U := GS) post (mw cy a) A) args s 0 0 A) 0 0 (mw cy a S) [(0, .ref (a 0)), (1, .int x1), (2, .int x2), (3, .int x3)] 91 []) (S : GS) (x1 : Int32) (x2 : Int32) (x4 : Int32) (y0 : Int32) (h : w_X12_isKnown_B84 post k35 k91 S x1 x2 x4 y0) : Z p l e R s m args below meth c D A 5 (MQ below (QI D (U := GS) post (mw cy a) A) args s 0 0 A) 0 0 (mw cy a S) [(0, .ref (a 0)), (1, .int x1), (2, .int x2), (4, .int x4)] 84 [.int y0] := by
  unfold w_X12_isKnown_B84 at h
  refine z_istore_n (lv' := [(3, .int y0), (0, .ref (a 0)), (1, .int x1), (2, .int x2), (4, .int x4)]) b dX12_isKnown_84 rfl (by decide) rfl ?_
  refine z_iinc (k9 := 4) (v := (x4 + 1)) (lv' := [(4, .int (x4 + 1)), (3, .int y0), (0, .ref (a 0)), (1, .int x1), (2, .int x2)]) b dX12_isKnown_85 rfl rfl (by decide) rfl ?_
  refine z_goto (tgt := 35) b dX12_isKnown_88 (by decide) ?_
  refine z_lv0 (lv' := [(0, .ref (a 0)), (1, .int x1), (2, .int x2), (3, .int y0), (4, .int (x4 + 1))]) [2, 3, 4, 1, 0] rfl ?_
  exact hk35 _ _ _ _ _ h

def w_X12_isKnown_F35 (post : Int32 → GS → Prop) (k91 : GS → Int32 → Int32 → Int32 → Prop) (k35 : GS → Int32 → Int32 → Int32 → Int32 → Prop) (S : GS) (x1 : Int32) (x2 : Int32) (x3 : Int32) (x4 : Int32) : Prop :=
  (0 ≤ x2.toInt ∧ x2.toInt < 18) ∧ ((((ar S 18) x2.toNatClampNeg).toInt ≤ x4.toInt → k91 S x1 x2 x3) ∧ (x4.toInt < ((ar S 18) x2.toNatClampNeg).toInt → ((x3.toInt = 0 → k91 S x1 x2 x3) ∧ (x3.toInt ≠ 0 → (0 ≤ x2.toInt ∧ x2.toInt < 18) ∧ (0 ≤ (((ar S 17) x2.toNatClampNeg) + x4).toInt ∧ (((ar S 17) x2.toNatClampNeg) + x4).toInt < 700) ∧ (0 ≤ ((fi S 4) + x4).toInt ∧ ((fi S 4) + x4).toInt < 700) ∧ ((((ar S 21) (((ar S 17) x2.toNatClampNeg) + x4).toNatClampNeg).toInt ≠ ((ar S 21) ((fi S 4) + x4).toNatClampNeg).toInt → w_X12_isKnown_B84 post k35 k91 S x1 x2 x4 0) ∧ (((ar S 21) (((ar S 17) x2.toNatClampNeg) + x4).toNatClampNeg).toInt = ((ar S 21) ((fi S 4) + x4).toNatClampNeg).toInt → w_X12_isKnown_B84 post k35 k91 S x1 x2 x4 1))))))

set_option maxHeartbeats 4000000 in
set_option maxRecDepth 100000 in
theorem z_X12_isKnown_F35 {p : Program} {l : Launch} {e : Env} {R : Room} {s : State} {m : MethodId} {args : Array Value} {below : List Frame} {meth : Method} {c : Code} {D : va_G} {cy : Nat → ClassId} {T0 tB tE : Nat} {A : Nat → Prop} {a : Nat → Nat} {post : Int32 → GS → Prop} {k91 : GS → Int32 → Int32 → Int32 → Prop} {k35 : GS → Int32 → Int32 → Int32 → Int32 → Prop} (b : Bz p R s m args meth c D cy T0 tB tE A 5 cX12_isKnown RX12 (some .boolean) "isKnown" 0 0 0 0) (hk91 : ∀ (S : GS) (x1 : Int32) (x2 : Int32) (x3 : Int32), k91 S x1 x2 x3 → Z p l e R s m args below meth c D A 5 (MQ below (QI D (U := GS) post (mw cy a) A) args s 0 0 A) 0 0 (mw cy a S) [(0, .ref (a 0)), (1, .int x1), (2, .int x2), (3, .int x3)] 91 []) (hk35 : ∀ (S : GS) (x1 : Int32) (x2 : Int32) (x3 : Int32) (x4 : Int32), k35 S x1 x2 x3 x4 → Z p l e R s m args below meth c D A 5 (MQ below (QI D (U := GS) post (mw cy a) A) args s 0 0 A) 0 0 (mw cy a S) [(0, .ref (a 0)), (1, .int x1), (2, .int x2), (3, .int x3), (4, .int x4)] 35 []) (S : GS) (x1 : Int32) (x2 : Int32) (x3 : Int32) (x4 : Int32) (h : w_X12_isKnown_F35 post k91 k35 S x1 x2 x3 x4) : Z p l e R s m args below meth c D A 5 (MQ below (QI D (U := GS) post (mw cy a) A) args s 0 0 A) 0 0 (mw cy a S) [(0, .ref (a 0)), (1, .int x1), (2, .int x2), (3, .int x3), (4, .int x4)] 35 [] := by
  unfold w_X12_isKnown_F35 at h
  refine z_iload b dX12_isKnown_35 rfl ?_
  refine z_aload_n b dX12_isKnown_37 rfl rfl ?_
  refine z_get (q0 := 0) (k9 := 20) (v := .ref (a 19)) b (mw_0 cy a S) rfl in_X12 (by decide) wf_X12_69 rfl dX12_isKnown_38 ?_
  refine z_iload_n b dX12_isKnown_41 rfl rfl ?_
  obtain ⟨g2, h⟩ := h
  refine y_iald (q0 := 19) (j := x2.toNatClampNeg) (v := ((ar S 18) x2.toNatClampNeg)) b (mw_19 cy a S) (zx_r g2.1 g2.2) rfl dX12_isKnown_42 ?_
  refine y_icmp_ge (tgt := 91) (xl := x4.toInt) (yl := ((ar S 18) x2.toNatClampNeg).toInt) b rfl rfl dX12_isKnown_43 (by decide) (fun c1 => ?_) (fun c1 => ?_)
  · replace h := h.1 c1
    refine z_lv0 (lv' := [(0, .ref (a 0)), (1, .int x1), (2, .int x2), (3, .int x3)]) [0, 1, 2, 3] rfl ?_
    exact hk91 _ _ _ _ h
  · replace h := h.2 c1
    refine z_iload_n b dX12_isKnown_46 rfl rfl ?_
    refine y_if_eq (tgt := 91) (xl := x3.toInt) b rfl dX12_isKnown_47 (by decide) (fun c1 => ?_) (fun c1 => ?_)
    · replace h := h.1 c1
      refine z_lv0 (lv' := [(0, .ref (a 0)), (1, .int x1), (2, .int x2), (3, .int x3)]) [0, 1, 2, 3] rfl ?_
      exact hk91 _ _ _ _ h
    · replace h := h.2 c1
      refine z_aload_n b dX12_isKnown_50 rfl rfl ?_
      refine z_get (q0 := 0) (k9 := 23) (v := .ref (a 22)) b (mw_0 cy a S) rfl in_X12 (by decide) wf_X12_78 rfl dX12_isKnown_51 ?_
      refine z_aload_n b dX12_isKnown_54 rfl rfl ?_
      refine z_get (q0 := 0) (k9 := 19) (v := .ref (a 18)) b (mw_0 cy a S) rfl in_X12 (by decide) wf_X12_66 rfl dX12_isKnown_55 ?_
      refine z_iload_n b dX12_isKnown_58 rfl rfl ?_
      obtain ⟨g3, h⟩ := h
      refine y_iald (q0 := 18) (j := x2.toNatClampNeg) (v := ((ar S 17) x2.toNatClampNeg)) b (mw_18 cy a S) (zx_r g3.1 g3.2) rfl dX12_isKnown_59 ?_
      refine z_iload b dX12_isKnown_60 rfl ?_
      refine z_iadd b dX12_isKnown_62 rfl ?_
      obtain ⟨g4, h⟩ := h
      refine y_iald (q0 := 22) (j := (((ar S 17) x2.toNatClampNeg) + x4).toNatClampNeg) (v := ((ar S 21) (((ar S 17) x2.toNatClampNeg) + x4).toNatClampNeg)) b (mw_22 cy a S) (zx_r g4.1 g4.2) rfl dX12_isKnown_63 ?_
      refine z_aload_n b dX12_isKnown_64 rfl rfl ?_
      refine z_get (q0 := 0) (k9 := 23) (v := .ref (a 22)) b (mw_0 cy a S) rfl in_X12 (by decide) wf_X12_78 rfl dX12_isKnown_65 ?_
      refine z_aload_n b dX12_isKnown_68 rfl rfl ?_
      refine z_get (q0 := 0) (k9 := 28) (v := .int (fi S 4)) b (mw_0 cy a S) rfl in_X12 (by decide) wf_X12_188 rfl dX12_isKnown_69 ?_
      refine z_iload b dX12_isKnown_72 rfl ?_
      refine z_iadd b dX12_isKnown_74 rfl ?_
      obtain ⟨g5, h⟩ := h
      refine y_iald (q0 := 22) (j := ((fi S 4) + x4).toNatClampNeg) (v := ((ar S 21) ((fi S 4) + x4).toNatClampNeg)) b (mw_22 cy a S) (zx_r g5.1 g5.2) rfl dX12_isKnown_75 ?_
      refine y_icmp_ne (tgt := 83) (xl := ((ar S 21) (((ar S 17) x2.toNatClampNeg) + x4).toNatClampNeg).toInt) (yl := ((ar S 21) ((fi S 4) + x4).toNatClampNeg).toInt) b rfl rfl dX12_isKnown_76 (by decide) (fun c1 => ?_) (fun c1 => ?_)
      · replace h := h.1 c1
        refine z_iconst (v := 0) b dX12_isKnown_83 (by decide) ?_
        refine z_lv0 (lv' := [(0, .ref (a 0)), (1, .int x1), (2, .int x2), (4, .int x4)]) [0, 1, 2, 4] rfl ?_
        exact z_X12_isKnown_B84 b hk35 hk91 _ _ _ _ _ h
      · replace h := h.2 c1
        refine z_iconst (v := 1) b dX12_isKnown_79 (by decide) ?_
        refine z_goto (tgt := 84) b dX12_isKnown_80 (by decide) ?_
        refine z_lv0 (lv' := [(0, .ref (a 0)), (1, .int x1), (2, .int x2), (4, .int x4)]) [0, 1, 2, 4] rfl ?_
        exact z_X12_isKnown_B84 b hk35 hk91 _ _ _ _ _ h

set_option maxHeartbeats 4000000 in
set_option maxRecDepth 100000 in
theorem zl_X12_isKnown_L35 {p : Program} {l : Launch} {e : Env} {R : Room} {s : State} {m : MethodId} {args : Array Value} {below : List Frame} {meth : Method} {c : Code} {D : va_G} {cy : Nat → ClassId} {T0 tB tE : Nat} {A : Nat → Prop} {a : Nat → Nat} {post : Int32 → GS → Prop} {k91 : GS → Int32 → Int32 → Int32 → Prop} (b : Bz p R s m args meth c D cy T0 tB tE A 5 cX12_isKnown RX12 (some .boolean) "isKnown" 0 0 0 0) (hk91 : ∀ (S : GS) (x1 : Int32) (x2 : Int32) (x3 : Int32), k91 S x1 x2 x3 → Z p l e R s m args below meth c D A 5 (MQ below (QI D (U := GS) post (mw cy a) A) args s 0 0 A) 0 0 (mw cy a S) [(0, .ref (a 0)), (1, .int x1), (2, .int x2), (3, .int x3)] 91 []) : ∀ (n : Nat) (S : GS) (x1 : Int32) (x2 : Int32) (x3 : Int32) (x4 : Int32), lpn (w_X12_isKnown_F35 post k91) (fun _ _ _ _ _ => False) n S x1 x2 x3 x4 → Z p l e R s m args below meth c D A 5 (MQ below (QI D (U := GS) post (mw cy a) A) args s 0 0 A) 0 0 (mw cy a S) [(0, .ref (a 0)), (1, .int x1), (2, .int x2), (3, .int x3), (4, .int x4)] 35 [] := by
  intro n
  induction n with
  | zero => intro _ _ _ _ _ h; exact h.elim
  | succ n ih => intro S x1 x2 x3 x4 h; exact z_X12_isKnown_F35 b hk91 ih S x1 x2 x3 x4 h

def w_X12_isKnown_B91 (post : Int32 → GS → Prop) (k3 : GS → Int32 → Int32 → Prop) (k103 : GS → Prop) (S : GS) (x1 : Int32) (x2 : Int32) (x3 : Int32) : Prop :=
  ((x3.toInt = 0 → k3 S x1 (x2 + 1)) ∧ (x3.toInt ≠ 0 → post 1 S))

set_option maxHeartbeats 4000000 in
set_option maxRecDepth 100000 in
theorem z_X12_isKnown_B91 {p : Program} {l : Launch} {e : Env} {R : Room} {s : State} {m : MethodId} {args : Array Value} {below : List Frame} {meth : Method} {c : Code} {D : va_G} {cy : Nat → ClassId} {T0 tB tE : Nat} {A : Nat → Prop} {a : Nat → Nat} {post : Int32 → GS → Prop} {k3 : GS → Int32 → Int32 → Prop} {k103 : GS → Prop} (b : Bz p R s m args meth c D cy T0 tB tE A 5 cX12_isKnown RX12 (some .boolean) "isKnown" 0 0 0 0) (hk3 : ∀ (S : GS) (x1 : Int32) (x2 : Int32), k3 S x1 x2 → Z p l e R s m args below meth c D A 5 (MQ below (QI D (U := GS) post (mw cy a) A) args s 0 0 A) 0 0 (mw cy a S) [(0, .ref (a 0)), (1, .int x1), (2, .int x2)] 3 []) (hk103 : ∀ (S : GS), k103 S → Z p l e R s m args below meth c D A 5 (MQ below (QI D (U := GS) post (mw cy a) A) args s 0 0 A) 0 0 (mw cy a S) [] 103 []) (S : GS) (x1 : Int32) (x2 : Int32) (x3 : Int32) (h : w_X12_isKnown_B91 post k3 k103 S x1 x2 x3) : Z p l e R s m args below meth c D A 5 (MQ below (QI D (U := GS) post (mw cy a) A) args s 0 0 A) 0 0 (mw cy a S) [(0, .ref (a 0)), (1, .int x1), (2, .int x2), (3, .int x3)] 91 [] := by
  unfold w_X12_isKnown_B91 at h
  refine z_iload_n b dX12_isKnown_91 rfl rfl ?_
  refine y_if_eq (tgt := 97) (xl := x3.toInt) b rfl dX12_isKnown_92 (by decide) (fun c1 => ?_) (fun c1 => ?_)
  · replace h := h.1 c1
    refine z_iinc (k9 := 2) (v := (x2 + 1)) (lv' := [(2, .int (x2 + 1)), (0, .ref (a 0)), (1, .int x1), (3, .int x3)]) b dX12_isKnown_97 rfl rfl (by decide) rfl ?_
    refine z_goto (tgt := 3) b dX12_isKnown_100 (by decide) ?_
    refine z_lv0 (lv' := [(0, .ref (a 0)), (1, .int x1), (2, .int (x2 + 1))]) [1, 2, 0] rfl ?_
    exact hk3 _ _ _ h
  · replace h := h.2 c1
    refine z_iconst (v := 1) b dX12_isKnown_95 (by decide) ?_
    exact z_zret (u := S) b rfl (by decide) dX12_isKnown_96 h rfl (by decide) (by decide)

def w_X12_isKnown_B31 (post : Int32 → GS → Prop) (k3 : GS → Int32 → Int32 → Prop) (k103 : GS → Prop) (S : GS) (x1 : Int32) (x2 : Int32) (y0 : Int32) : Prop :=
  ∃ n, lpn (w_X12_isKnown_F35 post (w_X12_isKnown_B91 post k3 k103)) (fun _ _ _ _ _ => False) n S x1 x2 y0 0

set_option maxHeartbeats 4000000 in
set_option maxRecDepth 100000 in
theorem z_X12_isKnown_B31 {p : Program} {l : Launch} {e : Env} {R : Room} {s : State} {m : MethodId} {args : Array Value} {below : List Frame} {meth : Method} {c : Code} {D : va_G} {cy : Nat → ClassId} {T0 tB tE : Nat} {A : Nat → Prop} {a : Nat → Nat} {post : Int32 → GS → Prop} {k3 : GS → Int32 → Int32 → Prop} {k103 : GS → Prop} (b : Bz p R s m args meth c D cy T0 tB tE A 5 cX12_isKnown RX12 (some .boolean) "isKnown" 0 0 0 0) (hk3 : ∀ (S : GS) (x1 : Int32) (x2 : Int32), k3 S x1 x2 → Z p l e R s m args below meth c D A 5 (MQ below (QI D (U := GS) post (mw cy a) A) args s 0 0 A) 0 0 (mw cy a S) [(0, .ref (a 0)), (1, .int x1), (2, .int x2)] 3 []) (hk103 : ∀ (S : GS), k103 S → Z p l e R s m args below meth c D A 5 (MQ below (QI D (U := GS) post (mw cy a) A) args s 0 0 A) 0 0 (mw cy a S) [] 103 []) (S : GS) (x1 : Int32) (x2 : Int32) (y0 : Int32) (h : w_X12_isKnown_B31 post k3 k103 S x1 x2 y0) : Z p l e R s m args below meth c D A 5 (MQ below (QI D (U := GS) post (mw cy a) A) args s 0 0 A) 0 0 (mw cy a S) [(0, .ref (a 0)), (1, .int x1), (2, .int x2)] 31 [.int y0] := by
  unfold w_X12_isKnown_B31 at h
  refine z_istore_n (lv' := [(3, .int y0), (0, .ref (a 0)), (1, .int x1), (2, .int x2)]) b dX12_isKnown_31 rfl (by decide) rfl ?_
  refine z_iconst (v := 0) b dX12_isKnown_32 (by decide) ?_
  refine z_istore (lv' := [(4, .int 0), (3, .int y0), (0, .ref (a 0)), (1, .int x1), (2, .int x2)]) b dX12_isKnown_33 (by decide) rfl ?_
  refine z_lv0 (lv' := [(0, .ref (a 0)), (1, .int x1), (2, .int x2), (3, .int y0), (4, .int 0)]) [2, 3, 4, 1, 0] rfl ?_
  obtain ⟨n, h⟩ := h
  exact zl_X12_isKnown_L35 b (fun S x1 x2 x3 h => z_X12_isKnown_B91 b hk3 hk103 _ _ _ _ h) n _ _ _ _ _ h

def w_X12_isKnown_F3 (post : Int32 → GS → Prop) (k103 : GS → Prop) (k3 : GS → Int32 → Int32 → Prop) (S : GS) (x1 : Int32) (x2 : Int32) : Prop :=
  ((x1.toInt ≤ x2.toInt → k103 S) ∧ (x2.toInt < x1.toInt → (0 ≤ x2.toInt ∧ x2.toInt < 18) ∧ ((((ar S 18) x2.toNatClampNeg).toInt ≠ ((fi S 2) - (fi S 4)).toInt → w_X12_isKnown_B31 post k3 k103 S x1 x2 0) ∧ (((ar S 18) x2.toNatClampNeg).toInt = ((fi S 2) - (fi S 4)).toInt → w_X12_isKnown_B31 post k3 k103 S x1 x2 1))))

set_option maxHeartbeats 4000000 in
set_option maxRecDepth 100000 in
theorem z_X12_isKnown_F3 {p : Program} {l : Launch} {e : Env} {R : Room} {s : State} {m : MethodId} {args : Array Value} {below : List Frame} {meth : Method} {c : Code} {D : va_G} {cy : Nat → ClassId} {T0 tB tE : Nat} {A : Nat → Prop} {a : Nat → Nat} {post : Int32 → GS → Prop} {k103 : GS → Prop} {k3 : GS → Int32 → Int32 → Prop} (b : Bz p R s m args meth c D cy T0 tB tE A 5 cX12_isKnown RX12 (some .boolean) "isKnown" 0 0 0 0) (hk103 : ∀ (S : GS), k103 S → Z p l e R s m args below meth c D A 5 (MQ below (QI D (U := GS) post (mw cy a) A) args s 0 0 A) 0 0 (mw cy a S) [] 103 []) (hk3 : ∀ (S : GS) (x1 : Int32) (x2 : Int32), k3 S x1 x2 → Z p l e R s m args below meth c D A 5 (MQ below (QI D (U := GS) post (mw cy a) A) args s 0 0 A) 0 0 (mw cy a S) [(0, .ref (a 0)), (1, .int x1), (2, .int x2)] 3 []) (S : GS) (x1 : Int32) (x2 : Int32) (h : w_X12_isKnown_F3 post k103 k3 S x1 x2) : Z p l e R s m args below meth c D A 5 (MQ below (QI D (U := GS) post (mw cy a) A) args s 0 0 A) 0 0 (mw cy a S) [(0, .ref (a 0)), (1, .int x1), (2, .int x2)] 3 [] := by
  unfold w_X12_isKnown_F3 at h
  refine z_iload_n b dX12_isKnown_3 rfl rfl ?_
  refine z_iload_n b dX12_isKnown_4 rfl rfl ?_
  refine y_icmp_ge (tgt := 103) (xl := x2.toInt) (yl := x1.toInt) b rfl rfl dX12_isKnown_5 (by decide) (fun c1 => ?_) (fun c1 => ?_)
  · replace h := h.1 c1
    refine z_lv0 (lv' := []) [] rfl ?_
    exact hk103 _ h
  · replace h := h.2 c1
    refine z_aload_n b dX12_isKnown_8 rfl rfl ?_
    refine z_get (q0 := 0) (k9 := 20) (v := .ref (a 19)) b (mw_0 cy a S) rfl in_X12 (by decide) wf_X12_69 rfl dX12_isKnown_9 ?_
    refine z_iload_n b dX12_isKnown_12 rfl rfl ?_
    obtain ⟨g1, h⟩ := h
    refine y_iald (q0 := 19) (j := x2.toNatClampNeg) (v := ((ar S 18) x2.toNatClampNeg)) b (mw_19 cy a S) (zx_r g1.1 g1.2) rfl dX12_isKnown_13 ?_
    refine z_aload_n b dX12_isKnown_14 rfl rfl ?_
    refine z_get (q0 := 0) (k9 := 26) (v := .int (fi S 2)) b (mw_0 cy a S) rfl in_X12 (by decide) wf_X12_185 rfl dX12_isKnown_15 ?_
    refine z_aload_n b dX12_isKnown_18 rfl rfl ?_
    refine z_get (q0 := 0) (k9 := 28) (v := .int (fi S 4)) b (mw_0 cy a S) rfl in_X12 (by decide) wf_X12_188 rfl dX12_isKnown_19 ?_
    refine z_isub b dX12_isKnown_22 rfl ?_
    refine y_icmp_ne (tgt := 30) (xl := ((ar S 18) x2.toNatClampNeg).toInt) (yl := ((fi S 2) - (fi S 4)).toInt) b rfl rfl dX12_isKnown_23 (by decide) (fun c1 => ?_) (fun c1 => ?_)
    · replace h := h.1 c1
      refine z_iconst (v := 0) b dX12_isKnown_30 (by decide) ?_
      exact z_X12_isKnown_B31 b hk3 hk103 _ _ _ _ h
    · replace h := h.2 c1
      refine z_iconst (v := 1) b dX12_isKnown_26 (by decide) ?_
      refine z_goto (tgt := 31) b dX12_isKnown_27 (by decide) ?_
      exact z_X12_isKnown_B31 b hk3 hk103 _ _ _ _ h

set_option maxHeartbeats 4000000 in
set_option maxRecDepth 100000 in
theorem zl_X12_isKnown_L3 {p : Program} {l : Launch} {e : Env} {R : Room} {s : State} {m : MethodId} {args : Array Value} {below : List Frame} {meth : Method} {c : Code} {D : va_G} {cy : Nat → ClassId} {T0 tB tE : Nat} {A : Nat → Prop} {a : Nat → Nat} {post : Int32 → GS → Prop} {k103 : GS → Prop} (b : Bz p R s m args meth c D cy T0 tB tE A 5 cX12_isKnown RX12 (some .boolean) "isKnown" 0 0 0 0) (hk103 : ∀ (S : GS), k103 S → Z p l e R s m args below meth c D A 5 (MQ below (QI D (U := GS) post (mw cy a) A) args s 0 0 A) 0 0 (mw cy a S) [] 103 []) : ∀ (n : Nat) (S : GS) (x1 : Int32) (x2 : Int32), lpn (w_X12_isKnown_F3 post k103) (fun _ _ _ => False) n S x1 x2 → Z p l e R s m args below meth c D A 5 (MQ below (QI D (U := GS) post (mw cy a) A) args s 0 0 A) 0 0 (mw cy a S) [(0, .ref (a 0)), (1, .int x1), (2, .int x2)] 3 [] := by
  intro n
  induction n with
  | zero => intro _ _ _ h; exact h.elim
  | succ n ih => intro S x1 x2 h; exact z_X12_isKnown_F3 b hk103 ih S x1 x2 h

def w_X12_isKnown_B103 (post : Int32 → GS → Prop) (S : GS)  : Prop :=
  post 0 S

set_option maxHeartbeats 4000000 in
set_option maxRecDepth 100000 in
theorem z_X12_isKnown_B103 {p : Program} {l : Launch} {e : Env} {R : Room} {s : State} {m : MethodId} {args : Array Value} {below : List Frame} {meth : Method} {c : Code} {D : va_G} {cy : Nat → ClassId} {T0 tB tE : Nat} {A : Nat → Prop} {a : Nat → Nat} {post : Int32 → GS → Prop} (b : Bz p R s m args meth c D cy T0 tB tE A 5 cX12_isKnown RX12 (some .boolean) "isKnown" 0 0 0 0) (S : GS)  (h : w_X12_isKnown_B103 post S ) : Z p l e R s m args below meth c D A 5 (MQ below (QI D (U := GS) post (mw cy a) A) args s 0 0 A) 0 0 (mw cy a S) [] 103 [] := by
  unfold w_X12_isKnown_B103 at h
  refine z_iconst (v := 0) b dX12_isKnown_103 (by decide) ?_
  exact z_zret (u := S) b rfl (by decide) dX12_isKnown_104 h rfl (by decide) (by decide)

def w_X12_isKnown (S : GS) (p0 : Int32) (post : Int32 → GS → Prop) : Prop :=
  ∃ n, lpn (w_X12_isKnown_F3 post (w_X12_isKnown_B103 post)) (fun _ _ _ => False) n S p0 12

set_option maxHeartbeats 4000000 in
set_option maxRecDepth 100000 in
theorem k_X12_isKnown {l : Launch} {D : va_G} {cy : Nat → ClassId} {T0 tB tE : Nat} {a : Nat → Nat} (S : GS) (p0 : Int32) (post : Int32 → GS → Prop) (h : w_X12_isKnown S p0 post) : Ct l D cy T0 tB tE yX12_isKnown cX12_isKnown 5 (some .boolean) 0 0 0 0 (mw cy a S) [.ref (a 0), .int p0] (QI D (U := GS) post (mw cy a)) := by
  refine Ct.ofZ RX12 "isKnown" [(0, .ref (a 0)), (1, .int p0)] rfl rfl rfl rfl (Nat.le_of_ble_eq_true rfl) ?_
  intro p e R s m args below meth c A b
  unfold w_X12_isKnown at h
  refine z_bipush (v := 12) b dX12_isKnown_0 (by decide) ?_
  refine z_istore_n (lv' := [(2, .int 12), (0, .ref (a 0)), (1, .int p0)]) b dX12_isKnown_2 rfl (by decide) rfl ?_
  refine z_lv0 (lv' := [(0, .ref (a 0)), (1, .int p0), (2, .int 12)]) [1, 2, 0] rfl ?_
  obtain ⟨n, h⟩ := h
  exact zl_X12_isKnown_L3 b (fun S h => z_X12_isKnown_B103 b _ h) n _ _ _ h

def w_X12_change_B225 (post : Int32 → GS → Prop) (S : GS) (y0 : Int32) : Prop :=
  (y0 = 0 ∨ y0 = 1) ∧ post y0 S

set_option maxHeartbeats 4000000 in
set_option maxRecDepth 100000 in
theorem z_X12_change_B225 {p : Program} {l : Launch} {e : Env} {R : Room} {s : State} {m : MethodId} {args : Array Value} {below : List Frame} {meth : Method} {c : Code} {D : va_G} {cy : Nat → ClassId} {T0 tB tE : Nat} {A : Nat → Prop} {a : Nat → Nat} {post : Int32 → GS → Prop} (b : Bz p R s m args meth c D cy T0 tB tE A 3 cX12_change RX12 (some .boolean) "change" 13 275 0 0) (S : GS) (y0 : Int32) (h : w_X12_change_B225 post S y0) : Z p l e R s m args below meth c D A 3 (MQ below (QI D (U := GS) post (mw cy a) A) args s 0 0 A) 0 0 (mw cy a S) [] 225 [.int y0] := by
  unfold w_X12_change_B225 at h
  obtain ⟨g12, h⟩ := h
  exact z_zret (u := S) b rfl (z_bool g12) dX12_change_225 h rfl (by decide) (by decide)

def w_X12_change_B220 (post : Int32 → GS → Prop) (S : GS)  : Prop :=
  w_X12_change_B225 post S 1

set_option maxHeartbeats 4000000 in
set_option maxRecDepth 100000 in
theorem z_X12_change_B220 {p : Program} {l : Launch} {e : Env} {R : Room} {s : State} {m : MethodId} {args : Array Value} {below : List Frame} {meth : Method} {c : Code} {D : va_G} {cy : Nat → ClassId} {T0 tB tE : Nat} {A : Nat → Prop} {a : Nat → Nat} {post : Int32 → GS → Prop} (b : Bz p R s m args meth c D cy T0 tB tE A 3 cX12_change RX12 (some .boolean) "change" 13 275 0 0) (S : GS)  (h : w_X12_change_B220 post S ) : Z p l e R s m args below meth c D A 3 (MQ below (QI D (U := GS) post (mw cy a) A) args s 0 0 A) 0 0 (mw cy a S) [] 220 [] := by
  unfold w_X12_change_B220 at h
  refine z_iconst (v := 1) b dX12_change_220 (by decide) ?_
  refine z_goto (tgt := 225) b dX12_change_221 (by decide) ?_
  exact z_X12_change_B225 b _ _ h

def w_X12_change_B212 (post : Int32 → GS → Prop) (S : GS) (x1 : Int32) : Prop :=
  w_X12_much S x1 (fun r10 S11 => ((r10.toInt = 0 → w_X12_change_B225 post S11 0) ∧ (r10.toInt ≠ 0 → w_X12_change_B220 post S11)))

set_option maxHeartbeats 4000000 in
set_option maxRecDepth 100000 in
theorem z_X12_change_B212 {p : Program} {l : Launch} {e : Env} {R : Room} {s : State} {m : MethodId} {args : Array Value} {below : List Frame} {meth : Method} {c : Code} {D : va_G} {cy : Nat → ClassId} {T0 tB tE : Nat} {A : Nat → Prop} {a : Nat → Nat} {post : Int32 → GS → Prop} (b : Bz p R s m args meth c D cy T0 tB tE A 3 cX12_change RX12 (some .boolean) "change" 13 275 0 0) (S : GS) (x1 : Int32) (h : w_X12_change_B212 post S x1) : Z p l e R s m args below meth c D A 3 (MQ below (QI D (U := GS) post (mw cy a) A) args s 0 0 A) 0 0 (mw cy a S) [(0, .ref (a 0)), (1, .int x1)] 212 [] := by
  unfold w_X12_change_B212 at h
  refine z_aload_n b dX12_change_212 rfl rfl ?_
  refine z_iload_n b dX12_change_213 rfl rfl ?_
  refine z_calli b (z_runV (q0 := 0) (As := [.int x1]) (st := []) b (k_X12_much S x1 _ h) cf_X12_much (mw_0 cy a S) rfl wm_X12_318 wi_X12_much ws_X12_much dX12_change_214 rfl (Nat.le_of_ble_eq_true rfl) ⟨by decide, by decide, by decide, by decide⟩) (fun r10 S11 h => ?_)
  refine y_if_eq (tgt := 224) (xl := r10.toInt) b rfl dX12_change_217 (by decide) (fun c1 => ?_) (fun c1 => ?_)
  · replace h := h.1 c1
    refine z_iconst (v := 0) b dX12_change_224 (by decide) ?_
    refine z_lv0 (lv' := []) [] rfl ?_
    exact z_X12_change_B225 b _ _ h
  · replace h := h.2 c1
    refine z_lv0 (lv' := []) [] rfl ?_
    exact z_X12_change_B220 b _ h

def w_X12_change_B178 (post : Int32 → GS → Prop) (S : GS) (x1 : Int32) (x2 : Int32) : Prop :=
  (0 ≤ x1.toInt ∧ x1.toInt < 108) ∧ (0 ≤ x1.toInt ∧ x1.toInt < 108) ∧ ((x2.toInt = 304 → w_X12_change_B212 post (su (su S 13 (x1.toNatClampNeg) (fi S 10)) 14 (x1.toNatClampNeg) (fi S 11)) x1) ∧ (x2.toInt ≠ 304 → ((x2.toInt ≠ 305 → w_X12_change_B220 post (su (su S 13 (x1.toNatClampNeg) (fi S 10)) 14 (x1.toNatClampNeg) (fi S 11))) ∧ (x2.toInt = 305 → w_X12_change_B212 post (su (su S 13 (x1.toNatClampNeg) (fi S 10)) 14 (x1.toNatClampNeg) (fi S 11)) x1))))

set_option maxHeartbeats 4000000 in
set_option maxRecDepth 100000 in
theorem z_X12_change_B178 {p : Program} {l : Launch} {e : Env} {R : Room} {s : State} {m : MethodId} {args : Array Value} {below : List Frame} {meth : Method} {c : Code} {D : va_G} {cy : Nat → ClassId} {T0 tB tE : Nat} {A : Nat → Prop} {a : Nat → Nat} {post : Int32 → GS → Prop} (b : Bz p R s m args meth c D cy T0 tB tE A 3 cX12_change RX12 (some .boolean) "change" 13 275 0 0) (S : GS) (x1 : Int32) (x2 : Int32) (h : w_X12_change_B178 post S x1 x2) : Z p l e R s m args below meth c D A 3 (MQ below (QI D (U := GS) post (mw cy a) A) args s 0 0 A) 0 0 (mw cy a S) [(0, .ref (a 0)), (1, .int x1), (2, .int x2)] 178 [] := by
  unfold w_X12_change_B178 at h
  refine z_aload_n b dX12_change_178 rfl rfl ?_
  refine z_get (q0 := 0) (k9 := 15) (v := .ref (a 14)) b (mw_0 cy a S) rfl in_X12 (by decide) wf_X12_54 rfl dX12_change_179 ?_
  refine z_iload_n b dX12_change_182 rfl rfl ?_
  refine z_aload_n b dX12_change_183 rfl rfl ?_
  refine z_get (q0 := 0) (k9 := 34) (v := .int (fi S 10)) b (mw_0 cy a S) rfl in_X12 (by decide) wf_X12_269 rfl dX12_change_184 ?_
  obtain ⟨g8, h⟩ := h
  refine y_iast (q0 := 14) (j := x1.toNatClampNeg) b (mw_14 cy a S) (zx_r g8.1 g8.2) dX12_change_187 (mwa_14 cy a S (x1.toNatClampNeg) (fi S 10)) ?_
  refine z_aload_n b dX12_change_188 rfl rfl ?_
  refine z_get (q0 := 0) (k9 := 16) (v := .ref (a 15)) b (mw_0 cy a (su S 13 (x1.toNatClampNeg) (fi S 10))) rfl in_X12 (by decide) wf_X12_57 rfl dX12_change_189 ?_
  refine z_iload_n b dX12_change_192 rfl rfl ?_
  refine z_aload_n b dX12_change_193 rfl rfl ?_
  refine z_get (q0 := 0) (k9 := 35) (v := .int (fi S 11)) b (mw_0 cy a (su S 13 (x1.toNatClampNeg) (fi S 10))) rfl in_X12 (by decide) wf_X12_279 rfl dX12_change_194 ?_
  obtain ⟨g9, h⟩ := h
  refine y_iast (q0 := 15) (j := x1.toNatClampNeg) b (mw_15 cy a (su S 13 (x1.toNatClampNeg) (fi S 10))) (zx_r g9.1 g9.2) dX12_change_197 (mwa_15 cy a (su S 13 (x1.toNatClampNeg) (fi S 10)) (x1.toNatClampNeg) (fi S 11)) ?_
  refine z_iload_n b dX12_change_198 rfl rfl ?_
  refine z_sipush (v := 304) b dX12_change_199 (by decide) ?_
  refine y_icmp_eq (tgt := 212) (xl := x2.toInt) (yl := 304) b rfl (by decide) dX12_change_202 (by decide) (fun c1 => ?_) (fun c1 => ?_)
  · replace h := h.1 c1
    refine z_lv0 (lv' := [(0, .ref (a 0)), (1, .int x1)]) [0, 1] rfl ?_
    exact z_X12_change_B212 b _ _ h
  · replace h := h.2 c1
    refine z_iload_n b dX12_change_205 rfl rfl ?_
    refine z_sipush (v := 305) b dX12_change_206 (by decide) ?_
    refine y_icmp_ne (tgt := 220) (xl := x2.toInt) (yl := 305) b rfl (by decide) dX12_change_209 (by decide) (fun c1 => ?_) (fun c1 => ?_)
    · replace h := h.1 c1
      refine z_lv0 (lv' := []) [] rfl ?_
      exact z_X12_change_B220 b _ h
    · replace h := h.2 c1
      refine z_lv0 (lv' := [(0, .ref (a 0)), (1, .int x1)]) [0, 1] rfl ?_
      exact z_X12_change_B212 b _ _ h

def w_X12_change_B176 (post : Int32 → GS → Prop) (S : GS)  : Prop :=
  post 0 S

set_option maxHeartbeats 4000000 in
set_option maxRecDepth 100000 in
theorem z_X12_change_B176 {p : Program} {l : Launch} {e : Env} {R : Room} {s : State} {m : MethodId} {args : Array Value} {below : List Frame} {meth : Method} {c : Code} {D : va_G} {cy : Nat → ClassId} {T0 tB tE : Nat} {A : Nat → Prop} {a : Nat → Nat} {post : Int32 → GS → Prop} (b : Bz p R s m args meth c D cy T0 tB tE A 3 cX12_change RX12 (some .boolean) "change" 13 275 0 0) (S : GS)  (h : w_X12_change_B176 post S ) : Z p l e R s m args below meth c D A 3 (MQ below (QI D (U := GS) post (mw cy a) A) args s 0 0 A) 0 0 (mw cy a S) [] 176 [] := by
  unfold w_X12_change_B176 at h
  refine z_iconst (v := 0) b dX12_change_176 (by decide) ?_
  exact z_zret (u := S) b rfl (by decide) dX12_change_177 h rfl (by decide) (by decide)

def w_X12_change_B159 (post : Int32 → GS → Prop) (S : GS) (x1 : Int32) (x2 : Int32) : Prop :=
  w_X12_person S (fun r6 S7 => ((r6.toInt ≠ 0 → w_X12_change_B178 post S7 x1 x2) ∧ (r6.toInt = 0 → w_X12_change_B176 post S7)))

set_option maxHeartbeats 4000000 in
set_option maxRecDepth 100000 in
theorem z_X12_change_B159 {p : Program} {l : Launch} {e : Env} {R : Room} {s : State} {m : MethodId} {args : Array Value} {below : List Frame} {meth : Method} {c : Code} {D : va_G} {cy : Nat → ClassId} {T0 tB tE : Nat} {A : Nat → Prop} {a : Nat → Nat} {post : Int32 → GS → Prop} (b : Bz p R s m args meth c D cy T0 tB tE A 3 cX12_change RX12 (some .boolean) "change" 13 275 0 0) (S : GS) (x1 : Int32) (x2 : Int32) (h : w_X12_change_B159 post S x1 x2) : Z p l e R s m args below meth c D A 3 (MQ below (QI D (U := GS) post (mw cy a) A) args s 0 0 A) 0 0 (mw cy a S) [(0, .ref (a 0)), (1, .int x1), (2, .int x2)] 159 [] := by
  unfold w_X12_change_B159 at h
  refine z_aload_n b dX12_change_159 rfl rfl ?_
  refine z_calli b (z_runV (q0 := 0) (As := []) (st := []) b (k_X12_person S _ h) cf_X12_person (mw_0 cy a S) rfl wm_X12_276 wi_X12_person ws_X12_person dX12_change_160 rfl (Nat.le_of_ble_eq_true rfl) ⟨by decide, by decide, by decide, by decide⟩) (fun r6 S7 h => ?_)
  refine y_if_ne (tgt := 178) (xl := r6.toInt) b rfl dX12_change_163 (by decide) (fun c1 => ?_) (fun c1 => ?_)
  · replace h := h.1 c1
    exact z_X12_change_B178 b _ _ _ h
  · replace h := h.2 c1
    refine z_goto (tgt := 176) b dX12_change_166 (by decide) ?_
    refine z_lv0 (lv' := []) [] rfl ?_
    exact z_X12_change_B176 b _ h

def w_X12_change_B145 (post : Int32 → GS → Prop) (S : GS) (x1 : Int32) (x2 : Int32) : Prop :=
  ((x2.toInt = 304 → w_X12_change_B159 post S x1 x2) ∧ (x2.toInt ≠ 304 → ((x2.toInt ≠ 306 → w_X12_persons S (fun r13 S14 => ((r13.toInt ≠ 0 → w_X12_change_B178 post S14 x1 x2) ∧ (r13.toInt = 0 → w_X12_change_B176 post S14)))) ∧ (x2.toInt = 306 → w_X12_change_B159 post S x1 x2))))

set_option maxHeartbeats 4000000 in
set_option maxRecDepth 100000 in
theorem z_X12_change_B145 {p : Program} {l : Launch} {e : Env} {R : Room} {s : State} {m : MethodId} {args : Array Value} {below : List Frame} {meth : Method} {c : Code} {D : va_G} {cy : Nat → ClassId} {T0 tB tE : Nat} {A : Nat → Prop} {a : Nat → Nat} {post : Int32 → GS → Prop} (b : Bz p R s m args meth c D cy T0 tB tE A 3 cX12_change RX12 (some .boolean) "change" 13 275 0 0) (S : GS) (x1 : Int32) (x2 : Int32) (h : w_X12_change_B145 post S x1 x2) : Z p l e R s m args below meth c D A 3 (MQ below (QI D (U := GS) post (mw cy a) A) args s 0 0 A) 0 0 (mw cy a S) [(0, .ref (a 0)), (1, .int x1), (2, .int x2)] 145 [] := by
  unfold w_X12_change_B145 at h
  refine z_iload_n b dX12_change_145 rfl rfl ?_
  refine z_sipush (v := 304) b dX12_change_146 (by decide) ?_
  refine y_icmp_eq (tgt := 159) (xl := x2.toInt) (yl := 304) b rfl (by decide) dX12_change_149 (by decide) (fun c1 => ?_) (fun c1 => ?_)
  · replace h := h.1 c1
    exact z_X12_change_B159 b _ _ _ h
  · replace h := h.2 c1
    refine z_iload_n b dX12_change_152 rfl rfl ?_
    refine z_sipush (v := 306) b dX12_change_153 (by decide) ?_
    refine y_icmp_ne (tgt := 169) (xl := x2.toInt) (yl := 306) b rfl (by decide) dX12_change_156 (by decide) (fun c1 => ?_) (fun c1 => ?_)
    · replace h := h.1 c1
      refine z_aload_n b dX12_change_169 rfl rfl ?_
      refine z_calli b (z_runV (q0 := 0) (As := []) (st := []) b (k_X12_persons S _ h) cf_X12_persons (mw_0 cy a S) rfl wm_X12_295 wi_X12_persons ws_X12_persons dX12_change_170 rfl (Nat.le_of_ble_eq_true rfl) ⟨by decide, by decide, by decide, by decide⟩) (fun r13 S14 h => ?_)
      refine y_if_ne (tgt := 178) (xl := r13.toInt) b rfl dX12_change_173 (by decide) (fun c1 => ?_) (fun c1 => ?_)
      · replace h := h.1 c1
        exact z_X12_change_B178 b _ _ _ h
      · replace h := h.2 c1
        refine z_lv0 (lv' := []) [] rfl ?_
        exact z_X12_change_B176 b _ h
    · replace h := h.2 c1
      exact z_X12_change_B159 b _ _ _ h

def w_X12_change_B109 (post : Int32 → GS → Prop) (S : GS) (y0 : Int32) : Prop :=
  (y0 = 0 ∨ y0 = 1) ∧ post y0 S

set_option maxHeartbeats 4000000 in
set_option maxRecDepth 100000 in
theorem z_X12_change_B109 {p : Program} {l : Launch} {e : Env} {R : Room} {s : State} {m : MethodId} {args : Array Value} {below : List Frame} {meth : Method} {c : Code} {D : va_G} {cy : Nat → ClassId} {T0 tB tE : Nat} {A : Nat → Prop} {a : Nat → Nat} {post : Int32 → GS → Prop} (b : Bz p R s m args meth c D cy T0 tB tE A 3 cX12_change RX12 (some .boolean) "change" 13 275 0 0) (S : GS) (y0 : Int32) (h : w_X12_change_B109 post S y0) : Z p l e R s m args below meth c D A 3 (MQ below (QI D (U := GS) post (mw cy a) A) args s 0 0 A) 0 0 (mw cy a S) [] 109 [.int y0] := by
  unfold w_X12_change_B109 at h
  obtain ⟨g20, h⟩ := h
  exact z_zret (u := S) b rfl (z_bool g20) dX12_change_109 h rfl (by decide) (by decide)

def w_X12_change_B51 (post : Int32 → GS → Prop) (S : GS) (x1 : Int32) (x2 : Int32) : Prop :=
  (0 ≤ x1.toInt ∧ x1.toInt < 108) ∧ (0 ≤ x1.toInt ∧ x1.toInt < 108) ∧ (0 ≤ x1.toInt ∧ x1.toInt < 108) ∧ w_X12_next0 (su (su (su S 12 (x1.toNatClampNeg) (x2 - 304)) 15 (x1.toNatClampNeg) 0) 16 (x1.toNatClampNeg) 0) (fun S5 => ((x2.toInt ≠ 311 → ((x2.toInt ≠ 306 → w_X12_change_B145 post S5 x1 x2) ∧ (x2.toInt = 306 → (((fi S5 3).toInt ≠ 307 → w_X12_change_B145 post (si S5 15 1) x1 x2) ∧ ((fi S5 3).toInt = 307 → (0 ≤ x1.toInt ∧ x1.toInt < 108) ∧ w_X12_next0 (su (si S5 15 1) 13 (x1.toNatClampNeg) 3) (fun S17 => post 1 S17)))))) ∧ (x2.toInt = 311 → (((fi S5 3).toInt ≠ 43 → w_X12_bad S5 1 (fun r18 S19 => w_X12_change_B109 post S19 r18)) ∧ ((fi S5 3).toInt = 43 → w_X12_much S5 x1 (fun r21 S22 => w_X12_change_B109 post S22 r21))))))

set_option maxHeartbeats 4000000 in
set_option maxRecDepth 100000 in
theorem z_X12_change_B51 {p : Program} {l : Launch} {e : Env} {R : Room} {s : State} {m : MethodId} {args : Array Value} {below : List Frame} {meth : Method} {c : Code} {D : va_G} {cy : Nat → ClassId} {T0 tB tE : Nat} {A : Nat → Prop} {a : Nat → Nat} {post : Int32 → GS → Prop} (b : Bz p R s m args meth c D cy T0 tB tE A 3 cX12_change RX12 (some .boolean) "change" 13 275 0 0) (S : GS) (x1 : Int32) (x2 : Int32) (h : w_X12_change_B51 post S x1 x2) : Z p l e R s m args below meth c D A 3 (MQ below (QI D (U := GS) post (mw cy a) A) args s 0 0 A) 0 0 (mw cy a S) [(0, .ref (a 0)), (1, .int x1), (2, .int x2)] 51 [] := by
  unfold w_X12_change_B51 at h
  refine z_aload_n b dX12_change_51 rfl rfl ?_
  refine z_get (q0 := 0) (k9 := 14) (v := .ref (a 13)) b (mw_0 cy a S) rfl in_X12 (by decide) wf_X12_51 rfl dX12_change_52 ?_
  refine z_iload_n b dX12_change_55 rfl rfl ?_
  refine z_iload_n b dX12_change_56 rfl rfl ?_
  refine z_sipush (v := 304) b dX12_change_57 (by decide) ?_
  refine z_isub b dX12_change_60 rfl ?_
  obtain ⟨g1, h⟩ := h
  refine y_iast (q0 := 13) (j := x1.toNatClampNeg) b (mw_13 cy a S) (zx_r g1.1 g1.2) dX12_change_61 (mwa_13 cy a S (x1.toNatClampNeg) (x2 - 304)) ?_
  refine z_aload_n b dX12_change_62 rfl rfl ?_
  refine z_get (q0 := 0) (k9 := 17) (v := .ref (a 16)) b (mw_0 cy a (su S 12 (x1.toNatClampNeg) (x2 - 304))) rfl in_X12 (by decide) wf_X12_60 rfl dX12_change_63 ?_
  refine z_iload_n b dX12_change_66 rfl rfl ?_
  refine z_iconst (v := 0) b dX12_change_67 (by decide) ?_
  obtain ⟨g2, h⟩ := h
  refine y_iast (q0 := 16) (j := x1.toNatClampNeg) b (mw_16 cy a (su S 12 (x1.toNatClampNeg) (x2 - 304))) (zx_r g2.1 g2.2) dX12_change_68 (mwa_16 cy a (su S 12 (x1.toNatClampNeg) (x2 - 304)) (x1.toNatClampNeg) 0) ?_
  refine z_aload_n b dX12_change_69 rfl rfl ?_
  refine z_get (q0 := 0) (k9 := 18) (v := .ref (a 17)) b (mw_0 cy a (su (su S 12 (x1.toNatClampNeg) (x2 - 304)) 15 (x1.toNatClampNeg) 0)) rfl in_X12 (by decide) wf_X12_63 rfl dX12_change_70 ?_
  refine z_iload_n b dX12_change_73 rfl rfl ?_
  refine z_iconst (v := 0) b dX12_change_74 (by decide) ?_
  obtain ⟨g3, h⟩ := h
  refine y_iast (q0 := 17) (j := x1.toNatClampNeg) b (mw_17 cy a (su (su S 12 (x1.toNatClampNeg) (x2 - 304)) 15 (x1.toNatClampNeg) 0)) (zx_r g3.1 g3.2) dX12_change_75 (mwa_17 cy a (su (su S 12 (x1.toNatClampNeg) (x2 - 304)) 15 (x1.toNatClampNeg) 0) (x1.toNatClampNeg) 0) ?_
  refine z_aload_n b dX12_change_76 rfl rfl ?_
  refine z_callv b (z_runV (q0 := 0) (As := []) (st := []) b (k_X12_next0 (su (su (su S 12 (x1.toNatClampNeg) (x2 - 304)) 15 (x1.toNatClampNeg) 0) 16 (x1.toNatClampNeg) 0) _ h) cf_X12_next0 (mw_0 cy a (su (su (su S 12 (x1.toNatClampNeg) (x2 - 304)) 15 (x1.toNatClampNeg) 0) 16 (x1.toNatClampNeg) 0)) rfl wm_X12_266 wi_X12_next0 ws_X12_next0 dX12_change_77 rfl (Nat.le_of_ble_eq_true rfl) ⟨by decide, by decide, by decide, by decide⟩) (fun S5 h => ?_)
  refine z_iload_n b dX12_change_80 rfl rfl ?_
  refine z_sipush (v := 311) b dX12_change_81 (by decide) ?_
  refine y_icmp_ne (tgt := 110) (xl := x2.toInt) (yl := 311) b rfl (by decide) dX12_change_84 (by decide) (fun c1 => ?_) (fun c1 => ?_)
  · replace h := h.1 c1
    refine z_iload_n b dX12_change_110 rfl rfl ?_
    refine z_sipush (v := 306) b dX12_change_111 (by decide) ?_
    refine y_icmp_ne (tgt := 145) (xl := x2.toInt) (yl := 306) b rfl (by decide) dX12_change_114 (by decide) (fun c1 => ?_) (fun c1 => ?_)
    · replace h := h.1 c1
      exact z_X12_change_B145 b _ _ _ h
    · replace h := h.2 c1
      refine z_aload_n b dX12_change_117 rfl rfl ?_
      refine z_iconst (v := 1) b dX12_change_118 (by decide) ?_
      refine z_put (q0 := 0) (k9 := 39) tyX12 b (mw_0 cy a S5) rfl in_X12 tyX12_ok nmX12 (by decide) wf_X12_298 rfl rfl rfl rfl (Nat.le_of_ble_eq_true rfl) dX12_change_119 (mwp_0_39 cy a S5 1) ?_
      refine z_aload_n b dX12_change_122 rfl rfl ?_
      refine z_get (q0 := 0) (k9 := 27) (v := .int (fi S5 3)) b (mw_0 cy a (si S5 15 1)) rfl in_X12 (by decide) wf_X12_242 rfl dX12_change_123 ?_
      refine z_sipush (v := 307) b dX12_change_126 (by decide) ?_
      refine y_icmp_ne (tgt := 145) (xl := (fi S5 3).toInt) (yl := 307) b rfl (by decide) dX12_change_129 (by decide) (fun c1 => ?_) (fun c1 => ?_)
      · replace h := h.1 c1
        exact z_X12_change_B145 b _ _ _ h
      · replace h := h.2 c1
        refine z_aload_n b dX12_change_132 rfl rfl ?_
        refine z_get (q0 := 0) (k9 := 15) (v := .ref (a 14)) b (mw_0 cy a (si S5 15 1)) rfl in_X12 (by decide) wf_X12_54 rfl dX12_change_133 ?_
        refine z_iload_n b dX12_change_136 rfl rfl ?_
        refine z_iconst (v := 3) b dX12_change_137 (by decide) ?_
        obtain ⟨g15, h⟩ := h
        refine y_iast (q0 := 14) (j := x1.toNatClampNeg) b (mw_14 cy a (si S5 15 1)) (zx_r g15.1 g15.2) dX12_change_138 (mwa_14 cy a (si S5 15 1) (x1.toNatClampNeg) 3) ?_
        refine z_aload_n b dX12_change_139 rfl rfl ?_
        refine z_callv b (z_runV (q0 := 0) (As := []) (st := []) b (k_X12_next0 (su (si S5 15 1) 13 (x1.toNatClampNeg) 3) _ h) cf_X12_next0 (mw_0 cy a (su (si S5 15 1) 13 (x1.toNatClampNeg) 3)) rfl wm_X12_266 wi_X12_next0 ws_X12_next0 dX12_change_140 rfl (Nat.le_of_ble_eq_true rfl) ⟨by decide, by decide, by decide, by decide⟩) (fun S17 h => ?_)
        refine z_iconst (v := 1) b dX12_change_143 (by decide) ?_
        exact z_zret (u := S17) b rfl (by decide) dX12_change_144 h rfl (by decide) (by decide)
  · replace h := h.2 c1
    refine z_aload_n b dX12_change_87 rfl rfl ?_
    refine z_get (q0 := 0) (k9 := 27) (v := .int (fi S5 3)) b (mw_0 cy a S5) rfl in_X12 (by decide) wf_X12_242 rfl dX12_change_88 ?_
    refine z_bipush (v := 43) b dX12_change_91 (by decide) ?_
    refine y_icmp_ne (tgt := 104) (xl := (fi S5 3).toInt) (yl := 43) b rfl (by decide) dX12_change_93 (by decide) (fun c1 => ?_) (fun c1 => ?_)
    · replace h := h.1 c1
      refine z_aload_n b dX12_change_104 rfl rfl ?_
      refine z_iconst (v := 1) b dX12_change_105 (by decide) ?_
      refine z_calli b (z_runV (q0 := 0) (As := [.int 1]) (st := []) b (k_X12_bad S5 1 _ h) cf_X12_bad (mw_0 cy a S5) rfl wm_X12_263 wi_X12_bad ws_X12_bad dX12_change_106 rfl (Nat.le_of_ble_eq_true rfl) ⟨by decide, by decide, by decide, by decide⟩) (fun r18 S19 h => ?_)
      refine z_lv0 (lv' := []) [] rfl ?_
      exact z_X12_change_B109 b _ _ h
    · replace h := h.2 c1
      refine z_aload_n b dX12_change_96 rfl rfl ?_
      refine z_iload_n b dX12_change_97 rfl rfl ?_
      refine z_calli b (z_runV (q0 := 0) (As := [.int x1]) (st := []) b (k_X12_much S5 x1 _ h) cf_X12_much (mw_0 cy a S5) rfl wm_X12_318 wi_X12_much ws_X12_much dX12_change_98 rfl (Nat.le_of_ble_eq_true rfl) ⟨by decide, by decide, by decide, by decide⟩) (fun r21 S22 h => ?_)
      refine z_goto (tgt := 109) b dX12_change_101 (by decide) ?_
      refine z_lv0 (lv' := []) [] rfl ?_
      exact z_X12_change_B109 b _ _ h

def w_X12_change (S : GS) (p0 : Int32) (post : Int32 → GS → Prop) : Prop :=
  (((fi S 3).toInt = 304 → w_X12_change_B51 post S p0 (fi S 3)) ∧ ((fi S 3).toInt ≠ 304 → (((fi S 3).toInt = 305 → w_X12_change_B51 post S p0 (fi S 3)) ∧ ((fi S 3).toInt ≠ 305 → w_X12_isIn S (fi S 3) 306 306 (fun r23 S24 => ((r23.toInt ≠ 0 → w_X12_change_B51 post S24 p0 (fi S 3)) ∧ (r23.toInt = 0 → w_X12_isIn S24 (fi S 3) 308 311 (fun r25 S26 => ((r25.toInt ≠ 0 → w_X12_change_B51 post S26 p0 (fi S 3)) ∧ (r25.toInt = 0 → w_X12_bad S26 1 (fun r27 S28 => (r27 = 0 ∨ r27 = 1) ∧ post r27 S28)))))))))))

set_option maxHeartbeats 4000000 in
set_option maxRecDepth 100000 in
theorem k_X12_change {l : Launch} {D : va_G} {cy : Nat → ClassId} {T0 tB tE : Nat} {a : Nat → Nat} (S : GS) (p0 : Int32) (post : Int32 → GS → Prop) (h : w_X12_change S p0 post) : Ct l D cy T0 tB tE yX12_change cX12_change 3 (some .boolean) 13 275 0 0 (mw cy a S) [.ref (a 0), .int p0] (QI D (U := GS) post (mw cy a)) := by
  refine Ct.ofZ RX12 "change" [(0, .ref (a 0)), (1, .int p0)] rfl rfl rfl rfl (Nat.le_of_ble_eq_true rfl) ?_
  intro p e R s m args below meth c A b
  unfold w_X12_change at h
  refine z_aload_n b dX12_change_0 rfl rfl ?_
  refine z_get (q0 := 0) (k9 := 27) (v := .int (fi S 3)) b (mw_0 cy a S) rfl in_X12 (by decide) wf_X12_242 rfl dX12_change_1 ?_
  refine z_istore_n (lv' := [(2, .int (fi S 3)), (0, .ref (a 0)), (1, .int p0)]) b dX12_change_4 rfl (by decide) rfl ?_
  refine z_iload_n b dX12_change_5 rfl rfl ?_
  refine z_sipush (v := 304) b dX12_change_6 (by decide) ?_
  refine y_icmp_eq (tgt := 51) (xl := (fi S 3).toInt) (yl := 304) b rfl (by decide) dX12_change_9 (by decide) (fun c1 => ?_) (fun c1 => ?_)
  · replace h := h.1 c1
    refine z_lv0 (lv' := [(0, .ref (a 0)), (1, .int p0), (2, .int (fi S 3))]) [1, 2, 0] rfl ?_
    exact z_X12_change_B51 b _ _ _ h
  · replace h := h.2 c1
    refine z_iload_n b dX12_change_12 rfl rfl ?_
    refine z_sipush (v := 305) b dX12_change_13 (by decide) ?_
    refine y_icmp_eq (tgt := 51) (xl := (fi S 3).toInt) (yl := 305) b rfl (by decide) dX12_change_16 (by decide) (fun c1 => ?_) (fun c1 => ?_)
    · replace h := h.1 c1
      refine z_lv0 (lv' := [(0, .ref (a 0)), (1, .int p0), (2, .int (fi S 3))]) [1, 2, 0] rfl ?_
      exact z_X12_change_B51 b _ _ _ h
    · replace h := h.2 c1
      refine z_iload_n b dX12_change_19 rfl rfl ?_
      refine z_sipush (v := 306) b dX12_change_20 (by decide) ?_
      refine z_sipush (v := 306) b dX12_change_23 (by decide) ?_
      refine z_calli b (z_runS (As := [.int (fi S 3), .int 306, .int 306]) (st := []) b (k_X12_isIn S (fi S 3) 306 306 _ h) cf_X12_isIn wm_X12_1 ws_X12_isIn dX12_change_26 rfl (Nat.le_of_ble_eq_true rfl) ⟨by decide, by decide, by decide, by decide⟩) (fun r23 S24 h => ?_)
      refine y_if_ne (tgt := 51) (xl := r23.toInt) b rfl dX12_change_29 (by decide) (fun c1 => ?_) (fun c1 => ?_)
      · replace h := h.1 c1
        refine z_lv0 (lv' := [(0, .ref (a 0)), (1, .int p0), (2, .int (fi S 3))]) [1, 2, 0] rfl ?_
        exact z_X12_change_B51 b _ _ _ h
      · replace h := h.2 c1
        refine z_iload_n b dX12_change_32 rfl rfl ?_
        refine z_sipush (v := 308) b dX12_change_33 (by decide) ?_
        refine z_sipush (v := 311) b dX12_change_36 (by decide) ?_
        refine z_calli b (z_runS (As := [.int (fi S 3), .int 308, .int 311]) (st := []) b (k_X12_isIn S24 (fi S 3) 308 311 _ h) cf_X12_isIn wm_X12_1 ws_X12_isIn dX12_change_39 rfl (Nat.le_of_ble_eq_true rfl) ⟨by decide, by decide, by decide, by decide⟩) (fun r25 S26 h => ?_)
        refine y_if_ne (tgt := 51) (xl := r25.toInt) b rfl dX12_change_42 (by decide) (fun c1 => ?_) (fun c1 => ?_)
        · replace h := h.1 c1
          refine z_lv0 (lv' := [(0, .ref (a 0)), (1, .int p0), (2, .int (fi S 3))]) [1, 2, 0] rfl ?_
          exact z_X12_change_B51 b _ _ _ h
        · replace h := h.2 c1
          refine z_aload_n b dX12_change_45 rfl rfl ?_
          refine z_iconst (v := 1) b dX12_change_46 (by decide) ?_
          refine z_calli b (z_runV (q0 := 0) (As := [.int 1]) (st := []) b (k_X12_bad S26 1 _ h) cf_X12_bad (mw_0 cy a S26) rfl wm_X12_263 wi_X12_bad ws_X12_bad dX12_change_47 rfl (Nat.le_of_ble_eq_true rfl) ⟨by decide, by decide, by decide, by decide⟩) (fun r27 S28 h => ?_)
          obtain ⟨g29, h⟩ := h
          exact z_zret (u := S28) b rfl (z_bool g29) dX12_change_50 h rfl (by decide) (by decide)

def w_X12_anAct_B291 (post : Int32 → GS → Prop) (k124 : GS → Int32 → Prop) (k294 : GS → Int32 → Prop) (S : GS) (x1 : Int32) : Prop :=
  k124 S x1

set_option maxHeartbeats 4000000 in
set_option maxRecDepth 100000 in
theorem z_X12_anAct_B291 {p : Program} {l : Launch} {e : Env} {R : Room} {s : State} {m : MethodId} {args : Array Value} {below : List Frame} {meth : Method} {c : Code} {D : va_G} {cy : Nat → ClassId} {T0 tB tE : Nat} {A : Nat → Prop} {a : Nat → Nat} {post : Int32 → GS → Prop} {k124 : GS → Int32 → Prop} {k294 : GS → Int32 → Prop} (b : Bz p R s m args meth c D cy T0 tB tE A 4 cX12_anAct RX12 (some .boolean) "anAct" 46 945 0 0) (hk124 : ∀ (S : GS) (x1 : Int32), k124 S x1 → Z p l e R s m args below meth c D A 4 (MQ below (QI D (U := GS) post (mw cy a) A) args s 0 0 A) 0 0 (mw cy a S) [(0, .ref (a 0)), (1, .int x1)] 124 []) (hk294 : ∀ (S : GS) (x1 : Int32), k294 S x1 → Z p l e R s m args below meth c D A 4 (MQ below (QI D (U := GS) post (mw cy a) A) args s 0 0 A) 0 0 (mw cy a S) [(0, .ref (a 0)), (1, .int x1)] 294 []) (S : GS) (x1 : Int32) (h : w_X12_anAct_B291 post k124 k294 S x1) : Z p l e R s m args below meth c D A 4 (MQ below (QI D (U := GS) post (mw cy a) A) args s 0 0 A) 0 0 (mw cy a S) [(0, .ref (a 0)), (1, .int x1)] 291 [] := by
  unfold w_X12_anAct_B291 at h
  refine z_goto (tgt := 124) b dX12_anAct_291 (by decide) ?_
  exact hk124 _ _ h

def w_X12_anAct_B194 (post : Int32 → GS → Prop) (k124 : GS → Int32 → Prop) (k294 : GS → Int32 → Prop) (S : GS) (x1 : Int32) (x2 : Int32) : Prop :=
  w_X12_next0 S (fun S13 => ((x2.toInt = 0 → (0 ≤ x1.toInt ∧ x1.toInt < 18) ∧ w_X12_change S13 (((6 : Int32) * x1) + ((ar S13 9) x1.toNatClampNeg)) (fun r15 S16 => ((r15.toInt ≠ 0 → (0 ≤ x1.toInt ∧ x1.toInt < 18) ∧ (0 ≤ x1.toInt ∧ x1.toInt < 18) ∧ w_X12_anAct_B291 post k124 k294 (su S16 9 (x1.toNatClampNeg) (((ar S16 9) x1.toNatClampNeg) + 1)) x1) ∧ (r15.toInt = 0 → post 0 S16)))) ∧ (x2.toInt ≠ 0 → (0 ≤ x1.toInt ∧ x1.toInt < 18) ∧ (0 ≤ (((4 : Int32) * x1) + ((ar S13 8) x1.toNatClampNeg)).toInt ∧ (((4 : Int32) * x1) + ((ar S13 8) x1.toNatClampNeg)).toInt < 72) ∧ w_X12_asked (su S13 10 ((((4 : Int32) * x1) + ((ar S13 8) x1.toNatClampNeg)).toNatClampNeg) ((ar S13 6) 13)) (fun r21 S22 => ((r21.toInt ≠ 0 → (0 ≤ (((4 : Int32) * x1) + ((ar S13 8) x1.toNatClampNeg)).toInt ∧ (((4 : Int32) * x1) + ((ar S13 8) x1.toNatClampNeg)).toInt < 72) ∧ (0 ≤ x1.toInt ∧ x1.toInt < 18) ∧ (0 ≤ x1.toInt ∧ x1.toInt < 18) ∧ w_X12_anAct_B291 post k124 k294 (su (su S22 11 ((((4 : Int32) * x1) + ((ar S13 8) x1.toNatClampNeg)).toNatClampNeg) ((ar S22 6) 13)) 8 (x1.toNatClampNeg) (((ar S22 8) x1.toNatClampNeg) + 1)) x1) ∧ (r21.toInt = 0 → post 0 S22))))))

set_option maxHeartbeats 4000000 in
set_option maxRecDepth 100000 in
theorem z_X12_anAct_B194 {p : Program} {l : Launch} {e : Env} {R : Room} {s : State} {m : MethodId} {args : Array Value} {below : List Frame} {meth : Method} {c : Code} {D : va_G} {cy : Nat → ClassId} {T0 tB tE : Nat} {A : Nat → Prop} {a : Nat → Nat} {post : Int32 → GS → Prop} {k124 : GS → Int32 → Prop} {k294 : GS → Int32 → Prop} (b : Bz p R s m args meth c D cy T0 tB tE A 4 cX12_anAct RX12 (some .boolean) "anAct" 46 945 0 0) (hk124 : ∀ (S : GS) (x1 : Int32), k124 S x1 → Z p l e R s m args below meth c D A 4 (MQ below (QI D (U := GS) post (mw cy a) A) args s 0 0 A) 0 0 (mw cy a S) [(0, .ref (a 0)), (1, .int x1)] 124 []) (hk294 : ∀ (S : GS) (x1 : Int32), k294 S x1 → Z p l e R s m args below meth c D A 4 (MQ below (QI D (U := GS) post (mw cy a) A) args s 0 0 A) 0 0 (mw cy a S) [(0, .ref (a 0)), (1, .int x1)] 294 []) (S : GS) (x1 : Int32) (x2 : Int32) (h : w_X12_anAct_B194 post k124 k294 S x1 x2) : Z p l e R s m args below meth c D A 4 (MQ below (QI D (U := GS) post (mw cy a) A) args s 0 0 A) 0 0 (mw cy a S) [(0, .ref (a 0)), (1, .int x1), (2, .int x2)] 194 [] := by
  unfold w_X12_anAct_B194 at h
  refine z_aload_n b dX12_anAct_194 rfl rfl ?_
  refine z_callv b (z_runV (q0 := 0) (As := []) (st := []) b (k_X12_next0 S _ h) cf_X12_next0 (mw_0 cy a S) rfl wm_X12_266 wi_X12_next0 ws_X12_next0 dX12_anAct_195 rfl (Nat.le_of_ble_eq_true rfl) ⟨by decide, by decide, by decide, by decide⟩) (fun S13 h => ?_)
  refine z_iload_n b dX12_anAct_198 rfl rfl ?_
  refine y_if_eq (tgt := 261) (xl := x2.toInt) b rfl dX12_anAct_199 (by decide) (fun c1 => ?_) (fun c1 => ?_)
  · replace h := h.1 c1
    refine z_aload_n b dX12_anAct_261 rfl rfl ?_
    refine z_bipush (v := 6) b dX12_anAct_262 (by decide) ?_
    refine z_iload_n b dX12_anAct_264 rfl rfl ?_
    refine z_imul b dX12_anAct_265 rfl ?_
    refine z_aload_n b dX12_anAct_266 rfl rfl ?_
    refine z_get (q0 := 0) (k9 := 11) (v := .ref (a 10)) b (mw_0 cy a S13) rfl in_X12 (by decide) wf_X12_42 rfl dX12_anAct_267 ?_
    refine z_iload_n b dX12_anAct_270 rfl rfl ?_
    obtain ⟨g14, h⟩ := h
    refine y_iald (q0 := 10) (j := x1.toNatClampNeg) (v := ((ar S13 9) x1.toNatClampNeg)) b (mw_10 cy a S13) (zx_r g14.1 g14.2) rfl dX12_anAct_271 ?_
    refine z_iadd b dX12_anAct_272 rfl ?_
    refine z_calli b (z_runV (q0 := 0) (As := [.int (((6 : Int32) * x1) + ((ar S13 9) x1.toNatClampNeg))]) (st := []) b (k_X12_change S13 (((6 : Int32) * x1) + ((ar S13 9) x1.toNatClampNeg)) _ h) cf_X12_change (mw_0 cy a S13) rfl wm_X12_330 wi_X12_change ws_X12_change dX12_anAct_273 rfl (Nat.le_of_ble_eq_true rfl) ⟨by decide, by decide, by decide, by decide⟩) (fun r15 S16 h => ?_)
    refine y_if_ne (tgt := 281) (xl := r15.toInt) b rfl dX12_anAct_276 (by decide) (fun c1 => ?_) (fun c1 => ?_)
    · replace h := h.1 c1
      refine z_aload_n b dX12_anAct_281 rfl rfl ?_
      refine z_get (q0 := 0) (k9 := 11) (v := .ref (a 10)) b (mw_0 cy a S16) rfl in_X12 (by decide) wf_X12_42 rfl dX12_anAct_282 ?_
      refine z_iload_n b dX12_anAct_285 rfl rfl ?_
      refine z_dup2 b dX12_anAct_286 rfl rfl ?_
      obtain ⟨g17, h⟩ := h
      refine y_iald (q0 := 10) (j := x1.toNatClampNeg) (v := ((ar S16 9) x1.toNatClampNeg)) b (mw_10 cy a S16) (zx_r g17.1 g17.2) rfl dX12_anAct_287 ?_
      refine z_iconst (v := 1) b dX12_anAct_288 (by decide) ?_
      refine z_iadd b dX12_anAct_289 rfl ?_
      obtain ⟨g18, h⟩ := h
      refine y_iast (q0 := 10) (j := x1.toNatClampNeg) b (mw_10 cy a S16) (zx_r g18.1 g18.2) dX12_anAct_290 (mwa_10 cy a S16 (x1.toNatClampNeg) (((ar S16 9) x1.toNatClampNeg) + 1)) ?_
      refine z_lv0 (lv' := [(0, .ref (a 0)), (1, .int x1)]) [0, 1] rfl ?_
      exact z_X12_anAct_B291 b hk124 hk294 _ _ h
    · replace h := h.2 c1
      refine z_iconst (v := 0) b dX12_anAct_279 (by decide) ?_
      exact z_zret (u := S16) b rfl (by decide) dX12_anAct_280 h rfl (by decide) (by decide)
  · replace h := h.2 c1
    refine z_iconst (v := 4) b dX12_anAct_202 (by decide) ?_
    refine z_iload_n b dX12_anAct_203 rfl rfl ?_
    refine z_imul b dX12_anAct_204 rfl ?_
    refine z_aload_n b dX12_anAct_205 rfl rfl ?_
    refine z_get (q0 := 0) (k9 := 10) (v := .ref (a 9)) b (mw_0 cy a S13) rfl in_X12 (by decide) wf_X12_39 rfl dX12_anAct_206 ?_
    refine z_iload_n b dX12_anAct_209 rfl rfl ?_
    obtain ⟨g19, h⟩ := h
    refine y_iald (q0 := 9) (j := x1.toNatClampNeg) (v := ((ar S13 8) x1.toNatClampNeg)) b (mw_9 cy a S13) (zx_r g19.1 g19.2) rfl dX12_anAct_210 ?_
    refine z_iadd b dX12_anAct_211 rfl ?_
    refine z_istore_n (lv' := [(3, .int (((4 : Int32) * x1) + ((ar S13 8) x1.toNatClampNeg))), (0, .ref (a 0)), (1, .int x1), (2, .int x2)]) b dX12_anAct_212 rfl (by decide) rfl ?_
    refine z_aload_n b dX12_anAct_213 rfl rfl ?_
    refine z_get (q0 := 0) (k9 := 12) (v := .ref (a 11)) b (mw_0 cy a S13) rfl in_X12 (by decide) wf_X12_45 rfl dX12_anAct_214 ?_
    refine z_iload_n b dX12_anAct_217 rfl rfl ?_
    refine z_aload_n b dX12_anAct_218 rfl rfl ?_
    refine z_get (q0 := 0) (k9 := 8) (v := .ref (a 7)) b (mw_0 cy a S13) rfl in_X12 (by decide) wf_X12_33 rfl dX12_anAct_219 ?_
    refine z_bipush (v := 13) b dX12_anAct_222 (by decide) ?_
    refine y_iald (q0 := 7) (j := 13) (v := ((ar S13 6) 13)) b (mw_7 cy a S13) (by decide) rfl dX12_anAct_224 ?_
    obtain ⟨g20, h⟩ := h
    refine y_iast (q0 := 11) (j := (((4 : Int32) * x1) + ((ar S13 8) x1.toNatClampNeg)).toNatClampNeg) b (mw_11 cy a S13) (zx_r g20.1 g20.2) dX12_anAct_225 (mwa_11 cy a S13 ((((4 : Int32) * x1) + ((ar S13 8) x1.toNatClampNeg)).toNatClampNeg) ((ar S13 6) 13)) ?_
    refine z_aload_n b dX12_anAct_226 rfl rfl ?_
    refine z_calli b (z_runV (q0 := 0) (As := []) (st := []) b (k_X12_asked (su S13 10 ((((4 : Int32) * x1) + ((ar S13 8) x1.toNatClampNeg)).toNatClampNeg) ((ar S13 6) 13)) _ h) cf_X12_asked (mw_0 cy a (su S13 10 ((((4 : Int32) * x1) + ((ar S13 8) x1.toNatClampNeg)).toNatClampNeg) ((ar S13 6) 13))) rfl wm_X12_327 wi_X12_asked ws_X12_asked dX12_anAct_227 rfl (Nat.le_of_ble_eq_true rfl) ⟨by decide, by decide, by decide, by decide⟩) (fun r21 S22 h => ?_)
    refine y_if_ne (tgt := 235) (xl := r21.toInt) b rfl dX12_anAct_230 (by decide) (fun c1 => ?_) (fun c1 => ?_)
    · replace h := h.1 c1
      refine z_aload_n b dX12_anAct_235 rfl rfl ?_
      refine z_get (q0 := 0) (k9 := 13) (v := .ref (a 12)) b (mw_0 cy a S22) rfl in_X12 (by decide) wf_X12_48 rfl dX12_anAct_236 ?_
      refine z_iload_n b dX12_anAct_239 rfl rfl ?_
      refine z_aload_n b dX12_anAct_240 rfl rfl ?_
      refine z_get (q0 := 0) (k9 := 8) (v := .ref (a 7)) b (mw_0 cy a S22) rfl in_X12 (by decide) wf_X12_33 rfl dX12_anAct_241 ?_
      refine z_bipush (v := 13) b dX12_anAct_244 (by decide) ?_
      refine y_iald (q0 := 7) (j := 13) (v := ((ar S22 6) 13)) b (mw_7 cy a S22) (by decide) rfl dX12_anAct_246 ?_
      obtain ⟨g23, h⟩ := h
      refine y_iast (q0 := 12) (j := (((4 : Int32) * x1) + ((ar S13 8) x1.toNatClampNeg)).toNatClampNeg) b (mw_12 cy a S22) (zx_r g23.1 g23.2) dX12_anAct_247 (mwa_12 cy a S22 ((((4 : Int32) * x1) + ((ar S13 8) x1.toNatClampNeg)).toNatClampNeg) ((ar S22 6) 13)) ?_
      refine z_aload_n b dX12_anAct_248 rfl rfl ?_
      refine z_get (q0 := 0) (k9 := 10) (v := .ref (a 9)) b (mw_0 cy a (su S22 11 ((((4 : Int32) * x1) + ((ar S13 8) x1.toNatClampNeg)).toNatClampNeg) ((ar S22 6) 13))) rfl in_X12 (by decide) wf_X12_39 rfl dX12_anAct_249 ?_
      refine z_iload_n b dX12_anAct_252 rfl rfl ?_
      refine z_dup2 b dX12_anAct_253 rfl rfl ?_
      obtain ⟨g24, h⟩ := h
      refine y_iald (q0 := 9) (j := x1.toNatClampNeg) (v := ((ar S22 8) x1.toNatClampNeg)) b (mw_9 cy a (su S22 11 ((((4 : Int32) * x1) + ((ar S13 8) x1.toNatClampNeg)).toNatClampNeg) ((ar S22 6) 13))) (zx_r g24.1 g24.2) rfl dX12_anAct_254 ?_
      refine z_iconst (v := 1) b dX12_anAct_255 (by decide) ?_
      refine z_iadd b dX12_anAct_256 rfl ?_
      obtain ⟨g25, h⟩ := h
      refine y_iast (q0 := 9) (j := x1.toNatClampNeg) b (mw_9 cy a (su S22 11 ((((4 : Int32) * x1) + ((ar S13 8) x1.toNatClampNeg)).toNatClampNeg) ((ar S22 6) 13))) (zx_r g25.1 g25.2) dX12_anAct_257 (mwa_9 cy a (su S22 11 ((((4 : Int32) * x1) + ((ar S13 8) x1.toNatClampNeg)).toNatClampNeg) ((ar S22 6) 13)) (x1.toNatClampNeg) (((ar S22 8) x1.toNatClampNeg) + 1)) ?_
      refine z_goto (tgt := 291) b dX12_anAct_258 (by decide) ?_
      refine z_lv0 (lv' := [(0, .ref (a 0)), (1, .int x1)]) [1, 2] rfl ?_
      exact z_X12_anAct_B291 b hk124 hk294 _ _ h
    · replace h := h.2 c1
      refine z_iconst (v := 0) b dX12_anAct_233 (by decide) ?_
      exact z_zret (u := S22) b rfl (by decide) dX12_anAct_234 h rfl (by decide) (by decide)

def w_X12_anAct_B188 (post : Int32 → GS → Prop) (k124 : GS → Int32 → Prop) (k294 : GS → Int32 → Prop) (S : GS)  : Prop :=
  w_X12_bad S 3 (fun r26 S27 => (r26 = 0 ∨ r26 = 1) ∧ post r26 S27)

set_option maxHeartbeats 4000000 in
set_option maxRecDepth 100000 in
theorem z_X12_anAct_B188 {p : Program} {l : Launch} {e : Env} {R : Room} {s : State} {m : MethodId} {args : Array Value} {below : List Frame} {meth : Method} {c : Code} {D : va_G} {cy : Nat → ClassId} {T0 tB tE : Nat} {A : Nat → Prop} {a : Nat → Nat} {post : Int32 → GS → Prop} {k124 : GS → Int32 → Prop} {k294 : GS → Int32 → Prop} (b : Bz p R s m args meth c D cy T0 tB tE A 4 cX12_anAct RX12 (some .boolean) "anAct" 46 945 0 0) (hk124 : ∀ (S : GS) (x1 : Int32), k124 S x1 → Z p l e R s m args below meth c D A 4 (MQ below (QI D (U := GS) post (mw cy a) A) args s 0 0 A) 0 0 (mw cy a S) [(0, .ref (a 0)), (1, .int x1)] 124 []) (hk294 : ∀ (S : GS) (x1 : Int32), k294 S x1 → Z p l e R s m args below meth c D A 4 (MQ below (QI D (U := GS) post (mw cy a) A) args s 0 0 A) 0 0 (mw cy a S) [(0, .ref (a 0)), (1, .int x1)] 294 []) (S : GS)  (h : w_X12_anAct_B188 post k124 k294 S ) : Z p l e R s m args below meth c D A 4 (MQ below (QI D (U := GS) post (mw cy a) A) args s 0 0 A) 0 0 (mw cy a S) [(0, .ref (a 0))] 188 [] := by
  unfold w_X12_anAct_B188 at h
  refine z_aload_n b dX12_anAct_188 rfl rfl ?_
  refine z_iconst (v := 3) b dX12_anAct_189 (by decide) ?_
  refine z_calli b (z_runV (q0 := 0) (As := [.int 3]) (st := []) b (k_X12_bad S 3 _ h) cf_X12_bad (mw_0 cy a S) rfl wm_X12_263 wi_X12_bad ws_X12_bad dX12_anAct_190 rfl (Nat.le_of_ble_eq_true rfl) ⟨by decide, by decide, by decide, by decide⟩) (fun r26 S27 h => ?_)
  obtain ⟨g28, h⟩ := h
  exact z_zret (u := S27) b rfl (z_bool g28) dX12_anAct_193 h rfl (by decide) (by decide)

def w_X12_anAct_B159 (post : Int32 → GS → Prop) (k124 : GS → Int32 → Prop) (k294 : GS → Int32 → Prop) (S : GS) (x1 : Int32) (y0 : Int32) : Prop :=
  ((y0.toInt = 0 → (0 ≤ x1.toInt ∧ x1.toInt < 18) ∧ ((((ar S 9) x1.toNatClampNeg).toInt ≠ 6 → w_X12_anAct_B194 post k124 k294 S x1 y0) ∧ (((ar S 9) x1.toNatClampNeg).toInt = 6 → w_X12_anAct_B188 post k124 k294 S))) ∧ (y0.toInt ≠ 0 → (0 ≤ x1.toInt ∧ x1.toInt < 18) ∧ ((((ar S 8) x1.toNatClampNeg).toInt ≠ 4 → w_X12_anAct_B194 post k124 k294 S x1 y0) ∧ (((ar S 8) x1.toNatClampNeg).toInt = 4 → w_X12_anAct_B188 post k124 k294 S))))

set_option maxHeartbeats 4000000 in
set_option maxRecDepth 100000 in
theorem z_X12_anAct_B159 {p : Program} {l : Launch} {e : Env} {R : Room} {s : State} {m : MethodId} {args : Array Value} {below : List Frame} {meth : Method} {c : Code} {D : va_G} {cy : Nat → ClassId} {T0 tB tE : Nat} {A : Nat → Prop} {a : Nat → Nat} {post : Int32 → GS → Prop} {k124 : GS → Int32 → Prop} {k294 : GS → Int32 → Prop} (b : Bz p R s m args meth c D cy T0 tB tE A 4 cX12_anAct RX12 (some .boolean) "anAct" 46 945 0 0) (hk124 : ∀ (S : GS) (x1 : Int32), k124 S x1 → Z p l e R s m args below meth c D A 4 (MQ below (QI D (U := GS) post (mw cy a) A) args s 0 0 A) 0 0 (mw cy a S) [(0, .ref (a 0)), (1, .int x1)] 124 []) (hk294 : ∀ (S : GS) (x1 : Int32), k294 S x1 → Z p l e R s m args below meth c D A 4 (MQ below (QI D (U := GS) post (mw cy a) A) args s 0 0 A) 0 0 (mw cy a S) [(0, .ref (a 0)), (1, .int x1)] 294 []) (S : GS) (x1 : Int32) (y0 : Int32) (h : w_X12_anAct_B159 post k124 k294 S x1 y0) : Z p l e R s m args below meth c D A 4 (MQ below (QI D (U := GS) post (mw cy a) A) args s 0 0 A) 0 0 (mw cy a S) [(0, .ref (a 0)), (1, .int x1)] 159 [.int y0] := by
  unfold w_X12_anAct_B159 at h
  refine z_istore_n (lv' := [(2, .int y0), (0, .ref (a 0)), (1, .int x1)]) b dX12_anAct_159 rfl (by decide) rfl ?_
  refine z_iload_n b dX12_anAct_160 rfl rfl ?_
  refine y_if_eq (tgt := 177) (xl := y0.toInt) b rfl dX12_anAct_161 (by decide) (fun c1 => ?_) (fun c1 => ?_)
  · replace h := h.1 c1
    refine z_aload_n b dX12_anAct_177 rfl rfl ?_
    refine z_get (q0 := 0) (k9 := 11) (v := .ref (a 10)) b (mw_0 cy a S) rfl in_X12 (by decide) wf_X12_42 rfl dX12_anAct_178 ?_
    refine z_iload_n b dX12_anAct_181 rfl rfl ?_
    obtain ⟨g11, h⟩ := h
    refine y_iald (q0 := 10) (j := x1.toNatClampNeg) (v := ((ar S 9) x1.toNatClampNeg)) b (mw_10 cy a S) (zx_r g11.1 g11.2) rfl dX12_anAct_182 ?_
    refine z_bipush (v := 6) b dX12_anAct_183 (by decide) ?_
    refine y_icmp_ne (tgt := 194) (xl := ((ar S 9) x1.toNatClampNeg).toInt) (yl := 6) b rfl (by decide) dX12_anAct_185 (by decide) (fun c1 => ?_) (fun c1 => ?_)
    · replace h := h.1 c1
      refine z_lv0 (lv' := [(0, .ref (a 0)), (1, .int x1), (2, .int y0)]) [1, 2, 0] rfl ?_
      exact z_X12_anAct_B194 b hk124 hk294 _ _ _ h
    · replace h := h.2 c1
      refine z_lv0 (lv' := [(0, .ref (a 0))]) [1] rfl ?_
      exact z_X12_anAct_B188 b hk124 hk294 _ h
  · replace h := h.2 c1
    refine z_aload_n b dX12_anAct_164 rfl rfl ?_
    refine z_get (q0 := 0) (k9 := 10) (v := .ref (a 9)) b (mw_0 cy a S) rfl in_X12 (by decide) wf_X12_39 rfl dX12_anAct_165 ?_
    refine z_iload_n b dX12_anAct_168 rfl rfl ?_
    obtain ⟨g29, h⟩ := h
    refine y_iald (q0 := 9) (j := x1.toNatClampNeg) (v := ((ar S 8) x1.toNatClampNeg)) b (mw_9 cy a S) (zx_r g29.1 g29.2) rfl dX12_anAct_169 ?_
    refine z_iconst (v := 4) b dX12_anAct_170 (by decide) ?_
    refine y_icmp_ne (tgt := 194) (xl := ((ar S 8) x1.toNatClampNeg).toInt) (yl := 4) b rfl (by decide) dX12_anAct_171 (by decide) (fun c1 => ?_) (fun c1 => ?_)
    · replace h := h.1 c1
      refine z_lv0 (lv' := [(0, .ref (a 0)), (1, .int x1), (2, .int y0)]) [1, 2, 0] rfl ?_
      exact z_X12_anAct_B194 b hk124 hk294 _ _ _ h
    · replace h := h.2 c1
      refine z_goto (tgt := 188) b dX12_anAct_174 (by decide) ?_
      refine z_lv0 (lv' := [(0, .ref (a 0))]) [1] rfl ?_
      exact z_X12_anAct_B188 b hk124 hk294 _ h

def w_X12_anAct_B144 (post : Int32 → GS → Prop) (k124 : GS → Int32 → Prop) (k294 : GS → Int32 → Prop) (S : GS) (x1 : Int32) : Prop :=
  (((fi S 3).toInt ≠ 302 → w_X12_anAct_B159 post k124 k294 S x1 0) ∧ ((fi S 3).toInt = 302 → w_X12_anAct_B159 post k124 k294 S x1 1))

set_option maxHeartbeats 4000000 in
set_option maxRecDepth 100000 in
theorem z_X12_anAct_B144 {p : Program} {l : Launch} {e : Env} {R : Room} {s : State} {m : MethodId} {args : Array Value} {below : List Frame} {meth : Method} {c : Code} {D : va_G} {cy : Nat → ClassId} {T0 tB tE : Nat} {A : Nat → Prop} {a : Nat → Nat} {post : Int32 → GS → Prop} {k124 : GS → Int32 → Prop} {k294 : GS → Int32 → Prop} (b : Bz p R s m args meth c D cy T0 tB tE A 4 cX12_anAct RX12 (some .boolean) "anAct" 46 945 0 0) (hk124 : ∀ (S : GS) (x1 : Int32), k124 S x1 → Z p l e R s m args below meth c D A 4 (MQ below (QI D (U := GS) post (mw cy a) A) args s 0 0 A) 0 0 (mw cy a S) [(0, .ref (a 0)), (1, .int x1)] 124 []) (hk294 : ∀ (S : GS) (x1 : Int32), k294 S x1 → Z p l e R s m args below meth c D A 4 (MQ below (QI D (U := GS) post (mw cy a) A) args s 0 0 A) 0 0 (mw cy a S) [(0, .ref (a 0)), (1, .int x1)] 294 []) (S : GS) (x1 : Int32) (h : w_X12_anAct_B144 post k124 k294 S x1) : Z p l e R s m args below meth c D A 4 (MQ below (QI D (U := GS) post (mw cy a) A) args s 0 0 A) 0 0 (mw cy a S) [(0, .ref (a 0)), (1, .int x1)] 144 [] := by
  unfold w_X12_anAct_B144 at h
  refine z_aload_n b dX12_anAct_144 rfl rfl ?_
  refine z_get (q0 := 0) (k9 := 27) (v := .int (fi S 3)) b (mw_0 cy a S) rfl in_X12 (by decide) wf_X12_242 rfl dX12_anAct_145 ?_
  refine z_sipush (v := 302) b dX12_anAct_148 (by decide) ?_
  refine y_icmp_ne (tgt := 158) (xl := (fi S 3).toInt) (yl := 302) b rfl (by decide) dX12_anAct_151 (by decide) (fun c1 => ?_) (fun c1 => ?_)
  · replace h := h.1 c1
    refine z_iconst (v := 0) b dX12_anAct_158 (by decide) ?_
    exact z_X12_anAct_B159 b hk124 hk294 _ _ _ h
  · replace h := h.2 c1
    refine z_iconst (v := 1) b dX12_anAct_154 (by decide) ?_
    refine z_goto (tgt := 159) b dX12_anAct_155 (by decide) ?_
    exact z_X12_anAct_B159 b hk124 hk294 _ _ _ h

def w_X12_anAct_F124 (post : Int32 → GS → Prop) (k294 : GS → Int32 → Prop) (k124 : GS → Int32 → Prop) (S : GS) (x1 : Int32) : Prop :=
  (((fi S 3).toInt = 302 → w_X12_anAct_B144 post k124 k294 S x1) ∧ ((fi S 3).toInt ≠ 302 → (((fi S 3).toInt ≠ 303 → k294 S x1) ∧ ((fi S 3).toInt = 303 → w_X12_anAct_B144 post k124 k294 S x1))))

set_option maxHeartbeats 4000000 in
set_option maxRecDepth 100000 in
theorem z_X12_anAct_F124 {p : Program} {l : Launch} {e : Env} {R : Room} {s : State} {m : MethodId} {args : Array Value} {below : List Frame} {meth : Method} {c : Code} {D : va_G} {cy : Nat → ClassId} {T0 tB tE : Nat} {A : Nat → Prop} {a : Nat → Nat} {post : Int32 → GS → Prop} {k294 : GS → Int32 → Prop} {k124 : GS → Int32 → Prop} (b : Bz p R s m args meth c D cy T0 tB tE A 4 cX12_anAct RX12 (some .boolean) "anAct" 46 945 0 0) (hk294 : ∀ (S : GS) (x1 : Int32), k294 S x1 → Z p l e R s m args below meth c D A 4 (MQ below (QI D (U := GS) post (mw cy a) A) args s 0 0 A) 0 0 (mw cy a S) [(0, .ref (a 0)), (1, .int x1)] 294 []) (hk124 : ∀ (S : GS) (x1 : Int32), k124 S x1 → Z p l e R s m args below meth c D A 4 (MQ below (QI D (U := GS) post (mw cy a) A) args s 0 0 A) 0 0 (mw cy a S) [(0, .ref (a 0)), (1, .int x1)] 124 []) (S : GS) (x1 : Int32) (h : w_X12_anAct_F124 post k294 k124 S x1) : Z p l e R s m args below meth c D A 4 (MQ below (QI D (U := GS) post (mw cy a) A) args s 0 0 A) 0 0 (mw cy a S) [(0, .ref (a 0)), (1, .int x1)] 124 [] := by
  unfold w_X12_anAct_F124 at h
  refine z_aload_n b dX12_anAct_124 rfl rfl ?_
  refine z_get (q0 := 0) (k9 := 27) (v := .int (fi S 3)) b (mw_0 cy a S) rfl in_X12 (by decide) wf_X12_242 rfl dX12_anAct_125 ?_
  refine z_sipush (v := 302) b dX12_anAct_128 (by decide) ?_
  refine y_icmp_eq (tgt := 144) (xl := (fi S 3).toInt) (yl := 302) b rfl (by decide) dX12_anAct_131 (by decide) (fun c1 => ?_) (fun c1 => ?_)
  · replace h := h.1 c1
    exact z_X12_anAct_B144 b hk124 hk294 _ _ h
  · replace h := h.2 c1
    refine z_aload_n b dX12_anAct_134 rfl rfl ?_
    refine z_get (q0 := 0) (k9 := 27) (v := .int (fi S 3)) b (mw_0 cy a S) rfl in_X12 (by decide) wf_X12_242 rfl dX12_anAct_135 ?_
    refine z_sipush (v := 303) b dX12_anAct_138 (by decide) ?_
    refine y_icmp_ne (tgt := 294) (xl := (fi S 3).toInt) (yl := 303) b rfl (by decide) dX12_anAct_141 (by decide) (fun c1 => ?_) (fun c1 => ?_)
    · replace h := h.1 c1
      exact hk294 _ _ h
    · replace h := h.2 c1
      exact z_X12_anAct_B144 b hk124 hk294 _ _ h

set_option maxHeartbeats 4000000 in
set_option maxRecDepth 100000 in
theorem zl_X12_anAct_L124 {p : Program} {l : Launch} {e : Env} {R : Room} {s : State} {m : MethodId} {args : Array Value} {below : List Frame} {meth : Method} {c : Code} {D : va_G} {cy : Nat → ClassId} {T0 tB tE : Nat} {A : Nat → Prop} {a : Nat → Nat} {post : Int32 → GS → Prop} {k294 : GS → Int32 → Prop} (b : Bz p R s m args meth c D cy T0 tB tE A 4 cX12_anAct RX12 (some .boolean) "anAct" 46 945 0 0) (hk294 : ∀ (S : GS) (x1 : Int32), k294 S x1 → Z p l e R s m args below meth c D A 4 (MQ below (QI D (U := GS) post (mw cy a) A) args s 0 0 A) 0 0 (mw cy a S) [(0, .ref (a 0)), (1, .int x1)] 294 []) : ∀ (n : Nat) (S : GS) (x1 : Int32), lpn (w_X12_anAct_F124 post k294) (fun _ _ => False) n S x1 → Z p l e R s m args below meth c D A 4 (MQ below (QI D (U := GS) post (mw cy a) A) args s 0 0 A) 0 0 (mw cy a S) [(0, .ref (a 0)), (1, .int x1)] 124 [] := by
  intro n
  induction n with
  | zero => intro _ _ h; exact h.elim
  | succ n ih => intro S x1 h; exact z_X12_anAct_F124 b hk294 ih S x1 h

def w_X12_anAct_B294 (post : Int32 → GS → Prop) (S : GS) (x1 : Int32) : Prop :=
  (0 ≤ x1.toInt ∧ x1.toInt < 18) ∧ ((fi S 14) = 0 ∨ (fi S 14) = 1) ∧ (0 ≤ x1.toInt ∧ x1.toInt < 18) ∧ ((fi S 15) = 0 ∨ (fi S 15) = 1) ∧ w_X12_need (si (su (su S 19 (x1.toNatClampNeg) (fi S 14)) 20 (x1.toNatClampNeg) (fi S 15)) 12 ((fi S 12) + 1)) 59 (fun r34 S35 => (r34 = 0 ∨ r34 = 1) ∧ post r34 S35)

set_option maxHeartbeats 4000000 in
set_option maxRecDepth 100000 in
theorem z_X12_anAct_B294 {p : Program} {l : Launch} {e : Env} {R : Room} {s : State} {m : MethodId} {args : Array Value} {below : List Frame} {meth : Method} {c : Code} {D : va_G} {cy : Nat → ClassId} {T0 tB tE : Nat} {A : Nat → Prop} {a : Nat → Nat} {post : Int32 → GS → Prop} (b : Bz p R s m args meth c D cy T0 tB tE A 4 cX12_anAct RX12 (some .boolean) "anAct" 46 945 0 0) (S : GS) (x1 : Int32) (h : w_X12_anAct_B294 post S x1) : Z p l e R s m args below meth c D A 4 (MQ below (QI D (U := GS) post (mw cy a) A) args s 0 0 A) 0 0 (mw cy a S) [(0, .ref (a 0)), (1, .int x1)] 294 [] := by
  unfold w_X12_anAct_B294 at h
  refine z_aload_n b dX12_anAct_294 rfl rfl ?_
  refine z_get (q0 := 0) (k9 := 21) (v := .ref (a 20)) b (mw_0 cy a S) rfl in_X12 (by decide) wf_X12_72 rfl dX12_anAct_295 ?_
  refine z_iload_n b dX12_anAct_298 rfl rfl ?_
  refine z_aload_n b dX12_anAct_299 rfl rfl ?_
  refine z_get (q0 := 0) (k9 := 38) (v := .int (fi S 14)) b (mw_0 cy a S) rfl in_X12 (by decide) wf_X12_272 rfl dX12_anAct_300 ?_
  obtain ⟨g30, h⟩ := h
  obtain ⟨g31, h⟩ := h
  refine y_zast (q0 := 20) (j := x1.toNatClampNeg) b (mw_20 cy a S) (zx_r g30.1 g30.2) g31 dX12_anAct_303 (mwa_20 cy a S (x1.toNatClampNeg) (fi S 14)) ?_
  refine z_aload_n b dX12_anAct_304 rfl rfl ?_
  refine z_get (q0 := 0) (k9 := 22) (v := .ref (a 21)) b (mw_0 cy a (su S 19 (x1.toNatClampNeg) (fi S 14))) rfl in_X12 (by decide) wf_X12_75 rfl dX12_anAct_305 ?_
  refine z_iload_n b dX12_anAct_308 rfl rfl ?_
  refine z_aload_n b dX12_anAct_309 rfl rfl ?_
  refine z_get (q0 := 0) (k9 := 39) (v := .int (fi S 15)) b (mw_0 cy a (su S 19 (x1.toNatClampNeg) (fi S 14))) rfl in_X12 (by decide) wf_X12_298 rfl dX12_anAct_310 ?_
  obtain ⟨g32, h⟩ := h
  obtain ⟨g33, h⟩ := h
  refine y_zast (q0 := 21) (j := x1.toNatClampNeg) b (mw_21 cy a (su S 19 (x1.toNatClampNeg) (fi S 14))) (zx_r g32.1 g32.2) g33 dX12_anAct_313 (mwa_21 cy a (su S 19 (x1.toNatClampNeg) (fi S 14)) (x1.toNatClampNeg) (fi S 15)) ?_
  refine z_aload_n b dX12_anAct_314 rfl rfl ?_
  refine z_dup b dX12_anAct_315 rfl ?_
  refine z_get (q0 := 0) (k9 := 36) (v := .int (fi S 12)) b (mw_0 cy a (su (su S 19 (x1.toNatClampNeg) (fi S 14)) 20 (x1.toNatClampNeg) (fi S 15))) rfl in_X12 (by decide) wf_X12_321 rfl dX12_anAct_316 ?_
  refine z_iconst (v := 1) b dX12_anAct_319 (by decide) ?_
  refine z_iadd b dX12_anAct_320 rfl ?_
  refine z_put (q0 := 0) (k9 := 36) tyX12 b (mw_0 cy a (su (su S 19 (x1.toNatClampNeg) (fi S 14)) 20 (x1.toNatClampNeg) (fi S 15))) rfl in_X12 tyX12_ok nmX12 (by decide) wf_X12_321 rfl rfl rfl rfl (Nat.le_of_ble_eq_true rfl) dX12_anAct_321 (mwp_0_36 cy a (su (su S 19 (x1.toNatClampNeg) (fi S 14)) 20 (x1.toNatClampNeg) (fi S 15)) ((fi S 12) + 1)) ?_
  refine z_aload_n b dX12_anAct_324 rfl rfl ?_
  refine z_bipush (v := 59) b dX12_anAct_325 (by decide) ?_
  refine z_calli b (z_runV (q0 := 0) (As := [.int 59]) (st := []) b (k_X12_need (si (su (su S 19 (x1.toNatClampNeg) (fi S 14)) 20 (x1.toNatClampNeg) (fi S 15)) 12 ((fi S 12) + 1)) 59 _ h) cf_X12_need (mw_0 cy a (si (su (su S 19 (x1.toNatClampNeg) (fi S 14)) 20 (x1.toNatClampNeg) (fi S 15)) 12 ((fi S 12) + 1))) rfl wm_X12_313 wi_X12_need ws_X12_need dX12_anAct_327 rfl (Nat.le_of_ble_eq_true rfl) ⟨by decide, by decide, by decide, by decide⟩) (fun r34 S35 h => ?_)
  obtain ⟨g36, h⟩ := h
  exact z_zret (u := S35) b rfl (z_bool g36) dX12_anAct_330 h rfl (by decide) (by decide)

def w_X12_anAct (S : GS)  (post : Int32 → GS → Prop) : Prop :=
  (((fi S 3).toInt = 301 → (((fi S 12).toInt ≠ 6 → w_X12_next0 S (fun S2 => (((fi S2 3).toInt = 3 → w_X12_isKnown S2 ((12 : Int32) + (fi S 12)) (fun r3 S4 => ((r3.toInt = 0 → (0 ≤ ((12 : Int32) + (fi S 12)).toInt ∧ ((12 : Int32) + (fi S 12)).toInt < 18) ∧ (0 ≤ ((12 : Int32) + (fi S 12)).toInt ∧ ((12 : Int32) + (fi S 12)).toInt < 18) ∧ (0 ≤ ((12 : Int32) + (fi S 12)).toInt ∧ ((12 : Int32) + (fi S 12)).toInt < 18) ∧ (0 ≤ ((12 : Int32) + (fi S 12)).toInt ∧ ((12 : Int32) + (fi S 12)).toInt < 18) ∧ w_X12_next0 (si (si (su (su (su (su S4 17 (((12 : Int32) + (fi S 12)).toNatClampNeg) (fi S4 4)) 18 (((12 : Int32) + (fi S 12)).toNatClampNeg) ((fi S4 2) - (fi S4 4))) 8 (((12 : Int32) + (fi S 12)).toNatClampNeg) 0) 9 (((12 : Int32) + (fi S 12)).toNatClampNeg) 0) 14 0) 15 0) (fun S10 => ∃ n, lpn (w_X12_anAct_F124 post (w_X12_anAct_B294 post)) (fun _ _ => False) n S10 ((12 : Int32) + (fi S 12)))) ∧ (r3.toInt ≠ 0 → w_X12_bad S4 2 (fun r37 S38 => (r37 = 0 ∨ r37 = 1) ∧ post r37 S38))))) ∧ ((fi S2 3).toInt ≠ 3 → w_X12_bad S2 1 (fun r40 S41 => (r40 = 0 ∨ r40 = 1) ∧ post r40 S41))))) ∧ ((fi S 12).toInt = 6 → w_X12_bad S 3 (fun r43 S44 => (r43 = 0 ∨ r43 = 1) ∧ post r43 S44)))) ∧ ((fi S 3).toInt ≠ 301 → w_X12_bad S 1 (fun r46 S47 => (r46 = 0 ∨ r46 = 1) ∧ post r46 S47)))

set_option maxHeartbeats 4000000 in
set_option maxRecDepth 100000 in
theorem k_X12_anAct {l : Launch} {D : va_G} {cy : Nat → ClassId} {T0 tB tE : Nat} {a : Nat → Nat} (S : GS)  (post : Int32 → GS → Prop) (h : w_X12_anAct S  post) : Ct l D cy T0 tB tE yX12_anAct cX12_anAct 4 (some .boolean) 46 945 0 0 (mw cy a S) [.ref (a 0)] (QI D (U := GS) post (mw cy a)) := by
  refine Ct.ofZ RX12 "anAct" [(0, .ref (a 0))] rfl rfl rfl rfl (Nat.le_of_ble_eq_true rfl) ?_
  intro p e R s m args below meth c A b
  unfold w_X12_anAct at h
  refine z_aload_n b dX12_anAct_0 rfl rfl ?_
  refine z_get (q0 := 0) (k9 := 27) (v := .int (fi S 3)) b (mw_0 cy a S) rfl in_X12 (by decide) wf_X12_242 rfl dX12_anAct_1 ?_
  refine z_sipush (v := 301) b dX12_anAct_4 (by decide) ?_
  refine y_icmp_eq (tgt := 16) (xl := (fi S 3).toInt) (yl := 301) b rfl (by decide) dX12_anAct_7 (by decide) (fun c1 => ?_) (fun c1 => ?_)
  · replace h := h.1 c1
    refine z_aload_n b dX12_anAct_16 rfl rfl ?_
    refine z_get (q0 := 0) (k9 := 36) (v := .int (fi S 12)) b (mw_0 cy a S) rfl in_X12 (by decide) wf_X12_321 rfl dX12_anAct_17 ?_
    refine z_bipush (v := 6) b dX12_anAct_20 (by decide) ?_
    refine y_icmp_ne (tgt := 31) (xl := (fi S 12).toInt) (yl := 6) b rfl (by decide) dX12_anAct_22 (by decide) (fun c1 => ?_) (fun c1 => ?_)
    · replace h := h.1 c1
      refine z_bipush (v := 12) b dX12_anAct_31 (by decide) ?_
      refine z_aload_n b dX12_anAct_33 rfl rfl ?_
      refine z_get (q0 := 0) (k9 := 36) (v := .int (fi S 12)) b (mw_0 cy a S) rfl in_X12 (by decide) wf_X12_321 rfl dX12_anAct_34 ?_
      refine z_iadd b dX12_anAct_37 rfl ?_
      refine z_istore_n (lv' := [(1, .int ((12 : Int32) + (fi S 12))), (0, .ref (a 0))]) b dX12_anAct_38 rfl (by decide) rfl ?_
      refine z_aload_n b dX12_anAct_39 rfl rfl ?_
      refine z_callv b (z_runV (q0 := 0) (As := []) (st := []) b (k_X12_next0 S _ h) cf_X12_next0 (mw_0 cy a S) rfl wm_X12_266 wi_X12_next0 ws_X12_next0 dX12_anAct_40 rfl (Nat.le_of_ble_eq_true rfl) ⟨by decide, by decide, by decide, by decide⟩) (fun S2 h => ?_)
      refine z_aload_n b dX12_anAct_43 rfl rfl ?_
      refine z_get (q0 := 0) (k9 := 27) (v := .int (fi S2 3)) b (mw_0 cy a S2) rfl in_X12 (by decide) wf_X12_242 rfl dX12_anAct_44 ?_
      refine z_iconst (v := 3) b dX12_anAct_47 (by decide) ?_
      refine y_icmp_eq (tgt := 57) (xl := (fi S2 3).toInt) (yl := 3) b rfl (by decide) dX12_anAct_48 (by decide) (fun c1 => ?_) (fun c1 => ?_)
      · replace h := h.1 c1
        refine z_aload_n b dX12_anAct_57 rfl rfl ?_
        refine z_iload_n b dX12_anAct_58 rfl rfl ?_
        refine z_calli b (z_runV (q0 := 0) (As := [.int ((12 : Int32) + (fi S 12))]) (st := []) b (k_X12_isKnown S2 ((12 : Int32) + (fi S 12)) _ h) cf_X12_isKnown (mw_0 cy a S2) rfl wm_X12_324 wi_X12_isKnown ws_X12_isKnown dX12_anAct_59 rfl (Nat.le_of_ble_eq_true rfl) ⟨by decide, by decide, by decide, by decide⟩) (fun r3 S4 h => ?_)
        refine y_if_eq (tgt := 71) (xl := r3.toInt) b rfl dX12_anAct_62 (by decide) (fun c1 => ?_) (fun c1 => ?_)
        · replace h := h.1 c1
          refine z_aload_n b dX12_anAct_71 rfl rfl ?_
          refine z_get (q0 := 0) (k9 := 19) (v := .ref (a 18)) b (mw_0 cy a S4) rfl in_X12 (by decide) wf_X12_66 rfl dX12_anAct_72 ?_
          refine z_iload_n b dX12_anAct_75 rfl rfl ?_
          refine z_aload_n b dX12_anAct_76 rfl rfl ?_
          refine z_get (q0 := 0) (k9 := 28) (v := .int (fi S4 4)) b (mw_0 cy a S4) rfl in_X12 (by decide) wf_X12_188 rfl dX12_anAct_77 ?_
          obtain ⟨g5, h⟩ := h
          refine y_iast (q0 := 18) (j := ((12 : Int32) + (fi S 12)).toNatClampNeg) b (mw_18 cy a S4) (zx_r g5.1 g5.2) dX12_anAct_80 (mwa_18 cy a S4 (((12 : Int32) + (fi S 12)).toNatClampNeg) (fi S4 4)) ?_
          refine z_aload_n b dX12_anAct_81 rfl rfl ?_
          refine z_get (q0 := 0) (k9 := 20) (v := .ref (a 19)) b (mw_0 cy a (su S4 17 (((12 : Int32) + (fi S 12)).toNatClampNeg) (fi S4 4))) rfl in_X12 (by decide) wf_X12_69 rfl dX12_anAct_82 ?_
          refine z_iload_n b dX12_anAct_85 rfl rfl ?_
          refine z_aload_n b dX12_anAct_86 rfl rfl ?_
          refine z_get (q0 := 0) (k9 := 26) (v := .int (fi S4 2)) b (mw_0 cy a (su S4 17 (((12 : Int32) + (fi S 12)).toNatClampNeg) (fi S4 4))) rfl in_X12 (by decide) wf_X12_185 rfl dX12_anAct_87 ?_
          refine z_aload_n b dX12_anAct_90 rfl rfl ?_
          refine z_get (q0 := 0) (k9 := 28) (v := .int (fi S4 4)) b (mw_0 cy a (su S4 17 (((12 : Int32) + (fi S 12)).toNatClampNeg) (fi S4 4))) rfl in_X12 (by decide) wf_X12_188 rfl dX12_anAct_91 ?_
          refine z_isub b dX12_anAct_94 rfl ?_
          obtain ⟨g6, h⟩ := h
          refine y_iast (q0 := 19) (j := ((12 : Int32) + (fi S 12)).toNatClampNeg) b (mw_19 cy a (su S4 17 (((12 : Int32) + (fi S 12)).toNatClampNeg) (fi S4 4))) (zx_r g6.1 g6.2) dX12_anAct_95 (mwa_19 cy a (su S4 17 (((12 : Int32) + (fi S 12)).toNatClampNeg) (fi S4 4)) (((12 : Int32) + (fi S 12)).toNatClampNeg) ((fi S4 2) - (fi S4 4))) ?_
          refine z_aload_n b dX12_anAct_96 rfl rfl ?_
          refine z_get (q0 := 0) (k9 := 10) (v := .ref (a 9)) b (mw_0 cy a (su (su S4 17 (((12 : Int32) + (fi S 12)).toNatClampNeg) (fi S4 4)) 18 (((12 : Int32) + (fi S 12)).toNatClampNeg) ((fi S4 2) - (fi S4 4)))) rfl in_X12 (by decide) wf_X12_39 rfl dX12_anAct_97 ?_
          refine z_iload_n b dX12_anAct_100 rfl rfl ?_
          refine z_iconst (v := 0) b dX12_anAct_101 (by decide) ?_
          obtain ⟨g7, h⟩ := h
          refine y_iast (q0 := 9) (j := ((12 : Int32) + (fi S 12)).toNatClampNeg) b (mw_9 cy a (su (su S4 17 (((12 : Int32) + (fi S 12)).toNatClampNeg) (fi S4 4)) 18 (((12 : Int32) + (fi S 12)).toNatClampNeg) ((fi S4 2) - (fi S4 4)))) (zx_r g7.1 g7.2) dX12_anAct_102 (mwa_9 cy a (su (su S4 17 (((12 : Int32) + (fi S 12)).toNatClampNeg) (fi S4 4)) 18 (((12 : Int32) + (fi S 12)).toNatClampNeg) ((fi S4 2) - (fi S4 4))) (((12 : Int32) + (fi S 12)).toNatClampNeg) 0) ?_
          refine z_aload_n b dX12_anAct_103 rfl rfl ?_
          refine z_get (q0 := 0) (k9 := 11) (v := .ref (a 10)) b (mw_0 cy a (su (su (su S4 17 (((12 : Int32) + (fi S 12)).toNatClampNeg) (fi S4 4)) 18 (((12 : Int32) + (fi S 12)).toNatClampNeg) ((fi S4 2) - (fi S4 4))) 8 (((12 : Int32) + (fi S 12)).toNatClampNeg) 0)) rfl in_X12 (by decide) wf_X12_42 rfl dX12_anAct_104 ?_
          refine z_iload_n b dX12_anAct_107 rfl rfl ?_
          refine z_iconst (v := 0) b dX12_anAct_108 (by decide) ?_
          obtain ⟨g8, h⟩ := h
          refine y_iast (q0 := 10) (j := ((12 : Int32) + (fi S 12)).toNatClampNeg) b (mw_10 cy a (su (su (su S4 17 (((12 : Int32) + (fi S 12)).toNatClampNeg) (fi S4 4)) 18 (((12 : Int32) + (fi S 12)).toNatClampNeg) ((fi S4 2) - (fi S4 4))) 8 (((12 : Int32) + (fi S 12)).toNatClampNeg) 0)) (zx_r g8.1 g8.2) dX12_anAct_109 (mwa_10 cy a (su (su (su S4 17 (((12 : Int32) + (fi S 12)).toNatClampNeg) (fi S4 4)) 18 (((12 : Int32) + (fi S 12)).toNatClampNeg) ((fi S4 2) - (fi S4 4))) 8 (((12 : Int32) + (fi S 12)).toNatClampNeg) 0) (((12 : Int32) + (fi S 12)).toNatClampNeg) 0) ?_
          refine z_aload_n b dX12_anAct_110 rfl rfl ?_
          refine z_iconst (v := 0) b dX12_anAct_111 (by decide) ?_
          refine z_put (q0 := 0) (k9 := 38) tyX12 b (mw_0 cy a (su (su (su (su S4 17 (((12 : Int32) + (fi S 12)).toNatClampNeg) (fi S4 4)) 18 (((12 : Int32) + (fi S 12)).toNatClampNeg) ((fi S4 2) - (fi S4 4))) 8 (((12 : Int32) + (fi S 12)).toNatClampNeg) 0) 9 (((12 : Int32) + (fi S 12)).toNatClampNeg) 0)) rfl in_X12 tyX12_ok nmX12 (by decide) wf_X12_272 rfl rfl rfl rfl (Nat.le_of_ble_eq_true rfl) dX12_anAct_112 (mwp_0_38 cy a (su (su (su (su S4 17 (((12 : Int32) + (fi S 12)).toNatClampNeg) (fi S4 4)) 18 (((12 : Int32) + (fi S 12)).toNatClampNeg) ((fi S4 2) - (fi S4 4))) 8 (((12 : Int32) + (fi S 12)).toNatClampNeg) 0) 9 (((12 : Int32) + (fi S 12)).toNatClampNeg) 0) 0) ?_
          refine z_aload_n b dX12_anAct_115 rfl rfl ?_
          refine z_iconst (v := 0) b dX12_anAct_116 (by decide) ?_
          refine z_put (q0 := 0) (k9 := 39) tyX12 b (mw_0 cy a (si (su (su (su (su S4 17 (((12 : Int32) + (fi S 12)).toNatClampNeg) (fi S4 4)) 18 (((12 : Int32) + (fi S 12)).toNatClampNeg) ((fi S4 2) - (fi S4 4))) 8 (((12 : Int32) + (fi S 12)).toNatClampNeg) 0) 9 (((12 : Int32) + (fi S 12)).toNatClampNeg) 0) 14 0)) rfl in_X12 tyX12_ok nmX12 (by decide) wf_X12_298 rfl rfl rfl rfl (Nat.le_of_ble_eq_true rfl) dX12_anAct_117 (mwp_0_39 cy a (si (su (su (su (su S4 17 (((12 : Int32) + (fi S 12)).toNatClampNeg) (fi S4 4)) 18 (((12 : Int32) + (fi S 12)).toNatClampNeg) ((fi S4 2) - (fi S4 4))) 8 (((12 : Int32) + (fi S 12)).toNatClampNeg) 0) 9 (((12 : Int32) + (fi S 12)).toNatClampNeg) 0) 14 0) 0) ?_
          refine z_aload_n b dX12_anAct_120 rfl rfl ?_
          refine z_callv b (z_runV (q0 := 0) (As := []) (st := []) b (k_X12_next0 (si (si (su (su (su (su S4 17 (((12 : Int32) + (fi S 12)).toNatClampNeg) (fi S4 4)) 18 (((12 : Int32) + (fi S 12)).toNatClampNeg) ((fi S4 2) - (fi S4 4))) 8 (((12 : Int32) + (fi S 12)).toNatClampNeg) 0) 9 (((12 : Int32) + (fi S 12)).toNatClampNeg) 0) 14 0) 15 0) _ h) cf_X12_next0 (mw_0 cy a (si (si (su (su (su (su S4 17 (((12 : Int32) + (fi S 12)).toNatClampNeg) (fi S4 4)) 18 (((12 : Int32) + (fi S 12)).toNatClampNeg) ((fi S4 2) - (fi S4 4))) 8 (((12 : Int32) + (fi S 12)).toNatClampNeg) 0) 9 (((12 : Int32) + (fi S 12)).toNatClampNeg) 0) 14 0) 15 0)) rfl wm_X12_266 wi_X12_next0 ws_X12_next0 dX12_anAct_121 rfl (Nat.le_of_ble_eq_true rfl) ⟨by decide, by decide, by decide, by decide⟩) (fun S10 h => ?_)
          refine z_lv0 (lv' := [(0, .ref (a 0)), (1, .int ((12 : Int32) + (fi S 12)))]) [1, 0] rfl ?_
          obtain ⟨n, h⟩ := h
          exact zl_X12_anAct_L124 b (fun S x1 h => z_X12_anAct_B294 b _ _ h) n _ _ h
        · replace h := h.2 c1
          refine z_aload_n b dX12_anAct_65 rfl rfl ?_
          refine z_iconst (v := 2) b dX12_anAct_66 (by decide) ?_
          refine z_calli b (z_runV (q0 := 0) (As := [.int 2]) (st := []) b (k_X12_bad S4 2 _ h) cf_X12_bad (mw_0 cy a S4) rfl wm_X12_263 wi_X12_bad ws_X12_bad dX12_anAct_67 rfl (Nat.le_of_ble_eq_true rfl) ⟨by decide, by decide, by decide, by decide⟩) (fun r37 S38 h => ?_)
          obtain ⟨g39, h⟩ := h
          exact z_zret (u := S38) b rfl (z_bool g39) dX12_anAct_70 h rfl (by decide) (by decide)
      · replace h := h.2 c1
        refine z_aload_n b dX12_anAct_51 rfl rfl ?_
        refine z_iconst (v := 1) b dX12_anAct_52 (by decide) ?_
        refine z_calli b (z_runV (q0 := 0) (As := [.int 1]) (st := []) b (k_X12_bad S2 1 _ h) cf_X12_bad (mw_0 cy a S2) rfl wm_X12_263 wi_X12_bad ws_X12_bad dX12_anAct_53 rfl (Nat.le_of_ble_eq_true rfl) ⟨by decide, by decide, by decide, by decide⟩) (fun r40 S41 h => ?_)
        obtain ⟨g42, h⟩ := h
        exact z_zret (u := S41) b rfl (z_bool g42) dX12_anAct_56 h rfl (by decide) (by decide)
    · replace h := h.2 c1
      refine z_aload_n b dX12_anAct_25 rfl rfl ?_
      refine z_iconst (v := 3) b dX12_anAct_26 (by decide) ?_
      refine z_calli b (z_runV (q0 := 0) (As := [.int 3]) (st := []) b (k_X12_bad S 3 _ h) cf_X12_bad (mw_0 cy a S) rfl wm_X12_263 wi_X12_bad ws_X12_bad dX12_anAct_27 rfl (Nat.le_of_ble_eq_true rfl) ⟨by decide, by decide, by decide, by decide⟩) (fun r43 S44 h => ?_)
      obtain ⟨g45, h⟩ := h
      exact z_zret (u := S44) b rfl (z_bool g45) dX12_anAct_30 h rfl (by decide) (by decide)
  · replace h := h.2 c1
    refine z_aload_n b dX12_anAct_10 rfl rfl ?_
    refine z_iconst (v := 1) b dX12_anAct_11 (by decide) ?_
    refine z_calli b (z_runV (q0 := 0) (As := [.int 1]) (st := []) b (k_X12_bad S 1 _ h) cf_X12_bad (mw_0 cy a S) rfl wm_X12_263 wi_X12_bad ws_X12_bad dX12_anAct_12 rfl (Nat.le_of_ble_eq_true rfl) ⟨by decide, by decide, by decide, by decide⟩) (fun r46 S47 h => ?_)
    obtain ⟨g48, h⟩ := h
    exact z_zret (u := S47) b rfl (z_bool g48) dX12_anAct_15 h rfl (by decide) (by decide)

def w_X12_keepsAct_F50 (post : GS → Prop) (k101 : GS → Int32 → Int32 → Prop) (k50 : GS → Int32 → Int32 → Int32 → Prop) (S : GS) (x1 : Int32) (x2 : Int32) (x3 : Int32) : Prop :=
  ((4 ≤ x3.toInt → k101 S x1 x2) ∧ (x3.toInt < 4 → (0 ≤ (((4 : Int32) * x2) + x3).toInt ∧ (((4 : Int32) * x2) + x3).toInt < 72) ∧ (0 ≤ (((4 : Int32) * x1) + x3).toInt ∧ (((4 : Int32) * x1) + x3).toInt < 72) ∧ (0 ≤ (((4 : Int32) * x2) + x3).toInt ∧ (((4 : Int32) * x2) + x3).toInt < 72) ∧ (0 ≤ (((4 : Int32) * x1) + x3).toInt ∧ (((4 : Int32) * x1) + x3).toInt < 72) ∧ k50 (su (su S 10 ((((4 : Int32) * x1) + x3).toNatClampNeg) ((ar S 10) (((4 : Int32) * x2) + x3).toNatClampNeg)) 11 ((((4 : Int32) * x1) + x3).toNatClampNeg) ((ar S 11) (((4 : Int32) * x2) + x3).toNatClampNeg)) x1 x2 (x3 + 1)))

set_option maxHeartbeats 4000000 in
set_option maxRecDepth 100000 in
theorem z_X12_keepsAct_F50 {p : Program} {l : Launch} {e : Env} {R : Room} {s : State} {m : MethodId} {args : Array Value} {below : List Frame} {meth : Method} {c : Code} {D : va_G} {cy : Nat → ClassId} {T0 tB tE : Nat} {A : Nat → Prop} {a : Nat → Nat} {post : GS → Prop} {k101 : GS → Int32 → Int32 → Prop} {k50 : GS → Int32 → Int32 → Int32 → Prop} (b : Bz p R s m args meth c D cy T0 tB tE A 4 cX12_keepsAct RX12 none "keepsAct" 0 0 0 0) (hk101 : ∀ (S : GS) (x1 : Int32) (x2 : Int32), k101 S x1 x2 → Z p l e R s m args below meth c D A 4 (MQ below (QV D (U := GS) post (mw cy a) A) args s 0 0 A) 0 0 (mw cy a S) [(0, .ref (a 0)), (1, .int x1), (2, .int x2)] 101 []) (hk50 : ∀ (S : GS) (x1 : Int32) (x2 : Int32) (x3 : Int32), k50 S x1 x2 x3 → Z p l e R s m args below meth c D A 4 (MQ below (QV D (U := GS) post (mw cy a) A) args s 0 0 A) 0 0 (mw cy a S) [(0, .ref (a 0)), (1, .int x1), (2, .int x2), (3, .int x3)] 50 []) (S : GS) (x1 : Int32) (x2 : Int32) (x3 : Int32) (h : w_X12_keepsAct_F50 post k101 k50 S x1 x2 x3) : Z p l e R s m args below meth c D A 4 (MQ below (QV D (U := GS) post (mw cy a) A) args s 0 0 A) 0 0 (mw cy a S) [(0, .ref (a 0)), (1, .int x1), (2, .int x2), (3, .int x3)] 50 [] := by
  unfold w_X12_keepsAct_F50 at h
  refine z_iload_n b dX12_keepsAct_50 rfl rfl ?_
  refine z_iconst (v := 4) b dX12_keepsAct_51 (by decide) ?_
  refine y_icmp_ge (tgt := 101) (xl := x3.toInt) (yl := 4) b rfl (by decide) dX12_keepsAct_52 (by decide) (fun c1 => ?_) (fun c1 => ?_)
  · replace h := h.1 c1
    refine z_lv0 (lv' := [(0, .ref (a 0)), (1, .int x1), (2, .int x2)]) [0, 1, 2] rfl ?_
    exact hk101 _ _ _ h
  · replace h := h.2 c1
    refine z_aload_n b dX12_keepsAct_55 rfl rfl ?_
    refine z_get (q0 := 0) (k9 := 12) (v := .ref (a 11)) b (mw_0 cy a S) rfl in_X12 (by decide) wf_X12_45 rfl dX12_keepsAct_56 ?_
    refine z_iconst (v := 4) b dX12_keepsAct_59 (by decide) ?_
    refine z_iload_n b dX12_keepsAct_60 rfl rfl ?_
    refine z_imul b dX12_keepsAct_61 rfl ?_
    refine z_iload_n b dX12_keepsAct_62 rfl rfl ?_
    refine z_iadd b dX12_keepsAct_63 rfl ?_
    refine z_aload_n b dX12_keepsAct_64 rfl rfl ?_
    refine z_get (q0 := 0) (k9 := 12) (v := .ref (a 11)) b (mw_0 cy a S) rfl in_X12 (by decide) wf_X12_45 rfl dX12_keepsAct_65 ?_
    refine z_iconst (v := 4) b dX12_keepsAct_68 (by decide) ?_
    refine z_iload_n b dX12_keepsAct_69 rfl rfl ?_
    refine z_imul b dX12_keepsAct_70 rfl ?_
    refine z_iload_n b dX12_keepsAct_71 rfl rfl ?_
    refine z_iadd b dX12_keepsAct_72 rfl ?_
    obtain ⟨g11, h⟩ := h
    refine y_iald (q0 := 11) (j := (((4 : Int32) * x2) + x3).toNatClampNeg) (v := ((ar S 10) (((4 : Int32) * x2) + x3).toNatClampNeg)) b (mw_11 cy a S) (zx_r g11.1 g11.2) rfl dX12_keepsAct_73 ?_
    obtain ⟨g12, h⟩ := h
    refine y_iast (q0 := 11) (j := (((4 : Int32) * x1) + x3).toNatClampNeg) b (mw_11 cy a S) (zx_r g12.1 g12.2) dX12_keepsAct_74 (mwa_11 cy a S ((((4 : Int32) * x1) + x3).toNatClampNeg) ((ar S 10) (((4 : Int32) * x2) + x3).toNatClampNeg)) ?_
    refine z_aload_n b dX12_keepsAct_75 rfl rfl ?_
    refine z_get (q0 := 0) (k9 := 13) (v := .ref (a 12)) b (mw_0 cy a (su S 10 ((((4 : Int32) * x1) + x3).toNatClampNeg) ((ar S 10) (((4 : Int32) * x2) + x3).toNatClampNeg))) rfl in_X12 (by decide) wf_X12_48 rfl dX12_keepsAct_76 ?_
    refine z_iconst (v := 4) b dX12_keepsAct_79 (by decide) ?_
    refine z_iload_n b dX12_keepsAct_80 rfl rfl ?_
    refine z_imul b dX12_keepsAct_81 rfl ?_
    refine z_iload_n b dX12_keepsAct_82 rfl rfl ?_
    refine z_iadd b dX12_keepsAct_83 rfl ?_
    refine z_aload_n b dX12_keepsAct_84 rfl rfl ?_
    refine z_get (q0 := 0) (k9 := 13) (v := .ref (a 12)) b (mw_0 cy a (su S 10 ((((4 : Int32) * x1) + x3).toNatClampNeg) ((ar S 10) (((4 : Int32) * x2) + x3).toNatClampNeg))) rfl in_X12 (by decide) wf_X12_48 rfl dX12_keepsAct_85 ?_
    refine z_iconst (v := 4) b dX12_keepsAct_88 (by decide) ?_
    refine z_iload_n b dX12_keepsAct_89 rfl rfl ?_
    refine z_imul b dX12_keepsAct_90 rfl ?_
    refine z_iload_n b dX12_keepsAct_91 rfl rfl ?_
    refine z_iadd b dX12_keepsAct_92 rfl ?_
    obtain ⟨g13, h⟩ := h
    refine y_iald (q0 := 12) (j := (((4 : Int32) * x2) + x3).toNatClampNeg) (v := ((ar S 11) (((4 : Int32) * x2) + x3).toNatClampNeg)) b (mw_12 cy a (su S 10 ((((4 : Int32) * x1) + x3).toNatClampNeg) ((ar S 10) (((4 : Int32) * x2) + x3).toNatClampNeg))) (zx_r g13.1 g13.2) rfl dX12_keepsAct_93 ?_
    obtain ⟨g14, h⟩ := h
    refine y_iast (q0 := 12) (j := (((4 : Int32) * x1) + x3).toNatClampNeg) b (mw_12 cy a (su S 10 ((((4 : Int32) * x1) + x3).toNatClampNeg) ((ar S 10) (((4 : Int32) * x2) + x3).toNatClampNeg))) (zx_r g14.1 g14.2) dX12_keepsAct_94 (mwa_12 cy a (su S 10 ((((4 : Int32) * x1) + x3).toNatClampNeg) ((ar S 10) (((4 : Int32) * x2) + x3).toNatClampNeg)) ((((4 : Int32) * x1) + x3).toNatClampNeg) ((ar S 11) (((4 : Int32) * x2) + x3).toNatClampNeg)) ?_
    refine z_iinc (k9 := 3) (v := (x3 + 1)) (lv' := [(3, .int (x3 + 1)), (0, .ref (a 0)), (1, .int x1), (2, .int x2)]) b dX12_keepsAct_95 rfl rfl (by decide) rfl ?_
    refine z_goto (tgt := 50) b dX12_keepsAct_98 (by decide) ?_
    refine z_lv0 (lv' := [(0, .ref (a 0)), (1, .int x1), (2, .int x2), (3, .int (x3 + 1))]) [1, 2, 3, 0] rfl ?_
    exact hk50 _ _ _ _ h

set_option maxHeartbeats 4000000 in
set_option maxRecDepth 100000 in
theorem zl_X12_keepsAct_L50 {p : Program} {l : Launch} {e : Env} {R : Room} {s : State} {m : MethodId} {args : Array Value} {below : List Frame} {meth : Method} {c : Code} {D : va_G} {cy : Nat → ClassId} {T0 tB tE : Nat} {A : Nat → Prop} {a : Nat → Nat} {post : GS → Prop} {k101 : GS → Int32 → Int32 → Prop} (b : Bz p R s m args meth c D cy T0 tB tE A 4 cX12_keepsAct RX12 none "keepsAct" 0 0 0 0) (hk101 : ∀ (S : GS) (x1 : Int32) (x2 : Int32), k101 S x1 x2 → Z p l e R s m args below meth c D A 4 (MQ below (QV D (U := GS) post (mw cy a) A) args s 0 0 A) 0 0 (mw cy a S) [(0, .ref (a 0)), (1, .int x1), (2, .int x2)] 101 []) : ∀ (n : Nat) (S : GS) (x1 : Int32) (x2 : Int32) (x3 : Int32), lpn (w_X12_keepsAct_F50 post k101) (fun _ _ _ _ => False) n S x1 x2 x3 → Z p l e R s m args below meth c D A 4 (MQ below (QV D (U := GS) post (mw cy a) A) args s 0 0 A) 0 0 (mw cy a S) [(0, .ref (a 0)), (1, .int x1), (2, .int x2), (3, .int x3)] 50 [] := by
  intro n
  induction n with
  | zero => intro _ _ _ _ h; exact h.elim
  | succ n ih => intro S x1 x2 x3 h; exact z_X12_keepsAct_F50 b hk101 ih S x1 x2 x3 h

def w_X12_keepsAct_F103 (post : GS → Prop) (k225 : GS → Prop) (k103 : GS → Int32 → Int32 → Int32 → Prop) (S : GS) (x1 : Int32) (x2 : Int32) (x3 : Int32) : Prop :=
  ((6 ≤ x3.toInt → k225 S) ∧ (x3.toInt < 6 → (0 ≤ (((6 : Int32) * x2) + x3).toInt ∧ (((6 : Int32) * x2) + x3).toInt < 108) ∧ (0 ≤ (((6 : Int32) * x1) + x3).toInt ∧ (((6 : Int32) * x1) + x3).toInt < 108) ∧ (0 ≤ (((6 : Int32) * x2) + x3).toInt ∧ (((6 : Int32) * x2) + x3).toInt < 108) ∧ (0 ≤ (((6 : Int32) * x1) + x3).toInt ∧ (((6 : Int32) * x1) + x3).toInt < 108) ∧ (0 ≤ (((6 : Int32) * x2) + x3).toInt ∧ (((6 : Int32) * x2) + x3).toInt < 108) ∧ (0 ≤ (((6 : Int32) * x1) + x3).toInt ∧ (((6 : Int32) * x1) + x3).toInt < 108) ∧ (0 ≤ (((6 : Int32) * x2) + x3).toInt ∧ (((6 : Int32) * x2) + x3).toInt < 108) ∧ (0 ≤ (((6 : Int32) * x1) + x3).toInt ∧ (((6 : Int32) * x1) + x3).toInt < 108) ∧ (0 ≤ (((6 : Int32) * x2) + x3).toInt ∧ (((6 : Int32) * x2) + x3).toInt < 108) ∧ (0 ≤ (((6 : Int32) * x1) + x3).toInt ∧ (((6 : Int32) * x1) + x3).toInt < 108) ∧ k103 (su (su (su (su (su S 12 ((((6 : Int32) * x1) + x3).toNatClampNeg) ((ar S 12) (((6 : Int32) * x2) + x3).toNatClampNeg)) 13 ((((6 : Int32) * x1) + x3).toNatClampNeg) ((ar S 13) (((6 : Int32) * x2) + x3).toNatClampNeg)) 14 ((((6 : Int32) * x1) + x3).toNatClampNeg) ((ar S 14) (((6 : Int32) * x2) + x3).toNatClampNeg)) 15 ((((6 : Int32) * x1) + x3).toNatClampNeg) ((ar S 15) (((6 : Int32) * x2) + x3).toNatClampNeg)) 16 ((((6 : Int32) * x1) + x3).toNatClampNeg) ((ar S 16) (((6 : Int32) * x2) + x3).toNatClampNeg)) x1 x2 (x3 + 1)))

set_option maxHeartbeats 4000000 in
set_option maxRecDepth 100000 in
theorem z_X12_keepsAct_F103 {p : Program} {l : Launch} {e : Env} {R : Room} {s : State} {m : MethodId} {args : Array Value} {below : List Frame} {meth : Method} {c : Code} {D : va_G} {cy : Nat → ClassId} {T0 tB tE : Nat} {A : Nat → Prop} {a : Nat → Nat} {post : GS → Prop} {k225 : GS → Prop} {k103 : GS → Int32 → Int32 → Int32 → Prop} (b : Bz p R s m args meth c D cy T0 tB tE A 4 cX12_keepsAct RX12 none "keepsAct" 0 0 0 0) (hk225 : ∀ (S : GS), k225 S → Z p l e R s m args below meth c D A 4 (MQ below (QV D (U := GS) post (mw cy a) A) args s 0 0 A) 0 0 (mw cy a S) [] 225 []) (hk103 : ∀ (S : GS) (x1 : Int32) (x2 : Int32) (x3 : Int32), k103 S x1 x2 x3 → Z p l e R s m args below meth c D A 4 (MQ below (QV D (U := GS) post (mw cy a) A) args s 0 0 A) 0 0 (mw cy a S) [(0, .ref (a 0)), (1, .int x1), (2, .int x2), (3, .int x3)] 103 []) (S : GS) (x1 : Int32) (x2 : Int32) (x3 : Int32) (h : w_X12_keepsAct_F103 post k225 k103 S x1 x2 x3) : Z p l e R s m args below meth c D A 4 (MQ below (QV D (U := GS) post (mw cy a) A) args s 0 0 A) 0 0 (mw cy a S) [(0, .ref (a 0)), (1, .int x1), (2, .int x2), (3, .int x3)] 103 [] := by
  unfold w_X12_keepsAct_F103 at h
  refine z_iload_n b dX12_keepsAct_103 rfl rfl ?_
  refine z_bipush (v := 6) b dX12_keepsAct_104 (by decide) ?_
  refine y_icmp_ge (tgt := 225) (xl := x3.toInt) (yl := 6) b rfl (by decide) dX12_keepsAct_106 (by decide) (fun c1 => ?_) (fun c1 => ?_)
  · replace h := h.1 c1
    refine z_lv0 (lv' := []) [] rfl ?_
    exact hk225 _ h
  · replace h := h.2 c1
    refine z_aload_n b dX12_keepsAct_109 rfl rfl ?_
    refine z_get (q0 := 0) (k9 := 14) (v := .ref (a 13)) b (mw_0 cy a S) rfl in_X12 (by decide) wf_X12_51 rfl dX12_keepsAct_110 ?_
    refine z_bipush (v := 6) b dX12_keepsAct_113 (by decide) ?_
    refine z_iload_n b dX12_keepsAct_115 rfl rfl ?_
    refine z_imul b dX12_keepsAct_116 rfl ?_
    refine z_iload_n b dX12_keepsAct_117 rfl rfl ?_
    refine z_iadd b dX12_keepsAct_118 rfl ?_
    refine z_aload_n b dX12_keepsAct_119 rfl rfl ?_
    refine z_get (q0 := 0) (k9 := 14) (v := .ref (a 13)) b (mw_0 cy a S) rfl in_X12 (by decide) wf_X12_51 rfl dX12_keepsAct_120 ?_
    refine z_bipush (v := 6) b dX12_keepsAct_123 (by decide) ?_
    refine z_iload_n b dX12_keepsAct_125 rfl rfl ?_
    refine z_imul b dX12_keepsAct_126 rfl ?_
    refine z_iload_n b dX12_keepsAct_127 rfl rfl ?_
    refine z_iadd b dX12_keepsAct_128 rfl ?_
    obtain ⟨g15, h⟩ := h
    refine y_iald (q0 := 13) (j := (((6 : Int32) * x2) + x3).toNatClampNeg) (v := ((ar S 12) (((6 : Int32) * x2) + x3).toNatClampNeg)) b (mw_13 cy a S) (zx_r g15.1 g15.2) rfl dX12_keepsAct_129 ?_
    obtain ⟨g16, h⟩ := h
    refine y_iast (q0 := 13) (j := (((6 : Int32) * x1) + x3).toNatClampNeg) b (mw_13 cy a S) (zx_r g16.1 g16.2) dX12_keepsAct_130 (mwa_13 cy a S ((((6 : Int32) * x1) + x3).toNatClampNeg) ((ar S 12) (((6 : Int32) * x2) + x3).toNatClampNeg)) ?_
    refine z_aload_n b dX12_keepsAct_131 rfl rfl ?_
    refine z_get (q0 := 0) (k9 := 15) (v := .ref (a 14)) b (mw_0 cy a (su S 12 ((((6 : Int32) * x1) + x3).toNatClampNeg) ((ar S 12) (((6 : Int32) * x2) + x3).toNatClampNeg))) rfl in_X12 (by decide) wf_X12_54 rfl dX12_keepsAct_132 ?_
    refine z_bipush (v := 6) b dX12_keepsAct_135 (by decide) ?_
    refine z_iload_n b dX12_keepsAct_137 rfl rfl ?_
    refine z_imul b dX12_keepsAct_138 rfl ?_
    refine z_iload_n b dX12_keepsAct_139 rfl rfl ?_
    refine z_iadd b dX12_keepsAct_140 rfl ?_
    refine z_aload_n b dX12_keepsAct_141 rfl rfl ?_
    refine z_get (q0 := 0) (k9 := 15) (v := .ref (a 14)) b (mw_0 cy a (su S 12 ((((6 : Int32) * x1) + x3).toNatClampNeg) ((ar S 12) (((6 : Int32) * x2) + x3).toNatClampNeg))) rfl in_X12 (by decide) wf_X12_54 rfl dX12_keepsAct_142 ?_
    refine z_bipush (v := 6) b dX12_keepsAct_145 (by decide) ?_
    refine z_iload_n b dX12_keepsAct_147 rfl rfl ?_
    refine z_imul b dX12_keepsAct_148 rfl ?_
    refine z_iload_n b dX12_keepsAct_149 rfl rfl ?_
    refine z_iadd b dX12_keepsAct_150 rfl ?_
    obtain ⟨g17, h⟩ := h
    refine y_iald (q0 := 14) (j := (((6 : Int32) * x2) + x3).toNatClampNeg) (v := ((ar S 13) (((6 : Int32) * x2) + x3).toNatClampNeg)) b (mw_14 cy a (su S 12 ((((6 : Int32) * x1) + x3).toNatClampNeg) ((ar S 12) (((6 : Int32) * x2) + x3).toNatClampNeg))) (zx_r g17.1 g17.2) rfl dX12_keepsAct_151 ?_
    obtain ⟨g18, h⟩ := h
    refine y_iast (q0 := 14) (j := (((6 : Int32) * x1) + x3).toNatClampNeg) b (mw_14 cy a (su S 12 ((((6 : Int32) * x1) + x3).toNatClampNeg) ((ar S 12) (((6 : Int32) * x2) + x3).toNatClampNeg))) (zx_r g18.1 g18.2) dX12_keepsAct_152 (mwa_14 cy a (su S 12 ((((6 : Int32) * x1) + x3).toNatClampNeg) ((ar S 12) (((6 : Int32) * x2) + x3).toNatClampNeg)) ((((6 : Int32) * x1) + x3).toNatClampNeg) ((ar S 13) (((6 : Int32) * x2) + x3).toNatClampNeg)) ?_
    refine z_aload_n b dX12_keepsAct_153 rfl rfl ?_
    refine z_get (q0 := 0) (k9 := 16) (v := .ref (a 15)) b (mw_0 cy a (su (su S 12 ((((6 : Int32) * x1) + x3).toNatClampNeg) ((ar S 12) (((6 : Int32) * x2) + x3).toNatClampNeg)) 13 ((((6 : Int32) * x1) + x3).toNatClampNeg) ((ar S 13) (((6 : Int32) * x2) + x3).toNatClampNeg))) rfl in_X12 (by decide) wf_X12_57 rfl dX12_keepsAct_154 ?_
    refine z_bipush (v := 6) b dX12_keepsAct_157 (by decide) ?_
    refine z_iload_n b dX12_keepsAct_159 rfl rfl ?_
    refine z_imul b dX12_keepsAct_160 rfl ?_
    refine z_iload_n b dX12_keepsAct_161 rfl rfl ?_
    refine z_iadd b dX12_keepsAct_162 rfl ?_
    refine z_aload_n b dX12_keepsAct_163 rfl rfl ?_
    refine z_get (q0 := 0) (k9 := 16) (v := .ref (a 15)) b (mw_0 cy a (su (su S 12 ((((6 : Int32) * x1) + x3).toNatClampNeg) ((ar S 12) (((6 : Int32) * x2) + x3).toNatClampNeg)) 13 ((((6 : Int32) * x1) + x3).toNatClampNeg) ((ar S 13) (((6 : Int32) * x2) + x3).toNatClampNeg))) rfl in_X12 (by decide) wf_X12_57 rfl dX12_keepsAct_164 ?_
    refine z_bipush (v := 6) b dX12_keepsAct_167 (by decide) ?_
    refine z_iload_n b dX12_keepsAct_169 rfl rfl ?_
    refine z_imul b dX12_keepsAct_170 rfl ?_
    refine z_iload_n b dX12_keepsAct_171 rfl rfl ?_
    refine z_iadd b dX12_keepsAct_172 rfl ?_
    obtain ⟨g19, h⟩ := h
    refine y_iald (q0 := 15) (j := (((6 : Int32) * x2) + x3).toNatClampNeg) (v := ((ar S 14) (((6 : Int32) * x2) + x3).toNatClampNeg)) b (mw_15 cy a (su (su S 12 ((((6 : Int32) * x1) + x3).toNatClampNeg) ((ar S 12) (((6 : Int32) * x2) + x3).toNatClampNeg)) 13 ((((6 : Int32) * x1) + x3).toNatClampNeg) ((ar S 13) (((6 : Int32) * x2) + x3).toNatClampNeg))) (zx_r g19.1 g19.2) rfl dX12_keepsAct_173 ?_
    obtain ⟨g20, h⟩ := h
    refine y_iast (q0 := 15) (j := (((6 : Int32) * x1) + x3).toNatClampNeg) b (mw_15 cy a (su (su S 12 ((((6 : Int32) * x1) + x3).toNatClampNeg) ((ar S 12) (((6 : Int32) * x2) + x3).toNatClampNeg)) 13 ((((6 : Int32) * x1) + x3).toNatClampNeg) ((ar S 13) (((6 : Int32) * x2) + x3).toNatClampNeg))) (zx_r g20.1 g20.2) dX12_keepsAct_174 (mwa_15 cy a (su (su S 12 ((((6 : Int32) * x1) + x3).toNatClampNeg) ((ar S 12) (((6 : Int32) * x2) + x3).toNatClampNeg)) 13 ((((6 : Int32) * x1) + x3).toNatClampNeg) ((ar S 13) (((6 : Int32) * x2) + x3).toNatClampNeg)) ((((6 : Int32) * x1) + x3).toNatClampNeg) ((ar S 14) (((6 : Int32) * x2) + x3).toNatClampNeg)) ?_
    refine z_aload_n b dX12_keepsAct_175 rfl rfl ?_
    refine z_get (q0 := 0) (k9 := 17) (v := .ref (a 16)) b (mw_0 cy a (su (su (su S 12 ((((6 : Int32) * x1) + x3).toNatClampNeg) ((ar S 12) (((6 : Int32) * x2) + x3).toNatClampNeg)) 13 ((((6 : Int32) * x1) + x3).toNatClampNeg) ((ar S 13) (((6 : Int32) * x2) + x3).toNatClampNeg)) 14 ((((6 : Int32) * x1) + x3).toNatClampNeg) ((ar S 14) (((6 : Int32) * x2) + x3).toNatClampNeg))) rfl in_X12 (by decide) wf_X12_60 rfl dX12_keepsAct_176 ?_
    refine z_bipush (v := 6) b dX12_keepsAct_179 (by decide) ?_
    refine z_iload_n b dX12_keepsAct_181 rfl rfl ?_
    refine z_imul b dX12_keepsAct_182 rfl ?_
    refine z_iload_n b dX12_keepsAct_183 rfl rfl ?_
    refine z_iadd b dX12_keepsAct_184 rfl ?_
    refine z_aload_n b dX12_keepsAct_185 rfl rfl ?_
    refine z_get (q0 := 0) (k9 := 17) (v := .ref (a 16)) b (mw_0 cy a (su (su (su S 12 ((((6 : Int32) * x1) + x3).toNatClampNeg) ((ar S 12) (((6 : Int32) * x2) + x3).toNatClampNeg)) 13 ((((6 : Int32) * x1) + x3).toNatClampNeg) ((ar S 13) (((6 : Int32) * x2) + x3).toNatClampNeg)) 14 ((((6 : Int32) * x1) + x3).toNatClampNeg) ((ar S 14) (((6 : Int32) * x2) + x3).toNatClampNeg))) rfl in_X12 (by decide) wf_X12_60 rfl dX12_keepsAct_186 ?_
    refine z_bipush (v := 6) b dX12_keepsAct_189 (by decide) ?_
    refine z_iload_n b dX12_keepsAct_191 rfl rfl ?_
    refine z_imul b dX12_keepsAct_192 rfl ?_
    refine z_iload_n b dX12_keepsAct_193 rfl rfl ?_
    refine z_iadd b dX12_keepsAct_194 rfl ?_
    obtain ⟨g21, h⟩ := h
    refine y_iald (q0 := 16) (j := (((6 : Int32) * x2) + x3).toNatClampNeg) (v := ((ar S 15) (((6 : Int32) * x2) + x3).toNatClampNeg)) b (mw_16 cy a (su (su (su S 12 ((((6 : Int32) * x1) + x3).toNatClampNeg) ((ar S 12) (((6 : Int32) * x2) + x3).toNatClampNeg)) 13 ((((6 : Int32) * x1) + x3).toNatClampNeg) ((ar S 13) (((6 : Int32) * x2) + x3).toNatClampNeg)) 14 ((((6 : Int32) * x1) + x3).toNatClampNeg) ((ar S 14) (((6 : Int32) * x2) + x3).toNatClampNeg))) (zx_r g21.1 g21.2) rfl dX12_keepsAct_195 ?_
    obtain ⟨g22, h⟩ := h
    refine y_iast (q0 := 16) (j := (((6 : Int32) * x1) + x3).toNatClampNeg) b (mw_16 cy a (su (su (su S 12 ((((6 : Int32) * x1) + x3).toNatClampNeg) ((ar S 12) (((6 : Int32) * x2) + x3).toNatClampNeg)) 13 ((((6 : Int32) * x1) + x3).toNatClampNeg) ((ar S 13) (((6 : Int32) * x2) + x3).toNatClampNeg)) 14 ((((6 : Int32) * x1) + x3).toNatClampNeg) ((ar S 14) (((6 : Int32) * x2) + x3).toNatClampNeg))) (zx_r g22.1 g22.2) dX12_keepsAct_196 (mwa_16 cy a (su (su (su S 12 ((((6 : Int32) * x1) + x3).toNatClampNeg) ((ar S 12) (((6 : Int32) * x2) + x3).toNatClampNeg)) 13 ((((6 : Int32) * x1) + x3).toNatClampNeg) ((ar S 13) (((6 : Int32) * x2) + x3).toNatClampNeg)) 14 ((((6 : Int32) * x1) + x3).toNatClampNeg) ((ar S 14) (((6 : Int32) * x2) + x3).toNatClampNeg)) ((((6 : Int32) * x1) + x3).toNatClampNeg) ((ar S 15) (((6 : Int32) * x2) + x3).toNatClampNeg)) ?_
    refine z_aload_n b dX12_keepsAct_197 rfl rfl ?_
    refine z_get (q0 := 0) (k9 := 18) (v := .ref (a 17)) b (mw_0 cy a (su (su (su (su S 12 ((((6 : Int32) * x1) + x3).toNatClampNeg) ((ar S 12) (((6 : Int32) * x2) + x3).toNatClampNeg)) 13 ((((6 : Int32) * x1) + x3).toNatClampNeg) ((ar S 13) (((6 : Int32) * x2) + x3).toNatClampNeg)) 14 ((((6 : Int32) * x1) + x3).toNatClampNeg) ((ar S 14) (((6 : Int32) * x2) + x3).toNatClampNeg)) 15 ((((6 : Int32) * x1) + x3).toNatClampNeg) ((ar S 15) (((6 : Int32) * x2) + x3).toNatClampNeg))) rfl in_X12 (by decide) wf_X12_63 rfl dX12_keepsAct_198 ?_
    refine z_bipush (v := 6) b dX12_keepsAct_201 (by decide) ?_
    refine z_iload_n b dX12_keepsAct_203 rfl rfl ?_
    refine z_imul b dX12_keepsAct_204 rfl ?_
    refine z_iload_n b dX12_keepsAct_205 rfl rfl ?_
    refine z_iadd b dX12_keepsAct_206 rfl ?_
    refine z_aload_n b dX12_keepsAct_207 rfl rfl ?_
    refine z_get (q0 := 0) (k9 := 18) (v := .ref (a 17)) b (mw_0 cy a (su (su (su (su S 12 ((((6 : Int32) * x1) + x3).toNatClampNeg) ((ar S 12) (((6 : Int32) * x2) + x3).toNatClampNeg)) 13 ((((6 : Int32) * x1) + x3).toNatClampNeg) ((ar S 13) (((6 : Int32) * x2) + x3).toNatClampNeg)) 14 ((((6 : Int32) * x1) + x3).toNatClampNeg) ((ar S 14) (((6 : Int32) * x2) + x3).toNatClampNeg)) 15 ((((6 : Int32) * x1) + x3).toNatClampNeg) ((ar S 15) (((6 : Int32) * x2) + x3).toNatClampNeg))) rfl in_X12 (by decide) wf_X12_63 rfl dX12_keepsAct_208 ?_
    refine z_bipush (v := 6) b dX12_keepsAct_211 (by decide) ?_
    refine z_iload_n b dX12_keepsAct_213 rfl rfl ?_
    refine z_imul b dX12_keepsAct_214 rfl ?_
    refine z_iload_n b dX12_keepsAct_215 rfl rfl ?_
    refine z_iadd b dX12_keepsAct_216 rfl ?_
    obtain ⟨g23, h⟩ := h
    refine y_iald (q0 := 17) (j := (((6 : Int32) * x2) + x3).toNatClampNeg) (v := ((ar S 16) (((6 : Int32) * x2) + x3).toNatClampNeg)) b (mw_17 cy a (su (su (su (su S 12 ((((6 : Int32) * x1) + x3).toNatClampNeg) ((ar S 12) (((6 : Int32) * x2) + x3).toNatClampNeg)) 13 ((((6 : Int32) * x1) + x3).toNatClampNeg) ((ar S 13) (((6 : Int32) * x2) + x3).toNatClampNeg)) 14 ((((6 : Int32) * x1) + x3).toNatClampNeg) ((ar S 14) (((6 : Int32) * x2) + x3).toNatClampNeg)) 15 ((((6 : Int32) * x1) + x3).toNatClampNeg) ((ar S 15) (((6 : Int32) * x2) + x3).toNatClampNeg))) (zx_r g23.1 g23.2) rfl dX12_keepsAct_217 ?_
    obtain ⟨g24, h⟩ := h
    refine y_iast (q0 := 17) (j := (((6 : Int32) * x1) + x3).toNatClampNeg) b (mw_17 cy a (su (su (su (su S 12 ((((6 : Int32) * x1) + x3).toNatClampNeg) ((ar S 12) (((6 : Int32) * x2) + x3).toNatClampNeg)) 13 ((((6 : Int32) * x1) + x3).toNatClampNeg) ((ar S 13) (((6 : Int32) * x2) + x3).toNatClampNeg)) 14 ((((6 : Int32) * x1) + x3).toNatClampNeg) ((ar S 14) (((6 : Int32) * x2) + x3).toNatClampNeg)) 15 ((((6 : Int32) * x1) + x3).toNatClampNeg) ((ar S 15) (((6 : Int32) * x2) + x3).toNatClampNeg))) (zx_r g24.1 g24.2) dX12_keepsAct_218 (mwa_17 cy a (su (su (su (su S 12 ((((6 : Int32) * x1) + x3).toNatClampNeg) ((ar S 12) (((6 : Int32) * x2) + x3).toNatClampNeg)) 13 ((((6 : Int32) * x1) + x3).toNatClampNeg) ((ar S 13) (((6 : Int32) * x2) + x3).toNatClampNeg)) 14 ((((6 : Int32) * x1) + x3).toNatClampNeg) ((ar S 14) (((6 : Int32) * x2) + x3).toNatClampNeg)) 15 ((((6 : Int32) * x1) + x3).toNatClampNeg) ((ar S 15) (((6 : Int32) * x2) + x3).toNatClampNeg)) ((((6 : Int32) * x1) + x3).toNatClampNeg) ((ar S 16) (((6 : Int32) * x2) + x3).toNatClampNeg)) ?_
    refine z_iinc (k9 := 3) (v := (x3 + 1)) (lv' := [(3, .int (x3 + 1)), (0, .ref (a 0)), (1, .int x1), (2, .int x2)]) b dX12_keepsAct_219 rfl rfl (by decide) rfl ?_
    refine z_goto (tgt := 103) b dX12_keepsAct_222 (by decide) ?_
    refine z_lv0 (lv' := [(0, .ref (a 0)), (1, .int x1), (2, .int x2), (3, .int (x3 + 1))]) [1, 2, 3, 0] rfl ?_
    exact hk103 _ _ _ _ h

set_option maxHeartbeats 4000000 in
set_option maxRecDepth 100000 in
theorem zl_X12_keepsAct_L103 {p : Program} {l : Launch} {e : Env} {R : Room} {s : State} {m : MethodId} {args : Array Value} {below : List Frame} {meth : Method} {c : Code} {D : va_G} {cy : Nat → ClassId} {T0 tB tE : Nat} {A : Nat → Prop} {a : Nat → Nat} {post : GS → Prop} {k225 : GS → Prop} (b : Bz p R s m args meth c D cy T0 tB tE A 4 cX12_keepsAct RX12 none "keepsAct" 0 0 0 0) (hk225 : ∀ (S : GS), k225 S → Z p l e R s m args below meth c D A 4 (MQ below (QV D (U := GS) post (mw cy a) A) args s 0 0 A) 0 0 (mw cy a S) [] 225 []) : ∀ (n : Nat) (S : GS) (x1 : Int32) (x2 : Int32) (x3 : Int32), lpn (w_X12_keepsAct_F103 post k225) (fun _ _ _ _ => False) n S x1 x2 x3 → Z p l e R s m args below meth c D A 4 (MQ below (QV D (U := GS) post (mw cy a) A) args s 0 0 A) 0 0 (mw cy a S) [(0, .ref (a 0)), (1, .int x1), (2, .int x2), (3, .int x3)] 103 [] := by
  intro n
  induction n with
  | zero => intro _ _ _ _ h; exact h.elim
  | succ n ih => intro S x1 x2 x3 h; exact z_X12_keepsAct_F103 b hk225 ih S x1 x2 x3 h

def w_X12_keepsAct_B225 (post : GS → Prop) (S : GS)  : Prop :=
  post S

set_option maxHeartbeats 4000000 in
set_option maxRecDepth 100000 in
theorem z_X12_keepsAct_B225 {p : Program} {l : Launch} {e : Env} {R : Room} {s : State} {m : MethodId} {args : Array Value} {below : List Frame} {meth : Method} {c : Code} {D : va_G} {cy : Nat → ClassId} {T0 tB tE : Nat} {A : Nat → Prop} {a : Nat → Nat} {post : GS → Prop} (b : Bz p R s m args meth c D cy T0 tB tE A 4 cX12_keepsAct RX12 none "keepsAct" 0 0 0 0) (S : GS)  (h : w_X12_keepsAct_B225 post S ) : Z p l e R s m args below meth c D A 4 (MQ below (QV D (U := GS) post (mw cy a) A) args s 0 0 A) 0 0 (mw cy a S) [] 225 [] := by
  unfold w_X12_keepsAct_B225 at h
  exact z_vret (u := S) b rfl dX12_keepsAct_225 h rfl (by decide) (by decide)

def w_X12_keepsAct_B101 (post : GS → Prop) (S : GS) (x1 : Int32) (x2 : Int32) : Prop :=
  ∃ n, lpn (w_X12_keepsAct_F103 post (w_X12_keepsAct_B225 post)) (fun _ _ _ _ => False) n S x1 x2 0

set_option maxHeartbeats 4000000 in
set_option maxRecDepth 100000 in
theorem z_X12_keepsAct_B101 {p : Program} {l : Launch} {e : Env} {R : Room} {s : State} {m : MethodId} {args : Array Value} {below : List Frame} {meth : Method} {c : Code} {D : va_G} {cy : Nat → ClassId} {T0 tB tE : Nat} {A : Nat → Prop} {a : Nat → Nat} {post : GS → Prop} (b : Bz p R s m args meth c D cy T0 tB tE A 4 cX12_keepsAct RX12 none "keepsAct" 0 0 0 0) (S : GS) (x1 : Int32) (x2 : Int32) (h : w_X12_keepsAct_B101 post S x1 x2) : Z p l e R s m args below meth c D A 4 (MQ below (QV D (U := GS) post (mw cy a) A) args s 0 0 A) 0 0 (mw cy a S) [(0, .ref (a 0)), (1, .int x1), (2, .int x2)] 101 [] := by
  unfold w_X12_keepsAct_B101 at h
  refine z_iconst (v := 0) b dX12_keepsAct_101 (by decide) ?_
  refine z_istore_n (lv' := [(3, .int 0), (0, .ref (a 0)), (1, .int x1), (2, .int x2)]) b dX12_keepsAct_102 rfl (by decide) rfl ?_
  refine z_lv0 (lv' := [(0, .ref (a 0)), (1, .int x1), (2, .int x2), (3, .int 0)]) [1, 2, 3, 0] rfl ?_
  obtain ⟨n, h⟩ := h
  exact zl_X12_keepsAct_L103 b (fun S h => z_X12_keepsAct_B225 b _ h) n _ _ _ _ h

def w_X12_keepsAct (S : GS) (p0 : Int32) (p1 : Int32) (post : GS → Prop) : Prop :=
  (0 ≤ p1.toInt ∧ p1.toInt < 18) ∧ (0 ≤ p0.toInt ∧ p0.toInt < 18) ∧ (0 ≤ p1.toInt ∧ p1.toInt < 18) ∧ (0 ≤ p0.toInt ∧ p0.toInt < 18) ∧ (0 ≤ p1.toInt ∧ p1.toInt < 18) ∧ (0 ≤ p0.toInt ∧ p0.toInt < 18) ∧ (((ar S 19) p1.toNatClampNeg) = 0 ∨ ((ar S 19) p1.toNatClampNeg) = 1) ∧ (0 ≤ p1.toInt ∧ p1.toInt < 18) ∧ (0 ≤ p0.toInt ∧ p0.toInt < 18) ∧ (((ar S 20) p1.toNatClampNeg) = 0 ∨ ((ar S 20) p1.toNatClampNeg) = 1) ∧ ∃ n, lpn (w_X12_keepsAct_F50 post (w_X12_keepsAct_B101 post)) (fun _ _ _ _ => False) n (su (su (su (su S 8 (p0.toNatClampNeg) ((ar S 8) p1.toNatClampNeg)) 9 (p0.toNatClampNeg) ((ar S 9) p1.toNatClampNeg)) 19 (p0.toNatClampNeg) ((ar S 19) p1.toNatClampNeg)) 20 (p0.toNatClampNeg) ((ar S 20) p1.toNatClampNeg)) p0 p1 0

set_option maxHeartbeats 4000000 in
set_option maxRecDepth 100000 in
theorem k_X12_keepsAct {l : Launch} {D : va_G} {cy : Nat → ClassId} {T0 tB tE : Nat} {a : Nat → Nat} (S : GS) (p0 : Int32) (p1 : Int32) (post : GS → Prop) (h : w_X12_keepsAct S p0 p1 post) : Ct l D cy T0 tB tE yX12_keepsAct cX12_keepsAct 4 none 0 0 0 0 (mw cy a S) [.ref (a 0), .int p0, .int p1] (QV D (U := GS) post (mw cy a)) := by
  refine Ct.ofZ RX12 "keepsAct" [(0, .ref (a 0)), (1, .int p0), (2, .int p1)] rfl rfl rfl rfl (Nat.le_of_ble_eq_true rfl) ?_
  intro p e R s m args below meth c A b
  unfold w_X12_keepsAct at h
  refine z_aload_n b dX12_keepsAct_0 rfl rfl ?_
  refine z_get (q0 := 0) (k9 := 10) (v := .ref (a 9)) b (mw_0 cy a S) rfl in_X12 (by decide) wf_X12_39 rfl dX12_keepsAct_1 ?_
  refine z_iload_n b dX12_keepsAct_4 rfl rfl ?_
  refine z_aload_n b dX12_keepsAct_5 rfl rfl ?_
  refine z_get (q0 := 0) (k9 := 10) (v := .ref (a 9)) b (mw_0 cy a S) rfl in_X12 (by decide) wf_X12_39 rfl dX12_keepsAct_6 ?_
  refine z_iload_n b dX12_keepsAct_9 rfl rfl ?_
  obtain ⟨g1, h⟩ := h
  refine y_iald (q0 := 9) (j := p1.toNatClampNeg) (v := ((ar S 8) p1.toNatClampNeg)) b (mw_9 cy a S) (zx_r g1.1 g1.2) rfl dX12_keepsAct_10 ?_
  obtain ⟨g2, h⟩ := h
  refine y_iast (q0 := 9) (j := p0.toNatClampNeg) b (mw_9 cy a S) (zx_r g2.1 g2.2) dX12_keepsAct_11 (mwa_9 cy a S (p0.toNatClampNeg) ((ar S 8) p1.toNatClampNeg)) ?_
  refine z_aload_n b dX12_keepsAct_12 rfl rfl ?_
  refine z_get (q0 := 0) (k9 := 11) (v := .ref (a 10)) b (mw_0 cy a (su S 8 (p0.toNatClampNeg) ((ar S 8) p1.toNatClampNeg))) rfl in_X12 (by decide) wf_X12_42 rfl dX12_keepsAct_13 ?_
  refine z_iload_n b dX12_keepsAct_16 rfl rfl ?_
  refine z_aload_n b dX12_keepsAct_17 rfl rfl ?_
  refine z_get (q0 := 0) (k9 := 11) (v := .ref (a 10)) b (mw_0 cy a (su S 8 (p0.toNatClampNeg) ((ar S 8) p1.toNatClampNeg))) rfl in_X12 (by decide) wf_X12_42 rfl dX12_keepsAct_18 ?_
  refine z_iload_n b dX12_keepsAct_21 rfl rfl ?_
  obtain ⟨g3, h⟩ := h
  refine y_iald (q0 := 10) (j := p1.toNatClampNeg) (v := ((ar S 9) p1.toNatClampNeg)) b (mw_10 cy a (su S 8 (p0.toNatClampNeg) ((ar S 8) p1.toNatClampNeg))) (zx_r g3.1 g3.2) rfl dX12_keepsAct_22 ?_
  obtain ⟨g4, h⟩ := h
  refine y_iast (q0 := 10) (j := p0.toNatClampNeg) b (mw_10 cy a (su S 8 (p0.toNatClampNeg) ((ar S 8) p1.toNatClampNeg))) (zx_r g4.1 g4.2) dX12_keepsAct_23 (mwa_10 cy a (su S 8 (p0.toNatClampNeg) ((ar S 8) p1.toNatClampNeg)) (p0.toNatClampNeg) ((ar S 9) p1.toNatClampNeg)) ?_
  refine z_aload_n b dX12_keepsAct_24 rfl rfl ?_
  refine z_get (q0 := 0) (k9 := 21) (v := .ref (a 20)) b (mw_0 cy a (su (su S 8 (p0.toNatClampNeg) ((ar S 8) p1.toNatClampNeg)) 9 (p0.toNatClampNeg) ((ar S 9) p1.toNatClampNeg))) rfl in_X12 (by decide) wf_X12_72 rfl dX12_keepsAct_25 ?_
  refine z_iload_n b dX12_keepsAct_28 rfl rfl ?_
  refine z_aload_n b dX12_keepsAct_29 rfl rfl ?_
  refine z_get (q0 := 0) (k9 := 21) (v := .ref (a 20)) b (mw_0 cy a (su (su S 8 (p0.toNatClampNeg) ((ar S 8) p1.toNatClampNeg)) 9 (p0.toNatClampNeg) ((ar S 9) p1.toNatClampNeg))) rfl in_X12 (by decide) wf_X12_72 rfl dX12_keepsAct_30 ?_
  refine z_iload_n b dX12_keepsAct_33 rfl rfl ?_
  obtain ⟨g5, h⟩ := h
  refine y_zald (q0 := 20) (j := p1.toNatClampNeg) (v := ((ar S 19) p1.toNatClampNeg)) b (mw_20 cy a (su (su S 8 (p0.toNatClampNeg) ((ar S 8) p1.toNatClampNeg)) 9 (p0.toNatClampNeg) ((ar S 9) p1.toNatClampNeg))) (zx_r g5.1 g5.2) rfl dX12_keepsAct_34 ?_
  obtain ⟨g6, h⟩ := h
  obtain ⟨g7, h⟩ := h
  refine y_zast (q0 := 20) (j := p0.toNatClampNeg) b (mw_20 cy a (su (su S 8 (p0.toNatClampNeg) ((ar S 8) p1.toNatClampNeg)) 9 (p0.toNatClampNeg) ((ar S 9) p1.toNatClampNeg))) (zx_r g6.1 g6.2) g7 dX12_keepsAct_35 (mwa_20 cy a (su (su S 8 (p0.toNatClampNeg) ((ar S 8) p1.toNatClampNeg)) 9 (p0.toNatClampNeg) ((ar S 9) p1.toNatClampNeg)) (p0.toNatClampNeg) ((ar S 19) p1.toNatClampNeg)) ?_
  refine z_aload_n b dX12_keepsAct_36 rfl rfl ?_
  refine z_get (q0 := 0) (k9 := 22) (v := .ref (a 21)) b (mw_0 cy a (su (su (su S 8 (p0.toNatClampNeg) ((ar S 8) p1.toNatClampNeg)) 9 (p0.toNatClampNeg) ((ar S 9) p1.toNatClampNeg)) 19 (p0.toNatClampNeg) ((ar S 19) p1.toNatClampNeg))) rfl in_X12 (by decide) wf_X12_75 rfl dX12_keepsAct_37 ?_
  refine z_iload_n b dX12_keepsAct_40 rfl rfl ?_
  refine z_aload_n b dX12_keepsAct_41 rfl rfl ?_
  refine z_get (q0 := 0) (k9 := 22) (v := .ref (a 21)) b (mw_0 cy a (su (su (su S 8 (p0.toNatClampNeg) ((ar S 8) p1.toNatClampNeg)) 9 (p0.toNatClampNeg) ((ar S 9) p1.toNatClampNeg)) 19 (p0.toNatClampNeg) ((ar S 19) p1.toNatClampNeg))) rfl in_X12 (by decide) wf_X12_75 rfl dX12_keepsAct_42 ?_
  refine z_iload_n b dX12_keepsAct_45 rfl rfl ?_
  obtain ⟨g8, h⟩ := h
  refine y_zald (q0 := 21) (j := p1.toNatClampNeg) (v := ((ar S 20) p1.toNatClampNeg)) b (mw_21 cy a (su (su (su S 8 (p0.toNatClampNeg) ((ar S 8) p1.toNatClampNeg)) 9 (p0.toNatClampNeg) ((ar S 9) p1.toNatClampNeg)) 19 (p0.toNatClampNeg) ((ar S 19) p1.toNatClampNeg))) (zx_r g8.1 g8.2) rfl dX12_keepsAct_46 ?_
  obtain ⟨g9, h⟩ := h
  obtain ⟨g10, h⟩ := h
  refine y_zast (q0 := 21) (j := p0.toNatClampNeg) b (mw_21 cy a (su (su (su S 8 (p0.toNatClampNeg) ((ar S 8) p1.toNatClampNeg)) 9 (p0.toNatClampNeg) ((ar S 9) p1.toNatClampNeg)) 19 (p0.toNatClampNeg) ((ar S 19) p1.toNatClampNeg))) (zx_r g9.1 g9.2) g10 dX12_keepsAct_47 (mwa_21 cy a (su (su (su S 8 (p0.toNatClampNeg) ((ar S 8) p1.toNatClampNeg)) 9 (p0.toNatClampNeg) ((ar S 9) p1.toNatClampNeg)) 19 (p0.toNatClampNeg) ((ar S 19) p1.toNatClampNeg)) (p0.toNatClampNeg) ((ar S 20) p1.toNatClampNeg)) ?_
  refine z_iconst (v := 0) b dX12_keepsAct_48 (by decide) ?_
  refine z_istore_n (lv' := [(3, .int 0), (0, .ref (a 0)), (1, .int p0), (2, .int p1)]) b dX12_keepsAct_49 rfl (by decide) rfl ?_
  refine z_lv0 (lv' := [(0, .ref (a 0)), (1, .int p0), (2, .int p1), (3, .int 0)]) [1, 2, 3, 0] rfl ?_
  obtain ⟨n, h⟩ := h
  exact zl_X12_keepsAct_L50 b (fun S x1 x2 h => z_X12_keepsAct_B101 b _ _ _ h) n _ _ _ _ h

def w_X12_statute_F26 (post : Int32 → GS → Prop) (k45 : GS → Int32 → Int32 → Prop) (k26 : GS → Int32 → Int32 → Prop) (S : GS) (x1 : Int32) (x2 : Int32) : Prop :=
  ((x2.toInt = 0 → k45 S x1 x2) ∧ (x2.toInt ≠ 0 → (((fi S 3).toInt = 0 → k45 S x1 x2) ∧ ((fi S 3).toInt ≠ 0 → w_X12_anAct S (fun r5 S6 => k26 S6 x1 r5)))))

set_option maxHeartbeats 4000000 in
set_option maxRecDepth 100000 in
theorem z_X12_statute_F26 {p : Program} {l : Launch} {e : Env} {R : Room} {s : State} {m : MethodId} {args : Array Value} {below : List Frame} {meth : Method} {c : Code} {D : va_G} {cy : Nat → ClassId} {T0 tB tE : Nat} {A : Nat → Prop} {a : Nat → Nat} {post : Int32 → GS → Prop} {k45 : GS → Int32 → Int32 → Prop} {k26 : GS → Int32 → Int32 → Prop} (b : Bz p R s m args meth c D cy T0 tB tE A 4 cX12_statute RX12 (some .int) "statute" 47 968 0 0) (hk45 : ∀ (S : GS) (x1 : Int32) (x2 : Int32), k45 S x1 x2 → Z p l e R s m args below meth c D A 4 (MQ below (QI D (U := GS) post (mw cy a) A) args s 0 0 A) 0 0 (mw cy a S) [(0, .ref (a 0)), (1, .int x1), (2, .int x2)] 45 []) (hk26 : ∀ (S : GS) (x1 : Int32) (x2 : Int32), k26 S x1 x2 → Z p l e R s m args below meth c D A 4 (MQ below (QI D (U := GS) post (mw cy a) A) args s 0 0 A) 0 0 (mw cy a S) [(0, .ref (a 0)), (1, .int x1), (2, .int x2)] 26 []) (S : GS) (x1 : Int32) (x2 : Int32) (h : w_X12_statute_F26 post k45 k26 S x1 x2) : Z p l e R s m args below meth c D A 4 (MQ below (QI D (U := GS) post (mw cy a) A) args s 0 0 A) 0 0 (mw cy a S) [(0, .ref (a 0)), (1, .int x1), (2, .int x2)] 26 [] := by
  unfold w_X12_statute_F26 at h
  refine z_iload_n b dX12_statute_26 rfl rfl ?_
  refine y_if_eq (tgt := 45) (xl := x2.toInt) b rfl dX12_statute_27 (by decide) (fun c1 => ?_) (fun c1 => ?_)
  · replace h := h.1 c1
    exact hk45 _ _ _ h
  · replace h := h.2 c1
    refine z_aload_n b dX12_statute_30 rfl rfl ?_
    refine z_get (q0 := 0) (k9 := 27) (v := .int (fi S 3)) b (mw_0 cy a S) rfl in_X12 (by decide) wf_X12_242 rfl dX12_statute_31 ?_
    refine y_if_eq (tgt := 45) (xl := (fi S 3).toInt) b rfl dX12_statute_34 (by decide) (fun c1 => ?_) (fun c1 => ?_)
    · replace h := h.1 c1
      exact hk45 _ _ _ h
    · replace h := h.2 c1
      refine z_aload_n b dX12_statute_37 rfl rfl ?_
      refine z_calli b (z_runV (q0 := 0) (As := []) (st := []) b (k_X12_anAct S _ h) cf_X12_anAct (mw_0 cy a S) rfl wm_X12_342 wi_X12_anAct ws_X12_anAct dX12_statute_38 rfl (Nat.le_of_ble_eq_true rfl) ⟨by decide, by decide, by decide, by decide⟩) (fun r5 S6 h => ?_)
      refine z_istore_n (lv' := [(2, .int r5), (0, .ref (a 0)), (1, .int x1)]) b dX12_statute_41 rfl (by decide) rfl ?_
      refine z_goto (tgt := 26) b dX12_statute_42 (by decide) ?_
      refine z_lv0 (lv' := [(0, .ref (a 0)), (1, .int x1), (2, .int r5)]) [1, 2, 0] rfl ?_
      exact hk26 _ _ _ h

set_option maxHeartbeats 4000000 in
set_option maxRecDepth 100000 in
theorem zl_X12_statute_L26 {p : Program} {l : Launch} {e : Env} {R : Room} {s : State} {m : MethodId} {args : Array Value} {below : List Frame} {meth : Method} {c : Code} {D : va_G} {cy : Nat → ClassId} {T0 tB tE : Nat} {A : Nat → Prop} {a : Nat → Nat} {post : Int32 → GS → Prop} {k45 : GS → Int32 → Int32 → Prop} (b : Bz p R s m args meth c D cy T0 tB tE A 4 cX12_statute RX12 (some .int) "statute" 47 968 0 0) (hk45 : ∀ (S : GS) (x1 : Int32) (x2 : Int32), k45 S x1 x2 → Z p l e R s m args below meth c D A 4 (MQ below (QI D (U := GS) post (mw cy a) A) args s 0 0 A) 0 0 (mw cy a S) [(0, .ref (a 0)), (1, .int x1), (2, .int x2)] 45 []) : ∀ (n : Nat) (S : GS) (x1 : Int32) (x2 : Int32), lpn (w_X12_statute_F26 post k45) (fun _ _ _ => False) n S x1 x2 → Z p l e R s m args below meth c D A 4 (MQ below (QI D (U := GS) post (mw cy a) A) args s 0 0 A) 0 0 (mw cy a S) [(0, .ref (a 0)), (1, .int x1), (2, .int x2)] 26 [] := by
  intro n
  induction n with
  | zero => intro _ _ _ h; exact h.elim
  | succ n ih => intro S x1 x2 h; exact z_X12_statute_F26 b hk45 ih S x1 x2 h

def w_X12_statute_F72 (post : Int32 → GS → Prop) (k100 : GS → Prop) (k72 : GS → Int32 → Int32 → Prop) (S : GS) (x1 : Int32) (x3 : Int32) : Prop :=
  (((fi S 12).toInt ≤ x3.toInt → k100 S) ∧ (x3.toInt < (fi S 12).toInt → w_X12_keepsAct S (((6 : Int32) * x1) + x3) ((12 : Int32) + x3) (fun S13 => k72 S13 x1 (x3 + 1))))

set_option maxHeartbeats 4000000 in
set_option maxRecDepth 100000 in
theorem z_X12_statute_F72 {p : Program} {l : Launch} {e : Env} {R : Room} {s : State} {m : MethodId} {args : Array Value} {below : List Frame} {meth : Method} {c : Code} {D : va_G} {cy : Nat → ClassId} {T0 tB tE : Nat} {A : Nat → Prop} {a : Nat → Nat} {post : Int32 → GS → Prop} {k100 : GS → Prop} {k72 : GS → Int32 → Int32 → Prop} (b : Bz p R s m args meth c D cy T0 tB tE A 4 cX12_statute RX12 (some .int) "statute" 47 968 0 0) (hk100 : ∀ (S : GS), k100 S → Z p l e R s m args below meth c D A 4 (MQ below (QI D (U := GS) post (mw cy a) A) args s 0 0 A) 0 0 (mw cy a S) [(0, .ref (a 0))] 100 []) (hk72 : ∀ (S : GS) (x1 : Int32) (x3 : Int32), k72 S x1 x3 → Z p l e R s m args below meth c D A 4 (MQ below (QI D (U := GS) post (mw cy a) A) args s 0 0 A) 0 0 (mw cy a S) [(0, .ref (a 0)), (1, .int x1), (3, .int x3)] 72 []) (S : GS) (x1 : Int32) (x3 : Int32) (h : w_X12_statute_F72 post k100 k72 S x1 x3) : Z p l e R s m args below meth c D A 4 (MQ below (QI D (U := GS) post (mw cy a) A) args s 0 0 A) 0 0 (mw cy a S) [(0, .ref (a 0)), (1, .int x1), (3, .int x3)] 72 [] := by
  unfold w_X12_statute_F72 at h
  refine z_iload_n b dX12_statute_72 rfl rfl ?_
  refine z_aload_n b dX12_statute_73 rfl rfl ?_
  refine z_get (q0 := 0) (k9 := 36) (v := .int (fi S 12)) b (mw_0 cy a S) rfl in_X12 (by decide) wf_X12_321 rfl dX12_statute_74 ?_
  refine y_icmp_ge (tgt := 100) (xl := x3.toInt) (yl := (fi S 12).toInt) b rfl rfl dX12_statute_77 (by decide) (fun c1 => ?_) (fun c1 => ?_)
  · replace h := h.1 c1
    refine z_lv0 (lv' := [(0, .ref (a 0))]) [0] rfl ?_
    exact hk100 _ h
  · replace h := h.2 c1
    refine z_aload_n b dX12_statute_80 rfl rfl ?_
    refine z_bipush (v := 6) b dX12_statute_81 (by decide) ?_
    refine z_iload_n b dX12_statute_83 rfl rfl ?_
    refine z_imul b dX12_statute_84 rfl ?_
    refine z_iload_n b dX12_statute_85 rfl rfl ?_
    refine z_iadd b dX12_statute_86 rfl ?_
    refine z_bipush (v := 12) b dX12_statute_87 (by decide) ?_
    refine z_iload_n b dX12_statute_89 rfl rfl ?_
    refine z_iadd b dX12_statute_90 rfl ?_
    refine z_callv b (z_runV (q0 := 0) (As := [.int (((6 : Int32) * x1) + x3), .int ((12 : Int32) + x3)]) (st := []) b (k_X12_keepsAct S (((6 : Int32) * x1) + x3) ((12 : Int32) + x3) _ h) cf_X12_keepsAct (mw_0 cy a S) rfl wm_X12_349 wi_X12_keepsAct ws_X12_keepsAct dX12_statute_91 rfl (Nat.le_of_ble_eq_true rfl) ⟨by decide, by decide, by decide, by decide⟩) (fun S13 h => ?_)
    refine z_iinc (k9 := 2) (v := (x3 + 1)) (lv' := [(3, .int (x3 + 1)), (0, .ref (a 0)), (1, .int x1)]) b dX12_statute_94 rfl rfl (by decide) rfl ?_
    refine z_goto (tgt := 72) b dX12_statute_97 (by decide) ?_
    refine z_lv0 (lv' := [(0, .ref (a 0)), (1, .int x1), (3, .int (x3 + 1))]) [1, 2, 0] rfl ?_
    exact hk72 _ _ _ h

set_option maxHeartbeats 4000000 in
set_option maxRecDepth 100000 in
theorem zl_X12_statute_L72 {p : Program} {l : Launch} {e : Env} {R : Room} {s : State} {m : MethodId} {args : Array Value} {below : List Frame} {meth : Method} {c : Code} {D : va_G} {cy : Nat → ClassId} {T0 tB tE : Nat} {A : Nat → Prop} {a : Nat → Nat} {post : Int32 → GS → Prop} {k100 : GS → Prop} (b : Bz p R s m args meth c D cy T0 tB tE A 4 cX12_statute RX12 (some .int) "statute" 47 968 0 0) (hk100 : ∀ (S : GS), k100 S → Z p l e R s m args below meth c D A 4 (MQ below (QI D (U := GS) post (mw cy a) A) args s 0 0 A) 0 0 (mw cy a S) [(0, .ref (a 0))] 100 []) : ∀ (n : Nat) (S : GS) (x1 : Int32) (x3 : Int32), lpn (w_X12_statute_F72 post k100) (fun _ _ _ => False) n S x1 x3 → Z p l e R s m args below meth c D A 4 (MQ below (QI D (U := GS) post (mw cy a) A) args s 0 0 A) 0 0 (mw cy a S) [(0, .ref (a 0)), (1, .int x1), (3, .int x3)] 72 [] := by
  intro n
  induction n with
  | zero => intro _ _ _ h; exact h.elim
  | succ n ih => intro S x1 x3 h; exact z_X12_statute_F72 b hk100 ih S x1 x3 h

def w_X12_statute_B100 (post : Int32 → GS → Prop) (S : GS)  : Prop :=
  post (fi S 12) S

set_option maxHeartbeats 4000000 in
set_option maxRecDepth 100000 in
theorem z_X12_statute_B100 {p : Program} {l : Launch} {e : Env} {R : Room} {s : State} {m : MethodId} {args : Array Value} {below : List Frame} {meth : Method} {c : Code} {D : va_G} {cy : Nat → ClassId} {T0 tB tE : Nat} {A : Nat → Prop} {a : Nat → Nat} {post : Int32 → GS → Prop} (b : Bz p R s m args meth c D cy T0 tB tE A 4 cX12_statute RX12 (some .int) "statute" 47 968 0 0) (S : GS)  (h : w_X12_statute_B100 post S ) : Z p l e R s m args below meth c D A 4 (MQ below (QI D (U := GS) post (mw cy a) A) args s 0 0 A) 0 0 (mw cy a S) [(0, .ref (a 0))] 100 [] := by
  unfold w_X12_statute_B100 at h
  refine z_aload_n b dX12_statute_100 rfl rfl ?_
  refine z_get (q0 := 0) (k9 := 36) (v := .int (fi S 12)) b (mw_0 cy a S) rfl in_X12 (by decide) wf_X12_321 rfl dX12_statute_101 ?_
  exact z_iret (u := S) b rfl dX12_statute_104 h rfl (by decide) (by decide)

def w_X12_statute_B45 (post : Int32 → GS → Prop) (S : GS) (x1 : Int32) (x2 : Int32) : Prop :=
  w_X12_ends S (fun S8 => ((x2.toInt ≠ 0 → w_X12_keeps S8 x1 (fun S10 => (0 ≤ x1.toInt ∧ x1.toInt < 2) ∧ ∃ n, lpn (w_X12_statute_F72 post (w_X12_statute_B100 post)) (fun _ _ _ => False) n (su S10 7 (x1.toNatClampNeg) (fi S10 12)) x1 0)) ∧ (x2.toInt = 0 → post (-1) S8)))

set_option maxHeartbeats 4000000 in
set_option maxRecDepth 100000 in
theorem z_X12_statute_B45 {p : Program} {l : Launch} {e : Env} {R : Room} {s : State} {m : MethodId} {args : Array Value} {below : List Frame} {meth : Method} {c : Code} {D : va_G} {cy : Nat → ClassId} {T0 tB tE : Nat} {A : Nat → Prop} {a : Nat → Nat} {post : Int32 → GS → Prop} (b : Bz p R s m args meth c D cy T0 tB tE A 4 cX12_statute RX12 (some .int) "statute" 47 968 0 0) (S : GS) (x1 : Int32) (x2 : Int32) (h : w_X12_statute_B45 post S x1 x2) : Z p l e R s m args below meth c D A 4 (MQ below (QI D (U := GS) post (mw cy a) A) args s 0 0 A) 0 0 (mw cy a S) [(0, .ref (a 0)), (1, .int x1), (2, .int x2)] 45 [] := by
  unfold w_X12_statute_B45 at h
  refine z_aload_n b dX12_statute_45 rfl rfl ?_
  refine z_callv b (z_runV (q0 := 0) (As := []) (st := []) b (k_X12_ends S _ h) cf_X12_ends (mw_0 cy a S) rfl wm_X12_336 wi_X12_ends ws_X12_ends dX12_statute_46 rfl (Nat.le_of_ble_eq_true rfl) ⟨by decide, by decide, by decide, by decide⟩) (fun S8 h => ?_)
  refine z_iload_n b dX12_statute_49 rfl rfl ?_
  refine y_if_ne (tgt := 55) (xl := x2.toInt) b rfl dX12_statute_50 (by decide) (fun c1 => ?_) (fun c1 => ?_)
  · replace h := h.1 c1
    refine z_aload_n b dX12_statute_55 rfl rfl ?_
    refine z_iload_n b dX12_statute_56 rfl rfl ?_
    refine z_callv b (z_runV (q0 := 0) (As := [.int x1]) (st := []) b (k_X12_keeps S8 x1 _ h) cf_X12_keeps (mw_0 cy a S8) rfl wm_X12_345 wi_X12_keeps ws_X12_keeps dX12_statute_57 rfl (Nat.le_of_ble_eq_true rfl) ⟨by decide, by decide, by decide, by decide⟩) (fun S10 h => ?_)
    refine z_aload_n b dX12_statute_60 rfl rfl ?_
    refine z_get (q0 := 0) (k9 := 9) (v := .ref (a 8)) b (mw_0 cy a S10) rfl in_X12 (by decide) wf_X12_36 rfl dX12_statute_61 ?_
    refine z_iload_n b dX12_statute_64 rfl rfl ?_
    refine z_aload_n b dX12_statute_65 rfl rfl ?_
    refine z_get (q0 := 0) (k9 := 36) (v := .int (fi S10 12)) b (mw_0 cy a S10) rfl in_X12 (by decide) wf_X12_321 rfl dX12_statute_66 ?_
    obtain ⟨g11, h⟩ := h
    refine y_iast (q0 := 8) (j := x1.toNatClampNeg) b (mw_8 cy a S10) (zx_r g11.1 g11.2) dX12_statute_69 (mwa_8 cy a S10 (x1.toNatClampNeg) (fi S10 12)) ?_
    refine z_iconst (v := 0) b dX12_statute_70 (by decide) ?_
    refine z_istore_n (lv' := [(3, .int 0), (0, .ref (a 0)), (1, .int x1), (2, .int x2)]) b dX12_statute_71 rfl (by decide) rfl ?_
    refine z_lv0 (lv' := [(0, .ref (a 0)), (1, .int x1), (3, .int 0)]) [1, 2, 0] rfl ?_
    obtain ⟨n, h⟩ := h
    exact zl_X12_statute_L72 b (fun S h => z_X12_statute_B100 b _ h) n _ _ _ h
  · replace h := h.2 c1
    refine z_iconst (v := (-1)) b dX12_statute_53 (by decide) ?_
    exact z_iret (u := S8) b rfl dX12_statute_54 h rfl (by decide) (by decide)

def w_X12_statute (S : GS) (p0 : Int32) (post : Int32 → GS → Prop) : Prop :=
  w_X12_isIn (si S 6 0) p0 0 1 (fun r1 S2 => ((r1.toInt ≠ 0 → w_X12_begins S2 (fun S4 => ∃ n, lpn (w_X12_statute_F26 post (w_X12_statute_B45 post)) (fun _ _ _ => False) n S4 p0 1)) ∧ (r1.toInt = 0 → w_X12_ends S2 (fun S15 => post (-1) S15))))

set_option maxHeartbeats 4000000 in
set_option maxRecDepth 100000 in
theorem k_X12_statute {l : Launch} {D : va_G} {cy : Nat → ClassId} {T0 tB tE : Nat} {a : Nat → Nat} (S : GS) (p0 : Int32) (post : Int32 → GS → Prop) (h : w_X12_statute S p0 post) : Ct l D cy T0 tB tE yX12_statute cX12_statute 4 (some .int) 47 968 0 0 (mw cy a S) [.ref (a 0), .int p0] (QI D (U := GS) post (mw cy a)) := by
  refine Ct.ofZ RX12 "statute" [(0, .ref (a 0)), (1, .int p0)] rfl rfl rfl rfl (Nat.le_of_ble_eq_true rfl) ?_
  intro p e R s m args below meth c A b
  unfold w_X12_statute at h
  refine z_aload_n b dX12_statute_0 rfl rfl ?_
  refine z_iconst (v := 0) b dX12_statute_1 (by decide) ?_
  refine z_put (q0 := 0) (k9 := 30) tyX12 b (mw_0 cy a S) rfl in_X12 tyX12_ok nmX12 (by decide) wf_X12_257 rfl rfl rfl rfl (Nat.le_of_ble_eq_true rfl) dX12_statute_2 (mwp_0_30 cy a S 0) ?_
  refine z_iload_n b dX12_statute_5 rfl rfl ?_
  refine z_iconst (v := 0) b dX12_statute_6 (by decide) ?_
  refine z_iconst (v := 1) b dX12_statute_7 (by decide) ?_
  refine z_calli b (z_runS (As := [.int p0, .int 0, .int 1]) (st := []) b (k_X12_isIn (si S 6 0) p0 0 1 _ h) cf_X12_isIn wm_X12_1 ws_X12_isIn dX12_statute_8 rfl (Nat.le_of_ble_eq_true rfl) ⟨by decide, by decide, by decide, by decide⟩) (fun r1 S2 h => ?_)
  refine y_if_ne (tgt := 20) (xl := r1.toInt) b rfl dX12_statute_11 (by decide) (fun c1 => ?_) (fun c1 => ?_)
  · replace h := h.1 c1
    refine z_aload_n b dX12_statute_20 rfl rfl ?_
    refine z_callv b (z_runV (q0 := 0) (As := []) (st := []) b (k_X12_begins S2 _ h) cf_X12_begins (mw_0 cy a S2) rfl wm_X12_339 wi_X12_begins ws_X12_begins dX12_statute_21 rfl (Nat.le_of_ble_eq_true rfl) ⟨by decide, by decide, by decide, by decide⟩) (fun S4 h => ?_)
    refine z_iconst (v := 1) b dX12_statute_24 (by decide) ?_
    refine z_istore_n (lv' := [(2, .int 1), (0, .ref (a 0)), (1, .int p0)]) b dX12_statute_25 rfl (by decide) rfl ?_
    refine z_lv0 (lv' := [(0, .ref (a 0)), (1, .int p0), (2, .int 1)]) [1, 2, 0] rfl ?_
    obtain ⟨n, h⟩ := h
    exact zl_X12_statute_L26 b (fun S x1 x2 h => z_X12_statute_B45 b _ _ _ h) n _ _ _ h
  · replace h := h.2 c1
    refine z_aload_n b dX12_statute_14 rfl rfl ?_
    refine z_callv b (z_runV (q0 := 0) (As := []) (st := []) b (k_X12_ends S2 _ h) cf_X12_ends (mw_0 cy a S2) rfl wm_X12_336 wi_X12_ends ws_X12_ends dX12_statute_15 rfl (Nat.le_of_ble_eq_true rfl) ⟨by decide, by decide, by decide, by decide⟩) (fun S15 h => ?_)
    refine z_iconst (v := (-1)) b dX12_statute_18 (by decide) ?_
    exact z_iret (u := S15) b rfl dX12_statute_19 h rfl (by decide) (by decide)

def w_X12_feed_B71 (post : Int32 → GS → Prop) (k18 : GS → Int32 → Int32 → Int32 → Int32 → Int32 → Int32 → Prop) (k115 : GS → Prop) (S : GS) (x1 : Int32) (x2 : Int32) (x3 : Int32) (x4 : Int32) (x5 : Int32) (x6 : Int32) (y0 : Int32) : Prop :=
  (0 ≤ (fi S 1).toInt ∧ (fi S 1).toInt < 700) ∧ k18 (si (su S 21 ((fi S 1).toNatClampNeg) ((y0 >>> (((24 : Int32) - ((8 : Int32) * (x6 - x6 / 4 * 4))) &&& 31)) &&& 255)) 1 ((fi S 1) + 1)) x1 x2 x3 x4 x5 (x6 + 1)

set_option maxHeartbeats 4000000 in
set_option maxRecDepth 100000 in
theorem z_X12_feed_B71 {p : Program} {l : Launch} {e : Env} {R : Room} {s : State} {m : MethodId} {args : Array Value} {below : List Frame} {meth : Method} {c : Code} {D : va_G} {cy : Nat → ClassId} {T0 tB tE : Nat} {A : Nat → Prop} {a : Nat → Nat} {post : Int32 → GS → Prop} {k18 : GS → Int32 → Int32 → Int32 → Int32 → Int32 → Int32 → Prop} {k115 : GS → Prop} (b : Bz p R s m args meth c D cy T0 tB tE A 8 cX12_feed RX12 (some .int) "feed" 0 0 0 0) (hk18 : ∀ (S : GS) (x1 : Int32) (x2 : Int32) (x3 : Int32) (x4 : Int32) (x5 : Int32) (x6 : Int32), k18 S x1 x2 x3 x4 x5 x6 → Z p l e R s m args below meth c D A 8 (MQ below (QI D (U := GS) post (mw cy a) A) args s 0 0 A) 0 0 (mw cy a S) [(0, .ref (a 0)), (1, .int x1), (2, .int x2), (3, .int x3), (4, .int x4), (5, .int x5), (6, .int x6)] 18 []) (hk115 : ∀ (S : GS), k115 S → Z p l e R s m args below meth c D A 8 (MQ below (QI D (U := GS) post (mw cy a) A) args s 0 0 A) 0 0 (mw cy a S) [(0, .ref (a 0))] 115 []) (S : GS) (x1 : Int32) (x2 : Int32) (x3 : Int32) (x4 : Int32) (x5 : Int32) (x6 : Int32) (y0 : Int32) (h : w_X12_feed_B71 post k18 k115 S x1 x2 x3 x4 x5 x6 y0) : Z p l e R s m args below meth c D A 8 (MQ below (QI D (U := GS) post (mw cy a) A) args s 0 0 A) 0 0 (mw cy a S) [(0, .ref (a 0)), (1, .int x1), (2, .int x2), (3, .int x3), (4, .int x4), (5, .int x5), (6, .int x6)] 71 [.int y0] := by
  unfold w_X12_feed_B71 at h
  refine z_istore (lv' := [(7, .int y0), (0, .ref (a 0)), (1, .int x1), (2, .int x2), (3, .int x3), (4, .int x4), (5, .int x5), (6, .int x6)]) b dX12_feed_71 (by decide) rfl ?_
  refine z_aload_n b dX12_feed_73 rfl rfl ?_
  refine z_get (q0 := 0) (k9 := 23) (v := .ref (a 22)) b (mw_0 cy a S) rfl in_X12 (by decide) wf_X12_78 rfl dX12_feed_74 ?_
  refine z_aload_n b dX12_feed_77 rfl rfl ?_
  refine z_get (q0 := 0) (k9 := 25) (v := .int (fi S 1)) b (mw_0 cy a S) rfl in_X12 (by decide) wf_X12_182 rfl dX12_feed_78 ?_
  refine z_iload b dX12_feed_81 rfl ?_
  refine z_bipush (v := 24) b dX12_feed_83 (by decide) ?_
  refine z_bipush (v := 8) b dX12_feed_85 (by decide) ?_
  refine z_iload b dX12_feed_87 rfl ?_
  refine z_iconst (v := 4) b dX12_feed_89 (by decide) ?_
  refine z_irem b dX12_feed_90 (by decide) rfl ?_
  refine z_imul b dX12_feed_91 rfl ?_
  refine z_isub b dX12_feed_92 rfl ?_
  refine z_ishr b dX12_feed_93 rfl ?_
  refine z_sipush (v := 255) b dX12_feed_94 (by decide) ?_
  refine z_iand b dX12_feed_97 rfl ?_
  obtain ⟨g1, h⟩ := h
  refine y_iast (q0 := 22) (j := (fi S 1).toNatClampNeg) b (mw_22 cy a S) (zx_r g1.1 g1.2) dX12_feed_98 (mwa_22 cy a S ((fi S 1).toNatClampNeg) ((y0 >>> (((24 : Int32) - ((8 : Int32) * (x6 - x6 / 4 * 4))) &&& 31)) &&& 255)) ?_
  refine z_aload_n b dX12_feed_99 rfl rfl ?_
  refine z_dup b dX12_feed_100 rfl ?_
  refine z_get (q0 := 0) (k9 := 25) (v := .int (fi S 1)) b (mw_0 cy a (su S 21 ((fi S 1).toNatClampNeg) ((y0 >>> (((24 : Int32) - ((8 : Int32) * (x6 - x6 / 4 * 4))) &&& 31)) &&& 255))) rfl in_X12 (by decide) wf_X12_182 rfl dX12_feed_101 ?_
  refine z_iconst (v := 1) b dX12_feed_104 (by decide) ?_
  refine z_iadd b dX12_feed_105 rfl ?_
  refine z_put (q0 := 0) (k9 := 25) tyX12 b (mw_0 cy a (su S 21 ((fi S 1).toNatClampNeg) ((y0 >>> (((24 : Int32) - ((8 : Int32) * (x6 - x6 / 4 * 4))) &&& 31)) &&& 255))) rfl in_X12 tyX12_ok nmX12 (by decide) wf_X12_182 rfl rfl rfl rfl (Nat.le_of_ble_eq_true rfl) dX12_feed_106 (mwp_0_25 cy a (su S 21 ((fi S 1).toNatClampNeg) ((y0 >>> (((24 : Int32) - ((8 : Int32) * (x6 - x6 / 4 * 4))) &&& 31)) &&& 255)) ((fi S 1) + 1)) ?_
  refine z_iinc (k9 := 7) (v := (x6 + 1)) (lv' := [(6, .int (x6 + 1)), (7, .int y0), (0, .ref (a 0)), (1, .int x1), (2, .int x2), (3, .int x3), (4, .int x4), (5, .int x5)]) b dX12_feed_109 rfl rfl (by decide) rfl ?_
  refine z_goto (tgt := 18) b dX12_feed_112 (by decide) ?_
  refine z_lv0 (lv' := [(0, .ref (a 0)), (1, .int x1), (2, .int x2), (3, .int x3), (4, .int x4), (5, .int x5), (6, .int (x6 + 1))]) [2, 3, 4, 5, 6, 7, 0] rfl ?_
  exact hk18 _ _ _ _ _ _ _ h

def w_X12_feed_F18 (post : Int32 → GS → Prop) (k115 : GS → Prop) (k18 : GS → Int32 → Int32 → Int32 → Int32 → Int32 → Int32 → Prop) (S : GS) (x1 : Int32) (x2 : Int32) (x3 : Int32) (x4 : Int32) (x5 : Int32) (x6 : Int32) : Prop :=
  ((20 ≤ x6.toInt → k115 S) ∧ (x6.toInt < 20 → ((4 ≤ x6.toInt → ((8 ≤ x6.toInt → ((12 ≤ x6.toInt → ((16 ≤ x6.toInt → w_X12_feed_B71 post k18 k115 S x1 x2 x3 x4 x5 x6 x5) ∧ (x6.toInt < 16 → w_X12_feed_B71 post k18 k115 S x1 x2 x3 x4 x5 x6 x4))) ∧ (x6.toInt < 12 → w_X12_feed_B71 post k18 k115 S x1 x2 x3 x4 x5 x6 x3))) ∧ (x6.toInt < 8 → w_X12_feed_B71 post k18 k115 S x1 x2 x3 x4 x5 x6 x2))) ∧ (x6.toInt < 4 → w_X12_feed_B71 post k18 k115 S x1 x2 x3 x4 x5 x6 x1))))

set_option maxHeartbeats 4000000 in
set_option maxRecDepth 100000 in
theorem z_X12_feed_F18 {p : Program} {l : Launch} {e : Env} {R : Room} {s : State} {m : MethodId} {args : Array Value} {below : List Frame} {meth : Method} {c : Code} {D : va_G} {cy : Nat → ClassId} {T0 tB tE : Nat} {A : Nat → Prop} {a : Nat → Nat} {post : Int32 → GS → Prop} {k115 : GS → Prop} {k18 : GS → Int32 → Int32 → Int32 → Int32 → Int32 → Int32 → Prop} (b : Bz p R s m args meth c D cy T0 tB tE A 8 cX12_feed RX12 (some .int) "feed" 0 0 0 0) (hk115 : ∀ (S : GS), k115 S → Z p l e R s m args below meth c D A 8 (MQ below (QI D (U := GS) post (mw cy a) A) args s 0 0 A) 0 0 (mw cy a S) [(0, .ref (a 0))] 115 []) (hk18 : ∀ (S : GS) (x1 : Int32) (x2 : Int32) (x3 : Int32) (x4 : Int32) (x5 : Int32) (x6 : Int32), k18 S x1 x2 x3 x4 x5 x6 → Z p l e R s m args below meth c D A 8 (MQ below (QI D (U := GS) post (mw cy a) A) args s 0 0 A) 0 0 (mw cy a S) [(0, .ref (a 0)), (1, .int x1), (2, .int x2), (3, .int x3), (4, .int x4), (5, .int x5), (6, .int x6)] 18 []) (S : GS) (x1 : Int32) (x2 : Int32) (x3 : Int32) (x4 : Int32) (x5 : Int32) (x6 : Int32) (h : w_X12_feed_F18 post k115 k18 S x1 x2 x3 x4 x5 x6) : Z p l e R s m args below meth c D A 8 (MQ below (QI D (U := GS) post (mw cy a) A) args s 0 0 A) 0 0 (mw cy a S) [(0, .ref (a 0)), (1, .int x1), (2, .int x2), (3, .int x3), (4, .int x4), (5, .int x5), (6, .int x6)] 18 [] := by
  unfold w_X12_feed_F18 at h
  refine z_iload b dX12_feed_18 rfl ?_
  refine z_bipush (v := 20) b dX12_feed_20 (by decide) ?_
  refine y_icmp_ge (tgt := 115) (xl := x6.toInt) (yl := 20) b rfl (by decide) dX12_feed_22 (by decide) (fun c1 => ?_) (fun c1 => ?_)
  · replace h := h.1 c1
    refine z_lv0 (lv' := [(0, .ref (a 0))]) [0] rfl ?_
    exact hk115 _ h
  · replace h := h.2 c1
    refine z_iload b dX12_feed_25 rfl ?_
    refine z_iconst (v := 4) b dX12_feed_27 (by decide) ?_
    refine y_icmp_ge (tgt := 35) (xl := x6.toInt) (yl := 4) b rfl (by decide) dX12_feed_28 (by decide) (fun c1 => ?_) (fun c1 => ?_)
    · replace h := h.1 c1
      refine z_iload b dX12_feed_35 rfl ?_
      refine z_bipush (v := 8) b dX12_feed_37 (by decide) ?_
      refine y_icmp_ge (tgt := 46) (xl := x6.toInt) (yl := 8) b rfl (by decide) dX12_feed_39 (by decide) (fun c1 => ?_) (fun c1 => ?_)
      · replace h := h.1 c1
        refine z_iload b dX12_feed_46 rfl ?_
        refine z_bipush (v := 12) b dX12_feed_48 (by decide) ?_
        refine y_icmp_ge (tgt := 57) (xl := x6.toInt) (yl := 12) b rfl (by decide) dX12_feed_50 (by decide) (fun c1 => ?_) (fun c1 => ?_)
        · replace h := h.1 c1
          refine z_iload b dX12_feed_57 rfl ?_
          refine z_bipush (v := 16) b dX12_feed_59 (by decide) ?_
          refine y_icmp_ge (tgt := 69) (xl := x6.toInt) (yl := 16) b rfl (by decide) dX12_feed_61 (by decide) (fun c1 => ?_) (fun c1 => ?_)
          · replace h := h.1 c1
            refine z_iload b dX12_feed_69 rfl ?_
            exact z_X12_feed_B71 b hk18 hk115 _ _ _ _ _ _ _ _ h
          · replace h := h.2 c1
            refine z_iload b dX12_feed_64 rfl ?_
            refine z_goto (tgt := 71) b dX12_feed_66 (by decide) ?_
            exact z_X12_feed_B71 b hk18 hk115 _ _ _ _ _ _ _ _ h
        · replace h := h.2 c1
          refine z_iload_n b dX12_feed_53 rfl rfl ?_
          refine z_goto (tgt := 71) b dX12_feed_54 (by decide) ?_
          exact z_X12_feed_B71 b hk18 hk115 _ _ _ _ _ _ _ _ h
      · replace h := h.2 c1
        refine z_iload_n b dX12_feed_42 rfl rfl ?_
        refine z_goto (tgt := 71) b dX12_feed_43 (by decide) ?_
        exact z_X12_feed_B71 b hk18 hk115 _ _ _ _ _ _ _ _ h
    · replace h := h.2 c1
      refine z_iload_n b dX12_feed_31 rfl rfl ?_
      refine z_goto (tgt := 71) b dX12_feed_32 (by decide) ?_
      exact z_X12_feed_B71 b hk18 hk115 _ _ _ _ _ _ _ _ h

set_option maxHeartbeats 4000000 in
set_option maxRecDepth 100000 in
theorem zl_X12_feed_L18 {p : Program} {l : Launch} {e : Env} {R : Room} {s : State} {m : MethodId} {args : Array Value} {below : List Frame} {meth : Method} {c : Code} {D : va_G} {cy : Nat → ClassId} {T0 tB tE : Nat} {A : Nat → Prop} {a : Nat → Nat} {post : Int32 → GS → Prop} {k115 : GS → Prop} (b : Bz p R s m args meth c D cy T0 tB tE A 8 cX12_feed RX12 (some .int) "feed" 0 0 0 0) (hk115 : ∀ (S : GS), k115 S → Z p l e R s m args below meth c D A 8 (MQ below (QI D (U := GS) post (mw cy a) A) args s 0 0 A) 0 0 (mw cy a S) [(0, .ref (a 0))] 115 []) : ∀ (n : Nat) (S : GS) (x1 : Int32) (x2 : Int32) (x3 : Int32) (x4 : Int32) (x5 : Int32) (x6 : Int32), lpn (w_X12_feed_F18 post k115) (fun _ _ _ _ _ _ _ => False) n S x1 x2 x3 x4 x5 x6 → Z p l e R s m args below meth c D A 8 (MQ below (QI D (U := GS) post (mw cy a) A) args s 0 0 A) 0 0 (mw cy a S) [(0, .ref (a 0)), (1, .int x1), (2, .int x2), (3, .int x3), (4, .int x4), (5, .int x5), (6, .int x6)] 18 [] := by
  intro n
  induction n with
  | zero => intro _ _ _ _ _ _ _ h; exact h.elim
  | succ n ih => intro S x1 x2 x3 x4 x5 x6 h; exact z_X12_feed_F18 b hk115 ih S x1 x2 x3 x4 x5 x6 h

def w_X12_feed_B115 (post : Int32 → GS → Prop) (S : GS)  : Prop :=
  post (fi S 1) S

set_option maxHeartbeats 4000000 in
set_option maxRecDepth 100000 in
theorem z_X12_feed_B115 {p : Program} {l : Launch} {e : Env} {R : Room} {s : State} {m : MethodId} {args : Array Value} {below : List Frame} {meth : Method} {c : Code} {D : va_G} {cy : Nat → ClassId} {T0 tB tE : Nat} {A : Nat → Prop} {a : Nat → Nat} {post : Int32 → GS → Prop} (b : Bz p R s m args meth c D cy T0 tB tE A 8 cX12_feed RX12 (some .int) "feed" 0 0 0 0) (S : GS)  (h : w_X12_feed_B115 post S ) : Z p l e R s m args below meth c D A 8 (MQ below (QI D (U := GS) post (mw cy a) A) args s 0 0 A) 0 0 (mw cy a S) [(0, .ref (a 0))] 115 [] := by
  unfold w_X12_feed_B115 at h
  refine z_aload_n b dX12_feed_115 rfl rfl ?_
  refine z_get (q0 := 0) (k9 := 25) (v := .int (fi S 1)) b (mw_0 cy a S) rfl in_X12 (by decide) wf_X12_182 rfl dX12_feed_116 ?_
  exact z_iret (u := S) b rfl dX12_feed_119 h rfl (by decide) (by decide)

def w_X12_feed (S : GS) (p0 : Int32) (p1 : Int32) (p2 : Int32) (p3 : Int32) (p4 : Int32) (post : Int32 → GS → Prop) : Prop :=
  ((((fi S 1) + 20).toInt ≤ 700 → ∃ n, lpn (w_X12_feed_F18 post (w_X12_feed_B115 post)) (fun _ _ _ _ _ _ _ => False) n S p0 p1 p2 p3 p4 0) ∧ (700 < ((fi S 1) + 20).toInt → post (-1) S))

set_option maxHeartbeats 4000000 in
set_option maxRecDepth 100000 in
theorem k_X12_feed {l : Launch} {D : va_G} {cy : Nat → ClassId} {T0 tB tE : Nat} {a : Nat → Nat} (S : GS) (p0 : Int32) (p1 : Int32) (p2 : Int32) (p3 : Int32) (p4 : Int32) (post : Int32 → GS → Prop) (h : w_X12_feed S p0 p1 p2 p3 p4 post) : Ct l D cy T0 tB tE yX12_feed cX12_feed 8 (some .int) 0 0 0 0 (mw cy a S) [.ref (a 0), .int p0, .int p1, .int p2, .int p3, .int p4] (QI D (U := GS) post (mw cy a)) := by
  refine Ct.ofZ RX12 "feed" [(0, .ref (a 0)), (1, .int p0), (2, .int p1), (3, .int p2), (4, .int p3), (5, .int p4)] rfl rfl rfl rfl (Nat.le_of_ble_eq_true rfl) ?_
  intro p e R s m args below meth c A b
  unfold w_X12_feed at h
  refine z_aload_n b dX12_feed_0 rfl rfl ?_
  refine z_get (q0 := 0) (k9 := 25) (v := .int (fi S 1)) b (mw_0 cy a S) rfl in_X12 (by decide) wf_X12_182 rfl dX12_feed_1 ?_
  refine z_bipush (v := 20) b dX12_feed_4 (by decide) ?_
  refine z_iadd b dX12_feed_6 rfl ?_
  refine z_sipush (v := 700) b dX12_feed_7 (by decide) ?_
  refine y_icmp_le (tgt := 15) (xl := ((fi S 1) + 20).toInt) (yl := 700) b rfl (by decide) dX12_feed_10 (by decide) (fun c1 => ?_) (fun c1 => ?_)
  · replace h := h.1 c1
    refine z_iconst (v := 0) b dX12_feed_15 (by decide) ?_
    refine z_istore (lv' := [(6, .int 0), (0, .ref (a 0)), (1, .int p0), (2, .int p1), (3, .int p2), (4, .int p3), (5, .int p4)]) b dX12_feed_16 (by decide) rfl ?_
    refine z_lv0 (lv' := [(0, .ref (a 0)), (1, .int p0), (2, .int p1), (3, .int p2), (4, .int p3), (5, .int p4), (6, .int 0)]) [1, 2, 3, 4, 5, 6, 0] rfl ?_
    obtain ⟨n, h⟩ := h
    exact zl_X12_feed_L18 b (fun S h => z_X12_feed_B115 b _ h) n _ _ _ _ _ _ _ h
  · replace h := h.2 c1
    refine z_iconst (v := (-1)) b dX12_feed_13 (by decide) ?_
    exact z_iret (u := S) b rfl dX12_feed_14 h rfl (by decide) (by decide)

def w_X12_stop_B27 (post : Int32 → GS → Prop) (S : GS)  : Prop :=
  post (-1) S

set_option maxHeartbeats 4000000 in
set_option maxRecDepth 100000 in
theorem z_X12_stop_B27 {p : Program} {l : Launch} {e : Env} {R : Room} {s : State} {m : MethodId} {args : Array Value} {below : List Frame} {meth : Method} {c : Code} {D : va_G} {cy : Nat → ClassId} {T0 tB tE : Nat} {A : Nat → Prop} {a : Nat → Nat} {post : Int32 → GS → Prop} (b : Bz p R s m args meth c D cy T0 tB tE A 6 cX12_stop RX12 (some .int) "stop" 6 164 0 0) (S : GS)  (h : w_X12_stop_B27 post S ) : Z p l e R s m args below meth c D A 6 (MQ below (QI D (U := GS) post (mw cy a) A) args s 0 0 A) 0 0 (mw cy a S) [] 27 [] := by
  unfold w_X12_stop_B27 at h
  refine z_iconst (v := (-1)) b dX12_stop_27 (by decide) ?_
  exact z_iret (u := S) b rfl dX12_stop_28 h rfl (by decide) (by decide)

def w_X12_stop_B115 (post : Int32 → GS → Prop) (k44 : GS → Int32 → Int32 → Int32 → Int32 → Int32 → Prop) (k121 : GS → Int32 → Int32 → Int32 → Int32 → Prop) (S : GS) (x1 : Int32) (x2 : Int32) (x3 : Int32) (x4 : Int32) (x5 : Int32) : Prop :=
  k44 S x1 x2 x3 x4 (x5 + 1)

set_option maxHeartbeats 4000000 in
set_option maxRecDepth 100000 in
theorem z_X12_stop_B115 {p : Program} {l : Launch} {e : Env} {R : Room} {s : State} {m : MethodId} {args : Array Value} {below : List Frame} {meth : Method} {c : Code} {D : va_G} {cy : Nat → ClassId} {T0 tB tE : Nat} {A : Nat → Prop} {a : Nat → Nat} {post : Int32 → GS → Prop} {k44 : GS → Int32 → Int32 → Int32 → Int32 → Int32 → Prop} {k121 : GS → Int32 → Int32 → Int32 → Int32 → Prop} (b : Bz p R s m args meth c D cy T0 tB tE A 6 cX12_stop RX12 (some .int) "stop" 6 164 0 0) (hk44 : ∀ (S : GS) (x1 : Int32) (x2 : Int32) (x3 : Int32) (x4 : Int32) (x5 : Int32), k44 S x1 x2 x3 x4 x5 → Z p l e R s m args below meth c D A 6 (MQ below (QI D (U := GS) post (mw cy a) A) args s 0 0 A) 0 0 (mw cy a S) [(0, .ref (a 0)), (1, .int x1), (2, .int x2), (3, .int x3), (4, .int x4), (5, .int x5)] 44 []) (hk121 : ∀ (S : GS) (x1 : Int32) (x2 : Int32) (x3 : Int32) (x4 : Int32), k121 S x1 x2 x3 x4 → Z p l e R s m args below meth c D A 6 (MQ below (QI D (U := GS) post (mw cy a) A) args s 0 0 A) 0 0 (mw cy a S) [(0, .ref (a 0)), (1, .int x1), (2, .int x2), (3, .int x3), (4, .int x4)] 121 []) (S : GS) (x1 : Int32) (x2 : Int32) (x3 : Int32) (x4 : Int32) (x5 : Int32) (h : w_X12_stop_B115 post k44 k121 S x1 x2 x3 x4 x5) : Z p l e R s m args below meth c D A 6 (MQ below (QI D (U := GS) post (mw cy a) A) args s 0 0 A) 0 0 (mw cy a S) [(0, .ref (a 0)), (1, .int x1), (2, .int x2), (3, .int x3), (4, .int x4), (5, .int x5)] 115 [] := by
  unfold w_X12_stop_B115 at h
  refine z_iinc (k9 := 5) (v := (x5 + 1)) (lv' := [(5, .int (x5 + 1)), (0, .ref (a 0)), (1, .int x1), (2, .int x2), (3, .int x3), (4, .int x4)]) b dX12_stop_115 rfl rfl (by decide) rfl ?_
  refine z_goto (tgt := 44) b dX12_stop_118 (by decide) ?_
  refine z_lv0 (lv' := [(0, .ref (a 0)), (1, .int x1), (2, .int x2), (3, .int x3), (4, .int x4), (5, .int (x5 + 1))]) [1, 2, 3, 4, 5, 0] rfl ?_
  exact hk44 _ _ _ _ _ _ h

def w_X12_stop_B114 (post : Int32 → GS → Prop) (k44 : GS → Int32 → Int32 → Int32 → Int32 → Int32 → Prop) (k121 : GS → Int32 → Int32 → Int32 → Int32 → Prop) (S : GS) (y0 : Int32) : Prop :=
  post y0 S

set_option maxHeartbeats 4000000 in
set_option maxRecDepth 100000 in
theorem z_X12_stop_B114 {p : Program} {l : Launch} {e : Env} {R : Room} {s : State} {m : MethodId} {args : Array Value} {below : List Frame} {meth : Method} {c : Code} {D : va_G} {cy : Nat → ClassId} {T0 tB tE : Nat} {A : Nat → Prop} {a : Nat → Nat} {post : Int32 → GS → Prop} {k44 : GS → Int32 → Int32 → Int32 → Int32 → Int32 → Prop} {k121 : GS → Int32 → Int32 → Int32 → Int32 → Prop} (b : Bz p R s m args meth c D cy T0 tB tE A 6 cX12_stop RX12 (some .int) "stop" 6 164 0 0) (hk44 : ∀ (S : GS) (x1 : Int32) (x2 : Int32) (x3 : Int32) (x4 : Int32) (x5 : Int32), k44 S x1 x2 x3 x4 x5 → Z p l e R s m args below meth c D A 6 (MQ below (QI D (U := GS) post (mw cy a) A) args s 0 0 A) 0 0 (mw cy a S) [(0, .ref (a 0)), (1, .int x1), (2, .int x2), (3, .int x3), (4, .int x4), (5, .int x5)] 44 []) (hk121 : ∀ (S : GS) (x1 : Int32) (x2 : Int32) (x3 : Int32) (x4 : Int32), k121 S x1 x2 x3 x4 → Z p l e R s m args below meth c D A 6 (MQ below (QI D (U := GS) post (mw cy a) A) args s 0 0 A) 0 0 (mw cy a S) [(0, .ref (a 0)), (1, .int x1), (2, .int x2), (3, .int x3), (4, .int x4)] 121 []) (S : GS) (y0 : Int32) (h : w_X12_stop_B114 post k44 k121 S y0) : Z p l e R s m args below meth c D A 6 (MQ below (QI D (U := GS) post (mw cy a) A) args s 0 0 A) 0 0 (mw cy a S) [] 114 [.int y0] := by
  unfold w_X12_stop_B114 at h
  exact z_iret (u := S) b rfl dX12_stop_114 h rfl (by decide) (by decide)

def w_X12_stop_F44 (post : Int32 → GS → Prop) (k121 : GS → Int32 → Int32 → Int32 → Int32 → Prop) (k44 : GS → Int32 → Int32 → Int32 → Int32 → Int32 → Prop) (S : GS) (x1 : Int32) (x2 : Int32) (x3 : Int32) (x4 : Int32) (x5 : Int32) : Prop :=
  ((((1 : Int32) <<< ((fi S 17) &&& 31)).toInt ≤ x5.toInt → k121 S x1 x2 x3 x4) ∧ (x5.toInt < ((1 : Int32) <<< ((fi S 17) &&& 31)).toInt → w_X12_bits S x5 (fun r7 S8 => ((r7.toInt ≠ x4.toInt → w_X12_stop_B115 post k44 k121 S8 x1 x2 x3 x4 x5) ∧ (r7.toInt = x4.toInt → w_X12_isHonestAll S8 x5 (fun r9 S10 => ((r9.toInt ≠ 0 → w_X12_searches S10 x1 3 x2 7 x5 (fun S12 => (((fi S12 22).toInt ≠ (-1) → w_X12_stop_B115 post k44 k121 S12 x1 x2 x3 x4 x5) ∧ ((fi S12 22).toInt = (-1) → (((fi S12 23).toInt ≠ 0 → w_X12_stop_B115 post k44 k121 S12 x1 x2 x3 x4 x5) ∧ ((fi S12 23).toInt = 0 → ((x3.toInt ≠ 0 → w_X12_stop_B114 post k44 k121 S12 x4) ∧ (x3.toInt = 0 → w_X12_stop_B114 post k44 k121 S12 x5)))))))) ∧ (r9.toInt = 0 → w_X12_stop_B115 post k44 k121 S10 x1 x2 x3 x4 x5))))))))

set_option maxHeartbeats 4000000 in
set_option maxRecDepth 100000 in
theorem z_X12_stop_F44 {p : Program} {l : Launch} {e : Env} {R : Room} {s : State} {m : MethodId} {args : Array Value} {below : List Frame} {meth : Method} {c : Code} {D : va_G} {cy : Nat → ClassId} {T0 tB tE : Nat} {A : Nat → Prop} {a : Nat → Nat} {post : Int32 → GS → Prop} {k121 : GS → Int32 → Int32 → Int32 → Int32 → Prop} {k44 : GS → Int32 → Int32 → Int32 → Int32 → Int32 → Prop} (b : Bz p R s m args meth c D cy T0 tB tE A 6 cX12_stop RX12 (some .int) "stop" 6 164 0 0) (hk121 : ∀ (S : GS) (x1 : Int32) (x2 : Int32) (x3 : Int32) (x4 : Int32), k121 S x1 x2 x3 x4 → Z p l e R s m args below meth c D A 6 (MQ below (QI D (U := GS) post (mw cy a) A) args s 0 0 A) 0 0 (mw cy a S) [(0, .ref (a 0)), (1, .int x1), (2, .int x2), (3, .int x3), (4, .int x4)] 121 []) (hk44 : ∀ (S : GS) (x1 : Int32) (x2 : Int32) (x3 : Int32) (x4 : Int32) (x5 : Int32), k44 S x1 x2 x3 x4 x5 → Z p l e R s m args below meth c D A 6 (MQ below (QI D (U := GS) post (mw cy a) A) args s 0 0 A) 0 0 (mw cy a S) [(0, .ref (a 0)), (1, .int x1), (2, .int x2), (3, .int x3), (4, .int x4), (5, .int x5)] 44 []) (S : GS) (x1 : Int32) (x2 : Int32) (x3 : Int32) (x4 : Int32) (x5 : Int32) (h : w_X12_stop_F44 post k121 k44 S x1 x2 x3 x4 x5) : Z p l e R s m args below meth c D A 6 (MQ below (QI D (U := GS) post (mw cy a) A) args s 0 0 A) 0 0 (mw cy a S) [(0, .ref (a 0)), (1, .int x1), (2, .int x2), (3, .int x3), (4, .int x4), (5, .int x5)] 44 [] := by
  unfold w_X12_stop_F44 at h
  refine z_iload b dX12_stop_44 rfl ?_
  refine z_iconst (v := 1) b dX12_stop_46 (by decide) ?_
  refine z_aload_n b dX12_stop_47 rfl rfl ?_
  refine z_get (q0 := 0) (k9 := 41) (v := .int (fi S 17)) b (mw_0 cy a S) rfl in_X12 (by decide) wf_X12_358 rfl dX12_stop_48 ?_
  refine z_ishl b dX12_stop_51 rfl ?_
  refine y_icmp_ge (tgt := 121) (xl := x5.toInt) (yl := ((1 : Int32) <<< ((fi S 17) &&& 31)).toInt) b rfl rfl dX12_stop_52 (by decide) (fun c1 => ?_) (fun c1 => ?_)
  · replace h := h.1 c1
    refine z_lv0 (lv' := [(0, .ref (a 0)), (1, .int x1), (2, .int x2), (3, .int x3), (4, .int x4)]) [0, 1, 2, 3, 4] rfl ?_
    exact hk121 _ _ _ _ _ h
  · replace h := h.2 c1
    refine z_iload b dX12_stop_55 rfl ?_
    refine z_calli b (z_runS (As := [.int x5]) (st := []) b (k_X12_bits S x5 _ h) cf_X12_bits wm_X12_442 ws_X12_bits dX12_stop_57 rfl (Nat.le_of_ble_eq_true rfl) ⟨by decide, by decide, by decide, by decide⟩) (fun r7 S8 h => ?_)
    refine z_iload b dX12_stop_60 rfl ?_
    refine y_icmp_ne (tgt := 115) (xl := r7.toInt) (yl := x4.toInt) b rfl rfl dX12_stop_62 (by decide) (fun c1 => ?_) (fun c1 => ?_)
    · replace h := h.1 c1
      exact z_X12_stop_B115 b hk44 hk121 _ _ _ _ _ _ h
    · replace h := h.2 c1
      refine z_aload_n b dX12_stop_65 rfl rfl ?_
      refine z_iload b dX12_stop_66 rfl ?_
      refine z_calli b (z_runV (q0 := 0) (As := [.int x5]) (st := []) b (k_X12_isHonestAll S8 x5 _ h) cf_X12_isHonestAll (mw_0 cy a S8) rfl wm_X12_467 wi_X12_isHonestAll ws_X12_isHonestAll dX12_stop_68 rfl (Nat.le_of_ble_eq_true rfl) ⟨by decide, by decide, by decide, by decide⟩) (fun r9 S10 h => ?_)
      refine y_if_ne (tgt := 77) (xl := r9.toInt) b rfl dX12_stop_71 (by decide) (fun c1 => ?_) (fun c1 => ?_)
      · replace h := h.1 c1
        refine z_aload_n b dX12_stop_77 rfl rfl ?_
        refine z_iload_n b dX12_stop_78 rfl rfl ?_
        refine z_iconst (v := 3) b dX12_stop_79 (by decide) ?_
        refine z_iload_n b dX12_stop_80 rfl rfl ?_
        refine z_bipush (v := 7) b dX12_stop_81 (by decide) ?_
        refine z_iload b dX12_stop_83 rfl ?_
        refine z_callv b (z_runV (q0 := 0) (As := [.int x1, .int 3, .int x2, .int 7, .int x5]) (st := []) b (k_X12_searches S10 x1 3 x2 7 x5 _ h) cf_X12_searches (mw_0 cy a S10) rfl wm_X12_436 wi_X12_searches ws_X12_searches dX12_stop_85 rfl (Nat.le_of_ble_eq_true rfl) ⟨by decide, by decide, by decide, by decide⟩) (fun S12 h => ?_)
        refine z_aload_n b dX12_stop_88 rfl rfl ?_
        refine z_get (q0 := 0) (k9 := 56) (v := .int (fi S12 22)) b (mw_0 cy a S12) rfl in_X12 (by decide) wf_X12_411 rfl dX12_stop_89 ?_
        refine z_iconst (v := (-1)) b dX12_stop_92 (by decide) ?_
        refine y_icmp_ne (tgt := 115) (xl := (fi S12 22).toInt) (yl := (-1)) b rfl (by decide) dX12_stop_93 (by decide) (fun c1 => ?_) (fun c1 => ?_)
        · replace h := h.1 c1
          exact z_X12_stop_B115 b hk44 hk121 _ _ _ _ _ _ h
        · replace h := h.2 c1
          refine z_aload_n b dX12_stop_96 rfl rfl ?_
          refine z_get (q0 := 0) (k9 := 57) (v := .int (fi S12 23)) b (mw_0 cy a S12) rfl in_X12 (by decide) wf_X12_408 rfl dX12_stop_97 ?_
          refine y_if_ne (tgt := 115) (xl := (fi S12 23).toInt) b rfl dX12_stop_100 (by decide) (fun c1 => ?_) (fun c1 => ?_)
          · replace h := h.1 c1
            exact z_X12_stop_B115 b hk44 hk121 _ _ _ _ _ _ h
          · replace h := h.2 c1
            refine z_iload_n b dX12_stop_103 rfl rfl ?_
            refine y_if_ne (tgt := 112) (xl := x3.toInt) b rfl dX12_stop_104 (by decide) (fun c1 => ?_) (fun c1 => ?_)
            · replace h := h.1 c1
              refine z_iload b dX12_stop_112 rfl ?_
              refine z_lv0 (lv' := []) [] rfl ?_
              exact z_X12_stop_B114 b hk44 hk121 _ _ h
            · replace h := h.2 c1
              refine z_iload b dX12_stop_107 rfl ?_
              refine z_goto (tgt := 114) b dX12_stop_109 (by decide) ?_
              refine z_lv0 (lv' := []) [] rfl ?_
              exact z_X12_stop_B114 b hk44 hk121 _ _ h
      · replace h := h.2 c1
        refine z_goto (tgt := 115) b dX12_stop_74 (by decide) ?_
        exact z_X12_stop_B115 b hk44 hk121 _ _ _ _ _ _ h

set_option maxHeartbeats 4000000 in
set_option maxRecDepth 100000 in
theorem zl_X12_stop_L44 {p : Program} {l : Launch} {e : Env} {R : Room} {s : State} {m : MethodId} {args : Array Value} {below : List Frame} {meth : Method} {c : Code} {D : va_G} {cy : Nat → ClassId} {T0 tB tE : Nat} {A : Nat → Prop} {a : Nat → Nat} {post : Int32 → GS → Prop} {k121 : GS → Int32 → Int32 → Int32 → Int32 → Prop} (b : Bz p R s m args meth c D cy T0 tB tE A 6 cX12_stop RX12 (some .int) "stop" 6 164 0 0) (hk121 : ∀ (S : GS) (x1 : Int32) (x2 : Int32) (x3 : Int32) (x4 : Int32), k121 S x1 x2 x3 x4 → Z p l e R s m args below meth c D A 6 (MQ below (QI D (U := GS) post (mw cy a) A) args s 0 0 A) 0 0 (mw cy a S) [(0, .ref (a 0)), (1, .int x1), (2, .int x2), (3, .int x3), (4, .int x4)] 121 []) : ∀ (n : Nat) (S : GS) (x1 : Int32) (x2 : Int32) (x3 : Int32) (x4 : Int32) (x5 : Int32), lpn (w_X12_stop_F44 post k121) (fun _ _ _ _ _ _ => False) n S x1 x2 x3 x4 x5 → Z p l e R s m args below meth c D A 6 (MQ below (QI D (U := GS) post (mw cy a) A) args s 0 0 A) 0 0 (mw cy a S) [(0, .ref (a 0)), (1, .int x1), (2, .int x2), (3, .int x3), (4, .int x4), (5, .int x5)] 44 [] := by
  intro n
  induction n with
  | zero => intro _ _ _ _ _ _ h; exact h.elim
  | succ n ih => intro S x1 x2 x3 x4 x5 h; exact z_X12_stop_F44 b hk121 ih S x1 x2 x3 x4 x5 h

def w_X12_stop_B121 (post : Int32 → GS → Prop) (k32 : GS → Int32 → Int32 → Int32 → Int32 → Prop) (k127 : GS → Prop) (S : GS) (x1 : Int32) (x2 : Int32) (x3 : Int32) (x4 : Int32) : Prop :=
  k32 S x1 x2 x3 (x4 + 1)

set_option maxHeartbeats 4000000 in
set_option maxRecDepth 100000 in
theorem z_X12_stop_B121 {p : Program} {l : Launch} {e : Env} {R : Room} {s : State} {m : MethodId} {args : Array Value} {below : List Frame} {meth : Method} {c : Code} {D : va_G} {cy : Nat → ClassId} {T0 tB tE : Nat} {A : Nat → Prop} {a : Nat → Nat} {post : Int32 → GS → Prop} {k32 : GS → Int32 → Int32 → Int32 → Int32 → Prop} {k127 : GS → Prop} (b : Bz p R s m args meth c D cy T0 tB tE A 6 cX12_stop RX12 (some .int) "stop" 6 164 0 0) (hk32 : ∀ (S : GS) (x1 : Int32) (x2 : Int32) (x3 : Int32) (x4 : Int32), k32 S x1 x2 x3 x4 → Z p l e R s m args below meth c D A 6 (MQ below (QI D (U := GS) post (mw cy a) A) args s 0 0 A) 0 0 (mw cy a S) [(0, .ref (a 0)), (1, .int x1), (2, .int x2), (3, .int x3), (4, .int x4)] 32 []) (hk127 : ∀ (S : GS), k127 S → Z p l e R s m args below meth c D A 6 (MQ below (QI D (U := GS) post (mw cy a) A) args s 0 0 A) 0 0 (mw cy a S) [] 127 []) (S : GS) (x1 : Int32) (x2 : Int32) (x3 : Int32) (x4 : Int32) (h : w_X12_stop_B121 post k32 k127 S x1 x2 x3 x4) : Z p l e R s m args below meth c D A 6 (MQ below (QI D (U := GS) post (mw cy a) A) args s 0 0 A) 0 0 (mw cy a S) [(0, .ref (a 0)), (1, .int x1), (2, .int x2), (3, .int x3), (4, .int x4)] 121 [] := by
  unfold w_X12_stop_B121 at h
  refine z_iinc (k9 := 4) (v := (x4 + 1)) (lv' := [(4, .int (x4 + 1)), (0, .ref (a 0)), (1, .int x1), (2, .int x2), (3, .int x3)]) b dX12_stop_121 rfl rfl (by decide) rfl ?_
  refine z_goto (tgt := 32) b dX12_stop_124 (by decide) ?_
  refine z_lv0 (lv' := [(0, .ref (a 0)), (1, .int x1), (2, .int x2), (3, .int x3), (4, .int (x4 + 1))]) [1, 2, 3, 4, 0] rfl ?_
  exact hk32 _ _ _ _ _ h

def w_X12_stop_F32 (post : Int32 → GS → Prop) (k127 : GS → Prop) (k32 : GS → Int32 → Int32 → Int32 → Int32 → Prop) (S : GS) (x1 : Int32) (x2 : Int32) (x3 : Int32) (x4 : Int32) : Prop :=
  (((fi S 17).toInt < x4.toInt → k127 S) ∧ (x4.toInt ≤ (fi S 17).toInt → ∃ n, lpn (w_X12_stop_F44 post (w_X12_stop_B121 post k32 k127)) (fun _ _ _ _ _ _ => False) n S x1 x2 x3 x4 0))

set_option maxHeartbeats 4000000 in
set_option maxRecDepth 100000 in
theorem z_X12_stop_F32 {p : Program} {l : Launch} {e : Env} {R : Room} {s : State} {m : MethodId} {args : Array Value} {below : List Frame} {meth : Method} {c : Code} {D : va_G} {cy : Nat → ClassId} {T0 tB tE : Nat} {A : Nat → Prop} {a : Nat → Nat} {post : Int32 → GS → Prop} {k127 : GS → Prop} {k32 : GS → Int32 → Int32 → Int32 → Int32 → Prop} (b : Bz p R s m args meth c D cy T0 tB tE A 6 cX12_stop RX12 (some .int) "stop" 6 164 0 0) (hk127 : ∀ (S : GS), k127 S → Z p l e R s m args below meth c D A 6 (MQ below (QI D (U := GS) post (mw cy a) A) args s 0 0 A) 0 0 (mw cy a S) [] 127 []) (hk32 : ∀ (S : GS) (x1 : Int32) (x2 : Int32) (x3 : Int32) (x4 : Int32), k32 S x1 x2 x3 x4 → Z p l e R s m args below meth c D A 6 (MQ below (QI D (U := GS) post (mw cy a) A) args s 0 0 A) 0 0 (mw cy a S) [(0, .ref (a 0)), (1, .int x1), (2, .int x2), (3, .int x3), (4, .int x4)] 32 []) (S : GS) (x1 : Int32) (x2 : Int32) (x3 : Int32) (x4 : Int32) (h : w_X12_stop_F32 post k127 k32 S x1 x2 x3 x4) : Z p l e R s m args below meth c D A 6 (MQ below (QI D (U := GS) post (mw cy a) A) args s 0 0 A) 0 0 (mw cy a S) [(0, .ref (a 0)), (1, .int x1), (2, .int x2), (3, .int x3), (4, .int x4)] 32 [] := by
  unfold w_X12_stop_F32 at h
  refine z_iload b dX12_stop_32 rfl ?_
  refine z_aload_n b dX12_stop_34 rfl rfl ?_
  refine z_get (q0 := 0) (k9 := 41) (v := .int (fi S 17)) b (mw_0 cy a S) rfl in_X12 (by decide) wf_X12_358 rfl dX12_stop_35 ?_
  refine y_icmp_gt (tgt := 127) (xl := x4.toInt) (yl := (fi S 17).toInt) b rfl rfl dX12_stop_38 (by decide) (fun c1 => ?_) (fun c1 => ?_)
  · replace h := h.1 c1
    refine z_lv0 (lv' := []) [] rfl ?_
    exact hk127 _ h
  · replace h := h.2 c1
    refine z_iconst (v := 0) b dX12_stop_41 (by decide) ?_
    refine z_istore (lv' := [(5, .int 0), (0, .ref (a 0)), (1, .int x1), (2, .int x2), (3, .int x3), (4, .int x4)]) b dX12_stop_42 (by decide) rfl ?_
    refine z_lv0 (lv' := [(0, .ref (a 0)), (1, .int x1), (2, .int x2), (3, .int x3), (4, .int x4), (5, .int 0)]) [1, 2, 3, 4, 5, 0] rfl ?_
    obtain ⟨n, h⟩ := h
    exact zl_X12_stop_L44 b (fun S x1 x2 x3 x4 h => z_X12_stop_B121 b hk32 hk127 _ _ _ _ _ h) n _ _ _ _ _ _ h

set_option maxHeartbeats 4000000 in
set_option maxRecDepth 100000 in
theorem zl_X12_stop_L32 {p : Program} {l : Launch} {e : Env} {R : Room} {s : State} {m : MethodId} {args : Array Value} {below : List Frame} {meth : Method} {c : Code} {D : va_G} {cy : Nat → ClassId} {T0 tB tE : Nat} {A : Nat → Prop} {a : Nat → Nat} {post : Int32 → GS → Prop} {k127 : GS → Prop} (b : Bz p R s m args meth c D cy T0 tB tE A 6 cX12_stop RX12 (some .int) "stop" 6 164 0 0) (hk127 : ∀ (S : GS), k127 S → Z p l e R s m args below meth c D A 6 (MQ below (QI D (U := GS) post (mw cy a) A) args s 0 0 A) 0 0 (mw cy a S) [] 127 []) : ∀ (n : Nat) (S : GS) (x1 : Int32) (x2 : Int32) (x3 : Int32) (x4 : Int32), lpn (w_X12_stop_F32 post k127) (fun _ _ _ _ _ => False) n S x1 x2 x3 x4 → Z p l e R s m args below meth c D A 6 (MQ below (QI D (U := GS) post (mw cy a) A) args s 0 0 A) 0 0 (mw cy a S) [(0, .ref (a 0)), (1, .int x1), (2, .int x2), (3, .int x3), (4, .int x4)] 32 [] := by
  intro n
  induction n with
  | zero => intro _ _ _ _ _ h; exact h.elim
  | succ n ih => intro S x1 x2 x3 x4 h; exact z_X12_stop_F32 b hk127 ih S x1 x2 x3 x4 h

def w_X12_stop_B127 (post : Int32 → GS → Prop) (S : GS)  : Prop :=
  post (-1) S

set_option maxHeartbeats 4000000 in
set_option maxRecDepth 100000 in
theorem z_X12_stop_B127 {p : Program} {l : Launch} {e : Env} {R : Room} {s : State} {m : MethodId} {args : Array Value} {below : List Frame} {meth : Method} {c : Code} {D : va_G} {cy : Nat → ClassId} {T0 tB tE : Nat} {A : Nat → Prop} {a : Nat → Nat} {post : Int32 → GS → Prop} (b : Bz p R s m args meth c D cy T0 tB tE A 6 cX12_stop RX12 (some .int) "stop" 6 164 0 0) (S : GS)  (h : w_X12_stop_B127 post S ) : Z p l e R s m args below meth c D A 6 (MQ below (QI D (U := GS) post (mw cy a) A) args s 0 0 A) 0 0 (mw cy a S) [] 127 [] := by
  unfold w_X12_stop_B127 at h
  refine z_iconst (v := (-1)) b dX12_stop_127 (by decide) ?_
  exact z_iret (u := S) b rfl dX12_stop_128 h rfl (by decide) (by decide)

def w_X12_stop (S : GS) (p0 : Int32) (p1 : Int32) (p2 : Int32) (post : Int32 → GS → Prop) : Prop :=
  w_X12_isNeverText S p0 (fun r1 S2 => ((r1.toInt = 0 → w_X12_stop_B27 post S2) ∧ (r1.toInt ≠ 0 → w_X12_isIn S2 p1 0 6 (fun r3 S4 => ((r3.toInt = 0 → w_X12_stop_B27 post S4) ∧ (r3.toInt ≠ 0 → w_X12_isIn S4 p2 0 1 (fun r5 S6 => ((r5.toInt ≠ 0 → ∃ n, lpn (w_X12_stop_F32 post (w_X12_stop_B127 post)) (fun _ _ _ _ _ => False) n S6 p0 p1 p2 0) ∧ (r5.toInt = 0 → w_X12_stop_B27 post S6)))))))))

set_option maxHeartbeats 4000000 in
set_option maxRecDepth 100000 in
theorem k_X12_stop {l : Launch} {D : va_G} {cy : Nat → ClassId} {T0 tB tE : Nat} {a : Nat → Nat} (S : GS) (p0 : Int32) (p1 : Int32) (p2 : Int32) (post : Int32 → GS → Prop) (h : w_X12_stop S p0 p1 p2 post) : Ct l D cy T0 tB tE yX12_stop cX12_stop 6 (some .int) 6 164 0 0 (mw cy a S) [.ref (a 0), .int p0, .int p1, .int p2] (QI D (U := GS) post (mw cy a)) := by
  refine Ct.ofZ RX12 "stop" [(0, .ref (a 0)), (1, .int p0), (2, .int p1), (3, .int p2)] rfl rfl rfl rfl (Nat.le_of_ble_eq_true rfl) ?_
  intro p e R s m args below meth c A b
  unfold w_X12_stop at h
  refine z_aload_n b dX12_stop_0 rfl rfl ?_
  refine z_iload_n b dX12_stop_1 rfl rfl ?_
  refine z_calli b (z_runV (q0 := 0) (As := [.int p0]) (st := []) b (k_X12_isNeverText S p0 _ h) cf_X12_isNeverText (mw_0 cy a S) rfl wm_X12_430 wi_X12_isNeverText ws_X12_isNeverText dX12_stop_2 rfl (Nat.le_of_ble_eq_true rfl) ⟨by decide, by decide, by decide, by decide⟩) (fun r1 S2 h => ?_)
  refine y_if_eq (tgt := 27) (xl := r1.toInt) b rfl dX12_stop_5 (by decide) (fun c1 => ?_) (fun c1 => ?_)
  · replace h := h.1 c1
    refine z_lv0 (lv' := []) [] rfl ?_
    exact z_X12_stop_B27 b _ h
  · replace h := h.2 c1
    refine z_iload_n b dX12_stop_8 rfl rfl ?_
    refine z_iconst (v := 0) b dX12_stop_9 (by decide) ?_
    refine z_bipush (v := 6) b dX12_stop_10 (by decide) ?_
    refine z_calli b (z_runS (As := [.int p1, .int 0, .int 6]) (st := []) b (k_X12_isIn S2 p1 0 6 _ h) cf_X12_isIn wm_X12_1 ws_X12_isIn dX12_stop_12 rfl (Nat.le_of_ble_eq_true rfl) ⟨by decide, by decide, by decide, by decide⟩) (fun r3 S4 h => ?_)
    refine y_if_eq (tgt := 27) (xl := r3.toInt) b rfl dX12_stop_15 (by decide) (fun c1 => ?_) (fun c1 => ?_)
    · replace h := h.1 c1
      refine z_lv0 (lv' := []) [] rfl ?_
      exact z_X12_stop_B27 b _ h
    · replace h := h.2 c1
      refine z_iload_n b dX12_stop_18 rfl rfl ?_
      refine z_iconst (v := 0) b dX12_stop_19 (by decide) ?_
      refine z_iconst (v := 1) b dX12_stop_20 (by decide) ?_
      refine z_calli b (z_runS (As := [.int p2, .int 0, .int 1]) (st := []) b (k_X12_isIn S4 p2 0 1 _ h) cf_X12_isIn wm_X12_1 ws_X12_isIn dX12_stop_21 rfl (Nat.le_of_ble_eq_true rfl) ⟨by decide, by decide, by decide, by decide⟩) (fun r5 S6 h => ?_)
      refine y_if_ne (tgt := 29) (xl := r5.toInt) b rfl dX12_stop_24 (by decide) (fun c1 => ?_) (fun c1 => ?_)
      · replace h := h.1 c1
        refine z_iconst (v := 0) b dX12_stop_29 (by decide) ?_
        refine z_istore (lv' := [(4, .int 0), (0, .ref (a 0)), (1, .int p0), (2, .int p1), (3, .int p2)]) b dX12_stop_30 (by decide) rfl ?_
        refine z_lv0 (lv' := [(0, .ref (a 0)), (1, .int p0), (2, .int p1), (3, .int p2), (4, .int 0)]) [1, 2, 3, 4, 0] rfl ?_
        obtain ⟨n, h⟩ := h
        exact zl_X12_stop_L32 b (fun S h => z_X12_stop_B127 b _ h) n _ _ _ _ _ h
      · replace h := h.2 c1
        refine z_lv0 (lv' := []) [] rfl ?_
        exact z_X12_stop_B27 b _ h

def w_X12_only_B18 (post : Int32 → GS → Prop) (S : GS)  : Prop :=
  post (-1) S

set_option maxHeartbeats 4000000 in
set_option maxRecDepth 100000 in
theorem z_X12_only_B18 {p : Program} {l : Launch} {e : Env} {R : Room} {s : State} {m : MethodId} {args : Array Value} {below : List Frame} {meth : Method} {c : Code} {D : va_G} {cy : Nat → ClassId} {T0 tB tE : Nat} {A : Nat → Prop} {a : Nat → Nat} {post : Int32 → GS → Prop} (b : Bz p R s m args meth c D cy T0 tB tE A 6 cX12_only RX12 (some .int) "only" 6 164 0 0) (S : GS)  (h : w_X12_only_B18 post S ) : Z p l e R s m args below meth c D A 6 (MQ below (QI D (U := GS) post (mw cy a) A) args s 0 0 A) 0 0 (mw cy a S) [] 18 [] := by
  unfold w_X12_only_B18 at h
  refine z_iconst (v := (-1)) b dX12_only_18 (by decide) ?_
  exact z_iret (u := S) b rfl dX12_only_19 h rfl (by decide) (by decide)

def w_X12_only_B100 (post : Int32 → GS → Prop) (k28 : GS → Int32 → Int32 → Int32 → Int32 → Int32 → Prop) (k107 : GS → Int32 → Int32 → Prop) (S : GS) (x1 : Int32) (x2 : Int32) (x4 : Int32) (x5 : Int32) (y0 : Int32) : Prop :=
  k28 S x1 x2 y0 x4 (x5 + 1)

set_option maxHeartbeats 4000000 in
set_option maxRecDepth 100000 in
theorem z_X12_only_B100 {p : Program} {l : Launch} {e : Env} {R : Room} {s : State} {m : MethodId} {args : Array Value} {below : List Frame} {meth : Method} {c : Code} {D : va_G} {cy : Nat → ClassId} {T0 tB tE : Nat} {A : Nat → Prop} {a : Nat → Nat} {post : Int32 → GS → Prop} {k28 : GS → Int32 → Int32 → Int32 → Int32 → Int32 → Prop} {k107 : GS → Int32 → Int32 → Prop} (b : Bz p R s m args meth c D cy T0 tB tE A 6 cX12_only RX12 (some .int) "only" 6 164 0 0) (hk28 : ∀ (S : GS) (x1 : Int32) (x2 : Int32) (x3 : Int32) (x4 : Int32) (x5 : Int32), k28 S x1 x2 x3 x4 x5 → Z p l e R s m args below meth c D A 6 (MQ below (QI D (U := GS) post (mw cy a) A) args s 0 0 A) 0 0 (mw cy a S) [(0, .ref (a 0)), (1, .int x1), (2, .int x2), (3, .int x3), (4, .int x4), (5, .int x5)] 28 []) (hk107 : ∀ (S : GS) (x3 : Int32) (x4 : Int32), k107 S x3 x4 → Z p l e R s m args below meth c D A 6 (MQ below (QI D (U := GS) post (mw cy a) A) args s 0 0 A) 0 0 (mw cy a S) [(3, .int x3), (4, .int x4)] 107 []) (S : GS) (x1 : Int32) (x2 : Int32) (x4 : Int32) (x5 : Int32) (y0 : Int32) (h : w_X12_only_B100 post k28 k107 S x1 x2 x4 x5 y0) : Z p l e R s m args below meth c D A 6 (MQ below (QI D (U := GS) post (mw cy a) A) args s 0 0 A) 0 0 (mw cy a S) [(0, .ref (a 0)), (1, .int x1), (2, .int x2), (4, .int x4), (5, .int x5)] 100 [.int y0] := by
  unfold w_X12_only_B100 at h
  refine z_istore_n (lv' := [(3, .int y0), (0, .ref (a 0)), (1, .int x1), (2, .int x2), (4, .int x4), (5, .int x5)]) b dX12_only_100 rfl (by decide) rfl ?_
  refine z_iinc (k9 := 5) (v := (x5 + 1)) (lv' := [(5, .int (x5 + 1)), (3, .int y0), (0, .ref (a 0)), (1, .int x1), (2, .int x2), (4, .int x4)]) b dX12_only_101 rfl rfl (by decide) rfl ?_
  refine z_goto (tgt := 28) b dX12_only_104 (by decide) ?_
  refine z_lv0 (lv' := [(0, .ref (a 0)), (1, .int x1), (2, .int x2), (3, .int y0), (4, .int x4), (5, .int (x5 + 1))]) [2, 3, 4, 1, 5, 0] rfl ?_
  exact hk28 _ _ _ _ _ _ h

def w_X12_only_B99 (post : Int32 → GS → Prop) (k28 : GS → Int32 → Int32 → Int32 → Int32 → Int32 → Prop) (k107 : GS → Int32 → Int32 → Prop) (S : GS) (x1 : Int32) (x2 : Int32) (x4 : Int32) (x5 : Int32) : Prop :=
  w_X12_only_B100 post k28 k107 S x1 x2 x4 x5 0

set_option maxHeartbeats 4000000 in
set_option maxRecDepth 100000 in
theorem z_X12_only_B99 {p : Program} {l : Launch} {e : Env} {R : Room} {s : State} {m : MethodId} {args : Array Value} {below : List Frame} {meth : Method} {c : Code} {D : va_G} {cy : Nat → ClassId} {T0 tB tE : Nat} {A : Nat → Prop} {a : Nat → Nat} {post : Int32 → GS → Prop} {k28 : GS → Int32 → Int32 → Int32 → Int32 → Int32 → Prop} {k107 : GS → Int32 → Int32 → Prop} (b : Bz p R s m args meth c D cy T0 tB tE A 6 cX12_only RX12 (some .int) "only" 6 164 0 0) (hk28 : ∀ (S : GS) (x1 : Int32) (x2 : Int32) (x3 : Int32) (x4 : Int32) (x5 : Int32), k28 S x1 x2 x3 x4 x5 → Z p l e R s m args below meth c D A 6 (MQ below (QI D (U := GS) post (mw cy a) A) args s 0 0 A) 0 0 (mw cy a S) [(0, .ref (a 0)), (1, .int x1), (2, .int x2), (3, .int x3), (4, .int x4), (5, .int x5)] 28 []) (hk107 : ∀ (S : GS) (x3 : Int32) (x4 : Int32), k107 S x3 x4 → Z p l e R s m args below meth c D A 6 (MQ below (QI D (U := GS) post (mw cy a) A) args s 0 0 A) 0 0 (mw cy a S) [(3, .int x3), (4, .int x4)] 107 []) (S : GS) (x1 : Int32) (x2 : Int32) (x4 : Int32) (x5 : Int32) (h : w_X12_only_B99 post k28 k107 S x1 x2 x4 x5) : Z p l e R s m args below meth c D A 6 (MQ below (QI D (U := GS) post (mw cy a) A) args s 0 0 A) 0 0 (mw cy a S) [(0, .ref (a 0)), (1, .int x1), (2, .int x2), (4, .int x4), (5, .int x5)] 99 [] := by
  unfold w_X12_only_B99 at h
  refine z_iconst (v := 0) b dX12_only_99 (by decide) ?_
  exact z_X12_only_B100 b hk28 hk107 _ _ _ _ _ _ h

def w_X12_only_B92 (post : Int32 → GS → Prop) (k28 : GS → Int32 → Int32 → Int32 → Int32 → Int32 → Prop) (k107 : GS → Int32 → Int32 → Prop) (S : GS) (x1 : Int32) (x2 : Int32) (x4 : Int32) (x5 : Int32) (y0 : Int32) (y1 : Int32) : Prop :=
  ((y1.toInt ≠ y0.toInt → w_X12_only_B99 post k28 k107 S x1 x2 x4 x5) ∧ (y1.toInt = y0.toInt → w_X12_only_B100 post k28 k107 S x1 x2 x4 x5 1))

set_option maxHeartbeats 4000000 in
set_option maxRecDepth 100000 in
theorem z_X12_only_B92 {p : Program} {l : Launch} {e : Env} {R : Room} {s : State} {m : MethodId} {args : Array Value} {below : List Frame} {meth : Method} {c : Code} {D : va_G} {cy : Nat → ClassId} {T0 tB tE : Nat} {A : Nat → Prop} {a : Nat → Nat} {post : Int32 → GS → Prop} {k28 : GS → Int32 → Int32 → Int32 → Int32 → Int32 → Prop} {k107 : GS → Int32 → Int32 → Prop} (b : Bz p R s m args meth c D cy T0 tB tE A 6 cX12_only RX12 (some .int) "only" 6 164 0 0) (hk28 : ∀ (S : GS) (x1 : Int32) (x2 : Int32) (x3 : Int32) (x4 : Int32) (x5 : Int32), k28 S x1 x2 x3 x4 x5 → Z p l e R s m args below meth c D A 6 (MQ below (QI D (U := GS) post (mw cy a) A) args s 0 0 A) 0 0 (mw cy a S) [(0, .ref (a 0)), (1, .int x1), (2, .int x2), (3, .int x3), (4, .int x4), (5, .int x5)] 28 []) (hk107 : ∀ (S : GS) (x3 : Int32) (x4 : Int32), k107 S x3 x4 → Z p l e R s m args below meth c D A 6 (MQ below (QI D (U := GS) post (mw cy a) A) args s 0 0 A) 0 0 (mw cy a S) [(3, .int x3), (4, .int x4)] 107 []) (S : GS) (x1 : Int32) (x2 : Int32) (x4 : Int32) (x5 : Int32) (y0 : Int32) (y1 : Int32) (h : w_X12_only_B92 post k28 k107 S x1 x2 x4 x5 y0 y1) : Z p l e R s m args below meth c D A 6 (MQ below (QI D (U := GS) post (mw cy a) A) args s 0 0 A) 0 0 (mw cy a S) [(0, .ref (a 0)), (1, .int x1), (2, .int x2), (4, .int x4), (5, .int x5)] 92 [.int y0, .int y1] := by
  unfold w_X12_only_B92 at h
  refine y_icmp_ne (tgt := 99) (xl := y1.toInt) (yl := y0.toInt) b rfl rfl dX12_only_92 (by decide) (fun c1 => ?_) (fun c1 => ?_)
  · replace h := h.1 c1
    exact z_X12_only_B99 b hk28 hk107 _ _ _ _ _ h
  · replace h := h.2 c1
    refine z_iconst (v := 1) b dX12_only_95 (by decide) ?_
    refine z_goto (tgt := 100) b dX12_only_96 (by decide) ?_
    exact z_X12_only_B100 b hk28 hk107 _ _ _ _ _ _ h

def w_X12_only_B81 (post : Int32 → GS → Prop) (k28 : GS → Int32 → Int32 → Int32 → Int32 → Int32 → Prop) (k107 : GS → Int32 → Int32 → Prop) (S : GS) (x1 : Int32) (x2 : Int32) (x4 : Int32) (x5 : Int32) (y0 : Int32) : Prop :=
  ((x5.toInt ≠ 3 → w_X12_only_B92 post k28 k107 S x1 x2 x4 x5 0 y0) ∧ (x5.toInt = 3 → w_X12_only_B92 post k28 k107 S x1 x2 x4 x5 1 y0))

set_option maxHeartbeats 4000000 in
set_option maxRecDepth 100000 in
theorem z_X12_only_B81 {p : Program} {l : Launch} {e : Env} {R : Room} {s : State} {m : MethodId} {args : Array Value} {below : List Frame} {meth : Method} {c : Code} {D : va_G} {cy : Nat → ClassId} {T0 tB tE : Nat} {A : Nat → Prop} {a : Nat → Nat} {post : Int32 → GS → Prop} {k28 : GS → Int32 → Int32 → Int32 → Int32 → Int32 → Prop} {k107 : GS → Int32 → Int32 → Prop} (b : Bz p R s m args meth c D cy T0 tB tE A 6 cX12_only RX12 (some .int) "only" 6 164 0 0) (hk28 : ∀ (S : GS) (x1 : Int32) (x2 : Int32) (x3 : Int32) (x4 : Int32) (x5 : Int32), k28 S x1 x2 x3 x4 x5 → Z p l e R s m args below meth c D A 6 (MQ below (QI D (U := GS) post (mw cy a) A) args s 0 0 A) 0 0 (mw cy a S) [(0, .ref (a 0)), (1, .int x1), (2, .int x2), (3, .int x3), (4, .int x4), (5, .int x5)] 28 []) (hk107 : ∀ (S : GS) (x3 : Int32) (x4 : Int32), k107 S x3 x4 → Z p l e R s m args below meth c D A 6 (MQ below (QI D (U := GS) post (mw cy a) A) args s 0 0 A) 0 0 (mw cy a S) [(3, .int x3), (4, .int x4)] 107 []) (S : GS) (x1 : Int32) (x2 : Int32) (x4 : Int32) (x5 : Int32) (y0 : Int32) (h : w_X12_only_B81 post k28 k107 S x1 x2 x4 x5 y0) : Z p l e R s m args below meth c D A 6 (MQ below (QI D (U := GS) post (mw cy a) A) args s 0 0 A) 0 0 (mw cy a S) [(0, .ref (a 0)), (1, .int x1), (2, .int x2), (4, .int x4), (5, .int x5)] 81 [.int y0] := by
  unfold w_X12_only_B81 at h
  refine z_iload b dX12_only_81 rfl ?_
  refine z_iconst (v := 3) b dX12_only_83 (by decide) ?_
  refine y_icmp_ne (tgt := 91) (xl := x5.toInt) (yl := 3) b rfl (by decide) dX12_only_84 (by decide) (fun c1 => ?_) (fun c1 => ?_)
  · replace h := h.1 c1
    refine z_iconst (v := 0) b dX12_only_91 (by decide) ?_
    exact z_X12_only_B92 b hk28 hk107 _ _ _ _ _ _ _ h
  · replace h := h.2 c1
    refine z_iconst (v := 1) b dX12_only_87 (by decide) ?_
    refine z_goto (tgt := 92) b dX12_only_88 (by decide) ?_
    exact z_X12_only_B92 b hk28 hk107 _ _ _ _ _ _ _ h

def w_X12_only_B62 (post : Int32 → GS → Prop) (k28 : GS → Int32 → Int32 → Int32 → Int32 → Int32 → Prop) (k107 : GS → Int32 → Int32 → Prop) (S : GS) (x1 : Int32) (x2 : Int32) (x3 : Int32) (x5 : Int32) (y0 : Int32) : Prop :=
  ((x3.toInt = 0 → w_X12_only_B99 post k28 k107 S x1 x2 y0 x5) ∧ (x3.toInt ≠ 0 → (((fi S 22).toInt = (-1) → w_X12_only_B81 post k28 k107 S x1 x2 y0 x5 0) ∧ ((fi S 22).toInt ≠ (-1) → w_X12_only_B81 post k28 k107 S x1 x2 y0 x5 1))))

set_option maxHeartbeats 4000000 in
set_option maxRecDepth 100000 in
theorem z_X12_only_B62 {p : Program} {l : Launch} {e : Env} {R : Room} {s : State} {m : MethodId} {args : Array Value} {below : List Frame} {meth : Method} {c : Code} {D : va_G} {cy : Nat → ClassId} {T0 tB tE : Nat} {A : Nat → Prop} {a : Nat → Nat} {post : Int32 → GS → Prop} {k28 : GS → Int32 → Int32 → Int32 → Int32 → Int32 → Prop} {k107 : GS → Int32 → Int32 → Prop} (b : Bz p R s m args meth c D cy T0 tB tE A 6 cX12_only RX12 (some .int) "only" 6 164 0 0) (hk28 : ∀ (S : GS) (x1 : Int32) (x2 : Int32) (x3 : Int32) (x4 : Int32) (x5 : Int32), k28 S x1 x2 x3 x4 x5 → Z p l e R s m args below meth c D A 6 (MQ below (QI D (U := GS) post (mw cy a) A) args s 0 0 A) 0 0 (mw cy a S) [(0, .ref (a 0)), (1, .int x1), (2, .int x2), (3, .int x3), (4, .int x4), (5, .int x5)] 28 []) (hk107 : ∀ (S : GS) (x3 : Int32) (x4 : Int32), k107 S x3 x4 → Z p l e R s m args below meth c D A 6 (MQ below (QI D (U := GS) post (mw cy a) A) args s 0 0 A) 0 0 (mw cy a S) [(3, .int x3), (4, .int x4)] 107 []) (S : GS) (x1 : Int32) (x2 : Int32) (x3 : Int32) (x5 : Int32) (y0 : Int32) (h : w_X12_only_B62 post k28 k107 S x1 x2 x3 x5 y0) : Z p l e R s m args below meth c D A 6 (MQ below (QI D (U := GS) post (mw cy a) A) args s 0 0 A) 0 0 (mw cy a S) [(0, .ref (a 0)), (1, .int x1), (2, .int x2), (3, .int x3), (5, .int x5)] 62 [.int y0] := by
  unfold w_X12_only_B62 at h
  refine z_istore (lv' := [(4, .int y0), (0, .ref (a 0)), (1, .int x1), (2, .int x2), (3, .int x3), (5, .int x5)]) b dX12_only_62 (by decide) rfl ?_
  refine z_iload_n b dX12_only_64 rfl rfl ?_
  refine y_if_eq (tgt := 99) (xl := x3.toInt) b rfl dX12_only_65 (by decide) (fun c1 => ?_) (fun c1 => ?_)
  · replace h := h.1 c1
    refine z_lv0 (lv' := [(0, .ref (a 0)), (1, .int x1), (2, .int x2), (4, .int y0), (5, .int x5)]) [1, 2, 3, 0, 5] rfl ?_
    exact z_X12_only_B99 b hk28 hk107 _ _ _ _ _ h
  · replace h := h.2 c1
    refine z_aload_n b dX12_only_68 rfl rfl ?_
    refine z_get (q0 := 0) (k9 := 56) (v := .int (fi S 22)) b (mw_0 cy a S) rfl in_X12 (by decide) wf_X12_411 rfl dX12_only_69 ?_
    refine z_iconst (v := (-1)) b dX12_only_72 (by decide) ?_
    refine y_icmp_eq (tgt := 80) (xl := (fi S 22).toInt) (yl := (-1)) b rfl (by decide) dX12_only_73 (by decide) (fun c1 => ?_) (fun c1 => ?_)
    · replace h := h.1 c1
      refine z_iconst (v := 0) b dX12_only_80 (by decide) ?_
      refine z_lv0 (lv' := [(0, .ref (a 0)), (1, .int x1), (2, .int x2), (4, .int y0), (5, .int x5)]) [1, 2, 3, 0, 5] rfl ?_
      exact z_X12_only_B81 b hk28 hk107 _ _ _ _ _ _ h
    · replace h := h.2 c1
      refine z_iconst (v := 1) b dX12_only_76 (by decide) ?_
      refine z_goto (tgt := 81) b dX12_only_77 (by decide) ?_
      refine z_lv0 (lv' := [(0, .ref (a 0)), (1, .int x1), (2, .int x2), (4, .int y0), (5, .int x5)]) [1, 2, 3, 0, 5] rfl ?_
      exact z_X12_only_B81 b hk28 hk107 _ _ _ _ _ _ h

def w_X12_only_B57 (post : Int32 → GS → Prop) (k28 : GS → Int32 → Int32 → Int32 → Int32 → Int32 → Prop) (k107 : GS → Int32 → Int32 → Prop) (S : GS) (x1 : Int32) (x2 : Int32) (x3 : Int32) (x5 : Int32) : Prop :=
  w_X12_only_B62 post k28 k107 S x1 x2 x3 x5 1

set_option maxHeartbeats 4000000 in
set_option maxRecDepth 100000 in
theorem z_X12_only_B57 {p : Program} {l : Launch} {e : Env} {R : Room} {s : State} {m : MethodId} {args : Array Value} {below : List Frame} {meth : Method} {c : Code} {D : va_G} {cy : Nat → ClassId} {T0 tB tE : Nat} {A : Nat → Prop} {a : Nat → Nat} {post : Int32 → GS → Prop} {k28 : GS → Int32 → Int32 → Int32 → Int32 → Int32 → Prop} {k107 : GS → Int32 → Int32 → Prop} (b : Bz p R s m args meth c D cy T0 tB tE A 6 cX12_only RX12 (some .int) "only" 6 164 0 0) (hk28 : ∀ (S : GS) (x1 : Int32) (x2 : Int32) (x3 : Int32) (x4 : Int32) (x5 : Int32), k28 S x1 x2 x3 x4 x5 → Z p l e R s m args below meth c D A 6 (MQ below (QI D (U := GS) post (mw cy a) A) args s 0 0 A) 0 0 (mw cy a S) [(0, .ref (a 0)), (1, .int x1), (2, .int x2), (3, .int x3), (4, .int x4), (5, .int x5)] 28 []) (hk107 : ∀ (S : GS) (x3 : Int32) (x4 : Int32), k107 S x3 x4 → Z p l e R s m args below meth c D A 6 (MQ below (QI D (U := GS) post (mw cy a) A) args s 0 0 A) 0 0 (mw cy a S) [(3, .int x3), (4, .int x4)] 107 []) (S : GS) (x1 : Int32) (x2 : Int32) (x3 : Int32) (x5 : Int32) (h : w_X12_only_B57 post k28 k107 S x1 x2 x3 x5) : Z p l e R s m args below meth c D A 6 (MQ below (QI D (U := GS) post (mw cy a) A) args s 0 0 A) 0 0 (mw cy a S) [(0, .ref (a 0)), (1, .int x1), (2, .int x2), (3, .int x3), (5, .int x5)] 57 [] := by
  unfold w_X12_only_B57 at h
  refine z_iconst (v := 1) b dX12_only_57 (by decide) ?_
  refine z_goto (tgt := 62) b dX12_only_58 (by decide) ?_
  exact z_X12_only_B62 b hk28 hk107 _ _ _ _ _ _ h

def w_X12_only_F28 (post : Int32 → GS → Prop) (k107 : GS → Int32 → Int32 → Prop) (k28 : GS → Int32 → Int32 → Int32 → Int32 → Int32 → Prop) (S : GS) (x1 : Int32) (x2 : Int32) (x3 : Int32) (x4 : Int32) (x5 : Int32) : Prop :=
  ((4 ≤ x5.toInt → k107 S x3 x4) ∧ (x5.toInt < 4 → w_X12_searches S x1 x5 x2 7 0 (fun S6 => ((x4.toInt ≠ 0 → w_X12_only_B57 post k28 k107 S6 x1 x2 x3 x5) ∧ (x4.toInt = 0 → (((fi S6 23).toInt = 0 → w_X12_only_B62 post k28 k107 S6 x1 x2 x3 x5 0) ∧ ((fi S6 23).toInt ≠ 0 → w_X12_only_B57 post k28 k107 S6 x1 x2 x3 x5)))))))

set_option maxHeartbeats 4000000 in
set_option maxRecDepth 100000 in
theorem z_X12_only_F28 {p : Program} {l : Launch} {e : Env} {R : Room} {s : State} {m : MethodId} {args : Array Value} {below : List Frame} {meth : Method} {c : Code} {D : va_G} {cy : Nat → ClassId} {T0 tB tE : Nat} {A : Nat → Prop} {a : Nat → Nat} {post : Int32 → GS → Prop} {k107 : GS → Int32 → Int32 → Prop} {k28 : GS → Int32 → Int32 → Int32 → Int32 → Int32 → Prop} (b : Bz p R s m args meth c D cy T0 tB tE A 6 cX12_only RX12 (some .int) "only" 6 164 0 0) (hk107 : ∀ (S : GS) (x3 : Int32) (x4 : Int32), k107 S x3 x4 → Z p l e R s m args below meth c D A 6 (MQ below (QI D (U := GS) post (mw cy a) A) args s 0 0 A) 0 0 (mw cy a S) [(3, .int x3), (4, .int x4)] 107 []) (hk28 : ∀ (S : GS) (x1 : Int32) (x2 : Int32) (x3 : Int32) (x4 : Int32) (x5 : Int32), k28 S x1 x2 x3 x4 x5 → Z p l e R s m args below meth c D A 6 (MQ below (QI D (U := GS) post (mw cy a) A) args s 0 0 A) 0 0 (mw cy a S) [(0, .ref (a 0)), (1, .int x1), (2, .int x2), (3, .int x3), (4, .int x4), (5, .int x5)] 28 []) (S : GS) (x1 : Int32) (x2 : Int32) (x3 : Int32) (x4 : Int32) (x5 : Int32) (h : w_X12_only_F28 post k107 k28 S x1 x2 x3 x4 x5) : Z p l e R s m args below meth c D A 6 (MQ below (QI D (U := GS) post (mw cy a) A) args s 0 0 A) 0 0 (mw cy a S) [(0, .ref (a 0)), (1, .int x1), (2, .int x2), (3, .int x3), (4, .int x4), (5, .int x5)] 28 [] := by
  unfold w_X12_only_F28 at h
  refine z_iload b dX12_only_28 rfl ?_
  refine z_iconst (v := 4) b dX12_only_30 (by decide) ?_
  refine y_icmp_ge (tgt := 107) (xl := x5.toInt) (yl := 4) b rfl (by decide) dX12_only_31 (by decide) (fun c1 => ?_) (fun c1 => ?_)
  · replace h := h.1 c1
    refine z_lv0 (lv' := [(3, .int x3), (4, .int x4)]) [3, 4] rfl ?_
    exact hk107 _ _ _ h
  · replace h := h.2 c1
    refine z_aload_n b dX12_only_34 rfl rfl ?_
    refine z_iload_n b dX12_only_35 rfl rfl ?_
    refine z_iload b dX12_only_36 rfl ?_
    refine z_iload_n b dX12_only_38 rfl rfl ?_
    refine z_bipush (v := 7) b dX12_only_39 (by decide) ?_
    refine z_iconst (v := 0) b dX12_only_41 (by decide) ?_
    refine z_callv b (z_runV (q0 := 0) (As := [.int x1, .int x5, .int x2, .int 7, .int 0]) (st := []) b (k_X12_searches S x1 x5 x2 7 0 _ h) cf_X12_searches (mw_0 cy a S) rfl wm_X12_436 wi_X12_searches ws_X12_searches dX12_only_42 rfl (Nat.le_of_ble_eq_true rfl) ⟨by decide, by decide, by decide, by decide⟩) (fun S6 h => ?_)
    refine z_iload b dX12_only_45 rfl ?_
    refine y_if_ne (tgt := 57) (xl := x4.toInt) b rfl dX12_only_47 (by decide) (fun c1 => ?_) (fun c1 => ?_)
    · replace h := h.1 c1
      refine z_lv0 (lv' := [(0, .ref (a 0)), (1, .int x1), (2, .int x2), (3, .int x3), (5, .int x5)]) [0, 1, 2, 3, 5] rfl ?_
      exact z_X12_only_B57 b hk28 hk107 _ _ _ _ _ h
    · replace h := h.2 c1
      refine z_aload_n b dX12_only_50 rfl rfl ?_
      refine z_get (q0 := 0) (k9 := 57) (v := .int (fi S6 23)) b (mw_0 cy a S6) rfl in_X12 (by decide) wf_X12_408 rfl dX12_only_51 ?_
      refine y_if_eq (tgt := 61) (xl := (fi S6 23).toInt) b rfl dX12_only_54 (by decide) (fun c1 => ?_) (fun c1 => ?_)
      · replace h := h.1 c1
        refine z_iconst (v := 0) b dX12_only_61 (by decide) ?_
        refine z_lv0 (lv' := [(0, .ref (a 0)), (1, .int x1), (2, .int x2), (3, .int x3), (5, .int x5)]) [0, 1, 2, 3, 5] rfl ?_
        exact z_X12_only_B62 b hk28 hk107 _ _ _ _ _ _ h
      · replace h := h.2 c1
        refine z_lv0 (lv' := [(0, .ref (a 0)), (1, .int x1), (2, .int x2), (3, .int x3), (5, .int x5)]) [0, 1, 2, 3, 5] rfl ?_
        exact z_X12_only_B57 b hk28 hk107 _ _ _ _ _ h

set_option maxHeartbeats 4000000 in
set_option maxRecDepth 100000 in
theorem zl_X12_only_L28 {p : Program} {l : Launch} {e : Env} {R : Room} {s : State} {m : MethodId} {args : Array Value} {below : List Frame} {meth : Method} {c : Code} {D : va_G} {cy : Nat → ClassId} {T0 tB tE : Nat} {A : Nat → Prop} {a : Nat → Nat} {post : Int32 → GS → Prop} {k107 : GS → Int32 → Int32 → Prop} (b : Bz p R s m args meth c D cy T0 tB tE A 6 cX12_only RX12 (some .int) "only" 6 164 0 0) (hk107 : ∀ (S : GS) (x3 : Int32) (x4 : Int32), k107 S x3 x4 → Z p l e R s m args below meth c D A 6 (MQ below (QI D (U := GS) post (mw cy a) A) args s 0 0 A) 0 0 (mw cy a S) [(3, .int x3), (4, .int x4)] 107 []) : ∀ (n : Nat) (S : GS) (x1 : Int32) (x2 : Int32) (x3 : Int32) (x4 : Int32) (x5 : Int32), lpn (w_X12_only_F28 post k107) (fun _ _ _ _ _ _ => False) n S x1 x2 x3 x4 x5 → Z p l e R s m args below meth c D A 6 (MQ below (QI D (U := GS) post (mw cy a) A) args s 0 0 A) 0 0 (mw cy a S) [(0, .ref (a 0)), (1, .int x1), (2, .int x2), (3, .int x3), (4, .int x4), (5, .int x5)] 28 [] := by
  intro n
  induction n with
  | zero => intro _ _ _ _ _ _ h; exact h.elim
  | succ n ih => intro S x1 x2 x3 x4 x5 h; exact z_X12_only_F28 b hk107 ih S x1 x2 x3 x4 x5 h

def w_X12_only_B126 (post : Int32 → GS → Prop) (S : GS) (y0 : Int32) : Prop :=
  post y0 S

set_option maxHeartbeats 4000000 in
set_option maxRecDepth 100000 in
theorem z_X12_only_B126 {p : Program} {l : Launch} {e : Env} {R : Room} {s : State} {m : MethodId} {args : Array Value} {below : List Frame} {meth : Method} {c : Code} {D : va_G} {cy : Nat → ClassId} {T0 tB tE : Nat} {A : Nat → Prop} {a : Nat → Nat} {post : Int32 → GS → Prop} (b : Bz p R s m args meth c D cy T0 tB tE A 6 cX12_only RX12 (some .int) "only" 6 164 0 0) (S : GS) (y0 : Int32) (h : w_X12_only_B126 post S y0) : Z p l e R s m args below meth c D A 6 (MQ below (QI D (U := GS) post (mw cy a) A) args s 0 0 A) 0 0 (mw cy a S) [] 126 [.int y0] := by
  unfold w_X12_only_B126 at h
  exact z_iret (u := S) b rfl dX12_only_126 h rfl (by decide) (by decide)

def w_X12_only_B107 (post : Int32 → GS → Prop) (S : GS) (x3 : Int32) (x4 : Int32) : Prop :=
  ((x4.toInt = 0 → ((x3.toInt = 0 → w_X12_only_B126 post S 0) ∧ (x3.toInt ≠ 0 → w_X12_only_B126 post S 1))) ∧ (x4.toInt ≠ 0 → w_X12_only_B126 post S (-2)))

set_option maxHeartbeats 4000000 in
set_option maxRecDepth 100000 in
theorem z_X12_only_B107 {p : Program} {l : Launch} {e : Env} {R : Room} {s : State} {m : MethodId} {args : Array Value} {below : List Frame} {meth : Method} {c : Code} {D : va_G} {cy : Nat → ClassId} {T0 tB tE : Nat} {A : Nat → Prop} {a : Nat → Nat} {post : Int32 → GS → Prop} (b : Bz p R s m args meth c D cy T0 tB tE A 6 cX12_only RX12 (some .int) "only" 6 164 0 0) (S : GS) (x3 : Int32) (x4 : Int32) (h : w_X12_only_B107 post S x3 x4) : Z p l e R s m args below meth c D A 6 (MQ below (QI D (U := GS) post (mw cy a) A) args s 0 0 A) 0 0 (mw cy a S) [(3, .int x3), (4, .int x4)] 107 [] := by
  unfold w_X12_only_B107 at h
  refine z_iload b dX12_only_107 rfl ?_
  refine y_if_eq (tgt := 117) (xl := x4.toInt) b rfl dX12_only_109 (by decide) (fun c1 => ?_) (fun c1 => ?_)
  · replace h := h.1 c1
    refine z_iload_n b dX12_only_117 rfl rfl ?_
    refine y_if_eq (tgt := 125) (xl := x3.toInt) b rfl dX12_only_118 (by decide) (fun c1 => ?_) (fun c1 => ?_)
    · replace h := h.1 c1
      refine z_iconst (v := 0) b dX12_only_125 (by decide) ?_
      refine z_lv0 (lv' := []) [] rfl ?_
      exact z_X12_only_B126 b _ _ h
    · replace h := h.2 c1
      refine z_iconst (v := 1) b dX12_only_121 (by decide) ?_
      refine z_goto (tgt := 126) b dX12_only_122 (by decide) ?_
      refine z_lv0 (lv' := []) [] rfl ?_
      exact z_X12_only_B126 b _ _ h
  · replace h := h.2 c1
    refine z_bipush (v := (-2)) b dX12_only_112 (by decide) ?_
    refine z_goto (tgt := 126) b dX12_only_114 (by decide) ?_
    refine z_lv0 (lv' := []) [] rfl ?_
    exact z_X12_only_B126 b _ _ h

def w_X12_only (S : GS) (p0 : Int32) (p1 : Int32) (post : Int32 → GS → Prop) : Prop :=
  w_X12_isNeverText S p0 (fun r1 S2 => ((r1.toInt = 0 → w_X12_only_B18 post S2) ∧ (r1.toInt ≠ 0 → w_X12_isIn S2 p1 0 6 (fun r3 S4 => ((r3.toInt ≠ 0 → ∃ n, lpn (w_X12_only_F28 post (w_X12_only_B107 post)) (fun _ _ _ _ _ _ => False) n S4 p0 p1 1 0 1) ∧ (r3.toInt = 0 → w_X12_only_B18 post S4))))))

set_option maxHeartbeats 4000000 in
set_option maxRecDepth 100000 in
theorem k_X12_only {l : Launch} {D : va_G} {cy : Nat → ClassId} {T0 tB tE : Nat} {a : Nat → Nat} (S : GS) (p0 : Int32) (p1 : Int32) (post : Int32 → GS → Prop) (h : w_X12_only S p0 p1 post) : Ct l D cy T0 tB tE yX12_only cX12_only 6 (some .int) 6 164 0 0 (mw cy a S) [.ref (a 0), .int p0, .int p1] (QI D (U := GS) post (mw cy a)) := by
  refine Ct.ofZ RX12 "only" [(0, .ref (a 0)), (1, .int p0), (2, .int p1)] rfl rfl rfl rfl (Nat.le_of_ble_eq_true rfl) ?_
  intro p e R s m args below meth c A b
  unfold w_X12_only at h
  refine z_aload_n b dX12_only_0 rfl rfl ?_
  refine z_iload_n b dX12_only_1 rfl rfl ?_
  refine z_calli b (z_runV (q0 := 0) (As := [.int p0]) (st := []) b (k_X12_isNeverText S p0 _ h) cf_X12_isNeverText (mw_0 cy a S) rfl wm_X12_430 wi_X12_isNeverText ws_X12_isNeverText dX12_only_2 rfl (Nat.le_of_ble_eq_true rfl) ⟨by decide, by decide, by decide, by decide⟩) (fun r1 S2 h => ?_)
  refine y_if_eq (tgt := 18) (xl := r1.toInt) b rfl dX12_only_5 (by decide) (fun c1 => ?_) (fun c1 => ?_)
  · replace h := h.1 c1
    refine z_lv0 (lv' := []) [] rfl ?_
    exact z_X12_only_B18 b _ h
  · replace h := h.2 c1
    refine z_iload_n b dX12_only_8 rfl rfl ?_
    refine z_iconst (v := 0) b dX12_only_9 (by decide) ?_
    refine z_bipush (v := 6) b dX12_only_10 (by decide) ?_
    refine z_calli b (z_runS (As := [.int p1, .int 0, .int 6]) (st := []) b (k_X12_isIn S2 p1 0 6 _ h) cf_X12_isIn wm_X12_1 ws_X12_isIn dX12_only_12 rfl (Nat.le_of_ble_eq_true rfl) ⟨by decide, by decide, by decide, by decide⟩) (fun r3 S4 h => ?_)
    refine y_if_ne (tgt := 20) (xl := r3.toInt) b rfl dX12_only_15 (by decide) (fun c1 => ?_) (fun c1 => ?_)
    · replace h := h.1 c1
      refine z_iconst (v := 1) b dX12_only_20 (by decide) ?_
      refine z_istore_n (lv' := [(3, .int 1), (0, .ref (a 0)), (1, .int p0), (2, .int p1)]) b dX12_only_21 rfl (by decide) rfl ?_
      refine z_iconst (v := 0) b dX12_only_22 (by decide) ?_
      refine z_istore (lv' := [(4, .int 0), (3, .int 1), (0, .ref (a 0)), (1, .int p0), (2, .int p1)]) b dX12_only_23 (by decide) rfl ?_
      refine z_iconst (v := 1) b dX12_only_25 (by decide) ?_
      refine z_istore (lv' := [(5, .int 1), (4, .int 0), (3, .int 1), (0, .ref (a 0)), (1, .int p0), (2, .int p1)]) b dX12_only_26 (by decide) rfl ?_
      refine z_lv0 (lv' := [(0, .ref (a 0)), (1, .int p0), (2, .int p1), (3, .int 1), (4, .int 0), (5, .int 1)]) [3, 4, 5, 2, 1, 0] rfl ?_
      obtain ⟨n, h⟩ := h
      exact zl_X12_only_L28 b (fun S x3 x4 h => z_X12_only_B107 b _ _ _ h) n _ _ _ _ _ _ h
    · replace h := h.2 c1
      refine z_lv0 (lv' := []) [] rfl ?_
      exact z_X12_only_B18 b _ h

def w_X12_plainest_F10 (post : Int64 → GS → Prop) (k50 : GS → Int64 → Prop) (k10 : GS → Int64 → Int32 → Prop) (S : GS) (x3 : Int64) (x5 : Int32) : Prop :=
  ((3 ≤ x5.toInt → k50 S x3) ∧ (x5.toInt < 3 → (0 ≤ x5.toInt ∧ x5.toInt < 3) ∧ (0 ≤ x5.toInt ∧ x5.toInt < 3) ∧ (0 ≤ x5.toInt ∧ x5.toInt < 3) ∧ (0 ≤ x5.toInt ∧ x5.toInt < 3) ∧ k10 (su (su S 32 (x5.toNatClampNeg) ((ar S 0) x5.toNatClampNeg)) 34 (x5.toNatClampNeg) ((ar S 2) x5.toNatClampNeg)) x3 (x5 + 1)))

set_option maxHeartbeats 4000000 in
set_option maxRecDepth 100000 in
theorem z_X12_plainest_F10 {p : Program} {l : Launch} {e : Env} {R : Room} {s : State} {m : MethodId} {args : Array Value} {below : List Frame} {meth : Method} {c : Code} {D : va_G} {cy : Nat → ClassId} {T0 tB tE : Nat} {A : Nat → Prop} {a : Nat → Nat} {post : Int64 → GS → Prop} {k50 : GS → Int64 → Prop} {k10 : GS → Int64 → Int32 → Prop} (b : Bz p R s m args meth c D cy T0 tB tE A 9 cX12_plainest RX12 (some .long) "plainest" 2 47 0 0) (hk50 : ∀ (S : GS) (x3 : Int64), k50 S x3 → Z p l e R s m args below meth c D A 9 (MQ below (QL D (U := GS) post (mw cy a) A) args s 0 0 A) 0 0 (mw cy a S) [(0, .ref (a 0)), (3, .long x3)] 50 []) (hk10 : ∀ (S : GS) (x3 : Int64) (x5 : Int32), k10 S x3 x5 → Z p l e R s m args below meth c D A 9 (MQ below (QL D (U := GS) post (mw cy a) A) args s 0 0 A) 0 0 (mw cy a S) [(0, .ref (a 0)), (3, .long x3), (5, .int x5)] 10 []) (S : GS) (x3 : Int64) (x5 : Int32) (h : w_X12_plainest_F10 post k50 k10 S x3 x5) : Z p l e R s m args below meth c D A 9 (MQ below (QL D (U := GS) post (mw cy a) A) args s 0 0 A) 0 0 (mw cy a S) [(0, .ref (a 0)), (3, .long x3), (5, .int x5)] 10 [] := by
  unfold w_X12_plainest_F10 at h
  refine z_iload b dX12_plainest_10 rfl ?_
  refine z_iconst (v := 3) b dX12_plainest_12 (by decide) ?_
  refine y_icmp_ge (tgt := 50) (xl := x5.toInt) (yl := 3) b rfl (by decide) dX12_plainest_13 (by decide) (fun c1 => ?_) (fun c1 => ?_)
  · replace h := h.1 c1
    refine z_lv0 (lv' := [(0, .ref (a 0)), (3, .long x3)]) [0, 1] rfl ?_
    exact hk50 _ _ h
  · replace h := h.2 c1
    refine z_aload_n b dX12_plainest_16 rfl rfl ?_
    refine z_get (q0 := 0) (k9 := 59) (v := .ref (a 34)) b (mw_0 cy a S) rfl in_X12 (by decide) wf_X12_119 rfl dX12_plainest_17 ?_
    refine z_iload b dX12_plainest_20 rfl ?_
    refine z_aload_n b dX12_plainest_22 rfl rfl ?_
    refine z_get (q0 := 0) (k9 := 0) (v := .ref (a 1)) b (mw_0 cy a S) rfl in_X12 (by decide) wf_X12_13 rfl dX12_plainest_23 ?_
    refine z_iload b dX12_plainest_26 rfl ?_
    obtain ⟨g3, h⟩ := h
    refine y_iald (q0 := 1) (j := x5.toNatClampNeg) (v := ((ar S 0) x5.toNatClampNeg)) b (mw_1 cy a S) (zx_r g3.1 g3.2) rfl dX12_plainest_28 ?_
    obtain ⟨g4, h⟩ := h
    refine y_iast (q0 := 34) (j := x5.toNatClampNeg) b (mw_34 cy a S) (zx_r g4.1 g4.2) dX12_plainest_29 (mwa_34 cy a S (x5.toNatClampNeg) ((ar S 0) x5.toNatClampNeg)) ?_
    refine z_aload_n b dX12_plainest_30 rfl rfl ?_
    refine z_get (q0 := 0) (k9 := 61) (v := .ref (a 36)) b (mw_0 cy a (su S 32 (x5.toNatClampNeg) ((ar S 0) x5.toNatClampNeg))) rfl in_X12 (by decide) wf_X12_125 rfl dX12_plainest_31 ?_
    refine z_iload b dX12_plainest_34 rfl ?_
    refine z_aload_n b dX12_plainest_36 rfl rfl ?_
    refine z_get (q0 := 0) (k9 := 2) (v := .ref (a 3)) b (mw_0 cy a (su S 32 (x5.toNatClampNeg) ((ar S 0) x5.toNatClampNeg))) rfl in_X12 (by decide) wf_X12_20 rfl dX12_plainest_37 ?_
    refine z_iload b dX12_plainest_40 rfl ?_
    obtain ⟨g5, h⟩ := h
    refine y_iald (q0 := 3) (j := x5.toNatClampNeg) (v := ((ar S 2) x5.toNatClampNeg)) b (mw_3 cy a (su S 32 (x5.toNatClampNeg) ((ar S 0) x5.toNatClampNeg))) (zx_r g5.1 g5.2) rfl dX12_plainest_42 ?_
    obtain ⟨g6, h⟩ := h
    refine y_iast (q0 := 36) (j := x5.toNatClampNeg) b (mw_36 cy a (su S 32 (x5.toNatClampNeg) ((ar S 0) x5.toNatClampNeg))) (zx_r g6.1 g6.2) dX12_plainest_43 (mwa_36 cy a (su S 32 (x5.toNatClampNeg) ((ar S 0) x5.toNatClampNeg)) (x5.toNatClampNeg) ((ar S 2) x5.toNatClampNeg)) ?_
    refine z_iinc (k9 := 2) (v := (x5 + 1)) (lv' := [(5, .int (x5 + 1)), (0, .ref (a 0)), (3, .long x3)]) b dX12_plainest_44 rfl rfl (by decide) rfl ?_
    refine z_goto (tgt := 10) b dX12_plainest_47 (by decide) ?_
    refine z_lv0 (lv' := [(0, .ref (a 0)), (3, .long x3), (5, .int (x5 + 1))]) [1, 2, 0] rfl ?_
    exact hk10 _ _ _ h

set_option maxHeartbeats 4000000 in
set_option maxRecDepth 100000 in
theorem zl_X12_plainest_L10 {p : Program} {l : Launch} {e : Env} {R : Room} {s : State} {m : MethodId} {args : Array Value} {below : List Frame} {meth : Method} {c : Code} {D : va_G} {cy : Nat → ClassId} {T0 tB tE : Nat} {A : Nat → Prop} {a : Nat → Nat} {post : Int64 → GS → Prop} {k50 : GS → Int64 → Prop} (b : Bz p R s m args meth c D cy T0 tB tE A 9 cX12_plainest RX12 (some .long) "plainest" 2 47 0 0) (hk50 : ∀ (S : GS) (x3 : Int64), k50 S x3 → Z p l e R s m args below meth c D A 9 (MQ below (QL D (U := GS) post (mw cy a) A) args s 0 0 A) 0 0 (mw cy a S) [(0, .ref (a 0)), (3, .long x3)] 50 []) : ∀ (n : Nat) (S : GS) (x3 : Int64) (x5 : Int32), lpn (w_X12_plainest_F10 post k50) (fun _ _ _ => False) n S x3 x5 → Z p l e R s m args below meth c D A 9 (MQ below (QL D (U := GS) post (mw cy a) A) args s 0 0 A) 0 0 (mw cy a S) [(0, .ref (a 0)), (3, .long x3), (5, .int x5)] 10 [] := by
  intro n
  induction n with
  | zero => intro _ _ _ h; exact h.elim
  | succ n ih => intro S x3 x5 h; exact z_X12_plainest_F10 b hk50 ih S x3 x5 h

def w_X12_plainest_F53 (post : Int64 → GS → Prop) (k108 : GS → Int64 → Prop) (k53 : GS → Int64 → Int32 → Prop) (S : GS) (x3 : Int64) (x5 : Int32) : Prop :=
  ((9 ≤ x5.toInt → k108 S x3) ∧ (x5.toInt < 9 → (0 ≤ x5.toInt ∧ x5.toInt < 9) ∧ (0 ≤ x5.toInt ∧ x5.toInt < 9) ∧ (0 ≤ x5.toInt ∧ x5.toInt < 9) ∧ (0 ≤ x5.toInt ∧ x5.toInt < 9) ∧ (((ar S 3) x5.toNatClampNeg) = 0 ∨ ((ar S 3) x5.toNatClampNeg) = 1) ∧ (0 ≤ x5.toInt ∧ x5.toInt < 9) ∧ (0 ≤ x5.toInt ∧ x5.toInt < 9) ∧ (((ar S 4) x5.toNatClampNeg) = 0 ∨ ((ar S 4) x5.toNatClampNeg) = 1) ∧ k53 (su (su (su S 33 (x5.toNatClampNeg) ((ar S 1) x5.toNatClampNeg)) 35 (x5.toNatClampNeg) ((ar S 3) x5.toNatClampNeg)) 36 (x5.toNatClampNeg) ((ar S 4) x5.toNatClampNeg)) x3 (x5 + 1)))

set_option maxHeartbeats 4000000 in
set_option maxRecDepth 100000 in
theorem z_X12_plainest_F53 {p : Program} {l : Launch} {e : Env} {R : Room} {s : State} {m : MethodId} {args : Array Value} {below : List Frame} {meth : Method} {c : Code} {D : va_G} {cy : Nat → ClassId} {T0 tB tE : Nat} {A : Nat → Prop} {a : Nat → Nat} {post : Int64 → GS → Prop} {k108 : GS → Int64 → Prop} {k53 : GS → Int64 → Int32 → Prop} (b : Bz p R s m args meth c D cy T0 tB tE A 9 cX12_plainest RX12 (some .long) "plainest" 2 47 0 0) (hk108 : ∀ (S : GS) (x3 : Int64), k108 S x3 → Z p l e R s m args below meth c D A 9 (MQ below (QL D (U := GS) post (mw cy a) A) args s 0 0 A) 0 0 (mw cy a S) [(0, .ref (a 0)), (3, .long x3)] 108 []) (hk53 : ∀ (S : GS) (x3 : Int64) (x5 : Int32), k53 S x3 x5 → Z p l e R s m args below meth c D A 9 (MQ below (QL D (U := GS) post (mw cy a) A) args s 0 0 A) 0 0 (mw cy a S) [(0, .ref (a 0)), (3, .long x3), (5, .int x5)] 53 []) (S : GS) (x3 : Int64) (x5 : Int32) (h : w_X12_plainest_F53 post k108 k53 S x3 x5) : Z p l e R s m args below meth c D A 9 (MQ below (QL D (U := GS) post (mw cy a) A) args s 0 0 A) 0 0 (mw cy a S) [(0, .ref (a 0)), (3, .long x3), (5, .int x5)] 53 [] := by
  unfold w_X12_plainest_F53 at h
  refine z_iload b dX12_plainest_53 rfl ?_
  refine z_bipush (v := 9) b dX12_plainest_55 (by decide) ?_
  refine y_icmp_ge (tgt := 108) (xl := x5.toInt) (yl := 9) b rfl (by decide) dX12_plainest_57 (by decide) (fun c1 => ?_) (fun c1 => ?_)
  · replace h := h.1 c1
    refine z_lv0 (lv' := [(0, .ref (a 0)), (3, .long x3)]) [0, 1] rfl ?_
    exact hk108 _ _ h
  · replace h := h.2 c1
    refine z_aload_n b dX12_plainest_60 rfl rfl ?_
    refine z_get (q0 := 0) (k9 := 60) (v := .ref (a 35)) b (mw_0 cy a S) rfl in_X12 (by decide) wf_X12_122 rfl dX12_plainest_61 ?_
    refine z_iload b dX12_plainest_64 rfl ?_
    refine z_aload_n b dX12_plainest_66 rfl rfl ?_
    refine z_get (q0 := 0) (k9 := 1) (v := .ref (a 2)) b (mw_0 cy a S) rfl in_X12 (by decide) wf_X12_17 rfl dX12_plainest_67 ?_
    refine z_iload b dX12_plainest_70 rfl ?_
    obtain ⟨g7, h⟩ := h
    refine y_iald (q0 := 2) (j := x5.toNatClampNeg) (v := ((ar S 1) x5.toNatClampNeg)) b (mw_2 cy a S) (zx_r g7.1 g7.2) rfl dX12_plainest_72 ?_
    obtain ⟨g8, h⟩ := h
    refine y_iast (q0 := 35) (j := x5.toNatClampNeg) b (mw_35 cy a S) (zx_r g8.1 g8.2) dX12_plainest_73 (mwa_35 cy a S (x5.toNatClampNeg) ((ar S 1) x5.toNatClampNeg)) ?_
    refine z_aload_n b dX12_plainest_74 rfl rfl ?_
    refine z_get (q0 := 0) (k9 := 62) (v := .ref (a 37)) b (mw_0 cy a (su S 33 (x5.toNatClampNeg) ((ar S 1) x5.toNatClampNeg))) rfl in_X12 (by decide) wf_X12_128 rfl dX12_plainest_75 ?_
    refine z_iload b dX12_plainest_78 rfl ?_
    refine z_aload_n b dX12_plainest_80 rfl rfl ?_
    refine z_get (q0 := 0) (k9 := 3) (v := .ref (a 4)) b (mw_0 cy a (su S 33 (x5.toNatClampNeg) ((ar S 1) x5.toNatClampNeg))) rfl in_X12 (by decide) wf_X12_23 rfl dX12_plainest_81 ?_
    refine z_iload b dX12_plainest_84 rfl ?_
    obtain ⟨g9, h⟩ := h
    refine y_zald (q0 := 4) (j := x5.toNatClampNeg) (v := ((ar S 3) x5.toNatClampNeg)) b (mw_4 cy a (su S 33 (x5.toNatClampNeg) ((ar S 1) x5.toNatClampNeg))) (zx_r g9.1 g9.2) rfl dX12_plainest_86 ?_
    obtain ⟨g10, h⟩ := h
    obtain ⟨g11, h⟩ := h
    refine y_zast (q0 := 37) (j := x5.toNatClampNeg) b (mw_37 cy a (su S 33 (x5.toNatClampNeg) ((ar S 1) x5.toNatClampNeg))) (zx_r g10.1 g10.2) g11 dX12_plainest_87 (mwa_37 cy a (su S 33 (x5.toNatClampNeg) ((ar S 1) x5.toNatClampNeg)) (x5.toNatClampNeg) ((ar S 3) x5.toNatClampNeg)) ?_
    refine z_aload_n b dX12_plainest_88 rfl rfl ?_
    refine z_get (q0 := 0) (k9 := 63) (v := .ref (a 38)) b (mw_0 cy a (su (su S 33 (x5.toNatClampNeg) ((ar S 1) x5.toNatClampNeg)) 35 (x5.toNatClampNeg) ((ar S 3) x5.toNatClampNeg))) rfl in_X12 (by decide) wf_X12_131 rfl dX12_plainest_89 ?_
    refine z_iload b dX12_plainest_92 rfl ?_
    refine z_aload_n b dX12_plainest_94 rfl rfl ?_
    refine z_get (q0 := 0) (k9 := 4) (v := .ref (a 5)) b (mw_0 cy a (su (su S 33 (x5.toNatClampNeg) ((ar S 1) x5.toNatClampNeg)) 35 (x5.toNatClampNeg) ((ar S 3) x5.toNatClampNeg))) rfl in_X12 (by decide) wf_X12_27 rfl dX12_plainest_95 ?_
    refine z_iload b dX12_plainest_98 rfl ?_
    obtain ⟨g12, h⟩ := h
    refine y_zald (q0 := 5) (j := x5.toNatClampNeg) (v := ((ar S 4) x5.toNatClampNeg)) b (mw_5 cy a (su (su S 33 (x5.toNatClampNeg) ((ar S 1) x5.toNatClampNeg)) 35 (x5.toNatClampNeg) ((ar S 3) x5.toNatClampNeg))) (zx_r g12.1 g12.2) rfl dX12_plainest_100 ?_
    obtain ⟨g13, h⟩ := h
    obtain ⟨g14, h⟩ := h
    refine y_zast (q0 := 38) (j := x5.toNatClampNeg) b (mw_38 cy a (su (su S 33 (x5.toNatClampNeg) ((ar S 1) x5.toNatClampNeg)) 35 (x5.toNatClampNeg) ((ar S 3) x5.toNatClampNeg))) (zx_r g13.1 g13.2) g14 dX12_plainest_101 (mwa_38 cy a (su (su S 33 (x5.toNatClampNeg) ((ar S 1) x5.toNatClampNeg)) 35 (x5.toNatClampNeg) ((ar S 3) x5.toNatClampNeg)) (x5.toNatClampNeg) ((ar S 4) x5.toNatClampNeg)) ?_
    refine z_iinc (k9 := 2) (v := (x5 + 1)) (lv' := [(5, .int (x5 + 1)), (0, .ref (a 0)), (3, .long x3)]) b dX12_plainest_102 rfl rfl (by decide) rfl ?_
    refine z_goto (tgt := 53) b dX12_plainest_105 (by decide) ?_
    refine z_lv0 (lv' := [(0, .ref (a 0)), (3, .long x3), (5, .int (x5 + 1))]) [1, 2, 0] rfl ?_
    exact hk53 _ _ _ h

set_option maxHeartbeats 4000000 in
set_option maxRecDepth 100000 in
theorem zl_X12_plainest_L53 {p : Program} {l : Launch} {e : Env} {R : Room} {s : State} {m : MethodId} {args : Array Value} {below : List Frame} {meth : Method} {c : Code} {D : va_G} {cy : Nat → ClassId} {T0 tB tE : Nat} {A : Nat → Prop} {a : Nat → Nat} {post : Int64 → GS → Prop} {k108 : GS → Int64 → Prop} (b : Bz p R s m args meth c D cy T0 tB tE A 9 cX12_plainest RX12 (some .long) "plainest" 2 47 0 0) (hk108 : ∀ (S : GS) (x3 : Int64), k108 S x3 → Z p l e R s m args below meth c D A 9 (MQ below (QL D (U := GS) post (mw cy a) A) args s 0 0 A) 0 0 (mw cy a S) [(0, .ref (a 0)), (3, .long x3)] 108 []) : ∀ (n : Nat) (S : GS) (x3 : Int64) (x5 : Int32), lpn (w_X12_plainest_F53 post k108) (fun _ _ _ => False) n S x3 x5 → Z p l e R s m args below meth c D A 9 (MQ below (QL D (U := GS) post (mw cy a) A) args s 0 0 A) 0 0 (mw cy a S) [(0, .ref (a 0)), (3, .long x3), (5, .int x5)] 53 [] := by
  intro n
  induction n with
  | zero => intro _ _ _ h; exact h.elim
  | succ n ih => intro S x3 x5 h; exact z_X12_plainest_F53 b hk108 ih S x3 x5 h

def w_X12_plainest_F185 (post : Int64 → GS → Prop) (k281 : GS → Int64 → Int32 → Int32 → Prop) (k185 : GS → Int64 → Int32 → Int32 → Int32 → Prop) (S : GS) (x3 : Int64) (x5 : Int32) (x6 : Int32) (x7 : Int32) : Prop :=
  ((3 ≤ x7.toInt → k281 S x3 x5 x6) ∧ (x7.toInt < 3 → w_X12_renamed S (x5 / 6) x6 (fun r25 S26 => w_X12_renamed S26 (x5 / 6) x7 (fun r27 S28 => (0 ≤ (((3 : Int32) * x6) + x7).toInt ∧ (((3 : Int32) * x6) + x7).toInt < 9) ∧ (0 ≤ (((3 : Int32) * r25) + r27).toInt ∧ (((3 : Int32) * r25) + r27).toInt < 9) ∧ (0 ≤ (((3 : Int32) * x6) + x7).toInt ∧ (((3 : Int32) * x6) + x7).toInt < 9) ∧ (0 ≤ (((3 : Int32) * r25) + r27).toInt ∧ (((3 : Int32) * r25) + r27).toInt < 9) ∧ (((ar S28 35) (((3 : Int32) * x6) + x7).toNatClampNeg) = 0 ∨ ((ar S28 35) (((3 : Int32) * x6) + x7).toNatClampNeg) = 1) ∧ (0 ≤ (((3 : Int32) * x6) + x7).toInt ∧ (((3 : Int32) * x6) + x7).toInt < 9) ∧ (0 ≤ (((3 : Int32) * r25) + r27).toInt ∧ (((3 : Int32) * r25) + r27).toInt < 9) ∧ (((ar S28 36) (((3 : Int32) * x6) + x7).toNatClampNeg) = 0 ∨ ((ar S28 36) (((3 : Int32) * x6) + x7).toNatClampNeg) = 1) ∧ k185 (su (su (su S28 1 ((((3 : Int32) * r25) + r27).toNatClampNeg) ((ar S28 33) (((3 : Int32) * x6) + x7).toNatClampNeg)) 3 ((((3 : Int32) * r25) + r27).toNatClampNeg) ((ar S28 35) (((3 : Int32) * x6) + x7).toNatClampNeg)) 4 ((((3 : Int32) * r25) + r27).toNatClampNeg) ((ar S28 36) (((3 : Int32) * x6) + x7).toNatClampNeg)) x3 x5 x6 (x7 + 1)))))

set_option maxHeartbeats 4000000 in
set_option maxRecDepth 100000 in
theorem z_X12_plainest_F185 {p : Program} {l : Launch} {e : Env} {R : Room} {s : State} {m : MethodId} {args : Array Value} {below : List Frame} {meth : Method} {c : Code} {D : va_G} {cy : Nat → ClassId} {T0 tB tE : Nat} {A : Nat → Prop} {a : Nat → Nat} {post : Int64 → GS → Prop} {k281 : GS → Int64 → Int32 → Int32 → Prop} {k185 : GS → Int64 → Int32 → Int32 → Int32 → Prop} (b : Bz p R s m args meth c D cy T0 tB tE A 9 cX12_plainest RX12 (some .long) "plainest" 2 47 0 0) (hk281 : ∀ (S : GS) (x3 : Int64) (x5 : Int32) (x6 : Int32), k281 S x3 x5 x6 → Z p l e R s m args below meth c D A 9 (MQ below (QL D (U := GS) post (mw cy a) A) args s 0 0 A) 0 0 (mw cy a S) [(0, .ref (a 0)), (3, .long x3), (5, .int x5), (6, .int x6)] 281 []) (hk185 : ∀ (S : GS) (x3 : Int64) (x5 : Int32) (x6 : Int32) (x7 : Int32), k185 S x3 x5 x6 x7 → Z p l e R s m args below meth c D A 9 (MQ below (QL D (U := GS) post (mw cy a) A) args s 0 0 A) 0 0 (mw cy a S) [(0, .ref (a 0)), (3, .long x3), (5, .int x5), (6, .int x6), (7, .int x7)] 185 []) (S : GS) (x3 : Int64) (x5 : Int32) (x6 : Int32) (x7 : Int32) (h : w_X12_plainest_F185 post k281 k185 S x3 x5 x6 x7) : Z p l e R s m args below meth c D A 9 (MQ below (QL D (U := GS) post (mw cy a) A) args s 0 0 A) 0 0 (mw cy a S) [(0, .ref (a 0)), (3, .long x3), (5, .int x5), (6, .int x6), (7, .int x7)] 185 [] := by
  unfold w_X12_plainest_F185 at h
  refine z_iload b dX12_plainest_185 rfl ?_
  refine z_iconst (v := 3) b dX12_plainest_187 (by decide) ?_
  refine y_icmp_ge (tgt := 281) (xl := x7.toInt) (yl := 3) b rfl (by decide) dX12_plainest_188 (by decide) (fun c1 => ?_) (fun c1 => ?_)
  · replace h := h.1 c1
    refine z_lv0 (lv' := [(0, .ref (a 0)), (3, .long x3), (5, .int x5), (6, .int x6)]) [0, 1, 2, 3] rfl ?_
    exact hk281 _ _ _ _ h
  · replace h := h.2 c1
    refine z_iconst (v := 3) b dX12_plainest_191 (by decide) ?_
    refine z_aload_n b dX12_plainest_192 rfl rfl ?_
    refine z_iload b dX12_plainest_193 rfl ?_
    refine z_bipush (v := 6) b dX12_plainest_195 (by decide) ?_
    refine z_idiv b dX12_plainest_197 (by decide) rfl ?_
    refine z_iload b dX12_plainest_198 rfl ?_
    refine z_calli b (z_runV (q0 := 0) (As := [.int (x5 / 6), .int x6]) (st := [.int 3]) b (k_X12_renamed S (x5 / 6) x6 _ h) cf_X12_renamed (mw_0 cy a S) rfl wm_X12_445 wi_X12_renamed ws_X12_renamed dX12_plainest_200 rfl (Nat.le_of_ble_eq_true rfl) ⟨by decide, by decide, by decide, by decide⟩) (fun r25 S26 h => ?_)
    refine z_imul b dX12_plainest_203 rfl ?_
    refine z_aload_n b dX12_plainest_204 rfl rfl ?_
    refine z_iload b dX12_plainest_205 rfl ?_
    refine z_bipush (v := 6) b dX12_plainest_207 (by decide) ?_
    refine z_idiv b dX12_plainest_209 (by decide) rfl ?_
    refine z_iload b dX12_plainest_210 rfl ?_
    refine z_calli b (z_runV (q0 := 0) (As := [.int (x5 / 6), .int x7]) (st := [.int ((3 : Int32) * r25)]) b (k_X12_renamed S26 (x5 / 6) x7 _ h) cf_X12_renamed (mw_0 cy a S26) rfl wm_X12_445 wi_X12_renamed ws_X12_renamed dX12_plainest_212 rfl (Nat.le_of_ble_eq_true rfl) ⟨by decide, by decide, by decide, by decide⟩) (fun r27 S28 h => ?_)
    refine z_iadd b dX12_plainest_215 rfl ?_
    refine z_istore (lv' := [(8, .int (((3 : Int32) * r25) + r27)), (0, .ref (a 0)), (3, .long x3), (5, .int x5), (6, .int x6), (7, .int x7)]) b dX12_plainest_216 (by decide) rfl ?_
    refine z_aload_n b dX12_plainest_218 rfl rfl ?_
    refine z_get (q0 := 0) (k9 := 1) (v := .ref (a 2)) b (mw_0 cy a S28) rfl in_X12 (by decide) wf_X12_17 rfl dX12_plainest_219 ?_
    refine z_iload b dX12_plainest_222 rfl ?_
    refine z_aload_n b dX12_plainest_224 rfl rfl ?_
    refine z_get (q0 := 0) (k9 := 60) (v := .ref (a 35)) b (mw_0 cy a S28) rfl in_X12 (by decide) wf_X12_122 rfl dX12_plainest_225 ?_
    refine z_iconst (v := 3) b dX12_plainest_228 (by decide) ?_
    refine z_iload b dX12_plainest_229 rfl ?_
    refine z_imul b dX12_plainest_231 rfl ?_
    refine z_iload b dX12_plainest_232 rfl ?_
    refine z_iadd b dX12_plainest_234 rfl ?_
    obtain ⟨g29, h⟩ := h
    refine y_iald (q0 := 35) (j := (((3 : Int32) * x6) + x7).toNatClampNeg) (v := ((ar S28 33) (((3 : Int32) * x6) + x7).toNatClampNeg)) b (mw_35 cy a S28) (zx_r g29.1 g29.2) rfl dX12_plainest_235 ?_
    obtain ⟨g30, h⟩ := h
    refine y_iast (q0 := 2) (j := (((3 : Int32) * r25) + r27).toNatClampNeg) b (mw_2 cy a S28) (zx_r g30.1 g30.2) dX12_plainest_236 (mwa_2 cy a S28 ((((3 : Int32) * r25) + r27).toNatClampNeg) ((ar S28 33) (((3 : Int32) * x6) + x7).toNatClampNeg)) ?_
    refine z_aload_n b dX12_plainest_237 rfl rfl ?_
    refine z_get (q0 := 0) (k9 := 3) (v := .ref (a 4)) b (mw_0 cy a (su S28 1 ((((3 : Int32) * r25) + r27).toNatClampNeg) ((ar S28 33) (((3 : Int32) * x6) + x7).toNatClampNeg))) rfl in_X12 (by decide) wf_X12_23 rfl dX12_plainest_238 ?_
    refine z_iload b dX12_plainest_241 rfl ?_
    refine z_aload_n b dX12_plainest_243 rfl rfl ?_
    refine z_get (q0 := 0) (k9 := 62) (v := .ref (a 37)) b (mw_0 cy a (su S28 1 ((((3 : Int32) * r25) + r27).toNatClampNeg) ((ar S28 33) (((3 : Int32) * x6) + x7).toNatClampNeg))) rfl in_X12 (by decide) wf_X12_128 rfl dX12_plainest_244 ?_
    refine z_iconst (v := 3) b dX12_plainest_247 (by decide) ?_
    refine z_iload b dX12_plainest_248 rfl ?_
    refine z_imul b dX12_plainest_250 rfl ?_
    refine z_iload b dX12_plainest_251 rfl ?_
    refine z_iadd b dX12_plainest_253 rfl ?_
    obtain ⟨g31, h⟩ := h
    refine y_zald (q0 := 37) (j := (((3 : Int32) * x6) + x7).toNatClampNeg) (v := ((ar S28 35) (((3 : Int32) * x6) + x7).toNatClampNeg)) b (mw_37 cy a (su S28 1 ((((3 : Int32) * r25) + r27).toNatClampNeg) ((ar S28 33) (((3 : Int32) * x6) + x7).toNatClampNeg))) (zx_r g31.1 g31.2) rfl dX12_plainest_254 ?_
    obtain ⟨g32, h⟩ := h
    obtain ⟨g33, h⟩ := h
    refine y_zast (q0 := 4) (j := (((3 : Int32) * r25) + r27).toNatClampNeg) b (mw_4 cy a (su S28 1 ((((3 : Int32) * r25) + r27).toNatClampNeg) ((ar S28 33) (((3 : Int32) * x6) + x7).toNatClampNeg))) (zx_r g32.1 g32.2) g33 dX12_plainest_255 (mwa_4 cy a (su S28 1 ((((3 : Int32) * r25) + r27).toNatClampNeg) ((ar S28 33) (((3 : Int32) * x6) + x7).toNatClampNeg)) ((((3 : Int32) * r25) + r27).toNatClampNeg) ((ar S28 35) (((3 : Int32) * x6) + x7).toNatClampNeg)) ?_
    refine z_aload_n b dX12_plainest_256 rfl rfl ?_
    refine z_get (q0 := 0) (k9 := 4) (v := .ref (a 5)) b (mw_0 cy a (su (su S28 1 ((((3 : Int32) * r25) + r27).toNatClampNeg) ((ar S28 33) (((3 : Int32) * x6) + x7).toNatClampNeg)) 3 ((((3 : Int32) * r25) + r27).toNatClampNeg) ((ar S28 35) (((3 : Int32) * x6) + x7).toNatClampNeg))) rfl in_X12 (by decide) wf_X12_27 rfl dX12_plainest_257 ?_
    refine z_iload b dX12_plainest_260 rfl ?_
    refine z_aload_n b dX12_plainest_262 rfl rfl ?_
    refine z_get (q0 := 0) (k9 := 63) (v := .ref (a 38)) b (mw_0 cy a (su (su S28 1 ((((3 : Int32) * r25) + r27).toNatClampNeg) ((ar S28 33) (((3 : Int32) * x6) + x7).toNatClampNeg)) 3 ((((3 : Int32) * r25) + r27).toNatClampNeg) ((ar S28 35) (((3 : Int32) * x6) + x7).toNatClampNeg))) rfl in_X12 (by decide) wf_X12_131 rfl dX12_plainest_263 ?_
    refine z_iconst (v := 3) b dX12_plainest_266 (by decide) ?_
    refine z_iload b dX12_plainest_267 rfl ?_
    refine z_imul b dX12_plainest_269 rfl ?_
    refine z_iload b dX12_plainest_270 rfl ?_
    refine z_iadd b dX12_plainest_272 rfl ?_
    obtain ⟨g34, h⟩ := h
    refine y_zald (q0 := 38) (j := (((3 : Int32) * x6) + x7).toNatClampNeg) (v := ((ar S28 36) (((3 : Int32) * x6) + x7).toNatClampNeg)) b (mw_38 cy a (su (su S28 1 ((((3 : Int32) * r25) + r27).toNatClampNeg) ((ar S28 33) (((3 : Int32) * x6) + x7).toNatClampNeg)) 3 ((((3 : Int32) * r25) + r27).toNatClampNeg) ((ar S28 35) (((3 : Int32) * x6) + x7).toNatClampNeg))) (zx_r g34.1 g34.2) rfl dX12_plainest_273 ?_
    obtain ⟨g35, h⟩ := h
    obtain ⟨g36, h⟩ := h
    refine y_zast (q0 := 5) (j := (((3 : Int32) * r25) + r27).toNatClampNeg) b (mw_5 cy a (su (su S28 1 ((((3 : Int32) * r25) + r27).toNatClampNeg) ((ar S28 33) (((3 : Int32) * x6) + x7).toNatClampNeg)) 3 ((((3 : Int32) * r25) + r27).toNatClampNeg) ((ar S28 35) (((3 : Int32) * x6) + x7).toNatClampNeg))) (zx_r g35.1 g35.2) g36 dX12_plainest_274 (mwa_5 cy a (su (su S28 1 ((((3 : Int32) * r25) + r27).toNatClampNeg) ((ar S28 33) (((3 : Int32) * x6) + x7).toNatClampNeg)) 3 ((((3 : Int32) * r25) + r27).toNatClampNeg) ((ar S28 35) (((3 : Int32) * x6) + x7).toNatClampNeg)) ((((3 : Int32) * r25) + r27).toNatClampNeg) ((ar S28 36) (((3 : Int32) * x6) + x7).toNatClampNeg)) ?_
    refine z_iinc (k9 := 5) (v := (x7 + 1)) (lv' := [(7, .int (x7 + 1)), (8, .int (((3 : Int32) * r25) + r27)), (0, .ref (a 0)), (3, .long x3), (5, .int x5), (6, .int x6)]) b dX12_plainest_275 rfl rfl (by decide) rfl ?_
    refine z_goto (tgt := 185) b dX12_plainest_278 (by decide) ?_
    refine z_lv0 (lv' := [(0, .ref (a 0)), (3, .long x3), (5, .int x5), (6, .int x6), (7, .int (x7 + 1))]) [2, 3, 4, 5, 0] rfl ?_
    exact hk185 _ _ _ _ _ h

set_option maxHeartbeats 4000000 in
set_option maxRecDepth 100000 in
theorem zl_X12_plainest_L185 {p : Program} {l : Launch} {e : Env} {R : Room} {s : State} {m : MethodId} {args : Array Value} {below : List Frame} {meth : Method} {c : Code} {D : va_G} {cy : Nat → ClassId} {T0 tB tE : Nat} {A : Nat → Prop} {a : Nat → Nat} {post : Int64 → GS → Prop} {k281 : GS → Int64 → Int32 → Int32 → Prop} (b : Bz p R s m args meth c D cy T0 tB tE A 9 cX12_plainest RX12 (some .long) "plainest" 2 47 0 0) (hk281 : ∀ (S : GS) (x3 : Int64) (x5 : Int32) (x6 : Int32), k281 S x3 x5 x6 → Z p l e R s m args below meth c D A 9 (MQ below (QL D (U := GS) post (mw cy a) A) args s 0 0 A) 0 0 (mw cy a S) [(0, .ref (a 0)), (3, .long x3), (5, .int x5), (6, .int x6)] 281 []) : ∀ (n : Nat) (S : GS) (x3 : Int64) (x5 : Int32) (x6 : Int32) (x7 : Int32), lpn (w_X12_plainest_F185 post k281) (fun _ _ _ _ _ => False) n S x3 x5 x6 x7 → Z p l e R s m args below meth c D A 9 (MQ below (QL D (U := GS) post (mw cy a) A) args s 0 0 A) 0 0 (mw cy a S) [(0, .ref (a 0)), (3, .long x3), (5, .int x5), (6, .int x6), (7, .int x7)] 185 [] := by
  intro n
  induction n with
  | zero => intro _ _ _ _ _ h; exact h.elim
  | succ n ih => intro S x3 x5 x6 x7 h; exact z_X12_plainest_F185 b hk281 ih S x3 x5 x6 x7 h

def w_X12_plainest_B281 (post : Int64 → GS → Prop) (k121 : GS → Int64 → Int32 → Int32 → Prop) (k287 : GS → Int64 → Int32 → Prop) (S : GS) (x3 : Int64) (x5 : Int32) (x6 : Int32) : Prop :=
  k121 S x3 x5 (x6 + 1)

set_option maxHeartbeats 4000000 in
set_option maxRecDepth 100000 in
theorem z_X12_plainest_B281 {p : Program} {l : Launch} {e : Env} {R : Room} {s : State} {m : MethodId} {args : Array Value} {below : List Frame} {meth : Method} {c : Code} {D : va_G} {cy : Nat → ClassId} {T0 tB tE : Nat} {A : Nat → Prop} {a : Nat → Nat} {post : Int64 → GS → Prop} {k121 : GS → Int64 → Int32 → Int32 → Prop} {k287 : GS → Int64 → Int32 → Prop} (b : Bz p R s m args meth c D cy T0 tB tE A 9 cX12_plainest RX12 (some .long) "plainest" 2 47 0 0) (hk121 : ∀ (S : GS) (x3 : Int64) (x5 : Int32) (x6 : Int32), k121 S x3 x5 x6 → Z p l e R s m args below meth c D A 9 (MQ below (QL D (U := GS) post (mw cy a) A) args s 0 0 A) 0 0 (mw cy a S) [(0, .ref (a 0)), (3, .long x3), (5, .int x5), (6, .int x6)] 121 []) (hk287 : ∀ (S : GS) (x3 : Int64) (x5 : Int32), k287 S x3 x5 → Z p l e R s m args below meth c D A 9 (MQ below (QL D (U := GS) post (mw cy a) A) args s 0 0 A) 0 0 (mw cy a S) [(0, .ref (a 0)), (3, .long x3), (5, .int x5)] 287 []) (S : GS) (x3 : Int64) (x5 : Int32) (x6 : Int32) (h : w_X12_plainest_B281 post k121 k287 S x3 x5 x6) : Z p l e R s m args below meth c D A 9 (MQ below (QL D (U := GS) post (mw cy a) A) args s 0 0 A) 0 0 (mw cy a S) [(0, .ref (a 0)), (3, .long x3), (5, .int x5), (6, .int x6)] 281 [] := by
  unfold w_X12_plainest_B281 at h
  refine z_iinc (k9 := 3) (v := (x6 + 1)) (lv' := [(6, .int (x6 + 1)), (0, .ref (a 0)), (3, .long x3), (5, .int x5)]) b dX12_plainest_281 rfl rfl (by decide) rfl ?_
  refine z_goto (tgt := 121) b dX12_plainest_284 (by decide) ?_
  refine z_lv0 (lv' := [(0, .ref (a 0)), (3, .long x3), (5, .int x5), (6, .int (x6 + 1))]) [1, 2, 3, 0] rfl ?_
  exact hk121 _ _ _ _ h

def w_X12_plainest_F121 (post : Int64 → GS → Prop) (k287 : GS → Int64 → Int32 → Prop) (k121 : GS → Int64 → Int32 → Int32 → Prop) (S : GS) (x3 : Int64) (x5 : Int32) (x6 : Int32) : Prop :=
  ((3 ≤ x6.toInt → k287 S x3 x5) ∧ (x6.toInt < 3 → w_X12_renamed S (x5 / 6) x6 (fun r15 S16 => (0 ≤ x6.toInt ∧ x6.toInt < 3) ∧ (0 ≤ r15.toInt ∧ r15.toInt < 3) ∧ w_X12_renamed (su S16 0 (r15.toNatClampNeg) ((ar S16 32) x6.toNatClampNeg)) (x5 - x5 / 6 * 6) x6 (fun r19 S20 => (0 ≤ x6.toInt ∧ x6.toInt < 3) ∧ w_X12_renamed S20 (x5 / 6) ((ar S20 34) x6.toNatClampNeg) (fun r22 S23 => (0 ≤ r19.toInt ∧ r19.toInt < 3) ∧ ∃ n, lpn (w_X12_plainest_F185 post (w_X12_plainest_B281 post k121 k287)) (fun _ _ _ _ _ => False) n (su S23 2 (r19.toNatClampNeg) r22) x3 x5 x6 0)))))

set_option maxHeartbeats 4000000 in
set_option maxRecDepth 100000 in
theorem z_X12_plainest_F121 {p : Program} {l : Launch} {e : Env} {R : Room} {s : State} {m : MethodId} {args : Array Value} {below : List Frame} {meth : Method} {c : Code} {D : va_G} {cy : Nat → ClassId} {T0 tB tE : Nat} {A : Nat → Prop} {a : Nat → Nat} {post : Int64 → GS → Prop} {k287 : GS → Int64 → Int32 → Prop} {k121 : GS → Int64 → Int32 → Int32 → Prop} (b : Bz p R s m args meth c D cy T0 tB tE A 9 cX12_plainest RX12 (some .long) "plainest" 2 47 0 0) (hk287 : ∀ (S : GS) (x3 : Int64) (x5 : Int32), k287 S x3 x5 → Z p l e R s m args below meth c D A 9 (MQ below (QL D (U := GS) post (mw cy a) A) args s 0 0 A) 0 0 (mw cy a S) [(0, .ref (a 0)), (3, .long x3), (5, .int x5)] 287 []) (hk121 : ∀ (S : GS) (x3 : Int64) (x5 : Int32) (x6 : Int32), k121 S x3 x5 x6 → Z p l e R s m args below meth c D A 9 (MQ below (QL D (U := GS) post (mw cy a) A) args s 0 0 A) 0 0 (mw cy a S) [(0, .ref (a 0)), (3, .long x3), (5, .int x5), (6, .int x6)] 121 []) (S : GS) (x3 : Int64) (x5 : Int32) (x6 : Int32) (h : w_X12_plainest_F121 post k287 k121 S x3 x5 x6) : Z p l e R s m args below meth c D A 9 (MQ below (QL D (U := GS) post (mw cy a) A) args s 0 0 A) 0 0 (mw cy a S) [(0, .ref (a 0)), (3, .long x3), (5, .int x5), (6, .int x6)] 121 [] := by
  unfold w_X12_plainest_F121 at h
  refine z_iload b dX12_plainest_121 rfl ?_
  refine z_iconst (v := 3) b dX12_plainest_123 (by decide) ?_
  refine y_icmp_ge (tgt := 287) (xl := x6.toInt) (yl := 3) b rfl (by decide) dX12_plainest_124 (by decide) (fun c1 => ?_) (fun c1 => ?_)
  · replace h := h.1 c1
    refine z_lv0 (lv' := [(0, .ref (a 0)), (3, .long x3), (5, .int x5)]) [0, 1, 2] rfl ?_
    exact hk287 _ _ _ h
  · replace h := h.2 c1
    refine z_aload_n b dX12_plainest_127 rfl rfl ?_
    refine z_get (q0 := 0) (k9 := 0) (v := .ref (a 1)) b (mw_0 cy a S) rfl in_X12 (by decide) wf_X12_13 rfl dX12_plainest_128 ?_
    refine z_aload_n b dX12_plainest_131 rfl rfl ?_
    refine z_iload b dX12_plainest_132 rfl ?_
    refine z_bipush (v := 6) b dX12_plainest_134 (by decide) ?_
    refine z_idiv b dX12_plainest_136 (by decide) rfl ?_
    refine z_iload b dX12_plainest_137 rfl ?_
    refine z_calli b (z_runV (q0 := 0) (As := [.int (x5 / 6), .int x6]) (st := [.ref (a 1)]) b (k_X12_renamed S (x5 / 6) x6 _ h) cf_X12_renamed (mw_0 cy a S) rfl wm_X12_445 wi_X12_renamed ws_X12_renamed dX12_plainest_139 rfl (Nat.le_of_ble_eq_true rfl) ⟨by decide, by decide, by decide, by decide⟩) (fun r15 S16 h => ?_)
    refine z_aload_n b dX12_plainest_142 rfl rfl ?_
    refine z_get (q0 := 0) (k9 := 59) (v := .ref (a 34)) b (mw_0 cy a S16) rfl in_X12 (by decide) wf_X12_119 rfl dX12_plainest_143 ?_
    refine z_iload b dX12_plainest_146 rfl ?_
    obtain ⟨g17, h⟩ := h
    refine y_iald (q0 := 34) (j := x6.toNatClampNeg) (v := ((ar S16 32) x6.toNatClampNeg)) b (mw_34 cy a S16) (zx_r g17.1 g17.2) rfl dX12_plainest_148 ?_
    obtain ⟨g18, h⟩ := h
    refine y_iast (q0 := 1) (j := r15.toNatClampNeg) b (mw_1 cy a S16) (zx_r g18.1 g18.2) dX12_plainest_149 (mwa_1 cy a S16 (r15.toNatClampNeg) ((ar S16 32) x6.toNatClampNeg)) ?_
    refine z_aload_n b dX12_plainest_150 rfl rfl ?_
    refine z_get (q0 := 0) (k9 := 2) (v := .ref (a 3)) b (mw_0 cy a (su S16 0 (r15.toNatClampNeg) ((ar S16 32) x6.toNatClampNeg))) rfl in_X12 (by decide) wf_X12_20 rfl dX12_plainest_151 ?_
    refine z_aload_n b dX12_plainest_154 rfl rfl ?_
    refine z_iload b dX12_plainest_155 rfl ?_
    refine z_bipush (v := 6) b dX12_plainest_157 (by decide) ?_
    refine z_irem b dX12_plainest_159 (by decide) rfl ?_
    refine z_iload b dX12_plainest_160 rfl ?_
    refine z_calli b (z_runV (q0 := 0) (As := [.int (x5 - x5 / 6 * 6), .int x6]) (st := [.ref (a 3)]) b (k_X12_renamed (su S16 0 (r15.toNatClampNeg) ((ar S16 32) x6.toNatClampNeg)) (x5 - x5 / 6 * 6) x6 _ h) cf_X12_renamed (mw_0 cy a (su S16 0 (r15.toNatClampNeg) ((ar S16 32) x6.toNatClampNeg))) rfl wm_X12_445 wi_X12_renamed ws_X12_renamed dX12_plainest_162 rfl (Nat.le_of_ble_eq_true rfl) ⟨by decide, by decide, by decide, by decide⟩) (fun r19 S20 h => ?_)
    refine z_aload_n b dX12_plainest_165 rfl rfl ?_
    refine z_iload b dX12_plainest_166 rfl ?_
    refine z_bipush (v := 6) b dX12_plainest_168 (by decide) ?_
    refine z_idiv b dX12_plainest_170 (by decide) rfl ?_
    refine z_aload_n b dX12_plainest_171 rfl rfl ?_
    refine z_get (q0 := 0) (k9 := 61) (v := .ref (a 36)) b (mw_0 cy a S20) rfl in_X12 (by decide) wf_X12_125 rfl dX12_plainest_172 ?_
    refine z_iload b dX12_plainest_175 rfl ?_
    obtain ⟨g21, h⟩ := h
    refine y_iald (q0 := 36) (j := x6.toNatClampNeg) (v := ((ar S20 34) x6.toNatClampNeg)) b (mw_36 cy a S20) (zx_r g21.1 g21.2) rfl dX12_plainest_177 ?_
    refine z_calli b (z_runV (q0 := 0) (As := [.int (x5 / 6), .int ((ar S20 34) x6.toNatClampNeg)]) (st := [.int r19, .ref (a 3)]) b (k_X12_renamed S20 (x5 / 6) ((ar S20 34) x6.toNatClampNeg) _ h) cf_X12_renamed (mw_0 cy a S20) rfl wm_X12_445 wi_X12_renamed ws_X12_renamed dX12_plainest_178 rfl (Nat.le_of_ble_eq_true rfl) ⟨by decide, by decide, by decide, by decide⟩) (fun r22 S23 h => ?_)
    obtain ⟨g24, h⟩ := h
    refine y_iast (q0 := 3) (j := r19.toNatClampNeg) b (mw_3 cy a S23) (zx_r g24.1 g24.2) dX12_plainest_181 (mwa_3 cy a S23 (r19.toNatClampNeg) r22) ?_
    refine z_iconst (v := 0) b dX12_plainest_182 (by decide) ?_
    refine z_istore (lv' := [(7, .int 0), (0, .ref (a 0)), (3, .long x3), (5, .int x5), (6, .int x6)]) b dX12_plainest_183 (by decide) rfl ?_
    refine z_lv0 (lv' := [(0, .ref (a 0)), (3, .long x3), (5, .int x5), (6, .int x6), (7, .int 0)]) [1, 2, 3, 4, 0] rfl ?_
    obtain ⟨n, h⟩ := h
    exact zl_X12_plainest_L185 b (fun S x3 x5 x6 h => z_X12_plainest_B281 b hk121 hk287 _ _ _ _ h) n _ _ _ _ _ h

set_option maxHeartbeats 4000000 in
set_option maxRecDepth 100000 in
theorem zl_X12_plainest_L121 {p : Program} {l : Launch} {e : Env} {R : Room} {s : State} {m : MethodId} {args : Array Value} {below : List Frame} {meth : Method} {c : Code} {D : va_G} {cy : Nat → ClassId} {T0 tB tE : Nat} {A : Nat → Prop} {a : Nat → Nat} {post : Int64 → GS → Prop} {k287 : GS → Int64 → Int32 → Prop} (b : Bz p R s m args meth c D cy T0 tB tE A 9 cX12_plainest RX12 (some .long) "plainest" 2 47 0 0) (hk287 : ∀ (S : GS) (x3 : Int64) (x5 : Int32), k287 S x3 x5 → Z p l e R s m args below meth c D A 9 (MQ below (QL D (U := GS) post (mw cy a) A) args s 0 0 A) 0 0 (mw cy a S) [(0, .ref (a 0)), (3, .long x3), (5, .int x5)] 287 []) : ∀ (n : Nat) (S : GS) (x3 : Int64) (x5 : Int32) (x6 : Int32), lpn (w_X12_plainest_F121 post k287) (fun _ _ _ _ => False) n S x3 x5 x6 → Z p l e R s m args below meth c D A 9 (MQ below (QL D (U := GS) post (mw cy a) A) args s 0 0 A) 0 0 (mw cy a S) [(0, .ref (a 0)), (3, .long x3), (5, .int x5), (6, .int x6)] 121 [] := by
  intro n
  induction n with
  | zero => intro _ _ _ _ h; exact h.elim
  | succ n ih => intro S x3 x5 x6 h; exact z_X12_plainest_F121 b hk287 ih S x3 x5 x6 h

def w_X12_plainest_B306 (post : Int64 → GS → Prop) (k111 : GS → Int64 → Int32 → Prop) (k313 : GS → Int64 → Prop) (S : GS) (x5 : Int32) (y0 : Int64) : Prop :=
  k111 S y0 (x5 + 1)

set_option maxHeartbeats 4000000 in
set_option maxRecDepth 100000 in
theorem z_X12_plainest_B306 {p : Program} {l : Launch} {e : Env} {R : Room} {s : State} {m : MethodId} {args : Array Value} {below : List Frame} {meth : Method} {c : Code} {D : va_G} {cy : Nat → ClassId} {T0 tB tE : Nat} {A : Nat → Prop} {a : Nat → Nat} {post : Int64 → GS → Prop} {k111 : GS → Int64 → Int32 → Prop} {k313 : GS → Int64 → Prop} (b : Bz p R s m args meth c D cy T0 tB tE A 9 cX12_plainest RX12 (some .long) "plainest" 2 47 0 0) (hk111 : ∀ (S : GS) (x3 : Int64) (x5 : Int32), k111 S x3 x5 → Z p l e R s m args below meth c D A 9 (MQ below (QL D (U := GS) post (mw cy a) A) args s 0 0 A) 0 0 (mw cy a S) [(0, .ref (a 0)), (3, .long x3), (5, .int x5)] 111 []) (hk313 : ∀ (S : GS) (x3 : Int64), k313 S x3 → Z p l e R s m args below meth c D A 9 (MQ below (QL D (U := GS) post (mw cy a) A) args s 0 0 A) 0 0 (mw cy a S) [(3, .long x3)] 313 []) (S : GS) (x5 : Int32) (y0 : Int64) (h : w_X12_plainest_B306 post k111 k313 S x5 y0) : Z p l e R s m args below meth c D A 9 (MQ below (QL D (U := GS) post (mw cy a) A) args s 0 0 A) 0 0 (mw cy a S) [(0, .ref (a 0)), (5, .int x5)] 306 [.long y0] := by
  unfold w_X12_plainest_B306 at h
  refine z_lstore_n (lv' := [(3, .long y0), (0, .ref (a 0)), (5, .int x5)]) b dX12_plainest_306 rfl (by decide) rfl ?_
  refine z_iinc (k9 := 2) (v := (x5 + 1)) (lv' := [(5, .int (x5 + 1)), (3, .long y0), (0, .ref (a 0))]) b dX12_plainest_307 rfl rfl (by decide) rfl ?_
  refine z_goto (tgt := 111) b dX12_plainest_310 (by decide) ?_
  refine z_lv0 (lv' := [(0, .ref (a 0)), (3, .long y0), (5, .int (x5 + 1))]) [2, 1, 0] rfl ?_
  exact hk111 _ _ _ h

def w_X12_plainest_B287 (post : Int64 → GS → Prop) (k111 : GS → Int64 → Int32 → Prop) (k313 : GS → Int64 → Prop) (S : GS) (x3 : Int64) (x5 : Int32) : Prop :=
  w_X12_packs S (fun r37 S38 => ((0 ≤ (lg_cmp r37 x3).toInt → w_X12_plainest_B306 post k111 k313 S38 x5 x3) ∧ ((lg_cmp r37 x3).toInt < 0 → w_X12_plainest_B306 post k111 k313 S38 x5 r37)))

set_option maxHeartbeats 4000000 in
set_option maxRecDepth 100000 in
theorem z_X12_plainest_B287 {p : Program} {l : Launch} {e : Env} {R : Room} {s : State} {m : MethodId} {args : Array Value} {below : List Frame} {meth : Method} {c : Code} {D : va_G} {cy : Nat → ClassId} {T0 tB tE : Nat} {A : Nat → Prop} {a : Nat → Nat} {post : Int64 → GS → Prop} {k111 : GS → Int64 → Int32 → Prop} {k313 : GS → Int64 → Prop} (b : Bz p R s m args meth c D cy T0 tB tE A 9 cX12_plainest RX12 (some .long) "plainest" 2 47 0 0) (hk111 : ∀ (S : GS) (x3 : Int64) (x5 : Int32), k111 S x3 x5 → Z p l e R s m args below meth c D A 9 (MQ below (QL D (U := GS) post (mw cy a) A) args s 0 0 A) 0 0 (mw cy a S) [(0, .ref (a 0)), (3, .long x3), (5, .int x5)] 111 []) (hk313 : ∀ (S : GS) (x3 : Int64), k313 S x3 → Z p l e R s m args below meth c D A 9 (MQ below (QL D (U := GS) post (mw cy a) A) args s 0 0 A) 0 0 (mw cy a S) [(3, .long x3)] 313 []) (S : GS) (x3 : Int64) (x5 : Int32) (h : w_X12_plainest_B287 post k111 k313 S x3 x5) : Z p l e R s m args below meth c D A 9 (MQ below (QL D (U := GS) post (mw cy a) A) args s 0 0 A) 0 0 (mw cy a S) [(0, .ref (a 0)), (3, .long x3), (5, .int x5)] 287 [] := by
  unfold w_X12_plainest_B287 at h
  refine z_aload_n b dX12_plainest_287 rfl rfl ?_
  refine z_calll b (z_runV (q0 := 0) (As := []) (st := []) b (k_X12_packs S _ h) cf_X12_packs (mw_0 cy a S) rfl wm_X12_149 wi_X12_packs ws_X12_packs dX12_plainest_288 rfl (Nat.le_of_ble_eq_true rfl) ⟨by decide, by decide, by decide, by decide⟩) (fun r37 S38 h => ?_)
  refine z_lstore (lv' := [(6, .long r37), (0, .ref (a 0)), (3, .long x3), (5, .int x5)]) b dX12_plainest_291 (by decide) rfl ?_
  refine z_lload b dX12_plainest_293 rfl ?_
  refine z_lload_n b dX12_plainest_295 rfl rfl ?_
  refine z_lcmp b dX12_plainest_296 rfl ?_
  refine y_if_ge (tgt := 305) (xl := (lg_cmp r37 x3).toInt) b rfl dX12_plainest_297 (by decide) (fun c1 => ?_) (fun c1 => ?_)
  · replace h := h.1 c1
    refine z_lload_n b dX12_plainest_305 rfl rfl ?_
    refine z_lv0 (lv' := [(0, .ref (a 0)), (5, .int x5)]) [1, 3] rfl ?_
    exact z_X12_plainest_B306 b hk111 hk313 _ _ _ h
  · replace h := h.2 c1
    refine z_lload b dX12_plainest_300 rfl ?_
    refine z_goto (tgt := 306) b dX12_plainest_302 (by decide) ?_
    refine z_lv0 (lv' := [(0, .ref (a 0)), (5, .int x5)]) [1, 3] rfl ?_
    exact z_X12_plainest_B306 b hk111 hk313 _ _ _ h

def w_X12_plainest_F111 (post : Int64 → GS → Prop) (k313 : GS → Int64 → Prop) (k111 : GS → Int64 → Int32 → Prop) (S : GS) (x3 : Int64) (x5 : Int32) : Prop :=
  ((36 ≤ x5.toInt → k313 S x3) ∧ (x5.toInt < 36 → ∃ n, lpn (w_X12_plainest_F121 post (w_X12_plainest_B287 post k111 k313)) (fun _ _ _ _ => False) n S x3 x5 0))

set_option maxHeartbeats 4000000 in
set_option maxRecDepth 100000 in
theorem z_X12_plainest_F111 {p : Program} {l : Launch} {e : Env} {R : Room} {s : State} {m : MethodId} {args : Array Value} {below : List Frame} {meth : Method} {c : Code} {D : va_G} {cy : Nat → ClassId} {T0 tB tE : Nat} {A : Nat → Prop} {a : Nat → Nat} {post : Int64 → GS → Prop} {k313 : GS → Int64 → Prop} {k111 : GS → Int64 → Int32 → Prop} (b : Bz p R s m args meth c D cy T0 tB tE A 9 cX12_plainest RX12 (some .long) "plainest" 2 47 0 0) (hk313 : ∀ (S : GS) (x3 : Int64), k313 S x3 → Z p l e R s m args below meth c D A 9 (MQ below (QL D (U := GS) post (mw cy a) A) args s 0 0 A) 0 0 (mw cy a S) [(3, .long x3)] 313 []) (hk111 : ∀ (S : GS) (x3 : Int64) (x5 : Int32), k111 S x3 x5 → Z p l e R s m args below meth c D A 9 (MQ below (QL D (U := GS) post (mw cy a) A) args s 0 0 A) 0 0 (mw cy a S) [(0, .ref (a 0)), (3, .long x3), (5, .int x5)] 111 []) (S : GS) (x3 : Int64) (x5 : Int32) (h : w_X12_plainest_F111 post k313 k111 S x3 x5) : Z p l e R s m args below meth c D A 9 (MQ below (QL D (U := GS) post (mw cy a) A) args s 0 0 A) 0 0 (mw cy a S) [(0, .ref (a 0)), (3, .long x3), (5, .int x5)] 111 [] := by
  unfold w_X12_plainest_F111 at h
  refine z_iload b dX12_plainest_111 rfl ?_
  refine z_bipush (v := 36) b dX12_plainest_113 (by decide) ?_
  refine y_icmp_ge (tgt := 313) (xl := x5.toInt) (yl := 36) b rfl (by decide) dX12_plainest_115 (by decide) (fun c1 => ?_) (fun c1 => ?_)
  · replace h := h.1 c1
    refine z_lv0 (lv' := [(3, .long x3)]) [1] rfl ?_
    exact hk313 _ _ h
  · replace h := h.2 c1
    refine z_iconst (v := 0) b dX12_plainest_118 (by decide) ?_
    refine z_istore (lv' := [(6, .int 0), (0, .ref (a 0)), (3, .long x3), (5, .int x5)]) b dX12_plainest_119 (by decide) rfl ?_
    refine z_lv0 (lv' := [(0, .ref (a 0)), (3, .long x3), (5, .int x5), (6, .int 0)]) [1, 2, 3, 0] rfl ?_
    obtain ⟨n, h⟩ := h
    exact zl_X12_plainest_L121 b (fun S x3 x5 h => z_X12_plainest_B287 b hk111 hk313 _ _ _ h) n _ _ _ _ h

set_option maxHeartbeats 4000000 in
set_option maxRecDepth 100000 in
theorem zl_X12_plainest_L111 {p : Program} {l : Launch} {e : Env} {R : Room} {s : State} {m : MethodId} {args : Array Value} {below : List Frame} {meth : Method} {c : Code} {D : va_G} {cy : Nat → ClassId} {T0 tB tE : Nat} {A : Nat → Prop} {a : Nat → Nat} {post : Int64 → GS → Prop} {k313 : GS → Int64 → Prop} (b : Bz p R s m args meth c D cy T0 tB tE A 9 cX12_plainest RX12 (some .long) "plainest" 2 47 0 0) (hk313 : ∀ (S : GS) (x3 : Int64), k313 S x3 → Z p l e R s m args below meth c D A 9 (MQ below (QL D (U := GS) post (mw cy a) A) args s 0 0 A) 0 0 (mw cy a S) [(3, .long x3)] 313 []) : ∀ (n : Nat) (S : GS) (x3 : Int64) (x5 : Int32), lpn (w_X12_plainest_F111 post k313) (fun _ _ _ => False) n S x3 x5 → Z p l e R s m args below meth c D A 9 (MQ below (QL D (U := GS) post (mw cy a) A) args s 0 0 A) 0 0 (mw cy a S) [(0, .ref (a 0)), (3, .long x3), (5, .int x5)] 111 [] := by
  intro n
  induction n with
  | zero => intro _ _ _ h; exact h.elim
  | succ n ih => intro S x3 x5 h; exact z_X12_plainest_F111 b hk313 ih S x3 x5 h

def w_X12_plainest_B313 (post : Int64 → GS → Prop) (S : GS) (x3 : Int64) : Prop :=
  post x3 S

set_option maxHeartbeats 4000000 in
set_option maxRecDepth 100000 in
theorem z_X12_plainest_B313 {p : Program} {l : Launch} {e : Env} {R : Room} {s : State} {m : MethodId} {args : Array Value} {below : List Frame} {meth : Method} {c : Code} {D : va_G} {cy : Nat → ClassId} {T0 tB tE : Nat} {A : Nat → Prop} {a : Nat → Nat} {post : Int64 → GS → Prop} (b : Bz p R s m args meth c D cy T0 tB tE A 9 cX12_plainest RX12 (some .long) "plainest" 2 47 0 0) (S : GS) (x3 : Int64) (h : w_X12_plainest_B313 post S x3) : Z p l e R s m args below meth c D A 9 (MQ below (QL D (U := GS) post (mw cy a) A) args s 0 0 A) 0 0 (mw cy a S) [(3, .long x3)] 313 [] := by
  unfold w_X12_plainest_B313 at h
  refine z_lload_n b dX12_plainest_313 rfl rfl ?_
  exact z_lret (u := S) b rfl dX12_plainest_314 h rfl (by decide) (by decide)

def w_X12_plainest_B108 (post : Int64 → GS → Prop) (S : GS) (x3 : Int64) : Prop :=
  ∃ n, lpn (w_X12_plainest_F111 post (w_X12_plainest_B313 post)) (fun _ _ _ => False) n S x3 0

set_option maxHeartbeats 4000000 in
set_option maxRecDepth 100000 in
theorem z_X12_plainest_B108 {p : Program} {l : Launch} {e : Env} {R : Room} {s : State} {m : MethodId} {args : Array Value} {below : List Frame} {meth : Method} {c : Code} {D : va_G} {cy : Nat → ClassId} {T0 tB tE : Nat} {A : Nat → Prop} {a : Nat → Nat} {post : Int64 → GS → Prop} (b : Bz p R s m args meth c D cy T0 tB tE A 9 cX12_plainest RX12 (some .long) "plainest" 2 47 0 0) (S : GS) (x3 : Int64) (h : w_X12_plainest_B108 post S x3) : Z p l e R s m args below meth c D A 9 (MQ below (QL D (U := GS) post (mw cy a) A) args s 0 0 A) 0 0 (mw cy a S) [(0, .ref (a 0)), (3, .long x3)] 108 [] := by
  unfold w_X12_plainest_B108 at h
  refine z_iconst (v := 0) b dX12_plainest_108 (by decide) ?_
  refine z_istore (lv' := [(5, .int 0), (0, .ref (a 0)), (3, .long x3)]) b dX12_plainest_109 (by decide) rfl ?_
  refine z_lv0 (lv' := [(0, .ref (a 0)), (3, .long x3), (5, .int 0)]) [1, 2, 0] rfl ?_
  obtain ⟨n, h⟩ := h
  exact zl_X12_plainest_L111 b (fun S x3 h => z_X12_plainest_B313 b _ _ h) n _ _ _ h

def w_X12_plainest_B50 (post : Int64 → GS → Prop) (S : GS) (x3 : Int64) : Prop :=
  ∃ n, lpn (w_X12_plainest_F53 post (w_X12_plainest_B108 post)) (fun _ _ _ => False) n S x3 0

set_option maxHeartbeats 4000000 in
set_option maxRecDepth 100000 in
theorem z_X12_plainest_B50 {p : Program} {l : Launch} {e : Env} {R : Room} {s : State} {m : MethodId} {args : Array Value} {below : List Frame} {meth : Method} {c : Code} {D : va_G} {cy : Nat → ClassId} {T0 tB tE : Nat} {A : Nat → Prop} {a : Nat → Nat} {post : Int64 → GS → Prop} (b : Bz p R s m args meth c D cy T0 tB tE A 9 cX12_plainest RX12 (some .long) "plainest" 2 47 0 0) (S : GS) (x3 : Int64) (h : w_X12_plainest_B50 post S x3) : Z p l e R s m args below meth c D A 9 (MQ below (QL D (U := GS) post (mw cy a) A) args s 0 0 A) 0 0 (mw cy a S) [(0, .ref (a 0)), (3, .long x3)] 50 [] := by
  unfold w_X12_plainest_B50 at h
  refine z_iconst (v := 0) b dX12_plainest_50 (by decide) ?_
  refine z_istore (lv' := [(5, .int 0), (0, .ref (a 0)), (3, .long x3)]) b dX12_plainest_51 (by decide) rfl ?_
  refine z_lv0 (lv' := [(0, .ref (a 0)), (3, .long x3), (5, .int 0)]) [1, 2, 0] rfl ?_
  obtain ⟨n, h⟩ := h
  exact zl_X12_plainest_L53 b (fun S x3 h => z_X12_plainest_B108 b _ _ h) n _ _ _ h

def w_X12_plainest (S : GS) (p0 : Int64) (post : Int64 → GS → Prop) : Prop :=
  w_X12_takes S p0 (fun S2 => ∃ n, lpn (w_X12_plainest_F10 post (w_X12_plainest_B50 post)) (fun _ _ _ => False) n S2 p0 0)

set_option maxHeartbeats 4000000 in
set_option maxRecDepth 100000 in
theorem k_X12_plainest {l : Launch} {D : va_G} {cy : Nat → ClassId} {T0 tB tE : Nat} {a : Nat → Nat} (S : GS) (p0 : Int64) (post : Int64 → GS → Prop) (h : w_X12_plainest S p0 post) : Ct l D cy T0 tB tE yX12_plainest cX12_plainest 9 (some .long) 2 47 0 0 (mw cy a S) [.ref (a 0), .long p0] (QL D (U := GS) post (mw cy a)) := by
  refine Ct.ofZ RX12 "plainest" [(0, .ref (a 0)), (1, .long p0)] rfl rfl rfl rfl (Nat.le_of_ble_eq_true rfl) ?_
  intro p e R s m args below meth c A b
  unfold w_X12_plainest at h
  refine z_lload_n b dX12_plainest_0 rfl rfl ?_
  refine z_lstore_n (lv' := [(3, .long p0), (0, .ref (a 0)), (1, .long p0)]) b dX12_plainest_1 rfl (by decide) rfl ?_
  refine z_aload_n b dX12_plainest_2 rfl rfl ?_
  refine z_lload_n b dX12_plainest_3 rfl rfl ?_
  refine z_callv b (z_runV (q0 := 0) (As := [.long p0]) (st := []) b (k_X12_takes S p0 _ h) cf_X12_takes (mw_0 cy a S) rfl wm_X12_174 wi_X12_takes ws_X12_takes dX12_plainest_4 rfl (Nat.le_of_ble_eq_true rfl) ⟨by decide, by decide, by decide, by decide⟩) (fun S2 h => ?_)
  refine z_iconst (v := 0) b dX12_plainest_7 (by decide) ?_
  refine z_istore (lv' := [(5, .int 0), (3, .long p0), (0, .ref (a 0)), (1, .long p0)]) b dX12_plainest_8 (by decide) rfl ?_
  refine z_lv0 (lv' := [(0, .ref (a 0)), (3, .long p0), (5, .int 0)]) [2, 1, 0] rfl ?_
  obtain ⟨n, h⟩ := h
  exact zl_X12_plainest_L10 b (fun S x3 h => z_X12_plainest_B50 b _ _ h) n _ _ _ h

def w_X12_met_B104 (post : Int32 → GS → Prop) (k74 : GS → Int32 → Int32 → Int64 → Int32 → Int32 → Prop) (k112 : GS → Int32 → Int32 → Int64 → Int32 → Prop) (S : GS) (x4 : Int32) (x5 : Int32) (x6 : Int64) (x9 : Int32) (y0 : Int32) : Prop :=
  k74 S x4 x5 x6 y0 (x9 + 1)

set_option maxHeartbeats 4000000 in
set_option maxRecDepth 100000 in
theorem z_X12_met_B104 {p : Program} {l : Launch} {e : Env} {R : Room} {s : State} {m : MethodId} {args : Array Value} {below : List Frame} {meth : Method} {c : Code} {D : va_G} {cy : Nat → ClassId} {T0 tB tE : Nat} {A : Nat → Prop} {a : Nat → Nat} {post : Int32 → GS → Prop} {k74 : GS → Int32 → Int32 → Int64 → Int32 → Int32 → Prop} {k112 : GS → Int32 → Int32 → Int64 → Int32 → Prop} (b : Bz p R s m args meth c D cy T0 tB tE A 10 cX12_met RX12 (some .int) "met" 6 164 0 0) (hk74 : ∀ (S : GS) (x4 : Int32) (x5 : Int32) (x6 : Int64) (x8 : Int32) (x9 : Int32), k74 S x4 x5 x6 x8 x9 → Z p l e R s m args below meth c D A 10 (MQ below (QI D (U := GS) post (mw cy a) A) args s 0 0 A) 0 0 (mw cy a S) [(0, .ref (a 0)), (4, .int x4), (5, .int x5), (6, .long x6), (8, .int x8), (9, .int x9)] 74 []) (hk112 : ∀ (S : GS) (x4 : Int32) (x5 : Int32) (x6 : Int64) (x8 : Int32), k112 S x4 x5 x6 x8 → Z p l e R s m args below meth c D A 10 (MQ below (QI D (U := GS) post (mw cy a) A) args s 0 0 A) 0 0 (mw cy a S) [(0, .ref (a 0)), (4, .int x4), (5, .int x5), (6, .long x6), (8, .int x8)] 112 []) (S : GS) (x4 : Int32) (x5 : Int32) (x6 : Int64) (x9 : Int32) (y0 : Int32) (h : w_X12_met_B104 post k74 k112 S x4 x5 x6 x9 y0) : Z p l e R s m args below meth c D A 10 (MQ below (QI D (U := GS) post (mw cy a) A) args s 0 0 A) 0 0 (mw cy a S) [(0, .ref (a 0)), (4, .int x4), (5, .int x5), (6, .long x6), (9, .int x9)] 104 [.int y0] := by
  unfold w_X12_met_B104 at h
  refine z_istore (lv' := [(8, .int y0), (0, .ref (a 0)), (4, .int x4), (5, .int x5), (6, .long x6), (9, .int x9)]) b dX12_met_104 (by decide) rfl ?_
  refine z_iinc (k9 := 5) (v := (x9 + 1)) (lv' := [(9, .int (x9 + 1)), (8, .int y0), (0, .ref (a 0)), (4, .int x4), (5, .int x5), (6, .long x6)]) b dX12_met_106 rfl rfl (by decide) rfl ?_
  refine z_goto (tgt := 74) b dX12_met_109 (by decide) ?_
  refine z_lv0 (lv' := [(0, .ref (a 0)), (4, .int x4), (5, .int x5), (6, .long x6), (8, .int y0), (9, .int (x9 + 1))]) [2, 3, 4, 5, 1, 0] rfl ?_
  exact hk74 _ _ _ _ _ _ h

def w_X12_met_F74 (post : Int32 → GS → Prop) (k112 : GS → Int32 → Int32 → Int64 → Int32 → Prop) (k74 : GS → Int32 → Int32 → Int64 → Int32 → Int32 → Prop) (S : GS) (x4 : Int32) (x5 : Int32) (x6 : Int64) (x8 : Int32) (x9 : Int32) : Prop :=
  ((x4.toInt ≤ x9.toInt → k112 S x4 x5 x6 x8) ∧ (x9.toInt < x4.toInt → ((x8.toInt = 0 → k112 S x4 x5 x6 x8) ∧ (x8.toInt ≠ 0 → (0 ≤ x9.toInt ∧ x9.toInt < 400) ∧ (((lg_cmp ((al S 1) x9.toNatClampNeg) x6).toInt = 0 → w_X12_met_B104 post k74 k112 S x4 x5 x6 x9 0) ∧ ((lg_cmp ((al S 1) x9.toNatClampNeg) x6).toInt ≠ 0 → w_X12_met_B104 post k74 k112 S x4 x5 x6 x9 1))))))

set_option maxHeartbeats 4000000 in
set_option maxRecDepth 100000 in
theorem z_X12_met_F74 {p : Program} {l : Launch} {e : Env} {R : Room} {s : State} {m : MethodId} {args : Array Value} {below : List Frame} {meth : Method} {c : Code} {D : va_G} {cy : Nat → ClassId} {T0 tB tE : Nat} {A : Nat → Prop} {a : Nat → Nat} {post : Int32 → GS → Prop} {k112 : GS → Int32 → Int32 → Int64 → Int32 → Prop} {k74 : GS → Int32 → Int32 → Int64 → Int32 → Int32 → Prop} (b : Bz p R s m args meth c D cy T0 tB tE A 10 cX12_met RX12 (some .int) "met" 6 164 0 0) (hk112 : ∀ (S : GS) (x4 : Int32) (x5 : Int32) (x6 : Int64) (x8 : Int32), k112 S x4 x5 x6 x8 → Z p l e R s m args below meth c D A 10 (MQ below (QI D (U := GS) post (mw cy a) A) args s 0 0 A) 0 0 (mw cy a S) [(0, .ref (a 0)), (4, .int x4), (5, .int x5), (6, .long x6), (8, .int x8)] 112 []) (hk74 : ∀ (S : GS) (x4 : Int32) (x5 : Int32) (x6 : Int64) (x8 : Int32) (x9 : Int32), k74 S x4 x5 x6 x8 x9 → Z p l e R s m args below meth c D A 10 (MQ below (QI D (U := GS) post (mw cy a) A) args s 0 0 A) 0 0 (mw cy a S) [(0, .ref (a 0)), (4, .int x4), (5, .int x5), (6, .long x6), (8, .int x8), (9, .int x9)] 74 []) (S : GS) (x4 : Int32) (x5 : Int32) (x6 : Int64) (x8 : Int32) (x9 : Int32) (h : w_X12_met_F74 post k112 k74 S x4 x5 x6 x8 x9) : Z p l e R s m args below meth c D A 10 (MQ below (QI D (U := GS) post (mw cy a) A) args s 0 0 A) 0 0 (mw cy a S) [(0, .ref (a 0)), (4, .int x4), (5, .int x5), (6, .long x6), (8, .int x8), (9, .int x9)] 74 [] := by
  unfold w_X12_met_F74 at h
  refine z_iload b dX12_met_74 rfl ?_
  refine z_iload b dX12_met_76 rfl ?_
  refine y_icmp_ge (tgt := 112) (xl := x9.toInt) (yl := x4.toInt) b rfl rfl dX12_met_78 (by decide) (fun c1 => ?_) (fun c1 => ?_)
  · replace h := h.1 c1
    refine z_lv0 (lv' := [(0, .ref (a 0)), (4, .int x4), (5, .int x5), (6, .long x6), (8, .int x8)]) [0, 1, 2, 3, 4] rfl ?_
    exact hk112 _ _ _ _ _ h
  · replace h := h.2 c1
    refine z_iload b dX12_met_81 rfl ?_
    refine y_if_eq (tgt := 112) (xl := x8.toInt) b rfl dX12_met_83 (by decide) (fun c1 => ?_) (fun c1 => ?_)
    · replace h := h.1 c1
      refine z_lv0 (lv' := [(0, .ref (a 0)), (4, .int x4), (5, .int x5), (6, .long x6), (8, .int x8)]) [0, 1, 2, 3, 4] rfl ?_
      exact hk112 _ _ _ _ _ h
    · replace h := h.2 c1
      refine z_aload_n b dX12_met_86 rfl rfl ?_
      refine z_get (q0 := 0) (k9 := 64) (v := .ref (a 39)) b (mw_0 cy a S) rfl in_X12 (by decide) wf_X12_134 rfl dX12_met_87 ?_
      refine z_iload b dX12_met_90 rfl ?_
      obtain ⟨g8, h⟩ := h
      refine y_lald (q0 := 39) (j := x9.toNatClampNeg) (v := ((al S 1) x9.toNatClampNeg)) b (mw_39 cy a S) (zx_r g8.1 g8.2) rfl dX12_met_92 ?_
      refine z_lload b dX12_met_93 rfl ?_
      refine z_lcmp b dX12_met_95 rfl ?_
      refine y_if_eq (tgt := 103) (xl := (lg_cmp ((al S 1) x9.toNatClampNeg) x6).toInt) b rfl dX12_met_96 (by decide) (fun c1 => ?_) (fun c1 => ?_)
      · replace h := h.1 c1
        refine z_iconst (v := 0) b dX12_met_103 (by decide) ?_
        refine z_lv0 (lv' := [(0, .ref (a 0)), (4, .int x4), (5, .int x5), (6, .long x6), (9, .int x9)]) [0, 1, 2, 3, 5] rfl ?_
        exact z_X12_met_B104 b hk74 hk112 _ _ _ _ _ _ h
      · replace h := h.2 c1
        refine z_iconst (v := 1) b dX12_met_99 (by decide) ?_
        refine z_goto (tgt := 104) b dX12_met_100 (by decide) ?_
        refine z_lv0 (lv' := [(0, .ref (a 0)), (4, .int x4), (5, .int x5), (6, .long x6), (9, .int x9)]) [0, 1, 2, 3, 5] rfl ?_
        exact z_X12_met_B104 b hk74 hk112 _ _ _ _ _ _ h

set_option maxHeartbeats 4000000 in
set_option maxRecDepth 100000 in
theorem zl_X12_met_L74 {p : Program} {l : Launch} {e : Env} {R : Room} {s : State} {m : MethodId} {args : Array Value} {below : List Frame} {meth : Method} {c : Code} {D : va_G} {cy : Nat → ClassId} {T0 tB tE : Nat} {A : Nat → Prop} {a : Nat → Nat} {post : Int32 → GS → Prop} {k112 : GS → Int32 → Int32 → Int64 → Int32 → Prop} (b : Bz p R s m args meth c D cy T0 tB tE A 10 cX12_met RX12 (some .int) "met" 6 164 0 0) (hk112 : ∀ (S : GS) (x4 : Int32) (x5 : Int32) (x6 : Int64) (x8 : Int32), k112 S x4 x5 x6 x8 → Z p l e R s m args below meth c D A 10 (MQ below (QI D (U := GS) post (mw cy a) A) args s 0 0 A) 0 0 (mw cy a S) [(0, .ref (a 0)), (4, .int x4), (5, .int x5), (6, .long x6), (8, .int x8)] 112 []) : ∀ (n : Nat) (S : GS) (x4 : Int32) (x5 : Int32) (x6 : Int64) (x8 : Int32) (x9 : Int32), lpn (w_X12_met_F74 post k112) (fun _ _ _ _ _ _ => False) n S x4 x5 x6 x8 x9 → Z p l e R s m args below meth c D A 10 (MQ below (QI D (U := GS) post (mw cy a) A) args s 0 0 A) 0 0 (mw cy a S) [(0, .ref (a 0)), (4, .int x4), (5, .int x5), (6, .long x6), (8, .int x8), (9, .int x9)] 74 [] := by
  intro n
  induction n with
  | zero => intro _ _ _ _ _ _ h; exact h.elim
  | succ n ih => intro S x4 x5 x6 x8 x9 h; exact z_X12_met_F74 b hk112 ih S x4 x5 x6 x8 x9 h

def w_X12_met_B132 (post : Int32 → GS → Prop) (k46 : GS → Int32 → Int32 → Prop) (k138 : GS → Int32 → Prop) (S : GS) (x4 : Int32) (x5 : Int32) : Prop :=
  k46 S x4 (x5 + 1)

set_option maxHeartbeats 4000000 in
set_option maxRecDepth 100000 in
theorem z_X12_met_B132 {p : Program} {l : Launch} {e : Env} {R : Room} {s : State} {m : MethodId} {args : Array Value} {below : List Frame} {meth : Method} {c : Code} {D : va_G} {cy : Nat → ClassId} {T0 tB tE : Nat} {A : Nat → Prop} {a : Nat → Nat} {post : Int32 → GS → Prop} {k46 : GS → Int32 → Int32 → Prop} {k138 : GS → Int32 → Prop} (b : Bz p R s m args meth c D cy T0 tB tE A 10 cX12_met RX12 (some .int) "met" 6 164 0 0) (hk46 : ∀ (S : GS) (x4 : Int32) (x5 : Int32), k46 S x4 x5 → Z p l e R s m args below meth c D A 10 (MQ below (QI D (U := GS) post (mw cy a) A) args s 0 0 A) 0 0 (mw cy a S) [(0, .ref (a 0)), (4, .int x4), (5, .int x5)] 46 []) (hk138 : ∀ (S : GS) (x4 : Int32), k138 S x4 → Z p l e R s m args below meth c D A 10 (MQ below (QI D (U := GS) post (mw cy a) A) args s 0 0 A) 0 0 (mw cy a S) [(4, .int x4)] 138 []) (S : GS) (x4 : Int32) (x5 : Int32) (h : w_X12_met_B132 post k46 k138 S x4 x5) : Z p l e R s m args below meth c D A 10 (MQ below (QI D (U := GS) post (mw cy a) A) args s 0 0 A) 0 0 (mw cy a S) [(0, .ref (a 0)), (4, .int x4), (5, .int x5)] 132 [] := by
  unfold w_X12_met_B132 at h
  refine z_iinc (k9 := 2) (v := (x5 + 1)) (lv' := [(5, .int (x5 + 1)), (0, .ref (a 0)), (4, .int x4)]) b dX12_met_132 rfl rfl (by decide) rfl ?_
  refine z_goto (tgt := 46) b dX12_met_135 (by decide) ?_
  refine z_lv0 (lv' := [(0, .ref (a 0)), (4, .int x4), (5, .int (x5 + 1))]) [1, 2, 0] rfl ?_
  exact hk46 _ _ _ h

def w_X12_met_B112 (post : Int32 → GS → Prop) (k46 : GS → Int32 → Int32 → Prop) (k138 : GS → Int32 → Prop) (S : GS) (x4 : Int32) (x5 : Int32) (x6 : Int64) (x8 : Int32) : Prop :=
  ((x8.toInt ≠ 0 → (0 ≤ x4.toInt ∧ x4.toInt < 400) ∧ w_X12_met_B132 post k46 k138 (sv S 1 (x4.toNatClampNeg) x6) (x4 + 1) x5) ∧ (x8.toInt = 0 → w_X12_met_B132 post k46 k138 S x4 x5))

set_option maxHeartbeats 4000000 in
set_option maxRecDepth 100000 in
theorem z_X12_met_B112 {p : Program} {l : Launch} {e : Env} {R : Room} {s : State} {m : MethodId} {args : Array Value} {below : List Frame} {meth : Method} {c : Code} {D : va_G} {cy : Nat → ClassId} {T0 tB tE : Nat} {A : Nat → Prop} {a : Nat → Nat} {post : Int32 → GS → Prop} {k46 : GS → Int32 → Int32 → Prop} {k138 : GS → Int32 → Prop} (b : Bz p R s m args meth c D cy T0 tB tE A 10 cX12_met RX12 (some .int) "met" 6 164 0 0) (hk46 : ∀ (S : GS) (x4 : Int32) (x5 : Int32), k46 S x4 x5 → Z p l e R s m args below meth c D A 10 (MQ below (QI D (U := GS) post (mw cy a) A) args s 0 0 A) 0 0 (mw cy a S) [(0, .ref (a 0)), (4, .int x4), (5, .int x5)] 46 []) (hk138 : ∀ (S : GS) (x4 : Int32), k138 S x4 → Z p l e R s m args below meth c D A 10 (MQ below (QI D (U := GS) post (mw cy a) A) args s 0 0 A) 0 0 (mw cy a S) [(4, .int x4)] 138 []) (S : GS) (x4 : Int32) (x5 : Int32) (x6 : Int64) (x8 : Int32) (h : w_X12_met_B112 post k46 k138 S x4 x5 x6 x8) : Z p l e R s m args below meth c D A 10 (MQ below (QI D (U := GS) post (mw cy a) A) args s 0 0 A) 0 0 (mw cy a S) [(0, .ref (a 0)), (4, .int x4), (5, .int x5), (6, .long x6), (8, .int x8)] 112 [] := by
  unfold w_X12_met_B112 at h
  refine z_iload b dX12_met_112 rfl ?_
  refine y_if_ne (tgt := 120) (xl := x8.toInt) b rfl dX12_met_114 (by decide) (fun c1 => ?_) (fun c1 => ?_)
  · replace h := h.1 c1
    refine z_aload_n b dX12_met_120 rfl rfl ?_
    refine z_get (q0 := 0) (k9 := 64) (v := .ref (a 39)) b (mw_0 cy a S) rfl in_X12 (by decide) wf_X12_134 rfl dX12_met_121 ?_
    refine z_iload b dX12_met_124 rfl ?_
    refine z_lload b dX12_met_126 rfl ?_
    obtain ⟨g9, h⟩ := h
    refine y_last (q0 := 39) (j := x4.toNatClampNeg) b (mw_39 cy a S) (zx_r g9.1 g9.2) dX12_met_128 (mwa_39 cy a S (x4.toNatClampNeg) x6) ?_
    refine z_iinc (k9 := 1) (v := (x4 + 1)) (lv' := [(4, .int (x4 + 1)), (0, .ref (a 0)), (5, .int x5), (6, .long x6), (8, .int x8)]) b dX12_met_129 rfl rfl (by decide) rfl ?_
    refine z_lv0 (lv' := [(0, .ref (a 0)), (4, .int (x4 + 1)), (5, .int x5)]) [1, 0, 2] rfl ?_
    exact z_X12_met_B132 b hk46 hk138 _ _ _ h
  · replace h := h.2 c1
    refine z_goto (tgt := 132) b dX12_met_117 (by decide) ?_
    refine z_lv0 (lv' := [(0, .ref (a 0)), (4, .int x4), (5, .int x5)]) [0, 1, 2] rfl ?_
    exact z_X12_met_B132 b hk46 hk138 _ _ _ h

def w_X12_met_F46 (post : Int32 → GS → Prop) (k138 : GS → Int32 → Prop) (k46 : GS → Int32 → Int32 → Prop) (S : GS) (x4 : Int32) (x5 : Int32) : Prop :=
  (((fi S 21).toInt ≤ x5.toInt → k138 S x4) ∧ (x5.toInt < (fi S 21).toInt → (0 ≤ x5.toInt ∧ x5.toInt < 400) ∧ w_X12_plainest S ((al S 0) x5.toNatClampNeg) (fun r6 S7 => ∃ n, lpn (w_X12_met_F74 post (w_X12_met_B112 post k46 k138)) (fun _ _ _ _ _ _ => False) n S7 x4 x5 r6 1 0)))

set_option maxHeartbeats 4000000 in
set_option maxRecDepth 100000 in
theorem z_X12_met_F46 {p : Program} {l : Launch} {e : Env} {R : Room} {s : State} {m : MethodId} {args : Array Value} {below : List Frame} {meth : Method} {c : Code} {D : va_G} {cy : Nat → ClassId} {T0 tB tE : Nat} {A : Nat → Prop} {a : Nat → Nat} {post : Int32 → GS → Prop} {k138 : GS → Int32 → Prop} {k46 : GS → Int32 → Int32 → Prop} (b : Bz p R s m args meth c D cy T0 tB tE A 10 cX12_met RX12 (some .int) "met" 6 164 0 0) (hk138 : ∀ (S : GS) (x4 : Int32), k138 S x4 → Z p l e R s m args below meth c D A 10 (MQ below (QI D (U := GS) post (mw cy a) A) args s 0 0 A) 0 0 (mw cy a S) [(4, .int x4)] 138 []) (hk46 : ∀ (S : GS) (x4 : Int32) (x5 : Int32), k46 S x4 x5 → Z p l e R s m args below meth c D A 10 (MQ below (QI D (U := GS) post (mw cy a) A) args s 0 0 A) 0 0 (mw cy a S) [(0, .ref (a 0)), (4, .int x4), (5, .int x5)] 46 []) (S : GS) (x4 : Int32) (x5 : Int32) (h : w_X12_met_F46 post k138 k46 S x4 x5) : Z p l e R s m args below meth c D A 10 (MQ below (QI D (U := GS) post (mw cy a) A) args s 0 0 A) 0 0 (mw cy a S) [(0, .ref (a 0)), (4, .int x4), (5, .int x5)] 46 [] := by
  unfold w_X12_met_F46 at h
  refine z_iload b dX12_met_46 rfl ?_
  refine z_aload_n b dX12_met_48 rfl rfl ?_
  refine z_get (q0 := 0) (k9 := 55) (v := .int (fi S 21)) b (mw_0 cy a S) rfl in_X12 (by decide) wf_X12_405 rfl dX12_met_49 ?_
  refine y_icmp_ge (tgt := 138) (xl := x5.toInt) (yl := (fi S 21).toInt) b rfl rfl dX12_met_52 (by decide) (fun c1 => ?_) (fun c1 => ?_)
  · replace h := h.1 c1
    refine z_lv0 (lv' := [(4, .int x4)]) [1] rfl ?_
    exact hk138 _ _ h
  · replace h := h.2 c1
    refine z_aload_n b dX12_met_55 rfl rfl ?_
    refine z_aload_n b dX12_met_56 rfl rfl ?_
    refine z_get (q0 := 0) (k9 := 49) (v := .ref (a 27)) b (mw_0 cy a S) rfl in_X12 (by decide) wf_X12_97 rfl dX12_met_57 ?_
    refine z_iload b dX12_met_60 rfl ?_
    obtain ⟨g5, h⟩ := h
    refine y_lald (q0 := 27) (j := x5.toNatClampNeg) (v := ((al S 0) x5.toNatClampNeg)) b (mw_27 cy a S) (zx_r g5.1 g5.2) rfl dX12_met_62 ?_
    refine z_calll b (z_runV (q0 := 0) (As := [.long ((al S 0) x5.toNatClampNeg)]) (st := []) b (k_X12_plainest S ((al S 0) x5.toNatClampNeg) _ h) cf_X12_plainest (mw_0 cy a S) rfl wm_X12_448 wi_X12_plainest ws_X12_plainest dX12_met_63 rfl (Nat.le_of_ble_eq_true rfl) ⟨by decide, by decide, by decide, by decide⟩) (fun r6 S7 h => ?_)
    refine z_lstore (lv' := [(6, .long r6), (0, .ref (a 0)), (4, .int x4), (5, .int x5)]) b dX12_met_66 (by decide) rfl ?_
    refine z_iconst (v := 1) b dX12_met_68 (by decide) ?_
    refine z_istore (lv' := [(8, .int 1), (6, .long r6), (0, .ref (a 0)), (4, .int x4), (5, .int x5)]) b dX12_met_69 (by decide) rfl ?_
    refine z_iconst (v := 0) b dX12_met_71 (by decide) ?_
    refine z_istore (lv' := [(9, .int 0), (8, .int 1), (6, .long r6), (0, .ref (a 0)), (4, .int x4), (5, .int x5)]) b dX12_met_72 (by decide) rfl ?_
    refine z_lv0 (lv' := [(0, .ref (a 0)), (4, .int x4), (5, .int x5), (6, .long r6), (8, .int 1), (9, .int 0)]) [3, 4, 5, 2, 1, 0] rfl ?_
    obtain ⟨n, h⟩ := h
    exact zl_X12_met_L74 b (fun S x4 x5 x6 x8 h => z_X12_met_B112 b hk46 hk138 _ _ _ _ _ h) n _ _ _ _ _ _ h

set_option maxHeartbeats 4000000 in
set_option maxRecDepth 100000 in
theorem zl_X12_met_L46 {p : Program} {l : Launch} {e : Env} {R : Room} {s : State} {m : MethodId} {args : Array Value} {below : List Frame} {meth : Method} {c : Code} {D : va_G} {cy : Nat → ClassId} {T0 tB tE : Nat} {A : Nat → Prop} {a : Nat → Nat} {post : Int32 → GS → Prop} {k138 : GS → Int32 → Prop} (b : Bz p R s m args meth c D cy T0 tB tE A 10 cX12_met RX12 (some .int) "met" 6 164 0 0) (hk138 : ∀ (S : GS) (x4 : Int32), k138 S x4 → Z p l e R s m args below meth c D A 10 (MQ below (QI D (U := GS) post (mw cy a) A) args s 0 0 A) 0 0 (mw cy a S) [(4, .int x4)] 138 []) : ∀ (n : Nat) (S : GS) (x4 : Int32) (x5 : Int32), lpn (w_X12_met_F46 post k138) (fun _ _ _ => False) n S x4 x5 → Z p l e R s m args below meth c D A 10 (MQ below (QI D (U := GS) post (mw cy a) A) args s 0 0 A) 0 0 (mw cy a S) [(0, .ref (a 0)), (4, .int x4), (5, .int x5)] 46 [] := by
  intro n
  induction n with
  | zero => intro _ _ _ h; exact h.elim
  | succ n ih => intro S x4 x5 h; exact z_X12_met_F46 b hk138 ih S x4 x5 h

def w_X12_met_B138 (post : Int32 → GS → Prop) (S : GS) (x4 : Int32) : Prop :=
  post x4 S

set_option maxHeartbeats 4000000 in
set_option maxRecDepth 100000 in
theorem z_X12_met_B138 {p : Program} {l : Launch} {e : Env} {R : Room} {s : State} {m : MethodId} {args : Array Value} {below : List Frame} {meth : Method} {c : Code} {D : va_G} {cy : Nat → ClassId} {T0 tB tE : Nat} {A : Nat → Prop} {a : Nat → Nat} {post : Int32 → GS → Prop} (b : Bz p R s m args meth c D cy T0 tB tE A 10 cX12_met RX12 (some .int) "met" 6 164 0 0) (S : GS) (x4 : Int32) (h : w_X12_met_B138 post S x4) : Z p l e R s m args below meth c D A 10 (MQ below (QI D (U := GS) post (mw cy a) A) args s 0 0 A) 0 0 (mw cy a S) [(4, .int x4)] 138 [] := by
  unfold w_X12_met_B138 at h
  refine z_iload b dX12_met_138 rfl ?_
  exact z_iret (u := S) b rfl dX12_met_140 h rfl (by decide) (by decide)

def w_X12_met (S : GS) (p0 : Int32) (p1 : Int32) (p2 : Int32) (post : Int32 → GS → Prop) : Prop :=
  w_X12_canSearch S p0 p1 (fun r1 S2 => ((r1.toInt ≠ 0 → w_X12_searches S2 (-1) p0 p1 7 0 (fun S4 => (((fi S4 23).toInt = 0 → ((p2.toInt ≠ 0 → ∃ n, lpn (w_X12_met_F46 post (w_X12_met_B138 post)) (fun _ _ _ => False) n S4 0 0) ∧ (p2.toInt = 0 → post (fi S4 21) S4))) ∧ ((fi S4 23).toInt ≠ 0 → post (-2) S4)))) ∧ (r1.toInt = 0 → post (-1) S2)))

set_option maxHeartbeats 4000000 in
set_option maxRecDepth 100000 in
theorem k_X12_met {l : Launch} {D : va_G} {cy : Nat → ClassId} {T0 tB tE : Nat} {a : Nat → Nat} (S : GS) (p0 : Int32) (p1 : Int32) (p2 : Int32) (post : Int32 → GS → Prop) (h : w_X12_met S p0 p1 p2 post) : Ct l D cy T0 tB tE yX12_met cX12_met 10 (some .int) 6 164 0 0 (mw cy a S) [.ref (a 0), .int p0, .int p1, .int p2] (QI D (U := GS) post (mw cy a)) := by
  refine Ct.ofZ RX12 "met" [(0, .ref (a 0)), (1, .int p0), (2, .int p1), (3, .int p2)] rfl rfl rfl rfl (Nat.le_of_ble_eq_true rfl) ?_
  intro p e R s m args below meth c A b
  unfold w_X12_met at h
  refine z_aload_n b dX12_met_0 rfl rfl ?_
  refine z_iload_n b dX12_met_1 rfl rfl ?_
  refine z_iload_n b dX12_met_2 rfl rfl ?_
  refine z_calli b (z_runV (q0 := 0) (As := [.int p0, .int p1]) (st := []) b (k_X12_canSearch S p0 p1 _ h) cf_X12_canSearch (mw_0 cy a S) rfl wm_X12_433 wi_X12_canSearch ws_X12_canSearch dX12_met_3 rfl (Nat.le_of_ble_eq_true rfl) ⟨by decide, by decide, by decide, by decide⟩) (fun r1 S2 h => ?_)
  refine y_if_ne (tgt := 11) (xl := r1.toInt) b rfl dX12_met_6 (by decide) (fun c1 => ?_) (fun c1 => ?_)
  · replace h := h.1 c1
    refine z_aload_n b dX12_met_11 rfl rfl ?_
    refine z_iconst (v := (-1)) b dX12_met_12 (by decide) ?_
    refine z_iload_n b dX12_met_13 rfl rfl ?_
    refine z_iload_n b dX12_met_14 rfl rfl ?_
    refine z_bipush (v := 7) b dX12_met_15 (by decide) ?_
    refine z_iconst (v := 0) b dX12_met_17 (by decide) ?_
    refine z_callv b (z_runV (q0 := 0) (As := [.int (-1), .int p0, .int p1, .int 7, .int 0]) (st := []) b (k_X12_searches S2 (-1) p0 p1 7 0 _ h) cf_X12_searches (mw_0 cy a S2) rfl wm_X12_436 wi_X12_searches ws_X12_searches dX12_met_18 rfl (Nat.le_of_ble_eq_true rfl) ⟨by decide, by decide, by decide, by decide⟩) (fun S4 h => ?_)
    refine z_aload_n b dX12_met_21 rfl rfl ?_
    refine z_get (q0 := 0) (k9 := 57) (v := .int (fi S4 23)) b (mw_0 cy a S4) rfl in_X12 (by decide) wf_X12_408 rfl dX12_met_22 ?_
    refine y_if_eq (tgt := 31) (xl := (fi S4 23).toInt) b rfl dX12_met_25 (by decide) (fun c1 => ?_) (fun c1 => ?_)
    · replace h := h.1 c1
      refine z_iload_n b dX12_met_31 rfl rfl ?_
      refine y_if_ne (tgt := 40) (xl := p2.toInt) b rfl dX12_met_32 (by decide) (fun c1 => ?_) (fun c1 => ?_)
      · replace h := h.1 c1
        refine z_iconst (v := 0) b dX12_met_40 (by decide) ?_
        refine z_istore (lv' := [(4, .int 0), (0, .ref (a 0)), (1, .int p0), (2, .int p1), (3, .int p2)]) b dX12_met_41 (by decide) rfl ?_
        refine z_iconst (v := 0) b dX12_met_43 (by decide) ?_
        refine z_istore (lv' := [(5, .int 0), (4, .int 0), (0, .ref (a 0)), (1, .int p0), (2, .int p1), (3, .int p2)]) b dX12_met_44 (by decide) rfl ?_
        refine z_lv0 (lv' := [(0, .ref (a 0)), (4, .int 0), (5, .int 0)]) [2, 1, 0] rfl ?_
        obtain ⟨n, h⟩ := h
        exact zl_X12_met_L46 b (fun S x4 h => z_X12_met_B138 b _ _ h) n _ _ _ h
      · replace h := h.2 c1
        refine z_aload_n b dX12_met_35 rfl rfl ?_
        refine z_get (q0 := 0) (k9 := 55) (v := .int (fi S4 21)) b (mw_0 cy a S4) rfl in_X12 (by decide) wf_X12_405 rfl dX12_met_36 ?_
        exact z_iret (u := S4) b rfl dX12_met_39 h rfl (by decide) (by decide)
    · replace h := h.2 c1
      refine z_bipush (v := (-2)) b dX12_met_28 (by decide) ?_
      exact z_iret (u := S4) b rfl dX12_met_30 h rfl (by decide) (by decide)
  · replace h := h.2 c1
    refine z_iconst (v := (-1)) b dX12_met_9 (by decide) ?_
    exact z_iret (u := S2) b rfl dX12_met_10 h rfl (by decide) (by decide)

def w_X12_hole_B46 (post : Int32 → GS → Prop) (S : GS)  : Prop :=
  post (-1) S

set_option maxHeartbeats 4000000 in
set_option maxRecDepth 100000 in
theorem z_X12_hole_B46 {p : Program} {l : Launch} {e : Env} {R : Room} {s : State} {m : MethodId} {args : Array Value} {below : List Frame} {meth : Method} {c : Code} {D : va_G} {cy : Nat → ClassId} {T0 tB tE : Nat} {A : Nat → Prop} {a : Nat → Nat} {post : Int32 → GS → Prop} (b : Bz p R s m args meth c D cy T0 tB tE A 6 cX12_hole RX12 (some .int) "hole" 6 164 0 0) (S : GS)  (h : w_X12_hole_B46 post S ) : Z p l e R s m args below meth c D A 6 (MQ below (QI D (U := GS) post (mw cy a) A) args s 0 0 A) 0 0 (mw cy a S) [] 46 [] := by
  unfold w_X12_hole_B46 at h
  refine z_iconst (v := (-1)) b dX12_hole_46 (by decide) ?_
  exact z_iret (u := S) b rfl dX12_hole_47 h rfl (by decide) (by decide)

def w_X12_hole_B151 (post : Int32 → GS → Prop) (S : GS) (y0 : Int32) : Prop :=
  post y0 S

set_option maxHeartbeats 4000000 in
set_option maxRecDepth 100000 in
theorem z_X12_hole_B151 {p : Program} {l : Launch} {e : Env} {R : Room} {s : State} {m : MethodId} {args : Array Value} {below : List Frame} {meth : Method} {c : Code} {D : va_G} {cy : Nat → ClassId} {T0 tB tE : Nat} {A : Nat → Prop} {a : Nat → Nat} {post : Int32 → GS → Prop} (b : Bz p R s m args meth c D cy T0 tB tE A 6 cX12_hole RX12 (some .int) "hole" 6 164 0 0) (S : GS) (y0 : Int32) (h : w_X12_hole_B151 post S y0) : Z p l e R s m args below meth c D A 6 (MQ below (QI D (U := GS) post (mw cy a) A) args s 0 0 A) 0 0 (mw cy a S) [] 151 [.int y0] := by
  unfold w_X12_hole_B151 at h
  exact z_iret (u := S) b rfl dX12_hole_151 h rfl (by decide) (by decide)

def w_X12_hole_B93 (post : Int32 → GS → Prop) (S : GS) (y0 : Int32) : Prop :=
  post y0 S

set_option maxHeartbeats 4000000 in
set_option maxRecDepth 100000 in
theorem z_X12_hole_B93 {p : Program} {l : Launch} {e : Env} {R : Room} {s : State} {m : MethodId} {args : Array Value} {below : List Frame} {meth : Method} {c : Code} {D : va_G} {cy : Nat → ClassId} {T0 tB tE : Nat} {A : Nat → Prop} {a : Nat → Nat} {post : Int32 → GS → Prop} (b : Bz p R s m args meth c D cy T0 tB tE A 6 cX12_hole RX12 (some .int) "hole" 6 164 0 0) (S : GS) (y0 : Int32) (h : w_X12_hole_B93 post S y0) : Z p l e R s m args below meth c D A 6 (MQ below (QI D (U := GS) post (mw cy a) A) args s 0 0 A) 0 0 (mw cy a S) [] 93 [.int y0] := by
  unfold w_X12_hole_B93 at h
  exact z_iret (u := S) b rfl dX12_hole_93 h rfl (by decide) (by decide)

def w_X12_hole_B48 (post : Int32 → GS → Prop) (S : GS) (x1 : Int32) (x2 : Int32) (x3 : Int32) (x4 : Int32) (x5 : Int32) : Prop :=
  w_X12_searches S x1 x2 x3 x4 0 (fun S8 => (((fi S8 22).toInt ≠ (-1) → ((x5.toInt ≠ 20 → ((x5.toInt ≠ 0 → (0 ≤ (fi S8 22).toInt ∧ (fi S8 22).toInt < 400) ∧ ((((ar S8 28) (fi S8 22).toNatClampNeg).toInt < x5.toInt → w_X12_hole_B151 post S8 (-1)) ∧ (x5.toInt ≤ ((ar S8 28) (fi S8 22).toNatClampNeg).toInt → w_X12_codeOf S8 (fi S8 22) (x5 - 1) (fun r10 S11 => w_X12_hole_B151 post S11 r10)))) ∧ (x5.toInt = 0 → (0 ≤ (fi S8 22).toInt ∧ (fi S8 22).toInt < 400) ∧ post ((ar S8 28) (fi S8 22).toNatClampNeg) S8))) ∧ (x5.toInt = 20 → post (fi S8 21) S8))) ∧ ((fi S8 22).toInt = (-1) → ((x5.toInt ≠ 20 → (((fi S8 23).toInt = 0 → w_X12_hole_B93 post S8 (-1)) ∧ ((fi S8 23).toInt ≠ 0 → w_X12_hole_B93 post S8 (-2)))) ∧ (x5.toInt = 20 → w_X12_hole_B93 post S8 (fi S8 21))))))

set_option maxHeartbeats 4000000 in
set_option maxRecDepth 100000 in
theorem z_X12_hole_B48 {p : Program} {l : Launch} {e : Env} {R : Room} {s : State} {m : MethodId} {args : Array Value} {below : List Frame} {meth : Method} {c : Code} {D : va_G} {cy : Nat → ClassId} {T0 tB tE : Nat} {A : Nat → Prop} {a : Nat → Nat} {post : Int32 → GS → Prop} (b : Bz p R s m args meth c D cy T0 tB tE A 6 cX12_hole RX12 (some .int) "hole" 6 164 0 0) (S : GS) (x1 : Int32) (x2 : Int32) (x3 : Int32) (x4 : Int32) (x5 : Int32) (h : w_X12_hole_B48 post S x1 x2 x3 x4 x5) : Z p l e R s m args below meth c D A 6 (MQ below (QI D (U := GS) post (mw cy a) A) args s 0 0 A) 0 0 (mw cy a S) [(0, .ref (a 0)), (1, .int x1), (2, .int x2), (3, .int x3), (4, .int x4), (5, .int x5)] 48 [] := by
  unfold w_X12_hole_B48 at h
  refine z_aload_n b dX12_hole_48 rfl rfl ?_
  refine z_iload_n b dX12_hole_49 rfl rfl ?_
  refine z_iload_n b dX12_hole_50 rfl rfl ?_
  refine z_iload_n b dX12_hole_51 rfl rfl ?_
  refine z_iload b dX12_hole_52 rfl ?_
  refine z_iconst (v := 0) b dX12_hole_54 (by decide) ?_
  refine z_callv b (z_runV (q0 := 0) (As := [.int x1, .int x2, .int x3, .int x4, .int 0]) (st := []) b (k_X12_searches S x1 x2 x3 x4 0 _ h) cf_X12_searches (mw_0 cy a S) rfl wm_X12_436 wi_X12_searches ws_X12_searches dX12_hole_55 rfl (Nat.le_of_ble_eq_true rfl) ⟨by decide, by decide, by decide, by decide⟩) (fun S8 h => ?_)
  refine z_aload_n b dX12_hole_58 rfl rfl ?_
  refine z_get (q0 := 0) (k9 := 56) (v := .int (fi S8 22)) b (mw_0 cy a S8) rfl in_X12 (by decide) wf_X12_411 rfl dX12_hole_59 ?_
  refine z_iconst (v := (-1)) b dX12_hole_62 (by decide) ?_
  refine y_icmp_ne (tgt := 94) (xl := (fi S8 22).toInt) (yl := (-1)) b rfl (by decide) dX12_hole_63 (by decide) (fun c1 => ?_) (fun c1 => ?_)
  · replace h := h.1 c1
    refine z_iload b dX12_hole_94 rfl ?_
    refine z_bipush (v := 20) b dX12_hole_96 (by decide) ?_
    refine y_icmp_ne (tgt := 106) (xl := x5.toInt) (yl := 20) b rfl (by decide) dX12_hole_98 (by decide) (fun c1 => ?_) (fun c1 => ?_)
    · replace h := h.1 c1
      refine z_iload b dX12_hole_106 rfl ?_
      refine y_if_ne (tgt := 121) (xl := x5.toInt) b rfl dX12_hole_108 (by decide) (fun c1 => ?_) (fun c1 => ?_)
      · replace h := h.1 c1
        refine z_iload b dX12_hole_121 rfl ?_
        refine z_aload_n b dX12_hole_123 rfl rfl ?_
        refine z_get (q0 := 0) (k9 := 52) (v := .ref (a 30)) b (mw_0 cy a S8) rfl in_X12 (by decide) wf_X12_107 rfl dX12_hole_124 ?_
        refine z_aload_n b dX12_hole_127 rfl rfl ?_
        refine z_get (q0 := 0) (k9 := 56) (v := .int (fi S8 22)) b (mw_0 cy a S8) rfl in_X12 (by decide) wf_X12_411 rfl dX12_hole_128 ?_
        obtain ⟨g9, h⟩ := h
        refine y_iald (q0 := 30) (j := (fi S8 22).toNatClampNeg) (v := ((ar S8 28) (fi S8 22).toNatClampNeg)) b (mw_30 cy a S8) (zx_r g9.1 g9.2) rfl dX12_hole_131 ?_
        refine y_icmp_gt (tgt := 150) (xl := x5.toInt) (yl := ((ar S8 28) (fi S8 22).toNatClampNeg).toInt) b rfl rfl dX12_hole_132 (by decide) (fun c1 => ?_) (fun c1 => ?_)
        · replace h := h.1 c1
          refine z_iconst (v := (-1)) b dX12_hole_150 (by decide) ?_
          refine z_lv0 (lv' := []) [] rfl ?_
          exact z_X12_hole_B151 b _ _ h
        · replace h := h.2 c1
          refine z_aload_n b dX12_hole_135 rfl rfl ?_
          refine z_aload_n b dX12_hole_136 rfl rfl ?_
          refine z_get (q0 := 0) (k9 := 56) (v := .int (fi S8 22)) b (mw_0 cy a S8) rfl in_X12 (by decide) wf_X12_411 rfl dX12_hole_137 ?_
          refine z_iload b dX12_hole_140 rfl ?_
          refine z_iconst (v := 1) b dX12_hole_142 (by decide) ?_
          refine z_isub b dX12_hole_143 rfl ?_
          refine z_calli b (z_runV (q0 := 0) (As := [.int (fi S8 22), .int (x5 - 1)]) (st := []) b (k_X12_codeOf S8 (fi S8 22) (x5 - 1) _ h) cf_X12_codeOf (mw_0 cy a S8) rfl wm_X12_439 wi_X12_codeOf ws_X12_codeOf dX12_hole_144 rfl (Nat.le_of_ble_eq_true rfl) ⟨by decide, by decide, by decide, by decide⟩) (fun r10 S11 h => ?_)
          refine z_goto (tgt := 151) b dX12_hole_147 (by decide) ?_
          refine z_lv0 (lv' := []) [] rfl ?_
          exact z_X12_hole_B151 b _ _ h
      · replace h := h.2 c1
        refine z_aload_n b dX12_hole_111 rfl rfl ?_
        refine z_get (q0 := 0) (k9 := 52) (v := .ref (a 30)) b (mw_0 cy a S8) rfl in_X12 (by decide) wf_X12_107 rfl dX12_hole_112 ?_
        refine z_aload_n b dX12_hole_115 rfl rfl ?_
        refine z_get (q0 := 0) (k9 := 56) (v := .int (fi S8 22)) b (mw_0 cy a S8) rfl in_X12 (by decide) wf_X12_411 rfl dX12_hole_116 ?_
        obtain ⟨g12, h⟩ := h
        refine y_iald (q0 := 30) (j := (fi S8 22).toNatClampNeg) (v := ((ar S8 28) (fi S8 22).toNatClampNeg)) b (mw_30 cy a S8) (zx_r g12.1 g12.2) rfl dX12_hole_119 ?_
        exact z_iret (u := S8) b rfl dX12_hole_120 h rfl (by decide) (by decide)
    · replace h := h.2 c1
      refine z_aload_n b dX12_hole_101 rfl rfl ?_
      refine z_get (q0 := 0) (k9 := 55) (v := .int (fi S8 21)) b (mw_0 cy a S8) rfl in_X12 (by decide) wf_X12_405 rfl dX12_hole_102 ?_
      exact z_iret (u := S8) b rfl dX12_hole_105 h rfl (by decide) (by decide)
  · replace h := h.2 c1
    refine z_iload b dX12_hole_66 rfl ?_
    refine z_bipush (v := 20) b dX12_hole_68 (by decide) ?_
    refine y_icmp_ne (tgt := 80) (xl := x5.toInt) (yl := 20) b rfl (by decide) dX12_hole_70 (by decide) (fun c1 => ?_) (fun c1 => ?_)
    · replace h := h.1 c1
      refine z_aload_n b dX12_hole_80 rfl rfl ?_
      refine z_get (q0 := 0) (k9 := 57) (v := .int (fi S8 23)) b (mw_0 cy a S8) rfl in_X12 (by decide) wf_X12_408 rfl dX12_hole_81 ?_
      refine y_if_eq (tgt := 92) (xl := (fi S8 23).toInt) b rfl dX12_hole_84 (by decide) (fun c1 => ?_) (fun c1 => ?_)
      · replace h := h.1 c1
        refine z_iconst (v := (-1)) b dX12_hole_92 (by decide) ?_
        refine z_lv0 (lv' := []) [] rfl ?_
        exact z_X12_hole_B93 b _ _ h
      · replace h := h.2 c1
        refine z_bipush (v := (-2)) b dX12_hole_87 (by decide) ?_
        refine z_goto (tgt := 93) b dX12_hole_89 (by decide) ?_
        refine z_lv0 (lv' := []) [] rfl ?_
        exact z_X12_hole_B93 b _ _ h
    · replace h := h.2 c1
      refine z_aload_n b dX12_hole_73 rfl rfl ?_
      refine z_get (q0 := 0) (k9 := 55) (v := .int (fi S8 21)) b (mw_0 cy a S8) rfl in_X12 (by decide) wf_X12_405 rfl dX12_hole_74 ?_
      refine z_goto (tgt := 93) b dX12_hole_77 (by decide) ?_
      refine z_lv0 (lv' := []) [] rfl ?_
      exact z_X12_hole_B93 b _ _ h

def w_X12_hole (S : GS) (p0 : Int32) (p1 : Int32) (p2 : Int32) (p3 : Int32) (p4 : Int32) (post : Int32 → GS → Prop) : Prop :=
  w_X12_isNeverText S p0 (fun r1 S2 => ((r1.toInt = 0 → w_X12_hole_B46 post S2) ∧ (r1.toInt ≠ 0 → w_X12_canSearch S2 p1 p2 (fun r3 S4 => ((r3.toInt = 0 → w_X12_hole_B46 post S4) ∧ (r3.toInt ≠ 0 → w_X12_isIn S4 p3 1 7 (fun r5 S6 => ((r5.toInt = 0 → w_X12_hole_B46 post S6) ∧ (r5.toInt ≠ 0 → ((p4.toInt = 20 → w_X12_hole_B48 post S6 p0 p1 p2 p3 p4) ∧ (p4.toInt ≠ 20 → w_X12_isIn S6 p4 0 6 (fun r13 S14 => ((r13.toInt ≠ 0 → w_X12_hole_B48 post S14 p0 p1 p2 p3 p4) ∧ (r13.toInt = 0 → w_X12_hole_B46 post S14))))))))))))))

set_option maxHeartbeats 4000000 in
set_option maxRecDepth 100000 in
theorem k_X12_hole {l : Launch} {D : va_G} {cy : Nat → ClassId} {T0 tB tE : Nat} {a : Nat → Nat} (S : GS) (p0 : Int32) (p1 : Int32) (p2 : Int32) (p3 : Int32) (p4 : Int32) (post : Int32 → GS → Prop) (h : w_X12_hole S p0 p1 p2 p3 p4 post) : Ct l D cy T0 tB tE yX12_hole cX12_hole 6 (some .int) 6 164 0 0 (mw cy a S) [.ref (a 0), .int p0, .int p1, .int p2, .int p3, .int p4] (QI D (U := GS) post (mw cy a)) := by
  refine Ct.ofZ RX12 "hole" [(0, .ref (a 0)), (1, .int p0), (2, .int p1), (3, .int p2), (4, .int p3), (5, .int p4)] rfl rfl rfl rfl (Nat.le_of_ble_eq_true rfl) ?_
  intro p e R s m args below meth c A b
  unfold w_X12_hole at h
  refine z_aload_n b dX12_hole_0 rfl rfl ?_
  refine z_iload_n b dX12_hole_1 rfl rfl ?_
  refine z_calli b (z_runV (q0 := 0) (As := [.int p0]) (st := []) b (k_X12_isNeverText S p0 _ h) cf_X12_isNeverText (mw_0 cy a S) rfl wm_X12_430 wi_X12_isNeverText ws_X12_isNeverText dX12_hole_2 rfl (Nat.le_of_ble_eq_true rfl) ⟨by decide, by decide, by decide, by decide⟩) (fun r1 S2 h => ?_)
  refine y_if_eq (tgt := 46) (xl := r1.toInt) b rfl dX12_hole_5 (by decide) (fun c1 => ?_) (fun c1 => ?_)
  · replace h := h.1 c1
    refine z_lv0 (lv' := []) [] rfl ?_
    exact z_X12_hole_B46 b _ h
  · replace h := h.2 c1
    refine z_aload_n b dX12_hole_8 rfl rfl ?_
    refine z_iload_n b dX12_hole_9 rfl rfl ?_
    refine z_iload_n b dX12_hole_10 rfl rfl ?_
    refine z_calli b (z_runV (q0 := 0) (As := [.int p1, .int p2]) (st := []) b (k_X12_canSearch S2 p1 p2 _ h) cf_X12_canSearch (mw_0 cy a S2) rfl wm_X12_433 wi_X12_canSearch ws_X12_canSearch dX12_hole_11 rfl (Nat.le_of_ble_eq_true rfl) ⟨by decide, by decide, by decide, by decide⟩) (fun r3 S4 h => ?_)
    refine y_if_eq (tgt := 46) (xl := r3.toInt) b rfl dX12_hole_14 (by decide) (fun c1 => ?_) (fun c1 => ?_)
    · replace h := h.1 c1
      refine z_lv0 (lv' := []) [] rfl ?_
      exact z_X12_hole_B46 b _ h
    · replace h := h.2 c1
      refine z_iload b dX12_hole_17 rfl ?_
      refine z_iconst (v := 1) b dX12_hole_19 (by decide) ?_
      refine z_bipush (v := 7) b dX12_hole_20 (by decide) ?_
      refine z_calli b (z_runS (As := [.int p3, .int 1, .int 7]) (st := []) b (k_X12_isIn S4 p3 1 7 _ h) cf_X12_isIn wm_X12_1 ws_X12_isIn dX12_hole_22 rfl (Nat.le_of_ble_eq_true rfl) ⟨by decide, by decide, by decide, by decide⟩) (fun r5 S6 h => ?_)
      refine y_if_eq (tgt := 46) (xl := r5.toInt) b rfl dX12_hole_25 (by decide) (fun c1 => ?_) (fun c1 => ?_)
      · replace h := h.1 c1
        refine z_lv0 (lv' := []) [] rfl ?_
        exact z_X12_hole_B46 b _ h
      · replace h := h.2 c1
        refine z_iload b dX12_hole_28 rfl ?_
        refine z_bipush (v := 20) b dX12_hole_30 (by decide) ?_
        refine y_icmp_eq (tgt := 48) (xl := p4.toInt) (yl := 20) b rfl (by decide) dX12_hole_32 (by decide) (fun c1 => ?_) (fun c1 => ?_)
        · replace h := h.1 c1
          exact z_X12_hole_B48 b _ _ _ _ _ _ h
        · replace h := h.2 c1
          refine z_iload b dX12_hole_35 rfl ?_
          refine z_iconst (v := 0) b dX12_hole_37 (by decide) ?_
          refine z_bipush (v := 6) b dX12_hole_38 (by decide) ?_
          refine z_calli b (z_runS (As := [.int p4, .int 0, .int 6]) (st := []) b (k_X12_isIn S6 p4 0 6 _ h) cf_X12_isIn wm_X12_1 ws_X12_isIn dX12_hole_40 rfl (Nat.le_of_ble_eq_true rfl) ⟨by decide, by decide, by decide, by decide⟩) (fun r13 S14 h => ?_)
          refine y_if_ne (tgt := 48) (xl := r13.toInt) b rfl dX12_hole_43 (by decide) (fun c1 => ?_) (fun c1 => ?_)
          · replace h := h.1 c1
            exact z_X12_hole_B48 b _ _ _ _ _ _ h
          · replace h := h.2 c1
            refine z_lv0 (lv' := []) [] rfl ?_
            exact z_X12_hole_B46 b _ h

def w_X12_after_B102 (post : Int32 → GS → Prop) (S : GS)  : Prop :=
  post (-1) S

set_option maxHeartbeats 4000000 in
set_option maxRecDepth 100000 in
theorem z_X12_after_B102 {p : Program} {l : Launch} {e : Env} {R : Room} {s : State} {m : MethodId} {args : Array Value} {below : List Frame} {meth : Method} {c : Code} {D : va_G} {cy : Nat → ClassId} {T0 tB tE : Nat} {A : Nat → Prop} {a : Nat → Nat} {post : Int32 → GS → Prop} (b : Bz p R s m args meth c D cy T0 tB tE A 4 cX12_after RX12 (some .int) "after" 5 132 0 0) (S : GS)  (h : w_X12_after_B102 post S ) : Z p l e R s m args below meth c D A 4 (MQ below (QI D (U := GS) post (mw cy a) A) args s 0 0 A) 0 0 (mw cy a S) [] 102 [] := by
  unfold w_X12_after_B102 at h
  refine z_iconst (v := (-1)) b dX12_after_102 (by decide) ?_
  exact z_iret (u := S) b rfl dX12_after_103 h rfl (by decide) (by decide)

def w_X12_after_B151 (post : Int32 → GS → Prop) (S : GS) (y0 : Int32) : Prop :=
  post y0 S

set_option maxHeartbeats 4000000 in
set_option maxRecDepth 100000 in
theorem z_X12_after_B151 {p : Program} {l : Launch} {e : Env} {R : Room} {s : State} {m : MethodId} {args : Array Value} {below : List Frame} {meth : Method} {c : Code} {D : va_G} {cy : Nat → ClassId} {T0 tB tE : Nat} {A : Nat → Prop} {a : Nat → Nat} {post : Int32 → GS → Prop} (b : Bz p R s m args meth c D cy T0 tB tE A 4 cX12_after RX12 (some .int) "after" 5 132 0 0) (S : GS) (y0 : Int32) (h : w_X12_after_B151 post S y0) : Z p l e R s m args below meth c D A 4 (MQ below (QI D (U := GS) post (mw cy a) A) args s 0 0 A) 0 0 (mw cy a S) [] 151 [.int y0] := by
  unfold w_X12_after_B151 at h
  exact z_iret (u := S) b rfl dX12_after_151 h rfl (by decide) (by decide)

def w_X12_after_B150 (post : Int32 → GS → Prop) (S : GS)  : Prop :=
  w_X12_after_B151 post S 0

set_option maxHeartbeats 4000000 in
set_option maxRecDepth 100000 in
theorem z_X12_after_B150 {p : Program} {l : Launch} {e : Env} {R : Room} {s : State} {m : MethodId} {args : Array Value} {below : List Frame} {meth : Method} {c : Code} {D : va_G} {cy : Nat → ClassId} {T0 tB tE : Nat} {A : Nat → Prop} {a : Nat → Nat} {post : Int32 → GS → Prop} (b : Bz p R s m args meth c D cy T0 tB tE A 4 cX12_after RX12 (some .int) "after" 5 132 0 0) (S : GS)  (h : w_X12_after_B150 post S ) : Z p l e R s m args below meth c D A 4 (MQ below (QI D (U := GS) post (mw cy a) A) args s 0 0 A) 0 0 (mw cy a S) [] 150 [] := by
  unfold w_X12_after_B150 at h
  refine z_iconst (v := 0) b dX12_after_150 (by decide) ?_
  exact z_X12_after_B151 b _ _ h

def w_X12_after_B146 (post : Int32 → GS → Prop) (S : GS)  : Prop :=
  w_X12_after_B151 post S 1

set_option maxHeartbeats 4000000 in
set_option maxRecDepth 100000 in
theorem z_X12_after_B146 {p : Program} {l : Launch} {e : Env} {R : Room} {s : State} {m : MethodId} {args : Array Value} {below : List Frame} {meth : Method} {c : Code} {D : va_G} {cy : Nat → ClassId} {T0 tB tE : Nat} {A : Nat → Prop} {a : Nat → Nat} {post : Int32 → GS → Prop} (b : Bz p R s m args meth c D cy T0 tB tE A 4 cX12_after RX12 (some .int) "after" 5 132 0 0) (S : GS)  (h : w_X12_after_B146 post S ) : Z p l e R s m args below meth c D A 4 (MQ below (QI D (U := GS) post (mw cy a) A) args s 0 0 A) 0 0 (mw cy a S) [] 146 [] := by
  unfold w_X12_after_B146 at h
  refine z_iconst (v := 1) b dX12_after_146 (by decide) ?_
  refine z_goto (tgt := 151) b dX12_after_147 (by decide) ?_
  exact z_X12_after_B151 b _ _ h

def w_X12_after (S : GS) (p0 : Int32) (p1 : Int32) (post : Int32 → GS → Prop) : Prop :=
  w_X12_isRow S p0 (fun r1 S2 => ((r1.toInt ≠ 0 → w_X12_goes S2 p0 3 0 (fun r3 S4 => w_X12_takes S4 (fl S4 2) (fun S6 => w_X12_isOne S6 p1 (fun r7 S8 => ((r7.toInt = 0 → ((p1.toInt ≠ 50 → w_X12_isIn S8 p1 40 42 (fun r9 S10 => ((r9.toInt = 0 → w_X12_isIn S10 p1 10 38 (fun r11 S12 => ((r11.toInt = 0 → w_X12_after_B102 post S12) ∧ (r11.toInt ≠ 0 → (((p1 - p1 / 10 * 10).toInt = 9 → w_X12_after_B102 post S12) ∧ ((p1 - p1 / 10 * 10).toInt ≠ 9 → ((((p1 - p1 / 10 * 10) / 3).toInt ≠ ((p1 - p1 / 10 * 10) - (p1 - p1 / 10 * 10) / 3 * 3).toInt → ((20 ≤ p1.toInt → ((30 ≤ p1.toInt → (0 ≤ (p1 - p1 / 10 * 10).toInt ∧ (p1 - p1 / 10 * 10).toInt < 9) ∧ ((((ar S12 4) (p1 - p1 / 10 * 10).toNatClampNeg).toInt = 0 → w_X12_after_B150 post S12) ∧ (((ar S12 4) (p1 - p1 / 10 * 10).toNatClampNeg).toInt ≠ 0 → w_X12_after_B146 post S12))) ∧ (p1.toInt < 30 → (0 ≤ (p1 - p1 / 10 * 10).toInt ∧ (p1 - p1 / 10 * 10).toInt < 9) ∧ ((((ar S12 3) (p1 - p1 / 10 * 10).toNatClampNeg).toInt = 0 → w_X12_after_B150 post S12) ∧ (((ar S12 3) (p1 - p1 / 10 * 10).toNatClampNeg).toInt ≠ 0 → w_X12_after_B146 post S12))))) ∧ (p1.toInt < 20 → (0 ≤ (p1 - p1 / 10 * 10).toInt ∧ (p1 - p1 / 10 * 10).toInt < 9) ∧ w_X12_after_B151 post S12 ((ar S12 1) (p1 - p1 / 10 * 10).toNatClampNeg)))) ∧ (((p1 - p1 / 10 * 10) / 3).toInt = ((p1 - p1 / 10 * 10) - (p1 - p1 / 10 * 10) / 3 * 3).toInt → w_X12_after_B102 post S12)))))))) ∧ (r9.toInt ≠ 0 → (0 ≤ (p1 - 40).toInt ∧ (p1 - 40).toInt < 3) ∧ post ((ar S10 2) (p1 - 40).toNatClampNeg) S10)))) ∧ (p1.toInt = 50 → post (fi S8 0) S8))) ∧ (r7.toInt ≠ 0 → (0 ≤ p1.toInt ∧ p1.toInt < 3) ∧ post ((ar S8 0) p1.toNatClampNeg) S8)))))) ∧ (r1.toInt = 0 → post (-1) S2)))

set_option maxHeartbeats 4000000 in
set_option maxRecDepth 100000 in
theorem k_X12_after {l : Launch} {D : va_G} {cy : Nat → ClassId} {T0 tB tE : Nat} {a : Nat → Nat} (S : GS) (p0 : Int32) (p1 : Int32) (post : Int32 → GS → Prop) (h : w_X12_after S p0 p1 post) : Ct l D cy T0 tB tE yX12_after cX12_after 4 (some .int) 5 132 0 0 (mw cy a S) [.ref (a 0), .int p0, .int p1] (QI D (U := GS) post (mw cy a)) := by
  refine Ct.ofZ RX12 "after" [(0, .ref (a 0)), (1, .int p0), (2, .int p1)] rfl rfl rfl rfl (Nat.le_of_ble_eq_true rfl) ?_
  intro p e R s m args below meth c A b
  unfold w_X12_after at h
  refine z_iload_n b dX12_after_0 rfl rfl ?_
  refine z_calli b (z_runS (As := [.int p0]) (st := []) b (k_X12_isRow S p0 _ h) cf_X12_isRow wm_X12_452 ws_X12_isRow dX12_after_1 rfl (Nat.le_of_ble_eq_true rfl) ⟨by decide, by decide, by decide, by decide⟩) (fun r1 S2 h => ?_)
  refine y_if_ne (tgt := 9) (xl := r1.toInt) b rfl dX12_after_4 (by decide) (fun c1 => ?_) (fun c1 => ?_)
  · replace h := h.1 c1
    refine z_aload_n b dX12_after_9 rfl rfl ?_
    refine z_iload_n b dX12_after_10 rfl rfl ?_
    refine z_iconst (v := 3) b dX12_after_11 (by decide) ?_
    refine z_iconst (v := 0) b dX12_after_12 (by decide) ?_
    refine z_calli b (z_runV (q0 := 0) (As := [.int p0, .int 3, .int 0]) (st := []) b (k_X12_goes S2 p0 3 0 _ h) cf_X12_goes (mw_0 cy a S2) rfl wm_X12_464 wi_X12_goes ws_X12_goes dX12_after_13 rfl (Nat.le_of_ble_eq_true rfl) ⟨by decide, by decide, by decide, by decide⟩) (fun r3 S4 h => ?_)
    refine z_pop b dX12_after_16 rfl ?_
    refine z_aload_n b dX12_after_17 rfl rfl ?_
    refine z_aload_n b dX12_after_18 rfl rfl ?_
    refine z_get (q0 := 0) (k9 := 68) (v := .long (fl S4 2)) b (mw_0 cy a S4) rfl in_X12 (by decide) wf_X12_458 rfl dX12_after_19 ?_
    refine z_callv b (z_runV (q0 := 0) (As := [.long (fl S4 2)]) (st := []) b (k_X12_takes S4 (fl S4 2) _ h) cf_X12_takes (mw_0 cy a S4) rfl wm_X12_174 wi_X12_takes ws_X12_takes dX12_after_22 rfl (Nat.le_of_ble_eq_true rfl) ⟨by decide, by decide, by decide, by decide⟩) (fun S6 h => ?_)
    refine z_iload_n b dX12_after_25 rfl rfl ?_
    refine z_calli b (z_runS (As := [.int p1]) (st := []) b (k_X12_isOne S6 p1 _ h) cf_X12_isOne wm_X12_170 ws_X12_isOne dX12_after_26 rfl (Nat.le_of_ble_eq_true rfl) ⟨by decide, by decide, by decide, by decide⟩) (fun r7 S8 h => ?_)
    refine y_if_eq (tgt := 39) (xl := r7.toInt) b rfl dX12_after_29 (by decide) (fun c1 => ?_) (fun c1 => ?_)
    · replace h := h.1 c1
      refine z_iload_n b dX12_after_39 rfl rfl ?_
      refine z_bipush (v := 50) b dX12_after_40 (by decide) ?_
      refine y_icmp_ne (tgt := 50) (xl := p1.toInt) (yl := 50) b rfl (by decide) dX12_after_42 (by decide) (fun c1 => ?_) (fun c1 => ?_)
      · replace h := h.1 c1
        refine z_iload_n b dX12_after_50 rfl rfl ?_
        refine z_bipush (v := 40) b dX12_after_51 (by decide) ?_
        refine z_bipush (v := 42) b dX12_after_53 (by decide) ?_
        refine z_calli b (z_runS (As := [.int p1, .int 40, .int 42]) (st := []) b (k_X12_isIn S8 p1 40 42 _ h) cf_X12_isIn wm_X12_1 ws_X12_isIn dX12_after_55 rfl (Nat.le_of_ble_eq_true rfl) ⟨by decide, by decide, by decide, by decide⟩) (fun r9 S10 h => ?_)
        refine y_if_eq (tgt := 71) (xl := r9.toInt) b rfl dX12_after_58 (by decide) (fun c1 => ?_) (fun c1 => ?_)
        · replace h := h.1 c1
          refine z_iload_n b dX12_after_71 rfl rfl ?_
          refine z_bipush (v := 10) b dX12_after_72 (by decide) ?_
          refine z_irem b dX12_after_74 (by decide) rfl ?_
          refine z_istore_n (lv' := [(3, .int (p1 - p1 / 10 * 10)), (0, .ref (a 0)), (1, .int p0), (2, .int p1)]) b dX12_after_75 rfl (by decide) rfl ?_
          refine z_iload_n b dX12_after_76 rfl rfl ?_
          refine z_bipush (v := 10) b dX12_after_77 (by decide) ?_
          refine z_bipush (v := 38) b dX12_after_79 (by decide) ?_
          refine z_calli b (z_runS (As := [.int p1, .int 10, .int 38]) (st := []) b (k_X12_isIn S10 p1 10 38 _ h) cf_X12_isIn wm_X12_1 ws_X12_isIn dX12_after_81 rfl (Nat.le_of_ble_eq_true rfl) ⟨by decide, by decide, by decide, by decide⟩) (fun r11 S12 h => ?_)
          refine y_if_eq (tgt := 102) (xl := r11.toInt) b rfl dX12_after_84 (by decide) (fun c1 => ?_) (fun c1 => ?_)
          · replace h := h.1 c1
            refine z_lv0 (lv' := []) [] rfl ?_
            exact z_X12_after_B102 b _ h
          · replace h := h.2 c1
            refine z_iload_n b dX12_after_87 rfl rfl ?_
            refine z_bipush (v := 9) b dX12_after_88 (by decide) ?_
            refine y_icmp_eq (tgt := 102) (xl := (p1 - p1 / 10 * 10).toInt) (yl := 9) b rfl (by decide) dX12_after_90 (by decide) (fun c1 => ?_) (fun c1 => ?_)
            · replace h := h.1 c1
              refine z_lv0 (lv' := []) [] rfl ?_
              exact z_X12_after_B102 b _ h
            · replace h := h.2 c1
              refine z_iload_n b dX12_after_93 rfl rfl ?_
              refine z_iconst (v := 3) b dX12_after_94 (by decide) ?_
              refine z_idiv b dX12_after_95 (by decide) rfl ?_
              refine z_iload_n b dX12_after_96 rfl rfl ?_
              refine z_iconst (v := 3) b dX12_after_97 (by decide) ?_
              refine z_irem b dX12_after_98 (by decide) rfl ?_
              refine y_icmp_ne (tgt := 104) (xl := ((p1 - p1 / 10 * 10) / 3).toInt) (yl := ((p1 - p1 / 10 * 10) - (p1 - p1 / 10 * 10) / 3 * 3).toInt) b rfl rfl dX12_after_99 (by decide) (fun c1 => ?_) (fun c1 => ?_)
              · replace h := h.1 c1
                refine z_iload_n b dX12_after_104 rfl rfl ?_
                refine z_bipush (v := 20) b dX12_after_105 (by decide) ?_
                refine y_icmp_ge (tgt := 119) (xl := p1.toInt) (yl := 20) b rfl (by decide) dX12_after_107 (by decide) (fun c1 => ?_) (fun c1 => ?_)
                · replace h := h.1 c1
                  refine z_iload_n b dX12_after_119 rfl rfl ?_
                  refine z_bipush (v := 30) b dX12_after_120 (by decide) ?_
                  refine y_icmp_ge (tgt := 137) (xl := p1.toInt) (yl := 30) b rfl (by decide) dX12_after_122 (by decide) (fun c1 => ?_) (fun c1 => ?_)
                  · replace h := h.1 c1
                    refine z_aload_n b dX12_after_137 rfl rfl ?_
                    refine z_get (q0 := 0) (k9 := 4) (v := .ref (a 5)) b (mw_0 cy a S12) rfl in_X12 (by decide) wf_X12_27 rfl dX12_after_138 ?_
                    refine z_iload_n b dX12_after_141 rfl rfl ?_
                    obtain ⟨g13, h⟩ := h
                    refine y_zald (q0 := 5) (j := (p1 - p1 / 10 * 10).toNatClampNeg) (v := ((ar S12 4) (p1 - p1 / 10 * 10).toNatClampNeg)) b (mw_5 cy a S12) (zx_r g13.1 g13.2) rfl dX12_after_142 ?_
                    refine y_if_eq (tgt := 150) (xl := ((ar S12 4) (p1 - p1 / 10 * 10).toNatClampNeg).toInt) b rfl dX12_after_143 (by decide) (fun c1 => ?_) (fun c1 => ?_)
                    · replace h := h.1 c1
                      refine z_lv0 (lv' := []) [] rfl ?_
                      exact z_X12_after_B150 b _ h
                    · replace h := h.2 c1
                      refine z_lv0 (lv' := []) [] rfl ?_
                      exact z_X12_after_B146 b _ h
                  · replace h := h.2 c1
                    refine z_aload_n b dX12_after_125 rfl rfl ?_
                    refine z_get (q0 := 0) (k9 := 3) (v := .ref (a 4)) b (mw_0 cy a S12) rfl in_X12 (by decide) wf_X12_23 rfl dX12_after_126 ?_
                    refine z_iload_n b dX12_after_129 rfl rfl ?_
                    obtain ⟨g14, h⟩ := h
                    refine y_zald (q0 := 4) (j := (p1 - p1 / 10 * 10).toNatClampNeg) (v := ((ar S12 3) (p1 - p1 / 10 * 10).toNatClampNeg)) b (mw_4 cy a S12) (zx_r g14.1 g14.2) rfl dX12_after_130 ?_
                    refine y_if_eq (tgt := 150) (xl := ((ar S12 3) (p1 - p1 / 10 * 10).toNatClampNeg).toInt) b rfl dX12_after_131 (by decide) (fun c1 => ?_) (fun c1 => ?_)
                    · replace h := h.1 c1
                      refine z_lv0 (lv' := []) [] rfl ?_
                      exact z_X12_after_B150 b _ h
                    · replace h := h.2 c1
                      refine z_goto (tgt := 146) b dX12_after_134 (by decide) ?_
                      refine z_lv0 (lv' := []) [] rfl ?_
                      exact z_X12_after_B146 b _ h
                · replace h := h.2 c1
                  refine z_aload_n b dX12_after_110 rfl rfl ?_
                  refine z_get (q0 := 0) (k9 := 1) (v := .ref (a 2)) b (mw_0 cy a S12) rfl in_X12 (by decide) wf_X12_17 rfl dX12_after_111 ?_
                  refine z_iload_n b dX12_after_114 rfl rfl ?_
                  obtain ⟨g15, h⟩ := h
                  refine y_iald (q0 := 2) (j := (p1 - p1 / 10 * 10).toNatClampNeg) (v := ((ar S12 1) (p1 - p1 / 10 * 10).toNatClampNeg)) b (mw_2 cy a S12) (zx_r g15.1 g15.2) rfl dX12_after_115 ?_
                  refine z_goto (tgt := 151) b dX12_after_116 (by decide) ?_
                  refine z_lv0 (lv' := []) [] rfl ?_
                  exact z_X12_after_B151 b _ _ h
              · replace h := h.2 c1
                refine z_lv0 (lv' := []) [] rfl ?_
                exact z_X12_after_B102 b _ h
        · replace h := h.2 c1
          refine z_aload_n b dX12_after_61 rfl rfl ?_
          refine z_get (q0 := 0) (k9 := 2) (v := .ref (a 3)) b (mw_0 cy a S10) rfl in_X12 (by decide) wf_X12_20 rfl dX12_after_62 ?_
          refine z_iload_n b dX12_after_65 rfl rfl ?_
          refine z_bipush (v := 40) b dX12_after_66 (by decide) ?_
          refine z_isub b dX12_after_68 rfl ?_
          obtain ⟨g16, h⟩ := h
          refine y_iald (q0 := 3) (j := (p1 - 40).toNatClampNeg) (v := ((ar S10 2) (p1 - 40).toNatClampNeg)) b (mw_3 cy a S10) (zx_r g16.1 g16.2) rfl dX12_after_69 ?_
          exact z_iret (u := S10) b rfl dX12_after_70 h rfl (by decide) (by decide)
      · replace h := h.2 c1
        refine z_aload_n b dX12_after_45 rfl rfl ?_
        refine z_get (q0 := 0) (k9 := 5) (v := .int (fi S8 0)) b (mw_0 cy a S8) rfl in_X12 (by decide) wf_X12_157 rfl dX12_after_46 ?_
        exact z_iret (u := S8) b rfl dX12_after_49 h rfl (by decide) (by decide)
    · replace h := h.2 c1
      refine z_aload_n b dX12_after_32 rfl rfl ?_
      refine z_get (q0 := 0) (k9 := 0) (v := .ref (a 1)) b (mw_0 cy a S8) rfl in_X12 (by decide) wf_X12_13 rfl dX12_after_33 ?_
      refine z_iload_n b dX12_after_36 rfl rfl ?_
      obtain ⟨g17, h⟩ := h
      refine y_iald (q0 := 1) (j := p1.toNatClampNeg) (v := ((ar S8 0) p1.toNatClampNeg)) b (mw_1 cy a S8) (zx_r g17.1 g17.2) rfl dX12_after_37 ?_
      exact z_iret (u := S8) b rfl dX12_after_38 h rfl (by decide) (by decide)
  · replace h := h.2 c1
    refine z_iconst (v := (-1)) b dX12_after_7 (by decide) ?_
    exact z_iret (u := S2) b rfl dX12_after_8 h rfl (by decide) (by decide)

def w_X12_through_B25 (post : Int32 → GS → Prop) (S : GS)  : Prop :=
  post (-1) S

set_option maxHeartbeats 4000000 in
set_option maxRecDepth 100000 in
theorem z_X12_through_B25 {p : Program} {l : Launch} {e : Env} {R : Room} {s : State} {m : MethodId} {args : Array Value} {below : List Frame} {meth : Method} {c : Code} {D : va_G} {cy : Nat → ClassId} {T0 tB tE : Nat} {A : Nat → Prop} {a : Nat → Nat} {post : Int32 → GS → Prop} (b : Bz p R s m args meth c D cy T0 tB tE A 7 cX12_through RX12 (some .int) "through" 3 68 0 0) (S : GS)  (h : w_X12_through_B25 post S ) : Z p l e R s m args below meth c D A 7 (MQ below (QI D (U := GS) post (mw cy a) A) args s 0 0 A) 0 0 (mw cy a S) [] 25 [] := by
  unfold w_X12_through_B25 at h
  refine z_iconst (v := (-1)) b dX12_through_25 (by decide) ?_
  exact z_iret (u := S) b rfl dX12_through_26 h rfl (by decide) (by decide)

def w_X12_through_B79 (post : Int32 → GS → Prop) (k35 : GS → Int32 → Int32 → Int32 → Int32 → Int32 → Prop) (k85 : GS → Int32 → Int32 → Int32 → Prop) (S : GS) (x1 : Int32) (x2 : Int32) (x3 : Int32) (x4 : Int32) (x5 : Int32) : Prop :=
  k35 S x1 x2 x3 x4 (x5 + 1)

set_option maxHeartbeats 4000000 in
set_option maxRecDepth 100000 in
theorem z_X12_through_B79 {p : Program} {l : Launch} {e : Env} {R : Room} {s : State} {m : MethodId} {args : Array Value} {below : List Frame} {meth : Method} {c : Code} {D : va_G} {cy : Nat → ClassId} {T0 tB tE : Nat} {A : Nat → Prop} {a : Nat → Nat} {post : Int32 → GS → Prop} {k35 : GS → Int32 → Int32 → Int32 → Int32 → Int32 → Prop} {k85 : GS → Int32 → Int32 → Int32 → Prop} (b : Bz p R s m args meth c D cy T0 tB tE A 7 cX12_through RX12 (some .int) "through" 3 68 0 0) (hk35 : ∀ (S : GS) (x1 : Int32) (x2 : Int32) (x3 : Int32) (x4 : Int32) (x5 : Int32), k35 S x1 x2 x3 x4 x5 → Z p l e R s m args below meth c D A 7 (MQ below (QI D (U := GS) post (mw cy a) A) args s 0 0 A) 0 0 (mw cy a S) [(0, .ref (a 0)), (1, .int x1), (2, .int x2), (3, .int x3), (4, .int x4), (5, .int x5)] 35 []) (hk85 : ∀ (S : GS) (x2 : Int32) (x3 : Int32) (x4 : Int32), k85 S x2 x3 x4 → Z p l e R s m args below meth c D A 7 (MQ below (QI D (U := GS) post (mw cy a) A) args s 0 0 A) 0 0 (mw cy a S) [(0, .ref (a 0)), (2, .int x2), (3, .int x3), (4, .int x4)] 85 []) (S : GS) (x1 : Int32) (x2 : Int32) (x3 : Int32) (x4 : Int32) (x5 : Int32) (h : w_X12_through_B79 post k35 k85 S x1 x2 x3 x4 x5) : Z p l e R s m args below meth c D A 7 (MQ below (QI D (U := GS) post (mw cy a) A) args s 0 0 A) 0 0 (mw cy a S) [(0, .ref (a 0)), (1, .int x1), (2, .int x2), (3, .int x3), (4, .int x4), (5, .int x5)] 79 [] := by
  unfold w_X12_through_B79 at h
  refine z_iinc (k9 := 5) (v := (x5 + 1)) (lv' := [(5, .int (x5 + 1)), (0, .ref (a 0)), (1, .int x1), (2, .int x2), (3, .int x3), (4, .int x4)]) b dX12_through_79 rfl rfl (by decide) rfl ?_
  refine z_goto (tgt := 35) b dX12_through_82 (by decide) ?_
  refine z_lv0 (lv' := [(0, .ref (a 0)), (1, .int x1), (2, .int x2), (3, .int x3), (4, .int x4), (5, .int (x5 + 1))]) [1, 2, 3, 4, 5, 0] rfl ?_
  exact hk35 _ _ _ _ _ _ h

def w_X12_through_B72 (post : Int32 → GS → Prop) (k35 : GS → Int32 → Int32 → Int32 → Int32 → Int32 → Prop) (k85 : GS → Int32 → Int32 → Int32 → Prop) (S : GS) (x1 : Int32) (x2 : Int32) (x5 : Int32) (x6 : Int32) : Prop :=
  w_X12_through_B79 post k35 k85 S x1 x2 x5 x6 x5

set_option maxHeartbeats 4000000 in
set_option maxRecDepth 100000 in
theorem z_X12_through_B72 {p : Program} {l : Launch} {e : Env} {R : Room} {s : State} {m : MethodId} {args : Array Value} {below : List Frame} {meth : Method} {c : Code} {D : va_G} {cy : Nat → ClassId} {T0 tB tE : Nat} {A : Nat → Prop} {a : Nat → Nat} {post : Int32 → GS → Prop} {k35 : GS → Int32 → Int32 → Int32 → Int32 → Int32 → Prop} {k85 : GS → Int32 → Int32 → Int32 → Prop} (b : Bz p R s m args meth c D cy T0 tB tE A 7 cX12_through RX12 (some .int) "through" 3 68 0 0) (hk35 : ∀ (S : GS) (x1 : Int32) (x2 : Int32) (x3 : Int32) (x4 : Int32) (x5 : Int32), k35 S x1 x2 x3 x4 x5 → Z p l e R s m args below meth c D A 7 (MQ below (QI D (U := GS) post (mw cy a) A) args s 0 0 A) 0 0 (mw cy a S) [(0, .ref (a 0)), (1, .int x1), (2, .int x2), (3, .int x3), (4, .int x4), (5, .int x5)] 35 []) (hk85 : ∀ (S : GS) (x2 : Int32) (x3 : Int32) (x4 : Int32), k85 S x2 x3 x4 → Z p l e R s m args below meth c D A 7 (MQ below (QI D (U := GS) post (mw cy a) A) args s 0 0 A) 0 0 (mw cy a S) [(0, .ref (a 0)), (2, .int x2), (3, .int x3), (4, .int x4)] 85 []) (S : GS) (x1 : Int32) (x2 : Int32) (x5 : Int32) (x6 : Int32) (h : w_X12_through_B72 post k35 k85 S x1 x2 x5 x6) : Z p l e R s m args below meth c D A 7 (MQ below (QI D (U := GS) post (mw cy a) A) args s 0 0 A) 0 0 (mw cy a S) [(0, .ref (a 0)), (1, .int x1), (2, .int x2), (5, .int x5), (6, .int x6)] 72 [] := by
  unfold w_X12_through_B72 at h
  refine z_iload b dX12_through_72 rfl ?_
  refine z_istore_n (lv' := [(3, .int x5), (0, .ref (a 0)), (1, .int x1), (2, .int x2), (5, .int x5), (6, .int x6)]) b dX12_through_74 rfl (by decide) rfl ?_
  refine z_iload b dX12_through_75 rfl ?_
  refine z_istore (lv' := [(4, .int x6), (3, .int x5), (0, .ref (a 0)), (1, .int x1), (2, .int x2), (5, .int x5), (6, .int x6)]) b dX12_through_77 (by decide) rfl ?_
  refine z_lv0 (lv' := [(0, .ref (a 0)), (1, .int x1), (2, .int x2), (3, .int x5), (4, .int x6), (5, .int x5)]) [2, 3, 4, 1, 0, 5] rfl ?_
  exact z_X12_through_B79 b hk35 hk85 _ _ _ _ _ _ h

def w_X12_through_F35 (post : Int32 → GS → Prop) (k85 : GS → Int32 → Int32 → Int32 → Prop) (k35 : GS → Int32 → Int32 → Int32 → Int32 → Int32 → Prop) (S : GS) (x1 : Int32) (x2 : Int32) (x3 : Int32) (x4 : Int32) (x5 : Int32) : Prop :=
  ((36 ≤ x5.toInt → k85 S x2 x3 x4) ∧ (x5.toInt < 36 → w_X12_endsAt S x1 x5 (fun r6 S7 => ((r6.toInt = (-1) → w_X12_through_B79 post k35 k85 S7 x1 x2 x3 x4 x5) ∧ (r6.toInt ≠ (-1) → ((x3.toInt = (-1) → w_X12_through_B72 post k35 k85 S7 x1 x2 x5 r6) ∧ (x3.toInt ≠ (-1) → ((r6.toInt < x4.toInt → w_X12_through_B72 post k35 k85 S7 x1 x2 x5 r6) ∧ (x4.toInt ≤ r6.toInt → w_X12_through_B79 post k35 k85 S7 x1 x2 x3 x4 x5)))))))))

set_option maxHeartbeats 4000000 in
set_option maxRecDepth 100000 in
theorem z_X12_through_F35 {p : Program} {l : Launch} {e : Env} {R : Room} {s : State} {m : MethodId} {args : Array Value} {below : List Frame} {meth : Method} {c : Code} {D : va_G} {cy : Nat → ClassId} {T0 tB tE : Nat} {A : Nat → Prop} {a : Nat → Nat} {post : Int32 → GS → Prop} {k85 : GS → Int32 → Int32 → Int32 → Prop} {k35 : GS → Int32 → Int32 → Int32 → Int32 → Int32 → Prop} (b : Bz p R s m args meth c D cy T0 tB tE A 7 cX12_through RX12 (some .int) "through" 3 68 0 0) (hk85 : ∀ (S : GS) (x2 : Int32) (x3 : Int32) (x4 : Int32), k85 S x2 x3 x4 → Z p l e R s m args below meth c D A 7 (MQ below (QI D (U := GS) post (mw cy a) A) args s 0 0 A) 0 0 (mw cy a S) [(0, .ref (a 0)), (2, .int x2), (3, .int x3), (4, .int x4)] 85 []) (hk35 : ∀ (S : GS) (x1 : Int32) (x2 : Int32) (x3 : Int32) (x4 : Int32) (x5 : Int32), k35 S x1 x2 x3 x4 x5 → Z p l e R s m args below meth c D A 7 (MQ below (QI D (U := GS) post (mw cy a) A) args s 0 0 A) 0 0 (mw cy a S) [(0, .ref (a 0)), (1, .int x1), (2, .int x2), (3, .int x3), (4, .int x4), (5, .int x5)] 35 []) (S : GS) (x1 : Int32) (x2 : Int32) (x3 : Int32) (x4 : Int32) (x5 : Int32) (h : w_X12_through_F35 post k85 k35 S x1 x2 x3 x4 x5) : Z p l e R s m args below meth c D A 7 (MQ below (QI D (U := GS) post (mw cy a) A) args s 0 0 A) 0 0 (mw cy a S) [(0, .ref (a 0)), (1, .int x1), (2, .int x2), (3, .int x3), (4, .int x4), (5, .int x5)] 35 [] := by
  unfold w_X12_through_F35 at h
  refine z_iload b dX12_through_35 rfl ?_
  refine z_bipush (v := 36) b dX12_through_37 (by decide) ?_
  refine y_icmp_ge (tgt := 85) (xl := x5.toInt) (yl := 36) b rfl (by decide) dX12_through_39 (by decide) (fun c1 => ?_) (fun c1 => ?_)
  · replace h := h.1 c1
    refine z_lv0 (lv' := [(0, .ref (a 0)), (2, .int x2), (3, .int x3), (4, .int x4)]) [0, 2, 3, 4] rfl ?_
    exact hk85 _ _ _ _ h
  · replace h := h.2 c1
    refine z_aload_n b dX12_through_42 rfl rfl ?_
    refine z_iload_n b dX12_through_43 rfl rfl ?_
    refine z_iload b dX12_through_44 rfl ?_
    refine z_calli b (z_runV (q0 := 0) (As := [.int x1, .int x5]) (st := []) b (k_X12_endsAt S x1 x5 _ h) cf_X12_endsAt (mw_0 cy a S) rfl wm_X12_476 wi_X12_endsAt ws_X12_endsAt dX12_through_46 rfl (Nat.le_of_ble_eq_true rfl) ⟨by decide, by decide, by decide, by decide⟩) (fun r6 S7 h => ?_)
    refine z_istore (lv' := [(6, .int r6), (0, .ref (a 0)), (1, .int x1), (2, .int x2), (3, .int x3), (4, .int x4), (5, .int x5)]) b dX12_through_49 (by decide) rfl ?_
    refine z_iload b dX12_through_51 rfl ?_
    refine z_iconst (v := (-1)) b dX12_through_53 (by decide) ?_
    refine y_icmp_eq (tgt := 79) (xl := r6.toInt) (yl := (-1)) b rfl (by decide) dX12_through_54 (by decide) (fun c1 => ?_) (fun c1 => ?_)
    · replace h := h.1 c1
      refine z_lv0 (lv' := [(0, .ref (a 0)), (1, .int x1), (2, .int x2), (3, .int x3), (4, .int x4), (5, .int x5)]) [1, 2, 3, 4, 5, 6] rfl ?_
      exact z_X12_through_B79 b hk35 hk85 _ _ _ _ _ _ h
    · replace h := h.2 c1
      refine z_iload_n b dX12_through_57 rfl rfl ?_
      refine z_iconst (v := (-1)) b dX12_through_58 (by decide) ?_
      refine y_icmp_eq (tgt := 72) (xl := x3.toInt) (yl := (-1)) b rfl (by decide) dX12_through_59 (by decide) (fun c1 => ?_) (fun c1 => ?_)
      · replace h := h.1 c1
        refine z_lv0 (lv' := [(0, .ref (a 0)), (1, .int x1), (2, .int x2), (5, .int x5), (6, .int r6)]) [1, 2, 3, 6, 0] rfl ?_
        exact z_X12_through_B72 b hk35 hk85 _ _ _ _ _ h
      · replace h := h.2 c1
        refine z_iload b dX12_through_62 rfl ?_
        refine z_iload b dX12_through_64 rfl ?_
        refine y_icmp_lt (tgt := 72) (xl := r6.toInt) (yl := x4.toInt) b rfl rfl dX12_through_66 (by decide) (fun c1 => ?_) (fun c1 => ?_)
        · replace h := h.1 c1
          refine z_lv0 (lv' := [(0, .ref (a 0)), (1, .int x1), (2, .int x2), (5, .int x5), (6, .int r6)]) [1, 2, 3, 6, 0] rfl ?_
          exact z_X12_through_B72 b hk35 hk85 _ _ _ _ _ h
        · replace h := h.2 c1
          refine z_goto (tgt := 79) b dX12_through_69 (by decide) ?_
          refine z_lv0 (lv' := [(0, .ref (a 0)), (1, .int x1), (2, .int x2), (3, .int x3), (4, .int x4), (5, .int x5)]) [1, 2, 3, 4, 5, 6] rfl ?_
          exact z_X12_through_B79 b hk35 hk85 _ _ _ _ _ _ h

set_option maxHeartbeats 4000000 in
set_option maxRecDepth 100000 in
theorem zl_X12_through_L35 {p : Program} {l : Launch} {e : Env} {R : Room} {s : State} {m : MethodId} {args : Array Value} {below : List Frame} {meth : Method} {c : Code} {D : va_G} {cy : Nat → ClassId} {T0 tB tE : Nat} {A : Nat → Prop} {a : Nat → Nat} {post : Int32 → GS → Prop} {k85 : GS → Int32 → Int32 → Int32 → Prop} (b : Bz p R s m args meth c D cy T0 tB tE A 7 cX12_through RX12 (some .int) "through" 3 68 0 0) (hk85 : ∀ (S : GS) (x2 : Int32) (x3 : Int32) (x4 : Int32), k85 S x2 x3 x4 → Z p l e R s m args below meth c D A 7 (MQ below (QI D (U := GS) post (mw cy a) A) args s 0 0 A) 0 0 (mw cy a S) [(0, .ref (a 0)), (2, .int x2), (3, .int x3), (4, .int x4)] 85 []) : ∀ (n : Nat) (S : GS) (x1 : Int32) (x2 : Int32) (x3 : Int32) (x4 : Int32) (x5 : Int32), lpn (w_X12_through_F35 post k85) (fun _ _ _ _ _ _ => False) n S x1 x2 x3 x4 x5 → Z p l e R s m args below meth c D A 7 (MQ below (QI D (U := GS) post (mw cy a) A) args s 0 0 A) 0 0 (mw cy a S) [(0, .ref (a 0)), (1, .int x1), (2, .int x2), (3, .int x3), (4, .int x4), (5, .int x5)] 35 [] := by
  intro n
  induction n with
  | zero => intro _ _ _ _ _ _ h; exact h.elim
  | succ n ih => intro S x1 x2 x3 x4 x5 h; exact z_X12_through_F35 b hk85 ih S x1 x2 x3 x4 x5 h

def w_X12_through_B105 (post : Int32 → GS → Prop) (S : GS) (y0 : Int32) : Prop :=
  post y0 S

set_option maxHeartbeats 4000000 in
set_option maxRecDepth 100000 in
theorem z_X12_through_B105 {p : Program} {l : Launch} {e : Env} {R : Room} {s : State} {m : MethodId} {args : Array Value} {below : List Frame} {meth : Method} {c : Code} {D : va_G} {cy : Nat → ClassId} {T0 tB tE : Nat} {A : Nat → Prop} {a : Nat → Nat} {post : Int32 → GS → Prop} (b : Bz p R s m args meth c D cy T0 tB tE A 7 cX12_through RX12 (some .int) "through" 3 68 0 0) (S : GS) (y0 : Int32) (h : w_X12_through_B105 post S y0) : Z p l e R s m args below meth c D A 7 (MQ below (QI D (U := GS) post (mw cy a) A) args s 0 0 A) 0 0 (mw cy a S) [] 105 [.int y0] := by
  unfold w_X12_through_B105 at h
  exact z_iret (u := S) b rfl dX12_through_105 h rfl (by decide) (by decide)

def w_X12_through_B94 (post : Int32 → GS → Prop) (S : GS) (x3 : Int32) (x4 : Int32) : Prop :=
  ((x3.toInt ≠ (-1) → w_X12_through_B105 post S x4) ∧ (x3.toInt = (-1) → w_X12_through_B105 post S (-1)))

set_option maxHeartbeats 4000000 in
set_option maxRecDepth 100000 in
theorem z_X12_through_B94 {p : Program} {l : Launch} {e : Env} {R : Room} {s : State} {m : MethodId} {args : Array Value} {below : List Frame} {meth : Method} {c : Code} {D : va_G} {cy : Nat → ClassId} {T0 tB tE : Nat} {A : Nat → Prop} {a : Nat → Nat} {post : Int32 → GS → Prop} (b : Bz p R s m args meth c D cy T0 tB tE A 7 cX12_through RX12 (some .int) "through" 3 68 0 0) (S : GS) (x3 : Int32) (x4 : Int32) (h : w_X12_through_B94 post S x3 x4) : Z p l e R s m args below meth c D A 7 (MQ below (QI D (U := GS) post (mw cy a) A) args s 0 0 A) 0 0 (mw cy a S) [(3, .int x3), (4, .int x4)] 94 [] := by
  unfold w_X12_through_B94 at h
  refine z_iload_n b dX12_through_94 rfl rfl ?_
  refine z_iconst (v := (-1)) b dX12_through_95 (by decide) ?_
  refine y_icmp_ne (tgt := 103) (xl := x3.toInt) (yl := (-1)) b rfl (by decide) dX12_through_96 (by decide) (fun c1 => ?_) (fun c1 => ?_)
  · replace h := h.1 c1
    refine z_iload b dX12_through_103 rfl ?_
    refine z_lv0 (lv' := []) [] rfl ?_
    exact z_X12_through_B105 b _ _ h
  · replace h := h.2 c1
    refine z_iconst (v := (-1)) b dX12_through_99 (by decide) ?_
    refine z_goto (tgt := 105) b dX12_through_100 (by decide) ?_
    refine z_lv0 (lv' := []) [] rfl ?_
    exact z_X12_through_B105 b _ _ h

def w_X12_through_F112 (post : Int32 → GS → Prop) (k142 : GS → Int32 → Int32 → Prop) (k112 : GS → Int32 → Int32 → Int32 → Prop) (S : GS) (x3 : Int32) (x5 : Int32) (x6 : Int32) : Prop :=
  ((3 ≤ x6.toInt → k142 S x3 x5) ∧ (x6.toInt < 3 → w_X12_renamed S (x3 / 6) x6 (fun r8 S9 => k112 S9 x3 (((10 : Int32) * x5) + r8) (x6 + 1))))

set_option maxHeartbeats 4000000 in
set_option maxRecDepth 100000 in
theorem z_X12_through_F112 {p : Program} {l : Launch} {e : Env} {R : Room} {s : State} {m : MethodId} {args : Array Value} {below : List Frame} {meth : Method} {c : Code} {D : va_G} {cy : Nat → ClassId} {T0 tB tE : Nat} {A : Nat → Prop} {a : Nat → Nat} {post : Int32 → GS → Prop} {k142 : GS → Int32 → Int32 → Prop} {k112 : GS → Int32 → Int32 → Int32 → Prop} (b : Bz p R s m args meth c D cy T0 tB tE A 7 cX12_through RX12 (some .int) "through" 3 68 0 0) (hk142 : ∀ (S : GS) (x3 : Int32) (x5 : Int32), k142 S x3 x5 → Z p l e R s m args below meth c D A 7 (MQ below (QI D (U := GS) post (mw cy a) A) args s 0 0 A) 0 0 (mw cy a S) [(0, .ref (a 0)), (3, .int x3), (5, .int x5)] 142 []) (hk112 : ∀ (S : GS) (x3 : Int32) (x5 : Int32) (x6 : Int32), k112 S x3 x5 x6 → Z p l e R s m args below meth c D A 7 (MQ below (QI D (U := GS) post (mw cy a) A) args s 0 0 A) 0 0 (mw cy a S) [(0, .ref (a 0)), (3, .int x3), (5, .int x5), (6, .int x6)] 112 []) (S : GS) (x3 : Int32) (x5 : Int32) (x6 : Int32) (h : w_X12_through_F112 post k142 k112 S x3 x5 x6) : Z p l e R s m args below meth c D A 7 (MQ below (QI D (U := GS) post (mw cy a) A) args s 0 0 A) 0 0 (mw cy a S) [(0, .ref (a 0)), (3, .int x3), (5, .int x5), (6, .int x6)] 112 [] := by
  unfold w_X12_through_F112 at h
  refine z_iload b dX12_through_112 rfl ?_
  refine z_iconst (v := 3) b dX12_through_114 (by decide) ?_
  refine y_icmp_ge (tgt := 142) (xl := x6.toInt) (yl := 3) b rfl (by decide) dX12_through_115 (by decide) (fun c1 => ?_) (fun c1 => ?_)
  · replace h := h.1 c1
    refine z_lv0 (lv' := [(0, .ref (a 0)), (3, .int x3), (5, .int x5)]) [0, 1, 2] rfl ?_
    exact hk142 _ _ _ h
  · replace h := h.2 c1
    refine z_bipush (v := 10) b dX12_through_118 (by decide) ?_
    refine z_iload b dX12_through_120 rfl ?_
    refine z_imul b dX12_through_122 rfl ?_
    refine z_aload_n b dX12_through_123 rfl rfl ?_
    refine z_iload_n b dX12_through_124 rfl rfl ?_
    refine z_bipush (v := 6) b dX12_through_125 (by decide) ?_
    refine z_idiv b dX12_through_127 (by decide) rfl ?_
    refine z_iload b dX12_through_128 rfl ?_
    refine z_calli b (z_runV (q0 := 0) (As := [.int (x3 / 6), .int x6]) (st := [.int ((10 : Int32) * x5)]) b (k_X12_renamed S (x3 / 6) x6 _ h) cf_X12_renamed (mw_0 cy a S) rfl wm_X12_445 wi_X12_renamed ws_X12_renamed dX12_through_130 rfl (Nat.le_of_ble_eq_true rfl) ⟨by decide, by decide, by decide, by decide⟩) (fun r8 S9 h => ?_)
    refine z_iadd b dX12_through_133 rfl ?_
    refine z_istore (lv' := [(5, .int (((10 : Int32) * x5) + r8)), (0, .ref (a 0)), (3, .int x3), (6, .int x6)]) b dX12_through_134 (by decide) rfl ?_
    refine z_iinc (k9 := 3) (v := (x6 + 1)) (lv' := [(6, .int (x6 + 1)), (5, .int (((10 : Int32) * x5) + r8)), (0, .ref (a 0)), (3, .int x3)]) b dX12_through_136 rfl rfl (by decide) rfl ?_
    refine z_goto (tgt := 112) b dX12_through_139 (by decide) ?_
    refine z_lv0 (lv' := [(0, .ref (a 0)), (3, .int x3), (5, .int (((10 : Int32) * x5) + r8)), (6, .int (x6 + 1))]) [2, 3, 1, 0] rfl ?_
    exact hk112 _ _ _ _ h

set_option maxHeartbeats 4000000 in
set_option maxRecDepth 100000 in
theorem zl_X12_through_L112 {p : Program} {l : Launch} {e : Env} {R : Room} {s : State} {m : MethodId} {args : Array Value} {below : List Frame} {meth : Method} {c : Code} {D : va_G} {cy : Nat → ClassId} {T0 tB tE : Nat} {A : Nat → Prop} {a : Nat → Nat} {post : Int32 → GS → Prop} {k142 : GS → Int32 → Int32 → Prop} (b : Bz p R s m args meth c D cy T0 tB tE A 7 cX12_through RX12 (some .int) "through" 3 68 0 0) (hk142 : ∀ (S : GS) (x3 : Int32) (x5 : Int32), k142 S x3 x5 → Z p l e R s m args below meth c D A 7 (MQ below (QI D (U := GS) post (mw cy a) A) args s 0 0 A) 0 0 (mw cy a S) [(0, .ref (a 0)), (3, .int x3), (5, .int x5)] 142 []) : ∀ (n : Nat) (S : GS) (x3 : Int32) (x5 : Int32) (x6 : Int32), lpn (w_X12_through_F112 post k142) (fun _ _ _ _ => False) n S x3 x5 x6 → Z p l e R s m args below meth c D A 7 (MQ below (QI D (U := GS) post (mw cy a) A) args s 0 0 A) 0 0 (mw cy a S) [(0, .ref (a 0)), (3, .int x3), (5, .int x5), (6, .int x6)] 112 [] := by
  intro n
  induction n with
  | zero => intro _ _ _ _ h; exact h.elim
  | succ n ih => intro S x3 x5 x6 h; exact z_X12_through_F112 b hk142 ih S x3 x5 x6 h

def w_X12_through_F145 (post : Int32 → GS → Prop) (k175 : GS → Int32 → Prop) (k145 : GS → Int32 → Int32 → Int32 → Prop) (S : GS) (x3 : Int32) (x5 : Int32) (x6 : Int32) : Prop :=
  ((3 ≤ x6.toInt → k175 S x5) ∧ (x6.toInt < 3 → w_X12_renamed S (x3 - x3 / 6 * 6) x6 (fun r10 S11 => k145 S11 x3 (((10 : Int32) * x5) + r10) (x6 + 1))))

set_option maxHeartbeats 4000000 in
set_option maxRecDepth 100000 in
theorem z_X12_through_F145 {p : Program} {l : Launch} {e : Env} {R : Room} {s : State} {m : MethodId} {args : Array Value} {below : List Frame} {meth : Method} {c : Code} {D : va_G} {cy : Nat → ClassId} {T0 tB tE : Nat} {A : Nat → Prop} {a : Nat → Nat} {post : Int32 → GS → Prop} {k175 : GS → Int32 → Prop} {k145 : GS → Int32 → Int32 → Int32 → Prop} (b : Bz p R s m args meth c D cy T0 tB tE A 7 cX12_through RX12 (some .int) "through" 3 68 0 0) (hk175 : ∀ (S : GS) (x5 : Int32), k175 S x5 → Z p l e R s m args below meth c D A 7 (MQ below (QI D (U := GS) post (mw cy a) A) args s 0 0 A) 0 0 (mw cy a S) [(5, .int x5)] 175 []) (hk145 : ∀ (S : GS) (x3 : Int32) (x5 : Int32) (x6 : Int32), k145 S x3 x5 x6 → Z p l e R s m args below meth c D A 7 (MQ below (QI D (U := GS) post (mw cy a) A) args s 0 0 A) 0 0 (mw cy a S) [(0, .ref (a 0)), (3, .int x3), (5, .int x5), (6, .int x6)] 145 []) (S : GS) (x3 : Int32) (x5 : Int32) (x6 : Int32) (h : w_X12_through_F145 post k175 k145 S x3 x5 x6) : Z p l e R s m args below meth c D A 7 (MQ below (QI D (U := GS) post (mw cy a) A) args s 0 0 A) 0 0 (mw cy a S) [(0, .ref (a 0)), (3, .int x3), (5, .int x5), (6, .int x6)] 145 [] := by
  unfold w_X12_through_F145 at h
  refine z_iload b dX12_through_145 rfl ?_
  refine z_iconst (v := 3) b dX12_through_147 (by decide) ?_
  refine y_icmp_ge (tgt := 175) (xl := x6.toInt) (yl := 3) b rfl (by decide) dX12_through_148 (by decide) (fun c1 => ?_) (fun c1 => ?_)
  · replace h := h.1 c1
    refine z_lv0 (lv' := [(5, .int x5)]) [2] rfl ?_
    exact hk175 _ _ h
  · replace h := h.2 c1
    refine z_bipush (v := 10) b dX12_through_151 (by decide) ?_
    refine z_iload b dX12_through_153 rfl ?_
    refine z_imul b dX12_through_155 rfl ?_
    refine z_aload_n b dX12_through_156 rfl rfl ?_
    refine z_iload_n b dX12_through_157 rfl rfl ?_
    refine z_bipush (v := 6) b dX12_through_158 (by decide) ?_
    refine z_irem b dX12_through_160 (by decide) rfl ?_
    refine z_iload b dX12_through_161 rfl ?_
    refine z_calli b (z_runV (q0 := 0) (As := [.int (x3 - x3 / 6 * 6), .int x6]) (st := [.int ((10 : Int32) * x5)]) b (k_X12_renamed S (x3 - x3 / 6 * 6) x6 _ h) cf_X12_renamed (mw_0 cy a S) rfl wm_X12_445 wi_X12_renamed ws_X12_renamed dX12_through_163 rfl (Nat.le_of_ble_eq_true rfl) ⟨by decide, by decide, by decide, by decide⟩) (fun r10 S11 h => ?_)
    refine z_iadd b dX12_through_166 rfl ?_
    refine z_istore (lv' := [(5, .int (((10 : Int32) * x5) + r10)), (0, .ref (a 0)), (3, .int x3), (6, .int x6)]) b dX12_through_167 (by decide) rfl ?_
    refine z_iinc (k9 := 3) (v := (x6 + 1)) (lv' := [(6, .int (x6 + 1)), (5, .int (((10 : Int32) * x5) + r10)), (0, .ref (a 0)), (3, .int x3)]) b dX12_through_169 rfl rfl (by decide) rfl ?_
    refine z_goto (tgt := 145) b dX12_through_172 (by decide) ?_
    refine z_lv0 (lv' := [(0, .ref (a 0)), (3, .int x3), (5, .int (((10 : Int32) * x5) + r10)), (6, .int (x6 + 1))]) [2, 3, 1, 0] rfl ?_
    exact hk145 _ _ _ _ h

set_option maxHeartbeats 4000000 in
set_option maxRecDepth 100000 in
theorem zl_X12_through_L145 {p : Program} {l : Launch} {e : Env} {R : Room} {s : State} {m : MethodId} {args : Array Value} {below : List Frame} {meth : Method} {c : Code} {D : va_G} {cy : Nat → ClassId} {T0 tB tE : Nat} {A : Nat → Prop} {a : Nat → Nat} {post : Int32 → GS → Prop} {k175 : GS → Int32 → Prop} (b : Bz p R s m args meth c D cy T0 tB tE A 7 cX12_through RX12 (some .int) "through" 3 68 0 0) (hk175 : ∀ (S : GS) (x5 : Int32), k175 S x5 → Z p l e R s m args below meth c D A 7 (MQ below (QI D (U := GS) post (mw cy a) A) args s 0 0 A) 0 0 (mw cy a S) [(5, .int x5)] 175 []) : ∀ (n : Nat) (S : GS) (x3 : Int32) (x5 : Int32) (x6 : Int32), lpn (w_X12_through_F145 post k175) (fun _ _ _ _ => False) n S x3 x5 x6 → Z p l e R s m args below meth c D A 7 (MQ below (QI D (U := GS) post (mw cy a) A) args s 0 0 A) 0 0 (mw cy a S) [(0, .ref (a 0)), (3, .int x3), (5, .int x5), (6, .int x6)] 145 [] := by
  intro n
  induction n with
  | zero => intro _ _ _ _ h; exact h.elim
  | succ n ih => intro S x3 x5 x6 h; exact z_X12_through_F145 b hk175 ih S x3 x5 x6 h

def w_X12_through_B175 (post : Int32 → GS → Prop) (S : GS) (x5 : Int32) : Prop :=
  post x5 S

set_option maxHeartbeats 4000000 in
set_option maxRecDepth 100000 in
theorem z_X12_through_B175 {p : Program} {l : Launch} {e : Env} {R : Room} {s : State} {m : MethodId} {args : Array Value} {below : List Frame} {meth : Method} {c : Code} {D : va_G} {cy : Nat → ClassId} {T0 tB tE : Nat} {A : Nat → Prop} {a : Nat → Nat} {post : Int32 → GS → Prop} (b : Bz p R s m args meth c D cy T0 tB tE A 7 cX12_through RX12 (some .int) "through" 3 68 0 0) (S : GS) (x5 : Int32) (h : w_X12_through_B175 post S x5) : Z p l e R s m args below meth c D A 7 (MQ below (QI D (U := GS) post (mw cy a) A) args s 0 0 A) 0 0 (mw cy a S) [(5, .int x5)] 175 [] := by
  unfold w_X12_through_B175 at h
  refine z_iload b dX12_through_175 rfl ?_
  exact z_iret (u := S) b rfl dX12_through_177 h rfl (by decide) (by decide)

def w_X12_through_B142 (post : Int32 → GS → Prop) (S : GS) (x3 : Int32) (x5 : Int32) : Prop :=
  ∃ n, lpn (w_X12_through_F145 post (w_X12_through_B175 post)) (fun _ _ _ _ => False) n S x3 x5 0

set_option maxHeartbeats 4000000 in
set_option maxRecDepth 100000 in
theorem z_X12_through_B142 {p : Program} {l : Launch} {e : Env} {R : Room} {s : State} {m : MethodId} {args : Array Value} {below : List Frame} {meth : Method} {c : Code} {D : va_G} {cy : Nat → ClassId} {T0 tB tE : Nat} {A : Nat → Prop} {a : Nat → Nat} {post : Int32 → GS → Prop} (b : Bz p R s m args meth c D cy T0 tB tE A 7 cX12_through RX12 (some .int) "through" 3 68 0 0) (S : GS) (x3 : Int32) (x5 : Int32) (h : w_X12_through_B142 post S x3 x5) : Z p l e R s m args below meth c D A 7 (MQ below (QI D (U := GS) post (mw cy a) A) args s 0 0 A) 0 0 (mw cy a S) [(0, .ref (a 0)), (3, .int x3), (5, .int x5)] 142 [] := by
  unfold w_X12_through_B142 at h
  refine z_iconst (v := 0) b dX12_through_142 (by decide) ?_
  refine z_istore (lv' := [(6, .int 0), (0, .ref (a 0)), (3, .int x3), (5, .int x5)]) b dX12_through_143 (by decide) rfl ?_
  refine z_lv0 (lv' := [(0, .ref (a 0)), (3, .int x3), (5, .int x5), (6, .int 0)]) [1, 2, 3, 0] rfl ?_
  obtain ⟨n, h⟩ := h
  exact zl_X12_through_L145 b (fun S x5 h => z_X12_through_B175 b _ _ h) n _ _ _ _ h

def w_X12_through_B85 (post : Int32 → GS → Prop) (S : GS) (x2 : Int32) (x3 : Int32) (x4 : Int32) : Prop :=
  ((x3.toInt = (-1) → w_X12_through_B94 post S x3 x4) ∧ (x3.toInt ≠ (-1) → ((x2.toInt ≠ 0 → ∃ n, lpn (w_X12_through_F112 post (w_X12_through_B142 post)) (fun _ _ _ _ => False) n S x3 0 0) ∧ (x2.toInt = 0 → w_X12_through_B94 post S x3 x4))))

set_option maxHeartbeats 4000000 in
set_option maxRecDepth 100000 in
theorem z_X12_through_B85 {p : Program} {l : Launch} {e : Env} {R : Room} {s : State} {m : MethodId} {args : Array Value} {below : List Frame} {meth : Method} {c : Code} {D : va_G} {cy : Nat → ClassId} {T0 tB tE : Nat} {A : Nat → Prop} {a : Nat → Nat} {post : Int32 → GS → Prop} (b : Bz p R s m args meth c D cy T0 tB tE A 7 cX12_through RX12 (some .int) "through" 3 68 0 0) (S : GS) (x2 : Int32) (x3 : Int32) (x4 : Int32) (h : w_X12_through_B85 post S x2 x3 x4) : Z p l e R s m args below meth c D A 7 (MQ below (QI D (U := GS) post (mw cy a) A) args s 0 0 A) 0 0 (mw cy a S) [(0, .ref (a 0)), (2, .int x2), (3, .int x3), (4, .int x4)] 85 [] := by
  unfold w_X12_through_B85 at h
  refine z_iload_n b dX12_through_85 rfl rfl ?_
  refine z_iconst (v := (-1)) b dX12_through_86 (by decide) ?_
  refine y_icmp_eq (tgt := 94) (xl := x3.toInt) (yl := (-1)) b rfl (by decide) dX12_through_87 (by decide) (fun c1 => ?_) (fun c1 => ?_)
  · replace h := h.1 c1
    refine z_lv0 (lv' := [(3, .int x3), (4, .int x4)]) [2, 3] rfl ?_
    exact z_X12_through_B94 b _ _ _ h
  · replace h := h.2 c1
    refine z_iload_n b dX12_through_90 rfl rfl ?_
    refine y_if_ne (tgt := 106) (xl := x2.toInt) b rfl dX12_through_91 (by decide) (fun c1 => ?_) (fun c1 => ?_)
    · replace h := h.1 c1
      refine z_iconst (v := 0) b dX12_through_106 (by decide) ?_
      refine z_istore (lv' := [(5, .int 0), (0, .ref (a 0)), (2, .int x2), (3, .int x3), (4, .int x4)]) b dX12_through_107 (by decide) rfl ?_
      refine z_iconst (v := 0) b dX12_through_109 (by decide) ?_
      refine z_istore (lv' := [(6, .int 0), (5, .int 0), (0, .ref (a 0)), (2, .int x2), (3, .int x3), (4, .int x4)]) b dX12_through_110 (by decide) rfl ?_
      refine z_lv0 (lv' := [(0, .ref (a 0)), (3, .int x3), (5, .int 0), (6, .int 0)]) [2, 4, 1, 0] rfl ?_
      obtain ⟨n, h⟩ := h
      exact zl_X12_through_L112 b (fun S x3 x5 h => z_X12_through_B142 b _ _ _ h) n _ _ _ _ h
    · replace h := h.2 c1
      refine z_lv0 (lv' := [(3, .int x3), (4, .int x4)]) [2, 3] rfl ?_
      exact z_X12_through_B94 b _ _ _ h

def w_X12_through (S : GS) (p0 : Int32) (p1 : Int32) (post : Int32 → GS → Prop) : Prop :=
  w_X12_isRow S p0 (fun r1 S2 => ((r1.toInt = 0 → w_X12_through_B25 post S2) ∧ (r1.toInt ≠ 0 → (0 ≤ p0.toInt ∧ p0.toInt < 6) ∧ ((((ar S2 38) p0.toNatClampNeg).toInt = 0 → w_X12_through_B25 post S2) ∧ (((ar S2 38) p0.toNatClampNeg).toInt ≠ 0 → w_X12_isIn S2 p1 0 1 (fun r4 S5 => ((r4.toInt ≠ 0 → ∃ n, lpn (w_X12_through_F35 post (w_X12_through_B85 post)) (fun _ _ _ _ _ _ => False) n S5 p0 p1 (-1) 0 0) ∧ (r4.toInt = 0 → w_X12_through_B25 post S5))))))))

set_option maxHeartbeats 4000000 in
set_option maxRecDepth 100000 in
theorem k_X12_through {l : Launch} {D : va_G} {cy : Nat → ClassId} {T0 tB tE : Nat} {a : Nat → Nat} (S : GS) (p0 : Int32) (p1 : Int32) (post : Int32 → GS → Prop) (h : w_X12_through S p0 p1 post) : Ct l D cy T0 tB tE yX12_through cX12_through 7 (some .int) 3 68 0 0 (mw cy a S) [.ref (a 0), .int p0, .int p1] (QI D (U := GS) post (mw cy a)) := by
  refine Ct.ofZ RX12 "through" [(0, .ref (a 0)), (1, .int p0), (2, .int p1)] rfl rfl rfl rfl (Nat.le_of_ble_eq_true rfl) ?_
  intro p e R s m args below meth c A b
  unfold w_X12_through at h
  refine z_iload_n b dX12_through_0 rfl rfl ?_
  refine z_calli b (z_runS (As := [.int p0]) (st := []) b (k_X12_isRow S p0 _ h) cf_X12_isRow wm_X12_452 ws_X12_isRow dX12_through_1 rfl (Nat.le_of_ble_eq_true rfl) ⟨by decide, by decide, by decide, by decide⟩) (fun r1 S2 h => ?_)
  refine y_if_eq (tgt := 25) (xl := r1.toInt) b rfl dX12_through_4 (by decide) (fun c1 => ?_) (fun c1 => ?_)
  · replace h := h.1 c1
    refine z_lv0 (lv' := []) [] rfl ?_
    exact z_X12_through_B25 b _ h
  · replace h := h.2 c1
    refine z_aload_n b dX12_through_7 rfl rfl ?_
    refine z_get (q0 := 0) (k9 := 66) (v := .ref (a 41)) b (mw_0 cy a S2) rfl in_X12 (by decide) wf_X12_140 rfl dX12_through_8 ?_
    refine z_iload_n b dX12_through_11 rfl rfl ?_
    obtain ⟨g3, h⟩ := h
    refine y_iald (q0 := 41) (j := p0.toNatClampNeg) (v := ((ar S2 38) p0.toNatClampNeg)) b (mw_41 cy a S2) (zx_r g3.1 g3.2) rfl dX12_through_12 ?_
    refine y_if_eq (tgt := 25) (xl := ((ar S2 38) p0.toNatClampNeg).toInt) b rfl dX12_through_13 (by decide) (fun c1 => ?_) (fun c1 => ?_)
    · replace h := h.1 c1
      refine z_lv0 (lv' := []) [] rfl ?_
      exact z_X12_through_B25 b _ h
    · replace h := h.2 c1
      refine z_iload_n b dX12_through_16 rfl rfl ?_
      refine z_iconst (v := 0) b dX12_through_17 (by decide) ?_
      refine z_iconst (v := 1) b dX12_through_18 (by decide) ?_
      refine z_calli b (z_runS (As := [.int p1, .int 0, .int 1]) (st := []) b (k_X12_isIn S2 p1 0 1 _ h) cf_X12_isIn wm_X12_1 ws_X12_isIn dX12_through_19 rfl (Nat.le_of_ble_eq_true rfl) ⟨by decide, by decide, by decide, by decide⟩) (fun r4 S5 h => ?_)
      refine y_if_ne (tgt := 27) (xl := r4.toInt) b rfl dX12_through_22 (by decide) (fun c1 => ?_) (fun c1 => ?_)
      · replace h := h.1 c1
        refine z_iconst (v := (-1)) b dX12_through_27 (by decide) ?_
        refine z_istore_n (lv' := [(3, .int (-1)), (0, .ref (a 0)), (1, .int p0), (2, .int p1)]) b dX12_through_28 rfl (by decide) rfl ?_
        refine z_iconst (v := 0) b dX12_through_29 (by decide) ?_
        refine z_istore (lv' := [(4, .int 0), (3, .int (-1)), (0, .ref (a 0)), (1, .int p0), (2, .int p1)]) b dX12_through_30 (by decide) rfl ?_
        refine z_iconst (v := 0) b dX12_through_32 (by decide) ?_
        refine z_istore (lv' := [(5, .int 0), (4, .int 0), (3, .int (-1)), (0, .ref (a 0)), (1, .int p0), (2, .int p1)]) b dX12_through_33 (by decide) rfl ?_
        refine z_lv0 (lv' := [(0, .ref (a 0)), (1, .int p0), (2, .int p1), (3, .int (-1)), (4, .int 0), (5, .int 0)]) [3, 4, 5, 2, 1, 0] rfl ?_
        obtain ⟨n, h⟩ := h
        exact zl_X12_through_L35 b (fun S x2 x3 x4 h => z_X12_through_B85 b _ _ _ _ h) n _ _ _ _ _ _ h
      · replace h := h.2 c1
        refine z_lv0 (lv' := []) [] rfl ?_
        exact z_X12_through_B25 b _ h

def w_X12_gain_B27 (post : Int32 → GS → Prop) (S : GS)  : Prop :=
  post (-100) S

set_option maxHeartbeats 4000000 in
set_option maxRecDepth 100000 in
theorem z_X12_gain_B27 {p : Program} {l : Launch} {e : Env} {R : Room} {s : State} {m : MethodId} {args : Array Value} {below : List Frame} {meth : Method} {c : Code} {D : va_G} {cy : Nat → ClassId} {T0 tB tE : Nat} {A : Nat → Prop} {a : Nat → Nat} {post : Int32 → GS → Prop} (b : Bz p R s m args meth c D cy T0 tB tE A 9 cX12_gain RX12 (some .int) "gain" 6 164 0 0) (S : GS)  (h : w_X12_gain_B27 post S ) : Z p l e R s m args below meth c D A 9 (MQ below (QI D (U := GS) post (mw cy a) A) args s 0 0 A) 0 0 (mw cy a S) [] 27 [] := by
  unfold w_X12_gain_B27 at h
  refine z_bipush (v := (-100)) b dX12_gain_27 (by decide) ?_
  exact z_iret (u := S) b rfl dX12_gain_29 h rfl (by decide) (by decide)

def w_X12_gain_B141 (post : Int32 → GS → Prop) (k59 : GS → Int32 → Int32 → Int32 → Int32 → Int32 → Prop) (k147 : GS → Int32 → Int32 → Int32 → Prop) (S : GS) (x1 : Int32) (x4 : Int32) (x5 : Int32) (x6 : Int32) (x7 : Int32) : Prop :=
  k59 S x1 x4 x5 x6 (x7 + 1)

set_option maxHeartbeats 4000000 in
set_option maxRecDepth 100000 in
theorem z_X12_gain_B141 {p : Program} {l : Launch} {e : Env} {R : Room} {s : State} {m : MethodId} {args : Array Value} {below : List Frame} {meth : Method} {c : Code} {D : va_G} {cy : Nat → ClassId} {T0 tB tE : Nat} {A : Nat → Prop} {a : Nat → Nat} {post : Int32 → GS → Prop} {k59 : GS → Int32 → Int32 → Int32 → Int32 → Int32 → Prop} {k147 : GS → Int32 → Int32 → Int32 → Prop} (b : Bz p R s m args meth c D cy T0 tB tE A 9 cX12_gain RX12 (some .int) "gain" 6 164 0 0) (hk59 : ∀ (S : GS) (x1 : Int32) (x4 : Int32) (x5 : Int32) (x6 : Int32) (x7 : Int32), k59 S x1 x4 x5 x6 x7 → Z p l e R s m args below meth c D A 9 (MQ below (QI D (U := GS) post (mw cy a) A) args s 0 0 A) 0 0 (mw cy a S) [(0, .ref (a 0)), (1, .int x1), (4, .int x4), (5, .int x5), (6, .int x6), (7, .int x7)] 59 []) (hk147 : ∀ (S : GS) (x4 : Int32) (x5 : Int32) (x6 : Int32), k147 S x4 x5 x6 → Z p l e R s m args below meth c D A 9 (MQ below (QI D (U := GS) post (mw cy a) A) args s 0 0 A) 0 0 (mw cy a S) [(0, .ref (a 0)), (4, .int x4), (5, .int x5), (6, .int x6)] 147 []) (S : GS) (x1 : Int32) (x4 : Int32) (x5 : Int32) (x6 : Int32) (x7 : Int32) (h : w_X12_gain_B141 post k59 k147 S x1 x4 x5 x6 x7) : Z p l e R s m args below meth c D A 9 (MQ below (QI D (U := GS) post (mw cy a) A) args s 0 0 A) 0 0 (mw cy a S) [(0, .ref (a 0)), (1, .int x1), (4, .int x4), (5, .int x5), (6, .int x6), (7, .int x7)] 141 [] := by
  unfold w_X12_gain_B141 at h
  refine z_iinc (k9 := 5) (v := (x7 + 1)) (lv' := [(7, .int (x7 + 1)), (0, .ref (a 0)), (1, .int x1), (4, .int x4), (5, .int x5), (6, .int x6)]) b dX12_gain_141 rfl rfl (by decide) rfl ?_
  refine z_goto (tgt := 59) b dX12_gain_144 (by decide) ?_
  refine z_lv0 (lv' := [(0, .ref (a 0)), (1, .int x1), (4, .int x4), (5, .int x5), (6, .int x6), (7, .int (x7 + 1))]) [1, 2, 3, 4, 5, 0] rfl ?_
  exact hk59 _ _ _ _ _ _ h

def w_X12_gain_B133 (post : Int32 → GS → Prop) (k59 : GS → Int32 → Int32 → Int32 → Int32 → Int32 → Prop) (k147 : GS → Int32 → Int32 → Int32 → Prop) (S : GS) (x1 : Int32) (x4 : Int32) (x7 : Int32) (x8 : Int32) : Prop :=
  w_X12_gain_B141 post k59 k147 S x1 x4 x7 x8 x7

set_option maxHeartbeats 4000000 in
set_option maxRecDepth 100000 in
theorem z_X12_gain_B133 {p : Program} {l : Launch} {e : Env} {R : Room} {s : State} {m : MethodId} {args : Array Value} {below : List Frame} {meth : Method} {c : Code} {D : va_G} {cy : Nat → ClassId} {T0 tB tE : Nat} {A : Nat → Prop} {a : Nat → Nat} {post : Int32 → GS → Prop} {k59 : GS → Int32 → Int32 → Int32 → Int32 → Int32 → Prop} {k147 : GS → Int32 → Int32 → Int32 → Prop} (b : Bz p R s m args meth c D cy T0 tB tE A 9 cX12_gain RX12 (some .int) "gain" 6 164 0 0) (hk59 : ∀ (S : GS) (x1 : Int32) (x4 : Int32) (x5 : Int32) (x6 : Int32) (x7 : Int32), k59 S x1 x4 x5 x6 x7 → Z p l e R s m args below meth c D A 9 (MQ below (QI D (U := GS) post (mw cy a) A) args s 0 0 A) 0 0 (mw cy a S) [(0, .ref (a 0)), (1, .int x1), (4, .int x4), (5, .int x5), (6, .int x6), (7, .int x7)] 59 []) (hk147 : ∀ (S : GS) (x4 : Int32) (x5 : Int32) (x6 : Int32), k147 S x4 x5 x6 → Z p l e R s m args below meth c D A 9 (MQ below (QI D (U := GS) post (mw cy a) A) args s 0 0 A) 0 0 (mw cy a S) [(0, .ref (a 0)), (4, .int x4), (5, .int x5), (6, .int x6)] 147 []) (S : GS) (x1 : Int32) (x4 : Int32) (x7 : Int32) (x8 : Int32) (h : w_X12_gain_B133 post k59 k147 S x1 x4 x7 x8) : Z p l e R s m args below meth c D A 9 (MQ below (QI D (U := GS) post (mw cy a) A) args s 0 0 A) 0 0 (mw cy a S) [(0, .ref (a 0)), (1, .int x1), (4, .int x4), (7, .int x7), (8, .int x8)] 133 [] := by
  unfold w_X12_gain_B133 at h
  refine z_iload b dX12_gain_133 rfl ?_
  refine z_istore (lv' := [(5, .int x7), (0, .ref (a 0)), (1, .int x1), (4, .int x4), (7, .int x7), (8, .int x8)]) b dX12_gain_135 (by decide) rfl ?_
  refine z_iload b dX12_gain_137 rfl ?_
  refine z_istore (lv' := [(6, .int x8), (5, .int x7), (0, .ref (a 0)), (1, .int x1), (4, .int x4), (7, .int x7), (8, .int x8)]) b dX12_gain_139 (by decide) rfl ?_
  refine z_lv0 (lv' := [(0, .ref (a 0)), (1, .int x1), (4, .int x4), (5, .int x7), (6, .int x8), (7, .int x7)]) [2, 3, 4, 1, 0, 5] rfl ?_
  exact z_X12_gain_B141 b hk59 hk147 _ _ _ _ _ _ h

def w_X12_gain_F59 (post : Int32 → GS → Prop) (k147 : GS → Int32 → Int32 → Int32 → Prop) (k59 : GS → Int32 → Int32 → Int32 → Int32 → Int32 → Prop) (S : GS) (x1 : Int32) (x4 : Int32) (x5 : Int32) (x6 : Int32) (x7 : Int32) : Prop :=
  (((fi S 21).toInt ≤ x7.toInt → k147 S x4 x5 x6) ∧ (x7.toInt < (fi S 21).toInt → (0 ≤ x7.toInt ∧ x7.toInt < 400) ∧ w_X12_takes S ((al S 0) x7.toNatClampNeg) (fun S11 => (0 ≤ x1.toInt ∧ x1.toInt < 3) ∧ w_X12_other S11 x1 0 (fun r13 S14 => (0 ≤ (((3 : Int32) * x1) + r13).toInt ∧ (((3 : Int32) * x1) + r13).toInt < 9) ∧ w_X12_other S14 x1 1 (fun r16 S17 => (0 ≤ (((3 : Int32) * x1) + r16).toInt ∧ (((3 : Int32) * x1) + r16).toInt < 9) ∧ ((x5.toInt = (-1) → w_X12_gain_B133 post k59 k147 S17 x1 x4 x7 ((((ar S11 0) x1.toNatClampNeg) - ((ar S14 1) (((3 : Int32) * x1) + r13).toNatClampNeg)) - ((ar S17 1) (((3 : Int32) * x1) + r16).toNatClampNeg))) ∧ (x5.toInt ≠ (-1) → ((x6.toInt < ((((ar S11 0) x1.toNatClampNeg) - ((ar S14 1) (((3 : Int32) * x1) + r13).toNatClampNeg)) - ((ar S17 1) (((3 : Int32) * x1) + r16).toNatClampNeg)).toInt → w_X12_gain_B133 post k59 k147 S17 x1 x4 x7 ((((ar S11 0) x1.toNatClampNeg) - ((ar S14 1) (((3 : Int32) * x1) + r13).toNatClampNeg)) - ((ar S17 1) (((3 : Int32) * x1) + r16).toNatClampNeg))) ∧ (((((ar S11 0) x1.toNatClampNeg) - ((ar S14 1) (((3 : Int32) * x1) + r13).toNatClampNeg)) - ((ar S17 1) (((3 : Int32) * x1) + r16).toNatClampNeg)).toInt ≤ x6.toInt → w_X12_gain_B141 post k59 k147 S17 x1 x4 x5 x6 x7)))))))))

set_option maxHeartbeats 4000000 in
set_option maxRecDepth 100000 in
theorem z_X12_gain_F59 {p : Program} {l : Launch} {e : Env} {R : Room} {s : State} {m : MethodId} {args : Array Value} {below : List Frame} {meth : Method} {c : Code} {D : va_G} {cy : Nat → ClassId} {T0 tB tE : Nat} {A : Nat → Prop} {a : Nat → Nat} {post : Int32 → GS → Prop} {k147 : GS → Int32 → Int32 → Int32 → Prop} {k59 : GS → Int32 → Int32 → Int32 → Int32 → Int32 → Prop} (b : Bz p R s m args meth c D cy T0 tB tE A 9 cX12_gain RX12 (some .int) "gain" 6 164 0 0) (hk147 : ∀ (S : GS) (x4 : Int32) (x5 : Int32) (x6 : Int32), k147 S x4 x5 x6 → Z p l e R s m args below meth c D A 9 (MQ below (QI D (U := GS) post (mw cy a) A) args s 0 0 A) 0 0 (mw cy a S) [(0, .ref (a 0)), (4, .int x4), (5, .int x5), (6, .int x6)] 147 []) (hk59 : ∀ (S : GS) (x1 : Int32) (x4 : Int32) (x5 : Int32) (x6 : Int32) (x7 : Int32), k59 S x1 x4 x5 x6 x7 → Z p l e R s m args below meth c D A 9 (MQ below (QI D (U := GS) post (mw cy a) A) args s 0 0 A) 0 0 (mw cy a S) [(0, .ref (a 0)), (1, .int x1), (4, .int x4), (5, .int x5), (6, .int x6), (7, .int x7)] 59 []) (S : GS) (x1 : Int32) (x4 : Int32) (x5 : Int32) (x6 : Int32) (x7 : Int32) (h : w_X12_gain_F59 post k147 k59 S x1 x4 x5 x6 x7) : Z p l e R s m args below meth c D A 9 (MQ below (QI D (U := GS) post (mw cy a) A) args s 0 0 A) 0 0 (mw cy a S) [(0, .ref (a 0)), (1, .int x1), (4, .int x4), (5, .int x5), (6, .int x6), (7, .int x7)] 59 [] := by
  unfold w_X12_gain_F59 at h
  refine z_iload b dX12_gain_59 rfl ?_
  refine z_aload_n b dX12_gain_61 rfl rfl ?_
  refine z_get (q0 := 0) (k9 := 55) (v := .int (fi S 21)) b (mw_0 cy a S) rfl in_X12 (by decide) wf_X12_405 rfl dX12_gain_62 ?_
  refine y_icmp_ge (tgt := 147) (xl := x7.toInt) (yl := (fi S 21).toInt) b rfl rfl dX12_gain_65 (by decide) (fun c1 => ?_) (fun c1 => ?_)
  · replace h := h.1 c1
    refine z_lv0 (lv' := [(0, .ref (a 0)), (4, .int x4), (5, .int x5), (6, .int x6)]) [0, 2, 3, 4] rfl ?_
    exact hk147 _ _ _ _ h
  · replace h := h.2 c1
    refine z_aload_n b dX12_gain_68 rfl rfl ?_
    refine z_aload_n b dX12_gain_69 rfl rfl ?_
    refine z_get (q0 := 0) (k9 := 49) (v := .ref (a 27)) b (mw_0 cy a S) rfl in_X12 (by decide) wf_X12_97 rfl dX12_gain_70 ?_
    refine z_iload b dX12_gain_73 rfl ?_
    obtain ⟨g9, h⟩ := h
    refine y_lald (q0 := 27) (j := x7.toNatClampNeg) (v := ((al S 0) x7.toNatClampNeg)) b (mw_27 cy a S) (zx_r g9.1 g9.2) rfl dX12_gain_75 ?_
    refine z_callv b (z_runV (q0 := 0) (As := [.long ((al S 0) x7.toNatClampNeg)]) (st := []) b (k_X12_takes S ((al S 0) x7.toNatClampNeg) _ h) cf_X12_takes (mw_0 cy a S) rfl wm_X12_174 wi_X12_takes ws_X12_takes dX12_gain_76 rfl (Nat.le_of_ble_eq_true rfl) ⟨by decide, by decide, by decide, by decide⟩) (fun S11 h => ?_)
    refine z_aload_n b dX12_gain_79 rfl rfl ?_
    refine z_get (q0 := 0) (k9 := 0) (v := .ref (a 1)) b (mw_0 cy a S11) rfl in_X12 (by decide) wf_X12_13 rfl dX12_gain_80 ?_
    refine z_iload_n b dX12_gain_83 rfl rfl ?_
    obtain ⟨g12, h⟩ := h
    refine y_iald (q0 := 1) (j := x1.toNatClampNeg) (v := ((ar S11 0) x1.toNatClampNeg)) b (mw_1 cy a S11) (zx_r g12.1 g12.2) rfl dX12_gain_84 ?_
    refine z_aload_n b dX12_gain_85 rfl rfl ?_
    refine z_get (q0 := 0) (k9 := 1) (v := .ref (a 2)) b (mw_0 cy a S11) rfl in_X12 (by decide) wf_X12_17 rfl dX12_gain_86 ?_
    refine z_iconst (v := 3) b dX12_gain_89 (by decide) ?_
    refine z_iload_n b dX12_gain_90 rfl rfl ?_
    refine z_imul b dX12_gain_91 rfl ?_
    refine z_iload_n b dX12_gain_92 rfl rfl ?_
    refine z_iconst (v := 0) b dX12_gain_93 (by decide) ?_
    refine z_calli b (z_runS (As := [.int x1, .int 0]) (st := [.int ((3 : Int32) * x1), .ref (a 2), .int ((ar S11 0) x1.toNatClampNeg)]) b (k_X12_other S11 x1 0 _ h) cf_X12_other wm_X12_160 ws_X12_other dX12_gain_94 rfl (Nat.le_of_ble_eq_true rfl) ⟨by decide, by decide, by decide, by decide⟩) (fun r13 S14 h => ?_)
    refine z_iadd b dX12_gain_97 rfl ?_
    obtain ⟨g15, h⟩ := h
    refine y_iald (q0 := 2) (j := (((3 : Int32) * x1) + r13).toNatClampNeg) (v := ((ar S14 1) (((3 : Int32) * x1) + r13).toNatClampNeg)) b (mw_2 cy a S14) (zx_r g15.1 g15.2) rfl dX12_gain_98 ?_
    refine z_isub b dX12_gain_99 rfl ?_
    refine z_aload_n b dX12_gain_100 rfl rfl ?_
    refine z_get (q0 := 0) (k9 := 1) (v := .ref (a 2)) b (mw_0 cy a S14) rfl in_X12 (by decide) wf_X12_17 rfl dX12_gain_101 ?_
    refine z_iconst (v := 3) b dX12_gain_104 (by decide) ?_
    refine z_iload_n b dX12_gain_105 rfl rfl ?_
    refine z_imul b dX12_gain_106 rfl ?_
    refine z_iload_n b dX12_gain_107 rfl rfl ?_
    refine z_iconst (v := 1) b dX12_gain_108 (by decide) ?_
    refine z_calli b (z_runS (As := [.int x1, .int 1]) (st := [.int ((3 : Int32) * x1), .ref (a 2), .int (((ar S11 0) x1.toNatClampNeg) - ((ar S14 1) (((3 : Int32) * x1) + r13).toNatClampNeg))]) b (k_X12_other S14 x1 1 _ h) cf_X12_other wm_X12_160 ws_X12_other dX12_gain_109 rfl (Nat.le_of_ble_eq_true rfl) ⟨by decide, by decide, by decide, by decide⟩) (fun r16 S17 h => ?_)
    refine z_iadd b dX12_gain_112 rfl ?_
    obtain ⟨g18, h⟩ := h
    refine y_iald (q0 := 2) (j := (((3 : Int32) * x1) + r16).toNatClampNeg) (v := ((ar S17 1) (((3 : Int32) * x1) + r16).toNatClampNeg)) b (mw_2 cy a S17) (zx_r g18.1 g18.2) rfl dX12_gain_113 ?_
    refine z_isub b dX12_gain_114 rfl ?_
    refine z_istore (lv' := [(8, .int ((((ar S11 0) x1.toNatClampNeg) - ((ar S14 1) (((3 : Int32) * x1) + r13).toNatClampNeg)) - ((ar S17 1) (((3 : Int32) * x1) + r16).toNatClampNeg))), (0, .ref (a 0)), (1, .int x1), (4, .int x4), (5, .int x5), (6, .int x6), (7, .int x7)]) b dX12_gain_115 (by decide) rfl ?_
    refine z_iload b dX12_gain_117 rfl ?_
    refine z_iconst (v := (-1)) b dX12_gain_119 (by decide) ?_
    refine y_icmp_eq (tgt := 133) (xl := x5.toInt) (yl := (-1)) b rfl (by decide) dX12_gain_120 (by decide) (fun c1 => ?_) (fun c1 => ?_)
    · replace h := h.1 c1
      refine z_lv0 (lv' := [(0, .ref (a 0)), (1, .int x1), (4, .int x4), (7, .int x7), (8, .int ((((ar S11 0) x1.toNatClampNeg) - ((ar S14 1) (((3 : Int32) * x1) + r13).toNatClampNeg)) - ((ar S17 1) (((3 : Int32) * x1) + r16).toNatClampNeg)))]) [1, 2, 3, 6, 0] rfl ?_
      exact z_X12_gain_B133 b hk59 hk147 _ _ _ _ _ h
    · replace h := h.2 c1
      refine z_iload b dX12_gain_123 rfl ?_
      refine z_iload b dX12_gain_125 rfl ?_
      refine y_icmp_gt (tgt := 133) (xl := ((((ar S11 0) x1.toNatClampNeg) - ((ar S14 1) (((3 : Int32) * x1) + r13).toNatClampNeg)) - ((ar S17 1) (((3 : Int32) * x1) + r16).toNatClampNeg)).toInt) (yl := x6.toInt) b rfl rfl dX12_gain_127 (by decide) (fun c1 => ?_) (fun c1 => ?_)
      · replace h := h.1 c1
        refine z_lv0 (lv' := [(0, .ref (a 0)), (1, .int x1), (4, .int x4), (7, .int x7), (8, .int ((((ar S11 0) x1.toNatClampNeg) - ((ar S14 1) (((3 : Int32) * x1) + r13).toNatClampNeg)) - ((ar S17 1) (((3 : Int32) * x1) + r16).toNatClampNeg)))]) [1, 2, 3, 6, 0] rfl ?_
        exact z_X12_gain_B133 b hk59 hk147 _ _ _ _ _ h
      · replace h := h.2 c1
        refine z_goto (tgt := 141) b dX12_gain_130 (by decide) ?_
        refine z_lv0 (lv' := [(0, .ref (a 0)), (1, .int x1), (4, .int x4), (5, .int x5), (6, .int x6), (7, .int x7)]) [1, 2, 3, 4, 5, 6] rfl ?_
        exact z_X12_gain_B141 b hk59 hk147 _ _ _ _ _ _ h

set_option maxHeartbeats 4000000 in
set_option maxRecDepth 100000 in
theorem zl_X12_gain_L59 {p : Program} {l : Launch} {e : Env} {R : Room} {s : State} {m : MethodId} {args : Array Value} {below : List Frame} {meth : Method} {c : Code} {D : va_G} {cy : Nat → ClassId} {T0 tB tE : Nat} {A : Nat → Prop} {a : Nat → Nat} {post : Int32 → GS → Prop} {k147 : GS → Int32 → Int32 → Int32 → Prop} (b : Bz p R s m args meth c D cy T0 tB tE A 9 cX12_gain RX12 (some .int) "gain" 6 164 0 0) (hk147 : ∀ (S : GS) (x4 : Int32) (x5 : Int32) (x6 : Int32), k147 S x4 x5 x6 → Z p l e R s m args below meth c D A 9 (MQ below (QI D (U := GS) post (mw cy a) A) args s 0 0 A) 0 0 (mw cy a S) [(0, .ref (a 0)), (4, .int x4), (5, .int x5), (6, .int x6)] 147 []) : ∀ (n : Nat) (S : GS) (x1 : Int32) (x4 : Int32) (x5 : Int32) (x6 : Int32) (x7 : Int32), lpn (w_X12_gain_F59 post k147) (fun _ _ _ _ _ _ => False) n S x1 x4 x5 x6 x7 → Z p l e R s m args below meth c D A 9 (MQ below (QI D (U := GS) post (mw cy a) A) args s 0 0 A) 0 0 (mw cy a S) [(0, .ref (a 0)), (1, .int x1), (4, .int x4), (5, .int x5), (6, .int x6), (7, .int x7)] 59 [] := by
  intro n
  induction n with
  | zero => intro _ _ _ _ _ _ h; exact h.elim
  | succ n ih => intro S x1 x4 x5 x6 x7 h; exact z_X12_gain_F59 b hk147 ih S x1 x4 x5 x6 x7 h

def w_X12_gain_B200 (post : Int32 → GS → Prop) (S : GS) (y0 : Int32) : Prop :=
  post y0 S

set_option maxHeartbeats 4000000 in
set_option maxRecDepth 100000 in
theorem z_X12_gain_B200 {p : Program} {l : Launch} {e : Env} {R : Room} {s : State} {m : MethodId} {args : Array Value} {below : List Frame} {meth : Method} {c : Code} {D : va_G} {cy : Nat → ClassId} {T0 tB tE : Nat} {A : Nat → Prop} {a : Nat → Nat} {post : Int32 → GS → Prop} (b : Bz p R s m args meth c D cy T0 tB tE A 9 cX12_gain RX12 (some .int) "gain" 6 164 0 0) (S : GS) (y0 : Int32) (h : w_X12_gain_B200 post S y0) : Z p l e R s m args below meth c D A 9 (MQ below (QI D (U := GS) post (mw cy a) A) args s 0 0 A) 0 0 (mw cy a S) [] 200 [.int y0] := by
  unfold w_X12_gain_B200 at h
  exact z_iret (u := S) b rfl dX12_gain_200 h rfl (by decide) (by decide)

def w_X12_gain_B170 (post : Int32 → GS → Prop) (S : GS) (y0 : Int32) : Prop :=
  post y0 S

set_option maxHeartbeats 4000000 in
set_option maxRecDepth 100000 in
theorem z_X12_gain_B170 {p : Program} {l : Launch} {e : Env} {R : Room} {s : State} {m : MethodId} {args : Array Value} {below : List Frame} {meth : Method} {c : Code} {D : va_G} {cy : Nat → ClassId} {T0 tB tE : Nat} {A : Nat → Prop} {a : Nat → Nat} {post : Int32 → GS → Prop} (b : Bz p R s m args meth c D cy T0 tB tE A 9 cX12_gain RX12 (some .int) "gain" 6 164 0 0) (S : GS) (y0 : Int32) (h : w_X12_gain_B170 post S y0) : Z p l e R s m args below meth c D A 9 (MQ below (QI D (U := GS) post (mw cy a) A) args s 0 0 A) 0 0 (mw cy a S) [] 170 [.int y0] := by
  unfold w_X12_gain_B170 at h
  exact z_iret (u := S) b rfl dX12_gain_170 h rfl (by decide) (by decide)

def w_X12_gain_B147 (post : Int32 → GS → Prop) (S : GS) (x4 : Int32) (x5 : Int32) (x6 : Int32) : Prop :=
  ((2 ≤ x4.toInt → (0 ≤ x5.toInt ∧ x5.toInt < 400) ∧ ((((ar S 28) x5.toNatClampNeg).toInt ≤ (x4 - 2).toInt → w_X12_gain_B200 post S (-100)) ∧ ((x4 - 2).toInt < ((ar S 28) x5.toNatClampNeg).toInt → w_X12_codeOf S x5 (x4 - 2) (fun r20 S21 => w_X12_gain_B200 post S21 r20)))) ∧ (x4.toInt < 2 → ((x4.toInt ≠ 0 → (0 ≤ x5.toInt ∧ x5.toInt < 400) ∧ w_X12_gain_B170 post S ((ar S 28) x5.toNatClampNeg)) ∧ (x4.toInt = 0 → w_X12_gain_B170 post S x6))))

set_option maxHeartbeats 4000000 in
set_option maxRecDepth 100000 in
theorem z_X12_gain_B147 {p : Program} {l : Launch} {e : Env} {R : Room} {s : State} {m : MethodId} {args : Array Value} {below : List Frame} {meth : Method} {c : Code} {D : va_G} {cy : Nat → ClassId} {T0 tB tE : Nat} {A : Nat → Prop} {a : Nat → Nat} {post : Int32 → GS → Prop} (b : Bz p R s m args meth c D cy T0 tB tE A 9 cX12_gain RX12 (some .int) "gain" 6 164 0 0) (S : GS) (x4 : Int32) (x5 : Int32) (x6 : Int32) (h : w_X12_gain_B147 post S x4 x5 x6) : Z p l e R s m args below meth c D A 9 (MQ below (QI D (U := GS) post (mw cy a) A) args s 0 0 A) 0 0 (mw cy a S) [(0, .ref (a 0)), (4, .int x4), (5, .int x5), (6, .int x6)] 147 [] := by
  unfold w_X12_gain_B147 at h
  refine z_iload b dX12_gain_147 rfl ?_
  refine z_iconst (v := 2) b dX12_gain_149 (by decide) ?_
  refine y_icmp_ge (tgt := 171) (xl := x4.toInt) (yl := 2) b rfl (by decide) dX12_gain_150 (by decide) (fun c1 => ?_) (fun c1 => ?_)
  · replace h := h.1 c1
    refine z_iload b dX12_gain_171 rfl ?_
    refine z_iconst (v := 2) b dX12_gain_173 (by decide) ?_
    refine z_isub b dX12_gain_174 rfl ?_
    refine z_aload_n b dX12_gain_175 rfl rfl ?_
    refine z_get (q0 := 0) (k9 := 52) (v := .ref (a 30)) b (mw_0 cy a S) rfl in_X12 (by decide) wf_X12_107 rfl dX12_gain_176 ?_
    refine z_iload b dX12_gain_179 rfl ?_
    obtain ⟨g19, h⟩ := h
    refine y_iald (q0 := 30) (j := x5.toNatClampNeg) (v := ((ar S 28) x5.toNatClampNeg)) b (mw_30 cy a S) (zx_r g19.1 g19.2) rfl dX12_gain_181 ?_
    refine y_icmp_ge (tgt := 198) (xl := (x4 - 2).toInt) (yl := ((ar S 28) x5.toNatClampNeg).toInt) b rfl rfl dX12_gain_182 (by decide) (fun c1 => ?_) (fun c1 => ?_)
    · replace h := h.1 c1
      refine z_bipush (v := (-100)) b dX12_gain_198 (by decide) ?_
      refine z_lv0 (lv' := []) [] rfl ?_
      exact z_X12_gain_B200 b _ _ h
    · replace h := h.2 c1
      refine z_aload_n b dX12_gain_185 rfl rfl ?_
      refine z_iload b dX12_gain_186 rfl ?_
      refine z_iload b dX12_gain_188 rfl ?_
      refine z_iconst (v := 2) b dX12_gain_190 (by decide) ?_
      refine z_isub b dX12_gain_191 rfl ?_
      refine z_calli b (z_runV (q0 := 0) (As := [.int x5, .int (x4 - 2)]) (st := []) b (k_X12_codeOf S x5 (x4 - 2) _ h) cf_X12_codeOf (mw_0 cy a S) rfl wm_X12_439 wi_X12_codeOf ws_X12_codeOf dX12_gain_192 rfl (Nat.le_of_ble_eq_true rfl) ⟨by decide, by decide, by decide, by decide⟩) (fun r20 S21 h => ?_)
      refine z_goto (tgt := 200) b dX12_gain_195 (by decide) ?_
      refine z_lv0 (lv' := []) [] rfl ?_
      exact z_X12_gain_B200 b _ _ h
  · replace h := h.2 c1
    refine z_iload b dX12_gain_153 rfl ?_
    refine y_if_ne (tgt := 163) (xl := x4.toInt) b rfl dX12_gain_155 (by decide) (fun c1 => ?_) (fun c1 => ?_)
    · replace h := h.1 c1
      refine z_aload_n b dX12_gain_163 rfl rfl ?_
      refine z_get (q0 := 0) (k9 := 52) (v := .ref (a 30)) b (mw_0 cy a S) rfl in_X12 (by decide) wf_X12_107 rfl dX12_gain_164 ?_
      refine z_iload b dX12_gain_167 rfl ?_
      obtain ⟨g22, h⟩ := h
      refine y_iald (q0 := 30) (j := x5.toNatClampNeg) (v := ((ar S 28) x5.toNatClampNeg)) b (mw_30 cy a S) (zx_r g22.1 g22.2) rfl dX12_gain_169 ?_
      refine z_lv0 (lv' := []) [] rfl ?_
      exact z_X12_gain_B170 b _ _ h
    · replace h := h.2 c1
      refine z_iload b dX12_gain_158 rfl ?_
      refine z_goto (tgt := 170) b dX12_gain_160 (by decide) ?_
      refine z_lv0 (lv' := []) [] rfl ?_
      exact z_X12_gain_B170 b _ _ h

def w_X12_gain (S : GS) (p0 : Int32) (p1 : Int32) (p2 : Int32) (p3 : Int32) (post : Int32 → GS → Prop) : Prop :=
  w_X12_isOne S p0 (fun r1 S2 => ((r1.toInt = 0 → w_X12_gain_B27 post S2) ∧ (r1.toInt ≠ 0 → w_X12_canSearch S2 p1 p2 (fun r3 S4 => ((r3.toInt = 0 → w_X12_gain_B27 post S4) ∧ (r3.toInt ≠ 0 → w_X12_isIn S4 p3 0 7 (fun r5 S6 => ((r5.toInt ≠ 0 → w_X12_searches S6 (-1) p1 p2 7 0 (fun S8 => (((fi S8 23).toInt = 0 → ∃ n, lpn (w_X12_gain_F59 post (w_X12_gain_B147 post)) (fun _ _ _ _ _ _ => False) n S8 p0 p3 (-1) 0 0) ∧ ((fi S8 23).toInt ≠ 0 → post (-101) S8)))) ∧ (r5.toInt = 0 → w_X12_gain_B27 post S6)))))))))

set_option maxHeartbeats 4000000 in
set_option maxRecDepth 100000 in
theorem k_X12_gain {l : Launch} {D : va_G} {cy : Nat → ClassId} {T0 tB tE : Nat} {a : Nat → Nat} (S : GS) (p0 : Int32) (p1 : Int32) (p2 : Int32) (p3 : Int32) (post : Int32 → GS → Prop) (h : w_X12_gain S p0 p1 p2 p3 post) : Ct l D cy T0 tB tE yX12_gain cX12_gain 9 (some .int) 6 164 0 0 (mw cy a S) [.ref (a 0), .int p0, .int p1, .int p2, .int p3] (QI D (U := GS) post (mw cy a)) := by
  refine Ct.ofZ RX12 "gain" [(0, .ref (a 0)), (1, .int p0), (2, .int p1), (3, .int p2), (4, .int p3)] rfl rfl rfl rfl (Nat.le_of_ble_eq_true rfl) ?_
  intro p e R s m args below meth c A b
  unfold w_X12_gain at h
  refine z_iload_n b dX12_gain_0 rfl rfl ?_
  refine z_calli b (z_runS (As := [.int p0]) (st := []) b (k_X12_isOne S p0 _ h) cf_X12_isOne wm_X12_170 ws_X12_isOne dX12_gain_1 rfl (Nat.le_of_ble_eq_true rfl) ⟨by decide, by decide, by decide, by decide⟩) (fun r1 S2 h => ?_)
  refine y_if_eq (tgt := 27) (xl := r1.toInt) b rfl dX12_gain_4 (by decide) (fun c1 => ?_) (fun c1 => ?_)
  · replace h := h.1 c1
    refine z_lv0 (lv' := []) [] rfl ?_
    exact z_X12_gain_B27 b _ h
  · replace h := h.2 c1
    refine z_aload_n b dX12_gain_7 rfl rfl ?_
    refine z_iload_n b dX12_gain_8 rfl rfl ?_
    refine z_iload_n b dX12_gain_9 rfl rfl ?_
    refine z_calli b (z_runV (q0 := 0) (As := [.int p1, .int p2]) (st := []) b (k_X12_canSearch S2 p1 p2 _ h) cf_X12_canSearch (mw_0 cy a S2) rfl wm_X12_433 wi_X12_canSearch ws_X12_canSearch dX12_gain_10 rfl (Nat.le_of_ble_eq_true rfl) ⟨by decide, by decide, by decide, by decide⟩) (fun r3 S4 h => ?_)
    refine y_if_eq (tgt := 27) (xl := r3.toInt) b rfl dX12_gain_13 (by decide) (fun c1 => ?_) (fun c1 => ?_)
    · replace h := h.1 c1
      refine z_lv0 (lv' := []) [] rfl ?_
      exact z_X12_gain_B27 b _ h
    · replace h := h.2 c1
      refine z_iload b dX12_gain_16 rfl ?_
      refine z_iconst (v := 0) b dX12_gain_18 (by decide) ?_
      refine z_bipush (v := 7) b dX12_gain_19 (by decide) ?_
      refine z_calli b (z_runS (As := [.int p3, .int 0, .int 7]) (st := []) b (k_X12_isIn S4 p3 0 7 _ h) cf_X12_isIn wm_X12_1 ws_X12_isIn dX12_gain_21 rfl (Nat.le_of_ble_eq_true rfl) ⟨by decide, by decide, by decide, by decide⟩) (fun r5 S6 h => ?_)
      refine y_if_ne (tgt := 30) (xl := r5.toInt) b rfl dX12_gain_24 (by decide) (fun c1 => ?_) (fun c1 => ?_)
      · replace h := h.1 c1
        refine z_aload_n b dX12_gain_30 rfl rfl ?_
        refine z_iconst (v := (-1)) b dX12_gain_31 (by decide) ?_
        refine z_iload_n b dX12_gain_32 rfl rfl ?_
        refine z_iload_n b dX12_gain_33 rfl rfl ?_
        refine z_bipush (v := 7) b dX12_gain_34 (by decide) ?_
        refine z_iconst (v := 0) b dX12_gain_36 (by decide) ?_
        refine z_callv b (z_runV (q0 := 0) (As := [.int (-1), .int p1, .int p2, .int 7, .int 0]) (st := []) b (k_X12_searches S6 (-1) p1 p2 7 0 _ h) cf_X12_searches (mw_0 cy a S6) rfl wm_X12_436 wi_X12_searches ws_X12_searches dX12_gain_37 rfl (Nat.le_of_ble_eq_true rfl) ⟨by decide, by decide, by decide, by decide⟩) (fun S8 h => ?_)
        refine z_aload_n b dX12_gain_40 rfl rfl ?_
        refine z_get (q0 := 0) (k9 := 57) (v := .int (fi S8 23)) b (mw_0 cy a S8) rfl in_X12 (by decide) wf_X12_408 rfl dX12_gain_41 ?_
        refine y_if_eq (tgt := 50) (xl := (fi S8 23).toInt) b rfl dX12_gain_44 (by decide) (fun c1 => ?_) (fun c1 => ?_)
        · replace h := h.1 c1
          refine z_iconst (v := (-1)) b dX12_gain_50 (by decide) ?_
          refine z_istore (lv' := [(5, .int (-1)), (0, .ref (a 0)), (1, .int p0), (2, .int p1), (3, .int p2), (4, .int p3)]) b dX12_gain_51 (by decide) rfl ?_
          refine z_iconst (v := 0) b dX12_gain_53 (by decide) ?_
          refine z_istore (lv' := [(6, .int 0), (5, .int (-1)), (0, .ref (a 0)), (1, .int p0), (2, .int p1), (3, .int p2), (4, .int p3)]) b dX12_gain_54 (by decide) rfl ?_
          refine z_iconst (v := 0) b dX12_gain_56 (by decide) ?_
          refine z_istore (lv' := [(7, .int 0), (6, .int 0), (5, .int (-1)), (0, .ref (a 0)), (1, .int p0), (2, .int p1), (3, .int p2), (4, .int p3)]) b dX12_gain_57 (by decide) rfl ?_
          refine z_lv0 (lv' := [(0, .ref (a 0)), (1, .int p0), (4, .int p3), (5, .int (-1)), (6, .int 0), (7, .int 0)]) [3, 4, 7, 2, 1, 0] rfl ?_
          obtain ⟨n, h⟩ := h
          exact zl_X12_gain_L59 b (fun S x4 x5 x6 h => z_X12_gain_B147 b _ _ _ _ h) n _ _ _ _ _ _ h
        · replace h := h.2 c1
          refine z_bipush (v := (-101)) b dX12_gain_47 (by decide) ?_
          exact z_iret (u := S8) b rfl dX12_gain_49 h rfl (by decide) (by decide)
      · replace h := h.2 c1
        refine z_lv0 (lv' := []) [] rfl ?_
        exact z_X12_gain_B27 b _ h

