def w_X10_read_B129 (cy : Nat → ClassId) (tE : Nat) (post : KS → Prop) (k18 : KS → Int32 → Int32 → Int32 → Prop) (k139 : KS → Int32 → Prop) (S : KS) (x3 : Int32) (x5 : Int32) (x7 : Int32) : Prop :=
  k18 S x3 x7 (x5 + 1)

set_option maxHeartbeats 200000 in
set_option maxRecDepth 100000 in
theorem z_X10_read_B129 {p : Program} {l : Launch} {e : Env} {R : Room} {s : State} {m : MethodId} {args : Array Value} {below : List Frame} {meth : Method} {c : Code} {D : va_G} {cy : Nat → ClassId} {T0 tB tE : Nat} {A : Nat → Prop} {a : Nat → Nat} {rw : Nat → Option Nat} (hrw : ∀ i, i < 6 → rw i = some (a (12 + 2 * i))) {post : KS → Prop} {k18 : KS → Int32 → Int32 → Int32 → Prop} {k139 : KS → Int32 → Prop} (b : Bz p R s m args meth c D cy T0 tB tE A 9 cX10_read RX10 none "read" 4 121 0 0) (hk18 : ∀ (S : KS) (x3 : Int32) (x4 : Int32) (x5 : Int32), k18 S x3 x4 x5 → Z p l e R s m args below meth c D A 9 (MQ below (QV D (U := KS) post (kw cy a rw) A) args s 0 0 A) 0 0 (kw cy a rw S) [(0, .ref (a 27)), (1, .ref (a 1)), (3, .int x3), (4, .int x4), (5, .int x5)] 18 []) (hk139 : ∀ (S : KS) (x3 : Int32), k139 S x3 → Z p l e R s m args below meth c D A 9 (MQ below (QV D (U := KS) post (kw cy a rw) A) args s 0 0 A) 0 0 (kw cy a rw S) [(0, .ref (a 27)), (3, .int x3)] 139 []) (S : KS) (x3 : Int32) (x5 : Int32) (x7 : Int32) (h : w_X10_read_B129 cy tE post k18 k139 S x3 x5 x7) : Z p l e R s m args below meth c D A 9 (MQ below (QV D (U := KS) post (kw cy a rw) A) args s 0 0 A) 0 0 (kw cy a rw S) [(0, .ref (a 27)), (1, .ref (a 1)), (3, .int x3), (5, .int x5), (7, .int x7)] 129 [] := by
  unfold w_X10_read_B129 at h
  refine z_iload b dX10_read_129 rfl ?_
  refine z_istore (lv' := [(4, .int x7), (0, .ref (a 27)), (1, .ref (a 1)), (3, .int x3), (5, .int x5), (7, .int x7)]) b dX10_read_131 (by decide) rfl ?_
  refine z_iinc (k9 := 4) (v := (x5 + 1)) (lv' := [(5, .int (x5 + 1)), (4, .int x7), (0, .ref (a 27)), (1, .ref (a 1)), (3, .int x3), (7, .int x7)]) b dX10_read_133 rfl rfl (by decide) rfl ?_
  refine z_goto (tgt := 18) b dX10_read_136 (by decide) ?_
  refine z_lv0 (lv' := [(0, .ref (a 27)), (1, .ref (a 1)), (3, .int x3), (4, .int x7), (5, .int (x5 + 1))]) [2, 3, 4, 1, 0] rfl ?_
  exact hk18 _ _ _ _ h

def w_X10_read_B123 (cy : Nat → ClassId) (tE : Nat) (post : KS → Prop) (k18 : KS → Int32 → Int32 → Int32 → Prop) (k139 : KS → Int32 → Prop) (S : KS) (x3 : Int32) (x4 : Int32) (x5 : Int32) (x7 : Int32) (y0 : Int32) : Prop :=
  w_X10_add cy tE S y0 x4 0 (fun S8 => w_X10_read_B129 cy tE post k18 k139 S8 x3 x5 x7)

set_option maxHeartbeats 200000 in
set_option maxRecDepth 100000 in
theorem z_X10_read_B123 {p : Program} {l : Launch} {e : Env} {R : Room} {s : State} {m : MethodId} {args : Array Value} {below : List Frame} {meth : Method} {c : Code} {D : va_G} {cy : Nat → ClassId} {T0 tB tE : Nat} {A : Nat → Prop} {a : Nat → Nat} {rw : Nat → Option Nat} (hrw : ∀ i, i < 6 → rw i = some (a (12 + 2 * i))) {post : KS → Prop} {k18 : KS → Int32 → Int32 → Int32 → Prop} {k139 : KS → Int32 → Prop} (b : Bz p R s m args meth c D cy T0 tB tE A 9 cX10_read RX10 none "read" 4 121 0 0) (hk18 : ∀ (S : KS) (x3 : Int32) (x4 : Int32) (x5 : Int32), k18 S x3 x4 x5 → Z p l e R s m args below meth c D A 9 (MQ below (QV D (U := KS) post (kw cy a rw) A) args s 0 0 A) 0 0 (kw cy a rw S) [(0, .ref (a 27)), (1, .ref (a 1)), (3, .int x3), (4, .int x4), (5, .int x5)] 18 []) (hk139 : ∀ (S : KS) (x3 : Int32), k139 S x3 → Z p l e R s m args below meth c D A 9 (MQ below (QV D (U := KS) post (kw cy a rw) A) args s 0 0 A) 0 0 (kw cy a rw S) [(0, .ref (a 27)), (3, .int x3)] 139 []) (S : KS) (x3 : Int32) (x4 : Int32) (x5 : Int32) (x7 : Int32) (y0 : Int32) (h : w_X10_read_B123 cy tE post k18 k139 S x3 x4 x5 x7 y0) : Z p l e R s m args below meth c D A 9 (MQ below (QV D (U := KS) post (kw cy a rw) A) args s 0 0 A) 0 0 (kw cy a rw S) [(0, .ref (a 27)), (1, .ref (a 1)), (3, .int x3), (4, .int x4), (5, .int x5), (7, .int x7)] 123 [.int y0, .ref (a 27)] := by
  unfold w_X10_read_B123 at h
  refine z_iload b dX10_read_123 rfl ?_
  refine z_lconst (v := 0) b dX10_read_125 (by decide) ?_
  refine z_callv b (z_runV (q0 := 27) (As := [.int y0, .int x4, .long 0]) (st := []) b (k_X10_add hrw S y0 x4 0 _ h) cf_X10_add (kw_27 cy a rw S) rfl wm_X10_71 wi_X10_add ws_X10_add dX10_read_126 rfl (Nat.le_of_ble_eq_true rfl) ⟨by decide, by decide, Nat.le_of_ble_eq_true rfl, Nat.le_of_ble_eq_true rfl⟩) (fun S8 h => ?_)
  refine z_lv0 (lv' := [(0, .ref (a 27)), (1, .ref (a 1)), (3, .int x3), (5, .int x5), (7, .int x7)]) [0, 1, 2, 4, 5] rfl ?_
  exact z_X10_read_B129 hrw b hk18 hk139 _ _ _ _ h

def w_X10_read_F18 (cy : Nat → ClassId) (tE : Nat) (post : KS → Prop) (k139 : KS → Int32 → Prop) (k18 : KS → Int32 → Int32 → Int32 → Prop) (S : KS) (x3 : Int32) (x4 : Int32) (x5 : Int32) : Prop :=
  ((x3.toInt ≤ x5.toInt → k139 S x3) ∧ (x5.toInt < x3.toInt → ((x3.toInt ≤ x4.toInt → k139 S x3) ∧ (x4.toInt < x3.toInt → (0 ≤ x4.toInt ∧ x4.toInt < 700) ∧ w_X10_isLetter cy tE S ((ar S.1 0) x4.toNatClampNeg) (fun r2 S3 => ((r2.toInt = 0 → w_X10_isDigit cy tE S3 ((ar S.1 0) x4.toNatClampNeg) (fun r4 S5 => ((r4.toInt = 0 → ((((ar S.1 0) x4.toNatClampNeg).toInt = 32 → w_X10_read_B129 cy tE post k18 k139 S5 x3 x5 (x4 + 1)) ∧ (((ar S.1 0) x4.toNatClampNeg).toInt ≠ 32 → ((((ar S.1 0) x4.toNatClampNeg).toInt = 10 → w_X10_read_B129 cy tE post k18 k139 S5 x3 x5 (x4 + 1)) ∧ (((ar S.1 0) x4.toNatClampNeg).toInt ≠ 10 → ((0 ≤ (ixR (sN 1) (sF 1) ((((ar S.1 0) x4.toNatClampNeg).toUInt32 % 65536).toInt32)).toInt → w_X10_read_B123 cy tE post k18 k139 S5 x3 x4 x5 (x4 + 1) ((23 : Int32) + (ixR (sN 1) (sF 1) ((((ar S.1 0) x4.toNatClampNeg).toUInt32 % 65536).toInt32)))) ∧ ((ixR (sN 1) (sF 1) ((((ar S.1 0) x4.toNatClampNeg).toUInt32 % 65536).toInt32)).toInt < 0 → w_X10_read_B123 cy tE post k18 k139 S5 x3 x4 x5 (x4 + 1) 1))))))) ∧ (r4.toInt ≠ 0 → w_X10_readNumber cy tE S5 x4 x3 (fun r9 S10 => w_X10_read_B129 cy tE post k18 k139 S10 x3 x5 r9))))) ∧ (r2.toInt ≠ 0 → w_X10_readWord cy tE S3 x4 x3 (fun r11 S12 => w_X10_read_B129 cy tE post k18 k139 S12 x3 x5 r11))))))))

set_option maxHeartbeats 200000 in
set_option maxRecDepth 100000 in
theorem z_X10_read_F18 {p : Program} {l : Launch} {e : Env} {R : Room} {s : State} {m : MethodId} {args : Array Value} {below : List Frame} {meth : Method} {c : Code} {D : va_G} {cy : Nat → ClassId} {T0 tB tE : Nat} {A : Nat → Prop} {a : Nat → Nat} {rw : Nat → Option Nat} (hrw : ∀ i, i < 6 → rw i = some (a (12 + 2 * i))) {post : KS → Prop} {k139 : KS → Int32 → Prop} {k18 : KS → Int32 → Int32 → Int32 → Prop} (b : Bz p R s m args meth c D cy T0 tB tE A 9 cX10_read RX10 none "read" 4 121 0 0) (hk139 : ∀ (S : KS) (x3 : Int32), k139 S x3 → Z p l e R s m args below meth c D A 9 (MQ below (QV D (U := KS) post (kw cy a rw) A) args s 0 0 A) 0 0 (kw cy a rw S) [(0, .ref (a 27)), (3, .int x3)] 139 []) (hk18 : ∀ (S : KS) (x3 : Int32) (x4 : Int32) (x5 : Int32), k18 S x3 x4 x5 → Z p l e R s m args below meth c D A 9 (MQ below (QV D (U := KS) post (kw cy a rw) A) args s 0 0 A) 0 0 (kw cy a rw S) [(0, .ref (a 27)), (1, .ref (a 1)), (3, .int x3), (4, .int x4), (5, .int x5)] 18 []) (S : KS) (x3 : Int32) (x4 : Int32) (x5 : Int32) (h : w_X10_read_F18 cy tE post k139 k18 S x3 x4 x5) : Z p l e R s m args below meth c D A 9 (MQ below (QV D (U := KS) post (kw cy a rw) A) args s 0 0 A) 0 0 (kw cy a rw S) [(0, .ref (a 27)), (1, .ref (a 1)), (3, .int x3), (4, .int x4), (5, .int x5)] 18 [] := by
  unfold w_X10_read_F18 at h
  refine z_iload b dX10_read_18 rfl ?_
  refine z_iload_n b dX10_read_20 rfl rfl ?_
  refine y_icmp_ge (tgt := 139) (xl := x5.toInt) (yl := x3.toInt) b rfl rfl dX10_read_21 (by decide) (fun c1 => ?_) (fun c1 => ?_)
  · replace h := h.1 c1
    refine z_lv0 (lv' := [(0, .ref (a 27)), (3, .int x3)]) [0, 2] rfl ?_
    exact hk139 _ _ h
  · replace h := h.2 c1
    refine z_iload b dX10_read_24 rfl ?_
    refine z_iload_n b dX10_read_26 rfl rfl ?_
    refine y_icmp_ge (tgt := 139) (xl := x4.toInt) (yl := x3.toInt) b rfl rfl dX10_read_27 (by decide) (fun c1 => ?_) (fun c1 => ?_)
    · replace h := h.1 c1
      refine z_lv0 (lv' := [(0, .ref (a 27)), (3, .int x3)]) [0, 2] rfl ?_
      exact hk139 _ _ h
    · replace h := h.2 c1
      refine z_aload_n b dX10_read_30 rfl rfl ?_
      refine z_iload b dX10_read_31 rfl ?_
      obtain ⟨g1, h⟩ := h
      refine y_iald (q0 := 1) (j := x4.toNatClampNeg) (v := ((ar S.1 0) x4.toNatClampNeg)) b (kw_1 cy a rw S) (zx_r g1.1 g1.2) rfl dX10_read_33 ?_
      refine z_istore (lv' := [(6, .int ((ar S.1 0) x4.toNatClampNeg)), (0, .ref (a 27)), (1, .ref (a 1)), (3, .int x3), (4, .int x4), (5, .int x5)]) b dX10_read_34 (by decide) rfl ?_
      refine z_iload b dX10_read_36 rfl ?_
      refine z_iconst (v := 1) b dX10_read_38 (by decide) ?_
      refine z_iadd b dX10_read_39 rfl ?_
      refine z_istore (lv' := [(7, .int (x4 + 1)), (6, .int ((ar S.1 0) x4.toNatClampNeg)), (0, .ref (a 27)), (1, .ref (a 1)), (3, .int x3), (4, .int x4), (5, .int x5)]) b dX10_read_40 (by decide) rfl ?_
      refine z_iload b dX10_read_42 rfl ?_
      refine z_calli b (z_runS (As := [.int ((ar S.1 0) x4.toNatClampNeg)]) (st := []) b (k_X10_isLetter hrw S ((ar S.1 0) x4.toNatClampNeg) _ h) cf_X10_isLetter wm_X10_41 ws_X10_isLetter dX10_read_44 rfl (Nat.le_of_ble_eq_true rfl) ⟨by decide, by decide, Nat.le_of_ble_eq_true rfl, Nat.le_of_ble_eq_true rfl⟩) (fun r2 S3 h => ?_)
      refine y_if_eq (tgt := 63) (xl := r2.toInt) b rfl dX10_read_47 (by decide) (fun c1 => ?_) (fun c1 => ?_)
      · replace h := h.1 c1
        refine z_iload b dX10_read_63 rfl ?_
        refine z_calli b (z_runS (As := [.int ((ar S.1 0) x4.toNatClampNeg)]) (st := []) b (k_X10_isDigit hrw S3 ((ar S.1 0) x4.toNatClampNeg) _ h) cf_X10_isDigit wm_X10_59 ws_X10_isDigit dX10_read_65 rfl (Nat.le_of_ble_eq_true rfl) ⟨by decide, by decide, Nat.le_of_ble_eq_true rfl, Nat.le_of_ble_eq_true rfl⟩) (fun r4 S5 h => ?_)
        refine y_if_eq (tgt := 84) (xl := r4.toInt) b rfl dX10_read_68 (by decide) (fun c1 => ?_) (fun c1 => ?_)
        · replace h := h.1 c1
          refine z_iload b dX10_read_84 rfl ?_
          refine z_bipush (v := 32) b dX10_read_86 (by decide) ?_
          refine y_icmp_eq (tgt := 129) (xl := ((ar S.1 0) x4.toNatClampNeg).toInt) (yl := 32) b rfl (by decide) dX10_read_88 (by decide) (fun c1 => ?_) (fun c1 => ?_)
          · replace h := h.1 c1
            refine z_lv0 (lv' := [(0, .ref (a 27)), (1, .ref (a 1)), (3, .int x3), (5, .int x5), (7, .int (x4 + 1))]) [2, 3, 4, 6, 0] rfl ?_
            exact z_X10_read_B129 hrw b hk18 hk139 _ _ _ _ h
          · replace h := h.2 c1
            refine z_iload b dX10_read_91 rfl ?_
            refine z_bipush (v := 10) b dX10_read_93 (by decide) ?_
            refine y_icmp_eq (tgt := 129) (xl := ((ar S.1 0) x4.toNatClampNeg).toInt) (yl := 10) b rfl (by decide) dX10_read_95 (by decide) (fun c1 => ?_) (fun c1 => ?_)
            · replace h := h.1 c1
              refine z_lv0 (lv' := [(0, .ref (a 27)), (1, .ref (a 1)), (3, .int x3), (5, .int x5), (7, .int (x4 + 1))]) [2, 3, 4, 6, 0] rfl ?_
              exact z_X10_read_B129 hrw b hk18 hk139 _ _ _ _ h
            · replace h := h.2 c1
              obtain ⟨adK, adV, hk1, hk2⟩ := b.E1.2.2.2.2.1.2.2
              refine s_ldc b rfl (hk2 1 (by decide)) dX10_read_98 ?_
              refine z_iload b dX10_read_100 rfl ?_
              refine z_i2c b dX10_read_102 rfl ?_
              refine z_calli b (s_runV (As := [.int (((ar S.1 0) x4.toNatClampNeg).toUInt32 % 65536).toInt32]) (st := []) b (sX_at b hk1 (i := 1) (by decide)) (gx_ix (kw cy a rw S5) ((((ar S.1 0) x4.toNatClampNeg).toUInt32 % 65536).toInt32) (by decide)) cf_J0_indexOf_0f7a4 rfl wm_X10_67 wi_J0_indexOf_0f7a4 ws_J0_indexOf_0f7a4 dX10_read_103 rfl (Nat.le_of_ble_eq_true rfl) ⟨by decide, by decide, Nat.le_of_ble_eq_true rfl, Nat.le_of_ble_eq_true rfl⟩) (fun r6 _ h9 => ?_)
              subst h9
              refine z_istore (lv' := [(8, .int (ixR (sN 1) (sF 1) ((((ar S.1 0) x4.toNatClampNeg).toUInt32 % 65536).toInt32))), (7, .int (x4 + 1)), (6, .int ((ar S.1 0) x4.toNatClampNeg)), (0, .ref (a 27)), (1, .ref (a 1)), (3, .int x3), (4, .int x4), (5, .int x5)]) b dX10_read_106 (by decide) rfl ?_
              refine z_aload_n b dX10_read_108 rfl rfl ?_
              refine z_iload b dX10_read_109 rfl ?_
              refine y_if_ge (tgt := 118) (xl := (ixR (sN 1) (sF 1) ((((ar S.1 0) x4.toNatClampNeg).toUInt32 % 65536).toInt32)).toInt) b rfl dX10_read_111 (by decide) (fun c1 => ?_) (fun c1 => ?_)
              · replace h := h.1 c1
                refine z_bipush (v := 23) b dX10_read_118 (by decide) ?_
                refine z_iload b dX10_read_120 rfl ?_
                refine z_iadd b dX10_read_122 rfl ?_
                refine z_lv0 (lv' := [(0, .ref (a 27)), (1, .ref (a 1)), (3, .int x3), (4, .int x4), (5, .int x5), (7, .int (x4 + 1))]) [3, 4, 5, 6, 7, 1] rfl ?_
                exact z_X10_read_B123 hrw b hk18 hk139 _ _ _ _ _ _ h
              · replace h := h.2 c1
                refine z_iconst (v := 1) b dX10_read_114 (by decide) ?_
                refine z_goto (tgt := 123) b dX10_read_115 (by decide) ?_
                refine z_lv0 (lv' := [(0, .ref (a 27)), (1, .ref (a 1)), (3, .int x3), (4, .int x4), (5, .int x5), (7, .int (x4 + 1))]) [3, 4, 5, 6, 7, 1] rfl ?_
                exact z_X10_read_B123 hrw b hk18 hk139 _ _ _ _ _ _ h
        · replace h := h.2 c1
          refine z_aload_n b dX10_read_71 rfl rfl ?_
          refine z_aload_n b dX10_read_72 rfl rfl ?_
          refine z_iload b dX10_read_73 rfl ?_
          refine z_iload_n b dX10_read_75 rfl rfl ?_
          refine z_calli b (z_runV (q0 := 27) (As := [.ref (a 1), .int x4, .int x3]) (st := []) b (k_X10_readNumber hrw S5 x4 x3 _ h) cf_X10_readNumber (kw_27 cy a rw S5) rfl wm_X10_62 wi_X10_readNumber ws_X10_readNumber dX10_read_76 rfl (Nat.le_of_ble_eq_true rfl) ⟨by decide, by decide, Nat.le_of_ble_eq_true rfl, Nat.le_of_ble_eq_true rfl⟩) (fun r9 S10 h => ?_)
          refine z_istore (lv' := [(7, .int r9), (6, .int ((ar S.1 0) x4.toNatClampNeg)), (0, .ref (a 27)), (1, .ref (a 1)), (3, .int x3), (4, .int x4), (5, .int x5)]) b dX10_read_79 (by decide) rfl ?_
          refine z_goto (tgt := 129) b dX10_read_81 (by decide) ?_
          refine z_lv0 (lv' := [(0, .ref (a 27)), (1, .ref (a 1)), (3, .int x3), (5, .int x5), (7, .int r9)]) [2, 3, 4, 6, 0] rfl ?_
          exact z_X10_read_B129 hrw b hk18 hk139 _ _ _ _ h
      · replace h := h.2 c1
        refine z_aload_n b dX10_read_50 rfl rfl ?_
        refine z_aload_n b dX10_read_51 rfl rfl ?_
        refine z_iload b dX10_read_52 rfl ?_
        refine z_iload_n b dX10_read_54 rfl rfl ?_
        refine z_calli b (z_runV (q0 := 27) (As := [.ref (a 1), .int x4, .int x3]) (st := []) b (k_X10_readWord hrw S3 x4 x3 _ h) cf_X10_readWord (kw_27 cy a rw S3) rfl wm_X10_55 wi_X10_readWord ws_X10_readWord dX10_read_55 rfl (Nat.le_of_ble_eq_true rfl) ⟨by decide, by decide, Nat.le_of_ble_eq_true rfl, Nat.le_of_ble_eq_true rfl⟩) (fun r11 S12 h => ?_)
        refine z_istore (lv' := [(7, .int r11), (6, .int ((ar S.1 0) x4.toNatClampNeg)), (0, .ref (a 27)), (1, .ref (a 1)), (3, .int x3), (4, .int x4), (5, .int x5)]) b dX10_read_58 (by decide) rfl ?_
        refine z_goto (tgt := 129) b dX10_read_60 (by decide) ?_
        refine z_lv0 (lv' := [(0, .ref (a 27)), (1, .ref (a 1)), (3, .int x3), (5, .int x5), (7, .int r11)]) [2, 3, 4, 6, 0] rfl ?_
        exact z_X10_read_B129 hrw b hk18 hk139 _ _ _ _ h

set_option maxHeartbeats 200000 in
set_option maxRecDepth 100000 in
theorem zl_X10_read_L18 {p : Program} {l : Launch} {e : Env} {R : Room} {s : State} {m : MethodId} {args : Array Value} {below : List Frame} {meth : Method} {c : Code} {D : va_G} {cy : Nat → ClassId} {T0 tB tE : Nat} {A : Nat → Prop} {a : Nat → Nat} {rw : Nat → Option Nat} (hrw : ∀ i, i < 6 → rw i = some (a (12 + 2 * i))) {post : KS → Prop} {k139 : KS → Int32 → Prop} (b : Bz p R s m args meth c D cy T0 tB tE A 9 cX10_read RX10 none "read" 4 121 0 0) (hk139 : ∀ (S : KS) (x3 : Int32), k139 S x3 → Z p l e R s m args below meth c D A 9 (MQ below (QV D (U := KS) post (kw cy a rw) A) args s 0 0 A) 0 0 (kw cy a rw S) [(0, .ref (a 27)), (3, .int x3)] 139 []) : ∀ (n : Nat) (S : KS) (x3 : Int32) (x4 : Int32) (x5 : Int32), lpn (w_X10_read_F18 cy tE post k139) (fun _ _ _ _ => False) n S x3 x4 x5 → Z p l e R s m args below meth c D A 9 (MQ below (QV D (U := KS) post (kw cy a rw) A) args s 0 0 A) 0 0 (kw cy a rw S) [(0, .ref (a 27)), (1, .ref (a 1)), (3, .int x3), (4, .int x4), (5, .int x5)] 18 [] := by
  intro n
  induction n with
  | zero => intro _ _ _ _ h; exact h.elim
  | succ n ih => intro S x3 x4 x5 h; exact z_X10_read_F18 hrw b hk139 ih S x3 x4 x5 h

def w_X10_read_B139 (cy : Nat → ClassId) (tE : Nat) (post : KS → Prop) (S : KS) (x3 : Int32) : Prop :=
  w_X10_add cy tE S 0 x3 0 (fun S14 => post S14)

set_option maxHeartbeats 200000 in
set_option maxRecDepth 100000 in
theorem z_X10_read_B139 {p : Program} {l : Launch} {e : Env} {R : Room} {s : State} {m : MethodId} {args : Array Value} {below : List Frame} {meth : Method} {c : Code} {D : va_G} {cy : Nat → ClassId} {T0 tB tE : Nat} {A : Nat → Prop} {a : Nat → Nat} {rw : Nat → Option Nat} (hrw : ∀ i, i < 6 → rw i = some (a (12 + 2 * i))) {post : KS → Prop} (b : Bz p R s m args meth c D cy T0 tB tE A 9 cX10_read RX10 none "read" 4 121 0 0) (S : KS) (x3 : Int32) (h : w_X10_read_B139 cy tE post S x3) : Z p l e R s m args below meth c D A 9 (MQ below (QV D (U := KS) post (kw cy a rw) A) args s 0 0 A) 0 0 (kw cy a rw S) [(0, .ref (a 27)), (3, .int x3)] 139 [] := by
  unfold w_X10_read_B139 at h
  refine z_aload_n b dX10_read_139 rfl rfl ?_
  refine z_iconst (v := 0) b dX10_read_140 (by decide) ?_
  refine z_iload_n b dX10_read_141 rfl rfl ?_
  refine z_lconst (v := 0) b dX10_read_142 (by decide) ?_
  refine z_callv b (z_runV (q0 := 27) (As := [.int 0, .int x3, .long 0]) (st := []) b (k_X10_add hrw S 0 x3 0 _ h) cf_X10_add (kw_27 cy a rw S) rfl wm_X10_71 wi_X10_add ws_X10_add dX10_read_143 rfl (Nat.le_of_ble_eq_true rfl) ⟨by decide, by decide, Nat.le_of_ble_eq_true rfl, Nat.le_of_ble_eq_true rfl⟩) (fun S14 h => ?_)
  exact z_vret (u := S14) b rfl dX10_read_146 h rfl (by decide) (by decide)

def w_X10_read (cy : Nat → ClassId) (tE : Nat) (S : KS) (p1 : Int32) (post : KS → Prop) : Prop :=
  ∃ n, lpn (w_X10_read_F18 cy tE post (w_X10_read_B139 cy tE post)) (fun _ _ _ _ => False) n (ksi S 21 0) (if (700 < p1 : Prop) then 700 else p1) 0 0

set_option maxHeartbeats 200000 in
set_option maxRecDepth 100000 in
theorem k_X10_read {l : Launch} {D : va_G} {cy : Nat → ClassId} {T0 tB tE : Nat} {a : Nat → Nat} {rw : Nat → Option Nat} (hrw : ∀ i, i < 6 → rw i = some (a (12 + 2 * i))) (S : KS) (p1 : Int32) (post : KS → Prop) (h : w_X10_read cy tE S p1 post) : Ct l D cy T0 tB tE yX10_read cX10_read 9 none 4 121 0 0 (kw cy a rw S) [.ref (a 27), .ref (a 1), .int p1] (QV D (U := KS) post (kw cy a rw)) := by
  refine Ct.ofZ RX10 "read" [(0, .ref (a 27)), (1, .ref (a 1)), (2, .int p1)] rfl rfl rfl rfl (Nat.le_of_ble_eq_true rfl) ?_
  intro p e R s m args below meth c A b
  unfold w_X10_read at h
  refine z_aload_n b dX10_read_0 rfl rfl ?_
  refine z_iconst (v := 0) b dX10_read_1 (by decide) ?_
  refine z_put (q0 := 27) (k9 := 4) tyX10 b (kw_27 cy a rw S) rfl in_X10 tyX10_ok nmX10 (by decide) wf_X10_25 rfl rfl rfl rfl (Nat.le_of_ble_eq_true rfl) dX10_read_2 (kwp_27_4 cy a rw S 0) ?_
  refine z_iload_n b dX10_read_5 rfl rfl ?_
  refine z_aload_n b dX10_read_6 rfl rfl ?_
  refine z_alen (q0 := 1) (t0 := 0) (v := 700) b (kw_1 cy a rw (ksi S 21 0)) rfl rfl dX10_read_7 ?_
  refine z_mmin (v := (if (700 < p1 : Prop) then 700 else p1)) b wL_X10_49 wLs_mmin wi_Math wLc_mmin dX10_read_8 (by decide) (Nat.le_of_ble_eq_true rfl) ⟨by decide, by decide⟩ rfl ?_
  refine z_istore_n (lv' := [(3, .int (if (700 < p1 : Prop) then 700 else p1)), (0, .ref (a 27)), (1, .ref (a 1)), (2, .int p1)]) b dX10_read_11 rfl (by decide) rfl ?_
  refine z_iconst (v := 0) b dX10_read_12 (by decide) ?_
  refine z_istore (lv' := [(4, .int 0), (3, .int (if (700 < p1 : Prop) then 700 else p1)), (0, .ref (a 27)), (1, .ref (a 1)), (2, .int p1)]) b dX10_read_13 (by decide) rfl ?_
  refine z_iconst (v := 0) b dX10_read_15 (by decide) ?_
  refine z_istore (lv' := [(5, .int 0), (4, .int 0), (3, .int (if (700 < p1 : Prop) then 700 else p1)), (0, .ref (a 27)), (1, .ref (a 1)), (2, .int p1)]) b dX10_read_16 (by decide) rfl ?_
  refine z_lv0 (lv' := [(0, .ref (a 27)), (1, .ref (a 1)), (3, .int (if (700 < p1 : Prop) then 700 else p1)), (4, .int 0), (5, .int 0)]) [3, 4, 2, 1, 0] rfl ?_
  obtain ⟨n, h⟩ := h
  exact zl_X10_read_L18 hrw b (fun S x3 h => z_X10_read_B139 hrw b _ _ h) n _ _ _ _ h

def w_Jx4a65c_clear_da8c8_F27 (cy : Nat → ClassId) (tE : Nat) (post : KS → Prop) (k42 : KS → Prop) (k27 : KS → Nat → Int32 → Int32 → Prop) (S : KS) (x1 : Nat) (x2 : Int32) (x3 : Int32) : Prop :=
  ((x2.toInt ≤ x3.toInt → k42 S) ∧ (x3.toInt < x2.toInt → ∃ (i26 n27 : Nat) (f28 : Nat → Option Nat), S.2.2.2[i26]? = some (x1, .inl (cy 5, n27, .inr (.inr (.inr (.inr f28))))) ∧ (0 ≤ x3.toInt ∧ x3.toInt < (n27 : Int)) ∧ k27 (ksL S (S.2.2.2.set i26 (x1, .inl (cy 5, n27, .inr (.inr (.inr (.inr (va_up f28 x3.toNatClampNeg none)))))))) x1 x2 (x3 + 1)))

set_option maxHeartbeats 200000 in
set_option maxRecDepth 100000 in
theorem z_Jx4a65c_clear_da8c8_F27 {p : Program} {l : Launch} {e : Env} {R : Room} {s : State} {m : MethodId} {args : Array Value} {below : List Frame} {meth : Method} {c : Code} {D : va_G} {cy : Nat → ClassId} {T0 tB tE : Nat} {A : Nat → Prop} {a : Nat → Nat} {rw : Nat → Option Nat} (hrw : ∀ i, i < 6 → rw i = some (a (12 + 2 * i))) {post : KS → Prop} {k42 : KS → Prop} {k27 : KS → Nat → Int32 → Int32 → Prop} (b : Bz p R s m args meth c D cy T0 tB tE A 4 cJx4a65c_clear_da8c8 RJx4a65c none "clear" 0 0 0 0) (hk42 : ∀ (S : KS), k42 S → Z p l e R s m args below meth c D A 4 (MQ below (QV D (U := KS) post (kw cy a rw) A) args s 0 0 A) 0 0 (kw cy a rw S) [] 42 []) (hk27 : ∀ (S : KS) (x1 : Nat) (x2 : Int32) (x3 : Int32), k27 S x1 x2 x3 → Z p l e R s m args below meth c D A 4 (MQ below (QV D (U := KS) post (kw cy a rw) A) args s 0 0 A) 0 0 (kw cy a rw S) [(1, .ref x1), (2, .int x2), (3, .int x3)] 27 []) (S : KS) (x1 : Nat) (x2 : Int32) (x3 : Int32) (h : w_Jx4a65c_clear_da8c8_F27 cy tE post k42 k27 S x1 x2 x3) : Z p l e R s m args below meth c D A 4 (MQ below (QV D (U := KS) post (kw cy a rw) A) args s 0 0 A) 0 0 (kw cy a rw S) [(1, .ref x1), (2, .int x2), (3, .int x3)] 27 [] := by
  unfold w_Jx4a65c_clear_da8c8_F27 at h
  refine z_iload_n b dJx4a65c_clear_da8c8_27 rfl rfl ?_
  refine z_iload_n b dJx4a65c_clear_da8c8_28 rfl rfl ?_
  refine y_icmp_ge (tgt := 42) (xl := x3.toInt) (yl := x2.toInt) b rfl rfl dJx4a65c_clear_da8c8_29 (by decide) (fun c1 => ?_) (fun c1 => ?_)
  · replace h := h.1 c1
    refine z_lv0 (lv' := []) [] rfl ?_
    exact hk42 _ h
  · replace h := h.2 c1
    refine z_aload_n b dJx4a65c_clear_da8c8_32 rfl rfl ?_
    refine z_iload_n b dJx4a65c_clear_da8c8_33 rfl rfl ?_
    refine z_null b dJx4a65c_clear_da8c8_34 ?_
    obtain ⟨i26, n27, f28, g29, h⟩ := h
    obtain ⟨g30, h⟩ := h
    refine y_aastN (q0 := 47 + i26) (t0 := 5) (j := x3.toNatClampNeg) b (kw_dyn cy a rw S g29) rfl (zx_r g30.1 g30.2) dJx4a65c_clear_da8c8_35 (kw_dset cy a rw S i26 (x1, .inl (cy 5, n27, .inr (.inr (.inr (.inr (va_up f28 x3.toNatClampNeg none))))))) ?_
    refine z_iinc (k9 := 2) (v := (x3 + 1)) (lv' := [(3, .int (x3 + 1)), (1, .ref x1), (2, .int x2)]) b dJx4a65c_clear_da8c8_36 rfl rfl (by decide) rfl ?_
    refine z_goto (tgt := 27) b dJx4a65c_clear_da8c8_39 (by decide) ?_
    refine z_lv0 (lv' := [(1, .ref x1), (2, .int x2), (3, .int (x3 + 1))]) [1, 2, 0] rfl ?_
    exact hk27 _ _ _ _ h

set_option maxHeartbeats 200000 in
set_option maxRecDepth 100000 in
theorem zl_Jx4a65c_clear_da8c8_L27 {p : Program} {l : Launch} {e : Env} {R : Room} {s : State} {m : MethodId} {args : Array Value} {below : List Frame} {meth : Method} {c : Code} {D : va_G} {cy : Nat → ClassId} {T0 tB tE : Nat} {A : Nat → Prop} {a : Nat → Nat} {rw : Nat → Option Nat} (hrw : ∀ i, i < 6 → rw i = some (a (12 + 2 * i))) {post : KS → Prop} {k42 : KS → Prop} (b : Bz p R s m args meth c D cy T0 tB tE A 4 cJx4a65c_clear_da8c8 RJx4a65c none "clear" 0 0 0 0) (hk42 : ∀ (S : KS), k42 S → Z p l e R s m args below meth c D A 4 (MQ below (QV D (U := KS) post (kw cy a rw) A) args s 0 0 A) 0 0 (kw cy a rw S) [] 42 []) : ∀ (n : Nat) (S : KS) (x1 : Nat) (x2 : Int32) (x3 : Int32), lpn (w_Jx4a65c_clear_da8c8_F27 cy tE post k42) (fun _ _ _ _ => False) n S x1 x2 x3 → Z p l e R s m args below meth c D A 4 (MQ below (QV D (U := KS) post (kw cy a rw) A) args s 0 0 A) 0 0 (kw cy a rw S) [(1, .ref x1), (2, .int x2), (3, .int x3)] 27 [] := by
  intro n
  induction n with
  | zero => intro _ _ _ _ h; exact h.elim
  | succ n ih => intro S x1 x2 x3 h; exact z_Jx4a65c_clear_da8c8_F27 hrw b hk42 ih S x1 x2 x3 h

def w_Jx4a65c_clear_da8c8_B42 (cy : Nat → ClassId) (tE : Nat) (post : KS → Prop) (S : KS)  : Prop :=
  post S

set_option maxHeartbeats 200000 in
set_option maxRecDepth 100000 in
theorem z_Jx4a65c_clear_da8c8_B42 {p : Program} {l : Launch} {e : Env} {R : Room} {s : State} {m : MethodId} {args : Array Value} {below : List Frame} {meth : Method} {c : Code} {D : va_G} {cy : Nat → ClassId} {T0 tB tE : Nat} {A : Nat → Prop} {a : Nat → Nat} {rw : Nat → Option Nat} (hrw : ∀ i, i < 6 → rw i = some (a (12 + 2 * i))) {post : KS → Prop} (b : Bz p R s m args meth c D cy T0 tB tE A 4 cJx4a65c_clear_da8c8 RJx4a65c none "clear" 0 0 0 0) (S : KS)  (h : w_Jx4a65c_clear_da8c8_B42 cy tE post S ) : Z p l e R s m args below meth c D A 4 (MQ below (QV D (U := KS) post (kw cy a rw) A) args s 0 0 A) 0 0 (kw cy a rw S) [] 42 [] := by
  unfold w_Jx4a65c_clear_da8c8_B42 at h
  exact z_vret (u := S) b rfl dJx4a65c_clear_da8c8_42 h rfl (by decide) (by decide)

def w_Jx4a65c_clear_da8c8 (cy : Nat → ClassId) (tE : Nat) (S : KS) (p9 : Nat) (post : KS → Prop) : Prop :=
  ∃ (i1 : Nat) (f2 : Int32) (f3 : Value) (f4 : Int32), S.2.2.2[i1]? = some (p9, .inr (0, [.int f2, f3, .int f4])) ∧ ∃ (i6 : Nat) (f7 : Int32) (f8 : Value) (f9 : Int32), S.2.2.2[i6]? = some (p9, .inr (0, [.int f7, f8, .int f9])) ∧ ∃ (i11 : Nat) (f12 : Int32) (f13 : Nat) (f14 : Int32), (S.2.2.2.set i6 (p9, .inr (0, [.int (f2 + 1), f8, .int f9])))[i11]? = some (p9, .inr (0, [.int f12, .ref f13, .int f14])) ∧ ∃ (i16 : Nat) (f17 : Int32) (f18 : Value) (f19 : Int32), (S.2.2.2.set i6 (p9, .inr (0, [.int (f2 + 1), f8, .int f9])))[i16]? = some (p9, .inr (0, [.int f17, f18, .int f19])) ∧ ∃ (i21 : Nat) (f22 : Int32) (f23 : Value) (f24 : Int32), (S.2.2.2.set i6 (p9, .inr (0, [.int (f2 + 1), f8, .int f9])))[i21]? = some (p9, .inr (0, [.int f22, f23, .int f24])) ∧ ∃ n, lpn (w_Jx4a65c_clear_da8c8_F27 cy tE post (w_Jx4a65c_clear_da8c8_B42 cy tE post)) (fun _ _ _ _ => False) n (ksL (ksL S (S.2.2.2.set i6 (p9, .inr (0, [.int (f2 + 1), f8, .int f9])))) ((S.2.2.2.set i6 (p9, .inr (0, [.int (f2 + 1), f8, .int f9]))).set i21 (p9, .inr (0, [.int f22, f23, .int 0])))) f13 f19 0

set_option maxHeartbeats 200000 in
set_option maxRecDepth 100000 in
theorem k_Jx4a65c_clear_da8c8 {l : Launch} {D : va_G} {cy : Nat → ClassId} {T0 tB tE : Nat} {a : Nat → Nat} {rw : Nat → Option Nat} (hrw : ∀ i, i < 6 → rw i = some (a (12 + 2 * i))) (S : KS) (p9 : Nat) (post : KS → Prop) (h : w_Jx4a65c_clear_da8c8 cy tE S p9 post) : Ct l D cy T0 tB tE yJx4a65c_clear_da8c8 cJx4a65c_clear_da8c8 4 none 0 0 0 0 (kw cy a rw S) [.ref p9] (QV D (U := KS) post (kw cy a rw)) := by
  refine Ct.ofZ RJx4a65c "clear" [(0, .ref p9)] rfl rfl rfl rfl (Nat.le_of_ble_eq_true rfl) ?_
  intro p e R s m args below meth c A b
  unfold w_Jx4a65c_clear_da8c8 at h
  refine z_aload_n b dJx4a65c_clear_da8c8_0 rfl rfl ?_
  refine z_dup b dJx4a65c_clear_da8c8_1 rfl ?_
  obtain ⟨i1, f2, f3, f4, g5, h⟩ := h
  refine z_getS (q0 := 47 + i1) (k9 := 0) (v := .int f2) b (kw_dyn cy a rw S g5) rfl in_Jx4a65c (by decide) wf_Jx4a65c_63 wsf_mod rfl dJx4a65c_clear_da8c8_2 ?_
  refine z_iconst (v := 1) b dJx4a65c_clear_da8c8_5 (by decide) ?_
  refine z_iadd b dJx4a65c_clear_da8c8_6 rfl ?_
  obtain ⟨i6, f7, f8, f9, g10, h⟩ := h
  refine z_putS (q0 := 47 + i6) (k9 := 0) tyJx4a65c b (kw_dyn cy a rw S g10) rfl in_Jx4a65c tyJx4a65c_ok nmJx4a65c (by decide) wf_Jx4a65c_63 wsf_mod rfl rfl rfl rfl (Nat.le_of_ble_eq_true rfl) dJx4a65c_clear_da8c8_7 (kw_dset cy a rw S i6 (p9, .inr (0, [.int (f2 + 1), f8, .int f9]))) ?_
  refine z_aload_n b dJx4a65c_clear_da8c8_10 rfl rfl ?_
  obtain ⟨i11, f12, f13, f14, g15, h⟩ := h
  refine z_get (q0 := 47 + i11) (k9 := 1) (v := .ref f13) b (kw_dyn cy a rw (ksL S (S.2.2.2.set i6 (p9, .inr (0, [.int (f2 + 1), f8, .int f9])))) g15) rfl in_Jx4a65c (by decide) wf_Jx4a65c_9 rfl dJx4a65c_clear_da8c8_11 ?_
  refine z_astore_n (lv' := [(1, .ref f13), (0, .ref p9)]) b dJx4a65c_clear_da8c8_14 rfl (by decide) rfl ?_
  refine z_aload_n b dJx4a65c_clear_da8c8_15 rfl rfl ?_
  obtain ⟨i16, f17, f18, f19, g20, h⟩ := h
  refine z_get (q0 := 47 + i16) (k9 := 2) (v := .int f19) b (kw_dyn cy a rw (ksL S (S.2.2.2.set i6 (p9, .inr (0, [.int (f2 + 1), f8, .int f9])))) g20) rfl in_Jx4a65c (by decide) wf_Jx4a65c_48 rfl dJx4a65c_clear_da8c8_16 ?_
  refine z_istore_n (lv' := [(2, .int f19), (1, .ref f13), (0, .ref p9)]) b dJx4a65c_clear_da8c8_19 rfl (by decide) rfl ?_
  refine z_aload_n b dJx4a65c_clear_da8c8_20 rfl rfl ?_
  refine z_iconst (v := 0) b dJx4a65c_clear_da8c8_21 (by decide) ?_
  refine z_dup_x1 b dJx4a65c_clear_da8c8_22 rfl rfl ?_
  obtain ⟨i21, f22, f23, f24, g25, h⟩ := h
  refine z_put (q0 := 47 + i21) (k9 := 2) tyJx4a65c b (kw_dyn cy a rw (ksL S (S.2.2.2.set i6 (p9, .inr (0, [.int (f2 + 1), f8, .int f9])))) g25) rfl in_Jx4a65c tyJx4a65c_ok nmJx4a65c (by decide) wf_Jx4a65c_48 rfl rfl rfl rfl (Nat.le_of_ble_eq_true rfl) dJx4a65c_clear_da8c8_23 (kw_dset cy a rw (ksL S (S.2.2.2.set i6 (p9, .inr (0, [.int (f2 + 1), f8, .int f9])))) i21 (p9, .inr (0, [.int f22, f23, .int 0]))) ?_
  refine z_istore_n (lv' := [(3, .int 0), (2, .int f19), (1, .ref f13), (0, .ref p9)]) b dJx4a65c_clear_da8c8_26 rfl (by decide) rfl ?_
  refine z_lv0 (lv' := [(1, .ref f13), (2, .int f19), (3, .int 0)]) [2, 1, 0] rfl ?_
  obtain ⟨n, h⟩ := h
  exact zl_Jx4a65c_clear_da8c8_L27 hrw b (fun S h => z_Jx4a65c_clear_da8c8_B42 hrw b _ h) n _ _ _ _ h

def w_X5_open (cy : Nat → ClassId) (tE : Nat) (S : KS) (p1 : Int32) (post : KS → Prop) : Prop :=
  w_X10_read cy tE S p1 (fun S2 => ∃ (i3 : Nat) (f4 : List Value), S2.2.2.2[i3]? = some ((S2.2.1 0), .inr (0, f4)) ∧ w_Jx4a65c_clear_da8c8 cy tE (ksi (ksi S2 15 0) 16 0) (S2.2.1 0) (fun S7 => post (ksi (ksi S7 19 0) 20 (-1))))

set_option maxHeartbeats 200000 in
set_option maxRecDepth 100000 in
theorem k_X5_open {l : Launch} {D : va_G} {cy : Nat → ClassId} {T0 tB tE : Nat} {a : Nat → Nat} {rw : Nat → Option Nat} (hrw : ∀ i, i < 6 → rw i = some (a (12 + 2 * i))) (S : KS) (p1 : Int32) (post : KS → Prop) (h : w_X5_open cy tE S p1 post) : Ct l D cy T0 tB tE yX5_open cX5_open 3 none 5 149 0 0 (kw cy a rw S) [.ref (a 26), .ref (a 1), .int p1] (QV D (U := KS) post (kw cy a rw)) := by
  refine Ct.ofZ RX5 "open" [(0, .ref (a 26)), (1, .ref (a 1)), (2, .int p1)] rfl rfl rfl rfl (Nat.le_of_ble_eq_true rfl) ?_
  intro p e R s m args below meth c A b
  unfold w_X5_open at h
  refine z_aload_n b dX5_open_0 rfl rfl ?_
  refine z_get (q0 := 26) (k9 := 0) (v := .ref (a 27)) b (kw_26 cy a rw S) rfl in_X5 (by decide) wf_X5_12 rfl dX5_open_1 ?_
  refine z_aload_n b dX5_open_4 rfl rfl ?_
  refine z_iload_n b dX5_open_5 rfl rfl ?_
  refine z_callv b (z_runV (q0 := 27) (As := [.ref (a 1), .int p1]) (st := []) b (k_X10_read hrw S p1 _ h) cf_X10_read (kw_27 cy a rw S) rfl wm_X5_49 wi_X10_read ws_X10_read dX5_open_6 rfl (Nat.le_of_ble_eq_true rfl) ⟨by decide, by decide, Nat.le_of_ble_eq_true rfl, Nat.le_of_ble_eq_true rfl⟩) (fun S2 h => ?_)
  refine z_aload_n b dX5_open_9 rfl rfl ?_
  refine z_iconst (v := 0) b dX5_open_10 (by decide) ?_
  refine z_put (q0 := 26) (k9 := 1) tyX5 b (kw_26 cy a rw S2) rfl in_X5 tyX5_ok nmX5 (by decide) wf_X5_18 rfl rfl rfl rfl (Nat.le_of_ble_eq_true rfl) dX5_open_11 (kwp_26_1 cy a rw S2 0) ?_
  refine z_aload_n b dX5_open_14 rfl rfl ?_
  refine z_iconst (v := 0) b dX5_open_15 (by decide) ?_
  refine z_put (q0 := 26) (k9 := 3) tyX5 b (kw_26 cy a rw (ksi S2 15 0)) rfl in_X5 tyX5_ok nmX5 (by decide) wf_X5_26 rfl rfl rfl rfl (Nat.le_of_ble_eq_true rfl) dX5_open_16 (kwp_26_3 cy a rw (ksi S2 15 0) 0) ?_
  refine z_aload_n b dX5_open_19 rfl rfl ?_
  refine z_get (q0 := 26) (k9 := 6) (v := .ref (S2.2.1 0)) b (kw_26 cy a rw (ksi (ksi S2 15 0) 16 0)) rfl in_X5 (by decide) wf_X5_39 rfl dX5_open_20 ?_
  obtain ⟨i3, f4, g5, h⟩ := h
  refine z_callv b (z_runV (q0 := 47 + i3) (As := []) (st := []) b (k_Jx4a65c_clear_da8c8 hrw (ksi (ksi S2 15 0) 16 0) (S2.2.1 0) _ h) cf_Jx4a65c_clear_da8c8 (kw_dyn cy a rw (ksi (ksi S2 15 0) 16 0) g5) rfl wm_X5_53 wi_Jx4a65c_clear_da8c8 ws_Jx4a65c_clear_da8c8 dX5_open_23 rfl (Nat.le_of_ble_eq_true rfl) ⟨by decide, by decide, Nat.le_of_ble_eq_true rfl, Nat.le_of_ble_eq_true rfl⟩) (fun S7 h => ?_)
  refine z_aload_n b dX5_open_26 rfl rfl ?_
  refine z_iconst (v := 0) b dX5_open_27 (by decide) ?_
  refine z_put (q0 := 26) (k9 := 7) tyX5 b (kw_26 cy a rw S7) rfl in_X5 tyX5_ok nmX5 (by decide) wf_X5_43 rfl rfl rfl rfl (Nat.le_of_ble_eq_true rfl) dX5_open_28 (kwp_26_7 cy a rw S7 0) ?_
  refine z_aload_n b dX5_open_31 rfl rfl ?_
  refine z_iconst (v := (-1)) b dX5_open_32 (by decide) ?_
  refine z_put (q0 := 26) (k9 := 8) tyX5 b (kw_26 cy a rw (ksi S7 19 0)) rfl in_X5 tyX5_ok nmX5 (by decide) wf_X5_46 rfl rfl rfl rfl (Nat.le_of_ble_eq_true rfl) dX5_open_33 (kwp_26_8 cy a rw (ksi S7 19 0) (-1)) ?_
  exact z_vret (u := (ksi (ksi S7 19 0) 20 (-1))) b rfl dX5_open_36 h rfl (by decide) (by decide)

def w_X11_takeTape (cy : Nat → ClassId) (tE : Nat) (S : KS)  (post : KS → Prop) : Prop :=
  w_X5_open cy tE S (fi S.1 0) (fun S2 => post (ksi S2 0 0))

set_option maxHeartbeats 200000 in
set_option maxRecDepth 100000 in
theorem k_X11_takeTape {l : Launch} {D : va_G} {cy : Nat → ClassId} {T0 tB tE : Nat} {a : Nat → Nat} {rw : Nat → Option Nat} (hrw : ∀ i, i < 6 → rw i = some (a (12 + 2 * i))) (S : KS)  (post : KS → Prop) (h : w_X11_takeTape cy tE S  post) : Ct l D cy T0 tB tE yX11_takeTape cX11_takeTape 1 none 6 171 0 0 (kw cy a rw S) [.ref (a 0)] (QV D (U := KS) post (kw cy a rw)) := by
  refine Ct.ofZ RX11 "takeTape" [(0, .ref (a 0))] rfl rfl rfl rfl (Nat.le_of_ble_eq_true rfl) ?_
  intro p e R s m args below meth c A b
  unfold w_X11_takeTape at h
  refine z_aload_n b dX11_takeTape_0 rfl rfl ?_
  refine z_get (q0 := 0) (k9 := 2) (v := .ref (a 26)) b (kw_0 cy a rw S) rfl in_X11 (by decide) wf_X11_20 rfl dX11_takeTape_1 ?_
  refine z_aload_n b dX11_takeTape_4 rfl rfl ?_
  refine z_get (q0 := 0) (k9 := 0) (v := .ref (a 1)) b (kw_0 cy a rw S) rfl in_X11 (by decide) wf_X11_9 rfl dX11_takeTape_5 ?_
  refine z_aload_n b dX11_takeTape_8 rfl rfl ?_
  refine z_get (q0 := 0) (k9 := 1) (v := .int (fi S.1 0)) b (kw_0 cy a rw S) rfl in_X11 (by decide) wf_X11_13 rfl dX11_takeTape_9 ?_
  refine z_callv b (z_runV (q0 := 26) (As := [.ref (a 1), .int (fi S.1 0)]) (st := []) b (k_X5_open hrw S (fi S.1 0) _ h) cf_X5_open (kw_26 cy a rw S) rfl wm_X11_261 wi_X5_open ws_X5_open dX11_takeTape_12 rfl (Nat.le_of_ble_eq_true rfl) ⟨by decide, by decide, Nat.le_of_ble_eq_true rfl, Nat.le_of_ble_eq_true rfl⟩) (fun S2 h => ?_)
  refine z_aload_n b dX11_takeTape_15 rfl rfl ?_
  refine z_iconst (v := 0) b dX11_takeTape_16 (by decide) ?_
  refine z_put (q0 := 0) (k9 := 1) tyX11 b (kw_0 cy a rw S2) rfl in_X11 tyX11_ok nmX11 (by decide) wf_X11_13 rfl rfl rfl rfl (Nat.le_of_ble_eq_true rfl) dX11_takeTape_17 (kwp_0_1 cy a rw S2 0) ?_
  exact z_vret (u := (ksi S2 0 0)) b rfl dX11_takeTape_20 h rfl (by decide) (by decide)

def w_X11_end (cy : Nat → ClassId) (tE : Nat) (S : KS) (p0 : Int32) (post : Int32 → KS → Prop) : Prop :=
  w_X11_isWithin cy tE S p0 (fi S.1 0) (fun r1 S2 => ((r1.toInt ≠ 0 → post 1 (ksi S2 0 p0)) ∧ (r1.toInt = 0 → post 0 S2)))

set_option maxHeartbeats 200000 in
set_option maxRecDepth 100000 in
theorem k_X11_end {l : Launch} {D : va_G} {cy : Nat → ClassId} {T0 tB tE : Nat} {a : Nat → Nat} {rw : Nat → Option Nat} (hrw : ∀ i, i < 6 → rw i = some (a (12 + 2 * i))) (S : KS) (p0 : Int32) (post : Int32 → KS → Prop) (h : w_X11_end cy tE S p0 post) : Ct l D cy T0 tB tE yX11_end cX11_end 2 (some .boolean) 1 21 0 0 (kw cy a rw S) [.ref (a 0), .int p0] (QI D (U := KS) post (kw cy a rw)) := by
  refine Ct.ofZ RX11 "end" [(0, .ref (a 0)), (1, .int p0)] rfl rfl rfl rfl (Nat.le_of_ble_eq_true rfl) ?_
  intro p e R s m args below meth c A b
  unfold w_X11_end at h
  refine z_iload_n b dX11_end_0 rfl rfl ?_
  refine z_aload_n b dX11_end_1 rfl rfl ?_
  refine z_get (q0 := 0) (k9 := 1) (v := .int (fi S.1 0)) b (kw_0 cy a rw S) rfl in_X11 (by decide) wf_X11_13 rfl dX11_end_2 ?_
  refine z_calli b (z_runS (As := [.int p0, .int (fi S.1 0)]) (st := []) b (k_X11_isWithin hrw S p0 (fi S.1 0) _ h) cf_X11_isWithin wm_X11_73 ws_X11_isWithin dX11_end_5 rfl (Nat.le_of_ble_eq_true rfl) ⟨by decide, by decide, Nat.le_of_ble_eq_true rfl, Nat.le_of_ble_eq_true rfl⟩) (fun r1 S2 h => ?_)
  refine y_if_ne (tgt := 13) (xl := r1.toInt) b rfl dX11_end_8 (by decide) (fun c1 => ?_) (fun c1 => ?_)
  · replace h := h.1 c1
    refine z_aload_n b dX11_end_13 rfl rfl ?_
    refine z_iload_n b dX11_end_14 rfl rfl ?_
    refine z_put (q0 := 0) (k9 := 1) tyX11 b (kw_0 cy a rw S2) rfl in_X11 tyX11_ok nmX11 (by decide) wf_X11_13 rfl rfl rfl rfl (Nat.le_of_ble_eq_true rfl) dX11_end_15 (kwp_0_1 cy a rw S2 p0) ?_
    refine z_iconst (v := 1) b dX11_end_18 (by decide) ?_
    exact z_zret (u := (ksi S2 0 p0)) b rfl (by decide) dX11_end_19 h rfl (by decide) (by decide)
  · replace h := h.2 c1
    refine z_iconst (v := 0) b dX11_end_11 (by decide) ?_
    exact z_zret (u := S2) b rfl (by decide) dX11_end_12 h rfl (by decide) (by decide)

def w_Jx4a65c_size_8abf5 (cy : Nat → ClassId) (tE : Nat) (S : KS) (p9 : Nat) (post : Int32 → KS → Prop) : Prop :=
  ∃ (i1 : Nat) (f2 : Int32) (f3 : Value) (f4 : Int32), S.2.2.2[i1]? = some (p9, .inr (0, [.int f2, f3, .int f4])) ∧ post f4 S

set_option maxHeartbeats 200000 in
set_option maxRecDepth 100000 in
theorem k_Jx4a65c_size_8abf5 {l : Launch} {D : va_G} {cy : Nat → ClassId} {T0 tB tE : Nat} {a : Nat → Nat} {rw : Nat → Option Nat} (hrw : ∀ i, i < 6 → rw i = some (a (12 + 2 * i))) (S : KS) (p9 : Nat) (post : Int32 → KS → Prop) (h : w_Jx4a65c_size_8abf5 cy tE S p9 post) : Ct l D cy T0 tB tE yJx4a65c_size_8abf5 cJx4a65c_size_8abf5 1 (some .int) 0 0 0 0 (kw cy a rw S) [.ref p9] (QI D (U := KS) post (kw cy a rw)) := by
  refine Ct.ofZ RJx4a65c "size" [(0, .ref p9)] rfl rfl rfl rfl (Nat.le_of_ble_eq_true rfl) ?_
  intro p e R s m args below meth c A b
  unfold w_Jx4a65c_size_8abf5 at h
  refine z_aload_n b dJx4a65c_size_8abf5_0 rfl rfl ?_
  obtain ⟨i1, f2, f3, f4, g5, h⟩ := h
  refine z_get (q0 := 47 + i1) (k9 := 2) (v := .int f4) b (kw_dyn cy a rw S g5) rfl in_Jx4a65c (by decide) wf_Jx4a65c_48 rfl dJx4a65c_size_8abf5_1 ?_
  exact z_iret (u := S) b rfl dJx4a65c_size_8abf5_4 h rfl (by decide) (by decide)

def w_X11_isNever_B23 (cy : Nat → ClassId) (tE : Nat) (post : Int32 → KS → Prop) (S : KS) (y0 : Int32) : Prop :=
  (y0 = 0 ∨ y0 = 1) ∧ post y0 S

set_option maxHeartbeats 200000 in
set_option maxRecDepth 100000 in
theorem z_X11_isNever_B23 {p : Program} {l : Launch} {e : Env} {R : Room} {s : State} {m : MethodId} {args : Array Value} {below : List Frame} {meth : Method} {c : Code} {D : va_G} {cy : Nat → ClassId} {T0 tB tE : Nat} {A : Nat → Prop} {a : Nat → Nat} {rw : Nat → Option Nat} (hrw : ∀ i, i < 6 → rw i = some (a (12 + 2 * i))) {post : Int32 → KS → Prop} (b : Bz p R s m args meth c D cy T0 tB tE A 2 cX11_isNever RX11 (some .boolean) "isNever" 1 20 0 0) (S : KS) (y0 : Int32) (h : w_X11_isNever_B23 cy tE post S y0) : Z p l e R s m args below meth c D A 2 (MQ below (QI D (U := KS) post (kw cy a rw) A) args s 0 0 A) 0 0 (kw cy a rw S) [] 23 [.int y0] := by
  unfold w_X11_isNever_B23 at h
  obtain ⟨g1, h⟩ := h
  exact z_zret (u := S) b rfl (z_bool g1) dX11_isNever_23 h rfl (by decide) (by decide)

def w_X11_isNever_B22 (cy : Nat → ClassId) (tE : Nat) (post : Int32 → KS → Prop) (S : KS)  : Prop :=
  w_X11_isNever_B23 cy tE post S 0

set_option maxHeartbeats 200000 in
set_option maxRecDepth 100000 in
theorem z_X11_isNever_B22 {p : Program} {l : Launch} {e : Env} {R : Room} {s : State} {m : MethodId} {args : Array Value} {below : List Frame} {meth : Method} {c : Code} {D : va_G} {cy : Nat → ClassId} {T0 tB tE : Nat} {A : Nat → Prop} {a : Nat → Nat} {rw : Nat → Option Nat} (hrw : ∀ i, i < 6 → rw i = some (a (12 + 2 * i))) {post : Int32 → KS → Prop} (b : Bz p R s m args meth c D cy T0 tB tE A 2 cX11_isNever RX11 (some .boolean) "isNever" 1 20 0 0) (S : KS)  (h : w_X11_isNever_B22 cy tE post S ) : Z p l e R s m args below meth c D A 2 (MQ below (QI D (U := KS) post (kw cy a rw) A) args s 0 0 A) 0 0 (kw cy a rw S) [] 22 [] := by
  unfold w_X11_isNever_B22 at h
  refine z_iconst (v := 0) b dX11_isNever_22 (by decide) ?_
  exact z_X11_isNever_B23 hrw b _ _ h

def w_X11_isNever (cy : Nat → ClassId) (tE : Nat) (S : KS) (p0 : Int32) (post : Int32 → KS → Prop) : Prop :=
  ((p0.toInt < 0 → w_X11_isNever_B22 cy tE post S) ∧ (0 ≤ p0.toInt → ∃ (i2 : Nat) (f3 : List Value), S.2.2.2[i2]? = some ((S.2.1 1), .inr (0, f3)) ∧ w_Jx4a65c_size_8abf5 cy tE S (S.2.1 1) (fun r5 S6 => ((r5.toInt ≤ p0.toInt → w_X11_isNever_B22 cy tE post S6) ∧ (p0.toInt < r5.toInt → w_X11_isNever_B23 cy tE post S6 1)))))

set_option maxHeartbeats 200000 in
set_option maxRecDepth 100000 in
theorem k_X11_isNever {l : Launch} {D : va_G} {cy : Nat → ClassId} {T0 tB tE : Nat} {a : Nat → Nat} {rw : Nat → Option Nat} (hrw : ∀ i, i < 6 → rw i = some (a (12 + 2 * i))) (S : KS) (p0 : Int32) (post : Int32 → KS → Prop) (h : w_X11_isNever cy tE S p0 post) : Ct l D cy T0 tB tE yX11_isNever cX11_isNever 2 (some .boolean) 1 20 0 0 (kw cy a rw S) [.ref (a 0), .int p0] (QI D (U := KS) post (kw cy a rw)) := by
  refine Ct.ofZ RX11 "isNever" [(0, .ref (a 0)), (1, .int p0)] rfl rfl rfl rfl (Nat.le_of_ble_eq_true rfl) ?_
  intro p e R s m args below meth c A b
  unfold w_X11_isNever at h
  refine z_iload_n b dX11_isNever_0 rfl rfl ?_
  refine y_if_lt (tgt := 22) (xl := p0.toInt) b rfl dX11_isNever_1 (by decide) (fun c1 => ?_) (fun c1 => ?_)
  · replace h := h.1 c1
    refine z_lv0 (lv' := []) [] rfl ?_
    exact z_X11_isNever_B22 hrw b _ h
  · replace h := h.2 c1
    refine z_iload_n b dX11_isNever_4 rfl rfl ?_
    refine z_aload_n b dX11_isNever_5 rfl rfl ?_
    refine z_get (q0 := 0) (k9 := 3) (v := .ref (a 33)) b (kw_0 cy a rw S) rfl in_X11 (by decide) wf_X11_27 rfl dX11_isNever_6 ?_
    refine z_get (q0 := 33) (k9 := 1) (v := .ref (S.2.1 1)) b (kw_33 cy a rw S) rfl in_X4 (by decide) wf_X11_122 rfl dX11_isNever_9 ?_
    obtain ⟨i2, f3, g4, h⟩ := h
    refine z_calli b (z_runV (q0 := 47 + i2) (As := []) (st := [.int p0]) b (k_Jx4a65c_size_8abf5 hrw S (S.2.1 1) _ h) cf_Jx4a65c_size_8abf5 (kw_dyn cy a rw S g4) rfl wm_X11_117 wi_Jx4a65c_size_8abf5 ws_Jx4a65c_size_8abf5 dX11_isNever_12 rfl (Nat.le_of_ble_eq_true rfl) ⟨by decide, by decide, Nat.le_of_ble_eq_true rfl, Nat.le_of_ble_eq_true rfl⟩) (fun r5 S6 h => ?_)
    refine y_icmp_ge (tgt := 22) (xl := p0.toInt) (yl := r5.toInt) b rfl rfl dX11_isNever_15 (by decide) (fun c1 => ?_) (fun c1 => ?_)
    · replace h := h.1 c1
      refine z_lv0 (lv' := []) [] rfl ?_
      exact z_X11_isNever_B22 hrw b _ h
    · replace h := h.2 c1
      refine z_iconst (v := 1) b dX11_isNever_18 (by decide) ?_
      refine z_goto (tgt := 23) b dX11_isNever_19 (by decide) ?_
      refine z_lv0 (lv' := []) [] rfl ?_
      exact z_X11_isNever_B23 hrw b _ _ h

def w_X6_person_B22 (cy : Nat → ClassId) (tE : Nat) (post : Int32 → KS → Prop) (S : KS) (y0 : Int32) : Prop :=
  post y0 S

set_option maxHeartbeats 200000 in
set_option maxRecDepth 100000 in
theorem z_X6_person_B22 {p : Program} {l : Launch} {e : Env} {R : Room} {s : State} {m : MethodId} {args : Array Value} {below : List Frame} {meth : Method} {c : Code} {D : va_G} {cy : Nat → ClassId} {T0 tB tE : Nat} {A : Nat → Prop} {a : Nat → Nat} {rw : Nat → Option Nat} (hrw : ∀ i, i < 6 → rw i = some (a (12 + 2 * i))) {post : Int32 → KS → Prop} (b : Bz p R s m args meth c D cy T0 tB tE A 2 cX6_person RX6 (some .int) "person" 0 0 0 0) (S : KS) (y0 : Int32) (h : w_X6_person_B22 cy tE post S y0) : Z p l e R s m args below meth c D A 2 (MQ below (QI D (U := KS) post (kw cy a rw) A) args s 0 0 A) 0 0 (kw cy a rw S) [] 22 [.int y0] := by
  unfold w_X6_person_B22 at h
  exact z_iret (u := S) b rfl dX6_person_22 h rfl (by decide) (by decide)

def w_X6_person (cy : Nat → ClassId) (tE : Nat) (S : KS) (p0 : Int32) (post : Int32 → KS → Prop) : Prop :=
  ((p0.toInt ≠ 0 → ((p0.toInt ≠ 1 → w_X6_person_B22 cy tE post S 3) ∧ (p0.toInt = 1 → w_X6_person_B22 cy tE post S (fi S.1 24)))) ∧ (p0.toInt = 0 → post (fi S.1 23) S))

set_option maxHeartbeats 200000 in
set_option maxRecDepth 100000 in
theorem k_X6_person {l : Launch} {D : va_G} {cy : Nat → ClassId} {T0 tB tE : Nat} {a : Nat → Nat} {rw : Nat → Option Nat} (hrw : ∀ i, i < 6 → rw i = some (a (12 + 2 * i))) (S : KS) (p0 : Int32) (post : Int32 → KS → Prop) (h : w_X6_person cy tE S p0 post) : Ct l D cy T0 tB tE yX6_person cX6_person 2 (some .int) 0 0 0 0 (kw cy a rw S) [.ref (a 36), .int p0] (QI D (U := KS) post (kw cy a rw)) := by
  refine Ct.ofZ RX6 "person" [(0, .ref (a 36)), (1, .int p0)] rfl rfl rfl rfl (Nat.le_of_ble_eq_true rfl) ?_
  intro p e R s m args below meth c A b
  unfold w_X6_person at h
  refine z_iload_n b dX6_person_0 rfl rfl ?_
  refine y_if_ne (tgt := 9) (xl := p0.toInt) b rfl dX6_person_1 (by decide) (fun c1 => ?_) (fun c1 => ?_)
  · replace h := h.1 c1
    refine z_iload_n b dX6_person_9 rfl rfl ?_
    refine z_iconst (v := 1) b dX6_person_10 (by decide) ?_
    refine y_icmp_ne (tgt := 21) (xl := p0.toInt) (yl := 1) b rfl (by decide) dX6_person_11 (by decide) (fun c1 => ?_) (fun c1 => ?_)
    · replace h := h.1 c1
      refine z_iconst (v := 3) b dX6_person_21 (by decide) ?_
      refine z_lv0 (lv' := []) [] rfl ?_
      exact z_X6_person_B22 hrw b _ _ h
    · replace h := h.2 c1
      refine z_aload_n b dX6_person_14 rfl rfl ?_
      refine z_get (q0 := 36) (k9 := 3) (v := .int (fi S.1 24)) b (kw_36 cy a rw S) rfl in_X6 (by decide) wf_X6_26 rfl dX6_person_15 ?_
      refine z_goto (tgt := 22) b dX6_person_18 (by decide) ?_
      refine z_lv0 (lv' := []) [] rfl ?_
      exact z_X6_person_B22 hrw b _ _ h
  · replace h := h.2 c1
    refine z_aload_n b dX6_person_4 rfl rfl ?_
    refine z_get (q0 := 36) (k9 := 2) (v := .int (fi S.1 23)) b (kw_36 cy a rw S) rfl in_X6 (by decide) wf_X6_22 rfl dX6_person_5 ?_
    exact z_iret (u := S) b rfl dX6_person_8 h rfl (by decide) (by decide)

def w_X6_isJoint_B23 (cy : Nat → ClassId) (tE : Nat) (post : Int32 → KS → Prop) (S : KS) (y0 : Int32) : Prop :=
  (y0 = 0 ∨ y0 = 1) ∧ post y0 S

set_option maxHeartbeats 200000 in
set_option maxRecDepth 100000 in
theorem z_X6_isJoint_B23 {p : Program} {l : Launch} {e : Env} {R : Room} {s : State} {m : MethodId} {args : Array Value} {below : List Frame} {meth : Method} {c : Code} {D : va_G} {cy : Nat → ClassId} {T0 tB tE : Nat} {A : Nat → Prop} {a : Nat → Nat} {rw : Nat → Option Nat} (hrw : ∀ i, i < 6 → rw i = some (a (12 + 2 * i))) {post : Int32 → KS → Prop} (b : Bz p R s m args meth c D cy T0 tB tE A 1 cX6_isJoint RX6 (some .boolean) "isJoint" 0 0 0 0) (S : KS) (y0 : Int32) (h : w_X6_isJoint_B23 cy tE post S y0) : Z p l e R s m args below meth c D A 1 (MQ below (QI D (U := KS) post (kw cy a rw) A) args s 0 0 A) 0 0 (kw cy a rw S) [] 23 [.int y0] := by
  unfold w_X6_isJoint_B23 at h
  obtain ⟨g1, h⟩ := h
  exact z_zret (u := S) b rfl (z_bool g1) dX6_isJoint_23 h rfl (by decide) (by decide)

def w_X6_isJoint_B18 (cy : Nat → ClassId) (tE : Nat) (post : Int32 → KS → Prop) (S : KS)  : Prop :=
  w_X6_isJoint_B23 cy tE post S 1

set_option maxHeartbeats 200000 in
set_option maxRecDepth 100000 in
theorem z_X6_isJoint_B18 {p : Program} {l : Launch} {e : Env} {R : Room} {s : State} {m : MethodId} {args : Array Value} {below : List Frame} {meth : Method} {c : Code} {D : va_G} {cy : Nat → ClassId} {T0 tB tE : Nat} {A : Nat → Prop} {a : Nat → Nat} {rw : Nat → Option Nat} (hrw : ∀ i, i < 6 → rw i = some (a (12 + 2 * i))) {post : Int32 → KS → Prop} (b : Bz p R s m args meth c D cy T0 tB tE A 1 cX6_isJoint RX6 (some .boolean) "isJoint" 0 0 0 0) (S : KS)  (h : w_X6_isJoint_B18 cy tE post S ) : Z p l e R s m args below meth c D A 1 (MQ below (QI D (U := KS) post (kw cy a rw) A) args s 0 0 A) 0 0 (kw cy a rw S) [] 18 [] := by
  unfold w_X6_isJoint_B18 at h
  refine z_iconst (v := 1) b dX6_isJoint_18 (by decide) ?_
  refine z_goto (tgt := 23) b dX6_isJoint_19 (by decide) ?_
  exact z_X6_isJoint_B23 hrw b _ _ h

def w_X6_isJoint (cy : Nat → ClassId) (tE : Nat) (S : KS) (p0 : Int32) (post : Int32 → KS → Prop) : Prop :=
  ((p0.toInt = 15 → w_X6_isJoint_B18 cy tE post S) ∧ (p0.toInt ≠ 15 → ((p0.toInt = 16 → w_X6_isJoint_B18 cy tE post S) ∧ (p0.toInt ≠ 16 → ((p0.toInt < 24 → w_X6_isJoint_B23 cy tE post S 0) ∧ (24 ≤ p0.toInt → w_X6_isJoint_B18 cy tE post S))))))

set_option maxHeartbeats 200000 in
set_option maxRecDepth 100000 in
theorem k_X6_isJoint {l : Launch} {D : va_G} {cy : Nat → ClassId} {T0 tB tE : Nat} {a : Nat → Nat} {rw : Nat → Option Nat} (hrw : ∀ i, i < 6 → rw i = some (a (12 + 2 * i))) (S : KS) (p0 : Int32) (post : Int32 → KS → Prop) (h : w_X6_isJoint cy tE S p0 post) : Ct l D cy T0 tB tE yX6_isJoint cX6_isJoint 1 (some .boolean) 0 0 0 0 (kw cy a rw S) [.int p0] (QI D (U := KS) post (kw cy a rw)) := by
  refine Ct.ofZ RX6 "isJoint" [(0, .int p0)] rfl rfl rfl rfl (Nat.le_of_ble_eq_true rfl) ?_
  intro p e R s m args below meth c A b
  unfold w_X6_isJoint at h
  refine z_iload_n b dX6_isJoint_0 rfl rfl ?_
  refine z_bipush (v := 15) b dX6_isJoint_1 (by decide) ?_
  refine y_icmp_eq (tgt := 18) (xl := p0.toInt) (yl := 15) b rfl (by decide) dX6_isJoint_3 (by decide) (fun c1 => ?_) (fun c1 => ?_)
  · replace h := h.1 c1
    refine z_lv0 (lv' := []) [] rfl ?_
    exact z_X6_isJoint_B18 hrw b _ h
  · replace h := h.2 c1
    refine z_iload_n b dX6_isJoint_6 rfl rfl ?_
    refine z_bipush (v := 16) b dX6_isJoint_7 (by decide) ?_
    refine y_icmp_eq (tgt := 18) (xl := p0.toInt) (yl := 16) b rfl (by decide) dX6_isJoint_9 (by decide) (fun c1 => ?_) (fun c1 => ?_)
    · replace h := h.1 c1
      refine z_lv0 (lv' := []) [] rfl ?_
      exact z_X6_isJoint_B18 hrw b _ h
    · replace h := h.2 c1
      refine z_iload_n b dX6_isJoint_12 rfl rfl ?_
      refine z_bipush (v := 24) b dX6_isJoint_13 (by decide) ?_
      refine y_icmp_lt (tgt := 22) (xl := p0.toInt) (yl := 24) b rfl (by decide) dX6_isJoint_15 (by decide) (fun c1 => ?_) (fun c1 => ?_)
      · replace h := h.1 c1
        refine z_iconst (v := 0) b dX6_isJoint_22 (by decide) ?_
        refine z_lv0 (lv' := []) [] rfl ?_
        exact z_X6_isJoint_B23 hrw b _ _ h
      · replace h := h.2 c1
        refine z_lv0 (lv' := []) [] rfl ?_
        exact z_X6_isJoint_B18 hrw b _ h

def w_X8_acts_B22 (cy : Nat → ClassId) (tE : Nat) (post : Int32 → KS → Prop) (S : KS) (y0 : Int32) : Prop :=
  post y0 S

set_option maxHeartbeats 200000 in
set_option maxRecDepth 100000 in
theorem z_X8_acts_B22 {p : Program} {l : Launch} {e : Env} {R : Room} {s : State} {m : MethodId} {args : Array Value} {below : List Frame} {meth : Method} {c : Code} {D : va_G} {cy : Nat → ClassId} {T0 tB tE : Nat} {A : Nat → Prop} {a : Nat → Nat} {rw : Nat → Option Nat} (hrw : ∀ i, i < 6 → rw i = some (a (12 + 2 * i))) {post : Int32 → KS → Prop} (b : Bz p R s m args meth c D cy T0 tB tE A 2 cX8_acts RX8 (some .int) "acts" 0 0 0 0) (S : KS) (y0 : Int32) (h : w_X8_acts_B22 cy tE post S y0) : Z p l e R s m args below meth c D A 2 (MQ below (QI D (U := KS) post (kw cy a rw) A) args s 0 0 A) 0 0 (kw cy a rw S) [] 22 [.int y0] := by
  unfold w_X8_acts_B22 at h
  exact z_iret (u := S) b rfl dX8_acts_22 h rfl (by decide) (by decide)

def w_X8_acts_B21 (cy : Nat → ClassId) (tE : Nat) (post : Int32 → KS → Prop) (S : KS)  : Prop :=
  w_X8_acts_B22 cy tE post S 0

set_option maxHeartbeats 200000 in
set_option maxRecDepth 100000 in
theorem z_X8_acts_B21 {p : Program} {l : Launch} {e : Env} {R : Room} {s : State} {m : MethodId} {args : Array Value} {below : List Frame} {meth : Method} {c : Code} {D : va_G} {cy : Nat → ClassId} {T0 tB tE : Nat} {A : Nat → Prop} {a : Nat → Nat} {rw : Nat → Option Nat} (hrw : ∀ i, i < 6 → rw i = some (a (12 + 2 * i))) {post : Int32 → KS → Prop} (b : Bz p R s m args meth c D cy T0 tB tE A 2 cX8_acts RX8 (some .int) "acts" 0 0 0 0) (S : KS)  (h : w_X8_acts_B21 cy tE post S ) : Z p l e R s m args below meth c D A 2 (MQ below (QI D (U := KS) post (kw cy a rw) A) args s 0 0 A) 0 0 (kw cy a rw S) [] 21 [] := by
  unfold w_X8_acts_B21 at h
  refine z_iconst (v := 0) b dX8_acts_21 (by decide) ?_
  exact z_X8_acts_B22 hrw b _ _ h

def w_X8_acts (cy : Nat → ClassId) (tE : Nat) (S : KS) (p0 : Int32) (post : Int32 → KS → Prop) : Prop :=
  ((p0.toInt < 0 → w_X8_acts_B21 cy tE post S) ∧ (0 ≤ p0.toInt → (((fi S.1 33).toInt ≤ p0.toInt → w_X8_acts_B21 cy tE post S) ∧ (p0.toInt < (fi S.1 33).toInt → (0 ≤ p0.toInt ∧ p0.toInt < 400) ∧ w_X8_acts_B22 cy tE post S ((ar S.1 17) p0.toNatClampNeg)))))

set_option maxHeartbeats 200000 in
set_option maxRecDepth 100000 in
theorem k_X8_acts {l : Launch} {D : va_G} {cy : Nat → ClassId} {T0 tB tE : Nat} {a : Nat → Nat} {rw : Nat → Option Nat} (hrw : ∀ i, i < 6 → rw i = some (a (12 + 2 * i))) (S : KS) (p0 : Int32) (post : Int32 → KS → Prop) (h : w_X8_acts cy tE S p0 post) : Ct l D cy T0 tB tE yX8_acts cX8_acts 2 (some .int) 0 0 0 0 (kw cy a rw S) [.ref (a 38), .int p0] (QI D (U := KS) post (kw cy a rw)) := by
  refine Ct.ofZ RX8 "acts" [(0, .ref (a 38)), (1, .int p0)] rfl rfl rfl rfl (Nat.le_of_ble_eq_true rfl) ?_
  intro p e R s m args below meth c A b
  unfold w_X8_acts at h
  refine z_iload_n b dX8_acts_0 rfl rfl ?_
  refine y_if_lt (tgt := 21) (xl := p0.toInt) b rfl dX8_acts_1 (by decide) (fun c1 => ?_) (fun c1 => ?_)
  · replace h := h.1 c1
    refine z_lv0 (lv' := []) [] rfl ?_
    exact z_X8_acts_B21 hrw b _ h
  · replace h := h.2 c1
    refine z_iload_n b dX8_acts_4 rfl rfl ?_
    refine z_aload_n b dX8_acts_5 rfl rfl ?_
    refine z_get (q0 := 38) (k9 := 17) (v := .int (fi S.1 33)) b (kw_38 cy a rw S) rfl in_X8 (by decide) wf_X8_64 rfl dX8_acts_6 ?_
    refine y_icmp_ge (tgt := 21) (xl := p0.toInt) (yl := (fi S.1 33).toInt) b rfl rfl dX8_acts_9 (by decide) (fun c1 => ?_) (fun c1 => ?_)
    · replace h := h.1 c1
      refine z_lv0 (lv' := []) [] rfl ?_
      exact z_X8_acts_B21 hrw b _ h
    · replace h := h.2 c1
      refine z_aload_n b dX8_acts_12 rfl rfl ?_
      refine z_get (q0 := 38) (k9 := 4) (v := .ref (a 40)) b (kw_38 cy a rw S) rfl in_X8 (by decide) wf_X8_22 rfl dX8_acts_13 ?_
      refine z_iload_n b dX8_acts_16 rfl rfl ?_
      obtain ⟨g1, h⟩ := h
      refine y_iald (q0 := 40) (j := p0.toNatClampNeg) (v := ((ar S.1 17) p0.toNatClampNeg)) b (kw_40 cy a rw S) (zx_r g1.1 g1.2) rfl dX8_acts_17 ?_
      refine z_goto (tgt := 22) b dX8_acts_18 (by decide) ?_
      refine z_lv0 (lv' := []) [] rfl ?_
      exact z_X8_acts_B22 hrw b _ _ h

def w_X9_set_B20 (cy : Nat → ClassId) (tE : Nat) (post : KS → Prop) (S : KS)  : Prop :=
  post S

set_option maxHeartbeats 200000 in
set_option maxRecDepth 100000 in
theorem z_X9_set_B20 {p : Program} {l : Launch} {e : Env} {R : Room} {s : State} {m : MethodId} {args : Array Value} {below : List Frame} {meth : Method} {c : Code} {D : va_G} {cy : Nat → ClassId} {T0 tB tE : Nat} {A : Nat → Prop} {a : Nat → Nat} {rw : Nat → Option Nat} (hrw : ∀ i, i < 6 → rw i = some (a (12 + 2 * i))) {post : KS → Prop} (b : Bz p R s m args meth c D cy T0 tB tE A 3 cX9_set RX9 none "set" 0 0 0 0) (S : KS)  (h : w_X9_set_B20 cy tE post S ) : Z p l e R s m args below meth c D A 3 (MQ below (QV D (U := KS) post (kw cy a rw) A) args s 0 0 A) 0 0 (kw cy a rw S) [] 20 [] := by
  unfold w_X9_set_B20 at h
  exact z_vret (u := S) b rfl dX9_set_20 h rfl (by decide) (by decide)

def w_X9_set (cy : Nat → ClassId) (tE : Nat) (S : KS) (p9 : Nat) (p0 : Int32) (p1 : Int32) (post : KS → Prop) : Prop :=
  ((p0.toInt < 0 → w_X9_set_B20 cy tE post S) ∧ (0 ≤ p0.toInt → (p9 < 5) ∧ (p9 < 5) ∧ ((51 ≤ p0.toInt → w_X9_set_B20 cy tE post S) ∧ (p0.toInt < 51 → (p9 < 5) ∧ (p9 < 5) ∧ (0 ≤ p0.toInt ∧ p0.toInt < 51) ∧ w_X9_set_B20 cy tE post (ksu S (1 + p9) (p0.toNatClampNeg) p1)))))

set_option maxHeartbeats 200000 in
set_option maxRecDepth 100000 in
theorem k_X9_set {l : Launch} {D : va_G} {cy : Nat → ClassId} {T0 tB tE : Nat} {a : Nat → Nat} {rw : Nat → Option Nat} (hrw : ∀ i, i < 6 → rw i = some (a (12 + 2 * i))) (S : KS) (p9 : Nat) (p0 : Int32) (p1 : Int32) (post : KS → Prop) (h : w_X9_set cy tE S p9 p0 p1 post) : Ct l D cy T0 tB tE yX9_set cX9_set 3 none 0 0 0 0 (kw cy a rw S) [.ref (a (2 + 2 * p9)), .int p0, .int p1] (QV D (U := KS) post (kw cy a rw)) := by
  refine Ct.ofZ RX9 "set" [(0, .ref (a (2 + 2 * p9))), (1, .int p0), (2, .int p1)] rfl rfl rfl rfl (Nat.le_of_ble_eq_true rfl) ?_
  intro p e R s m args below meth c A b
  unfold w_X9_set at h
  refine z_iload_n b dX9_set_0 rfl rfl ?_
  refine y_if_lt (tgt := 20) (xl := p0.toInt) b rfl dX9_set_1 (by decide) (fun c1 => ?_) (fun c1 => ?_)
  · replace h := h.1 c1
    refine z_lv0 (lv' := []) [] rfl ?_
    exact z_X9_set_B20 hrw b _ h
  · replace h := h.2 c1
    refine z_iload_n b dX9_set_4 rfl rfl ?_
    refine z_aload_n b dX9_set_5 rfl rfl ?_
    obtain ⟨g1, h⟩ := h
    refine z_get (q0 := 2 + 2 * p9) (k9 := 0) (v := .ref (a (3 + 2 * p9))) b (kw_so cy a rw S g1) rfl in_X9 (by decide) wf_X9_11 rfl dX9_set_6 ?_
    obtain ⟨g2, h⟩ := h
    refine z_alen (q0 := 3 + 2 * p9) (t0 := 0) (v := 51) b (kw_sr cy a rw S g2) rfl rfl dX9_set_9 ?_
    refine y_icmp_ge (tgt := 20) (xl := p0.toInt) (yl := 51) b rfl (by decide) dX9_set_10 (by decide) (fun c1 => ?_) (fun c1 => ?_)
    · replace h := h.1 c1
      refine z_lv0 (lv' := []) [] rfl ?_
      exact z_X9_set_B20 hrw b _ h
    · replace h := h.2 c1
      refine z_aload_n b dX9_set_13 rfl rfl ?_
      obtain ⟨g3, h⟩ := h
      refine z_get (q0 := 2 + 2 * p9) (k9 := 0) (v := .ref (a (3 + 2 * p9))) b (kw_so cy a rw S g3) rfl in_X9 (by decide) wf_X9_11 rfl dX9_set_14 ?_
      refine z_iload_n b dX9_set_17 rfl rfl ?_
      refine z_iload_n b dX9_set_18 rfl rfl ?_
      obtain ⟨g4, h⟩ := h
      obtain ⟨g5, h⟩ := h
      refine y_iast (q0 := 3 + 2 * p9) (j := p0.toNatClampNeg) b (kw_sr cy a rw S g4) (zx_r g5.1 g5.2) dX9_set_19 (kwa_sr cy a rw S g4 (p0.toNatClampNeg) p1) ?_
      refine z_lv0 (lv' := []) [] rfl ?_
      exact z_X9_set_B20 hrw b _ h

def w_X11_arePair_B24 (cy : Nat → ClassId) (tE : Nat) (post : Int32 → KS → Prop) (S : KS) (y0 : Int32) : Prop :=
  (y0 = 0 ∨ y0 = 1) ∧ post y0 S

set_option maxHeartbeats 200000 in
set_option maxRecDepth 100000 in
theorem z_X11_arePair_B24 {p : Program} {l : Launch} {e : Env} {R : Room} {s : State} {m : MethodId} {args : Array Value} {below : List Frame} {meth : Method} {c : Code} {D : va_G} {cy : Nat → ClassId} {T0 tB tE : Nat} {A : Nat → Prop} {a : Nat → Nat} {rw : Nat → Option Nat} (hrw : ∀ i, i < 6 → rw i = some (a (12 + 2 * i))) {post : Int32 → KS → Prop} (b : Bz p R s m args meth c D cy T0 tB tE A 2 cX11_arePair RX11 (some .boolean) "arePair" 1 20 0 0) (S : KS) (y0 : Int32) (h : w_X11_arePair_B24 cy tE post S y0) : Z p l e R s m args below meth c D A 2 (MQ below (QI D (U := KS) post (kw cy a rw) A) args s 0 0 A) 0 0 (kw cy a rw S) [] 24 [.int y0] := by
  unfold w_X11_arePair_B24 at h
  obtain ⟨g3, h⟩ := h
  exact z_zret (u := S) b rfl (z_bool g3) dX11_arePair_24 h rfl (by decide) (by decide)

def w_X11_arePair_B23 (cy : Nat → ClassId) (tE : Nat) (post : Int32 → KS → Prop) (S : KS)  : Prop :=
  w_X11_arePair_B24 cy tE post S 0

set_option maxHeartbeats 200000 in
set_option maxRecDepth 100000 in
theorem z_X11_arePair_B23 {p : Program} {l : Launch} {e : Env} {R : Room} {s : State} {m : MethodId} {args : Array Value} {below : List Frame} {meth : Method} {c : Code} {D : va_G} {cy : Nat → ClassId} {T0 tB tE : Nat} {A : Nat → Prop} {a : Nat → Nat} {rw : Nat → Option Nat} (hrw : ∀ i, i < 6 → rw i = some (a (12 + 2 * i))) {post : Int32 → KS → Prop} (b : Bz p R s m args meth c D cy T0 tB tE A 2 cX11_arePair RX11 (some .boolean) "arePair" 1 20 0 0) (S : KS)  (h : w_X11_arePair_B23 cy tE post S ) : Z p l e R s m args below meth c D A 2 (MQ below (QI D (U := KS) post (kw cy a rw) A) args s 0 0 A) 0 0 (kw cy a rw S) [] 23 [] := by
  unfold w_X11_arePair_B23 at h
  refine z_iconst (v := 0) b dX11_arePair_23 (by decide) ?_
  exact z_X11_arePair_B24 hrw b _ _ h

def w_X11_arePair (cy : Nat → ClassId) (tE : Nat) (S : KS) (p0 : Int32) (p1 : Int32) (post : Int32 → KS → Prop) : Prop :=
  w_X11_isPerson cy tE S p0 (fun r1 S2 => ((r1.toInt = 0 → w_X11_arePair_B23 cy tE post S2) ∧ (r1.toInt ≠ 0 → w_X11_isPerson cy tE S2 p1 (fun r4 S5 => ((r4.toInt = 0 → w_X11_arePair_B23 cy tE post S5) ∧ (r4.toInt ≠ 0 → ((p0.toInt = p1.toInt → w_X11_arePair_B23 cy tE post S5) ∧ (p0.toInt ≠ p1.toInt → w_X11_arePair_B24 cy tE post S5 1))))))))

set_option maxHeartbeats 200000 in
set_option maxRecDepth 100000 in
theorem k_X11_arePair {l : Launch} {D : va_G} {cy : Nat → ClassId} {T0 tB tE : Nat} {a : Nat → Nat} {rw : Nat → Option Nat} (hrw : ∀ i, i < 6 → rw i = some (a (12 + 2 * i))) (S : KS) (p0 : Int32) (p1 : Int32) (post : Int32 → KS → Prop) (h : w_X11_arePair cy tE S p0 p1 post) : Ct l D cy T0 tB tE yX11_arePair cX11_arePair 2 (some .boolean) 1 20 0 0 (kw cy a rw S) [.int p0, .int p1] (QI D (U := KS) post (kw cy a rw)) := by
  refine Ct.ofZ RX11 "arePair" [(0, .int p0), (1, .int p1)] rfl rfl rfl rfl (Nat.le_of_ble_eq_true rfl) ?_
  intro p e R s m args below meth c A b
  unfold w_X11_arePair at h
  refine z_iload_n b dX11_arePair_0 rfl rfl ?_
  refine z_calli b (z_runS (As := [.int p0]) (st := []) b (k_X11_isPerson hrw S p0 _ h) cf_X11_isPerson wm_X11_69 ws_X11_isPerson dX11_arePair_1 rfl (Nat.le_of_ble_eq_true rfl) ⟨by decide, by decide, Nat.le_of_ble_eq_true rfl, Nat.le_of_ble_eq_true rfl⟩) (fun r1 S2 h => ?_)
  refine y_if_eq (tgt := 23) (xl := r1.toInt) b rfl dX11_arePair_4 (by decide) (fun c1 => ?_) (fun c1 => ?_)
  · replace h := h.1 c1
    refine z_lv0 (lv' := []) [] rfl ?_
    exact z_X11_arePair_B23 hrw b _ h
  · replace h := h.2 c1
    refine z_iload_n b dX11_arePair_7 rfl rfl ?_
    refine z_calli b (z_runS (As := [.int p1]) (st := []) b (k_X11_isPerson hrw S2 p1 _ h) cf_X11_isPerson wm_X11_69 ws_X11_isPerson dX11_arePair_8 rfl (Nat.le_of_ble_eq_true rfl) ⟨by decide, by decide, Nat.le_of_ble_eq_true rfl, Nat.le_of_ble_eq_true rfl⟩) (fun r4 S5 h => ?_)
    refine y_if_eq (tgt := 23) (xl := r4.toInt) b rfl dX11_arePair_11 (by decide) (fun c1 => ?_) (fun c1 => ?_)
    · replace h := h.1 c1
      refine z_lv0 (lv' := []) [] rfl ?_
      exact z_X11_arePair_B23 hrw b _ h
    · replace h := h.2 c1
      refine z_iload_n b dX11_arePair_14 rfl rfl ?_
      refine z_iload_n b dX11_arePair_15 rfl rfl ?_
      refine y_icmp_eq (tgt := 23) (xl := p0.toInt) (yl := p1.toInt) b rfl rfl dX11_arePair_16 (by decide) (fun c1 => ?_) (fun c1 => ?_)
      · replace h := h.1 c1
        refine z_lv0 (lv' := []) [] rfl ?_
        exact z_X11_arePair_B23 hrw b _ h
      · replace h := h.2 c1
        refine z_iconst (v := 1) b dX11_arePair_19 (by decide) ?_
        refine z_goto (tgt := 24) b dX11_arePair_20 (by decide) ?_
        refine z_lv0 (lv' := []) [] rfl ?_
        exact z_X11_arePair_B24 hrw b _ _ h

def w_X4_actAt_B23 (cy : Nat → ClassId) (tE : Nat) (post : Option Nat → KS → Prop) (S : KS) (y0 : Option Nat) : Prop :=
  post y0 S

set_option maxHeartbeats 200000 in
set_option maxRecDepth 100000 in
theorem z_X4_actAt_B23 {p : Program} {l : Launch} {e : Env} {R : Room} {s : State} {m : MethodId} {args : Array Value} {below : List Frame} {meth : Method} {c : Code} {D : va_G} {cy : Nat → ClassId} {T0 tB tE : Nat} {A : Nat → Prop} {a : Nat → Nat} {rw : Nat → Option Nat} (hrw : ∀ i, i < 6 → rw i = some (a (12 + 2 * i))) {post : Option Nat → KS → Prop} (b : Bz p R s m args meth c D cy T0 tB tE A 2 cX4_actAt RX4 (some (.object "LawHoles$Act")) "actAt" 0 0 0 0) (S : KS) (y0 : Option Nat) (h : w_X4_actAt_B23 cy tE post S y0) : Z p l e R s m args below meth c D A 2 (MQ below (QQ D (U := KS) post (kw cy a rw) A) args s 0 0 A) 0 0 (kw cy a rw S) [] 23 [va_rf y0] := by
  unfold w_X4_actAt_B23 at h
  exact z_aret (v := y0) (u := S) b rfl (Or.inl ⟨_, rfl⟩) dX4_actAt_23 h rfl (by decide) (by decide)

def w_X4_actAt_B22 (cy : Nat → ClassId) (tE : Nat) (post : Option Nat → KS → Prop) (S : KS)  : Prop :=
  w_X4_actAt_B23 cy tE post S none

set_option maxHeartbeats 200000 in
set_option maxRecDepth 100000 in
theorem z_X4_actAt_B22 {p : Program} {l : Launch} {e : Env} {R : Room} {s : State} {m : MethodId} {args : Array Value} {below : List Frame} {meth : Method} {c : Code} {D : va_G} {cy : Nat → ClassId} {T0 tB tE : Nat} {A : Nat → Prop} {a : Nat → Nat} {rw : Nat → Option Nat} (hrw : ∀ i, i < 6 → rw i = some (a (12 + 2 * i))) {post : Option Nat → KS → Prop} (b : Bz p R s m args meth c D cy T0 tB tE A 2 cX4_actAt RX4 (some (.object "LawHoles$Act")) "actAt" 0 0 0 0) (S : KS)  (h : w_X4_actAt_B22 cy tE post S ) : Z p l e R s m args below meth c D A 2 (MQ below (QQ D (U := KS) post (kw cy a rw) A) args s 0 0 A) 0 0 (kw cy a rw S) [] 22 [] := by
  unfold w_X4_actAt_B22 at h
  refine z_null b dX4_actAt_22 ?_
  exact z_X4_actAt_B23 hrw b _ _ h

def w_X4_actAt (cy : Nat → ClassId) (tE : Nat) (S : KS) (p0 : Int32) (post : Option Nat → KS → Prop) : Prop :=
  ((p0.toInt < 0 → w_X4_actAt_B22 cy tE post S) ∧ (0 ≤ p0.toInt → ((12 ≤ p0.toInt → w_X4_actAt_B22 cy tE post S) ∧ (p0.toInt < 12 → (0 ≤ p0.toInt ∧ p0.toInt < 12) ∧ w_X4_actAt_B23 cy tE post S (S.2.2.1 (p0.toNatClampNeg))))))

set_option maxHeartbeats 200000 in
set_option maxRecDepth 100000 in
theorem k_X4_actAt {l : Launch} {D : va_G} {cy : Nat → ClassId} {T0 tB tE : Nat} {a : Nat → Nat} {rw : Nat → Option Nat} (hrw : ∀ i, i < 6 → rw i = some (a (12 + 2 * i))) (S : KS) (p0 : Int32) (post : Option Nat → KS → Prop) (h : w_X4_actAt cy tE S p0 post) : Ct l D cy T0 tB tE yX4_actAt cX4_actAt 2 (some (.object "LawHoles$Act")) 0 0 0 0 (kw cy a rw S) [.ref (a 33), .int p0] (QQ D (U := KS) post (kw cy a rw)) := by
  refine Ct.ofZ RX4 "actAt" [(0, .ref (a 33)), (1, .int p0)] rfl rfl rfl rfl (Nat.le_of_ble_eq_true rfl) ?_
  intro p e R s m args below meth c A b
  unfold w_X4_actAt at h
  refine z_iload_n b dX4_actAt_0 rfl rfl ?_
  refine y_if_lt (tgt := 22) (xl := p0.toInt) b rfl dX4_actAt_1 (by decide) (fun c1 => ?_) (fun c1 => ?_)
  · replace h := h.1 c1
    refine z_lv0 (lv' := []) [] rfl ?_
    exact z_X4_actAt_B22 hrw b _ h
  · replace h := h.2 c1
    refine z_iload_n b dX4_actAt_4 rfl rfl ?_
    refine z_aload_n b dX4_actAt_5 rfl rfl ?_
    refine z_get (q0 := 33) (k9 := 0) (v := .ref (a 34)) b (kw_33 cy a rw S) rfl in_X4 (by decide) wf_X4_11 rfl dX4_actAt_6 ?_
    refine z_alen (q0 := 34) (t0 := 3) (v := 12) b (kw_34 cy a rw S) rfl rfl dX4_actAt_9 ?_
    refine y_icmp_ge (tgt := 22) (xl := p0.toInt) (yl := 12) b rfl (by decide) dX4_actAt_10 (by decide) (fun c1 => ?_) (fun c1 => ?_)
    · replace h := h.1 c1
      refine z_lv0 (lv' := []) [] rfl ?_
      exact z_X4_actAt_B22 hrw b _ h
    · replace h := h.2 c1
      refine z_aload_n b dX4_actAt_13 rfl rfl ?_
      refine z_get (q0 := 33) (k9 := 0) (v := .ref (a 34)) b (kw_33 cy a rw S) rfl in_X4 (by decide) wf_X4_11 rfl dX4_actAt_14 ?_
      refine z_iload_n b dX4_actAt_17 rfl rfl ?_
      obtain ⟨g1, h⟩ := h
      refine y_aald (q0 := 34) (t0 := 3) (j := p0.toNatClampNeg) (v := va_rf (S.2.2.1 (p0.toNatClampNeg))) b (kw_34 cy a rw S) rfl (zx_r g1.1 g1.2) rfl dX4_actAt_18 ?_
      refine z_goto (tgt := 23) b dX4_actAt_19 (by decide) ?_
      refine z_lv0 (lv' := []) [] rfl ?_
      exact z_X4_actAt_B23 hrw b _ _ h

def w_X7_get_B23 (cy : Nat → ClassId) (tE : Nat) (post : Int32 → KS → Prop) (S : KS) (y0 : Int32) : Prop :=
  post y0 S

set_option maxHeartbeats 200000 in
set_option maxRecDepth 100000 in
theorem z_X7_get_B23 {p : Program} {l : Launch} {e : Env} {R : Room} {s : State} {m : MethodId} {args : Array Value} {below : List Frame} {meth : Method} {c : Code} {D : va_G} {cy : Nat → ClassId} {T0 tB tE : Nat} {A : Nat → Prop} {a : Nat → Nat} {rw : Nat → Option Nat} (hrw : ∀ i, i < 6 → rw i = some (a (12 + 2 * i))) {post : Int32 → KS → Prop} (b : Bz p R s m args meth c D cy T0 tB tE A 2 cX7_get RX7 (some .int) "get" 0 0 0 0) (S : KS) (y0 : Int32) (h : w_X7_get_B23 cy tE post S y0) : Z p l e R s m args below meth c D A 2 (MQ below (QI D (U := KS) post (kw cy a rw) A) args s 0 0 A) 0 0 (kw cy a rw S) [] 23 [.int y0] := by
  unfold w_X7_get_B23 at h
  exact z_iret (u := S) b rfl dX7_get_23 h rfl (by decide) (by decide)

def w_X7_get_B22 (cy : Nat → ClassId) (tE : Nat) (post : Int32 → KS → Prop) (S : KS)  : Prop :=
  w_X7_get_B23 cy tE post S (-1)

set_option maxHeartbeats 200000 in
set_option maxRecDepth 100000 in
theorem z_X7_get_B22 {p : Program} {l : Launch} {e : Env} {R : Room} {s : State} {m : MethodId} {args : Array Value} {below : List Frame} {meth : Method} {c : Code} {D : va_G} {cy : Nat → ClassId} {T0 tB tE : Nat} {A : Nat → Prop} {a : Nat → Nat} {rw : Nat → Option Nat} (hrw : ∀ i, i < 6 → rw i = some (a (12 + 2 * i))) {post : Int32 → KS → Prop} (b : Bz p R s m args meth c D cy T0 tB tE A 2 cX7_get RX7 (some .int) "get" 0 0 0 0) (S : KS)  (h : w_X7_get_B22 cy tE post S ) : Z p l e R s m args below meth c D A 2 (MQ below (QI D (U := KS) post (kw cy a rw) A) args s 0 0 A) 0 0 (kw cy a rw S) [] 22 [] := by
  unfold w_X7_get_B22 at h
  refine z_iconst (v := (-1)) b dX7_get_22 (by decide) ?_
  exact z_X7_get_B23 hrw b _ _ h

def w_X7_get (cy : Nat → ClassId) (tE : Nat) (S : KS) (p9 : Nat) (p0 : Int32) (post : Int32 → KS → Prop) : Prop :=
  ((p0.toInt < 0 → w_X7_get_B22 cy tE post S) ∧ (0 ≤ p0.toInt → (p9 < 7) ∧ (p9 < 7) ∧ (((Int32.ofNat (rowN p9)).toInt ≤ p0.toInt → w_X7_get_B22 cy tE post S) ∧ (p0.toInt < (Int32.ofNat (rowN p9)).toInt → (p9 < 7) ∧ (p9 < 7) ∧ (0 ≤ p0.toInt ∧ p0.toInt < (rowN p9 : Nat)) ∧ w_X7_get_B23 cy tE post S ((ar S.1 (6 + p9)) p0.toNatClampNeg)))))

set_option maxHeartbeats 200000 in
set_option maxRecDepth 100000 in
theorem k_X7_get {l : Launch} {D : va_G} {cy : Nat → ClassId} {T0 tB tE : Nat} {a : Nat → Nat} {rw : Nat → Option Nat} (hrw : ∀ i, i < 6 → rw i = some (a (12 + 2 * i))) (S : KS) (p9 : Nat) (p0 : Int32) (post : Int32 → KS → Prop) (h : w_X7_get cy tE S p9 p0 post) : Ct l D cy T0 tB tE yX7_get cX7_get 2 (some .int) 0 0 0 0 (kw cy a rw S) [.ref (a (12 + 2 * p9)), .int p0] (QI D (U := KS) post (kw cy a rw)) := by
  refine Ct.ofZ RX7 "get" [(0, .ref (a (12 + 2 * p9))), (1, .int p0)] rfl rfl rfl rfl (Nat.le_of_ble_eq_true rfl) ?_
  intro p e R s m args below meth c A b
  unfold w_X7_get at h
  refine z_iload_n b dX7_get_0 rfl rfl ?_
  refine y_if_lt (tgt := 22) (xl := p0.toInt) b rfl dX7_get_1 (by decide) (fun c1 => ?_) (fun c1 => ?_)
  · replace h := h.1 c1
    refine z_lv0 (lv' := []) [] rfl ?_
    exact z_X7_get_B22 hrw b _ h
  · replace h := h.2 c1
    refine z_iload_n b dX7_get_4 rfl rfl ?_
    refine z_aload_n b dX7_get_5 rfl rfl ?_
    obtain ⟨g1, h⟩ := h
    refine z_get (q0 := 12 + 2 * p9) (k9 := 0) (v := .ref (a (13 + 2 * p9))) b (kw_ro cy a rw S g1) rfl in_X7 (by decide) wf_X7_25 rfl dX7_get_6 ?_
    obtain ⟨g2, h⟩ := h
    refine z_alen (q0 := 13 + 2 * p9) (t0 := 0) (v := (Int32.ofNat (rowN p9))) b (kw_rr cy a rw S g2) rfl rfl dX7_get_9 ?_
    refine y_icmp_ge (tgt := 22) (xl := p0.toInt) (yl := (Int32.ofNat (rowN p9)).toInt) b rfl rfl dX7_get_10 (by decide) (fun c1 => ?_) (fun c1 => ?_)
    · replace h := h.1 c1
      refine z_lv0 (lv' := []) [] rfl ?_
      exact z_X7_get_B22 hrw b _ h
    · replace h := h.2 c1
      refine z_aload_n b dX7_get_13 rfl rfl ?_
      obtain ⟨g3, h⟩ := h
      refine z_get (q0 := 12 + 2 * p9) (k9 := 0) (v := .ref (a (13 + 2 * p9))) b (kw_ro cy a rw S g3) rfl in_X7 (by decide) wf_X7_25 rfl dX7_get_14 ?_
      refine z_iload_n b dX7_get_17 rfl rfl ?_
      obtain ⟨g4, h⟩ := h
      obtain ⟨g5, h⟩ := h
      refine y_iald (q0 := 13 + 2 * p9) (j := p0.toNatClampNeg) (v := ((ar S.1 (6 + p9)) p0.toNatClampNeg)) b (kw_rr cy a rw S g4) (zx_r g5.1 g5.2) rfl dX7_get_18 ?_
      refine z_goto (tgt := 23) b dX7_get_19 (by decide) ?_
      refine z_lv0 (lv' := []) [] rfl ?_
      exact z_X7_get_B23 hrw b _ _ h

def w_X9_pairShift_B18 (cy : Nat → ClassId) (tE : Nat) (post : Int32 → KS → Prop) (S : KS) (y0 : Int32) (y1 : Int32) (y2 : Int32) (y3 : Int32) : Prop :=
  post (y3 + (y2 * (y1 + y0))) S

set_option maxHeartbeats 200000 in
set_option maxRecDepth 100000 in
theorem z_X9_pairShift_B18 {p : Program} {l : Launch} {e : Env} {R : Room} {s : State} {m : MethodId} {args : Array Value} {below : List Frame} {meth : Method} {c : Code} {D : va_G} {cy : Nat → ClassId} {T0 tB tE : Nat} {A : Nat → Prop} {a : Nat → Nat} {rw : Nat → Option Nat} (hrw : ∀ i, i < 6 → rw i = some (a (12 + 2 * i))) {post : Int32 → KS → Prop} (b : Bz p R s m args meth c D cy T0 tB tE A 2 cX9_pairShift RX9 (some .int) "pairShift" 0 0 0 0) (S : KS) (y0 : Int32) (y1 : Int32) (y2 : Int32) (y3 : Int32) (h : w_X9_pairShift_B18 cy tE post S y0 y1 y2 y3) : Z p l e R s m args below meth c D A 2 (MQ below (QI D (U := KS) post (kw cy a rw) A) args s 0 0 A) 0 0 (kw cy a rw S) [] 18 [.int y0, .int y1, .int y2, .int y3] := by
  unfold w_X9_pairShift_B18 at h
  refine z_iadd b dX9_pairShift_18 rfl ?_
  refine z_imul b dX9_pairShift_19 rfl ?_
  refine z_iadd b dX9_pairShift_20 rfl ?_
  exact z_iret (u := S) b rfl dX9_pairShift_21 h rfl (by decide) (by decide)

def w_X9_pairShift (cy : Nat → ClassId) (tE : Nat) (S : KS) (p0 : Int32) (p1 : Int32) (post : Int32 → KS → Prop) : Prop :=
  ((p1.toInt ≤ p0.toInt → w_X9_pairShift_B18 cy tE post S p1 ((2 : Int32) * p0) 5 22) ∧ (p0.toInt < p1.toInt → w_X9_pairShift_B18 cy tE post S (p1 - 1) ((2 : Int32) * p0) 5 22))

set_option maxHeartbeats 200000 in
set_option maxRecDepth 100000 in
theorem k_X9_pairShift {l : Launch} {D : va_G} {cy : Nat → ClassId} {T0 tB tE : Nat} {a : Nat → Nat} {rw : Nat → Option Nat} (hrw : ∀ i, i < 6 → rw i = some (a (12 + 2 * i))) (S : KS) (p0 : Int32) (p1 : Int32) (post : Int32 → KS → Prop) (h : w_X9_pairShift cy tE S p0 p1 post) : Ct l D cy T0 tB tE yX9_pairShift cX9_pairShift 2 (some .int) 0 0 0 0 (kw cy a rw S) [.int p0, .int p1] (QI D (U := KS) post (kw cy a rw)) := by
  refine Ct.ofZ RX9 "pairShift" [(0, .int p0), (1, .int p1)] rfl rfl rfl rfl (Nat.le_of_ble_eq_true rfl) ?_
  intro p e R s m args below meth c A b
  unfold w_X9_pairShift at h
  refine z_bipush (v := 22) b dX9_pairShift_0 (by decide) ?_
  refine z_iconst (v := 5) b dX9_pairShift_2 (by decide) ?_
  refine z_iconst (v := 2) b dX9_pairShift_3 (by decide) ?_
  refine z_iload_n b dX9_pairShift_4 rfl rfl ?_
  refine z_imul b dX9_pairShift_5 rfl ?_
  refine z_iload_n b dX9_pairShift_6 rfl rfl ?_
  refine z_iload_n b dX9_pairShift_7 rfl rfl ?_
  refine y_icmp_le (tgt := 17) (xl := p1.toInt) (yl := p0.toInt) b rfl rfl dX9_pairShift_8 (by decide) (fun c1 => ?_) (fun c1 => ?_)
  · replace h := h.1 c1
    refine z_iload_n b dX9_pairShift_17 rfl rfl ?_
    refine z_lv0 (lv' := []) [] rfl ?_
    exact z_X9_pairShift_B18 hrw b _ _ _ _ _ h
  · replace h := h.2 c1
    refine z_iload_n b dX9_pairShift_11 rfl rfl ?_
    refine z_iconst (v := 1) b dX9_pairShift_12 (by decide) ?_
    refine z_isub b dX9_pairShift_13 rfl ?_
    refine z_goto (tgt := 18) b dX9_pairShift_14 (by decide) ?_
    refine z_lv0 (lv' := []) [] rfl ?_
    exact z_X9_pairShift_B18 hrw b _ _ _ _ _ h

def w_X9_unpack_F15 (cy : Nat → ClassId) (tE : Nat) (post : KS → Prop) (k46 : KS → Nat → Int64 → Prop) (k15 : KS → Nat → Int64 → Int32 → Prop) (S : KS) (x0 : Nat) (x1 : Int64) (x3 : Int32) : Prop :=
  ((3 ≤ x3.toInt → k46 S x0 x1) ∧ (x3.toInt < 3 → (x0 < 5) ∧ w_X9_ownerShift cy tE S x3 (fun r4 S5 => (x0 < 5) ∧ (0 ≤ ((40 : Int32) + x3).toInt ∧ ((40 : Int32) + x3).toInt < 51) ∧ k15 (ksu S5 (1 + x0) (((40 : Int32) + x3).toNatClampNeg) ((((x1).toUInt64 >>> ((r4 : Int32).toInt64.toUInt64 &&& Int64.toUInt64 63)).toInt64 &&& 3) : Int64).toInt32) x0 x1 (x3 + 1))))

set_option maxHeartbeats 200000 in
set_option maxRecDepth 100000 in
theorem z_X9_unpack_F15 {p : Program} {l : Launch} {e : Env} {R : Room} {s : State} {m : MethodId} {args : Array Value} {below : List Frame} {meth : Method} {c : Code} {D : va_G} {cy : Nat → ClassId} {T0 tB tE : Nat} {A : Nat → Prop} {a : Nat → Nat} {rw : Nat → Option Nat} (hrw : ∀ i, i < 6 → rw i = some (a (12 + 2 * i))) {post : KS → Prop} {k46 : KS → Nat → Int64 → Prop} {k15 : KS → Nat → Int64 → Int32 → Prop} (b : Bz p R s m args meth c D cy T0 tB tE A 7 cX9_unpack RX9 none "unpack" 1 21 0 0) (hk46 : ∀ (S : KS) (x0 : Nat) (x1 : Int64), k46 S x0 x1 → Z p l e R s m args below meth c D A 7 (MQ below (QV D (U := KS) post (kw cy a rw) A) args s 0 0 A) 0 0 (kw cy a rw S) [(0, .ref (a (2 + 2 * x0))), (1, .long x1)] 46 []) (hk15 : ∀ (S : KS) (x0 : Nat) (x1 : Int64) (x3 : Int32), k15 S x0 x1 x3 → Z p l e R s m args below meth c D A 7 (MQ below (QV D (U := KS) post (kw cy a rw) A) args s 0 0 A) 0 0 (kw cy a rw S) [(0, .ref (a (2 + 2 * x0))), (1, .long x1), (3, .int x3)] 15 []) (S : KS) (x0 : Nat) (x1 : Int64) (x3 : Int32) (h : w_X9_unpack_F15 cy tE post k46 k15 S x0 x1 x3) : Z p l e R s m args below meth c D A 7 (MQ below (QV D (U := KS) post (kw cy a rw) A) args s 0 0 A) 0 0 (kw cy a rw S) [(0, .ref (a (2 + 2 * x0))), (1, .long x1), (3, .int x3)] 15 [] := by
  unfold w_X9_unpack_F15 at h
  refine z_iload_n b dX9_unpack_15 rfl rfl ?_
  refine z_iconst (v := 3) b dX9_unpack_16 (by decide) ?_
  refine y_icmp_ge (tgt := 46) (xl := x3.toInt) (yl := 3) b rfl (by decide) dX9_unpack_17 (by decide) (fun c1 => ?_) (fun c1 => ?_)
  · replace h := h.1 c1
    refine z_lv0 (lv' := [(0, .ref (a (2 + 2 * x0))), (1, .long x1)]) [0, 1] rfl ?_
    exact hk46 _ _ _ h
  · replace h := h.2 c1
    refine z_aload_n b dX9_unpack_20 rfl rfl ?_
    obtain ⟨g3, h⟩ := h
    refine z_get (q0 := 2 + 2 * x0) (k9 := 0) (v := .ref (a (3 + 2 * x0))) b (kw_so cy a rw S g3) rfl in_X9 (by decide) wf_X9_11 rfl dX9_unpack_21 ?_
    refine z_bipush (v := 40) b dX9_unpack_24 (by decide) ?_
    refine z_iload_n b dX9_unpack_26 rfl rfl ?_
    refine z_iadd b dX9_unpack_27 rfl ?_
    refine z_lload_n b dX9_unpack_28 rfl rfl ?_
    refine z_iload_n b dX9_unpack_29 rfl rfl ?_
    refine z_calli b (z_runS (As := [.int x3]) (st := [.long x1, .int ((40 : Int32) + x3), .ref (a (3 + 2 * x0))]) b (k_X9_ownerShift hrw S x3 _ h) cf_X9_ownerShift wm_X9_49 ws_X9_ownerShift dX9_unpack_30 rfl (Nat.le_of_ble_eq_true rfl) ⟨by decide, by decide, Nat.le_of_ble_eq_true rfl, Nat.le_of_ble_eq_true rfl⟩) (fun r4 S5 h => ?_)
    refine z_lushr b dX9_unpack_33 rfl ?_
    refine z_ldc2 b wl_X9_60 dX9_unpack_34 ?_
    refine z_land b dX9_unpack_37 rfl ?_
    refine z_l2i b dX9_unpack_38 rfl ?_
    obtain ⟨g6, h⟩ := h
    obtain ⟨g7, h⟩ := h
    refine y_iast (q0 := 3 + 2 * x0) (j := ((40 : Int32) + x3).toNatClampNeg) b (kw_sr cy a rw S5 g6) (zx_r g7.1 g7.2) dX9_unpack_39 (kwa_sr cy a rw S5 g6 (((40 : Int32) + x3).toNatClampNeg) ((((x1).toUInt64 >>> ((r4 : Int32).toInt64.toUInt64 &&& Int64.toUInt64 63)).toInt64 &&& 3) : Int64).toInt32) ?_
    refine z_iinc (k9 := 2) (v := (x3 + 1)) (lv' := [(3, .int (x3 + 1)), (0, .ref (a (2 + 2 * x0))), (1, .long x1)]) b dX9_unpack_40 rfl rfl (by decide) rfl ?_
    refine z_goto (tgt := 15) b dX9_unpack_43 (by decide) ?_
    refine z_lv0 (lv' := [(0, .ref (a (2 + 2 * x0))), (1, .long x1), (3, .int (x3 + 1))]) [1, 2, 0] rfl ?_
    exact hk15 _ _ _ _ h

set_option maxHeartbeats 200000 in
set_option maxRecDepth 100000 in
theorem zl_X9_unpack_L15 {p : Program} {l : Launch} {e : Env} {R : Room} {s : State} {m : MethodId} {args : Array Value} {below : List Frame} {meth : Method} {c : Code} {D : va_G} {cy : Nat → ClassId} {T0 tB tE : Nat} {A : Nat → Prop} {a : Nat → Nat} {rw : Nat → Option Nat} (hrw : ∀ i, i < 6 → rw i = some (a (12 + 2 * i))) {post : KS → Prop} {k46 : KS → Nat → Int64 → Prop} (b : Bz p R s m args meth c D cy T0 tB tE A 7 cX9_unpack RX9 none "unpack" 1 21 0 0) (hk46 : ∀ (S : KS) (x0 : Nat) (x1 : Int64), k46 S x0 x1 → Z p l e R s m args below meth c D A 7 (MQ below (QV D (U := KS) post (kw cy a rw) A) args s 0 0 A) 0 0 (kw cy a rw S) [(0, .ref (a (2 + 2 * x0))), (1, .long x1)] 46 []) : ∀ (n : Nat) (S : KS) (x0 : Nat) (x1 : Int64) (x3 : Int32), lpn (w_X9_unpack_F15 cy tE post k46) (fun _ _ _ _ => False) n S x0 x1 x3 → Z p l e R s m args below meth c D A 7 (MQ below (QV D (U := KS) post (kw cy a rw) A) args s 0 0 A) 0 0 (kw cy a rw S) [(0, .ref (a (2 + 2 * x0))), (1, .long x1), (3, .int x3)] 15 [] := by
  intro n
  induction n with
  | zero => intro _ _ _ _ h; exact h.elim
  | succ n ih => intro S x0 x1 x3 h; exact z_X9_unpack_F15 hrw b hk46 ih S x0 x1 x3 h

def w_X9_unpack_B153 (cy : Nat → ClassId) (tE : Nat) (post : KS → Prop) (k73 : KS → Nat → Int64 → Int32 → Int32 → Prop) (k159 : KS → Nat → Int64 → Int32 → Prop) (S : KS) (x0 : Nat) (x1 : Int64) (x3 : Int32) (x4 : Int32) : Prop :=
  k73 S x0 x1 x3 (x4 + 1)

set_option maxHeartbeats 200000 in
set_option maxRecDepth 100000 in
theorem z_X9_unpack_B153 {p : Program} {l : Launch} {e : Env} {R : Room} {s : State} {m : MethodId} {args : Array Value} {below : List Frame} {meth : Method} {c : Code} {D : va_G} {cy : Nat → ClassId} {T0 tB tE : Nat} {A : Nat → Prop} {a : Nat → Nat} {rw : Nat → Option Nat} (hrw : ∀ i, i < 6 → rw i = some (a (12 + 2 * i))) {post : KS → Prop} {k73 : KS → Nat → Int64 → Int32 → Int32 → Prop} {k159 : KS → Nat → Int64 → Int32 → Prop} (b : Bz p R s m args meth c D cy T0 tB tE A 7 cX9_unpack RX9 none "unpack" 1 21 0 0) (hk73 : ∀ (S : KS) (x0 : Nat) (x1 : Int64) (x3 : Int32) (x4 : Int32), k73 S x0 x1 x3 x4 → Z p l e R s m args below meth c D A 7 (MQ below (QV D (U := KS) post (kw cy a rw) A) args s 0 0 A) 0 0 (kw cy a rw S) [(0, .ref (a (2 + 2 * x0))), (1, .long x1), (3, .int x3), (4, .int x4)] 73 []) (hk159 : ∀ (S : KS) (x0 : Nat) (x1 : Int64) (x3 : Int32), k159 S x0 x1 x3 → Z p l e R s m args below meth c D A 7 (MQ below (QV D (U := KS) post (kw cy a rw) A) args s 0 0 A) 0 0 (kw cy a rw S) [(0, .ref (a (2 + 2 * x0))), (1, .long x1), (3, .int x3)] 159 []) (S : KS) (x0 : Nat) (x1 : Int64) (x3 : Int32) (x4 : Int32) (h : w_X9_unpack_B153 cy tE post k73 k159 S x0 x1 x3 x4) : Z p l e R s m args below meth c D A 7 (MQ below (QV D (U := KS) post (kw cy a rw) A) args s 0 0 A) 0 0 (kw cy a rw S) [(0, .ref (a (2 + 2 * x0))), (1, .long x1), (3, .int x3), (4, .int x4)] 153 [] := by
  unfold w_X9_unpack_B153 at h
  refine z_iinc (k9 := 3) (v := (x4 + 1)) (lv' := [(4, .int (x4 + 1)), (0, .ref (a (2 + 2 * x0))), (1, .long x1), (3, .int x3)]) b dX9_unpack_153 rfl rfl (by decide) rfl ?_
  refine z_goto (tgt := 73) b dX9_unpack_156 (by decide) ?_
  refine z_lv0 (lv' := [(0, .ref (a (2 + 2 * x0))), (1, .long x1), (3, .int x3), (4, .int (x4 + 1))]) [1, 2, 3, 0] rfl ?_
  exact hk73 _ _ _ _ _ h

def w_X9_unpack_F73 (cy : Nat → ClassId) (tE : Nat) (post : KS → Prop) (k159 : KS → Nat → Int64 → Int32 → Prop) (k73 : KS → Nat → Int64 → Int32 → Int32 → Prop) (S : KS) (x0 : Nat) (x1 : Int64) (x3 : Int32) (x4 : Int32) : Prop :=
  ((3 ≤ x4.toInt → k159 S x0 x1 x3) ∧ (x4.toInt < 3 → ((x4.toInt = x3.toInt → w_X9_unpack_B153 cy tE post k73 k159 S x0 x1 x3 x4) ∧ (x4.toInt ≠ x3.toInt → w_X9_pairShift cy tE S x3 x4 (fun r13 S14 => (x0 < 5) ∧ (x0 < 5) ∧ (0 ≤ ((10 : Int32) + (((3 : Int32) * x3) + x4)).toInt ∧ ((10 : Int32) + (((3 : Int32) * x3) + x4)).toInt < 51) ∧ (x0 < 5) ∧ (x0 < 5) ∧ (0 ≤ ((20 : Int32) + (((3 : Int32) * x3) + x4)).toInt ∧ ((20 : Int32) + (((3 : Int32) * x3) + x4)).toInt < 51) ∧ (x0 < 5) ∧ (x0 < 5) ∧ (0 ≤ ((30 : Int32) + (((3 : Int32) * x3) + x4)).toInt ∧ ((30 : Int32) + (((3 : Int32) * x3) + x4)).toInt < 51) ∧ w_X9_unpack_B153 cy tE post k73 k159 (ksu (ksu (ksu S14 (1 + x0) (((10 : Int32) + (((3 : Int32) * x3) + x4)).toNatClampNeg) (((((x1).toUInt64 >>> ((r13 : Int32).toInt64.toUInt64 &&& Int64.toUInt64 63)).toInt64 &&& 31) : Int64).toInt32 &&& 7)) (1 + x0) (((20 : Int32) + (((3 : Int32) * x3) + x4)).toNatClampNeg) ((((((x1).toUInt64 >>> ((r13 : Int32).toInt64.toUInt64 &&& Int64.toUInt64 63)).toInt64 &&& 31) : Int64).toInt32 >>> ((3 : Int32) &&& 31)) &&& 1)) (1 + x0) (((30 : Int32) + (((3 : Int32) * x3) + x4)).toNatClampNeg) (((((x1).toUInt64 >>> ((r13 : Int32).toInt64.toUInt64 &&& Int64.toUInt64 63)).toInt64 &&& 31) : Int64).toInt32 >>> ((4 : Int32) &&& 31))) x0 x1 x3 x4)))))

set_option maxHeartbeats 200000 in
set_option maxRecDepth 100000 in
theorem z_X9_unpack_F73 {p : Program} {l : Launch} {e : Env} {R : Room} {s : State} {m : MethodId} {args : Array Value} {below : List Frame} {meth : Method} {c : Code} {D : va_G} {cy : Nat → ClassId} {T0 tB tE : Nat} {A : Nat → Prop} {a : Nat → Nat} {rw : Nat → Option Nat} (hrw : ∀ i, i < 6 → rw i = some (a (12 + 2 * i))) {post : KS → Prop} {k159 : KS → Nat → Int64 → Int32 → Prop} {k73 : KS → Nat → Int64 → Int32 → Int32 → Prop} (b : Bz p R s m args meth c D cy T0 tB tE A 7 cX9_unpack RX9 none "unpack" 1 21 0 0) (hk159 : ∀ (S : KS) (x0 : Nat) (x1 : Int64) (x3 : Int32), k159 S x0 x1 x3 → Z p l e R s m args below meth c D A 7 (MQ below (QV D (U := KS) post (kw cy a rw) A) args s 0 0 A) 0 0 (kw cy a rw S) [(0, .ref (a (2 + 2 * x0))), (1, .long x1), (3, .int x3)] 159 []) (hk73 : ∀ (S : KS) (x0 : Nat) (x1 : Int64) (x3 : Int32) (x4 : Int32), k73 S x0 x1 x3 x4 → Z p l e R s m args below meth c D A 7 (MQ below (QV D (U := KS) post (kw cy a rw) A) args s 0 0 A) 0 0 (kw cy a rw S) [(0, .ref (a (2 + 2 * x0))), (1, .long x1), (3, .int x3), (4, .int x4)] 73 []) (S : KS) (x0 : Nat) (x1 : Int64) (x3 : Int32) (x4 : Int32) (h : w_X9_unpack_F73 cy tE post k159 k73 S x0 x1 x3 x4) : Z p l e R s m args below meth c D A 7 (MQ below (QV D (U := KS) post (kw cy a rw) A) args s 0 0 A) 0 0 (kw cy a rw S) [(0, .ref (a (2 + 2 * x0))), (1, .long x1), (3, .int x3), (4, .int x4)] 73 [] := by
  unfold w_X9_unpack_F73 at h
  refine z_iload b dX9_unpack_73 rfl ?_
  refine z_iconst (v := 3) b dX9_unpack_75 (by decide) ?_
  refine y_icmp_ge (tgt := 159) (xl := x4.toInt) (yl := 3) b rfl (by decide) dX9_unpack_76 (by decide) (fun c1 => ?_) (fun c1 => ?_)
  · replace h := h.1 c1
    refine z_lv0 (lv' := [(0, .ref (a (2 + 2 * x0))), (1, .long x1), (3, .int x3)]) [0, 1, 2] rfl ?_
    exact hk159 _ _ _ _ h
  · replace h := h.2 c1
    refine z_iload b dX9_unpack_79 rfl ?_
    refine z_iload_n b dX9_unpack_81 rfl rfl ?_
    refine y_icmp_eq (tgt := 153) (xl := x4.toInt) (yl := x3.toInt) b rfl rfl dX9_unpack_82 (by decide) (fun c1 => ?_) (fun c1 => ?_)
    · replace h := h.1 c1
      exact z_X9_unpack_B153 hrw b hk73 hk159 _ _ _ _ _ h
    · replace h := h.2 c1
      refine z_iconst (v := 3) b dX9_unpack_85 (by decide) ?_
      refine z_iload_n b dX9_unpack_86 rfl rfl ?_
      refine z_imul b dX9_unpack_87 rfl ?_
      refine z_iload b dX9_unpack_88 rfl ?_
      refine z_iadd b dX9_unpack_90 rfl ?_
      refine z_istore (lv' := [(5, .int (((3 : Int32) * x3) + x4)), (0, .ref (a (2 + 2 * x0))), (1, .long x1), (3, .int x3), (4, .int x4)]) b dX9_unpack_91 (by decide) rfl ?_
      refine z_lload_n b dX9_unpack_93 rfl rfl ?_
      refine z_iload_n b dX9_unpack_94 rfl rfl ?_
      refine z_iload b dX9_unpack_95 rfl ?_
      refine z_calli b (z_runS (As := [.int x3, .int x4]) (st := [.long x1]) b (k_X9_pairShift hrw S x3 x4 _ h) cf_X9_pairShift wm_X9_55 ws_X9_pairShift dX9_unpack_97 rfl (Nat.le_of_ble_eq_true rfl) ⟨by decide, by decide, Nat.le_of_ble_eq_true rfl, Nat.le_of_ble_eq_true rfl⟩) (fun r13 S14 h => ?_)
      refine z_lushr b dX9_unpack_100 rfl ?_
      refine z_ldc2 b wl_X9_62 dX9_unpack_101 ?_
      refine z_land b dX9_unpack_104 rfl ?_
      refine z_l2i b dX9_unpack_105 rfl ?_
      refine z_istore (lv' := [(6, .int ((((x1).toUInt64 >>> ((r13 : Int32).toInt64.toUInt64 &&& Int64.toUInt64 63)).toInt64 &&& 31) : Int64).toInt32), (5, .int (((3 : Int32) * x3) + x4)), (0, .ref (a (2 + 2 * x0))), (1, .long x1), (3, .int x3), (4, .int x4)]) b dX9_unpack_106 (by decide) rfl ?_
      refine z_aload_n b dX9_unpack_108 rfl rfl ?_
      obtain ⟨g15, h⟩ := h
      refine z_get (q0 := 2 + 2 * x0) (k9 := 0) (v := .ref (a (3 + 2 * x0))) b (kw_so cy a rw S14 g15) rfl in_X9 (by decide) wf_X9_11 rfl dX9_unpack_109 ?_
      refine z_bipush (v := 10) b dX9_unpack_112 (by decide) ?_
      refine z_iload b dX9_unpack_114 rfl ?_
      refine z_iadd b dX9_unpack_116 rfl ?_
      refine z_iload b dX9_unpack_117 rfl ?_
      refine z_bipush (v := 7) b dX9_unpack_119 (by decide) ?_
      refine z_iand b dX9_unpack_121 rfl ?_
      obtain ⟨g16, h⟩ := h
      obtain ⟨g17, h⟩ := h
      refine y_iast (q0 := 3 + 2 * x0) (j := ((10 : Int32) + (((3 : Int32) * x3) + x4)).toNatClampNeg) b (kw_sr cy a rw S14 g16) (zx_r g17.1 g17.2) dX9_unpack_122 (kwa_sr cy a rw S14 g16 (((10 : Int32) + (((3 : Int32) * x3) + x4)).toNatClampNeg) (((((x1).toUInt64 >>> ((r13 : Int32).toInt64.toUInt64 &&& Int64.toUInt64 63)).toInt64 &&& 31) : Int64).toInt32 &&& 7)) ?_
      refine z_aload_n b dX9_unpack_123 rfl rfl ?_
      obtain ⟨g18, h⟩ := h
      refine z_get (q0 := 2 + 2 * x0) (k9 := 0) (v := .ref (a (3 + 2 * x0))) b (kw_so cy a rw (ksu S14 (1 + x0) (((10 : Int32) + (((3 : Int32) * x3) + x4)).toNatClampNeg) (((((x1).toUInt64 >>> ((r13 : Int32).toInt64.toUInt64 &&& Int64.toUInt64 63)).toInt64 &&& 31) : Int64).toInt32 &&& 7)) g18) rfl in_X9 (by decide) wf_X9_11 rfl dX9_unpack_124 ?_
      refine z_bipush (v := 20) b dX9_unpack_127 (by decide) ?_
      refine z_iload b dX9_unpack_129 rfl ?_
      refine z_iadd b dX9_unpack_131 rfl ?_
      refine z_iload b dX9_unpack_132 rfl ?_
      refine z_iconst (v := 3) b dX9_unpack_134 (by decide) ?_
      refine z_ishr b dX9_unpack_135 rfl ?_
      refine z_iconst (v := 1) b dX9_unpack_136 (by decide) ?_
      refine z_iand b dX9_unpack_137 rfl ?_
      obtain ⟨g19, h⟩ := h
      obtain ⟨g20, h⟩ := h
      refine y_iast (q0 := 3 + 2 * x0) (j := ((20 : Int32) + (((3 : Int32) * x3) + x4)).toNatClampNeg) b (kw_sr cy a rw (ksu S14 (1 + x0) (((10 : Int32) + (((3 : Int32) * x3) + x4)).toNatClampNeg) (((((x1).toUInt64 >>> ((r13 : Int32).toInt64.toUInt64 &&& Int64.toUInt64 63)).toInt64 &&& 31) : Int64).toInt32 &&& 7)) g19) (zx_r g20.1 g20.2) dX9_unpack_138 (kwa_sr cy a rw (ksu S14 (1 + x0) (((10 : Int32) + (((3 : Int32) * x3) + x4)).toNatClampNeg) (((((x1).toUInt64 >>> ((r13 : Int32).toInt64.toUInt64 &&& Int64.toUInt64 63)).toInt64 &&& 31) : Int64).toInt32 &&& 7)) g19 (((20 : Int32) + (((3 : Int32) * x3) + x4)).toNatClampNeg) ((((((x1).toUInt64 >>> ((r13 : Int32).toInt64.toUInt64 &&& Int64.toUInt64 63)).toInt64 &&& 31) : Int64).toInt32 >>> ((3 : Int32) &&& 31)) &&& 1)) ?_
      refine z_aload_n b dX9_unpack_139 rfl rfl ?_
      obtain ⟨g21, h⟩ := h
      refine z_get (q0 := 2 + 2 * x0) (k9 := 0) (v := .ref (a (3 + 2 * x0))) b (kw_so cy a rw (ksu (ksu S14 (1 + x0) (((10 : Int32) + (((3 : Int32) * x3) + x4)).toNatClampNeg) (((((x1).toUInt64 >>> ((r13 : Int32).toInt64.toUInt64 &&& Int64.toUInt64 63)).toInt64 &&& 31) : Int64).toInt32 &&& 7)) (1 + x0) (((20 : Int32) + (((3 : Int32) * x3) + x4)).toNatClampNeg) ((((((x1).toUInt64 >>> ((r13 : Int32).toInt64.toUInt64 &&& Int64.toUInt64 63)).toInt64 &&& 31) : Int64).toInt32 >>> ((3 : Int32) &&& 31)) &&& 1)) g21) rfl in_X9 (by decide) wf_X9_11 rfl dX9_unpack_140 ?_
      refine z_bipush (v := 30) b dX9_unpack_143 (by decide) ?_
      refine z_iload b dX9_unpack_145 rfl ?_
      refine z_iadd b dX9_unpack_147 rfl ?_
      refine z_iload b dX9_unpack_148 rfl ?_
      refine z_iconst (v := 4) b dX9_unpack_150 (by decide) ?_
      refine z_ishr b dX9_unpack_151 rfl ?_
      obtain ⟨g22, h⟩ := h
      obtain ⟨g23, h⟩ := h
      refine y_iast (q0 := 3 + 2 * x0) (j := ((30 : Int32) + (((3 : Int32) * x3) + x4)).toNatClampNeg) b (kw_sr cy a rw (ksu (ksu S14 (1 + x0) (((10 : Int32) + (((3 : Int32) * x3) + x4)).toNatClampNeg) (((((x1).toUInt64 >>> ((r13 : Int32).toInt64.toUInt64 &&& Int64.toUInt64 63)).toInt64 &&& 31) : Int64).toInt32 &&& 7)) (1 + x0) (((20 : Int32) + (((3 : Int32) * x3) + x4)).toNatClampNeg) ((((((x1).toUInt64 >>> ((r13 : Int32).toInt64.toUInt64 &&& Int64.toUInt64 63)).toInt64 &&& 31) : Int64).toInt32 >>> ((3 : Int32) &&& 31)) &&& 1)) g22) (zx_r g23.1 g23.2) dX9_unpack_152 (kwa_sr cy a rw (ksu (ksu S14 (1 + x0) (((10 : Int32) + (((3 : Int32) * x3) + x4)).toNatClampNeg) (((((x1).toUInt64 >>> ((r13 : Int32).toInt64.toUInt64 &&& Int64.toUInt64 63)).toInt64 &&& 31) : Int64).toInt32 &&& 7)) (1 + x0) (((20 : Int32) + (((3 : Int32) * x3) + x4)).toNatClampNeg) ((((((x1).toUInt64 >>> ((r13 : Int32).toInt64.toUInt64 &&& Int64.toUInt64 63)).toInt64 &&& 31) : Int64).toInt32 >>> ((3 : Int32) &&& 31)) &&& 1)) g22 (((30 : Int32) + (((3 : Int32) * x3) + x4)).toNatClampNeg) (((((x1).toUInt64 >>> ((r13 : Int32).toInt64.toUInt64 &&& Int64.toUInt64 63)).toInt64 &&& 31) : Int64).toInt32 >>> ((4 : Int32) &&& 31))) ?_
      refine z_lv0 (lv' := [(0, .ref (a (2 + 2 * x0))), (1, .long x1), (3, .int x3), (4, .int x4)]) [2, 3, 4, 5] rfl ?_
      exact z_X9_unpack_B153 hrw b hk73 hk159 _ _ _ _ _ h

set_option maxHeartbeats 200000 in
set_option maxRecDepth 100000 in
theorem zl_X9_unpack_L73 {p : Program} {l : Launch} {e : Env} {R : Room} {s : State} {m : MethodId} {args : Array Value} {below : List Frame} {meth : Method} {c : Code} {D : va_G} {cy : Nat → ClassId} {T0 tB tE : Nat} {A : Nat → Prop} {a : Nat → Nat} {rw : Nat → Option Nat} (hrw : ∀ i, i < 6 → rw i = some (a (12 + 2 * i))) {post : KS → Prop} {k159 : KS → Nat → Int64 → Int32 → Prop} (b : Bz p R s m args meth c D cy T0 tB tE A 7 cX9_unpack RX9 none "unpack" 1 21 0 0) (hk159 : ∀ (S : KS) (x0 : Nat) (x1 : Int64) (x3 : Int32), k159 S x0 x1 x3 → Z p l e R s m args below meth c D A 7 (MQ below (QV D (U := KS) post (kw cy a rw) A) args s 0 0 A) 0 0 (kw cy a rw S) [(0, .ref (a (2 + 2 * x0))), (1, .long x1), (3, .int x3)] 159 []) : ∀ (n : Nat) (S : KS) (x0 : Nat) (x1 : Int64) (x3 : Int32) (x4 : Int32), lpn (w_X9_unpack_F73 cy tE post k159) (fun _ _ _ _ _ => False) n S x0 x1 x3 x4 → Z p l e R s m args below meth c D A 7 (MQ below (QV D (U := KS) post (kw cy a rw) A) args s 0 0 A) 0 0 (kw cy a rw S) [(0, .ref (a (2 + 2 * x0))), (1, .long x1), (3, .int x3), (4, .int x4)] 73 [] := by
  intro n
  induction n with
  | zero => intro _ _ _ _ _ h; exact h.elim
  | succ n ih => intro S x0 x1 x3 x4 h; exact z_X9_unpack_F73 hrw b hk159 ih S x0 x1 x3 x4 h

def w_X9_unpack_B159 (cy : Nat → ClassId) (tE : Nat) (post : KS → Prop) (k48 : KS → Nat → Int64 → Int32 → Prop) (k165 : KS → Prop) (S : KS) (x0 : Nat) (x1 : Int64) (x3 : Int32) : Prop :=
  k48 S x0 x1 (x3 + 1)

set_option maxHeartbeats 200000 in
set_option maxRecDepth 100000 in
theorem z_X9_unpack_B159 {p : Program} {l : Launch} {e : Env} {R : Room} {s : State} {m : MethodId} {args : Array Value} {below : List Frame} {meth : Method} {c : Code} {D : va_G} {cy : Nat → ClassId} {T0 tB tE : Nat} {A : Nat → Prop} {a : Nat → Nat} {rw : Nat → Option Nat} (hrw : ∀ i, i < 6 → rw i = some (a (12 + 2 * i))) {post : KS → Prop} {k48 : KS → Nat → Int64 → Int32 → Prop} {k165 : KS → Prop} (b : Bz p R s m args meth c D cy T0 tB tE A 7 cX9_unpack RX9 none "unpack" 1 21 0 0) (hk48 : ∀ (S : KS) (x0 : Nat) (x1 : Int64) (x3 : Int32), k48 S x0 x1 x3 → Z p l e R s m args below meth c D A 7 (MQ below (QV D (U := KS) post (kw cy a rw) A) args s 0 0 A) 0 0 (kw cy a rw S) [(0, .ref (a (2 + 2 * x0))), (1, .long x1), (3, .int x3)] 48 []) (hk165 : ∀ (S : KS), k165 S → Z p l e R s m args below meth c D A 7 (MQ below (QV D (U := KS) post (kw cy a rw) A) args s 0 0 A) 0 0 (kw cy a rw S) [] 165 []) (S : KS) (x0 : Nat) (x1 : Int64) (x3 : Int32) (h : w_X9_unpack_B159 cy tE post k48 k165 S x0 x1 x3) : Z p l e R s m args below meth c D A 7 (MQ below (QV D (U := KS) post (kw cy a rw) A) args s 0 0 A) 0 0 (kw cy a rw S) [(0, .ref (a (2 + 2 * x0))), (1, .long x1), (3, .int x3)] 159 [] := by
  unfold w_X9_unpack_B159 at h
  refine z_iinc (k9 := 2) (v := (x3 + 1)) (lv' := [(3, .int (x3 + 1)), (0, .ref (a (2 + 2 * x0))), (1, .long x1)]) b dX9_unpack_159 rfl rfl (by decide) rfl ?_
  refine z_goto (tgt := 48) b dX9_unpack_162 (by decide) ?_
  refine z_lv0 (lv' := [(0, .ref (a (2 + 2 * x0))), (1, .long x1), (3, .int (x3 + 1))]) [1, 2, 0] rfl ?_
  exact hk48 _ _ _ _ h

def w_X9_unpack_F48 (cy : Nat → ClassId) (tE : Nat) (post : KS → Prop) (k165 : KS → Prop) (k48 : KS → Nat → Int64 → Int32 → Prop) (S : KS) (x0 : Nat) (x1 : Int64) (x3 : Int32) : Prop :=
  ((3 ≤ x3.toInt → k165 S) ∧ (x3.toInt < 3 → (x0 < 5) ∧ w_X9_coinShift cy tE S x3 (fun r9 S10 => (x0 < 5) ∧ (0 ≤ x3.toInt ∧ x3.toInt < 51) ∧ ∃ n, lpn (w_X9_unpack_F73 cy tE post (w_X9_unpack_B159 cy tE post k48 k165)) (fun _ _ _ _ _ => False) n (ksu S10 (1 + x0) (x3.toNatClampNeg) ((((x1).toUInt64 >>> ((r9 : Int32).toInt64.toUInt64 &&& Int64.toUInt64 63)).toInt64 &&& 15) : Int64).toInt32) x0 x1 x3 0)))

set_option maxHeartbeats 200000 in
set_option maxRecDepth 100000 in
theorem z_X9_unpack_F48 {p : Program} {l : Launch} {e : Env} {R : Room} {s : State} {m : MethodId} {args : Array Value} {below : List Frame} {meth : Method} {c : Code} {D : va_G} {cy : Nat → ClassId} {T0 tB tE : Nat} {A : Nat → Prop} {a : Nat → Nat} {rw : Nat → Option Nat} (hrw : ∀ i, i < 6 → rw i = some (a (12 + 2 * i))) {post : KS → Prop} {k165 : KS → Prop} {k48 : KS → Nat → Int64 → Int32 → Prop} (b : Bz p R s m args meth c D cy T0 tB tE A 7 cX9_unpack RX9 none "unpack" 1 21 0 0) (hk165 : ∀ (S : KS), k165 S → Z p l e R s m args below meth c D A 7 (MQ below (QV D (U := KS) post (kw cy a rw) A) args s 0 0 A) 0 0 (kw cy a rw S) [] 165 []) (hk48 : ∀ (S : KS) (x0 : Nat) (x1 : Int64) (x3 : Int32), k48 S x0 x1 x3 → Z p l e R s m args below meth c D A 7 (MQ below (QV D (U := KS) post (kw cy a rw) A) args s 0 0 A) 0 0 (kw cy a rw S) [(0, .ref (a (2 + 2 * x0))), (1, .long x1), (3, .int x3)] 48 []) (S : KS) (x0 : Nat) (x1 : Int64) (x3 : Int32) (h : w_X9_unpack_F48 cy tE post k165 k48 S x0 x1 x3) : Z p l e R s m args below meth c D A 7 (MQ below (QV D (U := KS) post (kw cy a rw) A) args s 0 0 A) 0 0 (kw cy a rw S) [(0, .ref (a (2 + 2 * x0))), (1, .long x1), (3, .int x3)] 48 [] := by
  unfold w_X9_unpack_F48 at h
  refine z_iload_n b dX9_unpack_48 rfl rfl ?_
  refine z_iconst (v := 3) b dX9_unpack_49 (by decide) ?_
  refine y_icmp_ge (tgt := 165) (xl := x3.toInt) (yl := 3) b rfl (by decide) dX9_unpack_50 (by decide) (fun c1 => ?_) (fun c1 => ?_)
  · replace h := h.1 c1
    refine z_lv0 (lv' := []) [] rfl ?_
    exact hk165 _ h
  · replace h := h.2 c1
    refine z_aload_n b dX9_unpack_53 rfl rfl ?_
    obtain ⟨g8, h⟩ := h
    refine z_get (q0 := 2 + 2 * x0) (k9 := 0) (v := .ref (a (3 + 2 * x0))) b (kw_so cy a rw S g8) rfl in_X9 (by decide) wf_X9_11 rfl dX9_unpack_54 ?_
    refine z_iload_n b dX9_unpack_57 rfl rfl ?_
    refine z_lload_n b dX9_unpack_58 rfl rfl ?_
    refine z_iload_n b dX9_unpack_59 rfl rfl ?_
    refine z_calli b (z_runS (As := [.int x3]) (st := [.long x1, .int x3, .ref (a (3 + 2 * x0))]) b (k_X9_coinShift hrw S x3 _ h) cf_X9_coinShift wm_X9_52 ws_X9_coinShift dX9_unpack_60 rfl (Nat.le_of_ble_eq_true rfl) ⟨by decide, by decide, Nat.le_of_ble_eq_true rfl, Nat.le_of_ble_eq_true rfl⟩) (fun r9 S10 h => ?_)
    refine z_lushr b dX9_unpack_63 rfl ?_
    refine z_ldc2 b wl_X9_58 dX9_unpack_64 ?_
    refine z_land b dX9_unpack_67 rfl ?_
    refine z_l2i b dX9_unpack_68 rfl ?_
    obtain ⟨g11, h⟩ := h
    obtain ⟨g12, h⟩ := h
    refine y_iast (q0 := 3 + 2 * x0) (j := x3.toNatClampNeg) b (kw_sr cy a rw S10 g11) (zx_r g12.1 g12.2) dX9_unpack_69 (kwa_sr cy a rw S10 g11 (x3.toNatClampNeg) ((((x1).toUInt64 >>> ((r9 : Int32).toInt64.toUInt64 &&& Int64.toUInt64 63)).toInt64 &&& 15) : Int64).toInt32) ?_
    refine z_iconst (v := 0) b dX9_unpack_70 (by decide) ?_
    refine z_istore (lv' := [(4, .int 0), (0, .ref (a (2 + 2 * x0))), (1, .long x1), (3, .int x3)]) b dX9_unpack_71 (by decide) rfl ?_
    refine z_lv0 (lv' := [(0, .ref (a (2 + 2 * x0))), (1, .long x1), (3, .int x3), (4, .int 0)]) [1, 2, 3, 0] rfl ?_
    obtain ⟨n, h⟩ := h
    exact zl_X9_unpack_L73 hrw b (fun S x0 x1 x3 h => z_X9_unpack_B159 hrw b hk48 hk165 _ _ _ _ h) n _ _ _ _ _ h

set_option maxHeartbeats 200000 in
set_option maxRecDepth 100000 in
theorem zl_X9_unpack_L48 {p : Program} {l : Launch} {e : Env} {R : Room} {s : State} {m : MethodId} {args : Array Value} {below : List Frame} {meth : Method} {c : Code} {D : va_G} {cy : Nat → ClassId} {T0 tB tE : Nat} {A : Nat → Prop} {a : Nat → Nat} {rw : Nat → Option Nat} (hrw : ∀ i, i < 6 → rw i = some (a (12 + 2 * i))) {post : KS → Prop} {k165 : KS → Prop} (b : Bz p R s m args meth c D cy T0 tB tE A 7 cX9_unpack RX9 none "unpack" 1 21 0 0) (hk165 : ∀ (S : KS), k165 S → Z p l e R s m args below meth c D A 7 (MQ below (QV D (U := KS) post (kw cy a rw) A) args s 0 0 A) 0 0 (kw cy a rw S) [] 165 []) : ∀ (n : Nat) (S : KS) (x0 : Nat) (x1 : Int64) (x3 : Int32), lpn (w_X9_unpack_F48 cy tE post k165) (fun _ _ _ _ => False) n S x0 x1 x3 → Z p l e R s m args below meth c D A 7 (MQ below (QV D (U := KS) post (kw cy a rw) A) args s 0 0 A) 0 0 (kw cy a rw S) [(0, .ref (a (2 + 2 * x0))), (1, .long x1), (3, .int x3)] 48 [] := by
  intro n
  induction n with
  | zero => intro _ _ _ _ h; exact h.elim
  | succ n ih => intro S x0 x1 x3 h; exact z_X9_unpack_F48 hrw b hk165 ih S x0 x1 x3 h

def w_X9_unpack_B165 (cy : Nat → ClassId) (tE : Nat) (post : KS → Prop) (S : KS)  : Prop :=
  post S

set_option maxHeartbeats 200000 in
set_option maxRecDepth 100000 in
theorem z_X9_unpack_B165 {p : Program} {l : Launch} {e : Env} {R : Room} {s : State} {m : MethodId} {args : Array Value} {below : List Frame} {meth : Method} {c : Code} {D : va_G} {cy : Nat → ClassId} {T0 tB tE : Nat} {A : Nat → Prop} {a : Nat → Nat} {rw : Nat → Option Nat} (hrw : ∀ i, i < 6 → rw i = some (a (12 + 2 * i))) {post : KS → Prop} (b : Bz p R s m args meth c D cy T0 tB tE A 7 cX9_unpack RX9 none "unpack" 1 21 0 0) (S : KS)  (h : w_X9_unpack_B165 cy tE post S ) : Z p l e R s m args below meth c D A 7 (MQ below (QV D (U := KS) post (kw cy a rw) A) args s 0 0 A) 0 0 (kw cy a rw S) [] 165 [] := by
  unfold w_X9_unpack_B165 at h
  exact z_vret (u := S) b rfl dX9_unpack_165 h rfl (by decide) (by decide)

def w_X9_unpack_B46 (cy : Nat → ClassId) (tE : Nat) (post : KS → Prop) (S : KS) (x0 : Nat) (x1 : Int64) : Prop :=
  ∃ n, lpn (w_X9_unpack_F48 cy tE post (w_X9_unpack_B165 cy tE post)) (fun _ _ _ _ => False) n S x0 x1 0

set_option maxHeartbeats 200000 in
set_option maxRecDepth 100000 in
theorem z_X9_unpack_B46 {p : Program} {l : Launch} {e : Env} {R : Room} {s : State} {m : MethodId} {args : Array Value} {below : List Frame} {meth : Method} {c : Code} {D : va_G} {cy : Nat → ClassId} {T0 tB tE : Nat} {A : Nat → Prop} {a : Nat → Nat} {rw : Nat → Option Nat} (hrw : ∀ i, i < 6 → rw i = some (a (12 + 2 * i))) {post : KS → Prop} (b : Bz p R s m args meth c D cy T0 tB tE A 7 cX9_unpack RX9 none "unpack" 1 21 0 0) (S : KS) (x0 : Nat) (x1 : Int64) (h : w_X9_unpack_B46 cy tE post S x0 x1) : Z p l e R s m args below meth c D A 7 (MQ below (QV D (U := KS) post (kw cy a rw) A) args s 0 0 A) 0 0 (kw cy a rw S) [(0, .ref (a (2 + 2 * x0))), (1, .long x1)] 46 [] := by
  unfold w_X9_unpack_B46 at h
  refine z_iconst (v := 0) b dX9_unpack_46 (by decide) ?_
  refine z_istore_n (lv' := [(3, .int 0), (0, .ref (a (2 + 2 * x0))), (1, .long x1)]) b dX9_unpack_47 rfl (by decide) rfl ?_
  refine z_lv0 (lv' := [(0, .ref (a (2 + 2 * x0))), (1, .long x1), (3, .int 0)]) [1, 2, 0] rfl ?_
  obtain ⟨n, h⟩ := h
  exact zl_X9_unpack_L48 hrw b (fun S h => z_X9_unpack_B165 hrw b _ h) n _ _ _ _ h

def w_X9_unpack (cy : Nat → ClassId) (tE : Nat) (S : KS) (p9 : Nat) (p0 : Int64) (post : KS → Prop) : Prop :=
  (p9 < 5) ∧ (p9 < 5) ∧ ∃ n, lpn (w_X9_unpack_F15 cy tE post (w_X9_unpack_B46 cy tE post)) (fun _ _ _ _ => False) n (ksu S (1 + p9) 50 ((p0 &&& 15) : Int64).toInt32) p9 p0 0

set_option maxHeartbeats 200000 in
set_option maxRecDepth 100000 in
theorem k_X9_unpack {l : Launch} {D : va_G} {cy : Nat → ClassId} {T0 tB tE : Nat} {a : Nat → Nat} {rw : Nat → Option Nat} (hrw : ∀ i, i < 6 → rw i = some (a (12 + 2 * i))) (S : KS) (p9 : Nat) (p0 : Int64) (post : KS → Prop) (h : w_X9_unpack cy tE S p9 p0 post) : Ct l D cy T0 tB tE yX9_unpack cX9_unpack 7 none 1 21 0 0 (kw cy a rw S) [.ref (a (2 + 2 * p9)), .long p0] (QV D (U := KS) post (kw cy a rw)) := by
  refine Ct.ofZ RX9 "unpack" [(0, .ref (a (2 + 2 * p9))), (1, .long p0)] rfl rfl rfl rfl (Nat.le_of_ble_eq_true rfl) ?_
  intro p e R s m args below meth c A b
  unfold w_X9_unpack at h
  refine z_aload_n b dX9_unpack_0 rfl rfl ?_
  obtain ⟨g1, h⟩ := h
  refine z_get (q0 := 2 + 2 * p9) (k9 := 0) (v := .ref (a (3 + 2 * p9))) b (kw_so cy a rw S g1) rfl in_X9 (by decide) wf_X9_11 rfl dX9_unpack_1 ?_
  refine z_bipush (v := 50) b dX9_unpack_4 (by decide) ?_
  refine z_lload_n b dX9_unpack_6 rfl rfl ?_
  refine z_ldc2 b wl_X9_58 dX9_unpack_7 ?_
  refine z_land b dX9_unpack_10 rfl ?_
  refine z_l2i b dX9_unpack_11 rfl ?_
  obtain ⟨g2, h⟩ := h
  refine y_iast (q0 := 3 + 2 * p9) (j := 50) b (kw_sr cy a rw S g2) (by decide) dX9_unpack_12 (kwa_sr cy a rw S g2 50 ((p0 &&& 15) : Int64).toInt32) ?_
  refine z_iconst (v := 0) b dX9_unpack_13 (by decide) ?_
  refine z_istore_n (lv' := [(3, .int 0), (0, .ref (a (2 + 2 * p9))), (1, .long p0)]) b dX9_unpack_14 rfl (by decide) rfl ?_
  refine z_lv0 (lv' := [(0, .ref (a (2 + 2 * p9))), (1, .long p0), (3, .int 0)]) [1, 2, 0] rfl ?_
  obtain ⟨n, h⟩ := h
  exact zl_X9_unpack_L15 hrw b (fun S x0 x1 h => z_X9_unpack_B46 hrw b _ _ _ h) n _ _ _ _ h

def w_X8_load_B25 (cy : Nat → ClassId) (tE : Nat) (post : KS → Prop) (S : KS)  : Prop :=
  post S

set_option maxHeartbeats 200000 in
set_option maxRecDepth 100000 in
theorem z_X8_load_B25 {p : Program} {l : Launch} {e : Env} {R : Room} {s : State} {m : MethodId} {args : Array Value} {below : List Frame} {meth : Method} {c : Code} {D : va_G} {cy : Nat → ClassId} {T0 tB tE : Nat} {A : Nat → Prop} {a : Nat → Nat} {rw : Nat → Option Nat} (hrw : ∀ i, i < 6 → rw i = some (a (12 + 2 * i))) {post : KS → Prop} (b : Bz p R s m args meth c D cy T0 tB tE A 2 cX8_load RX8 none "load" 2 47 0 0) (S : KS)  (h : w_X8_load_B25 cy tE post S ) : Z p l e R s m args below meth c D A 2 (MQ below (QV D (U := KS) post (kw cy a rw) A) args s 0 0 A) 0 0 (kw cy a rw S) [] 25 [] := by
  unfold w_X8_load_B25 at h
  exact z_vret (u := S) b rfl dX8_load_25 h rfl (by decide) (by decide)

def w_X8_load (cy : Nat → ClassId) (tE : Nat) (S : KS) (p0 : Int32) (post : KS → Prop) : Prop :=
  ((p0.toInt < 0 → w_X8_load_B25 cy tE post S) ∧ (0 ≤ p0.toInt → (((fi S.1 33).toInt ≤ p0.toInt → w_X8_load_B25 cy tE post S) ∧ (p0.toInt < (fi S.1 33).toInt → (0 ≤ p0.toInt ∧ p0.toInt < 400) ∧ w_X9_unpack cy tE S 4 ((al S.1 2) p0.toNatClampNeg) (fun S3 => w_X8_load_B25 cy tE post S3)))))

set_option maxHeartbeats 200000 in
set_option maxRecDepth 100000 in
theorem k_X8_load {l : Launch} {D : va_G} {cy : Nat → ClassId} {T0 tB tE : Nat} {a : Nat → Nat} {rw : Nat → Option Nat} (hrw : ∀ i, i < 6 → rw i = some (a (12 + 2 * i))) (S : KS) (p0 : Int32) (post : KS → Prop) (h : w_X8_load cy tE S p0 post) : Ct l D cy T0 tB tE yX8_load cX8_load 2 none 2 47 0 0 (kw cy a rw S) [.ref (a 38), .int p0] (QV D (U := KS) post (kw cy a rw)) := by
  refine Ct.ofZ RX8 "load" [(0, .ref (a 38)), (1, .int p0)] rfl rfl rfl rfl (Nat.le_of_ble_eq_true rfl) ?_
  intro p e R s m args below meth c A b
  unfold w_X8_load at h
  refine z_iload_n b dX8_load_0 rfl rfl ?_
  refine y_if_lt (tgt := 25) (xl := p0.toInt) b rfl dX8_load_1 (by decide) (fun c1 => ?_) (fun c1 => ?_)
  · replace h := h.1 c1
    refine z_lv0 (lv' := []) [] rfl ?_
    exact z_X8_load_B25 hrw b _ h
  · replace h := h.2 c1
    refine z_iload_n b dX8_load_4 rfl rfl ?_
    refine z_aload_n b dX8_load_5 rfl rfl ?_
    refine z_get (q0 := 38) (k9 := 17) (v := .int (fi S.1 33)) b (kw_38 cy a rw S) rfl in_X8 (by decide) wf_X8_64 rfl dX8_load_6 ?_
    refine y_icmp_ge (tgt := 25) (xl := p0.toInt) (yl := (fi S.1 33).toInt) b rfl rfl dX8_load_9 (by decide) (fun c1 => ?_) (fun c1 => ?_)
    · replace h := h.1 c1
      refine z_lv0 (lv' := []) [] rfl ?_
      exact z_X8_load_B25 hrw b _ h
    · replace h := h.2 c1
      refine z_aload_n b dX8_load_12 rfl rfl ?_
      refine z_get (q0 := 38) (k9 := 2) (v := .ref (a 10)) b (kw_38 cy a rw S) rfl in_X8 (by decide) wf_X8_12 rfl dX8_load_13 ?_
      refine z_aload_n b dX8_load_16 rfl rfl ?_
      refine z_get (q0 := 38) (k9 := 3) (v := .ref (a 39)) b (kw_38 cy a rw S) rfl in_X8 (by decide) wf_X8_18 rfl dX8_load_17 ?_
      refine z_iload_n b dX8_load_20 rfl rfl ?_
      obtain ⟨g1, h⟩ := h
      refine y_lald (q0 := 39) (j := p0.toNatClampNeg) (v := ((al S.1 2) p0.toNatClampNeg)) b (kw_39 cy a rw S) (zx_r g1.1 g1.2) rfl dX8_load_21 ?_
      refine z_callv b (z_runV (q0 := 10) (As := [.long ((al S.1 2) p0.toNatClampNeg)]) (st := []) b (k_X9_unpack hrw S 4 ((al S.1 2) p0.toNatClampNeg) _ h) cf_X9_unpack (kw_10 cy a rw S) rfl wm_X8_122 wi_X9_unpack ws_X9_unpack dX8_load_22 rfl (Nat.le_of_ble_eq_true rfl) ⟨by decide, by decide, Nat.le_of_ble_eq_true rfl, Nat.le_of_ble_eq_true rfl⟩) (fun S3 h => ?_)
      refine z_lv0 (lv' := []) [] rfl ?_
      exact z_X8_load_B25 hrw b _ h

def w_X9_get_B23 (cy : Nat → ClassId) (tE : Nat) (post : Int32 → KS → Prop) (S : KS) (y0 : Int32) : Prop :=
  post y0 S

set_option maxHeartbeats 200000 in
set_option maxRecDepth 100000 in
theorem z_X9_get_B23 {p : Program} {l : Launch} {e : Env} {R : Room} {s : State} {m : MethodId} {args : Array Value} {below : List Frame} {meth : Method} {c : Code} {D : va_G} {cy : Nat → ClassId} {T0 tB tE : Nat} {A : Nat → Prop} {a : Nat → Nat} {rw : Nat → Option Nat} (hrw : ∀ i, i < 6 → rw i = some (a (12 + 2 * i))) {post : Int32 → KS → Prop} (b : Bz p R s m args meth c D cy T0 tB tE A 2 cX9_get RX9 (some .int) "get" 0 0 0 0) (S : KS) (y0 : Int32) (h : w_X9_get_B23 cy tE post S y0) : Z p l e R s m args below meth c D A 2 (MQ below (QI D (U := KS) post (kw cy a rw) A) args s 0 0 A) 0 0 (kw cy a rw S) [] 23 [.int y0] := by
  unfold w_X9_get_B23 at h
  exact z_iret (u := S) b rfl dX9_get_23 h rfl (by decide) (by decide)

def w_X9_get_B22 (cy : Nat → ClassId) (tE : Nat) (post : Int32 → KS → Prop) (S : KS)  : Prop :=
  w_X9_get_B23 cy tE post S 0

set_option maxHeartbeats 200000 in
set_option maxRecDepth 100000 in
theorem z_X9_get_B22 {p : Program} {l : Launch} {e : Env} {R : Room} {s : State} {m : MethodId} {args : Array Value} {below : List Frame} {meth : Method} {c : Code} {D : va_G} {cy : Nat → ClassId} {T0 tB tE : Nat} {A : Nat → Prop} {a : Nat → Nat} {rw : Nat → Option Nat} (hrw : ∀ i, i < 6 → rw i = some (a (12 + 2 * i))) {post : Int32 → KS → Prop} (b : Bz p R s m args meth c D cy T0 tB tE A 2 cX9_get RX9 (some .int) "get" 0 0 0 0) (S : KS)  (h : w_X9_get_B22 cy tE post S ) : Z p l e R s m args below meth c D A 2 (MQ below (QI D (U := KS) post (kw cy a rw) A) args s 0 0 A) 0 0 (kw cy a rw S) [] 22 [] := by
  unfold w_X9_get_B22 at h
  refine z_iconst (v := 0) b dX9_get_22 (by decide) ?_
  exact z_X9_get_B23 hrw b _ _ h

def w_X9_get (cy : Nat → ClassId) (tE : Nat) (S : KS) (p9 : Nat) (p0 : Int32) (post : Int32 → KS → Prop) : Prop :=
  ((p0.toInt < 0 → w_X9_get_B22 cy tE post S) ∧ (0 ≤ p0.toInt → (p9 < 5) ∧ (p9 < 5) ∧ ((51 ≤ p0.toInt → w_X9_get_B22 cy tE post S) ∧ (p0.toInt < 51 → (p9 < 5) ∧ (p9 < 5) ∧ (0 ≤ p0.toInt ∧ p0.toInt < 51) ∧ w_X9_get_B23 cy tE post S ((ar S.1 (1 + p9)) p0.toNatClampNeg)))))

set_option maxHeartbeats 200000 in
set_option maxRecDepth 100000 in
theorem k_X9_get {l : Launch} {D : va_G} {cy : Nat → ClassId} {T0 tB tE : Nat} {a : Nat → Nat} {rw : Nat → Option Nat} (hrw : ∀ i, i < 6 → rw i = some (a (12 + 2 * i))) (S : KS) (p9 : Nat) (p0 : Int32) (post : Int32 → KS → Prop) (h : w_X9_get cy tE S p9 p0 post) : Ct l D cy T0 tB tE yX9_get cX9_get 2 (some .int) 0 0 0 0 (kw cy a rw S) [.ref (a (2 + 2 * p9)), .int p0] (QI D (U := KS) post (kw cy a rw)) := by
  refine Ct.ofZ RX9 "get" [(0, .ref (a (2 + 2 * p9))), (1, .int p0)] rfl rfl rfl rfl (Nat.le_of_ble_eq_true rfl) ?_
  intro p e R s m args below meth c A b
  unfold w_X9_get at h
  refine z_iload_n b dX9_get_0 rfl rfl ?_
  refine y_if_lt (tgt := 22) (xl := p0.toInt) b rfl dX9_get_1 (by decide) (fun c1 => ?_) (fun c1 => ?_)
  · replace h := h.1 c1
    refine z_lv0 (lv' := []) [] rfl ?_
    exact z_X9_get_B22 hrw b _ h
  · replace h := h.2 c1
    refine z_iload_n b dX9_get_4 rfl rfl ?_
    refine z_aload_n b dX9_get_5 rfl rfl ?_
    obtain ⟨g1, h⟩ := h
    refine z_get (q0 := 2 + 2 * p9) (k9 := 0) (v := .ref (a (3 + 2 * p9))) b (kw_so cy a rw S g1) rfl in_X9 (by decide) wf_X9_11 rfl dX9_get_6 ?_
    obtain ⟨g2, h⟩ := h
    refine z_alen (q0 := 3 + 2 * p9) (t0 := 0) (v := 51) b (kw_sr cy a rw S g2) rfl rfl dX9_get_9 ?_
    refine y_icmp_ge (tgt := 22) (xl := p0.toInt) (yl := 51) b rfl (by decide) dX9_get_10 (by decide) (fun c1 => ?_) (fun c1 => ?_)
    · replace h := h.1 c1
      refine z_lv0 (lv' := []) [] rfl ?_
      exact z_X9_get_B22 hrw b _ h
    · replace h := h.2 c1
      refine z_aload_n b dX9_get_13 rfl rfl ?_
      obtain ⟨g3, h⟩ := h
      refine z_get (q0 := 2 + 2 * p9) (k9 := 0) (v := .ref (a (3 + 2 * p9))) b (kw_so cy a rw S g3) rfl in_X9 (by decide) wf_X9_11 rfl dX9_get_14 ?_
      refine z_iload_n b dX9_get_17 rfl rfl ?_
      obtain ⟨g4, h⟩ := h
      obtain ⟨g5, h⟩ := h
      refine y_iald (q0 := 3 + 2 * p9) (j := p0.toNatClampNeg) (v := ((ar S.1 (1 + p9)) p0.toNatClampNeg)) b (kw_sr cy a rw S g4) (zx_r g5.1 g5.2) rfl dX9_get_18 ?_
      refine z_goto (tgt := 23) b dX9_get_19 (by decide) ?_
      refine z_lv0 (lv' := []) [] rfl ?_
      exact z_X9_get_B23 hrw b _ _ h

def w_X4_actOf_B117 (cy : Nat → ClassId) (tE : Nat) (post : Option Nat → KS → Prop) (S : KS) (y0 : Option Nat) : Prop :=
  post y0 S

set_option maxHeartbeats 200000 in
set_option maxRecDepth 100000 in
theorem z_X4_actOf_B117 {p : Program} {l : Launch} {e : Env} {R : Room} {s : State} {m : MethodId} {args : Array Value} {below : List Frame} {meth : Method} {c : Code} {D : va_G} {cy : Nat → ClassId} {T0 tB tE : Nat} {A : Nat → Prop} {a : Nat → Nat} {rw : Nat → Option Nat} (hrw : ∀ i, i < 6 → rw i = some (a (12 + 2 * i))) {post : Option Nat → KS → Prop} (b : Bz p R s m args meth c D cy T0 tB tE A 8 cX4_actOf RX4 (some (.object "LawHoles$Act")) "actOf" 1 21 0 0) (S : KS) (y0 : Option Nat) (h : w_X4_actOf_B117 cy tE post S y0) : Z p l e R s m args below meth c D A 8 (MQ below (QQ D (U := KS) post (kw cy a rw) A) args s 0 0 A) 0 0 (kw cy a rw S) [] 117 [va_rf y0] := by
  unfold w_X4_actOf_B117 at h
  exact z_aret (v := y0) (u := S) b rfl (Or.inl ⟨_, rfl⟩) dX4_actOf_117 h rfl (by decide) (by decide)

def w_X4_actOf_B104 (cy : Nat → ClassId) (tE : Nat) (post : Option Nat → KS → Prop) (S : KS) (x4 : Option Nat) (y0 : Int32) : Prop :=
  ((y0.toInt = 0 → w_X4_actOf_B117 cy tE post S none) ∧ (y0.toInt ≠ 0 → w_X4_actOf_B117 cy tE post S x4))

set_option maxHeartbeats 200000 in
set_option maxRecDepth 100000 in
theorem z_X4_actOf_B104 {p : Program} {l : Launch} {e : Env} {R : Room} {s : State} {m : MethodId} {args : Array Value} {below : List Frame} {meth : Method} {c : Code} {D : va_G} {cy : Nat → ClassId} {T0 tB tE : Nat} {A : Nat → Prop} {a : Nat → Nat} {rw : Nat → Option Nat} (hrw : ∀ i, i < 6 → rw i = some (a (12 + 2 * i))) {post : Option Nat → KS → Prop} (b : Bz p R s m args meth c D cy T0 tB tE A 8 cX4_actOf RX4 (some (.object "LawHoles$Act")) "actOf" 1 21 0 0) (S : KS) (x4 : Option Nat) (y0 : Int32) (h : w_X4_actOf_B104 cy tE post S x4 y0) : Z p l e R s m args below meth c D A 8 (MQ below (QQ D (U := KS) post (kw cy a rw) A) args s 0 0 A) 0 0 (kw cy a rw S) [(4, va_rf x4)] 104 [.int y0] := by
  unfold w_X4_actOf_B104 at h
  refine z_istore (lv' := [(7, .int y0), (4, va_rf x4)]) b dX4_actOf_104 (by decide) rfl ?_
  refine z_iload b dX4_actOf_106 rfl ?_
  refine y_if_eq (tgt := 116) (xl := y0.toInt) b rfl dX4_actOf_108 (by decide) (fun c1 => ?_) (fun c1 => ?_)
  · replace h := h.1 c1
    refine z_null b dX4_actOf_116 ?_
    refine z_lv0 (lv' := []) [] rfl ?_
    exact z_X4_actOf_B117 hrw b _ _ h
  · replace h := h.2 c1
    refine z_aloadQ b dX4_actOf_111 rfl ?_
    refine z_goto (tgt := 117) b dX4_actOf_113 (by decide) ?_
    refine z_lv0 (lv' := []) [] rfl ?_
    exact z_X4_actOf_B117 hrw b _ _ h

def w_X4_actOf_B103 (cy : Nat → ClassId) (tE : Nat) (post : Option Nat → KS → Prop) (S : KS) (x4 : Option Nat) : Prop :=
  w_X4_actOf_B104 cy tE post S x4 0

set_option maxHeartbeats 200000 in
set_option maxRecDepth 100000 in
theorem z_X4_actOf_B103 {p : Program} {l : Launch} {e : Env} {R : Room} {s : State} {m : MethodId} {args : Array Value} {below : List Frame} {meth : Method} {c : Code} {D : va_G} {cy : Nat → ClassId} {T0 tB tE : Nat} {A : Nat → Prop} {a : Nat → Nat} {rw : Nat → Option Nat} (hrw : ∀ i, i < 6 → rw i = some (a (12 + 2 * i))) {post : Option Nat → KS → Prop} (b : Bz p R s m args meth c D cy T0 tB tE A 8 cX4_actOf RX4 (some (.object "LawHoles$Act")) "actOf" 1 21 0 0) (S : KS) (x4 : Option Nat) (h : w_X4_actOf_B103 cy tE post S x4) : Z p l e R s m args below meth c D A 8 (MQ below (QQ D (U := KS) post (kw cy a rw) A) args s 0 0 A) 0 0 (kw cy a rw S) [(4, va_rf x4)] 103 [] := by
  unfold w_X4_actOf_B103 at h
  refine z_iconst (v := 0) b dX4_actOf_103 (by decide) ?_
  exact z_X4_actOf_B104 hrw b _ _ _ h

def w_X4_actOf_B84 (cy : Nat → ClassId) (tE : Nat) (post : Option Nat → KS → Prop) (S : KS) (x1 : Int32) (x4 : Option Nat) : Prop :=
  ∃ q17 : Nat, x4 = some q17 ∧ ∃ (i19 : Nat) (f20 : Int64) (f21 : Value) (f22 : Value) (f23 : Int32) (f24 : Int32), S.2.2.2[i19]? = some (q17, .inr (1, [.long f20, f21, f22, .int f23, .int f24])) ∧ w_X11_thingOf cy tE S x1 (fun r26 S27 => w_X11_isThing cy tE S27 r26 (fun r28 S29 => ((f24.toInt ≠ r28.toInt → w_X4_actOf_B103 cy tE post S29 (some q17)) ∧ (f24.toInt = r28.toInt → w_X4_actOf_B104 cy tE post S29 (some q17) 1))))

set_option maxHeartbeats 200000 in
set_option maxRecDepth 100000 in
theorem z_X4_actOf_B84 {p : Program} {l : Launch} {e : Env} {R : Room} {s : State} {m : MethodId} {args : Array Value} {below : List Frame} {meth : Method} {c : Code} {D : va_G} {cy : Nat → ClassId} {T0 tB tE : Nat} {A : Nat → Prop} {a : Nat → Nat} {rw : Nat → Option Nat} (hrw : ∀ i, i < 6 → rw i = some (a (12 + 2 * i))) {post : Option Nat → KS → Prop} (b : Bz p R s m args meth c D cy T0 tB tE A 8 cX4_actOf RX4 (some (.object "LawHoles$Act")) "actOf" 1 21 0 0) (S : KS) (x1 : Int32) (x4 : Option Nat) (h : w_X4_actOf_B84 cy tE post S x1 x4) : Z p l e R s m args below meth c D A 8 (MQ below (QQ D (U := KS) post (kw cy a rw) A) args s 0 0 A) 0 0 (kw cy a rw S) [(1, .int x1), (4, va_rf x4)] 84 [] := by
  unfold w_X4_actOf_B84 at h
  refine z_aloadQ b dX4_actOf_84 rfl ?_
  obtain ⟨q17, g18, h⟩ := h
  subst g18
  obtain ⟨i19, f20, f21, f22, f23, f24, g25, h⟩ := h
  refine z_get (q0 := 47 + i19) (k9 := 4) (v := .int f24) b (kw_dyn cy a rw S g25) rfl in_X0 (by decide) wf_X4_54 rfl dX4_actOf_86 ?_
  refine z_iload_n b dX4_actOf_89 rfl rfl ?_
  refine z_calli b (z_runSN (As := [.int x1]) (st := [.int f24]) b (k_X11_thingOf hrw S x1 _ h) cf_X11_thingOf (nw_X4_57) ws_X11_thingOf dX4_actOf_90 rfl (Nat.le_of_ble_eq_true rfl) ⟨by decide, by decide, Nat.le_of_ble_eq_true rfl, Nat.le_of_ble_eq_true rfl⟩) (fun r26 S27 h => ?_)
  refine z_calli b (z_runSN (As := [.int r26]) (st := [.int f24]) b (k_X11_isThing hrw S27 r26 _ h) cf_X11_isThing (nw_X4_60) ws_X11_isThing dX4_actOf_93 rfl (Nat.le_of_ble_eq_true rfl) ⟨by decide, by decide, Nat.le_of_ble_eq_true rfl, Nat.le_of_ble_eq_true rfl⟩) (fun r28 S29 h => ?_)
  refine y_icmp_ne (tgt := 103) (xl := f24.toInt) (yl := r28.toInt) b rfl rfl dX4_actOf_96 (by decide) (fun c1 => ?_) (fun c1 => ?_)
  · replace h := h.1 c1
    refine z_lv0 (lv' := [(4, .ref q17)]) [1] rfl ?_
    exact z_X4_actOf_B103 hrw b _ _ h
  · replace h := h.2 c1
    refine z_iconst (v := 1) b dX4_actOf_99 (by decide) ?_
    refine z_goto (tgt := 104) b dX4_actOf_100 (by decide) ?_
    refine z_lv0 (lv' := [(4, .ref q17)]) [1] rfl ?_
    exact z_X4_actOf_B104 hrw b _ _ _ h

def w_X4_actOf (cy : Nat → ClassId) (tE : Nat) (S : KS) (p0 : Int32) (p1 : Int32) (post : Option Nat → KS → Prop) : Prop :=
  ((((p1 >>> (((p0 / 64) / 6) &&& 31)) &&& 1).toInt ≠ 0 → w_X4_actAt cy tE S (p0 / 64) (fun r1 S2 => ((r1 = none → post none S2) ∧ (∀ q3 : Nat, r1 = some q3 → w_X11_doerOf cy tE S2 p0 (fun r4 S5 => w_X11_otherOf cy tE S5 p0 (fun r6 S7 => w_X11_isPerson cy tE S7 r4 (fun r8 S9 => ((r8.toInt = 0 → w_X4_actOf_B103 cy tE post S9 (some q3)) ∧ (r8.toInt ≠ 0 → ∃ (i10 : Nat) (f11 : Int64) (f12 : Value) (f13 : Value) (f14 : Int32) (f15 : Int32), S9.2.2.2[i10]? = some (q3, .inr (1, [.long f11, f12, f13, .int f14, .int f15])) ∧ ((f14.toInt = 0 → ((r6.toInt ≠ 3 → w_X4_actOf_B103 cy tE post S9 (some q3)) ∧ (r6.toInt = 3 → w_X4_actOf_B84 cy tE post S9 p0 (some q3)))) ∧ (f14.toInt ≠ 0 → w_X11_isPerson cy tE S9 r6 (fun r30 S31 => ((r30.toInt = 0 → w_X4_actOf_B103 cy tE post S31 (some q3)) ∧ (r30.toInt ≠ 0 → ((r6.toInt = r4.toInt → w_X4_actOf_B103 cy tE post S31 (some q3)) ∧ (r6.toInt ≠ r4.toInt → w_X4_actOf_B84 cy tE post S31 p0 (some q3))))))))))))))))) ∧ (((p1 >>> (((p0 / 64) / 6) &&& 31)) &&& 1).toInt = 0 → post none S))

set_option maxHeartbeats 200000 in
set_option maxRecDepth 100000 in
theorem k_X4_actOf {l : Launch} {D : va_G} {cy : Nat → ClassId} {T0 tB tE : Nat} {a : Nat → Nat} {rw : Nat → Option Nat} (hrw : ∀ i, i < 6 → rw i = some (a (12 + 2 * i))) (S : KS) (p0 : Int32) (p1 : Int32) (post : Option Nat → KS → Prop) (h : w_X4_actOf cy tE S p0 p1 post) : Ct l D cy T0 tB tE yX4_actOf cX4_actOf 8 (some (.object "LawHoles$Act")) 1 21 0 0 (kw cy a rw S) [.ref (a 33), .int p0, .int p1] (QQ D (U := KS) post (kw cy a rw)) := by
  refine Ct.ofZ RX4 "actOf" [(0, .ref (a 33)), (1, .int p0), (2, .int p1)] rfl rfl rfl rfl (Nat.le_of_ble_eq_true rfl) ?_
  intro p e R s m args below meth c A b
  unfold w_X4_actOf at h
  refine z_iload_n b dX4_actOf_0 rfl rfl ?_
  refine z_bipush (v := 64) b dX4_actOf_1 (by decide) ?_
  refine z_idiv b dX4_actOf_3 (by decide) rfl ?_
  refine z_istore_n (lv' := [(3, .int (p0 / 64)), (0, .ref (a 33)), (1, .int p0), (2, .int p1)]) b dX4_actOf_4 rfl (by decide) rfl ?_
  refine z_iload_n b dX4_actOf_5 rfl rfl ?_
  refine z_iload_n b dX4_actOf_6 rfl rfl ?_
  refine z_bipush (v := 6) b dX4_actOf_7 (by decide) ?_
  refine z_idiv b dX4_actOf_9 (by decide) rfl ?_
  refine z_ishr b dX4_actOf_10 rfl ?_
  refine z_iconst (v := 1) b dX4_actOf_11 (by decide) ?_
  refine z_iand b dX4_actOf_12 rfl ?_
  refine y_if_ne (tgt := 18) (xl := ((p1 >>> (((p0 / 64) / 6) &&& 31)) &&& 1).toInt) b rfl dX4_actOf_13 (by decide) (fun c1 => ?_) (fun c1 => ?_)
  · replace h := h.1 c1
    refine z_aload_n b dX4_actOf_18 rfl rfl ?_
    refine z_iload_n b dX4_actOf_19 rfl rfl ?_
    refine z_callq b (z_runV (q0 := 33) (As := [.int (p0 / 64)]) (st := []) b (k_X4_actAt hrw S (p0 / 64) _ h) cf_X4_actAt (kw_33 cy a rw S) rfl wm_X4_35 wi_X4_actAt ws_X4_actAt dX4_actOf_20 rfl (Nat.le_of_ble_eq_true rfl) ⟨by decide, by decide, Nat.le_of_ble_eq_true rfl, Nat.le_of_ble_eq_true rfl⟩) (fun r1 S2 h => ?_)
    refine z_astoreQ (lv' := [(4, va_rf r1), (3, .int (p0 / 64)), (0, .ref (a 33)), (1, .int p0), (2, .int p1)]) b dX4_actOf_23 (by decide) rfl ?_
    refine z_aloadQ b dX4_actOf_25 rfl ?_
    cases r1 with
    | none =>
      replace h := h.1 rfl
      refine z_ifnonnullN b dX4_actOf_27 ?_
      refine z_null b dX4_actOf_30 ?_
      exact z_aret (v := none) (u := S2) b rfl (Or.inl ⟨_, rfl⟩) dX4_actOf_31 h rfl (by decide) (by decide)
    | some q3 =>
      replace h := h.2 q3 rfl
      refine z_ifnonnull (tgt := 32) b dX4_actOf_27 (by decide) ?_
      refine z_iload_n b dX4_actOf_32 rfl rfl ?_
      refine z_calli b (z_runSN (As := [.int p0]) (st := []) b (k_X11_doerOf hrw S2 p0 _ h) cf_X11_doerOf (nw_X4_39) ws_X11_doerOf dX4_actOf_33 rfl (Nat.le_of_ble_eq_true rfl) ⟨by decide, by decide, Nat.le_of_ble_eq_true rfl, Nat.le_of_ble_eq_true rfl⟩) (fun r4 S5 h => ?_)
      refine z_istore (lv' := [(5, .int r4), (4, .ref q3), (3, .int (p0 / 64)), (0, .ref (a 33)), (1, .int p0), (2, .int p1)]) b dX4_actOf_36 (by decide) rfl ?_
      refine z_iload_n b dX4_actOf_38 rfl rfl ?_
      refine z_calli b (z_runSN (As := [.int p0]) (st := []) b (k_X11_otherOf hrw S5 p0 _ h) cf_X11_otherOf (nw_X4_43) ws_X11_otherOf dX4_actOf_39 rfl (Nat.le_of_ble_eq_true rfl) ⟨by decide, by decide, Nat.le_of_ble_eq_true rfl, Nat.le_of_ble_eq_true rfl⟩) (fun r6 S7 h => ?_)
      refine z_istore (lv' := [(6, .int r6), (5, .int r4), (4, .ref q3), (3, .int (p0 / 64)), (0, .ref (a 33)), (1, .int p0), (2, .int p1)]) b dX4_actOf_42 (by decide) rfl ?_
      refine z_iload b dX4_actOf_44 rfl ?_
      refine z_calli b (z_runSN (As := [.int r4]) (st := []) b (k_X11_isPerson hrw S7 r4 _ h) cf_X11_isPerson (nw_X4_46) ws_X11_isPerson dX4_actOf_46 rfl (Nat.le_of_ble_eq_true rfl) ⟨by decide, by decide, Nat.le_of_ble_eq_true rfl, Nat.le_of_ble_eq_true rfl⟩) (fun r8 S9 h => ?_)
      refine y_if_eq (tgt := 103) (xl := r8.toInt) b rfl dX4_actOf_49 (by decide) (fun c1 => ?_) (fun c1 => ?_)
      · replace h := h.1 c1
        refine z_lv0 (lv' := [(4, .ref q3)]) [2] rfl ?_
        exact z_X4_actOf_B103 hrw b _ _ h
      · replace h := h.2 c1
        refine z_aload b dX4_actOf_52 rfl ?_
        obtain ⟨i10, f11, f12, f13, f14, f15, g16, h⟩ := h
        refine z_get (q0 := 47 + i10) (k9 := 3) (v := .int f14) b (kw_dyn cy a rw S9 g16) rfl in_X0 (by decide) wf_X4_50 rfl dX4_actOf_54 ?_
        refine y_if_eq (tgt := 78) (xl := f14.toInt) b rfl dX4_actOf_57 (by decide) (fun c1 => ?_) (fun c1 => ?_)
        · replace h := h.1 c1
          refine z_iload b dX4_actOf_78 rfl ?_
          refine z_iconst (v := 3) b dX4_actOf_80 (by decide) ?_
          refine y_icmp_ne (tgt := 103) (xl := r6.toInt) (yl := 3) b rfl (by decide) dX4_actOf_81 (by decide) (fun c1 => ?_) (fun c1 => ?_)
          · replace h := h.1 c1
            refine z_lv0 (lv' := [(4, .ref q3)]) [2] rfl ?_
            exact z_X4_actOf_B103 hrw b _ _ h
          · replace h := h.2 c1
            refine z_lv0 (lv' := [(1, .int p0), (4, .ref q3)]) [5, 2] rfl ?_
            exact z_X4_actOf_B84 hrw b _ _ _ h
        · replace h := h.2 c1
          refine z_iload b dX4_actOf_60 rfl ?_
          refine z_calli b (z_runSN (As := [.int r6]) (st := []) b (k_X11_isPerson hrw S9 r6 _ h) cf_X11_isPerson (nw_X4_46) ws_X11_isPerson dX4_actOf_62 rfl (Nat.le_of_ble_eq_true rfl) ⟨by decide, by decide, Nat.le_of_ble_eq_true rfl, Nat.le_of_ble_eq_true rfl⟩) (fun r30 S31 h => ?_)
          refine y_if_eq (tgt := 103) (xl := r30.toInt) b rfl dX4_actOf_65 (by decide) (fun c1 => ?_) (fun c1 => ?_)
          · replace h := h.1 c1
            refine z_lv0 (lv' := [(4, .ref q3)]) [2] rfl ?_
            exact z_X4_actOf_B103 hrw b _ _ h
          · replace h := h.2 c1
            refine z_iload b dX4_actOf_68 rfl ?_
            refine z_iload b dX4_actOf_70 rfl ?_
            refine y_icmp_eq (tgt := 103) (xl := r6.toInt) (yl := r4.toInt) b rfl rfl dX4_actOf_72 (by decide) (fun c1 => ?_) (fun c1 => ?_)
            · replace h := h.1 c1
              refine z_lv0 (lv' := [(4, .ref q3)]) [2] rfl ?_
              exact z_X4_actOf_B103 hrw b _ _ h
            · replace h := h.2 c1
              refine z_goto (tgt := 84) b dX4_actOf_75 (by decide) ?_
              refine z_lv0 (lv' := [(1, .int p0), (4, .ref q3)]) [5, 2] rfl ?_
              exact z_X4_actOf_B84 hrw b _ _ _ h
  · replace h := h.2 c1
    refine z_null b dX4_actOf_16 ?_
    exact z_aret (v := none) (u := S) b rfl (Or.inl ⟨_, rfl⟩) dX4_actOf_17 h rfl (by decide) (by decide)

