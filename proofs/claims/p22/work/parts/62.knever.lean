abbrev FX (S S' : KS) : Prop := Fr [0, 15, 16, 17, 18, 19, 20, 21, 32] [] [13, 14, 15] [1] S.1 S'.1
/-- the class between two calls -/
def KI (cy : Nat → ClassId) (tE : Nat) (S : KS) : Prop := WD S ∧ FLG S ∧ (0 ≤ (fi S.1 0).toInt ∧ (fi S.1 0).toInt ≤ 700) ∧ SQ S ∧ ∃ (A : Nat → Prop) (i0 i1 i2 : Nat) (o0 o1 o2 : Option Nat) (n0 n1 n2 : Int32) (f0 f1 f2 : Nat → Option Nat), HX cy tE S A i0 i1 i2 o0 o1 o2 n0 n1 n2 f0 f1 f2
theorem FX_b {S U : KS} (f : FX S U) (hW : WD S) (hs : SQ S) : WD U ∧ SQ U := by
  have e0 : al U.1 0 = al S.1 0 := f.2.2.2 0 (by decide)
  have e33 : fi U.1 33 = fi S.1 33 := f.1 33 (by decide)
  have e31 : fi U.1 31 = fi S.1 31 := f.1 31 (by decide)
  have e26 : fi U.1 26 = fi S.1 26 := f.1 26 (by decide)
  refine ⟨?_, ?_⟩
  · unfold WD; rw [e0]; exact hW
  · unfold SQ; rw [e33, e31, e26]; exact hs
theorem KI_mk {cy : Nat → ClassId} {tE : Nat} {S U : KS} {A : Nat → Prop} {i0 i1 i2 : Nat} {o0 o1 o2 : Option Nat} {n0 n1 n2 : Int32} {f0 f1 f2 : Nat → Option Nat} (f : FX S U) (hW : WD S) (hs : SQ S) (hg : FLG U) (e0 : fi U.1 0 = 0) (hX : HX cy tE U A i0 i1 i2 o0 o1 o2 n0 n1 n2 f0 f1 f2) : KI cy tE U := by
  have hb := FX_b f hW hs
  exact ⟨hb.1, hg, by rw [e0]; decide, hb.2, A, i0, i1, i2, o0, o1, o2, n0, n1, n2, f0, f1, f2, hX⟩
theorem KI_kf {I J M : List Nat} {cy : Nat → ClassId} {tE : Nat} {S U : KS} (h : KI cy tE S) (f : KF I J M S U) (h0 : 0 ∉ M) (hs : SQ U) (ht : 0 ≤ (fi U.1 0).toInt ∧ (fi U.1 0).toInt ≤ 700) : KI cy tE U := by
  obtain ⟨hW, hg, -, -, A, i0, i1, i2, o0, o1, o2, n0, n1, n2, f0, f1, f2, hX⟩ := h
  exact ⟨WD_kf hW f h0, f.2.2.2.2 hg, ht, hs, A, i0, i1, i2, o0, o1, o2, n0, n1, n2, f0, f1, f2, HX_kf hX f⟩
theorem KI_HQ {cy : Nat → ClassId} {tE : Nat} {S : KS} (h : KI cy tE S) : HQ cy S := by
  obtain ⟨hW, hg, -, -, A, i0, i1, i2, o0, o1, o2, n0, n1, n2, f0, f1, f2, hX⟩ := h
  exact HX_HQ hX
theorem RD_b {b : Int} {S : KS} (h : RD b S) : pn S ≤ b := by
  obtain ⟨⟨⟨hT, -⟩, -⟩, ⟨x0, x1⟩, -⟩ := h
  have hp := hT.p (fi S.1 15).toNatClampNeg (by rw [tnc]; show ((fi S.1 15).toInt.toNat : Int) < (fi S.1 21).toInt; omega)
  have hw := wdt_ge (knd S (fi S.1 15).toNatClampNeg)
  have e : pn S = plc S (fi S.1 15).toNatClampNeg := rfl
  rw [e]; omega
theorem RD_g {b : Int} {S : KS} (h : RD b S) : FLG S := h.2.2.2
theorem KFr_FX {S U V : KS} (f : FX S U) (g : KFr U V) : FX S V := f.tr (g.1.wk (by decide))
theorem r_tape (cy : Nat → ClassId) (tE : Nat) (S : KS) (post : KS → Prop) (hI : KI cy tE S) (k : ∀ U A i0 i1 i2 o0 o1 o2 n1 n2 f0 f1 f2, FX S U → WD U → SQ U → FLG U → fi U.1 0 = 0 → RD (fi S.1 0).toInt U → (fi U.1 16).toInt = 0 → HX cy tE U A i0 i1 i2 o0 o1 o2 0 n1 n2 f0 f1 f2 → post U) : w_X11_takeTape cy tE S post := by
  obtain ⟨hW, hg, h0, hs, A, i0, i1, i2, o0, o1, o2, n0, n1, n2, f0, f1, f2, hX⟩ := hI
  refine r_11_takeTape cy tE S _ hW h0 hg.1 hg.2 i0 o0 n0 f0 hX.2.1.1 (fun T L' f' hT hl hn hk hR e0 e16 => ?_)
  have eL : T.2.2.2 = S.2.2.2 := by rw [hT.2.1]
  have eA : T.2.1 0 = S.2.1 0 := hT.2.2.1 0 (by decide)
  have hX1 : HX cy tE (ksL T L') A i0 i1 i2 o0 o1 o2 0 n1 n2 f' f1 f2 := HX_tape (HX_kf hX hT) (by rw [eA]; exact hl) (by rw [eL]; exact hn) (by rw [eL]; exact hk)
  have hF : FX S (ksL T L') := hT.1.wk (by decide)
  have hb := FX_b hF hW hs
  exact k (ksL T L') A i0 i1 i2 o0 o1 o2 n1 n2 f' f1 f2 hF hb.1 hb.2 (hT.2.2.2.2 hg) e0 hR (by show (fi T.1 16).toInt = 0; rw [e16]; decide) hX1
theorem cl_le {b : Int} {U V : KS} {d l : Int} (hR : RD b U) (e16 : (fi U.1 16).toInt = 0) (par : l = d → l % 2 = 1) (ld : l ≤ d) (hV : Mv b U V d l) : 0 ≤ (fi V.1 16).toInt ∧ (fi V.1 16).toInt < 700 ∧ (fi V.1 16).toInt ≤ b := by
  have c1 := RD_c hV.2.1
  have c0 := RD_c hR
  have c2 := RD_b hV.2.1
  have c3 := hV.2.2.1
  have c4 := hV.2.2.2
  have c5 := hV.2.1.2.2.1
  rw [e16] at c4
  omega
set_option maxHeartbeats 400000 in
theorem r_11_never (cy : Nat → ClassId) (tE : Nat) (mc ms : Nat) (S : KS) (post : Int32 → KS → Prop) (hI : KI cy tE S) (hm : 3 ≤ mc ∧ 13 + (fi S.1 0).toInt.toNat ≤ ms) (k : ∀ r U, KI cy tE U → FX S U → fi U.1 0 = 0 → post r U) : w_X11_never cy tE mc ms S post := by
  unfold w_X11_never w_X11_never_B29
  refine ⟨⟨by omega, by omega⟩, r_tape cy tE S _ hI (fun U A i0 i1 i2 o0 o1 o2 n1 n2 f0 f1 f2 hF hW hs hg e0 hR e16 hX => ?_)⟩
  have no : ∀ V, KFr U V → post (-1) V := fun V hV => k _ _ (KI_mk (KFr_FX (KF_rf U).1 hV) hW hs (hV.2.2.2.2 hg) ((hV.1.1 0 (by decide)).trans e0) (HX_kf hX hV)) (KFr_FX hF hV) ((hV.1.1 0 (by decide)).trans e0)
  obtain ⟨m, e, hi⟩ := LLs_e hX.2.1.2.1
  refine ⟨⟨by omega, by omega⟩, i1, _, hi, r_size cy tE U _ i1 m n1 (.ref e) _ hi ⟨fun _ => ⟨⟨by omega, by omega⟩, no U (KF_rf U)⟩, fun gn => ⟨⟨by omega, by omega⟩, ?_⟩⟩⟩
  refine r_5_readCondition cy tE U _ _ hR (fun V hV => ⟨fun g => absurd li_0 g, fun _ => ⟨⟨by omega, by omega⟩, no V hV⟩⟩) (fun V d l l1 ld par hV => ⟨fun _ => ?_, fun g => absurd g (by decide)⟩)
  have hc := cl_le hR e16 par ld hV
  have eV : (fi V.1 16).toNatClampNeg = (fi V.1 16).toInt.toNat := tnc _
  have hg2 := RD_g hV.2.1
  have hF2 : FX U V := KFr_FX (KF_rf U).1 hV.1
  have e02 : fi V.1 0 = 0 := (hV.1.1.1 0 (by decide)).trans e0
  have hX2 := HX_kf hX hV.1
  refine ⟨2, 3 + (fi V.1 16).toNatClampNeg, ⟨by omega, by omega⟩, r_5_clause cy tE _ _ V 5 0 _ hc.1 hc.2.1 ⟨by omega, by omega⟩ (fun q o g => ⟨q, rfl, 1, 10, ⟨by omega, by omega⟩, ?_⟩)⟩
  generalize eL : vn (vn V.2.2.2 (q, .inr (2, [.int 5, .int 0, .ref o]))) (o, .inl (cy 0, (fi V.1 16).toNatClampNeg, .inl g)) = L
  have ln : L.length = V.2.2.2.length + 2 := by rw [← eL, vn_ln, vn_ln]
  have lk : ∀ t, t < V.2.2.2.length → L[t]? = V.2.2.2[t]? := by
    intro t ht
    rw [← eL, vn_lt (by rw [vn_ln]; omega), vn_lt ht]
  have k0 : L[V.2.2.2.length]? = some (q, .inr (2, [.int 5, .int 0, .ref o])) := by
    rw [← eL, vn_lt (by rw [vn_ln]; omega)]; exact vn_at _ _
  have k1 : L[V.2.2.2.length + 1]? = some (o, .inl (cy 0, (fi V.1 16).toNatClampNeg, .inl g)) := by
    rw [← eL, ← vn_ln V.2.2.2 (q, .inr (2, [.int 5, .int 0, .ref o]))]; exact vn_at _ _
  have hX3 := HX_new hX2 (L' := L) (by omega) lk
  have hC : CLp cy (fun t => A t ∨ (V.2.2.2.length ≤ t ∧ t < L.length)) L q := ⟨V.2.2.2.length, 5, 0, o, Or.inr ⟨by omega, by omega⟩, k0, V.2.2.2.length + 1, _, g, Or.inr ⟨by omega, by omega⟩, k1, by omega⟩
  obtain ⟨m2, e2, hi2⟩ := LLs_e hX3.2.1.2.1
  have bn := LLs_b hX3.2.1.2.1
  refine ⟨i1, _, hi2, r_addL_X1 cy tE 1 10 (ksL V L) _ (V.2.1 1) q i1 V.2.2.2.length o1 n1 f1 _ hX3.2.1.2.1 (by omega) k0 ⟨by omega, by omega⟩ (fun L' o' f' hl hn hk ho hf hgg => ?_)⟩
  have hX4 := HX_add1 hX3 hl hn hk ho hf hgg hC (by omega)
  obtain ⟨m3, e3, hi3⟩ := LLs_e hX4.2.1.2.1
  refine ⟨⟨by omega, by omega⟩, i1, _, hi3, r_size cy tE (ksL (ksL V L) L') _ i1 m3 (n1 + 1) (.ref e3) _ hi3 ⟨⟨by omega, by omega⟩, ?_⟩⟩
  exact k _ _ (KI_mk hF2 hW hs hg2 e02 hX4) (hF.tr hF2) e02
theorem r_5_clauseL (cy : Nat → ClassId) (tE : Nat) (mc ms : Nat) (V : KS) (M : va_W) (x y : Int32) (post : Option Nat → KS → Prop) (h0 : 0 ≤ (fi V.1 16).toInt) (h7 : (fi V.1 16).toInt < 700) (hm : 2 ≤ mc ∧ 3 + (fi V.1 16).toNatClampNeg ≤ ms) (k : ∀ q o g, post (some q) (ksL V (vn (vn M (q, .inr (2, [.int x, .int y, .ref o]))) (o, .inl (cy 0, (fi V.1 16).toNatClampNeg, .inl g))))) : w_X5_clause cy tE mc ms (ksL V M) x y post := r_5_clause cy tE mc ms (ksL V M) x y post h0 h7 hm k
theorem r_3_initL (cy : Nat → ClassId) (tE : Nat) (V : KS) (M : va_W) (q : Nat) (x : Int32) (a : Nat) (post : KS → Prop) (i : Nat) (f : Int32) (v : Value) (h : M[i]? = some (q, .inr (4, [.int f, v]))) (k : post (ksL V (M.set i (q, .inr (4, [.int x, .ref a]))))) : w_X3_init cy tE (ksL V M) q x a post := r_3_init cy tE (ksL V M) q x a post i f v h k
set_option maxHeartbeats 400000 in
theorem r_11_cure (cy : Nat → ClassId) (tE : Nat) (mc ms : Nat) (S : KS) (p : Int32) (post : Int32 → KS → Prop) (hI : KI cy tE S) (hm : 4 ≤ mc ∧ 15 + (fi S.1 0).toInt.toNat ≤ ms) (k : ∀ r U, KI cy tE U → FX S U → fi U.1 0 = 0 → post r U) : w_X11_cure cy tE mc ms S p post := by
  unfold w_X11_cure w_X11_cure_B37
  refine ⟨⟨by omega, by omega⟩, r_tape cy tE S _ hI (fun U A i0 i1 i2 o0 o1 o2 n1 n2 f0 f1 f2 hF hW hs hg e0 hR e16 hX => ?_)⟩
  have no : ∀ V, KFr U V → post (-1) V := fun V hV => k _ _ (KI_mk (KFr_FX (KF_rf U).1 hV) hW hs (hV.2.2.2.2 hg) ((hV.1.1 0 (by decide)).trans e0) (HX_kf hX hV)) (KFr_FX hF hV) ((hV.1.1 0 (by decide)).trans e0)
  obtain ⟨m, e, hi⟩ := LLs_e hX.2.1.2.2
  refine ⟨⟨by omega, by omega⟩, i2, _, hi, r_size cy tE U _ i2 m n2 (.ref e) _ hi ⟨fun _ => ⟨⟨by omega, by omega⟩, no U (KF_rf U)⟩, fun gn => ⟨⟨by omega, by omega⟩, ?_⟩⟩⟩
  refine r_11_isWithin cy tE U _ _ _ (fun r _ _ => ⟨fun _ => ⟨⟨by omega, by omega⟩, no U (KF_rf U)⟩, fun _ => ⟨⟨by omega, by omega⟩, ?_⟩⟩)
  refine r_5_readCondition cy tE U _ _ hR (fun V hV => ⟨fun g => absurd li_0 g, fun _ => ⟨⟨by omega, by omega⟩, no V hV⟩⟩) (fun V d l l1 ld par hV => ⟨fun _ => ?_, fun g => absurd g (by decide)⟩)
  have hc := cl_le hR e16 par ld hV
  have eV : (fi V.1 16).toNatClampNeg = (fi V.1 16).toInt.toNat := tnc _
  have hg2 := RD_g hV.2.1
  have hF2 : FX U V := KFr_FX (KF_rf U).1 hV.1
  have e02 : fi V.1 0 = 0 := (hV.1.1.1 0 (by decide)).trans e0
  have hX2 := HX_kf hX hV.1
  refine ⟨⟨by omega, by omega⟩, fun x => ⟨2, 3 + (fi V.1 16).toNatClampNeg, ⟨by omega, by omega⟩, r_5_clauseL cy tE _ _ V (vn V.2.2.2 (x, .inr (4, [.int 0, .null]))) 5 0 _ hc.1 hc.2.1 ⟨by omega, Nat.le_refl _⟩ (fun q o g => ⟨q, rfl, ⟨by omega, by omega⟩, ?_⟩)⟩⟩
  generalize eM : vn (vn (vn V.2.2.2 (x, .inr (4, [.int 0, .null]))) (q, .inr (2, [.int 5, .int 0, .ref o]))) (o, .inl (cy 0, (fi V.1 16).toNatClampNeg, .inl g)) = M
  have mn : M.length = V.2.2.2.length + 3 := by rw [← eM, vn_ln, vn_ln, vn_ln]
  have mx : M[V.2.2.2.length]? = some (x, .inr (4, [.int 0, .null])) := by
    rw [← eM, vn_lt (by rw [vn_ln, vn_ln]; omega), vn_lt (by rw [vn_ln]; omega)]; exact vn_at _ _
  have mk : ∀ t, t < V.2.2.2.length → M[t]? = V.2.2.2[t]? := by
    intro t ht
    rw [← eM, vn_lt (by rw [vn_ln, vn_ln]; omega), vn_lt (by rw [vn_ln]; omega), vn_lt ht]
  have m0 : M[V.2.2.2.length + 1]? = some (q, .inr (2, [.int 5, .int 0, .ref o])) := by
    rw [← eM, vn_lt (by rw [vn_ln, vn_ln]; omega), ← vn_ln V.2.2.2 (x, .inr (4, [.int 0, .null]))]; exact vn_at _ _
  have m1 : M[V.2.2.2.length + 2]? = some (o, .inl (cy 0, (fi V.1 16).toNatClampNeg, .inl g)) := by
    have el : V.2.2.2.length + 2 = (vn (vn V.2.2.2 (x, .inr (4, [.int 0, .null]))) (q, .inr (2, [.int 5, .int 0, .ref o]))).length := by rw [vn_ln, vn_ln]
    rw [← eM, el]; exact vn_at _ _
  refine r_3_initL cy tE V M x p q _ V.2.2.2.length 0 .null mx ?_
  refine ⟨1, 10, ⟨by omega, by omega⟩, ?_⟩
  generalize eL : M.set V.2.2.2.length (x, .inr (4, [.int p, .ref q])) = L
  have ln : L.length = V.2.2.2.length + 3 := by rw [← eL, List.length_set]; exact mn
  have lk : ∀ t, t < V.2.2.2.length → L[t]? = V.2.2.2[t]? := by
    intro t ht
    rw [← eL, st_ne (by omega)]; exact mk t ht
  have kx : L[V.2.2.2.length]? = some (x, .inr (4, [.int p, .ref q])) := by rw [← eL]; exact st_at mx
  have k0 : L[V.2.2.2.length + 1]? = some (q, .inr (2, [.int 5, .int 0, .ref o])) := by rw [← eL, st_ne (by omega)]; exact m0
  have k1 : L[V.2.2.2.length + 2]? = some (o, .inl (cy 0, (fi V.1 16).toNatClampNeg, .inl g)) := by rw [← eL, st_ne (by omega)]; exact m1
  have hX3 := HX_new hX2 (L' := L) (by omega) lk
  have hC : CUp cy (fun t => A t ∨ (V.2.2.2.length ≤ t ∧ t < L.length)) L x := ⟨V.2.2.2.length, p, q, Or.inr ⟨by omega, by omega⟩, kx, V.2.2.2.length + 1, 5, 0, o, Or.inr ⟨by omega, by omega⟩, k0, V.2.2.2.length + 2, _, g, Or.inr ⟨by omega, by omega⟩, k1, by omega⟩
  obtain ⟨m2, e2, hi2⟩ := LLs_e hX3.2.1.2.2
  have bn := LLs_b hX3.2.1.2.2
  refine ⟨i2, _, hi2, r_addL_X3 cy tE 1 10 (ksL V L) _ (V.2.1 2) x i2 V.2.2.2.length o2 n2 f2 _ hX3.2.1.2.2 (by omega) kx ⟨by omega, by omega⟩ (fun L' o' f' hl hn hk ho hf hgg => ?_)⟩
  have hX4 := HX_add2 hX3 hl hn hk ho hf hgg hC (by omega)
  refine ⟨⟨by omega, by omega⟩, r_8_forget cy tE _ _ ?_⟩
  have hX5 := HX_kf (I := [32]) (J := []) (M := []) hX4 (KF_si (k := 32) (x := 0) (by decide) (KF_rf _))
  obtain ⟨m3, e3, hi3⟩ := LLs_e hX5.2.1.2.2
  refine ⟨⟨by omega, by omega⟩, i2, _, hi3, r_size cy tE (ksi (ksL (ksL V L) L') 32 0) _ i2 m3 (n2 + 1) (.ref e3) _ hi3 ⟨⟨by omega, by omega⟩, ?_⟩⟩
  have hF3 : FX U (ksi (ksL (ksL V L) L') 32 0) := Fr.si (by decide) hF2
  have e03 : fi (ksi (ksL (ksL V L) L') 32 0).1 0 = 0 := (si_ne (by decide)).trans e02
  exact k _ _ (KI_mk hF3 hW hs (FLG_si (k := 32) (x := 0) (S := ksL (ksL V L) L') hg2 (Or.inl (by decide))) e03 hX5) (hF.tr hF3) e03
