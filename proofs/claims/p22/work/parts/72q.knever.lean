set_option maxHeartbeats 800000 in
theorem r_7_copyOfE (cy : Nat → ClassId) (tE : Nat) (mc ms : Nat) (S : KS) (p : Int32) (post : Option Nat → KS → Prop) (h0 : 0 ≤ p.toInt) (h7 : p.toInt < 700) (hm : 1 ≤ mc ∧ p.toNatClampNeg ≤ ms) (k : ∀ q g, (∀ i : Nat, i < p.toNatClampNeg → g i = ar S.1 15 i) → post (some q) (ksL S (vn S.2.2.2 (q, .inl (cy 0, p.toNatClampNeg, .inl g))))) : w_J7_copyOf_59c91 cy tE mc ms S p post := by
  have hp : p < 700 := by rw [Int32.lt_iff_toInt_lt, li_700]; exact h7
  have hn : p.toNatClampNeg ≤ 700 := by rw [tnc]; omega
  refine ⟨fun _ => ⟨⟨h0, by omega⟩, ⟨by omega, by omega⟩, fun q => ⟨⟨by omega, by omega⟩, S.2.2.2.length, p.toNatClampNeg, _, vn_at _ _, ?_, ⟨by omega, by omega⟩, ?_⟩⟩, fun g => by omega⟩
  · rw [if_pos hp]
    exact ⟨h0, hn, Nat.le_refl _⟩
  · rw [vn_set, if_pos hp]
    exact k q _ (fun i hi => sb_cpy0 hi)
set_option maxHeartbeats 800000 in
theorem r_5_clauseE (cy : Nat → ClassId) (tE : Nat) (mc ms : Nat) (S : KS) (x y : Int32) (post : Option Nat → KS → Prop) (h0 : 0 ≤ (fi S.1 16).toInt) (h7 : (fi S.1 16).toInt < 700) (hm : 2 ≤ mc ∧ 3 + (fi S.1 16).toNatClampNeg ≤ ms) (k : ∀ q o g, (∀ i : Nat, i < (fi S.1 16).toNatClampNeg → g i = ar S.1 15 i) → post (some q) (ksL S (vn (vn S.2.2.2 (q, .inr (2, [.int x, .int y, .ref o]))) (o, .inl (cy 0, (fi S.1 16).toNatClampNeg, .inl g))))) : w_X5_clause cy tE mc ms S x y post := by
  refine ⟨⟨by omega, by omega⟩, fun q => ⟨1, (fi S.1 16).toNatClampNeg, ⟨by omega, by omega⟩, ?_⟩⟩
  refine r_7_copyOfE cy tE 1 _ (ksL S (vn S.2.2.2 (q, .inr (2, [.int 0, .int 0, .null])))) (fi S.1 16) _ h0 h7 ⟨by omega, Nat.le_refl _⟩ (fun o g hgg => ⟨o, rfl, ⟨by omega, by omega⟩, ?_⟩)
  have hi : (vn (vn S.2.2.2 (q, .inr (2, [.int 0, .int 0, .null]))) (o, .inl (cy 0, (fi S.1 16).toNatClampNeg, .inl g)))[S.2.2.2.length]? = some (q, .inr (2, [.int 0, .int 0, .null])) := by
    rw [vn_lt (by rw [vn_ln]; omega)]
    exact vn_at _ _
  refine r_1_init cy tE _ q x y o _ S.2.2.2.length 0 0 .null hi ⟨⟨by omega, by omega⟩, ?_⟩
  have e := vn_set2 S.2.2.2 (q, .inr (2, [.int 0, .int 0, .null])) (o, .inl (cy 0, (fi S.1 16).toNatClampNeg, .inl g)) (q, .inr (2, [.int x, .int y, .ref o]))
  have hk := k q o g hgg
  rw [← e] at hk
  exact hk
theorem r_5_clauseLE (cy : Nat → ClassId) (tE : Nat) (mc ms : Nat) (V : KS) (M : va_W) (x y : Int32) (post : Option Nat → KS → Prop) (h0 : 0 ≤ (fi V.1 16).toInt) (h7 : (fi V.1 16).toInt < 700) (hm : 2 ≤ mc ∧ 3 + (fi V.1 16).toNatClampNeg ≤ ms) (k : ∀ q o g, (∀ i : Nat, i < (fi V.1 16).toNatClampNeg → g i = ar V.1 15 i) → post (some q) (ksL V (vn (vn M (q, .inr (2, [.int x, .int y, .ref o]))) (o, .inl (cy 0, (fi V.1 16).toNatClampNeg, .inl g))))) : w_X5_clause cy tE mc ms (ksL V M) x y post := r_5_clauseE cy tE mc ms (ksL V M) x y post h0 h7 hm k
/-- a clause made of what was read -/
theorem CL_g {U V : KS} {l : OL} {g : Nat → Int32} (e0 : (fi U.1 16).toInt = 0) (hO : OA U V l) (hg : ∀ i : Nat, i < (fi V.1 16).toNatClampNeg → g i = ar V.1 15 i) : (fi V.1 16).toNatClampNeg = l.length ∧ ∀ (t : Nat) (x : Int32 × Int32), l[t]? = some x → g t = opE x := by
  obtain ⟨h1, -, h3, -⟩ := hO
  have el : (fi V.1 16).toNatClampNeg = l.length := by rw [tnc]; omega
  refine ⟨el, fun t x hx => ?_⟩
  have ht := gt_lt hx
  rw [hg t (by omega)]
  have := h3 t x hx
  rw [e0] at this
  have e2 : (0 : Int).toNat + t = t := by omega
  rw [e2] at this
  exact this
set_option maxHeartbeats 800000 in
theorem r_11_neverE (cy : Nat → ClassId) (tE : Nat) (mc ms : Nat) (S : KS) (post : Int32 → KS → Prop) (nv : List OL) (cu : List CuT) (ac : Nat → Option AcT) (hI : KI cy tE S) (hx : KIx cy tE S nv cu ac) (hw : al S.1 0 = (sm 85).2) (hb : ∀ i, i < (fi S.1 0).toInt.toNat → 0 ≤ (ar S.1 0 i).toInt ∧ (ar S.1 0 i).toInt ≤ 255) (hm : 3 ≤ mc ∧ 13 + (fi S.1 0).toInt.toNat ≤ ms) (k : ∀ U Y Z, KI cy tE U → FX S U → fi U.1 0 = 0 → STm Z Y → Y.2.1 = ar S.1 0 → Y.2.2.1 = (fi S.1 0).toInt.toNat → 0 < Y.2.2.2 → KIx cy tE U (nvO Z nv).2.1 cu ac → (fi U.1 19).toInt = (nvO Z nv).2.2.1 → fi U.1 20 = (nvO Z nv).2.2.2 → fi U.1 32 = fi S.1 32 → post (nvO Z nv).1 U) : w_X11_never cy tE mc ms S post := by
  unfold w_X11_never w_X11_never_B29
  refine ⟨⟨by omega, by omega⟩, r_tapeF cy tE S _ nv cu ac hI hx hw hb (fun U A i0 i1 i2 o0 o1 o2 n1 n2 f0 f1 f2 Y hF hW hs hg e0 hR e16 hX hV0 hz y1 y2 y3 y4 u19 u20 u32 => ?_)⟩
  have n16 := hV0.1.1
  have out : ∀ (V : KS) (o : Int32 × List OL × Int × Int32), nvO (tkZ U) nv = o → FX U V → KI cy tE V → KIx cy tE V o.2.1 cu ac → fi V.1 0 = 0 → (fi V.1 19).toInt = o.2.2.1 → fi V.1 20 = o.2.2.2 → fi V.1 32 = fi U.1 32 → post o.1 V := by
    intro V o ho h1 h2 h3 h4 h5 h6 h7
    subst ho
    exact k V Y (tkZ U) h2 (hF.tr h1) h4 y1 y2 y3 y4 h3 h5 h6 (h7.trans u32)
  obtain ⟨m, e, hi⟩ := LLs_e hX.2.1.2.1
  refine ⟨⟨by omega, by omega⟩, i1, _, hi, r_size cy tE U _ i1 m n1 (.ref e) _ hi ⟨fun _ => ⟨⟨by omega, by omega⟩, out U _ (nvO_f (by omega)) (KF_rf (I := [0, 15, 16, 17, 18, 19, 20, 21, 32]) (A := [13, 14, 15]) (M := [1]) U).1 (KI_mk (KF_rf (I := [0, 15, 16, 17, 18, 19, 20, 21, 32]) (A := [13, 14, 15]) (M := [1]) U).1 hW hs hg e0 hX) ⟨A, i0, i1, i2, o0, o1, o2, 0, n1, n2, f0, f1, f2, hX, hV0⟩ e0 (by rw [u19]; exact li_0) u20 rfl⟩, fun gn => ⟨⟨by omega, by omega⟩, ?_⟩⟩⟩
  refine r_5_condE cy tE U _ _ (tkZ U) 0 hR hz (fun V hV hB => ⟨fun g => absurd li_0 g, fun _ => ⟨⟨by omega, by omega⟩, ?_⟩⟩) (fun V d l l1 ld par hV hG => ⟨fun _ => ?_, fun g => absurd g (by decide)⟩)
  · have e0V : fi V.1 0 = 0 := (hV.1.1 0 (by decide)).trans e0
    have hXV := HX_kf hX hV
    have hFV := KFr_FX (KF_rf U).1 hV
    exact out V _ (nvO_b (by omega) hB.1) hFV (KI_mk hFV hW hs (hV.2.2.2.2 hg) e0V hXV) ⟨A, i0, i1, i2, o0, o1, o2, 0, n1, n2, f0, f1, f2, hXV, HV_kf hV0 hV⟩ e0V hB.2.1 hB.2.2 (hV.1.1 32 (by decide))
  have hc := cl_le hR e16 par ld hV
  have eV : (fi V.1 16).toNatClampNeg = (fi V.1 16).toInt.toNat := tnc _
  have hg2 := RD_g hV.2.1
  have hF2 : FX U V := KFr_FX (KF_rf U).1 hV.1
  have e02 : fi V.1 0 = 0 := (hV.1.1.1 0 (by decide)).trans e0
  have hX2 := HX_kf hX hV.1
  refine ⟨2, 3 + (fi V.1 16).toNatClampNeg, ⟨by omega, by omega⟩, r_5_clauseE cy tE _ _ V 5 0 _ hc.1 hc.2.1 ⟨by omega, by omega⟩ (fun q o g hgg => ⟨q, rfl, 1, 10, ⟨by omega, by omega⟩, ?_⟩)⟩
  obtain ⟨gn2, gg2⟩ := CL_g e16 hG.2.2.1 hgg
  generalize eL : vn (vn V.2.2.2 (q, .inr (2, [.int 5, .int 0, .ref o]))) (o, .inl (cy 0, (fi V.1 16).toNatClampNeg, .inl g)) = L
  have ln : L.length = V.2.2.2.length + 2 := by rw [← eL, vn_ln, vn_ln]
  have lk : ∀ t, t < V.2.2.2.length → L[t]? = V.2.2.2[t]? := by
    intro t ht
    rw [← eL, vn_lt (by rw [vn_ln]; omega), vn_lt ht]
  have k0 : L[V.2.2.2.length]? = some (q, .inr (2, [.int 5, .int 0, .ref o])) := by
    rw [← eL, vn_lt (by rw [vn_ln]; omega)]; exact vn_at _ _
  have k1 : L[V.2.2.2.length + 1]? = some (o, .inl (cy 0, (fi V.1 16).toNatClampNeg, .inl g)) := by
    rw [← eL, ← vn_ln V.2.2.2 (q, .inr (2, [.int 5, .int 0, .ref o]))]; exact vn_at _ _
  have hX3 := HX_new hX2 (L' := L) (by omega) lk
  have hCx : CLx cy (fun t => A t ∨ (V.2.2.2.length ≤ t ∧ t < L.length)) L q (5, 0, (ypCond (tkZ U) 0).2.2.1) := ⟨V.2.2.2.length, o, Or.inr ⟨by omega, by omega⟩, k0, V.2.2.2.length + 1, g, Or.inr ⟨by omega, by omega⟩, by rw [← gn2]; exact k1, by show (ypCond (tkZ U) 0).2.2.1.length ≤ 700; omega, gg2⟩
  have hC := CLx_p hCx
  have hV3 : HV cy (ksL V L) (fun t => A t ∨ (V.2.2.2.length ≤ t ∧ t < L.length)) n1 n2 f1 f2 nv cu ac := HV_mo (S := V) (fun t ht => ⟨Or.inl ht, lk t (hX2.2.2.2.2.2.2.2.1 t ht).1⟩) rfl (HV_kf hV0 hV.1)
  obtain ⟨m2, e2, hi2⟩ := LLs_e hX3.2.1.2.1
  have bn := LLs_b hX3.2.1.2.1
  refine ⟨i1, _, hi2, r_addL_X1 cy tE 1 10 (ksL V L) _ (V.2.1 1) q i1 V.2.2.2.length o1 n1 f1 _ hX3.2.1.2.1 (by omega) k0 ⟨by omega, by omega⟩ (fun L' o' f' hl hn hk ho hf hg3 => ?_)⟩
  have hX4 := HX_add1 hX3 hl hn hk ho hf hg3 hC (by omega)
  have kk := HX_k1 hX3 hk
  have hV4 : HV cy (ksL (ksL V L) L') (fun t => A t ∨ (V.2.2.2.length ≤ t ∧ t < L.length)) (n1 + 1) n2 f' f2 (nv ++ [(ypCond (tkZ U) 0).2.2.1]) cu ac := HV_1 (HV_mo (S := ksL V L) kk rfl hV3) (by omega) hf hg3 (CLx_mo kk hCx)
  obtain ⟨m3, e3, hi3⟩ := LLs_e hX4.2.1.2.1
  refine ⟨⟨by omega, by omega⟩, i1, _, hi3, r_size cy tE (ksL (ksL V L) L') _ i1 m3 (n1 + 1) (.ref e3) _ hi3 ⟨⟨by omega, by omega⟩, ?_⟩⟩
  have e1 := inc1 (x := n1) (by omega)
  have er : n1 + 1 - 1 = nI nv.length := i_eq (by rw [sub1 (by omega), e1, nI_toInt (by omega)]; omega)
  rw [er]
  exact out (ksL (ksL V L) L') _ (nvO_g (by omega) hG.1) hF2 (KI_mk hF2 hW hs hg2 e02 hX4) ⟨_, i0, i1, i2, o0, o', o2, 0, n1 + 1, n2, f0, f', f2, hX4, hV4⟩ e02 (by show (fi V.1 19).toInt = 0; rw [hG.2.2.1.2.2.2.1, u19]; decide) (by show fi V.1 20 = -1; rw [hG.2.2.1.2.2.2.2, u20]) (hV.1.1.1 32 (by decide))
theorem CUx_p {cy : Nat → ClassId} {A : Nat → Prop} {L : va_W} {q : Nat} {w : CuT} (h : CUx cy A L q w) : CUp cy A L q := by
  obtain ⟨i, c, ai, hi, hc⟩ := h
  exact ⟨i, w.1, c, ai, hi, CLx_p hc⟩
set_option maxHeartbeats 800000 in
theorem r_11_cureE (cy : Nat → ClassId) (tE : Nat) (mc ms : Nat) (S : KS) (p : Int32) (post : Int32 → KS → Prop) (nv : List OL) (cu : List CuT) (ac : Nat → Option AcT) (hI : KI cy tE S) (hx : KIx cy tE S nv cu ac) (hw : al S.1 0 = (sm 85).2) (hb : ∀ i, i < (fi S.1 0).toInt.toNat → 0 ≤ (ar S.1 0 i).toInt ∧ (ar S.1 0 i).toInt ≤ 255) (hm : 4 ≤ mc ∧ 15 + (fi S.1 0).toInt.toNat ≤ ms) (k : ∀ U Y Z, KI cy tE U → FX S U → fi U.1 0 = 0 → STm Z Y → Y.2.1 = ar S.1 0 → Y.2.2.1 = (fi S.1 0).toInt.toNat → 0 < Y.2.2.2 → KIx cy tE U nv (cuO Z p cu).2.1 ac → (fi U.1 19).toInt = (cuO Z p cu).2.2.1 → fi U.1 20 = (cuO Z p cu).2.2.2 → ((fi U.1 32).toInt = 0 ∨ (fi U.1 32 = fi S.1 32 ∧ (cuO Z p cu).2.1 = cu)) → post (cuO Z p cu).1 U) : w_X11_cure cy tE mc ms S p post := by
  unfold w_X11_cure w_X11_cure_B37
  refine ⟨⟨by omega, by omega⟩, r_tapeF cy tE S _ nv cu ac hI hx hw hb (fun U A i0 i1 i2 o0 o1 o2 n1 n2 f0 f1 f2 Y hF hW hs hg e0 hR e16 hX hV0 hz y1 y2 y3 y4 u19 u20 u32 => ?_)⟩
  have n17 := hV0.2.1.1
  have out : ∀ (V : KS) (o : Int32 × List CuT × Int × Int32), cuO (tkZ U) p cu = o → FX U V → KI cy tE V → KIx cy tE V nv o.2.1 ac → fi V.1 0 = 0 → (fi V.1 19).toInt = o.2.2.1 → fi V.1 20 = o.2.2.2 → ((fi V.1 32).toInt = 0 ∨ (fi V.1 32 = fi U.1 32 ∧ o.2.1 = cu)) → post o.1 V := by
    intro V o ho h1 h2 h3 h4 h5 h6 h7
    subst ho
    exact k V Y (tkZ U) h2 (hF.tr h1) h4 y1 y2 y3 y4 h3 h5 h6 (h7.imp id (fun q => ⟨q.1.trans u32, q.2⟩))
  have full : (5 ≤ cu.length ∨ ¬ (0 ≤ p.toInt ∧ p.toInt ≤ 11)) → post (-1) U := fun hh => out U _ (cuO_f hh) (KF_rf (I := [0, 15, 16, 17, 18, 19, 20, 21, 32]) (A := [13, 14, 15]) (M := [1]) U).1 (KI_mk (KF_rf (I := [0, 15, 16, 17, 18, 19, 20, 21, 32]) (A := [13, 14, 15]) (M := [1]) U).1 hW hs hg e0 hX) ⟨A, i0, i1, i2, o0, o1, o2, 0, n1, n2, f0, f1, f2, hX, hV0⟩ e0 (by rw [u19]; exact li_0) u20 (Or.inr ⟨rfl, rfl⟩)
  obtain ⟨m, e, hi⟩ := LLs_e hX.2.1.2.2
  refine ⟨⟨by omega, by omega⟩, i2, _, hi, r_size cy tE U _ i2 m n2 (.ref e) _ hi ⟨fun gq => ⟨⟨by omega, by omega⟩, full (Or.inl (by omega))⟩, fun gn => ⟨⟨by omega, by omega⟩, ?_⟩⟩⟩
  have e11 : (11 : Int32).toInt = 11 := by decide
  refine r_11_isWithin cy tE U _ _ _ (fun r _ hrr => ⟨fun gr => ⟨⟨by omega, by omega⟩, full (Or.inr (by rw [e11] at hrr; omega))⟩, fun gr => ⟨⟨by omega, by omega⟩, ?_⟩⟩)
  have hnf : ¬ (5 ≤ cu.length ∨ ¬ (0 ≤ p.toInt ∧ p.toInt ≤ 11)) := by
    rw [e11] at hrr
    omega
  refine r_5_condE cy tE U _ _ (tkZ U) 0 hR hz (fun V hV hB => ⟨fun g => absurd li_0 g, fun _ => ⟨⟨by omega, by omega⟩, ?_⟩⟩) (fun V d l l1 ld par hV hG => ⟨fun _ => ?_, fun g => absurd g (by decide)⟩)
  · have e0V : fi V.1 0 = 0 := (hV.1.1 0 (by decide)).trans e0
    have hXV := HX_kf hX hV
    have hFV := KFr_FX (KF_rf U).1 hV
    exact out V _ (cuO_b hnf hB.1) hFV (KI_mk hFV hW hs (hV.2.2.2.2 hg) e0V hXV) ⟨A, i0, i1, i2, o0, o1, o2, 0, n1, n2, f0, f1, f2, hXV, HV_kf hV0 hV⟩ e0V hB.2.1 hB.2.2 (Or.inr ⟨hV.1.1 32 (by decide), rfl⟩)
  have hc := cl_le hR e16 par ld hV
  have eV : (fi V.1 16).toNatClampNeg = (fi V.1 16).toInt.toNat := tnc _
  have hg2 := RD_g hV.2.1
  have hF2 : FX U V := KFr_FX (KF_rf U).1 hV.1
  have e02 : fi V.1 0 = 0 := (hV.1.1.1 0 (by decide)).trans e0
  have hX2 := HX_kf hX hV.1
  refine ⟨⟨by omega, by omega⟩, fun x => ⟨2, 3 + (fi V.1 16).toNatClampNeg, ⟨by omega, by omega⟩, r_5_clauseLE cy tE _ _ V (vn V.2.2.2 (x, .inr (4, [.int 0, .null]))) 5 0 _ hc.1 hc.2.1 ⟨by omega, Nat.le_refl _⟩ (fun q o g hgg => ⟨q, rfl, ⟨by omega, by omega⟩, ?_⟩)⟩⟩
  obtain ⟨gn2, gg2⟩ := CL_g e16 hG.2.2.1 hgg
  generalize eM : vn (vn (vn V.2.2.2 (x, .inr (4, [.int 0, .null]))) (q, .inr (2, [.int 5, .int 0, .ref o]))) (o, .inl (cy 0, (fi V.1 16).toNatClampNeg, .inl g)) = M
  have mn : M.length = V.2.2.2.length + 3 := by rw [← eM, vn_ln, vn_ln, vn_ln]
  have mx : M[V.2.2.2.length]? = some (x, .inr (4, [.int 0, .null])) := by
    rw [← eM, vn_lt (by rw [vn_ln, vn_ln]; omega), vn_lt (by rw [vn_ln]; omega)]; exact vn_at _ _
  have mk : ∀ t, t < V.2.2.2.length → M[t]? = V.2.2.2[t]? := by
    intro t ht
    rw [← eM, vn_lt (by rw [vn_ln, vn_ln]; omega), vn_lt (by rw [vn_ln]; omega), vn_lt ht]
  have m0 : M[V.2.2.2.length + 1]? = some (q, .inr (2, [.int 5, .int 0, .ref o])) := by
    rw [← eM, vn_lt (by rw [vn_ln, vn_ln]; omega), ← vn_ln V.2.2.2 (x, .inr (4, [.int 0, .null]))]; exact vn_at _ _
  have m1 : M[V.2.2.2.length + 2]? = some (o, .inl (cy 0, (fi V.1 16).toNatClampNeg, .inl g)) := by
    have el : V.2.2.2.length + 2 = (vn (vn V.2.2.2 (x, .inr (4, [.int 0, .null]))) (q, .inr (2, [.int 5, .int 0, .ref o]))).length := by rw [vn_ln, vn_ln]
    rw [← eM, el]; exact vn_at _ _
  refine r_3_initL cy tE V M x p q _ V.2.2.2.length 0 .null mx ?_
  refine ⟨1, 10, ⟨by omega, by omega⟩, ?_⟩
  generalize eL : M.set V.2.2.2.length (x, .inr (4, [.int p, .ref q])) = L
  have ln : L.length = V.2.2.2.length + 3 := by rw [← eL, List.length_set]; exact mn
  have lk : ∀ t, t < V.2.2.2.length → L[t]? = V.2.2.2[t]? := by
    intro t ht
    rw [← eL, st_ne (by omega)]; exact mk t ht
  have kx : L[V.2.2.2.length]? = some (x, .inr (4, [.int p, .ref q])) := by rw [← eL]; exact st_at mx
  have k0 : L[V.2.2.2.length + 1]? = some (q, .inr (2, [.int 5, .int 0, .ref o])) := by rw [← eL, st_ne (by omega)]; exact m0
  have k1 : L[V.2.2.2.length + 2]? = some (o, .inl (cy 0, (fi V.1 16).toNatClampNeg, .inl g)) := by rw [← eL, st_ne (by omega)]; exact m1
  have hX3 := HX_new hX2 (L' := L) (by omega) lk
  have hCx : CUx cy (fun t => A t ∨ (V.2.2.2.length ≤ t ∧ t < L.length)) L x (p, (ypCond (tkZ U) 0).2.2.1) := ⟨V.2.2.2.length, q, Or.inr ⟨by omega, by omega⟩, kx, V.2.2.2.length + 1, o, Or.inr ⟨by omega, by omega⟩, k0, V.2.2.2.length + 2, g, Or.inr ⟨by omega, by omega⟩, by rw [← gn2]; exact k1, by show (ypCond (tkZ U) 0).2.2.1.length ≤ 700; omega, gg2⟩
  have hC : CUp cy (fun t => A t ∨ (V.2.2.2.length ≤ t ∧ t < L.length)) L x := CUx_p hCx
  have hV3 : HV cy (ksL V L) (fun t => A t ∨ (V.2.2.2.length ≤ t ∧ t < L.length)) n1 n2 f1 f2 nv cu ac := HV_mo (S := V) (fun t ht => ⟨Or.inl ht, lk t (hX2.2.2.2.2.2.2.2.1 t ht).1⟩) rfl (HV_kf hV0 hV.1)
  obtain ⟨m2, e2, hi2⟩ := LLs_e hX3.2.1.2.2
  have bn := LLs_b hX3.2.1.2.2
  refine ⟨i2, _, hi2, r_addL_X3 cy tE 1 10 (ksL V L) _ (V.2.1 2) x i2 V.2.2.2.length o2 n2 f2 _ hX3.2.1.2.2 (by omega) kx ⟨by omega, by omega⟩ (fun L' o' f' hl hn hk ho hf hg3 => ?_)⟩
  have hX4 := HX_add2 hX3 hl hn hk ho hf hg3 hC (by omega)
  have kk := HX_k2 hX3 hk
  have hV4 : HV cy (ksL (ksL V L) L') (fun t => A t ∨ (V.2.2.2.length ≤ t ∧ t < L.length)) n1 (n2 + 1) f1 f' nv (cu ++ [(p, (ypCond (tkZ U) 0).2.2.1)]) ac := HV_2 (HV_mo (S := ksL V L) kk rfl hV3) (by omega) hf hg3 (CUx_mo kk hCx)
  refine ⟨⟨by omega, by omega⟩, r_8_forget cy tE _ _ ?_⟩
  have hX5 := HX_kf (I := [32]) (J := []) (M := []) hX4 (KF_si (k := 32) (x := 0) (by decide) (KF_rf _))
  obtain ⟨m3, e3, hi3⟩ := LLs_e hX5.2.1.2.2
  refine ⟨⟨by omega, by omega⟩, i2, _, hi3, r_size cy tE (ksi (ksL (ksL V L) L') 32 0) _ i2 m3 (n2 + 1) (.ref e3) _ hi3 ⟨⟨by omega, by omega⟩, ?_⟩⟩
  have hF3 : FX U (ksi (ksL (ksL V L) L') 32 0) := Fr.si (by decide) hF2
  have e03 : fi (ksi (ksL (ksL V L) L') 32 0).1 0 = 0 := (si_ne (by decide)).trans e02
  have e1 := inc1 (x := n2) (by omega)
  have er : n2 + 1 - 1 = nI cu.length := i_eq (by rw [sub1 (by omega), e1, nI_toInt (by omega)]; omega)
  rw [er]
  have hV5 := HV_kf (I := [32]) (J := []) (M := []) hV4 (KF_si (k := 32) (x := 0) (by decide) (KF_rf _))
  have e19 : fi (ksi (ksL (ksL V L) L') 32 0).1 19 = fi V.1 19 := si_ne (by decide)
  have e20 : fi (ksi (ksL (ksL V L) L') 32 0).1 20 = fi V.1 20 := si_ne (by decide)
  exact out (ksi (ksL (ksL V L) L') 32 0) _ (cuO_g hnf hG.1) hF3 (KI_mk hF3 hW hs (FLG_si (k := 32) (x := 0) (S := ksL (ksL V L) L') hg2 (Or.inl (by decide))) e03 hX5) ⟨_, i0, i1, i2, o0, o1, o', 0, n1, n2 + 1, f0, f1, f', hX5, hV5⟩ e03 (by rw [e19, hG.2.2.1.2.2.2.1, u19]; exact li_0) (by rw [e20, hG.2.2.1.2.2.2.2, u20]) (Or.inl z32)
