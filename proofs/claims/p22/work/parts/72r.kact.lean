theorem vn2_lt {L : va_W} {c d : Nat × va_E} {t : Nat} (h : t < L.length) : (vn (vn L c) d)[t]? = L[t]? := by
  rw [vn_lt (by rw [vn_ln]; omega), vn_lt h]
theorem vn2_0 (L : va_W) (c d : Nat × va_E) : (vn (vn L c) d)[L.length]? = some c := by
  rw [vn_lt (by rw [vn_ln]; omega)]; exact vn_at _ _
theorem vn2_1 (L : va_W) (c d : Nat × va_E) : (vn (vn L c) d)[L.length + 1]? = some d := by
  rw [← vn_ln L c]; exact vn_at _ _
/-- what the open Act's lists hold -/
def YV (cy : Nat → ClassId) (A : Nat → Prop) (L : va_W) (np nq : Int32) (fp fq : Nat → Option Nat) (nd : List OL) (mk : List MkT) : Prop := (np.toInt = (nd.length : Int) ∧ ∀ (t : Nat) (l : OL), nd[t]? = some l → ∃ x, fp t = some x ∧ CLx cy A L x (5, 0, l)) ∧ nq.toInt = (mk.length : Int) ∧ ∀ (t : Nat) (w : MkT), mk[t]? = some w → ∃ x, fq t = some x ∧ CLx cy A L x w
theorem YV_mo {cy : Nat → ClassId} {A B : Nat → Prop} {L L' : va_W} {np nq : Int32} {fp fq : Nat → Option Nat} {nd : List OL} {mk : List MkT} (hA : ∀ t, A t → B t ∧ L'[t]? = L[t]?) (h : YV cy A L np nq fp fq nd mk) : YV cy B L' np nq fp fq nd mk := by
  obtain ⟨⟨h1, h2⟩, h3, h4⟩ := h
  refine ⟨⟨h1, fun t l hl => ?_⟩, h3, fun t w hw => ?_⟩
  · obtain ⟨x, hx, hc⟩ := h2 t l hl
    exact ⟨x, hx, CLx_mo hA hc⟩
  · obtain ⟨x, hx, hc⟩ := h4 t w hw
    exact ⟨x, hx, CLx_mo hA hc⟩
theorem YV_n {cy : Nat → ClassId} {A : Nat → Prop} {L : va_W} {np nq : Int32} {fp fq f' : Nat → Option Nat} {nd : List OL} {mk : List MkT} {x : Nat} {l : OL} (h : YV cy A L np nq fp fq nd mk) (hb : np.toInt < 100) (hf : f' np.toNatClampNeg = some x) (hg : ∀ t : Nat, (t : Int) < np.toInt → f' t = fp t) (hx : CLx cy A L x (5, 0, l)) : YV cy A L (np + 1) nq f' fq (nd ++ [l]) mk := by
  obtain ⟨⟨h1, h2⟩, h3⟩ := h
  refine ⟨⟨by rw [inc1 (by omega), List.length_append]; simp only [List.length_cons, List.length_nil]; omega, fun t y hy => ?_⟩, h3⟩
  rcases gt_app hy with ⟨g1, g2⟩ | ⟨g1, g2⟩
  · obtain ⟨w, hw, hc⟩ := h2 t y g2
    exact ⟨w, (hg t (by omega)).trans hw, hc⟩
  · have et : t = np.toNatClampNeg := by rw [tnc]; omega
    rw [et, g2]
    exact ⟨x, hf, hx⟩
theorem YV_m {cy : Nat → ClassId} {A : Nat → Prop} {L : va_W} {np nq : Int32} {fp fq f' : Nat → Option Nat} {nd : List OL} {mk : List MkT} {x : Nat} {w : MkT} (h : YV cy A L np nq fp fq nd mk) (hb : nq.toInt < 100) (hf : f' nq.toNatClampNeg = some x) (hg : ∀ t : Nat, (t : Int) < nq.toInt → f' t = fq t) (hx : CLx cy A L x w) : YV cy A L np (nq + 1) fp f' nd (mk ++ [w]) := by
  obtain ⟨h1, h3, h4⟩ := h
  refine ⟨h1, by rw [inc1 (by omega), List.length_append]; simp only [List.length_cons, List.length_nil]; omega, fun t y hy => ?_⟩
  rcases gt_app hy with ⟨g1, g2⟩ | ⟨g1, g2⟩
  · obtain ⟨y2, hy2, hc⟩ := h4 t y g2
    exact ⟨y2, (hg t (by omega)).trans hy2, hc⟩
  · have et : t = nq.toNatClampNeg := by rw [tnc]; omega
    rw [et, g2]
    exact ⟨x, hf, hx⟩
theorem YX_clauseE {cy : Nat → ClassId} {tE : Nat} {S : KS} {A : Nat → Prop} {i0 i1 i2 : Nat} {o0 o1 o2 : Option Nat} {n0 n1 n2 : Int32} {f0 f1 f2 : Nat → Option Nat} {ac ia ip iq : Nat} {op oq : Option Nat} {np nq : Int32} {fp fq : Nat → Option Nat} {z : Int64} {pa qa : Nat} {u v : Int32} {x o n : Nat} {k f : Int32} {g : Nat → Int32} (h : HX cy tE S A i0 i1 i2 o0 o1 o2 n0 n1 n2 f0 f1 f2) (y : YX cy tE S.2.2.2 A i0 i1 i2 o0 o1 o2 ac ia ip iq op oq np nq fp fq z pa qa u v) (hn : n ≤ 700) {L' : va_W} (eL : L' = vn (vn S.2.2.2 (x, .inr (2, [.int k, .int f, .ref o]))) (o, .inl (cy 0, n, .inl g))) : ∃ B : Nat → Prop, (∀ t, B t ↔ (A t ∨ t = S.2.2.2.length ∨ t = S.2.2.2.length + 1)) ∧ HX cy tE (ksL S L') B i0 i1 i2 o0 o1 o2 n0 n1 n2 f0 f1 f2 ∧ YX cy tE L' B i0 i1 i2 o0 o1 o2 ac ia ip iq op oq np nq fp fq z pa qa u v ∧ CLp cy B L' x := by
  have hlt := HX_lt h
  have ylt := YX_lt y
  have ln : L'.length = S.2.2.2.length + 2 := by rw [eL, vn_ln, vn_ln]
  have lk : ∀ t, t < S.2.2.2.length → L'[t]? = S.2.2.2[t]? := by
    intro t ht
    rw [eL, vn_lt (by rw [vn_ln]; omega), vn_lt ht]
  have k0 : L'[S.2.2.2.length]? = some (x, .inr (2, [.int k, .int f, .ref o])) := by
    rw [eL, vn_lt (by rw [vn_ln]; omega)]; exact vn_at _ _
  have k1 : L'[S.2.2.2.length + 1]? = some (o, .inl (cy 0, n, .inl g)) := by
    rw [eL, ← vn_ln S.2.2.2 (x, .inr (2, [.int k, .int f, .ref o]))]; exact vn_at _ _
  have hA := h.2.2.2.2.2.2.2.1
  refine ⟨fun t => A t ∨ t = S.2.2.2.length ∨ t = S.2.2.2.length + 1, fun t => Iff.rfl, HX_mo h ?_ (fun t ht => Or.inl ht) ?_, ?_, ?_⟩
  · rintro t (ht | ht)
    · exact lk t (hA t ht).1
    · exact lk t (hlt t ht)
  · rintro t (ht | ht | ht)
    · exact ⟨by rw [ln]; have := (hA t ht).1; omega, (hA t ht).2⟩
    · exact ⟨by omega, fun g => by have := hlt t g; omega⟩
    · exact ⟨by omega, fun g => by have := hlt t g; omega⟩
  · obtain ⟨ha, ⟨l0, l1⟩, hb, ⟨e0, e1⟩, d1, d2, d3, d4⟩ := y
    have kA : ∀ t, A t → (A t ∨ t = S.2.2.2.length ∨ t = S.2.2.2.length + 1) ∧ L'[t]? = S.2.2.2[t]? := fun t ht => ⟨Or.inl ht, lk t (hA t ht).1⟩
    refine ⟨(lk _ (wl_lt ha)).trans ha, ⟨LLs_mo l0 (lk _ (LLs_lt l0).1) (fun j hj => lk _ ((LLs_lt l0).2 j hj)), LLs_mo l1 (lk _ (LLs_lt l1).1) (fun j hj => lk _ ((LLs_lt l1).2 j hj))⟩, hb, ⟨?_, ?_⟩, d1, d2, d3, ?_⟩
    · intro t ht
      obtain ⟨w, hw, hc⟩ := e0 t ht
      exact ⟨w, hw, CLp_mo kA hc⟩
    · intro t ht
      obtain ⟨w, hw, hc⟩ := e1 t ht
      exact ⟨w, hw, CLp_mo kA hc⟩
    · intro t ht
      have h1 := ylt t ht
      refine ⟨?_, (d4 t ht).2⟩
      rintro (g | g | g)
      · exact (d4 t ht).1 g
      · omega
      · omega
  · exact ⟨S.2.2.2.length, k, f, o, Or.inr (Or.inl rfl), k0, S.2.2.2.length + 1, n, g, Or.inr (Or.inr rfl), k1, hn⟩
theorem YX_kp {cy : Nat → ClassId} {tE : Nat} {S : KS} {A : Nat → Prop} {i0 i1 i2 : Nat} {o0 o1 o2 : Option Nat} {n0 n1 n2 : Int32} {f0 f1 f2 : Nat → Option Nat} {ac ia ip iq : Nat} {op oq : Option Nat} {np nq : Int32} {fp fq : Nat → Option Nat} {z : Int64} {pa qa : Nat} {u v : Int32} {L' : va_W} (h : HX cy tE S A i0 i1 i2 o0 o1 o2 n0 n1 n2 f0 f1 f2) (y : YX cy tE S.2.2.2 A i0 i1 i2 o0 o1 o2 ac ia ip iq op oq np nq fp fq z pa qa u v) (hk : ∀ t : Nat, t < S.2.2.2.length → t ≠ ip → op ≠ some t → L'[t]? = S.2.2.2[t]?) : ∀ t, A t → A t ∧ L'[t]? = S.2.2.2[t]? := by
  have hA := h.2.2.2.2.2.2.2.1
  have d4 := y.2.2.2.2.2.2.2
  exact fun t ht => ⟨ht, hk t (hA t ht).1 (fun g => (d4 t (Or.inr (Or.inl g))).1 ht) (fun g => (d4 t (Or.inr (Or.inr (Or.inr (Or.inl g))))).1 ht)⟩
theorem YX_kq {cy : Nat → ClassId} {tE : Nat} {S : KS} {A : Nat → Prop} {i0 i1 i2 : Nat} {o0 o1 o2 : Option Nat} {n0 n1 n2 : Int32} {f0 f1 f2 : Nat → Option Nat} {ac ia ip iq : Nat} {op oq : Option Nat} {np nq : Int32} {fp fq : Nat → Option Nat} {z : Int64} {pa qa : Nat} {u v : Int32} {L' : va_W} (h : HX cy tE S A i0 i1 i2 o0 o1 o2 n0 n1 n2 f0 f1 f2) (y : YX cy tE S.2.2.2 A i0 i1 i2 o0 o1 o2 ac ia ip iq op oq np nq fp fq z pa qa u v) (hk : ∀ t : Nat, t < S.2.2.2.length → t ≠ iq → oq ≠ some t → L'[t]? = S.2.2.2[t]?) : ∀ t, A t → A t ∧ L'[t]? = S.2.2.2[t]? := by
  have hA := h.2.2.2.2.2.2.2.1
  have d4 := y.2.2.2.2.2.2.2
  exact fun t ht => ⟨ht, hk t (hA t ht).1 (fun g => (d4 t (Or.inr (Or.inr (Or.inl g)))).1 ht) (fun g => (d4 t (Or.inr (Or.inr (Or.inr (Or.inr g))))).1 ht)⟩
theorem YX_doneE {cy : Nat → ClassId} {tE : Nat} {S : KS} {A : Nat → Prop} {i0 i1 i2 : Nat} {o0 o1 o2 : Option Nat} {n0 n1 n2 : Int32} {f0 f1 f2 : Nat → Option Nat} {ac ia ip iq : Nat} {op oq : Option Nat} {np nq : Int32} {fp fq : Nat → Option Nat} {z : Int64} {pa qa : Nat} {u v : Int32} {L' : va_W} {u' v' : Int32} {nd : List OL} {mk : List MkT} (hYV : YV cy A S.2.2.2 np nq fp fq nd mk) (h : HX cy tE S A i0 i1 i2 o0 o1 o2 n0 n1 n2 f0 f1 f2) (y : YX cy tE S.2.2.2 A i0 i1 i2 o0 o1 o2 ac ia ip iq op oq np nq fp fq z pa qa u v) (eL : L' = S.2.2.2.set ia (acC ac z (.ref pa) (.ref qa) u' v')) : ∃ B : Nat → Prop, (∀ t, A t → B t ∧ L'[t]? = S.2.2.2[t]?) ∧ HX cy tE (ksL S L') B i0 i1 i2 o0 o1 o2 n0 n1 n2 f0 f1 f2 ∧ ACx cy B L' ac (z, u', v', nd, mk) := by
  have hlt := HX_lt h
  have ylt := YX_lt y
  have hA := h.2.2.2.2.2.2.2.1
  obtain ⟨ha, ⟨l0, l1⟩, hb, ⟨e0, e1⟩, d1, d2, d3, d4⟩ := y
  have ln : L'.length = S.2.2.2.length := by rw [eL, List.length_set]
  have lk : ∀ t, t ≠ ia → L'[t]? = S.2.2.2[t]? := fun t ht => by rw [eL, st_ne (fun g => ht g.symm)]
  have la : L'[ia]? = some (acC ac z (.ref pa) (.ref qa) u' v') := by rw [eL]; exact st_at ha
  have nA : ∀ t, A t → t ≠ ia := fun t ht g => (d4 t (Or.inl g)).1 ht
  have nI : ∀ t, IxC i0 i1 i2 o0 o1 o2 t → t ≠ ia := fun t ht g => (d4 t (Or.inl g)).2 ht
  have kA : ∀ t, A t → (A t ∨ IyC ia ip iq op oq t) ∧ L'[t]? = S.2.2.2[t]? := fun t ht => ⟨Or.inl ht, lk t (nA t ht)⟩
  refine ⟨fun t => A t ∨ IyC ia ip iq op oq t, kA, HX_mo h (fun t ht => ht.elim (fun g => lk t (nA t g)) (fun g => lk t (nI t g))) (fun t ht => Or.inl ht) ?_, ?_⟩
  · rintro t (ht | ht)
    · exact ⟨by rw [ln]; exact (hA t ht).1, (hA t ht).2⟩
    · exact ⟨by rw [ln]; exact ylt t ht, (d4 t ht).2⟩
  · have m0 : LLs cy tE L' pa ip op np fp := LLs_mo l0 (lk ip (fun g => d1.1 g.symm)) (fun j hj => lk j (d2 j hj).1)
    have m1 : LLs cy tE L' qa iq oq nq fq := LLs_mo l1 (lk iq (fun g => d1.2.1 g.symm)) (fun j hj => lk j (d3 j hj).1)
    refine ⟨ia, pa, qa, Or.inr (Or.inl rfl), la, ?_, ?_⟩
    · exact LLs_LSx m0 hYV.1.1 (Or.inr (Or.inr (Or.inl rfl))) (fun j hj => Or.inr (Or.inr (Or.inr (Or.inr (Or.inl hj))))) (fun t ht => by
        obtain ⟨w, hw, hc⟩ := hYV.1.2 t _ (List.getElem?_eq_getElem ht)
        exact ⟨w, hw, _, List.getElem?_eq_getElem ht, CLx_mo kA hc⟩)
    · exact LLs_LSx m1 hYV.2.1 (Or.inr (Or.inr (Or.inr (Or.inl rfl)))) (fun j hj => Or.inr (Or.inr (Or.inr (Or.inr (Or.inr hj))))) (fun t ht => by
        obtain ⟨w, hw, hc⟩ := hYV.2.2 t _ (List.getElem?_eq_getElem ht)
        exact ⟨w, hw, _, List.getElem?_eq_getElem ht, CLx_mo kA hc⟩)
set_option maxHeartbeats 1600000 in
theorem r_clME (cy : Nat → ClassId) (tE : Nat) (mc ms nc ns : Nat) (V : KS) (x y : Int32) (post : Nat → Nat → Int32 → KS → Prop) {A : Nat → Prop} {i0 i1 i2 : Nat} {o0 o1 o2 : Option Nat} {n0 n1 n2 : Int32} {f0 f1 f2 : Nat → Option Nat} {ac ia ip iq : Nat} {op oq : Option Nat} {np nq : Int32} {fp fq : Nat → Option Nat} {z : Int64} {pa qa : Nat} {u v : Int32} {nv : List OL} {cu : List CuT} {al : Nat → Option AcT} {rd : List AcT} {nd : List OL} {mk : List MkT} (w : MkT) (hw1 : w.1 = x) (hw2 : w.2.1 = y) (hcl : (fi V.1 16).toNatClampNeg = w.2.2.length ∧ ∀ g : Nat → Int32, (∀ i : Nat, i < (fi V.1 16).toNatClampNeg → g i = ar V.1 15 i) → ∀ (t : Nat) (e : Int32 × Int32), w.2.2[t]? = some e → g t = opE e) (hV : HV cy V A n1 n2 f1 f2 nv cu al) (hR : HR cy V.2.2.2 A n0 f0 rd) (hYV : YV cy A V.2.2.2 np nq fp fq nd mk) (hX : HX cy tE V A i0 i1 i2 o0 o1 o2 n0 n1 n2 f0 f1 f2) (hY : YX cy tE V.2.2.2 A i0 i1 i2 o0 o1 o2 ac ia ip iq op oq np nq fp fq z pa qa u v) (hl : 0 ≤ (fi V.1 16).toInt ∧ (fi V.1 16).toInt < 700) (hq : nq.toInt < 6) (hm : nc + 3 ≤ mc ∧ ns + 13 + (fi V.1 16).toInt.toNat ≤ ms) (k : ∀ r L' B o_ f_, HX cy tE (ksL V L') B i0 i1 i2 o0 o1 o2 n0 n1 n2 f0 f1 f2 → YX cy tE L' B i0 i1 i2 o0 o1 o2 ac ia ip iq op o_ np (nq + 1) fp f_ z pa qa u v → HV cy (ksL V L') B n1 n2 f1 f2 nv cu al → HR cy L' B n0 f0 rd → YV cy B L' np (nq + 1) fp f_ nd (mk ++ [w]) → post (nc + 2 + 1) (ns + (3 + (fi V.1 16).toInt.toNat) + 10) r (ksL V L')) : ∃ m30 m31 : Nat, (nc + m30 ≤ mc ∧ ns + m31 ≤ ms) ∧ w_X5_clause cy tE m30 m31 V x y (fun r33 S34 => ∃ q35 : Nat, r33 = some q35 ∧ ∃ m37 m38 : Nat, ((nc + m30) + m37 ≤ mc ∧ (ns + m31) + m38 ≤ ms) ∧ ∃ (i40 : Nat) (f41 : List Value), S34.2.2.2[i40]? = some (qa, .inr (0, f41)) ∧ w_Jx4a65c_add_9ea2d_X1 cy tE m37 m38 S34 qa q35 (fun r43 S44 => post ((nc + m30) + m37) ((ns + m31) + m38) r43 S44)) := by
  have eV : (fi V.1 16).toNatClampNeg = (fi V.1 16).toInt.toNat := tnc _
  refine ⟨2, 3 + (fi V.1 16).toInt.toNat, ⟨by omega, by omega⟩, r_5_clauseE cy tE _ _ V x y _ hl.1 hl.2 ⟨by omega, by omega⟩ (fun q o g hgg => ⟨q, rfl, 1, 10, ⟨by omega, by omega⟩, ?_⟩)⟩
  generalize eL : vn (vn V.2.2.2 (q, .inr (2, [.int x, .int y, .ref o]))) (o, .inl (cy 0, (fi V.1 16).toNatClampNeg, .inl g)) = L
  obtain ⟨B, hB, hX1, hY1, hC⟩ := YX_clauseE hX hY (by omega) eL.symm
  have hA := hX.2.2.2.2.2.2.2.1
  have kB : ∀ t, A t → B t ∧ L[t]? = V.2.2.2[t]? := fun t ht => ⟨(hB t).mpr (Or.inl ht), by rw [← eL]; exact vn2_lt (hA t ht).1⟩
  have hCx : CLx cy B L q w := ⟨V.2.2.2.length, o, (hB _).mpr (Or.inr (Or.inl rfl)), by rw [← eL, hw1, hw2]; exact vn2_0 _ _ _, V.2.2.2.length + 1, g, (hB _).mpr (Or.inr (Or.inr rfl)), by rw [← eL, ← hcl.1]; exact vn2_1 _ _ _, by show w.2.2.length ≤ 700; omega, hcl.2 g hgg⟩
  have hC2 := hC
  obtain ⟨ix, kx, fx, ox, -, hix, -⟩ := hC2
  obtain ⟨m, e, hi⟩ := LLs_e hY1.2.1.2
  refine ⟨iq, _, hi, r_addL_X1 cy tE 1 10 (ksL V L) _ qa q iq ix oq nq fq _ hY1.2.1.2 (by omega) hix ⟨by omega, by omega⟩ (fun L' o_ f_ h1 h2 h3 h4 h5 h6 => ?_)⟩
  obtain ⟨hX2, hY2⟩ := YX_make hX1 hY1 h1 h2 h3 h4 h5 h6 hC (by omega)
  have kC := YX_kq hX1 hY1 h3
  exact k _ _ B o_ f_ hX2 hY2 (HV_mo (S := ksL V L) kC rfl (HV_mo (S := V) kB rfl hV)) (HR_mo kC (HR_mo kB hR)) (YV_m (YV_mo kC (YV_mo kB hYV)) (by omega) h5 h6 (CLx_mo kC hCx))
set_option maxHeartbeats 1600000 in
theorem r_clNE (cy : Nat → ClassId) (tE : Nat) (mc ms nc ns : Nat) (V : KS) (x y : Int32) (post : Nat → Nat → Int32 → KS → Prop) {A : Nat → Prop} {i0 i1 i2 : Nat} {o0 o1 o2 : Option Nat} {n0 n1 n2 : Int32} {f0 f1 f2 : Nat → Option Nat} {ac ia ip iq : Nat} {op oq : Option Nat} {np nq : Int32} {fp fq : Nat → Option Nat} {z : Int64} {pa qa : Nat} {u v : Int32} {nv : List OL} {cu : List CuT} {al : Nat → Option AcT} {rd : List AcT} {nd : List OL} {mk : List MkT} (l : OL) (hw1 : (5 : Int32) = x) (hw2 : (0 : Int32) = y) (hcl : (fi V.1 16).toNatClampNeg = l.length ∧ ∀ g : Nat → Int32, (∀ i : Nat, i < (fi V.1 16).toNatClampNeg → g i = ar V.1 15 i) → ∀ (t : Nat) (e : Int32 × Int32), l[t]? = some e → g t = opE e) (hV : HV cy V A n1 n2 f1 f2 nv cu al) (hR : HR cy V.2.2.2 A n0 f0 rd) (hYV : YV cy A V.2.2.2 np nq fp fq nd mk) (hX : HX cy tE V A i0 i1 i2 o0 o1 o2 n0 n1 n2 f0 f1 f2) (hY : YX cy tE V.2.2.2 A i0 i1 i2 o0 o1 o2 ac ia ip iq op oq np nq fp fq z pa qa u v) (hl : 0 ≤ (fi V.1 16).toInt ∧ (fi V.1 16).toInt < 700) (hq : np.toInt < 4) (hm : nc + 3 ≤ mc ∧ ns + 13 + (fi V.1 16).toInt.toNat ≤ ms) (k : ∀ r L' B o_ f_, HX cy tE (ksL V L') B i0 i1 i2 o0 o1 o2 n0 n1 n2 f0 f1 f2 → YX cy tE L' B i0 i1 i2 o0 o1 o2 ac ia ip iq o_ oq (np + 1) nq f_ fq z pa qa u v → HV cy (ksL V L') B n1 n2 f1 f2 nv cu al → HR cy L' B n0 f0 rd → YV cy B L' (np + 1) nq f_ fq (nd ++ [l]) mk → post (nc + 2 + 1) (ns + (3 + (fi V.1 16).toInt.toNat) + 10) r (ksL V L')) : ∃ m30 m31 : Nat, (nc + m30 ≤ mc ∧ ns + m31 ≤ ms) ∧ w_X5_clause cy tE m30 m31 V x y (fun r33 S34 => ∃ q35 : Nat, r33 = some q35 ∧ ∃ m37 m38 : Nat, ((nc + m30) + m37 ≤ mc ∧ (ns + m31) + m38 ≤ ms) ∧ ∃ (i40 : Nat) (f41 : List Value), S34.2.2.2[i40]? = some (pa, .inr (0, f41)) ∧ w_Jx4a65c_add_9ea2d_X1 cy tE m37 m38 S34 pa q35 (fun r43 S44 => post ((nc + m30) + m37) ((ns + m31) + m38) r43 S44)) := by
  have eV : (fi V.1 16).toNatClampNeg = (fi V.1 16).toInt.toNat := tnc _
  refine ⟨2, 3 + (fi V.1 16).toInt.toNat, ⟨by omega, by omega⟩, r_5_clauseE cy tE _ _ V x y _ hl.1 hl.2 ⟨by omega, by omega⟩ (fun q o g hgg => ⟨q, rfl, 1, 10, ⟨by omega, by omega⟩, ?_⟩)⟩
  generalize eL : vn (vn V.2.2.2 (q, .inr (2, [.int x, .int y, .ref o]))) (o, .inl (cy 0, (fi V.1 16).toNatClampNeg, .inl g)) = L
  obtain ⟨B, hB, hX1, hY1, hC⟩ := YX_clauseE hX hY (by omega) eL.symm
  have hA := hX.2.2.2.2.2.2.2.1
  have kB : ∀ t, A t → B t ∧ L[t]? = V.2.2.2[t]? := fun t ht => ⟨(hB t).mpr (Or.inl ht), by rw [← eL]; exact vn2_lt (hA t ht).1⟩
  have hCx : CLx cy B L q (5, 0, l) := ⟨V.2.2.2.length, o, (hB _).mpr (Or.inr (Or.inl rfl)), by rw [← eL, ← hw1, ← hw2]; exact vn2_0 _ _ _, V.2.2.2.length + 1, g, (hB _).mpr (Or.inr (Or.inr rfl)), by rw [← eL, ← hcl.1]; exact vn2_1 _ _ _, by show l.length ≤ 700; omega, hcl.2 g hgg⟩
  have hC2 := hC
  obtain ⟨ix, kx, fx, ox, -, hix, -⟩ := hC2
  obtain ⟨m, e, hi⟩ := LLs_e hY1.2.1.1
  refine ⟨ip, _, hi, r_addL_X1 cy tE 1 10 (ksL V L) _ pa q ip ix op np fp _ hY1.2.1.1 (by omega) hix ⟨by omega, by omega⟩ (fun L' o_ f_ h1 h2 h3 h4 h5 h6 => ?_)⟩
  obtain ⟨hX2, hY2⟩ := YX_need hX1 hY1 h1 h2 h3 h4 h5 h6 hC (by omega)
  have kC := YX_kp hX1 hY1 h3
  exact k _ _ B o_ f_ hX2 hY2 (HV_mo (S := ksL V L) kC rfl (HV_mo (S := V) kB rfl hV)) (HR_mo kC (HR_mo kB hR)) (YV_n (YV_mo kC (YV_mo kB hYV)) (by omega) h5 h6 (CLx_mo kC hCx))
/-- an Act is being read, the law and what was read of it told -/
def YB (cy : Nat → ClassId) (tE : Nat) (S : KS) (q : Nat) (nv : List OL) (cu : List CuT) (al : Nat → Option AcT) (rd : List AcT) (z : Int64) (nd : List OL) (mk : List MkT) : Prop := ∃ (A : Nat → Prop) (i0 i1 i2 : Nat) (o0 o1 o2 : Option Nat) (n0 n1 n2 : Int32) (f0 f1 f2 : Nat → Option Nat) (ia ip iq : Nat) (op oq : Option Nat) (np nq : Int32) (fp fq : Nat → Option Nat) (pa qa : Nat) (u v : Int32), HX cy tE S A i0 i1 i2 o0 o1 o2 n0 n1 n2 f0 f1 f2 ∧ YX cy tE S.2.2.2 A i0 i1 i2 o0 o1 o2 q ia ip iq op oq np nq fp fq z pa qa u v ∧ HV cy S A n1 n2 f1 f2 nv cu al ∧ HR cy S.2.2.2 A n0 f0 rd ∧ YV cy A S.2.2.2 np nq fp fq nd mk
/-- no Act is open -/
def RB (cy : Nat → ClassId) (tE : Nat) (S : KS) (nv : List OL) (cu : List CuT) (al : Nat → Option AcT) (rd : List AcT) : Prop := ∃ (A : Nat → Prop) (i0 i1 i2 : Nat) (o0 o1 o2 : Option Nat) (n0 n1 n2 : Int32) (f0 f1 f2 : Nat → Option Nat), HX cy tE S A i0 i1 i2 o0 o1 o2 n0 n1 n2 f0 f1 f2 ∧ HV cy S A n1 n2 f1 f2 nv cu al ∧ HR cy S.2.2.2 A n0 f0 rd
theorem RB_kf {I J M : List Nat} {cy : Nat → ClassId} {tE : Nat} {S U : KS} {nv : List OL} {cu : List CuT} {al : Nat → Option AcT} {rd : List AcT} (h : RB cy tE S nv cu al rd) (f : KF I J M S U) : RB cy tE U nv cu al rd := by
  obtain ⟨A, i0, i1, i2, o0, o1, o2, n0, n1, n2, f0, f1, f2, hX, hV, hR⟩ := h
  exact ⟨A, i0, i1, i2, o0, o1, o2, n0, n1, n2, f0, f1, f2, HX_kf hX f, HV_kf hV f, HR_mo (fun t ht => ⟨ht, by rw [f.2.1]⟩) hR⟩
theorem YB_kf {I J M : List Nat} {cy : Nat → ClassId} {tE : Nat} {S U : KS} {q : Nat} {nv : List OL} {cu : List CuT} {al : Nat → Option AcT} {rd : List AcT} {z : Int64} {nd : List OL} {mk : List MkT} (h : YB cy tE S q nv cu al rd z nd mk) (f : KF I J M S U) : YB cy tE U q nv cu al rd z nd mk := by
  obtain ⟨A, i0, i1, i2, o0, o1, o2, n0, n1, n2, f0, f1, f2, ia, ip, iq, op, oq, np, nq, fp, fq, pa, qa, u, v, hX, hY, hV, hR, hYV⟩ := h
  have hA : ∀ t, A t → A t ∧ U.2.2.2[t]? = S.2.2.2[t]? := fun t ht => ⟨ht, by rw [f.2.1]⟩
  exact ⟨A, i0, i1, i2, o0, o1, o2, n0, n1, n2, f0, f1, f2, ia, ip, iq, op, oq, np, nq, fp, fq, pa, qa, u, v, HX_kf hX f, by rw [show U.2.2.2 = S.2.2.2 by rw [f.2.1]]; exact hY, HV_kf hV f, HR_mo hA hR, YV_mo hA hYV⟩
theorem YB_RB {cy : Nat → ClassId} {tE : Nat} {S : KS} {q : Nat} {nv : List OL} {cu : List CuT} {al : Nat → Option AcT} {rd : List AcT} {z : Int64} {nd : List OL} {mk : List MkT} (h : YB cy tE S q nv cu al rd z nd mk) : RB cy tE S nv cu al rd := by
  obtain ⟨A, i0, i1, i2, o0, o1, o2, n0, n1, n2, f0, f1, f2, ia, ip, iq, op, oq, np, nq, fp, fq, pa, qa, u, v, hX, hY, hV, hR, hYV⟩ := h
  exact ⟨A, i0, i1, i2, o0, o1, o2, n0, n1, n2, f0, f1, f2, hX, hV, hR⟩
/-- what the reader's numbers say of r, read from S on -/
def XR (Z : TS) (S V : KS) (r : YR) : Prop := ZS Z r.2.1 V ∧ fi V.1 17 = orF (fi S.1 17) r.2.2.2.1 ∧ fi V.1 18 = orF (fi S.1 18) r.2.2.2.2 ∧ fi V.1 19 = fi S.1 19 ∧ fi V.1 20 = fi S.1 20
theorem CL_h {U V : KS} {l : OL} (e0 : (fi U.1 16).toInt = 0) (hO : OA U V l) : (fi V.1 16).toNatClampNeg = l.length ∧ ∀ g : Nat → Int32, (∀ i : Nat, i < (fi V.1 16).toNatClampNeg → g i = ar V.1 15 i) → ∀ (t : Nat) (e : Int32 × Int32), l[t]? = some e → g t = opE e :=
  ⟨(CL_g (g := ar V.1 15) e0 hO (fun _ _ => rfl)).1, fun g hg => (CL_g e0 hO hg).2⟩
set_option maxHeartbeats 1600000 in
theorem r_5_readMakeE (cy : Nat → ClassId) (tE : Nat) (mc ms : Nat) (S : KS) (post : Int32 → KS → Prop) (b : Int) (Z : TS) (j q : Nat) {nv : List OL} {cu : List CuT} {al : Nat → Option AcT} {rd : List AcT} {z : Int64} {nd : List OL} {mk : List MkT} (h : RD b S) (hz : ZS Z j S) (hB : YB cy tE S q nv cu al rd z nd mk) (hm : 3 ≤ mc ∧ 13 + b.toNat ≤ ms) (k0 : ∀ V r, KFr S V → XB Z V r → ((Z.1 j).toInt ≠ 6 → r = ypNo 1 j) → ((Z.1 j).toInt = 6 → 6 ≤ mk.length → r = ypNo 3 j) → ((Z.1 j).toInt = 6 → ¬ 6 ≤ mk.length → r = ypMk Z (j + 1)) → post 0 V) (k1 : (Z.1 j).toInt = 6 → ¬ 6 ≤ mk.length → ∀ V, FRr S V → RD b V → (ypMk Z (j + 1)).1 = 0 → XR Z S V (ypMk Z (j + 1)) → YB cy tE V q nv cu al rd z nd (mk ++ [(Z.1 (j + 1), ypF1 Z (j + 1), (ypMk Z (j + 1)).2.2.1)]) → post 1 V) : w_X5_readMake cy tE mc ms S q post := by
  have hB0 := hB
  obtain ⟨A, i0, i1, i2, o0, o1, o2, n0, n1, n2, f0, f1, f2, ia, ip, iq, op, oq, np, nq, fp, fq, pa, qa, u, v, hX, hY, hV, hR, hYV⟩ := hB
  obtain ⟨m, e, hi⟩ := LLs_e hY.2.1.2
  have ha := hY.1
  have hbn := LLs_b hY.2.1.2
  have hnq := hYV.2.1
  unfold w_X5_readMake
  refine ⟨⟨by omega, by omega⟩, r_5_kindE cy tE S _ b Z j h hz ⟨fun g6 => ⟨ia, _, _, _, _, _, ha, ⟨by omega, by omega⟩, iq, _, hi, r_size cy tE S _ iq m nq (.ref e) _ hi ⟨fun gq => ⟨⟨by omega, by omega⟩, ?_⟩, fun gq => ⟨⟨by omega, by omega⟩, r_5_refuseE cy tE S _ _ b Z j h hz 3 (by decide) (by decide) (fun V hV hBB => ⟨Or.inl rfl, ⟨by omega, by omega⟩, k0 V _ hV hBB (fun g => absurd g6 g) (fun _ _ => rfl) (fun _ g => absurd (by omega) g)⟩)⟩⟩⟩, fun g6 => ⟨⟨by omega, by omega⟩, r_5_refuseE cy tE S _ _ b Z j h hz 1 (by decide) (by decide) (fun V hV hBB => ⟨Or.inl rfl, ⟨by omega, by omega⟩, k0 V _ hV hBB (fun _ => rfl) (fun g => absurd g g6) (fun g => absurd g g6)⟩)⟩⟩⟩
  have k0' : ∀ V r, KFr S V → XB Z V r → r = ypMk Z (j + 1) → post 0 V := fun V r h1 h2 h3 => k0 V r h1 h2 (fun g => absurd g6 g) (fun _ g => absurd g (by omega)) (fun _ _ => h3)
  have k1' := k1 g6 (by omega)
  obtain ⟨hN, hXN⟩ := RD_nxE h hz (by omega)
  have hw := wdt_ge ((Z.1 j).toInt)
  have c0 := RD_c h
  obtain ⟨hU, eP, e16, -⟩ := RD_16 hN.2.1
  have hFU : KFr S (ksi (ksi S 15 (fi S.1 15 + 1)) 16 0) := KF_si (by decide) hN.1
  have hzU : ZS Z (j + 1) (ksi (ksi S 15 (fi S.1 15 + 1)) 16 0) := ZS_kf (I := [16]) (A := []) (M := []) hXN.2.1 (KF_si (by decide) (KF_rf _)) (by decide) (by rw [show fi (ksi (ksi S 15 (fi S.1 15 + 1)) 16 0).1 15 = fi (ksi S 15 (fi S.1 15 + 1)).1 15 from si_ne (by decide)]; exact hXN.2.1.2.2)
  have u17 : fi (ksi (ksi S 15 (fi S.1 15 + 1)) 16 0).1 17 = fi S.1 17 := (si_ne (by decide)).trans (si_ne (by decide))
  have u18 : fi (ksi (ksi S 15 (fi S.1 15 + 1)) 16 0).1 18 = fi S.1 18 := (si_ne (by decide)).trans (si_ne (by decide))
  have u19 : fi (ksi (ksi S 15 (fi S.1 15 + 1)) 16 0).1 19 = fi S.1 19 := (si_ne (by decide)).trans (si_ne (by decide))
  have u20 : fi (ksi (ksi S 15 (fi S.1 15 + 1)) 16 0).1 20 = fi S.1 20 := (si_ne (by decide)).trans (si_ne (by decide))
  have hpU : pn S + 1 ≤ pn (ksi (ksi S 15 (fi S.1 15 + 1)) 16 0) := by
    rw [eP]
    have := hN.2.2.1
    omega
  generalize ksi (ksi S 15 (fi S.1 15 + 1)) 16 0 = U at hU e16 hFU hpU hzU u17 u18 u19 u20 ⊢
  obtain ⟨cz0, cz1, -, -⟩ := ZS_k hU hzU
  have hU0 := RD_l0 hU
  have emk : ypMk Z (j + 1) = ypBn (ypCh Z (j + 1)) (fun i => if (Z.1 (j + 1)).toInt = 7 ∨ (Z.1 (j + 1)).toInt = 8 ∨ (Z.1 (j + 1)).toInt = 14 then ypAm Z (decide ((Z.1 (j + 1)).toInt ≠ 14)) i else ypOk i) := rfl
  refine r_5_kindE cy tE U _ b Z (j + 1) hU hzU ⟨⟨by omega, by omega⟩, r_5_changedE cy tE U _ b Z (j + 1) hU hzU (fun V hV hBB => ⟨fun g => absurd (by decide) g, fun _ => ⟨⟨by omega, by omega⟩, k0' V _ (KF_tr hFU hV) (XB_l hBB) emk.symm⟩⟩) (fun T d hr hd hT hXT => ⟨fun _ => ?_, fun g => by omega⟩)⟩
  have hFT : KFr S T := KF_tr hFU hT.1
  have eT : (fi T.1 16).toInt = 0 := by
    have := hT.2.2.2
    omega
  have hpT : pn S + 2 ≤ pn T := by
    have := hT.2.2.1
    omega
  have hzT : ZS Z (ypCh Z (j + 1)).2.1 T := hXT.2.1
  have b116 : ∀ V, KFr S V → RD b V → (fi V.1 16).toInt < 700 → XG Z U V (ypMk Z (j + 1)) → w_X5_readMake_B116 cy tE mc ms post V 0 0 q (Z.1 (j + 1)) (ypF1 Z (j + 1)) := by
    intro V hVF hRV hl hXV
    have hA : ∀ t, A t → A t ∧ V.2.2.2[t]? = S.2.2.2[t]? := fun t ht => ⟨ht, by rw [hVF.2.1]⟩
    have hYq : YX cy tE V.2.2.2 A i0 i1 i2 o0 o1 o2 q ia ip iq op oq np nq fp fq z pa qa u v := by
      rw [show V.2.2.2 = S.2.2.2 by rw [hVF.2.1]]; exact hY
    have c1 := RD_b hRV
    have c2 := hRV.2.2.1
    refine ⟨ia, _, _, _, _, _, hYq.1, ?_⟩
    refine r_clME cy tE mc ms 0 0 V (Z.1 (j + 1)) (ypF1 Z (j + 1)) (fun a b r S => (a ≤ mc ∧ b ≤ ms) ∧ post 1 S) (Z.1 (j + 1), ypF1 Z (j + 1), (ypMk Z (j + 1)).2.2.1) rfl rfl (CL_h e16 hXV.2.2.1) (HV_kf hV hVF) (HR_mo hA hR) (YV_mo hA hYV) (HX_kf hX hVF) hYq ⟨c2.1, hl⟩ (by omega) ⟨by omega, by omega⟩ (fun r2 L' B o_ f_ hX2 hY2 hV2 hR2 hYV2 => ⟨⟨by omega, by omega⟩, ?_⟩)
    refine k1' _ hVF.1 hRV hXV.1 ⟨hXV.2.1, ?_, ?_, ?_, ?_⟩ ⟨B, i0, i1, i2, o0, o1, o2, n0, n1, n2, f0, f1, f2, ia, ip, iq, op, o_, np, nq + 1, fp, f_, pa, qa, u, v, hX2, hY2, hV2, hR2, hYV2⟩
    · show fi V.1 17 = _
      rw [hXV.2.2.2.1, u17]
    · show fi V.1 18 = _
      rw [hXV.2.2.2.2, u18]
    · show fi V.1 19 = _
      rw [hXV.2.2.1.2.2.2.1, u19]
    · show fi V.1 20 = _
      rw [hXV.2.2.1.2.2.2.2, u20]
  have b108 : ∀ y : Int32, ((Z.1 (j + 1)).toInt = 7 ∨ (Z.1 (j + 1)).toInt = 8 ∨ (Z.1 (j + 1)).toInt = 14) → (y.toInt ≠ 0 ↔ (Z.1 (j + 1)).toInt ≠ 14) → w_X5_readMake_B108 cy tE mc ms post T 0 0 q (Z.1 (j + 1)) (ypF1 Z (j + 1)) y := by
    intro y hk hy
    have em2 : ypMk Z (j + 1) = ypBn (ypCh Z (j + 1)) (ypAm Z (decide ((Z.1 (j + 1)).toInt ≠ 14))) := by
      rw [emk]
      exact ypBn_c (fun _ => if_pos hk)
    refine ⟨⟨by omega, by omega⟩, r_5_amountE cy tE T _ _ b Z (ypCh Z (j + 1)).2.1 hT.2.1 hzT (decide ((Z.1 (j + 1)).toInt ≠ 14)) (by rw [decide_eq_true_eq]; exact hy) (by omega) (fun V hVF hBB => ⟨fun g => absurd li_0 g, fun _ => ⟨⟨by omega, by omega⟩, k0' V _ (KF_tr hFT hVF) (XB_tr hXT hBB) em2.symm⟩⟩) (fun V d2 l2 h1 h2 hVM hXV => ⟨fun _ => ?_, fun g => absurd g (by decide)⟩)⟩
    have c1 := RD_c hVM.2.1
    have c3 := hVM.2.2.1
    have c4 := hVM.2.2.2
    exact b116 V (KF_tr hFT hVM.1) hVM.2.1 (by omega) (by rw [em2]; exact XG_tr hU0 hXT hXV)
  have b84 : ((Z.1 (j + 1)).toInt = 7 ∨ (Z.1 (j + 1)).toInt = 8 ∨ (Z.1 (j + 1)).toInt = 14) → w_X5_readMake_B84 cy tE mc ms post T 0 0 q (Z.1 (j + 1)) (ypF1 Z (j + 1)) := fun hk => ⟨fun g => absurd g (by decide), fun _ => ⟨fun g => b108 _ hk (by first | exact ⟨fun _ => g, fun _ => by decide⟩ | exact ⟨fun g2 => absurd (by decide) g2, fun g2 => absurd g g2⟩), fun g => b108 _ hk (by first | exact ⟨fun _ => g, fun _ => by decide⟩ | exact ⟨fun g2 => absurd (by decide) g2, fun g2 => absurd g g2⟩)⟩⟩
  exact ⟨fun _ => b84 (by omega), fun _ => ⟨fun _ => b84 (by omega), fun _ => ⟨fun _ => ⟨fun _ => b116 T hFT hT.2.1 (by omega) (by rw [emk, ypBn_r2 (fun _ => if_neg (by omega))]; exact hXT), fun g => absurd li_0 g⟩, fun _ => b84 (by omega)⟩⟩⟩
