/-- an operation as the class has it -/
def opE (x : Int32 × Int32) : Int32 := x.1 + (32 : Int32) * x.2
/-- a Clause with what it holds -/
def CLx (cy : Nat → ClassId) (A : Nat → Prop) (L : va_W) (q : Nat) (w : MkT) : Prop := ∃ (i o : Nat), A i ∧ L[i]? = some (q, .inr (2, [.int w.1, .int w.2.1, .ref o])) ∧ ∃ (j : Nat) (g : Nat → Int32), A j ∧ L[j]? = some (o, .inl (cy 0, w.2.2.length, .inl g)) ∧ w.2.2.length ≤ 700 ∧ ∀ (t : Nat) (x : Int32 × Int32), w.2.2[t]? = some x → g t = opE x
theorem CLx_p {cy : Nat → ClassId} {A : Nat → Prop} {L : va_W} {q : Nat} {w : MkT} (h : CLx cy A L q w) : CLp cy A L q := by
  obtain ⟨i, o, ai, hi, j, g, aj, hj, hn, -⟩ := h
  exact ⟨i, w.1, w.2.1, o, ai, hi, j, _, g, aj, hj, hn⟩
theorem CLx_mo {cy : Nat → ClassId} {A B : Nat → Prop} {L L' : va_W} {q : Nat} {w : MkT} (hA : ∀ t, A t → B t ∧ L'[t]? = L[t]?) (h : CLx cy A L q w) : CLx cy B L' q w := by
  obtain ⟨i, o, ai, hi, j, g, aj, hj, hn, hg⟩ := h
  exact ⟨i, o, (hA i ai).1, (hA i ai).2.trans hi, j, g, (hA j aj).1, (hA j aj).2.trans hj, hn, hg⟩
/-- a list of n, each as P says -/
def LSx (cy : Nat → ClassId) (A : Nat → Prop) (L : va_W) (P : Nat → Nat → Prop) (q n : Nat) : Prop := ∃ (i : Nat) (m : Int32) (e : Nat) (n' : Int32), A i ∧ L[i]? = some (q, .inr (0, [.int m, .ref e, .int n'])) ∧ n'.toInt = (n : Int) ∧ n ≤ 10 ∧ (n = 0 ∨ ∃ (j c : Nat) (f : Nat → Option Nat), A j ∧ L[j]? = some (e, .inl (cy 5, c, .inr (.inr (.inr (.inr f))))) ∧ n ≤ c ∧ ∀ k : Nat, k < n → ∃ q', f k = some q' ∧ P k q')
theorem LSx_mo {cy : Nat → ClassId} {A B : Nat → Prop} {L L' : va_W} {q n : Nat} (hA : ∀ t, A t → B t ∧ L'[t]? = L[t]?) {P Q : Nat → Nat → Prop} (hP : ∀ k x, P k x → Q k x) (h : LSx cy A L P q n) : LSx cy B L' Q q n := by
  obtain ⟨i, m, e, n', ai, hi, n0, n1, hc⟩ := h
  refine ⟨i, m, e, n', (hA i ai).1, (hA i ai).2.trans hi, n0, n1, ?_⟩
  rcases hc with h | ⟨j, c, f, aj, hj, hn, hf⟩
  · exact Or.inl h
  · exact Or.inr ⟨j, c, f, (hA j aj).1, (hA j aj).2.trans hj, hn, fun k hk => by
      obtain ⟨x, hx, hp⟩ := hf k hk
      exact ⟨x, hx, hP k x hp⟩⟩
theorem LLs_LSx {cy : Nat → ClassId} {tE : Nat} {L : va_W} {q i n : Nat} {o : Option Nat} {n' : Int32} {f : Nat → Option Nat} {B : Nat → Prop} {P : Nat → Nat → Prop} (h : LLs cy tE L q i o n' f) (hn : n'.toInt = (n : Int)) (hi : B i) (ho : ∀ j, o = some j → B j) (hf : ∀ t : Nat, t < n → ∃ x, f t = some x ∧ P t x) : LSx cy B L P q n := by
  obtain ⟨m, e, h1, h2, h3⟩ := h
  refine ⟨i, m, e, n', hi, h1, hn, by omega, ?_⟩
  rcases h3 with ⟨_, _, h0⟩ | ⟨j, hj, _, ha⟩
  · rw [h0, li_0] at hn
    exact Or.inl (by omega)
  · exact Or.inr ⟨j, 10, f, ho j hj, ha, by omega, hf⟩
def CUx (cy : Nat → ClassId) (A : Nat → Prop) (L : va_W) (q : Nat) (w : CuT) : Prop := ∃ (i c : Nat), A i ∧ L[i]? = some (q, .inr (4, [.int w.1, .ref c])) ∧ CLx cy A L c (5, 0, w.2)
theorem CUx_mo {cy : Nat → ClassId} {A B : Nat → Prop} {L L' : va_W} {q : Nat} {w : CuT} (hA : ∀ t, A t → B t ∧ L'[t]? = L[t]?) (h : CUx cy A L q w) : CUx cy B L' q w := by
  obtain ⟨i, c, ai, hi, hc⟩ := h
  exact ⟨i, c, (hA i ai).1, (hA i ai).2.trans hi, CLx_mo hA hc⟩
def ACx (cy : Nat → ClassId) (A : Nat → Prop) (L : va_W) (q : Nat) (a : AcT) : Prop := ∃ (i nd mk : Nat), A i ∧ L[i]? = some (q, .inr (1, [.long a.1, .ref nd, .ref mk, .int a.2.1, .int a.2.2.1])) ∧ LSx cy A L (fun k x => ∃ l, a.2.2.2.1[k]? = some l ∧ CLx cy A L x (5, 0, l)) nd a.2.2.2.1.length ∧ LSx cy A L (fun k x => ∃ w, a.2.2.2.2[k]? = some w ∧ CLx cy A L x w) mk a.2.2.2.2.length
theorem ACx_mo {cy : Nat → ClassId} {A B : Nat → Prop} {L L' : va_W} {q : Nat} {a : AcT} (hA : ∀ t, A t → B t ∧ L'[t]? = L[t]?) (h : ACx cy A L q a) : ACx cy B L' q a := by
  obtain ⟨i, nd, mk, ai, hi, h1, h2⟩ := h
  exact ⟨i, nd, mk, (hA i ai).1, (hA i ai).2.trans hi, LSx_mo hA (fun k x ⟨l, hl, hc⟩ => ⟨l, hl, CLx_mo hA hc⟩) h1, LSx_mo hA (fun k x ⟨w, hw, hc⟩ => ⟨w, hw, CLx_mo hA hc⟩) h2⟩
theorem LSx_p {cy : Nat → ClassId} {A : Nat → Prop} {L : va_W} {q n : Nat} {P : Nat → Nat → Prop} {Q : Nat → Prop} (h : LSx cy A L P q n) (hP : ∀ k x, P k x → Q x) : LSp cy A L Q q := by
  obtain ⟨i, m, e, n', ai, hi, n0, n1, hc⟩ := h
  refine ⟨i, m, e, n', ai, hi, by omega, by omega, ?_⟩
  rcases hc with h | ⟨j, c, f, aj, hj, hn, hf⟩
  · exact Or.inl (by omega)
  · exact Or.inr ⟨j, c, f, aj, hj, by omega, fun k hk => by
      obtain ⟨x, hx, hp⟩ := hf k (by omega)
      exact ⟨x, hx, hP k x hp⟩⟩
theorem ACx_p {cy : Nat → ClassId} {A : Nat → Prop} {L : va_W} {q : Nat} {a : AcT} (h : ACx cy A L q a) : ACp cy A L q := by
  obtain ⟨i, nd, mk, ai, hi, h1, h2⟩ := h
  exact ⟨i, _, nd, mk, _, _, ai, hi, LSx_p h1 (fun k x ⟨l, hl, hc⟩ => CLx_p hc), LSx_p h2 (fun k x ⟨w, hw, hc⟩ => CLx_p hc)⟩
/-- the law as the class holds it: NEVERS, CURES, ACTS -/
def HV (cy : Nat → ClassId) (S : KS) (A : Nat → Prop) (n1 n2 : Int32) (f1 f2 : Nat → Option Nat) (nv : List OL) (cu : List CuT) (ac : Nat → Option AcT) : Prop := (n1.toInt = (nv.length : Int) ∧ ∀ (t : Nat) (l : OL), nv[t]? = some l → ∃ x, f1 t = some x ∧ CLx cy A S.2.2.2 x (5, 0, l)) ∧ (n2.toInt = (cu.length : Int) ∧ ∀ (t : Nat) (w : CuT), cu[t]? = some w → ∃ x, f2 t = some x ∧ CUx cy A S.2.2.2 x w) ∧ ∀ i, i < 12 → (S.2.2.1 i = none ∧ ac i = none) ∨ ∃ (q : Nat) (a : AcT), S.2.2.1 i = some q ∧ ac i = some a ∧ ACx cy A S.2.2.2 q a
theorem HV_mo {cy : Nat → ClassId} {S S' : KS} {A B : Nat → Prop} {n1 n2 : Int32} {f1 f2 : Nat → Option Nat} {nv : List OL} {cu : List CuT} {ac : Nat → Option AcT} (hA : ∀ t, A t → B t ∧ S'.2.2.2[t]? = S.2.2.2[t]?) (e1 : S'.2.2.1 = S.2.2.1) (h : HV cy S A n1 n2 f1 f2 nv cu ac) : HV cy S' B n1 n2 f1 f2 nv cu ac := by
  obtain ⟨⟨h1, h2⟩, ⟨h3, h4⟩, h5⟩ := h
  refine ⟨⟨h1, fun t l hl => ?_⟩, ⟨h3, fun t w hw => ?_⟩, fun i hi => ?_⟩
  · obtain ⟨x, hx, hc⟩ := h2 t l hl
    exact ⟨x, hx, CLx_mo hA hc⟩
  · obtain ⟨x, hx, hc⟩ := h4 t w hw
    exact ⟨x, hx, CUx_mo hA hc⟩
  · rw [e1]
    rcases h5 i hi with g | ⟨q, a, g1, g2, g3⟩
    · exact Or.inl g
    · exact Or.inr ⟨q, a, g1, g2, ACx_mo hA g3⟩
theorem HV_kf {I J M : List Nat} {cy : Nat → ClassId} {S S' : KS} {A : Nat → Prop} {n1 n2 : Int32} {f1 f2 : Nat → Option Nat} {nv : List OL} {cu : List CuT} {ac : Nat → Option AcT} (h : HV cy S A n1 n2 f1 f2 nv cu ac) (f : KF I J M S S') : HV cy S' A n1 n2 f1 f2 nv cu ac :=
  HV_mo (fun t ht => ⟨ht, by rw [f.2.1]⟩) (by rw [f.2.1]) h
/-- the ACTS that are being read -/
def HR (cy : Nat → ClassId) (L : va_W) (A : Nat → Prop) (n0 : Int32) (f0 : Nat → Option Nat) (rd : List AcT) : Prop := n0.toInt = (rd.length : Int) ∧ ∀ (t : Nat) (a : AcT), rd[t]? = some a → ∃ x, f0 t = some x ∧ ACx cy A L x a
theorem HR_mo {cy : Nat → ClassId} {L L' : va_W} {A B : Nat → Prop} {n0 : Int32} {f0 : Nat → Option Nat} {rd : List AcT} (hA : ∀ t, A t → B t ∧ L'[t]? = L[t]?) (h : HR cy L A n0 f0 rd) : HR cy L' B n0 f0 rd := by
  refine ⟨h.1, fun t a ha => ?_⟩
  obtain ⟨x, hx, hc⟩ := h.2 t a ha
  exact ⟨x, hx, ACx_mo hA hc⟩
theorem gt_app {α : Type} {l : List α} {a x : α} {t : Nat} (h : (l ++ [a])[t]? = some x) : (t < l.length ∧ l[t]? = some x) ∨ (t = l.length ∧ x = a) := by
  by_cases e : t < l.length
  · rw [List.getElem?_append_left e] at h
    exact Or.inl ⟨e, h⟩
  · rw [List.getElem?_append_right (by omega)] at h
    have e2 : t - l.length = 0 := by
      cases hh : t - l.length with
      | zero => rfl
      | succ n => rw [hh] at h; simp at h
    rw [e2] at h
    have h3 : some a = some x := h
    exact Or.inr ⟨by omega, (Option.some.inj h3).symm⟩
theorem gt_lt {α : Type} {l : List α} {x : α} {t : Nat} (h : l[t]? = some x) : t < l.length := (List.getElem?_eq_some_iff.mp h).1
/-- a list grows: the rest stands -/
theorem HX_k0 {cy : Nat → ClassId} {tE : Nat} {S : KS} {A : Nat → Prop} {i0 i1 i2 : Nat} {o0 o1 o2 : Option Nat} {n0 n1 n2 : Int32} {f0 f1 f2 : Nat → Option Nat} {L' : va_W} (h : HX cy tE S A i0 i1 i2 o0 o1 o2 n0 n1 n2 f0 f1 f2) (hk : ∀ t : Nat, t < S.2.2.2.length → t ≠ i0 → o0 ≠ some t → L'[t]? = S.2.2.2[t]?) : ∀ t, A t → A t ∧ L'[t]? = S.2.2.2[t]? := by
  have hA := h.2.2.2.2.2.2.2.1
  exact fun t ht => ⟨ht, hk t (hA t ht).1 (fun g => (hA t ht).2 (Or.inl g)) (fun g => (hA t ht).2 (Or.inr (Or.inr (Or.inr (Or.inl g)))))⟩
theorem HX_k1 {cy : Nat → ClassId} {tE : Nat} {S : KS} {A : Nat → Prop} {i0 i1 i2 : Nat} {o0 o1 o2 : Option Nat} {n0 n1 n2 : Int32} {f0 f1 f2 : Nat → Option Nat} {L' : va_W} (h : HX cy tE S A i0 i1 i2 o0 o1 o2 n0 n1 n2 f0 f1 f2) (hk : ∀ t : Nat, t < S.2.2.2.length → t ≠ i1 → o1 ≠ some t → L'[t]? = S.2.2.2[t]?) : ∀ t, A t → A t ∧ L'[t]? = S.2.2.2[t]? := by
  have hA := h.2.2.2.2.2.2.2.1
  exact fun t ht => ⟨ht, hk t (hA t ht).1 (fun g => (hA t ht).2 (Or.inr (Or.inl g))) (fun g => (hA t ht).2 (Or.inr (Or.inr (Or.inr (Or.inr (Or.inl g))))))⟩
theorem HX_k2 {cy : Nat → ClassId} {tE : Nat} {S : KS} {A : Nat → Prop} {i0 i1 i2 : Nat} {o0 o1 o2 : Option Nat} {n0 n1 n2 : Int32} {f0 f1 f2 : Nat → Option Nat} {L' : va_W} (h : HX cy tE S A i0 i1 i2 o0 o1 o2 n0 n1 n2 f0 f1 f2) (hk : ∀ t : Nat, t < S.2.2.2.length → t ≠ i2 → o2 ≠ some t → L'[t]? = S.2.2.2[t]?) : ∀ t, A t → A t ∧ L'[t]? = S.2.2.2[t]? := by
  have hA := h.2.2.2.2.2.2.2.1
  exact fun t ht => ⟨ht, hk t (hA t ht).1 (fun g => (hA t ht).2 (Or.inr (Or.inr (Or.inl g)))) (fun g => (hA t ht).2 (Or.inr (Or.inr (Or.inr (Or.inr (Or.inr g))))))⟩
/-- a NEVER more -/
theorem HV_1 {cy : Nat → ClassId} {S : KS} {A : Nat → Prop} {n1 n2 : Int32} {f1 f2 f' : Nat → Option Nat} {nv : List OL} {cu : List CuT} {ac : Nat → Option AcT} {x : Nat} {l : OL} (h : HV cy S A n1 n2 f1 f2 nv cu ac) (hb : n1.toInt < 100) (hf : f' n1.toNatClampNeg = some x) (hg : ∀ t : Nat, (t : Int) < n1.toInt → f' t = f1 t) (hx : CLx cy A S.2.2.2 x (5, 0, l)) : HV cy S A (n1 + 1) n2 f' f2 (nv ++ [l]) cu ac := by
  obtain ⟨⟨h1, h2⟩, h3, h5⟩ := h
  refine ⟨⟨by rw [inc1 (by omega), List.length_append]; simp only [List.length_cons, List.length_nil]; omega, fun t y hy => ?_⟩, h3, h5⟩
  rcases gt_app hy with ⟨g1, g2⟩ | ⟨g1, g2⟩
  · obtain ⟨z, hz, hc⟩ := h2 t y g2
    exact ⟨z, (hg t (by omega)).trans hz, hc⟩
  · have et : t = n1.toNatClampNeg := by rw [tnc]; omega
    rw [et, g2]
    exact ⟨x, hf, hx⟩
theorem HV_2 {cy : Nat → ClassId} {S : KS} {A : Nat → Prop} {n1 n2 : Int32} {f1 f2 f' : Nat → Option Nat} {nv : List OL} {cu : List CuT} {ac : Nat → Option AcT} {x : Nat} {w : CuT} (h : HV cy S A n1 n2 f1 f2 nv cu ac) (hb : n2.toInt < 100) (hf : f' n2.toNatClampNeg = some x) (hg : ∀ t : Nat, (t : Int) < n2.toInt → f' t = f2 t) (hx : CUx cy A S.2.2.2 x w) : HV cy S A n1 (n2 + 1) f1 f' nv (cu ++ [w]) ac := by
  obtain ⟨h1, ⟨h3, h4⟩, h5⟩ := h
  refine ⟨h1, ⟨by rw [inc1 (by omega), List.length_append]; simp only [List.length_cons, List.length_nil]; omega, fun t y hy => ?_⟩, h5⟩
  rcases gt_app hy with ⟨g1, g2⟩ | ⟨g1, g2⟩
  · obtain ⟨z, hz, hc⟩ := h4 t y g2
    exact ⟨z, (hg t (by omega)).trans hz, hc⟩
  · have et : t = n2.toNatClampNeg := by rw [tnc]; omega
    rw [et, g2]
    exact ⟨x, hf, hx⟩
theorem HR_1 {cy : Nat → ClassId} {L : va_W} {A : Nat → Prop} {n0 : Int32} {f0 f' : Nat → Option Nat} {rd : List AcT} {x : Nat} {a : AcT} (h : HR cy L A n0 f0 rd) (hb : n0.toInt < 100) (hf : f' n0.toNatClampNeg = some x) (hg : ∀ t : Nat, (t : Int) < n0.toInt → f' t = f0 t) (hx : ACx cy A L x a) : HR cy L A (n0 + 1) f' (rd ++ [a]) := by
  obtain ⟨h1, h2⟩ := h
  refine ⟨by rw [inc1 (by omega), List.length_append]; simp only [List.length_cons, List.length_nil]; omega, fun t y hy => ?_⟩
  rcases gt_app hy with ⟨g1, g2⟩ | ⟨g1, g2⟩
  · obtain ⟨z, hz, hc⟩ := h2 t y g2
    exact ⟨z, (hg t (by omega)).trans hz, hc⟩
  · have et : t = n0.toNatClampNeg := by rw [tnc]; omega
    rw [et, g2]
    exact ⟨x, hf, hx⟩
/-- the class between two calls, its law told -/
def KIx (cy : Nat → ClassId) (tE : Nat) (S : KS) (nv : List OL) (cu : List CuT) (ac : Nat → Option AcT) : Prop := ∃ (A : Nat → Prop) (i0 i1 i2 : Nat) (o0 o1 o2 : Option Nat) (n0 n1 n2 : Int32) (f0 f1 f2 : Nat → Option Nat), HX cy tE S A i0 i1 i2 o0 o1 o2 n0 n1 n2 f0 f1 f2 ∧ HV cy S A n1 n2 f1 f2 nv cu ac
theorem KIx_kf {I J M : List Nat} {cy : Nat → ClassId} {tE : Nat} {S U : KS} {nv : List OL} {cu : List CuT} {ac : Nat → Option AcT} (h : KIx cy tE S nv cu ac) (f : KF I J M S U) : KIx cy tE U nv cu ac := by
  obtain ⟨A, i0, i1, i2, o0, o1, o2, n0, n1, n2, f0, f1, f2, hX, hV⟩ := h
  exact ⟨A, i0, i1, i2, o0, o1, o2, n0, n1, n2, f0, f1, f2, HX_kf hX f, HV_kf hV f⟩
theorem KIx_KI {cy : Nat → ClassId} {tE : Nat} {S : KS} {nv : List OL} {cu : List CuT} {ac : Nat → Option AcT} (h : KIx cy tE S nv cu ac) (hW : WD S) (hg : FLG S) (h0 : 0 ≤ (fi S.1 0).toInt ∧ (fi S.1 0).toInt ≤ 700) (hs : SQ S) : KI cy tE S := by
  obtain ⟨A, i0, i1, i2, o0, o1, o2, n0, n1, n2, f0, f1, f2, hX, hV⟩ := h
  exact ⟨hW, hg, h0, hs, A, i0, i1, i2, o0, o1, o2, n0, n1, n2, f0, f1, f2, hX⟩
