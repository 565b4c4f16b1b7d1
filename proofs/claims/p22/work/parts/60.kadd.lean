theorem LLs_lt {cy : Nat → ClassId} {tE : Nat} {L : va_W} {q i : Nat} {o : Option Nat} {n : Int32} {f : Nat → Option Nat} (h : LLs cy tE L q i o n f) : i < L.length ∧ ∀ j, o = some j → j < L.length := by
  obtain ⟨m, e, h1, h2, h3⟩ := h
  refine ⟨wl_lt h1, fun j hj => ?_⟩
  rcases h3 with ⟨ho, _⟩ | ⟨k, hk, _, ha⟩
  · rw [ho] at hj; cases hj
  · rw [hk] at hj; cases hj; exact wl_lt ha
theorem LLs_b {cy : Nat → ClassId} {tE : Nat} {L : va_W} {q i : Nat} {o : Option Nat} {n : Int32} {f : Nat → Option Nat} (h : LLs cy tE L q i o n f) : 0 ≤ n.toInt ∧ n.toInt ≤ 10 := by
  obtain ⟨m, e, h1, h2, h3⟩ := h
  exact h2
theorem LLs_e {cy : Nat → ClassId} {tE : Nat} {L : va_W} {q i : Nat} {o : Option Nat} {n : Int32} {f : Nat → Option Nat} (h : LLs cy tE L q i o n f) : ∃ (m : Int32) (e : Nat), L[i]? = some (lsC q m e n) := by
  obtain ⟨m, e, h1, h2, h3⟩ := h
  exact ⟨m, e, h1⟩
theorem HX_lt {cy : Nat → ClassId} {tE : Nat} {S : KS} {A : Nat → Prop} {i0 i1 i2 : Nat} {o0 o1 o2 : Option Nat} {n0 n1 n2 : Int32} {f0 f1 f2 : Nat → Option Nat} (h : HX cy tE S A i0 i1 i2 o0 o1 o2 n0 n1 n2 f0 f1 f2) : ∀ t, IxC i0 i1 i2 o0 o1 o2 t → t < S.2.2.2.length := by
  obtain ⟨h3, ⟨l0, l1, l2⟩, -⟩ := h
  intro t ht
  rcases ht with rfl | rfl | rfl | g | g | g
  · exact (LLs_lt l0).1
  · exact (LLs_lt l1).1
  · exact (LLs_lt l2).1
  · exact (LLs_lt l0).2 t g
  · exact (LLs_lt l1).2 t g
  · exact (LLs_lt l2).2 t g
theorem HX_mo {cy : Nat → ClassId} {tE : Nat} {S : KS} {A : Nat → Prop} {i0 i1 i2 : Nat} {o0 o1 o2 : Option Nat} {n0 n1 n2 : Int32} {f0 f1 f2 : Nat → Option Nat} {B : Nat → Prop} {L' : va_W} (h : HX cy tE S A i0 i1 i2 o0 o1 o2 n0 n1 n2 f0 f1 f2) (hL : ∀ t, (A t ∨ IxC i0 i1 i2 o0 o1 o2 t) → L'[t]? = S.2.2.2[t]?) (hB : ∀ t, A t → B t) (hB2 : ∀ t, B t → t < L'.length ∧ ¬ IxC i0 i1 i2 o0 o1 o2 t) : HX cy tE (ksL S L') B i0 i1 i2 o0 o1 o2 n0 n1 n2 f0 f1 f2 := by
  obtain ⟨h3, ⟨l0, l1, l2⟩, hb, e0, e1, e2, hr, hA, hD⟩ := h
  have kA : ∀ t, A t → B t ∧ L'[t]? = S.2.2.2[t]? := fun t ht => ⟨hB t ht, hL t (Or.inl ht)⟩
  have m0 : LLs cy tE L' (S.2.1 0) i0 o0 n0 f0 := LLs_mo l0 (hL i0 (Or.inr (Or.inl rfl))) (fun j hj => hL j (Or.inr (Or.inr (Or.inr (Or.inr (Or.inl hj))))))
  have m1 : LLs cy tE L' (S.2.1 1) i1 o1 n1 f1 := LLs_mo l1 (hL i1 (Or.inr (Or.inr (Or.inl rfl)))) (fun j hj => hL j (Or.inr (Or.inr (Or.inr (Or.inr (Or.inr (Or.inl hj)))))))
  have m2 : LLs cy tE L' (S.2.1 2) i2 o2 n2 f2 := LLs_mo l2 (hL i2 (Or.inr (Or.inr (Or.inr (Or.inl rfl))))) (fun j hj => hL j (Or.inr (Or.inr (Or.inr (Or.inr (Or.inr (Or.inr hj)))))))
  refine ⟨h3, ⟨m0, m1, m2⟩, hb, ?_, ?_, ?_, ?_, hB2, hD⟩
  · intro t ht
    obtain ⟨x, hx, hc⟩ := e0 t ht
    exact ⟨x, hx, ACp_mo kA hc⟩
  · intro t ht
    obtain ⟨x, hx, hc⟩ := e1 t ht
    exact ⟨x, hx, CLp_mo kA hc⟩
  · intro t ht
    obtain ⟨x, hx, hc⟩ := e2 t ht
    exact ⟨x, hx, CUp_mo kA hc⟩
  · intro i hi q hq
    exact ACp_mo kA (hr i hi q hq)
theorem HX_new {cy : Nat → ClassId} {tE : Nat} {S : KS} {A : Nat → Prop} {i0 i1 i2 : Nat} {o0 o1 o2 : Option Nat} {n0 n1 n2 : Int32} {f0 f1 f2 : Nat → Option Nat} {L' : va_W} (h : HX cy tE S A i0 i1 i2 o0 o1 o2 n0 n1 n2 f0 f1 f2) (hl : S.2.2.2.length ≤ L'.length) (hk : ∀ t, t < S.2.2.2.length → L'[t]? = S.2.2.2[t]?) : HX cy tE (ksL S L') (fun t => A t ∨ (S.2.2.2.length ≤ t ∧ t < L'.length)) i0 i1 i2 o0 o1 o2 n0 n1 n2 f0 f1 f2 := by
  have hlt := HX_lt h
  have hA := h.2.2.2.2.2.2.2.1
  refine HX_mo h ?_ (fun t ht => Or.inl ht) ?_
  · rintro t (ht | ht)
    · exact hk t (hA t ht).1
    · exact hk t (hlt t ht)
  · rintro t (ht | ht)
    · exact ⟨Nat.lt_of_lt_of_le (hA t ht).1 hl, (hA t ht).2⟩
    · exact ⟨ht.2, fun g => by have := hlt t g; omega⟩
theorem HX_add0 {cy : Nat → ClassId} {tE : Nat} {S : KS} {A : Nat → Prop} {i0 i1 i2 : Nat} {o0 o1 o2 : Option Nat} {n0 n1 n2 : Int32} {f0 f1 f2 : Nat → Option Nat} {L' : va_W} {o' : Option Nat} {f' : Nat → Option Nat} {x : Nat} (h : HX cy tE S A i0 i1 i2 o0 o1 o2 n0 n1 n2 f0 f1 f2) (hl : LLs cy tE L' (S.2.1 0) i0 o' (n0 + 1) f') (hn : S.2.2.2.length ≤ L'.length) (hk : ∀ t : Nat, t < S.2.2.2.length → t ≠ i0 → o0 ≠ some t → L'[t]? = S.2.2.2[t]?) (ho : o' = o0 ∨ (o0 = none ∧ o' = some S.2.2.2.length)) (hf : f' n0.toNatClampNeg = some x) (hg : ∀ t : Nat, (t : Int) < n0.toInt → f' t = f0 t) (hx : ACp cy A S.2.2.2 x) (hm : n0.toInt + 1 ≤ 6) : HX cy tE (ksL S L') A i0 i1 i2 o' o1 o2 (n0 + 1) n1 n2 f' f1 f2 := by
  have hlt := HX_lt h
  obtain ⟨h3, ⟨l0, l1, l2⟩, ⟨b0, b1, b2⟩, e0, e1, e2, hr, hA, hD⟩ := h
  obtain ⟨⟨d01, d02, d12⟩, p0, p1, p2⟩ := hD
  have z0 := LLs_lt l0
  have z1 := LLs_lt l1
  have z2 := LLs_lt l2
  have bp := LLs_b l0
  have en : (n0 + 1).toInt = n0.toInt + 1 := inc1 (by omega)
  have kA : ∀ t, A t → A t ∧ L'[t]? = S.2.2.2[t]? := fun t ht => ⟨ht, hk t (hA t ht).1 (fun g => (hA t ht).2 (Or.inl g)) (fun g => (hA t ht).2 (Or.inr (Or.inr (Or.inr (Or.inl g)))))⟩
  have m1 : LLs cy tE L' (S.2.1 1) i1 o1 n1 f1 := LLs_mo l1 (hk i1 z1.1 (fun g => d01 g.symm) (fun g => (p0 i1 g).2.1 rfl)) (fun j hj => hk j (z1.2 j hj) (p1 j hj).1 (p1 j hj).2.2.2.1)
  have m2 : LLs cy tE L' (S.2.1 2) i2 o2 n2 f2 := LLs_mo l2 (hk i2 z2.1 (fun g => d02 g.symm) (fun g => (p0 i2 g).2.2.1 rfl)) (fun j hj => hk j (z2.2 j hj) (p2 j hj).1 (p2 j hj).2.2.2.1)
  have q1 : ∀ t, t < S.2.2.2.length → o' = some t → o0 = some t := by
    intro t ht g
    rcases ho with rfl | ⟨_, hz⟩
    · exact g
    · rw [hz] at g; cases g; exact absurd ht (Nat.lt_irrefl _)
  have q2 : ∀ t, o' = some t → o0 = some t ∨ t = S.2.2.2.length := by
    intro t g
    rcases ho with rfl | ⟨_, hz⟩
    · exact Or.inl g
    · rw [hz] at g; cases g; exact Or.inr rfl
  refine ⟨h3, ⟨hl, m1, m2⟩, ⟨(by rw [en]; omega), b1, b2⟩, ?_, ?_, ?_, ?_, ?_, ?_⟩
  · intro t ht
    rw [en] at ht
    by_cases hc_1 : (t : Int) < n0.toInt
    · obtain ⟨y, hy, hc⟩ := e0 t hc_1
      exact ⟨y, (hg t hc_1).trans hy, ACp_mo kA hc⟩
    · have et : t = n0.toNatClampNeg := by rw [tnc]; omega
      rw [et]
      exact ⟨x, hf, ACp_mo kA hx⟩
  · intro t ht
    obtain ⟨y, hy, hc⟩ := e1 t ht
    exact ⟨y, hy, CLp_mo kA hc⟩
  · intro t ht
    obtain ⟨y, hy, hc⟩ := e2 t ht
    exact ⟨y, hy, CUp_mo kA hc⟩
  · intro i hi q hq
    exact ACp_mo kA (hr i hi q hq)
  · intro t ht
    refine ⟨Nat.lt_of_lt_of_le (hA t ht).1 hn, fun g => (hA t ht).2 ?_⟩
    rcases g with g | g | g | g | g | g
    · exact Or.inl g
    · exact Or.inr (Or.inl g)
    · exact Or.inr (Or.inr (Or.inl g))
    · exact Or.inr (Or.inr (Or.inr (Or.inl (q1 t (hA t ht).1 g))))
    · exact Or.inr (Or.inr (Or.inr (Or.inr (Or.inl g))))
    · exact Or.inr (Or.inr (Or.inr (Or.inr (Or.inr g))))
  · refine ⟨⟨d01, d02, d12⟩, ?_, ?_, ?_⟩
    · intro t ht
      rcases q2 t ht with g | g
      · exact p0 t g
      · rw [g]
        exact ⟨by omega, by omega, by omega, fun g => Nat.lt_irrefl _ (z1.2 _ g), fun g => Nat.lt_irrefl _ (z2.2 _ g)⟩
    · intro t ht
      exact ⟨(p1 t ht).1, (p1 t ht).2.1, (p1 t ht).2.2.1, fun g => (p1 t ht).2.2.2.1 (q1 t (z1.2 t ht) g), (p1 t ht).2.2.2.2⟩
    · intro t ht
      exact ⟨(p2 t ht).1, (p2 t ht).2.1, (p2 t ht).2.2.1, fun g => (p2 t ht).2.2.2.1 (q1 t (z2.2 t ht) g), (p2 t ht).2.2.2.2⟩
theorem HX_add1 {cy : Nat → ClassId} {tE : Nat} {S : KS} {A : Nat → Prop} {i0 i1 i2 : Nat} {o0 o1 o2 : Option Nat} {n0 n1 n2 : Int32} {f0 f1 f2 : Nat → Option Nat} {L' : va_W} {o' : Option Nat} {f' : Nat → Option Nat} {x : Nat} (h : HX cy tE S A i0 i1 i2 o0 o1 o2 n0 n1 n2 f0 f1 f2) (hl : LLs cy tE L' (S.2.1 1) i1 o' (n1 + 1) f') (hn : S.2.2.2.length ≤ L'.length) (hk : ∀ t : Nat, t < S.2.2.2.length → t ≠ i1 → o1 ≠ some t → L'[t]? = S.2.2.2[t]?) (ho : o' = o1 ∨ (o1 = none ∧ o' = some S.2.2.2.length)) (hf : f' n1.toNatClampNeg = some x) (hg : ∀ t : Nat, (t : Int) < n1.toInt → f' t = f1 t) (hx : CLp cy A S.2.2.2 x) (hm : n1.toInt + 1 ≤ 6) : HX cy tE (ksL S L') A i0 i1 i2 o0 o' o2 n0 (n1 + 1) n2 f0 f' f2 := by
  have hlt := HX_lt h
  obtain ⟨h3, ⟨l0, l1, l2⟩, ⟨b0, b1, b2⟩, e0, e1, e2, hr, hA, hD⟩ := h
  obtain ⟨⟨d01, d02, d12⟩, p0, p1, p2⟩ := hD
  have z0 := LLs_lt l0
  have z1 := LLs_lt l1
  have z2 := LLs_lt l2
  have bp := LLs_b l1
  have en : (n1 + 1).toInt = n1.toInt + 1 := inc1 (by omega)
  have kA : ∀ t, A t → A t ∧ L'[t]? = S.2.2.2[t]? := fun t ht => ⟨ht, hk t (hA t ht).1 (fun g => (hA t ht).2 (Or.inr (Or.inl g))) (fun g => (hA t ht).2 (Or.inr (Or.inr (Or.inr (Or.inr (Or.inl g))))))⟩
  have m0 : LLs cy tE L' (S.2.1 0) i0 o0 n0 f0 := LLs_mo l0 (hk i0 z0.1 d01 (fun g => (p1 i0 g).1 rfl)) (fun j hj => hk j (z0.2 j hj) (p0 j hj).2.1 (p0 j hj).2.2.2.1)
  have m2 : LLs cy tE L' (S.2.1 2) i2 o2 n2 f2 := LLs_mo l2 (hk i2 z2.1 (fun g => d12 g.symm) (fun g => (p1 i2 g).2.2.1 rfl)) (fun j hj => hk j (z2.2 j hj) (p2 j hj).2.1 (p2 j hj).2.2.2.2)
  have q1 : ∀ t, t < S.2.2.2.length → o' = some t → o1 = some t := by
    intro t ht g
    rcases ho with rfl | ⟨_, hz⟩
    · exact g
    · rw [hz] at g; cases g; exact absurd ht (Nat.lt_irrefl _)
  have q2 : ∀ t, o' = some t → o1 = some t ∨ t = S.2.2.2.length := by
    intro t g
    rcases ho with rfl | ⟨_, hz⟩
    · exact Or.inl g
    · rw [hz] at g; cases g; exact Or.inr rfl
  refine ⟨h3, ⟨m0, hl, m2⟩, ⟨b0, (by rw [en]; omega), b2⟩, ?_, ?_, ?_, ?_, ?_, ?_⟩
  · intro t ht
    obtain ⟨y, hy, hc⟩ := e0 t ht
    exact ⟨y, hy, ACp_mo kA hc⟩
  · intro t ht
    rw [en] at ht
    by_cases hc_1 : (t : Int) < n1.toInt
    · obtain ⟨y, hy, hc⟩ := e1 t hc_1
      exact ⟨y, (hg t hc_1).trans hy, CLp_mo kA hc⟩
    · have et : t = n1.toNatClampNeg := by rw [tnc]; omega
      rw [et]
      exact ⟨x, hf, CLp_mo kA hx⟩
  · intro t ht
    obtain ⟨y, hy, hc⟩ := e2 t ht
    exact ⟨y, hy, CUp_mo kA hc⟩
  · intro i hi q hq
    exact ACp_mo kA (hr i hi q hq)
  · intro t ht
    refine ⟨Nat.lt_of_lt_of_le (hA t ht).1 hn, fun g => (hA t ht).2 ?_⟩
    rcases g with g | g | g | g | g | g
    · exact Or.inl g
    · exact Or.inr (Or.inl g)
    · exact Or.inr (Or.inr (Or.inl g))
    · exact Or.inr (Or.inr (Or.inr (Or.inl g)))
    · exact Or.inr (Or.inr (Or.inr (Or.inr (Or.inl (q1 t (hA t ht).1 g)))))
    · exact Or.inr (Or.inr (Or.inr (Or.inr (Or.inr g))))
  · refine ⟨⟨d01, d02, d12⟩, ?_, ?_, ?_⟩
    · intro t ht
      exact ⟨(p0 t ht).1, (p0 t ht).2.1, (p0 t ht).2.2.1, fun g => (p0 t ht).2.2.2.1 (q1 t (z0.2 t ht) g), (p0 t ht).2.2.2.2⟩
    · intro t ht
      rcases q2 t ht with g | g
      · exact p1 t g
      · rw [g]
        exact ⟨by omega, by omega, by omega, fun g => Nat.lt_irrefl _ (z0.2 _ g), fun g => Nat.lt_irrefl _ (z2.2 _ g)⟩
    · intro t ht
      exact ⟨(p2 t ht).1, (p2 t ht).2.1, (p2 t ht).2.2.1, (p2 t ht).2.2.2.1, fun g => (p2 t ht).2.2.2.2 (q1 t (z2.2 t ht) g)⟩
theorem HX_add2 {cy : Nat → ClassId} {tE : Nat} {S : KS} {A : Nat → Prop} {i0 i1 i2 : Nat} {o0 o1 o2 : Option Nat} {n0 n1 n2 : Int32} {f0 f1 f2 : Nat → Option Nat} {L' : va_W} {o' : Option Nat} {f' : Nat → Option Nat} {x : Nat} (h : HX cy tE S A i0 i1 i2 o0 o1 o2 n0 n1 n2 f0 f1 f2) (hl : LLs cy tE L' (S.2.1 2) i2 o' (n2 + 1) f') (hn : S.2.2.2.length ≤ L'.length) (hk : ∀ t : Nat, t < S.2.2.2.length → t ≠ i2 → o2 ≠ some t → L'[t]? = S.2.2.2[t]?) (ho : o' = o2 ∨ (o2 = none ∧ o' = some S.2.2.2.length)) (hf : f' n2.toNatClampNeg = some x) (hg : ∀ t : Nat, (t : Int) < n2.toInt → f' t = f2 t) (hx : CUp cy A S.2.2.2 x) (hm : n2.toInt + 1 ≤ 5) : HX cy tE (ksL S L') A i0 i1 i2 o0 o1 o' n0 n1 (n2 + 1) f0 f1 f' := by
  have hlt := HX_lt h
  obtain ⟨h3, ⟨l0, l1, l2⟩, ⟨b0, b1, b2⟩, e0, e1, e2, hr, hA, hD⟩ := h
  obtain ⟨⟨d01, d02, d12⟩, p0, p1, p2⟩ := hD
  have z0 := LLs_lt l0
  have z1 := LLs_lt l1
  have z2 := LLs_lt l2
  have bp := LLs_b l2
  have en : (n2 + 1).toInt = n2.toInt + 1 := inc1 (by omega)
  have kA : ∀ t, A t → A t ∧ L'[t]? = S.2.2.2[t]? := fun t ht => ⟨ht, hk t (hA t ht).1 (fun g => (hA t ht).2 (Or.inr (Or.inr (Or.inl g)))) (fun g => (hA t ht).2 (Or.inr (Or.inr (Or.inr (Or.inr (Or.inr g))))))⟩
  have m0 : LLs cy tE L' (S.2.1 0) i0 o0 n0 f0 := LLs_mo l0 (hk i0 z0.1 d02 (fun g => (p2 i0 g).1 rfl)) (fun j hj => hk j (z0.2 j hj) (p0 j hj).2.2.1 (p0 j hj).2.2.2.2)
  have m1 : LLs cy tE L' (S.2.1 1) i1 o1 n1 f1 := LLs_mo l1 (hk i1 z1.1 d12 (fun g => (p2 i1 g).2.1 rfl)) (fun j hj => hk j (z1.2 j hj) (p1 j hj).2.2.1 (p1 j hj).2.2.2.2)
  have q1 : ∀ t, t < S.2.2.2.length → o' = some t → o2 = some t := by
    intro t ht g
    rcases ho with rfl | ⟨_, hz⟩
    · exact g
    · rw [hz] at g; cases g; exact absurd ht (Nat.lt_irrefl _)
  have q2 : ∀ t, o' = some t → o2 = some t ∨ t = S.2.2.2.length := by
    intro t g
    rcases ho with rfl | ⟨_, hz⟩
    · exact Or.inl g
    · rw [hz] at g; cases g; exact Or.inr rfl
  refine ⟨h3, ⟨m0, m1, hl⟩, ⟨b0, b1, (by rw [en]; omega)⟩, ?_, ?_, ?_, ?_, ?_, ?_⟩
  · intro t ht
    obtain ⟨y, hy, hc⟩ := e0 t ht
    exact ⟨y, hy, ACp_mo kA hc⟩
  · intro t ht
    obtain ⟨y, hy, hc⟩ := e1 t ht
    exact ⟨y, hy, CLp_mo kA hc⟩
  · intro t ht
    rw [en] at ht
    by_cases hc_1 : (t : Int) < n2.toInt
    · obtain ⟨y, hy, hc⟩ := e2 t hc_1
      exact ⟨y, (hg t hc_1).trans hy, CUp_mo kA hc⟩
    · have et : t = n2.toNatClampNeg := by rw [tnc]; omega
      rw [et]
      exact ⟨x, hf, CUp_mo kA hx⟩
  · intro i hi q hq
    exact ACp_mo kA (hr i hi q hq)
  · intro t ht
    refine ⟨Nat.lt_of_lt_of_le (hA t ht).1 hn, fun g => (hA t ht).2 ?_⟩
    rcases g with g | g | g | g | g | g
    · exact Or.inl g
    · exact Or.inr (Or.inl g)
    · exact Or.inr (Or.inr (Or.inl g))
    · exact Or.inr (Or.inr (Or.inr (Or.inl g)))
    · exact Or.inr (Or.inr (Or.inr (Or.inr (Or.inl g))))
    · exact Or.inr (Or.inr (Or.inr (Or.inr (Or.inr (q1 t (hA t ht).1 g)))))
  · refine ⟨⟨d01, d02, d12⟩, ?_, ?_, ?_⟩
    · intro t ht
      exact ⟨(p0 t ht).1, (p0 t ht).2.1, (p0 t ht).2.2.1, (p0 t ht).2.2.2.1, fun g => (p0 t ht).2.2.2.2 (q1 t (z0.2 t ht) g)⟩
    · intro t ht
      exact ⟨(p1 t ht).1, (p1 t ht).2.1, (p1 t ht).2.2.1, (p1 t ht).2.2.2.1, fun g => (p1 t ht).2.2.2.2 (q1 t (z1.2 t ht) g)⟩
    · intro t ht
      rcases q2 t ht with g | g
      · exact p2 t g
      · rw [g]
        exact ⟨by omega, by omega, by omega, fun g => Nat.lt_irrefl _ (z0.2 _ g), fun g => Nat.lt_irrefl _ (z1.2 _ g)⟩
