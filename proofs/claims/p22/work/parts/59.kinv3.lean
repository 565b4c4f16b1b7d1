theorem LLs_mo {cy : Nat → ClassId} {tE : Nat} {L L' : va_W} {q i : Nat} {o : Option Nat} {n : Int32} {f : Nat → Option Nat} (h : LLs cy tE L q i o n f) (hi : L'[i]? = L[i]?) (ho : ∀ j, o = some j → L'[j]? = L[j]?) : LLs cy tE L' q i o n f := by
  obtain ⟨m, e, h1, h2, h3⟩ := h
  refine ⟨m, e, hi.trans h1, h2, ?_⟩
  rcases h3 with h | ⟨j, hj, hji, ha⟩
  · exact Or.inl h
  · exact Or.inr ⟨j, hj, hji, (ho j hj).trans ha⟩
theorem HX_tape {cy : Nat → ClassId} {tE : Nat} {S : KS} {A : Nat → Prop} {i0 i1 i2 : Nat} {o0 o1 o2 : Option Nat} {n0 n1 n2 : Int32} {f0 f1 f2 f' : Nat → Option Nat} {L' : va_W} (h : HX cy tE S A i0 i1 i2 o0 o1 o2 n0 n1 n2 f0 f1 f2) (hl : LLs cy tE L' (S.2.1 0) i0 o0 0 f') (hn : L'.length = S.2.2.2.length) (hk : ∀ t, t ≠ i0 → o0 ≠ some t → L'[t]? = S.2.2.2[t]?) : HX cy tE (ksL S L') A i0 i1 i2 o0 o1 o2 0 n1 n2 f' f1 f2 := by
  obtain ⟨h3, ⟨l0, l1, l2⟩, ⟨b0, b1, b2⟩, e0, e1, e2, hr, hA, hD⟩ := h
  have hD2 := hD
  obtain ⟨⟨d01, d02, d12⟩, p0, p1, p2⟩ := hD2
  have kA : ∀ t, A t → A t ∧ L'[t]? = S.2.2.2[t]? := fun t ht => ⟨ht, hk t (fun g => (hA t ht).2 (Or.inl g)) (fun g => (hA t ht).2 (Or.inr (Or.inr (Or.inr (Or.inl g)))))⟩
  have m1 : LLs cy tE L' (S.2.1 1) i1 o1 n1 f1 := LLs_mo l1 (hk i1 (fun g => d01 g.symm) (fun g => (p0 i1 g).2.1 rfl)) (fun j hj => hk j (p1 j hj).1 (p1 j hj).2.2.2.1)
  have m2 : LLs cy tE L' (S.2.1 2) i2 o2 n2 f2 := LLs_mo l2 (hk i2 (fun g => d02 g.symm) (fun g => (p0 i2 g).2.2.1 rfl)) (fun j hj => hk j (p2 j hj).1 (p2 j hj).2.2.2.1)
  refine ⟨h3, ⟨hl, m1, m2⟩, ⟨by decide, b1, b2⟩, ?_, ?_, ?_, ?_, ?_, hD⟩
  · intro t ht
    rw [li_0] at ht
    omega
  · intro t ht
    obtain ⟨x, hx, hc⟩ := e1 t ht
    exact ⟨x, hx, CLp_mo kA hc⟩
  · intro t ht
    obtain ⟨x, hx, hc⟩ := e2 t ht
    exact ⟨x, hx, CUp_mo kA hc⟩
  · intro i hi q hq
    exact ACp_mo kA (hr i hi q hq)
  · intro t ht
    refine ⟨?_, (hA t ht).2⟩
    show t < L'.length
    rw [hn]
    exact (hA t ht).1

