/-- places of the three lists -/
def IxC (i0 i1 i2 : Nat) (o0 o1 o2 : Option Nat) (t : Nat) : Prop := t = i0 ∨ t = i1 ∨ t = i2 ∨ o0 = some t ∨ o1 = some t ∨ o2 = some t
def IxD (i0 i1 i2 : Nat) (o0 o1 o2 : Option Nat) : Prop := (i0 ≠ i1 ∧ i0 ≠ i2 ∧ i1 ≠ i2) ∧ (∀ t, o0 = some t → t ≠ i0 ∧ t ≠ i1 ∧ t ≠ i2 ∧ o1 ≠ some t ∧ o2 ≠ some t) ∧ (∀ t, o1 = some t → t ≠ i0 ∧ t ≠ i1 ∧ t ≠ i2 ∧ o0 ≠ some t ∧ o2 ≠ some t) ∧ (∀ t, o2 = some t → t ≠ i0 ∧ t ≠ i1 ∧ t ≠ i2 ∧ o0 ≠ some t ∧ o1 ≠ some t)
def HX (cy : Nat → ClassId) (tE : Nat) (S : KS) (A : Nat → Prop) (i0 i1 i2 : Nat) (o0 o1 o2 : Option Nat) (n0 n1 n2 : Int32) (f0 f1 f2 : Nat → Option Nat) : Prop := S.2.1 3 < 5 ∧ (LLs cy tE S.2.2.2 (S.2.1 0) i0 o0 n0 f0 ∧ LLs cy tE S.2.2.2 (S.2.1 1) i1 o1 n1 f1 ∧ LLs cy tE S.2.2.2 (S.2.1 2) i2 o2 n2 f2) ∧ (n0.toInt ≤ 6 ∧ n1.toInt ≤ 6 ∧ n2.toInt ≤ 5) ∧ (∀ t : Nat, (t : Int) < n0.toInt → ∃ x, f0 t = some x ∧ ACp cy A S.2.2.2 x) ∧ (∀ t : Nat, (t : Int) < n1.toInt → ∃ x, f1 t = some x ∧ CLp cy A S.2.2.2 x) ∧ (∀ t : Nat, (t : Int) < n2.toInt → ∃ x, f2 t = some x ∧ CUp cy A S.2.2.2 x) ∧ (∀ i, i < 12 → ∀ q, S.2.2.1 i = some q → ACp cy A S.2.2.2 q) ∧ (∀ t, A t → t < S.2.2.2.length ∧ ¬ IxC i0 i1 i2 o0 o1 o2 t) ∧ IxD i0 i1 i2 o0 o1 o2
theorem HX_HQ {cy : Nat → ClassId} {tE : Nat} {S : KS} {A : Nat → Prop} {i0 i1 i2 : Nat} {o0 o1 o2 : Option Nat} {n0 n1 n2 : Int32} {f0 f1 f2 : Nat → Option Nat} (h : HX cy tE S A i0 i1 i2 o0 o1 o2 n0 n1 n2 f0 f1 f2) : HQ cy S := by
  obtain ⟨h3, ⟨-, l1, l2⟩, -, -, e1, e2, hr, -, -⟩ := h
  have hA : ∀ t, A t → (A t ∨ IxC i0 i1 i2 o0 o1 o2 t) ∧ S.2.2.2[t]? = S.2.2.2[t]? := fun t ht => ⟨Or.inl ht, rfl⟩
  refine ⟨fun t => A t ∨ IxC i0 i1 i2 o0 o1 o2 t, h3, ?_, ?_, fun i hi q hq => ACp_mo hA (hr i hi q hq)⟩
  · exact LLs_LSp l1 (Or.inr (Or.inr (Or.inl rfl))) (fun j hj => Or.inr (Or.inr (Or.inr (Or.inr (Or.inr (Or.inl hj)))))) (fun t ht => by
      obtain ⟨x, hx, hc⟩ := e1 t ht
      exact ⟨x, hx, CLp_mo hA hc⟩)
  · exact LLs_LSp l2 (Or.inr (Or.inr (Or.inr (Or.inl rfl)))) (fun j hj => Or.inr (Or.inr (Or.inr (Or.inr (Or.inr (Or.inr hj)))))) (fun t ht => by
      obtain ⟨x, hx, hc⟩ := e2 t ht
      exact ⟨x, hx, CUp_mo hA hc⟩)
theorem HX_kf {I J M : List Nat} {cy : Nat → ClassId} {tE : Nat} {S S' : KS} {A : Nat → Prop} {i0 i1 i2 : Nat} {o0 o1 o2 : Option Nat} {n0 n1 n2 : Int32} {f0 f1 f2 : Nat → Option Nat} (h : HX cy tE S A i0 i1 i2 o0 o1 o2 n0 n1 n2 f0 f1 f2) (f : KF I J M S S') : HX cy tE S' A i0 i1 i2 o0 o1 o2 n0 n1 n2 f0 f1 f2 := by
  have e2 : S'.2.2.2 = S.2.2.2 := by rw [f.2.1]
  have e1 : S'.2.2.1 = S.2.2.1 := by rw [f.2.1]
  have a0 : S'.2.1 0 = S.2.1 0 := f.2.2.1 0 (by decide)
  have a1 : S'.2.1 1 = S.2.1 1 := f.2.2.1 1 (by decide)
  have a2 : S'.2.1 2 = S.2.1 2 := f.2.2.1 2 (by decide)
  have h3 := f.2.2.2.1 h.1
  have hr := h.2
  unfold HX
  rw [e2, e1, a0, a1, a2]
  exact ⟨h3, hr⟩

