theorem CLp_mo {cy : Nat → ClassId} {A B : Nat → Prop} {L L' : va_W} {q : Nat} (hA : ∀ t, A t → B t ∧ L'[t]? = L[t]?) (h : CLp cy A L q) : CLp cy B L' q := by
  obtain ⟨i, k, f, o, ai, hi, j, n, g, aj, hj, hn⟩ := h
  exact ⟨i, k, f, o, (hA i ai).1, (hA i ai).2.trans hi, j, n, g, (hA j aj).1, (hA j aj).2.trans hj, hn⟩
theorem CUp_mo {cy : Nat → ClassId} {A B : Nat → Prop} {L L' : va_W} {q : Nat} (hA : ∀ t, A t → B t ∧ L'[t]? = L[t]?) (h : CUp cy A L q) : CUp cy B L' q := by
  obtain ⟨i, a, c, ai, hi, hc⟩ := h
  exact ⟨i, a, c, (hA i ai).1, (hA i ai).2.trans hi, CLp_mo hA hc⟩
theorem LSp_mo {cy : Nat → ClassId} {A B : Nat → Prop} {L L' : va_W} {q : Nat} (hA : ∀ t, A t → B t ∧ L'[t]? = L[t]?) {P Q : Nat → Prop} (hP : ∀ x, P x → Q x) (h : LSp cy A L P q) : LSp cy B L' Q q := by
  obtain ⟨i, m, e, n, ai, hi, n0, n1, hc⟩ := h
  refine ⟨i, m, e, n, (hA i ai).1, (hA i ai).2.trans hi, n0, n1, ?_⟩
  rcases hc with h | ⟨j, c, f, aj, hj, hn, hf⟩
  · exact Or.inl h
  · exact Or.inr ⟨j, c, f, (hA j aj).1, (hA j aj).2.trans hj, hn, fun k hk => by
      obtain ⟨x, hx, hp⟩ := hf k hk
      exact ⟨x, hx, hP x hp⟩⟩
theorem ACp_mo {cy : Nat → ClassId} {A B : Nat → Prop} {L L' : va_W} {q : Nat} (hA : ∀ t, A t → B t ∧ L'[t]? = L[t]?) (h : ACp cy A L q) : ACp cy B L' q := by
  obtain ⟨i, nm, nd, mk, wo, wt, ai, hi, h1, h2⟩ := h
  exact ⟨i, nm, nd, mk, wo, wt, (hA i ai).1, (hA i ai).2.trans hi, LSp_mo hA (fun _ => CLp_mo hA) h1, LSp_mo hA (fun _ => CLp_mo hA) h2⟩
theorem LLs_LSp {cy : Nat → ClassId} {tE : Nat} {L : va_W} {q i : Nat} {o : Option Nat} {n : Int32} {f : Nat → Option Nat} {B P : Nat → Prop} (h : LLs cy tE L q i o n f) (hi : B i) (ho : ∀ j, o = some j → B j) (hf : ∀ t : Nat, (t : Int) < n.toInt → ∃ x, f t = some x ∧ P x) : LSp cy B L P q := by
  obtain ⟨m, e, h1, h2, h3⟩ := h
  refine ⟨i, m, e, n, hi, h1, h2.1, h2.2, ?_⟩
  rcases h3 with ⟨_, _, h0⟩ | ⟨j, hj, _, ha⟩
  · exact Or.inl (by rw [h0]; decide)
  · exact Or.inr ⟨j, 10, f, ho j hj, ha, h2.2, hf⟩

