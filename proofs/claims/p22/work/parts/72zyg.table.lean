/-- a table: T p is -1, or the number of what stands there; from hh j on number j is found -/
def TBI (hh : Nat → Nat) (T : Nat → Int) (n : Nat) : Prop := (∀ p, p < 1024 → T p = -1 ∨ (0 ≤ T p ∧ T p < (n : Int))) ∧ (∀ p q, p < 1024 → q < 1024 → T p = T q → T p ≠ -1 → p = q) ∧ ∀ j, j < n → ∃ d, d < 1024 ∧ T ((hh j + d) % 1024) = (j : Int) ∧ ∀ d', d' < d → T ((hh j + d') % 1024) ≠ -1
theorem TBI_0 {hh : Nat → Nat} {T : Nat → Int} (h : ∀ p, p < 1024 → T p = -1) : TBI hh T 0 := ⟨fun p hp => Or.inl (h p hp), fun p q hp _ _ h2 => absurd (h p hp) h2, fun j hj => absurd hj (Nat.not_lt_zero _)⟩
theorem TBI_cg {hh hh' : Nat → Nat} {T T' : Nat → Int} {n : Nat} (h : TBI hh T n) (e1 : ∀ j, j < n → hh' j = hh j) (e2 : ∀ p, p < 1024 → T' p = T p) : TBI hh' T' n := by
  obtain ⟨h1, h2, h3⟩ := h
  refine ⟨fun p hp => by rw [e2 p hp]; exact h1 p hp, fun p q hp hq => by rw [e2 p hp, e2 q hq]; exact h2 p q hp hq, fun j hj => ?_⟩
  obtain ⟨d, d1, d2, d3⟩ := h3 j hj
  refine ⟨d, d1, ?_, fun d' hd' => ?_⟩
  · rw [e1 j hj, e2 _ (Nat.mod_lt _ (by decide))]; exact d2
  · rw [e1 j hj, e2 _ (Nat.mod_lt _ (by decide))]; exact d3 d' hd'
/-- some place is free -/
theorem TBI_f {hh : Nat → Nat} {T : Nat → Int} {n : Nat} (h : TBI hh T n) (hn : n ≤ 400) (k : Nat) : ∃ d, d < 1024 ∧ T ((k + d) % 1024) = -1 := by
  apply Classical.byContradiction
  intro hno
  have all : ∀ p, p < 1024 → T p ≠ -1 := by
    intro p hp e
    apply hno
    refine ⟨(p + 1024 - k % 1024) % 1024, Nat.mod_lt _ (by decide), ?_⟩
    have e2 : (k + (p + 1024 - k % 1024) % 1024) % 1024 = p := by omega
    rw [e2]; exact e
  obtain ⟨h1, h2, -⟩ := h
  have ho : ∀ p, p < 1024 → 0 ≤ T p ∧ T p < (n : Int) := fun p hp => (h1 p hp).resolve_left (all p hp)
  have := pig 400 1024 (fun p => (T p).toNat) (fun i hi => by
    have := ho i hi
    show (T i).toNat < 400
    omega) (fun i j hi hj e => by
    have a := ho i hi
    have b := ho j hj
    have e' : (T i).toNat = (T j).toNat := e
    exact h2 i j hi hj (by omega) (all i hi))
  omega
/-- the first free place, or where the number stands that S says -/
theorem TBI_s {hh : Nat → Nat} {T : Nat → Int} {n : Nat} (h : TBI hh T n) (hn : n ≤ 400) (S : Nat → Prop) {k : Nat} (hS : ∀ j, j < n → S j → hh j = k) (hk : k < 1024) {d : Nat} (hp : ∀ d', d' < d → T ((k + d') % 1024) ≠ -1 ∧ ¬ (S (T ((k + d') % 1024)).toNat)) (he : T ((k + d) % 1024) = -1 ∨ S (T ((k + d) % 1024)).toNat) (hd : d < 1024) : (T ((k + d) % 1024) = -1 ∧ ∀ j, j < n → ¬ S j) ∨ (T ((k + d) % 1024) ≠ -1 ∧ ∃ j, j < n ∧ S j) := by
  obtain ⟨h1, h2, h3⟩ := h
  by_cases e : T ((k + d) % 1024) = -1
  · refine Or.inl ⟨e, fun j hj hs => ?_⟩
    obtain ⟨d0, d1, d2, d3⟩ := h3 j hj
    rw [hS j hj hs] at d2 d3
    rcases Nat.lt_trichotomy d d0 with g | g | g
    · exact d3 d g e
    · rw [← g, e] at d2; omega
    · apply (hp d0 g).2
      rw [d2]
      exact hs
  · refine Or.inr ⟨e, ?_⟩
    have b := (h1 _ (Nat.mod_lt (k + d) (by decide))).resolve_left e
    exact ⟨(T ((k + d) % 1024)).toNat, by omega, he.resolve_left e⟩
/-- one more -/
theorem TBI_a {hh hh' : Nat → Nat} {T T' : Nat → Int} {n : Nat} (h : TBI hh T n) {k d : Nat} (hd : d < 1024) (hp : ∀ d', d' < d → T ((k + d') % 1024) ≠ -1) (he : T ((k + d) % 1024) = -1) (e1 : ∀ j, j < n → hh' j = hh j) (e2 : hh' n = k) (e3 : T' ((k + d) % 1024) = (n : Int)) (e4 : ∀ p, p < 1024 → p ≠ (k + d) % 1024 → T' p = T p) : TBI hh' T' (n + 1) := by
  obtain ⟨h1, h2, h3⟩ := h
  have keep : ∀ p, p < 1024 → T p ≠ -1 → T' p = T p := fun p hp2 g => e4 p hp2 (fun e => g (by rw [e]; exact he))
  have full : ∀ p, p < 1024 → T p ≠ -1 → T' p ≠ -1 := fun p hp2 g => by rw [keep p hp2 g]; exact g
  refine ⟨fun p hp2 => ?_, fun p q hp2 hq2 e g => ?_, fun j hj => ?_⟩
  · by_cases ep : p = (k + d) % 1024
    · rw [ep, e3]; omega
    · rw [e4 p hp2 ep]
      rcases h1 p hp2 with g | g
      · exact Or.inl g
      · exact Or.inr ⟨g.1, by omega⟩
  · by_cases ep : p = (k + d) % 1024
    · by_cases eq : q = (k + d) % 1024
      · rw [ep, eq]
      · exfalso
        rw [ep, e3, e4 q hq2 eq] at e
        rcases h1 q hq2 with z | z <;> omega
    · by_cases eq : q = (k + d) % 1024
      · exfalso
        rw [eq, e3, e4 p hp2 ep] at e
        rcases h1 p hp2 with z | z <;> omega
      · rw [e4 p hp2 ep] at g
        rw [e4 p hp2 ep, e4 q hq2 eq] at e
        exact h2 p q hp2 hq2 e g
  · by_cases ej : j = n
    · rw [ej, e2]
      refine ⟨d, hd, e3, fun d' hd' => full _ (Nat.mod_lt _ (by decide)) (hp d' hd')⟩
    · have hj2 : j < n := by omega
      obtain ⟨d0, d1, d2, d3⟩ := h3 j hj2
      rw [e1 j hj2]
      refine ⟨d0, d1, ?_, fun d' hd' => full _ (Nat.mod_lt _ (by decide)) (d3 d' hd')⟩
      rw [keep _ (Nat.mod_lt _ (by decide)) (by rw [d2]; omega)]
      exact d2
theorem a1023 : ∀ n, n < 2048 → ((nI n) &&& 1023).toInt = ((n % 1024 : Nat) : Int) := by decide +kernel
