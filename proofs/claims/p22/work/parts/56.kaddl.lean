set_option maxHeartbeats 400000 in
theorem r_addL_X1 (cy : Nat → ClassId) (tE : Nat) (mc ms : Nat) (S : KS) (post : Int32 → KS → Prop) (q x i ix : Nat) (o : Option Nat) (n : Int32) (f : Nat → Option Nat) (fx : List Value) (hL : LLs cy tE S.2.2.2 q i o n f) (hn : n.toInt < 10) (hx : S.2.2.2[ix]? = some (x, .inr (2, fx))) (hm : 1 ≤ mc ∧ 10 ≤ ms) (k : ∀ (L' : va_W) (o' : Option Nat) (f' : Nat → Option Nat), LLs cy tE L' q i o' (n + 1) f' → S.2.2.2.length ≤ L'.length → (∀ t : Nat, t < S.2.2.2.length → t ≠ i → o ≠ some t → L'[t]? = S.2.2.2[t]?) → (o' = o ∨ (o = none ∧ o' = some S.2.2.2.length)) → f' n.toNatClampNeg = some x → (∀ t : Nat, (t : Int) < n.toInt → f' t = f t) → post 1 (ksL S L')) : w_Jx4a65c_add_9ea2d_X1 cy tE mc ms S q x post := by
  obtain ⟨m, e, hi, hb, hc⟩ := hL
  have hl : i < S.2.2.2.length := wl_lt hi
  refine r_add_X1 cy tE mc ms S post q x i ix m n e fx hi hx hm ⟨hb.1, hn⟩ ?_
  rcases hc with ⟨ho, he, hn0⟩ | ⟨j, ho, hji, hj⟩
  · refine Or.inl ⟨he, hn0, fun e2 => ?_⟩
    have ln : (S.2.2.2.set i (lsC q (m + 1) e2 1)).length = S.2.2.2.length := List.length_set ..
    have e1 : n + 1 = 1 := by rw [hn0]; decide
    have ez : n.toNatClampNeg = 0 := by rw [hn0]; decide
    refine k _ (some S.2.2.2.length) (va_up (fun _ => none) 0 (some x)) ⟨m + 1, e2, ?_, ?_, Or.inr ⟨S.2.2.2.length, rfl, by omega, ?_⟩⟩ ?_ ?_ (Or.inr ⟨ho, rfl⟩) ?_ ?_
    · rw [e1, vn_lt (by rw [ln]; exact hl)]; exact st_at hi
    · rw [e1]; decide
    · rw [← ln]; exact vn_at _ _
    · rw [vn_ln, ln]; omega
    · intro t ht hti _
      rw [vn_lt (by rw [ln]; exact ht), st_ne (fun h => hti h.symm)]
    · rw [ez]; simp [va_up]
    · intro t ht
      rw [hn0, li_0] at ht
      omega
  · refine Or.inr ⟨j, f, hj, hji, ?_⟩
    have hj1 : (S.2.2.2.set j (arC cy e 10 (va_up f n.toNatClampNeg (some x))))[i]? = some (lsC q m e n) := by
      rw [st_ne hji]; exact hi
    have e1 := inc1 (x := n) (by omega)
    refine k _ o (va_up f n.toNatClampNeg (some x)) ⟨m + 1, e, st_at hj1, by rw [e1]; omega, Or.inr ⟨j, ho, hji, ?_⟩⟩ ?_ ?_ (Or.inl rfl) ?_ ?_
    · rw [st_ne (fun h => hji h.symm)]; exact st_at hj
    · rw [List.length_set, List.length_set]; exact Nat.le_refl _
    · intro t ht hti hot
      rw [st_ne (fun h => hti h.symm), st_ne (fun h => hot (by rw [ho, h]))]
    · simp [va_up]
    · intro t ht
      have hne : t ≠ n.toNatClampNeg := by rw [tnc]; omega
      simp [va_up, hne]

set_option maxHeartbeats 400000 in
theorem r_addL_X3 (cy : Nat → ClassId) (tE : Nat) (mc ms : Nat) (S : KS) (post : Int32 → KS → Prop) (q x i ix : Nat) (o : Option Nat) (n : Int32) (f : Nat → Option Nat) (fx : List Value) (hL : LLs cy tE S.2.2.2 q i o n f) (hn : n.toInt < 10) (hx : S.2.2.2[ix]? = some (x, .inr (4, fx))) (hm : 1 ≤ mc ∧ 10 ≤ ms) (k : ∀ (L' : va_W) (o' : Option Nat) (f' : Nat → Option Nat), LLs cy tE L' q i o' (n + 1) f' → S.2.2.2.length ≤ L'.length → (∀ t : Nat, t < S.2.2.2.length → t ≠ i → o ≠ some t → L'[t]? = S.2.2.2[t]?) → (o' = o ∨ (o = none ∧ o' = some S.2.2.2.length)) → f' n.toNatClampNeg = some x → (∀ t : Nat, (t : Int) < n.toInt → f' t = f t) → post 1 (ksL S L')) : w_Jx4a65c_add_9ea2d_X3 cy tE mc ms S q x post := by
  obtain ⟨m, e, hi, hb, hc⟩ := hL
  have hl : i < S.2.2.2.length := wl_lt hi
  refine r_add_X3 cy tE mc ms S post q x i ix m n e fx hi hx hm ⟨hb.1, hn⟩ ?_
  rcases hc with ⟨ho, he, hn0⟩ | ⟨j, ho, hji, hj⟩
  · refine Or.inl ⟨he, hn0, fun e2 => ?_⟩
    have ln : (S.2.2.2.set i (lsC q (m + 1) e2 1)).length = S.2.2.2.length := List.length_set ..
    have e1 : n + 1 = 1 := by rw [hn0]; decide
    have ez : n.toNatClampNeg = 0 := by rw [hn0]; decide
    refine k _ (some S.2.2.2.length) (va_up (fun _ => none) 0 (some x)) ⟨m + 1, e2, ?_, ?_, Or.inr ⟨S.2.2.2.length, rfl, by omega, ?_⟩⟩ ?_ ?_ (Or.inr ⟨ho, rfl⟩) ?_ ?_
    · rw [e1, vn_lt (by rw [ln]; exact hl)]; exact st_at hi
    · rw [e1]; decide
    · rw [← ln]; exact vn_at _ _
    · rw [vn_ln, ln]; omega
    · intro t ht hti _
      rw [vn_lt (by rw [ln]; exact ht), st_ne (fun h => hti h.symm)]
    · rw [ez]; simp [va_up]
    · intro t ht
      rw [hn0, li_0] at ht
      omega
  · refine Or.inr ⟨j, f, hj, hji, ?_⟩
    have hj1 : (S.2.2.2.set j (arC cy e 10 (va_up f n.toNatClampNeg (some x))))[i]? = some (lsC q m e n) := by
      rw [st_ne hji]; exact hi
    have e1 := inc1 (x := n) (by omega)
    refine k _ o (va_up f n.toNatClampNeg (some x)) ⟨m + 1, e, st_at hj1, by rw [e1]; omega, Or.inr ⟨j, ho, hji, ?_⟩⟩ ?_ ?_ (Or.inl rfl) ?_ ?_
    · rw [st_ne (fun h => hji h.symm)]; exact st_at hj
    · rw [List.length_set, List.length_set]; exact Nat.le_refl _
    · intro t ht hti hot
      rw [st_ne (fun h => hti h.symm), st_ne (fun h => hot (by rw [ho, h]))]
    · simp [va_up]
    · intro t ht
      have hne : t ≠ n.toNatClampNeg := by rw [tnc]; omega
      simp [va_up, hne]

set_option maxHeartbeats 400000 in
theorem r_addL_X0 (cy : Nat → ClassId) (tE : Nat) (mc ms : Nat) (S : KS) (post : Int32 → KS → Prop) (q x i ix : Nat) (o : Option Nat) (n : Int32) (f : Nat → Option Nat) (fx : List Value) (hL : LLs cy tE S.2.2.2 q i o n f) (hn : n.toInt < 10) (hx : S.2.2.2[ix]? = some (x, .inr (1, fx))) (hm : 1 ≤ mc ∧ 10 ≤ ms) (k : ∀ (L' : va_W) (o' : Option Nat) (f' : Nat → Option Nat), LLs cy tE L' q i o' (n + 1) f' → S.2.2.2.length ≤ L'.length → (∀ t : Nat, t < S.2.2.2.length → t ≠ i → o ≠ some t → L'[t]? = S.2.2.2[t]?) → (o' = o ∨ (o = none ∧ o' = some S.2.2.2.length)) → f' n.toNatClampNeg = some x → (∀ t : Nat, (t : Int) < n.toInt → f' t = f t) → post 1 (ksL S L')) : w_Jx4a65c_add_9ea2d_X0 cy tE mc ms S q x post := by
  obtain ⟨m, e, hi, hb, hc⟩ := hL
  have hl : i < S.2.2.2.length := wl_lt hi
  refine r_add_X0 cy tE mc ms S post q x i ix m n e fx hi hx hm ⟨hb.1, hn⟩ ?_
  rcases hc with ⟨ho, he, hn0⟩ | ⟨j, ho, hji, hj⟩
  · refine Or.inl ⟨he, hn0, fun e2 => ?_⟩
    have ln : (S.2.2.2.set i (lsC q (m + 1) e2 1)).length = S.2.2.2.length := List.length_set ..
    have e1 : n + 1 = 1 := by rw [hn0]; decide
    have ez : n.toNatClampNeg = 0 := by rw [hn0]; decide
    refine k _ (some S.2.2.2.length) (va_up (fun _ => none) 0 (some x)) ⟨m + 1, e2, ?_, ?_, Or.inr ⟨S.2.2.2.length, rfl, by omega, ?_⟩⟩ ?_ ?_ (Or.inr ⟨ho, rfl⟩) ?_ ?_
    · rw [e1, vn_lt (by rw [ln]; exact hl)]; exact st_at hi
    · rw [e1]; decide
    · rw [← ln]; exact vn_at _ _
    · rw [vn_ln, ln]; omega
    · intro t ht hti _
      rw [vn_lt (by rw [ln]; exact ht), st_ne (fun h => hti h.symm)]
    · rw [ez]; simp [va_up]
    · intro t ht
      rw [hn0, li_0] at ht
      omega
  · refine Or.inr ⟨j, f, hj, hji, ?_⟩
    have hj1 : (S.2.2.2.set j (arC cy e 10 (va_up f n.toNatClampNeg (some x))))[i]? = some (lsC q m e n) := by
      rw [st_ne hji]; exact hi
    have e1 := inc1 (x := n) (by omega)
    refine k _ o (va_up f n.toNatClampNeg (some x)) ⟨m + 1, e, st_at hj1, by rw [e1]; omega, Or.inr ⟨j, ho, hji, ?_⟩⟩ ?_ ?_ (Or.inl rfl) ?_ ?_
    · rw [st_ne (fun h => hji h.symm)]; exact st_at hj
    · rw [List.length_set, List.length_set]; exact Nat.le_refl _
    · intro t ht hti hot
      rw [st_ne (fun h => hti h.symm), st_ne (fun h => hot (by rw [ho, h]))]
    · simp [va_up]
    · intro t ht
      have hne : t ≠ n.toNatClampNeg := by rw [tnc]; omega
      simp [va_up, hne]

