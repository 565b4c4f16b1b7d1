theorem vn_lt {L : va_W} {c : Nat × va_E} {i : Nat} (h : i < L.length) : (vn L c)[i]? = L[i]? := List.getElem?_append_left h
theorem vn_at (L : va_W) (c : Nat × va_E) : (vn L c)[L.length]? = some c := by simp [vn]
theorem vn_ln (L : va_W) (c : Nat × va_E) : (vn L c).length = L.length + 1 := by simp [vn]
theorem vn_set (L : va_W) (c d : Nat × va_E) : (vn L c).set L.length d = vn L d := by simp [vn]
theorem vn_set2 (L : va_W) (c d e : Nat × va_E) : (vn (vn L c) d).set L.length e = vn (vn L e) d := by
  simp [vn]
theorem wl_lt {L : va_W} {i : Nat} {x : Nat × va_E} (h : L[i]? = some x) : i < L.length := (List.getElem?_eq_some_iff.mp h).1
theorem st_at {L : va_W} {i : Nat} {x y : Nat × va_E} (h : L[i]? = some x) : (L.set i y)[i]? = some y := by
  rw [List.getElem?_set_self (wl_lt h)]
theorem st_ne {L : va_W} {i j : Nat} {y : Nat × va_E} (h : i ≠ j) : (L.set i y)[j]? = L[j]? := List.getElem?_set_ne h
set_option maxHeartbeats 400000 in
theorem r_7_copyOf (cy : Nat → ClassId) (tE : Nat) (mc ms : Nat) (S : KS) (p : Int32) (post : Option Nat → KS → Prop) (h0 : 0 ≤ p.toInt) (h7 : p.toInt < 700) (hm : 1 ≤ mc ∧ p.toNatClampNeg ≤ ms) (k : ∀ q g, post (some q) (ksL S (vn S.2.2.2 (q, .inl (cy 0, p.toNatClampNeg, .inl g))))) : w_J7_copyOf_59c91 cy tE mc ms S p post := by
  have hp : p < 700 := by rw [Int32.lt_iff_toInt_lt, li_700]; exact h7
  have hn : p.toNatClampNeg ≤ 700 := by rw [tnc]; omega
  refine ⟨fun _ => ⟨⟨h0, by omega⟩, ⟨by omega, by omega⟩, fun q => ⟨⟨by omega, by omega⟩, S.2.2.2.length, p.toNatClampNeg, _, vn_at _ _, ?_, ⟨by omega, by omega⟩, ?_⟩⟩, fun g => by omega⟩
  · rw [if_pos hp]
    exact ⟨h0, hn, Nat.le_refl _⟩
  · rw [vn_set]
    exact k q _
set_option maxHeartbeats 400000 in
theorem r_1_init (cy : Nat → ClassId) (tE : Nat) (S : KS) (q : Nat) (x y : Int32) (a : Nat) (post : KS → Prop) (i : Nat) (f g : Int32) (v : Value) (h : S.2.2.2[i]? = some (q, .inr (2, [.int f, .int g, v]))) (k : post (ksL S (S.2.2.2.set i (q, .inr (2, [.int x, .int y, .ref a]))))) : w_X1_init cy tE S q x y a post := by
  refine ⟨i, f, g, v, h, i, x, g, v, st_at h, i, x, y, v, ?_, ?_⟩
  · rw [List.set_set]; exact st_at h
  · rw [List.set_set, List.set_set]; exact k
set_option maxHeartbeats 400000 in
theorem r_3_init (cy : Nat → ClassId) (tE : Nat) (S : KS) (q : Nat) (x : Int32) (a : Nat) (post : KS → Prop) (i : Nat) (f : Int32) (v : Value) (h : S.2.2.2[i]? = some (q, .inr (4, [.int f, v]))) (k : post (ksL S (S.2.2.2.set i (q, .inr (4, [.int x, .ref a]))))) : w_X3_init cy tE S q x a post := by
  refine ⟨i, f, v, h, i, x, v, st_at h, ?_⟩
  rw [List.set_set]; exact k
set_option maxHeartbeats 400000 in
theorem r_5_clause (cy : Nat → ClassId) (tE : Nat) (mc ms : Nat) (S : KS) (x y : Int32) (post : Option Nat → KS → Prop) (h0 : 0 ≤ (fi S.1 16).toInt) (h7 : (fi S.1 16).toInt < 700) (hm : 2 ≤ mc ∧ 3 + (fi S.1 16).toNatClampNeg ≤ ms) (k : ∀ q o g, post (some q) (ksL S (vn (vn S.2.2.2 (q, .inr (2, [.int x, .int y, .ref o]))) (o, .inl (cy 0, (fi S.1 16).toNatClampNeg, .inl g))))) : w_X5_clause cy tE mc ms S x y post := by
  refine ⟨⟨by omega, by omega⟩, fun q => ⟨1, (fi S.1 16).toNatClampNeg, ⟨by omega, by omega⟩, ?_⟩⟩
  refine r_7_copyOf cy tE 1 _ (ksL S (vn S.2.2.2 (q, .inr (2, [.int 0, .int 0, .null])))) (fi S.1 16) _ h0 h7 ⟨by omega, Nat.le_refl _⟩ (fun o g => ⟨o, rfl, ⟨by omega, by omega⟩, ?_⟩)
  have hi : (vn (vn S.2.2.2 (q, .inr (2, [.int 0, .int 0, .null]))) (o, .inl (cy 0, (fi S.1 16).toNatClampNeg, .inl g)))[S.2.2.2.length]? = some (q, .inr (2, [.int 0, .int 0, .null])) := by
    rw [vn_lt (by rw [vn_ln]; omega)]
    exact vn_at _ _
  refine r_1_init cy tE _ q x y o _ S.2.2.2.length 0 0 .null hi ⟨⟨by omega, by omega⟩, ?_⟩
  have e := vn_set2 S.2.2.2 (q, .inr (2, [.int 0, .int 0, .null])) (o, .inl (cy 0, (fi S.1 16).toNatClampNeg, .inl g)) (q, .inr (2, [.int x, .int y, .ref o]))
  have hk := k q o g
  rw [← e] at hk
  exact hk

