set_option maxHeartbeats 400000 in
theorem r_ninit (cy : Nat → ClassId) (tE : Nat) (S : KS) (L : va_W) (q : Nat) (post : KS → Prop) (k : post (ksL S (vn L (lsC q 0 tE 0)))) : w_Jx4a65c_init_da8c8 cy tE (ksL S (vn L (q, .inr (0, [.int 0, .null, .int 0])))) q post := by
  unfold w_Jx4a65c_init_da8c8 w_Jxc12de_init_da8c8 w_Jxa1e45_init_da8c8
  have h0 : (vn L (q, .inr (0, [.int 0, .null, .int 0])))[L.length]? = some (q, .inr (0, [.int 0, .null, .int 0])) := vn_at _ _
  have h1 := st_at (y := (q, .inr (0, [.int 0, .null, .int 0]))) h0
  refine ⟨L.length, 0, .null, 0, h0, L.length, 0, .null, 0, h1, ?_⟩
  have e : ((vn L (q, .inr (0, [.int 0, .null, .int 0]))).set L.length (q, .inr (0, [.int 0, .null, .int 0]))).set L.length (lsC q 0 tE 0) = vn L (lsC q 0 tE 0) := by
    rw [List.set_set, vn_set]
  rw [← e] at k
  exact k
theorem vn_si {L : va_W} {c d : Nat × va_E} {i : Nat} (h : i < L.length) : (vn L c).set i d = vn (L.set i d) c := by
  unfold vn
  rw [List.set_append_left _ _ h]
abbrev acC (q : Nat) (a : Int64) (x y : Value) (u v : Int32) : Nat × va_E := (q, .inr (1, [.long a, x, y, .int u, .int v]))
set_option maxHeartbeats 400000 in
theorem r_0_init (cy : Nat → ClassId) (tE : Nat) (mc ms : Nat) (S : KS) (q : Nat) (z : Int64) (post : KS → Prop) (i : Nat) (a : Int64) (x y : Value) (u v : Int32) (h : S.2.2.2[i]? = some (acC q a x y u v)) (hm : 2 ≤ mc ∧ 6 ≤ ms) (k : ∀ p r, post (ksL S (vn (vn (S.2.2.2.set i (acC q z (.ref p) (.ref r) 0 0)) (lsC p 0 tE 0)) (lsC r 0 tE 0)))) : w_X0_init cy tE mc ms S q z post := by
  have hl : i < S.2.2.2.length := wl_lt h
  refine ⟨⟨by omega, by omega⟩, fun p => ⟨⟨by omega, by omega⟩, r_ninit cy tE S S.2.2.2 p _ ?_⟩⟩
  have h1 : (vn S.2.2.2 (lsC p 0 tE 0))[i]? = some (acC q a x y u v) := by rw [vn_lt hl]; exact h
  refine ⟨i, a, x, y, u, v, h1, ⟨by omega, by omega⟩, fun r => ⟨⟨by omega, by omega⟩, ?_⟩⟩
  refine r_ninit cy tE _ ((vn S.2.2.2 (lsC p 0 tE 0)).set i (acC q a (.ref p) y u v)) r _ ?_
  have h2 : ((vn S.2.2.2 (lsC p 0 tE 0)).set i (acC q a (.ref p) y u v))[i]? = some (acC q a (.ref p) y u v) := st_at h1
  have h3 : (vn ((vn S.2.2.2 (lsC p 0 tE 0)).set i (acC q a (.ref p) y u v)) (lsC r 0 tE 0))[i]? = some (acC q a (.ref p) y u v) := by
    rw [vn_lt (wl_lt h2)]; exact h2
  have hk := k p r
  have ee : (vn ((vn S.2.2.2 (lsC p 0 tE 0)).set i (acC q a (.ref p) y u v)) (lsC r 0 tE 0)).set i (acC q z (.ref p) (.ref r) 0 0) = vn (vn (S.2.2.2.set i (acC q z (.ref p) (.ref r) 0 0)) (lsC p 0 tE 0)) (lsC r 0 tE 0) := by
    rw [vn_si (wl_lt h2), List.set_set, vn_si hl]
  rw [← ee] at hk
  generalize vn ((vn S.2.2.2 (lsC p 0 tE 0)).set i (acC q a (.ref p) y u v)) (lsC r 0 tE 0) = M at h3 hk ⊢
  refine ⟨i, a, .ref p, y, u, v, h3, i, a, .ref p, .ref r, u, v, st_at h3, i, a, .ref p, .ref r, 0, v, ?_, i, a, .ref p, .ref r, 0, 0, ?_, ⟨by omega, by omega⟩, ?_⟩
  · show ((M.set i _).set i _)[i]? = _
    rw [List.set_set]; exact st_at h3
  · show (((M.set i _).set i _).set i _)[i]? = _
    rw [List.set_set, List.set_set]; exact st_at h3
  · have e4 : ((((M.set i (acC q a (.ref p) (.ref r) u v)).set i (acC q a (.ref p) (.ref r) 0 v)).set i (acC q a (.ref p) (.ref r) 0 0)).set i (acC q z (.ref p) (.ref r) 0 0)) = M.set i (acC q z (.ref p) (.ref r) 0 0) := by
      rw [List.set_set, List.set_set, List.set_set]
    rw [← e4] at hk
    exact hk

