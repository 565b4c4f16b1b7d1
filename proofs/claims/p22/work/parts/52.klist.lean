abbrev lsC (q : Nat) (m : Int32) (e : Nat) (n : Int32) : Nat × va_E := (q, .inr (0, [.int m, .ref e, .int n]))
abbrev arC (cy : Nat → ClassId) (e c : Nat) (f : Nat → Option Nat) : Nat × va_E := (e, .inl (cy 5, c, .inr (.inr (.inr (.inr f)))))
set_option maxHeartbeats 400000 in
theorem r_grow (cy : Nat → ClassId) (tE : Nat) (mc ms : Nat) (S : KS) (q i : Nat) (m : Int32) (post : Option Nat → KS → Prop) (h : S.2.2.2[i]? = some (lsC q m tE 0)) (hm : 1 ≤ mc ∧ 10 ≤ ms) (k : ∀ e, post (some e) (ksL S (vn (S.2.2.2.set i (lsC q m e 0)) (arC cy e 10 (fun _ => none))))) : w_Jx4a65c_grow_d5877 cy tE mc ms S q post := by
  have e10 : (if ((10 : Int32) < (0 + 1 : Int32) : Prop) then (0 + 1 : Int32) else 10) = 10 := if_neg (by decide)
  have n10 : (10 : Int32).toNatClampNeg = 10 := by decide
  have l10 : (10 : Int32).toInt = 10 := by decide
  refine ⟨i, m, .ref tE, 0, h, 1, 10, ⟨by omega, by omega⟩, i, _, h, ?_⟩
  refine ⟨i, m, tE, 0, h, Or.inl ⟨rfl, i, m, tE, 0, h, fun _ => ?_, fun g => absurd rfl g⟩⟩
  rw [e10, n10, l10]
  refine ⟨⟨by omega, by omega⟩, ⟨by omega, by omega⟩, ⟨by omega, by omega⟩, fun e => ⟨i, m, .ref tE, 0, ?_, ⟨by omega, by omega⟩, ⟨by omega, by omega⟩, ?_⟩⟩
  · rw [vn_lt (wl_lt h)]; exact h
  · have hs : (vn S.2.2.2 (arC cy e 10 (fun _ => none))).set i (lsC q m e 0) = vn (S.2.2.2.set i (lsC q m e 0)) (arC cy e 10 (fun _ => none)) := by
      unfold vn
      rw [List.set_append_left _ _ (wl_lt h)]
    have hk := k e
    rw [← hs] at hk
    exact hk

set_option maxHeartbeats 400000 in
theorem r_add11_X1 (cy : Nat → ClassId) (tE : Nat) (mc ms : Nat) (S : KS) (post : KS → Prop) (nc ns q x e : Nat) (n : Int32) (i j ix c : Nat) (m : Int32) (v : Nat) (z : Int32) (f : Nat → Option Nat) (fx : List Value) (hj : S.2.2.2[j]? = some (arC cy e c f)) (hn : 0 ≤ n.toInt ∧ n.toInt < (c : Int)) (hx : S.2.2.2[ix]? = some (x, .inr (2, fx))) (hi : S.2.2.2[i]? = some (lsC q m v z)) (hij : j ≠ i) (hm : nc ≤ mc ∧ ns ≤ ms) (k : post (ksL S ((S.2.2.2.set j (arC cy e c (va_up f n.toNatClampNeg (some x)))).set i (lsC q m v (n + 1))))) : w_Jx4a65c_add_72be8_X1_B11 cy tE mc ms post S nc ns q x (some e) n := by
  refine ⟨e, rfl, j, c, f, hj, hn, ix, fx, hx, i, m, .ref v, z, ?_, hm, k⟩
  rw [st_ne hij]; exact hi
set_option maxHeartbeats 400000 in
theorem r_add_X1 (cy : Nat → ClassId) (tE : Nat) (mc ms : Nat) (S : KS) (post : Int32 → KS → Prop) (q x : Nat) (i ix : Nat) (m n : Int32) (e : Nat) (fx : List Value) (hi : S.2.2.2[i]? = some (lsC q m e n)) (hx : S.2.2.2[ix]? = some (x, .inr (2, fx))) (hm : 1 ≤ mc ∧ 10 ≤ ms) (hn : 0 ≤ n.toInt ∧ n.toInt < 10) (he : (e = tE ∧ n = 0 ∧ ∀ e2, post 1 (ksL S (vn (S.2.2.2.set i (lsC q (m + 1) e2 1)) (arC cy e2 10 (va_up (fun _ => none) 0 (some x)))))) ∨ (∃ j f, S.2.2.2[j]? = some (arC cy e 10 f) ∧ j ≠ i ∧ post 1 (ksL S ((S.2.2.2.set j (arC cy e 10 (va_up f n.toNatClampNeg (some x)))).set i (lsC q (m + 1) e (n + 1)))))) : w_Jx4a65c_add_9ea2d_X1 cy tE mc ms S q x post := by
  have h1 := st_at (y := lsC q (m + 1) e n) hi
  have hne : i ≠ ix := by
    intro hh
    rw [← hh, hi] at hx
    simp at hx
  refine ⟨i, m, .ref e, n, hi, i, m, .ref e, n, hi, i, m + 1, e, n, h1, i, m + 1, .ref e, n, h1, 1, 10, ⟨by omega, by omega⟩, i, _, h1, ?_⟩
  have hx1 : (S.2.2.2.set i (lsC q (m + 1) e n))[ix]? = some (x, .inr (2, fx)) := by
    rw [st_ne hne]; exact hx
  rcases he with ⟨rfl, rfl, k⟩ | ⟨j, f, hj, hji, k⟩
  · refine Or.inl ⟨rfl, fun g => absurd li_0 g, fun _ => ⟨1, 10, ⟨by omega, by omega⟩, i, _, h1, ?_⟩⟩
    refine r_grow cy e 1 10 (ksL S (S.2.2.2.set i (lsC q (m + 1) e 0))) q i (m + 1) _ h1 ⟨by omega, by omega⟩ (fun e2 => ?_)
    have hl : i < S.2.2.2.length := wl_lt hi
    have hlx : ix < S.2.2.2.length := wl_lt hx
    have es : (S.2.2.2.set i (lsC q (m + 1) e 0)).set i (lsC q (m + 1) e2 0) = S.2.2.2.set i (lsC q (m + 1) e2 0) := List.set_set ..
    have ln : (S.2.2.2.set i (lsC q (m + 1) e2 0)).length = S.2.2.2.length := List.length_set ..
    refine r_add11_X1 cy e 1 10 _ _ _ _ q x e2 0 i S.2.2.2.length ix 10 (m + 1) e2 0 (fun _ => none) fx ?_ ⟨by decide, by decide⟩ ?_ ?_ (by omega) ⟨by omega, by omega⟩ ⟨⟨by omega, by omega⟩, ?_⟩
    · show (vn ((S.2.2.2.set i (lsC q (m + 1) e 0)).set i (lsC q (m + 1) e2 0)) (arC cy e2 10 (fun _ => none)))[S.2.2.2.length]? = _
      rw [es, ← ln]
      exact vn_at _ _
    · show (vn ((S.2.2.2.set i (lsC q (m + 1) e 0)).set i (lsC q (m + 1) e2 0)) (arC cy e2 10 (fun _ => none)))[ix]? = _
      rw [es, vn_lt (by rw [ln]; exact hlx), st_ne hne]
      exact hx
    · show (vn ((S.2.2.2.set i (lsC q (m + 1) e 0)).set i (lsC q (m + 1) e2 0)) (arC cy e2 10 (fun _ => none)))[i]? = _
      rw [es, vn_lt (by rw [ln]; exact hl)]
      exact st_at hi
    · have hk := k e2
      have ee : (((vn ((S.2.2.2.set i (lsC q (m + 1) e 0)).set i (lsC q (m + 1) e2 0)) (arC cy e2 10 (fun _ => none))).set S.2.2.2.length (arC cy e2 10 (va_up (fun _ => none) 0 (some x)))).set i (lsC q (m + 1) e2 1)) = vn (S.2.2.2.set i (lsC q (m + 1) e2 1)) (arC cy e2 10 (va_up (fun _ => none) 0 (some x))) := by
        rw [es]
        have e3 : (vn (S.2.2.2.set i (lsC q (m + 1) e2 0)) (arC cy e2 10 (fun _ => none))).set S.2.2.2.length (arC cy e2 10 (va_up (fun _ => none) 0 (some x))) = vn (S.2.2.2.set i (lsC q (m + 1) e2 0)) (arC cy e2 10 (va_up (fun _ => none) 0 (some x))) := by
          have := vn_set (S.2.2.2.set i (lsC q (m + 1) e2 0)) (arC cy e2 10 (fun _ => none)) (arC cy e2 10 (va_up (fun _ => none) 0 (some x)))
          rw [ln] at this
          exact this
        rw [e3]
        unfold vn
        rw [List.set_append_left _ _ (by rw [ln]; exact hl), List.set_set]
      rw [← ee] at hk
      exact hk
  · have hj1 : (S.2.2.2.set i (lsC q (m + 1) e n))[j]? = some (arC cy e 10 f) := by
      rw [st_ne (fun h => hji h.symm)]; exact hj
    have l10 : (Int32.ofNat 10).toInt = 10 := by decide
    refine Or.inr ⟨j, 10, f, hj1, fun _ => ?_, fun g => by rw [l10] at g; omega⟩
    refine r_add11_X1 cy tE 1 10 _ _ _ _ q x e n i j ix 10 (m + 1) e n f fx hj1 hn hx1 h1 hji ⟨by omega, by omega⟩ ⟨⟨by omega, by omega⟩, ?_⟩
    have ee : ((S.2.2.2.set i (lsC q (m + 1) e n)).set j (arC cy e 10 (va_up f n.toNatClampNeg (some x)))).set i (lsC q (m + 1) e (n + 1)) = (S.2.2.2.set j (arC cy e 10 (va_up f n.toNatClampNeg (some x)))).set i (lsC q (m + 1) e (n + 1)) := by
      rw [List.set_comm _ _ (fun h => hji h.symm), List.set_set]
    rw [← ee] at k
    exact k

set_option maxHeartbeats 400000 in
theorem r_add11_X3 (cy : Nat → ClassId) (tE : Nat) (mc ms : Nat) (S : KS) (post : KS → Prop) (nc ns q x e : Nat) (n : Int32) (i j ix c : Nat) (m : Int32) (v : Nat) (z : Int32) (f : Nat → Option Nat) (fx : List Value) (hj : S.2.2.2[j]? = some (arC cy e c f)) (hn : 0 ≤ n.toInt ∧ n.toInt < (c : Int)) (hx : S.2.2.2[ix]? = some (x, .inr (4, fx))) (hi : S.2.2.2[i]? = some (lsC q m v z)) (hij : j ≠ i) (hm : nc ≤ mc ∧ ns ≤ ms) (k : post (ksL S ((S.2.2.2.set j (arC cy e c (va_up f n.toNatClampNeg (some x)))).set i (lsC q m v (n + 1))))) : w_Jx4a65c_add_72be8_X3_B11 cy tE mc ms post S nc ns q x (some e) n := by
  refine ⟨e, rfl, j, c, f, hj, hn, ix, fx, hx, i, m, .ref v, z, ?_, hm, k⟩
  rw [st_ne hij]; exact hi
set_option maxHeartbeats 400000 in
theorem r_add_X3 (cy : Nat → ClassId) (tE : Nat) (mc ms : Nat) (S : KS) (post : Int32 → KS → Prop) (q x : Nat) (i ix : Nat) (m n : Int32) (e : Nat) (fx : List Value) (hi : S.2.2.2[i]? = some (lsC q m e n)) (hx : S.2.2.2[ix]? = some (x, .inr (4, fx))) (hm : 1 ≤ mc ∧ 10 ≤ ms) (hn : 0 ≤ n.toInt ∧ n.toInt < 10) (he : (e = tE ∧ n = 0 ∧ ∀ e2, post 1 (ksL S (vn (S.2.2.2.set i (lsC q (m + 1) e2 1)) (arC cy e2 10 (va_up (fun _ => none) 0 (some x)))))) ∨ (∃ j f, S.2.2.2[j]? = some (arC cy e 10 f) ∧ j ≠ i ∧ post 1 (ksL S ((S.2.2.2.set j (arC cy e 10 (va_up f n.toNatClampNeg (some x)))).set i (lsC q (m + 1) e (n + 1)))))) : w_Jx4a65c_add_9ea2d_X3 cy tE mc ms S q x post := by
  have h1 := st_at (y := lsC q (m + 1) e n) hi
  have hne : i ≠ ix := by
    intro hh
    rw [← hh, hi] at hx
    simp at hx
  refine ⟨i, m, .ref e, n, hi, i, m, .ref e, n, hi, i, m + 1, e, n, h1, i, m + 1, .ref e, n, h1, 1, 10, ⟨by omega, by omega⟩, i, _, h1, ?_⟩
  have hx1 : (S.2.2.2.set i (lsC q (m + 1) e n))[ix]? = some (x, .inr (4, fx)) := by
    rw [st_ne hne]; exact hx
  rcases he with ⟨rfl, rfl, k⟩ | ⟨j, f, hj, hji, k⟩
  · refine Or.inl ⟨rfl, fun g => absurd li_0 g, fun _ => ⟨1, 10, ⟨by omega, by omega⟩, i, _, h1, ?_⟩⟩
    refine r_grow cy e 1 10 (ksL S (S.2.2.2.set i (lsC q (m + 1) e 0))) q i (m + 1) _ h1 ⟨by omega, by omega⟩ (fun e2 => ?_)
    have hl : i < S.2.2.2.length := wl_lt hi
    have hlx : ix < S.2.2.2.length := wl_lt hx
    have es : (S.2.2.2.set i (lsC q (m + 1) e 0)).set i (lsC q (m + 1) e2 0) = S.2.2.2.set i (lsC q (m + 1) e2 0) := List.set_set ..
    have ln : (S.2.2.2.set i (lsC q (m + 1) e2 0)).length = S.2.2.2.length := List.length_set ..
    refine r_add11_X3 cy e 1 10 _ _ _ _ q x e2 0 i S.2.2.2.length ix 10 (m + 1) e2 0 (fun _ => none) fx ?_ ⟨by decide, by decide⟩ ?_ ?_ (by omega) ⟨by omega, by omega⟩ ⟨⟨by omega, by omega⟩, ?_⟩
    · show (vn ((S.2.2.2.set i (lsC q (m + 1) e 0)).set i (lsC q (m + 1) e2 0)) (arC cy e2 10 (fun _ => none)))[S.2.2.2.length]? = _
      rw [es, ← ln]
      exact vn_at _ _
    · show (vn ((S.2.2.2.set i (lsC q (m + 1) e 0)).set i (lsC q (m + 1) e2 0)) (arC cy e2 10 (fun _ => none)))[ix]? = _
      rw [es, vn_lt (by rw [ln]; exact hlx), st_ne hne]
      exact hx
    · show (vn ((S.2.2.2.set i (lsC q (m + 1) e 0)).set i (lsC q (m + 1) e2 0)) (arC cy e2 10 (fun _ => none)))[i]? = _
      rw [es, vn_lt (by rw [ln]; exact hl)]
      exact st_at hi
    · have hk := k e2
      have ee : (((vn ((S.2.2.2.set i (lsC q (m + 1) e 0)).set i (lsC q (m + 1) e2 0)) (arC cy e2 10 (fun _ => none))).set S.2.2.2.length (arC cy e2 10 (va_up (fun _ => none) 0 (some x)))).set i (lsC q (m + 1) e2 1)) = vn (S.2.2.2.set i (lsC q (m + 1) e2 1)) (arC cy e2 10 (va_up (fun _ => none) 0 (some x))) := by
        rw [es]
        have e3 : (vn (S.2.2.2.set i (lsC q (m + 1) e2 0)) (arC cy e2 10 (fun _ => none))).set S.2.2.2.length (arC cy e2 10 (va_up (fun _ => none) 0 (some x))) = vn (S.2.2.2.set i (lsC q (m + 1) e2 0)) (arC cy e2 10 (va_up (fun _ => none) 0 (some x))) := by
          have := vn_set (S.2.2.2.set i (lsC q (m + 1) e2 0)) (arC cy e2 10 (fun _ => none)) (arC cy e2 10 (va_up (fun _ => none) 0 (some x)))
          rw [ln] at this
          exact this
        rw [e3]
        unfold vn
        rw [List.set_append_left _ _ (by rw [ln]; exact hl), List.set_set]
      rw [← ee] at hk
      exact hk
  · have hj1 : (S.2.2.2.set i (lsC q (m + 1) e n))[j]? = some (arC cy e 10 f) := by
      rw [st_ne (fun h => hji h.symm)]; exact hj
    have l10 : (Int32.ofNat 10).toInt = 10 := by decide
    refine Or.inr ⟨j, 10, f, hj1, fun _ => ?_, fun g => by rw [l10] at g; omega⟩
    refine r_add11_X3 cy tE 1 10 _ _ _ _ q x e n i j ix 10 (m + 1) e n f fx hj1 hn hx1 h1 hji ⟨by omega, by omega⟩ ⟨⟨by omega, by omega⟩, ?_⟩
    have ee : ((S.2.2.2.set i (lsC q (m + 1) e n)).set j (arC cy e 10 (va_up f n.toNatClampNeg (some x)))).set i (lsC q (m + 1) e (n + 1)) = (S.2.2.2.set j (arC cy e 10 (va_up f n.toNatClampNeg (some x)))).set i (lsC q (m + 1) e (n + 1)) := by
      rw [List.set_comm _ _ (fun h => hji h.symm), List.set_set]
    rw [← ee] at k
    exact k

set_option maxHeartbeats 400000 in
theorem r_add11_X0 (cy : Nat → ClassId) (tE : Nat) (mc ms : Nat) (S : KS) (post : KS → Prop) (nc ns q x e : Nat) (n : Int32) (i j ix c : Nat) (m : Int32) (v : Nat) (z : Int32) (f : Nat → Option Nat) (fx : List Value) (hj : S.2.2.2[j]? = some (arC cy e c f)) (hn : 0 ≤ n.toInt ∧ n.toInt < (c : Int)) (hx : S.2.2.2[ix]? = some (x, .inr (1, fx))) (hi : S.2.2.2[i]? = some (lsC q m v z)) (hij : j ≠ i) (hm : nc ≤ mc ∧ ns ≤ ms) (k : post (ksL S ((S.2.2.2.set j (arC cy e c (va_up f n.toNatClampNeg (some x)))).set i (lsC q m v (n + 1))))) : w_Jx4a65c_add_72be8_X0_B11 cy tE mc ms post S nc ns q x (some e) n := by
  refine ⟨e, rfl, j, c, f, hj, hn, ix, fx, hx, i, m, .ref v, z, ?_, hm, k⟩
  rw [st_ne hij]; exact hi
set_option maxHeartbeats 400000 in
theorem r_add_X0 (cy : Nat → ClassId) (tE : Nat) (mc ms : Nat) (S : KS) (post : Int32 → KS → Prop) (q x : Nat) (i ix : Nat) (m n : Int32) (e : Nat) (fx : List Value) (hi : S.2.2.2[i]? = some (lsC q m e n)) (hx : S.2.2.2[ix]? = some (x, .inr (1, fx))) (hm : 1 ≤ mc ∧ 10 ≤ ms) (hn : 0 ≤ n.toInt ∧ n.toInt < 10) (he : (e = tE ∧ n = 0 ∧ ∀ e2, post 1 (ksL S (vn (S.2.2.2.set i (lsC q (m + 1) e2 1)) (arC cy e2 10 (va_up (fun _ => none) 0 (some x)))))) ∨ (∃ j f, S.2.2.2[j]? = some (arC cy e 10 f) ∧ j ≠ i ∧ post 1 (ksL S ((S.2.2.2.set j (arC cy e 10 (va_up f n.toNatClampNeg (some x)))).set i (lsC q (m + 1) e (n + 1)))))) : w_Jx4a65c_add_9ea2d_X0 cy tE mc ms S q x post := by
  have h1 := st_at (y := lsC q (m + 1) e n) hi
  have hne : i ≠ ix := by
    intro hh
    rw [← hh, hi] at hx
    simp at hx
  refine ⟨i, m, .ref e, n, hi, i, m, .ref e, n, hi, i, m + 1, e, n, h1, i, m + 1, .ref e, n, h1, 1, 10, ⟨by omega, by omega⟩, i, _, h1, ?_⟩
  have hx1 : (S.2.2.2.set i (lsC q (m + 1) e n))[ix]? = some (x, .inr (1, fx)) := by
    rw [st_ne hne]; exact hx
  rcases he with ⟨rfl, rfl, k⟩ | ⟨j, f, hj, hji, k⟩
  · refine Or.inl ⟨rfl, fun g => absurd li_0 g, fun _ => ⟨1, 10, ⟨by omega, by omega⟩, i, _, h1, ?_⟩⟩
    refine r_grow cy e 1 10 (ksL S (S.2.2.2.set i (lsC q (m + 1) e 0))) q i (m + 1) _ h1 ⟨by omega, by omega⟩ (fun e2 => ?_)
    have hl : i < S.2.2.2.length := wl_lt hi
    have hlx : ix < S.2.2.2.length := wl_lt hx
    have es : (S.2.2.2.set i (lsC q (m + 1) e 0)).set i (lsC q (m + 1) e2 0) = S.2.2.2.set i (lsC q (m + 1) e2 0) := List.set_set ..
    have ln : (S.2.2.2.set i (lsC q (m + 1) e2 0)).length = S.2.2.2.length := List.length_set ..
    refine r_add11_X0 cy e 1 10 _ _ _ _ q x e2 0 i S.2.2.2.length ix 10 (m + 1) e2 0 (fun _ => none) fx ?_ ⟨by decide, by decide⟩ ?_ ?_ (by omega) ⟨by omega, by omega⟩ ⟨⟨by omega, by omega⟩, ?_⟩
    · show (vn ((S.2.2.2.set i (lsC q (m + 1) e 0)).set i (lsC q (m + 1) e2 0)) (arC cy e2 10 (fun _ => none)))[S.2.2.2.length]? = _
      rw [es, ← ln]
      exact vn_at _ _
    · show (vn ((S.2.2.2.set i (lsC q (m + 1) e 0)).set i (lsC q (m + 1) e2 0)) (arC cy e2 10 (fun _ => none)))[ix]? = _
      rw [es, vn_lt (by rw [ln]; exact hlx), st_ne hne]
      exact hx
    · show (vn ((S.2.2.2.set i (lsC q (m + 1) e 0)).set i (lsC q (m + 1) e2 0)) (arC cy e2 10 (fun _ => none)))[i]? = _
      rw [es, vn_lt (by rw [ln]; exact hl)]
      exact st_at hi
    · have hk := k e2
      have ee : (((vn ((S.2.2.2.set i (lsC q (m + 1) e 0)).set i (lsC q (m + 1) e2 0)) (arC cy e2 10 (fun _ => none))).set S.2.2.2.length (arC cy e2 10 (va_up (fun _ => none) 0 (some x)))).set i (lsC q (m + 1) e2 1)) = vn (S.2.2.2.set i (lsC q (m + 1) e2 1)) (arC cy e2 10 (va_up (fun _ => none) 0 (some x))) := by
        rw [es]
        have e3 : (vn (S.2.2.2.set i (lsC q (m + 1) e2 0)) (arC cy e2 10 (fun _ => none))).set S.2.2.2.length (arC cy e2 10 (va_up (fun _ => none) 0 (some x))) = vn (S.2.2.2.set i (lsC q (m + 1) e2 0)) (arC cy e2 10 (va_up (fun _ => none) 0 (some x))) := by
          have := vn_set (S.2.2.2.set i (lsC q (m + 1) e2 0)) (arC cy e2 10 (fun _ => none)) (arC cy e2 10 (va_up (fun _ => none) 0 (some x)))
          rw [ln] at this
          exact this
        rw [e3]
        unfold vn
        rw [List.set_append_left _ _ (by rw [ln]; exact hl), List.set_set]
      rw [← ee] at hk
      exact hk
  · have hj1 : (S.2.2.2.set i (lsC q (m + 1) e n))[j]? = some (arC cy e 10 f) := by
      rw [st_ne (fun h => hji h.symm)]; exact hj
    have l10 : (Int32.ofNat 10).toInt = 10 := by decide
    refine Or.inr ⟨j, 10, f, hj1, fun _ => ?_, fun g => by rw [l10] at g; omega⟩
    refine r_add11_X0 cy tE 1 10 _ _ _ _ q x e n i j ix 10 (m + 1) e n f fx hj1 hn hx1 h1 hji ⟨by omega, by omega⟩ ⟨⟨by omega, by omega⟩, ?_⟩
    have ee : ((S.2.2.2.set i (lsC q (m + 1) e n)).set j (arC cy e 10 (va_up f n.toNatClampNeg (some x)))).set i (lsC q (m + 1) e (n + 1)) = (S.2.2.2.set j (arC cy e 10 (va_up f n.toNatClampNeg (some x)))).set i (lsC q (m + 1) e (n + 1)) := by
      rw [List.set_comm _ _ (fun h => hji h.symm), List.set_set]
    rw [← ee] at k
    exact k

