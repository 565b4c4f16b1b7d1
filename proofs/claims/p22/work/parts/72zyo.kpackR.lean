/-- where a number lies in a packed STATE, and how wide it is: 0 DAY, 1 .. 3 COINS, 4 .. 6 OWNERS, 7 .. 12 pairs -/
def shS (s : Nat) : Nat := if s < 4 then 4 * s else if s < 7 then 16 + 2 * (s - 4) else 22 + 5 * (s - 7)
def wdS (s : Nat) : Nat := if s < 4 then 4 else if s < 7 then 2 else 5
def slo (i : Nat) : Nat := if i < 16 then i / 4 else if i < 22 then 4 + (i - 16) / 2 else 7 + (i - 22) / 5
def slP (a b : Nat) : Nat := 7 + (2 * a + (if a < b then b - 1 else b))
theorem shS_d : ∀ s, s < 13 → ∀ t, t < 13 → s ≠ t → shS s + wdS s ≤ shS t ∨ shS t + wdS t ≤ shS s := by decide +kernel
theorem shS_b : ∀ s, s < 13 → shS s + wdS s ≤ 52 := by decide +kernel
theorem shS_4 : ∀ s, s < 13 → s ≠ 0 → 4 ≤ shS s := by decide +kernel
theorem slo_d : ∀ i, i < 52 → slo i < 13 ∧ shS (slo i) ≤ i ∧ i < shS (slo i) + wdS (slo i) := by decide +kernel
theorem shS_c : ∀ a, a < 3 → shS (1 + a) = 4 + 4 * a ∧ wdS (1 + a) = 4 := by decide +kernel
theorem shS_o : ∀ a, a < 3 → shS (4 + a) = 16 + 2 * a ∧ wdS (4 + a) = 2 := by decide +kernel
theorem shS_p : ∀ a, a < 3 → ∀ b, b < 3 → a ≠ b → shS (slP a b) = pSN a b ∧ wdS (slP a b) = 5 ∧ 7 ≤ slP a b ∧ slP a b < 13 := by decide +kernel
theorem slP_i : ∀ a, a < 3 → ∀ b, b < 3 → a ≠ b → ∀ c, c < 3 → ∀ d, d < 3 → c ≠ d → slP a b = slP c d → a = c ∧ b = d := by
  intro a ha b hb hab c hc d hd hcd h
  unfold slP at h
  by_cases x : a < b <;> by_cases y : c < d <;> simp only [x, y, if_true, if_false] at h <;> omega
theorem slP_s : ∀ s, s < 13 → 7 ≤ s → slP ((s - 7) / 2) (if (s - 7) / 2 ≤ (s - 7) % 2 then (s - 7) % 2 + 1 else (s - 7) % 2) = s ∧ (s - 7) / 2 < 3 ∧ (if (s - 7) / 2 ≤ (s - 7) % 2 then (s - 7) % 2 + 1 else (s - 7) % 2) < 3 ∧ (s - 7) / 2 ≠ (if (s - 7) / 2 ≤ (s - 7) % 2 then (s - 7) % 2 + 1 else (s - 7) % 2) := by decide +kernel
def fd (v a w : Nat) : Nat := v / 2 ^ a % 2 ^ w
theorem fd_bit {v a w i : Nat} : (fd v a w).testBit i = (decide (i < w) && v.testBit (a + i)) := by
  simp [fd, Nat.testBit_mod_two_pow, Nat.testBit_div_two_pow, Nat.add_comm]
theorem fd_or {v y a w : Nat} : fd (v ||| y) a w = fd v a w ||| fd y a w := by
  apply Nat.eq_of_testBit_eq
  intro i
  rw [Nat.testBit_or, fd_bit, fd_bit, fd_bit, Nat.testBit_or, Bool.and_or_distrib_left]
theorem fd_same {x a w : Nat} (h : x < 2 ^ w) : fd (x * 2 ^ a) a w = x := by
  unfold fd
  rw [Nat.mul_div_cancel _ (Nat.two_pow_pos a), Nat.mod_eq_of_lt h]
theorem fd_lo {x s t w : Nat} (h : t + w ≤ s) : fd (x * 2 ^ s) t w = 0 := by
  have e0 : s = (s - t - w) + (w + t) := by omega
  have e : x * 2 ^ s = x * 2 ^ (s - t - w) * 2 ^ w * 2 ^ t := by
    rw [Nat.mul_assoc, Nat.mul_assoc, ← Nat.pow_add, ← Nat.pow_add, ← e0]
  unfold fd
  rw [e, Nat.mul_div_cancel _ (Nat.two_pow_pos t), Nat.mul_mod_left]
theorem sh_lt {x s w t : Nat} (hx : x < 2 ^ w) (h : s + w ≤ t) : x * 2 ^ s < 2 ^ t :=
  Nat.lt_of_lt_of_le (Nat.mul_lt_mul_of_pos_right hx (Nat.two_pow_pos s)) (by rw [← Nat.pow_add]; exact Nat.pow_le_pow_right (by decide) (by omega))
theorem fd_hi {x s t w u : Nat} (hx : x < 2 ^ w) (h : s + w ≤ t) : fd (x * 2 ^ s) t u = 0 := by
  unfold fd
  rw [Nat.div_eq_of_lt (sh_lt hx h), Nat.zero_mod]
/-- v holds what C holds where dn, nothing elsewhere -/
def FLN (C v : Nat) (dn : Nat → Prop) : Prop := v < 2 ^ 52 ∧ (∀ s, s < 13 → dn s → fd v (shS s) (wdS s) = fd C (shS s) (wdS s)) ∧ ∀ s, s < 13 → ¬ dn s → fd v (shS s) (wdS s) = 0
theorem FLN_put {C v s x : Nat} {dn dn' : Nat → Prop} (h : FLN C v dn) (hs : s < 13) (hd : ¬ dn s) (hx : x = fd C (shS s) (wdS s)) (hc : ∀ t, t < 13 → (dn' t ↔ t = s ∨ dn t)) : FLN C (v ||| x * 2 ^ shS s) dn' := by
  have hxb : x < 2 ^ wdS s := by rw [hx]; exact Nat.mod_lt _ (Nat.two_pow_pos _)
  have b52 := shS_b s hs
  have f : ∀ t, t < 13 → fd (x * 2 ^ shS s) (shS t) (wdS t) = if t = s then x else 0 := by
    intro t ht
    by_cases e : t = s
    · rw [if_pos e, e]; exact fd_same hxb
    · rw [if_neg e]
      rcases shS_d s hs t ht (fun z => e z.symm) with q | q
      · exact fd_hi hxb q
      · exact fd_lo q
  refine ⟨Nat.or_lt_two_pow h.1 (sh_lt hxb b52), fun t ht hd' => ?_, fun t ht hd' => ?_⟩
  · rw [fd_or, f t ht]
    by_cases e : t = s
    · rw [if_pos e, e, h.2.2 s hs hd, Nat.zero_or]; exact hx
    · rw [if_neg e, h.2.1 t ht (((hc t ht).mp hd').resolve_left e), Nat.or_zero]
  · have n1 : ¬ (t = s ∨ dn t) := fun z => hd' ((hc t ht).mpr z)
    rw [fd_or, f t ht, if_neg (fun e => n1 (Or.inl e)), h.2.2 t ht (fun e => n1 (Or.inr e)), Nat.or_zero]
theorem FLN_all {C v : Nat} {dn : Nat → Prop} (hC : C < 2 ^ 52) (h : FLN C v dn) (hd : ∀ s, s < 13 → dn s) : v = C := by
  apply Nat.eq_of_testBit_eq
  intro i
  by_cases hi : i < 52
  · obtain ⟨a, b, c⟩ := slo_d i hi
    have e := congrArg (fun n => n.testBit (i - shS (slo i))) (h.2.1 _ a (hd _ a))
    simp only [fd_bit] at e
    rw [decide_eq_true (show i - shS (slo i) < wdS (slo i) by omega), Bool.true_and, Bool.true_and, show shS (slo i) + (i - shS (slo i)) = i by omega] at e
    exact e
  · have p : (2 : Nat) ^ 52 ≤ 2 ^ i := Nat.pow_le_pow_right (by decide) (by omega)
    rw [Nat.testBit_lt_two_pow (Nat.lt_of_lt_of_le h.1 p), Nat.testBit_lt_two_pow (Nat.lt_of_lt_of_le hC p)]
theorem l_orn {v k x : Int64} {s : Nat} (hk : (k.toBitVec.smod 64).toNat = s) (hx : x.toBitVec.toNat * 2 ^ s < 2 ^ 64) : (v ||| (x <<< k)).toBitVec.toNat = v.toBitVec.toNat ||| x.toBitVec.toNat * 2 ^ s := by
  have e2 : (v ||| (x <<< k)).toBitVec = v.toBitVec ||| (x.toBitVec <<< (k.toBitVec.smod 64)) := rfl
  rw [e2, BitVec.toNat_or, BitVec.shiftLeft_eq', BitVec.toNat_shiftLeft, hk, Nat.shiftLeft_eq, Nat.mod_eq_of_lt hx]
theorem l_bt {x : Int32} (h : 0 ≤ x.toInt) : (x.toInt64).toBitVec.toNat = x.toInt.toNat := by
  have a := (l_nn (v := x.toInt64) (by rw [l_32]; exact h)).1
  rw [l_32] at a
  omega
def FL (g : SV) (v : Int64) (dn : Nat → Prop) : Prop := FLN (ckI g).toNat v.toBitVec.toNat dn
theorem FL_cg {g : SV} {v : Int64} {dn dn' : Nat → Prop} (h : FL g v dn) (hc : ∀ s, s < 13 → (dn' s ↔ dn s)) : FL g v dn' := ⟨h.1, fun s hs d => h.2.1 s hs ((hc s hs).mp d), fun s hs d => h.2.2 s hs (fun z => d ((hc s hs).mpr z))⟩
theorem ck_n {g : SV} (hG : GV g) {x : Int32} {a w : Nat} (hx : x.toInt = ckI g / ((2 ^ a : Nat) : Int) % ((2 ^ w : Nat) : Int)) : 0 ≤ x.toInt ∧ x.toInt.toNat = fd (ckI g).toNat a w := by
  have C0 := (ckI_g hG).1
  have e : ckI g = ((ckI g).toNat : Int) := by omega
  generalize (ckI g).toNat = C at e ⊢
  rw [e] at hx
  have q : x.toInt = ((fd C a w : Nat) : Int) := hx
  omega
theorem FL_put {g : SV} {v : Int64} {dn dn' : Nat → Prop} {s : Nat} {x : Int32} (hG : GV g) (h : FL g v dn) (hs : s < 13) (hd : ¬ dn s) (hx : x.toInt = ckI g / ((2 ^ shS s : Nat) : Int) % ((2 ^ wdS s : Nat) : Int)) (hc : ∀ t, t < 13 → (dn' t ↔ t = s ∨ dn t)) : FL g (v ||| (x.toInt64 <<< ((nI (shS s)).toInt64 &&& 63))) dn' := by
  obtain ⟨x0, xe⟩ := ck_n hG hx
  have b52 := shS_b s hs
  have xb : x.toInt.toNat < 2 ^ wdS s := by rw [xe]; exact Nat.mod_lt _ (Nat.two_pow_pos _)
  unfold FL
  rw [l_orn (shl_k (shS s) (by omega)) (by rw [l_bt x0]; exact sh_lt xb (by omega)), l_bt x0]
  exact FLN_put h hs hd xe hc
theorem FL_c {g : SV} {v : Int64} {dn dn' : Nat → Prop} {b : Nat} {x : Int32} (hG : GV g) (h : FL g v dn) (hb : b < 3) (hd : ¬ dn (1 + b)) (hx : x = g b) (hc : ∀ t, t < 13 → (dn' t ↔ t = 1 + b ∨ dn t)) : FL g (v ||| (x.toInt64 <<< ((nI (4 + 4 * b)).toInt64 &&& 63))) dn' := by
  have e := shS_c b hb
  have a := FL_put (s := 1 + b) (x := x) hG h (by omega) hd (by rw [e.1, e.2, hx]; exact (ck_cn hG hb).symm) hc
  rw [e.1] at a
  exact a
theorem FL_o {g : SV} {v : Int64} {dn dn' : Nat → Prop} {b : Nat} {x : Int32} (hG : GV g) (h : FL g v dn) (hb : b < 3) (hd : ¬ dn (4 + b)) (hx : x = g (40 + b)) (hc : ∀ t, t < 13 → (dn' t ↔ t = 4 + b ∨ dn t)) : FL g (v ||| (x.toInt64 <<< ((nI (16 + 2 * b)).toInt64 &&& 63))) dn' := by
  have e := shS_o b hb
  have a := FL_put (s := 4 + b) (x := x) hG h (by omega) hd (by rw [e.1, e.2, hx]; exact (ck_ow hG hb).symm) hc
  rw [e.1] at a
  exact a
theorem FL_p {g : SV} {v : Int64} {dn dn' : Nat → Prop} {a b : Nat} {x : Int32} (hG : GV g) (h : FL g v dn) (ha : a < 3) (hb : b < 3) (hab : a ≠ b) (hd : ¬ dn (slP a b)) (hx : x.toInt = th3 g (3 * a + b)) (hc : ∀ t, t < 13 → (dn' t ↔ t = slP a b ∨ dn t)) : FL g (v ||| (x.toInt64 <<< ((nI (pSN a b)).toInt64 &&& 63))) dn' := by
  have e := shS_p a ha b hb hab
  have q := FL_put (s := slP a b) (x := x) hG h e.2.2.2 hd (by rw [e.1, e.2.1, hx]; exact (ck_pr hG ha hb hab).symm) hc
  rw [e.1] at q
  exact q
theorem FL_0 {g : SV} (hG : GV g) : FL g ((g 50).toInt64) (fun s => s = 0) := by
  obtain ⟨C0, c50, -⟩ := ckI_g hG
  have d := hG.2.2.2
  have h52 : (2 : Nat) ^ 52 = 4503599627370496 := by decide
  have h4 : (2 : Nat) ^ 4 = 16 := by decide
  unfold FL
  rw [l_bt d.1]
  refine ⟨by omega, fun s hs hd => ?_, fun s hs hd => ?_⟩
  · rw [hd]
    show (g 50).toInt.toNat / 2 ^ 0 % 2 ^ 4 = (ckI g).toNat / 2 ^ 0 % 2 ^ 4
    rw [Nat.pow_zero, Nat.div_one, Nat.div_one, h4]
    omega
  · have p : (2 : Nat) ^ 4 ≤ 2 ^ shS s := Nat.pow_le_pow_right (by decide) (shS_4 s hs hd)
    unfold fd
    rw [Nat.div_eq_of_lt (by omega), Nat.zero_mod]
theorem FL_all {g : SV} {v : Int64} {dn : Nat → Prop} (hG : GV g) (h : FL g v dn) (hd : ∀ s, s < 13 → dn s) : v.toInt = ckI g := by
  have C0 := (ckI_g hG).1
  have h52 : (2 : Nat) ^ 52 = 4503599627370496 := by decide
  have e := FLN_all (by omega) h hd
  rw [l_of e (by omega)]
  omega
/-- what is packed already -/
def dA (T n s : Nat) : Prop := s = 0 ∨ ∃ t, t < n ∧ s = 4 + bcN T t
def dB (P n s : Nat) : Prop := s = 0 ∨ (4 ≤ s ∧ s < 7) ∨ (∃ p, p < n ∧ s = 1 + bcN P p) ∨ ∃ p q, p < n ∧ q < 3 ∧ p ≠ q ∧ s = slP (bcN P p) (bcN P q)
def dQ (P n m s : Nat) : Prop := dB P n s ∨ s = 1 + bcN P n ∨ ∃ q, q < m ∧ q ≠ n ∧ s = slP (bcN P n) (bcN P q)
theorem dA_n {T n : Nat} (hT : T < 6) (hn : n < 3) : ¬ dA T n (4 + bcN T n) := by
  rintro (h | ⟨t, h1, h2⟩)
  · omega
  · exact bc_ne T hT n hn t (by omega) (by omega) (by omega)
theorem dA_s {T n s : Nat} : dA T (n + 1) s ↔ s = 4 + bcN T n ∨ dA T n s := by
  constructor
  · rintro (h | ⟨t, h1, h2⟩)
    · exact Or.inr (Or.inl h)
    · by_cases e : t = n
      · exact Or.inl (by rw [h2, e])
      · exact Or.inr (Or.inr ⟨t, by omega, h2⟩)
  · rintro (h | h | ⟨t, h1, h2⟩)
    · exact Or.inr ⟨n, by omega, h⟩
    · exact Or.inl h
    · exact Or.inr ⟨t, by omega, h2⟩
theorem dA_B {P T s : Nat} (hT : T < 6) : dB P 0 s ↔ dA T 3 s := by
  constructor
  · rintro (h | h | ⟨p, h1, -⟩ | ⟨p, q, h1, -⟩)
    · exact Or.inl h
    · refine Or.inr ⟨bcN (ivN T) (s - 4), bc_lt _ (iv_6 T hT) _ (by omega), ?_⟩
      rw [bc_iv T hT _ (by omega)]
      omega
    · exact absurd h1 (Nat.not_lt_zero _)
    · exact absurd h1 (Nat.not_lt_zero _)
  · rintro (h | ⟨t, h1, h2⟩)
    · exact Or.inl h
    · have := bc_lt T hT t h1
      exact Or.inr (Or.inl (by omega))
theorem dB_n {P n : Nat} (hP : P < 6) (hn : n < 3) : ¬ dB P n (1 + bcN P n) := by
  have a := bc_lt P hP n hn
  rintro (h | h | ⟨p, h1, h2⟩ | ⟨p, q, h1, h2, h3, h4⟩)
  · omega
  · omega
  · exact bc_ne P hP n hn p (by omega) (by omega) (by omega)
  · have b := shS_p _ (bc_lt P hP p (by omega)) _ (bc_lt P hP q h2) (bc_ne P hP p (by omega) q h2 h3)
    omega
theorem dB_Q {P n s : Nat} : dQ P n 0 s ↔ s = 1 + bcN P n ∨ dB P n s := by
  constructor
  · rintro (h | h | ⟨q, h1, -⟩)
    · exact Or.inr h
    · exact Or.inl h
    · exact absurd h1 (Nat.not_lt_zero _)
  · rintro (h | h)
    · exact Or.inr (Or.inl h)
    · exact Or.inl h
theorem dQ_n {P n m : Nat} (hP : P < 6) (hn : n < 3) (hm : m < 3) (hnm : n ≠ m) : ¬ dQ P n m (slP (bcN P n) (bcN P m)) := by
  have a := bc_lt P hP n hn
  have b := bc_lt P hP m hm
  have ab := bc_ne P hP n hn m hm hnm
  have c := shS_p _ a _ b ab
  rintro ((h | h | ⟨p, h1, h2⟩ | ⟨p, q, h1, h2, h3, h4⟩) | h | ⟨q, h1, h2, h3⟩)
  · omega
  · omega
  · have := bc_lt P hP p (by omega)
    omega
  · have z := slP_i _ a _ b ab _ (bc_lt P hP p (by omega)) _ (bc_lt P hP q h2) (bc_ne P hP p (by omega) q h2 h3) h4
    exact bc_ne P hP n hn p (by omega) (by omega) z.1
  · omega
  · have z := slP_i _ a _ b ab _ a _ (bc_lt P hP q (by omega)) (bc_ne P hP n hn q (by omega) (fun e => h2 e.symm)) h3
    exact bc_ne P hP m hm q (by omega) (by omega) z.2
theorem dQ_s {P n m s : Nat} (hnm : m ≠ n) : dQ P n (m + 1) s ↔ s = slP (bcN P n) (bcN P m) ∨ dQ P n m s := by
  constructor
  · rintro (h | h | ⟨q, h1, h2, h3⟩)
    · exact Or.inr (Or.inl h)
    · exact Or.inr (Or.inr (Or.inl h))
    · by_cases e : q = m
      · exact Or.inl (by rw [h3, e])
      · exact Or.inr (Or.inr (Or.inr ⟨q, by omega, h2, h3⟩))
  · rintro (h | h | h | ⟨q, h1, h2, h3⟩)
    · exact Or.inr (Or.inr ⟨m, by omega, hnm, h⟩)
    · exact Or.inl h
    · exact Or.inr (Or.inl h)
    · exact Or.inr (Or.inr ⟨q, by omega, h2, h3⟩)
theorem dQ_k {P n s : Nat} : dQ P n (n + 1) s ↔ dQ P n n s := by
  constructor
  · rintro (h | h | ⟨q, h1, h2, h3⟩)
    · exact Or.inl h
    · exact Or.inr (Or.inl h)
    · exact Or.inr (Or.inr ⟨q, by omega, h2, h3⟩)
  · rintro (h | h | ⟨q, h1, h2, h3⟩)
    · exact Or.inl h
    · exact Or.inr (Or.inl h)
    · exact Or.inr (Or.inr ⟨q, by omega, h2, h3⟩)
theorem dQ_B {P n s : Nat} : dB P (n + 1) s ↔ dQ P n 3 s := by
  constructor
  · rintro (h | h | ⟨p, h1, h2⟩ | ⟨p, q, h1, h2, h3, h4⟩)
    · exact Or.inl (Or.inl h)
    · exact Or.inl (Or.inr (Or.inl h))
    · by_cases e : p = n
      · exact Or.inr (Or.inl (by rw [h2, e]))
      · exact Or.inl (Or.inr (Or.inr (Or.inl ⟨p, by omega, h2⟩)))
    · by_cases e : p = n
      · exact Or.inr (Or.inr ⟨q, h2, by omega, by rw [h4, e]⟩)
      · exact Or.inl (Or.inr (Or.inr (Or.inr ⟨p, q, by omega, h2, h3, h4⟩)))
  · rintro ((h | h | ⟨p, h1, h2⟩ | ⟨p, q, h1, h2, h3, h4⟩) | h | ⟨q, h1, h2, h3⟩)
    · exact Or.inl h
    · exact Or.inr (Or.inl h)
    · exact Or.inr (Or.inr (Or.inl ⟨p, by omega, h2⟩))
    · exact Or.inr (Or.inr (Or.inr ⟨p, q, by omega, h2, h3, h4⟩))
    · exact Or.inr (Or.inr (Or.inl ⟨n, by omega, h⟩))
    · exact Or.inr (Or.inr (Or.inr ⟨n, q, by omega, h1, fun e => h2 e.symm, h3⟩))
theorem dB_3 {P : Nat} (hP : P < 6) : ∀ s, s < 13 → dB P 3 s := by
  intro s hs
  by_cases c0 : s = 0
  · exact Or.inl c0
  by_cases c1 : s < 4
  · refine Or.inr (Or.inr (Or.inl ⟨bcN (ivN P) (s - 1), bc_lt _ (iv_6 P hP) _ (by omega), ?_⟩))
    rw [bc_iv P hP _ (by omega)]
    omega
  by_cases c2 : s < 7
  · exact Or.inr (Or.inl (by omega))
  obtain ⟨e, h1, h2, h3⟩ := slP_s s hs (by omega)
  generalize (if (s - 7) / 2 ≤ (s - 7) % 2 then (s - 7) % 2 + 1 else (s - 7) % 2) = b at e h2 h3
  generalize (s - 7) / 2 = a at e h1 h3
  refine Or.inr (Or.inr (Or.inr ⟨bcN (ivN P) a, bcN (ivN P) b, bc_lt _ (iv_6 P hP) a h1, bc_lt _ (iv_6 P hP) b h2, bc_ne _ (iv_6 P hP) a h1 b h2 h3, ?_⟩))
  rw [bc_iv P hP a (by omega), bc_iv P hP b (by omega)]
  exact e.symm
set_option maxHeartbeats 1000000 in
/-- the class packs a STATE by a renaming -/
theorem r_9_packR (cy : Nat → ClassId) (tE : Nat) (S : KS) (i P T : Nat) (post : Int64 → KS → Prop) (f : SV) (hi : i < 5) (hP : P < 6) (hT : T < 6) (hF : GV f) (hf : EQV (ar S.1 (1 + i)) f) (k : ∀ v : Int64, v.toInt = ckI (rn P T f) → post v S) : w_X9_packed cy tE S i (nI P) (nI T) post := by
  have hG := GV_rn hP hT hF
  have hR := REN_rn (f := f) hP hT
  generalize rn P T f = g at hG hR k
  have v0 := FL_0 hG
  rw [hR.2.2.2] at v0
  unfold w_X9_packed
  rw [hf 50 (by decide)]
  have b52 : ∀ v : Int64, FL g v (dB P 0) → w_X9_packed_B52 cy tE post S i (nI P) v := by
    intro v hv
    unfold w_X9_packed_B52
    refine lr5 (fun (U : KS) (i' : Nat) (x : Int32) (v : Int64) (p : Int32) => U = S ∧ i' = i ∧ x = nI P ∧ ∃ n : Nat, n ≤ 3 ∧ p = nI n ∧ FL g v (dB P n)) (fun _ _ _ _ p => (3 - p.toInt).toNat) ?_ _ _ _ _ _ ⟨rfl, rfl, rfl, 0, by omega, rfl, hv⟩
    rintro kk U i' x v p ⟨rfl, rfl, rfl, n, hn, rfl, hv⟩ hk
    unfold w_X9_packed_F55 w_X9_packed_B179
    have pn : (nI n).toInt = (n : Int) := nI_toInt (by omega)
    rw [pn]
    refine ⟨fun h => ?_, fun h => ?_⟩
    · obtain rfl : n = 3 := by omega
      exact k v (FL_all hG hv (dB_3 hP))
    have hn3 : n < 3 := by omega
    have an := bc_lt P hP n hn3
    refine r_11_becE cy tE U P n _ hP (by omega) ?_
    refine ⟨hi, hi, by omega, r_9_cS cy tE U (bcN P n) _ an ?_⟩
    have nn : (nI n).toNatClampNeg = n := by rw [tnc, pn]; omega
    rw [nn, hf n (by unfold mpl; omega)]
    have cv := FL_c hG hv an (dB_n hP hn3) (hR.1 n hn3).symm (fun t _ => dB_Q)
    have s1 : nI n + 1 = nI (n + 1) := nI_inc (by omega)
    refine lr7 (fun (V : KS) (i2 : Nat) (x2 : Int32) (v2 : Int64) (p' z q : Int32) => V = U ∧ i2 = i' ∧ x2 = nI P ∧ p' = nI n ∧ z = nI (bcN P n) ∧ ∃ m : Nat, m ≤ 3 ∧ q = nI m ∧ FL g v2 (dQ P n m)) (fun _ _ _ _ _ _ q => (3 - q.toInt).toNat) ?_ _ _ _ _ _ _ _ ⟨rfl, rfl, rfl, rfl, rfl, 0, by omega, rfl, cv⟩
    rintro kk2 V i2 x2 v2 p' z q ⟨rfl, rfl, rfl, rfl, rfl, m, hm, rfl, hv2⟩ hk2
    unfold w_X9_packed_F89 w_X9_packed_B167 w_X9_packed_B173
    have qn : (nI m).toInt = (m : Int) := nI_toInt (by omega)
    have s2 : nI m + 1 = nI (m + 1) := nI_inc (by omega)
    rw [qn, pn]
    refine ⟨fun h => ?_, fun h => ⟨fun e => ?_, fun e => ?_⟩⟩
    · obtain rfl : m = 3 := by omega
      rw [s1]
      exact hk _ _ _ _ _ ⟨rfl, rfl, rfl, n + 1, by omega, rfl, FL_cg hv2 (fun t _ => dQ_B)⟩ (by rw [nI_toInt (by omega), pn]; omega)
    · rw [s2]
      obtain rfl : m = n := by omega
      exact hk2 _ _ _ _ _ _ _ ⟨rfl, rfl, rfl, rfl, rfl, m + 1, by omega, rfl, FL_cg hv2 (fun t _ => dQ_k)⟩ (by rw [nI_toInt (by omega), qn]; omega)
    · have hm3 : m < 3 := by omega
      have hnm : n ≠ m := by omega
      obtain ⟨x1, x2⟩ := ix3 (c := 10) (p := n) (q := m) (by decide) hn3 hm3
      obtain ⟨y1, y2⟩ := ix3 (c := 20) (p := n) (q := m) (by decide) hn3 hm3
      obtain ⟨z1, z2⟩ := ix3 (c := 30) (p := n) (q := m) (by decide) hn3 hm3
      have e10 : (10 : Int32).toInt = 10 := by decide
      have e20 : (20 : Int32).toInt = 20 := by decide
      have e30 : (30 : Int32).toInt = 30 := by decide
      rw [e10] at x1 x2
      rw [e20] at y1 y2
      rw [e30] at z1 z2
      have x2' : ((10 : Int32) + (((3 : Int32) * nI n) + nI m)).toNatClampNeg = 10 + (3 * n + m) := x2
      have y2' : ((20 : Int32) + (((3 : Int32) * nI n) + nI m)).toNatClampNeg = 20 + (3 * n + m) := y2
      have z2' : ((30 : Int32) + (((3 : Int32) * nI n) + nI m)).toNatClampNeg = 30 + (3 * n + m) := z2
      obtain ⟨m1, m2, m3⟩ := mpl_p hn3 hm3 hnm
      rw [x1, y1, z1, x2', y2', z2', hf _ m1, hf _ m2, hf _ m3, s2]
      refine ⟨hi, hi, by omega, hi, hi, by omega, hi, hi, by omega, r_11_becE cy tE V P m _ hP (by omega) ?_⟩
      have am := bc_lt P hP m hm3
      have anm := bc_ne P hP n hn3 m hm3 hnm
      refine r_9_pS cy tE V _ _ _ an am anm (hk2 _ _ _ _ _ _ _ ⟨rfl, rfl, rfl, rfl, rfl, m + 1, by omega, rfl, FL_p hG hv2 an am anm (dQ_n hP hn3 hm3 hnm) ?_ (fun t _ => dQ_s (fun z => hnm z.symm))⟩ (by rw [nI_toInt (by omega), qn]; omega))
      have ga := hF.2.1 (3 * n + m) (by omega)
      obtain ⟨r1, r2, r3⟩ := hR.2.1 n m hn3 hm3 hnm
      rw [pk3 ga.1 ga.2.1 ga.2.2]
      unfold th3
      rw [r1, r2, r3]
  refine ⟨hi, hi, ?_⟩
  refine lr6 (fun (U : KS) (i' : Nat) (x y : Int32) (v : Int64) (p : Int32) => U = S ∧ i' = i ∧ x = nI P ∧ y = nI T ∧ ∃ n : Nat, n ≤ 3 ∧ p = nI n ∧ FL g v (dA T n)) (fun _ _ _ _ _ p => (3 - p.toInt).toNat) ?_ _ _ _ _ _ _ ⟨rfl, rfl, rfl, rfl, 0, by omega, rfl, FL_cg v0 (fun s _ => ⟨fun h => h.elim id (fun ⟨t, h1, _⟩ => absurd h1 (Nat.not_lt_zero t)), fun h => Or.inl h⟩)⟩
  rintro kk U i' x y v p ⟨rfl, rfl, rfl, rfl, n, hn, rfl, hv⟩ hk
  unfold w_X9_packed_F12
  have pn : (nI n).toInt = (n : Int) := nI_toInt (by omega)
  rw [pn]
  refine ⟨fun h => ?_, fun h => ?_⟩
  · obtain rfl : n = 3 := by omega
    exact b52 v (FL_cg hv (fun s _ => dA_B hT))
  have hn3 : n < 3 := by omega
  obtain ⟨i1, i2⟩ := ix40 (n := n) hn3
  have ga := hF.2.2.1 n hn3
  have s1 : nI n + 1 = nI (n + 1) := nI_inc (by omega)
  rw [i1, i2, hf (40 + n) (by unfold mpl; omega), s1]
  have eo : f (40 + n) = nI (f (40 + n)).toInt.toNat := i_eq (by rw [nI_toInt (by omega)]; omega)
  refine ⟨hi, hi, by omega, ?_⟩
  have an := bc_lt T hT n hn3
  have ow := hR.2.2.1 n hn3
  rw [eo]
  refine r_11_becE cy tE U P _ _ hP (by omega) ?_
  rw [← ow]
  refine r_11_becE cy tE U T n _ hT (by omega) ?_
  exact r_9_oS cy tE U _ _ an (hk _ _ _ _ _ _ ⟨rfl, rfl, rfl, rfl, n + 1, by omega, rfl, FL_o hG hv an (dA_n hT hn3) rfl (fun t _ => dA_s)⟩ (by rw [nI_toInt (by omega), pn]; omega))
