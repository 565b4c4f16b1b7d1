theorem rkP_3 {g : SV} {t k p q : Int32} (h : p.toInt = 3) : rkP g t k p q = 0 := if_pos h
theorem rkP_7 {g : SV} {t k p q : Int32} (h : p.toInt ≠ 3) (e : k.toInt = 7) : rkP g t k p q = g p.toInt.toNat := by
  unfold rkP; rw [if_neg h, if_pos e]
theorem rkP_19 {g : SV} {t k p q : Int32} (h : p.toInt ≠ 3) (e : k.toInt = 19) : rkP g t k p q = if t.toInt = 3 then 0 else if (g (40 + t.toInt.toNat)).toInt = p.toInt then 1 else 0 := by
  unfold rkP; rw [if_neg h, if_neg (by omega), if_pos e]
theorem rkP_20 {g : SV} {t k p q : Int32} (h : p.toInt ≠ 3) (e : k.toInt = 20) : rkP g t k p q = rkT g p := by
  unfold rkP; rw [if_neg h, if_neg (by omega), if_neg (by omega), if_pos e]
theorem rkP_q {g : SV} {t k p q : Int32} (e : k.toInt = 8 ∨ k.toInt = 11 ∨ k.toInt = 18) (hq : q.toInt = 3) : rkP g t k p q = 0 := by
  unfold rkP
  by_cases h : p.toInt = 3
  · rw [if_pos h]
  · rw [if_neg h, if_neg (by omega), if_neg (by omega), if_neg (by omega), if_pos hq]
theorem rkP_8 {g : SV} {t k p q : Int32} (h : p.toInt ≠ 3) (e : k.toInt = 8) (hq : q.toInt ≠ 3) : rkP g t k p q = g (10 + (3 * p.toInt.toNat + q.toInt.toNat)) := by
  unfold rkP; rw [if_neg h, if_neg (by omega), if_neg (by omega), if_neg (by omega), if_neg hq, if_pos e]
theorem rkP_11 {g : SV} {t k p q : Int32} (h : p.toInt ≠ 3) (e : k.toInt = 11) (hq : q.toInt ≠ 3) : rkP g t k p q = g (20 + (3 * p.toInt.toNat + q.toInt.toNat)) := by
  unfold rkP; rw [if_neg h, if_neg (by omega), if_neg (by omega), if_neg (by omega), if_neg hq, if_neg (by omega), if_pos e]
theorem rkP_18 {g : SV} {t k p q : Int32} (h : p.toInt ≠ 3) (e : k.toInt = 18) (hq : q.toInt ≠ 3) : rkP g t k p q = g (30 + (3 * p.toInt.toNat + q.toInt.toNat)) := by
  unfold rkP; rw [if_neg h, if_neg (by omega), if_neg (by omega), if_neg (by omega), if_neg hq, if_neg (by omega), if_neg (by omega)]
theorem rkU_2 {g : SV} {a b t k x : Int32} (h : k.toInt = 2) : rkU g a b t k x = x := if_pos h
theorem rkU_14 {g : SV} {a b t k x : Int32} (h : k.toInt = 14) : rkU g a b t k x = g 50 := by
  unfold rkU; rw [if_neg (by omega), if_pos h]
theorem rkU_a {g : SV} {a b t k x : Int32} (h : k.toInt ≠ 2) (h2 : k.toInt ≠ 14) (h3 : x.toInt = 0) : rkU g a b t k x = rkP g t k a b := by
  unfold rkU; rw [if_neg h, if_neg h2, if_pos h3]
theorem rkU_b {g : SV} {a b t k x : Int32} (h : k.toInt ≠ 2) (h2 : k.toInt ≠ 14) (h3 : x.toInt ≠ 0) : rkU g a b t k x = rkP g t k b a := by
  unfold rkU; rw [if_neg h, if_neg h2, if_neg h3]
theorem r_9_getE (cy : Nat → ClassId) (tE : Nat) (S : KS) (i : Nat) (x : Int32) (post : Int32 → KS → Prop) (hi : i < 5) (hx : 0 ≤ x.toInt ∧ x.toInt < 51) (k : post (ar S.1 (1 + i) x.toInt.toNat) S) : w_X9_get cy tE S i x post := by
  unfold w_X9_get w_X9_get_B22 w_X9_get_B23
  exact ⟨fun h => by exfalso; omega, fun h => ⟨hi, hi, fun h2 => by exfalso; omega, fun h2 => ⟨hi, hi, ⟨h, h2⟩, k⟩⟩⟩
theorem pr_c {c p q : Int32} (hc : 0 ≤ c.toInt ∧ c.toInt ≤ 100) (hp : 0 ≤ p.toInt ∧ p.toInt ≤ 3) (hq : 0 ≤ q.toInt ∧ q.toInt ≤ 3) : ((c + ((3 : Int32) * p)) + q).toInt = c.toInt + (3 * p.toInt + q.toInt) := by
  have e3 : ((3 : Int32) * p).toInt = 3 * p.toInt := by
    simp (disch := omega) only [Int32.toInt_mul, li_3, bm]
  have e4 : (c + ((3 : Int32) * p)).toInt = c.toInt + 3 * p.toInt := by
    rw [ad_ab (by omega) (by omega), e3]
  rw [ad_ab (by omega) (by omega), e4]
  omega
/-- THINGS of p, counted up to j -/
def cT (g : SV) (p : Int32) : Nat → Nat
  | 0 => 0
  | 1 => on1 ((g 40).toInt = p.toInt)
  | 2 => on1 ((g 40).toInt = p.toInt) + on1 ((g 41).toInt = p.toInt)
  | _ => on1 ((g 40).toInt = p.toInt) + on1 ((g 41).toInt = p.toInt) + on1 ((g 42).toInt = p.toInt)
theorem cT_s {g : SV} {p : Int32} {j : Nat} (hj : j < 3) : cT g p (j + 1) = cT g p j + on1 ((g (40 + j)).toInt = p.toInt) := by
  rcases (show j = 0 ∨ j = 1 ∨ j = 2 by omega) with rfl | rfl | rfl
  · exact (Nat.zero_add _).symm
  · rfl
  · rfl
theorem on1_b {p : Prop} [Decidable p] : on1 p ≤ 1 := by
  unfold on1
  by_cases h : p
  · rw [if_pos h]; exact Nat.le_refl _
  · rw [if_neg h]; omega
theorem cT_b {g : SV} {p : Int32} {j : Nat} (hj : j ≤ 3) : cT g p j ≤ 3 := by
  have h0 := on1_b (p := (g 40).toInt = p.toInt)
  have h1 := on1_b (p := (g 41).toInt = p.toInt)
  have h2 := on1_b (p := (g 42).toInt = p.toInt)
  rcases (show j = 0 ∨ j = 1 ∨ j = 2 ∨ j = 3 by omega) with rfl | rfl | rfl | rfl
  · exact Nat.zero_le _
  · show on1 _ ≤ 3; omega
  · show on1 _ + on1 _ ≤ 3; omega
  · show on1 _ + on1 _ + on1 _ ≤ 3; omega
theorem nI_inc {n : Nat} (h : n < 1000) : nI n + 1 = nI (n + 1) := i_eq (by rw [inc1 (by rw [nI_toInt (by omega)]; omega), nI_toInt (by omega), nI_toInt (by omega)]; omega)
theorem r_9_thingsOfE (cy : Nat → ClassId) (tE : Nat) (S : KS) (i : Nat) (x : Int32) (post : Int32 → KS → Prop) (g : SV) (hi : i < 5) (hg : ∀ n, n < 51 → ar S.1 (1 + i) n = g n) (k : post (rkT g x) S) : w_X9_thingsOf cy tE S i x post := by
  unfold w_X9_thingsOf
  refine lr5 (fun (T : KS) (i' : Nat) (x' m j : Int32) => T = S ∧ i' = i ∧ x' = x ∧ ∃ n : Nat, n ≤ 3 ∧ j.toInt = (n : Int) ∧ m = nI (cT g x n)) (fun _ _ _ _ j => (3 - j.toInt).toNat) ?_ _ _ _ _ _ ⟨rfl, rfl, rfl, 0, by omega, li_0, rfl⟩
  rintro kk T i' x' m j ⟨rfl, rfl, rfl, n, hn, hj, hm⟩ hk
  unfold w_X9_thingsOf_F4 w_X9_thingsOf_B31 w_X9_thingsOf_B25
  refine ⟨fun h => ?_, fun h => ?_⟩
  · obtain rfl : n = 3 := by omega
    rw [hm]; exact k
  · have e40 : ((40 : Int32) + j).toInt = 40 + j.toInt := by
      rw [ad_ab (by rw [li_40]; omega) (by rw [li_40]; omega), li_40]
    have e41 : ((40 : Int32) + j).toNatClampNeg = 40 + n := by
      rw [tnc, e40]; omega
    have hs := cT_s (g := g) (p := x') (show n < 3 by omega)
    have hb := cT_b (g := g) (p := x') hn
    have ej := inc1 (x := j) (by omega)
    rw [e40, e41, hg _ (by omega)]
    refine ⟨hi, hi, by omega, fun q => hk _ _ _ _ _ ⟨rfl, rfl, rfl, n + 1, by omega, by rw [ej]; omega, ?_⟩ (by rw [ej]; omega), fun q => hk _ _ _ _ _ ⟨rfl, rfl, rfl, n + 1, by omega, by rw [ej]; omega, ?_⟩ (by rw [ej]; omega)⟩
    · rw [hs, on1_n q, hm] <;> rfl
    · rw [hs, on1_y q, hm, nI_inc (by omega)]
