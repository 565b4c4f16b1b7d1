theorem l_nn {v : Int64} (h : 0 ≤ v.toInt) : v.toInt = (v.toBitVec.toNat : Int) ∧ v.toBitVec.toNat < 9223372036854775808 := by
  have e : v.toInt = v.toBitVec.toInt := rfl
  rw [e] at h ⊢
  have hl := v.toBitVec.isLt
  rw [BitVec.toInt_eq_toNat_cond] at h ⊢
  split at h
  · rename_i g
    rw [if_pos g]
    exact ⟨rfl, by omega⟩
  · omega
theorem l_of {v : Int64} {n : Nat} (h : v.toBitVec.toNat = n) (hn : n < 9223372036854775808) : v.toInt = (n : Int) := by
  have e : v.toInt = v.toBitVec.toInt := rfl
  rw [e, BitVec.toInt_eq_toNat_of_lt (by omega), h]
/-- a number of s bits laid behind v -/
theorem l_sho {v k x : Int64} {s m : Nat} (hk : (k.toBitVec.smod 64).toNat = s) (hm : 2 ^ s = m) (h0 : 0 ≤ v.toInt) (h1 : v.toInt * (m : Int) < 4611686018427387904) (hx : 0 ≤ x.toInt ∧ x.toInt < (m : Int)) (hm2 : m ≤ 1024) : ((v <<< k) ||| x).toInt = v.toInt * (m : Int) + x.toInt := by
  obtain ⟨e, hl⟩ := l_nn h0
  obtain ⟨ex, hlx⟩ := l_nn hx.1
  rw [e] at h1
  rw [e, ex]
  have hy : x.toBitVec.toNat < m := by omega
  have hb : v.toBitVec.toNat * m < 4611686018427387904 := by
    have : ((v.toBitVec.toNat * m : Nat) : Int) < 4611686018427387904 := by
      rw [Int.natCast_mul]; exact h1
    omega
  have e1 : ((v <<< k) ||| x).toBitVec.toNat = v.toBitVec.toNat * m + x.toBitVec.toNat := by
    have e2 : ((v <<< k) ||| x).toBitVec = (v.toBitVec <<< (k.toBitVec.smod 64)) ||| x.toBitVec := rfl
    rw [e2, BitVec.toNat_or, BitVec.shiftLeft_eq', BitVec.toNat_shiftLeft, hk, Nat.shiftLeft_eq, hm, Nat.mod_eq_of_lt (by omega)]
    have e3 : v.toBitVec.toNat * m = v.toBitVec.toNat <<< s := by rw [Nat.shiftLeft_eq, hm]
    rw [e3]
    exact (Nat.shiftLeft_add_eq_or_of_lt (by rw [hm]; exact hy) _).symm
  rw [l_of e1 (by omega), Int.natCast_add, Int.natCast_mul]
theorem l_an {v c : Int64} {s m : Nat} (hc : c.toBitVec.toNat = 2 ^ s - 1) (hm : 2 ^ s = m) (hm2 : 0 < m ∧ m ≤ 1024) (h0 : 0 ≤ v.toInt) : (v &&& c).toInt = v.toInt % (m : Int) := by
  obtain ⟨e, hl⟩ := l_nn h0
  have e1 : (v &&& c).toBitVec.toNat = v.toBitVec.toNat % m := by
    have e2 : (v &&& c).toBitVec = v.toBitVec &&& c.toBitVec := rfl
    rw [e2, BitVec.toNat_and, hc, Nat.and_two_pow_sub_one_eq_mod, hm]
  have hlt := Nat.mod_lt v.toBitVec.toNat hm2.1
  rw [l_of e1 (by omega), e, Int.natCast_emod]
theorem l_shr {v k : Int64} {s m : Nat} (hk : (k.toBitVec.smod 64).toNat = s) (hm : 2 ^ s = m) (h0 : 0 ≤ v.toInt) : (v >>> k).toInt = v.toInt / (m : Int) := by
  have e2 : (v >>> k).toInt = (v.toBitVec.sshiftRight' (k.toBitVec.smod 64)).toInt := rfl
  have e3 : v.toInt = v.toBitVec.toInt := rfl
  rw [e2, BitVec.toInt_sshiftRight', hk, Int.shiftRight_eq_div_pow, e3, ← hm]
  all_goals norm_cast
theorem l_32 {x : Int32} : (x.toInt64).toInt = x.toInt := Int32.toInt_toInt64 x
/-- the numbers of p laid behind v -/
def pkS (g : SV) (v : Int) (p : Nat) : Int := ((((((v * 16 + (g p).toInt) * 4 + (g (40 + p)).toInt) * 2 + (g (20 + (3 * p + (p + 1) % 3))).toInt) * 8 + (g (10 + (3 * p + (p + 1) % 3))).toInt) * 2 + (g (30 + (3 * p + (p + 1) % 3))).toInt) * 8 + (g (10 + (3 * p + (p + 2) % 3))).toInt) * 2 + (g (30 + (3 * p + (p + 2) % 3))).toInt
def pkP (g : SV) : Nat → Int
  | 0 => (g 50).toInt
  | p + 1 => pkS g (pkP g p) p
/-- a STATE as the reference packs it -/
def pkI (g : SV) : Int := pkP g 3
theorem b01 {x : Int32} (h : x = 0 ∨ x = 1) : 0 ≤ x.toInt ∧ x.toInt ≤ 1 := by
  rcases h with rfl | rfl <;> decide
theorem pkS_b {g : SV} (hG : GV g) {p : Nat} (hp : p < 3) {v B : Int} (hv : 0 ≤ v ∧ v < B) : 0 ≤ pkS g v p ∧ pkS g v p < B * 32768 := by
  have a1 := hG.1 p hp
  have a2 := hG.2.2.1 p hp
  have a3 := hG.2.1 (3 * p + (p + 1) % 3) (by omega)
  have a4 := hG.2.1 (3 * p + (p + 2) % 3) (by omega)
  have b3 := b01 a3.2.1
  have c3 := b01 a3.2.2
  have c4 := b01 a4.2.2
  unfold pkS
  omega
theorem pkP_b {g : SV} (hG : GV g) : (0 ≤ pkP g 0 ∧ pkP g 0 < 16) ∧ (0 ≤ pkP g 1 ∧ pkP g 1 < 524288) ∧ (0 ≤ pkP g 2 ∧ pkP g 2 < 17179869184) ∧ (0 ≤ pkP g 3 ∧ pkP g 3 < 562949953421312) := by
  have h0 : 0 ≤ pkP g 0 ∧ pkP g 0 < 16 := by
    have := hG.2.2.2
    show 0 ≤ (g 50).toInt ∧ (g 50).toInt < 16
    omega
  have h1 := pkS_b hG (p := 0) (by decide) h0
  have h2 := pkS_b hG (p := 1) (by decide) h1
  have h3 := pkS_b hG (p := 2) (by decide) h2
  exact ⟨h0, h1, h2, h3⟩
/-- WED is so for both -/
def GW (g : SV) : Prop := ∀ p q : Nat, p < 3 → q < 3 → g (20 + (3 * p + q)) = g (20 + (3 * q + p))
