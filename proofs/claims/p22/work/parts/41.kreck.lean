theorem pl_c {c x y : Int32} (hc : 0 ≤ c.toInt ∧ c.toInt ≤ 30) (hx : 0 ≤ x.toInt ∧ x.toInt ≤ 2) (hy : 0 ≤ y.toInt ∧ y.toInt ≤ 2) : 0 ≤ (c + ((3 : Int32) * x + y)).toInt ∧ (c + ((3 : Int32) * x + y)).toInt < 51 := by
  rw [ad_ab (by rw [ma_3 (by omega) (by omega)]; omega) (by rw [ma_3 (by omega) (by omega)]; omega), ma_3 (by omega) (by omega)]
  omega
theorem pl_4 {x : Int32} (hx : 0 ≤ x.toInt ∧ x.toInt ≤ 8) : 0 ≤ ((40 : Int32) + x).toInt ∧ ((40 : Int32) + x).toInt < 51 := by
  rw [ad_ab (by rw [li_40]; omega) (by rw [li_40]; omega), li_40]
  omega
set_option maxHeartbeats 400000 in
theorem r_9_unpack (cy : Nat → ClassId) (tE : Nat) (S : KS) (i : Nat) (v : Int64) (post : KS → Prop) (hi : i < 5) (k : ∀ S', KF [] stQ [] S S' → post S') (h0 : i ≠ 0 := by decide) : w_X9_unpack cy tE S i v post := by
  unfold w_X9_unpack
  have b46 : ∀ T, KF [] stQ [] S T → w_X9_unpack_B46 cy tE post T i v := by
    intro T hT
    unfold w_X9_unpack_B46
    refine lr4 (fun (T : KS) (i' : Nat) (_ : Int64) (p : Int32) => i' = i ∧ KF [] stQ [] S T ∧ 0 ≤ p.toInt ∧ p.toInt ≤ 3) (fun _ _ _ p => (3 - p.toInt).toNat) ?_ _ _ _ _ ⟨rfl, hT, by decide, by decide⟩
    rintro kk T i' v p ⟨rfl, hT, p0, p3⟩ hk
    unfold w_X9_unpack_F48 w_X9_unpack_B165
    refine ⟨fun _ => k _ hT, fun g => ⟨hi, r_9_coinShift _ _ _ _ _ (fun r => ⟨hi, by omega, ?_⟩)⟩⟩
    refine lr5 (fun (U : KS) (i2 : Nat) (_ : Int64) (p' q : Int32) => i2 = i' ∧ p' = p ∧ KF [] stQ [] S U ∧ 0 ≤ q.toInt ∧ q.toInt ≤ 3) (fun _ _ _ _ q => (3 - q.toInt).toNat) ?_ _ _ _ _ _ ⟨rfl, rfl, KF_su (stQ_in hi h0) hT, by decide, by decide⟩
    rintro kk2 U i2 v2 p' q ⟨rfl, rfl, hU, q0, q3⟩ hk2
    unfold w_X9_unpack_F73 w_X9_unpack_B153 w_X9_unpack_B159
    have go : q.toInt < 3 → ∀ V, KF [] stQ [] S V → kk2 V i2 v2 p' (q + 1) := fun g V hV => hk2 _ _ _ _ _ ⟨rfl, rfl, hV, by rw [inc1 (by omega)]; omega, by rw [inc1 (by omega)]; omega⟩ (by rw [inc1 (by omega)]; omega)
    refine ⟨fun _ => hk _ _ _ _ ⟨rfl, hU, by rw [inc1 (by omega)]; omega, by rw [inc1 (by omega)]; omega⟩ (by rw [inc1 (by omega)]; omega), fun g2 => ⟨fun _ => go g2 _ hU, fun _ => r_9_pairShift _ _ _ _ _ _ (fun r2 => ⟨hi, hi, pl_c (by decide) (by omega) (by omega), hi, hi, pl_c (by decide) (by omega) (by omega), hi, hi, pl_c (by decide) (by omega) (by omega), go g2 _ (KF_su (stQ_in hi h0) (KF_su (stQ_in hi h0) (KF_su (stQ_in hi h0) hU)))⟩)⟩⟩
  refine ⟨hi, hi, ?_⟩
  refine lr4 (fun (T : KS) (i' : Nat) (v' : Int64) (p : Int32) => i' = i ∧ v' = v ∧ KF [] stQ [] S T ∧ 0 ≤ p.toInt ∧ p.toInt ≤ 3) (fun _ _ _ p => (3 - p.toInt).toNat) ?_ _ _ _ _ ⟨rfl, rfl, KF_su (stQ_in hi h0) (KF_rf S), by decide, by decide⟩
  rintro kk T i' v' p ⟨rfl, rfl, hT, p0, p3⟩ hk
  unfold w_X9_unpack_F15
  exact ⟨fun _ => b46 T hT, fun g => ⟨hi, r_9_ownerShift _ _ _ _ _ (fun r => ⟨hi, pl_4 (by omega), hk _ _ _ _ ⟨rfl, rfl, KF_su (stQ_in hi h0) hT, by rw [inc1 (by omega)]; omega, by rw [inc1 (by omega)]; omega⟩ (by rw [inc1 (by omega)]; omega)⟩)⟩⟩
set_option maxHeartbeats 400000 in
theorem r_9_packed (cy : Nat → ClassId) (tE : Nat) (S : KS) (i : Nat) (x y : Int32) (post : Int64 → KS → Prop) (hi : i < 5) (k : ∀ v, post v S) : w_X9_packed cy tE S i x y post := by
  unfold w_X9_packed
  have b52 : ∀ v, w_X9_packed_B52 cy tE post S i x v := by
    intro v
    unfold w_X9_packed_B52
    refine lr5 (fun (T : KS) (i' : Nat) (_ : Int32) (_ : Int64) (p : Int32) => T = S ∧ i' = i ∧ 0 ≤ p.toInt ∧ p.toInt ≤ 3) (fun _ _ _ _ p => (3 - p.toInt).toNat) ?_ _ _ _ _ _ ⟨rfl, rfl, by decide, by decide⟩
    rintro kk T i' x' v p ⟨rfl, rfl, p0, p3⟩ hk
    unfold w_X9_packed_F55 w_X9_packed_B179
    refine ⟨fun _ => k _, fun g => r_11_become _ _ _ _ _ _ (fun r => ⟨hi, hi, by omega, r_9_coinShift _ _ _ _ _ (fun r2 => ?_)⟩)⟩
    refine lr7 (fun (U : KS) (i2 : Nat) (_ : Int32) (_ : Int64) (p' _ q : Int32) => U = T ∧ i2 = i' ∧ p' = p ∧ 0 ≤ q.toInt ∧ q.toInt ≤ 3) (fun _ _ _ _ _ _ q => (3 - q.toInt).toNat) ?_ _ _ _ _ _ _ _ ⟨rfl, rfl, rfl, by decide, by decide⟩
    rintro kk2 U i2 x2 v2 p' z q ⟨rfl, rfl, rfl, q0, q3⟩ hk2
    unfold w_X9_packed_F89 w_X9_packed_B173 w_X9_packed_B167
    have go : q.toInt < 3 → ∀ v, kk2 U i2 x2 v p' z (q + 1) := fun g v => hk2 _ _ _ _ _ _ _ ⟨rfl, rfl, rfl, by rw [inc1 (by omega)]; omega, by rw [inc1 (by omega)]; omega⟩ (by rw [inc1 (by omega)]; omega)
    refine ⟨fun _ => hk _ _ _ _ _ ⟨rfl, rfl, by rw [inc1 (by omega)]; omega, by rw [inc1 (by omega)]; omega⟩ (by rw [inc1 (by omega)]; omega), fun g2 => ⟨fun _ => go g2 _, fun _ => ⟨hi, hi, pl_c (by decide) (by omega) (by omega), hi, hi, pl_c (by decide) (by omega) (by omega), hi, hi, pl_c (by decide) (by omega) (by omega), r_11_become _ _ _ _ _ _ (fun _ => r_9_pairShift _ _ _ _ _ _ (fun _ => go g2 _))⟩⟩⟩
  refine ⟨hi, hi, ?_⟩
  refine lr6 (fun (T : KS) (i' : Nat) (x' _ : Int32) (_ : Int64) (p : Int32) => T = S ∧ i' = i ∧ x' = x ∧ 0 ≤ p.toInt ∧ p.toInt ≤ 3) (fun _ _ _ _ _ p => (3 - p.toInt).toNat) ?_ _ _ _ _ _ _ ⟨rfl, rfl, rfl, by decide, by decide⟩
  rintro kk T i' x' y' v p ⟨rfl, rfl, rfl, p0, p3⟩ hk
  unfold w_X9_packed_F12
  exact ⟨fun _ => b52 _, fun g => ⟨hi, hi, pl_4 (by omega), r_11_become _ _ _ _ _ _ (fun _ => r_11_become _ _ _ _ _ _ (fun _ => r_9_ownerShift _ _ _ _ _ (fun _ => hk _ _ _ _ _ _ ⟨rfl, rfl, rfl, by rw [inc1 (by omega)]; omega, by rw [inc1 (by omega)]; omega⟩ (by rw [inc1 (by omega)]; omega))))⟩⟩
set_option maxHeartbeats 400000 in
theorem r_9_isInBounds (cy : Nat → ClassId) (tE : Nat) (S : KS) (i : Nat) (post : Int32 → KS → Prop) (hi : i < 5) (k : ∀ r, post r S) : w_X9_isInBounds cy tE S i post := by
  unfold w_X9_isInBounds
  have b29 : w_X9_isInBounds_B29 cy tE post S i := by
    unfold w_X9_isInBounds_B29
    refine lr3 (fun (T : KS) (i' : Nat) (p : Int32) => T = S ∧ i' = i ∧ 0 ≤ p.toInt ∧ p.toInt ≤ 9) (fun _ _ p => (9 - p.toInt).toNat) ?_ _ _ _ ⟨rfl, rfl, by decide, by decide⟩
    rintro kk T i' p ⟨rfl, rfl, p0, p3⟩ hk
    unfold w_X9_isInBounds_F31 w_X9_isInBounds_B62
    exact ⟨fun _ => ⟨hi, hi, r_11_isWithin _ _ _ _ _ _ (fun _ hr _ => ⟨hr, k _⟩)⟩, fun g => ⟨hi, hi, by rw [ad_10 (by omega)]; omega, r_11_isWithin _ _ _ _ _ _ (fun _ _ _ => ⟨fun _ => hk _ _ _ ⟨rfl, rfl, by rw [inc1 (by omega)]; omega, by rw [inc1 (by omega)]; omega⟩ (by rw [inc1 (by omega)]; omega), fun _ => k _⟩)⟩⟩
  refine lr3 (fun (T : KS) (i' : Nat) (p : Int32) => T = S ∧ i' = i ∧ 0 ≤ p.toInt ∧ p.toInt ≤ 3) (fun _ _ p => (3 - p.toInt).toNat) ?_ _ _ _ ⟨rfl, rfl, by decide, by decide⟩
  rintro kk T i' p ⟨rfl, rfl, p0, p3⟩ hk
  unfold w_X9_isInBounds_F2
  exact ⟨fun _ => b29, fun g => ⟨hi, hi, by omega, r_11_isWithin _ _ _ _ _ _ (fun _ _ _ => ⟨fun _ => hk _ _ _ ⟨rfl, rfl, by rw [inc1 (by omega)]; omega, by rw [inc1 (by omega)]; omega⟩ (by rw [inc1 (by omega)]; omega), fun _ => k _⟩)⟩⟩
set_option maxHeartbeats 400000 in
theorem r_9_change (cy : Nat → ClassId) (tE : Nat) (S : KS) (i : Nat) (x y z t m : Int32) (post : KS → Prop) (hi : i < 5) (k : ∀ S', KF [] stQ [] S S' → post S') (h0 : i ≠ 0 := by decide) : w_X9_change cy tE S i x y z t m post := by
  have st : ∀ (T : KS) (a b : Int32) (P : KS → Prop), KF [] stQ [] S T → (∀ S', KF [] stQ [] S S' → P S') → w_X9_set cy tE T i a b P := fun T a b P hT hP => r_9_setQ cy tE T i a b P hi (fun S' h => hP S' (KF_tr hT h)) h0
  have b164 : w_X9_change_B164 cy tE post S i m := ⟨hi, r_9_get _ _ _ _ _ _ hi (fun _ => ⟨hi, st _ _ _ _ (KF_rf S) (fun S' h => k _ h)⟩)⟩
  have b145 : ∀ (T : KS) (a b : Int32), KF [] stQ [] S T → w_X9_change_B145 cy tE post T a b i := fun T a b hT => ⟨hi, st _ _ _ _ hT (fun S' h => k _ h)⟩
  have b122 : ∀ (x y z a b : Int32), w_X9_change_B122 cy tE post S i x y z a b i := fun x y z a b => ⟨hi, st _ _ _ _ (KF_rf S) (fun S' h => ⟨fun _ => b145 _ _ _ h, fun _ => b145 _ _ _ h⟩)⟩
  have b105 : ∀ (x y z a : Int32), w_X9_change_B105 cy tE post S i x y z a := fun x y z a => ⟨fun _ => b122 _ _ _ _ _, fun _ => b122 _ _ _ _ _⟩
  unfold w_X9_change w_X9_change_B179
  exact ⟨fun _ => ⟨hi, r_9_get _ _ _ _ _ _ hi (fun _ => ⟨hi, st _ _ _ _ (KF_rf S) (fun S' h => k _ h)⟩)⟩, fun _ => ⟨hi, r_9_get _ _ _ _ _ _ hi (fun _ => ⟨hi, st _ _ _ _ (KF_rf S) (fun S' h => k _ h)⟩)⟩, fun _ => ⟨hi, st _ _ _ _ (KF_rf S) (fun S' h => k _ h)⟩, fun _ => b164, fun _ => b105 _ _ _ _, fun _ => b105 _ _ _ _, fun _ => ⟨hi, st _ _ _ _ (KF_rf S) (fun S' h => k _ h)⟩, fun _ => b164⟩
/-- a Clause in L, its cells at places that A has -/
def CLp (cy : Nat → ClassId) (A : Nat → Prop) (L : va_W) (q : Nat) : Prop := ∃ (i : Nat) (k f : Int32) (o : Nat), A i ∧ L[i]? = some (q, .inr (2, [.int k, .int f, .ref o])) ∧ ∃ (j n : Nat) (g : Nat → Int32), A j ∧ L[j]? = some (o, .inl (cy 0, n, .inl g)) ∧ n ≤ 700
/-- a list in L of what P says -/
def LSp (cy : Nat → ClassId) (A : Nat → Prop) (L : va_W) (P : Nat → Prop) (q : Nat) : Prop := ∃ (i : Nat) (m : Int32) (e : Nat) (n : Int32), A i ∧ L[i]? = some (q, .inr (0, [.int m, .ref e, .int n])) ∧ 0 ≤ n.toInt ∧ n.toInt ≤ 10 ∧ (n.toInt = 0 ∨ ∃ (j c : Nat) (f : Nat → Option Nat), A j ∧ L[j]? = some (e, .inl (cy 5, c, .inr (.inr (.inr (.inr f))))) ∧ n.toInt ≤ (c : Int) ∧ ∀ k : Nat, (k : Int) < n.toInt → ∃ q', f k = some q' ∧ P q')
def CUp (cy : Nat → ClassId) (A : Nat → Prop) (L : va_W) (q : Nat) : Prop := ∃ (i : Nat) (a : Int32) (c : Nat), A i ∧ L[i]? = some (q, .inr (4, [.int a, .ref c])) ∧ CLp cy A L c
def ACp (cy : Nat → ClassId) (A : Nat → Prop) (L : va_W) (q : Nat) : Prop := ∃ (i : Nat) (nm : Int64) (nd mk : Nat) (wo wt : Int32), A i ∧ L[i]? = some (q, .inr (1, [.long nm, .ref nd, .ref mk, .int wo, .int wt])) ∧ LSp cy A L (CLp cy A L) nd ∧ LSp cy A L (CLp cy A L) mk
set_option maxHeartbeats 400000 in
theorem r_size (cy : Nat → ClassId) (tE : Nat) (S : KS) (q i : Nat) (m n : Int32) (e : Value) (post : Int32 → KS → Prop) (hc : S.2.2.2[i]? = some (q, .inr (0, [.int m, e, .int n]))) (k : post n S) : w_Jx4a65c_size_8abf5 cy tE S q post := ⟨i, m, e, n, hc, k⟩
set_option maxHeartbeats 400000 in
theorem r_getE (cy : Nat → ClassId) (tE : Nat) (S : KS) (q i j c e : Nat) (m n x : Int32) (f : Nat → Option Nat) (post : Option Nat → KS → Prop) (hc : S.2.2.2[i]? = some (q, .inr (0, [.int m, .ref e, .int n]))) (ha : S.2.2.2[j]? = some (e, .inl (cy 5, c, .inr (.inr (.inr (.inr f)))))) (hx : 0 ≤ x.toInt ∧ x.toInt < n.toInt) (hn : n.toInt ≤ (c : Int)) (k : post (f x.toNatClampNeg) S) : w_Jx4a65c_get_915e3 cy tE S q x post := by
  unfold w_Jx4a65c_get_915e3 w_J15_checkIndex_7cf53 w_J3_checkIndex_8e157 w_J3_checkIndex_8e157_B9 w_Jx4a65c_elementData_915e3
  exact ⟨i, m, .ref e, n, hc, fun h => absurd h (by omega), fun _ => ⟨fun _ => ⟨i, _, hc, i, m, e, n, hc, j, c, f, ha, ⟨hx.1, by omega⟩, k⟩, fun h => absurd h (by omega)⟩⟩
set_option maxHeartbeats 400000 in
theorem r_6_value (cy : Nat → ClassId) (tE : Nat) (S : KS) (A : Nat → Prop) (q : Nat) (post : Int32 → KS → Prop) (hq : CLp cy A S.2.2.2 q) (h5 : S.2.1 3 < 5) (k : ∀ r S', KF [] [16] [] S S' → post r S') : w_X6_value cy tE S q post := by
  unfold w_X6_value
  obtain ⟨i, kd, fr, o, -, hc, j, n, g, -, ha, hn⟩ := hq
  have e7 : (Int32.ofNat n).toInt = (n : Int) := Int32.toInt_ofNat_of_lt (by omega)
  refine lr4 (fun (T : KS) (q' : Nat) (m x : Int32) => q' = q ∧ KF [] [16] [] S T ∧ 0 ≤ x.toInt ∧ x.toInt ≤ (n : Int) ∧ -x.toInt ≤ m.toInt ∧ m.toInt ≤ 40) (fun _ _ _ x => ((n : Int) - x.toInt).toNat) ?_ _ _ _ _ ⟨rfl, KF_rf S, by decide, by rw [li_0]; omega, by decide, by decide⟩
  rintro kk T q' m x ⟨rfl, hT, x0, x1, m0, m1⟩ hk
  unfold w_X6_value_F4
  have eL : T.2.2.2 = S.2.2.2 := by rw [hT.2.1]
  rw [eL]
  have h5T := hT.2.2.2.1 h5
  refine ⟨i, kd, fr, o, hc, j, n, g, ha, ?_⟩
  rw [e7]
  clear e7
  have go : x.toInt < (n : Int) → ∀ (U : KS) (m2 : Int32), KF [] [16] [] S U → -(x.toInt + 1) ≤ m2.toInt → m2.toInt ≤ 40 → w_X6_value_B138 cy tE post kk (w_X6_value_B144 cy tE post) U q' m2 x := by
    intro gx U m2 hU a b
    unfold w_X6_value_B138
    exact hk _ _ _ _ ⟨rfl, hU, by rw [inc1 (by omega)]; omega, by rw [inc1 (by omega)]; omega, by rw [inc1 (by omega)]; omega, b⟩ (by rw [inc1 (by omega)]; omega)
  refine ⟨fun _ => ⟨fun _ => k _ _ hT, fun _ => k _ _ hT⟩, fun gx => ⟨i, kd, fr, o, hc, j, n, g, ha, ⟨x0, gx⟩, ?_⟩⟩
  generalize g x.toNatClampNeg = op
  refine r_6_isJoint _ _ _ _ _ (fun r hr => ⟨fun _ => ⟨fun _ => ⟨fun _ => go gx _ _ hT (by omega) m1, fun g2 => ⟨fun _ => go gx _ _ hT (by omega) m1, fun g3 => r_6_operand _ _ _ _ _ _ h5T (fun r2 => ⟨⟨g2, g3⟩, go gx _ _ (KF_su (by decide) hT) (by rw [inc1 (by omega)]; omega) (by rw [inc1 (by omega)]; omega)⟩)⟩⟩, fun _ => ⟨fun _ => go gx _ _ hT (by omega) m1, fun g2 => ?_⟩⟩, fun _ => ?_⟩)
  · rw [sub1 (by omega)]
    exact ⟨by omega, by omega, go gx _ _ (KF_su (by decide) hT) (by omega) m1⟩
  · rw [dec1 (by omega)]
    refine ⟨fun _ => go gx _ _ hT (by rw [dec1 (by omega)]; omega) (by rw [dec1 (by omega)]; omega), fun g2 => ?_⟩
    rw [dec2 (by omega)]
    exact ⟨by omega, by omega, r_6_joined _ _ _ _ _ _ _ (fun r3 => ⟨by omega, go gx _ _ (KF_su (by decide) hT) (by rw [dec1 (by omega)]; omega) (by rw [dec1 (by omega)]; omega)⟩)⟩
set_option maxHeartbeats 400000 in
theorem r_4_actAt (cy : Nat → ClassId) (tE : Nat) (S : KS) (x : Int32) (post : Option Nat → KS → Prop) (k : ∀ r, (r = none ∨ ∃ i, i < 12 ∧ r = S.2.2.1 i) → post r S) : w_X4_actAt cy tE S x post := by
  unfold w_X4_actAt w_X4_actAt_B22 w_X4_actAt_B23
  exact ⟨fun _ => k _ (Or.inl rfl), fun h => ⟨fun _ => k _ (Or.inl rfl), fun h2 => ⟨⟨h, h2⟩, k _ (Or.inr ⟨_, by rw [tnc]; omega, rfl⟩)⟩⟩⟩
set_option maxHeartbeats 400000 in
theorem r_4_actOf (cy : Nat → ClassId) (tE : Nat) (S : KS) (A : Nat → Prop) (x y : Int32) (post : Option Nat → KS → Prop) (hA : ∀ i, i < 12 → ∀ q, S.2.2.1 i = some q → ACp cy A S.2.2.2 q) (k : ∀ r, (r = none ∨ ∃ q, r = some q ∧ ACp cy A S.2.2.2 q) → post r S) : w_X4_actOf cy tE S x y post := by
  unfold w_X4_actOf
  refine ⟨fun _ => r_4_actAt _ _ _ _ _ (fun r hr => ⟨fun _ => k _ (Or.inl rfl), fun q hq => ?_⟩), fun _ => k _ (Or.inl rfl)⟩
  have hAq : ACp cy A S.2.2.2 q := by
    rcases hr with h | ⟨i, hi, h⟩
    · rw [h] at hq; exact absurd hq (by simp)
    · exact hA i hi q (h.symm.trans hq)
  have yes : post (some q) S := k _ (Or.inr ⟨q, rfl, hAq⟩)
  have nop : post none S := k _ (Or.inl rfl)
  obtain ⟨i, nm, nd, mk, wo, wt, -, hc, -, -⟩ := hAq
  have b104 : ∀ y0, w_X4_actOf_B104 cy tE post S (some q) y0 := fun y0 => ⟨fun _ => nop, fun _ => yes⟩
  have b103 : w_X4_actOf_B103 cy tE post S (some q) := b104 0
  have b84 : w_X4_actOf_B84 cy tE post S x (some q) := ⟨q, rfl, i, nm, .ref nd, .ref mk, wo, wt, hc, r_11_thingOf _ _ _ _ _ (fun _ _ => r_11_isThing _ _ _ _ _ (fun _ _ _ => ⟨fun _ => b103, fun _ => b104 1⟩))⟩
  refine r_11_doerOf _ _ _ _ _ (fun r4 _ => r_11_otherOf _ _ _ _ _ (fun r6 _ => r_11_isPerson _ _ _ _ _ (fun r8 _ _ => ⟨fun _ => b103, fun _ => ⟨i, nm, .ref nd, .ref mk, wo, wt, hc, fun _ => ⟨fun _ => b103, fun _ => b84⟩, fun _ => r_11_isPerson _ _ _ _ _ (fun _ _ _ => ⟨fun _ => b103, fun _ => ⟨fun _ => b103, fun _ => b84⟩⟩)⟩⟩)))
