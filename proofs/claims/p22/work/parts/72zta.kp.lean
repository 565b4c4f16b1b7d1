theorem p_no {x : Int32} (hx : x.toInt = 7 ∨ x.toInt = 8 ∨ x.toInt = 11 ∨ x.toInt = 18 ∨ x.toInt = 19 ∨ x.toInt = 20) (e : x.toInt ≠ 7 ∧ x.toInt ≠ 8 ∧ x.toInt ≠ 9 ∧ x.toInt ≠ 10 ∧ x.toInt ≠ 11 ∧ x.toInt ≠ 12 ∧ x.toInt ≠ 13 ∧ x.toInt ≠ 14 ∧ x.toInt ≠ 15 ∧ x.toInt ≠ 16 ∧ x.toInt ≠ 17 ∧ x.toInt ≠ 18 ∧ x.toInt ≠ 19 ∧ x.toInt ≠ 20) : False := by
  rcases hx with h | h | h | h | h | h
  · exact e.1 h
  · exact e.2.1 h
  · exact e.2.2.2.2.1 h
  · exact e.2.2.2.2.2.2.2.2.2.2.2.1 h
  · exact e.2.2.2.2.2.2.2.2.2.2.2.2.1 h
  · exact e.2.2.2.2.2.2.2.2.2.2.2.2.2 h
theorem r_6_pE (cy : Nat → ClassId) (tE : Nat) (S : KS) (x p q : Int32) (post : Int32 → KS → Prop) (g : SV) (t : Int32) (h5 : S.2.1 3 < 5) (hg : ∀ n, n < 51 → ar S.1 (1 + S.2.1 3) n = g n) (et : fi S.1 25 = t) (rt : 0 ≤ t.toInt ∧ t.toInt ≤ 3) (rp : 0 ≤ p.toInt ∧ p.toInt ≤ 3) (rq : 0 ≤ q.toInt ∧ q.toInt ≤ 3) (hx : x.toInt = 7 ∨ x.toInt = 8 ∨ x.toInt = 11 ∨ x.toInt = 18 ∨ x.toInt = 19 ∨ x.toInt = 20) (k : post (rkP g t x p q) S) : w_X6_operand_B54 cy tE post S x p q := by
  unfold w_X6_operand_B54 w_X6_operand_B240 w_X6_operand_B266 w_X6_operand_B239 w_X6_operand_B212 w_X6_operand_B175 w_X6_operand_B176
  rw [et]
  have pair : ∀ (c : Int32) (m : Nat) (P : Int32 → KS → Prop), c.toInt = (m : Int) → m ≤ 30 → p.toInt ≠ 3 → q.toInt ≠ 3 → P (g (m + (3 * p.toInt.toNat + q.toInt.toNat))) S → w_X9_get cy tE S (S.2.1 3) ((c + ((3 : Int32) * p)) + q) P := by
    intro c m P hc hm hp hq hP
    have e := pr_c (c := c) (p := p) (q := q) ⟨by omega, by omega⟩ rp rq
    refine r_9_getE cy tE S _ _ _ h5 (by rw [e]; omega) ?_
    rw [e, hg _ (by omega)]
    have e2 : (c.toInt + (3 * p.toInt + q.toInt)).toNat = m + (3 * p.toInt.toNat + q.toInt.toNat) := by omega
    rw [e2]
    exact hP
  have b240 : x.toInt = 18 → p.toInt ≠ 3 → ((q.toInt ≠ 3 → (S.2.1 3 < 5) ∧ w_X9_get cy tE S (S.2.1 3) (((30 : Int32) + ((3 : Int32) * p)) + q) (fun r8 S9 => post r8 S9)) ∧ (q.toInt = 3 → post 0 S)) := fun e hp => ⟨fun hq => ⟨h5, pair 30 30 _ (by decide) (by decide) hp hq (by rw [rkP_18 hp e hq] at k; exact k)⟩, fun hq => by rw [rkP_q (Or.inr (Or.inr e)) hq] at k; exact k⟩
  refine ⟨fun hp => ⟨fun e => ⟨h5, r_9_getE cy tE S _ _ _ h5 (by omega) (by rw [hg _ (by omega)]; rw [rkP_7 hp e] at k; exact k)⟩, fun e => ⟨fun hq => ⟨h5, pair 10 10 _ (by decide) (by decide) hp hq (by rw [rkP_8 hp e hq] at k; exact k)⟩, fun hq => by rw [rkP_q (Or.inl e) hq] at k; exact k⟩, fun e => by exfalso; omega, fun e => by exfalso; omega, fun e => ⟨fun hq => ⟨h5, pair 20 20 _ (by decide) (by decide) hp hq (by rw [rkP_11 hp e hq] at k; exact k)⟩, fun hq => by rw [rkP_q (Or.inr (Or.inl e)) hq] at k; exact k⟩, fun e => by exfalso; omega, fun e => by exfalso; omega, fun e => by exfalso; omega, fun e => by exfalso; omega, fun e => by exfalso; omega, fun e => by exfalso; omega, fun e => b240 e hp, fun e => ?_, fun e => ⟨h5, r_9_thingsOfE cy tE S _ _ _ g h5 hg (by rw [rkP_20 hp e] at k; exact k)⟩, fun e => by exfalso; exact p_no hx e⟩, fun hp => by rw [rkP_3 hp] at k; exact k⟩
  rw [rkP_19 hp e] at k
  refine ⟨fun h => by rw [if_pos h] at k; exact k, fun h => ⟨h5, ?_⟩⟩
  rw [if_neg h] at k
  have e40 : ((40 : Int32) + t).toInt = 40 + t.toInt := by
    rw [ad_ab (by rw [li_40]; omega) (by rw [li_40]; omega), li_40]
  refine r_9_getE cy tE S _ _ _ h5 (by rw [e40]; omega) ?_
  rw [e40, hg _ (by omega)]
  have e41 : (40 + t.toInt).toNat = 40 + t.toInt.toNat := by omega
  rw [e41]
  exact ⟨fun q => by rw [if_neg q] at k; exact k, fun q => by rw [if_pos q] at k; exact k⟩
