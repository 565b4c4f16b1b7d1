theorem r_6_operandE (cy : Nat → ClassId) (tE : Nat) (S : KS) (x y : Int32) (post : Int32 → KS → Prop) (g : SV) (a b t : Int32) (h5 : S.2.1 3 < 5) (hg : ∀ n, n < 51 → ar S.1 (1 + S.2.1 3) n = g n) (ea : fi S.1 23 = a) (eb : fi S.1 24 = b) (et : fi S.1 25 = t) (ra : 0 ≤ a.toInt ∧ a.toInt ≤ 3) (rb : 0 ≤ b.toInt ∧ b.toInt ≤ 3) (rt : 0 ≤ t.toInt ∧ t.toInt ≤ 3) (hx : x.toInt = 2 ∨ x.toInt = 14 ∨ x.toInt = 7 ∨ x.toInt = 8 ∨ x.toInt = 11 ∨ x.toInt = 18 ∨ x.toInt = 19 ∨ x.toInt = 20) (k : post (rkU g a b t x y) S) : w_X6_operand cy tE S x y post := by
  unfold w_X6_operand w_X6_operand_B38
  rw [ea, eb]
  refine ⟨fun h2 => ⟨fun h14 => ⟨fun hy => ⟨fun _ => r_6_pE cy tE S x b a post g t h5 hg et rt rb ra (by omega) (by rw [rkU_b h2 h14 hy] at k; exact k), fun q => absurd q hy⟩, fun hy => ⟨fun q => absurd hy q, fun _ => r_6_pE cy tE S x a b post g t h5 hg et rt ra rb (by omega) (by rw [rkU_a h2 h14 hy] at k; exact k)⟩⟩, fun h14 => ⟨h5, r_9_getE cy tE S _ _ _ h5 (by decide) ?_⟩⟩, fun h2 => by rw [rkU_2 h2] at k; exact k⟩
  rw [rkU_14 h14] at k
  have e50 : ((50 : Int32)).toInt.toNat = 50 := by decide
  rw [e50, hg _ (by decide)]
  exact k
theorem r_6_isJointE (cy : Nat → ClassId) (tE : Nat) (S : KS) (x : Int32) (post : Int32 → KS → Prop) (k1 : jK x.toInt → post 1 S) (k0 : ¬ jK x.toInt → post 0 S) : w_X6_isJoint cy tE S x post :=
  ⟨fun g => ⟨Or.inr rfl, k1 (Or.inl g)⟩, fun g => ⟨fun g2 => ⟨Or.inr rfl, k1 (Or.inr (Or.inl g2))⟩, fun g2 => ⟨fun g3 => ⟨Or.inl rfl, k0 (by unfold jK; omega)⟩, fun g3 => ⟨Or.inr rfl, k1 (Or.inr (Or.inr g3))⟩⟩⟩⟩
theorem j_31 {x : Int32} (hx : x.toInt = 15 ∨ x.toInt = 16 ∨ x.toInt = 24 ∨ x.toInt = 25 ∨ x.toInt = 26 ∨ x.toInt = 29 ∨ x.toInt = 30 ∨ x.toInt = 31) (e : x.toInt ≠ 15 ∧ x.toInt ≠ 16 ∧ x.toInt ≠ 17 ∧ x.toInt ≠ 18 ∧ x.toInt ≠ 19 ∧ x.toInt ≠ 20 ∧ x.toInt ≠ 21 ∧ x.toInt ≠ 22 ∧ x.toInt ≠ 23 ∧ x.toInt ≠ 24 ∧ x.toInt ≠ 25 ∧ x.toInt ≠ 26 ∧ x.toInt ≠ 27 ∧ x.toInt ≠ 28 ∧ x.toInt ≠ 29 ∧ x.toInt ≠ 30) : x.toInt = 31 := by
  rcases hx with h | h | h | h | h | h | h | h
  · exact absurd h e.1
  · exact absurd h e.2.1
  · exact absurd h e.2.2.2.2.2.2.2.2.2.1
  · exact absurd h e.2.2.2.2.2.2.2.2.2.2.1
  · exact absurd h e.2.2.2.2.2.2.2.2.2.2.2.1
  · exact absurd h e.2.2.2.2.2.2.2.2.2.2.2.2.2.2.1
  · exact absurd h e.2.2.2.2.2.2.2.2.2.2.2.2.2.2.2
  · exact h
theorem r_6_joinedE (cy : Nat → ClassId) (tE : Nat) (S : KS) (x l r : Int32) (post : Int32 → KS → Prop) (hx : x.toInt = 15 ∨ x.toInt = 16 ∨ x.toInt = 24 ∨ x.toInt = 25 ∨ x.toInt = 26 ∨ x.toInt = 29 ∨ x.toInt = 30 ∨ x.toInt = 31) (k : post (rkJ x l r) S) : w_X6_joined cy tE S x l r post := by
  unfold w_X6_joined w_X6_joined_B122 w_X6_joined_B110 w_X6_joined_B121 w_X6_joined_B132
  exact ⟨fun e => by rw [rkJ_15 e] at k; exact k, fun e => by rw [rkJ_16 e] at k; exact k, fun e => by exfalso; omega, fun e => by exfalso; omega, fun e => by exfalso; omega, fun e => by exfalso; omega, fun e => by exfalso; omega, fun e => by exfalso; omega, fun e => by exfalso; omega, fun e => by rw [rkJ_24 e] at k; exact k, fun e => by rw [rkJ_25 e] at k; exact k, fun e => by rw [rkJ_26 e] at k; exact k, fun e => by exfalso; omega, fun e => by exfalso; omega, fun e => ⟨fun q => by rw [rkJ_29 e, if_neg (by omega)] at k; exact k, fun q => by rw [rkJ_29 e, if_pos q] at k; exact k⟩, fun e => ⟨fun q => by rw [rkJ_30 e, if_neg q] at k; exact k, fun q => by rw [rkJ_30 e, if_pos q] at k; exact k⟩, fun e => ⟨fun q => by rw [rkJ_31 (j_31 hx e), if_neg (by omega)] at k; exact k, fun q => by rw [rkJ_31 (j_31 hx e), if_pos q] at k; exact k⟩⟩
