set_option maxHeartbeats 400000 in
theorem r_11_isWithin (cy : Nat → ClassId) (tE : Nat) (S : KS) (x y : Int32) (post : Int32 → KS → Prop) (k : ∀ r : Int32, (r = 0 ∨ r = 1) → (r.toInt = 0 ∧ ¬ (0 ≤ x.toInt ∧ x.toInt ≤ y.toInt)) ∨ (r.toInt = 1 ∧ (0 ≤ x.toInt ∧ x.toInt ≤ y.toInt)) → post r S) : w_X11_isWithin cy tE S x y post := by
  unfold w_X11_isWithin w_X11_isWithin_B13 w_X11_isWithin_B14
  exact ⟨fun h => ⟨Or.inl rfl, k 0 (Or.inl rfl) (Or.inl ⟨by decide, by omega⟩)⟩, fun h => ⟨fun h2 => ⟨Or.inl rfl, k 0 (Or.inl rfl) (Or.inl ⟨by decide, by omega⟩)⟩, fun h2 => ⟨Or.inr rfl, k 1 (Or.inr rfl) (Or.inr ⟨by decide, by omega⟩)⟩⟩⟩
set_option maxHeartbeats 400000 in
theorem r_11_isPerson (cy : Nat → ClassId) (tE : Nat) (S : KS) (x : Int32) (post : Int32 → KS → Prop) (k : ∀ r : Int32, (r = 0 ∨ r = 1) → (r.toInt = 0 ∧ ¬ (0 ≤ x.toInt ∧ x.toInt ≤ 2)) ∨ (r.toInt = 1 ∧ (0 ≤ x.toInt ∧ x.toInt ≤ 2)) → post r S) : w_X11_isPerson cy tE S x post := by
  unfold w_X11_isPerson w_X11_isPerson_B13 w_X11_isPerson_B14
  exact ⟨fun h => ⟨Or.inl rfl, k 0 (Or.inl rfl) (Or.inl ⟨by decide, by omega⟩)⟩, fun h => ⟨fun h2 => ⟨Or.inl rfl, k 0 (Or.inl rfl) (Or.inl ⟨by decide, by omega⟩)⟩, fun h2 => ⟨Or.inr rfl, k 1 (Or.inr rfl) (Or.inr ⟨by decide, by omega⟩)⟩⟩⟩
set_option maxHeartbeats 400000 in
theorem r_11_isThing (cy : Nat → ClassId) (tE : Nat) (S : KS) (x : Int32) (post : Int32 → KS → Prop) (k : ∀ r : Int32, (r = 0 ∨ r = 1) → (r.toInt = 0 ∧ ¬ (0 ≤ x.toInt ∧ x.toInt ≤ 2)) ∨ (r.toInt = 1 ∧ (0 ≤ x.toInt ∧ x.toInt ≤ 2)) → post r S) : w_X11_isThing cy tE S x post := by
  unfold w_X11_isThing w_X11_isThing_B13 w_X11_isThing_B14
  exact ⟨fun h => ⟨Or.inl rfl, k 0 (Or.inl rfl) (Or.inl ⟨by decide, by omega⟩)⟩, fun h => ⟨fun h2 => ⟨Or.inl rfl, k 0 (Or.inl rfl) (Or.inl ⟨by decide, by omega⟩)⟩, fun h2 => ⟨Or.inr rfl, k 1 (Or.inr rfl) (Or.inr ⟨by decide, by omega⟩)⟩⟩⟩
set_option maxHeartbeats 400000 in
theorem r_11_isRow (cy : Nat → ClassId) (tE : Nat) (S : KS) (x : Int32) (post : Int32 → KS → Prop) (k : ∀ r : Int32, (r = 0 ∨ r = 1) → (r.toInt = 0 ∧ ¬ (0 ≤ x.toInt ∧ x.toInt ≤ 5)) ∨ (r.toInt = 1 ∧ (0 ≤ x.toInt ∧ x.toInt ≤ 5)) → post r S) : w_X11_isRow cy tE S x post := by
  unfold w_X11_isRow w_X11_isRow_B14 w_X11_isRow_B15
  exact ⟨fun h => ⟨Or.inl rfl, k 0 (Or.inl rfl) (Or.inl ⟨by decide, by omega⟩)⟩, fun h => ⟨fun h2 => ⟨Or.inl rfl, k 0 (Or.inl rfl) (Or.inl ⟨by decide, by omega⟩)⟩, fun h2 => ⟨Or.inr rfl, k 1 (Or.inr rfl) (Or.inr ⟨by decide, by omega⟩)⟩⟩⟩
set_option maxHeartbeats 400000 in
theorem r_11_isDepth (cy : Nat → ClassId) (tE : Nat) (S : KS) (x : Int32) (post : Int32 → KS → Prop) (k : ∀ r : Int32, (r = 0 ∨ r = 1) → (r.toInt = 0 ∧ ¬ (0 ≤ x.toInt ∧ x.toInt ≤ 6)) ∨ (r.toInt = 1 ∧ (0 ≤ x.toInt ∧ x.toInt ≤ 6)) → post r S) : w_X11_isDepth cy tE S x post := by
  unfold w_X11_isDepth w_X11_isDepth_B14 w_X11_isDepth_B15
  exact ⟨fun h => ⟨Or.inl rfl, k 0 (Or.inl rfl) (Or.inl ⟨by decide, by omega⟩)⟩, fun h => ⟨fun h2 => ⟨Or.inl rfl, k 0 (Or.inl rfl) (Or.inl ⟨by decide, by omega⟩)⟩, fun h2 => ⟨Or.inr rfl, k 1 (Or.inr rfl) (Or.inr ⟨by decide, by omega⟩)⟩⟩⟩
set_option maxHeartbeats 400000 in
theorem r_11_areLaws (cy : Nat → ClassId) (tE : Nat) (S : KS) (x : Int32) (post : Int32 → KS → Prop) (k : ∀ r : Int32, (r = 0 ∨ r = 1) → (r.toInt = 0 ∧ ¬ (1 ≤ x.toInt ∧ x.toInt ≤ 3)) ∨ (r.toInt = 1 ∧ (1 ≤ x.toInt ∧ x.toInt ≤ 3)) → post r S) : w_X11_areLaws cy tE S x post := by
  unfold w_X11_areLaws w_X11_areLaws_B14 w_X11_areLaws_B15
  exact ⟨fun h => ⟨Or.inl rfl, k 0 (Or.inl rfl) (Or.inl ⟨by decide, by omega⟩)⟩, fun h => ⟨fun h2 => ⟨Or.inl rfl, k 0 (Or.inl rfl) (Or.inl ⟨by decide, by omega⟩)⟩, fun h2 => ⟨Or.inr rfl, k 1 (Or.inr rfl) (Or.inr ⟨by decide, by omega⟩)⟩⟩⟩
set_option maxHeartbeats 400000 in
theorem r_10_isLetter (cy : Nat → ClassId) (tE : Nat) (S : KS) (x : Int32) (post : Int32 → KS → Prop) (k : ∀ r : Int32, (r = 0 ∨ r = 1) → (r.toInt = 0 ∧ ¬ (97 ≤ x.toInt ∧ x.toInt ≤ 122)) ∨ (r.toInt = 1 ∧ (97 ≤ x.toInt ∧ x.toInt ≤ 122)) → post r S) : w_X10_isLetter cy tE S x post := by
  unfold w_X10_isLetter w_X10_isLetter_B16 w_X10_isLetter_B17
  exact ⟨fun h => ⟨Or.inl rfl, k 0 (Or.inl rfl) (Or.inl ⟨by decide, by omega⟩)⟩, fun h => ⟨fun h2 => ⟨Or.inl rfl, k 0 (Or.inl rfl) (Or.inl ⟨by decide, by omega⟩)⟩, fun h2 => ⟨Or.inr rfl, k 1 (Or.inr rfl) (Or.inr ⟨by decide, by omega⟩)⟩⟩⟩
set_option maxHeartbeats 400000 in
theorem r_10_isDigit (cy : Nat → ClassId) (tE : Nat) (S : KS) (x : Int32) (post : Int32 → KS → Prop) (k : ∀ r : Int32, (r = 0 ∨ r = 1) → (r.toInt = 0 ∧ ¬ (48 ≤ x.toInt ∧ x.toInt ≤ 57)) ∨ (r.toInt = 1 ∧ (48 ≤ x.toInt ∧ x.toInt ≤ 57)) → post r S) : w_X10_isDigit cy tE S x post := by
  unfold w_X10_isDigit w_X10_isDigit_B16 w_X10_isDigit_B17
  exact ⟨fun h => ⟨Or.inl rfl, k 0 (Or.inl rfl) (Or.inl ⟨by decide, by omega⟩)⟩, fun h => ⟨fun h2 => ⟨Or.inl rfl, k 0 (Or.inl rfl) (Or.inl ⟨by decide, by omega⟩)⟩, fun h2 => ⟨Or.inr rfl, k 1 (Or.inr rfl) (Or.inr ⟨by decide, by omega⟩)⟩⟩⟩
set_option maxHeartbeats 400000 in
theorem r_11_arePair (cy : Nat → ClassId) (tE : Nat) (S : KS) (x y : Int32) (post : Int32 → KS → Prop) (k : ∀ r : Int32, (r = 0 ∨ r = 1) → (r.toInt = 0 ∧ ¬ ((0 ≤ x.toInt ∧ x.toInt ≤ 2) ∧ (0 ≤ y.toInt ∧ y.toInt ≤ 2) ∧ x.toInt ≠ y.toInt)) ∨ (r.toInt = 1 ∧ ((0 ≤ x.toInt ∧ x.toInt ≤ 2) ∧ (0 ≤ y.toInt ∧ y.toInt ≤ 2) ∧ x.toInt ≠ y.toInt)) → post r S) : w_X11_arePair cy tE S x y post := by
  unfold w_X11_arePair w_X11_arePair_B23 w_X11_arePair_B24
  refine r_11_isPerson _ _ _ _ _ (fun r1 _ h1 => ⟨fun g => ⟨Or.inl rfl, k 0 (Or.inl rfl) (Or.inl ⟨by decide, by omega⟩)⟩, fun g => ?_⟩)
  refine r_11_isPerson _ _ _ _ _ (fun r2 _ h2 => ⟨fun g2 => ⟨Or.inl rfl, k 0 (Or.inl rfl) (Or.inl ⟨by decide, by omega⟩)⟩, fun g2 => ⟨fun g3 => ⟨Or.inl rfl, k 0 (Or.inl rfl) (Or.inl ⟨by decide, by omega⟩)⟩, fun g3 => ⟨Or.inr rfl, k 1 (Or.inr rfl) (Or.inr ⟨by decide, by omega⟩)⟩⟩⟩)
set_option maxHeartbeats 400000 in
theorem r_11_thingOf (cy : Nat → ClassId) (tE : Nat) (S : KS) (x : Int32) (post : Int32 → KS → Prop) (k : ∀ r : Int32, 0 ≤ r.toInt ∧ r.toInt ≤ 3 → post r S) : w_X11_thingOf cy tE S x post := k _ (by have := i_and (a := x) (c := 3) (by decide); rw [li_3] at this; exact this)
set_option maxHeartbeats 400000 in
theorem r_11_doerOf (cy : Nat → ClassId) (tE : Nat) (S : KS) (x : Int32) (post : Int32 → KS → Prop) (k : ∀ r : Int32, 0 ≤ r.toInt ∧ r.toInt ≤ 3 → post r S) : w_X11_doerOf cy tE S x post := k _ (by have := i_and (a := x >>> ((4 : Int32) &&& 31)) (c := 3) (by decide); rw [li_3] at this; exact this)
set_option maxHeartbeats 400000 in
theorem r_11_otherOf (cy : Nat → ClassId) (tE : Nat) (S : KS) (x : Int32) (post : Int32 → KS → Prop) (k : ∀ r : Int32, 0 ≤ r.toInt ∧ r.toInt ≤ 3 → post r S) : w_X11_otherOf cy tE S x post := k _ (by have := i_and (a := x >>> ((2 : Int32) &&& 31)) (c := 3) (by decide); rw [li_3] at this; exact this)
set_option maxHeartbeats 400000 in
theorem r_9_coinShift (cy : Nat → ClassId) (tE : Nat) (S : KS) (x : Int32) (post : Int32 → KS → Prop) (k : ∀ r, post r S) : w_X9_coinShift cy tE S x post := k _
set_option maxHeartbeats 400000 in
theorem r_9_ownerShift (cy : Nat → ClassId) (tE : Nat) (S : KS) (x : Int32) (post : Int32 → KS → Prop) (k : ∀ r, post r S) : w_X9_ownerShift cy tE S x post := k _
set_option maxHeartbeats 400000 in
theorem r_9_pairShift (cy : Nat → ClassId) (tE : Nat) (S : KS) (x y : Int32) (post : Int32 → KS → Prop) (k : ∀ r, post r S) : w_X9_pairShift cy tE S x y post := ⟨fun _ => k _, fun _ => k _⟩
set_option maxHeartbeats 400000 in
theorem r_8_forget (cy : Nat → ClassId) (tE : Nat) (S : KS) (post : KS → Prop) (k : post (ksi S 32 0)) : w_X8_forget cy tE S post := k
set_option maxHeartbeats 400000 in
theorem r_11_become (cy : Nat → ClassId) (tE : Nat) (S : KS) (x y : Int32) (post : Int32 → KS → Prop) (k : ∀ r, post r S) : w_X11_become cy tE S x y post := by
  have no : w_X11_become_B23 cy tE post S x y := ⟨fun _ => k _, fun h => absurd li_0 h⟩
  unfold w_X11_become
  refine ⟨fun _ => no, fun _ => ⟨fun _ => no, fun _ => ⟨fun _ => no, fun _ => ⟨fun _ => no, fun _ => ?_⟩⟩⟩⟩
  unfold w_X11_become_B24 w_X11_become_B42
  refine ⟨fun _ => k _, fun _ => ⟨?_, k _⟩⟩
  rw [ma_3 (by omega) (by omega)]; omega
set_option maxHeartbeats 400000 in
theorem r_11_digits (cy : Nat → ClassId) (tE : Nat) (S : KS) (x : Int32) (post : Int32 → KS → Prop) (k : ∀ r, post r S) : w_X11_digits cy tE S x post :=
  r_11_become _ _ _ _ _ _ (fun _ => r_11_become _ _ _ _ _ _ (fun _ => r_11_become _ _ _ _ _ _ (fun _ => k _)))
set_option maxHeartbeats 400000 in
theorem r_7_renamed (cy : Nat → ClassId) (tE : Nat) (S : KS) (x y z : Int32) (post : Int32 → KS → Prop) (k : ∀ r, post r S) : w_X7_renamed cy tE S x y z post :=
  r_11_doerOf _ _ _ _ _ (fun _ _ => r_11_become _ _ _ _ _ _ (fun _ => r_11_otherOf _ _ _ _ _ (fun _ _ => r_11_become _ _ _ _ _ _ (fun _ => r_11_thingOf _ _ _ _ _ (fun _ _ => r_11_become _ _ _ _ _ _ (fun _ => k _))))))
theorem rowN_i {i : Nat} : (Int32.ofNat (rowN i)).toInt = ((rowN i : Nat) : Int) := by
  unfold rowN
  split <;> decide
set_option maxHeartbeats 400000 in
theorem r_7_get (cy : Nat → ClassId) (tE : Nat) (S : KS) (i : Nat) (x : Int32) (post : Int32 → KS → Prop) (hi : i < 7) (k : ∀ r, post r S) : w_X7_get cy tE S i x post := by
  unfold w_X7_get w_X7_get_B22 w_X7_get_B23
  rw [rowN_i]
  exact ⟨fun _ => k _, fun h => ⟨hi, hi, fun _ => k _, fun h2 => ⟨hi, hi, ⟨h, h2⟩, k _⟩⟩⟩
set_option maxHeartbeats 400000 in
theorem r_7_add (cy : Nat → ClassId) (tE : Nat) (S : KS) (i : Nat) (x : Int32) (post : Int32 → KS → Prop) (hi : i < 7) (k0 : ¬ (0 ≤ (fi S.1 (1 + 2 * i)).toInt ∧ (fi S.1 (1 + 2 * i)).toInt < ((rowN i : Nat) : Int)) → post (-1) S) (k1 : (0 ≤ (fi S.1 (1 + 2 * i)).toInt ∧ (fi S.1 (1 + 2 * i)).toInt < ((rowN i : Nat) : Int)) → post (fi S.1 (1 + 2 * i) + 1) (ksi (ksu S (6 + i) (fi S.1 (1 + 2 * i)).toNatClampNeg x) (1 + 2 * i) (fi S.1 (1 + 2 * i) + 1))) : w_X7_add cy tE S i x post := by
  unfold w_X7_add w_X7_add_B19
  rw [rowN_i]
  refine ⟨hi, fun h => k0 (by omega), fun h => ⟨hi, hi, hi, fun h2 => ⟨hi, hi, hi, ⟨h, h2⟩, hi, hi, hi, ?_⟩, fun h2 => k0 (by omega)⟩⟩
  have e : fi (ksi (ksu S (6 + i) (fi S.1 (1 + 2 * i)).toNatClampNeg x) (1 + 2 * i) (fi S.1 (1 + 2 * i) + 1)).1 (1 + 2 * i) = fi S.1 (1 + 2 * i) + 1 := si_at _ _ _
  rw [e]
  exact k1 ⟨h, h2⟩
set_option maxHeartbeats 400000 in
theorem r_9_get (cy : Nat → ClassId) (tE : Nat) (S : KS) (i : Nat) (x : Int32) (post : Int32 → KS → Prop) (hi : i < 5) (k : ∀ r, post r S) : w_X9_get cy tE S i x post := by
  unfold w_X9_get w_X9_get_B22 w_X9_get_B23
  exact ⟨fun _ => k _, fun h => ⟨hi, hi, fun _ => k _, fun h2 => ⟨hi, hi, ⟨h, h2⟩, k _⟩⟩⟩
/-- the reader's two flags -/
def FLG (S : KS) : Prop := (fi S.1 17 = 0 ∨ fi S.1 17 = 1) ∧ (fi S.1 18 = 0 ∨ fi S.1 18 = 1)
theorem FLG_si {S : KS} {k : Nat} {x : Int32} (h : FLG S) (hf : (k ≠ 17 ∧ k ≠ 18) ∨ x = 0 ∨ x = 1) : FLG (ksi S k x) := by
  have go : ∀ j, (fi S.1 j = 0 ∨ fi S.1 j = 1) → (k ≠ j ∨ x = 0 ∨ x = 1) → (fi (ksi S k x).1 j = 0 ∨ fi (ksi S k x).1 j = 1) := by
    intro j hj hk
    by_cases e : k = j
    · rw [← e]
      have e2 : fi (ksi S k x).1 k = x := si_at _ _ _
      rw [e2]
      exact hk.resolve_left (fun g => g e)
    · have e2 : fi (ksi S k x).1 j = fi S.1 j := si_ne (fun g => e g.symm)
      rw [e2]; exact hj
  exact ⟨go 17 h.1 (hf.imp (fun g => g.1) id), go 18 h.2 (hf.imp (fun g => g.2) id)⟩
/-- what may have changed of the class's numbers; the made cells stand -/
def KF (I A M : List Nat) (S S' : KS) : Prop := Fr I [] A M S.1 S'.1 ∧ S'.2.2 = S.2.2 ∧ (∀ k, k ≠ 3 → S'.2.1 k = S.2.1 k) ∧ (S.2.1 3 < 5 → S'.2.1 3 < 5) ∧ (FLG S → FLG S')
theorem KF_rf {I A M : List Nat} (S : KS) : KF I A M S S := ⟨Fr.rf, rfl, fun _ _ => rfl, id, id⟩
theorem KF_tr {I A M : List Nat} {S S' S'' : KS} (h : KF I A M S S') (g : KF I A M S' S'') : KF I A M S S'' := ⟨h.1.tr g.1, g.2.1.trans h.2.1, fun k hk => (g.2.2.1 k hk).trans (h.2.2.1 k hk), fun q => g.2.2.2.1 (h.2.2.2.1 q), fun q => g.2.2.2.2 (h.2.2.2.2 q)⟩
theorem KF_wk {I A M I' A' M' : List Nat} {S S' : KS} (h : KF I A M S S') (hs : (∀ x ∈ I, x ∈ I') ∧ (∀ x ∈ A, x ∈ A') ∧ (∀ x ∈ M, x ∈ M')) : KF I' A' M' S S' := ⟨h.1.wk ⟨hs.1, fun x hx => hx, hs.2.1, hs.2.2⟩, h.2⟩
theorem KF_si {I A M : List Nat} {S S' : KS} {k : Nat} {x : Int32} (hk : k ∈ I) (h : KF I A M S S') (hf : (k ≠ 17 ∧ k ≠ 18) := by decide) : KF I A M S (ksi S' k x) := ⟨Fr.si hk h.1, h.2.1, h.2.2.1, h.2.2.2.1, fun q => FLG_si (h.2.2.2.2 q) (Or.inl hf)⟩
theorem KF_sf {I A M : List Nat} {S S' : KS} {k : Nat} {x : Int32} (hk : k ∈ I) (h : KF I A M S S') (hx : x = 0 ∨ x = 1) : KF I A M S (ksi S' k x) := ⟨Fr.si hk h.1, h.2.1, h.2.2.1, h.2.2.2.1, fun q => FLG_si (h.2.2.2.2 q) (Or.inr hx)⟩
theorem KF_su {I A M : List Nat} {S S' : KS} {k i : Nat} {x : Int32} (hk : k ∈ A) (h : KF I A M S S') : KF I A M S (ksu S' k i x) := ⟨Fr.su hk h.1, h.2⟩
theorem KF_sv {I A M : List Nat} {S S' : KS} {k i : Nat} {x : Int64} (hk : k ∈ M) (h : KF I A M S S') : KF I A M S (ksv S' k i x) := ⟨Fr.sv hk h.1, h.2⟩
theorem Fr_sa {I L A M : List Nat} {S S' : GS} {k : Nat} {f : Nat → Int32} (hk : k ∈ A) (h : Fr I L A M S S') : Fr I L A M S (sa S' k f) := by
  refine ⟨h.1, h.2.1, fun j hj => ?_, h.2.2.2⟩
  have e : j ≠ k := fun e => hj (by rw [e]; exact hk)
  have : (sa S' k f).2.2.1 j = S'.2.2.1 j := by simp [sa, zu, e]
  exact this.trans (h.2.2.1 j hj)
theorem KF_sa {I A M : List Nat} {S S' : KS} {k : Nat} {f : Nat → Int32} (hk : k ∈ A) (h : KF I A M S S') : KF I A M S (ksa S' k f) := ⟨Fr_sa hk h.1, h.2⟩
theorem KF_se {I A M : List Nat} {S S' : KS} {j : Nat} (hj : j < 5) (h : KF I A M S S') : KF I A M S (kse S' 3 j) := by
  refine ⟨h.1, h.2.1, fun k hk => ?_, fun _ => ?_, h.2.2.2.2⟩
  · have : (kse S' 3 j).2.1 k = S'.2.1 k := by simp [kse, zu, hk]
    exact this.trans (h.2.2.1 k hk)
  · have : (kse S' 3 j).2.1 3 = j := by simp [kse, zu]
    rw [this]; exact hj
/-- the rows of the States -/
abbrev stR : List Nat := [1, 2, 3, 4, 5]
abbrev stQ : List Nat := [2, 3, 4, 5]
theorem stQ_in {i : Nat} (hi : i < 5) (h0 : i ≠ 0) : 1 + i ∈ stQ := by
  rcases (show i = 1 ∨ i = 2 ∨ i = 3 ∨ i = 4 by omega) with rfl | rfl | rfl | rfl <;> decide
theorem stR_in {i : Nat} (hi : i < 5) : 1 + i ∈ stR := by
  have : i = 0 ∨ i = 1 ∨ i = 2 ∨ i = 3 ∨ i = 4 := by omega
  rcases this with rfl | rfl | rfl | rfl | rfl <;> decide
set_option maxHeartbeats 400000 in
theorem r_9_set (cy : Nat → ClassId) (tE : Nat) (S : KS) (i : Nat) (x v : Int32) (post : KS → Prop) (hi : i < 5) (k : ∀ S', KF [] stR [] S S' → post S') : w_X9_set cy tE S i x v post := by
  unfold w_X9_set w_X9_set_B20
  exact ⟨fun _ => k _ (KF_rf S), fun h => ⟨hi, hi, fun _ => k _ (KF_rf S), fun h2 => ⟨hi, hi, ⟨h, h2⟩, k _ (KF_su (stR_in hi) (KF_rf S))⟩⟩⟩
theorem r_9_setQ (cy : Nat → ClassId) (tE : Nat) (S : KS) (i : Nat) (x v : Int32) (post : KS → Prop) (hi : i < 5) (k : ∀ S', KF [] stQ [] S S' → post S') (h0 : i ≠ 0) : w_X9_set cy tE S i x v post := by
  unfold w_X9_set w_X9_set_B20
  exact ⟨fun _ => k _ (KF_rf S), fun h => ⟨hi, hi, fun _ => k _ (KF_rf S), fun h2 => ⟨hi, hi, ⟨h, h2⟩, k _ (KF_su (stQ_in hi h0) (KF_rf S))⟩⟩⟩
set_option maxHeartbeats 400000 in
theorem r_9_copy (cy : Nat → ClassId) (tE : Nat) (S : KS) (i j : Nat) (post : KS → Prop) (hi : i < 5) (hj : j < 5) (k : ∀ S', KF [] stQ [] S S' → post S') (h0 : i ≠ 0 := by decide) : w_X9_copy cy tE S i j post :=
  ⟨hj, hi, hi, hi, hj, hi, k _ (KF_sa (stQ_in hi h0) (KF_rf S))⟩
set_option maxHeartbeats 400000 in
theorem r_9_thingsOf (cy : Nat → ClassId) (tE : Nat) (S : KS) (i : Nat) (x : Int32) (post : Int32 → KS → Prop) (hi : i < 5) (k : ∀ r, post r S) : w_X9_thingsOf cy tE S i x post := by
  unfold w_X9_thingsOf
  refine lr5 (fun (T : KS) (i' : Nat) (_ _ j : Int32) => T = S ∧ i' = i ∧ 0 ≤ j.toInt ∧ j.toInt ≤ 3) (fun _ _ _ _ j => (3 - j.toInt).toNat) ?_ _ _ _ _ _ ⟨rfl, rfl, by decide, by decide⟩
  rintro kk T i' x' m j ⟨rfl, rfl, j0, j3⟩ hk
  unfold w_X9_thingsOf_F4 w_X9_thingsOf_B31 w_X9_thingsOf_B25
  have go : j.toInt < 3 → ∀ m, kk T i' x' m (j + 1) := fun g m => hk _ _ _ _ _ ⟨rfl, rfl, by rw [inc1 (by omega)]; omega, by rw [inc1 (by omega)]; omega⟩ (by rw [inc1 (by omega)]; omega)
  have e40 : j.toInt < 3 → ((40 : Int32) + j).toInt = 40 + j.toInt := fun g => by simp (disch := omega) only [Int32.toInt_add, Int32.toInt_sub, Int32.toInt_mul, Int32.toInt_neg, Int32.toInt_div, li_0, li_1, li_2, li_3, li_4, li_5, li_6, li_7, li_8, li_9, li_10, li_11, li_12, li_13, li_14, li_15, li_16, li_20, li_21, li_22, li_23, li_24, li_25, li_26, li_27, li_28, li_29, li_30, li_31, li_32, li_35, li_36, li_40, li_41, li_42, li_43, li_45, li_48, li_50, li_51, li_57, li_59, li_60, li_61, li_62, li_63, li_64, li_97, li_99, li_100, li_122, li_200, li_255, li_302, li_303, li_304, li_305, li_306, li_307, li_308, li_309, li_310, li_311, li_312, li_313, li_314, li_315, li_316, li_317, li_318, li_319, li_400, li_700, li_701, li_720, li_767, li_768, li_999, li_1000, li_1023, li_1024, li_1440, li_18720, tdv, bm, tnc]
  exact ⟨fun _ => k _, fun g => ⟨hi, hi, by rw [e40 g]; omega, fun _ => go g _, fun _ => go g _⟩⟩
set_option maxHeartbeats 400000 in
theorem r_6_isJoint (cy : Nat → ClassId) (tE : Nat) (S : KS) (x : Int32) (post : Int32 → KS → Prop) (k : ∀ r, (r = 0 ∨ r = 1) → post r S) : w_X6_isJoint cy tE S x post :=
  ⟨fun _ => ⟨Or.inr rfl, k _ (Or.inr rfl)⟩, fun _ => ⟨fun _ => ⟨Or.inr rfl, k _ (Or.inr rfl)⟩, fun _ => ⟨fun _ => ⟨Or.inl rfl, k _ (Or.inl rfl)⟩, fun _ => ⟨Or.inr rfl, k _ (Or.inr rfl)⟩⟩⟩⟩
set_option maxHeartbeats 400000 in
theorem r_6_joined (cy : Nat → ClassId) (tE : Nat) (S : KS) (x y z : Int32) (post : Int32 → KS → Prop) (k : ∀ r, post r S) : w_X6_joined cy tE S x y z post := by
  unfold w_X6_joined w_X6_joined_B122 w_X6_joined_B110 w_X6_joined_B121 w_X6_joined_B132
  repeat' first
    | exact k _
    | refine And.intro ?_ ?_
    | intro _
set_option maxHeartbeats 400000 in
theorem r_6_person (cy : Nat → ClassId) (tE : Nat) (S : KS) (x : Int32) (post : Int32 → KS → Prop) (k : ∀ r, post r S) : w_X6_person cy tE S x post := ⟨fun _ => ⟨fun _ => k _, fun _ => k _⟩, fun _ => k _⟩
set_option maxHeartbeats 400000 in
theorem r_6_operand (cy : Nat → ClassId) (tE : Nat) (S : KS) (x y : Int32) (post : Int32 → KS → Prop) (h5 : S.2.1 3 < 5) (k : ∀ r, post r S) : w_X6_operand cy tE S x y post := by
  have g : ∀ x P, (∀ r, P r S) → w_X9_get cy tE S (S.2.1 3) x P := fun x P h => r_9_get cy tE S _ x P h5 h
  unfold w_X6_operand w_X6_operand_B38 w_X6_operand_B54 w_X6_operand_B240 w_X6_operand_B266 w_X6_operand_B239 w_X6_operand_B212 w_X6_operand_B175 w_X6_operand_B176
  repeat' first
    | exact k _
    | exact h5
    | refine g _ _ (fun _ => ?_)
    | refine r_9_thingsOf _ _ _ _ _ _ h5 (fun _ => ?_)
    | refine And.intro ?_ ?_
    | intro _
set_option maxHeartbeats 400000 in
theorem r_6_look (cy : Nat → ClassId) (tE : Nat) (S : KS) (i : Nat) (x : Int32) (post : KS → Prop) (hi : i < 5) (k : ∀ S', KF [23, 24, 25] [] [] S S' → S'.2.1 3 < 5 → post S') : w_X6_look cy tE S i x post := by
  unfold w_X6_look
  refine r_11_doerOf _ _ _ _ _ (fun r1 _ => r_11_otherOf _ _ _ _ _ (fun r2 _ => r_11_thingOf _ _ _ _ _ (fun r3 _ => ?_)))
  refine k _ (KF_si (by decide) (KF_si (by decide) (KF_si (by decide) (KF_se hi (KF_rf S))))) ?_
  show (zu S.2.1 3 i) 3 < 5
  have : zu S.2.1 3 i 3 = i := by simp [zu]
  rw [this]; exact hi
set_option maxHeartbeats 400000 in
theorem r_8_acts (cy : Nat → ClassId) (tE : Nat) (S : KS) (x : Int32) (post : Int32 → KS → Prop) (h4 : (fi S.1 33).toInt ≤ 400) (k : ∀ r, post r S) : w_X8_acts cy tE S x post := by
  unfold w_X8_acts w_X8_acts_B21 w_X8_acts_B22
  exact ⟨fun _ => k _, fun h => ⟨fun _ => k _, fun h2 => ⟨by omega, k _⟩⟩⟩
set_option maxHeartbeats 400000 in
theorem r_8_slotOf (cy : Nat → ClassId) (tE : Nat) (S : KS) (v : Int64) (post : Int32 → KS → Prop) (k : ∀ r : Int32, 0 ≤ r.toInt ∧ r.toInt < 1024 → post r S) : w_X8_slotOf cy tE S v post := by
  unfold w_X8_slotOf
  refine lr4 (fun (T : KS) (_ : Int64) (_ j : Int32) => T = S ∧ 0 ≤ j.toInt ∧ j.toInt ≤ 1024) (fun _ _ _ j => (1024 - j.toInt).toNat) ?_ _ _ _ _ ⟨rfl, by decide, by decide⟩
  rintro kk T v x j ⟨rfl, j0, j1⟩ hk
  unfold w_X8_slotOf_F13 w_X8_slotOf_B67 w_X8_slotOf_B76
  have ha := i_and (a := x + j) (c := 1023) (by decide)
  rw [li_1023] at ha
  generalize (x + j) &&& 1023 = s at ha ⊢
  refine ⟨fun _ => k _ (by decide), fun g => ⟨by omega, fun _ => k _ (by omega), fun g2 => ⟨fun _ => k _ (by omega), fun g3 => ⟨⟨g2, g3⟩, fun _ => hk _ _ _ _ ⟨rfl, ?_, ?_⟩ ?_, fun _ => k _ (by omega)⟩⟩⟩⟩
  all_goals (clear g2 g3; rw [inc1 (by omega)]; omega)
set_option maxHeartbeats 400000 in
theorem r_8_meet (cy : Nat → ClassId) (tE : Nat) (S : KS) (v : Int64) (x y : Int32) (post : KS → Prop) (h4 : 0 ≤ (fi S.1 33).toInt ∧ (fi S.1 33).toInt ≤ 400) (k : ∀ S', KF [33, 34] [17, 18, 19, 20] [2] S S' → (fi S.1 33).toInt ≤ (fi S'.1 33).toInt ∧ (fi S'.1 33).toInt ≤ 400 → post S') : w_X8_meet cy tE S v x y post := by
  unfold w_X8_meet w_X8_meet_B89
  refine r_8_slotOf _ _ _ _ _ (fun r hr => ⟨hr, fun _ => ⟨fun g => ⟨by omega, by omega, by omega, ?_⟩, fun _ => k _ (KF_si (by decide) (KF_rf S)) ?_⟩, fun _ => k _ (KF_rf S) (by omega)⟩)
  · have fin : ∀ y0 : Int32, (0 ≤ (fi S.1 33).toInt ∧ (fi S.1 33).toInt < 400) ∧ (0 ≤ r.toInt ∧ r.toInt < 1024) ∧ post (ksu (ksi (ksu (ksu (ksu (ksv S 2 (fi S.1 33).toNatClampNeg v) 18 (fi S.1 33).toNatClampNeg x) 19 (fi S.1 33).toNatClampNeg y) 17 (fi S.1 33).toNatClampNeg y0) 33 (fi (ksu (ksu (ksv S 2 (fi S.1 33).toNatClampNeg v) 18 (fi S.1 33).toNatClampNeg x) 19 (fi S.1 33).toNatClampNeg y).1 33 + 1)) 20 r.toNatClampNeg (fi (ksu (ksu (ksv S 2 (fi S.1 33).toNatClampNeg v) 18 (fi S.1 33).toNatClampNeg x) 19 (fi S.1 33).toNatClampNeg y).1 33 + 1)) := by
      intro y0
      refine ⟨by omega, by omega, k _ (KF_su (by decide) (KF_si (by decide) (KF_su (by decide) (KF_su (by decide) (KF_su (by decide) (KF_sv (by decide) (KF_rf S))))))) ?_⟩
      have e : fi (ksu (ksi (ksu (ksu (ksu (ksv S 2 (fi S.1 33).toNatClampNeg v) 18 (fi S.1 33).toNatClampNeg x) 19 (fi S.1 33).toNatClampNeg y) 17 (fi S.1 33).toNatClampNeg y0) 33 (fi (ksu (ksu (ksv S 2 (fi S.1 33).toNatClampNeg v) 18 (fi S.1 33).toNatClampNeg x) 19 (fi S.1 33).toNatClampNeg y).1 33 + 1)) 20 r.toNatClampNeg (fi (ksu (ksu (ksv S 2 (fi S.1 33).toNatClampNeg v) 18 (fi S.1 33).toNatClampNeg x) 19 (fi S.1 33).toNatClampNeg y).1 33 + 1)).1 33 = fi S.1 33 + 1 := by
        show (si (su (su (su (sv S.1 2 (fi S.1 33).toNatClampNeg v) 18 (fi S.1 33).toNatClampNeg x) 19 (fi S.1 33).toNatClampNeg y) 17 (fi S.1 33).toNatClampNeg y0) 33 (fi S.1 33 + 1)).1 33 = _
        exact si_at _ _ _
      rw [e, inc1 (by omega)]
      omega
    refine ⟨fun _ => ?_, fun _ => fin 0⟩
    exact r_8_acts cy tE _ _ _ h4.2 (fun r7 => fin _)
  · have e : fi (ksi S 34 1).1 33 = fi S.1 33 := si_ne (by decide)
    rw [e]; omega
set_option maxHeartbeats 400000 in
theorem r_8_code (cy : Nat → ClassId) (tE : Nat) (S : KS) (x y : Int32) (post : Int32 → KS → Prop) (h4 : (fi S.1 33).toInt ≤ 400) (k : ∀ r, post r S) : w_X8_code cy tE S x y post := by
  unfold w_X8_code w_X8_code_B13
  refine ⟨fun _ => k _, fun _ => r_8_acts _ _ _ _ _ h4 (fun r1 => ⟨fun _ => r_8_acts _ _ _ _ _ h4 (fun r3 => ?_), fun _ => k _⟩)⟩
  refine lr3 (fun (T : KS) (_ j : Int32) => T = S) (fun _ _ j => j.toInt.toNat) ?_ _ _ _ rfl
  rintro kk T x j rfl hk
  unfold w_X8_code_F28
  have b58 : w_X8_code_B58 cy tE post T x := by
    unfold w_X8_code_B58 w_X8_code_B79 w_X8_code_B80
    exact ⟨fun _ => k _, fun h => ⟨fun _ => k _, fun h2 => ⟨by omega, k _⟩⟩⟩
  exact ⟨fun _ => b58, fun g => ⟨fun _ => b58, fun g2 => ⟨fun _ => b58, fun g3 => ⟨by omega, hk _ _ _ rfl (by rw [dec1 (by omega)]; omega)⟩⟩⟩⟩
