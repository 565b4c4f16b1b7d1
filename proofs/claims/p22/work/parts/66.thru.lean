/-- what a renaming makes of a number, as the class has it -/
def bcI (r v : Int32) : Int32 := if (0 ≤ r.toInt ∧ r.toInt < 6) ∧ 0 ≤ v.toInt ∧ v.toInt < 3 then becI (((3 : Int32) * r) + v).toNatClampNeg else 3
def doI (c : Int32) : Int32 := (c >>> ((4 : Int32) &&& 31)) &&& 3
def otI (c : Int32) : Int32 := (c >>> ((2 : Int32) &&& 31)) &&& 3
def rcI (x y c : Int32) : Int32 := ((((c / 64) * 64) + ((16 : Int32) * bcI x (doI c))) + ((4 : Int32) * bcI x (otI c))) + bcI y (c &&& 3)
/-- where a row ends first in another: fuel, place, how many found -/
def endF (h g : Nat → Int32) (m : Int) : Nat → Nat → Nat → Int32
  | 0, _, _ => -1
  | f + 1, i, k => if h i = g k then (if (k : Int) + 1 = m then nI i else endF h g m f (i + 1) (k + 1)) else endF h g m f (i + 1) k
theorem endF_cg {h h' g g' : Nat → Int32} {m : Int} {n : Nat} (hh : ∀ i, i < n → h i = h' i) (hg : ∀ k : Nat, (k : Int) < m → g k = g' k) : ∀ (f i k : Nat), i + f ≤ n → (k : Int) < m → endF h g m f i k = endF h' g' m f i k
  | 0, _, _, _, _ => rfl
  | f + 1, i, k, hi, hk => by
    unfold endF
    rw [hh i (by omega), hg k hk]
    by_cases e : h' i = g' k
    · rw [if_pos e, if_pos e]
      by_cases e2 : (k : Int) + 1 = m
      · rw [if_pos e2, if_pos e2]
      · rw [if_neg e2, if_neg e2]
        exact endF_cg hh hg f (i + 1) (k + 1) (by omega) (by omega)
    · rw [if_neg e, if_neg e]
      exact endF_cg hh hg f (i + 1) k (by omega) hk
theorem endF_r {h g : Nat → Int32} {m : Int} : ∀ (f i k : Nat), i + f ≤ 200 → (endF h g m f i k).toInt = -1 ∨ (0 ≤ (endF h g m f i k).toInt ∧ (endF h g m f i k).toInt ≤ 199)
  | 0, _, _, _ => Or.inl (by unfold endF; decide)
  | f + 1, i, k, hi => by
    unfold endF
    by_cases e : h i = g k
    · rw [if_pos e]
      by_cases e2 : (k : Int) + 1 = m
      · rw [if_pos e2]
        have e3 : (nI i).toInt = (i : Int) := nI_toInt (Nat.lt_of_le_of_lt (show i ≤ 200 by omega) (by decide))
        exact Or.inr (by rw [e3]; omega)
      · rw [if_neg e2]
        exact endF_r f (i + 1) (k + 1) (by omega)
    · rw [if_neg e]
      exact endF_r f (i + 1) k (by omega)
/-- the earliest end and by which renaming, of the first i -/
def thF (E : Nat → Int32) : Nat → Int32 × Int32
  | 0 => (-1, -1)
  | i + 1 => if (E i).toInt = -1 then thF E i else if (thF E i).1.toInt = -1 ∨ (E i).toInt < (thF E i).1.toInt then (E i, nI i) else thF E i
theorem thF_cg {E E' : Nat → Int32} : ∀ i, (∀ j, j < i → E j = E' j) → thF E i = thF E' i
  | 0, _ => rfl
  | i + 1, h => by
    unfold thF
    rw [h i (by omega), thF_cg i (fun j hj => h j (by omega))]
theorem thF_r {E : Nat → Int32} (hE : ∀ j, (E j).toInt = -1 ∨ (0 ≤ (E j).toInt ∧ (E j).toInt ≤ 199)) : ∀ i : Nat, i ≤ 36 → ((thF E i).1.toInt = -1 ∧ (thF E i).2.toInt = -1) ∨ ((0 ≤ (thF E i).1.toInt ∧ (thF E i).1.toInt ≤ 199) ∧ 0 ≤ (thF E i).2.toInt ∧ (thF E i).2.toInt < (i : Int))
  | 0, _ => Or.inl (by unfold thF; decide)
  | i + 1, hi => by
    have ih := thF_r hE i (by omega)
    have e3 : (nI i).toInt = (i : Int) := nI_toInt (Nat.lt_of_le_of_lt (show i ≤ 36 by omega) (by decide))
    have hEi := hE i
    unfold thF
    by_cases e : (E i).toInt = -1
    · rw [if_pos e]; omega
    · rw [if_neg e]
      by_cases e2 : (thF E i).1.toInt = -1 ∨ (E i).toInt < (thF E i).1.toInt
      · rw [if_pos e2]
        refine Or.inr ?_
        show (0 ≤ (E i).toInt ∧ (E i).toInt ≤ 199) ∧ 0 ≤ (nI i).toInt ∧ (nI i).toInt < ((i + 1 : Nat) : Int)
        omega
      · rw [if_neg e2]; omega
def dgI (r : Int32) : Int32 := (((100 : Int32) * bcI r 0) + ((10 : Int32) * bcI r 1)) + bcI r 2
def thA (E : Nat → Int32) (x : Int32) : Int32 := if (thF E 36).1.toInt = -1 then -1 else if x.toInt = 0 then (thF E 36).1 else ((1000 : Int32) * dgI ((thF E 36).2 / 6)) + dgI ((thF E 36).2 - (thF E 36).2 / 6 * 6)
theorem r_11_becomeX (cy : Nat → ClassId) (tE : Nat) (S : KS) (x y : Int32) (post : Int32 → KS → Prop) (k : post (bcI x y) S) : w_X11_become cy tE S x y post := by
  unfold bcI at k
  unfold w_X11_become w_X11_become_B23 w_X11_become_B24 w_X11_become_B42
  refine ⟨fun g => ⟨fun _ => ?_, fun g2 => absurd li_0 g2⟩, fun g0 => ⟨fun g => ⟨fun _ => ?_, fun g2 => absurd li_0 g2⟩, fun g1 => ⟨fun g => ⟨fun _ => ?_, fun g2 => absurd li_0 g2⟩, fun g2 => ⟨fun g => ⟨fun _ => ?_, fun g2 => absurd li_0 g2⟩, fun g3 => ⟨fun g => absurd g (by decide), fun _ => ⟨?_, ?_⟩⟩⟩⟩⟩⟩
  · rw [if_neg (by omega)] at k; exact k
  · rw [if_neg (by omega)] at k; exact k
  · rw [if_neg (by omega)] at k; exact k
  · rw [if_neg (by omega)] at k; exact k
  · rw [ma_3 (by omega) (by omega)]; omega
  · rw [if_pos (by omega)] at k; exact k
theorem r_7_renamedX (cy : Nat → ClassId) (tE : Nat) (S : KS) (c x y : Int32) (post : Int32 → KS → Prop) (k : post (rcI x y c) S) : w_X7_renamed cy tE S c x y post := by
  unfold w_X7_renamed w_X11_doerOf w_X11_otherOf w_X11_thingOf
  exact r_11_becomeX cy tE S _ _ _ (r_11_becomeX cy tE S _ _ _ (r_11_becomeX cy tE S _ _ _ k))
theorem r_11_digitsX (cy : Nat → ClassId) (tE : Nat) (S : KS) (x : Int32) (post : Int32 → KS → Prop) (k : post (dgI x) S) : w_X11_digits cy tE S x post := by
  unfold w_X11_digits
  exact r_11_becomeX cy tE S _ _ _ (r_11_becomeX cy tE S _ _ _ (r_11_becomeX cy tE S _ _ _ k))
theorem r_7_getX (cy : Nat → ClassId) (tE : Nat) (S : KS) (i : Nat) (x : Int32) (post : Int32 → KS → Prop) (hi : i < 7) (hx : 0 ≤ x.toInt ∧ x.toInt < ((rowN i : Nat) : Int)) (k : post (ar S.1 (6 + i) x.toNatClampNeg) S) : w_X7_get cy tE S i x post := by
  unfold w_X7_get w_X7_get_B22 w_X7_get_B23
  rw [rowN_i]
  exact ⟨fun g => by exfalso; omega, fun _ => ⟨hi, hi, fun g => by exfalso; omega, fun _ => ⟨hi, hi, hx, k⟩⟩⟩
set_option maxHeartbeats 400000 in
theorem r_7_endF (cy : Nat → ClassId) (tE : Nat) (S : KS) (j : Nat) (x y : Int32) (post : Int32 → KS → Prop) (hj : j < 6) (hn : 0 ≤ (fi S.1 13).toInt ∧ (fi S.1 13).toInt ≤ 200) (hm : 1 ≤ (fi S.1 (1 + 2 * j)).toInt ∧ (fi S.1 (1 + 2 * j)).toInt ≤ 12) (k : post (endF (ar S.1 12) (fun q => rcI x y (ar S.1 (6 + j) q)) (fi S.1 (1 + 2 * j)).toInt (fi S.1 13).toInt.toNat 0 0) S) : w_X7_endOf cy tE S 6 j x y post := by
  have hrow : rowN j = 12 := by unfold rowN; rw [if_neg (by omega)]
  unfold w_X7_endOf
  generalize eR : endF (ar S.1 12) (fun q => rcI x y (ar S.1 (6 + j) q)) (fi S.1 (1 + 2 * j)).toInt (fi S.1 13).toInt.toNat 0 0 = R at k
  refine lr7 (fun (T : KS) (i' j' : Nat) (x' y' f z : Int32) => T = S ∧ i' = 6 ∧ j' = j ∧ x' = x ∧ y' = y ∧ (0 ≤ z.toInt ∧ z.toInt ≤ (fi S.1 13).toInt) ∧ (0 ≤ f.toInt ∧ f.toInt < (fi S.1 (1 + 2 * j)).toInt) ∧ endF (ar S.1 12) (fun q => rcI x y (ar S.1 (6 + j) q)) (fi S.1 (1 + 2 * j)).toInt ((fi S.1 13).toInt.toNat - z.toInt.toNat) z.toInt.toNat f.toInt.toNat = R) (fun _ _ _ _ _ _ z => ((fi S.1 13).toInt - z.toInt).toNat) ?_ _ _ _ _ _ _ _ ⟨rfl, rfl, rfl, rfl, rfl, by rw [li_0]; omega, by rw [li_0]; omega, by rw [li_0]; exact eR⟩
  rintro kk T i' j' x' y' f z ⟨rfl, rfl, rfl, rfl, rfl, hz, hf, hR⟩ hk
  unfold w_X7_endOf_F6 w_X7_endOf_B65 w_X7_endOf_B59
  have e1 : (fi T.1 (1 + 2 * 6)) = fi T.1 13 := rfl
  rw [e1]
  refine ⟨by decide, fun g => ?_, fun g => ⟨by omega, fun g2 => by exfalso; omega, fun g2 => ⟨by decide, ?_⟩⟩⟩
  · have e2 : (fi T.1 13).toInt.toNat - z.toInt.toNat = 0 := by omega
    rw [e2] at hR
    unfold endF at hR
    rw [hR]; exact k
  have e2 : (fi T.1 13).toInt.toNat - z.toInt.toNat = ((fi T.1 13).toInt.toNat - (z.toInt.toNat + 1)) + 1 := by omega
  rw [e2] at hR
  unfold endF at hR
  have ez := inc1 (x := z) (by omega)
  have ef := inc1 (x := f) (by omega)
  have ez2 : (z + 1).toInt.toNat = z.toInt.toNat + 1 := by rw [ez]; omega
  have ef2 : (f + 1).toInt.toNat = f.toInt.toNat + 1 := by rw [ef]; omega
  refine r_7_getX cy tE T 6 z _ (by decide) ⟨hz.1, by show z.toInt < 200; omega⟩ ⟨by omega, r_7_getX cy tE T j' f _ (by omega) ⟨hf.1, by rw [hrow]; omega⟩ (r_7_renamedX cy tE T _ _ _ _ ⟨fun g3 => ?_, fun g3 => ⟨by omega, fun g4 => ?_, fun g4 => ?_⟩⟩)⟩
  · rw [if_neg (fun h => g3 (by rw [tnc, tnc]; exact congrArg Int32.toInt h))] at hR
    exact hk _ _ _ _ _ _ _ ⟨rfl, rfl, rfl, rfl, rfl, by rw [ez]; omega, hf, by rw [ez2]; exact hR⟩ (by rw [ez]; omega)
  · rw [tnc, tnc] at g3
    rw [if_pos (i_eq g3), if_neg (by rw [ef] at g4; omega)] at hR
    exact hk _ _ _ _ _ _ _ ⟨rfl, rfl, rfl, rfl, rfl, by rw [ez]; omega, by rw [ef] at g4 ⊢; omega, by rw [ez2, ef2]; exact hR⟩ (by rw [ez]; omega)
  · rw [tnc, tnc] at g3
    rw [if_pos (i_eq g3), if_pos (by rw [ef] at g4; omega)] at hR
    have e5 : nI z.toInt.toNat = z := by
      apply i_eq
      rw [nI_toInt (Nat.lt_of_le_of_lt (show z.toInt.toNat ≤ 200 by omega) (by decide))]
      omega
    rw [e5] at hR
    rw [hR]; exact k
/-- the ends by the renamings, as the class reckons them -/
def eK (S : KS) (j : Nat) (i : Nat) : Int32 := endF (ar S.1 12) (fun q => rcI (nI i / 6) (nI i - nI i / 6 * 6) (ar S.1 (6 + j) q)) (fi S.1 (1 + 2 * j)).toInt (fi S.1 13).toInt.toNat 0 0
theorem eK_r {S : KS} {j : Nat} (hn : 0 ≤ (fi S.1 13).toInt ∧ (fi S.1 13).toInt ≤ 200) : ∀ i, (eK S j i).toInt = -1 ∨ (0 ≤ (eK S j i).toInt ∧ (eK S j i).toInt ≤ 199) := fun i => endF_r _ _ _ (by omega)
set_option maxHeartbeats 400000 in
theorem r_11_throughX (cy : Nat → ClassId) (tE : Nat) (S : KS) (r x : Int32) (post : Int32 → KS → Prop) (hn : 0 ≤ (fi S.1 13).toInt ∧ (fi S.1 13).toInt ≤ 200) (hm : ∀ j, j < 6 → 0 ≤ (fi S.1 (1 + 2 * j)).toInt ∧ (fi S.1 (1 + 2 * j)).toInt ≤ 12) (k0 : ¬ ((0 ≤ r.toInt ∧ r.toInt ≤ 5) ∧ (fi S.1 (1 + 2 * r.toNatClampNeg)).toInt ≠ 0 ∧ (0 ≤ x.toInt ∧ x.toInt ≤ 1)) → post (-1) S) (k1 : ((0 ≤ r.toInt ∧ r.toInt ≤ 5) ∧ (fi S.1 (1 + 2 * r.toNatClampNeg)).toInt ≠ 0 ∧ (0 ≤ x.toInt ∧ x.toInt ≤ 1)) → post (thA (eK S r.toNatClampNeg) x) S) : w_X11_through cy tE S r x post := by
  unfold w_X11_through w_X11_through_B27
  refine r_11_isRow cy tE S r _ (fun r1 _ h1 => ⟨fun _ => k0 (by omega), fun g1 => ⟨by omega, by rw [tnc]; omega, fun g2 => k0 (by omega), fun g2 => r_11_isWithin cy tE S x _ _ (fun r2 _ h2 => ⟨fun g3 => ?_, fun _ => k0 (by rw [li_1] at h2; omega)⟩)⟩⟩)
  rw [li_1] at h2
  have k2 := k1 (by omega)
  have hr : r.toNatClampNeg < 6 := by rw [tnc]; omega
  have hmr := hm _ hr
  have hE := eK_r (S := S) (j := r.toNatClampNeg) hn
  have hx : 0 ≤ x.toInt ∧ x.toInt ≤ 1 := by omega
  refine lr6 (fun (T : KS) (r' x' e b m : Int32) => T = S ∧ r' = r ∧ x' = x ∧ (0 ≤ m.toInt ∧ m.toInt ≤ 36) ∧ (e, b) = thF (eK S r.toNatClampNeg) m.toInt.toNat) (fun _ _ _ _ _ m => (36 - m.toInt).toNat) ?_ _ _ _ _ _ _ ⟨rfl, rfl, rfl, by decide, rfl⟩
  rintro kk T r' x' e b m ⟨rfl, rfl, rfl, hm6, hT⟩ hk
  unfold w_X11_through_F37 w_X11_through_B99 w_X11_through_B108 w_X11_through_B86 w_X11_through_B93
  refine ⟨fun g => ?_, fun g => ⟨by omega, ?_⟩⟩
  · have e36 : m.toInt.toNat = 36 := by omega
    rw [e36] at hT
    unfold thA at k2
    rw [← hT] at k2
    refine ⟨fun g4 => ?_, fun g4 => ⟨fun g5 => ?_, fun g5 => ?_⟩⟩
    · rw [if_pos g4] at k2
      have e5 : e = -1 := i_eq (g4.trans (by decide))
      rw [e5]; exact k2
    · rw [if_neg g4, if_neg g5] at k2
      exact r_11_digitsX cy tE T _ _ (r_11_digitsX cy tE T _ _ k2)
    · rw [if_neg g4, if_pos g5] at k2
      exact k2
  have em := inc1 (x := m) (by omega)
  have em2 : (m + 1).toInt.toNat = m.toInt.toNat + 1 := by rw [em]; omega
  have eN : nI m.toInt.toNat = m := by
    apply i_eq
    rw [nI_toInt (Nat.lt_of_le_of_lt (show m.toInt.toNat ≤ 200 by omega) (by decide))]
    omega
  have eE : eK T r'.toNatClampNeg m.toInt.toNat = endF (ar T.1 12) (fun q => rcI (m / 6) (m - m / 6 * 6) (ar T.1 (6 + r'.toNatClampNeg) q)) (fi T.1 (1 + 2 * r'.toNatClampNeg)).toInt (fi T.1 13).toInt.toNat 0 0 := by
    unfold eK
    rw [eN]
  have go : ∀ e' b', (e', b') = thF (eK T r'.toNatClampNeg) (m.toInt.toNat + 1) → kk T r' x' e' b' (m + 1) := fun e' b' h => hk _ _ _ _ _ _ ⟨rfl, rfl, rfl, by rw [em]; omega, by rw [em2]; exact h⟩ (by rw [em]; omega)
  refine r_7_endF cy tE T _ _ _ _ hr hn (by omega) ?_
  rw [← eE]
  refine ⟨fun g4 => go _ _ ?_, fun g4 => ⟨fun g5 => go _ _ ?_, fun g5 => ⟨fun g6 => go _ _ ?_, fun g6 => go _ _ ?_⟩⟩⟩
  · unfold thF
    rw [if_pos g4]; exact hT
  · unfold thF
    rw [if_neg g4, ← hT, if_pos (Or.inl g5), eN]
  · unfold thF
    rw [if_neg g4, ← hT, if_neg (by show ¬ (e.toInt = -1 ∨ _ < e.toInt); omega)]
  · unfold thF
    rw [if_neg g4, ← hT, if_pos (Or.inr g6), eN]
