theorem pig : ∀ (m n : Nat) (f : Nat → Nat), (∀ i, i < n → f i < m) → (∀ i j, i < n → j < n → f i = f j → i = j) → n ≤ m := by
  intro m
  induction m with
  | zero =>
    intro n f h _
    cases n with
    | zero => exact Nat.le_refl _
    | succ n => exact absurd (h 0 (Nat.succ_pos _)) (Nat.not_lt_zero _)
  | succ m ih =>
    intro n f h hi
    by_cases hx : ∃ i, i < n ∧ f i = m
    · obtain ⟨i0, h0, h1⟩ := hx
      have := ih (n - 1) (fun j => f (if j < i0 then j else j + 1)) (fun j hj => by
        have hb : (if j < i0 then j else j + 1) < n := by split <;> omega
        have h2 := h _ hb
        have h3 : f (if j < i0 then j else j + 1) ≠ m := fun e => by
          have := hi _ _ hb h0 (e.trans h1.symm)
          split at this <;> omega
        show f (if j < i0 then j else j + 1) < m
        omega) (fun j j' hj hj' e => by
        have hb : (if j < i0 then j else j + 1) < n := by split <;> omega
        have hb' : (if j' < i0 then j' else j' + 1) < n := by split <;> omega
        have := hi _ _ hb hb' e
        split at this <;> split at this <;> omega)
      omega
    · have := ih n f (fun i hi2 => by
        have h2 := h i hi2
        have h3 : f i ≠ m := fun e => hx ⟨i, hi2, e⟩
        omega) hi
      omega
theorem and1023 {x : Int32} (h : 0 ≤ x.toInt ∧ x.toInt ≤ 1023) : ((x + 1) &&& 1023).toInt = (x.toInt + 1) % 1024 := by
  have key : ∀ n : Fin 1024, ((Int32.ofNat n.val + 1) &&& 1023).toInt = ((n.val : Int) + 1) % 1024 := by decide +kernel
  have hx : x = Int32.ofNat x.toInt.toNat := i_eq (by rw [Int32.toInt_ofNat_of_lt (by omega)]; omega)
  have := key ⟨x.toInt.toNat, by omega⟩
  rw [hx]
  rw [this]
  rw [Int32.toInt_ofNat_of_lt (by omega)]
/-- the SEARCH's rows -/
def SInv (S : GS) : Prop := (0 ≤ (fi S 21).toInt ∧ (fi S 21).toInt ≤ 400) ∧ (∀ k : Nat, k < 1024 → (ar S 29 k).toInt = -1 ∨ (0 ≤ (ar S 29 k).toInt ∧ (ar S 29 k).toInt < (fi S 21).toInt ∧ (ar S 30 (ar S 29 k).toInt.toNat).toInt = (k : Int))) ∧ (∀ i : Nat, (i : Int) < (fi S 21).toInt → (0 ≤ (ar S 30 i).toInt ∧ (ar S 30 i).toInt < 1024) ∧ (0 ≤ (ar S 28 i).toInt ∧ (ar S 28 i).toInt ≤ (i : Int)) ∧ ((ar S 28 i).toInt = 0 ∨ (0 ≤ (ar S 26 i).toInt ∧ (ar S 26 i).toInt < (i : Int) ∧ (ar S 28 (ar S 26 i).toInt.toNat).toInt + 1 = (ar S 28 i).toInt))) ∧ ((fi S 22).toInt = -1 ∨ (0 ≤ (fi S 22).toInt ∧ ((fi S 22).toInt = 0 ∨ (fi S 22).toInt < (fi S 21).toInt)))
theorem SInv.fr {S S' : GS} (h : SInv S) (f : FW S S') : SInv S' := by
  unfold SInv fi ar at *
  rw [f.1 21 (by decide), f.1 22 (by decide), f.2.2.1 26 (by decide), f.2.2.1 28 (by decide), f.2.2.1 29 (by decide), f.2.2.1 30 (by decide)]
  exact h
theorem SInv.free {S : GS} (h : SInv S) : ∃ k : Nat, k < 1024 ∧ (ar S 29 k).toInt = -1 := by
  apply Classical.byContradiction
  intro hn
  have ho : ∀ k : Nat, k < 1024 → 0 ≤ (ar S 29 k).toInt ∧ (ar S 29 k).toInt < (fi S 21).toInt ∧ (ar S 30 (ar S 29 k).toInt.toNat).toInt = (k : Int) := by
    intro k hk
    rcases h.2.1 k hk with g | g
    · exact absurd ⟨k, hk, g⟩ hn
    · exact g
  have h4 := h.1
  have := pig 400 1024 (fun k => (ar S 29 k).toInt.toNat) (fun i hi => by
    have := ho i hi
    show (ar S 29 i).toInt.toNat < 400
    omega) (fun i j hi hj e => by
    have h1 := (ho i hi).2.2
    have h2 := (ho j hj).2.2
    have e' : (ar S 29 i).toInt.toNat = (ar S 29 j).toInt.toNat := e
    rw [e'] at h1
    omega)
  omega
set_option maxHeartbeats 400000 in
theorem q_place (S : GS) (st : Int64) (post : Int32 → GS → Prop) (hS : SInv S) (k : ∀ r : Int32, 0 ≤ r.toInt ∧ r.toInt < 1024 → post r S) : w_X12_place S st post := by
  unfold w_X12_place
  obtain ⟨j, hj, hf⟩ := hS.free
  refine lr3 (fun (T : GS) (_ : Int64) (x : Int32) => T = S ∧ 0 ≤ x.toInt ∧ x.toInt ≤ 1023) (fun _ _ x => if x.toInt ≤ (j : Int) then ((j : Int) - x.toInt).toNat else ((j : Int) + 1024 - x.toInt).toNat) ?_ _ _ _ ⟨rfl, ?_⟩
  · rintro kk T st x ⟨rfl, h0, h1⟩ hk
    unfold w_X12_place_F17 w_X12_place_B54
    refine ⟨by omega, fun _ => k _ (by omega), fun g => ⟨by omega, ?_, fun _ => k _ (by omega), fun _ => ?_⟩⟩
    · rcases hS.2.1 x.toNatClampNeg (by rw [tnc]; omega) with g2 | g2
      · exact absurd g2 g
      · have := hS.1; omega
    · have hne : x.toInt ≠ (j : Int) := fun e => g (by
        have : x.toNatClampNeg = j := by rw [tnc, e]; rfl
        rw [this]; exact hf)
      have ha := and1023 (x := x) ⟨h0, h1⟩
      refine hk _ _ _ ⟨rfl, by rw [ha]; omega, by rw [ha]; omega⟩ ?_
      rw [ha]
      by_cases hx : x.toInt = 1023
      · rw [hx]
        have : (1023 + 1 : Int) % 1024 = 0 := by decide
        rw [this]
        rw [if_pos (by omega), if_neg (by omega)]
        omega
      · have : (x.toInt + 1) % 1024 = x.toInt + 1 := by omega
        rw [this]
        by_cases hl : x.toInt ≤ (j : Int)
        · rw [if_pos (by omega), if_pos (by omega)]; omega
        · rw [if_neg (by omega), if_neg (by omega)]; omega
  · exact l_ai (c := 1023) 1023 (by decide) (by decide) (by decide)
/-- behind a SEARCH's step -/
def SS (S S' : GS) : Prop := FQ S S' ∧ (BR S → BR S') ∧ SInv S'
theorem SS.tr {S S' S'' : GS} (h : SS S S') (g : SS S' S'') : SS S S'' := ⟨h.1.tr g.1, fun b => g.2.1 (h.2.1 b), g.2.2⟩
theorem WW.ss {S S' : GS} (hS : SInv S) (h : WW S S') : SS S S' := ⟨h.1.wk (by decide), h.2, hS.fr h.1⟩
set_option maxHeartbeats 400000 in
theorem q_meets (S : GS) (st : Int64) (from' c : Int32) (post : GS → Prop) (hS : SInv S) (h4 : (fi S 21).toInt < 400) (hf : from'.toInt = -1 ∨ (0 ≤ from'.toInt ∧ from'.toInt < (fi S 21).toInt)) (k : ∀ S', Fr [21] [] [26, 27, 28, 29, 30] [0] S S' → SInv S' → (fi S' 21).toInt = (fi S 21).toInt + 1 → post S') : w_X12_meets S st from' c post := by
  unfold w_X12_meets w_X12_meets_B85
  refine q_place _ _ _ hS (fun r hr => ?_)
  have h0 := hS.1
  have fin : ∀ y : Int32, ((from'.toInt = -1 ∧ y.toInt = 0) ∨ (0 ≤ from'.toInt ∧ y.toInt = (ar S 28 from'.toNatClampNeg).toInt + 1)) → post (si (su (su (su (sv (su (su S 29 r.toNatClampNeg (fi S 21)) 30 (fi S 21).toNatClampNeg r) 0 (fi S 21).toNatClampNeg st) 26 (fi S 21).toNatClampNeg from') 27 (fi S 21).toNatClampNeg c) 28 (fi S 21).toNatClampNeg y) 21 (fi S 21 + 1)) := by
    intro y hy
    have eF : Fr [21] [] [26, 27, 28, 29, 30] [0] S (si (su (su (su (sv (su (su S 29 r.toNatClampNeg (fi S 21)) 30 (fi S 21).toNatClampNeg r) 0 (fi S 21).toNatClampNeg st) 26 (fi S 21).toNatClampNeg from') 27 (fi S 21).toNatClampNeg c) 28 (fi S 21).toNatClampNeg y) 21 (fi S 21 + 1)) := Fr.si (by decide) (Fr.su (by decide) (Fr.su (by decide) (Fr.su (by decide) (Fr.sv (by decide) (Fr.su (by decide) (Fr.su (by decide) Fr.rf))))))
    generalize hT : si (su (su (su (sv (su (su S 29 r.toNatClampNeg (fi S 21)) 30 (fi S 21).toNatClampNeg r) 0 (fi S 21).toNatClampNeg st) 26 (fi S 21).toNatClampNeg from') 27 (fi S 21).toNatClampNeg c) 28 (fi S 21).toNatClampNeg y) 21 (fi S 21 + 1) = T at eF ⊢
    have t21 : (fi T 21).toInt = (fi S 21).toInt + 1 := by
      show (T.1 21).toInt = _
      rw [← hT, si_at, inc1 (by omega)]
    have t22 : fi T 22 = fi S 22 := eF.1 22 (by decide)
    have t29 : ar T 29 = upd (ar S 29) r.toNatClampNeg (fi S 21) := by
      show T.2.2.1 29 = _
      rw [← hT, si_2, su_ne (by decide), su_ne (by decide), su_ne (by decide), sv_3, su_ne (by decide), su_at]
    have t30 : ar T 30 = upd (ar S 30) (fi S 21).toNatClampNeg r := by
      show T.2.2.1 30 = _
      rw [← hT, si_2, su_ne (by decide), su_ne (by decide), su_ne (by decide), sv_3, su_at, su_ne (by decide)]
    have t26 : ar T 26 = upd (ar S 26) (fi S 21).toNatClampNeg from' := by
      show T.2.2.1 26 = _
      rw [← hT, si_2, su_ne (by decide), su_ne (by decide), su_at, sv_3, su_ne (by decide), su_ne (by decide)]
    have t28 : ar T 28 = upd (ar S 28) (fi S 21).toNatClampNeg y := by
      show T.2.2.1 28 = _
      rw [← hT, si_2, su_at, su_ne (by decide), su_ne (by decide), sv_3, su_ne (by decide), su_ne (by decide)]
    clear hT
    have en : (fi S 21).toNatClampNeg = (fi S 21).toInt.toNat := rfl
    refine k _ eF ⟨by omega, ?_, ?_, ?_⟩ t21
    · intro i hi
      rw [t29, t30, t21]
      by_cases e : i = r.toNatClampNeg
      · rw [e, upd_at, ← en, upd_at]
        exact Or.inr ⟨by omega, by omega, by rw [tnc]; omega⟩
      · rw [upd_ne e]
        rcases hS.2.1 i hi with g | g
        · exact Or.inl g
        · rw [upd_ne (by rw [en]; omega)]
          exact Or.inr ⟨g.1, by omega, g.2.2⟩
    · intro i hi
      rw [t21] at hi
      rw [t26, t28, t30]
      by_cases e : i = (fi S 21).toNatClampNeg
      · have e' : (i : Int) = (fi S 21).toInt := by rw [e, en]; omega
        rw [e, upd_at, upd_at, upd_at]
        rw [en] at e ⊢
        rcases hy with hy | hy
        · exact ⟨by omega, by omega, Or.inl hy.2⟩
        · have hf2 : from'.toInt < (fi S 21).toInt := by omega
          have g := (hS.2.2.1 from'.toNatClampNeg (by rw [tnc]; omega)).2.1
          have en2 : from'.toNatClampNeg = from'.toInt.toNat := rfl
          rw [en2] at g hy
          refine ⟨by omega, by omega, Or.inr ⟨hy.1, by omega, ?_⟩⟩
          rw [upd_ne (by omega)]
          omega
      · have hi2 : (i : Int) < (fi S 21).toInt := by rw [en] at e; omega
        rw [upd_ne e, upd_ne e, upd_ne e]
        have g := hS.2.2.1 i hi2
        refine ⟨g.1, g.2.1, ?_⟩
        rcases g.2.2 with q | q
        · exact Or.inl q
        · refine Or.inr ⟨q.1, q.2.1, ?_⟩
          rw [upd_ne (by rw [en]; omega)]
          exact q.2.2
    · rw [t22, t21]
      rcases hS.2.2.2 with g | g
      · exact Or.inl g
      · exact Or.inr ⟨g.1, by omega⟩
  refine ⟨by omega, by omega, by omega, by omega, by omega, fun g => ⟨?_, by omega, fin _ ?_⟩, fun g => ⟨by omega, fin _ (Or.inl ⟨g, by decide⟩)⟩⟩
  · rcases hf with h | h <;> omega
  · rcases hf with h | h
    · exact absurd h g
    · have g2 := (hS.2.2.1 from'.toNatClampNeg (by rw [tnc]; omega)).2.1
      refine Or.inr ⟨h.1, ?_⟩
      rw [inc1 (by rw [tnc] at g2 ⊢; omega)]
set_option maxHeartbeats 400000 in
theorem q_goesOn (S : GS) (i n laws ps set : Int32) (post : GS → Prop) (hK : KInv S) (hS : SInv S) (hi : 0 ≤ i.toInt ∧ i.toInt < (fi S 21).toInt) (hn : n.toInt = -1 ∨ (0 ≤ n.toInt ∧ n.toInt < (fi S 16).toInt)) (k : ∀ S', SS S S' → (fi S 21).toInt ≤ (fi S' 21).toInt → post S') : w_X12_goesOn S i n laws ps set post := by
  unfold w_X12_goesOn
  refine lr7 (fun (T : GS) (i' n' _ _ _ c : Int32) => i' = i ∧ n' = n ∧ SS S T ∧ (fi S 21).toInt ≤ (fi T 21).toInt ∧ 0 ≤ c.toInt ∧ c.toInt ≤ 768) (fun _ _ _ _ _ _ c => (768 - c.toInt).toNat) ?_ _ _ _ _ _ _ _ ⟨rfl, rfl, ⟨Fr.rf, id, hS⟩, Int.le_refl _, by decide, by decide⟩
  rintro kk T i' n' laws ps set c ⟨rfl, rfl, hW, hm, c0, c8⟩ hk
  have hKT := hK.fr hW.1
  have e16 : (fi T 16).toInt = (fi S 16).toInt := by
    show (T.1 16).toInt = (S.1 16).toInt
    rw [hW.1.1 16 (by decide)]
  have go : ∀ (T2 : GS) (c2 : Int32), SS S T2 → (fi S 21).toInt ≤ (fi T2 21).toInt → c.toInt ≤ c2.toInt → c2.toInt ≤ 767 → w_X12_goesOn_B193 post kk (w_X12_goesOn_B199 post) T2 i' n' laws ps set c2 := by
    intro T2 c2 hW2 hm2 hc1 hc2
    unfold w_X12_goesOn_B193
    exact hk _ _ _ _ _ _ _ ⟨rfl, rfl, hW2, hm2, by rw [inc1 (by omega)]; omega, by rw [inc1 (by omega)]; omega⟩ (by rw [inc1 (by omega)]; omega)
  have b98 : c.toInt ≤ 767 → w_X12_goesOn_B98 post kk (w_X12_goesOn_B199 post) T i' n' laws ps set c := by
    intro hc
    unfold w_X12_goesOn_B98
    have hST := hW.2.2
    have h4 := hST.1
    refine ⟨by omega, q_whyNot _ _ _ _ _ _ hKT ⟨c0, hc⟩ (fun r T2 hW2 => ?_)⟩
    have hS2 : SS S T2 := hW.tr (hW2.ss hST)
    have e21 : (fi T2 21).toInt = (fi T 21).toInt := by
      show (T2.1 21).toInt = (T.1 21).toInt
      rw [hW2.1.1 21 (by decide)]
    refine ⟨fun _ => go _ _ hS2 (by omega) (Int.le_refl _) hc, fun _ => ?_⟩
    refine q_place _ _ _ hS2.2.2 (fun r2 hr2 => ⟨hr2, fun _ => ⟨fun g4 => ?_, fun _ => ?_⟩, fun _ => go _ _ hS2 (by omega) (Int.le_refl _) hc⟩)
    · have h42 := hS2.2.2.1
      refine q_meets _ _ _ _ _ hS2.2.2 (by omega) (Or.inr ⟨hi.1, by omega⟩) (fun T3 hF3 hS3 hm3 => ?_)
      have hS4 : SS S T3 := ⟨hS2.1.tr (hF3.wk (by decide)), fun b => BR.fr hF3 (by decide) (by decide) (hS2.2.1 b), hS3⟩
      refine ⟨fun _ => go _ _ hS4 (by omega) (Int.le_refl _) hc, fun gn => ?_⟩
      have hK3 := hK.fr hS4.1
      have e163 : (fi T3 16).toInt = (fi S 16).toInt := by
        show (T3.1 16).toInt = (S.1 16).toInt
        rw [hS4.1.1 16 (by decide)]
      refine q_isNever _ _ _ _ hK3 (by omega) (fun v T4 hW4 => ?_)
      have hS5 : SS S T4 := hS4.tr (hW4.ss hS3)
      have e214 : (fi T4 21).toInt = (fi T3 21).toInt := by
        show (T4.1 21).toInt = (T3.1 21).toInt
        rw [hW4.1.1 21 (by decide)]
      refine ⟨fun _ => go _ _ hS5 (by omega) (Int.le_refl _) hc, fun _ => go _ _ ⟨Fr.si (by decide) hS5.1, fun b => BR.si (hS5.2.1 b), ?_⟩ ?_ (Int.le_refl _) hc⟩
      · have h5 := hS5.2.2
        have hm5 := h5.1
        refine ⟨?_, ?_, ?_, Or.inr ?_⟩
        · show 0 ≤ ((si T4 22 (fi T4 21 - 1)).1 21).toInt ∧ ((si T4 22 (fi T4 21 - 1)).1 21).toInt ≤ 400
          rw [si_ne (by decide)]; exact h5.1
        · intro q hq
          have := h5.2.1 q hq
          show ((si T4 22 (fi T4 21 - 1)).2.2.1 29 q).toInt = -1 ∨ (0 ≤ ((si T4 22 (fi T4 21 - 1)).2.2.1 29 q).toInt ∧ ((si T4 22 (fi T4 21 - 1)).2.2.1 29 q).toInt < ((si T4 22 (fi T4 21 - 1)).1 21).toInt ∧ _)
          rw [si_ne (by decide)]; exact this
        · intro q hq
          have hq2 : (q : Int) < ((si T4 22 (fi T4 21 - 1)).1 21).toInt := hq
          rw [si_ne (by decide)] at hq2
          exact h5.2.2.1 q hq2
        · show 0 ≤ ((si T4 22 (fi T4 21 - 1)).1 22).toInt ∧ (((si T4 22 (fi T4 21 - 1)).1 22).toInt = 0 ∨ ((si T4 22 (fi T4 21 - 1)).1 22).toInt < ((si T4 22 (fi T4 21 - 1)).1 21).toInt)
          rw [si_at, si_ne (by decide), sub1 (by omega)]
          show 0 ≤ (fi T4 21).toInt - 1 ∧ ((fi T4 21).toInt - 1 = 0 ∨ (fi T4 21).toInt - 1 < (fi T4 21).toInt)
          omega
      · show (fi S 21).toInt ≤ ((si T4 22 (fi T4 21 - 1)).1 21).toInt
        rw [si_ne (by decide)]
        show (fi S 21).toInt ≤ (fi T4 21).toInt
        omega
    · refine k _ ⟨Fr.si (by decide) hS2.1, fun b => BR.si (hS2.2.1 b), ?_⟩ ?_
      · have h5 := hS2.2.2
        refine ⟨?_, ?_, ?_, ?_⟩
        · show 0 ≤ ((si T2 23 1).1 21).toInt ∧ ((si T2 23 1).1 21).toInt ≤ 400
          rw [si_ne (by decide)]; exact h5.1
        · intro q hq
          have := h5.2.1 q hq
          show ((si T2 23 1).2.2.1 29 q).toInt = -1 ∨ (0 ≤ ((si T2 23 1).2.2.1 29 q).toInt ∧ ((si T2 23 1).2.2.1 29 q).toInt < ((si T2 23 1).1 21).toInt ∧ _)
          rw [si_ne (by decide)]; exact this
        · intro q hq
          have hq2 : (q : Int) < ((si T2 23 1).1 21).toInt := hq
          rw [si_ne (by decide)] at hq2
          exact h5.2.2.1 q hq2
        · show ((si T2 23 1).1 22).toInt = -1 ∨ (0 ≤ ((si T2 23 1).1 22).toInt ∧ (((si T2 23 1).1 22).toInt = 0 ∨ ((si T2 23 1).1 22).toInt < ((si T2 23 1).1 21).toInt))
          rw [si_ne (by decide), si_ne (by decide)]; exact h5.2.2.2
      · show (fi S 21).toInt ≤ ((si T2 23 1).1 21).toInt
        rw [si_ne (by decide)]
        show (fi S 21).toInt ≤ (fi T2 21).toInt
        omega
  have b52 : c.toInt ≤ 767 → w_X12_goesOn_B52 post kk (w_X12_goesOn_B199 post) T i' n' laws ps set c := by
    intro hc
    unfold w_X12_goesOn_B52
    exact ⟨fun _ => go _ _ hW hm (Int.le_refl _) hc, fun _ => ⟨fun _ => b98 hc, fun _ => ⟨fun _ => b98 hc, fun _ => go _ _ hW hm (Int.le_refl _) hc⟩⟩⟩
  unfold w_X12_goesOn_F3
  have no : w_X12_goesOn_B199 post T := k _ hW hm
  refine ⟨fun _ => no, fun g => ⟨fun _ => no, fun _ => ⟨fun _ => no, fun _ => ⟨fun _ => b52 (by omega), fun g4 => ?_⟩⟩⟩⟩
  refine q_isAct _ _ _ (fun r _ _ => ⟨fun _ => b52 (by omega), fun _ => ?_⟩)
  have hc64 : c.toInt % 64 = 0 := by
    have e : (c - c / 64 * 64).toInt = c.toInt % 64 := by
      simp (disch := omega) only [Int32.toInt_add, Int32.toInt_sub, Int32.toInt_mul, Int32.toInt_neg, Int32.toInt_div, li_0, li_1, li_2, li_3, li_4, li_5, li_6, li_7, li_8, li_9, li_10, li_11, li_12, li_13, li_14, li_15, li_16, li_20, li_21, li_22, li_23, li_24, li_25, li_26, li_27, li_28, li_29, li_30, li_31, li_32, li_35, li_36, li_40, li_41, li_42, li_43, li_45, li_48, li_50, li_51, li_57, li_59, li_60, li_61, li_62, li_63, li_64, li_97, li_99, li_100, li_122, li_200, li_255, li_302, li_303, li_304, li_305, li_306, li_307, li_308, li_309, li_310, li_311, li_312, li_313, li_314, li_315, li_316, li_317, li_318, li_319, li_400, li_700, li_701, li_720, li_767, li_768, li_999, li_1000, li_1023, li_1024, li_1440, li_18720, tdv, bm, tnc]
      omega
    omega
  have e63 : (c + 63).toInt = c.toInt + 63 := by simp (disch := omega) only [Int32.toInt_add, Int32.toInt_sub, Int32.toInt_mul, Int32.toInt_neg, Int32.toInt_div, li_0, li_1, li_2, li_3, li_4, li_5, li_6, li_7, li_8, li_9, li_10, li_11, li_12, li_13, li_14, li_15, li_16, li_20, li_21, li_22, li_23, li_24, li_25, li_26, li_27, li_28, li_29, li_30, li_31, li_32, li_35, li_36, li_40, li_41, li_42, li_43, li_45, li_48, li_50, li_51, li_57, li_59, li_60, li_61, li_62, li_63, li_64, li_97, li_99, li_100, li_122, li_200, li_255, li_302, li_303, li_304, li_305, li_306, li_307, li_308, li_309, li_310, li_311, li_312, li_313, li_314, li_315, li_316, li_317, li_318, li_319, li_400, li_700, li_701, li_720, li_767, li_768, li_999, li_1000, li_1023, li_1024, li_1440, li_18720, tdv, bm, tnc]
  exact go _ _ hW hm (by omega) (by omega)
set_option maxHeartbeats 400000 in
theorem q_searches (S : GS) (n laws d ps set : Int32) (post : GS → Prop) (hK : KInv S) (hS : SInv S) (hn : n.toInt = -1 ∨ (0 ≤ n.toInt ∧ n.toInt < (fi S 16).toInt)) (k : ∀ S', SS S S' → 1 ≤ (fi S' 21).toInt → post S') : w_X12_searches S n laws d ps set post := by
  have f78 : ∀ T, SS S T → 1 ≤ (fi T 21).toInt → ∀ l2 d2 p2 s2, w_X12_searches_B78 post T n l2 d2 p2 s2 := by
    intro T hW hm l2 d2 p2 s2
    unfold w_X12_searches_B78
    refine lr7 (fun (T : GS) (n' _ _ _ _ i : Int32) => n' = n ∧ SS S T ∧ 1 ≤ (fi T 21).toInt ∧ 0 ≤ i.toInt ∧ i.toInt ≤ 400) (fun _ _ _ _ _ _ i => (400 - i.toInt).toNat) ?_ _ _ _ _ _ _ _ ⟨rfl, hW, hm, by decide, by decide⟩
    rintro kk T n' l2 d2 p2 s2 i ⟨rfl, hW, hm, h0, h4⟩ hk
    have hKT := hK.fr hW.1
    have e16 : (fi T 16).toInt = (fi S 16).toInt := by
      show (T.1 16).toInt = (S.1 16).toInt
      rw [hW.1.1 16 (by decide)]
    unfold w_X12_searches_F81 w_X12_searches_B128 w_X12_searches_B134
    have h21 := hW.2.2.1
    refine ⟨fun _ => k _ hW hm, fun g => ⟨fun _ => k _ hW hm, fun _ => ⟨fun _ => k _ hW hm, fun _ => ⟨by omega, fun _ => ?_, fun _ => ?_⟩⟩⟩⟩
    · exact hk _ _ _ _ _ _ _ ⟨rfl, hW, hm, by rw [inc1 (by omega)]; omega, by rw [inc1 (by omega)]; omega⟩ (by rw [inc1 (by omega)]; omega)
    · refine q_goesOn _ _ _ _ _ _ _ hKT hW.2.2 ⟨h0, g⟩ (by omega) (fun T2 hW2 hm2 => ?_)
      exact hk _ _ _ _ _ _ _ ⟨rfl, hW.tr hW2, by omega, by rw [inc1 (by omega)]; omega, by rw [inc1 (by omega)]; omega⟩ (by rw [inc1 (by omega)]; omega)
  unfold w_X12_searches
  have h21 := hS.1
  refine lr7 (fun (T : GS) (n' _ _ _ _ i : Int32) => n' = n ∧ Fr [] [] [29] [] S T ∧ 0 ≤ i.toInt ∧ i.toInt ≤ (fi S 21).toInt ∧ ∀ q : Nat, q < 1024 → (ar T 29 q).toInt = -1 ∨ (i.toInt ≤ (ar T 29 q).toInt ∧ (ar T 29 q).toInt < (fi S 21).toInt ∧ (ar S 30 (ar T 29 q).toInt.toNat).toInt = (q : Int))) (fun _ _ _ _ _ _ i => (400 - i.toInt).toNat) ?_ _ _ _ _ _ _ _ ⟨rfl, Fr.rf, by decide, by rw [li_0]; omega, fun q hq => ?_⟩
  · rintro kk T n' l2 d2 p2 s2 i ⟨rfl, hF, h0, h4, hQ⟩ hk
    unfold w_X12_searches_F3
    have e21 : (fi T 21).toInt = (fi S 21).toInt := by
      show (T.1 21).toInt = (S.1 21).toInt
      rw [hF.1 21 (by decide)]
    have e30 : ar T 30 = ar S 30 := hF.2.2.1 30 (by decide)
    refine ⟨fun g => ?_, fun g => ?_⟩
    · unfold w_X12_searches_B31
      have hF2 : Fr [21, 22, 23] [] [29] [] S (si (si (si T 21 0) 23 0) 22 (-1)) := Fr.si (by decide) (Fr.si (by decide) (Fr.si (by decide) (hF.wk (by decide))))
      have hS0 : SInv (si (si (si T 21 0) 23 0) 22 (-1)) := by
        have q21 : (fi (si (si (si T 21 0) 23 0) 22 (-1)) 21).toInt = 0 := by
          show ((si (si (si T 21 0) 23 0) 22 (-1)).1 21).toInt = 0
          rw [si_ne (by decide), si_ne (by decide), si_at]; decide
        refine ⟨by omega, fun q hq => Or.inl ?_, fun q hq => by omega, Or.inl ?_⟩
        · show ((si (si (si T 21 0) 23 0) 22 (-1)).2.2.1 29 q).toInt = -1
          rw [si_2, si_2, si_2]
          rcases hQ q hq with g2 | g2
          · exact g2
          · omega
        · show ((si (si (si T 21 0) 23 0) 22 (-1)).1 22).toInt = -1
          rw [si_at]; decide
      have q21 : (fi (si (si (si T 21 0) 23 0) 22 (-1)) 21).toInt = 0 := by
        show ((si (si (si T 21 0) 23 0) 22 (-1)).1 21).toInt = 0
        rw [si_ne (by decide), si_ne (by decide), si_at]; decide
      generalize si (si (si T 21 0) 23 0) 22 (-1) = U at hF2 hS0 q21 ⊢
      refine q_meets _ _ _ _ _ hS0 (by omega) (Or.inl (by decide)) (fun T3 hF3 hS3 hm3 => ?_)
      have hS4 : SS S T3 := ⟨(hF2.wk (by decide) : FQ S U).tr (hF3.wk (by decide)), fun b => BR.fr hF3 (by decide) (by decide) (BR.fr hF2 (by decide) (by decide) b), hS3⟩
      refine ⟨fun _ => f78 _ hS4 (by omega) _ _ _ _, fun gn => ?_⟩
      have hK3 := hK.fr hS4.1
      have e163 : (fi T3 16).toInt = (fi S 16).toInt := by
        show (T3.1 16).toInt = (S.1 16).toInt
        rw [hS4.1.1 16 (by decide)]
      refine q_isNever _ _ _ _ hK3 (by omega) (fun v T4 hW4 => ?_)
      have hS5 : SS S T4 := hS4.tr (hW4.ss hS3)
      have e214 : (fi T4 21).toInt = (fi T3 21).toInt := by
        show (T4.1 21).toInt = (T3.1 21).toInt
        rw [hW4.1.1 21 (by decide)]
      refine ⟨fun _ => f78 _ hS5 (by omega) _ _ _ _, fun _ => f78 _ ⟨Fr.si (by decide) hS5.1, fun b => BR.si (hS5.2.1 b), ?_⟩ ?_ _ _ _ _⟩
      · have h5 := hS5.2.2
        refine ⟨?_, ?_, ?_, Or.inr ?_⟩
        · show 0 ≤ ((si T4 22 0).1 21).toInt ∧ ((si T4 22 0).1 21).toInt ≤ 400
          rw [si_ne (by decide)]; exact h5.1
        · intro q hq
          have := h5.2.1 q hq
          show ((si T4 22 0).2.2.1 29 q).toInt = -1 ∨ (0 ≤ ((si T4 22 0).2.2.1 29 q).toInt ∧ ((si T4 22 0).2.2.1 29 q).toInt < ((si T4 22 0).1 21).toInt ∧ _)
          rw [si_ne (by decide)]; exact this
        · intro q hq
          have hq2 : (q : Int) < ((si T4 22 0).1 21).toInt := hq
          rw [si_ne (by decide)] at hq2
          exact h5.2.2.1 q hq2
        · show 0 ≤ ((si T4 22 0).1 22).toInt ∧ (((si T4 22 0).1 22).toInt = 0 ∨ ((si T4 22 0).1 22).toInt < ((si T4 22 0).1 21).toInt)
          rw [si_at, si_ne (by decide), li_0]
          show (0 : Int) ≤ 0 ∧ ((0 : Int) = 0 ∨ 0 < (fi T4 21).toInt)
          omega
      · show 1 ≤ ((si T4 22 0).1 21).toInt
        rw [si_ne (by decide)]
        show 1 ≤ (fi T4 21).toInt
        omega
    · have g30 := (hS.2.2.1 i.toInt.toNat (by omega)).1
      rw [e30]
      have en : i.toNatClampNeg = i.toInt.toNat := rfl
      rw [en]
      refine ⟨by omega, by omega, hk _ _ _ _ _ _ _ ⟨rfl, Fr.su (by decide) hF, by rw [inc1 (by omega)]; omega, by rw [inc1 (by omega)]; omega, ?_⟩ (by rw [inc1 (by omega)]; omega)⟩
      intro q hq
      have e29 : ar (su T 29 (ar S 30 i.toInt.toNat).toNatClampNeg (-1)) 29 = upd (ar T 29) (ar S 30 i.toInt.toNat).toNatClampNeg (-1) := su_at _ _ _ _
      rw [e29]
      by_cases e : q = (ar S 30 i.toInt.toNat).toNatClampNeg
      · rw [e, upd_at]; exact Or.inl (by decide)
      · rw [upd_ne e]
        rcases hQ q hq with g2 | g2
        · exact Or.inl g2
        · refine Or.inr ⟨?_, g2.2.1, g2.2.2⟩
          rw [inc1 (by omega)]
          have : (ar T 29 q).toInt ≠ i.toInt := fun e2 => e (by
            rw [tnc]
            have := g2.2.2
            rw [e2] at this
            omega)
          omega
  · rcases hS.2.1 q hq with g | g
    · exact Or.inl g
    · exact Or.inr ⟨by rw [li_0]; omega, g.2.1, g.2.2⟩
set_option maxHeartbeats 400000 in
theorem q_codeOf (S : GS) (i c : Int32) (post : Int32 → GS → Prop) (hS : SInv S) (hi : 0 ≤ i.toInt ∧ i.toInt < (fi S 21).toInt) (hc : 0 ≤ c.toInt ∧ c.toInt ≤ 1000) (k : ∀ v, post v S) : w_X12_codeOf S i c post := by
  unfold w_X12_codeOf
  have h4 := hS.1
  refine lr3 (fun (T : GS) (c' j : Int32) => T = S ∧ c' = c ∧ 0 ≤ j.toInt ∧ j.toInt < (fi S 21).toInt) (fun _ _ j => j.toInt.toNat) ?_ _ _ _ ⟨rfl, rfl, hi⟩
  rintro kk T c' j ⟨rfl, rfl, h0, h1⟩ hk
  unfold w_X12_codeOf_F2 w_X12_codeOf_B24
  have en : j.toNatClampNeg = j.toInt.toNat := rfl
  have g := hS.2.2.1 j.toInt.toNat (by omega)
  rw [en, inc1 (by omega)]
  refine ⟨by omega, fun _ => ⟨by omega, k _⟩, fun g2 => ⟨by omega, hk _ _ _ ⟨rfl, rfl, ?_, ?_⟩ ?_⟩⟩
  · rcases g.2.2 with q | q <;> omega
  · rcases g.2.2 with q | q <;> omega
  · rcases g.2.2 with q | q <;> omega
