theorem Seg_rf (f : Nat → Int32) (a h : Nat) : Seg f a a h h := ⟨Nat.le_refl _, fun _ => h, rfl, rfl, fun i h1 h2 => absurd h2 (Nat.not_lt.mpr h1)⟩
theorem Seg_up {f : Nat → Int32} {lo hi h0 h1 : Nat} (c : Nat) (h : Seg f lo hi h0 h1) : Seg f lo hi (h0 + c) (h1 + c) := by
  obtain ⟨hl, H, e0, e1, hs⟩ := h
  refine ⟨hl, fun i => H i + c, by show H lo + c = h0 + c; rw [e0], by show H hi + c = h1 + c; rw [e1], fun i a b => ?_⟩
  rcases hs i a b with h | h | h
  · exact Or.inl ⟨h.1, by show H (i + 1) + c = H i + c + 1; omega⟩
  · exact Or.inr (Or.inl ⟨h.1, by show 1 ≤ H i + c; omega, by show H (i + 1) + c = H i + c; omega⟩)
  · exact Or.inr (Or.inr ⟨h.1, h.2.1, by show 2 ≤ H i + c; omega, by show H (i + 1) + c + 1 = H i + c; omega⟩)
theorem Seg_cat {f : Nat → Int32} {a b c h0 h1 h2 : Nat} (h : Seg f a b h0 h1) (g : Seg f b c h1 h2) : Seg f a c h0 h2 := by
  obtain ⟨hl, H, e0, e1, hs⟩ := h
  obtain ⟨gl, G, d0, d1, gs⟩ := g
  refine ⟨Nat.le_trans hl gl, fun i => if i ≤ b then H i else G i, ?_, ?_, fun i p q => ?_⟩
  · show (if a ≤ b then H a else G a) = h0
    rw [if_pos hl, e0]
  · show (if c ≤ b then H c else G c) = h2
    by_cases e : c ≤ b
    · have : c = b := by omega
      subst this
      rw [if_pos (Nat.le_refl _), e1, ← d0, d1]
    · rw [if_neg e, d1]
  · show SK (f (2 * i)).toInt (if i ≤ b then H i else G i) (if i + 1 ≤ b then H (i + 1) else G (i + 1))
    by_cases e : i + 1 ≤ b
    · rw [if_pos (by omega), if_pos e]; exact hs i p (by omega)
    · by_cases e2 : i ≤ b
      · have : i = b := by omega
        subst this
        rw [if_pos e2, if_neg e, e1, ← d0]; exact gs i (Nat.le_refl _) q
      · rw [if_neg e2, if_neg e]; exact gs i (by omega) q
theorem Seg_one {f : Nat → Int32} {a h0 h1 : Nat} (h : SK (f (2 * a)).toInt h0 h1) : Seg f a (a + 1) h0 h1 := by
  refine ⟨Nat.le_succ _, fun i => if i = a then h0 else h1, if_pos rfl, if_neg (by omega), fun i p q => ?_⟩
  have : i = a := by omega
  subst this
  show SK _ (if i = i then h0 else h1) (if i + 1 = i then h0 else h1)
  rw [if_pos rfl, if_neg (by omega)]; exact h
theorem Seg_cg {f g : Nat → Int32} {lo hi h0 h1 : Nat} (e : ∀ i, lo ≤ i → i < hi → g (2 * i) = f (2 * i)) (h : Seg f lo hi h0 h1) : Seg g lo hi h0 h1 := by
  obtain ⟨hl, H, e0, e1, hs⟩ := h
  exact ⟨hl, H, e0, e1, fun i p q => by rw [e i p q]; exact hs i p q⟩
/-- how many steps are laid -/
abbrev nn (S : GS) : Int := (ar S 6 13).toInt
/-- the parser stands well -/
def Lx (S : GS) : Prop := 0 ≤ (fi S 4).toInt ∧ (fi S 4).toInt ≤ (fi S 2).toInt ∧ (fi S 2).toInt ≤ (fi S 1).toInt ∧ (fi S 1).toInt ≤ 700 ∧ ((fi S 3).toInt ≠ 0 → (fi S 4).toInt < (fi S 2).toInt) ∧ 0 ≤ nn S ∧ nn S ≤ (fi S 4).toInt
/-- what an expression's parser keeps -/
def EE (S S' : GS) : Prop := Fr [2, 3, 4, 5, 6, 7, 9, 10, 11, 14, 15] [] [5, 6] [] S S' ∧ (∀ i : Nat, (i : Int) < 18720 + 2 * nn S → ar S' 5 i = ar S 5 i) ∧ (∀ i, i ≠ 13 → ar S' 6 i = ar S 6 i) ∧ nn S ≤ nn S'
theorem EE_rf (S : GS) : EE S S := ⟨Fr.rf, fun _ _ => rfl, fun _ _ => rfl, Int.le_refl _⟩
theorem EE_tr {S S' S'' : GS} (h : EE S S') (g : EE S' S'') : EE S S'' := by
  have h4 := h.2.2.2
  have g4 := g.2.2.2
  exact ⟨h.1.tr g.1, fun i hi => (g.2.1 i (by omega)).trans (h.2.1 i hi), fun i hi => (g.2.2.1 i hi).trans (h.2.2.1 i hi), by omega⟩
theorem EE_fr {S S' : GS} (h : Fr [2, 3, 4, 5, 6, 7, 9, 10, 11, 14, 15] [] [] [] S S') : EE S S' := by
  have e5 : ar S' 5 = ar S 5 := h.2.2.1 5 (by decide)
  have e6 : ar S' 6 = ar S 6 := h.2.2.1 6 (by decide)
  exact ⟨h.wk (by decide), fun i _ => by rw [e5], fun i _ => by rw [e6], by show (ar S 6 13).toInt ≤ (ar S' 6 13).toInt; rw [e6]; exact Int.le_refl _⟩
theorem NX_ee {S S' : GS} (h : NX S S') : EE S S' := EE_fr (h.1.wk (by decide))
/-- sawB and sawT only rise -/
def BM (S S' : GS) : Prop := (fi S' 14 = fi S 14 ∨ fi S' 14 = 1) ∧ (fi S' 15 = fi S 15 ∨ fi S' 15 = 1)
theorem BM_rf (S : GS) : BM S S := ⟨Or.inl rfl, Or.inl rfl⟩
theorem BM_tr {S S' S'' : GS} (h : BM S S') (g : BM S' S'') : BM S S'' := by
  refine ⟨?_, ?_⟩
  · rcases g.1 with e | e
    · rw [e]; exact h.1
    · exact Or.inr e
  · rcases g.2 with e | e
    · rw [e]; exact h.2
    · exact Or.inr e
theorem BM_fr {I L A M : List Nat} {S S' : GS} (h : Fr I L A M S S') (h1 : 14 ∉ I) (h2 : 15 ∉ I) : BM S S' := ⟨Or.inl (h.1 14 h1), Or.inl (h.1 15 h2)⟩
/-- behind an expression that was read: from a state that stands well -/
def OKx (S S' : GS) : Prop := Lx S' ∧ nn S' - nn S ≤ (fi S' 4).toInt - (fi S 4).toInt ∧ fi S' 9 = fi S 9 ∧ BM S S' ∧ Seg (sx S' 13) (nn S).toNat (nn S').toNat 0 1
/-- the same, without a step: some tokens further on -/
def GOx (S S' : GS) : Prop := Lx S' ∧ nn S' = nn S ∧ (fi S 4).toInt < (fi S' 4).toInt ∧ fi S' 9 = fi S 9 ∧ BM S S'
theorem nn_fr {I L A M : List Nat} {S S' : GS} (h : Fr I L A M S S') (h6 : 6 ∉ A) : nn S' = nn S := by
  show (S'.2.2.1 6 13).toInt = (S.2.2.1 6 13).toInt
  rw [h.2.2.1 6 h6]
/-- next0 from a token that isn't the end -/
theorem GO_nx {S S' : GS} (hL : Lx S) (ht : (fi S 3).toInt ≠ 0) (h : NX S S') : GOx S S' := by
  have e1 : (fi S' 1).toInt = (fi S 1).toInt := by
    show (S'.1 1).toInt = (S.1 1).toInt
    rw [h.1.1 1 (by decide)]
  have en := nn_fr h.1 (by decide)
  obtain ⟨a1, a2, a3, a4, a5, a6, a7⟩ := hL
  have a8 := a5 ht
  obtain ⟨hF, b1, b2, b3, b4⟩ := h
  exact ⟨⟨by omega, by omega, by omega, by omega, b4, by omega, by omega⟩, en, by omega, hF.1 9 (by decide), BM_fr hF (by decide) (by decide)⟩
theorem NX_pre {S : GS} (hL : Lx S) : 0 ≤ (fi S 2).toInt ∧ (fi S 2).toInt ≤ (fi S 1).toInt ∧ (fi S 1).toInt ≤ 700 := by
  obtain ⟨a1, a2, a3, a4, -⟩ := hL
  omega
theorem EE_sx {S S' : GS} (h : EE S S') (hn : 0 ≤ nn S) {lo hi h0 h1 : Nat} (hh : (hi : Int) ≤ nn S) (g : Seg (sx S 13) lo hi h0 h1) : Seg (sx S' 13) lo hi h0 h1 := by
  refine Seg_cg (fun i a b => ?_) g
  show ar S' 5 (1440 * 13 + 2 * i) = ar S 5 (1440 * 13 + 2 * i)
  exact h.2.1 _ (by omega)
set_option maxHeartbeats 400000 in
theorem q_lay (S : GS) (s v : Int32) (post : GS → Prop) (hn : 0 ≤ nn S ∧ nn S ≤ 715) (k : ∀ S', EE S S' → Fr [] [] [5, 6] [] S S' → nn S' = nn S + 1 → sx S' 13 (2 * (nn S).toNat) = s → post S') : w_X12_lay S s v post := by
  unfold w_X12_lay
  have e1 := step3 (i := ar S 6 13) (by have := hn; unfold nn at this; omega)
  have e2 := step4 (i := ar S 6 13) (by have := hn; unfold nn at this; omega)
  have n1 : ((18720 : Int32) + (2 : Int32) * ar S 6 13).toNatClampNeg = 18720 + 2 * (nn S).toNat := by rw [tnc, e1]; unfold nn at *; omega
  have n2 : ((18720 : Int32) + (2 : Int32) * ar S 6 13 + 1).toNatClampNeg = 18720 + 2 * (nn S).toNat + 1 := by rw [tnc, e2]; unfold nn at *; omega
  rw [n1, n2, e1, e2]
  clear n1 n2 e1 e2
  have hn2 := hn
  unfold nn at hn2
  refine ⟨by omega, by omega, ?_⟩
  have eF : Fr [] [] [5, 6] [] S (su (su (su S 5 (18720 + 2 * (nn S).toNat) s) 5 (18720 + 2 * (nn S).toNat + 1) v) 6 13 (ar S 6 13 + 1)) := Fr.su (by decide) (Fr.su (by decide) (Fr.su (by decide) Fr.rf))
  generalize hT : su (su (su S 5 (18720 + 2 * (nn S).toNat) s) 5 (18720 + 2 * (nn S).toNat + 1) v) 6 13 (ar S 6 13 + 1) = T at eF ⊢
  have t5 : ar T 5 = upd (upd (ar S 5) (18720 + 2 * (nn S).toNat) s) (18720 + 2 * (nn S).toNat + 1) v := by
    show T.2.2.1 5 = _
    rw [← hT, su_ne (by decide), su_at, su_at]
  have t6 : ar T 6 = upd (ar S 6) 13 (ar S 6 13 + 1) := by
    show T.2.2.1 6 = _
    rw [← hT, su_at, su_ne (by decide), su_ne (by decide)]
  have tn : nn T = nn S + 1 := by
    show (ar T 6 13).toInt = _
    rw [t6, upd_at, inc1 (by omega)]
  refine k T ⟨eF.wk (by decide), fun i hi => ?_, fun i hi => ?_, by omega⟩ eF tn ?_
  · rw [t5, upd_ne (by omega), upd_ne (by omega)]
  · rw [t6, upd_ne hi]
  · show ar T 5 (1440 * 13 + 2 * (nn S).toNat) = s
    rw [t5, upd_ne (by omega)]
    have : 1440 * 13 + 2 * (nn S).toNat = 18720 + 2 * (nn S).toNat := by omega
    rw [this, upd_at]
/-- lay in a state that stands well -/
theorem GO_ly {S S' : GS} (hL : Lx S) (hF : Fr [] [] [5, 6] [] S S') (hn : nn S' = nn S + 1) (hs : nn S + 1 ≤ (fi S 4).toInt) : Lx S' ∧ fi S' 9 = fi S 9 ∧ BM S S' ∧ fi S' 4 = fi S 4 := by
  have e1 : fi S' 1 = fi S 1 := hF.1 1 (by decide)
  have e2 : fi S' 2 = fi S 2 := hF.1 2 (by decide)
  have e3 : fi S' 3 = fi S 3 := hF.1 3 (by decide)
  have e4 : fi S' 4 = fi S 4 := hF.1 4 (by decide)
  refine ⟨?_, hF.1 9 (by decide), BM_fr hF (by decide) (by decide), e4⟩
  obtain ⟨a1, a2, a3, a4, a5, a6, a7⟩ := hL
  unfold Lx
  rw [e1, e2, e3, e4]
  exact ⟨a1, a2, a3, a4, a5, by omega, by omega⟩
