theorem rkA_app {g : SV} {a b t : Int32} : ∀ {l1 l2 : List (Int32 × Int32)} {st : List Int32}, rkA g a b t (l1 ++ l2) st = rkA g a b t l2 (rkA g a b t l1 st)
  | [], _, _ => rfl
  | _ :: l1, _, _ => rkA_app (l1 := l1)
theorem rk1_base {g : SV} {a b t : Int32} {x : Int32 × Int32} {ts ts' : List Bool} {st base : List Int32} (h : TS1 ts x.1.toInt x.2.toInt ts') (hv : VT ts st) : rk1 g a b t x (st ++ base) = rk1 g a b t x st ++ base := by
  rcases TS1_k h hv with ⟨c1, -, r, l, s, rfl⟩ | ⟨c1, v, s, rfl⟩ | ⟨c1, c2, -⟩
  · show rk1 g a b t x (r :: l :: (s ++ base)) = _
    rw [rk1_j c1, rk1_j c1]
    all_goals rfl
  · show rk1 g a b t x (v :: (s ++ base)) = _
    rw [rk1_n c1, rk1_n c1]
    all_goals rfl
  · rw [rk1_u c1 c2, rk1_u c1 c2]
    rfl
theorem rkA_base {g : SV} {a b t : Int32} {m : Nat} : ∀ {l : List (Int32 × Int32)} {ts ts' : List Bool} {st base : List Int32}, TyA m l ts ts' → VT ts st → rkA g a b t l (st ++ base) = rkA g a b t l st ++ base
  | [], _, _, _, _, _, _ => rfl
  | x :: l, ts, ts', st, base, ⟨t1, h1, h2, h3⟩, hv => by
    show rkA g a b t l (rk1 g a b t x (st ++ base)) = rkA g a b t l (rk1 g a b t x st) ++ base
    rw [rk1_base h1 hv]
    exact rkA_base (l := l) h3 (VT_s h1 hv)
theorem rkV_ng {g : SV} {a b t : Int32} {E : List (Int32 × Int32)} (h : GdE E) : rkV g a b t ((2, 0) :: (E ++ [(25, 0)])) = - rkV g a b t E := by
  have h2 : VT [false] (rkA g a b t E []) := VT_A h (st := []) trivial
  obtain ⟨v, s, e, -, h0⟩ := VT_1 h2
  have hs := VT_0 h0
  subst hs
  have e1 : rk1 g a b t (2, 0) [] = [0] := by
    rw [rk1_u (by decide) (by decide)]
    all_goals rfl
  have e2 : rkA g a b t E [0] = [v, 0] := by
    have := rkA_base (g := g) (a := a) (b := b) (t := t) (base := [0]) h (st := []) trivial
    rw [e] at this
    exact this
  unfold rkV
  rw [e]
  show hd0 (rkA g a b t (E ++ [(25, 0)]) (rk1 g a b t (2, 0) [])) = -v
  rw [e1, rkA_app, e2]
  show hd0 (rk1 g a b t (25, 0) (v :: 0 :: [])) = -v
  rw [rk1_j (by decide)]
  show rkJ 25 0 v = -v
  rw [rkJ_25 (by decide)]
  exact Int32.zero_sub v
set_option maxHeartbeats 1000000 in
theorem q_isCodeE (S : GS) (c laws : Int32) (post : Int32 → GS → Prop) (nv : List OL) (cu : List CuT) (ac : Nat → Option AcT) (hm : MIx S nv cu ac) (hb : ∀ i a, ac i = some a → (a.2.1 = 0 ∨ a.2.1 = 1) ∧ (a.2.2.1 = 0 ∨ a.2.2.1 = 1)) (hc : 0 ≤ c.toInt ∧ c.toInt ≤ 767) (k0 : ∀ S', Fr [18, 19, 20] [] [] [] S S' → actO ac c laws = none → post 0 S') (k1 : ∀ S' a, Fr [18, 19, 20] [] [] [] S S' → fi S' 18 = cdA c → fi S' 19 = cdB c → fi S' 20 = cdT c → actO ac c laws = some a → MAx S (c / 64).toInt.toNat a → (c / 64).toInt ≤ 11 → post 1 S') : w_X12_isCode S c laws post := by
  unfold w_X12_isCode w_X12_isCode_B118 w_X12_isCode_B119 w_X12_isCode_B83 w_X12_isCode_B105 w_X12_isCode_B118 w_X12_isCode_B119
  have hv := cd_v hc
  have e1 : ((c / 16) - (c / 16) / 4 * 4) = cdA c := by
    apply i_eq
    rw [hv.1]
    simp (disch := omega) only [Int32.toInt_sub, Int32.toInt_mul, Int32.toInt_div, li_16, li_4, tdv, bm]
    omega
  have e2 : ((c / 4) - (c / 4) / 4 * 4) = cdB c := by
    apply i_eq
    rw [hv.2.1]
    simp (disch := omega) only [Int32.toInt_sub, Int32.toInt_mul, Int32.toInt_div, li_4, tdv, bm]
    omega
  have e3 : (c - c / 4 * 4) = cdT c := by
    apply i_eq
    rw [hv.2.2]
    simp (disch := omega) only [Int32.toInt_sub, Int32.toInt_mul, Int32.toInt_div, li_4, tdv, bm]
    omega
  have e4 : (c / 64).toInt = c.toInt / 64 := by
    simp (disch := omega) only [Int32.toInt_div, li_64, tdv, bm]
  rw [e1, e2, e3]
  have hF : Fr [18, 19, 20] [] [] [] S (si (si (si S 18 (cdA c)) 19 (cdB c)) 20 (cdT c)) := Fr.si (by decide) (Fr.si (by decide) (Fr.si (by decide) Fr.rf))
  have f1 : fi (si (si (si S 18 (cdA c)) 19 (cdB c)) 20 (cdT c)) 18 = cdA c := (si_ne (by decide)).trans ((si_ne (by decide)).trans (si_at _ _ _))
  have f2 : fi (si (si (si S 18 (cdA c)) 19 (cdB c)) 20 (cdT c)) 19 = cdB c := (si_ne (by decide)).trans (si_at _ _ _)
  have f3 : fi (si (si (si S 18 (cdA c)) 19 (cdB c)) 20 (cdT c)) 20 = cdT c := si_at _ _ _
  generalize si (si (si S 18 (cdA c)) 19 (cdB c)) 20 (cdT c) = U at hF f1 f2 f3 ⊢
  have f7 : ar U 7 = ar S 7 := hF.2.2.1 7 (by decide)
  have f19 : ar U 19 = ar S 19 := hF.2.2.1 19 (by decide)
  have f20 : ar U 20 = ar S 20 := hF.2.2.1 20 (by decide)
  have bit := i_and (a := laws >>> (((c / 64) / 6) &&& 31)) (c := 1) (by decide)
  rw [li_1] at bit
  have hA := hm.2.2 (c / 64).toInt.toNat (by omega)
  have ix : ((c / 64).toInt.toNat / 6 : Nat) = ((c / 64).toInt / 6).toNat := by omega
  refine q_isAct _ _ _ (fun r hr hb' => ?_)
  rw [f1, f2, f3, f19, f20]
  refine ⟨fun hz => ⟨Or.inl rfl, k0 U hF ?_⟩, fun hz => ?_⟩
  · rcases hA with ⟨h1, -⟩ | ⟨a, h1, h2, -⟩
    · exact actO_0 h1
    · exfalso
      rw [f7] at hb'
      rw [ix] at h2
      omega
  rcases hA with ⟨h1, h2⟩ | ⟨a, h1, h2, hMA⟩
  · exfalso
    rw [f7] at hb'
    rw [ix] at h2
    omega
  obtain ⟨hb1, hb2⟩ := hb _ a h1
  obtain ⟨p1, p2, -⟩ := hMA.1
  have nn : (c / 64).toNatClampNeg = (c / 64).toInt.toNat := tnc _
  rw [nn, p1, p2]
  have no : ¬ ftA a c → post 0 U := fun h => k0 U hF (actO_n h1 h)
  have t1 : (1 : Int32).toInt = 1 := li_1
  have t0 : (0 : Int32).toInt = 0 := li_0
  refine ⟨fun hz2 => ⟨Or.inl rfl, k0 U hF (actO_l (by show _ = _; omega))⟩, fun hz2 => ?_⟩
  have nl : ¬ lwB c laws := by
    show ¬ _ = _
    omega
  have yes : ftA a c → post 1 U := fun h => k1 U a hF f1 f2 f3 (actO_y nl h1 h) hMA (by omega)
  have v1 : a.2.1.toInt = 0 ∨ a.2.1.toInt = 1 := by
    rcases hb1 with q | q <;> rw [q]
    · exact Or.inl t0
    · exact Or.inr t1
  have v2 : a.2.2.1.toInt = 0 ∨ a.2.2.1.toInt = 1 := by
    rcases hb2 with q | q <;> rw [q]
    · exact Or.inl t0
    · exact Or.inr t1
  have bx : 0 ≤ (c / 64).toInt ∧ (c / 64).toInt < 18 := by omega
  refine ⟨fun hA3 => ⟨Or.inl rfl, no (fun q => q.1 hA3)⟩, fun hA3 => ⟨fun hBA => ⟨Or.inl rfl, no (fun q => ?_)⟩, fun hBA => ?_⟩⟩
  · by_cases z : a.2.1.toInt = 0
    · have := q.2.1.1 z; omega
    · exact (q.2.1.2 z).2 hBA
  have last : ((a.2.1.toInt = 0 → (cdB c).toInt = 3) ∧ (a.2.1.toInt ≠ 0 → (cdB c).toInt ≠ 3 ∧ (cdB c).toInt ≠ (cdA c).toInt)) → (((cdT c).toInt ≠ 3 → (0 ≤ (c / 64).toInt ∧ (c / 64).toInt < 18) ∧ (((0 : Int32).toInt = a.2.2.1.toInt → ((0 : Int32) = 0 ∨ (0 : Int32) = 1) ∧ post 0 U) ∧ ((0 : Int32).toInt ≠ a.2.2.1.toInt → ((1 : Int32) = 0 ∨ (1 : Int32) = 1) ∧ post 1 U))) ∧ ((cdT c).toInt = 3 → (0 ≤ (c / 64).toInt ∧ (c / 64).toInt < 18) ∧ (((1 : Int32).toInt = a.2.2.1.toInt → ((0 : Int32) = 0 ∨ (0 : Int32) = 1) ∧ post 0 U) ∧ ((1 : Int32).toInt ≠ a.2.2.1.toInt → ((1 : Int32) = 0 ∨ (1 : Int32) = 1) ∧ post 1 U)))) := by
    intro hB
    refine ⟨fun hT => ⟨bx, fun z => ⟨Or.inl rfl, no (fun q => ?_)⟩, fun z => ⟨Or.inr rfl, yes ⟨hA3, hB, fun y => ?_, fun _ => hT⟩⟩⟩, fun hT => ⟨bx, fun z => ⟨Or.inl rfl, no (fun q => ?_)⟩, fun z => ⟨Or.inr rfl, yes ⟨hA3, hB, fun _ => hT, fun y => ?_⟩⟩⟩⟩
    · exact hT (q.2.2.1 (by omega))
    · exfalso; omega
    · exact q.2.2.2 (by omega) hT
    · exfalso; omega
  refine ⟨fun hB3 => ⟨bx, fun z => ⟨Or.inl rfl, no (fun q => hB3 (q.2.1.1 (by omega)))⟩, fun z => last ⟨fun y => by exfalso; omega, fun _ => ⟨hB3, hBA⟩⟩⟩, fun hB3 => ⟨bx, fun z => ⟨Or.inl rfl, no (fun q => (q.2.1.2 (by omega)).1 hB3)⟩, fun z => last ⟨fun _ => hB3, fun y => by exfalso; omega⟩⟩⟩
/-- whom a number of the reference's stands for -/
def stV (c v : Int32) : Int32 := if v.toInt = 3 then 3 else if v.toInt = 0 then cdA c else cdB c
theorem q_stoodE (S : GS) (v c : Int32) (post : Int32 → GS → Prop) (ea : fi S 18 = cdA c) (eb : fi S 19 = cdB c) (k : post (stV c v) S) : w_X12_stood S v post := by
  unfold w_X12_stood w_X12_stood_B24
  rw [ea, eb]
  refine ⟨fun h => ⟨fun h2 => ?_, fun h2 => ?_⟩, fun h => ?_⟩
  · unfold stV at k
    rw [if_neg h, if_neg h2] at k; exact k
  · unfold stV at k
    rw [if_neg h, if_pos h2] at k; exact k
  · unfold stV at k
    rw [if_pos h] at k; exact k
theorem stV_one {c v f : Int32} (h : (v.toInt = 3 ∧ f.toInt = 2) ∨ (v = f ∧ (f.toInt = 0 ∨ f.toInt = 1))) : stV c v = psI c f := by
  unfold stV
  rcases h with ⟨h1, h2⟩ | ⟨rfl, h2 | h2⟩
  · rw [if_pos h1, psI_2 (by omega) (by omega)]
  · rw [if_neg (by omega), if_pos h2, psI_0 h2]
  · rw [if_neg (by omega), if_neg (by omega), psI_1 h2]
theorem stV_two {c v f : Int32} (h : v.toInt = 1 - f.toInt) (hf : f.toInt = 0 ∨ f.toInt = 1) : stV c v = psI c ((1 : Int32) - f) := by
  have e : ((1 : Int32) - f).toInt = 1 - f.toInt := by
    rw [i_sub (by rw [li_1]; omega) (by rw [li_1]; omega), li_1]
  apply stV_one
  refine Or.inr ⟨i_eq (by rw [e]; exact h), by omega⟩
/-- coins, debts and the day -/
def NB (T : GS) (gg : SV) (d : Int32) : Prop := (∀ p, p < 3 → ar T 24 p = gg p) ∧ (∀ q, q < 9 → ar T 25 q = gg (10 + q)) ∧ d = gg 50
/-- ties -/
def NT (T : GS) (gg : SV) : Prop := (∀ t, t < 3 → ar T 2 t = gg (40 + t)) ∧ ∀ p q : Nat, p < 3 → q < 3 → p ≠ q → ar T 3 (3 * p + q) = gg (20 + (3 * p + q)) ∧ ar T 4 (3 * p + q) = gg (30 + (3 * p + q))
theorem mkA_diag {now : SV} {c : Int32} : ∀ {l : List MkT} {g : SV} {i : Nat}, (∀ w ∈ l, GdM w ∧ PM c w) → (i = 0 ∨ i = 4 ∨ i = 8) → mkA now c l g (10 + i) = g (10 + i)
  | [], _, _, _, _ => rfl
  | w :: l, g, i, hl, hi => by
    have h1 := hl w List.mem_cons_self
    show mkA now c l (mk1 now c w g) (10 + i) = g (10 + i)
    rw [mkA_diag (l := l) (fun w' hw' => hl w' (List.mem_cons_of_mem _ hw')) hi]
    obtain ⟨p7, p8, p9⟩ := h1.2
    have rp := psI_r (c := c) (f := w.2.1)
    have rq := psI_r (c := c) (f := (1 : Int32) - w.2.1)
    have rt := (cd_r (c := c)).2.2
    unfold mk1
    rcases (GdM_t h1.1).2 with e | e | e | e | e | e | e
    · rw [chg_7 e, upd_ne (by omega)]
    · have h8 := p8 (by omega)
      rw [chg_8 e, upd_ne (by unfold prI; omega)]
    · rw [chg_14 e, upd_ne (by omega)]
    · rw [chg_9 e, upd_ne (by omega)]
    · have h8 := p8 (by omega)
      rw [chg_11 e, upd_ne (by unfold prI; omega), upd_ne (by unfold prI; omega)]
    · have h8 := p8 (by omega)
      rw [chg_12 e, upd_ne (by unfold prI; omega), upd_ne (by unfold prI; omega)]
    · have h8 := p8 (by omega)
      rw [chg_13 e, upd_ne (by unfold prI; omega)]
/-- a make, as the reference has it -/
theorem MKx_v {S : GS} {t m : Nat} {w : MkT} (h : MKx S t m w) (hk : w.1.toInt = 7 ∨ w.1.toInt = 8 ∨ w.1.toInt = 14 ∨ w.1.toInt = 9 ∨ w.1.toInt = 11 ∨ w.1.toInt = 12 ∨ w.1.toInt = 13) : (0 ≤ (ar S 12 m).toInt ∧ (ar S 12 m).toInt ≤ 199) ∧ (ar S 12 m).toInt % 100 = w.1.toInt - 7 ∧ (w.1.toInt ≠ 14 → ∀ c, stV c (ar S 13 m) = psI c w.2.1) ∧ ((w.1.toInt = 8 ∨ w.1.toInt = 11 ∨ w.1.toInt = 12 ∨ w.1.toInt = 13) → ∀ c, stV c (ar S 14 m) = psI c ((1 : Int32) - w.2.1)) := by
  obtain ⟨h1, h2, h3⟩ := h
  refine ⟨?_, ?_, fun h14 c => ?_, fun hp c => ?_⟩
  · rcases h1 with ⟨g, ng, E, lo, e, -⟩ | ⟨g, e, -⟩
    · cases ng <;> simp only [if_true, if_false, Bool.false_eq_true] at e <;> omega
    · omega
  · rcases h1 with ⟨g, ng, E, lo, e, -⟩ | ⟨g, e, -⟩
    · cases ng <;> simp only [if_true, if_false, Bool.false_eq_true] at e <;> omega
    · omega
  · rcases h2 h14 with ⟨q1, q2, q3⟩ | ⟨q1, q2⟩
    · exact stV_one (Or.inl ⟨by rw [q3]; decide, by rw [q2]; decide⟩)
    · exact stV_one (Or.inr ⟨q1, q2⟩)
  · have hf : w.2.1.toInt = 0 ∨ w.2.1.toInt = 1 := by
      rcases h2 (by omega) with ⟨q1, -⟩ | ⟨-, q2⟩
      · omega
      · exact q2
    exact stV_two (h3 hp) hf
theorem NT_wed {S : GS} {gg : SV} {p q v : Int32} (hp : 0 ≤ p.toInt ∧ p.toInt ≤ 2) (hq : 0 ≤ q.toInt ∧ q.toInt ≤ 2) (h : NT S gg) : NT (su (su S 3 (prI p q) v) 3 (prI q p) v) (upd (upd gg (20 + prI p q) v) (20 + prI q p) v) := by
  obtain ⟨n1, n2⟩ := h
  have b1 : prI p q < 9 := by unfold prI; omega
  have b2 : prI q p < 9 := by unfold prI; omega
  have a2 : ar (su (su S 3 (prI p q) v) 3 (prI q p) v) 2 = ar S 2 := (su_ne (by decide)).trans (su_ne (by decide))
  have a4 : ar (su (su S 3 (prI p q) v) 3 (prI q p) v) 4 = ar S 4 := (su_ne (by decide)).trans (su_ne (by decide))
  have a3 : ar (su (su S 3 (prI p q) v) 3 (prI q p) v) 3 = upd (upd (ar S 3) (prI p q) v) (prI q p) v := by
    have q1 : ar (su (su S 3 (prI p q) v) 3 (prI q p) v) 3 = upd (ar (su S 3 (prI p q) v) 3) (prI q p) v := su_at _ _ _ _
    have q2 : ar (su S 3 (prI p q) v) 3 = upd (ar S 3) (prI p q) v := su_at _ _ _ _
    rw [q1, q2]
  refine ⟨fun t ht => ?_, fun a b ha hb hab => ⟨?_, ?_⟩⟩
  · rw [a2, upd_ne (by omega), upd_ne (by omega)]; exact n1 t ht
  · rw [a3]
    by_cases e1 : 3 * a + b = prI q p
    · rw [e1, upd_at, upd_at]
    by_cases e2 : 3 * a + b = prI p q
    · rw [upd_ne e1, upd_ne (k := 20 + prI q p) (by omega), e2, upd_at, upd_at]
    · rw [upd_ne e1, upd_ne e2, upd_ne (by omega), upd_ne (by omega)]
      exact (n2 a b ha hb hab).1
  · rw [a4, upd_ne (by omega), upd_ne (by omega)]; exact (n2 a b ha hb hab).2
theorem NT_adopt {S : GS} {gg : SV} {p q v : Int32} (hp : 0 ≤ p.toInt ∧ p.toInt ≤ 2) (hq : 0 ≤ q.toInt ∧ q.toInt ≤ 2) (h : NT S gg) : NT (su S 4 (prI p q) v) (upd gg (30 + prI p q) v) := by
  obtain ⟨n1, n2⟩ := h
  have b1 : prI p q < 9 := by unfold prI; omega
  have a2 : ar (su S 4 (prI p q) v) 2 = ar S 2 := su_ne (by decide)
  have a3 : ar (su S 4 (prI p q) v) 3 = ar S 3 := su_ne (by decide)
  have a4 : ar (su S 4 (prI p q) v) 4 = upd (ar S 4) (prI p q) v := su_at _ _ _ _
  refine ⟨fun t ht => ?_, fun a b ha hb hab => ⟨?_, ?_⟩⟩
  · rw [a2, upd_ne (by omega)]; exact n1 t ht
  · rw [a3, upd_ne (by omega)]; exact (n2 a b ha hb hab).1
  · rw [a4]
    by_cases e1 : 3 * a + b = prI p q
    · rw [e1, upd_at, upd_at]
    · rw [upd_ne e1, upd_ne (by omega)]; exact (n2 a b ha hb hab).2
theorem q_tiesE (S : GS) (m : Int32) (post : GS → Prop) (c : Int32) (w : MkT) (gg : SV) (v : Int32) (t : Nat) (hm : 0 ≤ m.toInt ∧ m.toInt < 108) (hX : MKx S t m.toInt.toNat w) (hGd : GdM w) (hP : PM c w) (ea : fi S 18 = cdA c) (eb : fi S 19 = cdB c) (et : fi S 20 = cdT c) (hN : NT S gg) (k : ∀ S', Fr [] [] [2, 3, 4] [] S S' → (BR S → BR S') → NT S' (chg w.1 (psI c w.2.1) (psI c ((1 : Int32) - w.2.1)) (cdT c) v gg) → post S') : w_X12_ties S m post := by
  unfold w_X12_ties w_X12_ties_B48 w_X12_ties_B58 w_X12_ties_B78 w_X12_ties_B101 w_X12_ties_B119
  have hk := (GdM_t hGd).2
  obtain ⟨x1, x2, x3, x4⟩ := MKx_v hX hk
  obtain ⟨p7, p8, p9⟩ := hP
  have mn : m.toNatClampNeg = m.toInt.toNat := tnc m
  rw [mn, kd100 x1, x2]
  have rp := psI_r (c := c) (f := w.2.1)
  have rq := psI_r (c := c) (f := (1 : Int32) - w.2.1)
  have rt := (cd_r (c := c)).2.2
  refine ⟨hm, hm, q_stoodE S _ c _ ea eb ⟨hm, q_stoodE S _ c _ ea eb ?_⟩⟩
  obtain ⟨n1, n2⟩ := hN
  -- the pair
  have pair : (w.1.toInt = 8 ∨ w.1.toInt = 11 ∨ w.1.toInt = 12 ∨ w.1.toInt = 13) → ((((3 : Int32) * psI c w.2.1) + psI c ((1 : Int32) - w.2.1)).toInt = ((prI (psI c w.2.1) (psI c ((1 : Int32) - w.2.1)) : Nat) : Int) ∧ (((3 : Int32) * psI c ((1 : Int32) - w.2.1)) + psI c w.2.1).toInt = ((prI (psI c ((1 : Int32) - w.2.1)) (psI c w.2.1) : Nat) : Int)) ∧ (prI (psI c w.2.1) (psI c ((1 : Int32) - w.2.1)) < 9 ∧ prI (psI c ((1 : Int32) - w.2.1)) (psI c w.2.1) < 9) := by
    intro h
    have h8 := p8 h
    unfold prI
    refine ⟨⟨?_, ?_⟩, by omega, by omega⟩
    · rw [(p3q rp rq).1]; omega
    · rw [(p3q rq rp).1]; omega
  rcases hk with e | e | e | e | e | e | e
  · refine ⟨fun _ => ⟨fun z => by exfalso; omega, fun _ => ⟨fun _ => ⟨fun _ => k S Fr.rf id ⟨fun t ht => ?_, fun p q hp hq hpq => ?_⟩, fun z => by exfalso; omega⟩, fun z => by exfalso; omega⟩⟩, fun z => by exfalso; omega⟩
    · have h7 := p7 e
      rw [chg_7 e, upd_ne (by omega)]; exact n1 t ht
    · have h7 := p7 e
      rw [chg_7 e, upd_ne (by omega), upd_ne (by omega)]; exact n2 p q hp hq hpq
  · have h8 := p8 (by omega)
    have hb := (pair (by omega)).2
    refine ⟨fun _ => ⟨fun z => by exfalso; omega, fun _ => ⟨fun _ => ⟨fun _ => k S Fr.rf id ⟨fun t ht => ?_, fun p q hp hq hpq => ?_⟩, fun z => by exfalso; omega⟩, fun z => by exfalso; omega⟩⟩, fun z => by exfalso; omega⟩
    · rw [chg_8 e, upd_ne (by omega)]; exact n1 t ht
    · rw [chg_8 e, upd_ne (by omega), upd_ne (by omega)]; exact n2 p q hp hq hpq
  · refine ⟨fun _ => ⟨fun z => by exfalso; omega, fun _ => ⟨fun _ => ⟨fun _ => k S Fr.rf id ⟨fun t ht => ?_, fun p q hp hq hpq => ?_⟩, fun z => by exfalso; omega⟩, fun z => by exfalso; omega⟩⟩, fun z => by exfalso; omega⟩
    · rw [chg_14 e, upd_ne (by omega)]; exact n1 t ht
    · rw [chg_14 e, upd_ne (by omega), upd_ne (by omega)]; exact n2 p q hp hq hpq
  · have h9 := p9 e
    rw [et]
    have tn : (cdT c).toNatClampNeg = (cdT c).toInt.toNat := tnc _
    refine ⟨fun z => by exfalso; omega, fun _ => ⟨by omega, fun z => by exfalso; omega, fun _ => ⟨fun _ => ⟨fun _ => k _ (Fr.su (by decide) Fr.rf) (fun b => BR.sn (by decide) b) ⟨fun t ht => ?_, fun p q hp hq hpq => ?_⟩, fun z => by exfalso; omega⟩, fun z => by exfalso; omega⟩⟩⟩
    · have a2 : ar (su S 2 (cdT c).toNatClampNeg (stV c (ar S 13 m.toInt.toNat))) 2 = upd (ar S 2) (cdT c).toNatClampNeg (stV c (ar S 13 m.toInt.toNat)) := su_at _ _ _ _
      rw [a2, tn, x3 (by omega) c, chg_9 e]
      by_cases eq : t = (cdT c).toInt.toNat
      · rw [eq, upd_at, upd_at]
      · rw [upd_ne eq, upd_ne (by omega)]; exact n1 t ht
    · rw [chg_9 e, upd_ne (by omega), upd_ne (by omega)]
      exact n2 p q hp hq hpq
  all_goals
    have h8 := p8 (by omega)
    obtain ⟨⟨y1, y2⟩, y3, y4⟩ := pair (by omega)
    rw [x3 (by omega) c, x4 (by omega) c]
    have z1 : (((3 : Int32) * psI c w.2.1) + psI c ((1 : Int32) - w.2.1)).toNatClampNeg = prI (psI c w.2.1) (psI c ((1 : Int32) - w.2.1)) := by rw [tnc, y1]; exact Int.toNat_natCast _
    have z2 : (((3 : Int32) * psI c ((1 : Int32) - w.2.1)) + psI c w.2.1).toNatClampNeg = prI (psI c ((1 : Int32) - w.2.1)) (psI c w.2.1) := by rw [tnc, y2]; exact Int.toNat_natCast _
    rw [z1, z2, y1, y2]
  · refine ⟨fun _ => ⟨fun _ => ⟨fun z => by exfalso; omega, fun _ => ⟨by omega, Or.inr rfl, by omega, by omega, by rw [upd_at]; exact Or.inr rfl, ?_⟩⟩, fun z => by exfalso; omega⟩, fun z => by exfalso; omega⟩
    rw [upd_at]
    exact ⟨fun _ => k _ (Fr.su (by decide) (Fr.su (by decide) Fr.rf)) (fun b => BR.s3 (Or.inr rfl) (BR.s3 (Or.inr rfl) b)) (by rw [chg_11 e]; exact NT_wed ⟨rp.1, by omega⟩ ⟨rq.1, by omega⟩ ⟨n1, n2⟩), fun z => by exfalso; omega⟩
  · refine ⟨fun _ => ⟨fun z => by exfalso; omega, fun _ => ⟨fun z => by exfalso; omega, fun _ => ⟨fun _ => ⟨by omega, Or.inl rfl, by omega, by omega, by rw [upd_at]; exact Or.inl rfl, ?_⟩, fun z => by exfalso; omega⟩⟩⟩, fun z => by exfalso; omega⟩
    rw [upd_at]
    exact ⟨fun _ => k _ (Fr.su (by decide) (Fr.su (by decide) Fr.rf)) (fun b => BR.s3 (Or.inl rfl) (BR.s3 (Or.inl rfl) b)) (by rw [chg_12 e]; exact NT_wed ⟨rp.1, by omega⟩ ⟨rq.1, by omega⟩ ⟨n1, n2⟩), fun z => by exfalso; omega⟩
  · exact ⟨fun _ => ⟨fun z => by exfalso; omega, fun _ => ⟨fun _ => ⟨fun z => by exfalso; omega, fun _ => ⟨by omega, k _ (Fr.su (by decide) Fr.rf) (fun b => BR.s4 (Or.inr rfl) b) (by rw [chg_13 e]; exact NT_adopt ⟨rp.1, by omega⟩ ⟨rq.1, by omega⟩ ⟨n1, n2⟩)⟩⟩, fun z => by exfalso; omega⟩⟩, fun z => by exfalso; omega⟩
theorem MKx_fr {S S' : GS} {t m : Nat} {w : MkT} {I L A N : List Nat} (h : MKx S t m w) (f : Fr I L A N S S') (h2 : ∀ j ∈ [5, 12, 13, 14, 15, 16], j ∉ A) : MKx S' t m w := by
  have e : ∀ j, j ∈ [5, 12, 13, 14, 15, 16] → ar S' j = ar S j := fun j hj => f.2.2.1 j (h2 j hj)
  refine MKx_cg h (by rw [e 12 (by decide)]) (by rw [e 13 (by decide)]) (by rw [e 14 (by decide)]) (by rw [e 15 (by decide)]) (by rw [e 16 (by decide)]) (fun i _ => ?_)
  unfold sx
  rw [e 5 (by decide)]
set_option maxHeartbeats 2000000 in
theorem q_makesE (S : GS) (x : Int32) (post : Int32 → GS → Prop) (g : SV) (c : Int32) (a : AcT) (hx : 0 ≤ x.toInt ∧ x.toInt ≤ 11) (hM : MAx S x.toInt.toNat a) (hGd : ∀ w ∈ a.2.2.2.2, GdM w ∧ PM c w) (hR : RS S g) (hG : GV g) (hB0 : BR S) (hg0 : ∀ i, i = 0 ∨ i = 4 ∨ i = 8 → g (10 + i) = 0) (ea : fi S 18 = cdA c) (eb : fi S 19 = cdB c) (et : fi S 20 = cdT c) (hne : (cdA c).toInt ≠ (cdB c).toInt) (k0 : ∀ S', Fr [] [] [22, 24, 25] [] S S' → ¬ inB (mkA g c a.2.2.2.2 g) → post 0 S') (k1 : ∀ S', Fr [0] [] [0, 1, 2, 3, 4, 22, 24, 25] [] S S' → inB (mkA g c a.2.2.2.2 g) → RS S' (mkA g c a.2.2.2.2 g) → BR S' → post 1 S') : w_X12_makes S x post := by
  obtain ⟨⟨-, -, -, hl6⟩, -, hm1, hm2⟩ := hM
  obtain ⟨rA, rB, rT⟩ := cd_r (c := c)
  have d9 : ∀ q, q < 9 → ar S 1 q = g (10 + q) := by
    intro q hq
    by_cases e : q = 0 ∨ q = 4 ∨ q = 8
    · exact (hB0.2.1 q e).trans (hg0 q e).symm
    · have h := (hR.2.1 (q / 3) (q % 3) (by omega) (by omega) (by omega)).1
      have e2 : 3 * (q / 3) + q % 3 = q := by omega
      rw [e2] at h
      exact h
  have x6 : (x / 6).toInt = x.toInt / 6 := by
    simp (disch := omega) only [Int32.toInt_div, li_6, tdv, bm]
  have e6 : (x.toInt / 6).toNat = x.toInt.toNat / 6 := by omega
  have hG0 : ∀ i, i = 0 ∨ i = 4 ∨ i = 8 → mkA g c a.2.2.2.2 g (10 + i) = 0 := fun i hi => (mkA_diag hGd hi).trans (hg0 i hi)
  generalize hGf : mkA g c a.2.2.2.2 g = G at k0 k1 hG0
  -- the ties
  have t405 : ∀ T, Fr [0] [] [0, 1, 2, 3, 4, 22, 24, 25] [] S T → inB G → NT T g → (∀ p, p < 3 → ar T 0 p = G p) → (∀ q, q < 9 → ar T 1 q = G (10 + q)) → fi T 0 = G 50 → BR T → w_X12_makes_B405 post T x := by
    intro T hT hB hN0 h0 h1 h50 hbT
    unfold w_X12_makes_B405
    refine lr3 (fun (U : GS) (x' j : Int32) => x' = x ∧ Fr [] [] [2, 3, 4] [] T U ∧ BR U ∧ ∃ (n : Nat) (rest : List MkT) (gg : SV), j = nI n ∧ n + rest.length = a.2.2.2.2.length ∧ (∀ (u : Nat) (w : MkT), rest[u]? = some w → a.2.2.2.2[n + u]? = some w) ∧ NT U gg ∧ mkA g c rest gg = G) (fun _ _ j => (10 - j.toInt).toNat) ?_ _ _ _ ⟨rfl, Fr.rf, hbT, 0, a.2.2.2.2, g, rfl, Nat.zero_add _, fun t w h => (by rw [Nat.zero_add]; exact h), hN0, hGf⟩
    rintro kk U x' j ⟨rfl, hU, hbU, n, rest, gg, rfl, hlen, hrest, hN, hgg⟩ hk
    unfold w_X12_makes_F408 w_X12_makes_B436
    have hU2 : Fr [0] [] [0, 1, 2, 3, 4, 22, 24, 25] [] S U := hT.tr (hU.wk (by decide))
    have e9 : ar U 9 = ar S 9 := hU2.2.2.1 9 (by decide)
    have xn : (nI n).toInt = (n : Int) := nI_toInt (by omega)
    rw [e9, tnc, hm1, xn]
    refine ⟨by omega, fun hge => ?_, fun hlt => ?_⟩
    · rcases rest with _ | ⟨w, rest⟩
      · have eg : gg = G := hgg
        subst eg
        have u0 : ar U 0 = ar T 0 := hU.2.2.1 0 (by decide)
        have u1 : ar U 1 = ar T 1 := hU.2.2.1 1 (by decide)
        have u50 : fi U 0 = fi T 0 := hU.1 0 (by decide)
        refine k1 U hU2 hB ⟨fun p hp => by rw [u0]; exact h0 p hp, fun p q hp hq hpq => ⟨by rw [u1]; exact h1 _ (by omega), hN.2 p q hp hq hpq⟩, hN.1, u50.trans h50⟩ hbU
      · simp only [List.length_cons] at hlen
        exfalso; omega
    rcases rest with _ | ⟨w, rest⟩
    · simp only [List.length_nil] at hlen
      exfalso; omega
    simp only [List.length_cons] at hlen
    have hw0 : a.2.2.2.2[n]? = some w := hrest 0 w rfl
    have hwm : w ∈ a.2.2.2.2 := List.mem_of_getElem? hw0
    have em : ((6 : Int32) * x' + nI n).toInt.toNat = 6 * x'.toInt.toNat + n := by
      rw [ma_6 (by omega) (by omega), xn]; omega
    have hXw : MKx U (x'.toInt.toNat / 6) ((6 : Int32) * x' + nI n).toInt.toNat w := by
      rw [em]
      exact MKx_fr (hm2 n w hw0).1 hU2 (by decide)
    refine q_tiesE U _ _ c w gg (rkV g (cdA c) (cdB c) (cdT c) w.2.2) _ (by rw [ma_6 (by omega) (by omega), xn]; omega) hXw (hGd w hwm).1 (hGd w hwm).2 ((hU2.1 18 (by decide)).trans ea) ((hU2.1 19 (by decide)).trans eb) ((hU2.1 20 (by decide)).trans et) hN (fun V fV bV nV => ?_)
    refine hk _ _ _ ⟨rfl, hU.tr fV, bV hbU, n + 1, rest, _, nI_inc (by omega), by omega, fun t w' h => ?_, nV, hgg⟩ ?_
    · have h5 := hrest (t + 1) w' h
      have e5 : n + 1 + t = n + (t + 1) := by omega
      rw [e5]; exact h5
    · rw [nI_inc (by omega), nI_toInt (by omega), xn]
      omega
  -- debts go back
  have t375 : ∀ T, Fr [0] [] [0, 1, 2, 3, 4, 22, 24, 25] [] S T → inB G → NT T g → (∀ p, p < 3 → ar T 0 p = G p) → (∀ q, q < 9 → ar T 25 q = G (10 + q)) → fi T 0 = G 50 → BR T → w_X12_makes_B375 post T x := by
    intro T hT hB hN0 h0 h25 h50 hbT
    unfold w_X12_makes_B375
    refine lr3 (fun (U : GS) (x' j : Int32) => x' = x ∧ Fr [] [] [1] [] T U ∧ BR U ∧ ∃ n : Nat, n ≤ 9 ∧ j.toInt = (n : Int) ∧ ∀ q, q < n → ar U 1 q = G (10 + q)) (fun _ _ j => (9 - j.toInt).toNat) ?_ _ _ _ ⟨rfl, Fr.rf, hbT, 0, by omega, li_0, fun q hq => by exfalso; omega⟩
    rintro kk U x' j ⟨rfl, hU, hbU, n, hn, hj, hq⟩ hk
    unfold w_X12_makes_F378
    have u25 : ar U 25 = ar T 25 := hU.2.2.1 25 (by decide)
    have jn : j.toNatClampNeg = n := by rw [tnc]; omega
    refine ⟨fun hge => ?_, fun hlt => ⟨by omega, by omega, ?_⟩⟩
    · obtain rfl : n = 9 := by omega
      have u0 : ar U 0 = ar T 0 := hU.2.2.1 0 (by decide)
      have u2 : ar U 2 = ar T 2 := hU.2.2.1 2 (by decide)
      have u3 : ar U 3 = ar T 3 := hU.2.2.1 3 (by decide)
      have u4 : ar U 4 = ar T 4 := hU.2.2.1 4 (by decide)
      refine t405 U (hT.tr (hU.wk (by decide))) hB ⟨fun t ht => by rw [u2]; exact hN0.1 t ht, fun p q hp hq' hpq => by rw [u3, u4]; exact hN0.2 p q hp hq' hpq⟩ (fun p hp => by rw [u0]; exact h0 p hp) hq ((hU.1 0 (by decide)).trans h50) hbU
    · have ej := inc1 (x := j) (by omega)
      rw [jn, u25, h25 n (by omega)]
      refine hk _ _ _ ⟨rfl, Fr.su (by decide) hU, BR.s1 (fun z => hG0 n z) hbU, n + 1, by omega, by rw [ej]; omega, fun q hq2 => ?_⟩ (by rw [ej]; omega)
      have a1 : ar (su U 1 n (G (10 + n))) 1 = upd (ar U 1) n (G (10 + n)) := su_at _ _ _ _
      rw [a1]
      by_cases e : q = n
      · rw [e, upd_at]
      · rw [upd_ne e]; exact hq q (by omega)
  -- the day and coins go back
  have t334 : ∀ (T : GS) (d y : Int32), Fr [] [] [22, 24, 25] [] S T → NB T G d → (y.toInt = 0 → ¬ inB G) → (y.toInt ≠ 0 → inB G) → w_X12_makes_B334 post T x d y := by
    intro T d y hT hNB hy0 hy1
    unfold w_X12_makes_B334
    refine ⟨fun hy => ?_, fun hy => k0 T hT (hy0 hy)⟩
    have f0 : fi (si T 0 d) 0 = G 50 := (si_at _ _ _).trans hNB.2.2
    refine lr3 (fun (U : GS) (x' j : Int32) => x' = x ∧ Fr [] [] [0] [] (si T 0 d) U ∧ BR U ∧ ∃ n : Nat, n ≤ 3 ∧ j.toInt = (n : Int) ∧ ∀ p, p < n → ar U 0 p = G p) (fun _ _ j => (3 - j.toInt).toNat) ?_ _ _ _ ⟨rfl, Fr.rf, BR.si (BR.fr hT (by decide) (by decide) hB0), 0, by omega, li_0, fun q hq => by exfalso; omega⟩
    rintro kk U x' j ⟨rfl, hU, hbU, n, hn, hj, hp⟩ hk
    unfold w_X12_makes_F349
    have u24 : ar U 24 = ar T 24 := hU.2.2.1 24 (by decide)
    have jn : j.toNatClampNeg = n := by rw [tnc]; omega
    refine ⟨fun hge => ?_, fun hlt => ⟨by omega, by omega, ?_⟩⟩
    · obtain rfl : n = 3 := by omega
      have hF : Fr [0] [] [0, 22, 24, 25] [] S U := ((Fr.si (k := 0) (by decide) (hT.wk (by decide)) : Fr [0] [] [0, 22, 24, 25] [] S (si T 0 d))).tr (hU.wk (by decide))
      have u25 : ar U 25 = ar T 25 := hU.2.2.1 25 (by decide)
      have u2 : ar U 2 = ar S 2 := hF.2.2.1 2 (by decide)
      have u3 : ar U 3 = ar S 3 := hF.2.2.1 3 (by decide)
      have u4 : ar U 4 = ar S 4 := hF.2.2.1 4 (by decide)
      refine t375 U (hF.wk (by decide)) (hy1 hy) ⟨fun t ht => by rw [u2]; exact hR.2.2.1 t ht, fun p q hp' hq' hpq => by rw [u3, u4]; exact (hR.2.1 p q hp' hq' hpq).2⟩ hp (fun q hq => by rw [u25]; exact hNB.2.1 q hq) ((hU.1 0 (by decide)).trans f0) hbU
    · have ej := inc1 (x := j) (by omega)
      rw [jn, u24, hNB.1 n (by omega)]
      refine hk _ _ _ ⟨rfl, Fr.su (by decide) hU, BR.sn (by decide) hbU, n + 1, by omega, by rw [ej]; omega, fun p hp2 => ?_⟩ (by rw [ej]; omega)
      have a1 : ar (su U 0 n (G n)) 0 = upd (ar U 0) n (G n) := su_at _ _ _ _
      rw [a1]
      by_cases e : p = n
      · rw [e, upd_at]
      · rw [upd_ne e]; exact hp p (by omega)
  -- debts in their bounds
  have t290 : ∀ (T : GS) (d y : Int32), Fr [] [] [22, 24, 25] [] S T → NB T G d → ((y.toInt = 0 ∧ ¬ inB G) ∨ (y.toInt ≠ 0 ∧ in15 (G 50) ∧ ∀ p, p < 3 → in15 (G p))) → w_X12_makes_B290 post T x d y := by
    intro T d y hT hNB hy
    unfold w_X12_makes_B290
    refine lr5 (fun (U : GS) (x' d' y' j : Int32) => U = T ∧ x' = x ∧ d' = d ∧ ∃ n : Nat, n ≤ 9 ∧ j.toInt = (n : Int) ∧ ((y'.toInt = 0 ∧ ¬ inB G) ∨ (y'.toInt ≠ 0 ∧ in15 (G 50) ∧ (∀ p, p < 3 → in15 (G p)) ∧ ∀ q, q < n → in7 (G (10 + q))))) (fun _ _ _ _ j => (9 - j.toInt).toNat) ?_ _ _ _ _ _ ⟨rfl, rfl, rfl, 0, by omega, li_0, hy.elim Or.inl (fun h => Or.inr ⟨h.1, h.2.1, h.2.2, fun q hq => by exfalso; omega⟩)⟩
    rintro kk U x' d' y' j ⟨rfl, rfl, rfl, n, hn, hj, hI⟩ hk
    unfold w_X12_makes_F293 w_X12_makes_B325 w_X12_makes_B326
    have jn : j.toNatClampNeg = n := by rw [tnc]; omega
    have ej := fun (h : j.toInt < 9) => inc1 (x := j) (by omega)
    refine ⟨fun hge => ?_, fun hlt => ⟨fun h0 => ?_, fun h1 => ⟨by omega, ?_⟩⟩⟩
    · obtain rfl : n = 9 := by omega
      refine t334 U d' y' hT hNB (fun h => ?_) (fun h => ?_)
      · rcases hI with q | q
        · exact q.2
        · exact absurd h q.1
      · rcases hI with q | q
        · exact absurd q.1 h
        · exact ⟨q.2.2.1, q.2.2.2, q.2.1⟩
    · refine hk _ _ _ _ _ ⟨rfl, rfl, rfl, n + 1, by omega, by rw [ej hlt]; omega, Or.inl ⟨li_0, ?_⟩⟩ (by rw [ej hlt]; omega)
      rcases hI with q | q
      · exact q.2
      · exact absurd h0 q.1
    · have hI2 := hI.resolve_left (fun q => h1 q.1)
      rw [jn, hNB.2.1 n (by omega)]
      refine q_isIn _ _ _ _ _ (fun r hr hb => ?_)
      have e7 : (7 : Int32).toInt = 7 := by decide
      rw [li_0, e7] at hb
      refine ⟨fun z => hk _ _ _ _ _ ⟨rfl, rfl, rfl, n + 1, by omega, by rw [ej hlt]; omega, Or.inl ⟨li_0, fun q => ?_⟩⟩ (by rw [ej hlt]; omega), fun z => hk _ _ _ _ _ ⟨rfl, rfl, rfl, n + 1, by omega, by rw [ej hlt]; omega, Or.inr ⟨by decide, hI2.2.1, hI2.2.2.1, fun q hq => ?_⟩⟩ (by rw [ej hlt]; omega)⟩
      · have := q.2.1 n (by omega)
        exact (hb.resolve_right (fun w => by omega)).2 this
      · by_cases e : q = n
        · rw [e]; exact (hb.resolve_left (fun w => z w.1)).2
        · exact hI2.2.2.2 q (by omega)
  -- the day and coins in their bounds
  have t238 : ∀ (T : GS) (d : Int32), Fr [] [] [22, 24, 25] [] S T → NB T G d → w_X12_makes_B238 post T x d := by
    intro T d hT hNB
    unfold w_X12_makes_B238
    have hd : d = G 50 := hNB.2.2
    refine q_isIn _ _ _ _ _ (fun y hy hyb => ?_)
    have e15 : (15 : Int32).toInt = 15 := by decide
    rw [li_0, e15, hd] at hyb
    have hy0 : (y.toInt = 0 ∧ ¬ inB G) ∨ (y.toInt ≠ 0 ∧ in15 (G 50) ∧ ∀ p, p < 0 → in15 (G p)) := by
      rcases hyb with ⟨q1, q2⟩ | ⟨q1, q2⟩
      · exact Or.inl ⟨q1, fun q => q2 q.2.2⟩
      · exact Or.inr ⟨by omega, q2, fun p hp => by exfalso; omega⟩
    refine lr5 (fun (U : GS) (x' d' y' j : Int32) => U = T ∧ x' = x ∧ d' = d ∧ ∃ n : Nat, n ≤ 3 ∧ j.toInt = (n : Int) ∧ ((y'.toInt = 0 ∧ ¬ inB G) ∨ (y'.toInt ≠ 0 ∧ in15 (G 50) ∧ ∀ p, p < n → in15 (G p)))) (fun _ _ _ _ j => (3 - j.toInt).toNat) ?_ _ _ _ _ _ ⟨rfl, rfl, rfl, 0, by omega, li_0, hy0⟩
    rintro kk U x' d' y' j ⟨rfl, rfl, rfl, n, hn, hj, hI⟩ hk
    unfold w_X12_makes_F250 w_X12_makes_B281 w_X12_makes_B282
    have jn : j.toNatClampNeg = n := by rw [tnc]; omega
    have ej := fun (h : j.toInt < 3) => inc1 (x := j) (by omega)
    refine ⟨fun hge => ?_, fun hlt => ⟨fun h0 => ?_, fun h1 => ⟨by omega, ?_⟩⟩⟩
    · obtain rfl : n = 3 := by omega
      exact t290 U d' y' hT hNB hI
    · refine hk _ _ _ _ _ ⟨rfl, rfl, rfl, n + 1, by omega, by rw [ej hlt]; omega, Or.inl ⟨li_0, ?_⟩⟩ (by rw [ej hlt]; omega)
      rcases hI with q | q
      · exact q.2
      · exact absurd h0 q.1
    · have hI2 := hI.resolve_left (fun q => h1 q.1)
      rw [jn, hNB.1 n (by omega)]
      refine q_isIn _ _ _ _ _ (fun r hr hb => ?_)
      rw [li_0, e15] at hb
      refine ⟨fun z => hk _ _ _ _ _ ⟨rfl, rfl, rfl, n + 1, by omega, by rw [ej hlt]; omega, Or.inl ⟨li_0, fun q => ?_⟩⟩ (by rw [ej hlt]; omega), fun z => hk _ _ _ _ _ ⟨rfl, rfl, rfl, n + 1, by omega, by rw [ej hlt]; omega, Or.inr ⟨by decide, hI2.2.1, fun p hp => ?_⟩⟩ (by rw [ej hlt]; omega)⟩
      · have := q.1 n (by omega)
        exact (hb.resolve_right (fun w => by omega)).2 this
      · by_cases e : p = n
        · rw [e]; exact (hb.resolve_left (fun w => z w.1)).2
        · exact hI2.2.2 p (by omega)
  -- the amounts
  have t56 : ∀ T, Fr [] [] [22, 24, 25] [] S T → NB T g (fi S 0) → w_X12_makes_B56 post T x (x / 6) := by
    intro T hT hNB
    unfold w_X12_makes_B56
    have t0 : fi T 0 = fi S 0 := hT.1 0 (by decide)
    rw [t0]
    refine lr5 (fun (U : GS) (x' x6' d j : Int32) => x' = x ∧ x6' = x / 6 ∧ Fr [] [] [22, 24, 25] [] S U ∧ ∃ (n : Nat) (rest : List MkT) (gg : SV), j = nI n ∧ n + rest.length = a.2.2.2.2.length ∧ (∀ (u : Nat) (w : MkT), rest[u]? = some w → a.2.2.2.2[n + u]? = some w) ∧ NB U gg d ∧ mkA g c rest gg = G) (fun _ _ _ _ j => (10 - j.toInt).toNat) ?_ _ _ _ _ _ ⟨rfl, rfl, hT, 0, a.2.2.2.2, g, rfl, Nat.zero_add _, fun t w h => (by rw [Nat.zero_add]; exact h), hNB, hGf⟩
    rintro kk U x' x6' d j ⟨rfl, rfl, hU, n, rest, gg, rfl, hlen, hrest, hN, hgg⟩ hk
    unfold w_X12_makes_F64 w_X12_makes_B232
    have xn : (nI n).toInt = (n : Int) := nI_toInt (by omega)
    have u9 : ar U 9 = ar S 9 := hU.2.2.1 9 (by decide)
    have u12 : ar U 12 = ar S 12 := hU.2.2.1 12 (by decide)
    have u15 : ar U 15 = ar S 15 := hU.2.2.1 15 (by decide)
    have u16 : ar U 16 = ar S 16 := hU.2.2.1 16 (by decide)
    rw [u9, u12, u15, u16, tnc, hm1, xn]
    refine ⟨by omega, fun hge => ?_, fun hlt => ?_⟩
    · rcases rest with _ | ⟨w, rest⟩
      · have eg : gg = G := hgg
        rw [eg] at hN
        exact t238 U d hU hN
      · simp only [List.length_cons] at hlen
        exfalso; omega
    rcases rest with _ | ⟨w, rest⟩
    · simp only [List.length_nil] at hlen
      exfalso; omega
    simp only [List.length_cons] at hlen
    have hw0 : a.2.2.2.2[n]? = some w := hrest 0 w rfl
    have hwm : w ∈ a.2.2.2.2 := List.mem_of_getElem? hw0
    obtain ⟨hXw, -⟩ := hm2 n w hw0
    obtain ⟨hGw, hPw⟩ := hGd w hwm
    have hk7 := (GdM_t hGw).2
    obtain ⟨y1, y2, y3, y4⟩ := MKx_v hXw hk7
    obtain ⟨p7, p8, p9⟩ := hPw
    have rp := psI_r (c := c) (f := w.2.1)
    have rq := psI_r (c := c) (f := (1 : Int32) - w.2.1)
    have em : ((6 : Int32) * x' + nI n).toNatClampNeg = 6 * x'.toInt.toNat + n := by
      rw [tnc, ma_6 (by omega) (by omega), xn]; omega
    rw [em, ma_6 (by omega) (by omega), xn]
    have go : ∀ (V : GS) (d2 : Int32), Fr [] [] [22, 24, 25] [] S V → NB V (mk1 g c w gg) d2 → kk V x' (x' / 6) d2 (nI n + 1) := by
      intro V d2 hV hNV
      refine hk _ _ _ _ _ ⟨rfl, rfl, hV, n + 1, rest, _, nI_inc (by omega), by omega, fun t w' h => ?_, hNV, hgg⟩ ?_
      · have h5 := hrest (t + 1) w' h
        have e5 : n + 1 + t = n + (t + 1) := by omega
        rw [e5]; exact h5
      · rw [nI_inc (by omega), nI_toInt (by omega), xn]
        omega
    refine ⟨by omega, by omega, by omega, fun hdif => ⟨by omega, by omega, ?_⟩, fun heq => ?_⟩
    · -- an amount
      rcases hXw.1 with ⟨g7, ng, E, lo, z12, zops, zl, z15, z16, zR, zG⟩ | ⟨g9, z12, z15, z16, zops⟩
      · have hTE : TyA 30 E [] [false] := zG [] 30 (by decide)
        have hRU : RS U g := RS_cg hR (hU.1 0 (by decide)) (fun j hj => hU.2.2.1 j (by revert hj; revert j; decide))
        have hv : (if ng = true then - rkV g (cdA c) (cdB c) (cdT c) E else rkV g (cdA c) (cdB c) (cdT c) E) = rkV g (cdA c) (cdB c) (cdT c) w.2.2 := by
          rw [zops]
          cases ng with
          | false => rfl
          | true => exact (rkV_ng hTE).symm
        have hRT : RTx U (x' / 6).toInt.toNat (ar S 15 (6 * x'.toInt.toNat + n)).toInt.toNat E := by
          rw [x6, e6]
          have el : (ar S 15 (6 * x'.toInt.toNat + n)).toInt.toNat = lo := by omega
          rw [el]
          refine RTx_cg zR (fun i _ => ?_)
          unfold sx
          rw [show ar U 5 = ar S 5 from hU.2.2.1 5 (by decide)]
        refine q_comesToE U _ _ _ _ E g (cdA c) (cdB c) (cdT c) false (by rw [x6]; omega) (by omega) ⟨by omega, by have := (hm2 n w hw0).2; omega⟩ hRT hRU hG ((hU.1 18 (by decide)).trans ea) ((hU.1 19 (by decide)).trans eb) ((hU.1 20 (by decide)).trans et) rA rB rT hne hTE (fun V hV => ⟨by omega, ?_⟩)
        have hSV : Fr [] [] [22, 24, 25] [] S V := hU.tr (hV.wk (by decide))
        have v12 : ar V 12 = ar S 12 := hSV.2.2.1 12 (by decide)
        have v24 : ar V 24 = ar U 24 := hV.2.2.1 24 (by decide)
        have v25 : ar V 25 = ar U 25 := hV.2.2.1 25 (by decide)
        have v13 : ar V 13 = ar S 13 := hSV.2.2.1 13 (by decide)
        have v14 : ar V 14 = ar S 14 := hSV.2.2.1 14 (by decide)
        have va : fi V 18 = cdA c := (hSV.1 18 (by decide)).trans ea
        have vb : fi V 19 = cdB c := (hSV.1 19 (by decide)).trans eb
        have fin : ∀ m, m = rkV g (cdA c) (cdB c) (cdT c) w.2.2 → w_X12_makes_B154 post kk (w_X12_makes_B238 post) V x' (x' / 6) d (nI n) ((6 : Int32) * x' + nI n) (ar S 12 (6 * x'.toInt.toNat + n) - ar S 12 (6 * x'.toInt.toNat + n) / 100 * 100) m := by
          intro m hm
          unfold w_X12_makes_B154 w_X12_makes_B232
          rw [kd100 y1, y2, em, ma_6 (by omega) (by omega), xn, v13]
          refine ⟨fun h0 => ⟨fun h1 => go V _ hSV ?_, fun h1 => ⟨by omega, q_stoodE V _ c _ va vb ⟨by omega, ?_⟩⟩⟩, fun h0 => ⟨by omega, q_stoodE V _ c _ va vb ?_⟩⟩
          · have e14 : w.1.toInt = 14 := by omega
            unfold mk1 NB
            rw [chg_14 e14, ← hm, v24, v25]
            refine ⟨fun p hp => by rw [upd_ne (by omega)]; exact hN.1 p hp, fun q hq => by rw [upd_ne (by omega)]; exact hN.2.1 q hq, by rw [upd_at, hN.2.2]⟩
          · have e8 : w.1.toInt = 8 := by omega
            have h8 := p8 (by omega)
            rw [v14]
            refine q_stoodE V _ c _ va vb ?_
            rw [y3 (by omega) c, y4 (by omega) c]
            have q1 : (((3 : Int32) * psI c w.2.1) + psI c ((1 : Int32) - w.2.1)).toInt = ((prI (psI c w.2.1) (psI c ((1 : Int32) - w.2.1)) : Nat) : Int) := by
              rw [(p3q rp rq).1]; unfold prI; omega
            have q2 : (((3 : Int32) * psI c w.2.1) + psI c ((1 : Int32) - w.2.1)).toNatClampNeg = prI (psI c w.2.1) (psI c ((1 : Int32) - w.2.1)) := by rw [tnc, q1]; exact Int.toNat_natCast _
            have q3 : prI (psI c w.2.1) (psI c ((1 : Int32) - w.2.1)) < 9 := by unfold prI; omega
            rw [q1, q2]
            refine ⟨by omega, by omega, go _ _ (Fr.su (by decide) hSV) ?_⟩
            unfold mk1
            rw [chg_8 e8, ← hm]
            have a25 : ar (su V 25 (prI (psI c w.2.1) (psI c ((1 : Int32) - w.2.1))) (ar V 25 (prI (psI c w.2.1) (psI c ((1 : Int32) - w.2.1))) + m)) 25 = upd (ar V 25) (prI (psI c w.2.1) (psI c ((1 : Int32) - w.2.1))) (ar V 25 (prI (psI c w.2.1) (psI c ((1 : Int32) - w.2.1))) + m) := su_at _ _ _ _
            have a24 : ar (su V 25 (prI (psI c w.2.1) (psI c ((1 : Int32) - w.2.1))) (ar V 25 (prI (psI c w.2.1) (psI c ((1 : Int32) - w.2.1))) + m)) 24 = ar V 24 := su_ne (by decide)
            unfold NB
            rw [a24, a25, v24, v25]
            generalize prI (psI c w.2.1) (psI c ((1 : Int32) - w.2.1)) = i at q3 ⊢
            refine ⟨fun p hp => by rw [upd_ne (by omega)]; exact hN.1 p hp, fun q hq => ?_, by rw [upd_ne (by omega)]; exact hN.2.2⟩
            by_cases e : q = i
            · rw [e, upd_at, upd_at, hN.2.1 i q3]
            · rw [upd_ne e, upd_ne (by omega)]; exact hN.2.1 q hq
          · have e7 : w.1.toInt = 7 := by omega
            have h7 := p7 e7
            rw [y3 (by omega) c]
            have pn : (psI c w.2.1).toNatClampNeg = (psI c w.2.1).toInt.toNat := tnc _
            rw [pn]
            refine ⟨by omega, by omega, go _ _ (Fr.su (by decide) hSV) ?_⟩
            unfold mk1
            rw [chg_7 e7, ← hm]
            have a24 : ar (su V 24 (psI c w.2.1).toInt.toNat (ar V 24 (psI c w.2.1).toInt.toNat + m)) 24 = upd (ar V 24) (psI c w.2.1).toInt.toNat (ar V 24 (psI c w.2.1).toInt.toNat + m) := su_at _ _ _ _
            have a25 : ar (su V 24 (psI c w.2.1).toInt.toNat (ar V 24 (psI c w.2.1).toInt.toNat + m)) 25 = ar V 25 := su_ne (by decide)
            unfold NB
            rw [a24, a25, v24, v25]
            refine ⟨fun p hp => ?_, fun q hq => by rw [upd_ne (by omega)]; exact hN.2.1 q hq, by rw [upd_ne (by omega)]; exact hN.2.2⟩
            by_cases e : p = (psI c w.2.1).toInt.toNat
            · rw [e, upd_at, upd_at, hN.1 _ (by omega)]
            · rw [upd_ne e, upd_ne e]; exact hN.1 p hp
        refine ⟨fun h99 => fin _ ?_, fun h99 => fin _ ?_⟩
        · rw [v12] at h99
          rw [← hv]
          cases ng with
          | false => rfl
          | true =>
            exfalso
            have z : (ar S 12 (6 * x'.toInt.toNat + n)).toInt = w.1.toInt - 7 + 100 := z12
            omega
        · rw [v12] at h99
          rw [← hv]
          cases ng with
          | true => rfl
          | false =>
            exfalso
            have z : (ar S 12 (6 * x'.toInt.toNat + n)).toInt = w.1.toInt - 7 + 0 := z12
            omega
      · exfalso
        apply hdif
        omega
    · -- none
      rcases hXw.1 with ⟨g7, ng, E, lo, z12, zops, zl, z15, z16, zR, zG⟩ | ⟨g9, z12, z15, z16, zops⟩
      · exfalso; omega
      · refine go U d hU ?_
        unfold mk1 NB
        rcases g9 with e | e | e | e
        · rw [chg_9 e]
          exact ⟨fun p hp => by rw [upd_ne (by omega)]; exact hN.1 p hp, fun q hq => by rw [upd_ne (by omega)]; exact hN.2.1 q hq, by
            have h9 := p9 e
            have rt := (cd_r (c := c)).2.2
            rw [upd_ne (by omega)]; exact hN.2.2⟩
        · have h8 := p8 (by omega)
          have b1 : prI (psI c w.2.1) (psI c ((1 : Int32) - w.2.1)) < 9 := by unfold prI; omega
          have b2 : prI (psI c ((1 : Int32) - w.2.1)) (psI c w.2.1) < 9 := by unfold prI; omega
          rw [chg_11 e]
          exact ⟨fun p hp => by rw [upd_ne (by omega), upd_ne (by omega)]; exact hN.1 p hp, fun q hq => by rw [upd_ne (by omega), upd_ne (by omega)]; exact hN.2.1 q hq, by rw [upd_ne (by omega), upd_ne (by omega)]; exact hN.2.2⟩
        · have h8 := p8 (by omega)
          have b1 : prI (psI c w.2.1) (psI c ((1 : Int32) - w.2.1)) < 9 := by unfold prI; omega
          have b2 : prI (psI c ((1 : Int32) - w.2.1)) (psI c w.2.1) < 9 := by unfold prI; omega
          rw [chg_12 e]
          exact ⟨fun p hp => by rw [upd_ne (by omega), upd_ne (by omega)]; exact hN.1 p hp, fun q hq => by rw [upd_ne (by omega), upd_ne (by omega)]; exact hN.2.1 q hq, by rw [upd_ne (by omega), upd_ne (by omega)]; exact hN.2.2⟩
        · have h8 := p8 (by omega)
          have b1 : prI (psI c w.2.1) (psI c ((1 : Int32) - w.2.1)) < 9 := by unfold prI; omega
          rw [chg_13 e]
          exact ⟨fun p hp => by rw [upd_ne (by omega)]; exact hN.1 p hp, fun q hq => by rw [upd_ne (by omega)]; exact hN.2.1 q hq, by rw [upd_ne (by omega)]; exact hN.2.2⟩
  -- copies
  have t30 : ∀ T, Fr [] [] [22, 24, 25] [] S T → (∀ p, p < 3 → ar T 24 p = g p) → w_X12_makes_B30 post T x (x / 6) := by
    intro T hT h24
    unfold w_X12_makes_B30
    refine lr4 (fun (U : GS) (x' x6' j : Int32) => x' = x ∧ x6' = x / 6 ∧ Fr [] [] [25] [] T U ∧ ∃ n : Nat, n ≤ 9 ∧ j.toInt = (n : Int) ∧ ∀ q, q < n → ar U 25 q = g (10 + q)) (fun _ _ _ j => (9 - j.toInt).toNat) ?_ _ _ _ _ ⟨rfl, rfl, Fr.rf, 0, by omega, li_0, fun q hq => by exfalso; omega⟩
    rintro kk U x' x6' j ⟨rfl, rfl, hU, n, hn, hj, hq⟩ hk
    unfold w_X12_makes_F32
    have hSU : Fr [] [] [22, 24, 25] [] S U := hT.tr (hU.wk (by decide))
    have jn : j.toNatClampNeg = n := by rw [tnc]; omega
    refine ⟨fun hge => ?_, fun hlt => ⟨by omega, by omega, ?_⟩⟩
    · obtain rfl : n = 9 := by omega
      have u24 : ar U 24 = ar T 24 := hU.2.2.1 24 (by decide)
      exact t56 U hSU ⟨fun p hp => by rw [u24]; exact h24 p hp, hq, hR.2.2.2⟩
    · have ej := inc1 (x := j) (by omega)
      have u1 : ar U 1 = ar S 1 := hSU.2.2.1 1 (by decide)
      rw [jn, u1, d9 n (by omega)]
      refine hk _ _ _ _ ⟨rfl, rfl, Fr.su (by decide) hU, n + 1, by omega, by rw [ej]; omega, fun q hq2 => ?_⟩ (by rw [ej]; omega)
      have a1 : ar (su U 25 n (g (10 + n))) 25 = upd (ar U 25) n (g (10 + n)) := su_at _ _ _ _
      rw [a1]
      by_cases e : q = n
      · rw [e, upd_at]
      · rw [upd_ne e]; exact hq q (by omega)
  unfold w_X12_makes
  refine lr4 (fun (U : GS) (x' x6' j : Int32) => x' = x ∧ x6' = x / 6 ∧ Fr [] [] [24] [] S U ∧ ∃ n : Nat, n ≤ 3 ∧ j.toInt = (n : Int) ∧ ∀ p, p < n → ar U 24 p = g p) (fun _ _ _ j => (3 - j.toInt).toNat) ?_ _ _ _ _ ⟨rfl, rfl, Fr.rf, 0, by omega, li_0, fun q hq => by exfalso; omega⟩
  rintro kk U x' x6' j ⟨rfl, rfl, hU, n, hn, hj, hp⟩ hk
  unfold w_X12_makes_F7
  have jn : j.toNatClampNeg = n := by rw [tnc]; omega
  refine ⟨fun hge => ?_, fun hlt => ⟨by omega, by omega, ?_⟩⟩
  · obtain rfl : n = 3 := by omega
    exact t30 U (hU.wk (by decide)) hp
  · have ej := inc1 (x := j) (by omega)
    have u0 : ar U 0 = ar S 0 := hU.2.2.1 0 (by decide)
    rw [jn, u0, hR.1 n (by omega)]
    refine hk _ _ _ _ ⟨rfl, rfl, Fr.su (by decide) hU, n + 1, by omega, by rw [ej]; omega, fun p hp2 => ?_⟩ (by rw [ej]; omega)
    have a1 : ar (su U 24 n (g n)) 24 = upd (ar U 24) n (g n) := su_at _ _ _ _
    rw [a1]
    by_cases e : p = n
    · rw [e, upd_at]
    · rw [upd_ne e]; exact hp p (by omega)
