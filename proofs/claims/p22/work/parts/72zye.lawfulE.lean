/-- what makes are of, where ACT and CODE fit -/
theorem PM_of {M : GS} {nv : List OL} {cu : List CuT} {ac : Nat → Option AcT} (hm : MIx M nv cu ac) (hK : KInv M) (hG : GdL nv cu ac) (c laws : Int32) (a : AcT) (hc : 0 ≤ c.toInt ∧ c.toInt ≤ 767) (hO : actO ac c laws = some a) : ∀ w ∈ a.2.2.2.2, PM c w := by
  intro w hw
  obtain ⟨hac, ⟨f1, f2, f3⟩, -⟩ := actO_s hO
  have e64 : (c / 64).toInt = c.toInt / 64 := by
    simp (disch := omega) only [Int32.toInt_div, li_64, tdv, bm]
  obtain ⟨i, hi⟩ := List.mem_iff_getElem?.mp hw
  have hil := gt_lt hi
  rcases hm.2.2 (c / 64).toInt.toNat (by omega) with ⟨h1, -⟩ | ⟨a', h1, h2, hMA⟩
  · rw [hac] at h1; cases h1
  obtain rfl : a = a' := Option.some.inj (hac.symm.trans h1)
  obtain ⟨⟨p1, p2, -, -⟩, -, p5, p6⟩ := hMA
  have hA := hK.2.2.1 (c / 64).toInt.toNat (by omega) h2
  obtain ⟨m1, -, m3, m4, m5⟩ := hA.2.2.2 i (by omega)
  have hX := (p6 i w hi).1
  have hk := (GdM_t ((hG.2.2 _ a hac).2.2 w hw)).2
  obtain ⟨x1, x2, -, -⟩ := MKx_v hX hk
  obtain ⟨-, z2, z3⟩ := hX
  rw [p1] at m3 m4
  rw [p2] at m5
  have o1 : (1 : Int32).toInt = 1 := li_1
  have o2 : (2 : Int32).toInt = 2 := by decide
  have o3 : (3 : Int32).toInt = 3 := by decide
  refine ⟨fun e => ?_, fun e => ?_, fun e => ?_⟩
  · have h := m3 (by omega)
    rcases z2 (by omega) with ⟨q1, -⟩ | ⟨q1, q2⟩
    · omega
    · rw [q1] at h
      rcases h with h | ⟨h, hb⟩
      · rw [psI_0 h]; exact f1
      · rw [psI_1 h]; exact (f2.2 (by omega)).1
  · have h := m4 (by omega)
    obtain ⟨h, hb⟩ := h
    have hB := f2.2 (by omega)
    rcases z2 (by omega) with ⟨q1, -⟩ | ⟨q1, q2⟩
    · omega
    · rw [q1] at h
      rcases h with ⟨h, -⟩ | ⟨h, -⟩
      · have e1 : ((1 : Int32) - w.2.1).toInt = 1 := by rw [i_sub (by rw [o1]; omega) (by rw [o1]; omega), o1]; omega
        rw [psI_0 h, psI_1 e1]
        exact ⟨f1, hB.1, fun z => hB.2 z.symm⟩
      · have e1 : ((1 : Int32) - w.2.1).toInt = 0 := by rw [i_sub (by rw [o1]; omega) (by rw [o1]; omega), o1]; omega
        rw [psI_1 h, psI_0 e1]
        exact ⟨hB.1, f1, hB.2⟩
  · have h := m5 (by omega)
    exact f3.2 (by omega)
/-- the CODES of a row -/
def csO (f : Nat → Int32) (n : Nat) : List Int32 := (List.range n).map f
theorem csO_l {f : Nat → Int32} {n : Nat} : (csO f n).length = n := by simp [csO]
theorem csO_g {f : Nat → Int32} {n t : Nat} {c : Int32} (h : (csO f n)[t]? = some c) : t < n ∧ f t = c := by
  have ht := gt_lt h
  rw [csO_l] at ht
  refine ⟨ht, ?_⟩
  unfold csO at h
  simp [ht] at h
  exact h
theorem r_11_lawfulE (cy : Nat → ClassId) (tE : Nat) (S : KS) (r l s x : Int32) (post : Int32 → KS → Prop) (nv : List OL) (cu : List CuT) (ac : Nat → Option AcT) (g : SV) (cs : List Int32) (hH : HQx cy S nv cu ac) (hG : GdL nv cu ac) (hg : AGR (ar S.1 1) g) (hl : 0 ≤ r.toInt ∧ r.toInt ≤ 5 → fi S.1 (1 + 2 * r.toInt.toNat) = nI cs.length) (hl2 : cs.length ≤ 12) (hcs : 0 ≤ r.toInt ∧ r.toInt ≤ 5 → ∀ (t : Nat) (c : Int32), cs[t]? = some c → ar S.1 (6 + r.toInt.toNat) t = c ∧ (0 ≤ c.toInt ∧ c.toInt ≤ 767)) (hPM : ∀ c a, (0 ≤ c.toInt ∧ c.toInt ≤ 767) → actO ac c l = some a → ∀ w ∈ a.2.2.2.2, PM c w) (k0 : ¬ ((0 ≤ r.toInt ∧ r.toInt ≤ 5) ∧ (1 ≤ l.toInt ∧ l.toInt ≤ 3) ∧ (0 ≤ s.toInt ∧ s.toInt ≤ 31) ∧ (0 ≤ x.toInt ∧ x.toInt ≤ 1)) → post (-1) S) (k1 : ((0 ≤ r.toInt ∧ r.toInt ≤ 5) ∧ (1 ≤ l.toInt ∧ l.toInt ≤ 3) ∧ (0 ≤ s.toInt ∧ s.toInt ≤ 31) ∧ (0 ≤ x.toInt ∧ x.toInt ≤ 1)) → ∀ S', KW2 S S' → (ar S'.1 1 = ar S.1 1 ∧ ar S'.1 5 = ar S.1 5) → (x.toInt = 0 → post (flO cu ac l s cs 0 g).1 S') ∧ (x.toInt ≠ 0 → post (flO cu ac l s cs 0 g).2.1 S')) : w_X11_lawful cy tE S r l s x post := by
  unfold w_X11_lawful w_X11_lawful_B32 w_X11_lawful_B72
  refine r_11_isRow _ _ _ _ _ (fun r1 _ h1 => ⟨fun _ => k0 (by omega), fun _ => r_11_areLaws _ _ _ _ _ (fun r2 _ h2 => ⟨fun _ => k0 (by omega), fun _ => r_11_isWithin _ _ _ _ _ _ (fun r3 _ h3 => ⟨fun _ => ?_, fun _ => r_11_isWithin _ _ _ _ _ _ (fun r4 _ h4 => ⟨fun _ => ⟨by omega, ?_⟩, fun _ => ?_⟩)⟩)⟩)⟩)
  · have e31 : (31 : Int32).toInt = 31 := by decide
    rw [e31] at h3
    exact k0 (by omega)
  · have e31 : (31 : Int32).toInt = 31 := by decide
    rw [e31] at h3
    rw [li_1] at h4
    have rn : r.toNatClampNeg = r.toInt.toNat := tnc r
    rw [rn]
    refine r_2_followE cy tE S r.toInt.toNat l s _ nv cu ac g cs (by omega) hH hG hg (hl (by omega)) hl2 (hcs (by omega)) hPM (fun T hT h15 h22 _ => ?_)
    rw [h22]
    have kk := k1 (by omega) T hT ⟨h15 0 (by decide) (by decide) (by decide), h15 4 (by decide) (by decide) (by decide)⟩
    exact ⟨fun h => kk.2 h, fun h => kk.1 h⟩
  · rw [li_1] at h4
    exact k0 (by omega)
theorem q_lawfulE (S : GS) (r l s x : Int32) (post : Int32 → GS → Prop) (nv : List OL) (cu : List CuT) (ac : Nat → Option AcT) (g : SV) (cs : List Int32) (hm : MIx S nv cu ac) (hG : GdL nv cu ac) (hGV : GV g) (hGW : GW g) (hst : (fl S 0).toInt = pkI g) (hB : BR S) (hg0 : ∀ i, i = 0 ∨ i = 4 ∨ i = 8 → g (10 + i) = 0) (hl : 0 ≤ r.toInt ∧ r.toInt ≤ 5 → ar S 38 r.toInt.toNat = nI cs.length) (hl2 : cs.length ≤ 12) (hcs : 0 ≤ r.toInt ∧ r.toInt ≤ 5 → ∀ (t : Nat) (c : Int32), cs[t]? = some c → ar S 37 (12 * r.toInt.toNat + t) = c ∧ (0 ≤ c.toInt ∧ c.toInt ≤ 767)) (hPM : ∀ c a, (0 ≤ c.toInt ∧ c.toInt ≤ 767) → actO ac c l = some a → ∀ w ∈ a.2.2.2.2, PM c w) (k0 : ¬ ((0 ≤ r.toInt ∧ r.toInt ≤ 5) ∧ (1 ≤ l.toInt ∧ l.toInt ≤ 3) ∧ (0 ≤ s.toInt ∧ s.toInt ≤ 31) ∧ (0 ≤ x.toInt ∧ x.toInt ≤ 1)) → post (-1) S) (k1 : ((0 ≤ r.toInt ∧ r.toInt ≤ 5) ∧ (1 ≤ l.toInt ∧ l.toInt ≤ 3) ∧ (0 ≤ s.toInt ∧ s.toInt ≤ 31) ∧ (0 ≤ x.toInt ∧ x.toInt ≤ 1)) → ∀ S', FW S S' → BR S' → (x.toInt = 0 → post (flO cu ac l s cs 0 g).1 S') ∧ (x.toInt ≠ 0 → post (flO cu ac l s cs 0 g).2.1 S')) : w_X12_lawful S r l s x post := by
  unfold w_X12_lawful w_X12_lawful_B36 w_X12_lawful_B61
  refine q_isRow _ _ _ (fun r1 _ hb1 => ⟨fun _ => k0 (by omega), fun g1 => ?_⟩)
  refine q_isIn _ _ _ _ _ (fun r2 _ hb2 => ?_)
  rw [li_1, li_3] at hb2
  refine ⟨fun _ => k0 (by omega), fun g2 => ?_⟩
  refine q_isIn _ _ _ _ _ (fun r3 _ hb3 => ?_)
  rw [li_0, li_31] at hb3
  refine ⟨fun _ => k0 (by omega), fun g3 => ?_⟩
  refine q_isIn _ _ _ _ _ (fun r4 _ hb4 => ?_)
  rw [li_0, li_1] at hb4
  refine ⟨fun g4 => ?_, fun _ => k0 (by omega)⟩
  refine q_goesE S r l s _ nv cu ac g cs (by omega) hm hG hGV hGW hst hB hg0 (hl (by omega)) hl2 (hcs (by omega)) hPM (fun T hT hBT h24 _ _ _ => ?_)
  rw [h24]
  have kk := k1 (by omega) T (hT.wk (by decide)) hBT
  exact ⟨fun h => kk.2 h, fun h => kk.1 h⟩
/-- what after asks for -/
def hasW (x : Int) : Prop := (0 ≤ x ∧ x ≤ 2) ∨ (40 ≤ x ∧ x ≤ 42) ∨ x = 50 ∨ ((10 ≤ x ∧ x ≤ 38) ∧ x % 10 ≠ 9 ∧ x % 10 / 3 ≠ x % 10 % 3)
theorem r_9_hasE (cy : Nat → ClassId) (tE : Nat) (S : KS) (x : Int32) (post : Int32 → KS → Prop) (k0 : ¬ hasW x.toInt → post 0 S) (k1 : hasW x.toInt → post 1 S) : w_X9_has cy tE S x post := by
  unfold w_X9_has w_X9_has_B23 w_X9_has_B37
  refine r_11_isPerson _ _ _ _ _ (fun r1 _ h1 => ⟨fun _ => k1 (Or.inl (by omega)), fun _ => ?_⟩)
  have sx := x.toInt_lt
  have sy := x.le_toInt
  by_cases hx : -1000 ≤ x.toInt ∧ x.toInt ≤ 100000
  · have e40 : (x - 40).toInt = x.toInt - 40 := by rw [i_sub (by rw [li_40]; omega) (by rw [li_40]; omega), li_40]
    refine r_11_isThing _ _ _ _ _ (fun r2 _ h2 => ?_)
    rw [e40] at h2
    refine ⟨fun _ => k1 (Or.inr (Or.inl (by omega))), fun _ => ⟨fun h50 => ⟨fun h10 => k0 (by unfold hasW; omega), fun h10 => ⟨fun h4 => ?_, fun h4 => k0 (by unfold hasW; omega)⟩⟩, fun h50 => k1 (Or.inr (Or.inr (Or.inl h50)))⟩⟩
    have e10 : (x - x / 10 * 10).toInt = x.toInt % 10 := by
      simp (disch := omega) only [Int32.toInt_sub, Int32.toInt_mul, Int32.toInt_div, li_10, tdv, bm]
      omega
    have d1 : ((x - x / 10 * 10) / 3).toInt = x.toInt % 10 / 3 := by
      have : ((x - x / 10 * 10) / 3).toInt = (x - x / 10 * 10).toInt / 3 := by
        simp (disch := omega) only [Int32.toInt_div, li_3, tdv, bm]
      rw [this, e10]
    have d2 : ((x - x / 10 * 10) - (x - x / 10 * 10) / 3 * 3).toInt = x.toInt % 10 % 3 := by
      have e9 : ((x - x / 10 * 10) / 3 * 3).toInt = x.toInt % 10 / 3 * 3 := by
        simp (disch := omega) only [Int32.toInt_mul, li_3, bm, d1]
      rw [i_sub (by omega) (by omega), e9, e10]
      omega
    refine r_11_arePair _ _ _ _ _ _ (fun r3 hr3 h3 => ⟨hr3, ?_⟩)
    rw [d1, d2] at h3
    rcases h3 with ⟨q1, q2⟩ | ⟨q1, q2⟩
    · obtain rfl : r3 = 0 := i_eq (q1.trans li_0.symm)
      exact k0 (by unfold hasW; omega)
    · obtain rfl : r3 = 1 := i_eq (q1.trans li_1.symm)
      exact k1 (Or.inr (Or.inr (Or.inr (by omega))))
  · have no : ¬ hasW x.toInt := by unfold hasW; omega
    refine r_11_isThing _ _ _ _ _ (fun r2 _ h2 => ⟨fun z => ?_, fun _ => ⟨fun h50 => ⟨fun h10 => k0 no, fun h10 => ⟨fun h4 => by exfalso; omega, fun h4 => k0 no⟩⟩, fun h50 => by exfalso; omega⟩⟩)
    exfalso
    have hh : 0 ≤ (x - 40).toInt ∧ (x - 40).toInt ≤ 2 := by omega
    have e40 : (x - 40).toInt = Int.bmod (x.toInt - 40) (2 ^ 32) := by
      rw [Int32.toInt_sub, li_40]
    rw [e40] at hh
    have hb : Int.bmod (x.toInt - 40) (2 ^ 32) = x.toInt - 40 ∨ Int.bmod (x.toInt - 40) (2 ^ 32) = x.toInt - 40 + 4294967296 := by
      have hp : ((2 ^ 32 : Nat) : Int) = 4294967296 := rfl
      rw [Int.bmod_def, hp]
      split <;> omega
    omega
theorem hasW_51 {x : Int} (h : hasW x) : 0 ≤ x ∧ x < 51 := by
  unfold hasW at h
  omega
theorem r_11_afterE (cy : Nat → ClassId) (tE : Nat) (S : KS) (r x : Int32) (post : Int32 → KS → Prop) (nv : List OL) (cu : List CuT) (ac : Nat → Option AcT) (g : SV) (cs : List Int32) (hH : HQx cy S nv cu ac) (hG : GdL nv cu ac) (hg : AGR (ar S.1 1) g) (hl : 0 ≤ r.toInt ∧ r.toInt ≤ 5 → fi S.1 (1 + 2 * r.toInt.toNat) = nI cs.length) (hl2 : cs.length ≤ 12) (hcs : 0 ≤ r.toInt ∧ r.toInt ≤ 5 → ∀ (t : Nat) (c : Int32), cs[t]? = some c → ar S.1 (6 + r.toInt.toNat) t = c ∧ (0 ≤ c.toInt ∧ c.toInt ≤ 767)) (hPM : ∀ c a, (0 ≤ c.toInt ∧ c.toInt ≤ 767) → actO ac c 3 = some a → ∀ w ∈ a.2.2.2.2, PM c w) (k0 : ¬ ((0 ≤ r.toInt ∧ r.toInt ≤ 5) ∧ hasW x.toInt) → post (-1) S) (k1 : (0 ≤ r.toInt ∧ r.toInt ≤ 5) ∧ hasW x.toInt → ∀ S', KW2 S S' → (ar S'.1 1 = ar S.1 1 ∧ ar S'.1 5 = ar S.1 5) → post ((flO cu ac 3 0 cs 0 g).2.2 x.toInt.toNat) S') : w_X11_after cy tE S r x post := by
  unfold w_X11_after w_X11_after_B14
  refine r_11_isRow _ _ _ _ _ (fun r1 _ h1 => ⟨fun _ => k0 (by omega), fun _ => r_9_hasE _ _ _ _ _ (fun hn => ⟨fun z => absurd li_0 z, fun _ => k0 (fun q => hn q.2)⟩) (fun hy => ⟨fun _ => ⟨by omega, ?_⟩, fun z => absurd z (by decide)⟩)⟩)
  have rn : r.toNatClampNeg = r.toInt.toNat := tnc r
  have hb := hasW_51 hy
  rw [rn]
  refine r_2_followE cy tE S r.toInt.toNat 3 0 _ nv cu ac g cs (by omega) hH hG hg (hl (by omega)) hl2 (hcs (by omega)) hPM (fun T hT h15 _ h4 => ?_)
  refine r_9_getE cy tE T 3 x _ (by decide) hb ?_
  rw [show ar T.1 (1 + 3) x.toInt.toNat = (flO cu ac 3 0 cs 0 g).2.2 x.toInt.toNat from h4 _ (by omega)]
  exact k1 ⟨by omega, hy⟩ T hT ⟨h15 0 (by decide) (by decide) (by decide), h15 4 (by decide) (by decide) (by decide)⟩
theorem bool_v {S : GS} {post : Int32 → GS → Prop} {v : Int32} (hv : v = 0 ∨ v = 1) (h : post v S) : (v.toInt = 0 → post 0 S) ∧ (v.toInt ≠ 0 → post 1 S) := by
  rcases hv with rfl | rfl
  · exact ⟨fun _ => h, fun q => absurd li_0 q⟩
  · exact ⟨fun q => absurd q (by decide), fun _ => h⟩
set_option maxHeartbeats 1000000 in
theorem q_afterE (S : GS) (r x : Int32) (post : Int32 → GS → Prop) (nv : List OL) (cu : List CuT) (ac : Nat → Option AcT) (g : SV) (cs : List Int32) (hm : MIx S nv cu ac) (hG : GdL nv cu ac) (hGV : GV g) (hGW : GW g) (hst : (fl S 0).toInt = pkI g) (hB : BR S) (hg0 : ∀ i, i = 0 ∨ i = 4 ∨ i = 8 → g (10 + i) = 0) (hl : 0 ≤ r.toInt ∧ r.toInt ≤ 5 → ar S 38 r.toInt.toNat = nI cs.length) (hl2 : cs.length ≤ 12) (hcs : 0 ≤ r.toInt ∧ r.toInt ≤ 5 → ∀ (t : Nat) (c : Int32), cs[t]? = some c → ar S 37 (12 * r.toInt.toNat + t) = c ∧ (0 ≤ c.toInt ∧ c.toInt ≤ 767)) (hPM : ∀ c a, (0 ≤ c.toInt ∧ c.toInt ≤ 767) → actO ac c 3 = some a → ∀ w ∈ a.2.2.2.2, PM c w) (k0 : ∀ S', ¬ ((0 ≤ r.toInt ∧ r.toInt ≤ 5) ∧ hasW x.toInt) → FW S S' → BR S' → post (-1) S') (k1 : ∀ S', (0 ≤ r.toInt ∧ r.toInt ≤ 5) ∧ hasW x.toInt → FW S S' → BR S' → post ((flO cu ac 3 0 cs 0 g).2.2 x.toInt.toNat) S') : w_X12_after S r x post := by
  unfold w_X12_after w_X12_after_B102 w_X12_after_B150 w_X12_after_B146 w_X12_after_B151
  refine q_isRow _ _ _ (fun r1 _ hb1 => ⟨fun g1 => ?_, fun _ => k0 S (by omega) Fr.rf hB⟩)
  refine q_goesE S r 3 0 _ nv cu ac g cs (by omega) hm hG hGV hGW hst hB hg0 (hl (by omega)) hl2 (hcs (by omega)) hPM (fun T hT hBT _ h2 hV hW => ?_)
  generalize (flO cu ac 3 0 cs 0 g).2.2 = G at h2 hV hW k1 ⊢
  refine q_takesE T _ _ G hV hW h2 (fun U hU hR hBU => ?_)
  have hSU : FW S U := (hT.wk (by decide) : FW S T).tr (hU.wk (by decide))
  have hbU := hBU hBT
  have hr : 0 ≤ r.toInt ∧ r.toInt ≤ 5 := by omega
  have yes : ∀ v, hasW x.toInt → v = G x.toInt.toNat → post v U := fun v h e => by rw [e]; exact k1 U ⟨hr, h⟩ hSU hbU
  have no : ¬ hasW x.toInt → post (-1) U := fun h => k0 U (fun q => h q.2) hSU hbU
  refine q_isOne _ _ _ (fun r2 _ hb2 => ⟨fun g2 => ⟨fun g3 => ?_, fun g3 => ?_⟩, fun g2 => ⟨by omega, ?_⟩⟩)
  · refine q_isIn _ _ _ _ _ (fun r3 _ hb3 => ?_)
    rw [li_40, li_42] at hb3
    refine ⟨fun g4 => ?_, fun g4 => ?_⟩
    · refine q_isIn _ _ _ _ _ (fun r4 _ hb4 => ?_)
      have li38 : (38 : Int32).toInt = 38 := by decide
      rw [li_10, li38] at hb4
      refine ⟨fun g5 => no (by unfold hasW; omega), fun g5 => ?_⟩
      have hx : 10 ≤ x.toInt ∧ x.toInt ≤ 38 := by omega
      have e10 : (x - x / 10 * 10).toInt = x.toInt % 10 := by
        simp (disch := omega) only [Int32.toInt_sub, Int32.toInt_mul, Int32.toInt_div, li_10, tdv, bm]
        omega
      have n10 : (x - x / 10 * 10).toNatClampNeg = x.toInt.toNat % 10 := by rw [tnc, e10]; omega
      have d1 : ((x - x / 10 * 10) / 3).toInt = x.toInt % 10 / 3 := by
        have : ((x - x / 10 * 10) / 3).toInt = (x - x / 10 * 10).toInt / 3 := by
          simp (disch := omega) only [Int32.toInt_div, li_3, tdv, bm]
        rw [this, e10]
      have d2 : ((x - x / 10 * 10) - (x - x / 10 * 10) / 3 * 3).toInt = x.toInt % 10 % 3 := by
        have e9 : ((x - x / 10 * 10) / 3 * 3).toInt = x.toInt % 10 / 3 * 3 := by
          simp (disch := omega) only [Int32.toInt_mul, li_3, bm, d1]
        rw [i_sub (by omega) (by omega), e9, e10]
        omega
      rw [e10, d1, d2, n10]
      refine ⟨fun g6 => no (by unfold hasW; omega), fun g6 => ⟨fun g7 => ?_, fun g7 => no (by unfold hasW; omega)⟩⟩
      have hw : hasW x.toInt := Or.inr (Or.inr (Or.inr ⟨hx, g6, g7⟩))
      have em : x.toInt % 10 = ((x.toInt.toNat % 10 : Nat) : Int) := by omega
      have hpq : x.toInt.toNat % 10 / 3 < 3 ∧ x.toInt.toNat % 10 / 3 ≠ x.toInt.toNat % 10 % 3 := by
        clear hw d1 d2 e10 n10
        rw [em] at g6 g7
        generalize x.toInt.toNat % 10 = m at g6 g7 em ⊢
        omega
      have hp := hR.2.1 (x.toInt.toNat % 10 / 3) (x.toInt.toNat % 10 % 3) hpq.1 (Nat.mod_lt _ (by decide)) hpq.2
      have e3 : 3 * (x.toInt.toNat % 10 / 3) + x.toInt.toNat % 10 % 3 = x.toInt.toNat % 10 := by omega
      rw [e3] at hp
      have hgv := hV.2.1 (x.toInt.toNat % 10) (by omega)
      refine ⟨fun g8 => ⟨fun g9 => ⟨by omega, ?_⟩, fun g9 => ⟨by omega, ?_⟩⟩, fun g8 => ⟨by omega, ?_⟩⟩
      · have e5 : 30 + x.toInt.toNat % 10 = x.toInt.toNat := by omega
        rw [hp.2.2]
        refine bool_v hgv.2.2 (yes _ hw (by rw [e5]))
      · have e5 : 20 + x.toInt.toNat % 10 = x.toInt.toNat := by omega
        rw [hp.2.1]
        refine bool_v hgv.2.1 (yes _ hw (by rw [e5]))
      · have e5 : 10 + x.toInt.toNat % 10 = x.toInt.toNat := by omega
        rw [hp.1]
        exact yes _ hw (by rw [e5])
    · have hx : 40 ≤ x.toInt ∧ x.toInt ≤ 42 := by omega
      have e40 : (x - 40).toInt = x.toInt - 40 := by rw [i_sub (by rw [li_40]; omega) (by rw [li_40]; omega), li_40]
      have n40 : (x - 40).toNatClampNeg = x.toInt.toNat - 40 := by rw [tnc, e40]; omega
      rw [e40, n40, hR.2.2.1 _ (by omega)]
      have e5 : 40 + (x.toInt.toNat - 40) = x.toInt.toNat := by omega
      exact ⟨by omega, yes _ (Or.inr (Or.inl hx)) (by rw [e5])⟩
  · rw [hR.2.2.2]
    have e5 : x.toInt.toNat = 50 := by omega
    exact yes _ (Or.inr (Or.inr (Or.inl g3))) (by rw [e5])
  · have xn : x.toNatClampNeg = x.toInt.toNat := tnc x
    rw [xn, hR.1 _ (by omega)]
    exact yes _ (Or.inl (by omega)) rfl
