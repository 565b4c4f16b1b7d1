theorem set_AGR {S : KS} {n : Nat} {v : Int32} {g : SV} (hg : AGR (ar S.1 1) g) : AGR (ar (ksi (ksu S 1 n v) 32 0).1 1) (upd g n v) := by
  have e : ar (ksi (ksu S 1 n v) 32 0).1 1 = upd (ar S.1 1) n v := su_at _ _ _ _
  rw [e]
  exact AGR_upd hg
/-- a setter's frame: the SEARCH is forgotten -/
def SKf (S S' : KS) : Prop := KF [32] [1] [] S S' ∧ (fi S'.1 32).toInt = 0
theorem sk_0 {S : KS} : (fi (ksi S 32 0).1 32).toInt = 0 := by
  have e : fi (ksi S 32 0).1 32 = 0 := si_at _ _ _
  rw [e]; exact li_0
theorem set_KF {S : KS} {n : Nat} {v : Int32} : SKf S (ksi (ksu S 1 n v) 32 0) := ⟨KF_si (by decide) (KF_su (by decide) (KF_rf S)), sk_0⟩
theorem r_11_coinE (cy : Nat → ClassId) (tE : Nat) (S : KS) (p v : Int32) (post : Int32 → KS → Prop) (g : SV) (hg : AGR (ar S.1 1) g) (k1 : (0 ≤ p.toInt ∧ p.toInt ≤ 2) ∧ (0 ≤ v.toInt ∧ v.toInt ≤ 15) → ∀ S', SKf S S' → AGR (ar S'.1 1) (upd g p.toInt.toNat v) → post 1 S') (k0 : ¬ ((0 ≤ p.toInt ∧ p.toInt ≤ 2) ∧ (0 ≤ v.toInt ∧ v.toInt ≤ 15)) → post 0 S) : w_X11_coin cy tE S p v post := by
  unfold w_X11_coin w_X11_coin_B16 w_X8_forget
  refine r_11_isPerson _ _ _ _ _ (fun r1 _ h1 => ⟨fun _ => k0 (by omega), fun _ => r_11_isWithin _ _ _ _ _ _ (fun r2 _ h2 => ?_)⟩)
  rw [li_15] at h2
  exact ⟨fun _ => r_9_setE cy tE S 0 p v _ (by decide) (by omega) (k1 (by omega) _ set_KF (set_AGR hg)), fun _ => k0 (by omega)⟩
theorem r_11_ownerE (cy : Nat → ClassId) (tE : Nat) (S : KS) (t p : Int32) (post : Int32 → KS → Prop) (g : SV) (hg : AGR (ar S.1 1) g) (k1 : (0 ≤ t.toInt ∧ t.toInt ≤ 2) ∧ (0 ≤ p.toInt ∧ p.toInt ≤ 3) → ∀ S', SKf S S' → AGR (ar S'.1 1) (upd g (40 + t.toInt.toNat) p) → post 1 S') (k0 : ¬ ((0 ≤ t.toInt ∧ t.toInt ≤ 2) ∧ (0 ≤ p.toInt ∧ p.toInt ≤ 3)) → post 0 S) : w_X11_owner cy tE S t p post := by
  unfold w_X11_owner w_X11_owner_B15 w_X8_forget
  refine r_11_isThing _ _ _ _ _ (fun r1 _ h1 => ⟨fun _ => k0 (by omega), fun _ => r_11_isWithin _ _ _ _ _ _ (fun r2 _ h2 => ?_)⟩)
  rw [li_3] at h2
  refine ⟨fun _ => ?_, fun _ => k0 (by omega)⟩
  have e40 : ((40 : Int32) + t).toInt = 40 + t.toInt := by
    rw [ad_ab (by rw [li_40]; omega) (by rw [li_40]; omega), li_40]
  have en : ((40 : Int32) + t).toInt.toNat = 40 + t.toInt.toNat := by rw [e40]; omega
  refine r_9_setE cy tE S 0 _ p _ (by decide) (by rw [e40]; omega) ?_
  rw [en]
  exact k1 (by omega) _ set_KF (set_AGR hg)
theorem r_11_dayE (cy : Nat → ClassId) (tE : Nat) (S : KS) (v : Int32) (post : Int32 → KS → Prop) (g : SV) (hg : AGR (ar S.1 1) g) (k1 : (0 ≤ v.toInt ∧ v.toInt ≤ 15) → ∀ S', SKf S S' → AGR (ar S'.1 1) (upd g 50 v) → post 1 S') (k0 : ¬ (0 ≤ v.toInt ∧ v.toInt ≤ 15) → post 0 S) : w_X11_day cy tE S v post := by
  unfold w_X11_day w_X8_forget
  refine r_11_isWithin _ _ _ _ _ _ (fun r2 _ h2 => ?_)
  rw [li_15] at h2
  exact ⟨fun _ => r_9_setE cy tE S 0 50 v _ (by decide) (by decide) (k1 (by omega) _ set_KF (set_AGR hg)), fun _ => k0 (by omega)⟩
theorem pr_i {c p q : Int32} (hc : 0 ≤ c.toInt ∧ c.toInt ≤ 30) (hp : 0 ≤ p.toInt ∧ p.toInt ≤ 2) (hq : 0 ≤ q.toInt ∧ q.toInt ≤ 2) : ((c + ((3 : Int32) * p)) + q).toInt = ((c.toInt.toNat + prI p q : Nat) : Int) ∧ ((c + ((3 : Int32) * p)) + q).toInt.toNat = c.toInt.toNat + prI p q ∧ prI p q < 9 := by
  have e := pr_c (c := c) (p := p) (q := q) (by omega) (by omega) (by omega)
  unfold prI
  refine ⟨by rw [e]; omega, by rw [e]; omega, by omega⟩
theorem r_11_debtE (cy : Nat → ClassId) (tE : Nat) (S : KS) (p q v : Int32) (post : Int32 → KS → Prop) (g : SV) (hg : AGR (ar S.1 1) g) (k1 : (0 ≤ p.toInt ∧ p.toInt ≤ 2) ∧ (0 ≤ q.toInt ∧ q.toInt ≤ 2) ∧ p.toInt ≠ q.toInt ∧ (0 ≤ v.toInt ∧ v.toInt ≤ 7) → ∀ S', SKf S S' → AGR (ar S'.1 1) (upd g (10 + prI p q) v) → post 1 S') (k0 : ¬ ((0 ≤ p.toInt ∧ p.toInt ≤ 2) ∧ (0 ≤ q.toInt ∧ q.toInt ≤ 2) ∧ p.toInt ≠ q.toInt ∧ (0 ≤ v.toInt ∧ v.toInt ≤ 7)) → post 0 S) : w_X11_debt cy tE S p q v post := by
  unfold w_X11_debt w_X11_debt_B17 w_X8_forget
  refine r_11_arePair _ _ _ _ _ _ (fun r1 _ h1 => ⟨fun _ => k0 (by omega), fun _ => r_11_isWithin _ _ _ _ _ _ (fun r2 _ h2 => ?_)⟩)
  have e7 : (7 : Int32).toInt = 7 := by decide
  rw [e7] at h2
  refine ⟨fun _ => ?_, fun _ => k0 (by omega)⟩
  obtain ⟨x1, x2, x3⟩ := pr_i (c := 10) (p := p) (q := q) (by decide) (by omega) (by omega)
  have e10 : (10 : Int32).toInt.toNat = 10 := by decide
  rw [e10] at x1 x2
  refine r_9_setE cy tE S 0 _ v _ (by decide) (by omega) ?_
  rw [x2]
  exact k1 (by omega) _ set_KF (set_AGR hg)
def kinG (g : SV) (p q w z : Int32) : SV := if w.toInt = 1 then upd g (30 + prI p q) z else upd (upd g (20 + prI p q) z) (20 + prI q p) z
theorem r_11_kinE (cy : Nat → ClassId) (tE : Nat) (S : KS) (p q w z : Int32) (post : Int32 → KS → Prop) (g : SV) (hz : z = 0 ∨ z = 1) (hg : AGR (ar S.1 1) g) (k1 : (0 ≤ p.toInt ∧ p.toInt ≤ 2) ∧ (0 ≤ q.toInt ∧ q.toInt ≤ 2) ∧ p.toInt ≠ q.toInt ∧ (0 ≤ w.toInt ∧ w.toInt ≤ 1) → ∀ S', SKf S S' → AGR (ar S'.1 1) (kinG g p q w z) → post 1 S') (k0 : ¬ ((0 ≤ p.toInt ∧ p.toInt ≤ 2) ∧ (0 ≤ q.toInt ∧ q.toInt ≤ 2) ∧ p.toInt ≠ q.toInt ∧ (0 ≤ w.toInt ∧ w.toInt ≤ 1)) → post 0 S) : w_X11_kin cy tE S p q w z post := by
  unfold w_X11_kin w_X11_kin_B16
  refine r_11_arePair _ _ _ _ _ _ (fun r1 _ h1 => ⟨fun _ => k0 (by omega), fun _ => r_11_isWithin _ _ _ _ _ _ (fun r2 _ h2 => ?_)⟩)
  rw [li_1] at h2
  refine ⟨fun _ => ?_, fun _ => k0 (by omega)⟩
  have b28 : w_X11_kin_B28 cy tE post S p q w z := by
    unfold w_X11_kin_B28 w_X11_kin_B88 w_X8_forget
    refine ⟨fun hw => ?_, fun hw => ?_⟩
    · obtain ⟨x1, x2, x3⟩ := pr_i (c := 30) (p := p) (q := q) (by decide) (by omega) (by omega)
      have e30 : (30 : Int32).toInt.toNat = 30 := by decide
      rw [e30] at x1 x2
      refine r_9_setE cy tE S 0 _ z _ (by decide) (by omega) ?_
      rw [x2]
      refine k1 (by omega) _ set_KF ?_
      have e : kinG g p q w z = upd g (30 + prI p q) z := if_pos (by omega)
      rw [e]
      exact set_AGR hg
    · obtain ⟨x1, x2, x3⟩ := pr_i (c := 20) (p := p) (q := q) (by decide) (by omega) (by omega)
      obtain ⟨y1, y2, y3⟩ := pr_i (c := 20) (p := q) (q := p) (by decide) (by omega) (by omega)
      have e20 : (20 : Int32).toInt.toNat = 20 := by decide
      rw [e20] at x1 x2 y1 y2
      refine r_9_setE cy tE S 0 _ z _ (by decide) (by omega) (r_9_setE cy tE _ 0 _ z _ (by decide) (by omega) ?_)
      rw [x2, y2]
      refine k1 (by omega) _ ⟨KF_si (by decide) (KF_su (by decide) (KF_su (by decide) (KF_rf S))), sk_0⟩ ?_
      have e : kinG g p q w z = upd (upd g (20 + prI p q) z) (20 + prI q p) z := if_neg (by omega)
      rw [e]
      have a1 : ar (ksi (ksu (ksu S (1 + 0) (20 + prI p q) z) (1 + 0) (20 + prI q p) z) 32 0).1 1 = upd (ar (ksu S (1 + 0) (20 + prI p q) z).1 1) (20 + prI q p) z := su_at _ _ _ _
      have a2 : ar (ksu S (1 + 0) (20 + prI p q) z).1 1 = upd (ar S.1 1) (20 + prI p q) z := su_at _ _ _ _
      rw [a1, a2]
      exact AGR_upd (AGR_upd hg)
  rcases hz with rfl | rfl
  · exact ⟨fun _ => b28, fun y => absurd li_0 y⟩
  · exact ⟨fun y => absurd y (by decide), fun _ => b28⟩
/-- numbers set: still a STATE -/
theorem GV_lo {g : SV} {p : Nat} {v : Int32} (hp : p < 3) (hv : 0 ≤ v.toInt ∧ v.toInt ≤ 15) (h : GV g) : GV (upd g p v) := by
  obtain ⟨h1, h2, h3, h4⟩ := h
  refine ⟨fun i hi => ?_, fun i hi => ?_, fun i hi => ?_, ?_⟩
  · by_cases e : i = p
    · rw [e, upd_at]; exact hv
    · rw [upd_ne e]; exact h1 i hi
  · rw [upd_ne (by omega), upd_ne (by omega), upd_ne (by omega)]; exact h2 i hi
  · rw [upd_ne (by omega)]; exact h3 i hi
  · rw [upd_ne (by omega)]; exact h4
theorem GV_debt {g : SV} {q : Nat} {v : Int32} (hq : q < 9) (hv : 0 ≤ v.toInt ∧ v.toInt ≤ 7) (h : GV g) : GV (upd g (10 + q) v) := by
  obtain ⟨h1, h2, h3, h4⟩ := h
  refine ⟨fun i hi => ?_, fun i hi => ?_, fun i hi => ?_, ?_⟩
  · rw [upd_ne (by omega)]; exact h1 i hi
  · rw [upd_ne (k := 10 + q) (j := 20 + i) (by omega), upd_ne (k := 10 + q) (j := 30 + i) (by omega)]
    refine ⟨?_, (h2 i hi).2⟩
    by_cases e : i = q
    · rw [e, upd_at]; exact hv
    · rw [upd_ne (by omega)]; exact (h2 i hi).1
  · rw [upd_ne (by omega)]; exact h3 i hi
  · rw [upd_ne (by omega)]; exact h4
theorem GV_day {g : SV} {v : Int32} (hv : 0 ≤ v.toInt ∧ v.toInt ≤ 15) (h : GV g) : GV (upd g 50 v) := by
  obtain ⟨h1, h2, h3, h4⟩ := h
  refine ⟨fun i hi => ?_, fun i hi => ?_, fun i hi => ?_, ?_⟩
  · rw [upd_ne (by omega)]; exact h1 i hi
  · rw [upd_ne (by omega), upd_ne (by omega), upd_ne (by omega)]; exact h2 i hi
  · rw [upd_ne (by omega)]; exact h3 i hi
  · rw [upd_at]; exact hv
theorem GW_ne {g : SV} {i : Nat} {v : Int32} (hi : i < 20 ∨ 29 ≤ i) (h : GW g) : GW (upd g i v) := by
  intro p q hp hq
  rw [upd_ne (by omega), upd_ne (by omega)]
  exact h p q hp hq
theorem inB_of {g : SV} (h : GV g) : inB g := ⟨h.1, fun k hk => (h.2.1 k hk).1, h.2.2.2⟩
theorem inB_hi {g : SV} {i : Nat} {v : Int32} (hi : 20 ≤ i ∧ i < 50) (h : inB g) : inB (upd g i v) := by
  obtain ⟨h1, h2, h3⟩ := h
  refine ⟨fun p hp => ?_, fun k hk => ?_, ?_⟩
  · show in15 (upd g i v p)
    rw [upd_ne (by omega)]; exact h1 p hp
  · show in7 (upd g i v (10 + k))
    rw [upd_ne (by omega)]; exact h2 k hk
  · show in15 (upd g i v 50)
    rw [upd_ne (by omega)]; exact h3
theorem GV_own {g : SV} {t : Nat} {v : Int32} (ht : t < 3) (hv : 0 ≤ v.toInt ∧ v.toInt ≤ 3) (h : GV g) : GV (upd g (40 + t) v) := by
  obtain ⟨h1, h2, h3, h4⟩ := h
  refine ⟨fun i hi => ?_, fun i hi => ?_, fun i hi => ?_, ?_⟩
  · rw [upd_ne (by omega)]; exact h1 i hi
  · rw [upd_ne (by omega), upd_ne (by omega), upd_ne (by omega)]; exact h2 i hi
  · by_cases e : i = t
    · rw [e, upd_at]; exact hv
    · rw [upd_ne (by omega)]; exact h3 i hi
  · rw [upd_ne (by omega)]; exact h4
theorem kinG_v {g : SV} {p q w z : Int32} (hp : 0 ≤ p.toInt ∧ p.toInt ≤ 2) (hq : 0 ≤ q.toInt ∧ q.toInt ≤ 2) (hz : z = 0 ∨ z = 1) (h : GV g) (hW : GW g) : GV (kinG g p q w z) ∧ GW (kinG g p q w z) := by
  have b1 : prI p q < 9 := by unfold prI; omega
  have b2 : prI q p < 9 := by unfold prI; omega
  unfold kinG
  by_cases e : w.toInt = 1
  · rw [if_pos e]
    refine GV_of ?_ (inB_hi (by omega) (inB_of h))
    obtain ⟨t1, t2, t3⟩ := TV_of h hW
    refine ⟨fun k hk => ⟨?_, ?_⟩, fun t ht => ?_, GW_ne (by omega) t3⟩
    · rw [upd_ne (by omega)]; exact (t1 k hk).1
    · by_cases e1 : k = prI p q
      · rw [e1, upd_at]; exact hz
      · rw [upd_ne (by omega)]; exact (t1 k hk).2
    · rw [upd_ne (by omega)]; exact t2 t ht
  · rw [if_neg e]
    exact GV_of (TV_wed hp hq hz (TV_of h hW)) (inB_hi (by omega) (inB_hi (by omega) (inB_of h)))
/-- behind a setter of the reference -/
def STE (S S' : GS) (g' : SV) : Prop := Fr [0] [0] [0, 1, 2, 3, 4] [] S S' ∧ (BR S → BR S') ∧ (fl S' 0).toInt = pkI g'
theorem q_toldE (S : GS) (post : Int32 → GS → Prop) (g : SV) (hR : RS S g) (hG : GV g) (k : ∀ v : Int64, v.toInt = pkI g → post 1 (sl S 0 v)) : w_X12_told S post := by
  unfold w_X12_told
  exact q_packsE S _ g hR hG k
theorem q_coinE (S : GS) (p v : Int32) (post : Int32 → GS → Prop) (g : SV) (hG : GV g) (hW : GW g) (hst : (fl S 0).toInt = pkI g) (k1 : (0 ≤ p.toInt ∧ p.toInt ≤ 2) ∧ (0 ≤ v.toInt ∧ v.toInt ≤ 15) → ∀ S', STE S S' (upd g p.toInt.toNat v) → post 1 S') (k0 : ¬ ((0 ≤ p.toInt ∧ p.toInt ≤ 2) ∧ (0 ≤ v.toInt ∧ v.toInt ≤ 15)) → post 0 S) : w_X12_coin S p v post := by
  unfold w_X12_coin w_X12_coin_B17
  refine q_isOne _ _ _ (fun r hr hb => ⟨fun h => k0 (by omega), fun h => ?_⟩)
  refine q_isIn _ _ _ _ _ (fun r2 hr2 hb2 => ?_)
  rw [li_0, li_15] at hb2
  refine ⟨fun h2 => ?_, fun h2 => k0 (by omega)⟩
  refine q_takesE S _ _ g hG hW hst (fun T hF hR hB => ⟨by omega, ?_⟩)
  have pn : p.toNatClampNeg = p.toInt.toNat := tnc p
  rw [pn]
  have a0 : ar (su T 0 p.toInt.toNat v) 0 = upd (ar T 0) p.toInt.toNat v := su_at _ _ _ _
  have aj : ∀ j, j ≠ 0 → ar (su T 0 p.toInt.toNat v) j = ar T j := fun j hj => su_ne hj
  refine q_toldE _ _ (upd g p.toInt.toNat v) ⟨fun i hi => ?_, fun a b ha hb' hab => ?_, fun t ht => ?_, ?_⟩ (GV_lo (by omega) (by omega) hG) (fun v2 hv2 => ⟨Or.inr rfl, k1 (by omega) _ ⟨Fr.sl (by decide) (Fr.su (by decide) (hF.wk (by decide))), fun b => BR.sl (BR.sn (by decide) (hB b)), ?_⟩⟩)
  · rw [a0]
    by_cases e : i = p.toInt.toNat
    · rw [e, upd_at, upd_at]
    · rw [upd_ne e, upd_ne e]; exact hR.1 i hi
  · rw [aj 1 (by decide), aj 3 (by decide), aj 4 (by decide), upd_ne (by omega), upd_ne (by omega), upd_ne (by omega)]
    exact hR.2.1 a b ha hb' hab
  · rw [aj 2 (by decide), upd_ne (by omega)]; exact hR.2.2.1 t ht
  · rw [upd_ne (by omega)]; exact hR.2.2.2
  · rw [show fl (sl (su T 0 p.toInt.toNat v) 0 v2) 0 = v2 from sl_at _ _ _]; exact hv2
theorem q_ownerE (S : GS) (t p : Int32) (post : Int32 → GS → Prop) (g : SV) (hG : GV g) (hW : GW g) (hst : (fl S 0).toInt = pkI g) (k1 : (0 ≤ t.toInt ∧ t.toInt ≤ 2) ∧ (0 ≤ p.toInt ∧ p.toInt ≤ 3) → ∀ S', STE S S' (upd g (40 + t.toInt.toNat) p) → post 1 S') (k0 : ¬ ((0 ≤ t.toInt ∧ t.toInt ≤ 2) ∧ (0 ≤ p.toInt ∧ p.toInt ≤ 3)) → post 0 S) : w_X12_owner S t p post := by
  unfold w_X12_owner w_X12_owner_B16
  refine q_isOne _ _ _ (fun r hr hb => ⟨fun h => k0 (by omega), fun h => ?_⟩)
  refine q_isIn _ _ _ _ _ (fun r2 hr2 hb2 => ?_)
  rw [li_0, li_3] at hb2
  refine ⟨fun h2 => ?_, fun h2 => k0 (by omega)⟩
  refine q_takesE S _ _ g hG hW hst (fun T hF hR hB => ⟨by omega, ?_⟩)
  have pn : t.toNatClampNeg = t.toInt.toNat := tnc t
  rw [pn]
  have a0 : ar (su T 2 t.toInt.toNat p) 2 = upd (ar T 2) t.toInt.toNat p := su_at _ _ _ _
  have aj : ∀ j, j ≠ 2 → ar (su T 2 t.toInt.toNat p) j = ar T j := fun j hj => su_ne hj
  refine q_toldE _ _ (upd g (40 + t.toInt.toNat) p) ⟨fun i hi => ?_, fun a b ha hb' hab => ?_, fun t' ht => ?_, ?_⟩ (GV_own (by omega) (by omega) hG) (fun v2 hv2 => ⟨Or.inr rfl, k1 (by omega) _ ⟨Fr.sl (by decide) (Fr.su (by decide) (hF.wk (by decide))), fun b => BR.sl (BR.sn (by decide) (hB b)), ?_⟩⟩)
  · rw [aj 0 (by decide), upd_ne (by omega)]; exact hR.1 i hi
  · rw [aj 1 (by decide), aj 3 (by decide), aj 4 (by decide), upd_ne (by omega), upd_ne (by omega), upd_ne (by omega)]
    exact hR.2.1 a b ha hb' hab
  · rw [a0]
    by_cases e : t' = t.toInt.toNat
    · rw [e, upd_at, upd_at]
    · rw [upd_ne e, upd_ne (by omega)]; exact hR.2.2.1 t' ht
  · rw [upd_ne (by omega)]; exact hR.2.2.2
  · rw [show fl (sl (su T 2 t.toInt.toNat p) 0 v2) 0 = v2 from sl_at _ _ _]; exact hv2
theorem q_dayE (S : GS) (v : Int32) (post : Int32 → GS → Prop) (g : SV) (hG : GV g) (hW : GW g) (hst : (fl S 0).toInt = pkI g) (k1 : (0 ≤ v.toInt ∧ v.toInt ≤ 15) → ∀ S', STE S S' (upd g 50 v) → post 1 S') (k0 : ¬ (0 ≤ v.toInt ∧ v.toInt ≤ 15) → post 0 S) : w_X12_day S v post := by
  unfold w_X12_day
  refine q_isIn _ _ _ _ _ (fun r2 hr2 hb2 => ?_)
  rw [li_0, li_15] at hb2
  refine ⟨fun h2 => ?_, fun h2 => k0 (by omega)⟩
  refine q_takesE S _ _ g hG hW hst (fun T hF hR hB => ?_)
  refine q_toldE _ _ (upd g 50 v) ⟨fun i hi => ?_, fun a b ha hb' hab => ?_, fun t' ht => ?_, ?_⟩ (GV_day (by omega) hG) (fun v2 hv2 => ⟨Or.inr rfl, k1 (by omega) _ ⟨Fr.sl (by decide) (Fr.si (by decide) (hF.wk (by decide))), fun b => BR.sl (BR.si (hB b)), ?_⟩⟩)
  · rw [upd_ne (by omega)]; exact hR.1 i hi
  · rw [upd_ne (by omega), upd_ne (by omega), upd_ne (by omega)]
    exact hR.2.1 a b ha hb' hab
  · rw [upd_ne (by omega)]; exact hR.2.2.1 t' ht
  · rw [upd_at]; exact si_at _ _ _
  · rw [show fl (sl (si T 0 v) 0 v2) 0 = v2 from sl_at _ _ _]; exact hv2
theorem q_debtE (S : GS) (p q v : Int32) (post : Int32 → GS → Prop) (g : SV) (hG : GV g) (hW : GW g) (hst : (fl S 0).toInt = pkI g) (k1 : (0 ≤ p.toInt ∧ p.toInt ≤ 2) ∧ (0 ≤ q.toInt ∧ q.toInt ≤ 2) ∧ p.toInt ≠ q.toInt ∧ (0 ≤ v.toInt ∧ v.toInt ≤ 7) → ∀ S', STE S S' (upd g (10 + prI p q) v) → post 1 S') (k0 : ¬ ((0 ≤ p.toInt ∧ p.toInt ≤ 2) ∧ (0 ≤ q.toInt ∧ q.toInt ≤ 2) ∧ p.toInt ≠ q.toInt ∧ (0 ≤ v.toInt ∧ v.toInt ≤ 7)) → post 0 S) : w_X12_debt S p q v post := by
  unfold w_X12_debt w_X12_debt_B29
  refine q_isOne _ _ _ (fun r hr hb => ⟨fun h => k0 (by omega), fun h => ?_⟩)
  refine q_isOne _ _ _ (fun r2 hr2 hb2 => ⟨fun h => k0 (by omega), fun h2 => ⟨fun h => k0 (by omega), fun h3 => ?_⟩⟩)
  refine q_isIn _ _ _ _ _ (fun r3 hr3 hb3 => ?_)
  have e7 : (7 : Int32).toInt = 7 := by decide
  rw [li_0, e7] at hb3
  refine ⟨fun h4 => ?_, fun h4 => k0 (by omega)⟩
  obtain ⟨x1, x2⟩ := p3q (p := p) (q := q) (by omega) (by omega)
  have x3 : 3 * p.toInt.toNat + q.toInt.toNat = prI p q := rfl
  have x4 : prI p q < 9 := by unfold prI; omega
  have x5 : ¬ (prI p q = 0 ∨ prI p q = 4 ∨ prI p q = 8) := by unfold prI; omega
  refine q_takesE S _ _ g hG hW hst (fun T hF hR hB => ⟨by omega, ?_⟩)
  rw [x2, x3]
  have a0 : ar (su T 1 (prI p q) v) 1 = upd (ar T 1) (prI p q) v := su_at _ _ _ _
  have aj : ∀ j, j ≠ 1 → ar (su T 1 (prI p q) v) j = ar T j := fun j hj => su_ne hj
  refine q_toldE _ _ (upd g (10 + prI p q) v) ⟨fun i hi => ?_, fun a b ha hb' hab => ?_, fun t' ht => ?_, ?_⟩ (GV_debt x4 (by omega) hG) (fun v2 hv2 => ⟨Or.inr rfl, k1 (by omega) _ ⟨Fr.sl (by decide) (Fr.su (by decide) (hF.wk (by decide))), fun b => BR.sl (BR.s1 (fun z => absurd z x5) (hB b)), ?_⟩⟩)
  · rw [aj 0 (by decide), upd_ne (by omega)]; exact hR.1 i hi
  · rw [aj 3 (by decide), aj 4 (by decide), a0, upd_ne (k := 10 + prI p q) (j := 20 + (3 * a + b)) (by omega), upd_ne (k := 10 + prI p q) (j := 30 + (3 * a + b)) (by omega)]
    have hh := hR.2.1 a b ha hb' hab
    refine ⟨?_, hh.2⟩
    by_cases e : 3 * a + b = prI p q
    · rw [e, upd_at, upd_at]
    · rw [upd_ne e, upd_ne (by omega)]; exact hh.1
  · rw [aj 2 (by decide), upd_ne (by omega)]; exact hR.2.2.1 t' ht
  · rw [upd_ne (by omega)]; exact hR.2.2.2
  · rw [show fl (sl (su T 1 (prI p q) v) 0 v2) 0 = v2 from sl_at _ _ _]; exact hv2
theorem q_kinE (S : GS) (p q w z : Int32) (post : Int32 → GS → Prop) (g : SV) (hz : z = 0 ∨ z = 1) (hG : GV g) (hW : GW g) (hst : (fl S 0).toInt = pkI g) (k1 : (0 ≤ p.toInt ∧ p.toInt ≤ 2) ∧ (0 ≤ q.toInt ∧ q.toInt ≤ 2) ∧ p.toInt ≠ q.toInt ∧ (0 ≤ w.toInt ∧ w.toInt ≤ 1) → ∀ S', STE S S' (kinG g p q w z) → post 1 S') (k0 : ¬ ((0 ≤ p.toInt ∧ p.toInt ≤ 2) ∧ (0 ≤ q.toInt ∧ q.toInt ≤ 2) ∧ p.toInt ≠ q.toInt ∧ (0 ≤ w.toInt ∧ w.toInt ≤ 1)) → post 0 S) : w_X12_kin S p q w z post := by
  unfold w_X12_kin w_X12_kin_B28 w_X12_kin_B82
  refine q_isOne _ _ _ (fun r hr hb => ⟨fun h => k0 (by omega), fun h => ?_⟩)
  refine q_isOne _ _ _ (fun r2 hr2 hb2 => ⟨fun h => k0 (by omega), fun h2 => ⟨fun h => k0 (by omega), fun h3 => ?_⟩⟩)
  refine q_isIn _ _ _ _ _ (fun r3 hr3 hb3 => ?_)
  rw [li_0, li_1] at hb3
  refine ⟨fun h4 => ?_, fun h4 => k0 (by omega)⟩
  obtain ⟨x1, x2⟩ := p3q (p := p) (q := q) (by omega) (by omega)
  obtain ⟨y1, y2⟩ := p3q (p := q) (q := p) (by omega) (by omega)
  have x3 : 3 * p.toInt.toNat + q.toInt.toNat = prI p q := rfl
  have y3 : 3 * q.toInt.toNat + p.toInt.toNat = prI q p := rfl
  have b1 : prI p q < 9 := by unfold prI; omega
  have b2 : prI q p < 9 := by unfold prI; omega
  obtain ⟨hV', hW'⟩ := kinG_v (p := p) (q := q) (w := w) (z := z) (by omega) (by omega) hz hG hW
  refine q_takesE S _ _ g hG hW hst (fun T hF hR hB => ⟨fun hw => ⟨by omega, hz, by omega, hz, ?_⟩, fun hw => ⟨by omega, hz, ?_⟩⟩)
  · rw [x2, y2, x3, y3]
    have e : kinG g p q w z = upd (upd g (20 + prI p q) z) (20 + prI q p) z := if_neg hw
    have hN := NT_wed (S := T) (gg := g) (p := p) (q := q) (v := z) (by omega) (by omega) ⟨hR.2.2.1, fun a b ha hb' hab => (hR.2.1 a b ha hb' hab).2⟩
    rw [← e] at hN
    have aj : ∀ j, j ≠ 3 → ar (su (su T 3 (prI p q) z) 3 (prI q p) z) j = ar T j := fun j hj => (su_ne hj).trans (su_ne hj)
    refine q_toldE _ _ _ ⟨fun i hi => ?_, fun a b ha hb' hab => ⟨?_, hN.2 a b ha hb' hab⟩, hN.1, ?_⟩ hV' (fun v2 hv2 => ⟨Or.inr rfl, k1 (by omega) _ ⟨Fr.sl (by decide) (Fr.su (by decide) (Fr.su (by decide) (hF.wk (by decide)))), fun b => BR.sl (BR.s3 hz (BR.s3 hz (hB b))), ?_⟩⟩)
    · rw [aj 0 (by decide), e, upd_ne (by omega), upd_ne (by omega)]; exact hR.1 i hi
    · rw [aj 1 (by decide), e, upd_ne (by omega), upd_ne (by omega)]; exact (hR.2.1 a b ha hb' hab).1
    · rw [e, upd_ne (by omega), upd_ne (by omega)]; exact hR.2.2.2
    · rw [show fl (sl (su (su T 3 (prI p q) z) 3 (prI q p) z) 0 v2) 0 = v2 from sl_at _ _ _]; exact hv2
  · rw [x2, x3]
    have e : kinG g p q w z = upd g (30 + prI p q) z := if_pos hw
    have hN := NT_adopt (S := T) (gg := g) (p := p) (q := q) (v := z) (by omega) (by omega) ⟨hR.2.2.1, fun a b ha hb' hab => (hR.2.1 a b ha hb' hab).2⟩
    rw [← e] at hN
    have aj : ∀ j, j ≠ 4 → ar (su T 4 (prI p q) z) j = ar T j := fun j hj => su_ne hj
    refine q_toldE _ _ _ ⟨fun i hi => ?_, fun a b ha hb' hab => ⟨?_, hN.2 a b ha hb' hab⟩, hN.1, ?_⟩ hV' (fun v2 hv2 => ⟨Or.inr rfl, k1 (by omega) _ ⟨Fr.sl (by decide) (Fr.su (by decide) (hF.wk (by decide))), fun b => BR.sl (BR.s4 hz (hB b)), ?_⟩⟩)
    · rw [aj 0 (by decide), e, upd_ne (by omega)]; exact hR.1 i hi
    · rw [aj 1 (by decide), e, upd_ne (by omega)]; exact (hR.2.1 a b ha hb' hab).1
    · rw [e, upd_ne (by omega)]; exact hR.2.2.2
    · rw [show fl (sl (su T 4 (prI p q) z) 0 v2) 0 = v2 from sl_at _ _ _]; exact hv2
