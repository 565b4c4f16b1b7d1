/-- ties are in their bounds, WED for both -/
def TV (g : SV) : Prop := (∀ k, k < 9 → (g (20 + k) = 0 ∨ g (20 + k) = 1) ∧ (g (30 + k) = 0 ∨ g (30 + k) = 1)) ∧ (∀ t, t < 3 → 0 ≤ (g (40 + t)).toInt ∧ (g (40 + t)).toInt ≤ 3) ∧ GW g
theorem TV_of {g : SV} (h : GV g) (hW : GW g) : TV g := ⟨fun k hk => (h.2.1 k hk).2, h.2.2.1, hW⟩
theorem GV_of {g : SV} (h : TV g) (hB : inB g) : GV g ∧ GW g := ⟨⟨hB.1, fun k hk => ⟨hB.2.1 k hk, h.1 k hk⟩, h.2.1, hB.2.2⟩, h.2.2⟩
theorem TV_lo {g : SV} {i : Nat} {x : Int32} (hi : i < 20 ∨ i = 50) (h : TV g) : TV (upd g i x) := by
  obtain ⟨h1, h2, h3⟩ := h
  refine ⟨fun k hk => ?_, fun t ht => ?_, fun p q hp hq => ?_⟩
  · rw [upd_ne (by omega), upd_ne (by omega)]; exact h1 k hk
  · rw [upd_ne (by omega)]; exact h2 t ht
  · rw [upd_ne (by omega), upd_ne (by omega)]; exact h3 p q hp hq
theorem TV_wed {g : SV} {p q v : Int32} (hp : 0 ≤ p.toInt ∧ p.toInt ≤ 2) (hq : 0 ≤ q.toInt ∧ q.toInt ≤ 2) (hv : v = 0 ∨ v = 1) (h : TV g) : TV (upd (upd g (20 + prI p q) v) (20 + prI q p) v) := by
  obtain ⟨h1, h2, h3⟩ := h
  have hpq : prI p q < 9 := by unfold prI; omega
  have hqp : prI q p < 9 := by unfold prI; omega
  refine ⟨fun k hk => ⟨?_, ?_⟩, fun t ht => ?_, fun a b ha hb => ?_⟩
  · by_cases e1 : k = prI q p
    · rw [e1, upd_at]; exact hv
    by_cases e2 : k = prI p q
    · rw [upd_ne (by omega), e2, upd_at]; exact hv
    · rw [upd_ne (by omega), upd_ne (by omega)]; exact (h1 k hk).1
  · rw [upd_ne (by omega), upd_ne (by omega)]; exact (h1 k hk).2
  · rw [upd_ne (by omega), upd_ne (by omega)]; exact h2 t ht
  · by_cases e1 : a = q.toInt.toNat ∧ b = p.toInt.toNat
    · have x1 : 3 * a + b = prI q p := by unfold prI; omega
      have x2 : 3 * b + a = prI p q := by unfold prI; omega
      rw [x1, x2, upd_at]
      by_cases e3 : prI p q = prI q p
      · rw [e3, upd_at]
      · rw [upd_ne (by omega), upd_at]
    by_cases e2 : a = p.toInt.toNat ∧ b = q.toInt.toNat
    · have x1 : 3 * a + b = prI p q := by unfold prI; omega
      have x2 : 3 * b + a = prI q p := by unfold prI; omega
      rw [x1, x2, upd_at]
      by_cases e3 : prI p q = prI q p
      · rw [e3, upd_at]
      · rw [upd_ne (by omega), upd_at]
    · have n1 : 20 + (3 * a + b) ≠ 20 + prI q p := by unfold prI; omega
      have n2 : 20 + (3 * a + b) ≠ 20 + prI p q := by unfold prI; omega
      have n3 : 20 + (3 * b + a) ≠ 20 + prI q p := by unfold prI; omega
      have n4 : 20 + (3 * b + a) ≠ 20 + prI p q := by unfold prI; omega
      rw [upd_ne n1, upd_ne n2, upd_ne n3, upd_ne n4]
      exact h3 a b ha hb
theorem TV_chg {c : Int32} {w : MkT} {m : Int32} {g : SV} (hk : w.1.toInt = 7 ∨ w.1.toInt = 8 ∨ w.1.toInt = 14 ∨ w.1.toInt = 9 ∨ w.1.toInt = 11 ∨ w.1.toInt = 12 ∨ w.1.toInt = 13) (hP : PM c w) (h : TV g) : TV (chg w.1 (psI c w.2.1) (psI c ((1 : Int32) - w.2.1)) (cdT c) m g) := by
  obtain ⟨p7, p8, p9⟩ := hP
  have rp := psI_r (c := c) (f := w.2.1)
  have rq := psI_r (c := c) (f := (1 : Int32) - w.2.1)
  rcases hk with e | e | e | e | e | e | e
  · rw [chg_7 e]; exact TV_lo (by omega) h
  · have h8 := p8 (by omega)
    rw [chg_8 e]
    exact TV_lo (by unfold prI; omega) h
  · rw [chg_14 e]; exact TV_lo (Or.inr rfl) h
  · rw [chg_9 e]
    obtain ⟨h1, h2, h3⟩ := h
    refine ⟨fun k hk => ?_, fun t ht => ?_, fun a b ha hb => ?_⟩
    · rw [upd_ne (by omega), upd_ne (by omega)]; exact h1 k hk
    · by_cases et : t = (cdT c).toInt.toNat
      · rw [et, upd_at]; exact rp
      · rw [upd_ne (by omega)]; exact h2 t ht
    · rw [upd_ne (by omega), upd_ne (by omega)]; exact h3 a b ha hb
  · have h8 := p8 (by omega)
    rw [chg_11 e]
    exact TV_wed ⟨rp.1, by omega⟩ ⟨rq.1, by omega⟩ (Or.inr rfl) h
  · have h8 := p8 (by omega)
    rw [chg_12 e]
    exact TV_wed ⟨rp.1, by omega⟩ ⟨rq.1, by omega⟩ (Or.inl rfl) h
  · have h8 := p8 (by omega)
    rw [chg_13 e]
    obtain ⟨h1, h2, h3⟩ := h
    have hpq : prI (psI c w.2.1) (psI c ((1 : Int32) - w.2.1)) < 9 := by unfold prI; omega
    refine ⟨fun k hk => ⟨?_, ?_⟩, fun t ht => ?_, fun a b ha hb => ?_⟩
    · rw [upd_ne (by omega)]; exact (h1 k hk).1
    · by_cases e1 : k = prI (psI c w.2.1) (psI c ((1 : Int32) - w.2.1))
      · rw [e1, upd_at]; exact Or.inr rfl
      · rw [upd_ne (by omega)]; exact (h1 k hk).2
    · rw [upd_ne (by omega)]; exact h2 t ht
    · rw [upd_ne (by omega), upd_ne (by omega)]; exact h3 a b ha hb
theorem TV_mkA {now : SV} {c : Int32} : ∀ {l : List MkT} {g : SV}, (∀ w ∈ l, PM c w ∧ GdM w) → TV g → TV (mkA now c l g)
  | [], _, _, h => h
  | w :: l, _, hl, h => TV_mkA (l := l) (fun w' hw' => hl w' (List.mem_cons_of_mem _ hw')) (TV_chg (GdM_t (hl w List.mem_cons_self).2).2 (hl w List.mem_cons_self).1 h)
/-- the STATE behind a LAWFUL CODE is one -/
theorem wy_GV {nv : List OL} {cu : List CuT} {ac : Nat → Option AcT} {g : SV} {c set laws : Int32} (hG : GdL nv cu ac) (h1 : GV g) (h2 : GW g) (hPM : ∀ a, actO ac c laws = some a → ∀ w ∈ a.2.2.2.2, PM c w) (hr : (wyO cu g c set (actO ac c laws)).1.toInt = -1) : GV (wyO cu g c set (actO ac c laws)).2 ∧ GW (wyO cu g c set (actO ac c laws)).2 := by
  cases hO : actO ac c laws with
  | none =>
    rw [hO] at hr
    exact absurd (show (30 : Int32).toInt = -1 from hr) (by decide)
  | some a =>
    rw [hO] at hr
    have hGA := hG.2.2 _ a (actO_s hO).1
    have hP := hPM a hO
    show GV (wyN cu g c set a (ndI g (cdA c) (cdB c) (cdT c) a.2.2.2.1 0)).2 ∧ GW (wyN cu g c set a (ndI g (cdA c) (cdB c) (cdT c) a.2.2.2.1 0)).2
    have hr1 : (wyN cu g c set a (ndI g (cdA c) (cdB c) (cdT c) a.2.2.2.1 0)).1.toInt = -1 := hr
    clear hr
    generalize ndI g (cdA c) (cdB c) (cdT c) a.2.2.2.1 0 = o1 at hr1 ⊢
    cases o1 with
    | some i => exact ⟨h1, h2⟩
    | none =>
      show GV (wyC g c a (cuI g (cdA c) (cdB c) (cdT c) (c / 64) set cu 0)).2 ∧ GW (wyC g c a (cuI g (cdA c) (cdB c) (cdT c) (c / 64) set cu 0)).2
      have hr2 : (wyC g c a (cuI g (cdA c) (cdB c) (cdT c) (c / 64) set cu 0)).1.toInt = -1 := hr1
      clear hr1
      generalize cuI g (cdA c) (cdB c) (cdT c) (c / 64) set cu 0 = o2 at hr2 ⊢
      cases o2 with
      | some i => exact ⟨h1, h2⟩
      | none =>
        show GV (wyB (mkA g c a.2.2.2.2 g)).2 ∧ GW (wyB (mkA g c a.2.2.2.2 g)).2
        have hr3 : (wyB (mkA g c a.2.2.2.2 g)).1.toInt = -1 := hr2
        by_cases hB : inB (mkA g c a.2.2.2.2 g)
        · rw [wyB_y hB]
          exact GV_of (TV_mkA (fun w hw => ⟨hP w hw, hGA.2.2 w hw⟩) (TV_of h1 h2)) hB
        · rw [wyB_n hB] at hr3
          exact absurd hr3 (show ¬ (20 : Int32).toInt = -1 from by decide)
/-- how far a row goes: how many, why not on, the STATE there -/
def flO (cu : List CuT) (ac : Nat → Option AcT) (laws set : Int32) : List Int32 → Nat → SV → Int32 × Int32 × SV
  | [], n, g => (nI n, -1, g)
  | c :: r, n, g => if (wyO cu g c set (actO ac c laws)).1.toInt = -1 then flO cu ac laws set r (n + 1) (wyO cu g c set (actO ac c laws)).2 else (nI n, (wyO cu g c set (actO ac c laws)).1, g)
theorem flO_y {cu : List CuT} {ac : Nat → Option AcT} {laws set c : Int32} {r : List Int32} {n : Nat} {g : SV} (h : (wyO cu g c set (actO ac c laws)).1.toInt = -1) : flO cu ac laws set (c :: r) n g = flO cu ac laws set r (n + 1) (wyO cu g c set (actO ac c laws)).2 := if_pos h
theorem flO_n {cu : List CuT} {ac : Nat → Option AcT} {laws set c : Int32} {r : List Int32} {n : Nat} {g : SV} (h : (wyO cu g c set (actO ac c laws)).1.toInt ≠ -1) : flO cu ac laws set (c :: r) n g = (nI n, (wyO cu g c set (actO ac c laws)).1, g) := if_neg h
theorem r_7_getE (cy : Nat → ClassId) (tE : Nat) (S : KS) (i : Nat) (x : Int32) (post : Int32 → KS → Prop) (hi : i < 6) (hx : 0 ≤ x.toInt ∧ x.toInt < 12) (k : post (ar S.1 (6 + i) x.toInt.toNat) S) : w_X7_get cy tE S i x post := by
  have hr : rowN i = 12 := by
    unfold rowN
    rw [if_neg (by omega)]
  unfold w_X7_get w_X7_get_B22 w_X7_get_B23
  rw [hr]
  have e12 : (Int32.ofNat 12).toInt = 12 := by decide
  rw [e12]
  exact ⟨fun h => by exfalso; omega, fun h => ⟨by omega, by omega, fun h2 => by exfalso; omega, fun h2 => ⟨by omega, by omega, ⟨h, by show x.toInt < ((12 : Nat) : Int); omega⟩, k⟩⟩⟩
set_option maxHeartbeats 1000000 in
theorem r_2_followE (cy : Nat → ClassId) (tE : Nat) (S : KS) (i : Nat) (laws set : Int32) (post : Int32 → KS → Prop) (nv : List OL) (cu : List CuT) (ac : Nat → Option AcT) (g : SV) (cs : List Int32) (hi : i < 6) (hH : HQx cy S nv cu ac) (hG : GdL nv cu ac) (hg : AGR (ar S.1 1) g) (hl : fi S.1 (1 + 2 * i) = nI cs.length) (hl2 : cs.length ≤ 12) (hcs : ∀ (t : Nat) (c : Int32), cs[t]? = some c → ar S.1 (6 + i) t = c ∧ (0 ≤ c.toInt ∧ c.toInt ≤ 767)) (hPM : ∀ c a, (0 ≤ c.toInt ∧ c.toInt ≤ 767) → actO ac c laws = some a → ∀ w ∈ a.2.2.2.2, PM c w) (k : ∀ S', KW2 S S' → (∀ j, j < 5 → j ≠ 2 → j ≠ 3 → ar S'.1 (1 + j) = ar S.1 (1 + j)) → fi S'.1 22 = (flO cu ac laws set cs 0 g).2.1 → AGR (ar S'.1 4) (flO cu ac laws set cs 0 g).2.2 → post (flO cu ac laws set cs 0 g).1 S') : w_X2_follow cy tE S i 0 laws set post := by
  unfold w_X2_follow
  refine r_9_copyE cy tE S 3 0 _ g (by decide) (by decide) hg (fun S2 f2 x2 g2 => ?_)
  have hK2 : KF [] [4] [] S S2 := by
    refine ⟨f2, by rw [x2], fun _ _ => by rw [x2], fun q => by rw [x2]; exact q, fun q => ?_⟩
    unfold FLG fi at *
    rw [f2.1 17 (by decide), f2.1 18 (by decide)]
    exact q
  have hn : (nI cs.length).toInt = (cs.length : Int) := nI_toInt (by omega)
  refine lr5 (fun (T : KS) (i' : Nat) (l' s' x : Int32) => i' = i ∧ l' = laws ∧ s' = set ∧ KW2 S T ∧ (∀ j, j < 5 → j ≠ 2 → j ≠ 3 → ar T.1 (1 + j) = ar S.1 (1 + j)) ∧ fi T.1 22 = -1 ∧ ∃ (n : Nat) (rest : List Int32) (gg : SV), x = nI n ∧ n + rest.length = cs.length ∧ (∀ (t : Nat) (c : Int32), rest[t]? = some c → cs[n + t]? = some c) ∧ AGR (ar T.1 4) gg ∧ flO cu ac laws set rest n gg = flO cu ac laws set cs 0 g) (fun T _ _ _ x => (13 - x.toInt).toNat) ?_ _ _ _ _ _ ⟨rfl, rfl, rfl, KF_si (by decide) (KF_wk hK2 (by decide)), fun j h1 h2 h3 => f2.2.2.1 _ (by
      intro q
      have := List.mem_singleton.mp q
      omega), si_at _ _ _, 0, cs, g, rfl, Nat.zero_add _, fun t c h => (by rw [Nat.zero_add]; exact h), g2, rfl⟩
  rintro kk T i' l' s' x ⟨rfl, rfl, rfl, hT, hrow, h22, n, rest, gg, rfl, hlen, hrest, hAG, hfl⟩ hk
  unfold w_X2_follow_F16 w_X2_follow_B74
  have xn : (nI n).toInt = (n : Int) := nI_toInt (by omega)
  have ec : fi T.1 (1 + 2 * i') = nI cs.length := by
    rw [← hl]
    exact hT.1.1 _ (by
      intro q
      rcases (show i' = 0 ∨ i' = 1 ∨ i' = 2 ∨ i' = 3 ∨ i' = 4 ∨ i' = 5 by omega) with rfl | rfl | rfl | rfl | rfl | rfl <;> revert q <;> decide)
  rw [ec, hn]
  refine ⟨by omega, fun hge => ⟨by omega, ?_⟩, fun hlt => ⟨by omega, ?_⟩⟩
  · rcases rest with _ | ⟨c, rest⟩
    · have hf : flO cu ac l' s' cs 0 g = (nI n, -1, gg) := hfl.symm
      rw [hf] at k
      have en : n = cs.length := by simpa using hlen
      rw [← en]
      exact k T hT hrow h22 hAG
    · simp only [List.length_cons] at hlen
      exfalso; omega
  rcases rest with _ | ⟨c, rest⟩
  · simp only [List.length_nil] at hlen
    exfalso; omega
  simp only [List.length_cons] at hlen
  have hc0 := hrest 0 c rfl
  obtain ⟨ha, hcr⟩ := hcs n c hc0
  refine r_7_getE cy tE T i' (nI n) _ hi (by omega) ?_
  have e6 : ar T.1 (6 + i') = ar S.1 (6 + i') := hT.1.2.2.1 _ (by
    intro q
    rcases (show i' = 0 ∨ i' = 1 ∨ i' = 2 ∨ i' = 3 ∨ i' = 4 ∨ i' = 5 by omega) with rfl | rfl | rfl | rfl | rfl | rfl <;> revert q <;> decide)
  have en : (nI n).toInt.toNat = n := by omega
  rw [en, e6, ha]
  have hHT : HQx cy T nv cu ac := HQx_cg hH hT.2.1 (hT.2.2.1 1 (by decide)) (hT.2.2.1 2 (by decide)) (hT.2.2.2.1 (by obtain ⟨A, h, -⟩ := hH; exact h))
  refine r_2_whyE cy tE T 3 c l' s' _ nv cu ac gg (by decide) hHT hG hAG hcr (fun a h => hPM c a hcr h) (fun U hU hrU h3U => ?_)
  have hU2 : KW2 S U := KF_tr hT (KF_wk hU (by decide))
  have hrow2 : ∀ j, j < 5 → j ≠ 2 → j ≠ 3 → ar U.1 (1 + j) = ar S.1 (1 + j) := fun j h1 h2 h3 => (hrU j h1 h2).trans (hrow j h1 h2 h3)
  refine ⟨fun hz => ?_, fun hz => ?_⟩
  · have h3V := h3U hz
    refine r_9_copyE cy tE _ 3 2 _ (wyO cu gg c s' (actO ac c l')).2 (by decide) (by decide) h3V (fun V fV xV gV => ?_)
    have hKV : KF [22] [4] [] U V := by
      refine ⟨(Fr.si (k := 22) (by decide) Fr.rf : Fr [22] [] [4] [] U.1 _).tr (fV.wk (by decide)), by rw [xV] <;> rfl, fun _ _ => by rw [xV] <;> rfl, fun q => by rw [xV]; exact q, fun q => ?_⟩
      unfold FLG at *
      have v17 : fi V.1 17 = fi U.1 17 := (fV.1 17 (by decide)).trans (si_ne (by decide))
      have v18 : fi V.1 18 = fi U.1 18 := (fV.1 18 (by decide)).trans (si_ne (by decide))
      rw [v17, v18]
      exact q
    have v22 : fi V.1 22 = -1 := (fV.1 22 (by decide)).trans ((si_at _ _ _).trans (i_eq (by rw [hz]; decide)))
    refine hk _ _ _ _ _ ⟨rfl, rfl, rfl, KF_tr hU2 (KF_wk hKV (by decide)), fun j h1 h2 h3 => ?_, v22, n + 1, rest, _, nI_inc (by omega), by omega, fun t c' h => ?_, gV, (flO_y hz).symm.trans hfl⟩ ?_
    · have q1 : ar V.1 (1 + j) = ar U.1 (1 + j) := fV.2.2.1 _ (by
        intro q
        have := List.mem_singleton.mp q
        omega)
      exact q1.trans (hrow2 j h1 h2 h3)
    · have h5 := hrest (t + 1) c' h
      have e5 : n + 1 + t = n + (t + 1) := by omega
      rw [e5]; exact h5
    · rw [nI_inc (by omega), nI_toInt (by omega), xn]
      omega
  · have hf : flO cu ac l' s' cs 0 g = (nI n, (wyO cu gg c s' (actO ac c l')).1, gg) := hfl.symm.trans (flO_n hz)
    rw [hf] at k
    refine k _ (KF_si (by decide) hU2) (fun j h1 h2 h3 => hrow2 j h1 h2 h3) (si_at _ _ _) ?_
    have e4 : ar (ksi U 22 (wyO cu gg c s' (actO ac c l')).1).1 4 = ar T.1 4 := hrU 3 (by decide) (by decide)
    rw [e4]
    exact hAG
