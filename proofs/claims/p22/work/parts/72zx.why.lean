/-- a, b, t of a CODE -/
def cdA (c : Int32) : Int32 := (c >>> ((4 : Int32) &&& 31)) &&& 3
def cdB (c : Int32) : Int32 := (c >>> ((2 : Int32) &&& 31)) &&& 3
def cdT (c : Int32) : Int32 := c &&& 3
set_option maxRecDepth 100000 in
theorem cdW_all : ∀ n, n < 768 → (cdA (nI n)).toInt = ((n / 16 % 4 : Nat) : Int) ∧ (cdB (nI n)).toInt = ((n / 4 % 4 : Nat) : Int) ∧ (cdT (nI n)).toInt = ((n % 4 : Nat) : Int) := by decide +kernel
theorem cd_v {c : Int32} (hc : 0 ≤ c.toInt ∧ c.toInt ≤ 767) : (cdA c).toInt = c.toInt / 16 % 4 ∧ (cdB c).toInt = c.toInt / 4 % 4 ∧ (cdT c).toInt = c.toInt % 4 := by
  have e : c = nI c.toInt.toNat := i_eq (by rw [nI_toInt (by omega)]; omega)
  have h := cdW_all c.toInt.toNat (by omega)
  rw [← e] at h
  omega
theorem cd_r {c : Int32} : (0 ≤ (cdA c).toInt ∧ (cdA c).toInt ≤ 3) ∧ (0 ≤ (cdB c).toInt ∧ (cdB c).toInt ≤ 3) ∧ (0 ≤ (cdT c).toInt ∧ (cdT c).toInt ≤ 3) := ⟨i_and (by decide), i_and (by decide), i_and (by decide)⟩
/-- the ACT fits the CODE -/
abbrev ftA (a : AcT) (c : Int32) : Prop := (cdA c).toInt ≠ 3 ∧ ((a.2.1.toInt = 0 → (cdB c).toInt = 3) ∧ (a.2.1.toInt ≠ 0 → (cdB c).toInt ≠ 3 ∧ (cdB c).toInt ≠ (cdA c).toInt)) ∧ ((a.2.2.1.toInt = 0 → (cdT c).toInt = 3) ∧ (a.2.2.1.toInt ≠ 0 → (cdT c).toInt ≠ 3))
abbrev lwB (c laws : Int32) : Prop := ((laws >>> (((c / 64) / 6) &&& 31)) &&& 1).toInt = 0
def fitO (o : Option AcT) (c : Int32) : Option AcT := match o with
  | none => none
  | some a => if ftA a c then some a else none
/-- the ACT of a CODE by these LAWS -/
def actO (ac : Nat → Option AcT) (c laws : Int32) : Option AcT := if lwB c laws then none else fitO (ac (c / 64).toInt.toNat) c
theorem actO_l {ac : Nat → Option AcT} {c laws : Int32} (h : lwB c laws) : actO ac c laws = none := if_pos h
theorem actO_0 {ac : Nat → Option AcT} {c laws : Int32} (h : ac (c / 64).toInt.toNat = none) : actO ac c laws = none := by
  unfold actO
  by_cases g : lwB c laws
  · rw [if_pos g]
  · rw [if_neg g, h] <;> rfl
theorem actO_n {ac : Nat → Option AcT} {c laws : Int32} {a : AcT} (h : ac (c / 64).toInt.toNat = some a) (hf : ¬ ftA a c) : actO ac c laws = none := by
  unfold actO
  by_cases g : lwB c laws
  · rw [if_pos g]
  · rw [if_neg g, h]; exact if_neg hf
theorem actO_y {ac : Nat → Option AcT} {c laws : Int32} {a : AcT} (g : ¬ lwB c laws) (h : ac (c / 64).toInt.toNat = some a) (hf : ftA a c) : actO ac c laws = some a := by
  unfold actO
  rw [if_neg g, h]; exact if_pos hf
/-- the first need that is not so, from the i-th on -/
def ndI (g : SV) (a b t : Int32) : List OL → Nat → Option Nat
  | [], _ => none
  | l :: r, i => if (rkV g a b t l).toInt = 0 then some i else ndI g a b t r (i + 1)
def cuI (g : SV) (a b t x set : Int32) : List CuT → Nat → Option Nat
  | [], _ => none
  | w :: r, i => if ((set >>> (nI i &&& 31)) &&& 1).toInt = 1 ∧ w.1.toInt = x.toInt ∧ (rkV g a b t w.2).toInt = 0 then some i else cuI g a b t x set r (i + 1)
/-- whom a make is of -/
def psI (c f : Int32) : Int32 := if f.toInt = 0 then cdA c else if f.toInt = 1 then cdB c else 3
def prI (p q : Int32) : Nat := 3 * p.toInt.toNat + q.toInt.toNat
/-- one make -/
def chg (k p q t m : Int32) (g : SV) : SV := if k.toInt = 7 then upd g p.toInt.toNat (g p.toInt.toNat + m) else if k.toInt = 8 then upd g (10 + prI p q) (g (10 + prI p q) + m) else if k.toInt = 9 then upd g (40 + t.toInt.toNat) p else if k.toInt = 11 then upd (upd g (20 + prI p q) 1) (20 + prI q p) 1 else if k.toInt = 12 then upd (upd g (20 + prI p q) 0) (20 + prI q p) 0 else if k.toInt = 13 then upd g (30 + prI p q) 1 else upd g 50 (g 50 + m)
def mk1 (now : SV) (c : Int32) (w : MkT) (g : SV) : SV := chg w.1 (psI c w.2.1) (psI c ((1 : Int32) - w.2.1)) (cdT c) (rkV now (cdA c) (cdB c) (cdT c) w.2.2) g
def mkA (now : SV) (c : Int32) : List MkT → SV → SV
  | [], g => g
  | w :: r, g => mkA now c r (mk1 now c w g)
abbrev in15 (x : Int32) : Prop := 0 ≤ x.toInt ∧ x.toInt ≤ 15
abbrev in7 (x : Int32) : Prop := 0 ≤ x.toInt ∧ x.toInt ≤ 7
/-- in the bounds -/
abbrev inB (g : SV) : Prop := (∀ p, p < 3 → in15 (g p)) ∧ (∀ k, k < 9 → in7 (g (10 + k))) ∧ in15 (g 50)
/-- why a CODE is not LAWFUL, and the STATE behind it -/
def wyB (g : SV) : Int32 × SV := if inB g then (-1, g) else (20, g)
def wyC (g : SV) (c : Int32) (a : AcT) (o : Option Nat) : Int32 × SV := match o with
  | some i => ((10 : Int32) + nI i, g)
  | none => wyB (mkA g c a.2.2.2.2 g)
def wyN (cu : List CuT) (g : SV) (c set : Int32) (a : AcT) (o : Option Nat) : Int32 × SV := match o with
  | some i => (nI i, g)
  | none => wyC g c a (cuI g (cdA c) (cdB c) (cdT c) (c / 64) set cu 0)
def wyO (cu : List CuT) (g : SV) (c set : Int32) (o : Option AcT) : Int32 × SV := match o with
  | none => (30, g)
  | some a => wyN cu g c set a (ndI g (cdA c) (cdB c) (cdT c) a.2.2.2.1 0)
/-- what a make needs to be of -/
def PM (c : Int32) (w : MkT) : Prop := (w.1.toInt = 7 → (psI c w.2.1).toInt ≠ 3) ∧ (w.1.toInt = 8 ∨ w.1.toInt = 11 ∨ w.1.toInt = 12 ∨ w.1.toInt = 13 → (psI c w.2.1).toInt ≠ 3 ∧ (psI c ((1 : Int32) - w.2.1)).toInt ≠ 3 ∧ (psI c w.2.1).toInt ≠ (psI c ((1 : Int32) - w.2.1)).toInt) ∧ (w.1.toInt = 9 → (cdT c).toInt ≠ 3)
theorem psI_r {c f : Int32} : 0 ≤ (psI c f).toInt ∧ (psI c f).toInt ≤ 3 := by
  obtain ⟨h1, h2, -⟩ := cd_r (c := c)
  unfold psI
  by_cases e : f.toInt = 0
  · rw [if_pos e]; exact h1
  rw [if_neg e]
  by_cases e2 : f.toInt = 1
  · rw [if_pos e2]; exact h2
  · rw [if_neg e2]; decide
theorem psI_0 {c f : Int32} (h : f.toInt = 0) : psI c f = cdA c := if_pos h
theorem psI_1 {c f : Int32} (h : f.toInt = 1) : psI c f = cdB c := by
  unfold psI; rw [if_neg (by omega), if_pos h]
theorem psI_2 {c f : Int32} (h : f.toInt ≠ 0) (h2 : f.toInt ≠ 1) : psI c f = 3 := by
  unfold psI; rw [if_neg h, if_neg h2]
/-- alike at all places of a STATE -/
def AGR (f g : SV) : Prop := ∀ n, n < 51 → f n = g n
theorem AGR_upd {f g : SV} {k : Nat} {x : Int32} (h : AGR f g) : AGR (upd f k x) (upd g k x) := by
  intro n hn
  by_cases e : n = k
  · rw [e, upd_at, upd_at]
  · rw [upd_ne e, upd_ne e]; exact h n hn
theorem chg_7 {k p q t m : Int32} {g : SV} (h : k.toInt = 7) : chg k p q t m g = upd g p.toInt.toNat (g p.toInt.toNat + m) := if_pos h
theorem chg_8 {k p q t m : Int32} {g : SV} (h : k.toInt = 8) : chg k p q t m g = upd g (10 + prI p q) (g (10 + prI p q) + m) := by
  unfold chg; rw [if_neg (by omega), if_pos h]
theorem chg_9 {k p q t m : Int32} {g : SV} (h : k.toInt = 9) : chg k p q t m g = upd g (40 + t.toInt.toNat) p := by
  unfold chg; rw [if_neg (by omega), if_neg (by omega), if_pos h]
theorem chg_11 {k p q t m : Int32} {g : SV} (h : k.toInt = 11) : chg k p q t m g = upd (upd g (20 + prI p q) 1) (20 + prI q p) 1 := by
  unfold chg; rw [if_neg (by omega), if_neg (by omega), if_neg (by omega), if_pos h]
theorem chg_12 {k p q t m : Int32} {g : SV} (h : k.toInt = 12) : chg k p q t m g = upd (upd g (20 + prI p q) 0) (20 + prI q p) 0 := by
  unfold chg; rw [if_neg (by omega), if_neg (by omega), if_neg (by omega), if_neg (by omega), if_pos h]
theorem chg_13 {k p q t m : Int32} {g : SV} (h : k.toInt = 13) : chg k p q t m g = upd g (30 + prI p q) 1 := by
  unfold chg; rw [if_neg (by omega), if_neg (by omega), if_neg (by omega), if_neg (by omega), if_neg (by omega), if_pos h]
theorem chg_14 {k p q t m : Int32} {g : SV} (h : k.toInt = 14) : chg k p q t m g = upd g 50 (g 50 + m) := by
  unfold chg; rw [if_neg (by omega), if_neg (by omega), if_neg (by omega), if_neg (by omega), if_neg (by omega), if_neg (by omega)]
theorem r_9_setE (cy : Nat → ClassId) (tE : Nat) (S : KS) (i : Nat) (x v : Int32) (post : KS → Prop) (hi : i < 5) (hx : 0 ≤ x.toInt ∧ x.toInt < 51) (k : post (ksu S (1 + i) x.toInt.toNat v)) : w_X9_set cy tE S i x v post := by
  unfold w_X9_set w_X9_set_B20
  exact ⟨fun h => by exfalso; omega, fun h => ⟨hi, hi, fun h2 => by exfalso; omega, fun h2 => ⟨hi, hi, ⟨h, h2⟩, k⟩⟩⟩
theorem r_9_copyE (cy : Nat → ClassId) (tE : Nat) (S : KS) (i j : Nat) (post : KS → Prop) (g : SV) (hi : i < 5) (hj : j < 5) (hg : AGR (ar S.1 (1 + j)) g) (k : ∀ S', Fr [] [] [1 + i] [] S.1 S'.1 → S'.2 = S.2 → AGR (ar S'.1 (1 + i)) g → post S') : w_X9_copy cy tE S i j post := by
  refine ⟨hj, hi, hi, hi, hj, hi, k _ (Fr_sa (List.mem_singleton.mpr rfl) Fr.rf) rfl (fun n hn => ?_)⟩
  have e : ar (ksa S (1 + i) (va_cpy (ar S.1 (1 + j)) (ar S.1 (1 + i)) 0 0 51)).1 (1 + i) = va_cpy (ar S.1 (1 + j)) (ar S.1 (1 + i)) 0 0 51 := if_pos rfl
  rw [e]
  unfold va_cpy
  rw [if_pos (by omega)]
  have e2 : 0 + (n - 0) = n := by omega
  rw [e2]
  exact hg n hn
set_option maxHeartbeats 1000000 in
theorem r_9_changeE (cy : Nat → ClassId) (tE : Nat) (S : KS) (kd p q t m : Int32) (post : KS → Prop) (g : SV) (hg : AGR (ar S.1 3) g) (hk : kd.toInt = 7 ∨ kd.toInt = 8 ∨ kd.toInt = 14 ∨ kd.toInt = 9 ∨ kd.toInt = 11 ∨ kd.toInt = 12 ∨ kd.toInt = 13) (rp : 0 ≤ p.toInt ∧ p.toInt ≤ 3) (rq : 0 ≤ q.toInt ∧ q.toInt ≤ 3) (rt : 0 ≤ t.toInt ∧ t.toInt ≤ 3) (h7 : kd.toInt = 7 → p.toInt ≠ 3) (h8 : kd.toInt = 8 ∨ kd.toInt = 11 ∨ kd.toInt = 12 ∨ kd.toInt = 13 → p.toInt ≠ 3 ∧ q.toInt ≠ 3) (h9 : kd.toInt = 9 → t.toInt ≠ 3) (k : ∀ S', Fr [] [] [3] [] S.1 S'.1 → S'.2 = S.2 → AGR (ar S'.1 3) (chg kd p q t m g) → post S') : w_X9_change cy tE S 2 kd p q t m post := by
  have one : ∀ (x : Int32) (n : Nat) (v : Int32) (P : KS → Prop), x.toInt = (n : Int) → n < 51 → (∀ S', Fr [] [] [3] [] S.1 S'.1 → S'.2 = S.2 → AGR (ar S'.1 3) (upd g n v) → P S') → w_X9_set cy tE S 2 x v P := by
    intro x n v P hx hn hP
    refine r_9_setE cy tE S 2 x v P (by decide) (by omega) (hP _ (Fr.su (by decide) Fr.rf) rfl ?_)
    have e : x.toInt.toNat = n := by omega
    have eA : ar (ksu S (1 + 2) x.toInt.toNat v).1 3 = upd (ar S.1 3) x.toInt.toNat v := su_at _ _ _ _
    rw [eA, e]
    exact AGR_upd hg
  have pair : ∀ c : Int32, (0 ≤ c.toInt ∧ c.toInt ≤ 30) → (p.toInt ≠ 3 ∧ q.toInt ≠ 3) → (c + (((3 : Int32) * p) + q)).toInt = ((c.toInt.toNat + prI p q : Nat) : Int) ∧ (c + ((3 : Int32) * p) + q).toInt = ((c.toInt.toNat + prI p q : Nat) : Int) ∧ (c + ((3 : Int32) * q) + p).toInt = ((c.toInt.toNat + prI q p : Nat) : Int) ∧ prI p q < 9 ∧ prI q p < 9 := by
    intro c hc hpq
    have e1 := ma_3 (p := p) (q := q) (by omega) (by omega)
    have e2 := pr_c (c := c) (p := p) (q := q) (by omega) rp rq
    have e3 := pr_c (c := c) (p := q) (q := p) (by omega) rq rp
    unfold prI
    refine ⟨?_, ?_, ?_, by omega, by omega⟩
    · rw [ad_ab (by omega) (by omega), e1]; omega
    · rw [e2]; omega
    · rw [e3]; omega
  have b164 : kd.toInt = 14 → w_X9_change_B164 cy tE post S 2 m := by
    intro e
    refine ⟨by decide, r_9_getE cy tE S 2 50 _ (by decide) (by decide) ⟨by decide, one 50 50 _ _ (by decide) (by decide) (fun S' h1 h2 h3 => k S' h1 h2 ?_)⟩⟩
    have e50 : (50 : Int32).toInt.toNat = 50 := by decide
    rw [e50] at h3
    rw [chg_14 e, ← hg 50 (by decide)]
    exact h3
  have b105 : (kd.toInt = 11 ∨ kd.toInt = 12) → w_X9_change_B105 cy tE post S 2 kd p q (((3 : Int32) * p) + q) := by
    intro e
    obtain ⟨x1, x2, x3, x4, x5⟩ := pair 20 (by decide) (h8 (by omega))
    have e20 : (20 : Int32).toInt.toNat = 20 := by decide
    rw [e20] at x1 x2 x3
    have two : ∀ (v : Int32) (S1 : KS), Fr [] [] [3] [] S.1 S1.1 → S1.2 = S.2 → AGR (ar S1.1 3) (upd g (20 + prI p q) v) → (∀ S', Fr [] [] [3] [] S.1 S'.1 → S'.2 = S.2 → AGR (ar S'.1 3) (upd (upd g (20 + prI p q) v) (20 + prI q p) v) → post S') → w_X9_change_B145 cy tE post S1 v (((20 : Int32) + ((3 : Int32) * q)) + p) 2 := by
      intro v S1 f1 f2 f3 hP
      refine ⟨by decide, r_9_setE cy tE S1 2 _ v _ (by decide) (by omega) (hP _ (Fr.su (by decide) f1) f2 ?_)⟩
      have e : (((20 : Int32) + ((3 : Int32) * q)) + p).toInt.toNat = 20 + prI q p := by omega
      have eA : ar (ksu S1 (1 + 2) (((20 : Int32) + ((3 : Int32) * q)) + p).toInt.toNat v).1 3 = upd (ar S1.1 3) (((20 : Int32) + ((3 : Int32) * q)) + p).toInt.toNat v := su_at _ _ _ _
      rw [eA, e]
      exact AGR_upd f3
    refine ⟨fun h => ?_, fun h => ?_⟩
    · have e12 : kd.toInt = 12 := by omega
      refine ⟨by decide, one _ _ _ _ x1 (by omega) (fun S1 f1 f2 f3 => ⟨fun _ => two 0 S1 f1 f2 f3 (fun S' h1 h2 h3 => k S' h1 h2 (by rw [chg_12 e12]; exact h3)), fun q => absurd q h⟩)⟩
    · refine ⟨by decide, one _ _ _ _ x1 (by omega) (fun S1 f1 f2 f3 => ⟨fun q => absurd h q, fun _ => two 1 S1 f1 f2 f3 (fun S' h1 h2 h3 => k S' h1 h2 (by rw [chg_11 h]; exact h3))⟩)⟩
  unfold w_X9_change w_X9_change_B179
  have X : ∀ {n : Int} {P : Prop}, kd.toInt = n → kd.toInt ≠ n → P := fun h1 h2 => absurd h1 h2
  refine ⟨fun e => ⟨by decide, r_9_getE cy tE S 2 p _ (by decide) (by have := h7 e; omega) ⟨by decide, one p p.toInt.toNat _ _ (by omega) (by omega) (fun S' h1 h2 h3 => k S' h1 h2 ?_)⟩⟩, fun e => ?_, fun e => ⟨by decide, one _ (40 + t.toInt.toNat) _ _ ?_ (by omega) (fun S' h1 h2 h3 => k S' h1 h2 (by rw [chg_9 e]; exact h3))⟩, fun e => by exfalso; omega, fun e => b105 (Or.inl e), fun e => b105 (Or.inr e), fun e => ?_, fun e => b164 (by omega)⟩
  · have hp := h7 e
    rw [chg_7 e, ← hg p.toInt.toNat (by omega)]
    exact h3
  · obtain ⟨x1, x2, x3, x4, x5⟩ := pair 10 (by decide) (h8 (by omega))
    have e10 : (10 : Int32).toInt.toNat = 10 := by decide
    rw [e10] at x1
    refine ⟨by decide, r_9_getE cy tE S 2 _ _ (by decide) (by omega) ⟨by decide, one _ _ _ _ x1 (by omega) (fun S' h1 h2 h3 => k S' h1 h2 ?_)⟩⟩
    have e : ((10 : Int32) + (((3 : Int32) * p) + q)).toInt.toNat = 10 + prI p q := by omega
    rw [e] at h3
    rw [chg_8 (by assumption), ← hg (10 + prI p q) (by omega)]
    exact h3
  · have ht := h9 e
    rw [ad_ab (by rw [li_40]; omega) (by rw [li_40]; omega), li_40]
    omega
  · obtain ⟨x1, x2, x3, x4, x5⟩ := pair 30 (by decide) (h8 (by omega))
    have e30 : (30 : Int32).toInt.toNat = 30 := by decide
    rw [e30] at x1
    exact ⟨by decide, one _ _ _ _ x1 (by omega) (fun S' h1 h2 h3 => k S' h1 h2 (by rw [chg_13 e]; exact h3))⟩
