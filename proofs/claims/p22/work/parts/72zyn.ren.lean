/-- what takes a renaming back; two of them, one behind the other -/
def ivN (r : Nat) : Nat := if r = 3 then 4 else if r = 4 then 3 else r
def cmN (r s : Nat) : Nat := 2 * bcN r (bcN s 0) + (if bcN r (bcN s 0) < bcN r (bcN s 1) then bcN r (bcN s 1) - 1 else bcN r (bcN s 1))
theorem bc_lt : ∀ r, r < 6 → ∀ y, y < 3 → bcN r y < 3 := by decide +kernel
theorem bc_le : ∀ r, r < 6 → ∀ y, y < 4 → bcN r y < 4 := by decide +kernel
theorem bc_ne : ∀ r, r < 6 → ∀ p, p < 3 → ∀ q, q < 3 → p ≠ q → bcN r p ≠ bcN r q := by decide +kernel
theorem iv_6 : ∀ r, r < 6 → ivN r < 6 := by decide +kernel
theorem iv_bc : ∀ r, r < 6 → ∀ y, y < 4 → bcN (ivN r) (bcN r y) = y := by decide +kernel
theorem bc_iv : ∀ r, r < 6 → ∀ y, y < 4 → bcN r (bcN (ivN r) y) = y := by decide +kernel
theorem cm_6 : ∀ r, r < 6 → ∀ s, s < 6 → cmN r s < 6 := by decide +kernel
theorem cm_bc : ∀ r, r < 6 → ∀ s, s < 6 → ∀ y, y < 4 → bcN (cmN r s) y = bcN r (bcN s y) := by decide +kernel
theorem nI_n {n : Nat} (h : n < 1000) : (nI n).toInt.toNat = n := by rw [nI_toInt (by omega)]; omega
/-- g is f with PERSONS and THINGS renamed -/
def REN (P T : Nat) (f g : SV) : Prop := (∀ p, p < 3 → g (bcN P p) = f p) ∧ (∀ p q, p < 3 → q < 3 → p ≠ q → g (10 + (3 * bcN P p + bcN P q)) = f (10 + (3 * p + q)) ∧ g (20 + (3 * bcN P p + bcN P q)) = f (20 + (3 * p + q)) ∧ g (30 + (3 * bcN P p + bcN P q)) = f (30 + (3 * p + q))) ∧ (∀ t, t < 3 → g (40 + bcN T t) = nI (bcN P (f (40 + t)).toInt.toNat)) ∧ g 50 = f 50
def rn (P T : Nat) (f : SV) : SV := fun n => if n < 3 then f (bcN (ivN P) n) else if 40 ≤ n then (if n < 43 then nI (bcN P (f (40 + bcN (ivN T) (n - 40))).toInt.toNat) else f n) else f (n / 10 * 10 + (3 * bcN (ivN P) (n % 10 / 3) + bcN (ivN P) (n % 10 % 3)))
section
variable {P T : Nat} {f : SV}
theorem rn_c {n : Nat} (h : n < 3) : rn P T f n = f (bcN (ivN P) n) := if_pos h
theorem rn_o {t : Nat} (h : t < 3) : rn P T f (40 + t) = nI (bcN P (f (40 + bcN (ivN T) t)).toInt.toNat) := by
  unfold rn
  rw [if_neg (by omega), if_pos (by omega), if_pos (by omega), Nat.add_sub_cancel_left]
theorem rn_50 : rn P T f 50 = f 50 := by
  unfold rn
  rw [if_neg (by decide), if_pos (by decide), if_neg (by decide)]
theorem rn_k {c k : Nat} (hc : c = 10 ∨ c = 20 ∨ c = 30) (hk : k < 9) : rn P T f (c + k) = f (c + (3 * bcN (ivN P) (k / 3) + bcN (ivN P) (k % 3))) := by
  unfold rn
  have e1 : (c + k) / 10 * 10 = c := by omega
  have e2 : (c + k) % 10 = k := by omega
  rw [if_neg (by omega), if_neg (by omega), e1, e2]
theorem GV_rn (hP : P < 6) (hT : T < 6) (hf : GV f) : GV (rn P T f) := by
  obtain ⟨h1, h2, h3, h4⟩ := hf
  refine ⟨fun p hp => ?_, fun k hk => ?_, fun t ht => ?_, ?_⟩
  · rw [rn_c hp]; exact h1 _ (bc_lt _ (iv_6 P hP) p hp)
  · have a := bc_lt _ (iv_6 P hP) (k / 3) (by omega)
    have b := bc_lt _ (iv_6 P hP) (k % 3) (by omega)
    rw [rn_k (c := 10) (Or.inl rfl) hk, rn_k (c := 20) (Or.inr (Or.inl rfl)) hk, rn_k (c := 30) (Or.inr (Or.inr rfl)) hk]
    exact h2 _ (by omega)
  · have a := h3 _ (bc_lt _ (iv_6 T hT) t ht)
    have b := bc_le P hP (f (40 + bcN (ivN T) t)).toInt.toNat (by omega)
    rw [rn_o ht, nI_toInt (by omega)]
    omega
  · rw [rn_50]; exact h4
theorem GW_rn (hP : P < 6) (hW : GW f) : GW (rn P T f) := by
  intro p q hp hq
  have a := bc_lt _ (iv_6 P hP) p hp
  have b := bc_lt _ (iv_6 P hP) q hq
  have e1 : (3 * p + q) / 3 = p := by omega
  have e2 : (3 * p + q) % 3 = q := by omega
  have e3 : (3 * q + p) / 3 = q := by omega
  have e4 : (3 * q + p) % 3 = p := by omega
  have x := rn_k (P := P) (T := T) (f := f) (c := 20) (k := 3 * p + q) (Or.inr (Or.inl rfl)) (by omega)
  have y := rn_k (P := P) (T := T) (f := f) (c := 20) (k := 3 * q + p) (Or.inr (Or.inl rfl)) (by omega)
  rw [e1, e2] at x
  rw [e3, e4] at y
  rw [x, y]
  exact hW _ _ a b
theorem REN_rn (hP : P < 6) (hT : T < 6) : REN P T f (rn P T f) := by
  refine ⟨fun p hp => ?_, fun p q hp hq hpq => ?_, fun t ht => ?_, rn_50⟩
  · rw [rn_c (bc_lt P hP p hp), iv_bc P hP p (by omega)]
  · have a := bc_lt P hP p hp
    have b := bc_lt P hP q hq
    have e1 : (3 * bcN P p + bcN P q) / 3 = bcN P p := by omega
    have e2 : (3 * bcN P p + bcN P q) % 3 = bcN P q := by omega
    have key : ∀ c, (c = 10 ∨ c = 20 ∨ c = 30) → rn P T f (c + (3 * bcN P p + bcN P q)) = f (c + (3 * p + q)) := by
      intro c hc
      rw [rn_k hc (by omega), e1, e2, iv_bc P hP p (by omega), iv_bc P hP q (by omega)]
    exact ⟨key 10 (Or.inl rfl), key 20 (Or.inr (Or.inl rfl)), key 30 (Or.inr (Or.inr rfl))⟩
  · rw [rn_o (bc_lt T hT t ht), iv_bc T hT t (by omega)]
theorem REN_u {g h : SV} (hP : P < 6) (hT : T < 6) (hg : REN P T f g) (hh : REN P T f h) : EQV g h := by
  have pair : ∀ k, k < 9 → k ≠ 0 → k ≠ 4 → k ≠ 8 → g (10 + k) = h (10 + k) ∧ g (20 + k) = h (20 + k) ∧ g (30 + k) = h (30 + k) := by
    intro k hk k0 k4 k8
    have a := bc_lt _ (iv_6 P hP) (k / 3) (by omega)
    have b := bc_lt _ (iv_6 P hP) (k % 3) (by omega)
    have n1 := bc_ne _ (iv_6 P hP) (k / 3) (by omega) (k % 3) (by omega) (by omega)
    have x := hg.2.1 _ _ a b n1
    have y := hh.2.1 _ _ a b n1
    rw [bc_iv P hP (k / 3) (by omega), bc_iv P hP (k % 3) (by omega)] at x y
    have e : 3 * (k / 3) + k % 3 = k := by omega
    rw [e] at x y
    exact ⟨x.1.trans y.1.symm, x.2.1.trans y.2.1.symm, x.2.2.trans y.2.2.symm⟩
  intro n m
  rcases m with m | m | m | m | m | m
  · have a := bc_lt _ (iv_6 P hP) n m
    have x := (hg.1 _ a).trans (hh.1 _ a).symm
    rw [bc_iv P hP n (by omega)] at x
    exact x
  · have x := (pair (n - 10) (by omega) (by omega) (by omega) (by omega)).1
    rw [show 10 + (n - 10) = n by omega] at x
    exact x
  · have x := (pair (n - 20) (by omega) (by omega) (by omega) (by omega)).2.1
    rw [show 20 + (n - 20) = n by omega] at x
    exact x
  · have x := (pair (n - 30) (by omega) (by omega) (by omega) (by omega)).2.2
    rw [show 30 + (n - 30) = n by omega] at x
    exact x
  · have a := bc_lt _ (iv_6 T hT) (n - 40) (by omega)
    have x := (hg.2.2.1 _ a).trans (hh.2.2.1 _ a).symm
    rw [bc_iv T hT (n - 40) (by omega), show 40 + (n - 40) = n by omega] at x
    exact x
  · rw [m]
    exact hg.2.2.2.trans hh.2.2.2.symm
theorem REN_E {g h : SV} (hP : P < 6) (hT : T < 6) (hg : REN P T f g) (e : EQV g h) : REN P T f h := by
  refine ⟨fun p hp => ?_, fun p q hp hq hpq => ?_, fun t ht => ?_, ?_⟩
  · have a := bc_lt P hP p hp
    exact (e _ (Or.inl a)).symm.trans (hg.1 p hp)
  · obtain ⟨m1, m2, m3⟩ := mpl_p (bc_lt P hP p hp) (bc_lt P hP q hq) (bc_ne P hP p hp q hq hpq)
    have x := hg.2.1 p q hp hq hpq
    exact ⟨(e _ m1).symm.trans x.1, (e _ m2).symm.trans x.2.1, (e _ m3).symm.trans x.2.2⟩
  · have a := bc_lt T hT t ht
    exact (e _ (by unfold mpl; omega)).symm.trans (hg.2.2.1 t ht)
  · exact (e _ (by unfold mpl; omega)).symm.trans hg.2.2.2
theorem REN_iv {g : SV} (hP : P < 6) (hT : T < 6) (hf : GV f) (h : REN P T f g) : REN (ivN P) (ivN T) g f := by
  refine ⟨fun p hp => ?_, fun p q hp hq hpq => ?_, fun t ht => ?_, h.2.2.2.symm⟩
  · have x := h.1 _ (bc_lt _ (iv_6 P hP) p hp)
    rw [bc_iv P hP p (by omega)] at x
    exact x.symm
  · have x := h.2.1 _ _ (bc_lt _ (iv_6 P hP) p hp) (bc_lt _ (iv_6 P hP) q hq) (bc_ne _ (iv_6 P hP) p hp q hq hpq)
    rw [bc_iv P hP p (by omega), bc_iv P hP q (by omega)] at x
    exact ⟨x.1.symm, x.2.1.symm, x.2.2.symm⟩
  · have a := bc_lt _ (iv_6 T hT) t ht
    have x := h.2.2.1 _ a
    rw [bc_iv T hT t (by omega)] at x
    have y := hf.2.2.1 _ a
    generalize f (40 + bcN (ivN T) t) = z at x y ⊢
    have b := bc_le P hP z.toInt.toNat (by omega)
    rw [x, nI_n (by omega), iv_bc P hP _ (by omega)]
    exact i_eq (by rw [nI_toInt (by omega)]; omega)
theorem REN_cm {P' T' : Nat} {g k : SV} (hf : GV f) (hP : P < 6) (hT : T < 6) (hP' : P' < 6) (hT' : T' < 6) (h : REN P T f g) (h' : REN P' T' g k) : REN (cmN P' P) (cmN T' T) f k := by
  refine ⟨fun p hp => ?_, fun p q hp hq hpq => ?_, fun t ht => ?_, h'.2.2.2.trans h.2.2.2⟩
  · rw [cm_bc P' hP' P hP p (by omega)]
    exact (h'.1 _ (bc_lt P hP p hp)).trans (h.1 p hp)
  · rw [cm_bc P' hP' P hP p (by omega), cm_bc P' hP' P hP q (by omega)]
    have x := h'.2.1 _ _ (bc_lt P hP p hp) (bc_lt P hP q hq) (bc_ne P hP p hp q hq hpq)
    have y := h.2.1 p q hp hq hpq
    exact ⟨x.1.trans y.1, x.2.1.trans y.2.1, x.2.2.trans y.2.2⟩
  · have y := hf.2.2.1 t ht
    have x := h'.2.2.1 _ (bc_lt T hT t ht)
    rw [h.2.2.1 t ht] at x
    rw [cm_bc T' hT' T hT t (by omega), x]
    generalize f (40 + t) = z at y ⊢
    have b := bc_le P hP z.toInt.toNat (by omega)
    rw [nI_n (by omega), cm_bc P' hP' P hP _ (by omega)]
end
/-- ALIKE but for names -/
def ORB (f g : SV) : Prop := ∃ P T, P < 6 ∧ T < 6 ∧ REN P T f g
theorem ORB_sy {f g : SV} (hf : GV f) (h : ORB f g) : ORB g f := by
  obtain ⟨P, T, hP, hT, h⟩ := h
  exact ⟨_, _, iv_6 P hP, iv_6 T hT, REN_iv hP hT hf h⟩
/-- the least of k 0 .. k n -/
def mn (k : Nat → Int) : Nat → Int
  | 0 => k 0
  | n + 1 => if k (n + 1) < mn k n then k (n + 1) else mn k n
theorem mn_le (k : Nat → Int) : ∀ n i, i ≤ n → mn k n ≤ k i
  | 0, i, h => by
    obtain rfl : i = 0 := by omega
    exact Int.le_refl _
  | n + 1, i, h => by
    have a := mn_le k n
    show (if k (n + 1) < mn k n then k (n + 1) else mn k n) ≤ k i
    by_cases c : k (n + 1) < mn k n
    · rw [if_pos c]
      by_cases e : i = n + 1
      · rw [e]; exact Int.le_refl _
      · have := a i (by omega)
        omega
    · rw [if_neg c]
      by_cases e : i = n + 1
      · rw [e]; omega
      · exact a i (by omega)
theorem mn_at (k : Nat → Int) : ∀ n, ∃ i, i ≤ n ∧ mn k n = k i
  | 0 => ⟨0, Nat.le_refl _, rfl⟩
  | n + 1 => by
    obtain ⟨i, h1, h2⟩ := mn_at k n
    show ∃ i, i ≤ n + 1 ∧ (if k (n + 1) < mn k n then k (n + 1) else mn k n) = k i
    by_cases c : k (n + 1) < mn k n
    · rw [if_pos c]; exact ⟨n + 1, Nat.le_refl _, rfl⟩
    · rw [if_neg c]; exact ⟨i, by omega, h2⟩
/-- the least that a STATE is by any renaming -/
def MNF (K : SV → Int) (f : SV) : Int := mn (fun i => K (rn (i / 6) (i % 6) f)) 35
theorem orb_le {K : SV → Int} {f g : SV} (hK : ∀ f g, EQV f g → K f = K g) (hf : GV f) (h : ORB f g) : MNF K f ≤ MNF K g := by
  obtain ⟨P, T, hP, hT, h⟩ := h
  obtain ⟨i, hi, e⟩ := mn_at (fun i => K (rn (i / 6) (i % 6) g)) 35
  have h1 : i / 6 < 6 := by omega
  have h2 : i % 6 < 6 := by omega
  have h3 := REN_cm hf hP hT h1 h2 h (REN_rn (f := g) h1 h2)
  have hA := cm_6 _ h1 P hP
  have hB := cm_6 _ h2 T hT
  generalize cmN (i / 6) P = A at h3 hA
  generalize cmN (i % 6) T = B at h3 hB
  have h4 : K (rn A B f) = K (rn (i / 6) (i % 6) g) := hK _ _ (REN_u hA hB (REN_rn hA hB) h3)
  have l : MNF K f ≤ K (rn ((6 * A + B) / 6) ((6 * A + B) % 6) f) := mn_le (fun i => K (rn (i / 6) (i % 6) f)) 35 (6 * A + B) (by omega)
  have e1 : (6 * A + B) / 6 = A := by omega
  have e2 : (6 * A + B) % 6 = B := by omega
  rw [e1, e2, h4] at l
  have e3 : MNF K g = K (rn (i / 6) (i % 6) g) := e
  rw [e3]
  exact l
theorem orb_eq {K : SV → Int} {f g : SV} (hK : ∀ f g, EQV f g → K f = K g) (hf : GV f) (hg : GV g) (h : ORB f g) : MNF K f = MNF K g := Int.le_antisymm (orb_le hK hf h) (orb_le hK hg (ORB_sy hf h))
theorem orb_of {K : SV → Int} {f g : SV} (hin : ∀ f g, GV f → GV g → GW f → GW g → K f = K g → EQV f g) (hf : GV f) (hg : GV g) (wf : GW f) (wg : GW g) (h : MNF K f = MNF K g) : ORB f g := by
  obtain ⟨i, hi, e⟩ := mn_at (fun i => K (rn (i / 6) (i % 6) f)) 35
  obtain ⟨j, hj, e2⟩ := mn_at (fun i => K (rn (i / 6) (i % 6) g)) 35
  have q : K (rn (i / 6) (i % 6) f) = K (rn (j / 6) (j % 6) g) := e.symm.trans (Eq.trans h e2)
  have i1 : i / 6 < 6 := by omega
  have i2 : i % 6 < 6 := by omega
  have j1 : j / 6 < 6 := by omega
  have j2 : j % 6 < 6 := by omega
  have z := hin _ _ (GV_rn i1 i2 hf) (GV_rn j1 j2 hg) (GW_rn i1 wf) (GW_rn j1 wg) q
  exact ⟨_, _, cm_6 _ (iv_6 _ j1) _ i1, cm_6 _ (iv_6 _ j2) _ i2, REN_cm hf i1 i2 (iv_6 _ j1) (iv_6 _ j2) (REN_E i1 i2 (REN_rn i1 i2) z) (REN_iv j1 j2 hg (REN_rn j1 j2))⟩
/-- ALIKE to the class, ALIKE to the reference -/
theorem alk_iff {f g : SV} (hf : GV f) (hg : GV g) (wf : GW f) (wg : GW g) : MNF ckI f = MNF ckI g ↔ MNF pkI f = MNF pkI g :=
  ⟨fun h => orb_eq (fun _ _ => pkI_cg) hf hg (orb_of (fun _ _ a b c d e => ckI_in a b c d e) hf hg wf wg h), fun h => orb_eq (fun _ _ => ckI_cg) hf hg (orb_of (fun _ _ a b c d e => pkI_in a b c d e) hf hg wf wg h)⟩
/-- how many keys of the first n are new -/
def nwB (key : Nat → Int) (i : Nat) : Bool := (List.range i).all (fun j => decide (key j ≠ key i))
def cF (key : Nat → Int) : Nat → Nat
  | 0 => 0
  | n + 1 => cF key n + (if nwB key n = true then 1 else 0)
theorem nwB_y {key : Nat → Int} {i : Nat} : nwB key i = true ↔ ∀ j, j < i → key j ≠ key i := by
  unfold nwB
  rw [List.all_eq_true]
  exact ⟨fun h j hj => of_decide_eq_true (h j (List.mem_range.mpr hj)), fun h j hj => decide_eq_true (h j (List.mem_range.mp hj))⟩
theorem cF_y {key : Nat → Int} {n : Nat} (h : ∀ j, j < n → key j ≠ key n) : cF key (n + 1) = cF key n + 1 := by
  show cF key n + (if nwB key n = true then 1 else 0) = _
  rw [if_pos (nwB_y.mpr h)]
theorem cF_n {key : Nat → Int} {n : Nat} (h : ∃ j, j < n ∧ key j = key n) : cF key (n + 1) = cF key n := by
  obtain ⟨j, h1, h2⟩ := h
  show cF key n + (if nwB key n = true then 1 else 0) = _
  rw [if_neg (fun z => nwB_y.mp z j h1 h2), Nat.add_zero]
theorem cF_le {key : Nat → Int} : ∀ n, cF key n ≤ n
  | 0 => Nat.le_refl _
  | n + 1 => by
    have := cF_le (key := key) n
    show cF key n + (if nwB key n = true then 1 else 0) ≤ n + 1
    by_cases c : nwB key n = true
    · rw [if_pos c]; omega
    · rw [if_neg c]; omega
theorem cF_cg {key key' : Nat → Int} : ∀ {n : Nat}, (∀ i j, i < n → j < i → (key j = key i ↔ key' j = key' i)) → cF key n = cF key' n
  | 0, _ => rfl
  | n + 1, h => by
    have a := cF_cg (key := key) (key' := key') (n := n) (fun i j h1 h2 => h i j (by omega) h2)
    by_cases c : ∃ j, j < n ∧ key j = key n
    · obtain ⟨j, c1, c2⟩ := c
      rw [cF_n ⟨j, c1, c2⟩, cF_n ⟨j, c1, (h n j (by omega) c1).mp c2⟩, a]
    · have c1 : ∀ j, j < n → key j ≠ key n := fun j hj e => c ⟨j, hj, e⟩
      rw [cF_y c1, cF_y (fun j hj e => c1 j hj ((h n j (by omega) hj).mpr e)), a]
/-- the names of the kinds that were seen -/
def NMS (nm : Nat → Int64) (key : Nat → Int) (n m : Nat) : Prop := m = cF key n ∧ (∀ j, j < m → ∃ i, i < n ∧ (nm j).toInt = key i) ∧ ∀ i, i < n → ∃ j, j < m ∧ (nm j).toInt = key i
theorem NMS_0 {nm : Nat → Int64} {key : Nat → Int} : NMS nm key 0 0 := ⟨rfl, fun j h => absurd h (Nat.not_lt_zero j), fun j h => absurd h (Nat.not_lt_zero j)⟩
theorem NMS_o {nm : Nat → Int64} {key : Nat → Int} {n m j : Nat} (h : NMS nm key n m) (hj : j < m) (e : (nm j).toInt = key n) : NMS nm key (n + 1) m := by
  obtain ⟨h1, h2, h3⟩ := h
  obtain ⟨i, i1, i2⟩ := h2 j hj
  refine ⟨?_, fun j' hj' => ?_, fun i' hi' => ?_⟩
  · rw [cF_n ⟨i, i1, i2.symm.trans e⟩]; exact h1
  · obtain ⟨x, x1, x2⟩ := h2 j' hj'
    exact ⟨x, by omega, x2⟩
  · by_cases c : i' = n
    · rw [c]; exact ⟨j, hj, e⟩
    · exact h3 i' (by omega)
theorem NMS_n {nm : Nat → Int64} {key : Nat → Int} {n m : Nat} {v : Int64} (h : NMS nm key n m) (hn : ∀ j, j < m → (nm j).toInt ≠ key n) (e : v.toInt = key n) : NMS (vp_updL nm m v) key (n + 1) (m + 1) := by
  obtain ⟨h1, h2, h3⟩ := h
  refine ⟨?_, fun j hj => ?_, fun i hi => ?_⟩
  · rw [cF_y (fun i hi q => ?_), h1]
    obtain ⟨j, j1, j2⟩ := h3 i hi
    exact hn j j1 (j2.trans q)
  · by_cases c : j = m
    · rw [c, upl_at]; exact ⟨n, by omega, e⟩
    · rw [upl_ne c]
      obtain ⟨x, x1, x2⟩ := h2 j (by omega)
      exact ⟨x, by omega, x2⟩
  · by_cases c : i = n
    · rw [c]; exact ⟨m, by omega, by rw [upl_at]; exact e⟩
    · obtain ⟨j, j1, j2⟩ := h3 i (by omega)
      exact ⟨j, by omega, by rw [upl_ne (by omega)]; exact j2⟩
