/-- a STATE by the class's places -/
abbrev SV : Type := Nat → Int32
def on1 (p : Prop) [Decidable p] : Nat := if p then 1 else 0
theorem on1_y {p : Prop} [Decidable p] (h : p) : on1 p = 1 := if_pos h
theorem on1_n {p : Prop} [Decidable p] (h : ¬ p) : on1 p = 0 := if_neg h
def rkT (g : SV) (p : Int32) : Int32 := nI (on1 ((g 40).toInt = p.toInt) + on1 ((g 41).toInt = p.toInt) + on1 ((g 42).toInt = p.toInt))
def rkP (g : SV) (t k p q : Int32) : Int32 := if p.toInt = 3 then 0 else if k.toInt = 7 then g p.toInt.toNat else if k.toInt = 19 then (if t.toInt = 3 then 0 else if (g (40 + t.toInt.toNat)).toInt = p.toInt then 1 else 0) else if k.toInt = 20 then rkT g p else if q.toInt = 3 then 0 else if k.toInt = 8 then g (10 + (3 * p.toInt.toNat + q.toInt.toNat)) else if k.toInt = 11 then g (20 + (3 * p.toInt.toNat + q.toInt.toNat)) else g (30 + (3 * p.toInt.toNat + q.toInt.toNat))
/-- an operand: a, b, t of the CODE -/
def rkU (g : SV) (a b t k x : Int32) : Int32 := if k.toInt = 2 then x else if k.toInt = 14 then g 50 else if x.toInt = 0 then rkP g t k a b else rkP g t k b a
def rkJ (k l r : Int32) : Int32 := if k.toInt = 15 then l ||| r else if k.toInt = 16 then l &&& r else if k.toInt = 24 then l + r else if k.toInt = 25 then l - r else if k.toInt = 26 then l * r else if k.toInt = 29 then (if l.toInt < r.toInt then 1 else 0) else if k.toInt = 30 then (if l.toInt = r.toInt then 1 else 0) else (if r.toInt < l.toInt then 1 else 0)
abbrev jK (k : Int) : Prop := k = 15 ∨ k = 16 ∨ 24 ≤ k
/-- one operation: what waits, the last first -/
def rk1 (g : SV) (a b t : Int32) (x : Int32 × Int32) (st : List Int32) : List Int32 := if jK x.1.toInt then (match st with | r :: l :: s => rkJ x.1 l r :: s | s => s) else if x.1.toInt = 17 then (match st with | v :: s => ((1 : Int32) - v) :: s | s => s) else rkU g a b t x.1 x.2 :: st
def rkA (g : SV) (a b t : Int32) : List (Int32 × Int32) → List Int32 → List Int32
  | [], st => st
  | x :: l, st => rkA g a b t l (rk1 g a b t x st)
def hd0 : List Int32 → Int32
  | [] => 0
  | v :: _ => v
/-- what the operations come to -/
def rkV (g : SV) (a b t : Int32) (l : List (Int32 × Int32)) : Int32 := hd0 (rkA g a b t l [])
theorem rk1_j {g : SV} {a b t : Int32} {x : Int32 × Int32} {l r : Int32} {s : List Int32} (h : jK x.1.toInt) : rk1 g a b t x (r :: l :: s) = rkJ x.1 l r :: s := if_pos h
theorem rk1_n {g : SV} {a b t : Int32} {x : Int32 × Int32} {v : Int32} {s : List Int32} (h : x.1.toInt = 17) : rk1 g a b t x (v :: s) = ((1 : Int32) - v) :: s := by
  unfold rk1
  rw [if_neg (by unfold jK; omega), if_pos h]
theorem rk1_u {g : SV} {a b t : Int32} {x : Int32 × Int32} {s : List Int32} (h : ¬ jK x.1.toInt) (h2 : x.1.toInt ≠ 17) : rk1 g a b t x s = rkU g a b t x.1 x.2 :: s := by
  unfold rk1
  rw [if_neg h, if_neg h2]
/-- what waits is as the kinds say -/
def VT : List Bool → List Int32 → Prop
  | [], [] => True
  | b :: ts, v :: st => (b = true → v = 0 ∨ v = 1) ∧ VT ts st
  | [], _ :: _ => False
  | _ :: _, [] => False
theorem VT_2 {x y : Bool} {ts : List Bool} {st : List Int32} (h : VT (x :: y :: ts) st) : ∃ r l s, st = r :: l :: s ∧ (x = true → r = 0 ∨ r = 1) ∧ (y = true → l = 0 ∨ l = 1) ∧ VT ts s := by
  match st, h with
  | r :: l :: s, h => exact ⟨r, l, s, rfl, h.1, h.2.1, h.2.2⟩
theorem VT_1 {x : Bool} {ts : List Bool} {st : List Int32} (h : VT (x :: ts) st) : ∃ r s, st = r :: s ∧ (x = true → r = 0 ∨ r = 1) ∧ VT ts s := by
  match st, h with
  | r :: s, h => exact ⟨r, s, rfl, h.1, h.2⟩
theorem VT_0 {st : List Int32} (h : VT [] st) : st = [] := by
  match st, h with
  | [], _ => rfl
theorem VT_l : ∀ {ts : List Bool} {st : List Int32}, VT ts st → st.length = ts.length
  | [], [], _ => rfl
  | _ :: ts, _ :: st, h => congrArg (· + 1) (VT_l (ts := ts) (st := st) h.2)
theorem b_or {l r : Int32} (h1 : l = 0 ∨ l = 1) (h2 : r = 0 ∨ r = 1) : (l ||| r) = 0 ∨ (l ||| r) = 1 := by
  rcases h1 with rfl | rfl <;> rcases h2 with rfl | rfl <;> decide
theorem b_and {l r : Int32} (h1 : l = 0 ∨ l = 1) (h2 : r = 0 ∨ r = 1) : (l &&& r) = 0 ∨ (l &&& r) = 1 := by
  rcases h1 with rfl | rfl <;> rcases h2 with rfl | rfl <;> decide
theorem b_not {l : Int32} (h1 : l = 0 ∨ l = 1) : ((1 : Int32) - l) = 0 ∨ ((1 : Int32) - l) = 1 := by
  rcases h1 with rfl | rfl <;> decide
theorem rkJ_15 {k l r : Int32} (h : k.toInt = 15) : rkJ k l r = (l ||| r) := if_pos h
theorem rkJ_16 {k l r : Int32} (h : k.toInt = 16) : rkJ k l r = (l &&& r) := by
  unfold rkJ; rw [if_neg (by omega), if_pos h]
theorem rkJ_24 {k l r : Int32} (h : k.toInt = 24) : rkJ k l r = l + r := by
  unfold rkJ; rw [if_neg (by omega), if_neg (by omega), if_pos h]
theorem rkJ_25 {k l r : Int32} (h : k.toInt = 25) : rkJ k l r = l - r := by
  unfold rkJ; rw [if_neg (by omega), if_neg (by omega), if_neg (by omega), if_pos h]
theorem rkJ_26 {k l r : Int32} (h : k.toInt = 26) : rkJ k l r = l * r := by
  unfold rkJ; rw [if_neg (by omega), if_neg (by omega), if_neg (by omega), if_neg (by omega), if_pos h]
theorem rkJ_29 {k l r : Int32} (h : k.toInt = 29) : rkJ k l r = if l.toInt < r.toInt then 1 else 0 := by
  unfold rkJ; rw [if_neg (by omega), if_neg (by omega), if_neg (by omega), if_neg (by omega), if_neg (by omega), if_pos h]
theorem rkJ_30 {k l r : Int32} (h : k.toInt = 30) : rkJ k l r = if l.toInt = r.toInt then 1 else 0 := by
  unfold rkJ; rw [if_neg (by omega), if_neg (by omega), if_neg (by omega), if_neg (by omega), if_neg (by omega), if_neg (by omega), if_pos h]
theorem rkJ_31 {k l r : Int32} (h : k.toInt = 31) : rkJ k l r = if r.toInt < l.toInt then 1 else 0 := by
  unfold rkJ; rw [if_neg (by omega), if_neg (by omega), if_neg (by omega), if_neg (by omega), if_neg (by omega), if_neg (by omega), if_neg (by omega)]
theorem ite_01 {p : Prop} [Decidable p] : (if p then (1 : Int32) else 0) = 0 ∨ (if p then (1 : Int32) else 0) = 1 := by
  by_cases h : p
  · rw [if_pos h]; exact Or.inr rfl
  · rw [if_neg h]; exact Or.inl rfl
/-- what an operation is, and what stands then -/
theorem VT_s {g : SV} {a b t : Int32} {x : Int32 × Int32} {ts ts' : List Bool} {st : List Int32} (h : TS1 ts x.1.toInt x.2.toInt ts') (hv : VT ts st) : VT ts' (rk1 g a b t x st) := by
  rcases h with ⟨⟨hk, -⟩, s, rfl, rfl⟩ | ⟨⟨hk, -⟩, s, rfl, rfl⟩ | ⟨⟨hk, -⟩, s, rfl, rfl⟩ | ⟨⟨hk, -⟩, s, rfl, rfl⟩ | ⟨hk, rfl⟩
  · obtain ⟨r, l, s', rfl, -, -, h3⟩ := VT_2 hv
    rw [rk1_j (by unfold jK; omega)]
    exact ⟨fun q => (by cases q), h3⟩
  · obtain ⟨r, l, s', rfl, -, -, h3⟩ := VT_2 hv
    rw [rk1_j (by unfold jK; omega)]
    refine ⟨fun _ => ?_, h3⟩
    rcases hk with q | q | q
    · rw [rkJ_29 q]; exact ite_01
    · rw [rkJ_30 q]; exact ite_01
    · rw [rkJ_31 q]; exact ite_01
  · obtain ⟨r, l, s', rfl, h1, h2, h3⟩ := VT_2 hv
    rw [rk1_j (by unfold jK; omega)]
    refine ⟨fun _ => ?_, h3⟩
    rcases hk with q | q
    · rw [rkJ_15 q]; exact b_or (h2 rfl) (h1 rfl)
    · rw [rkJ_16 q]; exact b_and (h2 rfl) (h1 rfl)
  · obtain ⟨r, s', rfl, h1, h3⟩ := VT_1 hv
    rw [rk1_n hk]
    exact ⟨fun _ => b_not (h1 rfl), h3⟩
  · rw [rk1_u (by unfold jK; omega) (by omega)]
    exact ⟨fun q => (by cases q), hv⟩
theorem VT_A {g : SV} {a b t : Int32} {m : Nat} : ∀ {l : List (Int32 × Int32)} {ts ts' : List Bool} {st : List Int32}, TyA m l ts ts' → VT ts st → VT ts' (rkA g a b t l st)
  | [], ts, ts', st, h, hv => by
    have e : ts' = ts := h
    rw [e]; exact hv
  | x :: l, ts, ts', st, ⟨t1, h1, h2, h3⟩, hv => VT_A (l := l) h3 (VT_s h1 hv)
theorem GdB_v {g : SV} {a b t : Int32} {l : List (Int32 × Int32)} (h : GdB l) : rkV g a b t l = 0 ∨ rkV g a b t l = 1 := by
  have h2 : VT [true] (rkA g a b t l []) := VT_A h (st := []) trivial
  obtain ⟨r, s, e, h3, -⟩ := VT_1 h2
  unfold rkV
  rw [e]
  exact h3 rfl
/-- the array of what waits: from below, the last above -/
def AG (f : Nat → Int32) : List Int32 → Prop
  | [] => True
  | v :: s => f s.length = v ∧ AG f s
theorem AG_upd {f : Nat → Int32} {k : Nat} {x : Int32} : ∀ {s : List Int32}, s.length ≤ k → AG f s → AG (upd f k x) s
  | [], _, _ => trivial
  | v :: s, hl, h => by
    simp only [List.length_cons] at hl
    exact ⟨by rw [upd_ne (by omega)]; exact h.1, AG_upd (s := s) (by omega) h.2⟩
theorem AG_push {f : Nat → Int32} {v : Int32} {s : List Int32} (h : AG f s) : AG (upd f s.length v) (v :: s) := ⟨upd_at _ _ _, AG_upd (Nat.le_refl _) h⟩
theorem AG_cg {f f' : Nat → Int32} : ∀ {s : List Int32}, (∀ i, i < s.length → f' i = f i) → AG f s → AG f' s
  | [], _, _ => trivial
  | v :: s, he, h => ⟨(he s.length (by simp only [List.length_cons]; omega)).trans h.1, AG_cg (s := s) (fun i hi => he i (by simp only [List.length_cons]; omega)) h.2⟩
/-- kind and operand of an operation -/
theorem opE_k {x : Int32 × Int32} (h1 : 0 ≤ x.1.toInt ∧ x.1.toInt ≤ 31) (h2 : 0 ≤ x.2.toInt ∧ x.2.toInt ≤ 999) : opE x - opE x / 32 * 32 = x.1 ∧ opE x / 32 = x.2 := by
  have e0 : (opE x).toInt = x.1.toInt + 32 * x.2.toInt := by
    unfold opE
    simp (disch := omega) only [Int32.toInt_add, Int32.toInt_mul, li_32, bm]
  have e1 : (opE x / 32).toInt = x.2.toInt := by
    have : (opE x / 32).toInt = (opE x).toInt / 32 := by
      simp (disch := omega) only [Int32.toInt_div, li_32, tdv, bm]
    rw [this, e0]
    omega
  have e2 : opE x / 32 = x.2 := i_eq e1
  refine ⟨i_eq ?_, e2⟩
  rw [e2]
  simp (disch := omega) only [Int32.toInt_sub, Int32.toInt_mul, li_32, bm, e0]
  omega
theorem TS1_r {ts ts' : List Bool} {x : Int32 × Int32} (h : TS1 ts x.1.toInt x.2.toInt ts') : (0 ≤ x.1.toInt ∧ x.1.toInt ≤ 31) ∧ (0 ≤ x.2.toInt ∧ x.2.toInt ≤ 999) := by
  rcases h with ⟨⟨hk, hv⟩, -⟩ | ⟨⟨hk, hv⟩, -⟩ | ⟨⟨hk, hv⟩, -⟩ | ⟨⟨hk, hv⟩, -⟩ | ⟨hk, -⟩ <;> omega
/-- which kind an operation is of: it joins two, or turns one, or is an operand -/
theorem TS1_k {ts ts' : List Bool} {x : Int32 × Int32} {st : List Int32} (h : TS1 ts x.1.toInt x.2.toInt ts') (hv : VT ts st) : (jK x.1.toInt ∧ (x.1.toInt = 15 ∨ x.1.toInt = 16 ∨ x.1.toInt = 24 ∨ x.1.toInt = 25 ∨ x.1.toInt = 26 ∨ x.1.toInt = 29 ∨ x.1.toInt = 30 ∨ x.1.toInt = 31) ∧ ∃ r l s, st = r :: l :: s) ∨ (x.1.toInt = 17 ∧ ∃ v s, st = v :: s) ∨ (¬ jK x.1.toInt ∧ x.1.toInt ≠ 17 ∧ (x.1.toInt = 2 ∨ x.1.toInt = 14 ∨ x.1.toInt = 7 ∨ x.1.toInt = 8 ∨ x.1.toInt = 11 ∨ x.1.toInt = 18 ∨ x.1.toInt = 19 ∨ x.1.toInt = 20)) := by
  rcases h with ⟨⟨hk, -⟩, s, rfl, rfl⟩ | ⟨⟨hk, -⟩, s, rfl, rfl⟩ | ⟨⟨hk, -⟩, s, rfl, rfl⟩ | ⟨⟨hk, -⟩, s, rfl, rfl⟩ | ⟨hk, rfl⟩
  · obtain ⟨r, l, s', e, -⟩ := VT_2 hv
    exact Or.inl ⟨by unfold jK; omega, by omega, r, l, s', e⟩
  · obtain ⟨r, l, s', e, -⟩ := VT_2 hv
    exact Or.inl ⟨by unfold jK; omega, by omega, r, l, s', e⟩
  · obtain ⟨r, l, s', e, -⟩ := VT_2 hv
    exact Or.inl ⟨by unfold jK; omega, by omega, r, l, s', e⟩
  · obtain ⟨r, s', e, -⟩ := VT_1 hv
    exact Or.inr (Or.inl ⟨hk, r, s', e⟩)
  · exact Or.inr (Or.inr ⟨by unfold jK; omega, by omega, by omega⟩)
