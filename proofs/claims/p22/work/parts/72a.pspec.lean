abbrev YR : Type := Nat × Nat × List (Int32 × Int32) × Bool × Bool
/-- the tokens: kinds, values, places -/
abbrev TS : Type := (Nat → Int32) × (Nat → Int64) × (Nat → Int32)
def ypOk (j : Nat) : YR := (0, j, [], false, false)
def ypNo (c j : Nat) : YR := (c, j, [], false, false)
theorem ypNo_x {c j : Nat} {P : Prop} (h : (ypNo (c + 1) j).1 = 0) : P := absurd h (Nat.succ_ne_zero c)
def ypEm (k v : Int32) (j : Nat) : YR := (0, j, [(k, v)], false, false)
def ypFl (x y : Bool) (j : Nat) : YR := (0, j, [], x, y)
/-- one behind the other -/
def ypBn (r : YR) (f : Nat → YR) : YR := if r.1 = 0 then ((f r.2.1).1, (f r.2.1).2.1, r.2.2.1 ++ (f r.2.1).2.2.1, r.2.2.2.1 || (f r.2.1).2.2.2.1, r.2.2.2.2 || (f r.2.1).2.2.2.2) else r
theorem ypBn_g {r : YR} {f : Nat → YR} (h : r.1 = 0) : ypBn r f = ((f r.2.1).1, (f r.2.1).2.1, r.2.2.1 ++ (f r.2.1).2.2.1, r.2.2.2.1 || (f r.2.1).2.2.2.1, r.2.2.2.2 || (f r.2.1).2.2.2.2) := if_pos h
theorem ypBn_b {r : YR} {f : Nat → YR} (h : r.1 ≠ 0) : ypBn r f = r := if_neg h
theorem ypBn_c {r : YR} {f g : Nat → YR} (h : r.1 = 0 → f r.2.1 = g r.2.1) : ypBn r f = ypBn r g := by
  by_cases e : r.1 = 0
  · rw [ypBn_g e, ypBn_g e, h e]
  · rw [ypBn_b e, ypBn_b e]
theorem ypBn_as (r : YR) (f g : Nat → YR) : ypBn (ypBn r f) g = ypBn r (fun j => ypBn (f j) g) := by
  by_cases e : r.1 = 0
  · by_cases e2 : (f r.2.1).1 = 0
    · have e3 : (ypBn r f).1 = 0 := by rw [ypBn_g e]; exact e2
      rw [ypBn_g e3, ypBn_g (r := r) (f := fun j => ypBn (f j) g) e]
      simp only [ypBn_g e, ypBn_g e2, List.append_assoc, Bool.or_assoc]
    · have e3 : (ypBn r f).1 ≠ 0 := by rw [ypBn_g e]; exact e2
      rw [ypBn_b e3, ypBn_g e, ypBn_g e, ypBn_b e2]
  · rw [ypBn_b e, ypBn_b e, ypBn_b e]
theorem ypBn_ok (j : Nat) (f : Nat → YR) : ypBn (ypOk j) f = f j := by
  rw [ypBn_g (show (ypOk j).1 = 0 from rfl)]
  simp [ypOk]
theorem ypBn_r (r : YR) : ypBn r ypOk = r := by
  by_cases e : r.1 = 0
  · rw [ypBn_g e]
    obtain ⟨a, b, c, d, x⟩ := r
    simp [ypOk] at e ⊢
    exact e.symm
  · exact ypBn_b e
theorem ypBn_r2 {r : YR} {f : Nat → YR} (h : r.1 = 0 → f r.2.1 = ypOk r.2.1) : ypBn r f = r := (ypBn_c h).trans (ypBn_r r)
theorem ypBn_1 {r : YR} {f : Nat → YR} (h : (ypBn r f).1 = 0) : r.1 = 0 ∧ (f r.2.1).1 = 0 := by
  by_cases e : r.1 = 0
  · rw [ypBn_g e] at h; exact ⟨e, h⟩
  · rw [ypBn_b e] at h; exact absurd h e
/-- so long as an a or b stands there: f behind it, and then its operation -/
def ypWh (Z : TS) (a b : Int) (f : Nat → YR) : Nat → Nat → YR
  | 0, j => ypOk j
  | n + 1, j => if (Z.1 j).toInt = a ∨ (Z.1 j).toInt = b then ypBn (ypBn (f (j + 1)) (ypEm (Z.1 j) 0)) (ypWh Z a b f n) else ypOk j
theorem ypWh_n {Z : TS} {a b : Int} {f : Nat → YR} {n j : Nat} (h : ¬ ((Z.1 j).toInt = a ∨ (Z.1 j).toInt = b)) : ypWh Z a b f n j = ypOk j := by
  cases n with
  | zero => rfl
  | succ n => exact if_neg h
theorem ypWh_y {Z : TS} {a b : Int} {f : Nat → YR} {n j : Nat} (h : (Z.1 j).toInt = a ∨ (Z.1 j).toInt = b) : ypWh Z a b f (n + 1) j = ypBn (ypBn (f (j + 1)) (ypEm (Z.1 j) 0)) (ypWh Z a b f n) := if_pos h
def ypLs (Z : TS) (a b : Int) (f : Nat → YR) (j : Nat) : YR := ypBn (f j) (ypWh Z a b f 800)
/-- two such rows, one in the other, as one: acc is read, e waits -/
def ypFL (Z : TS) (a b c : Int) (f : Nat → YR) (acc : YR) (e : Nat → YR) (nt np : Nat) : YR := ypBn (ypBn (ypBn acc (ypWh Z a a f nt)) e) (ypWh Z b c (ypLs Z a a f) np)
theorem ypFL_st (Z : TS) (a b c : Int) (f : Nat → YR) (j : Nat) : ypLs Z b c (ypLs Z a a f) j = ypFL Z a b c f (f j) ypOk 800 800 := by
  show ypBn (ypBn (f j) (ypWh Z a a f 800)) (ypWh Z b c (ypLs Z a a f) 800) = ypBn (ypBn (ypBn (f j) (ypWh Z a a f 800)) ypOk) _
  rw [ypBn_r]
theorem ypFL_b {Z : TS} {a b c : Int} {f : Nat → YR} {acc : YR} {e : Nat → YR} {nt np : Nat} (h : acc.1 ≠ 0) : ypFL Z a b c f acc e nt np = acc := by
  unfold ypFL
  rw [ypBn_b (r := acc) h, ypBn_b (r := acc) h, ypBn_b (r := acc) h]
theorem ypFL_in {Z : TS} {a b c : Int} {f : Nat → YR} {acc : YR} {e : Nat → YR} {n np : Nat} (h : (Z.1 acc.2.1).toInt = a) : ypFL Z a b c f acc e (n + 1) np = ypFL Z a b c f (ypBn acc (fun i => ypBn (f (i + 1)) (ypEm (Z.1 i) 0))) e n np := by
  unfold ypFL
  congr 2
  rw [ypBn_as]
  exact ypBn_c (fun _ => ypWh_y (Or.inl h))
theorem ypFL_out {Z : TS} {a b c : Int} {f : Nat → YR} {acc : YR} {e : Nat → YR} {n np : Nat} (h : (Z.1 acc.2.1).toInt = b ∨ (Z.1 acc.2.1).toInt = c) (ha : (Z.1 acc.2.1).toInt ≠ a) (he : (e acc.2.1).1 = 0 ∧ (e acc.2.1).2.1 = acc.2.1) : ypFL Z a b c f acc e n (np + 1) = ypFL Z a b c f (ypBn (ypBn acc e) (fun i => f (i + 1))) (ypEm (Z.1 acc.2.1) 0) 800 np := by
  unfold ypFL
  rw [ypBn_r2 (r := acc) (f := ypWh Z a a f n) (fun _ => ypWh_n (by omega))]
  by_cases e0 : acc.1 = 0
  · have e1 : (ypBn acc e).2.1 = acc.2.1 := by rw [ypBn_g e0]; exact he.2
    generalize ypBn acc e = X at e1 ⊢
    rw [ypBn_as X, ypBn_as X, ypBn_as X]
    refine ypBn_c (fun _ => ?_)
    rw [e1, ypWh_y h]
    rfl
  · rw [ypBn_b (r := acc) e0, ypBn_b (r := acc) e0, ypBn_b (r := acc) e0, ypBn_b (r := acc) e0, ypBn_b (r := acc) e0, ypBn_b (r := acc) e0]
theorem ypFL_no {Z : TS} {a b c : Int} {f : Nat → YR} {acc : YR} {e : Nat → YR} {n np : Nat} (h : (Z.1 acc.2.1).toInt ≠ a ∧ (Z.1 acc.2.1).toInt ≠ b ∧ (Z.1 acc.2.1).toInt ≠ c) (he : (e acc.2.1).1 = 0 ∧ (e acc.2.1).2.1 = acc.2.1) : ypFL Z a b c f acc e n np = ypBn acc e := by
  unfold ypFL
  rw [ypBn_r2 (r := acc) (f := ypWh Z a a f n) (fun _ => ypWh_n (by omega))]
  refine ypBn_r2 (fun e2 => ?_)
  have e0 : acc.1 = 0 := (ypBn_1 e2).1
  have e1 : (ypBn acc e).2.1 = acc.2.1 := by rw [ypBn_g e0]; exact he.2
  rw [e1]
  exact ypWh_n (by omega)
/-- one P, or two unlike ones -/
def ypPe (Z : TS) (two : Bool) (j : Nat) : YR := if (Z.1 j).toInt = 21 ∨ (Z.1 j).toInt = 22 then (if two = true then (if (Z.1 (j + 1)).toInt = 43 - (Z.1 j).toInt then ypFl true false (j + 2) else ypNo 1 (j + 1)) else ypFl (decide ((Z.1 j).toInt = 22)) false (j + 1)) else ypNo 1 j
/-- U -/
def ypOp (Z : TS) (j : Nat) : YR := if (Z.1 j).toInt = 2 then ypEm (Z.1 j) (Z.2.1 j).toInt32 (j + 1) else if (Z.1 j).toInt = 14 then ypEm (Z.1 j) 0 (j + 1) else if (Z.1 j).toInt = 7 ∨ (Z.1 j).toInt = 19 ∨ (Z.1 j).toInt = 20 then ypBn (ypPe Z false (j + 1)) (fun i => (0, i, [(Z.1 j, Z.1 (j + 1) - 21)], false, decide ((Z.1 j).toInt = 19))) else if (Z.1 j).toInt = 8 ∨ (Z.1 j).toInt = 11 ∨ (Z.1 j).toInt = 18 then ypBn (ypPe Z true (j + 1)) (fun i => (0, i, [(Z.1 j, Z.1 (j + 1) - 21)], false, decide ((Z.1 j).toInt = 19))) else ypNo 1 j
/-- E -/
def ypSum (Z : TS) : Nat → YR := ypLs Z 24 25 (ypLs Z 26 26 (ypOp Z))
/-- E sign E -/
def ypCmp (Z : TS) (j : Nat) : YR := ypBn (ypSum Z j) (fun i => if (Z.1 i).toInt = 29 ∨ (Z.1 i).toInt = 30 ∨ (Z.1 i).toInt = 31 then ypBn (ypSum Z (i + 1)) (ypEm (Z.1 i) 0) else ypNo 1 i)
/-- B, of what C is -/
def ypAny (Z : TS) (f : Nat → YR) : Nat → YR := ypLs Z 15 15 (ypLs Z 16 16 f)
def ypEnd (Z : TS) (i : Nat) : YR := if (Z.1 i).toInt = 28 then ypOk (i + 1) else ypNo 1 i
/-- C, where so many more may be opened -/
def ypCl (Z : TS) : Nat → Nat → YR
  | 0 => fun j => if (Z.1 j).toInt = 17 ∨ (Z.1 j).toInt = 27 then ypNo 3 j else ypCmp Z j
  | d + 1 => fun j => if (Z.1 j).toInt = 17 then ypBn (ypCl Z d (j + 1)) (ypEm 17 0) else if (Z.1 j).toInt = 27 then ypBn (ypAny Z (ypCl Z d) (j + 1)) (ypEnd Z) else ypCmp Z j
/-- a B, and nothing behind it -/
def ypCond (Z : TS) (j : Nat) : YR := ypBn (ypAny Z (ypCl Z 8) j) (fun i => if (Z.1 i).toInt = 0 then ypOk i else ypNo 1 i)
theorem ypBn_2 {r : YR} {f : Nat → YR} (h : (ypBn r f).1 = 0) : (ypBn r f).2.1 = (f r.2.1).2.1 := by
  rw [ypBn_g (ypBn_1 h).1]
theorem ypPe_lt {Z : TS} {two : Bool} {j : Nat} (h : (ypPe Z two j).1 = 0) : j < (ypPe Z two j).2.1 := by
  unfold ypPe at h ⊢
  by_cases e : (Z.1 j).toInt = 21 ∨ (Z.1 j).toInt = 22
  · rw [if_pos e] at h ⊢
    by_cases e2 : two = true
    · rw [if_pos e2] at h ⊢
      by_cases e3 : (Z.1 (j + 1)).toInt = 43 - (Z.1 j).toInt
      · rw [if_pos e3]; show j < j + 2; omega
      · rw [if_neg e3] at h; exact ypNo_x h
    · rw [if_neg e2]; show j < j + 1; omega
  · rw [if_neg e] at h; exact ypNo_x h
theorem ypOp_lt {Z : TS} {j : Nat} (h : (ypOp Z j).1 = 0) : j < (ypOp Z j).2.1 := by
  unfold ypOp at h ⊢
  by_cases e1 : (Z.1 j).toInt = 2
  · rw [if_pos e1]; show j < j + 1; omega
  rw [if_neg e1] at h ⊢
  by_cases e2 : (Z.1 j).toInt = 14
  · rw [if_pos e2]; show j < j + 1; omega
  rw [if_neg e2] at h ⊢
  by_cases e3 : (Z.1 j).toInt = 7 ∨ (Z.1 j).toInt = 19 ∨ (Z.1 j).toInt = 20
  · rw [if_pos e3] at h ⊢
    have h1 := ypBn_1 h
    rw [ypBn_2 h]
    have := ypPe_lt h1.1
    show j < (ypPe Z false (j + 1)).2.1
    omega
  rw [if_neg e3] at h ⊢
  by_cases e4 : (Z.1 j).toInt = 8 ∨ (Z.1 j).toInt = 11 ∨ (Z.1 j).toInt = 18
  · rw [if_pos e4] at h ⊢
    have h1 := ypBn_1 h
    rw [ypBn_2 h]
    have := ypPe_lt h1.1
    show j < (ypPe Z true (j + 1)).2.1
    omega
  rw [if_neg e4] at h
  exact ypNo_x h
/-- what is read ends behind where it began -/
def ypGo (f : Nat → YR) : Prop := ∀ j, (f j).1 = 0 → j < (f j).2.1
theorem ypWh_le {Z : TS} {a b : Int} {f : Nat → YR} (hf : ypGo f) : ∀ n j, (ypWh Z a b f n j).1 = 0 → j ≤ (ypWh Z a b f n j).2.1 := by
  intro n
  induction n with
  | zero => intro j _; exact Nat.le_refl _
  | succ n ih =>
    intro j h
    by_cases e : (Z.1 j).toInt = a ∨ (Z.1 j).toInt = b
    · rw [ypWh_y e] at h ⊢
      have h1 := ypBn_1 h
      have h2 := ypBn_1 h1.1
      have h3 := hf _ h2.1
      have h4 := ih _ h1.2
      rw [ypBn_2 h]
      rw [ypBn_2 h1.1] at h4 ⊢
      have h5 : ((ypEm (Z.1 j) 0 (f (j + 1)).2.1)).2.1 = (f (j + 1)).2.1 := rfl
      rw [h5] at h4 ⊢
      omega
    · rw [ypWh_n e]; exact Nat.le_refl _
theorem ypLs_lt {Z : TS} {a b : Int} {f : Nat → YR} (hf : ypGo f) : ypGo (ypLs Z a b f) := by
  intro j h
  unfold ypLs at h ⊢
  have h1 := ypBn_1 h
  have h2 := hf _ h1.1
  have h3 := ypWh_le hf _ _ h1.2
  rw [ypBn_2 h]
  omega
theorem ypSum_lt (Z : TS) : ypGo (ypSum Z) := ypLs_lt (ypLs_lt (fun _ h => ypOp_lt h))
theorem ypCmp_lt (Z : TS) : ypGo (ypCmp Z) := by
  intro j h
  unfold ypCmp at h ⊢
  have h1 := ypBn_1 h
  have h2 := ypSum_lt Z _ h1.1
  rw [ypBn_2 h]
  have h3 := h1.2
  by_cases e : (Z.1 (ypSum Z j).2.1).toInt = 29 ∨ (Z.1 (ypSum Z j).2.1).toInt = 30 ∨ (Z.1 (ypSum Z j).2.1).toInt = 31
  · simp only [if_pos e] at h3 ⊢
    have h4 := ypBn_1 h3
    have h5 := ypSum_lt Z _ h4.1
    rw [ypBn_2 h3]
    show j < (ypSum Z ((ypSum Z j).2.1 + 1)).2.1
    omega
  · simp only [if_neg e] at h3
    exact ypNo_x h3
theorem ypCl_lt (Z : TS) : ∀ d, ypGo (ypCl Z d) := by
  intro d
  induction d with
  | zero =>
    intro j h
    unfold ypCl at h ⊢
    by_cases e : (Z.1 j).toInt = 17 ∨ (Z.1 j).toInt = 27
    · simp only [if_pos e] at h; exact ypNo_x h
    · simp only [if_neg e] at h ⊢
      exact ypCmp_lt Z _ h
  | succ d ih =>
    intro j h
    unfold ypCl at h ⊢
    by_cases e : (Z.1 j).toInt = 17
    · simp only [if_pos e] at h ⊢
      have h1 := ypBn_1 h
      have h2 := ih _ h1.1
      rw [ypBn_2 h]
      show j < (ypCl Z d (j + 1)).2.1
      omega
    · simp only [if_neg e] at h ⊢
      by_cases e2 : (Z.1 j).toInt = 27
      · simp only [if_pos e2] at h ⊢
        have h1 := ypBn_1 h
        have h2 : j + 1 < (ypAny Z (ypCl Z d) (j + 1)).2.1 := ypLs_lt (ypLs_lt ih) _ h1.1
        rw [ypBn_2 h]
        have h3 := h1.2
        unfold ypEnd at h3 ⊢
        by_cases e3 : (Z.1 (ypAny Z (ypCl Z d) (j + 1)).2.1).toInt = 28
        · rw [if_pos e3]
          show j < (ypAny Z (ypCl Z d) (j + 1)).2.1 + 1
          omega
        · rw [if_neg e3] at h3; exact ypNo_x h3
      · simp only [if_neg e2] at h ⊢
        exact ypCmp_lt Z _ h
