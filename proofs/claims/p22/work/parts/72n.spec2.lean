/-- a make's CHANGE, with what amount stands behind it -/
def ypMk (Z : TS) (j : Nat) : YR := ypBn (ypCh Z j) (fun i => if (Z.1 j).toInt = 7 ∨ (Z.1 j).toInt = 8 ∨ (Z.1 j).toInt = 14 then ypAm Z (decide ((Z.1 j).toInt ≠ 14)) i else ypOk i)
abbrev OL : Type := List (Int32 × Int32)
/-- a clause: its kind, its first P, its operations -/
abbrev MkT : Type := Int32 × Int32 × OL
/-- an ACT's clauses: code, token, b, t, needs, makes -/
abbrev CAc : Type := Nat × Nat × Bool × Bool × List OL × List MkT
def cnd1 (a : CAc) (r : YR) : CAc := (r.1, r.2.1, a.2.2.1 || r.2.2.2.1, a.2.2.2.1 || r.2.2.2.2, a.2.2.2.2.1 ++ [r.2.2.1], a.2.2.2.2.2)
def cmk1 (a : CAc) (k f : Int32) (r : YR) : CAc := (r.1, r.2.1, a.2.2.1 || r.2.2.2.1, a.2.2.2.1 || r.2.2.2.2, a.2.2.2.2.1, a.2.2.2.2.2 ++ [(k, f, r.2.2.1)])
/-- one clause more -/
def ypC1 (Z : TS) (a : CAc) : CAc := if (Z.1 a.2.1).toInt = 5 then (if 4 ≤ a.2.2.2.2.1.length then (3, a.2) else cnd1 a (ypAny Z (ypCl Z 8) (a.2.1 + 1))) else if (Z.1 a.2.1).toInt = 6 then (if 6 ≤ a.2.2.2.2.2.length then (3, a.2) else cmk1 a (Z.1 (a.2.1 + 1)) (ypF1 Z (a.2.1 + 1)) (ypMk Z (a.2.1 + 1))) else (1, a.2)
/-- clauses up to a ; -/
def ypCs (Z : TS) : Nat → CAc → CAc
  | 0, a => a
  | n + 1, a => if a.1 ≠ 0 ∨ (Z.1 a.2.1).toInt = 23 then a else ypCs Z n (ypC1 Z a)
theorem ypCs_a {Z : TS} {n : Nat} {a : CAc} (h : a.1 ≠ 0 ∨ (Z.1 a.2.1).toInt = 23) : ypCs Z n a = a := by
  cases n with
  | zero => rfl
  | succ n => exact if_pos h
theorem ypCs_s {Z : TS} {n : Nat} {a : CAc} (h : a.1 = 0) (g : (Z.1 a.2.1).toInt ≠ 23) : ypCs Z (n + 1) a = ypCs Z n (ypC1 Z a) := if_neg (fun q => q.elim (fun q => q h) g)
theorem ypCs_x {Z : TS} {n : Nat} {a : CAc} (h : a.1 = 0) (g : (Z.1 a.2.1).toInt ≠ 23) (hc : (ypC1 Z a).1 ≠ 0) : ypCs Z (n + 1) a = ypC1 Z a := (ypCs_s h g).trans (ypCs_a (Or.inl hc))
theorem ypC1_4 {Z : TS} {a : CAc} (h : (Z.1 a.2.1).toInt = 5) (g : 4 ≤ a.2.2.2.2.1.length) : ypC1 Z a = (3, a.2) := by
  unfold ypC1
  rw [if_pos h, if_pos g]
theorem ypC1_5 {Z : TS} {a : CAc} (h : (Z.1 a.2.1).toInt = 5) (g : ¬ 4 ≤ a.2.2.2.2.1.length) : ypC1 Z a = cnd1 a (ypAny Z (ypCl Z 8) (a.2.1 + 1)) := by
  unfold ypC1
  rw [if_pos h, if_neg g]
theorem ypC1_6 {Z : TS} {a : CAc} (h : (Z.1 a.2.1).toInt = 6) (g : 6 ≤ a.2.2.2.2.2.length) : ypC1 Z a = (3, a.2) := by
  unfold ypC1
  rw [if_neg (by omega), if_pos h, if_pos g]
theorem ypC1_7 {Z : TS} {a : CAc} (h : (Z.1 a.2.1).toInt = 6) (g : ¬ 6 ≤ a.2.2.2.2.2.length) : ypC1 Z a = cmk1 a (Z.1 (a.2.1 + 1)) (ypF1 Z (a.2.1 + 1)) (ypMk Z (a.2.1 + 1)) := by
  unfold ypC1
  rw [if_neg (by omega), if_pos h, if_neg g]
theorem ypC1_1 {Z : TS} {a : CAc} (h : (Z.1 a.2.1).toInt ≠ 5) (g : (Z.1 a.2.1).toInt ≠ 6) : ypC1 Z a = (1, a.2) := by
  unfold ypC1
  rw [if_neg h, if_neg g]
/-- an ACT, from its keyword on; nm: the names before it -/
def ypAc (Z : TS) (nm : List Int64) (j : Nat) : CAc := if 6 ≤ nm.length then (3, j, false, false, [], []) else if (Z.1 (j + 1)).toInt ≠ 3 then (1, j + 1, false, false, [], []) else if Z.2.1 (j + 1) ∈ nm then (2, j + 1, false, false, [], []) else ypCs Z 11 (0, j + 2, false, false, [], [])
/-- an ACT: its name, b, t, needs, makes -/
abbrev AcT : Type := Int64 × Int32 × Int32 × List OL × List MkT
def acOf (Z : TS) (j : Nat) (c : CAc) : AcT := (Z.2.1 (j + 1), orF 0 c.2.2.1, orF 0 c.2.2.2.1, c.2.2.2.2.1, c.2.2.2.2.2)
/-- ACTS up to the end -/
def ypSt (Z : TS) : Nat → Nat → List AcT → Nat × Nat × List AcT
  | 0, j, l => (0, j, l)
  | n + 1, j, l => if (Z.1 j).toInt = 4 then (if (ypAc Z (l.map (fun a => a.1)) j).1 = 0 then ypSt Z n ((ypAc Z (l.map (fun a => a.1)) j).2.1 + 1) (l ++ [acOf Z j (ypAc Z (l.map (fun a => a.1)) j)]) else ((ypAc Z (l.map (fun a => a.1)) j).1, (ypAc Z (l.map (fun a => a.1)) j).2.1, l)) else if (Z.1 j).toInt = 0 then (0, j, l) else (1, j, l)
theorem ypSt_g {Z : TS} {n j : Nat} {l : List AcT} (h : (Z.1 j).toInt = 4) (g : (ypAc Z (l.map (fun a => a.1)) j).1 = 0) : ypSt Z (n + 1) j l = ypSt Z n ((ypAc Z (l.map (fun a => a.1)) j).2.1 + 1) (l ++ [acOf Z j (ypAc Z (l.map (fun a => a.1)) j)]) := by
  show (if _ then _ else _) = _
  rw [if_pos h, if_pos g]
theorem ypSt_b {Z : TS} {n j : Nat} {l : List AcT} (h : (Z.1 j).toInt = 4) (g : (ypAc Z (l.map (fun a => a.1)) j).1 ≠ 0) : ypSt Z (n + 1) j l = ((ypAc Z (l.map (fun a => a.1)) j).1, (ypAc Z (l.map (fun a => a.1)) j).2.1, l) := by
  show (if _ then _ else _) = _
  rw [if_pos h, if_neg g]
theorem ypSt_0 {Z : TS} {n j : Nat} {l : List AcT} (h : (Z.1 j).toInt = 0) : ypSt Z (n + 1) j l = (0, j, l) := by
  show (if _ then _ else _) = _
  rw [if_neg (by omega), if_pos h]
theorem ypSt_1 {Z : TS} {n j : Nat} {l : List AcT} (h : (Z.1 j).toInt ≠ 0) (g : (Z.1 j).toInt ≠ 4) : ypSt Z (n + 1) j l = (1, j, l) := by
  show (if _ then _ else _) = _
  rw [if_neg g, if_neg h]
/-- never: answer, NEVERS, FAULT, its place -/
def nvO (Z : TS) (nv : List OL) : Int32 × List OL × Int × Int32 := if 6 ≤ nv.length then (-1, nv, 0, -1) else if (ypCond Z 0).1 = 0 then (nI nv.length, nv ++ [(ypCond Z 0).2.2.1], 0, -1) else (-1, nv, ((ypCond Z 0).1 : Int), Z.2.2 (ypCond Z 0).2.1)
abbrev CuT : Type := Int32 × OL
def cuO (Z : TS) (x : Int32) (cu : List CuT) : Int32 × List CuT × Int × Int32 := if 5 ≤ cu.length ∨ ¬ (0 ≤ x.toInt ∧ x.toInt ≤ 11) then (-1, cu, 0, -1) else if (ypCond Z 0).1 = 0 then (nI cu.length, cu ++ [(x, (ypCond Z 0).2.2.1)], 0, -1) else (-1, cu, ((ypCond Z 0).1 : Int), Z.2.2 (ypCond Z 0).2.1)
/-- what is enacted -/
def acE (l : Nat) (r : List AcT) (ac : Nat → Option AcT) : Nat → Option AcT := fun i => if i / 6 = l then r[i % 6]? else ac i
def stO (Z : TS) (l : Int32) (ac : Nat → Option AcT) : Int32 × (Nat → Option AcT) × Int × Int32 := if ¬ (0 ≤ l.toInt ∧ l.toInt ≤ 1) then (-1, ac, 0, -1) else if (ypSt Z 8 0 []).1 = 0 then (nI (ypSt Z 8 0 []).2.2.length, acE l.toInt.toNat (ypSt Z 8 0 []).2.2 ac, 0, -1) else (-1, ac, ((ypSt Z 8 0 []).1 : Int), Z.2.2 (ypSt Z 8 0 []).2.1)
theorem nvO_f {Z : TS} {nv : List OL} (h : 6 ≤ nv.length) : nvO Z nv = (-1, nv, 0, -1) := if_pos h
theorem nvO_g {Z : TS} {nv : List OL} (h : ¬ 6 ≤ nv.length) (g : (ypCond Z 0).1 = 0) : nvO Z nv = (nI nv.length, nv ++ [(ypCond Z 0).2.2.1], 0, -1) := by
  unfold nvO
  rw [if_neg h, if_pos g]
theorem nvO_b {Z : TS} {nv : List OL} (h : ¬ 6 ≤ nv.length) (g : (ypCond Z 0).1 ≠ 0) : nvO Z nv = (-1, nv, ((ypCond Z 0).1 : Int), Z.2.2 (ypCond Z 0).2.1) := by
  unfold nvO
  rw [if_neg h, if_neg g]
theorem cuO_f {Z : TS} {x : Int32} {cu : List CuT} (h : 5 ≤ cu.length ∨ ¬ (0 ≤ x.toInt ∧ x.toInt ≤ 11)) : cuO Z x cu = (-1, cu, 0, -1) := if_pos h
theorem cuO_g {Z : TS} {x : Int32} {cu : List CuT} (h : ¬ (5 ≤ cu.length ∨ ¬ (0 ≤ x.toInt ∧ x.toInt ≤ 11))) (g : (ypCond Z 0).1 = 0) : cuO Z x cu = (nI cu.length, cu ++ [(x, (ypCond Z 0).2.2.1)], 0, -1) := by
  unfold cuO
  rw [if_neg h, if_pos g]
theorem cuO_b {Z : TS} {x : Int32} {cu : List CuT} (h : ¬ (5 ≤ cu.length ∨ ¬ (0 ≤ x.toInt ∧ x.toInt ≤ 11))) (g : (ypCond Z 0).1 ≠ 0) : cuO Z x cu = (-1, cu, ((ypCond Z 0).1 : Int), Z.2.2 (ypCond Z 0).2.1) := by
  unfold cuO
  rw [if_neg h, if_neg g]
theorem stO_f {Z : TS} {l : Int32} {ac : Nat → Option AcT} (h : ¬ (0 ≤ l.toInt ∧ l.toInt ≤ 1)) : stO Z l ac = (-1, ac, 0, -1) := if_pos h
theorem stO_g {Z : TS} {l : Int32} {ac : Nat → Option AcT} (h : 0 ≤ l.toInt ∧ l.toInt ≤ 1) (g : (ypSt Z 8 0 []).1 = 0) : stO Z l ac = (nI (ypSt Z 8 0 []).2.2.length, acE l.toInt.toNat (ypSt Z 8 0 []).2.2 ac, 0, -1) := by
  unfold stO
  rw [if_neg (fun q => q h), if_pos g]
theorem stO_b {Z : TS} {l : Int32} {ac : Nat → Option AcT} (h : 0 ≤ l.toInt ∧ l.toInt ≤ 1) (g : (ypSt Z 8 0 []).1 ≠ 0) : stO Z l ac = (-1, ac, ((ypSt Z 8 0 []).1 : Int), Z.2.2 (ypSt Z 8 0 []).2.1) := by
  unfold stO
  rw [if_neg (fun q => q h), if_neg g]
