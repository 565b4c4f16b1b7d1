def kA (a : Nat → Nat) : Nat → Nat := fun k => a (([0, 1, 14, 15, 19, 20, 21, 22, 23, 24, 26, 27, 36, 37, 38, 39, 40, 41, 42, 43, 44, 45, 46, 47, 48, 49, 2, 3, 4, 5, 6, 7, 8, 10, 11, 16, 17, 18, 25, 28, 29, 30, 31, 32, 33, 34, 35] : List Nat).getD k 0)
def kX0 (tE : Nat) (a : Nat → Nat) (w : Nat → Int64) : KS := ((fun k => if k = 20 then (-1) else if k = 22 then (-1) else if k = 24 then 3 else if k = 25 then 3 else 0, fun _ => 0, fun j => if j = 1 then stF else if j = 2 then stF else if j = 3 then stF else if j = 4 then stF else if j = 5 then stF else (fun _ => 0), fun j => if j = 0 then w else fun _ => 0), (fun k => if k = 0 then a 9 else if k = 1 then a 12 else if k = 2 then a 13 else 1), fun _ => none, [lsC (a 9) 0 tE 0, lsC (a 12) 0 tE 0, lsC (a 13) 0 tE 0])
set_option maxRecDepth 100000 in
theorem kw_start (cy : Nat → ClassId) (tE : Nat) (a a2 : Nat → Nat) (rw : Nat → Option Nat) (w : Nat → Int64) (M : GS) : ([0, 1, 14, 15, 19, 20, 21, 22, 23, 24, 26, 27, 36, 37, 38, 39, 40, 41, 42, 43, 44, 45, 46, 47, 48, 49, 2, 3, 4, 5, 6, 7, 8, 10, 11, 16, 17, 18, 25, 28, 29, 30, 31, 32, 33, 34, 35, 9, 12, 13, 50, 51, 52, 53, 54, 55, 56, 57, 58, 59, 60, 61, 62, 63, 64, 65, 66, 67, 68, 69, 70, 71, 72, 73, 74, 75, 76, 77, 78, 79, 80, 81, 82, 83, 84, 85, 86, 87, 88, 89, 90, 91, 92, 93] : List Nat).map (fun i => (cw cy tE a rw (cS0 w) ++ mw cy a2 M)[i]?) = (kw cy (kA a) rw (kX0 tE a w) ++ mw cy a2 M).map some := rfl
theorem kA_rw {a : Nat → Nat} {rw : Nat → Option Nat} (h : ∀ i, i < 6 → rw i = some (a (36 + 2 * i))) : ∀ i, i < 6 → rw i = some (kA a (12 + 2 * i)) := by
  intro i hi
  rw [h i hi]
  rcases (show i = 0 ∨ i = 1 ∨ i = 2 ∨ i = 3 ∨ i = 4 ∨ i = 5 by omega) with rfl | rfl | rfl | rfl | rfl | rfl <;> rfl
theorem KI_0 {cy : Nat → ClassId} {tE : Nat} {a : Nat → Nat} {w : Nat → Int64} (hw : W3 w) : KI cy tE (kX0 tE a w) := by
  have z : ∀ t : Nat, ¬ ((t : Int) < (0 : Int32).toInt) := by
    intro t h
    rw [li_0] at h
    omega
  refine ⟨hw, ⟨Or.inl rfl, Or.inl rfl⟩, ?_, ⟨?_, ?_, ?_⟩, fun _ => False, 0, 1, 2, none, none, none, 0, 0, 0, fun _ => none, fun _ => none, fun _ => none, ?_, ⟨⟨0, tE, rfl, by decide, Or.inl ⟨rfl, rfl, rfl⟩⟩, ⟨0, tE, rfl, by decide, Or.inl ⟨rfl, rfl, rfl⟩⟩, ⟨0, tE, rfl, by decide, Or.inl ⟨rfl, rfl, rfl⟩⟩⟩, by decide, fun t h => absurd h (z t), fun t h => absurd h (z t), fun t h => absurd h (z t), fun i _ q h => (by cases h), fun t h => h.elim, ⟨by decide, by decide, by decide⟩, fun t h => (by cases h), fun t h => (by cases h), fun t h => (by cases h)⟩
  · show 0 ≤ (0 : Int32).toInt ∧ (0 : Int32).toInt ≤ 700
    decide
  · show 0 ≤ (0 : Int32).toInt ∧ (0 : Int32).toInt ≤ 400
    decide
  · show 0 ≤ (0 : Int32).toInt ∧ (0 : Int32).toInt ≤ 400
    decide
  · show 0 ≤ (0 : Int32).toInt ∧ (0 : Int32).toInt ≤ 216
    decide
  · show (1 : Nat) < 5
    decide
set_option maxRecDepth 100000 in
theorem m0_31 : ∀ i, i < 18 → 0 ≤ (ar mS1 31 i).toInt ∧ (ar mS1 31 i).toInt ≤ 2 := by decide +kernel
set_option maxRecDepth 100000 in
theorem m0_RN : ∀ i, i < 18 → ar mS1 31 i = becI i := by decide +kernel
theorem KInv_0 (v : Int64) : KInv (mS0 v) := by
  have z : ∀ t : Nat, ¬ ((t : Int) < (0 : Int32).toInt) := by
    intro t h
    rw [li_0] at h
    omega
  refine ⟨?_, fun t _ => ?_, fun x _ h => absurd h (z _), ?_, fun x h => absurd h (z _), ?_, fun x h => absurd h (z _), fun r _ => ?_, fun r _ => ?_, m0_31, ?_⟩
  · show 0 ≤ (0 : Int32).toInt ∧ (0 : Int32).toInt ≤ 700
    decide
  · show 0 ≤ (0 : Int32).toInt ∧ (0 : Int32).toInt ≤ 6
    decide
  · show 0 ≤ (0 : Int32).toInt ∧ (0 : Int32).toInt ≤ 6
    decide
  · show 0 ≤ (0 : Int32).toInt ∧ (0 : Int32).toInt ≤ 5
    decide
  · show 0 ≤ (0 : Int32).toInt ∧ (0 : Int32).toInt ≤ 12
    decide
  · show 0 ≤ (0 : Int32).toInt ∧ (0 : Int32).toInt ≤ 767
    decide
  · show 0 ≤ (0 : Int32).toInt ∧ (0 : Int32).toInt ≤ 200
    decide
theorem SInv_0 (v : Int64) : SInv (mS0 v) := by
  refine ⟨?_, fun k hk => Or.inl ?_, fun i h => ?_, Or.inr ⟨?_, Or.inl ?_⟩⟩
  · show 0 ≤ (0 : Int32).toInt ∧ (0 : Int32).toInt ≤ 400
    decide
  · show (fil 1024 (-1) (fun _ => 0) k).toInt = -1
    unfold fil
    rw [if_pos hk]
    decide
  · have h2 : (i : Int) < (0 : Int32).toInt := h
    rw [li_0] at h2
    omega
  · show 0 ≤ (0 : Int32).toInt
    decide
  · show (0 : Int32).toInt = 0
    decide
theorem KIx_0 {cy : Nat → ClassId} {tE : Nat} {a : Nat → Nat} {w : Nat → Int64} : KIx cy tE (kX0 tE a w) [] [] (fun _ => none) := by
  have z : ∀ t : Nat, ¬ ((t : Int) < (0 : Int32).toInt) := by
    intro t h
    rw [li_0] at h
    omega
  refine ⟨fun _ => False, 0, 1, 2, none, none, none, 0, 0, 0, fun _ => none, fun _ => none, fun _ => none, ⟨?_, ⟨⟨0, tE, rfl, by decide, Or.inl ⟨rfl, rfl, rfl⟩⟩, ⟨0, tE, rfl, by decide, Or.inl ⟨rfl, rfl, rfl⟩⟩, ⟨0, tE, rfl, by decide, Or.inl ⟨rfl, rfl, rfl⟩⟩⟩, by decide, fun t h => absurd h (z t), fun t h => absurd h (z t), fun t h => absurd h (z t), fun i _ q h => (by cases h), fun t h => h.elim, ⟨by decide, by decide, by decide⟩, fun t h => (by cases h), fun t h => (by cases h), fun t h => (by cases h)⟩, ⟨li_0, fun t l h => (by simp at h)⟩, ⟨li_0, fun t l h => (by simp at h)⟩, fun i _ => Or.inl ⟨rfl, rfl⟩⟩
  show (1 : Nat) < 5
  decide
theorem MIx_0 (v : Int64) : MIx (mS0 v) [] [] (fun _ => none) := by
  refine ⟨⟨li_0, Nat.zero_le _, fun t l h => (by simp at h)⟩, ⟨li_0, Nat.zero_le _, fun t l h => (by simp at h)⟩, fun x _ => Or.inl ⟨rfl, ?_⟩⟩
  show (0 : Int32).toInt ≤ _
  rw [li_0]
  omega
theorem GdL_0 : GdL [] [] (fun _ => none) := ⟨fun l h => (by cases h), fun w h => (by cases h), fun x a h => (by cases h)⟩
theorem JS_0 {tE : Nat} {a : Nat → Nat} {w : Nat → Int64} {v : Int64} (hv : v.toInt = pkI bg0) : JS (kX0 tE a w) (mS0 v) := by
  refine ⟨bg0, bg0_v.1, bg0_v.2, fun i hi => if_neg (by omega), fun n hn => ?_, hv⟩
  show stF n = bg0 n
  unfold stF bg0
  by_cases e2 : n = 42
  · rw [e2, upd_at] <;> rfl
  by_cases e1 : n = 41
  · rw [upd_ne e2, e1, upd_at] <;> rfl
  by_cases e0 : n = 40
  · rw [upd_ne e2, upd_ne e1, e0, upd_at] <;> rfl
  · rw [upd_ne e2, upd_ne e1, upd_ne e0, if_neg (by omega)]
theorem CJx_00 {tE : Nat} {a : Nat → Nat} {w : Nat → Int64} : CJx (kX0 tE a w) [] (fun _ => none) := by
  refine ⟨fun n hn m => ?_, fun q => ?_⟩
  · have c : ¬ (40 ≤ n ∧ n < 43) := fun h => m (by unfold mpl; omega)
    show stF n = 0
    unfold stF
    rw [upd_ne (by omega), upd_ne (by omega), upd_ne (by omega)]
  · have e : fi (kX0 tE a w).1 32 = 0 := rfl
    rw [e] at q
    exact absurd li_0 q
theorem JI_0 {cy : Nat → ClassId} {tE : Nat} {a : Nat → Nat} {w : Nat → Int64} (v : Int64) (hw : w = (sm 85).2) (hv : v.toInt = pkI bg0) : JI cy tE (kX0 tE a w) (mS0 v) := by
  have z : ∀ t : Nat, ¬ ((t : Int) < (0 : Int32).toInt) := by
    intro t h
    rw [li_0] at h
    omega
  refine ⟨KI_0 (by rw [hw]; exact sm_85), ⟨KInv_0 v, SInv_0 v, fun i _ => ⟨Or.inl rfl, Or.inl rfl⟩, fun i _ => rfl, m0_RN⟩, rfl, fun r hr => ?_, fun r hr => ?_, rfl, ⟨fun r _ i hi => absurd hi (z _), fun i hi => absurd hi (z _), m0_RN⟩, ⟨hw, fun i hi => absurd hi (z _), ⟨rfl, rfl⟩, ⟨Or.inl rfl, Or.inl rfl⟩, [], [], fun _ => none, KIx_0, MIx_0 v, GdL_0, CJx_00⟩, JS_0 hv⟩
  · rcases (show r = 0 ∨ r = 1 ∨ r = 2 ∨ r = 3 ∨ r = 4 ∨ r = 5 by omega) with rfl | rfl | rfl | rfl | rfl | rfl <;> rfl
  · rcases (show r = 0 ∨ r = 1 ∨ r = 2 ∨ r = 3 ∨ r = 4 ∨ r = 5 by omega) with rfl | rfl | rfl | rfl | rfl | rfl <;> rfl
theorem nd_cons {a : Nat} {l : List Nat} (h : a ∉ l) (g : va_nd l = true) : va_nd (a :: l) = true := by
  simp [va_nd, h, g]
theorem nd_from : ∀ (n k : Nat), va_nd ((List.range' k n)) = true
  | 0, _ => rfl
  | n + 1, k => by
    rw [List.range'_succ]
    exact nd_cons (by rw [List.mem_range'_1]; omega) (nd_from n (k + 1))
theorem ap_C (wc wr : va_W) : (List.range' 0 wc.length).map (fun i => (wc ++ wr)[i]?) = wc.map some := by
  apply List.ext_getElem
  · simp
  · intro i h1 h2
    simp at h1 h2
    simp [List.getElem?_append_left h2, h2]
theorem ap_R (wc wr : va_W) : (List.range' wc.length wr.length).map (fun i => (wc ++ wr)[i]?) = wr.map some := by
  apply List.ext_getElem
  · simp
  · intro i h1 h2
    simp at h1 h2
    simp [List.getElem?_append_right, h2]
theorem ap_d (wc wr : va_W) : ∀ i ∈ List.range' wc.length wr.length, i ∉ List.range' 0 wc.length := by
  intro i h1 h2
  rw [List.mem_range'_1] at h1 h2
  omega
