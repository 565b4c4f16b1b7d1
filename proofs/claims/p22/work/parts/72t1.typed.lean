/-- one operation on kinds of what waits (true: a B): k, v its kind and operand -/
def TS1 (ts : List Bool) (k v : Int) (ts' : List Bool) : Prop := (((k = 24 ∨ k = 25 ∨ k = 26) ∧ v = 0) ∧ ∃ s, ts = false :: false :: s ∧ ts' = false :: s) ∨ (((k = 29 ∨ k = 30 ∨ k = 31) ∧ v = 0) ∧ ∃ s, ts = false :: false :: s ∧ ts' = true :: s) ∨ (((k = 15 ∨ k = 16) ∧ v = 0) ∧ ∃ s, ts = true :: true :: s ∧ ts' = true :: s) ∨ ((k = 17 ∧ v = 0) ∧ ∃ s, ts = true :: s ∧ ts' = true :: s) ∨ (((k = 2 ∧ 0 ≤ v ∧ v ≤ 999) ∨ (k = 14 ∧ v = 0) ∨ ((k = 7 ∨ k = 8 ∨ k = 11 ∨ k = 18 ∨ k = 19 ∨ k = 20) ∧ (v = 0 ∨ v = 1))) ∧ ts' = false :: ts)
/-- operations, with never more than m waiting -/
def TyA (m : Nat) : List (Int32 × Int32) → List Bool → List Bool → Prop
  | [], ts, ts' => ts' = ts
  | x :: l, ts, ts' => ∃ t1, TS1 ts x.1.toInt x.2.toInt t1 ∧ t1.length ≤ m ∧ TyA m l t1 ts'
theorem TyA_app {m : Nat} : ∀ {l1 l2 : List (Int32 × Int32)} {a b c : List Bool}, TyA m l1 a b → TyA m l2 b c → TyA m (l1 ++ l2) a c
  | [], l2, a, b, c, h1, h2 => by
    have e : b = a := h1
    rw [e] at h2
    exact h2
  | x :: l1, l2, a, b, c, ⟨t1, g1, g2, g3⟩, h2 => ⟨t1, g1, g2, TyA_app g3 h2⟩
theorem TyA_1 {m : Nat} {k v : Int32} {a b : List Bool} (h : TS1 a k.toInt v.toInt b) (hm : b.length ≤ m) : TyA m [(k, v)] a b := ⟨b, h, hm, rfl⟩
/-- what f reads, from a token below n on, ends below n and leaves one T more, with at most h more waiting -/
def GdF (n : Nat) (T : Bool) (h : Nat) (f : Nat → YR) : Prop := ∀ j, j < n → (f j).1 = 0 → (f j).2.1 < n ∧ ∀ (ts : List Bool) (m : Nat), ts.length + h ≤ m → TyA m (f j).2.2.1 ts (T :: ts)
/-- operations of an E, wherever they stand -/
def GdS (E : List (Int32 × Int32)) : Prop := ∀ (ts : List Bool) (m : Nat), ts.length + 3 ≤ m → TyA m E ts (false :: ts)
theorem gd_wh {Z : TS} {n : Nat} {a b : Int} {f : Nat → YR} {T : Bool} {h : Nat} (hn : ∀ i, i < n → (Z.1 i).toInt ≠ 0 → i + 1 < n) (h0 : a ≠ 0 ∧ b ≠ 0) (hj : ∀ (ts : List Bool) (k : Int), k = a ∨ k = b → TS1 (T :: T :: ts) k 0 (T :: ts)) (hf : GdF n T h f) (hh : 1 ≤ h) : ∀ (k j : Nat), j < n → (ypWh Z a b f k j).1 = 0 → (ypWh Z a b f k j).2.1 < n ∧ ∀ (ts : List Bool) (m : Nat), ts.length + 1 + h ≤ m → TyA m (ypWh Z a b f k j).2.2.1 (T :: ts) (T :: ts) := by
  intro k
  induction k with
  | zero => intro j hjn _; exact ⟨hjn, fun ts m _ => rfl⟩
  | succ k ih =>
    intro j hjn h
    by_cases e : (Z.1 j).toInt = a ∨ (Z.1 j).toInt = b
    · rw [ypWh_y e] at h ⊢
      have h1 := ypBn_1 h
      have h2 := ypBn_1 h1.1
      have hj1 : j + 1 < n := hn j hjn (by omega)
      obtain ⟨q1, q2⟩ := hf (j + 1) hj1 h2.1
      have p1 : (ypBn (f (j + 1)) (ypEm (Z.1 j) 0)).2.1 = (f (j + 1)).2.1 := ypBn_2 h1.1
      have h12 := h1.2
      rw [p1] at h12
      obtain ⟨r1, r2⟩ := ih _ q1 h12
      rw [ypBn_2 h, p1]
      refine ⟨r1, fun ts m hm => ?_⟩
      rw [ypBn_g h1.1, p1, ypBn_g h2.1]
      refine TyA_app (TyA_app (q2 (T :: ts) m (by simp only [List.length_cons]; omega)) ?_) (r2 ts m hm)
      exact TyA_1 (hj ts _ e) (by simp only [List.length_cons]; omega)
    · rw [ypWh_n e]
      exact ⟨hjn, fun ts m _ => rfl⟩
theorem gd_ls {Z : TS} {n : Nat} {a b : Int} {f : Nat → YR} {T : Bool} {h : Nat} (hn : ∀ i, i < n → (Z.1 i).toInt ≠ 0 → i + 1 < n) (h0 : a ≠ 0 ∧ b ≠ 0) (hj : ∀ (ts : List Bool) (k : Int), k = a ∨ k = b → TS1 (T :: T :: ts) k 0 (T :: ts)) (hf : GdF n T h f) (hh : 1 ≤ h) : GdF n T (h + 1) (ypLs Z a b f) := by
  intro j hjn g
  unfold ypLs at g ⊢
  have h1 := ypBn_1 g
  obtain ⟨q1, q2⟩ := hf j hjn h1.1
  obtain ⟨r1, r2⟩ := gd_wh hn h0 hj hf hh 800 _ q1 h1.2
  rw [ypBn_2 g]
  refine ⟨r1, fun ts m hm => ?_⟩
  rw [ypBn_g h1.1]
  exact TyA_app (q2 ts m (by omega)) (r2 ts m (by omega))
theorem gd_pe {Z : TS} {n : Nat} (hn : ∀ i, i < n → (Z.1 i).toInt ≠ 0 → i + 1 < n) {two : Bool} {j : Nat} (hj : j < n) (h : (ypPe Z two j).1 = 0) : (ypPe Z two j).2.1 < n ∧ ((Z.1 j).toInt = 21 ∨ (Z.1 j).toInt = 22) ∧ (ypPe Z two j).2.2.1 = [] := by
  unfold ypPe at h ⊢
  by_cases e : (Z.1 j).toInt = 21 ∨ (Z.1 j).toInt = 22
  · have n1 := hn j hj (by omega)
    rw [if_pos e] at h ⊢
    by_cases e2 : two = true
    · rw [if_pos e2] at h ⊢
      by_cases e3 : (Z.1 (j + 1)).toInt = 43 - (Z.1 j).toInt
      · rw [if_pos e3]; exact ⟨hn (j + 1) n1 (by omega), e, rfl⟩
      · rw [if_neg e3] at h; exact ypNo_x h
    · rw [if_neg e2]; exact ⟨n1, e, rfl⟩
  · rw [if_neg e] at h; exact ypNo_x h
theorem d21_v {x : Int32} (h : x.toInt = 21 ∨ x.toInt = 22) : (x - 21).toInt = 0 ∨ (x - 21).toInt = 1 := by
  rcases h with h | h
  · obtain rfl : x = 21 := i_eq (h.trans (by decide))
    exact Or.inl (by decide)
  · obtain rfl : x = 22 := i_eq (h.trans (by decide))
    exact Or.inr (by decide)
theorem gd_op {Z : TS} {n : Nat} (hn : ∀ i, i < n → (Z.1 i).toInt ≠ 0 → i + 1 < n) (hv : ∀ i, i < n → (Z.1 i).toInt = 2 → 0 ≤ ((Z.2.1 i).toInt32).toInt ∧ ((Z.2.1 i).toInt32).toInt ≤ 999) : GdF n false 1 (ypOp Z) := by
  intro j hj h
  unfold ypOp at h ⊢
  by_cases e1 : (Z.1 j).toInt = 2
  · rw [if_pos e1]
    refine ⟨hn j hj (by omega), fun ts m hm => TyA_1 (Or.inr (Or.inr (Or.inr (Or.inr ⟨Or.inl ⟨e1, hv j hj e1⟩, rfl⟩)))) (by simp only [List.length_cons]; omega)⟩
  rw [if_neg e1] at h ⊢
  by_cases e2 : (Z.1 j).toInt = 14
  · rw [if_pos e2]
    refine ⟨hn j hj (by omega), fun ts m hm => TyA_1 (Or.inr (Or.inr (Or.inr (Or.inr ⟨Or.inr (Or.inl ⟨e2, li_0⟩), rfl⟩)))) (by simp only [List.length_cons]; omega)⟩
  rw [if_neg e2] at h ⊢
  have key : ∀ two : Bool, ((Z.1 j).toInt = 7 ∨ (Z.1 j).toInt = 8 ∨ (Z.1 j).toInt = 11 ∨ (Z.1 j).toInt = 18 ∨ (Z.1 j).toInt = 19 ∨ (Z.1 j).toInt = 20) → (ypBn (ypPe Z two (j + 1)) (fun i => (0, i, [(Z.1 j, Z.1 (j + 1) - 21)], false, decide ((Z.1 j).toInt = 19)))).1 = 0 → (ypBn (ypPe Z two (j + 1)) (fun i => (0, i, [(Z.1 j, Z.1 (j + 1) - 21)], false, decide ((Z.1 j).toInt = 19)))).2.1 < n ∧ ∀ (ts : List Bool) (m : Nat), ts.length + 1 ≤ m → TyA m (ypBn (ypPe Z two (j + 1)) (fun i => (0, i, [(Z.1 j, Z.1 (j + 1) - 21)], false, decide ((Z.1 j).toInt = 19)))).2.2.1 ts (false :: ts) := by
    intro two hk g
    have h1 := ypBn_1 g
    obtain ⟨q1, q2, q3⟩ := gd_pe hn (hn j hj (by omega)) h1.1
    rw [ypBn_2 g]
    refine ⟨q1, fun ts m hm => ?_⟩
    rw [ypBn_g h1.1, q3]
    exact TyA_1 (Or.inr (Or.inr (Or.inr (Or.inr ⟨Or.inr (Or.inr ⟨hk, d21_v q2⟩), rfl⟩)))) (by simp only [List.length_cons]; omega)
  by_cases e3 : (Z.1 j).toInt = 7 ∨ (Z.1 j).toInt = 19 ∨ (Z.1 j).toInt = 20
  · rw [if_pos e3] at h ⊢
    exact key false (by omega) h
  rw [if_neg e3] at h ⊢
  by_cases e4 : (Z.1 j).toInt = 8 ∨ (Z.1 j).toInt = 11 ∨ (Z.1 j).toInt = 18
  · rw [if_pos e4] at h ⊢
    exact key true (by omega) h
  rw [if_neg e4] at h
  exact ypNo_x h
theorem gd_sum {Z : TS} {n : Nat} (hn : ∀ i, i < n → (Z.1 i).toInt ≠ 0 → i + 1 < n) (hv : ∀ i, i < n → (Z.1 i).toInt = 2 → 0 ≤ ((Z.2.1 i).toInt32).toInt ∧ ((Z.2.1 i).toInt32).toInt ≤ 999) : GdF n false 3 (ypSum Z) :=
  gd_ls hn (by decide) (fun ts k hk => Or.inl ⟨⟨by omega, rfl⟩, ts, rfl, rfl⟩) (gd_ls hn (by decide) (fun ts k hk => Or.inl ⟨⟨by omega, rfl⟩, ts, rfl, rfl⟩) (gd_op hn hv) (by decide)) (by decide)
theorem gd_cmp {Z : TS} {n : Nat} (hn : ∀ i, i < n → (Z.1 i).toInt ≠ 0 → i + 1 < n) (hv : ∀ i, i < n → (Z.1 i).toInt = 2 → 0 ≤ ((Z.2.1 i).toInt32).toInt ∧ ((Z.2.1 i).toInt32).toInt ≤ 999) : GdF n true 4 (ypCmp Z) := by
  intro j hj h
  unfold ypCmp at h ⊢
  have h1 := ypBn_1 h
  obtain ⟨q1, q2⟩ := gd_sum hn hv j hj h1.1
  have h3 := h1.2
  have e1 := ypBn_2 h
  have e2 := ypBn_g (f := fun i => if (Z.1 i).toInt = 29 ∨ (Z.1 i).toInt = 30 ∨ (Z.1 i).toInt = 31 then ypBn (ypSum Z (i + 1)) (ypEm (Z.1 i) 0) else ypNo 1 i) h1.1
  rw [e1, e2]
  by_cases e : (Z.1 (ypSum Z j).2.1).toInt = 29 ∨ (Z.1 (ypSum Z j).2.1).toInt = 30 ∨ (Z.1 (ypSum Z j).2.1).toInt = 31
  · simp only [if_pos e] at h3 ⊢
    have h4 := ypBn_1 h3
    obtain ⟨r1, r2⟩ := gd_sum hn hv _ (hn _ q1 (by omega)) h4.1
    rw [ypBn_2 h3]
    refine ⟨r1, fun ts m hm => ?_⟩
    rw [ypBn_g h4.1]
    exact TyA_app (q2 ts m (by omega)) (TyA_app (r2 (false :: ts) m (by simp only [List.length_cons]; omega)) (TyA_1 (Or.inr (Or.inl ⟨⟨e, li_0⟩, ts, rfl, rfl⟩)) (by simp only [List.length_cons]; omega)))
  · simp only [if_neg e] at h3
    exact ypNo_x h3
theorem gd_any {Z : TS} {n : Nat} {f : Nat → YR} {h : Nat} (hn : ∀ i, i < n → (Z.1 i).toInt ≠ 0 → i + 1 < n) (hf : GdF n true h f) (hh : 1 ≤ h) : GdF n true (h + 2) (ypAny Z f) :=
  gd_ls hn (by decide) (fun ts k hk => Or.inr (Or.inr (Or.inl ⟨⟨by omega, rfl⟩, ts, rfl, rfl⟩))) (gd_ls hn (by decide) (fun ts k hk => Or.inr (Or.inr (Or.inl ⟨⟨by omega, rfl⟩, ts, rfl, rfl⟩))) hf hh) (by omega)
theorem gd_cl {Z : TS} {n : Nat} (hn : ∀ i, i < n → (Z.1 i).toInt ≠ 0 → i + 1 < n) (hv : ∀ i, i < n → (Z.1 i).toInt = 2 → 0 ≤ ((Z.2.1 i).toInt32).toInt ∧ ((Z.2.1 i).toInt32).toInt ≤ 999) : ∀ d, GdF n true (4 + 2 * d) (ypCl Z d) := by
  intro d
  induction d with
  | zero =>
    intro j hj h
    unfold ypCl at h ⊢
    by_cases e : (Z.1 j).toInt = 17 ∨ (Z.1 j).toInt = 27
    · simp only [if_pos e] at h; exact ypNo_x h
    · simp only [if_neg e] at h ⊢
      exact gd_cmp hn hv j hj h
  | succ d ih =>
    intro j hj h
    unfold ypCl at h ⊢
    by_cases e : (Z.1 j).toInt = 17
    · simp only [if_pos e] at h ⊢
      have h1 := ypBn_1 h
      obtain ⟨q1, q2⟩ := ih (j + 1) (hn j hj (by omega)) h1.1
      rw [ypBn_2 h]
      refine ⟨q1, fun ts m hm => ?_⟩
      rw [ypBn_g h1.1]
      exact TyA_app (q2 ts m (by omega)) (TyA_1 (Or.inr (Or.inr (Or.inr (Or.inl ⟨⟨by decide, li_0⟩, ts, rfl, rfl⟩)))) (by simp only [List.length_cons]; omega))
    · simp only [if_neg e] at h ⊢
      by_cases e2 : (Z.1 j).toInt = 27
      · simp only [if_pos e2] at h ⊢
        have h1 := ypBn_1 h
        obtain ⟨q1, q2⟩ := gd_any hn ih (by omega) (j + 1) (hn j hj (by omega)) h1.1
        have h3 := h1.2
        rw [ypBn_2 h]
        unfold ypEnd at h3 ⊢
        by_cases e3 : (Z.1 (ypAny Z (ypCl Z d) (j + 1)).2.1).toInt = 28
        · rw [if_pos e3]
          refine ⟨hn _ q1 (by omega), fun ts m hm => ?_⟩
          rw [ypBn_g h1.1, if_pos e3]
          exact TyA_app (q2 ts m (by omega)) rfl
        · rw [if_neg e3] at h3; exact ypNo_x h3
      · simp only [if_neg e2] at h ⊢
        obtain ⟨q1, q2⟩ := gd_cmp hn hv j hj h
        exact ⟨q1, fun ts m hm => q2 ts m (by omega)⟩
/-- a list of operations of a B, of an E -/
def GdB (l : List (Int32 × Int32)) : Prop := TyA 30 l [] [true]
def GdE (l : List (Int32 × Int32)) : Prop := TyA 30 l [] [false]
def GdM (w : MkT) : Prop := ((w.1.toInt = 7 ∨ w.1.toInt = 8 ∨ w.1.toInt = 14) ∧ GdE w.2.2) ∨ ((w.1.toInt = 9 ∨ w.1.toInt = 11 ∨ w.1.toInt = 12 ∨ w.1.toInt = 13) ∧ w.2.2 = [])
theorem orF_b : ∀ y : Bool, orF 0 y = 0 ∨ orF 0 y = 1 := by decide
def GdA (a : AcT) : Prop := ((a.2.1 = 0 ∨ a.2.1 = 1) ∧ (a.2.2.1 = 0 ∨ a.2.2.1 = 1)) ∧ (∀ l ∈ a.2.2.2.1, GdB l) ∧ ∀ w ∈ a.2.2.2.2, GdM w
/-- the law's operations are such -/
def GdL (nv : List OL) (cu : List CuT) (ac : Nat → Option AcT) : Prop := (∀ l ∈ nv, GdB l) ∧ (∀ w ∈ cu, GdB w.2) ∧ ∀ x a, ac x = some a → GdA a
theorem gd_cond {Z : TS} {n : Nat} (hn : ∀ i, i < n → (Z.1 i).toInt ≠ 0 → i + 1 < n) (hv : ∀ i, i < n → (Z.1 i).toInt = 2 → 0 ≤ ((Z.2.1 i).toInt32).toInt ∧ ((Z.2.1 i).toInt32).toInt ≤ 999) {j : Nat} (hj : j < n) (h : (ypCond Z j).1 = 0) : GdB (ypCond Z j).2.2.1 := by
  unfold ypCond at h ⊢
  have h1 := ypBn_1 h
  obtain ⟨q1, q2⟩ := gd_any hn (gd_cl hn hv 8) (by decide) j hj h1.1
  have h3 := h1.2
  rw [ypBn_g h1.1]
  by_cases e3 : (Z.1 (ypAny Z (ypCl Z 8) j).2.1).toInt = 0
  · simp only [if_pos e3]
    exact TyA_app (q2 [] 30 (by decide)) rfl
  · simp only [if_neg e3] at h3
    exact ypNo_x h3
theorem gd_am {Z : TS} {n : Nat} (hn : ∀ i, i < n → (Z.1 i).toInt ≠ 0 → i + 1 < n) (hv : ∀ i, i < n → (Z.1 i).toInt = 2 → 0 ≤ ((Z.2.1 i).toInt32).toInt ∧ ((Z.2.1 i).toInt32).toInt ≤ 999) {m : Bool} {j : Nat} (hj : j < n) (h : (ypAm Z m j).1 = 0) : (ypAm Z m j).2.1 < n ∧ GdE (ypAm Z m j).2.2.1 := by
  unfold ypAm at h ⊢
  by_cases e : (Z.1 j).toInt = 24
  · rw [if_pos e] at h ⊢
    obtain ⟨q1, q2⟩ := gd_sum hn hv _ (hn j hj (by omega)) h
    exact ⟨q1, q2 [] 30 (by decide)⟩
  rw [if_neg e] at h ⊢
  by_cases e2 : m = true ∧ (Z.1 j).toInt = 25
  · rw [if_pos e2] at h ⊢
    have h1 := ypBn_1 h
    have h2 := ypBn_1 h1.1
    obtain ⟨q1, q2⟩ := gd_sum hn hv (j + 1) (hn j hj (by omega)) h2.2
    have p1 : (ypBn (ypEm 2 0 (j + 1)) (ypSum Z)).2.1 = (ypSum Z (j + 1)).2.1 := ypBn_2 h1.1
    rw [ypBn_2 h, p1]
    refine ⟨q1, ?_⟩
    rw [ypBn_g h1.1, ypBn_g h2.1]
    exact TyA_app (TyA_app (TyA_1 (Or.inr (Or.inr (Or.inr (Or.inr ⟨Or.inl ⟨by decide, by decide, by decide⟩, rfl⟩)))) (by decide)) (q2 [false] 30 (by decide))) (TyA_1 (Or.inl ⟨⟨by decide, li_0⟩, [], rfl, rfl⟩) (by decide))
  · rw [if_neg e2] at h; exact ypNo_x h
theorem gd_ch {Z : TS} {n : Nat} (hn : ∀ i, i < n → (Z.1 i).toInt ≠ 0 → i + 1 < n) {j : Nat} (hj : j < n) (h : (ypCh Z j).1 = 0) : (ypCh Z j).2.1 < n ∧ (ypCh Z j).2.2.1 = [] ∧ ((Z.1 j).toInt = 7 ∨ (Z.1 j).toInt = 8 ∨ (Z.1 j).toInt = 14 ∨ (Z.1 j).toInt = 9 ∨ (Z.1 j).toInt = 11 ∨ (Z.1 j).toInt = 12 ∨ (Z.1 j).toInt = 13) := by
  unfold ypCh at h ⊢
  by_cases e : (Z.1 j).toInt = 7
  · rw [if_pos e] at h ⊢
    obtain ⟨q1, -, q3⟩ := gd_pe hn (hn j hj (by omega)) h
    exact ⟨q1, q3, by omega⟩
  rw [if_neg e] at h ⊢
  by_cases e2 : (Z.1 j).toInt = 8 ∨ (Z.1 j).toInt = 11 ∨ (Z.1 j).toInt = 12 ∨ (Z.1 j).toInt = 13
  · rw [if_pos e2] at h ⊢
    obtain ⟨q1, -, q3⟩ := gd_pe hn (hn j hj (by omega)) h
    exact ⟨q1, q3, by omega⟩
  rw [if_neg e2] at h ⊢
  by_cases e3 : (Z.1 j).toInt = 9
  · rw [if_pos e3] at h ⊢
    have h1 := ypBn_1 h
    have h2 := h1.2
    have n1 := hn j hj (by omega)
    have p : (ypFl false true (j + 1)).2.1 = j + 1 := rfl
    rw [p] at h2
    rw [ypBn_2 h, ypBn_g h1.1, p]
    by_cases e4 : (Z.1 (j + 1)).toInt = 10
    · rw [if_pos e4] at h2 ⊢
      exact ⟨hn _ n1 (by omega), rfl, by omega⟩
    · rw [if_neg e4] at h2 ⊢
      obtain ⟨q1, -, q3⟩ := gd_pe hn n1 h2
      exact ⟨q1, by rw [q3] <;> rfl, by omega⟩
  rw [if_neg e3] at h ⊢
  by_cases e5 : (Z.1 j).toInt = 14
  · rw [if_pos e5]
    exact ⟨hn j hj (by omega), rfl, by omega⟩
  · rw [if_neg e5] at h; exact ypNo_x h
theorem gd_mk {Z : TS} {n : Nat} (hn : ∀ i, i < n → (Z.1 i).toInt ≠ 0 → i + 1 < n) (hv : ∀ i, i < n → (Z.1 i).toInt = 2 → 0 ≤ ((Z.2.1 i).toInt32).toInt ∧ ((Z.2.1 i).toInt32).toInt ≤ 999) {j : Nat} (hj : j < n) (h : (ypMk Z j).1 = 0) (f : Int32) : (ypMk Z j).2.1 < n ∧ GdM (Z.1 j, f, (ypMk Z j).2.2.1) := by
  unfold ypMk at h ⊢
  have h1 := ypBn_1 h
  obtain ⟨q1, q2, q3⟩ := gd_ch hn hj h1.1
  have h2 := h1.2
  rw [ypBn_2 h, ypBn_g h1.1, q2]
  by_cases e : (Z.1 j).toInt = 7 ∨ (Z.1 j).toInt = 8 ∨ (Z.1 j).toInt = 14
  · simp only [if_pos e] at h2 ⊢
    obtain ⟨r1, r2⟩ := gd_am hn hv q1 h2
    exact ⟨r1, Or.inl ⟨e, r2⟩⟩
  · simp only [if_neg e]
    exact ⟨q1, Or.inr ⟨by show (Z.1 j).toInt = 9 ∨ (Z.1 j).toInt = 11 ∨ (Z.1 j).toInt = 12 ∨ (Z.1 j).toInt = 13; omega, rfl⟩⟩
/-- what was read of an ACT -/
def GdC (n : Nat) (a : CAc) : Prop := a.1 = 0 → a.2.1 < n ∧ (∀ l ∈ a.2.2.2.2.1, GdB l) ∧ ∀ w ∈ a.2.2.2.2.2, GdM w
theorem gd_c1 {Z : TS} {n : Nat} (hn : ∀ i, i < n → (Z.1 i).toInt ≠ 0 → i + 1 < n) (hv : ∀ i, i < n → (Z.1 i).toInt = 2 → 0 ≤ ((Z.2.1 i).toInt32).toInt ∧ ((Z.2.1 i).toInt32).toInt ≤ 999) {a : CAc} (ha : a.2.1 < n) (h1 : ∀ l ∈ a.2.2.2.2.1, GdB l) (h2 : ∀ w ∈ a.2.2.2.2.2, GdM w) : GdC n (ypC1 Z a) := by
  intro g
  by_cases e5 : (Z.1 a.2.1).toInt = 5
  · by_cases e4 : 4 ≤ a.2.2.2.2.1.length
    · rw [ypC1_4 e5 e4] at g; exact absurd g (Nat.succ_ne_zero 2)
    · rw [ypC1_5 e5 e4] at g ⊢
      obtain ⟨q1, q2⟩ := gd_any hn (gd_cl hn hv 8) (by decide) _ (hn _ ha (by omega)) g
      refine ⟨q1, fun l hl => ?_, h2⟩
      have hl2 : l ∈ a.2.2.2.2.1 ++ [(ypAny Z (ypCl Z 8) (a.2.1 + 1)).2.2.1] := hl
      rcases List.mem_append.mp hl2 with q | q
      · exact h1 l q
      · rw [List.mem_singleton.mp q]
        exact q2 [] 30 (by decide)
  by_cases e6 : (Z.1 a.2.1).toInt = 6
  · by_cases e4 : 6 ≤ a.2.2.2.2.2.length
    · rw [ypC1_6 e6 e4] at g; exact absurd g (Nat.succ_ne_zero 2)
    · rw [ypC1_7 e6 e4] at g ⊢
      obtain ⟨q1, q2⟩ := gd_mk hn hv (hn _ ha (by omega)) g (ypF1 Z (a.2.1 + 1))
      refine ⟨q1, h1, fun w hw => ?_⟩
      have hw2 : w ∈ a.2.2.2.2.2 ++ [(Z.1 (a.2.1 + 1), ypF1 Z (a.2.1 + 1), (ypMk Z (a.2.1 + 1)).2.2.1)] := hw
      rcases List.mem_append.mp hw2 with q | q
      · exact h2 w q
      · rw [List.mem_singleton.mp q]; exact q2
  · rw [ypC1_1 e5 e6] at g
    exact absurd g (Nat.succ_ne_zero 0)
theorem gd_cs {Z : TS} {n : Nat} (hn : ∀ i, i < n → (Z.1 i).toInt ≠ 0 → i + 1 < n) (hv : ∀ i, i < n → (Z.1 i).toInt = 2 → 0 ≤ ((Z.2.1 i).toInt32).toInt ∧ ((Z.2.1 i).toInt32).toInt ≤ 999) : ∀ (k : Nat) (a : CAc), GdC n a → GdC n (ypCs Z k a) := by
  intro k
  induction k with
  | zero => exact fun a h => h
  | succ k ih =>
    intro a h
    by_cases e : a.1 ≠ 0 ∨ (Z.1 a.2.1).toInt = 23
    · rw [ypCs_a e]; exact h
    · have e0 : a.1 = 0 := by
        by_cases q : a.1 = 0
        · exact q
        · exact absurd (Or.inl q) e
      rw [ypCs_s e0 (fun q => e (Or.inr q))]
      obtain ⟨p1, p2, p3⟩ := h e0
      exact ih _ (gd_c1 hn hv p1 p2 p3)
theorem gd_cs23 {Z : TS} : ∀ (k : Nat) (a : CAc), a.1 = 0 → a.2.2.2.2.1.length ≤ 4 → a.2.2.2.2.2.length ≤ 6 → 11 ≤ k + a.2.2.2.2.1.length + a.2.2.2.2.2.length → (ypCs Z k a).1 = 0 → (Z.1 (ypCs Z k a).2.1).toInt = 23 := by
  intro k
  induction k with
  | zero => intro a _ h1 h2 h3 _; exfalso; omega
  | succ k ih =>
    intro a h0 h1 h2 h3 h
    by_cases e : (Z.1 a.2.1).toInt = 23
    · rw [ypCs_a (Or.inr e)]; exact e
    · rw [ypCs_s h0 e] at h ⊢
      have c0 : (ypC1 Z a).1 = 0 := by
        by_cases q : (ypC1 Z a).1 = 0
        · exact q
        · rw [ypCs_a (Or.inl q)] at h; exact h
      refine ih _ c0 ?_ ?_ ?_ h
      all_goals
        by_cases e5 : (Z.1 a.2.1).toInt = 5
        · by_cases e4 : 4 ≤ a.2.2.2.2.1.length
          · rw [ypC1_4 e5 e4] at c0; exact absurd c0 (Nat.succ_ne_zero 2)
          · rw [ypC1_5 e5 e4]
            simp only [cnd1, List.length_append, List.length_cons, List.length_nil]
            omega
        by_cases e6 : (Z.1 a.2.1).toInt = 6
        · by_cases e4 : 6 ≤ a.2.2.2.2.2.length
          · rw [ypC1_6 e6 e4] at c0; exact absurd c0 (Nat.succ_ne_zero 2)
          · rw [ypC1_7 e6 e4]
            simp only [cmk1, List.length_append, List.length_cons, List.length_nil]
            omega
        · rw [ypC1_1 e5 e6] at c0
          exact absurd c0 (Nat.succ_ne_zero 0)
theorem gd_ac {Z : TS} {n : Nat} (hn : ∀ i, i < n → (Z.1 i).toInt ≠ 0 → i + 1 < n) (hv : ∀ i, i < n → (Z.1 i).toInt = 2 → 0 ≤ ((Z.2.1 i).toInt32).toInt ∧ ((Z.2.1 i).toInt32).toInt ≤ 999) {nm : List Int64} {j : Nat} (hj : j < n) (h4 : (Z.1 j).toInt = 4) : GdC n (ypAc Z nm j) := by
  unfold ypAc
  by_cases e1 : 6 ≤ nm.length
  · rw [if_pos e1]; exact fun g => absurd g (Nat.succ_ne_zero 2)
  rw [if_neg e1]
  by_cases e2 : (Z.1 (j + 1)).toInt ≠ 3
  · rw [if_pos e2]; exact fun g => absurd g (Nat.succ_ne_zero 0)
  rw [if_neg e2]
  by_cases e3 : Z.2.1 (j + 1) ∈ nm
  · rw [if_pos e3]; exact fun g => absurd g (Nat.succ_ne_zero 1)
  rw [if_neg e3]
  have n1 := hn j hj (by omega)
  exact gd_cs hn hv 11 _ (fun _ => ⟨hn _ n1 (by omega), fun l hl => (by cases hl), fun w hw => (by cases hw)⟩)
theorem gd_ac23 {Z : TS} {nm : List Int64} {j : Nat} (h : (ypAc Z nm j).1 = 0) : (Z.1 (ypAc Z nm j).2.1).toInt = 23 := by
  unfold ypAc at h ⊢
  by_cases e1 : 6 ≤ nm.length
  · rw [if_pos e1] at h; exact absurd h (Nat.succ_ne_zero 2)
  rw [if_neg e1] at h ⊢
  by_cases e2 : (Z.1 (j + 1)).toInt ≠ 3
  · rw [if_pos e2] at h; exact absurd h (Nat.succ_ne_zero 0)
  rw [if_neg e2] at h ⊢
  by_cases e3 : Z.2.1 (j + 1) ∈ nm
  · rw [if_pos e3] at h; exact absurd h (Nat.succ_ne_zero 1)
  rw [if_neg e3] at h ⊢
  exact gd_cs23 11 _ rfl (Nat.zero_le 4) (Nat.zero_le 6) (Nat.le_refl 11) h
theorem gd_st {Z : TS} {n : Nat} (hn : ∀ i, i < n → (Z.1 i).toInt ≠ 0 → i + 1 < n) (hv : ∀ i, i < n → (Z.1 i).toInt = 2 → 0 ≤ ((Z.2.1 i).toInt32).toInt ∧ ((Z.2.1 i).toInt32).toInt ≤ 999) : ∀ (k j : Nat) (l : List AcT), j < n → (∀ a ∈ l, GdA a) → (∀ a ∈ (ypSt Z k j l).2.2, GdA a) := by
  intro k
  induction k with
  | zero => exact fun j l _ h => h
  | succ k ih =>
    intro j l hj hl
    by_cases e4 : (Z.1 j).toInt = 4
    · by_cases e0 : (ypAc Z (l.map (fun a => a.1)) j).1 = 0
      · rw [ypSt_g e4 e0]
        obtain ⟨p1, p2, p3⟩ := gd_ac hn hv hj e4 e0
        have e23 := gd_ac23 e0
        refine ih _ _ (hn _ p1 (by omega)) (fun a ha => ?_)
        rcases List.mem_append.mp ha with q | q
        · exact hl a q
        · rw [List.mem_singleton.mp q]; exact ⟨⟨orF_b _, orF_b _⟩, p2, p3⟩
      · rw [ypSt_b e4 e0]; exact hl
    · by_cases e0 : (Z.1 j).toInt = 0
      · rw [ypSt_0 e0]; exact hl
      · rw [ypSt_1 e0 e4]; exact hl
theorem gd_nv {Z : TS} {n : Nat} (hn : ∀ i, i < n → (Z.1 i).toInt ≠ 0 → i + 1 < n) (hv : ∀ i, i < n → (Z.1 i).toInt = 2 → 0 ≤ ((Z.2.1 i).toInt32).toInt ∧ ((Z.2.1 i).toInt32).toInt ≤ 999) (h0 : 0 < n) {nv : List OL} {cu : List CuT} {ac : Nat → Option AcT} (h : GdL nv cu ac) : GdL (nvO Z nv).2.1 cu ac := by
  by_cases e : 6 ≤ nv.length
  · rw [nvO_f e]; exact h
  by_cases g : (ypCond Z 0).1 = 0
  · rw [nvO_g e g]
    refine ⟨fun l hl => ?_, h.2⟩
    rcases List.mem_append.mp hl with q | q
    · exact h.1 l q
    · rw [List.mem_singleton.mp q]; exact gd_cond hn hv h0 g
  · rw [nvO_b e g]; exact h
theorem gd_cu {Z : TS} {n : Nat} (hn : ∀ i, i < n → (Z.1 i).toInt ≠ 0 → i + 1 < n) (hv : ∀ i, i < n → (Z.1 i).toInt = 2 → 0 ≤ ((Z.2.1 i).toInt32).toInt ∧ ((Z.2.1 i).toInt32).toInt ≤ 999) (h0 : 0 < n) {x : Int32} {nv : List OL} {cu : List CuT} {ac : Nat → Option AcT} (h : GdL nv cu ac) : GdL nv (cuO Z x cu).2.1 ac := by
  by_cases e : 5 ≤ cu.length ∨ ¬ (0 ≤ x.toInt ∧ x.toInt ≤ 11)
  · rw [cuO_f e]; exact h
  by_cases g : (ypCond Z 0).1 = 0
  · rw [cuO_g e g]
    refine ⟨h.1, fun l hl => ?_, h.2.2⟩
    rcases List.mem_append.mp hl with q | q
    · exact h.2.1 l q
    · rw [List.mem_singleton.mp q]; exact gd_cond hn hv h0 g
  · rw [cuO_b e g]; exact h
theorem gd_sta {Z : TS} {n : Nat} (hn : ∀ i, i < n → (Z.1 i).toInt ≠ 0 → i + 1 < n) (hv : ∀ i, i < n → (Z.1 i).toInt = 2 → 0 ≤ ((Z.2.1 i).toInt32).toInt ∧ ((Z.2.1 i).toInt32).toInt ≤ 999) (h0 : 0 < n) {x : Int32} {nv : List OL} {cu : List CuT} {ac : Nat → Option AcT} (h : GdL nv cu ac) : GdL nv cu (stO Z x ac).2.1 := by
  by_cases e : 0 ≤ x.toInt ∧ x.toInt ≤ 1
  · by_cases g : (ypSt Z 8 0 []).1 = 0
    · rw [stO_g e g]
      refine ⟨h.1, h.2.1, fun i a ha => ?_⟩
      have ha2 : (if i / 6 = x.toInt.toNat then (ypSt Z 8 0 []).2.2[i % 6]? else ac i) = some a := ha
      clear ha
      by_cases q : i / 6 = x.toInt.toNat
      · rw [if_pos q] at ha2
        exact gd_st hn hv 8 0 [] h0 (fun a ha => (by cases ha)) a (List.mem_of_getElem? ha2)
      · rw [if_neg q] at ha2
        exact h.2.2 i a ha2
    · rw [stO_b e g]; exact h
  · rw [stO_f e]; exact h
theorem dg_1 {a d : Int32} (ha : 0 ≤ a.toInt ∧ a.toInt ≤ 99) (hd : 48 ≤ d.toInt ∧ d.toInt ≤ 57) : ((((10 : Int32) * a) + d) - 48).toInt = 10 * a.toInt + d.toInt - 48 := by
  simp (disch := omega) only [Int32.toInt_add, Int32.toInt_sub, Int32.toInt_mul, li_10, li_48, bm]
theorem nuF_b {t : Nat → Int32} {q m : Nat} (hm : m ≤ 3) (h : ∀ i, q ≤ i → i < q + m → isD (t i)) : 0 ≤ (nuF t q m).toInt ∧ (nuF t q m).toInt ≤ 999 := by
  have s0 : (nuF t q 0).toInt = 0 := li_0
  have st : ∀ (k : Nat) (b : Int), k < m → b ≤ 99 → (0 ≤ (nuF t q k).toInt ∧ (nuF t q k).toInt ≤ b) → (0 ≤ (nuF t q (k + 1)).toInt ∧ (nuF t q (k + 1)).toInt ≤ 10 * b + 9) := by
    intro k b hk hb hh
    have hd := h (q + k) (by omega) (by omega)
    unfold isD at hd
    show 0 ≤ ((((10 : Int32) * nuF t q k) + t (q + k)) - 48).toInt ∧ ((((10 : Int32) * nuF t q k) + t (q + k)) - 48).toInt ≤ 10 * b + 9
    rw [dg_1 ⟨hh.1, by omega⟩ hd]
    omega
  rcases (show m = 0 ∨ m = 1 ∨ m = 2 ∨ m = 3 by omega) with rfl | rfl | rfl | rfl
  · omega
  · have h1 : 0 ≤ (nuF t q 1).toInt ∧ (nuF t q 1).toInt ≤ 10 * 0 + 9 := st 0 0 (by omega) (by omega) (by omega)
    omega
  · have h1 : 0 ≤ (nuF t q 1).toInt ∧ (nuF t q 1).toInt ≤ 10 * 0 + 9 := st 0 0 (by omega) (by omega) (by omega)
    have h2 : 0 ≤ (nuF t q 2).toInt ∧ (nuF t q 2).toInt ≤ 10 * 9 + 9 := st 1 9 (by omega) (by omega) (by omega)
    omega
  · have h1 : 0 ≤ (nuF t q 1).toInt ∧ (nuF t q 1).toInt ≤ 10 * 0 + 9 := st 0 0 (by omega) (by omega) (by omega)
    have h2 : 0 ≤ (nuF t q 2).toInt ∧ (nuF t q 2).toInt ≤ 10 * 9 + 9 := st 1 9 (by omega) (by omega) (by omega)
    have h3 : 0 ≤ (nuF t q 3).toInt ∧ (nuF t q 3).toInt ≤ 10 * 99 + 9 := st 2 99 (by omega) (by omega) (by omega)
    omega
/-- of the tokens that were read -/
theorem STm_v {Z : TS} {Y : YT} (h : STm Z Y) (hb : ∀ i, i < Y.2.2.1 → 0 ≤ (Y.2.1 i).toInt ∧ (Y.2.1 i).toInt ≤ 255) : (∀ i, i < Y.2.2.2 → (Z.1 i).toInt ≠ 0 → i + 1 < Y.2.2.2) ∧ ∀ i, i < Y.2.2.2 → (Z.1 i).toInt = 2 → 0 ≤ ((Z.2.1 i).toInt32).toInt ∧ ((Z.2.1 i).toInt32).toInt ≤ 999 := by
  refine ⟨h.2.1, fun i hi g => ?_⟩
  obtain ⟨⟨-, -, -, a4⟩, -⟩ := h.1 i hi
  rcases a4 with ⟨-, -, h0⟩ | ⟨x0, ⟨-, hqe, -, -, -, -, hK⟩ | ⟨-, hqe, -, hd, -, hv, ⟨hl, -⟩ | ⟨-, h1⟩⟩ | ⟨-, -, -, -, hkk⟩⟩
  · rw [h0] at g; exact absurd g (by decide)
  · exfalso
    rcases hK with ⟨-, h1⟩ | ⟨-, ⟨i, hi, -, -, h1⟩ | ⟨-, ⟨-, h1⟩ | ⟨-, h1⟩⟩⟩
    · rw [h1] at g; exact absurd g (by decide)
    · have hh := kw_r i hi
      rw [← h1] at hh
      omega
    · rw [h1] at g; exact absurd g (by decide)
    · rw [h1] at g; exact absurd g (by decide)
  · rw [hv, i6432]
    exact nuF_b hl (fun i h1 h2 => hd i h1 (by omega))
  · rw [h1] at g; exact absurd g (by decide)
  · exfalso
    rw [hkk] at g
    exact sg_3 (hb _ x0) g
