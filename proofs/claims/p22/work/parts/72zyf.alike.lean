/-- the places of a STATE that are told -/
abbrev mpl (n : Nat) : Prop := n < 3 ∨ (10 < n ∧ n < 18 ∧ n ≠ 14) ∨ (20 < n ∧ n < 28 ∧ n ≠ 24) ∨ (30 < n ∧ n < 38 ∧ n ≠ 34) ∨ (40 ≤ n ∧ n < 43) ∨ n = 50
/-- alike at all places that are told -/
def EQV (f g : SV) : Prop := ∀ n, mpl n → f n = g n
/-- nothing stands at the others -/
def JZ (g : SV) : Prop := ∀ n, n < 51 → ¬ mpl n → g n = 0
def cz (g : SV) : SV := fun n => if mpl n then g n else 0
theorem cz_y {g : SV} {n : Nat} (h : mpl n) : cz g n = g n := if_pos h
theorem cz_n {g : SV} {n : Nat} (h : ¬ mpl n) : cz g n = 0 := if_neg h
theorem JZ_cz (g : SV) : JZ (cz g) := fun _ _ h => cz_n h
theorem EQV_cz (g : SV) : EQV (cz g) g := fun _ h => cz_y h
theorem EQV_rf (g : SV) : EQV g g := fun _ _ => rfl
theorem EQV_sy {f g : SV} (h : EQV f g) : EQV g f := fun n m => (h n m).symm
theorem EQV_tr {f g k : SV} (h : EQV f g) (h2 : EQV g k) : EQV f k := fun n m => (h n m).trans (h2 n m)
theorem mpl_51 {n : Nat} (h : mpl n) : n < 51 := by
  unfold mpl at h; omega
theorem AGR_EQV {f g : SV} (h : AGR f g) : EQV f g := fun n m => h n (mpl_51 m)
theorem JZ_AGR {f g : SV} (hf : JZ f) (hg : JZ g) (h : EQV f g) : AGR f g := fun n hn => by
  by_cases m : mpl n
  · exact h n m
  · rw [hf n hn m, hg n hn m]
theorem JZ_of {f g : SV} (h : AGR f g) (hg : JZ g) : JZ f := fun n hn m => (h n hn).trans (hg n hn m)
theorem cz_AGR {f g : SV} (h : AGR f g) : cz f = cz g := by
  funext n
  unfold cz
  by_cases m : mpl n
  · rw [if_pos m, if_pos m]; exact h n (mpl_51 m)
  · rw [if_neg m, if_neg m]
theorem JZ_0 {g : SV} (h : JZ g) : ∀ i, i = 0 ∨ i = 4 ∨ i = 8 → g (10 + i) = 0 := fun i hi => h _ (by omega) (by unfold mpl; omega)
theorem mpl_p {p q : Nat} (hp : p < 3) (hq : q < 3) (h : p ≠ q) : mpl (10 + (3 * p + q)) ∧ mpl (20 + (3 * p + q)) ∧ mpl (30 + (3 * p + q)) := by
  unfold mpl
  refine ⟨?_, ?_, ?_⟩ <;> omega
theorem GV_cz {g : SV} (h : GV g) : GV (cz g) := by
  obtain ⟨h1, h2, h3, h4⟩ := h
  refine ⟨fun p hp => ?_, fun k hk => ?_, fun t ht => ?_, ?_⟩
  · rw [cz_y (show mpl p by unfold mpl; omega)]; exact h1 p hp
  · by_cases e : k = 0 ∨ k = 4 ∨ k = 8
    · rw [cz_n (show ¬ mpl (10 + k) by unfold mpl; omega), cz_n (show ¬ mpl (20 + k) by unfold mpl; omega), cz_n (show ¬ mpl (30 + k) by unfold mpl; omega)]
      exact ⟨⟨by decide, by decide⟩, Or.inl rfl, Or.inl rfl⟩
    · rw [cz_y (show mpl (10 + k) by unfold mpl; omega), cz_y (show mpl (20 + k) by unfold mpl; omega), cz_y (show mpl (30 + k) by unfold mpl; omega)]
      exact h2 k hk
  · rw [cz_y (show mpl (40 + t) by unfold mpl; omega)]; exact h3 t ht
  · rw [cz_y (show mpl 50 by unfold mpl; omega)]; exact h4
theorem GW_cz {g : SV} (h : GW g) : GW (cz g) := by
  intro p q hp hq
  by_cases e : p = q
  · rw [e]
  · rw [cz_y (mpl_p hp hq e).2.1, cz_y (mpl_p hq hp (fun z => e z.symm)).2.1]
    exact h p q hp hq
theorem pkP_cg {f g : SV} (h : EQV f g) : ∀ {n : Nat}, n ≤ 3 → pkP f n = pkP g n
  | 0, _ => by
    show (f 50).toInt = (g 50).toInt
    rw [h 50 (by unfold mpl; omega)]
  | p + 1, hp => by
    show pkS f (pkP f p) p = pkS g (pkP g p) p
    rw [pkP_cg h (n := p) (by omega)]
    have a1 := mpl_p (p := p) (q := (p + 1) % 3) (by omega) (by omega) (by omega)
    have a2 := mpl_p (p := p) (q := (p + 2) % 3) (by omega) (by omega) (by omega)
    unfold pkS
    rw [h p (by unfold mpl; omega), h (40 + p) (by unfold mpl; omega), h _ a1.1, h _ a1.2.1, h _ a1.2.2, h _ a2.1, h _ a2.2.2]
theorem pkI_cg {f g : SV} (h : EQV f g) : pkI f = pkI g := pkP_cg h (Nat.le_refl 3)
theorem dg16 {x y a b : Int} (h : x * 16 + a = y * 16 + b) (ha : 0 ≤ a ∧ a ≤ 15) (hb : 0 ≤ b ∧ b ≤ 15) : x = y ∧ a = b := by omega
theorem dg8 {x y a b : Int} (h : x * 8 + a = y * 8 + b) (ha : 0 ≤ a ∧ a ≤ 7) (hb : 0 ≤ b ∧ b ≤ 7) : x = y ∧ a = b := by omega
theorem dg4 {x y a b : Int} (h : x * 4 + a = y * 4 + b) (ha : 0 ≤ a ∧ a ≤ 3) (hb : 0 ≤ b ∧ b ≤ 3) : x = y ∧ a = b := by omega
theorem dg2 {x y a b : Int} (h : x * 2 + a = y * 2 + b) (ha : 0 ≤ a ∧ a ≤ 1) (hb : 0 ≤ b ∧ b ≤ 1) : x = y ∧ a = b := by omega
theorem pkS_in {f g : SV} (hf : GV f) (hg : GV g) {p : Nat} (hp : p < 3) {v w : Int} (h : pkS f v p = pkS g w p) : v = w ∧ f p = g p ∧ f (40 + p) = g (40 + p) ∧ f (20 + (3 * p + (p + 1) % 3)) = g (20 + (3 * p + (p + 1) % 3)) ∧ (f (10 + (3 * p + (p + 1) % 3)) = g (10 + (3 * p + (p + 1) % 3)) ∧ f (30 + (3 * p + (p + 1) % 3)) = g (30 + (3 * p + (p + 1) % 3))) ∧ f (10 + (3 * p + (p + 2) % 3)) = g (10 + (3 * p + (p + 2) % 3)) ∧ f (30 + (3 * p + (p + 2) % 3)) = g (30 + (3 * p + (p + 2) % 3)) := by
  have b1 : 3 * p + (p + 1) % 3 < 9 := by omega
  have b2 : 3 * p + (p + 2) % 3 < 9 := by omega
  unfold pkS at h
  obtain ⟨h, e7⟩ := dg2 h (b01 (hf.2.1 _ b2).2.2) (b01 (hg.2.1 _ b2).2.2)
  obtain ⟨h, e6⟩ := dg8 h (hf.2.1 _ b2).1 (hg.2.1 _ b2).1
  obtain ⟨h, e5⟩ := dg2 h (b01 (hf.2.1 _ b1).2.2) (b01 (hg.2.1 _ b1).2.2)
  obtain ⟨h, e4⟩ := dg8 h (hf.2.1 _ b1).1 (hg.2.1 _ b1).1
  obtain ⟨h, e3⟩ := dg2 h (b01 (hf.2.1 _ b1).2.1) (b01 (hg.2.1 _ b1).2.1)
  obtain ⟨h, e2⟩ := dg4 h (hf.2.2.1 p hp) (hg.2.2.1 p hp)
  obtain ⟨h, e1⟩ := dg16 h (hf.1 p hp) (hg.1 p hp)
  exact ⟨h, i_eq e1, i_eq e2, i_eq e3, ⟨i_eq e4, i_eq e5⟩, i_eq e6, i_eq e7⟩
/-- alike at some places: alike -/
theorem EQV_of {f g : SV} (hf : GW f) (hg : GW g) (h0 : f 50 = g 50) (h1 : ∀ p, p < 3 → f p = g p ∧ f (40 + p) = g (40 + p)) (h2 : f 21 = g 21 ∧ f 25 = g 25 ∧ f 26 = g 26) (h3 : ∀ k, k < 9 → k ≠ 0 → k ≠ 4 → k ≠ 8 → f (10 + k) = g (10 + k) ∧ f (30 + k) = g (30 + k)) : EQV f g := by
  have w23 : f 23 = g 23 := (hf 1 0 (by decide) (by decide)).trans (h2.1.trans (hg 1 0 (by decide) (by decide)).symm)
  have w27 : f 27 = g 27 := (hf 2 1 (by decide) (by decide)).trans (h2.2.1.trans (hg 2 1 (by decide) (by decide)).symm)
  have w22 : f 22 = g 22 := (hf 0 2 (by decide) (by decide)).trans (h2.2.2.trans (hg 0 2 (by decide) (by decide)).symm)
  intro n m
  unfold mpl at m
  rcases m with m | m | m | m | m | m
  · exact (h1 n m).1
  · have := (h3 (n - 10) (by omega) (by omega) (by omega) (by omega)).1
    rw [show 10 + (n - 10) = n by omega] at this
    exact this
  · rcases (show n = 21 ∨ n = 22 ∨ n = 23 ∨ n = 25 ∨ n = 26 ∨ n = 27 by omega) with rfl | rfl | rfl | rfl | rfl | rfl
    · exact h2.1
    · exact w22
    · exact w23
    · exact h2.2.1
    · exact h2.2.2
    · exact w27
  · have := (h3 (n - 30) (by omega) (by omega) (by omega) (by omega)).2
    rw [show 30 + (n - 30) = n by omega] at this
    exact this
  · have := (h1 (n - 40) (by omega)).2
    rw [show 40 + (n - 40) = n by omega] at this
    exact this
  · rw [m]; exact h0
theorem pkI_in {f g : SV} (hf : GV f) (hg : GV g) (wf : GW f) (wg : GW g) (h : pkI f = pkI g) : EQV f g := by
  have h3 : pkS f (pkP f 2) 2 = pkS g (pkP g 2) 2 := h
  obtain ⟨h2, c1, c2, c3, ⟨c4, c5⟩, c6, c7⟩ := pkS_in hf hg (by decide) h3
  have h2' : pkS f (pkP f 1) 1 = pkS g (pkP g 1) 1 := h2
  obtain ⟨h1, d1, d2, d3, ⟨d4, d5⟩, d6, d7⟩ := pkS_in hf hg (by decide) h2'
  have h1' : pkS f (pkP f 0) 0 = pkS g (pkP g 0) 0 := h1
  obtain ⟨h0, e1, e2, e3, ⟨e4, e5⟩, e6, e7⟩ := pkS_in hf hg (by decide) h1'
  refine EQV_of wf wg (i_eq h0) (fun p hp => ?_) ⟨e3, d3, c3⟩ (fun k hk k0 k4 k8 => ?_)
  · rcases (show p = 0 ∨ p = 1 ∨ p = 2 by omega) with rfl | rfl | rfl
    · exact ⟨e1, e2⟩
    · exact ⟨d1, d2⟩
    · exact ⟨c1, c2⟩
  · rcases (show k = 1 ∨ k = 2 ∨ k = 3 ∨ k = 5 ∨ k = 6 ∨ k = 7 by omega) with rfl | rfl | rfl | rfl | rfl | rfl
    · exact ⟨e4, e5⟩
    · exact ⟨e6, e7⟩
    · exact ⟨d6, d7⟩
    · exact ⟨d4, d5⟩
    · exact ⟨c4, c5⟩
    · exact ⟨c6, c7⟩
/-- the class's numbers of a pair -/
def th3 (g : SV) (k : Nat) : Int := (g (10 + k)).toInt + 8 * (g (20 + k)).toInt + 16 * (g (30 + k)).toInt
/-- a STATE as the class packs it -/
def ckI (g : SV) : Int := (g 50).toInt + 16 * (g 0).toInt + 256 * (g 1).toInt + 4096 * (g 2).toInt + 65536 * (g 40).toInt + 262144 * (g 41).toInt + 1048576 * (g 42).toInt + 4194304 * th3 g 1 + 134217728 * th3 g 2 + 4294967296 * th3 g 3 + 137438953472 * th3 g 5 + 4398046511104 * th3 g 6 + 140737488355328 * th3 g 7
theorem th3_b {g : SV} (h : GV g) {k : Nat} (hk : k < 9) : 0 ≤ th3 g k ∧ th3 g k ≤ 31 := by
  have a := h.2.1 k hk
  have b := b01 a.2.1
  have c := b01 a.2.2
  unfold th3
  omega
theorem th3_in {f g : SV} (hf : GV f) (hg : GV g) {k : Nat} (hk : k < 9) (h : th3 f k = th3 g k) : f (10 + k) = g (10 + k) ∧ f (20 + k) = g (20 + k) ∧ f (30 + k) = g (30 + k) := by
  have a := hf.2.1 k hk
  have b := b01 a.2.1
  have c := b01 a.2.2
  have a' := hg.2.1 k hk
  have b' := b01 a'.2.1
  have c' := b01 a'.2.2
  unfold th3 at h
  exact ⟨i_eq (by omega), i_eq (by omega), i_eq (by omega)⟩
/-- the thirteen numbers of what is packed -/
theorem ckI_g {g : SV} (h : GV g) : (0 ≤ ckI g ∧ ckI g < 4503599627370496) ∧ ckI g % 16 = (g 50).toInt ∧ (ckI g / 16 % 16 = (g 0).toInt ∧ ckI g / 256 % 16 = (g 1).toInt ∧ ckI g / 4096 % 16 = (g 2).toInt) ∧ (ckI g / 65536 % 4 = (g 40).toInt ∧ ckI g / 262144 % 4 = (g 41).toInt ∧ ckI g / 1048576 % 4 = (g 42).toInt) ∧ (ckI g / 4194304 % 32 = th3 g 1 ∧ ckI g / 134217728 % 32 = th3 g 2 ∧ ckI g / 4294967296 % 32 = th3 g 3 ∧ ckI g / 137438953472 % 32 = th3 g 5 ∧ ckI g / 4398046511104 % 32 = th3 g 6 ∧ ckI g / 140737488355328 % 32 = th3 g 7) := by
  have a0 := h.1 0 (by decide)
  have a1 := h.1 1 (by decide)
  have a2 := h.1 2 (by decide)
  have o0 := h.2.2.1 0 (by decide)
  have o1 := h.2.2.1 1 (by decide)
  have o2 := h.2.2.1 2 (by decide)
  have d := h.2.2.2
  have t1 := th3_b h (k := 1) (by decide)
  have t2 := th3_b h (k := 2) (by decide)
  have t3 := th3_b h (k := 3) (by decide)
  have t5 := th3_b h (k := 5) (by decide)
  have t6 := th3_b h (k := 6) (by decide)
  have t7 := th3_b h (k := 7) (by decide)
  unfold ckI
  generalize th3 g 1 = y1 at *
  generalize th3 g 2 = y2 at *
  generalize th3 g 3 = y3 at *
  generalize th3 g 5 = y5 at *
  generalize th3 g 6 = y6 at *
  generalize th3 g 7 = y7 at *
  have o0' : 0 ≤ (g 40).toInt ∧ (g 40).toInt ≤ 3 := o0
  have o1' : 0 ≤ (g 41).toInt ∧ (g 41).toInt ≤ 3 := o1
  have o2' : 0 ≤ (g 42).toInt ∧ (g 42).toInt ≤ 3 := o2
  generalize (g 0).toInt = x0 at *
  generalize (g 1).toInt = x1 at *
  generalize (g 2).toInt = x2 at *
  generalize (g 40).toInt = z0 at *
  generalize (g 41).toInt = z1 at *
  generalize (g 42).toInt = z2 at *
  generalize (g 50).toInt = w at *
  clear h o0 o1 o2
  refine ⟨by omega, by omega, ⟨by omega, by omega, by omega⟩, ⟨by omega, by omega, by omega⟩, by omega, by omega, by omega, by omega, by omega, by omega⟩
theorem ckI_in {f g : SV} (hf : GV f) (hg : GV g) (wf : GW f) (wg : GW g) (h : ckI f = ckI g) : EQV f g := by
  obtain ⟨-, a0, ⟨a1, a2, a3⟩, ⟨a4, a5, a6⟩, a7, a8, a9, b1, b2, b3⟩ := ckI_g hf
  obtain ⟨-, c0, ⟨c1, c2, c3⟩, ⟨c4, c5, c6⟩, c7, c8, c9, d1, d2, d3⟩ := ckI_g hg
  rw [h] at a0 a1 a2 a3 a4 a5 a6 a7 a8 a9 b1 b2 b3
  have t1 := th3_in hf hg (k := 1) (by decide) (a7.symm.trans c7)
  have t2 := th3_in hf hg (k := 2) (by decide) (a8.symm.trans c8)
  have t3 := th3_in hf hg (k := 3) (by decide) (a9.symm.trans c9)
  have t5 := th3_in hf hg (k := 5) (by decide) (b1.symm.trans d1)
  have t6 := th3_in hf hg (k := 6) (by decide) (b2.symm.trans d2)
  have t7 := th3_in hf hg (k := 7) (by decide) (b3.symm.trans d3)
  refine EQV_of wf wg (i_eq (a0.symm.trans c0)) (fun p hp => ?_) ⟨t1.2.1, t5.2.1, t6.2.1⟩ (fun k hk k0 k4 k8 => ?_)
  · rcases (show p = 0 ∨ p = 1 ∨ p = 2 by omega) with rfl | rfl | rfl
    · exact ⟨i_eq (a1.symm.trans c1), i_eq (a4.symm.trans c4)⟩
    · exact ⟨i_eq (a2.symm.trans c2), i_eq (a5.symm.trans c5)⟩
    · exact ⟨i_eq (a3.symm.trans c3), i_eq (a6.symm.trans c6)⟩
  · rcases (show k = 1 ∨ k = 2 ∨ k = 3 ∨ k = 5 ∨ k = 6 ∨ k = 7 by omega) with rfl | rfl | rfl | rfl | rfl | rfl
    · exact ⟨t1.1, t1.2.2⟩
    · exact ⟨t2.1, t2.2.2⟩
    · exact ⟨t3.1, t3.2.2⟩
    · exact ⟨t5.1, t5.2.2⟩
    · exact ⟨t6.1, t6.2.2⟩
    · exact ⟨t7.1, t7.2.2⟩
theorem th3_cg {f g : SV} (h : EQV f g) {k : Nat} (hk : k < 9) (k0 : k ≠ 0 ∧ k ≠ 4 ∧ k ≠ 8) : th3 f k = th3 g k := by
  unfold th3
  rw [h (10 + k) (by unfold mpl; omega), h (20 + k) (by unfold mpl; omega), h (30 + k) (by unfold mpl; omega)]
theorem ckI_cg {f g : SV} (h : EQV f g) : ckI f = ckI g := by
  unfold ckI
  rw [th3_cg h (k := 1) (by decide) (by decide), th3_cg h (k := 2) (by decide) (by decide), th3_cg h (k := 3) (by decide) (by decide), th3_cg h (k := 5) (by decide) (by decide), th3_cg h (k := 6) (by decide) (by decide), th3_cg h (k := 7) (by decide) (by decide), h 50 (by decide), h 0 (by decide), h 1 (by decide), h 2 (by decide), h 40 (by decide), h 41 (by decide), h 42 (by decide)]
/-- packed alike by the class: packed alike by the reference -/
theorem ck_pk {f g : SV} (hf : GV f) (hg : GV g) (wf : GW f) (wg : GW g) : ckI f = ckI g ↔ pkI f = pkI g := ⟨fun h => pkI_cg (ckI_in hf hg wf wg h), fun h => ckI_cg (pkI_in hf hg wf wg h)⟩
/-- a LAWFUL CODE changes nothing at the other places -/
theorem chg_JZ {c : Int32} {w : MkT} {m : Int32} {g : SV} (hk : w.1.toInt = 7 ∨ w.1.toInt = 8 ∨ w.1.toInt = 14 ∨ w.1.toInt = 9 ∨ w.1.toInt = 11 ∨ w.1.toInt = 12 ∨ w.1.toInt = 13) (hP : PM c w) (h : JZ g) : JZ (chg w.1 (psI c w.2.1) (psI c ((1 : Int32) - w.2.1)) (cdT c) m g) := by
  obtain ⟨p7, p8, p9⟩ := hP
  have rp := psI_r (c := c) (f := w.2.1)
  have rq := psI_r (c := c) (f := (1 : Int32) - w.2.1)
  have rt := (cd_r (c := c)).2.2
  generalize psI c w.2.1 = p at *
  generalize psI c ((1 : Int32) - w.2.1) = q at *
  generalize cdT c = t at *
  have key : (p.toInt ≠ 3 ∧ q.toInt ≠ 3 ∧ p.toInt ≠ q.toInt) → (mpl (10 + prI p q) ∧ mpl (20 + prI p q) ∧ mpl (30 + prI p q)) ∧ mpl (20 + prI q p) := by
    intro z
    have a := mpl_p (p := p.toInt.toNat) (q := q.toInt.toNat) (by omega) (by omega) (by omega)
    have b := mpl_p (p := q.toInt.toNat) (q := p.toInt.toNat) (by omega) (by omega) (by omega)
    exact ⟨a, b.2.1⟩
  intro n hn hm
  have ne : ∀ i, mpl i → n ≠ i := fun i hi e => hm (e ▸ hi)
  rcases hk with e | e | e | e | e | e | e
  · have h7 := p7 e
    rw [chg_7 e, upd_ne (ne _ (by unfold mpl; omega))]; exact h n hn hm
  · have h8 := key (p8 (by omega))
    rw [chg_8 e, upd_ne (ne _ h8.1.1)]; exact h n hn hm
  · rw [chg_14 e, upd_ne (ne _ (by unfold mpl; omega))]; exact h n hn hm
  · have h9 := p9 e
    rw [chg_9 e, upd_ne (ne _ (by unfold mpl; omega))]; exact h n hn hm
  · have h8 := key (p8 (by omega))
    rw [chg_11 e, upd_ne (ne _ h8.2), upd_ne (ne _ h8.1.2.1)]; exact h n hn hm
  · have h8 := key (p8 (by omega))
    rw [chg_12 e, upd_ne (ne _ h8.2), upd_ne (ne _ h8.1.2.1)]; exact h n hn hm
  · have h8 := key (p8 (by omega))
    rw [chg_13 e, upd_ne (ne _ h8.1.2.2)]; exact h n hn hm
theorem mkA_JZ {now : SV} {c : Int32} : ∀ {l : List MkT} {g : SV}, (∀ w ∈ l, PM c w ∧ GdM w) → JZ g → JZ (mkA now c l g)
  | [], _, _, h => h
  | w :: l, _, hl, h => mkA_JZ (l := l) (fun w' hw' => hl w' (List.mem_cons_of_mem _ hw')) (chg_JZ (GdM_t (hl w List.mem_cons_self).2).2 (hl w List.mem_cons_self).1 h)
theorem wy_JZ {nv : List OL} {cu : List CuT} {ac : Nat → Option AcT} {g : SV} {c set laws : Int32} (hG : GdL nv cu ac) (h : JZ g) (hPM : ∀ a, actO ac c laws = some a → ∀ w ∈ a.2.2.2.2, PM c w) : JZ (wyO cu g c set (actO ac c laws)).2 := by
  cases hO : actO ac c laws with
  | none => exact h
  | some a =>
    have hGA := hG.2.2 _ a (actO_s hO).1
    have hP := hPM a hO
    show JZ (wyN cu g c set a (ndI g (cdA c) (cdB c) (cdT c) a.2.2.2.1 0)).2
    cases ndI g (cdA c) (cdB c) (cdT c) a.2.2.2.1 0 with
    | some i => exact h
    | none =>
      show JZ (wyC g c a (cuI g (cdA c) (cdB c) (cdT c) (c / 64) set cu 0)).2
      cases cuI g (cdA c) (cdB c) (cdT c) (c / 64) set cu 0 with
      | some i => exact h
      | none =>
        show JZ (wyB (mkA g c a.2.2.2.2 g)).2
        have h2 : JZ (mkA g c a.2.2.2.2 g) := mkA_JZ (fun w hw => ⟨hP w hw, hGA.2.2 w hw⟩) h
        by_cases hB : inB (mkA g c a.2.2.2.2 g)
        · rw [wyB_y hB]; exact h2
        · rw [wyB_n hB]; exact h2
/-- a STATE that is met -/
def GJ (g : SV) : Prop := GV g ∧ GW g ∧ JZ g
theorem GJ_cz {g : SV} (h : GV g) (h2 : GW g) : GJ (cz g) := ⟨GV_cz h, GW_cz h2, JZ_cz g⟩
theorem GJ_wy {nv : List OL} {cu : List CuT} {ac : Nat → Option AcT} {g : SV} {c set laws : Int32} (hG : GdL nv cu ac) (h : GJ g) (hPM : ∀ a, actO ac c laws = some a → ∀ w ∈ a.2.2.2.2, PM c w) (hr : (wyO cu g c set (actO ac c laws)).1.toInt = -1) : GJ (wyO cu g c set (actO ac c laws)).2 :=
  ⟨(wy_GV hG h.1 h.2.1 hPM hr).1, (wy_GV hG h.1 h.2.1 hPM hr).2, wy_JZ hG h.2.2 hPM⟩
