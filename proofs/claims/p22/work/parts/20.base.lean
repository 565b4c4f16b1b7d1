theorem i_rng (x : Int32) : -2147483648 ≤ x.toInt ∧ x.toInt ≤ 2147483647 := by
  have h1 := Int32.le_toInt x
  have h2 := Int32.toInt_lt x
  omega
theorem bm {x : Int} (h1 : -2147483648 ≤ x) (h2 : x ≤ 2147483647) : Int.bmod x (2 ^ 32) = x := Int.bmod_eq_of_le (by omega) (by omega)
theorem tdv {x c : Int} (h : 0 ≤ x) : x.tdiv c = x / c := Int.tdiv_eq_ediv_of_nonneg h
theorem tnc (x : Int32) : x.toNatClampNeg = x.toInt.toNat := rfl
theorem li_0 : (0 : Int32).toInt = 0 := by decide
theorem li_1 : (1 : Int32).toInt = 1 := by decide
theorem li_2 : (2 : Int32).toInt = 2 := by decide
theorem li_3 : (3 : Int32).toInt = 3 := by decide
theorem li_4 : (4 : Int32).toInt = 4 := by decide
theorem li_5 : (5 : Int32).toInt = 5 := by decide
theorem li_6 : (6 : Int32).toInt = 6 := by decide
theorem li_7 : (7 : Int32).toInt = 7 := by decide
theorem li_8 : (8 : Int32).toInt = 8 := by decide
theorem li_9 : (9 : Int32).toInt = 9 := by decide
theorem li_10 : (10 : Int32).toInt = 10 := by decide
theorem li_11 : (11 : Int32).toInt = 11 := by decide
theorem li_12 : (12 : Int32).toInt = 12 := by decide
theorem li_13 : (13 : Int32).toInt = 13 := by decide
theorem li_14 : (14 : Int32).toInt = 14 := by decide
theorem li_15 : (15 : Int32).toInt = 15 := by decide
theorem li_16 : (16 : Int32).toInt = 16 := by decide
theorem li_20 : (20 : Int32).toInt = 20 := by decide
theorem li_21 : (21 : Int32).toInt = 21 := by decide
theorem li_22 : (22 : Int32).toInt = 22 := by decide
theorem li_23 : (23 : Int32).toInt = 23 := by decide
theorem li_24 : (24 : Int32).toInt = 24 := by decide
theorem li_25 : (25 : Int32).toInt = 25 := by decide
theorem li_26 : (26 : Int32).toInt = 26 := by decide
theorem li_27 : (27 : Int32).toInt = 27 := by decide
theorem li_28 : (28 : Int32).toInt = 28 := by decide
theorem li_29 : (29 : Int32).toInt = 29 := by decide
theorem li_30 : (30 : Int32).toInt = 30 := by decide
theorem li_31 : (31 : Int32).toInt = 31 := by decide
theorem li_32 : (32 : Int32).toInt = 32 := by decide
theorem li_35 : (35 : Int32).toInt = 35 := by decide
theorem li_36 : (36 : Int32).toInt = 36 := by decide
theorem li_40 : (40 : Int32).toInt = 40 := by decide
theorem li_41 : (41 : Int32).toInt = 41 := by decide
theorem li_42 : (42 : Int32).toInt = 42 := by decide
theorem li_43 : (43 : Int32).toInt = 43 := by decide
theorem li_45 : (45 : Int32).toInt = 45 := by decide
theorem li_48 : (48 : Int32).toInt = 48 := by decide
theorem li_50 : (50 : Int32).toInt = 50 := by decide
theorem li_51 : (51 : Int32).toInt = 51 := by decide
theorem li_57 : (57 : Int32).toInt = 57 := by decide
theorem li_59 : (59 : Int32).toInt = 59 := by decide
theorem li_60 : (60 : Int32).toInt = 60 := by decide
theorem li_61 : (61 : Int32).toInt = 61 := by decide
theorem li_62 : (62 : Int32).toInt = 62 := by decide
theorem li_63 : (63 : Int32).toInt = 63 := by decide
theorem li_64 : (64 : Int32).toInt = 64 := by decide
theorem li_97 : (97 : Int32).toInt = 97 := by decide
theorem li_99 : (99 : Int32).toInt = 99 := by decide
theorem li_100 : (100 : Int32).toInt = 100 := by decide
theorem li_122 : (122 : Int32).toInt = 122 := by decide
theorem li_200 : (200 : Int32).toInt = 200 := by decide
theorem li_255 : (255 : Int32).toInt = 255 := by decide
theorem li_302 : (302 : Int32).toInt = 302 := by decide
theorem li_303 : (303 : Int32).toInt = 303 := by decide
theorem li_304 : (304 : Int32).toInt = 304 := by decide
theorem li_305 : (305 : Int32).toInt = 305 := by decide
theorem li_306 : (306 : Int32).toInt = 306 := by decide
theorem li_307 : (307 : Int32).toInt = 307 := by decide
theorem li_308 : (308 : Int32).toInt = 308 := by decide
theorem li_309 : (309 : Int32).toInt = 309 := by decide
theorem li_310 : (310 : Int32).toInt = 310 := by decide
theorem li_311 : (311 : Int32).toInt = 311 := by decide
theorem li_312 : (312 : Int32).toInt = 312 := by decide
theorem li_313 : (313 : Int32).toInt = 313 := by decide
theorem li_314 : (314 : Int32).toInt = 314 := by decide
theorem li_315 : (315 : Int32).toInt = 315 := by decide
theorem li_316 : (316 : Int32).toInt = 316 := by decide
theorem li_317 : (317 : Int32).toInt = 317 := by decide
theorem li_318 : (318 : Int32).toInt = 318 := by decide
theorem li_319 : (319 : Int32).toInt = 319 := by decide
theorem li_400 : (400 : Int32).toInt = 400 := by decide
theorem li_700 : (700 : Int32).toInt = 700 := by decide
theorem li_701 : (701 : Int32).toInt = 701 := by decide
theorem li_720 : (720 : Int32).toInt = 720 := by decide
theorem li_767 : (767 : Int32).toInt = 767 := by decide
theorem li_768 : (768 : Int32).toInt = 768 := by decide
theorem li_999 : (999 : Int32).toInt = 999 := by decide
theorem li_1000 : (1000 : Int32).toInt = 1000 := by decide
theorem li_1023 : (1023 : Int32).toInt = 1023 := by decide
theorem li_1024 : (1024 : Int32).toInt = 1024 := by decide
theorem li_1440 : (1440 : Int32).toInt = 1440 := by decide
theorem li_18720 : (18720 : Int32).toInt = 18720 := by decide
theorem i_eq {x y : Int32} (h : x.toInt = y.toInt) : x = y := Int32.toInt_inj.mp h
theorem i_bool {x : Int32} (h0 : 0 ≤ x.toInt) (h1 : x.toInt ≤ 1) : x = 0 ∨ x = 1 := by
  have h : x.toInt = 0 ∨ x.toInt = 1 := by omega
  rcases h with h | h
  · exact Or.inl (i_eq h)
  · exact Or.inr (i_eq h)
theorem b_rng {x : Int32} (h : x = 0 ∨ x = 1) : 0 ≤ x.toInt ∧ x.toInt ≤ 1 := by rcases h with rfl | rfl <;> decide
theorem i_and {a c : Int32} (hc : 0 ≤ c.toInt) : 0 ≤ (a &&& c).toInt ∧ (a &&& c).toInt ≤ c.toInt := by
  have e1 : (a &&& c).toInt = (a.toBitVec &&& c.toBitVec).toInt := rfl
  have e2 : c.toInt = c.toBitVec.toInt := rfl
  rw [e2] at hc
  rw [e1, e2]
  have h1 : c.toBitVec.toInt = c.toBitVec.toNat := by
    rw [BitVec.toInt_eq_toNat_cond] at hc ⊢
    split at hc
    · rename_i h; rw [if_pos h]
    · have := c.toBitVec.isLt; omega
  have h2 : (a.toBitVec &&& c.toBitVec).toNat ≤ c.toBitVec.toNat := by
    rw [BitVec.toNat_and]; exact Nat.and_le_right
  have h3 : 2 * c.toBitVec.toNat < 2 ^ 32 := by
    have := Int32.toInt_lt c
    rw [e2, h1] at this
    omega
  have h4 : (a.toBitVec &&& c.toBitVec).toInt = (a.toBitVec &&& c.toBitVec).toNat := by
    rw [BitVec.toInt_eq_toNat_cond, if_pos (by omega)]
  rw [h4, h1]
  omega
theorem l_and {a c : Int64} (hc : 0 ≤ c.toInt) : 0 ≤ (a &&& c).toInt ∧ (a &&& c).toInt ≤ c.toInt := by
  have e1 : (a &&& c).toInt = (a.toBitVec &&& c.toBitVec).toInt := rfl
  have e2 : c.toInt = c.toBitVec.toInt := rfl
  rw [e2] at hc
  rw [e1, e2]
  have h1 : c.toBitVec.toInt = c.toBitVec.toNat := by
    rw [BitVec.toInt_eq_toNat_cond] at hc ⊢
    split at hc
    · rename_i h; rw [if_pos h]
    · have := c.toBitVec.isLt; omega
  have h2 : (a.toBitVec &&& c.toBitVec).toNat ≤ c.toBitVec.toNat := by
    rw [BitVec.toNat_and]; exact Nat.and_le_right
  have h3 : 2 * c.toBitVec.toNat < 2 ^ 64 := by
    have := Int64.toInt_lt c
    rw [e2, h1] at this
    omega
  have h4 : (a.toBitVec &&& c.toBitVec).toInt = (a.toBitVec &&& c.toBitVec).toNat := by
    rw [BitVec.toInt_eq_toNat_cond, if_pos (by omega)]
  rw [h4, h1]
  omega
theorem l_int {v : Int64} (h1 : -2147483648 ≤ v.toInt) (h2 : v.toInt ≤ 2147483647) : v.toInt32.toInt = v.toInt := by
  rw [Int64.toInt_toInt32]
  exact bm h1 h2
theorem l_ai {a c : Int64} (k : Int) (hc : c.toInt = k) (h0 : 0 ≤ k) (h1 : k ≤ 2147483647) : 0 ≤ (a &&& c).toInt32.toInt ∧ (a &&& c).toInt32.toInt ≤ k := by
  have h := l_and (a := a) (c := c) (by omega)
  rw [l_int (by omega) (by omega)]
  omega
theorem upd_at (f : Nat → Int32) (k : Nat) (x : Int32) : upd f k x k = x := by simp [upd]
theorem upd_ne {f : Nat → Int32} {k j : Nat} {x : Int32} (h : j ≠ k) : upd f k x j = f j := by simp [upd, h]
theorem upl_at (f : Nat → Int64) (k : Nat) (x : Int64) : vp_updL f k x k = x := by simp [vp_updL]
theorem upl_ne {f : Nat → Int64} {k j : Nat} {x : Int64} (h : j ≠ k) : vp_updL f k x j = f j := by simp [vp_updL, h]
theorem si_at (S : GS) (k : Nat) (x : Int32) : (si S k x).1 k = x := by simp [si, zu]
theorem si_ne {S : GS} {k j : Nat} {x : Int32} (h : j ≠ k) : (si S k x).1 j = S.1 j := by simp [si, zu, h]
theorem si_2 (S : GS) (k : Nat) (x : Int32) : (si S k x).2 = S.2 := rfl
theorem sl_at (S : GS) (k : Nat) (x : Int64) : (sl S k x).2.1 k = x := by simp [sl, zu]
theorem sl_ne {S : GS} {k j : Nat} {x : Int64} (h : j ≠ k) : (sl S k x).2.1 j = S.2.1 j := by simp [sl, zu, h]
theorem sl_1 (S : GS) (k : Nat) (x : Int64) : (sl S k x).1 = S.1 := rfl
theorem sl_2 (S : GS) (k : Nat) (x : Int64) : (sl S k x).2.2 = S.2.2 := rfl
theorem su_at (S : GS) (j i : Nat) (x : Int32) : (su S j i x).2.2.1 j = upd (S.2.2.1 j) i x := by simp [su, sa, zu]
theorem su_ne {S : GS} {j k i : Nat} {x : Int32} (h : k ≠ j) : (su S j i x).2.2.1 k = S.2.2.1 k := by simp [su, sa, zu, h]
theorem su_1 (S : GS) (j i : Nat) (x : Int32) : (su S j i x).1 = S.1 := rfl
theorem su_2 (S : GS) (j i : Nat) (x : Int32) : (su S j i x).2.1 = S.2.1 := rfl
theorem su_3 (S : GS) (j i : Nat) (x : Int32) : (su S j i x).2.2.2 = S.2.2.2 := rfl
theorem sv_at (S : GS) (j i : Nat) (x : Int64) : (sv S j i x).2.2.2 j = vp_updL (S.2.2.2 j) i x := by simp [sv, sb, zu]
theorem sv_ne {S : GS} {j k i : Nat} {x : Int64} (h : k ≠ j) : (sv S j i x).2.2.2 k = S.2.2.2 k := by simp [sv, sb, zu, h]
theorem sv_1 (S : GS) (j i : Nat) (x : Int64) : (sv S j i x).1 = S.1 := rfl
theorem sv_2 (S : GS) (j i : Nat) (x : Int64) : (sv S j i x).2.1 = S.2.1 := rfl
theorem sv_3 (S : GS) (j i : Nat) (x : Int64) : (sv S j i x).2.2.1 = S.2.2.1 := rfl
/-- what may have changed: the ints I, the longs L, the int rows A, the long rows M -/
def Fr (I L A M : List Nat) (S S' : GS) : Prop := (∀ k, k ∉ I → S'.1 k = S.1 k) ∧ (∀ k, k ∉ L → S'.2.1 k = S.2.1 k) ∧ (∀ j, j ∉ A → S'.2.2.1 j = S.2.2.1 j) ∧ (∀ j, j ∉ M → S'.2.2.2 j = S.2.2.2 j)
theorem Fr.rf {I L A M : List Nat} {S : GS} : Fr I L A M S S := ⟨fun _ _ => rfl, fun _ _ => rfl, fun _ _ => rfl, fun _ _ => rfl⟩
theorem Fr.tr {I L A M : List Nat} {S S' S'' : GS} (h : Fr I L A M S S') (g : Fr I L A M S' S'') : Fr I L A M S S'' := ⟨fun k hk => (g.1 k hk).trans (h.1 k hk), fun k hk => (g.2.1 k hk).trans (h.2.1 k hk), fun k hk => (g.2.2.1 k hk).trans (h.2.2.1 k hk), fun k hk => (g.2.2.2 k hk).trans (h.2.2.2 k hk)⟩
theorem Fr.wk {I L A M I' L' A' M' : List Nat} {S S' : GS} (h : Fr I L A M S S') (hs : (∀ x ∈ I, x ∈ I') ∧ (∀ x ∈ L, x ∈ L') ∧ (∀ x ∈ A, x ∈ A') ∧ (∀ x ∈ M, x ∈ M')) : Fr I' L' A' M' S S' := ⟨fun k hk => h.1 k (fun q => hk (hs.1 k q)), fun k hk => h.2.1 k (fun q => hk (hs.2.1 k q)), fun k hk => h.2.2.1 k (fun q => hk (hs.2.2.1 k q)), fun k hk => h.2.2.2 k (fun q => hk (hs.2.2.2 k q))⟩
theorem Fr.si {I L A M : List Nat} {S S' : GS} {k : Nat} {x : Int32} (hk : k ∈ I) (h : Fr I L A M S S') : Fr I L A M S (si S' k x) := ⟨fun j hj => (si_ne (k := k) (j := j) (fun e => hj (by rw [e]; exact hk))).trans (h.1 j hj), h.2.1, h.2.2.1, h.2.2.2⟩
theorem Fr.sl {I L A M : List Nat} {S S' : GS} {k : Nat} {x : Int64} (hk : k ∈ L) (h : Fr I L A M S S') : Fr I L A M S (sl S' k x) := ⟨h.1, fun j hj => (sl_ne (k := k) (j := j) (fun e => hj (by rw [e]; exact hk))).trans (h.2.1 j hj), h.2.2.1, h.2.2.2⟩
theorem Fr.su {I L A M : List Nat} {S S' : GS} {k i : Nat} {x : Int32} (hk : k ∈ A) (h : Fr I L A M S S') : Fr I L A M S (su S' k i x) := ⟨h.1, h.2.1, fun j hj => (su_ne (j := k) (k := j) (fun e => hj (by rw [e]; exact hk))).trans (h.2.2.1 j hj), h.2.2.2⟩
theorem Fr.sv {I L A M : List Nat} {S S' : GS} {k i : Nat} {x : Int64} (hk : k ∈ M) (h : Fr I L A M S S') : Fr I L A M S (sv S' k i x) := ⟨h.1, h.2.1, h.2.2.1, fun j hj => (sv_ne (j := k) (k := j) (fun e => hj (by rw [e]; exact hk))).trans (h.2.2.2 j hj)⟩
/-- numbers -/
theorem inc1 {x : Int32} (h : x.toInt < 2147483647) : (x + 1).toInt = x.toInt + 1 := by
  have := i_rng x
  simp (disch := omega) only [Int32.toInt_add, Int32.toInt_sub, Int32.toInt_mul, Int32.toInt_neg, li_0, li_1, li_2, li_3, li_4, li_5, li_6, li_7, li_8, li_9, li_10, li_11, li_12, li_13, li_14, li_15, li_16, li_20, li_21, li_22, li_23, li_24, li_25, li_26, li_27, li_28, li_29, li_30, li_31, li_32, li_35, li_36, li_40, li_41, li_42, li_43, li_45, li_48, li_50, li_51, li_57, li_59, li_60, li_61, li_62, li_63, li_64, li_97, li_99, li_100, li_122, li_200, li_255, li_302, li_303, li_304, li_305, li_306, li_307, li_308, li_309, li_310, li_311, li_312, li_313, li_314, li_315, li_316, li_317, li_318, li_319, li_400, li_700, li_701, li_720, li_767, li_768, li_999, li_1000, li_1023, li_1024, li_1440, li_18720, bm]
theorem dec1 {x : Int32} (h : -2147483648 < x.toInt) : (x + -1).toInt = x.toInt - 1 := by
  have := i_rng x
  simp (disch := omega) only [Int32.toInt_add, Int32.toInt_sub, Int32.toInt_mul, Int32.toInt_neg, li_0, li_1, li_2, li_3, li_4, li_5, li_6, li_7, li_8, li_9, li_10, li_11, li_12, li_13, li_14, li_15, li_16, li_20, li_21, li_22, li_23, li_24, li_25, li_26, li_27, li_28, li_29, li_30, li_31, li_32, li_35, li_36, li_40, li_41, li_42, li_43, li_45, li_48, li_50, li_51, li_57, li_59, li_60, li_61, li_62, li_63, li_64, li_97, li_99, li_100, li_122, li_200, li_255, li_302, li_303, li_304, li_305, li_306, li_307, li_308, li_309, li_310, li_311, li_312, li_313, li_314, li_315, li_316, li_317, li_318, li_319, li_400, li_700, li_701, li_720, li_767, li_768, li_999, li_1000, li_1023, li_1024, li_1440, li_18720, bm]
  omega
theorem dec2 {x : Int32} (h : -2147483647 < x.toInt) : (x + -1 - 1).toInt = x.toInt - 2 := by
  have := i_rng x
  simp (disch := omega) only [Int32.toInt_add, Int32.toInt_sub, Int32.toInt_mul, Int32.toInt_neg, li_0, li_1, li_2, li_3, li_4, li_5, li_6, li_7, li_8, li_9, li_10, li_11, li_12, li_13, li_14, li_15, li_16, li_20, li_21, li_22, li_23, li_24, li_25, li_26, li_27, li_28, li_29, li_30, li_31, li_32, li_35, li_36, li_40, li_41, li_42, li_43, li_45, li_48, li_50, li_51, li_57, li_59, li_60, li_61, li_62, li_63, li_64, li_97, li_99, li_100, li_122, li_200, li_255, li_302, li_303, li_304, li_305, li_306, li_307, li_308, li_309, li_310, li_311, li_312, li_313, li_314, li_315, li_316, li_317, li_318, li_319, li_400, li_700, li_701, li_720, li_767, li_768, li_999, li_1000, li_1023, li_1024, li_1440, li_18720, bm]
  omega
theorem sub1 {x : Int32} (h : -2147483648 < x.toInt) : (x - 1).toInt = x.toInt - 1 := by
  have := i_rng x
  simp (disch := omega) only [Int32.toInt_add, Int32.toInt_sub, Int32.toInt_mul, Int32.toInt_neg, li_0, li_1, li_2, li_3, li_4, li_5, li_6, li_7, li_8, li_9, li_10, li_11, li_12, li_13, li_14, li_15, li_16, li_20, li_21, li_22, li_23, li_24, li_25, li_26, li_27, li_28, li_29, li_30, li_31, li_32, li_35, li_36, li_40, li_41, li_42, li_43, li_45, li_48, li_50, li_51, li_57, li_59, li_60, li_61, li_62, li_63, li_64, li_97, li_99, li_100, li_122, li_200, li_255, li_302, li_303, li_304, li_305, li_306, li_307, li_308, li_309, li_310, li_311, li_312, li_313, li_314, li_315, li_316, li_317, li_318, li_319, li_400, li_700, li_701, li_720, li_767, li_768, li_999, li_1000, li_1023, li_1024, li_1440, li_18720, bm]
theorem step1 {t i : Int32} (ht : 0 ≤ t.toInt ∧ t.toInt ≤ 1000) (hi : 0 ≤ i.toInt ∧ i.toInt ≤ 1000) : ((1440 : Int32) * t + (2 : Int32) * i).toInt = 1440 * t.toInt + 2 * i.toInt := by simp (disch := omega) only [Int32.toInt_add, Int32.toInt_sub, Int32.toInt_mul, Int32.toInt_neg, li_0, li_1, li_2, li_3, li_4, li_5, li_6, li_7, li_8, li_9, li_10, li_11, li_12, li_13, li_14, li_15, li_16, li_20, li_21, li_22, li_23, li_24, li_25, li_26, li_27, li_28, li_29, li_30, li_31, li_32, li_35, li_36, li_40, li_41, li_42, li_43, li_45, li_48, li_50, li_51, li_57, li_59, li_60, li_61, li_62, li_63, li_64, li_97, li_99, li_100, li_122, li_200, li_255, li_302, li_303, li_304, li_305, li_306, li_307, li_308, li_309, li_310, li_311, li_312, li_313, li_314, li_315, li_316, li_317, li_318, li_319, li_400, li_700, li_701, li_720, li_767, li_768, li_999, li_1000, li_1023, li_1024, li_1440, li_18720, bm]
theorem step2 {t i : Int32} (ht : 0 ≤ t.toInt ∧ t.toInt ≤ 1000) (hi : 0 ≤ i.toInt ∧ i.toInt ≤ 1000) : ((1440 : Int32) * t + (2 : Int32) * i + 1).toInt = 1440 * t.toInt + 2 * i.toInt + 1 := by simp (disch := omega) only [Int32.toInt_add, Int32.toInt_sub, Int32.toInt_mul, Int32.toInt_neg, li_0, li_1, li_2, li_3, li_4, li_5, li_6, li_7, li_8, li_9, li_10, li_11, li_12, li_13, li_14, li_15, li_16, li_20, li_21, li_22, li_23, li_24, li_25, li_26, li_27, li_28, li_29, li_30, li_31, li_32, li_35, li_36, li_40, li_41, li_42, li_43, li_45, li_48, li_50, li_51, li_57, li_59, li_60, li_61, li_62, li_63, li_64, li_97, li_99, li_100, li_122, li_200, li_255, li_302, li_303, li_304, li_305, li_306, li_307, li_308, li_309, li_310, li_311, li_312, li_313, li_314, li_315, li_316, li_317, li_318, li_319, li_400, li_700, li_701, li_720, li_767, li_768, li_999, li_1000, li_1023, li_1024, li_1440, li_18720, bm]
theorem step3 {i : Int32} (hi : 0 ≤ i.toInt ∧ i.toInt ≤ 1000) : ((18720 : Int32) + (2 : Int32) * i).toInt = 18720 + 2 * i.toInt := by simp (disch := omega) only [Int32.toInt_add, Int32.toInt_sub, Int32.toInt_mul, Int32.toInt_neg, li_0, li_1, li_2, li_3, li_4, li_5, li_6, li_7, li_8, li_9, li_10, li_11, li_12, li_13, li_14, li_15, li_16, li_20, li_21, li_22, li_23, li_24, li_25, li_26, li_27, li_28, li_29, li_30, li_31, li_32, li_35, li_36, li_40, li_41, li_42, li_43, li_45, li_48, li_50, li_51, li_57, li_59, li_60, li_61, li_62, li_63, li_64, li_97, li_99, li_100, li_122, li_200, li_255, li_302, li_303, li_304, li_305, li_306, li_307, li_308, li_309, li_310, li_311, li_312, li_313, li_314, li_315, li_316, li_317, li_318, li_319, li_400, li_700, li_701, li_720, li_767, li_768, li_999, li_1000, li_1023, li_1024, li_1440, li_18720, bm]
theorem step4 {i : Int32} (hi : 0 ≤ i.toInt ∧ i.toInt ≤ 1000) : ((18720 : Int32) + (2 : Int32) * i + 1).toInt = 18720 + 2 * i.toInt + 1 := by simp (disch := omega) only [Int32.toInt_add, Int32.toInt_sub, Int32.toInt_mul, Int32.toInt_neg, li_0, li_1, li_2, li_3, li_4, li_5, li_6, li_7, li_8, li_9, li_10, li_11, li_12, li_13, li_14, li_15, li_16, li_20, li_21, li_22, li_23, li_24, li_25, li_26, li_27, li_28, li_29, li_30, li_31, li_32, li_35, li_36, li_40, li_41, li_42, li_43, li_45, li_48, li_50, li_51, li_57, li_59, li_60, li_61, li_62, li_63, li_64, li_97, li_99, li_100, li_122, li_200, li_255, li_302, li_303, li_304, li_305, li_306, li_307, li_308, li_309, li_310, li_311, li_312, li_313, li_314, li_315, li_316, li_317, li_318, li_319, li_400, li_700, li_701, li_720, li_767, li_768, li_999, li_1000, li_1023, li_1024, li_1440, li_18720, bm]
theorem ma_3 {p q : Int32} (hp : 0 ≤ p.toInt ∧ p.toInt ≤ 1000) (hq : 0 ≤ q.toInt ∧ q.toInt ≤ 10000) : ((3 : Int32) * p + q).toInt = 3 * p.toInt + q.toInt := by simp (disch := omega) only [Int32.toInt_add, Int32.toInt_sub, Int32.toInt_mul, Int32.toInt_neg, li_0, li_1, li_2, li_3, li_4, li_5, li_6, li_7, li_8, li_9, li_10, li_11, li_12, li_13, li_14, li_15, li_16, li_20, li_21, li_22, li_23, li_24, li_25, li_26, li_27, li_28, li_29, li_30, li_31, li_32, li_35, li_36, li_40, li_41, li_42, li_43, li_45, li_48, li_50, li_51, li_57, li_59, li_60, li_61, li_62, li_63, li_64, li_97, li_99, li_100, li_122, li_200, li_255, li_302, li_303, li_304, li_305, li_306, li_307, li_308, li_309, li_310, li_311, li_312, li_313, li_314, li_315, li_316, li_317, li_318, li_319, li_400, li_700, li_701, li_720, li_767, li_768, li_999, li_1000, li_1023, li_1024, li_1440, li_18720, bm]
theorem ma_4 {p q : Int32} (hp : 0 ≤ p.toInt ∧ p.toInt ≤ 1000) (hq : 0 ≤ q.toInt ∧ q.toInt ≤ 10000) : ((4 : Int32) * p + q).toInt = 4 * p.toInt + q.toInt := by simp (disch := omega) only [Int32.toInt_add, Int32.toInt_sub, Int32.toInt_mul, Int32.toInt_neg, li_0, li_1, li_2, li_3, li_4, li_5, li_6, li_7, li_8, li_9, li_10, li_11, li_12, li_13, li_14, li_15, li_16, li_20, li_21, li_22, li_23, li_24, li_25, li_26, li_27, li_28, li_29, li_30, li_31, li_32, li_35, li_36, li_40, li_41, li_42, li_43, li_45, li_48, li_50, li_51, li_57, li_59, li_60, li_61, li_62, li_63, li_64, li_97, li_99, li_100, li_122, li_200, li_255, li_302, li_303, li_304, li_305, li_306, li_307, li_308, li_309, li_310, li_311, li_312, li_313, li_314, li_315, li_316, li_317, li_318, li_319, li_400, li_700, li_701, li_720, li_767, li_768, li_999, li_1000, li_1023, li_1024, li_1440, li_18720, bm]
theorem ma_6 {p q : Int32} (hp : 0 ≤ p.toInt ∧ p.toInt ≤ 1000) (hq : 0 ≤ q.toInt ∧ q.toInt ≤ 10000) : ((6 : Int32) * p + q).toInt = 6 * p.toInt + q.toInt := by simp (disch := omega) only [Int32.toInt_add, Int32.toInt_sub, Int32.toInt_mul, Int32.toInt_neg, li_0, li_1, li_2, li_3, li_4, li_5, li_6, li_7, li_8, li_9, li_10, li_11, li_12, li_13, li_14, li_15, li_16, li_20, li_21, li_22, li_23, li_24, li_25, li_26, li_27, li_28, li_29, li_30, li_31, li_32, li_35, li_36, li_40, li_41, li_42, li_43, li_45, li_48, li_50, li_51, li_57, li_59, li_60, li_61, li_62, li_63, li_64, li_97, li_99, li_100, li_122, li_200, li_255, li_302, li_303, li_304, li_305, li_306, li_307, li_308, li_309, li_310, li_311, li_312, li_313, li_314, li_315, li_316, li_317, li_318, li_319, li_400, li_700, li_701, li_720, li_767, li_768, li_999, li_1000, li_1023, li_1024, li_1440, li_18720, bm]
theorem ma_10 {p q : Int32} (hp : 0 ≤ p.toInt ∧ p.toInt ≤ 1000) (hq : 0 ≤ q.toInt ∧ q.toInt ≤ 10000) : ((10 : Int32) * p + q).toInt = 10 * p.toInt + q.toInt := by simp (disch := omega) only [Int32.toInt_add, Int32.toInt_sub, Int32.toInt_mul, Int32.toInt_neg, li_0, li_1, li_2, li_3, li_4, li_5, li_6, li_7, li_8, li_9, li_10, li_11, li_12, li_13, li_14, li_15, li_16, li_20, li_21, li_22, li_23, li_24, li_25, li_26, li_27, li_28, li_29, li_30, li_31, li_32, li_35, li_36, li_40, li_41, li_42, li_43, li_45, li_48, li_50, li_51, li_57, li_59, li_60, li_61, li_62, li_63, li_64, li_97, li_99, li_100, li_122, li_200, li_255, li_302, li_303, li_304, li_305, li_306, li_307, li_308, li_309, li_310, li_311, li_312, li_313, li_314, li_315, li_316, li_317, li_318, li_319, li_400, li_700, li_701, li_720, li_767, li_768, li_999, li_1000, li_1023, li_1024, li_1440, li_18720, bm]
theorem ma_12 {p q : Int32} (hp : 0 ≤ p.toInt ∧ p.toInt ≤ 1000) (hq : 0 ≤ q.toInt ∧ q.toInt ≤ 10000) : ((12 : Int32) * p + q).toInt = 12 * p.toInt + q.toInt := by simp (disch := omega) only [Int32.toInt_add, Int32.toInt_sub, Int32.toInt_mul, Int32.toInt_neg, li_0, li_1, li_2, li_3, li_4, li_5, li_6, li_7, li_8, li_9, li_10, li_11, li_12, li_13, li_14, li_15, li_16, li_20, li_21, li_22, li_23, li_24, li_25, li_26, li_27, li_28, li_29, li_30, li_31, li_32, li_35, li_36, li_40, li_41, li_42, li_43, li_45, li_48, li_50, li_51, li_57, li_59, li_60, li_61, li_62, li_63, li_64, li_97, li_99, li_100, li_122, li_200, li_255, li_302, li_303, li_304, li_305, li_306, li_307, li_308, li_309, li_310, li_311, li_312, li_313, li_314, li_315, li_316, li_317, li_318, li_319, li_400, li_700, li_701, li_720, li_767, li_768, li_999, li_1000, li_1023, li_1024, li_1440, li_18720, bm]
theorem ma_1440 {p q : Int32} (hp : 0 ≤ p.toInt ∧ p.toInt ≤ 1000) (hq : 0 ≤ q.toInt ∧ q.toInt ≤ 10000) : ((1440 : Int32) * p + q).toInt = 1440 * p.toInt + q.toInt := by simp (disch := omega) only [Int32.toInt_add, Int32.toInt_sub, Int32.toInt_mul, Int32.toInt_neg, li_0, li_1, li_2, li_3, li_4, li_5, li_6, li_7, li_8, li_9, li_10, li_11, li_12, li_13, li_14, li_15, li_16, li_20, li_21, li_22, li_23, li_24, li_25, li_26, li_27, li_28, li_29, li_30, li_31, li_32, li_35, li_36, li_40, li_41, li_42, li_43, li_45, li_48, li_50, li_51, li_57, li_59, li_60, li_61, li_62, li_63, li_64, li_97, li_99, li_100, li_122, li_200, li_255, li_302, li_303, li_304, li_305, li_306, li_307, li_308, li_309, li_310, li_311, li_312, li_313, li_314, li_315, li_316, li_317, li_318, li_319, li_400, li_700, li_701, li_720, li_767, li_768, li_999, li_1000, li_1023, li_1024, li_1440, li_18720, bm]
theorem ad_2 {q : Int32} (hq : -1000 ≤ q.toInt ∧ q.toInt ≤ 100000) : ((2 : Int32) + q).toInt = 2 + q.toInt := by simp (disch := omega) only [Int32.toInt_add, Int32.toInt_sub, Int32.toInt_mul, Int32.toInt_neg, li_0, li_1, li_2, li_3, li_4, li_5, li_6, li_7, li_8, li_9, li_10, li_11, li_12, li_13, li_14, li_15, li_16, li_20, li_21, li_22, li_23, li_24, li_25, li_26, li_27, li_28, li_29, li_30, li_31, li_32, li_35, li_36, li_40, li_41, li_42, li_43, li_45, li_48, li_50, li_51, li_57, li_59, li_60, li_61, li_62, li_63, li_64, li_97, li_99, li_100, li_122, li_200, li_255, li_302, li_303, li_304, li_305, li_306, li_307, li_308, li_309, li_310, li_311, li_312, li_313, li_314, li_315, li_316, li_317, li_318, li_319, li_400, li_700, li_701, li_720, li_767, li_768, li_999, li_1000, li_1023, li_1024, li_1440, li_18720, bm]
theorem ad_8 {q : Int32} (hq : -1000 ≤ q.toInt ∧ q.toInt ≤ 100000) : ((8 : Int32) + q).toInt = 8 + q.toInt := by simp (disch := omega) only [Int32.toInt_add, Int32.toInt_sub, Int32.toInt_mul, Int32.toInt_neg, li_0, li_1, li_2, li_3, li_4, li_5, li_6, li_7, li_8, li_9, li_10, li_11, li_12, li_13, li_14, li_15, li_16, li_20, li_21, li_22, li_23, li_24, li_25, li_26, li_27, li_28, li_29, li_30, li_31, li_32, li_35, li_36, li_40, li_41, li_42, li_43, li_45, li_48, li_50, li_51, li_57, li_59, li_60, li_61, li_62, li_63, li_64, li_97, li_99, li_100, li_122, li_200, li_255, li_302, li_303, li_304, li_305, li_306, li_307, li_308, li_309, li_310, li_311, li_312, li_313, li_314, li_315, li_316, li_317, li_318, li_319, li_400, li_700, li_701, li_720, li_767, li_768, li_999, li_1000, li_1023, li_1024, li_1440, li_18720, bm]
theorem ad_10 {q : Int32} (hq : -1000 ≤ q.toInt ∧ q.toInt ≤ 100000) : ((10 : Int32) + q).toInt = 10 + q.toInt := by simp (disch := omega) only [Int32.toInt_add, Int32.toInt_sub, Int32.toInt_mul, Int32.toInt_neg, li_0, li_1, li_2, li_3, li_4, li_5, li_6, li_7, li_8, li_9, li_10, li_11, li_12, li_13, li_14, li_15, li_16, li_20, li_21, li_22, li_23, li_24, li_25, li_26, li_27, li_28, li_29, li_30, li_31, li_32, li_35, li_36, li_40, li_41, li_42, li_43, li_45, li_48, li_50, li_51, li_57, li_59, li_60, li_61, li_62, li_63, li_64, li_97, li_99, li_100, li_122, li_200, li_255, li_302, li_303, li_304, li_305, li_306, li_307, li_308, li_309, li_310, li_311, li_312, li_313, li_314, li_315, li_316, li_317, li_318, li_319, li_400, li_700, li_701, li_720, li_767, li_768, li_999, li_1000, li_1023, li_1024, li_1440, li_18720, bm]
theorem ad_12 {q : Int32} (hq : -1000 ≤ q.toInt ∧ q.toInt ≤ 100000) : ((12 : Int32) + q).toInt = 12 + q.toInt := by simp (disch := omega) only [Int32.toInt_add, Int32.toInt_sub, Int32.toInt_mul, Int32.toInt_neg, li_0, li_1, li_2, li_3, li_4, li_5, li_6, li_7, li_8, li_9, li_10, li_11, li_12, li_13, li_14, li_15, li_16, li_20, li_21, li_22, li_23, li_24, li_25, li_26, li_27, li_28, li_29, li_30, li_31, li_32, li_35, li_36, li_40, li_41, li_42, li_43, li_45, li_48, li_50, li_51, li_57, li_59, li_60, li_61, li_62, li_63, li_64, li_97, li_99, li_100, li_122, li_200, li_255, li_302, li_303, li_304, li_305, li_306, li_307, li_308, li_309, li_310, li_311, li_312, li_313, li_314, li_315, li_316, li_317, li_318, li_319, li_400, li_700, li_701, li_720, li_767, li_768, li_999, li_1000, li_1023, li_1024, li_1440, li_18720, bm]
theorem ad_18720 {q : Int32} (hq : -1000 ≤ q.toInt ∧ q.toInt ≤ 100000) : ((18720 : Int32) + q).toInt = 18720 + q.toInt := by simp (disch := omega) only [Int32.toInt_add, Int32.toInt_sub, Int32.toInt_mul, Int32.toInt_neg, li_0, li_1, li_2, li_3, li_4, li_5, li_6, li_7, li_8, li_9, li_10, li_11, li_12, li_13, li_14, li_15, li_16, li_20, li_21, li_22, li_23, li_24, li_25, li_26, li_27, li_28, li_29, li_30, li_31, li_32, li_35, li_36, li_40, li_41, li_42, li_43, li_45, li_48, li_50, li_51, li_57, li_59, li_60, li_61, li_62, li_63, li_64, li_97, li_99, li_100, li_122, li_200, li_255, li_302, li_303, li_304, li_305, li_306, li_307, li_308, li_309, li_310, li_311, li_312, li_313, li_314, li_315, li_316, li_317, li_318, li_319, li_400, li_700, li_701, li_720, li_767, li_768, li_999, li_1000, li_1023, li_1024, li_1440, li_18720, bm]
theorem lr1 {A1 : Type} {F : (A1 → Prop) → A1 → Prop} {z : A1 → Prop} (I : A1 → Prop) (μ : A1 → Nat) (st : ∀ (k : A1 → Prop) a1, I a1 → (∀ b1, I b1 → μ b1 < μ a1 → k b1) → F k a1) a1 (h : I a1) : ∃ n, lpn F z n a1 := by
  have h0 : ∀ n a1, I a1 → μ a1 < n → lpn F z n a1 := by
    intro n
    induction n with
    | zero => intro a1 _ h; exact absurd h (Nat.not_lt_zero _)
    | succ n ih => intro a1 h1 h2; exact st _ a1 h1 (fun b1 h3 h4 => ih b1 h3 (Nat.lt_of_lt_of_le h4 (Nat.le_of_lt_succ h2)))
  exact ⟨μ a1 + 1, h0 _ a1 h (Nat.lt_succ_self _)⟩
theorem lr2 {A1 A2 : Type} {F : (A1 → A2 → Prop) → A1 → A2 → Prop} {z : A1 → A2 → Prop} (I : A1 → A2 → Prop) (μ : A1 → A2 → Nat) (st : ∀ (k : A1 → A2 → Prop) a1 a2, I a1 a2 → (∀ b1 b2, I b1 b2 → μ b1 b2 < μ a1 a2 → k b1 b2) → F k a1 a2) a1 a2 (h : I a1 a2) : ∃ n, lpn F z n a1 a2 := by
  have h0 : ∀ n a1 a2, I a1 a2 → μ a1 a2 < n → lpn F z n a1 a2 := by
    intro n
    induction n with
    | zero => intro a1 a2 _ h; exact absurd h (Nat.not_lt_zero _)
    | succ n ih => intro a1 a2 h1 h2; exact st _ a1 a2 h1 (fun b1 b2 h3 h4 => ih b1 b2 h3 (Nat.lt_of_lt_of_le h4 (Nat.le_of_lt_succ h2)))
  exact ⟨μ a1 a2 + 1, h0 _ a1 a2 h (Nat.lt_succ_self _)⟩
theorem lr3 {A1 A2 A3 : Type} {F : (A1 → A2 → A3 → Prop) → A1 → A2 → A3 → Prop} {z : A1 → A2 → A3 → Prop} (I : A1 → A2 → A3 → Prop) (μ : A1 → A2 → A3 → Nat) (st : ∀ (k : A1 → A2 → A3 → Prop) a1 a2 a3, I a1 a2 a3 → (∀ b1 b2 b3, I b1 b2 b3 → μ b1 b2 b3 < μ a1 a2 a3 → k b1 b2 b3) → F k a1 a2 a3) a1 a2 a3 (h : I a1 a2 a3) : ∃ n, lpn F z n a1 a2 a3 := by
  have h0 : ∀ n a1 a2 a3, I a1 a2 a3 → μ a1 a2 a3 < n → lpn F z n a1 a2 a3 := by
    intro n
    induction n with
    | zero => intro a1 a2 a3 _ h; exact absurd h (Nat.not_lt_zero _)
    | succ n ih => intro a1 a2 a3 h1 h2; exact st _ a1 a2 a3 h1 (fun b1 b2 b3 h3 h4 => ih b1 b2 b3 h3 (Nat.lt_of_lt_of_le h4 (Nat.le_of_lt_succ h2)))
  exact ⟨μ a1 a2 a3 + 1, h0 _ a1 a2 a3 h (Nat.lt_succ_self _)⟩
theorem lr4 {A1 A2 A3 A4 : Type} {F : (A1 → A2 → A3 → A4 → Prop) → A1 → A2 → A3 → A4 → Prop} {z : A1 → A2 → A3 → A4 → Prop} (I : A1 → A2 → A3 → A4 → Prop) (μ : A1 → A2 → A3 → A4 → Nat) (st : ∀ (k : A1 → A2 → A3 → A4 → Prop) a1 a2 a3 a4, I a1 a2 a3 a4 → (∀ b1 b2 b3 b4, I b1 b2 b3 b4 → μ b1 b2 b3 b4 < μ a1 a2 a3 a4 → k b1 b2 b3 b4) → F k a1 a2 a3 a4) a1 a2 a3 a4 (h : I a1 a2 a3 a4) : ∃ n, lpn F z n a1 a2 a3 a4 := by
  have h0 : ∀ n a1 a2 a3 a4, I a1 a2 a3 a4 → μ a1 a2 a3 a4 < n → lpn F z n a1 a2 a3 a4 := by
    intro n
    induction n with
    | zero => intro a1 a2 a3 a4 _ h; exact absurd h (Nat.not_lt_zero _)
    | succ n ih => intro a1 a2 a3 a4 h1 h2; exact st _ a1 a2 a3 a4 h1 (fun b1 b2 b3 b4 h3 h4 => ih b1 b2 b3 b4 h3 (Nat.lt_of_lt_of_le h4 (Nat.le_of_lt_succ h2)))
  exact ⟨μ a1 a2 a3 a4 + 1, h0 _ a1 a2 a3 a4 h (Nat.lt_succ_self _)⟩
theorem lr5 {A1 A2 A3 A4 A5 : Type} {F : (A1 → A2 → A3 → A4 → A5 → Prop) → A1 → A2 → A3 → A4 → A5 → Prop} {z : A1 → A2 → A3 → A4 → A5 → Prop} (I : A1 → A2 → A3 → A4 → A5 → Prop) (μ : A1 → A2 → A3 → A4 → A5 → Nat) (st : ∀ (k : A1 → A2 → A3 → A4 → A5 → Prop) a1 a2 a3 a4 a5, I a1 a2 a3 a4 a5 → (∀ b1 b2 b3 b4 b5, I b1 b2 b3 b4 b5 → μ b1 b2 b3 b4 b5 < μ a1 a2 a3 a4 a5 → k b1 b2 b3 b4 b5) → F k a1 a2 a3 a4 a5) a1 a2 a3 a4 a5 (h : I a1 a2 a3 a4 a5) : ∃ n, lpn F z n a1 a2 a3 a4 a5 := by
  have h0 : ∀ n a1 a2 a3 a4 a5, I a1 a2 a3 a4 a5 → μ a1 a2 a3 a4 a5 < n → lpn F z n a1 a2 a3 a4 a5 := by
    intro n
    induction n with
    | zero => intro a1 a2 a3 a4 a5 _ h; exact absurd h (Nat.not_lt_zero _)
    | succ n ih => intro a1 a2 a3 a4 a5 h1 h2; exact st _ a1 a2 a3 a4 a5 h1 (fun b1 b2 b3 b4 b5 h3 h4 => ih b1 b2 b3 b4 b5 h3 (Nat.lt_of_lt_of_le h4 (Nat.le_of_lt_succ h2)))
  exact ⟨μ a1 a2 a3 a4 a5 + 1, h0 _ a1 a2 a3 a4 a5 h (Nat.lt_succ_self _)⟩
theorem lr6 {A1 A2 A3 A4 A5 A6 : Type} {F : (A1 → A2 → A3 → A4 → A5 → A6 → Prop) → A1 → A2 → A3 → A4 → A5 → A6 → Prop} {z : A1 → A2 → A3 → A4 → A5 → A6 → Prop} (I : A1 → A2 → A3 → A4 → A5 → A6 → Prop) (μ : A1 → A2 → A3 → A4 → A5 → A6 → Nat) (st : ∀ (k : A1 → A2 → A3 → A4 → A5 → A6 → Prop) a1 a2 a3 a4 a5 a6, I a1 a2 a3 a4 a5 a6 → (∀ b1 b2 b3 b4 b5 b6, I b1 b2 b3 b4 b5 b6 → μ b1 b2 b3 b4 b5 b6 < μ a1 a2 a3 a4 a5 a6 → k b1 b2 b3 b4 b5 b6) → F k a1 a2 a3 a4 a5 a6) a1 a2 a3 a4 a5 a6 (h : I a1 a2 a3 a4 a5 a6) : ∃ n, lpn F z n a1 a2 a3 a4 a5 a6 := by
  have h0 : ∀ n a1 a2 a3 a4 a5 a6, I a1 a2 a3 a4 a5 a6 → μ a1 a2 a3 a4 a5 a6 < n → lpn F z n a1 a2 a3 a4 a5 a6 := by
    intro n
    induction n with
    | zero => intro a1 a2 a3 a4 a5 a6 _ h; exact absurd h (Nat.not_lt_zero _)
    | succ n ih => intro a1 a2 a3 a4 a5 a6 h1 h2; exact st _ a1 a2 a3 a4 a5 a6 h1 (fun b1 b2 b3 b4 b5 b6 h3 h4 => ih b1 b2 b3 b4 b5 b6 h3 (Nat.lt_of_lt_of_le h4 (Nat.le_of_lt_succ h2)))
  exact ⟨μ a1 a2 a3 a4 a5 a6 + 1, h0 _ a1 a2 a3 a4 a5 a6 h (Nat.lt_succ_self _)⟩
theorem lr7 {A1 A2 A3 A4 A5 A6 A7 : Type} {F : (A1 → A2 → A3 → A4 → A5 → A6 → A7 → Prop) → A1 → A2 → A3 → A4 → A5 → A6 → A7 → Prop} {z : A1 → A2 → A3 → A4 → A5 → A6 → A7 → Prop} (I : A1 → A2 → A3 → A4 → A5 → A6 → A7 → Prop) (μ : A1 → A2 → A3 → A4 → A5 → A6 → A7 → Nat) (st : ∀ (k : A1 → A2 → A3 → A4 → A5 → A6 → A7 → Prop) a1 a2 a3 a4 a5 a6 a7, I a1 a2 a3 a4 a5 a6 a7 → (∀ b1 b2 b3 b4 b5 b6 b7, I b1 b2 b3 b4 b5 b6 b7 → μ b1 b2 b3 b4 b5 b6 b7 < μ a1 a2 a3 a4 a5 a6 a7 → k b1 b2 b3 b4 b5 b6 b7) → F k a1 a2 a3 a4 a5 a6 a7) a1 a2 a3 a4 a5 a6 a7 (h : I a1 a2 a3 a4 a5 a6 a7) : ∃ n, lpn F z n a1 a2 a3 a4 a5 a6 a7 := by
  have h0 : ∀ n a1 a2 a3 a4 a5 a6 a7, I a1 a2 a3 a4 a5 a6 a7 → μ a1 a2 a3 a4 a5 a6 a7 < n → lpn F z n a1 a2 a3 a4 a5 a6 a7 := by
    intro n
    induction n with
    | zero => intro a1 a2 a3 a4 a5 a6 a7 _ h; exact absurd h (Nat.not_lt_zero _)
    | succ n ih => intro a1 a2 a3 a4 a5 a6 a7 h1 h2; exact st _ a1 a2 a3 a4 a5 a6 a7 h1 (fun b1 b2 b3 b4 b5 b6 b7 h3 h4 => ih b1 b2 b3 b4 b5 b6 b7 h3 (Nat.lt_of_lt_of_le h4 (Nat.le_of_lt_succ h2)))
  exact ⟨μ a1 a2 a3 a4 a5 a6 a7 + 1, h0 _ a1 a2 a3 a4 a5 a6 a7 h (Nat.lt_succ_self _)⟩
theorem lr8 {A1 A2 A3 A4 A5 A6 A7 A8 : Type} {F : (A1 → A2 → A3 → A4 → A5 → A6 → A7 → A8 → Prop) → A1 → A2 → A3 → A4 → A5 → A6 → A7 → A8 → Prop} {z : A1 → A2 → A3 → A4 → A5 → A6 → A7 → A8 → Prop} (I : A1 → A2 → A3 → A4 → A5 → A6 → A7 → A8 → Prop) (μ : A1 → A2 → A3 → A4 → A5 → A6 → A7 → A8 → Nat) (st : ∀ (k : A1 → A2 → A3 → A4 → A5 → A6 → A7 → A8 → Prop) a1 a2 a3 a4 a5 a6 a7 a8, I a1 a2 a3 a4 a5 a6 a7 a8 → (∀ b1 b2 b3 b4 b5 b6 b7 b8, I b1 b2 b3 b4 b5 b6 b7 b8 → μ b1 b2 b3 b4 b5 b6 b7 b8 < μ a1 a2 a3 a4 a5 a6 a7 a8 → k b1 b2 b3 b4 b5 b6 b7 b8) → F k a1 a2 a3 a4 a5 a6 a7 a8) a1 a2 a3 a4 a5 a6 a7 a8 (h : I a1 a2 a3 a4 a5 a6 a7 a8) : ∃ n, lpn F z n a1 a2 a3 a4 a5 a6 a7 a8 := by
  have h0 : ∀ n a1 a2 a3 a4 a5 a6 a7 a8, I a1 a2 a3 a4 a5 a6 a7 a8 → μ a1 a2 a3 a4 a5 a6 a7 a8 < n → lpn F z n a1 a2 a3 a4 a5 a6 a7 a8 := by
    intro n
    induction n with
    | zero => intro a1 a2 a3 a4 a5 a6 a7 a8 _ h; exact absurd h (Nat.not_lt_zero _)
    | succ n ih => intro a1 a2 a3 a4 a5 a6 a7 a8 h1 h2; exact st _ a1 a2 a3 a4 a5 a6 a7 a8 h1 (fun b1 b2 b3 b4 b5 b6 b7 b8 h3 h4 => ih b1 b2 b3 b4 b5 b6 b7 b8 h3 (Nat.lt_of_lt_of_le h4 (Nat.le_of_lt_succ h2)))
  exact ⟨μ a1 a2 a3 a4 a5 a6 a7 a8 + 1, h0 _ a1 a2 a3 a4 a5 a6 a7 a8 h (Nat.lt_succ_self _)⟩
