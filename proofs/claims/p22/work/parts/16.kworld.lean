/-- the class's state: its numbers; addresses (lists 0 acts, 1 nevers, 2 cures; 3 which State the reckoner looks at); the ACTS' row; the cells made later -/
abbrev KS : Type := GS × (Nat → Nat) × (Nat → Option Nat) × va_W
def ksi (X : KS) (k : Nat) (x : Int32) : KS := (si X.1 k x, X.2)
def ksa (X : KS) (j : Nat) (f : Nat → Int32) : KS := (sa X.1 j f, X.2)
def ksu (X : KS) (j i : Nat) (x : Int32) : KS := (su X.1 j i x, X.2)
def ksv (X : KS) (j i : Nat) (x : Int64) : KS := (sv X.1 j i x, X.2)
def kse (X : KS) (k v : Nat) : KS := (X.1, zu X.2.1 k v, X.2.2)
def ksg (X : KS) (g : Nat → Option Nat) : KS := (X.1, X.2.1, g, X.2.2.2)
def ksL (X : KS) (L : va_W) : KS := (X.1, X.2.1, X.2.2.1, L)
def rowN (i : Nat) : Nat := if i = 6 then 200 else 12
def kw (cy : Nat → ClassId) (a : Nat → Nat) (rw : Nat → Option Nat) (X : KS) : va_W := [(a 0, .inr (12, [.ref (a 1), .int (fi X.1 0), .ref (a 26), .ref (a 33), .ref (a 2), .ref (a 35), .ref (a 38), .ref (a 46), .ref (a 24)])), (a 1, .inl (cy 0, 700, .inl (ar X.1 0))), (a 2, .inr (10, [.ref (a 3)])), (a 3, .inl (cy 0, 51, .inl (ar X.1 1))), (a 4, .inr (10, [.ref (a 5)])), (a 5, .inl (cy 0, 51, .inl (ar X.1 2))), (a 6, .inr (10, [.ref (a 7)])), (a 7, .inl (cy 0, 51, .inl (ar X.1 3))), (a 8, .inr (10, [.ref (a 9)])), (a 9, .inl (cy 0, 51, .inl (ar X.1 4))), (a 10, .inr (10, [.ref (a 11)])), (a 11, .inl (cy 0, 51, .inl (ar X.1 5))), (a 12, .inr (8, [.ref (a 13), .int (fi X.1 1), .int (fi X.1 2)])), (a 13, .inl (cy 0, 12, .inl (ar X.1 6))), (a 14, .inr (8, [.ref (a 15), .int (fi X.1 3), .int (fi X.1 4)])), (a 15, .inl (cy 0, 12, .inl (ar X.1 7))), (a 16, .inr (8, [.ref (a 17), .int (fi X.1 5), .int (fi X.1 6)])), (a 17, .inl (cy 0, 12, .inl (ar X.1 8))), (a 18, .inr (8, [.ref (a 19), .int (fi X.1 7), .int (fi X.1 8)])), (a 19, .inl (cy 0, 12, .inl (ar X.1 9))), (a 20, .inr (8, [.ref (a 21), .int (fi X.1 9), .int (fi X.1 10)])), (a 21, .inl (cy 0, 12, .inl (ar X.1 10))), (a 22, .inr (8, [.ref (a 23), .int (fi X.1 11), .int (fi X.1 12)])), (a 23, .inl (cy 0, 12, .inl (ar X.1 11))), (a 24, .inr (8, [.ref (a 25), .int (fi X.1 13), .int (fi X.1 14)])), (a 25, .inl (cy 0, 200, .inl (ar X.1 12))), (a 26, .inr (6, [.ref (a 27), .int (fi X.1 15), .ref (a 32), .int (fi X.1 16), .int (fi X.1 17), .int (fi X.1 18), .ref (X.2.1 0), .int (fi X.1 19), .int (fi X.1 20)])), (a 27, .inr (11, [.ref (a 28), .ref (a 29), .ref (a 30), .ref (a 31), .int (fi X.1 21)])), (a 28, .inl (cy 1, 19, .inr (.inl (al X.1 0)))), (a 29, .inl (cy 0, 701, .inl (ar X.1 13))), (a 30, .inl (cy 0, 701, .inl (ar X.1 14))), (a 31, .inl (cy 1, 701, .inr (.inl (al X.1 1)))), (a 32, .inl (cy 0, 700, .inl (ar X.1 15))), (a 33, .inr (5, [.ref (a 34), .ref (X.2.1 1), .ref (X.2.1 2)])), (a 34, .inl (cy 3, 12, .inr (.inr (.inr (.inr X.2.2.1))))), (a 35, .inr (3, [.ref (a 33), .ref (a 36), .ref (a 6), .ref (a 8), .int (fi X.1 22)])), (a 36, .inr (7, [.ref (a 37), .ref (a (2 + 2 * X.2.1 3)), .int (fi X.1 23), .int (fi X.1 24), .int (fi X.1 25)])), (a 37, .inl (cy 0, 40, .inl (ar X.1 16))), (a 38, .inr (9, [.ref (a 35), .ref (a 2), .ref (a 10), .ref (a 39), .ref (a 40), .ref (a 41), .ref (a 42), .ref (a 43), .ref (a 44), .ref (a 45), .int (fi X.1 26), .int (fi X.1 27), .int (fi X.1 28), .int (fi X.1 29), .int (fi X.1 30), .int (fi X.1 31), .int (fi X.1 32), .int (fi X.1 33), .int (fi X.1 34)])), (a 39, .inl (cy 1, 400, .inr (.inl (al X.1 2)))), (a 40, .inl (cy 0, 400, .inl (ar X.1 17))), (a 41, .inl (cy 0, 400, .inl (ar X.1 18))), (a 42, .inl (cy 0, 400, .inl (ar X.1 19))), (a 43, .inl (cy 0, 1024, .inl (ar X.1 20))), (a 44, .inl (cy 1, 400, .inr (.inl (al X.1 3)))), (a 45, .inl (cy 0, 216, .inl (ar X.1 21))), (a 46, .inl (cy 4, 6, .inr (.inr (.inr (.inr rw)))))] ++ X.2.2.2
theorem kw_0 (cy : Nat → ClassId) (a : Nat → Nat) (rw : Nat → Option Nat) (X : KS) : (kw cy a rw X)[0]? = some (a 0, .inr (12, [.ref (a 1), .int (fi X.1 0), .ref (a 26), .ref (a 33), .ref (a 2), .ref (a 35), .ref (a 38), .ref (a 46), .ref (a 24)])) := rfl
theorem kwp_0_1 (cy : Nat → ClassId) (a : Nat → Nat) (rw : Nat → Option Nat) (X : KS) (x : Int32) : (kw cy a rw X).set 0 (a 0, .inr (12, ([.ref (a 1), .int (fi X.1 0), .ref (a 26), .ref (a 33), .ref (a 2), .ref (a 35), .ref (a 38), .ref (a 46), .ref (a 24)] : List Value).set 1 (.int x))) = kw cy a rw (ksi X 0 x) := rfl
theorem kw_1 (cy : Nat → ClassId) (a : Nat → Nat) (rw : Nat → Option Nat) (X : KS) : (kw cy a rw X)[1]? = some (a 1, .inl (cy 0, 700, .inl (ar X.1 0))) := rfl
theorem kwa_1 (cy : Nat → ClassId) (a : Nat → Nat) (rw : Nat → Option Nat) (X : KS) (i : Nat) (x : Int32) : (kw cy a rw X).set 1 (a 1, .inl (cy 0, 700, .inl (upd (ar X.1 0) i x))) = kw cy a rw (ksu X 0 i x) := rfl
theorem kw_2 (cy : Nat → ClassId) (a : Nat → Nat) (rw : Nat → Option Nat) (X : KS) : (kw cy a rw X)[2]? = some (a 2, .inr (10, [.ref (a 3)])) := rfl
theorem kw_6 (cy : Nat → ClassId) (a : Nat → Nat) (rw : Nat → Option Nat) (X : KS) : (kw cy a rw X)[6]? = some (a 6, .inr (10, [.ref (a 7)])) := rfl
theorem kw_8 (cy : Nat → ClassId) (a : Nat → Nat) (rw : Nat → Option Nat) (X : KS) : (kw cy a rw X)[8]? = some (a 8, .inr (10, [.ref (a 9)])) := rfl
theorem kw_10 (cy : Nat → ClassId) (a : Nat → Nat) (rw : Nat → Option Nat) (X : KS) : (kw cy a rw X)[10]? = some (a 10, .inr (10, [.ref (a 11)])) := rfl
theorem kw_24 (cy : Nat → ClassId) (a : Nat → Nat) (rw : Nat → Option Nat) (X : KS) : (kw cy a rw X)[24]? = some (a 24, .inr (8, [.ref (a 25), .int (fi X.1 13), .int (fi X.1 14)])) := rfl
theorem kw_26 (cy : Nat → ClassId) (a : Nat → Nat) (rw : Nat → Option Nat) (X : KS) : (kw cy a rw X)[26]? = some (a 26, .inr (6, [.ref (a 27), .int (fi X.1 15), .ref (a 32), .int (fi X.1 16), .int (fi X.1 17), .int (fi X.1 18), .ref (X.2.1 0), .int (fi X.1 19), .int (fi X.1 20)])) := rfl
theorem kwp_26_1 (cy : Nat → ClassId) (a : Nat → Nat) (rw : Nat → Option Nat) (X : KS) (x : Int32) : (kw cy a rw X).set 26 (a 26, .inr (6, ([.ref (a 27), .int (fi X.1 15), .ref (a 32), .int (fi X.1 16), .int (fi X.1 17), .int (fi X.1 18), .ref (X.2.1 0), .int (fi X.1 19), .int (fi X.1 20)] : List Value).set 1 (.int x))) = kw cy a rw (ksi X 15 x) := rfl
theorem kwp_26_3 (cy : Nat → ClassId) (a : Nat → Nat) (rw : Nat → Option Nat) (X : KS) (x : Int32) : (kw cy a rw X).set 26 (a 26, .inr (6, ([.ref (a 27), .int (fi X.1 15), .ref (a 32), .int (fi X.1 16), .int (fi X.1 17), .int (fi X.1 18), .ref (X.2.1 0), .int (fi X.1 19), .int (fi X.1 20)] : List Value).set 3 (.int x))) = kw cy a rw (ksi X 16 x) := rfl
theorem kwp_26_4 (cy : Nat → ClassId) (a : Nat → Nat) (rw : Nat → Option Nat) (X : KS) (x : Int32) : (kw cy a rw X).set 26 (a 26, .inr (6, ([.ref (a 27), .int (fi X.1 15), .ref (a 32), .int (fi X.1 16), .int (fi X.1 17), .int (fi X.1 18), .ref (X.2.1 0), .int (fi X.1 19), .int (fi X.1 20)] : List Value).set 4 (.int x))) = kw cy a rw (ksi X 17 x) := rfl
theorem kwp_26_5 (cy : Nat → ClassId) (a : Nat → Nat) (rw : Nat → Option Nat) (X : KS) (x : Int32) : (kw cy a rw X).set 26 (a 26, .inr (6, ([.ref (a 27), .int (fi X.1 15), .ref (a 32), .int (fi X.1 16), .int (fi X.1 17), .int (fi X.1 18), .ref (X.2.1 0), .int (fi X.1 19), .int (fi X.1 20)] : List Value).set 5 (.int x))) = kw cy a rw (ksi X 18 x) := rfl
theorem kwp_26_7 (cy : Nat → ClassId) (a : Nat → Nat) (rw : Nat → Option Nat) (X : KS) (x : Int32) : (kw cy a rw X).set 26 (a 26, .inr (6, ([.ref (a 27), .int (fi X.1 15), .ref (a 32), .int (fi X.1 16), .int (fi X.1 17), .int (fi X.1 18), .ref (X.2.1 0), .int (fi X.1 19), .int (fi X.1 20)] : List Value).set 7 (.int x))) = kw cy a rw (ksi X 19 x) := rfl
theorem kwp_26_8 (cy : Nat → ClassId) (a : Nat → Nat) (rw : Nat → Option Nat) (X : KS) (x : Int32) : (kw cy a rw X).set 26 (a 26, .inr (6, ([.ref (a 27), .int (fi X.1 15), .ref (a 32), .int (fi X.1 16), .int (fi X.1 17), .int (fi X.1 18), .ref (X.2.1 0), .int (fi X.1 19), .int (fi X.1 20)] : List Value).set 8 (.int x))) = kw cy a rw (ksi X 20 x) := rfl
theorem kw_27 (cy : Nat → ClassId) (a : Nat → Nat) (rw : Nat → Option Nat) (X : KS) : (kw cy a rw X)[27]? = some (a 27, .inr (11, [.ref (a 28), .ref (a 29), .ref (a 30), .ref (a 31), .int (fi X.1 21)])) := rfl
theorem kwp_27_4 (cy : Nat → ClassId) (a : Nat → Nat) (rw : Nat → Option Nat) (X : KS) (x : Int32) : (kw cy a rw X).set 27 (a 27, .inr (11, ([.ref (a 28), .ref (a 29), .ref (a 30), .ref (a 31), .int (fi X.1 21)] : List Value).set 4 (.int x))) = kw cy a rw (ksi X 21 x) := rfl
theorem kw_28 (cy : Nat → ClassId) (a : Nat → Nat) (rw : Nat → Option Nat) (X : KS) : (kw cy a rw X)[28]? = some (a 28, .inl (cy 1, 19, .inr (.inl (al X.1 0)))) := rfl
theorem kw_29 (cy : Nat → ClassId) (a : Nat → Nat) (rw : Nat → Option Nat) (X : KS) : (kw cy a rw X)[29]? = some (a 29, .inl (cy 0, 701, .inl (ar X.1 13))) := rfl
theorem kwa_29 (cy : Nat → ClassId) (a : Nat → Nat) (rw : Nat → Option Nat) (X : KS) (i : Nat) (x : Int32) : (kw cy a rw X).set 29 (a 29, .inl (cy 0, 701, .inl (upd (ar X.1 13) i x))) = kw cy a rw (ksu X 13 i x) := rfl
theorem kw_30 (cy : Nat → ClassId) (a : Nat → Nat) (rw : Nat → Option Nat) (X : KS) : (kw cy a rw X)[30]? = some (a 30, .inl (cy 0, 701, .inl (ar X.1 14))) := rfl
theorem kwa_30 (cy : Nat → ClassId) (a : Nat → Nat) (rw : Nat → Option Nat) (X : KS) (i : Nat) (x : Int32) : (kw cy a rw X).set 30 (a 30, .inl (cy 0, 701, .inl (upd (ar X.1 14) i x))) = kw cy a rw (ksu X 14 i x) := rfl
theorem kw_31 (cy : Nat → ClassId) (a : Nat → Nat) (rw : Nat → Option Nat) (X : KS) : (kw cy a rw X)[31]? = some (a 31, .inl (cy 1, 701, .inr (.inl (al X.1 1)))) := rfl
theorem kwa_31 (cy : Nat → ClassId) (a : Nat → Nat) (rw : Nat → Option Nat) (X : KS) (i : Nat) (x : Int64) : (kw cy a rw X).set 31 (a 31, .inl (cy 1, 701, .inr (.inl (vp_updL (al X.1 1) i x)))) = kw cy a rw (ksv X 1 i x) := rfl
theorem kw_32 (cy : Nat → ClassId) (a : Nat → Nat) (rw : Nat → Option Nat) (X : KS) : (kw cy a rw X)[32]? = some (a 32, .inl (cy 0, 700, .inl (ar X.1 15))) := rfl
theorem kwa_32 (cy : Nat → ClassId) (a : Nat → Nat) (rw : Nat → Option Nat) (X : KS) (i : Nat) (x : Int32) : (kw cy a rw X).set 32 (a 32, .inl (cy 0, 700, .inl (upd (ar X.1 15) i x))) = kw cy a rw (ksu X 15 i x) := rfl
theorem kw_33 (cy : Nat → ClassId) (a : Nat → Nat) (rw : Nat → Option Nat) (X : KS) : (kw cy a rw X)[33]? = some (a 33, .inr (5, [.ref (a 34), .ref (X.2.1 1), .ref (X.2.1 2)])) := rfl
theorem kw_34 (cy : Nat → ClassId) (a : Nat → Nat) (rw : Nat → Option Nat) (X : KS) : (kw cy a rw X)[34]? = some (a 34, .inl (cy 3, 12, .inr (.inr (.inr (.inr X.2.2.1))))) := rfl
theorem kw_35 (cy : Nat → ClassId) (a : Nat → Nat) (rw : Nat → Option Nat) (X : KS) : (kw cy a rw X)[35]? = some (a 35, .inr (3, [.ref (a 33), .ref (a 36), .ref (a 6), .ref (a 8), .int (fi X.1 22)])) := rfl
theorem kwp_35_4 (cy : Nat → ClassId) (a : Nat → Nat) (rw : Nat → Option Nat) (X : KS) (x : Int32) : (kw cy a rw X).set 35 (a 35, .inr (3, ([.ref (a 33), .ref (a 36), .ref (a 6), .ref (a 8), .int (fi X.1 22)] : List Value).set 4 (.int x))) = kw cy a rw (ksi X 22 x) := rfl
theorem kw_36 (cy : Nat → ClassId) (a : Nat → Nat) (rw : Nat → Option Nat) (X : KS) : (kw cy a rw X)[36]? = some (a 36, .inr (7, [.ref (a 37), .ref (a (2 + 2 * X.2.1 3)), .int (fi X.1 23), .int (fi X.1 24), .int (fi X.1 25)])) := rfl
theorem kwp_36_1 (cy : Nat → ClassId) (a : Nat → Nat) (rw : Nat → Option Nat) (X : KS) (j : Nat) : (kw cy a rw X).set 36 (a 36, .inr (7, ([.ref (a 37), .ref (a (2 + 2 * X.2.1 3)), .int (fi X.1 23), .int (fi X.1 24), .int (fi X.1 25)] : List Value).set 1 (.ref (a (2 + 2 * j))))) = kw cy a rw (kse X 3 j) := rfl
theorem kwp_36_2 (cy : Nat → ClassId) (a : Nat → Nat) (rw : Nat → Option Nat) (X : KS) (x : Int32) : (kw cy a rw X).set 36 (a 36, .inr (7, ([.ref (a 37), .ref (a (2 + 2 * X.2.1 3)), .int (fi X.1 23), .int (fi X.1 24), .int (fi X.1 25)] : List Value).set 2 (.int x))) = kw cy a rw (ksi X 23 x) := rfl
theorem kwp_36_3 (cy : Nat → ClassId) (a : Nat → Nat) (rw : Nat → Option Nat) (X : KS) (x : Int32) : (kw cy a rw X).set 36 (a 36, .inr (7, ([.ref (a 37), .ref (a (2 + 2 * X.2.1 3)), .int (fi X.1 23), .int (fi X.1 24), .int (fi X.1 25)] : List Value).set 3 (.int x))) = kw cy a rw (ksi X 24 x) := rfl
theorem kwp_36_4 (cy : Nat → ClassId) (a : Nat → Nat) (rw : Nat → Option Nat) (X : KS) (x : Int32) : (kw cy a rw X).set 36 (a 36, .inr (7, ([.ref (a 37), .ref (a (2 + 2 * X.2.1 3)), .int (fi X.1 23), .int (fi X.1 24), .int (fi X.1 25)] : List Value).set 4 (.int x))) = kw cy a rw (ksi X 25 x) := rfl
theorem kw_37 (cy : Nat → ClassId) (a : Nat → Nat) (rw : Nat → Option Nat) (X : KS) : (kw cy a rw X)[37]? = some (a 37, .inl (cy 0, 40, .inl (ar X.1 16))) := rfl
theorem kwa_37 (cy : Nat → ClassId) (a : Nat → Nat) (rw : Nat → Option Nat) (X : KS) (i : Nat) (x : Int32) : (kw cy a rw X).set 37 (a 37, .inl (cy 0, 40, .inl (upd (ar X.1 16) i x))) = kw cy a rw (ksu X 16 i x) := rfl
theorem kw_38 (cy : Nat → ClassId) (a : Nat → Nat) (rw : Nat → Option Nat) (X : KS) : (kw cy a rw X)[38]? = some (a 38, .inr (9, [.ref (a 35), .ref (a 2), .ref (a 10), .ref (a 39), .ref (a 40), .ref (a 41), .ref (a 42), .ref (a 43), .ref (a 44), .ref (a 45), .int (fi X.1 26), .int (fi X.1 27), .int (fi X.1 28), .int (fi X.1 29), .int (fi X.1 30), .int (fi X.1 31), .int (fi X.1 32), .int (fi X.1 33), .int (fi X.1 34)])) := rfl
theorem kwp_38_10 (cy : Nat → ClassId) (a : Nat → Nat) (rw : Nat → Option Nat) (X : KS) (x : Int32) : (kw cy a rw X).set 38 (a 38, .inr (9, ([.ref (a 35), .ref (a 2), .ref (a 10), .ref (a 39), .ref (a 40), .ref (a 41), .ref (a 42), .ref (a 43), .ref (a 44), .ref (a 45), .int (fi X.1 26), .int (fi X.1 27), .int (fi X.1 28), .int (fi X.1 29), .int (fi X.1 30), .int (fi X.1 31), .int (fi X.1 32), .int (fi X.1 33), .int (fi X.1 34)] : List Value).set 10 (.int x))) = kw cy a rw (ksi X 26 x) := rfl
theorem kwp_38_11 (cy : Nat → ClassId) (a : Nat → Nat) (rw : Nat → Option Nat) (X : KS) (x : Int32) : (kw cy a rw X).set 38 (a 38, .inr (9, ([.ref (a 35), .ref (a 2), .ref (a 10), .ref (a 39), .ref (a 40), .ref (a 41), .ref (a 42), .ref (a 43), .ref (a 44), .ref (a 45), .int (fi X.1 26), .int (fi X.1 27), .int (fi X.1 28), .int (fi X.1 29), .int (fi X.1 30), .int (fi X.1 31), .int (fi X.1 32), .int (fi X.1 33), .int (fi X.1 34)] : List Value).set 11 (.int x))) = kw cy a rw (ksi X 27 x) := rfl
theorem kwp_38_12 (cy : Nat → ClassId) (a : Nat → Nat) (rw : Nat → Option Nat) (X : KS) (x : Int32) : (kw cy a rw X).set 38 (a 38, .inr (9, ([.ref (a 35), .ref (a 2), .ref (a 10), .ref (a 39), .ref (a 40), .ref (a 41), .ref (a 42), .ref (a 43), .ref (a 44), .ref (a 45), .int (fi X.1 26), .int (fi X.1 27), .int (fi X.1 28), .int (fi X.1 29), .int (fi X.1 30), .int (fi X.1 31), .int (fi X.1 32), .int (fi X.1 33), .int (fi X.1 34)] : List Value).set 12 (.int x))) = kw cy a rw (ksi X 28 x) := rfl
theorem kwp_38_13 (cy : Nat → ClassId) (a : Nat → Nat) (rw : Nat → Option Nat) (X : KS) (x : Int32) : (kw cy a rw X).set 38 (a 38, .inr (9, ([.ref (a 35), .ref (a 2), .ref (a 10), .ref (a 39), .ref (a 40), .ref (a 41), .ref (a 42), .ref (a 43), .ref (a 44), .ref (a 45), .int (fi X.1 26), .int (fi X.1 27), .int (fi X.1 28), .int (fi X.1 29), .int (fi X.1 30), .int (fi X.1 31), .int (fi X.1 32), .int (fi X.1 33), .int (fi X.1 34)] : List Value).set 13 (.int x))) = kw cy a rw (ksi X 29 x) := rfl
theorem kwp_38_14 (cy : Nat → ClassId) (a : Nat → Nat) (rw : Nat → Option Nat) (X : KS) (x : Int32) : (kw cy a rw X).set 38 (a 38, .inr (9, ([.ref (a 35), .ref (a 2), .ref (a 10), .ref (a 39), .ref (a 40), .ref (a 41), .ref (a 42), .ref (a 43), .ref (a 44), .ref (a 45), .int (fi X.1 26), .int (fi X.1 27), .int (fi X.1 28), .int (fi X.1 29), .int (fi X.1 30), .int (fi X.1 31), .int (fi X.1 32), .int (fi X.1 33), .int (fi X.1 34)] : List Value).set 14 (.int x))) = kw cy a rw (ksi X 30 x) := rfl
theorem kwp_38_15 (cy : Nat → ClassId) (a : Nat → Nat) (rw : Nat → Option Nat) (X : KS) (x : Int32) : (kw cy a rw X).set 38 (a 38, .inr (9, ([.ref (a 35), .ref (a 2), .ref (a 10), .ref (a 39), .ref (a 40), .ref (a 41), .ref (a 42), .ref (a 43), .ref (a 44), .ref (a 45), .int (fi X.1 26), .int (fi X.1 27), .int (fi X.1 28), .int (fi X.1 29), .int (fi X.1 30), .int (fi X.1 31), .int (fi X.1 32), .int (fi X.1 33), .int (fi X.1 34)] : List Value).set 15 (.int x))) = kw cy a rw (ksi X 31 x) := rfl
theorem kwp_38_16 (cy : Nat → ClassId) (a : Nat → Nat) (rw : Nat → Option Nat) (X : KS) (x : Int32) : (kw cy a rw X).set 38 (a 38, .inr (9, ([.ref (a 35), .ref (a 2), .ref (a 10), .ref (a 39), .ref (a 40), .ref (a 41), .ref (a 42), .ref (a 43), .ref (a 44), .ref (a 45), .int (fi X.1 26), .int (fi X.1 27), .int (fi X.1 28), .int (fi X.1 29), .int (fi X.1 30), .int (fi X.1 31), .int (fi X.1 32), .int (fi X.1 33), .int (fi X.1 34)] : List Value).set 16 (.int x))) = kw cy a rw (ksi X 32 x) := rfl
theorem kwp_38_17 (cy : Nat → ClassId) (a : Nat → Nat) (rw : Nat → Option Nat) (X : KS) (x : Int32) : (kw cy a rw X).set 38 (a 38, .inr (9, ([.ref (a 35), .ref (a 2), .ref (a 10), .ref (a 39), .ref (a 40), .ref (a 41), .ref (a 42), .ref (a 43), .ref (a 44), .ref (a 45), .int (fi X.1 26), .int (fi X.1 27), .int (fi X.1 28), .int (fi X.1 29), .int (fi X.1 30), .int (fi X.1 31), .int (fi X.1 32), .int (fi X.1 33), .int (fi X.1 34)] : List Value).set 17 (.int x))) = kw cy a rw (ksi X 33 x) := rfl
theorem kwp_38_18 (cy : Nat → ClassId) (a : Nat → Nat) (rw : Nat → Option Nat) (X : KS) (x : Int32) : (kw cy a rw X).set 38 (a 38, .inr (9, ([.ref (a 35), .ref (a 2), .ref (a 10), .ref (a 39), .ref (a 40), .ref (a 41), .ref (a 42), .ref (a 43), .ref (a 44), .ref (a 45), .int (fi X.1 26), .int (fi X.1 27), .int (fi X.1 28), .int (fi X.1 29), .int (fi X.1 30), .int (fi X.1 31), .int (fi X.1 32), .int (fi X.1 33), .int (fi X.1 34)] : List Value).set 18 (.int x))) = kw cy a rw (ksi X 34 x) := rfl
theorem kw_39 (cy : Nat → ClassId) (a : Nat → Nat) (rw : Nat → Option Nat) (X : KS) : (kw cy a rw X)[39]? = some (a 39, .inl (cy 1, 400, .inr (.inl (al X.1 2)))) := rfl
theorem kwa_39 (cy : Nat → ClassId) (a : Nat → Nat) (rw : Nat → Option Nat) (X : KS) (i : Nat) (x : Int64) : (kw cy a rw X).set 39 (a 39, .inl (cy 1, 400, .inr (.inl (vp_updL (al X.1 2) i x)))) = kw cy a rw (ksv X 2 i x) := rfl
theorem kw_40 (cy : Nat → ClassId) (a : Nat → Nat) (rw : Nat → Option Nat) (X : KS) : (kw cy a rw X)[40]? = some (a 40, .inl (cy 0, 400, .inl (ar X.1 17))) := rfl
theorem kwa_40 (cy : Nat → ClassId) (a : Nat → Nat) (rw : Nat → Option Nat) (X : KS) (i : Nat) (x : Int32) : (kw cy a rw X).set 40 (a 40, .inl (cy 0, 400, .inl (upd (ar X.1 17) i x))) = kw cy a rw (ksu X 17 i x) := rfl
theorem kw_41 (cy : Nat → ClassId) (a : Nat → Nat) (rw : Nat → Option Nat) (X : KS) : (kw cy a rw X)[41]? = some (a 41, .inl (cy 0, 400, .inl (ar X.1 18))) := rfl
theorem kwa_41 (cy : Nat → ClassId) (a : Nat → Nat) (rw : Nat → Option Nat) (X : KS) (i : Nat) (x : Int32) : (kw cy a rw X).set 41 (a 41, .inl (cy 0, 400, .inl (upd (ar X.1 18) i x))) = kw cy a rw (ksu X 18 i x) := rfl
theorem kw_42 (cy : Nat → ClassId) (a : Nat → Nat) (rw : Nat → Option Nat) (X : KS) : (kw cy a rw X)[42]? = some (a 42, .inl (cy 0, 400, .inl (ar X.1 19))) := rfl
theorem kwa_42 (cy : Nat → ClassId) (a : Nat → Nat) (rw : Nat → Option Nat) (X : KS) (i : Nat) (x : Int32) : (kw cy a rw X).set 42 (a 42, .inl (cy 0, 400, .inl (upd (ar X.1 19) i x))) = kw cy a rw (ksu X 19 i x) := rfl
theorem kw_43 (cy : Nat → ClassId) (a : Nat → Nat) (rw : Nat → Option Nat) (X : KS) : (kw cy a rw X)[43]? = some (a 43, .inl (cy 0, 1024, .inl (ar X.1 20))) := rfl
theorem kwa_43 (cy : Nat → ClassId) (a : Nat → Nat) (rw : Nat → Option Nat) (X : KS) (i : Nat) (x : Int32) : (kw cy a rw X).set 43 (a 43, .inl (cy 0, 1024, .inl (upd (ar X.1 20) i x))) = kw cy a rw (ksu X 20 i x) := rfl
theorem kw_44 (cy : Nat → ClassId) (a : Nat → Nat) (rw : Nat → Option Nat) (X : KS) : (kw cy a rw X)[44]? = some (a 44, .inl (cy 1, 400, .inr (.inl (al X.1 3)))) := rfl
theorem kwa_44 (cy : Nat → ClassId) (a : Nat → Nat) (rw : Nat → Option Nat) (X : KS) (i : Nat) (x : Int64) : (kw cy a rw X).set 44 (a 44, .inl (cy 1, 400, .inr (.inl (vp_updL (al X.1 3) i x)))) = kw cy a rw (ksv X 3 i x) := rfl
theorem kw_45 (cy : Nat → ClassId) (a : Nat → Nat) (rw : Nat → Option Nat) (X : KS) : (kw cy a rw X)[45]? = some (a 45, .inl (cy 0, 216, .inl (ar X.1 21))) := rfl
theorem kwa_45 (cy : Nat → ClassId) (a : Nat → Nat) (rw : Nat → Option Nat) (X : KS) (i : Nat) (x : Int32) : (kw cy a rw X).set 45 (a 45, .inl (cy 0, 216, .inl (upd (ar X.1 21) i x))) = kw cy a rw (ksu X 21 i x) := rfl
theorem kw_46 (cy : Nat → ClassId) (a : Nat → Nat) (rw : Nat → Option Nat) (X : KS) : (kw cy a rw X)[46]? = some (a 46, .inl (cy 4, 6, .inr (.inr (.inr (.inr rw))))) := rfl
theorem kwg (cy : Nat → ClassId) (a : Nat → Nat) (rw : Nat → Option Nat) (X : KS) (i : Nat) (o : Option Nat) : (kw cy a rw X).set 34 (a 34, .inl (cy 3, 12, .inr (.inr (.inr (.inr (va_up X.2.2.1 i o)))))) = kw cy a rw (ksg X (va_up X.2.2.1 i o)) := rfl
theorem kw_so (cy : Nat → ClassId) (a : Nat → Nat) (rw : Nat → Option Nat) (X : KS) {j : Nat} (hj : j < 5) : (kw cy a rw X)[2 + 2 * j]? = some (a (2 + 2 * j), .inr (10, [.ref (a (3 + 2 * j))])) := by
  rcases j with _ | _ | _ | _ | _ | j
  · rfl
  · rfl
  · rfl
  · rfl
  · rfl
  · omega
theorem kw_sr (cy : Nat → ClassId) (a : Nat → Nat) (rw : Nat → Option Nat) (X : KS) {j : Nat} (hj : j < 5) : (kw cy a rw X)[3 + 2 * j]? = some (a (3 + 2 * j), .inl (cy 0, 51, .inl (ar X.1 (1 + j)))) := by
  rcases j with _ | _ | _ | _ | _ | j
  · rfl
  · rfl
  · rfl
  · rfl
  · rfl
  · omega
theorem kwa_sr (cy : Nat → ClassId) (a : Nat → Nat) (rw : Nat → Option Nat) (X : KS) {j : Nat} (hj : j < 5) (i : Nat) (x : Int32) : (kw cy a rw X).set (3 + 2 * j) (a (3 + 2 * j), .inl (cy 0, 51, .inl (upd (ar X.1 (1 + j)) i x))) = kw cy a rw (ksu X (1 + j) i x) := by
  rcases j with _ | _ | _ | _ | _ | j
  · rfl
  · rfl
  · rfl
  · rfl
  · rfl
  · omega
theorem kwf_sr (cy : Nat → ClassId) (a : Nat → Nat) (rw : Nat → Option Nat) (X : KS) {j : Nat} (hj : j < 5) (f : Nat → Int32) : (kw cy a rw X).set (3 + 2 * j) (a (3 + 2 * j), .inl (cy 0, 51, .inl f)) = kw cy a rw (ksa X (1 + j) f) := by
  rcases j with _ | _ | _ | _ | _ | j
  · rfl
  · rfl
  · rfl
  · rfl
  · rfl
  · omega
theorem kw_ro (cy : Nat → ClassId) (a : Nat → Nat) (rw : Nat → Option Nat) (X : KS) {i : Nat} (hi : i < 7) : (kw cy a rw X)[12 + 2 * i]? = some (a (12 + 2 * i), .inr (8, [.ref (a (13 + 2 * i)), .int (fi X.1 (1 + 2 * i)), .int (fi X.1 (2 + 2 * i))])) := by
  rcases i with _ | _ | _ | _ | _ | _ | _ | i
  · rfl
  · rfl
  · rfl
  · rfl
  · rfl
  · rfl
  · rfl
  · omega
theorem kwp_ro_1 (cy : Nat → ClassId) (a : Nat → Nat) (rw : Nat → Option Nat) (X : KS) {i : Nat} (hi : i < 7) (x : Int32) : (kw cy a rw X).set (12 + 2 * i) (a (12 + 2 * i), .inr (8, ([.ref (a (13 + 2 * i)), .int (fi X.1 (1 + 2 * i)), .int (fi X.1 (2 + 2 * i))] : List Value).set 1 (.int x))) = kw cy a rw (ksi X (1 + 2 * i) x) := by
  rcases i with _ | _ | _ | _ | _ | _ | _ | i
  · rfl
  · rfl
  · rfl
  · rfl
  · rfl
  · rfl
  · rfl
  · omega
theorem kwp_ro_2 (cy : Nat → ClassId) (a : Nat → Nat) (rw : Nat → Option Nat) (X : KS) {i : Nat} (hi : i < 7) (x : Int32) : (kw cy a rw X).set (12 + 2 * i) (a (12 + 2 * i), .inr (8, ([.ref (a (13 + 2 * i)), .int (fi X.1 (1 + 2 * i)), .int (fi X.1 (2 + 2 * i))] : List Value).set 2 (.int x))) = kw cy a rw (ksi X (2 + 2 * i) x) := by
  rcases i with _ | _ | _ | _ | _ | _ | _ | i
  · rfl
  · rfl
  · rfl
  · rfl
  · rfl
  · rfl
  · rfl
  · omega
theorem kw_rr (cy : Nat → ClassId) (a : Nat → Nat) (rw : Nat → Option Nat) (X : KS) {i : Nat} (hi : i < 7) : (kw cy a rw X)[13 + 2 * i]? = some (a (13 + 2 * i), .inl (cy 0, rowN i, .inl (ar X.1 (6 + i)))) := by
  rcases i with _ | _ | _ | _ | _ | _ | _ | i
  · rfl
  · rfl
  · rfl
  · rfl
  · rfl
  · rfl
  · rfl
  · omega
theorem kwa_rr (cy : Nat → ClassId) (a : Nat → Nat) (rw : Nat → Option Nat) (X : KS) {i : Nat} (hi : i < 7) (k : Nat) (x : Int32) : (kw cy a rw X).set (13 + 2 * i) (a (13 + 2 * i), .inl (cy 0, rowN i, .inl (upd (ar X.1 (6 + i)) k x))) = kw cy a rw (ksu X (6 + i) k x) := by
  rcases i with _ | _ | _ | _ | _ | _ | _ | i
  · rfl
  · rfl
  · rfl
  · rfl
  · rfl
  · rfl
  · rfl
  · omega
theorem kw_dyn (cy : Nat → ClassId) (a : Nat → Nat) (rw : Nat → Option Nat) (X : KS) {i : Nat} {c : Nat × va_E} (h : X.2.2.2[i]? = some c) : (kw cy a rw X)[47 + i]? = some c := by
  unfold kw
  rw [List.getElem?_append_right (by simp)]
  simpa using h
theorem kw_dset (cy : Nat → ClassId) (a : Nat → Nat) (rw : Nat → Option Nat) (X : KS) (i : Nat) (c : Nat × va_E) : (kw cy a rw X).set (47 + i) c = kw cy a rw (ksL X (X.2.2.2.set i c)) := by
  unfold kw
  rw [List.set_append_right _ _ (by simp)]
  simp [ksL]
theorem kw_new (cy : Nat → ClassId) (a : Nat → Nat) (rw : Nat → Option Nat) (X : KS) (c : Nat × va_E) : kw cy a rw X ++ [c] = kw cy a rw (ksL X (X.2.2.2 ++ [c])) := List.append_assoc _ _ _
