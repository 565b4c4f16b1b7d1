/-- a loop of n turns at most: F is a turn, given what follows -/
def lpn {P : Type} (F : P → P) (z : P) : Nat → P
  | 0 => z
  | n + 1 => F (lpn F z n)
theorem y_eqc {x y : Int32} {k : Int} (h : x.toInt = k) (hy : y.toInt = k) : x = y := Int32.toInt_inj.mp (h.trans hy.symm)
theorem z_lv0 {p : Program} {l : Launch} {e : Env} {R : Room} {s : State} {m : MethodId} {args : Array Value} {below : List Frame} {meth : Method} {c : Code} {D : va_G} {A : Nat → Prop} {nL : Nat} {Q : State → Prop} {nc ns : Nat} {ws : va_W} {lv lv' : List (Nat × Value)} {pc : Nat} {st : List Value} (ks : List Nat) (hl : lv_pick lv ks = lv') (k : Z p l e R s m args below meth c D A nL Q nc ns ws lv' pc st) : Z p l e R s m args below meth c D A nL Q nc ns ws lv pc st := fun H locs ls h1 h2 h3 h4 => k H locs ls h1 h2 h3 (lv_sub h4 ks hl)
