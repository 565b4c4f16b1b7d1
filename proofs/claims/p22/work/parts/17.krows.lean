def becI (j : Nat) : Int32 := ([0, 1, 2, 0, 2, 1, 1, 0, 2, 1, 2, 0, 2, 0, 1, 2, 1, 0] : List Int32).getD j 0
theorem zx_lt {i : Int32} {j n : Nat} (h : zx i j n) : j < n := h.2.2
theorem i_nneg {x : Int32} (h : 0 ≤ x.toInt) : ¬ x < 0 := by
  rw [Int32.lt_iff_toInt_lt]
  show ¬ x.toInt < 0
  omega
theorem i_byt {x : Int32} (h0 : 0 ≤ x.toInt) (h1 : x.toInt ≤ 100000) : x.toNatClampNeg * 4 ≤ 536870912 := by
  have e : ((x.toInt.toNat : Nat) : Int) = x.toInt := by omega
  show x.toInt.toNat * 4 ≤ 536870912
  omega
theorem tyX0_df : ∀ j, j < 5 → defaultValue (tyX0 j) = vp_V [.long 0, .null, .null, .int 0, .int 0] j := by decide +kernel
theorem tyX1_df : ∀ j, j < 3 → defaultValue (tyX1 j) = vp_V [.int 0, .int 0, .null] j := by decide +kernel
theorem tyX3_df : ∀ j, j < 2 → defaultValue (tyX3 j) = vp_V [.int 0, .null] j := by decide +kernel
theorem tyJx4a65c_df : ∀ j, j < 3 → defaultValue (tyJx4a65c j) = vp_V [.int 0, .null, .int 0] j := by decide +kernel
section ZR7
variable {p : Program} {l : Launch} {e : Env} {R : Room} {s : State} {m : MethodId} {args : Array Value} {below : List Frame} {meth : Method} {c : Code} {D : va_G} {cy : Nat → ClassId} {T0 tB tE : Nat} {A : Nat → Prop} {nL : Nat} {cc : ByteArray} {own : String} {rt : Option FieldType} {nm : String} {fr lo rc rs : Nat} {Q : State → Prop} {nc ns : Nat} {ws ws' : va_W} {lv lv' : List (Nat × Value)} {pc tgt : Nat} {st : List Value}
theorem z_wseq (h : ws = ws') (k : Z p l e R s m args below meth c D A nL Q nc ns ws' lv pc st) : Z p l e R s m args below meth c D A nL Q nc ns ws lv pc st := by subst h; exact k
theorem z_ldcw {i : Nat} {v : Int32} (b : Bz p R s m args meth c D cy T0 tB tE A nL cc own rt nm fr lo rc rs) (h : Cond.constant own i v ∈ gT) (d : decode cc pc = .ok (.ldc_w i, 3)) (k : Z p l e R s m args below meth c D A nL Q nc ns ws lv (pc + 3) (.int v :: st)) : Z p l e R s m args below meth c D A nL Q nc ns ws lv pc st := fun H locs ls h1 h2 h3 h4 => lv_ldcw b.x1 b.c1 b.own1 (b.ts1 _ h) d (k H locs ls h1 h2 h3 h4)
theorem z_cast {C : String} {T : u_T} {N ci index a q0 : Nat} {fs : List Value} (b : Bz p R s m args meth c D cy T0 tB tE A nL cc own rt nm fr lo rc rs) (hl : Cond.classLink own index C ∈ gT) (he : ws[q0]? = some (a, .inr (ci, fs))) (hc : vwCl[ci]? = some (C, T, N)) (d : decode cc pc = .ok (.checkcast index, 3)) (k : Z p l e R s m args below meth c D A nL Q nc ns ws lv (pc + 3) (.ref a :: st)) : Z p l e R s m args below meth c D A nL Q nc ns ws lv pc (.ref a :: st) := fun H locs ls h1 h2 h3 h4 => va_castS b.x1 b.c1 b.own1 (b.ts1 _ hl) (b.K1.1 ci _ hc).2 (va_recv b.K1 h1 hc he) d (k H locs ls h1 h2 h3 h4)
theorem z_acmp_eq {x y : Nat} {off : Int} (b : Bz p R s m args meth c D cy T0 tB tE A nL cc own rt nm fr lo rc rs) (d : decode cc pc = .ok (.if_acmp .eq off, 3)) (ht : (pc : Int) + off = (tgt : Int)) (k1 : x = y → Z p l e R s m args below meth c D A nL Q nc ns ws lv tgt st) (k2 : ¬ x = y → Z p l e R s m args below meth c D A nL Q nc ns ws lv (pc + 3) st) : Z p l e R s m args below meth c D A nL Q nc ns ws lv pc (.ref y :: .ref x :: st) := fun H locs ls h1 h2 h3 h4 => lv_acmp_eq (rx := some x) (ry := some y) b.x1 b.c1 d ht (fun e => k1 (Option.some.inj e) H locs ls h1 h2 h3 h4) (fun e => k2 (fun q => e (congrArg some q)) H locs ls h1 h2 h3 h4)
theorem z_acmp_ne {x y : Nat} {off : Int} (b : Bz p R s m args meth c D cy T0 tB tE A nL cc own rt nm fr lo rc rs) (d : decode cc pc = .ok (.if_acmp .ne off, 3)) (ht : (pc : Int) + off = (tgt : Int)) (k1 : ¬ x = y → Z p l e R s m args below meth c D A nL Q nc ns ws lv tgt st) (k2 : x = y → Z p l e R s m args below meth c D A nL Q nc ns ws lv (pc + 3) st) : Z p l e R s m args below meth c D A nL Q nc ns ws lv pc (.ref y :: .ref x :: st) := fun H locs ls h1 h2 h3 h4 => lv_acmp_ne (rx := some x) (ry := some y) b.x1 b.c1 d ht (fun e => k1 (fun q => e (congrArg some q)) H locs ls h1 h2 h3 h4) (fun e => k2 (Option.some.inj e) H locs ls h1 h2 h3 h4)
theorem z_elen {t : Nat} (b : Bz p R s m args meth c D cy T0 tB tE A nL cc own rt nm fr lo rc rs) (ht : t = tE) (d : decode cc pc = .ok (.arraylength, 1)) (k : Z p l e R s m args below meth c D A nL Q nc ns ws lv (pc + 1) (.int 0 :: st)) : Z p l e R s m args below meth c D A nL Q nc ns ws lv pc (.ref t :: st) := by
  subst ht
  exact fun H locs ls h1 h2 h3 h4 => va_tlen b.x1 b.c1 (b.E1.2.2.2.2.2.2.2.2.narrow b.AT1) h3 rfl d (k H locs ls h1 h2 h3 h4)
theorem y_aastO {a q0 t0 qk ci n v j : Nat} {E : String} {cA : ClassId} {r : vw_C} {vs : List Value} {f : Nat → Option Nat} {i : Int32} (b : Bz p R s m args meth c D cy T0 tB tE A nL cc own rt nm fr lo rc rs) (ha : ws[q0]? = some (a, .inl (cA, n, .inr (.inr (.inr (.inr f)))))) (ht : (TY cy)[t0]? = some (cA, .object E)) (hv : ws[qk]? = some (v, .inr (ci, vs))) (hc : vwCl[ci]? = some r) (hca : Cond.castable r.1 E ∈ nW) (hx : zx i j n) (d : decode cc pc = .ok (.aastore, 1)) (hw : ws.set q0 (a, .inl (cA, n, .inr (.inr (.inr (.inr (va_up f j (some v))))))) = ws') (k : Z p l e R s m args below meth c D A nL Q nc ns ws' lv (pc + 1) st) : Z p l e R s m args below meth c D A nL Q nc ns ws lv pc (.ref v :: .int i :: .ref a :: st) := fun H locs ls h1 h2 h3 h4 => va_astqO b.x1 b.c1 b.K1 h1 h2 h3 q0 t0 qk ci ha ht (b.E1.1 _ hca) hv hc hx.ok d (fun H locs g1 g2 g3 => k H locs ls (hw ▸ (by rw [hx.1] at g1; exact g1)) (hw ▸ (by rw [hx.1] at g2; exact g2)) g3 h4)
end ZR7
theorem wca_X0 : Cond.castable RX0 "java/lang/Object" ∈ nW := by decide +kernel
theorem wca_X1 : Cond.castable RX1 "java/lang/Object" ∈ nW := by decide +kernel
theorem wca_X3 : Cond.castable RX3 "java/lang/Object" ∈ nW := by decide +kernel
