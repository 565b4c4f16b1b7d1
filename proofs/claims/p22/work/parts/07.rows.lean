section ZR3
variable {p : Program} {l : Launch} {e : Env} {R : Room} {s : State} {m : MethodId} {args : Array Value} {below : List Frame} {meth : Method} {c : Code} {D : va_G} {cy : Nat → ClassId} {T0 tB tE : Nat} {A : Nat → Prop} {nL : Nat} {cc : ByteArray} {own : String} {rt : Option FieldType} {nm : String} {fr lo rc rs : Nat} {Q : State → Prop} {nc ns : Nat} {ws ws' : va_W} {lv lv' : List (Nat × Value)} {pc tgt : Nat} {st : List Value}
theorem z_dup_x1 {va vb : Value} (b : Bz p R s m args meth c D cy T0 tB tE A nL cc own rt nm fr lo rc rs) (d : decode cc pc = .ok (.dup_x1, 1)) (hva : va.category = 1) (hvb : vb.category = 1) (k : Z p l e R s m args below meth c D A nL Q nc ns ws lv (pc + 1) (va :: vb :: va :: st)) : Z p l e R s m args below meth c D A nL Q nc ns ws lv pc (va :: vb :: st) := fun H locs ls h1 h2 h3 h4 => lv_dup_x1 b.x1 b.c1 d hva hvb (k H locs ls h1 h2 h3 h4)
theorem z_getB {i : Nat} (b : Bz p R s m args meth c D cy T0 tB tE A nL cc own rt nm fr lo rc rs) (hl : Cond.fieldLink own i "LawHoles" "BECOME" "[I" ∈ gT) (d : decode cc pc = .ok (.getstatic i, 3)) (k : Z p l e R s m args below meth c D A nL Q nc ns ws lv (pc + 3) (.ref tB :: st)) : Z p l e R s m args below meth c D A nL Q nc ns ws lv pc st := fun H locs ls h1 h2 h3 h4 => va_gets b.x1 b.c1 (b.E1.2.1.narrow b.AT1) h3 b.own1 (b.ts1 _ hl) (fun _ h => h) d (k H locs ls h1 h2 h3 h4)
theorem z_bec {j : Nat} {i v : Int32} (b : Bz p R s m args meth c D cy T0 tB tE A nL cc own rt nm fr lo rc rs) (hx : zx i j 18) (hv : bec j = .int v) (d : decode cc pc = .ok (.iaload, 1)) (k : Z p l e R s m args below meth c D A nL Q nc ns ws lv (pc + 1) (.int v :: st)) : Z p l e R s m args below meth c D A nL Q nc ns ws lv pc (.int i :: .ref tB :: st) := fun H locs ls h1 h2 h3 h4 => va_ti b.x1 b.c1 (b.E1.2.2.1.narrow b.AT1) h3 hx.ok (by rw [hx.1]; exact hv) d (k H locs ls h1 h2 h3 h4)
theorem y_aastN {a q0 t0 n j : Nat} {cA : ClassId} {C : String} {f : Nat → Option Nat} {i : Int32} (b : Bz p R s m args meth c D cy T0 tB tE A nL cc own rt nm fr lo rc rs) (ha : ws[q0]? = some (a, .inl (cA, n, .inr (.inr (.inr (.inr f)))))) (ht : (TY cy)[t0]? = some (cA, .object C)) (hx : zx i j n) (d : decode cc pc = .ok (.aastore, 1)) (hw : ws.set q0 (a, .inl (cA, n, .inr (.inr (.inr (.inr (va_up f j none)))))) = ws') (k : Z p l e R s m args below meth c D A nL Q nc ns ws' lv (pc + 1) st) : Z p l e R s m args below meth c D A nL Q nc ns ws lv pc (.null :: .int i :: .ref a :: st) := fun H locs ls h1 h2 h3 h4 => va_astqN b.x1 b.c1 b.K1 h1 h2 h3 q0 t0 ha ht hx.ok d (fun H locs g1 g2 g3 => k H locs ls (hw ▸ (by rw [hx.1] at g1; exact g1)) (hw ▸ (by rw [hx.1] at g2; exact g2)) g3 h4)
theorem z_copyi {a a0 q0 q1 n0 n1 j0 j1 jn index : Nat} {f g : Nat → Int32} {sp dp n : Int32} (b : Bz p R s m args meth c D cy T0 tB tE A nL cc own rt nm fr lo rc rs) (hl : Cond.methodLink own index arraycopyName ∈ gT) (hnat : Cond.native arraycopyName ∈ gT) (hstat : Cond.static arraycopyName ∈ gT) (hini : Cond.initialized "java/lang/System" ∈ gT) (ha0 : ws[q0]? = some (a0, .inl (cy 0, n0, .inl f))) (ha1 : ws[q1]? = some (a, .inl (cy 0, n1, .inl g))) (x0 : sp.toNatClampNeg = j0 ∧ ¬ sp < 0) (x1 : dp.toNatClampNeg = j1 ∧ ¬ dp < 0) (x2 : n.toNatClampNeg = jn ∧ ¬ n < 0) (h5 : j0 + jn ≤ n0) (h6 : j1 + jn ≤ n1) (hfr : 1 ≤ fr) (hlo : (st.map fun v => v.category).sum + (nativeFrameWords "java/lang/System" "arraycopy" 5 + 11) ≤ lo) (d : decode cc pc = .ok (.invokestatic index, 3)) (hw : ws.set q1 (a, .inl (cy 0, n1, .inl (va_cpy f g j0 j1 jn))) = ws') (k : Z p l e R s m args below meth c D A nL Q nc ns ws' lv (pc + 3) st) : Z p l e R s m args below meth c D A nL Q nc ns ws lv pc (.int n :: .int dp :: .ref a :: .int sp :: .ref a0 :: st) := fun H locs ls h1 h2 h3 h4 => va_copyi b.x1 b.c1 (b.ml1.trans h4.1.symm) b.own1 (b.ts1 _ hl) (b.ts1 _ hnat) (b.ts1 _ hstat) (b.ts1 _ hini) b.K1 h1 h2 h3 q0 q1 0 0 ha0 ha1 rfl rfl rfl x0.2 x1.2 x2.2 (by rw [x0.1, x2.1]; exact h5) (by rw [x1.1, x2.1]; exact h6) (fun i _ => rfl) (by rw [b.fr1]; exact hfr) (by rw [b.lo1]; exact hlo) d (fun H locs g1 g2 g3 => k H locs ls (hw ▸ (by rw [x0.1, x1.1, x2.1] at g1; exact g1)) (hw ▸ (by rw [x0.1, x1.1, x2.1] at g2; exact g2)) g3 h4)
theorem z_getS {C ref : String} {T : u_T} {N ci index a q0 k9 : Nat} {fs : List Value} {v : Value} (b : Bz p R s m args meth c D cy T0 tB tE A nL cc own rt nm fr lo rc rs) (he : ws[q0]? = some (a, .inr (ci, fs))) (hc : vwCl[ci]? = some (C, T, N)) (hin : ∀ w ∈ u_ws C T N, w ∈ gT) (hk : k9 < N) (hl : Cond.fieldLink own index ref (T k9).2.1 (T k9).2.2.1 ∈ gT) (hs : Cond.sameField ref (T k9).1 (T k9).2.1 (T k9).2.2.1 ∈ gT) (hv : fs[k9]? = some v) (d : decode cc pc = .ok (.getfield index, 3)) (k : Z p l e R s m args below meth c D A nL Q nc ns ws lv (pc + 3) (v :: st)) : Z p l e R s m args below meth c D A nL Q nc ns ws lv pc (.ref a :: st) := fun H locs ls h1 h2 h3 h4 => va_get b.x1 b.c1 b.ts1 hin b.own1 b.K1 h1 q0 he hc k9 hk (b.ts1 _ hl) (fun x h => u_same (b.ts1 _ hs) x h) hv d (k H locs ls h1 h2 h3 h4)
theorem z_putS {C ref : String} {T : u_T} {N ci index a q0 k9 : Nat} {fs : List Value} {v : Value} {ty : FieldType} (ty0 : Nat → FieldType) (b : Bz p R s m args meth c D cy T0 tB tE A nL cc own rt nm fr lo rc rs) (he : ws[q0]? = some (a, .inr (ci, fs))) (hc : vwCl[ci]? = some (C, T, N)) (hin : ∀ w ∈ u_ws C T N, w ∈ gT) (hty : ∀ k, k < N → parseFieldDescriptor (T k).2.2.1 = some (ty0 k)) (hnm : ∀ a, a < N → ∀ b, b < N → a ≠ b → (T a).2.1 ≠ (T b).2.1) (hk : k9 < N) (hl : Cond.fieldLink own index ref (T k9).2.1 (T k9).2.2.1 ∈ gT) (hs : Cond.sameField ref (T k9).1 (T k9).2.1 (T k9).2.2.1 ∈ gT) (hfin : (T k9).2.2.2 = false) (hd : ty0 k9 = ty) (hn : narrow ty v = v) (hfit : fits ty v = true) (hlen : k9 < fs.length) (d : decode cc pc = .ok (.putfield index, 3)) (hw : ws.set q0 (a, .inr (ci, fs.set k9 v)) = ws') (k : Z p l e R s m args below meth c D A nL Q nc ns ws' lv (pc + 3) st) : Z p l e R s m args below meth c D A nL Q nc ns ws lv pc (v :: .ref a :: st) := fun H locs ls h1 h2 h3 h4 => va_put b.x1 b.c1 b.ts1 hin ty0 hty hnm b.own1 b.K1 h1 h2 h3 q0 he hc k9 hk (b.ts1 _ hl) (fun x h => u_same (b.ts1 _ hs) x h) hfin (by rw [hty _ hk, hd]) hn hfit hlen d (fun H locs g1 g2 g3 => k H locs ls (hw ▸ g1) (hw ▸ g2) g3 h4)
end ZR3
theorem sa_sa (S : GS) (j : Nat) (f g : Nat → Int32) : sa (sa S j f) j g = sa S j g := by
  have : zu (zu S.2.2.1 j f) j g = zu S.2.2.1 j g := by
    funext i
    unfold zu
    by_cases h : i = j <;> simp [h]
  unfold sa
  rw [this]
theorem ar_sa (S : GS) (j : Nat) (f : Nat → Int32) : ar (sa S j f) j = f := by
  show zu S.2.2.1 j f j = f
  unfold zu
  simp
theorem sa_self (S : GS) (j : Nat) : sa S j (ar S j) = S := by
  have : zu S.2.2.1 j (S.2.2.1 j) = S.2.2.1 := by
    funext i
    unfold zu
    by_cases h : i = j
    · subst h; simp
    · simp [h]
  show (S.1, S.2.1, zu S.2.2.1 j (S.2.2.1 j), S.2.2.2) = S
  rw [this]
theorem ziadd {x c : Int32} {k : Int} (hc : c.toInt = k) (h1 : -2147483648 ≤ x.toInt + k) (h2 : x.toInt + k ≤ 2147483647) : (x + c).toInt = x.toInt + k := by
  rw [Int32.toInt_add, hc]
  exact Int.bmod_eq_of_le (by omega) (by omega)
theorem zisub {x c : Int32} {k : Int} (hc : c.toInt = k) (h1 : -2147483648 ≤ x.toInt + -k) (h2 : x.toInt + -k ≤ 2147483647) : (x - c).toInt = x.toInt + -k := by
  rw [Int32.toInt_sub, hc, Int.sub_eq_add_neg]
  exact Int.bmod_eq_of_le (by omega) (by omega)
theorem zisubw {x c : Int32} {k : Int} (hc : c.toInt = k) (h1 : x.toInt + -k < -2147483648) (h2 : -4294967296 ≤ x.toInt + -k) : (x - c).toInt = x.toInt + -k + 4294967296 := by
  rw [Int32.toInt_sub, hc, Int.sub_eq_add_neg]
  show Int.bmod _ 4294967296 = _
  unfold Int.bmod
  simp only []
  split <;> omega
theorem zu_same {α : Type} {f : Nat → α} {k : Nat} {x : α} (h : f k = x) : zu f k x = f := by
  funext i
  unfold zu
  by_cases hi : i = k
  · subst hi; simp [h]
  · simp [hi]
theorem si_same {S : GS} {k : Nat} {x : Int32} (h : fi S k = x) : si S k x = S := by
  unfold si
  rw [zu_same h]
theorem sl_same {S : GS} {k : Nat} {x : Int64} (h : fl S k = x) : sl S k x = S := by
  unfold sl
  rw [zu_same h]
theorem su_same {S : GS} {j i : Nat} {x : Int32} (h : ar S j i = x) : su S j i x = S := by
  have : upd (ar S j) i x = ar S j := by
    funext q
    unfold upd
    by_cases hi : q = i
    · subst hi; simp [h]
    · simp [hi]
  unfold su
  rw [this, sa_self]
theorem sv_same {S : GS} {j i : Nat} {x : Int64} (h : al S j i = x) : sv S j i x = S := by
  have h1 : vp_updL (al S j) i x = al S j := by
    funext q
    unfold vp_updL
    by_cases hi : q = i
    · subst hi; simp [h]
    · simp [hi]
  unfold sv sb
  rw [h1, zu_same rfl]
def fil (n : Nat) (v : Int32) (f : Nat → Int32) : Nat → Int32 := fun i => if i < n then v else f i
theorem fil_0 (v : Int32) (f : Nat → Int32) : fil 0 v f = f := by funext i; simp [fil]
theorem fil_s (n : Nat) (v : Int32) (f : Nat → Int32) : upd (fil n v f) n v = fil (n + 1) v f := by
  funext i
  unfold upd fil
  by_cases h : i = n
  · subst h; simp
  · by_cases h2 : i < n
    · simp [h, h2, Nat.lt_succ_of_lt h2]
    · have : ¬ i < n + 1 := by omega
      simp [h, h2, this]
theorem su_fil (S : GS) (j n : Nat) (v : Int32) (f : Nat → Int32) : su (sa S j (fil n v f)) j n v = sa S j (fil (n + 1) v f) := by
  unfold su
  rw [ar_sa, sa_sa, fil_s]
theorem cw_noneup (j : Nat) : va_up (fun _ => (none : Option Nat)) j none = fun _ => none := by
  funext i
  unfold va_up
  by_cases h : i = j <;> simp [h]
theorem cwn_11 (cy : Nat → ClassId) (tE : Nat) (a : Nat → Nat) (rw : Nat → Option Nat) (S : GS) (j : Nat) : (cw cy tE a rw S).set 11 (a 11, .inl (cy 3, 12, .inr (.inr (.inr (.inr (va_up (fun _ => none) j none)))))) = cw cy tE a rw S := by
  rw [cw_noneup]
  rfl
theorem cwf_1 (cy : Nat → ClassId) (tE : Nat) (a : Nat → Nat) (rw : Nat → Option Nat) (S : GS) (f : Nat → Int32) : (cw cy tE a rw S).set 1 (a 1, .inl (cy 0, 700, .inl f)) = cw cy tE a rw (sa S 0 f) := rfl
theorem cwf_5 (cy : Nat → ClassId) (tE : Nat) (a : Nat → Nat) (rw : Nat → Option Nat) (S : GS) (f : Nat → Int32) : (cw cy tE a rw S).set 5 (a 5, .inl (cy 0, 701, .inl f)) = cw cy tE a rw (sa S 1 f) := rfl
theorem cwf_6 (cy : Nat → ClassId) (tE : Nat) (a : Nat → Nat) (rw : Nat → Option Nat) (S : GS) (f : Nat → Int32) : (cw cy tE a rw S).set 6 (a 6, .inl (cy 0, 701, .inl f)) = cw cy tE a rw (sa S 2 f) := rfl
theorem cwf_8 (cy : Nat → ClassId) (tE : Nat) (a : Nat → Nat) (rw : Nat → Option Nat) (S : GS) (f : Nat → Int32) : (cw cy tE a rw S).set 8 (a 8, .inl (cy 0, 700, .inl f)) = cw cy tE a rw (sa S 3 f) := rfl
theorem cwf_15 (cy : Nat → ClassId) (tE : Nat) (a : Nat → Nat) (rw : Nat → Option Nat) (S : GS) (f : Nat → Int32) : (cw cy tE a rw S).set 15 (a 15, .inl (cy 0, 51, .inl f)) = cw cy tE a rw (sa S 4 f) := rfl
theorem cwf_18 (cy : Nat → ClassId) (tE : Nat) (a : Nat → Nat) (rw : Nat → Option Nat) (S : GS) (f : Nat → Int32) : (cw cy tE a rw S).set 18 (a 18, .inl (cy 0, 40, .inl f)) = cw cy tE a rw (sa S 5 f) := rfl
theorem cwf_20 (cy : Nat → ClassId) (tE : Nat) (a : Nat → Nat) (rw : Nat → Option Nat) (S : GS) (f : Nat → Int32) : (cw cy tE a rw S).set 20 (a 20, .inl (cy 0, 51, .inl f)) = cw cy tE a rw (sa S 6 f) := rfl
theorem cwf_22 (cy : Nat → ClassId) (tE : Nat) (a : Nat → Nat) (rw : Nat → Option Nat) (S : GS) (f : Nat → Int32) : (cw cy tE a rw S).set 22 (a 22, .inl (cy 0, 51, .inl f)) = cw cy tE a rw (sa S 7 f) := rfl
theorem cwf_24 (cy : Nat → ClassId) (tE : Nat) (a : Nat → Nat) (rw : Nat → Option Nat) (S : GS) (f : Nat → Int32) : (cw cy tE a rw S).set 24 (a 24, .inl (cy 0, 51, .inl f)) = cw cy tE a rw (sa S 8 f) := rfl
theorem cwf_27 (cy : Nat → ClassId) (tE : Nat) (a : Nat → Nat) (rw : Nat → Option Nat) (S : GS) (f : Nat → Int32) : (cw cy tE a rw S).set 27 (a 27, .inl (cy 0, 51, .inl f)) = cw cy tE a rw (sa S 9 f) := rfl
theorem cwf_29 (cy : Nat → ClassId) (tE : Nat) (a : Nat → Nat) (rw : Nat → Option Nat) (S : GS) (f : Nat → Int32) : (cw cy tE a rw S).set 29 (a 29, .inl (cy 0, 400, .inl f)) = cw cy tE a rw (sa S 10 f) := rfl
theorem cwf_30 (cy : Nat → ClassId) (tE : Nat) (a : Nat → Nat) (rw : Nat → Option Nat) (S : GS) (f : Nat → Int32) : (cw cy tE a rw S).set 30 (a 30, .inl (cy 0, 400, .inl f)) = cw cy tE a rw (sa S 11 f) := rfl
theorem cwf_31 (cy : Nat → ClassId) (tE : Nat) (a : Nat → Nat) (rw : Nat → Option Nat) (S : GS) (f : Nat → Int32) : (cw cy tE a rw S).set 31 (a 31, .inl (cy 0, 400, .inl f)) = cw cy tE a rw (sa S 12 f) := rfl
theorem cwf_32 (cy : Nat → ClassId) (tE : Nat) (a : Nat → Nat) (rw : Nat → Option Nat) (S : GS) (f : Nat → Int32) : (cw cy tE a rw S).set 32 (a 32, .inl (cy 0, 1024, .inl f)) = cw cy tE a rw (sa S 13 f) := rfl
theorem cwf_34 (cy : Nat → ClassId) (tE : Nat) (a : Nat → Nat) (rw : Nat → Option Nat) (S : GS) (f : Nat → Int32) : (cw cy tE a rw S).set 34 (a 34, .inl (cy 0, 216, .inl f)) = cw cy tE a rw (sa S 14 f) := rfl
theorem cwf_37 (cy : Nat → ClassId) (tE : Nat) (a : Nat → Nat) (rw : Nat → Option Nat) (S : GS) (f : Nat → Int32) : (cw cy tE a rw S).set 37 (a 37, .inl (cy 0, 12, .inl f)) = cw cy tE a rw (sa S 15 f) := rfl
theorem cwf_39 (cy : Nat → ClassId) (tE : Nat) (a : Nat → Nat) (rw : Nat → Option Nat) (S : GS) (f : Nat → Int32) : (cw cy tE a rw S).set 39 (a 39, .inl (cy 0, 12, .inl f)) = cw cy tE a rw (sa S 16 f) := rfl
theorem cwf_41 (cy : Nat → ClassId) (tE : Nat) (a : Nat → Nat) (rw : Nat → Option Nat) (S : GS) (f : Nat → Int32) : (cw cy tE a rw S).set 41 (a 41, .inl (cy 0, 12, .inl f)) = cw cy tE a rw (sa S 17 f) := rfl
theorem cwf_43 (cy : Nat → ClassId) (tE : Nat) (a : Nat → Nat) (rw : Nat → Option Nat) (S : GS) (f : Nat → Int32) : (cw cy tE a rw S).set 43 (a 43, .inl (cy 0, 12, .inl f)) = cw cy tE a rw (sa S 18 f) := rfl
theorem cwf_45 (cy : Nat → ClassId) (tE : Nat) (a : Nat → Nat) (rw : Nat → Option Nat) (S : GS) (f : Nat → Int32) : (cw cy tE a rw S).set 45 (a 45, .inl (cy 0, 12, .inl f)) = cw cy tE a rw (sa S 19 f) := rfl
theorem cwf_47 (cy : Nat → ClassId) (tE : Nat) (a : Nat → Nat) (rw : Nat → Option Nat) (S : GS) (f : Nat → Int32) : (cw cy tE a rw S).set 47 (a 47, .inl (cy 0, 12, .inl f)) = cw cy tE a rw (sa S 20 f) := rfl
theorem cwf_49 (cy : Nat → ClassId) (tE : Nat) (a : Nat → Nat) (rw : Nat → Option Nat) (S : GS) (f : Nat → Int32) : (cw cy tE a rw S).set 49 (a 49, .inl (cy 0, 200, .inl f)) = cw cy tE a rw (sa S 21 f) := rfl
theorem mwf_1 (cy : Nat → ClassId) (a : Nat → Nat) (S : GS) (f : Nat → Int32) : (mw cy a S).set 1 (a 1, .inl (cy 0, 3, .inl f)) = mw cy a (sa S 0 f) := rfl
theorem mwf_2 (cy : Nat → ClassId) (a : Nat → Nat) (S : GS) (f : Nat → Int32) : (mw cy a S).set 2 (a 2, .inl (cy 0, 9, .inl f)) = mw cy a (sa S 1 f) := rfl
theorem mwf_3 (cy : Nat → ClassId) (a : Nat → Nat) (S : GS) (f : Nat → Int32) : (mw cy a S).set 3 (a 3, .inl (cy 0, 3, .inl f)) = mw cy a (sa S 2 f) := rfl
theorem mwf_4 (cy : Nat → ClassId) (a : Nat → Nat) (S : GS) (f : Nat → Int32) : (mw cy a S).set 4 (a 4, .inl (cy 2, 9, .inl f)) = mw cy a (sa S 3 f) := rfl
theorem mwf_5 (cy : Nat → ClassId) (a : Nat → Nat) (S : GS) (f : Nat → Int32) : (mw cy a S).set 5 (a 5, .inl (cy 2, 9, .inl f)) = mw cy a (sa S 4 f) := rfl
theorem mwf_6 (cy : Nat → ClassId) (a : Nat → Nat) (S : GS) (f : Nat → Int32) : (mw cy a S).set 6 (a 6, .inl (cy 0, 20160, .inl f)) = mw cy a (sa S 5 f) := rfl
theorem mwf_7 (cy : Nat → ClassId) (a : Nat → Nat) (S : GS) (f : Nat → Int32) : (mw cy a S).set 7 (a 7, .inl (cy 0, 14, .inl f)) = mw cy a (sa S 6 f) := rfl
theorem mwf_8 (cy : Nat → ClassId) (a : Nat → Nat) (S : GS) (f : Nat → Int32) : (mw cy a S).set 8 (a 8, .inl (cy 0, 2, .inl f)) = mw cy a (sa S 7 f) := rfl
theorem mwf_9 (cy : Nat → ClassId) (a : Nat → Nat) (S : GS) (f : Nat → Int32) : (mw cy a S).set 9 (a 9, .inl (cy 0, 18, .inl f)) = mw cy a (sa S 8 f) := rfl
theorem mwf_10 (cy : Nat → ClassId) (a : Nat → Nat) (S : GS) (f : Nat → Int32) : (mw cy a S).set 10 (a 10, .inl (cy 0, 18, .inl f)) = mw cy a (sa S 9 f) := rfl
theorem mwf_11 (cy : Nat → ClassId) (a : Nat → Nat) (S : GS) (f : Nat → Int32) : (mw cy a S).set 11 (a 11, .inl (cy 0, 72, .inl f)) = mw cy a (sa S 10 f) := rfl
theorem mwf_12 (cy : Nat → ClassId) (a : Nat → Nat) (S : GS) (f : Nat → Int32) : (mw cy a S).set 12 (a 12, .inl (cy 0, 72, .inl f)) = mw cy a (sa S 11 f) := rfl
theorem mwf_13 (cy : Nat → ClassId) (a : Nat → Nat) (S : GS) (f : Nat → Int32) : (mw cy a S).set 13 (a 13, .inl (cy 0, 108, .inl f)) = mw cy a (sa S 12 f) := rfl
theorem mwf_14 (cy : Nat → ClassId) (a : Nat → Nat) (S : GS) (f : Nat → Int32) : (mw cy a S).set 14 (a 14, .inl (cy 0, 108, .inl f)) = mw cy a (sa S 13 f) := rfl
theorem mwf_15 (cy : Nat → ClassId) (a : Nat → Nat) (S : GS) (f : Nat → Int32) : (mw cy a S).set 15 (a 15, .inl (cy 0, 108, .inl f)) = mw cy a (sa S 14 f) := rfl
theorem mwf_16 (cy : Nat → ClassId) (a : Nat → Nat) (S : GS) (f : Nat → Int32) : (mw cy a S).set 16 (a 16, .inl (cy 0, 108, .inl f)) = mw cy a (sa S 15 f) := rfl
theorem mwf_17 (cy : Nat → ClassId) (a : Nat → Nat) (S : GS) (f : Nat → Int32) : (mw cy a S).set 17 (a 17, .inl (cy 0, 108, .inl f)) = mw cy a (sa S 16 f) := rfl
theorem mwf_18 (cy : Nat → ClassId) (a : Nat → Nat) (S : GS) (f : Nat → Int32) : (mw cy a S).set 18 (a 18, .inl (cy 0, 18, .inl f)) = mw cy a (sa S 17 f) := rfl
theorem mwf_19 (cy : Nat → ClassId) (a : Nat → Nat) (S : GS) (f : Nat → Int32) : (mw cy a S).set 19 (a 19, .inl (cy 0, 18, .inl f)) = mw cy a (sa S 18 f) := rfl
theorem mwf_20 (cy : Nat → ClassId) (a : Nat → Nat) (S : GS) (f : Nat → Int32) : (mw cy a S).set 20 (a 20, .inl (cy 2, 18, .inl f)) = mw cy a (sa S 19 f) := rfl
theorem mwf_21 (cy : Nat → ClassId) (a : Nat → Nat) (S : GS) (f : Nat → Int32) : (mw cy a S).set 21 (a 21, .inl (cy 2, 18, .inl f)) = mw cy a (sa S 20 f) := rfl
theorem mwf_22 (cy : Nat → ClassId) (a : Nat → Nat) (S : GS) (f : Nat → Int32) : (mw cy a S).set 22 (a 22, .inl (cy 0, 700, .inl f)) = mw cy a (sa S 21 f) := rfl
theorem mwf_23 (cy : Nat → ClassId) (a : Nat → Nat) (S : GS) (f : Nat → Int32) : (mw cy a S).set 23 (a 23, .inl (cy 0, 720, .inl f)) = mw cy a (sa S 22 f) := rfl
theorem mwf_24 (cy : Nat → ClassId) (a : Nat → Nat) (S : GS) (f : Nat → Int32) : (mw cy a S).set 24 (a 24, .inl (cy 0, 5, .inl f)) = mw cy a (sa S 23 f) := rfl
theorem mwf_25 (cy : Nat → ClassId) (a : Nat → Nat) (S : GS) (f : Nat → Int32) : (mw cy a S).set 25 (a 25, .inl (cy 0, 3, .inl f)) = mw cy a (sa S 24 f) := rfl
theorem mwf_26 (cy : Nat → ClassId) (a : Nat → Nat) (S : GS) (f : Nat → Int32) : (mw cy a S).set 26 (a 26, .inl (cy 0, 9, .inl f)) = mw cy a (sa S 25 f) := rfl
theorem mwf_28 (cy : Nat → ClassId) (a : Nat → Nat) (S : GS) (f : Nat → Int32) : (mw cy a S).set 28 (a 28, .inl (cy 0, 400, .inl f)) = mw cy a (sa S 26 f) := rfl
theorem mwf_29 (cy : Nat → ClassId) (a : Nat → Nat) (S : GS) (f : Nat → Int32) : (mw cy a S).set 29 (a 29, .inl (cy 0, 400, .inl f)) = mw cy a (sa S 27 f) := rfl
theorem mwf_30 (cy : Nat → ClassId) (a : Nat → Nat) (S : GS) (f : Nat → Int32) : (mw cy a S).set 30 (a 30, .inl (cy 0, 400, .inl f)) = mw cy a (sa S 28 f) := rfl
theorem mwf_31 (cy : Nat → ClassId) (a : Nat → Nat) (S : GS) (f : Nat → Int32) : (mw cy a S).set 31 (a 31, .inl (cy 0, 1024, .inl f)) = mw cy a (sa S 29 f) := rfl
theorem mwf_32 (cy : Nat → ClassId) (a : Nat → Nat) (S : GS) (f : Nat → Int32) : (mw cy a S).set 32 (a 32, .inl (cy 0, 400, .inl f)) = mw cy a (sa S 30 f) := rfl
theorem mwf_33 (cy : Nat → ClassId) (a : Nat → Nat) (S : GS) (f : Nat → Int32) : (mw cy a S).set 33 (a 33, .inl (cy 0, 18, .inl f)) = mw cy a (sa S 31 f) := rfl
theorem mwf_34 (cy : Nat → ClassId) (a : Nat → Nat) (S : GS) (f : Nat → Int32) : (mw cy a S).set 34 (a 34, .inl (cy 0, 3, .inl f)) = mw cy a (sa S 32 f) := rfl
theorem mwf_35 (cy : Nat → ClassId) (a : Nat → Nat) (S : GS) (f : Nat → Int32) : (mw cy a S).set 35 (a 35, .inl (cy 0, 9, .inl f)) = mw cy a (sa S 33 f) := rfl
theorem mwf_36 (cy : Nat → ClassId) (a : Nat → Nat) (S : GS) (f : Nat → Int32) : (mw cy a S).set 36 (a 36, .inl (cy 0, 3, .inl f)) = mw cy a (sa S 34 f) := rfl
theorem mwf_37 (cy : Nat → ClassId) (a : Nat → Nat) (S : GS) (f : Nat → Int32) : (mw cy a S).set 37 (a 37, .inl (cy 2, 9, .inl f)) = mw cy a (sa S 35 f) := rfl
theorem mwf_38 (cy : Nat → ClassId) (a : Nat → Nat) (S : GS) (f : Nat → Int32) : (mw cy a S).set 38 (a 38, .inl (cy 2, 9, .inl f)) = mw cy a (sa S 36 f) := rfl
theorem mwf_40 (cy : Nat → ClassId) (a : Nat → Nat) (S : GS) (f : Nat → Int32) : (mw cy a S).set 40 (a 40, .inl (cy 0, 72, .inl f)) = mw cy a (sa S 37 f) := rfl
theorem mwf_41 (cy : Nat → ClassId) (a : Nat → Nat) (S : GS) (f : Nat → Int32) : (mw cy a S).set 41 (a 41, .inl (cy 0, 6, .inl f)) = mw cy a (sa S 38 f) := rfl
theorem mwf_42 (cy : Nat → ClassId) (a : Nat → Nat) (S : GS) (f : Nat → Int32) : (mw cy a S).set 42 (a 42, .inl (cy 2, 6, .inl f)) = mw cy a (sa S 39 f) := rfl
theorem mwf_43 (cy : Nat → ClassId) (a : Nat → Nat) (S : GS) (f : Nat → Int32) : (mw cy a S).set 43 (a 43, .inl (cy 0, 200, .inl f)) = mw cy a (sa S 40 f) := rfl
