/-- a String constant: its cell sW, its bytes tW (n of them, f), and the statics that its methods read -/
def sX (T0 sW tW n : Nat) (f : Nat → Int32) (U : State) : Prop := va_O "java/lang/String" sW (zA T0) U U.heap ∧ va_OF "java/lang/String" "coder" "B" (.int 0) sW (zA T0) U U.heap ∧ va_OF "java/lang/String" "value" "[B" (.ref tW) sW (zA T0) U U.heap ∧ va_T .byte tW n (fun j => .int (f j)) (zA T0) U U.heap ∧ va_Z "java/lang/String" "COMPACT_STRINGS" "Z" (.int 1) (zA T0) U U.heap ∧ va_Zq "jdk/internal/util/Preconditions" "SIOOBE_FORMATTER" "Ljava/util/function/BiFunction;" (zA T0) U U.heap
theorem sX.go {T0 sW tW n : Nat} {f : Nat → Int32} {s U : State} (h : sX T0 sW tW n f s) (hv : s.vm.Alike U.vm) (hq : ∀ q, q < s.heap.size → ¬ zA T0 q → U.heap[q]? = s.heap[q]?) : sX T0 sW tW n f U :=
  ⟨(va_O.moved hv h.1).kept hq, (va_OF.moved hv h.2.1).kept hq, (va_OF.moved hv h.2.2.1).kept hq, (h.2.2.2.1.moved hv).kept hq, (h.2.2.2.2.1.moved hv).kept hq, (h.2.2.2.2.2.moved hv).kept hq⟩
/-- a contract that asks for X too -/
def CtX (X : State → Prop) (l : Launch) (D : va_G) (cy : Nat → ClassId) (T0 tB tE : Nat) (y : MethodName) (b : ByteArray) (n : Nat) (rt : Option FieldType) (fr lo mc ms : Nat) (ws : va_W) (As : List Value) (Qq : (Nat → Prop) → Array Value → State → Outcome → State → Prop) : Prop :=
  ∀ sz, Met l y (wd y b n rt) { frames := fr, cells := mc, slots := ms, locals := lo } (va_Pc As (fun U => PU D cy T0 tB tE ws sz U ∧ X U)) (Qq (va_A ws sz)) mc ms (va_A ws sz)
theorem CtX.ofZ {X : State → Prop} {l : Launch} {D : va_G} {cy : Nat → ClassId} {T0 tB tE : Nat} {y : MethodName} {b : ByteArray} {n : Nat} {rt : Option FieldType} {fr lo mc ms : Nat} {ws : va_W} {As : List Value} {Qq : (Nat → Prop) → Array Value → State → Outcome → State → Prop} (own nm : String) (lv : List (Nat × Value)) (hlv : lv_args 0 As = lv) (hy : plainName y.cls = true) (ho : y.cls = own) (hnm : y.name = nm) (hn : (lg_sl As).length ≤ n)
    (body : ∀ (p : Program) (e : Env) (R : Room) (s : State) (m : MethodId) (args : Array Value) (below : List Frame) (meth : Method) (c : Code) (A : Nat → Prop), X s → Bz p R s m args meth c D cy T0 tB tE A n b own rt nm fr lo mc ms → Z p l e R s m args below meth c D A n (MQ below (Qq A) args s mc ms A) 0 0 ws lv 0 []) : CtX X l D cy T0 tB tE y b n rt fr lo mc ms ws As Qq := by
  intro sz
  refine Met.ofW (cc := b) (maxL := n) (ret := rt) hy rfl ?_
  intro p e s m args below meth c s₁ B hml hv
  obtain ⟨rfl, ⟨hsz, hP, hK, hD0, hE, hT⟩, hX⟩ := hv
  subst hsz
  have hts := atoms_spec (ws := wd y b n rt) B.pre
  have hD := hD0.self (sz := s.heap.size)
  have hl := lv_entry As (n := n) hn
  rw [lg_entry_eq]
  rw [hlv] at hl
  refine body p e _ s m _ below meth c _ hX ⟨B.exec, B.bytes, hml, ?_, fun w hw => hts w (List.mem_cons_of_mem _ hw), hK, hE, B.notSynchronized, fun q h => Or.inr h, ?_, hT, B.returns, ?_, rfl, rfl, rfl, rfl⟩ s.heap [] _ hP hD va_S.rf hl
  · rw [← ho]; exact findClass_of_methodNamed B.named
  · rintro q (⟨k, e, h⟩ | h)
    · exact hD0.2 k _ h
    · exact Nat.le_trans hT h
  · rw [← hnm]; exact (name_of_methodNamed B.named B.method).1
section ZR5
variable {p : Program} {l : Launch} {e : Env} {R : Room} {s : State} {m : MethodId} {args : Array Value} {below : List Frame} {meth : Method} {c : Code} {D : va_G} {cy : Nat → ClassId} {T0 tB tE : Nat} {A : Nat → Prop} {nL : Nat} {cc : ByteArray} {own : String} {rt : Option FieldType} {nm : String} {fr lo rc rs : Nat} {Q : State → Prop} {nc ns : Nat} {ws ws' : va_W} {lv lv' : List (Nat × Value)} {pc tgt : Nat} {st : List Value} {sW tW n : Nat} {f : Nat → Int32}
theorem z_sub (is : List Nat) (hs : is.map (fun i => ws[i]?) = ws'.map some) (hn : va_nd is = true) (k : Z p l e R s m args below meth c D A nL Q nc ns ws' lv pc st) : Z p l e R s m args below meth c D A nL Q nc ns ws lv pc st := by
  intro H locs ls h1 h2 h3 h4
  have hC' : is.filterMap (fun i => ws[i]?) = ws' := by
    have e1 : is.filterMap (fun i => ws[i]?) = (is.map (fun i => ws[i]?)).filterMap id := by rw [List.filterMap_map]; rfl
    rw [e1, hs, List.filterMap_map]
    simp
  exact k H locs ls (h1.sub is hC') (h2.sub is hn hs) h3 h4
theorem z_lv (ks : List Nat) (hl : lv_pick lv ks = lv') (k : Z p l e R s m args below meth c D A nL Q nc ns ws lv' pc st) : Z p l e R s m args below meth c D A nL Q nc ns ws lv pc st := fun H locs ls h1 h2 h3 h4 => k H locs ls h1 h2 h3 (lv_sub h4 ks hl)
theorem z_nret {U : Type} {post : Int32 → U → Prop} {wf : U → va_W} {v : Int32} {mc ms : Nat} {ty : FieldType} (u : U) (b : Bz p R s m args meth c D cy T0 tB tE A nL cc own rt nm fr lo rc rs) (hr : rt = some ty) (hz : narrow ty (.int v) = .int v) (d : decode cc pc = .ok (.ireturn, 1)) (hp : post v u) (hw : ws = wf u) (g1 : nc ≤ mc) (g2 : ns ≤ ms) : Z p l e R s m args below meth c D A nL (MQ below (QI D post wf A) args s mc ms A) nc ns ws lv pc [.int v] := by
  subst hw
  intro H locs ls h1 h2 h3 h4
  have hlocks := b.lk1
  refine W.widen g1 g2 ?_
  exact W.zret b.x1 b.c1 (b.r1.trans hr) hz (fun t ht hW => ⟨⟨v, u, rfl, hp, by rw [ht]; exact h1, h2⟩, h3.F ht⟩) h3.2.2 d
theorem s_val {index : Nat} (b : Bz p R s m args meth c D cy T0 tB tE A nL cc own rt nm fr lo rc rs) (hx : sX T0 sW tW n f s) (hl : Cond.fieldLink own index "java/lang/String" "value" "[B" ∈ gT) (d : decode cc pc = .ok (.getfield index, 3)) (k : Z p l e R s m args below meth c D A nL Q nc ns ws lv (pc + 3) (.ref tW :: st)) : Z p l e R s m args below meth c D A nL Q nc ns ws lv pc (.ref sW :: st) := fun H locs ls h1 h2 h3 h4 => vk_getf b.x1 b.c1 (hx.2.2.1.narrow b.AT1) h3 b.own1 (b.ts1 _ hl) (fun _ h => h) d (k H locs ls h1 h2 h3 h4)
theorem s_cod {index : Nat} (b : Bz p R s m args meth c D cy T0 tB tE A nL cc own rt nm fr lo rc rs) (hx : sX T0 sW tW n f s) (hl : Cond.fieldLink own index "java/lang/String" "coder" "B" ∈ gT) (d : decode cc pc = .ok (.getfield index, 3)) (k : Z p l e R s m args below meth c D A nL Q nc ns ws lv (pc + 3) (.int 0 :: st)) : Z p l e R s m args below meth c D A nL Q nc ns ws lv pc (.ref sW :: st) := fun H locs ls h1 h2 h3 h4 => vk_getf b.x1 b.c1 (hx.2.1.narrow b.AT1) h3 b.own1 (b.ts1 _ hl) (fun _ h => h) d (k H locs ls h1 h2 h3 h4)
theorem s_com {index : Nat} (b : Bz p R s m args meth c D cy T0 tB tE A nL cc own rt nm fr lo rc rs) (hx : sX T0 sW tW n f s) (hl : Cond.fieldLink own index "java/lang/String" "COMPACT_STRINGS" "Z" ∈ gT) (d : decode cc pc = .ok (.getstatic index, 3)) (k : Z p l e R s m args below meth c D A nL Q nc ns ws lv (pc + 3) (.int 1 :: st)) : Z p l e R s m args below meth c D A nL Q nc ns ws lv pc st := fun H locs ls h1 h2 h3 h4 => va_gets b.x1 b.c1 (hx.2.2.2.2.1.narrow b.AT1) h3 b.own1 (b.ts1 _ hl) (fun _ h => h) d (k H locs ls h1 h2 h3 h4)
theorem s_fmt {index : Nat} (b : Bz p R s m args meth c D cy T0 tB tE A nL cc own rt nm fr lo rc rs) (hx : sX T0 sW tW n f s) (hl : Cond.fieldLink own index "jdk/internal/util/Preconditions" "SIOOBE_FORMATTER" "Ljava/util/function/BiFunction;" ∈ gT) (d : decode cc pc = .ok (.getstatic index, 3)) (k : ∀ r : Option Nat, Z p l e R s m args below meth c D A nL Q nc ns ws lv (pc + 3) (va_rf r :: st)) : Z p l e R s m args below meth c D A nL Q nc ns ws lv pc st := by
  intro H locs ls h1 h2 h3 h4
  rcases hx.2.2.2.2.2 with hz | ⟨t, hz⟩
  · exact va_gets b.x1 b.c1 (hz.narrow b.AT1) h3 b.own1 (b.ts1 _ hl) (fun _ h => h) d (k none H locs ls h1 h2 h3 h4)
  · exact va_gets b.x1 b.c1 (hz.narrow b.AT1) h3 b.own1 (b.ts1 _ hl) (fun _ h => h) d (k (some t) H locs ls h1 h2 h3 h4)
theorem s_len {v : Int32} (b : Bz p R s m args meth c D cy T0 tB tE A nL cc own rt nm fr lo rc rs) (hx : sX T0 sW tW n f s) (hv : Int32.ofNat n = v) (d : decode cc pc = .ok (.arraylength, 1)) (k : Z p l e R s m args below meth c D A nL Q nc ns ws lv (pc + 1) (.int v :: st)) : Z p l e R s m args below meth c D A nL Q nc ns ws lv pc (.ref tW :: st) := fun H locs ls h1 h2 h3 h4 => va_tlen b.x1 b.c1 (hx.2.2.2.1.narrow b.AT1) h3 hv d (k H locs ls h1 h2 h3 h4)
theorem s_byt {i : Int32} {j : Nat} (b : Bz p R s m args meth c D cy T0 tB tE A nL cc own rt nm fr lo rc rs) (hx : sX T0 sW tW n f s) (hi : zx i j n) (d : decode cc pc = .ok (.baload, 1)) (k : Z p l e R s m args below meth c D A nL Q nc ns ws lv (pc + 1) (.int (f j) :: st)) : Z p l e R s m args below meth c D A nL Q nc ns ws lv pc (.int i :: .ref tW :: st) := fun H locs ls h1 h2 h3 h4 => va_tb b.x1 b.c1 (hx.2.2.2.1.narrow b.AT1) h3 hi.ok (by rw [hi.1]) d (k H locs ls h1 h2 h3 h4)
theorem s_ldc {own' tx : String} {index q : Nat} (b : Bz p R s m args meth c D cy T0 tB tE A nL cc own rt nm fr lo rc rs) (ho : own' = own) (hr : vk_R own' index tx q s) (d : decode cc pc = .ok (.ldc index, 2)) (k : Z p l e R s m args below meth c D A nL Q nc ns ws lv (pc + 2) (.ref q :: st)) : Z p l e R s m args below meth c D A nL Q nc ns ws lv pc st := by
  subst ho
  exact fun H locs ls h1 h2 h3 h4 => va_ldcS b.x1 b.c1 b.own1 hr d (k H locs ls h1 h2 h3 h4)
theorem s_go {H : Heap} {locs : List Loc} (b : Bz p R s m args meth c D cy T0 tB tE A nL cc own rt nm fr lo rc rs) (hx : sX T0 sW tW n f s) (h3 : va_S A s.heap H locs) {U : State} (hU : U.heap = H) (hW : s.WarmedH U.vm) : sX T0 sW tW n f U := hx.go hW.alike (fun q h5 h6 => by rw [hU]; exact h3.2.1 q h5 (fun h => h6 (b.AT1 q h)))
theorem s_recv {H : Heap} {locs : List Loc} (b : Bz p R s m args meth c D cy T0 tB tE A nL cc own rt nm fr lo rc rs) (hx : sX T0 sW tW n f s) (h3 : va_S A s.heap H locs) : ∃ cell : Cell, H[sW]? = some cell ∧ cell.vm.isStatics = false ∧ s.vm.findClass "java/lang/String" = some cell.cls := by
  obtain ⟨cell, g1, g2, g3, g4⟩ := (hx.1.narrow b.AT1).kept h3.2.1
  exact ⟨cell, g1, g2, g3⟩
theorem CtX.blind {ws : va_W} {sz : Nat} {As : List Value} : FrameBlind (va_Pc As (fun U => PU D cy T0 tB tE ws sz U ∧ sX T0 sW tW n f U)) := fun a U g mk q => ⟨q.1, (PU.blind (As := As) a U g mk ⟨q.1, q.2.1⟩).2, q.2.2.go (Vm.Alike.refl _) (fun _ _ _ => rfl)⟩
section ZC5
variable {y : MethodName} {bt : ByteArray} {n9 k9 index fr' lo' mc ms : Nat} {rt' : Option FieldType} {As : List Value} {Qq : (Nat → Prop) → Array Value → State → Outcome → State → Prop}
theorem s_runS (b : Bz p R s m args meth c D cy T0 tB tE A nL cc own rt nm fr lo rc rs) (hx : sX T0 sW tW n f s) (hM : CtX (sX T0 sW tW n f) l D cy T0 tB tE y bt n9 rt' fr' lo' mc ms ws As Qq) (hf : Cf y bt n9 rt' k9) (hl : Cond.methodLink own index y ∈ gT) (hs : Cond.static y ∈ gT) (d : decode cc pc = .ok (.invokestatic index, 3)) (hk : As.length = k9) (hst : (st.map fun v => v.category).sum ≤ 8) (g : fr' + 1 ≤ fr ∧ 8 + (n9 + 11) + lo' ≤ lo ∧ nc + mc ≤ rc ∧ ns + ms ≤ rs) (H : Heap) (locs : List Loc) (ls : Array Slot) (h1 : va_P D vwCl ws H) (h2 : va_D A ws) (h3 : va_S A s.heap H locs) (h4 : lv_has ls nL lv) : va_Run p l e R s m args below meth c H locs nc ns mc ms (F0 m pc ls (As.reverse ++ st)) st (Qq (va_A ws H.size) As.toArray) (va_A ws H.size) :=
  va_runS (As := As) (rest := st) ⟨b.x1, b.c1, b.ml1, b.own1, b.ts1⟩ (hM H.size) ⟨callB_of k9 b.ts1 (wd_good hf.1) rfl rfl rfl (b.ts1 _ hf.2.1) (b.ts1 _ hl) hf.2.2 ⟨by rw [b.fr1]; exact g.1, by rw [b.lo1]; exact g.2.1⟩, b.ts1 _ hs⟩ ⟨CtX.blind, fun U hU hW => ⟨rfl, z_pre b h1 h2 h3 hU hW, s_go b hx h3 hU hW⟩⟩ rfl hk h4.1 rfl (lv_room hst) d ⟨by rw [b.rc1]; exact g.2.2.1, by rw [b.rs1]; exact g.2.2.2⟩
theorem s_runV (b : Bz p R s m args meth c D cy T0 tB tE A nL cc own rt nm fr lo rc rs) (hx : sX T0 sW tW n f s) (hM : CtX (sX T0 sW tW n f) l D cy T0 tB tE y bt n9 rt' fr' lo' mc ms ws (.ref sW :: As) Qq) (hf : Cf y bt n9 rt' k9) (hyc : y.cls = "java/lang/String") (hl : Cond.methodLink own index y ∈ gT) (hi : Cond.instanceMethod y ∈ gT) (hs : Cond.selects "java/lang/String" y y ∈ gT) (d : decode cc pc = .ok (.invokevirtual index, 3)) (hk : As.length = k9) (hst : (st.map fun v => v.category).sum ≤ 8) (g : fr' + 1 ≤ fr ∧ 8 + (n9 + 11) + lo' ≤ lo ∧ nc + mc ≤ rc ∧ ns + ms ≤ rs) (H : Heap) (locs : List Loc) (ls : Array Slot) (h1 : va_P D vwCl ws H) (h2 : va_D A ws) (h3 : va_S A s.heap H locs) (h4 : lv_has ls nL lv) : va_Run p l e R s m args below meth c H locs nc ns mc ms (F0 m pc ls (As.reverse ++ .ref sW :: st)) st (Qq (va_A ws H.size) (.ref sW :: As).toArray) (va_A ws H.size) :=
  va_runV (C := "java/lang/String") (As := As) (rest := st) ⟨b.x1, b.c1, b.ml1, b.own1, b.ts1⟩ (hM H.size) ⟨callB_of k9 b.ts1 (wd_good hf.1) rfl rfl rfl (b.ts1 _ hf.2.1) (b.ts1 _ hl) hf.2.2 ⟨by rw [b.fr1]; exact g.1, by rw [b.lo1]; exact g.2.1⟩, b.ts1 _ hi, b.ts1 _ hs⟩ ⟨CtX.blind, s_recv b hx h3, fun U hU hW => ⟨rfl, z_pre b h1 h2 h3 hU hW, s_go b hx h3 hU hW⟩⟩ rfl hk h4.1 rfl (lv_room hst) d ⟨by rw [b.rc1]; exact g.2.2.1, by rw [b.rs1]; exact g.2.2.2⟩
end ZC5
end ZR5
