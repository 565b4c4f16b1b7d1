/-- the words that every contract may use: those of the tables that stay -/
def gT : List Cond := lw_tbl.filter goodWord
theorem gT_good : GoodIn gT gT := fun w h => ⟨h, good_of_word (List.mem_filter.mp h).2⟩
def wd (y : MethodName) (b : ByteArray) (n : Nat) (rt : Option FieldType) : List Cond := Cond.code y b n rt :: gT
theorem wd_good {y : MethodName} {b : ByteArray} {n : Nat} {rt : Option FieldType} (h : Cond.code y b n rt ∈ gT) : GoodIn gT (wd y b n rt) := fun w hw => (List.mem_cons.mp hw).elim (fun e => by rw [e]; exact gT_good _ h) (gT_good w)
theorem gT_of {w : Cond} (i : Nat) (h : lw_tbl[i]? = some w) (g : goodWord w = true) : w ∈ gT := List.mem_filter.mpr ⟨List.mem_of_getElem? h, g⟩
/-- the nest mates' links -/
def nW : List Cond := [Cond.methodLinkNest "LawHoles" (19 : Nat) ({ cls := "LawHoles$Reader", name := "<init>", desc := "()V" } : MethodName) "LawHoles",
  Cond.methodLinkNest "LawHoles" (26 : Nat) ({ cls := "LawHoles$Law", name := "<init>", desc := "()V" } : MethodName) "LawHoles",
  Cond.methodLinkNest "LawHoles$Court" (11 : Nat) ({ cls := "LawHoles$Reckoner", name := "<init>", desc := "()V" } : MethodName) "LawHoles",
  Cond.methodLinkNest "LawHoles$Law" (39 : Nat) ({ cls := "LawHoles", name := "doerOf", desc := "(I)I" } : MethodName) "LawHoles",
  Cond.methodLinkNest "LawHoles$Law" (43 : Nat) ({ cls := "LawHoles", name := "otherOf", desc := "(I)I" } : MethodName) "LawHoles",
  Cond.methodLinkNest "LawHoles$Law" (46 : Nat) ({ cls := "LawHoles", name := "isPerson", desc := "(I)Z" } : MethodName) "LawHoles",
  Cond.methodLinkNest "LawHoles$Law" (57 : Nat) ({ cls := "LawHoles", name := "thingOf", desc := "(I)I" } : MethodName) "LawHoles",
  Cond.methodLinkNest "LawHoles$Law" (60 : Nat) ({ cls := "LawHoles", name := "isThing", desc := "(I)Z" } : MethodName) "LawHoles",
  Cond.methodLinkNest "LawHoles$Reckoner" (32 : Nat) ({ cls := "LawHoles", name := "doerOf", desc := "(I)I" } : MethodName) "LawHoles",
  Cond.methodLinkNest "LawHoles$Reckoner" (36 : Nat) ({ cls := "LawHoles", name := "otherOf", desc := "(I)I" } : MethodName) "LawHoles",
  Cond.methodLinkNest "LawHoles$Reckoner" (39 : Nat) ({ cls := "LawHoles", name := "thingOf", desc := "(I)I" } : MethodName) "LawHoles",
  Cond.methodLinkNest "LawHoles$Court" (97 : Nat) ({ cls := "LawHoles", name := "thingOf", desc := "(I)I" } : MethodName) "LawHoles",
  Cond.methodLinkNest "LawHoles$State" (42 : Nat) ({ cls := "LawHoles", name := "isWithin", desc := "(II)Z" } : MethodName) "LawHoles",
  Cond.methodLinkNest "LawHoles$State" (15 : Nat) ({ cls := "LawHoles", name := "isPerson", desc := "(I)Z" } : MethodName) "LawHoles",
  Cond.methodLinkNest "LawHoles$State" (19 : Nat) ({ cls := "LawHoles", name := "isThing", desc := "(I)Z" } : MethodName) "LawHoles",
  Cond.methodLinkNest "LawHoles$State" (22 : Nat) ({ cls := "LawHoles", name := "arePair", desc := "(II)Z" } : MethodName) "LawHoles",
  Cond.methodLinkNest "LawHoles$Search" (94 : Nat) ({ cls := "LawHoles", name := "otherOf", desc := "(I)I" } : MethodName) "LawHoles",
  Cond.methodLinkNest "LawHoles$Search" (98 : Nat) ({ cls := "LawHoles", name := "doerOf", desc := "(I)I" } : MethodName) "LawHoles",
  Cond.methodLinkNest "LawHoles$State" (45 : Nat) ({ cls := "LawHoles", name := "become", desc := "(II)I" } : MethodName) "LawHoles",
  Cond.methodLinkNest "LawHoles$Row" (37 : Nat) ({ cls := "LawHoles", name := "doerOf", desc := "(I)I" } : MethodName) "LawHoles",
  Cond.methodLinkNest "LawHoles$Row" (40 : Nat) ({ cls := "LawHoles", name := "become", desc := "(II)I" } : MethodName) "LawHoles",
  Cond.methodLinkNest "LawHoles$Row" (43 : Nat) ({ cls := "LawHoles", name := "otherOf", desc := "(I)I" } : MethodName) "LawHoles",
  Cond.methodLinkNest "LawHoles$Row" (46 : Nat) ({ cls := "LawHoles", name := "thingOf", desc := "(I)I" } : MethodName) "LawHoles",
  Cond.castable "LawHoles$Act" "java/lang/Object", Cond.castable "LawHoles$Clause" "java/lang/Object", Cond.castable "LawHoles$Cure" "java/lang/Object"]
def zA (T0 : Nat) : Nat → Prop := fun q => T0 ≤ q
def bec : Nat → Value := fun j => .int (([0, 1, 2, 0, 2, 1, 1, 0, 2, 1, 2, 0, 2, 0, 1, 2, 1, 0] : List Int32).getD j 0)
def sOwn : List String := ["LawHoles$Tokens", "LawHoles$Tokens", "LawHolesModel", "LawHolesModel", "LawHolesModel", "LawHolesModel", "LawHolesModel", "LawHolesModel", "LawHolesModel", "LawHolesModel", "LawHolesModel", "LawHolesModel", "LawHolesModel", "LawHolesModel", "LawHolesModel", "LawHolesModel", "LawHolesModel", "LawHolesModel", "LawHolesModel", "LawHolesModel", "LawHolesModel"]
def sIdx : List Nat := [29, 65, 201, 207, 209, 211, 212, 213, 215, 217, 218, 220, 222, 223, 225, 227, 229, 230, 232, 234, 236]
def sTxt : List String := ["act need make coin debt own none wed part adopt day or and not child owns things a b ", ";+-*()<=>", "act", "need", "make", "coin", "debt", "own", "none", "wed", "part", "adopt", "day", "or", "and", "not", "child", "owns", "things", "a", "b"]
def sLen : List Nat := [85, 9, 3, 4, 4, 4, 4, 3, 4, 3, 4, 5, 3, 2, 3, 3, 5, 4, 6, 1, 1]
def sByt : List (List Int32) := [[97, 99, 116, 32, 110, 101, 101, 100, 32, 109, 97, 107, 101, 32, 99, 111, 105, 110, 32, 100, 101, 98, 116, 32, 111, 119, 110, 32, 110, 111, 110, 101, 32, 119, 101, 100, 32, 112, 97, 114, 116, 32, 97, 100, 111, 112, 116, 32, 100, 97, 121, 32, 111, 114, 32, 97, 110, 100, 32, 110, 111, 116, 32, 99, 104, 105, 108, 100, 32, 111, 119, 110, 115, 32, 116, 104, 105, 110, 103, 115, 32, 97, 32, 98, 32], [59, 43, 45, 42, 40, 41, 60, 61, 62], [97, 99, 116], [110, 101, 101, 100], [109, 97, 107, 101], [99, 111, 105, 110], [100, 101, 98, 116], [111, 119, 110], [110, 111, 110, 101], [119, 101, 100], [112, 97, 114, 116], [97, 100, 111, 112, 116], [100, 97, 121], [111, 114], [97, 110, 100], [110, 111, 116], [99, 104, 105, 108, 100], [111, 119, 110, 115], [116, 104, 105, 110, 103, 115], [97], [98]]
/-- the String constants -/
def zS (T0 : Nat) (U : State) : Prop := va_Z "java/lang/String" "COMPACT_STRINGS" "Z" (.int 1) (zA T0) U U.heap ∧ va_Zq "jdk/internal/util/Preconditions" "SIOOBE_FORMATTER" "Ljava/util/function/BiFunction;" (zA T0) U U.heap ∧ ∃ adK adV : Nat → Nat, vk_S 21 sLen sByt adK adV (zA T0) U U.heap ∧ ∀ i, i < 21 → vk_R (sOwn.getD i "") (sIdx.getD i 0) (sTxt.getD i "") (adK i) U
/-- what holds beside the worlds: nest links, the static row BECOME, the lists' empty row; T0 the law's first cell, tB and tE the two rows -/
def zE (T0 tB tE : Nat) (U : State) : Prop := (∀ w ∈ nW, va_Nw w U) ∧ va_Z "LawHoles" "BECOME" "[I" (.ref tB) (zA T0) U U.heap ∧ va_T .int tB 18 bec (zA T0) U U.heap ∧ va_Z "java/util/ArrayList" "DEFAULTCAPACITY_EMPTY_ELEMENTDATA" "[Ljava/lang/Object;" (.ref tE) (zA T0) U U.heap ∧ zS T0 U ∧ va_AO "LawHoles$Act" U ∧ va_AO "LawHoles$Row" U ∧ va_AO "java/lang/Object" U ∧ va_T (.object "java/lang/Object") tE 0 (fun _ => .null) (zA T0) U U.heap
theorem nW_warm {s U : State} (hW : s.WarmedH U.vm) (h : ∀ w ∈ nW, va_Nw w s) : ∀ w ∈ nW, va_Nw w U := by
  simp only [nW, List.forall_mem_cons] at h ⊢
  obtain ⟨h0, h1, h2, h3, h4, h5, h6, h7, h8, h9, h10, h11, h12, h13, h14, h15, h16, h17, h18, h19, h20, h21, h22, h23, h24, h25, -⟩ := h
  exact ⟨va_Nw.warmM hW h0, va_Nw.warmM hW h1, va_Nw.warmM hW h2, va_Nw.warmM hW h3, va_Nw.warmM hW h4, va_Nw.warmM hW h5, va_Nw.warmM hW h6, va_Nw.warmM hW h7, va_Nw.warmM hW h8, va_Nw.warmM hW h9, va_Nw.warmM hW h10, va_Nw.warmM hW h11, va_Nw.warmM hW h12, va_Nw.warmM hW h13, va_Nw.warmM hW h14, va_Nw.warmM hW h15, va_Nw.warmM hW h16, va_Nw.warmM hW h17, va_Nw.warmM hW h18, va_Nw.warmM hW h19, va_Nw.warmM hW h20, va_Nw.warmM hW h21, va_Nw.warmM hW h22, va_Nw.warmC hW h23, va_Nw.warmC hW h24, va_Nw.warmC hW h25, fun _ h => by cases h⟩
theorem zE.go {T0 tB tE : Nat} {s U : State} (h : zE T0 tB tE s) (hW : s.WarmedH U.vm) (hq : ∀ q, q < s.heap.size → ¬ zA T0 q → U.heap[q]? = s.heap[q]?) : zE T0 tB tE U :=
  ⟨nW_warm hW h.1, (h.2.1.moved hW.alike).kept hq, (h.2.2.1.moved hW.alike).kept hq, (h.2.2.2.1.moved hW.alike).kept hq, ⟨(h.2.2.2.2.1.1.moved hW.alike).kept hq, (h.2.2.2.2.1.2.1.moved hW.alike).kept hq, by
    obtain ⟨k, v, h1, h2⟩ := h.2.2.2.2.1.2.2
    exact ⟨k, v, (h1.moved hW.alike).kept hq, fun i hi => (h2 i hi).warm hW⟩⟩, h.2.2.2.2.2.1.moved hW.alike, h.2.2.2.2.2.2.1.moved hW.alike, h.2.2.2.2.2.2.2.1.moved hW.alike, (h.2.2.2.2.2.2.2.2.moved hW.alike).kept hq⟩
theorem zE.same {T0 tB tE : Nat} {s U : State} (h : zE T0 tB tE s) (h1 : s.vm = U.vm) (h2 : s.heap = U.heap) : zE T0 tB tE U := by
  refine ⟨fun w hw => ?_, ?_, ?_, ?_, ?_, h.2.2.2.2.2.1.moved (by rw [h1]; exact Vm.Alike.refl _), h.2.2.2.2.2.2.1.moved (by rw [h1]; exact Vm.Alike.refl _), h.2.2.2.2.2.2.2.1.moved (by rw [h1]; exact Vm.Alike.refl _), by rw [← h2]; exact h.2.2.2.2.2.2.2.2.moved (by rw [h1]; exact Vm.Alike.refl _)⟩
  · have : w.onTables = true := by
      simp only [nW, List.mem_cons, List.not_mem_nil, or_false] at hw
      rcases hw with rfl | rfl | rfl | rfl | rfl | rfl | rfl | rfl | rfl | rfl | rfl | rfl | rfl | rfl | rfl | rfl | rfl | rfl | rfl | rfl | rfl | rfl | rfl | rfl | rfl | rfl <;> rfl
    exact va_Nw.same this h1 (h.1 w hw)
  · rw [← h2]; exact h.2.1.moved (by rw [h1]; exact Vm.Alike.refl _)
  · rw [← h2]; exact h.2.2.1.moved (by rw [h1]; exact Vm.Alike.refl _)
  · rw [← h2]; exact h.2.2.2.1.moved (by rw [h1]; exact Vm.Alike.refl _)
  · refine ⟨by rw [← h2]; exact h.2.2.2.2.1.1.moved (by rw [h1]; exact Vm.Alike.refl _), by rw [← h2]; exact h.2.2.2.2.1.2.1.moved (by rw [h1]; exact Vm.Alike.refl _), ?_⟩
    obtain ⟨k, v, g1, g2⟩ := h.2.2.2.2.1.2.2
    exact ⟨k, v, by rw [← h2]; exact g1.moved (by rw [h1]; exact Vm.Alike.refl _), fun i hi => (g2 i hi).same h1.symm⟩
def TY (cy : Nat → ClassId) : List (ClassId × FieldType) := [(cy 0, .int), (cy 1, .long), (cy 2, .boolean), (cy 3, .object "LawHoles$Act"), (cy 4, .object "LawHoles$Row"), (cy 5, .object "java/lang/Object")]
/-- a contract's start: the world ws -/
def PU (D : va_G) (cy : Nat → ClassId) (T0 tB tE : Nat) (ws : va_W) (sz : Nat) (U : State) : Prop := U.heap.size = sz ∧ va_P D vwCl ws U.heap ∧ va_K D vwCl (TY cy) U ∧ va_D (zA T0) ws ∧ zE T0 tB tE U ∧ T0 ≤ sz
theorem PU.blind {D : va_G} {cy : Nat → ClassId} {T0 tB tE : Nat} {ws : va_W} {sz : Nat} {As : List Value} : FrameBlind (va_Pc As (PU D cy T0 tB tE ws sz)) := fun a U g mk q => ⟨q.1, q.2.1, q.2.2.1, va_K.moved (u := U) (U := U.calling g mk a) (Vm.Alike.refl U.vm) q.2.2.2.1, q.2.2.2.2.1, q.2.2.2.2.2.1.same rfl rfl, q.2.2.2.2.2.2⟩
def QI (D : va_G) {U : Type} (post : Int32 → U → Prop) (wf : U → va_W) (A : Nat → Prop) : Array Value → State → Outcome → State → Prop := va_Qi post (fun u t => va_P D vwCl (wf u) t.heap ∧ va_D A (wf u)) A
def QL (D : va_G) {U : Type} (post : Int64 → U → Prop) (wf : U → va_W) (A : Nat → Prop) : Array Value → State → Outcome → State → Prop := va_Ql post (fun u t => va_P D vwCl (wf u) t.heap ∧ va_D A (wf u)) A
def QV (D : va_G) {U : Type} (post : U → Prop) (wf : U → va_W) (A : Nat → Prop) : Array Value → State → Outcome → State → Prop := va_Qv post (fun u t => va_P D vwCl (wf u) t.heap ∧ va_D A (wf u)) A
def QQ (D : va_G) {U : Type} (post : Option Nat → U → Prop) (wf : U → va_W) (A : Nat → Prop) : Array Value → State → Outcome → State → Prop := va_Qq post (fun u t => va_P D vwCl (wf u) t.heap ∧ va_D A (wf u)) A
/-- a contract -/
def Ct (l : Launch) (D : va_G) (cy : Nat → ClassId) (T0 tB tE : Nat) (y : MethodName) (b : ByteArray) (n : Nat) (rt : Option FieldType) (fr lo mc ms : Nat) (ws : va_W) (As : List Value) (Qq : (Nat → Prop) → Array Value → State → Outcome → State → Prop) : Prop :=
  ∀ sz, Met l y (wd y b n rt) { frames := fr, cells := mc, slots := ms, locals := lo } (va_Pc As (PU D cy T0 tB tE ws sz)) (Qq (va_A ws sz)) mc ms (va_A ws sz)
/-- the walk: at pc with the world ws, the listed locals, the stack -/
def Z (p : Program) (l : Launch) (e : Env) (R : Room) (s : State) (m : MethodId) (args : Array Value) (below : List Frame) (meth : Method) (c : Code) (D : va_G) (A : Nat → Prop) (nL : Nat) (Q : State → Prop) (nc ns : Nat) (ws : va_W) (lv : List (Nat × Value)) (pc : Nat) (st : List Value) : Prop :=
  ∀ (H : Heap) (locs : List Loc) (ls : Array Slot), va_P D vwCl ws H → va_D A ws → va_S A s.heap H locs → lv_has ls nL lv → W p l e R s m args below meth c H locs nc ns Q (F0 m pc ls st)
/-- what a walk stands on -/
def Bz (p : Program) (R : Room) (s : State) (m : MethodId) (args : Array Value) (meth : Method) (c : Code) (D : va_G) (cy : Nat → ClassId) (T0 tB tE : Nat) (A : Nat → Prop) (nL : Nat) (cc : ByteArray) (own : String) (rt : Option FieldType) (nm : String) (fr lo rc rs : Nat) : Prop :=
  p.tables.exec = Jvm.exec ∧ c.code = cc ∧ c.maxLocals = nL ∧ s.vm.findClass own = some m.cls ∧ (∀ w ∈ gT, w.before args s = true) ∧ va_K D vwCl (TY cy) s ∧ zE T0 tB tE s ∧ meth.locks = false ∧ (∀ q, s.heap.size ≤ q → A q) ∧ (∀ q, A q → T0 ≤ q) ∧ T0 ≤ s.heap.size ∧ meth.sig.returnType = rt ∧ meth.name = nm ∧ R.frames = fr ∧ R.locals = lo ∧ R.cells = rc ∧ R.slots = rs

theorem Ct.ofZ {l : Launch} {D : va_G} {cy : Nat → ClassId} {T0 tB tE : Nat} {y : MethodName} {b : ByteArray} {n : Nat} {rt : Option FieldType} {fr lo mc ms : Nat} {ws : va_W} {As : List Value} {Qq : (Nat → Prop) → Array Value → State → Outcome → State → Prop} (own nm : String) (lv : List (Nat × Value)) (hlv : lv_args 0 As = lv) (hy : plainName y.cls = true) (ho : y.cls = own) (hnm : y.name = nm) (hn : (lg_sl As).length ≤ n)
    (body : ∀ (p : Program) (e : Env) (R : Room) (s : State) (m : MethodId) (args : Array Value) (below : List Frame) (meth : Method) (c : Code) (A : Nat → Prop), Bz p R s m args meth c D cy T0 tB tE A n b own rt nm fr lo mc ms → Z p l e R s m args below meth c D A n (MQ below (Qq A) args s mc ms A) 0 0 ws lv 0 []) : Ct l D cy T0 tB tE y b n rt fr lo mc ms ws As Qq := by
  intro sz
  refine Met.ofW (cc := b) (maxL := n) (ret := rt) hy rfl ?_
  intro p e s m args below meth c s₁ B hml hv
  obtain ⟨rfl, hsz, hP, hK, hD0, hE, hT⟩ := hv
  subst hsz
  have hts := atoms_spec (ws := wd y b n rt) B.pre
  have hD := hD0.self (sz := s.heap.size)
  have hl := lv_entry As (n := n) hn
  rw [lg_entry_eq]
  rw [hlv] at hl
  refine body p e _ s m _ below meth c _ ⟨B.exec, B.bytes, hml, ?_, fun w hw => hts w (List.mem_cons_of_mem _ hw), hK, hE, B.notSynchronized, fun q h => Or.inr h, ?_, hT, B.returns, ?_, rfl, rfl, rfl, rfl⟩ s.heap [] _ hP hD va_S.rf hl
  · rw [← ho]; exact findClass_of_methodNamed B.named
  · rintro q (⟨k, e, h⟩ | h)
    · exact hD0.2 k _ h
    · exact Nat.le_trans hT h
  · rw [← hnm]; exact (name_of_methodNamed B.named B.method).1
