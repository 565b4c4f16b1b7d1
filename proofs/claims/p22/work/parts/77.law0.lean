/-! THE CLAIM OUT OF ONE WALK OF THE LAW'S BODY. Your part is whole_start (and what it stands on); all else here is the same for every law, but numbers. -/
def R_law : String := "LawHolesLaw"
def lw_P (b : Addr) (xs : List Int32) (args : Array Value) (s : State) : Prop := args = #[.ref b] ∧ s.IntsAt b xs ∧ xs.length ≤ 3072 ∧ (Jvm.Cond.and given_1 narrow_1).before args s = true
def lw_Q (_ : Array Value) (s : State) (o : Outcome) (t : State) : Prop := o = .returned (some (.int 1)) ∧ Framed s o t [] 600000 7302250
def lw_Z (below : List Frame) (a : Array Value) (s : State) : State → Prop := fun t => ∃ o, t.status = .running ∧ Ended t below o ∧ lw_Q a s o t
/-- the law's own end, with 1 on the stack, nothing written that was there before, its room as the claim has it -/
theorem lw_ret {p : Program} {l : Launch} {e : Env} {s : State} {m : MethodId} {below : List Frame} {meth : Method} {c : Code} {b : Nat} (hx : p.tables.exec = Jvm.exec) (hb : c.code = code) (hr : meth.sig.returnType = ret) (hlocks : meth.locks = false) {pc : Nat} {H : Heap} {ls : Array Slot} (hdg : decode code pc = .ok (.ireturn, 1)) : W p l e room_1 s m #[Value.ref b] below meth c H [] 600000 7302250 (lw_Z below #[Value.ref b] s) (F0 m pc ls [.int 1]) := by
  intro T hT X
  obtain ⟨fs, hret, hrun, hended, hW, hframe⟩ := X.leave (v := some (.int 1)) (hlocks := hlocks) (fun h => by rw [hr] at h; cases h)
  have hmeth' : T.vm.method? m = some meth := X.method'
  refine ⟨T.setFrames fs, ?_, .returned (some (.int 1)), hrun, hended, rfl, ⟨_, rfl⟩, hW, hframe⟩
  jvm_step X.here [X.here.top, hx, hb, hdg, hmeth', hr, ret, narrow_b1]
  (try refine ⟨rfl, ?_⟩); (try refine ⟨rfl, ?_⟩)
  first | (intro acts; rw [hret _ acts rfl rfl rfl]) | rw [hret _ _ rfl rfl rfl]
  exact Steps.refl _
/-- what holds at the law's entry: the machine, the code, the tables' words (any of lw_tbl by 'hts w (by decide +kernel)'), the script of L ints xs at the cell b, what the Statement gives of the start (any of its parts by flat_of_before) -/
def lw_At (p : Program) (s : State) (m : MethodId) (meth : Method) (c : Code) (b L : Nat) (xs : Nat → Int32) : Prop :=
  p.tables.exec = Jvm.exec ∧ c.code = code ∧ meth.sig.returnType = ret ∧ c.maxLocals = 4 ∧ s.vm.findClass R_law = some m.cls ∧ (∀ w ∈ lw_tbl, w.before #[Value.ref b] s = true) ∧ va_X b L xs s s.heap ∧ b < s.heap.size ∧ meth.locks = false ∧ (Jvm.Cond.and given_1 narrow_1).before #[Value.ref b] s = true

section LW0
variable {p : Program} {l : Launch} {e : Env} {s : State} {m : MethodId} {below : List Frame} {meth : Method} {c : Code} {D : va_G} {cy : Nat → ClassId} {tB tE b : Nat} {a a2 : Nat → Nat} {rw : Nat → Option Nat} {xs : Nat → Int32} {pc j : Nat} {st : List Value} {lv : List (Nat × Value)} {ws : va_W} {nc ns : Nat}
theorem y_sld {L : Nat} {i v : Int32} (B0 : Bz p room_1 s m #[Value.ref b] meth c D cy s.heap.size tB tE (fun q => s.heap.size ≤ q) 4 cL_law RL meth.sig.returnType meth.name 2048 84000 600000 7302250) (hX : va_X b L xs s s.heap) (hbl : b < s.heap.size) (hx : zx i j L) (hv : xs j = v) (d : decode cL_law pc = .ok (.iaload, 1)) (k : Z p l e room_1 s m #[Value.ref b] below meth c D (fun q => s.heap.size ≤ q) 4 (lw_Z below #[Value.ref b] s) nc ns ws lv (pc + 1) (.int v :: st)) : Z p l e room_1 s m #[Value.ref b] below meth c D (fun q => s.heap.size ≤ q) 4 (lw_Z below #[Value.ref b] s) nc ns ws lv pc (.int i :: .ref b :: st) := fun H locs ls h1 h2 h3 h4 => va_sld B0.x1 B0.c1 hX hbl (Nat.not_le.mpr hbl) h3 hx.ok d (by rw [hx.1, hv]; exact k H locs ls h1 h2 h3 h4)
theorem y_slen {L : Nat} {v : Int32} (B0 : Bz p room_1 s m #[Value.ref b] meth c D cy s.heap.size tB tE (fun q => s.heap.size ≤ q) 4 cL_law RL meth.sig.returnType meth.name 2048 84000 600000 7302250) (hX : va_X b L xs s s.heap) (hbl : b < s.heap.size) (hv : Int32.ofNat L = v) (d : decode cL_law pc = .ok (.arraylength, 1)) (k : Z p l e room_1 s m #[Value.ref b] below meth c D (fun q => s.heap.size ≤ q) 4 (lw_Z below #[Value.ref b] s) nc ns ws lv (pc + 1) (.int v :: st)) : Z p l e room_1 s m #[Value.ref b] below meth c D (fun q => s.heap.size ≤ q) 4 (lw_Z below #[Value.ref b] s) nc ns ws lv pc (.ref b :: st) := fun H locs ls h1 h2 h3 h4 => va_slen B0.x1 B0.c1 hX hbl (Nat.not_le.mpr hbl) h3 d (by rw [hv]; exact k H locs ls h1 h2 h3 h4)
theorem z_lend (B0 : Bz p room_1 s m #[Value.ref b] meth c D cy s.heap.size tB tE (fun q => s.heap.size ≤ q) 4 cL_law RL meth.sig.returnType meth.name 2048 84000 600000 7302250) (hr : meth.sig.returnType = ret) (g1 : nc ≤ 600000) (g2 : ns ≤ 7302250) (d : decode cL_law pc = .ok (.ireturn, 1)) : Z p l e room_1 s m #[Value.ref b] below meth c D (fun q => s.heap.size ≤ q) 4 (lw_Z below #[Value.ref b] s) nc ns ws lv pc [.int 1] := by
  intro H locs ls h1 h2 h3 h4
  refine va_forget (fun q hq => h3.2.2 q hq) ?_
  refine W.widen g1 g2 ?_
  exact lw_ret B0.x1 B0.c1 hr B0.lk1 d
theorem z_callL {U : Type} {post : Int32 → U → Prop} {wf : U → va_W} {wc wr : va_W} {mc ms : Nat} {st0 : List Value} {a9 : Array Value} (B0 : Bz p room_1 s m #[Value.ref b] meth c D cy s.heap.size tB tE (fun q => s.heap.size ≤ q) 4 cL_law RL meth.sig.returnType meth.name 2048 84000 600000 7302250) (hr : ∀ (H : Heap) (locs : List Loc) (ls : Array Slot), va_P D vwCl wc H → va_D (fun q => s.heap.size ≤ q) wc → va_S (fun q => s.heap.size ≤ q) s.heap H locs → lv_has ls 4 lv → va_Run p l e room_1 s m #[Value.ref b] below meth c H locs nc ns mc ms (F0 m pc ls st0) st (QI D post wf (va_A wc H.size) a9) (va_A wc H.size)) (k : ∀ (r : Int32) (u : U), post r u → Z p l e room_1 s m #[Value.ref b] below meth c D (fun q => s.heap.size ≤ q) 4 (lw_Z below #[Value.ref b] s) (nc + mc) (ns + ms) (wr ++ wf u) lv (pc + 3) (.int r :: st)) : Z p l e room_1 s m #[Value.ref b] below meth c D (fun q => s.heap.size ≤ q) 4 (lw_Z below #[Value.ref b] s) nc ns (wc ++ wr) lv pc st0 :=
  z_calliF (List.range' 0 wc.length) (List.range' wc.length wr.length) B0 (ap_C wc wr) (nd_from _ _) (ap_R wc wr) (nd_from _ _) (ap_d wc wr) hr k
end LW0

