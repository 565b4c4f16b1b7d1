def IyC (ia ip iq : Nat) (op oq : Option Nat) (t : Nat) : Prop := t = ia ∨ t = ip ∨ t = iq ∨ op = some t ∨ oq = some t
def YD (A : Nat → Prop) (i0 i1 i2 : Nat) (o0 o1 o2 : Option Nat) (ia ip iq : Nat) (op oq : Option Nat) : Prop := (ia ≠ ip ∧ ia ≠ iq ∧ ip ≠ iq) ∧ (∀ t, op = some t → t ≠ ia ∧ t ≠ ip ∧ t ≠ iq ∧ oq ≠ some t) ∧ (∀ t, oq = some t → t ≠ ia ∧ t ≠ ip ∧ t ≠ iq ∧ op ≠ some t) ∧ (∀ t, IyC ia ip iq op oq t → ¬ A t ∧ ¬ IxC i0 i1 i2 o0 o1 o2 t)
/-- the open Act: its cell at ia, its lists' cells at ip, iq -/
def YX (cy : Nat → ClassId) (tE : Nat) (L : va_W) (A : Nat → Prop) (i0 i1 i2 : Nat) (o0 o1 o2 : Option Nat) (ac ia ip iq : Nat) (op oq : Option Nat) (np nq : Int32) (fp fq : Nat → Option Nat) (z : Int64) (pa qa : Nat) (u v : Int32) : Prop := L[ia]? = some (acC ac z (.ref pa) (.ref qa) u v) ∧ (LLs cy tE L pa ip op np fp ∧ LLs cy tE L qa iq oq nq fq) ∧ (np.toInt ≤ 4 ∧ nq.toInt ≤ 6) ∧ ((∀ t : Nat, (t : Int) < np.toInt → ∃ x, fp t = some x ∧ CLp cy A L x) ∧ (∀ t : Nat, (t : Int) < nq.toInt → ∃ x, fq t = some x ∧ CLp cy A L x)) ∧ YD A i0 i1 i2 o0 o1 o2 ia ip iq op oq
theorem YX_lt {cy : Nat → ClassId} {tE : Nat} {L : va_W} {A : Nat → Prop} {i0 i1 i2 : Nat} {o0 o1 o2 : Option Nat} {ac ia ip iq : Nat} {op oq : Option Nat} {np nq : Int32} {fp fq : Nat → Option Nat} {z : Int64} {pa qa : Nat} {u v : Int32} (h : YX cy tE L A i0 i1 i2 o0 o1 o2 ac ia ip iq op oq np nq fp fq z pa qa u v) : ∀ t, IyC ia ip iq op oq t → t < L.length := by
  obtain ⟨ha, ⟨l0, l1⟩, -⟩ := h
  intro t ht
  rcases ht with rfl | rfl | rfl | g | g
  · exact wl_lt ha
  · exact (LLs_lt l0).1
  · exact (LLs_lt l1).1
  · exact (LLs_lt l0).2 t g
  · exact (LLs_lt l1).2 t g
/-- two more cells: a clause -/
theorem YX_clause {cy : Nat → ClassId} {tE : Nat} {S : KS} {A : Nat → Prop} {i0 i1 i2 : Nat} {o0 o1 o2 : Option Nat} {n0 n1 n2 : Int32} {f0 f1 f2 : Nat → Option Nat} {ac ia ip iq : Nat} {op oq : Option Nat} {np nq : Int32} {fp fq : Nat → Option Nat} {z : Int64} {pa qa : Nat} {u v : Int32} {x o n : Nat} {k f : Int32} {g : Nat → Int32} (h : HX cy tE S A i0 i1 i2 o0 o1 o2 n0 n1 n2 f0 f1 f2) (y : YX cy tE S.2.2.2 A i0 i1 i2 o0 o1 o2 ac ia ip iq op oq np nq fp fq z pa qa u v) (hn : n ≤ 700) {L' : va_W} (eL : L' = vn (vn S.2.2.2 (x, .inr (2, [.int k, .int f, .ref o]))) (o, .inl (cy 0, n, .inl g))) : ∃ B : Nat → Prop, HX cy tE (ksL S L') B i0 i1 i2 o0 o1 o2 n0 n1 n2 f0 f1 f2 ∧ YX cy tE L' B i0 i1 i2 o0 o1 o2 ac ia ip iq op oq np nq fp fq z pa qa u v ∧ CLp cy B L' x := by
  have hlt := HX_lt h
  have ylt := YX_lt y
  have ln : L'.length = S.2.2.2.length + 2 := by rw [eL, vn_ln, vn_ln]
  have lk : ∀ t, t < S.2.2.2.length → L'[t]? = S.2.2.2[t]? := by
    intro t ht
    rw [eL, vn_lt (by rw [vn_ln]; omega), vn_lt ht]
  have k0 : L'[S.2.2.2.length]? = some (x, .inr (2, [.int k, .int f, .ref o])) := by
    rw [eL, vn_lt (by rw [vn_ln]; omega)]; exact vn_at _ _
  have k1 : L'[S.2.2.2.length + 1]? = some (o, .inl (cy 0, n, .inl g)) := by
    rw [eL, ← vn_ln S.2.2.2 (x, .inr (2, [.int k, .int f, .ref o]))]; exact vn_at _ _
  have hA := h.2.2.2.2.2.2.2.1
  refine ⟨fun t => A t ∨ t = S.2.2.2.length ∨ t = S.2.2.2.length + 1, HX_mo h ?_ (fun t ht => Or.inl ht) ?_, ?_, ?_⟩
  · rintro t (ht | ht)
    · exact lk t (hA t ht).1
    · exact lk t (hlt t ht)
  · rintro t (ht | ht | ht)
    · exact ⟨by rw [ln]; have := (hA t ht).1; omega, (hA t ht).2⟩
    · exact ⟨by omega, fun g => by have := hlt t g; omega⟩
    · exact ⟨by omega, fun g => by have := hlt t g; omega⟩
  · obtain ⟨ha, ⟨l0, l1⟩, hb, ⟨e0, e1⟩, d1, d2, d3, d4⟩ := y
    have kA : ∀ t, A t → (A t ∨ t = S.2.2.2.length ∨ t = S.2.2.2.length + 1) ∧ L'[t]? = S.2.2.2[t]? := fun t ht => ⟨Or.inl ht, lk t (hA t ht).1⟩
    refine ⟨(lk _ (wl_lt ha)).trans ha, ⟨LLs_mo l0 (lk _ (LLs_lt l0).1) (fun j hj => lk _ ((LLs_lt l0).2 j hj)), LLs_mo l1 (lk _ (LLs_lt l1).1) (fun j hj => lk _ ((LLs_lt l1).2 j hj))⟩, hb, ⟨?_, ?_⟩, d1, d2, d3, ?_⟩
    · intro t ht
      obtain ⟨w, hw, hc⟩ := e0 t ht
      exact ⟨w, hw, CLp_mo kA hc⟩
    · intro t ht
      obtain ⟨w, hw, hc⟩ := e1 t ht
      exact ⟨w, hw, CLp_mo kA hc⟩
    · intro t ht
      have h1 := ylt t ht
      refine ⟨?_, (d4 t ht).2⟩
      rintro (g | g | g)
      · exact (d4 t ht).1 g
      · omega
      · omega
  · exact ⟨S.2.2.2.length, k, f, o, Or.inr (Or.inl rfl), k0, S.2.2.2.length + 1, n, g, Or.inr (Or.inr rfl), k1, hn⟩
theorem YX_need {cy : Nat → ClassId} {tE : Nat} {S : KS} {A : Nat → Prop} {i0 i1 i2 : Nat} {o0 o1 o2 : Option Nat} {n0 n1 n2 : Int32} {f0 f1 f2 : Nat → Option Nat} {ac ia ip iq : Nat} {op oq : Option Nat} {np nq : Int32} {fp fq : Nat → Option Nat} {z : Int64} {pa qa : Nat} {u v : Int32} {L' : va_W} {o_ : Option Nat} {f_ : Nat → Option Nat} {x : Nat} (h : HX cy tE S A i0 i1 i2 o0 o1 o2 n0 n1 n2 f0 f1 f2) (y : YX cy tE S.2.2.2 A i0 i1 i2 o0 o1 o2 ac ia ip iq op oq np nq fp fq z pa qa u v) (hl : LLs cy tE L' pa ip o_ (np + 1) f_) (hn : S.2.2.2.length ≤ L'.length) (hk : ∀ t : Nat, t < S.2.2.2.length → t ≠ ip → op ≠ some t → L'[t]? = S.2.2.2[t]?) (ho : o_ = op ∨ (op = none ∧ o_ = some S.2.2.2.length)) (hf : f_ np.toNatClampNeg = some x) (hg : ∀ t : Nat, (t : Int) < np.toInt → f_ t = fp t) (hx : CLp cy A S.2.2.2 x) (hm : np.toInt + 1 ≤ 4) : HX cy tE (ksL S L') A i0 i1 i2 o0 o1 o2 n0 n1 n2 f0 f1 f2 ∧ YX cy tE L' A i0 i1 i2 o0 o1 o2 ac ia ip iq o_ oq (np + 1) nq f_ fq z pa qa u v := by
  have hlt := HX_lt h
  have ylt := YX_lt y
  have hA := h.2.2.2.2.2.2.2.1
  obtain ⟨ha, ⟨l0, l1⟩, hb, ⟨e0, e1⟩, d1, d2, d3, d4⟩ := y
  have z0 := LLs_lt l0
  have z1 := LLs_lt l1
  have bp := LLs_b l0
  have en : (np + 1).toInt = np.toInt + 1 := inc1 (by omega)
  have yI : ∀ t, t = ip → IyC ia ip iq op oq t := fun t g => Or.inr (Or.inl g)
  have yO : ∀ t, op = some t → IyC ia ip iq op oq t := fun t g => Or.inr (Or.inr (Or.inr (Or.inl g)))
  have kA : ∀ t, A t → A t ∧ L'[t]? = S.2.2.2[t]? := fun t ht => ⟨ht, hk t (hA t ht).1 (fun g => (d4 t (yI t g)).1 ht) (fun g => (d4 t (yO t g)).1 ht)⟩
  have kI : ∀ t, IxC i0 i1 i2 o0 o1 o2 t → L'[t]? = S.2.2.2[t]? := fun t ht => hk t (hlt t ht) (fun g => (d4 t (yI t g)).2 ht) (fun g => (d4 t (yO t g)).2 ht)
  have m1 : LLs cy tE L' qa iq oq nq fq := LLs_mo l1 (hk iq z1.1 (fun g => d1.2.2 g.symm) (fun g => (d2 iq g).2.2.1 rfl)) (fun j hj => hk j (z1.2 j hj) (d3 j hj).2.1 (d3 j hj).2.2.2)
  have q1 : ∀ t, t < S.2.2.2.length → o_ = some t → op = some t := by
    intro t ht g
    rcases ho with rfl | ⟨_, hz⟩
    · exact g
    · rw [hz] at g; cases g; exact absurd ht (Nat.lt_irrefl _)
  have q2 : ∀ t, o_ = some t → op = some t ∨ t = S.2.2.2.length := by
    intro t g
    rcases ho with rfl | ⟨_, hz⟩
    · exact Or.inl g
    · rw [hz] at g; cases g; exact Or.inr rfl
  have la : ia < S.2.2.2.length := wl_lt ha
  refine ⟨HX_mo h (fun t ht => ht.elim (fun g => (kA t g).2) (kI t)) (fun t ht => ht) (fun t ht => ⟨Nat.lt_of_lt_of_le (hA t ht).1 hn, (hA t ht).2⟩), ?_⟩
  refine ⟨(hk ia la d1.1 (fun g => (d2 ia g).1 rfl)).trans ha, ⟨hl, m1⟩, ⟨by rw [en]; omega, hb.2⟩, ⟨?_, ?_⟩, d1, ?_, ?_, ?_⟩
  · intro t ht
    rw [en] at ht
    by_cases hc_1 : (t : Int) < np.toInt
    · obtain ⟨w, hw, hc⟩ := e0 t hc_1
      exact ⟨w, (hg t hc_1).trans hw, CLp_mo kA hc⟩
    · have et : t = np.toNatClampNeg := by rw [tnc]; omega
      rw [et]
      exact ⟨x, hf, CLp_mo kA hx⟩
  · intro t ht
    obtain ⟨w, hw, hc⟩ := e1 t ht
    exact ⟨w, hw, CLp_mo kA hc⟩
  · intro t ht
    rcases q2 t ht with g | g
    · exact d2 t g
    · rw [g]
      have := z0.1
      have := z1.1
      exact ⟨by omega, by omega, by omega, fun g => Nat.lt_irrefl _ (z1.2 _ g)⟩
  · intro t ht
    exact ⟨(d3 t ht).1, (d3 t ht).2.1, (d3 t ht).2.2.1, fun g => (d3 t ht).2.2.2 (q1 t (z1.2 t ht) g)⟩
  · intro t ht
    by_cases hc : t < S.2.2.2.length
    · refine d4 t ?_
      rcases ht with g | g | g | g | g
      · exact Or.inl g
      · exact Or.inr (Or.inl g)
      · exact Or.inr (Or.inr (Or.inl g))
      · exact Or.inr (Or.inr (Or.inr (Or.inl (q1 t hc g))))
      · exact Or.inr (Or.inr (Or.inr (Or.inr g)))
    · exact ⟨fun g => hc (hA t g).1, fun g => hc (hlt t g)⟩
theorem YX_make {cy : Nat → ClassId} {tE : Nat} {S : KS} {A : Nat → Prop} {i0 i1 i2 : Nat} {o0 o1 o2 : Option Nat} {n0 n1 n2 : Int32} {f0 f1 f2 : Nat → Option Nat} {ac ia ip iq : Nat} {op oq : Option Nat} {np nq : Int32} {fp fq : Nat → Option Nat} {z : Int64} {pa qa : Nat} {u v : Int32} {L' : va_W} {o_ : Option Nat} {f_ : Nat → Option Nat} {x : Nat} (h : HX cy tE S A i0 i1 i2 o0 o1 o2 n0 n1 n2 f0 f1 f2) (y : YX cy tE S.2.2.2 A i0 i1 i2 o0 o1 o2 ac ia ip iq op oq np nq fp fq z pa qa u v) (hl : LLs cy tE L' qa iq o_ (nq + 1) f_) (hn : S.2.2.2.length ≤ L'.length) (hk : ∀ t : Nat, t < S.2.2.2.length → t ≠ iq → oq ≠ some t → L'[t]? = S.2.2.2[t]?) (ho : o_ = oq ∨ (oq = none ∧ o_ = some S.2.2.2.length)) (hf : f_ nq.toNatClampNeg = some x) (hg : ∀ t : Nat, (t : Int) < nq.toInt → f_ t = fq t) (hx : CLp cy A S.2.2.2 x) (hm : nq.toInt + 1 ≤ 6) : HX cy tE (ksL S L') A i0 i1 i2 o0 o1 o2 n0 n1 n2 f0 f1 f2 ∧ YX cy tE L' A i0 i1 i2 o0 o1 o2 ac ia ip iq op o_ np (nq + 1) fp f_ z pa qa u v := by
  have hlt := HX_lt h
  have ylt := YX_lt y
  have hA := h.2.2.2.2.2.2.2.1
  obtain ⟨ha, ⟨l0, l1⟩, hb, ⟨e0, e1⟩, d1, d2, d3, d4⟩ := y
  have z0 := LLs_lt l0
  have z1 := LLs_lt l1
  have bp := LLs_b l1
  have en : (nq + 1).toInt = nq.toInt + 1 := inc1 (by omega)
  have yI : ∀ t, t = iq → IyC ia ip iq op oq t := fun t g => Or.inr (Or.inr (Or.inl g))
  have yO : ∀ t, oq = some t → IyC ia ip iq op oq t := fun t g => Or.inr (Or.inr (Or.inr (Or.inr g)))
  have kA : ∀ t, A t → A t ∧ L'[t]? = S.2.2.2[t]? := fun t ht => ⟨ht, hk t (hA t ht).1 (fun g => (d4 t (yI t g)).1 ht) (fun g => (d4 t (yO t g)).1 ht)⟩
  have kI : ∀ t, IxC i0 i1 i2 o0 o1 o2 t → L'[t]? = S.2.2.2[t]? := fun t ht => hk t (hlt t ht) (fun g => (d4 t (yI t g)).2 ht) (fun g => (d4 t (yO t g)).2 ht)
  have m1 : LLs cy tE L' pa ip op np fp := LLs_mo l0 (hk ip z0.1 d1.2.2 (fun g => (d3 ip g).2.1 rfl)) (fun j hj => hk j (z0.2 j hj) (d2 j hj).2.2.1 (d2 j hj).2.2.2)
  have q1 : ∀ t, t < S.2.2.2.length → o_ = some t → oq = some t := by
    intro t ht g
    rcases ho with rfl | ⟨_, hz⟩
    · exact g
    · rw [hz] at g; cases g; exact absurd ht (Nat.lt_irrefl _)
  have q2 : ∀ t, o_ = some t → oq = some t ∨ t = S.2.2.2.length := by
    intro t g
    rcases ho with rfl | ⟨_, hz⟩
    · exact Or.inl g
    · rw [hz] at g; cases g; exact Or.inr rfl
  have la : ia < S.2.2.2.length := wl_lt ha
  refine ⟨HX_mo h (fun t ht => ht.elim (fun g => (kA t g).2) (kI t)) (fun t ht => ht) (fun t ht => ⟨Nat.lt_of_lt_of_le (hA t ht).1 hn, (hA t ht).2⟩), ?_⟩
  refine ⟨(hk ia la d1.2.1 (fun g => (d3 ia g).1 rfl)).trans ha, ⟨m1, hl⟩, ⟨hb.1, by rw [en]; omega⟩, ⟨?_, ?_⟩, d1, ?_, ?_, ?_⟩
  · intro t ht
    obtain ⟨w, hw, hc⟩ := e0 t ht
    exact ⟨w, hw, CLp_mo kA hc⟩
  · intro t ht
    rw [en] at ht
    by_cases hc_1 : (t : Int) < nq.toInt
    · obtain ⟨w, hw, hc⟩ := e1 t hc_1
      exact ⟨w, (hg t hc_1).trans hw, CLp_mo kA hc⟩
    · have et : t = nq.toNatClampNeg := by rw [tnc]; omega
      rw [et]
      exact ⟨x, hf, CLp_mo kA hx⟩
  · intro t ht
    exact ⟨(d2 t ht).1, (d2 t ht).2.1, (d2 t ht).2.2.1, fun g => (d2 t ht).2.2.2 (q1 t (z0.2 t ht) g)⟩
  · intro t ht
    rcases q2 t ht with g | g
    · exact d3 t g
    · rw [g]
      have := z0.1
      have := z1.1
      exact ⟨by omega, by omega, by omega, fun g => Nat.lt_irrefl _ (z0.2 _ g)⟩
  · intro t ht
    by_cases hc : t < S.2.2.2.length
    · refine d4 t ?_
      rcases ht with g | g | g | g | g
      · exact Or.inl g
      · exact Or.inr (Or.inl g)
      · exact Or.inr (Or.inr (Or.inl g))
      · exact Or.inr (Or.inr (Or.inr (Or.inl g)))
      · exact Or.inr (Or.inr (Or.inr (Or.inr (q1 t hc g))))
    · exact ⟨fun g => hc (hA t g).1, fun g => hc (hlt t g)⟩
theorem YX_done {cy : Nat → ClassId} {tE : Nat} {S : KS} {A : Nat → Prop} {i0 i1 i2 : Nat} {o0 o1 o2 : Option Nat} {n0 n1 n2 : Int32} {f0 f1 f2 : Nat → Option Nat} {ac ia ip iq : Nat} {op oq : Option Nat} {np nq : Int32} {fp fq : Nat → Option Nat} {z : Int64} {pa qa : Nat} {u v : Int32} {L' : va_W} {u' v' : Int32} (h : HX cy tE S A i0 i1 i2 o0 o1 o2 n0 n1 n2 f0 f1 f2) (y : YX cy tE S.2.2.2 A i0 i1 i2 o0 o1 o2 ac ia ip iq op oq np nq fp fq z pa qa u v) (eL : L' = S.2.2.2.set ia (acC ac z (.ref pa) (.ref qa) u' v')) : ∃ B : Nat → Prop, HX cy tE (ksL S L') B i0 i1 i2 o0 o1 o2 n0 n1 n2 f0 f1 f2 ∧ ACp cy B L' ac := by
  have hlt := HX_lt h
  have ylt := YX_lt y
  have hA := h.2.2.2.2.2.2.2.1
  obtain ⟨ha, ⟨l0, l1⟩, hb, ⟨e0, e1⟩, d1, d2, d3, d4⟩ := y
  have ln : L'.length = S.2.2.2.length := by rw [eL, List.length_set]
  have lk : ∀ t, t ≠ ia → L'[t]? = S.2.2.2[t]? := fun t ht => by rw [eL, st_ne (fun g => ht g.symm)]
  have la : L'[ia]? = some (acC ac z (.ref pa) (.ref qa) u' v') := by rw [eL]; exact st_at ha
  have nA : ∀ t, A t → t ≠ ia := fun t ht g => (d4 t (Or.inl g)).1 ht
  have nI : ∀ t, IxC i0 i1 i2 o0 o1 o2 t → t ≠ ia := fun t ht g => (d4 t (Or.inl g)).2 ht
  have kA : ∀ t, A t → (A t ∨ IyC ia ip iq op oq t) ∧ L'[t]? = S.2.2.2[t]? := fun t ht => ⟨Or.inl ht, lk t (nA t ht)⟩
  refine ⟨fun t => A t ∨ IyC ia ip iq op oq t, HX_mo h (fun t ht => ht.elim (fun g => lk t (nA t g)) (fun g => lk t (nI t g))) (fun t ht => Or.inl ht) ?_, ?_⟩
  · rintro t (ht | ht)
    · exact ⟨by rw [ln]; exact (hA t ht).1, (hA t ht).2⟩
    · exact ⟨by rw [ln]; exact ylt t ht, (d4 t ht).2⟩
  · have m0 : LLs cy tE L' pa ip op np fp := LLs_mo l0 (lk ip (fun g => d1.1 g.symm)) (fun j hj => lk j (d2 j hj).1)
    have m1 : LLs cy tE L' qa iq oq nq fq := LLs_mo l1 (lk iq (fun g => d1.2.1 g.symm)) (fun j hj => lk j (d3 j hj).1)
    refine ⟨ia, z, pa, qa, u', v', Or.inr (Or.inl rfl), la, ?_, ?_⟩
    · exact LLs_LSp m0 (Or.inr (Or.inr (Or.inl rfl))) (fun j hj => Or.inr (Or.inr (Or.inr (Or.inr (Or.inl hj))))) (fun t ht => by
        obtain ⟨w, hw, hc⟩ := e0 t ht
        exact ⟨w, hw, CLp_mo kA hc⟩)
    · exact LLs_LSp m1 (Or.inr (Or.inr (Or.inr (Or.inl rfl)))) (fun j hj => Or.inr (Or.inr (Or.inr (Or.inr (Or.inr hj))))) (fun t ht => by
        obtain ⟨w, hw, hc⟩ := e1 t ht
        exact ⟨w, hw, CLp_mo kA hc⟩)
