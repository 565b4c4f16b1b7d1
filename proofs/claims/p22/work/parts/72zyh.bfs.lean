/-- a STATE that was MET, and with how many ACTS -/
abbrev BE : Type := SV × Nat
abbrev BS : Type := List BE × Bool
def isM (L : List BE) (g : SV) : Bool := L.any (fun e => decide (pkI e.1 = pkI g))
def bsM (L : BS) (g : SV) (d : Nat) : BS := if isM L.1 g = true then L else if 400 ≤ L.1.length then (L.1, true) else (L.1 ++ [(g, d)], L.2)
/-- all CODES of a STATE -/
def bsC (cu : List CuT) (ac : Nat → Option AcT) (laws set : Int32) (g : SV) (d : Nat) : List Int32 → BS → BS
  | [], L => L
  | c :: r, L => if L.2 = true then L else if (wyO cu g c set (actO ac c laws)).1.toInt = -1 then bsC cu ac laws set g d r (bsM L (wyO cu g c set (actO ac c laws)).2 d) else bsC cu ac laws set g d r L
def bsG (cu : List CuT) (ac : Nat → Option AcT) (laws set : Int32) (cs : List Int32) (mo : Int) (i : Nat) (L : BS) : BS := match L.1[i]? with
  | none => L
  | some e => if L.2 = true ∨ mo ≤ (e.2 : Int) then L else bsC cu ac laws set e.1 (e.2 + 1) cs L
/-- the SEARCH, when the first n have been done -/
def bsN (cu : List CuT) (ac : Nat → Option AcT) (laws set : Int32) (cs : List Int32) (mo : Int) (g : SV) : Nat → BS
  | 0 => ([(g, 0)], false)
  | n + 1 => bsG cu ac laws set cs mo n (bsN cu ac laws set cs mo g n)
theorem isM_y {L : List BE} {g : SV} : isM L g = true ↔ ∃ e ∈ L, pkI e.1 = pkI g := by
  unfold isM
  rw [List.any_eq_true]
  refine ⟨fun ⟨e, h1, h2⟩ => ⟨e, h1, of_decide_eq_true h2⟩, fun ⟨e, h1, h2⟩ => ⟨e, h1, decide_eq_true h2⟩⟩
theorem bsM_y {L : BS} {g : SV} {d : Nat} (h : ∃ e ∈ L.1, pkI e.1 = pkI g) : bsM L g d = L := if_pos (isM_y.mpr h)
theorem bsM_s {L : BS} {g : SV} {d : Nat} (h : ¬ ∃ e ∈ L.1, pkI e.1 = pkI g) (h4 : 400 ≤ L.1.length) : bsM L g d = (L.1, true) := by
  unfold bsM
  rw [if_neg (fun z => h (isM_y.mp z)), if_pos h4]
theorem bsM_a {L : BS} {g : SV} {d : Nat} (h : ¬ ∃ e ∈ L.1, pkI e.1 = pkI g) (h4 : L.1.length < 400) : bsM L g d = (L.1 ++ [(g, d)], L.2) := by
  unfold bsM
  rw [if_neg (fun z => h (isM_y.mp z)), if_neg (by omega)]
section
variable {cu : List CuT} {ac : Nat → Option AcT} {laws set : Int32} {cs : List Int32} {mo : Int}
theorem bsC_t {g : SV} {d : Nat} {r : List Int32} {L : BS} (h : L.2 = true) : bsC cu ac laws set g d r L = L := by
  cases r with
  | nil => rfl
  | cons c r => exact if_pos h
theorem bsC_y {g : SV} {d : Nat} {c : Int32} {r : List Int32} {L : BS} (h : L.2 = false) (h2 : (wyO cu g c set (actO ac c laws)).1.toInt = -1) : bsC cu ac laws set g d (c :: r) L = bsC cu ac laws set g d r (bsM L (wyO cu g c set (actO ac c laws)).2 d) := by
  show (if L.2 = true then L else _) = _
  rw [if_neg (by rw [h]; decide), if_pos h2]
theorem bsC_n {g : SV} {d : Nat} {c : Int32} {r : List Int32} {L : BS} (h2 : (wyO cu g c set (actO ac c laws)).1.toInt ≠ -1) : bsC cu ac laws set g d (c :: r) L = bsC cu ac laws set g d r L := by
  by_cases h : L.2 = true
  · rw [bsC_t h, bsC_t h]
  · show (if L.2 = true then L else _) = _
    rw [if_neg h, if_neg h2]
/-- CODES that are none change nothing -/
theorem bsC_f {g : SV} {d : Nat} {p : Int32 → Bool} (hp : ∀ c, p c = false → (wyO cu g c set (actO ac c laws)).1.toInt ≠ -1) : ∀ {r : List Int32} {L : BS}, bsC cu ac laws set g d (r.filter p) L = bsC cu ac laws set g d r L
  | [], _ => rfl
  | c :: r, L => by
    by_cases h : p c = true
    · rw [List.filter_cons_of_pos h]
      by_cases t : L.2 = true
      · rw [bsC_t t, bsC_t t]
      · have t2 : L.2 = false := by
          cases hh : L.2 with
          | true => exact absurd hh t
          | false => rfl
        by_cases q : (wyO cu g c set (actO ac c laws)).1.toInt = -1
        · rw [bsC_y t2 q, bsC_y t2 q]; exact bsC_f hp
        · rw [bsC_n q, bsC_n q]; exact bsC_f hp
    · have h2 : p c = false := by
        cases hh : p c with
        | true => exact absurd hh h
        | false => rfl
      rw [List.filter_cons_of_neg h, bsC_n (hp c h2)]
      exact bsC_f hp
theorem bsG_0 {i : Nat} {L : BS} (h : L.1[i]? = none) : bsG cu ac laws set cs mo i L = L := by
  unfold bsG; rw [h]
theorem bsG_n {i : Nat} {L : BS} {e : BE} (h : L.1[i]? = some e) (h2 : L.2 = true ∨ mo ≤ (e.2 : Int)) : bsG cu ac laws set cs mo i L = L := by
  unfold bsG; rw [h]; exact if_pos h2
theorem bsG_y {i : Nat} {L : BS} {e : BE} (h : L.1[i]? = some e) (h2 : ¬ (L.2 = true ∨ mo ≤ (e.2 : Int))) : bsG cu ac laws set cs mo i L = bsC cu ac laws set e.1 (e.2 + 1) cs L := by
  unfold bsG; rw [h]; exact if_neg h2
/-- what holds of each that is met -/
theorem bsM_P {P : BE → Prop} {L : BS} {g : SV} {d : Nat} (h : (∀ e ∈ L.1, P e) ∧ L.1.length ≤ 400) (h2 : P (g, d)) : (∀ e ∈ (bsM L g d).1, P e) ∧ (bsM L g d).1.length ≤ 400 := by
  by_cases q : ∃ e ∈ L.1, pkI e.1 = pkI g
  · rw [bsM_y q]; exact h
  by_cases q4 : 400 ≤ L.1.length
  · rw [bsM_s q q4]; exact h
  · rw [bsM_a q (by omega)]
    refine ⟨fun e he => ?_, ?_⟩
    · rcases List.mem_append.mp he with z | z
      · exact h.1 e z
      · rw [List.mem_singleton.mp z]; exact h2
    · simp only [List.length_append, List.length_cons, List.length_nil]
      omega
theorem bsM_p {L : BS} {g : SV} {d : Nat} : ∃ t, (bsM L g d).1 = L.1 ++ t := by
  by_cases q : ∃ e ∈ L.1, pkI e.1 = pkI g
  · rw [bsM_y q]; exact ⟨[], (List.append_nil _).symm⟩
  by_cases q4 : 400 ≤ L.1.length
  · rw [bsM_s q q4]; exact ⟨[], (List.append_nil _).symm⟩
  · rw [bsM_a q (by omega)]; exact ⟨_, rfl⟩
theorem bsC_P {P : BE → Prop} {g : SV} {d : Nat} (hst : ∀ c, (wyO cu g c set (actO ac c laws)).1.toInt = -1 → P ((wyO cu g c set (actO ac c laws)).2, d)) : ∀ {r : List Int32} {L : BS}, ((∀ e ∈ L.1, P e) ∧ L.1.length ≤ 400) → (∀ e ∈ (bsC cu ac laws set g d r L).1, P e) ∧ (bsC cu ac laws set g d r L).1.length ≤ 400
  | [], _, h => h
  | c :: r, L, h => by
    by_cases t : L.2 = true
    · rw [bsC_t t]; exact h
    · have t2 : L.2 = false := by
        cases hh : L.2 with
        | true => exact absurd hh t
        | false => rfl
      by_cases q : (wyO cu g c set (actO ac c laws)).1.toInt = -1
      · rw [bsC_y t2 q]; exact bsC_P hst (bsM_P h (hst c q))
      · rw [bsC_n q]; exact bsC_P hst h
theorem bsC_p {g : SV} {d : Nat} : ∀ {r : List Int32} {L : BS}, ∃ t, (bsC cu ac laws set g d r L).1 = L.1 ++ t
  | [], _ => ⟨[], (List.append_nil _).symm⟩
  | c :: r, L => by
    by_cases t : L.2 = true
    · rw [bsC_t t]; exact ⟨[], (List.append_nil _).symm⟩
    · have t2 : L.2 = false := by
        cases hh : L.2 with
        | true => exact absurd hh t
        | false => rfl
      by_cases q : (wyO cu g c set (actO ac c laws)).1.toInt = -1
      · rw [bsC_y t2 q]
        obtain ⟨t1, h1⟩ := bsC_p (g := g) (d := d) (r := r) (L := bsM L (wyO cu g c set (actO ac c laws)).2 d)
        obtain ⟨t3, h3⟩ := bsM_p (L := L) (g := (wyO cu g c set (actO ac c laws)).2) (d := d)
        exact ⟨t3 ++ t1, by rw [h1, h3, List.append_assoc]⟩
      · rw [bsC_n q]; exact bsC_p
theorem bsG_p {i : Nat} {L : BS} : ∃ t, (bsG cu ac laws set cs mo i L).1 = L.1 ++ t := by
  cases h : L.1[i]? with
  | none => rw [bsG_0 h]; exact ⟨[], (List.append_nil _).symm⟩
  | some e =>
    by_cases q : L.2 = true ∨ mo ≤ (e.2 : Int)
    · rw [bsG_n h q]; exact ⟨[], (List.append_nil _).symm⟩
    · rw [bsG_y h q]; exact bsC_p
theorem bsN_p {g : SV} {n : Nat} : ∀ k, ∃ t, (bsN cu ac laws set cs mo g (n + k)).1 = (bsN cu ac laws set cs mo g n).1 ++ t
  | 0 => ⟨[], (List.append_nil _).symm⟩
  | k + 1 => by
    obtain ⟨t1, h1⟩ := bsN_p (g := g) (n := n) k
    obtain ⟨t2, h2⟩ := bsG_p (cu := cu) (ac := ac) (laws := laws) (set := set) (cs := cs) (mo := mo) (i := n + k) (L := bsN cu ac laws set cs mo g (n + k))
    exact ⟨t1 ++ t2, by
      show (bsG cu ac laws set cs mo (n + k) (bsN cu ac laws set cs mo g (n + k))).1 = _
      rw [h2, h1, List.append_assoc]⟩
/-- of all that are met -/
theorem bsN_P {P : SV → Prop} {g : SV} (h0 : P g) (hst : ∀ f c, P f → (wyO cu f c set (actO ac c laws)).1.toInt = -1 → P (wyO cu f c set (actO ac c laws)).2) : ∀ n, (∀ e ∈ (bsN cu ac laws set cs mo g n).1, P e.1) ∧ (bsN cu ac laws set cs mo g n).1.length ≤ 400
  | 0 => ⟨fun e he => by rw [List.mem_singleton.mp he]; exact h0, by show 1 ≤ 400; decide⟩
  | n + 1 => by
    have ih := bsN_P h0 hst n
    show (∀ e ∈ (bsG cu ac laws set cs mo n (bsN cu ac laws set cs mo g n)).1, P e.1) ∧ (bsG cu ac laws set cs mo n (bsN cu ac laws set cs mo g n)).1.length ≤ 400
    generalize bsN cu ac laws set cs mo g n = L at ih ⊢
    cases h : L.1[n]? with
    | none => rw [bsG_0 h]; exact ih
    | some e =>
      by_cases q : L.2 = true ∨ mo ≤ (e.2 : Int)
      · rw [bsG_n h q]; exact ih
      · rw [bsG_y h q]
        exact bsC_P (P := fun x => P x.1) (fun c hc => hst e.1 c (ih.1 e (List.mem_of_getElem? h)) hc) ih
theorem bsN_l {g : SV} : ∀ n, 1 ≤ (bsN cu ac laws set cs mo g n).1.length ∧ (bsN cu ac laws set cs mo g n).1.length ≤ 400 := fun n => by
  refine ⟨?_, (bsN_P (P := fun _ => True) trivial (fun _ _ _ _ => trivial) n).2⟩
  obtain ⟨t, h⟩ := bsN_p (cu := cu) (ac := ac) (laws := laws) (set := set) (cs := cs) (mo := mo) (g := g) (n := 0) n
  rw [Nat.zero_add] at h
  rw [h]
  show 1 ≤ ([(g, 0)] ++ t).length
  simp only [List.length_append, List.length_cons, List.length_nil]
  omega
/-- in the order of their ACTS -/
def SRT (n : Nat) (L : List BE) : Prop := (∀ (i j : Nat) (e e' : BE), i ≤ j → L[i]? = some e → L[j]? = some e' → e.2 ≤ e'.2) ∧ ∀ (j : Nat) (e e' : BE), L[n]? = some e → L[j]? = some e' → e'.2 ≤ e.2 + 1
theorem SRT_a {n : Nat} {L : List BE} {e : BE} {g : SV} (hn : L[n]? = some e) (h : SRT n L) : SRT n (L ++ [(g, e.2 + 1)]) := by
  obtain ⟨h1, h2⟩ := h
  have hl := gt_lt hn
  have at' : ∀ (i : Nat) (x : BE), (L ++ [(g, e.2 + 1)])[i]? = some x → L[i]? = some x ∨ (i = L.length ∧ x = (g, e.2 + 1)) := by
    intro i x hx
    by_cases q : i < L.length
    · rw [List.getElem?_append_left q] at hx; exact Or.inl hx
    · have hx2 := gt_lt hx
      simp only [List.length_append, List.length_cons, List.length_nil] at hx2
      have ei : i = L.length := by omega
      rw [ei, List.getElem?_concat_length] at hx
      exact Or.inr ⟨ei, (Option.some.inj hx).symm⟩
  refine ⟨fun i j x y hij hx hy => ?_, fun j x y hx hy => ?_⟩
  · rcases at' i x hx with a | ⟨a, rfl⟩ <;> rcases at' j y hy with b | ⟨b, rfl⟩
    · exact h1 i j x y hij a b
    · exact h2 i e x hn a
    · have := gt_lt b; omega
    · exact Nat.le_refl _
  · rw [List.getElem?_append_left hl, hn] at hx
    obtain rfl : e = x := Option.some.inj hx
    rcases at' j y hy with b | ⟨b, rfl⟩
    · exact h2 j e y hn b
    · exact Nat.le_refl _
theorem SRT_C {n : Nat} {e : BE} : ∀ {r : List Int32} {L : BS}, L.1[n]? = some e → SRT n L.1 → SRT n (bsC cu ac laws set e.1 (e.2 + 1) r L).1 ∧ (bsC cu ac laws set e.1 (e.2 + 1) r L).1[n]? = some e
  | [], _, hn, h => ⟨h, hn⟩
  | c :: r, L, hn, h => by
    by_cases t : L.2 = true
    · rw [bsC_t t]; exact ⟨h, hn⟩
    · have t2 : L.2 = false := by
        cases hh : L.2 with
        | true => exact absurd hh t
        | false => rfl
      by_cases q : (wyO cu e.1 c set (actO ac c laws)).1.toInt = -1
      · rw [bsC_y t2 q]
        generalize (wyO cu e.1 c set (actO ac c laws)).2 = f
        by_cases q1 : ∃ x ∈ L.1, pkI x.1 = pkI f
        · rw [bsM_y q1]; exact SRT_C hn h
        by_cases q4 : 400 ≤ L.1.length
        · rw [bsM_s q1 q4]; exact SRT_C (L := (L.1, true)) hn h
        · rw [bsM_a q1 (by omega)]
          exact SRT_C (L := (L.1 ++ [(f, e.2 + 1)], L.2)) ((List.getElem?_append_left (gt_lt hn)).trans hn) (SRT_a hn h)
      · rw [bsC_n q]; exact SRT_C hn h
theorem SRT_s {n : Nat} {L : List BE} (h : SRT n L) : SRT (n + 1) L := by
  obtain ⟨h1, h2⟩ := h
  refine ⟨h1, fun j e e' he he' => ?_⟩
  have hl := gt_lt he
  obtain ⟨x, hx⟩ : ∃ x, L[n]? = some x := ⟨_, List.getElem?_eq_getElem (by omega)⟩
  have a := h1 n (n + 1) x e (by omega) hx he
  have b := h2 j x e' hx he'
  omega
theorem SRT_N {g : SV} : ∀ n, SRT n (bsN cu ac laws set cs mo g n).1
  | 0 => by
    have one : ∀ (i : Nat) (x : BE), ([(g, 0)] : List BE)[i]? = some x → x = (g, 0) := by
      intro i x hx
      exact List.mem_singleton.mp (List.mem_of_getElem? hx)
    refine ⟨fun i j e e' _ h1 h2 => ?_, fun j e e' h1 h2 => ?_⟩
    · rw [one i e h1, one j e' h2] <;> exact Nat.le_refl _
    · rw [one _ e h1, one j e' h2]; exact Nat.le_succ _
  | n + 1 => by
    have ih := SRT_N (g := g) n
    show SRT (n + 1) (bsG cu ac laws set cs mo n (bsN cu ac laws set cs mo g n)).1
    generalize bsN cu ac laws set cs mo g n = L at ih ⊢
    apply SRT_s
    cases h : L.1[n]? with
    | none => rw [bsG_0 h]; exact ih
    | some e =>
      by_cases q : L.2 = true ∨ mo ≤ (e.2 : Int)
      · rw [bsG_n h q]; exact ih
      · rw [bsG_y h q]; exact (SRT_C h ih).1
/-- nothing more will be met -/
def DNE (mo : Int) (n : Nat) (L : BS) : Prop := L.2 = true ∨ L.1.length ≤ n ∨ ∃ e, L.1[n]? = some e ∧ mo ≤ (e.2 : Int)
theorem bsN_d {g : SV} {n : Nat} (h : DNE mo n (bsN cu ac laws set cs mo g n)) : ∀ k, bsN cu ac laws set cs mo g (n + k) = bsN cu ac laws set cs mo g n
  | 0 => rfl
  | k + 1 => by
    have ih := bsN_d h k
    have hs := SRT_N (cu := cu) (ac := ac) (laws := laws) (set := set) (cs := cs) (mo := mo) (g := g) n
    show bsG cu ac laws set cs mo (n + k) (bsN cu ac laws set cs mo g (n + k)) = _
    rw [ih]
    generalize bsN cu ac laws set cs mo g n = L at h hs ⊢
    cases h2 : L.1[n + k]? with
    | none => exact bsG_0 h2
    | some e =>
      refine bsG_n h2 ?_
      rcases h with q | q | ⟨x, q, q2⟩
      · exact Or.inl q
      · have := gt_lt h2; omega
      · have := hs.1 n (n + k) x e (by omega) q h2
        exact Or.inr (by omega)
/-- the whole SEARCH -/
def bsF (cu : List CuT) (ac : Nat → Option AcT) (laws set : Int32) (cs : List Int32) (mo : Int) (g : SV) : BS := bsN cu ac laws set cs mo g 400
theorem bsF_d {g : SV} {n : Nat} (hn : n ≤ 400) (h : DNE mo n (bsN cu ac laws set cs mo g n)) : bsF cu ac laws set cs mo g = bsN cu ac laws set cs mo g n := by
  have := bsN_d h (400 - n)
  rw [show n + (400 - n) = 400 by omega] at this
  exact this
theorem bsF_p {g : SV} {n : Nat} (hn : n ≤ 400) : ∃ t, (bsF cu ac laws set cs mo g).1 = (bsN cu ac laws set cs mo g n).1 ++ t := by
  have := bsN_p (cu := cu) (ac := ac) (laws := laws) (set := set) (cs := cs) (mo := mo) (g := g) (n := n) (400 - n)
  rw [show n + (400 - n) = 400 by omega] at this
  exact this
end
/-- the first of which P is so: its number from i on -/
def fsI (P : SV → Bool) : List BE → Nat → Int
  | [], _ => -1
  | e :: r, i => if P e.1 = true then (i : Int) else fsI P r (i + 1)
theorem fsI_n {P : SV → Bool} : ∀ {L : List BE} {i : Nat}, (∀ e ∈ L, P e.1 = false) → fsI P L i = -1
  | [], _, _ => rfl
  | e :: r, i, h => by
    show (if P e.1 = true then (i : Int) else fsI P r (i + 1)) = -1
    rw [if_neg (by rw [h e List.mem_cons_self]; decide)]
    exact fsI_n (fun x hx => h x (List.mem_cons_of_mem _ hx))
theorem fsI_y {P : SV → Bool} {e : BE} {t : List BE} (he : P e.1 = true) : ∀ {L : List BE} {i : Nat}, (∀ x ∈ L, P x.1 = false) → fsI P (L ++ e :: t) i = ((i + L.length : Nat) : Int)
  | [], i, _ => by
    show (if P e.1 = true then (i : Int) else fsI P t (i + 1)) = _
    rw [if_pos he]
    all_goals rfl
  | x :: r, i, h => by
    show (if P x.1 = true then (i : Int) else fsI P (r ++ e :: t) (i + 1)) = _
    rw [if_neg (by rw [h x List.mem_cons_self]; decide), fsI_y he (fun y hy => h y (List.mem_cons_of_mem _ hy))]
    simp only [List.length_cons]
    omega
/-- found at j, none ahead of it -/
theorem fsI_at {P : SV → Bool} {L : List BE} {j : Nat} {e : BE} (hj : L[j]? = some e) (he : P e.1 = true) (h : ∀ (i : Nat) (x : BE), i < j → L[i]? = some x → P x.1 = false) : fsI P L 0 = (j : Int) := by
  have hl := gt_lt hj
  have e1 : L = L.take j ++ e :: L.drop (j + 1) := by
    have e2 : L[j] = e := by
      have := List.getElem?_eq_getElem hl
      rw [this] at hj
      exact Option.some.inj hj
    rw [← e2, ← List.drop_eq_getElem_cons hl, List.take_append_drop]
  have h2 : ∀ x ∈ L.take j, P x.1 = false := by
    intro x hx
    obtain ⟨i, hi⟩ := List.mem_iff_getElem?.mp hx
    have hil := gt_lt hi
    rw [List.length_take] at hil
    refine h i x (by omega) ?_
    rw [List.getElem?_take_of_lt (by omega)] at hi
    exact hi
  rw [e1, fsI_y he h2, List.length_take]
  have : min j L.length = j := by omega
  rw [this, Nat.zero_add]
theorem fsI_no {P : SV → Bool} {L : List BE} (h : ∀ (i : Nat) (x : BE), L[i]? = some x → P x.1 = false) : fsI P L 0 = -1 := fsI_n (fun e he => by
  obtain ⟨i, hi⟩ := List.mem_iff_getElem?.mp he
  exact h i e hi)
