abbrev YT : Type := (Nat → Nat) × (Nat → Int32) × Nat × Nat
/-- the tokens Z are those of the text: ends, bytes, length, how many tokens -/
def STm (Z : TS) (Y : YT) : Prop := (∀ i, i < Y.2.2.2 → TkA Y.2.1 (sm 85).2 Y.2.2.1 (enD Y.1 i) (Z.2.2 i).toInt.toNat (Y.1 i) (Z.1 i) (Z.2.1 i) ∧ 0 ≤ (Z.2.2 i).toInt ∧ (0 ≤ (Z.1 i).toInt ∧ (Z.1 i).toInt ≤ 31)) ∧ (∀ i, i < Y.2.2.2 → (Z.1 i).toInt ≠ 0 → i + 1 < Y.2.2.2) ∧ Y.2.2.2 ≤ 701
/-- the reference stands at token j -/
def MZ (Z : TS) (Y : YT) (j : Nat) (M : GS) : Prop := STm Z Y ∧ j < Y.2.2.2 ∧ TPa Y.2.1 Y.2.2.1 M ∧ (fi M 2).toInt = (Y.1 j : Int) ∧ fi M 4 = Z.2.2 j ∧ fi M 3 = mkT (Z.1 j) ∧ ((Z.1 j).toInt = 2 → fi M 5 = (Z.2.1 j).toInt32) ∧ (fi M 14 = 0 ∨ fi M 14 = 1) ∧ (fi M 15 = 0 ∨ fi M 15 = 1)
theorem mk_inj : ∀ n, n < 32 → ∀ m, m < 32 → (mkT (nI n)).toInt = (mkT (nI m)).toInt → n = m := by decide +kernel
theorem MZ_k {Z : TS} {Y : YT} {j : Nat} {M : GS} (h : MZ Z Y j M) : 0 ≤ (Z.1 j).toInt ∧ (Z.1 j).toInt ≤ 31 := (h.1.1 j h.2.1).2.2
theorem MZ_t {Z : TS} {Y : YT} {j : Nat} {M : GS} (h : MZ Z Y j M) (m : Nat) (v : Int) (hm : m < 32) (hv : (mkT (nI m)).toInt = v) : (fi M 3).toInt = v ↔ (Z.1 j).toInt = (m : Int) := by
  have hk := MZ_k h
  have h3 := h.2.2.2.2.2.1
  have e : nI (Z.1 j).toInt.toNat = Z.1 j := cd_n hk
  rw [h3, ← hv]
  constructor
  · intro g
    rw [← e] at g
    have := mk_inj _ (by omega) _ hm g
    omega
  · intro g
    have e2 : (Z.1 j).toInt.toNat = m := by omega
    rw [← e, e2]
theorem MZ_0 {Z : TS} {Y : YT} {j : Nat} {M : GS} (h : MZ Z Y j M) : (fi M 3).toInt = 0 ↔ (Z.1 j).toInt = 0 := MZ_t h 0 0 (by decide) (by decide)
theorem MZ_fr {I L A N : List Nat} {Z : TS} {Y : YT} {j : Nat} {M M' : GS} (h : MZ Z Y j M) (f : Fr I L A N M M') (hI : (1 ∉ I ∧ 2 ∉ I ∧ 3 ∉ I ∧ 4 ∉ I ∧ 5 ∉ I) ∧ 21 ∉ A) (h14 : fi M' 14 = 0 ∨ fi M' 14 = 1) (h15 : fi M' 15 = 0 ∨ fi M' 15 = 1) : MZ Z Y j M' := by
  obtain ⟨hS, hj, hT, h2, h4, h3, h5, -, -⟩ := h
  have e2 : fi M' 2 = fi M 2 := f.1 2 hI.1.2.1
  have e3 : fi M' 3 = fi M 3 := f.1 3 hI.1.2.2.1
  have e4 : fi M' 4 = fi M 4 := f.1 4 hI.1.2.2.2.1
  have e5 : fi M' 5 = fi M 5 := f.1 5 hI.1.2.2.2.2
  exact ⟨hS, hj, hT.fr f hI.1.1 hI.2, by rw [e2]; exact h2, by rw [e4]; exact h4, by rw [e3]; exact h3, fun g => by rw [e5]; exact h5 g, h14, h15⟩
theorem i6432 (x : Int32) : x.toInt64.toInt32 = x := by simp
set_option maxHeartbeats 800000 in
theorem q_nextE (S : GS) (post : GS → Prop) (Z : TS) (Y : YT) (j : Nat) (hz : MZ Z Y j S) (hk : (Z.1 j).toInt ≠ 0) (k : ∀ S', NX S S' → MZ Z Y (j + 1) S' → post S') : w_X12_next0 S post := by
  obtain ⟨hS, hj, hT, h2, h4, h3, h5, h14, h15⟩ := hz
  have hj1 := hS.2.1 j hj hk
  obtain ⟨hA, hp0, hk1⟩ := hS.1 (j + 1) hj1
  have ee : enD Y.1 (j + 1) = Y.1 j := by
    unfold enD
    rw [if_neg (Nat.succ_ne_zero j)]
    rfl
  rw [ee] at hA
  refine q_next0E S post Y.2.1 Y.2.2.1 (Y.1 j) (Z.2.2 (j + 1)).toInt.toNat (Y.1 (j + 1)) (Z.1 (j + 1)) (Z.2.1 (j + 1)) hT h2 hA (fun M' hF m2 m4 m3 m5 => ?_)
  have n1 := hT.1
  have m1 : (fi M' 1).toInt = (fi S 1).toInt := by
    show (M'.1 1).toInt = (S.1 1).toInt
    rw [hF.1 1 (by decide)]
  obtain ⟨a1, a2, a3, a4⟩ := hA
  have e14 : fi M' 14 = fi S 14 := hF.1 14 (by decide)
  have e15 : fi M' 15 = fi S 15 := hF.1 15 (by decide)
  have em4 : fi M' 4 = Z.2.2 (j + 1) := i_eq (by rw [m4]; omega)
  have hMZ : MZ Z Y (j + 1) M' := by
    refine ⟨hS, hj1, hT.fr hF (by decide) (by decide), m2, em4, m3, fun g => ?_, by rw [e14]; exact h14, by rw [e15]; exact h15⟩
    rw [m5 g]
    rcases a4 with ⟨-, -, h0⟩ | ⟨x0, ⟨-, hqe, -, -, -, -, hK⟩ | ⟨-, -, -, -, -, hv, -⟩ | ⟨-, -, -, -, hkk⟩⟩
    · rw [h0] at g; exact absurd g (by decide)
    · exfalso
      rcases hK with ⟨-, h1⟩ | ⟨-, ⟨i, hi, -, -, h1⟩ | ⟨-, ⟨-, h1⟩ | ⟨-, h1⟩⟩⟩
      · rw [h1] at g; exact absurd g (by decide)
      · have hh : ∀ i, i < 19 → ((4 : Int32) + nI i).toInt ≠ 2 := by decide +kernel
        rw [h1] at g; exact hh i hi g
      · rw [h1] at g; exact absurd g (by decide)
      · rw [h1] at g; exact absurd g (by decide)
    · rw [hv, i6432]
    · exfalso
      rw [hkk] at g
      exact sg_3 (hT.2.2 _ x0).2 g
  refine k M' ⟨hF, by omega, ?_, ?_, fun g => ?_⟩ hMZ
  · rw [m4, m2]
    rcases a4 with ⟨x1, x2, -⟩ | ⟨x0, ⟨-, x1, x2, -⟩ | ⟨-, x1, x2, -⟩ | ⟨-, -, -, x1, -⟩⟩ <;> omega
  · rw [m2, n1]
    rcases a4 with ⟨x1, x2, -⟩ | ⟨x0, ⟨-, x1, x2, -⟩ | ⟨-, x1, x2, -⟩ | ⟨-, -, -, x1, -⟩⟩ <;> omega
  · have g2 : (Z.1 (j + 1)).toInt ≠ 0 := fun g3 => g ((MZ_0 hMZ).mpr g3)
    rw [m4, m2]
    rcases a4 with ⟨-, -, x3⟩ | ⟨x0, ⟨-, x1, x2, -⟩ | ⟨-, x1, x2, -⟩ | ⟨-, -, -, x1, -⟩⟩
    · rw [x3] at g2; exact absurd (by decide) g2
    · omega
    · omega
    · omega
/-- the step of an operation -/
def mS (k : Int32) : Int32 := if k.toInt = 2 then 0 else if k.toInt = 7 then 1 else if k.toInt = 8 then 2 else if k.toInt = 11 then 3 else if k.toInt = 18 then 4 else if k.toInt = 19 then 5 else if k.toInt = 20 then 6 else if k.toInt = 14 then 7 else if k.toInt = 24 then 8 else if k.toInt = 25 then 9 else if k.toInt = 26 then 10 else if k.toInt = 29 then 11 else if k.toInt = 30 then 12 else if k.toInt = 31 then 13 else if k.toInt = 17 then 14 else if k.toInt = 16 then 15 else 16
/-- steps laid -/
def MO (S S' : GS) (l : List (Int32 × Int32)) : Prop := nn S' = nn S + (l.length : Int) ∧ (∀ (i : Nat) (x : Int32 × Int32), l[i]? = some x → ar S' 5 (18720 + 2 * ((nn S).toNat + i)) = mS x.1 ∧ (x.1.toInt ≠ 14 → ar S' 5 (18720 + 2 * ((nn S).toNat + i) + 1) = x.2)) ∧ fi S' 6 = fi S 6
theorem MO_tr {S S' S'' : GS} {l m : List (Int32 × Int32)} (h0 : 0 ≤ nn S) (h : MO S S' l) (g : MO S' S'' m) (hE : EE S' S'') : MO S S'' (l ++ m) := by
  obtain ⟨h1, h3, h6⟩ := h
  obtain ⟨g1, g3, g6⟩ := g
  refine ⟨by rw [g1, h1, List.length_append]; omega, fun i x hx => ?_, g6.trans h6⟩
  by_cases e : i < l.length
  · rw [List.getElem?_append_left e] at hx
    obtain ⟨p, q⟩ := h3 i x hx
    rw [hE.2.1 _ (by omega), hE.2.1 _ (by omega)]
    exact ⟨p, q⟩
  · rw [List.getElem?_append_right (by omega)] at hx
    have e2 : (nn S).toNat + i = (nn S').toNat + (i - l.length) := by omega
    rw [e2]
    exact g3 _ x hx
theorem MO_0 {S S' : GS} (e : nn S' = nn S) (e6 : fi S' 6 = fi S 6) : MO S S' [] := ⟨by rw [e]; exact (Int.add_zero _).symm, fun i x hx => by simp at hx, e6⟩
def MG (Z : TS) (Y : YT) (S S' : GS) (r : YR) : Prop := r.1 = 0 ∧ MZ Z Y r.2.1 S' ∧ MO S S' r.2.2.1 ∧ fi S' 14 = orF (fi S 14) r.2.2.2.1 ∧ fi S' 15 = orF (fi S 15) r.2.2.2.2
def MB (Z : TS) (S' : GS) (r : YR) : Prop := r.1 ≠ 0 ∧ (fi S' 6).toInt = (r.1 : Int) ∧ fi S' 7 = Z.2.2 r.2.1 ∧ (fi S' 14 = 0 ∨ fi S' 14 = 1) ∧ (fi S' 15 = 0 ∨ fi S' 15 = 1)
def MX (Z : TS) (Y : YT) (S S' : GS) (x : Int32) (r : YR) : Prop := (x = 1 ∧ MG Z Y S S' r) ∨ (x = 0 ∧ MB Z S' r)
theorem MX_1 {Z : TS} {Y : YT} {S S' : GS} {x : Int32} {r : YR} (h : MX Z Y S S' x r) (g : x.toInt ≠ 0) : MG Z Y S S' r := by
  rcases h with h | h
  · exact h.2
  · rw [h.1] at g; exact absurd li_0 g
theorem MX_0 {Z : TS} {Y : YT} {S S' : GS} {x : Int32} {r : YR} (h : MX Z Y S S' x r) (g : x.toInt = 0) : MB Z S' r := by
  rcases h with h | h
  · rw [h.1] at g; exact absurd g (by decide)
  · exact h.2
theorem MG_tr {Z : TS} {Y : YT} {S S' S'' : GS} {r : YR} {f : Nat → YR} (h0 : 0 ≤ nn S) (h : MG Z Y S S' r) (g : MG Z Y S' S'' (f r.2.1)) (hE : EE S' S'') : MG Z Y S S'' (ypBn r f) := by
  obtain ⟨h1, h2, h3, h4, h5⟩ := h
  obtain ⟨g1, g2, g3, g4, g5⟩ := g
  rw [ypBn_g h1]
  exact ⟨g1, g2, MO_tr h0 h3 g3 hE, by rw [g4, h4, orF_or], by rw [g5, h5, orF_or]⟩
theorem MG_t0 {Z : TS} {Y : YT} {S S' S'' : GS} {j : Nat} {r : YR} (h0 : 0 ≤ nn S) (h : MG Z Y S S' (ypOk j)) (g : MG Z Y S' S'' r) (hE : EE S' S'') : MG Z Y S S'' r := by
  have hh := MG_tr (f := fun _ => r) h0 h g hE
  rw [ypBn_ok] at hh
  exact hh
theorem MB_tr {Z : TS} {Y : YT} {S S' S'' : GS} {r : YR} {f : Nat → YR} (h : MG Z Y S S' r) (g : MB Z S'' (f r.2.1)) : MB Z S'' (ypBn r f) := by
  rw [ypBn_g h.1]
  exact g
theorem MB_l {Z : TS} {S' : GS} {r : YR} {f : Nat → YR} (h : MB Z S' r) : MB Z S' (ypBn r f) := by
  rw [ypBn_b h.1]
  exact h
theorem MB_bad {Z : TS} {Y : YT} {j : Nat} {S : GS} (hz : MZ Z Y j S) (x : Int32) (c : Nat) (hx : x.toInt = (c : Int)) (hc : c ≠ 0) : MB Z (si (si S 6 x) 7 (fi S 4)) (ypNo c j) := by
  have e14 : fi (si (si S 6 x) 7 (fi S 4)) 14 = fi S 14 := (si_ne (by decide)).trans (si_ne (by decide))
  have e15 : fi (si (si S 6 x) 7 (fi S 4)) 15 = fi S 15 := (si_ne (by decide)).trans (si_ne (by decide))
  refine ⟨hc, ?_, ?_, by rw [e14]; exact hz.2.2.2.2.2.2.2.1, by rw [e15]; exact hz.2.2.2.2.2.2.2.2⟩
  · have e : fi (si (si S 6 x) 7 (fi S 4)) 6 = x := by
      show (si (si S 6 x) 7 (fi S 4)).1 6 = x
      rw [si_ne (by decide), si_at]
    rw [e]; exact hx
  · have e : fi (si (si S 6 x) 7 (fi S 4)) 7 = fi S 4 := si_at _ _ _
    rw [e]; exact hz.2.2.2.2.1
/-- next0 -/
theorem MG_nx {Z : TS} {Y : YT} {j : Nat} {S S' : GS} (h : MZ Z Y (j + 1) S') (hN : NX S S') : MG Z Y S S' (ypOk (j + 1)) := by
  have e14 : fi S' 14 = fi S 14 := hN.1.1 14 (by decide)
  have e15 : fi S' 15 = fi S 15 := hN.1.1 15 (by decide)
  exact ⟨rfl, h, MO_0 (nn_fr hN.1 (by decide)) (hN.1.1 6 (by decide)), e14, e15⟩
/-- something else changed -/
theorem MG_fr {I L A N : List Nat} {Z : TS} {Y : YT} {S T U : GS} {r : YR} (h : MG Z Y S T r) (f : Fr I L A N T U) (hI : (1 ∉ I ∧ 2 ∉ I ∧ 3 ∉ I ∧ 4 ∉ I ∧ 5 ∉ I) ∧ 21 ∉ A) (h2 : 14 ∉ I ∧ 15 ∉ I ∧ 5 ∉ A ∧ 6 ∉ A) (h3 : 6 ∉ I := by decide) : MG Z Y S U r := by
  have e14 : fi U 14 = fi T 14 := f.1 14 h2.1
  have e15 : fi U 15 = fi T 15 := f.1 15 h2.2.1
  have e5 : ar U 5 = ar T 5 := f.2.2.1 5 h2.2.2.1
  obtain ⟨a, c, d, x, y⟩ := h
  obtain ⟨d1, d2, d3⟩ := d
  refine ⟨a, MZ_fr c f hI (by rw [e14]; exact c.2.2.2.2.2.2.2.1) (by rw [e15]; exact c.2.2.2.2.2.2.2.2), ⟨by rw [nn_fr f h2.2.2.2]; exact d1, fun i z hi => by rw [e5]; exact d2 i z hi, (f.1 6 h3).trans d3⟩, by rw [e14]; exact x, by rw [e15]; exact y⟩
set_option maxHeartbeats 800000 in
theorem q_layE (S : GS) (s v k0 v0 : Int32) (post : GS → Prop) (hn : 0 ≤ nn S ∧ nn S ≤ 715) (hs : s = mS k0) (hv : k0.toInt ≠ 14 → v = v0) (Z : TS) (Y : YT) (j : Nat) (hz : MZ Z Y j S) (k : ∀ S', EE S S' → Fr [] [] [5, 6] [] S S' → nn S' = nn S + 1 → sx S' 13 (2 * (nn S).toNat) = s → MG Z Y S S' (ypEm k0 v0 j) → post S') : w_X12_lay S s v post := by
  unfold w_X12_lay
  have e1 := step3 (i := ar S 6 13) (by have := hn; unfold nn at this; omega)
  have e2 := step4 (i := ar S 6 13) (by have := hn; unfold nn at this; omega)
  have n1 : ((18720 : Int32) + (2 : Int32) * ar S 6 13).toNatClampNeg = 18720 + 2 * (nn S).toNat := by rw [tnc, e1]; unfold nn at *; omega
  have n2 : ((18720 : Int32) + (2 : Int32) * ar S 6 13 + 1).toNatClampNeg = 18720 + 2 * (nn S).toNat + 1 := by rw [tnc, e2]; unfold nn at *; omega
  rw [n1, n2, e1, e2]
  clear n1 n2 e1 e2
  have hn2 := hn
  unfold nn at hn2
  refine ⟨by omega, by omega, ?_⟩
  have eF : Fr [] [] [5, 6] [] S (su (su (su S 5 (18720 + 2 * (nn S).toNat) s) 5 (18720 + 2 * (nn S).toNat + 1) v) 6 13 (ar S 6 13 + 1)) := Fr.su (by decide) (Fr.su (by decide) (Fr.su (by decide) Fr.rf))
  generalize hT : su (su (su S 5 (18720 + 2 * (nn S).toNat) s) 5 (18720 + 2 * (nn S).toNat + 1) v) 6 13 (ar S 6 13 + 1) = T at eF ⊢
  have t5 : ar T 5 = upd (upd (ar S 5) (18720 + 2 * (nn S).toNat) s) (18720 + 2 * (nn S).toNat + 1) v := by
    show T.2.2.1 5 = _
    rw [← hT, su_ne (by decide), su_at, su_at]
  have t6 : ar T 6 = upd (ar S 6) 13 (ar S 6 13 + 1) := by
    show T.2.2.1 6 = _
    rw [← hT, su_at, su_ne (by decide), su_ne (by decide)]
  have tn : nn T = nn S + 1 := by
    show (ar T 6 13).toInt = _
    rw [t6, upd_at, inc1 (by omega)]
  have e14 : fi T 14 = fi S 14 := eF.1 14 (by decide)
  have e15 : fi T 15 = fi S 15 := eF.1 15 (by decide)
  have hs5 : ar T 5 (18720 + 2 * (nn S).toNat) = s := by rw [t5, upd_ne (by omega), upd_at]
  have hv5 : ar T 5 (18720 + 2 * (nn S).toNat + 1) = v := by rw [t5, upd_at]
  refine k T ⟨eF.wk (by decide), fun i hi => ?_, fun i hi => ?_, by omega⟩ eF tn ?_ ⟨rfl, MZ_fr hz eF (by decide) (by rw [e14]; exact hz.2.2.2.2.2.2.2.1) (by rw [e15]; exact hz.2.2.2.2.2.2.2.2), ⟨tn, fun i x hx => ?_, eF.1 6 (by decide)⟩, e14, e15⟩
  · rw [t5, upd_ne (by omega), upd_ne (by omega)]
  · rw [t6, upd_ne hi]
  · show ar T 5 (1440 * 13 + 2 * (nn S).toNat) = s
    exact hs5
  · have hi0 : i = 0 := by
      cases i with
      | zero => rfl
      | succ i => exact absurd hx (by simp [ypEm])
    rw [hi0] at hx ⊢
    have hzz : (k0, v0) = x := Option.some.inj hx
    rw [← hzz]
    exact ⟨hs5.trans hs, fun g => hv5.trans (hv g)⟩
theorem p318 : ∀ n, n < 32 → (n = 21 ∨ n = 22) → mkT (nI n) - 318 = nI n - 21 := by decide +kernel
set_option maxHeartbeats 800000 in
theorem q_personE (S : GS) (post : Int32 → GS → Prop) (hL : Lx S) (Z : TS) (Y : YT) (j : Nat) (hz : MZ Z Y j S) (k : ∀ (r : Int32) (S' : GS), EE S S' → (r = 0 ∨ r = 1) → (r.toInt ≠ 0 → GOx S S' ∧ ((fi S' 10).toInt = 0 ∨ (fi S' 10).toInt = 1) ∧ ((fi S' 10).toInt = 1 → fi S' 14 = 1) ∧ (fi S' 10).toInt = (fi S 3).toInt - 318) → MX Z Y S S' r (ypPe Z false j) → (r.toInt ≠ 0 → fi S' 10 = Z.1 j - 21) → post r S') : w_X12_person S post := by
  have hk := MZ_k hz
  have t21 := MZ_t hz 21 318 (by decide) (by decide)
  have t22 := MZ_t hz 22 319 (by decide) (by decide)
  have g14 := hz.2.2.2.2.2.2.2.1
  unfold w_X12_person w_X12_person_B26 w_X12_person_B54 w_X12_person_B59
  have main : ((Z.1 j).toInt = 21 ∨ (Z.1 j).toInt = 22) → ∀ y : Int32, y = orF (fi S 14) (decide ((Z.1 j).toInt = 22)) → w_X12_next0 (si (si S 10 (fi S 3 - 318)) 14 y) (fun S3 => post 1 S3) := by
    intro ht y hy
    have hy1 : y = 0 ∨ y = 1 := by rw [hy]; exact orF_01 g14
    have hy2 : y = fi S 14 ∨ y = 1 := by
      rw [hy]
      cases decide ((Z.1 j).toInt = 22)
      · exact Or.inl rfl
      · exact Or.inr rfl
    have e318 : fi S 3 - 318 = Z.1 j - 21 := by
      rw [hz.2.2.2.2.2.1]
      have e : nI (Z.1 j).toInt.toNat = Z.1 j := cd_n hk
      rw [← e]
      exact p318 _ (by omega) (by omega)
    have e21 : (21 : Int32).toInt = 21 := by decide
    have es : (Z.1 j - 21).toInt = (Z.1 j).toInt - 21 := by rw [i_sub (by omega) (by omega), e21]
    have ePe : ypPe Z false j = ypFl (decide ((Z.1 j).toInt = 22)) false (j + 1) := by
      unfold ypPe
      rw [if_pos ht, if_neg (by decide)]
    rw [e318]
    have eF : Fr [10, 14] [] [] [] S (si (si S 10 (Z.1 j - 21)) 14 y) := Fr.si (by decide) (Fr.si (by decide) Fr.rf)
    have f10 : fi (si (si S 10 (Z.1 j - 21)) 14 y) 10 = Z.1 j - 21 := by
      show (si (si S 10 (Z.1 j - 21)) 14 y).1 10 = _
      rw [si_ne (by decide), si_at]
    have f14 : fi (si (si S 10 (Z.1 j - 21)) 14 y) 14 = y := by
      show (si (si S 10 (Z.1 j - 21)) 14 y).1 14 = _
      rw [si_at]
    generalize si (si S 10 (Z.1 j - 21)) 14 y = T at eF f10 f14 ⊢
    have t1 : fi T 1 = fi S 1 := eF.1 1 (by decide)
    have t2 : fi T 2 = fi S 2 := eF.1 2 (by decide)
    have t3 : fi T 3 = fi S 3 := eF.1 3 (by decide)
    have t4 : fi T 4 = fi S 4 := eF.1 4 (by decide)
    have t15 : fi T 15 = fi S 15 := eF.1 15 (by decide)
    have t9 : fi T 9 = fi S 9 := eF.1 9 (by decide)
    have tn := nn_fr eF (by decide)
    have hLT : Lx T := by
      unfold Lx at hL ⊢
      rw [t1, t2, t3, t4, tn]; exact hL
    have hzT : MZ Z Y j T := MZ_fr hz eF (by decide) (by rw [f14]; exact hy1) (by rw [t15]; exact hz.2.2.2.2.2.2.2.2)
    refine q_nextE _ _ Z Y j hzT (by omega) (fun S3 hN hzN => ?_)
    have hG := GO_nx hLT (by rw [t3]; omega) hN
    have s10 : fi S3 10 = fi T 10 := hN.1.1 10 (by decide)
    have s14 : fi S3 14 = fi T 14 := hN.1.1 14 (by decide)
    have s15 : fi S3 15 = fi T 15 := hN.1.1 15 (by decide)
    have sn := nn_fr hN.1 (by decide)
    refine k 1 S3 (EE_tr (EE_fr (eF.wk (by decide))) (NX_ee hN)) (Or.inr rfl) (fun _ => ⟨⟨hG.1, hG.2.1.trans tn, ?_, hG.2.2.2.1.trans t9, ?_, ?_⟩, ?_, ?_, ?_⟩) (Or.inl ⟨rfl, ?_⟩) (fun _ => by rw [s10, f10])
    · have := hG.2.2.1; rw [t4] at this; exact this
    · rw [s14, f14]; exact hy2
    · rw [s15, t15]; exact Or.inl rfl
    · rw [s10, f10, es]; omega
    · intro g
      rw [s10, f10, es] at g
      rw [s14, f14, hy, decide_eq_true (by omega)]; rfl
    · rw [s10, f10, es]; omega
    · rw [ePe]
      exact ⟨rfl, hzN, MO_0 (sn.trans tn) ((hN.1.1 6 (by decide)).trans (eF.1 6 (by decide))), by rw [s14, f14]; exact hy, by rw [s15, t15]; rfl⟩
  have m2 : ((Z.1 j).toInt = 21 ∨ (Z.1 j).toInt = 22) → ((fi S 14).toInt ≠ 0 → ((1 : Int32) = 0 ∨ (1 : Int32) = 1) ∧ w_X12_next0 (si (si S 10 (fi S 3 - 318)) 14 1) (fun S3 => post 1 S3)) ∧ ((fi S 14).toInt = 0 → ((fi S 3 - 318).toInt ≠ 1 → ((0 : Int32) = 0 ∨ (0 : Int32) = 1) ∧ w_X12_next0 (si (si S 10 (fi S 3 - 318)) 14 0) (fun S3 => post 1 S3)) ∧ ((fi S 3 - 318).toInt = 1 → ((1 : Int32) = 0 ∨ (1 : Int32) = 1) ∧ w_X12_next0 (si (si S 10 (fi S 3 - 318)) 14 1) (fun S3 => post 1 S3))) := by
    intro ht
    have l318 : (318 : Int32).toInt = 318 := by decide
    have e318 : (fi S 3 - 318).toInt = (fi S 3).toInt - 318 := by rw [i_sub (by omega) (by omega), l318]
    rw [e318]
    exact ⟨fun g => ⟨Or.inr rfl, main ht 1 (orF_y (Or.inl (fl_1 g14 g)))⟩, fun g => ⟨fun g2 => ⟨Or.inl rfl, main ht 0 (orF_n (fl_0 g) (by omega))⟩, fun g2 => ⟨Or.inr rfl, main ht 1 (orF_y (Or.inr (by omega)))⟩⟩⟩
  refine ⟨fun g => m2 (by omega), fun g1 => ⟨fun g => m2 (by omega), fun g2 => ⟨Or.inl rfl, k 0 _ (EE_bad S 1) (Or.inl rfl) no0 (Or.inr ⟨rfl, ?_⟩) no0⟩⟩⟩
  have e : ypPe Z false j = ypNo 1 j := if_neg (by omega)
  rw [e]
  exact MB_bad hz 1 1 (by decide) (by decide)

