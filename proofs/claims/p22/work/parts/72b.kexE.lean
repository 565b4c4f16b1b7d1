def orF (x : Int32) (y : Bool) : Int32 := if y = true then 1 else x
theorem orF_or (x : Int32) (y z : Bool) : orF (orF x y) z = orF x (y || z) := by
  cases y <;> cases z <;> rfl
theorem orF_01 {x : Int32} {y : Bool} (h : x = 0 ∨ x = 1) : orF x y = 0 ∨ orF x y = 1 := by
  cases y
  · exact h
  · exact Or.inr rfl
theorem orF_y {x : Int32} {p : Prop} [Decidable p] (h : x = 1 ∨ p) : 1 = orF x (decide p) := by
  by_cases hp : p
  · rw [decide_eq_true hp]; rfl
  · rw [decide_eq_false hp]
    rcases h with e | e
    · exact e.symm
    · exact absurd e hp
theorem orF_n {x : Int32} {p : Prop} [Decidable p] (h : x = 0) (hp : ¬ p) : 0 = orF x (decide p) := by
  rw [decide_eq_false hp]; exact h.symm
theorem fl_1 {x : Int32} (h : x = 0 ∨ x = 1) (g : x.toInt ≠ 0) : x = 1 := by
  rcases h with e | e
  · rw [e] at g; exact absurd li_0 g
  · exact e
theorem fl_0 {x : Int32} (g : x.toInt = 0) : x = 0 := i_eq (by rw [g]; decide)
/-- what is known of the first c tokens -/
def ZV (Z : TS) (c : Int) : Prop := ∀ i : Nat, (i : Int) < c → (0 ≤ (Z.1 i).toInt ∧ (Z.1 i).toInt ≤ 31) ∧ ((Z.1 i).toInt = 2 → ((Z.2.1 i).toInt32).toInt ≠ -1)
/-- the tokens are Z, the reader stands at j -/
def ZS (Z : TS) (j : Nat) (S : KS) : Prop := (ar S.1 13 = Z.1 ∧ al S.1 1 = Z.2.1 ∧ ar S.1 14 = Z.2.2) ∧ ZV Z (fi S.1 21).toInt ∧ (fi S.1 15).toInt = (j : Int)
theorem ZS_kf {I A M : List Nat} {Z : TS} {j j' : Nat} {S S' : KS} (h : ZS Z j S) (f : KF I A M S S') (hx : 13 ∉ A ∧ 14 ∉ A ∧ 1 ∉ M ∧ 21 ∉ I) (e15 : (fi S'.1 15).toInt = (j' : Int)) : ZS Z j' S' := by
  have e13 : ar S'.1 13 = ar S.1 13 := f.1.2.2.1 13 hx.1
  have e14 : ar S'.1 14 = ar S.1 14 := f.1.2.2.1 14 hx.2.1
  have e1 : al S'.1 1 = al S.1 1 := f.1.2.2.2 1 hx.2.2.1
  have e21 : fi S'.1 21 = fi S.1 21 := f.1.1 21 hx.2.2.2
  refine ⟨⟨by rw [e13]; exact h.1.1, by rw [e1]; exact h.1.2.1, by rw [e14]; exact h.1.2.2⟩, by rw [e21]; exact h.2.1, e15⟩
theorem ZS_n {Z : TS} {j : Nat} {S : KS} (h : ZS Z j S) : (fi S.1 15).toNatClampNeg = j := by
  rw [tnc, h.2.2]; omega
theorem kn_z {Z : TS} {j : Nat} {S : KS} (h : ZS Z j S) : kn S = Z.1 j := by
  unfold kn
  rw [h.1.1, ZS_n h]
theorem ZS_k {b : Int} {Z : TS} {j : Nat} {S : KS} (h : RD b S) (hz : ZS Z j S) : 0 ≤ (Z.1 j).toInt ∧ (Z.1 j).toInt ≤ 31 ∧ ((Z.1 j).toInt = 2 → ((Z.2.1 j).toInt32).toInt ≠ -1) ∧ (Z.1 j - 21).toInt = (Z.1 j).toInt - 21 := by
  have h1 := h.2.1.2
  rw [hz.2.2] at h1
  obtain ⟨⟨a, c⟩, d⟩ := hz.2.1 j h1
  have e21 : (21 : Int32).toInt = 21 := by decide
  exact ⟨a, c, d, by rw [i_sub (by omega) (by omega), e21]⟩
theorem RD_l0 {b : Int} {S : KS} (h : RD b S) : 0 ≤ (fi S.1 16).toInt := h.2.2.1.1
/-- operations laid behind those that stand -/
def OA (S S' : KS) (l : List (Int32 × Int32)) : Prop := (fi S'.1 16).toInt = (fi S.1 16).toInt + (l.length : Int) ∧ (∀ i : Nat, (i : Int) < (fi S.1 16).toInt → ar S'.1 15 i = ar S.1 15 i) ∧ (∀ (i : Nat) (x : Int32 × Int32), l[i]? = some x → ar S'.1 15 ((fi S.1 16).toInt.toNat + i) = x.1 + (32 : Int32) * x.2) ∧ fi S'.1 19 = fi S.1 19 ∧ fi S'.1 20 = fi S.1 20
theorem OA_tr {S S' S'' : KS} {l m : List (Int32 × Int32)} (h0 : 0 ≤ (fi S.1 16).toInt) (h : OA S S' l) (g : OA S' S'' m) : OA S S'' (l ++ m) := by
  obtain ⟨h1, h2, h3, h4, h5⟩ := h
  obtain ⟨g1, g2, g3, g4, g5⟩ := g
  refine ⟨?_, fun i hi => ?_, fun i x hx => ?_, g4.trans h4, g5.trans h5⟩
  · rw [g1, h1, List.length_append]; omega
  · rw [g2 i (by omega), h2 i hi]
  · by_cases e : i < l.length
    · rw [List.getElem?_append_left e] at hx
      rw [g2 _ (by omega), h3 i x hx]
    · rw [List.getElem?_append_right (by omega)] at hx
      have e2 : (fi S.1 16).toInt.toNat + i = (fi S'.1 16).toInt.toNat + (i - l.length) := by omega
      rw [e2]
      exact g3 _ x hx
theorem OA_0 {S S' : KS} (e16 : fi S'.1 16 = fi S.1 16) (e15 : ar S'.1 15 = ar S.1 15) (e19 : fi S'.1 19 = fi S.1 19) (e20 : fi S'.1 20 = fi S.1 20) : OA S S' [] := ⟨by rw [e16]; exact (Int.add_zero _).symm, fun i _ => by rw [e15], fun i x hx => by simp at hx, e19, e20⟩
/-- r was read, and it was good -/
def XG (Z : TS) (S S' : KS) (r : YR) : Prop := r.1 = 0 ∧ ZS Z r.2.1 S' ∧ OA S S' r.2.2.1 ∧ fi S'.1 17 = orF (fi S.1 17) r.2.2.2.1 ∧ fi S'.1 18 = orF (fi S.1 18) r.2.2.2.2
/-- r was read, and it told a FAULT -/
def XB (Z : TS) (S' : KS) (r : YR) : Prop := r.1 ≠ 0 ∧ (fi S'.1 19).toInt = (r.1 : Int) ∧ fi S'.1 20 = Z.2.2 r.2.1
theorem XG_tr {Z : TS} {S S' S'' : KS} {r : YR} {f : Nat → YR} (h0 : 0 ≤ (fi S.1 16).toInt) (h : XG Z S S' r) (g : XG Z S' S'' (f r.2.1)) : XG Z S S'' (ypBn r f) := by
  obtain ⟨h1, h2, h3, h4, h5⟩ := h
  obtain ⟨g1, g2, g3, g4, g5⟩ := g
  rw [ypBn_g h1]
  exact ⟨g1, g2, OA_tr h0 h3 g3, by rw [g4, h4, orF_or], by rw [g5, h5, orF_or]⟩
theorem XG_t0 {Z : TS} {S S' S'' : KS} {j : Nat} {r : YR} (h0 : 0 ≤ (fi S.1 16).toInt) (h : XG Z S S' (ypOk j)) (g : XG Z S' S'' r) : XG Z S S'' r := by
  have hh := XG_tr (f := fun _ => r) h0 h g
  rw [ypBn_ok] at hh
  exact hh
theorem XB_tr {Z : TS} {S S' S'' : KS} {r : YR} {f : Nat → YR} (h : XG Z S S' r) (g : XB Z S'' (f r.2.1)) : XB Z S'' (ypBn r f) := by
  rw [ypBn_g h.1]
  exact g
theorem XB_l {Z : TS} {S' : KS} {r : YR} {f : Nat → YR} (h : XB Z S' r) : XB Z S' (ypBn r f) := by
  rw [ypBn_b h.1]
  exact h
theorem XG_17 {Z : TS} {S U : KS} {r : YR} {x : Bool} {y : Int32} (h : XG Z S U r) (hy : y = orF (fi U.1 17) x) : XG Z S (ksi U 17 y) (r.1, r.2.1, r.2.2.1, r.2.2.2.1 || x, r.2.2.2.2) := by
  obtain ⟨h1, h2, h3, h4, h5⟩ := h
  have e15 : fi (ksi U 17 y).1 15 = fi U.1 15 := si_ne (by decide)
  have e16 : fi (ksi U 17 y).1 16 = fi U.1 16 := si_ne (by decide)
  have e17 : fi (ksi U 17 y).1 17 = y := si_at _ _ _
  have e18 : fi (ksi U 17 y).1 18 = fi U.1 18 := si_ne (by decide)
  have e21 : fi (ksi U 17 y).1 21 = fi U.1 21 := si_ne (by decide)
  refine ⟨h1, ⟨h2.1, by rw [e21]; exact h2.2.1, by rw [e15]; exact h2.2.2⟩, ?_, ?_, by rw [e18]; exact h5⟩
  · obtain ⟨a, c, d⟩ := h3
    exact ⟨by rw [e16]; exact a, c, d.1, (si_ne (by decide)).trans d.2.1, (si_ne (by decide)).trans d.2.2⟩
  · rw [e17, hy, h4, orF_or]
theorem XG_18 {Z : TS} {S U : KS} {r : YR} {x : Bool} {y : Int32} (h : XG Z S U r) (hy : y = orF (fi U.1 18) x) : XG Z S (ksi U 18 y) (r.1, r.2.1, r.2.2.1, r.2.2.2.1, r.2.2.2.2 || x) := by
  obtain ⟨h1, h2, h3, h4, h5⟩ := h
  have e15 : fi (ksi U 18 y).1 15 = fi U.1 15 := si_ne (by decide)
  have e16 : fi (ksi U 18 y).1 16 = fi U.1 16 := si_ne (by decide)
  have e17 : fi (ksi U 18 y).1 17 = fi U.1 17 := si_ne (by decide)
  have e18 : fi (ksi U 18 y).1 18 = y := si_at _ _ _
  have e21 : fi (ksi U 18 y).1 21 = fi U.1 21 := si_ne (by decide)
  refine ⟨h1, ⟨h2.1, by rw [e21]; exact h2.2.1, by rw [e15]; exact h2.2.2⟩, ?_, by rw [e17]; exact h4, ?_⟩
  · obtain ⟨a, c, d⟩ := h3
    exact ⟨by rw [e16]; exact a, c, d.1, (si_ne (by decide)).trans d.2.1, (si_ne (by decide)).trans d.2.2⟩
  · rw [e18, hy, h5, orF_or]
theorem RD_nxE {b : Int} {Z : TS} {j : Nat} {S : KS} (h : RD b S) (hz : ZS Z j S) (hk : (Z.1 j).toInt ≠ 0) : Mv b S (ksi S 15 (fi S.1 15 + 1)) (wdt ((Z.1 j).toInt)) 0 ∧ XG Z S (ksi S 15 (fi S.1 15 + 1)) (ypOk (j + 1)) := by
  have ek := kn_z hz
  have hM := RD_nx h (by rw [ek]; exact hk)
  rw [ek] at hM
  have hc := RD_c h
  have h1 := h.2.1
  have e15 : (fi (ksi S 15 (fi S.1 15 + 1)).1 15).toInt = ((j + 1 : Nat) : Int) := by
    have e : fi (ksi S 15 (fi S.1 15 + 1)).1 15 = fi S.1 15 + 1 := si_at _ _ _
    rw [e, inc1 (by omega), hz.2.2]; omega
  have e16 : fi (ksi S 15 (fi S.1 15 + 1)).1 16 = fi S.1 16 := si_ne (by decide)
  have e17 : fi (ksi S 15 (fi S.1 15 + 1)).1 17 = fi S.1 17 := si_ne (by decide)
  have e18 : fi (ksi S 15 (fi S.1 15 + 1)).1 18 = fi S.1 18 := si_ne (by decide)
  exact ⟨hM, rfl, ZS_kf hz hM.1 (by decide) e15, OA_0 e16 rfl (si_ne (by decide)) (si_ne (by decide)), e17, e18⟩
set_option maxHeartbeats 800000 in
theorem r_5_kindE (cy : Nat → ClassId) (tE : Nat) (S : KS) (post : Int32 → KS → Prop) (b : Int) (Z : TS) (j : Nat) (h : RD b S) (hz : ZS Z j S) (k : post (Z.1 j) S) : w_X5_kind cy tE S post := r_5_kind cy tE S post b h (by rw [kn_z hz]; exact k)
set_option maxHeartbeats 800000 in
theorem r_5_valueE (cy : Nat → ClassId) (tE : Nat) (S : KS) (post : Int64 → KS → Prop) (b : Int) (Z : TS) (j : Nat) (h : RD b S) (hz : ZS Z j S) (k : post (Z.2.1 j) S) : w_X5_value cy tE S post := by
  have hc := RD_c h
  have h3 := h.2.1
  refine ⟨fun g => by omega, fun g => ⟨by omega, ?_⟩⟩
  show post _ S
  rw [hz.1.2.1, ZS_n hz]
  exact k
set_option maxHeartbeats 800000 in
theorem r_5_refuseE (cy : Nat → ClassId) (tE : Nat) (S : KS) (x : Int32) (post : Int32 → KS → Prop) (b : Int) (Z : TS) (j : Nat) (h : RD b S) (hz : ZS Z j S) (c : Nat) (hx : x.toInt = (c : Int)) (hc0 : c ≠ 0) (k : ∀ S', KFr S S' → XB Z S' (ypNo c j) → post 0 S') : w_X5_refuse cy tE S x post := by
  have hc := RD_c h
  have h3 := h.2.1
  refine ⟨fun g => by omega, fun g => ⟨by omega, k _ (KF_si (by decide) (KF_si (by decide) (KF_rf S))) ⟨hc0, ?_, ?_⟩⟩⟩
  · have e : fi (ksi (ksi S 19 x) 20 (ar S.1 14 (fi S.1 15).toNatClampNeg)).1 19 = x := (si_ne (by decide)).trans (si_at _ _ _)
    rw [e]; exact hx
  · have e : fi (ksi (ksi S 19 x) 20 (ar S.1 14 (fi S.1 15).toNatClampNeg)).1 20 = ar S.1 14 (fi S.1 15).toNatClampNeg := si_at _ _ _
    rw [e, hz.1.2.2, ZS_n hz]
    rfl
set_option maxHeartbeats 800000 in
theorem r_5_emitE (cy : Nat → ClassId) (tE : Nat) (S : KS) (x y : Int32) (post : KS → Prop) (b : Int) (Z : TS) (j : Nat) (h : RD b S) (hz : ZS Z j S) (h1 : (fi S.1 16).toInt + 1 ≤ pn S) (k : ∀ S', Mv b S S' 0 1 → XG Z S S' (ypEm x y j) → post S') : w_X5_emit cy tE S x y post := by
  have hc := RD_c h
  obtain ⟨⟨q1, q2⟩, h3, h4, h5, h6⟩ := h
  unfold w_X5_emit w_X5_emit_B37
  refine ⟨fun g => by omega, fun g => ⟨by omega, ?_⟩⟩
  have hF : KFr S (ksi (ksu S 15 (fi S.1 16).toNatClampNeg (x + ((32 : Int32) * y))) 16 (fi S.1 16 + 1)) := KF_si (by decide) (KF_su (by decide) (KF_rf S))
  have e16 : fi (ksi (ksu S 15 (fi S.1 16).toNatClampNeg (x + ((32 : Int32) * y))) 16 (fi S.1 16 + 1)).1 16 = fi S.1 16 + 1 := si_at _ _ _
  have e15 : fi (ksi (ksu S 15 (fi S.1 16).toNatClampNeg (x + ((32 : Int32) * y))) 16 (fi S.1 16 + 1)).1 15 = fi S.1 15 := si_ne (by decide)
  have e17 : fi (ksi (ksu S 15 (fi S.1 16).toNatClampNeg (x + ((32 : Int32) * y))) 16 (fi S.1 16 + 1)).1 17 = fi S.1 17 := si_ne (by decide)
  have e18 : fi (ksi (ksu S 15 (fi S.1 16).toNatClampNeg (x + ((32 : Int32) * y))) 16 (fi S.1 16 + 1)).1 18 = fi S.1 18 := si_ne (by decide)
  have ea : ar (ksi (ksu S 15 (fi S.1 16).toNatClampNeg (x + ((32 : Int32) * y))) 16 (fi S.1 16 + 1)).1 15 = upd (ar S.1 15) (fi S.1 16).toInt.toNat (x + ((32 : Int32) * y)) := su_at _ _ _ _
  have e19 : fi (ksi (ksu S 15 (fi S.1 16).toNatClampNeg (x + ((32 : Int32) * y))) 16 (fi S.1 16 + 1)).1 19 = fi S.1 19 := si_ne (by decide)
  have e20 : fi (ksi (ksu S 15 (fi S.1 16).toNatClampNeg (x + ((32 : Int32) * y))) 16 (fi S.1 16 + 1)).1 20 = fi S.1 20 := si_ne (by decide)
  generalize ksi (ksu S 15 (fi S.1 16).toNatClampNeg (x + ((32 : Int32) * y))) 16 (fi S.1 16 + 1) = U at hF e16 e15 e17 e18 ea e19 e20 ⊢
  have e1 := inc1 (x := fi S.1 16) (by omega)
  have e21 : fi U.1 21 = fi S.1 21 := hF.1.1 21 (by decide)
  have e14 : ar U.1 14 = ar S.1 14 := hF.1.2.2.1 14 (by decide)
  have ep : pn U = pn S := by
    unfold pn
    rw [e15, e14]
  refine k U ⟨hF, ⟨⟨TKr_kf q1 hF (by decide), q2⟩, ?_, ?_, by rw [e17]; exact h5, by rw [e18]; exact h6⟩, by omega, by rw [e16, e1]⟩ ⟨rfl, ZS_kf hz hF (by decide) (by rw [e15]; exact hz.2.2), ⟨?_, ?_, ?_, e19, e20⟩, e17, e18⟩
  · rw [e15, e21]; exact h3
  · rw [e16, ep, e1]; omega
  · rw [e16, e1]; rfl
  · intro i hi
    rw [ea, upd_ne (by omega)]
  · intro i z hi
    have hi0 : i = 0 := by
      cases i with
      | zero => rfl
      | succ i => exact absurd hi (by simp [ypEm])
    rw [hi0] at hi ⊢
    have hzz : (x, y) = z := by
      have : some (x, y) = some z := hi
      exact Option.some.inj this
    rw [ea, Nat.add_zero, upd_at, ← hzz]
set_option maxHeartbeats 800000 in
theorem r_5_persons1E (cy : Nat → ClassId) (tE : Nat) (S : KS) (post : Int32 → KS → Prop) (b : Int) (Z : TS) (j : Nat) (h : RD b S) (hz : ZS Z j S) (k0 : ∀ S', KFr S S' → XB Z S' (ypPe Z false j) → post (-1) S') (k1 : ∀ S' d, ((Z.1 j - 21).toInt = 0 ∨ (Z.1 j - 21).toInt = 1) → 1 ≤ d → Mv b S S' d 0 → XG Z S S' (ypPe Z false j) → post (Z.1 j - 21) S') : w_X5_readPersons cy tE S 1 post := by
  obtain ⟨c0, c31, -, cs⟩ := ZS_k h hz
  have g17 := (RD_g h).1
  unfold w_X5_readPersons
  refine r_5_kindE cy tE S _ b Z j h hz ?_
  have b25 : ((Z.1 j).toInt = 21 ∨ (Z.1 j).toInt = 22) → w_X5_readPersons_B25 cy tE post S 1 (Z.1 j - 21) := by
    intro hk
    obtain ⟨hN, hX⟩ := RD_nxE h hz (by omega)
    have hw := wdt_ge ((Z.1 j).toInt)
    have eP : ypPe Z false j = ypFl (decide ((Z.1 j).toInt = 22)) false (j + 1) := by
      unfold ypPe
      rw [if_pos hk, if_neg (by decide)]
    unfold w_X5_readPersons_B25
    generalize ksi S 15 (fi S.1 15 + 1) = U at hN hX ⊢
    have e17 : fi U.1 17 = fi S.1 17 := hX.2.2.2.1
    have b58 : ∀ y : Int32, y = orF (fi S.1 17) (decide ((Z.1 j).toInt = 22)) → w_X5_readPersons_B58 cy tE post U 1 (Z.1 j - 21) y := by
      intro y hy
      have hy2 : y = 0 ∨ y = 1 := by rw [hy]; exact orF_01 g17
      unfold w_X5_readPersons_B58
      refine ⟨hy2, fun g => absurd (by decide) g, fun _ => k1 _ _ (by rw [cs]; omega) (by omega) (Mv_tr hN (RD_17 hN.2.1 hy2)) ?_⟩
      rw [eP]
      have hh := XG_17 (x := decide ((Z.1 j).toInt = 22)) (y := y) hX (by rw [e17]; exact hy)
      exact hh
    have b53 : (fi S.1 17 = 1 ∨ (Z.1 j).toInt = 22) → w_X5_readPersons_B53 cy tE post U 1 (Z.1 j - 21) := fun hc => b58 1 (orF_y hc)
    exact ⟨fun g => b53 (Or.inl (fl_1 g17 g)), fun g => ⟨fun g2 => b53 (Or.inr (by rw [cs] at g2; omega)), fun g2 => ⟨fun _ => b58 0 (orF_n (fl_0 g) (by rw [cs] at g2; omega)), fun g3 => absurd g3 (by decide)⟩⟩⟩
  refine ⟨fun g => b25 (Or.inl (by rw [cs] at g; omega)), fun g1 => ⟨fun g => b25 (Or.inr (by rw [cs] at g; omega)), fun g2 => r_5_refuseE cy tE S 1 _ b Z j h hz 1 (by decide) (by decide) (fun W hW hB => k0 _ hW ?_)⟩⟩
  have e : ypPe Z false j = ypNo 1 j := if_neg (by rw [cs] at g1 g2; omega)
  rw [e]
  exact hB
set_option maxHeartbeats 800000 in
theorem r_5_persons2E (cy : Nat → ClassId) (tE : Nat) (S : KS) (post : Int32 → KS → Prop) (b : Int) (Z : TS) (j : Nat) (h : RD b S) (hz : ZS Z j S) (k0 : ∀ S', KFr S S' → XB Z S' (ypPe Z true j) → post (-1) S') (k1 : ∀ S' d, ((Z.1 j - 21).toInt = 0 ∨ (Z.1 j - 21).toInt = 1) → 1 ≤ d → Mv b S S' d 0 → XG Z S S' (ypPe Z true j) → post (Z.1 j - 21) S') : w_X5_readPersons cy tE S 2 post := by
  obtain ⟨c0, c31, -, cs⟩ := ZS_k h hz
  have l21 : (21 : Int32).toInt = 21 := by decide
  have l22 : (22 : Int32).toInt = 22 := by decide
  unfold w_X5_readPersons
  refine r_5_kindE cy tE S _ b Z j h hz ?_
  have b25 : ((Z.1 j).toInt = 21 ∨ (Z.1 j).toInt = 22) → w_X5_readPersons_B25 cy tE post S 2 (Z.1 j - 21) := by
    intro hk
    obtain ⟨hN, hX⟩ := RD_nxE h hz (by omega)
    have hw := wdt_ge ((Z.1 j).toInt)
    unfold w_X5_readPersons_B25
    generalize ksi S 15 (fi S.1 15 + 1) = U at hN hX ⊢
    have b53 : w_X5_readPersons_B53 cy tE post U 2 (Z.1 j - 21) := by
      unfold w_X5_readPersons_B53 w_X5_readPersons_B58
      have hY := Mv_tr hN (RD_17 (y := 1) hN.2.1 (Or.inr rfl))
      have hXY : XG Z S (ksi U 17 1) (ypFl true false (j + 1)) := XG_17 (x := true) hX rfl
      refine ⟨Or.inr rfl, fun _ => ?_, fun g => absurd g (by decide)⟩
      generalize ksi U 17 1 = V at hY hXY ⊢
      have hzV : ZS Z (j + 1) V := hXY.2.1
      have b83 : ∀ z : Int32, z.toInt = 43 - (Z.1 j).toInt → w_X5_readPersons_B83 cy tE post V (Z.1 j - 21) z (Z.1 (j + 1)) := by
        intro z hzz
        unfold w_X5_readPersons_B83
        refine ⟨fun g => ?_, fun g => r_5_refuseE cy tE V 1 _ b Z (j + 1) hY.2.1 hzV 1 (by decide) (by decide) (fun W hW hB => k0 _ (KF_tr hY.1 hW) ?_)⟩
        · obtain ⟨hN2, hX2⟩ := RD_nxE hY.2.1 hzV (by omega)
          have hw2 := wdt_ge ((Z.1 (j + 1)).toInt)
          refine k1 _ _ (by rw [cs]; omega) (by omega) (Mv_tr hY hN2) ?_
          have eP : ypPe Z true j = ypFl true false (j + 2) := by
            unfold ypPe
            rw [if_pos hk, if_pos rfl, if_pos (by omega)]
          rw [eP]
          have hh := XG_tr (f := fun i => ypOk (i + 1)) (RD_l0 h) hXY hX2
          exact hh
        · have eP : ypPe Z true j = ypNo 1 (j + 1) := by
            unfold ypPe
            rw [if_pos hk, if_pos rfl, if_neg (by omega)]
          rw [eP]; exact hB
      exact r_5_kindE cy tE V _ b Z (j + 1) hY.2.1 hzV ⟨fun g => b83 _ (by rw [cs] at g; omega), fun g => b83 _ (by rw [cs] at g; omega)⟩
    exact ⟨fun _ => b53, fun _ => ⟨fun _ => b53, fun _ => ⟨fun g => absurd (by decide) g, fun _ => b53⟩⟩⟩
  refine ⟨fun g => b25 (Or.inl (by rw [cs] at g; omega)), fun g1 => ⟨fun g => b25 (Or.inr (by rw [cs] at g; omega)), fun g2 => r_5_refuseE cy tE S 1 _ b Z j h hz 1 (by decide) (by decide) (fun W hW hB => k0 _ hW ?_)⟩⟩
  have e : ypPe Z true j = ypNo 1 j := if_neg (by rw [cs] at g1 g2; omega)
  rw [e]
  exact hB
set_option maxHeartbeats 800000 in
theorem r_5_readOperandE (cy : Nat → ClassId) (tE : Nat) (S : KS) (post : Int32 → KS → Prop) (b : Int) (Z : TS) (j : Nat) (h : RD b S) (hz : ZS Z j S) (k0 : ∀ S', KFr S S' → XB Z S' (ypOp Z j) → post 0 S') (k1 : ∀ S' d, 1 ≤ d → Mv b S S' d 1 → XG Z S S' (ypOp Z j) → post 1 S') : w_X5_readOperand cy tE S post := by
  obtain ⟨c0, c31, cn, cs⟩ := ZS_k h hz
  have hl := RD_l h
  have hw := wdt_ge ((Z.1 j).toInt)
  unfold w_X5_readOperand
  refine r_5_kindE cy tE S _ b Z j h hz ?_
  have no : ((Z.1 j).toInt ≠ 2 ∧ (Z.1 j).toInt ≠ 14 ∧ (Z.1 j).toInt ≠ 7 ∧ (Z.1 j).toInt ≠ 19 ∧ (Z.1 j).toInt ≠ 20 ∧ (Z.1 j).toInt ≠ 8 ∧ (Z.1 j).toInt ≠ 11 ∧ (Z.1 j).toInt ≠ 18) → w_X5_readOperand_B170 cy tE post S := by
    intro g
    refine r_5_refuseE cy tE S 1 _ b Z j h hz 1 (by decide) (by decide) (fun W hW hB => ⟨Or.inl rfl, k0 _ hW ?_⟩)
    have e : ypOp Z j = ypNo 1 j := by
      unfold ypOp
      rw [if_neg (by omega), if_neg (by omega), if_neg (by omega), if_neg (by omega)]
    rw [e]; exact hB
  have b176 : ∀ (T : KS) (d : Int) (y : Int32) (r : YR), 1 ≤ d → Mv b S T d 0 → XG Z S T r → y.toInt ≠ -1 → ypOp Z j = ypBn r (fun i => (0, i, [(Z.1 j, y)], false, decide ((Z.1 j).toInt = 19))) → w_X5_readOperand_B176 cy tE post T (Z.1 j) y := by
    intro T d y r hd hT hX hy he
    unfold w_X5_readOperand_B176
    have g18 := (RD_g hT.2.1).2
    have b202 : ∀ z : Int32, z = orF (fi T.1 18) (decide ((Z.1 j).toInt = 19)) → w_X5_readOperand_B202 cy tE post T (Z.1 j) y z := by
      intro z hzz
      have hz2 : z = 0 ∨ z = 1 := by rw [hzz]; exact orF_01 g18
      unfold w_X5_readOperand_B202
      have hZ := Mv_tr hT (RD_18 hT.2.1 hz2)
      have hXZ := XG_18 hX hzz
      have hZc := Mv_c hZ
      refine ⟨hz2, r_5_emitE cy tE _ _ _ _ b Z r.2.1 hZ.2.1 hXZ.2.1 (by omega) (fun V hV hXV => k1 V (d + 0 + 0) (by omega) (Mv_tr hZ hV) ?_)⟩
      have hh := XG_tr (f := ypEm (Z.1 j) y) (RD_l0 h) hXZ hXV
      rw [ypBn_g hXZ.1] at hh
      rw [he, ypBn_g hX.1]
      simp only [ypEm, Bool.or_false] at hh ⊢
      exact hh
    have b197 : (fi T.1 18 = 1 ∨ (Z.1 j).toInt = 19) → w_X5_readOperand_B197 cy tE post T (Z.1 j) y := fun hc => b202 1 (orF_y hc)
    exact ⟨fun _ => ⟨fun g => b197 (Or.inl (fl_1 g18 g)), fun g => ⟨fun g2 => b202 0 (orF_n (fl_0 g) g2), fun g2 => b197 (Or.inr g2)⟩⟩, fun g => absurd g hy⟩
  have p1 : ((Z.1 j).toInt = 7 ∨ (Z.1 j).toInt = 19 ∨ (Z.1 j).toInt = 20) → w_X5_readOperand_B132 cy tE post S (Z.1 j) := by
    intro hk
    obtain ⟨hN, hX⟩ := RD_nxE h hz (by omega)
    have e : ypOp Z j = ypBn (ypPe Z false (j + 1)) (fun i => (0, i, [(Z.1 j, Z.1 (j + 1) - 21)], false, decide ((Z.1 j).toInt = 19))) := by
      unfold ypOp
      rw [if_neg (by omega), if_neg (by omega), if_pos hk]
    unfold w_X5_readOperand_B132
    refine r_5_persons1E cy tE _ _ b Z (j + 1) hN.2.1 hX.2.1 (fun T hT hB => ⟨fun g => absurd (by decide) g, fun _ => k0 _ (KF_tr hN.1 hT) (by rw [e]; exact XB_l hB)⟩) (fun T d hr hd hT hXT => b176 T _ _ (ypPe Z false (j + 1)) (by omega) (Mv_tr hN hT) (XG_t0 (RD_l0 h) hX hXT) (by omega) e)
  have p2 : ((Z.1 j).toInt = 8 ∨ (Z.1 j).toInt = 11 ∨ (Z.1 j).toInt = 18) → w_X5_readOperand_B151 cy tE post S (Z.1 j) := by
    intro hk
    obtain ⟨hN, hX⟩ := RD_nxE h hz (by omega)
    have e : ypOp Z j = ypBn (ypPe Z true (j + 1)) (fun i => (0, i, [(Z.1 j, Z.1 (j + 1) - 21)], false, decide ((Z.1 j).toInt = 19))) := by
      unfold ypOp
      rw [if_neg (by omega), if_neg (by omega), if_neg (by omega), if_pos hk]
    unfold w_X5_readOperand_B151
    refine r_5_persons2E cy tE _ _ b Z (j + 1) hN.2.1 hX.2.1 (fun T hT hB => ⟨fun g => absurd (by decide) g, fun _ => k0 _ (KF_tr hN.1 hT) (by rw [e]; exact XB_l hB)⟩) (fun T d hr hd hT hXT => b176 T _ _ (ypPe Z true (j + 1)) (by omega) (Mv_tr hN hT) (XG_t0 (RD_l0 h) hX hXT) (by omega) e)
  have p3 : (Z.1 j).toInt = 2 → w_X5_readOperand_B176 cy tE post (ksi S 15 (fi S.1 15 + 1)) (Z.1 j) (Z.2.1 j).toInt32 := by
    intro g
    obtain ⟨hN, hX⟩ := RD_nxE h hz (by omega)
    refine b176 _ _ _ (ypOk (j + 1)) hw.1 hN hX (cn g) ?_
    unfold ypOp
    rw [if_pos g, ypBn_ok, decide_eq_false (by omega)]
    rfl
  have p4 : (Z.1 j).toInt = 14 → w_X5_readOperand_B176 cy tE post (ksi S 15 (fi S.1 15 + 1)) (Z.1 j) 0 := by
    intro g
    obtain ⟨hN, hX⟩ := RD_nxE h hz (by omega)
    refine b176 _ _ _ (ypOk (j + 1)) hw.1 hN hX (by decide) ?_
    unfold ypOp
    rw [if_neg (by omega), if_pos g, ypBn_ok, decide_eq_false (by omega)]
    rfl
  exact ⟨fun g => r_5_valueE cy tE S _ b Z j h hz (p3 g), fun _ => no (by omega), fun _ => no (by omega), fun _ => no (by omega), fun _ => no (by omega), fun g => p1 (Or.inl g), fun g => p2 (Or.inl g), fun _ => no (by omega), fun _ => no (by omega), fun g => p2 (Or.inr (Or.inl g)), fun _ => no (by omega), fun _ => no (by omega), fun g => p4 g, fun _ => no (by omega), fun _ => no (by omega), fun _ => no (by omega), fun g => p2 (Or.inr (Or.inr g)), fun g => p1 (Or.inr (Or.inl g)), fun g => p1 (Or.inr (Or.inr g)), fun g => no (by omega)⟩

set_option maxHeartbeats 800000 in
theorem r_5_readSumE (cy : Nat → ClassId) (tE : Nat) (S : KS) (post : Int32 → KS → Prop) (b : Int) (Z : TS) (j : Nat) (h : RD b S) (hz : ZS Z j S) (k0 : ∀ S', KFr S S' → XB Z S' (ypSum Z j) → post 0 S') (k1 : ∀ S' d l, 1 ≤ l → l ≤ d → (l = d → l % 2 = 1) → Mv b S S' d l → XG Z S S' (ypSum Z j) → post 1 S') : w_X5_readSum cy tE S post := by
  have hl := RD_l h
  have hl0 := RD_l0 h
  have hcS := (RD_c h).1
  have e0 : ypSum Z j = ypFL Z 26 24 25 (ypOp Z) (ypOp Z j) ypOk 800 800 := ypFL_st Z 26 24 25 (ypOp Z) j
  generalize ypSum Z j = RES at e0 k0 k1
  unfold w_X5_readSum
  refine r_5_readOperandE cy tE S _ b Z j h hz (fun T hT hB => ⟨fun g => absurd li_0 g, fun _ => k0 _ hT (by rw [e0, ypFL_b hB.1]; exact hB)⟩) (fun T d hd hT hX => ⟨fun _ => ?_, fun g => absurd g (by decide)⟩)
  refine lr3 (fun (U : KS) (w i : Int32) => (∃ (d l e : Int) (acc : YR) (q : Nat → YR) (nt np : Nat), (Mv b S U d l ∧ 1 ≤ l ∧ ((w.toInt = -1 ∧ e = 0 ∧ q = ypOk) ∨ (w.toInt ≠ -1 ∧ e = 1 ∧ q = ypEm w 0)) ∧ l + e ≤ d ∧ (l + e = d → (l + e) % 2 = 1)) ∧ XG Z S U acc ∧ RES = ypFL Z 26 24 25 (ypOp Z) acc q nt np ∧ 800 ≤ nt + acc.2.1 ∧ 800 ≤ np + acc.2.1 ∧ i.toInt ≤ (acc.2.1 : Int)) ∧ 0 ≤ i.toInt ∧ i.toInt ≤ 701) (fun _ _ i => (701 - i.toInt).toNat) ?_ _ _ _ ⟨⟨d, 1, 0, ypOp Z j, ypOk, 800, 800, ⟨hT, by omega, Or.inl ⟨by decide, rfl, rfl⟩, by omega, by omega⟩, hX, e0, by omega, by omega, by rw [li_0]; omega⟩, by decide, by decide⟩
  clear hT hd d hX T
  rintro kk T w i ⟨⟨d, l, e, acc, q, nt, np, ⟨hT, hl1, he, hle, hpar⟩, hX, hR, hnt, hnp, hia⟩, i0, i1⟩ hk
  have hTc := Mv_c hT
  have cT := (RD_c hT.2.1).1
  have hRT := RD_l hT.2.1
  have hRT0 := RD_l0 hT.2.1
  have hzT : ZS Z acc.2.1 T := hX.2.1
  have hpos := hT.2.1.2.1.2
  rw [hzT.2.2] at hpos
  have hq : (q acc.2.1).1 = 0 ∧ (q acc.2.1).2.1 = acc.2.1 := by
    rcases he with ⟨-, -, e⟩ | ⟨-, -, e⟩ <;> rw [e] <;> exact ⟨rfl, rfl⟩
  unfold w_X5_readSum_F13
  have out : ((Z.1 acc.2.1).toInt ≠ 26 ∧ (Z.1 acc.2.1).toInt ≠ 24 ∧ (Z.1 acc.2.1).toInt ≠ 25) → w_X5_readSum_B107 cy tE post T w := by
    intro hn
    have eR := hR.trans (ypFL_no hn hq)
    unfold w_X5_readSum_B107 w_X5_readSum_B118
    refine ⟨fun g => k1 T d l hl1 (by omega) (by omega) hT ?_, fun g => r_5_emitE cy tE T _ _ _ b Z acc.2.1 hT.2.1 hzT (by omega) (fun V hV hXV => k1 V (d + 0) (l + 1) (by omega) (by omega) (by omega) (Mv_tr hT hV) ?_)⟩
    · have eq : q = ypOk := by
        rcases he with ⟨-, -, e⟩ | ⟨e, -, -⟩
        · exact e
        · exact absurd g e
      rw [eR, eq, ypBn_r]; exact hX
    · have eq : q = ypEm w 0 := by
        rcases he with ⟨e, -, -⟩ | ⟨-, -, e⟩
        · exact absurd e g
        · exact e
      rw [eR, eq]
      exact XG_tr hl0 hX hXV
  have b79T : ∀ (U : KS) (d2 : Int), (Z.1 acc.2.1).toInt = 26 → Mv b S U d2 l → XG Z T U (ypOk (acc.2.1 + 1)) → l + e + 1 ≤ d2 → (l + e + 1 = d2 → (l + e) % 2 = 1) → w_X5_readSum_B79 cy tE post kk (w_X5_readSum_B107 cy tE post) U w i (Z.1 acc.2.1) := by
    intro U d2 gx hU hXU a3 a4
    obtain ⟨n, hn⟩ : ∃ n, nt = n + 1 := ⟨nt - 1, by omega⟩
    have e26 : Z.1 acc.2.1 = 26 := i_eq (by rw [gx]; decide)
    rw [hn] at hR
    have hR2 := hR.trans (ypFL_in gx)
    unfold w_X5_readSum_B79 w_X5_readSum_B101
    refine r_5_readOperandE cy tE U _ b Z (acc.2.1 + 1) hU.2.1 hXU.2.1 (fun V hV hB => ⟨fun g => absurd li_0 g, fun _ => k0 _ (KF_tr hU.1 hV) ?_⟩) (fun V d' hd' hV hXV => ⟨fun _ => ⟨fun g => absurd gx g, fun _ => ?_⟩, fun g => absurd g (by decide)⟩)
    · have hB2 : XB Z V (ypBn acc (fun i => ypBn (ypOp Z (i + 1)) (ypEm (Z.1 i) 0))) := XB_tr hX (XB_l hB)
      rw [hR2, ypFL_b hB2.1]; exact hB2
    have hV2 := Mv_tr hU hV
    have hVc := Mv_c hV2
    refine r_5_emitE cy tE V _ _ _ b Z (ypOp Z (acc.2.1 + 1)).2.1 hV.2.1 hXV.2.1 (by omega) (fun W hW hXW => ?_)
    have hXT : XG Z T W (ypBn (ypOp Z (acc.2.1 + 1)) (ypEm (Z.1 acc.2.1) 0)) := by
      rw [e26]
      exact XG_tr hRT0 (XG_t0 hRT0 hXU hXV) hXW
    have hXS : XG Z S W (ypBn acc (fun i => ypBn (ypOp Z (i + 1)) (ypEm (Z.1 i) 0))) := XG_tr hl0 hX hXT
    have hp : (ypBn acc (fun i => ypBn (ypOp Z (i + 1)) (ypEm (Z.1 i) 0))).2.1 = (ypOp Z (acc.2.1 + 1)).2.1 := by
      rw [ypBn_2 hXS.1, ypBn_2 hXT.1]
      rfl
    have hlt := ypOp_lt hXV.1
    exact hk _ _ _ ⟨⟨_, _, e, _, q, n, np, ⟨Mv_tr hV2 hW, by omega, he, by omega, by omega⟩, hXS, hR2, by omega, by omega, by rw [inc1 (by omega)]; omega⟩, by rw [inc1 (by omega)]; omega, by rw [inc1 (by omega)]; omega⟩ (by rw [inc1 (by omega)]; omega)
  have b79P : ∀ (U : KS) (d2 l2 : Int), ((Z.1 acc.2.1).toInt = 24 ∨ (Z.1 acc.2.1).toInt = 25) → Mv b S U d2 l2 → XG Z T U (ypBn (q acc.2.1) (fun i => ypOk (i + 1))) → 1 ≤ l2 → l2 + 1 ≤ d2 → (l2 + 1 = d2 → l2 % 2 = 1) → w_X5_readSum_B79 cy tE post kk (w_X5_readSum_B107 cy tE post) U (Z.1 acc.2.1) i (Z.1 acc.2.1) := by
    intro U d2 l2 gx hU hXU a1 a3 a4
    obtain ⟨n, hn⟩ : ∃ n, np = n + 1 := ⟨np - 1, by omega⟩
    rw [hn] at hR
    have hR2 := hR.trans (ypFL_out gx (by omega) hq)
    have hzU : ZS Z (acc.2.1 + 1) U := by
      have hh := hXU.2.1
      rw [ypBn_2 hXU.1, hq.2] at hh
      exact hh
    have eqf : ypBn (ypBn acc q) (fun i => ypOp Z (i + 1)) = ypBn acc (fun i => ypBn (ypBn (q i) (fun i => ypOk (i + 1))) (ypOp Z)) := by
      rw [ypBn_as]
      refine ypBn_c (fun _ => ?_)
      show ypBn (q acc.2.1) _ = ypBn (ypBn (q acc.2.1) _) _
      rw [ypBn_as]
      exact ypBn_c (fun _ => (ypBn_ok _ _).symm)
    unfold w_X5_readSum_B79 w_X5_readSum_B101
    have hp0 : (ypBn (q acc.2.1) (fun i => ypOk (i + 1))).2.1 = acc.2.1 + 1 := by rw [ypBn_2 hXU.1, hq.2]; rfl
    refine r_5_readOperandE cy tE U _ b Z (acc.2.1 + 1) hU.2.1 hzU (fun V hV hB => ⟨fun g => absurd li_0 g, fun _ => k0 _ (KF_tr hU.1 hV) ?_⟩) (fun V d' hd' hV hXV => ⟨fun _ => ⟨fun g => ?_, fun g => by exfalso; omega⟩, fun g => absurd g (by decide)⟩)
    · have hB2 : XB Z V (ypBn (ypBn acc q) (fun i => ypOp Z (i + 1))) := by
        rw [eqf]
        exact XB_tr hX (XB_tr hXU (by rw [hp0]; exact hB))
      rw [hR2, ypFL_b hB2.1]; exact hB2
    · have hXS : XG Z S V (ypBn (ypBn acc q) (fun i => ypOp Z (i + 1))) := by
        rw [eqf]
        exact XG_tr hl0 hX (XG_tr hRT0 hXU (by rw [hp0]; exact hXV))
      have hp : (ypBn (ypBn acc q) (fun i => ypOp Z (i + 1))).2.1 = (ypOp Z (acc.2.1 + 1)).2.1 := by
        have h1 := ypBn_1 hXS.1
        rw [ypBn_2 hXS.1, ypBn_2 h1.1, hq.2]
      have hlt := ypOp_lt hXV.1
      exact hk _ _ _ ⟨⟨_, _, 1, _, _, 800, n, ⟨Mv_tr hU hV, by omega, Or.inr ⟨by omega, rfl, rfl⟩, by omega, by omega⟩, hXS, hR2, by omega, by omega, by rw [inc1 (by omega)]; omega⟩, by rw [inc1 (by omega)]; omega, by rw [inc1 (by omega)]; omega⟩ (by rw [inc1 (by omega)]; omega)
  have b50 : ((Z.1 acc.2.1).toInt = 24 ∨ (Z.1 acc.2.1).toInt = 25 ∨ (Z.1 acc.2.1).toInt = 26) → w_X5_readSum_B50 cy tE post kk (w_X5_readSum_B107 cy tE post) T w i (Z.1 acc.2.1) := by
    intro gk
    obtain ⟨hN1, hXN⟩ := RD_nxE hT.2.1 hzT (by omega)
    have hN := Mv_tr hT hN1
    have hw := wdt_ge ((Z.1 acc.2.1).toInt)
    have hNc := Mv_c hN
    unfold w_X5_readSum_B50 w_X5_readSum_B77
    refine ⟨fun g => b79T _ _ g (by rw [Int.add_zero] at hN; exact hN) hXN (by omega) (by omega), fun g => ⟨fun g2 => b79P _ _ _ (by omega) hN ?_ (by omega) (by omega) (by omega), fun g2 => ?_⟩⟩
    · have eq : q = ypOk := by
        rcases he with ⟨-, -, e⟩ | ⟨e, -, -⟩
        · exact e
        · exact absurd g2 e
      rw [eq]
      exact hXN
    · refine r_5_emitE cy tE _ _ _ _ b Z (acc.2.1 + 1) hN.2.1 hXN.2.1 (by omega) (fun W hW hXW => b79P _ _ _ (by omega) (Mv_tr hN hW) ?_ (by omega) (by omega) (by omega))
      have eq : q = ypEm w 0 := by
        rcases he with ⟨e, -, -⟩ | ⟨-, -, e⟩
        · exact absurd e g2
        · exact e
      rw [eq]
      have hh := XG_tr (f := ypEm w 0) hRT0 hXN hXW
      exact hh
  refine ⟨fun g => by exfalso; omega, fun gi => r_5_kindE cy tE T _ b Z acc.2.1 hT.2.1 hzT ⟨fun g => b50 (Or.inl g), fun g1 => ⟨fun g => b50 (Or.inr (Or.inl g)), fun g2 => ⟨fun g => b50 (Or.inr (Or.inr g)), fun g3 => out ⟨g3, g1, g2⟩⟩⟩⟩⟩

