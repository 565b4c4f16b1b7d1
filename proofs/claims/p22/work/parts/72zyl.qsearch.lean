/-- where a STATE would be first, by the reference -/
def hRi (st : Int64) : Int32 := (((st ^^^ ((st).toUInt64 >>> ((17 : Int32).toInt64.toUInt64 &&& Int64.toUInt64 63)).toInt64) ^^^ ((st).toUInt64 >>> ((34 : Int32).toInt64.toUInt64 &&& Int64.toUInt64 63)).toInt64) &&& 1023 : Int64).toInt32
def hR (st : Int64) : Nat := (hRi st).toInt.toNat
theorem hR_r (st : Int64) : (hRi st).toInt = (hR st : Int) ∧ hR st < 1024 := by
  have h : 0 ≤ (hRi st).toInt ∧ (hRi st).toInt ≤ 1023 := l_ai (c := 1023) 1023 (by decide) (by decide) (by decide)
  unfold hR
  exact ⟨by omega, by omega⟩
/-- the reference's table -/
abbrev mTb (S : GS) : Nat → Int := fun p => (ar S 29 p).toInt
abbrev mH (S : GS) : Nat → Nat := fun j => hR (al S 0 j)
set_option maxHeartbeats 400000 in
theorem q_placeE (S : GS) (st : Int64) (post : Int32 → GS → Prop) (n : Nat) (hT : TBI (mH S) (mTb S) n) (hn : n ≤ 400) (k : ∀ (r : Int32) (d : Nat), d < 1024 → r.toInt = (((hR st + d) % 1024 : Nat) : Int) → (∀ d', d' < d → mTb S ((hR st + d') % 1024) ≠ -1) → ((mTb S ((hR st + d) % 1024) = -1 ∧ ∀ j, j < n → al S 0 j ≠ st) ∨ (mTb S ((hR st + d) % 1024) ≠ -1 ∧ ∃ j, j < n ∧ al S 0 j = st)) → post r S) : w_X12_place S st post := by
  unfold w_X12_place
  obtain ⟨d0, d01, d02⟩ := TBI_f hT hn (hR st)
  obtain ⟨hr1, hr2⟩ := hR_r st
  refine lr3 (fun (T : GS) (v : Int64) (x : Int32) => T = S ∧ v = st ∧ ∃ d : Nat, d ≤ d0 ∧ x.toInt = (((hR st + d) % 1024 : Nat) : Int) ∧ ∀ d', d' < d → mTb S ((hR st + d') % 1024) ≠ -1 ∧ ¬ (al S 0 (mTb S ((hR st + d') % 1024)).toNat = st)) (fun _ _ x => 1024 - (x.toInt.toNat + 1024 - hR st) % 1024) ?_ _ _ _ ⟨rfl, rfl, 0, Nat.zero_le _, ?_, fun d' hd' => absurd hd' (Nat.not_lt_zero _)⟩
  rotate_left
  · show (hRi st).toInt = _
    rw [hr1]
    omega
  rintro kk T v x ⟨rfl, rfl, d, hd, hx, hp⟩ hk
  unfold w_X12_place_F17 w_X12_place_B54
  have hlt : (hR v + d) % 1024 < 1024 := Nat.mod_lt _ (by decide)
  have xn : x.toNatClampNeg = (hR v + d) % 1024 := by rw [tnc, hx]; omega
  have fin : (mTb T ((hR v + d) % 1024) = -1 ∨ al T 0 (mTb T ((hR v + d) % 1024)).toNat = v) → post x T := fun he => k _ d (by omega) hx (fun d' hd' => (hp d' hd').1) (TBI_s hT hn (fun j => al T 0 j = v) (fun j _ hj => congrArg hR (show al T 0 j = v from hj)) hr2 hp he (by omega))
  have b : mTb T ((hR v + d) % 1024) = -1 ∨ (0 ≤ mTb T ((hR v + d) % 1024) ∧ mTb T ((hR v + d) % 1024) < (n : Int)) := hT.1 _ hlt
  have eT : mTb T ((hR v + d) % 1024) = (ar T 29 ((hR v + d) % 1024)).toInt := rfl
  have en : (ar T 29 ((hR v + d) % 1024)).toNatClampNeg = (mTb T ((hR v + d) % 1024)).toNat := tnc _
  rw [xn, en]
  refine ⟨by omega, fun h => fin (Or.inl (by omega)), fun h => ⟨by omega, by omega, fun heq => fin (Or.inr (lg_eq heq)), fun hne => ?_⟩⟩
  have dn : d ≠ d0 := fun e => by
    rw [← e] at d02
    omega
  have ha := and1023 (x := x) ⟨by omega, by omega⟩
  refine hk _ _ _ ⟨rfl, rfl, d + 1, by omega, by rw [ha, hx]; omega, fun d' hd' => ?_⟩ (by rw [ha, hx]; omega)
  by_cases e : d' = d
  · rw [e]
    exact ⟨by omega, fun z => hne (by rw [z]; exact lg_rf v)⟩
  · exact hp d' (by omega)
/-- the reference's rows are L -/
def QSr (S : GS) (L : List BE) : Prop := (fi S 21).toInt = (L.length : Int) ∧ L.length ≤ 400 ∧ (∀ (j : Nat) (e : BE), L[j]? = some e → (al S 0 j).toInt = pkI e.1 ∧ (ar S 28 j).toInt = (e.2 : Int) ∧ GJ e.1) ∧ TBI (mH S) (mTb S) L.length
theorem QSr_fr {I Q A N : List Nat} {S S' : GS} {L : List BE} (h : QSr S L) (f : Fr I Q A N S S') (c : 21 ∉ I ∧ 28 ∉ A ∧ 29 ∉ A ∧ 0 ∉ N) : QSr S' L := by
  have e1 : fi S' 21 = fi S 21 := f.1 21 c.1
  have e2 : ar S' 28 = ar S 28 := f.2.2.1 28 c.2.1
  have e3 : ar S' 29 = ar S 29 := f.2.2.1 29 c.2.2.1
  have e4 : al S' 0 = al S 0 := f.2.2.2 0 c.2.2.2
  unfold QSr mH mTb at *
  rw [e1, e2, e3, e4]
  exact h
theorem QSr_m {S : GS} {L : List BE} {g : SV} {st : Int64} (h : QSr S L) (hst : st.toInt = pkI g) : (∃ e ∈ L, pkI e.1 = pkI g) ↔ ∃ j, j < L.length ∧ al S 0 j = st := by
  obtain ⟨-, -, hE, -⟩ := h
  refine ⟨fun ⟨e, he, h1⟩ => ?_, fun ⟨j, hj, h1⟩ => ?_⟩
  · obtain ⟨j, hj⟩ := List.mem_iff_getElem?.mp he
    refine ⟨j, gt_lt hj, Int64.toInt_inj.mp ?_⟩
    rw [(hE j e hj).1, hst]
    exact h1
  · have hget := List.getElem?_eq_getElem hj
    refine ⟨L[j], List.getElem_mem hj, ?_⟩
    rw [← (hE j _ hget).1, h1, hst]
set_option maxHeartbeats 1000000 in
theorem q_meetsE (S : GS) (st : Int64) (from' c : Int32) (post : GS → Prop) (L : List BE) (g : SV) (d : Nat) (hS : SInv S) (hQ : QSr S L) (hlen : L.length < 400) (hno : ¬ ∃ e ∈ L, pkI e.1 = pkI g) (hg : GJ g) (hst : st.toInt = pkI g) (hb : (from'.toInt = -1 ∧ d = 0) ∨ ∃ (b : Nat) (e : BE), from'.toInt = (b : Int) ∧ L[b]? = some e ∧ d = e.2 + 1 ∧ (d : Int) ≤ 2147483647) (k : ∀ S', Fr [21] [] [26, 27, 28, 29, 30] [0] S S' → SInv S' → QSr S' (L ++ [(g, d)]) → post S') : w_X12_meets S st from' c post := by
  unfold w_X12_meets w_X12_meets_B85
  have hm := QSr_m hQ hst
  obtain ⟨q21, q400, qE, qT⟩ := id hQ
  have h4 : (fi S 21).toInt < 400 := by omega
  have hf : from'.toInt = -1 ∨ (0 ≤ from'.toInt ∧ from'.toInt < (fi S 21).toInt) := by
    rcases hb with ⟨h, -⟩ | ⟨b, e, h, hl, -⟩
    · exact Or.inl h
    · have := gt_lt hl
      exact Or.inr (by omega)
  refine q_placeE S st _ L.length qT q400 (fun r d0 hd0 hr hpath hcase => ?_)
  have hfree : mTb S ((hR st + d0) % 1024) = -1 := by
    rcases hcase with ⟨q, -⟩ | ⟨-, q⟩
    · exact q
    · exact absurd (hm.mpr q) hno
  have hlt : (hR st + d0) % 1024 < 1024 := Nat.mod_lt _ (by decide)
  have rn : r.toNatClampNeg = (hR st + d0) % 1024 := by rw [tnc, hr]; omega
  have h0 := hS.1
  have fin : ∀ y : Int32, y.toInt = (d : Int) → ((from'.toInt = -1 ∧ y.toInt = 0) ∨ (0 ≤ from'.toInt ∧ y.toInt = (ar S 28 from'.toNatClampNeg).toInt + 1)) → post (si (su (su (su (sv (su (su S 29 r.toNatClampNeg (fi S 21)) 30 (fi S 21).toNatClampNeg r) 0 (fi S 21).toNatClampNeg st) 26 (fi S 21).toNatClampNeg from') 27 (fi S 21).toNatClampNeg c) 28 (fi S 21).toNatClampNeg y) 21 (fi S 21 + 1)) := by
    intro y hyd hy
    have eF : Fr [21] [] [26, 27, 28, 29, 30] [0] S (si (su (su (su (sv (su (su S 29 r.toNatClampNeg (fi S 21)) 30 (fi S 21).toNatClampNeg r) 0 (fi S 21).toNatClampNeg st) 26 (fi S 21).toNatClampNeg from') 27 (fi S 21).toNatClampNeg c) 28 (fi S 21).toNatClampNeg y) 21 (fi S 21 + 1)) := Fr.si (by decide) (Fr.su (by decide) (Fr.su (by decide) (Fr.su (by decide) (Fr.sv (by decide) (Fr.su (by decide) (Fr.su (by decide) Fr.rf))))))
    have t0 : al (si (su (su (su (sv (su (su S 29 r.toNatClampNeg (fi S 21)) 30 (fi S 21).toNatClampNeg r) 0 (fi S 21).toNatClampNeg st) 26 (fi S 21).toNatClampNeg from') 27 (fi S 21).toNatClampNeg c) 28 (fi S 21).toNatClampNeg y) 21 (fi S 21 + 1)) 0 = vp_updL (al S 0) (fi S 21).toNatClampNeg st := (show al (sv (su (su S 29 r.toNatClampNeg (fi S 21)) 30 (fi S 21).toNatClampNeg r) 0 (fi S 21).toNatClampNeg st) 0 = vp_updL (al S 0) (fi S 21).toNatClampNeg st from sv_at _ _ _ _)
    generalize hT : si (su (su (su (sv (su (su S 29 r.toNatClampNeg (fi S 21)) 30 (fi S 21).toNatClampNeg r) 0 (fi S 21).toNatClampNeg st) 26 (fi S 21).toNatClampNeg from') 27 (fi S 21).toNatClampNeg c) 28 (fi S 21).toNatClampNeg y) 21 (fi S 21 + 1) = T at eF t0 ⊢
    have t21 : (fi T 21).toInt = (fi S 21).toInt + 1 := by
      show (T.1 21).toInt = _
      rw [← hT, si_at, inc1 (by omega)]
    have t22 : fi T 22 = fi S 22 := eF.1 22 (by decide)
    have t29 : ar T 29 = upd (ar S 29) r.toNatClampNeg (fi S 21) := by
      show T.2.2.1 29 = _
      rw [← hT, si_2, su_ne (by decide), su_ne (by decide), su_ne (by decide), sv_3, su_ne (by decide), su_at]
    have t30 : ar T 30 = upd (ar S 30) (fi S 21).toNatClampNeg r := by
      show T.2.2.1 30 = _
      rw [← hT, si_2, su_ne (by decide), su_ne (by decide), su_ne (by decide), sv_3, su_at, su_ne (by decide)]
    have t26 : ar T 26 = upd (ar S 26) (fi S 21).toNatClampNeg from' := by
      show T.2.2.1 26 = _
      rw [← hT, si_2, su_ne (by decide), su_ne (by decide), su_at, sv_3, su_ne (by decide), su_ne (by decide)]
    have t28 : ar T 28 = upd (ar S 28) (fi S 21).toNatClampNeg y := by
      show T.2.2.1 28 = _
      rw [← hT, si_2, su_at, su_ne (by decide), su_ne (by decide), sv_3, su_ne (by decide), su_ne (by decide)]
    clear hT
    have en : (fi S 21).toNatClampNeg = (fi S 21).toInt.toNat := rfl
    refine k _ eF ⟨by omega, ?_, ?_, ?_⟩ ⟨?_, ?_, fun j e hj => ?_, ?_⟩
    · intro i hi
      rw [t29, t30, t21]
      by_cases e : i = r.toNatClampNeg
      · rw [e, upd_at, ← en, upd_at]
        exact Or.inr ⟨by omega, by omega, by rw [tnc]; omega⟩
      · rw [upd_ne e]
        rcases hS.2.1 i hi with g | g
        · exact Or.inl g
        · rw [upd_ne (by rw [en]; omega)]
          exact Or.inr ⟨g.1, by omega, g.2.2⟩
    · intro i hi
      rw [t21] at hi
      rw [t26, t28, t30]
      by_cases e : i = (fi S 21).toNatClampNeg
      · have e' : (i : Int) = (fi S 21).toInt := by rw [e, en]; omega
        rw [e, upd_at, upd_at, upd_at]
        rw [en] at e ⊢
        rcases hy with hy | hy
        · exact ⟨by omega, by omega, Or.inl hy.2⟩
        · have hf2 : from'.toInt < (fi S 21).toInt := by
            rcases hf with q | q
            · exact absurd hy.1 (by rw [q]; decide)
            · exact q.2
          have g := (hS.2.2.1 from'.toNatClampNeg (by rw [tnc]; omega)).2.1
          have en2 : from'.toNatClampNeg = from'.toInt.toNat := rfl
          rw [en2] at g hy
          refine ⟨by omega, by omega, Or.inr ⟨hy.1, by omega, ?_⟩⟩
          rw [upd_ne (by omega)]
          omega
      · have hi2 : (i : Int) < (fi S 21).toInt := by rw [en] at e; omega
        rw [upd_ne e, upd_ne e, upd_ne e]
        have g := hS.2.2.1 i hi2
        refine ⟨g.1, g.2.1, ?_⟩
        rcases g.2.2 with q | q
        · exact Or.inl q
        · refine Or.inr ⟨q.1, q.2.1, ?_⟩
          rw [upd_ne (by rw [en]; omega)]
          exact q.2.2
    · rw [t22, t21]
      rcases hS.2.2.2 with g | g
      · exact Or.inl g
      · exact Or.inr ⟨g.1, by omega⟩
    · rw [t21]
      simp only [List.length_append, List.length_cons, List.length_nil]
      omega
    · simp only [List.length_append, List.length_cons, List.length_nil]
      omega
    · have el : (fi S 21).toNatClampNeg = L.length := by rw [en]; omega
      rw [t0, t28, el]
      by_cases q : j < L.length
      · rw [List.getElem?_append_left q] at hj
        rw [upd_ne (by omega), upl_ne (by omega)]
        exact qE j e hj
      · have hj2 := gt_lt hj
        simp only [List.length_append, List.length_cons, List.length_nil] at hj2
        have ej : j = L.length := by omega
        rw [ej, List.getElem?_concat_length] at hj
        have ee : (g, d) = e := Option.some.inj hj
        rw [ej, upd_at, upl_at, ← ee]
        exact ⟨hst, hyd, hg⟩
    · have el : (fi S 21).toNatClampNeg = L.length := by rw [en]; omega
      have hl1 : (L ++ [(g, d)]).length = L.length + 1 := by simp only [List.length_append, List.length_cons, List.length_nil]
      rw [hl1]
      have hl2 : ∀ j, mH T j = hR (vp_updL (al S 0) L.length st j) := fun j => by
        show hR (al T 0 j) = _
        rw [t0, el]
      have ht2 : ∀ p, mTb T p = (upd (ar S 29) ((hR st + d0) % 1024) (fi S 21) p).toInt := fun p => by
        show (ar T 29 p).toInt = _
        rw [t29, rn]
      refine TBI_a qT hd0 hpath hfree (fun j hj => ?_) ?_ ?_ (fun p hp hne => ?_)
      · rw [hl2, upl_ne (by omega)]
      · rw [hl2, upl_at]
      · rw [ht2, upd_at]; exact q21
      · rw [ht2, upd_ne hne]
  refine ⟨by omega, by omega, by omega, by omega, by omega, fun g => ?_, fun g => ?_⟩
  · rcases hb with ⟨h, -⟩ | ⟨b, e, h1, h2, h3, h4'⟩
    · exact absurd h (by
        have q : (-1 : Int32).toInt = -1 := by decide
        omega)
    have bl := gt_lt h2
    obtain ⟨-, a2, -⟩ := qE b e h2
    have bn : from'.toNatClampNeg = b := by rw [tnc, h1]; omega
    have ei : (ar S 28 from'.toNatClampNeg + 1).toInt = (ar S 28 from'.toNatClampNeg).toInt + 1 := inc1 (by rw [bn]; omega)
    refine ⟨by omega, by omega, fin _ ?_ (Or.inr ⟨by omega, ei⟩)⟩
    rw [ei, bn, a2]
    omega
  · rcases hb with ⟨h, h2⟩ | ⟨b, e, h1, -⟩
    · exact ⟨by omega, fin 0 (by rw [li_0]; omega) (Or.inl ⟨h, li_0⟩)⟩
    · exfalso
      have q : (-1 : Int32).toInt = -1 := by decide
      omega
set_option maxHeartbeats 1000000 in
theorem q_isNeverE (S : GS) (st : Int64) (n : Int32) (post : Int32 → GS → Prop) (nv : List OL) (cu : List CuT) (ac : Nat → Option AcT) (l : OL) (g : SV) (hm : MIx S nv cu ac) (hG : GdL nv cu ac) (hg : GJ g) (hst : st.toInt = pkI g) (hB : BR S) (hn : 0 ≤ n.toInt) (hl : nv[n.toInt.toNat]? = some l) (k1 : ∀ S', Fr [0, 18, 19, 20] [] [0, 1, 2, 3, 4, 22] [] S S' → BR S' → NV l g → post 1 S') (k0 : ∀ S', Fr [0, 18, 19, 20] [] [0, 1, 2, 3, 4, 22] [] S S' → BR S' → ¬ NV l g → post 0 S') : w_X12_isNever S st n post := by
  unfold w_X12_isNever
  have hnl := gt_lt hl
  obtain ⟨⟨h16, h6, hnv⟩, -, -⟩ := hm
  obtain ⟨hT6, hT720, hTR⟩ := hnv _ l hl
  have hGB := hG.1 l (List.mem_of_getElem? hl)
  have hGB' : TyA 30 l [] [true] := hGB
  refine q_takesE S st _ g hg.1 hg.2.1 hst (fun S2 hF2 hR2 hD2 => ?_)
  have hST2 : Fr [0, 18, 19, 20] [] [0, 1, 2, 3, 4, 22] [] S S2 := hF2.wk (by decide)
  have rs : ∀ T, Fr [18, 19, 20] [] [22] [] S2 T → RS T g := fun T hT => RS_cg hR2 (hT.1 0 (by decide)) (fun j hj => hT.2.2.1 j (by revert hj; revert j; decide))
  have br : ∀ T, Fr [18, 19, 20] [] [22] [] S2 T → BR T := fun T hT => BR.fr hT (by decide) (by decide) (hD2 hB)
  have tr : ∀ T, Fr [18, 19, 20] [] [22] [] S2 T → Fr [0, 18, 19, 20] [] [0, 1, 2, 3, 4, 22] [] S T := fun T hT => hST2.tr (hT.wk (by decide))
  refine lr2 (fun (T : GS) (n' : Int32) => n' = n ∧ Fr [18, 19, 20] [] [22] [] S2 T ∧ ∃ a : Nat, a ≤ 3 ∧ fi T 18 = nI a ∧ ∀ a' b' t', a' < a → b' < 3 → t' < 3 → a' ≠ b' → (rkV g (nI a') (nI b') (nI t') l).toInt = 0) (fun T _ => (3 - (fi T 18).toInt).toNat) ?_ _ _ ⟨rfl, Fr.si (by decide) Fr.rf, 0, by omega, si_at _ _ _, fun a' _ _ h => absurd h (Nat.not_lt_zero _)⟩
  rintro kk T n' ⟨rfl, hT, a, ha, a18, hA⟩ hk
  unfold w_X12_isNever_F10 w_X12_isNever_B116
  have an : (nI a).toInt = (a : Int) := nI_toInt (by omega)
  rw [a18, an]
  refine ⟨fun h => k0 T (tr T hT) (br T hT) (fun ⟨a', b', t', h1, h2, h3, h4, h5⟩ => h5 (hA a' b' t' (by omega) h2 h3 h4)), fun h => ?_⟩
  have u18 : fi (si T 19 0) 18 = fi T 18 := si_ne (by decide)
  refine lr2 (fun (U : GS) (n2 : Int32) => n2 = n' ∧ Fr [18, 19, 20] [] [22] [] S2 U ∧ fi U 18 = nI a ∧ ∃ b : Nat, b ≤ 3 ∧ fi U 19 = nI b ∧ ∀ b' t', b' < b → t' < 3 → a ≠ b' → (rkV g (nI a) (nI b') (nI t') l).toInt = 0) (fun U _ => (3 - (fi U 19).toInt).toNat) ?_ _ _ ⟨rfl, Fr.si (by decide) hT, by rw [u18]; exact a18, 0, by omega, si_at _ _ _, fun b' _ h => absurd h (Nat.not_lt_zero _)⟩
  rintro kk2 U n2 ⟨rfl, hU, b18, b, hb, b19, hBb⟩ hk2
  unfold w_X12_isNever_F23 w_X12_isNever_B103
  have bn : (nI b).toInt = (b : Int) := nI_toInt (by omega)
  rw [b19, bn, b18]
  have sa : nI a + 1 = nI (a + 1) := nI_inc (by omega)
  refine ⟨fun h2 => ?_, fun h2 => ?_⟩
  · rw [sa]
    have e18 : fi (si U 18 (nI (a + 1))) 18 = nI (a + 1) := si_at _ _ _
    refine hk _ _ ⟨rfl, Fr.si (by decide) hU, a + 1, by omega, e18, fun a' b' t' h1 h3 h4 h5 => ?_⟩ (by rw [e18, a18, nI_toInt (by omega), an]; omega)
    by_cases e : a' = a
    · rw [e]; exact hBb b' t' (by omega) h4 (by omega)
    · exact hA a' b' t' (by omega) h3 h4 h5
  have w18 : fi (si U 20 0) 18 = fi U 18 := si_ne (by decide)
  have w19 : fi (si U 20 0) 19 = fi U 19 := si_ne (by decide)
  refine lr2 (fun (V : GS) (n3 : Int32) => n3 = n2 ∧ Fr [18, 19, 20] [] [22] [] S2 V ∧ fi V 18 = nI a ∧ fi V 19 = nI b ∧ ∃ t : Nat, t ≤ 3 ∧ fi V 20 = nI t ∧ ∀ t', t' < t → a ≠ b → (rkV g (nI a) (nI b) (nI t') l).toInt = 0) (fun V _ => (3 - (fi V 20).toInt).toNat) ?_ _ _ ⟨rfl, Fr.si (by decide) hU, by rw [w18]; exact b18, by rw [w19]; exact b19, 0, by omega, si_at _ _ _, fun t' h => absurd h (Nat.not_lt_zero _)⟩
  rintro kk3 V n3 ⟨rfl, hV, c18, c19, t, ht, c20, hC⟩ hk3
  unfold w_X12_isNever_F36 w_X12_isNever_B90
  have tn : (nI t).toInt = (t : Int) := nI_toInt (by omega)
  rw [c20, tn, c18, an, c19, bn]
  have sb : nI b + 1 = nI (b + 1) := nI_inc (by omega)
  rw [sb]
  have up : (t = 3 ∨ a = b) → kk2 (si V 19 (nI (b + 1))) n3 := by
    intro hz
    have e19 : fi (si V 19 (nI (b + 1))) 19 = nI (b + 1) := si_at _ _ _
    have e18 : fi (si V 19 (nI (b + 1))) 18 = fi V 18 := si_ne (by decide)
    refine hk2 _ _ ⟨rfl, Fr.si (by decide) hV, by rw [e18]; exact c18, b + 1, by omega, e19, fun b' t' h4 h5 h6 => ?_⟩ (by rw [e19, b19, nI_toInt (by omega), bn]; omega)
    by_cases e : b' = b
    · rw [e]
      rcases hz with z | z
      · exact hC t' (by omega) (by omega)
      · omega
    · exact hBb b' t' (by omega) h5 h6
  refine ⟨fun h3 => up (Or.inl (by omega)), fun h3 => ⟨fun h4 => up (Or.inr (by omega)), fun h4 => ?_⟩⟩
  have e2i : ((2 : Int32) + n3).toInt = 2 + n3.toInt := ad_2 (by omega)
  have e2n : ((2 : Int32) + n3).toNatClampNeg = 2 + n3.toInt.toNat := by rw [tnc, e2i]; omega
  have e2k : ((2 : Int32) + n3).toInt.toNat = 2 + n3.toInt.toNat := by rw [e2i]; omega
  have hSV := tr V hV
  have v6 : ar V 6 = ar S 6 := hSV.2.2.1 6 (by decide)
  have v5 : ar V 5 = ar S 5 := hSV.2.2.1 5 (by decide)
  rw [e2n, v6, e2i]
  refine ⟨by omega, q_comesToE V _ _ _ _ l g (nI a) (nI b) (nI t) true (by rw [e2i]; omega) (by decide) ⟨by rw [hT6, li_0]; omega, by rw [hT6]; omega⟩ ?_ (rs V hV) hg.1 c18 c19 c20 (by omega) (by omega) (by omega) (by omega) hGB' (fun W hW => ?_)⟩
  · rw [e2k]
    have z0 : (0 : Int32).toInt.toNat = 0 := by decide
    rw [z0]
    refine RTx_cg hTR (fun i _ => ?_)
    unfold sx
    rw [v5]
  have hW2 : Fr [18, 19, 20] [] [22] [] S2 W := hV.tr (hW.wk (by decide))
  have v01 := GdB_v (g := g) (a := nI a) (b := nI b) (t := nI t) hGB
  have d18 : fi W 18 = nI a := (hW.1 18 (by decide)).trans c18
  have d19 : fi W 19 = nI b := (hW.1 19 (by decide)).trans c19
  have d20 : fi W 20 = nI t := (hW.1 20 (by decide)).trans c20
  have o1 : (1 : Int32).toInt = 1 := li_1
  refine ⟨fun hz => ?_, fun hz => k1 W (tr W hW2) (br W hW2) ⟨a, b, t, by omega, by omega, by omega, by omega, by omega⟩⟩
  have hz0 : (rkV g (nI a) (nI b) (nI t) l).toInt = 0 := by
    rcases v01 with q | q
    · rw [q]; decide
    · exfalso; apply hz; rw [q]; decide
  have sc : fi W 20 + 1 = nI (t + 1) := by rw [d20]; exact nI_inc (by omega)
  rw [sc]
  have f20 : fi (si W 20 (nI (t + 1))) 20 = nI (t + 1) := si_at _ _ _
  have f18 : fi (si W 20 (nI (t + 1))) 18 = fi W 18 := si_ne (by decide)
  have f19 : fi (si W 20 (nI (t + 1))) 19 = fi W 19 := si_ne (by decide)
  refine hk3 _ _ ⟨rfl, Fr.si (by decide) hW2, by rw [f18]; exact d18, by rw [f19]; exact d19, t + 1, by omega, f20, fun t' h5 h6 => ?_⟩ (by rw [f20, c20, nI_toInt (by omega), tn]; omega)
  by_cases e : t' = t
  · rw [e]; exact hz0
  · exact hC t' (by omega) h6
/-- CODES of PERSONS from m on, k of them -/
def prB (ps : Int32) (c : Int32) : Bool := decide (((ps >>> (cdA c &&& 31)) &&& 1).toInt = 1 ∧ ((cdB c).toInt = 3 ∨ ((ps >>> (cdB c &&& 31)) &&& 1).toInt = 1))
def rsL (ps : Int32) (m k : Nat) : List Int32 := ((List.range' m k).map nI).filter (prB ps)
theorem rsL_y {ps : Int32} {m k : Nat} (h : prB ps (nI m) = true) : rsL ps m (k + 1) = nI m :: rsL ps (m + 1) k := by
  unfold rsL
  rw [List.range'_succ, List.map_cons, List.filter_cons_of_pos h]
theorem rsL_n {ps : Int32} {m k : Nat} (h : prB ps (nI m) ≠ true) : rsL ps m (k + 1) = rsL ps (m + 1) k := by
  unfold rsL
  rw [List.range'_succ, List.map_cons, List.filter_cons_of_neg h]
theorem rsL_a {ps : Int32} {m j k : Nat} : rsL ps m (j + k) = rsL ps m j ++ rsL ps (m + j) k := by
  unfold rsL
  rw [← List.range'_append_1, List.map_append, List.filter_append]
theorem rsL_r {ps : Int32} {m k : Nat} {c : Int32} (h : c ∈ rsL ps m k) : ∃ i, m ≤ i ∧ i < m + k ∧ c = nI i := by
  unfold rsL at h
  obtain ⟨i, hi, e⟩ := List.mem_map.mp (List.mem_filter.mp h).1
  have := List.mem_range'_1.mp hi
  exact ⟨i, by omega, by omega, e.symm⟩
theorem cdL_rs {ac : Nat → Option AcT} {laws ps : Int32} : cdL ac laws ps 768 = (rsL ps 0 768).filter (fun c => (actO ac c laws).isSome) := by
  unfold cdL rsL
  rw [List.filter_filter, List.range_eq_range']
  have e : okC ac laws ps = fun c => ((actO ac c laws).isSome && prB ps c) := funext fun c => Bool.and_comm _ _
  rw [e]
theorem wy_none {cu : List CuT} {ac : Nat → Option AcT} {g : SV} {c set laws : Int32} (h : actO ac c laws = none) : (wyO cu g c set (actO ac c laws)).1.toInt ≠ -1 := by
  rw [h]
  exact fun z => absurd (show (30 : Int32).toInt = -1 from z) (by decide)
theorem bsC_rs {cu : List CuT} {ac : Nat → Option AcT} {laws set ps : Int32} {g : SV} {d : Nat} {L : BS} : bsC cu ac laws set g d (cdL ac laws ps 768) L = bsC cu ac laws set g d (rsL ps 0 768) L := by
  rw [cdL_rs]
  refine bsC_f (fun c hc => wy_none ?_)
  cases h : actO ac c laws with
  | none => rfl
  | some a =>
    have hc2 : (actO ac c laws).isSome = false := hc
    rw [h] at hc2
    cases hc2
theorem bsC_sk {cu : List CuT} {ac : Nat → Option AcT} {laws set : Int32} {g : SV} {d : Nat} {r2 : List Int32} {L : BS} : ∀ {r1 : List Int32}, (∀ c ∈ r1, (wyO cu g c set (actO ac c laws)).1.toInt ≠ -1) → bsC cu ac laws set g d (r1 ++ r2) L = bsC cu ac laws set g d r2 L
  | [], _ => rfl
  | c :: r1, h => by
    show bsC cu ac laws set g d (c :: (r1 ++ r2)) L = _
    rw [bsC_n (h c List.mem_cons_self)]
    exact bsC_sk (fun x hx => h x (List.mem_cons_of_mem _ hx))
/-- what the reference looks for: nothing, or a NEVER -/
def PKx (nv : List OL) (n : Int32) (P : SV → Bool) : Prop := (n.toInt = -1 ∧ P = fun _ => false) ∨ (0 ≤ n.toInt ∧ ∃ l, nv[n.toInt.toNat]? = some l ∧ P = nvB l)
/-- found: at j of what is met -/
def FNx (S : GS) (P : SV → Bool) (R : List BE) : Prop := fi S 23 = 0 ∧ ∃ (j : Nat) (e : BE), (fi S 22).toInt = (j : Int) ∧ R[j]? = some e ∧ P e.1 = true ∧ ∀ (i : Nat) (x : BE), i < j → R[i]? = some x → P x.1 = false
theorem FNx_p {S : GS} {P : SV → Bool} {R t : List BE} (h : FNx S P R) : FNx S P (R ++ t) := by
  obtain ⟨h0, j, e, h1, h2, h3, h4⟩ := h
  have hl := gt_lt h2
  refine ⟨h0, j, e, h1, by rw [List.getElem?_append_left hl]; exact h2, h3, fun i x hi hx => ?_⟩
  rw [List.getElem?_append_left (by omega)] at hx
  exact h4 i x hi hx
theorem FNx_v {S : GS} {P : SV → Bool} {R : List BE} (h : FNx S P R) : (fi S 22).toInt = fsI P R 0 ∧ (fi S 22).toInt ≠ -1 := by
  obtain ⟨-, j, e, h1, h2, h3, h4⟩ := h
  exact ⟨by rw [h1, fsI_at h2 h3 h4], by omega⟩
theorem SInv_c {I Q A N : List Nat} {S S' : GS} (h : SInv S) (f : Fr I Q A N S S') (c : 21 ∉ I ∧ 22 ∉ I ∧ 26 ∉ A ∧ 28 ∉ A ∧ 29 ∉ A ∧ 30 ∉ A) : SInv S' := by
  have e21 : fi S' 21 = fi S 21 := f.1 21 c.1
  have e22 : fi S' 22 = fi S 22 := f.1 22 c.2.1
  have e26 : ar S' 26 = ar S 26 := f.2.2.1 26 c.2.2.1
  have e28 : ar S' 28 = ar S 28 := f.2.2.1 28 c.2.2.2.1
  have e29 : ar S' 29 = ar S 29 := f.2.2.1 29 c.2.2.2.2.1
  have e30 : ar S' 30 = ar S 30 := f.2.2.1 30 c.2.2.2.2.2
  unfold SInv at *
  rw [e21, e22, e26, e28, e29, e30]
  exact h
theorem SInv_si {S : GS} {k : Nat} {x : Int32} (h : SInv S) (hk : k ≠ 21 ∧ k ≠ 22) : SInv (si S k x) := by
  have e21 : fi (si S k x) 21 = fi S 21 := si_ne (fun e => hk.1 e.symm)
  have e22 : fi (si S k x) 22 = fi S 22 := si_ne (fun e => hk.2 e.symm)
  have ea : ∀ j, ar (si S k x) j = ar S j := fun j => rfl
  unfold SInv at *
  rw [e21, e22]
  exact h
theorem SInv_22 {S : GS} {x : Int32} (h : SInv S) (hx : 0 ≤ x.toInt ∧ (x.toInt = 0 ∨ x.toInt < (fi S 21).toInt)) : SInv (si S 22 x) := by
  have e21 : fi (si S 22 x) 21 = fi S 21 := si_ne (by decide)
  have e22 : fi (si S 22 x) 22 = x := si_at _ _ _
  obtain ⟨h1, h2, h3, -⟩ := h
  unfold SInv
  rw [e21, e22]
  exact ⟨h1, h2, h3, Or.inr hx⟩
/-- behind a step of the reference's SEARCH -/
abbrev FG : GS → GS → Prop := Fr [0, 18, 19, 20, 21, 22, 23, 24] [1, 2] [0, 1, 2, 3, 4, 22, 24, 25, 26, 27, 28, 29, 30] [0]
set_option maxHeartbeats 2000000 in
theorem q_goesOnE (S : GS) (i n laws ps set : Int32) (post : GS → Prop) (nv : List OL) (cu : List CuT) (ac : Nat → Option AcT) (P : SV → Bool) (L : List BE) (e : BE) (hm : MIx S nv cu ac) (hG : GdL nv cu ac) (hPM : ∀ c a, (0 ≤ c.toInt ∧ c.toInt ≤ 767) → actO ac c laws = some a → ∀ w ∈ a.2.2.2.2, PM c w) (hS : SInv S) (hB : BR S) (hQ : QSr S L) (hP : PKx nv n P) (hi : 0 ≤ i.toInt) (he : L[i.toInt.toNat]? = some e) (hd : (e.2 : Int) + 1 ≤ 2147483647) (h22 : (fi S 22).toInt = -1) (h23 : fi S 23 = 0) (hno : ∀ x ∈ L, P x.1 = false) (k : ∀ S', FG S S' → SInv S' → BR S' → (((fi S' 22).toInt = -1 ∧ QSr S' (bsC cu ac laws set e.1 (e.2 + 1) (cdL ac laws ps 768) (L, false)).1 ∧ (fi S' 23 = if (bsC cu ac laws set e.1 (e.2 + 1) (cdL ac laws ps 768) (L, false)).2 = true then 1 else 0) ∧ ∀ x ∈ (bsC cu ac laws set e.1 (e.2 + 1) (cdL ac laws ps 768) (L, false)).1, P x.1 = false) ∨ FNx S' P (bsC cu ac laws set e.1 (e.2 + 1) (cdL ac laws ps 768) (L, false)).1) → post S') : w_X12_goesOn S i n laws ps set post := by
  unfold w_X12_goesOn
  rw [bsC_rs] at k
  generalize hRR : bsC cu ac laws set e.1 (e.2 + 1) (rsL ps 0 768) (L, false) = R at k
  have run0 : ∃ (m q : Nat) (L' : List BE), (0 : Int32) = nI m ∧ m + q = 768 ∧ (fi S 22).toInt = -1 ∧ fi S 23 = 0 ∧ QSr S L' ∧ L'[i.toInt.toNat]? = some e ∧ (∀ x ∈ L', P x.1 = false) ∧ bsC cu ac laws set e.1 (e.2 + 1) (rsL ps m q) (L', false) = R := ⟨0, 768, L, rfl, rfl, h22, h23, hQ, he, hno, hRR⟩
  refine lr7 (fun (T : GS) (i' n' l' p' s' c : Int32) => i' = i ∧ n' = n ∧ l' = laws ∧ p' = ps ∧ s' = set ∧ FG S T ∧ SInv T ∧ BR T ∧ (0 ≤ c.toInt ∧ c.toInt ≤ 768) ∧ ((∃ (m q : Nat) (L' : List BE), c = nI m ∧ m + q = 768 ∧ (fi T 22).toInt = -1 ∧ fi T 23 = 0 ∧ QSr T L' ∧ L'[i.toInt.toNat]? = some e ∧ (∀ x ∈ L', P x.1 = false) ∧ bsC cu ac laws set e.1 (e.2 + 1) (rsL ps m q) (L', false) = R) ∨ FNx T P R.1)) (fun _ _ _ _ _ _ c => (768 - c.toInt).toNat) ?_ _ _ _ _ _ _ _ ⟨rfl, rfl, rfl, rfl, rfl, Fr.rf, hS, hB, by decide, Or.inl run0⟩
  rintro kk T i' n' l' p' s' c ⟨rfl, rfl, rfl, rfl, rfl, hT, hST, hBT, hc, hrun⟩ hk
  unfold w_X12_goesOn_F3 w_X12_goesOn_B199
  have m1 : (-1 : Int32).toInt = -1 := by decide
  rcases hrun with ⟨m, q, L', rfl, hmq, r22, r23, hQT, heT, hnoT, hbs⟩ | hF
  rotate_left
  · have hv := (FNx_v hF).2
    have fin := k T hT hST hBT (Or.inr hF)
    exact ⟨fun _ => fin, fun _ => ⟨fun _ => fin, fun h => absurd h hv⟩⟩
  have xn : (nI m).toInt = (m : Int) := nI_toInt (by omega)
  have i23 : (fi T 23).toInt = 0 := by rw [r23]; exact li_0
  rw [xn]
  refine ⟨fun h => ?_, fun h => ⟨fun z => absurd r22 z, fun _ => ⟨fun z => absurd i23 z, fun _ => ?_⟩⟩⟩
  · obtain rfl : q = 0 := by omega
    have hbs2 : (L', false) = R := hbs
    refine k T hT hST hBT (Or.inl ⟨r22, ?_, ?_, ?_⟩)
    · rw [← hbs2]; exact hQT
    · rw [← hbs2, r23] <;> rfl
    · rw [← hbs2]; exact hnoT
  have hm7 : m < 768 := by omega
  obtain ⟨q', rfl⟩ : ∃ q', q = q' + 1 := ⟨q - 1, by omega⟩
  have s1 : nI m + 1 = nI (m + 1) := nI_inc (by omega)
  have hcr : 0 ≤ (nI m).toInt ∧ (nI m).toInt ≤ 767 := by omega
  obtain ⟨v1, v2, v3⟩ := cd_v hcr
  have e64 : (nI m / 64).toInt = (nI m).toInt / 64 := by
    simp (disch := omega) only [Int32.toInt_div, li_64, tdv, bm]
  have eM : (nI m - nI m / 64 * 64).toInt = (m : Int) % 64 := by
    simp (disch := omega) only [Int32.toInt_sub, Int32.toInt_mul, e64, xn, li_64, bm]
    omega
  have eA : ((nI m / 16) - (nI m / 16) / 4 * 4) = cdA (nI m) := by
    apply i_eq
    rw [v1]
    simp (disch := omega) only [Int32.toInt_sub, Int32.toInt_mul, Int32.toInt_div, li_16, li_4, tdv, bm]
    omega
  have eB : ((nI m / 4) - (nI m / 4) / 4 * 4) = cdB (nI m) := by
    apply i_eq
    rw [v2]
    simp (disch := omega) only [Int32.toInt_sub, Int32.toInt_mul, Int32.toInt_div, li_4, tdv, bm]
    omega
  -- the next CODE
  have go : ∀ (V : GS) (L2 : List BE), FG S V → SInv V → BR V → (fi V 22).toInt = -1 → fi V 23 = 0 → QSr V L2 → L2[i'.toInt.toNat]? = some e → (∀ x ∈ L2, P x.1 = false) → bsC cu ac l' s' e.1 (e.2 + 1) (rsL p' (m + 1) q') (L2, false) = R → kk V i' n' l' p' s' (nI m + 1) := by
    intro V L2 a1 a2 a3 a4 a5 a6 a7 a8 a9
    rw [s1]
    have xn1 : (nI (m + 1)).toInt = ((m + 1 : Nat) : Int) := nI_toInt (by omega)
    exact hk _ _ _ _ _ _ _ ⟨rfl, rfl, rfl, rfl, rfl, a1, a2, a3, by omega, Or.inl ⟨m + 1, q', L2, rfl, by omega, a4, a5, a6, a7, a8, a9⟩⟩ (by rw [xn1, xn]; omega)
  have skip : prB p' (nI m) ≠ true → kk T i' n' l' p' s' (nI m + 1) := fun z => go T L' hT hST hBT r22 r23 hQT heT hnoT (by rw [← rsL_n z]; exact hbs)
  have hmT : MIx T nv cu ac := MIx_fr hm hT (by decide) (by decide)
  have b98 : prB p' (nI m) = true → w_X12_goesOn_B98 post kk (fun S => post S) T i' n' l' p' s' (nI m) := by
    intro hpr
    unfold w_X12_goesOn_B98 w_X12_goesOn_B193
    rw [rsL_y hpr] at hbs
    obtain ⟨q21, q400, qE, qT⟩ := id hQT
    obtain ⟨a1, a2, a3⟩ := qE _ e heT
    have hil := gt_lt heT
    have iN : i'.toNatClampNeg = i'.toInt.toNat := tnc i'
    rw [iN]
    refine ⟨by omega, q_whyNotE T _ (nI m) l' s' _ nv cu ac e.1 hmT hG hcr (fun a h => hPM (nI m) a hcr h) a3.1 a3.2.1 a1 hBT (JZ_0 a3.2.2) (fun U hU hBU h1U => ?_)⟩
    have hU2 : FG S U := hT.tr (hU.wk (by decide))
    have hSU : SInv U := SInv_c hST hU (by decide)
    have hQU : QSr U L' := QSr_fr hQT hU (by decide)
    have u22 : (fi U 22).toInt = -1 := (congrArg Int32.toInt (hU.1 22 (by decide))).trans r22
    have u23 : fi U 23 = 0 := (hU.1 23 (by decide)).trans r23
    refine ⟨fun hz => go U L' hU2 hSU hBU u22 u23 hQU heT hnoT ((bsC_n hz).symm.trans hbs), fun hz => ?_⟩
    have h1V := h1U hz
    have hGJ := GJ_wy (nv := nv) (cu := cu) (ac := ac) (g := e.1) (c := nI m) (set := s') (laws := l') hG a3 (fun a h => hPM (nI m) a hcr h) hz
    have hbs2 := (bsC_y (L := (L', false)) (d := e.2 + 1) (r := rsL p' (m + 1) q') rfl hz).symm.trans hbs
    generalize (wyO cu e.1 (nI m) s' (actO ac (nI m) l')).2 = f at h1V hGJ hbs2
    have hmU := QSr_m hQU h1V
    obtain ⟨qU21, qU400, qUE, qUT⟩ := id hQU
    refine q_placeE U _ _ L'.length qUT qU400 (fun r d0 hd0 hr hpath hcase => ?_)
    have hlt : (hR (fl U 1) + d0) % 1024 < 1024 := Nat.mod_lt _ (by decide)
    have rn : r.toNatClampNeg = (hR (fl U 1) + d0) % 1024 := by rw [tnc, hr]; omega
    have eT : mTb U ((hR (fl U 1) + d0) % 1024) = (ar U 29 ((hR (fl U 1) + d0) % 1024)).toInt := rfl
    rw [rn]
    refine ⟨by omega, fun hfree => ?_, fun hfull => ?_⟩
    rotate_left
    · have hyes : ∃ x ∈ (L', false).1, pkI x.1 = pkI f := by
        rcases hcase with ⟨z, -⟩ | ⟨-, z⟩
        · exfalso; omega
        · exact hmU.mpr z
      rw [bsM_y hyes] at hbs2
      exact go U L' hU2 hSU hBU u22 u23 hQU heT hnoT hbs2
    have hnoU : ¬ ∃ x ∈ L', pkI x.1 = pkI f := by
      rcases hcase with ⟨-, z⟩ | ⟨z, -⟩
      · intro y
        obtain ⟨j, j1, j2⟩ := hmU.mp y
        exact z j j1 j2
      · exfalso; omega
    have i400 : (400 : Int32).toInt = 400 := by decide
    refine ⟨fun h4 => ?_, fun h4 => ?_⟩
    rotate_left
    · rw [bsM_s (L := (L', false)) hnoU (by show 400 ≤ L'.length; omega), bsC_t rfl] at hbs2
      have x23 : fi (si U 23 1) 23 = 1 := si_at _ _ _
      have x22 : fi (si U 23 1) 22 = fi U 22 := si_ne (by decide)
      refine k _ (Fr.si (by decide) hU2) (SInv_si hSU (by decide)) (BR.si hBU) (Or.inl ⟨by rw [x22]; exact u22, ?_, ?_, ?_⟩)
      · rw [← hbs2]
        exact QSr_fr hQU (Fr.si (I := [23]) (L := []) (A := []) (M := []) (by decide) Fr.rf) (by decide)
      · rw [← hbs2, x23] <;> rfl
      · rw [← hbs2]; exact hnoT
    have hl4 : L'.length < 400 := by omega
    rw [bsM_a (L := (L', false)) hnoU hl4] at hbs2
    have hbs3 : bsC cu ac l' s' e.1 (e.2 + 1) (rsL p' (m + 1) q') (L' ++ [(f, e.2 + 1)], false) = R := hbs2
    refine q_meetsE U _ i' (nI m) _ L' f (e.2 + 1) hSU hQU hl4 hnoU hGJ h1V (Or.inr ⟨i'.toInt.toNat, e, (Int.toNat_of_nonneg hi).symm, heT, rfl, by rw [Int.natCast_add]; exact hd⟩) (fun V hV hSV hQV => ?_)
    have hV2 : FG S V := hU2.tr (hV.wk (by decide))
    have hBV : BR V := BR.fr hV (by decide) (by decide) hBU
    have w22 : (fi V 22).toInt = -1 := (congrArg Int32.toInt (hV.1 22 (by decide))).trans u22
    have w23 : fi V 23 = 0 := (hV.1 23 (by decide)).trans u23
    have heV : (L' ++ [(f, e.2 + 1)])[i'.toInt.toNat]? = some e := by rw [List.getElem?_append_left hil]; exact heT
    have noV : P f = false → ∀ x ∈ L' ++ [(f, e.2 + 1)], P x.1 = false := by
      intro hz x hx
      rcases List.mem_append.mp hx with y | y
      · exact hnoT x y
      · rw [List.mem_singleton.mp y]; exact hz
    refine ⟨fun hn => ?_, fun hn => ?_⟩
    · rcases hP with ⟨-, rfl⟩ | ⟨z, -⟩
      · exact go V _ hV2 hSV hBV w22 w23 hQV heV (noV rfl) hbs3
      · exfalso; omega
    · rcases hP with ⟨z, -⟩ | ⟨z, l, hl, rfl⟩
      · exact absurd z hn
      have hmV : MIx V nv cu ac := MIx_fr hm hV2 (by decide) (by decide)
      refine q_isNeverE V _ n' _ nv cu ac l f hmV hG hGJ h1V hBV z hl (fun W hW hBW hNV => ⟨fun y => absurd y (by decide), fun _ => ?_⟩) (fun W hW hBW hNV => ⟨fun _ => ?_, fun y => absurd li_0 y⟩)
      · have hW2 : FG S W := hV2.tr (hW.wk (by decide))
        have hQW : QSr W (L' ++ [(f, e.2 + 1)]) := QSr_fr hQV hW (by decide)
        obtain ⟨y21, -, -, -⟩ := id hQW
        have hll : (L' ++ [(f, e.2 + 1)]).length = L'.length + 1 := by simp only [List.length_append, List.length_cons, List.length_nil]
        have hSW : SInv W := SInv_c hSV hW (by decide)
        have ej : (fi W 21 - 1).toInt = (L'.length : Int) := by rw [sub1 (by omega), y21, hll]; omega
        have z22 : fi (si W 22 (fi W 21 - 1)) 22 = fi W 21 - 1 := si_at _ _ _
        have xn1 : (nI (m + 1)).toInt = ((m + 1 : Nat) : Int) := nI_toInt (by omega)
        rw [s1]
        refine hk _ _ _ _ _ _ _ ⟨rfl, rfl, rfl, rfl, rfl, Fr.si (by decide) hW2, SInv_22 hSW (by omega), BR.si hBW, by omega, Or.inr ?_⟩ (by rw [xn1, xn]; omega)
        obtain ⟨t, htt⟩ := bsC_p (cu := cu) (ac := ac) (laws := l') (set := s') (g := e.1) (d := e.2 + 1) (r := rsL p' (m + 1) q') (L := (L' ++ [(f, e.2 + 1)], false))
        rw [hbs3] at htt
        rw [htt]
        refine FNx_p ⟨(si_ne (by decide)).trans ((hW.1 23 (by decide)).trans w23), L'.length, (f, e.2 + 1), by rw [z22, ej], List.getElem?_concat_length, nvB_y.mpr hNV, fun j x hj hx => ?_⟩
        have hx2 : (L' ++ [(f, e.2 + 1)])[j]? = some x := hx
        rw [List.getElem?_append_left hj] at hx2
        exact hnoT x (List.mem_of_getElem? hx2)
      · have hW2 : FG S W := hV2.tr (hW.wk (by decide))
        have hSW : SInv W := SInv_c hSV hW (by decide)
        exact go W _ hW2 hSW hBW ((congrArg Int32.toInt (hW.1 22 (by decide))).trans w22) ((hW.1 23 (by decide)).trans w23) (QSr_fr hQV hW (by decide)) heV (noV (nvB_n hNV)) hbs3
  have b52 : w_X12_goesOn_B52 post kk (fun S => post S) T i' n' l' p' s' (nI m) := by
    unfold w_X12_goesOn_B52 w_X12_goesOn_B193
    rw [eA, eB]
    have bitA := i_and (a := p' >>> (cdA (nI m) &&& 31)) (c := 1) (by decide)
    have bitB := i_and (a := p' >>> (cdB (nI m) &&& 31)) (c := 1) (by decide)
    rw [li_1] at bitA bitB
    have no : ¬ (((p' >>> (cdA (nI m) &&& 31)) &&& 1).toInt = 1 ∧ ((cdB (nI m)).toInt = 3 ∨ ((p' >>> (cdB (nI m) &&& 31)) &&& 1).toInt = 1)) → prB p' (nI m) ≠ true := fun h1 h2 => h1 (of_decide_eq_true h2)
    refine ⟨fun h1 => skip (no (fun z => by omega)), fun h1 => ⟨fun h2 => b98 (decide_eq_true ⟨by omega, Or.inl h2⟩), fun h2 => ⟨fun h3 => b98 (decide_eq_true ⟨by omega, Or.inr (by omega)⟩), fun h3 => skip (no (fun z => by omega))⟩⟩⟩
  rw [eM]
  refine ⟨fun _ => b52, fun h0 => ?_⟩
  refine q_isAct _ _ _ (fun r hr hb => ⟨fun _ => b52, fun hz => ?_⟩)
  unfold w_X12_goesOn_B193
  have ex : (nI m / 64).toInt = ((m / 64 : Nat) : Int) := by rw [e64, xn]; omega
  have hacx : ac (m / 64) = none := by
    rcases hmT.2.2 (m / 64) (by omega) with ⟨z, -⟩ | ⟨a, -, z, -⟩
    · exact z
    · exfalso
      have e6 : ((m / 64 : Nat) : Int) / 6 = ((m / 64 / 6 : Nat) : Int) := (Int.natCast_ediv _ _).symm
      rw [ex] at hb
      have e7 : (((m / 64 : Nat) : Int) / 6).toNat = m / 64 / 6 := by rw [e6]; exact Int.toNat_natCast _
      rw [e7] at hb
      omega
  obtain ⟨q2, rfl⟩ : ∃ q2, q' = 63 + q2 := ⟨q' - 63, by omega⟩
  have s64 : nI m + 63 + 1 = nI (m + 64) := by
    apply i_eq
    have i63 : (63 : Int32).toInt = 63 := by decide
    have a1 : (nI m + 63).toInt = (m : Int) + 63 := by rw [ad_ab (by omega) (by omega), xn, i63]
    rw [inc1 (by omega), a1, nI_toInt (by omega)]
    omega
  rw [s64]
  have xn1 : (nI (m + 64)).toInt = ((m + 64 : Nat) : Int) := nI_toInt (by omega)
  refine hk _ _ _ _ _ _ _ ⟨rfl, rfl, rfl, rfl, rfl, hT, hST, hBT, by omega, Or.inl ⟨m + 64, q2, L', rfl, by omega, r22, r23, hQT, heT, hnoT, ?_⟩⟩ (by rw [xn1, xn]; omega)
  have e65 : 63 + q2 + 1 = 64 + q2 := by omega
  rw [e65, rsL_a] at hbs
  rw [bsC_sk (fun c hc => wy_none ?_)] at hbs
  · exact hbs
  · obtain ⟨j, j1, j2, rfl⟩ := rsL_r hc
    have jn : (nI j).toInt = (j : Int) := nI_toInt (by omega)
    have j64 : (nI j / 64).toInt = (nI j).toInt / 64 := by
      simp (disch := omega) only [Int32.toInt_div, li_64, tdv, bm]
    refine actO_0 ?_
    have ejj : (nI j / 64).toInt.toNat = m / 64 := by rw [j64, jn]; omega
    rw [ejj]
    exact hacx
set_option maxHeartbeats 2000000 in
theorem q_searchesE (S : GS) (n laws d ps set : Int32) (post : GS → Prop) (nv : List OL) (cu : List CuT) (ac : Nat → Option AcT) (P : SV → Bool) (g : SV) (hm : MIx S nv cu ac) (hG : GdL nv cu ac) (hPM : ∀ c a, (0 ≤ c.toInt ∧ c.toInt ≤ 767) → actO ac c laws = some a → ∀ w ∈ a.2.2.2.2, PM c w) (hS : SInv S) (hB : BR S) (hg : GJ g) (hst : (fl S 0).toInt = pkI g) (hP : PKx nv n P) (k : ∀ S', FG S S' → SInv S' → BR S' → (fi S' 22).toInt = fsI P (bsF cu ac laws set (cdL ac laws ps 768) d.toInt g).1 0 → ((fi S' 22).toInt = -1 → QSr S' (bsF cu ac laws set (cdL ac laws ps 768) d.toInt g).1 ∧ fi S' 23 = if (bsF cu ac laws set (cdL ac laws ps 768) d.toInt g).2 = true then 1 else 0) → ((fi S' 22).toInt ≠ -1 → fi S' 23 = 0) → post S') : w_X12_searches S n laws d ps set post := by
  have m1 : (-1 : Int32).toInt = -1 := by decide
  have hdr := i_rng d
  generalize hcs : cdL ac laws ps 768 = cs at k
  -- the loop over what is met
  have main : ∀ T, FG S T → SInv T → BR T → (((fi T 22).toInt = -1 ∧ QSr T (bsN cu ac laws set cs d.toInt g 0).1 ∧ fi T 23 = 0 ∧ ∀ x ∈ (bsN cu ac laws set cs d.toInt g 0).1, P x.1 = false) ∨ FNx T P (bsF cu ac laws set cs d.toInt g).1) → w_X12_searches_B78 post T n laws d ps set := by
    intro T hT hST hBT h0
    unfold w_X12_searches_B78
    refine lr7 (fun (T : GS) (n' l' d' p' s' i : Int32) => n' = n ∧ l' = laws ∧ d' = d ∧ p' = ps ∧ s' = set ∧ FG S T ∧ SInv T ∧ BR T ∧ ∃ m : Nat, i = nI m ∧ m ≤ 400 ∧ (((fi T 22).toInt = -1 ∧ QSr T (bsN cu ac laws set cs d.toInt g m).1 ∧ (fi T 23 = if (bsN cu ac laws set cs d.toInt g m).2 = true then 1 else 0) ∧ ∀ x ∈ (bsN cu ac laws set cs d.toInt g m).1, P x.1 = false) ∨ FNx T P (bsF cu ac laws set cs d.toInt g).1)) (fun _ _ _ _ _ _ i => (400 - i.toInt).toNat) ?_ _ _ _ _ _ _ _ ⟨rfl, rfl, rfl, rfl, rfl, hT, hST, hBT, 0, rfl, by omega, h0⟩
    clear h0 hBT hST hT
    rintro kk T n' l' d' p' s' i ⟨rfl, rfl, rfl, rfl, rfl, hT, hST, hBT, m, rfl, hm4, hrun⟩ hk
    unfold w_X12_searches_F81 w_X12_searches_B128 w_X12_searches_B134
    have xn : (nI m).toInt = (m : Int) := nI_toInt (by omega)
    have mn : (nI m).toNatClampNeg = m := by rw [tnc, xn]; omega
    have sm1 : nI m + 1 = nI (m + 1) := nI_inc (by omega)
    rcases hrun with ⟨r22, hQT, r23, hno⟩ | hF
    rotate_left
    · obtain ⟨f1, f2⟩ := FNx_v hF
      have fin := k T hT hST hBT f1 (fun z => absurd z f2) (fun _ => hF.1)
      exact ⟨fun _ => fin, fun _ => ⟨fun _ => fin, fun z => absurd z f2⟩⟩
    have hfin : DNE d'.toInt m (bsN cu ac l' s' cs d'.toInt g m) → post T := by
      intro hd
      have hF := bsF_d hm4 hd
      refine k T hT hST hBT ?_ (fun _ => ?_) (fun z => absurd r22 z)
      · rw [hF, r22]
        exact (fsI_no (fun i x hx => hno x (List.mem_of_getElem? hx))).symm
      · rw [hF]; exact ⟨hQT, r23⟩
    obtain ⟨q21, q400, qE, qT⟩ := id hQT
    have hnx : bsN cu ac l' s' cs d'.toInt g (m + 1) = bsG cu ac l' s' cs d'.toInt m (bsN cu ac l' s' cs d'.toInt g m) := rfl
    obtain ⟨tF, htF⟩ : ∃ t, m < 400 → (bsF cu ac l' s' cs d'.toInt g).1 = (bsN cu ac l' s' cs d'.toInt g (m + 1)).1 ++ t := by
      by_cases q : m < 400
      · obtain ⟨t, ht⟩ := bsF_p (cu := cu) (ac := ac) (laws := l') (set := s') (cs := cs) (mo := d'.toInt) (g := g) (n := m + 1) (by omega)
        exact ⟨t, fun _ => ht⟩
      · exact ⟨[], fun z => absurd z q⟩
    generalize bsN cu ac l' s' cs d'.toInt g m = L at hQT r23 hno hfin q21 q400 qE qT hnx
    rw [xn, mn]
    refine ⟨fun h => hfin (Or.inr (Or.inl (by omega))), fun h => ⟨fun z => absurd r22 z, fun _ => ⟨fun h23 => ?_, fun h23 => ⟨by omega, ?_⟩⟩⟩⟩
    · refine hfin (Or.inl ?_)
      cases hL2 : L.2 with
      | true => rfl
      | false =>
        exfalso
        rw [hL2, if_neg (by decide)] at r23
        exact h23 (by rw [r23]; exact li_0)
    have hL2 : L.2 = false := by
      cases hz : L.2 with
      | false => rfl
      | true =>
        exfalso
        rw [hz, if_pos rfl] at r23
        rw [r23] at h23
        exact absurd h23 (by decide)
    have hmL : m < L.1.length := by omega
    obtain ⟨e, he⟩ : ∃ e, L.1[m]? = some e := ⟨_, List.getElem?_eq_getElem hmL⟩
    obtain ⟨a1, a2, a3⟩ := qE m e he
    rw [a2]
    have e0 : fi T 23 = 0 := by rw [r23, hL2] <;> rfl
    have xn1 : (nI (m + 1)).toInt = ((m + 1 : Nat) : Int) := nI_toInt (by omega)
    refine ⟨fun hge => ?_, fun hlt => ?_⟩
    · rw [sm1]
      have hq : bsN cu ac l' s' cs d'.toInt g (m + 1) = L := by rw [hnx]; exact bsG_n he (Or.inr hge)
      exact hk _ _ _ _ _ _ _ ⟨rfl, rfl, rfl, rfl, rfl, hT, hST, hBT, m + 1, rfl, by omega, Or.inl ⟨r22, by rw [hq]; exact hQT, by rw [hq]; exact r23, by rw [hq]; exact hno⟩⟩ (by rw [xn1, xn]; omega)
    · have hmT : MIx T nv cu ac := MIx_fr hm hT (by decide) (by decide)
      have eL : L = (L.1, false) := by rw [← hL2]
      have hq : bsN cu ac l' s' cs d'.toInt g (m + 1) = bsC cu ac l' s' e.1 (e.2 + 1) (cdL ac l' p' 768) (L.1, false) := by
        rw [hnx, hcs, ← eL]
        refine bsG_y he (fun z => ?_)
        rcases z with z | z
        · rw [hL2] at z; exact absurd z (by decide)
        · omega
      have iN : (nI m).toInt.toNat = m := by rw [xn]; omega
      refine q_goesOnE T (nI m) n' l' p' s' _ nv cu ac P L.1 e hmT hG hPM hST hBT hQT hP (by omega) (by rw [iN]; exact he) (by omega) r22 e0 hno (fun U hU hSU hBU hcase => ?_)
      rw [← hq] at hcase
      rw [sm1]
      refine hk _ _ _ _ _ _ _ ⟨rfl, rfl, rfl, rfl, rfl, hT.tr hU, hSU, hBU, m + 1, rfl, by omega, ?_⟩ (by rw [xn1, xn]; omega)
      rcases hcase with z | z
      · exact Or.inl z
      · refine Or.inr ?_
        rw [htF (by omega)]
        exact FNx_p z
  unfold w_X12_searches
  have h21 := hS.1
  refine lr7 (fun (T : GS) (n' l' d' p' s' i : Int32) => n' = n ∧ l' = laws ∧ d' = d ∧ p' = ps ∧ s' = set ∧ Fr [] [] [29] [] S T ∧ 0 ≤ i.toInt ∧ i.toInt ≤ (fi S 21).toInt ∧ ∀ q : Nat, q < 1024 → (ar T 29 q).toInt = -1 ∨ (i.toInt ≤ (ar T 29 q).toInt ∧ (ar T 29 q).toInt < (fi S 21).toInt ∧ (ar S 30 (ar T 29 q).toInt.toNat).toInt = (q : Int))) (fun _ _ _ _ _ _ i => (400 - i.toInt).toNat) ?_ _ _ _ _ _ _ _ ⟨rfl, rfl, rfl, rfl, rfl, Fr.rf, by decide, by rw [li_0]; omega, fun q hq => ?_⟩
  rotate_left
  · rcases hS.2.1 q hq with z | z
    · exact Or.inl z
    · exact Or.inr ⟨by rw [li_0]; omega, z.2.1, z.2.2⟩
  rintro kk T n' l' d' p' s' i ⟨rfl, rfl, rfl, rfl, rfl, hF, h0, h4, hQ⟩ hk
  unfold w_X12_searches_F3
  have e21 : (fi T 21).toInt = (fi S 21).toInt := by
    show (T.1 21).toInt = (S.1 21).toInt
    rw [hF.1 21 (by decide)]
  have e30 : ar T 30 = ar S 30 := hF.2.2.1 30 (by decide)
  refine ⟨fun hge => ?_, fun hlt => ?_⟩
  rotate_left
  · have g30 := (hS.2.2.1 i.toInt.toNat (by omega)).1
    rw [e30]
    have en : i.toNatClampNeg = i.toInt.toNat := rfl
    rw [en]
    refine ⟨by omega, by omega, hk _ _ _ _ _ _ _ ⟨rfl, rfl, rfl, rfl, rfl, Fr.su (by decide) hF, by rw [inc1 (by omega)]; omega, by rw [inc1 (by omega)]; omega, ?_⟩ (by rw [inc1 (by omega)]; omega)⟩
    intro q hq
    have e29 : ar (su T 29 (ar S 30 i.toInt.toNat).toNatClampNeg (-1)) 29 = upd (ar T 29) (ar S 30 i.toInt.toNat).toNatClampNeg (-1) := su_at _ _ _ _
    rw [e29]
    by_cases e : q = (ar S 30 i.toInt.toNat).toNatClampNeg
    · rw [e, upd_at]; exact Or.inl (by decide)
    · rw [upd_ne e]
      rcases hQ q hq with g2 | g2
      · exact Or.inl g2
      · refine Or.inr ⟨?_, g2.2.1, g2.2.2⟩
        rw [inc1 (by omega)]
        have : (ar T 29 q).toInt ≠ i.toInt := fun e2 => e (by
          rw [tnc]
          have := g2.2.2
          rw [e2] at this
          omega)
        omega
  unfold w_X12_searches_B31
  have hF2 : Fr [21, 22, 23] [] [29] [] S (si (si (si T 21 0) 23 0) 22 (-1)) := Fr.si (by decide) (Fr.si (by decide) (Fr.si (by decide) (hF.wk (by decide))))
  have q21 : fi (si (si (si T 21 0) 23 0) 22 (-1)) 21 = 0 := (si_ne (by decide)).trans ((si_ne (by decide)).trans (si_at _ _ _))
  have q23 : fi (si (si (si T 21 0) 23 0) 22 (-1)) 23 = 0 := (si_ne (by decide)).trans (si_at _ _ _)
  have q22 : fi (si (si (si T 21 0) 23 0) 22 (-1)) 22 = -1 := si_at _ _ _
  have q29 : ∀ p, p < 1024 → (ar (si (si (si T 21 0) 23 0) 22 (-1)) 29 p).toInt = -1 := by
    intro p hp
    show (ar T 29 p).toInt = -1
    rcases hQ p hp with z | z
    · exact z
    · omega
  generalize si (si (si T 21 0) 23 0) 22 (-1) = U at hF2 q21 q23 q22 q29 ⊢
  have i21 : (fi U 21).toInt = 0 := by rw [q21]; exact li_0
  have hSU : SInv U := ⟨by omega, fun q hq => Or.inl (q29 q hq), fun q hq => by omega, Or.inl (by rw [q22]; exact m1)⟩
  have hQU : QSr U [] := ⟨i21, by decide, fun j e hj => absurd hj (by simp), TBI_0 q29⟩
  have u0 : fl U 0 = fl S 0 := hF2.2.1 0 (by decide)
  have t0 : fl T 0 = fl S 0 := hF.2.1 0 (by decide)
  rw [t0]
  refine q_meetsE U _ (-1) (-1) _ [] g 0 hSU hQU (by decide) (fun ⟨e, he, _⟩ => (by cases he)) hg hst (Or.inl ⟨m1, rfl⟩) (fun V hV hSV hQV => ?_)
  have hV2 : FG S V := (hF2.wk (by decide) : FG S U).tr (hV.wk (by decide))
  have hBV : BR V := BR.fr hV (by decide) (by decide) (BR.fr hF2 (by decide) (by decide) hB)
  have v22 : (fi V 22).toInt = -1 := (congrArg Int32.toInt ((hV.1 22 (by decide)).trans q22)).trans m1
  have v23 : fi V 23 = 0 := (hV.1 23 (by decide)).trans q23
  have v0 : fl V 0 = fl S 0 := (hV.2.1 0 (by decide)).trans u0
  have hQV2 : QSr V (bsN cu ac l' s' cs d'.toInt g 0).1 := hQV
  have one : P g = false → ∀ x ∈ (bsN cu ac l' s' cs d'.toInt g 0).1, P x.1 = false := fun hz x hx => by
    rw [List.mem_singleton.mp hx]; exact hz
  refine ⟨fun hn => main V hV2 hSV hBV (Or.inl ⟨v22, hQV2, v23, one ?_⟩), fun hn => ?_⟩
  · rcases hP with ⟨-, rfl⟩ | ⟨z, -⟩
    · rfl
    · exfalso; omega
  rcases hP with ⟨z, -⟩ | ⟨z, l, hl, rfl⟩
  · exact absurd z hn
  have hmV : MIx V nv cu ac := MIx_fr hm hV2 (by decide) (by decide)
  rw [v0]
  refine q_isNeverE V _ n' _ nv cu ac l g hmV hG hg hst hBV z hl (fun W hW hBW hNV => ⟨fun y => absurd y (by decide), fun _ => ?_⟩) (fun W hW hBW hNV => ⟨fun _ => ?_, fun y => absurd li_0 y⟩)
  · have hW2 : FG S W := hV2.tr (hW.wk (by decide))
    have hSW : SInv W := SInv_c hSV hW (by decide)
    have z22 : fi (si W 22 0) 22 = 0 := si_at _ _ _
    obtain ⟨t, ht⟩ := bsF_p (cu := cu) (ac := ac) (laws := l') (set := s') (cs := cs) (mo := d'.toInt) (g := g) (n := 0) (by omega)
    refine main _ (Fr.si (by decide) hW2) (SInv_22 hSW ⟨by decide, Or.inl li_0⟩) (BR.si hBW) (Or.inr ?_)
    rw [ht]
    refine FNx_p ⟨(si_ne (by decide)).trans ((hW.1 23 (by decide)).trans v23), 0, (g, 0), by rw [z22]; exact li_0, rfl, nvB_y.mpr hNV, fun i x hi => absurd hi (Nat.not_lt_zero _)⟩
  · have hW2 : FG S W := hV2.tr (hW.wk (by decide))
    have hSW : SInv W := SInv_c hSV hW (by decide)
    exact main W hW2 hSW hBW (Or.inl ⟨(congrArg Int32.toInt (hW.1 22 (by decide))).trans v22, QSr_fr hQV2 hW (by decide), (hW.1 23 (by decide)).trans v23, one (nvB_n hNV)⟩)
