/-- where a STATE would be first, by the class -/
def hKi (st : Int64) : Int32 := ((((st * (-7046029254386353131))).toUInt64 >>> ((54 : Int32).toInt64.toUInt64 &&& Int64.toUInt64 63)).toInt64 : Int64).toInt32
def hK (st : Int64) : Nat := (hKi st).toInt.toNat
theorem hK_r (st : Int64) : hKi st = nI (hK st) ∧ hK st < 1024 := by
  have hk : ((((54 : Int32).toInt64.toUInt64 &&& Int64.toUInt64 63)).toBitVec % 64#64).toNat = 54 := by decide +kernel
  have e1 : (((st * (-7046029254386353131)).toUInt64 >>> ((54 : Int32).toInt64.toUInt64 &&& Int64.toUInt64 63)).toInt64).toBitVec.toNat = (st * (-7046029254386353131)).toBitVec.toNat / 18014398509481984 := by
    have e2 : (((st * (-7046029254386353131)).toUInt64 >>> ((54 : Int32).toInt64.toUInt64 &&& Int64.toUInt64 63)).toInt64).toBitVec = (st * (-7046029254386353131)).toBitVec >>> (((54 : Int32).toInt64.toUInt64 &&& Int64.toUInt64 63).toBitVec % 64#64) := rfl
    rw [e2, BitVec.ushiftRight_eq', BitVec.toNat_ushiftRight, hk, Nat.shiftRight_eq_div_pow]
  have hl := (st * (-7046029254386353131)).toBitVec.isLt
  have h3 : (st * (-7046029254386353131)).toBitVec.toNat / 18014398509481984 < 1024 := by omega
  generalize (st * (-7046029254386353131)).toBitVec.toNat / 18014398509481984 = n at e1 h3
  have e4 := l_of e1 (by omega)
  have e5 : (hKi st).toInt = (n : Int) := by
    unfold hKi
    rw [l_int (by omega) (by omega)]
    exact e4
  unfold hK
  refine ⟨i_eq ?_, by omega⟩
  rw [nI_toInt (by omega)]
  omega
theorem nI_adN {a b : Nat} (h : a + b < 2147483648) : nI a + nI b = nI (a + b) := i_eq (by
  have ea : (nI a).toInt = (a : Int) := nI_toInt (by omega)
  have eb : (nI b).toInt = (b : Int) := nI_toInt (by omega)
  have ec : (nI (a + b)).toInt = ((a + b : Nat) : Int) := nI_toInt h
  rw [ec, Int32.toInt_add, ea, eb, bm (by omega) (by omega)]
  omega)
/-- the class's table -/
abbrev kT (S : KS) : Nat → Int := fun p => (ar S.1 20 p).toInt - 1
abbrev kH (S : KS) : Nat → Nat := fun j => hK (al S.1 2 j)
theorem nI_incL {n : Nat} (h : n < 100000) : nI n + 1 = nI (n + 1) := i_eq (by rw [inc1 (by rw [nI_toInt (by omega)]; omega), nI_toInt (by omega), nI_toInt (by omega)]; omega)
set_option maxHeartbeats 400000 in
theorem r_8_slotOfE (cy : Nat → ClassId) (tE : Nat) (S : KS) (st : Int64) (post : Int32 → KS → Prop) (n : Nat) (hT : TBI (kH S) (kT S) n) (hn : n ≤ 400) (k : ∀ (r : Int32) (d : Nat), d < 1024 → r.toInt = (((hK st + d) % 1024 : Nat) : Int) → (∀ d', d' < d → kT S ((hK st + d') % 1024) ≠ -1) → ((kT S ((hK st + d) % 1024) = -1 ∧ ∀ j, j < n → al S.1 2 j ≠ st) ∨ (kT S ((hK st + d) % 1024) ≠ -1 ∧ ∃ j, j < n ∧ al S.1 2 j = st)) → post r S) : w_X8_slotOf cy tE S st post := by
  unfold w_X8_slotOf
  obtain ⟨d0, d01, d02⟩ := TBI_f hT hn (hK st)
  obtain ⟨hr1, hr2⟩ := hK_r st
  refine lr4 (fun (T : KS) (v : Int64) (x3 x4 : Int32) => T = S ∧ v = st ∧ x3 = hKi st ∧ ∃ d : Nat, x4 = nI d ∧ d ≤ d0 ∧ ∀ d', d' < d → kT S ((hK st + d') % 1024) ≠ -1 ∧ ¬ (al S.1 2 (kT S ((hK st + d') % 1024)).toNat = st)) (fun _ _ _ x => (1024 - x.toInt).toNat) ?_ _ _ _ _ ⟨rfl, rfl, rfl, 0, rfl, Nat.zero_le _, fun d' hd' => absurd hd' (Nat.not_lt_zero _)⟩
  rintro kk T v x3 x4 ⟨rfl, rfl, rfl, d, rfl, hd, hp⟩ hk
  unfold w_X8_slotOf_F13 w_X8_slotOf_B67 w_X8_slotOf_B76
  have xn : (nI d).toInt = (d : Int) := nI_toInt (by omega)
  have es : ((hKi v + nI d) &&& 1023).toInt = (((hK v + d) % 1024 : Nat) : Int) := by
    rw [hr1, nI_adN (by omega)]
    exact a1023 _ (by omega)
  have en : ((hKi v + nI d) &&& 1023).toNatClampNeg = (hK v + d) % 1024 := by rw [tnc, es]; omega
  have hlt : (hK v + d) % 1024 < 1024 := Nat.mod_lt _ (by decide)
  have fin : (kT T ((hK v + d) % 1024) = -1 ∨ al T.1 2 (kT T ((hK v + d) % 1024)).toNat = v) → post ((hKi v + nI d) &&& 1023) T := fun he => k _ d (by omega) es (fun d' hd' => (hp d' hd').1) (TBI_s hT hn (fun j => al T.1 2 j = v) (fun j _ hj => congrArg hK (show al T.1 2 j = v from hj)) hr2 hp he (by omega))
  rw [xn, es, en]
  have b : kT T ((hK v + d) % 1024) = -1 ∨ (0 ≤ kT T ((hK v + d) % 1024) ∧ kT T ((hK v + d) % 1024) < (n : Int)) := hT.1 _ hlt
  have q1 : (ar T.1 20 ((hK v + d) % 1024) - 1).toInt = kT T ((hK v + d) % 1024) := sub1 (by
    have : kT T ((hK v + d) % 1024) = (ar T.1 20 ((hK v + d) % 1024)).toInt - 1 := rfl
    omega)
  have q2 : (ar T.1 20 ((hK v + d) % 1024) - 1).toNatClampNeg = (kT T ((hK v + d) % 1024)).toNat := by rw [tnc, q1]
  rw [q1, q2]
  refine ⟨fun h => by exfalso; omega, fun _ => ⟨by omega, fun h1 => fin (Or.inl (by omega)), fun h1 => ⟨fun h2 => by exfalso; omega, fun h2 => ⟨by omega, fun hne => ?_, fun heq => fin (Or.inr (lg_eq heq))⟩⟩⟩⟩
  have dn : d ≠ d0 := fun e => by
    rw [← e] at d02
    omega
  have ej : nI d + 1 = nI (d + 1) := nI_incL (by omega)
  refine hk _ _ _ _ ⟨rfl, rfl, rfl, d + 1, ej, by omega, fun d' hd' => ?_⟩ (by rw [ej, nI_toInt (by omega), xn]; omega)
  by_cases e : d' = d
  · rw [e]
    exact ⟨by omega, fun z => hne (by rw [z]; exact lg_rf v)⟩
  · exact hp d' (by omega)
/-- the SEARCH's rows are L -/
def CSr (S : KS) (L : BS) : Prop := (fi S.1 33).toInt = (L.1.length : Int) ∧ L.1.length ≤ 400 ∧ (∀ (j : Nat) (e : BE), L.1[j]? = some e → (al S.1 2 j).toInt = ckI e.1 ∧ (ar S.1 17 j).toInt = (e.2 : Int) ∧ GJ e.1) ∧ TBI (kH S) (kT S) L.1.length ∧ fi S.1 34 = if L.2 = true then 1 else 0
theorem CSr_cg {S S' : KS} {L : BS} (h : CSr S L) (e33 : fi S'.1 33 = fi S.1 33) (e34 : fi S'.1 34 = fi S.1 34) (e17 : ar S'.1 17 = ar S.1 17) (e20 : ar S'.1 20 = ar S.1 20) (e2 : al S'.1 2 = al S.1 2) : CSr S' L := by
  unfold CSr kH kT at *
  rw [e33, e34, e17, e20, e2]
  exact h
theorem CSr_t {S : KS} {L : BS} (h : CSr S L) : ((fi S.1 34).toInt ≠ 0 → L.2 = true) ∧ ((fi S.1 34).toInt = 0 → L.2 = false) := by
  obtain ⟨-, -, -, -, e⟩ := h
  cases hL : L.2 with
  | true =>
    rw [hL, if_pos rfl] at e
    exact ⟨fun _ => rfl, fun z => by rw [e] at z; exact absurd z (by decide)⟩
  | false =>
    rw [hL, if_neg (by decide)] at e
    exact ⟨fun z => absurd (by rw [e]; exact li_0) z, fun _ => rfl⟩
theorem CSr_m {S : KS} {L : BS} {g : SV} {st : Int64} (h : CSr S L) (hg : GJ g) (hst : st.toInt = ckI g) : (∃ e ∈ L.1, pkI e.1 = pkI g) ↔ ∃ j, j < L.1.length ∧ al S.1 2 j = st := by
  obtain ⟨-, -, hE, -, -⟩ := h
  refine ⟨fun ⟨e, he, h1⟩ => ?_, fun ⟨j, hj, h1⟩ => ?_⟩
  · obtain ⟨j, hj⟩ := List.mem_iff_getElem?.mp he
    obtain ⟨a1, -, a3⟩ := hE j e hj
    refine ⟨j, gt_lt hj, Int64.toInt_inj.mp ?_⟩
    rw [a1, hst]
    exact (ck_pk a3.1 hg.1 a3.2.1 hg.2.1).mpr h1
  · have hget := List.getElem?_eq_getElem hj
    obtain ⟨a1, -, a3⟩ := hE j _ hget
    refine ⟨L.1[j], List.getElem_mem hj, ?_⟩
    apply (ck_pk a3.1 hg.1 a3.2.1 hg.2.1).mp
    rw [← a1, h1, hst]
set_option maxHeartbeats 1000000 in
theorem r_8_meetE (cy : Nat → ClassId) (tE : Nat) (S : KS) (st : Int64) (bf c : Int32) (post : KS → Prop) (L : BS) (g : SV) (d : Nat) (hL : CSr S L) (hg : GJ g) (hst : st.toInt = ckI g) (hb : (bf.toInt = -1 ∧ d = 0) ∨ ∃ (b : Nat) (e : BE), bf.toInt = (b : Int) ∧ L.1[b]? = some e ∧ d = e.2 + 1 ∧ (d : Int) ≤ 2147483647) (k : ∀ S', KF [33, 34] [17, 18, 19, 20] [2] S S' → CSr S' (bsM L g d) → post S') : w_X8_meet cy tE S st bf c post := by
  unfold w_X8_meet w_X8_meet_B89
  have hm := CSr_m hL hg hst
  obtain ⟨h33, h400, hE, hT, h34⟩ := id hL
  refine r_8_slotOfE cy tE S st _ L.1.length hT h400 (fun r d0 hd0 hr hpath hcase => ?_)
  have hlt : (hK st + d0) % 1024 < 1024 := Nat.mod_lt _ (by decide)
  have rn : r.toNatClampNeg = (hK st + d0) % 1024 := by rw [tnc, hr]; omega
  have eT : kT S ((hK st + d0) % 1024) = (ar S.1 20 ((hK st + d0) % 1024)).toInt - 1 := rfl
  rw [rn]
  refine ⟨by omega, fun hz => ⟨fun h4 => ?_, fun h4 => ?_⟩, fun hz => ?_⟩
  · have hno : ¬ ∃ e ∈ L.1, pkI e.1 = pkI g := by
      rcases hcase with ⟨-, q⟩ | ⟨q, -⟩
      · intro z
        obtain ⟨j, j1, j2⟩ := hm.mp z
        exact q j j1 j2
      · exfalso; omega
    have en : (fi S.1 33).toNatClampNeg = L.1.length := by rw [tnc, h33]; omega
    have e33 : (fi S.1 33 + 1).toInt = (L.1.length : Int) + 1 := by rw [inc1 (by omega), h33]
    have fin : ∀ y : Int32, y.toInt = (d : Int) → post (ksu (ksi (ksu (ksu (ksu (ksv S 2 L.1.length st) 18 L.1.length bf) 19 L.1.length c) 17 L.1.length y) 33 (fi S.1 33 + 1)) 20 ((hK st + d0) % 1024) (fi S.1 33 + 1)) := by
      intro y hy
      have hF : KF [33, 34] [17, 18, 19, 20] [2] S (ksu (ksi (ksu (ksu (ksu (ksv S 2 L.1.length st) 18 L.1.length bf) 19 L.1.length c) 17 L.1.length y) 33 (fi S.1 33 + 1)) 20 ((hK st + d0) % 1024) (fi S.1 33 + 1)) := KF_su (by decide) (KF_si (by decide) (KF_su (by decide) (KF_su (by decide) (KF_su (by decide) (KF_sv (by decide) (KF_rf S))))))
      have v33 : fi (ksu (ksi (ksu (ksu (ksu (ksv S 2 L.1.length st) 18 L.1.length bf) 19 L.1.length c) 17 L.1.length y) 33 (fi S.1 33 + 1)) 20 ((hK st + d0) % 1024) (fi S.1 33 + 1)).1 33 = fi S.1 33 + 1 := si_at (ksu (ksu (ksu (ksv S 2 L.1.length st) 18 L.1.length bf) 19 L.1.length c) 17 L.1.length y).1 33 (fi S.1 33 + 1)
      have v34 : fi (ksu (ksi (ksu (ksu (ksu (ksv S 2 L.1.length st) 18 L.1.length bf) 19 L.1.length c) 17 L.1.length y) 33 (fi S.1 33 + 1)) 20 ((hK st + d0) % 1024) (fi S.1 33 + 1)).1 34 = fi S.1 34 := (show fi (si (ksu (ksu (ksu (ksv S 2 L.1.length st) 18 L.1.length bf) 19 L.1.length c) 17 L.1.length y).1 33 (fi S.1 33 + 1)) 34 = fi S.1 34 from si_ne (by decide))
      have v17 : ar (ksu (ksi (ksu (ksu (ksu (ksv S 2 L.1.length st) 18 L.1.length bf) 19 L.1.length c) 17 L.1.length y) 33 (fi S.1 33 + 1)) 20 ((hK st + d0) % 1024) (fi S.1 33 + 1)).1 17 = upd (ar S.1 17) L.1.length y := by
        have q1 : ar (ksu (ksi (ksu (ksu (ksu (ksv S 2 L.1.length st) 18 L.1.length bf) 19 L.1.length c) 17 L.1.length y) 33 (fi S.1 33 + 1)) 20 ((hK st + d0) % 1024) (fi S.1 33 + 1)).1 17 = ar (ksu (ksu (ksu (ksv S 2 L.1.length st) 18 L.1.length bf) 19 L.1.length c) 17 L.1.length y).1 17 := su_ne (by decide)
        have q2 : ar (ksu (ksu (ksu (ksv S 2 L.1.length st) 18 L.1.length bf) 19 L.1.length c) 17 L.1.length y).1 17 = upd (ar (ksu (ksu (ksv S 2 L.1.length st) 18 L.1.length bf) 19 L.1.length c).1 17) L.1.length y := su_at _ _ _ _
        have q3 : ar (ksu (ksu (ksv S 2 L.1.length st) 18 L.1.length bf) 19 L.1.length c).1 17 = ar S.1 17 := (su_ne (by decide)).trans (su_ne (by decide))
        rw [q1, q2, q3]
      have v20 : ar (ksu (ksi (ksu (ksu (ksu (ksv S 2 L.1.length st) 18 L.1.length bf) 19 L.1.length c) 17 L.1.length y) 33 (fi S.1 33 + 1)) 20 ((hK st + d0) % 1024) (fi S.1 33 + 1)).1 20 = upd (ar S.1 20) ((hK st + d0) % 1024) (fi S.1 33 + 1) := by
        have q1 : ar (ksu (ksi (ksu (ksu (ksu (ksv S 2 L.1.length st) 18 L.1.length bf) 19 L.1.length c) 17 L.1.length y) 33 (fi S.1 33 + 1)) 20 ((hK st + d0) % 1024) (fi S.1 33 + 1)).1 20 = upd (ar (ksu (ksu (ksu (ksv S 2 L.1.length st) 18 L.1.length bf) 19 L.1.length c) 17 L.1.length y).1 20) ((hK st + d0) % 1024) (fi S.1 33 + 1) := su_at _ _ _ _
        have q2 : ar (ksu (ksu (ksu (ksv S 2 L.1.length st) 18 L.1.length bf) 19 L.1.length c) 17 L.1.length y).1 20 = ar S.1 20 := (su_ne (by decide)).trans ((su_ne (by decide)).trans (su_ne (by decide)))
        rw [q1, q2]
      have v2 : al (ksu (ksi (ksu (ksu (ksu (ksv S 2 L.1.length st) 18 L.1.length bf) 19 L.1.length c) 17 L.1.length y) 33 (fi S.1 33 + 1)) 20 ((hK st + d0) % 1024) (fi S.1 33 + 1)).1 2 = vp_updL (al S.1 2) L.1.length st := (show al (ksv S 2 L.1.length st).1 2 = vp_updL (al S.1 2) L.1.length st from sv_at _ _ _ _)
      generalize ksu (ksi (ksu (ksu (ksu (ksv S 2 L.1.length st) 18 L.1.length bf) 19 L.1.length c) 17 L.1.length y) 33 (fi S.1 33 + 1)) 20 ((hK st + d0) % 1024) (fi S.1 33 + 1) = V at hF v33 v34 v17 v20 v2 ⊢
      refine k V hF ?_
      rw [bsM_a hno (by omega)]
      refine ⟨?_, ?_, fun j e hj => ?_, ?_, by rw [v34]; exact h34⟩
      · rw [v33, e33]
        simp only [List.length_append, List.length_cons, List.length_nil]
        omega
      · simp only [List.length_append, List.length_cons, List.length_nil]
        omega
      · have hj' : (L.1 ++ [(g, d)])[j]? = some e := hj
        by_cases q : j < L.1.length
        · rw [List.getElem?_append_left q] at hj'
          rw [v17, v2, upd_ne (by omega), upl_ne (by omega)]
          exact hE j e hj'
        · have hj2 := gt_lt hj'
          simp only [List.length_append, List.length_cons, List.length_nil] at hj2
          have ej : j = L.1.length := by omega
          rw [ej, List.getElem?_concat_length] at hj'
          have ee : (g, d) = e := Option.some.inj hj'
          rw [ej, v17, v2, upd_at, upl_at, ← ee]
          exact ⟨hst, hy, hg⟩
      · have hlen : (L.1 ++ [(g, d)]).length = L.1.length + 1 := by simp only [List.length_append, List.length_cons, List.length_nil]
        show TBI (kH V) (kT V) (L.1 ++ [(g, d)]).length
        rw [hlen]
        have hl2 : ∀ j, kH V j = hK (vp_updL (al S.1 2) L.1.length st j) := fun j => by
          show hK (al V.1 2 j) = _
          rw [v2]
        have ht2 : ∀ p, kT V p = (upd (ar S.1 20) ((hK st + d0) % 1024) (fi S.1 33 + 1) p).toInt - 1 := fun p => by
          show (ar V.1 20 p).toInt - 1 = _
          rw [v20]
        refine TBI_a hT hd0 hpath (by omega) (fun j hj => ?_) ?_ ?_ (fun p hp hne => ?_)
        · rw [hl2, upl_ne (by omega)]
        · rw [hl2, upl_at]
        · rw [ht2, upd_at, e33]; omega
        · rw [ht2, upd_ne hne]
    rw [en]
    refine ⟨by omega, by omega, by omega, fun hbf => ?_, fun hbf => ?_⟩
    · rcases hb with ⟨b1, -⟩ | ⟨b, e, b1, b2, b3, b4⟩
      · exact absurd b1 (by
          have q : (-1 : Int32).toInt = -1 := by decide
          omega)
      have bl := gt_lt b2
      obtain ⟨-, a2, -⟩ := hE b e b2
      unfold w_X8_acts w_X8_acts_B21 w_X8_acts_B22
      have q33 : fi (ksu (ksu (ksv S 2 L.1.length st) 18 L.1.length bf) 19 L.1.length c).1 33 = fi S.1 33 := rfl
      have q17 : ar (ksu (ksu (ksv S 2 L.1.length st) 18 L.1.length bf) 19 L.1.length c).1 17 = ar S.1 17 := (su_ne (by decide)).trans (su_ne (by decide))
      rw [q33, q17, h33]
      have bn : bf.toNatClampNeg = b := by rw [tnc, b1]; omega
      rw [bn]
      refine ⟨fun h => by exfalso; omega, fun _ => ⟨fun h => by exfalso; omega, fun _ => ⟨by omega, by omega, by omega, fin _ ?_⟩⟩⟩
      rw [inc1 (by omega), a2]
      omega
    · rcases hb with ⟨b1, b2⟩ | ⟨b, e, b1, -⟩
      · exact ⟨by omega, by omega, fin 0 (by rw [li_0]; omega)⟩
      · exfalso
        omega
  · have hno : ¬ ∃ e ∈ L.1, pkI e.1 = pkI g := by
      rcases hcase with ⟨-, q⟩ | ⟨q, -⟩
      · intro z
        obtain ⟨j, j1, j2⟩ := hm.mp z
        exact q j j1 j2
      · exfalso; omega
    refine k _ (KF_si (by decide) (KF_rf S)) ?_
    rw [bsM_s hno (by omega)]
    have q34 : fi (ksi S 34 1).1 34 = 1 := si_at _ _ _
    have q33 : fi (ksi S 34 1).1 33 = fi S.1 33 := si_ne (by decide)
    exact ⟨by rw [q33]; exact h33, h400, hE, hT, by rw [q34]; exact (if_pos rfl).symm⟩
  · have hyes : ∃ e ∈ L.1, pkI e.1 = pkI g := by
      rcases hcase with ⟨q, -⟩ | ⟨-, q⟩
      · exfalso; omega
      · exact hm.mpr q
    refine k S (KF_rf S) ?_
    rw [bsM_y hyes]
    exact hL
/-- CODES of PERSONS, of ACTS that there are -/
def okC (ac : Nat → Option AcT) (laws ps : Int32) (c : Int32) : Bool := decide (((ps >>> (cdA c &&& 31)) &&& 1).toInt = 1 ∧ ((cdB c).toInt = 3 ∨ ((ps >>> (cdB c &&& 31)) &&& 1).toInt = 1)) && (actO ac c laws).isSome
def cdL (ac : Nat → Option AcT) (laws ps : Int32) (n : Nat) : List Int32 := ((List.range n).map nI).filter (okC ac laws ps)
theorem cdL_s {ac : Nat → Option AcT} {laws ps : Int32} {n : Nat} : cdL ac laws ps (n + 1) = cdL ac laws ps n ++ (if okC ac laws ps (nI n) = true then [nI n] else []) := by
  unfold cdL
  rw [List.range_succ, List.map_append, List.filter_append]
  congr 1
  show List.filter (okC ac laws ps) [nI n] = _
  by_cases h : okC ac laws ps (nI n) = true
  · rw [if_pos h, List.filter_cons_of_pos h] <;> rfl
  · rw [if_neg h, List.filter_cons_of_neg h] <;> rfl
theorem cdL_y {ac : Nat → Option AcT} {laws ps : Int32} {n : Nat} (h : okC ac laws ps (nI n) = true) : cdL ac laws ps (n + 1) = cdL ac laws ps n ++ [nI n] := by rw [cdL_s, if_pos h]
theorem cdL_n {ac : Nat → Option AcT} {laws ps : Int32} {n : Nat} (h : okC ac laws ps (nI n) ≠ true) : cdL ac laws ps (n + 1) = cdL ac laws ps n := by rw [cdL_s, if_neg h, List.append_nil]
theorem cdL_m {ac : Nat → Option AcT} {laws ps : Int32} {n : Nat} : ∀ k, (cdL ac laws ps n).length ≤ (cdL ac laws ps (n + k)).length
  | 0 => Nat.le_refl _
  | k + 1 => by
    have := cdL_m (ac := ac) (laws := laws) (ps := ps) (n := n) k
    show _ ≤ (cdL ac laws ps (n + k + 1)).length
    rw [cdL_s, List.length_append]
    omega
theorem cdL_r {ac : Nat → Option AcT} {laws ps : Int32} {n : Nat} (hn : n ≤ 768) {c : Int32} (h : c ∈ cdL ac laws ps n) : 0 ≤ c.toInt ∧ c.toInt ≤ 767 := by
  unfold cdL at h
  have h2 := (List.mem_filter.mp h).1
  obtain ⟨i, hi, e⟩ := List.mem_map.mp h2
  have hi2 := List.mem_range.mp hi
  rw [← e, nI_toInt (by omega)]
  omega
/-- of the 64 CODES of an ACT those that can be -/
def fitB (o t : Bool) (i : Nat) : Bool := decide (i / 16 % 4 ≠ 3) && (if o = true then decide (i / 4 % 4 ≠ 3 ∧ i / 4 % 4 ≠ i / 16 % 4) else decide (i / 4 % 4 = 3)) && (if t = true then decide (i % 4 ≠ 3) else decide (i % 4 = 3))
theorem fitB_18 : ∀ o t : Bool, (List.range 64).countP (fitB o t) ≤ 18 := by decide +kernel
theorem okC_b {ac : Nat → Option AcT} {laws ps : Int32} {x : Nat} (hx : x < 12) : (List.range 64).countP (fun i => okC ac laws ps (nI (64 * x + i))) ≤ 18 := by
  have all : ∀ i, i < 64 → okC ac laws ps (nI (64 * x + i)) = true → ∃ a, ac x = some a ∧ ftA a (nI (64 * x + i)) := by
    intro i hi h
    unfold okC at h
    rw [Bool.and_eq_true] at h
    have h2 := h.2
    obtain ⟨a, ha⟩ := Option.isSome_iff_exists.mp h2
    obtain ⟨s1, s2, -⟩ := actO_s ha
    have en : (nI (64 * x + i)).toInt = ((64 * x + i : Nat) : Int) := nI_toInt (by omega)
    have e64 : (nI (64 * x + i) / 64).toInt = (nI (64 * x + i)).toInt / 64 := by
      simp (disch := omega) only [Int32.toInt_div, li_64, tdv, bm]
    have ex : (nI (64 * x + i) / 64).toInt.toNat = x := by omega
    rw [ex] at s1
    exact ⟨a, s1, s2⟩
  cases hax : ac x with
  | none =>
    have : (List.range 64).countP (fun i => okC ac laws ps (nI (64 * x + i))) = 0 := by
      rw [List.countP_eq_zero]
      intro i hi h
      obtain ⟨a, h1, -⟩ := all i (List.mem_range.mp hi) h
      rw [hax] at h1
      cases h1
    omega
  | some a =>
    refine Nat.le_trans (List.countP_mono_left (q := fitB (decide (a.2.1.toInt ≠ 0)) (decide (a.2.2.1.toInt ≠ 0))) (fun i hi h => ?_)) (fitB_18 _ _)
    have hi2 := List.mem_range.mp hi
    obtain ⟨a', h1, f1, ⟨f2, f3⟩, f4, f5⟩ := all i hi2 h
    rw [hax] at h1
    obtain rfl : a = a' := Option.some.inj h1
    have en : (nI (64 * x + i)).toInt = ((64 * x + i : Nat) : Int) := nI_toInt (by omega)
    obtain ⟨v1, v2, v3⟩ := cd_v (c := nI (64 * x + i)) (by omega)
    unfold fitB
    rw [Bool.and_eq_true, Bool.and_eq_true]
    refine ⟨⟨decide_eq_true (by omega), ?_⟩, ?_⟩
    · by_cases z : a.2.1.toInt = 0
      · have := f2 z
        rw [if_neg (by simp [z])]
        exact decide_eq_true (by omega)
      · have := f3 z
        rw [if_pos (decide_eq_true z)]
        exact decide_eq_true (by omega)
    · by_cases z : a.2.2.1.toInt = 0
      · have := f4 z
        rw [if_neg (by simp [z])]
        exact decide_eq_true (by omega)
      · have := f5 z
        rw [if_pos (decide_eq_true z)]
        exact decide_eq_true (by omega)
theorem cdL_l {ac : Nat → Option AcT} {laws ps : Int32} : (cdL ac laws ps 768).length ≤ 216 := by
  have e : ∀ n, (cdL ac laws ps n).length = (List.range n).countP (fun i => okC ac laws ps (nI i)) := by
    intro n
    unfold cdL
    rw [← List.countP_eq_length_filter, List.countP_map]
    all_goals rfl
  have key : ∀ x, x ≤ 12 → (List.range (64 * x)).countP (fun i => okC ac laws ps (nI i)) ≤ 18 * x := by
    intro x
    induction x with
    | zero => intro _; exact Nat.le_refl 0
    | succ x ih =>
      intro hx
      have h1 := ih (by omega)
      have h2 := okC_b (ac := ac) (laws := laws) (ps := ps) (x := x) (by omega)
      have e64 : 64 * (x + 1) = 64 * x + 64 := by omega
      rw [e64, List.range_add, List.countP_append, List.countP_map]
      have e3 : (List.range 64).countP ((fun i => okC ac laws ps (nI i)) ∘ (fun j => 64 * x + j)) = (List.range 64).countP (fun i => okC ac laws ps (nI (64 * x + i))) := rfl
      rw [e3]
      omega
  rw [e]
  exact key 12 (Nat.le_refl _)
/-- the class's list of CODES -/
def CCd (S : KS) (cs : List Int32) : Prop := (fi S.1 26).toInt = (cs.length : Int) ∧ ∀ (t : Nat) (c : Int32), cs[t]? = some c → ar S.1 21 t = c
theorem CCd_cg {S S' : KS} {cs : List Int32} (h : CCd S cs) (e26 : fi S'.1 26 = fi S.1 26) (e21 : ar S'.1 21 = ar S.1 21) : CCd S' cs := by
  unfold CCd at *
  rw [e26, e21]; exact h
theorem CCd_a {S : KS} {cs : List Int32} {c : Int32} (h : CCd S cs) (hl : cs.length < 216) : CCd (ksi (ksu S 21 cs.length c) 26 (fi S.1 26 + 1)) (cs ++ [c]) := by
  obtain ⟨h1, h2⟩ := h
  have e26 : fi (ksi (ksu S 21 cs.length c) 26 (fi S.1 26 + 1)).1 26 = fi S.1 26 + 1 := si_at _ _ _
  have e21 : ar (ksi (ksu S 21 cs.length c) 26 (fi S.1 26 + 1)).1 21 = upd (ar S.1 21) cs.length c := su_at _ _ _ _
  refine ⟨?_, fun t x ht => ?_⟩
  · rw [e26, inc1 (by omega), h1]
    simp only [List.length_append, List.length_cons, List.length_nil]
    omega
  · rw [e21]
    by_cases q : t < cs.length
    · rw [List.getElem?_append_left q] at ht
      rw [upd_ne (by omega)]; exact h2 t x ht
    · have ht2 := gt_lt ht
      simp only [List.length_append, List.length_cons, List.length_nil] at ht2
      have et : t = cs.length := by omega
      rw [et, List.getElem?_concat_length] at ht
      rw [et, upd_at]
      exact Option.some.inj ht
theorem HQx_kf {I A M : List Nat} {cy : Nat → ClassId} {S S' : KS} {nv : List OL} {cu : List CuT} {ac : Nat → Option AcT} (h : HQx cy S nv cu ac) (f : KF I A M S S') : HQx cy S' nv cu ac := HQx_cg h f.2.1 (f.2.2.1 1 (by decide)) (f.2.2.1 2 (by decide)) (f.2.2.2.1 (by obtain ⟨A, h3, -⟩ := h; exact h3))
set_option maxHeartbeats 1000000 in
theorem r_8_listCodesE (cy : Nat → ClassId) (tE : Nat) (S : KS) (post : KS → Prop) (nv : List OL) (cu : List CuT) (ac : Nat → Option AcT) (hH : HQx cy S nv cu ac) (hG : GdL nv cu ac) (k : ∀ S', KF [26] [21] [] S S' → CCd S' (cdL ac (fi S.1 27) (fi S.1 29) 768) → post S') : w_X8_listCodes cy tE S post := by
  unfold w_X8_listCodes
  have s26 : fi (ksi S 26 0).1 26 = 0 := si_at _ _ _
  refine lr2 (fun (T : KS) (x : Int32) => KF [26] [21] [] S T ∧ ∃ n : Nat, n ≤ 768 ∧ x = nI n ∧ CCd T (cdL ac (fi S.1 27) (fi S.1 29) n)) (fun _ x => (768 - x.toInt).toNat) ?_ _ _ ⟨KF_si (by decide) (KF_rf S), 0, by omega, rfl, by rw [s26, li_0] <;> rfl, fun t c ht => absurd ht (by simp [cdL])⟩
  rintro kk T x ⟨hT, n, hn, rfl, hc⟩ hk
  unfold w_X8_listCodes_F7 w_X8_listCodes_B55 w_X8_listCodes_B51 w_X8_listCodes_B117 w_X11_otherOf w_X11_doerOf
  have xn : (nI n).toInt = (n : Int) := nI_toInt (by omega)
  rw [xn]
  refine ⟨fun h => ?_, fun h => ?_⟩
  · obtain rfl : n = 768 := by omega
    exact k T hT hc
  have hn2 : n < 768 := by omega
  have s1 : nI n + 1 = nI (n + 1) := nI_inc (by omega)
  have t27 : fi T.1 27 = fi S.1 27 := hT.1.1 27 (by decide)
  have t29 : fi T.1 29 = fi S.1 29 := hT.1.1 29 (by decide)
  have go : ∀ U, KF [26] [21] [] S U → CCd U (cdL ac (fi S.1 27) (fi S.1 29) (n + 1)) → kk U (nI n + 1) := fun U hU hu => by
    rw [s1]
    exact hk _ _ ⟨hU, n + 1, by omega, rfl, hu⟩ (by rw [nI_toInt (by omega), xn]; omega)
  have no : okC ac (fi S.1 27) (fi S.1 29) (nI n) ≠ true → kk T (nI n + 1) := fun z => go T hT (by rw [cdL_n z]; exact hc)
  have split : okC ac (fi S.1 27) (fi S.1 29) (nI n) = true → (((fi S.1 29 >>> (cdA (nI n) &&& 31)) &&& 1).toInt = 1 ∧ ((cdB (nI n)).toInt = 3 ∨ ((fi S.1 29 >>> (cdB (nI n) &&& 31)) &&& 1).toInt = 1)) ∧ ∃ a, actO ac (nI n) (fi S.1 27) = some a := by
    intro z
    unfold okC at z
    rw [Bool.and_eq_true] at z
    exact ⟨of_decide_eq_true z.1, Option.isSome_iff_exists.mp z.2⟩
  have hl : (okC ac (fi S.1 27) (fi S.1 29) (nI n) = true) → (cdL ac (fi S.1 27) (fi S.1 29) n).length < 216 := by
    intro z
    have a1 := cdL_m (ac := ac) (laws := fi S.1 27) (ps := fi S.1 29) (n := n + 1) (767 - n)
    rw [show n + 1 + (767 - n) = 768 by omega, cdL_y z, List.length_append] at a1
    have a2 := cdL_l (ac := ac) (laws := fi S.1 27) (ps := fi S.1 29)
    have a3 : ([nI n] : List Int32).length = 1 := rfl
    omega
  have b56 : (((fi S.1 29 >>> (cdA (nI n) &&& 31)) &&& 1).toInt = 1 ∧ ((cdB (nI n)).toInt = 3 ∨ ((fi S.1 29 >>> (cdB (nI n) &&& 31)) &&& 1).toInt = 1)) → ∀ K : KS → Prop, w_X8_listCodes_B56 cy tE post kk K T (nI n) 1 := by
    intro hp K
    unfold w_X8_listCodes_B56 w_X8_listCodes_B111
    have ok1 : ∀ a, actO ac (nI n) (fi S.1 27) = some a → okC ac (fi S.1 27) (fi S.1 29) (nI n) = true := by
      intro a ha
      unfold okC
      rw [Bool.and_eq_true]
      exact ⟨decide_eq_true hp, by rw [ha] <;> rfl⟩
    refine ⟨fun z => absurd z (by decide), fun _ => ⟨fun h216 => ?_, fun h216 => ?_⟩⟩
    · refine no (fun z => ?_)
      have := hl z
      rw [hc.1] at h216
      omega
    · rw [t27]
      obtain ⟨A, -, -, -, hA⟩ := HQx_kf hH hT
      refine r_4_actOfE cy tE T A (nI n) (fi S.1 27) _ ac (by omega) hA (fun j a h => (hG.2.2 j a h).1) (fun h0 => ⟨fun _ => ?_, fun q z => (by cases z)⟩) (fun q a h0 _ => ⟨fun z => (by cases z), fun q' _ => ?_⟩)
      · refine no (fun z => ?_)
        obtain ⟨a, ha⟩ := (split z).2
        rw [h0] at ha
        cases ha
      · have z := ok1 a h0
        have hlen := hl z
        have en : (fi T.1 26).toNatClampNeg = (cdL ac (fi S.1 27) (fi S.1 29) n).length := by rw [tnc, hc.1]; omega
        rw [en]
        refine ⟨by rw [hc.1]; omega, go _ (KF_si (by decide) (KF_su (by decide) hT)) ?_⟩
        rw [cdL_y z]
        exact CCd_a hc hlen
  have b0 : ¬ (((fi S.1 29 >>> (cdA (nI n) &&& 31)) &&& 1).toInt = 1 ∧ ((cdB (nI n)).toInt = 3 ∨ ((fi S.1 29 >>> (cdB (nI n) &&& 31)) &&& 1).toInt = 1)) → ∀ K : KS → Prop, w_X8_listCodes_B56 cy tE post kk K T (nI n) 0 := by
    intro hp K
    unfold w_X8_listCodes_B56 w_X8_listCodes_B111
    exact ⟨fun _ => no (fun z => hp (split z).1), fun z => absurd li_0 z⟩
  rw [← t29] at b0 b56
  refine ⟨fun h1 => b0 (fun z => h1 z.1) _, fun h1 => ⟨fun h2 => b56 ⟨h1, Or.inl h2⟩ _, fun h2 => ⟨fun h3 => b0 (fun z => ?_) _, fun h3 => b56 ⟨h1, Or.inr h3⟩ _⟩⟩⟩
  rcases z.2 with z | z
  · exact h2 z
  · exact h3 z
/-- some a, unlike b, t: what never was meant to be -/
def NV (l : OL) (g : SV) : Prop := ∃ a b t : Nat, a < 3 ∧ b < 3 ∧ t < 3 ∧ a ≠ b ∧ (rkV g (nI a) (nI b) (nI t) l).toInt ≠ 0
def nvB (l : OL) (g : SV) : Bool := (List.range 3).any (fun a => (List.range 3).any (fun b => (List.range 3).any (fun t => decide (a ≠ b ∧ (rkV g (nI a) (nI b) (nI t) l).toInt ≠ 0))))
theorem nvB_y {l : OL} {g : SV} : nvB l g = true ↔ NV l g := by
  unfold nvB NV
  rw [List.any_eq_true]
  refine ⟨fun ⟨a, ha, h⟩ => ?_, fun ⟨a, b, t, ha, hb, ht, h1, h2⟩ => ?_⟩
  · rw [List.any_eq_true] at h
    obtain ⟨b, hb, h⟩ := h
    rw [List.any_eq_true] at h
    obtain ⟨t, ht, h⟩ := h
    have h2 := of_decide_eq_true h
    exact ⟨a, b, t, List.mem_range.mp ha, List.mem_range.mp hb, List.mem_range.mp ht, h2.1, h2.2⟩
  · refine ⟨a, List.mem_range.mpr ha, ?_⟩
    rw [List.any_eq_true]
    refine ⟨b, List.mem_range.mpr hb, ?_⟩
    rw [List.any_eq_true]
    exact ⟨t, List.mem_range.mpr ht, decide_eq_true ⟨h1, h2⟩⟩
theorem nvB_n {l : OL} {g : SV} (h : ¬ NV l g) : nvB l g = false := by
  cases e : nvB l g with
  | true => exact absurd (nvB_y.mp e) h
  | false => rfl
theorem cd_abt : ∀ a, a < 3 → ∀ b, b < 3 → ∀ t, t < 3 → cdA ((((16 : Int32) * nI a) + ((4 : Int32) * nI b)) + nI t) = nI a ∧ cdB ((((16 : Int32) * nI a) + ((4 : Int32) * nI b)) + nI t) = nI b ∧ cdT ((((16 : Int32) * nI a) + ((4 : Int32) * nI b)) + nI t) = nI t := by decide +kernel
set_option maxHeartbeats 1000000 in
theorem r_2_isNeverE (cy : Nat → ClassId) (tE : Nat) (S : KS) (A : Nat → Prop) (q : Nat) (post : Int32 → KS → Prop) (l : OL) (g : SV) (hq : CLx cy A S.2.2.2 q (5, 0, l)) (hG : GdB l) (hg : AGR (ar S.1 5) g) (k1 : ∀ S', KF [23, 24, 25] [16] [] S S' → NV l g → post 1 S') (k0 : ∀ S', KF [23, 24, 25] [16] [] S S' → ¬ NV l g → post 0 S') : w_X2_isNever cy tE S 4 q post := by
  unfold w_X2_isNever
  have row : ∀ T, KF [23, 24, 25] [16] [] S T → AGR (ar T.1 (1 + 4)) g := fun T hT => by
    have e : ar T.1 (1 + 4) = ar S.1 5 := hT.1.2.2.1 5 (by decide)
    rw [e]; exact hg
  refine lr4 (fun (T : KS) (i q' : Nat) (a : Int32) => i = 4 ∧ q' = q ∧ KF [23, 24, 25] [16] [] S T ∧ ∃ n : Nat, n ≤ 3 ∧ a = nI n ∧ ∀ a' b' t', a' < n → b' < 3 → t' < 3 → a' ≠ b' → (rkV g (nI a') (nI b') (nI t') l).toInt = 0) (fun _ _ _ a => (3 - a.toInt).toNat) ?_ _ _ _ _ ⟨rfl, rfl, KF_rf S, 0, by omega, rfl, fun a' _ _ h => absurd h (Nat.not_lt_zero _)⟩
  rintro kk T i q' a ⟨rfl, rfl, hT, n, hn, rfl, hA⟩ hk
  unfold w_X2_isNever_F2 w_X2_isNever_B82
  have an : (nI n).toInt = (n : Int) := nI_toInt (by omega)
  rw [an]
  refine ⟨fun h => k0 T hT (fun ⟨a', b', t', h1, h2, h3, h4, h5⟩ => h5 (hA a' b' t' (by omega) h2 h3 h4)), fun h => ?_⟩
  have sa : nI n + 1 = nI (n + 1) := nI_inc (by omega)
  refine lr5 (fun (U : KS) (i2 q2 : Nat) (a2 b : Int32) => i2 = 4 ∧ q2 = q' ∧ a2 = nI n ∧ KF [23, 24, 25] [16] [] S U ∧ ∃ m : Nat, m ≤ 3 ∧ b = nI m ∧ ∀ b' t', b' < m → t' < 3 → n ≠ b' → (rkV g (nI n) (nI b') (nI t') l).toInt = 0) (fun _ _ _ _ b => (3 - b.toInt).toNat) ?_ _ _ _ _ _ ⟨rfl, rfl, rfl, hT, 0, by omega, rfl, fun b' _ h => absurd h (Nat.not_lt_zero _)⟩
  rintro kk2 U i2 q2 a2 b ⟨rfl, rfl, rfl, hU, m, hm, rfl, hB⟩ hk2
  unfold w_X2_isNever_F10 w_X2_isNever_B76
  have bn : (nI m).toInt = (m : Int) := nI_toInt (by omega)
  rw [bn]
  have sb : nI m + 1 = nI (m + 1) := nI_inc (by omega)
  refine ⟨fun h2 => ?_, fun h2 => ?_⟩
  · rw [sa]
    refine hk _ _ _ _ ⟨rfl, rfl, hU, n + 1, by omega, rfl, fun a' b' t' h1 h3 h4 h5 => ?_⟩ (by rw [nI_toInt (by omega), an]; omega)
    by_cases e : a' = n
    · rw [e]; exact hB b' t' (by omega) h4 (by omega)
    · exact hA a' b' t' (by omega) h3 h4 h5
  refine lr6 (fun (V : KS) (i3 q3 : Nat) (a3 b2 t : Int32) => i3 = 4 ∧ q3 = q2 ∧ a3 = nI n ∧ b2 = nI m ∧ KF [23, 24, 25] [16] [] S V ∧ ∃ r : Nat, r ≤ 3 ∧ t = nI r ∧ ∀ t', t' < r → n ≠ m → (rkV g (nI n) (nI m) (nI t') l).toInt = 0) (fun _ _ _ _ _ t => (3 - t.toInt).toNat) ?_ _ _ _ _ _ _ ⟨rfl, rfl, rfl, rfl, hU, 0, by omega, rfl, fun t' h => absurd h (Nat.not_lt_zero _)⟩
  rintro kk3 V i3 q3 a4 b2 t ⟨rfl, rfl, rfl, rfl, hV, r, hr, rfl, hC⟩ hk3
  unfold w_X2_isNever_F19 w_X2_isNever_B70 w_X2_isNever_B64
  have tn : (nI r).toInt = (r : Int) := nI_toInt (by omega)
  rw [tn, an, bn]
  have sc : nI r + 1 = nI (r + 1) := nI_inc (by omega)
  refine ⟨fun h3 => ?_, fun h3 => ?_⟩
  · rw [sb]
    refine hk2 _ _ _ _ _ ⟨rfl, rfl, rfl, hV, m + 1, by omega, rfl, fun b' t' h4 h5 h6 => ?_⟩ (by rw [nI_toInt (by omega), bn]; omega)
    by_cases e : b' = m
    · rw [e]; exact hC t' (by omega) (by omega)
    · exact hB b' t' (by omega) h5 h6
  refine r_6_lookE cy tE V 4 _ _ g (by decide) (row V hV) (fun W hW hL => ?_)
  have hW2 : KF [23, 24, 25] [16] [] S W := KF_tr hV (KF_wk hW (by decide))
  obtain ⟨c1, c2, c3⟩ := cd_abt n (by omega) m (by omega) r (by omega)
  have go : ∀ Y, KF [23, 24, 25] [16] [] S Y → (n ≠ m → (rkV g (nI n) (nI m) (nI r) l).toInt = 0) → kk3 Y 4 q3 (nI n) (nI m) (nI r + 1) := fun Y hY hz => by
    rw [sc]
    refine hk3 _ _ _ _ _ _ ⟨rfl, rfl, rfl, rfl, hY, r + 1, by omega, rfl, fun t' h4 h5 => ?_⟩ (by rw [nI_toInt (by omega), tn]; omega)
    by_cases e : t' = r
    · rw [e]; exact hz h5
    · exact hC t' (by omega) h5
  have eL : W.2.2.2 = S.2.2.2 := by rw [hW2.2.1]
  refine ⟨fun e => go W hW2 (fun z => absurd (show n = m by omega) z), fun e => ?_⟩
  refine r_6_valL cy tE W A q3 4 _ _ (5, 0, l) g [true] (by rw [eL]; exact hq) (by decide) hL hG (Nat.le_refl 1) (fun Y hY => ?_)
  have hY2 : KF [23, 24, 25] [16] [] S Y := KF_tr hW2 (KF_wk (KV_KF hY) (by decide))
  rw [c1, c2, c3]
  exact ⟨fun z => go Y hY2 (fun _ => z), fun z => k1 Y hY2 ⟨n, m, r, by omega, by omega, by omega, by omega, z⟩⟩
