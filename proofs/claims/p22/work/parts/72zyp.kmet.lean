theorem mn_s {k : Nat → Int} {m : Nat} {a b : Int64} (ha : a.toInt = k (m + 1)) (hb : b.toInt = mn k m) : (if (a < b : Prop) then a else b).toInt = mn k (m + 1) := by
  show _ = if k (m + 1) < mn k m then k (m + 1) else mn k m
  rw [← ha, ← hb]
  by_cases c : a.toInt < b.toInt
  · rw [if_pos c, if_pos (Int64.lt_iff_toInt_lt.mpr c)]
  · rw [if_neg c, if_neg (fun q => c (Int64.lt_iff_toInt_lt.mp q))]
theorem dm_6 : ∀ n, n < 36 → nI n / 6 = nI (n / 6) ∧ nI n - nI n / 6 * 6 = nI (n % 6) := by decide +kernel
/-- the class's least name -/
theorem r_8_leastE (cy : Nat → ClassId) (tE : Nat) (S : KS) (post : Int64 → KS → Prop) (f : SV) (hF : GV f) (hf : EQV (ar S.1 5) f) (k : ∀ v : Int64, v.toInt = MNF ckI f → post v S) : w_X8_leastName cy tE S post := by
  unfold w_X8_leastName
  show w_X9_packed cy tE S 4 (nI 0) (nI 0) _
  refine r_9_packR cy tE S 4 0 0 _ f (by decide) (by decide) (by decide) hF hf (fun v hv => ?_)
  refine lr3 (fun (U : KS) (v : Int64) (x : Int32) => U = S ∧ ∃ n : Nat, n < 36 ∧ x = nI (n + 1) ∧ v.toInt = mn (fun i => ckI (rn (i / 6) (i % 6) f)) n) (fun _ _ x => (36 - x.toInt).toNat) ?_ _ _ _ ⟨rfl, 0, by omega, rfl, hv⟩
  rintro kk U v x ⟨rfl, n, n6, rfl, hv⟩ hk
  unfold w_X8_leastName_F12 w_X8_leastName_B44
  have xn : (nI (n + 1)).toInt = ((n + 1 : Nat) : Int) := nI_toInt (by omega)
  rw [xn]
  refine ⟨fun h => ?_, fun h => ?_⟩
  · obtain rfl : n = 35 := by omega
    exact k v hv
  · have hn : n + 1 < 36 := by omega
    rw [(dm_6 (n + 1) hn).2, (dm_6 (n + 1) hn).1]
    refine r_9_packR cy tE U 4 ((n + 1) / 6) ((n + 1) % 6) _ f (by decide) (by omega) (by omega) hF hf (fun w hw => ?_)
    rw [nI_inc (n := n + 1) (by omega)]
    exact hk _ _ _ ⟨rfl, n + 1, hn, rfl, mn_s hw hv⟩ (by rw [nI_toInt (by omega), xn]; omega)
/-- the STATES of a SEARCH -/
def stL (L : BS) (i : Nat) : SV := match L.1[i]? with
  | some e => e.1
  | none => fun _ => 0
theorem stL_g {L : BS} {i : Nat} {e : BE} (h : L.1[i]? = some e) : stL L i = e.1 := by
  unfold stL
  rw [h]
theorem r_8_loadE (cy : Nat → ClassId) (tE : Nat) (S : KS) (n : Nat) (post : KS → Prop) (L : BS) (hL : CSr S L) (h5 : JZ (ar S.1 5)) (hn : n < L.1.length) (k : ∀ S', KF [] [5] [] S S' → JZ (ar S'.1 5) → GJ (stL L n) → EQV (ar S'.1 5) (stL L n) → post S') : w_X8_load cy tE S (nI n) post := by
  obtain ⟨l33, l400, lE, -, -⟩ := hL
  have xn : (nI n).toInt = (n : Int) := nI_toInt (by omega)
  have xN : (nI n).toNatClampNeg = n := by rw [tnc, xn]; omega
  unfold w_X8_load w_X8_load_B25
  rw [xn, xN]
  refine ⟨fun h => by exfalso; omega, fun _ => ⟨fun h => by exfalso; omega, fun _ => ⟨by omega, ?_⟩⟩⟩
  have he := List.getElem?_eq_getElem hn
  obtain ⟨a1, -, a3⟩ := lE n _ he
  refine r_9_unpackE cy tE S _ _ _ a3.1 a1 (fun V f4 x4 j4 q4 => k V ?_ (fun i hi hm => (j4 i hi hm).trans (h5 i hi hm)) ?_ ?_)
  · refine ⟨f4, by rw [x4], fun _ _ => by rw [x4], fun q => by rw [x4]; exact q, fun q => ?_⟩
    unfold FLG fi at *
    rw [f4.1 17 (by decide), f4.1 18 (by decide)]
    exact q
  · rw [stL_g he]; exact a3
  · rw [stL_g he]; exact q4
abbrev kyC (L : BS) (i : Nat) : Int := MNF ckI (stL L i)
abbrev kyR (L : BS) (i : Nat) : Int := MNF pkI (stL L i)
set_option maxHeartbeats 400000 in
/-- how many kinds there are, to the class -/
theorem r_8_unlikeE (cy : Nat → ClassId) (tE : Nat) (S : KS) (post : Int32 → KS → Prop) (L : BS) (hL : CSr S L) (h5 : JZ (ar S.1 5)) (k : ∀ S', KF [] [5] [3] S S' → JZ (ar S'.1 5) → post (nI (cF (kyC L) L.1.length)) S') : w_X8_unlike cy tE S post := by
  unfold w_X8_unlike
  have l4 := hL.2.1
  refine lr3 (fun (T : KS) (m x : Int32) => KF [] [5] [3] S T ∧ JZ (ar T.1 5) ∧ ∃ n c : Nat, n ≤ L.1.length ∧ x = nI n ∧ m = nI c ∧ NMS (al T.1 3) (kyC L) n c) (fun _ _ x => (400 - x.toInt).toNat) ?_ _ _ _ ⟨KF_rf S, h5, 0, 0, Nat.zero_le _, rfl, rfl, NMS_0⟩
  rintro kk T m x ⟨hT, hT5, n, c, hn, rfl, rfl, hN⟩ hk
  unfold w_X8_unlike_F4 w_X8_unlike_B92
  have xn : (nI n).toInt = (n : Int) := nI_toInt (by omega)
  have cl := cF_le (key := kyC L) n
  have hc := hN.1
  have mn' : (nI c).toInt = (c : Int) := nI_toInt (by omega)
  have mN : (nI c).toNatClampNeg = c := by rw [tnc, mn']; omega
  have hLT := CSr_5 hL hT (by decide)
  have l33 : (fi T.1 33).toInt = (L.1.length : Int) := hLT.1
  rw [l33, xn]
  have fin : ¬ n < L.1.length → post (nI c) T := fun h => by
    obtain rfl : n = L.1.length := by omega
    rw [hc]
    exact k T hT hT5
  refine ⟨fun h => fin (by omega), fun h => ⟨fun h2 => fin (by omega), fun h2 => ?_⟩⟩
  refine r_8_loadE cy tE T n _ L hLT hT5 (by omega) (fun U hU hU5 hGU hqU => r_8_leastE cy tE U _ (stL L n) hGU.1 hqU (fun v hv => ?_))
  have hU2 : KF [] [5] [3] S U := KF_tr hT (KF_wk hU (by decide))
  have e3 : al U.1 3 = al T.1 3 := hU.1.2.2.2 3 (by decide)
  have hNU : NMS (al U.1 3) (kyC L) n c := by rw [e3]; exact hN
  refine lr6 (fun (V : KS) (m' x' : Int32) (v' : Int64) (y j : Int32) => V = U ∧ m' = nI c ∧ x' = nI n ∧ v' = v ∧ ∃ i : Nat, i ≤ c ∧ j = nI i ∧ ((y = 1 ∧ ∀ i', i' < i → (al U.1 3 i').toInt ≠ v.toInt) ∨ (y = 0 ∧ ∃ i', i' < c ∧ (al U.1 3 i').toInt = v.toInt))) (fun _ _ _ _ _ j => ((c : Int) - j.toInt).toNat) ?_ _ _ _ _ _ _ ⟨rfl, rfl, rfl, rfl, 0, Nat.zero_le _, rfl, Or.inl ⟨rfl, fun i' h => absurd h (Nat.not_lt_zero _)⟩⟩
  rintro kk2 V m' x' v' y j ⟨rfl, rfl, rfl, rfl, i, hi, rfl, hy⟩ hk2
  unfold w_X8_unlike_F35 w_X8_unlike_B63 w_X8_unlike_B71 w_X8_unlike_B86
  have jn : (nI i).toInt = (i : Int) := nI_toInt (by omega)
  have jN : (nI i).toNatClampNeg = i := by rw [tnc, jn]; omega
  have si : nI i + 1 = nI (i + 1) := nI_inc (by omega)
  have sn : nI n + 1 = nI (n + 1) := nI_inc (by omega)
  have sc : nI c + 1 = nI (c + 1) := nI_inc (by omega)
  rw [jn, mn', jN, mN, si, sn, sc]
  have old : y = 0 → (∃ i', i' < c ∧ (al V.1 3 i').toInt = v'.toInt) → kk V (nI c) (nI (n + 1)) := fun _ ⟨i', h1, h2⟩ => hk _ _ _ ⟨hU2, hU5, n + 1, c, by omega, rfl, rfl, NMS_o hNU h1 (h2.trans hv)⟩ (by rw [nI_toInt (by omega), xn]; omega)
  have new : (∀ i', i' < c → (al V.1 3 i').toInt ≠ v'.toInt) → kk (ksv V 3 c v') (nI (c + 1)) (nI (n + 1)) := fun h1 => by
    have ea : al (ksv V 3 c v').1 3 = vp_updL (al V.1 3) c v' := sv_at _ _ _ _
    exact hk _ _ _ ⟨KF_sv (by decide) hU2, hU5, n + 1, c + 1, by omega, rfl, rfl, by rw [ea]; exact NMS_n hNU (fun j hj e => h1 j hj (e.trans hv.symm)) hv⟩ (by rw [nI_toInt (by omega), xn]; omega)
  have out : (i = c ∨ y = 0) → ((y.toInt = 0 → kk V (nI c) (nI (n + 1))) ∧ (y.toInt ≠ 0 → (0 ≤ (c : Int) ∧ (c : Int) < 400) ∧ kk (ksv V 3 c v') (nI (c + 1)) (nI (n + 1)))) := by
    intro ho
    rcases hy with ⟨y1, h1⟩ | ⟨y0, h1⟩
    · refine ⟨fun z => ?_, fun _ => ⟨by omega, new ?_⟩⟩
      · rw [y1] at z
        exact absurd z (by decide)
      · rcases ho with rfl | y0
        · exact h1
        · rw [y1] at y0
          exact absurd y0 (by decide)
    · exact ⟨fun _ => old y0 h1, fun z => by rw [y0] at z; exact absurd li_0 z⟩
  refine ⟨fun h3 => out (Or.inl (by omega)), fun h3 => ⟨fun y0 => out (Or.inr (i_eq (y0.trans li_0.symm))), fun y0 => ⟨by omega, fun h4 => ?_, fun h4 => ?_⟩⟩⟩
  · have e := lg_eq h4
    exact hk2 _ _ _ _ _ _ ⟨rfl, rfl, rfl, rfl, i + 1, by omega, rfl, Or.inr ⟨rfl, i, by omega, by rw [e]⟩⟩ (by rw [nI_toInt (by omega), jn]; omega)
  · refine hk2 _ _ _ _ _ _ ⟨rfl, rfl, rfl, rfl, i + 1, by omega, rfl, Or.inl ⟨rfl, fun i' hi' => ?_⟩⟩ (by rw [nI_toInt (by omega), jn]; omega)
    rcases hy with ⟨-, h1⟩ | ⟨z, -⟩
    · by_cases e : i' = i
      · rw [e]
        exact fun q => h4 (by rw [Int64.toInt_inj.mp q]; exact lg_rf _)
      · exact h1 i' (by omega)
    · rw [z] at y0
      exact absurd li_0 y0
/-- what met tells -/
def meV (z : Int32) (L : BS) : Int32 := if L.2 = true then -2 else if z.toInt = 0 then nI L.1.length else nI (cF (kyC L) L.1.length)
set_option maxHeartbeats 400000 in
theorem r_11_metE (cy : Nat → ClassId) (tE : Nat) (S : KS) (l d z : Int32) (post : Int32 → KS → Prop) (nv : List OL) (cu : List CuT) (ac : Nat → Option AcT) (hX : CX cy S nv cu ac) (k0 : ¬ ((1 ≤ l.toInt ∧ l.toInt ≤ 3) ∧ (0 ≤ d.toInt ∧ d.toInt ≤ 6)) → post (-1) S) (k1 : ∀ S', ((1 ≤ l.toInt ∧ l.toInt ≤ 3) ∧ (0 ≤ d.toInt ∧ d.toInt ≤ 6)) → CQ S S' cu ac → (∀ i, i < (bsW cu ac l 7 0 d (cz (ar S.1 1))).1.length → GJ (stL (bsW cu ac l 7 0 d (cz (ar S.1 1))) i)) → post (meV z (bsW cu ac l 7 0 d (cz (ar S.1 1)))) S') : w_X11_met cy tE S l d z post := by
  unfold w_X11_met w_X11_met_B14 w_X11_met_B69
  refine r_11_areLaws _ _ _ _ _ (fun r1 _ h1 => ⟨fun _ => k0 (by omega), fun _ => r_11_isDepth _ _ _ _ _ (fun r2 _ h2 => ⟨fun _ => ?_, fun _ => k0 (by omega)⟩)⟩)
  have hc : (1 ≤ l.toInt ∧ l.toInt ≤ 3) ∧ (0 ≤ d.toInt ∧ d.toInt ≤ 6) := by omega
  refine r_8_bgE cy tE S _ _ _ _ _ nv cu ac hX (fun U n' hU hWU hU5 hB hd => ?_)
  have hL := hWU.2.2.1
  rw [← hd] at hL
  have k1 := fun S' => k1 S' hc
  generalize bsW cu ac l 7 0 d (cz (ar S.1 1)) = L at hL k1 hd
  have e33 : fi U.1 33 = nI L.1.length := i_eq (by rw [hL.1, nI_toInt (by have := hL.2.1; omega)])
  have ht := CSr_t hL
  have hGL : ∀ i, i < L.1.length → GJ (stL L i) := fun i hi => by
    have he := List.getElem?_eq_getElem hi
    rw [stL_g he]
    exact (hL.2.2.1 i _ he).2.2
  refine ⟨fun h34 => ⟨fun hz => ?_, fun hz => r_8_unlikeE cy tE U _ L hL hU5 (fun V hV hV5 => ?_)⟩, fun h34 => ?_⟩
  · have g := k1 U hU hGL
    unfold meV at g
    rw [if_neg (by rw [ht.2 h34]; decide), if_pos hz] at g
    rw [e33]
    exact g
  · have g := k1 V (CQ_5 hB hWU hV hV5) hGL
    unfold meV at g
    rw [if_neg (by rw [ht.2 h34]; decide), if_neg hz] at g
    exact g
  · have g := k1 U hU hGL
    unfold meV at g
    rw [if_pos (ht.1 h34)] at g
    exact g
