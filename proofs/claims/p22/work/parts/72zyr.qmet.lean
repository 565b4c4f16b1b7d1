/-- what met tells, to the reference -/
def meR (z : Int32) (L : BS) : Int32 := if L.2 = true then -2 else if z.toInt = 0 then nI L.1.length else nI (cF (kyR L) L.1.length)
theorem me_eq {z : Int32} {L : BS} (h : ∀ i, i < L.1.length → GJ (stL L i)) : meR z L = meV z L := by
  unfold meR meV
  rw [cF_cg (key := kyR L) (key' := kyC L) (n := L.1.length) (fun i j hi hj => (alk_iff (h j (by omega)).1 (h i hi).1 (h j (by omega)).2.1 (h i hi).2.1).symm)]
theorem QSr_g {S : GS} {L : List BE} (h : QSr S L) {b : Bool} : ∀ i, i < L.length → GJ (stL (L, b) i) ∧ (al S 0 i).toInt = pkI (stL (L, b) i) := by
  intro i hi
  have he : ((L, b) : BS).1[i]? = some L[i] := List.getElem?_eq_getElem hi
  obtain ⟨a1, -, a3⟩ := h.2.2.1 i _ he
  rw [stL_g he]
  exact ⟨a3, a1⟩
set_option maxHeartbeats 1000000 in
theorem q_metE (S : GS) (l d z : Int32) (post : Int32 → GS → Prop) (nv : List OL) (cu : List CuT) (ac : Nat → Option AcT) (g : SV) (hX : RX S nv cu ac g) (k0 : ¬ ((1 ≤ l.toInt ∧ l.toInt ≤ 3) ∧ (0 ≤ d.toInt ∧ d.toInt ≤ 6)) → post (-1) S) (k1 : ∀ S', ((1 ≤ l.toInt ∧ l.toInt ≤ 3) ∧ (0 ≤ d.toInt ∧ d.toInt ≤ 6)) → SS S S' → post (meR z (bsW cu ac l 7 0 d g)) S') : w_X12_met S l d z post := by
  obtain ⟨hm, hgd, hPM, hS, hB, hg, hst⟩ := id hX
  unfold w_X12_met
  refine q_canSearch _ _ _ _ (fun r2 _ hb2 => ⟨fun g2 => ?_, fun g2 => k0 (by omega)⟩)
  have hc : (1 ≤ l.toInt ∧ l.toInt ≤ 3) ∧ (0 ≤ d.toInt ∧ d.toInt ≤ 6) := by omega
  have k1 := fun S' => k1 S' hc
  refine q_searchesE S (-1) l d 7 0 _ nv cu ac (fun _ => false) g hm hgd (fun c a => hPM l c a) hS hB hg hst (Or.inl ⟨by decide, rfl⟩) (fun T hFT hST hBT hf hd _ => ?_)
  have hf1 : (fi T 22).toInt = -1 := by rw [hf]; exact fsI_n (fun _ _ => rfl)
  obtain ⟨hQ, h23⟩ := hd hf1
  have hSS : SS S T := ⟨hFT.wk (by decide), fun _ => hBT, hST⟩
  change ∀ S', SS S S' → post (meR z (bsF cu ac l 0 (cdL ac l 7 768) d.toInt g)) S' at k1
  generalize bsF cu ac l 0 (cdL ac l 7 768) d.toInt g = L at hQ h23 k1
  have hL : ∀ i, i < L.1.length → GJ (stL L i) ∧ (al T 0 i).toInt = pkI (stL L i) := QSr_g (b := L.2) hQ
  have l400 := hQ.2.1
  have e21 : fi T 21 = nI L.1.length := i_eq (by rw [hQ.1, nI_toInt (by omega)])
  have one : (1 : Int32).toInt ≠ 0 := by decide
  refine ⟨fun h => ?_, fun h => ?_⟩
  · have hL2 : ¬ L.2 = true := fun q => by
      rw [if_pos q] at h23
      rw [h23] at h
      exact one h
    refine ⟨fun hz => ?_, fun hz => ?_⟩
    · have fin : ∀ U, SS S U → post (nI (cF (kyR L) L.1.length)) U := fun U hU => by
        have e := k1 U hU
        unfold meR at e
        rw [if_neg hL2, if_neg hz] at e
        exact e
      clear k1
      refine lr3 (fun (U : GS) (m x : Int32) => SS S U ∧ QSr U L.1 ∧ ∃ n c : Nat, n ≤ L.1.length ∧ x = nI n ∧ m = nI c ∧ NMS (al U 1) (kyR L) n c) (fun _ _ x => ((L.1.length : Int) - x.toInt).toNat) ?_ _ _ _ ⟨hSS, hQ, 0, 0, Nat.zero_le _, rfl, rfl, NMS_0⟩
      rintro kk U m x ⟨hU, hQU, n, c, hn, rfl, rfl, hN⟩ hk
      unfold w_X12_met_F46 w_X12_met_B138
      have xn : (nI n).toInt = (n : Int) := nI_toInt (by omega)
      have xN : (nI n).toNatClampNeg = n := by rw [tnc, xn]; omega
      have cl := cF_le (key := kyR L) n
      have hc' := hN.1
      have mn' : (nI c).toInt = (c : Int) := nI_toInt (by omega)
      have mN : (nI c).toNatClampNeg = c := by rw [tnc, mn']; omega
      have u21 : (fi U 21).toInt = (L.1.length : Int) := hQU.1
      rw [u21, xn, xN]
      refine ⟨fun h1 => ?_, fun h1 => ⟨by omega, ?_⟩⟩
      · obtain rfl : n = L.1.length := by omega
        rw [hc']
        exact fin U hU
      have hnl : n < L.1.length := by omega
      obtain ⟨hGn, hvn⟩ := QSr_g (b := L.2) hQU n hnl
      refine q_plainestE U _ _ (stL L n) (hU.2.1 hB) hGn hvn (fun v V hFV hBV hv => ?_)
      have hV : SS S V := hU.tr ⟨hFV.wk (by decide), fun _ => hBV, SInv_c hU.2.2 hFV (by decide)⟩
      have hQV : QSr V L.1 := QSr_fr hQU hFV (by decide)
      have e1 : al V 1 = al U 1 := hFV.2.2.2 1 (by decide)
      have hNV : NMS (al V 1) (kyR L) n c := by rw [e1]; exact hN
      refine lr6 (fun (W : GS) (m' x' : Int32) (v' : Int64) (y j : Int32) => W = V ∧ m' = nI c ∧ x' = nI n ∧ v' = v ∧ ∃ i : Nat, i ≤ c ∧ j = nI i ∧ ((y = 1 ∧ ∀ i', i' < i → (al V 1 i').toInt ≠ v.toInt) ∨ (y = 0 ∧ ∃ i', i' < c ∧ (al V 1 i').toInt = v.toInt))) (fun _ _ _ _ _ j => ((c : Int) - j.toInt).toNat) ?_ _ _ _ _ _ _ ⟨rfl, rfl, rfl, rfl, 0, Nat.zero_le _, rfl, Or.inl ⟨rfl, fun i' h => absurd h (Nat.not_lt_zero _)⟩⟩
      rintro kk2 W m' x' v' y j ⟨rfl, rfl, rfl, rfl, i, hi, rfl, hy⟩ hk2
      unfold w_X12_met_F74 w_X12_met_B104 w_X12_met_B112 w_X12_met_B132
      have jn : (nI i).toInt = (i : Int) := nI_toInt (by omega)
      have jN : (nI i).toNatClampNeg = i := by rw [tnc, jn]; omega
      have si : nI i + 1 = nI (i + 1) := nI_inc (by omega)
      have sn : nI n + 1 = nI (n + 1) := nI_inc (by omega)
      have sc : nI c + 1 = nI (c + 1) := nI_inc (by omega)
      rw [jn, mn', jN, mN, si, sn, sc]
      have old : y = 0 → (∃ i', i' < c ∧ (al W 1 i').toInt = v'.toInt) → kk W (nI c) (nI (n + 1)) := fun _ ⟨i', h1, h2⟩ => hk _ _ _ ⟨hV, hQV, n + 1, c, by omega, rfl, rfl, NMS_o hNV h1 (h2.trans hv)⟩ (by rw [nI_toInt (by omega), xn]; omega)
      have new : (∀ i', i' < c → (al W 1 i').toInt ≠ v'.toInt) → kk (sv W 1 c v') (nI (c + 1)) (nI (n + 1)) := fun h1 => by
        have hW : Fr [] [] [] [1] W (sv W 1 c v') := Fr.sv (by decide) Fr.rf
        have ea : al (sv W 1 c v') 1 = vp_updL (al W 1) c v' := sv_at _ _ _ _
        exact hk _ _ _ ⟨hV.tr ⟨hW.wk (by decide), fun b => b, SInv_c hV.2.2 hW (by decide)⟩, QSr_fr hQV hW (by decide), n + 1, c + 1, by omega, rfl, rfl, by rw [ea]; exact NMS_n hNV (fun j hj e => h1 j hj (e.trans hv.symm)) hv⟩ (by rw [nI_toInt (by omega), xn]; omega)
      have out : (i = c ∨ y = 0) → ((y.toInt ≠ 0 → (0 ≤ (c : Int) ∧ (c : Int) < 400) ∧ kk (sv W 1 c v') (nI (c + 1)) (nI (n + 1))) ∧ (y.toInt = 0 → kk W (nI c) (nI (n + 1)))) := by
        intro ho
        rcases hy with ⟨y1, h1⟩ | ⟨y0, h1⟩
        · refine ⟨fun _ => ⟨by omega, new ?_⟩, fun z => ?_⟩
          · rcases ho with rfl | y0
            · exact h1
            · rw [y1] at y0
              exact absurd y0 (by decide)
          · rw [y1] at z
            exact absurd z one
        · exact ⟨fun z => by rw [y0] at z; exact absurd li_0 z, fun _ => old y0 h1⟩
      refine ⟨fun h3 => out (Or.inl (by omega)), fun h3 => ⟨fun y0 => out (Or.inr (i_eq (y0.trans li_0.symm))), fun y0 => ⟨by omega, fun h4 => ?_, fun h4 => ?_⟩⟩⟩
      · have e := lg_eq h4
        exact hk2 _ _ _ _ _ _ ⟨rfl, rfl, rfl, rfl, i + 1, by omega, rfl, Or.inr ⟨rfl, i, by omega, by rw [e]⟩⟩ (by rw [nI_toInt (by omega), jn]; omega)
      · refine hk2 _ _ _ _ _ _ ⟨rfl, rfl, rfl, rfl, i + 1, by omega, rfl, Or.inl ⟨rfl, fun i' hi' => ?_⟩⟩ (by rw [nI_toInt (by omega), jn]; omega)
        rcases hy with ⟨-, h1⟩ | ⟨z, -⟩
        · by_cases e : i' = i
          · rw [e]
            exact fun q => h4 (by rw [Int64.toInt_inj.mp q]; exact lg_rf _)
          · exact h1 i' (by omega)
        · rw [z] at y0
          exact absurd li_0 y0
    · have e := k1 T hSS
      unfold meR at e
      rw [if_neg hL2, if_pos hz] at e
      rw [e21]
      exact e
  · have hL2 : L.2 = true := by
      by_cases q : L.2 = true
      · exact q
      · exfalso
        rw [if_neg q] at h23
        rw [h23] at h
        exact h li_0
    have e := k1 T hSS
    unfold meR at e
    rw [if_pos hL2] at e
    exact e
