def mT (n : Nat) : Int := ([16, 16, 0, 16, 16, 16, 16, 1, 2, 16, 16, 3, 16, 16, 7, 16, 15, 14, 4, 5, 6, 16, 16, 16, 8, 9, 10, 16, 16, 11, 12, 13] : List Int).getD n 16
theorem mS_t : ∀ n, n < 32 → (mS (nI n)).toInt = mT n := by decide +kernel
theorem mS_e {k : Int32} {n : Nat} (hn : n < 32) (h : k.toInt = (n : Int)) : (mS k).toInt = mT n := by
  have e : k = nI n := i_eq (by rw [nI_toInt (by omega)]; exact h)
  rw [e]
  exact mS_t n hn
theorem q_bothE (S : GS) (x l r : Int32) (post : Int32 → GS → Prop) (hx : x.toInt = 15 ∨ x.toInt = 16 ∨ x.toInt = 24 ∨ x.toInt = 25 ∨ x.toInt = 26 ∨ x.toInt = 29 ∨ x.toInt = 30 ∨ x.toInt = 31) (k : post (rkJ x l r) S) : w_X12_both S (mS x) l r post := by
  unfold w_X12_both w_X12_both_B70 w_X12_both_B81 w_X12_both_B92 w_X12_both_B97
  rcases hx with e | e | e | e | e | e | e | e
  · have em : (mS x).toInt = 16 := mS_e (n := 15) (by decide) e
    rw [rkJ_15 e] at k
    exact ⟨fun q => by exfalso; omega, fun q => by exfalso; omega, fun q => by exfalso; omega, fun q => by exfalso; omega, fun q => by exfalso; omega, fun q => by exfalso; omega, fun q => by exfalso; omega, fun q => by exfalso; omega, fun _ => k⟩
  · have em : (mS x).toInt = 15 := mS_e (n := 16) (by decide) e
    rw [rkJ_16 e] at k
    exact ⟨fun q => by exfalso; omega, fun q => by exfalso; omega, fun q => by exfalso; omega, fun q => by exfalso; omega, fun q => by exfalso; omega, fun q => by exfalso; omega, fun q => by exfalso; omega, fun _ => k, fun q => by exfalso; omega⟩
  · have em : (mS x).toInt = 8 := mS_e (n := 24) (by decide) e
    rw [rkJ_24 e] at k
    exact ⟨fun _ => k, fun q => by exfalso; omega, fun q => by exfalso; omega, fun q => by exfalso; omega, fun q => by exfalso; omega, fun q => by exfalso; omega, fun q => by exfalso; omega, fun q => by exfalso; omega, fun q => by exfalso; omega⟩
  · have em : (mS x).toInt = 9 := mS_e (n := 25) (by decide) e
    rw [rkJ_25 e] at k
    exact ⟨fun q => by exfalso; omega, fun _ => k, fun q => by exfalso; omega, fun q => by exfalso; omega, fun q => by exfalso; omega, fun q => by exfalso; omega, fun q => by exfalso; omega, fun q => by exfalso; omega, fun q => by exfalso; omega⟩
  · have em : (mS x).toInt = 10 := mS_e (n := 26) (by decide) e
    rw [rkJ_26 e] at k
    exact ⟨fun q => by exfalso; omega, fun q => by exfalso; omega, fun _ => k, fun q => by exfalso; omega, fun q => by exfalso; omega, fun q => by exfalso; omega, fun q => by exfalso; omega, fun q => by exfalso; omega, fun q => by exfalso; omega⟩
  · have em : (mS x).toInt = 11 := mS_e (n := 29) (by decide) e
    rw [rkJ_29 e] at k
    exact ⟨fun q => by exfalso; omega, fun q => by exfalso; omega, fun q => by exfalso; omega, fun _ => ⟨fun q => by rw [if_neg (by omega)] at k; exact k, fun q => by rw [if_pos q] at k; exact k⟩, fun q => by exfalso; omega, fun q => by exfalso; omega, fun q => by exfalso; omega, fun q => by exfalso; omega, fun q => by exfalso; omega⟩
  · have em : (mS x).toInt = 12 := mS_e (n := 30) (by decide) e
    rw [rkJ_30 e] at k
    exact ⟨fun q => by exfalso; omega, fun q => by exfalso; omega, fun q => by exfalso; omega, fun q => by exfalso; omega, fun _ => ⟨fun q => by rw [if_neg q] at k; exact k, fun q => by rw [if_pos q] at k; exact k⟩, fun q => by exfalso; omega, fun q => by exfalso; omega, fun q => by exfalso; omega, fun q => by exfalso; omega⟩
  · have em : (mS x).toInt = 13 := mS_e (n := 31) (by decide) e
    rw [rkJ_31 e] at k
    exact ⟨fun q => by exfalso; omega, fun q => by exfalso; omega, fun q => by exfalso; omega, fun q => by exfalso; omega, fun q => by exfalso; omega, fun _ => ⟨fun q => by rw [if_neg (by omega)] at k; exact k, fun q => by rw [if_pos q] at k; exact k⟩, fun q => by exfalso; omega, fun q => by exfalso; omega, fun q => by exfalso; omega⟩
/-- numbers of a STATE are in their bounds -/
def GV (g : SV) : Prop := (∀ p, p < 3 → 0 ≤ (g p).toInt ∧ (g p).toInt ≤ 15) ∧ (∀ k, k < 9 → (0 ≤ (g (10 + k)).toInt ∧ (g (10 + k)).toInt ≤ 7) ∧ (g (20 + k) = 0 ∨ g (20 + k) = 1) ∧ (g (30 + k) = 0 ∨ g (30 + k) = 1)) ∧ (∀ t, t < 3 → 0 ≤ (g (40 + t)).toInt ∧ (g (40 + t)).toInt ≤ 3) ∧ 0 ≤ (g 50).toInt ∧ (g 50).toInt ≤ 15
/-- the reference's arrays are the STATE g -/
def RS (S : GS) (g : SV) : Prop := (∀ p, p < 3 → ar S 0 p = g p) ∧ (∀ p q : Nat, p < 3 → q < 3 → p ≠ q → ar S 1 (3 * p + q) = g (10 + (3 * p + q)) ∧ ar S 3 (3 * p + q) = g (20 + (3 * p + q)) ∧ ar S 4 (3 * p + q) = g (30 + (3 * p + q))) ∧ (∀ t, t < 3 → ar S 2 t = g (40 + t)) ∧ fi S 0 = g 50
theorem RS_cg {S S' : GS} {g : SV} (h : RS S g) (e0 : fi S' 0 = fi S 0) (e : ∀ j, j ∈ [0, 1, 2, 3, 4] → ar S' j = ar S j) : RS S' g := by
  unfold RS at *
  rw [e0, e 0 (by decide), e 1 (by decide), e 2 (by decide), e 3 (by decide), e 4 (by decide)]
  exact h
theorem q_thingsE (S : GS) (p : Int32) (post : Int32 → GS → Prop) (g : SV) (hR : RS S g) (k : post (rkT g p) S) : ∃ n, lpn (w_X12_fact_F216 post (w_X12_fact_B249 post)) (fun _ _ _ _ => False) n S p 0 0 := by
  refine lr4 (fun (T : GS) (p' m j : Int32) => T = S ∧ p' = p ∧ ∃ n : Nat, n ≤ 3 ∧ j.toInt = (n : Int) ∧ m = nI (cT g p n)) (fun _ _ _ j => (3 - j.toInt).toNat) ?_ _ _ _ _ ⟨rfl, rfl, 0, by omega, li_0, rfl⟩
  rintro kk T p' m j ⟨rfl, rfl, n, hn, hj, hm⟩ hk
  unfold w_X12_fact_F216 w_X12_fact_B249 w_X12_fact_B240
  refine ⟨fun h => ?_, fun h => ?_⟩
  · obtain rfl : n = 3 := by omega
    rw [hm]; exact k
  · have e41 : j.toNatClampNeg = n := by rw [tnc]; omega
    have hs := cT_s (g := g) (p := p') (show n < 3 by omega)
    have hb := cT_b (g := g) (p := p') hn
    have ej := inc1 (x := j) (by omega)
    rw [e41, hR.2.2.1 n (by omega)]
    refine ⟨by omega, fun q => hk _ _ _ _ ⟨rfl, rfl, n + 1, by omega, by rw [ej]; omega, ?_⟩ (by rw [ej]; omega), fun q => hk _ _ _ _ ⟨rfl, rfl, n + 1, by omega, by rw [ej]; omega, ?_⟩ (by rw [ej]; omega)⟩
    · rw [hs, on1_n q, hm]; exact Int32.add_zero _
    · rw [hs, on1_y q, hm, nI_inc (by omega)]
theorem p3q {p q : Int32} (hp : 0 ≤ p.toInt ∧ p.toInt ≤ 3) (hq : 0 ≤ q.toInt ∧ q.toInt ≤ 3) : (((3 : Int32) * p) + q).toInt = 3 * p.toInt + q.toInt ∧ (((3 : Int32) * p) + q).toNatClampNeg = 3 * p.toInt.toNat + q.toInt.toNat := by
  have e := ma_3 (p := p) (q := q) ⟨hp.1, by omega⟩ ⟨hq.1, by omega⟩
  refine ⟨e, ?_⟩
  rw [tnc, e]
  omega
theorem q_90E (S : GS) (x p q : Int32) (post : Int32 → GS → Prop) (g : SV) (t : Int32) (hR : RS S g) (hG : GV g) (et : fi S 20 = t) (rt : 0 ≤ t.toInt ∧ t.toInt ≤ 3) (rp : 0 ≤ p.toInt ∧ p.toInt ≤ 3) (rq : 0 ≤ q.toInt ∧ q.toInt ≤ 3) (hp : p.toInt ≠ 3) (hne : p.toInt ≠ q.toInt) (hx : x.toInt = 7 ∨ x.toInt = 8 ∨ x.toInt = 11 ∨ x.toInt = 18 ∨ x.toInt = 19 ∨ x.toInt = 20) (hq : x.toInt = 8 ∨ x.toInt = 11 ∨ x.toInt = 18 → q.toInt ≠ 3) (k : post (rkP g t x p q) S) : w_X12_fact_B90 post S (mS x) p q := by
  unfold w_X12_fact_B90 w_X12_fact_B162 w_X12_fact_B182 w_X12_fact_B208 w_X12_fact_B209
  obtain ⟨e1, e2⟩ := p3q rp rq
  rw [e1, e2, et]
  have pn : p.toNatClampNeg = p.toInt.toNat := tnc p
  have bool : ∀ v : Int32, (v = 0 ∨ v = 1) → post v S → ((v.toInt = 0 → post 0 S) ∧ (v.toInt ≠ 0 → post 1 S)) := by
    intro v hv h
    rcases hv with rfl | rfl
    · exact ⟨fun _ => h, fun q => absurd li_0 q⟩
    · exact ⟨fun q => absurd q (by decide), fun _ => h⟩
  rcases hx with e | e | e | e | e | e
  · have em : (mS x).toInt = 1 := mS_e (n := 7) (by decide) e
    rw [rkP_7 hp e] at k
    refine ⟨fun _ => ?_, fun q => by exfalso; omega, fun q => by exfalso; omega, fun q => by exfalso; omega, fun q => by exfalso; omega, fun q => by exfalso; omega⟩
    refine ⟨by omega, ?_⟩
    rw [pn, hR.1 _ (by omega)]
    exact k
  · have em : (mS x).toInt = 2 := mS_e (n := 8) (by decide) e
    have hq3 := hq (by omega)
    have hpq := hR.2.1 p.toInt.toNat q.toInt.toNat (by omega) (by omega) (by omega)
    have hgv := hG.2.1 (3 * p.toInt.toNat + q.toInt.toNat) (by omega)
    rw [rkP_8 hp e hq3] at k
    refine ⟨fun q => by exfalso; omega, fun _ => ?_, fun q => by exfalso; omega, fun q => by exfalso; omega, fun q => by exfalso; omega, fun q => by exfalso; omega⟩
    refine ⟨by omega, ?_⟩
    rw [hpq.1]
    exact k
  · have em : (mS x).toInt = 3 := mS_e (n := 11) (by decide) e
    have hq3 := hq (by omega)
    have hpq := hR.2.1 p.toInt.toNat q.toInt.toNat (by omega) (by omega) (by omega)
    have hgv := hG.2.1 (3 * p.toInt.toNat + q.toInt.toNat) (by omega)
    rw [rkP_11 hp e hq3] at k
    refine ⟨fun q => by exfalso; omega, fun q => by exfalso; omega, fun _ => ?_, fun q => by exfalso; omega, fun q => by exfalso; omega, fun q => by exfalso; omega⟩
    refine ⟨by omega, ?_⟩
    rw [hpq.2.1]
    exact bool _ hgv.2.1 k
  · have em : (mS x).toInt = 4 := mS_e (n := 18) (by decide) e
    have hq3 := hq (by omega)
    have hpq := hR.2.1 p.toInt.toNat q.toInt.toNat (by omega) (by omega) (by omega)
    have hgv := hG.2.1 (3 * p.toInt.toNat + q.toInt.toNat) (by omega)
    rw [rkP_18 hp e hq3] at k
    refine ⟨fun q => by exfalso; omega, fun q => by exfalso; omega, fun q => by exfalso; omega, fun _ => ?_, fun q => by exfalso; omega, fun q => by exfalso; omega⟩
    refine ⟨by omega, ?_⟩
    rw [hpq.2.2]
    exact bool _ hgv.2.2 k
  · have em : (mS x).toInt = 5 := mS_e (n := 19) (by decide) e
    rw [rkP_19 hp e] at k
    refine ⟨fun q => by exfalso; omega, fun q => by exfalso; omega, fun q => by exfalso; omega, fun q => by exfalso; omega, fun _ => ?_, fun q => by exfalso; omega⟩
    refine ⟨fun h => by rw [if_pos h] at k; exact k, fun h => ?_⟩
    rw [if_neg h] at k
    rw [tnc t, hR.2.2.1 _ (by omega)]
    exact ⟨by omega, fun q => by rw [if_neg q] at k; exact k, fun q => by rw [if_pos q] at k; exact k⟩
  · have em : (mS x).toInt = 6 := mS_e (n := 20) (by decide) e
    rw [rkP_20 hp e] at k
    refine ⟨fun q => by exfalso; omega, fun q => by exfalso; omega, fun q => by exfalso; omega, fun q => by exfalso; omega, fun q => by exfalso; omega, fun _ => ?_⟩
    exact q_thingsE S p post g hR k
theorem q_31E (S : GS) (x v p q : Int32) (post : Int32 → GS → Prop) (g : SV) (t : Int32) (hR : RS S g) (hG : GV g) (et : fi S 20 = t) (rt : 0 ≤ t.toInt ∧ t.toInt ≤ 3) (rp : 0 ≤ p.toInt ∧ p.toInt ≤ 3) (rq : 0 ≤ q.toInt ∧ q.toInt ≤ 3) (hne : p.toInt ≠ q.toInt) (hx : x.toInt = 2 ∨ x.toInt = 14 ∨ x.toInt = 7 ∨ x.toInt = 8 ∨ x.toInt = 11 ∨ x.toInt = 18 ∨ x.toInt = 19 ∨ x.toInt = 20) (k2 : x.toInt = 2 → post v S) (k14 : x.toInt = 14 → post (g 50) S) (k : x.toInt ≠ 2 → x.toInt ≠ 14 → post (rkP g t x p q) S) : w_X12_fact_B31 post S (mS x) v p q := by
  unfold w_X12_fact_B31 w_X12_fact_B65
  have b70 : ∀ y : Int32, x.toInt ≠ 2 → x.toInt ≠ 14 → (y.toInt = 0 → ¬ (x.toInt = 8 ∨ x.toInt = 11 ∨ x.toInt = 18)) → (y.toInt ≠ 0 → (x.toInt = 8 ∨ x.toInt = 11 ∨ x.toInt = 18)) → w_X12_fact_B70 post S (mS x) p q y := by
    intro y h2 h14 hy0 hy1
    have kk := k h2 h14
    unfold w_X12_fact_B70 w_X12_fact_B88
    refine ⟨fun h3 => by rw [rkP_3 h3] at kk; exact kk, fun h3 => ⟨fun h0 => q_90E S x p q post g t hR hG et rt rp rq h3 hne (by omega) (fun h => absurd h (hy0 h0)) kk, fun h1 => ⟨fun hq => q_90E S x p q post g t hR hG et rt rp rq h3 hne (by omega) (fun _ => hq) kk, fun hq => by rw [rkP_q (hy1 h1) hq] at kk; exact kk⟩⟩⟩
  rcases hx with e | e | e | e | e | e | e | e
  · have em : (mS x).toInt = 0 := mS_e (n := 2) (by decide) e
    exact ⟨fun q => by exfalso; omega, fun _ => k2 e⟩
  · have em : (mS x).toInt = 7 := mS_e (n := 14) (by decide) e
    exact ⟨fun _ => ⟨fun q => by exfalso; omega, fun _ => by rw [hR.2.2.2]; exact k14 e⟩, fun q => by exfalso; omega⟩
  · have em : (mS x).toInt = 1 := mS_e (n := 7) (by decide) e
    exact ⟨fun _ => ⟨fun _ => ⟨fun q => by exfalso; omega, fun _ => ⟨fun q => by exfalso; omega, fun _ => ⟨fun _ => b70 0 (by omega) (by omega) (fun _ => by omega) (fun q => absurd li_0 q), fun q => by exfalso; omega⟩⟩⟩, fun q => by exfalso; omega⟩, fun q => by exfalso; omega⟩
  · have em : (mS x).toInt = 2 := mS_e (n := 8) (by decide) e
    exact ⟨fun _ => ⟨fun _ => ⟨fun _ => b70 1 (by omega) (by omega) (fun q => absurd q (by decide)) (fun _ => by omega), fun q => by exfalso; omega⟩, fun q => by exfalso; omega⟩, fun q => by exfalso; omega⟩
  · have em : (mS x).toInt = 3 := mS_e (n := 11) (by decide) e
    exact ⟨fun _ => ⟨fun _ => ⟨fun q => by exfalso; omega, fun _ => ⟨fun _ => b70 1 (by omega) (by omega) (fun q => absurd q (by decide)) (fun _ => by omega), fun q => by exfalso; omega⟩⟩, fun q => by exfalso; omega⟩, fun q => by exfalso; omega⟩
  · have em : (mS x).toInt = 4 := mS_e (n := 18) (by decide) e
    exact ⟨fun _ => ⟨fun _ => ⟨fun q => by exfalso; omega, fun _ => ⟨fun q => by exfalso; omega, fun _ => ⟨fun q => by exfalso; omega, fun _ => b70 1 (by omega) (by omega) (fun q => absurd q (by decide)) (fun _ => by omega)⟩⟩⟩, fun q => by exfalso; omega⟩, fun q => by exfalso; omega⟩
  · have em : (mS x).toInt = 5 := mS_e (n := 19) (by decide) e
    exact ⟨fun _ => ⟨fun _ => ⟨fun q => by exfalso; omega, fun _ => ⟨fun q => by exfalso; omega, fun _ => ⟨fun _ => b70 0 (by omega) (by omega) (fun _ => by omega) (fun q => absurd li_0 q), fun q => by exfalso; omega⟩⟩⟩, fun q => by exfalso; omega⟩, fun q => by exfalso; omega⟩
  · have em : (mS x).toInt = 6 := mS_e (n := 20) (by decide) e
    exact ⟨fun _ => ⟨fun _ => ⟨fun q => by exfalso; omega, fun _ => ⟨fun q => by exfalso; omega, fun _ => ⟨fun _ => b70 0 (by omega) (by omega) (fun _ => by omega) (fun q => absurd li_0 q), fun q => by exfalso; omega⟩⟩⟩, fun q => by exfalso; omega⟩, fun q => by exfalso; omega⟩
theorem q_factE (S : GS) (x v y : Int32) (post : Int32 → GS → Prop) (g : SV) (a b t : Int32) (hR : RS S g) (hG : GV g) (ea : fi S 18 = a) (eb : fi S 19 = b) (et : fi S 20 = t) (ra : 0 ≤ a.toInt ∧ a.toInt ≤ 3) (rb : 0 ≤ b.toInt ∧ b.toInt ≤ 3) (rt : 0 ≤ t.toInt ∧ t.toInt ≤ 3) (hne : a.toInt ≠ b.toInt) (hx : x.toInt = 2 ∨ x.toInt = 14 ∨ x.toInt = 7 ∨ x.toInt = 8 ∨ x.toInt = 11 ∨ x.toInt = 18 ∨ x.toInt = 19 ∨ x.toInt = 20) (hv : x.toInt ≠ 14 → y = v) (k : post (rkU g a b t x v) S) : w_X12_fact S (mS x) y post := by
  unfold w_X12_fact w_X12_fact_B15
  rw [ea, eb]
  have k2 : x.toInt = 2 → post y S := fun e => by rw [hv (by omega)]; rw [rkU_2 e] at k; exact k
  have k14 : x.toInt = 14 → post (g 50) S := fun e => by rw [rkU_14 e] at k; exact k
  refine ⟨fun hy => ⟨fun _ => q_31E S x y b a post g t hR hG et rt rb ra (fun q => hne q.symm) hx k2 k14 (fun h2 h14 => ?_), fun q => absurd q hy⟩, fun hy => ⟨fun q => absurd hy q, fun _ => q_31E S x y a b post g t hR hG et rt ra rb hne hx k2 k14 (fun h2 h14 => ?_)⟩⟩
  · rw [hv h14] at hy
    rw [rkU_b h2 h14 hy] at k; exact k
  · rw [hv h14] at hy
    rw [rkU_a h2 h14 hy] at k; exact k
