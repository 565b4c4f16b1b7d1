/-- an ACT, or what stands in its place -/
def ypA4 (Z : TS) (nm : List Int64) (j : Nat) : CAc := if (Z.1 j).toInt = 4 then ypAc Z nm j else (1, j, false, false, [], [])
/-- the name of x is that of token jn -/
def NMx (S : GS) (Z : TS) (Y : YT) (x jn : Nat) : Prop := jn < Y.2.2.2 ∧ (Z.1 jn).toInt = 3 ∧ ar S 17 x = Z.2.2 jn ∧ (ar S 18 x).toInt = (Y.1 jn : Int) - (Z.2.2 jn).toInt
/-- what was read of an ACT at x -/
def MAf (S : GS) (x : Nat) (nd : List OL) (mk : List MkT) : Prop := ((ar S 8 x).toInt = (nd.length : Int) ∧ ∀ (k : Nat) (l : OL), nd[k]? = some l → NDx S 13 (4 * x + k) l ∧ (ar S 11 (4 * x + k)).toInt ≤ nn S) ∧ (ar S 9 x).toInt = (mk.length : Int) ∧ ∀ (k : Nat) (w : MkT), mk[k]? = some w → MKx S 13 (6 * x + k) w ∧ (ar S 16 (6 * x + k)).toInt ≤ nn S
theorem MAf_kp {S S' : GS} {x na nb : Nat} {nd : List OL} {mk : List MkT} (h : MAf S x nd mk) (hna : nd.length ≤ na) (hnb : mk.length ≤ nb) (hK : KQ 0 (4 * x + na) (6 * x + nb) S S') (h8 : ar S' 8 x = ar S 8 x) (h9 : ar S' 9 x = ar S 9 x) : MAf S' x nd mk := by
  obtain ⟨⟨p, r⟩, q, s⟩ := h
  obtain ⟨k2, k3, k4, k5, k6, k7⟩ := hK
  refine ⟨⟨by rw [h8]; exact p, fun k l hl => ?_⟩, by rw [h9]; exact q, fun k w hw => ?_⟩
  · have hk := gt_lt hl
    obtain ⟨r1, r2⟩ := r k l hl
    have e10 := k6 10 (by decide) (4 * x + k) (by omega)
    have e11 := k6 11 (by decide) (4 * x + k) (by omega)
    refine ⟨NDx_cg r1 e10 e11 (fun i hi => ?_), by rw [e11]; omega⟩
    show ar S' 5 (1440 * 13 + i) = ar S 5 (1440 * 13 + i)
    exact k3 _ (by omega)
  · have hk := gt_lt hw
    obtain ⟨s1, s2⟩ := s k w hw
    have e16 := k7 16 (by decide) (6 * x + k) (by omega)
    refine ⟨MKx_cg s1 (k7 12 (by decide) (6 * x + k) (by omega)) (k7 13 (by decide) (6 * x + k) (by omega)) (k7 14 (by decide) (6 * x + k) (by omega)) (k7 15 (by decide) (6 * x + k) (by omega)) e16 (fun i hi => ?_), by rw [e16]; omega⟩
    show ar S' 5 (1440 * 13 + i) = ar S 5 (1440 * 13 + i)
    exact k3 _ (by omega)
/-- the ACTS that were read -/
def FAx (S : GS) (Z : TS) (Y : YT) (rd : List AcT) : Prop := ∀ (k : Nat) (a : AcT), rd[k]? = some a → (∃ jn, NMx S Z Y (12 + k) jn ∧ a.1 = Z.2.1 jn) ∧ ar S 19 (12 + k) = a.2.1 ∧ ar S 20 (12 + k) = a.2.2.1 ∧ (a.2.2.2.1.length ≤ 4 ∧ a.2.2.2.2.length ≤ 6) ∧ MAf S (12 + k) a.2.2.2.1 a.2.2.2.2
theorem NMx_kp {S S' : GS} {Z : TS} {Y : YT} {x y jn b c : Nat} (h : NMx S Z Y y jn) (hy : y < x) (hK : KQ x b c S S') : NMx S' Z Y y jn := by
  have k5 := hK.2.2.2.1
  unfold NMx
  rw [k5 17 (by decide) y hy, k5 18 (by decide) y hy]
  exact h
theorem FAx_kp {S S' : GS} {Z : TS} {Y : YT} {rd : List AcT} {x : Nat} (h : FAx S Z Y rd) (hx : 12 + rd.length ≤ x) (hK : KQ x (4 * x) (6 * x) S S') : FAx S' Z Y rd := by
  have k5 := hK.2.2.2.1
  intro k a ha
  have hk := gt_lt ha
  obtain ⟨⟨jn, h1, h2⟩, h3, h4, ⟨h5, h6⟩, h7⟩ := h k a ha
  refine ⟨⟨jn, NMx_kp h1 (by omega) hK, h2⟩, by rw [k5 19 (by decide) _ (by omega)]; exact h3, by rw [k5 20 (by decide) _ (by omega)]; exact h4, ⟨h5, h6⟩, MAf_kp h7 h5 h6 (KQ_lo hK (by omega) (by omega) (by omega)) (k5 8 (by decide) _ (by omega)) (k5 9 (by decide) _ (by omega))⟩
/-- two names are alike, or not -/
theorem nm_iff {t : Nat → Int32} {q1 e1 q2 e2 : Nat} (a1 : e1 - q1 ≤ 8) (a2 : e2 - q2 ≤ 8) (h1 : ∀ i, q1 ≤ i → i < e1 → isL (t i)) (h2 : ∀ i, q2 ≤ i → i < e2 → isL (t i)) : pkF t q1 (e1 - q1) = pkF t q2 (e2 - q2) ↔ (e1 - q1 = e2 - q2 ∧ ∀ m, m < e1 - q1 → t (q1 + m) = t (q2 + m)) := by
  have g1 : ∀ i, i < e1 - q1 → isL (t (q1 + i)) := fun i hi => h1 _ (by omega) (by omega)
  have g2 : ∀ i, i < e2 - q2 → isL (t (q2 + i)) := fun i hi => h2 _ (by omega) (by omega)
  have p1 := pk_v (t := t) (q := q1) (e1 - q1) g1 a1
  have p2 := pk_v (t := t) (q := q2) (e2 - q2) g2 a2
  constructor
  · intro h
    have e := congrArg Int64.toInt h
    rw [p1, p2] at e
    exact pv_inj _ _ g1 g2 e
  · rintro ⟨e, h⟩
    apply Int64.toInt_inj.mp
    rw [p1, p2, ← e]
    exact pv_cg h
/-- what a name's token is -/
theorem MZ_nm {Z : TS} {Y : YT} {i : Nat} {M : GS} (hS : STm Z Y) (hT : TPa Y.2.1 Y.2.2.1 M) (hi : i < Y.2.2.2) (h3 : (Z.1 i).toInt = 3) : (Z.2.2 i).toInt.toNat < Y.2.2.1 ∧ (Z.2.2 i).toInt.toNat < Y.1 i ∧ Y.1 i ≤ Y.2.2.1 ∧ Y.1 i - (Z.2.2 i).toInt.toNat ≤ 8 ∧ (∀ q, (Z.2.2 i).toInt.toNat ≤ q → q < Y.1 i → isL (Y.2.1 q)) ∧ Z.2.1 i = pkF Y.2.1 (Z.2.2 i).toInt.toNat (Y.1 i - (Z.2.2 i).toInt.toNat) ∧ 0 ≤ (Z.2.2 i).toInt := by
  obtain ⟨hA, hp, -⟩ := hS.1 i hi
  have := (TkA_k hA (fun q hq => (hT.2.2 q hq).2)).2.2 h3
  exact ⟨this.1, this.2.1, this.2.2.1, this.2.2.2.1, this.2.2.2.2.1, this.2.2.2.2.2, hp⟩
set_option maxHeartbeats 1600000 in
theorem q_isKnownE (S : GS) (n : Int32) (post : Int32 → GS → Prop) (Z : TS) (Y : YT) (j : Nat) (rd : List AcT) (hz : MZ Z Y j S) (hk3 : (Z.1 j).toInt = 3) (hn : n.toInt = 12 + (rd.length : Int)) (h6 : rd.length ≤ 6) (hN : ∀ (k : Nat) (a : AcT), rd[k]? = some a → ∃ jn, NMx S Z Y (12 + k) jn ∧ a.1 = Z.2.1 jn) (k0 : Z.2.1 j ∉ rd.map (fun a => a.1) → post 0 S) (k1 : Z.2.1 j ∈ rd.map (fun a => a.1) → post 1 S) : w_X12_isKnown S n post := by
  unfold w_X12_isKnown
  obtain ⟨hS, hj, hT, h2, h4, -⟩ := hz
  have c7 := hT.2.1
  obtain ⟨c1, c2, c3, c4, c5, c6, c8⟩ := MZ_nm hS hT hj hk3
  have es : (fi S 2 - fi S 4).toInt = (fi S 2).toInt - (fi S 4).toInt := i_sub (by rw [h4]; omega) (by rw [h4]; omega)
  refine lr3 (fun (T : GS) (n' y : Int32) => T = S ∧ n' = n ∧ (12 ≤ y.toInt ∧ y.toInt ≤ n.toInt) ∧ ∀ (k : Nat) (a : AcT), (12 + k : Int) < y.toInt → rd[k]? = some a → a.1 ≠ Z.2.1 j) (fun _ _ y => (n.toInt - y.toInt).toNat) ?_ _ _ _ ⟨rfl, rfl, ⟨by decide, by rw [li_12]; omega⟩, fun k a hk => by rw [li_12] at hk; omega⟩
  rintro kk T n' y ⟨rfl, rfl, ⟨y0, y1⟩, hne⟩ hk
  unfold w_X12_isKnown_F3 w_X12_isKnown_B103
  have b31 : y.toInt < n'.toInt → ∀ z : Int32, (z.toInt ≠ 0 ↔ (ar T 18 y.toNatClampNeg).toInt = (fi T 2).toInt - (fi T 4).toInt) → w_X12_isKnown_B31 post kk (w_X12_isKnown_B103 post) T n' y z := by
    intro hy z hz
    unfold w_X12_isKnown_B31
    obtain ⟨kx, hkx⟩ : ∃ kx : Nat, y.toInt = 12 + (kx : Int) := ⟨(y.toInt - 12).toNat, by omega⟩
    have hyn : y.toNatClampNeg = 12 + kx := by rw [tnc]; omega
    have hkl : kx < rd.length := by omega
    have hget := List.getElem?_eq_getElem hkl
    generalize rd[kx] = a at hget
    obtain ⟨jn, ⟨n1, n2, n3, n4⟩, ha⟩ := hN kx a hget
    obtain ⟨d1, d2, d3, d4, d5, d6, d8⟩ := MZ_nm hS hT n1 n2
    have hiff := nm_iff (t := Y.2.1) d4 c4 d5 c5
    rw [← d6, ← c6] at hiff
    rw [← hyn] at n3 n4
    refine lr5 (fun (U : GS) (n2 y2 z j2 : Int32) => U = T ∧ n2 = n' ∧ y2 = y ∧ (z.toInt ≠ 0 ↔ ((ar T 18 y.toNatClampNeg).toInt = (fi T 2).toInt - (fi T 4).toInt ∧ ∀ m : Nat, (m : Int) < j2.toInt → Y.2.1 ((Z.2.2 jn).toInt.toNat + m) = Y.2.1 ((Z.2.2 j).toInt.toNat + m))) ∧ 0 ≤ j2.toInt ∧ j2.toInt ≤ (ar T 18 y.toNatClampNeg).toInt) (fun _ _ _ _ j2 => ((ar T 18 y.toNatClampNeg).toInt - j2.toInt).toNat) ?_ _ _ _ _ _ ⟨rfl, rfl, rfl, ?_, by decide, by rw [li_0]; omega⟩
    rotate_left
    · rw [hz]
      exact ⟨fun g => ⟨g, fun m hm => by rw [li_0] at hm; omega⟩, fun g => g.1⟩
    rintro kk2 U n2' y2 z j2 ⟨rfl, rfl, rfl, hz, j0, j1⟩ hk2
    unfold w_X12_isKnown_F35 w_X12_isKnown_B91 w_X12_isKnown_B84
    have next : a.1 ≠ Z.2.1 j → kk U n2' (y2 + 1) := by
      intro ne
      refine hk _ _ _ ⟨rfl, rfl, ⟨by rw [inc1 (by omega)]; omega, by rw [inc1 (by omega)]; omega⟩, fun k b hkb hb => ?_⟩ (by rw [inc1 (by omega)]; omega)
      rw [inc1 (by omega)] at hkb
      by_cases ek : k = kx
      · rw [ek, hget] at hb
        have : a = b := Option.some.inj hb
        rw [← this]; exact ne
      · exact hne k b (by omega) hb
    refine ⟨by omega, fun g => ⟨fun gz => next ?_, fun gz => k1 ?_⟩, fun g => ⟨fun gz => ⟨fun _ => next ?_, fun q => absurd gz q⟩, fun gz => ?_⟩⟩
    · rw [ha]
      intro he
      have hh := hiff.mp he
      exact hz.mpr ⟨by rw [n4, h2, h4]; omega, fun m hm => hh.2 m (by omega)⟩ gz
    · have hh := hz.mp gz
      rw [n4, h2, h4] at hh
      have he : a.1 = Z.2.1 j := by
        rw [ha]
        exact hiff.mpr ⟨by omega, fun m hm => hh.2 m (by omega)⟩
      rw [← he]
      exact List.mem_map.mpr ⟨a, List.mem_of_getElem? hget, rfl⟩
    · rw [ha]
      intro he
      have hh := hiff.mp he
      exact hz.mpr ⟨by rw [n4, h2, h4]; omega, fun m hm => hh.2 m (by omega)⟩ gz
    · have hh := hz.mp gz
      have hlen := hh.1
      rw [n4, h2, h4] at hlen
      have a1 : (ar U 17 y2.toNatClampNeg + j2).toInt = (Z.2.2 jn).toInt + j2.toInt := by
        rw [n3]
        exact ad_ab (by omega) (by omega)
      have a2 : (fi U 4 + j2).toInt = (Z.2.2 j).toInt + j2.toInt := by
        rw [h4]
        exact ad_ab (by omega) (by omega)
      have i1 : (ar U 17 y2.toNatClampNeg + j2).toNatClampNeg = (Z.2.2 jn).toInt.toNat + j2.toInt.toNat := by rw [tnc, a1]; omega
      have i2 : (fi U 4 + j2).toNatClampNeg = (Z.2.2 j).toInt.toNat + j2.toInt.toNat := by rw [tnc, a2]; omega
      rw [i1, i2, a1, a2, (hT.2.2 _ (show (Z.2.2 jn).toInt.toNat + j2.toInt.toNat < Y.2.2.1 by omega)).1, (hT.2.2 _ (show (Z.2.2 j).toInt.toNat + j2.toInt.toNat < Y.2.2.1 by omega)).1]
      clear i1 i2 a1 a2
      have e1 := inc1 (x := j2) (by omega)
      refine ⟨by omega, by omega, by omega, fun gne => hk2 _ _ _ _ _ ⟨rfl, rfl, rfl, ?_, by omega, by omega⟩ (by omega), fun geq => hk2 _ _ _ _ _ ⟨rfl, rfl, rfl, ?_, by omega, by omega⟩ (by omega)⟩
      · refine ⟨fun q => absurd li_0 q, fun q => ?_⟩
        exact absurd (congrArg Int32.toInt (q.2 j2.toInt.toNat (by omega))) gne
      · refine ⟨fun _ => ⟨hh.1, fun m hm => ?_⟩, fun _ => by decide⟩
        by_cases em : m = j2.toInt.toNat
        · rw [em]; exact i_eq geq
        · exact hh.2 m (by omega)
  rw [es]
  refine ⟨fun g => k0 (fun hm => ?_), fun g => ⟨by omega, fun gl => b31 g 0 ⟨fun q => absurd li_0 q, fun q => absurd q gl⟩, fun gl => b31 g 1 ⟨fun _ => gl, fun _ => by decide⟩⟩⟩
  obtain ⟨a, ha, hav⟩ := List.mem_map.mp hm
  obtain ⟨t, ht⟩ := List.getElem?_of_mem ha
  have hlt := gt_lt ht
  exact hne t a (by omega) ht hav
set_option maxHeartbeats 4000000 in
theorem q_anActE (S : GS) (f : Nat) (post : Int32 → GS → Prop) (hL : Lx S) (hf : (fi S 12).toInt = (f : Int)) (hf6 : f ≤ 6) (hD : ∀ y : Nat, 12 ≤ y → y < 12 + f → DA S y ∧ NA S y) (Z : TS) (Y : YT) (j : Nat) (rd : List AcT) (hz : MZ Z Y j S) (hrf : rd.length = f) (hFA : FAx S Z Y rd) (RES : CAc) (hRES : RES = ypA4 Z (rd.map (fun a => a.1)) j) (k : ∀ (r : Int32) (S' : GS), KPx S S' → (r = 0 ∨ r = 1) → (r.toInt ≠ 0 → Lx S' ∧ (fi S 4).toInt < (fi S' 4).toInt ∧ (fi S' 12).toInt = ((f + 1 : Nat) : Int) ∧ f + 1 ≤ 6 ∧ ∀ y : Nat, 12 ≤ y → y < 12 + (f + 1) → DA S' y ∧ NA S' y) → ((r = 1 ∧ (Z.1 j).toInt = 4 ∧ RES.1 = 0 ∧ MZ Z Y (RES.2.1 + 1) S' ∧ fi S' 6 = fi S 6 ∧ FAx S' Z Y (rd ++ [acOf Z j RES])) ∨ (r = 0 ∧ MB Z S' (ypNo RES.1 RES.2.1))) → post r S') : w_X12_anAct S post := by
  unfold w_X12_anAct
  have kx : ∀ {T : GS}, KP 12 48 72 S T → KPx S T := fun h => ⟨h.1.wk (by decide), h.2⟩
  have eml : (rd.map (fun a => a.1)).length = rd.length := List.length_map ..
  have bad : ∀ (T : GS) (v : Int32) (c i : Nat), KP 12 48 72 S T → v.toInt = (c : Int) → c ≠ 0 → MZ Z Y i T → RES.1 = c → RES.2.1 = i → (((0 : Int32) = 0 ∨ (0 : Int32) = 1) ∧ post 0 (si (si T 6 v) 7 (fi T 4))) := fun T v c i hK h1 h2 h3 h4 h5 => ⟨Or.inl rfl, k 0 _ (kx (KP_tr hK (EE_kp (EE_bad T v)))) (Or.inl rfl) no0 (Or.inr ⟨rfl, by rw [h4, h5]; exact MB_bad h3 v c h1 h2⟩)⟩
  have t301 : (fi S 3).toInt = 301 ↔ (Z.1 j).toInt = 4 := MZ_t hz 4 301 (by decide) (by decide)
  refine ⟨fun g1 => ⟨fun g2 => ?_, fun g2 => ?_⟩, fun g1 => ?_⟩
  rotate_left
  · have e : RES = (3, j, false, false, [], []) := by
      rw [hRES]
      unfold ypA4 ypAc
      rw [if_pos (t301.mp g1), if_pos (by rw [eml]; omega)]
    exact bad S 3 3 j (KP_rf _ _ _ S) (by decide) (by decide) hz (by rw [e]) (by rw [e])
  · have e : RES = (1, j, false, false, [], []) := by
      rw [hRES]
      unfold ypA4
      rw [if_neg (fun q => g1 (t301.mpr q))]
    exact bad S 1 1 j (KP_rf _ _ _ S) (by decide) (by decide) hz (by rw [e]) (by rw [e])
  have g4 : (Z.1 j).toInt = 4 := t301.mp g1
  have hR4 : RES = ypAc Z (rd.map (fun a => a.1)) j := by
    rw [hRES]
    exact if_pos g4
  have hlen : ¬ 6 ≤ (rd.map (fun a => a.1)).length := by rw [eml]; omega
  refine q_nextE _ _ Z Y j hz (by omega) (fun S2 hN2 hz2 => ?_)
  have t3 : (fi S2 3).toInt = 3 ↔ (Z.1 (j + 1)).toInt = 3 := MZ_t hz2 3 3 (by decide) (by decide)
  have hG2 := GO_nx hL (by omega) hN2
  have hK2 : ∀ a b c, KP a b c S S2 := fun a b c => EE_kp (NX_ee hN2)
  refine ⟨fun g3 => ?_, fun g3 => ?_⟩
  rotate_left
  · have e : RES = (1, j + 1, false, false, [], []) := by
      rw [hR4]
      unfold ypAc
      rw [if_neg hlen, if_pos (fun q => g3 (t3.mpr q))]
    exact bad S2 1 1 (j + 1) (hK2 _ _ _) (by decide) (by decide) hz2 (by rw [e]) (by rw [e])
  have k3 : (Z.1 (j + 1)).toInt = 3 := t3.mp g3
  have ex : ((12 : Int32) + fi S 12).toInt = 12 + (f : Int) := by rw [ad_12 (by omega), hf]
  have exn : ((12 : Int32) + fi S 12).toNatClampNeg = 12 + f := by rw [tnc, ex]; omega
  obtain ⟨a1, a2, a3, a4, a5, a6, a7⟩ := hG2.1
  have a8 := a5 (by omega)
  have hN2x : ∀ (q : Nat) (a : AcT), rd[q]? = some a → ∃ jn, NMx S2 Z Y (12 + q) jn ∧ a.1 = Z.2.1 jn := by
    intro q a ha
    have hq := gt_lt ha
    obtain ⟨⟨jn, h1, h2⟩, -⟩ := hFA q a ha
    exact ⟨jn, NMx_kp (x := 12 + f) (b := 0) (c := 0) h1 (by omega) (hK2 _ _ _).2, h2⟩
  refine q_isKnownE S2 _ _ Z Y (j + 1) rd hz2 k3 (by rw [ex]; omega) (by omega) hN2x (fun hnm => ⟨fun _ => ?_, fun q => absurd li_0 q⟩) (fun hnm => ⟨fun q => absurd q (by decide), fun _ => ?_⟩)
  rotate_left
  · have e : RES = (2, j + 1, false, false, [], []) := by
      rw [hR4]
      unfold ypAc
      rw [if_neg hlen, if_neg (by omega), if_pos hnm]
    exact bad S2 2 2 (j + 1) (hK2 _ _ _) (by decide) (by decide) hz2 (by rw [e]) (by rw [e])
  have hRC : RES = ypCs Z 11 (0, j + 2, false, false, [], []) := by
    rw [hR4]
    unfold ypAc
    rw [if_neg hlen, if_neg (by omega), if_neg hnm]
  rw [exn]
  have hb12 : 0 ≤ ((12 : Int32) + fi S 12).toInt ∧ ((12 : Int32) + fi S 12).toInt < 18 := by omega
  refine ⟨hb12, hb12, hb12, hb12, ?_⟩
  have es : (fi S2 2 - fi S2 4).toInt = (fi S2 2).toInt - (fi S2 4).toInt := by
    clear ex hb12
    simp (disch := omega) only [Int32.toInt_add, Int32.toInt_sub, Int32.toInt_mul, Int32.toInt_neg, Int32.toInt_div, li_0, li_1, li_2, li_3, li_4, li_5, li_6, li_7, li_8, li_9, li_10, li_11, li_12, li_13, li_14, li_15, li_16, li_20, li_21, li_22, li_23, li_24, li_25, li_26, li_27, li_28, li_29, li_30, li_31, li_32, li_35, li_36, li_40, li_41, li_42, li_43, li_45, li_48, li_50, li_51, li_57, li_59, li_60, li_61, li_62, li_63, li_64, li_97, li_99, li_100, li_122, li_200, li_255, li_302, li_303, li_304, li_305, li_306, li_307, li_308, li_309, li_310, li_311, li_312, li_313, li_314, li_315, li_316, li_317, li_318, li_319, li_400, li_700, li_701, li_720, li_767, li_768, li_999, li_1000, li_1023, li_1024, li_1440, li_18720, tdv, bm, tnc]
  -- the ACT begins
  have hKV : KP (12 + f) (4 * (12 + f)) (6 * (12 + f)) S2 (si (si (su (su (su (su S2 17 (12 + f) (fi S2 4)) 18 (12 + f) (fi S2 2 - fi S2 4)) 8 (12 + f) 0) 9 (12 + f) 0) 14 0) 15 0) := by
    refine KP_tr (KP_s1 (j := 17) (v := fi S2 4) (by decide) (Nat.le_refl _)) (KP_tr (KP_s1 (j := 18) (v := fi S2 2 - fi S2 4) (by decide) (Nat.le_refl _)) (KP_tr (KP_s1 (j := 8) (v := 0) (by decide) (Nat.le_refl _)) (KP_tr (KP_s1 (j := 9) (v := 0) (by decide) (Nat.le_refl _)) ?_)))
    exact KP_fr (Fr.si (by decide) (Fr.si (by decide) Fr.rf)) (Int.le_refl _) (fun _ _ => rfl) (fun _ _ => rfl)
  have vF : Fr [14, 15] [] [8, 9, 17, 18] [] S2 (si (si (su (su (su (su S2 17 (12 + f) (fi S2 4)) 18 (12 + f) (fi S2 2 - fi S2 4)) 8 (12 + f) 0) 9 (12 + f) 0) 14 0) 15 0) := Fr.si (by decide) (Fr.si (by decide) (Fr.su (by decide) (Fr.su (by decide) (Fr.su (by decide) (Fr.su (by decide) Fr.rf)))))
  have v8 : (ar (si (si (su (su (su (su S2 17 (12 + f) (fi S2 4)) 18 (12 + f) (fi S2 2 - fi S2 4)) 8 (12 + f) 0) 9 (12 + f) 0) 14 0) 15 0) 8 (12 + f)).toInt = 0 := by
    show ((si (si (su (su (su (su S2 17 (12 + f) (fi S2 4)) 18 (12 + f) (fi S2 2 - fi S2 4)) 8 (12 + f) 0) 9 (12 + f) 0) 14 0) 15 0).2.2.1 8 (12 + f)).toInt = 0
    rw [si_2, si_2, su_ne (by decide), su_at, upd_at]; decide
  have v9 : (ar (si (si (su (su (su (su S2 17 (12 + f) (fi S2 4)) 18 (12 + f) (fi S2 2 - fi S2 4)) 8 (12 + f) 0) 9 (12 + f) 0) 14 0) 15 0) 9 (12 + f)).toInt = 0 := by
    show ((si (si (su (su (su (su S2 17 (12 + f) (fi S2 4)) 18 (12 + f) (fi S2 2 - fi S2 4)) 8 (12 + f) 0) 9 (12 + f) 0) 14 0) 15 0).2.2.1 9 (12 + f)).toInt = 0
    rw [si_2, si_2, su_at, upd_at]; decide
  have v17 : NA (si (si (su (su (su (su S2 17 (12 + f) (fi S2 4)) 18 (12 + f) (fi S2 2 - fi S2 4)) 8 (12 + f) 0) 9 (12 + f) 0) 14 0) 15 0) (12 + f) := by
    have n17 : (si (si (su (su (su (su S2 17 (12 + f) (fi S2 4)) 18 (12 + f) (fi S2 2 - fi S2 4)) 8 (12 + f) 0) 9 (12 + f) 0) 14 0) 15 0).2.2.1 17 (12 + f) = fi S2 4 := by
      rw [si_2, si_2, su_ne (by decide), su_ne (by decide), su_ne (by decide), su_at, upd_at]
    have n18 : (si (si (su (su (su (su S2 17 (12 + f) (fi S2 4)) 18 (12 + f) (fi S2 2 - fi S2 4)) 8 (12 + f) 0) 9 (12 + f) 0) 14 0) 15 0).2.2.1 18 (12 + f) = fi S2 2 - fi S2 4 := by
      rw [si_2, si_2, su_ne (by decide), su_ne (by decide), su_at, upd_at]
    unfold NA
    show 0 ≤ ((si (si (su (su (su (su S2 17 (12 + f) (fi S2 4)) 18 (12 + f) (fi S2 2 - fi S2 4)) 8 (12 + f) 0) 9 (12 + f) 0) 14 0) 15 0).2.2.1 17 (12 + f)).toInt ∧ 0 ≤ ((si (si (su (su (su (su S2 17 (12 + f) (fi S2 4)) 18 (12 + f) (fi S2 2 - fi S2 4)) 8 (12 + f) 0) 9 (12 + f) 0) 14 0) 15 0).2.2.1 18 (12 + f)).toInt ∧ ((si (si (su (su (su (su S2 17 (12 + f) (fi S2 4)) 18 (12 + f) (fi S2 2 - fi S2 4)) 8 (12 + f) 0) 9 (12 + f) 0) 14 0) 15 0).2.2.1 17 (12 + f)).toInt + ((si (si (su (su (su (su S2 17 (12 + f) (fi S2 4)) 18 (12 + f) (fi S2 2 - fi S2 4)) 8 (12 + f) 0) 9 (12 + f) 0) 14 0) 15 0).2.2.1 18 (12 + f)).toInt ≤ 700
    rw [n17, n18, es]
    clear ex hb12
    omega
  have v14 : fi (si (si (su (su (su (su S2 17 (12 + f) (fi S2 4)) 18 (12 + f) (fi S2 2 - fi S2 4)) 8 (12 + f) 0) 9 (12 + f) 0) 14 0) 15 0) 14 = 0 := by
    show (si (si _ 14 0) 15 0).1 14 = 0
    rw [si_ne (by decide), si_at]
  have v15 : fi (si (si (su (su (su (su S2 17 (12 + f) (fi S2 4)) 18 (12 + f) (fi S2 2 - fi S2 4)) 8 (12 + f) 0) 9 (12 + f) 0) 14 0) 15 0) 15 = 0 := si_at _ _ _
  have hzV : MZ Z Y (j + 1) (si (si (su (su (su (su S2 17 (12 + f) (fi S2 4)) 18 (12 + f) (fi S2 2 - fi S2 4)) 8 (12 + f) 0) 9 (12 + f) 0) 14 0) 15 0) := MZ_fr hz2 vF (by decide) (Or.inl v14) (Or.inl v15)
  have hNM : NMx (si (si (su (su (su (su S2 17 (12 + f) (fi S2 4)) 18 (12 + f) (fi S2 2 - fi S2 4)) 8 (12 + f) 0) 9 (12 + f) 0) 14 0) 15 0) Z Y (12 + f) (j + 1) := by
    refine ⟨hz2.2.1, k3, ?_, ?_⟩
    · show (si (si (su (su (su (su S2 17 (12 + f) (fi S2 4)) 18 (12 + f) (fi S2 2 - fi S2 4)) 8 (12 + f) 0) 9 (12 + f) 0) 14 0) 15 0).2.2.1 17 (12 + f) = _
      rw [si_2, si_2, su_ne (by decide), su_ne (by decide), su_ne (by decide), su_at, upd_at]
      exact hz2.2.2.2.2.1
    · show ((si (si (su (su (su (su S2 17 (12 + f) (fi S2 4)) 18 (12 + f) (fi S2 2 - fi S2 4)) 8 (12 + f) 0) 9 (12 + f) 0) 14 0) 15 0).2.2.1 18 (12 + f)).toInt = _
      rw [si_2, si_2, su_ne (by decide), su_ne (by decide), su_at, upd_at, es, hz2.2.2.2.1, hz2.2.2.2.2.1]
  clear es
  generalize si (si (su (su (su (su S2 17 (12 + f) (fi S2 4)) 18 (12 + f) (fi S2 2 - fi S2 4)) 8 (12 + f) 0) 9 (12 + f) 0) 14 0) 15 0 = V at hKV vF v8 v9 v17 v14 v15 hzV hNM ⊢
  have hLV := Lx_fr hG2.1 vF (by decide) (by decide)
  have v3 : fi V 3 = fi S2 3 := vF.1 3 (by decide)
  have v4 : fi V 4 = fi S2 4 := vF.1 4 (by decide)
  refine q_nextE _ _ Z Y (j + 1) hzV (by omega) (fun S10 hN10 hz10 => ?_)
  have hG10 := GO_nx hLV (by rw [v3]; omega) hN10
  have q4 : (fi S 4).toInt < (fi S10 4).toInt := by
    have z1 := hG2.2.2.1
    have z2 := hG10.2.2.1
    rw [v4] at z2; omega
  have hK10 : KP (12 + f) (4 * (12 + f)) (6 * (12 + f)) S S10 := KP_tr (hK2 _ _ _) (KP_tr hKV (EE_kp (NX_ee hN10)))
  have hA10 : AC S10 (12 + f) (fi S10 14 = 1) (fi S10 15 = 1) := by
    have e8 : ar S10 8 = ar V 8 := hN10.1.2.2.1 8 (by decide)
    have e9 : ar S10 9 = ar V 9 := hN10.1.2.2.1 9 (by decide)
    refine ⟨by rw [e8]; omega, by rw [e9]; omega, fun q hq => by rw [e8] at hq; omega, fun q hq => by rw [e9] at hq; omega⟩
  have hN10' : NA S10 (12 + f) := NA_kp (x := 12 + f + 1) (b := 0) (c := 0) (by omega) (EE_kp (NX_ee hN10)).2 v17
  have hb10 : (fi S10 14 = 0 ∨ fi S10 14 = 1) ∧ (fi S10 15 = 0 ∨ fi S10 15 = 1) := BM_bool hG10.2.2.2.2 ⟨Or.inl v14, Or.inl v15⟩
  have f10 : (fi S10 12).toInt = (f : Int) := by
    have : fi S10 12 = fi S 12 := (hN10.1.1 12 (by decide)).trans ((vF.1 12 (by decide)).trans (hN2.1.1 12 (by decide)))
    rw [this, hf]
  have hf5 : f ≤ 5 := by omega
  have hFA10 : FAx S10 Z Y rd := FAx_kp hFA (by omega) hK10.2
  have hNM10 : NMx S10 Z Y (12 + f) (j + 1) := NMx_kp (x := 12 + f + 1) (b := 0) (c := 0) hNM (by omega) (EE_kp (NX_ee hN10)).2
  have hMA10 : MAf S10 (12 + f) [] [] := by
    have e8 : ar S10 8 = ar V 8 := hN10.1.2.2.1 8 (by decide)
    have e9 : ar S10 9 = ar V 9 := hN10.1.2.2.1 9 (by decide)
    exact ⟨⟨by rw [e8]; exact v8, fun q l hl => by simp at hl⟩, by rw [e9]; exact v9, fun q w hw => by simp at hw⟩
  have w14 : fi S10 14 = orF 0 false := (hN10.1.1 14 (by decide)).trans v14
  have w15 : fi S10 15 = orF 0 false := (hN10.1.1 15 (by decide)).trans v15
  have s6 : fi S10 6 = fi S 6 := (hN10.1.1 6 (by decide)).trans ((vF.1 6 (by decide)).trans (hN2.1.1 6 (by decide)))
  refine lr2 (fun (T : GS) (x : Int32) => x = (12 : Int32) + fi S 12 ∧ KP (12 + f) (4 * (12 + f)) (6 * (12 + f)) S T ∧ Lx T ∧ (fi S 4).toInt < (fi T 4).toInt ∧ (fi T 12).toInt = (f : Int) ∧ AC T (12 + f) (fi T 14 = 1) (fi T 15 = 1) ∧ NA T (12 + f) ∧ ((fi T 14 = 0 ∨ fi T 14 = 1) ∧ (fi T 15 = 0 ∨ fi T 15 = 1)) ∧ (FAx T Z Y rd ∧ fi T 6 = fi S 6) ∧ NMx T Z Y (12 + f) (j + 1) ∧ ∃ (acc : CAc) (n : Nat), acc.1 = 0 ∧ MZ Z Y acc.2.1 T ∧ fi T 14 = orF 0 acc.2.2.1 ∧ fi T 15 = orF 0 acc.2.2.2.1 ∧ MAf T (12 + f) acc.2.2.2.2.1 acc.2.2.2.2.2 ∧ RES = ypCs Z n acc ∧ n + acc.2.2.2.2.1.length + acc.2.2.2.2.2.length = 11 ∧ acc.2.2.2.2.1.length ≤ 4 ∧ acc.2.2.2.2.2.length ≤ 6) (fun T _ => (700 - (fi T 4).toInt).toNat) ?_ _ _ ⟨rfl, hK10, hG10.1, q4, f10, hA10, hN10', hb10, ⟨hFA10, s6⟩, hNM10, (0, j + 2, false, false, [], []), 11, rfl, hz10, w14, w15, hMA10, hRC, rfl, Nat.zero_le 4, Nat.zero_le 6⟩
  rintro kk T x ⟨rfl, hKT, hLT, t4, t12, hAT, hNT, hbT, ⟨hFT, t6⟩, hNMT, acc, n, hacc, hzT, a14, a15, hMT, hRn, hn11, hl4, hl6⟩ hk
  obtain ⟨n', rfl⟩ : ∃ n', n = n' + 1 := ⟨n - 1, by omega⟩
  have m8 := hMT.1.1
  have m9 := hMT.2.1
  have T302 := MZ_t hzT 5 302 (by decide) (by decide)
  have T303 := MZ_t hzT 6 303 (by decide) (by decide)
  have T59 := MZ_t hzT 23 59 (by decide) (by decide)
  have x23 : (Z.1 acc.2.1).toInt ≠ 23 → (ypC1 Z acc).1 ≠ 0 → RES = ypC1 Z acc := fun a1 a2 => hRn.trans (ypCs_x hacc a1 a2)
  have badT : ∀ (v : Int32) (c : Nat), v.toInt = (c : Int) → c ≠ 0 → RES.1 = c → RES.2.1 = acc.2.1 → (((0 : Int32) = 0 ∨ (0 : Int32) = 1) ∧ post 0 (si (si T 6 v) 7 (fi T 4))) := fun v c h1 h2 h3 h4 => bad T v c acc.2.1 (KP_lo hKT (by omega) (by omega) (by omega)) h1 h2 hzT h3 h4
  have bad0 : ∀ (U : GS) (r : YR), KP (12 + f) (4 * (12 + f)) (6 * (12 + f)) S U → MB Z U r → RES.1 = r.1 → RES.2.1 = r.2.1 → post 0 U := fun U r hK hB h1 h2 => k 0 U (kx (KP_lo hK (by omega) (by omega) (by omega))) (Or.inl rfl) no0 (Or.inr ⟨rfl, by rw [h1, h2]; exact hB⟩)
  have b194 : ∀ y : Int32, (fi T 3).toInt ≠ 0 → (y.toInt = 0 → (Z.1 acc.2.1).toInt = 6) → (y.toInt ≠ 0 → (Z.1 acc.2.1).toInt = 5) → (y.toInt = 0 → (ar T 9 (12 + f)).toInt ≠ 6) → (y.toInt ≠ 0 → (ar T 8 (12 + f)).toInt ≠ 4) → w_X12_anAct_B194 post kk (w_X12_anAct_B294 post) T ((12 : Int32) + fi S 12) y := by
    intro y ht hy6 hy5 hy0 hy1
    unfold w_X12_anAct_B194 w_X12_anAct_B291
    rw [exn]
    have hkT : (Z.1 acc.2.1).toInt ≠ 0 ∧ (Z.1 acc.2.1).toInt ≠ 23 := by
      by_cases gy : y.toInt = 0
      · have := hy6 gy; omega
      · have := hy5 gy; omega
    refine q_nextE _ _ Z Y acc.2.1 hzT hkT.1 (fun S13 hN13 hz13 => ?_)
    have hF13 : FAx S13 Z Y rd := FAx_kp hFT (by omega) (EE_kp (NX_ee hN13) : KP (12 + f) (4 * (12 + f)) (6 * (12 + f)) T S13).2
    have hNM13 : NMx S13 Z Y (12 + f) (j + 1) := NMx_kp (x := 12 + f + 1) (b := 0) (c := 0) hNMT (by omega) (EE_kp (NX_ee hN13)).2
    have b14 : fi S13 14 = orF 0 acc.2.2.1 := (hN13.1.1 14 (by decide)).trans a14
    have b15 : fi S13 15 = orF 0 acc.2.2.2.1 := (hN13.1.1 15 (by decide)).trans a15
    have hG13 := GO_nx hLT ht hN13
    have e8 : ar S13 8 = ar T 8 := hN13.1.2.2.1 8 (by decide)
    have e9 : ar S13 9 = ar T 9 := hN13.1.2.2.1 9 (by decide)
    have z13 := hG13.2.2.1
    have f13 : fi S13 12 = fi T 12 := hN13.1.1 12 (by decide)
    have hA13 : AC S13 (12 + f) (fi S13 14 = 1) (fi S13 15 = 1) := AC_kp hAT (na := 4) (nb := 6) hAT.1.2 hAT.2.1.2 (EE_kp (NX_ee hN13)).2 (by rw [e8]) (by rw [e9]) (BM_one hG13.2.2.2.2).1 (BM_one hG13.2.2.2.2).2
    have hK13 : KP (12 + f) (4 * (12 + f)) (6 * (12 + f)) S S13 := KP_tr hKT (EE_kp (NX_ee hN13))
    have hM13 : MAf S13 (12 + f) acc.2.2.2.2.1 acc.2.2.2.2.2 := MAf_kp hMT hl4 hl6 (EE_kp (NX_ee hN13)).2 (by rw [e8]) (by rw [e9])
    have hN13' : NA S13 (12 + f) := NA_kp (x := 12 + f + 1) (b := 0) (c := 0) (by omega) (EE_kp (NX_ee hN13)).2 hNT
    have hb13 := BM_bool hG13.2.2.2.2 hbT
    have hp := hA13.1
    have hq := hA13.2.1
    refine ⟨fun gy => ⟨hb12, ?_⟩, fun gy => ⟨hb12, ?_⟩⟩
    · -- a make
      have h6 := hy0 gy
      rw [← e9] at h6
      have em : ((6 : Int32) * ((12 : Int32) + fi S 12) + ar S13 9 (12 + f)).toInt = 6 * (12 + (f : Int)) + (ar S13 9 (12 + f)).toInt := by
        rw [ma_6 (by omega) (by omega), ex]
      have emn : ((6 : Int32) * ((12 : Int32) + fi S 12) + ar S13 9 (12 + f)).toInt.toNat = 6 * (12 + f) + (ar S13 9 (12 + f)).toInt.toNat := by rw [em]; omega
      have g6 := hy6 gy
      have hl6' : ¬ 6 ≤ acc.2.2.2.2.2.length := by rw [e9] at h6; omega
      have ec := ypC1_7 g6 hl6'
      refine q_changeE S13 (12 + f + 1) (4 * (12 + f) + 4) (6 * (12 + f) + (ar S13 9 (12 + f)).toInt.toNat) _ _ Z Y (acc.2.1 + 1) hz13 hG13.1 (by rw [em]; omega) (by rw [emn]; exact Nat.le_refl _) (fun r15 S16 hK16 hr15 h15 hX15 => ⟨fun g15 => ⟨hb12, hb12, ?_⟩, fun g15 => ?_⟩)
      rotate_left
      · rcases hX15 with ⟨q, -⟩ | ⟨-, q⟩
        · rw [q] at g15; exact absurd g15 (by decide)
        · have er := x23 hkT.2 (by rw [ec]; exact q.1)
          exact bad0 S16 _ (KP_tr hK13 (KP_lo hK16 (by omega) (by omega) (by omega))) q (by rw [er, ec]; rfl) (by rw [er, ec]; rfl)
      have hX16 : (ypMk Z (acc.2.1 + 1)).1 = 0 ∧ MZ Z Y (ypMk Z (acc.2.1 + 1)).2.1 S16 ∧ fi S16 6 = fi S13 6 ∧ fi S16 14 = orF (fi S13 14) (ypMk Z (acc.2.1 + 1)).2.2.2.1 ∧ fi S16 15 = orF (fi S13 15) (ypMk Z (acc.2.1 + 1)).2.2.2.2 ∧ MKx S16 13 ((6 : Int32) * ((12 : Int32) + fi S 12) + ar S13 9 (12 + f)).toInt.toNat (Z.1 (acc.2.1 + 1), ypF1 Z (acc.2.1 + 1), (ypMk Z (acc.2.1 + 1)).2.2.1) := by
        rcases hX15 with ⟨-, q⟩ | ⟨q, -⟩
        · exact q
        · rw [q] at g15; exact absurd li_0 g15
      obtain ⟨c1, c2, c3, c4, c5⟩ := h15 g15
      rw [emn] at c4 c5 hX16
      clear em emn
      obtain ⟨y1, y2, y0, y3, y4, y5⟩ := hX16
      have e9l : (ar S13 9 (12 + f)).toInt.toNat = acc.2.2.2.2.2.length := by rw [e9]; omega
      have r8 : ar S16 8 (12 + f) = ar S13 8 (12 + f) := hK16.2.2.2.2.1 8 (by decide) _ (by omega)
      have r9 : ar S16 9 (12 + f) = ar S13 9 (12 + f) := hK16.2.2.2.2.1 9 (by decide) _ (by omega)
      have hA16 : AC S16 (12 + f) (fi S16 14 = 1) (fi S16 15 = 1) := AC_kp hA13 (na := 4) (nb := (ar S13 9 (12 + f)).toInt.toNat) hp.2 (by omega) (KQ_lo hK16.2 (by omega) (by omega) (by omega)) r8 r9 (BM_one c3).1 (BM_one c3).2
      rw [← r9] at c4 c5
      have hF16 : FAx S16 Z Y rd := FAx_kp hF13 (by omega) (KQ_lo hK16.2 (by omega) (by omega) (by omega) : KQ (12 + f) (4 * (12 + f)) (6 * (12 + f)) S13 S16)
      have hNM16 : NMx S16 Z Y (12 + f) (j + 1) := NMx_kp (x := 12 + f + 1) hNM13 (by omega) hK16.2
      have hM16 : MAf S16 (12 + f) acc.2.2.2.2.1 acc.2.2.2.2.2 := MAf_kp hM13 hl4 (nb := acc.2.2.2.2.2.length) (Nat.le_refl _) (KQ_lo hK16.2 (by omega) (by omega) (by omega)) r8 r9
      have hA17 := AC_make hA16 (by rw [r9]; omega) c4 c5
      have wF : Fr [] [] [9] [] S16 (su S16 9 (12 + f) (ar S16 9 (12 + f) + 1)) := Fr.su (by decide) Fr.rf
      have hK17 : KP (12 + f) (4 * (12 + f)) (6 * (12 + f)) S16 (su S16 9 (12 + f) (ar S16 9 (12 + f) + 1)) := KP_s1 (by decide) (Nat.le_refl _)
      have q9 : (ar (su S16 9 (12 + f) (ar S16 9 (12 + f) + 1)) 9 (12 + f)).toInt = (acc.2.2.2.2.2.length : Int) + 1 := by
        have : ar (su S16 9 (12 + f) (ar S16 9 (12 + f) + 1)) 9 = upd (ar S16 9) (12 + f) (ar S16 9 (12 + f) + 1) := su_at _ _ _ _
        rw [this, upd_at, r9, inc1 (by omega), e9]
        omega
      generalize su S16 9 (12 + f) (ar S16 9 (12 + f) + 1) = W at hA17 wF hK17 q9 ⊢
      have hMW : MAf W (12 + f) acc.2.2.2.2.1 (acc.2.2.2.2.2 ++ [(Z.1 (acc.2.1 + 1), ypF1 Z (acc.2.1 + 1), (ypMk Z (acc.2.1 + 1)).2.2.1)]) := by
        have ea : ∀ i, i ≠ 9 → ar W i = ar S16 i := fun i hi => wF.2.2.1 i (by simp [hi])
        have en := nn_fr wF (by decide)
        have esx : sx W 13 = sx S16 13 := by unfold sx; rw [ea 5 (by decide)]
        refine ⟨⟨by rw [ea 8 (by decide)]; exact hM16.1.1, fun q l hl => ?_⟩, by rw [q9, List.length_append]; simp only [List.length_cons, List.length_nil]; omega, fun q w hw => ?_⟩
        · obtain ⟨z1, z2⟩ := hM16.1.2 q l hl
          exact ⟨NDx_cg z1 (by rw [ea 10 (by decide)]) (by rw [ea 11 (by decide)]) (fun i _ => by rw [esx]), by rw [ea 11 (by decide), en]; exact z2⟩
        · rcases gt_app hw with ⟨z0, z1⟩ | ⟨z0, z1⟩
          · obtain ⟨z2, z3⟩ := hM16.2.2 q w z1
            exact ⟨MKx_cg z2 (by rw [ea 12 (by decide)]) (by rw [ea 13 (by decide)]) (by rw [ea 14 (by decide)]) (by rw [ea 15 (by decide)]) (by rw [ea 16 (by decide)]) (fun i _ => by rw [esx]), by rw [ea 16 (by decide), en]; exact z3⟩
          · rw [z0, z1]
            rw [e9l] at y5
            rw [r9, e9l] at c5
            have z5 := y5
            refine ⟨MKx_cg y5 (by rw [ea 12 (by decide)]) (by rw [ea 13 (by decide)]) (by rw [ea 14 (by decide)]) (by rw [ea 15 (by decide)]) (by rw [ea 16 (by decide)]) (fun i _ => by rw [esx]), ?_⟩
            rw [ea 16 (by decide), en]
            by_cases gz : (ar S16 16 (6 * (12 + f) + acc.2.2.2.2.2.length)).toInt = (ar S16 15 (6 * (12 + f) + acc.2.2.2.2.2.length)).toInt
            · rcases z5.1 with ⟨-, ng, E, lo, u1, u2, u3, u4, u5, u6⟩ | ⟨-, u1, u2, u3, u4⟩
              · exfalso; omega
              · have := c1.2.2.2.2.2.1
                rw [u3]
                show 0 ≤ nn S16
                omega
            · exact c5 gz
      have hFW : FAx W Z Y rd := FAx_kp hF16 (by omega) hK17.2
      have hNMW : NMx W Z Y (12 + f) (j + 1) := by
        have x17 : ar W 17 = ar S16 17 := wF.2.2.1 17 (by decide)
        have x18 : ar W 18 = ar S16 18 := wF.2.2.1 18 (by decide)
        unfold NMx
        rw [x17, x18]
        exact hNM16
      have hbW := BM_bool c3 hb13
      have hzW : MZ Z Y (ypMk Z (acc.2.1 + 1)).2.1 W := MZ_fr y2 wF (by decide) (by rw [show fi W 14 = fi S16 14 from wF.1 14 (by decide)]; exact hbW.1) (by rw [show fi W 15 = fi S16 15 from wF.1 15 (by decide)]; exact hbW.2)
      have w4 : fi W 4 = fi S16 4 := wF.1 4 (by decide)
      have w14 : fi W 14 = fi S16 14 := wF.1 14 (by decide)
      have w15 : fi W 15 = fi S16 15 := wF.1 15 (by decide)
      have w12 : fi W 12 = fi S16 12 := wF.1 12 (by decide)
      have n16 : NA S16 (12 + f) := NA_kp (x := 12 + f + 1) (by omega) hK16.2 hN13'
      have s12 : (fi S16 12).toInt = (f : Int) := by
        have : fi S16 12 = fi S13 12 := hK16.1.1 12 (by decide)
        rw [this, f13]; exact t12
      have hLW := Lx_fr c1 wF (by decide) (by decide)
      have l4 := hLW.2.1
      have l5 := hLW.2.2.1
      have l6 := hLW.2.2.2.1
      refine hk _ _ ⟨rfl, KP_tr hK13 (KP_tr (KP_lo hK16 (by omega) (by omega) (by omega)) hK17), hLW, by rw [w4]; omega, by rw [w12]; exact s12, by rw [w14, w15]; exact hA17, ?_, by rw [w14, w15]; exact BM_bool c3 hb13, ⟨hFW, (wF.1 6 (by decide)).trans (y0.trans ((hN13.1.1 6 (by decide)).trans t6))⟩, hNMW, ypC1 Z acc, n', by rw [ec]; exact y1, by rw [ec]; exact hzW, ?_, ?_, by rw [ec]; exact hMW, hRn.trans (ypCs_s hacc hkT.2), ?_, by rw [ec]; exact hl4, ?_⟩ (by rw [w4] at *; omega)
      rotate_left
      · rw [ec, w14, y3, b14, orF_or]; rfl
      · rw [ec, w15, y4, b15, orF_or]; rfl
      · rw [ec]
        show n' + acc.2.2.2.2.1.length + (acc.2.2.2.2.2 ++ [_]).length = 11
        rw [List.length_append]
        simp only [List.length_cons, List.length_nil]
        omega
      · rw [ec]
        show (acc.2.2.2.2.2 ++ [_]).length ≤ 6
        rw [List.length_append]
        simp only [List.length_cons, List.length_nil]
        omega
      unfold NA
      have x17 : ar W 17 = ar S16 17 := wF.2.2.1 17 (by decide)
      have x18 : ar W 18 = ar S16 18 := wF.2.2.1 18 (by decide)
      rw [x17, x18]; exact n16
    · -- a need
      have h4 := hy1 gy
      have g5 := hy5 gy
      have hl4' : ¬ 4 ≤ acc.2.2.2.2.1.length := by omega
      have ec := ypC1_5 g5 hl4'
      rw [← e8] at h4
      have e8l : (ar S13 8 (12 + f)).toInt.toNat = acc.2.2.2.2.1.length := by rw [e8]; omega
      have em : ((4 : Int32) * ((12 : Int32) + fi S 12) + ar S13 8 (12 + f)).toInt = 4 * (12 + (f : Int)) + (ar S13 8 (12 + f)).toInt := by
        rw [ma_4 (by omega) (by omega), ex]
      have emn : ((4 : Int32) * ((12 : Int32) + fi S 12) + ar S13 8 (12 + f)).toNatClampNeg = 4 * (12 + f) + (ar S13 8 (12 + f)).toInt.toNat := by rw [tnc, em]; omega
      rw [emn, em]
      clear em emn
      refine ⟨by omega, ?_⟩
      have uF : Fr [] [] [10] [] S13 (su S13 10 (4 * (12 + f) + (ar S13 8 (12 + f)).toInt.toNat) (ar S13 6 13)) := Fr.su (by decide) Fr.rf
      have u10 : ar (su S13 10 (4 * (12 + f) + (ar S13 8 (12 + f)).toInt.toNat) (ar S13 6 13)) 10 (4 * (12 + f) + (ar S13 8 (12 + f)).toInt.toNat) = ar S13 6 13 := by
        have : ar (su S13 10 (4 * (12 + f) + (ar S13 8 (12 + f)).toInt.toNat) (ar S13 6 13)) 10 = upd (ar S13 10) (4 * (12 + f) + (ar S13 8 (12 + f)).toInt.toNat) (ar S13 6 13) := su_at _ _ _ _
        rw [this, upd_at]
      have hKU : KP (12 + f + 1) (4 * (12 + f) + (ar S13 8 (12 + f)).toInt.toNat) (6 * (12 + f) + 6) S13 (su S13 10 (4 * (12 + f) + (ar S13 8 (12 + f)).toInt.toNat) (ar S13 6 13)) := KP_s2 (by decide) (Nat.le_refl _)
      have hzU0 : MZ Z Y (acc.2.1 + 1) (su S13 10 (4 * (12 + f) + (ar S13 8 (12 + f)).toInt.toNat) (ar S13 6 13)) := MZ_fr hz13 uF (by decide) hz13.2.2.2.2.2.2.2.1 hz13.2.2.2.2.2.2.2.2
      generalize su S13 10 (4 * (12 + f) + (ar S13 8 (12 + f)).toInt.toNat) (ar S13 6 13) = U at uF u10 hKU hzU0 ⊢
      have hLU := Lx_fr hG13.1 uF (by decide) (by decide)
      have un := nn_fr uF (by decide)
      have u8 : ar U 8 = ar S13 8 := uF.2.2.1 8 (by decide)
      have u9 : ar U 9 = ar S13 9 := uF.2.2.1 9 (by decide)
      have u4 : fi U 4 = fi S13 4 := uF.1 4 (by decide)
      refine q_askedE U _ hLU Z Y (acc.2.1 + 1) hzU0 (fun r21 S22 hE22 hr21 h21 hM21 => ⟨fun g21 => ⟨by omega, hb12, hb12, ?_⟩, fun g21 => ?_⟩)
      rotate_left
      · have hb := MX_0 hM21 g21
        have er := x23 hkT.2 (by rw [ec]; exact hb.1)
        exact bad0 S22 _ (KP_tr hK13 (KP_tr (KP_lo hKU (by omega) (by omega) (by omega)) (EE_kp hE22))) hb (by rw [er, ec]; rfl) (by rw [er, ec]; rfl)
      have hG21 := MX_1 hM21 g21
      have hKT22 : KQ (12 + f + 1) (4 * (12 + f) + acc.2.2.2.2.1.length) (6 * (12 + f) + 6) S13 S22 := by
        rw [← e8l]
        exact KQ_tr hKU.2 (EE_kp hE22).2
      have hF22 : FAx S22 Z Y rd := FAx_kp hF13 (by omega) (KQ_lo hKT22 (by omega) (by omega) (by omega) : KQ (12 + f) (4 * (12 + f)) (6 * (12 + f)) S13 S22)
      have hNM22 : NMx S22 Z Y (12 + f) (j + 1) := NMx_kp (x := 12 + f + 1) hNM13 (by omega) hKT22
      obtain ⟨c1, c2, c3, c4⟩ := h21 g21
      have s8 : ar S22 8 = ar S13 8 := (hE22.1.2.2.1 8 (by decide)).trans u8
      have s9 : ar S22 9 = ar S13 9 := (hE22.1.2.2.1 9 (by decide)).trans u9
      have s10 : ar S22 10 (4 * (12 + f) + (ar S13 8 (12 + f)).toInt.toNat) = ar S13 6 13 := by
        have : ar S22 10 = ar U 10 := hE22.1.2.2.1 10 (by decide)
        rw [this, u10]
      have hM22 : MAf S22 (12 + f) acc.2.2.2.2.1 acc.2.2.2.2.2 := MAf_kp hM13 (na := acc.2.2.2.2.1.length) (Nat.le_refl _) hl6 (KQ_lo hKT22 (by omega) (by omega) (by omega)) (by rw [s8]) (by rw [s9])
      have bm22 : BM S13 S22 := BM_tr (BM_fr uF (by decide) (by decide)) c3
      have hA22 : AC S22 (12 + f) (fi S22 14 = 1) (fi S22 15 = 1) := AC_kp hA13 (na := (ar S13 8 (12 + f)).toInt.toNat) (nb := 6) (by omega) hq.2 (KQ_tr (KQ_lo hKU.2 (by omega) (by omega) (by omega)) (EE_kp hE22).2) (by rw [s8]) (by rw [s9]) (BM_one bm22).1 (BM_one bm22).2
      have y5 := nn_lx c1
      have y6 := hG13.1.2.2.2.2.2.1
      have hA23 := AC_need (v := ar S22 6 13) hA22 (by rw [s8]; omega) (by rw [s8, s10]; exact y6) ⟨rfl, y5.1, by omega⟩ (by
        rw [s8, s10]
        rw [un] at c4
        exact c4)
      rw [s8] at hA23 ⊢
      have wF : Fr [] [] [8, 11] [] S22 (su (su S22 11 (4 * (12 + f) + (ar S13 8 (12 + f)).toInt.toNat) (ar S22 6 13)) 8 (12 + f) (ar S13 8 (12 + f) + 1)) := Fr.su (by decide) (Fr.su (by decide) Fr.rf)
      have hKW : KP (12 + f) (4 * (12 + f)) (6 * (12 + f)) S22 (su (su S22 11 (4 * (12 + f) + (ar S13 8 (12 + f)).toInt.toNat) (ar S22 6 13)) 8 (12 + f) (ar S13 8 (12 + f) + 1)) := KP_tr (KP_s2 (by decide) (by omega)) (KP_s1 (by decide) (Nat.le_refl _))
      have q8 : (ar (su (su S22 11 (4 * (12 + f) + (ar S13 8 (12 + f)).toInt.toNat) (ar S22 6 13)) 8 (12 + f) (ar S13 8 (12 + f) + 1)) 8 (12 + f)).toInt = (acc.2.2.2.2.1.length : Int) + 1 := by
        have : ar (su (su S22 11 (4 * (12 + f) + (ar S13 8 (12 + f)).toInt.toNat) (ar S22 6 13)) 8 (12 + f) (ar S13 8 (12 + f) + 1)) 8 = upd (ar (su S22 11 (4 * (12 + f) + (ar S13 8 (12 + f)).toInt.toNat) (ar S22 6 13)) 8) (12 + f) (ar S13 8 (12 + f) + 1) := su_at _ _ _ _
        rw [this, upd_at, inc1 (by omega), e8]
        omega
      have q11 : ar (su (su S22 11 (4 * (12 + f) + (ar S13 8 (12 + f)).toInt.toNat) (ar S22 6 13)) 8 (12 + f) (ar S13 8 (12 + f) + 1)) 11 = upd (ar S22 11) (4 * (12 + f) + (ar S13 8 (12 + f)).toInt.toNat) (ar S22 6 13) := (su_ne (by decide)).trans (su_at _ _ _ _)
      generalize su (su S22 11 (4 * (12 + f) + (ar S13 8 (12 + f)).toInt.toNat) (ar S22 6 13)) 8 (12 + f) (ar S13 8 (12 + f) + 1) = W at hA23 wF hKW q8 q11 ⊢
      have hMW : MAf W (12 + f) (acc.2.2.2.2.1 ++ [(ypAny Z (ypCl Z 8) (acc.2.1 + 1)).2.2.1]) acc.2.2.2.2.2 := by
        have ea : ∀ i, i ≠ 8 → i ≠ 11 → ar W i = ar S22 i := fun i h1 h2 => wF.2.2.1 i (by simp [h1, h2])
        have en := nn_fr wF (by decide)
        have esx : sx W 13 = sx S22 13 := by unfold sx; rw [ea 5 (by decide) (by decide)]
        rw [e8l] at q11 s10
        refine ⟨⟨by rw [q8, List.length_append]; simp only [List.length_cons, List.length_nil]; omega, fun q l hl => ?_⟩, by rw [ea 9 (by decide) (by decide)]; exact hM22.2.1, fun q w hw => ?_⟩
        · rcases gt_app hl with ⟨z0, z1⟩ | ⟨z0, z1⟩
          · obtain ⟨z2, z3⟩ := hM22.1.2 q l z1
            have e11 : ar W 11 (4 * (12 + f) + q) = ar S22 11 (4 * (12 + f) + q) := by rw [q11, upd_ne (by omega)]
            exact ⟨NDx_cg z2 (by rw [ea 10 (by decide) (by decide)]) e11 (fun i _ => by rw [esx]), by rw [e11, en]; exact z3⟩
          · rw [z0, z1]
            have hMO := hG21.2.2.1
            have hn13 := hG13.1.2.2.2.2.2.1
            have e10 : (ar W 10 (4 * (12 + f) + acc.2.2.2.2.1.length)).toInt = nn U := by
              rw [ea 10 (by decide) (by decide), s10, un]
            have e11 : (ar W 11 (4 * (12 + f) + acc.2.2.2.2.1.length)).toInt = nn S22 := by rw [q11, upd_at]
            refine ⟨⟨(nn U).toNat, by rw [e10, un]; omega, by rw [e11, hMO.1, un]; omega, RTx_cg (MO_RT hMO) (fun i _ => by rw [esx])⟩, by rw [e11, en]; exact Int.le_refl _⟩
        · obtain ⟨z2, z3⟩ := hM22.2.2 q w hw
          exact ⟨MKx_cg z2 (by rw [ea 12 (by decide) (by decide)]) (by rw [ea 13 (by decide) (by decide)]) (by rw [ea 14 (by decide) (by decide)]) (by rw [ea 15 (by decide) (by decide)]) (by rw [ea 16 (by decide) (by decide)]) (fun i _ => by rw [esx]), by rw [ea 16 (by decide) (by decide), en]; exact z3⟩
      have hFW : FAx W Z Y rd := FAx_kp hF22 (by omega) hKW.2
      have hNMW : NMx W Z Y (12 + f) (j + 1) := by
        have x17 : ar W 17 = ar S22 17 := wF.2.2.1 17 (by decide)
        have x18 : ar W 18 = ar S22 18 := wF.2.2.1 18 (by decide)
        unfold NMx
        rw [x17, x18]
        exact hNM22
      have hzW : MZ Z Y (ypAny Z (ypCl Z 8) (acc.2.1 + 1)).2.1 W := MZ_fr hG21.2.1 wF (by decide) (by rw [show fi W 14 = fi S22 14 from wF.1 14 (by decide)]; exact hG21.2.1.2.2.2.2.2.2.2.1) (by rw [show fi W 15 = fi S22 15 from wF.1 15 (by decide)]; exact hG21.2.1.2.2.2.2.2.2.2.2)
      have u14 : fi U 14 = fi S13 14 := uF.1 14 (by decide)
      have u15 : fi U 15 = fi S13 15 := uF.1 15 (by decide)
      have w4 : fi W 4 = fi S22 4 := wF.1 4 (by decide)
      have w14 : fi W 14 = fi S22 14 := wF.1 14 (by decide)
      have w15 : fi W 15 = fi S22 15 := wF.1 15 (by decide)
      have w12 : fi W 12 = fi S13 12 := (wF.1 12 (by decide)).trans ((hE22.1.1 12 (by decide)).trans (uF.1 12 (by decide)))
      have hLW := Lx_fr c1 wF (by decide) (by decide)
      have l4 := hLW.2.1
      have l5 := hLW.2.2.1
      have l6 := hLW.2.2.2.1
      have l7 := hE22.2.2.2
      rw [u4] at c2
      refine hk _ _ ⟨rfl, KP_tr hK13 (KP_tr (KP_lo hKU (by omega) (by omega) (by omega)) (KP_tr (EE_kp hE22) hKW)), hLW, by rw [w4]; omega, by rw [w12, f13]; exact t12, by rw [w14, w15]; exact hA23, ?_, by rw [w14, w15]; exact BM_bool bm22 hb13, ⟨hFW, (wF.1 6 (by decide)).trans (hG21.2.2.1.2.2.trans ((uF.1 6 (by decide)).trans ((hN13.1.1 6 (by decide)).trans t6)))⟩, hNMW, ypC1 Z acc, n', by rw [ec]; exact hG21.1, by rw [ec]; exact hzW, ?_, ?_, by rw [ec]; exact hMW, hRn.trans (ypCs_s hacc hkT.2), ?_, ?_, by rw [ec]; exact hl6⟩ (by rw [w4] at *; omega)
      rotate_left
      · rw [ec, w14, hG21.2.2.2.1, u14, b14, orF_or]; rfl
      · rw [ec, w15, hG21.2.2.2.2, u15, b15, orF_or]; rfl
      · rw [ec]
        show n' + (acc.2.2.2.2.1 ++ [_]).length + acc.2.2.2.2.2.length = 11
        rw [List.length_append]
        simp only [List.length_cons, List.length_nil]
        omega
      · rw [ec]
        show (acc.2.2.2.2.1 ++ [_]).length ≤ 4
        rw [List.length_append]
        simp only [List.length_cons, List.length_nil]
        omega
      unfold NA
      have x17 : ar W 17 = ar S13 17 := (wF.2.2.1 17 (by decide)).trans ((hE22.1.2.2.1 17 (by decide)).trans (uF.2.2.1 17 (by decide)))
      have x18 : ar W 18 = ar S13 18 := (wF.2.2.1 18 (by decide)).trans ((hE22.1.2.2.1 18 (by decide)).trans (uF.2.2.1 18 (by decide)))
      rw [x17, x18]; exact hN13'
  have b144 : ((fi T 3).toInt = 302 ∨ (fi T 3).toInt = 303) → w_X12_anAct_B144 post kk (w_X12_anAct_B294 post) T ((12 : Int32) + fi S 12) := by
    intro ht
    unfold w_X12_anAct_B144 w_X12_anAct_B159 w_X12_anAct_B188
    rw [exn]
    refine ⟨fun g2 => ⟨fun _ => ⟨hb12, fun g => b194 0 (by omega) (fun _ => T303.mp (by omega)) (fun h => absurd li_0 h) (fun _ => g) (fun h => absurd li_0 h), fun g => ?_⟩, fun h => absurd li_0 h⟩, fun g2 => ⟨fun h => absurd (h.symm.trans li_1) (by decide), fun _ => ⟨hb12, fun g => b194 1 (by omega) (fun h => absurd (h.symm.trans li_1) (by decide)) (fun _ => T302.mp g2) (fun h => absurd (h.symm.trans li_1) (by decide)) (fun _ => g), fun g => ?_⟩⟩⟩
    · have g6 : (Z.1 acc.2.1).toInt = 6 := T303.mp (by omega)
      have ec := ypC1_6 g6 (by omega)
      have er := x23 (by omega) (by rw [ec]; exact Nat.succ_ne_zero 2)
      exact badT 3 3 (by decide) (by decide) (by rw [er, ec]) (by rw [er, ec])
    · have g5 : (Z.1 acc.2.1).toInt = 5 := T302.mp g2
      have ec := ypC1_4 g5 (by omega)
      have er := x23 (by omega) (by rw [ec]; exact Nat.succ_ne_zero 2)
      exact badT 3 3 (by decide) (by decide) (by rw [er, ec]) (by rw [er, ec])
  unfold w_X12_anAct_F124
  refine ⟨fun g => b144 (Or.inl g), fun gn2 => ⟨fun g => ?_, fun g => b144 (Or.inr g)⟩⟩
  -- the ACT ends
  unfold w_X12_anAct_B294
  rw [exn]
  refine ⟨hb12, hbT.1, hb12, hbT.2, ?_⟩
  have wF : Fr [12] [] [19, 20] [] T (si (su (su T 19 (12 + f) (fi T 14)) 20 (12 + f) (fi T 15)) 12 (fi T 12 + 1)) := Fr.si (by decide) (Fr.su (by decide) (Fr.su (by decide) Fr.rf))
  have hKW : KQ (12 + f) (4 * (12 + f)) (6 * (12 + f)) T (si (su (su T 19 (12 + f) (fi T 14)) 20 (12 + f) (fi T 15)) 12 (fi T 12 + 1)) := (KP_tr (KP_s1 (j := 19) (v := fi T 14) (by decide) (Nat.le_refl _)) (KP_s1 (j := 20) (v := fi T 15) (by decide) (Nat.le_refl _)) : KP (12 + f) (4 * (12 + f)) (6 * (12 + f)) T (su (su T 19 (12 + f) (fi T 14)) 20 (12 + f) (fi T 15))).2
  have w19 : ar (si (su (su T 19 (12 + f) (fi T 14)) 20 (12 + f) (fi T 15)) 12 (fi T 12 + 1)) 19 (12 + f) = fi T 14 := by
    show (si (su (su T 19 (12 + f) (fi T 14)) 20 (12 + f) (fi T 15)) 12 (fi T 12 + 1)).2.2.1 19 (12 + f) = _
    rw [si_2, su_ne (by decide), su_at, upd_at]
  have w20 : ar (si (su (su T 19 (12 + f) (fi T 14)) 20 (12 + f) (fi T 15)) 12 (fi T 12 + 1)) 20 (12 + f) = fi T 15 := by
    show (si (su (su T 19 (12 + f) (fi T 14)) 20 (12 + f) (fi T 15)) 12 (fi T 12 + 1)).2.2.1 20 (12 + f) = _
    rw [si_2, su_at, upd_at]
  have w12 : (fi (si (su (su T 19 (12 + f) (fi T 14)) 20 (12 + f) (fi T 15)) 12 (fi T 12 + 1)) 12).toInt = (f : Int) + 1 := by
    show ((si (su (su T 19 (12 + f) (fi T 14)) 20 (12 + f) (fi T 15)) 12 (fi T 12 + 1)).1 12).toInt = _
    rw [si_at, inc1 (by omega), t12]
  have hzW : MZ Z Y acc.2.1 (si (su (su T 19 (12 + f) (fi T 14)) 20 (12 + f) (fi T 15)) 12 (fi T 12 + 1)) := MZ_fr hzT wF (by decide) (by rw [show fi (si (su (su T 19 (12 + f) (fi T 14)) 20 (12 + f) (fi T 15)) 12 (fi T 12 + 1)) 14 = fi T 14 from wF.1 14 (by decide)]; exact hbT.1) (by rw [show fi (si (su (su T 19 (12 + f) (fi T 14)) 20 (12 + f) (fi T 15)) 12 (fi T 12 + 1)) 15 = fi T 15 from wF.1 15 (by decide)]; exact hbT.2)
  generalize si (su (su T 19 (12 + f) (fi T 14)) 20 (12 + f) (fi T 15)) 12 (fi T 12 + 1) = W at wF hKW w19 w20 w12 hzW ⊢
  have W59 := MZ_t hzW 23 59 (by decide) (by decide)
  have hLW := Lx_fr hLT wF (by decide) (by decide)
  have w4 : fi W 4 = fi T 4 := wF.1 4 (by decide)
  have hKSW := KQ_tr hKT.2 hKW
  have one : ∀ v : Int32, v = 1 → v.toInt = 1 := fun v h => by rw [h]; decide
  have hDW : DA W (12 + f) := by
    refine ⟨?_, by rw [w19]; exact hbT.1, by rw [w20]; exact hbT.2⟩
    have x8 : ar W 8 = ar T 8 := wF.2.2.1 8 (by decide)
    have x9 : ar W 9 = ar T 9 := wF.2.2.1 9 (by decide)
    refine AC_kp hAT (na := 4) (nb := 6) hAT.1.2 hAT.2.1.2 ?_ (by rw [x8]) (by rw [x9]) (fun h => by rw [w19]; exact one _ h) (fun h => by rw [w20]; exact one _ h)
    refine ⟨?_, ?_, ?_, fun j _ y hy => absurd hy (Nat.not_lt_zero _), ?_, ?_⟩
    · rw [nn_fr wF (by decide)]; exact Int.le_refl _
    · intro i _
      show W.2.2.1 5 i = T.2.2.1 5 i
      rw [wF.2.2.1 5 (by decide)]
    · intro i _
      show W.2.2.1 6 i = T.2.2.1 6 i
      rw [wF.2.2.1 6 (by decide)]
    · intro j hj i _
      show W.2.2.1 j i = T.2.2.1 j i
      rw [wF.2.2.1 j (by revert hj; revert j; decide)]
    · intro j hj i _
      show W.2.2.1 j i = T.2.2.1 j i
      rw [wF.2.2.1 j (by revert hj; revert j; decide)]
  have hNW : NA W (12 + f) := by
    unfold NA
    have x17 : ar W 17 = ar T 17 := wF.2.2.1 17 (by decide)
    have x18 : ar W 18 = ar T 18 := wF.2.2.1 18 (by decide)
    rw [x17, x18]; exact hNT
  refine q_needE W _ _ hLW Z Y acc.2.1 hzW 23 (by decide) (by rw [show (59 : Int32).toInt = 59 by decide]; exact W59) (fun r S' hE' hF' hr h' hM' => ⟨hr, k r S' ⟨((hKT.1.wk (by decide) : Fr [2, 3, 4, 5, 6, 7, 9, 10, 11, 12, 14, 15] [] [5, 6, 8, 9, 10, 11, 12, 13, 14, 15, 16, 17, 18, 19, 20] [] S T).tr (wF.wk (by decide))).tr (hE'.1.wk (by decide)), KQ_lo (KQ_tr hKSW (EE_kp hE').2) (by omega) (by omega) (by omega)⟩ hr (fun gr => ?_) ?_⟩)
  rotate_left
  · by_cases g23 : (Z.1 acc.2.1).toInt = 23
    · rw [if_pos g23] at hM'
      rcases hM' with ⟨r1, hGn⟩ | ⟨-, hBn⟩
      · have er : RES = acc := hRn.trans (ypCs_a (Or.inr g23))
        refine Or.inl ⟨r1, g4, by rw [er]; exact hacc, by rw [er]; exact hGn.2.1, hGn.2.2.1.2.2.trans ((wF.1 6 (by decide)).trans t6), ?_⟩
        have hKT' : KQ (12 + f) (4 * (12 + f)) (6 * (12 + f)) T S' := KQ_tr hKW (EE_kp hE').2
        have hFS : FAx S' Z Y rd := FAx_kp hFT (by omega) hKT'
        intro q a ha
        rcases gt_app ha with ⟨z0, z1⟩ | ⟨z0, z1⟩
        · exact hFS q a z1
        · have eq : 12 + q = 12 + f := by omega
          rw [eq, z1, er]
          have ej : ∀ i, i ∈ [8, 9, 17, 18, 19, 20] → ar S' i = ar W i := fun i hi => hF'.2.2.1 i (by simp)
          have wj : ∀ i, i ∉ [19, 20] → ar W i = ar T i := fun i hi => wF.2.2.1 i hi
          refine ⟨⟨j + 1, ?_, rfl⟩, ?_, ?_, ⟨hl4, hl6⟩, ?_⟩
          · unfold NMx
            rw [ej 17 (by decide), ej 18 (by decide), wj 17 (by decide), wj 18 (by decide)]
            exact hNMT
          · rw [ej 19 (by decide), w19, a14]; rfl
          · rw [ej 20 (by decide), w20, a15]; rfl
          · have ea : ∀ i, i ∉ [19, 20] → ar S' i = ar T i := fun i hi => (hF'.2.2.1 i (by simp)).trans (wj i hi)
            refine MAf_kp (na := 4) (nb := 6) hMT hl4 hl6 ⟨?_, fun i _ => by rw [ea 5 (by decide)], fun i _ => by rw [ea 6 (by decide)], fun i _ y hy => absurd hy (Nat.not_lt_zero _), fun i hi y _ => ?_, fun i hi y _ => ?_⟩ (by rw [ea 8 (by decide)]) (by rw [ea 9 (by decide)])
            · show (ar T 6 13).toInt ≤ (ar S' 6 13).toInt
              rw [ea 6 (by decide)]; exact Int.le_refl _
            · rw [ea i (by revert hi; revert i; decide)]
            · rw [ea i (by revert hi; revert i; decide)]
      · exact absurd (show (ypOk (acc.2.1 + 1)).1 = 0 from rfl) hBn.1
    · rw [if_neg g23] at hM'
      have ec := ypC1_1 (fun q => gn2 (T302.mpr q)) (fun q => g (T303.mpr q))
      have er := x23 g23 (by rw [ec]; exact Nat.succ_ne_zero 0)
      rcases hM' with ⟨-, hGn⟩ | ⟨r0, hBn⟩
      · exact absurd hGn.1 (Nat.succ_ne_zero 0)
      · exact Or.inr ⟨r0, by rw [er, ec]; exact hBn⟩
  have hG := h' gr
  have z := hG.2.2.1
  have e12 : fi S' 12 = fi W 12 := hF'.1 12 (by decide)
  refine ⟨hG.1, by rw [w4] at z; omega, by rw [e12, w12]; omega, by omega, fun y hy1 hy2 => ?_⟩
  by_cases e : y = 12 + f
  · subst e
    exact ⟨DA_kp (x := 12 + f + 1) (by omega) (EE_kp hE').2 hDW, NA_kp (x := 12 + f + 1) (b := 0) (c := 0) (by omega) (EE_kp hE').2 hNW⟩
  · have := hD y hy1 (by omega)
    exact ⟨DA_kp (x := 12 + f) (by omega) (KQ_tr hKSW (EE_kp hE').2) this.1, NA_kp (x := 12 + f) (by omega) (KQ_tr hKSW (EE_kp hE').2) this.2⟩
