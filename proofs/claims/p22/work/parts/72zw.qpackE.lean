theorem lg_one {v : Int64} (h : 0 ≤ v.toInt) : ((lg_cmp (v &&& 1) 1).toInt = 0 → v.toInt % 2 = 1) ∧ ((lg_cmp (v &&& 1) 1).toInt ≠ 0 → v.toInt % 2 = 0) := by
  have e := l_an (v := v) (c := 1) (s := 1) (m := 2) (by decide +kernel) rfl (by decide) h
  have e1 : ((1 : Int64)).toInt = 1 := by decide
  refine ⟨fun g => ?_, fun g => ?_⟩
  · have e2 := lg_eq g
    rw [e2, e1] at e
    omega
  · by_cases q : v.toInt % 2 = 0
    · exact q
    · exfalso
      apply g
      have e3 : (v &&& 1) = 1 := by
        apply Int64.toInt_inj.mp
        rw [e, e1]
        omega
      rw [e3]
      decide
/-- the numbers of p, c PAIRS of them, laid behind v -/
def pkC (g : SV) (v : Int) (p : Nat) : Nat → Int
  | 0 => ((v * 16 + (g p).toInt) * 4 + (g (40 + p)).toInt) * 2 + (g (20 + (3 * p + (p + 1) % 3))).toInt
  | c + 1 => (pkC g v p c * 8 + (g (10 + (3 * p + (p + 1 + c) % 3))).toInt) * 2 + (g (30 + (3 * p + (p + 1 + c) % 3))).toInt
theorem pkC_2 (g : SV) (v : Int) (p : Nat) : pkC g v p 2 = pkS g v p := rfl
theorem pkC_b {g : SV} (hG : GV g) {p : Nat} (hp : p < 3) {v B : Int} (hv : 0 ≤ v ∧ v < B) : (0 ≤ pkC g v p 0 ∧ pkC g v p 0 < B * 128) ∧ (0 ≤ pkC g v p 1 ∧ pkC g v p 1 < B * 2048) ∧ (0 ≤ pkC g v p 2 ∧ pkC g v p 2 < B * 32768) := by
  have a1 := hG.1 p hp
  have a2 := hG.2.2.1 p hp
  have a3 := hG.2.1 (3 * p + (p + 1) % 3) (by omega)
  have a4 := hG.2.1 (3 * p + (p + 2) % 3) (by omega)
  have b3 := b01 a3.2.1
  have c3 := b01 a3.2.2
  have c4 := b01 a4.2.2
  have h0 : 0 ≤ pkC g v p 0 ∧ pkC g v p 0 < B * 128 := by
    show 0 ≤ ((v * 16 + (g p).toInt) * 4 + (g (40 + p)).toInt) * 2 + (g (20 + (3 * p + (p + 1) % 3))).toInt ∧ ((v * 16 + (g p).toInt) * 4 + (g (40 + p)).toInt) * 2 + (g (20 + (3 * p + (p + 1) % 3))).toInt < B * 128
    omega
  have h1 : 0 ≤ pkC g v p 1 ∧ pkC g v p 1 < B * 2048 := by
    show 0 ≤ (pkC g v p 0 * 8 + (g (10 + (3 * p + (p + 1) % 3))).toInt) * 2 + (g (30 + (3 * p + (p + 1) % 3))).toInt ∧ (pkC g v p 0 * 8 + (g (10 + (3 * p + (p + 1) % 3))).toInt) * 2 + (g (30 + (3 * p + (p + 1) % 3))).toInt < B * 2048
    generalize pkC g v p 0 = w at *
    omega
  refine ⟨h0, h1, ?_⟩
  show 0 ≤ (pkC g v p 1 * 8 + (g (10 + (3 * p + (p + 2) % 3))).toInt) * 2 + (g (30 + (3 * p + (p + 2) % 3))).toInt ∧ (pkC g v p 1 * 8 + (g (10 + (3 * p + (p + 2) % 3))).toInt) * 2 + (g (30 + (3 * p + (p + 2) % 3))).toInt < B * 32768
  generalize pkC g v p 1 = w at *
  omega
theorem pkP_r {g : SV} (hG : GV g) {n : Nat} (hn : n < 3) : 0 ≤ pkP g n ∧ pkP g n < 17179869184 := by
  obtain ⟨h0, h1, h2, -⟩ := pkP_b hG
  rcases (show n = 0 ∨ n = 1 ∨ n = 2 by omega) with rfl | rfl | rfl
  · omega
  · omega
  · exact h2
theorem i01 {f : Int32} {post : Int64 → Prop} (h : f = 0 ∨ f = 1) (k : ∀ y : Int64, y.toInt = f.toInt → post y) : (f.toInt = 0 → post 0) ∧ (f.toInt ≠ 0 → post 1) := by
  rcases h with rfl | rfl
  · exact ⟨fun _ => k 0 (by decide), fun q => absurd li_0 q⟩
  · exact ⟨fun q => absurd q (by decide), fun _ => k 1 (by decide)⟩
set_option maxHeartbeats 1000000 in
theorem q_packsE (S : GS) (post : Int64 → GS → Prop) (g : SV) (hR : RS S g) (hG : GV g) (k : ∀ v : Int64, v.toInt = pkI g → post v S) : w_X12_packs S post := by
  unfold w_X12_packs
  refine lr3 (fun (T : GS) (v : Int64) (j : Int32) => T = S ∧ ∃ n : Nat, n ≤ 3 ∧ j.toInt = (n : Int) ∧ v.toInt = pkP g n) (fun _ _ j => (3 - j.toInt).toNat) ?_ _ _ _ ⟨rfl, 0, by omega, li_0, by rw [l_32, hR.2.2.2] <;> rfl⟩
  rintro kk T v j ⟨rfl, n, hn, hj, hv⟩ hk
  unfold w_X12_packs_F8
  refine ⟨fun h => k _ (by have e3 : n = 3 := (by omega); rw [e3] at hv; exact hv), fun h => ⟨by omega, by omega, ?_⟩⟩
  have hn2 : n < 3 := by omega
  have ej := inc1 (x := j) (by omega)
  have hb := pkP_r hG hn2
  obtain ⟨c0, c1, c2⟩ := pkC_b hG hn2 hb
  have a1 := hG.1 n hn2
  have a2 := hG.2.2.1 n hn2
  have jn : j.toNatClampNeg = n := by rw [tnc]; omega
  have idx : ∀ (r : Int32) (c : Nat), c < 3 → r.toInt = (j.toInt + 1 + (c : Int)) % 3 → (((3 : Int32) * j) + r).toInt = ((3 * n + (n + 1 + c) % 3 : Nat) : Int) ∧ (((3 : Int32) * j) + r).toNatClampNeg = 3 * n + (n + 1 + c) % 3 := by
    intro r c hc hr
    have e := ma_3 (p := j) (q := r) (by omega) (by omega)
    have e2 : (((3 : Int32) * j) + r).toInt = ((3 * n + (n + 1 + c) % 3 : Nat) : Int) := by rw [e]; omega
    exact ⟨e2, by rw [tnc, e2]; exact Int.toNat_natCast _⟩
  refine q_other _ _ _ _ (by omega) (by decide) (fun r hr => ?_)
  obtain ⟨x1, x2⟩ := idx r 0 (by decide) (by rw [hr, li_0] <;> rfl)
  have hg := hG.2.1 (3 * n + (n + 1 + 0) % 3) (by omega)
  rw [x1, x2, jn, (hR.2.1 n ((n + 1 + 0) % 3) hn2 (by omega) (by omega)).2.1, hR.1 n hn2, hR.2.2.1 n hn2]
  refine ⟨by omega, i01 (post := fun y => w_X12_packs_B62 post kk (w_X12_packs_B134 post) T j y (((((v <<< ((4 : Int32).toInt64 &&& 63)) ||| (g n).toInt64) <<< ((2 : Int32).toInt64 &&& 63)) ||| (g (40 + n)).toInt64) <<< ((1 : Int32).toInt64 &&& 63))) hg.2.1 (fun y0 hy0 => ?_)⟩
  show w_X12_packs_B62 post kk (w_X12_packs_B134 post) T j y0 (((((v <<< ((4 : Int32).toInt64 &&& 63)) ||| (g n).toInt64) <<< ((2 : Int32).toInt64 &&& 63)) ||| (g (40 + n)).toInt64) <<< ((1 : Int32).toInt64 &&& 63))
  unfold w_X12_packs_B62
  have s1 := l_sho (v := v) (k := ((4 : Int32).toInt64 &&& 63)) (x := (g n).toInt64) (s := 4) (m := 16) (by decide +kernel) rfl (by omega) (by omega) (by rw [l_32]; omega) (by decide)
  rw [l_32, hv] at s1
  generalize ((v <<< ((4 : Int32).toInt64 &&& 63)) ||| (g n).toInt64) = v1 at s1 ⊢
  have s2 := l_sho (v := v1) (k := ((2 : Int32).toInt64 &&& 63)) (x := (g (40 + n)).toInt64) (s := 2) (m := 4) (by decide +kernel) rfl (by omega) (by omega) (by rw [l_32]; omega) (by decide)
  rw [l_32, s1] at s2
  generalize ((v1 <<< ((2 : Int32).toInt64 &&& 63)) ||| (g (40 + n)).toInt64) = v2 at s2 ⊢
  have by0 := b01 hg.2.1
  have s3 := l_sho (v := v2) (k := ((1 : Int32).toInt64 &&& 63)) (x := y0) (s := 1) (m := 2) (by decide +kernel) rfl (by omega) (by omega) (by omega) (by decide)
  rw [s2, hy0] at s3
  have s3' : ((v2 <<< ((1 : Int32).toInt64 &&& 63)) ||| y0).toInt = pkC g (pkP g n) n 0 := s3
  clear s1 s2 s3
  generalize ((v2 <<< ((1 : Int32).toInt64 &&& 63)) ||| y0) = v3 at s3' ⊢
  clear v1 v2
  refine lr4 (fun (U : GS) (w : Int64) (i x : Int32) => U = T ∧ i = j ∧ ∃ c : Nat, c ≤ 2 ∧ x.toInt = (c : Int) ∧ w.toInt = pkC g (pkP g n) n c) (fun _ _ _ x => (2 - x.toInt).toNat) ?_ _ _ _ _ ⟨rfl, rfl, 0, by omega, li_0, s3'⟩
  rintro kk2 U w i x ⟨rfl, rfl, c, hc, hx, hw⟩ hk2
  unfold w_X12_packs_F67 w_X12_packs_B128 w_X12_packs_B120
  refine ⟨fun q => ?_, fun q => ?_⟩
  · obtain rfl : c = 2 := by omega
    exact hk _ _ _ ⟨rfl, n + 1, by omega, by rw [ej]; omega, hw⟩ (by rw [ej]; omega)
  · have hc2 : c < 2 := by omega
    have ex := inc1 (x := x) (by omega)
    have hwb : 0 ≤ w.toInt ∧ w.toInt < 35184372088832 := by
      rcases (show c = 0 ∨ c = 1 by omega) with rfl | rfl
      · omega
      · omega
    have hg := hG.2.1 (3 * n + (n + 1 + c) % 3) (by omega)
    have by0 := b01 hg.2.2
    have hR2 := hR.2.1 n ((n + 1 + c) % 3) hn2 (by omega) (by omega)
    refine q_other _ _ _ _ (by omega) (by omega) (fun r hr => ?_)
    obtain ⟨y1, y2⟩ := idx r c (by omega) (by rw [hr, hx])
    rw [y1, y2]
    refine ⟨by omega, q_other _ _ _ _ (by omega) (by omega) (fun r2 hr2 => ?_)⟩
    obtain ⟨z1, z2⟩ := idx r2 c (by omega) (by rw [hr2, hx])
    rw [z1, z2, hR2.1, hR2.2.2]
    refine ⟨by omega, i01 (post := fun y => kk2 U ((((w <<< ((3 : Int32).toInt64 &&& 63)) ||| (g (10 + (3 * n + (n + 1 + c) % 3))).toInt64) <<< ((1 : Int32).toInt64 &&& 63)) ||| y) i (x + 1)) hg.2.2 (fun y hy => hk2 _ _ _ _ ⟨rfl, rfl, c + 1, by omega, by rw [ex]; omega, ?_⟩ (by rw [ex]; omega))⟩
    have s1 := l_sho (v := w) (k := ((3 : Int32).toInt64 &&& 63)) (x := (g (10 + (3 * n + (n + 1 + c) % 3))).toInt64) (s := 3) (m := 8) (by decide +kernel) rfl (by omega) (by omega) (by rw [l_32]; omega) (by decide)
    rw [l_32] at s1
    generalize ((w <<< ((3 : Int32).toInt64 &&& 63)) ||| (g (10 + (3 * n + (n + 1 + c) % 3))).toInt64) = w1 at s1 ⊢
    have s2 := l_sho (v := w1) (k := ((1 : Int32).toInt64 &&& 63)) (x := y) (s := 1) (m := 2) (by decide +kernel) rfl (by omega) (by omega) (by omega) (by decide)
    rw [s1, hy, hw] at s2
    exact s2
/-- the numbers of p have been taken -/
def TKp (T : GS) (g : SV) (p : Nat) : Prop := ar T 0 p = g p ∧ ar T 2 p = g (40 + p) ∧ (∀ c, c < 2 → ar T 1 (3 * p + (p + 1 + c) % 3) = g (10 + (3 * p + (p + 1 + c) % 3)) ∧ ar T 4 (3 * p + (p + 1 + c) % 3) = g (30 + (3 * p + (p + 1 + c) % 3))) ∧ ar T 3 (3 * p + (p + 1) % 3) = g (20 + (3 * p + (p + 1) % 3)) ∧ ar T 3 (3 * ((p + 1) % 3) + p) = g (20 + (3 * p + (p + 1) % 3))
theorem RS_tk {T : GS} {g : SV} (hW : GW g) (h0 : TKp T g 0) (h1 : TKp T g 1) (h2 : TKp T g 2) (h5 : fi T 0 = g 50) : RS T g := by
  obtain ⟨a1, a2, a3, a4, a5⟩ := h0
  obtain ⟨b1, b2, b3, b4, b5⟩ := h1
  obtain ⟨c1, c2, c3, c4, c5⟩ := h2
  refine ⟨fun p hp => ?_, fun p q hp hq hpq => ?_, fun t ht => ?_, h5⟩
  · rcases (show p = 0 ∨ p = 1 ∨ p = 2 by omega) with rfl | rfl | rfl
    · exact a1
    · exact b1
    · exact c1
  · rcases (show (p = 0 ∧ q = 1) ∨ (p = 0 ∧ q = 2) ∨ (p = 1 ∧ q = 2) ∨ (p = 1 ∧ q = 0) ∨ (p = 2 ∧ q = 0) ∨ (p = 2 ∧ q = 1) by omega) with ⟨rfl, rfl⟩ | ⟨rfl, rfl⟩ | ⟨rfl, rfl⟩ | ⟨rfl, rfl⟩ | ⟨rfl, rfl⟩ | ⟨rfl, rfl⟩
    · exact ⟨(a3 0 (by decide)).1, a4, (a3 0 (by decide)).2⟩
    · exact ⟨(a3 1 (by decide)).1, c5.trans (hW 2 0 (by decide) (by decide)), (a3 1 (by decide)).2⟩
    · exact ⟨(b3 0 (by decide)).1, b4, (b3 0 (by decide)).2⟩
    · exact ⟨(b3 1 (by decide)).1, a5.trans (hW 0 1 (by decide) (by decide)), (b3 1 (by decide)).2⟩
    · exact ⟨(c3 0 (by decide)).1, c4, (c3 0 (by decide)).2⟩
    · exact ⟨(c3 1 (by decide)).1, b5.trans (hW 1 2 (by decide) (by decide)), (c3 1 (by decide)).2⟩
  · rcases (show t = 0 ∨ t = 1 ∨ t = 2 by omega) with rfl | rfl | rfl
    · exact a2
    · exact b2
    · exact c2
theorem l_32i {v : Int64} {x : Int32} (h : v.toInt = x.toInt) : v.toInt32 = x := by
  apply i_eq
  have hb := x.toInt_lt
  have ha := x.le_toInt
  rw [l_int (by omega) (by omega)]
  exact h
theorem tk_ix {p c : Nat} {j r : Int32} (hp : p < 3) (hj : j.toInt = (p : Int)) (hc : c < 3) (hr : r.toInt = (j.toInt + 1 + (c : Int)) % 3) : (((3 : Int32) * j) + r).toInt = ((3 * p + (p + 1 + c) % 3 : Nat) : Int) ∧ (((3 : Int32) * j) + r).toNatClampNeg = 3 * p + (p + 1 + c) % 3 := by
  have e := ma_3 (p := j) (q := r) (by omega) (by omega)
  have e2 : (((3 : Int32) * j) + r).toInt = ((3 * p + (p + 1 + c) % 3 : Nat) : Int) := by rw [e]; omega
  exact ⟨e2, by rw [tnc, e2]; exact Int.toNat_natCast _⟩
theorem tk_iy {p : Nat} {j r : Int32} (hp : p < 3) (hj : j.toInt = (p : Int)) (hr : r.toInt = (j.toInt + 1) % 3) : (((3 : Int32) * r) + j).toInt = ((3 * ((p + 1) % 3) + p : Nat) : Int) ∧ (((3 : Int32) * r) + j).toNatClampNeg = 3 * ((p + 1) % 3) + p := by
  have e := ma_3 (p := r) (q := j) (by omega) (by omega)
  have e2 : (((3 : Int32) * r) + j).toInt = ((3 * ((p + 1) % 3) + p : Nat) : Int) := by rw [e]; omega
  exact ⟨e2, by rw [tnc, e2]; exact Int.toNat_natCast _⟩
theorem tk_9 : ∀ p, p < 3 → ∀ c, c < 3 → 3 * p + (p + 1 + c) % 3 < 9 ∧ 3 * ((p + 1) % 3) + p < 9 := by decide +kernel
theorem tk_n : ∀ p, p < 3 → ∀ q, q < 3 → 3 * p + (p + 1) % 3 ≠ 3 * ((q + 1) % 3) + q ∧ (q ≠ p → 3 * q + (q + 1) % 3 ≠ 3 * p + (p + 1) % 3 ∧ 3 * ((q + 1) % 3) + q ≠ 3 * ((p + 1) % 3) + p) := by decide +kernel
theorem tk_m {p c q c' : Nat} (hp : p < 3) (hc : c < 3) (hq : q < 3) (hc' : c' < 3) (h : q ≠ p ∨ c' ≠ c) : 3 * q + (q + 1 + c') % 3 ≠ 3 * p + (p + 1 + c) % 3 := by
  intro e
  have a : q = p := by omega
  subst a
  omega
theorem tk_d : ∀ p, p < 3 → ∀ d, d < 2 → ¬ (3 * p + (p + 1 + d) % 3 = 0 ∨ 3 * p + (p + 1 + d) % 3 = 4 ∨ 3 * p + (p + 1 + d) % 3 = 8) := by decide +kernel
theorem rx_0 {w P a b c : Int} (hw : w = ((P * 16 + a) * 4 + b) * 2 + c) (ha : 0 ≤ a ∧ a ≤ 15) (hb : 0 ≤ b ∧ b ≤ 3) (hc : 0 ≤ c ∧ c ≤ 1) : w % 2 = c ∧ w / 2 % 4 = b ∧ w / 8 % 16 = a ∧ w / 128 = P := by
  subst hw
  refine ⟨by omega, by omega, by omega, by omega⟩
theorem rx_1 {w C a b : Int} (hw : w = (C * 8 + a) * 2 + b) (ha : 0 ≤ a ∧ a ≤ 7) (hb : 0 ≤ b ∧ b ≤ 1) : w % 2 = b ∧ w / 2 % 8 = a ∧ w / 16 = C := by
  subst hw
  refine ⟨by omega, by omega, by omega⟩
set_option maxHeartbeats 1000000 in
theorem q_takesE (S : GS) (v : Int64) (post : GS → Prop) (g : SV) (hG : GV g) (hW : GW g) (hv : v.toInt = pkI g) (k : ∀ S', Fr [0] [] [0, 1, 2, 3, 4] [] S S' → RS S' g → (BR S → BR S') → post S') : w_X12_takes S v post := by
  unfold w_X12_takes
  refine lr3 (fun (T : GS) (v : Int64) (j : Int32) => Fr [0] [] [0, 1, 2, 3, 4] [] S T ∧ (BR S → BR T) ∧ ∃ n : Nat, n ≤ 3 ∧ j.toInt = (n : Int) - 1 ∧ v.toInt = pkP g n ∧ ∀ p, n ≤ p → p < 3 → TKp T g p) (fun _ _ j => (j.toInt + 1).toNat) ?_ _ _ _ ⟨Fr.rf, id, 3, by omega, by decide, hv, fun p h1 h2 => by exfalso; omega⟩
  rintro kk T v j ⟨hF, hd, n, hn, hj, hv, hT⟩ hk
  unfold w_X12_takes_F5
  refine ⟨fun h => ?_, fun h => ?_⟩
  · obtain rfl : n = 0 := by omega
    unfold w_X12_takes_B181
    have e0 : fi (si T 0 v.toInt32) 0 = g 50 := (si_at _ _ _).trans (l_32i hv)
    exact k _ (Fr.si (by decide) hF) (RS_tk hW (hT 0 (by decide) (by decide)) (hT 1 (by decide) (by decide)) (hT 2 (by decide) (by decide)) e0) (fun b => BR.si (hd b))
  obtain ⟨p, rfl⟩ : ∃ p, n = p + 1 := ⟨n - 1, by omega⟩
  have hp : p < 3 := by omega
  have hjp : j.toInt = (p : Int) := by omega
  clear hj h
  have hb := pkP_r hG hp
  obtain ⟨c0, c1, c2⟩ := pkC_b hG hp hb
  have a1 := hG.1 p hp
  have a2 := hG.2.2.1 p hp
  have jn : j.toNatClampNeg = p := by rw [tnc]; omega
  have ej : (j + (-1)).toInt = j.toInt - 1 := dec1 (by omega)
  have pos : ∀ c, c ≤ 2 → 0 ≤ pkC g (pkP g p) p c := by
    intro c hc
    rcases (show c = 0 ∨ c = 1 ∨ c = 2 by omega) with rfl | rfl | rfl
    · exact c0.1
    · exact c1.1
    · exact c2.1
  clear c0 c1 c2 hb
  refine lr4 (fun (U : GS) (w : Int64) (i x : Int32) => i = j ∧ Fr [0] [] [0, 1, 2, 3, 4] [] S U ∧ (BR S → BR U) ∧ (∀ q, p + 1 ≤ q → q < 3 → TKp U g q) ∧ ∃ c : Nat, c ≤ 2 ∧ x.toInt = (c : Int) - 1 ∧ w.toInt = pkC g (pkP g p) p c ∧ ∀ c', c ≤ c' → c' < 2 → ar U 1 (3 * p + (p + 1 + c') % 3) = g (10 + (3 * p + (p + 1 + c') % 3)) ∧ ar U 4 (3 * p + (p + 1 + c') % 3) = g (30 + (3 * p + (p + 1 + c') % 3))) (fun _ _ _ x => (x.toInt + 1).toNat) ?_ _ _ _ _ ⟨rfl, hF, hd, hT, 2, by omega, by decide, hv, fun c' h1 h2 => by exfalso; omega⟩
  rintro kk2 U w i x ⟨rfl, uF, ud, uT, c, hc, hx, hw, hC⟩ hk2
  unfold w_X12_takes_F13
  have hw0 : 0 ≤ w.toInt := by rw [hw]; exact pos c hc
  have kw : Nonempty (w.toInt = pkC g (pkP g p) p c) := ⟨hw⟩
  clear hv hw
  have hi2 : 0 ≤ i.toInt ∧ i.toInt ≤ 2 := by omega
  refine ⟨fun h => ?_, fun h => ?_⟩
  · obtain rfl : c = 0 := by omega
    obtain ⟨hw⟩ := kw
    have hw' : w.toInt = ((pkP g p * 16 + (g p).toInt) * 4 + (g (40 + p)).toInt) * 2 + (g (20 + (3 * p + (p + 1) % 3))).toInt := hw
    obtain ⟨h2, r0, r3, r7⟩ := rx_0 hw' a1 a2 (b01 (hG.2.1 (3 * p + (p + 1) % 3) (tk_9 p hp 0 (by decide)).1).2.1)
    have t9 : 3 * p + (p + 1) % 3 < 9 := (tk_9 p hp 0 (by decide)).1
    have t9' := (tk_9 p hp 0 (by decide)).2
    clear hw hw' a1 a2
    unfold w_X12_takes_B83
    refine q_other _ _ _ _ (by omega) (by decide) (fun r hr => ?_)
    rw [li_0] at hr
    obtain ⟨x1, x2⟩ := tk_ix (c := 0) hp hjp (by decide) (by rw [hr] <;> rfl)
    have x1' : (((3 : Int32) * i) + r).toInt = ((3 * p + (p + 1) % 3 : Nat) : Int) := x1
    have x2' : (((3 : Int32) * i) + r).toNatClampNeg = 3 * p + (p + 1) % 3 := x2
    obtain ⟨y1, y2⟩ := tk_iy hp hjp (by rw [hr, Int.add_zero])
    have own : ((w >>> ((1 : Int32).toInt64 &&& 63)) &&& 3).toInt32 = g (40 + p) := by
      have q1 := l_shr (v := w) (k := ((1 : Int32).toInt64 &&& 63)) (s := 1) (m := 2) (by decide +kernel) rfl hw0
      generalize (w >>> ((1 : Int32).toInt64 &&& 63)) = w1 at q1 ⊢
      have q2 := l_an (v := w1) (c := 3) (s := 2) (m := 4) (by decide +kernel) rfl (by decide) (by omega)
      exact l_32i (by rw [q2, q1]; exact r0)
    have cn : ((w >>> ((3 : Int32).toInt64 &&& 63)) &&& 15).toInt32 = g p := by
      have q1 := l_shr (v := w) (k := ((3 : Int32).toInt64 &&& 63)) (s := 3) (m := 8) (by decide +kernel) rfl hw0
      generalize (w >>> ((3 : Int32).toInt64 &&& 63)) = w1 at q1 ⊢
      have q2 := l_an (v := w1) (c := 15) (s := 4) (m := 16) (by decide +kernel) rfl (by decide) (by omega)
      exact l_32i (by rw [q2, q1]; exact r3)
    have nx : (w >>> ((7 : Int32).toInt64 &&& 63)).toInt = pkP g p := by
      rw [l_shr (v := w) (k := ((7 : Int32).toInt64 &&& 63)) (s := 7) (m := 128) (by decide +kernel) rfl hw0]
      exact r7
    have fin : ∀ y : Int32, (y = 0 ∨ y = 1) → y = g (20 + (3 * p + (p + 1) % 3)) → w_X12_takes_B115 post kk (w_X12_takes_B181 post) U w i r y (3 * i + r) := by
      intro y hy hyg
      unfold w_X12_takes_B115
      rw [x1', x2', y1, y2, upd_at, own, cn, jn]
      refine ⟨by omega, hy, by omega, by omega, hy, by omega, by omega, ?_⟩
      have eU : ∃ V, V = su (su (su (su U 3 (3 * p + (p + 1) % 3) y) 3 (3 * ((p + 1) % 3) + p) y) 2 p (g (40 + p))) 0 p (g p) := ⟨_, rfl⟩
      obtain ⟨V, eV⟩ := eU
      rw [← eV]
      have v0 : ar V 0 = upd (ar U 0) p (g p) := by
        show V.2.2.1 0 = upd (U.2.2.1 0) p (g p)
        rw [eV, su_at, su_ne (by decide), su_ne (by decide), su_ne (by decide)]
      have v2 : ar V 2 = upd (ar U 2) p (g (40 + p)) := by
        show V.2.2.1 2 = upd (U.2.2.1 2) p (g (40 + p))
        rw [eV, su_ne (by decide), su_at, su_ne (by decide), su_ne (by decide)]
      have v3 : ar V 3 = upd (upd (ar U 3) (3 * p + (p + 1) % 3) y) (3 * ((p + 1) % 3) + p) y := by
        show V.2.2.1 3 = upd (upd (U.2.2.1 3) (3 * p + (p + 1) % 3) y) (3 * ((p + 1) % 3) + p) y
        rw [eV, su_ne (by decide), su_ne (by decide), su_at, su_at]
      have v1 : ar V 1 = ar U 1 := by
        show V.2.2.1 1 = U.2.2.1 1
        rw [eV, su_ne (by decide), su_ne (by decide), su_ne (by decide), su_ne (by decide)]
      have v4 : ar V 4 = ar U 4 := by
        show V.2.2.1 4 = U.2.2.1 4
        rw [eV, su_ne (by decide), su_ne (by decide), su_ne (by decide), su_ne (by decide)]
      have vF : Fr [0] [] [0, 1, 2, 3, 4] [] S V := by
        rw [eV]; exact Fr.su (by decide) (Fr.su (by decide) (Fr.su (by decide) (Fr.su (by decide) uF)))
      have vB : BR S → BR V := fun b => by
        rw [eV]; exact BR.sn (by decide) (BR.sn (by decide) (BR.s3 hy (BR.s3 hy (ud b))))
      clear eV
      refine hk _ _ _ ⟨vF, vB, p, by omega, by rw [ej]; omega, nx, fun q q1 q2 => ?_⟩ (by rw [ej]; omega)
      unfold TKp
      rw [v0, v1, v2, v3, v4]
      by_cases eq : q = p
      · rw [eq]
        refine ⟨upd_at _ _ _, upd_at _ _ _, fun c' hc' => hC c' (by omega) hc', ?_, by rw [upd_at]; exact hyg⟩
        rw [upd_ne (tk_n p hp p hp).1, upd_at]
        exact hyg
      · obtain ⟨t0, t2, tc, t3, t3'⟩ := uT q (by omega) q2
        refine ⟨by rw [upd_ne eq]; exact t0, by rw [upd_ne eq]; exact t2, tc, ?_, ?_⟩
        · rw [upd_ne (tk_n q q2 p hp).1, upd_ne ((tk_n p hp q q2).2 eq).1]; exact t3
        · rw [upd_ne ((tk_n p hp q q2).2 eq).2, upd_ne (tk_n p hp q q2).1.symm]; exact t3'
    exact ⟨fun q => fin 0 (Or.inl rfl) (i_eq (by rw [← h2, (lg_one hw0).2 q]; exact li_0)), fun q => fin 1 (Or.inr rfl) (i_eq (by rw [← h2, (lg_one hw0).1 q]; exact li_1))⟩
  · obtain ⟨d, rfl⟩ : ∃ d, c = d + 1 := ⟨c - 1, by omega⟩
    have hd2 : d < 2 := by omega
    have hxd : x.toInt = (d : Int) := by omega
    have hx01 : 0 ≤ x.toInt ∧ x.toInt ≤ 1 := by omega
    have hd3 : d < 3 := by omega
    clear hx
    have t9 : 3 * p + (p + 1 + d) % 3 < 9 := (tk_9 p hp d hd3).1
    have b9 : 0 ≤ ((3 * p + (p + 1 + d) % 3 : Nat) : Int) ∧ ((3 * p + (p + 1 + d) % 3 : Nat) : Int) < 9 := by omega
    clear ej
    obtain ⟨hw⟩ := kw
    have hw' : w.toInt = (pkC g (pkP g p) p d * 8 + (g (10 + (3 * p + (p + 1 + d) % 3))).toInt) * 2 + (g (30 + (3 * p + (p + 1 + d) % 3))).toInt := hw
    have hg := hG.2.1 (3 * p + (p + 1 + d) % 3) t9
    obtain ⟨C, hC0⟩ : ∃ C : Int, C = pkC g (pkP g p) p d := ⟨_, rfl⟩
    rw [← hC0] at hw'
    have kq : Nonempty (w.toInt % 2 = (g (30 + (3 * p + (p + 1 + d) % 3))).toInt ∧ w.toInt / 2 % 8 = (g (10 + (3 * p + (p + 1 + d) % 3))).toInt ∧ w.toInt / 16 = C) := ⟨rx_1 hw' hg.1 (b01 hg.2.2)⟩
    have kC : Nonempty (C = pkC g (pkP g p) p d) := ⟨hC0⟩
    clear hw hw' a1 a2 hg hC0
    refine q_other _ _ _ _ hi2 hx01 (fun r hr => ?_)
    obtain ⟨x1, x2⟩ := tk_ix (c := d) hp hjp hd3 (by rw [hr, hxd])
    have fin : ∀ y : Int32, (y = 0 ∨ y = 1) → y = g (30 + (3 * p + (p + 1 + d) % 3)) → w_X12_takes_B47 post kk2 (w_X12_takes_B83 post kk (w_X12_takes_B181 post)) U w i x y (3 * i + r) := by
      intro y hy hyg
      unfold w_X12_takes_B47
      rw [x1, x2]
      refine ⟨by first | exact b9 | omega, hy, q_other _ _ _ _ hi2 hx01 (fun r2 hr2 => ?_)⟩
      obtain ⟨z1, z2⟩ := tk_ix (c := d) hp hjp hd3 (by rw [hr2, hxd])
      rw [z1, z2]
      clear z1 z2 x1 x2 hr hr2
      have dv : ((w >>> ((1 : Int32).toInt64 &&& 63)) &&& 7).toInt32 = g (10 + (3 * p + (p + 1 + d) % 3)) := by
        obtain ⟨-, dd, -⟩ := kq.elim id
        have q1 := l_shr (v := w) (k := ((1 : Int32).toInt64 &&& 63)) (s := 1) (m := 2) (by decide +kernel) rfl hw0
        generalize (w >>> ((1 : Int32).toInt64 &&& 63)) = w1 at q1 ⊢
        have q2 := l_an (v := w1) (c := 7) (s := 3) (m := 8) (by decide +kernel) rfl (by decide) (by omega)
        exact l_32i (by rw [q2, q1, ← dd] <;> rfl)
      have nx : (w >>> ((4 : Int32).toInt64 &&& 63)).toInt = C := by
        obtain ⟨-, -, zz⟩ := kq.elim id
        rw [l_shr (v := w) (k := ((4 : Int32).toInt64 &&& 63)) (s := 4) (m := 16) (by decide +kernel) rfl hw0, ← zz]
        all_goals rfl
      rw [dv]
      have eU : ∃ V, V = su (su U 4 (3 * p + (p + 1 + d) % 3) y) 1 (3 * p + (p + 1 + d) % 3) (g (10 + (3 * p + (p + 1 + d) % 3))) := ⟨_, rfl⟩
      obtain ⟨V, eV⟩ := eU
      rw [← eV]
      have v1 : ar V 1 = upd (ar U 1) (3 * p + (p + 1 + d) % 3) (g (10 + (3 * p + (p + 1 + d) % 3))) := by
        show V.2.2.1 1 = upd (U.2.2.1 1) (3 * p + (p + 1 + d) % 3) (g (10 + (3 * p + (p + 1 + d) % 3)))
        rw [eV, su_at, su_ne (by decide)]
      have v4 : ar V 4 = upd (ar U 4) (3 * p + (p + 1 + d) % 3) y := by
        show V.2.2.1 4 = upd (U.2.2.1 4) (3 * p + (p + 1 + d) % 3) y
        rw [eV, su_ne (by decide), su_at]
      have v0 : ar V 0 = ar U 0 := by
        show V.2.2.1 0 = U.2.2.1 0
        rw [eV, su_ne (by decide), su_ne (by decide)]
      have v2 : ar V 2 = ar U 2 := by
        show V.2.2.1 2 = U.2.2.1 2
        rw [eV, su_ne (by decide), su_ne (by decide)]
      have v3 : ar V 3 = ar U 3 := by
        show V.2.2.1 3 = U.2.2.1 3
        rw [eV, su_ne (by decide), su_ne (by decide)]
      have vF : Fr [0] [] [0, 1, 2, 3, 4] [] S V := by
        rw [eV]; exact Fr.su (by decide) (Fr.su (by decide) uF)
      have vB : BR S → BR V := fun b => by
        rw [eV]; exact BR.s1 (fun z => absurd z (tk_d p hp d hd2)) (BR.s4 hy (ud b))
      clear eV
      refine ⟨by first | exact b9 | omega, hk2 _ _ _ _ ⟨rfl, vF, vB, fun q q1 q2 => ?_, d, by omega, by rw [dec1 (Int.lt_of_lt_of_le (by decide) hx01.1)]; omega, kC.elim (fun e => nx.trans e), fun c' c1 c2 => ?_⟩ (by rw [dec1 (Int.lt_of_lt_of_le (by decide) hx01.1)]; omega)⟩
      · obtain ⟨t0, t2, tc, t3, t3'⟩ := uT q q1 q2
        unfold TKp
        rw [v0, v1, v2, v3, v4]
        refine ⟨t0, t2, fun c' hc' => ?_, t3, t3'⟩
        have ne := tk_m (p := p) (c := d) (q := q) (c' := c') hp hd3 q2 (by omega) (Or.inl (by omega))
        rw [upd_ne ne, upd_ne ne]
        exact tc c' hc'
      · rw [v1, v4]
        by_cases ec : c' = d
        · rw [ec, upd_at, upd_at]; exact ⟨rfl, hyg⟩
        · have ne := tk_m (p := p) (c := d) (q := p) (c' := c') hp hd3 hp (by omega) (Or.inr ec)
          rw [upd_ne ne, upd_ne ne]
          exact hC c' (by omega) c2
    obtain ⟨h2, -, -⟩ := kq.elim id
    exact ⟨fun q => fin 0 (Or.inl rfl) (i_eq (by rw [← h2, (lg_one hw0).2 q]; exact li_0)), fun q => fin 1 (Or.inr rfl) (i_eq (by rw [← h2, (lg_one hw0).1 q]; exact li_1))⟩
