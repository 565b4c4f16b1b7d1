set_option maxHeartbeats 800000 in
theorem r_5_isNamedE (cy : Nat → ClassId) (tE : Nat) (S : KS) (v : Int64) (post : Int32 → KS → Prop) (i : Nat) (o : Option Nat) (n : Int32) (f : Nat → Option Nat) {A : Nat → Prop} {rd : List AcT} (hL : LLs cy tE S.2.2.2 (S.2.1 0) i o n f) (hR : HR cy S.2.2.2 A n f rd) (k0 : v ∉ rd.map (fun a => a.1) → post 0 S) (k1 : v ∈ rd.map (fun a => a.1) → post 1 S) : w_X5_isNamed cy tE S v post := by
  obtain ⟨m, e, hi, hn, hc⟩ := hL
  obtain ⟨hR1, hR2⟩ := hR
  unfold w_X5_isNamed
  refine lr3 (fun (T : KS) (v' : Int64) (x : Int32) => T = S ∧ v' = v ∧ (0 ≤ x.toInt ∧ x.toInt ≤ 11) ∧ ∀ (t : Nat) (a : AcT), (t : Int) < x.toInt → rd[t]? = some a → a.1 ≠ v) (fun _ _ x => (11 - x.toInt).toNat) ?_ _ _ _ ⟨rfl, rfl, by decide, fun t a ht => by rw [li_0] at ht; omega⟩
  rintro kk T v x ⟨rfl, rfl, ⟨x0, x1⟩, hne⟩ hk
  unfold w_X5_isNamed_F2 w_X5_isNamed_B40
  refine ⟨i, _, hi, r_size cy tE T _ i m n (.ref e) _ hi ⟨fun g => k0 (fun hm => ?_), fun g => ⟨i, _, hi, ?_⟩⟩⟩
  · obtain ⟨a, ha, hav⟩ := List.mem_map.mp hm
    obtain ⟨t, ht⟩ := List.getElem?_of_mem ha
    have hlt := gt_lt ht
    exact hne t a (by omega) ht hav
  rcases hc with ⟨ho, he, hn0⟩ | ⟨j, ho, hji, hj⟩
  · rw [hn0, li_0] at g; omega
  have hxl : x.toNatClampNeg < rd.length := by rw [tnc]; omega
  have hget := List.getElem?_eq_getElem hxl
  generalize rd[x.toNatClampNeg] = a at hget
  obtain ⟨q', hf, i', nd, mk, -, hq, -⟩ := hR2 _ a hget
  refine r_getE cy tE T _ i j 10 e m n x f _ hi hj ⟨x0, g⟩ (by omega) ⟨q', hf, i', _, hq, i', _, _, _, _, _, hq, fun gc => hk _ _ _ ⟨rfl, rfl, ⟨by rw [inc1 (by omega)]; omega, by rw [inc1 (by omega)]; omega⟩, fun t b ht hb => ?_⟩ (by rw [inc1 (by omega)]; omega), fun gc => k1 ?_⟩
  · rw [inc1 (by omega)] at ht
    by_cases et : t = x.toNatClampNeg
    · rw [et, hget] at hb
      have hab : a = b := Option.some.inj hb
      rw [← hab]
      intro hav
      rw [hav] at gc
      exact gc (lg_rf _)
    · rw [tnc] at et
      exact hne t b (by omega) hb
  · rw [← lg_eq gc]
    exact List.mem_map.mpr ⟨a, List.mem_of_getElem? hget, rfl⟩
set_option maxHeartbeats 1600000 in
theorem r_188E (cy : Nat → ClassId) (tE : Nat) (mc ms : Nat) (S : KS) (post : Int32 → KS → Prop) (b : Int) (q nc ns : Nat) (T : KS) (Z : TS) (i : Nat) {nv : List OL} {cu : List CuT} {al : Nat → Option AcT} {rd : List AcT} {z : Int64} {nd : List OL} {mk : List MkT} (k1 : ∀ V, FRr S V → RD b V → ZS Z (i + 1) V → fi V.1 19 = fi T.1 19 → fi V.1 20 = fi T.1 20 → RB cy tE V nv cu al (rd ++ [(z, fi T.1 17, fi T.1 18, nd, mk)]) → post 1 V) (hF : FRr S T) (hR : RD b T) (hz : ZS Z i T) (hB : YB cy tE T q nv cu al rd z nd mk) (g0 : rd.length < 6) (hk : (Z.1 i).toInt ≠ 0) (hm : nc + 1 ≤ mc ∧ ns + 10 ≤ ms) : w_X5_readAct_B188 cy tE mc ms post T nc ns q := by
  obtain ⟨A, i0, i1, i2, o0, o1, o2, n0, n1, n2, f0, f1, f2, ia, ip, iq, op, oq, np, nq, fp, fq, pa, qa, u, v, hX, hY, hV, hRd, hYV⟩ := hB
  have g0' := hRd.1
  obtain ⟨hN, hXN⟩ := RD_nxE hR hz hk
  unfold w_X5_readAct_B188
  refine ⟨(RD_g hR).1, ia, _, _, _, _, _, hY.1, (RD_g hR).2, ia, _, _, _, _, _, st_at hY.1, 1, 10, ⟨by omega, by omega⟩, ?_⟩
  generalize eL : (T.2.2.2.set ia (acC q z (.ref pa) (.ref qa) (fi T.1 17) v)).set ia (acC q z (.ref pa) (.ref qa) (fi T.1 17) (fi T.1 18)) = L2
  have eL2 : L2 = T.2.2.2.set ia (acC q z (.ref pa) (.ref qa) (fi T.1 17) (fi T.1 18)) := by
    rw [← eL]; exact List.set_set ..
  obtain ⟨B, kB, hX3, hAC⟩ := YX_doneE (S := ksi T 15 (fi T.1 15 + 1)) hYV (HX_kf hX hN.1) hY eL2
  have hACp := ACx_p hAC
  have hAC2 := hAC
  obtain ⟨ix, nd', mk', -, hix, -⟩ := hAC2
  obtain ⟨m, e, hi⟩ := LLs_e hX3.2.1.1
  refine ⟨i0, _, hi, r_addL_X0 cy tE 1 10 (ksL (ksi T 15 (fi T.1 15 + 1)) L2) _ (T.2.1 0) q i0 ix o0 n0 f0 _ hX3.2.1.1 (by omega) hix ⟨by omega, by omega⟩ (fun L' o' f' h1 h2 h3 h4 h5 h6 => ⟨⟨by omega, by omega⟩, ?_⟩)⟩
  have kC := HX_k0 hX3 h3
  refine k1 _ (hF.tr hN.1.1) hN.2.1 hXN.2.1 (si_ne (by decide)) (si_ne (by decide)) ⟨B, i0, i1, i2, o', o1, o2, n0 + 1, n1, n2, f', f1, f2, HX_add0 hX3 h1 h2 h3 h4 h5 h6 hACp (by omega), ?_, ?_⟩
  · exact HV_mo (S := ksL (ksi T 15 (fi T.1 15 + 1)) L2) kC rfl (HV_mo (S := T) kB rfl hV)
  · exact HR_1 (HR_mo kC (HR_mo kB hRd)) (by omega) h5 h6 (ACx_mo kC hAC)
set_option maxHeartbeats 3200000 in
theorem r_93E (cy : Nat → ClassId) (tE : Nat) (mc ms : Nat) (S : KS) (post : Int32 → KS → Prop) (b : Int) (q : Nat) (Z : TS) (RES : CAc) (j0 : Nat) {nv : List OL} {cu : List CuT} {al : Nat → Option AcT} {rd : List AcT} {z : Int64} (T0 : KS) (hm : 37 ≤ mc ∧ 21 + 11 * (13 + b.toNat) ≤ ms) (hRES : RES = ypCs Z 11 (0, j0, false, false, [], [])) (k0 : ∀ V, FRr S V → FLG V → RB cy tE V nv cu al rd → XB Z V (ypNo RES.1 RES.2.1) → post 0 V) (k1 : ∀ V, FRr S V → RD b V → RES.1 = 0 → ZS Z (RES.2.1 + 1) V → fi V.1 19 = fi S.1 19 → fi V.1 20 = fi S.1 20 → RB cy tE V nv cu al (rd ++ [(z, orF 0 RES.2.2.1, orF 0 RES.2.2.2.1, RES.2.2.2.2.1, RES.2.2.2.2.2)]) → post 1 V) (g0 : rd.length < 6) (h1 : FRr S T0) (h2 : RD b T0) (h3 : ZS Z j0 T0) (h4 : fi T0.1 17 = 0 ∧ fi T0.1 18 = 0 ∧ fi T0.1 19 = fi S.1 19 ∧ fi T0.1 20 = fi S.1 20) (h5 : YB cy tE T0 q nv cu al rd z [] []) : ∃ n, lpn (w_X5_readAct_F93 cy tE mc ms post (w_X5_readAct_B188 cy tE mc ms post)) (fun _ _ _ _ _ => False) n T0 3 11 q 0 := by
  refine lr5 (fun (T : KS) (nc ns : Nat) (x1 : Nat) (x2 : Int32) => x1 = q ∧ (0 ≤ x2.toInt ∧ x2.toInt ≤ 11) ∧ (nc = 3 + 3 * x2.toInt.toNat ∧ ns ≤ 11 + x2.toInt.toNat * (13 + b.toNat)) ∧ FRr S T ∧ RD b T ∧ ∃ (acc : CAc) (n : Nat), acc.1 = 0 ∧ ZS Z acc.2.1 T ∧ (fi T.1 17 = orF 0 acc.2.2.1 ∧ fi T.1 18 = orF 0 acc.2.2.2.1 ∧ fi T.1 19 = fi S.1 19 ∧ fi T.1 20 = fi S.1 20) ∧ YB cy tE T q nv cu al rd z acc.2.2.2.2.1 acc.2.2.2.2.2 ∧ RES = ypCs Z n acc ∧ x2.toInt = (acc.2.2.2.2.1.length : Int) + (acc.2.2.2.2.2.length : Int) ∧ n + acc.2.2.2.2.1.length + acc.2.2.2.2.2.length = 11) (fun _ _ _ _ x2 => (11 - x2.toInt).toNat) ?_ _ _ _ _ _ ⟨rfl, by decide, ⟨rfl, Nat.le_add_right _ _⟩, h1, h2, (0, j0, false, false, [], []), 11, rfl, h3, h4, h5, hRES, rfl, rfl⟩
  clear h1 h2 h3 h4 h5 hRES
  rintro kk T nc ns x1 x2 ⟨e1, hx, ⟨hnc, hns⟩, hF, hR, acc, n, hacc, hz, ⟨t17, t18, t19, t20⟩, hB, hRES, hs, hn⟩ hk
  rw [e1]
  have hB0 := hB
  obtain ⟨A, i0, i1, i2, o0, o1, o2, n0, n1, n2, f0, f1, f2, ia, ip, iq, op, oq, np, nq, fp, fq, pa, qa, u, v, hX, hY, hV, hRd, hYV⟩ := hB
  have hb4 := hY.2.2.1
  have hn1 := hYV.1.1
  have hn2 := hYV.2.1
  have hmu : x2.toInt ≤ 10 → x2.toInt.toNat * (13 + b.toNat) ≤ 10 * (13 + b.toNat) := fun g => Nat.mul_le_mul_right _ (by omega)
  have hsu : x2.toInt ≤ 10 → (x2 + 1).toInt = x2.toInt + 1 ∧ (x2 + 1).toInt.toNat * (13 + b.toNat) = x2.toInt.toNat * (13 + b.toNat) + (13 + b.toNat) := by
    intro g
    have e : (x2 + 1).toInt = x2.toInt + 1 := inc1 (by omega)
    have e3 : (x2 + 1).toInt.toNat = x2.toInt.toNat + 1 := by rw [e]; omega
    exact ⟨e, by rw [e3, Nat.add_mul, Nat.one_mul]⟩
  generalize hW : x2.toInt.toNat * (13 + b.toNat) = W at *
  have no : ∀ (V : KS) (r : YR), KFr T V → XB Z V r → RES.1 = r.1 → RES.2.1 = r.2.1 → post 0 V := fun V r hV hXB e1 e2 => k0 V (hF.tr hV.1) (hV.2.2.2.2 (RD_g hR)) (RB_kf (YB_RB hB0) hV) (by rw [e1, e2]; exact hXB)
  unfold w_X5_readAct_F93
  refine ⟨fun g => by exfalso; omega, fun g10 => ?_⟩
  have hmu := hmu g10
  obtain ⟨hi1, hi2⟩ := hsu g10
  obtain ⟨n', rfl⟩ : ∃ n', n = n' + 1 := ⟨n - 1, by omega⟩
  have x23 : (Z.1 acc.2.1).toInt ≠ 23 → (ypC1 Z acc).1 ≠ 0 → RES = ypC1 Z acc := fun a1 a2 => hRES.trans (ypCs_x hacc a1 a2)
  refine ⟨⟨by omega, by omega⟩, r_5_kindE cy tE T _ b Z acc.2.1 hR hz ⟨fun g23 => ?_, fun g23 => ⟨⟨by omega, by omega⟩, r_5_kindE cy tE T _ b Z acc.2.1 hR hz ⟨fun g5 => ?_, fun g5 => ?_⟩⟩⟩⟩
  · have er : RES = acc := hRES.trans (ypCs_a (Or.inr g23))
    refine r_188E cy tE mc ms S post b q nc ns T Z acc.2.1 (fun V v1 v2 v3 v4 v5 v6 => ?_) hF hR hz hB0 g0 (by omega) ⟨by omega, by omega⟩
    rw [t17, t18] at v6
    refine k1 V v1 v2 (by rw [er]; exact hacc) (by rw [er]; exact v3) (v4.trans t19) (v5.trans t20) ?_
    rw [er]
    exact v6
  · obtain ⟨m, e, hi⟩ := LLs_e hY.2.1.1
    refine ⟨ia, _, _, _, _, _, hY.1, ⟨by omega, by omega⟩, ip, _, hi, r_size cy tE T _ ip m np (.ref e) _ hi ⟨fun g4 => ⟨⟨by omega, by omega⟩, ?_⟩, fun g4 => ⟨⟨by omega, by omega⟩, r_5_refuseE cy tE T _ _ b Z acc.2.1 hR hz 3 (by decide) (by decide) (fun V hVF hXB => ⟨Or.inl rfl, ⟨by omega, by omega⟩, ?_⟩)⟩⟩⟩
    rotate_left
    · have ec := ypC1_4 g5 (by omega)
      have er := x23 g23 (by rw [ec]; exact Nat.succ_ne_zero 2)
      exact no V _ hVF hXB (by rw [er, ec]; rfl) (by rw [er, ec]; rfl)
    have ec := ypC1_5 g5 (by omega)
    obtain ⟨hN, hXN⟩ := RD_nxE hR hz (by omega)
    have hw := wdt_ge ((Z.1 acc.2.1).toInt)
    have c0 := RD_c hR
    obtain ⟨hU, eP, e16, -⟩ := RD_16 hN.2.1
    have hFU : KFr T (ksi (ksi T 15 (fi T.1 15 + 1)) 16 0) := KF_si (by decide) hN.1
    have hzU : ZS Z (acc.2.1 + 1) (ksi (ksi T 15 (fi T.1 15 + 1)) 16 0) := ZS_kf (I := [16]) (A := []) (M := []) hXN.2.1 (KF_si (by decide) (KF_rf _)) (by decide) (by rw [show fi (ksi (ksi T 15 (fi T.1 15 + 1)) 16 0).1 15 = fi (ksi T 15 (fi T.1 15 + 1)).1 15 from si_ne (by decide)]; exact hXN.2.1.2.2)
    have u17 : fi (ksi (ksi T 15 (fi T.1 15 + 1)) 16 0).1 17 = fi T.1 17 := (si_ne (by decide)).trans (si_ne (by decide))
    have u18 : fi (ksi (ksi T 15 (fi T.1 15 + 1)) 16 0).1 18 = fi T.1 18 := (si_ne (by decide)).trans (si_ne (by decide))
    have u19 : fi (ksi (ksi T 15 (fi T.1 15 + 1)) 16 0).1 19 = fi T.1 19 := (si_ne (by decide)).trans (si_ne (by decide))
    have u20 : fi (ksi (ksi T 15 (fi T.1 15 + 1)) 16 0).1 20 = fi T.1 20 := (si_ne (by decide)).trans (si_ne (by decide))
    have hpU : pn T + 1 ≤ pn (ksi (ksi T 15 (fi T.1 15 + 1)) 16 0) := by
      rw [eP]
      have := hN.2.2.1
      omega
    generalize ksi (ksi T 15 (fi T.1 15 + 1)) 16 0 = U at hU e16 hFU hpU hzU u17 u18 u19 u20 ⊢
    refine r_5_readEitherE cy tE U _ b Z (acc.2.1 + 1) hU hzU (fun V hVF hXB => ⟨fun g => absurd li_0 g, fun _ => ⟨⟨by omega, by omega⟩, ?_⟩⟩) (fun V d l l1 ld par hVM hXV => ⟨fun _ => ?_, fun g => absurd g (by decide)⟩)
    · have er := x23 g23 (by rw [ec]; exact hXB.1)
      exact no V _ (KF_tr hFU hVF) hXB (by rw [er, ec]; rfl) (by rw [er, ec]; rfl)
    have hFV : KFr T V := KF_tr hFU hVM.1
    have hA : ∀ t, A t → A t ∧ V.2.2.2[t]? = T.2.2.2[t]? := fun t ht => ⟨ht, by rw [hFV.2.1]⟩
    have hYq : YX cy tE V.2.2.2 A i0 i1 i2 o0 o1 o2 q ia ip iq op oq np nq fp fq z pa qa u v := by
      rw [show V.2.2.2 = T.2.2.2 by rw [hFV.2.1]]; exact hY
    have c1 := RD_b hVM.2.1
    have c2 := hVM.2.1.2.2.1
    have c3 := RD_c hVM.2.1
    have c4 := hVM.2.2.1
    have c5 := hVM.2.2.2
    refine ⟨ia, _, _, _, _, _, hYq.1, ?_⟩
    refine r_clNE cy tE mc ms nc ns V 5 0 (fun a c r S73 => w_X5_readAct_B182 cy tE mc ms post kk (w_X5_readAct_B188 cy tE mc ms post) S73 a c q x2) (ypAny Z (ypCl Z 8) (acc.2.1 + 1)).2.2.1 rfl rfl (CL_h e16 hXV.2.2.1) (HV_kf hV hFV) (HR_mo hA hRd) (YV_mo hA hYV) (HX_kf hX hFV) hYq ⟨c2.1, by omega⟩ g4 ⟨by omega, by omega⟩ (fun r L' B o_ f_ hX2 hY2 hV2 hR2 hYV2 => ?_)
    refine hk _ _ _ _ _ ⟨rfl, by rw [hi1]; omega, ⟨by rw [hi1]; omega, by rw [hi2]; omega⟩, hF.tr hFV.1, hVM.2.1, ypC1 Z acc, n', ?_, ?_, ?_, ?_, ?_, ?_, ?_⟩ (by rw [hi1]; omega)
    · rw [ec]; exact hXV.1
    · rw [ec]; exact hXV.2.1
    · rw [ec]
      refine ⟨?_, ?_, ?_, ?_⟩
      · show fi V.1 17 = orF 0 (acc.2.2.1 || _)
        rw [hXV.2.2.2.1, u17, t17, orF_or]
      · show fi V.1 18 = orF 0 (acc.2.2.2.1 || _)
        rw [hXV.2.2.2.2, u18, t18, orF_or]
      · show fi V.1 19 = _
        rw [hXV.2.2.1.2.2.2.1, u19, t19]
      · show fi V.1 20 = _
        rw [hXV.2.2.1.2.2.2.2, u20, t20]
    · rw [ec]
      exact ⟨B, i0, i1, i2, o0, o1, o2, n0, n1, n2, f0, f1, f2, ia, ip, iq, o_, oq, np + 1, nq, f_, fq, pa, qa, u, v, hX2, hY2, hV2, hR2, hYV2⟩
    · exact hRES.trans (ypCs_s hacc g23)
    · rw [ec, hi1]
      show _ = ((acc.2.2.2.2.1 ++ [_]).length : Int) + _
      rw [List.length_append]
      simp only [List.length_cons, List.length_nil]
      show _ = _ + (acc.2.2.2.2.2.length : Int)
      omega
    · rw [ec]
      show n' + (acc.2.2.2.2.1 ++ [_]).length + acc.2.2.2.2.2.length = 11
      rw [List.length_append]
      simp only [List.length_cons, List.length_nil]
      omega
  · refine ⟨3, 13 + b.toNat, ⟨by omega, by omega⟩, r_5_readMakeE cy tE 3 _ T _ b Z acc.2.1 q hR hz hB0 ⟨by omega, Nat.le_refl _⟩ (fun V r hVF hXB q1 q2 q3 => ⟨fun g => absurd li_0 g, fun _ => ⟨⟨by omega, by omega⟩, ?_⟩⟩) (fun g6 gq V hFV hRV hgd hXR hBV => ⟨fun _ => ?_, fun g => absurd g (by decide)⟩)⟩
    · by_cases g6 : (Z.1 acc.2.1).toInt = 6
      · by_cases gq : 6 ≤ acc.2.2.2.2.2.length
        · have ec := ypC1_6 g6 gq
          have er := x23 g23 (by rw [ec]; exact Nat.succ_ne_zero 2)
          have hr := q2 g6 gq
          exact no V r hVF hXB (by rw [er, ec, hr]; rfl) (by rw [er, ec, hr]; rfl)
        · have ec := ypC1_7 g6 gq
          have hr := q3 g6 gq
          have er := x23 g23 (by rw [ec]; show (ypMk Z (acc.2.1 + 1)).1 ≠ 0; rw [← hr]; exact hXB.1)
          exact no V r hVF hXB (by rw [er, ec, hr]; rfl) (by rw [er, ec, hr]; rfl)
      · have ec := ypC1_1 g5 g6
        have er := x23 g23 (by rw [ec]; exact Nat.succ_ne_zero 0)
        have hr := q1 g6
        exact no V r hVF hXB (by rw [er, ec, hr]; rfl) (by rw [er, ec, hr]; rfl)
    · have ec := ypC1_7 g6 gq
      refine hk _ _ _ _ _ ⟨rfl, by rw [hi1]; omega, ⟨by rw [hi1]; omega, by rw [hi2]; omega⟩, hF.tr hFV, hRV, ypC1 Z acc, n', ?_, ?_, ?_, ?_, ?_, ?_, ?_⟩ (by rw [hi1]; omega)
      · rw [ec]; exact hgd
      · rw [ec]; exact hXR.1
      · rw [ec]
        refine ⟨?_, ?_, ?_, ?_⟩
        · show fi V.1 17 = orF 0 (acc.2.2.1 || _)
          rw [hXR.2.1, t17, orF_or]
        · show fi V.1 18 = orF 0 (acc.2.2.2.1 || _)
          rw [hXR.2.2.1, t18, orF_or]
        · exact hXR.2.2.2.1.trans t19
        · exact hXR.2.2.2.2.trans t20
      · rw [ec]; exact hBV
      · exact hRES.trans (ypCs_s hacc g23)
      · rw [ec, hi1]
        show _ = (acc.2.2.2.2.1.length : Int) + ((acc.2.2.2.2.2 ++ [_]).length : Int)
        rw [List.length_append]
        simp only [List.length_cons, List.length_nil]
        omega
      · rw [ec]
        show n' + acc.2.2.2.2.1.length + (acc.2.2.2.2.2 ++ [_]).length = 11
        rw [List.length_append]
        simp only [List.length_cons, List.length_nil]
        omega
set_option maxHeartbeats 1600000 in
theorem r_5_readActE (cy : Nat → ClassId) (tE : Nat) (mc ms : Nat) (S : KS) (post : Int32 → KS → Prop) (b : Int) (Z : TS) (j : Nat) {nv : List OL} {cu : List CuT} {al : Nat → Option AcT} {rd : List AcT} (h : RD b S) (hz : ZS Z j S) (hk : (Z.1 j).toInt = 4) (hB : RB cy tE S nv cu al rd) (hm : 37 ≤ mc ∧ 21 + 11 * (13 + b.toNat) ≤ ms) (k0 : ∀ V, FRr S V → FLG V → RB cy tE V nv cu al rd → XB Z V (ypNo (ypAc Z (rd.map (fun a => a.1)) j).1 (ypAc Z (rd.map (fun a => a.1)) j).2.1) → post 0 V) (k1 : ∀ V, FRr S V → RD b V → (ypAc Z (rd.map (fun a => a.1)) j).1 = 0 → ZS Z ((ypAc Z (rd.map (fun a => a.1)) j).2.1 + 1) V → fi V.1 19 = fi S.1 19 → fi V.1 20 = fi S.1 20 → RB cy tE V nv cu al (rd ++ [acOf Z j (ypAc Z (rd.map (fun a => a.1)) j)]) → rd.length < 6 → post 1 V) : w_X5_readAct cy tE mc ms S post := by
  have hB0 := hB
  obtain ⟨A, i0, i1, i2, o0, o1, o2, n0, n1, n2, f0, f1, f2, hX, hV, hRd⟩ := hB
  obtain ⟨m, e, hi⟩ := LLs_e hX.2.1.1
  have hg := RD_g h
  have hrd := hRd.1
  have eml : (rd.map (fun a => a.1)).length = rd.length := List.length_map ..
  have no : ∀ (V : KS) (r : YR), KFr S V → XB Z V r → (ypAc Z (rd.map (fun a => a.1)) j).1 = r.1 → (ypAc Z (rd.map (fun a => a.1)) j).2.1 = r.2.1 → post 0 V := fun V r hV hXB e1 e2 => k0 V hV.1 (hV.2.2.2.2 hg) (RB_kf hB0 hV) (by rw [e1, e2]; exact hXB)
  unfold w_X5_readAct
  refine ⟨⟨by omega, by omega⟩, i0, _, hi, r_size cy tE S _ i0 m n0 (.ref e) _ hi ⟨fun g0 => ⟨⟨by omega, by omega⟩, ?_⟩, fun g0 => ⟨⟨by omega, by omega⟩, r_5_refuseE cy tE S _ _ b Z j h hz 3 (by decide) (by decide) (fun V hVF hXB => ⟨Or.inl rfl, ⟨by omega, by omega⟩, ?_⟩)⟩⟩⟩
  rotate_left
  · have e : ypAc Z (rd.map (fun a => a.1)) j = (3, j, false, false, [], []) := if_pos (by rw [eml]; omega)
    exact no V _ hVF hXB (by rw [e]; rfl) (by rw [e]; rfl)
  obtain ⟨hN, hXN⟩ := RD_nxE h hz (by omega)
  have u19 : fi (ksi S 15 (fi S.1 15 + 1)).1 19 = fi S.1 19 := si_ne (by decide)
  have u20 : fi (ksi S 15 (fi S.1 15 + 1)).1 20 = fi S.1 20 := si_ne (by decide)
  generalize ksi S 15 (fi S.1 15 + 1) = U at hN hXN u19 u20 ⊢
  have hzU : ZS Z (j + 1) U := hXN.2.1
  refine r_5_kindE cy tE U _ b Z (j + 1) hN.2.1 hzU ⟨fun g3 => ⟨⟨by omega, by omega⟩, fun q => ⟨⟨by omega, by omega⟩, ?_⟩⟩, fun g3 => ⟨⟨by omega, by omega⟩, r_5_refuseE cy tE U _ _ b Z (j + 1) hN.2.1 hzU 1 (by decide) (by decide) (fun V hVF hXB => ⟨Or.inl rfl, ⟨by omega, by omega⟩, ?_⟩)⟩⟩
  rotate_left
  · have e : ypAc Z (rd.map (fun a => a.1)) j = (1, j + 1, false, false, [], []) := by
      unfold ypAc
      rw [if_neg (by rw [eml]; omega), if_pos g3]
    exact no V _ (KF_tr hN.1 hVF) hXB (by rw [e]; rfl) (by rw [e]; rfl)
  refine r_5_valueE cy tE (ksL U (vn U.2.2.2 (q, .inr (1, [.long 0, .null, .null, .int 0, .int 0])))) _ b Z (j + 1) hN.2.1 hzU ⟨2, 6, ⟨by omega, by omega⟩, ?_⟩
  refine r_0_initN cy tE U q (Z.2.1 (j + 1)) _ (fun pa qa => ?_)
  generalize eL : vn (vn (vn U.2.2.2 (acC q (Z.2.1 (j + 1)) (.ref pa) (.ref qa) 0 0)) (lsC pa 0 tE 0)) (lsC qa 0 tE 0) = L
  obtain ⟨hX1, hY1⟩ := YX_start (HX_kf hX hN.1) eL.symm
  have hAU := (HX_kf hX hN.1).2.2.2.2.2.2.2.1
  have kA : ∀ t, A t → A t ∧ L[t]? = S.2.2.2[t]? := by
    intro t ht
    refine ⟨ht, ?_⟩
    have hl := (hAU t ht).1
    rw [← eL, vn_lt (by rw [vn_ln, vn_ln]; omega), vn_lt (by rw [vn_ln]; omega), vn_lt hl, hN.1.2.1]
  have hV1 : HV cy (ksL U L) A n1 n2 f1 f2 nv cu al := HV_mo (S := S) kA (by show U.2.2.1 = S.2.2.1; rw [hN.1.2.1]) hV
  have hR1d : HR cy L A n0 f0 rd := HR_mo kA hRd
  refine ⟨U.2.2.2.length, _, _, _, _, _, hY1.1, ⟨by omega, by omega⟩, ?_⟩
  refine r_5_isNamedE cy tE (ksL U L) (Z.2.1 (j + 1)) _ i0 o0 n0 f0 hX1.2.1.1 hR1d (fun hnm => ⟨fun _ => ?_, fun g => absurd li_0 g⟩) (fun hnm => ⟨fun g => absurd g (by decide), fun _ => ⟨⟨by omega, by omega⟩, r_5_refuseE cy tE (ksL U L) _ _ b Z (j + 1) hN.2.1 hzU 2 (by decide) (by decide) (fun V hVF hXB => ⟨Or.inl rfl, ⟨by omega, by omega⟩, ?_⟩)⟩⟩)
  · have hR1 : RD b (ksL U L) := hN.2.1
    have hz1 : ZS Z (j + 1) (ksL U L) := hzU
    obtain ⟨hM1, hXM⟩ := RD_nxE hR1 hz1 (by omega)
    have hM2 := Mv_tr hM1 (RD_17 (y := 0) hM1.2.1 (Or.inl rfl))
    have hM := Mv_tr hM2 (RD_18 (y := 0) hM2.2.1 (Or.inl rfl))
    have e15 : fi (ksi (ksi (ksi (ksL U L) 15 (fi (ksL U L).1 15 + 1)) 17 0) 18 0).1 15 = fi (ksi (ksL U L) 15 (fi (ksL U L).1 15 + 1)).1 15 := (si_ne (by decide)).trans (si_ne (by decide))
    have hzM : ZS Z (j + 2) (ksi (ksi (ksi (ksL U L) 15 (fi (ksL U L).1 15 + 1)) 17 0) 18 0) := ⟨hXM.2.1.1, hXM.2.1.2.1, by rw [e15]; exact hXM.2.1.2.2⟩
    have e : ypAc Z (rd.map (fun a => a.1)) j = ypCs Z 11 (0, j + 2, false, false, [], []) := by
      unfold ypAc
      rw [if_neg (by rw [eml]; omega), if_neg (by omega), if_neg hnm]
    refine r_93E cy tE mc ms S post b q Z (ypAc Z (rd.map (fun a => a.1)) j) (j + 2) (z := Z.2.1 (j + 1)) _ hm e k0 (fun V v1 v2 v3 v4 v5 v6 v7 => k1 V v1 v2 v3 v4 v5 v6 v7 (by omega)) (by omega) (hN.1.1.tr hM.1.1) hM.2.1 hzM ⟨(si_ne (by decide)).trans (si_at _ _ _), si_at _ _ _, ((si_ne (by decide)).trans ((si_ne (by decide)).trans (si_ne (by decide)))).trans u19, ((si_ne (by decide)).trans ((si_ne (by decide)).trans (si_ne (by decide)))).trans u20⟩ ⟨A, i0, i1, i2, o0, o1, o2, n0, n1, n2, f0, f1, f2, U.2.2.2.length, U.2.2.2.length + 1, U.2.2.2.length + 2, none, none, 0, 0, (fun _ => none), (fun _ => none), pa, qa, 0, 0, HX_kf hX1 hM.1, hY1, HV_kf hV1 hM.1, hR1d, ⟨rfl, fun t l hl => by simp at hl⟩, rfl, fun t w hw => by simp at hw⟩
  · have e : ypAc Z (rd.map (fun a => a.1)) j = (2, j + 1, false, false, [], []) := by
      unfold ypAc
      rw [if_neg (by rw [eml]; omega), if_neg (by omega), if_pos hnm]
    have hB1 : RB cy tE (ksL U L) nv cu al rd := ⟨A, i0, i1, i2, o0, o1, o2, n0, n1, n2, f0, f1, f2, hX1, hV1, hR1d⟩
    refine k0 V (hN.1.1.tr hVF.1) (hVF.2.2.2.2 (RD_g hN.2.1)) (RB_kf hB1 hVF) ?_
    rw [e]
    exact hXB
