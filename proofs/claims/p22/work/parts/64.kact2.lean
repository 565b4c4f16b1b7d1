set_option maxHeartbeats 400000 in
theorem r_0_initN (cy : Nat → ClassId) (tE : Nat) (U : KS) (q : Nat) (z : Int64) (post : KS → Prop) (k : ∀ p r, post (ksL U (vn (vn (vn U.2.2.2 (acC q z (.ref p) (.ref r) 0 0)) (lsC p 0 tE 0)) (lsC r 0 tE 0)))) : w_X0_init cy tE 2 6 (ksL U (vn U.2.2.2 (q, .inr (1, [.long 0, .null, .null, .int 0, .int 0])))) q z post := by
  refine r_0_init cy tE 2 6 _ q z _ U.2.2.2.length 0 .null .null 0 0 (vn_at _ _) ⟨Nat.le_refl _, Nat.le_refl _⟩ (fun p r => ?_)
  have hk := k p r
  rw [← vn_set U.2.2.2 (q, .inr (1, [.long 0, .null, .null, .int 0, .int 0])) (acC q z (.ref p) (.ref r) 0 0)] at hk
  exact hk
/-- what the loop over an Act's clauses stands on -/
def RA (cy : Nat → ClassId) (tE : Nat) (b : Int) (S : KS) (q i0 i1 i2 : Nat) (o0 o1 o2 : Option Nat) (n0 n1 n2 : Int32) (f0 f1 f2 : Nat → Option Nat) (T : KS) (x2 : Int32) : Prop := FRr S T ∧ RD b T ∧ ∃ (A : Nat → Prop) (ia ip iq : Nat) (op oq : Option Nat) (np nq : Int32) (fp fq : Nat → Option Nat) (z : Int64) (pa qa : Nat) (u v : Int32), HX cy tE T A i0 i1 i2 o0 o1 o2 n0 n1 n2 f0 f1 f2 ∧ YX cy tE T.2.2.2 A i0 i1 i2 o0 o1 o2 q ia ip iq op oq np nq fp fq z pa qa u v ∧ np.toInt + nq.toInt = x2.toInt
set_option maxHeartbeats 800000 in
theorem r_188 (cy : Nat → ClassId) (tE : Nat) (mc ms : Nat) (S : KS) (post : Int32 → KS → Prop) (b : Int) (q nc ns : Nat) (T : KS) {A : Nat → Prop} {i0 i1 i2 : Nat} {o0 o1 o2 : Option Nat} {n0 n1 n2 : Int32} {f0 f1 f2 : Nat → Option Nat} (k1 : ∀ V, FRr S V → RD b V → HE cy tE V → post 1 V) (hF : FRr S T) (hR : RD b T) {ia ip iq : Nat} {op oq : Option Nat} {np nq : Int32} {fp fq : Nat → Option Nat} {z : Int64} {pa qa : Nat} {u v : Int32} (hX : HX cy tE T A i0 i1 i2 o0 o1 o2 n0 n1 n2 f0 f1 f2) (hY : YX cy tE T.2.2.2 A i0 i1 i2 o0 o1 o2 q ia ip iq op oq np nq fp fq z pa qa u v) (g0 : n0.toInt < 6) (hk : (kn T).toInt ≠ 0) (hm : nc + 1 ≤ mc ∧ ns + 10 ≤ ms) : w_X5_readAct_B188 cy tE mc ms post T nc ns q := by
  have hN := RD_nx hR hk
  unfold w_X5_readAct_B188
  refine ⟨(RD_g hR).1, ia, _, _, _, _, _, hY.1, (RD_g hR).2, ia, _, _, _, _, _, st_at hY.1, 1, 10, ⟨by omega, by omega⟩, ?_⟩
  generalize eL : (T.2.2.2.set ia (acC q z (.ref pa) (.ref qa) (fi T.1 17) v)).set ia (acC q z (.ref pa) (.ref qa) (fi T.1 17) (fi T.1 18)) = L2
  have eL2 : L2 = T.2.2.2.set ia (acC q z (.ref pa) (.ref qa) (fi T.1 17) (fi T.1 18)) := by
    rw [← eL]; exact List.set_set ..
  obtain ⟨B, hX3, hAC⟩ := YX_done (S := ksi T 15 (fi T.1 15 + 1)) (HX_kf hX hN.1) hY eL2
  have hAC2 := hAC
  obtain ⟨ix, nm, nd, mk, wo, wt, -, hix, -⟩ := hAC2
  obtain ⟨m, e, hi⟩ := LLs_e hX3.2.1.1
  refine ⟨i0, _, hi, r_addL_X0 cy tE 1 10 (ksL (ksi T 15 (fi T.1 15 + 1)) L2) _ (T.2.1 0) q i0 ix o0 n0 f0 _ hX3.2.1.1 (by omega) hix ⟨by omega, by omega⟩ (fun L' o' f' h1 h2 h3 h4 h5 h6 => ⟨⟨by omega, by omega⟩, ?_⟩)⟩
  exact k1 _ (hF.tr hN.1.1) hN.2.1 (HX_HE (HX_add0 hX3 h1 h2 h3 h4 h5 h6 hAC (by omega)))
set_option maxHeartbeats 1600000 in
theorem r_93 (cy : Nat → ClassId) (tE : Nat) (mc ms : Nat) (S : KS) (post : Int32 → KS → Prop) (b : Int) (q i0 i1 i2 : Nat) (o0 o1 o2 : Option Nat) (n0 n1 n2 : Int32) (f0 f1 f2 : Nat → Option Nat) (T0 : KS) (hm : 37 ≤ mc ∧ 21 + 11 * (13 + b.toNat) ≤ ms) (k0 : ∀ V, FRr S V → FLG V → HE cy tE V → post 0 V) (k1 : ∀ V, FRr S V → RD b V → HE cy tE V → post 1 V) (g0 : n0.toInt < 6) (h0 : RA cy tE b S q i0 i1 i2 o0 o1 o2 n0 n1 n2 f0 f1 f2 T0 0) : ∃ n, lpn (w_X5_readAct_F93 cy tE mc ms post (w_X5_readAct_B188 cy tE mc ms post)) (fun _ _ _ _ _ => False) n T0 3 11 q 0 := by
  refine lr5 (fun (T : KS) (nc ns : Nat) (x1 : Nat) (x2 : Int32) => x1 = q ∧ (0 ≤ x2.toInt ∧ x2.toInt ≤ 11) ∧ (nc = 3 + 3 * x2.toInt.toNat ∧ ns ≤ 11 + x2.toInt.toNat * (13 + b.toNat)) ∧ RA cy tE b S q i0 i1 i2 o0 o1 o2 n0 n1 n2 f0 f1 f2 T x2) (fun _ _ _ _ x2 => (11 - x2.toInt).toNat) ?_ _ _ _ _ _ ⟨rfl, by decide, ⟨rfl, Nat.le_add_right _ _⟩, h0⟩
  rintro kk T nc ns x1 x2 ⟨e1, hx, ⟨hnc, hns⟩, hF, hR, A, ia, ip, iq, op, oq, np, nq, fp, fq, z, pa, qa, u, v, hX, hY, hs⟩ hk
  rw [e1]
  have hb4 := hY.2.2.1
  have hbp := LLs_b hY.2.1.1
  have hbq := LLs_b hY.2.1.2
  have hmu : x2.toInt ≤ 10 → x2.toInt.toNat * (13 + b.toNat) ≤ 10 * (13 + b.toNat) := fun g => Nat.mul_le_mul_right _ (by omega)
  have hsu : x2.toInt ≤ 10 → (x2 + 1).toInt = x2.toInt + 1 ∧ (x2 + 1).toInt.toNat * (13 + b.toNat) = x2.toInt.toNat * (13 + b.toNat) + (13 + b.toNat) := by
    intro g
    have e : (x2 + 1).toInt = x2.toInt + 1 := inc1 (by omega)
    have e3 : (x2 + 1).toInt.toNat = x2.toInt.toNat + 1 := by rw [e]; omega
    exact ⟨e, by rw [e3, Nat.add_mul, Nat.one_mul]⟩
  generalize hW : x2.toInt.toNat * (13 + b.toNat) = W at *
  have no : ∀ V, KFr T V → post 0 V := fun V hV => k0 V (hF.tr hV.1) (hV.2.2.2.2 (RD_g hR)) (HX_HE (HX_kf hX hV))
  unfold w_X5_readAct_F93
  refine ⟨fun g => by exfalso; omega, fun g10 => ?_⟩
  have hmu := hmu g10
  obtain ⟨hi1, hi2⟩ := hsu g10
  refine ⟨⟨by omega, by omega⟩, r_5_kind cy tE T _ b hR ⟨fun g23 => r_188 cy tE mc ms S post b q nc ns T k1 hF hR hX hY g0 (by omega) ⟨by omega, by omega⟩, fun g23 => ⟨⟨by omega, by omega⟩, r_5_kind cy tE T _ b hR ⟨fun g5 => ?_, fun g5 => ?_⟩⟩⟩⟩
  · obtain ⟨m, e, hi⟩ := LLs_e hY.2.1.1
    refine ⟨ia, _, _, _, _, _, hY.1, ⟨by omega, by omega⟩, ip, _, hi, r_size cy tE T _ ip m np (.ref e) _ hi ⟨fun g4 => ⟨⟨by omega, by omega⟩, ?_⟩, fun _ => ⟨⟨by omega, by omega⟩, r_5_refuse cy tE T _ _ b hR (fun V hV => ⟨Or.inl rfl, ⟨by omega, by omega⟩, no V hV⟩)⟩⟩⟩
    have hN := RD_nx hR (by omega)
    have hw := wdt_ge (kn T).toInt
    have c0 := RD_c hR
    obtain ⟨hU, eP, e16, -⟩ := RD_16 hN.2.1
    have hFU : KFr T (ksi (ksi T 15 (fi T.1 15 + 1)) 16 0) := KF_si (by decide) hN.1
    have hpU : pn T + 1 ≤ pn (ksi (ksi T 15 (fi T.1 15 + 1)) 16 0) := by
      rw [eP]
      have := hN.2.2.1
      omega
    generalize ksi (ksi T 15 (fi T.1 15 + 1)) 16 0 = U at hU e16 hFU hpU ⊢
    refine r_5_readEither cy tE U _ b hU (fun V hV => ⟨fun g => absurd li_0 g, fun _ => ⟨⟨by omega, by omega⟩, no V (KF_tr hFU hV)⟩⟩) (fun V d l l1 ld par hV => ⟨fun _ => ?_, fun g => absurd g (by decide)⟩)
    have hFV : KFr T V := KF_tr hFU hV.1
    have eLV : V.2.2.2 = T.2.2.2 := by rw [hFV.2.1]
    have hXV := HX_kf hX hFV
    have hYV : YX cy tE V.2.2.2 A i0 i1 i2 o0 o1 o2 q ia ip iq op oq np nq fp fq z pa qa u v := by rw [eLV]; exact hY
    have c1 := RD_b hV.2.1
    have c2 := hV.2.1.2.2.1
    have c3 := RD_c hV.2.1
    have c4 := hV.2.2.1
    have c5 := hV.2.2.2
    refine ⟨ia, _, _, _, _, _, hYV.1, ?_⟩
    refine r_clN cy tE mc ms nc ns V 5 0 (fun a c r S73 => w_X5_readAct_B182 cy tE mc ms post kk (w_X5_readAct_B188 cy tE mc ms post) S73 a c q x2) hXV hYV ⟨c2.1, by omega⟩ g4 ⟨by omega, by omega⟩ (fun r L' B o_ f_ hX2 hY2 => ?_)
    exact hk _ _ _ _ _ ⟨rfl, by rw [hi1]; omega, ⟨by rw [hi1]; omega, by rw [hi2]; omega⟩, hF.tr hFV.1, hV.2.1, B, ia, ip, iq, o_, oq, np + 1, nq, f_, fq, z, pa, qa, u, v, hX2, hY2, by rw [hi1, inc1 (by omega)]; omega⟩ (by rw [hi1]; omega)
  · refine ⟨3, 13 + b.toNat, ⟨by omega, by omega⟩, r_5_readMake cy tE 3 _ T _ b hR hX hY ⟨by omega, Nat.le_refl _⟩ (fun V hV => ⟨fun g => absurd li_0 g, fun _ => ⟨⟨by omega, by omega⟩, no V hV⟩⟩) (fun V B o_ f_ hFV hRV hXV hYV hq6 => ⟨fun _ => ?_, fun g => absurd g (by decide)⟩)⟩
    exact hk _ _ _ _ _ ⟨rfl, by rw [hi1]; omega, ⟨by rw [hi1]; omega, by rw [hi2]; omega⟩, hF.tr hFV, hRV, B, ia, ip, iq, op, o_, np, nq + 1, fp, f_, z, pa, qa, u, v, hXV, hYV, by rw [hi1, inc1 (by omega)]; omega⟩ (by rw [hi1]; omega)
set_option maxHeartbeats 1600000 in
theorem r_5_readAct (cy : Nat → ClassId) (tE : Nat) (mc ms : Nat) (S : KS) (post : Int32 → KS → Prop) (b : Int) {A : Nat → Prop} {i0 i1 i2 : Nat} {o0 o1 o2 : Option Nat} {n0 n1 n2 : Int32} {f0 f1 f2 : Nat → Option Nat} (h : RD b S) (hk : (kn S).toInt = 4) (hX : HX cy tE S A i0 i1 i2 o0 o1 o2 n0 n1 n2 f0 f1 f2) (hm : 37 ≤ mc ∧ 21 + 11 * (13 + b.toNat) ≤ ms) (k0 : ∀ V, FRr S V → FLG V → HE cy tE V → post 0 V) (k1 : ∀ V, FRr S V → RD b V → HE cy tE V → post 1 V) : w_X5_readAct cy tE mc ms S post := by
  obtain ⟨m, e, hi⟩ := LLs_e hX.2.1.1
  have hg := RD_g h
  have no : ∀ V, KFr S V → post 0 V := fun V hV => k0 V hV.1 (hV.2.2.2.2 hg) (HX_HE (HX_kf hX hV))
  unfold w_X5_readAct
  refine ⟨⟨by omega, by omega⟩, i0, _, hi, r_size cy tE S _ i0 m n0 (.ref e) _ hi ⟨fun g0 => ⟨⟨by omega, by omega⟩, ?_⟩, fun _ => ⟨⟨by omega, by omega⟩, r_5_refuse cy tE S _ _ b h (fun V hV => ⟨Or.inl rfl, ⟨by omega, by omega⟩, no V hV⟩)⟩⟩⟩
  have hN := RD_nx h (by omega)
  generalize ksi S 15 (fi S.1 15 + 1) = U at hN ⊢
  refine r_5_kind cy tE U _ b hN.2.1 ⟨fun g3 => ⟨⟨by omega, by omega⟩, fun q => ⟨⟨by omega, by omega⟩, ?_⟩⟩, fun _ => ⟨⟨by omega, by omega⟩, r_5_refuse cy tE U _ _ b hN.2.1 (fun V hV => ⟨Or.inl rfl, ⟨by omega, by omega⟩, no V (KF_tr hN.1 hV)⟩)⟩⟩
  refine r_5_value cy tE (ksL U (vn U.2.2.2 (q, .inr (1, [.long 0, .null, .null, .int 0, .int 0])))) _ b hN.2.1 (fun v => ⟨2, 6, ⟨by omega, by omega⟩, ?_⟩)
  refine r_0_initN cy tE U q v _ (fun pa qa => ?_)
  generalize eL : vn (vn (vn U.2.2.2 (acC q v (.ref pa) (.ref qa) 0 0)) (lsC pa 0 tE 0)) (lsC qa 0 tE 0) = L
  obtain ⟨hX1, hY1⟩ := YX_start (HX_kf hX hN.1) eL.symm
  refine ⟨U.2.2.2.length, _, _, _, _, _, hY1.1, ⟨by omega, by omega⟩, ?_⟩
  refine r_5_isNamed cy tE (ksL U L) v _ i0 o0 n0 f0 hX1.2.1.1 (fun t ht => ?_) (fun r hr => ⟨fun _ => ?_, fun _ => ⟨⟨by omega, by omega⟩, r_5_refuse cy tE (ksL U L) _ _ b hN.2.1 (fun V hV => ⟨Or.inl rfl, ⟨by omega, by omega⟩, k0 V (hN.1.1.tr hV.1) (hV.2.2.2.2 (RD_g hN.2.1)) (HX_HE (HX_kf hX1 hV))⟩)⟩⟩)
  · obtain ⟨x, hx, ⟨i', nm, nd, mk, wo, wt, -, hc, -⟩⟩ := hX1.2.2.2.1 t ht
    exact ⟨x, i', nm, _, _, wo, wt, hx, hc⟩
  · have hR1 : RD b (ksL U L) := hN.2.1
    have g3' : (kn (ksL U L)).toInt ≠ 0 := by
      show (kn U).toInt ≠ 0
      omega
    have hM1 := RD_nx hR1 g3'
    have hM2 := Mv_tr hM1 (RD_17 (y := 0) hM1.2.1 (Or.inl rfl))
    have hM := Mv_tr hM2 (RD_18 (y := 0) hM2.2.1 (Or.inl rfl))
    have hX2 := HX_kf hX1 hM.1
    refine r_93 cy tE mc ms S post b q i0 i1 i2 o0 o1 o2 n0 n1 n2 f0 f1 f2 _ hm k0 k1 g0 ⟨hN.1.1.tr hM.1.1, hM.2.1, A, U.2.2.2.length, U.2.2.2.length + 1, U.2.2.2.length + 2, none, none, 0, 0, (fun _ => none), (fun _ => none), v, pa, qa, 0, 0, hX2, hY1, by decide⟩
