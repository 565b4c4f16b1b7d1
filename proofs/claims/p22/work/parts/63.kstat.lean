abbrev FRr (S V : KS) : Prop := Fr [15, 16, 17, 18, 19, 20] [] [15] [] S.1 V.1
theorem RD_16 {b : Int} {S : KS} (h : RD b S) : RD b (ksi S 16 0) ∧ pn (ksi S 16 0) = pn S ∧ (fi (ksi S 16 0).1 16).toInt = 0 ∧ kn (ksi S 16 0) = kn S := by
  have hF : KF [16] [] [] S (ksi S 16 0) := KF_si (by decide) (KF_rf S)
  have e15 : fi (ksi S 16 0).1 15 = fi S.1 15 := si_ne (by decide)
  have e16 : fi (ksi S 16 0).1 16 = 0 := si_at _ _ _
  have e17 : fi (ksi S 16 0).1 17 = fi S.1 17 := si_ne (by decide)
  have e18 : fi (ksi S 16 0).1 18 = fi S.1 18 := si_ne (by decide)
  have e21 : fi (ksi S 16 0).1 21 = fi S.1 21 := si_ne (by decide)
  have ep : pn (ksi S 16 0) = pn S := by
    unfold pn
    rw [e15]
    rfl
  have ek : kn (ksi S 16 0) = kn S := by
    unfold kn
    rw [e15]
    rfl
  have hc := RD_c h
  obtain ⟨⟨h1, h2⟩, h3, h4, h5, h6⟩ := h
  refine ⟨⟨⟨TKr_kf h1 hF (by decide), h2⟩, by rw [e15, e21]; exact h3, by rw [e16, ep, li_0]; omega, by rw [e17]; exact h5, by rw [e18]; exact h6⟩, ep, by rw [e16]; decide, ek⟩
-- the clause laid into the list of makes, or needs, of the open Act
set_option maxHeartbeats 400000 in
theorem r_clM (cy : Nat → ClassId) (tE : Nat) (mc ms nc ns : Nat) (V : KS) (x y : Int32) (post : Nat → Nat → Int32 → KS → Prop) {A : Nat → Prop} {i0 i1 i2 : Nat} {o0 o1 o2 : Option Nat} {n0 n1 n2 : Int32} {f0 f1 f2 : Nat → Option Nat} {ac ia ip iq : Nat} {op oq : Option Nat} {np nq : Int32} {fp fq : Nat → Option Nat} {z : Int64} {pa qa : Nat} {u v : Int32} (hX : HX cy tE V A i0 i1 i2 o0 o1 o2 n0 n1 n2 f0 f1 f2) (hY : YX cy tE V.2.2.2 A i0 i1 i2 o0 o1 o2 ac ia ip iq op oq np nq fp fq z pa qa u v) (hl : 0 ≤ (fi V.1 16).toInt ∧ (fi V.1 16).toInt < 700) (hq : nq.toInt < 6) (hm : nc + 3 ≤ mc ∧ ns + 13 + (fi V.1 16).toInt.toNat ≤ ms) (k : ∀ r L' B o_ f_, HX cy tE (ksL V L') B i0 i1 i2 o0 o1 o2 n0 n1 n2 f0 f1 f2 → YX cy tE L' B i0 i1 i2 o0 o1 o2 ac ia ip iq op o_ np (nq + 1) fp f_ z pa qa u v → post (nc + 2 + 1) (ns + (3 + (fi V.1 16).toInt.toNat) + 10) r (ksL V L')) : ∃ m30 m31 : Nat, (nc + m30 ≤ mc ∧ ns + m31 ≤ ms) ∧ w_X5_clause cy tE m30 m31 V x y (fun r33 S34 => ∃ q35 : Nat, r33 = some q35 ∧ ∃ m37 m38 : Nat, ((nc + m30) + m37 ≤ mc ∧ (ns + m31) + m38 ≤ ms) ∧ ∃ (i40 : Nat) (f41 : List Value), S34.2.2.2[i40]? = some (qa, .inr (0, f41)) ∧ w_Jx4a65c_add_9ea2d_X1 cy tE m37 m38 S34 qa q35 (fun r43 S44 => post ((nc + m30) + m37) ((ns + m31) + m38) r43 S44)) := by
  have eV : (fi V.1 16).toNatClampNeg = (fi V.1 16).toInt.toNat := tnc _
  refine ⟨2, 3 + (fi V.1 16).toInt.toNat, ⟨by omega, by omega⟩, r_5_clause cy tE _ _ V x y _ hl.1 hl.2 ⟨by omega, by omega⟩ (fun q o g => ⟨q, rfl, 1, 10, ⟨by omega, by omega⟩, ?_⟩)⟩
  generalize eL : vn (vn V.2.2.2 (q, .inr (2, [.int x, .int y, .ref o]))) (o, .inl (cy 0, (fi V.1 16).toNatClampNeg, .inl g)) = L
  obtain ⟨B, hX1, hY1, hC⟩ := YX_clause hX hY (by omega) eL.symm
  have hC2 := hC
  obtain ⟨ix, kx, fx, ox, -, hix, -⟩ := hC2
  obtain ⟨m, e, hi⟩ := LLs_e hY1.2.1.2
  refine ⟨iq, _, hi, r_addL_X1 cy tE 1 10 (ksL V L) _ qa q iq ix oq nq fq _ hY1.2.1.2 (by omega) hix ⟨by omega, by omega⟩ (fun L' o_ f_ h1 h2 h3 h4 h5 h6 => ?_)⟩
  obtain ⟨hX2, hY2⟩ := YX_make hX1 hY1 h1 h2 h3 h4 h5 h6 hC (by omega)
  exact k _ _ B o_ f_ hX2 hY2
set_option maxHeartbeats 400000 in
theorem r_clN (cy : Nat → ClassId) (tE : Nat) (mc ms nc ns : Nat) (V : KS) (x y : Int32) (post : Nat → Nat → Int32 → KS → Prop) {A : Nat → Prop} {i0 i1 i2 : Nat} {o0 o1 o2 : Option Nat} {n0 n1 n2 : Int32} {f0 f1 f2 : Nat → Option Nat} {ac ia ip iq : Nat} {op oq : Option Nat} {np nq : Int32} {fp fq : Nat → Option Nat} {z : Int64} {pa qa : Nat} {u v : Int32} (hX : HX cy tE V A i0 i1 i2 o0 o1 o2 n0 n1 n2 f0 f1 f2) (hY : YX cy tE V.2.2.2 A i0 i1 i2 o0 o1 o2 ac ia ip iq op oq np nq fp fq z pa qa u v) (hl : 0 ≤ (fi V.1 16).toInt ∧ (fi V.1 16).toInt < 700) (hq : np.toInt < 4) (hm : nc + 3 ≤ mc ∧ ns + 13 + (fi V.1 16).toInt.toNat ≤ ms) (k : ∀ r L' B o_ f_, HX cy tE (ksL V L') B i0 i1 i2 o0 o1 o2 n0 n1 n2 f0 f1 f2 → YX cy tE L' B i0 i1 i2 o0 o1 o2 ac ia ip iq o_ oq (np + 1) nq f_ fq z pa qa u v → post (nc + 2 + 1) (ns + (3 + (fi V.1 16).toInt.toNat) + 10) r (ksL V L')) : ∃ m30 m31 : Nat, (nc + m30 ≤ mc ∧ ns + m31 ≤ ms) ∧ w_X5_clause cy tE m30 m31 V x y (fun r33 S34 => ∃ q35 : Nat, r33 = some q35 ∧ ∃ m37 m38 : Nat, ((nc + m30) + m37 ≤ mc ∧ (ns + m31) + m38 ≤ ms) ∧ ∃ (i40 : Nat) (f41 : List Value), S34.2.2.2[i40]? = some (pa, .inr (0, f41)) ∧ w_Jx4a65c_add_9ea2d_X1 cy tE m37 m38 S34 pa q35 (fun r43 S44 => post ((nc + m30) + m37) ((ns + m31) + m38) r43 S44)) := by
  have eV : (fi V.1 16).toNatClampNeg = (fi V.1 16).toInt.toNat := tnc _
  refine ⟨2, 3 + (fi V.1 16).toInt.toNat, ⟨by omega, by omega⟩, r_5_clause cy tE _ _ V x y _ hl.1 hl.2 ⟨by omega, by omega⟩ (fun q o g => ⟨q, rfl, 1, 10, ⟨by omega, by omega⟩, ?_⟩)⟩
  generalize eL : vn (vn V.2.2.2 (q, .inr (2, [.int x, .int y, .ref o]))) (o, .inl (cy 0, (fi V.1 16).toNatClampNeg, .inl g)) = L
  obtain ⟨B, hX1, hY1, hC⟩ := YX_clause hX hY (by omega) eL.symm
  have hC2 := hC
  obtain ⟨ix, kx, fx, ox, -, hix, -⟩ := hC2
  obtain ⟨m, e, hi⟩ := LLs_e hY1.2.1.1
  refine ⟨ip, _, hi, r_addL_X1 cy tE 1 10 (ksL V L) _ pa q ip ix op np fp _ hY1.2.1.1 (by omega) hix ⟨by omega, by omega⟩ (fun L' o_ f_ h1 h2 h3 h4 h5 h6 => ?_)⟩
  obtain ⟨hX2, hY2⟩ := YX_need hX1 hY1 h1 h2 h3 h4 h5 h6 hC (by omega)
  exact k _ _ B o_ f_ hX2 hY2
set_option maxHeartbeats 800000 in
theorem r_5_readMake (cy : Nat → ClassId) (tE : Nat) (mc ms : Nat) (S : KS) (post : Int32 → KS → Prop) (b : Int) {A : Nat → Prop} {i0 i1 i2 : Nat} {o0 o1 o2 : Option Nat} {n0 n1 n2 : Int32} {f0 f1 f2 : Nat → Option Nat} {ac ia ip iq : Nat} {op oq : Option Nat} {np nq : Int32} {fp fq : Nat → Option Nat} {z : Int64} {pa qa : Nat} {u v : Int32} (h : RD b S) (hX : HX cy tE S A i0 i1 i2 o0 o1 o2 n0 n1 n2 f0 f1 f2) (hY : YX cy tE S.2.2.2 A i0 i1 i2 o0 o1 o2 ac ia ip iq op oq np nq fp fq z pa qa u v) (hm : 3 ≤ mc ∧ 13 + b.toNat ≤ ms) (k0 : ∀ V, KFr S V → post 0 V) (k1 : ∀ V B o_ f_, FRr S V → RD b V → HX cy tE V B i0 i1 i2 o0 o1 o2 n0 n1 n2 f0 f1 f2 → YX cy tE V.2.2.2 B i0 i1 i2 o0 o1 o2 ac ia ip iq op o_ np (nq + 1) fp f_ z pa qa u v → nq.toInt < 6 → post 1 V) : w_X5_readMake cy tE mc ms S ac post := by
  obtain ⟨m, e, hi⟩ := LLs_e hY.2.1.2
  have ha := hY.1
  have hbn := LLs_b hY.2.1.2
  unfold w_X5_readMake
  refine ⟨⟨by omega, by omega⟩, r_5_kind cy tE S _ b h ⟨fun g6 => ⟨ia, _, _, _, _, _, ha, ⟨by omega, by omega⟩, iq, _, hi, r_size cy tE S _ iq m nq (.ref e) _ hi ⟨fun gq => ⟨⟨by omega, by omega⟩, ?_⟩, fun _ => ⟨⟨by omega, by omega⟩, r_5_refuse cy tE S _ _ b h (fun V hV => ⟨Or.inl rfl, ⟨by omega, by omega⟩, k0 V hV⟩)⟩⟩⟩, fun _ => ⟨⟨by omega, by omega⟩, r_5_refuse cy tE S _ _ b h (fun V hV => ⟨Or.inl rfl, ⟨by omega, by omega⟩, k0 V hV⟩)⟩⟩⟩
  have hN := RD_nx h (by omega)
  have hw := wdt_ge (kn S).toInt
  have c0 := RD_c h
  obtain ⟨hU, eP, e16, -⟩ := RD_16 hN.2.1
  have hFU : KFr S (ksi (ksi S 15 (fi S.1 15 + 1)) 16 0) := KF_si (by decide) hN.1
  have hpU : pn S + 1 ≤ pn (ksi (ksi S 15 (fi S.1 15 + 1)) 16 0) := by
    rw [eP]
    have := hN.2.2.1
    omega
  generalize ksi (ksi S 15 (fi S.1 15 + 1)) 16 0 = U at hU e16 hFU hpU ⊢
  refine r_5_kind cy tE U _ b hU ⟨⟨by omega, by omega⟩, r_5_readChanged cy tE U _ b hU (fun V hV => ⟨fun g => absurd (by decide) g, fun _ => ⟨⟨by omega, by omega⟩, k0 V (KF_tr hFU hV)⟩⟩) (fun r T d hr hd hT => ⟨fun _ => ?_, fun g => by omega⟩)⟩
  have hFT : KFr S T := KF_tr hFU hT.1
  have eT : (fi T.1 16).toInt = 0 := by
    have := hT.2.2.2
    omega
  have hpT : pn S + 2 ≤ pn T := by
    have := hT.2.2.1
    omega
  have b116 : ∀ V, KFr S V → RD b V → (fi V.1 16).toInt < 700 → w_X5_readMake_B116 cy tE mc ms post V 0 0 ac (kn U) r := by
    intro V hV hR hl
    have eLV : V.2.2.2 = S.2.2.2 := by rw [hV.2.1]
    have hXV := HX_kf hX hV
    have hYV : YX cy tE V.2.2.2 A i0 i1 i2 o0 o1 o2 ac ia ip iq op oq np nq fp fq z pa qa u v := by rw [eLV]; exact hY
    have c1 := RD_b hR
    have c2 := hR.2.2.1
    refine ⟨ia, _, _, _, _, _, hYV.1, ?_⟩
    refine r_clM cy tE mc ms 0 0 V (kn U) r (fun a b r S => (a ≤ mc ∧ b ≤ ms) ∧ post 1 S) hXV hYV ⟨c2.1, hl⟩ (by omega) ⟨by omega, by omega⟩ (fun r2 L' B o_ f_ hX2 hY2 => ⟨⟨by omega, by omega⟩, ?_⟩)
    exact k1 _ B o_ f_ hV.1 hR hX2 hY2 gq
  have b108 : ∀ y, w_X5_readMake_B108 cy tE mc ms post T 0 0 ac (kn U) r y := by
    intro y
    refine ⟨⟨by omega, by omega⟩, r_5_readAmount cy tE T _ _ b hT.2.1 (by omega) (fun V hV => ⟨fun g => absurd li_0 g, fun _ => ⟨⟨by omega, by omega⟩, k0 V (KF_tr hFT hV)⟩⟩) (fun V d2 l2 h1 h2 hV => ⟨fun _ => ?_, fun g => absurd g (by decide)⟩)⟩
    have c1 := RD_c hV.2.1
    have c3 := hV.2.2.1
    have c4 := hV.2.2.2
    exact b116 V (KF_tr hFT hV.1) hV.2.1 (by omega)
  have b84 : w_X5_readMake_B84 cy tE mc ms post T 0 0 ac (kn U) r := ⟨fun g => absurd g (by decide), fun _ => ⟨fun _ => b108 _, fun _ => b108 _⟩⟩
  exact ⟨fun _ => b84, fun _ => ⟨fun _ => b84, fun _ => ⟨fun _ => ⟨fun _ => b116 T hFT hT.2.1 (by omega), fun g => absurd li_0 g⟩, fun _ => b84⟩⟩⟩
/-- the Act's cells as they are made -/
theorem YX_start {cy : Nat → ClassId} {tE : Nat} {S : KS} {A : Nat → Prop} {i0 i1 i2 : Nat} {o0 o1 o2 : Option Nat} {n0 n1 n2 : Int32} {f0 f1 f2 : Nat → Option Nat} {ac pa qa : Nat} {z : Int64} {L' : va_W} (h : HX cy tE S A i0 i1 i2 o0 o1 o2 n0 n1 n2 f0 f1 f2) (eL : L' = vn (vn (vn S.2.2.2 (acC ac z (.ref pa) (.ref qa) 0 0)) (lsC pa 0 tE 0)) (lsC qa 0 tE 0)) : HX cy tE (ksL S L') A i0 i1 i2 o0 o1 o2 n0 n1 n2 f0 f1 f2 ∧ YX cy tE L' A i0 i1 i2 o0 o1 o2 ac S.2.2.2.length (S.2.2.2.length + 1) (S.2.2.2.length + 2) none none 0 0 (fun _ => none) (fun _ => none) z pa qa 0 0 := by
  have hlt := HX_lt h
  have hA := h.2.2.2.2.2.2.2.1
  have ln : L'.length = S.2.2.2.length + 3 := by rw [eL, vn_ln, vn_ln, vn_ln]
  have lk : ∀ t, t < S.2.2.2.length → L'[t]? = S.2.2.2[t]? := by
    intro t ht
    rw [eL, vn_lt (by rw [vn_ln, vn_ln]; omega), vn_lt (by rw [vn_ln]; omega), vn_lt ht]
  have k0 : L'[S.2.2.2.length]? = some (acC ac z (.ref pa) (.ref qa) 0 0) := by
    rw [eL, vn_lt (by rw [vn_ln, vn_ln]; omega), vn_lt (by rw [vn_ln]; omega)]; exact vn_at _ _
  have k1 : L'[S.2.2.2.length + 1]? = some (lsC pa 0 tE 0) := by
    rw [eL, vn_lt (by rw [vn_ln, vn_ln]; omega), ← vn_ln S.2.2.2 (acC ac z (.ref pa) (.ref qa) 0 0)]; exact vn_at _ _
  have k2 : L'[S.2.2.2.length + 2]? = some (lsC qa 0 tE 0) := by
    have el : S.2.2.2.length + 2 = (vn (vn S.2.2.2 (acC ac z (.ref pa) (.ref qa) 0 0)) (lsC pa 0 tE 0)).length := by rw [vn_ln, vn_ln]
    rw [eL, el]; exact vn_at _ _
  refine ⟨HX_mo h (fun t ht => ht.elim (fun g => lk t (hA t g).1) (fun g => lk t (hlt t g))) (fun t ht => ht) (fun t ht => ⟨by have := (hA t ht).1; omega, (hA t ht).2⟩), k0, ⟨⟨0, tE, k1, by decide, Or.inl ⟨rfl, rfl, rfl⟩⟩, ⟨0, tE, k2, by decide, Or.inl ⟨rfl, rfl, rfl⟩⟩⟩, by decide, ⟨fun t ht => ?_, fun t ht => ?_⟩, by omega, fun t ht => (by cases ht), fun t ht => (by cases ht), fun t ht => ?_⟩
  · rw [li_0] at ht; omega
  · rw [li_0] at ht; omega
  · have hge : S.2.2.2.length ≤ t := by
      rcases ht with g | g | g | g | g
      · omega
      · omega
      · omega
      · cases g
      · cases g
    exact ⟨fun g => by have := (hA t g).1; omega, fun g => by have := hlt t g; omega⟩
def HE (cy : Nat → ClassId) (tE : Nat) (S : KS) : Prop := ∃ (A : Nat → Prop) (i0 i1 i2 : Nat) (o0 o1 o2 : Option Nat) (n0 n1 n2 : Int32) (f0 f1 f2 : Nat → Option Nat), HX cy tE S A i0 i1 i2 o0 o1 o2 n0 n1 n2 f0 f1 f2
theorem HX_HE {cy : Nat → ClassId} {tE : Nat} {S : KS} {A : Nat → Prop} {i0 i1 i2 : Nat} {o0 o1 o2 : Option Nat} {n0 n1 n2 : Int32} {f0 f1 f2 : Nat → Option Nat} (h : HX cy tE S A i0 i1 i2 o0 o1 o2 n0 n1 n2 f0 f1 f2) : HE cy tE S := ⟨A, i0, i1, i2, o0, o1, o2, n0, n1, n2, f0, f1, f2, h⟩
theorem HE_kf {I J M : List Nat} {cy : Nat → ClassId} {tE : Nat} {S U : KS} (h : HE cy tE S) (f : KF I J M S U) : HE cy tE U := by
  obtain ⟨A, i0, i1, i2, o0, o1, o2, n0, n1, n2, f0, f1, f2, hX⟩ := h
  exact HX_HE (HX_kf hX f)
