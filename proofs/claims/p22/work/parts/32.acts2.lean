def NeedC (S : GS) (t n : Nat) : Prop := 0 ≤ (ar S 10 n).toInt ∧ 0 ≤ (ar S 11 n).toInt ∧ (ar S 11 n).toInt ≤ 720 ∧ Seg (sx S t) (ar S 10 n).toInt.toNat (ar S 11 n).toInt.toNat 0 1
/-- an ACT as it is read -/
def AC (S : GS) (x : Nat) (B T : Prop) : Prop := (0 ≤ (ar S 8 x).toInt ∧ (ar S 8 x).toInt ≤ 4) ∧ (0 ≤ (ar S 9 x).toInt ∧ (ar S 9 x).toInt ≤ 6) ∧ (∀ k : Nat, (k : Int) < (ar S 8 x).toInt → NeedC S 13 (4 * x + k) ∧ (ar S 11 (4 * x + k)).toInt ≤ nn S) ∧ (∀ k : Nat, (k : Int) < (ar S 9 x).toInt → MakeC S 13 (6 * x + k) B T ∧ ((ar S 16 (6 * x + k)).toInt ≠ (ar S 15 (6 * x + k)).toInt → (ar S 16 (6 * x + k)).toInt ≤ nn S))
theorem AC_kp {S S' : GS} {x na nb : Nat} {B T B' T' : Prop} (h : AC S x B T) (hna : (ar S 8 x).toInt ≤ na) (hnb : (ar S 9 x).toInt ≤ nb) (hK : KQ 0 (4 * x + na) (6 * x + nb) S S') (h8 : ar S' 8 x = ar S 8 x) (h9 : ar S' 9 x = ar S 9 x) (hB : B → B') (hT : T → T') : AC S' x B' T' := by
  obtain ⟨p, q, r, s⟩ := h
  obtain ⟨k2, k3, k4, k5, k6, k7⟩ := hK
  refine ⟨by rw [h8]; exact p, by rw [h9]; exact q, fun k hk => ?_, fun k hk => ?_⟩
  · rw [h8] at hk
    obtain ⟨⟨r1, r2, r3, r4⟩, r5⟩ := r k hk
    have e10 := k6 10 (by decide) (4 * x + k) (by omega)
    have e11 := k6 11 (by decide) (4 * x + k) (by omega)
    unfold NeedC
    rw [e10, e11]
    refine ⟨⟨r1, r2, r3, Seg_cg (fun i a b => ?_) r4⟩, by omega⟩
    show ar S' 5 (1440 * 13 + 2 * i) = ar S 5 (1440 * 13 + 2 * i)
    exact k3 _ (by omega)
  · rw [h9] at hk
    obtain ⟨s1, s2⟩ := s k hk
    have e12 := k7 12 (by decide) (6 * x + k) (by omega)
    have e13 := k7 13 (by decide) (6 * x + k) (by omega)
    have e14 := k7 14 (by decide) (6 * x + k) (by omega)
    have e15 := k7 15 (by decide) (6 * x + k) (by omega)
    have e16 := k7 16 (by decide) (6 * x + k) (by omega)
    refine ⟨MakeC_cg s1 s2 hB hT k3 e12 e13 e14 e15 e16, ?_⟩
    rw [e15, e16]
    intro g
    have := s2 g
    omega
theorem AC_need {S : GS} {x : Nat} {B T : Prop} {v : Int32} (h : AC S x B T) (h4 : (ar S 8 x).toInt < 4) (h0 : 0 ≤ (ar S 10 (4 * x + (ar S 8 x).toInt.toNat)).toInt) (hv : v.toInt = nn S ∧ 0 ≤ nn S ∧ nn S ≤ 720) (hs : Seg (sx S 13) (ar S 10 (4 * x + (ar S 8 x).toInt.toNat)).toInt.toNat v.toInt.toNat 0 1) : AC (su (su S 11 (4 * x + (ar S 8 x).toInt.toNat) v) 8 x (ar S 8 x + 1)) x B T := by
  obtain ⟨p, q, r, s⟩ := h
  have eF : Fr [] [] [8, 11] [] S (su (su S 11 (4 * x + (ar S 8 x).toInt.toNat) v) 8 x (ar S 8 x + 1)) := Fr.su (by decide) (Fr.su (by decide) Fr.rf)
  have a8 : (ar (su (su S 11 (4 * x + (ar S 8 x).toInt.toNat) v) 8 x (ar S 8 x + 1)) 8 x).toInt = (ar S 8 x).toInt + 1 := by
    have : ar (su (su S 11 (4 * x + (ar S 8 x).toInt.toNat) v) 8 x (ar S 8 x + 1)) 8 = upd (ar (su S 11 (4 * x + (ar S 8 x).toInt.toNat) v) 8) x (ar S 8 x + 1) := su_at _ _ _ _
    rw [this, upd_at, inc1 (by omega)]
  have a11 : ar (su (su S 11 (4 * x + (ar S 8 x).toInt.toNat) v) 8 x (ar S 8 x + 1)) 11 = upd (ar S 11) (4 * x + (ar S 8 x).toInt.toNat) v := (su_ne (by decide)).trans (su_at _ _ _ _)
  generalize su (su S 11 (4 * x + (ar S 8 x).toInt.toNat) v) 8 x (ar S 8 x + 1) = W at eF a8 a11 ⊢
  have e9 : ar W 9 = ar S 9 := eF.2.2.1 9 (by decide)
  have e10 : ar W 10 = ar S 10 := eF.2.2.1 10 (by decide)
  have e5 : ar W 5 = ar S 5 := eF.2.2.1 5 (by decide)
  have esx : sx W 13 = sx S 13 := by unfold sx; rw [e5]
  have en := nn_fr eF (by decide)
  refine ⟨by omega, by rw [e9]; exact q, fun k hk => ?_, fun k hk => ?_⟩
  · unfold NeedC
    rw [e10, a11, esx, en]
    by_cases e : k = (ar S 8 x).toInt.toNat
    · rw [e, upd_at]
      exact ⟨⟨h0, by omega, by omega, hs⟩, by omega⟩
    · rw [upd_ne (by omega)]
      exact r k (by omega)
  · rw [e9] at hk
    obtain ⟨s1, s2⟩ := s k hk
    have e12 : ar W 12 = ar S 12 := eF.2.2.1 12 (by decide)
    have e13 : ar W 13 = ar S 13 := eF.2.2.1 13 (by decide)
    have e14 : ar W 14 = ar S 14 := eF.2.2.1 14 (by decide)
    have e15 : ar W 15 = ar S 15 := eF.2.2.1 15 (by decide)
    have e16 : ar W 16 = ar S 16 := eF.2.2.1 16 (by decide)
    refine ⟨MakeC_cg s1 s2 id id (fun i _ => by rw [e5]) (by rw [e12]) (by rw [e13]) (by rw [e14]) (by rw [e15]) (by rw [e16]), ?_⟩
    rw [e15, e16, en]; exact s2
theorem AC_make {S : GS} {x : Nat} {B T : Prop} (h : AC S x B T) (h6 : (ar S 9 x).toInt < 6) (hM : MakeC S 13 (6 * x + (ar S 9 x).toInt.toNat) B T) (hb : (ar S 16 (6 * x + (ar S 9 x).toInt.toNat)).toInt ≠ (ar S 15 (6 * x + (ar S 9 x).toInt.toNat)).toInt → (ar S 16 (6 * x + (ar S 9 x).toInt.toNat)).toInt ≤ nn S) : AC (su S 9 x (ar S 9 x + 1)) x B T := by
  obtain ⟨p, q, r, s⟩ := h
  have eF : Fr [] [] [9] [] S (su S 9 x (ar S 9 x + 1)) := Fr.su (by decide) Fr.rf
  have a9 : (ar (su S 9 x (ar S 9 x + 1)) 9 x).toInt = (ar S 9 x).toInt + 1 := by
    have : ar (su S 9 x (ar S 9 x + 1)) 9 = upd (ar S 9) x (ar S 9 x + 1) := su_at _ _ _ _
    rw [this, upd_at, inc1 (by omega)]
  generalize su S 9 x (ar S 9 x + 1) = W at eF a9 ⊢
  have e8 : ar W 8 = ar S 8 := eF.2.2.1 8 (by decide)
  have e10 : ar W 10 = ar S 10 := eF.2.2.1 10 (by decide)
  have e11 : ar W 11 = ar S 11 := eF.2.2.1 11 (by decide)
  have e5 : ar W 5 = ar S 5 := eF.2.2.1 5 (by decide)
  have esx : sx W 13 = sx S 13 := by unfold sx; rw [e5]
  have en := nn_fr eF (by decide)
  refine ⟨by rw [e8]; exact p, by omega, fun k hk => ?_, fun k hk => ?_⟩
  · rw [e8] at hk
    unfold NeedC
    rw [e10, e11, esx, en]
    exact r k hk
  · have hk2 : (k : Int) < (ar S 9 x).toInt ∨ k = (ar S 9 x).toInt.toNat := by omega
    have hh : MakeC S 13 (6 * x + k) B T ∧ ((ar S 16 (6 * x + k)).toInt ≠ (ar S 15 (6 * x + k)).toInt → (ar S 16 (6 * x + k)).toInt ≤ nn S) := by
      rcases hk2 with g | g
      · exact s k g
      · rw [g]; exact ⟨hM, hb⟩
    have e12 : ar W 12 = ar S 12 := eF.2.2.1 12 (by decide)
    have e13 : ar W 13 = ar S 13 := eF.2.2.1 13 (by decide)
    have e14 : ar W 14 = ar S 14 := eF.2.2.1 14 (by decide)
    have e15 : ar W 15 = ar S 15 := eF.2.2.1 15 (by decide)
    have e16 : ar W 16 = ar S 16 := eF.2.2.1 16 (by decide)
    refine ⟨MakeC_cg hh.1 hh.2 id id (fun i _ => by rw [e5]) (by rw [e12]) (by rw [e13]) (by rw [e14]) (by rw [e15]) (by rw [e16]), ?_⟩
    rw [e15, e16, en]; exact hh.2
/-- an ACT that was read -/
def DA (S : GS) (y : Nat) : Prop := AC S y ((ar S 19 y).toInt = 1) ((ar S 20 y).toInt = 1) ∧ (ar S 19 y = 0 ∨ ar S 19 y = 1) ∧ (ar S 20 y = 0 ∨ ar S 20 y = 1)
def NA (S : GS) (y : Nat) : Prop := 0 ≤ (ar S 17 y).toInt ∧ 0 ≤ (ar S 18 y).toInt ∧ (ar S 17 y).toInt + (ar S 18 y).toInt ≤ 700
theorem DA_kp {S S' : GS} {x y : Nat} (hy : y < x) (hK : KQ x (4 * x) (6 * x) S S') (h : DA S y) : DA S' y := by
  have k5 := hK.2.2.2.1
  have e8 := k5 8 (by decide) y hy
  have e9 := k5 9 (by decide) y hy
  have e19 := k5 19 (by decide) y hy
  have e20 := k5 20 (by decide) y hy
  obtain ⟨p, q, r⟩ := h
  unfold DA
  rw [e19, e20]
  refine ⟨AC_kp p (na := 4) (nb := 6) p.1.2 p.2.1.2 (KQ_lo hK (by omega) (by omega) (by omega)) e8 e9 id id, q, r⟩
theorem NA_kp {S S' : GS} {x b c y : Nat} (hy : y < x) (hK : KQ x b c S S') (h : NA S y) : NA S' y := by
  have k5 := hK.2.2.2.1
  unfold NA
  rw [k5 17 (by decide) y hy, k5 18 (by decide) y hy]; exact h
theorem BM_bool {S S' : GS} (h : BM S S') (hb : (fi S 14 = 0 ∨ fi S 14 = 1) ∧ (fi S 15 = 0 ∨ fi S 15 = 1)) : (fi S' 14 = 0 ∨ fi S' 14 = 1) ∧ (fi S' 15 = 0 ∨ fi S' 15 = 1) := by
  refine ⟨?_, ?_⟩
  · rcases h.1 with e | e
    · rw [e]; exact hb.1
    · exact Or.inr e
  · rcases h.2 with e | e
    · rw [e]; exact hb.2
    · exact Or.inr e
set_option maxHeartbeats 1000000 in
theorem q_anAct (S : GS) (f : Nat) (post : Int32 → GS → Prop) (hL : Lx S) (hf : (fi S 12).toInt = (f : Int)) (hf6 : f ≤ 6) (hD : ∀ y : Nat, 12 ≤ y → y < 12 + f → DA S y ∧ NA S y) (k : ∀ (r : Int32) (S' : GS), KPx S S' → (r = 0 ∨ r = 1) → (r.toInt ≠ 0 → Lx S' ∧ (fi S 4).toInt < (fi S' 4).toInt ∧ (fi S' 12).toInt = ((f + 1 : Nat) : Int) ∧ f + 1 ≤ 6 ∧ ∀ y : Nat, 12 ≤ y → y < 12 + (f + 1) → DA S' y ∧ NA S' y) → post r S') : w_X12_anAct S post := by
  unfold w_X12_anAct
  have kx : ∀ {T : GS}, KP 12 48 72 S T → KPx S T := fun h => ⟨h.1.wk (by decide), h.2⟩
  have bad : ∀ (T : GS) (v : Int32), KP 12 48 72 S T → (((0 : Int32) = 0 ∨ (0 : Int32) = 1) ∧ post 0 (si (si T 6 v) 7 (fi T 4))) := fun T v hK => ⟨Or.inl rfl, k 0 _ (kx (KP_tr hK (EE_kp (EE_bad T v)))) (Or.inl rfl) no0⟩
  refine ⟨fun g1 => ⟨fun g2 => ?_, fun _ => bad S 3 (KP_rf _ _ _ S)⟩, fun _ => bad S 1 (KP_rf _ _ _ S)⟩
  refine q_next0 _ _ (NX_pre hL) (fun S2 hN2 => ?_)
  have hG2 := GO_nx hL (by omega) hN2
  have hK2 : ∀ a b c, KP a b c S S2 := fun a b c => EE_kp (NX_ee hN2)
  refine ⟨fun g3 => ?_, fun _ => bad S2 1 (hK2 _ _ _)⟩
  have ex : ((12 : Int32) + fi S 12).toInt = 12 + (f : Int) := by rw [ad_12 (by omega), hf]
  have exn : ((12 : Int32) + fi S 12).toNatClampNeg = 12 + f := by rw [tnc, ex]; omega
  obtain ⟨a1, a2, a3, a4, a5, a6, a7⟩ := hG2.1
  have a8 := a5 (by omega)
  refine q_isKnown S2 _ _ ⟨a1, a2, by omega⟩ (by omega) (fun y hy1 hy2 => ?_) (fun r3 => ⟨fun _ => ?_, fun _ => bad S2 2 (hK2 _ _ _)⟩)
  · have := (hD y hy1 (by omega)).2
    exact NA_kp (x := 12 + f) (b := 0) (c := 0) (by omega) (hK2 _ _ _).2 this
  rw [exn]
  have hb12 : 0 ≤ ((12 : Int32) + fi S 12).toInt ∧ ((12 : Int32) + fi S 12).toInt < 18 := by omega
  refine ⟨hb12, hb12, hb12, hb12, ?_⟩
  have es : (fi S2 2 - fi S2 4).toInt = (fi S2 2).toInt - (fi S2 4).toInt := by
    clear ex hb12
    simp (disch := omega) only [Int32.toInt_add, Int32.toInt_sub, Int32.toInt_mul, Int32.toInt_neg, Int32.toInt_div, li_0, li_1, li_2, li_3, li_4, li_5, li_6, li_7, li_8, li_9, li_10, li_11, li_12, li_13, li_14, li_15, li_16, li_20, li_21, li_22, li_23, li_24, li_25, li_26, li_27, li_28, li_29, li_30, li_31, li_32, li_35, li_36, li_40, li_41, li_42, li_43, li_45, li_48, li_50, li_51, li_57, li_59, li_60, li_61, li_62, li_63, li_64, li_97, li_99, li_100, li_122, li_200, li_255, li_302, li_303, li_304, li_305, li_306, li_307, li_308, li_309, li_310, li_311, li_312, li_313, li_314, li_315, li_316, li_317, li_318, li_319, li_400, li_700, li_701, li_720, li_767, li_768, li_999, li_1000, li_1023, li_1024, li_1440, li_18720, tdv, bm, tnc]
  -- the ACT begins
  have hKV : KP (12 + f) (4 * (12 + f)) (6 * (12 + f)) S2 (si (si (su (su (su (su S2 17 (12 + f) (fi S2 4)) 18 (12 + f) (fi S2 2 - fi S2 4)) 8 (12 + f) 0) 9 (12 + f) 0) 14 0) 15 0) := by
    refine KP_tr (KP_s1 (j := 17) (v := fi S2 4) (by decide) (Nat.le_refl _)) (KP_tr (KP_s1 (j := 18) (v := fi S2 2 - fi S2 4) (by decide) (Nat.le_refl _)) (KP_tr (KP_s1 (j := 8) (v := 0) (by decide) (Nat.le_refl _)) (KP_tr (KP_s1 (j := 9) (v := 0) (by decide) (Nat.le_refl _)) ?_)))
    exact KP_fr (Fr.si (by decide) (Fr.si (by decide) Fr.rf)) (Int.le_refl _) (fun _ _ => rfl) (fun _ _ => rfl)
  have vF : Fr [14, 15] [] [8, 9, 17, 18] [] S2 (si (si (su (su (su (su S2 17 (12 + f) (fi S2 4)) 18 (12 + f) (fi S2 2 - fi S2 4)) 8 (12 + f) 0) 9 (12 + f) 0) 14 0) 15 0) := Fr.si (by decide) (Fr.si (by decide) (Fr.su (by decide) (Fr.su (by decide) (Fr.su (by decide) (Fr.su (by decide) Fr.rf)))))
  have v8 : (ar (si (si (su (su (su (su S2 17 (12 + f) (fi S2 4)) 18 (12 + f) (fi S2 2 - fi S2 4)) 8 (12 + f) 0) 9 (12 + f) 0) 14 0) 15 0) 8 (12 + f)).toInt = 0 := by
    show ((si (si (su (su (su (su S2 17 (12 + f) (fi S2 4)) 18 (12 + f) (fi S2 2 - fi S2 4)) 8 (12 + f) 0) 9 (12 + f) 0) 14 0) 15 0).2.2.1 8 (12 + f)).toInt = 0
    rw [si_2, si_2, su_ne (by decide), su_at, upd_at]; decide
  have v9 : (ar (si (si (su (su (su (su S2 17 (12 + f) (fi S2 4)) 18 (12 + f) (fi S2 2 - fi S2 4)) 8 (12 + f) 0) 9 (12 + f) 0) 14 0) 15 0) 9 (12 + f)).toInt = 0 := by
    show ((si (si (su (su (su (su S2 17 (12 + f) (fi S2 4)) 18 (12 + f) (fi S2 2 - fi S2 4)) 8 (12 + f) 0) 9 (12 + f) 0) 14 0) 15 0).2.2.1 9 (12 + f)).toInt = 0
    rw [si_2, si_2, su_at, upd_at]; decide
  have v17 : NA (si (si (su (su (su (su S2 17 (12 + f) (fi S2 4)) 18 (12 + f) (fi S2 2 - fi S2 4)) 8 (12 + f) 0) 9 (12 + f) 0) 14 0) 15 0) (12 + f) := by
    have n17 : (si (si (su (su (su (su S2 17 (12 + f) (fi S2 4)) 18 (12 + f) (fi S2 2 - fi S2 4)) 8 (12 + f) 0) 9 (12 + f) 0) 14 0) 15 0).2.2.1 17 (12 + f) = fi S2 4 := by
      rw [si_2, si_2, su_ne (by decide), su_ne (by decide), su_ne (by decide), su_at, upd_at]
    have n18 : (si (si (su (su (su (su S2 17 (12 + f) (fi S2 4)) 18 (12 + f) (fi S2 2 - fi S2 4)) 8 (12 + f) 0) 9 (12 + f) 0) 14 0) 15 0).2.2.1 18 (12 + f) = fi S2 2 - fi S2 4 := by
      rw [si_2, si_2, su_ne (by decide), su_ne (by decide), su_at, upd_at]
    unfold NA
    show 0 ≤ ((si (si (su (su (su (su S2 17 (12 + f) (fi S2 4)) 18 (12 + f) (fi S2 2 - fi S2 4)) 8 (12 + f) 0) 9 (12 + f) 0) 14 0) 15 0).2.2.1 17 (12 + f)).toInt ∧ 0 ≤ ((si (si (su (su (su (su S2 17 (12 + f) (fi S2 4)) 18 (12 + f) (fi S2 2 - fi S2 4)) 8 (12 + f) 0) 9 (12 + f) 0) 14 0) 15 0).2.2.1 18 (12 + f)).toInt ∧ ((si (si (su (su (su (su S2 17 (12 + f) (fi S2 4)) 18 (12 + f) (fi S2 2 - fi S2 4)) 8 (12 + f) 0) 9 (12 + f) 0) 14 0) 15 0).2.2.1 17 (12 + f)).toInt + ((si (si (su (su (su (su S2 17 (12 + f) (fi S2 4)) 18 (12 + f) (fi S2 2 - fi S2 4)) 8 (12 + f) 0) 9 (12 + f) 0) 14 0) 15 0).2.2.1 18 (12 + f)).toInt ≤ 700
    rw [n17, n18, es]
    clear ex hb12
    omega
  have v14 : fi (si (si (su (su (su (su S2 17 (12 + f) (fi S2 4)) 18 (12 + f) (fi S2 2 - fi S2 4)) 8 (12 + f) 0) 9 (12 + f) 0) 14 0) 15 0) 14 = 0 := by
    show (si (si _ 14 0) 15 0).1 14 = 0
    rw [si_ne (by decide), si_at]
  have v15 : fi (si (si (su (su (su (su S2 17 (12 + f) (fi S2 4)) 18 (12 + f) (fi S2 2 - fi S2 4)) 8 (12 + f) 0) 9 (12 + f) 0) 14 0) 15 0) 15 = 0 := si_at _ _ _
  clear es
  generalize si (si (su (su (su (su S2 17 (12 + f) (fi S2 4)) 18 (12 + f) (fi S2 2 - fi S2 4)) 8 (12 + f) 0) 9 (12 + f) 0) 14 0) 15 0 = V at hKV vF v8 v9 v17 v14 v15 ⊢
  have hLV := Lx_fr hG2.1 vF (by decide) (by decide)
  have v3 : fi V 3 = fi S2 3 := vF.1 3 (by decide)
  have v4 : fi V 4 = fi S2 4 := vF.1 4 (by decide)
  refine q_next0 _ _ (NX_pre hLV) (fun S10 hN10 => ?_)
  have hG10 := GO_nx hLV (by rw [v3]; omega) hN10
  have q4 : (fi S 4).toInt < (fi S10 4).toInt := by
    have z1 := hG2.2.2.1
    have z2 := hG10.2.2.1
    rw [v4] at z2; omega
  have hK10 : KP (12 + f) (4 * (12 + f)) (6 * (12 + f)) S S10 := KP_tr (hK2 _ _ _) (KP_tr hKV (EE_kp (NX_ee hN10)))
  have hA10 : AC S10 (12 + f) (fi S10 14 = 1) (fi S10 15 = 1) := by
    have e8 : ar S10 8 = ar V 8 := hN10.1.2.2.1 8 (by decide)
    have e9 : ar S10 9 = ar V 9 := hN10.1.2.2.1 9 (by decide)
    refine ⟨by rw [e8]; omega, by rw [e9]; omega, fun q hq => by rw [e8] at hq; omega, fun q hq => by rw [e9] at hq; omega⟩
  have hN10' : NA S10 (12 + f) := NA_kp (x := 12 + f + 1) (b := 0) (c := 0) (by omega) (EE_kp (NX_ee hN10)).2 v17
  have hb10 : (fi S10 14 = 0 ∨ fi S10 14 = 1) ∧ (fi S10 15 = 0 ∨ fi S10 15 = 1) := BM_bool hG10.2.2.2.2 ⟨Or.inl v14, Or.inl v15⟩
  have f10 : (fi S10 12).toInt = (f : Int) := by
    have : fi S10 12 = fi S 12 := (hN10.1.1 12 (by decide)).trans ((vF.1 12 (by decide)).trans (hN2.1.1 12 (by decide)))
    rw [this, hf]
  have hf5 : f ≤ 5 := by omega
  refine lr2 (fun (T : GS) (x : Int32) => x = (12 : Int32) + fi S 12 ∧ KP (12 + f) (4 * (12 + f)) (6 * (12 + f)) S T ∧ Lx T ∧ (fi S 4).toInt < (fi T 4).toInt ∧ (fi T 12).toInt = (f : Int) ∧ AC T (12 + f) (fi T 14 = 1) (fi T 15 = 1) ∧ NA T (12 + f) ∧ ((fi T 14 = 0 ∨ fi T 14 = 1) ∧ (fi T 15 = 0 ∨ fi T 15 = 1))) (fun T _ => (700 - (fi T 4).toInt).toNat) ?_ _ _ ⟨rfl, hK10, hG10.1, q4, f10, hA10, hN10', hb10⟩
  rintro kk T x ⟨rfl, hKT, hLT, t4, t12, hAT, hNT, hbT⟩ hk
  have badT : ∀ (U : GS) (v : Int32), KP (12 + f) (4 * (12 + f)) (6 * (12 + f)) S U → (((0 : Int32) = 0 ∨ (0 : Int32) = 1) ∧ post 0 (si (si U 6 v) 7 (fi U 4))) := fun U v hK => bad U v (KP_lo hK (by omega) (by omega) (by omega))
  have bad0 : ∀ (U : GS), KP (12 + f) (4 * (12 + f)) (6 * (12 + f)) S U → post 0 U := fun U hK => k 0 U (kx (KP_lo hK (by omega) (by omega) (by omega))) (Or.inl rfl) no0
  have b194 : ∀ y : Int32, (fi T 3).toInt ≠ 0 → (y.toInt = 0 → (ar T 9 (12 + f)).toInt ≠ 6) → (y.toInt ≠ 0 → (ar T 8 (12 + f)).toInt ≠ 4) → w_X12_anAct_B194 post kk (w_X12_anAct_B294 post) T ((12 : Int32) + fi S 12) y := by
    intro y ht hy0 hy1
    unfold w_X12_anAct_B194 w_X12_anAct_B291
    rw [exn]
    refine q_next0 _ _ (NX_pre hLT) (fun S13 hN13 => ?_)
    have hG13 := GO_nx hLT ht hN13
    have e8 : ar S13 8 = ar T 8 := hN13.1.2.2.1 8 (by decide)
    have e9 : ar S13 9 = ar T 9 := hN13.1.2.2.1 9 (by decide)
    have z13 := hG13.2.2.1
    have f13 : fi S13 12 = fi T 12 := hN13.1.1 12 (by decide)
    have hA13 : AC S13 (12 + f) (fi S13 14 = 1) (fi S13 15 = 1) := AC_kp hAT (na := 4) (nb := 6) hAT.1.2 hAT.2.1.2 (EE_kp (NX_ee hN13)).2 (by rw [e8]) (by rw [e9]) (BM_one hG13.2.2.2.2).1 (BM_one hG13.2.2.2.2).2
    have hK13 : KP (12 + f) (4 * (12 + f)) (6 * (12 + f)) S S13 := KP_tr hKT (EE_kp (NX_ee hN13))
    have hN13' : NA S13 (12 + f) := NA_kp (x := 12 + f + 1) (b := 0) (c := 0) (by omega) (EE_kp (NX_ee hN13)).2 hNT
    have hb13 := BM_bool hG13.2.2.2.2 hbT
    have hp := hA13.1
    have hq := hA13.2.1
    refine ⟨fun gy => ⟨hb12, ?_⟩, fun gy => ⟨hb12, ?_⟩⟩
    · -- a make
      have h6 := hy0 gy
      rw [← e9] at h6
      have em : ((6 : Int32) * ((12 : Int32) + fi S 12) + ar S13 9 (12 + f)).toInt = 6 * (12 + (f : Int)) + (ar S13 9 (12 + f)).toInt := by
        rw [ma_6 (by omega) (by omega), ex]
      have emn : ((6 : Int32) * ((12 : Int32) + fi S 12) + ar S13 9 (12 + f)).toInt.toNat = 6 * (12 + f) + (ar S13 9 (12 + f)).toInt.toNat := by rw [em]; omega
      refine q_change S13 (12 + f + 1) (4 * (12 + f) + 4) (6 * (12 + f) + (ar S13 9 (12 + f)).toInt.toNat) _ _ hG13.1 (by rw [em]; omega) (by rw [emn]; exact Nat.le_refl _) (fun r15 S16 hK16 hr15 h15 => ⟨fun g15 => ⟨hb12, hb12, ?_⟩, fun _ => bad0 S16 (KP_tr hK13 (KP_lo hK16 (by omega) (by omega) (by omega)))⟩)
      obtain ⟨c1, c2, c3, c4, c5⟩ := h15 g15
      rw [emn] at c4 c5
      clear em emn
      have r8 : ar S16 8 (12 + f) = ar S13 8 (12 + f) := hK16.2.2.2.2.1 8 (by decide) _ (by omega)
      have r9 : ar S16 9 (12 + f) = ar S13 9 (12 + f) := hK16.2.2.2.2.1 9 (by decide) _ (by omega)
      have hA16 : AC S16 (12 + f) (fi S16 14 = 1) (fi S16 15 = 1) := AC_kp hA13 (na := 4) (nb := (ar S13 9 (12 + f)).toInt.toNat) hp.2 (by omega) (KQ_lo hK16.2 (by omega) (by omega) (by omega)) r8 r9 (BM_one c3).1 (BM_one c3).2
      rw [← r9] at c4 c5
      have hA17 := AC_make hA16 (by rw [r9]; omega) c4 c5
      have wF : Fr [] [] [9] [] S16 (su S16 9 (12 + f) (ar S16 9 (12 + f) + 1)) := Fr.su (by decide) Fr.rf
      have hK17 : KP (12 + f) (4 * (12 + f)) (6 * (12 + f)) S16 (su S16 9 (12 + f) (ar S16 9 (12 + f) + 1)) := KP_s1 (by decide) (Nat.le_refl _)
      generalize su S16 9 (12 + f) (ar S16 9 (12 + f) + 1) = W at hA17 wF hK17 ⊢
      have w4 : fi W 4 = fi S16 4 := wF.1 4 (by decide)
      have w14 : fi W 14 = fi S16 14 := wF.1 14 (by decide)
      have w15 : fi W 15 = fi S16 15 := wF.1 15 (by decide)
      have w12 : fi W 12 = fi S16 12 := wF.1 12 (by decide)
      have n16 : NA S16 (12 + f) := NA_kp (x := 12 + f + 1) (by omega) hK16.2 hN13'
      have s12 : (fi S16 12).toInt = (f : Int) := by
        have : fi S16 12 = fi S13 12 := hK16.1.1 12 (by decide)
        rw [this, f13]; exact t12
      have hLW := Lx_fr c1 wF (by decide) (by decide)
      have l4 := hLW.2.1
      have l5 := hLW.2.2.1
      have l6 := hLW.2.2.2.1
      refine hk _ _ ⟨rfl, KP_tr hK13 (KP_tr (KP_lo hK16 (by omega) (by omega) (by omega)) hK17), hLW, by rw [w4]; omega, by rw [w12]; exact s12, by rw [w14, w15]; exact hA17, ?_, by rw [w14, w15]; exact BM_bool c3 hb13⟩ (by rw [w4] at *; omega)
      unfold NA
      have x17 : ar W 17 = ar S16 17 := wF.2.2.1 17 (by decide)
      have x18 : ar W 18 = ar S16 18 := wF.2.2.1 18 (by decide)
      rw [x17, x18]; exact n16
    · -- a need
      have h4 := hy1 gy
      rw [← e8] at h4
      have em : ((4 : Int32) * ((12 : Int32) + fi S 12) + ar S13 8 (12 + f)).toInt = 4 * (12 + (f : Int)) + (ar S13 8 (12 + f)).toInt := by
        rw [ma_4 (by omega) (by omega), ex]
      have emn : ((4 : Int32) * ((12 : Int32) + fi S 12) + ar S13 8 (12 + f)).toNatClampNeg = 4 * (12 + f) + (ar S13 8 (12 + f)).toInt.toNat := by rw [tnc, em]; omega
      rw [emn, em]
      clear em emn
      refine ⟨by omega, ?_⟩
      have uF : Fr [] [] [10] [] S13 (su S13 10 (4 * (12 + f) + (ar S13 8 (12 + f)).toInt.toNat) (ar S13 6 13)) := Fr.su (by decide) Fr.rf
      have u10 : ar (su S13 10 (4 * (12 + f) + (ar S13 8 (12 + f)).toInt.toNat) (ar S13 6 13)) 10 (4 * (12 + f) + (ar S13 8 (12 + f)).toInt.toNat) = ar S13 6 13 := by
        have : ar (su S13 10 (4 * (12 + f) + (ar S13 8 (12 + f)).toInt.toNat) (ar S13 6 13)) 10 = upd (ar S13 10) (4 * (12 + f) + (ar S13 8 (12 + f)).toInt.toNat) (ar S13 6 13) := su_at _ _ _ _
        rw [this, upd_at]
      have hKU : KP (12 + f + 1) (4 * (12 + f) + (ar S13 8 (12 + f)).toInt.toNat) (6 * (12 + f) + 6) S13 (su S13 10 (4 * (12 + f) + (ar S13 8 (12 + f)).toInt.toNat) (ar S13 6 13)) := KP_s2 (by decide) (Nat.le_refl _)
      generalize su S13 10 (4 * (12 + f) + (ar S13 8 (12 + f)).toInt.toNat) (ar S13 6 13) = U at uF u10 hKU ⊢
      have hLU := Lx_fr hG13.1 uF (by decide) (by decide)
      have un := nn_fr uF (by decide)
      have u8 : ar U 8 = ar S13 8 := uF.2.2.1 8 (by decide)
      have u9 : ar U 9 = ar S13 9 := uF.2.2.1 9 (by decide)
      have u4 : fi U 4 = fi S13 4 := uF.1 4 (by decide)
      refine q_asked U _ hLU (fun r21 S22 hE22 hr21 h21 => ⟨fun g21 => ⟨by omega, hb12, hb12, ?_⟩, fun _ => bad0 S22 (KP_tr hK13 (KP_tr (KP_lo hKU (by omega) (by omega) (by omega)) (EE_kp hE22)))⟩)
      obtain ⟨c1, c2, c3, c4⟩ := h21 g21
      have s8 : ar S22 8 = ar S13 8 := (hE22.1.2.2.1 8 (by decide)).trans u8
      have s9 : ar S22 9 = ar S13 9 := (hE22.1.2.2.1 9 (by decide)).trans u9
      have s10 : ar S22 10 (4 * (12 + f) + (ar S13 8 (12 + f)).toInt.toNat) = ar S13 6 13 := by
        have : ar S22 10 = ar U 10 := hE22.1.2.2.1 10 (by decide)
        rw [this, u10]
      have bm22 : BM S13 S22 := BM_tr (BM_fr uF (by decide) (by decide)) c3
      have hA22 : AC S22 (12 + f) (fi S22 14 = 1) (fi S22 15 = 1) := AC_kp hA13 (na := (ar S13 8 (12 + f)).toInt.toNat) (nb := 6) (by omega) hq.2 (KQ_tr (KQ_lo hKU.2 (by omega) (by omega) (by omega)) (EE_kp hE22).2) (by rw [s8]) (by rw [s9]) (BM_one bm22).1 (BM_one bm22).2
      have y5 := nn_lx c1
      have y6 := hG13.1.2.2.2.2.2.1
      have hA23 := AC_need (v := ar S22 6 13) hA22 (by rw [s8]; omega) (by rw [s8, s10]; exact y6) ⟨rfl, y5.1, by omega⟩ (by
        rw [s8, s10]
        rw [un] at c4
        exact c4)
      rw [s8] at hA23 ⊢
      have wF : Fr [] [] [8, 11] [] S22 (su (su S22 11 (4 * (12 + f) + (ar S13 8 (12 + f)).toInt.toNat) (ar S22 6 13)) 8 (12 + f) (ar S13 8 (12 + f) + 1)) := Fr.su (by decide) (Fr.su (by decide) Fr.rf)
      have hKW : KP (12 + f) (4 * (12 + f)) (6 * (12 + f)) S22 (su (su S22 11 (4 * (12 + f) + (ar S13 8 (12 + f)).toInt.toNat) (ar S22 6 13)) 8 (12 + f) (ar S13 8 (12 + f) + 1)) := KP_tr (KP_s2 (by decide) (by omega)) (KP_s1 (by decide) (Nat.le_refl _))
      generalize su (su S22 11 (4 * (12 + f) + (ar S13 8 (12 + f)).toInt.toNat) (ar S22 6 13)) 8 (12 + f) (ar S13 8 (12 + f) + 1) = W at hA23 wF hKW ⊢
      have w4 : fi W 4 = fi S22 4 := wF.1 4 (by decide)
      have w14 : fi W 14 = fi S22 14 := wF.1 14 (by decide)
      have w15 : fi W 15 = fi S22 15 := wF.1 15 (by decide)
      have w12 : fi W 12 = fi S13 12 := (wF.1 12 (by decide)).trans ((hE22.1.1 12 (by decide)).trans (uF.1 12 (by decide)))
      have hLW := Lx_fr c1 wF (by decide) (by decide)
      have l4 := hLW.2.1
      have l5 := hLW.2.2.1
      have l6 := hLW.2.2.2.1
      have l7 := hE22.2.2.2
      rw [u4] at c2
      refine hk _ _ ⟨rfl, KP_tr hK13 (KP_tr (KP_lo hKU (by omega) (by omega) (by omega)) (KP_tr (EE_kp hE22) hKW)), hLW, by rw [w4]; omega, by rw [w12, f13]; exact t12, by rw [w14, w15]; exact hA23, ?_, by rw [w14, w15]; exact BM_bool bm22 hb13⟩ (by rw [w4] at *; omega)
      unfold NA
      have x17 : ar W 17 = ar S13 17 := (wF.2.2.1 17 (by decide)).trans ((hE22.1.2.2.1 17 (by decide)).trans (uF.2.2.1 17 (by decide)))
      have x18 : ar W 18 = ar S13 18 := (wF.2.2.1 18 (by decide)).trans ((hE22.1.2.2.1 18 (by decide)).trans (uF.2.2.1 18 (by decide)))
      rw [x17, x18]; exact hN13'
  have b144 : (fi T 3).toInt ≠ 0 → w_X12_anAct_B144 post kk (w_X12_anAct_B294 post) T ((12 : Int32) + fi S 12) := by
    intro ht
    unfold w_X12_anAct_B144 w_X12_anAct_B159 w_X12_anAct_B188
    rw [exn]
    refine ⟨fun _ => ⟨fun _ => ⟨hb12, fun g => b194 0 ht (fun _ => g) (fun h => absurd li_0 h), fun _ => badT T 3 hKT⟩, fun h => absurd li_0 h⟩, fun _ => ⟨fun h => absurd (h.symm.trans li_1) (by decide), fun _ => ⟨hb12, fun g => b194 1 ht (fun h => absurd (h.symm.trans li_1) (by decide)) (fun _ => g), fun _ => badT T 3 hKT⟩⟩⟩
  unfold w_X12_anAct_F124
  refine ⟨fun g => b144 (by omega), fun _ => ⟨fun g => ?_, fun g => b144 (by omega)⟩⟩
  -- the ACT ends
  unfold w_X12_anAct_B294
  rw [exn]
  refine ⟨hb12, hbT.1, hb12, hbT.2, ?_⟩
  have wF : Fr [12] [] [19, 20] [] T (si (su (su T 19 (12 + f) (fi T 14)) 20 (12 + f) (fi T 15)) 12 (fi T 12 + 1)) := Fr.si (by decide) (Fr.su (by decide) (Fr.su (by decide) Fr.rf))
  have hKW : KQ (12 + f) (4 * (12 + f)) (6 * (12 + f)) T (si (su (su T 19 (12 + f) (fi T 14)) 20 (12 + f) (fi T 15)) 12 (fi T 12 + 1)) := (KP_tr (KP_s1 (j := 19) (v := fi T 14) (by decide) (Nat.le_refl _)) (KP_s1 (j := 20) (v := fi T 15) (by decide) (Nat.le_refl _)) : KP (12 + f) (4 * (12 + f)) (6 * (12 + f)) T (su (su T 19 (12 + f) (fi T 14)) 20 (12 + f) (fi T 15))).2
  have w19 : ar (si (su (su T 19 (12 + f) (fi T 14)) 20 (12 + f) (fi T 15)) 12 (fi T 12 + 1)) 19 (12 + f) = fi T 14 := by
    show (si (su (su T 19 (12 + f) (fi T 14)) 20 (12 + f) (fi T 15)) 12 (fi T 12 + 1)).2.2.1 19 (12 + f) = _
    rw [si_2, su_ne (by decide), su_at, upd_at]
  have w20 : ar (si (su (su T 19 (12 + f) (fi T 14)) 20 (12 + f) (fi T 15)) 12 (fi T 12 + 1)) 20 (12 + f) = fi T 15 := by
    show (si (su (su T 19 (12 + f) (fi T 14)) 20 (12 + f) (fi T 15)) 12 (fi T 12 + 1)).2.2.1 20 (12 + f) = _
    rw [si_2, su_at, upd_at]
  have w12 : (fi (si (su (su T 19 (12 + f) (fi T 14)) 20 (12 + f) (fi T 15)) 12 (fi T 12 + 1)) 12).toInt = (f : Int) + 1 := by
    show ((si (su (su T 19 (12 + f) (fi T 14)) 20 (12 + f) (fi T 15)) 12 (fi T 12 + 1)).1 12).toInt = _
    rw [si_at, inc1 (by omega), t12]
  generalize si (su (su T 19 (12 + f) (fi T 14)) 20 (12 + f) (fi T 15)) 12 (fi T 12 + 1) = W at wF hKW w19 w20 w12 ⊢
  have hLW := Lx_fr hLT wF (by decide) (by decide)
  have w4 : fi W 4 = fi T 4 := wF.1 4 (by decide)
  have hKSW := KQ_tr hKT.2 hKW
  have one : ∀ v : Int32, v = 1 → v.toInt = 1 := fun v h => by rw [h]; decide
  have hDW : DA W (12 + f) := by
    refine ⟨?_, by rw [w19]; exact hbT.1, by rw [w20]; exact hbT.2⟩
    have x8 : ar W 8 = ar T 8 := wF.2.2.1 8 (by decide)
    have x9 : ar W 9 = ar T 9 := wF.2.2.1 9 (by decide)
    refine AC_kp hAT (na := 4) (nb := 6) hAT.1.2 hAT.2.1.2 ?_ (by rw [x8]) (by rw [x9]) (fun h => by rw [w19]; exact one _ h) (fun h => by rw [w20]; exact one _ h)
    refine ⟨?_, ?_, ?_, fun j _ y hy => absurd hy (Nat.not_lt_zero _), ?_, ?_⟩
    · rw [nn_fr wF (by decide)]; exact Int.le_refl _
    · intro i _
      show W.2.2.1 5 i = T.2.2.1 5 i
      rw [wF.2.2.1 5 (by decide)]
    · intro i _
      show W.2.2.1 6 i = T.2.2.1 6 i
      rw [wF.2.2.1 6 (by decide)]
    · intro j hj i _
      show W.2.2.1 j i = T.2.2.1 j i
      rw [wF.2.2.1 j (by revert hj; revert j; decide)]
    · intro j hj i _
      show W.2.2.1 j i = T.2.2.1 j i
      rw [wF.2.2.1 j (by revert hj; revert j; decide)]
  have hNW : NA W (12 + f) := by
    unfold NA
    have x17 : ar W 17 = ar T 17 := wF.2.2.1 17 (by decide)
    have x18 : ar W 18 = ar T 18 := wF.2.2.1 18 (by decide)
    rw [x17, x18]; exact hNT
  refine q_need W _ _ hLW (by decide) (fun r S' hE' hF' hr h' => ⟨hr, k r S' ⟨((hKT.1.wk (by decide) : Fr [2, 3, 4, 5, 6, 7, 9, 10, 11, 12, 14, 15] [] [5, 6, 8, 9, 10, 11, 12, 13, 14, 15, 16, 17, 18, 19, 20] [] S T).tr (wF.wk (by decide))).tr (hE'.1.wk (by decide)), KQ_lo (KQ_tr hKSW (EE_kp hE').2) (by omega) (by omega) (by omega)⟩ hr (fun gr => ?_)⟩)
  have hG := h' gr
  have z := hG.2.2.1
  have e12 : fi S' 12 = fi W 12 := hF'.1 12 (by decide)
  refine ⟨hG.1, by rw [w4] at z; omega, by rw [e12, w12]; omega, by omega, fun y hy1 hy2 => ?_⟩
  by_cases e : y = 12 + f
  · subst e
    exact ⟨DA_kp (x := 12 + f + 1) (by omega) (EE_kp hE').2 hDW, NA_kp (x := 12 + f + 1) (b := 0) (c := 0) (by omega) (EE_kp hE').2 hNW⟩
  · have := hD y hy1 (by omega)
    exact ⟨DA_kp (x := 12 + f) (by omega) (KQ_tr hKSW (EE_kp hE').2) this.1, NA_kp (x := 12 + f) (by omega) (KQ_tr hKSW (EE_kp hE').2) this.2⟩
