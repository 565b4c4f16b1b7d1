/-- make m of text t is w -/
def MKx (S : GS) (t m : Nat) (w : MkT) : Prop := (((w.1.toInt = 7 ∨ w.1.toInt = 8 ∨ w.1.toInt = 14) ∧ MKa S t m (w.1.toInt - 7) w.2.2) ∨ ((w.1.toInt = 9 ∨ w.1.toInt = 11 ∨ w.1.toInt = 12 ∨ w.1.toInt = 13) ∧ (ar S 12 m).toInt = w.1.toInt - 7 ∧ (ar S 15 m).toInt = 0 ∧ (ar S 16 m).toInt = 0 ∧ w.2.2 = [])) ∧ (w.1.toInt ≠ 14 → ((w.1.toInt = 9 ∧ w.2.1 = 2 ∧ ar S 13 m = 3) ∨ (ar S 13 m = w.2.1 ∧ (w.2.1.toInt = 0 ∨ w.2.1.toInt = 1)))) ∧ ((w.1.toInt = 8 ∨ w.1.toInt = 11 ∨ w.1.toInt = 12 ∨ w.1.toInt = 13) → (ar S 14 m).toInt = 1 - w.2.1.toInt)
theorem MKa_cg {S S' : GS} {t t' m m' : Nat} {k0 : Int} {ops : OL} (h : MKa S t m k0 ops) (e12 : ar S' 12 m' = ar S 12 m) (e15 : ar S' 15 m' = ar S 15 m) (e16 : ar S' 16 m' = ar S 16 m) (hs : ∀ i : Nat, (i : Int) < 2 * (ar S 16 m).toInt → sx S' t' i = sx S t i) : MKa S' t' m' k0 ops := by
  obtain ⟨ng, E, lo, h1, h2, h3, h4, h5, h6, h7⟩ := h
  exact ⟨ng, E, lo, by rw [e12]; exact h1, h2, h3, by rw [e15]; exact h4, by rw [e16]; exact h5, RTx_cg h6 (fun i hi => hs i (by omega)), h7⟩
theorem MKx_cg {S S' : GS} {t t' m m' : Nat} {w : MkT} (h : MKx S t m w) (e12 : ar S' 12 m' = ar S 12 m) (e13 : ar S' 13 m' = ar S 13 m) (e14 : ar S' 14 m' = ar S 14 m) (e15 : ar S' 15 m' = ar S 15 m) (e16 : ar S' 16 m' = ar S 16 m) (hs : ∀ i : Nat, (i : Int) < 2 * (ar S 16 m).toInt → sx S' t' i = sx S t i) : MKx S' t' m' w := by
  obtain ⟨h1, h2, h3⟩ := h
  refine ⟨?_, by rw [e13]; exact h2, by rw [e14]; exact h3⟩
  rcases h1 with ⟨a, b⟩ | ⟨a, b⟩
  · exact Or.inl ⟨a, MKa_cg b e12 e15 e16 hs⟩
  · exact Or.inr ⟨a, by rw [e12, e15, e16]; exact b⟩
/-- need n of text t is l -/
def NDx (S : GS) (t n : Nat) (l : OL) : Prop := ∃ lo : Nat, (ar S 10 n).toInt = (lo : Int) ∧ (ar S 11 n).toInt = (lo : Int) + (l.length : Int) ∧ RTx S t lo l
theorem NDx_cg {S S' : GS} {t t' n n' : Nat} {l : OL} (h : NDx S t n l) (e10 : ar S' 10 n' = ar S 10 n) (e11 : ar S' 11 n' = ar S 11 n) (hs : ∀ i : Nat, (i : Int) < 2 * (ar S 11 n).toInt → sx S' t' i = sx S t i) : NDx S' t' n' l := by
  obtain ⟨lo, h1, h2, h3⟩ := h
  exact ⟨lo, by rw [e10]; exact h1, by rw [e11]; exact h2, RTx_cg h3 (fun i hi => hs i (by omega))⟩
theorem ypPe_o (Z : TS) (two : Bool) (j : Nat) : (ypPe Z two j).2.2.1 = [] := by
  unfold ypPe
  by_cases e : (Z.1 j).toInt = 21 ∨ (Z.1 j).toInt = 22
  · rw [if_pos e]
    by_cases e2 : two = true
    · rw [if_pos e2]
      by_cases e3 : (Z.1 (j + 1)).toInt = 43 - (Z.1 j).toInt
      · rw [if_pos e3]; rfl
      · rw [if_neg e3]; rfl
    · rw [if_neg e2]; rfl
  · rw [if_neg e]; rfl
theorem ypCh_o (Z : TS) (j : Nat) : (ypCh Z j).2.2.1 = [] := by
  unfold ypCh
  by_cases e1 : (Z.1 j).toInt = 7
  · rw [if_pos e1]; exact ypPe_o ..
  rw [if_neg e1]
  by_cases e2 : (Z.1 j).toInt = 8 ∨ (Z.1 j).toInt = 11 ∨ (Z.1 j).toInt = 12 ∨ (Z.1 j).toInt = 13
  · rw [if_pos e2]; exact ypPe_o ..
  rw [if_neg e2]
  by_cases e3 : (Z.1 j).toInt = 9
  · rw [if_pos e3, ypBn_g (show (ypFl false true (j + 1)).1 = 0 from rfl)]
    show [] ++ (if (Z.1 (j + 1)).toInt = 10 then ypOk (j + 1 + 1) else ypPe Z false (j + 1)).2.2.1 = []
    by_cases e4 : (Z.1 (j + 1)).toInt = 10
    · rw [if_pos e4]; rfl
    · rw [if_neg e4, ypPe_o]; rfl
  rw [if_neg e3]
  by_cases e4 : (Z.1 j).toInt = 14
  · rw [if_pos e4]; rfl
  · rw [if_neg e4]; rfl
theorem MG_ch {Z : TS} {Y : YT} {S T : GS} {r : YR} {f : Nat → YR} {i : Nat} (h : MG Z Y S T r) (hi : r.2.1 = i) (hg : (f i).1 = 0) : (ypBn r f).1 = 0 ∧ (ypBn r f).2.1 = (f i).2.1 ∧ (ypBn r f).2.2.1 = r.2.2.1 ++ (f i).2.2.1 ∧ (ypBn r f).2.2.2.1 = (r.2.2.2.1 || (f i).2.2.2.1) ∧ (ypBn r f).2.2.2.2 = (r.2.2.2.2 || (f i).2.2.2.2) := by
  rw [ypBn_g h.1, hi]
  exact ⟨hg, rfl, rfl, rfl, rfl⟩
set_option maxHeartbeats 2000000 in
theorem q_changeE (S : GS) (a b c : Nat) (m : Int32) (post : Int32 → GS → Prop) (Z : TS) (Y : YT) (j : Nat) (hz : MZ Z Y j S) (hL : Lx S) (hm : 0 ≤ m.toInt ∧ m.toInt < 108) (hx : c ≤ m.toInt.toNat) (k : ∀ (r : Int32) (S' : GS), KP a b c S S' → (r = 0 ∨ r = 1) → (r.toInt ≠ 0 → CHx S S' m.toInt.toNat) → ((r = 1 ∧ (ypMk Z j).1 = 0 ∧ MZ Z Y (ypMk Z j).2.1 S' ∧ fi S' 6 = fi S 6 ∧ fi S' 14 = orF (fi S 14) (ypMk Z j).2.2.2.1 ∧ fi S' 15 = orF (fi S 15) (ypMk Z j).2.2.2.2 ∧ MKx S' 13 m.toInt.toNat (Z.1 j, ypF1 Z j, (ypMk Z j).2.2.1)) ∨ (r = 0 ∧ MB Z S' (ypMk Z j))) → post r S') : w_X12_change S m post := by
  have em : m.toNatClampNeg = m.toInt.toNat := rfl
  have hn0 : 0 ≤ nn S := hL.2.2.2.2.2.1
  have t304 := MZ_t hz 7 304 (by decide) (by decide)
  have t305 := MZ_t hz 8 305 (by decide) (by decide)
  have t306 := MZ_t hz 9 306 (by decide) (by decide)
  have t308 := MZ_t hz 11 308 (by decide) (by decide)
  have t309 := MZ_t hz 12 309 (by decide) (by decide)
  have t310 := MZ_t hz 13 310 (by decide) (by decide)
  have t311 := MZ_t hz 14 311 (by decide) (by decide)
  have emk : ypMk Z j = ypBn (ypCh Z j) (fun i => if (Z.1 j).toInt = 7 ∨ (Z.1 j).toInt = 8 ∨ (Z.1 j).toInt = 14 then ypAm Z (decide ((Z.1 j).toInt ≠ 14)) i else ypOk i) := rfl
  have b51 : ((fi S 3).toInt = 304 ∨ (fi S 3).toInt = 305 ∨ (fi S 3).toInt = 306 ∨ (308 ≤ (fi S 3).toInt ∧ (fi S 3).toInt ≤ 311)) → w_X12_change_B51 post S m (fi S 3) := by
    intro htk
    have hkt : (fi S 3).toInt = (Z.1 j).toInt + 297 := by
      rcases htk with g | g | g | g
      · have := t304.mp g; omega
      · have := t305.mp g; omega
      · have := t306.mp g; omega
      · have h4 : (fi S 3).toInt = 308 ∨ (fi S 3).toInt = 309 ∨ (fi S 3).toInt = 310 ∨ (fi S 3).toInt = 311 := by omega
        rcases h4 with g | g | g | g
        · have := t308.mp g; omega
        · have := t309.mp g; omega
        · have := t310.mp g; omega
        · have := t311.mp g; omega
    clear t304 t305 t306 t308 t309 t310 t311
    obtain ⟨t, ht⟩ : ∃ t, fi S 3 = t := ⟨_, rfl⟩
    rw [ht] at htk hkt ⊢
    unfold w_X12_change_B51
    rw [em]
    refine ⟨hm, hm, hm, ?_⟩
    have l304 : (304 : Int32).toInt = 304 := by decide
    have e304 : (t - 304).toInt = t.toInt - 304 := by rw [i_sub (by omega) (by omega), l304]
    have eF : Fr [] [] [12, 15, 16] [] S (su (su (su S 12 m.toInt.toNat (t - 304)) 15 m.toInt.toNat 0) 16 m.toInt.toNat 0) := Fr.su (by decide) (Fr.su (by decide) (Fr.su (by decide) Fr.rf))
    have a12 : (ar (su (su (su S 12 m.toInt.toNat (t - 304)) 15 m.toInt.toNat 0) 16 m.toInt.toNat 0) 12 m.toInt.toNat).toInt = t.toInt - 304 := by
      have : ar (su (su (su S 12 m.toInt.toNat (t - 304)) 15 m.toInt.toNat 0) 16 m.toInt.toNat 0) 12 = upd (ar S 12) m.toInt.toNat (t - 304) := (su_ne (by decide)).trans ((su_ne (by decide)).trans (su_at _ _ _ _))
      rw [this, upd_at, e304]
    have a15 : (ar (su (su (su S 12 m.toInt.toNat (t - 304)) 15 m.toInt.toNat 0) 16 m.toInt.toNat 0) 15 m.toInt.toNat).toInt = 0 := by
      have : ar (su (su (su S 12 m.toInt.toNat (t - 304)) 15 m.toInt.toNat 0) 16 m.toInt.toNat 0) 15 = upd (ar (su S 12 m.toInt.toNat (t - 304)) 15) m.toInt.toNat 0 := (su_ne (by decide)).trans (su_at _ _ _ _)
      rw [this, upd_at]; decide
    have a16 : (ar (su (su (su S 12 m.toInt.toNat (t - 304)) 15 m.toInt.toNat 0) 16 m.toInt.toNat 0) 16 m.toInt.toNat).toInt = 0 := by
      have : ar (su (su (su S 12 m.toInt.toNat (t - 304)) 15 m.toInt.toNat 0) 16 m.toInt.toNat 0) 16 = upd (ar (su (su S 12 m.toInt.toNat (t - 304)) 15 m.toInt.toNat 0) 16) m.toInt.toNat 0 := su_at _ _ _ _
      rw [this, upd_at]; decide
    have hKU : KP a b c S (su (su (su S 12 m.toInt.toNat (t - 304)) 15 m.toInt.toNat 0) 16 m.toInt.toNat 0) := KP_tr (KP_s3 (by decide) hx) (KP_tr (KP_s3 (by decide) hx) (KP_s3 (by decide) hx))
    have hGU : MG Z Y S (su (su (su S 12 m.toInt.toNat (t - 304)) 15 m.toInt.toNat 0) 16 m.toInt.toNat 0) (ypOk j) := MG_fr (MG_rf hz) eF (by decide) (by decide)
    generalize su (su (su S 12 m.toInt.toNat (t - 304)) 15 m.toInt.toNat 0) 16 m.toInt.toNat 0 = U at eF a12 a15 a16 hKU hGU ⊢
    clear e304 l304
    have hLU := Lx_fr hL eF (by decide) (by decide)
    have u3 : fi U 3 = t := (eF.1 3 (by decide)).trans ht
    have u4 : fi U 4 = fi S 4 := eF.1 4 (by decide)
    refine q_nextE _ _ Z Y j hGU.2.1 (by omega) (fun S5 hN hzN => ?_)
    have hG := GO_nx hLU (by rw [u3]; omega) hN
    have hGN : MG Z Y S S5 (ypOk (j + 1)) := MG_t0 hn0 hGU (MG_nx hzN hN) (NX_ee hN)
    have hK5 : KP a b c S S5 := KP_tr hKU (EE_kp (NX_ee hN))
    have hb5 : BM S S5 := BM_tr (BM_fr eF (by decide) (by decide)) hG.2.2.2.2
    have y4 : (fi S 4).toInt < (fi S5 4).toInt := by have := hG.2.2.1; rw [u4] at this; exact this
    have c12 : (ar S5 12 m.toInt.toNat).toInt = t.toInt - 304 := by
      have : ar S5 12 = ar U 12 := hN.1.2.2.1 12 (by decide)
      rw [this, a12]
    have c15 : (ar S5 15 m.toInt.toNat).toInt = 0 := by
      have : ar S5 15 = ar U 15 := hN.1.2.2.1 15 (by decide)
      rw [this, a15]
    have c16 : (ar S5 16 m.toInt.toNat).toInt = 0 := by
      have : ar S5 16 = ar U 16 := hN.1.2.2.1 16 (by decide)
      rw [this, a16]
    -- an amount
    have muchy : ∀ V : GS, KP a b c S V → Lx V → (fi S 4).toInt < (fi V 4).toInt → BM S V → (ar V 12 m.toInt.toNat).toInt = t.toInt - 304 → (t.toInt = 304 ∨ t.toInt = 305 ∨ t.toInt = 311) → (t.toInt = 304 → ((ar V 13 m.toInt.toNat).toInt = 0 ∨ ((ar V 13 m.toInt.toNat).toInt = 1 ∧ fi V 14 = 1))) → (t.toInt = 305 → (((ar V 13 m.toInt.toNat).toInt = 0 ∧ (ar V 14 m.toInt.toNat).toInt = 1) ∨ ((ar V 13 m.toInt.toNat).toInt = 1 ∧ (ar V 14 m.toInt.toNat).toInt = 0)) ∧ fi V 14 = 1) → MG Z Y S V (ypCh Z j) → (t.toInt = 311 → (Z.1 (ypCh Z j).2.1).toInt = 24) → (t.toInt ≠ 311 → ar V 13 m.toInt.toNat = ypF1 Z j) → ∀ P : Int32 → GS → Prop, (∀ (r : Int32) (S' : GS), (r = 0 ∨ r = 1) → (r.toInt ≠ 0 → post 1 S') → (r.toInt = 0 → post 0 S') → P r S') → w_X12_much V m P := by
      intro V hKV hLV v4 hbV v12 hkind h0 h1 hGV hp24 hf1 P hP
      have em2 : ypMk Z j = ypBn (ypCh Z j) (ypAm Z (decide ((Z.1 j).toInt ≠ 14))) := by
        rw [emk]
        exact ypBn_c (fun _ => if_pos (by omega))
      refine q_muchE V a b c m P Z Y (ypCh Z j).2.1 (decide ((Z.1 j).toInt ≠ 14)) hGV.2.1 ?_ hLV hm hx (by omega) (fun g => h0 (by omega)) (fun g => h1 (by omega)) (fun r S' hK' hr hc hX => hP r S' hr (fun g => ?_) (fun g => ?_))
      · by_cases g : t.toInt = 311
        · exact Or.inr (hp24 g)
        · exact Or.inl (decide_eq_true (by omega))
      · obtain ⟨a, b, c, d, e⟩ := hc g
        rcases hX with ⟨-, q1, q2, q0, q3, q4, q5, q6, q7⟩ | ⟨q, -⟩
        rotate_left
        · rw [q] at g; exact absurd li_0 g
        obtain ⟨m1, m2, m3, m4, m5⟩ := MG_ch (f := ypAm Z (decide ((Z.1 j).toInt ≠ 14))) hGV rfl q1
        have em3 : (ypMk Z j).2.2.1 = (ypAm Z (decide ((Z.1 j).toInt ≠ 14)) (ypCh Z j).2.1).2.2.1 := by rw [em2, m3, ypCh_o]; rfl
        refine k 1 S' (KP_tr hKV hK') (Or.inr rfl) (fun _ => ⟨a, by omega, BM_tr hbV c, d, e⟩) (Or.inl ⟨rfl, by rw [em2]; exact m1, by rw [em2, m2]; exact q2, q0.trans hGV.2.2.1.2.2, ?_, ?_, ?_, ?_, ?_⟩)
        · rw [em2, m4, q3, hGV.2.2.2.1, orF_or]
        · rw [em2, m5, q4, hGV.2.2.2.2, orF_or]
        · left
          refine ⟨by show (Z.1 j).toInt = 7 ∨ (Z.1 j).toInt = 8 ∨ (Z.1 j).toInt = 14; omega, ?_⟩
          show MKa S' 13 m.toInt.toNat ((Z.1 j).toInt - 7) (ypMk Z j).2.2.1
          rw [em3]
          rw [v12] at q7
          have e7 : t.toInt - 304 = (Z.1 j).toInt - 7 := by omega
          rw [e7] at q7
          exact q7
        · intro g14
          right
          have g14' : (Z.1 j).toInt ≠ 14 := g14
          have e1 := hf1 (by omega)
          refine ⟨by rw [q5]; exact e1, ?_⟩
          show (ypF1 Z j).toInt = 0 ∨ (ypF1 Z j).toInt = 1
          rw [← e1]
          rcases hkind with g | g | g
          · rcases h0 g with q | q
            · exact Or.inl q
            · exact Or.inr q.1
          · rcases (h1 g).1 with q | q
            · exact Or.inl q.1
            · exact Or.inr q.1
          · exfalso; omega
        · intro g8
          have g8' : (Z.1 j).toInt = 8 ∨ (Z.1 j).toInt = 11 ∨ (Z.1 j).toInt = 12 ∨ (Z.1 j).toInt = 13 := g8
          show (ar S' 14 m.toInt.toNat).toInt = 1 - (ypF1 Z j).toInt
          rw [q6, ← hf1 (by omega)]
          have := (h1 (by omega)).1
          omega
      · rcases hX with ⟨q, -⟩ | ⟨-, q⟩
        · rw [q] at g; exact absurd g (by decide)
        · exact k 0 S' (KP_tr hKV hK') (Or.inl rfl) no0 (Or.inr ⟨rfl, by rw [em2]; exact MB_tr hGV q⟩)
    -- no amount
    have plain : ∀ V : GS, KP a b c S V → Lx V → (fi S 4).toInt < (fi V 4).toInt → BM S V → (ar V 12 m.toInt.toNat).toInt = t.toInt - 304 → (ar V 15 m.toInt.toNat).toInt = 0 → (ar V 16 m.toInt.toNat).toInt = 0 → (t.toInt = 306 ∨ (308 ≤ t.toInt ∧ t.toInt ≤ 310)) → (t.toInt = 306 → fi V 15 = 1) → (308 ≤ t.toInt → (((ar V 13 m.toInt.toNat).toInt = 0 ∧ (ar V 14 m.toInt.toNat).toInt = 1) ∨ ((ar V 13 m.toInt.toNat).toInt = 1 ∧ (ar V 14 m.toInt.toNat).toInt = 0)) ∧ fi V 14 = 1) → MG Z Y S V (ypCh Z j) → ((t.toInt = 306 ∧ ypF1 Z j = 2 ∧ ar V 13 m.toInt.toNat = 3) ∨ (ar V 13 m.toInt.toNat = ypF1 Z j ∧ ((ypF1 Z j).toInt = 0 ∨ (ypF1 Z j).toInt = 1))) → post 1 V := by
      intro V hKV hLV v4 hbV v12 v15 v16 hkind h6 h8 hGV hf1
      have em2 : ypMk Z j = ypCh Z j := by
        rw [emk]
        exact ypBn_r2 (fun _ => if_neg (by omega))
      refine k 1 V hKV (Or.inr rfl) (fun _ => ⟨hLV, v4, hbV, ⟨by omega, fun g => absurd (v16.trans v15.symm) g, fun g => by omega, fun g => h8 (by omega), fun g => h6 (by omega)⟩, fun g => absurd (v16.trans v15.symm) g⟩) (Or.inl ⟨rfl, by rw [em2]; exact hGV.1, by rw [em2]; exact hGV.2.1, hGV.2.2.1.2.2, by rw [em2]; exact hGV.2.2.2.1, by rw [em2]; exact hGV.2.2.2.2, ?_, ?_, ?_⟩)
      · right
        refine ⟨by show (Z.1 j).toInt = 9 ∨ (Z.1 j).toInt = 11 ∨ (Z.1 j).toInt = 12 ∨ (Z.1 j).toInt = 13; omega, by show _ = (Z.1 j).toInt - 7; omega, v15, v16, ?_⟩
        show (ypMk Z j).2.2.1 = []
        rw [em2]
        exact ypCh_o Z j
      · intro _
        rcases hf1 with ⟨q1, q2, q3⟩ | q
        · exact Or.inl ⟨by show (Z.1 j).toInt = 9; omega, q2, q3⟩
        · exact Or.inr q
      · intro g8
        have g8' : (Z.1 j).toInt = 8 ∨ (Z.1 j).toInt = 11 ∨ (Z.1 j).toInt = 12 ∨ (Z.1 j).toInt = 13 := g8
        show (ar V 14 m.toInt.toNat).toInt = 1 - (ypF1 Z j).toInt
        have h9 := (h8 (by omega)).1
        rcases hf1 with ⟨q1, -⟩ | ⟨q, -⟩
        · exfalso; omega
        · rw [← q]; omega
    -- the persons are read
    have b178 : ∀ V : GS, KP a b c S V → Lx V → (fi S 4).toInt < (fi V 4).toInt → BM S V → (ar V 12 m.toInt.toNat).toInt = t.toInt - 304 → (ar V 15 m.toInt.toNat).toInt = 0 → (ar V 16 m.toInt.toNat).toInt = 0 → (t.toInt = 306 → fi V 15 = 1) → ((fi V 10).toInt = 0 ∨ (fi V 10).toInt = 1) → (t.toInt = 304 → ((fi V 10).toInt = 0 ∨ ((fi V 10).toInt = 1 ∧ fi V 14 = 1))) → (t.toInt ≠ 304 → t.toInt ≠ 306 → (((fi V 10).toInt = 0 ∧ (fi V 11).toInt = 1) ∨ ((fi V 10).toInt = 1 ∧ (fi V 11).toInt = 0)) ∧ fi V 14 = 1) → t.toInt ≠ 311 → MG Z Y S V (ypCh Z j) → fi V 10 = ypF1 Z j → w_X12_change_B178 post V m t := by
      intro V hKV hLV v4 hbV v12 v15 v16 h6 h01 h1 h2 h7 hGV hf1
      unfold w_X12_change_B178
      rw [em]
      refine ⟨hm, hm, ?_⟩
      have vF : Fr [] [] [13, 14] [] V (su (su V 13 m.toInt.toNat (fi V 10)) 14 m.toInt.toNat (fi V 11)) := Fr.su (by decide) (Fr.su (by decide) Fr.rf)
      have w13 : ar (su (su V 13 m.toInt.toNat (fi V 10)) 14 m.toInt.toNat (fi V 11)) 13 m.toInt.toNat = fi V 10 := by
        have : ar (su (su V 13 m.toInt.toNat (fi V 10)) 14 m.toInt.toNat (fi V 11)) 13 = upd (ar V 13) m.toInt.toNat (fi V 10) := (su_ne (by decide)).trans (su_at _ _ _ _)
        rw [this, upd_at]
      have w14 : ar (su (su V 13 m.toInt.toNat (fi V 10)) 14 m.toInt.toNat (fi V 11)) 14 m.toInt.toNat = fi V 11 := by
        have : ar (su (su V 13 m.toInt.toNat (fi V 10)) 14 m.toInt.toNat (fi V 11)) 14 = upd (ar (su V 13 m.toInt.toNat (fi V 10)) 14) m.toInt.toNat (fi V 11) := su_at _ _ _ _
        rw [this, upd_at]
      have hKW : KP a b c V (su (su V 13 m.toInt.toNat (fi V 10)) 14 m.toInt.toNat (fi V 11)) := KP_tr (KP_s3 (by decide) hx) (KP_s3 (by decide) hx)
      have hGW : MG Z Y S (su (su V 13 m.toInt.toNat (fi V 10)) 14 m.toInt.toNat (fi V 11)) (ypCh Z j) := MG_fr hGV vF (by decide) (by decide)
      generalize su (su V 13 m.toInt.toNat (fi V 10)) 14 m.toInt.toNat (fi V 11) = W at vF w13 w14 hKW hGW ⊢
      have e12 : ar W 12 = ar V 12 := vF.2.2.1 12 (by decide)
      have e15 : ar W 15 = ar V 15 := vF.2.2.1 15 (by decide)
      have e16 : ar W 16 = ar V 16 := vF.2.2.1 16 (by decide)
      have f4 : fi W 4 = fi V 4 := vF.1 4 (by decide)
      have f14 : fi W 14 = fi V 14 := vF.1 14 (by decide)
      have f15 : fi W 15 = fi V 15 := vF.1 15 (by decide)
      have hLW := Lx_fr hLV vF (by decide) (by decide)
      have hKW2 := KP_tr hKV hKW
      have hbW : BM S W := BM_tr hbV (BM_fr vF (by decide) (by decide))
      have b212 : (t.toInt = 304 ∨ t.toInt = 305) → w_X12_change_B212 post W m := by
        intro htt
        unfold w_X12_change_B212 w_X12_change_B220 w_X12_change_B225
        refine muchy W hKW2 hLW (by rw [f4]; exact v4) hbW (by rw [e12]; exact v12) (by omega) (fun g => ?_) (fun g => ?_) hGW (fun g => by exfalso; omega) (fun _ => by rw [w13]; exact hf1) _ (fun r S' hr h1 h0 => ⟨fun g => ⟨Or.inl rfl, h0 g⟩, fun g => ⟨Or.inr rfl, h1 g⟩⟩)
        · rw [w13, f14]; exact h1 g
        · rw [w13, w14, f14]; exact h2 (by omega) (by omega)
      refine ⟨fun g => b212 (Or.inl g), fun g => ⟨fun g2 => ?_, fun g2 => b212 (Or.inr g2)⟩⟩
      unfold w_X12_change_B220 w_X12_change_B225
      refine ⟨Or.inr rfl, plain W hKW2 hLW (by rw [f4]; exact v4) hbW (by rw [e12]; exact v12) (by rw [e15]; exact v15) (by rw [e16]; exact v16) (by omega) (fun g3 => by rw [f15]; exact h6 g3) (fun g3 => ?_) hGW (Or.inr ⟨by rw [w13]; exact hf1, by rw [← hf1]; exact h01⟩)⟩
      rw [w13, w14, f14]; exact h2 g (by omega)
    have b145 : ∀ (V : GS) (r0 : YR), EE S5 V → Lx V → (fi S 4).toInt < (fi V 4).toInt → BM S V → (t.toInt = 306 → fi V 15 = 1) → t.toInt ≠ 311 → MG Z Y S V r0 → r0.2.1 = j + 1 → ((t.toInt = 304 ∨ t.toInt = 306) → ypCh Z j = ypBn r0 (ypPe Z false) ∧ ypF1 Z j = Z.1 (j + 1) - 21) → ((t.toInt ≠ 304 ∧ t.toInt ≠ 306) → ypCh Z j = ypBn r0 (ypPe Z true) ∧ ypF1 Z j = Z.1 (j + 1) - 21) → w_X12_change_B145 post V m t := by
      intro V r0 hEV hLV v4 hbV h6 h7 hGV hr0 hc1 hc2
      have hzV : MZ Z Y (j + 1) V := by rw [← hr0]; exact hGV.2.1
      have nV0 : 0 ≤ nn V := hLV.2.2.2.2.2.1
      have keep : ∀ W : GS, EE S5 W → (ar W 12 m.toInt.toNat).toInt = t.toInt - 304 ∧ (ar W 15 m.toInt.toNat).toInt = 0 ∧ (ar W 16 m.toInt.toNat).toInt = 0 := by
        intro W hW
        have q12 : ar W 12 = ar S5 12 := hW.1.2.2.1 12 (by decide)
        have q15 : ar W 15 = ar S5 15 := hW.1.2.2.1 15 (by decide)
        have q16 : ar W 16 = ar S5 16 := hW.1.2.2.1 16 (by decide)
        rw [q12, q15, q16]
        exact ⟨c12, c15, c16⟩
      have bads : ∀ (S7 : GS) (f : Nat → YR), EE V S7 → ypCh Z j = ypBn r0 f → MB Z S7 (f (j + 1)) → post 0 S7 := by
        intro S7 f hE7 hcf hB7
        refine k 0 S7 (KP_tr hK5 (KP_tr (EE_kp hEV) (EE_kp hE7))) (Or.inl rfl) no0 (Or.inr ⟨rfl, ?_⟩)
        rw [emk]
        refine MB_l ?_
        rw [hcf]
        exact MB_tr hGV (by rw [hr0]; exact hB7)
      unfold w_X12_change_B145 w_X12_change_B159 w_X12_change_B176
      have one : (t.toInt = 304 ∨ t.toInt = 306) → w_X12_person V (fun r6 S7 => (r6.toInt ≠ 0 → w_X12_change_B178 post S7 m t) ∧ (r6.toInt = 0 → post 0 S7)) := by
        intro htt
        obtain ⟨hcf, hf⟩ := hc1 htt
        refine q_personE V _ hLV Z Y (j + 1) hzV (fun r6 S7 hE7 _ h7' hM7 hv7 => ⟨fun g => ?_, fun g => bads S7 _ hE7 hcf (MX_0 hM7 g)⟩)
        obtain ⟨hG7, h10, h14, -⟩ := h7' g
        have hk7 := keep S7 (EE_tr hEV hE7)
        have z := hG7.2.2.1
        have hM7' := MX_1 hM7 g
        have hGS : MG Z Y S S7 (ypCh Z j) := by
          rw [hcf]
          exact MG_tr hn0 hGV (by rw [hr0]; exact hM7') hE7
        refine b178 S7 (KP_tr hK5 (KP_tr (EE_kp hEV) (EE_kp hE7))) hG7.1 (by omega) (BM_tr hbV hG7.2.2.2.2) hk7.1 hk7.2.1 hk7.2.2 (fun g3 => (BM_one hG7.2.2.2.2).2 (h6 g3)) h10 (fun _ => ?_) (fun a b => by omega) h7 hGS (by rw [hv7 g, hf])
        rcases h10 with q | q
        · exact Or.inl q
        · exact Or.inr ⟨q, h14 q⟩
      refine ⟨fun g => one (Or.inl g), fun g => ⟨fun g2 => ?_, fun g2 => one (Or.inr g2)⟩⟩
      obtain ⟨hcf, hf⟩ := hc2 ⟨g, g2⟩
      refine q_personsE V _ hLV Z Y (j + 1) hzV (fun r6 S7 hE7 _ h7' hM7 hv7 => ⟨fun g3 => ?_, fun g3 => bads S7 _ hE7 hcf (MX_0 hM7 g3)⟩)
      obtain ⟨hG7, h10, h14⟩ := h7' g3
      have hk7 := keep S7 (EE_tr hEV hE7)
      have z := hG7.2.2.1
      have hM7' := MX_1 hM7 g3
      have hGS : MG Z Y S S7 (ypCh Z j) := by
        rw [hcf]
        exact MG_tr hn0 hGV (by rw [hr0]; exact hM7') hE7
      exact b178 S7 (KP_tr hK5 (KP_tr (EE_kp hEV) (EE_kp hE7))) hG7.1 (by omega) (BM_tr hbV hG7.2.2.2.2) hk7.1 hk7.2.1 hk7.2.2 (fun g3 => absurd g3 g2) (by omega) (fun g4 => absurd g4 g) (fun _ _ => ⟨h10, h14⟩) h7 hGS (by rw [(hv7 g3).1, hf])
    refine ⟨fun g7 => ⟨fun g6 => b145 S5 (ypOk (j + 1)) (EE_rf _) hG.1 y4 hb5 (fun q => absurd q g6) g7 hGN rfl (fun q => ?_) (fun q => ?_), fun g6 => ?_⟩, fun g7 => ?_⟩
    · unfold ypCh ypF1
      rw [if_pos (by omega), ypBn_ok, if_neg (by omega), if_neg (by omega)]
      exact ⟨rfl, rfl⟩
    · unfold ypCh ypF1
      rw [if_neg (by omega), if_pos (by omega), ypBn_ok, if_neg (by omega), if_neg (by omega)]
      exact ⟨rfl, rfl⟩
    · have ec : ypCh Z j = ypBn (ypFl false true (j + 1)) (fun i => if (Z.1 i).toInt = 10 then ypOk (i + 1) else ypPe Z false i) := by
        unfold ypCh
        rw [if_neg (by omega), if_neg (by omega), if_pos (by omega)]
      have vF : Fr [15] [] [] [] S5 (si S5 15 1) := Fr.si (by decide) Fr.rf
      have f15 : fi (si S5 15 1) 15 = 1 := si_at _ _ _
      have hGV0 : MG Z Y S (si S5 15 1) (ypFl false true (j + 1)) := MG_15 hGN
      generalize si S5 15 1 = V at vF f15 hGV0 ⊢
      have hEV : EE S5 V := EE_fr (vF.wk (by decide))
      have hLV := Lx_fr hG.1 vF (by decide) (by decide)
      have f4 : fi V 4 = fi S5 4 := vF.1 4 (by decide)
      have f3 : fi V 3 = fi S5 3 := vF.1 3 (by decide)
      have hbV : BM S V := BM_tr hb5 ⟨Or.inl (vF.1 14 (by decide)), Or.inr f15⟩
      have t307 := MZ_t hzN 10 307 (by decide) (by decide)
      refine ⟨fun g307 => b145 V (ypFl false true (j + 1)) hEV hLV (by rw [f4]; exact y4) hbV (fun _ => f15) g7 hGV0 rfl (fun _ => ?_) (fun q => absurd g6 q.2), fun g8 => ⟨hm, ?_⟩⟩
      · have g10 : ¬ (Z.1 (j + 1)).toInt = 10 := fun q => g307 (t307.mpr q)
        refine ⟨?_, ?_⟩
        · rw [ec]
          exact ypBn_c (fun _ => if_neg g10)
        · unfold ypF1
          rw [if_neg (by omega), if_neg (fun q => g10 q.2)]
      have g10 := t307.mp g8
      have wF : Fr [] [] [13] [] V (su V 13 m.toInt.toNat 3) := Fr.su (by decide) Fr.rf
      have w13 : ar (su V 13 m.toInt.toNat 3) 13 m.toInt.toNat = 3 := by
        have : ar (su V 13 m.toInt.toNat 3) 13 = upd (ar V 13) m.toInt.toNat 3 := su_at _ _ _ _
        rw [this, upd_at]
      have hKW : KP a b c V (su V 13 m.toInt.toNat 3) := KP_s3 (by decide) hx
      have hGW : MG Z Y S (su V 13 m.toInt.toNat 3) (ypFl false true (j + 1)) := MG_fr hGV0 wF (by decide) (by decide)
      generalize su V 13 m.toInt.toNat 3 = W at wF w13 hKW hGW ⊢
      have hLW := Lx_fr hLV wF (by decide) (by decide)
      have hzW : MZ Z Y (j + 1) W := hGW.2.1
      refine q_nextE _ _ Z Y (j + 1) hzW (by omega) (fun X hNX hzX => ?_)
      have w3 : fi W 3 = fi S5 3 := (wF.1 3 (by decide)).trans f3
      have w4 : fi W 4 = fi S5 4 := (wF.1 4 (by decide)).trans f4
      have hGY := GO_nx hLW (by rw [w3]; omega) hNX
      have z := hGY.2.2.1
      rw [w4] at z
      have q12 : ar X 12 = ar S5 12 := (hNX.1.2.2.1 12 (by decide)).trans ((wF.2.2.1 12 (by decide)).trans (vF.2.2.1 12 (by decide)))
      have q13 : ar X 13 = ar W 13 := hNX.1.2.2.1 13 (by decide)
      have q15 : ar X 15 = ar S5 15 := (hNX.1.2.2.1 15 (by decide)).trans ((wF.2.2.1 15 (by decide)).trans (vF.2.2.1 15 (by decide)))
      have q16 : ar X 16 = ar S5 16 := (hNX.1.2.2.1 16 (by decide)).trans ((wF.2.2.1 16 (by decide)).trans (vF.2.2.1 16 (by decide)))
      have p15 : fi X 15 = 1 := (hNX.1.1 15 (by decide)).trans ((wF.1 15 (by decide)).trans f15)
      have hGX : MG Z Y S X (ypCh Z j) := by
        rw [ec]
        refine MG_tr hn0 hGW ?_ (NX_ee hNX)
        show MG Z Y W X (if (Z.1 (j + 1)).toInt = 10 then ypOk (j + 1 + 1) else ypPe Z false (j + 1))
        have g10' : (Z.1 (j + 1)).toInt = 10 := g10
        rw [if_pos g10']
        exact MG_nx hzX hNX
      have ef1 : ypF1 Z j = 2 := by
        unfold ypF1
        have g10' : (Z.1 (j + 1)).toInt = 10 := g10
        rw [if_neg (by omega), if_pos ⟨by omega, g10'⟩]
      exact plain X (KP_tr hK5 (KP_tr (EE_kp hEV) (KP_tr hKW (EE_kp (NX_ee hNX))))) hGY.1 (by omega) (BM_tr hbV (BM_tr (BM_fr wF (by decide) (by decide)) hGY.2.2.2.2)) (by rw [q12]; exact c12) (by rw [q15]; exact c15) (by rw [q16]; exact c16) (by omega) (fun _ => p15) (fun g9 => by omega) hGX (Or.inl ⟨g6, ef1, by rw [q13]; exact w13⟩)
    · have ec : ypCh Z j = ypOk (j + 1) := by
        unfold ypCh
        rw [if_neg (by omega), if_neg (by omega), if_neg (by omega), if_pos (by omega)]
      have hGC : MG Z Y S S5 (ypCh Z j) := by rw [ec]; exact hGN
      have t43 := MZ_t hzN 24 43 (by decide) (by decide)
      unfold w_X12_change_B109
      refine ⟨fun g43 => ⟨Or.inl rfl, k 0 _ (KP_tr hK5 (EE_kp (EE_bad S5 1))) (Or.inl rfl) no0 (Or.inr ⟨rfl, ?_⟩)⟩, fun g43 => ?_⟩
      · have ea : ypMk Z j = ypBn (ypCh Z j) (fun _ => ypNo 1 (j + 1)) := by
          rw [emk]
          refine ypBn_c (fun _ => ?_)
          rw [if_pos (by omega), ec]
          exact ypAm_n (fun q => g43 (t43.mpr q)) (fun q => by rw [decide_eq_true_eq] at q; omega)
        rw [ea]
        exact MB_tr hGC (MB_bad hzN 1 1 (by decide) (by decide))
      · refine muchy S5 hK5 hG.1 y4 hb5 c12 (by omega) (fun g => by omega) (fun g => by omega) hGC (fun _ => by rw [ec]; exact t43.mp g43) (fun q => absurd g7 q) _ (fun r S' hr h1 h0 => ⟨hr, ?_⟩)
        rcases hr with rfl | rfl
        · exact h0 (by decide)
        · exact h1 (by decide)
  have no : ¬ ((fi S 3).toInt = 304 ∨ (fi S 3).toInt = 305 ∨ (fi S 3).toInt = 306 ∨ (308 ≤ (fi S 3).toInt ∧ (fi S 3).toInt ≤ 311)) → post 0 (si (si S 6 1) 7 (fi S 4)) := by
    intro g
    refine k 0 _ (EE_kp (EE_bad S 1)) (Or.inl rfl) no0 (Or.inr ⟨rfl, ?_⟩)
    have ec : ypCh Z j = ypNo 1 j := by
      unfold ypCh
      rw [if_neg (by omega), if_neg (by omega), if_neg (by omega), if_neg (by omega)]
    rw [emk]
    refine MB_l ?_
    rw [ec]
    exact MB_bad hz 1 1 (by decide) (by decide)
  clear t304 t305 t306 t308 t309 t310 t311
  unfold w_X12_change
  refine ⟨fun g => b51 (Or.inl g), fun g1 => ⟨fun g => b51 (Or.inr (Or.inl g)), fun g2 => ?_⟩⟩
  refine q_isIn _ _ _ _ _ (fun r1 _ hb1 => ⟨fun g1 => b51 ?_, fun g3 => ?_⟩)
  · rw [li_306] at hb1; omega
  · refine q_isIn _ _ _ _ _ (fun r2 _ hb2 => ⟨fun g2 => b51 ?_, fun g4 => ⟨Or.inl rfl, no ?_⟩⟩)
    · rw [li_308, li_311] at hb2; omega
    · rw [li_306] at hb1
      rw [li_308, li_311] at hb2
      omega
