theorem or_fld {V X s m j w : Nat} (hm : 2 ^ s = m) (hw : 2 ^ j = w) (hz : V / m % w = 0) (hX : X < w) : V ||| X * m = V + X * m := by
  subst hm
  subst hw
  have hR : V % 2 ^ s < 2 ^ s := Nat.mod_lt _ (Nat.two_pow_pos s)
  have hV : V / 2 ^ s * 2 ^ s + V % 2 ^ s = V := Nat.div_add_mod' V (2 ^ s)
  have hQ : V / 2 ^ s / 2 ^ j * 2 ^ j + V / 2 ^ s % 2 ^ j = V / 2 ^ s := Nat.div_add_mod' (V / 2 ^ s) (2 ^ j)
  rw [hz, Nat.add_zero] at hQ
  generalize V / 2 ^ s / 2 ^ j = q at hQ
  generalize V % 2 ^ s = r at hR hV
  rw [← hQ] at hV
  have a1 : V = (q <<< j) <<< s ||| r := by
    rw [← Nat.shiftLeft_add_eq_or_of_lt hR, Nat.shiftLeft_eq (q <<< j) s, Nat.shiftLeft_eq q j]
    exact hV.symm
  have a2 : V ||| X <<< s = ((q <<< j ||| X) <<< s) ||| r := by
    rw [a1, Nat.shiftLeft_or_distrib, Nat.or_assoc, Nat.or_comm r, ← Nat.or_assoc]
  rw [← Nat.shiftLeft_add_eq_or_of_lt hR, ← Nat.shiftLeft_add_eq_or_of_lt hX, Nat.shiftLeft_eq (q <<< j + X) s, Nat.shiftLeft_eq q j, Nat.shiftLeft_eq X s, Nat.add_mul] at a2
  rw [a2]
  omega
/-- a number laid into bits where nothing stands -/
theorem l_orf {v k x : Int64} {s m j w : Nat} (hk : (k.toBitVec.smod 64).toNat = s) (hm : 2 ^ s = m) (hw : 2 ^ j = w) (h0 : 0 ≤ v.toInt ∧ v.toInt < 4503599627370496) (hx : 0 ≤ x.toInt ∧ x.toInt < (w : Int)) (hz : v.toInt / (m : Int) % (w : Int) = 0) (hb : w * m ≤ 4503599627370496) : (v ||| (x <<< k)).toInt = v.toInt + x.toInt * (m : Int) := by
  obtain ⟨e, hl⟩ := l_nn h0.1
  obtain ⟨ex, hlx⟩ := l_nn hx.1
  rw [e] at h0 hz
  rw [ex] at hx
  rw [e, ex]
  have hy : x.toBitVec.toNat < w := by omega
  have hmp : 0 < m := by rw [← hm]; exact Nat.two_pow_pos s
  have hxm : x.toBitVec.toNat * m < 4503599627370496 := Nat.lt_of_lt_of_le (Nat.mul_lt_mul_of_pos_right hy hmp) hb
  have hz2 : v.toBitVec.toNat / m % w = 0 := by
    have q : ((v.toBitVec.toNat / m % w : Nat) : Int) = ((0 : Nat) : Int) := hz
    exact Int.ofNat.inj q
  have key : v.toBitVec.toNat ||| x.toBitVec.toNat * m = v.toBitVec.toNat + x.toBitVec.toNat * m := or_fld hm hw hz2 hy
  have e1 : (v ||| (x <<< k)).toBitVec.toNat = v.toBitVec.toNat + x.toBitVec.toNat * m := by
    have e2 : (v ||| (x <<< k)).toBitVec = v.toBitVec ||| (x.toBitVec <<< (k.toBitVec.smod 64)) := rfl
    rw [e2, BitVec.toNat_or, BitVec.shiftLeft_eq', BitVec.toNat_shiftLeft, hk, Nat.shiftLeft_eq, hm, Nat.mod_eq_of_lt (by omega), key]
  rw [l_of e1 (by omega), Int.natCast_add, Int.natCast_mul]
theorem l_ush {v : Int64} {k : UInt64} {s m : Nat} (hk : (k.toBitVec % 64#64).toNat = s) (hm : 2 ^ s = m) (h0 : 0 ≤ v.toInt) : ((v.toUInt64 >>> k).toInt64).toInt = v.toInt / (m : Int) := by
  obtain ⟨e, hl⟩ := l_nn h0
  have e1 : ((v.toUInt64 >>> k).toInt64).toBitVec.toNat = v.toBitVec.toNat / m := by
    have e2 : ((v.toUInt64 >>> k).toInt64).toBitVec = v.toBitVec >>> (k.toBitVec % 64#64) := rfl
    rw [e2, BitVec.ushiftRight_eq', BitVec.toNat_ushiftRight, hk, Nat.shiftRight_eq_div_pow, hm]
  have hlt : v.toBitVec.toNat / m ≤ v.toBitVec.toNat := Nat.div_le_self _ _
  rw [l_of e1 (by omega), e]
  exact Int.natCast_ediv _ _
/-- a number out of its bits -/
theorem l_fld {v c : Int64} {k : UInt64} {s m w W : Nat} {x : Int32} (hk : (k.toBitVec % 64#64).toNat = s) (hm : 2 ^ s = m) (hc : c.toBitVec.toNat = 2 ^ w - 1) (hw : 2 ^ w = W) (hW : 0 < W ∧ W ≤ 1024) (h0 : 0 ≤ v.toInt) (hx : v.toInt / (m : Int) % (W : Int) = x.toInt) : ((v.toUInt64 >>> k).toInt64 &&& c).toInt32 = x := by
  have a := l_ush (v := v) hk hm h0
  have h1 : 0 ≤ ((v.toUInt64 >>> k).toInt64).toInt := by
    rw [a]
    exact Int.ediv_nonneg h0 (Int.natCast_nonneg m)
  have b := l_an (v := (v.toUInt64 >>> k).toInt64) hc hw hW h1
  exact l_32i (by rw [b, a]; exact hx)
theorem ush_k : ∀ s, s < 64 → ((((nI s).toInt64).toUInt64 &&& Int64.toUInt64 63).toBitVec % 64#64).toNat = s := by decide +kernel
theorem shl_k : ∀ s, s < 64 → (((nI s).toInt64 &&& 63).toBitVec.smod 64).toNat = s := by decide +kernel
theorem oS_k : ∀ n, n < 3 → (16 : Int32) + ((2 : Int32) * nI n) = nI (16 + 2 * n) := by decide +kernel
theorem cS_k : ∀ n, n < 3 → (4 : Int32) + ((4 : Int32) * nI n) = nI (4 + 4 * n) := by decide +kernel
def pSN (a b : Nat) : Nat := 22 + 5 * (2 * a + (if a < b then b - 1 else b))
theorem pSN_b : ∀ a, a < 3 → ∀ b, b < 3 → a ≠ b → pSN a b ≤ 47 := by decide +kernel
theorem pS_1 : ∀ a, a < 3 → ∀ b, b < 3 → a < b → (22 : Int32) + ((5 : Int32) * (((2 : Int32) * nI a) + (nI b - 1))) = nI (pSN a b) := by decide +kernel
theorem pS_2 : ∀ a, a < 3 → ∀ b, b < 3 → b < a → (22 : Int32) + ((5 : Int32) * (((2 : Int32) * nI a) + nI b)) = nI (pSN a b) := by decide +kernel
theorem r_9_oS (cy : Nat → ClassId) (tE : Nat) (S : KS) (n : Nat) (post : Int32 → KS → Prop) (hn : n < 3) (k : post (nI (16 + 2 * n)) S) : w_X9_ownerShift cy tE S (nI n) post := by
  show post ((16 : Int32) + ((2 : Int32) * nI n)) S
  rw [oS_k n hn]; exact k
theorem r_9_cS (cy : Nat → ClassId) (tE : Nat) (S : KS) (n : Nat) (post : Int32 → KS → Prop) (hn : n < 3) (k : post (nI (4 + 4 * n)) S) : w_X9_coinShift cy tE S (nI n) post := by
  show post ((4 : Int32) + ((4 : Int32) * nI n)) S
  rw [cS_k n hn]; exact k
theorem r_9_pS (cy : Nat → ClassId) (tE : Nat) (S : KS) (a b : Nat) (post : Int32 → KS → Prop) (ha : a < 3) (hb : b < 3) (hab : a ≠ b) (k : post (nI (pSN a b)) S) : w_X9_pairShift cy tE S (nI a) (nI b) post := by
  have ea : (nI a).toInt = (a : Int) := nI_toInt (by omega)
  have eb : (nI b).toInt = (b : Int) := nI_toInt (by omega)
  refine ⟨fun h => ?_, fun h => ?_⟩
  · show post ((22 : Int32) + ((5 : Int32) * (((2 : Int32) * nI a) + nI b))) S
    rw [pS_2 a ha b hb (by omega)]; exact k
  · show post ((22 : Int32) + ((5 : Int32) * (((2 : Int32) * nI a) + (nI b - 1)))) S
    rw [pS_1 a ha b hb (by omega)]; exact k
/-- whom a renaming makes of one -/
def bcN (r y : Nat) : Nat := if y < 3 then ([0, 1, 2, 0, 2, 1, 1, 0, 2, 1, 2, 0, 2, 0, 1, 2, 1, 0] : List Nat).getD (3 * r + y) 0 else 3
theorem bcN_0 : ∀ y, y ≤ 3 → bcN 0 y = y := by decide +kernel
theorem bc_t : ∀ r, r < 6 → ∀ y, y < 3 → becI (3 * r + y) = nI (bcN r y) := by decide +kernel
theorem r_11_becE (cy : Nat → ClassId) (tE : Nat) (S : KS) (r y : Nat) (post : Int32 → KS → Prop) (hr : r < 6) (hy : y ≤ 3) (k : post (nI (bcN r y)) S) : w_X11_become cy tE S (nI r) (nI y) post := by
  have er : (nI r).toInt = (r : Int) := nI_toInt (by omega)
  have ey : (nI y).toInt = (y : Int) := nI_toInt (by omega)
  unfold w_X11_become w_X11_become_B23 w_X11_become_B24 w_X11_become_B42
  rw [er, ey]
  refine ⟨fun h => by exfalso; omega, fun _ => ⟨fun h => by exfalso; omega, fun _ => ⟨fun h => by exfalso; omega, fun _ => ⟨fun h => ⟨fun _ => ?_, fun z => absurd li_0 z⟩, fun h => ⟨fun z => absurd z (by decide), fun _ => ?_⟩⟩⟩⟩⟩
  · obtain rfl : y = 3 := by omega
    exact k
  · have e := ma_3 (p := nI r) (q := nI y) (by omega) (by omega)
    have en : ((3 : Int32) * nI r + nI y).toNatClampNeg = 3 * r + y := by rw [tnc, e]; omega
    rw [en, bc_t r hr y (by omega)]
    exact ⟨by rw [e]; omega, k⟩
theorem pk3_t : ∀ x, x < 8 → ∀ y, y < 2 → ∀ z, z < 2 → ((nI x ||| (nI y <<< ((3 : Int32) &&& 31))) ||| (nI z <<< ((4 : Int32) &&& 31))).toInt = (x : Int) + 8 * (y : Int) + 16 * (z : Int) := by decide +kernel
theorem pk3 {a b c : Int32} (ha : 0 ≤ a.toInt ∧ a.toInt ≤ 7) (hb : b = 0 ∨ b = 1) (hc : c = 0 ∨ c = 1) : ((a ||| (b <<< ((3 : Int32) &&& 31))) ||| (c <<< ((4 : Int32) &&& 31))).toInt = a.toInt + 8 * b.toInt + 16 * c.toInt := by
  have b1 := b01 hb
  have c1 := b01 hc
  have ea : a = nI a.toInt.toNat := i_eq (by rw [nI_toInt (by omega)]; omega)
  have eb : b = nI b.toInt.toNat := i_eq (by rw [nI_toInt (by omega)]; omega)
  have ec : c = nI c.toInt.toNat := i_eq (by rw [nI_toInt (by omega)]; omega)
  have h := pk3_t a.toInt.toNat (by omega) b.toInt.toNat (by omega) c.toInt.toNat (by omega)
  rw [← ea, ← eb, ← ec] at h
  omega
theorem un3_t : ∀ n, n < 32 → ((nI n) &&& 7).toInt = ((n % 8 : Nat) : Int) ∧ ((nI n >>> ((3 : Int32) &&& 31)) &&& 1).toInt = ((n / 8 % 2 : Nat) : Int) ∧ (nI n >>> ((4 : Int32) &&& 31)).toInt = ((n / 16 : Nat) : Int) := by decide +kernel
theorem un3 {g : SV} (hG : GV g) {k : Nat} (hk : k < 9) {t : Int32} (ht : t.toInt = th3 g k) : (t &&& 7) = g (10 + k) ∧ ((t >>> ((3 : Int32) &&& 31)) &&& 1) = g (20 + k) ∧ (t >>> ((4 : Int32) &&& 31)) = g (30 + k) := by
  have a := hG.2.1 k hk
  have b := b01 a.2.1
  have c := b01 a.2.2
  unfold th3 at ht
  have et : t = nI t.toInt.toNat := i_eq (by rw [nI_toInt (by omega)]; omega)
  have h := un3_t t.toInt.toNat (by omega)
  rw [← et] at h
  obtain ⟨h1, h2, h3⟩ := h
  exact ⟨i_eq (by rw [h1]; omega), i_eq (by rw [h2]; omega), i_eq (by rw [h3]; omega)⟩
theorem ix3 {c : Int32} {p q : Nat} (hc : 0 ≤ c.toInt ∧ c.toInt ≤ 30) (hp : p < 3) (hq : q < 3) : (c + (((3 : Int32) * nI p) + nI q)).toInt = c.toInt + ((3 * p + q : Nat) : Int) ∧ (c + (((3 : Int32) * nI p) + nI q)).toNatClampNeg = c.toInt.toNat + (3 * p + q) := by
  have ep : (nI p).toInt = (p : Int) := nI_toInt (by omega)
  have eq : (nI q).toInt = (q : Int) := nI_toInt (by omega)
  have e := ma_3 (p := nI p) (q := nI q) (by omega) (by omega)
  have e2 : (c + (((3 : Int32) * nI p) + nI q)).toInt = c.toInt + ((3 * p + q : Nat) : Int) := by
    rw [ad_ab (by omega) (by omega), e]; omega
  exact ⟨e2, by rw [tnc, e2]; omega⟩
theorem ix40 {n : Nat} (hn : n < 3) : ((40 : Int32) + nI n).toInt = 40 + (n : Int) ∧ ((40 : Int32) + nI n).toNatClampNeg = 40 + n := by
  have en : (nI n).toInt = (n : Int) := nI_toInt (by omega)
  have e : ((40 : Int32) + nI n).toInt = 40 + (n : Int) := by
    rw [ad_ab (by rw [li_40]; omega) (by rw [li_40]; omega), li_40, en]
  exact ⟨e, by rw [tnc, e]; omega⟩
/-- what a pair's bits hold -/
theorem ck_pr {g : SV} (hG : GV g) {a b : Nat} (ha : a < 3) (hb : b < 3) (hab : a ≠ b) : ckI g / ((2 ^ pSN a b : Nat) : Int) % 32 = th3 g (3 * a + b) := by
  obtain ⟨-, -, -, -, t1, t2, t3, t5, t6, t7⟩ := ckI_g hG
  rcases (show (a = 0 ∧ b = 1) ∨ (a = 0 ∧ b = 2) ∨ (a = 1 ∧ b = 0) ∨ (a = 1 ∧ b = 2) ∨ (a = 2 ∧ b = 0) ∨ (a = 2 ∧ b = 1) by omega) with ⟨rfl, rfl⟩ | ⟨rfl, rfl⟩ | ⟨rfl, rfl⟩ | ⟨rfl, rfl⟩ | ⟨rfl, rfl⟩ | ⟨rfl, rfl⟩
  · rw [show ((2 ^ pSN 0 1 : Nat) : Int) = 4194304 from by decide +kernel]; exact t1
  · rw [show ((2 ^ pSN 0 2 : Nat) : Int) = 134217728 from by decide +kernel]; exact t2
  · rw [show ((2 ^ pSN 1 0 : Nat) : Int) = 4294967296 from by decide +kernel]; exact t3
  · rw [show ((2 ^ pSN 1 2 : Nat) : Int) = 137438953472 from by decide +kernel]; exact t5
  · rw [show ((2 ^ pSN 2 0 : Nat) : Int) = 4398046511104 from by decide +kernel]; exact t6
  · rw [show ((2 ^ pSN 2 1 : Nat) : Int) = 140737488355328 from by decide +kernel]; exact t7
theorem ck_cn {g : SV} (hG : GV g) {a : Nat} (ha : a < 3) : ckI g / ((2 ^ (4 + 4 * a) : Nat) : Int) % 16 = (g a).toInt := by
  obtain ⟨-, -, ⟨t0, t1, t2⟩, -, -⟩ := ckI_g hG
  rcases (show a = 0 ∨ a = 1 ∨ a = 2 by omega) with rfl | rfl | rfl
  · rw [show ((2 ^ (4 + 4 * 0) : Nat) : Int) = 16 from by decide +kernel]; exact t0
  · rw [show ((2 ^ (4 + 4 * 1) : Nat) : Int) = 256 from by decide +kernel]; exact t1
  · rw [show ((2 ^ (4 + 4 * 2) : Nat) : Int) = 4096 from by decide +kernel]; exact t2
theorem ck_ow {g : SV} (hG : GV g) {a : Nat} (ha : a < 3) : ckI g / ((2 ^ (16 + 2 * a) : Nat) : Int) % 4 = (g (40 + a)).toInt := by
  obtain ⟨-, -, -, ⟨t0, t1, t2⟩, -⟩ := ckI_g hG
  rcases (show a = 0 ∨ a = 1 ∨ a = 2 by omega) with rfl | rfl | rfl
  · rw [show ((2 ^ (16 + 2 * 0) : Nat) : Int) = 65536 from by decide +kernel]; exact t0
  · rw [show ((2 ^ (16 + 2 * 1) : Nat) : Int) = 262144 from by decide +kernel]; exact t1
  · rw [show ((2 ^ (16 + 2 * 2) : Nat) : Int) = 1048576 from by decide +kernel]; exact t2
/-- places that are told have been written, the others not -/
def UPK (f old g : SV) (c : Nat → Prop) : Prop := (∀ n, n < 51 → ¬ mpl n → f n = old n) ∧ ∀ n, mpl n → c n → f n = g n
theorem UPK_s {f old g : SV} {c c' : Nat → Prop} {k : Nat} {x : Int32} (h : UPK f old g c) (hk : mpl k) (hx : x = g k) (hc : ∀ n, mpl n → c' n → n = k ∨ c n) : UPK (upd f k x) old g c' := by
  refine ⟨fun n hn m => ?_, fun n m q => ?_⟩
  · have ne : n ≠ k := fun e => m (by rw [e]; exact hk)
    rw [upd_ne ne]; exact h.1 n hn m
  · by_cases e : n = k
    · rw [e, upd_at]; exact hx
    · rw [upd_ne e]; exact h.2 n m ((hc n m q).resolve_left e)
theorem UPK_w {f old g : SV} {c c' : Nat → Prop} (h : UPK f old g c) (hc : ∀ n, mpl n → c' n → c n) : UPK f old g c' := ⟨h.1, fun n m q => h.2 n m (hc n m q)⟩
def HUP (S : KS) (g : SV) (c : Nat → Prop) (T : KS) : Prop := Fr [] [] [5] [] S.1 T.1 ∧ T.2 = S.2 ∧ UPK (ar T.1 5) (ar S.1 5) g c
theorem HUP_s {S T : KS} {g : SV} {c c' : Nat → Prop} {k : Nat} {x : Int32} (h : HUP S g c T) (hk : mpl k) (hx : x = g k) (hc : ∀ n, mpl n → c' n → n = k ∨ c n) : HUP S g c' (ksu T (1 + 4) k x) := by
  refine ⟨Fr.su (by decide) h.1, h.2.1, ?_⟩
  have e : ar (ksu T (1 + 4) k x).1 5 = upd (ar T.1 5) k x := su_at _ _ _ _
  rw [e]
  exact UPK_s h.2.2 hk hx hc
theorem HUP_w {S T : KS} {g : SV} {c c' : Nat → Prop} (h : HUP S g c T) (hc : ∀ n, mpl n → c' n → c n) : HUP S g c' T := ⟨h.1, h.2.1, UPK_w h.2.2 hc⟩
def uC (a n q m : Nat) : Prop := 40 ≤ m ∨ m < a ∨ (10 ≤ m ∧ m < 10 + (3 * n + q)) ∨ (20 ≤ m ∧ m < 20 + (3 * n + q)) ∨ (30 ≤ m ∧ m < 30 + (3 * n + q))
set_option maxHeartbeats 1000000 in
theorem r_9_unpackE (cy : Nat → ClassId) (tE : Nat) (S : KS) (v : Int64) (post : KS → Prop) (g : SV) (hG : GV g) (hv : v.toInt = ckI g) (k : ∀ S', Fr [] [] [5] [] S.1 S'.1 → S'.2 = S.2 → (∀ n, n < 51 → ¬ mpl n → ar S'.1 5 n = ar S.1 5 n) → EQV (ar S'.1 5) g → post S') : w_X9_unpack cy tE S 4 v post := by
  unfold w_X9_unpack
  obtain ⟨⟨v0, -⟩, f50, -⟩ := ckI_g hG
  rw [← hv] at v0 f50
  have e50 : (v &&& 15).toInt32 = g 50 := l_32i (by rw [l_an (v := v) (c := 15) (s := 4) (m := 16) (by decide) rfl (by decide) v0]; exact f50)
  have own : ∀ n, n < 3 → ((v.toUInt64 >>> ((nI (16 + 2 * n)).toInt64.toUInt64 &&& Int64.toUInt64 63)).toInt64 &&& 3).toInt32 = g (40 + n) := fun n hn => l_fld (ush_k _ (by omega)) rfl (w := 2) (W := 4) (by decide) rfl (by decide) v0 (by rw [hv]; exact ck_ow hG hn)
  have coi : ∀ n, n < 3 → ((v.toUInt64 >>> ((nI (4 + 4 * n)).toInt64.toUInt64 &&& Int64.toUInt64 63)).toInt64 &&& 15).toInt32 = g n := fun n hn => l_fld (ush_k _ (by omega)) rfl (w := 4) (W := 16) (by decide) rfl (by decide) v0 (by rw [hv]; exact ck_cn hG hn)
  have thr : ∀ a b, a < 3 → b < 3 → a ≠ b → (((v.toUInt64 >>> ((nI (pSN a b)).toInt64.toUInt64 &&& Int64.toUInt64 63)).toInt64 &&& 31).toInt32).toInt = th3 g (3 * a + b) := by
    intro a b ha hb hab
    have hb3 := th3_b hG (k := 3 * a + b) (by omega)
    have hx := ck_pr hG ha hb hab
    have hy : th3 g (3 * a + b) = (nI (th3 g (3 * a + b)).toNat).toInt := by rw [nI_toInt (by omega)]; omega
    rw [hy] at hx ⊢
    have hp := pSN_b a ha b hb hab
    rw [l_fld (v := v) (ush_k _ (by omega)) rfl (w := 5) (W := 32) (by decide) rfl (by decide) v0 (by rw [hv]; exact hx)]
  refine ⟨by decide, by decide, ?_⟩
  rw [e50]
  clear v0 f50 hv
  have b46 : ∀ T, HUP S g (uC 0 0 0) T → w_X9_unpack_B46 cy tE post T 4 v := by
    intro T hT
    unfold w_X9_unpack_B46
    refine lr4 (fun (T : KS) (i : Nat) (v' : Int64) (p : Int32) => i = 4 ∧ v' = v ∧ ∃ n : Nat, n ≤ 3 ∧ p = nI n ∧ HUP S g (uC n n 0) T) (fun _ _ _ p => (3 - p.toInt).toNat) ?_ _ _ _ _ ⟨rfl, rfl, 0, by omega, rfl, hT⟩
    rintro kk T i v' p ⟨rfl, rfl, n, hn, rfl, hT⟩ hk
    unfold w_X9_unpack_F48 w_X9_unpack_B165
    have pn : (nI n).toInt = (n : Int) := nI_toInt (by omega)
    rw [pn]
    refine ⟨fun h => ?_, fun h => ⟨by decide, r_9_cS cy tE T n _ (by omega) ⟨by decide, by omega, ?_⟩⟩⟩
    · obtain rfl : n = 3 := by omega
      exact k T hT.1 hT.2.1 hT.2.2.1 (fun m hm => hT.2.2.2 m hm (by unfold uC; unfold mpl at hm; omega))
    · have hn3 : n < 3 := by omega
      have nn : (nI n).toNatClampNeg = n := by rw [tnc, pn]; omega
      rw [nn, coi n hn3]
      have s1 : nI n + 1 = nI (n + 1) := nI_inc (by omega)
      refine lr5 (fun (U : KS) (i2 : Nat) (v2 : Int64) (p' q : Int32) => i2 = 4 ∧ v2 = v' ∧ p' = nI n ∧ ∃ m : Nat, m ≤ 3 ∧ q = nI m ∧ HUP S g (uC (n + 1) n m) U) (fun _ _ _ _ q => (3 - q.toInt).toNat) ?_ _ _ _ _ _ ⟨rfl, rfl, rfl, 0, by omega, rfl, HUP_s hT (by unfold mpl; omega) rfl (fun x hx hc => by unfold uC at hc ⊢; omega)⟩
      rintro kk2 U i2 v2 p' q ⟨rfl, rfl, rfl, m, hm, rfl, hU⟩ hk2
      unfold w_X9_unpack_F73 w_X9_unpack_B153 w_X9_unpack_B159
      have qn : (nI m).toInt = (m : Int) := nI_toInt (by omega)
      have s2 : nI m + 1 = nI (m + 1) := nI_inc (by omega)
      rw [qn, pn]
      refine ⟨fun h => ?_, fun h => ⟨fun e => ?_, fun e => r_9_pS cy tE U n m _ hn3 (by omega) (by omega) ?_⟩⟩
      · obtain rfl : m = 3 := by omega
        rw [s1]
        refine hk _ _ _ _ ⟨rfl, rfl, n + 1, by omega, rfl, HUP_w hU (fun x hx hc => by unfold uC at hc ⊢; omega)⟩ (by rw [nI_toInt (by omega), pn]; omega)
      · rw [s2]
        refine hk2 _ _ _ _ _ ⟨rfl, rfl, rfl, m + 1, by omega, rfl, HUP_w hU (fun x hx hc => ?_)⟩ (by rw [nI_toInt (by omega), qn]; omega)
        have enm : n = m := by omega
        subst enm
        unfold uC at hc ⊢
        unfold mpl at hx
        omega
      · have hm3 : m < 3 := by omega
        have hnm : n ≠ m := by omega
        obtain ⟨x1, x2⟩ := ix3 (c := 10) (p := n) (q := m) (by decide) hn3 hm3
        obtain ⟨y1, y2⟩ := ix3 (c := 20) (p := n) (q := m) (by decide) hn3 hm3
        obtain ⟨z1, z2⟩ := ix3 (c := 30) (p := n) (q := m) (by decide) hn3 hm3
        have e10 : (10 : Int32).toInt = 10 := by decide
        have e20 : (20 : Int32).toInt = 20 := by decide
        have e30 : (30 : Int32).toInt = 30 := by decide
        rw [e10] at x1 x2
        rw [e20] at y1 y2
        rw [e30] at z1 z2
        have x2' : ((10 : Int32) + (((3 : Int32) * nI n) + nI m)).toNatClampNeg = 10 + (3 * n + m) := x2
        have y2' : ((20 : Int32) + (((3 : Int32) * nI n) + nI m)).toNatClampNeg = 20 + (3 * n + m) := y2
        have z2' : ((30 : Int32) + (((3 : Int32) * nI n) + nI m)).toNatClampNeg = 30 + (3 * n + m) := z2
        obtain ⟨u1, u2, u3⟩ := un3 hG (k := 3 * n + m) (by omega) (thr n m hn3 hm3 hnm)
        obtain ⟨m1, m2, m3⟩ := mpl_p hn3 hm3 hnm
        rw [x1, y1, z1, x2', y2', z2', u1, u2, u3, s2]
        refine ⟨by decide, by decide, by omega, by decide, by decide, by omega, by decide, by decide, by omega, hk2 _ _ _ _ _ ⟨rfl, rfl, rfl, m + 1, by omega, rfl, ?_⟩ (by rw [nI_toInt (by omega), qn]; omega)⟩
        have w1 : HUP S g (fun x => uC (n + 1) n m x ∨ x = 10 + (3 * n + m)) (ksu U (1 + 4) (10 + (3 * n + m)) (g (10 + (3 * n + m)))) := HUP_s hU m1 rfl (fun x _ hc => Or.symm hc)
        have w2 : HUP S g (fun x => (uC (n + 1) n m x ∨ x = 10 + (3 * n + m)) ∨ x = 20 + (3 * n + m)) (ksu (ksu U (1 + 4) (10 + (3 * n + m)) (g (10 + (3 * n + m)))) (1 + 4) (20 + (3 * n + m)) (g (20 + (3 * n + m)))) := HUP_s w1 m2 rfl (fun x _ hc => Or.symm hc)
        refine HUP_s w2 m3 rfl (fun x hx hc => ?_)
        show x = 30 + (3 * n + m) ∨ ((uC (n + 1) n m x ∨ x = 10 + (3 * n + m)) ∨ x = 20 + (3 * n + m))
        unfold uC at hc ⊢
        omega
  refine lr4 (fun (T : KS) (i : Nat) (v' : Int64) (p : Int32) => i = 4 ∧ v' = v ∧ ∃ n : Nat, n ≤ 3 ∧ p = nI n ∧ HUP S g (fun m => m = 50 ∨ (40 ≤ m ∧ m < 40 + n)) T) (fun _ _ _ p => (3 - p.toInt).toNat) ?_ _ _ _ _ ⟨rfl, rfl, 0, by omega, rfl, ?_⟩
  · rintro kk T i v' p ⟨rfl, rfl, n, hn, rfl, hT⟩ hk
    unfold w_X9_unpack_F15
    have pn : (nI n).toInt = (n : Int) := nI_toInt (by omega)
    rw [pn]
    refine ⟨fun h => ?_, fun h => ⟨by decide, r_9_oS cy tE T n _ (by omega) ?_⟩⟩
    · obtain rfl : n = 3 := by omega
      exact b46 T (HUP_w hT (fun x hx hc => by
        show x = 50 ∨ (40 ≤ x ∧ x < 40 + 3)
        unfold uC at hc
        unfold mpl at hx
        omega))
    · obtain ⟨i1, i2⟩ := ix40 (n := n) (by omega)
      have s1 : nI n + 1 = nI (n + 1) := nI_inc (by omega)
      rw [i1, i2, own n (by omega), s1]
      refine ⟨by decide, by omega, hk _ _ _ _ ⟨rfl, rfl, n + 1, by omega, rfl, HUP_s hT (by unfold mpl; omega) rfl (fun x hx hc => by
        have hc2 : x = 50 ∨ (40 ≤ x ∧ x < 40 + (n + 1)) := hc
        show x = 40 + n ∨ (x = 50 ∨ (40 ≤ x ∧ x < 40 + n))
        omega)⟩ (by rw [nI_toInt (by omega), pn]; omega)⟩
  · have h0 : HUP S g (fun _ => False) S := ⟨Fr.rf, rfl, fun _ _ _ => rfl, fun _ _ q => q.elim⟩
    refine HUP_s h0 (by unfold mpl; omega) rfl (fun x hx hc => Or.inl ?_)
    have hc2 : x = 50 ∨ (40 ≤ x ∧ x < 40 + 0) := hc
    omega
/-- what has been packed: OWNERS, then of each PERSON its COIN and its pairs -/
def pkA (g : SV) : Nat → Int
  | 0 => (g 50).toInt
  | n + 1 => pkA g n + (g (40 + n)).toInt * ((2 ^ (16 + 2 * n) : Nat) : Int)
def pkQ (g : SV) (v : Int) (n : Nat) : Nat → Int
  | 0 => v + (g n).toInt * ((2 ^ (4 + 4 * n) : Nat) : Int)
  | q + 1 => if q = n then pkQ g v n q else pkQ g v n q + th3 g (3 * n + q) * ((2 ^ pSN n q : Nat) : Int)
def pkB (g : SV) : Nat → Int
  | 0 => pkA g 3
  | n + 1 => pkQ g (pkB g n) n 3
theorem pkQ_eq {g : SV} {v : Int} {n : Nat} : pkQ g v n (n + 1) = pkQ g v n n := if_pos rfl
theorem pkA_0 (g : SV) : pkA g 0 = (g 50).toInt := rfl
theorem pkA_1 (g : SV) : pkA g 1 = (g 50).toInt + (g (40 + 0)).toInt * 65536 := by
  rw [show pkA g 1 = pkA g 0 + (g (40 + 0)).toInt * (65536 : Int) from rfl, pkA_0]
theorem pkA_2 (g : SV) : pkA g 2 = (g 50).toInt + (g (40 + 0)).toInt * 65536 + (g (40 + 1)).toInt * 262144 := by
  rw [show pkA g 2 = pkA g 1 + (g (40 + 1)).toInt * (262144 : Int) from rfl, pkA_1]
theorem pkA_3 (g : SV) : pkA g 3 = (g 50).toInt + (g (40 + 0)).toInt * 65536 + (g (40 + 1)).toInt * 262144 + (g (40 + 2)).toInt * 1048576 := by
  rw [show pkA g 3 = pkA g 2 + (g (40 + 2)).toInt * (1048576 : Int) from rfl, pkA_2]
theorem pkB_0 (g : SV) : pkB g 0 = (g 50).toInt + (g (40 + 0)).toInt * 65536 + (g (40 + 1)).toInt * 262144 + (g (40 + 2)).toInt * 1048576 := pkA_3 g
theorem pkQ_00 (g : SV) : pkQ g (pkB g 0) 0 0 = (g 50).toInt + (g (40 + 0)).toInt * 65536 + (g (40 + 1)).toInt * 262144 + (g (40 + 2)).toInt * 1048576 + (g 0).toInt * 16 := by
  rw [show pkQ g (pkB g 0) 0 0 = pkB g 0 + (g 0).toInt * (16 : Int) from rfl, pkB_0]
theorem pkQ_01 (g : SV) : pkQ g (pkB g 0) 0 1 = (g 50).toInt + (g (40 + 0)).toInt * 65536 + (g (40 + 1)).toInt * 262144 + (g (40 + 2)).toInt * 1048576 + (g 0).toInt * 16 := Eq.trans (pkQ_eq (g := g) (v := pkB g 0) (n := 0)) (pkQ_00 g)
theorem pkQ_02 (g : SV) : pkQ g (pkB g 0) 0 2 = (g 50).toInt + (g (40 + 0)).toInt * 65536 + (g (40 + 1)).toInt * 262144 + (g (40 + 2)).toInt * 1048576 + (g 0).toInt * 16 + th3 g 1 * 4194304 := by
  rw [show pkQ g (pkB g 0) 0 2 = pkQ g (pkB g 0) 0 1 + th3 g 1 * (4194304 : Int) from rfl, pkQ_01]
theorem pkQ_03 (g : SV) : pkQ g (pkB g 0) 0 3 = (g 50).toInt + (g (40 + 0)).toInt * 65536 + (g (40 + 1)).toInt * 262144 + (g (40 + 2)).toInt * 1048576 + (g 0).toInt * 16 + th3 g 1 * 4194304 + th3 g 2 * 134217728 := by
  rw [show pkQ g (pkB g 0) 0 3 = pkQ g (pkB g 0) 0 2 + th3 g 2 * (134217728 : Int) from rfl, pkQ_02]
theorem pkB_1 (g : SV) : pkB g 1 = (g 50).toInt + (g (40 + 0)).toInt * 65536 + (g (40 + 1)).toInt * 262144 + (g (40 + 2)).toInt * 1048576 + (g 0).toInt * 16 + th3 g 1 * 4194304 + th3 g 2 * 134217728 := pkQ_03 g
theorem pkQ_10 (g : SV) : pkQ g (pkB g 1) 1 0 = (g 50).toInt + (g (40 + 0)).toInt * 65536 + (g (40 + 1)).toInt * 262144 + (g (40 + 2)).toInt * 1048576 + (g 0).toInt * 16 + th3 g 1 * 4194304 + th3 g 2 * 134217728 + (g 1).toInt * 256 := by
  rw [show pkQ g (pkB g 1) 1 0 = pkB g 1 + (g 1).toInt * (256 : Int) from rfl, pkB_1]
theorem pkQ_11 (g : SV) : pkQ g (pkB g 1) 1 1 = (g 50).toInt + (g (40 + 0)).toInt * 65536 + (g (40 + 1)).toInt * 262144 + (g (40 + 2)).toInt * 1048576 + (g 0).toInt * 16 + th3 g 1 * 4194304 + th3 g 2 * 134217728 + (g 1).toInt * 256 + th3 g 3 * 4294967296 := by
  rw [show pkQ g (pkB g 1) 1 1 = pkQ g (pkB g 1) 1 0 + th3 g 3 * (4294967296 : Int) from rfl, pkQ_10]
theorem pkQ_12 (g : SV) : pkQ g (pkB g 1) 1 2 = (g 50).toInt + (g (40 + 0)).toInt * 65536 + (g (40 + 1)).toInt * 262144 + (g (40 + 2)).toInt * 1048576 + (g 0).toInt * 16 + th3 g 1 * 4194304 + th3 g 2 * 134217728 + (g 1).toInt * 256 + th3 g 3 * 4294967296 := Eq.trans (pkQ_eq (g := g) (v := pkB g 1) (n := 1)) (pkQ_11 g)
theorem pkQ_13 (g : SV) : pkQ g (pkB g 1) 1 3 = (g 50).toInt + (g (40 + 0)).toInt * 65536 + (g (40 + 1)).toInt * 262144 + (g (40 + 2)).toInt * 1048576 + (g 0).toInt * 16 + th3 g 1 * 4194304 + th3 g 2 * 134217728 + (g 1).toInt * 256 + th3 g 3 * 4294967296 + th3 g 5 * 137438953472 := by
  rw [show pkQ g (pkB g 1) 1 3 = pkQ g (pkB g 1) 1 2 + th3 g 5 * (137438953472 : Int) from rfl, pkQ_12]
theorem pkB_2 (g : SV) : pkB g 2 = (g 50).toInt + (g (40 + 0)).toInt * 65536 + (g (40 + 1)).toInt * 262144 + (g (40 + 2)).toInt * 1048576 + (g 0).toInt * 16 + th3 g 1 * 4194304 + th3 g 2 * 134217728 + (g 1).toInt * 256 + th3 g 3 * 4294967296 + th3 g 5 * 137438953472 := pkQ_13 g
theorem pkQ_20 (g : SV) : pkQ g (pkB g 2) 2 0 = (g 50).toInt + (g (40 + 0)).toInt * 65536 + (g (40 + 1)).toInt * 262144 + (g (40 + 2)).toInt * 1048576 + (g 0).toInt * 16 + th3 g 1 * 4194304 + th3 g 2 * 134217728 + (g 1).toInt * 256 + th3 g 3 * 4294967296 + th3 g 5 * 137438953472 + (g 2).toInt * 4096 := by
  rw [show pkQ g (pkB g 2) 2 0 = pkB g 2 + (g 2).toInt * (4096 : Int) from rfl, pkB_2]
theorem pkQ_21 (g : SV) : pkQ g (pkB g 2) 2 1 = (g 50).toInt + (g (40 + 0)).toInt * 65536 + (g (40 + 1)).toInt * 262144 + (g (40 + 2)).toInt * 1048576 + (g 0).toInt * 16 + th3 g 1 * 4194304 + th3 g 2 * 134217728 + (g 1).toInt * 256 + th3 g 3 * 4294967296 + th3 g 5 * 137438953472 + (g 2).toInt * 4096 + th3 g 6 * 4398046511104 := by
  rw [show pkQ g (pkB g 2) 2 1 = pkQ g (pkB g 2) 2 0 + th3 g 6 * (4398046511104 : Int) from rfl, pkQ_20]
theorem pkQ_22 (g : SV) : pkQ g (pkB g 2) 2 2 = (g 50).toInt + (g (40 + 0)).toInt * 65536 + (g (40 + 1)).toInt * 262144 + (g (40 + 2)).toInt * 1048576 + (g 0).toInt * 16 + th3 g 1 * 4194304 + th3 g 2 * 134217728 + (g 1).toInt * 256 + th3 g 3 * 4294967296 + th3 g 5 * 137438953472 + (g 2).toInt * 4096 + th3 g 6 * 4398046511104 + th3 g 7 * 140737488355328 := by
  rw [show pkQ g (pkB g 2) 2 2 = pkQ g (pkB g 2) 2 1 + th3 g 7 * (140737488355328 : Int) from rfl, pkQ_21]
theorem pkQ_23 (g : SV) : pkQ g (pkB g 2) 2 3 = (g 50).toInt + (g (40 + 0)).toInt * 65536 + (g (40 + 1)).toInt * 262144 + (g (40 + 2)).toInt * 1048576 + (g 0).toInt * 16 + th3 g 1 * 4194304 + th3 g 2 * 134217728 + (g 1).toInt * 256 + th3 g 3 * 4294967296 + th3 g 5 * 137438953472 + (g 2).toInt * 4096 + th3 g 6 * 4398046511104 + th3 g 7 * 140737488355328 := Eq.trans (pkQ_eq (g := g) (v := pkB g 2) (n := 2)) (pkQ_22 g)
theorem pkB_3 (g : SV) : pkB g 3 = (g 50).toInt + (g (40 + 0)).toInt * 65536 + (g (40 + 1)).toInt * 262144 + (g (40 + 2)).toInt * 1048576 + (g 0).toInt * 16 + th3 g 1 * 4194304 + th3 g 2 * 134217728 + (g 1).toInt * 256 + th3 g 3 * 4294967296 + th3 g 5 * 137438953472 + (g 2).toInt * 4096 + th3 g 6 * 4398046511104 + th3 g 7 * 140737488355328 := pkQ_23 g
theorem pkB_ck (g : SV) : pkB g 3 = ckI g := by
  rw [pkB_3]
  unfold ckI
  have o0 : (g (40 + 0)).toInt = (g 40).toInt := rfl
  have o1 : (g (40 + 1)).toInt = (g 41).toInt := rfl
  have o2 : (g (40 + 2)).toInt = (g 42).toInt := rfl
  rw [o0, o1, o2]
  omega
theorem pzA_0 {g : SV} (h : GV g) : (0 ≤ (g 50).toInt ∧ (g 50).toInt < 4503599627370496) ∧ ((g 50).toInt) / 65536 % 4 = 0 := by
  have a0 := h.1 0 (by decide)
  have a1 := h.1 1 (by decide)
  have a2 := h.1 2 (by decide)
  have o0 := h.2.2.1 0 (by decide)
  have o1 := h.2.2.1 1 (by decide)
  have o2 := h.2.2.1 2 (by decide)
  have d := h.2.2.2
  have t1 := th3_b h (k := 1) (by decide)
  have t2 := th3_b h (k := 2) (by decide)
  have t3 := th3_b h (k := 3) (by decide)
  have t5 := th3_b h (k := 5) (by decide)
  have t6 := th3_b h (k := 6) (by decide)
  have t7 := th3_b h (k := 7) (by decide)
  generalize th3 g 1 = y1 at *
  generalize th3 g 2 = y2 at *
  generalize th3 g 3 = y3 at *
  generalize th3 g 5 = y5 at *
  generalize th3 g 6 = y6 at *
  generalize th3 g 7 = y7 at *
  generalize (g 0).toInt = x0 at *
  generalize (g 1).toInt = x1 at *
  generalize (g 2).toInt = x2 at *
  generalize (g (40 + 0)).toInt = z0 at *
  generalize (g (40 + 1)).toInt = z1 at *
  generalize (g (40 + 2)).toInt = z2 at *
  generalize (g 50).toInt = w at *
  clear h
  omega
theorem pzA_1 {g : SV} (h : GV g) : (0 ≤ (g 50).toInt + (g (40 + 0)).toInt * 65536 ∧ (g 50).toInt + (g (40 + 0)).toInt * 65536 < 4503599627370496) ∧ ((g 50).toInt + (g (40 + 0)).toInt * 65536) / 262144 % 4 = 0 := by
  have a0 := h.1 0 (by decide)
  have a1 := h.1 1 (by decide)
  have a2 := h.1 2 (by decide)
  have o0 := h.2.2.1 0 (by decide)
  have o1 := h.2.2.1 1 (by decide)
  have o2 := h.2.2.1 2 (by decide)
  have d := h.2.2.2
  have t1 := th3_b h (k := 1) (by decide)
  have t2 := th3_b h (k := 2) (by decide)
  have t3 := th3_b h (k := 3) (by decide)
  have t5 := th3_b h (k := 5) (by decide)
  have t6 := th3_b h (k := 6) (by decide)
  have t7 := th3_b h (k := 7) (by decide)
  generalize th3 g 1 = y1 at *
  generalize th3 g 2 = y2 at *
  generalize th3 g 3 = y3 at *
  generalize th3 g 5 = y5 at *
  generalize th3 g 6 = y6 at *
  generalize th3 g 7 = y7 at *
  generalize (g 0).toInt = x0 at *
  generalize (g 1).toInt = x1 at *
  generalize (g 2).toInt = x2 at *
  generalize (g (40 + 0)).toInt = z0 at *
  generalize (g (40 + 1)).toInt = z1 at *
  generalize (g (40 + 2)).toInt = z2 at *
  generalize (g 50).toInt = w at *
  clear h
  omega
theorem pzA_2 {g : SV} (h : GV g) : (0 ≤ (g 50).toInt + (g (40 + 0)).toInt * 65536 + (g (40 + 1)).toInt * 262144 ∧ (g 50).toInt + (g (40 + 0)).toInt * 65536 + (g (40 + 1)).toInt * 262144 < 4503599627370496) ∧ ((g 50).toInt + (g (40 + 0)).toInt * 65536 + (g (40 + 1)).toInt * 262144) / 1048576 % 4 = 0 := by
  have a0 := h.1 0 (by decide)
  have a1 := h.1 1 (by decide)
  have a2 := h.1 2 (by decide)
  have o0 := h.2.2.1 0 (by decide)
  have o1 := h.2.2.1 1 (by decide)
  have o2 := h.2.2.1 2 (by decide)
  have d := h.2.2.2
  have t1 := th3_b h (k := 1) (by decide)
  have t2 := th3_b h (k := 2) (by decide)
  have t3 := th3_b h (k := 3) (by decide)
  have t5 := th3_b h (k := 5) (by decide)
  have t6 := th3_b h (k := 6) (by decide)
  have t7 := th3_b h (k := 7) (by decide)
  generalize th3 g 1 = y1 at *
  generalize th3 g 2 = y2 at *
  generalize th3 g 3 = y3 at *
  generalize th3 g 5 = y5 at *
  generalize th3 g 6 = y6 at *
  generalize th3 g 7 = y7 at *
  generalize (g 0).toInt = x0 at *
  generalize (g 1).toInt = x1 at *
  generalize (g 2).toInt = x2 at *
  generalize (g (40 + 0)).toInt = z0 at *
  generalize (g (40 + 1)).toInt = z1 at *
  generalize (g (40 + 2)).toInt = z2 at *
  generalize (g 50).toInt = w at *
  clear h
  omega
theorem pzC_0 {g : SV} (h : GV g) : (0 ≤ (g 50).toInt + (g (40 + 0)).toInt * 65536 + (g (40 + 1)).toInt * 262144 + (g (40 + 2)).toInt * 1048576 ∧ (g 50).toInt + (g (40 + 0)).toInt * 65536 + (g (40 + 1)).toInt * 262144 + (g (40 + 2)).toInt * 1048576 < 4503599627370496) ∧ ((g 50).toInt + (g (40 + 0)).toInt * 65536 + (g (40 + 1)).toInt * 262144 + (g (40 + 2)).toInt * 1048576) / 16 % 16 = 0 := by
  have a0 := h.1 0 (by decide)
  have a1 := h.1 1 (by decide)
  have a2 := h.1 2 (by decide)
  have o0 := h.2.2.1 0 (by decide)
  have o1 := h.2.2.1 1 (by decide)
  have o2 := h.2.2.1 2 (by decide)
  have d := h.2.2.2
  have t1 := th3_b h (k := 1) (by decide)
  have t2 := th3_b h (k := 2) (by decide)
  have t3 := th3_b h (k := 3) (by decide)
  have t5 := th3_b h (k := 5) (by decide)
  have t6 := th3_b h (k := 6) (by decide)
  have t7 := th3_b h (k := 7) (by decide)
  generalize th3 g 1 = y1 at *
  generalize th3 g 2 = y2 at *
  generalize th3 g 3 = y3 at *
  generalize th3 g 5 = y5 at *
  generalize th3 g 6 = y6 at *
  generalize th3 g 7 = y7 at *
  generalize (g 0).toInt = x0 at *
  generalize (g 1).toInt = x1 at *
  generalize (g 2).toInt = x2 at *
  generalize (g (40 + 0)).toInt = z0 at *
  generalize (g (40 + 1)).toInt = z1 at *
  generalize (g (40 + 2)).toInt = z2 at *
  generalize (g 50).toInt = w at *
  clear h
  omega
theorem pzQ_01 {g : SV} (h : GV g) : (0 ≤ (g 50).toInt + (g (40 + 0)).toInt * 65536 + (g (40 + 1)).toInt * 262144 + (g (40 + 2)).toInt * 1048576 + (g 0).toInt * 16 ∧ (g 50).toInt + (g (40 + 0)).toInt * 65536 + (g (40 + 1)).toInt * 262144 + (g (40 + 2)).toInt * 1048576 + (g 0).toInt * 16 < 4503599627370496) ∧ ((g 50).toInt + (g (40 + 0)).toInt * 65536 + (g (40 + 1)).toInt * 262144 + (g (40 + 2)).toInt * 1048576 + (g 0).toInt * 16) / 4194304 % 32 = 0 := by
  have a0 := h.1 0 (by decide)
  have a1 := h.1 1 (by decide)
  have a2 := h.1 2 (by decide)
  have o0 := h.2.2.1 0 (by decide)
  have o1 := h.2.2.1 1 (by decide)
  have o2 := h.2.2.1 2 (by decide)
  have d := h.2.2.2
  have t1 := th3_b h (k := 1) (by decide)
  have t2 := th3_b h (k := 2) (by decide)
  have t3 := th3_b h (k := 3) (by decide)
  have t5 := th3_b h (k := 5) (by decide)
  have t6 := th3_b h (k := 6) (by decide)
  have t7 := th3_b h (k := 7) (by decide)
  generalize th3 g 1 = y1 at *
  generalize th3 g 2 = y2 at *
  generalize th3 g 3 = y3 at *
  generalize th3 g 5 = y5 at *
  generalize th3 g 6 = y6 at *
  generalize th3 g 7 = y7 at *
  generalize (g 0).toInt = x0 at *
  generalize (g 1).toInt = x1 at *
  generalize (g 2).toInt = x2 at *
  generalize (g (40 + 0)).toInt = z0 at *
  generalize (g (40 + 1)).toInt = z1 at *
  generalize (g (40 + 2)).toInt = z2 at *
  generalize (g 50).toInt = w at *
  clear h
  omega
theorem pzQ_02 {g : SV} (h : GV g) : (0 ≤ (g 50).toInt + (g (40 + 0)).toInt * 65536 + (g (40 + 1)).toInt * 262144 + (g (40 + 2)).toInt * 1048576 + (g 0).toInt * 16 + th3 g 1 * 4194304 ∧ (g 50).toInt + (g (40 + 0)).toInt * 65536 + (g (40 + 1)).toInt * 262144 + (g (40 + 2)).toInt * 1048576 + (g 0).toInt * 16 + th3 g 1 * 4194304 < 4503599627370496) ∧ ((g 50).toInt + (g (40 + 0)).toInt * 65536 + (g (40 + 1)).toInt * 262144 + (g (40 + 2)).toInt * 1048576 + (g 0).toInt * 16 + th3 g 1 * 4194304) / 134217728 % 32 = 0 := by
  have a0 := h.1 0 (by decide)
  have a1 := h.1 1 (by decide)
  have a2 := h.1 2 (by decide)
  have o0 := h.2.2.1 0 (by decide)
  have o1 := h.2.2.1 1 (by decide)
  have o2 := h.2.2.1 2 (by decide)
  have d := h.2.2.2
  have t1 := th3_b h (k := 1) (by decide)
  have t2 := th3_b h (k := 2) (by decide)
  have t3 := th3_b h (k := 3) (by decide)
  have t5 := th3_b h (k := 5) (by decide)
  have t6 := th3_b h (k := 6) (by decide)
  have t7 := th3_b h (k := 7) (by decide)
  generalize th3 g 1 = y1 at *
  generalize th3 g 2 = y2 at *
  generalize th3 g 3 = y3 at *
  generalize th3 g 5 = y5 at *
  generalize th3 g 6 = y6 at *
  generalize th3 g 7 = y7 at *
  generalize (g 0).toInt = x0 at *
  generalize (g 1).toInt = x1 at *
  generalize (g 2).toInt = x2 at *
  generalize (g (40 + 0)).toInt = z0 at *
  generalize (g (40 + 1)).toInt = z1 at *
  generalize (g (40 + 2)).toInt = z2 at *
  generalize (g 50).toInt = w at *
  clear h
  omega
theorem pzC_1 {g : SV} (h : GV g) : (0 ≤ (g 50).toInt + (g (40 + 0)).toInt * 65536 + (g (40 + 1)).toInt * 262144 + (g (40 + 2)).toInt * 1048576 + (g 0).toInt * 16 + th3 g 1 * 4194304 + th3 g 2 * 134217728 ∧ (g 50).toInt + (g (40 + 0)).toInt * 65536 + (g (40 + 1)).toInt * 262144 + (g (40 + 2)).toInt * 1048576 + (g 0).toInt * 16 + th3 g 1 * 4194304 + th3 g 2 * 134217728 < 4503599627370496) ∧ ((g 50).toInt + (g (40 + 0)).toInt * 65536 + (g (40 + 1)).toInt * 262144 + (g (40 + 2)).toInt * 1048576 + (g 0).toInt * 16 + th3 g 1 * 4194304 + th3 g 2 * 134217728) / 256 % 16 = 0 := by
  have a0 := h.1 0 (by decide)
  have a1 := h.1 1 (by decide)
  have a2 := h.1 2 (by decide)
  have o0 := h.2.2.1 0 (by decide)
  have o1 := h.2.2.1 1 (by decide)
  have o2 := h.2.2.1 2 (by decide)
  have d := h.2.2.2
  have t1 := th3_b h (k := 1) (by decide)
  have t2 := th3_b h (k := 2) (by decide)
  have t3 := th3_b h (k := 3) (by decide)
  have t5 := th3_b h (k := 5) (by decide)
  have t6 := th3_b h (k := 6) (by decide)
  have t7 := th3_b h (k := 7) (by decide)
  generalize th3 g 1 = y1 at *
  generalize th3 g 2 = y2 at *
  generalize th3 g 3 = y3 at *
  generalize th3 g 5 = y5 at *
  generalize th3 g 6 = y6 at *
  generalize th3 g 7 = y7 at *
  generalize (g 0).toInt = x0 at *
  generalize (g 1).toInt = x1 at *
  generalize (g 2).toInt = x2 at *
  generalize (g (40 + 0)).toInt = z0 at *
  generalize (g (40 + 1)).toInt = z1 at *
  generalize (g (40 + 2)).toInt = z2 at *
  generalize (g 50).toInt = w at *
  clear h
  omega
theorem pzQ_10 {g : SV} (h : GV g) : (0 ≤ (g 50).toInt + (g (40 + 0)).toInt * 65536 + (g (40 + 1)).toInt * 262144 + (g (40 + 2)).toInt * 1048576 + (g 0).toInt * 16 + th3 g 1 * 4194304 + th3 g 2 * 134217728 + (g 1).toInt * 256 ∧ (g 50).toInt + (g (40 + 0)).toInt * 65536 + (g (40 + 1)).toInt * 262144 + (g (40 + 2)).toInt * 1048576 + (g 0).toInt * 16 + th3 g 1 * 4194304 + th3 g 2 * 134217728 + (g 1).toInt * 256 < 4503599627370496) ∧ ((g 50).toInt + (g (40 + 0)).toInt * 65536 + (g (40 + 1)).toInt * 262144 + (g (40 + 2)).toInt * 1048576 + (g 0).toInt * 16 + th3 g 1 * 4194304 + th3 g 2 * 134217728 + (g 1).toInt * 256) / 4294967296 % 32 = 0 := by
  have a0 := h.1 0 (by decide)
  have a1 := h.1 1 (by decide)
  have a2 := h.1 2 (by decide)
  have o0 := h.2.2.1 0 (by decide)
  have o1 := h.2.2.1 1 (by decide)
  have o2 := h.2.2.1 2 (by decide)
  have d := h.2.2.2
  have t1 := th3_b h (k := 1) (by decide)
  have t2 := th3_b h (k := 2) (by decide)
  have t3 := th3_b h (k := 3) (by decide)
  have t5 := th3_b h (k := 5) (by decide)
  have t6 := th3_b h (k := 6) (by decide)
  have t7 := th3_b h (k := 7) (by decide)
  generalize th3 g 1 = y1 at *
  generalize th3 g 2 = y2 at *
  generalize th3 g 3 = y3 at *
  generalize th3 g 5 = y5 at *
  generalize th3 g 6 = y6 at *
  generalize th3 g 7 = y7 at *
  generalize (g 0).toInt = x0 at *
  generalize (g 1).toInt = x1 at *
  generalize (g 2).toInt = x2 at *
  generalize (g (40 + 0)).toInt = z0 at *
  generalize (g (40 + 1)).toInt = z1 at *
  generalize (g (40 + 2)).toInt = z2 at *
  generalize (g 50).toInt = w at *
  clear h
  omega
theorem pzQ_12 {g : SV} (h : GV g) : (0 ≤ (g 50).toInt + (g (40 + 0)).toInt * 65536 + (g (40 + 1)).toInt * 262144 + (g (40 + 2)).toInt * 1048576 + (g 0).toInt * 16 + th3 g 1 * 4194304 + th3 g 2 * 134217728 + (g 1).toInt * 256 + th3 g 3 * 4294967296 ∧ (g 50).toInt + (g (40 + 0)).toInt * 65536 + (g (40 + 1)).toInt * 262144 + (g (40 + 2)).toInt * 1048576 + (g 0).toInt * 16 + th3 g 1 * 4194304 + th3 g 2 * 134217728 + (g 1).toInt * 256 + th3 g 3 * 4294967296 < 4503599627370496) ∧ ((g 50).toInt + (g (40 + 0)).toInt * 65536 + (g (40 + 1)).toInt * 262144 + (g (40 + 2)).toInt * 1048576 + (g 0).toInt * 16 + th3 g 1 * 4194304 + th3 g 2 * 134217728 + (g 1).toInt * 256 + th3 g 3 * 4294967296) / 137438953472 % 32 = 0 := by
  have a0 := h.1 0 (by decide)
  have a1 := h.1 1 (by decide)
  have a2 := h.1 2 (by decide)
  have o0 := h.2.2.1 0 (by decide)
  have o1 := h.2.2.1 1 (by decide)
  have o2 := h.2.2.1 2 (by decide)
  have d := h.2.2.2
  have t1 := th3_b h (k := 1) (by decide)
  have t2 := th3_b h (k := 2) (by decide)
  have t3 := th3_b h (k := 3) (by decide)
  have t5 := th3_b h (k := 5) (by decide)
  have t6 := th3_b h (k := 6) (by decide)
  have t7 := th3_b h (k := 7) (by decide)
  generalize th3 g 1 = y1 at *
  generalize th3 g 2 = y2 at *
  generalize th3 g 3 = y3 at *
  generalize th3 g 5 = y5 at *
  generalize th3 g 6 = y6 at *
  generalize th3 g 7 = y7 at *
  generalize (g 0).toInt = x0 at *
  generalize (g 1).toInt = x1 at *
  generalize (g 2).toInt = x2 at *
  generalize (g (40 + 0)).toInt = z0 at *
  generalize (g (40 + 1)).toInt = z1 at *
  generalize (g (40 + 2)).toInt = z2 at *
  generalize (g 50).toInt = w at *
  clear h
  omega
theorem pzC_2 {g : SV} (h : GV g) : (0 ≤ (g 50).toInt + (g (40 + 0)).toInt * 65536 + (g (40 + 1)).toInt * 262144 + (g (40 + 2)).toInt * 1048576 + (g 0).toInt * 16 + th3 g 1 * 4194304 + th3 g 2 * 134217728 + (g 1).toInt * 256 + th3 g 3 * 4294967296 + th3 g 5 * 137438953472 ∧ (g 50).toInt + (g (40 + 0)).toInt * 65536 + (g (40 + 1)).toInt * 262144 + (g (40 + 2)).toInt * 1048576 + (g 0).toInt * 16 + th3 g 1 * 4194304 + th3 g 2 * 134217728 + (g 1).toInt * 256 + th3 g 3 * 4294967296 + th3 g 5 * 137438953472 < 4503599627370496) ∧ ((g 50).toInt + (g (40 + 0)).toInt * 65536 + (g (40 + 1)).toInt * 262144 + (g (40 + 2)).toInt * 1048576 + (g 0).toInt * 16 + th3 g 1 * 4194304 + th3 g 2 * 134217728 + (g 1).toInt * 256 + th3 g 3 * 4294967296 + th3 g 5 * 137438953472) / 4096 % 16 = 0 := by
  have a0 := h.1 0 (by decide)
  have a1 := h.1 1 (by decide)
  have a2 := h.1 2 (by decide)
  have o0 := h.2.2.1 0 (by decide)
  have o1 := h.2.2.1 1 (by decide)
  have o2 := h.2.2.1 2 (by decide)
  have d := h.2.2.2
  have t1 := th3_b h (k := 1) (by decide)
  have t2 := th3_b h (k := 2) (by decide)
  have t3 := th3_b h (k := 3) (by decide)
  have t5 := th3_b h (k := 5) (by decide)
  have t6 := th3_b h (k := 6) (by decide)
  have t7 := th3_b h (k := 7) (by decide)
  generalize th3 g 1 = y1 at *
  generalize th3 g 2 = y2 at *
  generalize th3 g 3 = y3 at *
  generalize th3 g 5 = y5 at *
  generalize th3 g 6 = y6 at *
  generalize th3 g 7 = y7 at *
  generalize (g 0).toInt = x0 at *
  generalize (g 1).toInt = x1 at *
  generalize (g 2).toInt = x2 at *
  generalize (g (40 + 0)).toInt = z0 at *
  generalize (g (40 + 1)).toInt = z1 at *
  generalize (g (40 + 2)).toInt = z2 at *
  generalize (g 50).toInt = w at *
  clear h
  omega
theorem pzQ_20 {g : SV} (h : GV g) : (0 ≤ (g 50).toInt + (g (40 + 0)).toInt * 65536 + (g (40 + 1)).toInt * 262144 + (g (40 + 2)).toInt * 1048576 + (g 0).toInt * 16 + th3 g 1 * 4194304 + th3 g 2 * 134217728 + (g 1).toInt * 256 + th3 g 3 * 4294967296 + th3 g 5 * 137438953472 + (g 2).toInt * 4096 ∧ (g 50).toInt + (g (40 + 0)).toInt * 65536 + (g (40 + 1)).toInt * 262144 + (g (40 + 2)).toInt * 1048576 + (g 0).toInt * 16 + th3 g 1 * 4194304 + th3 g 2 * 134217728 + (g 1).toInt * 256 + th3 g 3 * 4294967296 + th3 g 5 * 137438953472 + (g 2).toInt * 4096 < 4503599627370496) ∧ ((g 50).toInt + (g (40 + 0)).toInt * 65536 + (g (40 + 1)).toInt * 262144 + (g (40 + 2)).toInt * 1048576 + (g 0).toInt * 16 + th3 g 1 * 4194304 + th3 g 2 * 134217728 + (g 1).toInt * 256 + th3 g 3 * 4294967296 + th3 g 5 * 137438953472 + (g 2).toInt * 4096) / 4398046511104 % 32 = 0 := by
  have a0 := h.1 0 (by decide)
  have a1 := h.1 1 (by decide)
  have a2 := h.1 2 (by decide)
  have o0 := h.2.2.1 0 (by decide)
  have o1 := h.2.2.1 1 (by decide)
  have o2 := h.2.2.1 2 (by decide)
  have d := h.2.2.2
  have t1 := th3_b h (k := 1) (by decide)
  have t2 := th3_b h (k := 2) (by decide)
  have t3 := th3_b h (k := 3) (by decide)
  have t5 := th3_b h (k := 5) (by decide)
  have t6 := th3_b h (k := 6) (by decide)
  have t7 := th3_b h (k := 7) (by decide)
  generalize th3 g 1 = y1 at *
  generalize th3 g 2 = y2 at *
  generalize th3 g 3 = y3 at *
  generalize th3 g 5 = y5 at *
  generalize th3 g 6 = y6 at *
  generalize th3 g 7 = y7 at *
  generalize (g 0).toInt = x0 at *
  generalize (g 1).toInt = x1 at *
  generalize (g 2).toInt = x2 at *
  generalize (g (40 + 0)).toInt = z0 at *
  generalize (g (40 + 1)).toInt = z1 at *
  generalize (g (40 + 2)).toInt = z2 at *
  generalize (g 50).toInt = w at *
  clear h
  omega
theorem pzQ_21 {g : SV} (h : GV g) : (0 ≤ (g 50).toInt + (g (40 + 0)).toInt * 65536 + (g (40 + 1)).toInt * 262144 + (g (40 + 2)).toInt * 1048576 + (g 0).toInt * 16 + th3 g 1 * 4194304 + th3 g 2 * 134217728 + (g 1).toInt * 256 + th3 g 3 * 4294967296 + th3 g 5 * 137438953472 + (g 2).toInt * 4096 + th3 g 6 * 4398046511104 ∧ (g 50).toInt + (g (40 + 0)).toInt * 65536 + (g (40 + 1)).toInt * 262144 + (g (40 + 2)).toInt * 1048576 + (g 0).toInt * 16 + th3 g 1 * 4194304 + th3 g 2 * 134217728 + (g 1).toInt * 256 + th3 g 3 * 4294967296 + th3 g 5 * 137438953472 + (g 2).toInt * 4096 + th3 g 6 * 4398046511104 < 4503599627370496) ∧ ((g 50).toInt + (g (40 + 0)).toInt * 65536 + (g (40 + 1)).toInt * 262144 + (g (40 + 2)).toInt * 1048576 + (g 0).toInt * 16 + th3 g 1 * 4194304 + th3 g 2 * 134217728 + (g 1).toInt * 256 + th3 g 3 * 4294967296 + th3 g 5 * 137438953472 + (g 2).toInt * 4096 + th3 g 6 * 4398046511104) / 140737488355328 % 32 = 0 := by
  have a0 := h.1 0 (by decide)
  have a1 := h.1 1 (by decide)
  have a2 := h.1 2 (by decide)
  have o0 := h.2.2.1 0 (by decide)
  have o1 := h.2.2.1 1 (by decide)
  have o2 := h.2.2.1 2 (by decide)
  have d := h.2.2.2
  have t1 := th3_b h (k := 1) (by decide)
  have t2 := th3_b h (k := 2) (by decide)
  have t3 := th3_b h (k := 3) (by decide)
  have t5 := th3_b h (k := 5) (by decide)
  have t6 := th3_b h (k := 6) (by decide)
  have t7 := th3_b h (k := 7) (by decide)
  generalize th3 g 1 = y1 at *
  generalize th3 g 2 = y2 at *
  generalize th3 g 3 = y3 at *
  generalize th3 g 5 = y5 at *
  generalize th3 g 6 = y6 at *
  generalize th3 g 7 = y7 at *
  generalize (g 0).toInt = x0 at *
  generalize (g 1).toInt = x1 at *
  generalize (g 2).toInt = x2 at *
  generalize (g (40 + 0)).toInt = z0 at *
  generalize (g (40 + 1)).toInt = z1 at *
  generalize (g (40 + 2)).toInt = z2 at *
  generalize (g 50).toInt = w at *
  clear h
  omega
theorem pzA {g : SV} (h : GV g) {n : Nat} (hn : n < 3) : (0 ≤ pkA g n ∧ pkA g n < 4503599627370496) ∧ pkA g n / ((2 ^ (16 + 2 * n) : Nat) : Int) % 4 = 0 := by
  rcases (show n = 0 ∨ n = 1 ∨ n = 2 by omega) with rfl | rfl | rfl
  · rw [pkA_0, show ((2 ^ (16 + 2 * 0) : Nat) : Int) = 65536 from by decide +kernel]; exact pzA_0 h
  · rw [pkA_1, show ((2 ^ (16 + 2 * 1) : Nat) : Int) = 262144 from by decide +kernel]; exact pzA_1 h
  · rw [pkA_2, show ((2 ^ (16 + 2 * 2) : Nat) : Int) = 1048576 from by decide +kernel]; exact pzA_2 h
theorem pzC {g : SV} (h : GV g) {n : Nat} (hn : n < 3) : (0 ≤ pkB g n ∧ pkB g n < 4503599627370496) ∧ pkB g n / ((2 ^ (4 + 4 * n) : Nat) : Int) % 16 = 0 := by
  rcases (show n = 0 ∨ n = 1 ∨ n = 2 by omega) with rfl | rfl | rfl
  · rw [pkB_0, show ((2 ^ (4 + 4 * 0) : Nat) : Int) = 16 from by decide +kernel]; exact pzC_0 h
  · rw [pkB_1, show ((2 ^ (4 + 4 * 1) : Nat) : Int) = 256 from by decide +kernel]; exact pzC_1 h
  · rw [pkB_2, show ((2 ^ (4 + 4 * 2) : Nat) : Int) = 4096 from by decide +kernel]; exact pzC_2 h
theorem pzQ {g : SV} (h : GV g) {a b : Nat} (ha : a < 3) (hb : b < 3) (hab : a ≠ b) : (0 ≤ pkQ g (pkB g a) a b ∧ pkQ g (pkB g a) a b < 4503599627370496) ∧ pkQ g (pkB g a) a b / ((2 ^ pSN a b : Nat) : Int) % 32 = 0 := by
  rcases (show (a = 0 ∧ b = 1) ∨ (a = 0 ∧ b = 2) ∨ (a = 1 ∧ b = 0) ∨ (a = 1 ∧ b = 2) ∨ (a = 2 ∧ b = 0) ∨ (a = 2 ∧ b = 1) by omega) with ⟨rfl, rfl⟩ | ⟨rfl, rfl⟩ | ⟨rfl, rfl⟩ | ⟨rfl, rfl⟩ | ⟨rfl, rfl⟩ | ⟨rfl, rfl⟩
  · rw [pkQ_01, show ((2 ^ pSN 0 1 : Nat) : Int) = 4194304 from by decide +kernel]; exact pzQ_01 h
  · rw [pkQ_02, show ((2 ^ pSN 0 2 : Nat) : Int) = 134217728 from by decide +kernel]; exact pzQ_02 h
  · rw [pkQ_10, show ((2 ^ pSN 1 0 : Nat) : Int) = 4294967296 from by decide +kernel]; exact pzQ_10 h
  · rw [pkQ_12, show ((2 ^ pSN 1 2 : Nat) : Int) = 137438953472 from by decide +kernel]; exact pzQ_12 h
  · rw [pkQ_20, show ((2 ^ pSN 2 0 : Nat) : Int) = 4398046511104 from by decide +kernel]; exact pzQ_20 h
  · rw [pkQ_21, show ((2 ^ pSN 2 1 : Nat) : Int) = 140737488355328 from by decide +kernel]; exact pzQ_21 h
theorem pk_lC : ∀ n, n < 3 → 16 * 2 ^ (4 + 4 * n) ≤ 4503599627370496 := by decide +kernel
theorem pk_lA : ∀ n, n < 3 → 4 * 2 ^ (16 + 2 * n) ≤ 4503599627370496 := by decide +kernel
theorem pk_lE : ∀ a, a < 3 → ∀ b, b < 3 → a ≠ b → 32 * 2 ^ pSN a b ≤ 4503599627370496 := by decide +kernel
def PV (v : Int64) (z : Int) : Prop := v.toInt = z
set_option maxHeartbeats 1000000 in
theorem r_9_packedE (cy : Nat → ClassId) (tE : Nat) (S : KS) (i : Nat) (post : Int64 → KS → Prop) (g : SV) (hi : i < 5) (hG : GV g) (hg : EQV (ar S.1 (1 + i)) g) (k : ∀ v : Int64, v.toInt = ckI g → post v S) : w_X9_packed cy tE S i 0 0 post := by
  unfold w_X9_packed
  rw [hg 50 (by decide)]
  have e0 : (0 : Int32) = nI 0 := rfl
  have b52 : ∀ v : Int64, PV v (pkB g 0) → w_X9_packed_B52 cy tE post S i 0 v := by
    intro v hv
    unfold w_X9_packed_B52
    refine lr5 (fun (T : KS) (i' : Nat) (x : Int32) (v : Int64) (p : Int32) => T = S ∧ i' = i ∧ x = 0 ∧ ∃ n : Nat, n ≤ 3 ∧ p = nI n ∧ PV v (pkB g n)) (fun _ _ _ _ p => (3 - p.toInt).toNat) ?_ _ _ _ _ _ ⟨rfl, rfl, rfl, 0, by omega, rfl, hv⟩
    rintro kk T i' x v p ⟨rfl, rfl, rfl, n, hn, rfl, hv⟩ hk
    unfold w_X9_packed_F55 w_X9_packed_B179
    have pn : (nI n).toInt = (n : Int) := nI_toInt (by omega)
    rw [pn]
    refine ⟨fun h => ?_, fun h => ?_⟩
    · obtain rfl : n = 3 := by omega
      exact k v (Eq.trans (show v.toInt = pkB g 3 from hv) (pkB_ck g))
    have hn3 : n < 3 := by omega
    refine r_11_becE cy tE T 0 n _ (by decide) (by omega) ?_
    rw [bcN_0 n (by omega)]
    refine ⟨hi, hi, by omega, r_9_cS cy tE T n _ hn3 ?_⟩
    have nn : (nI n).toNatClampNeg = n := by rw [tnc, pn]; omega
    rw [nn, hg n (by unfold mpl; omega)]
    have ga := hG.1 n hn3
    have h64 : 4 + 4 * n < 64 := by omega
    have gb : 0 ≤ ((g n).toInt64).toInt ∧ ((g n).toInt64).toInt < ((16 : Nat) : Int) := by rw [l_32]; omega
    have cv : PV (v ||| ((g n).toInt64 <<< ((nI (4 + 4 * n)).toInt64 &&& 63))) (pkQ g (pkB g n) n 0) := by
      obtain ⟨c1, c2⟩ := pzC hG hn3
      rw [← (show v.toInt = pkB g n from hv)] at c1 c2
      have q := l_orf (v := v) (x := (g n).toInt64) (shl_k (4 + 4 * n) h64) rfl (j := 4) (w := 16) rfl c1 gb c2 (pk_lC n hn3)
      rw [l_32, (show v.toInt = pkB g n from hv)] at q
      exact q
    clear gb
    have s1 : nI n + 1 = nI (n + 1) := nI_inc (by omega)
    refine lr7 (fun (U : KS) (i2 : Nat) (x2 : Int32) (v2 : Int64) (p' z q : Int32) => U = T ∧ i2 = i' ∧ x2 = 0 ∧ p' = nI n ∧ z = nI n ∧ ∃ m : Nat, m ≤ 3 ∧ q = nI m ∧ PV v2 (pkQ g (pkB g n) n m)) (fun _ _ _ _ _ _ q => (3 - q.toInt).toNat) ?_ _ _ _ _ _ _ _ ⟨rfl, rfl, rfl, rfl, rfl, 0, by omega, rfl, cv⟩
    rintro kk2 U i2 x2 v2 p' z q ⟨rfl, rfl, rfl, rfl, rfl, m, hm, rfl, hv2⟩ hk2
    unfold w_X9_packed_F89 w_X9_packed_B167 w_X9_packed_B173
    have qn : (nI m).toInt = (m : Int) := nI_toInt (by omega)
    have s2 : nI m + 1 = nI (m + 1) := nI_inc (by omega)
    rw [qn, pn]
    refine ⟨fun h => ?_, fun h => ⟨fun e => ?_, fun e => ?_⟩⟩
    · obtain rfl : m = 3 := by omega
      rw [s1]
      exact hk _ _ _ _ _ ⟨rfl, rfl, rfl, n + 1, by omega, rfl, hv2⟩ (by rw [nI_toInt (by omega), pn]; omega)
    · rw [s2]
      refine hk2 _ _ _ _ _ _ _ ⟨rfl, rfl, rfl, rfl, rfl, m + 1, by omega, rfl, ?_⟩ (by rw [nI_toInt (by omega), qn]; omega)
      have enm : m = n := by omega
      show v2.toInt = if m = n then pkQ g (pkB g n) n m else _
      rw [if_pos enm]; exact hv2
    · have hm3 : m < 3 := by omega
      have hnm : n ≠ m := by omega
      obtain ⟨x1, x2⟩ := ix3 (c := 10) (p := n) (q := m) (by decide) hn3 hm3
      obtain ⟨y1, y2⟩ := ix3 (c := 20) (p := n) (q := m) (by decide) hn3 hm3
      obtain ⟨z1, z2⟩ := ix3 (c := 30) (p := n) (q := m) (by decide) hn3 hm3
      have e10 : (10 : Int32).toInt = 10 := by decide
      have e20 : (20 : Int32).toInt = 20 := by decide
      have e30 : (30 : Int32).toInt = 30 := by decide
      rw [e10] at x1 x2
      rw [e20] at y1 y2
      rw [e30] at z1 z2
      have x2' : ((10 : Int32) + (((3 : Int32) * nI n) + nI m)).toNatClampNeg = 10 + (3 * n + m) := x2
      have y2' : ((20 : Int32) + (((3 : Int32) * nI n) + nI m)).toNatClampNeg = 20 + (3 * n + m) := y2
      have z2' : ((30 : Int32) + (((3 : Int32) * nI n) + nI m)).toNatClampNeg = 30 + (3 * n + m) := z2
      obtain ⟨m1, m2, m3⟩ := mpl_p hn3 hm3 hnm
      rw [x1, y1, z1, x2', y2', z2', hg _ m1, hg _ m2, hg _ m3, s2]
      refine ⟨hi, hi, by omega, hi, hi, by omega, hi, hi, by omega, r_11_becE cy tE U 0 m _ (by decide) (by omega) ?_⟩
      rw [bcN_0 m (by omega)]
      refine r_9_pS cy tE U n m _ hn3 hm3 hnm (hk2 _ _ _ _ _ _ _ ⟨rfl, rfl, rfl, rfl, rfl, m + 1, by omega, rfl, ?_⟩ (by rw [nI_toInt (by omega), qn]; omega))
      have ga := hG.2.1 (3 * n + m) (by omega)
      have hp := pk3 ga.1 ga.2.1 ga.2.2
      have hb3 := th3_b hG (k := 3 * n + m) (by omega)
      have hp2 : ((g (10 + (3 * n + m)) ||| (g (20 + (3 * n + m)) <<< ((3 : Int32) &&& 31))) ||| (g (30 + (3 * n + m)) <<< ((4 : Int32) &&& 31))).toInt = th3 g (3 * n + m) := hp
      generalize ((g (10 + (3 * n + m)) ||| (g (20 + (3 * n + m)) <<< ((3 : Int32) &&& 31))) ||| (g (30 + (3 * n + m)) <<< ((4 : Int32) &&& 31))) = tt at hp2 ⊢
      have hb := pSN_b n hn3 m hm3 hnm
      have h64 : pSN n m < 64 := by omega
      have gb : 0 ≤ (tt.toInt64).toInt ∧ (tt.toInt64).toInt < ((32 : Nat) : Int) := by rw [l_32]; omega
      have hv2' : v2.toInt = pkQ g (pkB g n) n m := hv2
      obtain ⟨c1, c2⟩ := pzQ hG hn3 hm3 hnm
      rw [← hv2'] at c1 c2
      have cv := l_orf (v := v2) (x := tt.toInt64) (shl_k (pSN n m) h64) rfl (j := 5) (w := 32) rfl c1 gb c2 (pk_lE n hn3 m hm3 hnm)
      show (v2 ||| (tt.toInt64 <<< ((nI (pSN n m)).toInt64 &&& 63))).toInt = _
      rw [cv, l_32, hp2, hv2']
      show _ = if m = n then _ else pkQ g (pkB g n) n m + th3 g (3 * n + m) * ((2 ^ pSN n m : Nat) : Int)
      rw [if_neg (fun z => hnm z.symm)]
  refine ⟨hi, hi, ?_⟩
  refine lr6 (fun (T : KS) (i' : Nat) (x y : Int32) (v : Int64) (p : Int32) => T = S ∧ i' = i ∧ x = 0 ∧ y = 0 ∧ ∃ n : Nat, n ≤ 3 ∧ p = nI n ∧ PV v (pkA g n)) (fun _ _ _ _ _ p => (3 - p.toInt).toNat) ?_ _ _ _ _ _ _ ⟨rfl, rfl, rfl, rfl, 0, by omega, rfl, l_32⟩
  rintro kk T i' x y v p ⟨rfl, rfl, rfl, rfl, n, hn, rfl, hv⟩ hk
  unfold w_X9_packed_F12
  have pn : (nI n).toInt = (n : Int) := nI_toInt (by omega)
  rw [pn]
  refine ⟨fun h => ?_, fun h => ?_⟩
  · obtain rfl : n = 3 := by omega
    exact b52 v hv
  have hn3 : n < 3 := by omega
  obtain ⟨i1, i2⟩ := ix40 (n := n) hn3
  have ga := hG.2.2.1 n hn3
  have s1 : nI n + 1 = nI (n + 1) := nI_inc (by omega)
  rw [i1, i2, hg (40 + n) (by unfold mpl; omega), s1]
  have eo : g (40 + n) = nI (g (40 + n)).toInt.toNat := i_eq (by rw [nI_toInt (by omega)]; omega)
  refine ⟨hi, hi, by omega, ?_⟩
  rw [eo]
  refine r_11_becE cy tE T 0 _ _ (by decide) (by omega) ?_
  rw [bcN_0 _ (by omega), ← eo]
  refine r_11_becE cy tE T 0 n _ (by decide) (by omega) ?_
  rw [bcN_0 n (by omega)]
  refine r_9_oS cy tE T n _ hn3 (hk _ _ _ _ _ _ ⟨rfl, rfl, rfl, rfl, n + 1, by omega, rfl, ?_⟩ (by rw [nI_toInt (by omega), pn]; omega))
  have h64 : 16 + 2 * n < 64 := by omega
  have gb : 0 ≤ ((g (40 + n)).toInt64).toInt ∧ ((g (40 + n)).toInt64).toInt < ((4 : Nat) : Int) := by rw [l_32]; omega
  have hv' : v.toInt = pkA g n := hv
  obtain ⟨c1, c2⟩ := pzA hG hn3
  rw [← hv'] at c1 c2
  have cv := l_orf (v := v) (x := (g (40 + n)).toInt64) (shl_k (16 + 2 * n) h64) rfl (j := 2) (w := 4) rfl c1 gb c2 (pk_lA n hn3)
  show (v ||| ((g (40 + n)).toInt64 <<< ((nI (16 + 2 * n)).toInt64 &&& 63))).toInt = _
  rw [cv, l_32, hv']
  all_goals rfl
