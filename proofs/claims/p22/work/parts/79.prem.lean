def sTm (i : Nat) : Term := .string (sOwn.getD i "") (sIdx.getD i 0)
theorem fl_s1 : ∀ i, i < 21 → Cond.exactly (sTm i) "java/lang/String" ∈ flatC (Jvm.Cond.and given_1 narrow_1) := by decide +kernel
theorem fl_s2 : ∀ i, i < 21 → Cond.eq (.field (sTm i) "java/lang/String" "coder" "B") (.int 0) ∈ flatC (Jvm.Cond.and given_1 narrow_1) := by decide +kernel
theorem fl_s3 : ∀ i, i < 21 → Cond.arrayOf (.field (sTm i) "java/lang/String" "value" "[B") .byte ∈ flatC (Jvm.Cond.and given_1 narrow_1) := by decide +kernel
theorem fl_s4 : ∀ i, i < 21 → Cond.eq (.length (.field (sTm i) "java/lang/String" "value" "[B")) (.int (Int32.ofNat (sLen.getD i 0))) ∈ flatC (Jvm.Cond.and given_1 narrow_1) := by decide +kernel
def sFl : List Jvm.Cond := flatC (Jvm.Cond.and given_1 narrow_1)
theorem fl_s5_0_0 : ∀ j, j < 20 → sFl[([39, 40, 41, 42, 43, 44, 45, 46, 47, 48, 49, 50, 51, 52, 53, 54, 55, 56, 57, 58] : List Nat).getD j 0]? = some (Cond.eq (.elem (.field (sTm 0) "java/lang/String" "value" "[B") (.int (Int32.ofNat (0 + j)))) (.int ((sByt.getD 0 []).getD (0 + j) 0))) := by decide +kernel
theorem fl_s5_0_20 : ∀ j, j < 20 → sFl[([59, 60, 61, 62, 63, 64, 65, 66, 67, 68, 69, 70, 71, 72, 73, 74, 75, 76, 77, 78] : List Nat).getD j 0]? = some (Cond.eq (.elem (.field (sTm 0) "java/lang/String" "value" "[B") (.int (Int32.ofNat (20 + j)))) (.int ((sByt.getD 0 []).getD (20 + j) 0))) := by decide +kernel
theorem fl_s5_0_40 : ∀ j, j < 20 → sFl[([79, 80, 81, 82, 83, 84, 85, 86, 87, 88, 89, 90, 91, 92, 93, 94, 95, 96, 97, 98] : List Nat).getD j 0]? = some (Cond.eq (.elem (.field (sTm 0) "java/lang/String" "value" "[B") (.int (Int32.ofNat (40 + j)))) (.int ((sByt.getD 0 []).getD (40 + j) 0))) := by decide +kernel
theorem fl_s5_0_60 : ∀ j, j < 20 → sFl[([99, 100, 101, 102, 103, 104, 105, 106, 107, 108, 109, 110, 111, 112, 113, 114, 115, 116, 117, 118] : List Nat).getD j 0]? = some (Cond.eq (.elem (.field (sTm 0) "java/lang/String" "value" "[B") (.int (Int32.ofNat (60 + j)))) (.int ((sByt.getD 0 []).getD (60 + j) 0))) := by decide +kernel
theorem fl_s5_0_80 : ∀ j, j < 5 → sFl[([119, 120, 121, 122, 123] : List Nat).getD j 0]? = some (Cond.eq (.elem (.field (sTm 0) "java/lang/String" "value" "[B") (.int (Int32.ofNat (80 + j)))) (.int ((sByt.getD 0 []).getD (80 + j) 0))) := by decide +kernel
theorem fl_s5_0 : ∀ j, j < 85 → Cond.eq (.elem (.field (sTm 0) "java/lang/String" "value" "[B") (.int (Int32.ofNat j))) (.int ((sByt.getD 0 []).getD j 0)) ∈ flatC (Jvm.Cond.and given_1 narrow_1) := by
  intro j hj
  by_cases h0 : j < 20
  · have e := List.mem_of_getElem? (fl_s5_0_0 (j - 0) (by omega))
    rw [show 0 + (j - 0) = j by omega] at e
    exact e
  by_cases h20 : j < 40
  · have e := List.mem_of_getElem? (fl_s5_0_20 (j - 20) (by omega))
    rw [show 20 + (j - 20) = j by omega] at e
    exact e
  by_cases h40 : j < 60
  · have e := List.mem_of_getElem? (fl_s5_0_40 (j - 40) (by omega))
    rw [show 40 + (j - 40) = j by omega] at e
    exact e
  by_cases h60 : j < 80
  · have e := List.mem_of_getElem? (fl_s5_0_60 (j - 60) (by omega))
    rw [show 60 + (j - 60) = j by omega] at e
    exact e
  have e := List.mem_of_getElem? (fl_s5_0_80 (j - 80) (by omega))
  rw [show 80 + (j - 80) = j by omega] at e
  exact e

theorem fl_s5_1_0 : ∀ j, j < 9 → sFl[([128, 129, 130, 131, 132, 133, 134, 135, 136] : List Nat).getD j 0]? = some (Cond.eq (.elem (.field (sTm 1) "java/lang/String" "value" "[B") (.int (Int32.ofNat (0 + j)))) (.int ((sByt.getD 1 []).getD (0 + j) 0))) := by decide +kernel
theorem fl_s5_1 : ∀ j, j < 9 → Cond.eq (.elem (.field (sTm 1) "java/lang/String" "value" "[B") (.int (Int32.ofNat j))) (.int ((sByt.getD 1 []).getD j 0)) ∈ flatC (Jvm.Cond.and given_1 narrow_1) := by
  intro j hj
  have e := List.mem_of_getElem? (fl_s5_1_0 (j - 0) (by omega))
  rw [show 0 + (j - 0) = j by omega] at e
  exact e

theorem fl_s5_2_0 : ∀ j, j < 3 → sFl[([142, 143, 144] : List Nat).getD j 0]? = some (Cond.eq (.elem (.field (sTm 2) "java/lang/String" "value" "[B") (.int (Int32.ofNat (0 + j)))) (.int ((sByt.getD 2 []).getD (0 + j) 0))) := by decide +kernel
theorem fl_s5_2 : ∀ j, j < 3 → Cond.eq (.elem (.field (sTm 2) "java/lang/String" "value" "[B") (.int (Int32.ofNat j))) (.int ((sByt.getD 2 []).getD j 0)) ∈ flatC (Jvm.Cond.and given_1 narrow_1) := by
  intro j hj
  have e := List.mem_of_getElem? (fl_s5_2_0 (j - 0) (by omega))
  rw [show 0 + (j - 0) = j by omega] at e
  exact e

theorem fl_s5_3_0 : ∀ j, j < 4 → sFl[([151, 152, 153, 154] : List Nat).getD j 0]? = some (Cond.eq (.elem (.field (sTm 3) "java/lang/String" "value" "[B") (.int (Int32.ofNat (0 + j)))) (.int ((sByt.getD 3 []).getD (0 + j) 0))) := by decide +kernel
theorem fl_s5_3 : ∀ j, j < 4 → Cond.eq (.elem (.field (sTm 3) "java/lang/String" "value" "[B") (.int (Int32.ofNat j))) (.int ((sByt.getD 3 []).getD j 0)) ∈ flatC (Jvm.Cond.and given_1 narrow_1) := by
  intro j hj
  have e := List.mem_of_getElem? (fl_s5_3_0 (j - 0) (by omega))
  rw [show 0 + (j - 0) = j by omega] at e
  exact e

theorem fl_s5_4_0 : ∀ j, j < 4 → sFl[([162, 163, 164, 165] : List Nat).getD j 0]? = some (Cond.eq (.elem (.field (sTm 4) "java/lang/String" "value" "[B") (.int (Int32.ofNat (0 + j)))) (.int ((sByt.getD 4 []).getD (0 + j) 0))) := by decide +kernel
theorem fl_s5_4 : ∀ j, j < 4 → Cond.eq (.elem (.field (sTm 4) "java/lang/String" "value" "[B") (.int (Int32.ofNat j))) (.int ((sByt.getD 4 []).getD j 0)) ∈ flatC (Jvm.Cond.and given_1 narrow_1) := by
  intro j hj
  have e := List.mem_of_getElem? (fl_s5_4_0 (j - 0) (by omega))
  rw [show 0 + (j - 0) = j by omega] at e
  exact e

theorem fl_s5_5_0 : ∀ j, j < 4 → sFl[([174, 175, 176, 177] : List Nat).getD j 0]? = some (Cond.eq (.elem (.field (sTm 5) "java/lang/String" "value" "[B") (.int (Int32.ofNat (0 + j)))) (.int ((sByt.getD 5 []).getD (0 + j) 0))) := by decide +kernel
theorem fl_s5_5 : ∀ j, j < 4 → Cond.eq (.elem (.field (sTm 5) "java/lang/String" "value" "[B") (.int (Int32.ofNat j))) (.int ((sByt.getD 5 []).getD j 0)) ∈ flatC (Jvm.Cond.and given_1 narrow_1) := by
  intro j hj
  have e := List.mem_of_getElem? (fl_s5_5_0 (j - 0) (by omega))
  rw [show 0 + (j - 0) = j by omega] at e
  exact e

theorem fl_s5_6_0 : ∀ j, j < 4 → sFl[([187, 188, 189, 190] : List Nat).getD j 0]? = some (Cond.eq (.elem (.field (sTm 6) "java/lang/String" "value" "[B") (.int (Int32.ofNat (0 + j)))) (.int ((sByt.getD 6 []).getD (0 + j) 0))) := by decide +kernel
theorem fl_s5_6 : ∀ j, j < 4 → Cond.eq (.elem (.field (sTm 6) "java/lang/String" "value" "[B") (.int (Int32.ofNat j))) (.int ((sByt.getD 6 []).getD j 0)) ∈ flatC (Jvm.Cond.and given_1 narrow_1) := by
  intro j hj
  have e := List.mem_of_getElem? (fl_s5_6_0 (j - 0) (by omega))
  rw [show 0 + (j - 0) = j by omega] at e
  exact e

theorem fl_s5_7_0 : ∀ j, j < 3 → sFl[([201, 202, 203] : List Nat).getD j 0]? = some (Cond.eq (.elem (.field (sTm 7) "java/lang/String" "value" "[B") (.int (Int32.ofNat (0 + j)))) (.int ((sByt.getD 7 []).getD (0 + j) 0))) := by decide +kernel
theorem fl_s5_7 : ∀ j, j < 3 → Cond.eq (.elem (.field (sTm 7) "java/lang/String" "value" "[B") (.int (Int32.ofNat j))) (.int ((sByt.getD 7 []).getD j 0)) ∈ flatC (Jvm.Cond.and given_1 narrow_1) := by
  intro j hj
  have e := List.mem_of_getElem? (fl_s5_7_0 (j - 0) (by omega))
  rw [show 0 + (j - 0) = j by omega] at e
  exact e

theorem fl_s5_8_0 : ∀ j, j < 4 → sFl[([215, 216, 217, 218] : List Nat).getD j 0]? = some (Cond.eq (.elem (.field (sTm 8) "java/lang/String" "value" "[B") (.int (Int32.ofNat (0 + j)))) (.int ((sByt.getD 8 []).getD (0 + j) 0))) := by decide +kernel
theorem fl_s5_8 : ∀ j, j < 4 → Cond.eq (.elem (.field (sTm 8) "java/lang/String" "value" "[B") (.int (Int32.ofNat j))) (.int ((sByt.getD 8 []).getD j 0)) ∈ flatC (Jvm.Cond.and given_1 narrow_1) := by
  intro j hj
  have e := List.mem_of_getElem? (fl_s5_8_0 (j - 0) (by omega))
  rw [show 0 + (j - 0) = j by omega] at e
  exact e

theorem fl_s5_9_0 : ∀ j, j < 3 → sFl[([231, 232, 233] : List Nat).getD j 0]? = some (Cond.eq (.elem (.field (sTm 9) "java/lang/String" "value" "[B") (.int (Int32.ofNat (0 + j)))) (.int ((sByt.getD 9 []).getD (0 + j) 0))) := by decide +kernel
theorem fl_s5_9 : ∀ j, j < 3 → Cond.eq (.elem (.field (sTm 9) "java/lang/String" "value" "[B") (.int (Int32.ofNat j))) (.int ((sByt.getD 9 []).getD j 0)) ∈ flatC (Jvm.Cond.and given_1 narrow_1) := by
  intro j hj
  have e := List.mem_of_getElem? (fl_s5_9_0 (j - 0) (by omega))
  rw [show 0 + (j - 0) = j by omega] at e
  exact e

theorem fl_s5_10_0 : ∀ j, j < 4 → sFl[([247, 248, 249, 250] : List Nat).getD j 0]? = some (Cond.eq (.elem (.field (sTm 10) "java/lang/String" "value" "[B") (.int (Int32.ofNat (0 + j)))) (.int ((sByt.getD 10 []).getD (0 + j) 0))) := by decide +kernel
theorem fl_s5_10 : ∀ j, j < 4 → Cond.eq (.elem (.field (sTm 10) "java/lang/String" "value" "[B") (.int (Int32.ofNat j))) (.int ((sByt.getD 10 []).getD j 0)) ∈ flatC (Jvm.Cond.and given_1 narrow_1) := by
  intro j hj
  have e := List.mem_of_getElem? (fl_s5_10_0 (j - 0) (by omega))
  rw [show 0 + (j - 0) = j by omega] at e
  exact e

theorem fl_s5_11_0 : ∀ j, j < 5 → sFl[([265, 266, 267, 268, 269] : List Nat).getD j 0]? = some (Cond.eq (.elem (.field (sTm 11) "java/lang/String" "value" "[B") (.int (Int32.ofNat (0 + j)))) (.int ((sByt.getD 11 []).getD (0 + j) 0))) := by decide +kernel
theorem fl_s5_11 : ∀ j, j < 5 → Cond.eq (.elem (.field (sTm 11) "java/lang/String" "value" "[B") (.int (Int32.ofNat j))) (.int ((sByt.getD 11 []).getD j 0)) ∈ flatC (Jvm.Cond.and given_1 narrow_1) := by
  intro j hj
  have e := List.mem_of_getElem? (fl_s5_11_0 (j - 0) (by omega))
  rw [show 0 + (j - 0) = j by omega] at e
  exact e

theorem fl_s5_12_0 : ∀ j, j < 3 → sFl[([285, 286, 287] : List Nat).getD j 0]? = some (Cond.eq (.elem (.field (sTm 12) "java/lang/String" "value" "[B") (.int (Int32.ofNat (0 + j)))) (.int ((sByt.getD 12 []).getD (0 + j) 0))) := by decide +kernel
theorem fl_s5_12 : ∀ j, j < 3 → Cond.eq (.elem (.field (sTm 12) "java/lang/String" "value" "[B") (.int (Int32.ofNat j))) (.int ((sByt.getD 12 []).getD j 0)) ∈ flatC (Jvm.Cond.and given_1 narrow_1) := by
  intro j hj
  have e := List.mem_of_getElem? (fl_s5_12_0 (j - 0) (by omega))
  rw [show 0 + (j - 0) = j by omega] at e
  exact e

theorem fl_s5_13_0 : ∀ j, j < 2 → sFl[([304, 305] : List Nat).getD j 0]? = some (Cond.eq (.elem (.field (sTm 13) "java/lang/String" "value" "[B") (.int (Int32.ofNat (0 + j)))) (.int ((sByt.getD 13 []).getD (0 + j) 0))) := by decide +kernel
theorem fl_s5_13 : ∀ j, j < 2 → Cond.eq (.elem (.field (sTm 13) "java/lang/String" "value" "[B") (.int (Int32.ofNat j))) (.int ((sByt.getD 13 []).getD j 0)) ∈ flatC (Jvm.Cond.and given_1 narrow_1) := by
  intro j hj
  have e := List.mem_of_getElem? (fl_s5_13_0 (j - 0) (by omega))
  rw [show 0 + (j - 0) = j by omega] at e
  exact e

theorem fl_s5_14_0 : ∀ j, j < 3 → sFl[([323, 324, 325] : List Nat).getD j 0]? = some (Cond.eq (.elem (.field (sTm 14) "java/lang/String" "value" "[B") (.int (Int32.ofNat (0 + j)))) (.int ((sByt.getD 14 []).getD (0 + j) 0))) := by decide +kernel
theorem fl_s5_14 : ∀ j, j < 3 → Cond.eq (.elem (.field (sTm 14) "java/lang/String" "value" "[B") (.int (Int32.ofNat j))) (.int ((sByt.getD 14 []).getD j 0)) ∈ flatC (Jvm.Cond.and given_1 narrow_1) := by
  intro j hj
  have e := List.mem_of_getElem? (fl_s5_14_0 (j - 0) (by omega))
  rw [show 0 + (j - 0) = j by omega] at e
  exact e

theorem fl_s5_15_0 : ∀ j, j < 3 → sFl[([344, 345, 346] : List Nat).getD j 0]? = some (Cond.eq (.elem (.field (sTm 15) "java/lang/String" "value" "[B") (.int (Int32.ofNat (0 + j)))) (.int ((sByt.getD 15 []).getD (0 + j) 0))) := by decide +kernel
theorem fl_s5_15 : ∀ j, j < 3 → Cond.eq (.elem (.field (sTm 15) "java/lang/String" "value" "[B") (.int (Int32.ofNat j))) (.int ((sByt.getD 15 []).getD j 0)) ∈ flatC (Jvm.Cond.and given_1 narrow_1) := by
  intro j hj
  have e := List.mem_of_getElem? (fl_s5_15_0 (j - 0) (by omega))
  rw [show 0 + (j - 0) = j by omega] at e
  exact e

theorem fl_s5_16_0 : ∀ j, j < 5 → sFl[([366, 367, 368, 369, 370] : List Nat).getD j 0]? = some (Cond.eq (.elem (.field (sTm 16) "java/lang/String" "value" "[B") (.int (Int32.ofNat (0 + j)))) (.int ((sByt.getD 16 []).getD (0 + j) 0))) := by decide +kernel
theorem fl_s5_16 : ∀ j, j < 5 → Cond.eq (.elem (.field (sTm 16) "java/lang/String" "value" "[B") (.int (Int32.ofNat j))) (.int ((sByt.getD 16 []).getD j 0)) ∈ flatC (Jvm.Cond.and given_1 narrow_1) := by
  intro j hj
  have e := List.mem_of_getElem? (fl_s5_16_0 (j - 0) (by omega))
  rw [show 0 + (j - 0) = j by omega] at e
  exact e

theorem fl_s5_17_0 : ∀ j, j < 4 → sFl[([391, 392, 393, 394] : List Nat).getD j 0]? = some (Cond.eq (.elem (.field (sTm 17) "java/lang/String" "value" "[B") (.int (Int32.ofNat (0 + j)))) (.int ((sByt.getD 17 []).getD (0 + j) 0))) := by decide +kernel
theorem fl_s5_17 : ∀ j, j < 4 → Cond.eq (.elem (.field (sTm 17) "java/lang/String" "value" "[B") (.int (Int32.ofNat j))) (.int ((sByt.getD 17 []).getD j 0)) ∈ flatC (Jvm.Cond.and given_1 narrow_1) := by
  intro j hj
  have e := List.mem_of_getElem? (fl_s5_17_0 (j - 0) (by omega))
  rw [show 0 + (j - 0) = j by omega] at e
  exact e

theorem fl_s5_18_0 : ∀ j, j < 6 → sFl[([416, 417, 418, 419, 420, 421] : List Nat).getD j 0]? = some (Cond.eq (.elem (.field (sTm 18) "java/lang/String" "value" "[B") (.int (Int32.ofNat (0 + j)))) (.int ((sByt.getD 18 []).getD (0 + j) 0))) := by decide +kernel
theorem fl_s5_18 : ∀ j, j < 6 → Cond.eq (.elem (.field (sTm 18) "java/lang/String" "value" "[B") (.int (Int32.ofNat j))) (.int ((sByt.getD 18 []).getD j 0)) ∈ flatC (Jvm.Cond.and given_1 narrow_1) := by
  intro j hj
  have e := List.mem_of_getElem? (fl_s5_18_0 (j - 0) (by omega))
  rw [show 0 + (j - 0) = j by omega] at e
  exact e

theorem fl_s5_19_0 : ∀ j, j < 1 → sFl[([444] : List Nat).getD j 0]? = some (Cond.eq (.elem (.field (sTm 19) "java/lang/String" "value" "[B") (.int (Int32.ofNat (0 + j)))) (.int ((sByt.getD 19 []).getD (0 + j) 0))) := by decide +kernel
theorem fl_s5_19 : ∀ j, j < 1 → Cond.eq (.elem (.field (sTm 19) "java/lang/String" "value" "[B") (.int (Int32.ofNat j))) (.int ((sByt.getD 19 []).getD j 0)) ∈ flatC (Jvm.Cond.and given_1 narrow_1) := by
  intro j hj
  have e := List.mem_of_getElem? (fl_s5_19_0 (j - 0) (by omega))
  rw [show 0 + (j - 0) = j by omega] at e
  exact e

theorem fl_s5_20_0 : ∀ j, j < 1 → sFl[([468] : List Nat).getD j 0]? = some (Cond.eq (.elem (.field (sTm 20) "java/lang/String" "value" "[B") (.int (Int32.ofNat (0 + j)))) (.int ((sByt.getD 20 []).getD (0 + j) 0))) := by decide +kernel
theorem fl_s5_20 : ∀ j, j < 1 → Cond.eq (.elem (.field (sTm 20) "java/lang/String" "value" "[B") (.int (Int32.ofNat j))) (.int ((sByt.getD 20 []).getD j 0)) ∈ flatC (Jvm.Cond.and given_1 narrow_1) := by
  intro j hj
  have e := List.mem_of_getElem? (fl_s5_20_0 (j - 0) (by omega))
  rw [show 0 + (j - 0) = j by omega] at e
  exact e

theorem fl_s5 : ∀ i, i < 21 → ∀ j, j < sLen.getD i 0 → Cond.eq (.elem (.field (sTm i) "java/lang/String" "value" "[B") (.int (Int32.ofNat j))) (.int ((sByt.getD i []).getD j 0)) ∈ flatC (Jvm.Cond.and given_1 narrow_1) := by
  intro i hi
  match i, hi with
  | 0, _ => exact fl_s5_0
  | 1, _ => exact fl_s5_1
  | 2, _ => exact fl_s5_2
  | 3, _ => exact fl_s5_3
  | 4, _ => exact fl_s5_4
  | 5, _ => exact fl_s5_5
  | 6, _ => exact fl_s5_6
  | 7, _ => exact fl_s5_7
  | 8, _ => exact fl_s5_8
  | 9, _ => exact fl_s5_9
  | 10, _ => exact fl_s5_10
  | 11, _ => exact fl_s5_11
  | 12, _ => exact fl_s5_12
  | 13, _ => exact fl_s5_13
  | 14, _ => exact fl_s5_14
  | 15, _ => exact fl_s5_15
  | 16, _ => exact fl_s5_16
  | 17, _ => exact fl_s5_17
  | 18, _ => exact fl_s5_18
  | 19, _ => exact fl_s5_19
  | 20, _ => exact fl_s5_20
  | k + 21, h => exact absurd h (by omega)

theorem fl_s6_0 : ∀ j, j < 21 → 0 ≠ j → (sFl[([0, 137, 145, 155, 166, 178, 191, 204, 219, 234, 251, 270, 288, 306, 326, 347, 371, 395, 422, 445, 469] : List Nat).getD j 0]? = some (if ([true, true, true, true, true, true, true, true, true, true, true, true, true, true, true, true, true, true, true, true, true] : List Bool).getD j true then Cond.not (Cond.eq (sTm 0) (sTm j)) else Cond.not (Cond.eq (sTm j) (sTm 0)))) := by decide +kernel
theorem fl_s6_1 : ∀ j, j < 21 → 1 ≠ j → (sFl[([137, 0, 146, 156, 167, 179, 192, 205, 220, 235, 252, 271, 289, 307, 327, 348, 372, 396, 423, 446, 470] : List Nat).getD j 0]? = some (if ([false, true, true, true, true, true, true, true, true, true, true, true, true, true, true, true, true, true, true, true, true] : List Bool).getD j true then Cond.not (Cond.eq (sTm 1) (sTm j)) else Cond.not (Cond.eq (sTm j) (sTm 1)))) := by decide +kernel
theorem fl_s6_2 : ∀ j, j < 21 → 2 ≠ j → (sFl[([145, 146, 0, 157, 168, 180, 193, 206, 221, 236, 253, 272, 290, 308, 328, 349, 373, 397, 424, 447, 471] : List Nat).getD j 0]? = some (if ([false, false, true, true, true, true, true, true, true, true, true, true, true, true, true, true, true, true, true, true, true] : List Bool).getD j true then Cond.not (Cond.eq (sTm 2) (sTm j)) else Cond.not (Cond.eq (sTm j) (sTm 2)))) := by decide +kernel
theorem fl_s6_3 : ∀ j, j < 21 → 3 ≠ j → (sFl[([155, 156, 157, 0, 169, 181, 194, 207, 222, 237, 254, 273, 291, 309, 329, 350, 374, 398, 425, 448, 472] : List Nat).getD j 0]? = some (if ([false, false, false, true, true, true, true, true, true, true, true, true, true, true, true, true, true, true, true, true, true] : List Bool).getD j true then Cond.not (Cond.eq (sTm 3) (sTm j)) else Cond.not (Cond.eq (sTm j) (sTm 3)))) := by decide +kernel
theorem fl_s6_4 : ∀ j, j < 21 → 4 ≠ j → (sFl[([166, 167, 168, 169, 0, 182, 195, 208, 223, 238, 255, 274, 292, 310, 330, 351, 375, 399, 426, 449, 473] : List Nat).getD j 0]? = some (if ([false, false, false, false, true, true, true, true, true, true, true, true, true, true, true, true, true, true, true, true, true] : List Bool).getD j true then Cond.not (Cond.eq (sTm 4) (sTm j)) else Cond.not (Cond.eq (sTm j) (sTm 4)))) := by decide +kernel
theorem fl_s6_5 : ∀ j, j < 21 → 5 ≠ j → (sFl[([178, 179, 180, 181, 182, 0, 196, 209, 224, 239, 256, 275, 293, 311, 331, 352, 376, 400, 427, 450, 474] : List Nat).getD j 0]? = some (if ([false, false, false, false, false, true, true, true, true, true, true, true, true, true, true, true, true, true, true, true, true] : List Bool).getD j true then Cond.not (Cond.eq (sTm 5) (sTm j)) else Cond.not (Cond.eq (sTm j) (sTm 5)))) := by decide +kernel
theorem fl_s6_6 : ∀ j, j < 21 → 6 ≠ j → (sFl[([191, 192, 193, 194, 195, 196, 0, 210, 225, 240, 257, 276, 294, 312, 332, 353, 377, 401, 428, 451, 475] : List Nat).getD j 0]? = some (if ([false, false, false, false, false, false, true, true, true, true, true, true, true, true, true, true, true, true, true, true, true] : List Bool).getD j true then Cond.not (Cond.eq (sTm 6) (sTm j)) else Cond.not (Cond.eq (sTm j) (sTm 6)))) := by decide +kernel
theorem fl_s6_7 : ∀ j, j < 21 → 7 ≠ j → (sFl[([204, 205, 206, 207, 208, 209, 210, 0, 226, 241, 258, 277, 295, 313, 333, 354, 378, 402, 429, 452, 476] : List Nat).getD j 0]? = some (if ([false, false, false, false, false, false, false, true, true, true, true, true, true, true, true, true, true, true, true, true, true] : List Bool).getD j true then Cond.not (Cond.eq (sTm 7) (sTm j)) else Cond.not (Cond.eq (sTm j) (sTm 7)))) := by decide +kernel
theorem fl_s6_8 : ∀ j, j < 21 → 8 ≠ j → (sFl[([219, 220, 221, 222, 223, 224, 225, 226, 0, 242, 259, 278, 296, 314, 334, 355, 379, 403, 430, 453, 477] : List Nat).getD j 0]? = some (if ([false, false, false, false, false, false, false, false, true, true, true, true, true, true, true, true, true, true, true, true, true] : List Bool).getD j true then Cond.not (Cond.eq (sTm 8) (sTm j)) else Cond.not (Cond.eq (sTm j) (sTm 8)))) := by decide +kernel
theorem fl_s6_9 : ∀ j, j < 21 → 9 ≠ j → (sFl[([234, 235, 236, 237, 238, 239, 240, 241, 242, 0, 260, 279, 297, 315, 335, 356, 380, 404, 431, 454, 478] : List Nat).getD j 0]? = some (if ([false, false, false, false, false, false, false, false, false, true, true, true, true, true, true, true, true, true, true, true, true] : List Bool).getD j true then Cond.not (Cond.eq (sTm 9) (sTm j)) else Cond.not (Cond.eq (sTm j) (sTm 9)))) := by decide +kernel
theorem fl_s6_10 : ∀ j, j < 21 → 10 ≠ j → (sFl[([251, 252, 253, 254, 255, 256, 257, 258, 259, 260, 0, 280, 298, 316, 336, 357, 381, 405, 432, 455, 479] : List Nat).getD j 0]? = some (if ([false, false, false, false, false, false, false, false, false, false, true, true, true, true, true, true, true, true, true, true, true] : List Bool).getD j true then Cond.not (Cond.eq (sTm 10) (sTm j)) else Cond.not (Cond.eq (sTm j) (sTm 10)))) := by decide +kernel
theorem fl_s6_11 : ∀ j, j < 21 → 11 ≠ j → (sFl[([270, 271, 272, 273, 274, 275, 276, 277, 278, 279, 280, 0, 299, 317, 337, 358, 382, 406, 433, 456, 480] : List Nat).getD j 0]? = some (if ([false, false, false, false, false, false, false, false, false, false, false, true, true, true, true, true, true, true, true, true, true] : List Bool).getD j true then Cond.not (Cond.eq (sTm 11) (sTm j)) else Cond.not (Cond.eq (sTm j) (sTm 11)))) := by decide +kernel
theorem fl_s6_12 : ∀ j, j < 21 → 12 ≠ j → (sFl[([288, 289, 290, 291, 292, 293, 294, 295, 296, 297, 298, 299, 0, 318, 338, 359, 383, 407, 434, 457, 481] : List Nat).getD j 0]? = some (if ([false, false, false, false, false, false, false, false, false, false, false, false, true, true, true, true, true, true, true, true, true] : List Bool).getD j true then Cond.not (Cond.eq (sTm 12) (sTm j)) else Cond.not (Cond.eq (sTm j) (sTm 12)))) := by decide +kernel
theorem fl_s6_13 : ∀ j, j < 21 → 13 ≠ j → (sFl[([306, 307, 308, 309, 310, 311, 312, 313, 314, 315, 316, 317, 318, 0, 339, 360, 384, 408, 435, 458, 482] : List Nat).getD j 0]? = some (if ([false, false, false, false, false, false, false, false, false, false, false, false, false, true, true, true, true, true, true, true, true] : List Bool).getD j true then Cond.not (Cond.eq (sTm 13) (sTm j)) else Cond.not (Cond.eq (sTm j) (sTm 13)))) := by decide +kernel
theorem fl_s6_14 : ∀ j, j < 21 → 14 ≠ j → (sFl[([326, 327, 328, 329, 330, 331, 332, 333, 334, 335, 336, 337, 338, 339, 0, 361, 385, 409, 436, 459, 483] : List Nat).getD j 0]? = some (if ([false, false, false, false, false, false, false, false, false, false, false, false, false, false, true, true, true, true, true, true, true] : List Bool).getD j true then Cond.not (Cond.eq (sTm 14) (sTm j)) else Cond.not (Cond.eq (sTm j) (sTm 14)))) := by decide +kernel
theorem fl_s6_15 : ∀ j, j < 21 → 15 ≠ j → (sFl[([347, 348, 349, 350, 351, 352, 353, 354, 355, 356, 357, 358, 359, 360, 361, 0, 386, 410, 437, 460, 484] : List Nat).getD j 0]? = some (if ([false, false, false, false, false, false, false, false, false, false, false, false, false, false, false, true, true, true, true, true, true] : List Bool).getD j true then Cond.not (Cond.eq (sTm 15) (sTm j)) else Cond.not (Cond.eq (sTm j) (sTm 15)))) := by decide +kernel
theorem fl_s6_16 : ∀ j, j < 21 → 16 ≠ j → (sFl[([371, 372, 373, 374, 375, 376, 377, 378, 379, 380, 381, 382, 383, 384, 385, 386, 0, 411, 438, 461, 485] : List Nat).getD j 0]? = some (if ([false, false, false, false, false, false, false, false, false, false, false, false, false, false, false, false, true, true, true, true, true] : List Bool).getD j true then Cond.not (Cond.eq (sTm 16) (sTm j)) else Cond.not (Cond.eq (sTm j) (sTm 16)))) := by decide +kernel
theorem fl_s6_17 : ∀ j, j < 21 → 17 ≠ j → (sFl[([395, 396, 397, 398, 399, 400, 401, 402, 403, 404, 405, 406, 407, 408, 409, 410, 411, 0, 439, 462, 486] : List Nat).getD j 0]? = some (if ([false, false, false, false, false, false, false, false, false, false, false, false, false, false, false, false, false, true, true, true, true] : List Bool).getD j true then Cond.not (Cond.eq (sTm 17) (sTm j)) else Cond.not (Cond.eq (sTm j) (sTm 17)))) := by decide +kernel
theorem fl_s6_18 : ∀ j, j < 21 → 18 ≠ j → (sFl[([422, 423, 424, 425, 426, 427, 428, 429, 430, 431, 432, 433, 434, 435, 436, 437, 438, 439, 0, 463, 487] : List Nat).getD j 0]? = some (if ([false, false, false, false, false, false, false, false, false, false, false, false, false, false, false, false, false, false, true, true, true] : List Bool).getD j true then Cond.not (Cond.eq (sTm 18) (sTm j)) else Cond.not (Cond.eq (sTm j) (sTm 18)))) := by decide +kernel
theorem fl_s6_19 : ∀ j, j < 21 → 19 ≠ j → (sFl[([445, 446, 447, 448, 449, 450, 451, 452, 453, 454, 455, 456, 457, 458, 459, 460, 461, 462, 463, 0, 488] : List Nat).getD j 0]? = some (if ([false, false, false, false, false, false, false, false, false, false, false, false, false, false, false, false, false, false, false, true, true] : List Bool).getD j true then Cond.not (Cond.eq (sTm 19) (sTm j)) else Cond.not (Cond.eq (sTm j) (sTm 19)))) := by decide +kernel
theorem fl_s6_20 : ∀ j, j < 21 → 20 ≠ j → (sFl[([469, 470, 471, 472, 473, 474, 475, 476, 477, 478, 479, 480, 481, 482, 483, 484, 485, 486, 487, 488, 0] : List Nat).getD j 0]? = some (if ([false, false, false, false, false, false, false, false, false, false, false, false, false, false, false, false, false, false, false, false, true] : List Bool).getD j true then Cond.not (Cond.eq (sTm 20) (sTm j)) else Cond.not (Cond.eq (sTm j) (sTm 20)))) := by decide +kernel
theorem fl_s6 : ∀ i, i < 21 → ∀ j, j < 21 → i ≠ j → (Cond.not (Cond.eq (sTm i) (sTm j)) ∈ flatC (Jvm.Cond.and given_1 narrow_1) ∨ Cond.not (Cond.eq (sTm j) (sTm i)) ∈ flatC (Jvm.Cond.and given_1 narrow_1)) := by
  have key : ∀ (bl : Bool) (x y : Cond), (if bl then x else y) ∈ sFl → x ∈ sFl ∨ y ∈ sFl := fun bl x y h => by cases bl with | true => exact Or.inl h | false => exact Or.inr h
  intro i hi j hj hn
  match i, hi, hn with
  | 0, _, hn => exact key _ _ _ (List.mem_of_getElem? (fl_s6_0 j hj hn))
  | 1, _, hn => exact key _ _ _ (List.mem_of_getElem? (fl_s6_1 j hj hn))
  | 2, _, hn => exact key _ _ _ (List.mem_of_getElem? (fl_s6_2 j hj hn))
  | 3, _, hn => exact key _ _ _ (List.mem_of_getElem? (fl_s6_3 j hj hn))
  | 4, _, hn => exact key _ _ _ (List.mem_of_getElem? (fl_s6_4 j hj hn))
  | 5, _, hn => exact key _ _ _ (List.mem_of_getElem? (fl_s6_5 j hj hn))
  | 6, _, hn => exact key _ _ _ (List.mem_of_getElem? (fl_s6_6 j hj hn))
  | 7, _, hn => exact key _ _ _ (List.mem_of_getElem? (fl_s6_7 j hj hn))
  | 8, _, hn => exact key _ _ _ (List.mem_of_getElem? (fl_s6_8 j hj hn))
  | 9, _, hn => exact key _ _ _ (List.mem_of_getElem? (fl_s6_9 j hj hn))
  | 10, _, hn => exact key _ _ _ (List.mem_of_getElem? (fl_s6_10 j hj hn))
  | 11, _, hn => exact key _ _ _ (List.mem_of_getElem? (fl_s6_11 j hj hn))
  | 12, _, hn => exact key _ _ _ (List.mem_of_getElem? (fl_s6_12 j hj hn))
  | 13, _, hn => exact key _ _ _ (List.mem_of_getElem? (fl_s6_13 j hj hn))
  | 14, _, hn => exact key _ _ _ (List.mem_of_getElem? (fl_s6_14 j hj hn))
  | 15, _, hn => exact key _ _ _ (List.mem_of_getElem? (fl_s6_15 j hj hn))
  | 16, _, hn => exact key _ _ _ (List.mem_of_getElem? (fl_s6_16 j hj hn))
  | 17, _, hn => exact key _ _ _ (List.mem_of_getElem? (fl_s6_17 j hj hn))
  | 18, _, hn => exact key _ _ _ (List.mem_of_getElem? (fl_s6_18 j hj hn))
  | 19, _, hn => exact key _ _ _ (List.mem_of_getElem? (fl_s6_19 j hj hn))
  | 20, _, hn => exact key _ _ _ (List.mem_of_getElem? (fl_s6_20 j hj hn))
  | k + 21, h, _ => exact absurd h (by omega)

theorem fl_s7 : ∀ i, i < 21 → Cond.stringRef (sOwn.getD i "") (sIdx.getD i 0) (sTxt.getD i "") ∈ lw_tbl := by decide +kernel
theorem fl_b1 : Cond.arrayOf (.static "LawHoles" "BECOME" "[I") .int ∈ flatC (Jvm.Cond.and given_1 narrow_1) := by decide +kernel
theorem fl_b2 : Cond.eq (.length (.static "LawHoles" "BECOME" "[I")) (.int (Int32.ofNat 18)) ∈ flatC (Jvm.Cond.and given_1 narrow_1) := by decide +kernel
theorem fl_b3 : ∀ j, j < 18 → Cond.eq (.elem (.static "LawHoles" "BECOME" "[I") (.int (Int32.ofNat j))) (.int (([0, 1, 2, 0, 2, 1, 1, 0, 2, 1, 2, 0, 2, 0, 1, 2, 1, 0] : List Int32).getD j 0)) ∈ flatC (Jvm.Cond.and given_1 narrow_1) := by decide +kernel
theorem fl_e1 : Cond.arrayOf (.static "java/util/ArrayList" "DEFAULTCAPACITY_EMPTY_ELEMENTDATA" "[Ljava/lang/Object;") (.object "java/lang/Object") ∈ flatC (Jvm.Cond.and given_1 narrow_1) := by decide +kernel
theorem fl_e2 : Cond.eq (.length (.static "java/util/ArrayList" "DEFAULTCAPACITY_EMPTY_ELEMENTDATA" "[Ljava/lang/Object;")) (.int (Int32.ofNat 0)) ∈ flatC (Jvm.Cond.and given_1 narrow_1) := by decide +kernel
theorem fl_c1 : Cond.eq (.static "java/lang/String" "COMPACT_STRINGS" "Z") (.int 1) ∈ flatC (Jvm.Cond.and given_1 narrow_1) := by decide +kernel
theorem fl_q1 : Cond.isRef (.static "jdk/internal/util/Preconditions" "SIOOBE_FORMATTER" "Ljava/util/function/BiFunction;") ∈ flatC (Jvm.Cond.and given_1 narrow_1) := by decide +kernel
theorem nW_in : ∀ w ∈ nW, w ∈ lw_tbl := by decide +kernel
theorem nW_on : ∀ w ∈ nW, w.onTables = true := by decide +kernel
set_option maxHeartbeats 4000000 in
theorem zE_start {s : State} {args : Array Value} (hts : ∀ w ∈ lw_tbl, w.before args s = true) (hgv : (Jvm.Cond.and given_1 narrow_1).before args s = true) : ∃ tB tE, zE s.heap.size tB tE s := by
  have hs := flat_of_before _ hgv
  have hA : ∀ a : Nat, a < s.heap.size → ¬ zA s.heap.size a := fun a h => Nat.not_le.mpr h
  obtain ⟨tB, eB, hTB⟩ := va_Tof (tm := (.static "LawHoles" "BECOME" "[I")) (ty := .int) (N := 18) (f := bec) (A := zA s.heap.size) (by decide) (hs _ fl_b1) (va_eqt (hs _ fl_b2)) (fun j hj => va_eqt (hs _ (fl_b3 j hj))) hA
  obtain ⟨tE, eE, hTE⟩ := va_Tof (tm := (.static "java/util/ArrayList" "DEFAULTCAPACITY_EMPTY_ELEMENTDATA" "[Ljava/lang/Object;")) (ty := .object "java/lang/Object") (N := 0) (f := fun _ => .null) (A := zA s.heap.size) (by decide) (hs _ fl_e1) (va_eqt (hs _ fl_e2)) (fun j hj => absurd hj (Nat.not_lt_zero j)) hA
  obtain ⟨adK, adV, hS, hev⟩ := vk_Sof (args := args) (s := s) (tm := sTm) (N := 21) (len := sLen) (byt := sByt) (A := zA s.heap.size) (by decide) (fun i hi => hs _ (fl_s1 i hi)) (fun i hi => hs _ (fl_s2 i hi)) (fun i hi => hs _ (fl_s3 i hi)) (fun i hi => hs _ (fl_s4 i hi)) (fun i hi j hj => hs _ (fl_s5 i hi j hj)) (fun i j hi hj hn => (fl_s6 i hi j hj hn).elim (fun h => Or.inl (hs _ h)) (fun h => Or.inr (hs _ h))) hA
  exact ⟨tB, tE, fun w hw => va_Nw.of (nW_on w hw) (hts w (nW_in w hw)), va_Zref (hts (.laysStatic "LawHoles" "BECOME" "[I") (by decide +kernel)) (hts (.initialized "LawHoles") (by decide +kernel)) eB hA, hTB, va_Zref (hts (.laysStatic "java/util/ArrayList" "DEFAULTCAPACITY_EMPTY_ELEMENTDATA" "[Ljava/lang/Object;") (by decide +kernel)) (hts (.initialized "java/util/ArrayList") (by decide +kernel)) eE hA, ⟨va_Zof (hts (.laysStatic "java/lang/String" "COMPACT_STRINGS" "Z") (by decide +kernel)) (hts (.initialized "java/lang/String") (by decide +kernel)) (va_eqt (hs _ fl_c1)) hA, va_Zqof (hts (.laysStatic "jdk/internal/util/Preconditions" "SIOOBE_FORMATTER" "Ljava/util/function/BiFunction;") (by decide +kernel)) (hts (.initialized "jdk/internal/util/Preconditions") (by decide +kernel)) (hs _ fl_q1) hA, adK, adV, hS, fun i hi => vk_R.of (hts _ (fl_s7 i hi)) (hev i hi)⟩, va_AO.of (hts (.arrayOver (.object "LawHoles$Act")) (by decide +kernel)), va_AO.of (hts (.arrayOver (.object "LawHoles$Row")) (by decide +kernel)), va_AO.of (hts (.arrayOver (.object "java/lang/Object")) (by decide +kernel)), hTE⟩

set_option maxHeartbeats 4000000 in
theorem vK_start {s : State} {args : Array Value} (hts : ∀ w ∈ lw_tbl, w.before args s = true) : ∃ (D : va_G) (cy : Nat → ClassId), va_K D vwCl (TY cy) s := by
  obtain ⟨c0, s0, k0⟩ := u_known (C := RJx4a65c) (T := TJx4a65c) (N := 3) (n := 3) hts (fun w h => (List.mem_filter.mp (in_Jx4a65c w h)).1) (hts (.instantiable RJx4a65c 3) (by decide +kernel))
  obtain ⟨c1, s1, k1⟩ := u_known (C := RX0) (T := TX0) (N := 5) (n := 5) hts (fun w h => (List.mem_filter.mp (in_X0 w h)).1) (hts (.instantiable RX0 5) (by decide +kernel))
  obtain ⟨c2, s2, k2⟩ := u_known (C := RX1) (T := TX1) (N := 3) (n := 3) hts (fun w h => (List.mem_filter.mp (in_X1 w h)).1) (hts (.instantiable RX1 3) (by decide +kernel))
  obtain ⟨c3, s3, k3⟩ := u_known (C := RX2) (T := TX2) (N := 5) (n := 5) hts (fun w h => (List.mem_filter.mp (in_X2 w h)).1) (hts (.instantiable RX2 5) (by decide +kernel))
  obtain ⟨c4, s4, k4⟩ := u_known (C := RX3) (T := TX3) (N := 2) (n := 2) hts (fun w h => (List.mem_filter.mp (in_X3 w h)).1) (hts (.instantiable RX3 2) (by decide +kernel))
  obtain ⟨c5, s5, k5⟩ := u_known (C := RX4) (T := TX4) (N := 3) (n := 3) hts (fun w h => (List.mem_filter.mp (in_X4 w h)).1) (hts (.instantiable RX4 3) (by decide +kernel))
  obtain ⟨c6, s6, k6⟩ := u_known (C := RX5) (T := TX5) (N := 9) (n := 9) hts (fun w h => (List.mem_filter.mp (in_X5 w h)).1) (hts (.instantiable RX5 9) (by decide +kernel))
  obtain ⟨c7, s7, k7⟩ := u_known (C := RX6) (T := TX6) (N := 5) (n := 5) hts (fun w h => (List.mem_filter.mp (in_X6 w h)).1) (hts (.instantiable RX6 5) (by decide +kernel))
  obtain ⟨c8, s8, k8⟩ := u_known (C := RX7) (T := TX7) (N := 3) (n := 3) hts (fun w h => (List.mem_filter.mp (in_X7 w h)).1) (hts (.instantiable RX7 3) (by decide +kernel))
  obtain ⟨c9, s9, k9⟩ := u_known (C := RX8) (T := TX8) (N := 19) (n := 19) hts (fun w h => (List.mem_filter.mp (in_X8 w h)).1) (hts (.instantiable RX8 19) (by decide +kernel))
  obtain ⟨c10, s10, k10⟩ := u_known (C := RX9) (T := TX9) (N := 1) (n := 1) hts (fun w h => (List.mem_filter.mp (in_X9 w h)).1) (hts (.instantiable RX9 1) (by decide +kernel))
  obtain ⟨c11, s11, k11⟩ := u_known (C := RX10) (T := TX10) (N := 5) (n := 5) hts (fun w h => (List.mem_filter.mp (in_X10 w h)).1) (hts (.instantiable RX10 5) (by decide +kernel))
  obtain ⟨c12, s12, k12⟩ := u_known (C := RX11) (T := TX11) (N := 9) (n := 9) hts (fun w h => (List.mem_filter.mp (in_X11 w h)).1) (hts (.instantiable RX11 9) (by decide +kernel))
  obtain ⟨c13, s13, k13⟩ := u_known (C := RX12) (T := TX12) (N := 72) (n := 72) hts (fun w h => (List.mem_filter.mp (in_X12 w h)).1) (hts (.instantiable RX12 72) (by decide +kernel))
  obtain ⟨i0, j0, m0, e1, e2, e3⟩ := Cond.arrayClass_spec (hts (.arrayClass .int) (by decide +kernel))
  obtain ⟨i1, j1, m1, f1, f2, f3⟩ := Cond.arrayClass_spec (hts (.arrayClass .long) (by decide +kernel))
  obtain ⟨i2, j2, m2, g1, g2, g3⟩ := Cond.arrayClass_spec (hts (.arrayClass .boolean) (by decide +kernel))
  obtain ⟨m3, i3, j3, p4, -, p2, p3, p1⟩ := Cond.arrayOver_spec (hts (.arrayOver (.object "LawHoles$Act")) (by decide +kernel))
  obtain ⟨m4, i4, j4, q4, -, q2, q3, q1⟩ := Cond.arrayOver_spec (hts (.arrayOver (.object "LawHoles$Row")) (by decide +kernel))
  obtain ⟨m5, i5, j5, r4, -, r2, r3, r1⟩ := Cond.arrayOver_spec (hts (.arrayOver (.object "java/lang/Object")) (by decide +kernel))
  refine ⟨(fun k => ([c0, c1, c2, c3, c4, c5, c6, c7, c8, c9, c10, c11, c12, c13] : List ClassId).getD k c0, fun k => ([s0, s1, s2, s3, s4, s5, s6, s7, s8, s9, s10, s11, s12, s13] : List (Nat → Nat)).getD k s0), fun k => ([i0, i1, i2, i3, i4, i5] : List ClassId).getD k i0, ?_, ?_⟩
  · intro k q hq
    match k, hq with
    | 0, hq => cases hq; exact k0
    | 1, hq => cases hq; exact k1
    | 2, hq => cases hq; exact k2
    | 3, hq => cases hq; exact k3
    | 4, hq => cases hq; exact k4
    | 5, hq => cases hq; exact k5
    | 6, hq => cases hq; exact k6
    | 7, hq => cases hq; exact k7
    | 8, hq => cases hq; exact k8
    | 9, hq => cases hq; exact k9
    | 10, hq => cases hq; exact k10
    | 11, hq => cases hq; exact k11
    | 12, hq => cases hq; exact k12
    | 13, hq => cases hq; exact k13
    | k + 14, hq => simp [vwCl] at hq
  · intro k q hq
    match k, hq with
    | 0, hq => cases hq; exact ⟨fun N z => ⟨(fun k h => by cases h), j0, e2, m0, e3⟩, e1⟩
    | 1, hq => cases hq; exact ⟨fun N z => ⟨(fun k h => by cases h), j1, f2, m1, f3⟩, f1⟩
    | 2, hq => cases hq; exact ⟨fun N z => ⟨(fun k h => by cases h), j2, g2, m2, g3⟩, g1⟩
    | 3, hq => cases hq; exact ⟨fun N z => ⟨(fun k h => by cases h), j3, p2, m3, p3⟩, j3, m3, p2, p3, p4, p1⟩
    | 4, hq => cases hq; exact ⟨fun N z => ⟨(fun k h => by cases h), j4, q2, m4, q3⟩, j4, m4, q2, q3, q4, q1⟩
    | 5, hq => cases hq; exact ⟨fun N z => ⟨(fun k h => by cases h), j5, r2, m5, r3⟩, j5, m5, r2, r3, r4, r1⟩
    | k + 6, hq => simp [TY] at hq

