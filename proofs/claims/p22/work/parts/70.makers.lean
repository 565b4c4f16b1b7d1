def chv (x : Int32) : Int32 := ((x &&& 255).toUInt32 % 65536).toInt32
def smS (x : Int32) (q : Nat × (Nat → Int64)) : Nat × (Nat → Int64) := if 97 ≤ x.toInt ∧ x.toInt ≤ 122 then (q.1, if q.1 < 19 then vp_updL q.2 q.1 (((q.2 q.1 * 32 + x.toInt64) - 97) + 1) else q.2) else (q.1 + 1, q.2)
/-- Tokens' words as its constructor makes them: which word, the words, behind k signs -/
def sm : Nat → Nat × (Nat → Int64)
  | 0 => (0, fun _ => 0)
  | k + 1 => smS (chv ((sByt.getD 0 []).getD k 0)) (sm k)
def W3 (g : Nat → Int64) : Prop := 32 ≤ (g 11).toInt ∧ 32 ≤ (g 12).toInt ∧ 1024 ≤ (g 13).toInt
theorem sm_le (k : Nat) : (sm k).1 ≤ k := by
  induction k with
  | zero => exact Nat.le_refl 0
  | succ k ih =>
    show (smS _ (sm k)).1 ≤ k + 1
    unfold smS
    split
    · exact Nat.le_succ_of_le ih
    · exact Nat.succ_le_succ ih
set_option maxRecDepth 100000 in
theorem sm_85 : W3 (sm 85).2 := by
  unfold W3
  decide +kernel
theorem sm_n {k : Nat} {r : Int32} (hr : r = chv ((sByt.getD 0 []).getD k 0)) (h : ¬ (97 ≤ r.toInt ∧ r.toInt ≤ 122)) : sm (k + 1) = ((sm k).1 + 1, (sm k).2) := by
  show smS _ (sm k) = _
  rw [← hr]
  unfold smS
  rw [if_neg h]
theorem sm_y {k : Nat} {r : Int32} (hr : r = chv ((sByt.getD 0 []).getD k 0)) (h : 97 ≤ r.toInt ∧ r.toInt ≤ 122) : sm (k + 1) = ((sm k).1, if (sm k).1 < 19 then vp_updL (sm k).2 (sm k).1 ((((sm k).2 (sm k).1 * 32 + r.toInt64) - 97) + 1) else (sm k).2) := by
  show smS _ (sm k) = _
  rw [← hr]
  unfold smS
  rw [if_pos h]

theorem wm_X9_3 : Cond.methodLink RX9 3 objectInit ∈ gT := gU_1 214 rfl rfl
theorem wi_obj : Cond.instanceMethod objectInit ∈ gT := gU_1 34 rfl rfl
theorem wc_obj : Cond.code objectInit ⟨#[0xb1]⟩ 1 none ∈ gT := gU_1 35 rfl rfl
theorem wA_I : Cond.arrayClass .int ∈ gT := gU_1 125 rfl rfl
theorem wm_X7_3 : Cond.methodLink RX7 3 objectInit ∈ gT := gU_2 105 rfl rfl
theorem wf_X7_15 : Cond.fieldLink RX7 15 "LawHoles$Row" "isHonest" "Z" ∈ gT := gU_2 113 rfl rfl
theorem wm_X7_19 : Cond.methodLink RX7 19 yJ9_max_7cf53 ∈ gT := gU_2 106 rfl rfl
theorem wL_X7_19 : Cond.methodLink RX7 19 Lib.Math.max.name ∈ gT := gU_2 106 rfl rfl
theorem wm_X6_3 : Cond.methodLink RX6 3 objectInit ∈ gT := gU_1 230 rfl rfl
theorem wk_X6_15 : Cond.classLink RX6 15 RX9 ∈ gT := gU_1 231 rfl rfl
theorem wI_X9 : Cond.instantiable RX9 1 ∈ gT := gU_1 210 rfl rfl
theorem wN_X9 : Cond.initialized RX9 ∈ gT := gU_1 12 rfl rfl
theorem wm_X6_17 : Cond.methodLink RX6 17 yX9_init ∈ gT := gU_1 232 rfl rfl
theorem cf_X9_init : Cf yX9_init cX9_init 2 none 0 := ⟨gU_1 213 rfl rfl, gU_1 12 rfl rfl, by decide +kernel, by decide +kernel, by decide +kernel⟩
theorem wi_X9_init : Cond.instanceMethod yX9_init ∈ gT := gU_1 212 rfl rfl
theorem wm_X4_3 : Cond.methodLink RX4 3 objectInit ∈ gT := gU_1 190 rfl rfl
theorem wk_X4_17 : Cond.classLink RX4 17 RJx4a65c ∈ gT := gU_1 193 rfl rfl
theorem wI_Jx4a65c : Cond.instantiable RJx4a65c 3 ∈ gT := gU_1 129 rfl rfl
theorem wN_Jx4a65c : Cond.initialized RJx4a65c ∈ gT := gU_1 10 rfl rfl
theorem wm_X4_19 : Cond.methodLink RX4 19 yJx4a65c_init_da8c8 ∈ gT := gU_1 194 rfl rfl
theorem wf_X4_20 : Cond.fieldLink RX4 20 "LawHoles$Law" "nevers" "Ljava/util/ArrayList;" ∈ gT := gU_1 196 rfl rfl
theorem wf_X4_24 : Cond.fieldLink RX4 24 "LawHoles$Law" "cures" "Ljava/util/ArrayList;" ∈ gT := gU_1 199 rfl rfl
theorem wm_X2_3 : Cond.methodLink RX2 3 objectInit ∈ gT := gU_1 224 rfl rfl
theorem wk_X2_9 : Cond.classLink RX2 9 RX6 ∈ gT := gU_1 225 rfl rfl
theorem wI_X6 : Cond.instantiable RX6 5 ∈ gT := gU_1 226 rfl rfl
theorem wN_X6 : Cond.initialized RX6 ∈ gT := gU_1 14 rfl rfl
theorem cf_X6_init : Cf yX6_init cX6_init 1 none 0 := ⟨gU_1 229 rfl rfl, gU_1 14 rfl rfl, by decide +kernel, by decide +kernel, by decide +kernel⟩
theorem wi_X6_init : Cond.instanceMethod yX6_init ∈ gT := gU_1 228 rfl rfl
theorem wk_X2_18 : Cond.classLink RX2 18 RX9 ∈ gT := gU_2 9 rfl rfl
theorem wm_X2_20 : Cond.methodLink RX2 20 yX9_init ∈ gT := gU_2 10 rfl rfl
theorem wm_X8_3 : Cond.methodLink RX8 3 objectInit ∈ gT := gU_2 36 rfl rfl
theorem wk_X8_9 : Cond.classLink RX8 9 RX9 ∈ gT := gU_2 37 rfl rfl
theorem wm_X8_11 : Cond.methodLink RX8 11 yX9_init ∈ gT := gU_2 38 rfl rfl
theorem wA_J : Cond.arrayClass .long ∈ gT := gU_1 126 rfl rfl
theorem wm_X10_3 : Cond.methodLink RX10 3 objectInit ∈ gT := gU_1 47 rfl rfl
theorem wm_X10_31 : Cond.methodLink RX10 31 yJ0_length_8abf5 ∈ gT := gU_1 49 rfl rfl
theorem wm_X10_37 : Cond.methodLink RX10 37 yJ0_charAt_5068e ∈ gT := gU_1 59 rfl rfl
theorem wm_X5_3 : Cond.methodLink RX5 3 objectInit ∈ gT := gU_1 41 rfl rfl
theorem wk_X5_9 : Cond.classLink RX5 9 RX10 ∈ gT := gU_1 42 rfl rfl
theorem wI_X10 : Cond.instantiable RX10 5 ∈ gT := gU_1 43 rfl rfl
theorem wN_X10 : Cond.initialized RX10 ∈ gT := gU_1 3 rfl rfl
theorem wm_X5_11 : Cond.methodLink RX5 11 yX10_init ∈ gT := gU_1 44 rfl rfl
theorem cf_X10_init : Cf yX10_init cX10_init 4 none 0 := ⟨gU_1 46 rfl rfl, gU_1 3 rfl rfl, by decide +kernel, by decide +kernel, by decide +kernel⟩
theorem wi_X10_init : Cond.instanceMethod yX10_init ∈ gT := gU_1 45 rfl rfl
theorem wk_X5_36 : Cond.classLink RX5 36 RJx4a65c ∈ gT := gU_1 128 rfl rfl
theorem wm_X5_38 : Cond.methodLink RX5 38 yJx4a65c_init_da8c8 ∈ gT := gU_1 130 rfl rfl
theorem dX10_init_0 : decode cX10_init 0 = .ok (.aload_n 0, 1) := by decide +kernel
theorem dX10_init_1 : decode cX10_init 1 = .ok (.invokespecial 3, 3) := by decide +kernel
theorem dX10_init_4 : decode cX10_init 4 = .ok (.aload_n 0, 1) := by decide +kernel
theorem dX10_init_5 : decode cX10_init 5 = .ok (.bipush 19, 2) := by decide +kernel
theorem dX10_init_7 : decode cX10_init 7 = .ok (.newarray .long, 2) := by decide +kernel
theorem dX10_init_9 : decode cX10_init 9 = .ok (.putfield 11, 3) := by decide +kernel
theorem dX10_init_12 : decode cX10_init 12 = .ok (.aload_n 0, 1) := by decide +kernel
theorem dX10_init_13 : decode cX10_init 13 = .ok (.sipush 701, 3) := by decide +kernel
theorem dX10_init_16 : decode cX10_init 16 = .ok (.newarray .int, 2) := by decide +kernel
theorem dX10_init_18 : decode cX10_init 18 = .ok (.putfield 15, 3) := by decide +kernel
theorem dX10_init_21 : decode cX10_init 21 = .ok (.aload_n 0, 1) := by decide +kernel
theorem dX10_init_22 : decode cX10_init 22 = .ok (.sipush 701, 3) := by decide +kernel
theorem dX10_init_25 : decode cX10_init 25 = .ok (.newarray .int, 2) := by decide +kernel
theorem dX10_init_27 : decode cX10_init 27 = .ok (.putfield 19, 3) := by decide +kernel
theorem dX10_init_30 : decode cX10_init 30 = .ok (.aload_n 0, 1) := by decide +kernel
theorem dX10_init_31 : decode cX10_init 31 = .ok (.sipush 701, 3) := by decide +kernel
theorem dX10_init_34 : decode cX10_init 34 = .ok (.newarray .long, 2) := by decide +kernel
theorem dX10_init_36 : decode cX10_init 36 = .ok (.putfield 22, 3) := by decide +kernel
theorem dX10_init_39 : decode cX10_init 39 = .ok (.aload_n 0, 1) := by decide +kernel
theorem dX10_init_40 : decode cX10_init 40 = .ok (.iconst 0, 1) := by decide +kernel
theorem dX10_init_41 : decode cX10_init 41 = .ok (.putfield 25, 3) := by decide +kernel
theorem dX10_init_44 : decode cX10_init 44 = .ok (.iconst 0, 1) := by decide +kernel
theorem dX10_init_45 : decode cX10_init 45 = .ok (.istore_n 1, 1) := by decide +kernel
theorem dX10_init_46 : decode cX10_init 46 = .ok (.iconst 0, 1) := by decide +kernel
theorem dX10_init_47 : decode cX10_init 47 = .ok (.istore_n 2, 1) := by decide +kernel
theorem dX10_init_48 : decode cX10_init 48 = .ok (.iload_n 2, 1) := by decide +kernel
theorem dX10_init_49 : decode cX10_init 49 = .ok (.ldc 29, 2) := by decide +kernel
theorem dX10_init_51 : decode cX10_init 51 = .ok (.invokevirtual 31, 3) := by decide +kernel
theorem dX10_init_54 : decode cX10_init 54 = .ok (.if_icmp .ge 54, 3) := by decide +kernel
theorem dX10_init_57 : decode cX10_init 57 = .ok (.ldc 29, 2) := by decide +kernel
theorem dX10_init_59 : decode cX10_init 59 = .ok (.iload_n 2, 1) := by decide +kernel
theorem dX10_init_60 : decode cX10_init 60 = .ok (.invokevirtual 37, 3) := by decide +kernel
theorem dX10_init_63 : decode cX10_init 63 = .ok (.istore_n 3, 1) := by decide +kernel
theorem dX10_init_64 : decode cX10_init 64 = .ok (.iload_n 3, 1) := by decide +kernel
theorem dX10_init_65 : decode cX10_init 65 = .ok (.invokestatic 41, 3) := by decide +kernel
theorem dX10_init_68 : decode cX10_init 68 = .ok (.ifCond .ne 9, 3) := by decide +kernel
theorem dX10_init_71 : decode cX10_init 71 = .ok (.iinc 1 1, 3) := by decide +kernel
theorem dX10_init_74 : decode cX10_init 74 = .ok (.goto 28, 3) := by decide +kernel
theorem dX10_init_77 : decode cX10_init 77 = .ok (.iload_n 1, 1) := by decide +kernel
theorem dX10_init_78 : decode cX10_init 78 = .ok (.aload_n 0, 1) := by decide +kernel
theorem dX10_init_79 : decode cX10_init 79 = .ok (.getfield 11, 3) := by decide +kernel
theorem dX10_init_82 : decode cX10_init 82 = .ok (.arraylength, 1) := by decide +kernel
theorem dX10_init_83 : decode cX10_init 83 = .ok (.if_icmp .ge 19, 3) := by decide +kernel
theorem dX10_init_86 : decode cX10_init 86 = .ok (.aload_n 0, 1) := by decide +kernel
theorem dX10_init_87 : decode cX10_init 87 = .ok (.getfield 11, 3) := by decide +kernel
theorem dX10_init_90 : decode cX10_init 90 = .ok (.iload_n 1, 1) := by decide +kernel
theorem dX10_init_91 : decode cX10_init 91 = .ok (.aload_n 0, 1) := by decide +kernel
theorem dX10_init_92 : decode cX10_init 92 = .ok (.getfield 11, 3) := by decide +kernel
theorem dX10_init_95 : decode cX10_init 95 = .ok (.iload_n 1, 1) := by decide +kernel
theorem dX10_init_96 : decode cX10_init 96 = .ok (.laload, 1) := by decide +kernel
theorem dX10_init_97 : decode cX10_init 97 = .ok (.iload_n 3, 1) := by decide +kernel
theorem dX10_init_98 : decode cX10_init 98 = .ok (.invokestatic 45, 3) := by decide +kernel
theorem dX10_init_101 : decode cX10_init 101 = .ok (.lastore, 1) := by decide +kernel
theorem dX10_init_102 : decode cX10_init 102 = .ok (.iinc 2 1, 3) := by decide +kernel
theorem dX10_init_105 : decode cX10_init 105 = .ok (.goto (-57), 3) := by decide +kernel
theorem dX10_init_108 : decode cX10_init 108 = .ok (.return_, 1) := by decide +kernel
theorem dX2_init_0 : decode cX2_init 0 = .ok (.aload_n 0, 1) := by decide +kernel
theorem dX2_init_1 : decode cX2_init 1 = .ok (.invokespecial 3, 3) := by decide +kernel
theorem dX2_init_4 : decode cX2_init 4 = .ok (.aload_n 0, 1) := by decide +kernel
theorem dX2_init_5 : decode cX2_init 5 = .ok (.new 9, 3) := by decide +kernel
theorem dX2_init_8 : decode cX2_init 8 = .ok (.dup, 1) := by decide +kernel
theorem dX2_init_9 : decode cX2_init 9 = .ok (.invokespecial 11, 3) := by decide +kernel
theorem dX2_init_12 : decode cX2_init 12 = .ok (.putfield 12, 3) := by decide +kernel
theorem dX2_init_15 : decode cX2_init 15 = .ok (.aload_n 0, 1) := by decide +kernel
theorem dX2_init_16 : decode cX2_init 16 = .ok (.new 18, 3) := by decide +kernel
theorem dX2_init_19 : decode cX2_init 19 = .ok (.dup, 1) := by decide +kernel
theorem dX2_init_20 : decode cX2_init 20 = .ok (.invokespecial 20, 3) := by decide +kernel
theorem dX2_init_23 : decode cX2_init 23 = .ok (.putfield 21, 3) := by decide +kernel
theorem dX2_init_26 : decode cX2_init 26 = .ok (.aload_n 0, 1) := by decide +kernel
theorem dX2_init_27 : decode cX2_init 27 = .ok (.new 18, 3) := by decide +kernel
theorem dX2_init_30 : decode cX2_init 30 = .ok (.dup, 1) := by decide +kernel
theorem dX2_init_31 : decode cX2_init 31 = .ok (.invokespecial 20, 3) := by decide +kernel
theorem dX2_init_34 : decode cX2_init 34 = .ok (.putfield 25, 3) := by decide +kernel
theorem dX2_init_37 : decode cX2_init 37 = .ok (.aload_n 0, 1) := by decide +kernel
theorem dX2_init_38 : decode cX2_init 38 = .ok (.iconst (-1), 1) := by decide +kernel
theorem dX2_init_39 : decode cX2_init 39 = .ok (.putfield 28, 3) := by decide +kernel
theorem dX2_init_42 : decode cX2_init 42 = .ok (.aload_n 0, 1) := by decide +kernel
theorem dX2_init_43 : decode cX2_init 43 = .ok (.aload_n 1, 1) := by decide +kernel
theorem dX2_init_44 : decode cX2_init 44 = .ok (.putfield 32, 3) := by decide +kernel
theorem dX2_init_47 : decode cX2_init 47 = .ok (.return_, 1) := by decide +kernel
theorem dX4_init_0 : decode cX4_init 0 = .ok (.aload_n 0, 1) := by decide +kernel
theorem dX4_init_1 : decode cX4_init 1 = .ok (.invokespecial 3, 3) := by decide +kernel
theorem dX4_init_4 : decode cX4_init 4 = .ok (.aload_n 0, 1) := by decide +kernel
theorem dX4_init_5 : decode cX4_init 5 = .ok (.bipush 12, 2) := by decide +kernel
theorem dX4_init_7 : decode cX4_init 7 = .ok (.anewarray 9, 3) := by decide +kernel
theorem dX4_init_10 : decode cX4_init 10 = .ok (.putfield 11, 3) := by decide +kernel
theorem dX4_init_13 : decode cX4_init 13 = .ok (.aload_n 0, 1) := by decide +kernel
theorem dX4_init_14 : decode cX4_init 14 = .ok (.new 17, 3) := by decide +kernel
theorem dX4_init_17 : decode cX4_init 17 = .ok (.dup, 1) := by decide +kernel
theorem dX4_init_18 : decode cX4_init 18 = .ok (.invokespecial 19, 3) := by decide +kernel
theorem dX4_init_21 : decode cX4_init 21 = .ok (.putfield 20, 3) := by decide +kernel
theorem dX4_init_24 : decode cX4_init 24 = .ok (.aload_n 0, 1) := by decide +kernel
theorem dX4_init_25 : decode cX4_init 25 = .ok (.new 17, 3) := by decide +kernel
theorem dX4_init_28 : decode cX4_init 28 = .ok (.dup, 1) := by decide +kernel
theorem dX4_init_29 : decode cX4_init 29 = .ok (.invokespecial 19, 3) := by decide +kernel
theorem dX4_init_32 : decode cX4_init 32 = .ok (.putfield 24, 3) := by decide +kernel
theorem dX4_init_35 : decode cX4_init 35 = .ok (.return_, 1) := by decide +kernel
theorem dX5_init_0 : decode cX5_init 0 = .ok (.aload_n 0, 1) := by decide +kernel
theorem dX5_init_1 : decode cX5_init 1 = .ok (.invokespecial 3, 3) := by decide +kernel
theorem dX5_init_4 : decode cX5_init 4 = .ok (.aload_n 0, 1) := by decide +kernel
theorem dX5_init_5 : decode cX5_init 5 = .ok (.new 9, 3) := by decide +kernel
theorem dX5_init_8 : decode cX5_init 8 = .ok (.dup, 1) := by decide +kernel
theorem dX5_init_9 : decode cX5_init 9 = .ok (.invokespecial 11, 3) := by decide +kernel
theorem dX5_init_12 : decode cX5_init 12 = .ok (.putfield 12, 3) := by decide +kernel
theorem dX5_init_15 : decode cX5_init 15 = .ok (.aload_n 0, 1) := by decide +kernel
theorem dX5_init_16 : decode cX5_init 16 = .ok (.iconst 0, 1) := by decide +kernel
theorem dX5_init_17 : decode cX5_init 17 = .ok (.putfield 18, 3) := by decide +kernel
theorem dX5_init_20 : decode cX5_init 20 = .ok (.aload_n 0, 1) := by decide +kernel
theorem dX5_init_21 : decode cX5_init 21 = .ok (.sipush 700, 3) := by decide +kernel
theorem dX5_init_24 : decode cX5_init 24 = .ok (.newarray .int, 2) := by decide +kernel
theorem dX5_init_26 : decode cX5_init 26 = .ok (.putfield 22, 3) := by decide +kernel
theorem dX5_init_29 : decode cX5_init 29 = .ok (.aload_n 0, 1) := by decide +kernel
theorem dX5_init_30 : decode cX5_init 30 = .ok (.iconst 0, 1) := by decide +kernel
theorem dX5_init_31 : decode cX5_init 31 = .ok (.putfield 26, 3) := by decide +kernel
theorem dX5_init_34 : decode cX5_init 34 = .ok (.aload_n 0, 1) := by decide +kernel
theorem dX5_init_35 : decode cX5_init 35 = .ok (.iconst 0, 1) := by decide +kernel
theorem dX5_init_36 : decode cX5_init 36 = .ok (.putfield 29, 3) := by decide +kernel
theorem dX5_init_39 : decode cX5_init 39 = .ok (.aload_n 0, 1) := by decide +kernel
theorem dX5_init_40 : decode cX5_init 40 = .ok (.iconst 0, 1) := by decide +kernel
theorem dX5_init_41 : decode cX5_init 41 = .ok (.putfield 33, 3) := by decide +kernel
theorem dX5_init_44 : decode cX5_init 44 = .ok (.aload_n 0, 1) := by decide +kernel
theorem dX5_init_45 : decode cX5_init 45 = .ok (.new 36, 3) := by decide +kernel
theorem dX5_init_48 : decode cX5_init 48 = .ok (.dup, 1) := by decide +kernel
theorem dX5_init_49 : decode cX5_init 49 = .ok (.invokespecial 38, 3) := by decide +kernel
theorem dX5_init_52 : decode cX5_init 52 = .ok (.putfield 39, 3) := by decide +kernel
theorem dX5_init_55 : decode cX5_init 55 = .ok (.aload_n 0, 1) := by decide +kernel
theorem dX5_init_56 : decode cX5_init 56 = .ok (.iconst 0, 1) := by decide +kernel
theorem dX5_init_57 : decode cX5_init 57 = .ok (.putfield 43, 3) := by decide +kernel
theorem dX5_init_60 : decode cX5_init 60 = .ok (.aload_n 0, 1) := by decide +kernel
theorem dX5_init_61 : decode cX5_init 61 = .ok (.iconst (-1), 1) := by decide +kernel
theorem dX5_init_62 : decode cX5_init 62 = .ok (.putfield 46, 3) := by decide +kernel
theorem dX5_init_65 : decode cX5_init 65 = .ok (.return_, 1) := by decide +kernel
theorem dX6_init_0 : decode cX6_init 0 = .ok (.aload_n 0, 1) := by decide +kernel
theorem dX6_init_1 : decode cX6_init 1 = .ok (.invokespecial 3, 3) := by decide +kernel
theorem dX6_init_4 : decode cX6_init 4 = .ok (.aload_n 0, 1) := by decide +kernel
theorem dX6_init_5 : decode cX6_init 5 = .ok (.bipush 40, 2) := by decide +kernel
theorem dX6_init_7 : decode cX6_init 7 = .ok (.newarray .int, 2) := by decide +kernel
theorem dX6_init_9 : decode cX6_init 9 = .ok (.putfield 11, 3) := by decide +kernel
theorem dX6_init_12 : decode cX6_init 12 = .ok (.aload_n 0, 1) := by decide +kernel
theorem dX6_init_13 : decode cX6_init 13 = .ok (.new 15, 3) := by decide +kernel
theorem dX6_init_16 : decode cX6_init 16 = .ok (.dup, 1) := by decide +kernel
theorem dX6_init_17 : decode cX6_init 17 = .ok (.invokespecial 17, 3) := by decide +kernel
theorem dX6_init_20 : decode cX6_init 20 = .ok (.putfield 18, 3) := by decide +kernel
theorem dX6_init_23 : decode cX6_init 23 = .ok (.aload_n 0, 1) := by decide +kernel
theorem dX6_init_24 : decode cX6_init 24 = .ok (.iconst 0, 1) := by decide +kernel
theorem dX6_init_25 : decode cX6_init 25 = .ok (.putfield 22, 3) := by decide +kernel
theorem dX6_init_28 : decode cX6_init 28 = .ok (.aload_n 0, 1) := by decide +kernel
theorem dX6_init_29 : decode cX6_init 29 = .ok (.iconst 3, 1) := by decide +kernel
theorem dX6_init_30 : decode cX6_init 30 = .ok (.putfield 26, 3) := by decide +kernel
theorem dX6_init_33 : decode cX6_init 33 = .ok (.aload_n 0, 1) := by decide +kernel
theorem dX6_init_34 : decode cX6_init 34 = .ok (.iconst 3, 1) := by decide +kernel
theorem dX6_init_35 : decode cX6_init 35 = .ok (.putfield 29, 3) := by decide +kernel
theorem dX6_init_38 : decode cX6_init 38 = .ok (.return_, 1) := by decide +kernel
theorem dX7_init_0 : decode cX7_init 0 = .ok (.aload_n 0, 1) := by decide +kernel
theorem dX7_init_1 : decode cX7_init 1 = .ok (.invokespecial 3, 3) := by decide +kernel
theorem dX7_init_4 : decode cX7_init 4 = .ok (.aload_n 0, 1) := by decide +kernel
theorem dX7_init_5 : decode cX7_init 5 = .ok (.iconst 0, 1) := by decide +kernel
theorem dX7_init_6 : decode cX7_init 6 = .ok (.putfield 9, 3) := by decide +kernel
theorem dX7_init_9 : decode cX7_init 9 = .ok (.aload_n 0, 1) := by decide +kernel
theorem dX7_init_10 : decode cX7_init 10 = .ok (.iconst 0, 1) := by decide +kernel
theorem dX7_init_11 : decode cX7_init 11 = .ok (.putfield 15, 3) := by decide +kernel
theorem dX7_init_14 : decode cX7_init 14 = .ok (.aload_n 0, 1) := by decide +kernel
theorem dX7_init_15 : decode cX7_init 15 = .ok (.iload_n 1, 1) := by decide +kernel
theorem dX7_init_16 : decode cX7_init 16 = .ok (.iconst 0, 1) := by decide +kernel
theorem dX7_init_17 : decode cX7_init 17 = .ok (.invokestatic 19, 3) := by decide +kernel
theorem dX7_init_20 : decode cX7_init 20 = .ok (.newarray .int, 2) := by decide +kernel
theorem dX7_init_22 : decode cX7_init 22 = .ok (.putfield 25, 3) := by decide +kernel
theorem dX7_init_25 : decode cX7_init 25 = .ok (.return_, 1) := by decide +kernel
theorem dX8_init_0 : decode cX8_init 0 = .ok (.aload_n 0, 1) := by decide +kernel
theorem dX8_init_1 : decode cX8_init 1 = .ok (.invokespecial 3, 3) := by decide +kernel
theorem dX8_init_4 : decode cX8_init 4 = .ok (.aload_n 0, 1) := by decide +kernel
theorem dX8_init_5 : decode cX8_init 5 = .ok (.new 9, 3) := by decide +kernel
theorem dX8_init_8 : decode cX8_init 8 = .ok (.dup, 1) := by decide +kernel
theorem dX8_init_9 : decode cX8_init 9 = .ok (.invokespecial 11, 3) := by decide +kernel
theorem dX8_init_12 : decode cX8_init 12 = .ok (.putfield 12, 3) := by decide +kernel
theorem dX8_init_15 : decode cX8_init 15 = .ok (.aload_n 0, 1) := by decide +kernel
theorem dX8_init_16 : decode cX8_init 16 = .ok (.sipush 400, 3) := by decide +kernel
theorem dX8_init_19 : decode cX8_init 19 = .ok (.newarray .long, 2) := by decide +kernel
theorem dX8_init_21 : decode cX8_init 21 = .ok (.putfield 18, 3) := by decide +kernel
theorem dX8_init_24 : decode cX8_init 24 = .ok (.aload_n 0, 1) := by decide +kernel
theorem dX8_init_25 : decode cX8_init 25 = .ok (.sipush 400, 3) := by decide +kernel
theorem dX8_init_28 : decode cX8_init 28 = .ok (.newarray .int, 2) := by decide +kernel
theorem dX8_init_30 : decode cX8_init 30 = .ok (.putfield 22, 3) := by decide +kernel
theorem dX8_init_33 : decode cX8_init 33 = .ok (.aload_n 0, 1) := by decide +kernel
theorem dX8_init_34 : decode cX8_init 34 = .ok (.sipush 400, 3) := by decide +kernel
theorem dX8_init_37 : decode cX8_init 37 = .ok (.newarray .int, 2) := by decide +kernel
theorem dX8_init_39 : decode cX8_init 39 = .ok (.putfield 26, 3) := by decide +kernel
theorem dX8_init_42 : decode cX8_init 42 = .ok (.aload_n 0, 1) := by decide +kernel
theorem dX8_init_43 : decode cX8_init 43 = .ok (.sipush 400, 3) := by decide +kernel
theorem dX8_init_46 : decode cX8_init 46 = .ok (.newarray .int, 2) := by decide +kernel
theorem dX8_init_48 : decode cX8_init 48 = .ok (.putfield 29, 3) := by decide +kernel
theorem dX8_init_51 : decode cX8_init 51 = .ok (.aload_n 0, 1) := by decide +kernel
theorem dX8_init_52 : decode cX8_init 52 = .ok (.sipush 1024, 3) := by decide +kernel
theorem dX8_init_55 : decode cX8_init 55 = .ok (.newarray .int, 2) := by decide +kernel
theorem dX8_init_57 : decode cX8_init 57 = .ok (.putfield 32, 3) := by decide +kernel
theorem dX8_init_60 : decode cX8_init 60 = .ok (.aload_n 0, 1) := by decide +kernel
theorem dX8_init_61 : decode cX8_init 61 = .ok (.sipush 400, 3) := by decide +kernel
theorem dX8_init_64 : decode cX8_init 64 = .ok (.newarray .long, 2) := by decide +kernel
theorem dX8_init_66 : decode cX8_init 66 = .ok (.putfield 35, 3) := by decide +kernel
theorem dX8_init_69 : decode cX8_init 69 = .ok (.aload_n 0, 1) := by decide +kernel
theorem dX8_init_70 : decode cX8_init 70 = .ok (.sipush 216, 3) := by decide +kernel
theorem dX8_init_73 : decode cX8_init 73 = .ok (.newarray .int, 2) := by decide +kernel
theorem dX8_init_75 : decode cX8_init 75 = .ok (.putfield 38, 3) := by decide +kernel
theorem dX8_init_78 : decode cX8_init 78 = .ok (.aload_n 0, 1) := by decide +kernel
theorem dX8_init_79 : decode cX8_init 79 = .ok (.iconst 0, 1) := by decide +kernel
theorem dX8_init_80 : decode cX8_init 80 = .ok (.putfield 41, 3) := by decide +kernel
theorem dX8_init_83 : decode cX8_init 83 = .ok (.aload_n 0, 1) := by decide +kernel
theorem dX8_init_84 : decode cX8_init 84 = .ok (.iconst 0, 1) := by decide +kernel
theorem dX8_init_85 : decode cX8_init 85 = .ok (.putfield 45, 3) := by decide +kernel
theorem dX8_init_88 : decode cX8_init 88 = .ok (.aload_n 0, 1) := by decide +kernel
theorem dX8_init_89 : decode cX8_init 89 = .ok (.iconst 0, 1) := by decide +kernel
theorem dX8_init_90 : decode cX8_init 90 = .ok (.putfield 48, 3) := by decide +kernel
theorem dX8_init_93 : decode cX8_init 93 = .ok (.aload_n 0, 1) := by decide +kernel
theorem dX8_init_94 : decode cX8_init 94 = .ok (.iconst 0, 1) := by decide +kernel
theorem dX8_init_95 : decode cX8_init 95 = .ok (.putfield 51, 3) := by decide +kernel
theorem dX8_init_98 : decode cX8_init 98 = .ok (.aload_n 0, 1) := by decide +kernel
theorem dX8_init_99 : decode cX8_init 99 = .ok (.iconst 0, 1) := by decide +kernel
theorem dX8_init_100 : decode cX8_init 100 = .ok (.putfield 54, 3) := by decide +kernel
theorem dX8_init_103 : decode cX8_init 103 = .ok (.aload_n 0, 1) := by decide +kernel
theorem dX8_init_104 : decode cX8_init 104 = .ok (.iconst 0, 1) := by decide +kernel
theorem dX8_init_105 : decode cX8_init 105 = .ok (.putfield 57, 3) := by decide +kernel
theorem dX8_init_108 : decode cX8_init 108 = .ok (.aload_n 0, 1) := by decide +kernel
theorem dX8_init_109 : decode cX8_init 109 = .ok (.iconst 0, 1) := by decide +kernel
theorem dX8_init_110 : decode cX8_init 110 = .ok (.putfield 60, 3) := by decide +kernel
theorem dX8_init_113 : decode cX8_init 113 = .ok (.aload_n 0, 1) := by decide +kernel
theorem dX8_init_114 : decode cX8_init 114 = .ok (.iconst 0, 1) := by decide +kernel
theorem dX8_init_115 : decode cX8_init 115 = .ok (.putfield 64, 3) := by decide +kernel
theorem dX8_init_118 : decode cX8_init 118 = .ok (.aload_n 0, 1) := by decide +kernel
theorem dX8_init_119 : decode cX8_init 119 = .ok (.iconst 0, 1) := by decide +kernel
theorem dX8_init_120 : decode cX8_init 120 = .ok (.putfield 67, 3) := by decide +kernel
theorem dX8_init_123 : decode cX8_init 123 = .ok (.aload_n 0, 1) := by decide +kernel
theorem dX8_init_124 : decode cX8_init 124 = .ok (.aload_n 1, 1) := by decide +kernel
theorem dX8_init_125 : decode cX8_init 125 = .ok (.putfield 70, 3) := by decide +kernel
theorem dX8_init_128 : decode cX8_init 128 = .ok (.aload_n 0, 1) := by decide +kernel
theorem dX8_init_129 : decode cX8_init 129 = .ok (.aload_n 2, 1) := by decide +kernel
theorem dX8_init_130 : decode cX8_init 130 = .ok (.putfield 74, 3) := by decide +kernel
theorem dX8_init_133 : decode cX8_init 133 = .ok (.return_, 1) := by decide +kernel
theorem dX9_init_0 : decode cX9_init 0 = .ok (.aload_n 0, 1) := by decide +kernel
theorem dX9_init_1 : decode cX9_init 1 = .ok (.invokespecial 3, 3) := by decide +kernel
theorem dX9_init_4 : decode cX9_init 4 = .ok (.aload_n 0, 1) := by decide +kernel
theorem dX9_init_5 : decode cX9_init 5 = .ok (.bipush 51, 2) := by decide +kernel
theorem dX9_init_7 : decode cX9_init 7 = .ok (.newarray .int, 2) := by decide +kernel
theorem dX9_init_9 : decode cX9_init 9 = .ok (.putfield 11, 3) := by decide +kernel
theorem dX9_init_12 : decode cX9_init 12 = .ok (.iconst 0, 1) := by decide +kernel
theorem dX9_init_13 : decode cX9_init 13 = .ok (.istore_n 1, 1) := by decide +kernel
theorem dX9_init_14 : decode cX9_init 14 = .ok (.iload_n 1, 1) := by decide +kernel
theorem dX9_init_15 : decode cX9_init 15 = .ok (.iconst 3, 1) := by decide +kernel
theorem dX9_init_16 : decode cX9_init 16 = .ok (.if_icmp .ge 19, 3) := by decide +kernel
theorem dX9_init_19 : decode cX9_init 19 = .ok (.aload_n 0, 1) := by decide +kernel
theorem dX9_init_20 : decode cX9_init 20 = .ok (.getfield 11, 3) := by decide +kernel
theorem dX9_init_23 : decode cX9_init 23 = .ok (.bipush 40, 2) := by decide +kernel
theorem dX9_init_25 : decode cX9_init 25 = .ok (.iload_n 1, 1) := by decide +kernel
theorem dX9_init_26 : decode cX9_init 26 = .ok (.iadd, 1) := by decide +kernel
theorem dX9_init_27 : decode cX9_init 27 = .ok (.iconst 3, 1) := by decide +kernel
theorem dX9_init_28 : decode cX9_init 28 = .ok (.iastore, 1) := by decide +kernel
theorem dX9_init_29 : decode cX9_init 29 = .ok (.iinc 1 1, 3) := by decide +kernel
theorem dX9_init_32 : decode cX9_init 32 = .ok (.goto (-18), 3) := by decide +kernel
theorem dX9_init_35 : decode cX9_init 35 = .ok (.return_, 1) := by decide +kernel
set_option maxHeartbeats 4000000 in
set_option maxRecDepth 100000 in
theorem e_X9_init {l : Launch} {D : va_G} {cy : Nat → ClassId} {T0 tB tE : Nat} (h : Nat)  : Ct l D cy T0 tB tE yX9_init cX9_init 2 none 1 24 1 51 [(h, .inr (10, [.null]))] [.ref h] (QV D (U := Nat → Nat) (fun _ => True) (fun u => [(h, .inr (10, [.ref (u 0)])), ((u 0), .inl (cy 0, 51, .inl (upd (upd (upd (fun _ => 0) 40 3) 41 3) 42 3)))])) := by
  refine Ct.ofZ RX9 "<init>" [(0, .ref h)] rfl rfl rfl rfl (Nat.le_of_ble_eq_true rfl) ?_
  intro p e R s m args below meth c A b
  refine z_aload_n b dX9_init_0 rfl rfl ?_
  refine z_objInit b wm_X9_3 wi_obj wc_obj dX9_init_1 (by decide) (Nat.le_of_ble_eq_true rfl) ?_
  refine z_aload_n b dX9_init_4 rfl rfl ?_
  refine z_bipush (v := 51) b dX9_init_5 (by decide) ?_
  refine z_newI (N' := 51) b wA_I (by decide) (by decide) (by decide) ⟨by decide, by decide⟩ dX9_init_7 (fun q22423 => ?_)
  refine z_putF (q0 := 0) (k9 := 0) (ws' := [(h, .inr (10, [.ref q22423])), (q22423, .inl (cy 0, 51, .inl (fun _ => 0)))]) tyX9 b rfl rfl in_X9 tyX9_ok nmX9 (by decide) wf_X9_11 rfl rfl rfl rfl rfl rfl (Nat.le_of_ble_eq_true rfl) dX9_init_9 rfl ?_
  refine z_iconst (v := 0) b dX9_init_12 (by decide) ?_
  refine z_istore_n (lv' := [(1, .int 0), (0, .ref h)]) b dX9_init_13 rfl (by decide) rfl ?_
  refine z_iload_n b dX9_init_14 rfl rfl ?_
  refine z_iconst (v := 3) b dX9_init_15 (by decide) ?_
  refine z_icmp_ge_f (tgt := 35) b dX9_init_16 (by decide) (by decide) ?_
  refine z_aload_n b dX9_init_19 rfl rfl ?_
  refine z_get (q0 := 0) (k9 := 0) (v := .ref q22423) b rfl rfl in_X9 (by decide) wf_X9_11 rfl dX9_init_20 ?_
  refine z_bipush (v := 40) b dX9_init_23 (by decide) ?_
  refine z_iload_n b dX9_init_25 rfl rfl ?_
  refine z_iadd (v := 40) b dX9_init_26 (by decide) ?_
  refine z_iconst (v := 3) b dX9_init_27 (by decide) ?_
  refine y_iast (q0 := 1) (j := 40) (ws' := [(h, .inr (10, [.ref q22423])), (q22423, .inl (cy 0, 51, .inl (upd (fun _ => 0) 40 3)))]) b rfl (by decide) dX9_init_28 rfl ?_
  refine z_iinc (k9 := 0) (v := 1) (lv' := [(1, .int 1), (0, .ref h)]) b dX9_init_29 rfl (by decide) (by decide) rfl ?_
  refine z_goto (tgt := 14) b dX9_init_32 (by decide) ?_
  refine z_iload_n b dX9_init_14 rfl rfl ?_
  refine z_iconst (v := 3) b dX9_init_15 (by decide) ?_
  refine z_icmp_ge_f (tgt := 35) b dX9_init_16 (by decide) (by decide) ?_
  refine z_aload_n b dX9_init_19 rfl rfl ?_
  refine z_get (q0 := 0) (k9 := 0) (v := .ref q22423) b rfl rfl in_X9 (by decide) wf_X9_11 rfl dX9_init_20 ?_
  refine z_bipush (v := 40) b dX9_init_23 (by decide) ?_
  refine z_iload_n b dX9_init_25 rfl rfl ?_
  refine z_iadd (v := 41) b dX9_init_26 (by decide) ?_
  refine z_iconst (v := 3) b dX9_init_27 (by decide) ?_
  refine y_iast (q0 := 1) (j := 41) (ws' := [(h, .inr (10, [.ref q22423])), (q22423, .inl (cy 0, 51, .inl (upd (upd (fun _ => 0) 40 3) 41 3)))]) b rfl (by decide) dX9_init_28 rfl ?_
  refine z_iinc (k9 := 0) (v := 2) (lv' := [(1, .int 2), (0, .ref h)]) b dX9_init_29 rfl (by decide) (by decide) rfl ?_
  refine z_goto (tgt := 14) b dX9_init_32 (by decide) ?_
  refine z_iload_n b dX9_init_14 rfl rfl ?_
  refine z_iconst (v := 3) b dX9_init_15 (by decide) ?_
  refine z_icmp_ge_f (tgt := 35) b dX9_init_16 (by decide) (by decide) ?_
  refine z_aload_n b dX9_init_19 rfl rfl ?_
  refine z_get (q0 := 0) (k9 := 0) (v := .ref q22423) b rfl rfl in_X9 (by decide) wf_X9_11 rfl dX9_init_20 ?_
  refine z_bipush (v := 40) b dX9_init_23 (by decide) ?_
  refine z_iload_n b dX9_init_25 rfl rfl ?_
  refine z_iadd (v := 42) b dX9_init_26 (by decide) ?_
  refine z_iconst (v := 3) b dX9_init_27 (by decide) ?_
  refine y_iast (q0 := 1) (j := 42) (ws' := [(h, .inr (10, [.ref q22423])), (q22423, .inl (cy 0, 51, .inl (upd (upd (upd (fun _ => 0) 40 3) 41 3) 42 3)))]) b rfl (by decide) dX9_init_28 rfl ?_
  refine z_iinc (k9 := 0) (v := 3) (lv' := [(1, .int 3), (0, .ref h)]) b dX9_init_29 rfl (by decide) (by decide) rfl ?_
  refine z_goto (tgt := 14) b dX9_init_32 (by decide) ?_
  refine z_iload_n b dX9_init_14 rfl rfl ?_
  refine z_iconst (v := 3) b dX9_init_15 (by decide) ?_
  refine z_icmp_ge_t (tgt := 35) b dX9_init_16 (by decide) (by decide) ?_
  exact z_vret (u := (fun k => ([q22423] : List Nat).getD k 0)) b rfl dX9_init_35 trivial rfl (by decide) (by decide)

set_option maxHeartbeats 4000000 in
set_option maxRecDepth 100000 in
theorem e_Jxa1e45_init_da8c8 {l : Launch} {D : va_G} {cy : Nat → ClassId} {T0 tB tE : Nat} (h : Nat)  : Ct l D cy T0 tB tE yJxa1e45_init_da8c8 cJxa1e45_init_da8c8 1 none 1 24 0 0 [(h, .inr (0, [.int 0, .null, .int 0]))] [.ref h] (QV D (U := Nat → Nat) (fun _ => True) (fun u => [(h, .inr (0, [.int 0, .null, .int 0]))])) := by
  refine Ct.ofZ RJxa1e45 "<init>" [(0, .ref h)] rfl rfl rfl rfl (Nat.le_of_ble_eq_true rfl) ?_
  intro p e R s m args below meth c A b
  refine z_aload_n b dJxa1e45_init_da8c8_0 rfl rfl ?_
  refine z_objInit b wm_Jxa1e45_1 wi_obj wc_obj dJxa1e45_init_da8c8_1 (by decide) (Nat.le_of_ble_eq_true rfl) ?_
  exact z_vret (u := (fun k => ([] : List Nat).getD k 0)) b rfl dJxa1e45_init_da8c8_4 trivial rfl (by decide) (by decide)

set_option maxHeartbeats 4000000 in
set_option maxRecDepth 100000 in
theorem e_Jxc12de_init_da8c8 {l : Launch} {D : va_G} {cy : Nat → ClassId} {T0 tB tE : Nat} (h : Nat)  : Ct l D cy T0 tB tE yJxc12de_init_da8c8 cJxc12de_init_da8c8 1 none 2 44 0 0 [(h, .inr (0, [.int 0, .null, .int 0]))] [.ref h] (QV D (U := Nat → Nat) (fun _ => True) (fun u => [(h, .inr (0, [.int 0, .null, .int 0]))])) := by
  refine Ct.ofZ RJxc12de "<init>" [(0, .ref h)] rfl rfl rfl rfl (Nat.le_of_ble_eq_true rfl) ?_
  intro p e R s m args below meth c A b
  refine z_aload_n b dJxc12de_init_da8c8_0 rfl rfl ?_
  refine z_callvF (wc := [(h, .inr (0, [.int 0, .null, .int 0]))]) (wr := []) [0] [] b rfl (by decide) rfl (by decide) (by decide) (z_runI (As := []) (st := []) b (e_Jxa1e45_init_da8c8 h ) cf_Jxa1e45_init_da8c8 wm_Jxc12de_1 wi_Jxa1e45_init_da8c8 rfl dJxc12de_init_da8c8_1 rfl (Nat.le_of_ble_eq_true rfl) ⟨by decide, by decide, by decide, by decide⟩) (fun u22424 hu22424 => ?_)
  show Z p l e R s m args below meth c D A 1 (MQ below (QV D (U := Nat → Nat) (fun _ => True) (fun u => [(h, .inr (0, [.int 0, .null, .int 0]))]) A) args s 0 0 A) _ _ [(h, .inr (0, [.int 0, .null, .int 0]))] [(0, .ref h)] 4 []
  refine z_aload_n b dJxc12de_init_da8c8_4 rfl rfl ?_
  refine z_iconst (v := 0) b dJxc12de_init_da8c8_5 (by decide) ?_
  refine z_put (q0 := 0) (k9 := 0) (ws' := [(h, .inr (0, [.int 0, .null, .int 0]))]) tyJx4a65c b rfl rfl in_Jx4a65c tyJx4a65c_ok nmJx4a65c (by decide) wf_Jxc12de_7 rfl rfl rfl rfl (Nat.le_of_ble_eq_true rfl) dJxc12de_init_da8c8_6 rfl ?_
  exact z_vret (u := (fun k => ([] : List Nat).getD k 0)) b rfl dJxc12de_init_da8c8_9 trivial rfl (by decide) (by decide)

set_option maxHeartbeats 4000000 in
set_option maxRecDepth 100000 in
theorem e_Jx4a65c_init_da8c8 {l : Launch} {D : va_G} {cy : Nat → ClassId} {T0 tB tE : Nat} (h : Nat)  : Ct l D cy T0 tB tE yJx4a65c_init_da8c8 cJx4a65c_init_da8c8 1 none 3 64 0 0 [(h, .inr (0, [.int 0, .null, .int 0]))] [.ref h] (QV D (U := Nat → Nat) (fun _ => True) (fun u => [(h, .inr (0, [.int 0, .ref tE, .int 0]))])) := by
  refine Ct.ofZ RJx4a65c "<init>" [(0, .ref h)] rfl rfl rfl rfl (Nat.le_of_ble_eq_true rfl) ?_
  intro p e R s m args below meth c A b
  refine z_aload_n b dJx4a65c_init_da8c8_0 rfl rfl ?_
  refine z_callvF (wc := [(h, .inr (0, [.int 0, .null, .int 0]))]) (wr := []) [0] [] b rfl (by decide) rfl (by decide) (by decide) (z_runI (As := []) (st := []) b (e_Jxc12de_init_da8c8 h ) cf_Jxc12de_init_da8c8 wm_Jx4a65c_1 wi_Jxc12de_init_da8c8 rfl dJx4a65c_init_da8c8_1 rfl (Nat.le_of_ble_eq_true rfl) ⟨by decide, by decide, by decide, by decide⟩) (fun u22425 hu22425 => ?_)
  show Z p l e R s m args below meth c D A 1 (MQ below (QV D (U := Nat → Nat) (fun _ => True) (fun u => [(h, .inr (0, [.int 0, .ref tE, .int 0]))]) A) args s 0 0 A) _ _ [(h, .inr (0, [.int 0, .null, .int 0]))] [(0, .ref h)] 4 []
  refine z_aload_n b dJx4a65c_init_da8c8_4 rfl rfl ?_
  refine z_getE b wf_Jx4a65c_39 dJx4a65c_init_da8c8_5 ?_
  refine z_put (q0 := 0) (k9 := 1) (ws' := [(h, .inr (0, [.int 0, .ref tE, .int 0]))]) tyJx4a65c b rfl rfl in_Jx4a65c tyJx4a65c_ok nmJx4a65c (by decide) wf_Jx4a65c_9 rfl rfl rfl rfl (Nat.le_of_ble_eq_true rfl) dJx4a65c_init_da8c8_8 rfl ?_
  exact z_vret (u := (fun k => ([] : List Nat).getD k 0)) b rfl dJx4a65c_init_da8c8_11 trivial rfl (by decide) (by decide)

set_option maxHeartbeats 4000000 in
set_option maxRecDepth 100000 in
theorem e_X7_init {l : Launch} {D : va_G} {cy : Nat → ClassId} {T0 tB tE : Nat} (h : Nat)  : Ct l D cy T0 tB tE yX7_init cX7_init 2 none 1 24 1 12 [(h, .inr (8, [.null, .int 0, .int 0]))] [.ref h, .int 12] (QV D (U := Nat → Nat) (fun _ => True) (fun u => [(h, .inr (8, [.ref (u 0), .int 0, .int 0])), ((u 0), .inl (cy 0, 12, .inl (fun _ => 0)))])) := by
  refine Ct.ofZ RX7 "<init>" [(0, .ref h), (1, .int 12)] rfl rfl rfl rfl (Nat.le_of_ble_eq_true rfl) ?_
  intro p e R s m args below meth c A b
  refine z_aload_n b dX7_init_0 rfl rfl ?_
  refine z_objInit b wm_X7_3 wi_obj wc_obj dX7_init_1 (by decide) (Nat.le_of_ble_eq_true rfl) ?_
  refine z_aload_n b dX7_init_4 rfl rfl ?_
  refine z_iconst (v := 0) b dX7_init_5 (by decide) ?_
  refine z_put (q0 := 0) (k9 := 1) (ws' := [(h, .inr (8, [.null, .int 0, .int 0]))]) tyX7 b rfl rfl in_X7 tyX7_ok nmX7 (by decide) wf_X7_9 rfl rfl rfl rfl (Nat.le_of_ble_eq_true rfl) dX7_init_6 rfl ?_
  refine z_aload_n b dX7_init_9 rfl rfl ?_
  refine z_iconst (v := 0) b dX7_init_10 (by decide) ?_
  refine z_put (q0 := 0) (k9 := 2) (ws' := [(h, .inr (8, [.null, .int 0, .int 0]))]) tyX7 b rfl rfl in_X7 tyX7_ok nmX7 (by decide) wf_X7_15 rfl rfl rfl rfl (Nat.le_of_ble_eq_true rfl) dX7_init_11 rfl ?_
  refine z_aload_n b dX7_init_14 rfl rfl ?_
  refine z_iload_n b dX7_init_15 rfl rfl ?_
  refine z_iconst (v := 0) b dX7_init_16 (by decide) ?_
  refine z_mmax (v := 12) b wL_X7_19 wLs_mmax wi_Math wLc_mmax dX7_init_17 (by decide) (Nat.le_of_ble_eq_true rfl) ⟨by decide, by decide⟩ (by decide) ?_
  refine z_newI (N' := 12) b wA_I (by decide) (by decide) (by decide) ⟨by decide, by decide⟩ dX7_init_20 (fun q22426 => ?_)
  refine z_putF (q0 := 0) (k9 := 0) (ws' := [(h, .inr (8, [.ref q22426, .int 0, .int 0])), (q22426, .inl (cy 0, 12, .inl (fun _ => 0)))]) tyX7 b rfl rfl in_X7 tyX7_ok nmX7 (by decide) wf_X7_25 rfl rfl rfl rfl rfl rfl (Nat.le_of_ble_eq_true rfl) dX7_init_22 rfl ?_
  exact z_vret (u := (fun k => ([q22426] : List Nat).getD k 0)) b rfl dX7_init_25 trivial rfl (by decide) (by decide)

set_option maxHeartbeats 4000000 in
set_option maxRecDepth 100000 in
theorem e_X7_init_2 {l : Launch} {D : va_G} {cy : Nat → ClassId} {T0 tB tE : Nat} (h : Nat)  : Ct l D cy T0 tB tE yX7_init cX7_init 2 none 1 24 1 200 [(h, .inr (8, [.null, .int 0, .int 0]))] [.ref h, .int 200] (QV D (U := Nat → Nat) (fun _ => True) (fun u => [(h, .inr (8, [.ref (u 0), .int 0, .int 0])), ((u 0), .inl (cy 0, 200, .inl (fun _ => 0)))])) := by
  refine Ct.ofZ RX7 "<init>" [(0, .ref h), (1, .int 200)] rfl rfl rfl rfl (Nat.le_of_ble_eq_true rfl) ?_
  intro p e R s m args below meth c A b
  refine z_aload_n b dX7_init_0 rfl rfl ?_
  refine z_objInit b wm_X7_3 wi_obj wc_obj dX7_init_1 (by decide) (Nat.le_of_ble_eq_true rfl) ?_
  refine z_aload_n b dX7_init_4 rfl rfl ?_
  refine z_iconst (v := 0) b dX7_init_5 (by decide) ?_
  refine z_put (q0 := 0) (k9 := 1) (ws' := [(h, .inr (8, [.null, .int 0, .int 0]))]) tyX7 b rfl rfl in_X7 tyX7_ok nmX7 (by decide) wf_X7_9 rfl rfl rfl rfl (Nat.le_of_ble_eq_true rfl) dX7_init_6 rfl ?_
  refine z_aload_n b dX7_init_9 rfl rfl ?_
  refine z_iconst (v := 0) b dX7_init_10 (by decide) ?_
  refine z_put (q0 := 0) (k9 := 2) (ws' := [(h, .inr (8, [.null, .int 0, .int 0]))]) tyX7 b rfl rfl in_X7 tyX7_ok nmX7 (by decide) wf_X7_15 rfl rfl rfl rfl (Nat.le_of_ble_eq_true rfl) dX7_init_11 rfl ?_
  refine z_aload_n b dX7_init_14 rfl rfl ?_
  refine z_iload_n b dX7_init_15 rfl rfl ?_
  refine z_iconst (v := 0) b dX7_init_16 (by decide) ?_
  refine z_mmax (v := 200) b wL_X7_19 wLs_mmax wi_Math wLc_mmax dX7_init_17 (by decide) (Nat.le_of_ble_eq_true rfl) ⟨by decide, by decide⟩ (by decide) ?_
  refine z_newI (N' := 200) b wA_I (by decide) (by decide) (by decide) ⟨by decide, by decide⟩ dX7_init_20 (fun q22427 => ?_)
  refine z_putF (q0 := 0) (k9 := 0) (ws' := [(h, .inr (8, [.ref q22427, .int 0, .int 0])), (q22427, .inl (cy 0, 200, .inl (fun _ => 0)))]) tyX7 b rfl rfl in_X7 tyX7_ok nmX7 (by decide) wf_X7_25 rfl rfl rfl rfl rfl rfl (Nat.le_of_ble_eq_true rfl) dX7_init_22 rfl ?_
  exact z_vret (u := (fun k => ([q22427] : List Nat).getD k 0)) b rfl dX7_init_25 trivial rfl (by decide) (by decide)

set_option maxHeartbeats 4000000 in
set_option maxRecDepth 100000 in
theorem e_X6_init {l : Launch} {D : va_G} {cy : Nat → ClassId} {T0 tB tE : Nat} (h : Nat)  : Ct l D cy T0 tB tE yX6_init cX6_init 1 none 2 45 3 92 [(h, .inr (7, [.null, .null, .int 0, .int 0, .int 0]))] [.ref h] (QV D (U := Nat → Nat) (fun _ => True) (fun u => [(h, .inr (7, [.ref (u 0), .ref (u 1), .int 0, .int 3, .int 3])), ((u 0), .inl (cy 0, 40, .inl (fun _ => 0))), ((u 1), .inr (10, [.ref (u 2)])), ((u 2), .inl (cy 0, 51, .inl (upd (upd (upd (fun _ => 0) 40 3) 41 3) 42 3)))])) := by
  refine Ct.ofZ RX6 "<init>" [(0, .ref h)] rfl rfl rfl rfl (Nat.le_of_ble_eq_true rfl) ?_
  intro p e R s m args below meth c A b
  refine z_aload_n b dX6_init_0 rfl rfl ?_
  refine z_objInit b wm_X6_3 wi_obj wc_obj dX6_init_1 (by decide) (Nat.le_of_ble_eq_true rfl) ?_
  refine z_aload_n b dX6_init_4 rfl rfl ?_
  refine z_bipush (v := 40) b dX6_init_5 (by decide) ?_
  refine z_newI (N' := 40) b wA_I (by decide) (by decide) (by decide) ⟨by decide, by decide⟩ dX6_init_7 (fun q22428 => ?_)
  refine z_putF (q0 := 0) (k9 := 0) (ws' := [(h, .inr (7, [.ref q22428, .null, .int 0, .int 0, .int 0])), (q22428, .inl (cy 0, 40, .inl (fun _ => 0)))]) tyX6 b rfl rfl in_X6 tyX6_ok nmX6 (by decide) wf_X6_11 rfl rfl rfl rfl rfl rfl (Nat.le_of_ble_eq_true rfl) dX6_init_9 rfl ?_
  refine z_aload_n b dX6_init_12 rfl rfl ?_
  refine z_new (ci := 10) (fs := [.null]) tyX9 b in_X9 tyX9_ok wk_X6_15 wI_X9 wN_X9 rfl (by decide +kernel) ⟨by decide, by decide⟩ dX6_init_13 (fun q22429 => ?_)
  refine z_dup b dX6_init_16 rfl ?_
  refine z_callvF (wc := [(q22429, .inr (10, [.null]))]) (wr := [(h, .inr (7, [.ref q22428, .null, .int 0, .int 0, .int 0])), (q22428, .inl (cy 0, 40, .inl (fun _ => 0)))]) [2] [0, 1] b rfl (by decide) rfl (by decide) (by decide) (z_runI (As := []) (st := [.ref q22429, .ref h]) b (e_X9_init q22429 ) cf_X9_init wm_X6_17 wi_X9_init rfl dX6_init_17 rfl (Nat.le_of_ble_eq_true rfl) ⟨by decide, by decide, by decide, by decide⟩) (fun u22430 hu22430 => ?_)
  show Z p l e R s m args below meth c D A 1 (MQ below (QV D (U := Nat → Nat) (fun _ => True) (fun u => [(h, .inr (7, [.ref (u 0), .ref (u 1), .int 0, .int 3, .int 3])), ((u 0), .inl (cy 0, 40, .inl (fun _ => 0))), ((u 1), .inr (10, [.ref (u 2)])), ((u 2), .inl (cy 0, 51, .inl (upd (upd (upd (fun _ => 0) 40 3) 41 3) 42 3)))]) A) args s 3 92 A) _ _ [(h, .inr (7, [.ref q22428, .null, .int 0, .int 0, .int 0])), (q22428, .inl (cy 0, 40, .inl (fun _ => 0))), (q22429, .inr (10, [.ref (u22430 0)])), ((u22430 0), .inl (cy 0, 51, .inl (upd (upd (upd (fun _ => 0) 40 3) 41 3) 42 3)))] [(0, .ref h)] 20 [.ref q22429, .ref h]
  refine z_put (q0 := 0) (k9 := 1) (ws' := [(h, .inr (7, [.ref q22428, .ref q22429, .int 0, .int 0, .int 0])), (q22428, .inl (cy 0, 40, .inl (fun _ => 0))), (q22429, .inr (10, [.ref (u22430 0)])), ((u22430 0), .inl (cy 0, 51, .inl (upd (upd (upd (fun _ => 0) 40 3) 41 3) 42 3)))]) tyX6 b rfl rfl in_X6 tyX6_ok nmX6 (by decide) wf_X6_18 rfl rfl rfl rfl (Nat.le_of_ble_eq_true rfl) dX6_init_20 rfl ?_
  refine z_aload_n b dX6_init_23 rfl rfl ?_
  refine z_iconst (v := 0) b dX6_init_24 (by decide) ?_
  refine z_put (q0 := 0) (k9 := 2) (ws' := [(h, .inr (7, [.ref q22428, .ref q22429, .int 0, .int 0, .int 0])), (q22428, .inl (cy 0, 40, .inl (fun _ => 0))), (q22429, .inr (10, [.ref (u22430 0)])), ((u22430 0), .inl (cy 0, 51, .inl (upd (upd (upd (fun _ => 0) 40 3) 41 3) 42 3)))]) tyX6 b rfl rfl in_X6 tyX6_ok nmX6 (by decide) wf_X6_22 rfl rfl rfl rfl (Nat.le_of_ble_eq_true rfl) dX6_init_25 rfl ?_
  refine z_aload_n b dX6_init_28 rfl rfl ?_
  refine z_iconst (v := 3) b dX6_init_29 (by decide) ?_
  refine z_put (q0 := 0) (k9 := 3) (ws' := [(h, .inr (7, [.ref q22428, .ref q22429, .int 0, .int 3, .int 0])), (q22428, .inl (cy 0, 40, .inl (fun _ => 0))), (q22429, .inr (10, [.ref (u22430 0)])), ((u22430 0), .inl (cy 0, 51, .inl (upd (upd (upd (fun _ => 0) 40 3) 41 3) 42 3)))]) tyX6 b rfl rfl in_X6 tyX6_ok nmX6 (by decide) wf_X6_26 rfl rfl rfl rfl (Nat.le_of_ble_eq_true rfl) dX6_init_30 rfl ?_
  refine z_aload_n b dX6_init_33 rfl rfl ?_
  refine z_iconst (v := 3) b dX6_init_34 (by decide) ?_
  refine z_put (q0 := 0) (k9 := 4) (ws' := [(h, .inr (7, [.ref q22428, .ref q22429, .int 0, .int 3, .int 3])), (q22428, .inl (cy 0, 40, .inl (fun _ => 0))), (q22429, .inr (10, [.ref (u22430 0)])), ((u22430 0), .inl (cy 0, 51, .inl (upd (upd (upd (fun _ => 0) 40 3) 41 3) 42 3)))]) tyX6 b rfl rfl in_X6 tyX6_ok nmX6 (by decide) wf_X6_29 rfl rfl rfl rfl (Nat.le_of_ble_eq_true rfl) dX6_init_35 rfl ?_
  exact z_vret (u := (fun k => ([q22428, q22429, (u22430 0)] : List Nat).getD k 0)) b rfl dX6_init_38 trivial rfl (by decide) (by decide)

set_option maxHeartbeats 4000000 in
set_option maxRecDepth 100000 in
theorem e_X4_init {l : Launch} {D : va_G} {cy : Nat → ClassId} {T0 tB tE : Nat} (h : Nat)  : Ct l D cy T0 tB tE yX4_init cX4_init 1 none 4 84 3 18 [(h, .inr (5, [.null, .null, .null]))] [.ref h] (QV D (U := Nat → Nat) (fun _ => True) (fun u => [(h, .inr (5, [.ref (u 0), .ref (u 1), .ref (u 2)])), ((u 0), .inl (cy 3, 12, .inr (.inr (.inr (.inr (fun _ => none)))))), ((u 1), .inr (0, [.int 0, .ref tE, .int 0])), ((u 2), .inr (0, [.int 0, .ref tE, .int 0]))])) := by
  refine Ct.ofZ RX4 "<init>" [(0, .ref h)] rfl rfl rfl rfl (Nat.le_of_ble_eq_true rfl) ?_
  intro p e R s m args below meth c A b
  refine z_aload_n b dX4_init_0 rfl rfl ?_
  refine z_objInit b wm_X4_3 wi_obj wc_obj dX4_init_1 (by decide) (Nat.le_of_ble_eq_true rfl) ?_
  refine z_aload_n b dX4_init_4 rfl rfl ?_
  refine z_bipush (v := 12) b dX4_init_5 (by decide) ?_
  refine z_newq (N' := 12) (t0 := 3) b wk_X4_9 b.E1.2.2.2.2.2.1 rfl (by decide) (by decide) (by decide) ⟨by decide, by decide⟩ dX4_init_7 (fun q22431 => ?_)
  refine z_putF (q0 := 0) (k9 := 0) (ws' := [(h, .inr (5, [.ref q22431, .null, .null])), (q22431, .inl (cy 3, 12, .inr (.inr (.inr (.inr (fun _ => none))))))]) tyX4 b rfl rfl in_X4 tyX4_ok nmX4 (by decide) wf_X4_11 rfl rfl rfl rfl rfl rfl (Nat.le_of_ble_eq_true rfl) dX4_init_10 rfl ?_
  refine z_aload_n b dX4_init_13 rfl rfl ?_
  refine z_new (ci := 0) (fs := [.int 0, .null, .int 0]) tyJx4a65c b in_Jx4a65c tyJx4a65c_ok wk_X4_17 wI_Jx4a65c wN_Jx4a65c rfl (by decide +kernel) ⟨by decide, by decide⟩ dX4_init_14 (fun q22432 => ?_)
  refine z_dup b dX4_init_17 rfl ?_
  refine z_callvF (wc := [(q22432, .inr (0, [.int 0, .null, .int 0]))]) (wr := [(h, .inr (5, [.ref q22431, .null, .null])), (q22431, .inl (cy 3, 12, .inr (.inr (.inr (.inr (fun _ => none))))))]) [2] [0, 1] b rfl (by decide) rfl (by decide) (by decide) (z_runI (As := []) (st := [.ref q22432, .ref h]) b (e_Jx4a65c_init_da8c8 q22432 ) cf_Jx4a65c_init_da8c8 wm_X4_19 wi_Jx4a65c_init_da8c8 rfl dX4_init_18 rfl (Nat.le_of_ble_eq_true rfl) ⟨by decide, by decide, by decide, by decide⟩) (fun u22433 hu22433 => ?_)
  show Z p l e R s m args below meth c D A 1 (MQ below (QV D (U := Nat → Nat) (fun _ => True) (fun u => [(h, .inr (5, [.ref (u 0), .ref (u 1), .ref (u 2)])), ((u 0), .inl (cy 3, 12, .inr (.inr (.inr (.inr (fun _ => none)))))), ((u 1), .inr (0, [.int 0, .ref tE, .int 0])), ((u 2), .inr (0, [.int 0, .ref tE, .int 0]))]) A) args s 3 18 A) _ _ [(h, .inr (5, [.ref q22431, .null, .null])), (q22431, .inl (cy 3, 12, .inr (.inr (.inr (.inr (fun _ => none)))))), (q22432, .inr (0, [.int 0, .ref tE, .int 0]))] [(0, .ref h)] 21 [.ref q22432, .ref h]
  refine z_putF (q0 := 0) (k9 := 1) (ws' := [(h, .inr (5, [.ref q22431, .ref q22432, .null])), (q22431, .inl (cy 3, 12, .inr (.inr (.inr (.inr (fun _ => none)))))), (q22432, .inr (0, [.int 0, .ref tE, .int 0]))]) tyX4 b rfl rfl in_X4 tyX4_ok nmX4 (by decide) wf_X4_20 rfl rfl rfl rfl rfl rfl (Nat.le_of_ble_eq_true rfl) dX4_init_21 rfl ?_
  refine z_aload_n b dX4_init_24 rfl rfl ?_
  refine z_new (ci := 0) (fs := [.int 0, .null, .int 0]) tyJx4a65c b in_Jx4a65c tyJx4a65c_ok wk_X4_17 wI_Jx4a65c wN_Jx4a65c rfl (by decide +kernel) ⟨by decide, by decide⟩ dX4_init_25 (fun q22434 => ?_)
  refine z_dup b dX4_init_28 rfl ?_
  refine z_callvF (wc := [(q22434, .inr (0, [.int 0, .null, .int 0]))]) (wr := [(h, .inr (5, [.ref q22431, .ref q22432, .null])), (q22431, .inl (cy 3, 12, .inr (.inr (.inr (.inr (fun _ => none)))))), (q22432, .inr (0, [.int 0, .ref tE, .int 0]))]) [3] [0, 1, 2] b rfl (by decide) rfl (by decide) (by decide) (z_runI (As := []) (st := [.ref q22434, .ref h]) b (e_Jx4a65c_init_da8c8 q22434 ) cf_Jx4a65c_init_da8c8 wm_X4_19 wi_Jx4a65c_init_da8c8 rfl dX4_init_29 rfl (Nat.le_of_ble_eq_true rfl) ⟨by decide, by decide, by decide, by decide⟩) (fun u22435 hu22435 => ?_)
  show Z p l e R s m args below meth c D A 1 (MQ below (QV D (U := Nat → Nat) (fun _ => True) (fun u => [(h, .inr (5, [.ref (u 0), .ref (u 1), .ref (u 2)])), ((u 0), .inl (cy 3, 12, .inr (.inr (.inr (.inr (fun _ => none)))))), ((u 1), .inr (0, [.int 0, .ref tE, .int 0])), ((u 2), .inr (0, [.int 0, .ref tE, .int 0]))]) A) args s 3 18 A) _ _ [(h, .inr (5, [.ref q22431, .ref q22432, .null])), (q22431, .inl (cy 3, 12, .inr (.inr (.inr (.inr (fun _ => none)))))), (q22432, .inr (0, [.int 0, .ref tE, .int 0])), (q22434, .inr (0, [.int 0, .ref tE, .int 0]))] [(0, .ref h)] 32 [.ref q22434, .ref h]
  refine z_putF (q0 := 0) (k9 := 2) (ws' := [(h, .inr (5, [.ref q22431, .ref q22432, .ref q22434])), (q22431, .inl (cy 3, 12, .inr (.inr (.inr (.inr (fun _ => none)))))), (q22432, .inr (0, [.int 0, .ref tE, .int 0])), (q22434, .inr (0, [.int 0, .ref tE, .int 0]))]) tyX4 b rfl rfl in_X4 tyX4_ok nmX4 (by decide) wf_X4_24 rfl rfl rfl rfl rfl rfl (Nat.le_of_ble_eq_true rfl) dX4_init_32 rfl ?_
  exact z_vret (u := (fun k => ([q22431, q22432, q22434] : List Nat).getD k 0)) b rfl dX4_init_35 trivial rfl (by decide) (by decide)

set_option maxHeartbeats 4000000 in
set_option maxRecDepth 100000 in
theorem e_X2_init {l : Launch} {D : va_G} {cy : Nat → ClassId} {T0 tB tE : Nat} (h : Nat) (g0 : Nat) : Ct l D cy T0 tB tE yX2_init cX2_init 2 none 3 65 8 201 [(h, .inr (3, [.null, .null, .null, .null, .int 0]))] [.ref h, .ref g0] (QV D (U := Nat → Nat) (fun _ => True) (fun u => [(h, .inr (3, [.ref g0, .ref (u 0), .ref (u 4), .ref (u 6), .int (-1)])), ((u 0), .inr (7, [.ref (u 1), .ref (u 2), .int 0, .int 3, .int 3])), ((u 1), .inl (cy 0, 40, .inl (fun _ => 0))), ((u 2), .inr (10, [.ref (u 3)])), ((u 3), .inl (cy 0, 51, .inl (upd (upd (upd (fun _ => 0) 40 3) 41 3) 42 3))), ((u 4), .inr (10, [.ref (u 5)])), ((u 5), .inl (cy 0, 51, .inl (upd (upd (upd (fun _ => 0) 40 3) 41 3) 42 3))), ((u 6), .inr (10, [.ref (u 7)])), ((u 7), .inl (cy 0, 51, .inl (upd (upd (upd (fun _ => 0) 40 3) 41 3) 42 3)))])) := by
  refine Ct.ofZ RX2 "<init>" [(0, .ref h), (1, .ref g0)] rfl rfl rfl rfl (Nat.le_of_ble_eq_true rfl) ?_
  intro p e R s m args below meth c A b
  refine z_aload_n b dX2_init_0 rfl rfl ?_
  refine z_objInit b wm_X2_3 wi_obj wc_obj dX2_init_1 (by decide) (Nat.le_of_ble_eq_true rfl) ?_
  refine z_aload_n b dX2_init_4 rfl rfl ?_
  refine z_new (ci := 7) (fs := [.null, .null, .int 0, .int 0, .int 0]) tyX6 b in_X6 tyX6_ok wk_X2_9 wI_X6 wN_X6 rfl (by decide +kernel) ⟨by decide, by decide⟩ dX2_init_5 (fun q22436 => ?_)
  refine z_dup b dX2_init_8 rfl ?_
  refine z_callvF (wc := [(q22436, .inr (7, [.null, .null, .int 0, .int 0, .int 0]))]) (wr := [(h, .inr (3, [.null, .null, .null, .null, .int 0]))]) [1] [0] b rfl (by decide) rfl (by decide) (by decide) (z_runIN (As := []) (st := [.ref q22436, .ref h]) b (e_X6_init q22436 ) cf_X6_init (nw_X2_11) wi_X6_init rfl dX2_init_9 rfl (Nat.le_of_ble_eq_true rfl) ⟨by decide, by decide, by decide, by decide⟩) (fun u22437 hu22437 => ?_)
  show Z p l e R s m args below meth c D A 2 (MQ below (QV D (U := Nat → Nat) (fun _ => True) (fun u => [(h, .inr (3, [.ref g0, .ref (u 0), .ref (u 4), .ref (u 6), .int (-1)])), ((u 0), .inr (7, [.ref (u 1), .ref (u 2), .int 0, .int 3, .int 3])), ((u 1), .inl (cy 0, 40, .inl (fun _ => 0))), ((u 2), .inr (10, [.ref (u 3)])), ((u 3), .inl (cy 0, 51, .inl (upd (upd (upd (fun _ => 0) 40 3) 41 3) 42 3))), ((u 4), .inr (10, [.ref (u 5)])), ((u 5), .inl (cy 0, 51, .inl (upd (upd (upd (fun _ => 0) 40 3) 41 3) 42 3))), ((u 6), .inr (10, [.ref (u 7)])), ((u 7), .inl (cy 0, 51, .inl (upd (upd (upd (fun _ => 0) 40 3) 41 3) 42 3)))]) A) args s 8 201 A) _ _ [(h, .inr (3, [.null, .null, .null, .null, .int 0])), (q22436, .inr (7, [.ref (u22437 0), .ref (u22437 1), .int 0, .int 3, .int 3])), ((u22437 0), .inl (cy 0, 40, .inl (fun _ => 0))), ((u22437 1), .inr (10, [.ref (u22437 2)])), ((u22437 2), .inl (cy 0, 51, .inl (upd (upd (upd (fun _ => 0) 40 3) 41 3) 42 3)))] [(0, .ref h), (1, .ref g0)] 12 [.ref q22436, .ref h]
  refine z_putF (q0 := 0) (k9 := 1) (ws' := [(h, .inr (3, [.null, .ref q22436, .null, .null, .int 0])), (q22436, .inr (7, [.ref (u22437 0), .ref (u22437 1), .int 0, .int 3, .int 3])), ((u22437 0), .inl (cy 0, 40, .inl (fun _ => 0))), ((u22437 1), .inr (10, [.ref (u22437 2)])), ((u22437 2), .inl (cy 0, 51, .inl (upd (upd (upd (fun _ => 0) 40 3) 41 3) 42 3)))]) tyX2 b rfl rfl in_X2 tyX2_ok nmX2 (by decide) wf_X2_12 rfl rfl rfl rfl rfl rfl (Nat.le_of_ble_eq_true rfl) dX2_init_12 rfl ?_
  refine z_aload_n b dX2_init_15 rfl rfl ?_
  refine z_new (ci := 10) (fs := [.null]) tyX9 b in_X9 tyX9_ok wk_X2_18 wI_X9 wN_X9 rfl (by decide +kernel) ⟨by decide, by decide⟩ dX2_init_16 (fun q22438 => ?_)
  refine z_dup b dX2_init_19 rfl ?_
  refine z_callvF (wc := [(q22438, .inr (10, [.null]))]) (wr := [(h, .inr (3, [.null, .ref q22436, .null, .null, .int 0])), (q22436, .inr (7, [.ref (u22437 0), .ref (u22437 1), .int 0, .int 3, .int 3])), ((u22437 0), .inl (cy 0, 40, .inl (fun _ => 0))), ((u22437 1), .inr (10, [.ref (u22437 2)])), ((u22437 2), .inl (cy 0, 51, .inl (upd (upd (upd (fun _ => 0) 40 3) 41 3) 42 3)))]) [5] [0, 1, 2, 3, 4] b rfl (by decide) rfl (by decide) (by decide) (z_runI (As := []) (st := [.ref q22438, .ref h]) b (e_X9_init q22438 ) cf_X9_init wm_X2_20 wi_X9_init rfl dX2_init_20 rfl (Nat.le_of_ble_eq_true rfl) ⟨by decide, by decide, by decide, by decide⟩) (fun u22439 hu22439 => ?_)
  show Z p l e R s m args below meth c D A 2 (MQ below (QV D (U := Nat → Nat) (fun _ => True) (fun u => [(h, .inr (3, [.ref g0, .ref (u 0), .ref (u 4), .ref (u 6), .int (-1)])), ((u 0), .inr (7, [.ref (u 1), .ref (u 2), .int 0, .int 3, .int 3])), ((u 1), .inl (cy 0, 40, .inl (fun _ => 0))), ((u 2), .inr (10, [.ref (u 3)])), ((u 3), .inl (cy 0, 51, .inl (upd (upd (upd (fun _ => 0) 40 3) 41 3) 42 3))), ((u 4), .inr (10, [.ref (u 5)])), ((u 5), .inl (cy 0, 51, .inl (upd (upd (upd (fun _ => 0) 40 3) 41 3) 42 3))), ((u 6), .inr (10, [.ref (u 7)])), ((u 7), .inl (cy 0, 51, .inl (upd (upd (upd (fun _ => 0) 40 3) 41 3) 42 3)))]) A) args s 8 201 A) _ _ [(h, .inr (3, [.null, .ref q22436, .null, .null, .int 0])), (q22436, .inr (7, [.ref (u22437 0), .ref (u22437 1), .int 0, .int 3, .int 3])), ((u22437 0), .inl (cy 0, 40, .inl (fun _ => 0))), ((u22437 1), .inr (10, [.ref (u22437 2)])), ((u22437 2), .inl (cy 0, 51, .inl (upd (upd (upd (fun _ => 0) 40 3) 41 3) 42 3))), (q22438, .inr (10, [.ref (u22439 0)])), ((u22439 0), .inl (cy 0, 51, .inl (upd (upd (upd (fun _ => 0) 40 3) 41 3) 42 3)))] [(0, .ref h), (1, .ref g0)] 23 [.ref q22438, .ref h]
  refine z_putF (q0 := 0) (k9 := 2) (ws' := [(h, .inr (3, [.null, .ref q22436, .ref q22438, .null, .int 0])), (q22436, .inr (7, [.ref (u22437 0), .ref (u22437 1), .int 0, .int 3, .int 3])), ((u22437 0), .inl (cy 0, 40, .inl (fun _ => 0))), ((u22437 1), .inr (10, [.ref (u22437 2)])), ((u22437 2), .inl (cy 0, 51, .inl (upd (upd (upd (fun _ => 0) 40 3) 41 3) 42 3))), (q22438, .inr (10, [.ref (u22439 0)])), ((u22439 0), .inl (cy 0, 51, .inl (upd (upd (upd (fun _ => 0) 40 3) 41 3) 42 3)))]) tyX2 b rfl rfl in_X2 tyX2_ok nmX2 (by decide) wf_X2_21 rfl rfl rfl rfl rfl rfl (Nat.le_of_ble_eq_true rfl) dX2_init_23 rfl ?_
  refine z_aload_n b dX2_init_26 rfl rfl ?_
  refine z_new (ci := 10) (fs := [.null]) tyX9 b in_X9 tyX9_ok wk_X2_18 wI_X9 wN_X9 rfl (by decide +kernel) ⟨by decide, by decide⟩ dX2_init_27 (fun q22440 => ?_)
  refine z_dup b dX2_init_30 rfl ?_
  refine z_callvF (wc := [(q22440, .inr (10, [.null]))]) (wr := [(h, .inr (3, [.null, .ref q22436, .ref q22438, .null, .int 0])), (q22436, .inr (7, [.ref (u22437 0), .ref (u22437 1), .int 0, .int 3, .int 3])), ((u22437 0), .inl (cy 0, 40, .inl (fun _ => 0))), ((u22437 1), .inr (10, [.ref (u22437 2)])), ((u22437 2), .inl (cy 0, 51, .inl (upd (upd (upd (fun _ => 0) 40 3) 41 3) 42 3))), (q22438, .inr (10, [.ref (u22439 0)])), ((u22439 0), .inl (cy 0, 51, .inl (upd (upd (upd (fun _ => 0) 40 3) 41 3) 42 3)))]) [7] [0, 1, 2, 3, 4, 5, 6] b rfl (by decide) rfl (by decide) (by decide) (z_runI (As := []) (st := [.ref q22440, .ref h]) b (e_X9_init q22440 ) cf_X9_init wm_X2_20 wi_X9_init rfl dX2_init_31 rfl (Nat.le_of_ble_eq_true rfl) ⟨by decide, by decide, by decide, by decide⟩) (fun u22441 hu22441 => ?_)
  show Z p l e R s m args below meth c D A 2 (MQ below (QV D (U := Nat → Nat) (fun _ => True) (fun u => [(h, .inr (3, [.ref g0, .ref (u 0), .ref (u 4), .ref (u 6), .int (-1)])), ((u 0), .inr (7, [.ref (u 1), .ref (u 2), .int 0, .int 3, .int 3])), ((u 1), .inl (cy 0, 40, .inl (fun _ => 0))), ((u 2), .inr (10, [.ref (u 3)])), ((u 3), .inl (cy 0, 51, .inl (upd (upd (upd (fun _ => 0) 40 3) 41 3) 42 3))), ((u 4), .inr (10, [.ref (u 5)])), ((u 5), .inl (cy 0, 51, .inl (upd (upd (upd (fun _ => 0) 40 3) 41 3) 42 3))), ((u 6), .inr (10, [.ref (u 7)])), ((u 7), .inl (cy 0, 51, .inl (upd (upd (upd (fun _ => 0) 40 3) 41 3) 42 3)))]) A) args s 8 201 A) _ _ [(h, .inr (3, [.null, .ref q22436, .ref q22438, .null, .int 0])), (q22436, .inr (7, [.ref (u22437 0), .ref (u22437 1), .int 0, .int 3, .int 3])), ((u22437 0), .inl (cy 0, 40, .inl (fun _ => 0))), ((u22437 1), .inr (10, [.ref (u22437 2)])), ((u22437 2), .inl (cy 0, 51, .inl (upd (upd (upd (fun _ => 0) 40 3) 41 3) 42 3))), (q22438, .inr (10, [.ref (u22439 0)])), ((u22439 0), .inl (cy 0, 51, .inl (upd (upd (upd (fun _ => 0) 40 3) 41 3) 42 3))), (q22440, .inr (10, [.ref (u22441 0)])), ((u22441 0), .inl (cy 0, 51, .inl (upd (upd (upd (fun _ => 0) 40 3) 41 3) 42 3)))] [(0, .ref h), (1, .ref g0)] 34 [.ref q22440, .ref h]
  refine z_putF (q0 := 0) (k9 := 3) (ws' := [(h, .inr (3, [.null, .ref q22436, .ref q22438, .ref q22440, .int 0])), (q22436, .inr (7, [.ref (u22437 0), .ref (u22437 1), .int 0, .int 3, .int 3])), ((u22437 0), .inl (cy 0, 40, .inl (fun _ => 0))), ((u22437 1), .inr (10, [.ref (u22437 2)])), ((u22437 2), .inl (cy 0, 51, .inl (upd (upd (upd (fun _ => 0) 40 3) 41 3) 42 3))), (q22438, .inr (10, [.ref (u22439 0)])), ((u22439 0), .inl (cy 0, 51, .inl (upd (upd (upd (fun _ => 0) 40 3) 41 3) 42 3))), (q22440, .inr (10, [.ref (u22441 0)])), ((u22441 0), .inl (cy 0, 51, .inl (upd (upd (upd (fun _ => 0) 40 3) 41 3) 42 3)))]) tyX2 b rfl rfl in_X2 tyX2_ok nmX2 (by decide) wf_X2_25 rfl rfl rfl rfl rfl rfl (Nat.le_of_ble_eq_true rfl) dX2_init_34 rfl ?_
  refine z_aload_n b dX2_init_37 rfl rfl ?_
  refine z_iconst (v := (-1)) b dX2_init_38 (by decide) ?_
  refine z_put (q0 := 0) (k9 := 4) (ws' := [(h, .inr (3, [.null, .ref q22436, .ref q22438, .ref q22440, .int (-1)])), (q22436, .inr (7, [.ref (u22437 0), .ref (u22437 1), .int 0, .int 3, .int 3])), ((u22437 0), .inl (cy 0, 40, .inl (fun _ => 0))), ((u22437 1), .inr (10, [.ref (u22437 2)])), ((u22437 2), .inl (cy 0, 51, .inl (upd (upd (upd (fun _ => 0) 40 3) 41 3) 42 3))), (q22438, .inr (10, [.ref (u22439 0)])), ((u22439 0), .inl (cy 0, 51, .inl (upd (upd (upd (fun _ => 0) 40 3) 41 3) 42 3))), (q22440, .inr (10, [.ref (u22441 0)])), ((u22441 0), .inl (cy 0, 51, .inl (upd (upd (upd (fun _ => 0) 40 3) 41 3) 42 3)))]) tyX2 b rfl rfl in_X2 tyX2_ok nmX2 (by decide) wf_X2_28 rfl rfl rfl rfl (Nat.le_of_ble_eq_true rfl) dX2_init_39 rfl ?_
  refine z_aload_n b dX2_init_42 rfl rfl ?_
  refine z_aload_n b dX2_init_43 rfl rfl ?_
  refine z_putF (q0 := 0) (k9 := 0) (ws' := [(h, .inr (3, [.ref g0, .ref q22436, .ref q22438, .ref q22440, .int (-1)])), (q22436, .inr (7, [.ref (u22437 0), .ref (u22437 1), .int 0, .int 3, .int 3])), ((u22437 0), .inl (cy 0, 40, .inl (fun _ => 0))), ((u22437 1), .inr (10, [.ref (u22437 2)])), ((u22437 2), .inl (cy 0, 51, .inl (upd (upd (upd (fun _ => 0) 40 3) 41 3) 42 3))), (q22438, .inr (10, [.ref (u22439 0)])), ((u22439 0), .inl (cy 0, 51, .inl (upd (upd (upd (fun _ => 0) 40 3) 41 3) 42 3))), (q22440, .inr (10, [.ref (u22441 0)])), ((u22441 0), .inl (cy 0, 51, .inl (upd (upd (upd (fun _ => 0) 40 3) 41 3) 42 3)))]) tyX2 b rfl rfl in_X2 tyX2_ok nmX2 (by decide) wf_X2_32 rfl rfl rfl rfl rfl rfl (Nat.le_of_ble_eq_true rfl) dX2_init_44 rfl ?_
  exact z_vret (u := (fun k => ([q22436, (u22437 0), (u22437 1), (u22437 2), q22438, (u22439 0), q22440, (u22441 0)] : List Nat).getD k 0)) b rfl dX2_init_47 trivial rfl (by decide) (by decide)

set_option maxHeartbeats 4000000 in
set_option maxRecDepth 100000 in
theorem e_X8_init {l : Launch} {D : va_G} {cy : Nat → ClassId} {T0 tB tE : Nat} (h : Nat) (g0 : Nat) (g1 : Nat) : Ct l D cy T0 tB tE yX8_init cX8_init 3 none 2 45 9 3292 [(h, .inr (9, [.null, .null, .null, .null, .null, .null, .null, .null, .null, .null, .int 0, .int 0, .int 0, .int 0, .int 0, .int 0, .int 0, .int 0, .int 0]))] [.ref h, .ref g0, .ref g1] (QV D (U := Nat → Nat) (fun _ => True) (fun u => [(h, .inr (9, [.ref g0, .ref g1, .ref (u 0), .ref (u 2), .ref (u 3), .ref (u 4), .ref (u 5), .ref (u 6), .ref (u 7), .ref (u 8), .int 0, .int 0, .int 0, .int 0, .int 0, .int 0, .int 0, .int 0, .int 0])), ((u 0), .inr (10, [.ref (u 1)])), ((u 1), .inl (cy 0, 51, .inl (upd (upd (upd (fun _ => 0) 40 3) 41 3) 42 3))), ((u 2), .inl (cy 1, 400, .inr (.inl (fun _ => 0)))), ((u 3), .inl (cy 0, 400, .inl (fun _ => 0))), ((u 4), .inl (cy 0, 400, .inl (fun _ => 0))), ((u 5), .inl (cy 0, 400, .inl (fun _ => 0))), ((u 6), .inl (cy 0, 1024, .inl (fun _ => 0))), ((u 7), .inl (cy 1, 400, .inr (.inl (fun _ => 0)))), ((u 8), .inl (cy 0, 216, .inl (fun _ => 0)))])) := by
  refine Ct.ofZ RX8 "<init>" [(0, .ref h), (1, .ref g0), (2, .ref g1)] rfl rfl rfl rfl (Nat.le_of_ble_eq_true rfl) ?_
  intro p e R s m args below meth c A b
  refine z_aload_n b dX8_init_0 rfl rfl ?_
  refine z_objInit b wm_X8_3 wi_obj wc_obj dX8_init_1 (by decide) (Nat.le_of_ble_eq_true rfl) ?_
  refine z_aload_n b dX8_init_4 rfl rfl ?_
  refine z_new (ci := 10) (fs := [.null]) tyX9 b in_X9 tyX9_ok wk_X8_9 wI_X9 wN_X9 rfl (by decide +kernel) ⟨by decide, by decide⟩ dX8_init_5 (fun q22442 => ?_)
  refine z_dup b dX8_init_8 rfl ?_
  refine z_callvF (wc := [(q22442, .inr (10, [.null]))]) (wr := [(h, .inr (9, [.null, .null, .null, .null, .null, .null, .null, .null, .null, .null, .int 0, .int 0, .int 0, .int 0, .int 0, .int 0, .int 0, .int 0, .int 0]))]) [1] [0] b rfl (by decide) rfl (by decide) (by decide) (z_runI (As := []) (st := [.ref q22442, .ref h]) b (e_X9_init q22442 ) cf_X9_init wm_X8_11 wi_X9_init rfl dX8_init_9 rfl (Nat.le_of_ble_eq_true rfl) ⟨by decide, by decide, by decide, by decide⟩) (fun u22443 hu22443 => ?_)
  show Z p l e R s m args below meth c D A 3 (MQ below (QV D (U := Nat → Nat) (fun _ => True) (fun u => [(h, .inr (9, [.ref g0, .ref g1, .ref (u 0), .ref (u 2), .ref (u 3), .ref (u 4), .ref (u 5), .ref (u 6), .ref (u 7), .ref (u 8), .int 0, .int 0, .int 0, .int 0, .int 0, .int 0, .int 0, .int 0, .int 0])), ((u 0), .inr (10, [.ref (u 1)])), ((u 1), .inl (cy 0, 51, .inl (upd (upd (upd (fun _ => 0) 40 3) 41 3) 42 3))), ((u 2), .inl (cy 1, 400, .inr (.inl (fun _ => 0)))), ((u 3), .inl (cy 0, 400, .inl (fun _ => 0))), ((u 4), .inl (cy 0, 400, .inl (fun _ => 0))), ((u 5), .inl (cy 0, 400, .inl (fun _ => 0))), ((u 6), .inl (cy 0, 1024, .inl (fun _ => 0))), ((u 7), .inl (cy 1, 400, .inr (.inl (fun _ => 0)))), ((u 8), .inl (cy 0, 216, .inl (fun _ => 0)))]) A) args s 9 3292 A) _ _ [(h, .inr (9, [.null, .null, .null, .null, .null, .null, .null, .null, .null, .null, .int 0, .int 0, .int 0, .int 0, .int 0, .int 0, .int 0, .int 0, .int 0])), (q22442, .inr (10, [.ref (u22443 0)])), ((u22443 0), .inl (cy 0, 51, .inl (upd (upd (upd (fun _ => 0) 40 3) 41 3) 42 3)))] [(0, .ref h), (1, .ref g0), (2, .ref g1)] 12 [.ref q22442, .ref h]
  refine z_putF (q0 := 0) (k9 := 2) (ws' := [(h, .inr (9, [.null, .null, .ref q22442, .null, .null, .null, .null, .null, .null, .null, .int 0, .int 0, .int 0, .int 0, .int 0, .int 0, .int 0, .int 0, .int 0])), (q22442, .inr (10, [.ref (u22443 0)])), ((u22443 0), .inl (cy 0, 51, .inl (upd (upd (upd (fun _ => 0) 40 3) 41 3) 42 3)))]) tyX8 b rfl rfl in_X8 tyX8_ok nmX8 (by decide) wf_X8_12 rfl rfl rfl rfl rfl rfl (Nat.le_of_ble_eq_true rfl) dX8_init_12 rfl ?_
  refine z_aload_n b dX8_init_15 rfl rfl ?_
  refine z_sipush (v := 400) b dX8_init_16 (by decide) ?_
  refine z_newJ (N' := 400) b wA_J (by decide) (by decide) (by decide) ⟨by decide, by decide⟩ dX8_init_19 (fun q22444 => ?_)
  refine z_putF (q0 := 0) (k9 := 3) (ws' := [(h, .inr (9, [.null, .null, .ref q22442, .ref q22444, .null, .null, .null, .null, .null, .null, .int 0, .int 0, .int 0, .int 0, .int 0, .int 0, .int 0, .int 0, .int 0])), (q22442, .inr (10, [.ref (u22443 0)])), ((u22443 0), .inl (cy 0, 51, .inl (upd (upd (upd (fun _ => 0) 40 3) 41 3) 42 3))), (q22444, .inl (cy 1, 400, .inr (.inl (fun _ => 0))))]) tyX8 b rfl rfl in_X8 tyX8_ok nmX8 (by decide) wf_X8_18 rfl rfl rfl rfl rfl rfl (Nat.le_of_ble_eq_true rfl) dX8_init_21 rfl ?_
  refine z_aload_n b dX8_init_24 rfl rfl ?_
  refine z_sipush (v := 400) b dX8_init_25 (by decide) ?_
  refine z_newI (N' := 400) b wA_I (by decide) (by decide) (by decide) ⟨by decide, by decide⟩ dX8_init_28 (fun q22445 => ?_)
  refine z_putF (q0 := 0) (k9 := 4) (ws' := [(h, .inr (9, [.null, .null, .ref q22442, .ref q22444, .ref q22445, .null, .null, .null, .null, .null, .int 0, .int 0, .int 0, .int 0, .int 0, .int 0, .int 0, .int 0, .int 0])), (q22442, .inr (10, [.ref (u22443 0)])), ((u22443 0), .inl (cy 0, 51, .inl (upd (upd (upd (fun _ => 0) 40 3) 41 3) 42 3))), (q22444, .inl (cy 1, 400, .inr (.inl (fun _ => 0)))), (q22445, .inl (cy 0, 400, .inl (fun _ => 0)))]) tyX8 b rfl rfl in_X8 tyX8_ok nmX8 (by decide) wf_X8_22 rfl rfl rfl rfl rfl rfl (Nat.le_of_ble_eq_true rfl) dX8_init_30 rfl ?_
  refine z_aload_n b dX8_init_33 rfl rfl ?_
  refine z_sipush (v := 400) b dX8_init_34 (by decide) ?_
  refine z_newI (N' := 400) b wA_I (by decide) (by decide) (by decide) ⟨by decide, by decide⟩ dX8_init_37 (fun q22446 => ?_)
  refine z_putF (q0 := 0) (k9 := 5) (ws' := [(h, .inr (9, [.null, .null, .ref q22442, .ref q22444, .ref q22445, .ref q22446, .null, .null, .null, .null, .int 0, .int 0, .int 0, .int 0, .int 0, .int 0, .int 0, .int 0, .int 0])), (q22442, .inr (10, [.ref (u22443 0)])), ((u22443 0), .inl (cy 0, 51, .inl (upd (upd (upd (fun _ => 0) 40 3) 41 3) 42 3))), (q22444, .inl (cy 1, 400, .inr (.inl (fun _ => 0)))), (q22445, .inl (cy 0, 400, .inl (fun _ => 0))), (q22446, .inl (cy 0, 400, .inl (fun _ => 0)))]) tyX8 b rfl rfl in_X8 tyX8_ok nmX8 (by decide) wf_X8_26 rfl rfl rfl rfl rfl rfl (Nat.le_of_ble_eq_true rfl) dX8_init_39 rfl ?_
  refine z_aload_n b dX8_init_42 rfl rfl ?_
  refine z_sipush (v := 400) b dX8_init_43 (by decide) ?_
  refine z_newI (N' := 400) b wA_I (by decide) (by decide) (by decide) ⟨by decide, by decide⟩ dX8_init_46 (fun q22447 => ?_)
  refine z_putF (q0 := 0) (k9 := 6) (ws' := [(h, .inr (9, [.null, .null, .ref q22442, .ref q22444, .ref q22445, .ref q22446, .ref q22447, .null, .null, .null, .int 0, .int 0, .int 0, .int 0, .int 0, .int 0, .int 0, .int 0, .int 0])), (q22442, .inr (10, [.ref (u22443 0)])), ((u22443 0), .inl (cy 0, 51, .inl (upd (upd (upd (fun _ => 0) 40 3) 41 3) 42 3))), (q22444, .inl (cy 1, 400, .inr (.inl (fun _ => 0)))), (q22445, .inl (cy 0, 400, .inl (fun _ => 0))), (q22446, .inl (cy 0, 400, .inl (fun _ => 0))), (q22447, .inl (cy 0, 400, .inl (fun _ => 0)))]) tyX8 b rfl rfl in_X8 tyX8_ok nmX8 (by decide) wf_X8_29 rfl rfl rfl rfl rfl rfl (Nat.le_of_ble_eq_true rfl) dX8_init_48 rfl ?_
  refine z_aload_n b dX8_init_51 rfl rfl ?_
  refine z_sipush (v := 1024) b dX8_init_52 (by decide) ?_
  refine z_newI (N' := 1024) b wA_I (by decide) (by decide) (by decide) ⟨by decide, by decide⟩ dX8_init_55 (fun q22448 => ?_)
  refine z_putF (q0 := 0) (k9 := 7) (ws' := [(h, .inr (9, [.null, .null, .ref q22442, .ref q22444, .ref q22445, .ref q22446, .ref q22447, .ref q22448, .null, .null, .int 0, .int 0, .int 0, .int 0, .int 0, .int 0, .int 0, .int 0, .int 0])), (q22442, .inr (10, [.ref (u22443 0)])), ((u22443 0), .inl (cy 0, 51, .inl (upd (upd (upd (fun _ => 0) 40 3) 41 3) 42 3))), (q22444, .inl (cy 1, 400, .inr (.inl (fun _ => 0)))), (q22445, .inl (cy 0, 400, .inl (fun _ => 0))), (q22446, .inl (cy 0, 400, .inl (fun _ => 0))), (q22447, .inl (cy 0, 400, .inl (fun _ => 0))), (q22448, .inl (cy 0, 1024, .inl (fun _ => 0)))]) tyX8 b rfl rfl in_X8 tyX8_ok nmX8 (by decide) wf_X8_32 rfl rfl rfl rfl rfl rfl (Nat.le_of_ble_eq_true rfl) dX8_init_57 rfl ?_
  refine z_aload_n b dX8_init_60 rfl rfl ?_
  refine z_sipush (v := 400) b dX8_init_61 (by decide) ?_
  refine z_newJ (N' := 400) b wA_J (by decide) (by decide) (by decide) ⟨by decide, by decide⟩ dX8_init_64 (fun q22449 => ?_)
  refine z_putF (q0 := 0) (k9 := 8) (ws' := [(h, .inr (9, [.null, .null, .ref q22442, .ref q22444, .ref q22445, .ref q22446, .ref q22447, .ref q22448, .ref q22449, .null, .int 0, .int 0, .int 0, .int 0, .int 0, .int 0, .int 0, .int 0, .int 0])), (q22442, .inr (10, [.ref (u22443 0)])), ((u22443 0), .inl (cy 0, 51, .inl (upd (upd (upd (fun _ => 0) 40 3) 41 3) 42 3))), (q22444, .inl (cy 1, 400, .inr (.inl (fun _ => 0)))), (q22445, .inl (cy 0, 400, .inl (fun _ => 0))), (q22446, .inl (cy 0, 400, .inl (fun _ => 0))), (q22447, .inl (cy 0, 400, .inl (fun _ => 0))), (q22448, .inl (cy 0, 1024, .inl (fun _ => 0))), (q22449, .inl (cy 1, 400, .inr (.inl (fun _ => 0))))]) tyX8 b rfl rfl in_X8 tyX8_ok nmX8 (by decide) wf_X8_35 rfl rfl rfl rfl rfl rfl (Nat.le_of_ble_eq_true rfl) dX8_init_66 rfl ?_
  refine z_aload_n b dX8_init_69 rfl rfl ?_
  refine z_sipush (v := 216) b dX8_init_70 (by decide) ?_
  refine z_newI (N' := 216) b wA_I (by decide) (by decide) (by decide) ⟨by decide, by decide⟩ dX8_init_73 (fun q22450 => ?_)
  refine z_putF (q0 := 0) (k9 := 9) (ws' := [(h, .inr (9, [.null, .null, .ref q22442, .ref q22444, .ref q22445, .ref q22446, .ref q22447, .ref q22448, .ref q22449, .ref q22450, .int 0, .int 0, .int 0, .int 0, .int 0, .int 0, .int 0, .int 0, .int 0])), (q22442, .inr (10, [.ref (u22443 0)])), ((u22443 0), .inl (cy 0, 51, .inl (upd (upd (upd (fun _ => 0) 40 3) 41 3) 42 3))), (q22444, .inl (cy 1, 400, .inr (.inl (fun _ => 0)))), (q22445, .inl (cy 0, 400, .inl (fun _ => 0))), (q22446, .inl (cy 0, 400, .inl (fun _ => 0))), (q22447, .inl (cy 0, 400, .inl (fun _ => 0))), (q22448, .inl (cy 0, 1024, .inl (fun _ => 0))), (q22449, .inl (cy 1, 400, .inr (.inl (fun _ => 0)))), (q22450, .inl (cy 0, 216, .inl (fun _ => 0)))]) tyX8 b rfl rfl in_X8 tyX8_ok nmX8 (by decide) wf_X8_38 rfl rfl rfl rfl rfl rfl (Nat.le_of_ble_eq_true rfl) dX8_init_75 rfl ?_
  refine z_aload_n b dX8_init_78 rfl rfl ?_
  refine z_iconst (v := 0) b dX8_init_79 (by decide) ?_
  refine z_put (q0 := 0) (k9 := 10) (ws' := [(h, .inr (9, [.null, .null, .ref q22442, .ref q22444, .ref q22445, .ref q22446, .ref q22447, .ref q22448, .ref q22449, .ref q22450, .int 0, .int 0, .int 0, .int 0, .int 0, .int 0, .int 0, .int 0, .int 0])), (q22442, .inr (10, [.ref (u22443 0)])), ((u22443 0), .inl (cy 0, 51, .inl (upd (upd (upd (fun _ => 0) 40 3) 41 3) 42 3))), (q22444, .inl (cy 1, 400, .inr (.inl (fun _ => 0)))), (q22445, .inl (cy 0, 400, .inl (fun _ => 0))), (q22446, .inl (cy 0, 400, .inl (fun _ => 0))), (q22447, .inl (cy 0, 400, .inl (fun _ => 0))), (q22448, .inl (cy 0, 1024, .inl (fun _ => 0))), (q22449, .inl (cy 1, 400, .inr (.inl (fun _ => 0)))), (q22450, .inl (cy 0, 216, .inl (fun _ => 0)))]) tyX8 b rfl rfl in_X8 tyX8_ok nmX8 (by decide) wf_X8_41 rfl rfl rfl rfl (Nat.le_of_ble_eq_true rfl) dX8_init_80 rfl ?_
  refine z_aload_n b dX8_init_83 rfl rfl ?_
  refine z_iconst (v := 0) b dX8_init_84 (by decide) ?_
  refine z_put (q0 := 0) (k9 := 11) (ws' := [(h, .inr (9, [.null, .null, .ref q22442, .ref q22444, .ref q22445, .ref q22446, .ref q22447, .ref q22448, .ref q22449, .ref q22450, .int 0, .int 0, .int 0, .int 0, .int 0, .int 0, .int 0, .int 0, .int 0])), (q22442, .inr (10, [.ref (u22443 0)])), ((u22443 0), .inl (cy 0, 51, .inl (upd (upd (upd (fun _ => 0) 40 3) 41 3) 42 3))), (q22444, .inl (cy 1, 400, .inr (.inl (fun _ => 0)))), (q22445, .inl (cy 0, 400, .inl (fun _ => 0))), (q22446, .inl (cy 0, 400, .inl (fun _ => 0))), (q22447, .inl (cy 0, 400, .inl (fun _ => 0))), (q22448, .inl (cy 0, 1024, .inl (fun _ => 0))), (q22449, .inl (cy 1, 400, .inr (.inl (fun _ => 0)))), (q22450, .inl (cy 0, 216, .inl (fun _ => 0)))]) tyX8 b rfl rfl in_X8 tyX8_ok nmX8 (by decide) wf_X8_45 rfl rfl rfl rfl (Nat.le_of_ble_eq_true rfl) dX8_init_85 rfl ?_
  refine z_aload_n b dX8_init_88 rfl rfl ?_
  refine z_iconst (v := 0) b dX8_init_89 (by decide) ?_
  refine z_put (q0 := 0) (k9 := 12) (ws' := [(h, .inr (9, [.null, .null, .ref q22442, .ref q22444, .ref q22445, .ref q22446, .ref q22447, .ref q22448, .ref q22449, .ref q22450, .int 0, .int 0, .int 0, .int 0, .int 0, .int 0, .int 0, .int 0, .int 0])), (q22442, .inr (10, [.ref (u22443 0)])), ((u22443 0), .inl (cy 0, 51, .inl (upd (upd (upd (fun _ => 0) 40 3) 41 3) 42 3))), (q22444, .inl (cy 1, 400, .inr (.inl (fun _ => 0)))), (q22445, .inl (cy 0, 400, .inl (fun _ => 0))), (q22446, .inl (cy 0, 400, .inl (fun _ => 0))), (q22447, .inl (cy 0, 400, .inl (fun _ => 0))), (q22448, .inl (cy 0, 1024, .inl (fun _ => 0))), (q22449, .inl (cy 1, 400, .inr (.inl (fun _ => 0)))), (q22450, .inl (cy 0, 216, .inl (fun _ => 0)))]) tyX8 b rfl rfl in_X8 tyX8_ok nmX8 (by decide) wf_X8_48 rfl rfl rfl rfl (Nat.le_of_ble_eq_true rfl) dX8_init_90 rfl ?_
  refine z_aload_n b dX8_init_93 rfl rfl ?_
  refine z_iconst (v := 0) b dX8_init_94 (by decide) ?_
  refine z_put (q0 := 0) (k9 := 13) (ws' := [(h, .inr (9, [.null, .null, .ref q22442, .ref q22444, .ref q22445, .ref q22446, .ref q22447, .ref q22448, .ref q22449, .ref q22450, .int 0, .int 0, .int 0, .int 0, .int 0, .int 0, .int 0, .int 0, .int 0])), (q22442, .inr (10, [.ref (u22443 0)])), ((u22443 0), .inl (cy 0, 51, .inl (upd (upd (upd (fun _ => 0) 40 3) 41 3) 42 3))), (q22444, .inl (cy 1, 400, .inr (.inl (fun _ => 0)))), (q22445, .inl (cy 0, 400, .inl (fun _ => 0))), (q22446, .inl (cy 0, 400, .inl (fun _ => 0))), (q22447, .inl (cy 0, 400, .inl (fun _ => 0))), (q22448, .inl (cy 0, 1024, .inl (fun _ => 0))), (q22449, .inl (cy 1, 400, .inr (.inl (fun _ => 0)))), (q22450, .inl (cy 0, 216, .inl (fun _ => 0)))]) tyX8 b rfl rfl in_X8 tyX8_ok nmX8 (by decide) wf_X8_51 rfl rfl rfl rfl (Nat.le_of_ble_eq_true rfl) dX8_init_95 rfl ?_
  refine z_aload_n b dX8_init_98 rfl rfl ?_
  refine z_iconst (v := 0) b dX8_init_99 (by decide) ?_
  refine z_put (q0 := 0) (k9 := 14) (ws' := [(h, .inr (9, [.null, .null, .ref q22442, .ref q22444, .ref q22445, .ref q22446, .ref q22447, .ref q22448, .ref q22449, .ref q22450, .int 0, .int 0, .int 0, .int 0, .int 0, .int 0, .int 0, .int 0, .int 0])), (q22442, .inr (10, [.ref (u22443 0)])), ((u22443 0), .inl (cy 0, 51, .inl (upd (upd (upd (fun _ => 0) 40 3) 41 3) 42 3))), (q22444, .inl (cy 1, 400, .inr (.inl (fun _ => 0)))), (q22445, .inl (cy 0, 400, .inl (fun _ => 0))), (q22446, .inl (cy 0, 400, .inl (fun _ => 0))), (q22447, .inl (cy 0, 400, .inl (fun _ => 0))), (q22448, .inl (cy 0, 1024, .inl (fun _ => 0))), (q22449, .inl (cy 1, 400, .inr (.inl (fun _ => 0)))), (q22450, .inl (cy 0, 216, .inl (fun _ => 0)))]) tyX8 b rfl rfl in_X8 tyX8_ok nmX8 (by decide) wf_X8_54 rfl rfl rfl rfl (Nat.le_of_ble_eq_true rfl) dX8_init_100 rfl ?_
  refine z_aload_n b dX8_init_103 rfl rfl ?_
  refine z_iconst (v := 0) b dX8_init_104 (by decide) ?_
  refine z_put (q0 := 0) (k9 := 15) (ws' := [(h, .inr (9, [.null, .null, .ref q22442, .ref q22444, .ref q22445, .ref q22446, .ref q22447, .ref q22448, .ref q22449, .ref q22450, .int 0, .int 0, .int 0, .int 0, .int 0, .int 0, .int 0, .int 0, .int 0])), (q22442, .inr (10, [.ref (u22443 0)])), ((u22443 0), .inl (cy 0, 51, .inl (upd (upd (upd (fun _ => 0) 40 3) 41 3) 42 3))), (q22444, .inl (cy 1, 400, .inr (.inl (fun _ => 0)))), (q22445, .inl (cy 0, 400, .inl (fun _ => 0))), (q22446, .inl (cy 0, 400, .inl (fun _ => 0))), (q22447, .inl (cy 0, 400, .inl (fun _ => 0))), (q22448, .inl (cy 0, 1024, .inl (fun _ => 0))), (q22449, .inl (cy 1, 400, .inr (.inl (fun _ => 0)))), (q22450, .inl (cy 0, 216, .inl (fun _ => 0)))]) tyX8 b rfl rfl in_X8 tyX8_ok nmX8 (by decide) wf_X8_57 rfl rfl rfl rfl (Nat.le_of_ble_eq_true rfl) dX8_init_105 rfl ?_
  refine z_aload_n b dX8_init_108 rfl rfl ?_
  refine z_iconst (v := 0) b dX8_init_109 (by decide) ?_
  refine z_put (q0 := 0) (k9 := 16) (ws' := [(h, .inr (9, [.null, .null, .ref q22442, .ref q22444, .ref q22445, .ref q22446, .ref q22447, .ref q22448, .ref q22449, .ref q22450, .int 0, .int 0, .int 0, .int 0, .int 0, .int 0, .int 0, .int 0, .int 0])), (q22442, .inr (10, [.ref (u22443 0)])), ((u22443 0), .inl (cy 0, 51, .inl (upd (upd (upd (fun _ => 0) 40 3) 41 3) 42 3))), (q22444, .inl (cy 1, 400, .inr (.inl (fun _ => 0)))), (q22445, .inl (cy 0, 400, .inl (fun _ => 0))), (q22446, .inl (cy 0, 400, .inl (fun _ => 0))), (q22447, .inl (cy 0, 400, .inl (fun _ => 0))), (q22448, .inl (cy 0, 1024, .inl (fun _ => 0))), (q22449, .inl (cy 1, 400, .inr (.inl (fun _ => 0)))), (q22450, .inl (cy 0, 216, .inl (fun _ => 0)))]) tyX8 b rfl rfl in_X8 tyX8_ok nmX8 (by decide) wf_X8_60 rfl rfl rfl rfl (Nat.le_of_ble_eq_true rfl) dX8_init_110 rfl ?_
  refine z_aload_n b dX8_init_113 rfl rfl ?_
  refine z_iconst (v := 0) b dX8_init_114 (by decide) ?_
  refine z_put (q0 := 0) (k9 := 17) (ws' := [(h, .inr (9, [.null, .null, .ref q22442, .ref q22444, .ref q22445, .ref q22446, .ref q22447, .ref q22448, .ref q22449, .ref q22450, .int 0, .int 0, .int 0, .int 0, .int 0, .int 0, .int 0, .int 0, .int 0])), (q22442, .inr (10, [.ref (u22443 0)])), ((u22443 0), .inl (cy 0, 51, .inl (upd (upd (upd (fun _ => 0) 40 3) 41 3) 42 3))), (q22444, .inl (cy 1, 400, .inr (.inl (fun _ => 0)))), (q22445, .inl (cy 0, 400, .inl (fun _ => 0))), (q22446, .inl (cy 0, 400, .inl (fun _ => 0))), (q22447, .inl (cy 0, 400, .inl (fun _ => 0))), (q22448, .inl (cy 0, 1024, .inl (fun _ => 0))), (q22449, .inl (cy 1, 400, .inr (.inl (fun _ => 0)))), (q22450, .inl (cy 0, 216, .inl (fun _ => 0)))]) tyX8 b rfl rfl in_X8 tyX8_ok nmX8 (by decide) wf_X8_64 rfl rfl rfl rfl (Nat.le_of_ble_eq_true rfl) dX8_init_115 rfl ?_
  refine z_aload_n b dX8_init_118 rfl rfl ?_
  refine z_iconst (v := 0) b dX8_init_119 (by decide) ?_
  refine z_put (q0 := 0) (k9 := 18) (ws' := [(h, .inr (9, [.null, .null, .ref q22442, .ref q22444, .ref q22445, .ref q22446, .ref q22447, .ref q22448, .ref q22449, .ref q22450, .int 0, .int 0, .int 0, .int 0, .int 0, .int 0, .int 0, .int 0, .int 0])), (q22442, .inr (10, [.ref (u22443 0)])), ((u22443 0), .inl (cy 0, 51, .inl (upd (upd (upd (fun _ => 0) 40 3) 41 3) 42 3))), (q22444, .inl (cy 1, 400, .inr (.inl (fun _ => 0)))), (q22445, .inl (cy 0, 400, .inl (fun _ => 0))), (q22446, .inl (cy 0, 400, .inl (fun _ => 0))), (q22447, .inl (cy 0, 400, .inl (fun _ => 0))), (q22448, .inl (cy 0, 1024, .inl (fun _ => 0))), (q22449, .inl (cy 1, 400, .inr (.inl (fun _ => 0)))), (q22450, .inl (cy 0, 216, .inl (fun _ => 0)))]) tyX8 b rfl rfl in_X8 tyX8_ok nmX8 (by decide) wf_X8_67 rfl rfl rfl rfl (Nat.le_of_ble_eq_true rfl) dX8_init_120 rfl ?_
  refine z_aload_n b dX8_init_123 rfl rfl ?_
  refine z_aload_n b dX8_init_124 rfl rfl ?_
  refine z_putF (q0 := 0) (k9 := 0) (ws' := [(h, .inr (9, [.ref g0, .null, .ref q22442, .ref q22444, .ref q22445, .ref q22446, .ref q22447, .ref q22448, .ref q22449, .ref q22450, .int 0, .int 0, .int 0, .int 0, .int 0, .int 0, .int 0, .int 0, .int 0])), (q22442, .inr (10, [.ref (u22443 0)])), ((u22443 0), .inl (cy 0, 51, .inl (upd (upd (upd (fun _ => 0) 40 3) 41 3) 42 3))), (q22444, .inl (cy 1, 400, .inr (.inl (fun _ => 0)))), (q22445, .inl (cy 0, 400, .inl (fun _ => 0))), (q22446, .inl (cy 0, 400, .inl (fun _ => 0))), (q22447, .inl (cy 0, 400, .inl (fun _ => 0))), (q22448, .inl (cy 0, 1024, .inl (fun _ => 0))), (q22449, .inl (cy 1, 400, .inr (.inl (fun _ => 0)))), (q22450, .inl (cy 0, 216, .inl (fun _ => 0)))]) tyX8 b rfl rfl in_X8 tyX8_ok nmX8 (by decide) wf_X8_70 rfl rfl rfl rfl rfl rfl (Nat.le_of_ble_eq_true rfl) dX8_init_125 rfl ?_
  refine z_aload_n b dX8_init_128 rfl rfl ?_
  refine z_aload_n b dX8_init_129 rfl rfl ?_
  refine z_putF (q0 := 0) (k9 := 1) (ws' := [(h, .inr (9, [.ref g0, .ref g1, .ref q22442, .ref q22444, .ref q22445, .ref q22446, .ref q22447, .ref q22448, .ref q22449, .ref q22450, .int 0, .int 0, .int 0, .int 0, .int 0, .int 0, .int 0, .int 0, .int 0])), (q22442, .inr (10, [.ref (u22443 0)])), ((u22443 0), .inl (cy 0, 51, .inl (upd (upd (upd (fun _ => 0) 40 3) 41 3) 42 3))), (q22444, .inl (cy 1, 400, .inr (.inl (fun _ => 0)))), (q22445, .inl (cy 0, 400, .inl (fun _ => 0))), (q22446, .inl (cy 0, 400, .inl (fun _ => 0))), (q22447, .inl (cy 0, 400, .inl (fun _ => 0))), (q22448, .inl (cy 0, 1024, .inl (fun _ => 0))), (q22449, .inl (cy 1, 400, .inr (.inl (fun _ => 0)))), (q22450, .inl (cy 0, 216, .inl (fun _ => 0)))]) tyX8 b rfl rfl in_X8 tyX8_ok nmX8 (by decide) wf_X8_74 rfl rfl rfl rfl rfl rfl (Nat.le_of_ble_eq_true rfl) dX8_init_130 rfl ?_
  exact z_vret (u := (fun k => ([q22442, (u22443 0), q22444, q22445, q22446, q22447, q22448, q22449, q22450] : List Nat).getD k 0)) b rfl dX8_init_133 trivial rfl (by decide) (by decide)

set_option maxHeartbeats 4000000 in
theorem g_coder {l : Launch} {D : va_G} {cy : Nat → ClassId} {T0 tB tE sW tW n : Nat} {f : Nat → Int32} (ws : va_W)  : CtX (sX T0 sW tW n f) l D cy T0 tB tE yJ0_coder_7d493 cJ0_coder_7d493 1 (some .byte) 0 0 0 0 ws [.ref sW] (QI D (U := Unit) (fun r _ => r = 0) (fun _ => ws)) := by
  refine CtX.ofZ RJ0 "coder" [(0, .ref sW)] rfl rfl rfl rfl (Nat.le_of_ble_eq_true rfl) ?_
  intro p e R s m args below meth c A hx b
  refine s_com b hx wf_J0_38 dJ0_coder_7d493_0 ?_
  refine z_if_eq_f (tgt := 13) b dJ0_coder_7d493_3 (by decide) (by decide) ?_
  refine z_aload_n b dJ0_coder_7d493_6 rfl rfl ?_
  refine s_cod b hx wf_J0_15 dJ0_coder_7d493_7 ?_
  refine z_goto (tgt := 14) b dJ0_coder_7d493_10 (by decide) ?_
  exact z_nret (u := ()) b rfl (by decide) dJ0_coder_7d493_14 rfl rfl (by decide) (by decide)

set_option maxHeartbeats 4000000 in
theorem g_length {l : Launch} {D : va_G} {cy : Nat → ClassId} {T0 tB tE sW tW n : Nat} {f : Nat → Int32} (ws : va_W) (v : Int32) (hv : Int32.ofNat n = v) (hv2 : v >>> ((0 : Int32) &&& 31) = v) : CtX (sX T0 sW tW n f) l D cy T0 tB tE yJ0_length_8abf5 cJ0_length_8abf5 1 (some .int) 1 20 0 0 ws [.ref sW] (QI D (U := Unit) (fun r _ => r = v) (fun _ => ws)) := by
  refine CtX.ofZ RJ0 "length" [(0, .ref sW)] rfl rfl rfl rfl (Nat.le_of_ble_eq_true rfl) ?_
  intro p e R s m args below meth c A hx b
  refine z_aload_n b dJ0_length_8abf5_0 rfl rfl ?_
  refine s_val b hx wf_J0_9 dJ0_length_8abf5_1 ?_
  refine s_len b hx hv dJ0_length_8abf5_4 ?_
  refine z_aload_n b dJ0_length_8abf5_5 rfl rfl ?_
  refine z_calli b (s_runV (As := []) (st := [.int v]) b hx (g_coder ws) cf_J0_coder_7d493 rfl wm_J0_335 wi_J0_coder_7d493 ws_J0_coder_7d493 dJ0_length_8abf5_6 rfl (Nat.le_of_ble_eq_true rfl) ⟨by decide, by decide, by decide, by decide⟩) (fun r u h => ?_)
  subst h
  refine z_ishr (v := v) b dJ0_length_8abf5_9 hv2 ?_
  exact z_iret (u := ()) b rfl dJ0_length_8abf5_10 rfl rfl (by decide) (by decide)

set_option maxHeartbeats 4000000 in
theorem g_latin {l : Launch} {D : va_G} {cy : Nat → ClassId} {T0 tB tE sW tW n : Nat} {f : Nat → Int32} (ws : va_W)  : CtX (sX T0 sW tW n f) l D cy T0 tB tE yJ0_isLatin1_aae02 cJ0_isLatin1_aae02 1 (some .boolean) 0 0 0 0 ws [.ref sW] (QI D (U := Unit) (fun r _ => r = 1) (fun _ => ws)) := by
  refine CtX.ofZ RJ0 "isLatin1" [(0, .ref sW)] rfl rfl rfl rfl (Nat.le_of_ble_eq_true rfl) ?_
  intro p e R s m args below meth c A hx b
  refine s_com b hx wf_J0_38 dJ0_isLatin1_aae02_0 ?_
  refine z_if_eq_f (tgt := 17) b dJ0_isLatin1_aae02_3 (by decide) (by decide) ?_
  refine z_aload_n b dJ0_isLatin1_aae02_6 rfl rfl ?_
  refine s_cod b hx wf_J0_15 dJ0_isLatin1_aae02_7 ?_
  refine z_if_ne_f (tgt := 17) b dJ0_isLatin1_aae02_10 (by decide) rfl ?_
  refine z_iconst (v := 1) b dJ0_isLatin1_aae02_13 (by decide) ?_
  refine z_goto (tgt := 18) b dJ0_isLatin1_aae02_14 (by decide) ?_
  exact z_zret (u := ()) b rfl (by decide) dJ0_isLatin1_aae02_18 rfl rfl (by decide) (by decide)

set_option maxHeartbeats 4000000 in
theorem g_chk3n {l : Launch} {D : va_G} {cy : Nat → ClassId} {T0 tB tE sW tW n : Nat} {f : Nat → Int32} (ws : va_W) (i j : Int32) (g : Nat) (h0 : ¬ i < 0) (h1 : i < j) : Ct l D cy T0 tB tE yJ3_checkIndex_8e157 cJ3_checkIndex_8e157 3 (some .int) 0 0 0 0 ws [.int i, .int j, .null] (QI D (U := Unit) (fun _ _ => True) (fun _ => ws)) := by
  refine Ct.ofZ RJ3 "checkIndex" [(0, .int i), (1, .int j), (2, .null)] rfl rfl rfl rfl (Nat.le_of_ble_eq_true rfl) ?_
  intro p e R s m args below meth c A b
  refine z_iload_n b dJ3_checkIndex_8e157_0 rfl rfl ?_
  refine z_if_lt_f (tgt := 9) b dJ3_checkIndex_8e157_1 (by decide) h0 ?_
  refine z_iload_n b dJ3_checkIndex_8e157_4 rfl rfl ?_
  refine z_iload_n b dJ3_checkIndex_8e157_5 rfl rfl ?_
  refine z_icmp_lt_t (tgt := 16) b dJ3_checkIndex_8e157_6 (by decide) h1 ?_
  refine z_iload_n b dJ3_checkIndex_8e157_16 rfl rfl ?_
  exact z_iret (u := ()) b rfl dJ3_checkIndex_8e157_17 trivial rfl (by decide) (by decide)

set_option maxHeartbeats 4000000 in
theorem g_chk3s {l : Launch} {D : va_G} {cy : Nat → ClassId} {T0 tB tE sW tW n : Nat} {f : Nat → Int32} (ws : va_W) (i j : Int32) (g : Nat) (h0 : ¬ i < 0) (h1 : i < j) : Ct l D cy T0 tB tE yJ3_checkIndex_8e157 cJ3_checkIndex_8e157 3 (some .int) 0 0 0 0 ws [.int i, .int j, .ref g] (QI D (U := Unit) (fun _ _ => True) (fun _ => ws)) := by
  refine Ct.ofZ RJ3 "checkIndex" [(0, .int i), (1, .int j), (2, .ref g)] rfl rfl rfl rfl (Nat.le_of_ble_eq_true rfl) ?_
  intro p e R s m args below meth c A b
  refine z_iload_n b dJ3_checkIndex_8e157_0 rfl rfl ?_
  refine z_if_lt_f (tgt := 9) b dJ3_checkIndex_8e157_1 (by decide) h0 ?_
  refine z_iload_n b dJ3_checkIndex_8e157_4 rfl rfl ?_
  refine z_iload_n b dJ3_checkIndex_8e157_5 rfl rfl ?_
  refine z_icmp_lt_t (tgt := 16) b dJ3_checkIndex_8e157_6 (by decide) h1 ?_
  refine z_iload_n b dJ3_checkIndex_8e157_16 rfl rfl ?_
  exact z_iret (u := ()) b rfl dJ3_checkIndex_8e157_17 trivial rfl (by decide) (by decide)

set_option maxHeartbeats 4000000 in
theorem g_chk {l : Launch} {D : va_G} {cy : Nat → ClassId} {T0 tB tE sW tW n : Nat} {f : Nat → Int32} (ws : va_W) (i j : Int32) (h0 : ¬ i < 0) (h1 : i < j) : CtX (sX T0 sW tW n f) l D cy T0 tB tE yJ0_checkIndex_df160 cJ0_checkIndex_df160 2 none 1 22 0 0 ws [.int i, .int j] (QV D (U := Unit) (fun _ => True) (fun _ => ws)) := by
  refine CtX.ofZ RJ0 "checkIndex" [(0, .int i), (1, .int j)] rfl rfl rfl rfl (Nat.le_of_ble_eq_true rfl) ?_
  intro p e R s m args below meth c A hx b
  refine z_iload_n b dJ0_checkIndex_df160_0 rfl rfl ?_
  refine z_iload_n b dJ0_checkIndex_df160_1 rfl rfl ?_
  refine s_fmt b hx wf_J0_1053 dJ0_checkIndex_df160_2 (fun r => ?_)
  cases r with
  | none =>
    refine z_calli b (z_runS (As := [.int i, .int j, .null]) (st := []) b (g_chk3n (sW := 0) (tW := 0) (n := 0) (f := fun _ => 0) ws i j 0 h0 h1) cf_J3_checkIndex_8e157 wm_J0_1059 ws_J3_checkIndex_8e157 dJ0_checkIndex_df160_5 rfl (Nat.le_of_ble_eq_true rfl) ⟨by decide, by decide, by decide, by decide⟩) (fun r u _ => ?_)
    refine z_pop b dJ0_checkIndex_df160_8 rfl ?_
    exact z_vret (u := ()) b rfl dJ0_checkIndex_df160_9 trivial rfl (by decide) (by decide)
  | some g =>
    refine z_calli b (z_runS (As := [.int i, .int j, .ref g]) (st := []) b (g_chk3s (sW := 0) (tW := 0) (n := 0) (f := fun _ => 0) ws i j g h0 h1) cf_J3_checkIndex_8e157 wm_J0_1059 ws_J3_checkIndex_8e157 dJ0_checkIndex_df160_5 rfl (Nat.le_of_ble_eq_true rfl) ⟨by decide, by decide, by decide, by decide⟩) (fun r u _ => ?_)
    refine z_pop b dJ0_checkIndex_df160_8 rfl ?_
    exact z_vret (u := ()) b rfl dJ0_checkIndex_df160_9 trivial rfl (by decide) (by decide)

set_option maxHeartbeats 4000000 in
theorem g_char1 {l : Launch} {D : va_G} {cy : Nat → ClassId} {T0 tB tE sW tW n : Nat} {f : Nat → Int32} (ws : va_W) (i v : Int32) (j : Nat) (hi : zx i j n) (hv : Int32.ofNat n = v) (h1 : i < v) : CtX (sX T0 sW tW n f) l D cy T0 tB tE yJ1_charAt_3b067 cJ1_charAt_3b067 2 (some .char) 2 43 0 0 ws [.ref tW, .int i] (QI D (U := Unit) (fun r _ => r = chv (f j)) (fun _ => ws)) := by
  refine CtX.ofZ RJ1 "charAt" [(0, .ref tW), (1, .int i)] rfl rfl rfl rfl (Nat.le_of_ble_eq_true rfl) ?_
  intro p e R s m args below meth c A hx b
  refine z_iload_n b dJ1_charAt_3b067_0 rfl rfl ?_
  refine z_aload_n b dJ1_charAt_3b067_1 rfl rfl ?_
  refine s_len b hx hv dJ1_charAt_3b067_2 ?_
  refine z_callv b (s_runS (As := [.int i, .int v]) (st := []) b hx (g_chk ws i v hi.2.1 h1) cf_J0_checkIndex_df160 wm_J1_9 ws_J0_checkIndex_df160 dJ1_charAt_3b067_3 rfl (Nat.le_of_ble_eq_true rfl) ⟨by decide, by decide, by decide, by decide⟩) (fun u _ => ?_)
  refine z_aload_n b dJ1_charAt_3b067_6 rfl rfl ?_
  refine z_iload_n b dJ1_charAt_3b067_7 rfl rfl ?_
  refine s_byt b hx hi dJ1_charAt_3b067_8 ?_
  refine z_sipush (v := 255) b dJ1_charAt_3b067_9 (by decide) ?_
  refine z_iand b dJ1_charAt_3b067_12 rfl ?_
  refine z_i2c b dJ1_charAt_3b067_13 rfl ?_
  exact z_nret (u := ()) b rfl (pk_nc _) dJ1_charAt_3b067_14 rfl rfl (by decide) (by decide)

set_option maxHeartbeats 4000000 in
theorem g_char {l : Launch} {D : va_G} {cy : Nat → ClassId} {T0 tB tE sW tW n : Nat} {f : Nat → Int32} (ws : va_W) (i v : Int32) (j : Nat) (hi : zx i j n) (hv : Int32.ofNat n = v) (h1 : i < v) : CtX (sX T0 sW tW n f) l D cy T0 tB tE yJ0_charAt_5068e cJ0_charAt_5068e 2 (some .char) 3 64 0 0 ws [.ref sW, .int i] (QI D (U := Unit) (fun r _ => r = chv (f j)) (fun _ => ws)) := by
  refine CtX.ofZ RJ0 "charAt" [(0, .ref sW), (1, .int i)] rfl rfl rfl rfl (Nat.le_of_ble_eq_true rfl) ?_
  intro p e R s m args below meth c A hx b
  refine z_aload_n b dJ0_charAt_5068e_0 rfl rfl ?_
  refine z_calli b (s_runV (As := []) (st := []) b hx (g_latin ws) cf_J0_isLatin1_aae02 rfl wm_J0_492 wi_J0_isLatin1_aae02 ws_J0_isLatin1_aae02 dJ0_charAt_5068e_1 rfl (Nat.le_of_ble_eq_true rfl) ⟨by decide, by decide, by decide, by decide⟩) (fun r u h => ?_)
  subst h
  refine z_if_eq_f (tgt := 16) b dJ0_charAt_5068e_4 (by decide) (by decide) ?_
  refine z_aload_n b dJ0_charAt_5068e_7 rfl rfl ?_
  refine s_val b hx wf_J0_9 dJ0_charAt_5068e_8 ?_
  refine z_iload_n b dJ0_charAt_5068e_11 rfl rfl ?_
  refine z_calli b (s_runS (As := [.ref tW, .int i]) (st := []) b hx (g_char1 ws i v j hi hv h1) cf_J1_charAt_3b067 wm_J0_495 ws_J1_charAt_3b067 dJ0_charAt_5068e_12 rfl (Nat.le_of_ble_eq_true rfl) ⟨by decide, by decide, by decide, by decide⟩) (fun r u h => ?_)
  exact z_nret (u := ()) b rfl (by rw [h]; exact pk_nc _) dJ0_charAt_5068e_15 h rfl (by decide) (by decide)

set_option maxHeartbeats 4000000 in
theorem g_isLetter {l : Launch} {D : va_G} {cy : Nat → ClassId} {T0 tB tE sW tW n : Nat} {f : Nat → Int32} (ws : va_W) (i : Int32) : Ct l D cy T0 tB tE yX10_isLetter cX10_isLetter 1 (some .boolean) 0 0 0 0 ws [.int i] (QI D (U := Unit) (fun r _ => (r = 0 ∧ ¬ (97 ≤ i.toInt ∧ i.toInt ≤ 122)) ∨ (r = 1 ∧ (97 ≤ i.toInt ∧ i.toInt ≤ 122))) (fun _ => ws)) := by
  refine Ct.ofZ RX10 "isLetter" [(0, .int i)] rfl rfl rfl rfl (Nat.le_of_ble_eq_true rfl) ?_
  intro p e R s m args below meth c A b
  refine z_iload_n b dX10_isLetter_0 rfl rfl ?_
  refine z_bipush (v := 97) b dX10_isLetter_1 (by decide) ?_
  refine z_icmp_lt (tgt := 16) b dX10_isLetter_3 (by decide) (fun q => ?_) (fun q => ?_)
  · have q1 : i.toInt < 97 := Int32.lt_iff_toInt_lt.mp q
    refine z_iconst (v := 0) b dX10_isLetter_16 (by decide) ?_
    exact z_zret (u := ()) b rfl (by decide) dX10_isLetter_17 (Or.inl ⟨rfl, by omega⟩) rfl (by decide) (by decide)
  · have q1 : ¬ i.toInt < 97 := fun g => q (Int32.lt_iff_toInt_lt.mpr g)
    refine z_iload_n b dX10_isLetter_6 rfl rfl ?_
    refine z_bipush (v := 122) b dX10_isLetter_7 (by decide) ?_
    refine z_icmp_gt (tgt := 16) b dX10_isLetter_9 (by decide) (fun q => ?_) (fun q => ?_)
    · have q2 : 122 < i.toInt := Int32.lt_iff_toInt_lt.mp q
      refine z_iconst (v := 0) b dX10_isLetter_16 (by decide) ?_
      exact z_zret (u := ()) b rfl (by decide) dX10_isLetter_17 (Or.inl ⟨rfl, by omega⟩) rfl (by decide) (by decide)
    · have q2 : ¬ 122 < i.toInt := fun g => q (Int32.lt_iff_toInt_lt.mpr g)
      refine z_iconst (v := 1) b dX10_isLetter_12 (by decide) ?_
      refine z_goto (tgt := 17) b dX10_isLetter_13 (by decide) ?_
      exact z_zret (u := ()) b rfl (by decide) dX10_isLetter_17 (Or.inr ⟨rfl, by omega⟩) rfl (by decide) (by decide)

set_option maxHeartbeats 4000000 in
theorem g_withLetter {l : Launch} {D : va_G} {cy : Nat → ClassId} {T0 tB tE sW tW n : Nat} {f : Nat → Int32} (ws : va_W) (i : Int64) (j : Int32) : Ct l D cy T0 tB tE yX10_withLetter cX10_withLetter 3 (some .long) 0 0 0 0 ws [.long i, .int j] (QL D (U := Unit) (fun r _ => r = ((i * 32 + j.toInt64) - 97) + 1) (fun _ => ws)) := by
  refine Ct.ofZ RX10 "withLetter" [(0, .long i), (2, .int j)] rfl rfl rfl rfl (Nat.le_of_ble_eq_true rfl) ?_
  intro p e R s m args below meth c A b
  refine z_lload_n b dX10_withLetter_0 rfl rfl ?_
  refine z_ldc2 b wl_X10_79 dX10_withLetter_1 ?_
  refine z_lmul b dX10_withLetter_4 rfl ?_
  refine z_iload_n b dX10_withLetter_5 rfl rfl ?_
  refine z_i2l b dX10_withLetter_6 rfl ?_
  refine z_ladd b dX10_withLetter_7 rfl ?_
  refine z_ldc2 b wl_X10_81 dX10_withLetter_8 ?_
  refine z_lsub b dX10_withLetter_11 rfl ?_
  refine z_lconst (v := 1) b dX10_withLetter_12 (by decide) ?_
  refine z_ladd b dX10_withLetter_13 rfl ?_
  exact z_lret (u := ()) b rfl dX10_withLetter_14 rfl rfl (by decide) (by decide)

set_option maxHeartbeats 4000000 in
set_option maxRecDepth 100000 in
theorem e_X10_init {l : Launch} {D : va_G} {cy : Nat → ClassId} {T0 tB tE : Nat} (h : Nat)  : Ct l D cy T0 tB tE yX10_init cX10_init 4 none 4 85 4 2122 [(h, .inr (11, [.null, .null, .null, .null, .int 0]))] [.ref h] (QV D (U := (Nat → Nat) × (Nat → Int64)) (fun u => u.2 = (sm 85).2) (fun u => [(h, .inr (11, [.ref (u.1 0), .ref (u.1 1), .ref (u.1 2), .ref (u.1 3), .int 0])), ((u.1 0), .inl (cy 1, 19, .inr (.inl u.2))), ((u.1 1), .inl (cy 0, 701, .inl (fun _ => 0))), ((u.1 2), .inl (cy 0, 701, .inl (fun _ => 0))), ((u.1 3), .inl (cy 1, 701, .inr (.inl (fun _ => 0))))])) := by
  refine Ct.ofZ RX10 "<init>" [(0, .ref h)] rfl rfl rfl rfl (Nat.le_of_ble_eq_true rfl) ?_
  intro p e R s m args below meth c A b
  refine z_aload_n b dX10_init_0 rfl rfl ?_
  refine z_objInit b wm_X10_3 wi_obj wc_obj dX10_init_1 (by decide) (Nat.le_of_ble_eq_true rfl) ?_
  refine z_aload_n b dX10_init_4 rfl rfl ?_
  refine z_bipush (v := 19) b dX10_init_5 (by decide) ?_
  refine z_newJ (N' := 19) b wA_J (by decide) (by decide) (by decide) ⟨by decide, by decide⟩ dX10_init_7 (fun q22451 => ?_)
  refine z_putF (q0 := 0) (k9 := 0) (ws' := [(h, .inr (11, [.ref q22451, .null, .null, .null, .int 0])), (q22451, .inl (cy 1, 19, .inr (.inl (fun _ => 0))))]) tyX10 b rfl rfl in_X10 tyX10_ok nmX10 (by decide) wf_X10_11 rfl rfl rfl rfl rfl rfl (Nat.le_of_ble_eq_true rfl) dX10_init_9 rfl ?_
  refine z_aload_n b dX10_init_12 rfl rfl ?_
  refine z_sipush (v := 701) b dX10_init_13 (by decide) ?_
  refine z_newI (N' := 701) b wA_I (by decide) (by decide) (by decide) ⟨by decide, by decide⟩ dX10_init_16 (fun q22452 => ?_)
  refine z_putF (q0 := 0) (k9 := 1) (ws' := [(h, .inr (11, [.ref q22451, .ref q22452, .null, .null, .int 0])), (q22451, .inl (cy 1, 19, .inr (.inl (fun _ => 0)))), (q22452, .inl (cy 0, 701, .inl (fun _ => 0)))]) tyX10 b rfl rfl in_X10 tyX10_ok nmX10 (by decide) wf_X10_15 rfl rfl rfl rfl rfl rfl (Nat.le_of_ble_eq_true rfl) dX10_init_18 rfl ?_
  refine z_aload_n b dX10_init_21 rfl rfl ?_
  refine z_sipush (v := 701) b dX10_init_22 (by decide) ?_
  refine z_newI (N' := 701) b wA_I (by decide) (by decide) (by decide) ⟨by decide, by decide⟩ dX10_init_25 (fun q22453 => ?_)
  refine z_putF (q0 := 0) (k9 := 2) (ws' := [(h, .inr (11, [.ref q22451, .ref q22452, .ref q22453, .null, .int 0])), (q22451, .inl (cy 1, 19, .inr (.inl (fun _ => 0)))), (q22452, .inl (cy 0, 701, .inl (fun _ => 0))), (q22453, .inl (cy 0, 701, .inl (fun _ => 0)))]) tyX10 b rfl rfl in_X10 tyX10_ok nmX10 (by decide) wf_X10_19 rfl rfl rfl rfl rfl rfl (Nat.le_of_ble_eq_true rfl) dX10_init_27 rfl ?_
  refine z_aload_n b dX10_init_30 rfl rfl ?_
  refine z_sipush (v := 701) b dX10_init_31 (by decide) ?_
  refine z_newJ (N' := 701) b wA_J (by decide) (by decide) (by decide) ⟨by decide, by decide⟩ dX10_init_34 (fun q22454 => ?_)
  refine z_putF (q0 := 0) (k9 := 3) (ws' := [(h, .inr (11, [.ref q22451, .ref q22452, .ref q22453, .ref q22454, .int 0])), (q22451, .inl (cy 1, 19, .inr (.inl (fun _ => 0)))), (q22452, .inl (cy 0, 701, .inl (fun _ => 0))), (q22453, .inl (cy 0, 701, .inl (fun _ => 0))), (q22454, .inl (cy 1, 701, .inr (.inl (fun _ => 0))))]) tyX10 b rfl rfl in_X10 tyX10_ok nmX10 (by decide) wf_X10_22 rfl rfl rfl rfl rfl rfl (Nat.le_of_ble_eq_true rfl) dX10_init_36 rfl ?_
  refine z_aload_n b dX10_init_39 rfl rfl ?_
  refine z_iconst (v := 0) b dX10_init_40 (by decide) ?_
  refine z_put (q0 := 0) (k9 := 4) (ws' := [(h, .inr (11, [.ref q22451, .ref q22452, .ref q22453, .ref q22454, .int 0])), (q22451, .inl (cy 1, 19, .inr (.inl (fun _ => 0)))), (q22452, .inl (cy 0, 701, .inl (fun _ => 0))), (q22453, .inl (cy 0, 701, .inl (fun _ => 0))), (q22454, .inl (cy 1, 701, .inr (.inl (fun _ => 0))))]) tyX10 b rfl rfl in_X10 tyX10_ok nmX10 (by decide) wf_X10_25 rfl rfl rfl rfl (Nat.le_of_ble_eq_true rfl) dX10_init_41 rfl ?_
  refine z_iconst (v := 0) b dX10_init_44 (by decide) ?_
  refine z_istore_n (lv' := [(1, .int 0), (0, .ref h)]) b dX10_init_45 rfl (by decide) rfl ?_
  refine z_iconst (v := 0) b dX10_init_46 (by decide) ?_
  refine z_istore_n (lv' := [(2, .int 0), (1, .int 0), (0, .ref h)]) b dX10_init_47 rfl (by decide) rfl ?_
  obtain ⟨adK, adV, hk1, hk2⟩ := b.E1.2.2.2.2.1.2.2
  have hx : sX T0 (adK 0) (adV 0) 85 (fun j => (sByt.getD 0 []).getD j 0) s := ⟨(hk1.1 0 (by decide)).1, (hk1.1 0 (by decide)).2.1, (hk1.1 0 (by decide)).2.2.1, (hk1.1 0 (by decide)).2.2.2, b.E1.2.2.2.2.1.1, b.E1.2.2.2.2.1.2.1⟩
  have hr := hk2 0 (by decide)
  have LP : ∀ (n9 k9 : Nat), k9 + n9 = 85 → ∀ (w9 : Nat), w9 = (sm k9).1 → ∀ (g9 : Nat → Int64), g9 = (sm k9).2 → Z p l e R s m args below meth c D A 4 (MQ below (QV D (U := (Nat → Nat) × (Nat → Int64)) (fun u => u.2 = (sm 85).2) (fun u => [(h, .inr (11, [.ref (u.1 0), .ref (u.1 1), .ref (u.1 2), .ref (u.1 3), .int 0])), ((u.1 0), .inl (cy 1, 19, .inr (.inl u.2))), ((u.1 1), .inl (cy 0, 701, .inl (fun _ => 0))), ((u.1 2), .inl (cy 0, 701, .inl (fun _ => 0))), ((u.1 3), .inl (cy 1, 701, .inr (.inl (fun _ => 0))))]) A) args s 4 2122 A) 4 2122 [(h, .inr (11, [.ref q22451, .ref q22452, .ref q22453, .ref q22454, .int 0])), (q22451, .inl (cy 1, 19, .inr (.inl g9))), (q22452, .inl (cy 0, 701, .inl (fun _ => 0))), (q22453, .inl (cy 0, 701, .inl (fun _ => 0))), (q22454, .inl (cy 1, 701, .inr (.inl (fun _ => 0))))] [(1, .int (nI w9)), (2, .int (nI k9)), (0, .ref h)] 48 [] := by
    intro n9
    induction n9 with
    | zero =>
      intro k9 hk9 w9 hwe g9 hge
      have hw9 : w9 ≤ k9 := by rw [hwe]; exact sm_le k9
      obtain rfl : k9 = 85 := by omega
      refine z_iload_n b dX10_init_48 rfl rfl ?_
      refine s_ldc b rfl hr dX10_init_49 ?_
      refine z_calli b (s_runV (As := []) (st := [.int (nI 85)]) b hx (g_length [(h, .inr (11, [.ref q22451, .ref q22452, .ref q22453, .ref q22454, .int 0])), (q22451, .inl (cy 1, 19, .inr (.inl g9))), (q22452, .inl (cy 0, 701, .inl (fun _ => 0))), (q22453, .inl (cy 0, 701, .inl (fun _ => 0))), (q22454, .inl (cy 1, 701, .inr (.inl (fun _ => 0))))] 85 (by decide) (by decide)) cf_J0_length_8abf5 rfl wm_X10_31 wi_J0_length_8abf5 ws_J0_length_8abf5 dX10_init_51 rfl (Nat.le_of_ble_eq_true rfl) ⟨by decide, by decide, by decide, by decide⟩) (fun r u h => ?_)
      subst h
      refine z_icmp_ge_t (tgt := 108) b dX10_init_54 (by decide) (by decide) ?_
      exact z_vret (u := ((fun k => ([q22451, q22452, q22453, q22454] : List Nat).getD k 0), g9)) b rfl dX10_init_108 (by show g9 = (sm 85).2; exact hge) rfl (by decide) (by decide)
    | succ n9 ih =>
      intro k9 hk9 w9 hwe g9 hge
      have hw9 : w9 ≤ k9 := by rw [hwe]; exact sm_le k9
      have ek9 : (nI k9).toInt = (k9 : Int) := nI_toInt (by omega)
      have ew9 : (nI w9).toInt = (w9 : Int) := nI_toInt (by omega)
      have nx : ∀ (v9 : Nat), v9 = (sm (k9 + 1)).1 → ∀ g9 : Nat → Int64, g9 = (sm (k9 + 1)).2 → Z p l e R s m args below meth c D A 4 (MQ below (QV D (U := (Nat → Nat) × (Nat → Int64)) (fun u => u.2 = (sm 85).2) (fun u => [(h, .inr (11, [.ref (u.1 0), .ref (u.1 1), .ref (u.1 2), .ref (u.1 3), .int 0])), ((u.1 0), .inl (cy 1, 19, .inr (.inl u.2))), ((u.1 1), .inl (cy 0, 701, .inl (fun _ => 0))), ((u.1 2), .inl (cy 0, 701, .inl (fun _ => 0))), ((u.1 3), .inl (cy 1, 701, .inr (.inl (fun _ => 0))))]) A) args s 4 2122 A) 4 2122 [(h, .inr (11, [.ref q22451, .ref q22452, .ref q22453, .ref q22454, .int 0])), (q22451, .inl (cy 1, 19, .inr (.inl g9))), (q22452, .inl (cy 0, 701, .inl (fun _ => 0))), (q22453, .inl (cy 0, 701, .inl (fun _ => 0))), (q22454, .inl (cy 1, 701, .inr (.inl (fun _ => 0))))] [(1, .int (nI v9)), (2, .int (nI k9 + 1)), (0, .ref h)] 48 [] := by
        intro v9 hv9 g9 hg9
        have e9 := ih (k9 + 1) (by omega) v9 hv9 g9 hg9
        rw [← nI_1 k9] at e9
        exact e9
      have hx9 : zx (nI k9) k9 85 := zx_n (by omega) (by decide)
      have hl9 : nI k9 < 85 := by
        rw [Int32.lt_iff_toInt_lt, ek9]
        show (k9 : Int) < 85
        omega
      refine z_iload_n b dX10_init_48 rfl rfl ?_
      refine s_ldc b rfl hr dX10_init_49 ?_
      refine z_calli b (s_runV (As := []) (st := [.int (nI k9)]) b hx (g_length [(h, .inr (11, [.ref q22451, .ref q22452, .ref q22453, .ref q22454, .int 0])), (q22451, .inl (cy 1, 19, .inr (.inl g9))), (q22452, .inl (cy 0, 701, .inl (fun _ => 0))), (q22453, .inl (cy 0, 701, .inl (fun _ => 0))), (q22454, .inl (cy 1, 701, .inr (.inl (fun _ => 0))))] 85 (by decide) (by decide)) cf_J0_length_8abf5 rfl wm_X10_31 wi_J0_length_8abf5 ws_J0_length_8abf5 dX10_init_51 rfl (Nat.le_of_ble_eq_true rfl) ⟨by decide, by decide, by decide, by decide⟩) (fun r u h => ?_)
      subst h
      refine y_icmp_ge (tgt := 108) (xl := (nI k9).toInt) (yl := 85) b rfl (by decide) dX10_init_54 (by decide) (fun c1 => ?_) (fun c1 => ?_)
      · exfalso; omega
      · refine s_ldc b rfl hr dX10_init_57 ?_
        refine z_iload_n b dX10_init_59 rfl rfl ?_
        refine z_calli b (s_runV (As := [.int (nI k9)]) (st := []) b hx (g_char [(h, .inr (11, [.ref q22451, .ref q22452, .ref q22453, .ref q22454, .int 0])), (q22451, .inl (cy 1, 19, .inr (.inl g9))), (q22452, .inl (cy 0, 701, .inl (fun _ => 0))), (q22453, .inl (cy 0, 701, .inl (fun _ => 0))), (q22454, .inl (cy 1, 701, .inr (.inl (fun _ => 0))))] (nI k9) 85 k9 hx9 (by decide) hl9) cf_J0_charAt_5068e rfl wm_X10_37 wi_J0_charAt_5068e ws_J0_charAt_5068e dX10_init_60 rfl (Nat.le_of_ble_eq_true rfl) ⟨by decide, by decide, by decide, by decide⟩) (fun r u hr9 => ?_)
        refine z_istore_n (lv' := [(3, .int r), (1, .int (nI w9)), (2, .int (nI k9)), (0, .ref h)]) b dX10_init_63 rfl (by decide) rfl ?_
        refine z_iload_n b dX10_init_64 rfl rfl ?_
        refine z_calli b (z_runS (As := [.int r]) (st := []) b (g_isLetter (sW := 0) (tW := 0) (n := 0) (f := fun _ => 0) [(h, .inr (11, [.ref q22451, .ref q22452, .ref q22453, .ref q22454, .int 0])), (q22451, .inl (cy 1, 19, .inr (.inl g9))), (q22452, .inl (cy 0, 701, .inl (fun _ => 0))), (q22453, .inl (cy 0, 701, .inl (fun _ => 0))), (q22454, .inl (cy 1, 701, .inr (.inl (fun _ => 0))))] r) cf_X10_isLetter wm_X10_41 ws_X10_isLetter dX10_init_65 rfl (Nat.le_of_ble_eq_true rfl) ⟨by decide, by decide, by decide, by decide⟩) (fun r2 u2 hr2 => ?_)
        rcases hr2 with ⟨rfl, hL⟩ | ⟨rfl, hL⟩
        · refine z_if_ne_f (tgt := 77) b dX10_init_68 (by decide) rfl ?_
          refine z_iinc (k9 := 1) (v := nI w9 + 1) (lv' := [(1, .int (nI w9 + 1)), (3, .int r), (2, .int (nI k9)), (0, .ref h)]) b dX10_init_71 rfl rfl (by decide) rfl ?_
          refine z_goto (tgt := 102) b dX10_init_74 (by decide) ?_
          refine z_iinc (k9 := 2) (v := nI k9 + 1) (lv' := [(2, .int (nI k9 + 1)), (1, .int (nI w9 + 1)), (3, .int r), (0, .ref h)]) b dX10_init_102 rfl rfl (by decide) rfl ?_
          refine z_goto (tgt := 48) b dX10_init_105 (by decide) ?_
          refine z_lv (lv' := [(1, .int (nI w9 + 1)), (2, .int (nI k9 + 1)), (0, .ref h)]) [1, 0, 3] rfl ?_
          rw [nI_1 w9]
          have e8 := sm_n hr9 hL
          exact nx (w9 + 1) (by rw [e8, hwe]) g9 (by rw [e8, hge])
        · refine z_if_ne_t (tgt := 77) b dX10_init_68 (by decide) (by decide) ?_
          refine z_iload_n b dX10_init_77 rfl rfl ?_
          refine z_aload_n b dX10_init_78 rfl rfl ?_
          refine z_get (q0 := 0) (k9 := 0) (v := .ref q22451) b rfl rfl in_X10 (by decide) wf_X10_11 rfl dX10_init_79 ?_
          refine z_alen (q0 := 1) (t0 := 1) (v := 19) b rfl rfl rfl dX10_init_82 ?_
          have e8 := sm_y hr9 hL
          rw [← hwe, ← hge] at e8
          have fin : ∀ g8 : Nat → Int64, g8 = (sm (k9 + 1)).2 → Z p l e R s m args below meth c D A 4 (MQ below (QV D (U := (Nat → Nat) × (Nat → Int64)) (fun u => u.2 = (sm 85).2) (fun u => [(h, .inr (11, [.ref (u.1 0), .ref (u.1 1), .ref (u.1 2), .ref (u.1 3), .int 0])), ((u.1 0), .inl (cy 1, 19, .inr (.inl u.2))), ((u.1 1), .inl (cy 0, 701, .inl (fun _ => 0))), ((u.1 2), .inl (cy 0, 701, .inl (fun _ => 0))), ((u.1 3), .inl (cy 1, 701, .inr (.inl (fun _ => 0))))]) A) args s 4 2122 A) 4 2122 [(h, .inr (11, [.ref q22451, .ref q22452, .ref q22453, .ref q22454, .int 0])), (q22451, .inl (cy 1, 19, .inr (.inl g8))), (q22452, .inl (cy 0, 701, .inl (fun _ => 0))), (q22453, .inl (cy 0, 701, .inl (fun _ => 0))), (q22454, .inl (cy 1, 701, .inr (.inl (fun _ => 0))))] [(3, .int r), (1, .int (nI w9)), (2, .int (nI k9)), (0, .ref h)] 102 [] := by
            intro g8 hg8
            refine z_iinc (k9 := 2) (v := nI k9 + 1) (lv' := [(2, .int (nI k9 + 1)), (3, .int r), (1, .int (nI w9)), (0, .ref h)]) b dX10_init_102 rfl rfl (by decide) rfl ?_
            refine z_goto (tgt := 48) b dX10_init_105 (by decide) ?_
            refine z_lv (lv' := [(1, .int (nI w9)), (2, .int (nI k9 + 1)), (0, .ref h)]) [2, 0, 3] rfl ?_
            exact nx w9 (by rw [e8]) g8 hg8
          refine y_icmp_ge (tgt := 102) (xl := (nI w9).toInt) (yl := 19) b rfl (by decide) dX10_init_83 (by decide) (fun c2 => ?_) (fun c2 => ?_)
          · exact fin g9 (by rw [e8]; exact (if_neg (by omega)).symm)
          · have hw8 : zx (nI w9) w9 19 := zx_n (by omega) (by decide)
            refine z_aload_n b dX10_init_86 rfl rfl ?_
            refine z_get (q0 := 0) (k9 := 0) (v := .ref q22451) b rfl rfl in_X10 (by decide) wf_X10_11 rfl dX10_init_87 ?_
            refine z_iload_n b dX10_init_90 rfl rfl ?_
            refine z_aload_n b dX10_init_91 rfl rfl ?_
            refine z_get (q0 := 0) (k9 := 0) (v := .ref q22451) b rfl rfl in_X10 (by decide) wf_X10_11 rfl dX10_init_92 ?_
            refine z_iload_n b dX10_init_95 rfl rfl ?_
            refine y_lald (q0 := 1) (j := w9) (v := g9 w9) b rfl hw8 rfl dX10_init_96 ?_
            refine z_iload_n b dX10_init_97 rfl rfl ?_
            refine z_calll b (z_runS (As := [.long (g9 w9), .int r]) (st := [.int (nI w9), .ref q22451]) b (g_withLetter (sW := 0) (tW := 0) (n := 0) (f := fun _ => 0) [(h, .inr (11, [.ref q22451, .ref q22452, .ref q22453, .ref q22454, .int 0])), (q22451, .inl (cy 1, 19, .inr (.inl g9))), (q22452, .inl (cy 0, 701, .inl (fun _ => 0))), (q22453, .inl (cy 0, 701, .inl (fun _ => 0))), (q22454, .inl (cy 1, 701, .inr (.inl (fun _ => 0))))] (g9 w9) r) cf_X10_withLetter wm_X10_45 ws_X10_withLetter dX10_init_98 rfl (Nat.le_of_ble_eq_true rfl) ⟨by decide, by decide, by decide, by decide⟩) (fun x8 u8 hx8 => ?_)
            refine y_last (q0 := 1) (j := w9) (ws' := [(h, .inr (11, [.ref q22451, .ref q22452, .ref q22453, .ref q22454, .int 0])), (q22451, .inl (cy 1, 19, .inr (.inl (vp_updL g9 w9 x8)))), (q22452, .inl (cy 0, 701, .inl (fun _ => 0))), (q22453, .inl (cy 0, 701, .inl (fun _ => 0))), (q22454, .inl (cy 1, 701, .inr (.inl (fun _ => 0))))]) b rfl hw8 dX10_init_101 rfl ?_
            exact fin _ (by rw [e8, hx8]; exact (if_pos (by omega)).symm)
  refine z_lv (lv' := [(1, .int 0), (2, .int 0), (0, .ref h)]) [1, 0, 2] rfl ?_
  exact LP 85 0 rfl 0 rfl (fun _ => 0) rfl

set_option maxHeartbeats 4000000 in
set_option maxRecDepth 100000 in
theorem e_X5_init {l : Launch} {D : va_G} {cy : Nat → ClassId} {T0 tB tE : Nat} (h : Nat)  : Ct l D cy T0 tB tE yX5_init cX5_init 1 none 5 108 7 2830 [(h, .inr (6, [.null, .int 0, .null, .int 0, .int 0, .int 0, .null, .int 0, .int 0]))] [.ref h] (QV D (U := (Nat → Nat) × (Nat → Int64)) (fun u => u.2 = (sm 85).2) (fun u => [(h, .inr (6, [.ref (u.1 0), .int 0, .ref (u.1 5), .int 0, .int 0, .int 0, .ref (u.1 6), .int 0, .int (-1)])), ((u.1 0), .inr (11, [.ref (u.1 1), .ref (u.1 2), .ref (u.1 3), .ref (u.1 4), .int 0])), ((u.1 1), .inl (cy 1, 19, .inr (.inl (u.2)))), ((u.1 2), .inl (cy 0, 701, .inl (fun _ => 0))), ((u.1 3), .inl (cy 0, 701, .inl (fun _ => 0))), ((u.1 4), .inl (cy 1, 701, .inr (.inl (fun _ => 0)))), ((u.1 5), .inl (cy 0, 700, .inl (fun _ => 0))), ((u.1 6), .inr (0, [.int 0, .ref tE, .int 0]))])) := by
  refine Ct.ofZ RX5 "<init>" [(0, .ref h)] rfl rfl rfl rfl (Nat.le_of_ble_eq_true rfl) ?_
  intro p e R s m args below meth c A b
  refine z_aload_n b dX5_init_0 rfl rfl ?_
  refine z_objInit b wm_X5_3 wi_obj wc_obj dX5_init_1 (by decide) (Nat.le_of_ble_eq_true rfl) ?_
  refine z_aload_n b dX5_init_4 rfl rfl ?_
  refine z_new (ci := 11) (fs := [.null, .null, .null, .null, .int 0]) tyX10 b in_X10 tyX10_ok wk_X5_9 wI_X10 wN_X10 rfl (by decide +kernel) ⟨by decide, by decide⟩ dX5_init_5 (fun q22455 => ?_)
  refine z_dup b dX5_init_8 rfl ?_
  refine z_callvF (wc := [(q22455, .inr (11, [.null, .null, .null, .null, .int 0]))]) (wr := [(h, .inr (6, [.null, .int 0, .null, .int 0, .int 0, .int 0, .null, .int 0, .int 0]))]) [1] [0] b rfl (by decide) rfl (by decide) (by decide) (z_runI (As := []) (st := [.ref q22455, .ref h]) b (e_X10_init q22455 ) cf_X10_init wm_X5_11 wi_X10_init rfl dX5_init_9 rfl (Nat.le_of_ble_eq_true rfl) ⟨by decide, by decide, by decide, by decide⟩) (fun u22456 hw3 => ?_)
  show Z p l e R s m args below meth c D A 1 (MQ below (QV D (U := (Nat → Nat) × (Nat → Int64)) (fun u => u.2 = (sm 85).2) (fun u => [(h, .inr (6, [.ref (u.1 0), .int 0, .ref (u.1 5), .int 0, .int 0, .int 0, .ref (u.1 6), .int 0, .int (-1)])), ((u.1 0), .inr (11, [.ref (u.1 1), .ref (u.1 2), .ref (u.1 3), .ref (u.1 4), .int 0])), ((u.1 1), .inl (cy 1, 19, .inr (.inl (u.2)))), ((u.1 2), .inl (cy 0, 701, .inl (fun _ => 0))), ((u.1 3), .inl (cy 0, 701, .inl (fun _ => 0))), ((u.1 4), .inl (cy 1, 701, .inr (.inl (fun _ => 0)))), ((u.1 5), .inl (cy 0, 700, .inl (fun _ => 0))), ((u.1 6), .inr (0, [.int 0, .ref tE, .int 0]))]) A) args s 7 2830 A) _ _ [(h, .inr (6, [.null, .int 0, .null, .int 0, .int 0, .int 0, .null, .int 0, .int 0])), (q22455, .inr (11, [.ref (u22456.1 0), .ref (u22456.1 1), .ref (u22456.1 2), .ref (u22456.1 3), .int 0])), ((u22456.1 0), .inl (cy 1, 19, .inr (.inl (u22456.2)))), ((u22456.1 1), .inl (cy 0, 701, .inl (fun _ => 0))), ((u22456.1 2), .inl (cy 0, 701, .inl (fun _ => 0))), ((u22456.1 3), .inl (cy 1, 701, .inr (.inl (fun _ => 0))))] [(0, .ref h)] 12 [.ref q22455, .ref h]
  refine z_putF (q0 := 0) (k9 := 0) (ws' := [(h, .inr (6, [.ref q22455, .int 0, .null, .int 0, .int 0, .int 0, .null, .int 0, .int 0])), (q22455, .inr (11, [.ref (u22456.1 0), .ref (u22456.1 1), .ref (u22456.1 2), .ref (u22456.1 3), .int 0])), ((u22456.1 0), .inl (cy 1, 19, .inr (.inl (u22456.2)))), ((u22456.1 1), .inl (cy 0, 701, .inl (fun _ => 0))), ((u22456.1 2), .inl (cy 0, 701, .inl (fun _ => 0))), ((u22456.1 3), .inl (cy 1, 701, .inr (.inl (fun _ => 0))))]) tyX5 b rfl rfl in_X5 tyX5_ok nmX5 (by decide) wf_X5_12 rfl rfl rfl rfl rfl rfl (Nat.le_of_ble_eq_true rfl) dX5_init_12 rfl ?_
  refine z_aload_n b dX5_init_15 rfl rfl ?_
  refine z_iconst (v := 0) b dX5_init_16 (by decide) ?_
  refine z_put (q0 := 0) (k9 := 1) (ws' := [(h, .inr (6, [.ref q22455, .int 0, .null, .int 0, .int 0, .int 0, .null, .int 0, .int 0])), (q22455, .inr (11, [.ref (u22456.1 0), .ref (u22456.1 1), .ref (u22456.1 2), .ref (u22456.1 3), .int 0])), ((u22456.1 0), .inl (cy 1, 19, .inr (.inl (u22456.2)))), ((u22456.1 1), .inl (cy 0, 701, .inl (fun _ => 0))), ((u22456.1 2), .inl (cy 0, 701, .inl (fun _ => 0))), ((u22456.1 3), .inl (cy 1, 701, .inr (.inl (fun _ => 0))))]) tyX5 b rfl rfl in_X5 tyX5_ok nmX5 (by decide) wf_X5_18 rfl rfl rfl rfl (Nat.le_of_ble_eq_true rfl) dX5_init_17 rfl ?_
  refine z_aload_n b dX5_init_20 rfl rfl ?_
  refine z_sipush (v := 700) b dX5_init_21 (by decide) ?_
  refine z_newI (N' := 700) b wA_I (by decide) (by decide) (by decide) ⟨by decide, by decide⟩ dX5_init_24 (fun q22457 => ?_)
  refine z_putF (q0 := 0) (k9 := 2) (ws' := [(h, .inr (6, [.ref q22455, .int 0, .ref q22457, .int 0, .int 0, .int 0, .null, .int 0, .int 0])), (q22455, .inr (11, [.ref (u22456.1 0), .ref (u22456.1 1), .ref (u22456.1 2), .ref (u22456.1 3), .int 0])), ((u22456.1 0), .inl (cy 1, 19, .inr (.inl (u22456.2)))), ((u22456.1 1), .inl (cy 0, 701, .inl (fun _ => 0))), ((u22456.1 2), .inl (cy 0, 701, .inl (fun _ => 0))), ((u22456.1 3), .inl (cy 1, 701, .inr (.inl (fun _ => 0)))), (q22457, .inl (cy 0, 700, .inl (fun _ => 0)))]) tyX5 b rfl rfl in_X5 tyX5_ok nmX5 (by decide) wf_X5_22 rfl rfl rfl rfl rfl rfl (Nat.le_of_ble_eq_true rfl) dX5_init_26 rfl ?_
  refine z_aload_n b dX5_init_29 rfl rfl ?_
  refine z_iconst (v := 0) b dX5_init_30 (by decide) ?_
  refine z_put (q0 := 0) (k9 := 3) (ws' := [(h, .inr (6, [.ref q22455, .int 0, .ref q22457, .int 0, .int 0, .int 0, .null, .int 0, .int 0])), (q22455, .inr (11, [.ref (u22456.1 0), .ref (u22456.1 1), .ref (u22456.1 2), .ref (u22456.1 3), .int 0])), ((u22456.1 0), .inl (cy 1, 19, .inr (.inl (u22456.2)))), ((u22456.1 1), .inl (cy 0, 701, .inl (fun _ => 0))), ((u22456.1 2), .inl (cy 0, 701, .inl (fun _ => 0))), ((u22456.1 3), .inl (cy 1, 701, .inr (.inl (fun _ => 0)))), (q22457, .inl (cy 0, 700, .inl (fun _ => 0)))]) tyX5 b rfl rfl in_X5 tyX5_ok nmX5 (by decide) wf_X5_26 rfl rfl rfl rfl (Nat.le_of_ble_eq_true rfl) dX5_init_31 rfl ?_
  refine z_aload_n b dX5_init_34 rfl rfl ?_
  refine z_iconst (v := 0) b dX5_init_35 (by decide) ?_
  refine z_put (q0 := 0) (k9 := 4) (ws' := [(h, .inr (6, [.ref q22455, .int 0, .ref q22457, .int 0, .int 0, .int 0, .null, .int 0, .int 0])), (q22455, .inr (11, [.ref (u22456.1 0), .ref (u22456.1 1), .ref (u22456.1 2), .ref (u22456.1 3), .int 0])), ((u22456.1 0), .inl (cy 1, 19, .inr (.inl (u22456.2)))), ((u22456.1 1), .inl (cy 0, 701, .inl (fun _ => 0))), ((u22456.1 2), .inl (cy 0, 701, .inl (fun _ => 0))), ((u22456.1 3), .inl (cy 1, 701, .inr (.inl (fun _ => 0)))), (q22457, .inl (cy 0, 700, .inl (fun _ => 0)))]) tyX5 b rfl rfl in_X5 tyX5_ok nmX5 (by decide) wf_X5_29 rfl rfl rfl rfl (Nat.le_of_ble_eq_true rfl) dX5_init_36 rfl ?_
  refine z_aload_n b dX5_init_39 rfl rfl ?_
  refine z_iconst (v := 0) b dX5_init_40 (by decide) ?_
  refine z_put (q0 := 0) (k9 := 5) (ws' := [(h, .inr (6, [.ref q22455, .int 0, .ref q22457, .int 0, .int 0, .int 0, .null, .int 0, .int 0])), (q22455, .inr (11, [.ref (u22456.1 0), .ref (u22456.1 1), .ref (u22456.1 2), .ref (u22456.1 3), .int 0])), ((u22456.1 0), .inl (cy 1, 19, .inr (.inl (u22456.2)))), ((u22456.1 1), .inl (cy 0, 701, .inl (fun _ => 0))), ((u22456.1 2), .inl (cy 0, 701, .inl (fun _ => 0))), ((u22456.1 3), .inl (cy 1, 701, .inr (.inl (fun _ => 0)))), (q22457, .inl (cy 0, 700, .inl (fun _ => 0)))]) tyX5 b rfl rfl in_X5 tyX5_ok nmX5 (by decide) wf_X5_33 rfl rfl rfl rfl (Nat.le_of_ble_eq_true rfl) dX5_init_41 rfl ?_
  refine z_aload_n b dX5_init_44 rfl rfl ?_
  refine z_new (ci := 0) (fs := [.int 0, .null, .int 0]) tyJx4a65c b in_Jx4a65c tyJx4a65c_ok wk_X5_36 wI_Jx4a65c wN_Jx4a65c rfl (by decide +kernel) ⟨by decide, by decide⟩ dX5_init_45 (fun q22458 => ?_)
  refine z_dup b dX5_init_48 rfl ?_
  refine z_callvF (wc := [(q22458, .inr (0, [.int 0, .null, .int 0]))]) (wr := [(h, .inr (6, [.ref q22455, .int 0, .ref q22457, .int 0, .int 0, .int 0, .null, .int 0, .int 0])), (q22455, .inr (11, [.ref (u22456.1 0), .ref (u22456.1 1), .ref (u22456.1 2), .ref (u22456.1 3), .int 0])), ((u22456.1 0), .inl (cy 1, 19, .inr (.inl (u22456.2)))), ((u22456.1 1), .inl (cy 0, 701, .inl (fun _ => 0))), ((u22456.1 2), .inl (cy 0, 701, .inl (fun _ => 0))), ((u22456.1 3), .inl (cy 1, 701, .inr (.inl (fun _ => 0)))), (q22457, .inl (cy 0, 700, .inl (fun _ => 0)))]) [7] [0, 1, 2, 3, 4, 5, 6] b rfl (by decide) rfl (by decide) (by decide) (z_runI (As := []) (st := [.ref q22458, .ref h]) b (e_Jx4a65c_init_da8c8 q22458 ) cf_Jx4a65c_init_da8c8 wm_X5_38 wi_Jx4a65c_init_da8c8 rfl dX5_init_49 rfl (Nat.le_of_ble_eq_true rfl) ⟨by decide, by decide, by decide, by decide⟩) (fun u22459 hu22459 => ?_)
  show Z p l e R s m args below meth c D A 1 (MQ below (QV D (U := (Nat → Nat) × (Nat → Int64)) (fun u => u.2 = (sm 85).2) (fun u => [(h, .inr (6, [.ref (u.1 0), .int 0, .ref (u.1 5), .int 0, .int 0, .int 0, .ref (u.1 6), .int 0, .int (-1)])), ((u.1 0), .inr (11, [.ref (u.1 1), .ref (u.1 2), .ref (u.1 3), .ref (u.1 4), .int 0])), ((u.1 1), .inl (cy 1, 19, .inr (.inl (u.2)))), ((u.1 2), .inl (cy 0, 701, .inl (fun _ => 0))), ((u.1 3), .inl (cy 0, 701, .inl (fun _ => 0))), ((u.1 4), .inl (cy 1, 701, .inr (.inl (fun _ => 0)))), ((u.1 5), .inl (cy 0, 700, .inl (fun _ => 0))), ((u.1 6), .inr (0, [.int 0, .ref tE, .int 0]))]) A) args s 7 2830 A) _ _ [(h, .inr (6, [.ref q22455, .int 0, .ref q22457, .int 0, .int 0, .int 0, .null, .int 0, .int 0])), (q22455, .inr (11, [.ref (u22456.1 0), .ref (u22456.1 1), .ref (u22456.1 2), .ref (u22456.1 3), .int 0])), ((u22456.1 0), .inl (cy 1, 19, .inr (.inl (u22456.2)))), ((u22456.1 1), .inl (cy 0, 701, .inl (fun _ => 0))), ((u22456.1 2), .inl (cy 0, 701, .inl (fun _ => 0))), ((u22456.1 3), .inl (cy 1, 701, .inr (.inl (fun _ => 0)))), (q22457, .inl (cy 0, 700, .inl (fun _ => 0))), (q22458, .inr (0, [.int 0, .ref tE, .int 0]))] [(0, .ref h)] 52 [.ref q22458, .ref h]
  refine z_putF (q0 := 0) (k9 := 6) (ws' := [(h, .inr (6, [.ref q22455, .int 0, .ref q22457, .int 0, .int 0, .int 0, .ref q22458, .int 0, .int 0])), (q22455, .inr (11, [.ref (u22456.1 0), .ref (u22456.1 1), .ref (u22456.1 2), .ref (u22456.1 3), .int 0])), ((u22456.1 0), .inl (cy 1, 19, .inr (.inl (u22456.2)))), ((u22456.1 1), .inl (cy 0, 701, .inl (fun _ => 0))), ((u22456.1 2), .inl (cy 0, 701, .inl (fun _ => 0))), ((u22456.1 3), .inl (cy 1, 701, .inr (.inl (fun _ => 0)))), (q22457, .inl (cy 0, 700, .inl (fun _ => 0))), (q22458, .inr (0, [.int 0, .ref tE, .int 0]))]) tyX5 b rfl rfl in_X5 tyX5_ok nmX5 (by decide) wf_X5_39 rfl rfl rfl rfl rfl rfl (Nat.le_of_ble_eq_true rfl) dX5_init_52 rfl ?_
  refine z_aload_n b dX5_init_55 rfl rfl ?_
  refine z_iconst (v := 0) b dX5_init_56 (by decide) ?_
  refine z_put (q0 := 0) (k9 := 7) (ws' := [(h, .inr (6, [.ref q22455, .int 0, .ref q22457, .int 0, .int 0, .int 0, .ref q22458, .int 0, .int 0])), (q22455, .inr (11, [.ref (u22456.1 0), .ref (u22456.1 1), .ref (u22456.1 2), .ref (u22456.1 3), .int 0])), ((u22456.1 0), .inl (cy 1, 19, .inr (.inl (u22456.2)))), ((u22456.1 1), .inl (cy 0, 701, .inl (fun _ => 0))), ((u22456.1 2), .inl (cy 0, 701, .inl (fun _ => 0))), ((u22456.1 3), .inl (cy 1, 701, .inr (.inl (fun _ => 0)))), (q22457, .inl (cy 0, 700, .inl (fun _ => 0))), (q22458, .inr (0, [.int 0, .ref tE, .int 0]))]) tyX5 b rfl rfl in_X5 tyX5_ok nmX5 (by decide) wf_X5_43 rfl rfl rfl rfl (Nat.le_of_ble_eq_true rfl) dX5_init_57 rfl ?_
  refine z_aload_n b dX5_init_60 rfl rfl ?_
  refine z_iconst (v := (-1)) b dX5_init_61 (by decide) ?_
  refine z_put (q0 := 0) (k9 := 8) (ws' := [(h, .inr (6, [.ref q22455, .int 0, .ref q22457, .int 0, .int 0, .int 0, .ref q22458, .int 0, .int (-1)])), (q22455, .inr (11, [.ref (u22456.1 0), .ref (u22456.1 1), .ref (u22456.1 2), .ref (u22456.1 3), .int 0])), ((u22456.1 0), .inl (cy 1, 19, .inr (.inl (u22456.2)))), ((u22456.1 1), .inl (cy 0, 701, .inl (fun _ => 0))), ((u22456.1 2), .inl (cy 0, 701, .inl (fun _ => 0))), ((u22456.1 3), .inl (cy 1, 701, .inr (.inl (fun _ => 0)))), (q22457, .inl (cy 0, 700, .inl (fun _ => 0))), (q22458, .inr (0, [.int 0, .ref tE, .int 0]))]) tyX5 b rfl rfl in_X5 tyX5_ok nmX5 (by decide) wf_X5_46 rfl rfl rfl rfl (Nat.le_of_ble_eq_true rfl) dX5_init_62 rfl ?_
  exact z_vret (u := ((fun k => ([q22455, (u22456.1 0), (u22456.1 1), (u22456.1 2), (u22456.1 3), q22457, q22458] : List Nat).getD k 0), (u22456.2))) b rfl dX5_init_65 hw3 rfl (by decide) (by decide)


