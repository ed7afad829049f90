/-! ===== Batch.add; class Tree; written by wip/gen/tree.py ===== -/
def isNum (i : Int32) : Int32 := if ¬ i < 0 ∧ ¬ 200 < i then 1 else 0
theorem nm_in {i : Int32} (h : ¬ isNum i = 0) : vp_in i 201 := by
  unfold isNum at h
  by_cases h1 : ¬ i < 0 ∧ ¬ 200 < i
  · obtain ⟨i', hi, rfl⟩ := nI_of h1.1
    have := mt (nI_ltI (a := 200) (by decide) hi).mpr h1.2
    exact vp_in_nI (by omega) (by decide)
  · rw [if_neg h1] at h; exact absurd rfl h
theorem nm_1 {i : Int32} (h0 : ¬ i < 1) (h1 : ¬ 200 < i) : vp_in i 201 := by
  have hp : ¬ i < 0 := fun h => h0 (Int32.lt_trans h (by decide))
  obtain ⟨i', hi, rfl⟩ := nI_of hp
  have := mt (nI_ltI (a := 200) (by decide) hi).mpr h1
  exact vp_in_nI (by omega) (by decide)
def trLeast (f : Nat → Int32) : Nat → Int32 → Int32
  | 0, _ => -1
  | t + 1, k => if f k.toNatClampNeg = 0 then k else trLeast f t (k + 1)
def trIn (fa fb : Nat → Int32) (i dir : Int32) : Int32 := if ¬ i ≤ 0 ∧ ¬ fa i.toNatClampNeg = 0 ∧ fb i.toNatClampNeg = dir then 1 else 0
def trCount (fa fb : Nat → Int32) (dir : Int32) : Nat → Int32 → Int32 → Int32
  | 0, _, n => n
  | t + 1, k, n => trCount fa fb dir t (k + 1) (n + (if trIn fa fb k dir = 0 then 0 else 1))
abbrev b_Batch_add : ByteArray := prog_2_method_10_code
def y_Batch_add : MethodName := ⟨"FlashVault$Batch", "add", "([BII)I"⟩
theorem d_Batch_add_0 : decode b_Batch_add 0 = .ok (.aload_n 0, 1) := by decide +kernel
theorem d_Batch_add_1 : decode b_Batch_add 1 = .ok (.getfield 28, 3) := by decide +kernel
theorem d_Batch_add_4 : decode b_Batch_add 4 = .ok (.bipush 40, 2) := by decide +kernel
theorem d_Batch_add_6 : decode b_Batch_add 6 = .ok (.if_icmp .ge 23, 3) := by decide +kernel
theorem d_Batch_add_9 : decode b_Batch_add 9 = .ok (.iload_n 2, 1) := by decide +kernel
theorem d_Batch_add_10 : decode b_Batch_add 10 = .ok (.iload_n 3, 1) := by decide +kernel
theorem d_Batch_add_11 : decode b_Batch_add 11 = .ok (.iconst 0, 1) := by decide +kernel
theorem d_Batch_add_12 : decode b_Batch_add 12 = .ok (.invokestatic 49, 3) := by decide +kernel
theorem d_Batch_add_15 : decode b_Batch_add 15 = .ok (.iadd, 1) := by decide +kernel
theorem d_Batch_add_16 : decode b_Batch_add 16 = .ok (.aload_n 0, 1) := by decide +kernel
theorem d_Batch_add_17 : decode b_Batch_add 17 = .ok (.getfield 9, 3) := by decide +kernel
theorem d_Batch_add_20 : decode b_Batch_add 20 = .ok (.arraylength, 1) := by decide +kernel
theorem d_Batch_add_21 : decode b_Batch_add 21 = .ok (.aload_n 0, 1) := by decide +kernel
theorem d_Batch_add_22 : decode b_Batch_add 22 = .ok (.getfield 32, 3) := by decide +kernel
theorem d_Batch_add_25 : decode b_Batch_add 25 = .ok (.isub, 1) := by decide +kernel
theorem d_Batch_add_26 : decode b_Batch_add 26 = .ok (.if_icmp .le 5, 3) := by decide +kernel
theorem d_Batch_add_31 : decode b_Batch_add 31 = .ok (.aload_n 1, 1) := by decide +kernel
theorem d_Batch_add_32 : decode b_Batch_add 32 = .ok (.iconst 0, 1) := by decide +kernel
theorem d_Batch_add_33 : decode b_Batch_add 33 = .ok (.aload_n 0, 1) := by decide +kernel
theorem d_Batch_add_34 : decode b_Batch_add 34 = .ok (.getfield 9, 3) := by decide +kernel
theorem d_Batch_add_37 : decode b_Batch_add 37 = .ok (.aload_n 0, 1) := by decide +kernel
theorem d_Batch_add_38 : decode b_Batch_add 38 = .ok (.getfield 32, 3) := by decide +kernel
theorem d_Batch_add_41 : decode b_Batch_add 41 = .ok (.iload_n 2, 1) := by decide +kernel
theorem d_Batch_add_42 : decode b_Batch_add 42 = .ok (.invokestatic 55, 3) := by decide +kernel
theorem w_4_104 : (Cond.methodLink "FlashVault$Batch" (55 : Nat) ({ cls := "FlashVault$Row", name := "copy", desc := "([BI[BII)V" } : MethodName)) ∈ gW := gW_4 104 rfl rfl
theorem d_Batch_add_45 : decode b_Batch_add 45 = .ok (.aload_n 0, 1) := by decide +kernel
theorem d_Batch_add_46 : decode b_Batch_add 46 = .ok (.getfield 15, 3) := by decide +kernel
theorem d_Batch_add_49 : decode b_Batch_add 49 = .ok (.aload_n 0, 1) := by decide +kernel
theorem d_Batch_add_50 : decode b_Batch_add 50 = .ok (.getfield 28, 3) := by decide +kernel
theorem d_Batch_add_53 : decode b_Batch_add 53 = .ok (.aload_n 0, 1) := by decide +kernel
theorem d_Batch_add_54 : decode b_Batch_add 54 = .ok (.getfield 32, 3) := by decide +kernel
theorem d_Batch_add_57 : decode b_Batch_add 57 = .ok (.iastore, 1) := by decide +kernel
theorem d_Batch_add_58 : decode b_Batch_add 58 = .ok (.aload_n 0, 1) := by decide +kernel
theorem d_Batch_add_59 : decode b_Batch_add 59 = .ok (.getfield 19, 3) := by decide +kernel
theorem d_Batch_add_62 : decode b_Batch_add 62 = .ok (.aload_n 0, 1) := by decide +kernel
theorem d_Batch_add_63 : decode b_Batch_add 63 = .ok (.getfield 28, 3) := by decide +kernel
theorem d_Batch_add_66 : decode b_Batch_add 66 = .ok (.iload_n 2, 1) := by decide +kernel
theorem d_Batch_add_67 : decode b_Batch_add 67 = .ok (.iastore, 1) := by decide +kernel
theorem d_Batch_add_68 : decode b_Batch_add 68 = .ok (.aload_n 0, 1) := by decide +kernel
theorem d_Batch_add_69 : decode b_Batch_add 69 = .ok (.getfield 22, 3) := by decide +kernel
theorem d_Batch_add_72 : decode b_Batch_add 72 = .ok (.aload_n 0, 1) := by decide +kernel
theorem d_Batch_add_73 : decode b_Batch_add 73 = .ok (.getfield 28, 3) := by decide +kernel
theorem d_Batch_add_76 : decode b_Batch_add 76 = .ok (.iload_n 3, 1) := by decide +kernel
theorem d_Batch_add_77 : decode b_Batch_add 77 = .ok (.iastore, 1) := by decide +kernel
theorem d_Batch_add_78 : decode b_Batch_add 78 = .ok (.aload_n 0, 1) := by decide +kernel
theorem d_Batch_add_79 : decode b_Batch_add 79 = .ok (.dup, 1) := by decide +kernel
theorem d_Batch_add_80 : decode b_Batch_add 80 = .ok (.getfield 28, 3) := by decide +kernel
theorem d_Batch_add_83 : decode b_Batch_add 83 = .ok (.iconst 1, 1) := by decide +kernel
theorem d_Batch_add_84 : decode b_Batch_add 84 = .ok (.iadd, 1) := by decide +kernel
theorem d_Batch_add_85 : decode b_Batch_add 85 = .ok (.putfield 28, 3) := by decide +kernel
theorem d_Batch_add_88 : decode b_Batch_add 88 = .ok (.aload_n 0, 1) := by decide +kernel
theorem d_Batch_add_89 : decode b_Batch_add 89 = .ok (.dup, 1) := by decide +kernel
theorem d_Batch_add_90 : decode b_Batch_add 90 = .ok (.getfield 32, 3) := by decide +kernel
theorem d_Batch_add_93 : decode b_Batch_add 93 = .ok (.iload_n 2, 1) := by decide +kernel
theorem d_Batch_add_94 : decode b_Batch_add 94 = .ok (.iload_n 3, 1) := by decide +kernel
theorem d_Batch_add_95 : decode b_Batch_add 95 = .ok (.iconst 0, 1) := by decide +kernel
theorem d_Batch_add_96 : decode b_Batch_add 96 = .ok (.invokestatic 49, 3) := by decide +kernel
theorem d_Batch_add_99 : decode b_Batch_add 99 = .ok (.iadd, 1) := by decide +kernel
theorem d_Batch_add_100 : decode b_Batch_add 100 = .ok (.iadd, 1) := by decide +kernel
theorem d_Batch_add_101 : decode b_Batch_add 101 = .ok (.putfield 32, 3) := by decide +kernel
theorem d_Batch_add_104 : decode b_Batch_add 104 = .ok (.aload_n 0, 1) := by decide +kernel
theorem d_Batch_add_105 : decode b_Batch_add 105 = .ok (.getfield 32, 3) := by decide +kernel
theorem d_Batch_add_108 : decode b_Batch_add 108 = .ok (.iload_n 3, 1) := by decide +kernel
theorem d_Batch_add_109 : decode b_Batch_add 109 = .ok (.iconst 0, 1) := by decide +kernel
theorem d_Batch_add_110 : decode b_Batch_add 110 = .ok (.invokestatic 49, 3) := by decide +kernel
theorem d_Batch_add_113 : decode b_Batch_add 113 = .ok (.isub, 1) := by decide +kernel
theorem d_Batch_add_114 : decode b_Batch_add 114 = .ok (.ireturn, 1) := by decide +kernel
abbrev b_Tree_isNumber : ByteArray := prog_11_method_3_code
def y_Tree_isNumber : MethodName := ⟨"FlashVault$Tree", "isNumber", "(I)Z"⟩
theorem d_Tree_isNumber_0 : decode b_Tree_isNumber 0 = .ok (.iload_n 1, 1) := by decide +kernel
theorem d_Tree_isNumber_1 : decode b_Tree_isNumber 1 = .ok (.ifCond .lt 14, 3) := by decide +kernel
theorem d_Tree_isNumber_15 : decode b_Tree_isNumber 15 = .ok (.iconst 0, 1) := by decide +kernel
theorem d_Tree_isNumber_16 : decode b_Tree_isNumber 16 = .ok (.ireturn, 1) := by decide +kernel
theorem d_Tree_isNumber_4 : decode b_Tree_isNumber 4 = .ok (.iload_n 1, 1) := by decide +kernel
theorem d_Tree_isNumber_5 : decode b_Tree_isNumber 5 = .ok (.sipush 200, 3) := by decide +kernel
theorem d_Tree_isNumber_8 : decode b_Tree_isNumber 8 = .ok (.if_icmp .gt 7, 3) := by decide +kernel
theorem d_Tree_isNumber_11 : decode b_Tree_isNumber 11 = .ok (.iconst 1, 1) := by decide +kernel
theorem d_Tree_isNumber_12 : decode b_Tree_isNumber 12 = .ok (.goto 4, 3) := by decide +kernel
abbrev b_Tree_kindOf : ByteArray := prog_11_method_4_code
def y_Tree_kindOf : MethodName := ⟨"FlashVault$Tree", "kindOf", "(I)I"⟩
theorem d_Tree_kindOf_0 : decode b_Tree_kindOf 0 = .ok (.aload_n 0, 1) := by decide +kernel
theorem d_Tree_kindOf_1 : decode b_Tree_kindOf 1 = .ok (.iload_n 1, 1) := by decide +kernel
theorem d_Tree_kindOf_2 : decode b_Tree_kindOf 2 = .ok (.invokevirtual 38, 3) := by decide +kernel
theorem w_8_96 : (Cond.methodLink "FlashVault$Tree" (38 : Nat) ({ cls := "FlashVault$Tree", name := "isNumber", desc := "(I)Z" } : MethodName)) ∈ gW := gW_8 96 rfl rfl
theorem w_1_6 : (Cond.initialized "FlashVault$Tree") ∈ gW := gW_1 6 rfl rfl
theorem w_8_99 : (Cond.code ({ cls := "FlashVault$Tree", name := "isNumber", desc := "(I)Z" } : MethodName) prog_11_method_3_code (2 : Nat) (Option.some FieldType.boolean)) ∈ gW := gW_8 99 rfl rfl
theorem w_8_98 : (Cond.instanceMethod ({ cls := "FlashVault$Tree", name := "isNumber", desc := "(I)Z" } : MethodName)) ∈ gW := gW_8 98 rfl rfl
theorem d_Tree_kindOf_5 : decode b_Tree_kindOf 5 = .ok (.ifCond .eq 12, 3) := by decide +kernel
theorem d_Tree_kindOf_17 : decode b_Tree_kindOf 17 = .ok (.iconst 0, 1) := by decide +kernel
theorem d_Tree_kindOf_18 : decode b_Tree_kindOf 18 = .ok (.ireturn, 1) := by decide +kernel
theorem d_Tree_kindOf_8 : decode b_Tree_kindOf 8 = .ok (.aload_n 0, 1) := by decide +kernel
theorem d_Tree_kindOf_9 : decode b_Tree_kindOf 9 = .ok (.getfield 9, 3) := by decide +kernel
theorem w_1_135 : (Cond.fieldLink "FlashVault$Tree" (9 : Nat) "FlashVault$Tree" "kinds" "[I") ∈ gW := gW_1 135 rfl rfl
theorem F_Tree_9 : tF "FlashVault$Tree" 9 9 0 RC9 FC9 6 tC9 := ⟨rfl, by decide, rfl, iC9, kC9, nC9, w_1_135⟩
theorem d_Tree_kindOf_12 : decode b_Tree_kindOf 12 = .ok (.iload_n 1, 1) := by decide +kernel
theorem d_Tree_kindOf_13 : decode b_Tree_kindOf 13 = .ok (.iaload, 1) := by decide +kernel
theorem d_Tree_kindOf_14 : decode b_Tree_kindOf 14 = .ok (.goto 4, 3) := by decide +kernel
abbrev b_Tree_parentOf : ByteArray := prog_11_method_7_code
def y_Tree_parentOf : MethodName := ⟨"FlashVault$Tree", "parentOf", "(I)I"⟩
theorem d_Tree_parentOf_0 : decode b_Tree_parentOf 0 = .ok (.aload_n 0, 1) := by decide +kernel
theorem d_Tree_parentOf_1 : decode b_Tree_parentOf 1 = .ok (.iload_n 1, 1) := by decide +kernel
theorem d_Tree_parentOf_2 : decode b_Tree_parentOf 2 = .ok (.invokevirtual 38, 3) := by decide +kernel
theorem d_Tree_parentOf_5 : decode b_Tree_parentOf 5 = .ok (.ifCond .eq 12, 3) := by decide +kernel
theorem d_Tree_parentOf_17 : decode b_Tree_parentOf 17 = .ok (.iconst 0, 1) := by decide +kernel
theorem d_Tree_parentOf_18 : decode b_Tree_parentOf 18 = .ok (.ireturn, 1) := by decide +kernel
theorem d_Tree_parentOf_8 : decode b_Tree_parentOf 8 = .ok (.aload_n 0, 1) := by decide +kernel
theorem d_Tree_parentOf_9 : decode b_Tree_parentOf 9 = .ok (.getfield 15, 3) := by decide +kernel
theorem w_1_136 : (Cond.fieldLink "FlashVault$Tree" (15 : Nat) "FlashVault$Tree" "parents" "[I") ∈ gW := gW_1 136 rfl rfl
theorem F_Tree_15 : tF "FlashVault$Tree" 15 9 1 RC9 FC9 6 tC9 := ⟨rfl, by decide, rfl, iC9, kC9, nC9, w_1_136⟩
theorem d_Tree_parentOf_12 : decode b_Tree_parentOf 12 = .ok (.iload_n 1, 1) := by decide +kernel
theorem d_Tree_parentOf_13 : decode b_Tree_parentOf 13 = .ok (.iaload, 1) := by decide +kernel
theorem d_Tree_parentOf_14 : decode b_Tree_parentOf 14 = .ok (.goto 4, 3) := by decide +kernel
abbrev b_Tree_sizeOf : ByteArray := prog_11_method_8_code
def y_Tree_sizeOf : MethodName := ⟨"FlashVault$Tree", "sizeOf", "(I)I"⟩
theorem d_Tree_sizeOf_0 : decode b_Tree_sizeOf 0 = .ok (.aload_n 0, 1) := by decide +kernel
theorem d_Tree_sizeOf_1 : decode b_Tree_sizeOf 1 = .ok (.iload_n 1, 1) := by decide +kernel
theorem d_Tree_sizeOf_2 : decode b_Tree_sizeOf 2 = .ok (.invokevirtual 38, 3) := by decide +kernel
theorem d_Tree_sizeOf_5 : decode b_Tree_sizeOf 5 = .ok (.ifCond .eq 12, 3) := by decide +kernel
theorem d_Tree_sizeOf_17 : decode b_Tree_sizeOf 17 = .ok (.iconst 0, 1) := by decide +kernel
theorem d_Tree_sizeOf_18 : decode b_Tree_sizeOf 18 = .ok (.ireturn, 1) := by decide +kernel
theorem d_Tree_sizeOf_8 : decode b_Tree_sizeOf 8 = .ok (.aload_n 0, 1) := by decide +kernel
theorem d_Tree_sizeOf_9 : decode b_Tree_sizeOf 9 = .ok (.getfield 18, 3) := by decide +kernel
theorem w_1_137 : (Cond.fieldLink "FlashVault$Tree" (18 : Nat) "FlashVault$Tree" "sizes" "[I") ∈ gW := gW_1 137 rfl rfl
theorem F_Tree_18 : tF "FlashVault$Tree" 18 9 2 RC9 FC9 6 tC9 := ⟨rfl, by decide, rfl, iC9, kC9, nC9, w_1_137⟩
theorem d_Tree_sizeOf_12 : decode b_Tree_sizeOf 12 = .ok (.iload_n 1, 1) := by decide +kernel
theorem d_Tree_sizeOf_13 : decode b_Tree_sizeOf 13 = .ok (.iaload, 1) := by decide +kernel
theorem d_Tree_sizeOf_14 : decode b_Tree_sizeOf 14 = .ok (.goto 4, 3) := by decide +kernel
abbrev b_Tree_nameLengthOf : ByteArray := prog_11_method_9_code
def y_Tree_nameLengthOf : MethodName := ⟨"FlashVault$Tree", "nameLengthOf", "(I)I"⟩
theorem d_Tree_nameLengthOf_0 : decode b_Tree_nameLengthOf 0 = .ok (.aload_n 0, 1) := by decide +kernel
theorem d_Tree_nameLengthOf_1 : decode b_Tree_nameLengthOf 1 = .ok (.iload_n 1, 1) := by decide +kernel
theorem d_Tree_nameLengthOf_2 : decode b_Tree_nameLengthOf 2 = .ok (.invokevirtual 38, 3) := by decide +kernel
theorem d_Tree_nameLengthOf_5 : decode b_Tree_nameLengthOf 5 = .ok (.ifCond .eq 12, 3) := by decide +kernel
theorem d_Tree_nameLengthOf_17 : decode b_Tree_nameLengthOf 17 = .ok (.iconst 0, 1) := by decide +kernel
theorem d_Tree_nameLengthOf_18 : decode b_Tree_nameLengthOf 18 = .ok (.ireturn, 1) := by decide +kernel
theorem d_Tree_nameLengthOf_8 : decode b_Tree_nameLengthOf 8 = .ok (.aload_n 0, 1) := by decide +kernel
theorem d_Tree_nameLengthOf_9 : decode b_Tree_nameLengthOf 9 = .ok (.getfield 21, 3) := by decide +kernel
theorem w_1_138 : (Cond.fieldLink "FlashVault$Tree" (21 : Nat) "FlashVault$Tree" "nameLengths" "[I") ∈ gW := gW_1 138 rfl rfl
theorem F_Tree_21 : tF "FlashVault$Tree" 21 9 3 RC9 FC9 6 tC9 := ⟨rfl, by decide, rfl, iC9, kC9, nC9, w_1_138⟩
theorem d_Tree_nameLengthOf_12 : decode b_Tree_nameLengthOf 12 = .ok (.iload_n 1, 1) := by decide +kernel
theorem d_Tree_nameLengthOf_13 : decode b_Tree_nameLengthOf 13 = .ok (.iaload, 1) := by decide +kernel
theorem d_Tree_nameLengthOf_14 : decode b_Tree_nameLengthOf 14 = .ok (.goto 4, 3) := by decide +kernel
abbrev b_Tree_isFile : ByteArray := prog_11_method_5_code
def y_Tree_isFile : MethodName := ⟨"FlashVault$Tree", "isFile", "(I)Z"⟩
theorem d_Tree_isFile_0 : decode b_Tree_isFile 0 = .ok (.aload_n 0, 1) := by decide +kernel
theorem d_Tree_isFile_1 : decode b_Tree_isFile 1 = .ok (.iload_n 1, 1) := by decide +kernel
theorem d_Tree_isFile_2 : decode b_Tree_isFile 2 = .ok (.invokevirtual 42, 3) := by decide +kernel
theorem w_8_92 : (Cond.methodLink "FlashVault$Tree" (42 : Nat) ({ cls := "FlashVault$Tree", name := "kindOf", desc := "(I)I" } : MethodName)) ∈ gW := gW_8 92 rfl rfl
theorem w_8_95 : (Cond.code ({ cls := "FlashVault$Tree", name := "kindOf", desc := "(I)I" } : MethodName) prog_11_method_4_code (2 : Nat) (Option.some FieldType.int)) ∈ gW := gW_8 95 rfl rfl
theorem w_8_94 : (Cond.selects "FlashVault$Tree" ({ cls := "FlashVault$Tree", name := "kindOf", desc := "(I)I" } : MethodName) ({ cls := "FlashVault$Tree", name := "kindOf", desc := "(I)I" } : MethodName)) ∈ gW := gW_8 94 rfl rfl
theorem w_8_93 : (Cond.instanceMethod ({ cls := "FlashVault$Tree", name := "kindOf", desc := "(I)I" } : MethodName)) ∈ gW := gW_8 93 rfl rfl
theorem d_Tree_isFile_5 : decode b_Tree_isFile 5 = .ok (.iconst 1, 1) := by decide +kernel
theorem d_Tree_isFile_6 : decode b_Tree_isFile 6 = .ok (.if_icmp .ne 7, 3) := by decide +kernel
theorem d_Tree_isFile_13 : decode b_Tree_isFile 13 = .ok (.iconst 0, 1) := by decide +kernel
theorem d_Tree_isFile_14 : decode b_Tree_isFile 14 = .ok (.ireturn, 1) := by decide +kernel
theorem d_Tree_isFile_9 : decode b_Tree_isFile 9 = .ok (.iconst 1, 1) := by decide +kernel
theorem d_Tree_isFile_10 : decode b_Tree_isFile 10 = .ok (.goto 4, 3) := by decide +kernel
abbrev b_Tree_isDirectory : ByteArray := prog_11_method_6_code
def y_Tree_isDirectory : MethodName := ⟨"FlashVault$Tree", "isDirectory", "(I)Z"⟩
theorem d_Tree_isDirectory_0 : decode b_Tree_isDirectory 0 = .ok (.aload_n 0, 1) := by decide +kernel
theorem d_Tree_isDirectory_1 : decode b_Tree_isDirectory 1 = .ok (.iload_n 1, 1) := by decide +kernel
theorem d_Tree_isDirectory_2 : decode b_Tree_isDirectory 2 = .ok (.invokevirtual 42, 3) := by decide +kernel
theorem d_Tree_isDirectory_5 : decode b_Tree_isDirectory 5 = .ok (.iconst 2, 1) := by decide +kernel
theorem d_Tree_isDirectory_6 : decode b_Tree_isDirectory 6 = .ok (.if_icmp .ne 7, 3) := by decide +kernel
theorem d_Tree_isDirectory_13 : decode b_Tree_isDirectory 13 = .ok (.iconst 0, 1) := by decide +kernel
theorem d_Tree_isDirectory_14 : decode b_Tree_isDirectory 14 = .ok (.ireturn, 1) := by decide +kernel
theorem d_Tree_isDirectory_9 : decode b_Tree_isDirectory 9 = .ok (.iconst 1, 1) := by decide +kernel
theorem d_Tree_isDirectory_10 : decode b_Tree_isDirectory 10 = .ok (.goto 4, 3) := by decide +kernel
abbrev b_Tree_setSize : ByteArray := prog_11_method_10_code
def y_Tree_setSize : MethodName := ⟨"FlashVault$Tree", "setSize", "(II)V"⟩
theorem d_Tree_setSize_0 : decode b_Tree_setSize 0 = .ok (.aload_n 0, 1) := by decide +kernel
theorem d_Tree_setSize_1 : decode b_Tree_setSize 1 = .ok (.iload_n 1, 1) := by decide +kernel
theorem d_Tree_setSize_2 : decode b_Tree_setSize 2 = .ok (.invokevirtual 38, 3) := by decide +kernel
theorem d_Tree_setSize_5 : decode b_Tree_setSize 5 = .ok (.ifCond .eq 10, 3) := by decide +kernel
theorem d_Tree_setSize_15 : decode b_Tree_setSize 15 = .ok (.return_, 1) := by decide +kernel
theorem d_Tree_setSize_8 : decode b_Tree_setSize 8 = .ok (.aload_n 0, 1) := by decide +kernel
theorem d_Tree_setSize_9 : decode b_Tree_setSize 9 = .ok (.getfield 18, 3) := by decide +kernel
theorem d_Tree_setSize_12 : decode b_Tree_setSize 12 = .ok (.iload_n 1, 1) := by decide +kernel
theorem d_Tree_setSize_13 : decode b_Tree_setSize 13 = .ok (.iload_n 2, 1) := by decide +kernel
theorem d_Tree_setSize_14 : decode b_Tree_setSize 14 = .ok (.iastore, 1) := by decide +kernel
abbrev b_Tree_unset : ByteArray := prog_11_method_12_code
def y_Tree_unset : MethodName := ⟨"FlashVault$Tree", "unset", "(I)V"⟩
theorem d_Tree_unset_0 : decode b_Tree_unset 0 = .ok (.iload_n 1, 1) := by decide +kernel
theorem d_Tree_unset_1 : decode b_Tree_unset 1 = .ok (.iconst 1, 1) := by decide +kernel
theorem d_Tree_unset_2 : decode b_Tree_unset 2 = .ok (.if_icmp .lt 36, 3) := by decide +kernel
theorem d_Tree_unset_38 : decode b_Tree_unset 38 = .ok (.return_, 1) := by decide +kernel
theorem d_Tree_unset_5 : decode b_Tree_unset 5 = .ok (.iload_n 1, 1) := by decide +kernel
theorem d_Tree_unset_6 : decode b_Tree_unset 6 = .ok (.sipush 200, 3) := by decide +kernel
theorem d_Tree_unset_9 : decode b_Tree_unset 9 = .ok (.if_icmp .gt 29, 3) := by decide +kernel
theorem d_Tree_unset_12 : decode b_Tree_unset 12 = .ok (.aload_n 0, 1) := by decide +kernel
theorem d_Tree_unset_13 : decode b_Tree_unset 13 = .ok (.getfield 9, 3) := by decide +kernel
theorem d_Tree_unset_16 : decode b_Tree_unset 16 = .ok (.iload_n 1, 1) := by decide +kernel
theorem d_Tree_unset_17 : decode b_Tree_unset 17 = .ok (.iaload, 1) := by decide +kernel
theorem d_Tree_unset_18 : decode b_Tree_unset 18 = .ok (.ifCond .eq 20, 3) := by decide +kernel
theorem d_Tree_unset_21 : decode b_Tree_unset 21 = .ok (.aload_n 0, 1) := by decide +kernel
theorem d_Tree_unset_22 : decode b_Tree_unset 22 = .ok (.getfield 9, 3) := by decide +kernel
theorem d_Tree_unset_25 : decode b_Tree_unset 25 = .ok (.iload_n 1, 1) := by decide +kernel
theorem d_Tree_unset_26 : decode b_Tree_unset 26 = .ok (.iconst 0, 1) := by decide +kernel
theorem d_Tree_unset_27 : decode b_Tree_unset 27 = .ok (.iastore, 1) := by decide +kernel
theorem d_Tree_unset_28 : decode b_Tree_unset 28 = .ok (.aload_n 0, 1) := by decide +kernel
theorem d_Tree_unset_29 : decode b_Tree_unset 29 = .ok (.dup, 1) := by decide +kernel
theorem d_Tree_unset_30 : decode b_Tree_unset 30 = .ok (.getfield 28, 3) := by decide +kernel
theorem w_1_141 : (Cond.fieldLink "FlashVault$Tree" (28 : Nat) "FlashVault$Tree" "nodes" "I") ∈ gW := gW_1 141 rfl rfl
theorem F_Tree_28 : tF "FlashVault$Tree" 28 9 5 RC9 FC9 6 tC9 := ⟨rfl, by decide, rfl, iC9, kC9, nC9, w_1_141⟩
theorem d_Tree_unset_33 : decode b_Tree_unset 33 = .ok (.iconst 1, 1) := by decide +kernel
theorem d_Tree_unset_34 : decode b_Tree_unset 34 = .ok (.isub, 1) := by decide +kernel
theorem d_Tree_unset_35 : decode b_Tree_unset 35 = .ok (.putfield 28, 3) := by decide +kernel
abbrev b_Tree_isIn : ByteArray := prog_11_method_14_code
def y_Tree_isIn : MethodName := ⟨"FlashVault$Tree", "isIn", "(II)Z"⟩
theorem d_Tree_isIn_0 : decode b_Tree_isIn 0 = .ok (.iload_n 1, 1) := by decide +kernel
theorem d_Tree_isIn_1 : decode b_Tree_isIn 1 = .ok (.ifCond .le 26, 3) := by decide +kernel
theorem d_Tree_isIn_27 : decode b_Tree_isIn 27 = .ok (.iconst 0, 1) := by decide +kernel
theorem d_Tree_isIn_28 : decode b_Tree_isIn 28 = .ok (.ireturn, 1) := by decide +kernel
theorem d_Tree_isIn_4 : decode b_Tree_isIn 4 = .ok (.aload_n 0, 1) := by decide +kernel
theorem d_Tree_isIn_5 : decode b_Tree_isIn 5 = .ok (.getfield 9, 3) := by decide +kernel
theorem d_Tree_isIn_8 : decode b_Tree_isIn 8 = .ok (.iload_n 1, 1) := by decide +kernel
theorem d_Tree_isIn_9 : decode b_Tree_isIn 9 = .ok (.iaload, 1) := by decide +kernel
theorem d_Tree_isIn_10 : decode b_Tree_isIn 10 = .ok (.ifCond .eq 17, 3) := by decide +kernel
theorem d_Tree_isIn_13 : decode b_Tree_isIn 13 = .ok (.aload_n 0, 1) := by decide +kernel
theorem d_Tree_isIn_14 : decode b_Tree_isIn 14 = .ok (.getfield 15, 3) := by decide +kernel
theorem d_Tree_isIn_17 : decode b_Tree_isIn 17 = .ok (.iload_n 1, 1) := by decide +kernel
theorem d_Tree_isIn_18 : decode b_Tree_isIn 18 = .ok (.iaload, 1) := by decide +kernel
theorem d_Tree_isIn_19 : decode b_Tree_isIn 19 = .ok (.iload_n 2, 1) := by decide +kernel
theorem d_Tree_isIn_20 : decode b_Tree_isIn 20 = .ok (.if_icmp .ne 7, 3) := by decide +kernel
theorem d_Tree_isIn_23 : decode b_Tree_isIn 23 = .ok (.iconst 1, 1) := by decide +kernel
theorem d_Tree_isIn_24 : decode b_Tree_isIn 24 = .ok (.goto 4, 3) := by decide +kernel
set_option maxHeartbeats 4000000 in
set_option maxRecDepth 100000 in
/-- Batch.add, where there is room -/
theorem c_Batch_add {l : Launch} {D : va_G} {kd : Nat → ClassId} {z : Nat} {S : tS} {r d s kl ln pc : Nat} {us : Int32} {q cg : Nat} {sz n e : Int32} {fd fs fk fl g : Nat → Int32} (m_r : r ∈ S.1) (f_r : S.2 r = .inr (0, [.ref d, .ref s, .ref kl, .ref ln, .ref pc, .int sz, .int us])) (m_d : d ∈ S.1) (f_d : S.2 d = .inl (kd 1, 4100, .inl fd)) (m_s : s ∈ S.1) (f_s : S.2 s = .inl (kd 0, 40, .inl fs)) (m_kl : kl ∈ S.1) (f_kl : S.2 kl = .inl (kd 0, 40, .inl fk)) (m_ln : ln ∈ S.1) (f_ln : S.2 ln = .inl (kd 0, 40, .inl fl)) (m_q : q ∈ S.1) (f_q : S.2 q = .inl (kd 1, cg, .inl g)) (n_d_s : d ≠ s) (n_d_kl : d ≠ kl) (n_d_ln : d ≠ ln) (n_d_q : d ≠ q) (n_s_kl : s ≠ kl) (n_s_ln : s ≠ ln) (n_s_q : s ≠ q) (n_kl_ln : kl ≠ ln) (n_kl_q : kl ≠ q) (n_ln_q : ln ≠ q) (h40 : ¬ 40 ≤ sz) (hs0 : ¬ sz < 0) (hroom : (n + (if e < 0 then 0 else e)) ≤ ((nI (4100)) - us)) (hcg : cg < 2 ^ 31) (hfit : sb_Fit g) : tM l y_Batch_add b_Batch_add 4 (some FieldType.int) [] { frames := 2, locals := 90 } D (tyl kd) z [.ref r, .ref q, .int n, .int e] S (fun o9 T9 => T9 = tset (tset (tset (tset (tset S d (.inl (kd 1, 4100, .inl (if ¬ n ≤ 0 ∧ ¬ (0 : Int32) < 0 ∧ ¬ us < 0 ∧ ¬ (nI cg - n) < 0 ∧ ¬ (nI 4100 - n) < us then va_cpy g fd (0 : Int32).toNatClampNeg us.toNatClampNeg n.toNatClampNeg else fd)))) s (.inl (kd 0, 40, .inl (upd fs sz.toNatClampNeg us)))) kl (.inl (kd 0, 40, .inl (upd fk sz.toNatClampNeg n)))) ln (.inl (kd 0, 40, .inl (upd fl sz.toNatClampNeg e)))) r (.inr (0, [.ref d, .ref s, .ref kl, .ref ln, .ref pc, .int (sz + 1), .int (us + (n + (if e < 0 then 0 else e)))])) ∧ o9 = .inl (some (.int ((us + (n + (if e < 0 then 0 else e))) - (if e < 0 then 0 else e))))) := by
  refine tM.of (own := "FlashVault$Batch") (ini := false) (by decide) rfl (fun h => by first | rfl | cases h) (Nat.le_of_ble_eq_true rfl) (lv := [(0, .ref r), (1, .ref q), (2, .int n), (3, .int e)]) rfl ?_
  refine tt_aload_n d_Batch_add_0 rfl 0 rfl ?_
  refine tt_get F_Batch_28 d_Batch_add_1 m_r f_r rfl ?_
  refine tt_bipush (v := 40) d_Batch_add_4 (by decide) ?_
  refine tt_icmp_ge (t := 29) d_Batch_add_6 (by decide) (fun hc1 => ?_) (fun hc1 => ?_)
  · skip
    exact absurd hc1 h40
  · skip
    refine tt_iload_n d_Batch_add_9 rfl 2 rfl ?_
    refine tt_iload_n d_Batch_add_10 rfl 3 rfl ?_
    refine tt_iconst (v := 0) d_Batch_add_11 (by decide) ?_
    refine tt_mmax w_4_82 w_1_49 w_1_3 w_1_50 ⟨Nat.le_of_ble_eq_true rfl, Nat.le_of_ble_eq_true rfl, Nat.le_of_ble_eq_true rfl, Nat.le_of_ble_eq_true rfl⟩ d_Batch_add_12 ?_
    refine tt_iadd d_Batch_add_15 ?_
    refine tt_aload_n d_Batch_add_16 rfl 0 rfl ?_
    refine tt_get F_Batch_9 d_Batch_add_17 m_r f_r rfl ?_
    refine tt_alen (v := nI (4100)) 1 d_Batch_add_20 rfl m_d f_d rfl ?_
    refine tt_aload_n d_Batch_add_21 rfl 0 rfl ?_
    refine tt_get F_Batch_32 d_Batch_add_22 m_r f_r rfl ?_
    refine tt_isub d_Batch_add_25 ?_
    refine tt_icmp_le (t := 31) d_Batch_add_26 (by decide) (fun hc2 => ?_) (fun hc2 => ?_)
    · skip
      refine tt_aload_n d_Batch_add_31 rfl 1 rfl ?_
      refine tt_iconst (v := 0) d_Batch_add_32 (by decide) ?_
      refine tt_aload_n d_Batch_add_33 rfl 0 rfl ?_
      refine tt_get F_Batch_9 d_Batch_add_34 m_r f_r rfl ?_
      refine tt_aload_n d_Batch_add_37 rfl 0 rfl ?_
      refine tt_get F_Batch_32 d_Batch_add_38 m_r f_r rfl ?_
      refine tt_iload_n d_Batch_add_41 rfl 2 rfl ?_
      refine tt_callS (bytes := b_Row_copy) (nL' := 5) (ret' := none) (hh' := []) (As := [.ref q, .int 0, .ref d, .int us, .int n]) w_4_104 w_4_53 w_1_2 w_4_54 ⟨by decide, by decide, rfl⟩ (c_Row_copyU m_q f_q m_d f_d hcg (by decide) hfit) ⟨Nat.le_of_ble_eq_true rfl, Nat.le_of_ble_eq_true rfl, Nat.le_of_ble_eq_true rfl, Nat.le_of_ble_eq_true rfl⟩ (Nat.le_of_ble_eq_true rfl) d_Batch_add_42 rfl (fun v9 S3 hq => ?_) (fun k9 S9 hq => by cases hq.2)
      obtain ⟨hS3, ho9⟩ := hq
      cases ho9
      have m4 : r ∈ S3.1 := by rw [hS3]; exact m_r
      have f5 : S3.2 r = .inr (0, [.ref d, .ref s, .ref kl, .ref ln, .ref pc, .int sz, .int us]) := by rw [hS3]; exact (va_up_ne _ _ (fun h => by have h9 := f_r; rw [h, f_d] at h9; cases h9)).trans (f_r)
      have m6 : d ∈ S3.1 := by rw [hS3]; exact m_d
      have f7 : S3.2 d = .inl (kd 1, 4100, .inl (if ¬ n ≤ 0 ∧ ¬ (0 : Int32) < 0 ∧ ¬ us < 0 ∧ ¬ (nI cg - n) < 0 ∧ ¬ (nI 4100 - n) < us then va_cpy g fd (0 : Int32).toNatClampNeg us.toNatClampNeg n.toNatClampNeg else fd)) := by rw [hS3]; exact va_up_self _ _ _
      have m8 : s ∈ S3.1 := by rw [hS3]; exact m_s
      have f9 : S3.2 s = .inl (kd 0, 40, .inl fs) := by rw [hS3]; exact (va_up_ne _ _ (Ne.symm n_d_s)).trans (f_s)
      have m10 : kl ∈ S3.1 := by rw [hS3]; exact m_kl
      have f11 : S3.2 kl = .inl (kd 0, 40, .inl fk) := by rw [hS3]; exact (va_up_ne _ _ (Ne.symm n_d_kl)).trans (f_kl)
      have m12 : ln ∈ S3.1 := by rw [hS3]; exact m_ln
      have f13 : S3.2 ln = .inl (kd 0, 40, .inl fl) := by rw [hS3]; exact (va_up_ne _ _ (Ne.symm n_d_ln)).trans (f_ln)
      have m14 : q ∈ S3.1 := by rw [hS3]; exact m_q
      have f15 : S3.2 q = .inl (kd 1, cg, .inl g) := by rw [hS3]; exact (va_up_ne _ _ (Ne.symm n_d_q)).trans (f_q)
      refine tt_aload_n d_Batch_add_45 rfl 0 rfl ?_
      refine tt_get F_Batch_15 d_Batch_add_46 m4 f5 rfl ?_
      refine tt_aload_n d_Batch_add_49 rfl 0 rfl ?_
      refine tt_get F_Batch_28 d_Batch_add_50 m4 f5 rfl ?_
      refine tt_aload_n d_Batch_add_53 rfl 0 rfl ?_
      refine tt_get F_Batch_32 d_Batch_add_54 m4 f5 rfl ?_
      refine tt_iast 0 d_Batch_add_57 rfl m8 f9 (vi_of hs0 h40 (by decide)) ?_
      obtain ⟨S16, hS16⟩ : ∃ x9, x9 = tset S3 s (.inl (kd 0, 40, .inl (upd fs (sz).toNatClampNeg (us)))) := ⟨_, rfl⟩
      refine tt_S hS16 ?_
      have m17 : r ∈ S16.1 := by rw [hS16]; exact m4
      have f18 : S16.2 r = .inr (0, [.ref d, .ref s, .ref kl, .ref ln, .ref pc, .int sz, .int us]) := by rw [hS16]; exact (va_up_ne _ _ (fun h => by have h9 := f_r; rw [h, f_s] at h9; cases h9)).trans f5
      have m19 : d ∈ S16.1 := by rw [hS16]; exact m6
      have f20 : S16.2 d = .inl (kd 1, 4100, .inl (if ¬ n ≤ 0 ∧ ¬ (0 : Int32) < 0 ∧ ¬ us < 0 ∧ ¬ (nI cg - n) < 0 ∧ ¬ (nI 4100 - n) < us then va_cpy g fd (0 : Int32).toNatClampNeg us.toNatClampNeg n.toNatClampNeg else fd)) := by rw [hS16]; exact (va_up_ne _ _ n_d_s).trans f7
      have m21 : s ∈ S16.1 := by rw [hS16]; exact m8
      have f22 : S16.2 s = .inl (kd 0, 40, .inl (upd fs (sz).toNatClampNeg (us))) := by rw [hS16]; exact va_up_self _ _ _
      have m23 : kl ∈ S16.1 := by rw [hS16]; exact m10
      have f24 : S16.2 kl = .inl (kd 0, 40, .inl fk) := by rw [hS16]; exact (va_up_ne _ _ (Ne.symm n_s_kl)).trans f11
      have m25 : ln ∈ S16.1 := by rw [hS16]; exact m12
      have f26 : S16.2 ln = .inl (kd 0, 40, .inl fl) := by rw [hS16]; exact (va_up_ne _ _ (Ne.symm n_s_ln)).trans f13
      have m27 : q ∈ S16.1 := by rw [hS16]; exact m14
      have f28 : S16.2 q = .inl (kd 1, cg, .inl g) := by rw [hS16]; exact (va_up_ne _ _ (Ne.symm n_s_q)).trans f15
      refine tt_aload_n d_Batch_add_58 rfl 0 rfl ?_
      refine tt_get F_Batch_19 d_Batch_add_59 m17 f18 rfl ?_
      refine tt_aload_n d_Batch_add_62 rfl 0 rfl ?_
      refine tt_get F_Batch_28 d_Batch_add_63 m17 f18 rfl ?_
      refine tt_iload_n d_Batch_add_66 rfl 2 rfl ?_
      refine tt_iast 0 d_Batch_add_67 rfl m23 f24 (vi_of hs0 h40 (by decide)) ?_
      obtain ⟨S29, hS29⟩ : ∃ x9, x9 = tset S16 kl (.inl (kd 0, 40, .inl (upd fk (sz).toNatClampNeg (n)))) := ⟨_, rfl⟩
      refine tt_S hS29 ?_
      have m30 : r ∈ S29.1 := by rw [hS29]; exact m17
      have f31 : S29.2 r = .inr (0, [.ref d, .ref s, .ref kl, .ref ln, .ref pc, .int sz, .int us]) := by rw [hS29]; exact (va_up_ne _ _ (fun h => by have h9 := f_r; rw [h, f_kl] at h9; cases h9)).trans f18
      have m32 : d ∈ S29.1 := by rw [hS29]; exact m19
      have f33 : S29.2 d = .inl (kd 1, 4100, .inl (if ¬ n ≤ 0 ∧ ¬ (0 : Int32) < 0 ∧ ¬ us < 0 ∧ ¬ (nI cg - n) < 0 ∧ ¬ (nI 4100 - n) < us then va_cpy g fd (0 : Int32).toNatClampNeg us.toNatClampNeg n.toNatClampNeg else fd)) := by rw [hS29]; exact (va_up_ne _ _ n_d_kl).trans f20
      have m34 : s ∈ S29.1 := by rw [hS29]; exact m21
      have f35 : S29.2 s = .inl (kd 0, 40, .inl (upd fs (sz).toNatClampNeg (us))) := by rw [hS29]; exact (va_up_ne _ _ n_s_kl).trans f22
      have m36 : kl ∈ S29.1 := by rw [hS29]; exact m23
      have f37 : S29.2 kl = .inl (kd 0, 40, .inl (upd fk (sz).toNatClampNeg (n))) := by rw [hS29]; exact va_up_self _ _ _
      have m38 : ln ∈ S29.1 := by rw [hS29]; exact m25
      have f39 : S29.2 ln = .inl (kd 0, 40, .inl fl) := by rw [hS29]; exact (va_up_ne _ _ (Ne.symm n_kl_ln)).trans f26
      have m40 : q ∈ S29.1 := by rw [hS29]; exact m27
      have f41 : S29.2 q = .inl (kd 1, cg, .inl g) := by rw [hS29]; exact (va_up_ne _ _ (Ne.symm n_kl_q)).trans f28
      refine tt_aload_n d_Batch_add_68 rfl 0 rfl ?_
      refine tt_get F_Batch_22 d_Batch_add_69 m30 f31 rfl ?_
      refine tt_aload_n d_Batch_add_72 rfl 0 rfl ?_
      refine tt_get F_Batch_28 d_Batch_add_73 m30 f31 rfl ?_
      refine tt_iload_n d_Batch_add_76 rfl 3 rfl ?_
      refine tt_iast 0 d_Batch_add_77 rfl m38 f39 (vi_of hs0 h40 (by decide)) ?_
      obtain ⟨S42, hS42⟩ : ∃ x9, x9 = tset S29 ln (.inl (kd 0, 40, .inl (upd fl (sz).toNatClampNeg (e)))) := ⟨_, rfl⟩
      refine tt_S hS42 ?_
      have m43 : r ∈ S42.1 := by rw [hS42]; exact m30
      have f44 : S42.2 r = .inr (0, [.ref d, .ref s, .ref kl, .ref ln, .ref pc, .int sz, .int us]) := by rw [hS42]; exact (va_up_ne _ _ (fun h => by have h9 := f_r; rw [h, f_ln] at h9; cases h9)).trans f31
      have m45 : d ∈ S42.1 := by rw [hS42]; exact m32
      have f46 : S42.2 d = .inl (kd 1, 4100, .inl (if ¬ n ≤ 0 ∧ ¬ (0 : Int32) < 0 ∧ ¬ us < 0 ∧ ¬ (nI cg - n) < 0 ∧ ¬ (nI 4100 - n) < us then va_cpy g fd (0 : Int32).toNatClampNeg us.toNatClampNeg n.toNatClampNeg else fd)) := by rw [hS42]; exact (va_up_ne _ _ n_d_ln).trans f33
      have m47 : s ∈ S42.1 := by rw [hS42]; exact m34
      have f48 : S42.2 s = .inl (kd 0, 40, .inl (upd fs (sz).toNatClampNeg (us))) := by rw [hS42]; exact (va_up_ne _ _ n_s_ln).trans f35
      have m49 : kl ∈ S42.1 := by rw [hS42]; exact m36
      have f50 : S42.2 kl = .inl (kd 0, 40, .inl (upd fk (sz).toNatClampNeg (n))) := by rw [hS42]; exact (va_up_ne _ _ n_kl_ln).trans f37
      have m51 : ln ∈ S42.1 := by rw [hS42]; exact m38
      have f52 : S42.2 ln = .inl (kd 0, 40, .inl (upd fl (sz).toNatClampNeg (e))) := by rw [hS42]; exact va_up_self _ _ _
      have m53 : q ∈ S42.1 := by rw [hS42]; exact m40
      have f54 : S42.2 q = .inl (kd 1, cg, .inl g) := by rw [hS42]; exact (va_up_ne _ _ (Ne.symm n_ln_q)).trans f41
      refine tt_aload_n d_Batch_add_78 rfl 0 rfl ?_
      refine tt_dup d_Batch_add_79 rfl ?_
      refine tt_get F_Batch_28 d_Batch_add_80 m43 f44 rfl ?_
      refine tt_iconst (v := 1) d_Batch_add_83 (by decide) ?_
      refine tt_iadd d_Batch_add_84 ?_
      refine tt_put F_Batch_28 d_Batch_add_85 m43 f44 (Or.inl rfl) (by first | rfl | decide | exact pk_nz _) (by first | rfl | decide) (by simp) ?_
      obtain ⟨S55, hS55⟩ : ∃ x9, x9 = tset S42 r (.inr (0, [.ref d, .ref s, .ref kl, .ref ln, .ref pc, .int ((sz + 1)), .int us])) := ⟨_, rfl⟩
      refine tt_S hS55 ?_
      have m56 : r ∈ S55.1 := by rw [hS55]; exact m43
      have f57 : S55.2 r = .inr (0, [.ref d, .ref s, .ref kl, .ref ln, .ref pc, .int ((sz + 1)), .int us]) := by rw [hS55]; exact va_up_self _ _ _
      have m58 : d ∈ S55.1 := by rw [hS55]; exact m45
      have f59 : S55.2 d = .inl (kd 1, 4100, .inl (if ¬ n ≤ 0 ∧ ¬ (0 : Int32) < 0 ∧ ¬ us < 0 ∧ ¬ (nI cg - n) < 0 ∧ ¬ (nI 4100 - n) < us then va_cpy g fd (0 : Int32).toNatClampNeg us.toNatClampNeg n.toNatClampNeg else fd)) := by rw [hS55]; exact (va_up_ne _ _ (fun h => by have h9 := f_d; rw [h, f_r] at h9; cases h9)).trans f46
      have m60 : s ∈ S55.1 := by rw [hS55]; exact m47
      have f61 : S55.2 s = .inl (kd 0, 40, .inl (upd fs (sz).toNatClampNeg (us))) := by rw [hS55]; exact (va_up_ne _ _ (fun h => by have h9 := f_s; rw [h, f_r] at h9; cases h9)).trans f48
      have m62 : kl ∈ S55.1 := by rw [hS55]; exact m49
      have f63 : S55.2 kl = .inl (kd 0, 40, .inl (upd fk (sz).toNatClampNeg (n))) := by rw [hS55]; exact (va_up_ne _ _ (fun h => by have h9 := f_kl; rw [h, f_r] at h9; cases h9)).trans f50
      have m64 : ln ∈ S55.1 := by rw [hS55]; exact m51
      have f65 : S55.2 ln = .inl (kd 0, 40, .inl (upd fl (sz).toNatClampNeg (e))) := by rw [hS55]; exact (va_up_ne _ _ (fun h => by have h9 := f_ln; rw [h, f_r] at h9; cases h9)).trans f52
      have m66 : q ∈ S55.1 := by rw [hS55]; exact m53
      have f67 : S55.2 q = .inl (kd 1, cg, .inl g) := by rw [hS55]; exact (va_up_ne _ _ (fun h => by have h9 := f_q; rw [h, f_r] at h9; cases h9)).trans f54
      refine tt_aload_n d_Batch_add_88 rfl 0 rfl ?_
      refine tt_dup d_Batch_add_89 rfl ?_
      refine tt_get F_Batch_32 d_Batch_add_90 m56 f57 rfl ?_
      refine tt_iload_n d_Batch_add_93 rfl 2 rfl ?_
      refine tt_iload_n d_Batch_add_94 rfl 3 rfl ?_
      refine tt_iconst (v := 0) d_Batch_add_95 (by decide) ?_
      refine tt_mmax w_4_82 w_1_49 w_1_3 w_1_50 ⟨Nat.le_of_ble_eq_true rfl, Nat.le_of_ble_eq_true rfl, Nat.le_of_ble_eq_true rfl, Nat.le_of_ble_eq_true rfl⟩ d_Batch_add_96 ?_
      refine tt_iadd d_Batch_add_99 ?_
      refine tt_iadd d_Batch_add_100 ?_
      refine tt_put F_Batch_32 d_Batch_add_101 m56 f57 (Or.inl rfl) (by first | rfl | decide | exact pk_nz _) (by first | rfl | decide) (by simp) ?_
      obtain ⟨S68, hS68⟩ : ∃ x9, x9 = tset S55 r (.inr (0, [.ref d, .ref s, .ref kl, .ref ln, .ref pc, .int ((sz + 1)), .int ((us + (n + (if e < 0 then 0 else e))))])) := ⟨_, rfl⟩
      refine tt_S hS68 ?_
      have m69 : r ∈ S68.1 := by rw [hS68]; exact m56
      have f70 : S68.2 r = .inr (0, [.ref d, .ref s, .ref kl, .ref ln, .ref pc, .int ((sz + 1)), .int ((us + (n + (if e < 0 then 0 else e))))]) := by rw [hS68]; exact va_up_self _ _ _
      have m71 : d ∈ S68.1 := by rw [hS68]; exact m58
      have f72 : S68.2 d = .inl (kd 1, 4100, .inl (if ¬ n ≤ 0 ∧ ¬ (0 : Int32) < 0 ∧ ¬ us < 0 ∧ ¬ (nI cg - n) < 0 ∧ ¬ (nI 4100 - n) < us then va_cpy g fd (0 : Int32).toNatClampNeg us.toNatClampNeg n.toNatClampNeg else fd)) := by rw [hS68]; exact (va_up_ne _ _ (fun h => by have h9 := f_d; rw [h, f_r] at h9; cases h9)).trans f59
      have m73 : s ∈ S68.1 := by rw [hS68]; exact m60
      have f74 : S68.2 s = .inl (kd 0, 40, .inl (upd fs (sz).toNatClampNeg (us))) := by rw [hS68]; exact (va_up_ne _ _ (fun h => by have h9 := f_s; rw [h, f_r] at h9; cases h9)).trans f61
      have m75 : kl ∈ S68.1 := by rw [hS68]; exact m62
      have f76 : S68.2 kl = .inl (kd 0, 40, .inl (upd fk (sz).toNatClampNeg (n))) := by rw [hS68]; exact (va_up_ne _ _ (fun h => by have h9 := f_kl; rw [h, f_r] at h9; cases h9)).trans f63
      have m77 : ln ∈ S68.1 := by rw [hS68]; exact m64
      have f78 : S68.2 ln = .inl (kd 0, 40, .inl (upd fl (sz).toNatClampNeg (e))) := by rw [hS68]; exact (va_up_ne _ _ (fun h => by have h9 := f_ln; rw [h, f_r] at h9; cases h9)).trans f65
      have m79 : q ∈ S68.1 := by rw [hS68]; exact m66
      have f80 : S68.2 q = .inl (kd 1, cg, .inl g) := by rw [hS68]; exact (va_up_ne _ _ (fun h => by have h9 := f_q; rw [h, f_r] at h9; cases h9)).trans f67
      refine tt_aload_n d_Batch_add_104 rfl 0 rfl ?_
      refine tt_get F_Batch_32 d_Batch_add_105 m69 f70 rfl ?_
      refine tt_iload_n d_Batch_add_108 rfl 3 rfl ?_
      refine tt_iconst (v := 0) d_Batch_add_109 (by decide) ?_
      refine tt_mmax w_4_82 w_1_49 w_1_3 w_1_50 ⟨Nat.le_of_ble_eq_true rfl, Nat.le_of_ble_eq_true rfl, Nat.le_of_ble_eq_true rfl, Nat.le_of_ble_eq_true rfl⟩ d_Batch_add_110 ?_
      refine tt_isub d_Batch_add_113 ?_
      exact tt_ret rfl (by first | rfl | decide | exact nz_ite _) (Nat.le_of_ble_eq_true rfl) (Nat.le_of_ble_eq_true rfl)  d_Batch_add_114 (by exact ⟨by rw [hS68, hS55, hS42, hS29, hS16, hS3, ts_ts] <;> rfl, rfl⟩)
    · skip
      exact absurd hroom hc2
set_option maxHeartbeats 4000000 in
set_option maxRecDepth 100000 in
/-- Tree.isNumber -/
theorem c_Tree_isNumber {l : Launch} {D : va_G} {kd : Nat → ClassId} {z : Nat} {S : tS} {t a b c d u : Nat} {nn : Int32} {i : Int32} (m_t : t ∈ S.1) (f_t : S.2 t = .inr (9, [.ref a, .ref b, .ref c, .ref d, .ref u, .int nn]))   : tM l y_Tree_isNumber b_Tree_isNumber 2 (some FieldType.boolean) [] {} D (tyl kd) z [.ref t, .int i] S (fun o9 T9 => T9 = S ∧ o9 = .inl (some (.int (isNum i)))) := by
  refine tM.of (own := "FlashVault$Tree") (ini := false) (by decide) rfl (fun h => by first | rfl | cases h) (Nat.le_of_ble_eq_true rfl) (lv := [(0, .ref t), (1, .int i)]) rfl ?_
  refine tt_iload_n d_Tree_isNumber_0 rfl 1 rfl ?_
  refine tt_if_lt (t := 15) d_Tree_isNumber_1 (by decide) (fun hc1 => ?_) (fun hc1 => ?_)
  · skip
    refine tt_iconst (v := 0) d_Tree_isNumber_15 (by decide) ?_
    exact tt_ret rfl (by first | rfl | decide | exact nz_ite _) (Nat.le_of_ble_eq_true rfl) (Nat.le_of_ble_eq_true rfl)  d_Tree_isNumber_16 (by refine ⟨rfl, ?_⟩; unfold isNum; simp [hc1, Int32.not_le.mpr hc1])
  · skip
    refine tt_iload_n d_Tree_isNumber_4 rfl 1 rfl ?_
    refine tt_sipush (v := 200) d_Tree_isNumber_5 (by decide) ?_
    refine tt_icmp_gt (t := 15) d_Tree_isNumber_8 (by decide) (fun hc2 => ?_) (fun hc2 => ?_)
    · skip
      refine tt_iconst (v := 0) d_Tree_isNumber_15 (by decide) ?_
      exact tt_ret rfl (by first | rfl | decide | exact nz_ite _) (Nat.le_of_ble_eq_true rfl) (Nat.le_of_ble_eq_true rfl)  d_Tree_isNumber_16 (by refine ⟨rfl, ?_⟩; unfold isNum; simp [hc1, Int32.not_lt.mp hc1, hc2, Int32.not_le.mpr hc2])
    · skip
      refine tt_iconst (v := 1) d_Tree_isNumber_11 (by decide) ?_
      refine tt_goto (t := 16) d_Tree_isNumber_12 (by decide) ?_
      exact tt_ret rfl (by first | rfl | decide | exact nz_ite _) (Nat.le_of_ble_eq_true rfl) (Nat.le_of_ble_eq_true rfl)  d_Tree_isNumber_16 (by refine ⟨rfl, ?_⟩; unfold isNum; simp [hc1, Int32.not_lt.mp hc1, hc2, Int32.not_lt.mp hc2])
set_option maxHeartbeats 4000000 in
set_option maxRecDepth 100000 in
/-- Tree.kindOf -/
theorem c_Tree_kindOf {l : Launch} {D : va_G} {kd : Nat → ClassId} {z : Nat} {S : tS} {t a b c d u : Nat} {nn : Int32} {i : Int32} {fa : Nat → Int32} (m_t : t ∈ S.1) (f_t : S.2 t = .inr (9, [.ref a, .ref b, .ref c, .ref d, .ref u, .int nn])) (m_a : a ∈ S.1) (f_a : S.2 a = .inl (kd 0, 201, .inl fa))   : tM l y_Tree_kindOf b_Tree_kindOf 2 (some FieldType.int) [] { frames := 1, locals := 21 } D (tyl kd) z [.ref t, .int i] S (fun o9 T9 => T9 = S ∧ o9 = .inl (some (.int (if isNum i = 0 then 0 else fa i.toNatClampNeg)))) := by
  refine tM.of (own := "FlashVault$Tree") (ini := false) (by decide) rfl (fun h => by first | rfl | cases h) (Nat.le_of_ble_eq_true rfl) (lv := [(0, .ref t), (1, .int i)]) rfl ?_
  refine tt_aload_n d_Tree_kindOf_0 rfl 0 rfl ?_
  refine tt_iload_n d_Tree_kindOf_1 rfl 1 rfl ?_
  refine tt_callV (bytes := b_Tree_isNumber) (nL' := 2) (ret' := (some FieldType.boolean)) (hh' := []) (As := [.int i]) w_8_96 w_8_98 (gW_sel 59 rfl rfl) w_1_6 w_8_99 ⟨by decide, by decide, rfl⟩ (c_Tree_isNumber m_t f_t) m_t f_t rfl ⟨Nat.le_of_ble_eq_true rfl, Nat.le_of_ble_eq_true rfl, Nat.le_of_ble_eq_true rfl, Nat.le_of_ble_eq_true rfl⟩ (Nat.le_of_ble_eq_true rfl) d_Tree_kindOf_2 rfl (fun v9 S1 hq => ?_) (fun k9 S9 hq => by cases hq.2)
  obtain ⟨hS1, ho9⟩ := hq
  cases ho9
  refine tt_S hS1.symm ?_
  refine tt_if_eq (t := 17) d_Tree_kindOf_5 (by decide) (fun hc2 => ?_) (fun hc2 => ?_)
  · skip
    refine tt_iconst (v := 0) d_Tree_kindOf_17 (by decide) ?_
    exact tt_ret rfl (by first | rfl | decide | exact nz_ite _) (Nat.le_of_ble_eq_true rfl) (Nat.le_of_ble_eq_true rfl)  d_Tree_kindOf_18 (by refine ⟨?_, ?_⟩ <;> first | rfl | (simp [hc2, vz0, vz1, pk_vb]; done) | (subst_vars; simp [hc2, vz0, vz1, pk_vb]; done) | (subst_vars; rfl) | ((repeat' split) <;> simp_all; done))
  · skip
    refine tt_aload_n d_Tree_kindOf_8 rfl 0 rfl ?_
    refine tt_get F_Tree_9 d_Tree_kindOf_9 m_t f_t rfl ?_
    refine tt_iload_n d_Tree_kindOf_12 rfl 1 rfl ?_
    refine tt_iald 0 d_Tree_kindOf_13 rfl m_a f_a (nm_in (by assumption)) ?_
    refine tt_goto (t := 18) d_Tree_kindOf_14 (by decide) ?_
    exact tt_ret rfl (by first | rfl | decide | exact nz_ite _) (Nat.le_of_ble_eq_true rfl) (Nat.le_of_ble_eq_true rfl)  d_Tree_kindOf_18 (by refine ⟨?_, ?_⟩ <;> first | rfl | (simp [hc2, vz0, vz1, pk_vb]; done) | (subst_vars; simp [hc2, vz0, vz1, pk_vb]; done) | (subst_vars; rfl) | ((repeat' split) <;> simp_all; done))
set_option maxHeartbeats 4000000 in
set_option maxRecDepth 100000 in
/-- Tree.parentOf -/
theorem c_Tree_parentOf {l : Launch} {D : va_G} {kd : Nat → ClassId} {z : Nat} {S : tS} {t a b c d u : Nat} {nn : Int32} {i : Int32} {fb : Nat → Int32} (m_t : t ∈ S.1) (f_t : S.2 t = .inr (9, [.ref a, .ref b, .ref c, .ref d, .ref u, .int nn])) (m_b : b ∈ S.1) (f_b : S.2 b = .inl (kd 0, 201, .inl fb))   : tM l y_Tree_parentOf b_Tree_parentOf 2 (some FieldType.int) [] { frames := 1, locals := 21 } D (tyl kd) z [.ref t, .int i] S (fun o9 T9 => T9 = S ∧ o9 = .inl (some (.int (if isNum i = 0 then 0 else fb i.toNatClampNeg)))) := by
  refine tM.of (own := "FlashVault$Tree") (ini := false) (by decide) rfl (fun h => by first | rfl | cases h) (Nat.le_of_ble_eq_true rfl) (lv := [(0, .ref t), (1, .int i)]) rfl ?_
  refine tt_aload_n d_Tree_parentOf_0 rfl 0 rfl ?_
  refine tt_iload_n d_Tree_parentOf_1 rfl 1 rfl ?_
  refine tt_callV (bytes := b_Tree_isNumber) (nL' := 2) (ret' := (some FieldType.boolean)) (hh' := []) (As := [.int i]) w_8_96 w_8_98 (gW_sel 59 rfl rfl) w_1_6 w_8_99 ⟨by decide, by decide, rfl⟩ (c_Tree_isNumber m_t f_t) m_t f_t rfl ⟨Nat.le_of_ble_eq_true rfl, Nat.le_of_ble_eq_true rfl, Nat.le_of_ble_eq_true rfl, Nat.le_of_ble_eq_true rfl⟩ (Nat.le_of_ble_eq_true rfl) d_Tree_parentOf_2 rfl (fun v9 S1 hq => ?_) (fun k9 S9 hq => by cases hq.2)
  obtain ⟨hS1, ho9⟩ := hq
  cases ho9
  refine tt_S hS1.symm ?_
  refine tt_if_eq (t := 17) d_Tree_parentOf_5 (by decide) (fun hc2 => ?_) (fun hc2 => ?_)
  · skip
    refine tt_iconst (v := 0) d_Tree_parentOf_17 (by decide) ?_
    exact tt_ret rfl (by first | rfl | decide | exact nz_ite _) (Nat.le_of_ble_eq_true rfl) (Nat.le_of_ble_eq_true rfl)  d_Tree_parentOf_18 (by refine ⟨?_, ?_⟩ <;> first | rfl | (simp [hc2, vz0, vz1, pk_vb]; done) | (subst_vars; simp [hc2, vz0, vz1, pk_vb]; done) | (subst_vars; rfl) | ((repeat' split) <;> simp_all; done))
  · skip
    refine tt_aload_n d_Tree_parentOf_8 rfl 0 rfl ?_
    refine tt_get F_Tree_15 d_Tree_parentOf_9 m_t f_t rfl ?_
    refine tt_iload_n d_Tree_parentOf_12 rfl 1 rfl ?_
    refine tt_iald 0 d_Tree_parentOf_13 rfl m_b f_b (nm_in (by assumption)) ?_
    refine tt_goto (t := 18) d_Tree_parentOf_14 (by decide) ?_
    exact tt_ret rfl (by first | rfl | decide | exact nz_ite _) (Nat.le_of_ble_eq_true rfl) (Nat.le_of_ble_eq_true rfl)  d_Tree_parentOf_18 (by refine ⟨?_, ?_⟩ <;> first | rfl | (simp [hc2, vz0, vz1, pk_vb]; done) | (subst_vars; simp [hc2, vz0, vz1, pk_vb]; done) | (subst_vars; rfl) | ((repeat' split) <;> simp_all; done))
set_option maxHeartbeats 4000000 in
set_option maxRecDepth 100000 in
/-- Tree.sizeOf -/
theorem c_Tree_sizeOf {l : Launch} {D : va_G} {kd : Nat → ClassId} {z : Nat} {S : tS} {t a b c d u : Nat} {nn : Int32} {i : Int32} {fc : Nat → Int32} (m_t : t ∈ S.1) (f_t : S.2 t = .inr (9, [.ref a, .ref b, .ref c, .ref d, .ref u, .int nn])) (m_c : c ∈ S.1) (f_c : S.2 c = .inl (kd 0, 201, .inl fc))   : tM l y_Tree_sizeOf b_Tree_sizeOf 2 (some FieldType.int) [] { frames := 1, locals := 21 } D (tyl kd) z [.ref t, .int i] S (fun o9 T9 => T9 = S ∧ o9 = .inl (some (.int (if isNum i = 0 then 0 else fc i.toNatClampNeg)))) := by
  refine tM.of (own := "FlashVault$Tree") (ini := false) (by decide) rfl (fun h => by first | rfl | cases h) (Nat.le_of_ble_eq_true rfl) (lv := [(0, .ref t), (1, .int i)]) rfl ?_
  refine tt_aload_n d_Tree_sizeOf_0 rfl 0 rfl ?_
  refine tt_iload_n d_Tree_sizeOf_1 rfl 1 rfl ?_
  refine tt_callV (bytes := b_Tree_isNumber) (nL' := 2) (ret' := (some FieldType.boolean)) (hh' := []) (As := [.int i]) w_8_96 w_8_98 (gW_sel 59 rfl rfl) w_1_6 w_8_99 ⟨by decide, by decide, rfl⟩ (c_Tree_isNumber m_t f_t) m_t f_t rfl ⟨Nat.le_of_ble_eq_true rfl, Nat.le_of_ble_eq_true rfl, Nat.le_of_ble_eq_true rfl, Nat.le_of_ble_eq_true rfl⟩ (Nat.le_of_ble_eq_true rfl) d_Tree_sizeOf_2 rfl (fun v9 S1 hq => ?_) (fun k9 S9 hq => by cases hq.2)
  obtain ⟨hS1, ho9⟩ := hq
  cases ho9
  refine tt_S hS1.symm ?_
  refine tt_if_eq (t := 17) d_Tree_sizeOf_5 (by decide) (fun hc2 => ?_) (fun hc2 => ?_)
  · skip
    refine tt_iconst (v := 0) d_Tree_sizeOf_17 (by decide) ?_
    exact tt_ret rfl (by first | rfl | decide | exact nz_ite _) (Nat.le_of_ble_eq_true rfl) (Nat.le_of_ble_eq_true rfl)  d_Tree_sizeOf_18 (by refine ⟨?_, ?_⟩ <;> first | rfl | (simp [hc2, vz0, vz1, pk_vb]; done) | (subst_vars; simp [hc2, vz0, vz1, pk_vb]; done) | (subst_vars; rfl) | ((repeat' split) <;> simp_all; done))
  · skip
    refine tt_aload_n d_Tree_sizeOf_8 rfl 0 rfl ?_
    refine tt_get F_Tree_18 d_Tree_sizeOf_9 m_t f_t rfl ?_
    refine tt_iload_n d_Tree_sizeOf_12 rfl 1 rfl ?_
    refine tt_iald 0 d_Tree_sizeOf_13 rfl m_c f_c (nm_in (by assumption)) ?_
    refine tt_goto (t := 18) d_Tree_sizeOf_14 (by decide) ?_
    exact tt_ret rfl (by first | rfl | decide | exact nz_ite _) (Nat.le_of_ble_eq_true rfl) (Nat.le_of_ble_eq_true rfl)  d_Tree_sizeOf_18 (by refine ⟨?_, ?_⟩ <;> first | rfl | (simp [hc2, vz0, vz1, pk_vb]; done) | (subst_vars; simp [hc2, vz0, vz1, pk_vb]; done) | (subst_vars; rfl) | ((repeat' split) <;> simp_all; done))
set_option maxHeartbeats 4000000 in
set_option maxRecDepth 100000 in
/-- Tree.nameLengthOf -/
theorem c_Tree_nameLengthOf {l : Launch} {D : va_G} {kd : Nat → ClassId} {z : Nat} {S : tS} {t a b c d u : Nat} {nn : Int32} {i : Int32} {fdd : Nat → Int32} (m_t : t ∈ S.1) (f_t : S.2 t = .inr (9, [.ref a, .ref b, .ref c, .ref d, .ref u, .int nn])) (m_d : d ∈ S.1) (f_d : S.2 d = .inl (kd 0, 201, .inl fdd))   : tM l y_Tree_nameLengthOf b_Tree_nameLengthOf 2 (some FieldType.int) [] { frames := 1, locals := 21 } D (tyl kd) z [.ref t, .int i] S (fun o9 T9 => T9 = S ∧ o9 = .inl (some (.int (if isNum i = 0 then 0 else fdd i.toNatClampNeg)))) := by
  refine tM.of (own := "FlashVault$Tree") (ini := false) (by decide) rfl (fun h => by first | rfl | cases h) (Nat.le_of_ble_eq_true rfl) (lv := [(0, .ref t), (1, .int i)]) rfl ?_
  refine tt_aload_n d_Tree_nameLengthOf_0 rfl 0 rfl ?_
  refine tt_iload_n d_Tree_nameLengthOf_1 rfl 1 rfl ?_
  refine tt_callV (bytes := b_Tree_isNumber) (nL' := 2) (ret' := (some FieldType.boolean)) (hh' := []) (As := [.int i]) w_8_96 w_8_98 (gW_sel 59 rfl rfl) w_1_6 w_8_99 ⟨by decide, by decide, rfl⟩ (c_Tree_isNumber m_t f_t) m_t f_t rfl ⟨Nat.le_of_ble_eq_true rfl, Nat.le_of_ble_eq_true rfl, Nat.le_of_ble_eq_true rfl, Nat.le_of_ble_eq_true rfl⟩ (Nat.le_of_ble_eq_true rfl) d_Tree_nameLengthOf_2 rfl (fun v9 S1 hq => ?_) (fun k9 S9 hq => by cases hq.2)
  obtain ⟨hS1, ho9⟩ := hq
  cases ho9
  refine tt_S hS1.symm ?_
  refine tt_if_eq (t := 17) d_Tree_nameLengthOf_5 (by decide) (fun hc2 => ?_) (fun hc2 => ?_)
  · skip
    refine tt_iconst (v := 0) d_Tree_nameLengthOf_17 (by decide) ?_
    exact tt_ret rfl (by first | rfl | decide | exact nz_ite _) (Nat.le_of_ble_eq_true rfl) (Nat.le_of_ble_eq_true rfl)  d_Tree_nameLengthOf_18 (by refine ⟨?_, ?_⟩ <;> first | rfl | (simp [hc2, vz0, vz1, pk_vb]; done) | (subst_vars; simp [hc2, vz0, vz1, pk_vb]; done) | (subst_vars; rfl) | ((repeat' split) <;> simp_all; done))
  · skip
    refine tt_aload_n d_Tree_nameLengthOf_8 rfl 0 rfl ?_
    refine tt_get F_Tree_21 d_Tree_nameLengthOf_9 m_t f_t rfl ?_
    refine tt_iload_n d_Tree_nameLengthOf_12 rfl 1 rfl ?_
    refine tt_iald 0 d_Tree_nameLengthOf_13 rfl m_d f_d (nm_in (by assumption)) ?_
    refine tt_goto (t := 18) d_Tree_nameLengthOf_14 (by decide) ?_
    exact tt_ret rfl (by first | rfl | decide | exact nz_ite _) (Nat.le_of_ble_eq_true rfl) (Nat.le_of_ble_eq_true rfl)  d_Tree_nameLengthOf_18 (by refine ⟨?_, ?_⟩ <;> first | rfl | (simp [hc2, vz0, vz1, pk_vb]; done) | (subst_vars; simp [hc2, vz0, vz1, pk_vb]; done) | (subst_vars; rfl) | ((repeat' split) <;> simp_all; done))
set_option maxHeartbeats 4000000 in
set_option maxRecDepth 100000 in
/-- Tree.isFile -/
theorem c_Tree_isFile {l : Launch} {D : va_G} {kd : Nat → ClassId} {z : Nat} {S : tS} {t a b c d u : Nat} {nn : Int32} {i : Int32} {fa : Nat → Int32} (m_t : t ∈ S.1) (f_t : S.2 t = .inr (9, [.ref a, .ref b, .ref c, .ref d, .ref u, .int nn])) (m_a : a ∈ S.1) (f_a : S.2 a = .inl (kd 0, 201, .inl fa))   : tM l y_Tree_isFile b_Tree_isFile 2 (some FieldType.boolean) [] { frames := 2, locals := 42 } D (tyl kd) z [.ref t, .int i] S (fun o9 T9 => T9 = S ∧ o9 = .inl (some (.int (if (if isNum i = 0 then 0 else fa i.toNatClampNeg) = 1 then 1 else 0)))) := by
  refine tM.of (own := "FlashVault$Tree") (ini := false) (by decide) rfl (fun h => by first | rfl | cases h) (Nat.le_of_ble_eq_true rfl) (lv := [(0, .ref t), (1, .int i)]) rfl ?_
  refine tt_aload_n d_Tree_isFile_0 rfl 0 rfl ?_
  refine tt_iload_n d_Tree_isFile_1 rfl 1 rfl ?_
  refine tt_callV (bytes := b_Tree_kindOf) (nL' := 2) (ret' := (some FieldType.int)) (hh' := []) (As := [.int i]) w_8_92 w_8_93 w_8_94 w_1_6 w_8_95 ⟨by decide, by decide, rfl⟩ (c_Tree_kindOf m_t f_t m_a f_a) m_t f_t rfl ⟨Nat.le_of_ble_eq_true rfl, Nat.le_of_ble_eq_true rfl, Nat.le_of_ble_eq_true rfl, Nat.le_of_ble_eq_true rfl⟩ (Nat.le_of_ble_eq_true rfl) d_Tree_isFile_2 rfl (fun v9 S1 hq => ?_) (fun k9 S9 hq => by cases hq.2)
  obtain ⟨hS1, ho9⟩ := hq
  cases ho9
  refine tt_S hS1.symm ?_
  refine tt_iconst (v := 1) d_Tree_isFile_5 (by decide) ?_
  refine tt_icmp_ne (t := 13) d_Tree_isFile_6 (by decide) (fun hc2 => ?_) (fun hc2 => ?_)
  · skip
    refine tt_iconst (v := 0) d_Tree_isFile_13 (by decide) ?_
    exact tt_ret rfl (by first | rfl | decide | exact nz_ite _) (Nat.le_of_ble_eq_true rfl) (Nat.le_of_ble_eq_true rfl)  d_Tree_isFile_14 (by refine ⟨?_, ?_⟩ <;> first | rfl | (simp [hc2, vz0, vz1, pk_vb]; done) | (subst_vars; simp [hc2, vz0, vz1, pk_vb]; done) | (subst_vars; rfl) | ((repeat' split) <;> simp_all; done))
  · skip
    refine tt_iconst (v := 1) d_Tree_isFile_9 (by decide) ?_
    refine tt_goto (t := 14) d_Tree_isFile_10 (by decide) ?_
    exact tt_ret rfl (by first | rfl | decide | exact nz_ite _) (Nat.le_of_ble_eq_true rfl) (Nat.le_of_ble_eq_true rfl)  d_Tree_isFile_14 (by refine ⟨?_, ?_⟩ <;> first | rfl | (simp [hc2, vz0, vz1, pk_vb]; done) | (subst_vars; simp [hc2, vz0, vz1, pk_vb]; done) | (subst_vars; rfl) | ((repeat' split) <;> simp_all; done))
set_option maxHeartbeats 4000000 in
set_option maxRecDepth 100000 in
/-- Tree.isDirectory -/
theorem c_Tree_isDirectory {l : Launch} {D : va_G} {kd : Nat → ClassId} {z : Nat} {S : tS} {t a b c d u : Nat} {nn : Int32} {i : Int32} {fa : Nat → Int32} (m_t : t ∈ S.1) (f_t : S.2 t = .inr (9, [.ref a, .ref b, .ref c, .ref d, .ref u, .int nn])) (m_a : a ∈ S.1) (f_a : S.2 a = .inl (kd 0, 201, .inl fa))   : tM l y_Tree_isDirectory b_Tree_isDirectory 2 (some FieldType.boolean) [] { frames := 2, locals := 42 } D (tyl kd) z [.ref t, .int i] S (fun o9 T9 => T9 = S ∧ o9 = .inl (some (.int (if (if isNum i = 0 then 0 else fa i.toNatClampNeg) = 2 then 1 else 0)))) := by
  refine tM.of (own := "FlashVault$Tree") (ini := false) (by decide) rfl (fun h => by first | rfl | cases h) (Nat.le_of_ble_eq_true rfl) (lv := [(0, .ref t), (1, .int i)]) rfl ?_
  refine tt_aload_n d_Tree_isDirectory_0 rfl 0 rfl ?_
  refine tt_iload_n d_Tree_isDirectory_1 rfl 1 rfl ?_
  refine tt_callV (bytes := b_Tree_kindOf) (nL' := 2) (ret' := (some FieldType.int)) (hh' := []) (As := [.int i]) w_8_92 w_8_93 w_8_94 w_1_6 w_8_95 ⟨by decide, by decide, rfl⟩ (c_Tree_kindOf m_t f_t m_a f_a) m_t f_t rfl ⟨Nat.le_of_ble_eq_true rfl, Nat.le_of_ble_eq_true rfl, Nat.le_of_ble_eq_true rfl, Nat.le_of_ble_eq_true rfl⟩ (Nat.le_of_ble_eq_true rfl) d_Tree_isDirectory_2 rfl (fun v9 S1 hq => ?_) (fun k9 S9 hq => by cases hq.2)
  obtain ⟨hS1, ho9⟩ := hq
  cases ho9
  refine tt_S hS1.symm ?_
  refine tt_iconst (v := 2) d_Tree_isDirectory_5 (by decide) ?_
  refine tt_icmp_ne (t := 13) d_Tree_isDirectory_6 (by decide) (fun hc2 => ?_) (fun hc2 => ?_)
  · skip
    refine tt_iconst (v := 0) d_Tree_isDirectory_13 (by decide) ?_
    exact tt_ret rfl (by first | rfl | decide | exact nz_ite _) (Nat.le_of_ble_eq_true rfl) (Nat.le_of_ble_eq_true rfl)  d_Tree_isDirectory_14 (by refine ⟨?_, ?_⟩ <;> first | rfl | (simp [hc2, vz0, vz1, pk_vb]; done) | (subst_vars; simp [hc2, vz0, vz1, pk_vb]; done) | (subst_vars; rfl) | ((repeat' split) <;> simp_all; done))
  · skip
    refine tt_iconst (v := 1) d_Tree_isDirectory_9 (by decide) ?_
    refine tt_goto (t := 14) d_Tree_isDirectory_10 (by decide) ?_
    exact tt_ret rfl (by first | rfl | decide | exact nz_ite _) (Nat.le_of_ble_eq_true rfl) (Nat.le_of_ble_eq_true rfl)  d_Tree_isDirectory_14 (by refine ⟨?_, ?_⟩ <;> first | rfl | (simp [hc2, vz0, vz1, pk_vb]; done) | (subst_vars; simp [hc2, vz0, vz1, pk_vb]; done) | (subst_vars; rfl) | ((repeat' split) <;> simp_all; done))
set_option maxHeartbeats 4000000 in
set_option maxRecDepth 100000 in
/-- Tree.setSize -/
theorem c_Tree_setSize {l : Launch} {D : va_G} {kd : Nat → ClassId} {z : Nat} {S : tS} {t a b c d u : Nat} {nn : Int32} {i x : Int32} {fc : Nat → Int32} (m_t : t ∈ S.1) (f_t : S.2 t = .inr (9, [.ref a, .ref b, .ref c, .ref d, .ref u, .int nn])) (m_c : c ∈ S.1) (f_c : S.2 c = .inl (kd 0, 201, .inl fc))   : tM l y_Tree_setSize b_Tree_setSize 3 none [] { frames := 1, locals := 21 } D (tyl kd) z [.ref t, .int i, .int x] S (fun o9 T9 => T9 = (if isNum i = 0 then S else tset S c (.inl (kd 0, 201, .inl (upd fc i.toNatClampNeg x)))) ∧ o9 = .inl none) := by
  refine tM.of (own := "FlashVault$Tree") (ini := false) (by decide) rfl (fun h => by first | rfl | cases h) (Nat.le_of_ble_eq_true rfl) (lv := [(0, .ref t), (1, .int i), (2, .int x)]) rfl ?_
  refine tt_aload_n d_Tree_setSize_0 rfl 0 rfl ?_
  refine tt_iload_n d_Tree_setSize_1 rfl 1 rfl ?_
  refine tt_callV (bytes := b_Tree_isNumber) (nL' := 2) (ret' := (some FieldType.boolean)) (hh' := []) (As := [.int i]) w_8_96 w_8_98 (gW_sel 59 rfl rfl) w_1_6 w_8_99 ⟨by decide, by decide, rfl⟩ (c_Tree_isNumber m_t f_t) m_t f_t rfl ⟨Nat.le_of_ble_eq_true rfl, Nat.le_of_ble_eq_true rfl, Nat.le_of_ble_eq_true rfl, Nat.le_of_ble_eq_true rfl⟩ (Nat.le_of_ble_eq_true rfl) d_Tree_setSize_2 rfl (fun v9 S1 hq => ?_) (fun k9 S9 hq => by cases hq.2)
  obtain ⟨hS1, ho9⟩ := hq
  cases ho9
  refine tt_S hS1.symm ?_
  refine tt_if_eq (t := 15) d_Tree_setSize_5 (by decide) (fun hc2 => ?_) (fun hc2 => ?_)
  · skip
    exact tt_vret rfl (Nat.le_of_ble_eq_true rfl) (Nat.le_of_ble_eq_true rfl)  d_Tree_setSize_15 (by refine ⟨?_, ?_⟩ <;> first | rfl | (simp [hc2, vz0, vz1, pk_vb]; done) | (subst_vars; simp [hc2, vz0, vz1, pk_vb]; done) | (subst_vars; rfl) | ((repeat' split) <;> simp_all; done))
  · skip
    refine tt_aload_n d_Tree_setSize_8 rfl 0 rfl ?_
    refine tt_get F_Tree_18 d_Tree_setSize_9 m_t f_t rfl ?_
    refine tt_iload_n d_Tree_setSize_12 rfl 1 rfl ?_
    refine tt_iload_n d_Tree_setSize_13 rfl 2 rfl ?_
    refine tt_iast 0 d_Tree_setSize_14 rfl m_c f_c (nm_in (by assumption)) ?_
    obtain ⟨S3, hS3⟩ : ∃ x9, x9 = tset S c (.inl (kd 0, 201, .inl (upd fc (i).toNatClampNeg (x)))) := ⟨_, rfl⟩
    refine tt_S hS3 ?_
    have m4 : t ∈ S3.1 := by rw [hS3]; exact m_t
    have f5 : S3.2 t = .inr (9, [.ref a, .ref b, .ref c, .ref d, .ref u, .int nn]) := by rw [hS3]; exact (va_up_ne _ _ (fun h => by have h9 := f_t; rw [h, f_c] at h9; cases h9)).trans f_t
    have m6 : c ∈ S3.1 := by rw [hS3]; exact m_c
    have f7 : S3.2 c = .inl (kd 0, 201, .inl (upd fc (i).toNatClampNeg (x))) := by rw [hS3]; exact va_up_self _ _ _
    exact tt_vret rfl (Nat.le_of_ble_eq_true rfl) (Nat.le_of_ble_eq_true rfl)  d_Tree_setSize_15 (by refine ⟨?_, ?_⟩ <;> first | rfl | (simp [hc2, hS3, vz0, vz1, pk_vb]; done) | (subst_vars; simp [hc2, vz0, vz1, pk_vb]; done) | (subst_vars; rfl) | ((repeat' split) <;> simp_all; done))
set_option maxHeartbeats 4000000 in
set_option maxRecDepth 100000 in
/-- Tree.unset -/
theorem c_Tree_unset {l : Launch} {D : va_G} {kd : Nat → ClassId} {z : Nat} {S : tS} {t a b c d u : Nat} {nn : Int32} {i : Int32} {fa : Nat → Int32} (m_t : t ∈ S.1) (f_t : S.2 t = .inr (9, [.ref a, .ref b, .ref c, .ref d, .ref u, .int nn])) (m_a : a ∈ S.1) (f_a : S.2 a = .inl (kd 0, 201, .inl fa))   : tM l y_Tree_unset b_Tree_unset 2 none [] {} D (tyl kd) z [.ref t, .int i] S (fun o9 T9 => T9 = (if ¬ i < 1 ∧ ¬ 200 < i ∧ ¬ fa i.toNatClampNeg = 0 then tset (tset S a (.inl (kd 0, 201, .inl (upd fa i.toNatClampNeg 0)))) t (.inr (9, [.ref a, .ref b, .ref c, .ref d, .ref u, .int (nn - 1)])) else S) ∧ o9 = .inl none) := by
  refine tM.of (own := "FlashVault$Tree") (ini := false) (by decide) rfl (fun h => by first | rfl | cases h) (Nat.le_of_ble_eq_true rfl) (lv := [(0, .ref t), (1, .int i)]) rfl ?_
  refine tt_iload_n d_Tree_unset_0 rfl 1 rfl ?_
  refine tt_iconst (v := 1) d_Tree_unset_1 (by decide) ?_
  refine tt_icmp_lt (t := 38) d_Tree_unset_2 (by decide) (fun hc1 => ?_) (fun hc1 => ?_)
  · skip
    exact tt_vret rfl (Nat.le_of_ble_eq_true rfl) (Nat.le_of_ble_eq_true rfl)  d_Tree_unset_38 (by refine ⟨?_, ?_⟩ <;> first | rfl | (simp [hc1, Int32.not_le.mpr hc1, vz0, vz1, pk_vb]; done) | (subst_vars; simp [hc1, Int32.not_le.mpr hc1, vz0, vz1, pk_vb]; done) | (subst_vars; rfl) | ((repeat' split) <;> simp_all; done))
  · skip
    refine tt_iload_n d_Tree_unset_5 rfl 1 rfl ?_
    refine tt_sipush (v := 200) d_Tree_unset_6 (by decide) ?_
    refine tt_icmp_gt (t := 38) d_Tree_unset_9 (by decide) (fun hc2 => ?_) (fun hc2 => ?_)
    · skip
      exact tt_vret rfl (Nat.le_of_ble_eq_true rfl) (Nat.le_of_ble_eq_true rfl)  d_Tree_unset_38 (by refine ⟨?_, ?_⟩ <;> first | rfl | (simp [hc1, Int32.not_lt.mp hc1, hc2, Int32.not_le.mpr hc2, vz0, vz1, pk_vb]; done) | (subst_vars; simp [hc1, Int32.not_lt.mp hc1, hc2, Int32.not_le.mpr hc2, vz0, vz1, pk_vb]; done) | (subst_vars; rfl) | ((repeat' split) <;> simp_all; done))
    · skip
      refine tt_aload_n d_Tree_unset_12 rfl 0 rfl ?_
      refine tt_get F_Tree_9 d_Tree_unset_13 m_t f_t rfl ?_
      refine tt_iload_n d_Tree_unset_16 rfl 1 rfl ?_
      refine tt_iald 0 d_Tree_unset_17 rfl m_a f_a (nm_1 (by assumption) (by assumption)) ?_
      refine tt_if_eq (t := 38) d_Tree_unset_18 (by decide) (fun hc3 => ?_) (fun hc3 => ?_)
      · skip
        exact tt_vret rfl (Nat.le_of_ble_eq_true rfl) (Nat.le_of_ble_eq_true rfl)  d_Tree_unset_38 (by refine ⟨?_, ?_⟩ <;> first | rfl | (simp [hc1, Int32.not_lt.mp hc1, hc2, Int32.not_lt.mp hc2, hc3, vz0, vz1, pk_vb]; done) | (subst_vars; simp [hc1, Int32.not_lt.mp hc1, hc2, Int32.not_lt.mp hc2, hc3, vz0, vz1, pk_vb]; done) | (subst_vars; rfl) | ((repeat' split) <;> simp_all; done))
      · skip
        refine tt_aload_n d_Tree_unset_21 rfl 0 rfl ?_
        refine tt_get F_Tree_9 d_Tree_unset_22 m_t f_t rfl ?_
        refine tt_iload_n d_Tree_unset_25 rfl 1 rfl ?_
        refine tt_iconst (v := 0) d_Tree_unset_26 (by decide) ?_
        refine tt_iast 0 d_Tree_unset_27 rfl m_a f_a (nm_1 (by assumption) (by assumption)) ?_
        obtain ⟨S4, hS4⟩ : ∃ x9, x9 = tset S a (.inl (kd 0, 201, .inl (upd fa (i).toNatClampNeg (0)))) := ⟨_, rfl⟩
        refine tt_S hS4 ?_
        have m5 : t ∈ S4.1 := by rw [hS4]; exact m_t
        have f6 : S4.2 t = .inr (9, [.ref a, .ref b, .ref c, .ref d, .ref u, .int nn]) := by rw [hS4]; exact (va_up_ne _ _ (fun h => by have h9 := f_t; rw [h, f_a] at h9; cases h9)).trans f_t
        have m7 : a ∈ S4.1 := by rw [hS4]; exact m_a
        have f8 : S4.2 a = .inl (kd 0, 201, .inl (upd fa (i).toNatClampNeg (0))) := by rw [hS4]; exact va_up_self _ _ _
        refine tt_aload_n d_Tree_unset_28 rfl 0 rfl ?_
        refine tt_dup d_Tree_unset_29 rfl ?_
        refine tt_get F_Tree_28 d_Tree_unset_30 m5 f6 rfl ?_
        refine tt_iconst (v := 1) d_Tree_unset_33 (by decide) ?_
        refine tt_isub d_Tree_unset_34 ?_
        refine tt_put F_Tree_28 d_Tree_unset_35 m5 f6 (Or.inl rfl) (by first | rfl | decide | exact pk_nz _) (by first | rfl | decide) (by simp) ?_
        obtain ⟨S9, hS9⟩ : ∃ x9, x9 = tset S4 t (.inr (9, [.ref a, .ref b, .ref c, .ref d, .ref u, .int ((nn - 1))])) := ⟨_, rfl⟩
        refine tt_S hS9 ?_
        have m10 : t ∈ S9.1 := by rw [hS9]; exact m5
        have f11 : S9.2 t = .inr (9, [.ref a, .ref b, .ref c, .ref d, .ref u, .int ((nn - 1))]) := by rw [hS9]; exact va_up_self _ _ _
        have m12 : a ∈ S9.1 := by rw [hS9]; exact m7
        have f13 : S9.2 a = .inl (kd 0, 201, .inl (upd fa (i).toNatClampNeg (0))) := by rw [hS9]; exact (va_up_ne _ _ (fun h => by have h9 := f_a; rw [h, f_t] at h9; cases h9)).trans f8
        exact tt_vret rfl (Nat.le_of_ble_eq_true rfl) (Nat.le_of_ble_eq_true rfl)  d_Tree_unset_38 (by refine ⟨?_, ?_⟩ <;> first | rfl | (simp [hc1, Int32.not_lt.mp hc1, hc2, Int32.not_lt.mp hc2, hc3, hS9, hS4, vz0, vz1, pk_vb]; done) | (subst_vars; simp [hc1, Int32.not_lt.mp hc1, hc2, Int32.not_lt.mp hc2, hc3, vz0, vz1, pk_vb]; done) | (subst_vars; rfl) | ((repeat' split) <;> simp_all; done))
set_option maxHeartbeats 4000000 in
set_option maxRecDepth 100000 in
/-- Tree.isIn -/
theorem c_Tree_isIn {l : Launch} {D : va_G} {kd : Nat → ClassId} {z : Nat} {S : tS} {t a b c d u : Nat} {nn : Int32} {i x : Int32} {fa fb : Nat → Int32} (m_t : t ∈ S.1) (f_t : S.2 t = .inr (9, [.ref a, .ref b, .ref c, .ref d, .ref u, .int nn])) (m_a : a ∈ S.1) (f_a : S.2 a = .inl (kd 0, 201, .inl fa)) (m_b : b ∈ S.1) (f_b : S.2 b = .inl (kd 0, 201, .inl fb))  (hi : vp_in i 201) : tM l y_Tree_isIn b_Tree_isIn 3 (some FieldType.boolean) [] {} D (tyl kd) z [.ref t, .int i, .int x] S (fun o9 T9 => T9 = S ∧ o9 = .inl (some (.int (trIn fa fb i x)))) := by
  refine tM.of (own := "FlashVault$Tree") (ini := false) (by decide) rfl (fun h => by first | rfl | cases h) (Nat.le_of_ble_eq_true rfl) (lv := [(0, .ref t), (1, .int i), (2, .int x)]) rfl ?_
  refine tt_iload_n d_Tree_isIn_0 rfl 1 rfl ?_
  refine tt_if_le (t := 27) d_Tree_isIn_1 (by decide) (fun hc1 => ?_) (fun hc1 => ?_)
  · skip
    refine tt_iconst (v := 0) d_Tree_isIn_27 (by decide) ?_
    exact tt_ret rfl (by first | rfl | decide | exact nz_ite _) (Nat.le_of_ble_eq_true rfl) (Nat.le_of_ble_eq_true rfl)  d_Tree_isIn_28 (by refine ⟨rfl, ?_⟩; unfold trIn; simp [hc1, Int32.not_lt.mpr hc1])
  · skip
    refine tt_aload_n d_Tree_isIn_4 rfl 0 rfl ?_
    refine tt_get F_Tree_9 d_Tree_isIn_5 m_t f_t rfl ?_
    refine tt_iload_n d_Tree_isIn_8 rfl 1 rfl ?_
    refine tt_iald 0 d_Tree_isIn_9 rfl m_a f_a (hi) ?_
    refine tt_if_eq (t := 27) d_Tree_isIn_10 (by decide) (fun hc2 => ?_) (fun hc2 => ?_)
    · skip
      refine tt_iconst (v := 0) d_Tree_isIn_27 (by decide) ?_
      exact tt_ret rfl (by first | rfl | decide | exact nz_ite _) (Nat.le_of_ble_eq_true rfl) (Nat.le_of_ble_eq_true rfl)  d_Tree_isIn_28 (by refine ⟨rfl, ?_⟩; unfold trIn; simp [hc1, Int32.not_le.mp hc1, hc2])
    · skip
      refine tt_aload_n d_Tree_isIn_13 rfl 0 rfl ?_
      refine tt_get F_Tree_15 d_Tree_isIn_14 m_t f_t rfl ?_
      refine tt_iload_n d_Tree_isIn_17 rfl 1 rfl ?_
      refine tt_iald 0 d_Tree_isIn_18 rfl m_b f_b (hi) ?_
      refine tt_iload_n d_Tree_isIn_19 rfl 2 rfl ?_
      refine tt_icmp_ne (t := 27) d_Tree_isIn_20 (by decide) (fun hc3 => ?_) (fun hc3 => ?_)
      · skip
        refine tt_iconst (v := 0) d_Tree_isIn_27 (by decide) ?_
        exact tt_ret rfl (by first | rfl | decide | exact nz_ite _) (Nat.le_of_ble_eq_true rfl) (Nat.le_of_ble_eq_true rfl)  d_Tree_isIn_28 (by refine ⟨rfl, ?_⟩; unfold trIn; simp [hc1, Int32.not_le.mp hc1, hc2, hc3])
      · skip
        refine tt_iconst (v := 1) d_Tree_isIn_23 (by decide) ?_
        refine tt_goto (t := 28) d_Tree_isIn_24 (by decide) ?_
        exact tt_ret rfl (by first | rfl | decide | exact nz_ite _) (Nat.le_of_ble_eq_true rfl) (Nat.le_of_ble_eq_true rfl)  d_Tree_isIn_28 (by refine ⟨rfl, ?_⟩; unfold trIn; simp [hc1, Int32.not_le.mp hc1, hc2, hc3])
