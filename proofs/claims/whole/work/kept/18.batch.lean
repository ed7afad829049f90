/-! ===== leaves: class Batch; written by wip/gen/batch.py ===== -/
/-- what Row.compare answers -/
def rcv (f g : Nat → Int32) (ca cb : Nat) (i n j m : Int32) : Int32 := if ¬ i < 0 ∧ ¬ j < 0 ∧ ¬ (nI ca - i) < (if m < n then m else n) ∧ ¬ (nI cb - j) < (if m < n then m else n) then rcmp f g i j (n - m) (if m < n then m else n).toNatClampNeg 0 else n - m
theorem c_Row_compareV {l : Launch} {D : va_G} {kd : Nat → ClassId} {z : Nat} {S : tS} {a b ca cb : Nat} {i n j m : Int32} {f g : Nat → Int32} (ma : a ∈ S.1) (fa : S.2 a = .inl (kd 1, ca, .inl f)) (mb : b ∈ S.1) (fb : S.2 b = .inl (kd 1, cb, .inl g)) (hca : ca < 2 ^ 31) (hcb : cb < 2 ^ 31) : tM l y_Row_compare b_Row_compare 9 (some .int) [] { frames := 1, locals := 60 } D (tyl kd) z [.ref a, .int i, .int n, .ref b, .int j, .int m] S (fun o9 T9 => T9 = S ∧ o9 = .inl (some (.int (rcv f g ca cb i n j m)))) := c_Row_compare ma fa mb fb hca hcb
/-- Batch.compareWith's answer -/
def bcv (fd fs fk : Nat → Int32) (sz : Int32) (g : Nat → Int32) (cg : Nat) (i j m : Int32) : Int32 := if ¬ i < 0 ∧ i < sz then rcv fd g 4100 cg (fs i.toNatClampNeg) (fk i.toNatClampNeg) j m else 0
/-- Batch.indexOfKey's -/
def bix (fd fs fk : Nat → Int32) (sz : Int32) (g : Nat → Int32) (cg : Nat) (j m : Int32) : Nat → Int32 → Int32
  | 0, _ => -1
  | t + 1, k => if fk k.toNatClampNeg = m ∧ bcv fd fs fk sz g cg k j m = 0 then k else bix fd fs fk sz g cg j m t (k + 1)
/-- a place below the batch's size -/
theorem vi_40 {i sz : Int32} (h0 : ¬ i < 0) (h1 : i < sz) (hs : sz ≤ 40) : vp_in i 40 := vi_of h0 (Int32.not_le.mpr (Int32.lt_of_lt_of_le h1 hs)) (by decide)
abbrev b_Batch_clear : ByteArray := prog_2_method_2_code
def y_Batch_clear : MethodName := ⟨"FlashVault$Batch", "clear", "()V"⟩
theorem d_Batch_clear_0 : decode b_Batch_clear 0 = .ok (.aload_n 0, 1) := by decide +kernel
theorem d_Batch_clear_1 : decode b_Batch_clear 1 = .ok (.iconst 0, 1) := by decide +kernel
theorem d_Batch_clear_2 : decode b_Batch_clear 2 = .ok (.putfield 28, 3) := by decide +kernel
theorem w_1_95 : (Cond.fieldLink "FlashVault$Batch" (28 : Nat) "FlashVault$Batch" "size" "I") ∈ gW := gW_1 95 rfl rfl
theorem F_Batch_28 : tF "FlashVault$Batch" 28 0 5 RC0 FC0 7 tC0 := ⟨rfl, by decide, rfl, iC0, kC0, nC0, w_1_95⟩
theorem d_Batch_clear_5 : decode b_Batch_clear 5 = .ok (.aload_n 0, 1) := by decide +kernel
theorem d_Batch_clear_6 : decode b_Batch_clear 6 = .ok (.iconst 0, 1) := by decide +kernel
theorem d_Batch_clear_7 : decode b_Batch_clear 7 = .ok (.putfield 32, 3) := by decide +kernel
theorem w_1_99 : (Cond.fieldLink "FlashVault$Batch" (32 : Nat) "FlashVault$Batch" "used" "I") ∈ gW := gW_1 99 rfl rfl
theorem F_Batch_32 : tF "FlashVault$Batch" 32 0 6 RC0 FC0 7 tC0 := ⟨rfl, by decide, rfl, iC0, kC0, nC0, w_1_99⟩
theorem d_Batch_clear_10 : decode b_Batch_clear 10 = .ok (.return_, 1) := by decide +kernel
abbrev b_Batch_userBytes : ByteArray := prog_2_method_7_code
def y_Batch_userBytes : MethodName := ⟨"FlashVault$Batch", "userBytes", "()I"⟩
theorem d_Batch_userBytes_0 : decode b_Batch_userBytes 0 = .ok (.aload_n 0, 1) := by decide +kernel
theorem d_Batch_userBytes_1 : decode b_Batch_userBytes 1 = .ok (.getfield 32, 3) := by decide +kernel
theorem d_Batch_userBytes_4 : decode b_Batch_userBytes 4 = .ok (.aload_n 0, 1) := by decide +kernel
theorem d_Batch_userBytes_5 : decode b_Batch_userBytes 5 = .ok (.getfield 28, 3) := by decide +kernel
theorem d_Batch_userBytes_8 : decode b_Batch_userBytes 8 = .ok (.isub, 1) := by decide +kernel
theorem d_Batch_userBytes_9 : decode b_Batch_userBytes 9 = .ok (.ireturn, 1) := by decide +kernel
abbrev b_Batch_userBytesOf : ByteArray := prog_2_method_8_code
def y_Batch_userBytesOf : MethodName := ⟨"FlashVault$Batch", "userBytesOf", "(I)I"⟩
theorem d_Batch_userBytesOf_0 : decode b_Batch_userBytesOf 0 = .ok (.iload_n 1, 1) := by decide +kernel
theorem d_Batch_userBytesOf_1 : decode b_Batch_userBytesOf 1 = .ok (.ifCond .lt 11, 3) := by decide +kernel
theorem d_Batch_userBytesOf_12 : decode b_Batch_userBytesOf 12 = .ok (.iconst 0, 1) := by decide +kernel
theorem d_Batch_userBytesOf_13 : decode b_Batch_userBytesOf 13 = .ok (.goto 22, 3) := by decide +kernel
theorem d_Batch_userBytesOf_35 : decode b_Batch_userBytesOf 35 = .ok (.ireturn, 1) := by decide +kernel
theorem d_Batch_userBytesOf_4 : decode b_Batch_userBytesOf 4 = .ok (.iload_n 1, 1) := by decide +kernel
theorem d_Batch_userBytesOf_5 : decode b_Batch_userBytesOf 5 = .ok (.aload_n 0, 1) := by decide +kernel
theorem d_Batch_userBytesOf_6 : decode b_Batch_userBytesOf 6 = .ok (.getfield 28, 3) := by decide +kernel
theorem d_Batch_userBytesOf_9 : decode b_Batch_userBytesOf 9 = .ok (.if_icmp .lt 7, 3) := by decide +kernel
theorem d_Batch_userBytesOf_16 : decode b_Batch_userBytesOf 16 = .ok (.aload_n 0, 1) := by decide +kernel
theorem d_Batch_userBytesOf_17 : decode b_Batch_userBytesOf 17 = .ok (.getfield 19, 3) := by decide +kernel
theorem w_1_84 : (Cond.fieldLink "FlashVault$Batch" (19 : Nat) "FlashVault$Batch" "keyLengths" "[I") ∈ gW := gW_1 84 rfl rfl
theorem F_Batch_19 : tF "FlashVault$Batch" 19 0 2 RC0 FC0 7 tC0 := ⟨rfl, by decide, rfl, iC0, kC0, nC0, w_1_84⟩
theorem d_Batch_userBytesOf_20 : decode b_Batch_userBytesOf 20 = .ok (.iload_n 1, 1) := by decide +kernel
theorem d_Batch_userBytesOf_21 : decode b_Batch_userBytesOf 21 = .ok (.iaload, 1) := by decide +kernel
theorem d_Batch_userBytesOf_22 : decode b_Batch_userBytesOf 22 = .ok (.iconst 1, 1) := by decide +kernel
theorem d_Batch_userBytesOf_23 : decode b_Batch_userBytesOf 23 = .ok (.isub, 1) := by decide +kernel
theorem d_Batch_userBytesOf_24 : decode b_Batch_userBytesOf 24 = .ok (.aload_n 0, 1) := by decide +kernel
theorem d_Batch_userBytesOf_25 : decode b_Batch_userBytesOf 25 = .ok (.getfield 22, 3) := by decide +kernel
theorem w_1_88 : (Cond.fieldLink "FlashVault$Batch" (22 : Nat) "FlashVault$Batch" "lengths" "[I") ∈ gW := gW_1 88 rfl rfl
theorem F_Batch_22 : tF "FlashVault$Batch" 22 0 3 RC0 FC0 7 tC0 := ⟨rfl, by decide, rfl, iC0, kC0, nC0, w_1_88⟩
theorem d_Batch_userBytesOf_28 : decode b_Batch_userBytesOf 28 = .ok (.iload_n 1, 1) := by decide +kernel
theorem d_Batch_userBytesOf_29 : decode b_Batch_userBytesOf 29 = .ok (.iaload, 1) := by decide +kernel
theorem d_Batch_userBytesOf_30 : decode b_Batch_userBytesOf 30 = .ok (.iconst 0, 1) := by decide +kernel
theorem d_Batch_userBytesOf_31 : decode b_Batch_userBytesOf 31 = .ok (.invokestatic 49, 3) := by decide +kernel
theorem w_4_82 : (Cond.methodLink "FlashVault$Batch" (49 : Nat) ({ cls := "java/lang/Math", name := "max", desc := "(II)I" } : MethodName)) ∈ gW := gW_4 82 rfl rfl
theorem d_Batch_userBytesOf_34 : decode b_Batch_userBytesOf 34 = .ok (.iadd, 1) := by decide +kernel
abbrev b_Batch_compareWith : ByteArray := prog_2_method_5_code
def y_Batch_compareWith : MethodName := ⟨"FlashVault$Batch", "compareWith", "(I[BII)I"⟩
theorem d_Batch_compareWith_0 : decode b_Batch_compareWith 0 = .ok (.iload_n 1, 1) := by decide +kernel
theorem d_Batch_compareWith_1 : decode b_Batch_compareWith 1 = .ok (.ifCond .lt 11, 3) := by decide +kernel
theorem d_Batch_compareWith_12 : decode b_Batch_compareWith 12 = .ok (.iconst 0, 1) := by decide +kernel
theorem d_Batch_compareWith_13 : decode b_Batch_compareWith 13 = .ok (.goto 26, 3) := by decide +kernel
theorem d_Batch_compareWith_39 : decode b_Batch_compareWith 39 = .ok (.ireturn, 1) := by decide +kernel
theorem d_Batch_compareWith_4 : decode b_Batch_compareWith 4 = .ok (.iload_n 1, 1) := by decide +kernel
theorem d_Batch_compareWith_5 : decode b_Batch_compareWith 5 = .ok (.aload_n 0, 1) := by decide +kernel
theorem d_Batch_compareWith_6 : decode b_Batch_compareWith 6 = .ok (.getfield 28, 3) := by decide +kernel
theorem d_Batch_compareWith_9 : decode b_Batch_compareWith 9 = .ok (.if_icmp .lt 7, 3) := by decide +kernel
theorem d_Batch_compareWith_16 : decode b_Batch_compareWith 16 = .ok (.aload_n 0, 1) := by decide +kernel
theorem d_Batch_compareWith_17 : decode b_Batch_compareWith 17 = .ok (.getfield 9, 3) := by decide +kernel
theorem w_1_76 : (Cond.fieldLink "FlashVault$Batch" (9 : Nat) "FlashVault$Batch" "data" "[B") ∈ gW := gW_1 76 rfl rfl
theorem F_Batch_9 : tF "FlashVault$Batch" 9 0 0 RC0 FC0 7 tC0 := ⟨rfl, by decide, rfl, iC0, kC0, nC0, w_1_76⟩
theorem d_Batch_compareWith_20 : decode b_Batch_compareWith 20 = .ok (.aload_n 0, 1) := by decide +kernel
theorem d_Batch_compareWith_21 : decode b_Batch_compareWith 21 = .ok (.getfield 15, 3) := by decide +kernel
theorem w_1_80 : (Cond.fieldLink "FlashVault$Batch" (15 : Nat) "FlashVault$Batch" "starts" "[I") ∈ gW := gW_1 80 rfl rfl
theorem F_Batch_15 : tF "FlashVault$Batch" 15 0 1 RC0 FC0 7 tC0 := ⟨rfl, by decide, rfl, iC0, kC0, nC0, w_1_80⟩
theorem d_Batch_compareWith_24 : decode b_Batch_compareWith 24 = .ok (.iload_n 1, 1) := by decide +kernel
theorem d_Batch_compareWith_25 : decode b_Batch_compareWith 25 = .ok (.iaload, 1) := by decide +kernel
theorem d_Batch_compareWith_26 : decode b_Batch_compareWith 26 = .ok (.aload_n 0, 1) := by decide +kernel
theorem d_Batch_compareWith_27 : decode b_Batch_compareWith 27 = .ok (.getfield 19, 3) := by decide +kernel
theorem d_Batch_compareWith_30 : decode b_Batch_compareWith 30 = .ok (.iload_n 1, 1) := by decide +kernel
theorem d_Batch_compareWith_31 : decode b_Batch_compareWith 31 = .ok (.iaload, 1) := by decide +kernel
theorem d_Batch_compareWith_32 : decode b_Batch_compareWith 32 = .ok (.aload_n 2, 1) := by decide +kernel
theorem d_Batch_compareWith_33 : decode b_Batch_compareWith 33 = .ok (.iload_n 3, 1) := by decide +kernel
theorem d_Batch_compareWith_34 : decode b_Batch_compareWith 34 = .ok (.iload 4, 2) := by decide +kernel
theorem d_Batch_compareWith_36 : decode b_Batch_compareWith 36 = .ok (.invokestatic 43, 3) := by decide +kernel
theorem w_4_70 : (Cond.methodLink "FlashVault$Batch" (43 : Nat) ({ cls := "FlashVault$Row", name := "compare", desc := "([BII[BII)I" } : MethodName)) ∈ gW := gW_4 70 rfl rfl
theorem w_4_72 : (Cond.code ({ cls := "FlashVault$Row", name := "compare", desc := "([BII[BII)I" } : MethodName) prog_7_method_8_code (9 : Nat) (Option.some FieldType.int)) ∈ gW := gW_4 72 rfl rfl
theorem w_4_71 : (Cond.static ({ cls := "FlashVault$Row", name := "compare", desc := "([BII[BII)I" } : MethodName)) ∈ gW := gW_4 71 rfl rfl
abbrev b_Batch_indexOfKey : ByteArray := prog_2_method_4_code
def y_Batch_indexOfKey : MethodName := ⟨"FlashVault$Batch", "indexOfKey", "([BII)I"⟩
theorem d_Batch_indexOfKey_3 : decode b_Batch_indexOfKey 3 = .ok (.iload 4, 2) := by decide +kernel
theorem d_Batch_indexOfKey_5 : decode b_Batch_indexOfKey 5 = .ok (.aload_n 0, 1) := by decide +kernel
theorem d_Batch_indexOfKey_6 : decode b_Batch_indexOfKey 6 = .ok (.getfield 28, 3) := by decide +kernel
theorem d_Batch_indexOfKey_9 : decode b_Batch_indexOfKey 9 = .ok (.if_icmp .ge 35, 3) := by decide +kernel
theorem d_Batch_indexOfKey_44 : decode b_Batch_indexOfKey 44 = .ok (.iconst (-1), 1) := by decide +kernel
theorem d_Batch_indexOfKey_45 : decode b_Batch_indexOfKey 45 = .ok (.ireturn, 1) := by decide +kernel
theorem d_Batch_indexOfKey_12 : decode b_Batch_indexOfKey 12 = .ok (.aload_n 0, 1) := by decide +kernel
theorem d_Batch_indexOfKey_13 : decode b_Batch_indexOfKey 13 = .ok (.getfield 19, 3) := by decide +kernel
theorem d_Batch_indexOfKey_16 : decode b_Batch_indexOfKey 16 = .ok (.iload 4, 2) := by decide +kernel
theorem d_Batch_indexOfKey_18 : decode b_Batch_indexOfKey 18 = .ok (.iaload, 1) := by decide +kernel
theorem d_Batch_indexOfKey_19 : decode b_Batch_indexOfKey 19 = .ok (.iload_n 3, 1) := by decide +kernel
theorem d_Batch_indexOfKey_20 : decode b_Batch_indexOfKey 20 = .ok (.if_icmp .ne 18, 3) := by decide +kernel
theorem d_Batch_indexOfKey_38 : decode b_Batch_indexOfKey 38 = .ok (.iinc 4 1, 3) := by decide +kernel
theorem d_Batch_indexOfKey_41 : decode b_Batch_indexOfKey 41 = .ok (.goto (-38), 3) := by decide +kernel
theorem d_Batch_indexOfKey_23 : decode b_Batch_indexOfKey 23 = .ok (.aload_n 0, 1) := by decide +kernel
theorem d_Batch_indexOfKey_24 : decode b_Batch_indexOfKey 24 = .ok (.iload 4, 2) := by decide +kernel
theorem d_Batch_indexOfKey_26 : decode b_Batch_indexOfKey 26 = .ok (.aload_n 1, 1) := by decide +kernel
theorem d_Batch_indexOfKey_27 : decode b_Batch_indexOfKey 27 = .ok (.iload_n 2, 1) := by decide +kernel
theorem d_Batch_indexOfKey_28 : decode b_Batch_indexOfKey 28 = .ok (.iload_n 3, 1) := by decide +kernel
theorem d_Batch_indexOfKey_29 : decode b_Batch_indexOfKey 29 = .ok (.invokevirtual 39, 3) := by decide +kernel
theorem w_4_66 : (Cond.methodLink "FlashVault$Batch" (39 : Nat) ({ cls := "FlashVault$Batch", name := "compareWith", desc := "(I[BII)I" } : MethodName)) ∈ gW := gW_4 66 rfl rfl
theorem w_1_5 : (Cond.initialized "FlashVault$Batch") ∈ gW := gW_1 5 rfl rfl
theorem w_4_69 : (Cond.code ({ cls := "FlashVault$Batch", name := "compareWith", desc := "(I[BII)I" } : MethodName) prog_2_method_5_code (5 : Nat) (Option.some FieldType.int)) ∈ gW := gW_4 69 rfl rfl
theorem w_4_68 : (Cond.selects "FlashVault$Batch" ({ cls := "FlashVault$Batch", name := "compareWith", desc := "(I[BII)I" } : MethodName) ({ cls := "FlashVault$Batch", name := "compareWith", desc := "(I[BII)I" } : MethodName)) ∈ gW := gW_4 68 rfl rfl
theorem w_4_67 : (Cond.instanceMethod ({ cls := "FlashVault$Batch", name := "compareWith", desc := "(I[BII)I" } : MethodName)) ∈ gW := gW_4 67 rfl rfl
theorem d_Batch_indexOfKey_32 : decode b_Batch_indexOfKey 32 = .ok (.ifCond .ne 6, 3) := by decide +kernel
theorem d_Batch_indexOfKey_35 : decode b_Batch_indexOfKey 35 = .ok (.iload 4, 2) := by decide +kernel
theorem d_Batch_indexOfKey_37 : decode b_Batch_indexOfKey 37 = .ok (.ireturn, 1) := by decide +kernel
theorem d_Batch_indexOfKey_0 : decode b_Batch_indexOfKey 0 = .ok (.iconst 0, 1) := by decide +kernel
theorem d_Batch_indexOfKey_1 : decode b_Batch_indexOfKey 1 = .ok (.istore 4, 2) := by decide +kernel
abbrev b_Batch_indexOf : ByteArray := prog_2_method_3_code
def y_Batch_indexOf : MethodName := ⟨"FlashVault$Batch", "indexOf", "([BI)I"⟩
theorem d_Batch_indexOf_0 : decode b_Batch_indexOf 0 = .ok (.aload_n 0, 1) := by decide +kernel
theorem d_Batch_indexOf_1 : decode b_Batch_indexOf 1 = .ok (.aload_n 1, 1) := by decide +kernel
theorem d_Batch_indexOf_2 : decode b_Batch_indexOf 2 = .ok (.iconst 0, 1) := by decide +kernel
theorem d_Batch_indexOf_3 : decode b_Batch_indexOf 3 = .ok (.iload_n 2, 1) := by decide +kernel
theorem d_Batch_indexOf_4 : decode b_Batch_indexOf 4 = .ok (.invokevirtual 35, 3) := by decide +kernel
theorem w_4_62 : (Cond.methodLink "FlashVault$Batch" (35 : Nat) ({ cls := "FlashVault$Batch", name := "indexOfKey", desc := "([BII)I" } : MethodName)) ∈ gW := gW_4 62 rfl rfl
theorem w_4_65 : (Cond.code ({ cls := "FlashVault$Batch", name := "indexOfKey", desc := "([BII)I" } : MethodName) prog_2_method_4_code (5 : Nat) (Option.some FieldType.int)) ∈ gW := gW_4 65 rfl rfl
theorem w_4_64 : (Cond.selects "FlashVault$Batch" ({ cls := "FlashVault$Batch", name := "indexOfKey", desc := "([BII)I" } : MethodName) ({ cls := "FlashVault$Batch", name := "indexOfKey", desc := "([BII)I" } : MethodName)) ∈ gW := gW_4 64 rfl rfl
theorem w_4_63 : (Cond.instanceMethod ({ cls := "FlashVault$Batch", name := "indexOfKey", desc := "([BII)I" } : MethodName)) ∈ gW := gW_4 63 rfl rfl
theorem d_Batch_indexOf_7 : decode b_Batch_indexOf 7 = .ok (.ireturn, 1) := by decide +kernel
set_option maxHeartbeats 4000000 in
set_option maxRecDepth 100000 in
/-- Batch.clear -/
theorem c_Batch_clear {l : Launch} {D : va_G} {kd : Nat → ClassId} {z : Nat} {S : tS} {r d s kl ln pc : Nat} {sz us : Int32} (m_r : r ∈ S.1) (f_r : S.2 r = .inr (0, [.ref d, .ref s, .ref kl, .ref ln, .ref pc, .int sz, .int us]))   : tM l y_Batch_clear b_Batch_clear 1 none [] {} D (tyl kd) z [.ref r] S (fun o9 T9 => T9 = tset S r (.inr (0, [.ref d, .ref s, .ref kl, .ref ln, .ref pc, .int (0), .int (0)])) ∧ o9 = .inl none) := by
  refine tM.of (own := "FlashVault$Batch") (ini := false) (by decide) rfl (fun h => by first | rfl | cases h) (Nat.le_of_ble_eq_true rfl) (lv := [(0, .ref r)]) rfl ?_
  refine tt_aload_n d_Batch_clear_0 rfl 0 rfl ?_
  refine tt_iconst (v := 0) d_Batch_clear_1 (by decide) ?_
  refine tt_put F_Batch_28 d_Batch_clear_2 m_r f_r (Or.inl rfl) (by first | rfl | decide | exact pk_nz _) (by first | rfl | decide) (by simp) ?_
  obtain ⟨S1, hS1⟩ : ∃ x9, x9 = tset S r (.inr (0, [.ref d, .ref s, .ref kl, .ref ln, .ref pc, .int 0, .int us])) := ⟨_, rfl⟩
  refine tt_S hS1 ?_
  have m2 : r ∈ S1.1 := by rw [hS1]; exact m_r
  have f3 : S1.2 r = .inr (0, [.ref d, .ref s, .ref kl, .ref ln, .ref pc, .int 0, .int us]) := by rw [hS1]; exact va_up_self _ _ _
  refine tt_aload_n d_Batch_clear_5 rfl 0 rfl ?_
  refine tt_iconst (v := 0) d_Batch_clear_6 (by decide) ?_
  refine tt_put F_Batch_32 d_Batch_clear_7 m2 f3 (Or.inl rfl) (by first | rfl | decide | exact pk_nz _) (by first | rfl | decide) (by simp) ?_
  obtain ⟨S4, hS4⟩ : ∃ x9, x9 = tset S1 r (.inr (0, [.ref d, .ref s, .ref kl, .ref ln, .ref pc, .int 0, .int 0])) := ⟨_, rfl⟩
  refine tt_S hS4 ?_
  have m5 : r ∈ S4.1 := by rw [hS4]; exact m2
  have f6 : S4.2 r = .inr (0, [.ref d, .ref s, .ref kl, .ref ln, .ref pc, .int 0, .int 0]) := by rw [hS4]; exact va_up_self _ _ _
  exact tt_vret rfl (Nat.le_of_ble_eq_true rfl) (Nat.le_of_ble_eq_true rfl)  d_Batch_clear_10 (by refine ⟨?_, ?_⟩ <;> first | rfl | (simp [hS4, hS1, vz0, vz1, pk_vb, ts_ts]; done) | (subst_vars; simp [vz0, vz1, pk_vb, ts_ts]; done) | (subst_vars; rfl) | ((repeat' split) <;> simp_all; done))
set_option maxHeartbeats 4000000 in
set_option maxRecDepth 100000 in
/-- Batch.userBytes -/
theorem c_Batch_userBytes {l : Launch} {D : va_G} {kd : Nat → ClassId} {z : Nat} {S : tS} {r d s kl ln pc : Nat} {sz us : Int32} (m_r : r ∈ S.1) (f_r : S.2 r = .inr (0, [.ref d, .ref s, .ref kl, .ref ln, .ref pc, .int sz, .int us]))   : tM l y_Batch_userBytes b_Batch_userBytes 1 (some FieldType.int) [] {} D (tyl kd) z [.ref r] S (fun o9 T9 => T9 = S ∧ o9 = .inl (some (.int (us - sz)))) := by
  refine tM.of (own := "FlashVault$Batch") (ini := false) (by decide) rfl (fun h => by first | rfl | cases h) (Nat.le_of_ble_eq_true rfl) (lv := [(0, .ref r)]) rfl ?_
  refine tt_aload_n d_Batch_userBytes_0 rfl 0 rfl ?_
  refine tt_get F_Batch_32 d_Batch_userBytes_1 m_r f_r rfl ?_
  refine tt_aload_n d_Batch_userBytes_4 rfl 0 rfl ?_
  refine tt_get F_Batch_28 d_Batch_userBytes_5 m_r f_r rfl ?_
  refine tt_isub d_Batch_userBytes_8 ?_
  exact tt_ret rfl (by first | rfl | decide | exact nz_ite _) (Nat.le_of_ble_eq_true rfl) (Nat.le_of_ble_eq_true rfl)  d_Batch_userBytes_9 (by refine ⟨?_, ?_⟩ <;> first | rfl | (simp [vz0, vz1, pk_vb]; done) | (subst_vars; simp [vz0, vz1, pk_vb]; done) | (subst_vars; rfl) | ((repeat' split) <;> simp_all; done))
set_option maxHeartbeats 4000000 in
set_option maxRecDepth 100000 in
/-- Batch.userBytesOf -/
theorem c_Batch_userBytesOf {l : Launch} {D : va_G} {kd : Nat → ClassId} {z : Nat} {S : tS} {r d s kl ln pc : Nat} {sz us : Int32} {fk fl : Nat → Int32} {i : Int32} (m_r : r ∈ S.1) (f_r : S.2 r = .inr (0, [.ref d, .ref s, .ref kl, .ref ln, .ref pc, .int sz, .int us])) (m_kl : kl ∈ S.1) (f_kl : S.2 kl = .inl (kd 0, 40, .inl fk)) (m_ln : ln ∈ S.1) (f_ln : S.2 ln = .inl (kd 0, 40, .inl fl))  (hsz : sz ≤ 40) : tM l y_Batch_userBytesOf b_Batch_userBytesOf 2 (some FieldType.int) [] { frames := 1, locals := 40 } D (tyl kd) z [.ref r, .int i] S (fun o9 T9 => T9 = S ∧ o9 = .inl (some (.int (if ¬ i < 0 ∧ i < sz then (fk i.toNatClampNeg - 1) + (if fl i.toNatClampNeg < 0 then 0 else fl i.toNatClampNeg) else 0)))) := by
  refine tM.of (own := "FlashVault$Batch") (ini := false) (by decide) rfl (fun h => by first | rfl | cases h) (Nat.le_of_ble_eq_true rfl) (lv := [(0, .ref r), (1, .int i)]) rfl ?_
  refine tt_iload_n d_Batch_userBytesOf_0 rfl 1 rfl ?_
  refine tt_if_lt (t := 12) d_Batch_userBytesOf_1 (by decide) (fun hc1 => ?_) (fun hc1 => ?_)
  · skip
    refine tt_iconst (v := 0) d_Batch_userBytesOf_12 (by decide) ?_
    refine tt_goto (t := 35) d_Batch_userBytesOf_13 (by decide) ?_
    exact tt_ret rfl (by first | rfl | decide | exact nz_ite _) (Nat.le_of_ble_eq_true rfl) (Nat.le_of_ble_eq_true rfl)  d_Batch_userBytesOf_35 (by refine ⟨?_, ?_⟩ <;> first | rfl | (simp [hc1, Int32.not_le.mpr hc1, vz0, vz1, pk_vb]; done) | (subst_vars; simp [hc1, Int32.not_le.mpr hc1, vz0, vz1, pk_vb]; done) | (subst_vars; rfl) | ((repeat' split) <;> simp_all; done))
  · skip
    refine tt_iload_n d_Batch_userBytesOf_4 rfl 1 rfl ?_
    refine tt_aload_n d_Batch_userBytesOf_5 rfl 0 rfl ?_
    refine tt_get F_Batch_28 d_Batch_userBytesOf_6 m_r f_r rfl ?_
    refine tt_icmp_lt (t := 16) d_Batch_userBytesOf_9 (by decide) (fun hc2 => ?_) (fun hc2 => ?_)
    · skip
      refine tt_aload_n d_Batch_userBytesOf_16 rfl 0 rfl ?_
      refine tt_get F_Batch_19 d_Batch_userBytesOf_17 m_r f_r rfl ?_
      refine tt_iload_n d_Batch_userBytesOf_20 rfl 1 rfl ?_
      refine tt_iald 0 d_Batch_userBytesOf_21 rfl m_kl f_kl (vi_40 (by assumption) (by assumption) hsz) ?_
      refine tt_iconst (v := 1) d_Batch_userBytesOf_22 (by decide) ?_
      refine tt_isub d_Batch_userBytesOf_23 ?_
      refine tt_aload_n d_Batch_userBytesOf_24 rfl 0 rfl ?_
      refine tt_get F_Batch_22 d_Batch_userBytesOf_25 m_r f_r rfl ?_
      refine tt_iload_n d_Batch_userBytesOf_28 rfl 1 rfl ?_
      refine tt_iald 0 d_Batch_userBytesOf_29 rfl m_ln f_ln (vi_40 (by assumption) (by assumption) hsz) ?_
      refine tt_iconst (v := 0) d_Batch_userBytesOf_30 (by decide) ?_
      refine tt_mmax w_4_82 w_1_49 w_1_3 w_1_50 ⟨Nat.le_of_ble_eq_true rfl, Nat.le_of_ble_eq_true rfl, Nat.le_of_ble_eq_true rfl, Nat.le_of_ble_eq_true rfl⟩ d_Batch_userBytesOf_31 ?_
      refine tt_iadd d_Batch_userBytesOf_34 ?_
      exact tt_ret rfl (by first | rfl | decide | exact nz_ite _) (Nat.le_of_ble_eq_true rfl) (Nat.le_of_ble_eq_true rfl)  d_Batch_userBytesOf_35 (by refine ⟨?_, ?_⟩ <;> first | rfl | (simp [hc1, Int32.not_lt.mp hc1, hc2, Int32.not_le.mpr hc2, vz0, vz1, pk_vb]; done) | (subst_vars; simp [hc1, Int32.not_lt.mp hc1, hc2, Int32.not_le.mpr hc2, vz0, vz1, pk_vb]; done) | (subst_vars; rfl) | ((repeat' split) <;> simp_all; done))
    · skip
      refine tt_iconst (v := 0) d_Batch_userBytesOf_12 (by decide) ?_
      refine tt_goto (t := 35) d_Batch_userBytesOf_13 (by decide) ?_
      exact tt_ret rfl (by first | rfl | decide | exact nz_ite _) (Nat.le_of_ble_eq_true rfl) (Nat.le_of_ble_eq_true rfl)  d_Batch_userBytesOf_35 (by refine ⟨?_, ?_⟩ <;> first | rfl | (simp [hc1, Int32.not_lt.mp hc1, hc2, Int32.not_lt.mp hc2, vz0, vz1, pk_vb]; done) | (subst_vars; simp [hc1, Int32.not_lt.mp hc1, hc2, Int32.not_lt.mp hc2, vz0, vz1, pk_vb]; done) | (subst_vars; rfl) | ((repeat' split) <;> simp_all; done))
set_option maxHeartbeats 4000000 in
set_option maxRecDepth 100000 in
/-- Batch.compareWith -/
theorem c_Batch_compareWith {l : Launch} {D : va_G} {kd : Nat → ClassId} {z : Nat} {S : tS} {r d s kl ln pc : Nat} {sz us : Int32} {q cg : Nat} {fd fs fk g : Nat → Int32} {i j m : Int32} (m_r : r ∈ S.1) (f_r : S.2 r = .inr (0, [.ref d, .ref s, .ref kl, .ref ln, .ref pc, .int sz, .int us])) (m_d : d ∈ S.1) (f_d : S.2 d = .inl (kd 1, 4100, .inl fd)) (m_s : s ∈ S.1) (f_s : S.2 s = .inl (kd 0, 40, .inl fs)) (m_kl : kl ∈ S.1) (f_kl : S.2 kl = .inl (kd 0, 40, .inl fk)) (m_q : q ∈ S.1) (f_q : S.2 q = .inl (kd 1, cg, .inl g))  (hsz : sz ≤ 40) (hcg : cg < 2 ^ 31) : tM l y_Batch_compareWith b_Batch_compareWith 5 (some FieldType.int) [] { frames := 2, locals := 90 } D (tyl kd) z [.ref r, .int i, .ref q, .int j, .int m] S (fun o9 T9 => T9 = S ∧ o9 = .inl (some (.int (bcv fd fs fk sz g cg i j m)))) := by
  refine tM.of (own := "FlashVault$Batch") (ini := false) (by decide) rfl (fun h => by first | rfl | cases h) (Nat.le_of_ble_eq_true rfl) (lv := [(0, .ref r), (1, .int i), (2, .ref q), (3, .int j), (4, .int m)]) rfl ?_
  refine tt_iload_n d_Batch_compareWith_0 rfl 1 rfl ?_
  refine tt_if_lt (t := 12) d_Batch_compareWith_1 (by decide) (fun hc1 => ?_) (fun hc1 => ?_)
  · skip
    refine tt_iconst (v := 0) d_Batch_compareWith_12 (by decide) ?_
    refine tt_goto (t := 39) d_Batch_compareWith_13 (by decide) ?_
    exact tt_ret rfl (by first | rfl | decide | exact nz_ite _) (Nat.le_of_ble_eq_true rfl) (Nat.le_of_ble_eq_true rfl)  d_Batch_compareWith_39 (by refine ⟨rfl, ?_⟩; unfold bcv; first | rfl | (simp [hc1, Int32.not_le.mpr hc1]; done))
  · skip
    refine tt_iload_n d_Batch_compareWith_4 rfl 1 rfl ?_
    refine tt_aload_n d_Batch_compareWith_5 rfl 0 rfl ?_
    refine tt_get F_Batch_28 d_Batch_compareWith_6 m_r f_r rfl ?_
    refine tt_icmp_lt (t := 16) d_Batch_compareWith_9 (by decide) (fun hc2 => ?_) (fun hc2 => ?_)
    · skip
      refine tt_aload_n d_Batch_compareWith_16 rfl 0 rfl ?_
      refine tt_get F_Batch_9 d_Batch_compareWith_17 m_r f_r rfl ?_
      refine tt_aload_n d_Batch_compareWith_20 rfl 0 rfl ?_
      refine tt_get F_Batch_15 d_Batch_compareWith_21 m_r f_r rfl ?_
      refine tt_iload_n d_Batch_compareWith_24 rfl 1 rfl ?_
      refine tt_iald 0 d_Batch_compareWith_25 rfl m_s f_s (vi_40 (by assumption) (by assumption) hsz) ?_
      refine tt_aload_n d_Batch_compareWith_26 rfl 0 rfl ?_
      refine tt_get F_Batch_19 d_Batch_compareWith_27 m_r f_r rfl ?_
      refine tt_iload_n d_Batch_compareWith_30 rfl 1 rfl ?_
      refine tt_iald 0 d_Batch_compareWith_31 rfl m_kl f_kl (vi_40 (by assumption) (by assumption) hsz) ?_
      refine tt_aload_n d_Batch_compareWith_32 rfl 2 rfl ?_
      refine tt_iload_n d_Batch_compareWith_33 rfl 3 rfl ?_
      refine tt_iload d_Batch_compareWith_34 4 rfl ?_
      refine tt_callS (bytes := b_Row_compare) (nL' := 9) (ret' := (some FieldType.int)) (hh' := []) (As := [.ref d, .int ((fs (i).toNatClampNeg)), .int ((fk (i).toNatClampNeg)), .ref q, .int j, .int m]) w_4_70 w_4_71 w_1_2 w_4_72 ⟨by decide, by decide, rfl⟩ (c_Row_compareV m_d f_d m_q f_q (by decide) hcg) ⟨Nat.le_of_ble_eq_true rfl, Nat.le_of_ble_eq_true rfl, Nat.le_of_ble_eq_true rfl, Nat.le_of_ble_eq_true rfl⟩ (Nat.le_of_ble_eq_true rfl) d_Batch_compareWith_36 rfl (fun v9 S3 hq => ?_) (fun k9 S9 hq => by cases hq.2)
      obtain ⟨hS3, ho9⟩ := hq
      cases ho9
      refine tt_S hS3.symm ?_
      exact tt_ret rfl (by first | rfl | decide | exact nz_ite _) (Nat.le_of_ble_eq_true rfl) (Nat.le_of_ble_eq_true rfl)  d_Batch_compareWith_39 (by refine ⟨rfl, ?_⟩; unfold bcv; first | rfl | (simp [hc1, Int32.not_lt.mp hc1, hc2, Int32.not_le.mpr hc2]; done))
    · skip
      refine tt_iconst (v := 0) d_Batch_compareWith_12 (by decide) ?_
      refine tt_goto (t := 39) d_Batch_compareWith_13 (by decide) ?_
      exact tt_ret rfl (by first | rfl | decide | exact nz_ite _) (Nat.le_of_ble_eq_true rfl) (Nat.le_of_ble_eq_true rfl)  d_Batch_compareWith_39 (by refine ⟨rfl, ?_⟩; unfold bcv; first | rfl | (simp [hc1, Int32.not_lt.mp hc1, hc2, Int32.not_lt.mp hc2]; done))
set_option maxHeartbeats 4000000 in
set_option maxRecDepth 100000 in
/-- Batch.indexOfKey: its loop -/
theorem lp_Batch_indexOfKey {l : Launch} {D : va_G} {kd : Nat → ClassId} {z : Nat} {S : tS} {r d s kl ln pc : Nat} {us : Int32} {q cg : Nat} {fd fs fk g : Nat → Int32} {j m sz : Int32} {n' : Nat} (m_r : r ∈ S.1) (f_r : S.2 r = .inr (0, [.ref d, .ref s, .ref kl, .ref ln, .ref pc, .int sz, .int us])) (m_d : d ∈ S.1) (f_d : S.2 d = .inl (kd 1, 4100, .inl fd)) (m_s : s ∈ S.1) (f_s : S.2 s = .inl (kd 0, 40, .inl fs)) (m_kl : kl ∈ S.1) (f_kl : S.2 kl = .inl (kd 0, 40, .inl fk)) (m_q : q ∈ S.1) (f_q : S.2 q = .inl (kd 1, cg, .inl g)) (hsz : sz ≤ 40) (hcg : cg < 2 ^ 31) (hn : n' ≤ 40) (esz : sz = nI n') : ∀ (t k' : Nat) (k  : Int32) (res : Int32), k = nI k' → k' + t = n' → res = bix fd fs fk sz g cg j m t k → tP b_Batch_indexOfKey "FlashVault$Batch" 5 (some FieldType.int) false [] { frames := 3, locals := 115 } D (tyl kd) z l (fun o9 T9 => T9 = S ∧ o9 = .inl (some (.int res))) 0 0 3 [(4, .int k), (0, .ref r), (1, .ref q), (2, .int j), (3, .int m)] [] S := by
  intro t
  induction t with
  | zero =>
    intro k' k  res hk hs hr
    have hge : sz ≤ k := by rw [hk, show k' = n' by omega]; first | exact Int32.le_refl _ | decide | (rw [nI_add]; exact Int32.le_refl _) | (rw [esz]; exact Int32.le_refl _)
    refine tt_iload d_Batch_indexOfKey_3 0 rfl ?_
    refine tt_aload_n d_Batch_indexOfKey_5 rfl 1 rfl ?_
    refine tt_get F_Batch_28 d_Batch_indexOfKey_6 m_r f_r rfl ?_
    refine tt_icmp_ge (t := 44) d_Batch_indexOfKey_9 (by decide) (fun hc1 => ?_) (fun hc1 => ?_)
    · skip
      refine tt_iconst (v := -1) d_Batch_indexOfKey_44 (by decide) ?_
      exact tt_ret rfl (by first | rfl | decide | exact nz_ite _) (Nat.le_refl _) (Nat.le_refl _) d_Batch_indexOfKey_45 (by first | (exact absurd hge (by first | assumption | exact Int32.not_le.mpr (by assumption))) | (refine ⟨rfl, ?_⟩; rw [hr]; unfold bix; first | rfl | (simp [hc1, Int32.not_lt.mpr hc1]; done) | simp_all))
    · skip
      exact absurd hge hc1
  | succ t ih =>
    intro k' k  res hk hs hr
    have hlt : ¬ sz ≤ k := by rw [hk]; first | exact nI_ge (b := n') (by omega) (by omega) | (rw [nI_add]; exact nI_ge (by omega) (by omega)) | (rw [esz]; exact nI_ge (by omega) (by omega))
    refine tt_iload d_Batch_indexOfKey_3 0 rfl ?_
    refine tt_aload_n d_Batch_indexOfKey_5 rfl 1 rfl ?_
    refine tt_get F_Batch_28 d_Batch_indexOfKey_6 m_r f_r rfl ?_
    refine tt_icmp_ge (t := 44) d_Batch_indexOfKey_9 (by decide) (fun hc1 => ?_) (fun hc1 => ?_)
    · skip
      exact absurd hc1 hlt
    · skip
      refine tt_aload_n d_Batch_indexOfKey_12 rfl 1 rfl ?_
      refine tt_get F_Batch_19 d_Batch_indexOfKey_13 m_r f_r rfl ?_
      refine tt_iload d_Batch_indexOfKey_16 0 rfl ?_
      refine tt_iald 0 d_Batch_indexOfKey_18 rfl m_kl f_kl (by rw [hk]; exact vp_in_nI (by omega) (by omega)) ?_
      refine tt_iload_n d_Batch_indexOfKey_19 rfl 4 rfl ?_
      refine tt_icmp_ne (t := 38) d_Batch_indexOfKey_20 (by decide) (fun hc2 => ?_) (fun hc2 => ?_)
      · skip
        refine tt_iinc (v := (k + 1)) (lv' := [(4, .int ((k + 1))), (0, .ref r), (1, .ref q), (2, .int j), (3, .int m)]) d_Batch_indexOfKey_38 0 rfl rfl (by decide) rfl ?_
        refine tt_goto (t := 3) d_Batch_indexOfKey_41 (by decide) ?_
        refine tt_sub (lv' := [(4, .int ((k + 1))), (0, .ref r), (1, .ref q), (2, .int j), (3, .int m)]) [0, 1, 2, 3, 4] rfl ?_
        exact ih (k' + 1) (k + 1)  res (by rw [hk]; exact nI_1 k') (by omega) (by rw [hr, bix]; first | rfl | (simp [hc1, Int32.not_le.mp hc1, hc2]; done) | simp_all)
      · skip
        refine tt_aload_n d_Batch_indexOfKey_23 rfl 1 rfl ?_
        refine tt_iload d_Batch_indexOfKey_24 0 rfl ?_
        refine tt_aload_n d_Batch_indexOfKey_26 rfl 2 rfl ?_
        refine tt_iload_n d_Batch_indexOfKey_27 rfl 3 rfl ?_
        refine tt_iload_n d_Batch_indexOfKey_28 rfl 4 rfl ?_
        refine tt_callV (bytes := b_Batch_compareWith) (nL' := 5) (ret' := (some FieldType.int)) (hh' := []) (As := [.int k, .ref q, .int j, .int m]) w_4_66 w_4_67 w_4_68 w_1_5 w_4_69 ⟨by decide, by decide, rfl⟩ (c_Batch_compareWith m_r f_r m_d f_d m_s f_s m_kl f_kl m_q f_q hsz hcg) m_r f_r rfl ⟨Nat.le_of_ble_eq_true rfl, Nat.le_of_ble_eq_true rfl, Nat.le_of_ble_eq_true rfl, Nat.le_of_ble_eq_true rfl⟩ (Nat.le_of_ble_eq_true rfl) d_Batch_indexOfKey_29 rfl (fun v9 S3 hq => ?_) (fun k9 S9 hq => by cases hq.2)
        obtain ⟨hS3, ho9⟩ := hq
        cases ho9
        refine tt_S hS3.symm ?_
        refine tt_if_ne (t := 38) d_Batch_indexOfKey_32 (by decide) (fun hc4 => ?_) (fun hc4 => ?_)
        · skip
          refine tt_iinc (v := (k + 1)) (lv' := [(4, .int ((k + 1))), (0, .ref r), (1, .ref q), (2, .int j), (3, .int m)]) d_Batch_indexOfKey_38 0 rfl rfl (by decide) rfl ?_
          refine tt_goto (t := 3) d_Batch_indexOfKey_41 (by decide) ?_
          refine tt_sub (lv' := [(4, .int ((k + 1))), (0, .ref r), (1, .ref q), (2, .int j), (3, .int m)]) [0, 1, 2, 3, 4] rfl ?_
          exact ih (k' + 1) (k + 1)  res (by rw [hk]; exact nI_1 k') (by omega) (by rw [hr, bix]; first | rfl | (simp [hc1, Int32.not_le.mp hc1, hc2, hc4]; done) | simp_all)
        · skip
          refine tt_iload d_Batch_indexOfKey_35 0 rfl ?_
          exact tt_ret rfl (by first | rfl | decide | exact nz_ite _) (Nat.le_refl _) (Nat.le_refl _) d_Batch_indexOfKey_37 (by first | (exact absurd (by assumption) hlt) | (refine ⟨rfl, ?_⟩; rw [hr]; unfold bix; first | rfl | (simp [hc1, Int32.not_le.mp hc1, hc2, hc4]; done) | simp_all))
set_option maxHeartbeats 4000000 in
set_option maxRecDepth 100000 in
/-- Batch.indexOfKey -/
theorem c_Batch_indexOfKey {l : Launch} {D : va_G} {kd : Nat → ClassId} {z : Nat} {S : tS} {r d s kl ln pc : Nat} {us : Int32} {q cg : Nat} {fd fs fk g : Nat → Int32} {j m sz : Int32} {n' : Nat} (m_r : r ∈ S.1) (f_r : S.2 r = .inr (0, [.ref d, .ref s, .ref kl, .ref ln, .ref pc, .int sz, .int us])) (m_d : d ∈ S.1) (f_d : S.2 d = .inl (kd 1, 4100, .inl fd)) (m_s : s ∈ S.1) (f_s : S.2 s = .inl (kd 0, 40, .inl fs)) (m_kl : kl ∈ S.1) (f_kl : S.2 kl = .inl (kd 0, 40, .inl fk)) (m_q : q ∈ S.1) (f_q : S.2 q = .inl (kd 1, cg, .inl g))  (hsz : sz ≤ 40) (hcg : cg < 2 ^ 31) (hn : n' ≤ 40) (esz : sz = nI n') : tM l y_Batch_indexOfKey b_Batch_indexOfKey 5 (some FieldType.int) [] { frames := 3, locals := 115 } D (tyl kd) z [.ref r, .ref q, .int j, .int m] S (fun o9 T9 => T9 = S ∧ o9 = .inl (some (.int (bix fd fs fk sz g cg j m n' 0)))) := by
  refine tM.of (own := "FlashVault$Batch") (ini := false) (by decide) rfl (fun h => by first | rfl | cases h) (Nat.le_of_ble_eq_true rfl) (lv := [(0, .ref r), (1, .ref q), (2, .int j), (3, .int m)]) rfl ?_
  refine tt_iconst (v := 0) d_Batch_indexOfKey_0 (by decide) ?_
  refine tt_istore (lv' := [(4, .int 0), (0, .ref r), (1, .ref q), (2, .int j), (3, .int m)]) d_Batch_indexOfKey_1 (by decide) rfl ?_
  exact lp_Batch_indexOfKey m_r f_r m_d f_d m_s f_s m_kl f_kl m_q f_q hsz hcg hn esz n' 0 0 _ nI_0.symm (by omega) rfl
set_option maxHeartbeats 4000000 in
set_option maxRecDepth 100000 in
/-- Batch.indexOf -/
theorem c_Batch_indexOf {l : Launch} {D : va_G} {kd : Nat → ClassId} {z : Nat} {S : tS} {r d s kl ln pc : Nat} {us : Int32} {q cg : Nat} {fd fs fk g : Nat → Int32} {m sz : Int32} {n' : Nat} (m_r : r ∈ S.1) (f_r : S.2 r = .inr (0, [.ref d, .ref s, .ref kl, .ref ln, .ref pc, .int sz, .int us])) (m_d : d ∈ S.1) (f_d : S.2 d = .inl (kd 1, 4100, .inl fd)) (m_s : s ∈ S.1) (f_s : S.2 s = .inl (kd 0, 40, .inl fs)) (m_kl : kl ∈ S.1) (f_kl : S.2 kl = .inl (kd 0, 40, .inl fk)) (m_q : q ∈ S.1) (f_q : S.2 q = .inl (kd 1, cg, .inl g))  (hsz : sz ≤ 40) (hcg : cg < 2 ^ 31) (hn : n' ≤ 40) (esz : sz = nI n') : tM l y_Batch_indexOf b_Batch_indexOf 3 (some FieldType.int) [] { frames := 4, locals := 140 } D (tyl kd) z [.ref r, .ref q, .int m] S (fun o9 T9 => T9 = S ∧ o9 = .inl (some (.int (bix fd fs fk sz g cg 0 m n' 0)))) := by
  refine tM.of (own := "FlashVault$Batch") (ini := false) (by decide) rfl (fun h => by first | rfl | cases h) (Nat.le_of_ble_eq_true rfl) (lv := [(0, .ref r), (1, .ref q), (2, .int m)]) rfl ?_
  refine tt_aload_n d_Batch_indexOf_0 rfl 0 rfl ?_
  refine tt_aload_n d_Batch_indexOf_1 rfl 1 rfl ?_
  refine tt_iconst (v := 0) d_Batch_indexOf_2 (by decide) ?_
  refine tt_iload_n d_Batch_indexOf_3 rfl 2 rfl ?_
  refine tt_callV (bytes := b_Batch_indexOfKey) (nL' := 5) (ret' := (some FieldType.int)) (hh' := []) (As := [.ref q, .int 0, .int m]) w_4_62 w_4_63 w_4_64 w_1_5 w_4_65 ⟨by decide, by decide, rfl⟩ (c_Batch_indexOfKey m_r f_r m_d f_d m_s f_s m_kl f_kl m_q f_q hsz hcg hn esz) m_r f_r rfl ⟨Nat.le_of_ble_eq_true rfl, Nat.le_of_ble_eq_true rfl, Nat.le_of_ble_eq_true rfl, Nat.le_of_ble_eq_true rfl⟩ (Nat.le_of_ble_eq_true rfl) d_Batch_indexOf_4 rfl (fun v9 S1 hq => ?_) (fun k9 S9 hq => by cases hq.2)
  obtain ⟨hS1, ho9⟩ := hq
  cases ho9
  refine tt_S hS1.symm ?_
  exact tt_ret rfl (by first | rfl | decide | exact nz_ite _) (Nat.le_of_ble_eq_true rfl) (Nat.le_of_ble_eq_true rfl)  d_Batch_indexOf_7 (by refine ⟨?_, ?_⟩ <;> first | rfl | (simp [vz0, vz1, pk_vb]; done) | (subst_vars; simp [vz0, vz1, pk_vb]; done) | (subst_vars; rfl) | ((repeat' split) <;> simp_all; done))
