/-! ===== Chip.program; written by wip/gen/chip2.py ===== -/
theorem c_Row_copyU {l : Launch} {D : va_G} {kd : Nat → ClassId} {z : Nat} {S : tS} {a b ca cb : Nat} {i j n : Int32} {f g : Nat → Int32} (ma : a ∈ S.1) (fa : S.2 a = .inl (kd 1, ca, .inl f)) (mb : b ∈ S.1) (fb : S.2 b = .inl (kd 1, cb, .inl g)) (hca : ca < 2 ^ 31) (hcb : cb < 2 ^ 31) (hfit : sb_Fit f) : tM l y_Row_copy b_Row_copy 5 none [] { frames := 1, locals := 60 } D (tyl kd) z [.ref a, .int i, .ref b, .int j, .int n] S (fun o9 T9 => T9 = tset S b (.inl (kd 1, cb, .inl (if ¬ n ≤ 0 ∧ ¬ i < 0 ∧ ¬ j < 0 ∧ ¬ (nI ca - n) < i ∧ ¬ (nI cb - n) < j then va_cpy f g i.toNatClampNeg j.toNatClampNeg n.toNatClampNeg else g))) ∧ o9 = .inl none) :=
  (c_Row_copy ma fa mb fb hca hcb hfit).mono (fun o T q => ⟨by rw [q.2]; split <;> first | rfl | exact (ts_self fb).symm, q.1⟩)
theorem c_Chip_grantedU {l : Launch} {D : va_G} {kd : Nat → ClassId} {z : Nat} {S : tS} {c a b : Nat} {pl bl ov n : Int32} (m_c : c ∈ S.1) (f_c : S.2 c = .inr (1, [.ref a, .ref b, .int pl, .int bl, .int ov])) : tM l y_Chip_granted b_Chip_granted 2 (some .int) [] { frames := 1, locals := 40 } D (tyl kd) z [.ref c, .int n] S (fun o9 T9 => T9 = tset S c (.inr (1, [.ref a, .ref b, .int (if pl < 0 then pl else pl - 1), .int bl, .int ov])) ∧ o9 = .inl (some (.int (if pl < 0 ∨ ¬ (pl - 1) < 0 then n else (if (n - 1) < bl then (n - 1) else bl))))) :=
  (c_Chip_granted (ca := 0) (cb := 0) (f := fun _ => 0) (g := fun _ => 0) m_c f_c).mono (fun o T q => ⟨by rw [q.1]; by_cases h : pl < 0 <;> simp [h]; exact (ts_self f_c).symm, q.2⟩)

abbrev b_Chip_program : ByteArray := prog_3_method_5_code
def y_Chip_program : MethodName := ⟨"FlashVault$Chip", "program", "(I[BII)V"⟩
theorem d_Chip_program_0 : decode b_Chip_program 0 = .ok (.iload_n 1, 1) := by decide +kernel
theorem d_Chip_program_1 : decode b_Chip_program 1 = .ok (.sipush 2048, 3) := by decide +kernel
theorem d_Chip_program_4 : decode b_Chip_program 4 = .ok (.idiv, 1) := by decide +kernel
theorem d_Chip_program_5 : decode b_Chip_program 5 = .ok (.istore 5, 2) := by decide +kernel
theorem d_Chip_program_7 : decode b_Chip_program 7 = .ok (.iload_n 1, 1) := by decide +kernel
theorem d_Chip_program_8 : decode b_Chip_program 8 = .ok (.sipush 2048, 3) := by decide +kernel
theorem d_Chip_program_11 : decode b_Chip_program 11 = .ok (.irem, 1) := by decide +kernel
theorem d_Chip_program_12 : decode b_Chip_program 12 = .ok (.istore 6, 2) := by decide +kernel
theorem d_Chip_program_14 : decode b_Chip_program 14 = .ok (.iload_n 1, 1) := by decide +kernel
theorem d_Chip_program_15 : decode b_Chip_program 15 = .ok (.ifCond .lt 30, 3) := by decide +kernel
theorem d_Chip_program_18 : decode b_Chip_program 18 = .ok (.iload 5, 2) := by decide +kernel
theorem d_Chip_program_20 : decode b_Chip_program 20 = .ok (.aload_n 0, 1) := by decide +kernel
theorem d_Chip_program_21 : decode b_Chip_program 21 = .ok (.getfield 31, 3) := by decide +kernel
theorem w_1_169 : (Cond.fieldLink "FlashVault$Chip" (31 : Nat) "FlashVault$Chip" "tops" "[I") ∈ gW := gW_1 169 rfl rfl
theorem F_Chip_31 : tF "FlashVault$Chip" 31 1 1 RC1 FC1 5 tC1 := ⟨rfl, by decide, rfl, iC1, kC1, nC1, w_1_169⟩
theorem d_Chip_program_24 : decode b_Chip_program 24 = .ok (.arraylength, 1) := by decide +kernel
theorem d_Chip_program_25 : decode b_Chip_program 25 = .ok (.if_icmp .ge 20, 3) := by decide +kernel
theorem d_Chip_program_28 : decode b_Chip_program 28 = .ok (.iload 4, 2) := by decide +kernel
theorem d_Chip_program_30 : decode b_Chip_program 30 = .ok (.iconst 1, 1) := by decide +kernel
theorem d_Chip_program_31 : decode b_Chip_program 31 = .ok (.if_icmp .lt 14, 3) := by decide +kernel
theorem d_Chip_program_34 : decode b_Chip_program 34 = .ok (.iload 4, 2) := by decide +kernel
theorem d_Chip_program_36 : decode b_Chip_program 36 = .ok (.sipush 2048, 3) := by decide +kernel
theorem d_Chip_program_39 : decode b_Chip_program 39 = .ok (.iload 6, 2) := by decide +kernel
theorem d_Chip_program_41 : decode b_Chip_program 41 = .ok (.isub, 1) := by decide +kernel
theorem d_Chip_program_42 : decode b_Chip_program 42 = .ok (.if_icmp .le 4, 3) := by decide +kernel
theorem d_Chip_program_46 : decode b_Chip_program 46 = .ok (.aload_n 0, 1) := by decide +kernel
theorem d_Chip_program_47 : decode b_Chip_program 47 = .ok (.iload 4, 2) := by decide +kernel
theorem d_Chip_program_49 : decode b_Chip_program 49 = .ok (.invokevirtual 44, 3) := by decide +kernel
theorem w_5_110 : (Cond.methodLink "FlashVault$Chip" (44 : Nat) ({ cls := "FlashVault$Chip", name := "granted", desc := "(I)I" } : MethodName)) ∈ gW := gW_5 110 rfl rfl
theorem w_1_7 : (Cond.initialized "FlashVault$Chip") ∈ gW := gW_1 7 rfl rfl
theorem w_5_113 : (Cond.code ({ cls := "FlashVault$Chip", name := "granted", desc := "(I)I" } : MethodName) prog_3_method_4_code (2 : Nat) (Option.some FieldType.int)) ∈ gW := gW_5 113 rfl rfl
theorem w_5_112 : (Cond.selects "FlashVault$Chip" ({ cls := "FlashVault$Chip", name := "granted", desc := "(I)I" } : MethodName) ({ cls := "FlashVault$Chip", name := "granted", desc := "(I)I" } : MethodName)) ∈ gW := gW_5 112 rfl rfl
theorem w_5_111 : (Cond.instanceMethod ({ cls := "FlashVault$Chip", name := "granted", desc := "(I)I" } : MethodName)) ∈ gW := gW_5 111 rfl rfl
theorem d_Chip_program_52 : decode b_Chip_program 52 = .ok (.istore 7, 2) := by decide +kernel
theorem d_Chip_program_54 : decode b_Chip_program 54 = .ok (.aload_n 0, 1) := by decide +kernel
theorem d_Chip_program_55 : decode b_Chip_program 55 = .ok (.dup, 1) := by decide +kernel
theorem d_Chip_program_56 : decode b_Chip_program 56 = .ok (.getfield 18, 3) := by decide +kernel
theorem w_1_172 : (Cond.fieldLink "FlashVault$Chip" (18 : Nat) "FlashVault$Chip" "overwritten" "I") ∈ gW := gW_1 172 rfl rfl
theorem F_Chip_18 : tF "FlashVault$Chip" 18 1 4 RC1 FC1 5 tC1 := ⟨rfl, by decide, rfl, iC1, kC1, nC1, w_1_172⟩
theorem d_Chip_program_59 : decode b_Chip_program 59 = .ok (.iconst 0, 1) := by decide +kernel
theorem d_Chip_program_60 : decode b_Chip_program 60 = .ok (.aload_n 0, 1) := by decide +kernel
theorem d_Chip_program_61 : decode b_Chip_program 61 = .ok (.getfield 31, 3) := by decide +kernel
theorem d_Chip_program_64 : decode b_Chip_program 64 = .ok (.iload 5, 2) := by decide +kernel
theorem d_Chip_program_66 : decode b_Chip_program 66 = .ok (.iaload, 1) := by decide +kernel
theorem d_Chip_program_67 : decode b_Chip_program 67 = .ok (.iload 6, 2) := by decide +kernel
theorem d_Chip_program_69 : decode b_Chip_program 69 = .ok (.isub, 1) := by decide +kernel
theorem d_Chip_program_70 : decode b_Chip_program 70 = .ok (.iload 7, 2) := by decide +kernel
theorem d_Chip_program_72 : decode b_Chip_program 72 = .ok (.invokestatic 41, 3) := by decide +kernel
theorem d_Chip_program_75 : decode b_Chip_program 75 = .ok (.invokestatic 21, 3) := by decide +kernel
theorem w_1_162 : (Cond.methodLink "FlashVault$Chip" (21 : Nat) ({ cls := "java/lang/Math", name := "max", desc := "(II)I" } : MethodName)) ∈ gW := gW_1 162 rfl rfl
theorem w_1_49 : (Cond.static ({ cls := "java/lang/Math", name := "max", desc := "(II)I" } : MethodName)) ∈ gW := gW_1 49 rfl rfl
theorem w_1_50 : (Cond.code ({ cls := "java/lang/Math", name := "max", desc := "(II)I" } : MethodName) prog_23_method_65_code (2 : Nat) (Option.some FieldType.int)) ∈ gW := gW_1 50 rfl rfl
theorem d_Chip_program_78 : decode b_Chip_program 78 = .ok (.iadd, 1) := by decide +kernel
theorem d_Chip_program_79 : decode b_Chip_program 79 = .ok (.putfield 18, 3) := by decide +kernel
theorem d_Chip_program_82 : decode b_Chip_program 82 = .ok (.aload_n 2, 1) := by decide +kernel
theorem d_Chip_program_83 : decode b_Chip_program 83 = .ok (.iload_n 3, 1) := by decide +kernel
theorem d_Chip_program_84 : decode b_Chip_program 84 = .ok (.aload_n 0, 1) := by decide +kernel
theorem d_Chip_program_85 : decode b_Chip_program 85 = .ok (.getfield 27, 3) := by decide +kernel
theorem d_Chip_program_88 : decode b_Chip_program 88 = .ok (.iload_n 1, 1) := by decide +kernel
theorem d_Chip_program_89 : decode b_Chip_program 89 = .ok (.iload 7, 2) := by decide +kernel
theorem d_Chip_program_91 : decode b_Chip_program 91 = .ok (.invokestatic 48, 3) := by decide +kernel
theorem d_Chip_program_94 : decode b_Chip_program 94 = .ok (.aload_n 0, 1) := by decide +kernel
theorem d_Chip_program_95 : decode b_Chip_program 95 = .ok (.getfield 31, 3) := by decide +kernel
theorem d_Chip_program_98 : decode b_Chip_program 98 = .ok (.iload 5, 2) := by decide +kernel
theorem d_Chip_program_100 : decode b_Chip_program 100 = .ok (.aload_n 0, 1) := by decide +kernel
theorem d_Chip_program_101 : decode b_Chip_program 101 = .ok (.getfield 31, 3) := by decide +kernel
theorem d_Chip_program_104 : decode b_Chip_program 104 = .ok (.iload 5, 2) := by decide +kernel
theorem d_Chip_program_106 : decode b_Chip_program 106 = .ok (.iaload, 1) := by decide +kernel
theorem d_Chip_program_107 : decode b_Chip_program 107 = .ok (.iload 6, 2) := by decide +kernel
theorem d_Chip_program_109 : decode b_Chip_program 109 = .ok (.iload 7, 2) := by decide +kernel
theorem d_Chip_program_111 : decode b_Chip_program 111 = .ok (.iadd, 1) := by decide +kernel
theorem d_Chip_program_112 : decode b_Chip_program 112 = .ok (.invokestatic 21, 3) := by decide +kernel
theorem d_Chip_program_115 : decode b_Chip_program 115 = .ok (.iastore, 1) := by decide +kernel
theorem d_Chip_program_116 : decode b_Chip_program 116 = .ok (.iload 7, 2) := by decide +kernel
theorem d_Chip_program_118 : decode b_Chip_program 118 = .ok (.iload 4, 2) := by decide +kernel
theorem d_Chip_program_120 : decode b_Chip_program 120 = .ok (.if_icmp .ge 13, 3) := by decide +kernel
theorem d_Chip_program_133 : decode b_Chip_program 133 = .ok (.return_, 1) := by decide +kernel
theorem d_Chip_program_123 : decode b_Chip_program 123 = .ok (.new 54, 3) := by decide +kernel
theorem d_Chip_program_126 : decode b_Chip_program 126 = .ok (.dup, 1) := by decide +kernel
theorem d_Chip_program_127 : decode b_Chip_program 127 = .ok (.ldc 56, 2) := by decide +kernel
theorem d_Chip_program_129 : decode b_Chip_program 129 = .ok (.invokespecial 58, 3) := by decide +kernel
theorem d_Chip_program_132 : decode b_Chip_program 132 = .ok (.athrow, 1) := by decide +kernel
abbrev b_java_lang_IllegalStateException_init : ByteArray := prog_20_method_2_code
def y_java_lang_IllegalStateException_init : MethodName := ⟨"java/lang/IllegalStateException", "<init>", "(Ljava/lang/String;)V"⟩
theorem xA_Chip_58 : ∀ w ∈ xAtoms "FlashVault$Chip" 58 "java/lang/IllegalStateException" 7 b_java_lang_IllegalStateException_init, w ∈ gW ∨ w ∈ eW := by
  intro w hw
  have h : (xAtoms "FlashVault$Chip" 58 "java/lang/IllegalStateException" 7 b_java_lang_IllegalStateException_init).all (fun w => decide (w ∈ gW) || decide (w ∈ eW)) = true := by decide +kernel
  have h2 := List.all_eq_true.mp h w hw
  simpa using h2
theorem d_java_lang_IllegalStateException_init_0 : decode b_java_lang_IllegalStateException_init 0 = .ok (.aload_n 0, 1) := by decide +kernel
theorem d_java_lang_IllegalStateException_init_1 : decode b_java_lang_IllegalStateException_init 1 = .ok (.aload_n 1, 1) := by decide +kernel
theorem d_java_lang_IllegalStateException_init_2 : decode b_java_lang_IllegalStateException_init 2 = .ok (.invokespecial 7, 3) := by decide +kernel
theorem d_java_lang_IllegalStateException_init_5 : decode b_java_lang_IllegalStateException_init 5 = .ok (.return_, 1) := by decide +kernel
theorem w_6_136 : (Cond.classLink "FlashVault$Chip" (54 : Nat) "java/lang/IllegalStateException") ∈ gW := gW_6 136 rfl rfl
theorem w_3_83 : (Cond.instantiable "java/lang/IllegalStateException" (6 : Nat)) ∈ gW := gW_3 83 rfl rfl
theorem w_1_19 : (Cond.initialized "java/lang/IllegalStateException") ∈ gW := gW_1 19 rfl rfl
set_option maxHeartbeats 4000000 in
set_option maxRecDepth 100000 in
/-- Chip.program, in its bounds: what is granted of the part is written; less than all of it: the power fails -/
theorem c_Chip_program {l : Launch} {D : va_G} {kd : Nat → ClassId} {z : Nat} {S : tS} {c a b r ca cb cr : Nat} {pl bl ov x i n nn : Int32} {f g u : Nat → Int32} (m_c : c ∈ S.1) (f_c : S.2 c = .inr (1, [.ref a, .ref b, .int pl, .int bl, .int ov])) (m_a : a ∈ S.1) (f_a : S.2 a = .inl (kd 1, ca, .inl f)) (m_b : b ∈ S.1) (f_b : S.2 b = .inl (kd 0, cb, .inl g)) (m_r : r ∈ S.1) (f_r : S.2 r = .inl (kd 1, cr, .inl u)) (n_a_b : a ≠ b) (n_a_r : a ≠ r) (n_b_r : b ≠ r) (hl0 : l.stackTraces = false) (hnn : nn = (if pl < 0 ∨ ¬ (pl - 1) < 0 then n else (if (n - 1) < bl then (n - 1) else bl))) (hca : ca < 2 ^ 31) (hcb : cb < 2 ^ 31) (hcr : cr < 2 ^ 31) (hfit : sb_Fit u) (hx : ¬ x < 0) (hxb : ¬ nI cb ≤ x / 2048) (hx0 : vp_in (x / 2048) cb) (hn1 : ¬ n < 1) (hn2 : n ≤ 2048 - (x - x / 2048 * 2048)) : tM l y_Chip_program b_Chip_program 8 none [] { frames := 6, cells := 1, slots := 6, locals := 100 } D (tyl kd) z [.ref c, .int x, .ref r, .int i, .int n] S (fun o9 T9 => T9 = tset (tset (tset S c (.inr (1, [.ref a, .ref b, .int (if pl < 0 then pl else pl - 1), .int bl, .int (ov + (if 0 < (if nn < (g (x / 2048).toNatClampNeg - (x - x / 2048 * 2048)) then nn else (g (x / 2048).toNatClampNeg - (x - x / 2048 * 2048))) then (if nn < (g (x / 2048).toNatClampNeg - (x - x / 2048 * 2048)) then nn else (g (x / 2048).toNatClampNeg - (x - x / 2048 * 2048))) else 0))]))) a (.inl (kd 1, ca, .inl (if ¬ nn ≤ 0 ∧ ¬ i < 0 ∧ ¬ x < 0 ∧ ¬ (nI cr - nn) < i ∧ ¬ (nI ca - nn) < x then va_cpy u f i.toNatClampNeg x.toNatClampNeg nn.toNatClampNeg else f)))) b (.inl (kd 0, cb, .inl (upd g (x / 2048).toNatClampNeg (if (g (x / 2048).toNatClampNeg) < ((x - x / 2048 * 2048) + nn) then ((x - x / 2048 * 2048) + nn) else (g (x / 2048).toNatClampNeg))))) ∧ o9 = if nn < n then .inr 1 else .inl none) := by
  refine tM.of (own := "FlashVault$Chip") (ini := false) (by decide) rfl (fun h => by first | rfl | cases h) (Nat.le_of_ble_eq_true rfl) (lv := [(0, .ref c), (1, .int x), (2, .ref r), (3, .int i), (4, .int n)]) rfl ?_
  refine tt_iload_n d_Chip_program_0 rfl 1 rfl ?_
  refine tt_sipush (v := 2048) d_Chip_program_1 (by decide) ?_
  refine tt_idiv d_Chip_program_4 (by decide) ?_
  refine tt_istore (lv' := [(5, .int ((x / 2048))), (0, .ref c), (1, .int x), (2, .ref r), (3, .int i), (4, .int n)]) d_Chip_program_5 (by decide) rfl ?_
  refine tt_iload_n d_Chip_program_7 rfl 2 rfl ?_
  refine tt_sipush (v := 2048) d_Chip_program_8 (by decide) ?_
  refine tt_irem d_Chip_program_11 (by decide) ?_
  refine tt_istore (lv' := [(6, .int ((x - x / 2048 * 2048))), (5, .int ((x / 2048))), (0, .ref c), (1, .int x), (2, .ref r), (3, .int i), (4, .int n)]) d_Chip_program_12 (by decide) rfl ?_
  refine tt_iload_n d_Chip_program_14 rfl 3 rfl ?_
  refine tt_if_lt (t := 45) d_Chip_program_15 (by decide) (fun hc1 => ?_) (fun hc1 => ?_)
  · skip
    exact absurd hc1 (by assumption)
  · skip
    refine tt_iload d_Chip_program_18 1 rfl ?_
    refine tt_aload_n d_Chip_program_20 rfl 2 rfl ?_
    refine tt_get F_Chip_31 d_Chip_program_21 m_c f_c rfl ?_
    refine tt_alen (v := nI (cb)) 0 d_Chip_program_24 rfl m_b f_b rfl ?_
    refine tt_icmp_ge (t := 45) d_Chip_program_25 (by decide) (fun hc2 => ?_) (fun hc2 => ?_)
    · skip
      exact absurd hc2 (by assumption)
    · skip
      refine tt_iload d_Chip_program_28 6 rfl ?_
      refine tt_iconst (v := 1) d_Chip_program_30 (by decide) ?_
      refine tt_icmp_lt (t := 45) d_Chip_program_31 (by decide) (fun hc3 => ?_) (fun hc3 => ?_)
      · skip
        exact absurd hc3 (by assumption)
      · skip
        refine tt_iload d_Chip_program_34 6 rfl ?_
        refine tt_sipush (v := 2048) d_Chip_program_36 (by decide) ?_
        refine tt_iload d_Chip_program_39 0 rfl ?_
        refine tt_isub d_Chip_program_41 ?_
        refine tt_icmp_le (t := 46) d_Chip_program_42 (by decide) (fun hc4 => ?_) (fun hc4 => ?_)
        · skip
          refine tt_aload_n d_Chip_program_46 rfl 2 rfl ?_
          refine tt_iload d_Chip_program_47 6 rfl ?_
          refine tt_callV (bytes := b_Chip_granted) (nL' := 2) (ret' := (some FieldType.int)) (hh' := []) (As := [.int n]) w_5_110 w_5_111 w_5_112 w_1_7 w_5_113 ⟨by decide, by decide, rfl⟩ (c_Chip_grantedU m_c f_c) m_c f_c rfl ⟨Nat.le_of_ble_eq_true rfl, Nat.le_of_ble_eq_true rfl, Nat.le_of_ble_eq_true rfl, Nat.le_of_ble_eq_true rfl⟩ (Nat.le_of_ble_eq_true rfl) d_Chip_program_49 rfl (fun v9 S5 hq => ?_) (fun k9 S9 hq => by cases hq.2)
          obtain ⟨hS5, ho9⟩ := hq
          cases ho9
          rw [← hnn]
          have m6 : c ∈ S5.1 := by rw [hS5]; exact m_c
          have f7 : S5.2 c = .inr (1, [.ref a, .ref b, .int ((if pl < 0 then pl else pl - 1)), .int bl, .int ov]) := by rw [hS5]; exact va_up_self _ _ _
          have m8 : a ∈ S5.1 := by rw [hS5]; exact m_a
          have f9 : S5.2 a = .inl (kd 1, ca, .inl f) := by rw [hS5]; exact (va_up_ne _ _ (fun h => by have h9 := f_a; rw [h, f_c] at h9; cases h9)).trans (f_a)
          have m10 : b ∈ S5.1 := by rw [hS5]; exact m_b
          have f11 : S5.2 b = .inl (kd 0, cb, .inl g) := by rw [hS5]; exact (va_up_ne _ _ (fun h => by have h9 := f_b; rw [h, f_c] at h9; cases h9)).trans (f_b)
          have m12 : r ∈ S5.1 := by rw [hS5]; exact m_r
          have f13 : S5.2 r = .inl (kd 1, cr, .inl u) := by rw [hS5]; exact (va_up_ne _ _ (fun h => by have h9 := f_r; rw [h, f_c] at h9; cases h9)).trans (f_r)
          refine tt_istore (lv' := [(7, .int nn), (6, .int ((x - x / 2048 * 2048))), (5, .int ((x / 2048))), (0, .ref c), (1, .int x), (2, .ref r), (3, .int i), (4, .int n)]) d_Chip_program_52 (by decide) rfl ?_
          refine tt_aload_n d_Chip_program_54 rfl 3 rfl ?_
          refine tt_dup d_Chip_program_55 rfl ?_
          refine tt_get F_Chip_18 d_Chip_program_56 m6 f7 rfl ?_
          refine tt_iconst (v := 0) d_Chip_program_59 (by decide) ?_
          refine tt_aload_n d_Chip_program_60 rfl 3 rfl ?_
          refine tt_get F_Chip_31 d_Chip_program_61 m6 f7 rfl ?_
          refine tt_iload d_Chip_program_64 2 rfl ?_
          refine tt_iald 0 d_Chip_program_66 rfl m10 f11 (hx0) ?_
          refine tt_iload d_Chip_program_67 1 rfl ?_
          refine tt_isub d_Chip_program_69 ?_
          refine tt_iload d_Chip_program_70 0 rfl ?_
          refine tt_mmin w_5_114 w_4_10 w_1_3 w_4_11 ⟨Nat.le_of_ble_eq_true rfl, Nat.le_of_ble_eq_true rfl, Nat.le_of_ble_eq_true rfl, Nat.le_of_ble_eq_true rfl⟩ d_Chip_program_72 ?_
          refine tt_mmax w_1_162 w_1_49 w_1_3 w_1_50 ⟨Nat.le_of_ble_eq_true rfl, Nat.le_of_ble_eq_true rfl, Nat.le_of_ble_eq_true rfl, Nat.le_of_ble_eq_true rfl⟩ d_Chip_program_75 ?_
          refine tt_iadd d_Chip_program_78 ?_
          refine tt_put F_Chip_18 d_Chip_program_79 m6 f7 (Or.inl rfl) (by first | rfl | decide | exact pk_nz _) (by first | rfl | decide) (by simp) ?_
          obtain ⟨S14, hS14⟩ : ∃ x9, x9 = tset S5 c (.inr (1, [.ref a, .ref b, .int ((if pl < 0 then pl else pl - 1)), .int bl, .int ((ov + (if 0 < (if nn < ((g ((x / 2048)).toNatClampNeg) - (x - x / 2048 * 2048)) then nn else ((g ((x / 2048)).toNatClampNeg) - (x - x / 2048 * 2048))) then (if nn < ((g ((x / 2048)).toNatClampNeg) - (x - x / 2048 * 2048)) then nn else ((g ((x / 2048)).toNatClampNeg) - (x - x / 2048 * 2048))) else 0)))])) := ⟨_, rfl⟩
          refine tt_S hS14 ?_
          have m15 : c ∈ S14.1 := by rw [hS14]; exact m6
          have f16 : S14.2 c = .inr (1, [.ref a, .ref b, .int ((if pl < 0 then pl else pl - 1)), .int bl, .int ((ov + (if 0 < (if nn < ((g ((x / 2048)).toNatClampNeg) - (x - x / 2048 * 2048)) then nn else ((g ((x / 2048)).toNatClampNeg) - (x - x / 2048 * 2048))) then (if nn < ((g ((x / 2048)).toNatClampNeg) - (x - x / 2048 * 2048)) then nn else ((g ((x / 2048)).toNatClampNeg) - (x - x / 2048 * 2048))) else 0)))]) := by rw [hS14]; exact va_up_self _ _ _
          have m17 : a ∈ S14.1 := by rw [hS14]; exact m8
          have f18 : S14.2 a = .inl (kd 1, ca, .inl f) := by rw [hS14]; exact (va_up_ne _ _ (fun h => by have h9 := f_a; rw [h, f_c] at h9; cases h9)).trans f9
          have m19 : b ∈ S14.1 := by rw [hS14]; exact m10
          have f20 : S14.2 b = .inl (kd 0, cb, .inl g) := by rw [hS14]; exact (va_up_ne _ _ (fun h => by have h9 := f_b; rw [h, f_c] at h9; cases h9)).trans f11
          have m21 : r ∈ S14.1 := by rw [hS14]; exact m12
          have f22 : S14.2 r = .inl (kd 1, cr, .inl u) := by rw [hS14]; exact (va_up_ne _ _ (fun h => by have h9 := f_r; rw [h, f_c] at h9; cases h9)).trans f13
          refine tt_aload_n d_Chip_program_82 rfl 5 rfl ?_
          refine tt_iload_n d_Chip_program_83 rfl 6 rfl ?_
          refine tt_aload_n d_Chip_program_84 rfl 3 rfl ?_
          refine tt_get F_Chip_27 d_Chip_program_85 m15 f16 rfl ?_
          refine tt_iload_n d_Chip_program_88 rfl 4 rfl ?_
          refine tt_iload d_Chip_program_89 0 rfl ?_
          refine tt_callS (bytes := b_Row_copy) (nL' := 5) (ret' := none) (hh' := []) (As := [.ref r, .int i, .ref a, .int x, .int nn]) w_4_182 w_4_53 w_1_2 w_4_54 ⟨by decide, by decide, rfl⟩ (c_Row_copyU m21 f22 m17 f18 hcr hca hfit) ⟨Nat.le_of_ble_eq_true rfl, Nat.le_of_ble_eq_true rfl, Nat.le_of_ble_eq_true rfl, Nat.le_of_ble_eq_true rfl⟩ (Nat.le_of_ble_eq_true rfl) d_Chip_program_91 rfl (fun v9 S23 hq => ?_) (fun k9 S9 hq => by cases hq.2)
          obtain ⟨hS23, ho9⟩ := hq
          cases ho9
          have m24 : c ∈ S23.1 := by rw [hS23]; exact m15
          have f25 : S23.2 c = .inr (1, [.ref a, .ref b, .int ((if pl < 0 then pl else pl - 1)), .int bl, .int ((ov + (if 0 < (if nn < ((g ((x / 2048)).toNatClampNeg) - (x - x / 2048 * 2048)) then nn else ((g ((x / 2048)).toNatClampNeg) - (x - x / 2048 * 2048))) then (if nn < ((g ((x / 2048)).toNatClampNeg) - (x - x / 2048 * 2048)) then nn else ((g ((x / 2048)).toNatClampNeg) - (x - x / 2048 * 2048))) else 0)))]) := by rw [hS23]; exact (va_up_ne _ _ (fun h => by have h9 := f_c; rw [h, f_a] at h9; cases h9)).trans (f16)
          have m26 : a ∈ S23.1 := by rw [hS23]; exact m17
          have f27 : S23.2 a = .inl (kd 1, ca, .inl (if ¬ nn ≤ 0 ∧ ¬ i < 0 ∧ ¬ x < 0 ∧ ¬ (nI cr - nn) < i ∧ ¬ (nI ca - nn) < x then va_cpy u f i.toNatClampNeg x.toNatClampNeg nn.toNatClampNeg else f)) := by rw [hS23]; exact va_up_self _ _ _
          have m28 : b ∈ S23.1 := by rw [hS23]; exact m19
          have f29 : S23.2 b = .inl (kd 0, cb, .inl g) := by rw [hS23]; exact (va_up_ne _ _ (Ne.symm n_a_b)).trans (f20)
          have m30 : r ∈ S23.1 := by rw [hS23]; exact m21
          have f31 : S23.2 r = .inl (kd 1, cr, .inl u) := by rw [hS23]; exact (va_up_ne _ _ (Ne.symm n_a_r)).trans (f22)
          refine tt_aload_n d_Chip_program_94 rfl 3 rfl ?_
          refine tt_get F_Chip_31 d_Chip_program_95 m24 f25 rfl ?_
          refine tt_iload d_Chip_program_98 2 rfl ?_
          refine tt_aload_n d_Chip_program_100 rfl 3 rfl ?_
          refine tt_get F_Chip_31 d_Chip_program_101 m24 f25 rfl ?_
          refine tt_iload d_Chip_program_104 2 rfl ?_
          refine tt_iald 0 d_Chip_program_106 rfl m28 f29 (hx0) ?_
          refine tt_iload d_Chip_program_107 1 rfl ?_
          refine tt_iload d_Chip_program_109 0 rfl ?_
          refine tt_iadd d_Chip_program_111 ?_
          refine tt_mmax w_1_162 w_1_49 w_1_3 w_1_50 ⟨Nat.le_of_ble_eq_true rfl, Nat.le_of_ble_eq_true rfl, Nat.le_of_ble_eq_true rfl, Nat.le_of_ble_eq_true rfl⟩ d_Chip_program_112 ?_
          refine tt_iast 0 d_Chip_program_115 rfl m28 f29 (hx0) ?_
          obtain ⟨S32, hS32⟩ : ∃ x9, x9 = tset S23 b (.inl (kd 0, cb, .inl (upd g ((x / 2048)).toNatClampNeg ((if (g ((x / 2048)).toNatClampNeg) < ((x - x / 2048 * 2048) + nn) then ((x - x / 2048 * 2048) + nn) else (g ((x / 2048)).toNatClampNeg)))))) := ⟨_, rfl⟩
          refine tt_S hS32 ?_
          have m33 : c ∈ S32.1 := by rw [hS32]; exact m24
          have f34 : S32.2 c = .inr (1, [.ref a, .ref b, .int ((if pl < 0 then pl else pl - 1)), .int bl, .int ((ov + (if 0 < (if nn < ((g ((x / 2048)).toNatClampNeg) - (x - x / 2048 * 2048)) then nn else ((g ((x / 2048)).toNatClampNeg) - (x - x / 2048 * 2048))) then (if nn < ((g ((x / 2048)).toNatClampNeg) - (x - x / 2048 * 2048)) then nn else ((g ((x / 2048)).toNatClampNeg) - (x - x / 2048 * 2048))) else 0)))]) := by rw [hS32]; exact (va_up_ne _ _ (fun h => by have h9 := f_c; rw [h, f_b] at h9; cases h9)).trans f25
          have m35 : a ∈ S32.1 := by rw [hS32]; exact m26
          have f36 : S32.2 a = .inl (kd 1, ca, .inl (if ¬ nn ≤ 0 ∧ ¬ i < 0 ∧ ¬ x < 0 ∧ ¬ (nI cr - nn) < i ∧ ¬ (nI ca - nn) < x then va_cpy u f i.toNatClampNeg x.toNatClampNeg nn.toNatClampNeg else f)) := by rw [hS32]; exact (va_up_ne _ _ n_a_b).trans f27
          have m37 : b ∈ S32.1 := by rw [hS32]; exact m28
          have f38 : S32.2 b = .inl (kd 0, cb, .inl (upd g ((x / 2048)).toNatClampNeg ((if (g ((x / 2048)).toNatClampNeg) < ((x - x / 2048 * 2048) + nn) then ((x - x / 2048 * 2048) + nn) else (g ((x / 2048)).toNatClampNeg))))) := by rw [hS32]; exact va_up_self _ _ _
          have m39 : r ∈ S32.1 := by rw [hS32]; exact m30
          have f40 : S32.2 r = .inl (kd 1, cr, .inl u) := by rw [hS32]; exact (va_up_ne _ _ (Ne.symm n_b_r)).trans f31
          refine tt_iload d_Chip_program_116 0 rfl ?_
          refine tt_iload d_Chip_program_118 7 rfl ?_
          refine tt_icmp_ge (t := 133) d_Chip_program_120 (by decide) (fun hc41 => ?_) (fun hc41 => ?_)
          · skip
            exact tt_vret rfl (Nat.le_of_ble_eq_true rfl) (Nat.le_of_ble_eq_true rfl) d_Chip_program_133 (by exact ⟨by rw [hS32, hS23, hS14, hS5, ts_ts], by simp [hc41, Int32.not_lt.mpr hc41]⟩)
          · skip
            refine tt_throw (k := 1) (C := "java/lang/IllegalStateException") (text := "the power fails") (n := 2) hl0 rfl (by decide +kernel) d_java_lang_IllegalStateException_init_0 d_java_lang_IllegalStateException_init_1 d_java_lang_IllegalStateException_init_2 d_java_lang_IllegalStateException_init_5 xA_Chip_58 w_6_136 w_3_83 w_1_19 (by decide +kernel) d_Chip_program_123 d_Chip_program_126 (Or.inl ⟨d_Chip_program_127, rfl⟩) d_Chip_program_129 d_Chip_program_132 (by simp) ⟨Nat.le_of_ble_eq_true rfl, Nat.le_of_ble_eq_true rfl, Nat.le_of_ble_eq_true rfl, Nat.le_of_ble_eq_true rfl⟩ ?_
            exact ⟨by rw [hS32, hS23, hS14, hS5, ts_ts], by simp [hc41, Int32.not_le.mp hc41]⟩
        · skip
          exact absurd (by assumption) hc4
