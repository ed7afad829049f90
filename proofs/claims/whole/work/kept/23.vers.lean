/-! ===== class Versions: plain methods; written by wip/gen/vers.py ===== -/
/-- Versions.from: t steps left, between a and b -/
def vfrom (fod fky fkn fmo g : Nat → Int32) (cp cg : Nat) (j m w : Int32) : Nat → Int32 → Int32 → Int32
  | 0, a, _ => a
  | t + 1, a, b => if b ≤ a then a else
      if rcv fky g (cp * 41) cg (fod ((a + b) / 2).toNatClampNeg * 41) (fkn (fod ((a + b) / 2).toNatClampNeg).toNatClampNeg) j m < 0 ∨ (rcv fky g (cp * 41) cg (fod ((a + b) / 2).toNatClampNeg * 41) (fkn (fod ((a + b) / 2).toNatClampNeg).toNatClampNeg) j m = 0 ∧ ¬ fmo (fod ((a + b) / 2).toNatClampNeg).toNatClampNeg ≤ w)
      then vfrom fod fky fkn fmo g cp cg j m w t ((a + b) / 2 + 1) b else vfrom fod fky fkn fmo g cp cg j m w t a ((a + b) / 2)
abbrev b_Versions_isUser : ByteArray := prog_12_method_3_code
def y_Versions_isUser : MethodName := ⟨"FlashVault$Versions", "isUser", "(I)Z"⟩
theorem d_Versions_isUser_0 : decode b_Versions_isUser 0 = .ok (.aload_n 0, 1) := by decide +kernel
theorem d_Versions_isUser_1 : decode b_Versions_isUser 1 = .ok (.getfield 31, 3) := by decide +kernel
theorem w_1_193 : (Cond.fieldLink "FlashVault$Versions" (31 : Nat) "FlashVault$Versions" "keys" "[B") ∈ gW := gW_1 193 rfl rfl
theorem F_Versions_31 : tF "FlashVault$Versions" 31 10 1 RC10 FC10 12 tC10 := ⟨rfl, by decide, rfl, iC10, kC10, nC10, w_1_193⟩
theorem d_Versions_isUser_4 : decode b_Versions_isUser 4 = .ok (.iload_n 1, 1) := by decide +kernel
theorem d_Versions_isUser_5 : decode b_Versions_isUser 5 = .ok (.bipush 41, 2) := by decide +kernel
theorem d_Versions_isUser_7 : decode b_Versions_isUser 7 = .ok (.imul, 1) := by decide +kernel
theorem d_Versions_isUser_8 : decode b_Versions_isUser 8 = .ok (.baload, 1) := by decide +kernel
theorem d_Versions_isUser_9 : decode b_Versions_isUser 9 = .ok (.ifCond .ne 7, 3) := by decide +kernel
theorem d_Versions_isUser_16 : decode b_Versions_isUser 16 = .ok (.iconst 0, 1) := by decide +kernel
theorem d_Versions_isUser_17 : decode b_Versions_isUser 17 = .ok (.ireturn, 1) := by decide +kernel
theorem d_Versions_isUser_12 : decode b_Versions_isUser 12 = .ok (.iconst 1, 1) := by decide +kernel
theorem d_Versions_isUser_13 : decode b_Versions_isUser 13 = .ok (.goto 4, 3) := by decide +kernel
abbrev b_Versions_valueAddress : ByteArray := prog_12_method_4_code
def y_Versions_valueAddress : MethodName := ⟨"FlashVault$Versions", "valueAddress", "(I)I"⟩
theorem d_Versions_valueAddress_0 : decode b_Versions_valueAddress 0 = .ok (.aload_n 0, 1) := by decide +kernel
theorem d_Versions_valueAddress_1 : decode b_Versions_valueAddress 1 = .ok (.getfield 42, 3) := by decide +kernel
theorem w_1_206 : (Cond.fieldLink "FlashVault$Versions" (42 : Nat) "FlashVault$Versions" "places" "[I") ∈ gW := gW_1 206 rfl rfl
theorem F_Versions_42 : tF "FlashVault$Versions" 42 10 4 RC10 FC10 12 tC10 := ⟨rfl, by decide, rfl, iC10, kC10, nC10, w_1_206⟩
theorem d_Versions_valueAddress_4 : decode b_Versions_valueAddress 4 = .ok (.iload_n 1, 1) := by decide +kernel
theorem d_Versions_valueAddress_5 : decode b_Versions_valueAddress 5 = .ok (.iaload, 1) := by decide +kernel
theorem d_Versions_valueAddress_6 : decode b_Versions_valueAddress 6 = .ok (.bipush 8, 2) := by decide +kernel
theorem d_Versions_valueAddress_8 : decode b_Versions_valueAddress 8 = .ok (.iadd, 1) := by decide +kernel
theorem d_Versions_valueAddress_9 : decode b_Versions_valueAddress 9 = .ok (.aload_n 0, 1) := by decide +kernel
theorem d_Versions_valueAddress_10 : decode b_Versions_valueAddress 10 = .ok (.getfield 35, 3) := by decide +kernel
theorem w_1_198 : (Cond.fieldLink "FlashVault$Versions" (35 : Nat) "FlashVault$Versions" "keyLengths" "[I") ∈ gW := gW_1 198 rfl rfl
theorem F_Versions_35 : tF "FlashVault$Versions" 35 10 2 RC10 FC10 12 tC10 := ⟨rfl, by decide, rfl, iC10, kC10, nC10, w_1_198⟩
theorem d_Versions_valueAddress_13 : decode b_Versions_valueAddress 13 = .ok (.iload_n 1, 1) := by decide +kernel
theorem d_Versions_valueAddress_14 : decode b_Versions_valueAddress 14 = .ok (.iaload, 1) := by decide +kernel
theorem d_Versions_valueAddress_15 : decode b_Versions_valueAddress 15 = .ok (.iadd, 1) := by decide +kernel
theorem d_Versions_valueAddress_16 : decode b_Versions_valueAddress 16 = .ok (.ireturn, 1) := by decide +kernel
abbrev b_Versions_sameKey : ByteArray := prog_12_method_5_code
def y_Versions_sameKey : MethodName := ⟨"FlashVault$Versions", "sameKey", "(II)Z"⟩
theorem d_Versions_sameKey_0 : decode b_Versions_sameKey 0 = .ok (.aload_n 0, 1) := by decide +kernel
theorem d_Versions_sameKey_1 : decode b_Versions_sameKey 1 = .ok (.getfield 35, 3) := by decide +kernel
theorem d_Versions_sameKey_4 : decode b_Versions_sameKey 4 = .ok (.iload_n 1, 1) := by decide +kernel
theorem d_Versions_sameKey_5 : decode b_Versions_sameKey 5 = .ok (.iaload, 1) := by decide +kernel
theorem d_Versions_sameKey_6 : decode b_Versions_sameKey 6 = .ok (.aload_n 0, 1) := by decide +kernel
theorem d_Versions_sameKey_7 : decode b_Versions_sameKey 7 = .ok (.getfield 35, 3) := by decide +kernel
theorem d_Versions_sameKey_10 : decode b_Versions_sameKey 10 = .ok (.iload_n 2, 1) := by decide +kernel
theorem d_Versions_sameKey_11 : decode b_Versions_sameKey 11 = .ok (.iaload, 1) := by decide +kernel
theorem d_Versions_sameKey_12 : decode b_Versions_sameKey 12 = .ok (.if_icmp .ne 41, 3) := by decide +kernel
theorem d_Versions_sameKey_53 : decode b_Versions_sameKey 53 = .ok (.iconst 0, 1) := by decide +kernel
theorem d_Versions_sameKey_54 : decode b_Versions_sameKey 54 = .ok (.ireturn, 1) := by decide +kernel
theorem d_Versions_sameKey_15 : decode b_Versions_sameKey 15 = .ok (.aload_n 0, 1) := by decide +kernel
theorem d_Versions_sameKey_16 : decode b_Versions_sameKey 16 = .ok (.getfield 31, 3) := by decide +kernel
theorem d_Versions_sameKey_19 : decode b_Versions_sameKey 19 = .ok (.iload_n 1, 1) := by decide +kernel
theorem d_Versions_sameKey_20 : decode b_Versions_sameKey 20 = .ok (.bipush 41, 2) := by decide +kernel
theorem d_Versions_sameKey_22 : decode b_Versions_sameKey 22 = .ok (.imul, 1) := by decide +kernel
theorem d_Versions_sameKey_23 : decode b_Versions_sameKey 23 = .ok (.aload_n 0, 1) := by decide +kernel
theorem d_Versions_sameKey_24 : decode b_Versions_sameKey 24 = .ok (.getfield 35, 3) := by decide +kernel
theorem d_Versions_sameKey_27 : decode b_Versions_sameKey 27 = .ok (.iload_n 1, 1) := by decide +kernel
theorem d_Versions_sameKey_28 : decode b_Versions_sameKey 28 = .ok (.iaload, 1) := by decide +kernel
theorem d_Versions_sameKey_29 : decode b_Versions_sameKey 29 = .ok (.aload_n 0, 1) := by decide +kernel
theorem d_Versions_sameKey_30 : decode b_Versions_sameKey 30 = .ok (.getfield 31, 3) := by decide +kernel
theorem d_Versions_sameKey_33 : decode b_Versions_sameKey 33 = .ok (.iload_n 2, 1) := by decide +kernel
theorem d_Versions_sameKey_34 : decode b_Versions_sameKey 34 = .ok (.bipush 41, 2) := by decide +kernel
theorem d_Versions_sameKey_36 : decode b_Versions_sameKey 36 = .ok (.imul, 1) := by decide +kernel
theorem d_Versions_sameKey_37 : decode b_Versions_sameKey 37 = .ok (.aload_n 0, 1) := by decide +kernel
theorem d_Versions_sameKey_38 : decode b_Versions_sameKey 38 = .ok (.getfield 35, 3) := by decide +kernel
theorem d_Versions_sameKey_41 : decode b_Versions_sameKey 41 = .ok (.iload_n 2, 1) := by decide +kernel
theorem d_Versions_sameKey_42 : decode b_Versions_sameKey 42 = .ok (.iaload, 1) := by decide +kernel
theorem d_Versions_sameKey_43 : decode b_Versions_sameKey 43 = .ok (.invokestatic 62, 3) := by decide +kernel
theorem w_4_144 : (Cond.methodLink "FlashVault$Versions" (62 : Nat) ({ cls := "FlashVault$Row", name := "compare", desc := "([BII[BII)I" } : MethodName)) ∈ gW := gW_4 144 rfl rfl
theorem d_Versions_sameKey_46 : decode b_Versions_sameKey 46 = .ok (.ifCond .ne 7, 3) := by decide +kernel
theorem d_Versions_sameKey_49 : decode b_Versions_sameKey 49 = .ok (.iconst 1, 1) := by decide +kernel
theorem d_Versions_sameKey_50 : decode b_Versions_sameKey 50 = .ok (.goto 4, 3) := by decide +kernel
abbrev b_Versions_hasKey : ByteArray := prog_12_method_6_code
def y_Versions_hasKey : MethodName := ⟨"FlashVault$Versions", "hasKey", "(I[BII)Z"⟩
theorem d_Versions_hasKey_0 : decode b_Versions_hasKey 0 = .ok (.aload_n 0, 1) := by decide +kernel
theorem d_Versions_hasKey_1 : decode b_Versions_hasKey 1 = .ok (.getfield 35, 3) := by decide +kernel
theorem d_Versions_hasKey_4 : decode b_Versions_hasKey 4 = .ok (.iload_n 1, 1) := by decide +kernel
theorem d_Versions_hasKey_5 : decode b_Versions_hasKey 5 = .ok (.iaload, 1) := by decide +kernel
theorem d_Versions_hasKey_6 : decode b_Versions_hasKey 6 = .ok (.iload 4, 2) := by decide +kernel
theorem d_Versions_hasKey_8 : decode b_Versions_hasKey 8 = .ok (.if_icmp .ne 27, 3) := by decide +kernel
theorem d_Versions_hasKey_35 : decode b_Versions_hasKey 35 = .ok (.iconst 0, 1) := by decide +kernel
theorem d_Versions_hasKey_36 : decode b_Versions_hasKey 36 = .ok (.ireturn, 1) := by decide +kernel
theorem d_Versions_hasKey_11 : decode b_Versions_hasKey 11 = .ok (.aload_n 0, 1) := by decide +kernel
theorem d_Versions_hasKey_12 : decode b_Versions_hasKey 12 = .ok (.getfield 31, 3) := by decide +kernel
theorem d_Versions_hasKey_15 : decode b_Versions_hasKey 15 = .ok (.iload_n 1, 1) := by decide +kernel
theorem d_Versions_hasKey_16 : decode b_Versions_hasKey 16 = .ok (.bipush 41, 2) := by decide +kernel
theorem d_Versions_hasKey_18 : decode b_Versions_hasKey 18 = .ok (.imul, 1) := by decide +kernel
theorem d_Versions_hasKey_19 : decode b_Versions_hasKey 19 = .ok (.iload 4, 2) := by decide +kernel
theorem d_Versions_hasKey_21 : decode b_Versions_hasKey 21 = .ok (.aload_n 2, 1) := by decide +kernel
theorem d_Versions_hasKey_22 : decode b_Versions_hasKey 22 = .ok (.iload_n 3, 1) := by decide +kernel
theorem d_Versions_hasKey_23 : decode b_Versions_hasKey 23 = .ok (.iload 4, 2) := by decide +kernel
theorem d_Versions_hasKey_25 : decode b_Versions_hasKey 25 = .ok (.invokestatic 62, 3) := by decide +kernel
theorem d_Versions_hasKey_28 : decode b_Versions_hasKey 28 = .ok (.ifCond .ne 7, 3) := by decide +kernel
theorem d_Versions_hasKey_31 : decode b_Versions_hasKey 31 = .ok (.iconst 1, 1) := by decide +kernel
theorem d_Versions_hasKey_32 : decode b_Versions_hasKey 32 = .ok (.goto 4, 3) := by decide +kernel
abbrev b_Versions_setAlone : ByteArray := prog_12_method_14_code
def y_Versions_setAlone : MethodName := ⟨"FlashVault$Versions", "setAlone", "(IZ)V"⟩
theorem d_Versions_setAlone_0 : decode b_Versions_setAlone 0 = .ok (.aload_n 0, 1) := by decide +kernel
theorem d_Versions_setAlone_1 : decode b_Versions_setAlone 1 = .ok (.getfield 48, 3) := by decide +kernel
theorem w_1_214 : (Cond.fieldLink "FlashVault$Versions" (48 : Nat) "FlashVault$Versions" "alone" "[Z") ∈ gW := gW_1 214 rfl rfl
theorem F_Versions_48 : tF "FlashVault$Versions" 48 10 6 RC10 FC10 12 tC10 := ⟨rfl, by decide, rfl, iC10, kC10, nC10, w_1_214⟩
theorem d_Versions_setAlone_4 : decode b_Versions_setAlone 4 = .ok (.iload_n 1, 1) := by decide +kernel
theorem d_Versions_setAlone_5 : decode b_Versions_setAlone 5 = .ok (.baload, 1) := by decide +kernel
theorem d_Versions_setAlone_6 : decode b_Versions_setAlone 6 = .ok (.iload_n 2, 1) := by decide +kernel
theorem d_Versions_setAlone_7 : decode b_Versions_setAlone 7 = .ok (.if_icmp .eq 28, 3) := by decide +kernel
theorem d_Versions_setAlone_35 : decode b_Versions_setAlone 35 = .ok (.return_, 1) := by decide +kernel
theorem d_Versions_setAlone_10 : decode b_Versions_setAlone 10 = .ok (.aload_n 0, 1) := by decide +kernel
theorem d_Versions_setAlone_11 : decode b_Versions_setAlone 11 = .ok (.getfield 48, 3) := by decide +kernel
theorem d_Versions_setAlone_14 : decode b_Versions_setAlone 14 = .ok (.iload_n 1, 1) := by decide +kernel
theorem d_Versions_setAlone_15 : decode b_Versions_setAlone 15 = .ok (.iload_n 2, 1) := by decide +kernel
theorem d_Versions_setAlone_16 : decode b_Versions_setAlone 16 = .ok (.bastore, 1) := by decide +kernel
theorem d_Versions_setAlone_17 : decode b_Versions_setAlone 17 = .ok (.aload_n 0, 1) := by decide +kernel
theorem d_Versions_setAlone_18 : decode b_Versions_setAlone 18 = .ok (.dup, 1) := by decide +kernel
theorem d_Versions_setAlone_19 : decode b_Versions_setAlone 19 = .ok (.getfield 18, 3) := by decide +kernel
theorem w_1_229 : (Cond.fieldLink "FlashVault$Versions" (18 : Nat) "FlashVault$Versions" "aloneCount" "I") ∈ gW := gW_1 229 rfl rfl
theorem F_Versions_18 : tF "FlashVault$Versions" 18 10 11 RC10 FC10 12 tC10 := ⟨rfl, by decide, rfl, iC10, kC10, nC10, w_1_229⟩
theorem d_Versions_setAlone_22 : decode b_Versions_setAlone 22 = .ok (.iload_n 2, 1) := by decide +kernel
theorem d_Versions_setAlone_23 : decode b_Versions_setAlone 23 = .ok (.ifCond .eq 7, 3) := by decide +kernel
theorem d_Versions_setAlone_30 : decode b_Versions_setAlone 30 = .ok (.iconst (-1), 1) := by decide +kernel
theorem d_Versions_setAlone_31 : decode b_Versions_setAlone 31 = .ok (.iadd, 1) := by decide +kernel
theorem d_Versions_setAlone_32 : decode b_Versions_setAlone 32 = .ok (.putfield 18, 3) := by decide +kernel
theorem d_Versions_setAlone_26 : decode b_Versions_setAlone 26 = .ok (.iconst 1, 1) := by decide +kernel
theorem d_Versions_setAlone_27 : decode b_Versions_setAlone 27 = .ok (.goto 4, 3) := by decide +kernel
set_option maxHeartbeats 4000000 in
set_option maxRecDepth 100000 in
/-- Versions.isUser -/
theorem c_Versions_isUser {l : Launch} {D : va_G} {kd : Nat → ClassId} {z : Nat} {S : tS} {v si ky kn mo pl le al od sp cp : Nat} {sz ss ac : Int32} {i : Int32} {fky : Nat → Int32} (m_v : v ∈ S.1) (f_v : S.2 v = .inr (10, [.ref si, .ref ky, .ref kn, .ref mo, .ref pl, .ref le, .ref al, .ref od, .ref sp, .int sz, .int ss, .int ac])) (m_ky : ky ∈ S.1) (f_ky : S.2 ky = .inl (kd 1, (cp * 41), .inl fky))  (hi : vp_in (i * 41) (cp * 41)) : tM l y_Versions_isUser b_Versions_isUser 2 (some FieldType.boolean) [] {} D (tyl kd) z [.ref v, .int i] S (fun o9 T9 => T9 = S ∧ o9 = .inl (some (.int (if fky (i * 41).toNatClampNeg = 0 then 1 else 0)))) := by
  refine tM.of (own := "FlashVault$Versions") (ini := false) (by decide) rfl (fun h => by first | rfl | cases h) (Nat.le_of_ble_eq_true rfl) (lv := [(0, .ref v), (1, .int i)]) rfl ?_
  refine tt_aload_n d_Versions_isUser_0 rfl 0 rfl ?_
  refine tt_get F_Versions_31 d_Versions_isUser_1 m_v f_v rfl ?_
  refine tt_iload_n d_Versions_isUser_4 rfl 1 rfl ?_
  refine tt_bipush (v := 41) d_Versions_isUser_5 (by decide) ?_
  refine tt_imul d_Versions_isUser_7 ?_
  refine tt_bald 1 d_Versions_isUser_8 rfl m_ky f_ky (hi) ?_
  refine tt_if_ne (t := 16) d_Versions_isUser_9 (by decide) (fun hc1 => ?_) (fun hc1 => ?_)
  · skip
    refine tt_iconst (v := 0) d_Versions_isUser_16 (by decide) ?_
    exact tt_ret rfl (by first | rfl | decide | exact nz_ite _) (Nat.le_of_ble_eq_true rfl) (Nat.le_of_ble_eq_true rfl)  d_Versions_isUser_17 (by refine ⟨?_, ?_⟩ <;> first | rfl | (simp [hc1, vz0, vz1, pk_vb]; done) | (subst_vars; simp [hc1, vz0, vz1, pk_vb]; done) | (subst_vars; rfl) | ((repeat' split) <;> simp_all; done))
  · skip
    refine tt_iconst (v := 1) d_Versions_isUser_12 (by decide) ?_
    refine tt_goto (t := 17) d_Versions_isUser_13 (by decide) ?_
    exact tt_ret rfl (by first | rfl | decide | exact nz_ite _) (Nat.le_of_ble_eq_true rfl) (Nat.le_of_ble_eq_true rfl)  d_Versions_isUser_17 (by refine ⟨?_, ?_⟩ <;> first | rfl | (simp [hc1, vz0, vz1, pk_vb]; done) | (subst_vars; simp [hc1, vz0, vz1, pk_vb]; done) | (subst_vars; rfl) | ((repeat' split) <;> simp_all; done))
set_option maxHeartbeats 4000000 in
set_option maxRecDepth 100000 in
/-- Versions.valueAddress -/
theorem c_Versions_valueAddress {l : Launch} {D : va_G} {kd : Nat → ClassId} {z : Nat} {S : tS} {v si ky kn mo pl le al od sp cp : Nat} {sz ss ac : Int32} {i : Int32} {fpl fkn : Nat → Int32} (m_v : v ∈ S.1) (f_v : S.2 v = .inr (10, [.ref si, .ref ky, .ref kn, .ref mo, .ref pl, .ref le, .ref al, .ref od, .ref sp, .int sz, .int ss, .int ac])) (m_pl : pl ∈ S.1) (f_pl : S.2 pl = .inl (kd 0, cp, .inl fpl)) (m_kn : kn ∈ S.1) (f_kn : S.2 kn = .inl (kd 0, cp, .inl fkn))  (hi : vp_in i cp) : tM l y_Versions_valueAddress b_Versions_valueAddress 2 (some FieldType.int) [] {} D (tyl kd) z [.ref v, .int i] S (fun o9 T9 => T9 = S ∧ o9 = .inl (some (.int ((fpl i.toNatClampNeg + 8) + fkn i.toNatClampNeg)))) := by
  refine tM.of (own := "FlashVault$Versions") (ini := false) (by decide) rfl (fun h => by first | rfl | cases h) (Nat.le_of_ble_eq_true rfl) (lv := [(0, .ref v), (1, .int i)]) rfl ?_
  refine tt_aload_n d_Versions_valueAddress_0 rfl 0 rfl ?_
  refine tt_get F_Versions_42 d_Versions_valueAddress_1 m_v f_v rfl ?_
  refine tt_iload_n d_Versions_valueAddress_4 rfl 1 rfl ?_
  refine tt_iald 0 d_Versions_valueAddress_5 rfl m_pl f_pl (hi) ?_
  refine tt_bipush (v := 8) d_Versions_valueAddress_6 (by decide) ?_
  refine tt_iadd d_Versions_valueAddress_8 ?_
  refine tt_aload_n d_Versions_valueAddress_9 rfl 0 rfl ?_
  refine tt_get F_Versions_35 d_Versions_valueAddress_10 m_v f_v rfl ?_
  refine tt_iload_n d_Versions_valueAddress_13 rfl 1 rfl ?_
  refine tt_iald 0 d_Versions_valueAddress_14 rfl m_kn f_kn (hi) ?_
  refine tt_iadd d_Versions_valueAddress_15 ?_
  exact tt_ret rfl (by first | rfl | decide | exact nz_ite _) (Nat.le_of_ble_eq_true rfl) (Nat.le_of_ble_eq_true rfl)  d_Versions_valueAddress_16 (by refine ⟨?_, ?_⟩ <;> first | rfl | (simp [vz0, vz1, pk_vb]; done) | (subst_vars; simp [vz0, vz1, pk_vb]; done) | (subst_vars; rfl) | ((repeat' split) <;> simp_all; done))
set_option maxHeartbeats 4000000 in
set_option maxRecDepth 100000 in
/-- Versions.sameKey -/
theorem c_Versions_sameKey {l : Launch} {D : va_G} {kd : Nat → ClassId} {z : Nat} {S : tS} {v si ky kn mo pl le al od sp cp : Nat} {sz ss ac : Int32} {i j : Int32} {fky fkn : Nat → Int32} (m_v : v ∈ S.1) (f_v : S.2 v = .inr (10, [.ref si, .ref ky, .ref kn, .ref mo, .ref pl, .ref le, .ref al, .ref od, .ref sp, .int sz, .int ss, .int ac])) (m_ky : ky ∈ S.1) (f_ky : S.2 ky = .inl (kd 1, (cp * 41), .inl fky)) (m_kn : kn ∈ S.1) (f_kn : S.2 kn = .inl (kd 0, cp, .inl fkn))  (hcp : cp * 41 < 2 ^ 31) (hi : vp_in i cp) (hj : vp_in j cp) : tM l y_Versions_sameKey b_Versions_sameKey 3 (some FieldType.boolean) [] { frames := 2, locals := 90 } D (tyl kd) z [.ref v, .int i, .int j] S (fun o9 T9 => T9 = S ∧ o9 = .inl (some (.int (if fkn i.toNatClampNeg = fkn j.toNatClampNeg ∧ rcv fky fky (cp * 41) (cp * 41) (i * 41) (fkn i.toNatClampNeg) (j * 41) (fkn j.toNatClampNeg) = 0 then 1 else 0)))) := by
  refine tM.of (own := "FlashVault$Versions") (ini := false) (by decide) rfl (fun h => by first | rfl | cases h) (Nat.le_of_ble_eq_true rfl) (lv := [(0, .ref v), (1, .int i), (2, .int j)]) rfl ?_
  refine tt_aload_n d_Versions_sameKey_0 rfl 0 rfl ?_
  refine tt_get F_Versions_35 d_Versions_sameKey_1 m_v f_v rfl ?_
  refine tt_iload_n d_Versions_sameKey_4 rfl 1 rfl ?_
  refine tt_iald 0 d_Versions_sameKey_5 rfl m_kn f_kn (by first | exact hi | exact hj) ?_
  refine tt_aload_n d_Versions_sameKey_6 rfl 0 rfl ?_
  refine tt_get F_Versions_35 d_Versions_sameKey_7 m_v f_v rfl ?_
  refine tt_iload_n d_Versions_sameKey_10 rfl 2 rfl ?_
  refine tt_iald 0 d_Versions_sameKey_11 rfl m_kn f_kn (by first | exact hi | exact hj) ?_
  refine tt_icmp_ne (t := 53) d_Versions_sameKey_12 (by decide) (fun hc1 => ?_) (fun hc1 => ?_)
  · skip
    refine tt_iconst (v := 0) d_Versions_sameKey_53 (by decide) ?_
    exact tt_ret rfl (by first | rfl | decide | exact nz_ite _) (Nat.le_of_ble_eq_true rfl) (Nat.le_of_ble_eq_true rfl)  d_Versions_sameKey_54 (by refine ⟨rfl, ?_⟩; first | (rw [if_pos ⟨by assumption, by assumption⟩]; done) | (rw [if_neg (fun h => absurd h.1 (by assumption))]; done) | (rw [if_neg (fun h => absurd h.2 (by assumption))]; done))
  · skip
    refine tt_aload_n d_Versions_sameKey_15 rfl 0 rfl ?_
    refine tt_get F_Versions_31 d_Versions_sameKey_16 m_v f_v rfl ?_
    refine tt_iload_n d_Versions_sameKey_19 rfl 1 rfl ?_
    refine tt_bipush (v := 41) d_Versions_sameKey_20 (by decide) ?_
    refine tt_imul d_Versions_sameKey_22 ?_
    refine tt_aload_n d_Versions_sameKey_23 rfl 0 rfl ?_
    refine tt_get F_Versions_35 d_Versions_sameKey_24 m_v f_v rfl ?_
    refine tt_iload_n d_Versions_sameKey_27 rfl 1 rfl ?_
    refine tt_iald 0 d_Versions_sameKey_28 rfl m_kn f_kn (by first | exact hi | exact hj) ?_
    refine tt_aload_n d_Versions_sameKey_29 rfl 0 rfl ?_
    refine tt_get F_Versions_31 d_Versions_sameKey_30 m_v f_v rfl ?_
    refine tt_iload_n d_Versions_sameKey_33 rfl 2 rfl ?_
    refine tt_bipush (v := 41) d_Versions_sameKey_34 (by decide) ?_
    refine tt_imul d_Versions_sameKey_36 ?_
    refine tt_aload_n d_Versions_sameKey_37 rfl 0 rfl ?_
    refine tt_get F_Versions_35 d_Versions_sameKey_38 m_v f_v rfl ?_
    refine tt_iload_n d_Versions_sameKey_41 rfl 2 rfl ?_
    refine tt_iald 0 d_Versions_sameKey_42 rfl m_kn f_kn (by first | exact hi | exact hj) ?_
    refine tt_callS (bytes := b_Row_compare) (nL' := 9) (ret' := (some FieldType.int)) (hh' := []) (As := [.ref ky, .int ((i * 41)), .int ((fkn (i).toNatClampNeg)), .ref ky, .int ((j * 41)), .int ((fkn (j).toNatClampNeg))]) w_4_144 w_4_71 w_1_2 w_4_72 ⟨by decide, by decide, rfl⟩ (c_Row_compareV m_ky f_ky m_ky f_ky hcp hcp) ⟨Nat.le_of_ble_eq_true rfl, Nat.le_of_ble_eq_true rfl, Nat.le_of_ble_eq_true rfl, Nat.le_of_ble_eq_true rfl⟩ (Nat.le_of_ble_eq_true rfl) d_Versions_sameKey_43 rfl (fun v9 S2 hq => ?_) (fun k9 S9 hq => by cases hq.2)
    obtain ⟨hS2, ho9⟩ := hq
    cases ho9
    refine tt_S hS2.symm ?_
    refine tt_if_ne (t := 53) d_Versions_sameKey_46 (by decide) (fun hc3 => ?_) (fun hc3 => ?_)
    · skip
      refine tt_iconst (v := 0) d_Versions_sameKey_53 (by decide) ?_
      exact tt_ret rfl (by first | rfl | decide | exact nz_ite _) (Nat.le_of_ble_eq_true rfl) (Nat.le_of_ble_eq_true rfl)  d_Versions_sameKey_54 (by refine ⟨rfl, ?_⟩; first | (rw [if_pos ⟨by assumption, by assumption⟩]; done) | (rw [if_neg (fun h => absurd h.1 (by assumption))]; done) | (rw [if_neg (fun h => absurd h.2 (by assumption))]; done))
    · skip
      refine tt_iconst (v := 1) d_Versions_sameKey_49 (by decide) ?_
      refine tt_goto (t := 54) d_Versions_sameKey_50 (by decide) ?_
      exact tt_ret rfl (by first | rfl | decide | exact nz_ite _) (Nat.le_of_ble_eq_true rfl) (Nat.le_of_ble_eq_true rfl)  d_Versions_sameKey_54 (by refine ⟨rfl, ?_⟩; first | (rw [if_pos ⟨by assumption, by assumption⟩]; done) | (rw [if_neg (fun h => absurd h.1 (by assumption))]; done) | (rw [if_neg (fun h => absurd h.2 (by assumption))]; done))
set_option maxHeartbeats 4000000 in
set_option maxRecDepth 100000 in
/-- Versions.hasKey -/
theorem c_Versions_hasKey {l : Launch} {D : va_G} {kd : Nat → ClassId} {z : Nat} {S : tS} {v si ky kn mo pl le al od sp cp : Nat} {sz ss ac : Int32} {q cg : Nat} {i j m : Int32} {fky fkn g : Nat → Int32} (m_v : v ∈ S.1) (f_v : S.2 v = .inr (10, [.ref si, .ref ky, .ref kn, .ref mo, .ref pl, .ref le, .ref al, .ref od, .ref sp, .int sz, .int ss, .int ac])) (m_ky : ky ∈ S.1) (f_ky : S.2 ky = .inl (kd 1, (cp * 41), .inl fky)) (m_kn : kn ∈ S.1) (f_kn : S.2 kn = .inl (kd 0, cp, .inl fkn)) (m_q : q ∈ S.1) (f_q : S.2 q = .inl (kd 1, cg, .inl g))  (hcp : cp * 41 < 2 ^ 31) (hcg : cg < 2 ^ 31) (hi : vp_in i cp) : tM l y_Versions_hasKey b_Versions_hasKey 5 (some FieldType.boolean) [] { frames := 2, locals := 90 } D (tyl kd) z [.ref v, .int i, .ref q, .int j, .int m] S (fun o9 T9 => T9 = S ∧ o9 = .inl (some (.int (if fkn i.toNatClampNeg = m ∧ rcv fky g (cp * 41) cg (i * 41) m j m = 0 then 1 else 0)))) := by
  refine tM.of (own := "FlashVault$Versions") (ini := false) (by decide) rfl (fun h => by first | rfl | cases h) (Nat.le_of_ble_eq_true rfl) (lv := [(0, .ref v), (1, .int i), (2, .ref q), (3, .int j), (4, .int m)]) rfl ?_
  refine tt_aload_n d_Versions_hasKey_0 rfl 0 rfl ?_
  refine tt_get F_Versions_35 d_Versions_hasKey_1 m_v f_v rfl ?_
  refine tt_iload_n d_Versions_hasKey_4 rfl 1 rfl ?_
  refine tt_iald 0 d_Versions_hasKey_5 rfl m_kn f_kn (hi) ?_
  refine tt_iload d_Versions_hasKey_6 4 rfl ?_
  refine tt_icmp_ne (t := 35) d_Versions_hasKey_8 (by decide) (fun hc1 => ?_) (fun hc1 => ?_)
  · skip
    refine tt_iconst (v := 0) d_Versions_hasKey_35 (by decide) ?_
    exact tt_ret rfl (by first | rfl | decide | exact nz_ite _) (Nat.le_of_ble_eq_true rfl) (Nat.le_of_ble_eq_true rfl)  d_Versions_hasKey_36 (by refine ⟨?_, ?_⟩ <;> first | rfl | (simp [hc1, vz0, vz1, pk_vb]; done) | (subst_vars; simp [hc1, vz0, vz1, pk_vb]; done) | (subst_vars; rfl) | ((repeat' split) <;> simp_all; done))
  · skip
    refine tt_aload_n d_Versions_hasKey_11 rfl 0 rfl ?_
    refine tt_get F_Versions_31 d_Versions_hasKey_12 m_v f_v rfl ?_
    refine tt_iload_n d_Versions_hasKey_15 rfl 1 rfl ?_
    refine tt_bipush (v := 41) d_Versions_hasKey_16 (by decide) ?_
    refine tt_imul d_Versions_hasKey_18 ?_
    refine tt_iload d_Versions_hasKey_19 4 rfl ?_
    refine tt_aload_n d_Versions_hasKey_21 rfl 2 rfl ?_
    refine tt_iload_n d_Versions_hasKey_22 rfl 3 rfl ?_
    refine tt_iload d_Versions_hasKey_23 4 rfl ?_
    refine tt_callS (bytes := b_Row_compare) (nL' := 9) (ret' := (some FieldType.int)) (hh' := []) (As := [.ref ky, .int ((i * 41)), .int m, .ref q, .int j, .int m]) w_4_144 w_4_71 w_1_2 w_4_72 ⟨by decide, by decide, rfl⟩ (c_Row_compareV m_ky f_ky m_q f_q hcp hcg) ⟨Nat.le_of_ble_eq_true rfl, Nat.le_of_ble_eq_true rfl, Nat.le_of_ble_eq_true rfl, Nat.le_of_ble_eq_true rfl⟩ (Nat.le_of_ble_eq_true rfl) d_Versions_hasKey_25 rfl (fun v9 S2 hq => ?_) (fun k9 S9 hq => by cases hq.2)
    obtain ⟨hS2, ho9⟩ := hq
    cases ho9
    refine tt_S hS2.symm ?_
    refine tt_if_ne (t := 35) d_Versions_hasKey_28 (by decide) (fun hc3 => ?_) (fun hc3 => ?_)
    · skip
      refine tt_iconst (v := 0) d_Versions_hasKey_35 (by decide) ?_
      exact tt_ret rfl (by first | rfl | decide | exact nz_ite _) (Nat.le_of_ble_eq_true rfl) (Nat.le_of_ble_eq_true rfl)  d_Versions_hasKey_36 (by refine ⟨?_, ?_⟩ <;> first | rfl | (simp [hc1, hc3, vz0, vz1, pk_vb]; done) | (subst_vars; simp [hc1, hc3, vz0, vz1, pk_vb]; done) | (subst_vars; rfl) | ((repeat' split) <;> simp_all; done))
    · skip
      refine tt_iconst (v := 1) d_Versions_hasKey_31 (by decide) ?_
      refine tt_goto (t := 36) d_Versions_hasKey_32 (by decide) ?_
      exact tt_ret rfl (by first | rfl | decide | exact nz_ite _) (Nat.le_of_ble_eq_true rfl) (Nat.le_of_ble_eq_true rfl)  d_Versions_hasKey_36 (by refine ⟨?_, ?_⟩ <;> first | rfl | (simp [hc1, hc3, vz0, vz1, pk_vb]; done) | (subst_vars; simp [hc1, hc3, vz0, vz1, pk_vb]; done) | (subst_vars; rfl) | ((repeat' split) <;> simp_all; done))
set_option maxHeartbeats 4000000 in
set_option maxRecDepth 100000 in
/-- Versions.setAlone -/
theorem c_Versions_setAlone {l : Launch} {D : va_G} {kd : Nat → ClassId} {z : Nat} {S : tS} {v si ky kn mo pl le al od sp cp : Nat} {sz ss ac : Int32} {i x : Int32} {fal : Nat → Int32} (m_v : v ∈ S.1) (f_v : S.2 v = .inr (10, [.ref si, .ref ky, .ref kn, .ref mo, .ref pl, .ref le, .ref al, .ref od, .ref sp, .int sz, .int ss, .int ac])) (m_al : al ∈ S.1) (f_al : S.2 al = .inl (kd 2, cp, .inl fal))  (hi : vp_in i cp) : tM l y_Versions_setAlone b_Versions_setAlone 3 none [] {} D (tyl kd) z [.ref v, .int i, .int x] S (fun o9 T9 => T9 = (if fal i.toNatClampNeg = x then S else tset (tset S al (.inl (kd 2, cp, .inl (upd fal i.toNatClampNeg (vp_nar .boolean x))))) v (.inr (10, [.ref si, .ref ky, .ref kn, .ref mo, .ref pl, .ref le, .ref al, .ref od, .ref sp, .int (sz), .int (ss), .int (ac + (if x = 0 then -1 else 1))]))) ∧ o9 = .inl none) := by
  refine tM.of (own := "FlashVault$Versions") (ini := false) (by decide) rfl (fun h => by first | rfl | cases h) (Nat.le_of_ble_eq_true rfl) (lv := [(0, .ref v), (1, .int i), (2, .int x)]) rfl ?_
  refine tt_aload_n d_Versions_setAlone_0 rfl 0 rfl ?_
  refine tt_get F_Versions_48 d_Versions_setAlone_1 m_v f_v rfl ?_
  refine tt_iload_n d_Versions_setAlone_4 rfl 1 rfl ?_
  refine tt_zald 2 d_Versions_setAlone_5 rfl m_al f_al (hi) ?_
  refine tt_iload_n d_Versions_setAlone_6 rfl 2 rfl ?_
  refine tt_icmp_eq (t := 35) d_Versions_setAlone_7 (by decide) (fun hc1 => ?_) (fun hc1 => ?_)
  · skip
    exact tt_vret rfl (Nat.le_of_ble_eq_true rfl) (Nat.le_of_ble_eq_true rfl)  d_Versions_setAlone_35 (by refine ⟨?_, ?_⟩ <;> first | rfl | (simp [hc1, vz0, vz1, pk_vb]; done) | (subst_vars; simp [hc1, vz0, vz1, pk_vb]; done) | (subst_vars; rfl) | ((repeat' split) <;> simp_all; done))
  · skip
    refine tt_aload_n d_Versions_setAlone_10 rfl 0 rfl ?_
    refine tt_get F_Versions_48 d_Versions_setAlone_11 m_v f_v rfl ?_
    refine tt_iload_n d_Versions_setAlone_14 rfl 1 rfl ?_
    refine tt_iload_n d_Versions_setAlone_15 rfl 2 rfl ?_
    refine tt_zast 2 d_Versions_setAlone_16 rfl m_al f_al (hi) ?_
    obtain ⟨S2, hS2⟩ : ∃ x9, x9 = tset S al (.inl (kd 2, cp, .inl (upd fal (i).toNatClampNeg (vp_nar .boolean (x))))) := ⟨_, rfl⟩
    refine tt_S hS2 ?_
    have m3 : v ∈ S2.1 := by rw [hS2]; exact m_v
    have f4 : S2.2 v = .inr (10, [.ref si, .ref ky, .ref kn, .ref mo, .ref pl, .ref le, .ref al, .ref od, .ref sp, .int sz, .int ss, .int ac]) := by rw [hS2]; exact (va_up_ne _ _ (fun h => by have h9 := f_v; rw [h, f_al] at h9; cases h9)).trans f_v
    have m5 : al ∈ S2.1 := by rw [hS2]; exact m_al
    have f6 : S2.2 al = .inl (kd 2, cp, .inl (upd fal (i).toNatClampNeg (vp_nar .boolean (x)))) := by rw [hS2]; exact va_up_self _ _ _
    refine tt_aload_n d_Versions_setAlone_17 rfl 0 rfl ?_
    refine tt_dup d_Versions_setAlone_18 rfl ?_
    refine tt_get F_Versions_18 d_Versions_setAlone_19 m3 f4 rfl ?_
    refine tt_iload_n d_Versions_setAlone_22 rfl 2 rfl ?_
    refine tt_if_eq (t := 30) d_Versions_setAlone_23 (by decide) (fun hc7 => ?_) (fun hc7 => ?_)
    · skip
      refine tt_iconst (v := -1) d_Versions_setAlone_30 (by decide) ?_
      refine tt_iadd d_Versions_setAlone_31 ?_
      refine tt_put F_Versions_18 d_Versions_setAlone_32 m3 f4 (Or.inl rfl) (by first | rfl | decide | exact pk_nz _) (by first | rfl | decide) (by simp) ?_
      obtain ⟨S8, hS8⟩ : ∃ x9, x9 = tset S2 v (.inr (10, [.ref si, .ref ky, .ref kn, .ref mo, .ref pl, .ref le, .ref al, .ref od, .ref sp, .int sz, .int ss, .int ((ac + (-1)))])) := ⟨_, rfl⟩
      refine tt_S hS8 ?_
      have m9 : v ∈ S8.1 := by rw [hS8]; exact m3
      have f10 : S8.2 v = .inr (10, [.ref si, .ref ky, .ref kn, .ref mo, .ref pl, .ref le, .ref al, .ref od, .ref sp, .int sz, .int ss, .int ((ac + (-1)))]) := by rw [hS8]; exact va_up_self _ _ _
      have m11 : al ∈ S8.1 := by rw [hS8]; exact m5
      have f12 : S8.2 al = .inl (kd 2, cp, .inl (upd fal (i).toNatClampNeg (vp_nar .boolean (x)))) := by rw [hS8]; exact (va_up_ne _ _ (fun h => by have h9 := f_al; rw [h, f_v] at h9; cases h9)).trans f6
      exact tt_vret rfl (Nat.le_of_ble_eq_true rfl) (Nat.le_of_ble_eq_true rfl)  d_Versions_setAlone_35 (by refine ⟨?_, ?_⟩ <;> first | rfl | (simp [hc1, hc7, hS8, hS2, vz0, vz1, pk_vb]; done) | (subst_vars; simp [hc1, hc7, vz0, vz1, pk_vb]; done) | (subst_vars; rfl) | ((repeat' split) <;> simp_all; done))
    · skip
      refine tt_iconst (v := 1) d_Versions_setAlone_26 (by decide) ?_
      refine tt_goto (t := 31) d_Versions_setAlone_27 (by decide) ?_
      refine tt_iadd d_Versions_setAlone_31 ?_
      refine tt_put F_Versions_18 d_Versions_setAlone_32 m3 f4 (Or.inl rfl) (by first | rfl | decide | exact pk_nz _) (by first | rfl | decide) (by simp) ?_
      obtain ⟨S13, hS13⟩ : ∃ x9, x9 = tset S2 v (.inr (10, [.ref si, .ref ky, .ref kn, .ref mo, .ref pl, .ref le, .ref al, .ref od, .ref sp, .int sz, .int ss, .int ((ac + 1))])) := ⟨_, rfl⟩
      refine tt_S hS13 ?_
      have m14 : v ∈ S13.1 := by rw [hS13]; exact m3
      have f15 : S13.2 v = .inr (10, [.ref si, .ref ky, .ref kn, .ref mo, .ref pl, .ref le, .ref al, .ref od, .ref sp, .int sz, .int ss, .int ((ac + 1))]) := by rw [hS13]; exact va_up_self _ _ _
      have m16 : al ∈ S13.1 := by rw [hS13]; exact m5
      have f17 : S13.2 al = .inl (kd 2, cp, .inl (upd fal (i).toNatClampNeg (vp_nar .boolean (x)))) := by rw [hS13]; exact (va_up_ne _ _ (fun h => by have h9 := f_al; rw [h, f_v] at h9; cases h9)).trans f6
      exact tt_vret rfl (Nat.le_of_ble_eq_true rfl) (Nat.le_of_ble_eq_true rfl)  d_Versions_setAlone_35 (by refine ⟨?_, ?_⟩ <;> first | rfl | (simp [hc1, hc7, hS13, hS2, vz0, vz1, pk_vb]; done) | (subst_vars; simp [hc1, hc7, vz0, vz1, pk_vb]; done) | (subst_vars; rfl) | ((repeat' split) <;> simp_all; done))
