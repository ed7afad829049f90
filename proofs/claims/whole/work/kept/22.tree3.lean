/-! ===== class Tree: isWithin, clear, set; written by wip/gen/tree3.py ===== -/
abbrev b_Tree_isWithin : ByteArray := prog_11_method_19_code
def y_Tree_isWithin : MethodName := ⟨"FlashVault$Tree", "isWithin", "(II)Z"⟩
theorem d_Tree_isWithin_5 : decode b_Tree_isWithin 5 = .ok (.iload 4, 2) := by decide +kernel
theorem d_Tree_isWithin_7 : decode b_Tree_isWithin 7 = .ok (.sipush 200, 3) := by decide +kernel
theorem d_Tree_isWithin_10 : decode b_Tree_isWithin 10 = .ok (.if_icmp .gt 24, 3) := by decide +kernel
theorem d_Tree_isWithin_34 : decode b_Tree_isWithin 34 = .ok (.iload_n 3, 1) := by decide +kernel
theorem d_Tree_isWithin_35 : decode b_Tree_isWithin 35 = .ok (.iload_n 2, 1) := by decide +kernel
theorem d_Tree_isWithin_36 : decode b_Tree_isWithin 36 = .ok (.if_icmp .ne 7, 3) := by decide +kernel
theorem d_Tree_isWithin_43 : decode b_Tree_isWithin 43 = .ok (.iconst 0, 1) := by decide +kernel
theorem d_Tree_isWithin_44 : decode b_Tree_isWithin 44 = .ok (.ireturn, 1) := by decide +kernel
theorem d_Tree_isWithin_39 : decode b_Tree_isWithin 39 = .ok (.iconst 1, 1) := by decide +kernel
theorem d_Tree_isWithin_40 : decode b_Tree_isWithin 40 = .ok (.goto 4, 3) := by decide +kernel
theorem d_Tree_isWithin_13 : decode b_Tree_isWithin 13 = .ok (.iload_n 3, 1) := by decide +kernel
theorem d_Tree_isWithin_14 : decode b_Tree_isWithin 14 = .ok (.ifCond .le 20, 3) := by decide +kernel
theorem d_Tree_isWithin_17 : decode b_Tree_isWithin 17 = .ok (.iload_n 3, 1) := by decide +kernel
theorem d_Tree_isWithin_18 : decode b_Tree_isWithin 18 = .ok (.iload_n 2, 1) := by decide +kernel
theorem d_Tree_isWithin_19 : decode b_Tree_isWithin 19 = .ok (.if_icmp .eq 15, 3) := by decide +kernel
theorem d_Tree_isWithin_22 : decode b_Tree_isWithin 22 = .ok (.aload_n 0, 1) := by decide +kernel
theorem d_Tree_isWithin_23 : decode b_Tree_isWithin 23 = .ok (.iload_n 3, 1) := by decide +kernel
theorem d_Tree_isWithin_24 : decode b_Tree_isWithin 24 = .ok (.invokevirtual 69, 3) := by decide +kernel
theorem w_8_104 : (Cond.methodLink "FlashVault$Tree" (69 : Nat) ({ cls := "FlashVault$Tree", name := "parentOf", desc := "(I)I" } : MethodName)) ∈ gW := gW_8 104 rfl rfl
theorem w_8_107 : (Cond.code ({ cls := "FlashVault$Tree", name := "parentOf", desc := "(I)I" } : MethodName) prog_11_method_7_code (2 : Nat) (Option.some FieldType.int)) ∈ gW := gW_8 107 rfl rfl
theorem w_8_106 : (Cond.selects "FlashVault$Tree" ({ cls := "FlashVault$Tree", name := "parentOf", desc := "(I)I" } : MethodName) ({ cls := "FlashVault$Tree", name := "parentOf", desc := "(I)I" } : MethodName)) ∈ gW := gW_8 106 rfl rfl
theorem w_8_105 : (Cond.instanceMethod ({ cls := "FlashVault$Tree", name := "parentOf", desc := "(I)I" } : MethodName)) ∈ gW := gW_8 105 rfl rfl
theorem d_Tree_isWithin_27 : decode b_Tree_isWithin 27 = .ok (.istore_n 3, 1) := by decide +kernel
theorem d_Tree_isWithin_28 : decode b_Tree_isWithin 28 = .ok (.iinc 4 1, 3) := by decide +kernel
theorem d_Tree_isWithin_31 : decode b_Tree_isWithin 31 = .ok (.goto (-26), 3) := by decide +kernel
theorem d_Tree_isWithin_0 : decode b_Tree_isWithin 0 = .ok (.iload_n 1, 1) := by decide +kernel
theorem d_Tree_isWithin_1 : decode b_Tree_isWithin 1 = .ok (.istore_n 3, 1) := by decide +kernel
theorem d_Tree_isWithin_2 : decode b_Tree_isWithin 2 = .ok (.iconst 0, 1) := by decide +kernel
theorem d_Tree_isWithin_3 : decode b_Tree_isWithin 3 = .ok (.istore 4, 2) := by decide +kernel
abbrev b_Tree_clear : ByteArray := prog_11_method_2_code
def y_Tree_clear : MethodName := ⟨"FlashVault$Tree", "clear", "()V"⟩
theorem d_Tree_clear_0 : decode b_Tree_clear 0 = .ok (.aload_n 0, 1) := by decide +kernel
theorem d_Tree_clear_1 : decode b_Tree_clear 1 = .ok (.getfield 9, 3) := by decide +kernel
theorem d_Tree_clear_4 : decode b_Tree_clear 4 = .ok (.iconst 0, 1) := by decide +kernel
theorem d_Tree_clear_5 : decode b_Tree_clear 5 = .ok (.invokestatic 32, 3) := by decide +kernel
theorem w_7_118 : (Cond.methodLink "FlashVault$Tree" (32 : Nat) ({ cls := "java/util/Arrays", name := "fill", desc := "([II)V" } : MethodName)) ∈ gW := gW_7 118 rfl rfl
theorem w_7_16 : (Cond.code ({ cls := "java/util/Arrays", name := "fill", desc := "([II)V" } : MethodName) prog_32_method_103_code (4 : Nat) (Option.none : Option FieldType)) ∈ gW := gW_7 16 rfl rfl
theorem w_7_15 : (Cond.static ({ cls := "java/util/Arrays", name := "fill", desc := "([II)V" } : MethodName)) ∈ gW := gW_7 15 rfl rfl
theorem d_Tree_clear_8 : decode b_Tree_clear 8 = .ok (.aload_n 0, 1) := by decide +kernel
theorem d_Tree_clear_9 : decode b_Tree_clear 9 = .ok (.getfield 9, 3) := by decide +kernel
theorem d_Tree_clear_12 : decode b_Tree_clear 12 = .ok (.iconst 0, 1) := by decide +kernel
theorem d_Tree_clear_13 : decode b_Tree_clear 13 = .ok (.iconst 2, 1) := by decide +kernel
theorem d_Tree_clear_14 : decode b_Tree_clear 14 = .ok (.iastore, 1) := by decide +kernel
theorem d_Tree_clear_15 : decode b_Tree_clear 15 = .ok (.aload_n 0, 1) := by decide +kernel
theorem d_Tree_clear_16 : decode b_Tree_clear 16 = .ok (.iconst 0, 1) := by decide +kernel
theorem d_Tree_clear_17 : decode b_Tree_clear 17 = .ok (.putfield 28, 3) := by decide +kernel
theorem d_Tree_clear_20 : decode b_Tree_clear 20 = .ok (.return_, 1) := by decide +kernel
set_option maxHeartbeats 4000000 in
set_option maxRecDepth 100000 in
/-- Tree.isWithin: its loop -/
theorem lp_Tree_isWithin {l : Launch} {D : va_G} {kd : Nat → ClassId} {z : Nat} {S : tS} {t0 a b c d u : Nat} {nn : Int32} {o : Int32} {fb : Nat → Int32} (m_t0 : t0 ∈ S.1) (f_t0 : S.2 t0 = .inr (9, [.ref a, .ref b, .ref c, .ref d, .ref u, .int nn])) (m_b : b ∈ S.1) (f_b : S.2 b = .inl (kd 0, 201, .inl fb))  : ∀ (t k' : Nat) (k x : Int32) (res : Int32), k = nI k' → k' + t = 201 → res = (if trUp fb o t x = o then 1 else 0) → tP b_Tree_isWithin "FlashVault$Tree" 5 (some FieldType.boolean) false [] { frames := 2, locals := 42 } D (tyl kd) z l (fun o9 T9 => T9 = S ∧ o9 = .inl (some (.int res))) 0 0 5 [(4, .int k), (3, .int x), (0, .ref t0), (2, .int o)] [] S := by
  intro t
  induction t with
  | zero =>
    intro k' k x res hk hs hr
    have hge : 200 < k := by rw [hk, show k' = 201 by omega]; decide
    refine tt_iload d_Tree_isWithin_5 0 rfl ?_
    refine tt_sipush (v := 200) d_Tree_isWithin_7 (by decide) ?_
    refine tt_icmp_gt (t := 34) d_Tree_isWithin_10 (by decide) (fun hc1 => ?_) (fun hc1 => ?_)
    · skip
      refine tt_iload_n d_Tree_isWithin_34 rfl 1 rfl ?_
      refine tt_iload_n d_Tree_isWithin_35 rfl 3 rfl ?_
      refine tt_icmp_ne (t := 43) d_Tree_isWithin_36 (by decide) (fun hc2 => ?_) (fun hc2 => ?_)
      · skip
        refine tt_iconst (v := 0) d_Tree_isWithin_43 (by decide) ?_
        exact tt_ret rfl (by first | rfl | decide | exact nz_ite _) (Nat.le_refl _) (Nat.le_refl _) d_Tree_isWithin_44 (by first | (exact absurd hge (by first | assumption | exact Int32.not_le.mpr (by assumption))) | (refine ⟨rfl, ?_⟩; rw [hr]; unfold trUp; first | rfl | (simp [hc1, Int32.not_le.mpr hc1, hc2]; done) | simp_all))
      · skip
        refine tt_iconst (v := 1) d_Tree_isWithin_39 (by decide) ?_
        refine tt_goto (t := 44) d_Tree_isWithin_40 (by decide) ?_
        exact tt_ret rfl (by first | rfl | decide | exact nz_ite _) (Nat.le_refl _) (Nat.le_refl _) d_Tree_isWithin_44 (by first | (exact absurd hge (by first | assumption | exact Int32.not_le.mpr (by assumption))) | (refine ⟨rfl, ?_⟩; rw [hr]; unfold trUp; first | rfl | (simp [hc1, Int32.not_le.mpr hc1, hc2]; done) | simp_all))
    · skip
      exact absurd hge hc1
  | succ t ih =>
    intro k' k x res hk hs hr
    have hlt : ¬ 200 < k := by rw [hk]; intro h; have h9 := (nI_ltI (a := 200) (b := k') (by decide) (by omega)).mp h; omega
    refine tt_iload d_Tree_isWithin_5 0 rfl ?_
    refine tt_sipush (v := 200) d_Tree_isWithin_7 (by decide) ?_
    refine tt_icmp_gt (t := 34) d_Tree_isWithin_10 (by decide) (fun hc1 => ?_) (fun hc1 => ?_)
    · skip
      exact absurd hc1 hlt
    · skip
      refine tt_iload_n d_Tree_isWithin_13 rfl 1 rfl ?_
      refine tt_if_le (t := 34) d_Tree_isWithin_14 (by decide) (fun hc2 => ?_) (fun hc2 => ?_)
      · skip
        refine tt_iload_n d_Tree_isWithin_34 rfl 1 rfl ?_
        refine tt_iload_n d_Tree_isWithin_35 rfl 3 rfl ?_
        refine tt_icmp_ne (t := 43) d_Tree_isWithin_36 (by decide) (fun hc3 => ?_) (fun hc3 => ?_)
        · skip
          refine tt_iconst (v := 0) d_Tree_isWithin_43 (by decide) ?_
          exact tt_ret rfl (by first | rfl | decide | exact nz_ite _) (Nat.le_refl _) (Nat.le_refl _) d_Tree_isWithin_44 (by first | (exact absurd (by assumption) hlt) | (refine ⟨rfl, ?_⟩; rw [hr]; unfold trUp; first | rfl | (simp [hc1, Int32.not_lt.mp hc1, hc2, Int32.not_lt.mpr hc2, hc3]; done) | simp_all))
        · skip
          refine tt_iconst (v := 1) d_Tree_isWithin_39 (by decide) ?_
          refine tt_goto (t := 44) d_Tree_isWithin_40 (by decide) ?_
          exact tt_ret rfl (by first | rfl | decide | exact nz_ite _) (Nat.le_refl _) (Nat.le_refl _) d_Tree_isWithin_44 (by first | (exact absurd (by assumption) hlt) | (refine ⟨rfl, ?_⟩; rw [hr]; unfold trUp; first | rfl | (simp [hc1, Int32.not_lt.mp hc1, hc2, Int32.not_lt.mpr hc2, hc3]; done) | simp_all))
      · skip
        refine tt_iload_n d_Tree_isWithin_17 rfl 1 rfl ?_
        refine tt_iload_n d_Tree_isWithin_18 rfl 3 rfl ?_
        refine tt_icmp_eq (t := 34) d_Tree_isWithin_19 (by decide) (fun hc4 => ?_) (fun hc4 => ?_)
        · skip
          refine tt_iload_n d_Tree_isWithin_34 rfl 1 rfl ?_
          refine tt_iload_n d_Tree_isWithin_35 rfl 3 rfl ?_
          refine tt_icmp_ne (t := 43) d_Tree_isWithin_36 (by decide) (fun hc5 => ?_) (fun hc5 => ?_)
          · skip
            refine tt_iconst (v := 0) d_Tree_isWithin_43 (by decide) ?_
            exact tt_ret rfl (by first | rfl | decide | exact nz_ite _) (Nat.le_refl _) (Nat.le_refl _) d_Tree_isWithin_44 (by first | (exact absurd (by assumption) hlt) | (refine ⟨rfl, ?_⟩; rw [hr]; unfold trUp; first | rfl | (simp [hc1, Int32.not_lt.mp hc1, hc2, Int32.not_le.mp hc2, hc4, hc5]; done) | simp_all))
          · skip
            refine tt_iconst (v := 1) d_Tree_isWithin_39 (by decide) ?_
            refine tt_goto (t := 44) d_Tree_isWithin_40 (by decide) ?_
            exact tt_ret rfl (by first | rfl | decide | exact nz_ite _) (Nat.le_refl _) (Nat.le_refl _) d_Tree_isWithin_44 (by first | (exact absurd (by assumption) hlt) | (refine ⟨rfl, ?_⟩; rw [hr]; unfold trUp; first | rfl | (simp [hc1, Int32.not_lt.mp hc1, hc2, Int32.not_le.mp hc2, hc4, hc5]; done) | simp_all))
        · skip
          refine tt_aload_n d_Tree_isWithin_22 rfl 2 rfl ?_
          refine tt_iload_n d_Tree_isWithin_23 rfl 1 rfl ?_
          refine tt_callV (bytes := b_Tree_parentOf) (nL' := 2) (ret' := (some FieldType.int)) (hh' := []) (As := [.int x]) w_8_104 w_8_105 w_8_106 w_1_6 w_8_107 ⟨by decide, by decide, rfl⟩ (c_Tree_parentOf m_t0 f_t0 m_b f_b) m_t0 f_t0 rfl ⟨Nat.le_of_ble_eq_true rfl, Nat.le_of_ble_eq_true rfl, Nat.le_of_ble_eq_true rfl, Nat.le_of_ble_eq_true rfl⟩ (Nat.le_of_ble_eq_true rfl) d_Tree_isWithin_24 rfl (fun v9 S6 hq => ?_) (fun k9 S9 hq => by cases hq.2)
          obtain ⟨hS6, ho9⟩ := hq
          cases ho9
          refine tt_S hS6.symm ?_
          refine tt_istore_n (lv' := [(3, .int ((if isNum x = 0 then 0 else fb x.toNatClampNeg))), (4, .int k), (0, .ref t0), (2, .int o)]) d_Tree_isWithin_27 rfl (by decide) rfl ?_
          refine tt_iinc (v := (k + 1)) (lv' := [(4, .int ((k + 1))), (3, .int ((if isNum x = 0 then 0 else fb x.toNatClampNeg))), (0, .ref t0), (2, .int o)]) d_Tree_isWithin_28 1 rfl rfl (by decide) rfl ?_
          refine tt_goto (t := 5) d_Tree_isWithin_31 (by decide) ?_
          refine tt_sub (lv' := [(4, .int ((k + 1))), (3, .int ((if isNum x = 0 then 0 else fb x.toNatClampNeg))), (0, .ref t0), (2, .int o)]) [0, 1, 2, 3] rfl ?_
          exact ih (k' + 1) (k + 1) ((if isNum x = 0 then 0 else fb x.toNatClampNeg)) res (by rw [hk]; exact nI_1 k') (by omega) (by rw [hr, trUp]; first | rfl | (simp [hc1, Int32.not_lt.mp hc1, hc2, Int32.not_le.mp hc2, hc4]; done) | simp_all)
set_option maxHeartbeats 4000000 in
set_option maxRecDepth 100000 in
/-- Tree.isWithin -/
theorem c_Tree_isWithin {l : Launch} {D : va_G} {kd : Nat → ClassId} {z : Nat} {S : tS} {t0 a b c d u : Nat} {nn : Int32} {o : Int32} {fb : Nat → Int32} {i : Int32} (m_t0 : t0 ∈ S.1) (f_t0 : S.2 t0 = .inr (9, [.ref a, .ref b, .ref c, .ref d, .ref u, .int nn])) (m_b : b ∈ S.1) (f_b : S.2 b = .inl (kd 0, 201, .inl fb))   : tM l y_Tree_isWithin b_Tree_isWithin 5 (some FieldType.boolean) [] { frames := 2, locals := 42 } D (tyl kd) z [.ref t0, .int i, .int o] S (fun o9 T9 => T9 = S ∧ o9 = .inl (some (.int (if trUp fb o 201 i = o then 1 else 0)))) := by
  refine tM.of (own := "FlashVault$Tree") (ini := false) (by decide) rfl (fun h => by first | rfl | cases h) (Nat.le_of_ble_eq_true rfl) (lv := [(0, .ref t0), (1, .int i), (2, .int o)]) rfl ?_
  refine tt_iload_n d_Tree_isWithin_0 rfl 1 rfl ?_
  refine tt_istore_n (lv' := [(3, .int i), (0, .ref t0), (1, .int i), (2, .int o)]) d_Tree_isWithin_1 rfl (by decide) rfl ?_
  refine tt_iconst (v := 0) d_Tree_isWithin_2 (by decide) ?_
  refine tt_istore (lv' := [(4, .int 0), (3, .int i), (0, .ref t0), (1, .int i), (2, .int o)]) d_Tree_isWithin_3 (by decide) rfl ?_
  refine tt_sub (lv' := [(4, .int 0), (3, .int i), (0, .ref t0), (2, .int o)]) [0, 1, 2, 4] rfl ?_
  exact lp_Tree_isWithin m_t0 f_t0 m_b f_b 201 0 0 i _ nI_0.symm (by omega) rfl
set_option maxHeartbeats 4000000 in
set_option maxRecDepth 100000 in
/-- Tree.clear -/
theorem c_Tree_clear {l : Launch} {D : va_G} {kd : Nat → ClassId} {z : Nat} {S : tS} {t0 a b c d u : Nat} {nn : Int32} {fa : Nat → Int32} (m_t0 : t0 ∈ S.1) (f_t0 : S.2 t0 = .inr (9, [.ref a, .ref b, .ref c, .ref d, .ref u, .int nn])) (m_a : a ∈ S.1) (f_a : S.2 a = .inl (kd 0, 201, .inl fa))   : tM l y_Tree_clear b_Tree_clear 1 none [] { frames := 1, locals := 23 } D (tyl kd) z [.ref t0] S (fun o9 T9 => T9 = tset (tset S a (.inl (kd 0, 201, .inl (upd (aFill 0 201 0 fa) (0 : Int32).toNatClampNeg 2)))) t0 (.inr (9, [.ref a, .ref b, .ref c, .ref d, .ref u, .int 0])) ∧ o9 = .inl none) := by
  refine tM.of (own := "FlashVault$Tree") (ini := false) (by decide) rfl (fun h => by first | rfl | cases h) (Nat.le_of_ble_eq_true rfl) (lv := [(0, .ref t0)]) rfl ?_
  refine tt_aload_n d_Tree_clear_0 rfl 0 rfl ?_
  refine tt_get F_Tree_9 d_Tree_clear_1 m_t0 f_t0 rfl ?_
  refine tt_iconst (v := 0) d_Tree_clear_4 (by decide) ?_
  refine tt_callS (bytes := b_java_util_Arrays_fill2) (nL' := 4) (ret' := none) (hh' := []) (As := [.ref a, .int 0]) w_7_118 w_7_15 w_1_8 w_7_16 ⟨by decide, by decide, rfl⟩ (c_java_util_Arrays_fill2 m_a f_a (by decide)) ⟨Nat.le_of_ble_eq_true rfl, Nat.le_of_ble_eq_true rfl, Nat.le_of_ble_eq_true rfl, Nat.le_of_ble_eq_true rfl⟩ (Nat.le_of_ble_eq_true rfl) d_Tree_clear_5 rfl (fun v9 S1 hq => ?_) (fun k9 S9 hq => by cases hq.2)
  obtain ⟨hS1, ho9⟩ := hq
  cases ho9
  have m2 : t0 ∈ S1.1 := by rw [hS1]; exact m_t0
  have f3 : S1.2 t0 = .inr (9, [.ref a, .ref b, .ref c, .ref d, .ref u, .int nn]) := by rw [hS1]; exact (va_up_ne _ _ (fun h => by have h9 := f_t0; rw [h, f_a] at h9; cases h9)).trans (f_t0)
  have m4 : a ∈ S1.1 := by rw [hS1]; exact m_a
  have f5 : S1.2 a = .inl (kd 0, 201, .inl (aFill 0 201 0 fa)) := by rw [hS1]; exact va_up_self _ _ _
  refine tt_aload_n d_Tree_clear_8 rfl 0 rfl ?_
  refine tt_get F_Tree_9 d_Tree_clear_9 m2 f3 rfl ?_
  refine tt_iconst (v := 0) d_Tree_clear_12 (by decide) ?_
  refine tt_iconst (v := 2) d_Tree_clear_13 (by decide) ?_
  refine tt_iast 0 d_Tree_clear_14 rfl m4 f5 (vp_in_nI (n := 0) (by decide) (by decide)) ?_
  obtain ⟨S6, hS6⟩ : ∃ x9, x9 = tset S1 a (.inl (kd 0, 201, .inl (upd (aFill 0 201 0 fa) (0 : Int32).toNatClampNeg (2)))) := ⟨_, rfl⟩
  refine tt_S hS6 ?_
  have m7 : t0 ∈ S6.1 := by rw [hS6]; exact m2
  have f8 : S6.2 t0 = .inr (9, [.ref a, .ref b, .ref c, .ref d, .ref u, .int nn]) := by rw [hS6]; exact (va_up_ne _ _ (fun h => by have h9 := f_t0; rw [h, f_a] at h9; cases h9)).trans f3
  have m9 : a ∈ S6.1 := by rw [hS6]; exact m4
  have f10 : S6.2 a = .inl (kd 0, 201, .inl (upd (aFill 0 201 0 fa) (0 : Int32).toNatClampNeg (2))) := by rw [hS6]; exact va_up_self _ _ _
  refine tt_aload_n d_Tree_clear_15 rfl 0 rfl ?_
  refine tt_iconst (v := 0) d_Tree_clear_16 (by decide) ?_
  refine tt_put F_Tree_28 d_Tree_clear_17 m7 f8 (Or.inl rfl) (by first | rfl | decide | exact pk_nz _) (by first | rfl | decide) (by simp) ?_
  obtain ⟨S11, hS11⟩ : ∃ x9, x9 = tset S6 t0 (.inr (9, [.ref a, .ref b, .ref c, .ref d, .ref u, .int 0])) := ⟨_, rfl⟩
  refine tt_S hS11 ?_
  have m12 : t0 ∈ S11.1 := by rw [hS11]; exact m7
  have f13 : S11.2 t0 = .inr (9, [.ref a, .ref b, .ref c, .ref d, .ref u, .int 0]) := by rw [hS11]; exact va_up_self _ _ _
  have m14 : a ∈ S11.1 := by rw [hS11]; exact m9
  have f15 : S11.2 a = .inl (kd 0, 201, .inl (upd (aFill 0 201 0 fa) (0 : Int32).toNatClampNeg (2))) := by rw [hS11]; exact (va_up_ne _ _ (fun h => by have h9 := f_a; rw [h, f_t0] at h9; cases h9)).trans f10
  exact tt_vret rfl (Nat.le_of_ble_eq_true rfl) (Nat.le_of_ble_eq_true rfl) d_Tree_clear_20 (by exact ⟨by rw [hS11, hS6, hS1, ts_ts] <;> rfl, rfl⟩)
