/-! ===== the JDK's fills; Chip.erase, Row.blank; written by wip/gen/jdk.py ===== -/
/-- t places from k on hold v -/
def aFill (v : Int32) : Nat → Int32 → (Nat → Int32) → (Nat → Int32)
  | 0, _, f => f
  | t + 1, k, f => aFill v t (k + 1) (upd f k.toNatClampNeg v)
abbrev b_java_util_Arrays_rangeCheck : ByteArray := prog_32_method_30_code
def y_java_util_Arrays_rangeCheck : MethodName := ⟨"java/util/Arrays", "rangeCheck", "(III)V"⟩
theorem d_java_util_Arrays_rangeCheck_0 : decode b_java_util_Arrays_rangeCheck 0 = .ok (.iload_n 1, 1) := by decide +kernel
theorem d_java_util_Arrays_rangeCheck_1 : decode b_java_util_Arrays_rangeCheck 1 = .ok (.iload_n 2, 1) := by decide +kernel
theorem d_java_util_Arrays_rangeCheck_2 : decode b_java_util_Arrays_rangeCheck 2 = .ok (.if_icmp .le 44, 3) := by decide +kernel
theorem d_java_util_Arrays_rangeCheck_46 : decode b_java_util_Arrays_rangeCheck 46 = .ok (.iload_n 1, 1) := by decide +kernel
theorem d_java_util_Arrays_rangeCheck_47 : decode b_java_util_Arrays_rangeCheck 47 = .ok (.ifCond .ge 12, 3) := by decide +kernel
theorem d_java_util_Arrays_rangeCheck_59 : decode b_java_util_Arrays_rangeCheck 59 = .ok (.iload_n 2, 1) := by decide +kernel
theorem d_java_util_Arrays_rangeCheck_60 : decode b_java_util_Arrays_rangeCheck 60 = .ok (.iload_n 0, 1) := by decide +kernel
theorem d_java_util_Arrays_rangeCheck_61 : decode b_java_util_Arrays_rangeCheck 61 = .ok (.if_icmp .le 12, 3) := by decide +kernel
theorem d_java_util_Arrays_rangeCheck_73 : decode b_java_util_Arrays_rangeCheck 73 = .ok (.return_, 1) := by decide +kernel
abbrev b_java_util_Arrays_fill0 : ByteArray := prog_32_method_109_code
def y_java_util_Arrays_fill0 : MethodName := ⟨"java/util/Arrays", "fill", "([BB)V"⟩
theorem d_java_util_Arrays_fill0_5 : decode b_java_util_Arrays_fill0 5 = .ok (.iload_n 2, 1) := by decide +kernel
theorem d_java_util_Arrays_fill0_6 : decode b_java_util_Arrays_fill0 6 = .ok (.iload_n 3, 1) := by decide +kernel
theorem d_java_util_Arrays_fill0_7 : decode b_java_util_Arrays_fill0 7 = .ok (.if_icmp .ge 13, 3) := by decide +kernel
theorem d_java_util_Arrays_fill0_20 : decode b_java_util_Arrays_fill0 20 = .ok (.return_, 1) := by decide +kernel
theorem d_java_util_Arrays_fill0_10 : decode b_java_util_Arrays_fill0 10 = .ok (.aload_n 0, 1) := by decide +kernel
theorem d_java_util_Arrays_fill0_11 : decode b_java_util_Arrays_fill0 11 = .ok (.iload_n 2, 1) := by decide +kernel
theorem d_java_util_Arrays_fill0_12 : decode b_java_util_Arrays_fill0 12 = .ok (.iload_n 1, 1) := by decide +kernel
theorem d_java_util_Arrays_fill0_13 : decode b_java_util_Arrays_fill0 13 = .ok (.bastore, 1) := by decide +kernel
theorem d_java_util_Arrays_fill0_14 : decode b_java_util_Arrays_fill0 14 = .ok (.iinc 2 1, 3) := by decide +kernel
theorem d_java_util_Arrays_fill0_17 : decode b_java_util_Arrays_fill0 17 = .ok (.goto (-12), 3) := by decide +kernel
theorem d_java_util_Arrays_fill0_0 : decode b_java_util_Arrays_fill0 0 = .ok (.iconst 0, 1) := by decide +kernel
theorem d_java_util_Arrays_fill0_1 : decode b_java_util_Arrays_fill0 1 = .ok (.istore_n 2, 1) := by decide +kernel
theorem d_java_util_Arrays_fill0_2 : decode b_java_util_Arrays_fill0 2 = .ok (.aload_n 0, 1) := by decide +kernel
theorem d_java_util_Arrays_fill0_3 : decode b_java_util_Arrays_fill0 3 = .ok (.arraylength, 1) := by decide +kernel
theorem d_java_util_Arrays_fill0_4 : decode b_java_util_Arrays_fill0 4 = .ok (.istore_n 3, 1) := by decide +kernel
abbrev b_java_util_Arrays_fill2 : ByteArray := prog_32_method_103_code
def y_java_util_Arrays_fill2 : MethodName := ⟨"java/util/Arrays", "fill", "([II)V"⟩
theorem d_java_util_Arrays_fill2_5 : decode b_java_util_Arrays_fill2 5 = .ok (.iload_n 2, 1) := by decide +kernel
theorem d_java_util_Arrays_fill2_6 : decode b_java_util_Arrays_fill2 6 = .ok (.iload_n 3, 1) := by decide +kernel
theorem d_java_util_Arrays_fill2_7 : decode b_java_util_Arrays_fill2 7 = .ok (.if_icmp .ge 13, 3) := by decide +kernel
theorem d_java_util_Arrays_fill2_20 : decode b_java_util_Arrays_fill2 20 = .ok (.return_, 1) := by decide +kernel
theorem d_java_util_Arrays_fill2_10 : decode b_java_util_Arrays_fill2 10 = .ok (.aload_n 0, 1) := by decide +kernel
theorem d_java_util_Arrays_fill2_11 : decode b_java_util_Arrays_fill2 11 = .ok (.iload_n 2, 1) := by decide +kernel
theorem d_java_util_Arrays_fill2_12 : decode b_java_util_Arrays_fill2 12 = .ok (.iload_n 1, 1) := by decide +kernel
theorem d_java_util_Arrays_fill2_13 : decode b_java_util_Arrays_fill2 13 = .ok (.iastore, 1) := by decide +kernel
theorem d_java_util_Arrays_fill2_14 : decode b_java_util_Arrays_fill2 14 = .ok (.iinc 2 1, 3) := by decide +kernel
theorem d_java_util_Arrays_fill2_17 : decode b_java_util_Arrays_fill2 17 = .ok (.goto (-12), 3) := by decide +kernel
theorem d_java_util_Arrays_fill2_0 : decode b_java_util_Arrays_fill2 0 = .ok (.iconst 0, 1) := by decide +kernel
theorem d_java_util_Arrays_fill2_1 : decode b_java_util_Arrays_fill2 1 = .ok (.istore_n 2, 1) := by decide +kernel
theorem d_java_util_Arrays_fill2_2 : decode b_java_util_Arrays_fill2 2 = .ok (.aload_n 0, 1) := by decide +kernel
theorem d_java_util_Arrays_fill2_3 : decode b_java_util_Arrays_fill2 3 = .ok (.arraylength, 1) := by decide +kernel
theorem d_java_util_Arrays_fill2_4 : decode b_java_util_Arrays_fill2 4 = .ok (.istore_n 3, 1) := by decide +kernel
abbrev b_java_util_Arrays_fill1 : ByteArray := prog_32_method_110_code
def y_java_util_Arrays_fill1 : MethodName := ⟨"java/util/Arrays", "fill", "([BIIB)V"⟩
theorem d_java_util_Arrays_fill1_10 : decode b_java_util_Arrays_fill1 10 = .ok (.iload 4, 2) := by decide +kernel
theorem d_java_util_Arrays_fill1_12 : decode b_java_util_Arrays_fill1 12 = .ok (.iload_n 2, 1) := by decide +kernel
theorem d_java_util_Arrays_fill1_13 : decode b_java_util_Arrays_fill1 13 = .ok (.if_icmp .ge 14, 3) := by decide +kernel
theorem d_java_util_Arrays_fill1_27 : decode b_java_util_Arrays_fill1 27 = .ok (.return_, 1) := by decide +kernel
theorem d_java_util_Arrays_fill1_16 : decode b_java_util_Arrays_fill1 16 = .ok (.aload_n 0, 1) := by decide +kernel
theorem d_java_util_Arrays_fill1_17 : decode b_java_util_Arrays_fill1 17 = .ok (.iload 4, 2) := by decide +kernel
theorem d_java_util_Arrays_fill1_19 : decode b_java_util_Arrays_fill1 19 = .ok (.iload_n 3, 1) := by decide +kernel
theorem d_java_util_Arrays_fill1_20 : decode b_java_util_Arrays_fill1 20 = .ok (.bastore, 1) := by decide +kernel
theorem d_java_util_Arrays_fill1_21 : decode b_java_util_Arrays_fill1 21 = .ok (.iinc 4 1, 3) := by decide +kernel
theorem d_java_util_Arrays_fill1_24 : decode b_java_util_Arrays_fill1 24 = .ok (.goto (-14), 3) := by decide +kernel
theorem d_java_util_Arrays_fill1_0 : decode b_java_util_Arrays_fill1 0 = .ok (.aload_n 0, 1) := by decide +kernel
theorem d_java_util_Arrays_fill1_1 : decode b_java_util_Arrays_fill1 1 = .ok (.arraylength, 1) := by decide +kernel
theorem d_java_util_Arrays_fill1_2 : decode b_java_util_Arrays_fill1 2 = .ok (.iload_n 1, 1) := by decide +kernel
theorem d_java_util_Arrays_fill1_3 : decode b_java_util_Arrays_fill1 3 = .ok (.iload_n 2, 1) := by decide +kernel
theorem d_java_util_Arrays_fill1_4 : decode b_java_util_Arrays_fill1 4 = .ok (.invokestatic 13, 3) := by decide +kernel
theorem w_5_118 : (Cond.methodLink "java/util/Arrays" (13 : Nat) ({ cls := "java/util/Arrays", name := "rangeCheck", desc := "(III)V" } : MethodName)) ∈ gW := gW_5 118 rfl rfl
theorem w_1_8 : (Cond.initialized "java/util/Arrays") ∈ gW := gW_1 8 rfl rfl
theorem w_5_120 : (Cond.code ({ cls := "java/util/Arrays", name := "rangeCheck", desc := "(III)V" } : MethodName) prog_32_method_30_code (3 : Nat) (Option.none : Option FieldType)) ∈ gW := gW_5 120 rfl rfl
theorem w_5_119 : (Cond.static ({ cls := "java/util/Arrays", name := "rangeCheck", desc := "(III)V" } : MethodName)) ∈ gW := gW_5 119 rfl rfl
theorem d_java_util_Arrays_fill1_7 : decode b_java_util_Arrays_fill1 7 = .ok (.iload_n 1, 1) := by decide +kernel
theorem d_java_util_Arrays_fill1_8 : decode b_java_util_Arrays_fill1 8 = .ok (.istore 4, 2) := by decide +kernel
set_option maxHeartbeats 4000000 in
set_option maxRecDepth 100000 in
/-- Arrays.rangeCheck, in range -/
theorem c_java_util_Arrays_rangeCheck {l : Launch} {D : va_G} {kd : Nat → ClassId} {z : Nat} {S : tS} {n i j : Int32}   (h1 : i ≤ j) (h2 : 0 ≤ i) (h3 : j ≤ n) : tM l y_java_util_Arrays_rangeCheck b_java_util_Arrays_rangeCheck 3 none [] {} D (tyl kd) z [.int n, .int i, .int j] S (fun o9 T9 => T9 = S ∧ o9 = .inl none) := by
  refine tM.of (own := "java/util/Arrays") (ini := false) (by decide) rfl (fun h => by first | rfl | cases h) (Nat.le_of_ble_eq_true rfl) (lv := [(0, .int n), (1, .int i), (2, .int j)]) rfl ?_
  refine tt_iload_n d_java_util_Arrays_rangeCheck_0 rfl 1 rfl ?_
  refine tt_iload_n d_java_util_Arrays_rangeCheck_1 rfl 2 rfl ?_
  refine tt_icmp_le (t := 46) d_java_util_Arrays_rangeCheck_2 (by decide) (fun hc1 => ?_) (fun hc1 => ?_)
  · skip
    refine tt_iload_n d_java_util_Arrays_rangeCheck_46 rfl 1 rfl ?_
    refine tt_if_ge (t := 59) d_java_util_Arrays_rangeCheck_47 (by decide) (fun hc2 => ?_) (fun hc2 => ?_)
    · skip
      refine tt_iload_n d_java_util_Arrays_rangeCheck_59 rfl 2 rfl ?_
      refine tt_iload_n d_java_util_Arrays_rangeCheck_60 rfl 0 rfl ?_
      refine tt_icmp_le (t := 73) d_java_util_Arrays_rangeCheck_61 (by decide) (fun hc3 => ?_) (fun hc3 => ?_)
      · skip
        exact tt_vret rfl (Nat.le_of_ble_eq_true rfl) (Nat.le_of_ble_eq_true rfl) d_java_util_Arrays_rangeCheck_73 (by refine ⟨?_, ?_⟩ <;> first | rfl | (simp [hc1, Int32.not_lt.mpr hc1, hc2, Int32.not_lt.mpr hc2, hc3, Int32.not_lt.mpr hc3, vz0, vz1, pk_vb]; done) | (subst_vars; simp [hc1, Int32.not_lt.mpr hc1, hc2, Int32.not_lt.mpr hc2, hc3, Int32.not_lt.mpr hc3, vz0, vz1, pk_vb]; done) | (subst_vars; rfl))
      · skip
        exact absurd h3 hc3
    · skip
      exact absurd h2 hc2
  · skip
    exact absurd h1 hc1
set_option maxHeartbeats 4000000 in
set_option maxRecDepth 100000 in
/-- Arrays.fill of bytes: its loop -/
theorem lp_java_util_Arrays_fill0 {l : Launch} {D : va_G} {kd : Nat → ClassId} {z : Nat} {a n : Nat} {v : Int32} {res : tS}  (hn : n < 2 ^ 31) : ∀ (t k' : Nat) (k  : Int32) (S : tS) (f : Nat → Int32), a ∈ S.1 → S.2 a = .inl (kd 1, n, .inl f) → k = nI k' → k' + t = n → res = tset S a (.inl (kd 1, n, .inl (aFill (vp_nar .byte v) t k f))) → tP b_java_util_Arrays_fill0 "java/util/Arrays" 4 none false [] {} D (tyl kd) z l (fun o9 T9 => T9 = res ∧ o9 = .inl none) 0 0 5 [(2, .int k), (3, .int ((nI (n)))), (0, .ref a), (1, .int v)] [] S := by
  intro t
  induction t with
  | zero =>
    intro k' k  S f m_a f_a hk hs hr
    have hge : nI (n) ≤ k := by rw [hk, show k' = n by omega]; first | exact Int32.le_refl _ | decide | (rw [nI_add]; exact Int32.le_refl _)
    refine tt_iload_n d_java_util_Arrays_fill0_5 rfl 0 rfl ?_
    refine tt_iload_n d_java_util_Arrays_fill0_6 rfl 1 rfl ?_
    refine tt_icmp_ge (t := 20) d_java_util_Arrays_fill0_7 (by decide) (fun hc1 => ?_) (fun hc1 => ?_)
    · skip
      exact tt_vret rfl (Nat.le_refl _) (Nat.le_refl _) d_java_util_Arrays_fill0_20 (by first | (exact absurd hge (by first | assumption | exact Int32.not_le.mpr (by assumption))) | exact ⟨by rw [hr]; exact (ts_self f_a).symm, rfl⟩)
    · skip
      refine tt_aload_n d_java_util_Arrays_fill0_10 rfl 2 rfl ?_
      refine tt_iload_n d_java_util_Arrays_fill0_11 rfl 0 rfl ?_
      refine tt_iload_n d_java_util_Arrays_fill0_12 rfl 3 rfl ?_
      refine tt_bast 1 d_java_util_Arrays_fill0_13 rfl m_a f_a (absurd hge (by assumption)) ?_
      obtain ⟨S2, hS2⟩ : ∃ x9, x9 = tset S a (.inl (kd 1, n, .inl (upd f (k).toNatClampNeg (vp_nar .byte (v))))) := ⟨_, rfl⟩
      refine tt_S hS2 ?_
      have m3 : a ∈ S2.1 := by rw [hS2]; exact m_a
      have f4 : S2.2 a = .inl (kd 1, n, .inl (upd f (k).toNatClampNeg (vp_nar .byte (v)))) := by rw [hS2]; exact va_up_self _ _ _
      refine tt_iinc (v := (k + 1)) (lv' := [(2, .int ((k + 1))), (3, .int ((nI (n)))), (0, .ref a), (1, .int v)]) d_java_util_Arrays_fill0_14 0 rfl rfl (by decide) rfl ?_
      refine tt_goto (t := 5) d_java_util_Arrays_fill0_17 (by decide) ?_
      refine tt_sub (lv' := [(2, .int ((k + 1))), (3, .int ((nI (n)))), (0, .ref a), (1, .int v)]) [0, 1, 2, 3] rfl ?_
      exact absurd hge (by first | assumption | exact Int32.not_le.mpr (by assumption))
  | succ t ih =>
    intro k' k  S f m_a f_a hk hs hr
    have hlt : ¬ nI (n) ≤ k := by rw [hk]; first | exact nI_ge (b := n) (by omega) (by omega) | (rw [nI_add]; exact nI_ge (by omega) (by omega))
    refine tt_iload_n d_java_util_Arrays_fill0_5 rfl 0 rfl ?_
    refine tt_iload_n d_java_util_Arrays_fill0_6 rfl 1 rfl ?_
    refine tt_icmp_ge (t := 20) d_java_util_Arrays_fill0_7 (by decide) (fun hc1 => ?_) (fun hc1 => ?_)
    · skip
      exact tt_vret rfl (Nat.le_refl _) (Nat.le_refl _) d_java_util_Arrays_fill0_20 (by first | (exact absurd (by assumption) hlt) | exact ⟨by rw [hr]; exact (ts_self f_a).symm, rfl⟩)
    · skip
      refine tt_aload_n d_java_util_Arrays_fill0_10 rfl 2 rfl ?_
      refine tt_iload_n d_java_util_Arrays_fill0_11 rfl 0 rfl ?_
      refine tt_iload_n d_java_util_Arrays_fill0_12 rfl 3 rfl ?_
      refine tt_bast 1 d_java_util_Arrays_fill0_13 rfl m_a f_a (by rw [hk]; exact vp_in_nI (by omega) (by omega)) ?_
      obtain ⟨S2, hS2⟩ : ∃ x9, x9 = tset S a (.inl (kd 1, n, .inl (upd f (k).toNatClampNeg (vp_nar .byte (v))))) := ⟨_, rfl⟩
      refine tt_S hS2 ?_
      have m3 : a ∈ S2.1 := by rw [hS2]; exact m_a
      have f4 : S2.2 a = .inl (kd 1, n, .inl (upd f (k).toNatClampNeg (vp_nar .byte (v)))) := by rw [hS2]; exact va_up_self _ _ _
      refine tt_iinc (v := (k + 1)) (lv' := [(2, .int ((k + 1))), (3, .int ((nI (n)))), (0, .ref a), (1, .int v)]) d_java_util_Arrays_fill0_14 0 rfl rfl (by decide) rfl ?_
      refine tt_goto (t := 5) d_java_util_Arrays_fill0_17 (by decide) ?_
      refine tt_sub (lv' := [(2, .int ((k + 1))), (3, .int ((nI (n)))), (0, .ref a), (1, .int v)]) [0, 1, 2, 3] rfl ?_
      exact ih (k' + 1) (k + 1)  S2 _ m3 f4 (by rw [hk]; exact nI_1 k') (by omega) (by rw [hr, aFill]; first | rfl | (simp [hc1, Int32.not_le.mp hc1, hS2, ts_ts, vz0, vz1, pk_vb]; done) | (subst_vars; simp [hc1, Int32.not_le.mp hc1, ts_ts, vz0, vz1, pk_vb]; done) | simp_all)
set_option maxHeartbeats 4000000 in
set_option maxRecDepth 100000 in
/-- Arrays.fill of bytes -/
theorem c_java_util_Arrays_fill0 {l : Launch} {D : va_G} {kd : Nat → ClassId} {z : Nat} {S : tS} {a n : Nat} {v : Int32} {f : Nat → Int32} (m_a : a ∈ S.1) (f_a : S.2 a = .inl (kd 1, n, .inl f))  (hn : n < 2 ^ 31) : tM l y_java_util_Arrays_fill0 b_java_util_Arrays_fill0 4 none [] {} D (tyl kd) z [.ref a, .int v] S (fun o9 T9 => T9 = tset S a (.inl (kd 1, n, .inl (aFill (vp_nar .byte v) n 0 f))) ∧ o9 = .inl none) := by
  refine tM.of (own := "java/util/Arrays") (ini := false) (by decide) rfl (fun h => by first | rfl | cases h) (Nat.le_of_ble_eq_true rfl) (lv := [(0, .ref a), (1, .int v)]) rfl ?_
  refine tt_iconst (v := 0) d_java_util_Arrays_fill0_0 (by decide) ?_
  refine tt_istore_n (lv' := [(2, .int 0), (0, .ref a), (1, .int v)]) d_java_util_Arrays_fill0_1 rfl (by decide) rfl ?_
  refine tt_aload_n d_java_util_Arrays_fill0_2 rfl 1 rfl ?_
  refine tt_alen (v := nI (n)) 1 d_java_util_Arrays_fill0_3 rfl m_a f_a rfl ?_
  refine tt_istore_n (lv' := [(3, .int ((nI (n)))), (2, .int 0), (0, .ref a), (1, .int v)]) d_java_util_Arrays_fill0_4 rfl (by decide) rfl ?_
  refine tt_sub (lv' := [(2, .int 0), (3, .int (nI (n))), (0, .ref a), (1, .int v)]) [1, 0, 2, 3] rfl ?_
  exact lp_java_util_Arrays_fill0 hn n 0 0 S f m_a f_a nI_0.symm (by omega) rfl
set_option maxHeartbeats 4000000 in
set_option maxRecDepth 100000 in
/-- Arrays.fill of ints: its loop -/
theorem lp_java_util_Arrays_fill2 {l : Launch} {D : va_G} {kd : Nat → ClassId} {z : Nat} {a n : Nat} {v : Int32} {res : tS}  (hn : n < 2 ^ 31) : ∀ (t k' : Nat) (k  : Int32) (S : tS) (f : Nat → Int32), a ∈ S.1 → S.2 a = .inl (kd 0, n, .inl f) → k = nI k' → k' + t = n → res = tset S a (.inl (kd 0, n, .inl (aFill v t k f))) → tP b_java_util_Arrays_fill2 "java/util/Arrays" 4 none false [] {} D (tyl kd) z l (fun o9 T9 => T9 = res ∧ o9 = .inl none) 0 0 5 [(2, .int k), (3, .int ((nI (n)))), (0, .ref a), (1, .int v)] [] S := by
  intro t
  induction t with
  | zero =>
    intro k' k  S f m_a f_a hk hs hr
    have hge : nI (n) ≤ k := by rw [hk, show k' = n by omega]; first | exact Int32.le_refl _ | decide | (rw [nI_add]; exact Int32.le_refl _)
    refine tt_iload_n d_java_util_Arrays_fill2_5 rfl 0 rfl ?_
    refine tt_iload_n d_java_util_Arrays_fill2_6 rfl 1 rfl ?_
    refine tt_icmp_ge (t := 20) d_java_util_Arrays_fill2_7 (by decide) (fun hc1 => ?_) (fun hc1 => ?_)
    · skip
      exact tt_vret rfl (Nat.le_refl _) (Nat.le_refl _) d_java_util_Arrays_fill2_20 (by first | (exact absurd hge (by first | assumption | exact Int32.not_le.mpr (by assumption))) | exact ⟨by rw [hr]; exact (ts_self f_a).symm, rfl⟩)
    · skip
      refine tt_aload_n d_java_util_Arrays_fill2_10 rfl 2 rfl ?_
      refine tt_iload_n d_java_util_Arrays_fill2_11 rfl 0 rfl ?_
      refine tt_iload_n d_java_util_Arrays_fill2_12 rfl 3 rfl ?_
      refine tt_iast 0 d_java_util_Arrays_fill2_13 rfl m_a f_a (absurd hge (by assumption)) ?_
      obtain ⟨S2, hS2⟩ : ∃ x9, x9 = tset S a (.inl (kd 0, n, .inl (upd f (k).toNatClampNeg (v)))) := ⟨_, rfl⟩
      refine tt_S hS2 ?_
      have m3 : a ∈ S2.1 := by rw [hS2]; exact m_a
      have f4 : S2.2 a = .inl (kd 0, n, .inl (upd f (k).toNatClampNeg (v))) := by rw [hS2]; exact va_up_self _ _ _
      refine tt_iinc (v := (k + 1)) (lv' := [(2, .int ((k + 1))), (3, .int ((nI (n)))), (0, .ref a), (1, .int v)]) d_java_util_Arrays_fill2_14 0 rfl rfl (by decide) rfl ?_
      refine tt_goto (t := 5) d_java_util_Arrays_fill2_17 (by decide) ?_
      refine tt_sub (lv' := [(2, .int ((k + 1))), (3, .int ((nI (n)))), (0, .ref a), (1, .int v)]) [0, 1, 2, 3] rfl ?_
      exact absurd hge (by first | assumption | exact Int32.not_le.mpr (by assumption))
  | succ t ih =>
    intro k' k  S f m_a f_a hk hs hr
    have hlt : ¬ nI (n) ≤ k := by rw [hk]; first | exact nI_ge (b := n) (by omega) (by omega) | (rw [nI_add]; exact nI_ge (by omega) (by omega))
    refine tt_iload_n d_java_util_Arrays_fill2_5 rfl 0 rfl ?_
    refine tt_iload_n d_java_util_Arrays_fill2_6 rfl 1 rfl ?_
    refine tt_icmp_ge (t := 20) d_java_util_Arrays_fill2_7 (by decide) (fun hc1 => ?_) (fun hc1 => ?_)
    · skip
      exact tt_vret rfl (Nat.le_refl _) (Nat.le_refl _) d_java_util_Arrays_fill2_20 (by first | (exact absurd (by assumption) hlt) | exact ⟨by rw [hr]; exact (ts_self f_a).symm, rfl⟩)
    · skip
      refine tt_aload_n d_java_util_Arrays_fill2_10 rfl 2 rfl ?_
      refine tt_iload_n d_java_util_Arrays_fill2_11 rfl 0 rfl ?_
      refine tt_iload_n d_java_util_Arrays_fill2_12 rfl 3 rfl ?_
      refine tt_iast 0 d_java_util_Arrays_fill2_13 rfl m_a f_a (by rw [hk]; exact vp_in_nI (by omega) (by omega)) ?_
      obtain ⟨S2, hS2⟩ : ∃ x9, x9 = tset S a (.inl (kd 0, n, .inl (upd f (k).toNatClampNeg (v)))) := ⟨_, rfl⟩
      refine tt_S hS2 ?_
      have m3 : a ∈ S2.1 := by rw [hS2]; exact m_a
      have f4 : S2.2 a = .inl (kd 0, n, .inl (upd f (k).toNatClampNeg (v))) := by rw [hS2]; exact va_up_self _ _ _
      refine tt_iinc (v := (k + 1)) (lv' := [(2, .int ((k + 1))), (3, .int ((nI (n)))), (0, .ref a), (1, .int v)]) d_java_util_Arrays_fill2_14 0 rfl rfl (by decide) rfl ?_
      refine tt_goto (t := 5) d_java_util_Arrays_fill2_17 (by decide) ?_
      refine tt_sub (lv' := [(2, .int ((k + 1))), (3, .int ((nI (n)))), (0, .ref a), (1, .int v)]) [0, 1, 2, 3] rfl ?_
      exact ih (k' + 1) (k + 1)  S2 _ m3 f4 (by rw [hk]; exact nI_1 k') (by omega) (by rw [hr, aFill]; first | rfl | (simp [hc1, Int32.not_le.mp hc1, hS2, ts_ts, vz0, vz1, pk_vb]; done) | (subst_vars; simp [hc1, Int32.not_le.mp hc1, ts_ts, vz0, vz1, pk_vb]; done) | simp_all)
set_option maxHeartbeats 4000000 in
set_option maxRecDepth 100000 in
/-- Arrays.fill of ints -/
theorem c_java_util_Arrays_fill2 {l : Launch} {D : va_G} {kd : Nat → ClassId} {z : Nat} {S : tS} {a n : Nat} {v : Int32} {f : Nat → Int32} (m_a : a ∈ S.1) (f_a : S.2 a = .inl (kd 0, n, .inl f))  (hn : n < 2 ^ 31) : tM l y_java_util_Arrays_fill2 b_java_util_Arrays_fill2 4 none [] {} D (tyl kd) z [.ref a, .int v] S (fun o9 T9 => T9 = tset S a (.inl (kd 0, n, .inl (aFill v n 0 f))) ∧ o9 = .inl none) := by
  refine tM.of (own := "java/util/Arrays") (ini := false) (by decide) rfl (fun h => by first | rfl | cases h) (Nat.le_of_ble_eq_true rfl) (lv := [(0, .ref a), (1, .int v)]) rfl ?_
  refine tt_iconst (v := 0) d_java_util_Arrays_fill2_0 (by decide) ?_
  refine tt_istore_n (lv' := [(2, .int 0), (0, .ref a), (1, .int v)]) d_java_util_Arrays_fill2_1 rfl (by decide) rfl ?_
  refine tt_aload_n d_java_util_Arrays_fill2_2 rfl 1 rfl ?_
  refine tt_alen (v := nI (n)) 0 d_java_util_Arrays_fill2_3 rfl m_a f_a rfl ?_
  refine tt_istore_n (lv' := [(3, .int ((nI (n)))), (2, .int 0), (0, .ref a), (1, .int v)]) d_java_util_Arrays_fill2_4 rfl (by decide) rfl ?_
  refine tt_sub (lv' := [(2, .int 0), (3, .int (nI (n))), (0, .ref a), (1, .int v)]) [1, 0, 2, 3] rfl ?_
  exact lp_java_util_Arrays_fill2 hn n 0 0 S f m_a f_a nI_0.symm (by omega) rfl
set_option maxHeartbeats 4000000 in
set_option maxRecDepth 100000 in
/-- Arrays.fill of a range of bytes: its loop -/
theorem lp_java_util_Arrays_fill1 {l : Launch} {D : va_G} {kd : Nat → ClassId} {z : Nat} {a n i j : Nat} {v : Int32} {res : tS}  (hn : n < 2 ^ 31) (hj : j ≤ n) : ∀ (t k' : Nat) (k  : Int32) (S : tS) (f : Nat → Int32), a ∈ S.1 → S.2 a = .inl (kd 1, n, .inl f) → k = nI k' → k' + t = j → res = tset S a (.inl (kd 1, n, .inl (aFill (vp_nar .byte v) t k f))) → tP b_java_util_Arrays_fill1 "java/util/Arrays" 5 none false [] { frames := 1, locals := 22 } D (tyl kd) z l (fun o9 T9 => T9 = res ∧ o9 = .inl none) 0 0 10 [(4, .int k), (0, .ref a), (1, .int ((nI i))), (2, .int ((nI j))), (3, .int v)] [] S := by
  intro t
  induction t with
  | zero =>
    intro k' k  S f m_a f_a hk hs hr
    have hge : nI (j) ≤ k := by rw [hk, show k' = j by omega]; first | exact Int32.le_refl _ | decide | (rw [nI_add]; exact Int32.le_refl _)
    refine tt_iload d_java_util_Arrays_fill1_10 0 rfl ?_
    refine tt_iload_n d_java_util_Arrays_fill1_12 rfl 3 rfl ?_
    refine tt_icmp_ge (t := 27) d_java_util_Arrays_fill1_13 (by decide) (fun hc1 => ?_) (fun hc1 => ?_)
    · skip
      exact tt_vret rfl (Nat.le_refl _) (Nat.le_refl _) d_java_util_Arrays_fill1_27 (by first | (exact absurd hge (by first | assumption | exact Int32.not_le.mpr (by assumption))) | exact ⟨by rw [hr]; exact (ts_self f_a).symm, rfl⟩)
    · skip
      refine tt_aload_n d_java_util_Arrays_fill1_16 rfl 1 rfl ?_
      refine tt_iload d_java_util_Arrays_fill1_17 0 rfl ?_
      refine tt_iload_n d_java_util_Arrays_fill1_19 rfl 4 rfl ?_
      refine tt_bast 1 d_java_util_Arrays_fill1_20 rfl m_a f_a (absurd hge (by assumption)) ?_
      obtain ⟨S2, hS2⟩ : ∃ x9, x9 = tset S a (.inl (kd 1, n, .inl (upd f (k).toNatClampNeg (vp_nar .byte (v))))) := ⟨_, rfl⟩
      refine tt_S hS2 ?_
      have m3 : a ∈ S2.1 := by rw [hS2]; exact m_a
      have f4 : S2.2 a = .inl (kd 1, n, .inl (upd f (k).toNatClampNeg (vp_nar .byte (v)))) := by rw [hS2]; exact va_up_self _ _ _
      refine tt_iinc (v := (k + 1)) (lv' := [(4, .int ((k + 1))), (0, .ref a), (1, .int ((nI i))), (2, .int ((nI j))), (3, .int v)]) d_java_util_Arrays_fill1_21 0 rfl rfl (by decide) rfl ?_
      refine tt_goto (t := 10) d_java_util_Arrays_fill1_24 (by decide) ?_
      refine tt_sub (lv' := [(4, .int ((k + 1))), (0, .ref a), (1, .int ((nI i))), (2, .int ((nI j))), (3, .int v)]) [0, 1, 2, 3, 4] rfl ?_
      exact absurd hge (by first | assumption | exact Int32.not_le.mpr (by assumption))
  | succ t ih =>
    intro k' k  S f m_a f_a hk hs hr
    have hlt : ¬ nI (j) ≤ k := by rw [hk]; first | exact nI_ge (b := j) (by omega) (by omega) | (rw [nI_add]; exact nI_ge (by omega) (by omega))
    refine tt_iload d_java_util_Arrays_fill1_10 0 rfl ?_
    refine tt_iload_n d_java_util_Arrays_fill1_12 rfl 3 rfl ?_
    refine tt_icmp_ge (t := 27) d_java_util_Arrays_fill1_13 (by decide) (fun hc1 => ?_) (fun hc1 => ?_)
    · skip
      exact tt_vret rfl (Nat.le_refl _) (Nat.le_refl _) d_java_util_Arrays_fill1_27 (by first | (exact absurd (by assumption) hlt) | exact ⟨by rw [hr]; exact (ts_self f_a).symm, rfl⟩)
    · skip
      refine tt_aload_n d_java_util_Arrays_fill1_16 rfl 1 rfl ?_
      refine tt_iload d_java_util_Arrays_fill1_17 0 rfl ?_
      refine tt_iload_n d_java_util_Arrays_fill1_19 rfl 4 rfl ?_
      refine tt_bast 1 d_java_util_Arrays_fill1_20 rfl m_a f_a (by rw [hk]; exact vp_in_nI (by omega) (by omega)) ?_
      obtain ⟨S2, hS2⟩ : ∃ x9, x9 = tset S a (.inl (kd 1, n, .inl (upd f (k).toNatClampNeg (vp_nar .byte (v))))) := ⟨_, rfl⟩
      refine tt_S hS2 ?_
      have m3 : a ∈ S2.1 := by rw [hS2]; exact m_a
      have f4 : S2.2 a = .inl (kd 1, n, .inl (upd f (k).toNatClampNeg (vp_nar .byte (v)))) := by rw [hS2]; exact va_up_self _ _ _
      refine tt_iinc (v := (k + 1)) (lv' := [(4, .int ((k + 1))), (0, .ref a), (1, .int ((nI i))), (2, .int ((nI j))), (3, .int v)]) d_java_util_Arrays_fill1_21 0 rfl rfl (by decide) rfl ?_
      refine tt_goto (t := 10) d_java_util_Arrays_fill1_24 (by decide) ?_
      refine tt_sub (lv' := [(4, .int ((k + 1))), (0, .ref a), (1, .int ((nI i))), (2, .int ((nI j))), (3, .int v)]) [0, 1, 2, 3, 4] rfl ?_
      exact ih (k' + 1) (k + 1)  S2 _ m3 f4 (by rw [hk]; exact nI_1 k') (by omega) (by rw [hr, aFill]; first | rfl | (simp [hc1, Int32.not_le.mp hc1, hS2, ts_ts, vz0, vz1, pk_vb]; done) | (subst_vars; simp [hc1, Int32.not_le.mp hc1, ts_ts, vz0, vz1, pk_vb]; done) | simp_all)
set_option maxHeartbeats 4000000 in
set_option maxRecDepth 100000 in
/-- Arrays.fill of a range of bytes -/
theorem c_java_util_Arrays_fill1 {l : Launch} {D : va_G} {kd : Nat → ClassId} {z : Nat} {S : tS} {a n i j : Nat} {v : Int32} {f : Nat → Int32} (m_a : a ∈ S.1) (f_a : S.2 a = .inl (kd 1, n, .inl f))  (hn : n < 2 ^ 31) (hj : j ≤ n) (hi : i ≤ j) : tM l y_java_util_Arrays_fill1 b_java_util_Arrays_fill1 5 none [] { frames := 1, locals := 22 } D (tyl kd) z [.ref a, .int ((nI i)), .int ((nI j)), .int v] S (fun o9 T9 => T9 = tset S a (.inl (kd 1, n, .inl (aFill (vp_nar .byte v) (j - i) (nI i) f))) ∧ o9 = .inl none) := by
  refine tM.of (own := "java/util/Arrays") (ini := false) (by decide) rfl (fun h => by first | rfl | cases h) (Nat.le_of_ble_eq_true rfl) (lv := [(0, .ref a), (1, .int ((nI i))), (2, .int ((nI j))), (3, .int v)]) rfl ?_
  refine tt_aload_n d_java_util_Arrays_fill1_0 rfl 0 rfl ?_
  refine tt_alen (v := nI (n)) 1 d_java_util_Arrays_fill1_1 rfl m_a f_a rfl ?_
  refine tt_iload_n d_java_util_Arrays_fill1_2 rfl 1 rfl ?_
  refine tt_iload_n d_java_util_Arrays_fill1_3 rfl 2 rfl ?_
  refine tt_callS (bytes := b_java_util_Arrays_rangeCheck) (nL' := 3) (ret' := none) (hh' := []) (As := [.int ((nI (n))), .int ((nI i)), .int ((nI j))]) w_5_118 w_5_119 w_1_8 w_5_120 ⟨by decide, by decide, rfl⟩ (c_java_util_Arrays_rangeCheck (nI_le hi (by omega)) (nI_pos' (by omega)) (nI_le hj hn)) ⟨Nat.le_of_ble_eq_true rfl, Nat.le_of_ble_eq_true rfl, Nat.le_of_ble_eq_true rfl, Nat.le_of_ble_eq_true rfl⟩ (Nat.le_of_ble_eq_true rfl) d_java_util_Arrays_fill1_4 rfl (fun v9 S1 hq => ?_) (fun k9 S9 hq => by cases hq.2)
  obtain ⟨hS1, ho9⟩ := hq
  cases ho9
  refine tt_S hS1.symm ?_
  refine tt_iload_n d_java_util_Arrays_fill1_7 rfl 1 rfl ?_
  refine tt_istore (lv' := [(4, .int ((nI i))), (0, .ref a), (1, .int ((nI i))), (2, .int ((nI j))), (3, .int v)]) d_java_util_Arrays_fill1_8 (by decide) rfl ?_
  exact lp_java_util_Arrays_fill1 hn hj (j - i) i (nI i) S f m_a f_a rfl (by omega) rfl
