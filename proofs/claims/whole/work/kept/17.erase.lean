/-! ===== Row.blank, Row.addInt, Chip.erase; written by wip/gen/erase.py ===== -/
theorem cp_in0 {i n : Int32} {cap : Nat} (h0 : ¬ i < 0) (h1 : ¬ n < 0) (h2 : ¬ nI cap - n < i) (hc : cap < 2 ^ 31) : i.toNatClampNeg + n.toNatClampNeg ≤ cap := by
  obtain ⟨i', hi, rfl⟩ := nI_of h0
  obtain ⟨n', hn, rfl⟩ := nI_of h1
  rw [nI_clamp hi, nI_clamp hn]
  by_cases h : n' ≤ cap
  · rw [pk_sub h] at h2
    have := mt (nI_ltI (by omega) hi).mpr h2
    omega
  · exfalso
    exact h2 (Int32.lt_of_lt_of_le (nI_subneg hc hn (by omega)) (Int32.not_lt.mp h0))
/-- Arrays.fill of n bytes from p on -/
theorem c_fillR {l : Launch} {D : va_G} {kd : Nat → ClassId} {z : Nat} {S : tS} {a cap : Nat} {p n v : Int32} {f : Nat → Int32} (m_a : a ∈ S.1) (f_a : S.2 a = .inl (kd 1, cap, .inl f)) (hcap : cap < 2 ^ 31) (h0 : ¬ p < 0) (h1 : ¬ n < 0) (h2 : ¬ nI cap - n < p) : tM l y_java_util_Arrays_fill1 b_java_util_Arrays_fill1 5 none [] { frames := 1, locals := 22 } D (tyl kd) z [.ref a, .int p, .int (p + n), .int v] S (fun o9 T9 => T9 = tset S a (.inl (kd 1, cap, .inl (aFill (vp_nar .byte v) n.toNatClampNeg p f))) ∧ o9 = .inl none) := by
  have h3 := cp_in0 h0 h1 h2 hcap
  obtain ⟨p', hp, rfl⟩ := nI_of h0
  obtain ⟨n', hn, rfl⟩ := nI_of h1
  rw [nI_clamp hp, nI_clamp hn] at h3
  have h4 := c_java_util_Arrays_fill1 (l := l) (D := D) (z := z) (i := p') (j := p' + n') (v := v) m_a f_a hcap h3 (by omega)
  rw [nI_clamp hn, nI_add]
  rw [show p' + n' - p' = n' by omega] at h4
  exact h4
abbrev b_Row_blank : ByteArray := prog_7_method_6_code
def y_Row_blank : MethodName := ⟨"FlashVault$Row", "blank", "([BII)V"⟩
theorem d_Row_blank_0 : decode b_Row_blank 0 = .ok (.iload_n 2, 1) := by decide +kernel
theorem d_Row_blank_1 : decode b_Row_blank 1 = .ok (.ifCond .le 24, 3) := by decide +kernel
theorem d_Row_blank_25 : decode b_Row_blank 25 = .ok (.return_, 1) := by decide +kernel
theorem d_Row_blank_4 : decode b_Row_blank 4 = .ok (.iload_n 1, 1) := by decide +kernel
theorem d_Row_blank_5 : decode b_Row_blank 5 = .ok (.ifCond .lt 20, 3) := by decide +kernel
theorem d_Row_blank_8 : decode b_Row_blank 8 = .ok (.iload_n 1, 1) := by decide +kernel
theorem d_Row_blank_9 : decode b_Row_blank 9 = .ok (.aload_n 0, 1) := by decide +kernel
theorem d_Row_blank_10 : decode b_Row_blank 10 = .ok (.arraylength, 1) := by decide +kernel
theorem d_Row_blank_11 : decode b_Row_blank 11 = .ok (.iload_n 2, 1) := by decide +kernel
theorem d_Row_blank_12 : decode b_Row_blank 12 = .ok (.isub, 1) := by decide +kernel
theorem d_Row_blank_13 : decode b_Row_blank 13 = .ok (.if_icmp .gt 12, 3) := by decide +kernel
theorem d_Row_blank_16 : decode b_Row_blank 16 = .ok (.aload_n 0, 1) := by decide +kernel
theorem d_Row_blank_17 : decode b_Row_blank 17 = .ok (.iload_n 1, 1) := by decide +kernel
theorem d_Row_blank_18 : decode b_Row_blank 18 = .ok (.iload_n 1, 1) := by decide +kernel
theorem d_Row_blank_19 : decode b_Row_blank 19 = .ok (.iload_n 2, 1) := by decide +kernel
theorem d_Row_blank_20 : decode b_Row_blank 20 = .ok (.iadd, 1) := by decide +kernel
theorem d_Row_blank_21 : decode b_Row_blank 21 = .ok (.iconst 0, 1) := by decide +kernel
theorem d_Row_blank_22 : decode b_Row_blank 22 = .ok (.invokestatic 33, 3) := by decide +kernel
theorem w_8_233 : (Cond.methodLink "FlashVault$Row" (33 : Nat) ({ cls := "java/util/Arrays", name := "fill", desc := "([BIIB)V" } : MethodName)) ∈ gW := gW_8 233 rfl rfl
theorem w_5_117 : (Cond.code ({ cls := "java/util/Arrays", name := "fill", desc := "([BIIB)V" } : MethodName) prog_32_method_110_code (5 : Nat) (Option.none : Option FieldType)) ∈ gW := gW_5 117 rfl rfl
theorem w_5_116 : (Cond.static ({ cls := "java/util/Arrays", name := "fill", desc := "([BIIB)V" } : MethodName)) ∈ gW := gW_5 116 rfl rfl
abbrev b_Chip_erase : ByteArray := prog_3_method_6_code
def y_Chip_erase : MethodName := ⟨"FlashVault$Chip", "erase", "(I)V"⟩
theorem d_Chip_erase_0 : decode b_Chip_erase 0 = .ok (.iload_n 1, 1) := by decide +kernel
theorem d_Chip_erase_1 : decode b_Chip_erase 1 = .ok (.ifCond .lt 12, 3) := by decide +kernel
theorem d_Chip_erase_4 : decode b_Chip_erase 4 = .ok (.iload_n 1, 1) := by decide +kernel
theorem d_Chip_erase_5 : decode b_Chip_erase 5 = .ok (.aload_n 0, 1) := by decide +kernel
theorem d_Chip_erase_6 : decode b_Chip_erase 6 = .ok (.getfield 31, 3) := by decide +kernel
theorem d_Chip_erase_9 : decode b_Chip_erase 9 = .ok (.arraylength, 1) := by decide +kernel
theorem d_Chip_erase_10 : decode b_Chip_erase 10 = .ok (.if_icmp .lt 4, 3) := by decide +kernel
theorem d_Chip_erase_14 : decode b_Chip_erase 14 = .ok (.aload_n 0, 1) := by decide +kernel
theorem d_Chip_erase_15 : decode b_Chip_erase 15 = .ok (.sipush 2048, 3) := by decide +kernel
theorem d_Chip_erase_18 : decode b_Chip_erase 18 = .ok (.invokevirtual 44, 3) := by decide +kernel
theorem d_Chip_erase_21 : decode b_Chip_erase 21 = .ok (.istore_n 2, 1) := by decide +kernel
theorem d_Chip_erase_22 : decode b_Chip_erase 22 = .ok (.aload_n 0, 1) := by decide +kernel
theorem d_Chip_erase_23 : decode b_Chip_erase 23 = .ok (.getfield 27, 3) := by decide +kernel
theorem d_Chip_erase_26 : decode b_Chip_erase 26 = .ok (.iload_n 1, 1) := by decide +kernel
theorem d_Chip_erase_27 : decode b_Chip_erase 27 = .ok (.sipush 2048, 3) := by decide +kernel
theorem d_Chip_erase_30 : decode b_Chip_erase 30 = .ok (.imul, 1) := by decide +kernel
theorem d_Chip_erase_31 : decode b_Chip_erase 31 = .ok (.iload_n 1, 1) := by decide +kernel
theorem d_Chip_erase_32 : decode b_Chip_erase 32 = .ok (.sipush 2048, 3) := by decide +kernel
theorem d_Chip_erase_35 : decode b_Chip_erase 35 = .ok (.imul, 1) := by decide +kernel
theorem d_Chip_erase_36 : decode b_Chip_erase 36 = .ok (.iload_n 2, 1) := by decide +kernel
theorem d_Chip_erase_37 : decode b_Chip_erase 37 = .ok (.iadd, 1) := by decide +kernel
theorem d_Chip_erase_38 : decode b_Chip_erase 38 = .ok (.iconst (-1), 1) := by decide +kernel
theorem d_Chip_erase_39 : decode b_Chip_erase 39 = .ok (.invokestatic 61, 3) := by decide +kernel
theorem w_5_115 : (Cond.methodLink "FlashVault$Chip" (61 : Nat) ({ cls := "java/util/Arrays", name := "fill", desc := "([BIIB)V" } : MethodName)) ∈ gW := gW_5 115 rfl rfl
theorem d_Chip_erase_42 : decode b_Chip_erase 42 = .ok (.iload_n 2, 1) := by decide +kernel
theorem d_Chip_erase_43 : decode b_Chip_erase 43 = .ok (.sipush 2048, 3) := by decide +kernel
theorem d_Chip_erase_46 : decode b_Chip_erase 46 = .ok (.if_icmp .ge 13, 3) := by decide +kernel
theorem d_Chip_erase_59 : decode b_Chip_erase 59 = .ok (.aload_n 0, 1) := by decide +kernel
theorem d_Chip_erase_60 : decode b_Chip_erase 60 = .ok (.getfield 31, 3) := by decide +kernel
theorem d_Chip_erase_63 : decode b_Chip_erase 63 = .ok (.iload_n 1, 1) := by decide +kernel
theorem d_Chip_erase_64 : decode b_Chip_erase 64 = .ok (.iconst 0, 1) := by decide +kernel
theorem d_Chip_erase_65 : decode b_Chip_erase 65 = .ok (.iastore, 1) := by decide +kernel
theorem d_Chip_erase_66 : decode b_Chip_erase 66 = .ok (.return_, 1) := by decide +kernel
theorem d_Chip_erase_49 : decode b_Chip_erase 49 = .ok (.new 54, 3) := by decide +kernel
theorem d_Chip_erase_52 : decode b_Chip_erase 52 = .ok (.dup, 1) := by decide +kernel
theorem d_Chip_erase_53 : decode b_Chip_erase 53 = .ok (.ldc 56, 2) := by decide +kernel
theorem d_Chip_erase_55 : decode b_Chip_erase 55 = .ok (.invokespecial 58, 3) := by decide +kernel
theorem d_Chip_erase_58 : decode b_Chip_erase 58 = .ok (.athrow, 1) := by decide +kernel
set_option maxHeartbeats 4000000 in
set_option maxRecDepth 100000 in
/-- Row.blank: zeros, within the row or not at all -/
theorem c_Row_blank {l : Launch} {D : va_G} {kd : Nat → ClassId} {z : Nat} {S : tS} {a cap : Nat} {q n : Int32} {f : Nat → Int32} (m_a : a ∈ S.1) (f_a : S.2 a = .inl (kd 1, cap, .inl f))  (hcap : cap < 2 ^ 31) : tM l y_Row_blank b_Row_blank 3 none [] { frames := 2, locals := 46 } D (tyl kd) z [.ref a, .int q, .int n] S (fun o9 T9 => T9 = tset S a (.inl (kd 1, cap, .inl (if ¬ n ≤ 0 ∧ ¬ q < 0 ∧ ¬ (nI (cap) - n) < q then aFill 0 n.toNatClampNeg q f else f))) ∧ o9 = .inl none) := by
  refine tM.of (own := "FlashVault$Row") (ini := false) (by decide) rfl (fun h => by first | rfl | cases h) (Nat.le_of_ble_eq_true rfl) (lv := [(0, .ref a), (1, .int q), (2, .int n)]) rfl ?_
  refine tt_iload_n d_Row_blank_0 rfl 2 rfl ?_
  refine tt_if_le (t := 25) d_Row_blank_1 (by decide) (fun hc1 => ?_) (fun hc1 => ?_)
  · skip
    exact tt_vret rfl (Nat.le_of_ble_eq_true rfl) (Nat.le_of_ble_eq_true rfl) d_Row_blank_25 (by refine ⟨?_, rfl⟩; rw [if_neg (by intro h; simp [hc1, Int32.not_lt.mpr hc1] at h), ts_self f_a])
  · skip
    refine tt_iload_n d_Row_blank_4 rfl 1 rfl ?_
    refine tt_if_lt (t := 25) d_Row_blank_5 (by decide) (fun hc2 => ?_) (fun hc2 => ?_)
    · skip
      exact tt_vret rfl (Nat.le_of_ble_eq_true rfl) (Nat.le_of_ble_eq_true rfl) d_Row_blank_25 (by refine ⟨?_, rfl⟩; rw [if_neg (by intro h; simp [hc1, Int32.not_le.mp hc1, hc2, Int32.not_le.mpr hc2] at h), ts_self f_a])
    · skip
      refine tt_iload_n d_Row_blank_8 rfl 1 rfl ?_
      refine tt_aload_n d_Row_blank_9 rfl 0 rfl ?_
      refine tt_alen (v := nI (cap)) 1 d_Row_blank_10 rfl m_a f_a rfl ?_
      refine tt_iload_n d_Row_blank_11 rfl 2 rfl ?_
      refine tt_isub d_Row_blank_12 ?_
      refine tt_icmp_gt (t := 25) d_Row_blank_13 (by decide) (fun hc3 => ?_) (fun hc3 => ?_)
      · skip
        exact tt_vret rfl (Nat.le_of_ble_eq_true rfl) (Nat.le_of_ble_eq_true rfl) d_Row_blank_25 (by refine ⟨?_, rfl⟩; rw [if_neg (by intro h; simp [hc1, Int32.not_le.mp hc1, hc2, Int32.not_lt.mp hc2, hc3, Int32.not_le.mpr hc3] at h), ts_self f_a])
      · skip
        refine tt_aload_n d_Row_blank_16 rfl 0 rfl ?_
        refine tt_iload_n d_Row_blank_17 rfl 1 rfl ?_
        refine tt_iload_n d_Row_blank_18 rfl 1 rfl ?_
        refine tt_iload_n d_Row_blank_19 rfl 2 rfl ?_
        refine tt_iadd d_Row_blank_20 ?_
        refine tt_iconst (v := 0) d_Row_blank_21 (by decide) ?_
        refine tt_callS (bytes := b_java_util_Arrays_fill1) (nL' := 5) (ret' := none) (hh' := []) (As := [.ref a, .int q, .int ((q + n)), .int 0]) w_8_233 w_5_116 w_1_8 w_5_117 ⟨by decide, by decide, rfl⟩ (c_fillR m_a f_a hcap (by assumption) (fun h => absurd (Int32.le_of_lt h) (by assumption)) (by assumption)) ⟨Nat.le_of_ble_eq_true rfl, Nat.le_of_ble_eq_true rfl, Nat.le_of_ble_eq_true rfl, Nat.le_of_ble_eq_true rfl⟩ (Nat.le_of_ble_eq_true rfl) d_Row_blank_22 rfl (fun v9 S4 hq => ?_) (fun k9 S9 hq => by cases hq.2)
        obtain ⟨hS4, ho9⟩ := hq
        cases ho9
        exact tt_vret rfl (Nat.le_of_ble_eq_true rfl) (Nat.le_of_ble_eq_true rfl) d_Row_blank_25 (by refine ⟨?_, rfl⟩; rw [hS4, if_pos ⟨hc1, hc2, hc3⟩]; rfl)
set_option maxHeartbeats 4000000 in
set_option maxRecDepth 100000 in
/-- Chip.erase, of a block that is there: what is granted is erased; less than all of it: the power fails -/
theorem c_Chip_erase {l : Launch} {D : va_G} {kd : Nat → ClassId} {z : Nat} {S : tS} {c a b ca cb : Nat} {pl bl ov k nn : Int32} {f g : Nat → Int32} (m_c : c ∈ S.1) (f_c : S.2 c = .inr (1, [.ref a, .ref b, .int pl, .int bl, .int ov])) (m_a : a ∈ S.1) (f_a : S.2 a = .inl (kd 1, ca, .inl f)) (m_b : b ∈ S.1) (f_b : S.2 b = .inl (kd 0, cb, .inl g)) (n_a_b : a ≠ b) (hl0 : l.stackTraces = false) (hnn : nn = (if pl < 0 ∨ ¬ (pl - 1) < 0 then 2048 else (if (2048 - 1) < bl then (2048 - 1) else bl))) (hca : ca < 2 ^ 31) (hk : ¬ k < 0) (hkb : k < nI (cb)) (hkv : vp_in k cb) (hk0 : ¬ k * 2048 < 0) (hn0 : ¬ nn < 0) (hk1 : ¬ nI ca - nn < k * 2048) : tM l y_Chip_erase b_Chip_erase 3 none [] { frames := 6, cells := 1, slots := 6, locals := 100 } D (tyl kd) z [.ref c, .int k] S (fun o9 T9 => if nn < 2048 then T9 = tset (tset S c (.inr (1, [.ref a, .ref b, .int (if pl < 0 then pl else pl - 1), .int bl, .int ov]))) a (.inl (kd 1, ca, .inl (aFill (-1) nn.toNatClampNeg (k * 2048) f))) ∧ o9 = .inr 1 else T9 = tset (tset (tset S c (.inr (1, [.ref a, .ref b, .int (if pl < 0 then pl else pl - 1), .int bl, .int ov]))) a (.inl (kd 1, ca, .inl (aFill (-1) nn.toNatClampNeg (k * 2048) f)))) b (.inl (kd 0, cb, .inl (upd g k.toNatClampNeg 0))) ∧ o9 = .inl none) := by
  refine tM.of (own := "FlashVault$Chip") (ini := false) (by decide) rfl (fun h => by first | rfl | cases h) (Nat.le_of_ble_eq_true rfl) (lv := [(0, .ref c), (1, .int k)]) rfl ?_
  refine tt_iload_n d_Chip_erase_0 rfl 1 rfl ?_
  refine tt_if_lt (t := 13) d_Chip_erase_1 (by decide) (fun hc1 => ?_) (fun hc1 => ?_)
  · skip
    exact absurd hc1 hk
  · skip
    refine tt_iload_n d_Chip_erase_4 rfl 1 rfl ?_
    refine tt_aload_n d_Chip_erase_5 rfl 0 rfl ?_
    refine tt_get F_Chip_31 d_Chip_erase_6 m_c f_c rfl ?_
    refine tt_alen (v := nI (cb)) 0 d_Chip_erase_9 rfl m_b f_b rfl ?_
    refine tt_icmp_lt (t := 14) d_Chip_erase_10 (by decide) (fun hc2 => ?_) (fun hc2 => ?_)
    · skip
      refine tt_aload_n d_Chip_erase_14 rfl 0 rfl ?_
      refine tt_sipush (v := 2048) d_Chip_erase_15 (by decide) ?_
      refine tt_callV (bytes := b_Chip_granted) (nL' := 2) (ret' := (some FieldType.int)) (hh' := []) (As := [.int 2048]) w_5_110 w_5_111 w_5_112 w_1_7 w_5_113 ⟨by decide, by decide, rfl⟩ (c_Chip_grantedU m_c f_c) m_c f_c rfl ⟨Nat.le_of_ble_eq_true rfl, Nat.le_of_ble_eq_true rfl, Nat.le_of_ble_eq_true rfl, Nat.le_of_ble_eq_true rfl⟩ (Nat.le_of_ble_eq_true rfl) d_Chip_erase_18 rfl (fun v9 S3 hq => ?_) (fun k9 S9 hq => by cases hq.2)
      obtain ⟨hS3, ho9⟩ := hq
      cases ho9
      rw [← hnn]
      have m4 : c ∈ S3.1 := by rw [hS3]; exact m_c
      have f5 : S3.2 c = .inr (1, [.ref a, .ref b, .int ((if pl < 0 then pl else pl - 1)), .int bl, .int ov]) := by rw [hS3]; exact va_up_self _ _ _
      have m6 : a ∈ S3.1 := by rw [hS3]; exact m_a
      have f7 : S3.2 a = .inl (kd 1, ca, .inl f) := by rw [hS3]; exact (va_up_ne _ _ (fun h => by have h9 := f_a; rw [h, f_c] at h9; cases h9)).trans (f_a)
      have m8 : b ∈ S3.1 := by rw [hS3]; exact m_b
      have f9 : S3.2 b = .inl (kd 0, cb, .inl g) := by rw [hS3]; exact (va_up_ne _ _ (fun h => by have h9 := f_b; rw [h, f_c] at h9; cases h9)).trans (f_b)
      refine tt_istore_n (lv' := [(2, .int nn), (0, .ref c), (1, .int k)]) d_Chip_erase_21 rfl (by decide) rfl ?_
      refine tt_aload_n d_Chip_erase_22 rfl 1 rfl ?_
      refine tt_get F_Chip_27 d_Chip_erase_23 m4 f5 rfl ?_
      refine tt_iload_n d_Chip_erase_26 rfl 2 rfl ?_
      refine tt_sipush (v := 2048) d_Chip_erase_27 (by decide) ?_
      refine tt_imul d_Chip_erase_30 ?_
      refine tt_iload_n d_Chip_erase_31 rfl 2 rfl ?_
      refine tt_sipush (v := 2048) d_Chip_erase_32 (by decide) ?_
      refine tt_imul d_Chip_erase_35 ?_
      refine tt_iload_n d_Chip_erase_36 rfl 0 rfl ?_
      refine tt_iadd d_Chip_erase_37 ?_
      refine tt_iconst (v := -1) d_Chip_erase_38 (by decide) ?_
      refine tt_callS (bytes := b_java_util_Arrays_fill1) (nL' := 5) (ret' := none) (hh' := []) (As := [.ref a, .int ((k * 2048)), .int (((k * 2048) + nn)), .int ((-1))]) w_5_115 w_5_116 w_1_8 w_5_117 ⟨by decide, by decide, rfl⟩ (c_fillR m6 f7 hca hk0 hn0 hk1) ⟨Nat.le_of_ble_eq_true rfl, Nat.le_of_ble_eq_true rfl, Nat.le_of_ble_eq_true rfl, Nat.le_of_ble_eq_true rfl⟩ (Nat.le_of_ble_eq_true rfl) d_Chip_erase_39 rfl (fun v9 S10 hq => ?_) (fun k9 S9 hq => by cases hq.2)
      obtain ⟨hS10, ho9⟩ := hq
      cases ho9
      have m11 : c ∈ S10.1 := by rw [hS10]; exact m4
      have f12 : S10.2 c = .inr (1, [.ref a, .ref b, .int ((if pl < 0 then pl else pl - 1)), .int bl, .int ov]) := by rw [hS10]; exact (va_up_ne _ _ (fun h => by have h9 := f_c; rw [h, f_a] at h9; cases h9)).trans (f5)
      have m13 : a ∈ S10.1 := by rw [hS10]; exact m6
      have f14 : S10.2 a = .inl (kd 1, ca, .inl (aFill (-1) nn.toNatClampNeg (k * 2048) f)) := by rw [hS10]; exact va_up_self _ _ _
      have m15 : b ∈ S10.1 := by rw [hS10]; exact m8
      have f16 : S10.2 b = .inl (kd 0, cb, .inl g) := by rw [hS10]; exact (va_up_ne _ _ (Ne.symm n_a_b)).trans (f9)
      refine tt_iload_n d_Chip_erase_42 rfl 0 rfl ?_
      refine tt_sipush (v := 2048) d_Chip_erase_43 (by decide) ?_
      refine tt_icmp_ge (t := 59) d_Chip_erase_46 (by decide) (fun hc17 => ?_) (fun hc17 => ?_)
      · skip
        refine tt_aload_n d_Chip_erase_59 rfl 1 rfl ?_
        refine tt_get F_Chip_31 d_Chip_erase_60 m11 f12 rfl ?_
        refine tt_iload_n d_Chip_erase_63 rfl 2 rfl ?_
        refine tt_iconst (v := 0) d_Chip_erase_64 (by decide) ?_
        refine tt_iast 0 d_Chip_erase_65 rfl m15 f16 (hkv) ?_
        obtain ⟨S18, hS18⟩ : ∃ x9, x9 = tset S10 b (.inl (kd 0, cb, .inl (upd g (k).toNatClampNeg (0)))) := ⟨_, rfl⟩
        refine tt_S hS18 ?_
        have m19 : c ∈ S18.1 := by rw [hS18]; exact m11
        have f20 : S18.2 c = .inr (1, [.ref a, .ref b, .int ((if pl < 0 then pl else pl - 1)), .int bl, .int ov]) := by rw [hS18]; exact (va_up_ne _ _ (fun h => by have h9 := f_c; rw [h, f_b] at h9; cases h9)).trans f12
        have m21 : a ∈ S18.1 := by rw [hS18]; exact m13
        have f22 : S18.2 a = .inl (kd 1, ca, .inl (aFill (-1) nn.toNatClampNeg (k * 2048) f)) := by rw [hS18]; exact (va_up_ne _ _ n_a_b).trans f14
        have m23 : b ∈ S18.1 := by rw [hS18]; exact m15
        have f24 : S18.2 b = .inl (kd 0, cb, .inl (upd g (k).toNatClampNeg (0))) := by rw [hS18]; exact va_up_self _ _ _
        exact tt_vret rfl (Nat.le_of_ble_eq_true rfl) (Nat.le_of_ble_eq_true rfl) d_Chip_erase_66 (by rw [if_neg (Int32.not_lt.mpr (by assumption))]; exact ⟨by rw [hS18, hS10, hS3] <;> rfl, rfl⟩)
      · skip
        refine tt_throw (k := 1) (C := "java/lang/IllegalStateException") (text := "the power fails") (n := 2) hl0 rfl (by decide +kernel) d_java_lang_IllegalStateException_init_0 d_java_lang_IllegalStateException_init_1 d_java_lang_IllegalStateException_init_2 d_java_lang_IllegalStateException_init_5 xA_Chip_58 w_6_136 w_3_83 w_1_19 (by decide +kernel) d_Chip_erase_49 d_Chip_erase_52 (Or.inl ⟨d_Chip_erase_53, rfl⟩) d_Chip_erase_55 d_Chip_erase_58 (by simp) ⟨Nat.le_of_ble_eq_true rfl, Nat.le_of_ble_eq_true rfl, Nat.le_of_ble_eq_true rfl, Nat.le_of_ble_eq_true rfl⟩ ?_
        (show (if nn < 2048 then _ else _); rw [if_pos (Int32.not_le.mp (by assumption))]; exact ⟨by rw [hS10, hS3] <;> rfl, rfl⟩)
    · skip
      exact absurd hkb hc2
