/-! ===== leaves: Sight.closeAll, class Chip; written by wip/gen/chip.py ===== -/
theorem tM.mono {l : Launch} {y : MethodName} {cc : ByteArray} {nL : Nat} {ret : Option FieldType} {hh : List (Nat × Nat × Nat × Nat)} {rm : Room} {D : va_G} {tys : List (ClassId × FieldType)} {z : Nat} {av : List Value} {S : tS} {Q Q' : tO → tS → Prop} (h : tM l y cc nL ret hh rm D tys z av S Q) (hq : ∀ o S', Q o S' → Q' o S') : tM l y cc nL ret hh rm D tys z av S Q' := by
  intro p e ha hc hk s m args below hf happ hP hK
  obtain ⟨n, o, h1, h2, h3, ⟨⟨S', hU, ho⟩, hF⟩, hL⟩ := h p e ha hc hk s m args below hf happ hP hK
  refine ⟨n, o, h1, h2, h3, ⟨⟨S', hU, ?_⟩, hF⟩, hL⟩
  rcases ho with ⟨v, a, b⟩ | ⟨a, k, C, cell, b, c, d⟩
  · exact Or.inl ⟨v, a, hq _ _ b⟩
  · exact Or.inr ⟨a, k, C, cell, b, hq _ _ c, d⟩
theorem tM.com {l : Launch} {y : MethodName} {cc : ByteArray} {nL : Nat} {ret : Option FieldType} {hh : List (Nat × Nat × Nat × Nat)} {rm : Room} {D : va_G} {tys : List (ClassId × FieldType)} {z : Nat} {av : List Value} {S : tS} {A : tO → Prop} {B : tS → Prop} (h : tM l y cc nL ret hh rm D tys z av S (fun o S' => A o ∧ B S')) : tM l y cc nL ret hh rm D tys z av S (fun o S' => B S' ∧ A o) := h.mono (fun _ _ q => ⟨q.2, q.1⟩)
def siClose : Nat → Int32 → (Nat → Int32) → (Nat → Int32)
  | 0, _, f => f
  | t + 1, k, f => siClose t (k + 1) (upd f k.toNatClampNeg 0)
def chNum (f : Nat → Int32) (cap : Nat) : Nat → Int32 → Int32 → Int32
  | 0, _, s => s
  | t + 1, k, s => chNum f cap t (k + 1) ((s <<< (8 &&& 31)) ||| (if ¬ k < 0 ∧ ¬ nI cap ≤ k then f k.toNatClampNeg &&& 255 else 255))
abbrev b_Sight_closeAll : ByteArray := prog_9_method_9_code
def y_Sight_closeAll : MethodName := ⟨"FlashVault$Sight", "closeAll", "()V"⟩
theorem d_Sight_closeAll_2 : decode b_Sight_closeAll 2 = .ok (.iload_n 1, 1) := by decide +kernel
theorem d_Sight_closeAll_3 : decode b_Sight_closeAll 3 = .ok (.bipush 8, 2) := by decide +kernel
theorem d_Sight_closeAll_5 : decode b_Sight_closeAll 5 = .ok (.if_icmp .ge 16, 3) := by decide +kernel
theorem d_Sight_closeAll_21 : decode b_Sight_closeAll 21 = .ok (.return_, 1) := by decide +kernel
theorem d_Sight_closeAll_8 : decode b_Sight_closeAll 8 = .ok (.aload_n 0, 1) := by decide +kernel
theorem d_Sight_closeAll_9 : decode b_Sight_closeAll 9 = .ok (.getfield 9, 3) := by decide +kernel
theorem d_Sight_closeAll_12 : decode b_Sight_closeAll 12 = .ok (.iload_n 1, 1) := by decide +kernel
theorem d_Sight_closeAll_13 : decode b_Sight_closeAll 13 = .ok (.iconst 0, 1) := by decide +kernel
theorem d_Sight_closeAll_14 : decode b_Sight_closeAll 14 = .ok (.bastore, 1) := by decide +kernel
theorem d_Sight_closeAll_15 : decode b_Sight_closeAll 15 = .ok (.iinc 1 1, 3) := by decide +kernel
theorem d_Sight_closeAll_18 : decode b_Sight_closeAll 18 = .ok (.goto (-16), 3) := by decide +kernel
theorem d_Sight_closeAll_0 : decode b_Sight_closeAll 0 = .ok (.iconst 0, 1) := by decide +kernel
theorem d_Sight_closeAll_1 : decode b_Sight_closeAll 1 = .ok (.istore_n 1, 1) := by decide +kernel
abbrev b_Chip_arm : ByteArray := prog_3_method_2_code
def y_Chip_arm : MethodName := ⟨"FlashVault$Chip", "arm", "(II)V"⟩
theorem d_Chip_arm_0 : decode b_Chip_arm 0 = .ok (.aload_n 0, 1) := by decide +kernel
theorem d_Chip_arm_1 : decode b_Chip_arm 1 = .ok (.iload_n 1, 1) := by decide +kernel
theorem d_Chip_arm_2 : decode b_Chip_arm 2 = .ok (.putfield 9, 3) := by decide +kernel
theorem w_1_170 : (Cond.fieldLink "FlashVault$Chip" (9 : Nat) "FlashVault$Chip" "partsLeft" "I") ∈ gW := gW_1 170 rfl rfl
theorem F_Chip_9 : tF "FlashVault$Chip" 9 1 2 RC1 FC1 5 tC1 := ⟨rfl, by decide, rfl, iC1, kC1, nC1, w_1_170⟩
theorem d_Chip_arm_5 : decode b_Chip_arm 5 = .ok (.aload_n 0, 1) := by decide +kernel
theorem d_Chip_arm_6 : decode b_Chip_arm 6 = .ok (.iload_n 2, 1) := by decide +kernel
theorem d_Chip_arm_7 : decode b_Chip_arm 7 = .ok (.putfield 15, 3) := by decide +kernel
theorem w_1_171 : (Cond.fieldLink "FlashVault$Chip" (15 : Nat) "FlashVault$Chip" "bytesLeft" "I") ∈ gW := gW_1 171 rfl rfl
theorem F_Chip_15 : tF "FlashVault$Chip" 15 1 3 RC1 FC1 5 tC1 := ⟨rfl, by decide, rfl, iC1, kC1, nC1, w_1_171⟩
theorem d_Chip_arm_10 : decode b_Chip_arm 10 = .ok (.return_, 1) := by decide +kernel
abbrev b_Chip_disarm : ByteArray := prog_3_method_3_code
def y_Chip_disarm : MethodName := ⟨"FlashVault$Chip", "disarm", "()V"⟩
theorem d_Chip_disarm_0 : decode b_Chip_disarm 0 = .ok (.aload_n 0, 1) := by decide +kernel
theorem d_Chip_disarm_1 : decode b_Chip_disarm 1 = .ok (.iconst (-1), 1) := by decide +kernel
theorem d_Chip_disarm_2 : decode b_Chip_disarm 2 = .ok (.putfield 9, 3) := by decide +kernel
theorem d_Chip_disarm_5 : decode b_Chip_disarm 5 = .ok (.return_, 1) := by decide +kernel
abbrev b_Chip_at : ByteArray := prog_3_method_7_code
def y_Chip_at : MethodName := ⟨"FlashVault$Chip", "at", "(I)I"⟩
theorem d_Chip_at_0 : decode b_Chip_at 0 = .ok (.iload_n 1, 1) := by decide +kernel
theorem d_Chip_at_1 : decode b_Chip_at 1 = .ok (.ifCond .lt 25, 3) := by decide +kernel
theorem d_Chip_at_26 : decode b_Chip_at 26 = .ok (.sipush 255, 3) := by decide +kernel
theorem d_Chip_at_29 : decode b_Chip_at 29 = .ok (.ireturn, 1) := by decide +kernel
theorem d_Chip_at_4 : decode b_Chip_at 4 = .ok (.iload_n 1, 1) := by decide +kernel
theorem d_Chip_at_5 : decode b_Chip_at 5 = .ok (.aload_n 0, 1) := by decide +kernel
theorem d_Chip_at_6 : decode b_Chip_at 6 = .ok (.getfield 27, 3) := by decide +kernel
theorem w_1_166 : (Cond.fieldLink "FlashVault$Chip" (27 : Nat) "FlashVault$Chip" "cells" "[B") ∈ gW := gW_1 166 rfl rfl
theorem F_Chip_27 : tF "FlashVault$Chip" 27 1 0 RC1 FC1 5 tC1 := ⟨rfl, by decide, rfl, iC1, kC1, nC1, w_1_166⟩
theorem d_Chip_at_9 : decode b_Chip_at 9 = .ok (.arraylength, 1) := by decide +kernel
theorem d_Chip_at_10 : decode b_Chip_at 10 = .ok (.if_icmp .ge 16, 3) := by decide +kernel
theorem d_Chip_at_13 : decode b_Chip_at 13 = .ok (.aload_n 0, 1) := by decide +kernel
theorem d_Chip_at_14 : decode b_Chip_at 14 = .ok (.getfield 27, 3) := by decide +kernel
theorem d_Chip_at_17 : decode b_Chip_at 17 = .ok (.iload_n 1, 1) := by decide +kernel
theorem d_Chip_at_18 : decode b_Chip_at 18 = .ok (.baload, 1) := by decide +kernel
theorem d_Chip_at_19 : decode b_Chip_at 19 = .ok (.sipush 255, 3) := by decide +kernel
theorem d_Chip_at_22 : decode b_Chip_at 22 = .ok (.iand, 1) := by decide +kernel
theorem d_Chip_at_23 : decode b_Chip_at 23 = .ok (.goto 6, 3) := by decide +kernel
abbrev b_Chip_granted : ByteArray := prog_3_method_4_code
def y_Chip_granted : MethodName := ⟨"FlashVault$Chip", "granted", "(I)I"⟩
theorem d_Chip_granted_0 : decode b_Chip_granted 0 = .ok (.aload_n 0, 1) := by decide +kernel
theorem d_Chip_granted_1 : decode b_Chip_granted 1 = .ok (.getfield 9, 3) := by decide +kernel
theorem d_Chip_granted_4 : decode b_Chip_granted 4 = .ok (.ifCond .ge 5, 3) := by decide +kernel
theorem d_Chip_granted_9 : decode b_Chip_granted 9 = .ok (.aload_n 0, 1) := by decide +kernel
theorem d_Chip_granted_10 : decode b_Chip_granted 10 = .ok (.dup, 1) := by decide +kernel
theorem d_Chip_granted_11 : decode b_Chip_granted 11 = .ok (.getfield 9, 3) := by decide +kernel
theorem d_Chip_granted_14 : decode b_Chip_granted 14 = .ok (.iconst 1, 1) := by decide +kernel
theorem d_Chip_granted_15 : decode b_Chip_granted 15 = .ok (.isub, 1) := by decide +kernel
theorem d_Chip_granted_16 : decode b_Chip_granted 16 = .ok (.putfield 9, 3) := by decide +kernel
theorem d_Chip_granted_19 : decode b_Chip_granted 19 = .ok (.aload_n 0, 1) := by decide +kernel
theorem d_Chip_granted_20 : decode b_Chip_granted 20 = .ok (.getfield 9, 3) := by decide +kernel
theorem d_Chip_granted_23 : decode b_Chip_granted 23 = .ok (.ifCond .lt 7, 3) := by decide +kernel
theorem d_Chip_granted_30 : decode b_Chip_granted 30 = .ok (.aload_n 0, 1) := by decide +kernel
theorem d_Chip_granted_31 : decode b_Chip_granted 31 = .ok (.getfield 15, 3) := by decide +kernel
theorem d_Chip_granted_34 : decode b_Chip_granted 34 = .ok (.iload_n 1, 1) := by decide +kernel
theorem d_Chip_granted_35 : decode b_Chip_granted 35 = .ok (.iconst 1, 1) := by decide +kernel
theorem d_Chip_granted_36 : decode b_Chip_granted 36 = .ok (.isub, 1) := by decide +kernel
theorem d_Chip_granted_37 : decode b_Chip_granted 37 = .ok (.invokestatic 41, 3) := by decide +kernel
theorem w_5_114 : (Cond.methodLink "FlashVault$Chip" (41 : Nat) ({ cls := "java/lang/Math", name := "min", desc := "(II)I" } : MethodName)) ∈ gW := gW_5 114 rfl rfl
theorem d_Chip_granted_40 : decode b_Chip_granted 40 = .ok (.ireturn, 1) := by decide +kernel
theorem d_Chip_granted_26 : decode b_Chip_granted 26 = .ok (.iload_n 1, 1) := by decide +kernel
theorem d_Chip_granted_27 : decode b_Chip_granted 27 = .ok (.goto 13, 3) := by decide +kernel
theorem d_Chip_granted_7 : decode b_Chip_granted 7 = .ok (.iload_n 1, 1) := by decide +kernel
theorem d_Chip_granted_8 : decode b_Chip_granted 8 = .ok (.ireturn, 1) := by decide +kernel
abbrev b_Chip_number : ByteArray := prog_3_method_8_code
def y_Chip_number : MethodName := ⟨"FlashVault$Chip", "number", "(II)I"⟩
theorem d_Chip_number_5 : decode b_Chip_number 5 = .ok (.iload 4, 2) := by decide +kernel
theorem d_Chip_number_7 : decode b_Chip_number 7 = .ok (.iload_n 1, 1) := by decide +kernel
theorem d_Chip_number_8 : decode b_Chip_number 8 = .ok (.iload_n 2, 1) := by decide +kernel
theorem d_Chip_number_9 : decode b_Chip_number 9 = .ok (.iadd, 1) := by decide +kernel
theorem d_Chip_number_10 : decode b_Chip_number 10 = .ok (.if_icmp .ge 47, 3) := by decide +kernel
theorem d_Chip_number_57 : decode b_Chip_number 57 = .ok (.iload_n 3, 1) := by decide +kernel
theorem d_Chip_number_58 : decode b_Chip_number 58 = .ok (.ireturn, 1) := by decide +kernel
theorem d_Chip_number_13 : decode b_Chip_number 13 = .ok (.iload_n 3, 1) := by decide +kernel
theorem d_Chip_number_14 : decode b_Chip_number 14 = .ok (.bipush 8, 2) := by decide +kernel
theorem d_Chip_number_16 : decode b_Chip_number 16 = .ok (.ishl, 1) := by decide +kernel
theorem d_Chip_number_17 : decode b_Chip_number 17 = .ok (.iload 4, 2) := by decide +kernel
theorem d_Chip_number_19 : decode b_Chip_number 19 = .ok (.ifCond .lt 27, 3) := by decide +kernel
theorem d_Chip_number_46 : decode b_Chip_number 46 = .ok (.sipush 255, 3) := by decide +kernel
theorem d_Chip_number_49 : decode b_Chip_number 49 = .ok (.ior, 1) := by decide +kernel
theorem d_Chip_number_50 : decode b_Chip_number 50 = .ok (.istore_n 3, 1) := by decide +kernel
theorem d_Chip_number_51 : decode b_Chip_number 51 = .ok (.iinc 4 1, 3) := by decide +kernel
theorem d_Chip_number_54 : decode b_Chip_number 54 = .ok (.goto (-49), 3) := by decide +kernel
theorem d_Chip_number_22 : decode b_Chip_number 22 = .ok (.iload 4, 2) := by decide +kernel
theorem d_Chip_number_24 : decode b_Chip_number 24 = .ok (.aload_n 0, 1) := by decide +kernel
theorem d_Chip_number_25 : decode b_Chip_number 25 = .ok (.getfield 27, 3) := by decide +kernel
theorem d_Chip_number_28 : decode b_Chip_number 28 = .ok (.arraylength, 1) := by decide +kernel
theorem d_Chip_number_29 : decode b_Chip_number 29 = .ok (.if_icmp .ge 17, 3) := by decide +kernel
theorem d_Chip_number_32 : decode b_Chip_number 32 = .ok (.aload_n 0, 1) := by decide +kernel
theorem d_Chip_number_33 : decode b_Chip_number 33 = .ok (.getfield 27, 3) := by decide +kernel
theorem d_Chip_number_36 : decode b_Chip_number 36 = .ok (.iload 4, 2) := by decide +kernel
theorem d_Chip_number_38 : decode b_Chip_number 38 = .ok (.baload, 1) := by decide +kernel
theorem d_Chip_number_39 : decode b_Chip_number 39 = .ok (.sipush 255, 3) := by decide +kernel
theorem d_Chip_number_42 : decode b_Chip_number 42 = .ok (.iand, 1) := by decide +kernel
theorem d_Chip_number_43 : decode b_Chip_number 43 = .ok (.goto 6, 3) := by decide +kernel
theorem d_Chip_number_0 : decode b_Chip_number 0 = .ok (.iconst 0, 1) := by decide +kernel
theorem d_Chip_number_1 : decode b_Chip_number 1 = .ok (.istore_n 3, 1) := by decide +kernel
theorem d_Chip_number_2 : decode b_Chip_number 2 = .ok (.iload_n 1, 1) := by decide +kernel
theorem d_Chip_number_3 : decode b_Chip_number 3 = .ok (.istore 4, 2) := by decide +kernel
abbrev b_Chip_copyOut : ByteArray := prog_3_method_9_code
def y_Chip_copyOut : MethodName := ⟨"FlashVault$Chip", "copyOut", "(I[BII)V"⟩
theorem d_Chip_copyOut_0 : decode b_Chip_copyOut 0 = .ok (.aload_n 0, 1) := by decide +kernel
theorem d_Chip_copyOut_1 : decode b_Chip_copyOut 1 = .ok (.getfield 27, 3) := by decide +kernel
theorem d_Chip_copyOut_4 : decode b_Chip_copyOut 4 = .ok (.iload_n 1, 1) := by decide +kernel
theorem d_Chip_copyOut_5 : decode b_Chip_copyOut 5 = .ok (.aload_n 2, 1) := by decide +kernel
theorem d_Chip_copyOut_6 : decode b_Chip_copyOut 6 = .ok (.iload_n 3, 1) := by decide +kernel
theorem d_Chip_copyOut_7 : decode b_Chip_copyOut 7 = .ok (.iload 4, 2) := by decide +kernel
theorem d_Chip_copyOut_9 : decode b_Chip_copyOut 9 = .ok (.invokestatic 48, 3) := by decide +kernel
theorem w_4_182 : (Cond.methodLink "FlashVault$Chip" (48 : Nat) ({ cls := "FlashVault$Row", name := "copy", desc := "([BI[BII)V" } : MethodName)) ∈ gW := gW_4 182 rfl rfl
theorem w_1_2 : (Cond.initialized "FlashVault$Row") ∈ gW := gW_1 2 rfl rfl
theorem w_4_54 : (Cond.code ({ cls := "FlashVault$Row", name := "copy", desc := "([BI[BII)V" } : MethodName) prog_7_method_5_code (5 : Nat) (Option.none : Option FieldType)) ∈ gW := gW_4 54 rfl rfl
theorem w_4_53 : (Cond.static ({ cls := "FlashVault$Row", name := "copy", desc := "([BI[BII)V" } : MethodName)) ∈ gW := gW_4 53 rfl rfl
theorem d_Chip_copyOut_12 : decode b_Chip_copyOut 12 = .ok (.return_, 1) := by decide +kernel
set_option maxHeartbeats 4000000 in
set_option maxRecDepth 100000 in
/-- Sight.closeAll: its loop -/
theorem lp_Sight_closeAll {l : Launch} {D : va_G} {kd : Nat → ClassId} {z : Nat} {s a b q : Nat} {g : Nat → Int32} {res : tS} (n_a_b : a ≠ b)  : ∀ (t k' : Nat) (k  : Int32) (S : tS) (f : Nat → Int32), s ∈ S.1 → S.2 s = .inr (7, [.ref a, .ref b, .ref q]) → a ∈ S.1 → S.2 a = .inl (kd 2, 8, .inl f) → b ∈ S.1 → S.2 b = .inl (kd 0, 8, .inl g) → k = nI k' → k' + t = 8 → res = tset S a (.inl (kd 2, 8, .inl (siClose t k f))) → tP b_Sight_closeAll "FlashVault$Sight" 2 none false [] {} D (tyl kd) z l (fun o9 T9 => T9 = res ∧ o9 = .inl none) 0 0 2 [(1, .int k), (0, .ref s)] [] S := by
  intro t
  induction t with
  | zero =>
    intro k' k  S f m_s f_s m_a f_a m_b f_b hk hs hr
    have hge : 8 ≤ k := by rw [hk, show k' = 8 by omega]; first | exact Int32.le_refl _ | decide | (rw [nI_add]; exact Int32.le_refl _)
    refine tt_iload_n d_Sight_closeAll_2 rfl 0 rfl ?_
    refine tt_bipush (v := 8) d_Sight_closeAll_3 (by decide) ?_
    refine tt_icmp_ge (t := 21) d_Sight_closeAll_5 (by decide) (fun hc1 => ?_) (fun hc1 => ?_)
    · skip
      exact tt_vret rfl (Nat.le_refl _) (Nat.le_refl _) d_Sight_closeAll_21 (by first | (exact absurd hge (by first | assumption | exact Int32.not_le.mpr (by assumption))) | exact ⟨by rw [hr]; exact (ts_self f_a).symm, rfl⟩)
    · skip
      refine tt_aload_n d_Sight_closeAll_8 rfl 1 rfl ?_
      refine tt_get F_Sight_9 d_Sight_closeAll_9 m_s f_s rfl ?_
      refine tt_iload_n d_Sight_closeAll_12 rfl 0 rfl ?_
      refine tt_iconst (v := 0) d_Sight_closeAll_13 (by decide) ?_
      refine tt_zast 2 d_Sight_closeAll_14 rfl m_a f_a (absurd hge (by assumption)) ?_
      obtain ⟨S2, hS2⟩ : ∃ x9, x9 = tset S a (.inl (kd 2, 8, .inl (upd f (k).toNatClampNeg (vp_nar .boolean (0))))) := ⟨_, rfl⟩
      refine tt_S hS2 ?_
      have m3 : s ∈ S2.1 := by rw [hS2]; exact m_s
      have f4 : S2.2 s = .inr (7, [.ref a, .ref b, .ref q]) := by rw [hS2]; exact (va_up_ne _ _ (fun h => by have h9 := f_s; rw [h, f_a] at h9; cases h9)).trans f_s
      have m5 : a ∈ S2.1 := by rw [hS2]; exact m_a
      have f6 : S2.2 a = .inl (kd 2, 8, .inl (upd f (k).toNatClampNeg (vp_nar .boolean (0)))) := by rw [hS2]; exact va_up_self _ _ _
      have m7 : b ∈ S2.1 := by rw [hS2]; exact m_b
      have f8 : S2.2 b = .inl (kd 0, 8, .inl g) := by rw [hS2]; exact (va_up_ne _ _ (Ne.symm n_a_b)).trans f_b
      refine tt_iinc (v := (k + 1)) (lv' := [(1, .int ((k + 1))), (0, .ref s)]) d_Sight_closeAll_15 0 rfl rfl (by decide) rfl ?_
      refine tt_goto (t := 2) d_Sight_closeAll_18 (by decide) ?_
      refine tt_sub (lv' := [(1, .int ((k + 1))), (0, .ref s)]) [0, 1] rfl ?_
      exact absurd hge (by first | assumption | exact Int32.not_le.mpr (by assumption))
  | succ t ih =>
    intro k' k  S f m_s f_s m_a f_a m_b f_b hk hs hr
    have hlt : ¬ 8 ≤ k := by rw [hk]; first | exact nI_ge (b := 8) (by omega) (by omega) | (rw [nI_add]; exact nI_ge (by omega) (by omega))
    refine tt_iload_n d_Sight_closeAll_2 rfl 0 rfl ?_
    refine tt_bipush (v := 8) d_Sight_closeAll_3 (by decide) ?_
    refine tt_icmp_ge (t := 21) d_Sight_closeAll_5 (by decide) (fun hc1 => ?_) (fun hc1 => ?_)
    · skip
      exact tt_vret rfl (Nat.le_refl _) (Nat.le_refl _) d_Sight_closeAll_21 (by first | (exact absurd (by assumption) hlt) | exact ⟨by rw [hr]; exact (ts_self f_a).symm, rfl⟩)
    · skip
      refine tt_aload_n d_Sight_closeAll_8 rfl 1 rfl ?_
      refine tt_get F_Sight_9 d_Sight_closeAll_9 m_s f_s rfl ?_
      refine tt_iload_n d_Sight_closeAll_12 rfl 0 rfl ?_
      refine tt_iconst (v := 0) d_Sight_closeAll_13 (by decide) ?_
      refine tt_zast 2 d_Sight_closeAll_14 rfl m_a f_a (by rw [hk]; exact vp_in_nI (by omega) (by omega)) ?_
      obtain ⟨S2, hS2⟩ : ∃ x9, x9 = tset S a (.inl (kd 2, 8, .inl (upd f (k).toNatClampNeg (vp_nar .boolean (0))))) := ⟨_, rfl⟩
      refine tt_S hS2 ?_
      have m3 : s ∈ S2.1 := by rw [hS2]; exact m_s
      have f4 : S2.2 s = .inr (7, [.ref a, .ref b, .ref q]) := by rw [hS2]; exact (va_up_ne _ _ (fun h => by have h9 := f_s; rw [h, f_a] at h9; cases h9)).trans f_s
      have m5 : a ∈ S2.1 := by rw [hS2]; exact m_a
      have f6 : S2.2 a = .inl (kd 2, 8, .inl (upd f (k).toNatClampNeg (vp_nar .boolean (0)))) := by rw [hS2]; exact va_up_self _ _ _
      have m7 : b ∈ S2.1 := by rw [hS2]; exact m_b
      have f8 : S2.2 b = .inl (kd 0, 8, .inl g) := by rw [hS2]; exact (va_up_ne _ _ (Ne.symm n_a_b)).trans f_b
      refine tt_iinc (v := (k + 1)) (lv' := [(1, .int ((k + 1))), (0, .ref s)]) d_Sight_closeAll_15 0 rfl rfl (by decide) rfl ?_
      refine tt_goto (t := 2) d_Sight_closeAll_18 (by decide) ?_
      refine tt_sub (lv' := [(1, .int ((k + 1))), (0, .ref s)]) [0, 1] rfl ?_
      exact ih (k' + 1) (k + 1)  S2 _ m3 f4 m5 f6 m7 f8 (by rw [hk]; exact nI_1 k') (by omega) (by rw [hr, siClose]; first | rfl | (simp [hc1, Int32.not_le.mp hc1, hS2, ts_ts, vz0, vz1, pk_vb]; done) | (subst_vars; simp [hc1, Int32.not_le.mp hc1, ts_ts, vz0, vz1, pk_vb]; done) | simp_all)
set_option maxHeartbeats 4000000 in
set_option maxRecDepth 100000 in
/-- Sight.closeAll -/
theorem c_Sight_closeAll {l : Launch} {D : va_G} {kd : Nat → ClassId} {z : Nat} {S : tS} {s a b q : Nat} {f g : Nat → Int32} (m_s : s ∈ S.1) (f_s : S.2 s = .inr (7, [.ref a, .ref b, .ref q])) (m_a : a ∈ S.1) (f_a : S.2 a = .inl (kd 2, 8, .inl f)) (m_b : b ∈ S.1) (f_b : S.2 b = .inl (kd 0, 8, .inl g)) (n_a_b : a ≠ b)  : tM l y_Sight_closeAll b_Sight_closeAll 2 none [] {} D (tyl kd) z [.ref s] S (fun o9 T9 => T9 = tset S a (.inl (kd 2, 8, .inl (siClose 8 0 f))) ∧ o9 = .inl none) := by
  refine tM.of (own := "FlashVault$Sight") (ini := false) (by decide) rfl (fun h => by first | rfl | cases h) (Nat.le_of_ble_eq_true rfl) (lv := [(0, .ref s)]) rfl ?_
  refine tt_iconst (v := 0) d_Sight_closeAll_0 (by decide) ?_
  refine tt_istore_n (lv' := [(1, .int 0), (0, .ref s)]) d_Sight_closeAll_1 rfl (by decide) rfl ?_
  exact lp_Sight_closeAll n_a_b 8 0 0 S f m_s f_s m_a f_a m_b f_b nI_0.symm (by omega) rfl
set_option maxHeartbeats 4000000 in
set_option maxRecDepth 100000 in
/-- Chip.arm -/
theorem c_Chip_arm {l : Launch} {D : va_G} {kd : Nat → ClassId} {z : Nat} {S : tS} {c a b ca cb : Nat} {pl bl ov : Int32} {f g : Nat → Int32} {x y : Int32} (m_c : c ∈ S.1) (f_c : S.2 c = .inr (1, [.ref a, .ref b, .int pl, .int bl, .int ov]))   : tM l y_Chip_arm b_Chip_arm 3 none [] {} D (tyl kd) z [.ref c, .int x, .int y] S (fun o9 T9 => T9 = tset S c (.inr (1, [.ref a, .ref b, .int x, .int y, .int ov])) ∧ o9 = .inl none) := by
  refine tM.of (own := "FlashVault$Chip") (ini := false) (by decide) rfl (fun h => by first | rfl | cases h) (Nat.le_of_ble_eq_true rfl) (lv := [(0, .ref c), (1, .int x), (2, .int y)]) rfl ?_
  refine tt_aload_n d_Chip_arm_0 rfl 0 rfl ?_
  refine tt_iload_n d_Chip_arm_1 rfl 1 rfl ?_
  refine tt_put F_Chip_9 d_Chip_arm_2 m_c f_c (Or.inl rfl) (by first | rfl | decide | exact pk_nz _) (by first | rfl | decide) (by simp) ?_
  obtain ⟨S1, hS1⟩ : ∃ x9, x9 = tset S c (.inr (1, [.ref a, .ref b, .int x, .int bl, .int ov])) := ⟨_, rfl⟩
  refine tt_S hS1 ?_
  have m2 : c ∈ S1.1 := by rw [hS1]; exact m_c
  have f3 : S1.2 c = .inr (1, [.ref a, .ref b, .int x, .int bl, .int ov]) := by rw [hS1]; exact va_up_self _ _ _
  refine tt_aload_n d_Chip_arm_5 rfl 0 rfl ?_
  refine tt_iload_n d_Chip_arm_6 rfl 2 rfl ?_
  refine tt_put F_Chip_15 d_Chip_arm_7 m2 f3 (Or.inl rfl) (by first | rfl | decide | exact pk_nz _) (by first | rfl | decide) (by simp) ?_
  obtain ⟨S4, hS4⟩ : ∃ x9, x9 = tset S1 c (.inr (1, [.ref a, .ref b, .int x, .int y, .int ov])) := ⟨_, rfl⟩
  refine tt_S hS4 ?_
  have m5 : c ∈ S4.1 := by rw [hS4]; exact m2
  have f6 : S4.2 c = .inr (1, [.ref a, .ref b, .int x, .int y, .int ov]) := by rw [hS4]; exact va_up_self _ _ _
  exact tt_vret rfl (Nat.le_of_ble_eq_true rfl) (Nat.le_of_ble_eq_true rfl) d_Chip_arm_10 (by refine ⟨?_, ?_⟩ <;> first | rfl | (simp [hS4, hS1, vz0, vz1, pk_vb, ts_ts]; done) | (subst_vars; simp [vz0, vz1, pk_vb, ts_ts]; done) | (subst_vars; rfl))
set_option maxHeartbeats 4000000 in
set_option maxRecDepth 100000 in
/-- Chip.disarm -/
theorem c_Chip_disarm {l : Launch} {D : va_G} {kd : Nat → ClassId} {z : Nat} {S : tS} {c a b ca cb : Nat} {pl bl ov : Int32} {f g : Nat → Int32} (m_c : c ∈ S.1) (f_c : S.2 c = .inr (1, [.ref a, .ref b, .int pl, .int bl, .int ov]))   : tM l y_Chip_disarm b_Chip_disarm 1 none [] {} D (tyl kd) z [.ref c] S (fun o9 T9 => T9 = tset S c (.inr (1, [.ref a, .ref b, .int (-1), .int bl, .int ov])) ∧ o9 = .inl none) := by
  refine tM.of (own := "FlashVault$Chip") (ini := false) (by decide) rfl (fun h => by first | rfl | cases h) (Nat.le_of_ble_eq_true rfl) (lv := [(0, .ref c)]) rfl ?_
  refine tt_aload_n d_Chip_disarm_0 rfl 0 rfl ?_
  refine tt_iconst (v := -1) d_Chip_disarm_1 (by decide) ?_
  refine tt_put F_Chip_9 d_Chip_disarm_2 m_c f_c (Or.inl rfl) (by first | rfl | decide | exact pk_nz _) (by first | rfl | decide) (by simp) ?_
  obtain ⟨S1, hS1⟩ : ∃ x9, x9 = tset S c (.inr (1, [.ref a, .ref b, .int ((-1)), .int bl, .int ov])) := ⟨_, rfl⟩
  refine tt_S hS1 ?_
  have m2 : c ∈ S1.1 := by rw [hS1]; exact m_c
  have f3 : S1.2 c = .inr (1, [.ref a, .ref b, .int ((-1)), .int bl, .int ov]) := by rw [hS1]; exact va_up_self _ _ _
  exact tt_vret rfl (Nat.le_of_ble_eq_true rfl) (Nat.le_of_ble_eq_true rfl) d_Chip_disarm_5 (by refine ⟨?_, ?_⟩ <;> first | rfl | (simp [hS1, vz0, vz1, pk_vb, ts_ts]; done) | (subst_vars; simp [vz0, vz1, pk_vb, ts_ts]; done) | (subst_vars; rfl))
set_option maxHeartbeats 4000000 in
set_option maxRecDepth 100000 in
/-- Chip.at -/
theorem c_Chip_at {l : Launch} {D : va_G} {kd : Nat → ClassId} {z : Nat} {S : tS} {c a b ca cb : Nat} {pl bl ov : Int32} {f g : Nat → Int32} {x : Int32} (m_c : c ∈ S.1) (f_c : S.2 c = .inr (1, [.ref a, .ref b, .int pl, .int bl, .int ov])) (m_a : a ∈ S.1) (f_a : S.2 a = .inl (kd 1, ca, .inl f)) (m_b : b ∈ S.1) (f_b : S.2 b = .inl (kd 0, cb, .inl g))  (hca : ca < 2 ^ 31) : tM l y_Chip_at b_Chip_at 2 (some FieldType.int) [] {} D (tyl kd) z [.ref c, .int x] S (fun o9 T9 => T9 = S ∧ o9 = .inl (some (.int (if ¬ x < 0 ∧ ¬ nI ca ≤ x then f x.toNatClampNeg &&& 255 else 255)))) := by
  refine tM.of (own := "FlashVault$Chip") (ini := false) (by decide) rfl (fun h => by first | rfl | cases h) (Nat.le_of_ble_eq_true rfl) (lv := [(0, .ref c), (1, .int x)]) rfl ?_
  refine tt_iload_n d_Chip_at_0 rfl 1 rfl ?_
  refine tt_if_lt (t := 26) d_Chip_at_1 (by decide) (fun hc1 => ?_) (fun hc1 => ?_)
  · skip
    refine tt_sipush (v := 255) d_Chip_at_26 (by decide) ?_
    exact tt_ret rfl (by first | rfl | decide | exact nz_ite _) (Nat.le_of_ble_eq_true rfl) (Nat.le_of_ble_eq_true rfl) d_Chip_at_29 (by refine ⟨?_, ?_⟩ <;> first | rfl | (simp [hc1, Int32.not_le.mpr hc1, vz0, vz1, pk_vb]; done) | (subst_vars; simp [hc1, Int32.not_le.mpr hc1, vz0, vz1, pk_vb]; done) | (subst_vars; rfl))
  · skip
    refine tt_iload_n d_Chip_at_4 rfl 1 rfl ?_
    refine tt_aload_n d_Chip_at_5 rfl 0 rfl ?_
    refine tt_get F_Chip_27 d_Chip_at_6 m_c f_c rfl ?_
    refine tt_alen (v := nI (ca)) 1 d_Chip_at_9 rfl m_a f_a rfl ?_
    refine tt_icmp_ge (t := 26) d_Chip_at_10 (by decide) (fun hc2 => ?_) (fun hc2 => ?_)
    · skip
      refine tt_sipush (v := 255) d_Chip_at_26 (by decide) ?_
      exact tt_ret rfl (by first | rfl | decide | exact nz_ite _) (Nat.le_of_ble_eq_true rfl) (Nat.le_of_ble_eq_true rfl) d_Chip_at_29 (by refine ⟨?_, ?_⟩ <;> first | rfl | (simp [hc1, Int32.not_lt.mp hc1, hc2, Int32.not_lt.mpr hc2, vz0, vz1, pk_vb]; done) | (subst_vars; simp [hc1, Int32.not_lt.mp hc1, hc2, Int32.not_lt.mpr hc2, vz0, vz1, pk_vb]; done) | (subst_vars; rfl))
    · skip
      refine tt_aload_n d_Chip_at_13 rfl 0 rfl ?_
      refine tt_get F_Chip_27 d_Chip_at_14 m_c f_c rfl ?_
      refine tt_iload_n d_Chip_at_17 rfl 1 rfl ?_
      refine tt_bald 1 d_Chip_at_18 rfl m_a f_a (vi_of (by assumption) (by assumption) hca) ?_
      refine tt_sipush (v := 255) d_Chip_at_19 (by decide) ?_
      refine tt_iand d_Chip_at_22 ?_
      refine tt_goto (t := 29) d_Chip_at_23 (by decide) ?_
      exact tt_ret rfl (by first | rfl | decide | exact nz_ite _) (Nat.le_of_ble_eq_true rfl) (Nat.le_of_ble_eq_true rfl) d_Chip_at_29 (by refine ⟨?_, ?_⟩ <;> first | rfl | (simp [hc1, Int32.not_lt.mp hc1, hc2, Int32.not_le.mp hc2, vz0, vz1, pk_vb]; done) | (subst_vars; simp [hc1, Int32.not_lt.mp hc1, hc2, Int32.not_le.mp hc2, vz0, vz1, pk_vb]; done) | (subst_vars; rfl))
set_option maxHeartbeats 4000000 in
set_option maxRecDepth 100000 in
/-- Chip.granted -/
theorem c_Chip_granted {l : Launch} {D : va_G} {kd : Nat → ClassId} {z : Nat} {S : tS} {c a b ca cb : Nat} {pl bl ov : Int32} {f g : Nat → Int32} {n : Int32} (m_c : c ∈ S.1) (f_c : S.2 c = .inr (1, [.ref a, .ref b, .int pl, .int bl, .int ov]))   : tM l y_Chip_granted b_Chip_granted 2 (some FieldType.int) [] { frames := 1, locals := 40 } D (tyl kd) z [.ref c, .int n] S (fun o9 T9 => T9 = (if pl < 0 then S else tset S c (.inr (1, [.ref a, .ref b, .int (pl - 1), .int bl, .int ov]))) ∧ o9 = .inl (some (.int (if pl < 0 ∨ ¬ (pl - 1) < 0 then n else (if (n - 1) < bl then (n - 1) else bl))))) := by
  refine tM.of (own := "FlashVault$Chip") (ini := false) (by decide) rfl (fun h => by first | rfl | cases h) (Nat.le_of_ble_eq_true rfl) (lv := [(0, .ref c), (1, .int n)]) rfl ?_
  refine tt_aload_n d_Chip_granted_0 rfl 0 rfl ?_
  refine tt_get F_Chip_9 d_Chip_granted_1 m_c f_c rfl ?_
  refine tt_if_ge (t := 9) d_Chip_granted_4 (by decide) (fun hc1 => ?_) (fun hc1 => ?_)
  · skip
    refine tt_aload_n d_Chip_granted_9 rfl 0 rfl ?_
    refine tt_dup d_Chip_granted_10 rfl ?_
    refine tt_get F_Chip_9 d_Chip_granted_11 m_c f_c rfl ?_
    refine tt_iconst (v := 1) d_Chip_granted_14 (by decide) ?_
    refine tt_isub d_Chip_granted_15 ?_
    refine tt_put F_Chip_9 d_Chip_granted_16 m_c f_c (Or.inl rfl) (by first | rfl | decide | exact pk_nz _) (by first | rfl | decide) (by simp) ?_
    obtain ⟨S2, hS2⟩ : ∃ x9, x9 = tset S c (.inr (1, [.ref a, .ref b, .int ((pl - 1)), .int bl, .int ov])) := ⟨_, rfl⟩
    refine tt_S hS2 ?_
    have m3 : c ∈ S2.1 := by rw [hS2]; exact m_c
    have f4 : S2.2 c = .inr (1, [.ref a, .ref b, .int ((pl - 1)), .int bl, .int ov]) := by rw [hS2]; exact va_up_self _ _ _
    refine tt_aload_n d_Chip_granted_19 rfl 0 rfl ?_
    refine tt_get F_Chip_9 d_Chip_granted_20 m3 f4 rfl ?_
    refine tt_if_lt (t := 30) d_Chip_granted_23 (by decide) (fun hc5 => ?_) (fun hc5 => ?_)
    · skip
      refine tt_aload_n d_Chip_granted_30 rfl 0 rfl ?_
      refine tt_get F_Chip_15 d_Chip_granted_31 m3 f4 rfl ?_
      refine tt_iload_n d_Chip_granted_34 rfl 1 rfl ?_
      refine tt_iconst (v := 1) d_Chip_granted_35 (by decide) ?_
      refine tt_isub d_Chip_granted_36 ?_
      refine tt_mmin w_5_114 w_4_10 w_1_3 w_4_11 ⟨Nat.le_of_ble_eq_true rfl, Nat.le_of_ble_eq_true rfl, Nat.le_of_ble_eq_true rfl, Nat.le_of_ble_eq_true rfl⟩ d_Chip_granted_37 ?_
      exact tt_ret rfl (by first | rfl | decide | exact nz_ite _) (Nat.le_of_ble_eq_true rfl) (Nat.le_of_ble_eq_true rfl) d_Chip_granted_40 (by refine ⟨?_, ?_⟩ <;> first | rfl | (simp [hc1, Int32.not_lt.mpr hc1, hc5, Int32.not_le.mpr hc5, hS2, vz0, vz1, pk_vb, ts_ts]; done) | (subst_vars; simp [hc1, Int32.not_lt.mpr hc1, hc5, Int32.not_le.mpr hc5, vz0, vz1, pk_vb, ts_ts]; done) | (subst_vars; rfl))
    · skip
      refine tt_iload_n d_Chip_granted_26 rfl 1 rfl ?_
      refine tt_goto (t := 40) d_Chip_granted_27 (by decide) ?_
      exact tt_ret rfl (by first | rfl | decide | exact nz_ite _) (Nat.le_of_ble_eq_true rfl) (Nat.le_of_ble_eq_true rfl) d_Chip_granted_40 (by refine ⟨?_, ?_⟩ <;> first | rfl | (simp [hc1, Int32.not_lt.mpr hc1, hc5, Int32.not_lt.mp hc5, hS2, vz0, vz1, pk_vb, ts_ts]; done) | (subst_vars; simp [hc1, Int32.not_lt.mpr hc1, hc5, Int32.not_lt.mp hc5, vz0, vz1, pk_vb, ts_ts]; done) | (subst_vars; rfl))
  · skip
    refine tt_iload_n d_Chip_granted_7 rfl 1 rfl ?_
    exact tt_ret rfl (by first | rfl | decide | exact nz_ite _) (Nat.le_of_ble_eq_true rfl) (Nat.le_of_ble_eq_true rfl) d_Chip_granted_8 (by refine ⟨?_, ?_⟩ <;> first | rfl | (simp [hc1, Int32.not_le.mp hc1, vz0, vz1, pk_vb, ts_ts]; done) | (subst_vars; simp [hc1, Int32.not_le.mp hc1, vz0, vz1, pk_vb, ts_ts]; done) | (subst_vars; rfl))
set_option maxHeartbeats 4000000 in
set_option maxRecDepth 100000 in
/-- Chip.number: its loop -/
theorem lp_Chip_number {l : Launch} {D : va_G} {kd : Nat → ClassId} {z : Nat} {S : tS} {c a b ca cb q n' : Nat} {pl bl ov : Int32} {f g : Nat → Int32} (m_c : c ∈ S.1) (f_c : S.2 c = .inr (1, [.ref a, .ref b, .int pl, .int bl, .int ov])) (m_a : a ∈ S.1) (f_a : S.2 a = .inl (kd 1, ca, .inl f)) (m_b : b ∈ S.1) (f_b : S.2 b = .inl (kd 0, cb, .inl g)) (hca : ca < 2 ^ 31) (hq : q + n' < 2 ^ 31) : ∀ (t k' : Nat) (k s : Int32) (res : Int32), k = nI k' → k' + t = q + n' → res = chNum f ca t k s → tP b_Chip_number "FlashVault$Chip" 5 (some FieldType.int) false [] {} D (tyl kd) z l (fun o9 T9 => T9 = S ∧ o9 = .inl (some (.int res))) 0 0 5 [(4, .int k), (3, .int s), (0, .ref c), (1, .int ((nI q))), (2, .int ((nI n')))] [] S := by
  intro t
  induction t with
  | zero =>
    intro k' k s res hk hs hr
    have hge : ((nI q) + (nI n')) ≤ k := by rw [hk, show k' = q + n' by omega]; first | exact Int32.le_refl _ | decide | (rw [nI_add]; exact Int32.le_refl _)
    refine tt_iload d_Chip_number_5 0 rfl ?_
    refine tt_iload_n d_Chip_number_7 rfl 3 rfl ?_
    refine tt_iload_n d_Chip_number_8 rfl 4 rfl ?_
    refine tt_iadd d_Chip_number_9 ?_
    refine tt_icmp_ge (t := 57) d_Chip_number_10 (by decide) (fun hc1 => ?_) (fun hc1 => ?_)
    · skip
      refine tt_iload_n d_Chip_number_57 rfl 1 rfl ?_
      exact tt_ret rfl (by first | rfl | decide | exact nz_ite _) (Nat.le_refl _) (Nat.le_refl _) d_Chip_number_58 (by first | (exact absurd hge (by first | assumption | exact Int32.not_le.mpr (by assumption))) | (refine ⟨rfl, ?_⟩; rw [hr]; unfold chNum; first | rfl | (simp [hc1, Int32.not_lt.mpr hc1]; done) | simp_all))
    · skip
      refine tt_iload_n d_Chip_number_13 rfl 1 rfl ?_
      refine tt_bipush (v := 8) d_Chip_number_14 (by decide) ?_
      refine tt_ishl d_Chip_number_16 ?_
      refine tt_iload d_Chip_number_17 0 rfl ?_
      refine tt_if_lt (t := 46) d_Chip_number_19 (by decide) (fun hc2 => ?_) (fun hc2 => ?_)
      · skip
        refine tt_sipush (v := 255) d_Chip_number_46 (by decide) ?_
        refine tt_ior d_Chip_number_49 ?_
        refine tt_istore_n (lv' := [(3, .int (((s <<< (8 &&& 31)) ||| 255))), (4, .int k), (0, .ref c), (1, .int ((nI q))), (2, .int ((nI n')))]) d_Chip_number_50 rfl (by decide) rfl ?_
        refine tt_iinc (v := (k + 1)) (lv' := [(4, .int ((k + 1))), (3, .int (((s <<< (8 &&& 31)) ||| 255))), (0, .ref c), (1, .int ((nI q))), (2, .int ((nI n')))]) d_Chip_number_51 1 rfl rfl (by decide) rfl ?_
        refine tt_goto (t := 5) d_Chip_number_54 (by decide) ?_
        refine tt_sub (lv' := [(4, .int ((k + 1))), (3, .int (((s <<< (8 &&& 31)) ||| 255))), (0, .ref c), (1, .int ((nI q))), (2, .int ((nI n')))]) [0, 1, 2, 3, 4] rfl ?_
        exact absurd hge (by first | assumption | exact Int32.not_le.mpr (by assumption))
      · skip
        refine tt_iload d_Chip_number_22 0 rfl ?_
        refine tt_aload_n d_Chip_number_24 rfl 2 rfl ?_
        refine tt_get F_Chip_27 d_Chip_number_25 m_c f_c rfl ?_
        refine tt_alen (v := nI (ca)) 1 d_Chip_number_28 rfl m_a f_a rfl ?_
        refine tt_icmp_ge (t := 46) d_Chip_number_29 (by decide) (fun hc3 => ?_) (fun hc3 => ?_)
        · skip
          refine tt_sipush (v := 255) d_Chip_number_46 (by decide) ?_
          refine tt_ior d_Chip_number_49 ?_
          refine tt_istore_n (lv' := [(3, .int (((s <<< (8 &&& 31)) ||| 255))), (4, .int k), (0, .ref c), (1, .int ((nI q))), (2, .int ((nI n')))]) d_Chip_number_50 rfl (by decide) rfl ?_
          refine tt_iinc (v := (k + 1)) (lv' := [(4, .int ((k + 1))), (3, .int (((s <<< (8 &&& 31)) ||| 255))), (0, .ref c), (1, .int ((nI q))), (2, .int ((nI n')))]) d_Chip_number_51 1 rfl rfl (by decide) rfl ?_
          refine tt_goto (t := 5) d_Chip_number_54 (by decide) ?_
          refine tt_sub (lv' := [(4, .int ((k + 1))), (3, .int (((s <<< (8 &&& 31)) ||| 255))), (0, .ref c), (1, .int ((nI q))), (2, .int ((nI n')))]) [0, 1, 2, 3, 4] rfl ?_
          exact absurd hge (by first | assumption | exact Int32.not_le.mpr (by assumption))
        · skip
          refine tt_aload_n d_Chip_number_32 rfl 2 rfl ?_
          refine tt_get F_Chip_27 d_Chip_number_33 m_c f_c rfl ?_
          refine tt_iload d_Chip_number_36 0 rfl ?_
          refine tt_bald 1 d_Chip_number_38 rfl m_a f_a (absurd hge (by assumption)) ?_
          refine tt_sipush (v := 255) d_Chip_number_39 (by decide) ?_
          refine tt_iand d_Chip_number_42 ?_
          refine tt_goto (t := 49) d_Chip_number_43 (by decide) ?_
          refine tt_ior d_Chip_number_49 ?_
          refine tt_istore_n (lv' := [(3, .int (((s <<< (8 &&& 31)) ||| ((f (k).toNatClampNeg) &&& 255)))), (4, .int k), (0, .ref c), (1, .int ((nI q))), (2, .int ((nI n')))]) d_Chip_number_50 rfl (by decide) rfl ?_
          refine tt_iinc (v := (k + 1)) (lv' := [(4, .int ((k + 1))), (3, .int (((s <<< (8 &&& 31)) ||| ((f (k).toNatClampNeg) &&& 255)))), (0, .ref c), (1, .int ((nI q))), (2, .int ((nI n')))]) d_Chip_number_51 1 rfl rfl (by decide) rfl ?_
          refine tt_goto (t := 5) d_Chip_number_54 (by decide) ?_
          refine tt_sub (lv' := [(4, .int ((k + 1))), (3, .int (((s <<< (8 &&& 31)) ||| ((f (k).toNatClampNeg) &&& 255)))), (0, .ref c), (1, .int ((nI q))), (2, .int ((nI n')))]) [0, 1, 2, 3, 4] rfl ?_
          exact absurd hge (by first | assumption | exact Int32.not_le.mpr (by assumption))
  | succ t ih =>
    intro k' k s res hk hs hr
    have hlt : ¬ ((nI q) + (nI n')) ≤ k := by rw [hk]; first | exact nI_ge (b := q + n') (by omega) (by omega) | (rw [nI_add]; exact nI_ge (by omega) (by omega))
    refine tt_iload d_Chip_number_5 0 rfl ?_
    refine tt_iload_n d_Chip_number_7 rfl 3 rfl ?_
    refine tt_iload_n d_Chip_number_8 rfl 4 rfl ?_
    refine tt_iadd d_Chip_number_9 ?_
    refine tt_icmp_ge (t := 57) d_Chip_number_10 (by decide) (fun hc1 => ?_) (fun hc1 => ?_)
    · skip
      refine tt_iload_n d_Chip_number_57 rfl 1 rfl ?_
      exact tt_ret rfl (by first | rfl | decide | exact nz_ite _) (Nat.le_refl _) (Nat.le_refl _) d_Chip_number_58 (by first | (exact absurd (by assumption) hlt) | (refine ⟨rfl, ?_⟩; rw [hr]; unfold chNum; first | rfl | (simp [hc1, Int32.not_lt.mpr hc1]; done) | simp_all))
    · skip
      refine tt_iload_n d_Chip_number_13 rfl 1 rfl ?_
      refine tt_bipush (v := 8) d_Chip_number_14 (by decide) ?_
      refine tt_ishl d_Chip_number_16 ?_
      refine tt_iload d_Chip_number_17 0 rfl ?_
      refine tt_if_lt (t := 46) d_Chip_number_19 (by decide) (fun hc2 => ?_) (fun hc2 => ?_)
      · skip
        refine tt_sipush (v := 255) d_Chip_number_46 (by decide) ?_
        refine tt_ior d_Chip_number_49 ?_
        refine tt_istore_n (lv' := [(3, .int (((s <<< (8 &&& 31)) ||| 255))), (4, .int k), (0, .ref c), (1, .int ((nI q))), (2, .int ((nI n')))]) d_Chip_number_50 rfl (by decide) rfl ?_
        refine tt_iinc (v := (k + 1)) (lv' := [(4, .int ((k + 1))), (3, .int (((s <<< (8 &&& 31)) ||| 255))), (0, .ref c), (1, .int ((nI q))), (2, .int ((nI n')))]) d_Chip_number_51 1 rfl rfl (by decide) rfl ?_
        refine tt_goto (t := 5) d_Chip_number_54 (by decide) ?_
        refine tt_sub (lv' := [(4, .int ((k + 1))), (3, .int (((s <<< (8 &&& 31)) ||| 255))), (0, .ref c), (1, .int ((nI q))), (2, .int ((nI n')))]) [0, 1, 2, 3, 4] rfl ?_
        exact ih (k' + 1) (k + 1) (((s <<< (8 &&& 31)) ||| 255)) res (by rw [hk]; exact nI_1 k') (by omega) (by rw [hr, chNum]; first | rfl | (simp [hc1, Int32.not_le.mp hc1, hc2, Int32.not_le.mpr hc2]; done) | simp_all)
      · skip
        refine tt_iload d_Chip_number_22 0 rfl ?_
        refine tt_aload_n d_Chip_number_24 rfl 2 rfl ?_
        refine tt_get F_Chip_27 d_Chip_number_25 m_c f_c rfl ?_
        refine tt_alen (v := nI (ca)) 1 d_Chip_number_28 rfl m_a f_a rfl ?_
        refine tt_icmp_ge (t := 46) d_Chip_number_29 (by decide) (fun hc3 => ?_) (fun hc3 => ?_)
        · skip
          refine tt_sipush (v := 255) d_Chip_number_46 (by decide) ?_
          refine tt_ior d_Chip_number_49 ?_
          refine tt_istore_n (lv' := [(3, .int (((s <<< (8 &&& 31)) ||| 255))), (4, .int k), (0, .ref c), (1, .int ((nI q))), (2, .int ((nI n')))]) d_Chip_number_50 rfl (by decide) rfl ?_
          refine tt_iinc (v := (k + 1)) (lv' := [(4, .int ((k + 1))), (3, .int (((s <<< (8 &&& 31)) ||| 255))), (0, .ref c), (1, .int ((nI q))), (2, .int ((nI n')))]) d_Chip_number_51 1 rfl rfl (by decide) rfl ?_
          refine tt_goto (t := 5) d_Chip_number_54 (by decide) ?_
          refine tt_sub (lv' := [(4, .int ((k + 1))), (3, .int (((s <<< (8 &&& 31)) ||| 255))), (0, .ref c), (1, .int ((nI q))), (2, .int ((nI n')))]) [0, 1, 2, 3, 4] rfl ?_
          exact ih (k' + 1) (k + 1) (((s <<< (8 &&& 31)) ||| 255)) res (by rw [hk]; exact nI_1 k') (by omega) (by rw [hr, chNum]; first | rfl | (simp [hc1, Int32.not_le.mp hc1, hc2, Int32.not_lt.mp hc2, hc3, Int32.not_lt.mpr hc3]; done) | simp_all)
        · skip
          refine tt_aload_n d_Chip_number_32 rfl 2 rfl ?_
          refine tt_get F_Chip_27 d_Chip_number_33 m_c f_c rfl ?_
          refine tt_iload d_Chip_number_36 0 rfl ?_
          refine tt_bald 1 d_Chip_number_38 rfl m_a f_a (vi_of (by assumption) (by assumption) hca) ?_
          refine tt_sipush (v := 255) d_Chip_number_39 (by decide) ?_
          refine tt_iand d_Chip_number_42 ?_
          refine tt_goto (t := 49) d_Chip_number_43 (by decide) ?_
          refine tt_ior d_Chip_number_49 ?_
          refine tt_istore_n (lv' := [(3, .int (((s <<< (8 &&& 31)) ||| ((f (k).toNatClampNeg) &&& 255)))), (4, .int k), (0, .ref c), (1, .int ((nI q))), (2, .int ((nI n')))]) d_Chip_number_50 rfl (by decide) rfl ?_
          refine tt_iinc (v := (k + 1)) (lv' := [(4, .int ((k + 1))), (3, .int (((s <<< (8 &&& 31)) ||| ((f (k).toNatClampNeg) &&& 255)))), (0, .ref c), (1, .int ((nI q))), (2, .int ((nI n')))]) d_Chip_number_51 1 rfl rfl (by decide) rfl ?_
          refine tt_goto (t := 5) d_Chip_number_54 (by decide) ?_
          refine tt_sub (lv' := [(4, .int ((k + 1))), (3, .int (((s <<< (8 &&& 31)) ||| ((f (k).toNatClampNeg) &&& 255)))), (0, .ref c), (1, .int ((nI q))), (2, .int ((nI n')))]) [0, 1, 2, 3, 4] rfl ?_
          exact ih (k' + 1) (k + 1) (((s <<< (8 &&& 31)) ||| ((f (k).toNatClampNeg) &&& 255))) res (by rw [hk]; exact nI_1 k') (by omega) (by rw [hr, chNum]; first | rfl | (simp [hc1, Int32.not_le.mp hc1, hc2, Int32.not_lt.mp hc2, hc3, Int32.not_le.mp hc3]; done) | simp_all)
set_option maxHeartbeats 4000000 in
set_option maxRecDepth 100000 in
/-- Chip.number -/
theorem c_Chip_number {l : Launch} {D : va_G} {kd : Nat → ClassId} {z : Nat} {S : tS} {c a b ca cb q n' : Nat} {pl bl ov : Int32} {f g : Nat → Int32} (m_c : c ∈ S.1) (f_c : S.2 c = .inr (1, [.ref a, .ref b, .int pl, .int bl, .int ov])) (m_a : a ∈ S.1) (f_a : S.2 a = .inl (kd 1, ca, .inl f)) (m_b : b ∈ S.1) (f_b : S.2 b = .inl (kd 0, cb, .inl g))  (hca : ca < 2 ^ 31) (hq : q + n' < 2 ^ 31) : tM l y_Chip_number b_Chip_number 5 (some FieldType.int) [] {} D (tyl kd) z [.ref c, .int ((nI q)), .int ((nI n'))] S (fun o9 T9 => T9 = S ∧ o9 = .inl (some (.int (chNum f ca n' (nI q) 0)))) := by
  refine tM.of (own := "FlashVault$Chip") (ini := false) (by decide) rfl (fun h => by first | rfl | cases h) (Nat.le_of_ble_eq_true rfl) (lv := [(0, .ref c), (1, .int ((nI q))), (2, .int ((nI n')))]) rfl ?_
  refine tt_iconst (v := 0) d_Chip_number_0 (by decide) ?_
  refine tt_istore_n (lv' := [(3, .int 0), (0, .ref c), (1, .int ((nI q))), (2, .int ((nI n')))]) d_Chip_number_1 rfl (by decide) rfl ?_
  refine tt_iload_n d_Chip_number_2 rfl 2 rfl ?_
  refine tt_istore (lv' := [(4, .int ((nI q))), (3, .int 0), (0, .ref c), (1, .int ((nI q))), (2, .int ((nI n')))]) d_Chip_number_3 (by decide) rfl ?_
  exact lp_Chip_number m_c f_c m_a f_a m_b f_b hca hq n' q (nI q) 0 _ rfl rfl rfl
set_option maxHeartbeats 4000000 in
set_option maxRecDepth 100000 in
/-- Chip.copyOut -/
theorem c_Chip_copyOut {l : Launch} {D : va_G} {kd : Nat → ClassId} {z : Nat} {S : tS} {c a b ca cb o co : Nat} {pl bl ov i j n : Int32} {f g u : Nat → Int32} (m_c : c ∈ S.1) (f_c : S.2 c = .inr (1, [.ref a, .ref b, .int pl, .int bl, .int ov])) (m_a : a ∈ S.1) (f_a : S.2 a = .inl (kd 1, ca, .inl f)) (m_b : b ∈ S.1) (f_b : S.2 b = .inl (kd 0, cb, .inl g)) (m_o : o ∈ S.1) (f_o : S.2 o = .inl (kd 1, co, .inl u)) (n_a_b : a ≠ b) (n_a_o : a ≠ o) (n_b_o : b ≠ o) (hca : ca < 2 ^ 31) (hco : co < 2 ^ 31) (hfit : sb_Fit f) : tM l y_Chip_copyOut b_Chip_copyOut 5 none [] { frames := 2, locals := 84 } D (tyl kd) z [.ref c, .int i, .ref o, .int j, .int n] S (fun o9 T9 => T9 = (if ¬ n ≤ 0 ∧ ¬ i < 0 ∧ ¬ j < 0 ∧ ¬ (nI ca - n) < i ∧ ¬ (nI co - n) < j then tset S o (.inl (kd 1, co, .inl (va_cpy f u i.toNatClampNeg j.toNatClampNeg n.toNatClampNeg))) else S) ∧ o9 = .inl none) := by
  refine tM.of (own := "FlashVault$Chip") (ini := false) (by decide) rfl (fun h => by first | rfl | cases h) (Nat.le_of_ble_eq_true rfl) (lv := [(0, .ref c), (1, .int i), (2, .ref o), (3, .int j), (4, .int n)]) rfl ?_
  refine tt_aload_n d_Chip_copyOut_0 rfl 0 rfl ?_
  refine tt_get F_Chip_27 d_Chip_copyOut_1 m_c f_c rfl ?_
  refine tt_iload_n d_Chip_copyOut_4 rfl 1 rfl ?_
  refine tt_aload_n d_Chip_copyOut_5 rfl 2 rfl ?_
  refine tt_iload_n d_Chip_copyOut_6 rfl 3 rfl ?_
  refine tt_iload d_Chip_copyOut_7 4 rfl ?_
  refine tt_callS (bytes := b_Row_copy) (nL' := 5) (ret' := none) (hh' := []) (As := [.ref a, .int i, .ref o, .int j, .int n]) w_4_182 w_4_53 w_1_2 w_4_54 ⟨by decide, by decide, rfl⟩ (tM.com (c_Row_copy m_a f_a m_o f_o hca hco hfit)) ⟨Nat.le_of_ble_eq_true rfl, Nat.le_of_ble_eq_true rfl, Nat.le_of_ble_eq_true rfl, Nat.le_of_ble_eq_true rfl⟩ (Nat.le_of_ble_eq_true rfl) d_Chip_copyOut_9 rfl (fun v9 S1 hq => ?_) (fun k9 S9 hq => by cases hq.2)
  obtain ⟨hS1, ho9⟩ := hq
  cases ho9
  exact tt_vret rfl (Nat.le_of_ble_eq_true rfl) (Nat.le_of_ble_eq_true rfl) d_Chip_copyOut_12 (by refine ⟨?_, ?_⟩ <;> first | rfl | (simp [hS1, vz0, vz1, pk_vb]; done) | (subst_vars; simp [vz0, vz1, pk_vb]; done) | (subst_vars; rfl))
