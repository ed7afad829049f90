/-! ===== leaves: class Sight; written by wip/gen/sight.py ===== -/
def siLeast (f : Nat → Int32) : Nat → Int32 → Int32
  | 0, _ => -1
  | t + 1, k => if f k.toNatClampNeg = 0 then k else siLeast f t (k + 1)
def siCount (f : Nat → Int32) : Nat → Int32 → Int32 → Int32
  | 0, _, n => n
  | t + 1, k, n => siCount f t (k + 1) (if f k.toNatClampNeg = 0 then n else n + 1)
def siBefore (f g : Nat → Int32) (x but : Int32) : Nat → Int32 → Int32
  | 0, _ => 0
  | t + 1, k => if ¬ f k.toNatClampNeg = 0 ∧ ¬ k = but ∧ ¬ x ≤ g k.toNatClampNeg then 1 else siBefore f g x but t (k + 1)
def siWithin (f g : Nat → Int32) (x y but : Int32) : Nat → Int32 → Int32
  | 0, _ => 0
  | t + 1, k => if ¬ f k.toNatClampNeg = 0 ∧ ¬ k = but ∧ ¬ g k.toNatClampNeg < x ∧ ¬ y ≤ g k.toNatClampNeg then 1 else siWithin f g x y but t (k + 1)
abbrev b_Sight_leastClosed : ByteArray := prog_9_method_2_code
def y_Sight_leastClosed : MethodName := ⟨"FlashVault$Sight", "leastClosed", "()I"⟩
theorem d_Sight_leastClosed_2 : decode b_Sight_leastClosed 2 = .ok (.iload_n 1, 1) := by decide +kernel
theorem d_Sight_leastClosed_3 : decode b_Sight_leastClosed 3 = .ok (.bipush 8, 2) := by decide +kernel
theorem d_Sight_leastClosed_5 : decode b_Sight_leastClosed 5 = .ok (.if_icmp .ge 20, 3) := by decide +kernel
theorem d_Sight_leastClosed_25 : decode b_Sight_leastClosed 25 = .ok (.iconst (-1), 1) := by decide +kernel
theorem d_Sight_leastClosed_26 : decode b_Sight_leastClosed 26 = .ok (.ireturn, 1) := by decide +kernel
theorem d_Sight_leastClosed_8 : decode b_Sight_leastClosed 8 = .ok (.aload_n 0, 1) := by decide +kernel
theorem d_Sight_leastClosed_9 : decode b_Sight_leastClosed 9 = .ok (.getfield 9, 3) := by decide +kernel
theorem d_Sight_leastClosed_12 : decode b_Sight_leastClosed 12 = .ok (.iload_n 1, 1) := by decide +kernel
theorem d_Sight_leastClosed_13 : decode b_Sight_leastClosed 13 = .ok (.baload, 1) := by decide +kernel
theorem d_Sight_leastClosed_14 : decode b_Sight_leastClosed 14 = .ok (.ifCond .ne 5, 3) := by decide +kernel
theorem d_Sight_leastClosed_19 : decode b_Sight_leastClosed 19 = .ok (.iinc 1 1, 3) := by decide +kernel
theorem d_Sight_leastClosed_22 : decode b_Sight_leastClosed 22 = .ok (.goto (-20), 3) := by decide +kernel
theorem d_Sight_leastClosed_17 : decode b_Sight_leastClosed 17 = .ok (.iload_n 1, 1) := by decide +kernel
theorem d_Sight_leastClosed_18 : decode b_Sight_leastClosed 18 = .ok (.ireturn, 1) := by decide +kernel
theorem d_Sight_leastClosed_0 : decode b_Sight_leastClosed 0 = .ok (.iconst 0, 1) := by decide +kernel
theorem d_Sight_leastClosed_1 : decode b_Sight_leastClosed 1 = .ok (.istore_n 1, 1) := by decide +kernel
abbrev b_Sight_openCount : ByteArray := prog_9_method_3_code
def y_Sight_openCount : MethodName := ⟨"FlashVault$Sight", "openCount", "()I"⟩
theorem d_Sight_openCount_4 : decode b_Sight_openCount 4 = .ok (.iload_n 2, 1) := by decide +kernel
theorem d_Sight_openCount_5 : decode b_Sight_openCount 5 = .ok (.bipush 8, 2) := by decide +kernel
theorem d_Sight_openCount_7 : decode b_Sight_openCount 7 = .ok (.if_icmp .ge 21, 3) := by decide +kernel
theorem d_Sight_openCount_28 : decode b_Sight_openCount 28 = .ok (.iload_n 1, 1) := by decide +kernel
theorem d_Sight_openCount_29 : decode b_Sight_openCount 29 = .ok (.ireturn, 1) := by decide +kernel
theorem d_Sight_openCount_10 : decode b_Sight_openCount 10 = .ok (.aload_n 0, 1) := by decide +kernel
theorem d_Sight_openCount_11 : decode b_Sight_openCount 11 = .ok (.getfield 9, 3) := by decide +kernel
theorem d_Sight_openCount_14 : decode b_Sight_openCount 14 = .ok (.iload_n 2, 1) := by decide +kernel
theorem d_Sight_openCount_15 : decode b_Sight_openCount 15 = .ok (.baload, 1) := by decide +kernel
theorem d_Sight_openCount_16 : decode b_Sight_openCount 16 = .ok (.ifCond .eq 6, 3) := by decide +kernel
theorem d_Sight_openCount_22 : decode b_Sight_openCount 22 = .ok (.iinc 2 1, 3) := by decide +kernel
theorem d_Sight_openCount_25 : decode b_Sight_openCount 25 = .ok (.goto (-21), 3) := by decide +kernel
theorem d_Sight_openCount_19 : decode b_Sight_openCount 19 = .ok (.iinc 1 1, 3) := by decide +kernel
theorem d_Sight_openCount_0 : decode b_Sight_openCount 0 = .ok (.iconst 0, 1) := by decide +kernel
theorem d_Sight_openCount_1 : decode b_Sight_openCount 1 = .ok (.istore_n 1, 1) := by decide +kernel
theorem d_Sight_openCount_2 : decode b_Sight_openCount 2 = .ok (.iconst 0, 1) := by decide +kernel
theorem d_Sight_openCount_3 : decode b_Sight_openCount 3 = .ok (.istore_n 2, 1) := by decide +kernel
abbrev b_Sight_anyBefore : ByteArray := prog_9_method_10_code
def y_Sight_anyBefore : MethodName := ⟨"FlashVault$Sight", "anyBefore", "(II)Z"⟩
theorem d_Sight_anyBefore_2 : decode b_Sight_anyBefore 2 = .ok (.iload_n 3, 1) := by decide +kernel
theorem d_Sight_anyBefore_3 : decode b_Sight_anyBefore 3 = .ok (.bipush 8, 2) := by decide +kernel
theorem d_Sight_anyBefore_5 : decode b_Sight_anyBefore 5 = .ok (.if_icmp .ge 35, 3) := by decide +kernel
theorem d_Sight_anyBefore_40 : decode b_Sight_anyBefore 40 = .ok (.iconst 0, 1) := by decide +kernel
theorem d_Sight_anyBefore_41 : decode b_Sight_anyBefore 41 = .ok (.ireturn, 1) := by decide +kernel
theorem d_Sight_anyBefore_8 : decode b_Sight_anyBefore 8 = .ok (.aload_n 0, 1) := by decide +kernel
theorem d_Sight_anyBefore_9 : decode b_Sight_anyBefore 9 = .ok (.getfield 9, 3) := by decide +kernel
theorem d_Sight_anyBefore_12 : decode b_Sight_anyBefore 12 = .ok (.iload_n 3, 1) := by decide +kernel
theorem d_Sight_anyBefore_13 : decode b_Sight_anyBefore 13 = .ok (.baload, 1) := by decide +kernel
theorem d_Sight_anyBefore_14 : decode b_Sight_anyBefore 14 = .ok (.ifCond .eq 20, 3) := by decide +kernel
theorem d_Sight_anyBefore_34 : decode b_Sight_anyBefore 34 = .ok (.iinc 3 1, 3) := by decide +kernel
theorem d_Sight_anyBefore_37 : decode b_Sight_anyBefore 37 = .ok (.goto (-35), 3) := by decide +kernel
theorem d_Sight_anyBefore_17 : decode b_Sight_anyBefore 17 = .ok (.iload_n 3, 1) := by decide +kernel
theorem d_Sight_anyBefore_18 : decode b_Sight_anyBefore 18 = .ok (.iload_n 2, 1) := by decide +kernel
theorem d_Sight_anyBefore_19 : decode b_Sight_anyBefore 19 = .ok (.if_icmp .eq 15, 3) := by decide +kernel
theorem d_Sight_anyBefore_22 : decode b_Sight_anyBefore 22 = .ok (.aload_n 0, 1) := by decide +kernel
theorem d_Sight_anyBefore_23 : decode b_Sight_anyBefore 23 = .ok (.getfield 15, 3) := by decide +kernel
theorem d_Sight_anyBefore_26 : decode b_Sight_anyBefore 26 = .ok (.iload_n 3, 1) := by decide +kernel
theorem d_Sight_anyBefore_27 : decode b_Sight_anyBefore 27 = .ok (.iaload, 1) := by decide +kernel
theorem d_Sight_anyBefore_28 : decode b_Sight_anyBefore 28 = .ok (.iload_n 1, 1) := by decide +kernel
theorem d_Sight_anyBefore_29 : decode b_Sight_anyBefore 29 = .ok (.if_icmp .ge 5, 3) := by decide +kernel
theorem d_Sight_anyBefore_32 : decode b_Sight_anyBefore 32 = .ok (.iconst 1, 1) := by decide +kernel
theorem d_Sight_anyBefore_33 : decode b_Sight_anyBefore 33 = .ok (.ireturn, 1) := by decide +kernel
theorem d_Sight_anyBefore_0 : decode b_Sight_anyBefore 0 = .ok (.iconst 0, 1) := by decide +kernel
theorem d_Sight_anyBefore_1 : decode b_Sight_anyBefore 1 = .ok (.istore_n 3, 1) := by decide +kernel
abbrev b_Sight_anyWithin : ByteArray := prog_9_method_11_code
def y_Sight_anyWithin : MethodName := ⟨"FlashVault$Sight", "anyWithin", "(III)Z"⟩
theorem d_Sight_anyWithin_3 : decode b_Sight_anyWithin 3 = .ok (.iload 4, 2) := by decide +kernel
theorem d_Sight_anyWithin_5 : decode b_Sight_anyWithin 5 = .ok (.bipush 8, 2) := by decide +kernel
theorem d_Sight_anyWithin_7 : decode b_Sight_anyWithin 7 = .ok (.if_icmp .ge 49, 3) := by decide +kernel
theorem d_Sight_anyWithin_56 : decode b_Sight_anyWithin 56 = .ok (.iconst 0, 1) := by decide +kernel
theorem d_Sight_anyWithin_57 : decode b_Sight_anyWithin 57 = .ok (.ireturn, 1) := by decide +kernel
theorem d_Sight_anyWithin_10 : decode b_Sight_anyWithin 10 = .ok (.aload_n 0, 1) := by decide +kernel
theorem d_Sight_anyWithin_11 : decode b_Sight_anyWithin 11 = .ok (.getfield 9, 3) := by decide +kernel
theorem d_Sight_anyWithin_14 : decode b_Sight_anyWithin 14 = .ok (.iload 4, 2) := by decide +kernel
theorem d_Sight_anyWithin_16 : decode b_Sight_anyWithin 16 = .ok (.baload, 1) := by decide +kernel
theorem d_Sight_anyWithin_17 : decode b_Sight_anyWithin 17 = .ok (.ifCond .eq 33, 3) := by decide +kernel
theorem d_Sight_anyWithin_50 : decode b_Sight_anyWithin 50 = .ok (.iinc 4 1, 3) := by decide +kernel
theorem d_Sight_anyWithin_53 : decode b_Sight_anyWithin 53 = .ok (.goto (-50), 3) := by decide +kernel
theorem d_Sight_anyWithin_20 : decode b_Sight_anyWithin 20 = .ok (.iload 4, 2) := by decide +kernel
theorem d_Sight_anyWithin_22 : decode b_Sight_anyWithin 22 = .ok (.iload_n 3, 1) := by decide +kernel
theorem d_Sight_anyWithin_23 : decode b_Sight_anyWithin 23 = .ok (.if_icmp .eq 27, 3) := by decide +kernel
theorem d_Sight_anyWithin_26 : decode b_Sight_anyWithin 26 = .ok (.aload_n 0, 1) := by decide +kernel
theorem d_Sight_anyWithin_27 : decode b_Sight_anyWithin 27 = .ok (.getfield 15, 3) := by decide +kernel
theorem d_Sight_anyWithin_30 : decode b_Sight_anyWithin 30 = .ok (.iload 4, 2) := by decide +kernel
theorem d_Sight_anyWithin_32 : decode b_Sight_anyWithin 32 = .ok (.iaload, 1) := by decide +kernel
theorem d_Sight_anyWithin_33 : decode b_Sight_anyWithin 33 = .ok (.iload_n 1, 1) := by decide +kernel
theorem d_Sight_anyWithin_34 : decode b_Sight_anyWithin 34 = .ok (.if_icmp .lt 16, 3) := by decide +kernel
theorem d_Sight_anyWithin_37 : decode b_Sight_anyWithin 37 = .ok (.aload_n 0, 1) := by decide +kernel
theorem d_Sight_anyWithin_38 : decode b_Sight_anyWithin 38 = .ok (.getfield 15, 3) := by decide +kernel
theorem d_Sight_anyWithin_41 : decode b_Sight_anyWithin 41 = .ok (.iload 4, 2) := by decide +kernel
theorem d_Sight_anyWithin_43 : decode b_Sight_anyWithin 43 = .ok (.iaload, 1) := by decide +kernel
theorem d_Sight_anyWithin_44 : decode b_Sight_anyWithin 44 = .ok (.iload_n 2, 1) := by decide +kernel
theorem d_Sight_anyWithin_45 : decode b_Sight_anyWithin 45 = .ok (.if_icmp .ge 5, 3) := by decide +kernel
theorem d_Sight_anyWithin_48 : decode b_Sight_anyWithin 48 = .ok (.iconst 1, 1) := by decide +kernel
theorem d_Sight_anyWithin_49 : decode b_Sight_anyWithin 49 = .ok (.ireturn, 1) := by decide +kernel
theorem d_Sight_anyWithin_0 : decode b_Sight_anyWithin 0 = .ok (.iconst 0, 1) := by decide +kernel
theorem d_Sight_anyWithin_1 : decode b_Sight_anyWithin 1 = .ok (.istore 4, 2) := by decide +kernel
set_option maxHeartbeats 4000000 in
set_option maxRecDepth 100000 in
/-- Sight.leastClosed: its loop -/
theorem lp_Sight_leastClosed {l : Launch} {D : va_G} {kd : Nat → ClassId} {z : Nat} {S : tS} {s a b q : Nat} {f g : Nat → Int32} (m_s : s ∈ S.1) (f_s : S.2 s = .inr (7, [.ref a, .ref b, .ref q])) (m_a : a ∈ S.1) (f_a : S.2 a = .inl (kd 2, 8, .inl f)) (m_b : b ∈ S.1) (f_b : S.2 b = .inl (kd 0, 8, .inl g))  : ∀ (t k' : Nat) (k  : Int32) (res : Int32), k = nI k' → k' + t = 8 → res = siLeast f t k → tP b_Sight_leastClosed "FlashVault$Sight" 2 (some FieldType.int) false [] {} D (tyl kd) z l (fun o9 T9 => T9 = S ∧ o9 = .inl (some (.int res))) 0 0 2 [(1, .int k), (0, .ref s)] [] S := by
  intro t
  induction t with
  | zero =>
    intro k' k  res hk hs hr
    have hge : 8 ≤ k := by rw [hk, show k' = 8 by omega]; first | exact Int32.le_refl _ | decide | (rw [nI_add]; exact Int32.le_refl _)
    refine tt_iload_n d_Sight_leastClosed_2 rfl 0 rfl ?_
    refine tt_bipush (v := 8) d_Sight_leastClosed_3 (by decide) ?_
    refine tt_icmp_ge (t := 25) d_Sight_leastClosed_5 (by decide) (fun hc1 => ?_) (fun hc1 => ?_)
    · skip
      refine tt_iconst (v := -1) d_Sight_leastClosed_25 (by decide) ?_
      exact tt_ret rfl (by first | rfl | decide | exact nz_ite _) (Nat.le_refl _) (Nat.le_refl _) d_Sight_leastClosed_26 (by first | (exact absurd hge (by first | assumption | exact Int32.not_le.mpr (by assumption))) | (refine ⟨rfl, ?_⟩; rw [hr]; unfold siLeast; first | rfl | (simp [hc1, Int32.not_lt.mpr hc1]; done) | simp_all))
    · skip
      refine tt_aload_n d_Sight_leastClosed_8 rfl 1 rfl ?_
      refine tt_get F_Sight_9 d_Sight_leastClosed_9 m_s f_s rfl ?_
      refine tt_iload_n d_Sight_leastClosed_12 rfl 0 rfl ?_
      refine tt_zald 2 d_Sight_leastClosed_13 rfl m_a f_a (absurd hge (by assumption)) ?_
      refine tt_if_ne (t := 19) d_Sight_leastClosed_14 (by decide) (fun hc2 => ?_) (fun hc2 => ?_)
      · skip
        refine tt_iinc (v := (k + 1)) (lv' := [(1, .int ((k + 1))), (0, .ref s)]) d_Sight_leastClosed_19 0 rfl rfl (by decide) rfl ?_
        refine tt_goto (t := 2) d_Sight_leastClosed_22 (by decide) ?_
        refine tt_sub (lv' := [(1, .int ((k + 1))), (0, .ref s)]) [0, 1] rfl ?_
        exact absurd hge (by first | assumption | exact Int32.not_le.mpr (by assumption))
      · skip
        refine tt_iload_n d_Sight_leastClosed_17 rfl 0 rfl ?_
        exact tt_ret rfl (by first | rfl | decide | exact nz_ite _) (Nat.le_refl _) (Nat.le_refl _) d_Sight_leastClosed_18 (by first | (exact absurd hge (by first | assumption | exact Int32.not_le.mpr (by assumption))) | (refine ⟨rfl, ?_⟩; rw [hr]; unfold siLeast; first | rfl | (simp [hc1, Int32.not_le.mp hc1, hc2]; done) | simp_all))
  | succ t ih =>
    intro k' k  res hk hs hr
    have hlt : ¬ 8 ≤ k := by rw [hk]; first | exact nI_ge (b := 8) (by omega) (by omega) | (rw [nI_add]; exact nI_ge (by omega) (by omega))
    refine tt_iload_n d_Sight_leastClosed_2 rfl 0 rfl ?_
    refine tt_bipush (v := 8) d_Sight_leastClosed_3 (by decide) ?_
    refine tt_icmp_ge (t := 25) d_Sight_leastClosed_5 (by decide) (fun hc1 => ?_) (fun hc1 => ?_)
    · skip
      refine tt_iconst (v := -1) d_Sight_leastClosed_25 (by decide) ?_
      exact tt_ret rfl (by first | rfl | decide | exact nz_ite _) (Nat.le_refl _) (Nat.le_refl _) d_Sight_leastClosed_26 (by first | (exact absurd (by assumption) hlt) | (refine ⟨rfl, ?_⟩; rw [hr]; unfold siLeast; first | rfl | (simp [hc1, Int32.not_lt.mpr hc1]; done) | simp_all))
    · skip
      refine tt_aload_n d_Sight_leastClosed_8 rfl 1 rfl ?_
      refine tt_get F_Sight_9 d_Sight_leastClosed_9 m_s f_s rfl ?_
      refine tt_iload_n d_Sight_leastClosed_12 rfl 0 rfl ?_
      refine tt_zald 2 d_Sight_leastClosed_13 rfl m_a f_a (by rw [hk]; exact vp_in_nI (by omega) (by omega)) ?_
      refine tt_if_ne (t := 19) d_Sight_leastClosed_14 (by decide) (fun hc2 => ?_) (fun hc2 => ?_)
      · skip
        refine tt_iinc (v := (k + 1)) (lv' := [(1, .int ((k + 1))), (0, .ref s)]) d_Sight_leastClosed_19 0 rfl rfl (by decide) rfl ?_
        refine tt_goto (t := 2) d_Sight_leastClosed_22 (by decide) ?_
        refine tt_sub (lv' := [(1, .int ((k + 1))), (0, .ref s)]) [0, 1] rfl ?_
        exact ih (k' + 1) (k + 1)  res (by rw [hk]; exact nI_1 k') (by omega) (by rw [hr, siLeast]; first | rfl | (simp [hc1, Int32.not_le.mp hc1, hc2]; done) | simp_all)
      · skip
        refine tt_iload_n d_Sight_leastClosed_17 rfl 0 rfl ?_
        exact tt_ret rfl (by first | rfl | decide | exact nz_ite _) (Nat.le_refl _) (Nat.le_refl _) d_Sight_leastClosed_18 (by first | (exact absurd (by assumption) hlt) | (refine ⟨rfl, ?_⟩; rw [hr]; unfold siLeast; first | rfl | (simp [hc1, Int32.not_le.mp hc1, hc2]; done) | simp_all))
set_option maxHeartbeats 4000000 in
set_option maxRecDepth 100000 in
/-- Sight.leastClosed -/
theorem c_Sight_leastClosed {l : Launch} {D : va_G} {kd : Nat → ClassId} {z : Nat} {S : tS} {s a b q : Nat} {f g : Nat → Int32} (m_s : s ∈ S.1) (f_s : S.2 s = .inr (7, [.ref a, .ref b, .ref q])) (m_a : a ∈ S.1) (f_a : S.2 a = .inl (kd 2, 8, .inl f)) (m_b : b ∈ S.1) (f_b : S.2 b = .inl (kd 0, 8, .inl g))   : tM l y_Sight_leastClosed b_Sight_leastClosed 2 (some FieldType.int) [] {} D (tyl kd) z [.ref s] S (fun o9 T9 => T9 = S ∧ o9 = .inl (some (.int (siLeast f 8 0)))) := by
  refine tM.of (own := "FlashVault$Sight") (ini := false) (by decide) rfl (fun h => by first | rfl | cases h) (Nat.le_of_ble_eq_true rfl) (lv := [(0, .ref s)]) rfl ?_
  refine tt_iconst (v := 0) d_Sight_leastClosed_0 (by decide) ?_
  refine tt_istore_n (lv' := [(1, .int 0), (0, .ref s)]) d_Sight_leastClosed_1 rfl (by decide) rfl ?_
  exact lp_Sight_leastClosed m_s f_s m_a f_a m_b f_b 8 0 0  _ nI_0.symm (by omega) rfl
set_option maxHeartbeats 4000000 in
set_option maxRecDepth 100000 in
/-- Sight.openCount: its loop -/
theorem lp_Sight_openCount {l : Launch} {D : va_G} {kd : Nat → ClassId} {z : Nat} {S : tS} {s a b q : Nat} {f g : Nat → Int32} (m_s : s ∈ S.1) (f_s : S.2 s = .inr (7, [.ref a, .ref b, .ref q])) (m_a : a ∈ S.1) (f_a : S.2 a = .inl (kd 2, 8, .inl f)) (m_b : b ∈ S.1) (f_b : S.2 b = .inl (kd 0, 8, .inl g))  : ∀ (t k' : Nat) (k n : Int32) (res : Int32), k = nI k' → k' + t = 8 → res = siCount f t k n → tP b_Sight_openCount "FlashVault$Sight" 3 (some FieldType.int) false [] {} D (tyl kd) z l (fun o9 T9 => T9 = S ∧ o9 = .inl (some (.int res))) 0 0 4 [(2, .int k), (1, .int n), (0, .ref s)] [] S := by
  intro t
  induction t with
  | zero =>
    intro k' k n res hk hs hr
    have hge : 8 ≤ k := by rw [hk, show k' = 8 by omega]; first | exact Int32.le_refl _ | decide | (rw [nI_add]; exact Int32.le_refl _)
    refine tt_iload_n d_Sight_openCount_4 rfl 0 rfl ?_
    refine tt_bipush (v := 8) d_Sight_openCount_5 (by decide) ?_
    refine tt_icmp_ge (t := 28) d_Sight_openCount_7 (by decide) (fun hc1 => ?_) (fun hc1 => ?_)
    · skip
      refine tt_iload_n d_Sight_openCount_28 rfl 1 rfl ?_
      exact tt_ret rfl (by first | rfl | decide | exact nz_ite _) (Nat.le_refl _) (Nat.le_refl _) d_Sight_openCount_29 (by first | (exact absurd hge (by first | assumption | exact Int32.not_le.mpr (by assumption))) | (refine ⟨rfl, ?_⟩; rw [hr]; unfold siCount; first | rfl | (simp [hc1, Int32.not_lt.mpr hc1]; done) | simp_all))
    · skip
      refine tt_aload_n d_Sight_openCount_10 rfl 2 rfl ?_
      refine tt_get F_Sight_9 d_Sight_openCount_11 m_s f_s rfl ?_
      refine tt_iload_n d_Sight_openCount_14 rfl 0 rfl ?_
      refine tt_zald 2 d_Sight_openCount_15 rfl m_a f_a (absurd hge (by assumption)) ?_
      refine tt_if_eq (t := 22) d_Sight_openCount_16 (by decide) (fun hc2 => ?_) (fun hc2 => ?_)
      · skip
        refine tt_iinc (v := (k + 1)) (lv' := [(2, .int ((k + 1))), (1, .int n), (0, .ref s)]) d_Sight_openCount_22 0 rfl rfl (by decide) rfl ?_
        refine tt_goto (t := 4) d_Sight_openCount_25 (by decide) ?_
        refine tt_sub (lv' := [(2, .int ((k + 1))), (1, .int n), (0, .ref s)]) [0, 1, 2] rfl ?_
        exact absurd hge (by first | assumption | exact Int32.not_le.mpr (by assumption))
      · skip
        refine tt_iinc (v := (n + 1)) (lv' := [(1, .int ((n + 1))), (2, .int k), (0, .ref s)]) d_Sight_openCount_19 1 rfl rfl (by decide) rfl ?_
        refine tt_iinc (v := (k + 1)) (lv' := [(2, .int ((k + 1))), (1, .int ((n + 1))), (0, .ref s)]) d_Sight_openCount_22 1 rfl rfl (by decide) rfl ?_
        refine tt_goto (t := 4) d_Sight_openCount_25 (by decide) ?_
        refine tt_sub (lv' := [(2, .int ((k + 1))), (1, .int ((n + 1))), (0, .ref s)]) [0, 1, 2] rfl ?_
        exact absurd hge (by first | assumption | exact Int32.not_le.mpr (by assumption))
  | succ t ih =>
    intro k' k n res hk hs hr
    have hlt : ¬ 8 ≤ k := by rw [hk]; first | exact nI_ge (b := 8) (by omega) (by omega) | (rw [nI_add]; exact nI_ge (by omega) (by omega))
    refine tt_iload_n d_Sight_openCount_4 rfl 0 rfl ?_
    refine tt_bipush (v := 8) d_Sight_openCount_5 (by decide) ?_
    refine tt_icmp_ge (t := 28) d_Sight_openCount_7 (by decide) (fun hc1 => ?_) (fun hc1 => ?_)
    · skip
      refine tt_iload_n d_Sight_openCount_28 rfl 1 rfl ?_
      exact tt_ret rfl (by first | rfl | decide | exact nz_ite _) (Nat.le_refl _) (Nat.le_refl _) d_Sight_openCount_29 (by first | (exact absurd (by assumption) hlt) | (refine ⟨rfl, ?_⟩; rw [hr]; unfold siCount; first | rfl | (simp [hc1, Int32.not_lt.mpr hc1]; done) | simp_all))
    · skip
      refine tt_aload_n d_Sight_openCount_10 rfl 2 rfl ?_
      refine tt_get F_Sight_9 d_Sight_openCount_11 m_s f_s rfl ?_
      refine tt_iload_n d_Sight_openCount_14 rfl 0 rfl ?_
      refine tt_zald 2 d_Sight_openCount_15 rfl m_a f_a (by rw [hk]; exact vp_in_nI (by omega) (by omega)) ?_
      refine tt_if_eq (t := 22) d_Sight_openCount_16 (by decide) (fun hc2 => ?_) (fun hc2 => ?_)
      · skip
        refine tt_iinc (v := (k + 1)) (lv' := [(2, .int ((k + 1))), (1, .int n), (0, .ref s)]) d_Sight_openCount_22 0 rfl rfl (by decide) rfl ?_
        refine tt_goto (t := 4) d_Sight_openCount_25 (by decide) ?_
        refine tt_sub (lv' := [(2, .int ((k + 1))), (1, .int n), (0, .ref s)]) [0, 1, 2] rfl ?_
        exact ih (k' + 1) (k + 1) (n) res (by rw [hk]; exact nI_1 k') (by omega) (by rw [hr, siCount]; first | rfl | (simp [hc1, Int32.not_le.mp hc1, hc2]; done) | simp_all)
      · skip
        refine tt_iinc (v := (n + 1)) (lv' := [(1, .int ((n + 1))), (2, .int k), (0, .ref s)]) d_Sight_openCount_19 1 rfl rfl (by decide) rfl ?_
        refine tt_iinc (v := (k + 1)) (lv' := [(2, .int ((k + 1))), (1, .int ((n + 1))), (0, .ref s)]) d_Sight_openCount_22 1 rfl rfl (by decide) rfl ?_
        refine tt_goto (t := 4) d_Sight_openCount_25 (by decide) ?_
        refine tt_sub (lv' := [(2, .int ((k + 1))), (1, .int ((n + 1))), (0, .ref s)]) [0, 1, 2] rfl ?_
        exact ih (k' + 1) (k + 1) ((n + 1)) res (by rw [hk]; exact nI_1 k') (by omega) (by rw [hr, siCount]; first | rfl | (simp [hc1, Int32.not_le.mp hc1, hc2]; done) | simp_all)
set_option maxHeartbeats 4000000 in
set_option maxRecDepth 100000 in
/-- Sight.openCount -/
theorem c_Sight_openCount {l : Launch} {D : va_G} {kd : Nat → ClassId} {z : Nat} {S : tS} {s a b q : Nat} {f g : Nat → Int32} (m_s : s ∈ S.1) (f_s : S.2 s = .inr (7, [.ref a, .ref b, .ref q])) (m_a : a ∈ S.1) (f_a : S.2 a = .inl (kd 2, 8, .inl f)) (m_b : b ∈ S.1) (f_b : S.2 b = .inl (kd 0, 8, .inl g))   : tM l y_Sight_openCount b_Sight_openCount 3 (some FieldType.int) [] {} D (tyl kd) z [.ref s] S (fun o9 T9 => T9 = S ∧ o9 = .inl (some (.int (siCount f 8 0 0)))) := by
  refine tM.of (own := "FlashVault$Sight") (ini := false) (by decide) rfl (fun h => by first | rfl | cases h) (Nat.le_of_ble_eq_true rfl) (lv := [(0, .ref s)]) rfl ?_
  refine tt_iconst (v := 0) d_Sight_openCount_0 (by decide) ?_
  refine tt_istore_n (lv' := [(1, .int 0), (0, .ref s)]) d_Sight_openCount_1 rfl (by decide) rfl ?_
  refine tt_iconst (v := 0) d_Sight_openCount_2 (by decide) ?_
  refine tt_istore_n (lv' := [(2, .int 0), (1, .int 0), (0, .ref s)]) d_Sight_openCount_3 rfl (by decide) rfl ?_
  exact lp_Sight_openCount m_s f_s m_a f_a m_b f_b 8 0 0 0 _ nI_0.symm (by omega) rfl
set_option maxHeartbeats 4000000 in
set_option maxRecDepth 100000 in
/-- Sight.anyBefore: its loop -/
theorem lp_Sight_anyBefore {l : Launch} {D : va_G} {kd : Nat → ClassId} {z : Nat} {S : tS} {s a b q : Nat} {f g : Nat → Int32} {x but : Int32} (m_s : s ∈ S.1) (f_s : S.2 s = .inr (7, [.ref a, .ref b, .ref q])) (m_a : a ∈ S.1) (f_a : S.2 a = .inl (kd 2, 8, .inl f)) (m_b : b ∈ S.1) (f_b : S.2 b = .inl (kd 0, 8, .inl g))  : ∀ (t k' : Nat) (k  : Int32) (res : Int32), k = nI k' → k' + t = 8 → res = siBefore f g x but t k → tP b_Sight_anyBefore "FlashVault$Sight" 4 (some FieldType.boolean) false [] {} D (tyl kd) z l (fun o9 T9 => T9 = S ∧ o9 = .inl (some (.int res))) 0 0 2 [(3, .int k), (0, .ref s), (1, .int x), (2, .int but)] [] S := by
  intro t
  induction t with
  | zero =>
    intro k' k  res hk hs hr
    have hge : 8 ≤ k := by rw [hk, show k' = 8 by omega]; first | exact Int32.le_refl _ | decide | (rw [nI_add]; exact Int32.le_refl _)
    refine tt_iload_n d_Sight_anyBefore_2 rfl 0 rfl ?_
    refine tt_bipush (v := 8) d_Sight_anyBefore_3 (by decide) ?_
    refine tt_icmp_ge (t := 40) d_Sight_anyBefore_5 (by decide) (fun hc1 => ?_) (fun hc1 => ?_)
    · skip
      refine tt_iconst (v := 0) d_Sight_anyBefore_40 (by decide) ?_
      exact tt_ret rfl (by first | rfl | decide | exact nz_ite _) (Nat.le_refl _) (Nat.le_refl _) d_Sight_anyBefore_41 (by first | (exact absurd hge (by first | assumption | exact Int32.not_le.mpr (by assumption))) | (refine ⟨rfl, ?_⟩; rw [hr]; unfold siBefore; first | rfl | (simp [hc1, Int32.not_lt.mpr hc1]; done) | simp_all))
    · skip
      refine tt_aload_n d_Sight_anyBefore_8 rfl 1 rfl ?_
      refine tt_get F_Sight_9 d_Sight_anyBefore_9 m_s f_s rfl ?_
      refine tt_iload_n d_Sight_anyBefore_12 rfl 0 rfl ?_
      refine tt_zald 2 d_Sight_anyBefore_13 rfl m_a f_a (absurd hge (by assumption)) ?_
      refine tt_if_eq (t := 34) d_Sight_anyBefore_14 (by decide) (fun hc2 => ?_) (fun hc2 => ?_)
      · skip
        refine tt_iinc (v := (k + 1)) (lv' := [(3, .int ((k + 1))), (0, .ref s), (1, .int x), (2, .int but)]) d_Sight_anyBefore_34 0 rfl rfl (by decide) rfl ?_
        refine tt_goto (t := 2) d_Sight_anyBefore_37 (by decide) ?_
        refine tt_sub (lv' := [(3, .int ((k + 1))), (0, .ref s), (1, .int x), (2, .int but)]) [0, 1, 2, 3] rfl ?_
        exact absurd hge (by first | assumption | exact Int32.not_le.mpr (by assumption))
      · skip
        refine tt_iload_n d_Sight_anyBefore_17 rfl 0 rfl ?_
        refine tt_iload_n d_Sight_anyBefore_18 rfl 3 rfl ?_
        refine tt_icmp_eq (t := 34) d_Sight_anyBefore_19 (by decide) (fun hc3 => ?_) (fun hc3 => ?_)
        · skip
          refine tt_iinc (v := (k + 1)) (lv' := [(3, .int ((k + 1))), (0, .ref s), (1, .int x), (2, .int but)]) d_Sight_anyBefore_34 0 rfl rfl (by decide) rfl ?_
          refine tt_goto (t := 2) d_Sight_anyBefore_37 (by decide) ?_
          refine tt_sub (lv' := [(3, .int ((k + 1))), (0, .ref s), (1, .int x), (2, .int but)]) [0, 1, 2, 3] rfl ?_
          exact absurd hge (by first | assumption | exact Int32.not_le.mpr (by assumption))
        · skip
          refine tt_aload_n d_Sight_anyBefore_22 rfl 1 rfl ?_
          refine tt_get F_Sight_15 d_Sight_anyBefore_23 m_s f_s rfl ?_
          refine tt_iload_n d_Sight_anyBefore_26 rfl 0 rfl ?_
          refine tt_iald 0 d_Sight_anyBefore_27 rfl m_b f_b (absurd hge (by assumption)) ?_
          refine tt_iload_n d_Sight_anyBefore_28 rfl 2 rfl ?_
          refine tt_icmp_ge (t := 34) d_Sight_anyBefore_29 (by decide) (fun hc4 => ?_) (fun hc4 => ?_)
          · skip
            refine tt_iinc (v := (k + 1)) (lv' := [(3, .int ((k + 1))), (0, .ref s), (1, .int x), (2, .int but)]) d_Sight_anyBefore_34 0 rfl rfl (by decide) rfl ?_
            refine tt_goto (t := 2) d_Sight_anyBefore_37 (by decide) ?_
            refine tt_sub (lv' := [(3, .int ((k + 1))), (0, .ref s), (1, .int x), (2, .int but)]) [0, 1, 2, 3] rfl ?_
            exact absurd hge (by first | assumption | exact Int32.not_le.mpr (by assumption))
          · skip
            refine tt_iconst (v := 1) d_Sight_anyBefore_32 (by decide) ?_
            exact tt_ret rfl (by first | rfl | decide | exact nz_ite _) (Nat.le_refl _) (Nat.le_refl _) d_Sight_anyBefore_33 (by first | (exact absurd hge (by first | assumption | exact Int32.not_le.mpr (by assumption))) | (refine ⟨rfl, ?_⟩; rw [hr]; unfold siBefore; first | rfl | (simp [hc1, Int32.not_le.mp hc1, hc2, hc3, hc4, Int32.not_le.mp hc4]; done) | simp_all))
  | succ t ih =>
    intro k' k  res hk hs hr
    have hlt : ¬ 8 ≤ k := by rw [hk]; first | exact nI_ge (b := 8) (by omega) (by omega) | (rw [nI_add]; exact nI_ge (by omega) (by omega))
    refine tt_iload_n d_Sight_anyBefore_2 rfl 0 rfl ?_
    refine tt_bipush (v := 8) d_Sight_anyBefore_3 (by decide) ?_
    refine tt_icmp_ge (t := 40) d_Sight_anyBefore_5 (by decide) (fun hc1 => ?_) (fun hc1 => ?_)
    · skip
      refine tt_iconst (v := 0) d_Sight_anyBefore_40 (by decide) ?_
      exact tt_ret rfl (by first | rfl | decide | exact nz_ite _) (Nat.le_refl _) (Nat.le_refl _) d_Sight_anyBefore_41 (by first | (exact absurd (by assumption) hlt) | (refine ⟨rfl, ?_⟩; rw [hr]; unfold siBefore; first | rfl | (simp [hc1, Int32.not_lt.mpr hc1]; done) | simp_all))
    · skip
      refine tt_aload_n d_Sight_anyBefore_8 rfl 1 rfl ?_
      refine tt_get F_Sight_9 d_Sight_anyBefore_9 m_s f_s rfl ?_
      refine tt_iload_n d_Sight_anyBefore_12 rfl 0 rfl ?_
      refine tt_zald 2 d_Sight_anyBefore_13 rfl m_a f_a (by rw [hk]; exact vp_in_nI (by omega) (by omega)) ?_
      refine tt_if_eq (t := 34) d_Sight_anyBefore_14 (by decide) (fun hc2 => ?_) (fun hc2 => ?_)
      · skip
        refine tt_iinc (v := (k + 1)) (lv' := [(3, .int ((k + 1))), (0, .ref s), (1, .int x), (2, .int but)]) d_Sight_anyBefore_34 0 rfl rfl (by decide) rfl ?_
        refine tt_goto (t := 2) d_Sight_anyBefore_37 (by decide) ?_
        refine tt_sub (lv' := [(3, .int ((k + 1))), (0, .ref s), (1, .int x), (2, .int but)]) [0, 1, 2, 3] rfl ?_
        exact ih (k' + 1) (k + 1)  res (by rw [hk]; exact nI_1 k') (by omega) (by rw [hr, siBefore]; first | rfl | (simp [hc1, Int32.not_le.mp hc1, hc2]; done) | simp_all)
      · skip
        refine tt_iload_n d_Sight_anyBefore_17 rfl 0 rfl ?_
        refine tt_iload_n d_Sight_anyBefore_18 rfl 3 rfl ?_
        refine tt_icmp_eq (t := 34) d_Sight_anyBefore_19 (by decide) (fun hc3 => ?_) (fun hc3 => ?_)
        · skip
          refine tt_iinc (v := (k + 1)) (lv' := [(3, .int ((k + 1))), (0, .ref s), (1, .int x), (2, .int but)]) d_Sight_anyBefore_34 0 rfl rfl (by decide) rfl ?_
          refine tt_goto (t := 2) d_Sight_anyBefore_37 (by decide) ?_
          refine tt_sub (lv' := [(3, .int ((k + 1))), (0, .ref s), (1, .int x), (2, .int but)]) [0, 1, 2, 3] rfl ?_
          exact ih (k' + 1) (k + 1)  res (by rw [hk]; exact nI_1 k') (by omega) (by rw [hr, siBefore]; first | rfl | (simp [hc1, Int32.not_le.mp hc1, hc2, hc3]; done) | simp_all)
        · skip
          refine tt_aload_n d_Sight_anyBefore_22 rfl 1 rfl ?_
          refine tt_get F_Sight_15 d_Sight_anyBefore_23 m_s f_s rfl ?_
          refine tt_iload_n d_Sight_anyBefore_26 rfl 0 rfl ?_
          refine tt_iald 0 d_Sight_anyBefore_27 rfl m_b f_b (by rw [hk]; exact vp_in_nI (by omega) (by omega)) ?_
          refine tt_iload_n d_Sight_anyBefore_28 rfl 2 rfl ?_
          refine tt_icmp_ge (t := 34) d_Sight_anyBefore_29 (by decide) (fun hc4 => ?_) (fun hc4 => ?_)
          · skip
            refine tt_iinc (v := (k + 1)) (lv' := [(3, .int ((k + 1))), (0, .ref s), (1, .int x), (2, .int but)]) d_Sight_anyBefore_34 0 rfl rfl (by decide) rfl ?_
            refine tt_goto (t := 2) d_Sight_anyBefore_37 (by decide) ?_
            refine tt_sub (lv' := [(3, .int ((k + 1))), (0, .ref s), (1, .int x), (2, .int but)]) [0, 1, 2, 3] rfl ?_
            exact ih (k' + 1) (k + 1)  res (by rw [hk]; exact nI_1 k') (by omega) (by rw [hr, siBefore]; first | rfl | (simp [hc1, Int32.not_le.mp hc1, hc2, hc3, hc4, Int32.not_lt.mpr hc4]; done) | simp_all)
          · skip
            refine tt_iconst (v := 1) d_Sight_anyBefore_32 (by decide) ?_
            exact tt_ret rfl (by first | rfl | decide | exact nz_ite _) (Nat.le_refl _) (Nat.le_refl _) d_Sight_anyBefore_33 (by first | (exact absurd (by assumption) hlt) | (refine ⟨rfl, ?_⟩; rw [hr]; unfold siBefore; first | rfl | (simp [hc1, Int32.not_le.mp hc1, hc2, hc3, hc4, Int32.not_le.mp hc4]; done) | simp_all))
set_option maxHeartbeats 4000000 in
set_option maxRecDepth 100000 in
/-- Sight.anyBefore -/
theorem c_Sight_anyBefore {l : Launch} {D : va_G} {kd : Nat → ClassId} {z : Nat} {S : tS} {s a b q : Nat} {f g : Nat → Int32} {x but : Int32} (m_s : s ∈ S.1) (f_s : S.2 s = .inr (7, [.ref a, .ref b, .ref q])) (m_a : a ∈ S.1) (f_a : S.2 a = .inl (kd 2, 8, .inl f)) (m_b : b ∈ S.1) (f_b : S.2 b = .inl (kd 0, 8, .inl g))   : tM l y_Sight_anyBefore b_Sight_anyBefore 4 (some FieldType.boolean) [] {} D (tyl kd) z [.ref s, .int x, .int but] S (fun o9 T9 => T9 = S ∧ o9 = .inl (some (.int (siBefore f g x but 8 0)))) := by
  refine tM.of (own := "FlashVault$Sight") (ini := false) (by decide) rfl (fun h => by first | rfl | cases h) (Nat.le_of_ble_eq_true rfl) (lv := [(0, .ref s), (1, .int x), (2, .int but)]) rfl ?_
  refine tt_iconst (v := 0) d_Sight_anyBefore_0 (by decide) ?_
  refine tt_istore_n (lv' := [(3, .int 0), (0, .ref s), (1, .int x), (2, .int but)]) d_Sight_anyBefore_1 rfl (by decide) rfl ?_
  exact lp_Sight_anyBefore m_s f_s m_a f_a m_b f_b 8 0 0  _ nI_0.symm (by omega) rfl
set_option maxHeartbeats 4000000 in
set_option maxRecDepth 100000 in
/-- Sight.anyWithin: its loop -/
theorem lp_Sight_anyWithin {l : Launch} {D : va_G} {kd : Nat → ClassId} {z : Nat} {S : tS} {s a b q : Nat} {f g : Nat → Int32} {x y but : Int32} (m_s : s ∈ S.1) (f_s : S.2 s = .inr (7, [.ref a, .ref b, .ref q])) (m_a : a ∈ S.1) (f_a : S.2 a = .inl (kd 2, 8, .inl f)) (m_b : b ∈ S.1) (f_b : S.2 b = .inl (kd 0, 8, .inl g))  : ∀ (t k' : Nat) (k  : Int32) (res : Int32), k = nI k' → k' + t = 8 → res = siWithin f g x y but t k → tP b_Sight_anyWithin "FlashVault$Sight" 5 (some FieldType.boolean) false [] {} D (tyl kd) z l (fun o9 T9 => T9 = S ∧ o9 = .inl (some (.int res))) 0 0 3 [(4, .int k), (0, .ref s), (1, .int x), (2, .int y), (3, .int but)] [] S := by
  intro t
  induction t with
  | zero =>
    intro k' k  res hk hs hr
    have hge : 8 ≤ k := by rw [hk, show k' = 8 by omega]; first | exact Int32.le_refl _ | decide | (rw [nI_add]; exact Int32.le_refl _)
    refine tt_iload d_Sight_anyWithin_3 0 rfl ?_
    refine tt_bipush (v := 8) d_Sight_anyWithin_5 (by decide) ?_
    refine tt_icmp_ge (t := 56) d_Sight_anyWithin_7 (by decide) (fun hc1 => ?_) (fun hc1 => ?_)
    · skip
      refine tt_iconst (v := 0) d_Sight_anyWithin_56 (by decide) ?_
      exact tt_ret rfl (by first | rfl | decide | exact nz_ite _) (Nat.le_refl _) (Nat.le_refl _) d_Sight_anyWithin_57 (by first | (exact absurd hge (by first | assumption | exact Int32.not_le.mpr (by assumption))) | (refine ⟨rfl, ?_⟩; rw [hr]; unfold siWithin; first | rfl | (simp [hc1, Int32.not_lt.mpr hc1]; done) | simp_all))
    · skip
      refine tt_aload_n d_Sight_anyWithin_10 rfl 1 rfl ?_
      refine tt_get F_Sight_9 d_Sight_anyWithin_11 m_s f_s rfl ?_
      refine tt_iload d_Sight_anyWithin_14 0 rfl ?_
      refine tt_zald 2 d_Sight_anyWithin_16 rfl m_a f_a (absurd hge (by assumption)) ?_
      refine tt_if_eq (t := 50) d_Sight_anyWithin_17 (by decide) (fun hc2 => ?_) (fun hc2 => ?_)
      · skip
        refine tt_iinc (v := (k + 1)) (lv' := [(4, .int ((k + 1))), (0, .ref s), (1, .int x), (2, .int y), (3, .int but)]) d_Sight_anyWithin_50 0 rfl rfl (by decide) rfl ?_
        refine tt_goto (t := 3) d_Sight_anyWithin_53 (by decide) ?_
        refine tt_sub (lv' := [(4, .int ((k + 1))), (0, .ref s), (1, .int x), (2, .int y), (3, .int but)]) [0, 1, 2, 3, 4] rfl ?_
        exact absurd hge (by first | assumption | exact Int32.not_le.mpr (by assumption))
      · skip
        refine tt_iload d_Sight_anyWithin_20 0 rfl ?_
        refine tt_iload_n d_Sight_anyWithin_22 rfl 4 rfl ?_
        refine tt_icmp_eq (t := 50) d_Sight_anyWithin_23 (by decide) (fun hc3 => ?_) (fun hc3 => ?_)
        · skip
          refine tt_iinc (v := (k + 1)) (lv' := [(4, .int ((k + 1))), (0, .ref s), (1, .int x), (2, .int y), (3, .int but)]) d_Sight_anyWithin_50 0 rfl rfl (by decide) rfl ?_
          refine tt_goto (t := 3) d_Sight_anyWithin_53 (by decide) ?_
          refine tt_sub (lv' := [(4, .int ((k + 1))), (0, .ref s), (1, .int x), (2, .int y), (3, .int but)]) [0, 1, 2, 3, 4] rfl ?_
          exact absurd hge (by first | assumption | exact Int32.not_le.mpr (by assumption))
        · skip
          refine tt_aload_n d_Sight_anyWithin_26 rfl 1 rfl ?_
          refine tt_get F_Sight_15 d_Sight_anyWithin_27 m_s f_s rfl ?_
          refine tt_iload d_Sight_anyWithin_30 0 rfl ?_
          refine tt_iald 0 d_Sight_anyWithin_32 rfl m_b f_b (absurd hge (by assumption)) ?_
          refine tt_iload_n d_Sight_anyWithin_33 rfl 2 rfl ?_
          refine tt_icmp_lt (t := 50) d_Sight_anyWithin_34 (by decide) (fun hc4 => ?_) (fun hc4 => ?_)
          · skip
            refine tt_iinc (v := (k + 1)) (lv' := [(4, .int ((k + 1))), (0, .ref s), (1, .int x), (2, .int y), (3, .int but)]) d_Sight_anyWithin_50 0 rfl rfl (by decide) rfl ?_
            refine tt_goto (t := 3) d_Sight_anyWithin_53 (by decide) ?_
            refine tt_sub (lv' := [(4, .int ((k + 1))), (0, .ref s), (1, .int x), (2, .int y), (3, .int but)]) [0, 1, 2, 3, 4] rfl ?_
            exact absurd hge (by first | assumption | exact Int32.not_le.mpr (by assumption))
          · skip
            refine tt_aload_n d_Sight_anyWithin_37 rfl 1 rfl ?_
            refine tt_get F_Sight_15 d_Sight_anyWithin_38 m_s f_s rfl ?_
            refine tt_iload d_Sight_anyWithin_41 0 rfl ?_
            refine tt_iald 0 d_Sight_anyWithin_43 rfl m_b f_b (absurd hge (by assumption)) ?_
            refine tt_iload_n d_Sight_anyWithin_44 rfl 3 rfl ?_
            refine tt_icmp_ge (t := 50) d_Sight_anyWithin_45 (by decide) (fun hc5 => ?_) (fun hc5 => ?_)
            · skip
              refine tt_iinc (v := (k + 1)) (lv' := [(4, .int ((k + 1))), (0, .ref s), (1, .int x), (2, .int y), (3, .int but)]) d_Sight_anyWithin_50 0 rfl rfl (by decide) rfl ?_
              refine tt_goto (t := 3) d_Sight_anyWithin_53 (by decide) ?_
              refine tt_sub (lv' := [(4, .int ((k + 1))), (0, .ref s), (1, .int x), (2, .int y), (3, .int but)]) [0, 1, 2, 3, 4] rfl ?_
              exact absurd hge (by first | assumption | exact Int32.not_le.mpr (by assumption))
            · skip
              refine tt_iconst (v := 1) d_Sight_anyWithin_48 (by decide) ?_
              exact tt_ret rfl (by first | rfl | decide | exact nz_ite _) (Nat.le_refl _) (Nat.le_refl _) d_Sight_anyWithin_49 (by first | (exact absurd hge (by first | assumption | exact Int32.not_le.mpr (by assumption))) | (refine ⟨rfl, ?_⟩; rw [hr]; unfold siWithin; first | rfl | (simp [hc1, Int32.not_le.mp hc1, hc2, hc3, hc4, Int32.not_lt.mp hc4, hc5, Int32.not_le.mp hc5]; done) | simp_all))
  | succ t ih =>
    intro k' k  res hk hs hr
    have hlt : ¬ 8 ≤ k := by rw [hk]; first | exact nI_ge (b := 8) (by omega) (by omega) | (rw [nI_add]; exact nI_ge (by omega) (by omega))
    refine tt_iload d_Sight_anyWithin_3 0 rfl ?_
    refine tt_bipush (v := 8) d_Sight_anyWithin_5 (by decide) ?_
    refine tt_icmp_ge (t := 56) d_Sight_anyWithin_7 (by decide) (fun hc1 => ?_) (fun hc1 => ?_)
    · skip
      refine tt_iconst (v := 0) d_Sight_anyWithin_56 (by decide) ?_
      exact tt_ret rfl (by first | rfl | decide | exact nz_ite _) (Nat.le_refl _) (Nat.le_refl _) d_Sight_anyWithin_57 (by first | (exact absurd (by assumption) hlt) | (refine ⟨rfl, ?_⟩; rw [hr]; unfold siWithin; first | rfl | (simp [hc1, Int32.not_lt.mpr hc1]; done) | simp_all))
    · skip
      refine tt_aload_n d_Sight_anyWithin_10 rfl 1 rfl ?_
      refine tt_get F_Sight_9 d_Sight_anyWithin_11 m_s f_s rfl ?_
      refine tt_iload d_Sight_anyWithin_14 0 rfl ?_
      refine tt_zald 2 d_Sight_anyWithin_16 rfl m_a f_a (by rw [hk]; exact vp_in_nI (by omega) (by omega)) ?_
      refine tt_if_eq (t := 50) d_Sight_anyWithin_17 (by decide) (fun hc2 => ?_) (fun hc2 => ?_)
      · skip
        refine tt_iinc (v := (k + 1)) (lv' := [(4, .int ((k + 1))), (0, .ref s), (1, .int x), (2, .int y), (3, .int but)]) d_Sight_anyWithin_50 0 rfl rfl (by decide) rfl ?_
        refine tt_goto (t := 3) d_Sight_anyWithin_53 (by decide) ?_
        refine tt_sub (lv' := [(4, .int ((k + 1))), (0, .ref s), (1, .int x), (2, .int y), (3, .int but)]) [0, 1, 2, 3, 4] rfl ?_
        exact ih (k' + 1) (k + 1)  res (by rw [hk]; exact nI_1 k') (by omega) (by rw [hr, siWithin]; first | rfl | (simp [hc1, Int32.not_le.mp hc1, hc2]; done) | simp_all)
      · skip
        refine tt_iload d_Sight_anyWithin_20 0 rfl ?_
        refine tt_iload_n d_Sight_anyWithin_22 rfl 4 rfl ?_
        refine tt_icmp_eq (t := 50) d_Sight_anyWithin_23 (by decide) (fun hc3 => ?_) (fun hc3 => ?_)
        · skip
          refine tt_iinc (v := (k + 1)) (lv' := [(4, .int ((k + 1))), (0, .ref s), (1, .int x), (2, .int y), (3, .int but)]) d_Sight_anyWithin_50 0 rfl rfl (by decide) rfl ?_
          refine tt_goto (t := 3) d_Sight_anyWithin_53 (by decide) ?_
          refine tt_sub (lv' := [(4, .int ((k + 1))), (0, .ref s), (1, .int x), (2, .int y), (3, .int but)]) [0, 1, 2, 3, 4] rfl ?_
          exact ih (k' + 1) (k + 1)  res (by rw [hk]; exact nI_1 k') (by omega) (by rw [hr, siWithin]; first | rfl | (simp [hc1, Int32.not_le.mp hc1, hc2, hc3]; done) | simp_all)
        · skip
          refine tt_aload_n d_Sight_anyWithin_26 rfl 1 rfl ?_
          refine tt_get F_Sight_15 d_Sight_anyWithin_27 m_s f_s rfl ?_
          refine tt_iload d_Sight_anyWithin_30 0 rfl ?_
          refine tt_iald 0 d_Sight_anyWithin_32 rfl m_b f_b (by rw [hk]; exact vp_in_nI (by omega) (by omega)) ?_
          refine tt_iload_n d_Sight_anyWithin_33 rfl 2 rfl ?_
          refine tt_icmp_lt (t := 50) d_Sight_anyWithin_34 (by decide) (fun hc4 => ?_) (fun hc4 => ?_)
          · skip
            refine tt_iinc (v := (k + 1)) (lv' := [(4, .int ((k + 1))), (0, .ref s), (1, .int x), (2, .int y), (3, .int but)]) d_Sight_anyWithin_50 0 rfl rfl (by decide) rfl ?_
            refine tt_goto (t := 3) d_Sight_anyWithin_53 (by decide) ?_
            refine tt_sub (lv' := [(4, .int ((k + 1))), (0, .ref s), (1, .int x), (2, .int y), (3, .int but)]) [0, 1, 2, 3, 4] rfl ?_
            exact ih (k' + 1) (k + 1)  res (by rw [hk]; exact nI_1 k') (by omega) (by rw [hr, siWithin]; first | rfl | (simp [hc1, Int32.not_le.mp hc1, hc2, hc3, hc4, Int32.not_le.mpr hc4]; done) | simp_all)
          · skip
            refine tt_aload_n d_Sight_anyWithin_37 rfl 1 rfl ?_
            refine tt_get F_Sight_15 d_Sight_anyWithin_38 m_s f_s rfl ?_
            refine tt_iload d_Sight_anyWithin_41 0 rfl ?_
            refine tt_iald 0 d_Sight_anyWithin_43 rfl m_b f_b (by rw [hk]; exact vp_in_nI (by omega) (by omega)) ?_
            refine tt_iload_n d_Sight_anyWithin_44 rfl 3 rfl ?_
            refine tt_icmp_ge (t := 50) d_Sight_anyWithin_45 (by decide) (fun hc5 => ?_) (fun hc5 => ?_)
            · skip
              refine tt_iinc (v := (k + 1)) (lv' := [(4, .int ((k + 1))), (0, .ref s), (1, .int x), (2, .int y), (3, .int but)]) d_Sight_anyWithin_50 0 rfl rfl (by decide) rfl ?_
              refine tt_goto (t := 3) d_Sight_anyWithin_53 (by decide) ?_
              refine tt_sub (lv' := [(4, .int ((k + 1))), (0, .ref s), (1, .int x), (2, .int y), (3, .int but)]) [0, 1, 2, 3, 4] rfl ?_
              exact ih (k' + 1) (k + 1)  res (by rw [hk]; exact nI_1 k') (by omega) (by rw [hr, siWithin]; first | rfl | (simp [hc1, Int32.not_le.mp hc1, hc2, hc3, hc4, Int32.not_lt.mp hc4, hc5, Int32.not_lt.mpr hc5]; done) | simp_all)
            · skip
              refine tt_iconst (v := 1) d_Sight_anyWithin_48 (by decide) ?_
              exact tt_ret rfl (by first | rfl | decide | exact nz_ite _) (Nat.le_refl _) (Nat.le_refl _) d_Sight_anyWithin_49 (by first | (exact absurd (by assumption) hlt) | (refine ⟨rfl, ?_⟩; rw [hr]; unfold siWithin; first | rfl | (simp [hc1, Int32.not_le.mp hc1, hc2, hc3, hc4, Int32.not_lt.mp hc4, hc5, Int32.not_le.mp hc5]; done) | simp_all))
set_option maxHeartbeats 4000000 in
set_option maxRecDepth 100000 in
/-- Sight.anyWithin -/
theorem c_Sight_anyWithin {l : Launch} {D : va_G} {kd : Nat → ClassId} {z : Nat} {S : tS} {s a b q : Nat} {f g : Nat → Int32} {x y but : Int32} (m_s : s ∈ S.1) (f_s : S.2 s = .inr (7, [.ref a, .ref b, .ref q])) (m_a : a ∈ S.1) (f_a : S.2 a = .inl (kd 2, 8, .inl f)) (m_b : b ∈ S.1) (f_b : S.2 b = .inl (kd 0, 8, .inl g))   : tM l y_Sight_anyWithin b_Sight_anyWithin 5 (some FieldType.boolean) [] {} D (tyl kd) z [.ref s, .int x, .int y, .int but] S (fun o9 T9 => T9 = S ∧ o9 = .inl (some (.int (siWithin f g x y but 8 0)))) := by
  refine tM.of (own := "FlashVault$Sight") (ini := false) (by decide) rfl (fun h => by first | rfl | cases h) (Nat.le_of_ble_eq_true rfl) (lv := [(0, .ref s), (1, .int x), (2, .int y), (3, .int but)]) rfl ?_
  refine tt_iconst (v := 0) d_Sight_anyWithin_0 (by decide) ?_
  refine tt_istore (lv' := [(4, .int 0), (0, .ref s), (1, .int x), (2, .int y), (3, .int but)]) d_Sight_anyWithin_1 (by decide) rfl ?_
  exact lp_Sight_anyWithin m_s f_s m_a f_a m_b f_b 8 0 0  _ nI_0.symm (by omega) rfl
