/-! ===== constructors: Row, Run; written by wip/gen/ctor2.py ===== -/
def RowAt (kd : Nat → ClassId) (T : tS) (r b cap : Nat) (n : Int32) (f : Nat → Int32) : Prop := (r ∈ T.1 ∧ T.2 r = .inr (5, [.ref b, .int n])) ∧ (b ∈ T.1 ∧ T.2 b = .inl (kd 1, cap, .inl f))
def RunAt (kd : Nat → ClassId) (T : tS) (r b : Nat) (c v n e : Int32) (f : Nat → Int32) : Prop := (r ∈ T.1 ∧ T.2 r = .inr (6, [.ref b, .int c, .int v, .int n, .int e])) ∧ (b ∈ T.1 ∧ T.2 b = .inl (kd 0, 64, .inl f))
theorem mx_1 {m : Nat} (h : 1 ≤ m) (hm : m < 2 ^ 31) : (if (nI m) < 1 then 1 else (nI m)) = nI m := if_neg (fun h9 => by have h8 := (nI_ltI (b := 1) hm (by decide)).mp h9; omega)
abbrev b_Run_init : ByteArray := prog_8_method_1_code
def y_Run_init : MethodName := ⟨"FlashVault$Run", "<init>", "()V"⟩
theorem d_Run_init_0 : decode b_Run_init 0 = .ok (.aload_n 0, 1) := by decide +kernel
theorem d_Run_init_1 : decode b_Run_init 1 = .ok (.invokespecial 3, 3) := by decide +kernel
theorem w_2_30 : (Cond.methodLink "FlashVault$Run" (3 : Nat) ({ cls := "java/lang/Object", name := "<init>", desc := "()V" } : MethodName)) ∈ gW := gW_2 30 rfl rfl
theorem d_Run_init_4 : decode b_Run_init 4 = .ok (.aload_n 0, 1) := by decide +kernel
theorem d_Run_init_5 : decode b_Run_init 5 = .ok (.bipush 64, 2) := by decide +kernel
theorem d_Run_init_7 : decode b_Run_init 7 = .ok (.newarray .int, 2) := by decide +kernel
theorem d_Run_init_9 : decode b_Run_init 9 = .ok (.putfield 9, 3) := by decide +kernel
theorem d_Run_init_12 : decode b_Run_init 12 = .ok (.aload_n 0, 1) := by decide +kernel
theorem d_Run_init_13 : decode b_Run_init 13 = .ok (.iconst 0, 1) := by decide +kernel
theorem d_Run_init_14 : decode b_Run_init 14 = .ok (.putfield 15, 3) := by decide +kernel
theorem d_Run_init_17 : decode b_Run_init 17 = .ok (.aload_n 0, 1) := by decide +kernel
theorem d_Run_init_18 : decode b_Run_init 18 = .ok (.iconst 0, 1) := by decide +kernel
theorem d_Run_init_19 : decode b_Run_init 19 = .ok (.putfield 19, 3) := by decide +kernel
theorem d_Run_init_22 : decode b_Run_init 22 = .ok (.aload_n 0, 1) := by decide +kernel
theorem d_Run_init_23 : decode b_Run_init 23 = .ok (.iconst 0, 1) := by decide +kernel
theorem d_Run_init_24 : decode b_Run_init 24 = .ok (.putfield 22, 3) := by decide +kernel
theorem d_Run_init_27 : decode b_Run_init 27 = .ok (.aload_n 0, 1) := by decide +kernel
theorem d_Run_init_28 : decode b_Run_init 28 = .ok (.iconst 0, 1) := by decide +kernel
theorem d_Run_init_29 : decode b_Run_init 29 = .ok (.putfield 25, 3) := by decide +kernel
theorem d_Run_init_32 : decode b_Run_init 32 = .ok (.return_, 1) := by decide +kernel
abbrev b_Row_init : ByteArray := prog_7_method_1_code
def y_Row_init : MethodName := ⟨"FlashVault$Row", "<init>", "(I)V"⟩
theorem d_Row_init_0 : decode b_Row_init 0 = .ok (.aload_n 0, 1) := by decide +kernel
theorem d_Row_init_1 : decode b_Row_init 1 = .ok (.invokespecial 1, 3) := by decide +kernel
theorem w_1_47 : (Cond.methodLink "FlashVault$Row" (1 : Nat) ({ cls := "java/lang/Object", name := "<init>", desc := "()V" } : MethodName)) ∈ gW := gW_1 47 rfl rfl
theorem d_Row_init_4 : decode b_Row_init 4 = .ok (.aload_n 0, 1) := by decide +kernel
theorem d_Row_init_5 : decode b_Row_init 5 = .ok (.iconst 0, 1) := by decide +kernel
theorem d_Row_init_6 : decode b_Row_init 6 = .ok (.putfield 7, 3) := by decide +kernel
theorem d_Row_init_9 : decode b_Row_init 9 = .ok (.aload_n 0, 1) := by decide +kernel
theorem d_Row_init_10 : decode b_Row_init 10 = .ok (.iload_n 1, 1) := by decide +kernel
theorem d_Row_init_11 : decode b_Row_init 11 = .ok (.iconst 1, 1) := by decide +kernel
theorem d_Row_init_12 : decode b_Row_init 12 = .ok (.invokestatic 13, 3) := by decide +kernel
theorem w_1_48 : (Cond.methodLink "FlashVault$Row" (13 : Nat) ({ cls := "java/lang/Math", name := "max", desc := "(II)I" } : MethodName)) ∈ gW := gW_1 48 rfl rfl
theorem d_Row_init_15 : decode b_Row_init 15 = .ok (.newarray .byte, 2) := by decide +kernel
theorem d_Row_init_17 : decode b_Row_init 17 = .ok (.putfield 19, 3) := by decide +kernel
theorem d_Row_init_20 : decode b_Row_init 20 = .ok (.return_, 1) := by decide +kernel
set_option maxHeartbeats 400000 in
set_option maxRecDepth 100000 in
/-- Run(): an empty table -/
theorem c_Run_init {l : Launch} {D : va_G} {kd : Nat → ClassId} {z : Nat} {S : tS} {r : Nat} (m_r : r ∈ S.1) (f_r : S.2 r = .inr (6, [.null, .int 0, .int 0, .int 0, .int 0]))   : tM l y_Run_init b_Run_init 1 none [] { frames := 1, cells := 1, slots := 64, locals := 20 } D (tyl kd) z [.ref r] S (fun o9 T9 => o9 = .inl none ∧ ∃ b, RunAt kd T9 r b 0 0 0 0 (fun _ => 0) ∧ Grown S T9 z r [b]) := by
  refine tM.of (own := "FlashVault$Run") (ini := true) (by decide) rfl (fun h => by first | rfl | cases h) (Nat.le_of_ble_eq_true rfl) (lv := [(0, .ref r)]) rfl ?_
  refine tt_aload_n d_Run_init_0 rfl 0 rfl ?_
  refine tt_objInit w_2_30 w_1_40 w_1_41 ⟨Nat.le_of_ble_eq_true rfl, Nat.le_of_ble_eq_true rfl⟩ d_Run_init_1 ?_
  refine tt_aload_n d_Run_init_4 rfl 0 rfl ?_
  refine tt_bipush (v := 64) d_Run_init_5 (by decide) ?_
  refine tt_newa (atype := .int) (ty := .int) (cA := kd 0) (a0 := (64, .inl (fun _ => 0))) (N' := 64) 0 rfl (fun _ h => by cases h) w_1_116 rfl (fun _ => rfl) (by decide) (rfl) (by decide) ⟨Nat.le_of_ble_eq_true rfl, Nat.le_of_ble_eq_true rfl⟩ d_Run_init_7 (fun b hq_b hz_b => ?_)
  obtain ⟨S1, hS1⟩ : ∃ x9, x9 = tnew S b (.inl (kd 0, 64, .inl (fun _ => 0))) := ⟨_, rfl⟩
  refine tt_S hS1 ?_
  have n_r_b : r ≠ b := fun h => hq_b (h ▸ m_r)
  have m2 : r ∈ S1.1 := by rw [hS1]; exact List.mem_append_left _ m_r
  have f3 : S1.2 r = .inr (6, [.null, .int 0, .int 0, .int 0, .int 0]) := by rw [hS1]; exact (va_up_ne _ _ n_r_b).trans f_r
  have m4 : b ∈ S1.1 := by rw [hS1]; exact List.mem_append_right _ (List.mem_singleton.mpr rfl)
  have f5 : S1.2 b = .inl (kd 0, 64, .inl (fun _ => 0)) := by rw [hS1]; exact va_up_self _ _ _
  refine tt_put F_Run_9 d_Run_init_9 m2 f3 (Or.inr ⟨rfl, rfl, rfl⟩) (by first | rfl | decide | exact pk_nz _) (by first | rfl | decide) (by simp) ?_
  obtain ⟨S6, hS6⟩ : ∃ x9, x9 = tset S1 r (.inr (6, [.ref b, .int 0, .int 0, .int 0, .int 0])) := ⟨_, rfl⟩
  refine tt_S hS6 ?_
  have m7 : r ∈ S6.1 := by rw [hS6]; exact m2
  have f8 : S6.2 r = .inr (6, [.ref b, .int 0, .int 0, .int 0, .int 0]) := by rw [hS6]; exact va_up_self _ _ _
  have m9 : b ∈ S6.1 := by rw [hS6]; exact m4
  have f10 : S6.2 b = .inl (kd 0, 64, .inl (fun _ => 0)) := by rw [hS6]; exact (va_up_ne _ _ (Ne.symm n_r_b)).trans f5
  refine tt_aload_n d_Run_init_12 rfl 0 rfl ?_
  refine tt_iconst (v := 0) d_Run_init_13 (by decide) ?_
  refine tt_put F_Run_15 d_Run_init_14 m7 f8 (Or.inl rfl) (by first | rfl | decide | exact pk_nz _) (by first | rfl | decide) (by simp) ?_
  obtain ⟨S11, hS11⟩ : ∃ x9, x9 = tset S6 r (.inr (6, [.ref b, .int 0, .int 0, .int 0, .int 0])) := ⟨_, rfl⟩
  refine tt_S hS11 ?_
  have m12 : r ∈ S11.1 := by rw [hS11]; exact m7
  have f13 : S11.2 r = .inr (6, [.ref b, .int 0, .int 0, .int 0, .int 0]) := by rw [hS11]; exact va_up_self _ _ _
  have m14 : b ∈ S11.1 := by rw [hS11]; exact m9
  have f15 : S11.2 b = .inl (kd 0, 64, .inl (fun _ => 0)) := by rw [hS11]; exact (va_up_ne _ _ (Ne.symm n_r_b)).trans f10
  refine tt_aload_n d_Run_init_17 rfl 0 rfl ?_
  refine tt_iconst (v := 0) d_Run_init_18 (by decide) ?_
  refine tt_put F_Run_19 d_Run_init_19 m12 f13 (Or.inl rfl) (by first | rfl | decide | exact pk_nz _) (by first | rfl | decide) (by simp) ?_
  obtain ⟨S16, hS16⟩ : ∃ x9, x9 = tset S11 r (.inr (6, [.ref b, .int 0, .int 0, .int 0, .int 0])) := ⟨_, rfl⟩
  refine tt_S hS16 ?_
  have m17 : r ∈ S16.1 := by rw [hS16]; exact m12
  have f18 : S16.2 r = .inr (6, [.ref b, .int 0, .int 0, .int 0, .int 0]) := by rw [hS16]; exact va_up_self _ _ _
  have m19 : b ∈ S16.1 := by rw [hS16]; exact m14
  have f20 : S16.2 b = .inl (kd 0, 64, .inl (fun _ => 0)) := by rw [hS16]; exact (va_up_ne _ _ (Ne.symm n_r_b)).trans f15
  refine tt_aload_n d_Run_init_22 rfl 0 rfl ?_
  refine tt_iconst (v := 0) d_Run_init_23 (by decide) ?_
  refine tt_put F_Run_22 d_Run_init_24 m17 f18 (Or.inl rfl) (by first | rfl | decide | exact pk_nz _) (by first | rfl | decide) (by simp) ?_
  obtain ⟨S21, hS21⟩ : ∃ x9, x9 = tset S16 r (.inr (6, [.ref b, .int 0, .int 0, .int 0, .int 0])) := ⟨_, rfl⟩
  refine tt_S hS21 ?_
  have m22 : r ∈ S21.1 := by rw [hS21]; exact m17
  have f23 : S21.2 r = .inr (6, [.ref b, .int 0, .int 0, .int 0, .int 0]) := by rw [hS21]; exact va_up_self _ _ _
  have m24 : b ∈ S21.1 := by rw [hS21]; exact m19
  have f25 : S21.2 b = .inl (kd 0, 64, .inl (fun _ => 0)) := by rw [hS21]; exact (va_up_ne _ _ (Ne.symm n_r_b)).trans f20
  refine tt_aload_n d_Run_init_27 rfl 0 rfl ?_
  refine tt_iconst (v := 0) d_Run_init_28 (by decide) ?_
  refine tt_put F_Run_25 d_Run_init_29 m22 f23 (Or.inl rfl) (by first | rfl | decide | exact pk_nz _) (by first | rfl | decide) (by simp) ?_
  obtain ⟨S26, hS26⟩ : ∃ x9, x9 = tset S21 r (.inr (6, [.ref b, .int 0, .int 0, .int 0, .int 0])) := ⟨_, rfl⟩
  refine tt_S hS26 ?_
  have m27 : r ∈ S26.1 := by rw [hS26]; exact m22
  have f28 : S26.2 r = .inr (6, [.ref b, .int 0, .int 0, .int 0, .int 0]) := by rw [hS26]; exact va_up_self _ _ _
  have m29 : b ∈ S26.1 := by rw [hS26]; exact m24
  have f30 : S26.2 b = .inl (kd 0, 64, .inl (fun _ => 0)) := by rw [hS26]; exact (va_up_ne _ _ (Ne.symm n_r_b)).trans f25
  exact tt_vret rfl (Nat.le_of_ble_eq_true rfl) (Nat.le_of_ble_eq_true rfl)  d_Run_init_32 (by refine ⟨rfl, b, ⟨⟨m27, f28⟩, ⟨m29, f30⟩⟩, ?_⟩; subst_vars; exact (Grown.set (Grown.set (Grown.set (Grown.set (Grown.set (Grown.new Grown.rf hq_b hz_b)))))))
set_option maxHeartbeats 400000 in
set_option maxRecDepth 100000 in
/-- Row(most): an empty row -/
theorem c_Row_init {l : Launch} {D : va_G} {kd : Nat → ClassId} {z : Nat} {S : tS} {r m : Nat} (m_r : r ∈ S.1) (f_r : S.2 r = .inr (5, [.null, .int 0]))  (h1 : 1 ≤ m) (hm : m < 2 ^ 31) (hm2 : m ≤ 536870912) : tM l y_Row_init b_Row_init 2 none [] { frames := 1, cells := 1, slots := m, locals := 40 } D (tyl kd) z [.ref r, .int ((nI m))] S (fun o9 T9 => o9 = .inl none ∧ ∃ b, RowAt kd T9 r b m 0 (fun _ => 0) ∧ Grown S T9 z r [b]) := by
  refine tM.of (own := "FlashVault$Row") (ini := true) (by decide) rfl (fun h => by first | rfl | cases h) (Nat.le_of_ble_eq_true rfl) (lv := [(0, .ref r), (1, .int ((nI m)))]) rfl ?_
  refine tt_aload_n d_Row_init_0 rfl 0 rfl ?_
  refine tt_objInit w_1_47 w_1_40 w_1_41 ⟨Nat.le_of_ble_eq_true rfl, Nat.le_of_ble_eq_true rfl⟩ d_Row_init_1 ?_
  refine tt_aload_n d_Row_init_4 rfl 0 rfl ?_
  refine tt_iconst (v := 0) d_Row_init_5 (by decide) ?_
  refine tt_put F_Row_7 d_Row_init_6 m_r f_r (Or.inl rfl) (by first | rfl | decide | exact pk_nz _) (by first | rfl | decide) (by simp) ?_
  obtain ⟨S1, hS1⟩ : ∃ x9, x9 = tset S r (.inr (5, [.null, .int 0])) := ⟨_, rfl⟩
  refine tt_S hS1 ?_
  have m2 : r ∈ S1.1 := by rw [hS1]; exact m_r
  have f3 : S1.2 r = .inr (5, [.null, .int 0]) := by rw [hS1]; exact va_up_self _ _ _
  refine tt_aload_n d_Row_init_9 rfl 0 rfl ?_
  refine tt_iload_n d_Row_init_10 rfl 1 rfl ?_
  refine tt_iconst (v := 1) d_Row_init_11 (by decide) ?_
  refine tt_mmax w_1_48 w_1_49 w_1_3 w_1_50 ⟨Nat.le_of_ble_eq_true rfl, Nat.le_of_ble_eq_true rfl, Nat.le_of_ble_eq_true rfl, Nat.le_of_ble_eq_true rfl⟩ d_Row_init_12 ?_
  refine tt_newa (atype := .byte) (ty := .byte) (cA := kd 1) (a0 := (m, .inl (fun _ => 0))) (N' := m) 1 rfl (fun _ h => by cases h) w_1_62 rfl (fun _ => rfl) (by rw [mx_1 h1 hm]; exact nI_pos hm) (by rw [mx_1 h1 hm]; exact nI_clamp hm) (by show m * 1 ≤ 536870912; omega) ⟨by first | exact Nat.le_of_ble_eq_true rfl | exact Nat.le_of_eq (Nat.zero_add _), by first | exact Nat.le_of_ble_eq_true rfl | exact Nat.le_of_eq (Nat.zero_add _)⟩ d_Row_init_15 (fun b hq_b hz_b => ?_)
  obtain ⟨S4, hS4⟩ : ∃ x9, x9 = tnew S1 b (.inl (kd 1, m, .inl (fun _ => 0))) := ⟨_, rfl⟩
  refine tt_S hS4 ?_
  have n_r_b : r ≠ b := fun h => hq_b (h ▸ m2)
  have m5 : r ∈ S4.1 := by rw [hS4]; exact List.mem_append_left _ m2
  have f6 : S4.2 r = .inr (5, [.null, .int 0]) := by rw [hS4]; exact (va_up_ne _ _ n_r_b).trans f3
  have m7 : b ∈ S4.1 := by rw [hS4]; exact List.mem_append_right _ (List.mem_singleton.mpr rfl)
  have f8 : S4.2 b = .inl (kd 1, m, .inl (fun _ => 0)) := by rw [hS4]; exact va_up_self _ _ _
  refine tt_put F_Row_19 d_Row_init_17 m5 f6 (Or.inr ⟨rfl, rfl, rfl⟩) (by first | rfl | decide | exact pk_nz _) (by first | rfl | decide) (by simp) ?_
  obtain ⟨S9, hS9⟩ : ∃ x9, x9 = tset S4 r (.inr (5, [.ref b, .int 0])) := ⟨_, rfl⟩
  refine tt_S hS9 ?_
  have m10 : r ∈ S9.1 := by rw [hS9]; exact m5
  have f11 : S9.2 r = .inr (5, [.ref b, .int 0]) := by rw [hS9]; exact va_up_self _ _ _
  have m12 : b ∈ S9.1 := by rw [hS9]; exact m7
  have f13 : S9.2 b = .inl (kd 1, m, .inl (fun _ => 0)) := by rw [hS9]; exact (va_up_ne _ _ (Ne.symm n_r_b)).trans f8
  exact tt_vret rfl (by first | exact Nat.le_of_ble_eq_true rfl | exact Nat.le_of_eq (Nat.zero_add _) | omega) (by first | exact Nat.le_of_ble_eq_true rfl | exact Nat.le_of_eq (Nat.zero_add _) | omega)  d_Row_init_20 (by refine ⟨rfl, b, ⟨⟨m10, f11⟩, ⟨m12, f13⟩⟩, ?_⟩; subst_vars; exact (Grown.set (Grown.new (Grown.set Grown.rf) hq_b hz_b)))
