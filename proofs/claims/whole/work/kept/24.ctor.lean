/-! ===== constructors: Batch, Run; written by wip/gen/ctor.py ===== -/
/-- a batch and its rows -/
def BatchAt (kd : Nat → ClassId) (T : tS) (r d s kl ln pc : Nat) (sz us : Int32) (fd fs fk fl fp : Nat → Int32) : Prop :=
  (r ∈ T.1 ∧ T.2 r = .inr (0, [.ref d, .ref s, .ref kl, .ref ln, .ref pc, .int sz, .int us])) ∧ (d ∈ T.1 ∧ T.2 d = .inl (kd 1, 4100, .inl fd)) ∧ (s ∈ T.1 ∧ T.2 s = .inl (kd 0, 40, .inl fs)) ∧ (kl ∈ T.1 ∧ T.2 kl = .inl (kd 0, 40, .inl fk)) ∧ (ln ∈ T.1 ∧ T.2 ln = .inl (kd 0, 40, .inl fl)) ∧ (pc ∈ T.1 ∧ T.2 pc = .inl (kd 0, 40, .inl fp)) ∧
  (d ≠ s ∧ d ≠ kl ∧ d ≠ ln ∧ d ≠ pc ∧ s ≠ kl ∧ s ≠ ln ∧ s ≠ pc ∧ kl ≠ ln ∧ kl ≠ pc ∧ ln ≠ pc)
/-- new cells came, at the end of the list; of the old ones only r has changed -/
def Grown (S T : tS) (z r : Nat) (qs : List Nat) : Prop := T.1 = S.1 ++ qs ∧ (∀ x ∈ S.1, x ≠ r → T.2 x = S.2 x) ∧ ∀ q ∈ qs, q ∉ S.1 ∧ z ≤ q
theorem Grown.rf {S : tS} {z r : Nat} : Grown S S z r [] := ⟨by simp, fun _ _ _ => rfl, fun _ h => by cases h⟩
theorem Grown.new {S T : tS} {z r q : Nat} {qs : List Nat} {e : va_E} (h : Grown S T z r qs) (hq : q ∉ T.1) (hz : z ≤ q) : Grown S (tnew T q e) z r (qs ++ [q]) := by
  refine ⟨by show T.1 ++ [q] = _; rw [h.1, List.append_assoc], fun x hx hr => ?_, fun y hy => ?_⟩
  · have hxT : x ∈ T.1 := by rw [h.1]; exact List.mem_append_left _ hx
    show va_up T.2 q e x = _
    have hne : x ≠ q := fun h9 => hq (h9 ▸ hxT)
    rw [va_up_ne _ _ hne]
    exact h.2.1 x hx hr
  · rcases List.mem_append.mp hy with h9 | h9
    · exact h.2.2 y h9
    · rw [List.mem_singleton.mp h9]
      exact ⟨fun h8 => hq (by rw [h.1]; exact List.mem_append_left _ h8), hz⟩
theorem Grown.set {S T : tS} {z r : Nat} {qs : List Nat} {e : va_E} (h : Grown S T z r qs) : Grown S (tset T r e) z r qs := by
  refine ⟨h.1, fun x hx hr => ?_, h.2.2⟩
  show va_up T.2 r e x = _
  rw [va_up_ne _ _ hr]
  exact h.2.1 x hx hr
abbrev b_Batch_init : ByteArray := prog_2_method_1_code
def y_Batch_init : MethodName := ⟨"FlashVault$Batch", "<init>", "()V"⟩
theorem d_Batch_init_0 : decode b_Batch_init 0 = .ok (.aload_n 0, 1) := by decide +kernel
theorem d_Batch_init_1 : decode b_Batch_init 1 = .ok (.invokespecial 3, 3) := by decide +kernel
theorem w_1_75 : (Cond.methodLink "FlashVault$Batch" (3 : Nat) ({ cls := "java/lang/Object", name := "<init>", desc := "()V" } : MethodName)) ∈ gW := gW_1 75 rfl rfl
theorem w_1_40 : (Cond.instanceMethod ({ cls := "java/lang/Object", name := "<init>", desc := "()V" } : MethodName)) ∈ gW := gW_1 40 rfl rfl
theorem w_1_41 : (Cond.code ({ cls := "java/lang/Object", name := "<init>", desc := "()V" } : MethodName) object_method_1_code (1 : Nat) (Option.none : Option FieldType)) ∈ gW := gW_1 41 rfl rfl
theorem d_Batch_init_4 : decode b_Batch_init 4 = .ok (.aload_n 0, 1) := by decide +kernel
theorem d_Batch_init_5 : decode b_Batch_init 5 = .ok (.sipush 4100, 3) := by decide +kernel
theorem d_Batch_init_8 : decode b_Batch_init 8 = .ok (.newarray .byte, 2) := by decide +kernel
theorem w_1_62 : (Cond.arrayClass FieldType.byte) ∈ gW := gW_1 62 rfl rfl
theorem d_Batch_init_10 : decode b_Batch_init 10 = .ok (.putfield 9, 3) := by decide +kernel
theorem d_Batch_init_13 : decode b_Batch_init 13 = .ok (.aload_n 0, 1) := by decide +kernel
theorem d_Batch_init_14 : decode b_Batch_init 14 = .ok (.bipush 40, 2) := by decide +kernel
theorem d_Batch_init_16 : decode b_Batch_init 16 = .ok (.newarray .int, 2) := by decide +kernel
theorem w_1_116 : (Cond.arrayClass FieldType.int) ∈ gW := gW_1 116 rfl rfl
theorem d_Batch_init_18 : decode b_Batch_init 18 = .ok (.putfield 15, 3) := by decide +kernel
theorem d_Batch_init_21 : decode b_Batch_init 21 = .ok (.aload_n 0, 1) := by decide +kernel
theorem d_Batch_init_22 : decode b_Batch_init 22 = .ok (.bipush 40, 2) := by decide +kernel
theorem d_Batch_init_24 : decode b_Batch_init 24 = .ok (.newarray .int, 2) := by decide +kernel
theorem d_Batch_init_26 : decode b_Batch_init 26 = .ok (.putfield 19, 3) := by decide +kernel
theorem d_Batch_init_29 : decode b_Batch_init 29 = .ok (.aload_n 0, 1) := by decide +kernel
theorem d_Batch_init_30 : decode b_Batch_init 30 = .ok (.bipush 40, 2) := by decide +kernel
theorem d_Batch_init_32 : decode b_Batch_init 32 = .ok (.newarray .int, 2) := by decide +kernel
theorem d_Batch_init_34 : decode b_Batch_init 34 = .ok (.putfield 22, 3) := by decide +kernel
theorem d_Batch_init_37 : decode b_Batch_init 37 = .ok (.aload_n 0, 1) := by decide +kernel
theorem d_Batch_init_38 : decode b_Batch_init 38 = .ok (.bipush 40, 2) := by decide +kernel
theorem d_Batch_init_40 : decode b_Batch_init 40 = .ok (.newarray .int, 2) := by decide +kernel
theorem d_Batch_init_42 : decode b_Batch_init 42 = .ok (.putfield 25, 3) := by decide +kernel
theorem w_1_92 : (Cond.fieldLink "FlashVault$Batch" (25 : Nat) "FlashVault$Batch" "places" "[I") ∈ gW := gW_1 92 rfl rfl
theorem F_Batch_25 : tF "FlashVault$Batch" 25 0 4 RC0 FC0 7 tC0 := ⟨rfl, by decide, rfl, iC0, kC0, nC0, w_1_92⟩
theorem d_Batch_init_45 : decode b_Batch_init 45 = .ok (.aload_n 0, 1) := by decide +kernel
theorem d_Batch_init_46 : decode b_Batch_init 46 = .ok (.iconst 0, 1) := by decide +kernel
theorem d_Batch_init_47 : decode b_Batch_init 47 = .ok (.putfield 28, 3) := by decide +kernel
theorem d_Batch_init_50 : decode b_Batch_init 50 = .ok (.aload_n 0, 1) := by decide +kernel
theorem d_Batch_init_51 : decode b_Batch_init 51 = .ok (.iconst 0, 1) := by decide +kernel
theorem d_Batch_init_52 : decode b_Batch_init 52 = .ok (.putfield 32, 3) := by decide +kernel
theorem d_Batch_init_55 : decode b_Batch_init 55 = .ok (.return_, 1) := by decide +kernel
set_option maxHeartbeats 4000000 in
set_option maxRecDepth 100000 in
/-- Batch(): empty rows -/
theorem c_Batch_init {l : Launch} {D : va_G} {kd : Nat → ClassId} {z : Nat} {S : tS} {r : Nat} (m_r : r ∈ S.1) (f_r : S.2 r = .inr (0, [.null, .null, .null, .null, .null, .int 0, .int 0]))   : tM l y_Batch_init b_Batch_init 1 none [] { frames := 1, cells := 5, slots := 4260, locals := 20 } D (tyl kd) z [.ref r] S (fun o9 T9 => o9 = .inl none ∧ ∃ d s kl ln pc, BatchAt kd T9 r d s kl ln pc 0 0 (fun _ => 0) (fun _ => 0) (fun _ => 0) (fun _ => 0) (fun _ => 0) ∧ Grown S T9 z r [d, s, kl, ln, pc]) := by
  refine tM.of (own := "FlashVault$Batch") (ini := true) (by decide) rfl (fun h => by first | rfl | cases h) (Nat.le_of_ble_eq_true rfl) (lv := [(0, .ref r)]) rfl ?_
  refine tt_aload_n d_Batch_init_0 rfl 0 rfl ?_
  refine tt_objInit w_1_75 w_1_40 w_1_41 ⟨Nat.le_of_ble_eq_true rfl, Nat.le_of_ble_eq_true rfl⟩ d_Batch_init_1 ?_
  refine tt_aload_n d_Batch_init_4 rfl 0 rfl ?_
  refine tt_sipush (v := 4100) d_Batch_init_5 (by decide) ?_
  refine tt_newa (atype := .byte) (ty := .byte) (cA := kd 1) (a0 := (4100, .inl (fun _ => 0))) (N' := 4100) 1 rfl (fun _ h => by cases h) w_1_62 rfl (fun _ => rfl) (by decide) (rfl) (by decide) ⟨Nat.le_of_ble_eq_true rfl, Nat.le_of_ble_eq_true rfl⟩ d_Batch_init_8 (fun d hq_d hz_d => ?_)
  obtain ⟨S1, hS1⟩ : ∃ x9, x9 = tnew S d (.inl (kd 1, 4100, .inl (fun _ => 0))) := ⟨_, rfl⟩
  refine tt_S hS1 ?_
  have n_r_d : r ≠ d := fun h => hq_d (h ▸ m_r)
  have m2 : r ∈ S1.1 := by rw [hS1]; exact List.mem_append_left _ m_r
  have f3 : S1.2 r = .inr (0, [.null, .null, .null, .null, .null, .int 0, .int 0]) := by rw [hS1]; exact (va_up_ne _ _ n_r_d).trans f_r
  have m4 : d ∈ S1.1 := by rw [hS1]; exact List.mem_append_right _ (List.mem_singleton.mpr rfl)
  have f5 : S1.2 d = .inl (kd 1, 4100, .inl (fun _ => 0)) := by rw [hS1]; exact va_up_self _ _ _
  refine tt_put F_Batch_9 d_Batch_init_10 m2 f3 (Or.inr ⟨rfl, rfl, rfl⟩) (by first | rfl | decide | exact pk_nz _) (by first | rfl | decide) (by simp) ?_
  obtain ⟨S6, hS6⟩ : ∃ x9, x9 = tset S1 r (.inr (0, [.ref d, .null, .null, .null, .null, .int 0, .int 0])) := ⟨_, rfl⟩
  refine tt_S hS6 ?_
  have m7 : r ∈ S6.1 := by rw [hS6]; exact m2
  have f8 : S6.2 r = .inr (0, [.ref d, .null, .null, .null, .null, .int 0, .int 0]) := by rw [hS6]; exact va_up_self _ _ _
  have m9 : d ∈ S6.1 := by rw [hS6]; exact m4
  have f10 : S6.2 d = .inl (kd 1, 4100, .inl (fun _ => 0)) := by rw [hS6]; exact (va_up_ne _ _ (Ne.symm n_r_d)).trans f5
  refine tt_aload_n d_Batch_init_13 rfl 0 rfl ?_
  refine tt_bipush (v := 40) d_Batch_init_14 (by decide) ?_
  refine tt_newa (atype := .int) (ty := .int) (cA := kd 0) (a0 := (40, .inl (fun _ => 0))) (N' := 40) 0 rfl (fun _ h => by cases h) w_1_116 rfl (fun _ => rfl) (by decide) (rfl) (by decide) ⟨Nat.le_of_ble_eq_true rfl, Nat.le_of_ble_eq_true rfl⟩ d_Batch_init_16 (fun s hq_s hz_s => ?_)
  obtain ⟨S11, hS11⟩ : ∃ x9, x9 = tnew S6 s (.inl (kd 0, 40, .inl (fun _ => 0))) := ⟨_, rfl⟩
  refine tt_S hS11 ?_
  have n_r_s : r ≠ s := fun h => hq_s (h ▸ m7)
  have m12 : r ∈ S11.1 := by rw [hS11]; exact List.mem_append_left _ m7
  have f13 : S11.2 r = .inr (0, [.ref d, .null, .null, .null, .null, .int 0, .int 0]) := by rw [hS11]; exact (va_up_ne _ _ n_r_s).trans f8
  have n_d_s : d ≠ s := fun h => hq_s (h ▸ m9)
  have m14 : d ∈ S11.1 := by rw [hS11]; exact List.mem_append_left _ m9
  have f15 : S11.2 d = .inl (kd 1, 4100, .inl (fun _ => 0)) := by rw [hS11]; exact (va_up_ne _ _ n_d_s).trans f10
  have m16 : s ∈ S11.1 := by rw [hS11]; exact List.mem_append_right _ (List.mem_singleton.mpr rfl)
  have f17 : S11.2 s = .inl (kd 0, 40, .inl (fun _ => 0)) := by rw [hS11]; exact va_up_self _ _ _
  refine tt_put F_Batch_15 d_Batch_init_18 m12 f13 (Or.inr ⟨rfl, rfl, rfl⟩) (by first | rfl | decide | exact pk_nz _) (by first | rfl | decide) (by simp) ?_
  obtain ⟨S18, hS18⟩ : ∃ x9, x9 = tset S11 r (.inr (0, [.ref d, .ref s, .null, .null, .null, .int 0, .int 0])) := ⟨_, rfl⟩
  refine tt_S hS18 ?_
  have m19 : r ∈ S18.1 := by rw [hS18]; exact m12
  have f20 : S18.2 r = .inr (0, [.ref d, .ref s, .null, .null, .null, .int 0, .int 0]) := by rw [hS18]; exact va_up_self _ _ _
  have m21 : d ∈ S18.1 := by rw [hS18]; exact m14
  have f22 : S18.2 d = .inl (kd 1, 4100, .inl (fun _ => 0)) := by rw [hS18]; exact (va_up_ne _ _ (Ne.symm n_r_d)).trans f15
  have m23 : s ∈ S18.1 := by rw [hS18]; exact m16
  have f24 : S18.2 s = .inl (kd 0, 40, .inl (fun _ => 0)) := by rw [hS18]; exact (va_up_ne _ _ (Ne.symm n_r_s)).trans f17
  refine tt_aload_n d_Batch_init_21 rfl 0 rfl ?_
  refine tt_bipush (v := 40) d_Batch_init_22 (by decide) ?_
  refine tt_newa (atype := .int) (ty := .int) (cA := kd 0) (a0 := (40, .inl (fun _ => 0))) (N' := 40) 0 rfl (fun _ h => by cases h) w_1_116 rfl (fun _ => rfl) (by decide) (rfl) (by decide) ⟨Nat.le_of_ble_eq_true rfl, Nat.le_of_ble_eq_true rfl⟩ d_Batch_init_24 (fun kl hq_kl hz_kl => ?_)
  obtain ⟨S25, hS25⟩ : ∃ x9, x9 = tnew S18 kl (.inl (kd 0, 40, .inl (fun _ => 0))) := ⟨_, rfl⟩
  refine tt_S hS25 ?_
  have n_r_kl : r ≠ kl := fun h => hq_kl (h ▸ m19)
  have m26 : r ∈ S25.1 := by rw [hS25]; exact List.mem_append_left _ m19
  have f27 : S25.2 r = .inr (0, [.ref d, .ref s, .null, .null, .null, .int 0, .int 0]) := by rw [hS25]; exact (va_up_ne _ _ n_r_kl).trans f20
  have n_d_kl : d ≠ kl := fun h => hq_kl (h ▸ m21)
  have m28 : d ∈ S25.1 := by rw [hS25]; exact List.mem_append_left _ m21
  have f29 : S25.2 d = .inl (kd 1, 4100, .inl (fun _ => 0)) := by rw [hS25]; exact (va_up_ne _ _ n_d_kl).trans f22
  have n_s_kl : s ≠ kl := fun h => hq_kl (h ▸ m23)
  have m30 : s ∈ S25.1 := by rw [hS25]; exact List.mem_append_left _ m23
  have f31 : S25.2 s = .inl (kd 0, 40, .inl (fun _ => 0)) := by rw [hS25]; exact (va_up_ne _ _ n_s_kl).trans f24
  have m32 : kl ∈ S25.1 := by rw [hS25]; exact List.mem_append_right _ (List.mem_singleton.mpr rfl)
  have f33 : S25.2 kl = .inl (kd 0, 40, .inl (fun _ => 0)) := by rw [hS25]; exact va_up_self _ _ _
  refine tt_put F_Batch_19 d_Batch_init_26 m26 f27 (Or.inr ⟨rfl, rfl, rfl⟩) (by first | rfl | decide | exact pk_nz _) (by first | rfl | decide) (by simp) ?_
  obtain ⟨S34, hS34⟩ : ∃ x9, x9 = tset S25 r (.inr (0, [.ref d, .ref s, .ref kl, .null, .null, .int 0, .int 0])) := ⟨_, rfl⟩
  refine tt_S hS34 ?_
  have m35 : r ∈ S34.1 := by rw [hS34]; exact m26
  have f36 : S34.2 r = .inr (0, [.ref d, .ref s, .ref kl, .null, .null, .int 0, .int 0]) := by rw [hS34]; exact va_up_self _ _ _
  have m37 : d ∈ S34.1 := by rw [hS34]; exact m28
  have f38 : S34.2 d = .inl (kd 1, 4100, .inl (fun _ => 0)) := by rw [hS34]; exact (va_up_ne _ _ (Ne.symm n_r_d)).trans f29
  have m39 : s ∈ S34.1 := by rw [hS34]; exact m30
  have f40 : S34.2 s = .inl (kd 0, 40, .inl (fun _ => 0)) := by rw [hS34]; exact (va_up_ne _ _ (Ne.symm n_r_s)).trans f31
  have m41 : kl ∈ S34.1 := by rw [hS34]; exact m32
  have f42 : S34.2 kl = .inl (kd 0, 40, .inl (fun _ => 0)) := by rw [hS34]; exact (va_up_ne _ _ (Ne.symm n_r_kl)).trans f33
  refine tt_aload_n d_Batch_init_29 rfl 0 rfl ?_
  refine tt_bipush (v := 40) d_Batch_init_30 (by decide) ?_
  refine tt_newa (atype := .int) (ty := .int) (cA := kd 0) (a0 := (40, .inl (fun _ => 0))) (N' := 40) 0 rfl (fun _ h => by cases h) w_1_116 rfl (fun _ => rfl) (by decide) (rfl) (by decide) ⟨Nat.le_of_ble_eq_true rfl, Nat.le_of_ble_eq_true rfl⟩ d_Batch_init_32 (fun ln hq_ln hz_ln => ?_)
  obtain ⟨S43, hS43⟩ : ∃ x9, x9 = tnew S34 ln (.inl (kd 0, 40, .inl (fun _ => 0))) := ⟨_, rfl⟩
  refine tt_S hS43 ?_
  have n_r_ln : r ≠ ln := fun h => hq_ln (h ▸ m35)
  have m44 : r ∈ S43.1 := by rw [hS43]; exact List.mem_append_left _ m35
  have f45 : S43.2 r = .inr (0, [.ref d, .ref s, .ref kl, .null, .null, .int 0, .int 0]) := by rw [hS43]; exact (va_up_ne _ _ n_r_ln).trans f36
  have n_d_ln : d ≠ ln := fun h => hq_ln (h ▸ m37)
  have m46 : d ∈ S43.1 := by rw [hS43]; exact List.mem_append_left _ m37
  have f47 : S43.2 d = .inl (kd 1, 4100, .inl (fun _ => 0)) := by rw [hS43]; exact (va_up_ne _ _ n_d_ln).trans f38
  have n_s_ln : s ≠ ln := fun h => hq_ln (h ▸ m39)
  have m48 : s ∈ S43.1 := by rw [hS43]; exact List.mem_append_left _ m39
  have f49 : S43.2 s = .inl (kd 0, 40, .inl (fun _ => 0)) := by rw [hS43]; exact (va_up_ne _ _ n_s_ln).trans f40
  have n_kl_ln : kl ≠ ln := fun h => hq_ln (h ▸ m41)
  have m50 : kl ∈ S43.1 := by rw [hS43]; exact List.mem_append_left _ m41
  have f51 : S43.2 kl = .inl (kd 0, 40, .inl (fun _ => 0)) := by rw [hS43]; exact (va_up_ne _ _ n_kl_ln).trans f42
  have m52 : ln ∈ S43.1 := by rw [hS43]; exact List.mem_append_right _ (List.mem_singleton.mpr rfl)
  have f53 : S43.2 ln = .inl (kd 0, 40, .inl (fun _ => 0)) := by rw [hS43]; exact va_up_self _ _ _
  refine tt_put F_Batch_22 d_Batch_init_34 m44 f45 (Or.inr ⟨rfl, rfl, rfl⟩) (by first | rfl | decide | exact pk_nz _) (by first | rfl | decide) (by simp) ?_
  obtain ⟨S54, hS54⟩ : ∃ x9, x9 = tset S43 r (.inr (0, [.ref d, .ref s, .ref kl, .ref ln, .null, .int 0, .int 0])) := ⟨_, rfl⟩
  refine tt_S hS54 ?_
  have m55 : r ∈ S54.1 := by rw [hS54]; exact m44
  have f56 : S54.2 r = .inr (0, [.ref d, .ref s, .ref kl, .ref ln, .null, .int 0, .int 0]) := by rw [hS54]; exact va_up_self _ _ _
  have m57 : d ∈ S54.1 := by rw [hS54]; exact m46
  have f58 : S54.2 d = .inl (kd 1, 4100, .inl (fun _ => 0)) := by rw [hS54]; exact (va_up_ne _ _ (Ne.symm n_r_d)).trans f47
  have m59 : s ∈ S54.1 := by rw [hS54]; exact m48
  have f60 : S54.2 s = .inl (kd 0, 40, .inl (fun _ => 0)) := by rw [hS54]; exact (va_up_ne _ _ (Ne.symm n_r_s)).trans f49
  have m61 : kl ∈ S54.1 := by rw [hS54]; exact m50
  have f62 : S54.2 kl = .inl (kd 0, 40, .inl (fun _ => 0)) := by rw [hS54]; exact (va_up_ne _ _ (Ne.symm n_r_kl)).trans f51
  have m63 : ln ∈ S54.1 := by rw [hS54]; exact m52
  have f64 : S54.2 ln = .inl (kd 0, 40, .inl (fun _ => 0)) := by rw [hS54]; exact (va_up_ne _ _ (Ne.symm n_r_ln)).trans f53
  refine tt_aload_n d_Batch_init_37 rfl 0 rfl ?_
  refine tt_bipush (v := 40) d_Batch_init_38 (by decide) ?_
  refine tt_newa (atype := .int) (ty := .int) (cA := kd 0) (a0 := (40, .inl (fun _ => 0))) (N' := 40) 0 rfl (fun _ h => by cases h) w_1_116 rfl (fun _ => rfl) (by decide) (rfl) (by decide) ⟨Nat.le_of_ble_eq_true rfl, Nat.le_of_ble_eq_true rfl⟩ d_Batch_init_40 (fun pc hq_pc hz_pc => ?_)
  obtain ⟨S65, hS65⟩ : ∃ x9, x9 = tnew S54 pc (.inl (kd 0, 40, .inl (fun _ => 0))) := ⟨_, rfl⟩
  refine tt_S hS65 ?_
  have n_r_pc : r ≠ pc := fun h => hq_pc (h ▸ m55)
  have m66 : r ∈ S65.1 := by rw [hS65]; exact List.mem_append_left _ m55
  have f67 : S65.2 r = .inr (0, [.ref d, .ref s, .ref kl, .ref ln, .null, .int 0, .int 0]) := by rw [hS65]; exact (va_up_ne _ _ n_r_pc).trans f56
  have n_d_pc : d ≠ pc := fun h => hq_pc (h ▸ m57)
  have m68 : d ∈ S65.1 := by rw [hS65]; exact List.mem_append_left _ m57
  have f69 : S65.2 d = .inl (kd 1, 4100, .inl (fun _ => 0)) := by rw [hS65]; exact (va_up_ne _ _ n_d_pc).trans f58
  have n_s_pc : s ≠ pc := fun h => hq_pc (h ▸ m59)
  have m70 : s ∈ S65.1 := by rw [hS65]; exact List.mem_append_left _ m59
  have f71 : S65.2 s = .inl (kd 0, 40, .inl (fun _ => 0)) := by rw [hS65]; exact (va_up_ne _ _ n_s_pc).trans f60
  have n_kl_pc : kl ≠ pc := fun h => hq_pc (h ▸ m61)
  have m72 : kl ∈ S65.1 := by rw [hS65]; exact List.mem_append_left _ m61
  have f73 : S65.2 kl = .inl (kd 0, 40, .inl (fun _ => 0)) := by rw [hS65]; exact (va_up_ne _ _ n_kl_pc).trans f62
  have n_ln_pc : ln ≠ pc := fun h => hq_pc (h ▸ m63)
  have m74 : ln ∈ S65.1 := by rw [hS65]; exact List.mem_append_left _ m63
  have f75 : S65.2 ln = .inl (kd 0, 40, .inl (fun _ => 0)) := by rw [hS65]; exact (va_up_ne _ _ n_ln_pc).trans f64
  have m76 : pc ∈ S65.1 := by rw [hS65]; exact List.mem_append_right _ (List.mem_singleton.mpr rfl)
  have f77 : S65.2 pc = .inl (kd 0, 40, .inl (fun _ => 0)) := by rw [hS65]; exact va_up_self _ _ _
  refine tt_put F_Batch_25 d_Batch_init_42 m66 f67 (Or.inr ⟨rfl, rfl, rfl⟩) (by first | rfl | decide | exact pk_nz _) (by first | rfl | decide) (by simp) ?_
  obtain ⟨S78, hS78⟩ : ∃ x9, x9 = tset S65 r (.inr (0, [.ref d, .ref s, .ref kl, .ref ln, .ref pc, .int 0, .int 0])) := ⟨_, rfl⟩
  refine tt_S hS78 ?_
  have m79 : r ∈ S78.1 := by rw [hS78]; exact m66
  have f80 : S78.2 r = .inr (0, [.ref d, .ref s, .ref kl, .ref ln, .ref pc, .int 0, .int 0]) := by rw [hS78]; exact va_up_self _ _ _
  have m81 : d ∈ S78.1 := by rw [hS78]; exact m68
  have f82 : S78.2 d = .inl (kd 1, 4100, .inl (fun _ => 0)) := by rw [hS78]; exact (va_up_ne _ _ (Ne.symm n_r_d)).trans f69
  have m83 : s ∈ S78.1 := by rw [hS78]; exact m70
  have f84 : S78.2 s = .inl (kd 0, 40, .inl (fun _ => 0)) := by rw [hS78]; exact (va_up_ne _ _ (Ne.symm n_r_s)).trans f71
  have m85 : kl ∈ S78.1 := by rw [hS78]; exact m72
  have f86 : S78.2 kl = .inl (kd 0, 40, .inl (fun _ => 0)) := by rw [hS78]; exact (va_up_ne _ _ (Ne.symm n_r_kl)).trans f73
  have m87 : ln ∈ S78.1 := by rw [hS78]; exact m74
  have f88 : S78.2 ln = .inl (kd 0, 40, .inl (fun _ => 0)) := by rw [hS78]; exact (va_up_ne _ _ (Ne.symm n_r_ln)).trans f75
  have m89 : pc ∈ S78.1 := by rw [hS78]; exact m76
  have f90 : S78.2 pc = .inl (kd 0, 40, .inl (fun _ => 0)) := by rw [hS78]; exact (va_up_ne _ _ (Ne.symm n_r_pc)).trans f77
  refine tt_aload_n d_Batch_init_45 rfl 0 rfl ?_
  refine tt_iconst (v := 0) d_Batch_init_46 (by decide) ?_
  refine tt_put F_Batch_28 d_Batch_init_47 m79 f80 (Or.inl rfl) (by first | rfl | decide | exact pk_nz _) (by first | rfl | decide) (by simp) ?_
  obtain ⟨S91, hS91⟩ : ∃ x9, x9 = tset S78 r (.inr (0, [.ref d, .ref s, .ref kl, .ref ln, .ref pc, .int 0, .int 0])) := ⟨_, rfl⟩
  refine tt_S hS91 ?_
  have m92 : r ∈ S91.1 := by rw [hS91]; exact m79
  have f93 : S91.2 r = .inr (0, [.ref d, .ref s, .ref kl, .ref ln, .ref pc, .int 0, .int 0]) := by rw [hS91]; exact va_up_self _ _ _
  have m94 : d ∈ S91.1 := by rw [hS91]; exact m81
  have f95 : S91.2 d = .inl (kd 1, 4100, .inl (fun _ => 0)) := by rw [hS91]; exact (va_up_ne _ _ (Ne.symm n_r_d)).trans f82
  have m96 : s ∈ S91.1 := by rw [hS91]; exact m83
  have f97 : S91.2 s = .inl (kd 0, 40, .inl (fun _ => 0)) := by rw [hS91]; exact (va_up_ne _ _ (Ne.symm n_r_s)).trans f84
  have m98 : kl ∈ S91.1 := by rw [hS91]; exact m85
  have f99 : S91.2 kl = .inl (kd 0, 40, .inl (fun _ => 0)) := by rw [hS91]; exact (va_up_ne _ _ (Ne.symm n_r_kl)).trans f86
  have m100 : ln ∈ S91.1 := by rw [hS91]; exact m87
  have f101 : S91.2 ln = .inl (kd 0, 40, .inl (fun _ => 0)) := by rw [hS91]; exact (va_up_ne _ _ (Ne.symm n_r_ln)).trans f88
  have m102 : pc ∈ S91.1 := by rw [hS91]; exact m89
  have f103 : S91.2 pc = .inl (kd 0, 40, .inl (fun _ => 0)) := by rw [hS91]; exact (va_up_ne _ _ (Ne.symm n_r_pc)).trans f90
  refine tt_aload_n d_Batch_init_50 rfl 0 rfl ?_
  refine tt_iconst (v := 0) d_Batch_init_51 (by decide) ?_
  refine tt_put F_Batch_32 d_Batch_init_52 m92 f93 (Or.inl rfl) (by first | rfl | decide | exact pk_nz _) (by first | rfl | decide) (by simp) ?_
  obtain ⟨S104, hS104⟩ : ∃ x9, x9 = tset S91 r (.inr (0, [.ref d, .ref s, .ref kl, .ref ln, .ref pc, .int 0, .int 0])) := ⟨_, rfl⟩
  refine tt_S hS104 ?_
  have m105 : r ∈ S104.1 := by rw [hS104]; exact m92
  have f106 : S104.2 r = .inr (0, [.ref d, .ref s, .ref kl, .ref ln, .ref pc, .int 0, .int 0]) := by rw [hS104]; exact va_up_self _ _ _
  have m107 : d ∈ S104.1 := by rw [hS104]; exact m94
  have f108 : S104.2 d = .inl (kd 1, 4100, .inl (fun _ => 0)) := by rw [hS104]; exact (va_up_ne _ _ (Ne.symm n_r_d)).trans f95
  have m109 : s ∈ S104.1 := by rw [hS104]; exact m96
  have f110 : S104.2 s = .inl (kd 0, 40, .inl (fun _ => 0)) := by rw [hS104]; exact (va_up_ne _ _ (Ne.symm n_r_s)).trans f97
  have m111 : kl ∈ S104.1 := by rw [hS104]; exact m98
  have f112 : S104.2 kl = .inl (kd 0, 40, .inl (fun _ => 0)) := by rw [hS104]; exact (va_up_ne _ _ (Ne.symm n_r_kl)).trans f99
  have m113 : ln ∈ S104.1 := by rw [hS104]; exact m100
  have f114 : S104.2 ln = .inl (kd 0, 40, .inl (fun _ => 0)) := by rw [hS104]; exact (va_up_ne _ _ (Ne.symm n_r_ln)).trans f101
  have m115 : pc ∈ S104.1 := by rw [hS104]; exact m102
  have f116 : S104.2 pc = .inl (kd 0, 40, .inl (fun _ => 0)) := by rw [hS104]; exact (va_up_ne _ _ (Ne.symm n_r_pc)).trans f103
  exact tt_vret rfl (Nat.le_of_ble_eq_true rfl) (Nat.le_of_ble_eq_true rfl)  d_Batch_init_55 (by refine ⟨rfl, d, s, kl, ln, pc, ⟨⟨m105, f106⟩, ⟨m107, f108⟩, ⟨m109, f110⟩, ⟨m111, f112⟩, ⟨m113, f114⟩, ⟨m115, f116⟩, ⟨n_d_s, n_d_kl, n_d_ln, n_d_pc, n_s_kl, n_s_ln, n_s_pc, n_kl_ln, n_kl_pc, n_ln_pc⟩⟩, ?_⟩; subst_vars; exact (Grown.set (Grown.set (Grown.set (Grown.new (Grown.set (Grown.new (Grown.set (Grown.new (Grown.set (Grown.new (Grown.set (Grown.new Grown.rf hq_d hz_d)) hq_s hz_s)) hq_kl hz_kl)) hq_ln hz_ln)) hq_pc hz_pc)))))
