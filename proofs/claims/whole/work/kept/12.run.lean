/-! ===== leaves: class Run; written by wip/gen/run.py ===== -/
theorem gW_sel {w : Cond} (i : Nat) (h : (k2_sels lw_privs)[i]? = some w) (hg : goodWord w = true) : w ∈ gW := List.mem_filter.mpr ⟨List.mem_append_left _ (List.mem_of_getElem? h), hg⟩
theorem nz_ite {c : Prop} [Decidable c] : narrow .boolean (.int (if c then 1 else 0)) = .int (if c then 1 else 0) := by by_cases h : c <;> simp [h] <;> rfl
theorem vz0 : vp_nar .boolean 0 = 0 := rfl
theorem vz1 : vp_nar .boolean 1 = 1 := rfl
theorem is_in {t : Int32} {f : Nat → Int32} (h : ¬ (if ¬ t < 0 ∧ ¬ 8 ≤ t ∧ ¬ f t.toNatClampNeg = 0 then (1 : Int32) else 0) = 0) : vp_in t 8 := by
  by_cases h1 : ¬ t < 0 ∧ ¬ 8 ≤ t ∧ ¬ f t.toNatClampNeg = 0
  · exact vi_of h1.1 h1.2.1 (by decide)
  · rw [if_neg h1] at h; exact absurd rfl h
theorem vi_64 {x c : Int32} {o : Int32} (h0 : ¬ o < 0) (h1 : ¬ c ≤ x) (hx : x = o / 2048) (hc : ¬ c < 0 ∧ ¬ 64 < c) : vp_in x 64 := by
  obtain ⟨o', ho, rfl⟩ := nI_of h0
  have e : x = nI (o' / 2048) := by rw [hx]; exact pk_div (d := 2048) ho (by decide) (by decide)
  obtain ⟨c', hc', rfl⟩ := nI_of hc.1
  have h2 : c' ≤ 64 := by
    have := mt (nI_ltI (a := 64) (b := c') (by decide) hc').mpr hc.2
    omega
  rw [e] at h1 ⊢
  have h3 := mt (nI_leI (a := c') (b := o' / 2048) hc' (by omega)).mpr h1
  exact vp_in_nI (by omega) (by decide)
abbrev b_Run_clear : ByteArray := prog_8_method_2_code
def y_Run_clear : MethodName := ⟨"FlashVault$Run", "clear", "(I)V"⟩
theorem d_Run_clear_0 : decode b_Run_clear 0 = .ok (.aload_n 0, 1) := by decide +kernel
theorem d_Run_clear_1 : decode b_Run_clear 1 = .ok (.iconst 0, 1) := by decide +kernel
theorem d_Run_clear_2 : decode b_Run_clear 2 = .ok (.putfield 15, 3) := by decide +kernel
theorem w_2_33 : (Cond.fieldLink "FlashVault$Run" (15 : Nat) "FlashVault$Run" "idCount" "I") ∈ gW := gW_2 33 rfl rfl
theorem F_Run_15 : tF "FlashVault$Run" 15 6 1 RC6 FC6 5 tC6 := ⟨rfl, by decide, rfl, iC6, kC6, nC6, w_2_33⟩
theorem d_Run_clear_5 : decode b_Run_clear 5 = .ok (.aload_n 0, 1) := by decide +kernel
theorem d_Run_clear_6 : decode b_Run_clear 6 = .ok (.iload_n 1, 1) := by decide +kernel
theorem d_Run_clear_7 : decode b_Run_clear 7 = .ok (.putfield 19, 3) := by decide +kernel
theorem w_2_35 : (Cond.fieldLink "FlashVault$Run" (19 : Nat) "FlashVault$Run" "level" "I") ∈ gW := gW_2 35 rfl rfl
theorem F_Run_19 : tF "FlashVault$Run" 19 6 2 RC6 FC6 5 tC6 := ⟨rfl, by decide, rfl, iC6, kC6, nC6, w_2_35⟩
theorem d_Run_clear_10 : decode b_Run_clear 10 = .ok (.aload_n 0, 1) := by decide +kernel
theorem d_Run_clear_11 : decode b_Run_clear 11 = .ok (.iconst 0, 1) := by decide +kernel
theorem d_Run_clear_12 : decode b_Run_clear 12 = .ok (.putfield 22, 3) := by decide +kernel
theorem w_2_38 : (Cond.fieldLink "FlashVault$Run" (22 : Nat) "FlashVault$Run" "length" "I") ∈ gW := gW_2 38 rfl rfl
theorem F_Run_22 : tF "FlashVault$Run" 22 6 3 RC6 FC6 5 tC6 := ⟨rfl, by decide, rfl, iC6, kC6, nC6, w_2_38⟩
theorem d_Run_clear_15 : decode b_Run_clear 15 = .ok (.aload_n 0, 1) := by decide +kernel
theorem d_Run_clear_16 : decode b_Run_clear 16 = .ok (.iconst 0, 1) := by decide +kernel
theorem d_Run_clear_17 : decode b_Run_clear 17 = .ok (.putfield 25, 3) := by decide +kernel
theorem w_2_42 : (Cond.fieldLink "FlashVault$Run" (25 : Nat) "FlashVault$Run" "entries" "I") ∈ gW := gW_2 42 rfl rfl
theorem F_Run_25 : tF "FlashVault$Run" 25 6 4 RC6 FC6 5 tC6 := ⟨rfl, by decide, rfl, iC6, kC6, nC6, w_2_42⟩
theorem d_Run_clear_20 : decode b_Run_clear 20 = .ok (.return_, 1) := by decide +kernel
abbrev b_Run_addressOf : ByteArray := prog_8_method_4_code
def y_Run_addressOf : MethodName := ⟨"FlashVault$Run", "addressOf", "(I)I"⟩
theorem d_Run_addressOf_0 : decode b_Run_addressOf 0 = .ok (.iload_n 1, 1) := by decide +kernel
theorem d_Run_addressOf_1 : decode b_Run_addressOf 1 = .ok (.sipush 2048, 3) := by decide +kernel
theorem d_Run_addressOf_4 : decode b_Run_addressOf 4 = .ok (.idiv, 1) := by decide +kernel
theorem d_Run_addressOf_5 : decode b_Run_addressOf 5 = .ok (.istore_n 2, 1) := by decide +kernel
theorem d_Run_addressOf_6 : decode b_Run_addressOf 6 = .ok (.iload_n 1, 1) := by decide +kernel
theorem d_Run_addressOf_7 : decode b_Run_addressOf 7 = .ok (.ifCond .lt 11, 3) := by decide +kernel
theorem d_Run_addressOf_18 : decode b_Run_addressOf 18 = .ok (.iconst (-1), 1) := by decide +kernel
theorem d_Run_addressOf_19 : decode b_Run_addressOf 19 = .ok (.goto 19, 3) := by decide +kernel
theorem d_Run_addressOf_38 : decode b_Run_addressOf 38 = .ok (.ireturn, 1) := by decide +kernel
theorem d_Run_addressOf_10 : decode b_Run_addressOf 10 = .ok (.iload_n 2, 1) := by decide +kernel
theorem d_Run_addressOf_11 : decode b_Run_addressOf 11 = .ok (.aload_n 0, 1) := by decide +kernel
theorem d_Run_addressOf_12 : decode b_Run_addressOf 12 = .ok (.getfield 15, 3) := by decide +kernel
theorem d_Run_addressOf_15 : decode b_Run_addressOf 15 = .ok (.if_icmp .lt 7, 3) := by decide +kernel
theorem d_Run_addressOf_22 : decode b_Run_addressOf 22 = .ok (.aload_n 0, 1) := by decide +kernel
theorem d_Run_addressOf_23 : decode b_Run_addressOf 23 = .ok (.getfield 9, 3) := by decide +kernel
theorem w_2_31 : (Cond.fieldLink "FlashVault$Run" (9 : Nat) "FlashVault$Run" "ids" "[I") ∈ gW := gW_2 31 rfl rfl
theorem F_Run_9 : tF "FlashVault$Run" 9 6 0 RC6 FC6 5 tC6 := ⟨rfl, by decide, rfl, iC6, kC6, nC6, w_2_31⟩
theorem d_Run_addressOf_26 : decode b_Run_addressOf 26 = .ok (.iload_n 2, 1) := by decide +kernel
theorem d_Run_addressOf_27 : decode b_Run_addressOf 27 = .ok (.iaload, 1) := by decide +kernel
theorem d_Run_addressOf_28 : decode b_Run_addressOf 28 = .ok (.sipush 2048, 3) := by decide +kernel
theorem d_Run_addressOf_31 : decode b_Run_addressOf 31 = .ok (.imul, 1) := by decide +kernel
theorem d_Run_addressOf_32 : decode b_Run_addressOf 32 = .ok (.iload_n 1, 1) := by decide +kernel
theorem d_Run_addressOf_33 : decode b_Run_addressOf 33 = .ok (.sipush 2048, 3) := by decide +kernel
theorem d_Run_addressOf_36 : decode b_Run_addressOf 36 = .ok (.irem, 1) := by decide +kernel
theorem d_Run_addressOf_37 : decode b_Run_addressOf 37 = .ok (.iadd, 1) := by decide +kernel
abbrev b_Run_add : ByteArray := prog_8_method_3_code
def y_Run_add : MethodName := ⟨"FlashVault$Run", "add", "(II)V"⟩
theorem d_Run_add_0 : decode b_Run_add 0 = .ok (.aload_n 0, 1) := by decide +kernel
theorem d_Run_add_1 : decode b_Run_add 1 = .ok (.getfield 15, 3) := by decide +kernel
theorem d_Run_add_4 : decode b_Run_add 4 = .ok (.bipush 64, 2) := by decide +kernel
theorem d_Run_add_6 : decode b_Run_add 6 = .ok (.if_icmp .ge 33, 3) := by decide +kernel
theorem d_Run_add_39 : decode b_Run_add 39 = .ok (.return_, 1) := by decide +kernel
theorem d_Run_add_9 : decode b_Run_add 9 = .ok (.aload_n 0, 1) := by decide +kernel
theorem d_Run_add_10 : decode b_Run_add 10 = .ok (.getfield 9, 3) := by decide +kernel
theorem d_Run_add_13 : decode b_Run_add 13 = .ok (.aload_n 0, 1) := by decide +kernel
theorem d_Run_add_14 : decode b_Run_add 14 = .ok (.getfield 15, 3) := by decide +kernel
theorem d_Run_add_17 : decode b_Run_add 17 = .ok (.iload_n 1, 1) := by decide +kernel
theorem d_Run_add_18 : decode b_Run_add 18 = .ok (.iastore, 1) := by decide +kernel
theorem d_Run_add_19 : decode b_Run_add 19 = .ok (.aload_n 0, 1) := by decide +kernel
theorem d_Run_add_20 : decode b_Run_add 20 = .ok (.dup, 1) := by decide +kernel
theorem d_Run_add_21 : decode b_Run_add 21 = .ok (.getfield 15, 3) := by decide +kernel
theorem d_Run_add_24 : decode b_Run_add 24 = .ok (.iconst 1, 1) := by decide +kernel
theorem d_Run_add_25 : decode b_Run_add 25 = .ok (.iadd, 1) := by decide +kernel
theorem d_Run_add_26 : decode b_Run_add 26 = .ok (.putfield 15, 3) := by decide +kernel
theorem d_Run_add_29 : decode b_Run_add 29 = .ok (.aload_n 0, 1) := by decide +kernel
theorem d_Run_add_30 : decode b_Run_add 30 = .ok (.dup, 1) := by decide +kernel
theorem d_Run_add_31 : decode b_Run_add 31 = .ok (.getfield 22, 3) := by decide +kernel
theorem d_Run_add_34 : decode b_Run_add 34 = .ok (.iload_n 2, 1) := by decide +kernel
theorem d_Run_add_35 : decode b_Run_add 35 = .ok (.iadd, 1) := by decide +kernel
theorem d_Run_add_36 : decode b_Run_add 36 = .ok (.putfield 22, 3) := by decide +kernel
abbrev b_Sight_isOpen : ByteArray := prog_9_method_4_code
def y_Sight_isOpen : MethodName := ⟨"FlashVault$Sight", "isOpen", "(I)Z"⟩
theorem d_Sight_isOpen_0 : decode b_Sight_isOpen 0 = .ok (.iload_n 1, 1) := by decide +kernel
theorem d_Sight_isOpen_1 : decode b_Sight_isOpen 1 = .ok (.ifCond .lt 22, 3) := by decide +kernel
theorem d_Sight_isOpen_23 : decode b_Sight_isOpen 23 = .ok (.iconst 0, 1) := by decide +kernel
theorem d_Sight_isOpen_24 : decode b_Sight_isOpen 24 = .ok (.ireturn, 1) := by decide +kernel
theorem d_Sight_isOpen_4 : decode b_Sight_isOpen 4 = .ok (.iload_n 1, 1) := by decide +kernel
theorem d_Sight_isOpen_5 : decode b_Sight_isOpen 5 = .ok (.bipush 8, 2) := by decide +kernel
theorem d_Sight_isOpen_7 : decode b_Sight_isOpen 7 = .ok (.if_icmp .ge 16, 3) := by decide +kernel
theorem d_Sight_isOpen_10 : decode b_Sight_isOpen 10 = .ok (.aload_n 0, 1) := by decide +kernel
theorem d_Sight_isOpen_11 : decode b_Sight_isOpen 11 = .ok (.getfield 9, 3) := by decide +kernel
theorem w_1_117 : (Cond.fieldLink "FlashVault$Sight" (9 : Nat) "FlashVault$Sight" "open" "[Z") ∈ gW := gW_1 117 rfl rfl
theorem F_Sight_9 : tF "FlashVault$Sight" 9 7 0 RC7 FC7 3 tC7 := ⟨rfl, by decide, rfl, iC7, kC7, nC7, w_1_117⟩
theorem d_Sight_isOpen_14 : decode b_Sight_isOpen 14 = .ok (.iload_n 1, 1) := by decide +kernel
theorem d_Sight_isOpen_15 : decode b_Sight_isOpen 15 = .ok (.baload, 1) := by decide +kernel
theorem d_Sight_isOpen_16 : decode b_Sight_isOpen 16 = .ok (.ifCond .eq 7, 3) := by decide +kernel
theorem d_Sight_isOpen_19 : decode b_Sight_isOpen 19 = .ok (.iconst 1, 1) := by decide +kernel
theorem d_Sight_isOpen_20 : decode b_Sight_isOpen 20 = .ok (.goto 4, 3) := by decide +kernel
abbrev b_Sight_close : ByteArray := prog_9_method_8_code
def y_Sight_close : MethodName := ⟨"FlashVault$Sight", "close", "(I)V"⟩
theorem d_Sight_close_0 : decode b_Sight_close 0 = .ok (.iload_n 1, 1) := by decide +kernel
theorem d_Sight_close_1 : decode b_Sight_close 1 = .ok (.ifCond .lt 16, 3) := by decide +kernel
theorem d_Sight_close_17 : decode b_Sight_close 17 = .ok (.return_, 1) := by decide +kernel
theorem d_Sight_close_4 : decode b_Sight_close 4 = .ok (.iload_n 1, 1) := by decide +kernel
theorem d_Sight_close_5 : decode b_Sight_close 5 = .ok (.bipush 8, 2) := by decide +kernel
theorem d_Sight_close_7 : decode b_Sight_close 7 = .ok (.if_icmp .ge 10, 3) := by decide +kernel
theorem d_Sight_close_10 : decode b_Sight_close 10 = .ok (.aload_n 0, 1) := by decide +kernel
theorem d_Sight_close_11 : decode b_Sight_close 11 = .ok (.getfield 9, 3) := by decide +kernel
theorem d_Sight_close_14 : decode b_Sight_close 14 = .ok (.iload_n 1, 1) := by decide +kernel
theorem d_Sight_close_15 : decode b_Sight_close 15 = .ok (.iconst 0, 1) := by decide +kernel
theorem d_Sight_close_16 : decode b_Sight_close 16 = .ok (.bastore, 1) := by decide +kernel
abbrev b_Sight_momentOf : ByteArray := prog_9_method_5_code
def y_Sight_momentOf : MethodName := ⟨"FlashVault$Sight", "momentOf", "(I)I"⟩
theorem d_Sight_momentOf_0 : decode b_Sight_momentOf 0 = .ok (.aload_n 0, 1) := by decide +kernel
theorem d_Sight_momentOf_1 : decode b_Sight_momentOf 1 = .ok (.iload_n 1, 1) := by decide +kernel
theorem d_Sight_momentOf_2 : decode b_Sight_momentOf 2 = .ok (.invokevirtual 26, 3) := by decide +kernel
theorem w_4_135 : (Cond.methodLink "FlashVault$Sight" (26 : Nat) ({ cls := "FlashVault$Sight", name := "isOpen", desc := "(I)Z" } : MethodName)) ∈ gW := gW_4 135 rfl rfl
theorem w_1_4 : (Cond.initialized "FlashVault$Sight") ∈ gW := gW_1 4 rfl rfl
theorem w_4_23 : (Cond.code ({ cls := "FlashVault$Sight", name := "isOpen", desc := "(I)Z" } : MethodName) prog_9_method_4_code (2 : Nat) (Option.some FieldType.boolean)) ∈ gW := gW_4 23 rfl rfl
theorem w_4_22 : (Cond.selects "FlashVault$Sight" ({ cls := "FlashVault$Sight", name := "isOpen", desc := "(I)Z" } : MethodName) ({ cls := "FlashVault$Sight", name := "isOpen", desc := "(I)Z" } : MethodName)) ∈ gW := gW_4 22 rfl rfl
theorem w_4_21 : (Cond.instanceMethod ({ cls := "FlashVault$Sight", name := "isOpen", desc := "(I)Z" } : MethodName)) ∈ gW := gW_4 21 rfl rfl
theorem d_Sight_momentOf_5 : decode b_Sight_momentOf 5 = .ok (.ifCond .eq 12, 3) := by decide +kernel
theorem d_Sight_momentOf_17 : decode b_Sight_momentOf 17 = .ok (.iconst 0, 1) := by decide +kernel
theorem d_Sight_momentOf_18 : decode b_Sight_momentOf 18 = .ok (.ireturn, 1) := by decide +kernel
theorem d_Sight_momentOf_8 : decode b_Sight_momentOf 8 = .ok (.aload_n 0, 1) := by decide +kernel
theorem d_Sight_momentOf_9 : decode b_Sight_momentOf 9 = .ok (.getfield 15, 3) := by decide +kernel
theorem w_1_118 : (Cond.fieldLink "FlashVault$Sight" (15 : Nat) "FlashVault$Sight" "moments" "[I") ∈ gW := gW_1 118 rfl rfl
theorem F_Sight_15 : tF "FlashVault$Sight" 15 7 1 RC7 FC7 3 tC7 := ⟨rfl, by decide, rfl, iC7, kC7, nC7, w_1_118⟩
theorem d_Sight_momentOf_12 : decode b_Sight_momentOf 12 = .ok (.iload_n 1, 1) := by decide +kernel
theorem d_Sight_momentOf_13 : decode b_Sight_momentOf 13 = .ok (.iaload, 1) := by decide +kernel
theorem d_Sight_momentOf_14 : decode b_Sight_momentOf 14 = .ok (.goto 4, 3) := by decide +kernel
set_option maxHeartbeats 4000000 in
set_option maxRecDepth 100000 in
/-- Run.clear(level) -/
theorem c_Run_clear {l : Launch} {D : va_G} {kd : Nat → ClassId} {z : Nat} {S : tS} {r b : Nat} {c v n e : Int32} {f : Nat → Int32} {nl : Int32} (m_r : r ∈ S.1) (f_r : S.2 r = .inr (6, [.ref b, .int c, .int v, .int n, .int e])) (m_b : b ∈ S.1) (f_b : S.2 b = .inl (kd 0, 64, .inl f))   : tM l y_Run_clear b_Run_clear 2 none [] {} D (tyl kd) z [.ref r, .int nl] S (fun o9 T9 => T9 = tset S r (.inr (6, [.ref b, .int 0, .int nl, .int 0, .int 0])) ∧ o9 = .inl none) := by
  refine tM.of (own := "FlashVault$Run") (ini := false) (by decide) rfl (fun h => by first | rfl | cases h) (Nat.le_of_ble_eq_true rfl) (lv := [(0, .ref r), (1, .int nl)]) rfl ?_
  refine tt_aload_n d_Run_clear_0 rfl 0 rfl ?_
  refine tt_iconst (v := 0) d_Run_clear_1 (by decide) ?_
  refine tt_put F_Run_15 d_Run_clear_2 m_r f_r (Or.inl rfl) (by first | rfl | decide | exact pk_nz _) (by first | rfl | decide) (by simp) ?_
  obtain ⟨S1, hS1⟩ : ∃ x9, x9 = tset S r (.inr (6, [.ref b, .int 0, .int v, .int n, .int e])) := ⟨_, rfl⟩
  refine tt_S hS1 ?_
  have m2 : r ∈ S1.1 := by rw [hS1]; exact m_r
  have f3 : S1.2 r = .inr (6, [.ref b, .int 0, .int v, .int n, .int e]) := by rw [hS1]; exact va_up_self _ _ _
  have m4 : b ∈ S1.1 := by rw [hS1]; exact m_b
  have f5 : S1.2 b = .inl (kd 0, 64, .inl f) := by rw [hS1]; exact (va_up_ne _ _ (fun h => by have h9 := f_b; rw [h, f_r] at h9; cases h9)).trans f_b
  refine tt_aload_n d_Run_clear_5 rfl 0 rfl ?_
  refine tt_iload_n d_Run_clear_6 rfl 1 rfl ?_
  refine tt_put F_Run_19 d_Run_clear_7 m2 f3 (Or.inl rfl) (by first | rfl | decide | exact pk_nz _) (by first | rfl | decide) (by simp) ?_
  obtain ⟨S6, hS6⟩ : ∃ x9, x9 = tset S1 r (.inr (6, [.ref b, .int 0, .int nl, .int n, .int e])) := ⟨_, rfl⟩
  refine tt_S hS6 ?_
  have m7 : r ∈ S6.1 := by rw [hS6]; exact m2
  have f8 : S6.2 r = .inr (6, [.ref b, .int 0, .int nl, .int n, .int e]) := by rw [hS6]; exact va_up_self _ _ _
  have m9 : b ∈ S6.1 := by rw [hS6]; exact m4
  have f10 : S6.2 b = .inl (kd 0, 64, .inl f) := by rw [hS6]; exact (va_up_ne _ _ (fun h => by have h9 := f_b; rw [h, f_r] at h9; cases h9)).trans f5
  refine tt_aload_n d_Run_clear_10 rfl 0 rfl ?_
  refine tt_iconst (v := 0) d_Run_clear_11 (by decide) ?_
  refine tt_put F_Run_22 d_Run_clear_12 m7 f8 (Or.inl rfl) (by first | rfl | decide | exact pk_nz _) (by first | rfl | decide) (by simp) ?_
  obtain ⟨S11, hS11⟩ : ∃ x9, x9 = tset S6 r (.inr (6, [.ref b, .int 0, .int nl, .int 0, .int e])) := ⟨_, rfl⟩
  refine tt_S hS11 ?_
  have m12 : r ∈ S11.1 := by rw [hS11]; exact m7
  have f13 : S11.2 r = .inr (6, [.ref b, .int 0, .int nl, .int 0, .int e]) := by rw [hS11]; exact va_up_self _ _ _
  have m14 : b ∈ S11.1 := by rw [hS11]; exact m9
  have f15 : S11.2 b = .inl (kd 0, 64, .inl f) := by rw [hS11]; exact (va_up_ne _ _ (fun h => by have h9 := f_b; rw [h, f_r] at h9; cases h9)).trans f10
  refine tt_aload_n d_Run_clear_15 rfl 0 rfl ?_
  refine tt_iconst (v := 0) d_Run_clear_16 (by decide) ?_
  refine tt_put F_Run_25 d_Run_clear_17 m12 f13 (Or.inl rfl) (by first | rfl | decide | exact pk_nz _) (by first | rfl | decide) (by simp) ?_
  obtain ⟨S16, hS16⟩ : ∃ x9, x9 = tset S11 r (.inr (6, [.ref b, .int 0, .int nl, .int 0, .int 0])) := ⟨_, rfl⟩
  refine tt_S hS16 ?_
  have m17 : r ∈ S16.1 := by rw [hS16]; exact m12
  have f18 : S16.2 r = .inr (6, [.ref b, .int 0, .int nl, .int 0, .int 0]) := by rw [hS16]; exact va_up_self _ _ _
  have m19 : b ∈ S16.1 := by rw [hS16]; exact m14
  have f20 : S16.2 b = .inl (kd 0, 64, .inl f) := by rw [hS16]; exact (va_up_ne _ _ (fun h => by have h9 := f_b; rw [h, f_r] at h9; cases h9)).trans f15
  exact tt_vret rfl (Nat.le_of_ble_eq_true rfl) (Nat.le_of_ble_eq_true rfl) d_Run_clear_20 (by refine ⟨?_, ?_⟩ <;> first | rfl | (simp [hS16, hS11, hS6, hS1, vz0, vz1, pk_vb, ts_ts]; done) | (subst_vars; simp [vz0, vz1, pk_vb, ts_ts]; done) | (subst_vars; rfl))
set_option maxHeartbeats 4000000 in
set_option maxRecDepth 100000 in
/-- Run.addressOf(offset) -/
theorem c_Run_addressOf {l : Launch} {D : va_G} {kd : Nat → ClassId} {z : Nat} {S : tS} {r b : Nat} {c v n e : Int32} {f : Nat → Int32} {o : Int32} (m_r : r ∈ S.1) (f_r : S.2 r = .inr (6, [.ref b, .int c, .int v, .int n, .int e])) (m_b : b ∈ S.1) (f_b : S.2 b = .inl (kd 0, 64, .inl f))  (hc : ¬ c < 0 ∧ ¬ 64 < c) : tM l y_Run_addressOf b_Run_addressOf 3 (some FieldType.int) [] {} D (tyl kd) z [.ref r, .int o] S (fun o9 T9 => T9 = S ∧ o9 = .inl (some (.int (if o < 0 ∨ ¬ o / 2048 < c then -1 else f (o / 2048).toNatClampNeg * 2048 + (o - o / 2048 * 2048))))) := by
  refine tM.of (own := "FlashVault$Run") (ini := false) (by decide) rfl (fun h => by first | rfl | cases h) (Nat.le_of_ble_eq_true rfl) (lv := [(0, .ref r), (1, .int o)]) rfl ?_
  refine tt_iload_n d_Run_addressOf_0 rfl 1 rfl ?_
  refine tt_sipush (v := 2048) d_Run_addressOf_1 (by decide) ?_
  refine tt_idiv d_Run_addressOf_4 (by decide) ?_
  refine tt_istore_n (lv' := [(2, .int ((o / 2048))), (0, .ref r), (1, .int o)]) d_Run_addressOf_5 rfl (by decide) rfl ?_
  refine tt_iload_n d_Run_addressOf_6 rfl 2 rfl ?_
  refine tt_if_lt (t := 18) d_Run_addressOf_7 (by decide) (fun hc1 => ?_) (fun hc1 => ?_)
  · skip
    refine tt_iconst (v := -1) d_Run_addressOf_18 (by decide) ?_
    refine tt_goto (t := 38) d_Run_addressOf_19 (by decide) ?_
    exact tt_ret rfl (by first | rfl | decide | exact nz_ite _) (Nat.le_of_ble_eq_true rfl) (Nat.le_of_ble_eq_true rfl) d_Run_addressOf_38 (by refine ⟨?_, ?_⟩ <;> first | rfl | (simp [hc1, Int32.not_le.mpr hc1, vz0, vz1, pk_vb]; done) | (subst_vars; simp [hc1, Int32.not_le.mpr hc1, vz0, vz1, pk_vb]; done) | (subst_vars; rfl))
  · skip
    refine tt_iload_n d_Run_addressOf_10 rfl 0 rfl ?_
    refine tt_aload_n d_Run_addressOf_11 rfl 1 rfl ?_
    refine tt_get F_Run_15 d_Run_addressOf_12 m_r f_r rfl ?_
    refine tt_icmp_lt (t := 22) d_Run_addressOf_15 (by decide) (fun hc2 => ?_) (fun hc2 => ?_)
    · skip
      refine tt_aload_n d_Run_addressOf_22 rfl 1 rfl ?_
      refine tt_get F_Run_9 d_Run_addressOf_23 m_r f_r rfl ?_
      refine tt_iload_n d_Run_addressOf_26 rfl 0 rfl ?_
      refine tt_iald 0 d_Run_addressOf_27 rfl m_b f_b (vi_64 (by assumption) (Int32.not_le.mpr (by assumption)) rfl hc) ?_
      refine tt_sipush (v := 2048) d_Run_addressOf_28 (by decide) ?_
      refine tt_imul d_Run_addressOf_31 ?_
      refine tt_iload_n d_Run_addressOf_32 rfl 2 rfl ?_
      refine tt_sipush (v := 2048) d_Run_addressOf_33 (by decide) ?_
      refine tt_irem d_Run_addressOf_36 (by decide) ?_
      refine tt_iadd d_Run_addressOf_37 ?_
      exact tt_ret rfl (by first | rfl | decide | exact nz_ite _) (Nat.le_of_ble_eq_true rfl) (Nat.le_of_ble_eq_true rfl) d_Run_addressOf_38 (by refine ⟨?_, ?_⟩ <;> first | rfl | (simp [hc1, Int32.not_lt.mp hc1, hc2, Int32.not_le.mpr hc2, vz0, vz1, pk_vb]; done) | (subst_vars; simp [hc1, Int32.not_lt.mp hc1, hc2, Int32.not_le.mpr hc2, vz0, vz1, pk_vb]; done) | (subst_vars; rfl))
    · skip
      refine tt_iconst (v := -1) d_Run_addressOf_18 (by decide) ?_
      refine tt_goto (t := 38) d_Run_addressOf_19 (by decide) ?_
      exact tt_ret rfl (by first | rfl | decide | exact nz_ite _) (Nat.le_of_ble_eq_true rfl) (Nat.le_of_ble_eq_true rfl) d_Run_addressOf_38 (by refine ⟨?_, ?_⟩ <;> first | rfl | (simp [hc1, Int32.not_lt.mp hc1, hc2, Int32.not_lt.mp hc2, vz0, vz1, pk_vb]; done) | (subst_vars; simp [hc1, Int32.not_lt.mp hc1, hc2, Int32.not_lt.mp hc2, vz0, vz1, pk_vb]; done) | (subst_vars; rfl))
set_option maxHeartbeats 4000000 in
set_option maxRecDepth 100000 in
/-- Run.add(block, n) -/
theorem c_Run_add {l : Launch} {D : va_G} {kd : Nat → ClassId} {z : Nat} {S : tS} {r b : Nat} {c v n e : Int32} {f : Nat → Int32} {k m : Int32} (m_r : r ∈ S.1) (f_r : S.2 r = .inr (6, [.ref b, .int c, .int v, .int n, .int e])) (m_b : b ∈ S.1) (f_b : S.2 b = .inl (kd 0, 64, .inl f))  (hc : ¬ c < 0) : tM l y_Run_add b_Run_add 3 none [] {} D (tyl kd) z [.ref r, .int k, .int m] S (fun o9 T9 => T9 = (if 64 ≤ c then S else tset (tset S b (.inl (kd 0, 64, .inl (upd f c.toNatClampNeg k)))) r (.inr (6, [.ref b, .int (c + 1), .int v, .int (n + m), .int e]))) ∧ o9 = .inl none) := by
  refine tM.of (own := "FlashVault$Run") (ini := false) (by decide) rfl (fun h => by first | rfl | cases h) (Nat.le_of_ble_eq_true rfl) (lv := [(0, .ref r), (1, .int k), (2, .int m)]) rfl ?_
  refine tt_aload_n d_Run_add_0 rfl 0 rfl ?_
  refine tt_get F_Run_15 d_Run_add_1 m_r f_r rfl ?_
  refine tt_bipush (v := 64) d_Run_add_4 (by decide) ?_
  refine tt_icmp_ge (t := 39) d_Run_add_6 (by decide) (fun hc1 => ?_) (fun hc1 => ?_)
  · skip
    exact tt_vret rfl (Nat.le_of_ble_eq_true rfl) (Nat.le_of_ble_eq_true rfl) d_Run_add_39 (by refine ⟨?_, ?_⟩ <;> first | rfl | (simp [hc1, Int32.not_lt.mpr hc1, vz0, vz1, pk_vb, ts_ts]; done) | (subst_vars; simp [hc1, Int32.not_lt.mpr hc1, vz0, vz1, pk_vb, ts_ts]; done) | (subst_vars; rfl))
  · skip
    refine tt_aload_n d_Run_add_9 rfl 0 rfl ?_
    refine tt_get F_Run_9 d_Run_add_10 m_r f_r rfl ?_
    refine tt_aload_n d_Run_add_13 rfl 0 rfl ?_
    refine tt_get F_Run_15 d_Run_add_14 m_r f_r rfl ?_
    refine tt_iload_n d_Run_add_17 rfl 1 rfl ?_
    refine tt_iast 0 d_Run_add_18 rfl m_b f_b (vi_of hc (by assumption) (by decide)) ?_
    obtain ⟨S2, hS2⟩ : ∃ x9, x9 = tset S b (.inl (kd 0, 64, .inl (upd f (c).toNatClampNeg (k)))) := ⟨_, rfl⟩
    refine tt_S hS2 ?_
    have m3 : r ∈ S2.1 := by rw [hS2]; exact m_r
    have f4 : S2.2 r = .inr (6, [.ref b, .int c, .int v, .int n, .int e]) := by rw [hS2]; exact (va_up_ne _ _ (fun h => by have h9 := f_r; rw [h, f_b] at h9; cases h9)).trans f_r
    have m5 : b ∈ S2.1 := by rw [hS2]; exact m_b
    have f6 : S2.2 b = .inl (kd 0, 64, .inl (upd f (c).toNatClampNeg (k))) := by rw [hS2]; exact va_up_self _ _ _
    refine tt_aload_n d_Run_add_19 rfl 0 rfl ?_
    refine tt_dup d_Run_add_20 rfl ?_
    refine tt_get F_Run_15 d_Run_add_21 m3 f4 rfl ?_
    refine tt_iconst (v := 1) d_Run_add_24 (by decide) ?_
    refine tt_iadd d_Run_add_25 ?_
    refine tt_put F_Run_15 d_Run_add_26 m3 f4 (Or.inl rfl) (by first | rfl | decide | exact pk_nz _) (by first | rfl | decide) (by simp) ?_
    obtain ⟨S7, hS7⟩ : ∃ x9, x9 = tset S2 r (.inr (6, [.ref b, .int ((c + 1)), .int v, .int n, .int e])) := ⟨_, rfl⟩
    refine tt_S hS7 ?_
    have m8 : r ∈ S7.1 := by rw [hS7]; exact m3
    have f9 : S7.2 r = .inr (6, [.ref b, .int ((c + 1)), .int v, .int n, .int e]) := by rw [hS7]; exact va_up_self _ _ _
    have m10 : b ∈ S7.1 := by rw [hS7]; exact m5
    have f11 : S7.2 b = .inl (kd 0, 64, .inl (upd f (c).toNatClampNeg (k))) := by rw [hS7]; exact (va_up_ne _ _ (fun h => by have h9 := f_b; rw [h, f_r] at h9; cases h9)).trans f6
    refine tt_aload_n d_Run_add_29 rfl 0 rfl ?_
    refine tt_dup d_Run_add_30 rfl ?_
    refine tt_get F_Run_22 d_Run_add_31 m8 f9 rfl ?_
    refine tt_iload_n d_Run_add_34 rfl 2 rfl ?_
    refine tt_iadd d_Run_add_35 ?_
    refine tt_put F_Run_22 d_Run_add_36 m8 f9 (Or.inl rfl) (by first | rfl | decide | exact pk_nz _) (by first | rfl | decide) (by simp) ?_
    obtain ⟨S12, hS12⟩ : ∃ x9, x9 = tset S7 r (.inr (6, [.ref b, .int ((c + 1)), .int v, .int ((n + m)), .int e])) := ⟨_, rfl⟩
    refine tt_S hS12 ?_
    have m13 : r ∈ S12.1 := by rw [hS12]; exact m8
    have f14 : S12.2 r = .inr (6, [.ref b, .int ((c + 1)), .int v, .int ((n + m)), .int e]) := by rw [hS12]; exact va_up_self _ _ _
    have m15 : b ∈ S12.1 := by rw [hS12]; exact m10
    have f16 : S12.2 b = .inl (kd 0, 64, .inl (upd f (c).toNatClampNeg (k))) := by rw [hS12]; exact (va_up_ne _ _ (fun h => by have h9 := f_b; rw [h, f_r] at h9; cases h9)).trans f11
    exact tt_vret rfl (Nat.le_of_ble_eq_true rfl) (Nat.le_of_ble_eq_true rfl) d_Run_add_39 (by refine ⟨?_, ?_⟩ <;> first | rfl | (simp [hc1, Int32.not_le.mp hc1, hS12, hS7, hS2, vz0, vz1, pk_vb, ts_ts]; done) | (subst_vars; simp [hc1, Int32.not_le.mp hc1, vz0, vz1, pk_vb, ts_ts]; done) | (subst_vars; rfl))
set_option maxHeartbeats 4000000 in
set_option maxRecDepth 100000 in
/-- Sight.isOpen(t) -/
theorem c_Sight_isOpen {l : Launch} {D : va_G} {kd : Nat → ClassId} {z : Nat} {S : tS} {s a b q : Nat} {f g : Nat → Int32} {t : Int32} (m_s : s ∈ S.1) (f_s : S.2 s = .inr (7, [.ref a, .ref b, .ref q])) (m_a : a ∈ S.1) (f_a : S.2 a = .inl (kd 2, 8, .inl f)) (m_b : b ∈ S.1) (f_b : S.2 b = .inl (kd 0, 8, .inl g))   : tM l y_Sight_isOpen b_Sight_isOpen 2 (some FieldType.boolean) [] {} D (tyl kd) z [.ref s, .int t] S (fun o9 T9 => T9 = S ∧ o9 = .inl (some (.int (if ¬ t < 0 ∧ ¬ 8 ≤ t ∧ ¬ f t.toNatClampNeg = 0 then 1 else 0)))) := by
  refine tM.of (own := "FlashVault$Sight") (ini := false) (by decide) rfl (fun h => by first | rfl | cases h) (Nat.le_of_ble_eq_true rfl) (lv := [(0, .ref s), (1, .int t)]) rfl ?_
  refine tt_iload_n d_Sight_isOpen_0 rfl 1 rfl ?_
  refine tt_if_lt (t := 23) d_Sight_isOpen_1 (by decide) (fun hc1 => ?_) (fun hc1 => ?_)
  · skip
    refine tt_iconst (v := 0) d_Sight_isOpen_23 (by decide) ?_
    exact tt_ret rfl (by first | rfl | decide | exact nz_ite _) (Nat.le_of_ble_eq_true rfl) (Nat.le_of_ble_eq_true rfl) d_Sight_isOpen_24 (by refine ⟨?_, ?_⟩ <;> first | rfl | (simp [hc1, Int32.not_le.mpr hc1, vz0, vz1, pk_vb]; done) | (subst_vars; simp [hc1, Int32.not_le.mpr hc1, vz0, vz1, pk_vb]; done) | (subst_vars; rfl))
  · skip
    refine tt_iload_n d_Sight_isOpen_4 rfl 1 rfl ?_
    refine tt_bipush (v := 8) d_Sight_isOpen_5 (by decide) ?_
    refine tt_icmp_ge (t := 23) d_Sight_isOpen_7 (by decide) (fun hc2 => ?_) (fun hc2 => ?_)
    · skip
      refine tt_iconst (v := 0) d_Sight_isOpen_23 (by decide) ?_
      exact tt_ret rfl (by first | rfl | decide | exact nz_ite _) (Nat.le_of_ble_eq_true rfl) (Nat.le_of_ble_eq_true rfl) d_Sight_isOpen_24 (by refine ⟨?_, ?_⟩ <;> first | rfl | (simp [hc1, Int32.not_lt.mp hc1, hc2, Int32.not_lt.mpr hc2, vz0, vz1, pk_vb]; done) | (subst_vars; simp [hc1, Int32.not_lt.mp hc1, hc2, Int32.not_lt.mpr hc2, vz0, vz1, pk_vb]; done) | (subst_vars; rfl))
    · skip
      refine tt_aload_n d_Sight_isOpen_10 rfl 0 rfl ?_
      refine tt_get F_Sight_9 d_Sight_isOpen_11 m_s f_s rfl ?_
      refine tt_iload_n d_Sight_isOpen_14 rfl 1 rfl ?_
      refine tt_zald 2 d_Sight_isOpen_15 rfl m_a f_a (vi_of (by assumption) (by assumption) (by decide)) ?_
      refine tt_if_eq (t := 23) d_Sight_isOpen_16 (by decide) (fun hc3 => ?_) (fun hc3 => ?_)
      · skip
        refine tt_iconst (v := 0) d_Sight_isOpen_23 (by decide) ?_
        exact tt_ret rfl (by first | rfl | decide | exact nz_ite _) (Nat.le_of_ble_eq_true rfl) (Nat.le_of_ble_eq_true rfl) d_Sight_isOpen_24 (by refine ⟨?_, ?_⟩ <;> first | rfl | (simp [hc1, Int32.not_lt.mp hc1, hc2, Int32.not_le.mp hc2, hc3, vz0, vz1, pk_vb]; done) | (subst_vars; simp [hc1, Int32.not_lt.mp hc1, hc2, Int32.not_le.mp hc2, hc3, vz0, vz1, pk_vb]; done) | (subst_vars; rfl))
      · skip
        refine tt_iconst (v := 1) d_Sight_isOpen_19 (by decide) ?_
        refine tt_goto (t := 24) d_Sight_isOpen_20 (by decide) ?_
        exact tt_ret rfl (by first | rfl | decide | exact nz_ite _) (Nat.le_of_ble_eq_true rfl) (Nat.le_of_ble_eq_true rfl) d_Sight_isOpen_24 (by refine ⟨?_, ?_⟩ <;> first | rfl | (simp [hc1, Int32.not_lt.mp hc1, hc2, Int32.not_le.mp hc2, hc3, vz0, vz1, pk_vb]; done) | (subst_vars; simp [hc1, Int32.not_lt.mp hc1, hc2, Int32.not_le.mp hc2, hc3, vz0, vz1, pk_vb]; done) | (subst_vars; rfl))
set_option maxHeartbeats 4000000 in
set_option maxRecDepth 100000 in
/-- Sight.close(t) -/
theorem c_Sight_close {l : Launch} {D : va_G} {kd : Nat → ClassId} {z : Nat} {S : tS} {s a b q : Nat} {f g : Nat → Int32} {t : Int32} (m_s : s ∈ S.1) (f_s : S.2 s = .inr (7, [.ref a, .ref b, .ref q])) (m_a : a ∈ S.1) (f_a : S.2 a = .inl (kd 2, 8, .inl f)) (m_b : b ∈ S.1) (f_b : S.2 b = .inl (kd 0, 8, .inl g)) (n_a_b : a ≠ b)  : tM l y_Sight_close b_Sight_close 2 none [] {} D (tyl kd) z [.ref s, .int t] S (fun o9 T9 => T9 = (if ¬ t < 0 ∧ ¬ 8 ≤ t then tset S a (.inl (kd 2, 8, .inl (upd f t.toNatClampNeg 0))) else S) ∧ o9 = .inl none) := by
  refine tM.of (own := "FlashVault$Sight") (ini := false) (by decide) rfl (fun h => by first | rfl | cases h) (Nat.le_of_ble_eq_true rfl) (lv := [(0, .ref s), (1, .int t)]) rfl ?_
  refine tt_iload_n d_Sight_close_0 rfl 1 rfl ?_
  refine tt_if_lt (t := 17) d_Sight_close_1 (by decide) (fun hc1 => ?_) (fun hc1 => ?_)
  · skip
    exact tt_vret rfl (Nat.le_of_ble_eq_true rfl) (Nat.le_of_ble_eq_true rfl) d_Sight_close_17 (by refine ⟨?_, ?_⟩ <;> first | rfl | (simp [hc1, Int32.not_le.mpr hc1, vz0, vz1, pk_vb]; done) | (subst_vars; simp [hc1, Int32.not_le.mpr hc1, vz0, vz1, pk_vb]; done) | (subst_vars; rfl))
  · skip
    refine tt_iload_n d_Sight_close_4 rfl 1 rfl ?_
    refine tt_bipush (v := 8) d_Sight_close_5 (by decide) ?_
    refine tt_icmp_ge (t := 17) d_Sight_close_7 (by decide) (fun hc2 => ?_) (fun hc2 => ?_)
    · skip
      exact tt_vret rfl (Nat.le_of_ble_eq_true rfl) (Nat.le_of_ble_eq_true rfl) d_Sight_close_17 (by refine ⟨?_, ?_⟩ <;> first | rfl | (simp [hc1, Int32.not_lt.mp hc1, hc2, Int32.not_lt.mpr hc2, vz0, vz1, pk_vb]; done) | (subst_vars; simp [hc1, Int32.not_lt.mp hc1, hc2, Int32.not_lt.mpr hc2, vz0, vz1, pk_vb]; done) | (subst_vars; rfl))
    · skip
      refine tt_aload_n d_Sight_close_10 rfl 0 rfl ?_
      refine tt_get F_Sight_9 d_Sight_close_11 m_s f_s rfl ?_
      refine tt_iload_n d_Sight_close_14 rfl 1 rfl ?_
      refine tt_iconst (v := 0) d_Sight_close_15 (by decide) ?_
      refine tt_zast 2 d_Sight_close_16 rfl m_a f_a (vi_of (by assumption) (by assumption) (by decide)) ?_
      obtain ⟨S3, hS3⟩ : ∃ x9, x9 = tset S a (.inl (kd 2, 8, .inl (upd f (t).toNatClampNeg (vp_nar .boolean (0))))) := ⟨_, rfl⟩
      refine tt_S hS3 ?_
      have m4 : s ∈ S3.1 := by rw [hS3]; exact m_s
      have f5 : S3.2 s = .inr (7, [.ref a, .ref b, .ref q]) := by rw [hS3]; exact (va_up_ne _ _ (fun h => by have h9 := f_s; rw [h, f_a] at h9; cases h9)).trans f_s
      have m6 : a ∈ S3.1 := by rw [hS3]; exact m_a
      have f7 : S3.2 a = .inl (kd 2, 8, .inl (upd f (t).toNatClampNeg (vp_nar .boolean (0)))) := by rw [hS3]; exact va_up_self _ _ _
      have m8 : b ∈ S3.1 := by rw [hS3]; exact m_b
      have f9 : S3.2 b = .inl (kd 0, 8, .inl g) := by rw [hS3]; exact (va_up_ne _ _ (Ne.symm n_a_b)).trans f_b
      exact tt_vret rfl (Nat.le_of_ble_eq_true rfl) (Nat.le_of_ble_eq_true rfl) d_Sight_close_17 (by refine ⟨?_, ?_⟩ <;> first | rfl | (simp [hc1, Int32.not_lt.mp hc1, hc2, Int32.not_le.mp hc2, hS3, vz0, vz1, pk_vb]; done) | (subst_vars; simp [hc1, Int32.not_lt.mp hc1, hc2, Int32.not_le.mp hc2, vz0, vz1, pk_vb]; done) | (subst_vars; rfl))
set_option maxHeartbeats 4000000 in
set_option maxRecDepth 100000 in
/-- Sight.momentOf(t) -/
theorem c_Sight_momentOf {l : Launch} {D : va_G} {kd : Nat → ClassId} {z : Nat} {S : tS} {s a b q : Nat} {f g : Nat → Int32} {t : Int32} (m_s : s ∈ S.1) (f_s : S.2 s = .inr (7, [.ref a, .ref b, .ref q])) (m_a : a ∈ S.1) (f_a : S.2 a = .inl (kd 2, 8, .inl f)) (m_b : b ∈ S.1) (f_b : S.2 b = .inl (kd 0, 8, .inl g))   : tM l y_Sight_momentOf b_Sight_momentOf 2 (some FieldType.int) [] { frames := 1, locals := 21 } D (tyl kd) z [.ref s, .int t] S (fun o9 T9 => T9 = S ∧ o9 = .inl (some (.int (if ¬ t < 0 ∧ ¬ 8 ≤ t ∧ ¬ f t.toNatClampNeg = 0 then g t.toNatClampNeg else 0)))) := by
  refine tM.of (own := "FlashVault$Sight") (ini := false) (by decide) rfl (fun h => by first | rfl | cases h) (Nat.le_of_ble_eq_true rfl) (lv := [(0, .ref s), (1, .int t)]) rfl ?_
  refine tt_aload_n d_Sight_momentOf_0 rfl 0 rfl ?_
  refine tt_iload_n d_Sight_momentOf_1 rfl 1 rfl ?_
  refine tt_callV (bytes := b_Sight_isOpen) (nL' := 2) (ret' := (some FieldType.boolean)) (hh' := []) (As := [.int t]) w_4_135 w_4_21 w_4_22 w_1_4 w_4_23 ⟨by decide, by decide, rfl⟩ (c_Sight_isOpen m_s f_s m_a f_a m_b f_b) m_s f_s rfl ⟨Nat.le_of_ble_eq_true rfl, Nat.le_of_ble_eq_true rfl, Nat.le_of_ble_eq_true rfl, Nat.le_of_ble_eq_true rfl⟩ (Nat.le_of_ble_eq_true rfl) d_Sight_momentOf_2 rfl (fun v9 S1 hq => ?_) (fun k9 S9 hq => by cases hq.2)
  obtain ⟨hS1, ho9⟩ := hq
  cases ho9
  refine tt_S hS1.symm ?_
  refine tt_if_eq (t := 17) d_Sight_momentOf_5 (by decide) (fun hc2 => ?_) (fun hc2 => ?_)
  · skip
    refine tt_iconst (v := 0) d_Sight_momentOf_17 (by decide) ?_
    exact tt_ret rfl (by first | rfl | decide | exact nz_ite _) (Nat.le_of_ble_eq_true rfl) (Nat.le_of_ble_eq_true rfl) d_Sight_momentOf_18 (by refine ⟨rfl, ?_⟩; by_cases h9 : ¬ t < 0 ∧ ¬ 8 ≤ t ∧ ¬ f t.toNatClampNeg = 0 <;> simp_all)
  · skip
    refine tt_aload_n d_Sight_momentOf_8 rfl 0 rfl ?_
    refine tt_get F_Sight_15 d_Sight_momentOf_9 m_s f_s rfl ?_
    refine tt_iload_n d_Sight_momentOf_12 rfl 1 rfl ?_
    refine tt_iald 0 d_Sight_momentOf_13 rfl m_b f_b ((is_in (by assumption))) ?_
    refine tt_goto (t := 18) d_Sight_momentOf_14 (by decide) ?_
    exact tt_ret rfl (by first | rfl | decide | exact nz_ite _) (Nat.le_of_ble_eq_true rfl) (Nat.le_of_ble_eq_true rfl) d_Sight_momentOf_18 (by refine ⟨rfl, ?_⟩; by_cases h9 : ¬ t < 0 ∧ ¬ 8 ≤ t ∧ ¬ f t.toNatClampNeg = 0 <;> simp_all)
