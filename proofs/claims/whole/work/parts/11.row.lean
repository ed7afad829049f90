/-! ===== leaves: class Row; written by wip/gen/row.py ===== -/
def tyl (kd : Nat → ClassId) : List (ClassId × FieldType) := [(kd 0, .int), (kd 1, .byte), (kd 2, .boolean), (kd 3, .long), (kd 4, .object "FlashVault$Batch"), (kd 5, .object "FlashVault$Run"), (kd 6, .object "FlashVault$Cursor")]
theorem tt_S {cc : ByteArray} {own : String} {nL : Nat} {ret : Option FieldType} {ini : Bool} {hh : List (Nat × Nat × Nat × Nat)} {rm : Room} {D : va_G} {tys : List (ClassId × FieldType)} {z : Nat} {l : Launch} {Q : tO → tS → Prop} {kc ks : Nat} {pc : Nat} {lv : List (Nat × Value)} {st : List Value} {S S' : tS} (h : S' = S) (k : tP cc own nL ret ini hh rm D tys z l Q kc ks pc lv st S') : tP cc own nL ret ini hh rm D tys z l Q kc ks pc lv st S := h ▸ k
theorem vi_of {i : Int32} {n : Nat} (h0 : ¬ i < 0) (h1 : ¬ nI n ≤ i) (hn : n < 2 ^ 31) : vp_in i n := by
  rcases pk_ix i hn with h | h | ⟨j, hj, rfl⟩
  · exact absurd h h0
  · exact absurd h h1
  · exact vp_in_nI hj hn
theorem nI_subneg {a b : Nat} (ha : a < 2 ^ 31) (hb : b < 2 ^ 31) (h : a < b) : nI a - nI b < 0 := by
  have e : nI a - nI b = -nI (b - a) := by
    have h1 := pk_sub (Nat.le_of_lt h)
    rw [← h1, Int32.neg_sub]
  rw [e, Int32.lt_iff_toInt_lt, sb_negT (by omega)]
  show -((b - a : Nat) : Int) < 0
  omega
theorem cp_in {i n : Int32} {cap : Nat} (h0 : ¬ i < 0) (h1 : ¬ n ≤ 0) (h2 : ¬ nI cap - n < i) (hc : cap < 2 ^ 31) : i.toNatClampNeg + n.toNatClampNeg ≤ cap := by
  obtain ⟨i', hi, rfl⟩ := nI_of h0
  obtain ⟨n', hn, rfl⟩ := nI_of (x := n) (fun h => h1 (Int32.le_of_lt h))
  rw [nI_clamp hi, nI_clamp hn]
  by_cases h : n' ≤ cap
  · rw [pk_sub h] at h2
    have := mt (nI_ltI (by omega) hi).mpr h2
    omega
  · exfalso
    have h3 := nI_subneg hc hn (by omega)
    exact h2 (Int32.lt_of_lt_of_le h3 (Int32.not_lt.mp h0))
theorem ap_ne {a b : Nat} (h : a = b → False) : a ≠ b := h
theorem nz_0 : narrow .boolean (.int 0) = .int 0 := rfl
theorem nz_1 : narrow .boolean (.int 1) = .int 1 := rfl
theorem pk_nz (x : Int32) : narrow .int (.int x) = .int x := rfl
abbrev b_Row_at : ByteArray := prog_7_method_2_code
def y_Row_at : MethodName := ⟨"FlashVault$Row", "at", "(I)I"⟩
theorem d_Row_at_0 : decode b_Row_at 0 = .ok (.iload_n 1, 1) := by decide +kernel
theorem d_Row_at_1 : decode b_Row_at 1 = .ok (.ifCond .lt 33, 3) := by decide +kernel
theorem d_Row_at_34 : decode b_Row_at 34 = .ok (.iconst 0, 1) := by decide +kernel
theorem d_Row_at_35 : decode b_Row_at 35 = .ok (.ireturn, 1) := by decide +kernel
theorem d_Row_at_4 : decode b_Row_at 4 = .ok (.iload_n 1, 1) := by decide +kernel
theorem d_Row_at_5 : decode b_Row_at 5 = .ok (.aload_n 0, 1) := by decide +kernel
theorem d_Row_at_6 : decode b_Row_at 6 = .ok (.getfield 7, 3) := by decide +kernel
theorem w_1_54 : (Cond.fieldLink "FlashVault$Row" (7 : Nat) "FlashVault$Row" "length" "I") ∈ gW := gW_1 54 rfl rfl
theorem F_Row_7 : tF "FlashVault$Row" 7 5 1 RC5 FC5 2 tC5 := ⟨rfl, by decide, rfl, iC5, kC5, nC5, w_1_54⟩
theorem d_Row_at_9 : decode b_Row_at 9 = .ok (.if_icmp .ge 25, 3) := by decide +kernel
theorem d_Row_at_12 : decode b_Row_at 12 = .ok (.iload_n 1, 1) := by decide +kernel
theorem d_Row_at_13 : decode b_Row_at 13 = .ok (.aload_n 0, 1) := by decide +kernel
theorem d_Row_at_14 : decode b_Row_at 14 = .ok (.getfield 19, 3) := by decide +kernel
theorem w_1_51 : (Cond.fieldLink "FlashVault$Row" (19 : Nat) "FlashVault$Row" "bytes" "[B") ∈ gW := gW_1 51 rfl rfl
theorem F_Row_19 : tF "FlashVault$Row" 19 5 0 RC5 FC5 2 tC5 := ⟨rfl, by decide, rfl, iC5, kC5, nC5, w_1_51⟩
theorem d_Row_at_17 : decode b_Row_at 17 = .ok (.arraylength, 1) := by decide +kernel
theorem d_Row_at_18 : decode b_Row_at 18 = .ok (.if_icmp .ge 16, 3) := by decide +kernel
theorem d_Row_at_21 : decode b_Row_at 21 = .ok (.aload_n 0, 1) := by decide +kernel
theorem d_Row_at_22 : decode b_Row_at 22 = .ok (.getfield 19, 3) := by decide +kernel
theorem d_Row_at_25 : decode b_Row_at 25 = .ok (.iload_n 1, 1) := by decide +kernel
theorem d_Row_at_26 : decode b_Row_at 26 = .ok (.baload, 1) := by decide +kernel
theorem d_Row_at_27 : decode b_Row_at 27 = .ok (.sipush 255, 3) := by decide +kernel
theorem d_Row_at_30 : decode b_Row_at 30 = .ok (.iand, 1) := by decide +kernel
theorem d_Row_at_31 : decode b_Row_at 31 = .ok (.goto 4, 3) := by decide +kernel
abbrev b_Row_add : ByteArray := prog_7_method_3_code
def y_Row_add : MethodName := ⟨"FlashVault$Row", "add", "(I)V"⟩
theorem d_Row_add_0 : decode b_Row_add 0 = .ok (.aload_n 0, 1) := by decide +kernel
theorem d_Row_add_1 : decode b_Row_add 1 = .ok (.getfield 7, 3) := by decide +kernel
theorem d_Row_add_4 : decode b_Row_add 4 = .ok (.ifCond .lt 36, 3) := by decide +kernel
theorem d_Row_add_40 : decode b_Row_add 40 = .ok (.return_, 1) := by decide +kernel
theorem d_Row_add_7 : decode b_Row_add 7 = .ok (.aload_n 0, 1) := by decide +kernel
theorem d_Row_add_8 : decode b_Row_add 8 = .ok (.getfield 7, 3) := by decide +kernel
theorem d_Row_add_11 : decode b_Row_add 11 = .ok (.aload_n 0, 1) := by decide +kernel
theorem d_Row_add_12 : decode b_Row_add 12 = .ok (.getfield 19, 3) := by decide +kernel
theorem d_Row_add_15 : decode b_Row_add 15 = .ok (.arraylength, 1) := by decide +kernel
theorem d_Row_add_16 : decode b_Row_add 16 = .ok (.if_icmp .ge 24, 3) := by decide +kernel
theorem d_Row_add_19 : decode b_Row_add 19 = .ok (.aload_n 0, 1) := by decide +kernel
theorem d_Row_add_20 : decode b_Row_add 20 = .ok (.getfield 19, 3) := by decide +kernel
theorem d_Row_add_23 : decode b_Row_add 23 = .ok (.aload_n 0, 1) := by decide +kernel
theorem d_Row_add_24 : decode b_Row_add 24 = .ok (.getfield 7, 3) := by decide +kernel
theorem d_Row_add_27 : decode b_Row_add 27 = .ok (.iload_n 1, 1) := by decide +kernel
theorem d_Row_add_28 : decode b_Row_add 28 = .ok (.i2b, 1) := by decide +kernel
theorem d_Row_add_29 : decode b_Row_add 29 = .ok (.bastore, 1) := by decide +kernel
theorem d_Row_add_30 : decode b_Row_add 30 = .ok (.aload_n 0, 1) := by decide +kernel
theorem d_Row_add_31 : decode b_Row_add 31 = .ok (.dup, 1) := by decide +kernel
theorem d_Row_add_32 : decode b_Row_add 32 = .ok (.getfield 7, 3) := by decide +kernel
theorem d_Row_add_35 : decode b_Row_add 35 = .ok (.iconst 1, 1) := by decide +kernel
theorem d_Row_add_36 : decode b_Row_add 36 = .ok (.iadd, 1) := by decide +kernel
theorem d_Row_add_37 : decode b_Row_add 37 = .ok (.putfield 7, 3) := by decide +kernel
abbrev b_Row_copy : ByteArray := prog_7_method_5_code
def y_Row_copy : MethodName := ⟨"FlashVault$Row", "copy", "([BI[BII)V"⟩
theorem d_Row_copy_0 : decode b_Row_copy 0 = .ok (.iload 4, 2) := by decide +kernel
theorem d_Row_copy_2 : decode b_Row_copy 2 = .ok (.ifCond .le 38, 3) := by decide +kernel
theorem d_Row_copy_40 : decode b_Row_copy 40 = .ok (.return_, 1) := by decide +kernel
theorem d_Row_copy_5 : decode b_Row_copy 5 = .ok (.iload_n 1, 1) := by decide +kernel
theorem d_Row_copy_6 : decode b_Row_copy 6 = .ok (.ifCond .lt 34, 3) := by decide +kernel
theorem d_Row_copy_9 : decode b_Row_copy 9 = .ok (.iload_n 3, 1) := by decide +kernel
theorem d_Row_copy_10 : decode b_Row_copy 10 = .ok (.ifCond .lt 30, 3) := by decide +kernel
theorem d_Row_copy_13 : decode b_Row_copy 13 = .ok (.iload_n 1, 1) := by decide +kernel
theorem d_Row_copy_14 : decode b_Row_copy 14 = .ok (.aload_n 0, 1) := by decide +kernel
theorem d_Row_copy_15 : decode b_Row_copy 15 = .ok (.arraylength, 1) := by decide +kernel
theorem d_Row_copy_16 : decode b_Row_copy 16 = .ok (.iload 4, 2) := by decide +kernel
theorem d_Row_copy_18 : decode b_Row_copy 18 = .ok (.isub, 1) := by decide +kernel
theorem d_Row_copy_19 : decode b_Row_copy 19 = .ok (.if_icmp .gt 21, 3) := by decide +kernel
theorem d_Row_copy_22 : decode b_Row_copy 22 = .ok (.iload_n 3, 1) := by decide +kernel
theorem d_Row_copy_23 : decode b_Row_copy 23 = .ok (.aload_n 2, 1) := by decide +kernel
theorem d_Row_copy_24 : decode b_Row_copy 24 = .ok (.arraylength, 1) := by decide +kernel
theorem d_Row_copy_25 : decode b_Row_copy 25 = .ok (.iload 4, 2) := by decide +kernel
theorem d_Row_copy_27 : decode b_Row_copy 27 = .ok (.isub, 1) := by decide +kernel
theorem d_Row_copy_28 : decode b_Row_copy 28 = .ok (.if_icmp .gt 12, 3) := by decide +kernel
theorem d_Row_copy_31 : decode b_Row_copy 31 = .ok (.aload_n 0, 1) := by decide +kernel
theorem d_Row_copy_32 : decode b_Row_copy 32 = .ok (.iload_n 1, 1) := by decide +kernel
theorem d_Row_copy_33 : decode b_Row_copy 33 = .ok (.aload_n 2, 1) := by decide +kernel
theorem d_Row_copy_34 : decode b_Row_copy 34 = .ok (.iload_n 3, 1) := by decide +kernel
theorem d_Row_copy_35 : decode b_Row_copy 35 = .ok (.iload 4, 2) := by decide +kernel
theorem d_Row_copy_37 : decode b_Row_copy 37 = .ok (.invokestatic 27, 3) := by decide +kernel
theorem w_4_55 : (Cond.methodLink "FlashVault$Row" (27 : Nat) ({ cls := "java/lang/System", name := "arraycopy", desc := "(Ljava/lang/Object;ILjava/lang/Object;II)V" } : MethodName)) ∈ gW := gW_4 55 rfl rfl
theorem w_4_57 : (Cond.native ({ cls := "java/lang/System", name := "arraycopy", desc := "(Ljava/lang/Object;ILjava/lang/Object;II)V" } : MethodName)) ∈ gW := gW_4 57 rfl rfl
theorem w_4_56 : (Cond.static ({ cls := "java/lang/System", name := "arraycopy", desc := "(Ljava/lang/Object;ILjava/lang/Object;II)V" } : MethodName)) ∈ gW := gW_4 56 rfl rfl
theorem w_1_23 : (Cond.initialized "java/lang/System") ∈ gW := gW_1 23 rfl rfl
set_option maxHeartbeats 4000000 in
set_option maxRecDepth 100000 in
/-- Row.at(i): the byte, 0 beyond the end -/
theorem c_Row_at {l : Launch} {D : va_G} {kd : Nat → ClassId} {z : Nat} {S : tS} {r b cap : Nat} {n : Int32} {f : Nat → Int32} (mr : r ∈ S.1) (fr : S.2 r = .inr (5, [.ref b, .int n])) (mb : b ∈ S.1) (fb : S.2 b = .inl (kd 1, cap, .inl f)) (hcap : cap < 2 ^ 31) {i : Int32} : tM l y_Row_at b_Row_at 2 (some FieldType.int) [] {} D (tyl kd) z [.ref r, .int i] S (fun o S' => S' = S ∧ o = .inl (some (.int (if ¬ i < 0 ∧ ¬ n ≤ i ∧ ¬ nI cap ≤ i then f i.toNatClampNeg &&& 255 else 0)))) := by
  refine tM.of (own := "FlashVault$Row") (ini := false) (by decide) rfl (fun h => by first | rfl | cases h) (Nat.le_of_ble_eq_true rfl) (lv := [(0, .ref r), (1, .int i)]) rfl ?_
  refine tt_iload_n d_Row_at_0 rfl 1 rfl ?_
  refine tt_if_lt (t := 34) d_Row_at_1 (by decide) (fun hc1 => ?_) (fun hc1 => ?_)
  · skip
    refine tt_iconst (v := 0) d_Row_at_34 (by decide) ?_
    exact tt_ret rfl (by first | rfl | exact nz_0 | exact nz_1) (Nat.le_refl _) (Nat.le_refl _) d_Row_at_35 (by refine ⟨rfl, ?_⟩; simp [hc1])
  · skip
    refine tt_iload_n d_Row_at_4 rfl 1 rfl ?_
    refine tt_aload_n d_Row_at_5 rfl 0 rfl ?_
    refine tt_get F_Row_7 d_Row_at_6 mr fr rfl ?_
    refine tt_icmp_ge (t := 34) d_Row_at_9 (by decide) (fun hc2 => ?_) (fun hc2 => ?_)
    · skip
      refine tt_iconst (v := 0) d_Row_at_34 (by decide) ?_
      exact tt_ret rfl (by first | rfl | exact nz_0 | exact nz_1) (Nat.le_refl _) (Nat.le_refl _) d_Row_at_35 (by refine ⟨rfl, ?_⟩; simp [hc1, hc2])
    · skip
      refine tt_iload_n d_Row_at_12 rfl 1 rfl ?_
      refine tt_aload_n d_Row_at_13 rfl 0 rfl ?_
      refine tt_get F_Row_19 d_Row_at_14 mr fr rfl ?_
      refine tt_alen (v := nI (cap)) 1 d_Row_at_17 rfl mb fb rfl ?_
      refine tt_icmp_ge (t := 34) d_Row_at_18 (by decide) (fun hc3 => ?_) (fun hc3 => ?_)
      · skip
        refine tt_iconst (v := 0) d_Row_at_34 (by decide) ?_
        exact tt_ret rfl (by first | rfl | exact nz_0 | exact nz_1) (Nat.le_refl _) (Nat.le_refl _) d_Row_at_35 (by refine ⟨rfl, ?_⟩; simp [hc1, hc2, hc3])
      · skip
        refine tt_aload_n d_Row_at_21 rfl 0 rfl ?_
        refine tt_get F_Row_19 d_Row_at_22 mr fr rfl ?_
        refine tt_iload_n d_Row_at_25 rfl 1 rfl ?_
        refine tt_bald 1 d_Row_at_26 rfl mb fb (vi_of (by assumption) (by assumption) hcap) ?_
        refine tt_sipush (v := 255) d_Row_at_27 (by decide) ?_
        refine tt_iand d_Row_at_30 ?_
        refine tt_goto (t := 35) d_Row_at_31 (by decide) ?_
        exact tt_ret rfl (by first | rfl | exact nz_0 | exact nz_1) (Nat.le_refl _) (Nat.le_refl _) d_Row_at_35 (by refine ⟨rfl, ?_⟩; simp [hc1, hc2, hc3])
set_option maxHeartbeats 4000000 in
set_option maxRecDepth 100000 in
/-- Row.add(v): a byte more, if there is room -/
theorem c_Row_add {l : Launch} {D : va_G} {kd : Nat → ClassId} {z : Nat} {S : tS} {r b cap : Nat} {n : Int32} {f : Nat → Int32} (mr : r ∈ S.1) (fr : S.2 r = .inr (5, [.ref b, .int n])) (mb : b ∈ S.1) (fb : S.2 b = .inl (kd 1, cap, .inl f)) (hcap : cap < 2 ^ 31) {v : Int32} : tM l y_Row_add b_Row_add 2 none [] {} D (tyl kd) z [.ref r, .int v] S (fun o S' => o = .inl none ∧ S' = if ¬ n < 0 ∧ ¬ nI cap ≤ n then tset (tset S b (.inl (kd 1, cap, .inl (upd f n.toNatClampNeg v.toInt8.toInt32)))) r (.inr (5, [.ref b, .int (n + 1)])) else S) := by
  refine tM.of (own := "FlashVault$Row") (ini := false) (by decide) rfl (fun h => by first | rfl | cases h) (Nat.le_of_ble_eq_true rfl) (lv := [(0, .ref r), (1, .int v)]) rfl ?_
  refine tt_aload_n d_Row_add_0 rfl 0 rfl ?_
  refine tt_get F_Row_7 d_Row_add_1 mr fr rfl ?_
  refine tt_if_lt (t := 40) d_Row_add_4 (by decide) (fun hc1 => ?_) (fun hc1 => ?_)
  · skip
    exact tt_vret rfl (Nat.le_refl _) (Nat.le_refl _) d_Row_add_40 (by refine ⟨rfl, ?_⟩; skip; simp [hc1, pk_vb])
  · skip
    refine tt_aload_n d_Row_add_7 rfl 0 rfl ?_
    refine tt_get F_Row_7 d_Row_add_8 mr fr rfl ?_
    refine tt_aload_n d_Row_add_11 rfl 0 rfl ?_
    refine tt_get F_Row_19 d_Row_add_12 mr fr rfl ?_
    refine tt_alen (v := nI (cap)) 1 d_Row_add_15 rfl mb fb rfl ?_
    refine tt_icmp_ge (t := 40) d_Row_add_16 (by decide) (fun hc2 => ?_) (fun hc2 => ?_)
    · skip
      exact tt_vret rfl (Nat.le_refl _) (Nat.le_refl _) d_Row_add_40 (by refine ⟨rfl, ?_⟩; skip; simp [hc1, hc2, pk_vb])
    · skip
      refine tt_aload_n d_Row_add_19 rfl 0 rfl ?_
      refine tt_get F_Row_19 d_Row_add_20 mr fr rfl ?_
      refine tt_aload_n d_Row_add_23 rfl 0 rfl ?_
      refine tt_get F_Row_7 d_Row_add_24 mr fr rfl ?_
      refine tt_iload_n d_Row_add_27 rfl 1 rfl ?_
      refine tt_i2b d_Row_add_28 ?_
      refine tt_bast 1 d_Row_add_29 rfl mb fb (vi_of (by assumption) (by assumption) hcap) ?_
      obtain ⟨S3, hS3⟩ : ∃ x, x = tset S b (.inl (kd 1, cap, .inl (upd f (n).toNatClampNeg (vp_nar .byte ((v).toInt8.toInt32))))) := ⟨_, rfl⟩
      refine tt_S hS3 ?_
      have m4 : r ∈ S3.1 := by rw [hS3]; exact mr
      have f5 : S3.2 r = .inr (5, [.ref b, .int n]) := by rw [hS3]; exact (va_up_ne _ _ (ap_ne (fun h => by rw [h, fb] at fr; cases fr))).trans fr
      have m6 : b ∈ S3.1 := by rw [hS3]; exact mb
      have f7 : S3.2 b = .inl (kd 1, cap, .inl (upd f (n).toNatClampNeg (vp_nar .byte ((v).toInt8.toInt32)))) := by rw [hS3]; exact va_up_self _ _ _
      refine tt_aload_n d_Row_add_30 rfl 0 rfl ?_
      refine tt_dup d_Row_add_31 rfl ?_
      refine tt_get F_Row_7 d_Row_add_32 m4 f5 rfl ?_
      refine tt_iconst (v := 1) d_Row_add_35 (by decide) ?_
      refine tt_iadd d_Row_add_36 ?_
      refine tt_put F_Row_7 d_Row_add_37 m4 f5 (Or.inl rfl) (by first | rfl | decide | exact pk_nz _) (by first | rfl | decide) (by simp) ?_
      obtain ⟨S8, hS8⟩ : ∃ x, x = tset S3 r (.inr (5, [.ref b, .int ((n + 1))])) := ⟨_, rfl⟩
      refine tt_S hS8 ?_
      have m9 : r ∈ S8.1 := by rw [hS8]; exact m4
      have f10 : S8.2 r = .inr (5, [.ref b, .int ((n + 1))]) := by rw [hS8]; exact va_up_self _ _ _
      have m11 : b ∈ S8.1 := by rw [hS8]; exact m6
      have f12 : S8.2 b = .inl (kd 1, cap, .inl (upd f (n).toNatClampNeg (vp_nar .byte ((v).toInt8.toInt32)))) := by rw [hS8]; exact (va_up_ne _ _ (ap_ne (fun h => by rw [← h, fb] at fr; cases fr))).trans f7
      exact tt_vret rfl (Nat.le_refl _) (Nat.le_refl _) d_Row_add_40 (by refine ⟨rfl, ?_⟩; subst hS3; subst hS8; simp [hc1, hc2, pk_vb])
set_option maxHeartbeats 4000000 in
set_option maxRecDepth 100000 in
/-- Row.copy: within both, or not at all -/
theorem c_Row_copy {l : Launch} {D : va_G} {kd : Nat → ClassId} {z : Nat} {S : tS} {a b ca cb : Nat} {i j n : Int32} {f g : Nat → Int32} (ma : a ∈ S.1) (fa : S.2 a = .inl (kd 1, ca, .inl f)) (mb : b ∈ S.1) (fb : S.2 b = .inl (kd 1, cb, .inl g)) (hca : ca < 2 ^ 31) (hcb : cb < 2 ^ 31) (hfit : sb_Fit f) : tM l y_Row_copy b_Row_copy 5 none [] { frames := 1, locals := 60 } D (tyl kd) z [.ref a, .int i, .ref b, .int j, .int n] S (fun o S' => o = .inl none ∧ S' = if ¬ n ≤ 0 ∧ ¬ i < 0 ∧ ¬ j < 0 ∧ ¬ (nI ca - n) < i ∧ ¬ (nI cb - n) < j then tset S b (.inl (kd 1, cb, .inl (va_cpy f g i.toNatClampNeg j.toNatClampNeg n.toNatClampNeg))) else S) := by
  refine tM.of (own := "FlashVault$Row") (ini := false) (by decide) rfl (fun h => by cases h) (Nat.le_of_ble_eq_true rfl) (lv := [(0, .ref a), (1, .int i), (2, .ref b), (3, .int j), (4, .int n)]) rfl ?_
  refine tt_iload d_Row_copy_0 4 rfl ?_
  refine tt_if_le (t := 40) d_Row_copy_2 (by decide) (fun hc1 => ?_) (fun hc1 => ?_)
  · skip
    exact tt_vret rfl (Nat.le_refl _) (Nat.le_refl _) d_Row_copy_40 (by refine ⟨rfl, ?_⟩; skip; simp [hc1])
  · skip
    refine tt_iload_n d_Row_copy_5 rfl 1 rfl ?_
    refine tt_if_lt (t := 40) d_Row_copy_6 (by decide) (fun hc2 => ?_) (fun hc2 => ?_)
    · skip
      exact tt_vret rfl (Nat.le_refl _) (Nat.le_refl _) d_Row_copy_40 (by refine ⟨rfl, ?_⟩; skip; simp [hc1, hc2])
    · skip
      refine tt_iload_n d_Row_copy_9 rfl 3 rfl ?_
      refine tt_if_lt (t := 40) d_Row_copy_10 (by decide) (fun hc3 => ?_) (fun hc3 => ?_)
      · skip
        exact tt_vret rfl (Nat.le_refl _) (Nat.le_refl _) d_Row_copy_40 (by refine ⟨rfl, ?_⟩; skip; simp [hc1, hc2, hc3])
      · skip
        refine tt_iload_n d_Row_copy_13 rfl 1 rfl ?_
        refine tt_aload_n d_Row_copy_14 rfl 0 rfl ?_
        refine tt_alen (v := nI (ca)) 1 d_Row_copy_15 rfl ma fa rfl ?_
        refine tt_iload d_Row_copy_16 4 rfl ?_
        refine tt_isub d_Row_copy_18 ?_
        refine tt_icmp_gt (t := 40) d_Row_copy_19 (by decide) (fun hc4 => ?_) (fun hc4 => ?_)
        · skip
          exact tt_vret rfl (Nat.le_refl _) (Nat.le_refl _) d_Row_copy_40 (by refine ⟨rfl, ?_⟩; skip; simp [hc1, hc2, hc3, hc4])
        · skip
          refine tt_iload_n d_Row_copy_22 rfl 3 rfl ?_
          refine tt_aload_n d_Row_copy_23 rfl 2 rfl ?_
          refine tt_alen (v := nI (cb)) 1 d_Row_copy_24 rfl mb fb rfl ?_
          refine tt_iload d_Row_copy_25 4 rfl ?_
          refine tt_isub d_Row_copy_27 ?_
          refine tt_icmp_gt (t := 40) d_Row_copy_28 (by decide) (fun hc5 => ?_) (fun hc5 => ?_)
          · skip
            exact tt_vret rfl (Nat.le_refl _) (Nat.le_refl _) d_Row_copy_40 (by refine ⟨rfl, ?_⟩; skip; simp [hc1, hc2, hc3, hc4, hc5])
          · skip
            refine tt_aload_n d_Row_copy_31 rfl 0 rfl ?_
            refine tt_iload_n d_Row_copy_32 rfl 1 rfl ?_
            refine tt_aload_n d_Row_copy_33 rfl 2 rfl ?_
            refine tt_iload_n d_Row_copy_34 rfl 3 rfl ?_
            refine tt_iload d_Row_copy_35 4 rfl ?_
            refine tt_copy 1 1 w_4_55 w_4_57 w_4_56 w_1_23 ma fa mb fb rfl rfl rfl (by assumption) (by assumption) (fun h => absurd (Int32.le_of_lt h) (by assumption)) (cp_in (by assumption) (by assumption) (by assumption) hca) (cp_in (by assumption) (by assumption) (by assumption) hcb) (fun k _ => hfit _) (by decide) d_Row_copy_37 ?_
            obtain ⟨S6, hS6⟩ : ∃ x, x = tset S b (.inl (kd 1, cb, .inl (va_cpy f g (i).toNatClampNeg (j).toNatClampNeg (n).toNatClampNeg))) := ⟨_, rfl⟩
            refine tt_S hS6 ?_
            exact tt_vret rfl (Nat.le_refl _) (Nat.le_refl _) d_Row_copy_40 (by refine ⟨rfl, ?_⟩; subst hS6; simp [hc1, hc2, hc3, hc4, hc5])
