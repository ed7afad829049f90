/-! ===== class Tree: loops; written by wip/gen/tree2.py ===== -/
def trNamed (fa fb fdd fu g : Nat → Int32) (cg : Nat) (x j m : Int32) : Nat → Int32 → Int32
  | 0, _ => -1
  | t + 1, k => if ¬ trIn fa fb k x = 0 ∧ fdd k.toNatClampNeg = m ∧ rcv fu g 6030 cg (k * 30) m j m = 0 then k else trNamed fa fb fdd fu g cg x j m t (k + 1)
def trRank (fa fb fdd fu : Nat → Int32) (i x : Int32) : Nat → Int32 → Int32 → Int32
  | 0, _, n => n
  | t + 1, k, n => trRank fa fb fdd fu i x t (k + 1) (if ¬ trIn fa fb k x = 0 ∧ rcv fu fu 6030 6030 (k * 30) (fdd k.toNatClampNeg) (i * 30) (fdd i.toNatClampNeg) < 0 then n + 1 else n)
def trRanked (fa fb fdd fu : Nat → Int32) (x r : Int32) : Nat → Int32 → Int32
  | 0, _ => -1
  | t + 1, k => if r < 0 then -1 else if ¬ trIn fa fb k x = 0 ∧ trRank fa fb fdd fu k x 200 1 0 = r then k else trRanked fa fb fdd fu x r t (k + 1)
def trUp (fb : Nat → Int32) (o : Int32) : Nat → Int32 → Int32
  | 0, x => x
  | t + 1, x => if x ≤ 0 ∨ x = o then x else trUp fb o t (if isNum x = 0 then 0 else fb x.toNatClampNeg)
abbrev b_Tree_leastUnused : ByteArray := prog_11_method_13_code
def y_Tree_leastUnused : MethodName := ⟨"FlashVault$Tree", "leastUnused", "()I"⟩
theorem d_Tree_leastUnused_2 : decode b_Tree_leastUnused 2 = .ok (.iload_n 1, 1) := by decide +kernel
theorem d_Tree_leastUnused_3 : decode b_Tree_leastUnused 3 = .ok (.sipush 200, 3) := by decide +kernel
theorem d_Tree_leastUnused_6 : decode b_Tree_leastUnused 6 = .ok (.if_icmp .gt 20, 3) := by decide +kernel
theorem d_Tree_leastUnused_26 : decode b_Tree_leastUnused 26 = .ok (.iconst (-1), 1) := by decide +kernel
theorem d_Tree_leastUnused_27 : decode b_Tree_leastUnused 27 = .ok (.ireturn, 1) := by decide +kernel
theorem d_Tree_leastUnused_9 : decode b_Tree_leastUnused 9 = .ok (.aload_n 0, 1) := by decide +kernel
theorem d_Tree_leastUnused_10 : decode b_Tree_leastUnused 10 = .ok (.getfield 9, 3) := by decide +kernel
theorem d_Tree_leastUnused_13 : decode b_Tree_leastUnused 13 = .ok (.iload_n 1, 1) := by decide +kernel
theorem d_Tree_leastUnused_14 : decode b_Tree_leastUnused 14 = .ok (.iaload, 1) := by decide +kernel
theorem d_Tree_leastUnused_15 : decode b_Tree_leastUnused 15 = .ok (.ifCond .ne 5, 3) := by decide +kernel
theorem d_Tree_leastUnused_20 : decode b_Tree_leastUnused 20 = .ok (.iinc 1 1, 3) := by decide +kernel
theorem d_Tree_leastUnused_23 : decode b_Tree_leastUnused 23 = .ok (.goto (-21), 3) := by decide +kernel
theorem d_Tree_leastUnused_18 : decode b_Tree_leastUnused 18 = .ok (.iload_n 1, 1) := by decide +kernel
theorem d_Tree_leastUnused_19 : decode b_Tree_leastUnused 19 = .ok (.ireturn, 1) := by decide +kernel
theorem d_Tree_leastUnused_0 : decode b_Tree_leastUnused 0 = .ok (.iconst 1, 1) := by decide +kernel
theorem d_Tree_leastUnused_1 : decode b_Tree_leastUnused 1 = .ok (.istore_n 1, 1) := by decide +kernel
abbrev b_Tree_childCount : ByteArray := prog_11_method_15_code
def y_Tree_childCount : MethodName := ⟨"FlashVault$Tree", "childCount", "(I)I"⟩
theorem d_Tree_childCount_4 : decode b_Tree_childCount 4 = .ok (.iload_n 3, 1) := by decide +kernel
theorem d_Tree_childCount_5 : decode b_Tree_childCount 5 = .ok (.sipush 200, 3) := by decide +kernel
theorem d_Tree_childCount_8 : decode b_Tree_childCount 8 = .ok (.if_icmp .gt 26, 3) := by decide +kernel
theorem d_Tree_childCount_34 : decode b_Tree_childCount 34 = .ok (.iload_n 2, 1) := by decide +kernel
theorem d_Tree_childCount_35 : decode b_Tree_childCount 35 = .ok (.ireturn, 1) := by decide +kernel
theorem d_Tree_childCount_11 : decode b_Tree_childCount 11 = .ok (.iload_n 2, 1) := by decide +kernel
theorem d_Tree_childCount_12 : decode b_Tree_childCount 12 = .ok (.aload_n 0, 1) := by decide +kernel
theorem d_Tree_childCount_13 : decode b_Tree_childCount 13 = .ok (.iload_n 3, 1) := by decide +kernel
theorem d_Tree_childCount_14 : decode b_Tree_childCount 14 = .ok (.iload_n 1, 1) := by decide +kernel
theorem d_Tree_childCount_15 : decode b_Tree_childCount 15 = .ok (.invokevirtual 58, 3) := by decide +kernel
theorem w_8_134 : (Cond.methodLink "FlashVault$Tree" (58 : Nat) ({ cls := "FlashVault$Tree", name := "isIn", desc := "(II)Z" } : MethodName)) ∈ gW := gW_8 134 rfl rfl
theorem w_8_137 : (Cond.code ({ cls := "FlashVault$Tree", name := "isIn", desc := "(II)Z" } : MethodName) prog_11_method_14_code (3 : Nat) (Option.some FieldType.boolean)) ∈ gW := gW_8 137 rfl rfl
theorem w_8_136 : (Cond.instanceMethod ({ cls := "FlashVault$Tree", name := "isIn", desc := "(II)Z" } : MethodName)) ∈ gW := gW_8 136 rfl rfl
theorem d_Tree_childCount_18 : decode b_Tree_childCount 18 = .ok (.ifCond .eq 7, 3) := by decide +kernel
theorem d_Tree_childCount_25 : decode b_Tree_childCount 25 = .ok (.iconst 0, 1) := by decide +kernel
theorem d_Tree_childCount_26 : decode b_Tree_childCount 26 = .ok (.iadd, 1) := by decide +kernel
theorem d_Tree_childCount_27 : decode b_Tree_childCount 27 = .ok (.istore_n 2, 1) := by decide +kernel
theorem d_Tree_childCount_28 : decode b_Tree_childCount 28 = .ok (.iinc 3 1, 3) := by decide +kernel
theorem d_Tree_childCount_31 : decode b_Tree_childCount 31 = .ok (.goto (-27), 3) := by decide +kernel
theorem d_Tree_childCount_21 : decode b_Tree_childCount 21 = .ok (.iconst 1, 1) := by decide +kernel
theorem d_Tree_childCount_22 : decode b_Tree_childCount 22 = .ok (.goto 4, 3) := by decide +kernel
theorem d_Tree_childCount_0 : decode b_Tree_childCount 0 = .ok (.iconst 0, 1) := by decide +kernel
theorem d_Tree_childCount_1 : decode b_Tree_childCount 1 = .ok (.istore_n 2, 1) := by decide +kernel
theorem d_Tree_childCount_2 : decode b_Tree_childCount 2 = .ok (.iconst 1, 1) := by decide +kernel
theorem d_Tree_childCount_3 : decode b_Tree_childCount 3 = .ok (.istore_n 3, 1) := by decide +kernel
abbrev b_Tree_childNamed : ByteArray := prog_11_method_16_code
def y_Tree_childNamed : MethodName := ⟨"FlashVault$Tree", "childNamed", "(I[BII)I"⟩
theorem d_Tree_childNamed_3 : decode b_Tree_childNamed 3 = .ok (.iload 5, 2) := by decide +kernel
theorem d_Tree_childNamed_5 : decode b_Tree_childNamed 5 = .ok (.sipush 200, 3) := by decide +kernel
theorem d_Tree_childNamed_8 : decode b_Tree_childNamed 8 = .ok (.if_icmp .gt 55, 3) := by decide +kernel
theorem d_Tree_childNamed_63 : decode b_Tree_childNamed 63 = .ok (.iconst (-1), 1) := by decide +kernel
theorem d_Tree_childNamed_64 : decode b_Tree_childNamed 64 = .ok (.ireturn, 1) := by decide +kernel
theorem d_Tree_childNamed_11 : decode b_Tree_childNamed 11 = .ok (.aload_n 0, 1) := by decide +kernel
theorem d_Tree_childNamed_12 : decode b_Tree_childNamed 12 = .ok (.iload 5, 2) := by decide +kernel
theorem d_Tree_childNamed_14 : decode b_Tree_childNamed 14 = .ok (.iload_n 1, 1) := by decide +kernel
theorem d_Tree_childNamed_15 : decode b_Tree_childNamed 15 = .ok (.invokevirtual 58, 3) := by decide +kernel
theorem d_Tree_childNamed_18 : decode b_Tree_childNamed 18 = .ok (.ifCond .eq 39, 3) := by decide +kernel
theorem d_Tree_childNamed_57 : decode b_Tree_childNamed 57 = .ok (.iinc 5 1, 3) := by decide +kernel
theorem d_Tree_childNamed_60 : decode b_Tree_childNamed 60 = .ok (.goto (-57), 3) := by decide +kernel
theorem d_Tree_childNamed_21 : decode b_Tree_childNamed 21 = .ok (.aload_n 0, 1) := by decide +kernel
theorem d_Tree_childNamed_22 : decode b_Tree_childNamed 22 = .ok (.getfield 21, 3) := by decide +kernel
theorem d_Tree_childNamed_25 : decode b_Tree_childNamed 25 = .ok (.iload 5, 2) := by decide +kernel
theorem d_Tree_childNamed_27 : decode b_Tree_childNamed 27 = .ok (.iaload, 1) := by decide +kernel
theorem d_Tree_childNamed_28 : decode b_Tree_childNamed 28 = .ok (.iload 4, 2) := by decide +kernel
theorem d_Tree_childNamed_30 : decode b_Tree_childNamed 30 = .ok (.if_icmp .ne 27, 3) := by decide +kernel
theorem d_Tree_childNamed_33 : decode b_Tree_childNamed 33 = .ok (.aload_n 0, 1) := by decide +kernel
theorem d_Tree_childNamed_34 : decode b_Tree_childNamed 34 = .ok (.getfield 24, 3) := by decide +kernel
theorem w_1_139 : (Cond.fieldLink "FlashVault$Tree" (24 : Nat) "FlashVault$Tree" "names" "[B") ∈ gW := gW_1 139 rfl rfl
theorem F_Tree_24 : tF "FlashVault$Tree" 24 9 4 RC9 FC9 6 tC9 := ⟨rfl, by decide, rfl, iC9, kC9, nC9, w_1_139⟩
theorem d_Tree_childNamed_37 : decode b_Tree_childNamed 37 = .ok (.iload 5, 2) := by decide +kernel
theorem d_Tree_childNamed_39 : decode b_Tree_childNamed 39 = .ok (.bipush 30, 2) := by decide +kernel
theorem d_Tree_childNamed_41 : decode b_Tree_childNamed 41 = .ok (.imul, 1) := by decide +kernel
theorem d_Tree_childNamed_42 : decode b_Tree_childNamed 42 = .ok (.iload 4, 2) := by decide +kernel
theorem d_Tree_childNamed_44 : decode b_Tree_childNamed 44 = .ok (.aload_n 2, 1) := by decide +kernel
theorem d_Tree_childNamed_45 : decode b_Tree_childNamed 45 = .ok (.iload_n 3, 1) := by decide +kernel
theorem d_Tree_childNamed_46 : decode b_Tree_childNamed 46 = .ok (.iload 4, 2) := by decide +kernel
theorem d_Tree_childNamed_48 : decode b_Tree_childNamed 48 = .ok (.invokestatic 62, 3) := by decide +kernel
theorem w_8_138 : (Cond.methodLink "FlashVault$Tree" (62 : Nat) ({ cls := "FlashVault$Row", name := "compare", desc := "([BII[BII)I" } : MethodName)) ∈ gW := gW_8 138 rfl rfl
theorem d_Tree_childNamed_51 : decode b_Tree_childNamed 51 = .ok (.ifCond .ne 6, 3) := by decide +kernel
theorem d_Tree_childNamed_54 : decode b_Tree_childNamed 54 = .ok (.iload 5, 2) := by decide +kernel
theorem d_Tree_childNamed_56 : decode b_Tree_childNamed 56 = .ok (.ireturn, 1) := by decide +kernel
theorem d_Tree_childNamed_0 : decode b_Tree_childNamed 0 = .ok (.iconst 1, 1) := by decide +kernel
theorem d_Tree_childNamed_1 : decode b_Tree_childNamed 1 = .ok (.istore 5, 2) := by decide +kernel
abbrev b_Tree_rankOf : ByteArray := prog_11_method_18_code
def y_Tree_rankOf : MethodName := ⟨"FlashVault$Tree", "rankOf", "(II)I"⟩
theorem d_Tree_rankOf_5 : decode b_Tree_rankOf 5 = .ok (.iload 4, 2) := by decide +kernel
theorem d_Tree_rankOf_7 : decode b_Tree_rankOf 7 = .ok (.sipush 200, 3) := by decide +kernel
theorem d_Tree_rankOf_10 : decode b_Tree_rankOf 10 = .ok (.if_icmp .gt 58, 3) := by decide +kernel
theorem d_Tree_rankOf_68 : decode b_Tree_rankOf 68 = .ok (.iload_n 3, 1) := by decide +kernel
theorem d_Tree_rankOf_69 : decode b_Tree_rankOf 69 = .ok (.ireturn, 1) := by decide +kernel
theorem d_Tree_rankOf_13 : decode b_Tree_rankOf 13 = .ok (.aload_n 0, 1) := by decide +kernel
theorem d_Tree_rankOf_14 : decode b_Tree_rankOf 14 = .ok (.iload 4, 2) := by decide +kernel
theorem d_Tree_rankOf_16 : decode b_Tree_rankOf 16 = .ok (.iload_n 2, 1) := by decide +kernel
theorem d_Tree_rankOf_17 : decode b_Tree_rankOf 17 = .ok (.invokevirtual 58, 3) := by decide +kernel
theorem d_Tree_rankOf_20 : decode b_Tree_rankOf 20 = .ok (.ifCond .eq 42, 3) := by decide +kernel
theorem d_Tree_rankOf_62 : decode b_Tree_rankOf 62 = .ok (.iinc 4 1, 3) := by decide +kernel
theorem d_Tree_rankOf_65 : decode b_Tree_rankOf 65 = .ok (.goto (-60), 3) := by decide +kernel
theorem d_Tree_rankOf_23 : decode b_Tree_rankOf 23 = .ok (.aload_n 0, 1) := by decide +kernel
theorem d_Tree_rankOf_24 : decode b_Tree_rankOf 24 = .ok (.getfield 24, 3) := by decide +kernel
theorem d_Tree_rankOf_27 : decode b_Tree_rankOf 27 = .ok (.iload 4, 2) := by decide +kernel
theorem d_Tree_rankOf_29 : decode b_Tree_rankOf 29 = .ok (.bipush 30, 2) := by decide +kernel
theorem d_Tree_rankOf_31 : decode b_Tree_rankOf 31 = .ok (.imul, 1) := by decide +kernel
theorem d_Tree_rankOf_32 : decode b_Tree_rankOf 32 = .ok (.aload_n 0, 1) := by decide +kernel
theorem d_Tree_rankOf_33 : decode b_Tree_rankOf 33 = .ok (.getfield 21, 3) := by decide +kernel
theorem d_Tree_rankOf_36 : decode b_Tree_rankOf 36 = .ok (.iload 4, 2) := by decide +kernel
theorem d_Tree_rankOf_38 : decode b_Tree_rankOf 38 = .ok (.iaload, 1) := by decide +kernel
theorem d_Tree_rankOf_39 : decode b_Tree_rankOf 39 = .ok (.aload_n 0, 1) := by decide +kernel
theorem d_Tree_rankOf_40 : decode b_Tree_rankOf 40 = .ok (.getfield 24, 3) := by decide +kernel
theorem d_Tree_rankOf_43 : decode b_Tree_rankOf 43 = .ok (.iload_n 1, 1) := by decide +kernel
theorem d_Tree_rankOf_44 : decode b_Tree_rankOf 44 = .ok (.bipush 30, 2) := by decide +kernel
theorem d_Tree_rankOf_46 : decode b_Tree_rankOf 46 = .ok (.imul, 1) := by decide +kernel
theorem d_Tree_rankOf_47 : decode b_Tree_rankOf 47 = .ok (.aload_n 0, 1) := by decide +kernel
theorem d_Tree_rankOf_48 : decode b_Tree_rankOf 48 = .ok (.getfield 21, 3) := by decide +kernel
theorem d_Tree_rankOf_51 : decode b_Tree_rankOf 51 = .ok (.iload_n 1, 1) := by decide +kernel
theorem d_Tree_rankOf_52 : decode b_Tree_rankOf 52 = .ok (.iaload, 1) := by decide +kernel
theorem d_Tree_rankOf_53 : decode b_Tree_rankOf 53 = .ok (.invokestatic 62, 3) := by decide +kernel
theorem d_Tree_rankOf_56 : decode b_Tree_rankOf 56 = .ok (.ifCond .ge 6, 3) := by decide +kernel
theorem d_Tree_rankOf_59 : decode b_Tree_rankOf 59 = .ok (.iinc 3 1, 3) := by decide +kernel
theorem d_Tree_rankOf_0 : decode b_Tree_rankOf 0 = .ok (.iconst 0, 1) := by decide +kernel
theorem d_Tree_rankOf_1 : decode b_Tree_rankOf 1 = .ok (.istore_n 3, 1) := by decide +kernel
theorem d_Tree_rankOf_2 : decode b_Tree_rankOf 2 = .ok (.iconst 1, 1) := by decide +kernel
theorem d_Tree_rankOf_3 : decode b_Tree_rankOf 3 = .ok (.istore 4, 2) := by decide +kernel
abbrev b_Tree_childRanked : ByteArray := prog_11_method_17_code
def y_Tree_childRanked : MethodName := ⟨"FlashVault$Tree", "childRanked", "(II)I"⟩
theorem d_Tree_childRanked_2 : decode b_Tree_childRanked 2 = .ok (.iload_n 3, 1) := by decide +kernel
theorem d_Tree_childRanked_3 : decode b_Tree_childRanked 3 = .ok (.sipush 200, 3) := by decide +kernel
theorem d_Tree_childRanked_6 : decode b_Tree_childRanked 6 = .ok (.if_icmp .gt 34, 3) := by decide +kernel
theorem d_Tree_childRanked_40 : decode b_Tree_childRanked 40 = .ok (.iconst (-1), 1) := by decide +kernel
theorem d_Tree_childRanked_41 : decode b_Tree_childRanked 41 = .ok (.ireturn, 1) := by decide +kernel
theorem d_Tree_childRanked_9 : decode b_Tree_childRanked 9 = .ok (.iload_n 2, 1) := by decide +kernel
theorem d_Tree_childRanked_10 : decode b_Tree_childRanked 10 = .ok (.ifCond .lt 30, 3) := by decide +kernel
theorem d_Tree_childRanked_13 : decode b_Tree_childRanked 13 = .ok (.aload_n 0, 1) := by decide +kernel
theorem d_Tree_childRanked_14 : decode b_Tree_childRanked 14 = .ok (.iload_n 3, 1) := by decide +kernel
theorem d_Tree_childRanked_15 : decode b_Tree_childRanked 15 = .ok (.iload_n 1, 1) := by decide +kernel
theorem d_Tree_childRanked_16 : decode b_Tree_childRanked 16 = .ok (.invokevirtual 58, 3) := by decide +kernel
theorem d_Tree_childRanked_19 : decode b_Tree_childRanked 19 = .ok (.ifCond .eq 15, 3) := by decide +kernel
theorem d_Tree_childRanked_34 : decode b_Tree_childRanked 34 = .ok (.iinc 3 1, 3) := by decide +kernel
theorem d_Tree_childRanked_37 : decode b_Tree_childRanked 37 = .ok (.goto (-35), 3) := by decide +kernel
theorem d_Tree_childRanked_22 : decode b_Tree_childRanked 22 = .ok (.aload_n 0, 1) := by decide +kernel
theorem d_Tree_childRanked_23 : decode b_Tree_childRanked 23 = .ok (.iload_n 3, 1) := by decide +kernel
theorem d_Tree_childRanked_24 : decode b_Tree_childRanked 24 = .ok (.iload_n 1, 1) := by decide +kernel
theorem d_Tree_childRanked_25 : decode b_Tree_childRanked 25 = .ok (.invokevirtual 66, 3) := by decide +kernel
theorem w_9_40 : (Cond.methodLink "FlashVault$Tree" (66 : Nat) ({ cls := "FlashVault$Tree", name := "rankOf", desc := "(II)I" } : MethodName)) ∈ gW := gW_9 40 rfl rfl
theorem w_9_43 : (Cond.code ({ cls := "FlashVault$Tree", name := "rankOf", desc := "(II)I" } : MethodName) prog_11_method_18_code (5 : Nat) (Option.some FieldType.int)) ∈ gW := gW_9 43 rfl rfl
theorem w_9_42 : (Cond.instanceMethod ({ cls := "FlashVault$Tree", name := "rankOf", desc := "(II)I" } : MethodName)) ∈ gW := gW_9 42 rfl rfl
theorem d_Tree_childRanked_28 : decode b_Tree_childRanked 28 = .ok (.iload_n 2, 1) := by decide +kernel
theorem d_Tree_childRanked_29 : decode b_Tree_childRanked 29 = .ok (.if_icmp .ne 5, 3) := by decide +kernel
theorem d_Tree_childRanked_32 : decode b_Tree_childRanked 32 = .ok (.iload_n 3, 1) := by decide +kernel
theorem d_Tree_childRanked_33 : decode b_Tree_childRanked 33 = .ok (.ireturn, 1) := by decide +kernel
theorem d_Tree_childRanked_0 : decode b_Tree_childRanked 0 = .ok (.iconst 1, 1) := by decide +kernel
theorem d_Tree_childRanked_1 : decode b_Tree_childRanked 1 = .ok (.istore_n 3, 1) := by decide +kernel
set_option maxHeartbeats 4000000 in
set_option maxRecDepth 100000 in
/-- Tree.leastUnused: its loop -/
theorem lp_Tree_leastUnused {l : Launch} {D : va_G} {kd : Nat → ClassId} {z : Nat} {S : tS} {t0 a b c d u : Nat} {nn : Int32} {fa : Nat → Int32} (m_t0 : t0 ∈ S.1) (f_t0 : S.2 t0 = .inr (9, [.ref a, .ref b, .ref c, .ref d, .ref u, .int nn])) (m_a : a ∈ S.1) (f_a : S.2 a = .inl (kd 0, 201, .inl fa))  : ∀ (t k' : Nat) (k  : Int32) (res : Int32), k = nI k' → k' + t = 201 → res = trLeast fa t k → tP b_Tree_leastUnused "FlashVault$Tree" 2 (some FieldType.int) false [] {} D (tyl kd) z l (fun o9 T9 => T9 = S ∧ o9 = .inl (some (.int res))) 0 0 2 [(1, .int k), (0, .ref t0)] [] S := by
  intro t
  induction t with
  | zero =>
    intro k' k  res hk hs hr
    have hge : 200 < k := by rw [hk, show k' = 201 by omega]; decide
    refine tt_iload_n d_Tree_leastUnused_2 rfl 0 rfl ?_
    refine tt_sipush (v := 200) d_Tree_leastUnused_3 (by decide) ?_
    refine tt_icmp_gt (t := 26) d_Tree_leastUnused_6 (by decide) (fun hc1 => ?_) (fun hc1 => ?_)
    · skip
      refine tt_iconst (v := -1) d_Tree_leastUnused_26 (by decide) ?_
      exact tt_ret rfl (by first | rfl | decide | exact nz_ite _) (Nat.le_refl _) (Nat.le_refl _) d_Tree_leastUnused_27 (by first | (exact absurd hge (by first | assumption | exact Int32.not_le.mpr (by assumption))) | (refine ⟨rfl, ?_⟩; rw [hr]; unfold trLeast; first | rfl | (simp [hc1, Int32.not_le.mpr hc1]; done) | simp_all))
    · skip
      exact absurd hge hc1
  | succ t ih =>
    intro k' k  res hk hs hr
    have hlt : ¬ 200 < k := by rw [hk]; intro h; have h9 := (nI_ltI (a := 200) (b := k') (by decide) (by omega)).mp h; omega
    refine tt_iload_n d_Tree_leastUnused_2 rfl 0 rfl ?_
    refine tt_sipush (v := 200) d_Tree_leastUnused_3 (by decide) ?_
    refine tt_icmp_gt (t := 26) d_Tree_leastUnused_6 (by decide) (fun hc1 => ?_) (fun hc1 => ?_)
    · skip
      exact absurd hc1 hlt
    · skip
      refine tt_aload_n d_Tree_leastUnused_9 rfl 1 rfl ?_
      refine tt_get F_Tree_9 d_Tree_leastUnused_10 m_t0 f_t0 rfl ?_
      refine tt_iload_n d_Tree_leastUnused_13 rfl 0 rfl ?_
      refine tt_iald 0 d_Tree_leastUnused_14 rfl m_a f_a (by rw [hk]; exact vp_in_nI (by omega) (by omega)) ?_
      refine tt_if_ne (t := 20) d_Tree_leastUnused_15 (by decide) (fun hc2 => ?_) (fun hc2 => ?_)
      · skip
        refine tt_iinc (v := (k + 1)) (lv' := [(1, .int ((k + 1))), (0, .ref t0)]) d_Tree_leastUnused_20 0 rfl rfl (by decide) rfl ?_
        refine tt_goto (t := 2) d_Tree_leastUnused_23 (by decide) ?_
        refine tt_sub (lv' := [(1, .int ((k + 1))), (0, .ref t0)]) [0, 1] rfl ?_
        exact ih (k' + 1) (k + 1)  res (by rw [hk]; exact nI_1 k') (by omega) (by rw [hr, trLeast]; first | rfl | (simp [hc1, Int32.not_lt.mp hc1, hc2]; done) | simp_all)
      · skip
        refine tt_iload_n d_Tree_leastUnused_18 rfl 0 rfl ?_
        exact tt_ret rfl (by first | rfl | decide | exact nz_ite _) (Nat.le_refl _) (Nat.le_refl _) d_Tree_leastUnused_19 (by first | (exact absurd (by assumption) hlt) | (refine ⟨rfl, ?_⟩; rw [hr]; unfold trLeast; first | rfl | (simp [hc1, Int32.not_lt.mp hc1, hc2]; done) | simp_all))
set_option maxHeartbeats 4000000 in
set_option maxRecDepth 100000 in
/-- Tree.leastUnused -/
theorem c_Tree_leastUnused {l : Launch} {D : va_G} {kd : Nat → ClassId} {z : Nat} {S : tS} {t0 a b c d u : Nat} {nn : Int32} {fa : Nat → Int32} (m_t0 : t0 ∈ S.1) (f_t0 : S.2 t0 = .inr (9, [.ref a, .ref b, .ref c, .ref d, .ref u, .int nn])) (m_a : a ∈ S.1) (f_a : S.2 a = .inl (kd 0, 201, .inl fa))   : tM l y_Tree_leastUnused b_Tree_leastUnused 2 (some FieldType.int) [] {} D (tyl kd) z [.ref t0] S (fun o9 T9 => T9 = S ∧ o9 = .inl (some (.int (trLeast fa 200 1)))) := by
  refine tM.of (own := "FlashVault$Tree") (ini := false) (by decide) rfl (fun h => by first | rfl | cases h) (Nat.le_of_ble_eq_true rfl) (lv := [(0, .ref t0)]) rfl ?_
  refine tt_iconst (v := 1) d_Tree_leastUnused_0 (by decide) ?_
  refine tt_istore_n (lv' := [(1, .int 1), (0, .ref t0)]) d_Tree_leastUnused_1 rfl (by decide) rfl ?_
  exact lp_Tree_leastUnused m_t0 f_t0 m_a f_a 200 1 1 _ rfl (by omega) rfl
set_option maxHeartbeats 4000000 in
set_option maxRecDepth 100000 in
/-- Tree.childCount: its loop -/
theorem lp_Tree_childCount {l : Launch} {D : va_G} {kd : Nat → ClassId} {z : Nat} {S : tS} {t0 a b c d u : Nat} {nn : Int32} {x : Int32} {fa fb : Nat → Int32} (m_t0 : t0 ∈ S.1) (f_t0 : S.2 t0 = .inr (9, [.ref a, .ref b, .ref c, .ref d, .ref u, .int nn])) (m_a : a ∈ S.1) (f_a : S.2 a = .inl (kd 0, 201, .inl fa)) (m_b : b ∈ S.1) (f_b : S.2 b = .inl (kd 0, 201, .inl fb))  : ∀ (t k' : Nat) (k n : Int32) (res : Int32), k = nI k' → k' + t = 201 → res = trCount fa fb x t k n → tP b_Tree_childCount "FlashVault$Tree" 4 (some FieldType.int) false [] { frames := 1, locals := 22 } D (tyl kd) z l (fun o9 T9 => T9 = S ∧ o9 = .inl (some (.int res))) 0 0 4 [(3, .int k), (2, .int n), (0, .ref t0), (1, .int x)] [] S := by
  intro t
  induction t with
  | zero =>
    intro k' k n res hk hs hr
    have hge : 200 < k := by rw [hk, show k' = 201 by omega]; decide
    refine tt_iload_n d_Tree_childCount_4 rfl 0 rfl ?_
    refine tt_sipush (v := 200) d_Tree_childCount_5 (by decide) ?_
    refine tt_icmp_gt (t := 34) d_Tree_childCount_8 (by decide) (fun hc1 => ?_) (fun hc1 => ?_)
    · skip
      refine tt_iload_n d_Tree_childCount_34 rfl 1 rfl ?_
      exact tt_ret rfl (by first | rfl | decide | exact nz_ite _) (Nat.le_refl _) (Nat.le_refl _) d_Tree_childCount_35 (by first | (exact absurd hge (by first | assumption | exact Int32.not_le.mpr (by assumption))) | (refine ⟨rfl, ?_⟩; rw [hr]; unfold trCount; first | rfl | (simp [hc1, Int32.not_le.mpr hc1]; done) | simp_all))
    · skip
      exact absurd hge hc1
  | succ t ih =>
    intro k' k n res hk hs hr
    have hlt : ¬ 200 < k := by rw [hk]; intro h; have h9 := (nI_ltI (a := 200) (b := k') (by decide) (by omega)).mp h; omega
    refine tt_iload_n d_Tree_childCount_4 rfl 0 rfl ?_
    refine tt_sipush (v := 200) d_Tree_childCount_5 (by decide) ?_
    refine tt_icmp_gt (t := 34) d_Tree_childCount_8 (by decide) (fun hc1 => ?_) (fun hc1 => ?_)
    · skip
      exact absurd hc1 hlt
    · skip
      refine tt_iload_n d_Tree_childCount_11 rfl 1 rfl ?_
      refine tt_aload_n d_Tree_childCount_12 rfl 2 rfl ?_
      refine tt_iload_n d_Tree_childCount_13 rfl 0 rfl ?_
      refine tt_iload_n d_Tree_childCount_14 rfl 3 rfl ?_
      refine tt_callV (bytes := b_Tree_isIn) (nL' := 3) (ret' := (some FieldType.boolean)) (hh' := []) (As := [.int k, .int x]) w_8_134 w_8_136 (gW_sel 63 rfl rfl) w_1_6 w_8_137 ⟨by decide, by decide, rfl⟩ (c_Tree_isIn m_t0 f_t0 m_a f_a m_b f_b (by rw [hk]; exact vp_in_nI (by omega) (by omega))) m_t0 f_t0 rfl ⟨Nat.le_of_ble_eq_true rfl, Nat.le_of_ble_eq_true rfl, Nat.le_of_ble_eq_true rfl, Nat.le_of_ble_eq_true rfl⟩ (Nat.le_of_ble_eq_true rfl) d_Tree_childCount_15 rfl (fun v9 S2 hq => ?_) (fun k9 S9 hq => by cases hq.2)
      obtain ⟨hS2, ho9⟩ := hq
      cases ho9
      refine tt_S hS2.symm ?_
      refine tt_if_eq (t := 25) d_Tree_childCount_18 (by decide) (fun hc3 => ?_) (fun hc3 => ?_)
      · skip
        refine tt_iconst (v := 0) d_Tree_childCount_25 (by decide) ?_
        refine tt_iadd d_Tree_childCount_26 ?_
        refine tt_istore_n (lv' := [(2, .int ((n + 0))), (3, .int k), (0, .ref t0), (1, .int x)]) d_Tree_childCount_27 rfl (by decide) rfl ?_
        refine tt_iinc (v := (k + 1)) (lv' := [(3, .int ((k + 1))), (2, .int ((n + 0))), (0, .ref t0), (1, .int x)]) d_Tree_childCount_28 1 rfl rfl (by decide) rfl ?_
        refine tt_goto (t := 4) d_Tree_childCount_31 (by decide) ?_
        refine tt_sub (lv' := [(3, .int ((k + 1))), (2, .int ((n + 0))), (0, .ref t0), (1, .int x)]) [0, 1, 2, 3] rfl ?_
        exact ih (k' + 1) (k + 1) ((n + 0)) res (by rw [hk]; exact nI_1 k') (by omega) (by rw [hr, trCount]; first | rfl | (simp [hc1, Int32.not_lt.mp hc1, hc3]; done) | simp_all)
      · skip
        refine tt_iconst (v := 1) d_Tree_childCount_21 (by decide) ?_
        refine tt_goto (t := 26) d_Tree_childCount_22 (by decide) ?_
        refine tt_iadd d_Tree_childCount_26 ?_
        refine tt_istore_n (lv' := [(2, .int ((n + 1))), (3, .int k), (0, .ref t0), (1, .int x)]) d_Tree_childCount_27 rfl (by decide) rfl ?_
        refine tt_iinc (v := (k + 1)) (lv' := [(3, .int ((k + 1))), (2, .int ((n + 1))), (0, .ref t0), (1, .int x)]) d_Tree_childCount_28 1 rfl rfl (by decide) rfl ?_
        refine tt_goto (t := 4) d_Tree_childCount_31 (by decide) ?_
        refine tt_sub (lv' := [(3, .int ((k + 1))), (2, .int ((n + 1))), (0, .ref t0), (1, .int x)]) [0, 1, 2, 3] rfl ?_
        exact ih (k' + 1) (k + 1) ((n + 1)) res (by rw [hk]; exact nI_1 k') (by omega) (by rw [hr, trCount]; first | rfl | (simp [hc1, Int32.not_lt.mp hc1, hc3]; done) | simp_all)
set_option maxHeartbeats 4000000 in
set_option maxRecDepth 100000 in
/-- Tree.childCount -/
theorem c_Tree_childCount {l : Launch} {D : va_G} {kd : Nat → ClassId} {z : Nat} {S : tS} {t0 a b c d u : Nat} {nn : Int32} {x : Int32} {fa fb : Nat → Int32} (m_t0 : t0 ∈ S.1) (f_t0 : S.2 t0 = .inr (9, [.ref a, .ref b, .ref c, .ref d, .ref u, .int nn])) (m_a : a ∈ S.1) (f_a : S.2 a = .inl (kd 0, 201, .inl fa)) (m_b : b ∈ S.1) (f_b : S.2 b = .inl (kd 0, 201, .inl fb))   : tM l y_Tree_childCount b_Tree_childCount 4 (some FieldType.int) [] { frames := 1, locals := 22 } D (tyl kd) z [.ref t0, .int x] S (fun o9 T9 => T9 = S ∧ o9 = .inl (some (.int (trCount fa fb x 200 1 0)))) := by
  refine tM.of (own := "FlashVault$Tree") (ini := false) (by decide) rfl (fun h => by first | rfl | cases h) (Nat.le_of_ble_eq_true rfl) (lv := [(0, .ref t0), (1, .int x)]) rfl ?_
  refine tt_iconst (v := 0) d_Tree_childCount_0 (by decide) ?_
  refine tt_istore_n (lv' := [(2, .int 0), (0, .ref t0), (1, .int x)]) d_Tree_childCount_1 rfl (by decide) rfl ?_
  refine tt_iconst (v := 1) d_Tree_childCount_2 (by decide) ?_
  refine tt_istore_n (lv' := [(3, .int 1), (2, .int 0), (0, .ref t0), (1, .int x)]) d_Tree_childCount_3 rfl (by decide) rfl ?_
  exact lp_Tree_childCount m_t0 f_t0 m_a f_a m_b f_b 200 1 1 0 _ rfl (by omega) rfl
set_option maxHeartbeats 4000000 in
set_option maxRecDepth 100000 in
/-- Tree.childNamed: its loop -/
theorem lp_Tree_childNamed {l : Launch} {D : va_G} {kd : Nat → ClassId} {z : Nat} {S : tS} {t0 a b c d u : Nat} {nn : Int32} {q cg : Nat} {x j m : Int32} {fa fb fdd fu g : Nat → Int32} (m_t0 : t0 ∈ S.1) (f_t0 : S.2 t0 = .inr (9, [.ref a, .ref b, .ref c, .ref d, .ref u, .int nn])) (m_a : a ∈ S.1) (f_a : S.2 a = .inl (kd 0, 201, .inl fa)) (m_b : b ∈ S.1) (f_b : S.2 b = .inl (kd 0, 201, .inl fb)) (m_d : d ∈ S.1) (f_d : S.2 d = .inl (kd 0, 201, .inl fdd)) (m_u : u ∈ S.1) (f_u : S.2 u = .inl (kd 1, 6030, .inl fu)) (m_q : q ∈ S.1) (f_q : S.2 q = .inl (kd 1, cg, .inl g)) (hcg : cg < 2 ^ 31) : ∀ (t k' : Nat) (k  : Int32) (res : Int32), k = nI k' → k' + t = 201 → res = trNamed fa fb fdd fu g cg x j m t k → tP b_Tree_childNamed "FlashVault$Tree" 6 (some FieldType.int) false [] { frames := 2, locals := 90 } D (tyl kd) z l (fun o9 T9 => T9 = S ∧ o9 = .inl (some (.int res))) 0 0 3 [(5, .int k), (0, .ref t0), (1, .int x), (2, .ref q), (3, .int j), (4, .int m)] [] S := by
  intro t
  induction t with
  | zero =>
    intro k' k  res hk hs hr
    have hge : 200 < k := by rw [hk, show k' = 201 by omega]; decide
    refine tt_iload d_Tree_childNamed_3 0 rfl ?_
    refine tt_sipush (v := 200) d_Tree_childNamed_5 (by decide) ?_
    refine tt_icmp_gt (t := 63) d_Tree_childNamed_8 (by decide) (fun hc1 => ?_) (fun hc1 => ?_)
    · skip
      refine tt_iconst (v := -1) d_Tree_childNamed_63 (by decide) ?_
      exact tt_ret rfl (by first | rfl | decide | exact nz_ite _) (Nat.le_refl _) (Nat.le_refl _) d_Tree_childNamed_64 (by first | (exact absurd hge (by first | assumption | exact Int32.not_le.mpr (by assumption))) | (refine ⟨rfl, ?_⟩; rw [hr]; unfold trNamed; first | rfl | (simp [hc1, Int32.not_le.mpr hc1]; done) | simp_all))
    · skip
      exact absurd hge hc1
  | succ t ih =>
    intro k' k  res hk hs hr
    have hlt : ¬ 200 < k := by rw [hk]; intro h; have h9 := (nI_ltI (a := 200) (b := k') (by decide) (by omega)).mp h; omega
    refine tt_iload d_Tree_childNamed_3 0 rfl ?_
    refine tt_sipush (v := 200) d_Tree_childNamed_5 (by decide) ?_
    refine tt_icmp_gt (t := 63) d_Tree_childNamed_8 (by decide) (fun hc1 => ?_) (fun hc1 => ?_)
    · skip
      exact absurd hc1 hlt
    · skip
      refine tt_aload_n d_Tree_childNamed_11 rfl 1 rfl ?_
      refine tt_iload d_Tree_childNamed_12 0 rfl ?_
      refine tt_iload_n d_Tree_childNamed_14 rfl 2 rfl ?_
      refine tt_callV (bytes := b_Tree_isIn) (nL' := 3) (ret' := (some FieldType.boolean)) (hh' := []) (As := [.int k, .int x]) w_8_134 w_8_136 (gW_sel 63 rfl rfl) w_1_6 w_8_137 ⟨by decide, by decide, rfl⟩ (c_Tree_isIn m_t0 f_t0 m_a f_a m_b f_b (by rw [hk]; exact vp_in_nI (by omega) (by omega))) m_t0 f_t0 rfl ⟨Nat.le_of_ble_eq_true rfl, Nat.le_of_ble_eq_true rfl, Nat.le_of_ble_eq_true rfl, Nat.le_of_ble_eq_true rfl⟩ (Nat.le_of_ble_eq_true rfl) d_Tree_childNamed_15 rfl (fun v9 S2 hq => ?_) (fun k9 S9 hq => by cases hq.2)
      obtain ⟨hS2, ho9⟩ := hq
      cases ho9
      refine tt_S hS2.symm ?_
      refine tt_if_eq (t := 57) d_Tree_childNamed_18 (by decide) (fun hc3 => ?_) (fun hc3 => ?_)
      · skip
        refine tt_iinc (v := (k + 1)) (lv' := [(5, .int ((k + 1))), (0, .ref t0), (1, .int x), (2, .ref q), (3, .int j), (4, .int m)]) d_Tree_childNamed_57 0 rfl rfl (by decide) rfl ?_
        refine tt_goto (t := 3) d_Tree_childNamed_60 (by decide) ?_
        refine tt_sub (lv' := [(5, .int ((k + 1))), (0, .ref t0), (1, .int x), (2, .ref q), (3, .int j), (4, .int m)]) [0, 1, 2, 3, 4, 5] rfl ?_
        exact ih (k' + 1) (k + 1)  res (by rw [hk]; exact nI_1 k') (by omega) (by rw [hr, trNamed]; first | rfl | (simp [hc1, Int32.not_lt.mp hc1, hc3]; done) | simp_all)
      · skip
        refine tt_aload_n d_Tree_childNamed_21 rfl 1 rfl ?_
        refine tt_get F_Tree_21 d_Tree_childNamed_22 m_t0 f_t0 rfl ?_
        refine tt_iload d_Tree_childNamed_25 0 rfl ?_
        refine tt_iald 0 d_Tree_childNamed_27 rfl m_d f_d (by rw [hk]; exact vp_in_nI (by omega) (by omega)) ?_
        refine tt_iload d_Tree_childNamed_28 5 rfl ?_
        refine tt_icmp_ne (t := 57) d_Tree_childNamed_30 (by decide) (fun hc4 => ?_) (fun hc4 => ?_)
        · skip
          refine tt_iinc (v := (k + 1)) (lv' := [(5, .int ((k + 1))), (0, .ref t0), (1, .int x), (2, .ref q), (3, .int j), (4, .int m)]) d_Tree_childNamed_57 0 rfl rfl (by decide) rfl ?_
          refine tt_goto (t := 3) d_Tree_childNamed_60 (by decide) ?_
          refine tt_sub (lv' := [(5, .int ((k + 1))), (0, .ref t0), (1, .int x), (2, .ref q), (3, .int j), (4, .int m)]) [0, 1, 2, 3, 4, 5] rfl ?_
          exact ih (k' + 1) (k + 1)  res (by rw [hk]; exact nI_1 k') (by omega) (by rw [hr, trNamed]; first | rfl | (simp [hc1, Int32.not_lt.mp hc1, hc3, hc4]; done) | simp_all)
        · skip
          refine tt_aload_n d_Tree_childNamed_33 rfl 1 rfl ?_
          refine tt_get F_Tree_24 d_Tree_childNamed_34 m_t0 f_t0 rfl ?_
          refine tt_iload d_Tree_childNamed_37 0 rfl ?_
          refine tt_bipush (v := 30) d_Tree_childNamed_39 (by decide) ?_
          refine tt_imul d_Tree_childNamed_41 ?_
          refine tt_iload d_Tree_childNamed_42 5 rfl ?_
          refine tt_aload_n d_Tree_childNamed_44 rfl 3 rfl ?_
          refine tt_iload_n d_Tree_childNamed_45 rfl 4 rfl ?_
          refine tt_iload d_Tree_childNamed_46 5 rfl ?_
          refine tt_callS (bytes := b_Row_compare) (nL' := 9) (ret' := (some FieldType.int)) (hh' := []) (As := [.ref u, .int ((k * 30)), .int m, .ref q, .int j, .int m]) w_8_138 w_4_71 w_1_2 w_4_72 ⟨by decide, by decide, rfl⟩ (c_Row_compareV m_u f_u m_q f_q (by decide) hcg) ⟨Nat.le_of_ble_eq_true rfl, Nat.le_of_ble_eq_true rfl, Nat.le_of_ble_eq_true rfl, Nat.le_of_ble_eq_true rfl⟩ (Nat.le_of_ble_eq_true rfl) d_Tree_childNamed_48 rfl (fun v9 S5 hq => ?_) (fun k9 S9 hq => by cases hq.2)
          obtain ⟨hS5, ho9⟩ := hq
          cases ho9
          refine tt_S hS5.symm ?_
          refine tt_if_ne (t := 57) d_Tree_childNamed_51 (by decide) (fun hc6 => ?_) (fun hc6 => ?_)
          · skip
            refine tt_iinc (v := (k + 1)) (lv' := [(5, .int ((k + 1))), (0, .ref t0), (1, .int x), (2, .ref q), (3, .int j), (4, .int m)]) d_Tree_childNamed_57 0 rfl rfl (by decide) rfl ?_
            refine tt_goto (t := 3) d_Tree_childNamed_60 (by decide) ?_
            refine tt_sub (lv' := [(5, .int ((k + 1))), (0, .ref t0), (1, .int x), (2, .ref q), (3, .int j), (4, .int m)]) [0, 1, 2, 3, 4, 5] rfl ?_
            exact ih (k' + 1) (k + 1)  res (by rw [hk]; exact nI_1 k') (by omega) (by rw [hr, trNamed]; first | rfl | (simp [hc1, Int32.not_lt.mp hc1, hc3, hc4, hc6]; done) | simp_all)
          · skip
            refine tt_iload d_Tree_childNamed_54 0 rfl ?_
            exact tt_ret rfl (by first | rfl | decide | exact nz_ite _) (Nat.le_refl _) (Nat.le_refl _) d_Tree_childNamed_56 (by first | (exact absurd (by assumption) hlt) | (refine ⟨rfl, ?_⟩; rw [hr]; unfold trNamed; first | rfl | (simp [hc1, Int32.not_lt.mp hc1, hc3, hc4, hc6]; done) | simp_all))
set_option maxHeartbeats 4000000 in
set_option maxRecDepth 100000 in
/-- Tree.childNamed -/
theorem c_Tree_childNamed {l : Launch} {D : va_G} {kd : Nat → ClassId} {z : Nat} {S : tS} {t0 a b c d u : Nat} {nn : Int32} {q cg : Nat} {x j m : Int32} {fa fb fdd fu g : Nat → Int32} (m_t0 : t0 ∈ S.1) (f_t0 : S.2 t0 = .inr (9, [.ref a, .ref b, .ref c, .ref d, .ref u, .int nn])) (m_a : a ∈ S.1) (f_a : S.2 a = .inl (kd 0, 201, .inl fa)) (m_b : b ∈ S.1) (f_b : S.2 b = .inl (kd 0, 201, .inl fb)) (m_d : d ∈ S.1) (f_d : S.2 d = .inl (kd 0, 201, .inl fdd)) (m_u : u ∈ S.1) (f_u : S.2 u = .inl (kd 1, 6030, .inl fu)) (m_q : q ∈ S.1) (f_q : S.2 q = .inl (kd 1, cg, .inl g))  (hcg : cg < 2 ^ 31) : tM l y_Tree_childNamed b_Tree_childNamed 6 (some FieldType.int) [] { frames := 2, locals := 90 } D (tyl kd) z [.ref t0, .int x, .ref q, .int j, .int m] S (fun o9 T9 => T9 = S ∧ o9 = .inl (some (.int (trNamed fa fb fdd fu g cg x j m 200 1)))) := by
  refine tM.of (own := "FlashVault$Tree") (ini := false) (by decide) rfl (fun h => by first | rfl | cases h) (Nat.le_of_ble_eq_true rfl) (lv := [(0, .ref t0), (1, .int x), (2, .ref q), (3, .int j), (4, .int m)]) rfl ?_
  refine tt_iconst (v := 1) d_Tree_childNamed_0 (by decide) ?_
  refine tt_istore (lv' := [(5, .int 1), (0, .ref t0), (1, .int x), (2, .ref q), (3, .int j), (4, .int m)]) d_Tree_childNamed_1 (by decide) rfl ?_
  exact lp_Tree_childNamed m_t0 f_t0 m_a f_a m_b f_b m_d f_d m_u f_u m_q f_q hcg 200 1 1 _ rfl (by omega) rfl
set_option maxHeartbeats 4000000 in
set_option maxRecDepth 100000 in
/-- Tree.rankOf: its loop -/
theorem lp_Tree_rankOf {l : Launch} {D : va_G} {kd : Nat → ClassId} {z : Nat} {S : tS} {t0 a b c d u : Nat} {nn : Int32} {i x : Int32} {fa fb fdd fu : Nat → Int32} (m_t0 : t0 ∈ S.1) (f_t0 : S.2 t0 = .inr (9, [.ref a, .ref b, .ref c, .ref d, .ref u, .int nn])) (m_a : a ∈ S.1) (f_a : S.2 a = .inl (kd 0, 201, .inl fa)) (m_b : b ∈ S.1) (f_b : S.2 b = .inl (kd 0, 201, .inl fb)) (m_d : d ∈ S.1) (f_d : S.2 d = .inl (kd 0, 201, .inl fdd)) (m_u : u ∈ S.1) (f_u : S.2 u = .inl (kd 1, 6030, .inl fu)) (hi : vp_in i 201) : ∀ (t k' : Nat) (k n : Int32) (res : Int32), k = nI k' → k' + t = 201 → res = trRank fa fb fdd fu i x t k n → tP b_Tree_rankOf "FlashVault$Tree" 5 (some FieldType.int) false [] { frames := 2, locals := 90 } D (tyl kd) z l (fun o9 T9 => T9 = S ∧ o9 = .inl (some (.int res))) 0 0 5 [(4, .int k), (3, .int n), (0, .ref t0), (1, .int i), (2, .int x)] [] S := by
  intro t
  induction t with
  | zero =>
    intro k' k n res hk hs hr
    have hge : 200 < k := by rw [hk, show k' = 201 by omega]; decide
    refine tt_iload d_Tree_rankOf_5 0 rfl ?_
    refine tt_sipush (v := 200) d_Tree_rankOf_7 (by decide) ?_
    refine tt_icmp_gt (t := 68) d_Tree_rankOf_10 (by decide) (fun hc1 => ?_) (fun hc1 => ?_)
    · skip
      refine tt_iload_n d_Tree_rankOf_68 rfl 1 rfl ?_
      exact tt_ret rfl (by first | rfl | decide | exact nz_ite _) (Nat.le_refl _) (Nat.le_refl _) d_Tree_rankOf_69 (by first | (exact absurd hge (by first | assumption | exact Int32.not_le.mpr (by assumption))) | (refine ⟨rfl, ?_⟩; rw [hr]; unfold trRank; first | rfl | (simp [hc1, Int32.not_le.mpr hc1]; done) | simp_all))
    · skip
      exact absurd hge hc1
  | succ t ih =>
    intro k' k n res hk hs hr
    have hlt : ¬ 200 < k := by rw [hk]; intro h; have h9 := (nI_ltI (a := 200) (b := k') (by decide) (by omega)).mp h; omega
    refine tt_iload d_Tree_rankOf_5 0 rfl ?_
    refine tt_sipush (v := 200) d_Tree_rankOf_7 (by decide) ?_
    refine tt_icmp_gt (t := 68) d_Tree_rankOf_10 (by decide) (fun hc1 => ?_) (fun hc1 => ?_)
    · skip
      exact absurd hc1 hlt
    · skip
      refine tt_aload_n d_Tree_rankOf_13 rfl 2 rfl ?_
      refine tt_iload d_Tree_rankOf_14 0 rfl ?_
      refine tt_iload_n d_Tree_rankOf_16 rfl 4 rfl ?_
      refine tt_callV (bytes := b_Tree_isIn) (nL' := 3) (ret' := (some FieldType.boolean)) (hh' := []) (As := [.int k, .int x]) w_8_134 w_8_136 (gW_sel 63 rfl rfl) w_1_6 w_8_137 ⟨by decide, by decide, rfl⟩ (c_Tree_isIn m_t0 f_t0 m_a f_a m_b f_b (by rw [hk]; exact vp_in_nI (by omega) (by omega))) m_t0 f_t0 rfl ⟨Nat.le_of_ble_eq_true rfl, Nat.le_of_ble_eq_true rfl, Nat.le_of_ble_eq_true rfl, Nat.le_of_ble_eq_true rfl⟩ (Nat.le_of_ble_eq_true rfl) d_Tree_rankOf_17 rfl (fun v9 S2 hq => ?_) (fun k9 S9 hq => by cases hq.2)
      obtain ⟨hS2, ho9⟩ := hq
      cases ho9
      refine tt_S hS2.symm ?_
      refine tt_if_eq (t := 62) d_Tree_rankOf_20 (by decide) (fun hc3 => ?_) (fun hc3 => ?_)
      · skip
        refine tt_iinc (v := (k + 1)) (lv' := [(4, .int ((k + 1))), (3, .int n), (0, .ref t0), (1, .int i), (2, .int x)]) d_Tree_rankOf_62 0 rfl rfl (by decide) rfl ?_
        refine tt_goto (t := 5) d_Tree_rankOf_65 (by decide) ?_
        refine tt_sub (lv' := [(4, .int ((k + 1))), (3, .int n), (0, .ref t0), (1, .int i), (2, .int x)]) [0, 1, 2, 3, 4] rfl ?_
        exact ih (k' + 1) (k + 1) (n) res (by rw [hk]; exact nI_1 k') (by omega) (by rw [hr, trRank]; first | rfl | (simp [hc1, Int32.not_lt.mp hc1, hc3]; done) | simp_all)
      · skip
        refine tt_aload_n d_Tree_rankOf_23 rfl 2 rfl ?_
        refine tt_get F_Tree_24 d_Tree_rankOf_24 m_t0 f_t0 rfl ?_
        refine tt_iload d_Tree_rankOf_27 0 rfl ?_
        refine tt_bipush (v := 30) d_Tree_rankOf_29 (by decide) ?_
        refine tt_imul d_Tree_rankOf_31 ?_
        refine tt_aload_n d_Tree_rankOf_32 rfl 2 rfl ?_
        refine tt_get F_Tree_21 d_Tree_rankOf_33 m_t0 f_t0 rfl ?_
        refine tt_iload d_Tree_rankOf_36 0 rfl ?_
        refine tt_iald 0 d_Tree_rankOf_38 rfl m_d f_d (by first | exact hi | (rw [hk]; exact vp_in_nI (by omega) (by omega))) ?_
        refine tt_aload_n d_Tree_rankOf_39 rfl 2 rfl ?_
        refine tt_get F_Tree_24 d_Tree_rankOf_40 m_t0 f_t0 rfl ?_
        refine tt_iload_n d_Tree_rankOf_43 rfl 3 rfl ?_
        refine tt_bipush (v := 30) d_Tree_rankOf_44 (by decide) ?_
        refine tt_imul d_Tree_rankOf_46 ?_
        refine tt_aload_n d_Tree_rankOf_47 rfl 2 rfl ?_
        refine tt_get F_Tree_21 d_Tree_rankOf_48 m_t0 f_t0 rfl ?_
        refine tt_iload_n d_Tree_rankOf_51 rfl 3 rfl ?_
        refine tt_iald 0 d_Tree_rankOf_52 rfl m_d f_d (by first | exact hi | (rw [hk]; exact vp_in_nI (by omega) (by omega))) ?_
        refine tt_callS (bytes := b_Row_compare) (nL' := 9) (ret' := (some FieldType.int)) (hh' := []) (As := [.ref u, .int ((k * 30)), .int ((fdd (k).toNatClampNeg)), .ref u, .int ((i * 30)), .int ((fdd (i).toNatClampNeg))]) w_8_138 w_4_71 w_1_2 w_4_72 ⟨by decide, by decide, rfl⟩ (c_Row_compareV m_u f_u m_u f_u (by decide) (by decide)) ⟨Nat.le_of_ble_eq_true rfl, Nat.le_of_ble_eq_true rfl, Nat.le_of_ble_eq_true rfl, Nat.le_of_ble_eq_true rfl⟩ (Nat.le_of_ble_eq_true rfl) d_Tree_rankOf_53 rfl (fun v9 S4 hq => ?_) (fun k9 S9 hq => by cases hq.2)
        obtain ⟨hS4, ho9⟩ := hq
        cases ho9
        refine tt_S hS4.symm ?_
        refine tt_if_ge (t := 62) d_Tree_rankOf_56 (by decide) (fun hc5 => ?_) (fun hc5 => ?_)
        · skip
          refine tt_iinc (v := (k + 1)) (lv' := [(4, .int ((k + 1))), (3, .int n), (0, .ref t0), (1, .int i), (2, .int x)]) d_Tree_rankOf_62 0 rfl rfl (by decide) rfl ?_
          refine tt_goto (t := 5) d_Tree_rankOf_65 (by decide) ?_
          refine tt_sub (lv' := [(4, .int ((k + 1))), (3, .int n), (0, .ref t0), (1, .int i), (2, .int x)]) [0, 1, 2, 3, 4] rfl ?_
          exact ih (k' + 1) (k + 1) (n) res (by rw [hk]; exact nI_1 k') (by omega) (by rw [hr, trRank]; first | rfl | (simp [hc1, Int32.not_lt.mp hc1, hc3, hc5, Int32.not_lt.mpr hc5]; done) | simp_all)
        · skip
          refine tt_iinc (v := (n + 1)) (lv' := [(3, .int ((n + 1))), (4, .int k), (0, .ref t0), (1, .int i), (2, .int x)]) d_Tree_rankOf_59 1 rfl rfl (by decide) rfl ?_
          refine tt_iinc (v := (k + 1)) (lv' := [(4, .int ((k + 1))), (3, .int ((n + 1))), (0, .ref t0), (1, .int i), (2, .int x)]) d_Tree_rankOf_62 1 rfl rfl (by decide) rfl ?_
          refine tt_goto (t := 5) d_Tree_rankOf_65 (by decide) ?_
          refine tt_sub (lv' := [(4, .int ((k + 1))), (3, .int ((n + 1))), (0, .ref t0), (1, .int i), (2, .int x)]) [0, 1, 2, 3, 4] rfl ?_
          exact ih (k' + 1) (k + 1) ((n + 1)) res (by rw [hk]; exact nI_1 k') (by omega) (by rw [hr, trRank]; first | rfl | (simp [hc1, Int32.not_lt.mp hc1, hc3, hc5, Int32.not_le.mp hc5]; done) | simp_all)
set_option maxHeartbeats 4000000 in
set_option maxRecDepth 100000 in
/-- Tree.rankOf -/
theorem c_Tree_rankOf {l : Launch} {D : va_G} {kd : Nat → ClassId} {z : Nat} {S : tS} {t0 a b c d u : Nat} {nn : Int32} {i x : Int32} {fa fb fdd fu : Nat → Int32} (m_t0 : t0 ∈ S.1) (f_t0 : S.2 t0 = .inr (9, [.ref a, .ref b, .ref c, .ref d, .ref u, .int nn])) (m_a : a ∈ S.1) (f_a : S.2 a = .inl (kd 0, 201, .inl fa)) (m_b : b ∈ S.1) (f_b : S.2 b = .inl (kd 0, 201, .inl fb)) (m_d : d ∈ S.1) (f_d : S.2 d = .inl (kd 0, 201, .inl fdd)) (m_u : u ∈ S.1) (f_u : S.2 u = .inl (kd 1, 6030, .inl fu))  (hi : vp_in i 201) : tM l y_Tree_rankOf b_Tree_rankOf 5 (some FieldType.int) [] { frames := 2, locals := 90 } D (tyl kd) z [.ref t0, .int i, .int x] S (fun o9 T9 => T9 = S ∧ o9 = .inl (some (.int (trRank fa fb fdd fu i x 200 1 0)))) := by
  refine tM.of (own := "FlashVault$Tree") (ini := false) (by decide) rfl (fun h => by first | rfl | cases h) (Nat.le_of_ble_eq_true rfl) (lv := [(0, .ref t0), (1, .int i), (2, .int x)]) rfl ?_
  refine tt_iconst (v := 0) d_Tree_rankOf_0 (by decide) ?_
  refine tt_istore_n (lv' := [(3, .int 0), (0, .ref t0), (1, .int i), (2, .int x)]) d_Tree_rankOf_1 rfl (by decide) rfl ?_
  refine tt_iconst (v := 1) d_Tree_rankOf_2 (by decide) ?_
  refine tt_istore (lv' := [(4, .int 1), (3, .int 0), (0, .ref t0), (1, .int i), (2, .int x)]) d_Tree_rankOf_3 (by decide) rfl ?_
  exact lp_Tree_rankOf m_t0 f_t0 m_a f_a m_b f_b m_d f_d m_u f_u hi 200 1 1 0 _ rfl (by omega) rfl
set_option maxHeartbeats 4000000 in
set_option maxRecDepth 100000 in
/-- Tree.childRanked: its loop -/
theorem lp_Tree_childRanked {l : Launch} {D : va_G} {kd : Nat → ClassId} {z : Nat} {S : tS} {t0 a b c d u : Nat} {nn : Int32} {x r : Int32} {fa fb fdd fu : Nat → Int32} (m_t0 : t0 ∈ S.1) (f_t0 : S.2 t0 = .inr (9, [.ref a, .ref b, .ref c, .ref d, .ref u, .int nn])) (m_a : a ∈ S.1) (f_a : S.2 a = .inl (kd 0, 201, .inl fa)) (m_b : b ∈ S.1) (f_b : S.2 b = .inl (kd 0, 201, .inl fb)) (m_d : d ∈ S.1) (f_d : S.2 d = .inl (kd 0, 201, .inl fdd)) (m_u : u ∈ S.1) (f_u : S.2 u = .inl (kd 1, 6030, .inl fu))  : ∀ (t k' : Nat) (k  : Int32) (res : Int32), k = nI k' → k' + t = 201 → res = trRanked fa fb fdd fu x r t k → tP b_Tree_childRanked "FlashVault$Tree" 4 (some FieldType.int) false [] { frames := 3, locals := 115 } D (tyl kd) z l (fun o9 T9 => T9 = S ∧ o9 = .inl (some (.int res))) 0 0 2 [(3, .int k), (0, .ref t0), (1, .int x), (2, .int r)] [] S := by
  intro t
  induction t with
  | zero =>
    intro k' k  res hk hs hr
    have hge : 200 < k := by rw [hk, show k' = 201 by omega]; decide
    refine tt_iload_n d_Tree_childRanked_2 rfl 0 rfl ?_
    refine tt_sipush (v := 200) d_Tree_childRanked_3 (by decide) ?_
    refine tt_icmp_gt (t := 40) d_Tree_childRanked_6 (by decide) (fun hc1 => ?_) (fun hc1 => ?_)
    · skip
      refine tt_iconst (v := -1) d_Tree_childRanked_40 (by decide) ?_
      exact tt_ret rfl (by first | rfl | decide | exact nz_ite _) (Nat.le_refl _) (Nat.le_refl _) d_Tree_childRanked_41 (by first | (exact absurd hge (by first | assumption | exact Int32.not_le.mpr (by assumption))) | (refine ⟨rfl, ?_⟩; rw [hr]; unfold trRanked; first | rfl | (simp [hc1, Int32.not_le.mpr hc1]; done) | simp_all))
    · skip
      exact absurd hge hc1
  | succ t ih =>
    intro k' k  res hk hs hr
    have hlt : ¬ 200 < k := by rw [hk]; intro h; have h9 := (nI_ltI (a := 200) (b := k') (by decide) (by omega)).mp h; omega
    refine tt_iload_n d_Tree_childRanked_2 rfl 0 rfl ?_
    refine tt_sipush (v := 200) d_Tree_childRanked_3 (by decide) ?_
    refine tt_icmp_gt (t := 40) d_Tree_childRanked_6 (by decide) (fun hc1 => ?_) (fun hc1 => ?_)
    · skip
      exact absurd hc1 hlt
    · skip
      refine tt_iload_n d_Tree_childRanked_9 rfl 3 rfl ?_
      refine tt_if_lt (t := 40) d_Tree_childRanked_10 (by decide) (fun hc2 => ?_) (fun hc2 => ?_)
      · skip
        refine tt_iconst (v := -1) d_Tree_childRanked_40 (by decide) ?_
        exact tt_ret rfl (by first | rfl | decide | exact nz_ite _) (Nat.le_refl _) (Nat.le_refl _) d_Tree_childRanked_41 (by first | (exact absurd (by assumption) hlt) | (refine ⟨rfl, ?_⟩; rw [hr]; unfold trRanked; first | rfl | (simp [hc1, Int32.not_lt.mp hc1, hc2, Int32.not_le.mpr hc2]; done) | simp_all))
      · skip
        refine tt_aload_n d_Tree_childRanked_13 rfl 1 rfl ?_
        refine tt_iload_n d_Tree_childRanked_14 rfl 0 rfl ?_
        refine tt_iload_n d_Tree_childRanked_15 rfl 2 rfl ?_
        refine tt_callV (bytes := b_Tree_isIn) (nL' := 3) (ret' := (some FieldType.boolean)) (hh' := []) (As := [.int k, .int x]) w_8_134 w_8_136 (gW_sel 63 rfl rfl) w_1_6 w_8_137 ⟨by decide, by decide, rfl⟩ (c_Tree_isIn m_t0 f_t0 m_a f_a m_b f_b (by rw [hk]; exact vp_in_nI (by omega) (by omega))) m_t0 f_t0 rfl ⟨Nat.le_of_ble_eq_true rfl, Nat.le_of_ble_eq_true rfl, Nat.le_of_ble_eq_true rfl, Nat.le_of_ble_eq_true rfl⟩ (Nat.le_of_ble_eq_true rfl) d_Tree_childRanked_16 rfl (fun v9 S3 hq => ?_) (fun k9 S9 hq => by cases hq.2)
        obtain ⟨hS3, ho9⟩ := hq
        cases ho9
        refine tt_S hS3.symm ?_
        refine tt_if_eq (t := 34) d_Tree_childRanked_19 (by decide) (fun hc4 => ?_) (fun hc4 => ?_)
        · skip
          refine tt_iinc (v := (k + 1)) (lv' := [(3, .int ((k + 1))), (0, .ref t0), (1, .int x), (2, .int r)]) d_Tree_childRanked_34 0 rfl rfl (by decide) rfl ?_
          refine tt_goto (t := 2) d_Tree_childRanked_37 (by decide) ?_
          refine tt_sub (lv' := [(3, .int ((k + 1))), (0, .ref t0), (1, .int x), (2, .int r)]) [0, 1, 2, 3] rfl ?_
          exact ih (k' + 1) (k + 1)  res (by rw [hk]; exact nI_1 k') (by omega) (by rw [hr, trRanked]; first | rfl | (simp [hc1, Int32.not_lt.mp hc1, hc2, Int32.not_lt.mp hc2, hc4]; done) | simp_all)
        · skip
          refine tt_aload_n d_Tree_childRanked_22 rfl 1 rfl ?_
          refine tt_iload_n d_Tree_childRanked_23 rfl 0 rfl ?_
          refine tt_iload_n d_Tree_childRanked_24 rfl 2 rfl ?_
          refine tt_callV (bytes := b_Tree_rankOf) (nL' := 5) (ret' := (some FieldType.int)) (hh' := []) (As := [.int k, .int x]) w_9_40 w_9_42 (gW_sel 75 rfl rfl) w_1_6 w_9_43 ⟨by decide, by decide, rfl⟩ (c_Tree_rankOf m_t0 f_t0 m_a f_a m_b f_b m_d f_d m_u f_u (by rw [hk]; exact vp_in_nI (by omega) (by omega))) m_t0 f_t0 rfl ⟨Nat.le_of_ble_eq_true rfl, Nat.le_of_ble_eq_true rfl, Nat.le_of_ble_eq_true rfl, Nat.le_of_ble_eq_true rfl⟩ (Nat.le_of_ble_eq_true rfl) d_Tree_childRanked_25 rfl (fun v9 S5 hq => ?_) (fun k9 S9 hq => by cases hq.2)
          obtain ⟨hS5, ho9⟩ := hq
          cases ho9
          refine tt_S hS5.symm ?_
          refine tt_iload_n d_Tree_childRanked_28 rfl 3 rfl ?_
          refine tt_icmp_ne (t := 34) d_Tree_childRanked_29 (by decide) (fun hc6 => ?_) (fun hc6 => ?_)
          · skip
            refine tt_iinc (v := (k + 1)) (lv' := [(3, .int ((k + 1))), (0, .ref t0), (1, .int x), (2, .int r)]) d_Tree_childRanked_34 0 rfl rfl (by decide) rfl ?_
            refine tt_goto (t := 2) d_Tree_childRanked_37 (by decide) ?_
            refine tt_sub (lv' := [(3, .int ((k + 1))), (0, .ref t0), (1, .int x), (2, .int r)]) [0, 1, 2, 3] rfl ?_
            exact ih (k' + 1) (k + 1)  res (by rw [hk]; exact nI_1 k') (by omega) (by rw [hr, trRanked]; first | rfl | (simp [hc1, Int32.not_lt.mp hc1, hc2, Int32.not_lt.mp hc2, hc4, hc6]; done) | simp_all)
          · skip
            refine tt_iload_n d_Tree_childRanked_32 rfl 0 rfl ?_
            exact tt_ret rfl (by first | rfl | decide | exact nz_ite _) (Nat.le_refl _) (Nat.le_refl _) d_Tree_childRanked_33 (by first | (exact absurd (by assumption) hlt) | (refine ⟨rfl, ?_⟩; rw [hr]; unfold trRanked; first | rfl | (simp [hc1, Int32.not_lt.mp hc1, hc2, Int32.not_lt.mp hc2, hc4, hc6]; done) | simp_all))
set_option maxHeartbeats 4000000 in
set_option maxRecDepth 100000 in
/-- Tree.childRanked -/
theorem c_Tree_childRanked {l : Launch} {D : va_G} {kd : Nat → ClassId} {z : Nat} {S : tS} {t0 a b c d u : Nat} {nn : Int32} {x r : Int32} {fa fb fdd fu : Nat → Int32} (m_t0 : t0 ∈ S.1) (f_t0 : S.2 t0 = .inr (9, [.ref a, .ref b, .ref c, .ref d, .ref u, .int nn])) (m_a : a ∈ S.1) (f_a : S.2 a = .inl (kd 0, 201, .inl fa)) (m_b : b ∈ S.1) (f_b : S.2 b = .inl (kd 0, 201, .inl fb)) (m_d : d ∈ S.1) (f_d : S.2 d = .inl (kd 0, 201, .inl fdd)) (m_u : u ∈ S.1) (f_u : S.2 u = .inl (kd 1, 6030, .inl fu))   : tM l y_Tree_childRanked b_Tree_childRanked 4 (some FieldType.int) [] { frames := 3, locals := 115 } D (tyl kd) z [.ref t0, .int x, .int r] S (fun o9 T9 => T9 = S ∧ o9 = .inl (some (.int (trRanked fa fb fdd fu x r 200 1)))) := by
  refine tM.of (own := "FlashVault$Tree") (ini := false) (by decide) rfl (fun h => by first | rfl | cases h) (Nat.le_of_ble_eq_true rfl) (lv := [(0, .ref t0), (1, .int x), (2, .int r)]) rfl ?_
  refine tt_iconst (v := 1) d_Tree_childRanked_0 (by decide) ?_
  refine tt_istore_n (lv' := [(3, .int 1), (0, .ref t0), (1, .int x), (2, .int r)]) d_Tree_childRanked_1 rfl (by decide) rfl ?_
  exact lp_Tree_childRanked m_t0 f_t0 m_a f_a m_b f_b m_d f_d m_u f_u 200 1 1 _ rfl (by omega) rfl
