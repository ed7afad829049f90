/-! ===== leaves: class Row; written by wip/gen/row.py ===== -/
def tyl (kd : Nat → ClassId) : List (ClassId × FieldType) := [(kd 0, .int), (kd 1, .byte), (kd 2, .boolean), (kd 3, .long), (kd 4, .object "FlashVault$Batch"), (kd 5, .object "FlashVault$Run"), (kd 6, .object "FlashVault$Cursor")]
theorem tt_S {cc : ByteArray} {own : String} {nL : Nat} {ret : Option FieldType} {ini : Bool} {hh : List (Nat × Nat × Nat × Nat)} {rm : Room} {D : va_G} {tys : List (ClassId × FieldType)} {z : Nat} {l : Launch} {Q : tO → tS → Prop} {kc ks : Nat} {pc : Nat} {lv : List (Nat × Value)} {st : List Value} {S S' : tS} (h : S' = S) (k : tP cc own nL ret ini hh rm D tys z l Q kc ks pc lv st S') : tP cc own nL ret ini hh rm D tys z l Q kc ks pc lv st S := h ▸ k
theorem vi_of {i : Int32} {n : Nat} (h0 : ¬ i < 0) (h1 : ¬ nI n ≤ i) (hn : n < 2 ^ 31) : vp_in i n := by
  rcases pk_ix i hn with h | h | ⟨j, hj, rfl⟩
  · exact absurd h h0
  · exact absurd h h1
  · exact vp_in_nI hj hn
theorem nI_subneg {a b : Nat} (ha : a < 2 ^ 31) (hb : b < 2 ^ 31) (h : a < b) : nI a - nI b < 0 := by
  have e : nI a - nI b = -nI (b - a) := by
    have h1 := pk_sub (Nat.le_of_lt h)
    rw [← h1, Int32.neg_sub]
  rw [e, Int32.lt_iff_toInt_lt, sb_negT (by omega)]
  show -((b - a : Nat) : Int) < 0
  omega
theorem cp_in {i n : Int32} {cap : Nat} (h0 : ¬ i < 0) (h1 : ¬ n ≤ 0) (h2 : ¬ nI cap - n < i) (hc : cap < 2 ^ 31) : i.toNatClampNeg + n.toNatClampNeg ≤ cap := by
  obtain ⟨i', hi, rfl⟩ := nI_of h0
  obtain ⟨n', hn, rfl⟩ := nI_of (x := n) (fun h => h1 (Int32.le_of_lt h))
  rw [nI_clamp hi, nI_clamp hn]
  by_cases h : n' ≤ cap
  · rw [pk_sub h] at h2
    have := mt (nI_ltI (by omega) hi).mpr h2
    omega
  · exfalso
    have h3 := nI_subneg hc hn (by omega)
    exact h2 (Int32.lt_of_lt_of_le h3 (Int32.not_lt.mp h0))
def rcmp (f g : Nat → Int32) (i j d : Int32) : Nat → Int32 → Int32
  | 0, _ => d
  | t + 1, k => if ((f (i + k).toNatClampNeg &&& 255) - (g (j + k).toNatClampNeg &&& 255)) = 0 then rcmp f g i j d t (k + 1) else (f (i + k).toNatClampNeg &&& 255) - (g (j + k).toNatClampNeg &&& 255)
theorem cl_neg {x : Int32} (h : x < 0) : x.toNatClampNeg = 0 := by
  rw [Int32.lt_iff_toInt_lt] at h
  have h1 : x.toInt < 0 := h
  show x.toInt.toNat = 0
  omega
theorem sub_in {cap i s : Nat} (h : ¬ nI cap - nI i < nI s) (hi : i < 2 ^ 31) (hs : s < 2 ^ 31) (hc : cap < 2 ^ 31) : i + s ≤ cap := by
  by_cases h1 : i ≤ cap
  · rw [pk_sub h1] at h
    have := mt (nI_ltI (by omega) hs).mpr h
    omega
  · exfalso
    exact h (Int32.lt_of_lt_of_le (nI_subneg hc hi (by omega)) (nI_pos' hs))
def rnum (cap : Nat) (p n v : Int32) : Nat → Int32 → (Nat → Int32) → (Nat → Int32)
  | 0, _, f => f
  | t + 1, i, f => rnum cap p n v t (i + 1) (if ¬ (((p + n) - 1) - i) < 0 ∧ ¬ nI cap ≤ (((p + n) - 1) - i) then upd f (((p + n) - 1) - i).toNatClampNeg (vp_nar .byte ((v >>> ((8 * i) &&& 31)).toInt8.toInt32)) else f)
theorem ts_self {S : tS} {a : Nat} {e : va_E} (h : S.2 a = e) : tset S a e = S := by
  have : va_up S.2 a e = S.2 := by
    funext x
    by_cases hx : x = a
    · rw [hx, va_up_self, h]
    · rw [va_up_ne _ _ hx]
  exact Prod.ext rfl this
theorem ts_ts (S : tS) (a : Nat) (e e' : va_E) : tset (tset S a e) a e' = tset S a e' := Prod.ext rfl (bx_uu _ _ _ _)
theorem ap_ne {a b : Nat} (h : a = b → False) : a ≠ b := h
theorem nz_0 : narrow .boolean (.int 0) = .int 0 := rfl
theorem nz_1 : narrow .boolean (.int 1) = .int 1 := rfl
theorem pk_nz (x : Int32) : narrow .int (.int x) = .int x := rfl
abbrev b_Row_at : ByteArray := prog_7_method_2_code
def y_Row_at : MethodName := ⟨"FlashVault$Row", "at", "(I)I"⟩
theorem d_Row_at_0 : decode b_Row_at 0 = .ok (.iload_n 1, 1) := by decide +kernel
theorem d_Row_at_1 : decode b_Row_at 1 = .ok (.ifCond .lt 33, 3) := by decide +kernel
theorem d_Row_at_34 : decode b_Row_at 34 = .ok (.iconst 0, 1) := by decide +kernel
theorem d_Row_at_35 : decode b_Row_at 35 = .ok (.ireturn, 1) := by decide +kernel
theorem d_Row_at_4 : decode b_Row_at 4 = .ok (.iload_n 1, 1) := by decide +kernel
theorem d_Row_at_5 : decode b_Row_at 5 = .ok (.aload_n 0, 1) := by decide +kernel
theorem d_Row_at_6 : decode b_Row_at 6 = .ok (.getfield 7, 3) := by decide +kernel
theorem w_1_54 : (Cond.fieldLink "FlashVault$Row" (7 : Nat) "FlashVault$Row" "length" "I") ∈ gW := gW_1 54 rfl rfl
theorem F_Row_7 : tF "FlashVault$Row" 7 5 1 RC5 FC5 2 tC5 := ⟨rfl, by decide, rfl, iC5, kC5, nC5, w_1_54⟩
theorem d_Row_at_9 : decode b_Row_at 9 = .ok (.if_icmp .ge 25, 3) := by decide +kernel
theorem d_Row_at_12 : decode b_Row_at 12 = .ok (.iload_n 1, 1) := by decide +kernel
theorem d_Row_at_13 : decode b_Row_at 13 = .ok (.aload_n 0, 1) := by decide +kernel
theorem d_Row_at_14 : decode b_Row_at 14 = .ok (.getfield 19, 3) := by decide +kernel
theorem w_1_51 : (Cond.fieldLink "FlashVault$Row" (19 : Nat) "FlashVault$Row" "bytes" "[B") ∈ gW := gW_1 51 rfl rfl
theorem F_Row_19 : tF "FlashVault$Row" 19 5 0 RC5 FC5 2 tC5 := ⟨rfl, by decide, rfl, iC5, kC5, nC5, w_1_51⟩
theorem d_Row_at_17 : decode b_Row_at 17 = .ok (.arraylength, 1) := by decide +kernel
theorem d_Row_at_18 : decode b_Row_at 18 = .ok (.if_icmp .ge 16, 3) := by decide +kernel
theorem d_Row_at_21 : decode b_Row_at 21 = .ok (.aload_n 0, 1) := by decide +kernel
theorem d_Row_at_22 : decode b_Row_at 22 = .ok (.getfield 19, 3) := by decide +kernel
theorem d_Row_at_25 : decode b_Row_at 25 = .ok (.iload_n 1, 1) := by decide +kernel
theorem d_Row_at_26 : decode b_Row_at 26 = .ok (.baload, 1) := by decide +kernel
theorem d_Row_at_27 : decode b_Row_at 27 = .ok (.sipush 255, 3) := by decide +kernel
theorem d_Row_at_30 : decode b_Row_at 30 = .ok (.iand, 1) := by decide +kernel
theorem d_Row_at_31 : decode b_Row_at 31 = .ok (.goto 4, 3) := by decide +kernel
abbrev b_Row_add : ByteArray := prog_7_method_3_code
def y_Row_add : MethodName := ⟨"FlashVault$Row", "add", "(I)V"⟩
theorem d_Row_add_0 : decode b_Row_add 0 = .ok (.aload_n 0, 1) := by decide +kernel
theorem d_Row_add_1 : decode b_Row_add 1 = .ok (.getfield 7, 3) := by decide +kernel
theorem d_Row_add_4 : decode b_Row_add 4 = .ok (.ifCond .lt 36, 3) := by decide +kernel
theorem d_Row_add_40 : decode b_Row_add 40 = .ok (.return_, 1) := by decide +kernel
theorem d_Row_add_7 : decode b_Row_add 7 = .ok (.aload_n 0, 1) := by decide +kernel
theorem d_Row_add_8 : decode b_Row_add 8 = .ok (.getfield 7, 3) := by decide +kernel
theorem d_Row_add_11 : decode b_Row_add 11 = .ok (.aload_n 0, 1) := by decide +kernel
theorem d_Row_add_12 : decode b_Row_add 12 = .ok (.getfield 19, 3) := by decide +kernel
theorem d_Row_add_15 : decode b_Row_add 15 = .ok (.arraylength, 1) := by decide +kernel
theorem d_Row_add_16 : decode b_Row_add 16 = .ok (.if_icmp .ge 24, 3) := by decide +kernel
theorem d_Row_add_19 : decode b_Row_add 19 = .ok (.aload_n 0, 1) := by decide +kernel
theorem d_Row_add_20 : decode b_Row_add 20 = .ok (.getfield 19, 3) := by decide +kernel
theorem d_Row_add_23 : decode b_Row_add 23 = .ok (.aload_n 0, 1) := by decide +kernel
theorem d_Row_add_24 : decode b_Row_add 24 = .ok (.getfield 7, 3) := by decide +kernel
theorem d_Row_add_27 : decode b_Row_add 27 = .ok (.iload_n 1, 1) := by decide +kernel
theorem d_Row_add_28 : decode b_Row_add 28 = .ok (.i2b, 1) := by decide +kernel
theorem d_Row_add_29 : decode b_Row_add 29 = .ok (.bastore, 1) := by decide +kernel
theorem d_Row_add_30 : decode b_Row_add 30 = .ok (.aload_n 0, 1) := by decide +kernel
theorem d_Row_add_31 : decode b_Row_add 31 = .ok (.dup, 1) := by decide +kernel
theorem d_Row_add_32 : decode b_Row_add 32 = .ok (.getfield 7, 3) := by decide +kernel
theorem d_Row_add_35 : decode b_Row_add 35 = .ok (.iconst 1, 1) := by decide +kernel
theorem d_Row_add_36 : decode b_Row_add 36 = .ok (.iadd, 1) := by decide +kernel
theorem d_Row_add_37 : decode b_Row_add 37 = .ok (.putfield 7, 3) := by decide +kernel
abbrev b_Row_copy : ByteArray := prog_7_method_5_code
def y_Row_copy : MethodName := ⟨"FlashVault$Row", "copy", "([BI[BII)V"⟩
theorem d_Row_copy_0 : decode b_Row_copy 0 = .ok (.iload 4, 2) := by decide +kernel
theorem d_Row_copy_2 : decode b_Row_copy 2 = .ok (.ifCond .le 38, 3) := by decide +kernel
theorem d_Row_copy_40 : decode b_Row_copy 40 = .ok (.return_, 1) := by decide +kernel
theorem d_Row_copy_5 : decode b_Row_copy 5 = .ok (.iload_n 1, 1) := by decide +kernel
theorem d_Row_copy_6 : decode b_Row_copy 6 = .ok (.ifCond .lt 34, 3) := by decide +kernel
theorem d_Row_copy_9 : decode b_Row_copy 9 = .ok (.iload_n 3, 1) := by decide +kernel
theorem d_Row_copy_10 : decode b_Row_copy 10 = .ok (.ifCond .lt 30, 3) := by decide +kernel
theorem d_Row_copy_13 : decode b_Row_copy 13 = .ok (.iload_n 1, 1) := by decide +kernel
theorem d_Row_copy_14 : decode b_Row_copy 14 = .ok (.aload_n 0, 1) := by decide +kernel
theorem d_Row_copy_15 : decode b_Row_copy 15 = .ok (.arraylength, 1) := by decide +kernel
theorem d_Row_copy_16 : decode b_Row_copy 16 = .ok (.iload 4, 2) := by decide +kernel
theorem d_Row_copy_18 : decode b_Row_copy 18 = .ok (.isub, 1) := by decide +kernel
theorem d_Row_copy_19 : decode b_Row_copy 19 = .ok (.if_icmp .gt 21, 3) := by decide +kernel
theorem d_Row_copy_22 : decode b_Row_copy 22 = .ok (.iload_n 3, 1) := by decide +kernel
theorem d_Row_copy_23 : decode b_Row_copy 23 = .ok (.aload_n 2, 1) := by decide +kernel
theorem d_Row_copy_24 : decode b_Row_copy 24 = .ok (.arraylength, 1) := by decide +kernel
theorem d_Row_copy_25 : decode b_Row_copy 25 = .ok (.iload 4, 2) := by decide +kernel
theorem d_Row_copy_27 : decode b_Row_copy 27 = .ok (.isub, 1) := by decide +kernel
theorem d_Row_copy_28 : decode b_Row_copy 28 = .ok (.if_icmp .gt 12, 3) := by decide +kernel
theorem d_Row_copy_31 : decode b_Row_copy 31 = .ok (.aload_n 0, 1) := by decide +kernel
theorem d_Row_copy_32 : decode b_Row_copy 32 = .ok (.iload_n 1, 1) := by decide +kernel
theorem d_Row_copy_33 : decode b_Row_copy 33 = .ok (.aload_n 2, 1) := by decide +kernel
theorem d_Row_copy_34 : decode b_Row_copy 34 = .ok (.iload_n 3, 1) := by decide +kernel
theorem d_Row_copy_35 : decode b_Row_copy 35 = .ok (.iload 4, 2) := by decide +kernel
theorem d_Row_copy_37 : decode b_Row_copy 37 = .ok (.invokestatic 27, 3) := by decide +kernel
theorem w_4_55 : (Cond.methodLink "FlashVault$Row" (27 : Nat) ({ cls := "java/lang/System", name := "arraycopy", desc := "(Ljava/lang/Object;ILjava/lang/Object;II)V" } : MethodName)) ∈ gW := gW_4 55 rfl rfl
theorem w_4_57 : (Cond.native ({ cls := "java/lang/System", name := "arraycopy", desc := "(Ljava/lang/Object;ILjava/lang/Object;II)V" } : MethodName)) ∈ gW := gW_4 57 rfl rfl
theorem w_4_56 : (Cond.static ({ cls := "java/lang/System", name := "arraycopy", desc := "(Ljava/lang/Object;ILjava/lang/Object;II)V" } : MethodName)) ∈ gW := gW_4 56 rfl rfl
theorem w_1_23 : (Cond.initialized "java/lang/System") ∈ gW := gW_1 23 rfl rfl
abbrev b_Row_compare : ByteArray := prog_7_method_8_code
def y_Row_compare : MethodName := ⟨"FlashVault$Row", "compare", "([BII[BII)I"⟩
theorem d_Row_compare_39 : decode b_Row_compare 39 = .ok (.iload 7, 2) := by decide +kernel
theorem d_Row_compare_41 : decode b_Row_compare 41 = .ok (.iload 6, 2) := by decide +kernel
theorem d_Row_compare_43 : decode b_Row_compare 43 = .ok (.if_icmp .ge 41, 3) := by decide +kernel
theorem d_Row_compare_84 : decode b_Row_compare 84 = .ok (.iload_n 2, 1) := by decide +kernel
theorem d_Row_compare_85 : decode b_Row_compare 85 = .ok (.iload 5, 2) := by decide +kernel
theorem d_Row_compare_87 : decode b_Row_compare 87 = .ok (.isub, 1) := by decide +kernel
theorem d_Row_compare_88 : decode b_Row_compare 88 = .ok (.ireturn, 1) := by decide +kernel
theorem d_Row_compare_46 : decode b_Row_compare 46 = .ok (.aload_n 0, 1) := by decide +kernel
theorem d_Row_compare_47 : decode b_Row_compare 47 = .ok (.iload_n 1, 1) := by decide +kernel
theorem d_Row_compare_48 : decode b_Row_compare 48 = .ok (.iload 7, 2) := by decide +kernel
theorem d_Row_compare_50 : decode b_Row_compare 50 = .ok (.iadd, 1) := by decide +kernel
theorem d_Row_compare_51 : decode b_Row_compare 51 = .ok (.baload, 1) := by decide +kernel
theorem d_Row_compare_52 : decode b_Row_compare 52 = .ok (.sipush 255, 3) := by decide +kernel
theorem d_Row_compare_55 : decode b_Row_compare 55 = .ok (.iand, 1) := by decide +kernel
theorem d_Row_compare_56 : decode b_Row_compare 56 = .ok (.aload_n 3, 1) := by decide +kernel
theorem d_Row_compare_57 : decode b_Row_compare 57 = .ok (.iload 4, 2) := by decide +kernel
theorem d_Row_compare_59 : decode b_Row_compare 59 = .ok (.iload 7, 2) := by decide +kernel
theorem d_Row_compare_61 : decode b_Row_compare 61 = .ok (.iadd, 1) := by decide +kernel
theorem d_Row_compare_62 : decode b_Row_compare 62 = .ok (.baload, 1) := by decide +kernel
theorem d_Row_compare_63 : decode b_Row_compare 63 = .ok (.sipush 255, 3) := by decide +kernel
theorem d_Row_compare_66 : decode b_Row_compare 66 = .ok (.iand, 1) := by decide +kernel
theorem d_Row_compare_67 : decode b_Row_compare 67 = .ok (.isub, 1) := by decide +kernel
theorem d_Row_compare_68 : decode b_Row_compare 68 = .ok (.istore 8, 2) := by decide +kernel
theorem d_Row_compare_70 : decode b_Row_compare 70 = .ok (.iload 8, 2) := by decide +kernel
theorem d_Row_compare_72 : decode b_Row_compare 72 = .ok (.ifCond .eq 6, 3) := by decide +kernel
theorem d_Row_compare_78 : decode b_Row_compare 78 = .ok (.iinc 7 1, 3) := by decide +kernel
theorem d_Row_compare_81 : decode b_Row_compare 81 = .ok (.goto (-42), 3) := by decide +kernel
theorem d_Row_compare_75 : decode b_Row_compare 75 = .ok (.iload 8, 2) := by decide +kernel
theorem d_Row_compare_77 : decode b_Row_compare 77 = .ok (.ireturn, 1) := by decide +kernel
theorem d_Row_compare_0 : decode b_Row_compare 0 = .ok (.iload_n 2, 1) := by decide +kernel
theorem d_Row_compare_1 : decode b_Row_compare 1 = .ok (.iload 5, 2) := by decide +kernel
theorem d_Row_compare_3 : decode b_Row_compare 3 = .ok (.invokestatic 39, 3) := by decide +kernel
theorem w_4_73 : (Cond.methodLink "FlashVault$Row" (39 : Nat) ({ cls := "java/lang/Math", name := "min", desc := "(II)I" } : MethodName)) ∈ gW := gW_4 73 rfl rfl
theorem w_4_10 : (Cond.static ({ cls := "java/lang/Math", name := "min", desc := "(II)I" } : MethodName)) ∈ gW := gW_4 10 rfl rfl
theorem w_1_3 : (Cond.initialized "java/lang/Math") ∈ gW := gW_1 3 rfl rfl
theorem w_4_11 : (Cond.code ({ cls := "java/lang/Math", name := "min", desc := "(II)I" } : MethodName) prog_23_method_69_code (2 : Nat) (Option.some FieldType.int)) ∈ gW := gW_4 11 rfl rfl
theorem d_Row_compare_6 : decode b_Row_compare 6 = .ok (.istore 6, 2) := by decide +kernel
theorem d_Row_compare_8 : decode b_Row_compare 8 = .ok (.iload_n 1, 1) := by decide +kernel
theorem d_Row_compare_9 : decode b_Row_compare 9 = .ok (.ifCond .lt 75, 3) := by decide +kernel
theorem d_Row_compare_12 : decode b_Row_compare 12 = .ok (.iload 4, 2) := by decide +kernel
theorem d_Row_compare_14 : decode b_Row_compare 14 = .ok (.ifCond .lt 70, 3) := by decide +kernel
theorem d_Row_compare_17 : decode b_Row_compare 17 = .ok (.iload 6, 2) := by decide +kernel
theorem d_Row_compare_19 : decode b_Row_compare 19 = .ok (.aload_n 0, 1) := by decide +kernel
theorem d_Row_compare_20 : decode b_Row_compare 20 = .ok (.arraylength, 1) := by decide +kernel
theorem d_Row_compare_21 : decode b_Row_compare 21 = .ok (.iload_n 1, 1) := by decide +kernel
theorem d_Row_compare_22 : decode b_Row_compare 22 = .ok (.isub, 1) := by decide +kernel
theorem d_Row_compare_23 : decode b_Row_compare 23 = .ok (.if_icmp .gt 61, 3) := by decide +kernel
theorem d_Row_compare_26 : decode b_Row_compare 26 = .ok (.iload 6, 2) := by decide +kernel
theorem d_Row_compare_28 : decode b_Row_compare 28 = .ok (.aload_n 3, 1) := by decide +kernel
theorem d_Row_compare_29 : decode b_Row_compare 29 = .ok (.arraylength, 1) := by decide +kernel
theorem d_Row_compare_30 : decode b_Row_compare 30 = .ok (.iload 4, 2) := by decide +kernel
theorem d_Row_compare_32 : decode b_Row_compare 32 = .ok (.isub, 1) := by decide +kernel
theorem d_Row_compare_33 : decode b_Row_compare 33 = .ok (.if_icmp .gt 51, 3) := by decide +kernel
theorem d_Row_compare_36 : decode b_Row_compare 36 = .ok (.iconst 0, 1) := by decide +kernel
theorem d_Row_compare_37 : decode b_Row_compare 37 = .ok (.istore 7, 2) := by decide +kernel
abbrev b_Row_number : ByteArray := prog_7_method_7_code
def y_Row_number : MethodName := ⟨"FlashVault$Row", "number", "([BIII)V"⟩
theorem d_Row_number_3 : decode b_Row_number 3 = .ok (.iload 4, 2) := by decide +kernel
theorem d_Row_number_5 : decode b_Row_number 5 = .ok (.iload_n 2, 1) := by decide +kernel
theorem d_Row_number_6 : decode b_Row_number 6 = .ok (.if_icmp .ge 43, 3) := by decide +kernel
theorem d_Row_number_49 : decode b_Row_number 49 = .ok (.return_, 1) := by decide +kernel
theorem d_Row_number_9 : decode b_Row_number 9 = .ok (.iload_n 1, 1) := by decide +kernel
theorem d_Row_number_10 : decode b_Row_number 10 = .ok (.iload_n 2, 1) := by decide +kernel
theorem d_Row_number_11 : decode b_Row_number 11 = .ok (.iadd, 1) := by decide +kernel
theorem d_Row_number_12 : decode b_Row_number 12 = .ok (.iconst 1, 1) := by decide +kernel
theorem d_Row_number_13 : decode b_Row_number 13 = .ok (.isub, 1) := by decide +kernel
theorem d_Row_number_14 : decode b_Row_number 14 = .ok (.iload 4, 2) := by decide +kernel
theorem d_Row_number_16 : decode b_Row_number 16 = .ok (.isub, 1) := by decide +kernel
theorem d_Row_number_17 : decode b_Row_number 17 = .ok (.istore 5, 2) := by decide +kernel
theorem d_Row_number_19 : decode b_Row_number 19 = .ok (.iload 5, 2) := by decide +kernel
theorem d_Row_number_21 : decode b_Row_number 21 = .ok (.ifCond .lt 22, 3) := by decide +kernel
theorem d_Row_number_43 : decode b_Row_number 43 = .ok (.iinc 4 1, 3) := by decide +kernel
theorem d_Row_number_46 : decode b_Row_number 46 = .ok (.goto (-43), 3) := by decide +kernel
theorem d_Row_number_24 : decode b_Row_number 24 = .ok (.iload 5, 2) := by decide +kernel
theorem d_Row_number_26 : decode b_Row_number 26 = .ok (.aload_n 0, 1) := by decide +kernel
theorem d_Row_number_27 : decode b_Row_number 27 = .ok (.arraylength, 1) := by decide +kernel
theorem d_Row_number_28 : decode b_Row_number 28 = .ok (.if_icmp .ge 15, 3) := by decide +kernel
theorem d_Row_number_31 : decode b_Row_number 31 = .ok (.aload_n 0, 1) := by decide +kernel
theorem d_Row_number_32 : decode b_Row_number 32 = .ok (.iload 5, 2) := by decide +kernel
theorem d_Row_number_34 : decode b_Row_number 34 = .ok (.iload_n 3, 1) := by decide +kernel
theorem d_Row_number_35 : decode b_Row_number 35 = .ok (.bipush 8, 2) := by decide +kernel
theorem d_Row_number_37 : decode b_Row_number 37 = .ok (.iload 4, 2) := by decide +kernel
theorem d_Row_number_39 : decode b_Row_number 39 = .ok (.imul, 1) := by decide +kernel
theorem d_Row_number_40 : decode b_Row_number 40 = .ok (.ishr, 1) := by decide +kernel
theorem d_Row_number_41 : decode b_Row_number 41 = .ok (.i2b, 1) := by decide +kernel
theorem d_Row_number_42 : decode b_Row_number 42 = .ok (.bastore, 1) := by decide +kernel
theorem d_Row_number_0 : decode b_Row_number 0 = .ok (.iconst 0, 1) := by decide +kernel
theorem d_Row_number_1 : decode b_Row_number 1 = .ok (.istore 4, 2) := by decide +kernel
set_option maxHeartbeats 4000000 in
set_option maxRecDepth 100000 in
/-- Row.at(i): the byte, 0 beyond the end -/
theorem c_Row_at {l : Launch} {D : va_G} {kd : Nat → ClassId} {z : Nat} {S : tS} {r b cap : Nat} {n : Int32} {f : Nat → Int32} (mr : r ∈ S.1) (fr : S.2 r = .inr (5, [.ref b, .int n])) (mb : b ∈ S.1) (fb : S.2 b = .inl (kd 1, cap, .inl f)) (hcap : cap < 2 ^ 31) {i : Int32} : tM l y_Row_at b_Row_at 2 (some FieldType.int) [] {} D (tyl kd) z [.ref r, .int i] S (fun o S' => S' = S ∧ o = .inl (some (.int (if ¬ i < 0 ∧ ¬ n ≤ i ∧ ¬ nI cap ≤ i then f i.toNatClampNeg &&& 255 else 0)))) := by
  refine tM.of (own := "FlashVault$Row") (ini := false) (by decide) rfl (fun h => by first | rfl | cases h) (Nat.le_of_ble_eq_true rfl) (lv := [(0, .ref r), (1, .int i)]) rfl ?_
  refine tt_iload_n d_Row_at_0 rfl 1 rfl ?_
  refine tt_if_lt (t := 34) d_Row_at_1 (by decide) (fun hc1 => ?_) (fun hc1 => ?_)
  · skip
    refine tt_iconst (v := 0) d_Row_at_34 (by decide) ?_
    exact tt_ret rfl (by first | rfl | exact nz_0 | exact nz_1) (Nat.le_refl _) (Nat.le_refl _) d_Row_at_35 (by refine ⟨rfl, ?_⟩; simp [hc1])
  · skip
    refine tt_iload_n d_Row_at_4 rfl 1 rfl ?_
    refine tt_aload_n d_Row_at_5 rfl 0 rfl ?_
    refine tt_get F_Row_7 d_Row_at_6 mr fr rfl ?_
    refine tt_icmp_ge (t := 34) d_Row_at_9 (by decide) (fun hc2 => ?_) (fun hc2 => ?_)
    · skip
      refine tt_iconst (v := 0) d_Row_at_34 (by decide) ?_
      exact tt_ret rfl (by first | rfl | exact nz_0 | exact nz_1) (Nat.le_refl _) (Nat.le_refl _) d_Row_at_35 (by refine ⟨rfl, ?_⟩; simp [hc1, hc2])
    · skip
      refine tt_iload_n d_Row_at_12 rfl 1 rfl ?_
      refine tt_aload_n d_Row_at_13 rfl 0 rfl ?_
      refine tt_get F_Row_19 d_Row_at_14 mr fr rfl ?_
      refine tt_alen (v := nI (cap)) 1 d_Row_at_17 rfl mb fb rfl ?_
      refine tt_icmp_ge (t := 34) d_Row_at_18 (by decide) (fun hc3 => ?_) (fun hc3 => ?_)
      · skip
        refine tt_iconst (v := 0) d_Row_at_34 (by decide) ?_
        exact tt_ret rfl (by first | rfl | exact nz_0 | exact nz_1) (Nat.le_refl _) (Nat.le_refl _) d_Row_at_35 (by refine ⟨rfl, ?_⟩; simp [hc1, hc2, hc3])
      · skip
        refine tt_aload_n d_Row_at_21 rfl 0 rfl ?_
        refine tt_get F_Row_19 d_Row_at_22 mr fr rfl ?_
        refine tt_iload_n d_Row_at_25 rfl 1 rfl ?_
        refine tt_bald 1 d_Row_at_26 rfl mb fb (vi_of (by assumption) (by assumption) hcap) ?_
        refine tt_sipush (v := 255) d_Row_at_27 (by decide) ?_
        refine tt_iand d_Row_at_30 ?_
        refine tt_goto (t := 35) d_Row_at_31 (by decide) ?_
        exact tt_ret rfl (by first | rfl | exact nz_0 | exact nz_1) (Nat.le_refl _) (Nat.le_refl _) d_Row_at_35 (by refine ⟨rfl, ?_⟩; simp [hc1, hc2, hc3])
set_option maxHeartbeats 4000000 in
set_option maxRecDepth 100000 in
/-- Row.add(v): a byte more, if there is room -/
theorem c_Row_add {l : Launch} {D : va_G} {kd : Nat → ClassId} {z : Nat} {S : tS} {r b cap : Nat} {n : Int32} {f : Nat → Int32} (mr : r ∈ S.1) (fr : S.2 r = .inr (5, [.ref b, .int n])) (mb : b ∈ S.1) (fb : S.2 b = .inl (kd 1, cap, .inl f)) (hcap : cap < 2 ^ 31) {v : Int32} : tM l y_Row_add b_Row_add 2 none [] {} D (tyl kd) z [.ref r, .int v] S (fun o S' => o = .inl none ∧ S' = if ¬ n < 0 ∧ ¬ nI cap ≤ n then tset (tset S b (.inl (kd 1, cap, .inl (upd f n.toNatClampNeg v.toInt8.toInt32)))) r (.inr (5, [.ref b, .int (n + 1)])) else S) := by
  refine tM.of (own := "FlashVault$Row") (ini := false) (by decide) rfl (fun h => by first | rfl | cases h) (Nat.le_of_ble_eq_true rfl) (lv := [(0, .ref r), (1, .int v)]) rfl ?_
  refine tt_aload_n d_Row_add_0 rfl 0 rfl ?_
  refine tt_get F_Row_7 d_Row_add_1 mr fr rfl ?_
  refine tt_if_lt (t := 40) d_Row_add_4 (by decide) (fun hc1 => ?_) (fun hc1 => ?_)
  · skip
    exact tt_vret rfl (Nat.le_refl _) (Nat.le_refl _) d_Row_add_40 (by refine ⟨rfl, ?_⟩; skip; simp [hc1, pk_vb])
  · skip
    refine tt_aload_n d_Row_add_7 rfl 0 rfl ?_
    refine tt_get F_Row_7 d_Row_add_8 mr fr rfl ?_
    refine tt_aload_n d_Row_add_11 rfl 0 rfl ?_
    refine tt_get F_Row_19 d_Row_add_12 mr fr rfl ?_
    refine tt_alen (v := nI (cap)) 1 d_Row_add_15 rfl mb fb rfl ?_
    refine tt_icmp_ge (t := 40) d_Row_add_16 (by decide) (fun hc2 => ?_) (fun hc2 => ?_)
    · skip
      exact tt_vret rfl (Nat.le_refl _) (Nat.le_refl _) d_Row_add_40 (by refine ⟨rfl, ?_⟩; skip; simp [hc1, hc2, pk_vb])
    · skip
      refine tt_aload_n d_Row_add_19 rfl 0 rfl ?_
      refine tt_get F_Row_19 d_Row_add_20 mr fr rfl ?_
      refine tt_aload_n d_Row_add_23 rfl 0 rfl ?_
      refine tt_get F_Row_7 d_Row_add_24 mr fr rfl ?_
      refine tt_iload_n d_Row_add_27 rfl 1 rfl ?_
      refine tt_i2b d_Row_add_28 ?_
      refine tt_bast 1 d_Row_add_29 rfl mb fb (vi_of (by assumption) (by assumption) hcap) ?_
      obtain ⟨S3, hS3⟩ : ∃ x9, x9 = tset S b (.inl (kd 1, cap, .inl (upd f (n).toNatClampNeg (vp_nar .byte ((v).toInt8.toInt32))))) := ⟨_, rfl⟩
      refine tt_S hS3 ?_
      have m4 : r ∈ S3.1 := by rw [hS3]; exact mr
      have f5 : S3.2 r = .inr (5, [.ref b, .int n]) := by rw [hS3]; exact (va_up_ne _ _ (ap_ne (fun h => by rw [h, fb] at fr; cases fr))).trans fr
      have m6 : b ∈ S3.1 := by rw [hS3]; exact mb
      have f7 : S3.2 b = .inl (kd 1, cap, .inl (upd f (n).toNatClampNeg (vp_nar .byte ((v).toInt8.toInt32)))) := by rw [hS3]; exact va_up_self _ _ _
      refine tt_aload_n d_Row_add_30 rfl 0 rfl ?_
      refine tt_dup d_Row_add_31 rfl ?_
      refine tt_get F_Row_7 d_Row_add_32 m4 f5 rfl ?_
      refine tt_iconst (v := 1) d_Row_add_35 (by decide) ?_
      refine tt_iadd d_Row_add_36 ?_
      refine tt_put F_Row_7 d_Row_add_37 m4 f5 (Or.inl rfl) (by first | rfl | decide | exact pk_nz _) (by first | rfl | decide) (by simp) ?_
      obtain ⟨S8, hS8⟩ : ∃ x9, x9 = tset S3 r (.inr (5, [.ref b, .int ((n + 1))])) := ⟨_, rfl⟩
      refine tt_S hS8 ?_
      have m9 : r ∈ S8.1 := by rw [hS8]; exact m4
      have f10 : S8.2 r = .inr (5, [.ref b, .int ((n + 1))]) := by rw [hS8]; exact va_up_self _ _ _
      have m11 : b ∈ S8.1 := by rw [hS8]; exact m6
      have f12 : S8.2 b = .inl (kd 1, cap, .inl (upd f (n).toNatClampNeg (vp_nar .byte ((v).toInt8.toInt32)))) := by rw [hS8]; exact (va_up_ne _ _ (ap_ne (fun h => by rw [← h, fb] at fr; cases fr))).trans f7
      exact tt_vret rfl (Nat.le_refl _) (Nat.le_refl _) d_Row_add_40 (by refine ⟨rfl, ?_⟩; subst hS3; subst hS8; simp [hc1, hc2, pk_vb])
set_option maxHeartbeats 4000000 in
set_option maxRecDepth 100000 in
/-- Row.copy: within both, or not at all -/
theorem c_Row_copy {l : Launch} {D : va_G} {kd : Nat → ClassId} {z : Nat} {S : tS} {a b ca cb : Nat} {i j n : Int32} {f g : Nat → Int32} (ma : a ∈ S.1) (fa : S.2 a = .inl (kd 1, ca, .inl f)) (mb : b ∈ S.1) (fb : S.2 b = .inl (kd 1, cb, .inl g)) (hca : ca < 2 ^ 31) (hcb : cb < 2 ^ 31) (hfit : sb_Fit f) : tM l y_Row_copy b_Row_copy 5 none [] { frames := 1, locals := 60 } D (tyl kd) z [.ref a, .int i, .ref b, .int j, .int n] S (fun o S' => o = .inl none ∧ S' = if ¬ n ≤ 0 ∧ ¬ i < 0 ∧ ¬ j < 0 ∧ ¬ (nI ca - n) < i ∧ ¬ (nI cb - n) < j then tset S b (.inl (kd 1, cb, .inl (va_cpy f g i.toNatClampNeg j.toNatClampNeg n.toNatClampNeg))) else S) := by
  refine tM.of (own := "FlashVault$Row") (ini := false) (by decide) rfl (fun h => by cases h) (Nat.le_of_ble_eq_true rfl) (lv := [(0, .ref a), (1, .int i), (2, .ref b), (3, .int j), (4, .int n)]) rfl ?_
  refine tt_iload d_Row_copy_0 4 rfl ?_
  refine tt_if_le (t := 40) d_Row_copy_2 (by decide) (fun hc1 => ?_) (fun hc1 => ?_)
  · skip
    exact tt_vret rfl (Nat.le_refl _) (Nat.le_refl _) d_Row_copy_40 (by refine ⟨rfl, ?_⟩; skip; simp [hc1])
  · skip
    refine tt_iload_n d_Row_copy_5 rfl 1 rfl ?_
    refine tt_if_lt (t := 40) d_Row_copy_6 (by decide) (fun hc2 => ?_) (fun hc2 => ?_)
    · skip
      exact tt_vret rfl (Nat.le_refl _) (Nat.le_refl _) d_Row_copy_40 (by refine ⟨rfl, ?_⟩; skip; simp [hc1, hc2])
    · skip
      refine tt_iload_n d_Row_copy_9 rfl 3 rfl ?_
      refine tt_if_lt (t := 40) d_Row_copy_10 (by decide) (fun hc3 => ?_) (fun hc3 => ?_)
      · skip
        exact tt_vret rfl (Nat.le_refl _) (Nat.le_refl _) d_Row_copy_40 (by refine ⟨rfl, ?_⟩; skip; simp [hc1, hc2, hc3])
      · skip
        refine tt_iload_n d_Row_copy_13 rfl 1 rfl ?_
        refine tt_aload_n d_Row_copy_14 rfl 0 rfl ?_
        refine tt_alen (v := nI (ca)) 1 d_Row_copy_15 rfl ma fa rfl ?_
        refine tt_iload d_Row_copy_16 4 rfl ?_
        refine tt_isub d_Row_copy_18 ?_
        refine tt_icmp_gt (t := 40) d_Row_copy_19 (by decide) (fun hc4 => ?_) (fun hc4 => ?_)
        · skip
          exact tt_vret rfl (Nat.le_refl _) (Nat.le_refl _) d_Row_copy_40 (by refine ⟨rfl, ?_⟩; skip; simp [hc1, hc2, hc3, hc4])
        · skip
          refine tt_iload_n d_Row_copy_22 rfl 3 rfl ?_
          refine tt_aload_n d_Row_copy_23 rfl 2 rfl ?_
          refine tt_alen (v := nI (cb)) 1 d_Row_copy_24 rfl mb fb rfl ?_
          refine tt_iload d_Row_copy_25 4 rfl ?_
          refine tt_isub d_Row_copy_27 ?_
          refine tt_icmp_gt (t := 40) d_Row_copy_28 (by decide) (fun hc5 => ?_) (fun hc5 => ?_)
          · skip
            exact tt_vret rfl (Nat.le_refl _) (Nat.le_refl _) d_Row_copy_40 (by refine ⟨rfl, ?_⟩; skip; simp [hc1, hc2, hc3, hc4, hc5])
          · skip
            refine tt_aload_n d_Row_copy_31 rfl 0 rfl ?_
            refine tt_iload_n d_Row_copy_32 rfl 1 rfl ?_
            refine tt_aload_n d_Row_copy_33 rfl 2 rfl ?_
            refine tt_iload_n d_Row_copy_34 rfl 3 rfl ?_
            refine tt_iload d_Row_copy_35 4 rfl ?_
            refine tt_copy 1 1 w_4_55 w_4_57 w_4_56 w_1_23 ma fa mb fb rfl rfl rfl (by assumption) (by assumption) (fun h => absurd (Int32.le_of_lt h) (by assumption)) (cp_in (by assumption) (by assumption) (by assumption) hca) (cp_in (by assumption) (by assumption) (by assumption) hcb) (fun k _ => hfit _) ⟨Nat.le_of_ble_eq_true rfl, Nat.le_of_ble_eq_true rfl⟩ d_Row_copy_37 ?_
            obtain ⟨S6, hS6⟩ : ∃ x, x = tset S b (.inl (kd 1, cb, .inl (va_cpy f g (i).toNatClampNeg (j).toNatClampNeg (n).toNatClampNeg))) := ⟨_, rfl⟩
            refine tt_S hS6 ?_
            exact tt_vret rfl (Nat.le_refl _) (Nat.le_refl _) d_Row_copy_40 (by refine ⟨rfl, ?_⟩; subst hS6; simp [hc1, hc2, hc3, hc4, hc5])
set_option maxHeartbeats 4000000 in
set_option maxRecDepth 100000 in
theorem lp_Row_compare {l : Launch} {D : va_G} {kd : Nat → ClassId} {z : Nat} {S : tS} {a b ca cb : Nat} {n m : Int32} {f g : Nat → Int32} (ma : a ∈ S.1) (fa : S.2 a = .inl (kd 1, ca, .inl f)) (mb : b ∈ S.1) (fb : S.2 b = .inl (kd 1, cb, .inl g)) (hca : ca < 2 ^ 31) (hcb : cb < 2 ^ 31) {sh i' j' : Nat} (hi : i' + sh ≤ ca) (hj : j' + sh ≤ cb) : ∀ (t k' : Nat) (k res : Int32), k = nI k' → k' + t = sh → res = rcmp f g (nI i') (nI j') (n - m) t k → tP b_Row_compare "FlashVault$Row" 9 (some FieldType.int) false [] { frames := 1, locals := 60 } D (tyl kd) z l (fun o S' => S' = S ∧ o = .inl (some (.int res))) 0 0 39 [(7, .int k), (6, .int ((nI sh))), (0, .ref a), (1, .int ((nI i'))), (2, .int n), (3, .ref b), (4, .int ((nI j'))), (5, .int m)] [] S := by
  intro t
  induction t with
  | zero =>
    intro k' k res hk hs hr
    have hge : nI sh ≤ k := by rw [hk, show k' = sh by omega]; exact Int32.le_refl _
    refine tt_iload d_Row_compare_39 0 rfl ?_
    refine tt_iload d_Row_compare_41 1 rfl ?_
    refine tt_icmp_ge (t := 84) d_Row_compare_43 (by decide) (fun hc1 => ?_) (fun hc1 => ?_)
    · skip
      refine tt_iload_n d_Row_compare_84 rfl 4 rfl ?_
      refine tt_iload d_Row_compare_85 7 rfl ?_
      refine tt_isub d_Row_compare_87 ?_
      exact tt_ret rfl (by first | rfl | exact nz_0 | exact nz_1) (Nat.le_refl _) (Nat.le_refl _) d_Row_compare_88 (by first | exact ⟨rfl, by rw [hr]; rfl⟩ | exact absurd hge (by assumption))
    · skip
      refine tt_aload_n d_Row_compare_46 rfl 2 rfl ?_
      refine tt_iload_n d_Row_compare_47 rfl 3 rfl ?_
      refine tt_iload d_Row_compare_48 0 rfl ?_
      refine tt_iadd d_Row_compare_50 ?_
      refine tt_bald 1 d_Row_compare_51 rfl ma fa (absurd hge (by assumption)) ?_
      refine tt_sipush (v := 255) d_Row_compare_52 (by decide) ?_
      refine tt_iand d_Row_compare_55 ?_
      refine tt_aload_n d_Row_compare_56 rfl 5 rfl ?_
      refine tt_iload d_Row_compare_57 6 rfl ?_
      refine tt_iload d_Row_compare_59 0 rfl ?_
      refine tt_iadd d_Row_compare_61 ?_
      refine tt_bald 1 d_Row_compare_62 rfl mb fb (absurd hge (by assumption)) ?_
      refine tt_sipush (v := 255) d_Row_compare_63 (by decide) ?_
      refine tt_iand d_Row_compare_66 ?_
      refine tt_isub d_Row_compare_67 ?_
      refine tt_istore (lv' := [(8, .int ((((f (((nI i') + k)).toNatClampNeg) &&& 255) - ((g (((nI j') + k)).toNatClampNeg) &&& 255)))), (7, .int k), (6, .int ((nI sh))), (0, .ref a), (1, .int ((nI i'))), (2, .int n), (3, .ref b), (4, .int ((nI j'))), (5, .int m)]) d_Row_compare_68 (by decide) rfl ?_
      refine tt_iload d_Row_compare_70 0 rfl ?_
      refine tt_if_eq (t := 78) d_Row_compare_72 (by decide) (fun hc2 => ?_) (fun hc2 => ?_)
      · skip
        refine tt_iinc (v := (k + 1)) (lv' := [(7, .int ((k + 1))), (8, .int ((((f (((nI i') + k)).toNatClampNeg) &&& 255) - ((g (((nI j') + k)).toNatClampNeg) &&& 255)))), (6, .int ((nI sh))), (0, .ref a), (1, .int ((nI i'))), (2, .int n), (3, .ref b), (4, .int ((nI j'))), (5, .int m)]) d_Row_compare_78 1 rfl rfl (by decide) rfl ?_
        refine tt_goto (t := 39) d_Row_compare_81 (by decide) ?_
        refine tt_sub (lv' := [(7, .int ((k + 1))), (6, .int ((nI sh))), (0, .ref a), (1, .int ((nI i'))), (2, .int n), (3, .ref b), (4, .int ((nI j'))), (5, .int m)]) [0, 2, 3, 4, 5, 6, 7, 8] rfl ?_
        exact absurd hge (by assumption)
      · skip
        refine tt_iload d_Row_compare_75 0 rfl ?_
        exact tt_ret rfl (by first | rfl | exact nz_0 | exact nz_1) (Nat.le_refl _) (Nat.le_refl _) d_Row_compare_77 (by first | exact ⟨rfl, by rw [hr]; rfl⟩ | exact absurd hge (by assumption))
  | succ t ih =>
    intro k' k res hk hs hr
    have hlt : ¬ nI sh ≤ k := by rw [hk]; exact nI_ge (by omega) (by omega)
    have ha9 : vp_in (nI i' + k) ca := by rw [hk, nI_add]; exact vp_in_nI (by omega) hca
    have hb9 : vp_in (nI j' + k) cb := by rw [hk, nI_add]; exact vp_in_nI (by omega) hcb
    refine tt_iload d_Row_compare_39 0 rfl ?_
    refine tt_iload d_Row_compare_41 1 rfl ?_
    refine tt_icmp_ge (t := 84) d_Row_compare_43 (by decide) (fun hc1 => ?_) (fun hc1 => ?_)
    · skip
      refine tt_iload_n d_Row_compare_84 rfl 4 rfl ?_
      refine tt_iload d_Row_compare_85 7 rfl ?_
      refine tt_isub d_Row_compare_87 ?_
      exact tt_ret rfl (by first | rfl | exact nz_0 | exact nz_1) (Nat.le_refl _) (Nat.le_refl _) d_Row_compare_88 (by first | exact absurd (by assumption) hlt | exact ⟨rfl, by rw [hr, rcmp, if_neg (by assumption)]⟩)
    · skip
      refine tt_aload_n d_Row_compare_46 rfl 2 rfl ?_
      refine tt_iload_n d_Row_compare_47 rfl 3 rfl ?_
      refine tt_iload d_Row_compare_48 0 rfl ?_
      refine tt_iadd d_Row_compare_50 ?_
      refine tt_bald 1 d_Row_compare_51 rfl ma fa (by first | exact ha9 | exact hb9) ?_
      refine tt_sipush (v := 255) d_Row_compare_52 (by decide) ?_
      refine tt_iand d_Row_compare_55 ?_
      refine tt_aload_n d_Row_compare_56 rfl 5 rfl ?_
      refine tt_iload d_Row_compare_57 6 rfl ?_
      refine tt_iload d_Row_compare_59 0 rfl ?_
      refine tt_iadd d_Row_compare_61 ?_
      refine tt_bald 1 d_Row_compare_62 rfl mb fb (by first | exact ha9 | exact hb9) ?_
      refine tt_sipush (v := 255) d_Row_compare_63 (by decide) ?_
      refine tt_iand d_Row_compare_66 ?_
      refine tt_isub d_Row_compare_67 ?_
      refine tt_istore (lv' := [(8, .int ((((f (((nI i') + k)).toNatClampNeg) &&& 255) - ((g (((nI j') + k)).toNatClampNeg) &&& 255)))), (7, .int k), (6, .int ((nI sh))), (0, .ref a), (1, .int ((nI i'))), (2, .int n), (3, .ref b), (4, .int ((nI j'))), (5, .int m)]) d_Row_compare_68 (by decide) rfl ?_
      refine tt_iload d_Row_compare_70 0 rfl ?_
      refine tt_if_eq (t := 78) d_Row_compare_72 (by decide) (fun hc2 => ?_) (fun hc2 => ?_)
      · skip
        refine tt_iinc (v := (k + 1)) (lv' := [(7, .int ((k + 1))), (8, .int ((((f (((nI i') + k)).toNatClampNeg) &&& 255) - ((g (((nI j') + k)).toNatClampNeg) &&& 255)))), (6, .int ((nI sh))), (0, .ref a), (1, .int ((nI i'))), (2, .int n), (3, .ref b), (4, .int ((nI j'))), (5, .int m)]) d_Row_compare_78 1 rfl rfl (by decide) rfl ?_
        refine tt_goto (t := 39) d_Row_compare_81 (by decide) ?_
        refine tt_sub (lv' := [(7, .int ((k + 1))), (6, .int ((nI sh))), (0, .ref a), (1, .int ((nI i'))), (2, .int n), (3, .ref b), (4, .int ((nI j'))), (5, .int m)]) [0, 2, 3, 4, 5, 6, 7, 8] rfl ?_
        exact ih (k' + 1) (k + 1) res (by rw [hk]; exact nI_1 k') (by omega) (by rw [hr, rcmp, if_pos (by assumption)])
      · skip
        refine tt_iload d_Row_compare_75 0 rfl ?_
        exact tt_ret rfl (by first | rfl | exact nz_0 | exact nz_1) (Nat.le_refl _) (Nat.le_refl _) d_Row_compare_77 (by first | exact absurd (by assumption) hlt | exact ⟨rfl, by rw [hr, rcmp, if_neg (by assumption)]⟩)
set_option maxHeartbeats 4000000 in
set_option maxRecDepth 100000 in
/-- Row.compare: the first difference of bytes, else that of the lengths -/
theorem c_Row_compare {l : Launch} {D : va_G} {kd : Nat → ClassId} {z : Nat} {S : tS} {a b ca cb : Nat} {i n j m : Int32} {f g : Nat → Int32} (ma : a ∈ S.1) (fa : S.2 a = .inl (kd 1, ca, .inl f)) (mb : b ∈ S.1) (fb : S.2 b = .inl (kd 1, cb, .inl g)) (hca : ca < 2 ^ 31) (hcb : cb < 2 ^ 31) : tM l y_Row_compare b_Row_compare 9 (some .int) [] { frames := 1, locals := 60 } D (tyl kd) z [.ref a, .int i, .int n, .ref b, .int j, .int m] S (fun o S' => S' = S ∧ o = .inl (some (.int (if ¬ i < 0 ∧ ¬ j < 0 ∧ ¬ (nI ca - i) < (if m < n then m else n) ∧ ¬ (nI cb - j) < (if m < n then m else n) then rcmp f g i j (n - m) (if m < n then m else n).toNatClampNeg 0 else n - m)))) := by
  generalize hres : (if ¬ i < 0 ∧ ¬ j < 0 ∧ ¬ (nI ca - i) < (if m < n then m else n) ∧ ¬ (nI cb - j) < (if m < n then m else n) then rcmp f g i j (n - m) (if m < n then m else n).toNatClampNeg 0 else n - m) = res
  refine tM.of (own := "FlashVault$Row") (ini := false) (by decide) rfl (fun h => by cases h) (Nat.le_of_ble_eq_true rfl) (lv := [(0, .ref a), (1, .int i), (2, .int n), (3, .ref b), (4, .int j), (5, .int m)]) rfl ?_
  refine tt_iload_n d_Row_compare_0 rfl 2 rfl ?_
  refine tt_iload d_Row_compare_1 5 rfl ?_
  refine tt_mmin w_4_73 w_4_10 w_1_3 w_4_11 ⟨Nat.le_of_ble_eq_true rfl, Nat.le_of_ble_eq_true rfl, Nat.le_of_ble_eq_true rfl, Nat.le_of_ble_eq_true rfl⟩ d_Row_compare_3 ?_
  refine tt_istore (lv' := [(6, .int ((if m < n then m else n))), (0, .ref a), (1, .int i), (2, .int n), (3, .ref b), (4, .int j), (5, .int m)]) d_Row_compare_6 (by decide) rfl ?_
  refine tt_iload_n d_Row_compare_8 rfl 2 rfl ?_
  refine tt_if_lt (t := 84) d_Row_compare_9 (by decide) (fun hc1 => ?_) (fun hc1 => ?_)
  · skip
    refine tt_iload_n d_Row_compare_84 rfl 3 rfl ?_
    refine tt_iload d_Row_compare_85 6 rfl ?_
    refine tt_isub d_Row_compare_87 ?_
    exact tt_ret rfl (by first | rfl | exact nz_0 | exact nz_1) (Nat.le_refl _) (Nat.le_refl _) d_Row_compare_88 (by refine ⟨rfl, ?_⟩; rw [← hres, if_neg (by intro h; simp [hc1] at h)])
  · skip
    refine tt_iload d_Row_compare_12 5 rfl ?_
    refine tt_if_lt (t := 84) d_Row_compare_14 (by decide) (fun hc2 => ?_) (fun hc2 => ?_)
    · skip
      refine tt_iload_n d_Row_compare_84 rfl 3 rfl ?_
      refine tt_iload d_Row_compare_85 6 rfl ?_
      refine tt_isub d_Row_compare_87 ?_
      exact tt_ret rfl (by first | rfl | exact nz_0 | exact nz_1) (Nat.le_refl _) (Nat.le_refl _) d_Row_compare_88 (by refine ⟨rfl, ?_⟩; rw [← hres, if_neg (by intro h; simp [hc1, hc2] at h)])
    · skip
      refine tt_iload d_Row_compare_17 0 rfl ?_
      refine tt_aload_n d_Row_compare_19 rfl 1 rfl ?_
      refine tt_alen (v := nI (ca)) 1 d_Row_compare_20 rfl ma fa rfl ?_
      refine tt_iload_n d_Row_compare_21 rfl 2 rfl ?_
      refine tt_isub d_Row_compare_22 ?_
      refine tt_icmp_gt (t := 84) d_Row_compare_23 (by decide) (fun hc3 => ?_) (fun hc3 => ?_)
      · skip
        refine tt_iload_n d_Row_compare_84 rfl 3 rfl ?_
        refine tt_iload d_Row_compare_85 6 rfl ?_
        refine tt_isub d_Row_compare_87 ?_
        exact tt_ret rfl (by first | rfl | exact nz_0 | exact nz_1) (Nat.le_refl _) (Nat.le_refl _) d_Row_compare_88 (by refine ⟨rfl, ?_⟩; rw [← hres, if_neg (by intro h; simp [hc1, hc2, hc3] at h)])
      · skip
        refine tt_iload d_Row_compare_26 0 rfl ?_
        refine tt_aload_n d_Row_compare_28 rfl 4 rfl ?_
        refine tt_alen (v := nI (cb)) 1 d_Row_compare_29 rfl mb fb rfl ?_
        refine tt_iload d_Row_compare_30 5 rfl ?_
        refine tt_isub d_Row_compare_32 ?_
        refine tt_icmp_gt (t := 84) d_Row_compare_33 (by decide) (fun hc4 => ?_) (fun hc4 => ?_)
        · skip
          refine tt_iload_n d_Row_compare_84 rfl 3 rfl ?_
          refine tt_iload d_Row_compare_85 6 rfl ?_
          refine tt_isub d_Row_compare_87 ?_
          exact tt_ret rfl (by first | rfl | exact nz_0 | exact nz_1) (Nat.le_refl _) (Nat.le_refl _) d_Row_compare_88 (by refine ⟨rfl, ?_⟩; rw [← hres, if_neg (by intro h; simp [hc1, hc2, hc3, hc4] at h)])
        · skip
          refine tt_iconst (v := 0) d_Row_compare_36 (by decide) ?_
          refine tt_istore (lv' := [(7, .int 0), (6, .int ((if m < n then m else n))), (0, .ref a), (1, .int i), (2, .int n), (3, .ref b), (4, .int j), (5, .int m)]) d_Row_compare_37 (by decide) rfl ?_
          rw [if_pos ⟨hc1, hc2, hc3, hc4⟩] at hres
          obtain ⟨i', hi, rfl⟩ := nI_of hc1
          obtain ⟨j', hj, rfl⟩ := nI_of hc2
          by_cases h0 : (if m < n then m else n) < 0
          · rw [show (if m < n then m else n).toNatClampNeg = 0 from cl_neg h0] at hres
            refine tt_iload d_Row_compare_39 0 rfl ?_
            refine tt_iload d_Row_compare_41 1 rfl ?_
            refine tt_icmp_ge (t := 84) d_Row_compare_43 (by decide) (fun hc55 => ?_) (fun hc55 => ?_)
            · skip
              refine tt_iload_n d_Row_compare_84 rfl 4 rfl ?_
              refine tt_iload d_Row_compare_85 7 rfl ?_
              refine tt_isub d_Row_compare_87 ?_
              exact tt_ret rfl (by first | rfl | exact nz_0 | exact nz_1) (Nat.le_refl _) (Nat.le_refl _) d_Row_compare_88 (by first | exact ⟨rfl, by rw [← hres]; rfl⟩ | exact absurd (Int32.le_of_lt h0) (by assumption))
            · skip
              refine tt_aload_n d_Row_compare_46 rfl 2 rfl ?_
              refine tt_iload_n d_Row_compare_47 rfl 3 rfl ?_
              refine tt_iload d_Row_compare_48 0 rfl ?_
              refine tt_iadd d_Row_compare_50 ?_
              refine tt_bald 1 d_Row_compare_51 rfl ma fa (absurd (Int32.le_of_lt h0) (by assumption)) ?_
              refine tt_sipush (v := 255) d_Row_compare_52 (by decide) ?_
              refine tt_iand d_Row_compare_55 ?_
              refine tt_aload_n d_Row_compare_56 rfl 5 rfl ?_
              refine tt_iload d_Row_compare_57 6 rfl ?_
              refine tt_iload d_Row_compare_59 0 rfl ?_
              refine tt_iadd d_Row_compare_61 ?_
              refine tt_bald 1 d_Row_compare_62 rfl mb fb (absurd (Int32.le_of_lt h0) (by assumption)) ?_
              refine tt_sipush (v := 255) d_Row_compare_63 (by decide) ?_
              refine tt_iand d_Row_compare_66 ?_
              refine tt_isub d_Row_compare_67 ?_
              refine tt_istore (lv' := [(8, .int ((((f (((nI i') + 0)).toNatClampNeg) &&& 255) - ((g (((nI j') + 0)).toNatClampNeg) &&& 255)))), (7, .int 0), (6, .int ((if m < n then m else n))), (0, .ref a), (1, .int ((nI i'))), (2, .int n), (3, .ref b), (4, .int ((nI j'))), (5, .int m)]) d_Row_compare_68 (by decide) rfl ?_
              refine tt_iload d_Row_compare_70 0 rfl ?_
              refine tt_if_eq (t := 78) d_Row_compare_72 (by decide) (fun hc56 => ?_) (fun hc56 => ?_)
              · skip
                refine tt_iinc (v := (0 + 1)) (lv' := [(7, .int ((0 + 1))), (8, .int ((((f (((nI i') + 0)).toNatClampNeg) &&& 255) - ((g (((nI j') + 0)).toNatClampNeg) &&& 255)))), (6, .int ((if m < n then m else n))), (0, .ref a), (1, .int ((nI i'))), (2, .int n), (3, .ref b), (4, .int ((nI j'))), (5, .int m)]) d_Row_compare_78 1 rfl rfl (by decide) rfl ?_
                refine tt_goto (t := 39) d_Row_compare_81 (by decide) ?_
                exact absurd (Int32.le_of_lt h0) (by assumption)
              · skip
                refine tt_iload d_Row_compare_75 0 rfl ?_
                exact tt_ret rfl (by first | rfl | exact nz_0 | exact nz_1) (Nat.le_refl _) (Nat.le_refl _) d_Row_compare_77 (by first | exact ⟨rfl, by rw [← hres]; rfl⟩ | exact absurd (Int32.le_of_lt h0) (by assumption))
          · obtain ⟨sh, hsh, esh⟩ := nI_of h0
            rw [esh] at hc3 hc4 hres ⊢
            rw [nI_clamp hsh] at hres
            exact lp_Row_compare ma fa mb fb hca hcb (sub_in hc3 hi hsh hca) (sub_in hc4 hj hsh hcb) sh 0 0 res nI_0.symm (by omega) hres.symm
set_option maxHeartbeats 4000000 in
set_option maxRecDepth 100000 in
theorem lp_Row_number {l : Launch} {D : va_G} {kd : Nat → ClassId} {z : Nat} {a cap n' : Nat} {p v : Int32} {res : tS} (hcap : cap < 2 ^ 31) (hn : n' < 2 ^ 31) : ∀ (t i' : Nat) (i : Int32) (S : tS) (f : Nat → Int32), a ∈ S.1 → S.2 a = .inl (kd 1, cap, .inl f) → i = nI i' → i' + t = n' → res = tset S a (.inl (kd 1, cap, .inl (rnum cap p (nI n') v t i f))) → tP b_Row_number "FlashVault$Row" 6 none false [] {} D (tyl kd) z l (fun o S' => o = .inl none ∧ S' = res) 0 0 3 [(4, .int i), (0, .ref a), (1, .int p), (2, .int ((nI n'))), (3, .int v)] [] S := by
  intro t
  induction t with
  | zero =>
    intro i' i S f ma fa hk hs hr
    have hge : nI n' ≤ i := by rw [hk, show i' = n' by omega]; exact Int32.le_refl _
    refine tt_iload d_Row_number_3 0 rfl ?_
    refine tt_iload_n d_Row_number_5 rfl 3 rfl ?_
    refine tt_icmp_ge (t := 49) d_Row_number_6 (by decide) (fun hc1 => ?_) (fun hc1 => ?_)
    · skip
      exact tt_vret rfl (Nat.le_refl _) (Nat.le_refl _) d_Row_number_49 (by first | exact ⟨rfl, by rw [hr]; exact (ts_self fa).symm⟩ | exact absurd hge (by assumption))
    · skip
      refine tt_iload_n d_Row_number_9 rfl 2 rfl ?_
      refine tt_iload_n d_Row_number_10 rfl 3 rfl ?_
      refine tt_iadd d_Row_number_11 ?_
      refine tt_iconst (v := 1) d_Row_number_12 (by decide) ?_
      refine tt_isub d_Row_number_13 ?_
      refine tt_iload d_Row_number_14 0 rfl ?_
      refine tt_isub d_Row_number_16 ?_
      refine tt_istore (lv' := [(5, .int ((((p + (nI n')) - 1) - i))), (4, .int i), (0, .ref a), (1, .int p), (2, .int ((nI n'))), (3, .int v)]) d_Row_number_17 (by decide) rfl ?_
      refine tt_iload d_Row_number_19 0 rfl ?_
      refine tt_if_lt (t := 43) d_Row_number_21 (by decide) (fun hc2 => ?_) (fun hc2 => ?_)
      · skip
        refine tt_iinc (v := (i + 1)) (lv' := [(4, .int ((i + 1))), (5, .int ((((p + (nI n')) - 1) - i))), (0, .ref a), (1, .int p), (2, .int ((nI n'))), (3, .int v)]) d_Row_number_43 1 rfl rfl (by decide) rfl ?_
        refine tt_goto (t := 3) d_Row_number_46 (by decide) ?_
        refine tt_sub (lv' := [(4, .int ((i + 1))), (0, .ref a), (1, .int p), (2, .int ((nI n'))), (3, .int v)]) [0, 2, 3, 4, 5] rfl ?_
        exact absurd hge (by assumption)
      · skip
        refine tt_iload d_Row_number_24 0 rfl ?_
        refine tt_aload_n d_Row_number_26 rfl 2 rfl ?_
        refine tt_alen (v := nI (cap)) 1 d_Row_number_27 rfl ma fa rfl ?_
        refine tt_icmp_ge (t := 43) d_Row_number_28 (by decide) (fun hc3 => ?_) (fun hc3 => ?_)
        · skip
          refine tt_iinc (v := (i + 1)) (lv' := [(4, .int ((i + 1))), (5, .int ((((p + (nI n')) - 1) - i))), (0, .ref a), (1, .int p), (2, .int ((nI n'))), (3, .int v)]) d_Row_number_43 1 rfl rfl (by decide) rfl ?_
          refine tt_goto (t := 3) d_Row_number_46 (by decide) ?_
          refine tt_sub (lv' := [(4, .int ((i + 1))), (0, .ref a), (1, .int p), (2, .int ((nI n'))), (3, .int v)]) [0, 2, 3, 4, 5] rfl ?_
          exact absurd hge (by assumption)
        · skip
          refine tt_aload_n d_Row_number_31 rfl 2 rfl ?_
          refine tt_iload d_Row_number_32 0 rfl ?_
          refine tt_iload_n d_Row_number_34 rfl 5 rfl ?_
          refine tt_bipush (v := 8) d_Row_number_35 (by decide) ?_
          refine tt_iload d_Row_number_37 1 rfl ?_
          refine tt_imul d_Row_number_39 ?_
          refine tt_ishr d_Row_number_40 ?_
          refine tt_i2b d_Row_number_41 ?_
          refine tt_bast 1 d_Row_number_42 rfl ma fa (absurd hge (by assumption)) ?_
          obtain ⟨S4, hS4⟩ : ∃ x9, x9 = tset S a (.inl (kd 1, cap, .inl (upd f ((((p + (nI n')) - 1) - i)).toNatClampNeg (vp_nar .byte (((v >>> ((8 * i) &&& 31))).toInt8.toInt32))))) := ⟨_, rfl⟩
          refine tt_S hS4 ?_
          have m5 : a ∈ S4.1 := by rw [hS4]; exact ma
          have f6 : S4.2 a = .inl (kd 1, cap, .inl (upd f ((((p + (nI n')) - 1) - i)).toNatClampNeg (vp_nar .byte (((v >>> ((8 * i) &&& 31))).toInt8.toInt32)))) := by rw [hS4]; exact va_up_self _ _ _
          refine tt_iinc (v := (i + 1)) (lv' := [(4, .int ((i + 1))), (5, .int ((((p + (nI n')) - 1) - i))), (0, .ref a), (1, .int p), (2, .int ((nI n'))), (3, .int v)]) d_Row_number_43 1 rfl rfl (by decide) rfl ?_
          refine tt_goto (t := 3) d_Row_number_46 (by decide) ?_
          refine tt_sub (lv' := [(4, .int ((i + 1))), (0, .ref a), (1, .int p), (2, .int ((nI n'))), (3, .int v)]) [0, 2, 3, 4, 5] rfl ?_
          exact absurd hge (by assumption)
  | succ t ih =>
    intro i' i S f ma fa hk hs hr
    have hlt : ¬ nI n' ≤ i := by rw [hk]; exact nI_ge (by omega) (by omega)
    refine tt_iload d_Row_number_3 0 rfl ?_
    refine tt_iload_n d_Row_number_5 rfl 3 rfl ?_
    refine tt_icmp_ge (t := 49) d_Row_number_6 (by decide) (fun hc1 => ?_) (fun hc1 => ?_)
    · skip
      exact tt_vret rfl (Nat.le_refl _) (Nat.le_refl _) d_Row_number_49 (by exact absurd (by assumption) hlt)
    · skip
      refine tt_iload_n d_Row_number_9 rfl 2 rfl ?_
      refine tt_iload_n d_Row_number_10 rfl 3 rfl ?_
      refine tt_iadd d_Row_number_11 ?_
      refine tt_iconst (v := 1) d_Row_number_12 (by decide) ?_
      refine tt_isub d_Row_number_13 ?_
      refine tt_iload d_Row_number_14 0 rfl ?_
      refine tt_isub d_Row_number_16 ?_
      refine tt_istore (lv' := [(5, .int ((((p + (nI n')) - 1) - i))), (4, .int i), (0, .ref a), (1, .int p), (2, .int ((nI n'))), (3, .int v)]) d_Row_number_17 (by decide) rfl ?_
      refine tt_iload d_Row_number_19 0 rfl ?_
      refine tt_if_lt (t := 43) d_Row_number_21 (by decide) (fun hc2 => ?_) (fun hc2 => ?_)
      · skip
        refine tt_iinc (v := (i + 1)) (lv' := [(4, .int ((i + 1))), (5, .int ((((p + (nI n')) - 1) - i))), (0, .ref a), (1, .int p), (2, .int ((nI n'))), (3, .int v)]) d_Row_number_43 1 rfl rfl (by decide) rfl ?_
        refine tt_goto (t := 3) d_Row_number_46 (by decide) ?_
        refine tt_sub (lv' := [(4, .int ((i + 1))), (0, .ref a), (1, .int p), (2, .int ((nI n'))), (3, .int v)]) [0, 2, 3, 4, 5] rfl ?_
        exact ih (i' + 1) (i + 1) S _ ma fa (by rw [hk]; exact nI_1 i') (by omega) (by rw [hr, rnum, if_neg (by intro h; simp [hc2] at h)])
      · skip
        refine tt_iload d_Row_number_24 0 rfl ?_
        refine tt_aload_n d_Row_number_26 rfl 2 rfl ?_
        refine tt_alen (v := nI (cap)) 1 d_Row_number_27 rfl ma fa rfl ?_
        refine tt_icmp_ge (t := 43) d_Row_number_28 (by decide) (fun hc3 => ?_) (fun hc3 => ?_)
        · skip
          refine tt_iinc (v := (i + 1)) (lv' := [(4, .int ((i + 1))), (5, .int ((((p + (nI n')) - 1) - i))), (0, .ref a), (1, .int p), (2, .int ((nI n'))), (3, .int v)]) d_Row_number_43 1 rfl rfl (by decide) rfl ?_
          refine tt_goto (t := 3) d_Row_number_46 (by decide) ?_
          refine tt_sub (lv' := [(4, .int ((i + 1))), (0, .ref a), (1, .int p), (2, .int ((nI n'))), (3, .int v)]) [0, 2, 3, 4, 5] rfl ?_
          exact ih (i' + 1) (i + 1) S _ ma fa (by rw [hk]; exact nI_1 i') (by omega) (by rw [hr, rnum, if_neg (by intro h; simp [hc2, hc3] at h)])
        · skip
          refine tt_aload_n d_Row_number_31 rfl 2 rfl ?_
          refine tt_iload d_Row_number_32 0 rfl ?_
          refine tt_iload_n d_Row_number_34 rfl 5 rfl ?_
          refine tt_bipush (v := 8) d_Row_number_35 (by decide) ?_
          refine tt_iload d_Row_number_37 1 rfl ?_
          refine tt_imul d_Row_number_39 ?_
          refine tt_ishr d_Row_number_40 ?_
          refine tt_i2b d_Row_number_41 ?_
          refine tt_bast 1 d_Row_number_42 rfl ma fa (vi_of (by assumption) (by assumption) hcap) ?_
          obtain ⟨S4, hS4⟩ : ∃ x9, x9 = tset S a (.inl (kd 1, cap, .inl (upd f ((((p + (nI n')) - 1) - i)).toNatClampNeg (vp_nar .byte (((v >>> ((8 * i) &&& 31))).toInt8.toInt32))))) := ⟨_, rfl⟩
          refine tt_S hS4 ?_
          have m5 : a ∈ S4.1 := by rw [hS4]; exact ma
          have f6 : S4.2 a = .inl (kd 1, cap, .inl (upd f ((((p + (nI n')) - 1) - i)).toNatClampNeg (vp_nar .byte (((v >>> ((8 * i) &&& 31))).toInt8.toInt32)))) := by rw [hS4]; exact va_up_self _ _ _
          refine tt_iinc (v := (i + 1)) (lv' := [(4, .int ((i + 1))), (5, .int ((((p + (nI n')) - 1) - i))), (0, .ref a), (1, .int p), (2, .int ((nI n'))), (3, .int v)]) d_Row_number_43 1 rfl rfl (by decide) rfl ?_
          refine tt_goto (t := 3) d_Row_number_46 (by decide) ?_
          refine tt_sub (lv' := [(4, .int ((i + 1))), (0, .ref a), (1, .int p), (2, .int ((nI n'))), (3, .int v)]) [0, 2, 3, 4, 5] rfl ?_
          exact ih (i' + 1) (i + 1) S4 _ m5 f6 (by rw [hk]; exact nI_1 i') (by omega) (by rw [hr, rnum, if_pos ⟨hc2, hc3⟩]; subst hS4; exact (ts_ts _ _ _ _).symm)
set_option maxHeartbeats 4000000 in
set_option maxRecDepth 100000 in
/-- Row.number: a number of n bytes, its highest first; what lies outside is left out -/
theorem c_Row_number {l : Launch} {D : va_G} {kd : Nat → ClassId} {z : Nat} {S : tS} {a cap n' : Nat} {p v : Int32} {f : Nat → Int32} (ma : a ∈ S.1) (fa : S.2 a = .inl (kd 1, cap, .inl f)) (hcap : cap < 2 ^ 31) (hn : n' < 2 ^ 31) : tM l y_Row_number b_Row_number 6 none [] {} D (tyl kd) z [.ref a, .int p, .int (nI n'), .int v] S (fun o S' => o = .inl none ∧ S' = tset S a (.inl (kd 1, cap, .inl (rnum cap p (nI n') v n' 0 f)))) := by
  refine tM.of (own := "FlashVault$Row") (ini := false) (by decide) rfl (fun h => by cases h) (Nat.le_of_ble_eq_true rfl) (lv := [(0, .ref a), (1, .int p), (2, .int ((nI n'))), (3, .int v)]) rfl ?_
  refine tt_iconst (v := 0) d_Row_number_0 (by decide) ?_
  refine tt_istore (lv' := [(4, .int 0), (0, .ref a), (1, .int p), (2, .int ((nI n'))), (3, .int v)]) d_Row_number_1 (by decide) rfl ?_
  exact lp_Row_number hcap hn n' 0 0 S f ma fa nI_0.symm (by omega) rfl
