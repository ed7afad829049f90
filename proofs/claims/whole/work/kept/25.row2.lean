/-! ===== Row.add in pairs, Row.addInt; Versions.release; written by wip/gen/row2.py ===== -/
/-- a row's length and bytes, behind add -/
def ra (cap : Nat) (p : Int32 × (Nat → Int32)) (v : Int32) : Int32 × (Nat → Int32) := if ¬ p.1 < 0 ∧ ¬ nI cap ≤ p.1 then (p.1 + 1, upd p.2 p.1.toNatClampNeg v.toInt8.toInt32) else p
theorem c_Row_addP {l : Launch} {D : va_G} {kd : Nat → ClassId} {z : Nat} {S : tS} {r b cap : Nat} {p : Int32 × (Nat → Int32)} {v : Int32} (mr : r ∈ S.1) (fr : S.2 r = .inr (5, [.ref b, .int p.1])) (mb : b ∈ S.1) (fb : S.2 b = .inl (kd 1, cap, .inl p.2)) (hcap : cap < 2 ^ 31) : tM l y_Row_add b_Row_add 2 none [] {} D (tyl kd) z [.ref r, .int v] S (fun o9 T9 => T9 = tset (tset S b (.inl (kd 1, cap, .inl (ra cap p v).2))) r (.inr (5, [.ref b, .int (ra cap p v).1])) ∧ o9 = .inl none) :=
  (c_Row_add mr fr mb fb hcap).mono (fun o T q => ⟨by
    rw [q.2]; unfold ra
    by_cases h : ¬ p.1 < 0 ∧ ¬ nI cap ≤ p.1
    · rw [if_pos h, if_pos h]
    · rw [if_neg h, if_neg h, ts_self fb, ts_self fr], q.1⟩)
theorem ts_br {S : tS} {a b : Nat} {x y x' y' : va_E} (h : a ≠ b) : tset (tset (tset (tset S a x) b y) a x') b y' = tset (tset S a x') b y' := by
  refine Prod.ext rfl ?_
  funext k
  show va_up (va_up (va_up (va_up S.2 a x) b y) a x') b y' k = va_up (va_up S.2 a x') b y' k
  by_cases hb : k = b
  · rw [hb, va_up_self, va_up_self]
  · rw [va_up_ne _ _ hb, va_up_ne _ _ hb]
    by_cases ha : k = a
    · rw [ha, va_up_self, va_up_self]
    · rw [va_up_ne _ _ ha, va_up_ne _ _ ha, va_up_ne _ _ hb, va_up_ne _ _ ha]
theorem c_Versions_setAloneU {l : Launch} {D : va_G} {kd : Nat → ClassId} {z : Nat} {S : tS} {v si ky kn mo pl le al od sp cp : Nat} {sz ss ac : Int32} {i x : Int32} {fal : Nat → Int32} (m_v : v ∈ S.1) (f_v : S.2 v = .inr (10, [.ref si, .ref ky, .ref kn, .ref mo, .ref pl, .ref le, .ref al, .ref od, .ref sp, .int (sz), .int (ss), .int (ac)])) (m_al : al ∈ S.1) (f_al : S.2 al = .inl (kd 2, cp, .inl fal)) (hi : vp_in i cp) (hx : vp_nar .boolean x = x) : tM l y_Versions_setAlone b_Versions_setAlone 3 none [] {} D (tyl kd) z [.ref v, .int i, .int x] S (fun o9 T9 => T9 = tset (tset S al (.inl (kd 2, cp, .inl (upd fal i.toNatClampNeg x)))) v (.inr (10, [.ref si, .ref ky, .ref kn, .ref mo, .ref pl, .ref le, .ref al, .ref od, .ref sp, .int (sz), .int (ss), .int (if fal i.toNatClampNeg = x then ac else ac + (if x = 0 then -1 else 1))])) ∧ o9 = .inl none) :=
  (c_Versions_setAlone m_v f_v m_al f_al hi).mono (fun o T q => ⟨by
    rw [q.1]
    by_cases h : fal i.toNatClampNeg = x
    · have e1 : upd fal i.toNatClampNeg x = fal := by
        funext k
        by_cases hk : k = i.toNatClampNeg
        · rw [hk, pk_us, h]
        · rw [pk_un hk]
      rw [if_pos h, if_pos h, e1, ts_self f_al, ts_self f_v]
    · rw [if_neg h, if_neg h, hx], q.2⟩)
abbrev b_Row_addInt : ByteArray := prog_7_method_4_code
def y_Row_addInt : MethodName := ⟨"FlashVault$Row", "addInt", "(I)V"⟩
theorem d_Row_addInt_0 : decode b_Row_addInt 0 = .ok (.aload_n 0, 1) := by decide +kernel
theorem d_Row_addInt_1 : decode b_Row_addInt 1 = .ok (.iload_n 1, 1) := by decide +kernel
theorem d_Row_addInt_2 : decode b_Row_addInt 2 = .ok (.bipush 24, 2) := by decide +kernel
theorem d_Row_addInt_4 : decode b_Row_addInt 4 = .ok (.ishr, 1) := by decide +kernel
theorem d_Row_addInt_5 : decode b_Row_addInt 5 = .ok (.invokevirtual 23, 3) := by decide +kernel
theorem w_3_176 : (Cond.methodLink "FlashVault$Row" (23 : Nat) ({ cls := "FlashVault$Row", name := "add", desc := "(I)V" } : MethodName)) ∈ gW := gW_3 176 rfl rfl
theorem w_3_179 : (Cond.code ({ cls := "FlashVault$Row", name := "add", desc := "(I)V" } : MethodName) prog_7_method_3_code (2 : Nat) (Option.none : Option FieldType)) ∈ gW := gW_3 179 rfl rfl
theorem w_3_178 : (Cond.selects "FlashVault$Row" ({ cls := "FlashVault$Row", name := "add", desc := "(I)V" } : MethodName) ({ cls := "FlashVault$Row", name := "add", desc := "(I)V" } : MethodName)) ∈ gW := gW_3 178 rfl rfl
theorem w_3_177 : (Cond.instanceMethod ({ cls := "FlashVault$Row", name := "add", desc := "(I)V" } : MethodName)) ∈ gW := gW_3 177 rfl rfl
theorem d_Row_addInt_8 : decode b_Row_addInt 8 = .ok (.aload_n 0, 1) := by decide +kernel
theorem d_Row_addInt_9 : decode b_Row_addInt 9 = .ok (.iload_n 1, 1) := by decide +kernel
theorem d_Row_addInt_10 : decode b_Row_addInt 10 = .ok (.bipush 16, 2) := by decide +kernel
theorem d_Row_addInt_12 : decode b_Row_addInt 12 = .ok (.ishr, 1) := by decide +kernel
theorem d_Row_addInt_13 : decode b_Row_addInt 13 = .ok (.invokevirtual 23, 3) := by decide +kernel
theorem d_Row_addInt_16 : decode b_Row_addInt 16 = .ok (.aload_n 0, 1) := by decide +kernel
theorem d_Row_addInt_17 : decode b_Row_addInt 17 = .ok (.iload_n 1, 1) := by decide +kernel
theorem d_Row_addInt_18 : decode b_Row_addInt 18 = .ok (.bipush 8, 2) := by decide +kernel
theorem d_Row_addInt_20 : decode b_Row_addInt 20 = .ok (.ishr, 1) := by decide +kernel
theorem d_Row_addInt_21 : decode b_Row_addInt 21 = .ok (.invokevirtual 23, 3) := by decide +kernel
theorem d_Row_addInt_24 : decode b_Row_addInt 24 = .ok (.aload_n 0, 1) := by decide +kernel
theorem d_Row_addInt_25 : decode b_Row_addInt 25 = .ok (.iload_n 1, 1) := by decide +kernel
theorem d_Row_addInt_26 : decode b_Row_addInt 26 = .ok (.invokevirtual 23, 3) := by decide +kernel
theorem d_Row_addInt_29 : decode b_Row_addInt 29 = .ok (.return_, 1) := by decide +kernel
set_option maxHeartbeats 4000000 in
set_option maxRecDepth 100000 in
/-- Row.addInt: four bytes, the highest first -/
theorem c_Row_addInt {l : Launch} {D : va_G} {kd : Nat → ClassId} {z : Nat} {S : tS} {r b cap : Nat} {p : Int32 × (Nat → Int32)} {v : Int32} (m_r : r ∈ S.1) (f_r : S.2 r = .inr (5, [.ref b, .int (p.1)])) (m_b : b ∈ S.1) (f_b : S.2 b = .inl (kd 1, cap, .inl p.2))  (hcap : cap < 2 ^ 31) : tM l y_Row_addInt b_Row_addInt 2 none [] { frames := 1, locals := 21 } D (tyl kd) z [.ref r, .int v] S (fun o9 T9 => T9 = tset (tset S b (.inl (kd 1, cap, .inl (ra cap (ra cap (ra cap (ra cap p (v >>> (24 &&& 31))) (v >>> (16 &&& 31))) (v >>> (8 &&& 31))) v).2))) r (.inr (5, [.ref b, .int (ra cap (ra cap (ra cap (ra cap p (v >>> (24 &&& 31))) (v >>> (16 &&& 31))) (v >>> (8 &&& 31))) v).1])) ∧ o9 = .inl none) := by
  refine tM.of (own := "FlashVault$Row") (ini := false) (by decide) rfl (fun h => by first | rfl | cases h) (Nat.le_of_ble_eq_true rfl) (lv := [(0, .ref r), (1, .int v)]) rfl ?_
  have n_b_r : b ≠ r := fun h => by rw [h, f_r] at f_b; cases f_b
  refine tt_aload_n d_Row_addInt_0 rfl 0 rfl ?_
  refine tt_iload_n d_Row_addInt_1 rfl 1 rfl ?_
  refine tt_bipush (v := 24) d_Row_addInt_2 (by decide) ?_
  refine tt_ishr d_Row_addInt_4 ?_
  refine tt_callV (bytes := b_Row_add) (nL' := 2) (ret' := none) (hh' := []) (As := [.int ((v >>> (24 &&& 31)))]) w_3_176 w_3_177 w_3_178 w_1_2 w_3_179 ⟨by decide, by decide, rfl⟩ (c_Row_addP (p := p) m_r f_r m_b f_b hcap) m_r f_r rfl ⟨Nat.le_of_ble_eq_true rfl, Nat.le_of_ble_eq_true rfl, Nat.le_of_ble_eq_true rfl, Nat.le_of_ble_eq_true rfl⟩ (Nat.le_of_ble_eq_true rfl) d_Row_addInt_5 rfl (fun v9 S1 hq => ?_) (fun k9 S9 hq => by cases hq.2)
  obtain ⟨hS1, ho9⟩ := hq
  cases ho9
  have m2 : r ∈ S1.1 := by rw [hS1]; exact m_r
  have f3 : S1.2 r = .inr (5, [.ref b, .int ((ra cap p ((v >>> (24 &&& 31)))).1)]) := by rw [hS1]; exact va_up_self _ _ _
  have m4 : b ∈ S1.1 := by rw [hS1]; exact m_b
  have f5 : S1.2 b = .inl (kd 1, cap, .inl (ra cap p ((v >>> (24 &&& 31)))).2) := by rw [hS1]; exact (va_up_ne _ _ (fun h => by have h9 := f_b; rw [h, f_r] at h9; cases h9)).trans (va_up_self _ _ _)
  refine tt_aload_n d_Row_addInt_8 rfl 0 rfl ?_
  refine tt_iload_n d_Row_addInt_9 rfl 1 rfl ?_
  refine tt_bipush (v := 16) d_Row_addInt_10 (by decide) ?_
  refine tt_ishr d_Row_addInt_12 ?_
  refine tt_callV (bytes := b_Row_add) (nL' := 2) (ret' := none) (hh' := []) (As := [.int ((v >>> (16 &&& 31)))]) w_3_176 w_3_177 w_3_178 w_1_2 w_3_179 ⟨by decide, by decide, rfl⟩ (c_Row_addP (p := (ra cap p ((v >>> (24 &&& 31))))) m2 f3 m4 f5 hcap) m2 f3 rfl ⟨Nat.le_of_ble_eq_true rfl, Nat.le_of_ble_eq_true rfl, Nat.le_of_ble_eq_true rfl, Nat.le_of_ble_eq_true rfl⟩ (Nat.le_of_ble_eq_true rfl) d_Row_addInt_13 rfl (fun v9 S6 hq => ?_) (fun k9 S9 hq => by cases hq.2)
  obtain ⟨hS6, ho9⟩ := hq
  cases ho9
  have m7 : r ∈ S6.1 := by rw [hS6]; exact m2
  have f8 : S6.2 r = .inr (5, [.ref b, .int ((ra cap (ra cap p ((v >>> (24 &&& 31)))) ((v >>> (16 &&& 31)))).1)]) := by rw [hS6]; exact va_up_self _ _ _
  have m9 : b ∈ S6.1 := by rw [hS6]; exact m4
  have f10 : S6.2 b = .inl (kd 1, cap, .inl (ra cap (ra cap p ((v >>> (24 &&& 31)))) ((v >>> (16 &&& 31)))).2) := by rw [hS6]; exact (va_up_ne _ _ (fun h => by have h9 := f_b; rw [h, f_r] at h9; cases h9)).trans (va_up_self _ _ _)
  refine tt_aload_n d_Row_addInt_16 rfl 0 rfl ?_
  refine tt_iload_n d_Row_addInt_17 rfl 1 rfl ?_
  refine tt_bipush (v := 8) d_Row_addInt_18 (by decide) ?_
  refine tt_ishr d_Row_addInt_20 ?_
  refine tt_callV (bytes := b_Row_add) (nL' := 2) (ret' := none) (hh' := []) (As := [.int ((v >>> (8 &&& 31)))]) w_3_176 w_3_177 w_3_178 w_1_2 w_3_179 ⟨by decide, by decide, rfl⟩ (c_Row_addP (p := (ra cap (ra cap p ((v >>> (24 &&& 31)))) ((v >>> (16 &&& 31))))) m7 f8 m9 f10 hcap) m7 f8 rfl ⟨Nat.le_of_ble_eq_true rfl, Nat.le_of_ble_eq_true rfl, Nat.le_of_ble_eq_true rfl, Nat.le_of_ble_eq_true rfl⟩ (Nat.le_of_ble_eq_true rfl) d_Row_addInt_21 rfl (fun v9 S11 hq => ?_) (fun k9 S9 hq => by cases hq.2)
  obtain ⟨hS11, ho9⟩ := hq
  cases ho9
  have m12 : r ∈ S11.1 := by rw [hS11]; exact m7
  have f13 : S11.2 r = .inr (5, [.ref b, .int ((ra cap (ra cap (ra cap p ((v >>> (24 &&& 31)))) ((v >>> (16 &&& 31)))) ((v >>> (8 &&& 31)))).1)]) := by rw [hS11]; exact va_up_self _ _ _
  have m14 : b ∈ S11.1 := by rw [hS11]; exact m9
  have f15 : S11.2 b = .inl (kd 1, cap, .inl (ra cap (ra cap (ra cap p ((v >>> (24 &&& 31)))) ((v >>> (16 &&& 31)))) ((v >>> (8 &&& 31)))).2) := by rw [hS11]; exact (va_up_ne _ _ (fun h => by have h9 := f_b; rw [h, f_r] at h9; cases h9)).trans (va_up_self _ _ _)
  refine tt_aload_n d_Row_addInt_24 rfl 0 rfl ?_
  refine tt_iload_n d_Row_addInt_25 rfl 1 rfl ?_
  refine tt_callV (bytes := b_Row_add) (nL' := 2) (ret' := none) (hh' := []) (As := [.int v]) w_3_176 w_3_177 w_3_178 w_1_2 w_3_179 ⟨by decide, by decide, rfl⟩ (c_Row_addP (p := (ra cap (ra cap (ra cap p ((v >>> (24 &&& 31)))) ((v >>> (16 &&& 31)))) ((v >>> (8 &&& 31))))) m12 f13 m14 f15 hcap) m12 f13 rfl ⟨Nat.le_of_ble_eq_true rfl, Nat.le_of_ble_eq_true rfl, Nat.le_of_ble_eq_true rfl, Nat.le_of_ble_eq_true rfl⟩ (Nat.le_of_ble_eq_true rfl) d_Row_addInt_26 rfl (fun v9 S16 hq => ?_) (fun k9 S9 hq => by cases hq.2)
  obtain ⟨hS16, ho9⟩ := hq
  cases ho9
  have m17 : r ∈ S16.1 := by rw [hS16]; exact m12
  have f18 : S16.2 r = .inr (5, [.ref b, .int ((ra cap (ra cap (ra cap (ra cap p ((v >>> (24 &&& 31)))) ((v >>> (16 &&& 31)))) ((v >>> (8 &&& 31)))) (v)).1)]) := by rw [hS16]; exact va_up_self _ _ _
  have m19 : b ∈ S16.1 := by rw [hS16]; exact m14
  have f20 : S16.2 b = .inl (kd 1, cap, .inl (ra cap (ra cap (ra cap (ra cap p ((v >>> (24 &&& 31)))) ((v >>> (16 &&& 31)))) ((v >>> (8 &&& 31)))) (v)).2) := by rw [hS16]; exact (va_up_ne _ _ (fun h => by have h9 := f_b; rw [h, f_r] at h9; cases h9)).trans (va_up_self _ _ _)
  exact tt_vret rfl (Nat.le_of_ble_eq_true rfl) (Nat.le_of_ble_eq_true rfl) d_Row_addInt_29 (by exact ⟨by rw [hS16, hS11, hS6, hS1, ts_br n_b_r, ts_br n_b_r, ts_br n_b_r], rfl⟩)
