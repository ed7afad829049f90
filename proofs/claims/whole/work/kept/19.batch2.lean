/-! ===== Batch.firstValue, Batch.add; written by wip/gen/batch2.py ===== -/
/-- Batch.firstValue's answer: a is the first so far -/
def bfv (fd fs fk fl : Nat → Int32) (sz : Int32) (g : Nat → Int32) (cg : Nat) (m bey : Int32) : Nat → Int32 → Int32 → Int32
  | 0, _, a => a
  | t + 1, k, a => bfv fd fs fk fl sz g cg m bey t (k + 1) (if ¬ fl k.toNatClampNeg < 0 ∧ (0 < bcv fd fs fk sz g cg k 0 m ∨ (bcv fd fs fk sz g cg k 0 m = 0 ∧ bey = 0)) ∧ (a < 0 ∨ 0 < bcv fd fs fk sz fd 4100 a (fs k.toNatClampNeg) (fk k.toNatClampNeg)) then k else a)
abbrev b_Batch_firstValue : ByteArray := prog_2_method_6_code
def y_Batch_firstValue : MethodName := ⟨"FlashVault$Batch", "firstValue", "([BIZ)I"⟩
theorem d_Batch_firstValue_6 : decode b_Batch_firstValue 6 = .ok (.iload 5, 2) := by decide +kernel
theorem d_Batch_firstValue_8 : decode b_Batch_firstValue 8 = .ok (.aload_n 0, 1) := by decide +kernel
theorem d_Batch_firstValue_9 : decode b_Batch_firstValue 9 = .ok (.getfield 28, 3) := by decide +kernel
theorem d_Batch_firstValue_12 : decode b_Batch_firstValue 12 = .ok (.if_icmp .ge 80, 3) := by decide +kernel
theorem d_Batch_firstValue_92 : decode b_Batch_firstValue 92 = .ok (.iload 4, 2) := by decide +kernel
theorem d_Batch_firstValue_94 : decode b_Batch_firstValue 94 = .ok (.ireturn, 1) := by decide +kernel
theorem d_Batch_firstValue_15 : decode b_Batch_firstValue 15 = .ok (.aload_n 0, 1) := by decide +kernel
theorem d_Batch_firstValue_16 : decode b_Batch_firstValue 16 = .ok (.iload 5, 2) := by decide +kernel
theorem d_Batch_firstValue_18 : decode b_Batch_firstValue 18 = .ok (.aload_n 1, 1) := by decide +kernel
theorem d_Batch_firstValue_19 : decode b_Batch_firstValue 19 = .ok (.iconst 0, 1) := by decide +kernel
theorem d_Batch_firstValue_20 : decode b_Batch_firstValue 20 = .ok (.iload_n 2, 1) := by decide +kernel
theorem d_Batch_firstValue_21 : decode b_Batch_firstValue 21 = .ok (.invokevirtual 39, 3) := by decide +kernel
theorem d_Batch_firstValue_24 : decode b_Batch_firstValue 24 = .ok (.istore 6, 2) := by decide +kernel
theorem d_Batch_firstValue_26 : decode b_Batch_firstValue 26 = .ok (.aload_n 0, 1) := by decide +kernel
theorem d_Batch_firstValue_27 : decode b_Batch_firstValue 27 = .ok (.getfield 22, 3) := by decide +kernel
theorem d_Batch_firstValue_30 : decode b_Batch_firstValue 30 = .ok (.iload 5, 2) := by decide +kernel
theorem d_Batch_firstValue_32 : decode b_Batch_firstValue 32 = .ok (.iaload, 1) := by decide +kernel
theorem d_Batch_firstValue_33 : decode b_Batch_firstValue 33 = .ok (.ifCond .lt 53, 3) := by decide +kernel
theorem d_Batch_firstValue_86 : decode b_Batch_firstValue 86 = .ok (.iinc 5 1, 3) := by decide +kernel
theorem d_Batch_firstValue_89 : decode b_Batch_firstValue 89 = .ok (.goto (-83), 3) := by decide +kernel
theorem d_Batch_firstValue_36 : decode b_Batch_firstValue 36 = .ok (.iload 6, 2) := by decide +kernel
theorem d_Batch_firstValue_38 : decode b_Batch_firstValue 38 = .ok (.ifCond .gt 12, 3) := by decide +kernel
theorem d_Batch_firstValue_50 : decode b_Batch_firstValue 50 = .ok (.iload 4, 2) := by decide +kernel
theorem d_Batch_firstValue_52 : decode b_Batch_firstValue 52 = .ok (.ifCond .lt 30, 3) := by decide +kernel
theorem d_Batch_firstValue_82 : decode b_Batch_firstValue 82 = .ok (.iload 5, 2) := by decide +kernel
theorem d_Batch_firstValue_84 : decode b_Batch_firstValue 84 = .ok (.istore 4, 2) := by decide +kernel
theorem d_Batch_firstValue_55 : decode b_Batch_firstValue 55 = .ok (.aload_n 0, 1) := by decide +kernel
theorem d_Batch_firstValue_56 : decode b_Batch_firstValue 56 = .ok (.iload 4, 2) := by decide +kernel
theorem d_Batch_firstValue_58 : decode b_Batch_firstValue 58 = .ok (.aload_n 0, 1) := by decide +kernel
theorem d_Batch_firstValue_59 : decode b_Batch_firstValue 59 = .ok (.getfield 9, 3) := by decide +kernel
theorem d_Batch_firstValue_62 : decode b_Batch_firstValue 62 = .ok (.aload_n 0, 1) := by decide +kernel
theorem d_Batch_firstValue_63 : decode b_Batch_firstValue 63 = .ok (.getfield 15, 3) := by decide +kernel
theorem d_Batch_firstValue_66 : decode b_Batch_firstValue 66 = .ok (.iload 5, 2) := by decide +kernel
theorem d_Batch_firstValue_68 : decode b_Batch_firstValue 68 = .ok (.iaload, 1) := by decide +kernel
theorem d_Batch_firstValue_69 : decode b_Batch_firstValue 69 = .ok (.aload_n 0, 1) := by decide +kernel
theorem d_Batch_firstValue_70 : decode b_Batch_firstValue 70 = .ok (.getfield 19, 3) := by decide +kernel
theorem d_Batch_firstValue_73 : decode b_Batch_firstValue 73 = .ok (.iload 5, 2) := by decide +kernel
theorem d_Batch_firstValue_75 : decode b_Batch_firstValue 75 = .ok (.iaload, 1) := by decide +kernel
theorem d_Batch_firstValue_76 : decode b_Batch_firstValue 76 = .ok (.invokevirtual 39, 3) := by decide +kernel
theorem d_Batch_firstValue_79 : decode b_Batch_firstValue 79 = .ok (.ifCond .le 7, 3) := by decide +kernel
theorem d_Batch_firstValue_41 : decode b_Batch_firstValue 41 = .ok (.iload 6, 2) := by decide +kernel
theorem d_Batch_firstValue_43 : decode b_Batch_firstValue 43 = .ok (.ifCond .ne 43, 3) := by decide +kernel
theorem d_Batch_firstValue_46 : decode b_Batch_firstValue 46 = .ok (.iload_n 3, 1) := by decide +kernel
theorem d_Batch_firstValue_47 : decode b_Batch_firstValue 47 = .ok (.ifCond .ne 39, 3) := by decide +kernel
theorem d_Batch_firstValue_0 : decode b_Batch_firstValue 0 = .ok (.iconst (-1), 1) := by decide +kernel
theorem d_Batch_firstValue_1 : decode b_Batch_firstValue 1 = .ok (.istore 4, 2) := by decide +kernel
theorem d_Batch_firstValue_3 : decode b_Batch_firstValue 3 = .ok (.iconst 0, 1) := by decide +kernel
theorem d_Batch_firstValue_4 : decode b_Batch_firstValue 4 = .ok (.istore 5, 2) := by decide +kernel
set_option maxHeartbeats 4000000 in
set_option maxRecDepth 100000 in
/-- Batch.firstValue: its loop -/
theorem lp_Batch_firstValue {l : Launch} {D : va_G} {kd : Nat → ClassId} {z : Nat} {S : tS} {r d s kl ln pc : Nat} {us : Int32} {q cg : Nat} {fd fs fk fl g : Nat → Int32} {m bey sz : Int32} {n' : Nat} (m_r : r ∈ S.1) (f_r : S.2 r = .inr (0, [.ref d, .ref s, .ref kl, .ref ln, .ref pc, .int sz, .int us])) (m_d : d ∈ S.1) (f_d : S.2 d = .inl (kd 1, 4100, .inl fd)) (m_s : s ∈ S.1) (f_s : S.2 s = .inl (kd 0, 40, .inl fs)) (m_kl : kl ∈ S.1) (f_kl : S.2 kl = .inl (kd 0, 40, .inl fk)) (m_ln : ln ∈ S.1) (f_ln : S.2 ln = .inl (kd 0, 40, .inl fl)) (m_q : q ∈ S.1) (f_q : S.2 q = .inl (kd 1, cg, .inl g)) (hsz : sz ≤ 40) (hcg : cg < 2 ^ 31) (hn : n' ≤ 40) (esz : sz = nI n') : ∀ (t k' : Nat) (k a : Int32) (res : Int32), k = nI k' → k' + t = n' → res = bfv fd fs fk fl sz g cg m bey t k a → tP b_Batch_firstValue "FlashVault$Batch" 7 (some FieldType.int) false [] { frames := 3, locals := 115 } D (tyl kd) z l (fun o9 T9 => T9 = S ∧ o9 = .inl (some (.int res))) 0 0 6 [(5, .int k), (4, .int a), (0, .ref r), (1, .ref q), (2, .int m), (3, .int bey)] [] S := by
  intro t
  induction t with
  | zero =>
    intro k' k a res hk hs hr
    have hge : sz ≤ k := by rw [hk, show k' = n' by omega]; first | exact Int32.le_refl _ | decide | (rw [nI_add]; exact Int32.le_refl _) | (rw [esz]; exact Int32.le_refl _)
    refine tt_iload d_Batch_firstValue_6 0 rfl ?_
    refine tt_aload_n d_Batch_firstValue_8 rfl 2 rfl ?_
    refine tt_get F_Batch_28 d_Batch_firstValue_9 m_r f_r rfl ?_
    refine tt_icmp_ge (t := 92) d_Batch_firstValue_12 (by decide) (fun hc1 => ?_) (fun hc1 => ?_)
    · skip
      refine tt_iload d_Batch_firstValue_92 1 rfl ?_
      exact tt_ret rfl (by first | rfl | decide | exact nz_ite _) (Nat.le_refl _) (Nat.le_refl _) d_Batch_firstValue_94 (by first | (exact absurd hge (by first | assumption | exact Int32.not_le.mpr (by assumption))) | (refine ⟨rfl, ?_⟩; rw [hr]; unfold bfv; first | rfl | (simp [hc1, Int32.not_lt.mpr hc1]; done) | simp_all))
    · skip
      refine tt_aload_n d_Batch_firstValue_15 rfl 2 rfl ?_
      refine tt_iload d_Batch_firstValue_16 0 rfl ?_
      refine tt_aload_n d_Batch_firstValue_18 rfl 3 rfl ?_
      refine tt_iconst (v := 0) d_Batch_firstValue_19 (by decide) ?_
      refine tt_iload_n d_Batch_firstValue_20 rfl 4 rfl ?_
      refine tt_callV (bytes := b_Batch_compareWith) (nL' := 5) (ret' := (some FieldType.int)) (hh' := []) (As := [.int k, .ref q, .int 0, .int m]) w_4_66 w_4_67 w_4_68 w_1_5 w_4_69 ⟨by decide, by decide, rfl⟩ (c_Batch_compareWith m_r f_r m_d f_d m_s f_s m_kl f_kl m_q f_q hsz hcg) m_r f_r rfl ⟨Nat.le_of_ble_eq_true rfl, Nat.le_of_ble_eq_true rfl, Nat.le_of_ble_eq_true rfl, Nat.le_of_ble_eq_true rfl⟩ (Nat.le_of_ble_eq_true rfl) d_Batch_firstValue_21 rfl (fun v9 S2 hq => ?_) (fun k9 S9 hq => by cases hq.2)
      obtain ⟨hS2, ho9⟩ := hq
      cases ho9
      refine tt_S hS2.symm ?_
      refine tt_istore (lv' := [(6, .int ((bcv fd fs fk sz g cg k 0 m))), (5, .int k), (4, .int a), (0, .ref r), (1, .ref q), (2, .int m), (3, .int bey)]) d_Batch_firstValue_24 (by decide) rfl ?_
      refine tt_aload_n d_Batch_firstValue_26 rfl 3 rfl ?_
      refine tt_get F_Batch_22 d_Batch_firstValue_27 m_r f_r rfl ?_
      refine tt_iload d_Batch_firstValue_30 1 rfl ?_
      refine tt_iald 0 d_Batch_firstValue_32 rfl m_ln f_ln (absurd hge (by assumption)) ?_
      refine tt_if_lt (t := 86) d_Batch_firstValue_33 (by decide) (fun hc3 => ?_) (fun hc3 => ?_)
      · skip
        refine tt_iinc (v := (k + 1)) (lv' := [(5, .int ((k + 1))), (6, .int ((bcv fd fs fk sz g cg k 0 m))), (4, .int a), (0, .ref r), (1, .ref q), (2, .int m), (3, .int bey)]) d_Batch_firstValue_86 1 rfl rfl (by decide) rfl ?_
        refine tt_goto (t := 6) d_Batch_firstValue_89 (by decide) ?_
        refine tt_sub (lv' := [(5, .int ((k + 1))), (4, .int a), (0, .ref r), (1, .ref q), (2, .int m), (3, .int bey)]) [0, 2, 3, 4, 5, 6] rfl ?_
        exact absurd hge (by first | assumption | exact Int32.not_le.mpr (by assumption))
      · skip
        refine tt_iload d_Batch_firstValue_36 0 rfl ?_
        refine tt_if_gt (t := 50) d_Batch_firstValue_38 (by decide) (fun hc4 => ?_) (fun hc4 => ?_)
        · skip
          refine tt_iload d_Batch_firstValue_50 2 rfl ?_
          refine tt_if_lt (t := 82) d_Batch_firstValue_52 (by decide) (fun hc5 => ?_) (fun hc5 => ?_)
          · skip
            refine tt_iload d_Batch_firstValue_82 1 rfl ?_
            refine tt_istore (lv' := [(4, .int k), (6, .int ((bcv fd fs fk sz g cg k 0 m))), (5, .int k), (0, .ref r), (1, .ref q), (2, .int m), (3, .int bey)]) d_Batch_firstValue_84 (by decide) rfl ?_
            refine tt_iinc (v := (k + 1)) (lv' := [(5, .int ((k + 1))), (4, .int k), (6, .int ((bcv fd fs fk sz g cg k 0 m))), (0, .ref r), (1, .ref q), (2, .int m), (3, .int bey)]) d_Batch_firstValue_86 2 rfl rfl (by decide) rfl ?_
            refine tt_goto (t := 6) d_Batch_firstValue_89 (by decide) ?_
            refine tt_sub (lv' := [(5, .int ((k + 1))), (4, .int k), (0, .ref r), (1, .ref q), (2, .int m), (3, .int bey)]) [0, 1, 3, 4, 5, 6] rfl ?_
            exact absurd hge (by first | assumption | exact Int32.not_le.mpr (by assumption))
          · skip
            refine tt_aload_n d_Batch_firstValue_55 rfl 3 rfl ?_
            refine tt_iload d_Batch_firstValue_56 2 rfl ?_
            refine tt_aload_n d_Batch_firstValue_58 rfl 3 rfl ?_
            refine tt_get F_Batch_9 d_Batch_firstValue_59 m_r f_r rfl ?_
            refine tt_aload_n d_Batch_firstValue_62 rfl 3 rfl ?_
            refine tt_get F_Batch_15 d_Batch_firstValue_63 m_r f_r rfl ?_
            refine tt_iload d_Batch_firstValue_66 1 rfl ?_
            refine tt_iald 0 d_Batch_firstValue_68 rfl m_s f_s (absurd hge (by assumption)) ?_
            refine tt_aload_n d_Batch_firstValue_69 rfl 3 rfl ?_
            refine tt_get F_Batch_19 d_Batch_firstValue_70 m_r f_r rfl ?_
            refine tt_iload d_Batch_firstValue_73 1 rfl ?_
            refine tt_iald 0 d_Batch_firstValue_75 rfl m_kl f_kl (absurd hge (by assumption)) ?_
            refine tt_callV (bytes := b_Batch_compareWith) (nL' := 5) (ret' := (some FieldType.int)) (hh' := []) (As := [.int a, .ref d, .int ((fs (k).toNatClampNeg)), .int ((fk (k).toNatClampNeg))]) w_4_66 w_4_67 w_4_68 w_1_5 w_4_69 ⟨by decide, by decide, rfl⟩ (c_Batch_compareWith m_r f_r m_d f_d m_s f_s m_kl f_kl m_d f_d hsz (by decide)) m_r f_r rfl ⟨Nat.le_of_ble_eq_true rfl, Nat.le_of_ble_eq_true rfl, Nat.le_of_ble_eq_true rfl, Nat.le_of_ble_eq_true rfl⟩ (Nat.le_of_ble_eq_true rfl) d_Batch_firstValue_76 rfl (fun v9 S6 hq => ?_) (fun k9 S9 hq => by cases hq.2)
            obtain ⟨hS6, ho9⟩ := hq
            cases ho9
            refine tt_S hS6.symm ?_
            refine tt_if_le (t := 86) d_Batch_firstValue_79 (by decide) (fun hc7 => ?_) (fun hc7 => ?_)
            · skip
              refine tt_iinc (v := (k + 1)) (lv' := [(5, .int ((k + 1))), (6, .int ((bcv fd fs fk sz g cg k 0 m))), (4, .int a), (0, .ref r), (1, .ref q), (2, .int m), (3, .int bey)]) d_Batch_firstValue_86 1 rfl rfl (by decide) rfl ?_
              refine tt_goto (t := 6) d_Batch_firstValue_89 (by decide) ?_
              refine tt_sub (lv' := [(5, .int ((k + 1))), (4, .int a), (0, .ref r), (1, .ref q), (2, .int m), (3, .int bey)]) [0, 2, 3, 4, 5, 6] rfl ?_
              exact absurd hge (by first | assumption | exact Int32.not_le.mpr (by assumption))
            · skip
              refine tt_iload d_Batch_firstValue_82 1 rfl ?_
              refine tt_istore (lv' := [(4, .int k), (6, .int ((bcv fd fs fk sz g cg k 0 m))), (5, .int k), (0, .ref r), (1, .ref q), (2, .int m), (3, .int bey)]) d_Batch_firstValue_84 (by decide) rfl ?_
              refine tt_iinc (v := (k + 1)) (lv' := [(5, .int ((k + 1))), (4, .int k), (6, .int ((bcv fd fs fk sz g cg k 0 m))), (0, .ref r), (1, .ref q), (2, .int m), (3, .int bey)]) d_Batch_firstValue_86 2 rfl rfl (by decide) rfl ?_
              refine tt_goto (t := 6) d_Batch_firstValue_89 (by decide) ?_
              refine tt_sub (lv' := [(5, .int ((k + 1))), (4, .int k), (0, .ref r), (1, .ref q), (2, .int m), (3, .int bey)]) [0, 1, 3, 4, 5, 6] rfl ?_
              exact absurd hge (by first | assumption | exact Int32.not_le.mpr (by assumption))
        · skip
          refine tt_iload d_Batch_firstValue_41 0 rfl ?_
          refine tt_if_ne (t := 86) d_Batch_firstValue_43 (by decide) (fun hc8 => ?_) (fun hc8 => ?_)
          · skip
            refine tt_iinc (v := (k + 1)) (lv' := [(5, .int ((k + 1))), (6, .int ((bcv fd fs fk sz g cg k 0 m))), (4, .int a), (0, .ref r), (1, .ref q), (2, .int m), (3, .int bey)]) d_Batch_firstValue_86 1 rfl rfl (by decide) rfl ?_
            refine tt_goto (t := 6) d_Batch_firstValue_89 (by decide) ?_
            refine tt_sub (lv' := [(5, .int ((k + 1))), (4, .int a), (0, .ref r), (1, .ref q), (2, .int m), (3, .int bey)]) [0, 2, 3, 4, 5, 6] rfl ?_
            exact absurd hge (by first | assumption | exact Int32.not_le.mpr (by assumption))
          · skip
            refine tt_iload_n d_Batch_firstValue_46 rfl 6 rfl ?_
            refine tt_if_ne (t := 86) d_Batch_firstValue_47 (by decide) (fun hc9 => ?_) (fun hc9 => ?_)
            · skip
              refine tt_iinc (v := (k + 1)) (lv' := [(5, .int ((k + 1))), (6, .int ((bcv fd fs fk sz g cg k 0 m))), (4, .int a), (0, .ref r), (1, .ref q), (2, .int m), (3, .int bey)]) d_Batch_firstValue_86 1 rfl rfl (by decide) rfl ?_
              refine tt_goto (t := 6) d_Batch_firstValue_89 (by decide) ?_
              refine tt_sub (lv' := [(5, .int ((k + 1))), (4, .int a), (0, .ref r), (1, .ref q), (2, .int m), (3, .int bey)]) [0, 2, 3, 4, 5, 6] rfl ?_
              exact absurd hge (by first | assumption | exact Int32.not_le.mpr (by assumption))
            · skip
              refine tt_iload d_Batch_firstValue_50 2 rfl ?_
              refine tt_if_lt (t := 82) d_Batch_firstValue_52 (by decide) (fun hc10 => ?_) (fun hc10 => ?_)
              · skip
                refine tt_iload d_Batch_firstValue_82 1 rfl ?_
                refine tt_istore (lv' := [(4, .int k), (6, .int ((bcv fd fs fk sz g cg k 0 m))), (5, .int k), (0, .ref r), (1, .ref q), (2, .int m), (3, .int bey)]) d_Batch_firstValue_84 (by decide) rfl ?_
                refine tt_iinc (v := (k + 1)) (lv' := [(5, .int ((k + 1))), (4, .int k), (6, .int ((bcv fd fs fk sz g cg k 0 m))), (0, .ref r), (1, .ref q), (2, .int m), (3, .int bey)]) d_Batch_firstValue_86 2 rfl rfl (by decide) rfl ?_
                refine tt_goto (t := 6) d_Batch_firstValue_89 (by decide) ?_
                refine tt_sub (lv' := [(5, .int ((k + 1))), (4, .int k), (0, .ref r), (1, .ref q), (2, .int m), (3, .int bey)]) [0, 1, 3, 4, 5, 6] rfl ?_
                exact absurd hge (by first | assumption | exact Int32.not_le.mpr (by assumption))
              · skip
                refine tt_aload_n d_Batch_firstValue_55 rfl 3 rfl ?_
                refine tt_iload d_Batch_firstValue_56 2 rfl ?_
                refine tt_aload_n d_Batch_firstValue_58 rfl 3 rfl ?_
                refine tt_get F_Batch_9 d_Batch_firstValue_59 m_r f_r rfl ?_
                refine tt_aload_n d_Batch_firstValue_62 rfl 3 rfl ?_
                refine tt_get F_Batch_15 d_Batch_firstValue_63 m_r f_r rfl ?_
                refine tt_iload d_Batch_firstValue_66 1 rfl ?_
                refine tt_iald 0 d_Batch_firstValue_68 rfl m_s f_s (absurd hge (by assumption)) ?_
                refine tt_aload_n d_Batch_firstValue_69 rfl 3 rfl ?_
                refine tt_get F_Batch_19 d_Batch_firstValue_70 m_r f_r rfl ?_
                refine tt_iload d_Batch_firstValue_73 1 rfl ?_
                refine tt_iald 0 d_Batch_firstValue_75 rfl m_kl f_kl (absurd hge (by assumption)) ?_
                refine tt_callV (bytes := b_Batch_compareWith) (nL' := 5) (ret' := (some FieldType.int)) (hh' := []) (As := [.int a, .ref d, .int ((fs (k).toNatClampNeg)), .int ((fk (k).toNatClampNeg))]) w_4_66 w_4_67 w_4_68 w_1_5 w_4_69 ⟨by decide, by decide, rfl⟩ (c_Batch_compareWith m_r f_r m_d f_d m_s f_s m_kl f_kl m_d f_d hsz (by decide)) m_r f_r rfl ⟨Nat.le_of_ble_eq_true rfl, Nat.le_of_ble_eq_true rfl, Nat.le_of_ble_eq_true rfl, Nat.le_of_ble_eq_true rfl⟩ (Nat.le_of_ble_eq_true rfl) d_Batch_firstValue_76 rfl (fun v9 S11 hq => ?_) (fun k9 S9 hq => by cases hq.2)
                obtain ⟨hS11, ho9⟩ := hq
                cases ho9
                refine tt_S hS11.symm ?_
                refine tt_if_le (t := 86) d_Batch_firstValue_79 (by decide) (fun hc12 => ?_) (fun hc12 => ?_)
                · skip
                  refine tt_iinc (v := (k + 1)) (lv' := [(5, .int ((k + 1))), (6, .int ((bcv fd fs fk sz g cg k 0 m))), (4, .int a), (0, .ref r), (1, .ref q), (2, .int m), (3, .int bey)]) d_Batch_firstValue_86 1 rfl rfl (by decide) rfl ?_
                  refine tt_goto (t := 6) d_Batch_firstValue_89 (by decide) ?_
                  refine tt_sub (lv' := [(5, .int ((k + 1))), (4, .int a), (0, .ref r), (1, .ref q), (2, .int m), (3, .int bey)]) [0, 2, 3, 4, 5, 6] rfl ?_
                  exact absurd hge (by first | assumption | exact Int32.not_le.mpr (by assumption))
                · skip
                  refine tt_iload d_Batch_firstValue_82 1 rfl ?_
                  refine tt_istore (lv' := [(4, .int k), (6, .int ((bcv fd fs fk sz g cg k 0 m))), (5, .int k), (0, .ref r), (1, .ref q), (2, .int m), (3, .int bey)]) d_Batch_firstValue_84 (by decide) rfl ?_
                  refine tt_iinc (v := (k + 1)) (lv' := [(5, .int ((k + 1))), (4, .int k), (6, .int ((bcv fd fs fk sz g cg k 0 m))), (0, .ref r), (1, .ref q), (2, .int m), (3, .int bey)]) d_Batch_firstValue_86 2 rfl rfl (by decide) rfl ?_
                  refine tt_goto (t := 6) d_Batch_firstValue_89 (by decide) ?_
                  refine tt_sub (lv' := [(5, .int ((k + 1))), (4, .int k), (0, .ref r), (1, .ref q), (2, .int m), (3, .int bey)]) [0, 1, 3, 4, 5, 6] rfl ?_
                  exact absurd hge (by first | assumption | exact Int32.not_le.mpr (by assumption))
  | succ t ih =>
    intro k' k a res hk hs hr
    have hlt : ¬ sz ≤ k := by rw [hk]; first | exact nI_ge (b := n') (by omega) (by omega) | (rw [nI_add]; exact nI_ge (by omega) (by omega)) | (rw [esz]; exact nI_ge (by omega) (by omega))
    refine tt_iload d_Batch_firstValue_6 0 rfl ?_
    refine tt_aload_n d_Batch_firstValue_8 rfl 2 rfl ?_
    refine tt_get F_Batch_28 d_Batch_firstValue_9 m_r f_r rfl ?_
    refine tt_icmp_ge (t := 92) d_Batch_firstValue_12 (by decide) (fun hc1 => ?_) (fun hc1 => ?_)
    · skip
      refine tt_iload d_Batch_firstValue_92 1 rfl ?_
      exact tt_ret rfl (by first | rfl | decide | exact nz_ite _) (Nat.le_refl _) (Nat.le_refl _) d_Batch_firstValue_94 (by first | (exact absurd (by assumption) hlt) | (refine ⟨rfl, ?_⟩; rw [hr]; unfold bfv; first | rfl | (simp [hc1, Int32.not_lt.mpr hc1]; done) | simp_all))
    · skip
      refine tt_aload_n d_Batch_firstValue_15 rfl 2 rfl ?_
      refine tt_iload d_Batch_firstValue_16 0 rfl ?_
      refine tt_aload_n d_Batch_firstValue_18 rfl 3 rfl ?_
      refine tt_iconst (v := 0) d_Batch_firstValue_19 (by decide) ?_
      refine tt_iload_n d_Batch_firstValue_20 rfl 4 rfl ?_
      refine tt_callV (bytes := b_Batch_compareWith) (nL' := 5) (ret' := (some FieldType.int)) (hh' := []) (As := [.int k, .ref q, .int 0, .int m]) w_4_66 w_4_67 w_4_68 w_1_5 w_4_69 ⟨by decide, by decide, rfl⟩ (c_Batch_compareWith m_r f_r m_d f_d m_s f_s m_kl f_kl m_q f_q hsz hcg) m_r f_r rfl ⟨Nat.le_of_ble_eq_true rfl, Nat.le_of_ble_eq_true rfl, Nat.le_of_ble_eq_true rfl, Nat.le_of_ble_eq_true rfl⟩ (Nat.le_of_ble_eq_true rfl) d_Batch_firstValue_21 rfl (fun v9 S2 hq => ?_) (fun k9 S9 hq => by cases hq.2)
      obtain ⟨hS2, ho9⟩ := hq
      cases ho9
      refine tt_S hS2.symm ?_
      refine tt_istore (lv' := [(6, .int ((bcv fd fs fk sz g cg k 0 m))), (5, .int k), (4, .int a), (0, .ref r), (1, .ref q), (2, .int m), (3, .int bey)]) d_Batch_firstValue_24 (by decide) rfl ?_
      refine tt_aload_n d_Batch_firstValue_26 rfl 3 rfl ?_
      refine tt_get F_Batch_22 d_Batch_firstValue_27 m_r f_r rfl ?_
      refine tt_iload d_Batch_firstValue_30 1 rfl ?_
      refine tt_iald 0 d_Batch_firstValue_32 rfl m_ln f_ln (by rw [hk]; exact vp_in_nI (by omega) (by omega)) ?_
      refine tt_if_lt (t := 86) d_Batch_firstValue_33 (by decide) (fun hc3 => ?_) (fun hc3 => ?_)
      · skip
        refine tt_iinc (v := (k + 1)) (lv' := [(5, .int ((k + 1))), (6, .int ((bcv fd fs fk sz g cg k 0 m))), (4, .int a), (0, .ref r), (1, .ref q), (2, .int m), (3, .int bey)]) d_Batch_firstValue_86 1 rfl rfl (by decide) rfl ?_
        refine tt_goto (t := 6) d_Batch_firstValue_89 (by decide) ?_
        refine tt_sub (lv' := [(5, .int ((k + 1))), (4, .int a), (0, .ref r), (1, .ref q), (2, .int m), (3, .int bey)]) [0, 2, 3, 4, 5, 6] rfl ?_
        exact ih (k' + 1) (k + 1) (a) res (by rw [hk]; exact nI_1 k') (by omega) (by rw [hr, bfv]; first | rfl | (simp [hc1, Int32.not_le.mp hc1, hc3, Int32.not_le.mpr hc3]; done) | simp_all)
      · skip
        refine tt_iload d_Batch_firstValue_36 0 rfl ?_
        refine tt_if_gt (t := 50) d_Batch_firstValue_38 (by decide) (fun hc4 => ?_) (fun hc4 => ?_)
        · skip
          refine tt_iload d_Batch_firstValue_50 2 rfl ?_
          refine tt_if_lt (t := 82) d_Batch_firstValue_52 (by decide) (fun hc5 => ?_) (fun hc5 => ?_)
          · skip
            refine tt_iload d_Batch_firstValue_82 1 rfl ?_
            refine tt_istore (lv' := [(4, .int k), (6, .int ((bcv fd fs fk sz g cg k 0 m))), (5, .int k), (0, .ref r), (1, .ref q), (2, .int m), (3, .int bey)]) d_Batch_firstValue_84 (by decide) rfl ?_
            refine tt_iinc (v := (k + 1)) (lv' := [(5, .int ((k + 1))), (4, .int k), (6, .int ((bcv fd fs fk sz g cg k 0 m))), (0, .ref r), (1, .ref q), (2, .int m), (3, .int bey)]) d_Batch_firstValue_86 2 rfl rfl (by decide) rfl ?_
            refine tt_goto (t := 6) d_Batch_firstValue_89 (by decide) ?_
            refine tt_sub (lv' := [(5, .int ((k + 1))), (4, .int k), (0, .ref r), (1, .ref q), (2, .int m), (3, .int bey)]) [0, 1, 3, 4, 5, 6] rfl ?_
            exact ih (k' + 1) (k + 1) (k) res (by rw [hk]; exact nI_1 k') (by omega) (by rw [hr, bfv]; first | rfl | (simp [hc1, Int32.not_le.mp hc1, hc3, Int32.not_lt.mp hc3, hc4, Int32.not_le.mpr hc4, hc5, Int32.not_le.mpr hc5]; done) | simp_all)
          · skip
            refine tt_aload_n d_Batch_firstValue_55 rfl 3 rfl ?_
            refine tt_iload d_Batch_firstValue_56 2 rfl ?_
            refine tt_aload_n d_Batch_firstValue_58 rfl 3 rfl ?_
            refine tt_get F_Batch_9 d_Batch_firstValue_59 m_r f_r rfl ?_
            refine tt_aload_n d_Batch_firstValue_62 rfl 3 rfl ?_
            refine tt_get F_Batch_15 d_Batch_firstValue_63 m_r f_r rfl ?_
            refine tt_iload d_Batch_firstValue_66 1 rfl ?_
            refine tt_iald 0 d_Batch_firstValue_68 rfl m_s f_s (by rw [hk]; exact vp_in_nI (by omega) (by omega)) ?_
            refine tt_aload_n d_Batch_firstValue_69 rfl 3 rfl ?_
            refine tt_get F_Batch_19 d_Batch_firstValue_70 m_r f_r rfl ?_
            refine tt_iload d_Batch_firstValue_73 1 rfl ?_
            refine tt_iald 0 d_Batch_firstValue_75 rfl m_kl f_kl (by rw [hk]; exact vp_in_nI (by omega) (by omega)) ?_
            refine tt_callV (bytes := b_Batch_compareWith) (nL' := 5) (ret' := (some FieldType.int)) (hh' := []) (As := [.int a, .ref d, .int ((fs (k).toNatClampNeg)), .int ((fk (k).toNatClampNeg))]) w_4_66 w_4_67 w_4_68 w_1_5 w_4_69 ⟨by decide, by decide, rfl⟩ (c_Batch_compareWith m_r f_r m_d f_d m_s f_s m_kl f_kl m_d f_d hsz (by decide)) m_r f_r rfl ⟨Nat.le_of_ble_eq_true rfl, Nat.le_of_ble_eq_true rfl, Nat.le_of_ble_eq_true rfl, Nat.le_of_ble_eq_true rfl⟩ (Nat.le_of_ble_eq_true rfl) d_Batch_firstValue_76 rfl (fun v9 S6 hq => ?_) (fun k9 S9 hq => by cases hq.2)
            obtain ⟨hS6, ho9⟩ := hq
            cases ho9
            refine tt_S hS6.symm ?_
            refine tt_if_le (t := 86) d_Batch_firstValue_79 (by decide) (fun hc7 => ?_) (fun hc7 => ?_)
            · skip
              refine tt_iinc (v := (k + 1)) (lv' := [(5, .int ((k + 1))), (6, .int ((bcv fd fs fk sz g cg k 0 m))), (4, .int a), (0, .ref r), (1, .ref q), (2, .int m), (3, .int bey)]) d_Batch_firstValue_86 1 rfl rfl (by decide) rfl ?_
              refine tt_goto (t := 6) d_Batch_firstValue_89 (by decide) ?_
              refine tt_sub (lv' := [(5, .int ((k + 1))), (4, .int a), (0, .ref r), (1, .ref q), (2, .int m), (3, .int bey)]) [0, 2, 3, 4, 5, 6] rfl ?_
              exact ih (k' + 1) (k + 1) (a) res (by rw [hk]; exact nI_1 k') (by omega) (by rw [hr, bfv]; first | rfl | (simp [hc1, Int32.not_le.mp hc1, hc3, Int32.not_lt.mp hc3, hc4, Int32.not_le.mpr hc4, hc5, Int32.not_lt.mp hc5, hc7, Int32.not_lt.mpr hc7]; done) | simp_all)
            · skip
              refine tt_iload d_Batch_firstValue_82 1 rfl ?_
              refine tt_istore (lv' := [(4, .int k), (6, .int ((bcv fd fs fk sz g cg k 0 m))), (5, .int k), (0, .ref r), (1, .ref q), (2, .int m), (3, .int bey)]) d_Batch_firstValue_84 (by decide) rfl ?_
              refine tt_iinc (v := (k + 1)) (lv' := [(5, .int ((k + 1))), (4, .int k), (6, .int ((bcv fd fs fk sz g cg k 0 m))), (0, .ref r), (1, .ref q), (2, .int m), (3, .int bey)]) d_Batch_firstValue_86 2 rfl rfl (by decide) rfl ?_
              refine tt_goto (t := 6) d_Batch_firstValue_89 (by decide) ?_
              refine tt_sub (lv' := [(5, .int ((k + 1))), (4, .int k), (0, .ref r), (1, .ref q), (2, .int m), (3, .int bey)]) [0, 1, 3, 4, 5, 6] rfl ?_
              exact ih (k' + 1) (k + 1) (k) res (by rw [hk]; exact nI_1 k') (by omega) (by rw [hr, bfv]; first | rfl | (simp [hc1, Int32.not_le.mp hc1, hc3, Int32.not_lt.mp hc3, hc4, Int32.not_le.mpr hc4, hc5, Int32.not_lt.mp hc5, hc7, Int32.not_le.mp hc7]; done) | simp_all)
        · skip
          refine tt_iload d_Batch_firstValue_41 0 rfl ?_
          refine tt_if_ne (t := 86) d_Batch_firstValue_43 (by decide) (fun hc8 => ?_) (fun hc8 => ?_)
          · skip
            refine tt_iinc (v := (k + 1)) (lv' := [(5, .int ((k + 1))), (6, .int ((bcv fd fs fk sz g cg k 0 m))), (4, .int a), (0, .ref r), (1, .ref q), (2, .int m), (3, .int bey)]) d_Batch_firstValue_86 1 rfl rfl (by decide) rfl ?_
            refine tt_goto (t := 6) d_Batch_firstValue_89 (by decide) ?_
            refine tt_sub (lv' := [(5, .int ((k + 1))), (4, .int a), (0, .ref r), (1, .ref q), (2, .int m), (3, .int bey)]) [0, 2, 3, 4, 5, 6] rfl ?_
            exact ih (k' + 1) (k + 1) (a) res (by rw [hk]; exact nI_1 k') (by omega) (by rw [hr, bfv]; first | rfl | (simp [hc1, Int32.not_le.mp hc1, hc3, Int32.not_lt.mp hc3, hc4, Int32.not_lt.mp hc4, hc8]; done) | simp_all)
          · skip
            refine tt_iload_n d_Batch_firstValue_46 rfl 6 rfl ?_
            refine tt_if_ne (t := 86) d_Batch_firstValue_47 (by decide) (fun hc9 => ?_) (fun hc9 => ?_)
            · skip
              refine tt_iinc (v := (k + 1)) (lv' := [(5, .int ((k + 1))), (6, .int ((bcv fd fs fk sz g cg k 0 m))), (4, .int a), (0, .ref r), (1, .ref q), (2, .int m), (3, .int bey)]) d_Batch_firstValue_86 1 rfl rfl (by decide) rfl ?_
              refine tt_goto (t := 6) d_Batch_firstValue_89 (by decide) ?_
              refine tt_sub (lv' := [(5, .int ((k + 1))), (4, .int a), (0, .ref r), (1, .ref q), (2, .int m), (3, .int bey)]) [0, 2, 3, 4, 5, 6] rfl ?_
              exact ih (k' + 1) (k + 1) (a) res (by rw [hk]; exact nI_1 k') (by omega) (by rw [hr, bfv]; first | rfl | (simp [hc1, Int32.not_le.mp hc1, hc3, Int32.not_lt.mp hc3, hc4, Int32.not_lt.mp hc4, hc8, hc9]; done) | simp_all)
            · skip
              refine tt_iload d_Batch_firstValue_50 2 rfl ?_
              refine tt_if_lt (t := 82) d_Batch_firstValue_52 (by decide) (fun hc10 => ?_) (fun hc10 => ?_)
              · skip
                refine tt_iload d_Batch_firstValue_82 1 rfl ?_
                refine tt_istore (lv' := [(4, .int k), (6, .int ((bcv fd fs fk sz g cg k 0 m))), (5, .int k), (0, .ref r), (1, .ref q), (2, .int m), (3, .int bey)]) d_Batch_firstValue_84 (by decide) rfl ?_
                refine tt_iinc (v := (k + 1)) (lv' := [(5, .int ((k + 1))), (4, .int k), (6, .int ((bcv fd fs fk sz g cg k 0 m))), (0, .ref r), (1, .ref q), (2, .int m), (3, .int bey)]) d_Batch_firstValue_86 2 rfl rfl (by decide) rfl ?_
                refine tt_goto (t := 6) d_Batch_firstValue_89 (by decide) ?_
                refine tt_sub (lv' := [(5, .int ((k + 1))), (4, .int k), (0, .ref r), (1, .ref q), (2, .int m), (3, .int bey)]) [0, 1, 3, 4, 5, 6] rfl ?_
                exact ih (k' + 1) (k + 1) (k) res (by rw [hk]; exact nI_1 k') (by omega) (by rw [hr, bfv]; first | rfl | (simp [hc1, Int32.not_le.mp hc1, hc3, Int32.not_lt.mp hc3, hc4, Int32.not_lt.mp hc4, hc8, hc9, hc10, Int32.not_le.mpr hc10]; done) | simp_all)
              · skip
                refine tt_aload_n d_Batch_firstValue_55 rfl 3 rfl ?_
                refine tt_iload d_Batch_firstValue_56 2 rfl ?_
                refine tt_aload_n d_Batch_firstValue_58 rfl 3 rfl ?_
                refine tt_get F_Batch_9 d_Batch_firstValue_59 m_r f_r rfl ?_
                refine tt_aload_n d_Batch_firstValue_62 rfl 3 rfl ?_
                refine tt_get F_Batch_15 d_Batch_firstValue_63 m_r f_r rfl ?_
                refine tt_iload d_Batch_firstValue_66 1 rfl ?_
                refine tt_iald 0 d_Batch_firstValue_68 rfl m_s f_s (by rw [hk]; exact vp_in_nI (by omega) (by omega)) ?_
                refine tt_aload_n d_Batch_firstValue_69 rfl 3 rfl ?_
                refine tt_get F_Batch_19 d_Batch_firstValue_70 m_r f_r rfl ?_
                refine tt_iload d_Batch_firstValue_73 1 rfl ?_
                refine tt_iald 0 d_Batch_firstValue_75 rfl m_kl f_kl (by rw [hk]; exact vp_in_nI (by omega) (by omega)) ?_
                refine tt_callV (bytes := b_Batch_compareWith) (nL' := 5) (ret' := (some FieldType.int)) (hh' := []) (As := [.int a, .ref d, .int ((fs (k).toNatClampNeg)), .int ((fk (k).toNatClampNeg))]) w_4_66 w_4_67 w_4_68 w_1_5 w_4_69 ⟨by decide, by decide, rfl⟩ (c_Batch_compareWith m_r f_r m_d f_d m_s f_s m_kl f_kl m_d f_d hsz (by decide)) m_r f_r rfl ⟨Nat.le_of_ble_eq_true rfl, Nat.le_of_ble_eq_true rfl, Nat.le_of_ble_eq_true rfl, Nat.le_of_ble_eq_true rfl⟩ (Nat.le_of_ble_eq_true rfl) d_Batch_firstValue_76 rfl (fun v9 S11 hq => ?_) (fun k9 S9 hq => by cases hq.2)
                obtain ⟨hS11, ho9⟩ := hq
                cases ho9
                refine tt_S hS11.symm ?_
                refine tt_if_le (t := 86) d_Batch_firstValue_79 (by decide) (fun hc12 => ?_) (fun hc12 => ?_)
                · skip
                  refine tt_iinc (v := (k + 1)) (lv' := [(5, .int ((k + 1))), (6, .int ((bcv fd fs fk sz g cg k 0 m))), (4, .int a), (0, .ref r), (1, .ref q), (2, .int m), (3, .int bey)]) d_Batch_firstValue_86 1 rfl rfl (by decide) rfl ?_
                  refine tt_goto (t := 6) d_Batch_firstValue_89 (by decide) ?_
                  refine tt_sub (lv' := [(5, .int ((k + 1))), (4, .int a), (0, .ref r), (1, .ref q), (2, .int m), (3, .int bey)]) [0, 2, 3, 4, 5, 6] rfl ?_
                  exact ih (k' + 1) (k + 1) (a) res (by rw [hk]; exact nI_1 k') (by omega) (by rw [hr, bfv]; first | rfl | (simp [hc1, Int32.not_le.mp hc1, hc3, Int32.not_lt.mp hc3, hc4, Int32.not_lt.mp hc4, hc8, hc9, hc10, Int32.not_lt.mp hc10, hc12, Int32.not_lt.mpr hc12]; done) | simp_all)
                · skip
                  refine tt_iload d_Batch_firstValue_82 1 rfl ?_
                  refine tt_istore (lv' := [(4, .int k), (6, .int ((bcv fd fs fk sz g cg k 0 m))), (5, .int k), (0, .ref r), (1, .ref q), (2, .int m), (3, .int bey)]) d_Batch_firstValue_84 (by decide) rfl ?_
                  refine tt_iinc (v := (k + 1)) (lv' := [(5, .int ((k + 1))), (4, .int k), (6, .int ((bcv fd fs fk sz g cg k 0 m))), (0, .ref r), (1, .ref q), (2, .int m), (3, .int bey)]) d_Batch_firstValue_86 2 rfl rfl (by decide) rfl ?_
                  refine tt_goto (t := 6) d_Batch_firstValue_89 (by decide) ?_
                  refine tt_sub (lv' := [(5, .int ((k + 1))), (4, .int k), (0, .ref r), (1, .ref q), (2, .int m), (3, .int bey)]) [0, 1, 3, 4, 5, 6] rfl ?_
                  exact ih (k' + 1) (k + 1) (k) res (by rw [hk]; exact nI_1 k') (by omega) (by rw [hr, bfv]; first | rfl | (simp [hc1, Int32.not_le.mp hc1, hc3, Int32.not_lt.mp hc3, hc4, Int32.not_lt.mp hc4, hc8, hc9, hc10, Int32.not_lt.mp hc10, hc12, Int32.not_le.mp hc12]; done) | simp_all)
set_option maxHeartbeats 4000000 in
set_option maxRecDepth 100000 in
/-- Batch.firstValue -/
theorem c_Batch_firstValue {l : Launch} {D : va_G} {kd : Nat → ClassId} {z : Nat} {S : tS} {r d s kl ln pc : Nat} {us : Int32} {q cg : Nat} {fd fs fk fl g : Nat → Int32} {m bey sz : Int32} {n' : Nat} (m_r : r ∈ S.1) (f_r : S.2 r = .inr (0, [.ref d, .ref s, .ref kl, .ref ln, .ref pc, .int sz, .int us])) (m_d : d ∈ S.1) (f_d : S.2 d = .inl (kd 1, 4100, .inl fd)) (m_s : s ∈ S.1) (f_s : S.2 s = .inl (kd 0, 40, .inl fs)) (m_kl : kl ∈ S.1) (f_kl : S.2 kl = .inl (kd 0, 40, .inl fk)) (m_ln : ln ∈ S.1) (f_ln : S.2 ln = .inl (kd 0, 40, .inl fl)) (m_q : q ∈ S.1) (f_q : S.2 q = .inl (kd 1, cg, .inl g))  (hsz : sz ≤ 40) (hcg : cg < 2 ^ 31) (hn : n' ≤ 40) (esz : sz = nI n') : tM l y_Batch_firstValue b_Batch_firstValue 7 (some FieldType.int) [] { frames := 3, locals := 115 } D (tyl kd) z [.ref r, .ref q, .int m, .int bey] S (fun o9 T9 => T9 = S ∧ o9 = .inl (some (.int (bfv fd fs fk fl sz g cg m bey n' 0 (-1))))) := by
  refine tM.of (own := "FlashVault$Batch") (ini := false) (by decide) rfl (fun h => by first | rfl | cases h) (Nat.le_of_ble_eq_true rfl) (lv := [(0, .ref r), (1, .ref q), (2, .int m), (3, .int bey)]) rfl ?_
  refine tt_iconst (v := -1) d_Batch_firstValue_0 (by decide) ?_
  refine tt_istore (lv' := [(4, .int ((-1))), (0, .ref r), (1, .ref q), (2, .int m), (3, .int bey)]) d_Batch_firstValue_1 (by decide) rfl ?_
  refine tt_iconst (v := 0) d_Batch_firstValue_3 (by decide) ?_
  refine tt_istore (lv' := [(5, .int 0), (4, .int ((-1))), (0, .ref r), (1, .ref q), (2, .int m), (3, .int bey)]) d_Batch_firstValue_4 (by decide) rfl ?_
  exact lp_Batch_firstValue m_r f_r m_d f_d m_s f_s m_kl f_kl m_ln f_ln m_q f_q hsz hcg hn esz n' 0 0 (-1) _ nI_0.symm (by omega) rfl
