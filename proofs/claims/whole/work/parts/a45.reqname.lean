/-! ===== which names are allowed; class; written by wip/gen/reqname.py ===== -/
theorem rc_requireName1 {sc : Nat × (Nat → Int32)} {d i n l : Nat} {H : aH} {bl pr up cw cl cp cb : Int32} {f : Nat → Int8} (h0 : H[0]? = some (kO 11 (fvs bl pr up cw cl cp cb))) (hr : RowAt H 1 2 2000 f l) (hl : l ≤ 2000) (hi : i < 2 ^ 30) (hn1 : 1 ≤ n) (hn : n ≤ 30) (hs : (∀ k, k < n → ¬ btB f l (i + k) = 47)) : RC sc (d + 1) mr_217 [.ref 1, .int (nI i), .int (nI n)] H (.inl none) H 0 0 := by
  refine RC.of ?_
  refine RQ.blk 4 (pc' := 5) (lv' := [(0, .ref 1), (1, .int (nI i)), (2, .int (nI n))]) (st' := [.int 30, .int 1, .int (nI n), .ref 1]) (H' := _) (kc' := 0) (ks' := 0) rfl ?_
  refine RQ.call (v := none) (st' := []) rfl rfl rfl rfl rfl rfl (args_v [.int 30, .int 1, .int (nI n)] [] rfl rfl (Nat.le_of_ble_eq_true rfl) rfl h0 (Nat.le_of_ble_eq_true rfl)) (rc_range (o := 0) (lo := 1) (hi := 30) (nI_nlt (a := n) (b := 1) (by omega) (by omega)) (nI_le (b := 30) hn (by decide))) ?_
  refine RQ.blk 2 (pc' := 10) (lv' := [(3, .int (nI i)), (0, .ref 1), (1, .int (nI i)), (2, .int (nI n))]) (st' := []) (H' := _) (kc' := 0) (ks' := 0) rfl ?_
  refine RQ.while (S := Nat) (pc := 10) (fun k H' => k ≤ n ∧ (∀ k2, k2 < k → ¬ btB f l (i + k2) = 47) ∧ H' = H) (fun k => [(3, .int (nI (i + k))), (0, .ref 1), (1, .int (nI i)), (2, .int (nI n))]) (fun k => n - k) ?_ 0 H ⟨Nat.zero_le _, fun j hj => absurd hj (Nat.not_lt_zero j), rfl⟩
  rintro k H2 ⟨hk, hb, eH⟩ ih
  rw [eH]
  by_cases hkn : k < n
  ·
    refine RQ.blk 4 (pc' := 14) (lv' := [(3, .int (nI (i + k))), (0, .ref 1), (1, .int (nI i)), (2, .int (nI n))]) (st' := [.int (nI i + nI n), .int (nI (i + k))]) (H' := _) (kc' := 0) (ks' := 0) rfl ?_
    rw [show (nI i + nI n : Int32) = nI (i + n) from nI_add i n]
    refine RQ.brF rfl rfl rfl (cF_ge (i + k) (i + n)) ?_
    refine RQ.blk 1 (pc' := 18) (lv' := [(3, .int (nI (i + k))), (0, .ref 1), (1, .int (nI i)), (2, .int (nI n))]) (st' := [.ref 1]) (H' := _) (kc' := 0) (ks' := 0) rfl ?_
    refine RQ.get (ci := 11) rfl h0 rfl rfl ?_
    refine RQ.blk 1 (pc' := 22) (lv' := [(3, .int (nI (i + k))), (0, .ref 1), (1, .int (nI i)), (2, .int (nI n))]) (st' := [.int (nI (i + k)), .ref 2]) (H' := _) (kc' := 0) (ks' := 0) rfl ?_
    refine RQ.call (v := some (.int (nI (btB f l (i + k))))) (st' := []) rfl rfl rfl rfl rfl rfl (args_v [.int (nI (i + k))] [] rfl rfl (Nat.le_of_ble_eq_true rfl) rfl hr.1 (Nat.le_of_ble_eq_true rfl)) (rc_atB (i := i + k) hr hl (by decide) (by omega)) ?_
    refine RQ.blk 1 (pc' := 27) (lv' := [(3, .int (nI (i + k))), (0, .ref 1), (1, .int (nI i)), (2, .int (nI n))]) (st' := [.int 47, .int (nI (btB f l (i + k)))]) (H' := _) (kc' := 0) (ks' := 0) rfl ?_
    by_cases c47 : btB f l (i + k) = 47
    · exact absurd c47 (hs k hkn)
    · have hbt : btB f l (i + k) < 256 := btB_lt
      refine RQ.brT rfl rfl rfl (cT_ne (btB f l (i + k)) 47) ?_
      refine RQ.blk 1 (pc' := 44) (lv' := [(3, .int (nI (i + k) + 1)), (0, .ref 1), (1, .int (nI i)), (2, .int (nI n))]) (st' := []) (H' := _) (kc' := 0) (ks' := 0) rfl ?_
      rw [show (nI (i + k) + 1 : Int32) = nI (i + k + 1) from nI_add (i + k) 1]
      refine RQ.blk 1 (pc' := 10) (lv' := [(3, .int (nI (i + k + 1))), (0, .ref 1), (1, .int (nI i)), (2, .int (nI n))]) (st' := []) (H' := _) (kc' := 0) (ks' := 0) rfl ?_
      refine RQ.pick (a := [(3, .int (nI (i + k + 1))), (0, .ref 1), (1, .int (nI i)), (2, .int (nI n))]) [0, 1, 2, 3] [3, 0, 1, 2] rfl rfl (by decide) ?_
      exact ih (k + 1) _ ⟨by omega, fun j hj => (Nat.lt_succ_iff_lt_or_eq.mp hj).elim (hb j) (fun e => by rw [e]; exact c47), rfl⟩ (by omega)
  ·
    refine RQ.blk 4 (pc' := 14) (lv' := [(3, .int (nI (i + k))), (0, .ref 1), (1, .int (nI i)), (2, .int (nI n))]) (st' := [.int (nI i + nI n), .int (nI (i + k))]) (H' := _) (kc' := 0) (ks' := 0) rfl ?_
    rw [show (nI i + nI n : Int32) = nI (i + n) from nI_add i n]
    refine RQ.brT rfl rfl rfl (cT_ge (i + k) (i + n)) ?_
    exact RQ.done (c := 0) (s := 0) rfl rfl rfl rfl rfl
theorem rc_requireName0 {sc : Nat × (Nat → Int32)} {d i n l : Nat} {H : aH} {bl pr up cw cl cp cb : Int32} {f : Nat → Int8} (h0 : H[0]? = some (kO 11 (fvs bl pr up cw cl cp cb))) (hr : RowAt H 1 2 2000 f l) (hl : l ≤ 2000) (hi : i < 2 ^ 30) (hn1 : 1 ≤ n) (hn : n ≤ 30) (hs : ¬ (∀ k, k < n → ¬ btB f l (i + k) = 47)) : RC sc (d + 1) mr_217 [.ref 1, .int (nI i), .int (nI n)] H (.inr 0) H 1 6 := by
  refine RC.of ?_
  refine RQ.blk 4 (pc' := 5) (lv' := [(0, .ref 1), (1, .int (nI i)), (2, .int (nI n))]) (st' := [.int 30, .int 1, .int (nI n), .ref 1]) (H' := _) (kc' := 0) (ks' := 0) rfl ?_
  refine RQ.call (v := none) (st' := []) rfl rfl rfl rfl rfl rfl (args_v [.int 30, .int 1, .int (nI n)] [] rfl rfl (Nat.le_of_ble_eq_true rfl) rfl h0 (Nat.le_of_ble_eq_true rfl)) (rc_range (o := 0) (lo := 1) (hi := 30) (nI_nlt (a := n) (b := 1) (by omega) (by omega)) (nI_le (b := 30) hn (by decide))) ?_
  refine RQ.blk 2 (pc' := 10) (lv' := [(3, .int (nI i)), (0, .ref 1), (1, .int (nI i)), (2, .int (nI n))]) (st' := []) (H' := _) (kc' := 0) (ks' := 0) rfl ?_
  refine RQ.while (S := Nat) (pc := 10) (fun k H' => k ≤ n ∧ (∀ k2, k2 < k → ¬ btB f l (i + k2) = 47) ∧ H' = H) (fun k => [(3, .int (nI (i + k))), (0, .ref 1), (1, .int (nI i)), (2, .int (nI n))]) (fun k => n - k) ?_ 0 H ⟨Nat.zero_le _, fun j hj => absurd hj (Nat.not_lt_zero j), rfl⟩
  rintro k H2 ⟨hk, hb, eH⟩ ih
  rw [eH]
  by_cases hkn : k < n
  ·
    refine RQ.blk 4 (pc' := 14) (lv' := [(3, .int (nI (i + k))), (0, .ref 1), (1, .int (nI i)), (2, .int (nI n))]) (st' := [.int (nI i + nI n), .int (nI (i + k))]) (H' := _) (kc' := 0) (ks' := 0) rfl ?_
    rw [show (nI i + nI n : Int32) = nI (i + n) from nI_add i n]
    refine RQ.brF rfl rfl rfl (cF_ge (i + k) (i + n)) ?_
    refine RQ.blk 1 (pc' := 18) (lv' := [(3, .int (nI (i + k))), (0, .ref 1), (1, .int (nI i)), (2, .int (nI n))]) (st' := [.ref 1]) (H' := _) (kc' := 0) (ks' := 0) rfl ?_
    refine RQ.get (ci := 11) rfl h0 rfl rfl ?_
    refine RQ.blk 1 (pc' := 22) (lv' := [(3, .int (nI (i + k))), (0, .ref 1), (1, .int (nI i)), (2, .int (nI n))]) (st' := [.int (nI (i + k)), .ref 2]) (H' := _) (kc' := 0) (ks' := 0) rfl ?_
    refine RQ.call (v := some (.int (nI (btB f l (i + k))))) (st' := []) rfl rfl rfl rfl rfl rfl (args_v [.int (nI (i + k))] [] rfl rfl (Nat.le_of_ble_eq_true rfl) rfl hr.1 (Nat.le_of_ble_eq_true rfl)) (rc_atB (i := i + k) hr hl (by decide) (by omega)) ?_
    refine RQ.blk 1 (pc' := 27) (lv' := [(3, .int (nI (i + k))), (0, .ref 1), (1, .int (nI i)), (2, .int (nI n))]) (st' := [.int 47, .int (nI (btB f l (i + k)))]) (H' := _) (kc' := 0) (ks' := 0) rfl ?_
    by_cases c47 : btB f l (i + k) = 47
    · refine RQ.brF rfl rfl rfl (cF_ne (btB f l (i + k)) 47) ?_
      exact RQ.done (c := 1) (s := 6) rfl rfl rfl rfl rfl
    · have hbt : btB f l (i + k) < 256 := btB_lt
      refine RQ.brT rfl rfl rfl (cT_ne (btB f l (i + k)) 47) ?_
      refine RQ.blk 1 (pc' := 44) (lv' := [(3, .int (nI (i + k) + 1)), (0, .ref 1), (1, .int (nI i)), (2, .int (nI n))]) (st' := []) (H' := _) (kc' := 0) (ks' := 0) rfl ?_
      rw [show (nI (i + k) + 1 : Int32) = nI (i + k + 1) from nI_add (i + k) 1]
      refine RQ.blk 1 (pc' := 10) (lv' := [(3, .int (nI (i + k + 1))), (0, .ref 1), (1, .int (nI i)), (2, .int (nI n))]) (st' := []) (H' := _) (kc' := 0) (ks' := 0) rfl ?_
      refine RQ.pick (a := [(3, .int (nI (i + k + 1))), (0, .ref 1), (1, .int (nI i)), (2, .int (nI n))]) [0, 1, 2, 3] [3, 0, 1, 2] rfl rfl (by decide) ?_
      exact ih (k + 1) _ ⟨by omega, fun j hj => (Nat.lt_succ_iff_lt_or_eq.mp hj).elim (hb j) (fun e => by rw [e]; exact c47), rfl⟩ (by omega)
  · exact absurd (fun j hj => hb j (by omega)) hs
