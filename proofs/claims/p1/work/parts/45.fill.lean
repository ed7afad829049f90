/-! ===== fill, in any state; written by wip/gen/fill.py ===== -/
theorem le_pred {x : Int32} {n : Nat} (hn : n + 1 < 2 ^ 31) : x ≤ nI n ↔ x < nI (n + 1) := by
  rw [Int32.le_iff_toInt_le, Int32.lt_iff_toInt_lt, nI_toInt (by omega), nI_toInt hn]
  omega
theorem up_fill {f : Nat → Int8} {l i : Nat} {v : Int8} : va_up (fun j => if l ≤ j ∧ j < l + i then v else f j) (l + i) v = fun j => if l ≤ j ∧ j < l + (i + 1) then v else f j := by
  funext j
  unfold va_up
  by_cases h1 : j = l + i
  · rw [if_pos h1, if_pos (by omega)]
  · rw [if_neg h1]
    by_cases h2 : l ≤ j ∧ j < l + i
    · rw [if_pos (by omega)]; exact if_pos h2
    · rw [if_neg (by omega)]; exact if_neg h2
theorem fill_0 {f : Nat → Int8} {l : Nat} {v : Int8} : (fun j => if l ≤ j ∧ j < l + 0 then v else f j) = f := by
  funext j
  exact if_neg (by omega)
theorem rc_out {sc : Nat × (Nat → Int32)} {d a v m : Nat} {H : aH} (h : v < m) (hm : m < 2 ^ 31) : RC sc d mr_264 [.ref (a + 1), .int (nI v), .int (nI m)] H (.inl (some (.int 0))) H 0 0 := by
  refine RP.blk 1 (pc' := 1) (lv' := [(0, .ref (a + 1)), (1, .int (nI v)), (2, .int (nI m))]) (st' := [.int (nI v)]) (H' := _) (kc' := 0) (ks' := 0) rfl ?_
  refine RP.brF rfl rfl rfl (cF_lt v 0) ?_
  refine RP.blk 2 (pc' := 6) (lv' := [(0, .ref (a + 1)), (1, .int (nI v)), (2, .int (nI m))]) (st' := [.int (nI m), .int (nI v)]) (H' := _) (kc' := 0) (ks' := 0) rfl ?_
  refine RP.brT rfl rfl rfl (cT_lt v m) ?_
  refine RP.blk 1 (pc' := 14) (lv' := [(0, .ref (a + 1)), (1, .int (nI v)), (2, .int (nI m))]) (st' := [.int 0]) (H' := _) (kc' := 0) (ks' := 0) rfl ?_
  exact RP.done (c := 0) (s := 0) rfl rfl rfl rfl
theorem rc_outX {sc : Nat × (Nat → Int32)} {d a : Nat} {H : aH} {x m : Int32} (h : x < 0 ∨ ¬ x < m) : RC sc d mr_264 [.ref (a + 1), .int x, .int m] H (.inl (some (.int 1))) H 0 0 := by
  refine RP.blk 1 (pc' := 1) (lv' := [(0, .ref (a + 1)), (1, .int x), (2, .int m)]) (st' := [.int x]) (H' := _) (kc' := 0) (ks' := 0) rfl ?_
  by_cases h1 : x < 0
  ·
    refine RP.brT rfl rfl rfl (decide_eq_true h1) ?_
    refine RP.blk 2 (pc' := 14) (lv' := [(0, .ref (a + 1)), (1, .int x), (2, .int m)]) (st' := [.int 1]) (H' := _) (kc' := 0) (ks' := 0) rfl ?_
    exact RP.done (c := 0) (s := 0) rfl rfl rfl rfl
  ·
    refine RP.brF rfl rfl rfl (decide_eq_false h1) ?_
    refine RP.blk 2 (pc' := 6) (lv' := [(0, .ref (a + 1)), (1, .int x), (2, .int m)]) (st' := [.int m, .int x]) (H' := _) (kc' := 0) (ks' := 0) rfl ?_
    refine RP.brF rfl rfl rfl (decide_eq_false (h.resolve_left h1)) ?_
    refine RP.blk 2 (pc' := 14) (lv' := [(0, .ref (a + 1)), (1, .int x), (2, .int m)]) (st' := [.int 1]) (H' := _) (kc' := 0) (ks' := 0) rfl ?_
    exact RP.done (c := 0) (s := 0) rfl rfl rfl rfl
theorem rc_fill_ok {sc : Nat × (Nat → Int32)} {d : Nat} {H : aH} {o a b n l v k : Nat} {f : Nat → Int8} {fs : List Value} (h : H[o]? = some (kO 11 fs)) (ht : fs[1]? = some (.ref (a + 1))) (hr : RowAt H a b n f l) (hu : fs[13]? = some (.int 1)) (hoa : o ≠ a) (hob : o ≠ b) (hn : 2000 ≤ n) (hv : v ≤ 255) (hk1 : 1 ≤ k) (hk2 : k ≤ 1000) (hk : l + k ≤ 2000) : RC sc (d + 1) mr_23 [.ref (o + 1), .int (nI v), .int (nI k)] H (.inl (some (.int (nI (l + k))))) (rowSet H a b n (fun j => if l ≤ j ∧ j < l + k then (nI v).toInt8 else f j) (l + k)) 0 0 := by
  have h3 := hr.2.2.1
  refine RP.blk 4 (pc' := 6) (lv' := [(0, .ref (o + 1)), (1, .int (nI v)), (2, .int (nI k))]) (st' := [.int 255, .int 0, .int (nI v), .ref (o + 1)]) (H' := _) (kc' := 0) (ks' := 0) rfl ?_
  refine RP.call (v := none) (st' := []) rfl rfl rfl rfl rfl rfl (args_v [.int 255, .int 0, .int (nI v)] [] rfl rfl (Nat.le_of_ble_eq_true rfl) rfl h (Nat.le_of_ble_eq_true rfl)) (rc_range (lo := 0) (hi := 255) (nI_pos (by omega)) (nI_le (b := 255) (by omega) (by decide))) ?_
  refine RP.blk 4 (pc' := 15) (lv' := [(0, .ref (o + 1)), (1, .int (nI v)), (2, .int (nI k))]) (st' := [.int 1000, .int 1, .int (nI k), .ref (o + 1)]) (H' := _) (kc' := 0) (ks' := 0) rfl ?_
  refine RP.call (v := none) (st' := []) rfl rfl rfl rfl rfl rfl (args_v [.int 1000, .int 1, .int (nI k)] [] rfl rfl (Nat.le_of_ble_eq_true rfl) rfl h (Nat.le_of_ble_eq_true rfl)) (rc_range (lo := 1) (hi := 1000) (nI_nlt (b := 1) (by omega) (by omega)) (nI_le (b := 1000) (by omega) (by decide))) ?_
  refine RP.blk 1 (pc' := 19) (lv' := [(0, .ref (o + 1)), (1, .int (nI v)), (2, .int (nI k))]) (st' := [.ref (o + 1)]) (H' := _) (kc' := 0) (ks' := 0) rfl ?_
  refine RP.call (v := none) (st' := []) rfl rfl rfl rfl rfl rfl (args_v [] [] rfl rfl (Nat.le_of_ble_eq_true rfl) rfl h (Nat.le_of_ble_eq_true rfl)) (rc_up h hu) ?_
  refine RP.blk 2 (pc' := 24) (lv' := [(0, .ref (o + 1)), (1, .int (nI v)), (2, .int (nI k))]) (st' := [.int (nI k), .ref (o + 1)]) (H' := _) (kc' := 0) (ks' := 0) rfl ?_
  refine RP.call (v := none) (st' := []) rfl rfl rfl rfl rfl rfl (args_v [.int (nI k)] [] rfl rfl (Nat.le_of_ble_eq_true rfl) rfl h (Nat.le_of_ble_eq_true rfl)) (rc_room h ht hr hk) ?_
  refine RP.blk 2 (pc' := 29) (lv' := [(3, .int 0), (0, .ref (o + 1)), (1, .int (nI v)), (2, .int (nI k))]) (st' := []) (H' := _) (kc' := 0) (ks' := 0) rfl ?_
  have start : RP sc (d + 1) mr_23 29 [(3, .int (nI 0)), (0, .ref (o + 1)), (1, .int (nI v)), (2, .int (nI k))] [] (rowSet H a b n (fun j => if l ≤ j ∧ j < l + 0 then (nI v).toInt8 else f j) (l + 0)) 0 0 (.inl (some (.int (nI (l + k)))), rowSet H a b n (fun j => if l ≤ j ∧ j < l + k then (nI v).toInt8 else f j) (l + k), 0, 0) := by
    refine RP.loop 29 (fun i => [(3, .int (nI i)), (0, .ref (o + 1)), (1, .int (nI v)), (2, .int (nI k))]) [] (fun i => rowSet H a b n (fun j => if l ≤ j ∧ j < l + i then (nI v).toInt8 else f j) (l + i)) 0 0 k (fun i hi kk => ?_) ?_
    · have ri := hr.set (fun j => if l ≤ j ∧ j < l + i then (nI v).toInt8 else f j) (l + i)
      have gi := row_other (n := n) (f := fun j => if l ≤ j ∧ j < l + i then (nI v).toInt8 else f j) (l := l + i) h hoa hob
      refine RP.blk 2 (pc' := 31) (lv' := [(3, .int (nI i)), (0, .ref (o + 1)), (1, .int (nI v)), (2, .int (nI k))]) (st' := [.int (nI k), .int (nI i)]) (H' := _) (kc' := 0) (ks' := 0) rfl ?_
      refine RP.brF rfl rfl rfl (cF_ge i k) ?_
      refine RP.blk 1 (pc' := 35) (lv' := [(3, .int (nI i)), (0, .ref (o + 1)), (1, .int (nI v)), (2, .int (nI k))]) (st' := [.ref (o + 1)]) (H' := _) (kc' := 0) (ks' := 0) rfl ?_
      refine RP.get (ci := 11) rfl gi rfl ht ?_
      refine RP.blk 1 (pc' := 39) (lv' := [(3, .int (nI i)), (0, .ref (o + 1)), (1, .int (nI v)), (2, .int (nI k))]) (st' := [.int (nI v), .ref (a + 1)]) (H' := _) (kc' := 0) (ks' := 0) rfl ?_
      refine RP.call (v := none) (st' := []) rfl rfl rfl rfl rfl rfl (args_v [.int (nI v)] [] rfl rfl (Nat.le_of_ble_eq_true rfl) rfl ri.1 (Nat.le_of_ble_eq_true rfl)) (rc_add ri (by omega)) ?_
      rw [rowSet_set h3, up_fill]
      refine RP.blk 1 (pc' := 45) (lv' := [(3, .int (nI i + 1)), (0, .ref (o + 1)), (1, .int (nI v)), (2, .int (nI k))]) (st' := []) (H' := _) (kc' := 0) (ks' := 0) rfl ?_
      rw [show (nI i + 1 : Int32) = nI (i + 1) from nI_add i 1]
      refine RP.blk 1 (pc' := 29) (lv' := [(3, .int (nI (i + 1))), (0, .ref (o + 1)), (1, .int (nI v)), (2, .int (nI k))]) (st' := []) (H' := _) (kc' := 0) (ks' := 0) rfl ?_
      exact kk
    · have ri := hr.set (fun j => if l ≤ j ∧ j < l + k then (nI v).toInt8 else f j) (l + k)
      have gi := row_other (n := n) (f := fun j => if l ≤ j ∧ j < l + k then (nI v).toInt8 else f j) (l := l + k) h hoa hob
      refine RP.blk 2 (pc' := 31) (lv' := [(3, .int (nI k)), (0, .ref (o + 1)), (1, .int (nI v)), (2, .int (nI k))]) (st' := [.int (nI k), .int (nI k)]) (H' := _) (kc' := 0) (ks' := 0) rfl ?_
      refine RP.brT rfl rfl rfl (cT_ge k k) ?_
      refine RP.blk 1 (pc' := 49) (lv' := [(3, .int (nI k)), (0, .ref (o + 1)), (1, .int (nI v)), (2, .int (nI k))]) (st' := [.ref (o + 1)]) (H' := _) (kc' := 0) (ks' := 0) rfl ?_
      refine RP.get (ci := 11) rfl gi rfl ht ?_
      refine RP.get (ci := 5) rfl ri.1 rfl rfl ?_
      exact RP.done (c := 0) (s := 0) rfl rfl rfl rfl
  rw [fill_0, Nat.add_zero l, rowSet_self hr] at start
  exact start
theorem rc_fill_full {sc : Nat × (Nat → Int32)} {d : Nat} {H : aH} {o a b n l v k : Nat} {f : Nat → Int8} {fs : List Value} (h : H[o]? = some (kO 11 fs)) (ht : fs[1]? = some (.ref (a + 1))) (hr : RowAt H a b n f l) (hu : fs[13]? = some (.int 1)) (hv : v ≤ 255) (hk1 : 1 ≤ k) (hk2 : k ≤ 1000) (hk : 2000 < l + k) (hl : l ≤ 2000) : RC sc (d + 1) mr_23 [.ref (o + 1), .int (nI v), .int (nI k)] H (.inr 2) H 1 6 := by
  refine RP.blk 4 (pc' := 6) (lv' := [(0, .ref (o + 1)), (1, .int (nI v)), (2, .int (nI k))]) (st' := [.int 255, .int 0, .int (nI v), .ref (o + 1)]) (H' := _) (kc' := 0) (ks' := 0) rfl ?_
  refine RP.call (v := none) (st' := []) rfl rfl rfl rfl rfl rfl (args_v [.int 255, .int 0, .int (nI v)] [] rfl rfl (Nat.le_of_ble_eq_true rfl) rfl h (Nat.le_of_ble_eq_true rfl)) (rc_range (lo := 0) (hi := 255) (nI_pos (by omega)) (nI_le (b := 255) (by omega) (by decide))) ?_
  refine RP.blk 4 (pc' := 15) (lv' := [(0, .ref (o + 1)), (1, .int (nI v)), (2, .int (nI k))]) (st' := [.int 1000, .int 1, .int (nI k), .ref (o + 1)]) (H' := _) (kc' := 0) (ks' := 0) rfl ?_
  refine RP.call (v := none) (st' := []) rfl rfl rfl rfl rfl rfl (args_v [.int 1000, .int 1, .int (nI k)] [] rfl rfl (Nat.le_of_ble_eq_true rfl) rfl h (Nat.le_of_ble_eq_true rfl)) (rc_range (lo := 1) (hi := 1000) (nI_nlt (b := 1) (by omega) (by omega)) (nI_le (b := 1000) (by omega) (by decide))) ?_
  refine RP.blk 1 (pc' := 19) (lv' := [(0, .ref (o + 1)), (1, .int (nI v)), (2, .int (nI k))]) (st' := [.ref (o + 1)]) (H' := _) (kc' := 0) (ks' := 0) rfl ?_
  refine RP.call (v := none) (st' := []) rfl rfl rfl rfl rfl rfl (args_v [] [] rfl rfl (Nat.le_of_ble_eq_true rfl) rfl h (Nat.le_of_ble_eq_true rfl)) (rc_up h hu) ?_
  refine RP.blk 2 (pc' := 24) (lv' := [(0, .ref (o + 1)), (1, .int (nI v)), (2, .int (nI k))]) (st' := [.int (nI k), .ref (o + 1)]) (H' := _) (kc' := 0) (ks' := 0) rfl ?_
  exact RP.callP (st' := []) rfl rfl rfl rfl rfl rfl (args_v [.int (nI k)] [] rfl rfl (Nat.le_of_ble_eq_true rfl) rfl h (Nat.le_of_ble_eq_true rfl)) (rc_noroom h ht hr hk (by omega)) rfl
theorem rc_fill_down {sc : Nat × (Nat → Int32)} {d : Nat} {H : aH} {o v k : Nat} {fs : List Value} (h : H[o]? = some (kO 11 fs)) (hu : fs[13]? = some (.int 0)) (hv : v ≤ 255) (hk1 : 1 ≤ k) (hk2 : k ≤ 1000) : RC sc (d + 1) mr_23 [.ref (o + 1), .int (nI v), .int (nI k)] H (.inr 1) H 1 6 := by
  refine RP.blk 4 (pc' := 6) (lv' := [(0, .ref (o + 1)), (1, .int (nI v)), (2, .int (nI k))]) (st' := [.int 255, .int 0, .int (nI v), .ref (o + 1)]) (H' := _) (kc' := 0) (ks' := 0) rfl ?_
  refine RP.call (v := none) (st' := []) rfl rfl rfl rfl rfl rfl (args_v [.int 255, .int 0, .int (nI v)] [] rfl rfl (Nat.le_of_ble_eq_true rfl) rfl h (Nat.le_of_ble_eq_true rfl)) (rc_range (lo := 0) (hi := 255) (nI_pos (by omega)) (nI_le (b := 255) (by omega) (by decide))) ?_
  refine RP.blk 4 (pc' := 15) (lv' := [(0, .ref (o + 1)), (1, .int (nI v)), (2, .int (nI k))]) (st' := [.int 1000, .int 1, .int (nI k), .ref (o + 1)]) (H' := _) (kc' := 0) (ks' := 0) rfl ?_
  refine RP.call (v := none) (st' := []) rfl rfl rfl rfl rfl rfl (args_v [.int 1000, .int 1, .int (nI k)] [] rfl rfl (Nat.le_of_ble_eq_true rfl) rfl h (Nat.le_of_ble_eq_true rfl)) (rc_range (lo := 1) (hi := 1000) (nI_nlt (b := 1) (by omega) (by omega)) (nI_le (b := 1000) (by omega) (by decide))) ?_
  refine RP.blk 1 (pc' := 19) (lv' := [(0, .ref (o + 1)), (1, .int (nI v)), (2, .int (nI k))]) (st' := [.ref (o + 1)]) (H' := _) (kc' := 0) (ks' := 0) rfl ?_
  exact RP.callP (st' := []) rfl rfl rfl rfl rfl rfl (args_v [] [] rfl rfl (Nat.le_of_ble_eq_true rfl) rfl h (Nat.le_of_ble_eq_true rfl)) (rc_down h hu) rfl
theorem rc_fill_bad {sc : Nat × (Nat → Int32)} {d : Nat} {H : aH} {o : Nat} {fs : List Value} {x y : Int32} (h : H[o]? = some (kO 11 fs)) (hx : (x < 0 ∨ ¬ x ≤ 255) ∨ (y < 1 ∨ ¬ y ≤ 1000)) : RC sc (d + 1) mr_23 [.ref (o + 1), .int x, .int y] H (.inr 0) H 1 6 := by
  refine RP.blk 4 (pc' := 6) (lv' := [(0, .ref (o + 1)), (1, .int x), (2, .int y)]) (st' := [.int 255, .int 0, .int x, .ref (o + 1)]) (H' := _) (kc' := 0) (ks' := 0) rfl ?_
  by_cases h1 : x < 0 ∨ ¬ x ≤ 255
  ·
    exact RP.callP (st' := []) rfl rfl rfl rfl rfl rfl (args_v [.int 255, .int 0, .int x] [] rfl rfl (Nat.le_of_ble_eq_true rfl) rfl h (Nat.le_of_ble_eq_true rfl)) (rc_rangeX h1) rfl
  ·
    refine RP.call (v := none) (st' := []) rfl rfl rfl rfl rfl rfl (args_v [.int 255, .int 0, .int x] [] rfl rfl (Nat.le_of_ble_eq_true rfl) rfl h (Nat.le_of_ble_eq_true rfl)) (rc_range (lo := 0) (hi := 255) (fun e => h1 (Or.inl e)) (Classical.not_not.mp (fun e => h1 (Or.inr e)))) ?_
    refine RP.blk 4 (pc' := 15) (lv' := [(0, .ref (o + 1)), (1, .int x), (2, .int y)]) (st' := [.int 1000, .int 1, .int y, .ref (o + 1)]) (H' := _) (kc' := 0) (ks' := 0) rfl ?_
    exact RP.callP (st' := []) rfl rfl rfl rfl rfl rfl (args_v [.int 1000, .int 1, .int y] [] rfl rfl (Nat.le_of_ble_eq_true rfl) rfl h (Nat.le_of_ble_eq_true rfl)) (rc_rangeX (hx.resolve_left h1)) rfl
theorem rc_mfill_down {sc : Nat × (Nat → Int32)} {d a v k : Nat} {H : aH} {fs : List Value} (h1 : H[a]? = some (kO 12 fs)) (h2 : fs.length = 40) (hd : fs[2]? = some (.int 1)) (hv : v ≤ 255) (hk1 : 1 ≤ k) (hk2 : k ≤ 1000) : RC sc (d + 1) mr_263 [.ref (a + 1), .int (nI v), .int (nI k)] H (.inl (some (.int 0))) (H.set a (kO 12 (fs.set 0 (.int 2)))) 0 0 := by
  refine RP.blk 2 (pc' := 2) (lv' := [(0, .ref (a + 1)), (1, .int (nI v)), (2, .int (nI k))]) (st' := [.int 0, .ref (a + 1)]) (H' := _) (kc' := 0) (ks' := 0) rfl ?_
  refine RP.put (ci := 12) rfl h1 rfl rfl (lt_len h2 (by decide)) ?_
  refine RP.blk 3 (pc' := 10) (lv' := [(0, .ref (a + 1)), (1, .int (nI v)), (2, .int (nI k))]) (st' := [.int 256, .int (nI v), .ref (a + 1)]) (H' := _) (kc' := 0) (ks' := 0) rfl ?_
  refine RP.call (v := some (.int 0)) (st' := []) rfl rfl rfl rfl rfl rfl (args_v [.int 256, .int (nI v)] [] rfl rfl (Nat.le_of_ble_eq_true rfl) rfl (get_set h1) (Nat.le_of_ble_eq_true rfl)) (rc_out (v := v) (m := 256) (by omega) (by decide)) ?_
  refine RP.brF rfl rfl rfl (by decide) ?_
  refine RP.blk 2 (pc' := 18) (lv' := [(0, .ref (a + 1)), (1, .int (nI v)), (2, .int (nI k))]) (st' := [.int 1, .int (nI k)]) (H' := _) (kc' := 0) (ks' := 0) rfl ?_
  refine RP.brF rfl rfl rfl (cF_lt k 1) ?_
  refine RP.blk 2 (pc' := 25) (lv' := [(0, .ref (a + 1)), (1, .int (nI v)), (2, .int (nI k))]) (st' := [.int 1000, .int (nI k)]) (H' := _) (kc' := 0) (ks' := 0) rfl ?_
  refine RP.brT rfl rfl rfl (cT_le k 1000) ?_
  refine RP.blk 1 (pc' := 35) (lv' := [(0, .ref (a + 1)), (1, .int (nI v)), (2, .int (nI k))]) (st' := [.ref (a + 1)]) (H' := _) (kc' := 0) (ks' := 0) rfl ?_
  refine RP.get (ci := 12) rfl (get_set h1) rfl ((fs_ne (by decide)).trans hd) ?_
  refine RP.brF rfl rfl rfl (by decide) ?_
  refine RP.blk 2 (pc' := 43) (lv' := [(0, .ref (a + 1)), (1, .int (nI v)), (2, .int (nI k))]) (st' := [.int 2, .ref (a + 1)]) (H' := _) (kc' := 0) (ks' := 0) rfl ?_
  refine RP.call (v := some (.int 0)) (st' := []) rfl rfl rfl rfl rfl rfl (args_v [.int 2] [] rfl rfl (Nat.le_of_ble_eq_true rfl) rfl (get_set h1) (Nat.le_of_ble_eq_true rfl)) (rc_mfail (get_set h1) (len_set h2)) ?_
  rw [set_set, List.set_set]
  exact RP.done (c := 0) (s := 0) rfl rfl rfl rfl
theorem rc_mfill_full {sc : Nat × (Nat → Int32)} {d a t v k : Nat} {H : aH} {fs : List Value} (h1 : H[a]? = some (kO 12 fs)) (h2 : fs.length = 40) (hd : fs[2]? = some (.int 0)) (h4 : fs[6]? = some (.int (nI t))) (hv : v ≤ 255) (hk1 : 1 ≤ k) (hk2 : k ≤ 1000) (hk : 2000 < t + k) (ht : t ≤ 2000) : RC sc (d + 1) mr_263 [.ref (a + 1), .int (nI v), .int (nI k)] H (.inl (some (.int 0))) (H.set a (kO 12 (fs.set 0 (.int 3)))) 0 0 := by
  refine RP.blk 2 (pc' := 2) (lv' := [(0, .ref (a + 1)), (1, .int (nI v)), (2, .int (nI k))]) (st' := [.int 0, .ref (a + 1)]) (H' := _) (kc' := 0) (ks' := 0) rfl ?_
  refine RP.put (ci := 12) rfl h1 rfl rfl (lt_len h2 (by decide)) ?_
  refine RP.blk 3 (pc' := 10) (lv' := [(0, .ref (a + 1)), (1, .int (nI v)), (2, .int (nI k))]) (st' := [.int 256, .int (nI v), .ref (a + 1)]) (H' := _) (kc' := 0) (ks' := 0) rfl ?_
  refine RP.call (v := some (.int 0)) (st' := []) rfl rfl rfl rfl rfl rfl (args_v [.int 256, .int (nI v)] [] rfl rfl (Nat.le_of_ble_eq_true rfl) rfl (get_set h1) (Nat.le_of_ble_eq_true rfl)) (rc_out (v := v) (m := 256) (by omega) (by decide)) ?_
  refine RP.brF rfl rfl rfl (by decide) ?_
  refine RP.blk 2 (pc' := 18) (lv' := [(0, .ref (a + 1)), (1, .int (nI v)), (2, .int (nI k))]) (st' := [.int 1, .int (nI k)]) (H' := _) (kc' := 0) (ks' := 0) rfl ?_
  refine RP.brF rfl rfl rfl (cF_lt k 1) ?_
  refine RP.blk 2 (pc' := 25) (lv' := [(0, .ref (a + 1)), (1, .int (nI v)), (2, .int (nI k))]) (st' := [.int 1000, .int (nI k)]) (H' := _) (kc' := 0) (ks' := 0) rfl ?_
  refine RP.brT rfl rfl rfl (cT_le k 1000) ?_
  refine RP.blk 1 (pc' := 35) (lv' := [(0, .ref (a + 1)), (1, .int (nI v)), (2, .int (nI k))]) (st' := [.ref (a + 1)]) (H' := _) (kc' := 0) (ks' := 0) rfl ?_
  refine RP.get (ci := 12) rfl (get_set h1) rfl ((fs_ne (by decide)).trans hd) ?_
  refine RP.brT rfl rfl rfl (by decide) ?_
  refine RP.blk 1 (pc' := 48) (lv' := [(0, .ref (a + 1)), (1, .int (nI v)), (2, .int (nI k))]) (st' := [.ref (a + 1)]) (H' := _) (kc' := 0) (ks' := 0) rfl ?_
  refine RP.get (ci := 12) rfl (get_set h1) rfl ((fs_ne (by decide)).trans h4) ?_
  refine RP.blk 2 (pc' := 53) (lv' := [(0, .ref (a + 1)), (1, .int (nI v)), (2, .int (nI k))]) (st' := [.int (nI t + nI k)]) (H' := _) (kc' := 0) (ks' := 0) rfl ?_
  rw [show (nI t + nI k : Int32) = nI (t + k) from nI_add t k]
  refine RP.blk 1 (pc' := 56) (lv' := [(0, .ref (a + 1)), (1, .int (nI v)), (2, .int (nI k))]) (st' := [.int 2000, .int (nI (t + k))]) (H' := _) (kc' := 0) (ks' := 0) rfl ?_
  refine RP.brF rfl rfl rfl (cF_le (t + k) 2000) ?_
  refine RP.blk 2 (pc' := 61) (lv' := [(0, .ref (a + 1)), (1, .int (nI v)), (2, .int (nI k))]) (st' := [.int 3, .ref (a + 1)]) (H' := _) (kc' := 0) (ks' := 0) rfl ?_
  refine RP.call (v := some (.int 0)) (st' := []) rfl rfl rfl rfl rfl rfl (args_v [.int 3] [] rfl rfl (Nat.le_of_ble_eq_true rfl) rfl (get_set h1) (Nat.le_of_ble_eq_true rfl)) (rc_mfail (get_set h1) (len_set h2)) ?_
  rw [set_set, List.set_set]
  exact RP.done (c := 0) (s := 0) rfl rfl rfl rfl
theorem rc_mfill_bad {sc : Nat × (Nat → Int32)} {d a : Nat} {H : aH} {fs : List Value} {x y : Int32} (h1 : H[a]? = some (kO 12 fs)) (h2 : fs.length = 40) (hx : (x < 0 ∨ ¬ x ≤ 255) ∨ (y < 1 ∨ ¬ y ≤ 1000)) : RC sc (d + 1) mr_263 [.ref (a + 1), .int x, .int y] H (.inl (some (.int 0))) (H.set a (kO 12 (fs.set 0 (.int 1)))) 0 0 := by
  have fin : RP sc (d + 1) mr_263 28 [(0, .ref (a + 1)), (1, .int x), (2, .int y)] [] (H.set a (kO 12 (fs.set 0 (.int 0)))) 0 0 (.inl (some (.int 0)), H.set a (kO 12 (fs.set 0 (.int 1))), 0, 0) := by
    refine RP.blk 2 (pc' := 30) (lv' := [(0, .ref (a + 1)), (1, .int x), (2, .int y)]) (st' := [.int 1, .ref (a + 1)]) (H' := _) (kc' := 0) (ks' := 0) rfl ?_
    refine RP.call (v := some (.int 0)) (st' := []) rfl rfl rfl rfl rfl rfl (args_v [.int 1] [] rfl rfl (Nat.le_of_ble_eq_true rfl) rfl (get_set h1) (Nat.le_of_ble_eq_true rfl)) (rc_mfail (get_set h1) (len_set h2)) ?_
    rw [set_set, List.set_set]
    exact RP.done (c := 0) (s := 0) rfl rfl rfl rfl
  refine RP.blk 2 (pc' := 2) (lv' := [(0, .ref (a + 1)), (1, .int x), (2, .int y)]) (st' := [.int 0, .ref (a + 1)]) (H' := _) (kc' := 0) (ks' := 0) rfl ?_
  refine RP.put (ci := 12) rfl h1 rfl rfl (lt_len h2 (by decide)) ?_
  refine RP.blk 3 (pc' := 10) (lv' := [(0, .ref (a + 1)), (1, .int x), (2, .int y)]) (st' := [.int 256, .int x, .ref (a + 1)]) (H' := _) (kc' := 0) (ks' := 0) rfl ?_
  by_cases h5 : x < 0 ∨ ¬ x ≤ 255
  ·
    refine RP.call (v := some (.int 1)) (st' := []) rfl rfl rfl rfl rfl rfl (args_v [.int 256, .int x] [] rfl rfl (Nat.le_of_ble_eq_true rfl) rfl (get_set h1) (Nat.le_of_ble_eq_true rfl)) (rc_outX (m := 256) (h5.imp_right (fun e g => e ((le_pred (n := 255) (by decide)).mpr g)))) ?_
    refine RP.brT rfl rfl rfl (by decide) ?_
    exact fin
  · obtain ⟨v, hv, rfl⟩ := nI_of2 (M := 255) (n := 255) rfl (fun e => h5 (Or.inl e)) (Classical.not_not.mp (fun e => h5 (Or.inr e)))
    refine RP.call (v := some (.int 0)) (st' := []) rfl rfl rfl rfl rfl rfl (args_v [.int 256, .int (nI v)] [] rfl rfl (Nat.le_of_ble_eq_true rfl) rfl (get_set h1) (Nat.le_of_ble_eq_true rfl)) (rc_out (v := v) (m := 256) (by omega) (by decide)) ?_
    refine RP.brF rfl rfl rfl (by decide) ?_
    refine RP.blk 2 (pc' := 18) (lv' := [(0, .ref (a + 1)), (1, .int (nI v)), (2, .int y)]) (st' := [.int 1, .int y]) (H' := _) (kc' := 0) (ks' := 0) rfl ?_
    by_cases h6 : y < 1
    ·
      refine RP.brT rfl rfl rfl (decide_eq_true h6) ?_
      exact fin
    ·
      refine RP.brF rfl rfl rfl (decide_eq_false h6) ?_
      refine RP.blk 2 (pc' := 25) (lv' := [(0, .ref (a + 1)), (1, .int (nI v)), (2, .int y)]) (st' := [.int 1000, .int y]) (H' := _) (kc' := 0) (ks' := 0) rfl ?_
      refine RP.brF rfl rfl rfl (decide_eq_false ((hx.resolve_left h5).resolve_left h6)) ?_
      exact fin
theorem rc_mfill_ok {sc : Nat × (Nat → Int32)} {d a b n t v k : Nat} {H : aH} {f : Nat → Int8} {fs : List Value} (hm : ModAt H a b n f fs t) (hd : fs[2]? = some (.int 0)) (hn : 2000 ≤ n) (hv : v ≤ 255) (hk1 : 1 ≤ k) (hk2 : k ≤ 1000) (hk : t + k ≤ 2000) : RC sc (d + 1) mr_263 [.ref (a + 1), .int (nI v), .int (nI k)] H (.inl (some (.int (nI (t + k))))) (modSet H a b n (fun j => if t ≤ j ∧ j < t + k then (nI v).toInt8 else f j) (fs.set 0 (.int 0)) (t + k)) 0 0 := by
  obtain ⟨h1, h2, h3, h4, h5, h6, h7⟩ := hm
  refine RP.blk 2 (pc' := 2) (lv' := [(0, .ref (a + 1)), (1, .int (nI v)), (2, .int (nI k))]) (st' := [.int 0, .ref (a + 1)]) (H' := _) (kc' := 0) (ks' := 0) rfl ?_
  refine RP.put (ci := 12) rfl h1 rfl rfl (lt_len h2 (by decide)) ?_
  refine RP.blk 3 (pc' := 10) (lv' := [(0, .ref (a + 1)), (1, .int (nI v)), (2, .int (nI k))]) (st' := [.int 256, .int (nI v), .ref (a + 1)]) (H' := _) (kc' := 0) (ks' := 0) rfl ?_
  refine RP.call (v := some (.int 0)) (st' := []) rfl rfl rfl rfl rfl rfl (args_v [.int 256, .int (nI v)] [] rfl rfl (Nat.le_of_ble_eq_true rfl) rfl (get_set h1) (Nat.le_of_ble_eq_true rfl)) (rc_out (v := v) (m := 256) (by omega) (by decide)) ?_
  refine RP.brF rfl rfl rfl (by decide) ?_
  refine RP.blk 2 (pc' := 18) (lv' := [(0, .ref (a + 1)), (1, .int (nI v)), (2, .int (nI k))]) (st' := [.int 1, .int (nI k)]) (H' := _) (kc' := 0) (ks' := 0) rfl ?_
  refine RP.brF rfl rfl rfl (cF_lt k 1) ?_
  refine RP.blk 2 (pc' := 25) (lv' := [(0, .ref (a + 1)), (1, .int (nI v)), (2, .int (nI k))]) (st' := [.int 1000, .int (nI k)]) (H' := _) (kc' := 0) (ks' := 0) rfl ?_
  refine RP.brT rfl rfl rfl (cT_le k 1000) ?_
  refine RP.blk 1 (pc' := 35) (lv' := [(0, .ref (a + 1)), (1, .int (nI v)), (2, .int (nI k))]) (st' := [.ref (a + 1)]) (H' := _) (kc' := 0) (ks' := 0) rfl ?_
  refine RP.get (ci := 12) rfl (get_set h1) rfl ((fs_ne (by decide)).trans hd) ?_
  refine RP.brT rfl rfl rfl (by decide) ?_
  refine RP.blk 1 (pc' := 48) (lv' := [(0, .ref (a + 1)), (1, .int (nI v)), (2, .int (nI k))]) (st' := [.ref (a + 1)]) (H' := _) (kc' := 0) (ks' := 0) rfl ?_
  refine RP.get (ci := 12) rfl (get_set h1) rfl ((fs_ne (by decide)).trans h4) ?_
  refine RP.blk 2 (pc' := 53) (lv' := [(0, .ref (a + 1)), (1, .int (nI v)), (2, .int (nI k))]) (st' := [.int (nI t + nI k)]) (H' := _) (kc' := 0) (ks' := 0) rfl ?_
  rw [show (nI t + nI k : Int32) = nI (t + k) from nI_add t k]
  refine RP.blk 1 (pc' := 56) (lv' := [(0, .ref (a + 1)), (1, .int (nI v)), (2, .int (nI k))]) (st' := [.int 2000, .int (nI (t + k))]) (H' := _) (kc' := 0) (ks' := 0) rfl ?_
  refine RP.brT rfl rfl rfl (cT_le (t + k) 2000) ?_
  refine RP.blk 2 (pc' := 67) (lv' := [(3, .int 0), (0, .ref (a + 1)), (1, .int (nI v)), (2, .int (nI k))]) (st' := []) (H' := _) (kc' := 0) (ks' := 0) rfl ?_
  have g5 : (H.set a (kO 12 (fs.set 0 (.int 0))))[b]? = some (kB n f) := (set_far h6).trans h5
  have start : RP sc (d + 1) mr_263 67 [(3, .int (nI 0)), (0, .ref (a + 1)), (1, .int (nI v)), (2, .int (nI k))] [] ((H.set a (kO 12 (fs.set 0 (.int 0)))).set b (kB n (fun j => if t ≤ j ∧ j < t + 0 then (nI v).toInt8 else f j))) 0 0 (.inl (some (.int (nI (t + k)))), modSet H a b n (fun j => if t ≤ j ∧ j < t + k then (nI v).toInt8 else f j) (fs.set 0 (.int 0)) (t + k), 0, 0) := by
    refine RP.loop 67 (fun i => [(3, .int (nI i)), (0, .ref (a + 1)), (1, .int (nI v)), (2, .int (nI k))]) [] (fun i => (H.set a (kO 12 (fs.set 0 (.int 0)))).set b (kB n (fun j => if t ≤ j ∧ j < t + i then (nI v).toInt8 else f j))) 0 0 k (fun i hi kk => ?_) ?_
    ·
      refine RP.blk 2 (pc' := 69) (lv' := [(3, .int (nI i)), (0, .ref (a + 1)), (1, .int (nI v)), (2, .int (nI k))]) (st' := [.int (nI k), .int (nI i)]) (H' := _) (kc' := 0) (ks' := 0) rfl ?_
      refine RP.brF rfl rfl rfl (cF_ge i k) ?_
      refine RP.blk 1 (pc' := 73) (lv' := [(3, .int (nI i)), (0, .ref (a + 1)), (1, .int (nI v)), (2, .int (nI k))]) (st' := [.ref (a + 1)]) (H' := _) (kc' := 0) (ks' := 0) rfl ?_
      refine RP.get (ci := 12) rfl ((set_far (Ne.symm h6)).trans (get_set h1)) rfl ((fs_ne (by decide)).trans h3) ?_
      refine RP.blk 1 (pc' := 77) (lv' := [(3, .int (nI i)), (0, .ref (a + 1)), (1, .int (nI v)), (2, .int (nI k))]) (st' := [.ref (a + 1), .ref (b + 1)]) (H' := _) (kc' := 0) (ks' := 0) rfl ?_
      refine RP.get (ci := 12) rfl ((set_far (Ne.symm h6)).trans (get_set h1)) rfl ((fs_ne (by decide)).trans h4) ?_
      refine RP.blk 2 (pc' := 82) (lv' := [(3, .int (nI i)), (0, .ref (a + 1)), (1, .int (nI v)), (2, .int (nI k))]) (st' := [.int (nI t + nI i), .ref (b + 1)]) (H' := _) (kc' := 0) (ks' := 0) rfl ?_
      rw [show (nI t + nI i : Int32) = nI (t + i) from nI_add t i]
      refine RP.blk 2 (pc' := 84) (lv' := [(3, .int (nI i)), (0, .ref (a + 1)), (1, .int (nI v)), (2, .int (nI k))]) (st' := [.int ((nI v).toInt8.toInt32), .int (nI (t + i)), .ref (b + 1)]) (H' := _) (kc' := 0) (ks' := 0) rfl ?_
      refine RP.bastN (j := t + i) rfl (get_set g5) (by omega) h7 ?_
      rw [set_set, Int8.toInt8_toInt32, up_fill]
      refine RP.blk 1 (pc' := 88) (lv' := [(3, .int (nI i + 1)), (0, .ref (a + 1)), (1, .int (nI v)), (2, .int (nI k))]) (st' := []) (H' := _) (kc' := 0) (ks' := 0) rfl ?_
      rw [show (nI i + 1 : Int32) = nI (i + 1) from nI_add i 1]
      refine RP.blk 1 (pc' := 67) (lv' := [(3, .int (nI (i + 1))), (0, .ref (a + 1)), (1, .int (nI v)), (2, .int (nI k))]) (st' := []) (H' := _) (kc' := 0) (ks' := 0) rfl ?_
      exact kk
    ·
      refine RP.blk 2 (pc' := 69) (lv' := [(3, .int (nI k)), (0, .ref (a + 1)), (1, .int (nI v)), (2, .int (nI k))]) (st' := [.int (nI k), .int (nI k)]) (H' := _) (kc' := 0) (ks' := 0) rfl ?_
      refine RP.brT rfl rfl rfl (cT_ge k k) ?_
      refine RP.blk 2 (pc' := 93) (lv' := [(3, .int (nI k)), (0, .ref (a + 1)), (1, .int (nI v)), (2, .int (nI k))]) (st' := [.ref (a + 1), .ref (a + 1)]) (H' := _) (kc' := 0) (ks' := 0) rfl ?_
      refine RP.get (ci := 12) rfl ((set_far (Ne.symm h6)).trans (get_set h1)) rfl ((fs_ne (by decide)).trans h4) ?_
      refine RP.blk 2 (pc' := 98) (lv' := [(3, .int (nI k)), (0, .ref (a + 1)), (1, .int (nI v)), (2, .int (nI k))]) (st' := [.int (nI t + nI k), .ref (a + 1)]) (H' := _) (kc' := 0) (ks' := 0) rfl ?_
      rw [show (nI t + nI k : Int32) = nI (t + k) from nI_add t k]
      refine RP.put (ci := 12) rfl ((set_far (Ne.symm h6)).trans (get_set h1)) rfl rfl (lt_len (len_set h2) (by decide)) ?_
      have e : (((H.set a (kO 12 (fs.set 0 (.int 0)))).set b (kB n (fun j => if t ≤ j ∧ j < t + k then (nI v).toInt8 else f j))).set a (kO 12 ((fs.set 0 (.int 0)).set 6 (.int (nI (t + k)))))) = modSet H a b n (fun j => if t ≤ j ∧ j < t + k then (nI v).toInt8 else f j) (fs.set 0 (.int 0)) (t + k) := by
        unfold modSet
        rw [List.set_comm _ _ (Ne.symm h6), List.set_set]
      rw [e]
      refine RP.blk 1 (pc' := 102) (lv' := [(3, .int (nI k)), (0, .ref (a + 1)), (1, .int (nI v)), (2, .int (nI k))]) (st' := [.ref (a + 1)]) (H' := _) (kc' := 0) (ks' := 0) rfl ?_
      refine RP.get (ci := 12) rfl (get_set (c := kO 12 fs) (show (H.set b (kB n (fun j => if t ≤ j ∧ j < t + k then (nI v).toInt8 else f j)))[a]? = _ from (set_far (Ne.symm h6)).trans h1)) rfl (fs_eq (lt_len (len_set h2) (by decide))) ?_
      exact RP.done (c := 0) (s := 0) rfl rfl rfl rfl
  rw [fill_0, set_self g5] at start
  exact start
theorem step_fill_bad {L i : Nat} {xs : Nat → Int32} {kc ks n : Nat} {H : aH} {f0 fs : List Value} {f : Nat → Int8} {r : tO × aH × Nat × Nat} (hL : L < 2 ^ 30) (h : i + 6 ≤ L) (h0 : H[0]? = some (kO 11 f0)) (hm : H[195]? = some (kO 12 fs)) (hl : fs.length = 40) (hx : (xs (i + 1) < 0 ∨ ¬ xs (i + 1) ≤ 255) ∨ (xs (i + 2) < 1 ∨ ¬ xs (i + 2) ≤ 1000))
    (k : RP (L, xs) 2000 mr_law 33 [(4, .int (nI (i + 6))), (3, .ref 225), (2, .ref 196), (1, .ref 1), (0, .ref 0)] [] (H.set 195 (kO 12 (fs.set 0 (.int 1)))) (kc + 1) (ks + 6) r) : RP (L, xs) 2000 mr_law 280 [(4, .int (nI i)), (3, .ref 225), (2, .ref 196), (1, .ref 1), (0, .ref 0)] [] H kc ks r := by
  refine law_op1 (c1 := 1) (s1 := 6) (c2 := 0) (s2 := 0) hL h (rc_w1X0 h0 (rc_fill_bad (o := 0) h0 hx)) hm (rc_mfill_bad hm hl hx) ?_
  exact tailX_1 (fs := fs.set 0 (.int 1)) (get_set hm) (fs_eq (lt_len hl (by decide))) (by decide) k
theorem step_fill_down {L i : Nat} {xs : Nat → Int32} {kc ks n v m : Nat} {H : aH} {f0 fs : List Value} {f : Nat → Int8} {r : tO × aH × Nat × Nat} (hL : L < 2 ^ 30) (h : i + 6 ≤ L) (h0 : H[0]? = some (kO 11 f0)) (hu : f0[13]? = some (.int 0)) (hm : H[195]? = some (kO 12 fs)) (hl : fs.length = 40) (hd : fs[2]? = some (.int 1)) (e1 : xs (i + 1) = nI v) (e2 : xs (i + 2) = nI m) (hv : v ≤ 255) (hk1 : 1 ≤ m) (hk2 : m ≤ 1000)
    (k : RP (L, xs) 2000 mr_law 33 [(4, .int (nI (i + 6))), (3, .ref 225), (2, .ref 196), (1, .ref 1), (0, .ref 0)] [] (H.set 195 (kO 12 (fs.set 0 (.int 2)))) (kc + 1) (ks + 6) r) : RP (L, xs) 2000 mr_law 280 [(4, .int (nI i)), (3, .ref 225), (2, .ref 196), (1, .ref 1), (0, .ref 0)] [] H kc ks r := by
  refine law_op1 (c1 := 1) (s1 := 6) (c2 := 0) (s2 := 0) (kk := 2) (v := 0) (H1 := H) (H2 := H.set 195 (kO 12 (fs.set 0 (.int 2)))) hL h ?_ hm ?_ ?_
  · rw [e1, e2]; exact rc_w1X1 h0 (rc_fill_down (o := 0) h0 hu hv hk1 hk2)
  · rw [e1, e2]; exact rc_mfill_down hm hl hd hv hk1 hk2
  · exact tailX_1 (fs := fs.set 0 (.int 2)) (get_set hm) (fs_eq (lt_len hl (by decide))) (by decide) k
theorem step_fill_full {L i : Nat} {xs : Nat → Int32} {kc ks n v m b l : Nat} {H : aH} {f0 fs : List Value} {f : Nat → Int8} {r : tO × aH × Nat × Nat} (hL : L < 2 ^ 30) (h : i + 6 ≤ L) (h0 : H[0]? = some (kO 11 f0)) (hu : f0[13]? = some (.int 1)) (ht : f0[1]? = some (.ref 2)) (hr : RowAt H 1 b n f l) (hm : H[195]? = some (kO 12 fs)) (hl : fs.length = 40) (hd : fs[2]? = some (.int 0)) (hmt : fs[6]? = some (.int (nI l))) (e1 : xs (i + 1) = nI v) (e2 : xs (i + 2) = nI m) (hv : v ≤ 255) (hk1 : 1 ≤ m) (hk2 : m ≤ 1000) (hk : 2000 < l + m) (hlb : l ≤ 2000)
    (k : RP (L, xs) 2000 mr_law 33 [(4, .int (nI (i + 6))), (3, .ref 225), (2, .ref 196), (1, .ref 1), (0, .ref 0)] [] (H.set 195 (kO 12 (fs.set 0 (.int 3)))) (kc + 1) (ks + 6) r) : RP (L, xs) 2000 mr_law 280 [(4, .int (nI i)), (3, .ref 225), (2, .ref 196), (1, .ref 1), (0, .ref 0)] [] H kc ks r := by
  refine law_op1 (c1 := 1) (s1 := 6) (c2 := 0) (s2 := 0) (kk := 3) (v := 0) (H1 := H) (H2 := H.set 195 (kO 12 (fs.set 0 (.int 3)))) hL h ?_ hm ?_ ?_
  · rw [e1, e2]; exact rc_w1X2 h0 (rc_fill_full (o := 0) (a := 1) h0 ht hr hu hv hk1 hk2 hk hlb)
  · rw [e1, e2]; exact rc_mfill_full hm hl hd hmt hv hk1 hk2 hk hlb
  · exact tailX_1 (fs := fs.set 0 (.int 3)) (get_set hm) (fs_eq (lt_len hl (by decide))) (by decide) k
theorem step_fill_ok {L i : Nat} {xs : Nat → Int32} {kc ks n v m b l c n2 : Nat} {H : aH} {f0 fs : List Value} {f g : Nat → Int8} {e : Nat → Int64} {r : tO × aH × Nat × Nat} (hL : L < 2 ^ 30) (h : i + 6 ≤ L) (h0 : H[0]? = some (kO 11 f0)) (hu : f0[13]? = some (.int 1)) (ht : f0[1]? = some (.ref 2)) (hr : RowAt H 1 b n f l) (hb0 : b ≠ 0) (hb5 : b ≠ 195) (hb4 : b ≠ 224) (hbc : c ≠ b) (hn : 2000 ≤ n) (hm : ModAt H 195 c n2 g fs l) (hc1 : c ≠ 1) (hc4 : c ≠ 224) (hn2 : 2000 ≤ n2) (hd : fs[2]? = some (.int 0)) (h224 : H[224]? = some (kJ 1 e)) (e1 : xs (i + 1) = nI v) (e2 : xs (i + 2) = nI m) (hv : v ≤ 255) (hk1 : 1 ≤ m) (hk2 : m ≤ 1000) (hk : l + m ≤ 2000)
    (k : RP (L, xs) 2000 mr_law 33 [(4, .int (nI (i + 6))), (3, .ref 225), (2, .ref 196), (1, .ref 1), (0, .ref 0)] [] (modSet ((rowSet H 1 b n (fun j => if l ≤ j ∧ j < l + m then (nI v).toInt8 else f j) (l + m)).set 224 (kJ 1 (va_up e 0 (nI (l + m)).toInt64))) 195 c n2 (fun j => if l ≤ j ∧ j < l + m then (nI v).toInt8 else g j) (fs.set 0 (.int 0)) (l + m)) kc ks r) : RP (L, xs) 2000 mr_law 280 [(4, .int (nI i)), (3, .ref 225), (2, .ref 196), (1, .ref 1), (0, .ref 0)] [] H kc ks r := by
  have q224 : (rowSet H 1 b n (fun j => if l ≤ j ∧ j < l + m then (nI v).toInt8 else f j) (l + m))[224]? = some (kJ 1 e) := (row_far (by decide) (Ne.symm hb4)).trans h224
  have hm2 : ModAt ((rowSet H 1 b n (fun j => if l ≤ j ∧ j < l + m then (nI v).toInt8 else f j) (l + m)).set 224 (kJ 1 (va_up e 0 (nI (l + m)).toInt64))) 195 c n2 g fs l := by
    obtain ⟨m1, m2, m3, m4, m5, m6, m7⟩ := hm
    exact ⟨((set_far (by decide)).trans (row_far (by decide) (Ne.symm hb5))).trans m1, m2, m3, m4, ((set_far hc4).trans (row_far hc1 hbc)).trans m5, m6, m7⟩
  refine law_op1 (c1 := 0) (s1 := 0) (c2 := 0) (s2 := 0) (kk := 0) (v := nI (l + m)) (H1 := ((rowSet H 1 b n (fun j => if l ≤ j ∧ j < l + m then (nI v).toInt8 else f j) (l + m)).set 224 (kJ 1 (va_up e 0 (nI (l + m)).toInt64)))) (H2 := (modSet ((rowSet H 1 b n (fun j => if l ≤ j ∧ j < l + m then (nI v).toInt8 else f j) (l + m)).set 224 (kJ 1 (va_up e 0 (nI (l + m)).toInt64))) 195 c n2 (fun j => if l ≤ j ∧ j < l + m then (nI v).toInt8 else g j) (fs.set 0 (.int 0)) (l + m))) hL h ?_ hm2.1 ?_ ?_
  · rw [e1, e2]; exact rc_w1 h0 (rc_fill_ok (o := 0) (a := 1) h0 ht hr hu (by decide) (Ne.symm hb0) hn hv hk1 hk2 hk) q224
  · rw [e1, e2]; exact rc_mfill_ok hm2 hd hn2 hv hk1 hk2 hk
  · refine tail_1 (fs := (fs.set 0 (.int 0)).set 6 (.int (nI (l + m)))) (f := va_up e 0 (nI (l + m)).toInt64) ?_ ((fs_ne (by decide)).trans (fs_eq (lt_len hm.2.1 (by decide)))) ?_ rfl k
    · exact get_set (c := kO 12 fs) ((set_far (Ne.symm hm.2.2.2.2.2.1)).trans hm2.1)
    · exact ((set_far (by decide)).trans (set_far (Ne.symm hc4))).trans (get_set q224)
