/-! ===== count: moment, up, open, limit, tape, result, cut; class and reference; written by wip/gen/count.py ===== -/
theorem rc_count0 {sc : Nat × (Nat → Int32)} {d : Nat} {H : aH} {bl pr cw cl cp cb : Int32} (h0 : H[0]? = some (kO 11 (fvs bl pr 1 cw cl cp cb))) : RC sc (d + 1) mr_196 [.ref 1, .int (nI 0)] H (.inl (some (.int pr))) H 0 0 := by
  refine RP.blk 4 (pc' := 5) (lv' := [(0, .ref 1), (1, .int (nI 0))]) (st' := [.int 9, .int 0, .int (nI 0), .ref 1]) (H' := _) (kc' := 0) (ks' := 0) rfl ?_
  refine RP.call (v := none) (st' := []) rfl rfl rfl rfl rfl rfl (args_v [.int 9, .int 0, .int (nI 0)] [] rfl rfl (Nat.le_of_ble_eq_true rfl) rfl h0 (Nat.le_of_ble_eq_true rfl)) (rc_range (lo := 0) (hi := 9) (nI_pos (by decide)) (nI_le (b := 9) (by decide) (by decide))) ?_
  refine RP.blk 1 (pc' := 9) (lv' := [(0, .ref 1), (1, .int (nI 0))]) (st' := [.int (nI 0)]) (H' := _) (kc' := 0) (ks' := 0) rfl ?_
  refine RP.brT rfl rfl rfl (cT_eq 0 0) ?_
  refine RP.blk 1 (pc' := 29) (lv' := [(0, .ref 1), (1, .int (nI 0))]) (st' := [.ref 1]) (H' := _) (kc' := 0) (ks' := 0) rfl ?_
  refine RP.call (v := none) (st' := []) rfl rfl rfl rfl rfl rfl (args_v [] [] rfl rfl (Nat.le_of_ble_eq_true rfl) rfl h0 (Nat.le_of_ble_eq_true rfl)) (rc_up h0 rfl) ?_
  refine RP.blk 1 (pc' := 33) (lv' := [(0, .ref 1), (1, .int (nI 0))]) (st' := [.int (nI 0)]) (H' := _) (kc' := 0) (ks' := 0) rfl ?_
  refine RP.blk 1 (pc' := 84) (lv' := [(0, .ref 1), (1, .int (nI 0))]) (st' := []) (H' := _) (kc' := 0) (ks' := 0) rfl ?_
  refine RP.blk 1 (pc' := 85) (lv' := [(0, .ref 1), (1, .int (nI 0))]) (st' := [.ref 1]) (H' := _) (kc' := 0) (ks' := 0) rfl ?_
  refine RP.get (ci := 11) rfl h0 rfl rfl ?_
  exact RP.done (c := 0) (s := 0) rfl rfl rfl rfl
theorem rc_count1_0 {sc : Nat × (Nat → Int32)} {d : Nat} {H : aH} {bl pr cw cl cp cb : Int32} (h0 : H[0]? = some (kO 11 (fvs bl pr 0 cw cl cp cb))) : RC sc (d + 1) mr_196 [.ref 1, .int (nI 1)] H (.inl (some (.int 0))) H 0 0 := by
  refine RP.blk 4 (pc' := 5) (lv' := [(0, .ref 1), (1, .int (nI 1))]) (st' := [.int 9, .int 0, .int (nI 1), .ref 1]) (H' := _) (kc' := 0) (ks' := 0) rfl ?_
  refine RP.call (v := none) (st' := []) rfl rfl rfl rfl rfl rfl (args_v [.int 9, .int 0, .int (nI 1)] [] rfl rfl (Nat.le_of_ble_eq_true rfl) rfl h0 (Nat.le_of_ble_eq_true rfl)) (rc_range (lo := 0) (hi := 9) (nI_pos (by decide)) (nI_le (b := 9) (by decide) (by decide))) ?_
  refine RP.blk 1 (pc' := 9) (lv' := [(0, .ref 1), (1, .int (nI 1))]) (st' := [.int (nI 1)]) (H' := _) (kc' := 0) (ks' := 0) rfl ?_
  refine RP.brF rfl rfl rfl (cF_eq 1 0) ?_
  refine RP.blk 2 (pc' := 14) (lv' := [(0, .ref 1), (1, .int (nI 1))]) (st' := [.int 3, .int (nI 1)]) (H' := _) (kc' := 0) (ks' := 0) rfl ?_
  refine RP.brF rfl rfl rfl (cF_eq 1 3) ?_
  refine RP.blk 2 (pc' := 19) (lv' := [(0, .ref 1), (1, .int (nI 1))]) (st' := [.int 5, .int (nI 1)]) (H' := _) (kc' := 0) (ks' := 0) rfl ?_
  refine RP.brF rfl rfl rfl (cF_eq 1 5) ?_
  refine RP.blk 2 (pc' := 25) (lv' := [(0, .ref 1), (1, .int (nI 1))]) (st' := [.int 6, .int (nI 1)]) (H' := _) (kc' := 0) (ks' := 0) rfl ?_
  refine RP.brT rfl rfl rfl (cT_ne 1 6) ?_
  refine RP.blk 1 (pc' := 33) (lv' := [(0, .ref 1), (1, .int (nI 1))]) (st' := [.int (nI 1)]) (H' := _) (kc' := 0) (ks' := 0) rfl ?_
  refine RP.blk 1 (pc' := 89) (lv' := [(0, .ref 1), (1, .int (nI 1))]) (st' := []) (H' := _) (kc' := 0) (ks' := 0) rfl ?_
  refine RP.blk 1 (pc' := 90) (lv' := [(0, .ref 1), (1, .int (nI 1))]) (st' := [.ref 1]) (H' := _) (kc' := 0) (ks' := 0) rfl ?_
  refine RP.get (ci := 11) rfl h0 rfl rfl ?_
  refine RP.brT rfl rfl rfl (by decide) ?_
  refine RP.blk 1 (pc' := 101) (lv' := [(0, .ref 1), (1, .int (nI 1))]) (st' := [.int 0]) (H' := _) (kc' := 0) (ks' := 0) rfl ?_
  exact RP.done (c := 0) (s := 0) rfl rfl rfl rfl
theorem rc_count9_0 {sc : Nat × (Nat → Int32)} {d : Nat} {H : aH} {bl pr up cl cp cb : Int32} (h0 : H[0]? = some (kO 11 (fvs bl pr up 0 cl cp cb))) : RC sc (d + 1) mr_196 [.ref 1, .int (nI 9)] H (.inl (some (.int 0))) H 0 0 := by
  refine RP.blk 4 (pc' := 5) (lv' := [(0, .ref 1), (1, .int (nI 9))]) (st' := [.int 9, .int 0, .int (nI 9), .ref 1]) (H' := _) (kc' := 0) (ks' := 0) rfl ?_
  refine RP.call (v := none) (st' := []) rfl rfl rfl rfl rfl rfl (args_v [.int 9, .int 0, .int (nI 9)] [] rfl rfl (Nat.le_of_ble_eq_true rfl) rfl h0 (Nat.le_of_ble_eq_true rfl)) (rc_range (lo := 0) (hi := 9) (nI_pos (by decide)) (nI_le (b := 9) (by decide) (by decide))) ?_
  refine RP.blk 1 (pc' := 9) (lv' := [(0, .ref 1), (1, .int (nI 9))]) (st' := [.int (nI 9)]) (H' := _) (kc' := 0) (ks' := 0) rfl ?_
  refine RP.brF rfl rfl rfl (cF_eq 9 0) ?_
  refine RP.blk 2 (pc' := 14) (lv' := [(0, .ref 1), (1, .int (nI 9))]) (st' := [.int 3, .int (nI 9)]) (H' := _) (kc' := 0) (ks' := 0) rfl ?_
  refine RP.brF rfl rfl rfl (cF_eq 9 3) ?_
  refine RP.blk 2 (pc' := 19) (lv' := [(0, .ref 1), (1, .int (nI 9))]) (st' := [.int 5, .int (nI 9)]) (H' := _) (kc' := 0) (ks' := 0) rfl ?_
  refine RP.brF rfl rfl rfl (cF_eq 9 5) ?_
  refine RP.blk 2 (pc' := 25) (lv' := [(0, .ref 1), (1, .int (nI 9))]) (st' := [.int 6, .int (nI 9)]) (H' := _) (kc' := 0) (ks' := 0) rfl ?_
  refine RP.brT rfl rfl rfl (cT_ne 9 6) ?_
  refine RP.blk 1 (pc' := 33) (lv' := [(0, .ref 1), (1, .int (nI 9))]) (st' := [.int (nI 9)]) (H' := _) (kc' := 0) (ks' := 0) rfl ?_
  refine RP.blk 1 (pc' := 156) (lv' := [(0, .ref 1), (1, .int (nI 9))]) (st' := []) (H' := _) (kc' := 0) (ks' := 0) rfl ?_
  refine RP.blk 1 (pc' := 157) (lv' := [(0, .ref 1), (1, .int (nI 9))]) (st' := [.ref 1]) (H' := _) (kc' := 0) (ks' := 0) rfl ?_
  refine RP.get (ci := 11) rfl h0 rfl rfl ?_
  refine RP.brT rfl rfl rfl (by decide) ?_
  refine RP.blk 1 (pc' := 168) (lv' := [(0, .ref 1), (1, .int (nI 9))]) (st' := [.int 0]) (H' := _) (kc' := 0) (ks' := 0) rfl ?_
  exact RP.done (c := 0) (s := 0) rfl rfl rfl rfl
theorem rc_count1_1 {sc : Nat × (Nat → Int32)} {d : Nat} {H : aH} {bl pr cw cl cp cb : Int32} (h0 : H[0]? = some (kO 11 (fvs bl pr 1 cw cl cp cb))) : RC sc (d + 1) mr_196 [.ref 1, .int (nI 1)] H (.inl (some (.int 1))) H 0 0 := by
  refine RP.blk 4 (pc' := 5) (lv' := [(0, .ref 1), (1, .int (nI 1))]) (st' := [.int 9, .int 0, .int (nI 1), .ref 1]) (H' := _) (kc' := 0) (ks' := 0) rfl ?_
  refine RP.call (v := none) (st' := []) rfl rfl rfl rfl rfl rfl (args_v [.int 9, .int 0, .int (nI 1)] [] rfl rfl (Nat.le_of_ble_eq_true rfl) rfl h0 (Nat.le_of_ble_eq_true rfl)) (rc_range (lo := 0) (hi := 9) (nI_pos (by decide)) (nI_le (b := 9) (by decide) (by decide))) ?_
  refine RP.blk 1 (pc' := 9) (lv' := [(0, .ref 1), (1, .int (nI 1))]) (st' := [.int (nI 1)]) (H' := _) (kc' := 0) (ks' := 0) rfl ?_
  refine RP.brF rfl rfl rfl (cF_eq 1 0) ?_
  refine RP.blk 2 (pc' := 14) (lv' := [(0, .ref 1), (1, .int (nI 1))]) (st' := [.int 3, .int (nI 1)]) (H' := _) (kc' := 0) (ks' := 0) rfl ?_
  refine RP.brF rfl rfl rfl (cF_eq 1 3) ?_
  refine RP.blk 2 (pc' := 19) (lv' := [(0, .ref 1), (1, .int (nI 1))]) (st' := [.int 5, .int (nI 1)]) (H' := _) (kc' := 0) (ks' := 0) rfl ?_
  refine RP.brF rfl rfl rfl (cF_eq 1 5) ?_
  refine RP.blk 2 (pc' := 25) (lv' := [(0, .ref 1), (1, .int (nI 1))]) (st' := [.int 6, .int (nI 1)]) (H' := _) (kc' := 0) (ks' := 0) rfl ?_
  refine RP.brT rfl rfl rfl (cT_ne 1 6) ?_
  refine RP.blk 1 (pc' := 33) (lv' := [(0, .ref 1), (1, .int (nI 1))]) (st' := [.int (nI 1)]) (H' := _) (kc' := 0) (ks' := 0) rfl ?_
  refine RP.blk 1 (pc' := 89) (lv' := [(0, .ref 1), (1, .int (nI 1))]) (st' := []) (H' := _) (kc' := 0) (ks' := 0) rfl ?_
  refine RP.blk 1 (pc' := 90) (lv' := [(0, .ref 1), (1, .int (nI 1))]) (st' := [.ref 1]) (H' := _) (kc' := 0) (ks' := 0) rfl ?_
  refine RP.get (ci := 11) rfl h0 rfl rfl ?_
  refine RP.brF rfl rfl rfl (by decide) ?_
  refine RP.blk 2 (pc' := 101) (lv' := [(0, .ref 1), (1, .int (nI 1))]) (st' := [.int 1]) (H' := _) (kc' := 0) (ks' := 0) rfl ?_
  exact RP.done (c := 0) (s := 0) rfl rfl rfl rfl
theorem rc_count9_1 {sc : Nat × (Nat → Int32)} {d : Nat} {H : aH} {bl pr up cl cp cb : Int32} (h0 : H[0]? = some (kO 11 (fvs bl pr up 1 cl cp cb))) : RC sc (d + 1) mr_196 [.ref 1, .int (nI 9)] H (.inl (some (.int 1))) H 0 0 := by
  refine RP.blk 4 (pc' := 5) (lv' := [(0, .ref 1), (1, .int (nI 9))]) (st' := [.int 9, .int 0, .int (nI 9), .ref 1]) (H' := _) (kc' := 0) (ks' := 0) rfl ?_
  refine RP.call (v := none) (st' := []) rfl rfl rfl rfl rfl rfl (args_v [.int 9, .int 0, .int (nI 9)] [] rfl rfl (Nat.le_of_ble_eq_true rfl) rfl h0 (Nat.le_of_ble_eq_true rfl)) (rc_range (lo := 0) (hi := 9) (nI_pos (by decide)) (nI_le (b := 9) (by decide) (by decide))) ?_
  refine RP.blk 1 (pc' := 9) (lv' := [(0, .ref 1), (1, .int (nI 9))]) (st' := [.int (nI 9)]) (H' := _) (kc' := 0) (ks' := 0) rfl ?_
  refine RP.brF rfl rfl rfl (cF_eq 9 0) ?_
  refine RP.blk 2 (pc' := 14) (lv' := [(0, .ref 1), (1, .int (nI 9))]) (st' := [.int 3, .int (nI 9)]) (H' := _) (kc' := 0) (ks' := 0) rfl ?_
  refine RP.brF rfl rfl rfl (cF_eq 9 3) ?_
  refine RP.blk 2 (pc' := 19) (lv' := [(0, .ref 1), (1, .int (nI 9))]) (st' := [.int 5, .int (nI 9)]) (H' := _) (kc' := 0) (ks' := 0) rfl ?_
  refine RP.brF rfl rfl rfl (cF_eq 9 5) ?_
  refine RP.blk 2 (pc' := 25) (lv' := [(0, .ref 1), (1, .int (nI 9))]) (st' := [.int 6, .int (nI 9)]) (H' := _) (kc' := 0) (ks' := 0) rfl ?_
  refine RP.brT rfl rfl rfl (cT_ne 9 6) ?_
  refine RP.blk 1 (pc' := 33) (lv' := [(0, .ref 1), (1, .int (nI 9))]) (st' := [.int (nI 9)]) (H' := _) (kc' := 0) (ks' := 0) rfl ?_
  refine RP.blk 1 (pc' := 156) (lv' := [(0, .ref 1), (1, .int (nI 9))]) (st' := []) (H' := _) (kc' := 0) (ks' := 0) rfl ?_
  refine RP.blk 1 (pc' := 157) (lv' := [(0, .ref 1), (1, .int (nI 9))]) (st' := [.ref 1]) (H' := _) (kc' := 0) (ks' := 0) rfl ?_
  refine RP.get (ci := 11) rfl h0 rfl rfl ?_
  refine RP.brF rfl rfl rfl (by decide) ?_
  refine RP.blk 2 (pc' := 168) (lv' := [(0, .ref 1), (1, .int (nI 9))]) (st' := [.int 1]) (H' := _) (kc' := 0) (ks' := 0) rfl ?_
  exact RP.done (c := 0) (s := 0) rfl rfl rfl rfl
theorem rc_count2 {sc : Nat × (Nat → Int32)} {d : Nat} {H : aH} {bl pr up cw cl cp cb : Int32} {op : Nat → Bool} {mo : Nat → Nat} (h0 : H[0]? = some (kO 11 (fvs bl pr up cw cl cp cb))) (h : SightAt H op mo) : RC sc (d + 1) mr_196 [.ref 1, .int (nI 2)] H (.inl (some (.int (nI (cntB op 8))))) H 0 0 := by
  refine RP.blk 4 (pc' := 5) (lv' := [(0, .ref 1), (1, .int (nI 2))]) (st' := [.int 9, .int 0, .int (nI 2), .ref 1]) (H' := _) (kc' := 0) (ks' := 0) rfl ?_
  refine RP.call (v := none) (st' := []) rfl rfl rfl rfl rfl rfl (args_v [.int 9, .int 0, .int (nI 2)] [] rfl rfl (Nat.le_of_ble_eq_true rfl) rfl h0 (Nat.le_of_ble_eq_true rfl)) (rc_range (lo := 0) (hi := 9) (nI_pos (by decide)) (nI_le (b := 9) (by decide) (by decide))) ?_
  refine RP.blk 1 (pc' := 9) (lv' := [(0, .ref 1), (1, .int (nI 2))]) (st' := [.int (nI 2)]) (H' := _) (kc' := 0) (ks' := 0) rfl ?_
  refine RP.brF rfl rfl rfl (cF_eq 2 0) ?_
  refine RP.blk 2 (pc' := 14) (lv' := [(0, .ref 1), (1, .int (nI 2))]) (st' := [.int 3, .int (nI 2)]) (H' := _) (kc' := 0) (ks' := 0) rfl ?_
  refine RP.brF rfl rfl rfl (cF_eq 2 3) ?_
  refine RP.blk 2 (pc' := 19) (lv' := [(0, .ref 1), (1, .int (nI 2))]) (st' := [.int 5, .int (nI 2)]) (H' := _) (kc' := 0) (ks' := 0) rfl ?_
  refine RP.brF rfl rfl rfl (cF_eq 2 5) ?_
  refine RP.blk 2 (pc' := 25) (lv' := [(0, .ref 1), (1, .int (nI 2))]) (st' := [.int 6, .int (nI 2)]) (H' := _) (kc' := 0) (ks' := 0) rfl ?_
  refine RP.brT rfl rfl rfl (cT_ne 2 6) ?_
  refine RP.blk 1 (pc' := 33) (lv' := [(0, .ref 1), (1, .int (nI 2))]) (st' := [.int (nI 2)]) (H' := _) (kc' := 0) (ks' := 0) rfl ?_
  refine RP.blk 1 (pc' := 102) (lv' := [(0, .ref 1), (1, .int (nI 2))]) (st' := []) (H' := _) (kc' := 0) (ks' := 0) rfl ?_
  refine RP.blk 1 (pc' := 103) (lv' := [(0, .ref 1), (1, .int (nI 2))]) (st' := [.ref 1]) (H' := _) (kc' := 0) (ks' := 0) rfl ?_
  refine RP.get (ci := 11) rfl h0 rfl rfl ?_
  refine RP.call (v := some (.int (nI (cntB op 8)))) (st' := []) rfl rfl rfl rfl rfl rfl (args_v [] [] rfl rfl (Nat.le_of_ble_eq_true rfl) rfl h.1 (Nat.le_of_ble_eq_true rfl)) (rc_openCount h) ?_
  exact RP.done (c := 0) (s := 0) rfl rfl rfl rfl
theorem rc_count7 {sc : Nat × (Nat → Int32)} {d : Nat} {H : aH} {bl pr up cw cl cp cb : Int32} {l : Nat} (h0 : H[0]? = some (kO 11 (fvs bl pr up cw cl cp cb))) (h1 : H[1]? = some (kO 5 [.ref 3, .int (nI l)])) : RC sc (d + 1) mr_196 [.ref 1, .int (nI 7)] H (.inl (some (.int (nI l)))) H 0 0 := by
  refine RP.blk 4 (pc' := 5) (lv' := [(0, .ref 1), (1, .int (nI 7))]) (st' := [.int 9, .int 0, .int (nI 7), .ref 1]) (H' := _) (kc' := 0) (ks' := 0) rfl ?_
  refine RP.call (v := none) (st' := []) rfl rfl rfl rfl rfl rfl (args_v [.int 9, .int 0, .int (nI 7)] [] rfl rfl (Nat.le_of_ble_eq_true rfl) rfl h0 (Nat.le_of_ble_eq_true rfl)) (rc_range (lo := 0) (hi := 9) (nI_pos (by decide)) (nI_le (b := 9) (by decide) (by decide))) ?_
  refine RP.blk 1 (pc' := 9) (lv' := [(0, .ref 1), (1, .int (nI 7))]) (st' := [.int (nI 7)]) (H' := _) (kc' := 0) (ks' := 0) rfl ?_
  refine RP.brF rfl rfl rfl (cF_eq 7 0) ?_
  refine RP.blk 2 (pc' := 14) (lv' := [(0, .ref 1), (1, .int (nI 7))]) (st' := [.int 3, .int (nI 7)]) (H' := _) (kc' := 0) (ks' := 0) rfl ?_
  refine RP.brF rfl rfl rfl (cF_eq 7 3) ?_
  refine RP.blk 2 (pc' := 19) (lv' := [(0, .ref 1), (1, .int (nI 7))]) (st' := [.int 5, .int (nI 7)]) (H' := _) (kc' := 0) (ks' := 0) rfl ?_
  refine RP.brF rfl rfl rfl (cF_eq 7 5) ?_
  refine RP.blk 2 (pc' := 25) (lv' := [(0, .ref 1), (1, .int (nI 7))]) (st' := [.int 6, .int (nI 7)]) (H' := _) (kc' := 0) (ks' := 0) rfl ?_
  refine RP.brT rfl rfl rfl (cT_ne 7 6) ?_
  refine RP.blk 1 (pc' := 33) (lv' := [(0, .ref 1), (1, .int (nI 7))]) (st' := [.int (nI 7)]) (H' := _) (kc' := 0) (ks' := 0) rfl ?_
  refine RP.blk 1 (pc' := 140) (lv' := [(0, .ref 1), (1, .int (nI 7))]) (st' := []) (H' := _) (kc' := 0) (ks' := 0) rfl ?_
  refine RP.blk 1 (pc' := 141) (lv' := [(0, .ref 1), (1, .int (nI 7))]) (st' := [.ref 1]) (H' := _) (kc' := 0) (ks' := 0) rfl ?_
  refine RP.get (ci := 11) rfl h0 rfl rfl ?_
  refine RP.get (ci := 5) rfl h1 rfl rfl ?_
  exact RP.done (c := 0) (s := 0) rfl rfl rfl rfl
theorem rc_count8 {sc : Nat × (Nat → Int32)} {d : Nat} {H : aH} {bl pr up cw cl cp cb : Int32} {l : Nat} (h0 : H[0]? = some (kO 11 (fvs bl pr up cw cl cp cb))) (h3 : H[3]? = some (kO 5 [.ref 5, .int (nI l)])) : RC sc (d + 1) mr_196 [.ref 1, .int (nI 8)] H (.inl (some (.int (nI l)))) H 0 0 := by
  refine RP.blk 4 (pc' := 5) (lv' := [(0, .ref 1), (1, .int (nI 8))]) (st' := [.int 9, .int 0, .int (nI 8), .ref 1]) (H' := _) (kc' := 0) (ks' := 0) rfl ?_
  refine RP.call (v := none) (st' := []) rfl rfl rfl rfl rfl rfl (args_v [.int 9, .int 0, .int (nI 8)] [] rfl rfl (Nat.le_of_ble_eq_true rfl) rfl h0 (Nat.le_of_ble_eq_true rfl)) (rc_range (lo := 0) (hi := 9) (nI_pos (by decide)) (nI_le (b := 9) (by decide) (by decide))) ?_
  refine RP.blk 1 (pc' := 9) (lv' := [(0, .ref 1), (1, .int (nI 8))]) (st' := [.int (nI 8)]) (H' := _) (kc' := 0) (ks' := 0) rfl ?_
  refine RP.brF rfl rfl rfl (cF_eq 8 0) ?_
  refine RP.blk 2 (pc' := 14) (lv' := [(0, .ref 1), (1, .int (nI 8))]) (st' := [.int 3, .int (nI 8)]) (H' := _) (kc' := 0) (ks' := 0) rfl ?_
  refine RP.brF rfl rfl rfl (cF_eq 8 3) ?_
  refine RP.blk 2 (pc' := 19) (lv' := [(0, .ref 1), (1, .int (nI 8))]) (st' := [.int 5, .int (nI 8)]) (H' := _) (kc' := 0) (ks' := 0) rfl ?_
  refine RP.brF rfl rfl rfl (cF_eq 8 5) ?_
  refine RP.blk 2 (pc' := 25) (lv' := [(0, .ref 1), (1, .int (nI 8))]) (st' := [.int 6, .int (nI 8)]) (H' := _) (kc' := 0) (ks' := 0) rfl ?_
  refine RP.brT rfl rfl rfl (cT_ne 8 6) ?_
  refine RP.blk 1 (pc' := 33) (lv' := [(0, .ref 1), (1, .int (nI 8))]) (st' := [.int (nI 8)]) (H' := _) (kc' := 0) (ks' := 0) rfl ?_
  refine RP.blk 1 (pc' := 148) (lv' := [(0, .ref 1), (1, .int (nI 8))]) (st' := []) (H' := _) (kc' := 0) (ks' := 0) rfl ?_
  refine RP.blk 1 (pc' := 149) (lv' := [(0, .ref 1), (1, .int (nI 8))]) (st' := [.ref 1]) (H' := _) (kc' := 0) (ks' := 0) rfl ?_
  refine RP.get (ci := 11) rfl h0 rfl rfl ?_
  refine RP.get (ci := 5) rfl h3 rfl rfl ?_
  exact RP.done (c := 0) (s := 0) rfl rfl rfl rfl
theorem rc_limit {sc : Nat × (Nat → Int32)} {B : Nat} {d : Nat} {H : aH} {pr up cw cl cp cb : Int32} (h0 : H[0]? = some (kO 11 (fvs (nI B) pr up cw cl cp cb))) : RC sc d mr_93 [.ref 1] H (.inl (some (.int (nI (B * 256))))) H 0 0 := by
  refine RP.blk 1 (pc' := 1) (lv' := [(0, .ref 1)]) (st' := [.ref 1]) (H' := _) (kc' := 0) (ks' := 0) rfl ?_
  refine RP.get (ci := 11) rfl h0 rfl rfl ?_
  refine RP.blk 2 (pc' := 8) (lv' := [(0, .ref 1)]) (st' := [.int (nI B * 256)]) (H' := _) (kc' := 0) (ks' := 0) rfl ?_
  rw [show (nI B * 256 : Int32) = nI (B * 256) from pk_mul B 256]
  exact RP.done (c := 0) (s := 0) rfl rfl rfl rfl
theorem rc_count4 {sc : Nat × (Nat → Int32)} {d : Nat} {H : aH} {pr up cw cl cp cb : Int32} {B : Nat} (h0 : H[0]? = some (kO 11 (fvs (nI B) pr up cw cl cp cb))) : RC sc (d + 1) mr_196 [.ref 1, .int (nI 4)] H (.inl (some (.int (nI (B * 256))))) H 0 0 := by
  refine RP.blk 4 (pc' := 5) (lv' := [(0, .ref 1), (1, .int (nI 4))]) (st' := [.int 9, .int 0, .int (nI 4), .ref 1]) (H' := _) (kc' := 0) (ks' := 0) rfl ?_
  refine RP.call (v := none) (st' := []) rfl rfl rfl rfl rfl rfl (args_v [.int 9, .int 0, .int (nI 4)] [] rfl rfl (Nat.le_of_ble_eq_true rfl) rfl h0 (Nat.le_of_ble_eq_true rfl)) (rc_range (lo := 0) (hi := 9) (nI_pos (by decide)) (nI_le (b := 9) (by decide) (by decide))) ?_
  refine RP.blk 1 (pc' := 9) (lv' := [(0, .ref 1), (1, .int (nI 4))]) (st' := [.int (nI 4)]) (H' := _) (kc' := 0) (ks' := 0) rfl ?_
  refine RP.brF rfl rfl rfl (cF_eq 4 0) ?_
  refine RP.blk 2 (pc' := 14) (lv' := [(0, .ref 1), (1, .int (nI 4))]) (st' := [.int 3, .int (nI 4)]) (H' := _) (kc' := 0) (ks' := 0) rfl ?_
  refine RP.brF rfl rfl rfl (cF_eq 4 3) ?_
  refine RP.blk 2 (pc' := 19) (lv' := [(0, .ref 1), (1, .int (nI 4))]) (st' := [.int 5, .int (nI 4)]) (H' := _) (kc' := 0) (ks' := 0) rfl ?_
  refine RP.brF rfl rfl rfl (cF_eq 4 5) ?_
  refine RP.blk 2 (pc' := 25) (lv' := [(0, .ref 1), (1, .int (nI 4))]) (st' := [.int 6, .int (nI 4)]) (H' := _) (kc' := 0) (ks' := 0) rfl ?_
  refine RP.brT rfl rfl rfl (cT_ne 4 6) ?_
  refine RP.blk 1 (pc' := 33) (lv' := [(0, .ref 1), (1, .int (nI 4))]) (st' := [.int (nI 4)]) (H' := _) (kc' := 0) (ks' := 0) rfl ?_
  refine RP.blk 1 (pc' := 119) (lv' := [(0, .ref 1), (1, .int (nI 4))]) (st' := []) (H' := _) (kc' := 0) (ks' := 0) rfl ?_
  refine RP.blk 1 (pc' := 120) (lv' := [(0, .ref 1), (1, .int (nI 4))]) (st' := [.ref 1]) (H' := _) (kc' := 0) (ks' := 0) rfl ?_
  refine RP.call (v := some (.int (nI (B * 256)))) (st' := []) rfl rfl rfl rfl rfl rfl (args_v [] [] rfl rfl (Nat.le_of_ble_eq_true rfl) rfl h0 (Nat.le_of_ble_eq_true rfl)) (rc_limit h0) ?_
  exact RP.done (c := 0) (s := 0) rfl rfl rfl rfl
theorem rc_count6 {sc : Nat × (Nat → Int32)} {d : Nat} {H : aH} {bl pr cw cl cp cb : Int32} {kd pa sz nl : Nat → Nat} {nm : Nat → Int8} {no : Nat} (h0 : H[0]? = some (kO 11 (fvs bl pr 1 cw cl cp cb))) (h : TreeAt H kd pa sz nl nm no) : RC sc (d + 1) mr_196 [.ref 1, .int (nI 6)] H (.inl (some (.int (nI no)))) H 0 0 := by
  refine RP.blk 4 (pc' := 5) (lv' := [(0, .ref 1), (1, .int (nI 6))]) (st' := [.int 9, .int 0, .int (nI 6), .ref 1]) (H' := _) (kc' := 0) (ks' := 0) rfl ?_
  refine RP.call (v := none) (st' := []) rfl rfl rfl rfl rfl rfl (args_v [.int 9, .int 0, .int (nI 6)] [] rfl rfl (Nat.le_of_ble_eq_true rfl) rfl h0 (Nat.le_of_ble_eq_true rfl)) (rc_range (lo := 0) (hi := 9) (nI_pos (by decide)) (nI_le (b := 9) (by decide) (by decide))) ?_
  refine RP.blk 1 (pc' := 9) (lv' := [(0, .ref 1), (1, .int (nI 6))]) (st' := [.int (nI 6)]) (H' := _) (kc' := 0) (ks' := 0) rfl ?_
  refine RP.brF rfl rfl rfl (cF_eq 6 0) ?_
  refine RP.blk 2 (pc' := 14) (lv' := [(0, .ref 1), (1, .int (nI 6))]) (st' := [.int 3, .int (nI 6)]) (H' := _) (kc' := 0) (ks' := 0) rfl ?_
  refine RP.brF rfl rfl rfl (cF_eq 6 3) ?_
  refine RP.blk 2 (pc' := 19) (lv' := [(0, .ref 1), (1, .int (nI 6))]) (st' := [.int 5, .int (nI 6)]) (H' := _) (kc' := 0) (ks' := 0) rfl ?_
  refine RP.brF rfl rfl rfl (cF_eq 6 5) ?_
  refine RP.blk 2 (pc' := 25) (lv' := [(0, .ref 1), (1, .int (nI 6))]) (st' := [.int 6, .int (nI 6)]) (H' := _) (kc' := 0) (ks' := 0) rfl ?_
  refine RP.brF rfl rfl rfl (cF_ne 6 6) ?_
  refine RP.blk 1 (pc' := 29) (lv' := [(0, .ref 1), (1, .int (nI 6))]) (st' := [.ref 1]) (H' := _) (kc' := 0) (ks' := 0) rfl ?_
  refine RP.call (v := none) (st' := []) rfl rfl rfl rfl rfl rfl (args_v [] [] rfl rfl (Nat.le_of_ble_eq_true rfl) rfl h0 (Nat.le_of_ble_eq_true rfl)) (rc_up h0 rfl) ?_
  refine RP.blk 1 (pc' := 33) (lv' := [(0, .ref 1), (1, .int (nI 6))]) (st' := [.int (nI 6)]) (H' := _) (kc' := 0) (ks' := 0) rfl ?_
  refine RP.blk 1 (pc' := 132) (lv' := [(0, .ref 1), (1, .int (nI 6))]) (st' := []) (H' := _) (kc' := 0) (ks' := 0) rfl ?_
  refine RP.blk 1 (pc' := 133) (lv' := [(0, .ref 1), (1, .int (nI 6))]) (st' := [.ref 1]) (H' := _) (kc' := 0) (ks' := 0) rfl ?_
  refine RP.get (ci := 11) rfl h0 rfl rfl ?_
  refine RP.get (ci := 9) rfl h.1 rfl rfl ?_
  exact RP.done (c := 0) (s := 0) rfl rfl rfl rfl
theorem rc_count0_down {sc : Nat × (Nat → Int32)} {d : Nat} {H : aH} {bl pr cw cl cp cb : Int32} (h0 : H[0]? = some (kO 11 (fvs bl pr 0 cw cl cp cb))) : RC sc (d + 1) mr_196 [.ref 1, .int (nI 0)] H (.inr 1) H 1 6 := by
  refine RP.blk 4 (pc' := 5) (lv' := [(0, .ref 1), (1, .int (nI 0))]) (st' := [.int 9, .int 0, .int (nI 0), .ref 1]) (H' := _) (kc' := 0) (ks' := 0) rfl ?_
  refine RP.call (v := none) (st' := []) rfl rfl rfl rfl rfl rfl (args_v [.int 9, .int 0, .int (nI 0)] [] rfl rfl (Nat.le_of_ble_eq_true rfl) rfl h0 (Nat.le_of_ble_eq_true rfl)) (rc_range (lo := 0) (hi := 9) (nI_pos (by decide)) (nI_le (b := 9) (by decide) (by decide))) ?_
  refine RP.blk 1 (pc' := 9) (lv' := [(0, .ref 1), (1, .int (nI 0))]) (st' := [.int (nI 0)]) (H' := _) (kc' := 0) (ks' := 0) rfl ?_
  refine RP.brT rfl rfl rfl (cT_eq 0 0) ?_
  refine RP.blk 1 (pc' := 29) (lv' := [(0, .ref 1), (1, .int (nI 0))]) (st' := [.ref 1]) (H' := _) (kc' := 0) (ks' := 0) rfl ?_
  exact RP.callP (st' := []) rfl rfl rfl rfl rfl rfl (args_v [] [] rfl rfl (Nat.le_of_ble_eq_true rfl) rfl h0 (Nat.le_of_ble_eq_true rfl)) (rc_down h0 rfl) rfl
theorem rc_count3_down {sc : Nat × (Nat → Int32)} {d : Nat} {H : aH} {bl pr cw cl cp cb : Int32} (h0 : H[0]? = some (kO 11 (fvs bl pr 0 cw cl cp cb))) : RC sc (d + 1) mr_196 [.ref 1, .int (nI 3)] H (.inr 1) H 1 6 := by
  refine RP.blk 4 (pc' := 5) (lv' := [(0, .ref 1), (1, .int (nI 3))]) (st' := [.int 9, .int 0, .int (nI 3), .ref 1]) (H' := _) (kc' := 0) (ks' := 0) rfl ?_
  refine RP.call (v := none) (st' := []) rfl rfl rfl rfl rfl rfl (args_v [.int 9, .int 0, .int (nI 3)] [] rfl rfl (Nat.le_of_ble_eq_true rfl) rfl h0 (Nat.le_of_ble_eq_true rfl)) (rc_range (lo := 0) (hi := 9) (nI_pos (by decide)) (nI_le (b := 9) (by decide) (by decide))) ?_
  refine RP.blk 1 (pc' := 9) (lv' := [(0, .ref 1), (1, .int (nI 3))]) (st' := [.int (nI 3)]) (H' := _) (kc' := 0) (ks' := 0) rfl ?_
  refine RP.brF rfl rfl rfl (cF_eq 3 0) ?_
  refine RP.blk 2 (pc' := 14) (lv' := [(0, .ref 1), (1, .int (nI 3))]) (st' := [.int 3, .int (nI 3)]) (H' := _) (kc' := 0) (ks' := 0) rfl ?_
  refine RP.brT rfl rfl rfl (cT_eq 3 3) ?_
  refine RP.blk 1 (pc' := 29) (lv' := [(0, .ref 1), (1, .int (nI 3))]) (st' := [.ref 1]) (H' := _) (kc' := 0) (ks' := 0) rfl ?_
  exact RP.callP (st' := []) rfl rfl rfl rfl rfl rfl (args_v [] [] rfl rfl (Nat.le_of_ble_eq_true rfl) rfl h0 (Nat.le_of_ble_eq_true rfl)) (rc_down h0 rfl) rfl
theorem rc_count5_down {sc : Nat × (Nat → Int32)} {d : Nat} {H : aH} {bl pr cw cl cp cb : Int32} (h0 : H[0]? = some (kO 11 (fvs bl pr 0 cw cl cp cb))) : RC sc (d + 1) mr_196 [.ref 1, .int (nI 5)] H (.inr 1) H 1 6 := by
  refine RP.blk 4 (pc' := 5) (lv' := [(0, .ref 1), (1, .int (nI 5))]) (st' := [.int 9, .int 0, .int (nI 5), .ref 1]) (H' := _) (kc' := 0) (ks' := 0) rfl ?_
  refine RP.call (v := none) (st' := []) rfl rfl rfl rfl rfl rfl (args_v [.int 9, .int 0, .int (nI 5)] [] rfl rfl (Nat.le_of_ble_eq_true rfl) rfl h0 (Nat.le_of_ble_eq_true rfl)) (rc_range (lo := 0) (hi := 9) (nI_pos (by decide)) (nI_le (b := 9) (by decide) (by decide))) ?_
  refine RP.blk 1 (pc' := 9) (lv' := [(0, .ref 1), (1, .int (nI 5))]) (st' := [.int (nI 5)]) (H' := _) (kc' := 0) (ks' := 0) rfl ?_
  refine RP.brF rfl rfl rfl (cF_eq 5 0) ?_
  refine RP.blk 2 (pc' := 14) (lv' := [(0, .ref 1), (1, .int (nI 5))]) (st' := [.int 3, .int (nI 5)]) (H' := _) (kc' := 0) (ks' := 0) rfl ?_
  refine RP.brF rfl rfl rfl (cF_eq 5 3) ?_
  refine RP.blk 2 (pc' := 19) (lv' := [(0, .ref 1), (1, .int (nI 5))]) (st' := [.int 5, .int (nI 5)]) (H' := _) (kc' := 0) (ks' := 0) rfl ?_
  refine RP.brT rfl rfl rfl (cT_eq 5 5) ?_
  refine RP.blk 1 (pc' := 29) (lv' := [(0, .ref 1), (1, .int (nI 5))]) (st' := [.ref 1]) (H' := _) (kc' := 0) (ks' := 0) rfl ?_
  exact RP.callP (st' := []) rfl rfl rfl rfl rfl rfl (args_v [] [] rfl rfl (Nat.le_of_ble_eq_true rfl) rfl h0 (Nat.le_of_ble_eq_true rfl)) (rc_down h0 rfl) rfl
theorem rc_count6_down {sc : Nat × (Nat → Int32)} {d : Nat} {H : aH} {bl pr cw cl cp cb : Int32} (h0 : H[0]? = some (kO 11 (fvs bl pr 0 cw cl cp cb))) : RC sc (d + 1) mr_196 [.ref 1, .int (nI 6)] H (.inr 1) H 1 6 := by
  refine RP.blk 4 (pc' := 5) (lv' := [(0, .ref 1), (1, .int (nI 6))]) (st' := [.int 9, .int 0, .int (nI 6), .ref 1]) (H' := _) (kc' := 0) (ks' := 0) rfl ?_
  refine RP.call (v := none) (st' := []) rfl rfl rfl rfl rfl rfl (args_v [.int 9, .int 0, .int (nI 6)] [] rfl rfl (Nat.le_of_ble_eq_true rfl) rfl h0 (Nat.le_of_ble_eq_true rfl)) (rc_range (lo := 0) (hi := 9) (nI_pos (by decide)) (nI_le (b := 9) (by decide) (by decide))) ?_
  refine RP.blk 1 (pc' := 9) (lv' := [(0, .ref 1), (1, .int (nI 6))]) (st' := [.int (nI 6)]) (H' := _) (kc' := 0) (ks' := 0) rfl ?_
  refine RP.brF rfl rfl rfl (cF_eq 6 0) ?_
  refine RP.blk 2 (pc' := 14) (lv' := [(0, .ref 1), (1, .int (nI 6))]) (st' := [.int 3, .int (nI 6)]) (H' := _) (kc' := 0) (ks' := 0) rfl ?_
  refine RP.brF rfl rfl rfl (cF_eq 6 3) ?_
  refine RP.blk 2 (pc' := 19) (lv' := [(0, .ref 1), (1, .int (nI 6))]) (st' := [.int 5, .int (nI 6)]) (H' := _) (kc' := 0) (ks' := 0) rfl ?_
  refine RP.brF rfl rfl rfl (cF_eq 6 5) ?_
  refine RP.blk 2 (pc' := 25) (lv' := [(0, .ref 1), (1, .int (nI 6))]) (st' := [.int 6, .int (nI 6)]) (H' := _) (kc' := 0) (ks' := 0) rfl ?_
  refine RP.brF rfl rfl rfl (cF_ne 6 6) ?_
  refine RP.blk 1 (pc' := 29) (lv' := [(0, .ref 1), (1, .int (nI 6))]) (st' := [.ref 1]) (H' := _) (kc' := 0) (ks' := 0) rfl ?_
  exact RP.callP (st' := []) rfl rfl rfl rfl rfl rfl (args_v [] [] rfl rfl (Nat.le_of_ble_eq_true rfl) rfl h0 (Nat.le_of_ble_eq_true rfl)) (rc_down h0 rfl) rfl
theorem rp_mopened {sc : Nat × (Nat → Int32)} {d : Nat} {H : aH} {op : Nat → Bool} {fa li dn cw cl tp rs pr ve us pi hu : Int32} {ba bo : Nat} {x : Int32} {r : tO × aH × Nat × Nat} (hm : H[195]? = some (kO 12 (mfs fa li dn cw cl tp rs pr ve us pi hu ba bo))) (h5 : H[205]? = some (kZ 8 op)) (k : RP sc d mr_300 87 [(3, .int (nI 8)), (2, .int (nI (cntB op 8))), (0, .ref 196), (1, .int x)] [] H 0 0 r) : RP sc d mr_300 58 [(3, .int 0), (2, .int 0), (0, .ref 196), (1, .int x)] [] H 0 0 r := by
  have start : RP sc d mr_300 58 [(3, .int (nI 0)), (2, .int (nI (cntB op 0))), (0, .ref 196), (1, .int x)] [] H 0 0 r := by
    refine RP.loop 58 (fun i => [(3, .int (nI i)), (2, .int (nI (cntB op i))), (0, .ref 196), (1, .int x)]) [] (fun _ => H) 0 0 8 (fun i hi kk => ?_) ?_
    · have e : cntB op (i + 1) = cntB op i + (if op i = true then 1 else 0) := rfl
      refine RP.blk 2 (pc' := 61) (lv' := [(3, .int (nI i)), (2, .int (nI (cntB op i))), (0, .ref 196), (1, .int x)]) (st' := [.int 8, .int (nI i)]) (H' := _) (kc' := 0) (ks' := 0) rfl ?_
      refine RP.brF rfl rfl rfl (cF_ge i 8) ?_
      refine RP.blk 2 (pc' := 66) (lv' := [(3, .int (nI i)), (2, .int (nI (cntB op i))), (0, .ref 196), (1, .int x)]) (st' := [.ref 196, .int (nI (cntB op i))]) (H' := _) (kc' := 0) (ks' := 0) rfl ?_
      refine RP.get (ci := 12) rfl hm rfl rfl ?_
      refine RP.blk 1 (pc' := 70) (lv' := [(3, .int (nI i)), (2, .int (nI (cntB op i))), (0, .ref 196), (1, .int x)]) (st' := [.int (nI i), .ref 206, .int (nI (cntB op i))]) (H' := _) (kc' := 0) (ks' := 0) rfl ?_
      refine RP.zaldN (j := i) rfl h5 (by omega) (by decide) ?_
      cases hb : op i with
      | true =>
        rw [hb] at e
        rw [e] at kk
        refine RP.brF rfl rfl rfl (by decide) ?_
        refine RP.blk 3 (pc' := 80) (lv' := [(3, .int (nI i)), (2, .int (nI (cntB op i))), (0, .ref 196), (1, .int x)]) (st' := [.int (nI (cntB op i) + 1)]) (H' := _) (kc' := 0) (ks' := 0) rfl ?_
        rw [show (nI (cntB op i) + 1 : Int32) = nI (cntB op i + 1) from nI_add (cntB op i) 1]
        refine RP.blk 2 (pc' := 84) (lv' := [(3, .int (nI i + 1)), (2, .int (nI (cntB op i + 1))), (0, .ref 196), (1, .int x)]) (st' := []) (H' := _) (kc' := 0) (ks' := 0) rfl ?_
        rw [show (nI i + 1 : Int32) = nI (i + 1) from nI_add i 1]
        refine RP.blk 1 (pc' := 58) (lv' := [(3, .int (nI (i + 1))), (2, .int (nI (cntB op i + 1))), (0, .ref 196), (1, .int x)]) (st' := []) (H' := _) (kc' := 0) (ks' := 0) rfl ?_
        exact kk
      | false =>
        rw [hb] at e
        rw [e] at kk
        refine RP.brT rfl rfl rfl (by decide) ?_
        refine RP.blk 2 (pc' := 80) (lv' := [(3, .int (nI i)), (2, .int (nI (cntB op i))), (0, .ref 196), (1, .int x)]) (st' := [.int (nI (cntB op i) + 0)]) (H' := _) (kc' := 0) (ks' := 0) rfl ?_
        rw [show (nI (cntB op i) + 0 : Int32) = nI (cntB op i + 0) from nI_add (cntB op i) 0]
        refine RP.blk 2 (pc' := 84) (lv' := [(3, .int (nI i + 1)), (2, .int (nI (cntB op i + 0))), (0, .ref 196), (1, .int x)]) (st' := []) (H' := _) (kc' := 0) (ks' := 0) rfl ?_
        rw [show (nI i + 1 : Int32) = nI (i + 1) from nI_add i 1]
        refine RP.blk 1 (pc' := 58) (lv' := [(3, .int (nI (i + 1))), (2, .int (nI (cntB op i + 0))), (0, .ref 196), (1, .int x)]) (st' := []) (H' := _) (kc' := 0) (ks' := 0) rfl ?_
        exact kk
    ·
      refine RP.blk 2 (pc' := 61) (lv' := [(3, .int (nI 8)), (2, .int (nI (cntB op 8))), (0, .ref 196), (1, .int x)]) (st' := [.int 8, .int (nI 8)]) (H' := _) (kc' := 0) (ks' := 0) rfl ?_
      refine RP.brT rfl rfl rfl (cT_ge 8 8) ?_
      exact k
  exact start
theorem rc_mcount0 {sc : Nat × (Nat → Int32)} {d : Nat} {H : aH} {op : Nat → Bool} {fa li cw cl tp rs pr ve us pi hu : Int32} {ba bo : Nat} (hm : H[195]? = some (kO 12 (mfs fa li 0 cw cl tp rs pr ve us pi hu ba bo))) (h5 : H[205]? = some (kZ 8 op)) : RC sc (d + 1) mr_300 [.ref 196, .int (nI 0)] H (.inl (some (.int pr))) (H.set 195 (kO 12 (mfs 0 li 0 cw cl tp rs pr ve us pi hu ba bo))) 0 0 := by
  refine RP.blk 2 (pc' := 2) (lv' := [(0, .ref 196), (1, .int (nI 0))]) (st' := [.int 0, .ref 196]) (H' := _) (kc' := 0) (ks' := 0) rfl ?_
  refine RP.put (ci := 12) rfl hm rfl rfl (Nat.le_of_ble_eq_true rfl) ?_
  refine RP.blk 3 (pc' := 9) (lv' := [(0, .ref 196), (1, .int (nI 0))]) (st' := [.int 10, .int (nI 0), .ref 196]) (H' := _) (kc' := 0) (ks' := 0) rfl ?_
  refine RP.call (v := some (.int 0)) (st' := []) rfl rfl rfl rfl rfl rfl (args_v [.int 10, .int (nI 0)] [] rfl rfl (Nat.le_of_ble_eq_true rfl) rfl (get_set hm) (Nat.le_of_ble_eq_true rfl)) (rc_out (v := 0) (m := 10) (by decide) (by decide)) ?_
  refine RP.brT rfl rfl rfl (by decide) ?_
  refine RP.blk 1 (pc' := 22) (lv' := [(0, .ref 196), (1, .int (nI 0))]) (st' := [.ref 196]) (H' := _) (kc' := 0) (ks' := 0) rfl ?_
  refine RP.get (ci := 12) rfl (get_set hm) rfl rfl ?_
  refine RP.brT rfl rfl rfl (by decide) ?_
  refine RP.blk 4 (pc' := 58) (lv' := [(3, .int 0), (2, .int 0), (0, .ref 196), (1, .int (nI 0))]) (st' := []) (H' := _) (kc' := 0) (ks' := 0) rfl ?_
  refine rp_mopened (get_set hm) ((set_far (by decide)).trans h5) ?_
  refine RP.blk 1 (pc' := 88) (lv' := [(3, .int (nI 8)), (2, .int (nI (cntB op 8))), (0, .ref 196), (1, .int (nI 0))]) (st' := [.int (nI 0)]) (H' := _) (kc' := 0) (ks' := 0) rfl ?_
  refine RP.blk 1 (pc' := 140) (lv' := [(3, .int (nI 8)), (2, .int (nI (cntB op 8))), (0, .ref 196), (1, .int (nI 0))]) (st' := []) (H' := _) (kc' := 0) (ks' := 0) rfl ?_
  refine RP.blk 1 (pc' := 141) (lv' := [(3, .int (nI 8)), (2, .int (nI (cntB op 8))), (0, .ref 196), (1, .int (nI 0))]) (st' := [.ref 196]) (H' := _) (kc' := 0) (ks' := 0) rfl ?_
  refine RP.get (ci := 12) rfl (get_set hm) rfl rfl ?_
  exact RP.done (c := 0) (s := 0) rfl rfl rfl rfl
theorem rc_mcount1_0 {sc : Nat × (Nat → Int32)} {d : Nat} {H : aH} {op : Nat → Bool} {fa li cw cl tp rs pr ve us pi hu : Int32} {ba bo : Nat} (hm : H[195]? = some (kO 12 (mfs fa li 0 cw cl tp rs pr ve us pi hu ba bo))) (h5 : H[205]? = some (kZ 8 op)) : RC sc (d + 1) mr_300 [.ref 196, .int (nI 1)] H (.inl (some (.int 1))) (H.set 195 (kO 12 (mfs 0 li 0 cw cl tp rs pr ve us pi hu ba bo))) 0 0 := by
  refine RP.blk 2 (pc' := 2) (lv' := [(0, .ref 196), (1, .int (nI 1))]) (st' := [.int 0, .ref 196]) (H' := _) (kc' := 0) (ks' := 0) rfl ?_
  refine RP.put (ci := 12) rfl hm rfl rfl (Nat.le_of_ble_eq_true rfl) ?_
  refine RP.blk 3 (pc' := 9) (lv' := [(0, .ref 196), (1, .int (nI 1))]) (st' := [.int 10, .int (nI 1), .ref 196]) (H' := _) (kc' := 0) (ks' := 0) rfl ?_
  refine RP.call (v := some (.int 0)) (st' := []) rfl rfl rfl rfl rfl rfl (args_v [.int 10, .int (nI 1)] [] rfl rfl (Nat.le_of_ble_eq_true rfl) rfl (get_set hm) (Nat.le_of_ble_eq_true rfl)) (rc_out (v := 1) (m := 10) (by decide) (by decide)) ?_
  refine RP.brT rfl rfl rfl (by decide) ?_
  refine RP.blk 1 (pc' := 22) (lv' := [(0, .ref 196), (1, .int (nI 1))]) (st' := [.ref 196]) (H' := _) (kc' := 0) (ks' := 0) rfl ?_
  refine RP.get (ci := 12) rfl (get_set hm) rfl rfl ?_
  refine RP.brT rfl rfl rfl (by decide) ?_
  refine RP.blk 4 (pc' := 58) (lv' := [(3, .int 0), (2, .int 0), (0, .ref 196), (1, .int (nI 1))]) (st' := []) (H' := _) (kc' := 0) (ks' := 0) rfl ?_
  refine rp_mopened (get_set hm) ((set_far (by decide)).trans h5) ?_
  refine RP.blk 1 (pc' := 88) (lv' := [(3, .int (nI 8)), (2, .int (nI (cntB op 8))), (0, .ref 196), (1, .int (nI 1))]) (st' := [.int (nI 1)]) (H' := _) (kc' := 0) (ks' := 0) rfl ?_
  refine RP.blk 1 (pc' := 145) (lv' := [(3, .int (nI 8)), (2, .int (nI (cntB op 8))), (0, .ref 196), (1, .int (nI 1))]) (st' := []) (H' := _) (kc' := 0) (ks' := 0) rfl ?_
  refine RP.blk 1 (pc' := 146) (lv' := [(3, .int (nI 8)), (2, .int (nI (cntB op 8))), (0, .ref 196), (1, .int (nI 1))]) (st' := [.ref 196]) (H' := _) (kc' := 0) (ks' := 0) rfl ?_
  refine RP.get (ci := 12) rfl (get_set hm) rfl rfl ?_
  refine RP.brT rfl rfl rfl (by decide) ?_
  refine RP.blk 1 (pc' := 157) (lv' := [(3, .int (nI 8)), (2, .int (nI (cntB op 8))), (0, .ref 196), (1, .int (nI 1))]) (st' := [.int 1]) (H' := _) (kc' := 0) (ks' := 0) rfl ?_
  exact RP.done (c := 0) (s := 0) rfl rfl rfl rfl
theorem rc_mcount2_0 {sc : Nat × (Nat → Int32)} {d : Nat} {H : aH} {op : Nat → Bool} {fa li cw cl tp rs pr ve us pi hu : Int32} {ba bo : Nat} (hm : H[195]? = some (kO 12 (mfs fa li 0 cw cl tp rs pr ve us pi hu ba bo))) (h5 : H[205]? = some (kZ 8 op)) : RC sc (d + 1) mr_300 [.ref 196, .int (nI 2)] H (.inl (some (.int (nI (cntB op 8))))) (H.set 195 (kO 12 (mfs 0 li 0 cw cl tp rs pr ve us pi hu ba bo))) 0 0 := by
  refine RP.blk 2 (pc' := 2) (lv' := [(0, .ref 196), (1, .int (nI 2))]) (st' := [.int 0, .ref 196]) (H' := _) (kc' := 0) (ks' := 0) rfl ?_
  refine RP.put (ci := 12) rfl hm rfl rfl (Nat.le_of_ble_eq_true rfl) ?_
  refine RP.blk 3 (pc' := 9) (lv' := [(0, .ref 196), (1, .int (nI 2))]) (st' := [.int 10, .int (nI 2), .ref 196]) (H' := _) (kc' := 0) (ks' := 0) rfl ?_
  refine RP.call (v := some (.int 0)) (st' := []) rfl rfl rfl rfl rfl rfl (args_v [.int 10, .int (nI 2)] [] rfl rfl (Nat.le_of_ble_eq_true rfl) rfl (get_set hm) (Nat.le_of_ble_eq_true rfl)) (rc_out (v := 2) (m := 10) (by decide) (by decide)) ?_
  refine RP.brT rfl rfl rfl (by decide) ?_
  refine RP.blk 1 (pc' := 22) (lv' := [(0, .ref 196), (1, .int (nI 2))]) (st' := [.ref 196]) (H' := _) (kc' := 0) (ks' := 0) rfl ?_
  refine RP.get (ci := 12) rfl (get_set hm) rfl rfl ?_
  refine RP.brT rfl rfl rfl (by decide) ?_
  refine RP.blk 4 (pc' := 58) (lv' := [(3, .int 0), (2, .int 0), (0, .ref 196), (1, .int (nI 2))]) (st' := []) (H' := _) (kc' := 0) (ks' := 0) rfl ?_
  refine rp_mopened (get_set hm) ((set_far (by decide)).trans h5) ?_
  refine RP.blk 1 (pc' := 88) (lv' := [(3, .int (nI 8)), (2, .int (nI (cntB op 8))), (0, .ref 196), (1, .int (nI 2))]) (st' := [.int (nI 2)]) (H' := _) (kc' := 0) (ks' := 0) rfl ?_
  refine RP.blk 1 (pc' := 158) (lv' := [(3, .int (nI 8)), (2, .int (nI (cntB op 8))), (0, .ref 196), (1, .int (nI 2))]) (st' := []) (H' := _) (kc' := 0) (ks' := 0) rfl ?_
  refine RP.blk 1 (pc' := 159) (lv' := [(3, .int (nI 8)), (2, .int (nI (cntB op 8))), (0, .ref 196), (1, .int (nI 2))]) (st' := [.int (nI (cntB op 8))]) (H' := _) (kc' := 0) (ks' := 0) rfl ?_
  exact RP.done (c := 0) (s := 0) rfl rfl rfl rfl
theorem rc_mcount4_0 {sc : Nat × (Nat → Int32)} {d : Nat} {H : aH} {op : Nat → Bool} {fa li cw cl tp rs pr ve us pi hu : Int32} {ba bo : Nat} (hm : H[195]? = some (kO 12 (mfs fa li 0 cw cl tp rs pr ve us pi hu ba bo))) (h5 : H[205]? = some (kZ 8 op)) : RC sc (d + 1) mr_300 [.ref 196, .int (nI 4)] H (.inl (some (.int li))) (H.set 195 (kO 12 (mfs 0 li 0 cw cl tp rs pr ve us pi hu ba bo))) 0 0 := by
  refine RP.blk 2 (pc' := 2) (lv' := [(0, .ref 196), (1, .int (nI 4))]) (st' := [.int 0, .ref 196]) (H' := _) (kc' := 0) (ks' := 0) rfl ?_
  refine RP.put (ci := 12) rfl hm rfl rfl (Nat.le_of_ble_eq_true rfl) ?_
  refine RP.blk 3 (pc' := 9) (lv' := [(0, .ref 196), (1, .int (nI 4))]) (st' := [.int 10, .int (nI 4), .ref 196]) (H' := _) (kc' := 0) (ks' := 0) rfl ?_
  refine RP.call (v := some (.int 0)) (st' := []) rfl rfl rfl rfl rfl rfl (args_v [.int 10, .int (nI 4)] [] rfl rfl (Nat.le_of_ble_eq_true rfl) rfl (get_set hm) (Nat.le_of_ble_eq_true rfl)) (rc_out (v := 4) (m := 10) (by decide) (by decide)) ?_
  refine RP.brT rfl rfl rfl (by decide) ?_
  refine RP.blk 1 (pc' := 22) (lv' := [(0, .ref 196), (1, .int (nI 4))]) (st' := [.ref 196]) (H' := _) (kc' := 0) (ks' := 0) rfl ?_
  refine RP.get (ci := 12) rfl (get_set hm) rfl rfl ?_
  refine RP.brT rfl rfl rfl (by decide) ?_
  refine RP.blk 4 (pc' := 58) (lv' := [(3, .int 0), (2, .int 0), (0, .ref 196), (1, .int (nI 4))]) (st' := []) (H' := _) (kc' := 0) (ks' := 0) rfl ?_
  refine rp_mopened (get_set hm) ((set_far (by decide)).trans h5) ?_
  refine RP.blk 1 (pc' := 88) (lv' := [(3, .int (nI 8)), (2, .int (nI (cntB op 8))), (0, .ref 196), (1, .int (nI 4))]) (st' := [.int (nI 4)]) (H' := _) (kc' := 0) (ks' := 0) rfl ?_
  refine RP.blk 1 (pc' := 166) (lv' := [(3, .int (nI 8)), (2, .int (nI (cntB op 8))), (0, .ref 196), (1, .int (nI 4))]) (st' := []) (H' := _) (kc' := 0) (ks' := 0) rfl ?_
  refine RP.blk 1 (pc' := 167) (lv' := [(3, .int (nI 8)), (2, .int (nI (cntB op 8))), (0, .ref 196), (1, .int (nI 4))]) (st' := [.ref 196]) (H' := _) (kc' := 0) (ks' := 0) rfl ?_
  refine RP.get (ci := 12) rfl (get_set hm) rfl rfl ?_
  exact RP.done (c := 0) (s := 0) rfl rfl rfl rfl
theorem rc_mcount7_0 {sc : Nat × (Nat → Int32)} {d : Nat} {H : aH} {op : Nat → Bool} {fa li cw cl tp rs pr ve us pi hu : Int32} {ba bo : Nat} (hm : H[195]? = some (kO 12 (mfs fa li 0 cw cl tp rs pr ve us pi hu ba bo))) (h5 : H[205]? = some (kZ 8 op)) : RC sc (d + 1) mr_300 [.ref 196, .int (nI 7)] H (.inl (some (.int tp))) (H.set 195 (kO 12 (mfs 0 li 0 cw cl tp rs pr ve us pi hu ba bo))) 0 0 := by
  refine RP.blk 2 (pc' := 2) (lv' := [(0, .ref 196), (1, .int (nI 7))]) (st' := [.int 0, .ref 196]) (H' := _) (kc' := 0) (ks' := 0) rfl ?_
  refine RP.put (ci := 12) rfl hm rfl rfl (Nat.le_of_ble_eq_true rfl) ?_
  refine RP.blk 3 (pc' := 9) (lv' := [(0, .ref 196), (1, .int (nI 7))]) (st' := [.int 10, .int (nI 7), .ref 196]) (H' := _) (kc' := 0) (ks' := 0) rfl ?_
  refine RP.call (v := some (.int 0)) (st' := []) rfl rfl rfl rfl rfl rfl (args_v [.int 10, .int (nI 7)] [] rfl rfl (Nat.le_of_ble_eq_true rfl) rfl (get_set hm) (Nat.le_of_ble_eq_true rfl)) (rc_out (v := 7) (m := 10) (by decide) (by decide)) ?_
  refine RP.brT rfl rfl rfl (by decide) ?_
  refine RP.blk 1 (pc' := 22) (lv' := [(0, .ref 196), (1, .int (nI 7))]) (st' := [.ref 196]) (H' := _) (kc' := 0) (ks' := 0) rfl ?_
  refine RP.get (ci := 12) rfl (get_set hm) rfl rfl ?_
  refine RP.brT rfl rfl rfl (by decide) ?_
  refine RP.blk 4 (pc' := 58) (lv' := [(3, .int 0), (2, .int 0), (0, .ref 196), (1, .int (nI 7))]) (st' := []) (H' := _) (kc' := 0) (ks' := 0) rfl ?_
  refine rp_mopened (get_set hm) ((set_far (by decide)).trans h5) ?_
  refine RP.blk 1 (pc' := 88) (lv' := [(3, .int (nI 8)), (2, .int (nI (cntB op 8))), (0, .ref 196), (1, .int (nI 7))]) (st' := [.int (nI 7)]) (H' := _) (kc' := 0) (ks' := 0) rfl ?_
  refine RP.blk 1 (pc' := 181) (lv' := [(3, .int (nI 8)), (2, .int (nI (cntB op 8))), (0, .ref 196), (1, .int (nI 7))]) (st' := []) (H' := _) (kc' := 0) (ks' := 0) rfl ?_
  refine RP.blk 1 (pc' := 182) (lv' := [(3, .int (nI 8)), (2, .int (nI (cntB op 8))), (0, .ref 196), (1, .int (nI 7))]) (st' := [.ref 196]) (H' := _) (kc' := 0) (ks' := 0) rfl ?_
  refine RP.get (ci := 12) rfl (get_set hm) rfl rfl ?_
  exact RP.done (c := 0) (s := 0) rfl rfl rfl rfl
theorem rc_mcount8_0 {sc : Nat × (Nat → Int32)} {d : Nat} {H : aH} {op : Nat → Bool} {fa li cw cl tp rs pr ve us pi hu : Int32} {ba bo : Nat} (hm : H[195]? = some (kO 12 (mfs fa li 0 cw cl tp rs pr ve us pi hu ba bo))) (h5 : H[205]? = some (kZ 8 op)) : RC sc (d + 1) mr_300 [.ref 196, .int (nI 8)] H (.inl (some (.int rs))) (H.set 195 (kO 12 (mfs 0 li 0 cw cl tp rs pr ve us pi hu ba bo))) 0 0 := by
  refine RP.blk 2 (pc' := 2) (lv' := [(0, .ref 196), (1, .int (nI 8))]) (st' := [.int 0, .ref 196]) (H' := _) (kc' := 0) (ks' := 0) rfl ?_
  refine RP.put (ci := 12) rfl hm rfl rfl (Nat.le_of_ble_eq_true rfl) ?_
  refine RP.blk 3 (pc' := 9) (lv' := [(0, .ref 196), (1, .int (nI 8))]) (st' := [.int 10, .int (nI 8), .ref 196]) (H' := _) (kc' := 0) (ks' := 0) rfl ?_
  refine RP.call (v := some (.int 0)) (st' := []) rfl rfl rfl rfl rfl rfl (args_v [.int 10, .int (nI 8)] [] rfl rfl (Nat.le_of_ble_eq_true rfl) rfl (get_set hm) (Nat.le_of_ble_eq_true rfl)) (rc_out (v := 8) (m := 10) (by decide) (by decide)) ?_
  refine RP.brT rfl rfl rfl (by decide) ?_
  refine RP.blk 1 (pc' := 22) (lv' := [(0, .ref 196), (1, .int (nI 8))]) (st' := [.ref 196]) (H' := _) (kc' := 0) (ks' := 0) rfl ?_
  refine RP.get (ci := 12) rfl (get_set hm) rfl rfl ?_
  refine RP.brT rfl rfl rfl (by decide) ?_
  refine RP.blk 4 (pc' := 58) (lv' := [(3, .int 0), (2, .int 0), (0, .ref 196), (1, .int (nI 8))]) (st' := []) (H' := _) (kc' := 0) (ks' := 0) rfl ?_
  refine rp_mopened (get_set hm) ((set_far (by decide)).trans h5) ?_
  refine RP.blk 1 (pc' := 88) (lv' := [(3, .int (nI 8)), (2, .int (nI (cntB op 8))), (0, .ref 196), (1, .int (nI 8))]) (st' := [.int (nI 8)]) (H' := _) (kc' := 0) (ks' := 0) rfl ?_
  refine RP.blk 1 (pc' := 186) (lv' := [(3, .int (nI 8)), (2, .int (nI (cntB op 8))), (0, .ref 196), (1, .int (nI 8))]) (st' := []) (H' := _) (kc' := 0) (ks' := 0) rfl ?_
  refine RP.blk 1 (pc' := 187) (lv' := [(3, .int (nI 8)), (2, .int (nI (cntB op 8))), (0, .ref 196), (1, .int (nI 8))]) (st' := [.ref 196]) (H' := _) (kc' := 0) (ks' := 0) rfl ?_
  refine RP.get (ci := 12) rfl (get_set hm) rfl rfl ?_
  exact RP.done (c := 0) (s := 0) rfl rfl rfl rfl
theorem rc_mcount9_0_0 {sc : Nat × (Nat → Int32)} {d : Nat} {H : aH} {op : Nat → Bool} {fa li cl tp rs pr ve us pi hu : Int32} {ba bo : Nat} (hm : H[195]? = some (kO 12 (mfs fa li 0 0 cl tp rs pr ve us pi hu ba bo))) (h5 : H[205]? = some (kZ 8 op)) : RC sc (d + 1) mr_300 [.ref 196, .int (nI 9)] H (.inl (some (.int 0))) (H.set 195 (kO 12 (mfs 0 li 0 0 cl tp rs pr ve us pi hu ba bo))) 0 0 := by
  refine RP.blk 2 (pc' := 2) (lv' := [(0, .ref 196), (1, .int (nI 9))]) (st' := [.int 0, .ref 196]) (H' := _) (kc' := 0) (ks' := 0) rfl ?_
  refine RP.put (ci := 12) rfl hm rfl rfl (Nat.le_of_ble_eq_true rfl) ?_
  refine RP.blk 3 (pc' := 9) (lv' := [(0, .ref 196), (1, .int (nI 9))]) (st' := [.int 10, .int (nI 9), .ref 196]) (H' := _) (kc' := 0) (ks' := 0) rfl ?_
  refine RP.call (v := some (.int 0)) (st' := []) rfl rfl rfl rfl rfl rfl (args_v [.int 10, .int (nI 9)] [] rfl rfl (Nat.le_of_ble_eq_true rfl) rfl (get_set hm) (Nat.le_of_ble_eq_true rfl)) (rc_out (v := 9) (m := 10) (by decide) (by decide)) ?_
  refine RP.brT rfl rfl rfl (by decide) ?_
  refine RP.blk 1 (pc' := 22) (lv' := [(0, .ref 196), (1, .int (nI 9))]) (st' := [.ref 196]) (H' := _) (kc' := 0) (ks' := 0) rfl ?_
  refine RP.get (ci := 12) rfl (get_set hm) rfl rfl ?_
  refine RP.brT rfl rfl rfl (by decide) ?_
  refine RP.blk 4 (pc' := 58) (lv' := [(3, .int 0), (2, .int 0), (0, .ref 196), (1, .int (nI 9))]) (st' := []) (H' := _) (kc' := 0) (ks' := 0) rfl ?_
  refine rp_mopened (get_set hm) ((set_far (by decide)).trans h5) ?_
  refine RP.blk 1 (pc' := 88) (lv' := [(3, .int (nI 8)), (2, .int (nI (cntB op 8))), (0, .ref 196), (1, .int (nI 9))]) (st' := [.int (nI 9)]) (H' := _) (kc' := 0) (ks' := 0) rfl ?_
  refine RP.blk 1 (pc' := 191) (lv' := [(3, .int (nI 8)), (2, .int (nI (cntB op 8))), (0, .ref 196), (1, .int (nI 9))]) (st' := []) (H' := _) (kc' := 0) (ks' := 0) rfl ?_
  refine RP.blk 1 (pc' := 192) (lv' := [(3, .int (nI 8)), (2, .int (nI (cntB op 8))), (0, .ref 196), (1, .int (nI 9))]) (st' := [.ref 196]) (H' := _) (kc' := 0) (ks' := 0) rfl ?_
  refine RP.get (ci := 12) rfl (get_set hm) rfl rfl ?_
  refine RP.brT rfl rfl rfl (by decide) ?_
  refine RP.blk 1 (pc' := 203) (lv' := [(3, .int (nI 8)), (2, .int (nI (cntB op 8))), (0, .ref 196), (1, .int (nI 9))]) (st' := [.int 0]) (H' := _) (kc' := 0) (ks' := 0) rfl ?_
  exact RP.done (c := 0) (s := 0) rfl rfl rfl rfl
theorem rc_mcount9_0_1 {sc : Nat × (Nat → Int32)} {d : Nat} {H : aH} {op : Nat → Bool} {fa li cl tp rs pr ve us pi hu : Int32} {ba bo : Nat} (hm : H[195]? = some (kO 12 (mfs fa li 0 1 cl tp rs pr ve us pi hu ba bo))) (h5 : H[205]? = some (kZ 8 op)) : RC sc (d + 1) mr_300 [.ref 196, .int (nI 9)] H (.inl (some (.int 1))) (H.set 195 (kO 12 (mfs 0 li 0 1 cl tp rs pr ve us pi hu ba bo))) 0 0 := by
  refine RP.blk 2 (pc' := 2) (lv' := [(0, .ref 196), (1, .int (nI 9))]) (st' := [.int 0, .ref 196]) (H' := _) (kc' := 0) (ks' := 0) rfl ?_
  refine RP.put (ci := 12) rfl hm rfl rfl (Nat.le_of_ble_eq_true rfl) ?_
  refine RP.blk 3 (pc' := 9) (lv' := [(0, .ref 196), (1, .int (nI 9))]) (st' := [.int 10, .int (nI 9), .ref 196]) (H' := _) (kc' := 0) (ks' := 0) rfl ?_
  refine RP.call (v := some (.int 0)) (st' := []) rfl rfl rfl rfl rfl rfl (args_v [.int 10, .int (nI 9)] [] rfl rfl (Nat.le_of_ble_eq_true rfl) rfl (get_set hm) (Nat.le_of_ble_eq_true rfl)) (rc_out (v := 9) (m := 10) (by decide) (by decide)) ?_
  refine RP.brT rfl rfl rfl (by decide) ?_
  refine RP.blk 1 (pc' := 22) (lv' := [(0, .ref 196), (1, .int (nI 9))]) (st' := [.ref 196]) (H' := _) (kc' := 0) (ks' := 0) rfl ?_
  refine RP.get (ci := 12) rfl (get_set hm) rfl rfl ?_
  refine RP.brT rfl rfl rfl (by decide) ?_
  refine RP.blk 4 (pc' := 58) (lv' := [(3, .int 0), (2, .int 0), (0, .ref 196), (1, .int (nI 9))]) (st' := []) (H' := _) (kc' := 0) (ks' := 0) rfl ?_
  refine rp_mopened (get_set hm) ((set_far (by decide)).trans h5) ?_
  refine RP.blk 1 (pc' := 88) (lv' := [(3, .int (nI 8)), (2, .int (nI (cntB op 8))), (0, .ref 196), (1, .int (nI 9))]) (st' := [.int (nI 9)]) (H' := _) (kc' := 0) (ks' := 0) rfl ?_
  refine RP.blk 1 (pc' := 191) (lv' := [(3, .int (nI 8)), (2, .int (nI (cntB op 8))), (0, .ref 196), (1, .int (nI 9))]) (st' := []) (H' := _) (kc' := 0) (ks' := 0) rfl ?_
  refine RP.blk 1 (pc' := 192) (lv' := [(3, .int (nI 8)), (2, .int (nI (cntB op 8))), (0, .ref 196), (1, .int (nI 9))]) (st' := [.ref 196]) (H' := _) (kc' := 0) (ks' := 0) rfl ?_
  refine RP.get (ci := 12) rfl (get_set hm) rfl rfl ?_
  refine RP.brF rfl rfl rfl (by decide) ?_
  refine RP.blk 2 (pc' := 203) (lv' := [(3, .int (nI 8)), (2, .int (nI (cntB op 8))), (0, .ref 196), (1, .int (nI 9))]) (st' := [.int 1]) (H' := _) (kc' := 0) (ks' := 0) rfl ?_
  exact RP.done (c := 0) (s := 0) rfl rfl rfl rfl
theorem rc_mcount1_1 {sc : Nat × (Nat → Int32)} {d : Nat} {H : aH} {op : Nat → Bool} {fa li cw cl tp rs pr ve us pi hu : Int32} {ba bo : Nat} (hm : H[195]? = some (kO 12 (mfs fa li 1 cw cl tp rs pr ve us pi hu ba bo))) (h5 : H[205]? = some (kZ 8 op)) : RC sc (d + 1) mr_300 [.ref 196, .int (nI 1)] H (.inl (some (.int 0))) (H.set 195 (kO 12 (mfs 0 li 1 cw cl tp rs pr ve us pi hu ba bo))) 0 0 := by
  refine RP.blk 2 (pc' := 2) (lv' := [(0, .ref 196), (1, .int (nI 1))]) (st' := [.int 0, .ref 196]) (H' := _) (kc' := 0) (ks' := 0) rfl ?_
  refine RP.put (ci := 12) rfl hm rfl rfl (Nat.le_of_ble_eq_true rfl) ?_
  refine RP.blk 3 (pc' := 9) (lv' := [(0, .ref 196), (1, .int (nI 1))]) (st' := [.int 10, .int (nI 1), .ref 196]) (H' := _) (kc' := 0) (ks' := 0) rfl ?_
  refine RP.call (v := some (.int 0)) (st' := []) rfl rfl rfl rfl rfl rfl (args_v [.int 10, .int (nI 1)] [] rfl rfl (Nat.le_of_ble_eq_true rfl) rfl (get_set hm) (Nat.le_of_ble_eq_true rfl)) (rc_out (v := 1) (m := 10) (by decide) (by decide)) ?_
  refine RP.brT rfl rfl rfl (by decide) ?_
  refine RP.blk 1 (pc' := 22) (lv' := [(0, .ref 196), (1, .int (nI 1))]) (st' := [.ref 196]) (H' := _) (kc' := 0) (ks' := 0) rfl ?_
  refine RP.get (ci := 12) rfl (get_set hm) rfl rfl ?_
  refine RP.brF rfl rfl rfl (by decide) ?_
  refine RP.blk 1 (pc' := 29) (lv' := [(0, .ref 196), (1, .int (nI 1))]) (st' := [.int (nI 1)]) (H' := _) (kc' := 0) (ks' := 0) rfl ?_
  refine RP.brF rfl rfl rfl (cF_eq 1 0) ?_
  refine RP.blk 2 (pc' := 34) (lv' := [(0, .ref 196), (1, .int (nI 1))]) (st' := [.int 3, .int (nI 1)]) (H' := _) (kc' := 0) (ks' := 0) rfl ?_
  refine RP.brF rfl rfl rfl (cF_eq 1 3) ?_
  refine RP.blk 2 (pc' := 39) (lv' := [(0, .ref 196), (1, .int (nI 1))]) (st' := [.int 5, .int (nI 1)]) (H' := _) (kc' := 0) (ks' := 0) rfl ?_
  refine RP.brF rfl rfl rfl (cF_eq 1 5) ?_
  refine RP.blk 2 (pc' := 45) (lv' := [(0, .ref 196), (1, .int (nI 1))]) (st' := [.int 6, .int (nI 1)]) (H' := _) (kc' := 0) (ks' := 0) rfl ?_
  refine RP.brT rfl rfl rfl (cT_ne 1 6) ?_
  refine RP.blk 4 (pc' := 58) (lv' := [(3, .int 0), (2, .int 0), (0, .ref 196), (1, .int (nI 1))]) (st' := []) (H' := _) (kc' := 0) (ks' := 0) rfl ?_
  refine rp_mopened (get_set hm) ((set_far (by decide)).trans h5) ?_
  refine RP.blk 1 (pc' := 88) (lv' := [(3, .int (nI 8)), (2, .int (nI (cntB op 8))), (0, .ref 196), (1, .int (nI 1))]) (st' := [.int (nI 1)]) (H' := _) (kc' := 0) (ks' := 0) rfl ?_
  refine RP.blk 1 (pc' := 145) (lv' := [(3, .int (nI 8)), (2, .int (nI (cntB op 8))), (0, .ref 196), (1, .int (nI 1))]) (st' := []) (H' := _) (kc' := 0) (ks' := 0) rfl ?_
  refine RP.blk 1 (pc' := 146) (lv' := [(3, .int (nI 8)), (2, .int (nI (cntB op 8))), (0, .ref 196), (1, .int (nI 1))]) (st' := [.ref 196]) (H' := _) (kc' := 0) (ks' := 0) rfl ?_
  refine RP.get (ci := 12) rfl (get_set hm) rfl rfl ?_
  refine RP.brF rfl rfl rfl (by decide) ?_
  refine RP.blk 2 (pc' := 157) (lv' := [(3, .int (nI 8)), (2, .int (nI (cntB op 8))), (0, .ref 196), (1, .int (nI 1))]) (st' := [.int 0]) (H' := _) (kc' := 0) (ks' := 0) rfl ?_
  exact RP.done (c := 0) (s := 0) rfl rfl rfl rfl
theorem rc_mcount2_1 {sc : Nat × (Nat → Int32)} {d : Nat} {H : aH} {op : Nat → Bool} {fa li cw cl tp rs pr ve us pi hu : Int32} {ba bo : Nat} (hm : H[195]? = some (kO 12 (mfs fa li 1 cw cl tp rs pr ve us pi hu ba bo))) (h5 : H[205]? = some (kZ 8 op)) : RC sc (d + 1) mr_300 [.ref 196, .int (nI 2)] H (.inl (some (.int (nI (cntB op 8))))) (H.set 195 (kO 12 (mfs 0 li 1 cw cl tp rs pr ve us pi hu ba bo))) 0 0 := by
  refine RP.blk 2 (pc' := 2) (lv' := [(0, .ref 196), (1, .int (nI 2))]) (st' := [.int 0, .ref 196]) (H' := _) (kc' := 0) (ks' := 0) rfl ?_
  refine RP.put (ci := 12) rfl hm rfl rfl (Nat.le_of_ble_eq_true rfl) ?_
  refine RP.blk 3 (pc' := 9) (lv' := [(0, .ref 196), (1, .int (nI 2))]) (st' := [.int 10, .int (nI 2), .ref 196]) (H' := _) (kc' := 0) (ks' := 0) rfl ?_
  refine RP.call (v := some (.int 0)) (st' := []) rfl rfl rfl rfl rfl rfl (args_v [.int 10, .int (nI 2)] [] rfl rfl (Nat.le_of_ble_eq_true rfl) rfl (get_set hm) (Nat.le_of_ble_eq_true rfl)) (rc_out (v := 2) (m := 10) (by decide) (by decide)) ?_
  refine RP.brT rfl rfl rfl (by decide) ?_
  refine RP.blk 1 (pc' := 22) (lv' := [(0, .ref 196), (1, .int (nI 2))]) (st' := [.ref 196]) (H' := _) (kc' := 0) (ks' := 0) rfl ?_
  refine RP.get (ci := 12) rfl (get_set hm) rfl rfl ?_
  refine RP.brF rfl rfl rfl (by decide) ?_
  refine RP.blk 1 (pc' := 29) (lv' := [(0, .ref 196), (1, .int (nI 2))]) (st' := [.int (nI 2)]) (H' := _) (kc' := 0) (ks' := 0) rfl ?_
  refine RP.brF rfl rfl rfl (cF_eq 2 0) ?_
  refine RP.blk 2 (pc' := 34) (lv' := [(0, .ref 196), (1, .int (nI 2))]) (st' := [.int 3, .int (nI 2)]) (H' := _) (kc' := 0) (ks' := 0) rfl ?_
  refine RP.brF rfl rfl rfl (cF_eq 2 3) ?_
  refine RP.blk 2 (pc' := 39) (lv' := [(0, .ref 196), (1, .int (nI 2))]) (st' := [.int 5, .int (nI 2)]) (H' := _) (kc' := 0) (ks' := 0) rfl ?_
  refine RP.brF rfl rfl rfl (cF_eq 2 5) ?_
  refine RP.blk 2 (pc' := 45) (lv' := [(0, .ref 196), (1, .int (nI 2))]) (st' := [.int 6, .int (nI 2)]) (H' := _) (kc' := 0) (ks' := 0) rfl ?_
  refine RP.brT rfl rfl rfl (cT_ne 2 6) ?_
  refine RP.blk 4 (pc' := 58) (lv' := [(3, .int 0), (2, .int 0), (0, .ref 196), (1, .int (nI 2))]) (st' := []) (H' := _) (kc' := 0) (ks' := 0) rfl ?_
  refine rp_mopened (get_set hm) ((set_far (by decide)).trans h5) ?_
  refine RP.blk 1 (pc' := 88) (lv' := [(3, .int (nI 8)), (2, .int (nI (cntB op 8))), (0, .ref 196), (1, .int (nI 2))]) (st' := [.int (nI 2)]) (H' := _) (kc' := 0) (ks' := 0) rfl ?_
  refine RP.blk 1 (pc' := 158) (lv' := [(3, .int (nI 8)), (2, .int (nI (cntB op 8))), (0, .ref 196), (1, .int (nI 2))]) (st' := []) (H' := _) (kc' := 0) (ks' := 0) rfl ?_
  refine RP.blk 1 (pc' := 159) (lv' := [(3, .int (nI 8)), (2, .int (nI (cntB op 8))), (0, .ref 196), (1, .int (nI 2))]) (st' := [.int (nI (cntB op 8))]) (H' := _) (kc' := 0) (ks' := 0) rfl ?_
  exact RP.done (c := 0) (s := 0) rfl rfl rfl rfl
theorem rc_mcount4_1 {sc : Nat × (Nat → Int32)} {d : Nat} {H : aH} {op : Nat → Bool} {fa li cw cl tp rs pr ve us pi hu : Int32} {ba bo : Nat} (hm : H[195]? = some (kO 12 (mfs fa li 1 cw cl tp rs pr ve us pi hu ba bo))) (h5 : H[205]? = some (kZ 8 op)) : RC sc (d + 1) mr_300 [.ref 196, .int (nI 4)] H (.inl (some (.int li))) (H.set 195 (kO 12 (mfs 0 li 1 cw cl tp rs pr ve us pi hu ba bo))) 0 0 := by
  refine RP.blk 2 (pc' := 2) (lv' := [(0, .ref 196), (1, .int (nI 4))]) (st' := [.int 0, .ref 196]) (H' := _) (kc' := 0) (ks' := 0) rfl ?_
  refine RP.put (ci := 12) rfl hm rfl rfl (Nat.le_of_ble_eq_true rfl) ?_
  refine RP.blk 3 (pc' := 9) (lv' := [(0, .ref 196), (1, .int (nI 4))]) (st' := [.int 10, .int (nI 4), .ref 196]) (H' := _) (kc' := 0) (ks' := 0) rfl ?_
  refine RP.call (v := some (.int 0)) (st' := []) rfl rfl rfl rfl rfl rfl (args_v [.int 10, .int (nI 4)] [] rfl rfl (Nat.le_of_ble_eq_true rfl) rfl (get_set hm) (Nat.le_of_ble_eq_true rfl)) (rc_out (v := 4) (m := 10) (by decide) (by decide)) ?_
  refine RP.brT rfl rfl rfl (by decide) ?_
  refine RP.blk 1 (pc' := 22) (lv' := [(0, .ref 196), (1, .int (nI 4))]) (st' := [.ref 196]) (H' := _) (kc' := 0) (ks' := 0) rfl ?_
  refine RP.get (ci := 12) rfl (get_set hm) rfl rfl ?_
  refine RP.brF rfl rfl rfl (by decide) ?_
  refine RP.blk 1 (pc' := 29) (lv' := [(0, .ref 196), (1, .int (nI 4))]) (st' := [.int (nI 4)]) (H' := _) (kc' := 0) (ks' := 0) rfl ?_
  refine RP.brF rfl rfl rfl (cF_eq 4 0) ?_
  refine RP.blk 2 (pc' := 34) (lv' := [(0, .ref 196), (1, .int (nI 4))]) (st' := [.int 3, .int (nI 4)]) (H' := _) (kc' := 0) (ks' := 0) rfl ?_
  refine RP.brF rfl rfl rfl (cF_eq 4 3) ?_
  refine RP.blk 2 (pc' := 39) (lv' := [(0, .ref 196), (1, .int (nI 4))]) (st' := [.int 5, .int (nI 4)]) (H' := _) (kc' := 0) (ks' := 0) rfl ?_
  refine RP.brF rfl rfl rfl (cF_eq 4 5) ?_
  refine RP.blk 2 (pc' := 45) (lv' := [(0, .ref 196), (1, .int (nI 4))]) (st' := [.int 6, .int (nI 4)]) (H' := _) (kc' := 0) (ks' := 0) rfl ?_
  refine RP.brT rfl rfl rfl (cT_ne 4 6) ?_
  refine RP.blk 4 (pc' := 58) (lv' := [(3, .int 0), (2, .int 0), (0, .ref 196), (1, .int (nI 4))]) (st' := []) (H' := _) (kc' := 0) (ks' := 0) rfl ?_
  refine rp_mopened (get_set hm) ((set_far (by decide)).trans h5) ?_
  refine RP.blk 1 (pc' := 88) (lv' := [(3, .int (nI 8)), (2, .int (nI (cntB op 8))), (0, .ref 196), (1, .int (nI 4))]) (st' := [.int (nI 4)]) (H' := _) (kc' := 0) (ks' := 0) rfl ?_
  refine RP.blk 1 (pc' := 166) (lv' := [(3, .int (nI 8)), (2, .int (nI (cntB op 8))), (0, .ref 196), (1, .int (nI 4))]) (st' := []) (H' := _) (kc' := 0) (ks' := 0) rfl ?_
  refine RP.blk 1 (pc' := 167) (lv' := [(3, .int (nI 8)), (2, .int (nI (cntB op 8))), (0, .ref 196), (1, .int (nI 4))]) (st' := [.ref 196]) (H' := _) (kc' := 0) (ks' := 0) rfl ?_
  refine RP.get (ci := 12) rfl (get_set hm) rfl rfl ?_
  exact RP.done (c := 0) (s := 0) rfl rfl rfl rfl
theorem rc_mcount7_1 {sc : Nat × (Nat → Int32)} {d : Nat} {H : aH} {op : Nat → Bool} {fa li cw cl tp rs pr ve us pi hu : Int32} {ba bo : Nat} (hm : H[195]? = some (kO 12 (mfs fa li 1 cw cl tp rs pr ve us pi hu ba bo))) (h5 : H[205]? = some (kZ 8 op)) : RC sc (d + 1) mr_300 [.ref 196, .int (nI 7)] H (.inl (some (.int tp))) (H.set 195 (kO 12 (mfs 0 li 1 cw cl tp rs pr ve us pi hu ba bo))) 0 0 := by
  refine RP.blk 2 (pc' := 2) (lv' := [(0, .ref 196), (1, .int (nI 7))]) (st' := [.int 0, .ref 196]) (H' := _) (kc' := 0) (ks' := 0) rfl ?_
  refine RP.put (ci := 12) rfl hm rfl rfl (Nat.le_of_ble_eq_true rfl) ?_
  refine RP.blk 3 (pc' := 9) (lv' := [(0, .ref 196), (1, .int (nI 7))]) (st' := [.int 10, .int (nI 7), .ref 196]) (H' := _) (kc' := 0) (ks' := 0) rfl ?_
  refine RP.call (v := some (.int 0)) (st' := []) rfl rfl rfl rfl rfl rfl (args_v [.int 10, .int (nI 7)] [] rfl rfl (Nat.le_of_ble_eq_true rfl) rfl (get_set hm) (Nat.le_of_ble_eq_true rfl)) (rc_out (v := 7) (m := 10) (by decide) (by decide)) ?_
  refine RP.brT rfl rfl rfl (by decide) ?_
  refine RP.blk 1 (pc' := 22) (lv' := [(0, .ref 196), (1, .int (nI 7))]) (st' := [.ref 196]) (H' := _) (kc' := 0) (ks' := 0) rfl ?_
  refine RP.get (ci := 12) rfl (get_set hm) rfl rfl ?_
  refine RP.brF rfl rfl rfl (by decide) ?_
  refine RP.blk 1 (pc' := 29) (lv' := [(0, .ref 196), (1, .int (nI 7))]) (st' := [.int (nI 7)]) (H' := _) (kc' := 0) (ks' := 0) rfl ?_
  refine RP.brF rfl rfl rfl (cF_eq 7 0) ?_
  refine RP.blk 2 (pc' := 34) (lv' := [(0, .ref 196), (1, .int (nI 7))]) (st' := [.int 3, .int (nI 7)]) (H' := _) (kc' := 0) (ks' := 0) rfl ?_
  refine RP.brF rfl rfl rfl (cF_eq 7 3) ?_
  refine RP.blk 2 (pc' := 39) (lv' := [(0, .ref 196), (1, .int (nI 7))]) (st' := [.int 5, .int (nI 7)]) (H' := _) (kc' := 0) (ks' := 0) rfl ?_
  refine RP.brF rfl rfl rfl (cF_eq 7 5) ?_
  refine RP.blk 2 (pc' := 45) (lv' := [(0, .ref 196), (1, .int (nI 7))]) (st' := [.int 6, .int (nI 7)]) (H' := _) (kc' := 0) (ks' := 0) rfl ?_
  refine RP.brT rfl rfl rfl (cT_ne 7 6) ?_
  refine RP.blk 4 (pc' := 58) (lv' := [(3, .int 0), (2, .int 0), (0, .ref 196), (1, .int (nI 7))]) (st' := []) (H' := _) (kc' := 0) (ks' := 0) rfl ?_
  refine rp_mopened (get_set hm) ((set_far (by decide)).trans h5) ?_
  refine RP.blk 1 (pc' := 88) (lv' := [(3, .int (nI 8)), (2, .int (nI (cntB op 8))), (0, .ref 196), (1, .int (nI 7))]) (st' := [.int (nI 7)]) (H' := _) (kc' := 0) (ks' := 0) rfl ?_
  refine RP.blk 1 (pc' := 181) (lv' := [(3, .int (nI 8)), (2, .int (nI (cntB op 8))), (0, .ref 196), (1, .int (nI 7))]) (st' := []) (H' := _) (kc' := 0) (ks' := 0) rfl ?_
  refine RP.blk 1 (pc' := 182) (lv' := [(3, .int (nI 8)), (2, .int (nI (cntB op 8))), (0, .ref 196), (1, .int (nI 7))]) (st' := [.ref 196]) (H' := _) (kc' := 0) (ks' := 0) rfl ?_
  refine RP.get (ci := 12) rfl (get_set hm) rfl rfl ?_
  exact RP.done (c := 0) (s := 0) rfl rfl rfl rfl
theorem rc_mcount8_1 {sc : Nat × (Nat → Int32)} {d : Nat} {H : aH} {op : Nat → Bool} {fa li cw cl tp rs pr ve us pi hu : Int32} {ba bo : Nat} (hm : H[195]? = some (kO 12 (mfs fa li 1 cw cl tp rs pr ve us pi hu ba bo))) (h5 : H[205]? = some (kZ 8 op)) : RC sc (d + 1) mr_300 [.ref 196, .int (nI 8)] H (.inl (some (.int rs))) (H.set 195 (kO 12 (mfs 0 li 1 cw cl tp rs pr ve us pi hu ba bo))) 0 0 := by
  refine RP.blk 2 (pc' := 2) (lv' := [(0, .ref 196), (1, .int (nI 8))]) (st' := [.int 0, .ref 196]) (H' := _) (kc' := 0) (ks' := 0) rfl ?_
  refine RP.put (ci := 12) rfl hm rfl rfl (Nat.le_of_ble_eq_true rfl) ?_
  refine RP.blk 3 (pc' := 9) (lv' := [(0, .ref 196), (1, .int (nI 8))]) (st' := [.int 10, .int (nI 8), .ref 196]) (H' := _) (kc' := 0) (ks' := 0) rfl ?_
  refine RP.call (v := some (.int 0)) (st' := []) rfl rfl rfl rfl rfl rfl (args_v [.int 10, .int (nI 8)] [] rfl rfl (Nat.le_of_ble_eq_true rfl) rfl (get_set hm) (Nat.le_of_ble_eq_true rfl)) (rc_out (v := 8) (m := 10) (by decide) (by decide)) ?_
  refine RP.brT rfl rfl rfl (by decide) ?_
  refine RP.blk 1 (pc' := 22) (lv' := [(0, .ref 196), (1, .int (nI 8))]) (st' := [.ref 196]) (H' := _) (kc' := 0) (ks' := 0) rfl ?_
  refine RP.get (ci := 12) rfl (get_set hm) rfl rfl ?_
  refine RP.brF rfl rfl rfl (by decide) ?_
  refine RP.blk 1 (pc' := 29) (lv' := [(0, .ref 196), (1, .int (nI 8))]) (st' := [.int (nI 8)]) (H' := _) (kc' := 0) (ks' := 0) rfl ?_
  refine RP.brF rfl rfl rfl (cF_eq 8 0) ?_
  refine RP.blk 2 (pc' := 34) (lv' := [(0, .ref 196), (1, .int (nI 8))]) (st' := [.int 3, .int (nI 8)]) (H' := _) (kc' := 0) (ks' := 0) rfl ?_
  refine RP.brF rfl rfl rfl (cF_eq 8 3) ?_
  refine RP.blk 2 (pc' := 39) (lv' := [(0, .ref 196), (1, .int (nI 8))]) (st' := [.int 5, .int (nI 8)]) (H' := _) (kc' := 0) (ks' := 0) rfl ?_
  refine RP.brF rfl rfl rfl (cF_eq 8 5) ?_
  refine RP.blk 2 (pc' := 45) (lv' := [(0, .ref 196), (1, .int (nI 8))]) (st' := [.int 6, .int (nI 8)]) (H' := _) (kc' := 0) (ks' := 0) rfl ?_
  refine RP.brT rfl rfl rfl (cT_ne 8 6) ?_
  refine RP.blk 4 (pc' := 58) (lv' := [(3, .int 0), (2, .int 0), (0, .ref 196), (1, .int (nI 8))]) (st' := []) (H' := _) (kc' := 0) (ks' := 0) rfl ?_
  refine rp_mopened (get_set hm) ((set_far (by decide)).trans h5) ?_
  refine RP.blk 1 (pc' := 88) (lv' := [(3, .int (nI 8)), (2, .int (nI (cntB op 8))), (0, .ref 196), (1, .int (nI 8))]) (st' := [.int (nI 8)]) (H' := _) (kc' := 0) (ks' := 0) rfl ?_
  refine RP.blk 1 (pc' := 186) (lv' := [(3, .int (nI 8)), (2, .int (nI (cntB op 8))), (0, .ref 196), (1, .int (nI 8))]) (st' := []) (H' := _) (kc' := 0) (ks' := 0) rfl ?_
  refine RP.blk 1 (pc' := 187) (lv' := [(3, .int (nI 8)), (2, .int (nI (cntB op 8))), (0, .ref 196), (1, .int (nI 8))]) (st' := [.ref 196]) (H' := _) (kc' := 0) (ks' := 0) rfl ?_
  refine RP.get (ci := 12) rfl (get_set hm) rfl rfl ?_
  exact RP.done (c := 0) (s := 0) rfl rfl rfl rfl
theorem rc_mcount9_1_0 {sc : Nat × (Nat → Int32)} {d : Nat} {H : aH} {op : Nat → Bool} {fa li cl tp rs pr ve us pi hu : Int32} {ba bo : Nat} (hm : H[195]? = some (kO 12 (mfs fa li 1 0 cl tp rs pr ve us pi hu ba bo))) (h5 : H[205]? = some (kZ 8 op)) : RC sc (d + 1) mr_300 [.ref 196, .int (nI 9)] H (.inl (some (.int 0))) (H.set 195 (kO 12 (mfs 0 li 1 0 cl tp rs pr ve us pi hu ba bo))) 0 0 := by
  refine RP.blk 2 (pc' := 2) (lv' := [(0, .ref 196), (1, .int (nI 9))]) (st' := [.int 0, .ref 196]) (H' := _) (kc' := 0) (ks' := 0) rfl ?_
  refine RP.put (ci := 12) rfl hm rfl rfl (Nat.le_of_ble_eq_true rfl) ?_
  refine RP.blk 3 (pc' := 9) (lv' := [(0, .ref 196), (1, .int (nI 9))]) (st' := [.int 10, .int (nI 9), .ref 196]) (H' := _) (kc' := 0) (ks' := 0) rfl ?_
  refine RP.call (v := some (.int 0)) (st' := []) rfl rfl rfl rfl rfl rfl (args_v [.int 10, .int (nI 9)] [] rfl rfl (Nat.le_of_ble_eq_true rfl) rfl (get_set hm) (Nat.le_of_ble_eq_true rfl)) (rc_out (v := 9) (m := 10) (by decide) (by decide)) ?_
  refine RP.brT rfl rfl rfl (by decide) ?_
  refine RP.blk 1 (pc' := 22) (lv' := [(0, .ref 196), (1, .int (nI 9))]) (st' := [.ref 196]) (H' := _) (kc' := 0) (ks' := 0) rfl ?_
  refine RP.get (ci := 12) rfl (get_set hm) rfl rfl ?_
  refine RP.brF rfl rfl rfl (by decide) ?_
  refine RP.blk 1 (pc' := 29) (lv' := [(0, .ref 196), (1, .int (nI 9))]) (st' := [.int (nI 9)]) (H' := _) (kc' := 0) (ks' := 0) rfl ?_
  refine RP.brF rfl rfl rfl (cF_eq 9 0) ?_
  refine RP.blk 2 (pc' := 34) (lv' := [(0, .ref 196), (1, .int (nI 9))]) (st' := [.int 3, .int (nI 9)]) (H' := _) (kc' := 0) (ks' := 0) rfl ?_
  refine RP.brF rfl rfl rfl (cF_eq 9 3) ?_
  refine RP.blk 2 (pc' := 39) (lv' := [(0, .ref 196), (1, .int (nI 9))]) (st' := [.int 5, .int (nI 9)]) (H' := _) (kc' := 0) (ks' := 0) rfl ?_
  refine RP.brF rfl rfl rfl (cF_eq 9 5) ?_
  refine RP.blk 2 (pc' := 45) (lv' := [(0, .ref 196), (1, .int (nI 9))]) (st' := [.int 6, .int (nI 9)]) (H' := _) (kc' := 0) (ks' := 0) rfl ?_
  refine RP.brT rfl rfl rfl (cT_ne 9 6) ?_
  refine RP.blk 4 (pc' := 58) (lv' := [(3, .int 0), (2, .int 0), (0, .ref 196), (1, .int (nI 9))]) (st' := []) (H' := _) (kc' := 0) (ks' := 0) rfl ?_
  refine rp_mopened (get_set hm) ((set_far (by decide)).trans h5) ?_
  refine RP.blk 1 (pc' := 88) (lv' := [(3, .int (nI 8)), (2, .int (nI (cntB op 8))), (0, .ref 196), (1, .int (nI 9))]) (st' := [.int (nI 9)]) (H' := _) (kc' := 0) (ks' := 0) rfl ?_
  refine RP.blk 1 (pc' := 191) (lv' := [(3, .int (nI 8)), (2, .int (nI (cntB op 8))), (0, .ref 196), (1, .int (nI 9))]) (st' := []) (H' := _) (kc' := 0) (ks' := 0) rfl ?_
  refine RP.blk 1 (pc' := 192) (lv' := [(3, .int (nI 8)), (2, .int (nI (cntB op 8))), (0, .ref 196), (1, .int (nI 9))]) (st' := [.ref 196]) (H' := _) (kc' := 0) (ks' := 0) rfl ?_
  refine RP.get (ci := 12) rfl (get_set hm) rfl rfl ?_
  refine RP.brT rfl rfl rfl (by decide) ?_
  refine RP.blk 1 (pc' := 203) (lv' := [(3, .int (nI 8)), (2, .int (nI (cntB op 8))), (0, .ref 196), (1, .int (nI 9))]) (st' := [.int 0]) (H' := _) (kc' := 0) (ks' := 0) rfl ?_
  exact RP.done (c := 0) (s := 0) rfl rfl rfl rfl
theorem rc_mcount9_1_1 {sc : Nat × (Nat → Int32)} {d : Nat} {H : aH} {op : Nat → Bool} {fa li cl tp rs pr ve us pi hu : Int32} {ba bo : Nat} (hm : H[195]? = some (kO 12 (mfs fa li 1 1 cl tp rs pr ve us pi hu ba bo))) (h5 : H[205]? = some (kZ 8 op)) : RC sc (d + 1) mr_300 [.ref 196, .int (nI 9)] H (.inl (some (.int 1))) (H.set 195 (kO 12 (mfs 0 li 1 1 cl tp rs pr ve us pi hu ba bo))) 0 0 := by
  refine RP.blk 2 (pc' := 2) (lv' := [(0, .ref 196), (1, .int (nI 9))]) (st' := [.int 0, .ref 196]) (H' := _) (kc' := 0) (ks' := 0) rfl ?_
  refine RP.put (ci := 12) rfl hm rfl rfl (Nat.le_of_ble_eq_true rfl) ?_
  refine RP.blk 3 (pc' := 9) (lv' := [(0, .ref 196), (1, .int (nI 9))]) (st' := [.int 10, .int (nI 9), .ref 196]) (H' := _) (kc' := 0) (ks' := 0) rfl ?_
  refine RP.call (v := some (.int 0)) (st' := []) rfl rfl rfl rfl rfl rfl (args_v [.int 10, .int (nI 9)] [] rfl rfl (Nat.le_of_ble_eq_true rfl) rfl (get_set hm) (Nat.le_of_ble_eq_true rfl)) (rc_out (v := 9) (m := 10) (by decide) (by decide)) ?_
  refine RP.brT rfl rfl rfl (by decide) ?_
  refine RP.blk 1 (pc' := 22) (lv' := [(0, .ref 196), (1, .int (nI 9))]) (st' := [.ref 196]) (H' := _) (kc' := 0) (ks' := 0) rfl ?_
  refine RP.get (ci := 12) rfl (get_set hm) rfl rfl ?_
  refine RP.brF rfl rfl rfl (by decide) ?_
  refine RP.blk 1 (pc' := 29) (lv' := [(0, .ref 196), (1, .int (nI 9))]) (st' := [.int (nI 9)]) (H' := _) (kc' := 0) (ks' := 0) rfl ?_
  refine RP.brF rfl rfl rfl (cF_eq 9 0) ?_
  refine RP.blk 2 (pc' := 34) (lv' := [(0, .ref 196), (1, .int (nI 9))]) (st' := [.int 3, .int (nI 9)]) (H' := _) (kc' := 0) (ks' := 0) rfl ?_
  refine RP.brF rfl rfl rfl (cF_eq 9 3) ?_
  refine RP.blk 2 (pc' := 39) (lv' := [(0, .ref 196), (1, .int (nI 9))]) (st' := [.int 5, .int (nI 9)]) (H' := _) (kc' := 0) (ks' := 0) rfl ?_
  refine RP.brF rfl rfl rfl (cF_eq 9 5) ?_
  refine RP.blk 2 (pc' := 45) (lv' := [(0, .ref 196), (1, .int (nI 9))]) (st' := [.int 6, .int (nI 9)]) (H' := _) (kc' := 0) (ks' := 0) rfl ?_
  refine RP.brT rfl rfl rfl (cT_ne 9 6) ?_
  refine RP.blk 4 (pc' := 58) (lv' := [(3, .int 0), (2, .int 0), (0, .ref 196), (1, .int (nI 9))]) (st' := []) (H' := _) (kc' := 0) (ks' := 0) rfl ?_
  refine rp_mopened (get_set hm) ((set_far (by decide)).trans h5) ?_
  refine RP.blk 1 (pc' := 88) (lv' := [(3, .int (nI 8)), (2, .int (nI (cntB op 8))), (0, .ref 196), (1, .int (nI 9))]) (st' := [.int (nI 9)]) (H' := _) (kc' := 0) (ks' := 0) rfl ?_
  refine RP.blk 1 (pc' := 191) (lv' := [(3, .int (nI 8)), (2, .int (nI (cntB op 8))), (0, .ref 196), (1, .int (nI 9))]) (st' := []) (H' := _) (kc' := 0) (ks' := 0) rfl ?_
  refine RP.blk 1 (pc' := 192) (lv' := [(3, .int (nI 8)), (2, .int (nI (cntB op 8))), (0, .ref 196), (1, .int (nI 9))]) (st' := [.ref 196]) (H' := _) (kc' := 0) (ks' := 0) rfl ?_
  refine RP.get (ci := 12) rfl (get_set hm) rfl rfl ?_
  refine RP.brF rfl rfl rfl (by decide) ?_
  refine RP.blk 2 (pc' := 203) (lv' := [(3, .int (nI 8)), (2, .int (nI (cntB op 8))), (0, .ref 196), (1, .int (nI 9))]) (st' := [.int 1]) (H' := _) (kc' := 0) (ks' := 0) rfl ?_
  exact RP.done (c := 0) (s := 0) rfl rfl rfl rfl
theorem rc_mcount0_down {sc : Nat × (Nat → Int32)} {d : Nat} {H : aH} {fa li cw cl tp rs pr ve us pi hu : Int32} {ba bo : Nat} (hm : H[195]? = some (kO 12 (mfs fa li 1 cw cl tp rs pr ve us pi hu ba bo))) : RC sc (d + 1) mr_300 [.ref 196, .int (nI 0)] H (.inl (some (.int 0))) (H.set 195 (kO 12 (mfs 2 li 1 cw cl tp rs pr ve us pi hu ba bo))) 0 0 := by
  refine RP.blk 2 (pc' := 2) (lv' := [(0, .ref 196), (1, .int (nI 0))]) (st' := [.int 0, .ref 196]) (H' := _) (kc' := 0) (ks' := 0) rfl ?_
  refine RP.put (ci := 12) rfl hm rfl rfl (Nat.le_of_ble_eq_true rfl) ?_
  refine RP.blk 3 (pc' := 9) (lv' := [(0, .ref 196), (1, .int (nI 0))]) (st' := [.int 10, .int (nI 0), .ref 196]) (H' := _) (kc' := 0) (ks' := 0) rfl ?_
  refine RP.call (v := some (.int 0)) (st' := []) rfl rfl rfl rfl rfl rfl (args_v [.int 10, .int (nI 0)] [] rfl rfl (Nat.le_of_ble_eq_true rfl) rfl (get_set hm) (Nat.le_of_ble_eq_true rfl)) (rc_out (v := 0) (m := 10) (by decide) (by decide)) ?_
  refine RP.brT rfl rfl rfl (by decide) ?_
  refine RP.blk 1 (pc' := 22) (lv' := [(0, .ref 196), (1, .int (nI 0))]) (st' := [.ref 196]) (H' := _) (kc' := 0) (ks' := 0) rfl ?_
  refine RP.get (ci := 12) rfl (get_set hm) rfl rfl ?_
  refine RP.brF rfl rfl rfl (by decide) ?_
  refine RP.blk 1 (pc' := 29) (lv' := [(0, .ref 196), (1, .int (nI 0))]) (st' := [.int (nI 0)]) (H' := _) (kc' := 0) (ks' := 0) rfl ?_
  refine RP.brT rfl rfl rfl (cT_eq 0 0) ?_
  refine RP.blk 2 (pc' := 50) (lv' := [(0, .ref 196), (1, .int (nI 0))]) (st' := [.int 2, .ref 196]) (H' := _) (kc' := 0) (ks' := 0) rfl ?_
  refine RP.call (v := some (.int 0)) (st' := []) rfl rfl rfl rfl rfl rfl (args_v [.int 2] [] rfl rfl (Nat.le_of_ble_eq_true rfl) rfl (get_set hm) (Nat.le_of_ble_eq_true rfl)) (rc_mfail (get_set hm) rfl) ?_
  rw [set_set]
  exact RP.done (c := 0) (s := 0) rfl rfl rfl rfl
theorem rc_mcount3_down {sc : Nat × (Nat → Int32)} {d : Nat} {H : aH} {fa li cw cl tp rs pr ve us pi hu : Int32} {ba bo : Nat} (hm : H[195]? = some (kO 12 (mfs fa li 1 cw cl tp rs pr ve us pi hu ba bo))) : RC sc (d + 1) mr_300 [.ref 196, .int (nI 3)] H (.inl (some (.int 0))) (H.set 195 (kO 12 (mfs 2 li 1 cw cl tp rs pr ve us pi hu ba bo))) 0 0 := by
  refine RP.blk 2 (pc' := 2) (lv' := [(0, .ref 196), (1, .int (nI 3))]) (st' := [.int 0, .ref 196]) (H' := _) (kc' := 0) (ks' := 0) rfl ?_
  refine RP.put (ci := 12) rfl hm rfl rfl (Nat.le_of_ble_eq_true rfl) ?_
  refine RP.blk 3 (pc' := 9) (lv' := [(0, .ref 196), (1, .int (nI 3))]) (st' := [.int 10, .int (nI 3), .ref 196]) (H' := _) (kc' := 0) (ks' := 0) rfl ?_
  refine RP.call (v := some (.int 0)) (st' := []) rfl rfl rfl rfl rfl rfl (args_v [.int 10, .int (nI 3)] [] rfl rfl (Nat.le_of_ble_eq_true rfl) rfl (get_set hm) (Nat.le_of_ble_eq_true rfl)) (rc_out (v := 3) (m := 10) (by decide) (by decide)) ?_
  refine RP.brT rfl rfl rfl (by decide) ?_
  refine RP.blk 1 (pc' := 22) (lv' := [(0, .ref 196), (1, .int (nI 3))]) (st' := [.ref 196]) (H' := _) (kc' := 0) (ks' := 0) rfl ?_
  refine RP.get (ci := 12) rfl (get_set hm) rfl rfl ?_
  refine RP.brF rfl rfl rfl (by decide) ?_
  refine RP.blk 1 (pc' := 29) (lv' := [(0, .ref 196), (1, .int (nI 3))]) (st' := [.int (nI 3)]) (H' := _) (kc' := 0) (ks' := 0) rfl ?_
  refine RP.brF rfl rfl rfl (cF_eq 3 0) ?_
  refine RP.blk 2 (pc' := 34) (lv' := [(0, .ref 196), (1, .int (nI 3))]) (st' := [.int 3, .int (nI 3)]) (H' := _) (kc' := 0) (ks' := 0) rfl ?_
  refine RP.brT rfl rfl rfl (cT_eq 3 3) ?_
  refine RP.blk 2 (pc' := 50) (lv' := [(0, .ref 196), (1, .int (nI 3))]) (st' := [.int 2, .ref 196]) (H' := _) (kc' := 0) (ks' := 0) rfl ?_
  refine RP.call (v := some (.int 0)) (st' := []) rfl rfl rfl rfl rfl rfl (args_v [.int 2] [] rfl rfl (Nat.le_of_ble_eq_true rfl) rfl (get_set hm) (Nat.le_of_ble_eq_true rfl)) (rc_mfail (get_set hm) rfl) ?_
  rw [set_set]
  exact RP.done (c := 0) (s := 0) rfl rfl rfl rfl
theorem rc_mcount5_down {sc : Nat × (Nat → Int32)} {d : Nat} {H : aH} {fa li cw cl tp rs pr ve us pi hu : Int32} {ba bo : Nat} (hm : H[195]? = some (kO 12 (mfs fa li 1 cw cl tp rs pr ve us pi hu ba bo))) : RC sc (d + 1) mr_300 [.ref 196, .int (nI 5)] H (.inl (some (.int 0))) (H.set 195 (kO 12 (mfs 2 li 1 cw cl tp rs pr ve us pi hu ba bo))) 0 0 := by
  refine RP.blk 2 (pc' := 2) (lv' := [(0, .ref 196), (1, .int (nI 5))]) (st' := [.int 0, .ref 196]) (H' := _) (kc' := 0) (ks' := 0) rfl ?_
  refine RP.put (ci := 12) rfl hm rfl rfl (Nat.le_of_ble_eq_true rfl) ?_
  refine RP.blk 3 (pc' := 9) (lv' := [(0, .ref 196), (1, .int (nI 5))]) (st' := [.int 10, .int (nI 5), .ref 196]) (H' := _) (kc' := 0) (ks' := 0) rfl ?_
  refine RP.call (v := some (.int 0)) (st' := []) rfl rfl rfl rfl rfl rfl (args_v [.int 10, .int (nI 5)] [] rfl rfl (Nat.le_of_ble_eq_true rfl) rfl (get_set hm) (Nat.le_of_ble_eq_true rfl)) (rc_out (v := 5) (m := 10) (by decide) (by decide)) ?_
  refine RP.brT rfl rfl rfl (by decide) ?_
  refine RP.blk 1 (pc' := 22) (lv' := [(0, .ref 196), (1, .int (nI 5))]) (st' := [.ref 196]) (H' := _) (kc' := 0) (ks' := 0) rfl ?_
  refine RP.get (ci := 12) rfl (get_set hm) rfl rfl ?_
  refine RP.brF rfl rfl rfl (by decide) ?_
  refine RP.blk 1 (pc' := 29) (lv' := [(0, .ref 196), (1, .int (nI 5))]) (st' := [.int (nI 5)]) (H' := _) (kc' := 0) (ks' := 0) rfl ?_
  refine RP.brF rfl rfl rfl (cF_eq 5 0) ?_
  refine RP.blk 2 (pc' := 34) (lv' := [(0, .ref 196), (1, .int (nI 5))]) (st' := [.int 3, .int (nI 5)]) (H' := _) (kc' := 0) (ks' := 0) rfl ?_
  refine RP.brF rfl rfl rfl (cF_eq 5 3) ?_
  refine RP.blk 2 (pc' := 39) (lv' := [(0, .ref 196), (1, .int (nI 5))]) (st' := [.int 5, .int (nI 5)]) (H' := _) (kc' := 0) (ks' := 0) rfl ?_
  refine RP.brT rfl rfl rfl (cT_eq 5 5) ?_
  refine RP.blk 2 (pc' := 50) (lv' := [(0, .ref 196), (1, .int (nI 5))]) (st' := [.int 2, .ref 196]) (H' := _) (kc' := 0) (ks' := 0) rfl ?_
  refine RP.call (v := some (.int 0)) (st' := []) rfl rfl rfl rfl rfl rfl (args_v [.int 2] [] rfl rfl (Nat.le_of_ble_eq_true rfl) rfl (get_set hm) (Nat.le_of_ble_eq_true rfl)) (rc_mfail (get_set hm) rfl) ?_
  rw [set_set]
  exact RP.done (c := 0) (s := 0) rfl rfl rfl rfl
theorem rc_mcount6_down {sc : Nat × (Nat → Int32)} {d : Nat} {H : aH} {fa li cw cl tp rs pr ve us pi hu : Int32} {ba bo : Nat} (hm : H[195]? = some (kO 12 (mfs fa li 1 cw cl tp rs pr ve us pi hu ba bo))) : RC sc (d + 1) mr_300 [.ref 196, .int (nI 6)] H (.inl (some (.int 0))) (H.set 195 (kO 12 (mfs 2 li 1 cw cl tp rs pr ve us pi hu ba bo))) 0 0 := by
  refine RP.blk 2 (pc' := 2) (lv' := [(0, .ref 196), (1, .int (nI 6))]) (st' := [.int 0, .ref 196]) (H' := _) (kc' := 0) (ks' := 0) rfl ?_
  refine RP.put (ci := 12) rfl hm rfl rfl (Nat.le_of_ble_eq_true rfl) ?_
  refine RP.blk 3 (pc' := 9) (lv' := [(0, .ref 196), (1, .int (nI 6))]) (st' := [.int 10, .int (nI 6), .ref 196]) (H' := _) (kc' := 0) (ks' := 0) rfl ?_
  refine RP.call (v := some (.int 0)) (st' := []) rfl rfl rfl rfl rfl rfl (args_v [.int 10, .int (nI 6)] [] rfl rfl (Nat.le_of_ble_eq_true rfl) rfl (get_set hm) (Nat.le_of_ble_eq_true rfl)) (rc_out (v := 6) (m := 10) (by decide) (by decide)) ?_
  refine RP.brT rfl rfl rfl (by decide) ?_
  refine RP.blk 1 (pc' := 22) (lv' := [(0, .ref 196), (1, .int (nI 6))]) (st' := [.ref 196]) (H' := _) (kc' := 0) (ks' := 0) rfl ?_
  refine RP.get (ci := 12) rfl (get_set hm) rfl rfl ?_
  refine RP.brF rfl rfl rfl (by decide) ?_
  refine RP.blk 1 (pc' := 29) (lv' := [(0, .ref 196), (1, .int (nI 6))]) (st' := [.int (nI 6)]) (H' := _) (kc' := 0) (ks' := 0) rfl ?_
  refine RP.brF rfl rfl rfl (cF_eq 6 0) ?_
  refine RP.blk 2 (pc' := 34) (lv' := [(0, .ref 196), (1, .int (nI 6))]) (st' := [.int 3, .int (nI 6)]) (H' := _) (kc' := 0) (ks' := 0) rfl ?_
  refine RP.brF rfl rfl rfl (cF_eq 6 3) ?_
  refine RP.blk 2 (pc' := 39) (lv' := [(0, .ref 196), (1, .int (nI 6))]) (st' := [.int 5, .int (nI 6)]) (H' := _) (kc' := 0) (ks' := 0) rfl ?_
  refine RP.brF rfl rfl rfl (cF_eq 6 5) ?_
  refine RP.blk 2 (pc' := 45) (lv' := [(0, .ref 196), (1, .int (nI 6))]) (st' := [.int 6, .int (nI 6)]) (H' := _) (kc' := 0) (ks' := 0) rfl ?_
  refine RP.brF rfl rfl rfl (cF_ne 6 6) ?_
  refine RP.blk 2 (pc' := 50) (lv' := [(0, .ref 196), (1, .int (nI 6))]) (st' := [.int 2, .ref 196]) (H' := _) (kc' := 0) (ks' := 0) rfl ?_
  refine RP.call (v := some (.int 0)) (st' := []) rfl rfl rfl rfl rfl rfl (args_v [.int 2] [] rfl rfl (Nat.le_of_ble_eq_true rfl) rfl (get_set hm) (Nat.le_of_ble_eq_true rfl)) (rc_mfail (get_set hm) rfl) ?_
  rw [set_set]
  exact RP.done (c := 0) (s := 0) rfl rfl rfl rfl
theorem rc_mcount6 {sc : Nat × (Nat → Int32)} {d : Nat} {H : aH} {op : Nat → Bool} {fa li cw cl tp rs pr ve us pi hu : Int32} {ba bo : Nat} {kd pa sz nl : Nat → Nat} {nm : Nat → Int8} (hm : H[195]? = some (kO 12 (mfs fa li 0 cw cl tp rs pr ve us pi hu ba bo))) (h5 : H[205]? = some (kZ 8 op)) (h : MTreeAt H kd pa sz nl nm) (hk : TreeOk kd pa sz nl) : RC sc (d + 1) mr_300 [.ref 196, .int (nI 6)] H (.inl (some (.int (nI (sumF (fun v => if kd v = 0 then 0 else 1) 200))))) (H.set 195 (kO 12 (mfs 0 li 0 cw cl tp rs pr ve us pi hu ba bo))) 0 0 := by
  have h6 : MTreeAt (H.set 195 (kO 12 (mfs 0 li 0 cw cl tp rs pr ve us pi hu ba bo))) kd pa sz nl nm := ⟨(set_far (by decide)).trans h.1, (set_far (by decide)).trans h.2.1, (set_far (by decide)).trans h.2.2.1, (set_far (by decide)).trans h.2.2.2.1, (set_far (by decide)).trans h.2.2.2.2⟩
  refine RP.blk 2 (pc' := 2) (lv' := [(0, .ref 196), (1, .int (nI 6))]) (st' := [.int 0, .ref 196]) (H' := _) (kc' := 0) (ks' := 0) rfl ?_
  refine RP.put (ci := 12) rfl hm rfl rfl (Nat.le_of_ble_eq_true rfl) ?_
  refine RP.blk 3 (pc' := 9) (lv' := [(0, .ref 196), (1, .int (nI 6))]) (st' := [.int 10, .int (nI 6), .ref 196]) (H' := _) (kc' := 0) (ks' := 0) rfl ?_
  refine RP.call (v := some (.int 0)) (st' := []) rfl rfl rfl rfl rfl rfl (args_v [.int 10, .int (nI 6)] [] rfl rfl (Nat.le_of_ble_eq_true rfl) rfl (get_set hm) (Nat.le_of_ble_eq_true rfl)) (rc_out (v := 6) (m := 10) (by decide) (by decide)) ?_
  refine RP.brT rfl rfl rfl (by decide) ?_
  refine RP.blk 1 (pc' := 22) (lv' := [(0, .ref 196), (1, .int (nI 6))]) (st' := [.ref 196]) (H' := _) (kc' := 0) (ks' := 0) rfl ?_
  refine RP.get (ci := 12) rfl (get_set hm) rfl rfl ?_
  refine RP.brT rfl rfl rfl (by decide) ?_
  refine RP.blk 4 (pc' := 58) (lv' := [(3, .int 0), (2, .int 0), (0, .ref 196), (1, .int (nI 6))]) (st' := []) (H' := _) (kc' := 0) (ks' := 0) rfl ?_
  refine rp_mopened (get_set hm) ((set_far (by decide)).trans h5) ?_
  refine RP.blk 1 (pc' := 88) (lv' := [(3, .int (nI 8)), (2, .int (nI (cntB op 8))), (0, .ref 196), (1, .int (nI 6))]) (st' := [.int (nI 6)]) (H' := _) (kc' := 0) (ks' := 0) rfl ?_
  refine RP.blk 1 (pc' := 176) (lv' := [(3, .int (nI 8)), (2, .int (nI (cntB op 8))), (0, .ref 196), (1, .int (nI 6))]) (st' := []) (H' := _) (kc' := 0) (ks' := 0) rfl ?_
  refine RP.blk 1 (pc' := 177) (lv' := [(3, .int (nI 8)), (2, .int (nI (cntB op 8))), (0, .ref 196), (1, .int (nI 6))]) (st' := [.ref 196]) (H' := _) (kc' := 0) (ks' := 0) rfl ?_
  refine RP.call (v := some (.int (nI (sumF (fun v => if kd v = 0 then 0 else 1) 200)))) (st' := []) rfl rfl rfl rfl rfl rfl (args_v [] [] rfl rfl (Nat.le_of_ble_eq_true rfl) rfl (get_set hm) (Nat.le_of_ble_eq_true rfl)) (rc_mnumbers (get_set hm) h6 hk) ?_
  exact RP.done (c := 0) (s := 0) rfl rfl rfl rfl
