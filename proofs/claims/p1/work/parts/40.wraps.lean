/-! ===== the law's wrappers; written by wip/gen/wraps.py ===== -/
set_option maxRecDepth 100000 in
set_option maxHeartbeats 1000000 in
theorem rc_w1 {sc : Nat × (Nat → Int32)} {d c s : Nat} {H H' : aH} {f0 : List Value} {f : Nat → Int64} {v : Int32} {x1 x2 : Int32} (h0 : H[0]? = some (kO 11 f0)) (hr : RC sc d mr_23 [.ref 1, .int x1, .int x2] H (.inl (some (.int v))) H' c s) (h224 : H'[224]? = some (kJ 1 f)) : RC sc (d + 1) mr_22 [.ref 1, .int x1, .int x2, .ref 225] H (.inl (some (.int 0))) (H'.set 224 (kJ 1 (va_up f 0 v.toInt64))) c s := by
  refine RP.blk 5 (pc' := 5) (lv' := [(0, .ref 1), (1, .int x1), (2, .int x2), (3, .ref 225)]) (st' := [.int x2, .int x1, .ref 1, .int 0, .ref 225]) (H' := H) (kc' := 0) (ks' := 0) rfl ?_
  refine RP.call (v := some (.int v)) (st' := [.int 0, .ref 225]) rfl rfl rfl rfl rfl rfl (args_v2 (a := 0) rfl rfl (by decide) rfl h0 (by decide)) hr ?_
  rw [Nat.zero_add, Nat.zero_add]
  refine RP.blk 1 (pc' := 9) (lv' := [(0, .ref 1), (1, .int x1), (2, .int x2), (3, .ref 225)]) (st' := [.long v.toInt64, .int 0, .ref 225]) (H' := H') (kc' := c) (ks' := s) rfl ?_
  refine RP.last (a := 224) rfl h224 rfl ?_
  refine RP.blk 2 (pc' := 26) (lv' := [(0, .ref 1), (1, .int x1), (2, .int x2), (3, .ref 225)]) (st' := [.int 0]) (H' := _) (kc' := c) (ks' := s) rfl ?_
  exact RP.done (c := 0) (s := 0) rfl rfl rfl rfl
set_option maxRecDepth 100000 in
set_option maxHeartbeats 1000000 in
theorem rc_w1X0 {sc : Nat × (Nat → Int32)} {d c s : Nat} {H H' : aH} {f0 : List Value} {x1 x2 : Int32} (h0 : H[0]? = some (kO 11 f0)) (hr : RC sc d mr_23 [.ref 1, .int x1, .int x2] H (.inr 0) H' c s) : RC sc (d + 1) mr_22 [.ref 1, .int x1, .int x2, .ref 225] H (.inl (some (.int 1))) H' c s := by
  refine RP.blk 5 (pc' := 5) (lv' := [(0, .ref 1), (1, .int x1), (2, .int x2), (3, .ref 225)]) (st' := [.int x2, .int x1, .ref 1, .int 0, .ref 225]) (H' := H) (kc' := 0) (ks' := 0) rfl ?_
  refine RP.callX (st' := [.int 0, .ref 225]) rfl rfl rfl rfl rfl rfl (args_v2 (a := 0) rfl rfl (by decide) rfl h0 (by decide)) hr rfl ?_
  rw [Nat.zero_add, Nat.zero_add]
  refine RP.blk 1 (pc' := 16) (lv' := [(0, .ref 1), (1, .int x1), (2, .int x2), (3, .ref 225)]) (st' := [.int 1]) (H' := H') (kc' := c) (ks' := s) rfl ?_
  exact RP.done (c := 0) (s := 0) rfl rfl rfl rfl
set_option maxRecDepth 100000 in
set_option maxHeartbeats 1000000 in
theorem rc_w1X1 {sc : Nat × (Nat → Int32)} {d c s : Nat} {H H' : aH} {f0 : List Value} {x1 x2 : Int32} (h0 : H[0]? = some (kO 11 f0)) (hr : RC sc d mr_23 [.ref 1, .int x1, .int x2] H (.inr 1) H' c s) : RC sc (d + 1) mr_22 [.ref 1, .int x1, .int x2, .ref 225] H (.inl (some (.int 2))) H' c s := by
  refine RP.blk 5 (pc' := 5) (lv' := [(0, .ref 1), (1, .int x1), (2, .int x2), (3, .ref 225)]) (st' := [.int x2, .int x1, .ref 1, .int 0, .ref 225]) (H' := H) (kc' := 0) (ks' := 0) rfl ?_
  refine RP.callX (st' := [.int 0, .ref 225]) rfl rfl rfl rfl rfl rfl (args_v2 (a := 0) rfl rfl (by decide) rfl h0 (by decide)) hr rfl ?_
  rw [Nat.zero_add, Nat.zero_add]
  refine RP.blk 1 (pc' := 20) (lv' := [(0, .ref 1), (1, .int x1), (2, .int x2), (3, .ref 225)]) (st' := [.int 2]) (H' := H') (kc' := c) (ks' := s) rfl ?_
  exact RP.done (c := 0) (s := 0) rfl rfl rfl rfl
set_option maxRecDepth 100000 in
set_option maxHeartbeats 1000000 in
theorem rc_w1X2 {sc : Nat × (Nat → Int32)} {d c s : Nat} {H H' : aH} {f0 : List Value} {x1 x2 : Int32} (h0 : H[0]? = some (kO 11 f0)) (hr : RC sc d mr_23 [.ref 1, .int x1, .int x2] H (.inr 2) H' c s) : RC sc (d + 1) mr_22 [.ref 1, .int x1, .int x2, .ref 225] H (.inl (some (.int 3))) H' c s := by
  refine RP.blk 5 (pc' := 5) (lv' := [(0, .ref 1), (1, .int x1), (2, .int x2), (3, .ref 225)]) (st' := [.int x2, .int x1, .ref 1, .int 0, .ref 225]) (H' := H) (kc' := 0) (ks' := 0) rfl ?_
  refine RP.callX (st' := [.int 0, .ref 225]) rfl rfl rfl rfl rfl rfl (args_v2 (a := 0) rfl rfl (by decide) rfl h0 (by decide)) hr rfl ?_
  rw [Nat.zero_add, Nat.zero_add]
  refine RP.blk 1 (pc' := 24) (lv' := [(0, .ref 1), (1, .int x1), (2, .int x2), (3, .ref 225)]) (st' := [.int 3]) (H' := H') (kc' := c) (ks' := s) rfl ?_
  exact RP.done (c := 0) (s := 0) rfl rfl rfl rfl
set_option maxRecDepth 100000 in
set_option maxHeartbeats 1000000 in
theorem rc_w2 {sc : Nat × (Nat → Int32)} {d c s : Nat} {H H' : aH} {f0 : List Value} {f : Nat → Int64} {v : Int32} {x1 : Int32} (h0 : H[0]? = some (kO 11 f0)) (hr : RC sc d mr_26 [.ref 1, .int x1] H (.inl (some (.int v))) H' c s) (h224 : H'[224]? = some (kJ 1 f)) : RC sc (d + 1) mr_25 [.ref 1, .int x1, .ref 225] H (.inl (some (.int 0))) (H'.set 224 (kJ 1 (va_up f 0 v.toInt64))) c s := by
  refine RP.blk 4 (pc' := 4) (lv' := [(0, .ref 1), (1, .int x1), (2, .ref 225)]) (st' := [.int x1, .ref 1, .int 0, .ref 225]) (H' := H) (kc' := 0) (ks' := 0) rfl ?_
  refine RP.call (v := some (.int v)) (st' := [.int 0, .ref 225]) rfl rfl rfl rfl rfl rfl (args_v1 (a := 0) rfl rfl (by decide) rfl h0 (by decide)) hr ?_
  rw [Nat.zero_add, Nat.zero_add]
  refine RP.blk 1 (pc' := 8) (lv' := [(0, .ref 1), (1, .int x1), (2, .ref 225)]) (st' := [.long v.toInt64, .int 0, .ref 225]) (H' := H') (kc' := c) (ks' := s) rfl ?_
  refine RP.last (a := 224) rfl h224 rfl ?_
  refine RP.blk 2 (pc' := 19) (lv' := [(0, .ref 1), (1, .int x1), (2, .ref 225)]) (st' := [.int 0]) (H' := _) (kc' := c) (ks' := s) rfl ?_
  exact RP.done (c := 0) (s := 0) rfl rfl rfl rfl
set_option maxRecDepth 100000 in
set_option maxHeartbeats 1000000 in
theorem rc_w2X0 {sc : Nat × (Nat → Int32)} {d c s : Nat} {H H' : aH} {f0 : List Value} {x1 : Int32} (h0 : H[0]? = some (kO 11 f0)) (hr : RC sc d mr_26 [.ref 1, .int x1] H (.inr 0) H' c s) : RC sc (d + 1) mr_25 [.ref 1, .int x1, .ref 225] H (.inl (some (.int 1))) H' c s := by
  refine RP.blk 4 (pc' := 4) (lv' := [(0, .ref 1), (1, .int x1), (2, .ref 225)]) (st' := [.int x1, .ref 1, .int 0, .ref 225]) (H' := H) (kc' := 0) (ks' := 0) rfl ?_
  refine RP.callX (st' := [.int 0, .ref 225]) rfl rfl rfl rfl rfl rfl (args_v1 (a := 0) rfl rfl (by decide) rfl h0 (by decide)) hr rfl ?_
  rw [Nat.zero_add, Nat.zero_add]
  refine RP.blk 1 (pc' := 14) (lv' := [(0, .ref 1), (1, .int x1), (2, .ref 225)]) (st' := [.int 1]) (H' := H') (kc' := c) (ks' := s) rfl ?_
  exact RP.done (c := 0) (s := 0) rfl rfl rfl rfl
set_option maxRecDepth 100000 in
set_option maxHeartbeats 1000000 in
theorem rc_w2X1 {sc : Nat × (Nat → Int32)} {d c s : Nat} {H H' : aH} {f0 : List Value} {x1 : Int32} (h0 : H[0]? = some (kO 11 f0)) (hr : RC sc d mr_26 [.ref 1, .int x1] H (.inr 1) H' c s) : RC sc (d + 1) mr_25 [.ref 1, .int x1, .ref 225] H (.inl (some (.int 2))) H' c s := by
  refine RP.blk 4 (pc' := 4) (lv' := [(0, .ref 1), (1, .int x1), (2, .ref 225)]) (st' := [.int x1, .ref 1, .int 0, .ref 225]) (H' := H) (kc' := 0) (ks' := 0) rfl ?_
  refine RP.callX (st' := [.int 0, .ref 225]) rfl rfl rfl rfl rfl rfl (args_v1 (a := 0) rfl rfl (by decide) rfl h0 (by decide)) hr rfl ?_
  rw [Nat.zero_add, Nat.zero_add]
  refine RP.blk 1 (pc' := 17) (lv' := [(0, .ref 1), (1, .int x1), (2, .ref 225)]) (st' := [.int 2]) (H' := H') (kc' := c) (ks' := s) rfl ?_
  exact RP.done (c := 0) (s := 0) rfl rfl rfl rfl
set_option maxRecDepth 100000 in
set_option maxHeartbeats 1000000 in
theorem rc_w3 {sc : Nat × (Nat → Int32)} {d c s : Nat} {H H' : aH} {f0 : List Value} {f : Nat → Int64} {v : Int32} (h0 : H[0]? = some (kO 11 f0)) (hr : RC sc d mr_28 [.ref 1] H (.inl (some (.int v))) H' c s) (h224 : H'[224]? = some (kJ 1 f)) : RC sc (d + 1) mr_27 [.ref 1, .ref 225] H (.inl (some (.int 0))) (H'.set 224 (kJ 1 (va_up f 0 v.toInt64))) c s := by
  refine RP.blk 3 (pc' := 3) (lv' := [(0, .ref 1), (1, .ref 225)]) (st' := [.ref 1, .int 0, .ref 225]) (H' := H) (kc' := 0) (ks' := 0) rfl ?_
  refine RP.call (v := some (.int v)) (st' := [.int 0, .ref 225]) rfl rfl rfl rfl rfl rfl (args_v0 (a := 0) rfl rfl (by decide) rfl h0 (by decide)) hr ?_
  rw [Nat.zero_add, Nat.zero_add]
  refine RP.blk 1 (pc' := 7) (lv' := [(0, .ref 1), (1, .ref 225)]) (st' := [.long v.toInt64, .int 0, .ref 225]) (H' := H') (kc' := c) (ks' := s) rfl ?_
  refine RP.last (a := 224) rfl h224 rfl ?_
  refine RP.blk 2 (pc' := 18) (lv' := [(0, .ref 1), (1, .ref 225)]) (st' := [.int 0]) (H' := _) (kc' := c) (ks' := s) rfl ?_
  exact RP.done (c := 0) (s := 0) rfl rfl rfl rfl
set_option maxRecDepth 100000 in
set_option maxHeartbeats 1000000 in
theorem rc_w3X1 {sc : Nat × (Nat → Int32)} {d c s : Nat} {H H' : aH} {f0 : List Value} (h0 : H[0]? = some (kO 11 f0)) (hr : RC sc d mr_28 [.ref 1] H (.inr 1) H' c s) : RC sc (d + 1) mr_27 [.ref 1, .ref 225] H (.inl (some (.int 1))) H' c s := by
  refine RP.blk 3 (pc' := 3) (lv' := [(0, .ref 1), (1, .ref 225)]) (st' := [.ref 1, .int 0, .ref 225]) (H' := H) (kc' := 0) (ks' := 0) rfl ?_
  refine RP.callX (st' := [.int 0, .ref 225]) rfl rfl rfl rfl rfl rfl (args_v0 (a := 0) rfl rfl (by decide) rfl h0 (by decide)) hr rfl ?_
  rw [Nat.zero_add, Nat.zero_add]
  refine RP.blk 1 (pc' := 13) (lv' := [(0, .ref 1), (1, .ref 225)]) (st' := [.int 1]) (H' := H') (kc' := c) (ks' := s) rfl ?_
  exact RP.done (c := 0) (s := 0) rfl rfl rfl rfl
set_option maxRecDepth 100000 in
set_option maxHeartbeats 1000000 in
theorem rc_w3X2 {sc : Nat × (Nat → Int32)} {d c s : Nat} {H H' : aH} {f0 : List Value} (h0 : H[0]? = some (kO 11 f0)) (hr : RC sc d mr_28 [.ref 1] H (.inr 2) H' c s) : RC sc (d + 1) mr_27 [.ref 1, .ref 225] H (.inl (some (.int 2))) H' c s := by
  refine RP.blk 3 (pc' := 3) (lv' := [(0, .ref 1), (1, .ref 225)]) (st' := [.ref 1, .int 0, .ref 225]) (H' := H) (kc' := 0) (ks' := 0) rfl ?_
  refine RP.callX (st' := [.int 0, .ref 225]) rfl rfl rfl rfl rfl rfl (args_v0 (a := 0) rfl rfl (by decide) rfl h0 (by decide)) hr rfl ?_
  rw [Nat.zero_add, Nat.zero_add]
  refine RP.blk 1 (pc' := 16) (lv' := [(0, .ref 1), (1, .ref 225)]) (st' := [.int 2]) (H' := H') (kc' := c) (ks' := s) rfl ?_
  exact RP.done (c := 0) (s := 0) rfl rfl rfl rfl
set_option maxRecDepth 100000 in
set_option maxHeartbeats 1000000 in
theorem rc_w4 {sc : Nat × (Nat → Int32)} {d c s : Nat} {H H' : aH} {f0 : List Value} {f : Nat → Int64} {v : Int32} {x1 x2 : Int32} (h0 : H[0]? = some (kO 11 f0)) (hr : RC sc d mr_33 [.ref 1, .int x1, .int x2] H (.inl (some (.int v))) H' c s) (h224 : H'[224]? = some (kJ 1 f)) : RC sc (d + 1) mr_32 [.ref 1, .int x1, .int x2, .ref 225] H (.inl (some (.int 0))) (H'.set 224 (kJ 1 (va_up f 0 v.toInt64))) c s := by
  refine RP.blk 5 (pc' := 5) (lv' := [(0, .ref 1), (1, .int x1), (2, .int x2), (3, .ref 225)]) (st' := [.int x2, .int x1, .ref 1, .int 0, .ref 225]) (H' := H) (kc' := 0) (ks' := 0) rfl ?_
  refine RP.call (v := some (.int v)) (st' := [.int 0, .ref 225]) rfl rfl rfl rfl rfl rfl (args_v2 (a := 0) rfl rfl (by decide) rfl h0 (by decide)) hr ?_
  rw [Nat.zero_add, Nat.zero_add]
  refine RP.blk 1 (pc' := 9) (lv' := [(0, .ref 1), (1, .int x1), (2, .int x2), (3, .ref 225)]) (st' := [.long v.toInt64, .int 0, .ref 225]) (H' := H') (kc' := c) (ks' := s) rfl ?_
  refine RP.last (a := 224) rfl h224 rfl ?_
  refine RP.blk 2 (pc' := 30) (lv' := [(0, .ref 1), (1, .int x1), (2, .int x2), (3, .ref 225)]) (st' := [.int 0]) (H' := _) (kc' := c) (ks' := s) rfl ?_
  exact RP.done (c := 0) (s := 0) rfl rfl rfl rfl
set_option maxRecDepth 100000 in
set_option maxHeartbeats 1000000 in
theorem rc_w4X0 {sc : Nat × (Nat → Int32)} {d c s : Nat} {H H' : aH} {f0 : List Value} {x1 x2 : Int32} (h0 : H[0]? = some (kO 11 f0)) (hr : RC sc d mr_33 [.ref 1, .int x1, .int x2] H (.inr 0) H' c s) : RC sc (d + 1) mr_32 [.ref 1, .int x1, .int x2, .ref 225] H (.inl (some (.int 1))) H' c s := by
  refine RP.blk 5 (pc' := 5) (lv' := [(0, .ref 1), (1, .int x1), (2, .int x2), (3, .ref 225)]) (st' := [.int x2, .int x1, .ref 1, .int 0, .ref 225]) (H' := H) (kc' := 0) (ks' := 0) rfl ?_
  refine RP.callX (st' := [.int 0, .ref 225]) rfl rfl rfl rfl rfl rfl (args_v2 (a := 0) rfl rfl (by decide) rfl h0 (by decide)) hr rfl ?_
  rw [Nat.zero_add, Nat.zero_add]
  refine RP.blk 1 (pc' := 16) (lv' := [(0, .ref 1), (1, .int x1), (2, .int x2), (3, .ref 225)]) (st' := [.int 1]) (H' := H') (kc' := c) (ks' := s) rfl ?_
  exact RP.done (c := 0) (s := 0) rfl rfl rfl rfl
set_option maxRecDepth 100000 in
set_option maxHeartbeats 1000000 in
theorem rc_w4X1 {sc : Nat × (Nat → Int32)} {d c s : Nat} {H H' : aH} {f0 : List Value} {x1 x2 : Int32} (h0 : H[0]? = some (kO 11 f0)) (hr : RC sc d mr_33 [.ref 1, .int x1, .int x2] H (.inr 1) H' c s) : RC sc (d + 1) mr_32 [.ref 1, .int x1, .int x2, .ref 225] H (.inl (some (.int 2))) H' c s := by
  refine RP.blk 5 (pc' := 5) (lv' := [(0, .ref 1), (1, .int x1), (2, .int x2), (3, .ref 225)]) (st' := [.int x2, .int x1, .ref 1, .int 0, .ref 225]) (H' := H) (kc' := 0) (ks' := 0) rfl ?_
  refine RP.callX (st' := [.int 0, .ref 225]) rfl rfl rfl rfl rfl rfl (args_v2 (a := 0) rfl rfl (by decide) rfl h0 (by decide)) hr rfl ?_
  rw [Nat.zero_add, Nat.zero_add]
  refine RP.blk 1 (pc' := 20) (lv' := [(0, .ref 1), (1, .int x1), (2, .int x2), (3, .ref 225)]) (st' := [.int 2]) (H' := H') (kc' := c) (ks' := s) rfl ?_
  exact RP.done (c := 0) (s := 0) rfl rfl rfl rfl
set_option maxRecDepth 100000 in
set_option maxHeartbeats 1000000 in
theorem rc_w4X3 {sc : Nat × (Nat → Int32)} {d c s : Nat} {H H' : aH} {f0 : List Value} {x1 x2 : Int32} (h0 : H[0]? = some (kO 11 f0)) (hr : RC sc d mr_33 [.ref 1, .int x1, .int x2] H (.inr 3) H' c s) : RC sc (d + 1) mr_32 [.ref 1, .int x1, .int x2, .ref 225] H (.inl (some (.int 3))) H' c s := by
  refine RP.blk 5 (pc' := 5) (lv' := [(0, .ref 1), (1, .int x1), (2, .int x2), (3, .ref 225)]) (st' := [.int x2, .int x1, .ref 1, .int 0, .ref 225]) (H' := H) (kc' := 0) (ks' := 0) rfl ?_
  refine RP.callX (st' := [.int 0, .ref 225]) rfl rfl rfl rfl rfl rfl (args_v2 (a := 0) rfl rfl (by decide) rfl h0 (by decide)) hr rfl ?_
  rw [Nat.zero_add, Nat.zero_add]
  refine RP.blk 1 (pc' := 24) (lv' := [(0, .ref 1), (1, .int x1), (2, .int x2), (3, .ref 225)]) (st' := [.int 3]) (H' := H') (kc' := c) (ks' := s) rfl ?_
  exact RP.done (c := 0) (s := 0) rfl rfl rfl rfl
set_option maxRecDepth 100000 in
set_option maxHeartbeats 1000000 in
theorem rc_w4X4 {sc : Nat × (Nat → Int32)} {d c s : Nat} {H H' : aH} {f0 : List Value} {x1 x2 : Int32} (h0 : H[0]? = some (kO 11 f0)) (hr : RC sc d mr_33 [.ref 1, .int x1, .int x2] H (.inr 4) H' c s) : RC sc (d + 1) mr_32 [.ref 1, .int x1, .int x2, .ref 225] H (.inl (some (.int 4))) H' c s := by
  refine RP.blk 5 (pc' := 5) (lv' := [(0, .ref 1), (1, .int x1), (2, .int x2), (3, .ref 225)]) (st' := [.int x2, .int x1, .ref 1, .int 0, .ref 225]) (H' := H) (kc' := 0) (ks' := 0) rfl ?_
  refine RP.callX (st' := [.int 0, .ref 225]) rfl rfl rfl rfl rfl rfl (args_v2 (a := 0) rfl rfl (by decide) rfl h0 (by decide)) hr rfl ?_
  rw [Nat.zero_add, Nat.zero_add]
  refine RP.blk 1 (pc' := 28) (lv' := [(0, .ref 1), (1, .int x1), (2, .int x2), (3, .ref 225)]) (st' := [.int 4]) (H' := H') (kc' := c) (ks' := s) rfl ?_
  exact RP.done (c := 0) (s := 0) rfl rfl rfl rfl
set_option maxRecDepth 100000 in
set_option maxHeartbeats 1000000 in
theorem rc_w5 {sc : Nat × (Nat → Int32)} {d c s : Nat} {H H' : aH} {f0 : List Value} {f : Nat → Int64} {v : Int32} {x1 : Int32} (h0 : H[0]? = some (kO 11 f0)) (hr : RC sc d mr_51 [.ref 1, .int x1] H (.inl (some (.int v))) H' c s) (h224 : H'[224]? = some (kJ 1 f)) : RC sc (d + 1) mr_50 [.ref 1, .int x1, .ref 225] H (.inl (some (.int 0))) (H'.set 224 (kJ 1 (va_up f 0 v.toInt64))) c s := by
  refine RP.blk 4 (pc' := 4) (lv' := [(0, .ref 1), (1, .int x1), (2, .ref 225)]) (st' := [.int x1, .ref 1, .int 0, .ref 225]) (H' := H) (kc' := 0) (ks' := 0) rfl ?_
  refine RP.call (v := some (.int v)) (st' := [.int 0, .ref 225]) rfl rfl rfl rfl rfl rfl (args_v1 (a := 0) rfl rfl (by decide) rfl h0 (by decide)) hr ?_
  rw [Nat.zero_add, Nat.zero_add]
  refine RP.blk 1 (pc' := 8) (lv' := [(0, .ref 1), (1, .int x1), (2, .ref 225)]) (st' := [.long v.toInt64, .int 0, .ref 225]) (H' := H') (kc' := c) (ks' := s) rfl ?_
  refine RP.last (a := 224) rfl h224 rfl ?_
  refine RP.blk 2 (pc' := 25) (lv' := [(0, .ref 1), (1, .int x1), (2, .ref 225)]) (st' := [.int 0]) (H' := _) (kc' := c) (ks' := s) rfl ?_
  exact RP.done (c := 0) (s := 0) rfl rfl rfl rfl
set_option maxRecDepth 100000 in
set_option maxHeartbeats 1000000 in
theorem rc_w5X0 {sc : Nat × (Nat → Int32)} {d c s : Nat} {H H' : aH} {f0 : List Value} {x1 : Int32} (h0 : H[0]? = some (kO 11 f0)) (hr : RC sc d mr_51 [.ref 1, .int x1] H (.inr 0) H' c s) : RC sc (d + 1) mr_50 [.ref 1, .int x1, .ref 225] H (.inl (some (.int 1))) H' c s := by
  refine RP.blk 4 (pc' := 4) (lv' := [(0, .ref 1), (1, .int x1), (2, .ref 225)]) (st' := [.int x1, .ref 1, .int 0, .ref 225]) (H' := H) (kc' := 0) (ks' := 0) rfl ?_
  refine RP.callX (st' := [.int 0, .ref 225]) rfl rfl rfl rfl rfl rfl (args_v1 (a := 0) rfl rfl (by decide) rfl h0 (by decide)) hr rfl ?_
  rw [Nat.zero_add, Nat.zero_add]
  refine RP.blk 1 (pc' := 14) (lv' := [(0, .ref 1), (1, .int x1), (2, .ref 225)]) (st' := [.int 1]) (H' := H') (kc' := c) (ks' := s) rfl ?_
  exact RP.done (c := 0) (s := 0) rfl rfl rfl rfl
set_option maxRecDepth 100000 in
set_option maxHeartbeats 1000000 in
theorem rc_w5X1 {sc : Nat × (Nat → Int32)} {d c s : Nat} {H H' : aH} {f0 : List Value} {x1 : Int32} (h0 : H[0]? = some (kO 11 f0)) (hr : RC sc d mr_51 [.ref 1, .int x1] H (.inr 1) H' c s) : RC sc (d + 1) mr_50 [.ref 1, .int x1, .ref 225] H (.inl (some (.int 2))) H' c s := by
  refine RP.blk 4 (pc' := 4) (lv' := [(0, .ref 1), (1, .int x1), (2, .ref 225)]) (st' := [.int x1, .ref 1, .int 0, .ref 225]) (H' := H) (kc' := 0) (ks' := 0) rfl ?_
  refine RP.callX (st' := [.int 0, .ref 225]) rfl rfl rfl rfl rfl rfl (args_v1 (a := 0) rfl rfl (by decide) rfl h0 (by decide)) hr rfl ?_
  rw [Nat.zero_add, Nat.zero_add]
  refine RP.blk 1 (pc' := 17) (lv' := [(0, .ref 1), (1, .int x1), (2, .ref 225)]) (st' := [.int 2]) (H' := H') (kc' := c) (ks' := s) rfl ?_
  exact RP.done (c := 0) (s := 0) rfl rfl rfl rfl
set_option maxRecDepth 100000 in
set_option maxHeartbeats 1000000 in
theorem rc_w5X3 {sc : Nat × (Nat → Int32)} {d c s : Nat} {H H' : aH} {f0 : List Value} {x1 : Int32} (h0 : H[0]? = some (kO 11 f0)) (hr : RC sc d mr_51 [.ref 1, .int x1] H (.inr 3) H' c s) : RC sc (d + 1) mr_50 [.ref 1, .int x1, .ref 225] H (.inl (some (.int 3))) H' c s := by
  refine RP.blk 4 (pc' := 4) (lv' := [(0, .ref 1), (1, .int x1), (2, .ref 225)]) (st' := [.int x1, .ref 1, .int 0, .ref 225]) (H' := H) (kc' := 0) (ks' := 0) rfl ?_
  refine RP.callX (st' := [.int 0, .ref 225]) rfl rfl rfl rfl rfl rfl (args_v1 (a := 0) rfl rfl (by decide) rfl h0 (by decide)) hr rfl ?_
  rw [Nat.zero_add, Nat.zero_add]
  refine RP.blk 1 (pc' := 20) (lv' := [(0, .ref 1), (1, .int x1), (2, .ref 225)]) (st' := [.int 3]) (H' := H') (kc' := c) (ks' := s) rfl ?_
  exact RP.done (c := 0) (s := 0) rfl rfl rfl rfl
set_option maxRecDepth 100000 in
set_option maxHeartbeats 1000000 in
theorem rc_w5X4 {sc : Nat × (Nat → Int32)} {d c s : Nat} {H H' : aH} {f0 : List Value} {x1 : Int32} (h0 : H[0]? = some (kO 11 f0)) (hr : RC sc d mr_51 [.ref 1, .int x1] H (.inr 4) H' c s) : RC sc (d + 1) mr_50 [.ref 1, .int x1, .ref 225] H (.inl (some (.int 4))) H' c s := by
  refine RP.blk 4 (pc' := 4) (lv' := [(0, .ref 1), (1, .int x1), (2, .ref 225)]) (st' := [.int x1, .ref 1, .int 0, .ref 225]) (H' := H) (kc' := 0) (ks' := 0) rfl ?_
  refine RP.callX (st' := [.int 0, .ref 225]) rfl rfl rfl rfl rfl rfl (args_v1 (a := 0) rfl rfl (by decide) rfl h0 (by decide)) hr rfl ?_
  rw [Nat.zero_add, Nat.zero_add]
  refine RP.blk 1 (pc' := 23) (lv' := [(0, .ref 1), (1, .int x1), (2, .ref 225)]) (st' := [.int 4]) (H' := H') (kc' := c) (ks' := s) rfl ?_
  exact RP.done (c := 0) (s := 0) rfl rfl rfl rfl
set_option maxRecDepth 100000 in
set_option maxHeartbeats 1000000 in
theorem rc_w6 {sc : Nat × (Nat → Int32)} {d c s : Nat} {H H' : aH} {f0 : List Value} {f : Nat → Int64} {v : Int32} {x1 : Int32} (h0 : H[0]? = some (kO 11 f0)) (hr : RC sc d mr_53 [.ref 1, .int x1] H (.inl (some (.int v))) H' c s) (h224 : H'[224]? = some (kJ 1 f)) : RC sc (d + 1) mr_52 [.ref 1, .int x1, .ref 225] H (.inl (some (.int 0))) (H'.set 224 (kJ 1 (va_up f 0 v.toInt64))) c s := by
  refine RP.blk 4 (pc' := 4) (lv' := [(0, .ref 1), (1, .int x1), (2, .ref 225)]) (st' := [.int x1, .ref 1, .int 0, .ref 225]) (H' := H) (kc' := 0) (ks' := 0) rfl ?_
  refine RP.call (v := some (.int v)) (st' := [.int 0, .ref 225]) rfl rfl rfl rfl rfl rfl (args_v1 (a := 0) rfl rfl (by decide) rfl h0 (by decide)) hr ?_
  rw [Nat.zero_add, Nat.zero_add]
  refine RP.blk 1 (pc' := 8) (lv' := [(0, .ref 1), (1, .int x1), (2, .ref 225)]) (st' := [.long v.toInt64, .int 0, .ref 225]) (H' := H') (kc' := c) (ks' := s) rfl ?_
  refine RP.last (a := 224) rfl h224 rfl ?_
  refine RP.blk 2 (pc' := 22) (lv' := [(0, .ref 1), (1, .int x1), (2, .ref 225)]) (st' := [.int 0]) (H' := _) (kc' := c) (ks' := s) rfl ?_
  exact RP.done (c := 0) (s := 0) rfl rfl rfl rfl
set_option maxRecDepth 100000 in
set_option maxHeartbeats 1000000 in
theorem rc_w6X0 {sc : Nat × (Nat → Int32)} {d c s : Nat} {H H' : aH} {f0 : List Value} {x1 : Int32} (h0 : H[0]? = some (kO 11 f0)) (hr : RC sc d mr_53 [.ref 1, .int x1] H (.inr 0) H' c s) : RC sc (d + 1) mr_52 [.ref 1, .int x1, .ref 225] H (.inl (some (.int 1))) H' c s := by
  refine RP.blk 4 (pc' := 4) (lv' := [(0, .ref 1), (1, .int x1), (2, .ref 225)]) (st' := [.int x1, .ref 1, .int 0, .ref 225]) (H' := H) (kc' := 0) (ks' := 0) rfl ?_
  refine RP.callX (st' := [.int 0, .ref 225]) rfl rfl rfl rfl rfl rfl (args_v1 (a := 0) rfl rfl (by decide) rfl h0 (by decide)) hr rfl ?_
  rw [Nat.zero_add, Nat.zero_add]
  refine RP.blk 1 (pc' := 14) (lv' := [(0, .ref 1), (1, .int x1), (2, .ref 225)]) (st' := [.int 1]) (H' := H') (kc' := c) (ks' := s) rfl ?_
  exact RP.done (c := 0) (s := 0) rfl rfl rfl rfl
set_option maxRecDepth 100000 in
set_option maxHeartbeats 1000000 in
theorem rc_w6X1 {sc : Nat × (Nat → Int32)} {d c s : Nat} {H H' : aH} {f0 : List Value} {x1 : Int32} (h0 : H[0]? = some (kO 11 f0)) (hr : RC sc d mr_53 [.ref 1, .int x1] H (.inr 1) H' c s) : RC sc (d + 1) mr_52 [.ref 1, .int x1, .ref 225] H (.inl (some (.int 2))) H' c s := by
  refine RP.blk 4 (pc' := 4) (lv' := [(0, .ref 1), (1, .int x1), (2, .ref 225)]) (st' := [.int x1, .ref 1, .int 0, .ref 225]) (H' := H) (kc' := 0) (ks' := 0) rfl ?_
  refine RP.callX (st' := [.int 0, .ref 225]) rfl rfl rfl rfl rfl rfl (args_v1 (a := 0) rfl rfl (by decide) rfl h0 (by decide)) hr rfl ?_
  rw [Nat.zero_add, Nat.zero_add]
  refine RP.blk 1 (pc' := 17) (lv' := [(0, .ref 1), (1, .int x1), (2, .ref 225)]) (st' := [.int 2]) (H' := H') (kc' := c) (ks' := s) rfl ?_
  exact RP.done (c := 0) (s := 0) rfl rfl rfl rfl
set_option maxRecDepth 100000 in
set_option maxHeartbeats 1000000 in
theorem rc_w6X3 {sc : Nat × (Nat → Int32)} {d c s : Nat} {H H' : aH} {f0 : List Value} {x1 : Int32} (h0 : H[0]? = some (kO 11 f0)) (hr : RC sc d mr_53 [.ref 1, .int x1] H (.inr 3) H' c s) : RC sc (d + 1) mr_52 [.ref 1, .int x1, .ref 225] H (.inl (some (.int 3))) H' c s := by
  refine RP.blk 4 (pc' := 4) (lv' := [(0, .ref 1), (1, .int x1), (2, .ref 225)]) (st' := [.int x1, .ref 1, .int 0, .ref 225]) (H' := H) (kc' := 0) (ks' := 0) rfl ?_
  refine RP.callX (st' := [.int 0, .ref 225]) rfl rfl rfl rfl rfl rfl (args_v1 (a := 0) rfl rfl (by decide) rfl h0 (by decide)) hr rfl ?_
  rw [Nat.zero_add, Nat.zero_add]
  refine RP.blk 1 (pc' := 20) (lv' := [(0, .ref 1), (1, .int x1), (2, .ref 225)]) (st' := [.int 3]) (H' := H') (kc' := c) (ks' := s) rfl ?_
  exact RP.done (c := 0) (s := 0) rfl rfl rfl rfl
set_option maxRecDepth 100000 in
set_option maxHeartbeats 1000000 in
theorem rc_w7 {sc : Nat × (Nat → Int32)} {d c s : Nat} {H H' : aH} {f0 : List Value} {f : Nat → Int64} {v : Int32} {x1 x2 : Int32} (h0 : H[0]? = some (kO 11 f0)) (hr : RC sc d mr_69 [.ref 1, .int x1, .int x2] H (.inl (some (.int v))) H' c s) (h224 : H'[224]? = some (kJ 1 f)) : RC sc (d + 1) mr_68 [.ref 1, .int x1, .int x2, .ref 225] H (.inl (some (.int 0))) (H'.set 224 (kJ 1 (va_up f 0 v.toInt64))) c s := by
  refine RP.blk 5 (pc' := 5) (lv' := [(0, .ref 1), (1, .int x1), (2, .int x2), (3, .ref 225)]) (st' := [.int x2, .int x1, .ref 1, .int 0, .ref 225]) (H' := H) (kc' := 0) (ks' := 0) rfl ?_
  refine RP.call (v := some (.int v)) (st' := [.int 0, .ref 225]) rfl rfl rfl rfl rfl rfl (args_v2 (a := 0) rfl rfl (by decide) rfl h0 (by decide)) hr ?_
  rw [Nat.zero_add, Nat.zero_add]
  refine RP.blk 1 (pc' := 9) (lv' := [(0, .ref 1), (1, .int x1), (2, .int x2), (3, .ref 225)]) (st' := [.long v.toInt64, .int 0, .ref 225]) (H' := H') (kc' := c) (ks' := s) rfl ?_
  refine RP.last (a := 224) rfl h224 rfl ?_
  refine RP.blk 2 (pc' := 26) (lv' := [(0, .ref 1), (1, .int x1), (2, .int x2), (3, .ref 225)]) (st' := [.int 0]) (H' := _) (kc' := c) (ks' := s) rfl ?_
  exact RP.done (c := 0) (s := 0) rfl rfl rfl rfl
set_option maxRecDepth 100000 in
set_option maxHeartbeats 1000000 in
theorem rc_w7X0 {sc : Nat × (Nat → Int32)} {d c s : Nat} {H H' : aH} {f0 : List Value} {x1 x2 : Int32} (h0 : H[0]? = some (kO 11 f0)) (hr : RC sc d mr_69 [.ref 1, .int x1, .int x2] H (.inr 0) H' c s) : RC sc (d + 1) mr_68 [.ref 1, .int x1, .int x2, .ref 225] H (.inl (some (.int 1))) H' c s := by
  refine RP.blk 5 (pc' := 5) (lv' := [(0, .ref 1), (1, .int x1), (2, .int x2), (3, .ref 225)]) (st' := [.int x2, .int x1, .ref 1, .int 0, .ref 225]) (H' := H) (kc' := 0) (ks' := 0) rfl ?_
  refine RP.callX (st' := [.int 0, .ref 225]) rfl rfl rfl rfl rfl rfl (args_v2 (a := 0) rfl rfl (by decide) rfl h0 (by decide)) hr rfl ?_
  rw [Nat.zero_add, Nat.zero_add]
  refine RP.blk 1 (pc' := 16) (lv' := [(0, .ref 1), (1, .int x1), (2, .int x2), (3, .ref 225)]) (st' := [.int 1]) (H' := H') (kc' := c) (ks' := s) rfl ?_
  exact RP.done (c := 0) (s := 0) rfl rfl rfl rfl
set_option maxRecDepth 100000 in
set_option maxHeartbeats 1000000 in
theorem rc_w7X1 {sc : Nat × (Nat → Int32)} {d c s : Nat} {H H' : aH} {f0 : List Value} {x1 x2 : Int32} (h0 : H[0]? = some (kO 11 f0)) (hr : RC sc d mr_69 [.ref 1, .int x1, .int x2] H (.inr 1) H' c s) : RC sc (d + 1) mr_68 [.ref 1, .int x1, .int x2, .ref 225] H (.inl (some (.int 2))) H' c s := by
  refine RP.blk 5 (pc' := 5) (lv' := [(0, .ref 1), (1, .int x1), (2, .int x2), (3, .ref 225)]) (st' := [.int x2, .int x1, .ref 1, .int 0, .ref 225]) (H' := H) (kc' := 0) (ks' := 0) rfl ?_
  refine RP.callX (st' := [.int 0, .ref 225]) rfl rfl rfl rfl rfl rfl (args_v2 (a := 0) rfl rfl (by decide) rfl h0 (by decide)) hr rfl ?_
  rw [Nat.zero_add, Nat.zero_add]
  refine RP.blk 1 (pc' := 20) (lv' := [(0, .ref 1), (1, .int x1), (2, .int x2), (3, .ref 225)]) (st' := [.int 2]) (H' := H') (kc' := c) (ks' := s) rfl ?_
  exact RP.done (c := 0) (s := 0) rfl rfl rfl rfl
set_option maxRecDepth 100000 in
set_option maxHeartbeats 1000000 in
theorem rc_w7X3 {sc : Nat × (Nat → Int32)} {d c s : Nat} {H H' : aH} {f0 : List Value} {x1 x2 : Int32} (h0 : H[0]? = some (kO 11 f0)) (hr : RC sc d mr_69 [.ref 1, .int x1, .int x2] H (.inr 3) H' c s) : RC sc (d + 1) mr_68 [.ref 1, .int x1, .int x2, .ref 225] H (.inl (some (.int 3))) H' c s := by
  refine RP.blk 5 (pc' := 5) (lv' := [(0, .ref 1), (1, .int x1), (2, .int x2), (3, .ref 225)]) (st' := [.int x2, .int x1, .ref 1, .int 0, .ref 225]) (H' := H) (kc' := 0) (ks' := 0) rfl ?_
  refine RP.callX (st' := [.int 0, .ref 225]) rfl rfl rfl rfl rfl rfl (args_v2 (a := 0) rfl rfl (by decide) rfl h0 (by decide)) hr rfl ?_
  rw [Nat.zero_add, Nat.zero_add]
  refine RP.blk 1 (pc' := 24) (lv' := [(0, .ref 1), (1, .int x1), (2, .int x2), (3, .ref 225)]) (st' := [.int 3]) (H' := H') (kc' := c) (ks' := s) rfl ?_
  exact RP.done (c := 0) (s := 0) rfl rfl rfl rfl
set_option maxRecDepth 100000 in
set_option maxHeartbeats 1000000 in
theorem rc_w8 {sc : Nat × (Nat → Int32)} {d c s : Nat} {H H' : aH} {f0 : List Value} {f : Nat → Int64} {v : Int32} {x1 : Int32} (h0 : H[0]? = some (kO 11 f0)) (hr : RC sc d mr_77 [.ref 1, .int x1] H (.inl (some (.int v))) H' c s) (h224 : H'[224]? = some (kJ 1 f)) : RC sc (d + 1) mr_76 [.ref 1, .int x1, .ref 225] H (.inl (some (.int 0))) (H'.set 224 (kJ 1 (va_up f 0 v.toInt64))) c s := by
  refine RP.blk 4 (pc' := 4) (lv' := [(0, .ref 1), (1, .int x1), (2, .ref 225)]) (st' := [.int x1, .ref 1, .int 0, .ref 225]) (H' := H) (kc' := 0) (ks' := 0) rfl ?_
  refine RP.call (v := some (.int v)) (st' := [.int 0, .ref 225]) rfl rfl rfl rfl rfl rfl (args_v1 (a := 0) rfl rfl (by decide) rfl h0 (by decide)) hr ?_
  rw [Nat.zero_add, Nat.zero_add]
  refine RP.blk 1 (pc' := 8) (lv' := [(0, .ref 1), (1, .int x1), (2, .ref 225)]) (st' := [.long v.toInt64, .int 0, .ref 225]) (H' := H') (kc' := c) (ks' := s) rfl ?_
  refine RP.last (a := 224) rfl h224 rfl ?_
  refine RP.blk 2 (pc' := 28) (lv' := [(0, .ref 1), (1, .int x1), (2, .ref 225)]) (st' := [.int 0]) (H' := _) (kc' := c) (ks' := s) rfl ?_
  exact RP.done (c := 0) (s := 0) rfl rfl rfl rfl
set_option maxRecDepth 100000 in
set_option maxHeartbeats 1000000 in
theorem rc_w8X0 {sc : Nat × (Nat → Int32)} {d c s : Nat} {H H' : aH} {f0 : List Value} {x1 : Int32} (h0 : H[0]? = some (kO 11 f0)) (hr : RC sc d mr_77 [.ref 1, .int x1] H (.inr 0) H' c s) : RC sc (d + 1) mr_76 [.ref 1, .int x1, .ref 225] H (.inl (some (.int 1))) H' c s := by
  refine RP.blk 4 (pc' := 4) (lv' := [(0, .ref 1), (1, .int x1), (2, .ref 225)]) (st' := [.int x1, .ref 1, .int 0, .ref 225]) (H' := H) (kc' := 0) (ks' := 0) rfl ?_
  refine RP.callX (st' := [.int 0, .ref 225]) rfl rfl rfl rfl rfl rfl (args_v1 (a := 0) rfl rfl (by decide) rfl h0 (by decide)) hr rfl ?_
  rw [Nat.zero_add, Nat.zero_add]
  refine RP.blk 1 (pc' := 14) (lv' := [(0, .ref 1), (1, .int x1), (2, .ref 225)]) (st' := [.int 1]) (H' := H') (kc' := c) (ks' := s) rfl ?_
  exact RP.done (c := 0) (s := 0) rfl rfl rfl rfl
set_option maxRecDepth 100000 in
set_option maxHeartbeats 1000000 in
theorem rc_w8X1 {sc : Nat × (Nat → Int32)} {d c s : Nat} {H H' : aH} {f0 : List Value} {x1 : Int32} (h0 : H[0]? = some (kO 11 f0)) (hr : RC sc d mr_77 [.ref 1, .int x1] H (.inr 1) H' c s) : RC sc (d + 1) mr_76 [.ref 1, .int x1, .ref 225] H (.inl (some (.int 2))) H' c s := by
  refine RP.blk 4 (pc' := 4) (lv' := [(0, .ref 1), (1, .int x1), (2, .ref 225)]) (st' := [.int x1, .ref 1, .int 0, .ref 225]) (H' := H) (kc' := 0) (ks' := 0) rfl ?_
  refine RP.callX (st' := [.int 0, .ref 225]) rfl rfl rfl rfl rfl rfl (args_v1 (a := 0) rfl rfl (by decide) rfl h0 (by decide)) hr rfl ?_
  rw [Nat.zero_add, Nat.zero_add]
  refine RP.blk 1 (pc' := 17) (lv' := [(0, .ref 1), (1, .int x1), (2, .ref 225)]) (st' := [.int 2]) (H' := H') (kc' := c) (ks' := s) rfl ?_
  exact RP.done (c := 0) (s := 0) rfl rfl rfl rfl
set_option maxRecDepth 100000 in
set_option maxHeartbeats 1000000 in
theorem rc_w8X3 {sc : Nat × (Nat → Int32)} {d c s : Nat} {H H' : aH} {f0 : List Value} {x1 : Int32} (h0 : H[0]? = some (kO 11 f0)) (hr : RC sc d mr_77 [.ref 1, .int x1] H (.inr 3) H' c s) : RC sc (d + 1) mr_76 [.ref 1, .int x1, .ref 225] H (.inl (some (.int 3))) H' c s := by
  refine RP.blk 4 (pc' := 4) (lv' := [(0, .ref 1), (1, .int x1), (2, .ref 225)]) (st' := [.int x1, .ref 1, .int 0, .ref 225]) (H' := H) (kc' := 0) (ks' := 0) rfl ?_
  refine RP.callX (st' := [.int 0, .ref 225]) rfl rfl rfl rfl rfl rfl (args_v1 (a := 0) rfl rfl (by decide) rfl h0 (by decide)) hr rfl ?_
  rw [Nat.zero_add, Nat.zero_add]
  refine RP.blk 1 (pc' := 20) (lv' := [(0, .ref 1), (1, .int x1), (2, .ref 225)]) (st' := [.int 3]) (H' := H') (kc' := c) (ks' := s) rfl ?_
  exact RP.done (c := 0) (s := 0) rfl rfl rfl rfl
set_option maxRecDepth 100000 in
set_option maxHeartbeats 1000000 in
theorem rc_w8X4 {sc : Nat × (Nat → Int32)} {d c s : Nat} {H H' : aH} {f0 : List Value} {x1 : Int32} (h0 : H[0]? = some (kO 11 f0)) (hr : RC sc d mr_77 [.ref 1, .int x1] H (.inr 4) H' c s) : RC sc (d + 1) mr_76 [.ref 1, .int x1, .ref 225] H (.inl (some (.int 4))) H' c s := by
  refine RP.blk 4 (pc' := 4) (lv' := [(0, .ref 1), (1, .int x1), (2, .ref 225)]) (st' := [.int x1, .ref 1, .int 0, .ref 225]) (H' := H) (kc' := 0) (ks' := 0) rfl ?_
  refine RP.callX (st' := [.int 0, .ref 225]) rfl rfl rfl rfl rfl rfl (args_v1 (a := 0) rfl rfl (by decide) rfl h0 (by decide)) hr rfl ?_
  rw [Nat.zero_add, Nat.zero_add]
  refine RP.blk 1 (pc' := 23) (lv' := [(0, .ref 1), (1, .int x1), (2, .ref 225)]) (st' := [.int 4]) (H' := H') (kc' := c) (ks' := s) rfl ?_
  exact RP.done (c := 0) (s := 0) rfl rfl rfl rfl
set_option maxRecDepth 100000 in
set_option maxHeartbeats 1000000 in
theorem rc_w8X2 {sc : Nat × (Nat → Int32)} {d c s : Nat} {H H' : aH} {f0 : List Value} {x1 : Int32} (h0 : H[0]? = some (kO 11 f0)) (hr : RC sc d mr_77 [.ref 1, .int x1] H (.inr 2) H' c s) : RC sc (d + 1) mr_76 [.ref 1, .int x1, .ref 225] H (.inl (some (.int 5))) H' c s := by
  refine RP.blk 4 (pc' := 4) (lv' := [(0, .ref 1), (1, .int x1), (2, .ref 225)]) (st' := [.int x1, .ref 1, .int 0, .ref 225]) (H' := H) (kc' := 0) (ks' := 0) rfl ?_
  refine RP.callX (st' := [.int 0, .ref 225]) rfl rfl rfl rfl rfl rfl (args_v1 (a := 0) rfl rfl (by decide) rfl h0 (by decide)) hr rfl ?_
  rw [Nat.zero_add, Nat.zero_add]
  refine RP.blk 1 (pc' := 26) (lv' := [(0, .ref 1), (1, .int x1), (2, .ref 225)]) (st' := [.int 5]) (H' := H') (kc' := c) (ks' := s) rfl ?_
  exact RP.done (c := 0) (s := 0) rfl rfl rfl rfl
set_option maxRecDepth 100000 in
set_option maxHeartbeats 1000000 in
theorem rc_w9 {sc : Nat × (Nat → Int32)} {d c s : Nat} {H H' : aH} {f0 : List Value} {f : Nat → Int64} {v : Int32} {x1 : Int32} (h0 : H[0]? = some (kO 11 f0)) (hr : RC sc d mr_164 [.ref 1, .int x1] H (.inl (some (.int v))) H' c s) (h224 : H'[224]? = some (kJ 1 f)) : RC sc (d + 1) mr_163 [.ref 1, .int x1, .ref 225] H (.inl (some (.int 0))) (H'.set 224 (kJ 1 (va_up f 0 v.toInt64))) c s := by
  refine RP.blk 4 (pc' := 4) (lv' := [(0, .ref 1), (1, .int x1), (2, .ref 225)]) (st' := [.int x1, .ref 1, .int 0, .ref 225]) (H' := H) (kc' := 0) (ks' := 0) rfl ?_
  refine RP.call (v := some (.int v)) (st' := [.int 0, .ref 225]) rfl rfl rfl rfl rfl rfl (args_v1 (a := 0) rfl rfl (by decide) rfl h0 (by decide)) hr ?_
  rw [Nat.zero_add, Nat.zero_add]
  refine RP.blk 1 (pc' := 8) (lv' := [(0, .ref 1), (1, .int x1), (2, .ref 225)]) (st' := [.long v.toInt64, .int 0, .ref 225]) (H' := H') (kc' := c) (ks' := s) rfl ?_
  refine RP.last (a := 224) rfl h224 rfl ?_
  refine RP.blk 2 (pc' := 22) (lv' := [(0, .ref 1), (1, .int x1), (2, .ref 225)]) (st' := [.int 0]) (H' := _) (kc' := c) (ks' := s) rfl ?_
  exact RP.done (c := 0) (s := 0) rfl rfl rfl rfl
set_option maxRecDepth 100000 in
set_option maxHeartbeats 1000000 in
theorem rc_w9X0 {sc : Nat × (Nat → Int32)} {d c s : Nat} {H H' : aH} {f0 : List Value} {x1 : Int32} (h0 : H[0]? = some (kO 11 f0)) (hr : RC sc d mr_164 [.ref 1, .int x1] H (.inr 0) H' c s) : RC sc (d + 1) mr_163 [.ref 1, .int x1, .ref 225] H (.inl (some (.int 1))) H' c s := by
  refine RP.blk 4 (pc' := 4) (lv' := [(0, .ref 1), (1, .int x1), (2, .ref 225)]) (st' := [.int x1, .ref 1, .int 0, .ref 225]) (H' := H) (kc' := 0) (ks' := 0) rfl ?_
  refine RP.callX (st' := [.int 0, .ref 225]) rfl rfl rfl rfl rfl rfl (args_v1 (a := 0) rfl rfl (by decide) rfl h0 (by decide)) hr rfl ?_
  rw [Nat.zero_add, Nat.zero_add]
  refine RP.blk 1 (pc' := 14) (lv' := [(0, .ref 1), (1, .int x1), (2, .ref 225)]) (st' := [.int 1]) (H' := H') (kc' := c) (ks' := s) rfl ?_
  exact RP.done (c := 0) (s := 0) rfl rfl rfl rfl
set_option maxRecDepth 100000 in
set_option maxHeartbeats 1000000 in
theorem rc_w9X1 {sc : Nat × (Nat → Int32)} {d c s : Nat} {H H' : aH} {f0 : List Value} {x1 : Int32} (h0 : H[0]? = some (kO 11 f0)) (hr : RC sc d mr_164 [.ref 1, .int x1] H (.inr 1) H' c s) : RC sc (d + 1) mr_163 [.ref 1, .int x1, .ref 225] H (.inl (some (.int 2))) H' c s := by
  refine RP.blk 4 (pc' := 4) (lv' := [(0, .ref 1), (1, .int x1), (2, .ref 225)]) (st' := [.int x1, .ref 1, .int 0, .ref 225]) (H' := H) (kc' := 0) (ks' := 0) rfl ?_
  refine RP.callX (st' := [.int 0, .ref 225]) rfl rfl rfl rfl rfl rfl (args_v1 (a := 0) rfl rfl (by decide) rfl h0 (by decide)) hr rfl ?_
  rw [Nat.zero_add, Nat.zero_add]
  refine RP.blk 1 (pc' := 17) (lv' := [(0, .ref 1), (1, .int x1), (2, .ref 225)]) (st' := [.int 2]) (H' := H') (kc' := c) (ks' := s) rfl ?_
  exact RP.done (c := 0) (s := 0) rfl rfl rfl rfl
set_option maxRecDepth 100000 in
set_option maxHeartbeats 1000000 in
theorem rc_w9X3 {sc : Nat × (Nat → Int32)} {d c s : Nat} {H H' : aH} {f0 : List Value} {x1 : Int32} (h0 : H[0]? = some (kO 11 f0)) (hr : RC sc d mr_164 [.ref 1, .int x1] H (.inr 3) H' c s) : RC sc (d + 1) mr_163 [.ref 1, .int x1, .ref 225] H (.inl (some (.int 3))) H' c s := by
  refine RP.blk 4 (pc' := 4) (lv' := [(0, .ref 1), (1, .int x1), (2, .ref 225)]) (st' := [.int x1, .ref 1, .int 0, .ref 225]) (H' := H) (kc' := 0) (ks' := 0) rfl ?_
  refine RP.callX (st' := [.int 0, .ref 225]) rfl rfl rfl rfl rfl rfl (args_v1 (a := 0) rfl rfl (by decide) rfl h0 (by decide)) hr rfl ?_
  rw [Nat.zero_add, Nat.zero_add]
  refine RP.blk 1 (pc' := 20) (lv' := [(0, .ref 1), (1, .int x1), (2, .ref 225)]) (st' := [.int 3]) (H' := H') (kc' := c) (ks' := s) rfl ?_
  exact RP.done (c := 0) (s := 0) rfl rfl rfl rfl
set_option maxRecDepth 100000 in
set_option maxHeartbeats 1000000 in
theorem rc_w10 {sc : Nat × (Nat → Int32)} {d c s : Nat} {H H' : aH} {f0 : List Value} {f : Nat → Int64} {v : Int32} (h0 : H[0]? = some (kO 11 f0)) (hr : RC sc d mr_166 [.ref 1] H (.inl (some (.int v))) H' c s) (h224 : H'[224]? = some (kJ 1 f)) : RC sc (d + 1) mr_165 [.ref 1, .ref 225] H (.inl (some (.int 0))) (H'.set 224 (kJ 1 (va_up f 0 v.toInt64))) c s := by
  refine RP.blk 3 (pc' := 3) (lv' := [(0, .ref 1), (1, .ref 225)]) (st' := [.ref 1, .int 0, .ref 225]) (H' := H) (kc' := 0) (ks' := 0) rfl ?_
  refine RP.call (v := some (.int v)) (st' := [.int 0, .ref 225]) rfl rfl rfl rfl rfl rfl (args_v0 (a := 0) rfl rfl (by decide) rfl h0 (by decide)) hr ?_
  rw [Nat.zero_add, Nat.zero_add]
  refine RP.blk 1 (pc' := 7) (lv' := [(0, .ref 1), (1, .ref 225)]) (st' := [.long v.toInt64, .int 0, .ref 225]) (H' := H') (kc' := c) (ks' := s) rfl ?_
  refine RP.last (a := 224) rfl h224 rfl ?_
  refine RP.blk 2 (pc' := 15) (lv' := [(0, .ref 1), (1, .ref 225)]) (st' := [.int 0]) (H' := _) (kc' := c) (ks' := s) rfl ?_
  exact RP.done (c := 0) (s := 0) rfl rfl rfl rfl
set_option maxRecDepth 100000 in
set_option maxHeartbeats 1000000 in
theorem rc_w10X1 {sc : Nat × (Nat → Int32)} {d c s : Nat} {H H' : aH} {f0 : List Value} (h0 : H[0]? = some (kO 11 f0)) (hr : RC sc d mr_166 [.ref 1] H (.inr 1) H' c s) : RC sc (d + 1) mr_165 [.ref 1, .ref 225] H (.inl (some (.int 1))) H' c s := by
  refine RP.blk 3 (pc' := 3) (lv' := [(0, .ref 1), (1, .ref 225)]) (st' := [.ref 1, .int 0, .ref 225]) (H' := H) (kc' := 0) (ks' := 0) rfl ?_
  refine RP.callX (st' := [.int 0, .ref 225]) rfl rfl rfl rfl rfl rfl (args_v0 (a := 0) rfl rfl (by decide) rfl h0 (by decide)) hr rfl ?_
  rw [Nat.zero_add, Nat.zero_add]
  refine RP.blk 1 (pc' := 13) (lv' := [(0, .ref 1), (1, .ref 225)]) (st' := [.int 1]) (H' := H') (kc' := c) (ks' := s) rfl ?_
  exact RP.done (c := 0) (s := 0) rfl rfl rfl rfl
set_option maxRecDepth 100000 in
set_option maxHeartbeats 1000000 in
theorem rc_w11 {sc : Nat × (Nat → Int32)} {d c s : Nat} {H H' : aH} {f0 : List Value} {f : Nat → Int64} {v : Int32} {x1 : Int32} (h0 : H[0]? = some (kO 11 f0)) (hr : RC sc d mr_169 [.ref 1, .int x1] H (.inl (some (.int v))) H' c s) (h224 : H'[224]? = some (kJ 1 f)) : RC sc (d + 1) mr_168 [.ref 1, .int x1, .ref 225] H (.inl (some (.int 0))) (H'.set 224 (kJ 1 (va_up f 0 v.toInt64))) c s := by
  refine RP.blk 4 (pc' := 4) (lv' := [(0, .ref 1), (1, .int x1), (2, .ref 225)]) (st' := [.int x1, .ref 1, .int 0, .ref 225]) (H' := H) (kc' := 0) (ks' := 0) rfl ?_
  refine RP.call (v := some (.int v)) (st' := [.int 0, .ref 225]) rfl rfl rfl rfl rfl rfl (args_v1 (a := 0) rfl rfl (by decide) rfl h0 (by decide)) hr ?_
  rw [Nat.zero_add, Nat.zero_add]
  refine RP.blk 1 (pc' := 8) (lv' := [(0, .ref 1), (1, .int x1), (2, .ref 225)]) (st' := [.long v.toInt64, .int 0, .ref 225]) (H' := H') (kc' := c) (ks' := s) rfl ?_
  refine RP.last (a := 224) rfl h224 rfl ?_
  refine RP.blk 2 (pc' := 16) (lv' := [(0, .ref 1), (1, .int x1), (2, .ref 225)]) (st' := [.int 0]) (H' := _) (kc' := c) (ks' := s) rfl ?_
  exact RP.done (c := 0) (s := 0) rfl rfl rfl rfl
set_option maxRecDepth 100000 in
set_option maxHeartbeats 1000000 in
theorem rc_w11X1 {sc : Nat × (Nat → Int32)} {d c s : Nat} {H H' : aH} {f0 : List Value} {x1 : Int32} (h0 : H[0]? = some (kO 11 f0)) (hr : RC sc d mr_169 [.ref 1, .int x1] H (.inr 1) H' c s) : RC sc (d + 1) mr_168 [.ref 1, .int x1, .ref 225] H (.inl (some (.int 1))) H' c s := by
  refine RP.blk 4 (pc' := 4) (lv' := [(0, .ref 1), (1, .int x1), (2, .ref 225)]) (st' := [.int x1, .ref 1, .int 0, .ref 225]) (H' := H) (kc' := 0) (ks' := 0) rfl ?_
  refine RP.callX (st' := [.int 0, .ref 225]) rfl rfl rfl rfl rfl rfl (args_v1 (a := 0) rfl rfl (by decide) rfl h0 (by decide)) hr rfl ?_
  rw [Nat.zero_add, Nat.zero_add]
  refine RP.blk 1 (pc' := 14) (lv' := [(0, .ref 1), (1, .int x1), (2, .ref 225)]) (st' := [.int 1]) (H' := H') (kc' := c) (ks' := s) rfl ?_
  exact RP.done (c := 0) (s := 0) rfl rfl rfl rfl
set_option maxRecDepth 100000 in
set_option maxHeartbeats 1000000 in
theorem rc_w12 {sc : Nat × (Nat → Int32)} {d c s : Nat} {H H' : aH} {f0 : List Value} {f : Nat → Int64} {v : Int32} (h0 : H[0]? = some (kO 11 f0)) (hr : RC sc d mr_173 [.ref 1] H (.inl (some (.int v))) H' c s) (h224 : H'[224]? = some (kJ 1 f)) : RC sc (d + 1) mr_172 [.ref 1, .ref 225] H (.inl (some (.int 0))) (H'.set 224 (kJ 1 (va_up f 0 v.toInt64))) c s := by
  refine RP.blk 3 (pc' := 3) (lv' := [(0, .ref 1), (1, .ref 225)]) (st' := [.ref 1, .int 0, .ref 225]) (H' := H) (kc' := 0) (ks' := 0) rfl ?_
  refine RP.call (v := some (.int v)) (st' := [.int 0, .ref 225]) rfl rfl rfl rfl rfl rfl (args_v0 (a := 0) rfl rfl (by decide) rfl h0 (by decide)) hr ?_
  rw [Nat.zero_add, Nat.zero_add]
  refine RP.blk 1 (pc' := 7) (lv' := [(0, .ref 1), (1, .ref 225)]) (st' := [.long v.toInt64, .int 0, .ref 225]) (H' := H') (kc' := c) (ks' := s) rfl ?_
  refine RP.last (a := 224) rfl h224 rfl ?_
  refine RP.blk 2 (pc' := 15) (lv' := [(0, .ref 1), (1, .ref 225)]) (st' := [.int 0]) (H' := _) (kc' := c) (ks' := s) rfl ?_
  exact RP.done (c := 0) (s := 0) rfl rfl rfl rfl
set_option maxRecDepth 100000 in
set_option maxHeartbeats 1000000 in
theorem rc_w12X1 {sc : Nat × (Nat → Int32)} {d c s : Nat} {H H' : aH} {f0 : List Value} (h0 : H[0]? = some (kO 11 f0)) (hr : RC sc d mr_173 [.ref 1] H (.inr 1) H' c s) : RC sc (d + 1) mr_172 [.ref 1, .ref 225] H (.inl (some (.int 1))) H' c s := by
  refine RP.blk 3 (pc' := 3) (lv' := [(0, .ref 1), (1, .ref 225)]) (st' := [.ref 1, .int 0, .ref 225]) (H' := H) (kc' := 0) (ks' := 0) rfl ?_
  refine RP.callX (st' := [.int 0, .ref 225]) rfl rfl rfl rfl rfl rfl (args_v0 (a := 0) rfl rfl (by decide) rfl h0 (by decide)) hr rfl ?_
  rw [Nat.zero_add, Nat.zero_add]
  refine RP.blk 1 (pc' := 13) (lv' := [(0, .ref 1), (1, .ref 225)]) (st' := [.int 1]) (H' := H') (kc' := c) (ks' := s) rfl ?_
  exact RP.done (c := 0) (s := 0) rfl rfl rfl rfl
set_option maxRecDepth 100000 in
set_option maxHeartbeats 1000000 in
theorem rc_w13 {sc : Nat × (Nat → Int32)} {d c s : Nat} {H H' : aH} {f0 : List Value} {f : Nat → Int64} {v : Int32} {x1 x2 x3 : Int32} (h0 : H[0]? = some (kO 11 f0)) (hr : RC sc d mr_176 [.ref 1, .int x1, .int x2, .int x3] H (.inl (some (.int v))) H' c s) (h224 : H'[224]? = some (kJ 1 f)) : RC sc (d + 1) mr_175 [.ref 1, .int x1, .int x2, .int x3, .ref 225] H (.inl (some (.int 0))) (H'.set 224 (kJ 1 (va_up f 0 v.toInt64))) c s := by
  refine RP.blk 6 (pc' := 7) (lv' := [(0, .ref 1), (1, .int x1), (2, .int x2), (3, .int x3), (4, .ref 225)]) (st' := [.int x3, .int x2, .int x1, .ref 1, .int 0, .ref 225]) (H' := H) (kc' := 0) (ks' := 0) rfl ?_
  refine RP.call (v := some (.int v)) (st' := [.int 0, .ref 225]) rfl rfl rfl rfl rfl rfl (args_v3 (a := 0) rfl rfl (by decide) rfl h0 (by decide)) hr ?_
  rw [Nat.zero_add, Nat.zero_add]
  refine RP.blk 1 (pc' := 11) (lv' := [(0, .ref 1), (1, .int x1), (2, .int x2), (3, .int x3), (4, .ref 225)]) (st' := [.long v.toInt64, .int 0, .ref 225]) (H' := H') (kc' := c) (ks' := s) rfl ?_
  refine RP.last (a := 224) rfl h224 rfl ?_
  refine RP.blk 2 (pc' := 20) (lv' := [(0, .ref 1), (1, .int x1), (2, .int x2), (3, .int x3), (4, .ref 225)]) (st' := [.int 0]) (H' := _) (kc' := c) (ks' := s) rfl ?_
  exact RP.done (c := 0) (s := 0) rfl rfl rfl rfl
set_option maxRecDepth 100000 in
set_option maxHeartbeats 1000000 in
theorem rc_w13X0 {sc : Nat × (Nat → Int32)} {d c s : Nat} {H H' : aH} {f0 : List Value} {x1 x2 x3 : Int32} (h0 : H[0]? = some (kO 11 f0)) (hr : RC sc d mr_176 [.ref 1, .int x1, .int x2, .int x3] H (.inr 0) H' c s) : RC sc (d + 1) mr_175 [.ref 1, .int x1, .int x2, .int x3, .ref 225] H (.inl (some (.int 1))) H' c s := by
  refine RP.blk 6 (pc' := 7) (lv' := [(0, .ref 1), (1, .int x1), (2, .int x2), (3, .int x3), (4, .ref 225)]) (st' := [.int x3, .int x2, .int x1, .ref 1, .int 0, .ref 225]) (H' := H) (kc' := 0) (ks' := 0) rfl ?_
  refine RP.callX (st' := [.int 0, .ref 225]) rfl rfl rfl rfl rfl rfl (args_v3 (a := 0) rfl rfl (by decide) rfl h0 (by decide)) hr rfl ?_
  rw [Nat.zero_add, Nat.zero_add]
  refine RP.blk 1 (pc' := 18) (lv' := [(0, .ref 1), (1, .int x1), (2, .int x2), (3, .int x3), (4, .ref 225)]) (st' := [.int 1]) (H' := H') (kc' := c) (ks' := s) rfl ?_
  exact RP.done (c := 0) (s := 0) rfl rfl rfl rfl
set_option maxRecDepth 100000 in
set_option maxHeartbeats 1000000 in
theorem rc_w14 {sc : Nat × (Nat → Int32)} {d c s : Nat} {H H' : aH} {f0 : List Value} {f : Nat → Int64} {v : Int32} (h0 : H[0]? = some (kO 11 f0)) (hr : RC sc d mr_178 [.ref 1] H (.inl (some (.int v))) H' c s) (h224 : H'[224]? = some (kJ 1 f)) : RC sc (d + 1) mr_177 [.ref 1, .ref 225] H (.inl (some (.int 0))) (H'.set 224 (kJ 1 (va_up f 0 v.toInt64))) c s := by
  refine RP.blk 3 (pc' := 3) (lv' := [(0, .ref 1), (1, .ref 225)]) (st' := [.ref 1, .int 0, .ref 225]) (H' := H) (kc' := 0) (ks' := 0) rfl ?_
  refine RP.call (v := some (.int v)) (st' := [.int 0, .ref 225]) rfl rfl rfl rfl rfl rfl (args_v0 (a := 0) rfl rfl (by decide) rfl h0 (by decide)) hr ?_
  rw [Nat.zero_add, Nat.zero_add]
  refine RP.blk 1 (pc' := 7) (lv' := [(0, .ref 1), (1, .ref 225)]) (st' := [.long v.toInt64, .int 0, .ref 225]) (H' := H') (kc' := c) (ks' := s) rfl ?_
  refine RP.last (a := 224) rfl h224 rfl ?_
  refine RP.blk 2 (pc' := 15) (lv' := [(0, .ref 1), (1, .ref 225)]) (st' := [.int 0]) (H' := _) (kc' := c) (ks' := s) rfl ?_
  exact RP.done (c := 0) (s := 0) rfl rfl rfl rfl
set_option maxRecDepth 100000 in
set_option maxHeartbeats 1000000 in
theorem rc_w14X1 {sc : Nat × (Nat → Int32)} {d c s : Nat} {H H' : aH} {f0 : List Value} (h0 : H[0]? = some (kO 11 f0)) (hr : RC sc d mr_178 [.ref 1] H (.inr 1) H' c s) : RC sc (d + 1) mr_177 [.ref 1, .ref 225] H (.inl (some (.int 1))) H' c s := by
  refine RP.blk 3 (pc' := 3) (lv' := [(0, .ref 1), (1, .ref 225)]) (st' := [.ref 1, .int 0, .ref 225]) (H' := H) (kc' := 0) (ks' := 0) rfl ?_
  refine RP.callX (st' := [.int 0, .ref 225]) rfl rfl rfl rfl rfl rfl (args_v0 (a := 0) rfl rfl (by decide) rfl h0 (by decide)) hr rfl ?_
  rw [Nat.zero_add, Nat.zero_add]
  refine RP.blk 1 (pc' := 13) (lv' := [(0, .ref 1), (1, .ref 225)]) (st' := [.int 1]) (H' := H') (kc' := c) (ks' := s) rfl ?_
  exact RP.done (c := 0) (s := 0) rfl rfl rfl rfl
set_option maxRecDepth 100000 in
set_option maxHeartbeats 1000000 in
theorem rc_w16 {sc : Nat × (Nat → Int32)} {d c s : Nat} {H H' : aH} {f0 : List Value} {f : Nat → Int64} {v : Int32} {x1 : Int32} (h0 : H[0]? = some (kO 11 f0)) (hr : RC sc d mr_196 [.ref 1, .int x1] H (.inl (some (.int v))) H' c s) (h224 : H'[224]? = some (kJ 1 f)) : RC sc (d + 1) mr_195 [.ref 1, .int x1, .ref 225] H (.inl (some (.int 0))) (H'.set 224 (kJ 1 (va_up f 0 v.toInt64))) c s := by
  refine RP.blk 4 (pc' := 4) (lv' := [(0, .ref 1), (1, .int x1), (2, .ref 225)]) (st' := [.int x1, .ref 1, .int 0, .ref 225]) (H' := H) (kc' := 0) (ks' := 0) rfl ?_
  refine RP.call (v := some (.int v)) (st' := [.int 0, .ref 225]) rfl rfl rfl rfl rfl rfl (args_v1 (a := 0) rfl rfl (by decide) rfl h0 (by decide)) hr ?_
  rw [Nat.zero_add, Nat.zero_add]
  refine RP.blk 1 (pc' := 8) (lv' := [(0, .ref 1), (1, .int x1), (2, .ref 225)]) (st' := [.long v.toInt64, .int 0, .ref 225]) (H' := H') (kc' := c) (ks' := s) rfl ?_
  refine RP.last (a := 224) rfl h224 rfl ?_
  refine RP.blk 2 (pc' := 19) (lv' := [(0, .ref 1), (1, .int x1), (2, .ref 225)]) (st' := [.int 0]) (H' := _) (kc' := c) (ks' := s) rfl ?_
  exact RP.done (c := 0) (s := 0) rfl rfl rfl rfl
set_option maxRecDepth 100000 in
set_option maxHeartbeats 1000000 in
theorem rc_w16X0 {sc : Nat × (Nat → Int32)} {d c s : Nat} {H H' : aH} {f0 : List Value} {x1 : Int32} (h0 : H[0]? = some (kO 11 f0)) (hr : RC sc d mr_196 [.ref 1, .int x1] H (.inr 0) H' c s) : RC sc (d + 1) mr_195 [.ref 1, .int x1, .ref 225] H (.inl (some (.int 1))) H' c s := by
  refine RP.blk 4 (pc' := 4) (lv' := [(0, .ref 1), (1, .int x1), (2, .ref 225)]) (st' := [.int x1, .ref 1, .int 0, .ref 225]) (H' := H) (kc' := 0) (ks' := 0) rfl ?_
  refine RP.callX (st' := [.int 0, .ref 225]) rfl rfl rfl rfl rfl rfl (args_v1 (a := 0) rfl rfl (by decide) rfl h0 (by decide)) hr rfl ?_
  rw [Nat.zero_add, Nat.zero_add]
  refine RP.blk 1 (pc' := 14) (lv' := [(0, .ref 1), (1, .int x1), (2, .ref 225)]) (st' := [.int 1]) (H' := H') (kc' := c) (ks' := s) rfl ?_
  exact RP.done (c := 0) (s := 0) rfl rfl rfl rfl
set_option maxRecDepth 100000 in
set_option maxHeartbeats 1000000 in
theorem rc_w16X1 {sc : Nat × (Nat → Int32)} {d c s : Nat} {H H' : aH} {f0 : List Value} {x1 : Int32} (h0 : H[0]? = some (kO 11 f0)) (hr : RC sc d mr_196 [.ref 1, .int x1] H (.inr 1) H' c s) : RC sc (d + 1) mr_195 [.ref 1, .int x1, .ref 225] H (.inl (some (.int 2))) H' c s := by
  refine RP.blk 4 (pc' := 4) (lv' := [(0, .ref 1), (1, .int x1), (2, .ref 225)]) (st' := [.int x1, .ref 1, .int 0, .ref 225]) (H' := H) (kc' := 0) (ks' := 0) rfl ?_
  refine RP.callX (st' := [.int 0, .ref 225]) rfl rfl rfl rfl rfl rfl (args_v1 (a := 0) rfl rfl (by decide) rfl h0 (by decide)) hr rfl ?_
  rw [Nat.zero_add, Nat.zero_add]
  refine RP.blk 1 (pc' := 17) (lv' := [(0, .ref 1), (1, .int x1), (2, .ref 225)]) (st' := [.int 2]) (H' := H') (kc' := c) (ks' := s) rfl ?_
  exact RP.done (c := 0) (s := 0) rfl rfl rfl rfl
set_option maxRecDepth 100000 in
set_option maxHeartbeats 1000000 in
theorem rc_w17 {sc : Nat × (Nat → Int32)} {d c s : Nat} {H H' : aH} {f0 : List Value} {f : Nat → Int64} {v : Int32} {x1 : Int32} (h0 : H[0]? = some (kO 11 f0)) (hr : RC sc d mr_200 [.ref 1, .int x1] H (.inl (some (.int v))) H' c s) (h224 : H'[224]? = some (kJ 1 f)) : RC sc (d + 1) mr_199 [.ref 1, .int x1, .ref 225] H (.inl (some (.int 0))) (H'.set 224 (kJ 1 (va_up f 0 v.toInt64))) c s := by
  refine RP.blk 4 (pc' := 4) (lv' := [(0, .ref 1), (1, .int x1), (2, .ref 225)]) (st' := [.int x1, .ref 1, .int 0, .ref 225]) (H' := H) (kc' := 0) (ks' := 0) rfl ?_
  refine RP.call (v := some (.int v)) (st' := [.int 0, .ref 225]) rfl rfl rfl rfl rfl rfl (args_v1 (a := 0) rfl rfl (by decide) rfl h0 (by decide)) hr ?_
  rw [Nat.zero_add, Nat.zero_add]
  refine RP.blk 1 (pc' := 8) (lv' := [(0, .ref 1), (1, .int x1), (2, .ref 225)]) (st' := [.long v.toInt64, .int 0, .ref 225]) (H' := H') (kc' := c) (ks' := s) rfl ?_
  refine RP.last (a := 224) rfl h224 rfl ?_
  refine RP.blk 2 (pc' := 16) (lv' := [(0, .ref 1), (1, .int x1), (2, .ref 225)]) (st' := [.int 0]) (H' := _) (kc' := c) (ks' := s) rfl ?_
  exact RP.done (c := 0) (s := 0) rfl rfl rfl rfl
set_option maxRecDepth 100000 in
set_option maxHeartbeats 1000000 in
theorem rc_w17X0 {sc : Nat × (Nat → Int32)} {d c s : Nat} {H H' : aH} {f0 : List Value} {x1 : Int32} (h0 : H[0]? = some (kO 11 f0)) (hr : RC sc d mr_200 [.ref 1, .int x1] H (.inr 0) H' c s) : RC sc (d + 1) mr_199 [.ref 1, .int x1, .ref 225] H (.inl (some (.int 1))) H' c s := by
  refine RP.blk 4 (pc' := 4) (lv' := [(0, .ref 1), (1, .int x1), (2, .ref 225)]) (st' := [.int x1, .ref 1, .int 0, .ref 225]) (H' := H) (kc' := 0) (ks' := 0) rfl ?_
  refine RP.callX (st' := [.int 0, .ref 225]) rfl rfl rfl rfl rfl rfl (args_v1 (a := 0) rfl rfl (by decide) rfl h0 (by decide)) hr rfl ?_
  rw [Nat.zero_add, Nat.zero_add]
  refine RP.blk 1 (pc' := 14) (lv' := [(0, .ref 1), (1, .int x1), (2, .ref 225)]) (st' := [.int 1]) (H' := H') (kc' := c) (ks' := s) rfl ?_
  exact RP.done (c := 0) (s := 0) rfl rfl rfl rfl
set_option maxRecDepth 100000 in
set_option maxHeartbeats 1000000 in
theorem rc_w18 {sc : Nat × (Nat → Int32)} {d c s : Nat} {H H' : aH} {f0 : List Value} {f : Nat → Int64} {v : Int32} (h0 : H[0]? = some (kO 11 f0)) (hr : RC sc d mr_202 [.ref 1] H (.inl (some (.int v))) H' c s) (h224 : H'[224]? = some (kJ 1 f)) : RC sc (d + 1) mr_201 [.ref 1, .ref 225] H (.inl (some (.int 0))) (H'.set 224 (kJ 1 (va_up f 0 v.toInt64))) c s := by
  refine RP.blk 3 (pc' := 3) (lv' := [(0, .ref 1), (1, .ref 225)]) (st' := [.ref 1, .int 0, .ref 225]) (H' := H) (kc' := 0) (ks' := 0) rfl ?_
  refine RP.call (v := some (.int v)) (st' := [.int 0, .ref 225]) rfl rfl rfl rfl rfl rfl (args_v0 (a := 0) rfl rfl (by decide) rfl h0 (by decide)) hr ?_
  rw [Nat.zero_add, Nat.zero_add]
  refine RP.blk 1 (pc' := 7) (lv' := [(0, .ref 1), (1, .ref 225)]) (st' := [.long v.toInt64, .int 0, .ref 225]) (H' := H') (kc' := c) (ks' := s) rfl ?_
  refine RP.last (a := 224) rfl h224 rfl ?_
  refine RP.blk 2 (pc' := 15) (lv' := [(0, .ref 1), (1, .ref 225)]) (st' := [.int 0]) (H' := _) (kc' := c) (ks' := s) rfl ?_
  exact RP.done (c := 0) (s := 0) rfl rfl rfl rfl
set_option maxRecDepth 100000 in
set_option maxHeartbeats 1000000 in
theorem rc_w18X1 {sc : Nat × (Nat → Int32)} {d c s : Nat} {H H' : aH} {f0 : List Value} (h0 : H[0]? = some (kO 11 f0)) (hr : RC sc d mr_202 [.ref 1] H (.inr 1) H' c s) : RC sc (d + 1) mr_201 [.ref 1, .ref 225] H (.inl (some (.int 1))) H' c s := by
  refine RP.blk 3 (pc' := 3) (lv' := [(0, .ref 1), (1, .ref 225)]) (st' := [.ref 1, .int 0, .ref 225]) (H' := H) (kc' := 0) (ks' := 0) rfl ?_
  refine RP.callX (st' := [.int 0, .ref 225]) rfl rfl rfl rfl rfl rfl (args_v0 (a := 0) rfl rfl (by decide) rfl h0 (by decide)) hr rfl ?_
  rw [Nat.zero_add, Nat.zero_add]
  refine RP.blk 1 (pc' := 13) (lv' := [(0, .ref 1), (1, .ref 225)]) (st' := [.int 1]) (H' := H') (kc' := c) (ks' := s) rfl ?_
  exact RP.done (c := 0) (s := 0) rfl rfl rfl rfl
set_option maxRecDepth 100000 in
set_option maxHeartbeats 1000000 in
theorem rc_w19 {sc : Nat × (Nat → Int32)} {d c s : Nat} {H H' : aH} {f0 : List Value} {f : Nat → Int64} {v : Int32} {x1 x2 : Int32} (h0 : H[0]? = some (kO 11 f0)) (hr : RC sc d mr_215 [.ref 1, .int x1, .int x2] H (.inl (some (.int v))) H' c s) (h224 : H'[224]? = some (kJ 1 f)) : RC sc (d + 1) mr_214 [.ref 1, .int x1, .int x2, .ref 225] H (.inl (some (.int 0))) (H'.set 224 (kJ 1 (va_up f 0 v.toInt64))) c s := by
  refine RP.blk 5 (pc' := 5) (lv' := [(0, .ref 1), (1, .int x1), (2, .int x2), (3, .ref 225)]) (st' := [.int x2, .int x1, .ref 1, .int 0, .ref 225]) (H' := H) (kc' := 0) (ks' := 0) rfl ?_
  refine RP.call (v := some (.int v)) (st' := [.int 0, .ref 225]) rfl rfl rfl rfl rfl rfl (args_v2 (a := 0) rfl rfl (by decide) rfl h0 (by decide)) hr ?_
  rw [Nat.zero_add, Nat.zero_add]
  refine RP.blk 1 (pc' := 9) (lv' := [(0, .ref 1), (1, .int x1), (2, .int x2), (3, .ref 225)]) (st' := [.long v.toInt64, .int 0, .ref 225]) (H' := H') (kc' := c) (ks' := s) rfl ?_
  refine RP.last (a := 224) rfl h224 rfl ?_
  refine RP.blk 2 (pc' := 34) (lv' := [(0, .ref 1), (1, .int x1), (2, .int x2), (3, .ref 225)]) (st' := [.int 0]) (H' := _) (kc' := c) (ks' := s) rfl ?_
  exact RP.done (c := 0) (s := 0) rfl rfl rfl rfl
set_option maxRecDepth 100000 in
set_option maxHeartbeats 1000000 in
theorem rc_w19X0 {sc : Nat × (Nat → Int32)} {d c s : Nat} {H H' : aH} {f0 : List Value} {x1 x2 : Int32} (h0 : H[0]? = some (kO 11 f0)) (hr : RC sc d mr_215 [.ref 1, .int x1, .int x2] H (.inr 0) H' c s) : RC sc (d + 1) mr_214 [.ref 1, .int x1, .int x2, .ref 225] H (.inl (some (.int 1))) H' c s := by
  refine RP.blk 5 (pc' := 5) (lv' := [(0, .ref 1), (1, .int x1), (2, .int x2), (3, .ref 225)]) (st' := [.int x2, .int x1, .ref 1, .int 0, .ref 225]) (H' := H) (kc' := 0) (ks' := 0) rfl ?_
  refine RP.callX (st' := [.int 0, .ref 225]) rfl rfl rfl rfl rfl rfl (args_v2 (a := 0) rfl rfl (by decide) rfl h0 (by decide)) hr rfl ?_
  rw [Nat.zero_add, Nat.zero_add]
  refine RP.blk 1 (pc' := 16) (lv' := [(0, .ref 1), (1, .int x1), (2, .int x2), (3, .ref 225)]) (st' := [.int 1]) (H' := H') (kc' := c) (ks' := s) rfl ?_
  exact RP.done (c := 0) (s := 0) rfl rfl rfl rfl
set_option maxRecDepth 100000 in
set_option maxHeartbeats 1000000 in
theorem rc_w19X1 {sc : Nat × (Nat → Int32)} {d c s : Nat} {H H' : aH} {f0 : List Value} {x1 x2 : Int32} (h0 : H[0]? = some (kO 11 f0)) (hr : RC sc d mr_215 [.ref 1, .int x1, .int x2] H (.inr 1) H' c s) : RC sc (d + 1) mr_214 [.ref 1, .int x1, .int x2, .ref 225] H (.inl (some (.int 2))) H' c s := by
  refine RP.blk 5 (pc' := 5) (lv' := [(0, .ref 1), (1, .int x1), (2, .int x2), (3, .ref 225)]) (st' := [.int x2, .int x1, .ref 1, .int 0, .ref 225]) (H' := H) (kc' := 0) (ks' := 0) rfl ?_
  refine RP.callX (st' := [.int 0, .ref 225]) rfl rfl rfl rfl rfl rfl (args_v2 (a := 0) rfl rfl (by decide) rfl h0 (by decide)) hr rfl ?_
  rw [Nat.zero_add, Nat.zero_add]
  refine RP.blk 1 (pc' := 20) (lv' := [(0, .ref 1), (1, .int x1), (2, .int x2), (3, .ref 225)]) (st' := [.int 2]) (H' := H') (kc' := c) (ks' := s) rfl ?_
  exact RP.done (c := 0) (s := 0) rfl rfl rfl rfl
set_option maxRecDepth 100000 in
set_option maxHeartbeats 1000000 in
theorem rc_w19X3 {sc : Nat × (Nat → Int32)} {d c s : Nat} {H H' : aH} {f0 : List Value} {x1 x2 : Int32} (h0 : H[0]? = some (kO 11 f0)) (hr : RC sc d mr_215 [.ref 1, .int x1, .int x2] H (.inr 3) H' c s) : RC sc (d + 1) mr_214 [.ref 1, .int x1, .int x2, .ref 225] H (.inl (some (.int 3))) H' c s := by
  refine RP.blk 5 (pc' := 5) (lv' := [(0, .ref 1), (1, .int x1), (2, .int x2), (3, .ref 225)]) (st' := [.int x2, .int x1, .ref 1, .int 0, .ref 225]) (H' := H) (kc' := 0) (ks' := 0) rfl ?_
  refine RP.callX (st' := [.int 0, .ref 225]) rfl rfl rfl rfl rfl rfl (args_v2 (a := 0) rfl rfl (by decide) rfl h0 (by decide)) hr rfl ?_
  rw [Nat.zero_add, Nat.zero_add]
  refine RP.blk 1 (pc' := 24) (lv' := [(0, .ref 1), (1, .int x1), (2, .int x2), (3, .ref 225)]) (st' := [.int 3]) (H' := H') (kc' := c) (ks' := s) rfl ?_
  exact RP.done (c := 0) (s := 0) rfl rfl rfl rfl
set_option maxRecDepth 100000 in
set_option maxHeartbeats 1000000 in
theorem rc_w19X4 {sc : Nat × (Nat → Int32)} {d c s : Nat} {H H' : aH} {f0 : List Value} {x1 x2 : Int32} (h0 : H[0]? = some (kO 11 f0)) (hr : RC sc d mr_215 [.ref 1, .int x1, .int x2] H (.inr 4) H' c s) : RC sc (d + 1) mr_214 [.ref 1, .int x1, .int x2, .ref 225] H (.inl (some (.int 4))) H' c s := by
  refine RP.blk 5 (pc' := 5) (lv' := [(0, .ref 1), (1, .int x1), (2, .int x2), (3, .ref 225)]) (st' := [.int x2, .int x1, .ref 1, .int 0, .ref 225]) (H' := H) (kc' := 0) (ks' := 0) rfl ?_
  refine RP.callX (st' := [.int 0, .ref 225]) rfl rfl rfl rfl rfl rfl (args_v2 (a := 0) rfl rfl (by decide) rfl h0 (by decide)) hr rfl ?_
  rw [Nat.zero_add, Nat.zero_add]
  refine RP.blk 1 (pc' := 28) (lv' := [(0, .ref 1), (1, .int x1), (2, .int x2), (3, .ref 225)]) (st' := [.int 4]) (H' := H') (kc' := c) (ks' := s) rfl ?_
  exact RP.done (c := 0) (s := 0) rfl rfl rfl rfl
set_option maxRecDepth 100000 in
set_option maxHeartbeats 1000000 in
theorem rc_w19X2 {sc : Nat × (Nat → Int32)} {d c s : Nat} {H H' : aH} {f0 : List Value} {x1 x2 : Int32} (h0 : H[0]? = some (kO 11 f0)) (hr : RC sc d mr_215 [.ref 1, .int x1, .int x2] H (.inr 2) H' c s) : RC sc (d + 1) mr_214 [.ref 1, .int x1, .int x2, .ref 225] H (.inl (some (.int 5))) H' c s := by
  refine RP.blk 5 (pc' := 5) (lv' := [(0, .ref 1), (1, .int x1), (2, .int x2), (3, .ref 225)]) (st' := [.int x2, .int x1, .ref 1, .int 0, .ref 225]) (H' := H) (kc' := 0) (ks' := 0) rfl ?_
  refine RP.callX (st' := [.int 0, .ref 225]) rfl rfl rfl rfl rfl rfl (args_v2 (a := 0) rfl rfl (by decide) rfl h0 (by decide)) hr rfl ?_
  rw [Nat.zero_add, Nat.zero_add]
  refine RP.blk 1 (pc' := 32) (lv' := [(0, .ref 1), (1, .int x1), (2, .int x2), (3, .ref 225)]) (st' := [.int 5]) (H' := H') (kc' := c) (ks' := s) rfl ?_
  exact RP.done (c := 0) (s := 0) rfl rfl rfl rfl
set_option maxRecDepth 100000 in
set_option maxHeartbeats 1000000 in
theorem rc_w20 {sc : Nat × (Nat → Int32)} {d c s : Nat} {H H' : aH} {f0 : List Value} {f : Nat → Int64} {v : Int32} {x1 : Int32} (h0 : H[0]? = some (kO 11 f0)) (hr : RC sc d mr_225 [.ref 1, .int x1] H (.inl (some (.int v))) H' c s) (h224 : H'[224]? = some (kJ 1 f)) : RC sc (d + 1) mr_224 [.ref 1, .int x1, .ref 225] H (.inl (some (.int 0))) (H'.set 224 (kJ 1 (va_up f 0 v.toInt64))) c s := by
  refine RP.blk 4 (pc' := 4) (lv' := [(0, .ref 1), (1, .int x1), (2, .ref 225)]) (st' := [.int x1, .ref 1, .int 0, .ref 225]) (H' := H) (kc' := 0) (ks' := 0) rfl ?_
  refine RP.call (v := some (.int v)) (st' := [.int 0, .ref 225]) rfl rfl rfl rfl rfl rfl (args_v1 (a := 0) rfl rfl (by decide) rfl h0 (by decide)) hr ?_
  rw [Nat.zero_add, Nat.zero_add]
  refine RP.blk 1 (pc' := 8) (lv' := [(0, .ref 1), (1, .int x1), (2, .ref 225)]) (st' := [.long v.toInt64, .int 0, .ref 225]) (H' := H') (kc' := c) (ks' := s) rfl ?_
  refine RP.last (a := 224) rfl h224 rfl ?_
  refine RP.blk 2 (pc' := 25) (lv' := [(0, .ref 1), (1, .int x1), (2, .ref 225)]) (st' := [.int 0]) (H' := _) (kc' := c) (ks' := s) rfl ?_
  exact RP.done (c := 0) (s := 0) rfl rfl rfl rfl
set_option maxRecDepth 100000 in
set_option maxHeartbeats 1000000 in
theorem rc_w20X0 {sc : Nat × (Nat → Int32)} {d c s : Nat} {H H' : aH} {f0 : List Value} {x1 : Int32} (h0 : H[0]? = some (kO 11 f0)) (hr : RC sc d mr_225 [.ref 1, .int x1] H (.inr 0) H' c s) : RC sc (d + 1) mr_224 [.ref 1, .int x1, .ref 225] H (.inl (some (.int 1))) H' c s := by
  refine RP.blk 4 (pc' := 4) (lv' := [(0, .ref 1), (1, .int x1), (2, .ref 225)]) (st' := [.int x1, .ref 1, .int 0, .ref 225]) (H' := H) (kc' := 0) (ks' := 0) rfl ?_
  refine RP.callX (st' := [.int 0, .ref 225]) rfl rfl rfl rfl rfl rfl (args_v1 (a := 0) rfl rfl (by decide) rfl h0 (by decide)) hr rfl ?_
  rw [Nat.zero_add, Nat.zero_add]
  refine RP.blk 1 (pc' := 14) (lv' := [(0, .ref 1), (1, .int x1), (2, .ref 225)]) (st' := [.int 1]) (H' := H') (kc' := c) (ks' := s) rfl ?_
  exact RP.done (c := 0) (s := 0) rfl rfl rfl rfl
set_option maxRecDepth 100000 in
set_option maxHeartbeats 1000000 in
theorem rc_w20X1 {sc : Nat × (Nat → Int32)} {d c s : Nat} {H H' : aH} {f0 : List Value} {x1 : Int32} (h0 : H[0]? = some (kO 11 f0)) (hr : RC sc d mr_225 [.ref 1, .int x1] H (.inr 1) H' c s) : RC sc (d + 1) mr_224 [.ref 1, .int x1, .ref 225] H (.inl (some (.int 2))) H' c s := by
  refine RP.blk 4 (pc' := 4) (lv' := [(0, .ref 1), (1, .int x1), (2, .ref 225)]) (st' := [.int x1, .ref 1, .int 0, .ref 225]) (H' := H) (kc' := 0) (ks' := 0) rfl ?_
  refine RP.callX (st' := [.int 0, .ref 225]) rfl rfl rfl rfl rfl rfl (args_v1 (a := 0) rfl rfl (by decide) rfl h0 (by decide)) hr rfl ?_
  rw [Nat.zero_add, Nat.zero_add]
  refine RP.blk 1 (pc' := 17) (lv' := [(0, .ref 1), (1, .int x1), (2, .ref 225)]) (st' := [.int 2]) (H' := H') (kc' := c) (ks' := s) rfl ?_
  exact RP.done (c := 0) (s := 0) rfl rfl rfl rfl
set_option maxRecDepth 100000 in
set_option maxHeartbeats 1000000 in
theorem rc_w20X3 {sc : Nat × (Nat → Int32)} {d c s : Nat} {H H' : aH} {f0 : List Value} {x1 : Int32} (h0 : H[0]? = some (kO 11 f0)) (hr : RC sc d mr_225 [.ref 1, .int x1] H (.inr 3) H' c s) : RC sc (d + 1) mr_224 [.ref 1, .int x1, .ref 225] H (.inl (some (.int 3))) H' c s := by
  refine RP.blk 4 (pc' := 4) (lv' := [(0, .ref 1), (1, .int x1), (2, .ref 225)]) (st' := [.int x1, .ref 1, .int 0, .ref 225]) (H' := H) (kc' := 0) (ks' := 0) rfl ?_
  refine RP.callX (st' := [.int 0, .ref 225]) rfl rfl rfl rfl rfl rfl (args_v1 (a := 0) rfl rfl (by decide) rfl h0 (by decide)) hr rfl ?_
  rw [Nat.zero_add, Nat.zero_add]
  refine RP.blk 1 (pc' := 20) (lv' := [(0, .ref 1), (1, .int x1), (2, .ref 225)]) (st' := [.int 3]) (H' := H') (kc' := c) (ks' := s) rfl ?_
  exact RP.done (c := 0) (s := 0) rfl rfl rfl rfl
set_option maxRecDepth 100000 in
set_option maxHeartbeats 1000000 in
theorem rc_w20X4 {sc : Nat × (Nat → Int32)} {d c s : Nat} {H H' : aH} {f0 : List Value} {x1 : Int32} (h0 : H[0]? = some (kO 11 f0)) (hr : RC sc d mr_225 [.ref 1, .int x1] H (.inr 4) H' c s) : RC sc (d + 1) mr_224 [.ref 1, .int x1, .ref 225] H (.inl (some (.int 4))) H' c s := by
  refine RP.blk 4 (pc' := 4) (lv' := [(0, .ref 1), (1, .int x1), (2, .ref 225)]) (st' := [.int x1, .ref 1, .int 0, .ref 225]) (H' := H) (kc' := 0) (ks' := 0) rfl ?_
  refine RP.callX (st' := [.int 0, .ref 225]) rfl rfl rfl rfl rfl rfl (args_v1 (a := 0) rfl rfl (by decide) rfl h0 (by decide)) hr rfl ?_
  rw [Nat.zero_add, Nat.zero_add]
  refine RP.blk 1 (pc' := 23) (lv' := [(0, .ref 1), (1, .int x1), (2, .ref 225)]) (st' := [.int 4]) (H' := H') (kc' := c) (ks' := s) rfl ?_
  exact RP.done (c := 0) (s := 0) rfl rfl rfl rfl
set_option maxRecDepth 100000 in
set_option maxHeartbeats 1000000 in
theorem rc_w21 {sc : Nat × (Nat → Int32)} {d c s : Nat} {H H' : aH} {f0 : List Value} {f : Nat → Int64} {v : Int32} {x1 x2 x3 : Int32} (h0 : H[0]? = some (kO 11 f0)) (hr : RC sc d mr_233 [.ref 1, .int x1, .int x2, .int x3] H (.inl (some (.int v))) H' c s) (h224 : H'[224]? = some (kJ 1 f)) : RC sc (d + 1) mr_232 [.ref 1, .int x1, .int x2, .int x3, .ref 225] H (.inl (some (.int 0))) (H'.set 224 (kJ 1 (va_up f 0 v.toInt64))) c s := by
  refine RP.blk 6 (pc' := 7) (lv' := [(0, .ref 1), (1, .int x1), (2, .int x2), (3, .int x3), (4, .ref 225)]) (st' := [.int x3, .int x2, .int x1, .ref 1, .int 0, .ref 225]) (H' := H) (kc' := 0) (ks' := 0) rfl ?_
  refine RP.call (v := some (.int v)) (st' := [.int 0, .ref 225]) rfl rfl rfl rfl rfl rfl (args_v3 (a := 0) rfl rfl (by decide) rfl h0 (by decide)) hr ?_
  rw [Nat.zero_add, Nat.zero_add]
  refine RP.blk 1 (pc' := 11) (lv' := [(0, .ref 1), (1, .int x1), (2, .int x2), (3, .int x3), (4, .ref 225)]) (st' := [.long v.toInt64, .int 0, .ref 225]) (H' := H') (kc' := c) (ks' := s) rfl ?_
  refine RP.last (a := 224) rfl h224 rfl ?_
  refine RP.blk 2 (pc' := 36) (lv' := [(0, .ref 1), (1, .int x1), (2, .int x2), (3, .int x3), (4, .ref 225)]) (st' := [.int 0]) (H' := _) (kc' := c) (ks' := s) rfl ?_
  exact RP.done (c := 0) (s := 0) rfl rfl rfl rfl
set_option maxRecDepth 100000 in
set_option maxHeartbeats 1000000 in
theorem rc_w21X0 {sc : Nat × (Nat → Int32)} {d c s : Nat} {H H' : aH} {f0 : List Value} {x1 x2 x3 : Int32} (h0 : H[0]? = some (kO 11 f0)) (hr : RC sc d mr_233 [.ref 1, .int x1, .int x2, .int x3] H (.inr 0) H' c s) : RC sc (d + 1) mr_232 [.ref 1, .int x1, .int x2, .int x3, .ref 225] H (.inl (some (.int 1))) H' c s := by
  refine RP.blk 6 (pc' := 7) (lv' := [(0, .ref 1), (1, .int x1), (2, .int x2), (3, .int x3), (4, .ref 225)]) (st' := [.int x3, .int x2, .int x1, .ref 1, .int 0, .ref 225]) (H' := H) (kc' := 0) (ks' := 0) rfl ?_
  refine RP.callX (st' := [.int 0, .ref 225]) rfl rfl rfl rfl rfl rfl (args_v3 (a := 0) rfl rfl (by decide) rfl h0 (by decide)) hr rfl ?_
  rw [Nat.zero_add, Nat.zero_add]
  refine RP.blk 1 (pc' := 18) (lv' := [(0, .ref 1), (1, .int x1), (2, .int x2), (3, .int x3), (4, .ref 225)]) (st' := [.int 1]) (H' := H') (kc' := c) (ks' := s) rfl ?_
  exact RP.done (c := 0) (s := 0) rfl rfl rfl rfl
set_option maxRecDepth 100000 in
set_option maxHeartbeats 1000000 in
theorem rc_w21X1 {sc : Nat × (Nat → Int32)} {d c s : Nat} {H H' : aH} {f0 : List Value} {x1 x2 x3 : Int32} (h0 : H[0]? = some (kO 11 f0)) (hr : RC sc d mr_233 [.ref 1, .int x1, .int x2, .int x3] H (.inr 1) H' c s) : RC sc (d + 1) mr_232 [.ref 1, .int x1, .int x2, .int x3, .ref 225] H (.inl (some (.int 2))) H' c s := by
  refine RP.blk 6 (pc' := 7) (lv' := [(0, .ref 1), (1, .int x1), (2, .int x2), (3, .int x3), (4, .ref 225)]) (st' := [.int x3, .int x2, .int x1, .ref 1, .int 0, .ref 225]) (H' := H) (kc' := 0) (ks' := 0) rfl ?_
  refine RP.callX (st' := [.int 0, .ref 225]) rfl rfl rfl rfl rfl rfl (args_v3 (a := 0) rfl rfl (by decide) rfl h0 (by decide)) hr rfl ?_
  rw [Nat.zero_add, Nat.zero_add]
  refine RP.blk 1 (pc' := 22) (lv' := [(0, .ref 1), (1, .int x1), (2, .int x2), (3, .int x3), (4, .ref 225)]) (st' := [.int 2]) (H' := H') (kc' := c) (ks' := s) rfl ?_
  exact RP.done (c := 0) (s := 0) rfl rfl rfl rfl
set_option maxRecDepth 100000 in
set_option maxHeartbeats 1000000 in
theorem rc_w21X3 {sc : Nat × (Nat → Int32)} {d c s : Nat} {H H' : aH} {f0 : List Value} {x1 x2 x3 : Int32} (h0 : H[0]? = some (kO 11 f0)) (hr : RC sc d mr_233 [.ref 1, .int x1, .int x2, .int x3] H (.inr 3) H' c s) : RC sc (d + 1) mr_232 [.ref 1, .int x1, .int x2, .int x3, .ref 225] H (.inl (some (.int 3))) H' c s := by
  refine RP.blk 6 (pc' := 7) (lv' := [(0, .ref 1), (1, .int x1), (2, .int x2), (3, .int x3), (4, .ref 225)]) (st' := [.int x3, .int x2, .int x1, .ref 1, .int 0, .ref 225]) (H' := H) (kc' := 0) (ks' := 0) rfl ?_
  refine RP.callX (st' := [.int 0, .ref 225]) rfl rfl rfl rfl rfl rfl (args_v3 (a := 0) rfl rfl (by decide) rfl h0 (by decide)) hr rfl ?_
  rw [Nat.zero_add, Nat.zero_add]
  refine RP.blk 1 (pc' := 26) (lv' := [(0, .ref 1), (1, .int x1), (2, .int x2), (3, .int x3), (4, .ref 225)]) (st' := [.int 3]) (H' := H') (kc' := c) (ks' := s) rfl ?_
  exact RP.done (c := 0) (s := 0) rfl rfl rfl rfl
set_option maxRecDepth 100000 in
set_option maxHeartbeats 1000000 in
theorem rc_w21X4 {sc : Nat × (Nat → Int32)} {d c s : Nat} {H H' : aH} {f0 : List Value} {x1 x2 x3 : Int32} (h0 : H[0]? = some (kO 11 f0)) (hr : RC sc d mr_233 [.ref 1, .int x1, .int x2, .int x3] H (.inr 4) H' c s) : RC sc (d + 1) mr_232 [.ref 1, .int x1, .int x2, .int x3, .ref 225] H (.inl (some (.int 4))) H' c s := by
  refine RP.blk 6 (pc' := 7) (lv' := [(0, .ref 1), (1, .int x1), (2, .int x2), (3, .int x3), (4, .ref 225)]) (st' := [.int x3, .int x2, .int x1, .ref 1, .int 0, .ref 225]) (H' := H) (kc' := 0) (ks' := 0) rfl ?_
  refine RP.callX (st' := [.int 0, .ref 225]) rfl rfl rfl rfl rfl rfl (args_v3 (a := 0) rfl rfl (by decide) rfl h0 (by decide)) hr rfl ?_
  rw [Nat.zero_add, Nat.zero_add]
  refine RP.blk 1 (pc' := 30) (lv' := [(0, .ref 1), (1, .int x1), (2, .int x2), (3, .int x3), (4, .ref 225)]) (st' := [.int 4]) (H' := H') (kc' := c) (ks' := s) rfl ?_
  exact RP.done (c := 0) (s := 0) rfl rfl rfl rfl
set_option maxRecDepth 100000 in
set_option maxHeartbeats 1000000 in
theorem rc_w21X2 {sc : Nat × (Nat → Int32)} {d c s : Nat} {H H' : aH} {f0 : List Value} {x1 x2 x3 : Int32} (h0 : H[0]? = some (kO 11 f0)) (hr : RC sc d mr_233 [.ref 1, .int x1, .int x2, .int x3] H (.inr 2) H' c s) : RC sc (d + 1) mr_232 [.ref 1, .int x1, .int x2, .int x3, .ref 225] H (.inl (some (.int 5))) H' c s := by
  refine RP.blk 6 (pc' := 7) (lv' := [(0, .ref 1), (1, .int x1), (2, .int x2), (3, .int x3), (4, .ref 225)]) (st' := [.int x3, .int x2, .int x1, .ref 1, .int 0, .ref 225]) (H' := H) (kc' := 0) (ks' := 0) rfl ?_
  refine RP.callX (st' := [.int 0, .ref 225]) rfl rfl rfl rfl rfl rfl (args_v3 (a := 0) rfl rfl (by decide) rfl h0 (by decide)) hr rfl ?_
  rw [Nat.zero_add, Nat.zero_add]
  refine RP.blk 1 (pc' := 34) (lv' := [(0, .ref 1), (1, .int x1), (2, .int x2), (3, .int x3), (4, .ref 225)]) (st' := [.int 5]) (H' := H') (kc' := c) (ks' := s) rfl ?_
  exact RP.done (c := 0) (s := 0) rfl rfl rfl rfl
set_option maxRecDepth 100000 in
set_option maxHeartbeats 1000000 in
theorem rc_w22 {sc : Nat × (Nat → Int32)} {d c s : Nat} {H H' : aH} {f0 : List Value} {f : Nat → Int64} {v : Int32} (h0 : H[0]? = some (kO 11 f0)) (hr : RC sc d mr_236 [.ref 1] H (.inl (some (.int v))) H' c s) (h224 : H'[224]? = some (kJ 1 f)) : RC sc (d + 1) mr_235 [.ref 1, .ref 225] H (.inl (some (.int 0))) (H'.set 224 (kJ 1 (va_up f 0 v.toInt64))) c s := by
  refine RP.blk 3 (pc' := 3) (lv' := [(0, .ref 1), (1, .ref 225)]) (st' := [.ref 1, .int 0, .ref 225]) (H' := H) (kc' := 0) (ks' := 0) rfl ?_
  refine RP.call (v := some (.int v)) (st' := [.int 0, .ref 225]) rfl rfl rfl rfl rfl rfl (args_v0 (a := 0) rfl rfl (by decide) rfl h0 (by decide)) hr ?_
  rw [Nat.zero_add, Nat.zero_add]
  refine RP.blk 1 (pc' := 7) (lv' := [(0, .ref 1), (1, .ref 225)]) (st' := [.long v.toInt64, .int 0, .ref 225]) (H' := H') (kc' := c) (ks' := s) rfl ?_
  refine RP.last (a := 224) rfl h224 rfl ?_
  refine RP.blk 2 (pc' := 18) (lv' := [(0, .ref 1), (1, .ref 225)]) (st' := [.int 0]) (H' := _) (kc' := c) (ks' := s) rfl ?_
  exact RP.done (c := 0) (s := 0) rfl rfl rfl rfl
set_option maxRecDepth 100000 in
set_option maxHeartbeats 1000000 in
theorem rc_w22X1 {sc : Nat × (Nat → Int32)} {d c s : Nat} {H H' : aH} {f0 : List Value} (h0 : H[0]? = some (kO 11 f0)) (hr : RC sc d mr_236 [.ref 1] H (.inr 1) H' c s) : RC sc (d + 1) mr_235 [.ref 1, .ref 225] H (.inl (some (.int 1))) H' c s := by
  refine RP.blk 3 (pc' := 3) (lv' := [(0, .ref 1), (1, .ref 225)]) (st' := [.ref 1, .int 0, .ref 225]) (H' := H) (kc' := 0) (ks' := 0) rfl ?_
  refine RP.callX (st' := [.int 0, .ref 225]) rfl rfl rfl rfl rfl rfl (args_v0 (a := 0) rfl rfl (by decide) rfl h0 (by decide)) hr rfl ?_
  rw [Nat.zero_add, Nat.zero_add]
  refine RP.blk 1 (pc' := 13) (lv' := [(0, .ref 1), (1, .ref 225)]) (st' := [.int 1]) (H' := H') (kc' := c) (ks' := s) rfl ?_
  exact RP.done (c := 0) (s := 0) rfl rfl rfl rfl
set_option maxRecDepth 100000 in
set_option maxHeartbeats 1000000 in
theorem rc_w22X3 {sc : Nat × (Nat → Int32)} {d c s : Nat} {H H' : aH} {f0 : List Value} (h0 : H[0]? = some (kO 11 f0)) (hr : RC sc d mr_236 [.ref 1] H (.inr 3) H' c s) : RC sc (d + 1) mr_235 [.ref 1, .ref 225] H (.inl (some (.int 2))) H' c s := by
  refine RP.blk 3 (pc' := 3) (lv' := [(0, .ref 1), (1, .ref 225)]) (st' := [.ref 1, .int 0, .ref 225]) (H' := H) (kc' := 0) (ks' := 0) rfl ?_
  refine RP.callX (st' := [.int 0, .ref 225]) rfl rfl rfl rfl rfl rfl (args_v0 (a := 0) rfl rfl (by decide) rfl h0 (by decide)) hr rfl ?_
  rw [Nat.zero_add, Nat.zero_add]
  refine RP.blk 1 (pc' := 16) (lv' := [(0, .ref 1), (1, .ref 225)]) (st' := [.int 2]) (H' := H') (kc' := c) (ks' := s) rfl ?_
  exact RP.done (c := 0) (s := 0) rfl rfl rfl rfl
set_option maxRecDepth 100000 in
set_option maxHeartbeats 1000000 in
theorem rc_w23 {sc : Nat × (Nat → Int32)} {d c s : Nat} {H H' : aH} {f0 : List Value} {f : Nat → Int64} {v : Int32} {x1 x2 : Int32} (h0 : H[0]? = some (kO 11 f0)) (hr : RC sc d mr_238 [.ref 1, .int x1, .int x2] H (.inl (some (.int v))) H' c s) (h224 : H'[224]? = some (kJ 1 f)) : RC sc (d + 1) mr_237 [.ref 1, .int x1, .int x2, .ref 225] H (.inl (some (.int 0))) (H'.set 224 (kJ 1 (va_up f 0 v.toInt64))) c s := by
  refine RP.blk 5 (pc' := 5) (lv' := [(0, .ref 1), (1, .int x1), (2, .int x2), (3, .ref 225)]) (st' := [.int x2, .int x1, .ref 1, .int 0, .ref 225]) (H' := H) (kc' := 0) (ks' := 0) rfl ?_
  refine RP.call (v := some (.int v)) (st' := [.int 0, .ref 225]) rfl rfl rfl rfl rfl rfl (args_v2 (a := 0) rfl rfl (by decide) rfl h0 (by decide)) hr ?_
  rw [Nat.zero_add, Nat.zero_add]
  refine RP.blk 1 (pc' := 9) (lv' := [(0, .ref 1), (1, .int x1), (2, .int x2), (3, .ref 225)]) (st' := [.long v.toInt64, .int 0, .ref 225]) (H' := H') (kc' := c) (ks' := s) rfl ?_
  refine RP.last (a := 224) rfl h224 rfl ?_
  refine RP.blk 2 (pc' := 30) (lv' := [(0, .ref 1), (1, .int x1), (2, .int x2), (3, .ref 225)]) (st' := [.int 0]) (H' := _) (kc' := c) (ks' := s) rfl ?_
  exact RP.done (c := 0) (s := 0) rfl rfl rfl rfl
set_option maxRecDepth 100000 in
set_option maxHeartbeats 1000000 in
theorem rc_w23X0 {sc : Nat × (Nat → Int32)} {d c s : Nat} {H H' : aH} {f0 : List Value} {x1 x2 : Int32} (h0 : H[0]? = some (kO 11 f0)) (hr : RC sc d mr_238 [.ref 1, .int x1, .int x2] H (.inr 0) H' c s) : RC sc (d + 1) mr_237 [.ref 1, .int x1, .int x2, .ref 225] H (.inl (some (.int 1))) H' c s := by
  refine RP.blk 5 (pc' := 5) (lv' := [(0, .ref 1), (1, .int x1), (2, .int x2), (3, .ref 225)]) (st' := [.int x2, .int x1, .ref 1, .int 0, .ref 225]) (H' := H) (kc' := 0) (ks' := 0) rfl ?_
  refine RP.callX (st' := [.int 0, .ref 225]) rfl rfl rfl rfl rfl rfl (args_v2 (a := 0) rfl rfl (by decide) rfl h0 (by decide)) hr rfl ?_
  rw [Nat.zero_add, Nat.zero_add]
  refine RP.blk 1 (pc' := 16) (lv' := [(0, .ref 1), (1, .int x1), (2, .int x2), (3, .ref 225)]) (st' := [.int 1]) (H' := H') (kc' := c) (ks' := s) rfl ?_
  exact RP.done (c := 0) (s := 0) rfl rfl rfl rfl
set_option maxRecDepth 100000 in
set_option maxHeartbeats 1000000 in
theorem rc_w23X1 {sc : Nat × (Nat → Int32)} {d c s : Nat} {H H' : aH} {f0 : List Value} {x1 x2 : Int32} (h0 : H[0]? = some (kO 11 f0)) (hr : RC sc d mr_238 [.ref 1, .int x1, .int x2] H (.inr 1) H' c s) : RC sc (d + 1) mr_237 [.ref 1, .int x1, .int x2, .ref 225] H (.inl (some (.int 2))) H' c s := by
  refine RP.blk 5 (pc' := 5) (lv' := [(0, .ref 1), (1, .int x1), (2, .int x2), (3, .ref 225)]) (st' := [.int x2, .int x1, .ref 1, .int 0, .ref 225]) (H' := H) (kc' := 0) (ks' := 0) rfl ?_
  refine RP.callX (st' := [.int 0, .ref 225]) rfl rfl rfl rfl rfl rfl (args_v2 (a := 0) rfl rfl (by decide) rfl h0 (by decide)) hr rfl ?_
  rw [Nat.zero_add, Nat.zero_add]
  refine RP.blk 1 (pc' := 20) (lv' := [(0, .ref 1), (1, .int x1), (2, .int x2), (3, .ref 225)]) (st' := [.int 2]) (H' := H') (kc' := c) (ks' := s) rfl ?_
  exact RP.done (c := 0) (s := 0) rfl rfl rfl rfl
set_option maxRecDepth 100000 in
set_option maxHeartbeats 1000000 in
theorem rc_w23X3 {sc : Nat × (Nat → Int32)} {d c s : Nat} {H H' : aH} {f0 : List Value} {x1 x2 : Int32} (h0 : H[0]? = some (kO 11 f0)) (hr : RC sc d mr_238 [.ref 1, .int x1, .int x2] H (.inr 3) H' c s) : RC sc (d + 1) mr_237 [.ref 1, .int x1, .int x2, .ref 225] H (.inl (some (.int 3))) H' c s := by
  refine RP.blk 5 (pc' := 5) (lv' := [(0, .ref 1), (1, .int x1), (2, .int x2), (3, .ref 225)]) (st' := [.int x2, .int x1, .ref 1, .int 0, .ref 225]) (H' := H) (kc' := 0) (ks' := 0) rfl ?_
  refine RP.callX (st' := [.int 0, .ref 225]) rfl rfl rfl rfl rfl rfl (args_v2 (a := 0) rfl rfl (by decide) rfl h0 (by decide)) hr rfl ?_
  rw [Nat.zero_add, Nat.zero_add]
  refine RP.blk 1 (pc' := 24) (lv' := [(0, .ref 1), (1, .int x1), (2, .int x2), (3, .ref 225)]) (st' := [.int 3]) (H' := H') (kc' := c) (ks' := s) rfl ?_
  exact RP.done (c := 0) (s := 0) rfl rfl rfl rfl
set_option maxRecDepth 100000 in
set_option maxHeartbeats 1000000 in
theorem rc_w23X2 {sc : Nat × (Nat → Int32)} {d c s : Nat} {H H' : aH} {f0 : List Value} {x1 x2 : Int32} (h0 : H[0]? = some (kO 11 f0)) (hr : RC sc d mr_238 [.ref 1, .int x1, .int x2] H (.inr 2) H' c s) : RC sc (d + 1) mr_237 [.ref 1, .int x1, .int x2, .ref 225] H (.inl (some (.int 4))) H' c s := by
  refine RP.blk 5 (pc' := 5) (lv' := [(0, .ref 1), (1, .int x1), (2, .int x2), (3, .ref 225)]) (st' := [.int x2, .int x1, .ref 1, .int 0, .ref 225]) (H' := H) (kc' := 0) (ks' := 0) rfl ?_
  refine RP.callX (st' := [.int 0, .ref 225]) rfl rfl rfl rfl rfl rfl (args_v2 (a := 0) rfl rfl (by decide) rfl h0 (by decide)) hr rfl ?_
  rw [Nat.zero_add, Nat.zero_add]
  refine RP.blk 1 (pc' := 28) (lv' := [(0, .ref 1), (1, .int x1), (2, .int x2), (3, .ref 225)]) (st' := [.int 4]) (H' := H') (kc' := c) (ks' := s) rfl ?_
  exact RP.done (c := 0) (s := 0) rfl rfl rfl rfl
set_option maxRecDepth 100000 in
set_option maxHeartbeats 1000000 in
theorem rc_w24 {sc : Nat × (Nat → Int32)} {d c s : Nat} {H H' : aH} {f0 : List Value} {f : Nat → Int64} {v : Int32} {x1 x2 x3 : Int32} (h0 : H[0]? = some (kO 11 f0)) (hr : RC sc d mr_247 [.ref 1, .int x1, .int x2, .int x3] H (.inl (some (.int v))) H' c s) (h224 : H'[224]? = some (kJ 1 f)) : RC sc (d + 1) mr_246 [.ref 1, .int x1, .int x2, .int x3, .ref 225] H (.inl (some (.int 0))) (H'.set 224 (kJ 1 (va_up f 0 v.toInt64))) c s := by
  refine RP.blk 6 (pc' := 7) (lv' := [(0, .ref 1), (1, .int x1), (2, .int x2), (3, .int x3), (4, .ref 225)]) (st' := [.int x3, .int x2, .int x1, .ref 1, .int 0, .ref 225]) (H' := H) (kc' := 0) (ks' := 0) rfl ?_
  refine RP.call (v := some (.int v)) (st' := [.int 0, .ref 225]) rfl rfl rfl rfl rfl rfl (args_v3 (a := 0) rfl rfl (by decide) rfl h0 (by decide)) hr ?_
  rw [Nat.zero_add, Nat.zero_add]
  refine RP.blk 1 (pc' := 11) (lv' := [(0, .ref 1), (1, .int x1), (2, .int x2), (3, .int x3), (4, .ref 225)]) (st' := [.long v.toInt64, .int 0, .ref 225]) (H' := H') (kc' := c) (ks' := s) rfl ?_
  refine RP.last (a := 224) rfl h224 rfl ?_
  refine RP.blk 2 (pc' := 28) (lv' := [(0, .ref 1), (1, .int x1), (2, .int x2), (3, .int x3), (4, .ref 225)]) (st' := [.int 0]) (H' := _) (kc' := c) (ks' := s) rfl ?_
  exact RP.done (c := 0) (s := 0) rfl rfl rfl rfl
set_option maxRecDepth 100000 in
set_option maxHeartbeats 1000000 in
theorem rc_w24X0 {sc : Nat × (Nat → Int32)} {d c s : Nat} {H H' : aH} {f0 : List Value} {x1 x2 x3 : Int32} (h0 : H[0]? = some (kO 11 f0)) (hr : RC sc d mr_247 [.ref 1, .int x1, .int x2, .int x3] H (.inr 0) H' c s) : RC sc (d + 1) mr_246 [.ref 1, .int x1, .int x2, .int x3, .ref 225] H (.inl (some (.int 1))) H' c s := by
  refine RP.blk 6 (pc' := 7) (lv' := [(0, .ref 1), (1, .int x1), (2, .int x2), (3, .int x3), (4, .ref 225)]) (st' := [.int x3, .int x2, .int x1, .ref 1, .int 0, .ref 225]) (H' := H) (kc' := 0) (ks' := 0) rfl ?_
  refine RP.callX (st' := [.int 0, .ref 225]) rfl rfl rfl rfl rfl rfl (args_v3 (a := 0) rfl rfl (by decide) rfl h0 (by decide)) hr rfl ?_
  rw [Nat.zero_add, Nat.zero_add]
  refine RP.blk 1 (pc' := 18) (lv' := [(0, .ref 1), (1, .int x1), (2, .int x2), (3, .int x3), (4, .ref 225)]) (st' := [.int 1]) (H' := H') (kc' := c) (ks' := s) rfl ?_
  exact RP.done (c := 0) (s := 0) rfl rfl rfl rfl
set_option maxRecDepth 100000 in
set_option maxHeartbeats 1000000 in
theorem rc_w24X1 {sc : Nat × (Nat → Int32)} {d c s : Nat} {H H' : aH} {f0 : List Value} {x1 x2 x3 : Int32} (h0 : H[0]? = some (kO 11 f0)) (hr : RC sc d mr_247 [.ref 1, .int x1, .int x2, .int x3] H (.inr 1) H' c s) : RC sc (d + 1) mr_246 [.ref 1, .int x1, .int x2, .int x3, .ref 225] H (.inl (some (.int 2))) H' c s := by
  refine RP.blk 6 (pc' := 7) (lv' := [(0, .ref 1), (1, .int x1), (2, .int x2), (3, .int x3), (4, .ref 225)]) (st' := [.int x3, .int x2, .int x1, .ref 1, .int 0, .ref 225]) (H' := H) (kc' := 0) (ks' := 0) rfl ?_
  refine RP.callX (st' := [.int 0, .ref 225]) rfl rfl rfl rfl rfl rfl (args_v3 (a := 0) rfl rfl (by decide) rfl h0 (by decide)) hr rfl ?_
  rw [Nat.zero_add, Nat.zero_add]
  refine RP.blk 1 (pc' := 22) (lv' := [(0, .ref 1), (1, .int x1), (2, .int x2), (3, .int x3), (4, .ref 225)]) (st' := [.int 2]) (H' := H') (kc' := c) (ks' := s) rfl ?_
  exact RP.done (c := 0) (s := 0) rfl rfl rfl rfl
set_option maxRecDepth 100000 in
set_option maxHeartbeats 1000000 in
theorem rc_w24X3 {sc : Nat × (Nat → Int32)} {d c s : Nat} {H H' : aH} {f0 : List Value} {x1 x2 x3 : Int32} (h0 : H[0]? = some (kO 11 f0)) (hr : RC sc d mr_247 [.ref 1, .int x1, .int x2, .int x3] H (.inr 3) H' c s) : RC sc (d + 1) mr_246 [.ref 1, .int x1, .int x2, .int x3, .ref 225] H (.inl (some (.int 3))) H' c s := by
  refine RP.blk 6 (pc' := 7) (lv' := [(0, .ref 1), (1, .int x1), (2, .int x2), (3, .int x3), (4, .ref 225)]) (st' := [.int x3, .int x2, .int x1, .ref 1, .int 0, .ref 225]) (H' := H) (kc' := 0) (ks' := 0) rfl ?_
  refine RP.callX (st' := [.int 0, .ref 225]) rfl rfl rfl rfl rfl rfl (args_v3 (a := 0) rfl rfl (by decide) rfl h0 (by decide)) hr rfl ?_
  rw [Nat.zero_add, Nat.zero_add]
  refine RP.blk 1 (pc' := 26) (lv' := [(0, .ref 1), (1, .int x1), (2, .int x2), (3, .int x3), (4, .ref 225)]) (st' := [.int 3]) (H' := H') (kc' := c) (ks' := s) rfl ?_
  exact RP.done (c := 0) (s := 0) rfl rfl rfl rfl
set_option maxRecDepth 100000 in
set_option maxHeartbeats 1000000 in
theorem rc_w25 {sc : Nat × (Nat → Int32)} {d c s : Nat} {H H' : aH} {f0 : List Value} {f : Nat → Int64} {v : Int32} {x1 x2 : Int32} (h0 : H[0]? = some (kO 11 f0)) (hr : RC sc d mr_250 [.ref 1, .int x1, .int x2] H (.inl (some (.int v))) H' c s) (h224 : H'[224]? = some (kJ 1 f)) : RC sc (d + 1) mr_249 [.ref 1, .int x1, .int x2, .ref 225] H (.inl (some (.int 0))) (H'.set 224 (kJ 1 (va_up f 0 v.toInt64))) c s := by
  refine RP.blk 5 (pc' := 5) (lv' := [(0, .ref 1), (1, .int x1), (2, .int x2), (3, .ref 225)]) (st' := [.int x2, .int x1, .ref 1, .int 0, .ref 225]) (H' := H) (kc' := 0) (ks' := 0) rfl ?_
  refine RP.call (v := some (.int v)) (st' := [.int 0, .ref 225]) rfl rfl rfl rfl rfl rfl (args_v2 (a := 0) rfl rfl (by decide) rfl h0 (by decide)) hr ?_
  rw [Nat.zero_add, Nat.zero_add]
  refine RP.blk 1 (pc' := 9) (lv' := [(0, .ref 1), (1, .int x1), (2, .int x2), (3, .ref 225)]) (st' := [.long v.toInt64, .int 0, .ref 225]) (H' := H') (kc' := c) (ks' := s) rfl ?_
  refine RP.last (a := 224) rfl h224 rfl ?_
  refine RP.blk 2 (pc' := 26) (lv' := [(0, .ref 1), (1, .int x1), (2, .int x2), (3, .ref 225)]) (st' := [.int 0]) (H' := _) (kc' := c) (ks' := s) rfl ?_
  exact RP.done (c := 0) (s := 0) rfl rfl rfl rfl
set_option maxRecDepth 100000 in
set_option maxHeartbeats 1000000 in
theorem rc_w25X0 {sc : Nat × (Nat → Int32)} {d c s : Nat} {H H' : aH} {f0 : List Value} {x1 x2 : Int32} (h0 : H[0]? = some (kO 11 f0)) (hr : RC sc d mr_250 [.ref 1, .int x1, .int x2] H (.inr 0) H' c s) : RC sc (d + 1) mr_249 [.ref 1, .int x1, .int x2, .ref 225] H (.inl (some (.int 1))) H' c s := by
  refine RP.blk 5 (pc' := 5) (lv' := [(0, .ref 1), (1, .int x1), (2, .int x2), (3, .ref 225)]) (st' := [.int x2, .int x1, .ref 1, .int 0, .ref 225]) (H' := H) (kc' := 0) (ks' := 0) rfl ?_
  refine RP.callX (st' := [.int 0, .ref 225]) rfl rfl rfl rfl rfl rfl (args_v2 (a := 0) rfl rfl (by decide) rfl h0 (by decide)) hr rfl ?_
  rw [Nat.zero_add, Nat.zero_add]
  refine RP.blk 1 (pc' := 16) (lv' := [(0, .ref 1), (1, .int x1), (2, .int x2), (3, .ref 225)]) (st' := [.int 1]) (H' := H') (kc' := c) (ks' := s) rfl ?_
  exact RP.done (c := 0) (s := 0) rfl rfl rfl rfl
set_option maxRecDepth 100000 in
set_option maxHeartbeats 1000000 in
theorem rc_w25X1 {sc : Nat × (Nat → Int32)} {d c s : Nat} {H H' : aH} {f0 : List Value} {x1 x2 : Int32} (h0 : H[0]? = some (kO 11 f0)) (hr : RC sc d mr_250 [.ref 1, .int x1, .int x2] H (.inr 1) H' c s) : RC sc (d + 1) mr_249 [.ref 1, .int x1, .int x2, .ref 225] H (.inl (some (.int 2))) H' c s := by
  refine RP.blk 5 (pc' := 5) (lv' := [(0, .ref 1), (1, .int x1), (2, .int x2), (3, .ref 225)]) (st' := [.int x2, .int x1, .ref 1, .int 0, .ref 225]) (H' := H) (kc' := 0) (ks' := 0) rfl ?_
  refine RP.callX (st' := [.int 0, .ref 225]) rfl rfl rfl rfl rfl rfl (args_v2 (a := 0) rfl rfl (by decide) rfl h0 (by decide)) hr rfl ?_
  rw [Nat.zero_add, Nat.zero_add]
  refine RP.blk 1 (pc' := 20) (lv' := [(0, .ref 1), (1, .int x1), (2, .int x2), (3, .ref 225)]) (st' := [.int 2]) (H' := H') (kc' := c) (ks' := s) rfl ?_
  exact RP.done (c := 0) (s := 0) rfl rfl rfl rfl
set_option maxRecDepth 100000 in
set_option maxHeartbeats 1000000 in
theorem rc_w25X3 {sc : Nat × (Nat → Int32)} {d c s : Nat} {H H' : aH} {f0 : List Value} {x1 x2 : Int32} (h0 : H[0]? = some (kO 11 f0)) (hr : RC sc d mr_250 [.ref 1, .int x1, .int x2] H (.inr 3) H' c s) : RC sc (d + 1) mr_249 [.ref 1, .int x1, .int x2, .ref 225] H (.inl (some (.int 3))) H' c s := by
  refine RP.blk 5 (pc' := 5) (lv' := [(0, .ref 1), (1, .int x1), (2, .int x2), (3, .ref 225)]) (st' := [.int x2, .int x1, .ref 1, .int 0, .ref 225]) (H' := H) (kc' := 0) (ks' := 0) rfl ?_
  refine RP.callX (st' := [.int 0, .ref 225]) rfl rfl rfl rfl rfl rfl (args_v2 (a := 0) rfl rfl (by decide) rfl h0 (by decide)) hr rfl ?_
  rw [Nat.zero_add, Nat.zero_add]
  refine RP.blk 1 (pc' := 24) (lv' := [(0, .ref 1), (1, .int x1), (2, .int x2), (3, .ref 225)]) (st' := [.int 3]) (H' := H') (kc' := c) (ks' := s) rfl ?_
  exact RP.done (c := 0) (s := 0) rfl rfl rfl rfl
set_option maxRecDepth 100000 in
set_option maxHeartbeats 1000000 in
theorem rc_w26 {sc : Nat × (Nat → Int32)} {d c s : Nat} {H H' : aH} {f0 : List Value} {f : Nat → Int64} {v : Int32} {x1 x2 : Int32} (h0 : H[0]? = some (kO 11 f0)) (hr : RC sc d mr_253 [.ref 1, .int x1, .int x2] H (.inl (some (.int v))) H' c s) (h224 : H'[224]? = some (kJ 1 f)) : RC sc (d + 1) mr_252 [.ref 1, .int x1, .int x2, .ref 225] H (.inl (some (.int 0))) (H'.set 224 (kJ 1 (va_up f 0 v.toInt64))) c s := by
  refine RP.blk 5 (pc' := 5) (lv' := [(0, .ref 1), (1, .int x1), (2, .int x2), (3, .ref 225)]) (st' := [.int x2, .int x1, .ref 1, .int 0, .ref 225]) (H' := H) (kc' := 0) (ks' := 0) rfl ?_
  refine RP.call (v := some (.int v)) (st' := [.int 0, .ref 225]) rfl rfl rfl rfl rfl rfl (args_v2 (a := 0) rfl rfl (by decide) rfl h0 (by decide)) hr ?_
  rw [Nat.zero_add, Nat.zero_add]
  refine RP.blk 1 (pc' := 9) (lv' := [(0, .ref 1), (1, .int x1), (2, .int x2), (3, .ref 225)]) (st' := [.long v.toInt64, .int 0, .ref 225]) (H' := H') (kc' := c) (ks' := s) rfl ?_
  refine RP.last (a := 224) rfl h224 rfl ?_
  refine RP.blk 2 (pc' := 26) (lv' := [(0, .ref 1), (1, .int x1), (2, .int x2), (3, .ref 225)]) (st' := [.int 0]) (H' := _) (kc' := c) (ks' := s) rfl ?_
  exact RP.done (c := 0) (s := 0) rfl rfl rfl rfl
set_option maxRecDepth 100000 in
set_option maxHeartbeats 1000000 in
theorem rc_w26X0 {sc : Nat × (Nat → Int32)} {d c s : Nat} {H H' : aH} {f0 : List Value} {x1 x2 : Int32} (h0 : H[0]? = some (kO 11 f0)) (hr : RC sc d mr_253 [.ref 1, .int x1, .int x2] H (.inr 0) H' c s) : RC sc (d + 1) mr_252 [.ref 1, .int x1, .int x2, .ref 225] H (.inl (some (.int 1))) H' c s := by
  refine RP.blk 5 (pc' := 5) (lv' := [(0, .ref 1), (1, .int x1), (2, .int x2), (3, .ref 225)]) (st' := [.int x2, .int x1, .ref 1, .int 0, .ref 225]) (H' := H) (kc' := 0) (ks' := 0) rfl ?_
  refine RP.callX (st' := [.int 0, .ref 225]) rfl rfl rfl rfl rfl rfl (args_v2 (a := 0) rfl rfl (by decide) rfl h0 (by decide)) hr rfl ?_
  rw [Nat.zero_add, Nat.zero_add]
  refine RP.blk 1 (pc' := 16) (lv' := [(0, .ref 1), (1, .int x1), (2, .int x2), (3, .ref 225)]) (st' := [.int 1]) (H' := H') (kc' := c) (ks' := s) rfl ?_
  exact RP.done (c := 0) (s := 0) rfl rfl rfl rfl
set_option maxRecDepth 100000 in
set_option maxHeartbeats 1000000 in
theorem rc_w26X1 {sc : Nat × (Nat → Int32)} {d c s : Nat} {H H' : aH} {f0 : List Value} {x1 x2 : Int32} (h0 : H[0]? = some (kO 11 f0)) (hr : RC sc d mr_253 [.ref 1, .int x1, .int x2] H (.inr 1) H' c s) : RC sc (d + 1) mr_252 [.ref 1, .int x1, .int x2, .ref 225] H (.inl (some (.int 2))) H' c s := by
  refine RP.blk 5 (pc' := 5) (lv' := [(0, .ref 1), (1, .int x1), (2, .int x2), (3, .ref 225)]) (st' := [.int x2, .int x1, .ref 1, .int 0, .ref 225]) (H' := H) (kc' := 0) (ks' := 0) rfl ?_
  refine RP.callX (st' := [.int 0, .ref 225]) rfl rfl rfl rfl rfl rfl (args_v2 (a := 0) rfl rfl (by decide) rfl h0 (by decide)) hr rfl ?_
  rw [Nat.zero_add, Nat.zero_add]
  refine RP.blk 1 (pc' := 20) (lv' := [(0, .ref 1), (1, .int x1), (2, .int x2), (3, .ref 225)]) (st' := [.int 2]) (H' := H') (kc' := c) (ks' := s) rfl ?_
  exact RP.done (c := 0) (s := 0) rfl rfl rfl rfl
set_option maxRecDepth 100000 in
set_option maxHeartbeats 1000000 in
theorem rc_w26X3 {sc : Nat × (Nat → Int32)} {d c s : Nat} {H H' : aH} {f0 : List Value} {x1 x2 : Int32} (h0 : H[0]? = some (kO 11 f0)) (hr : RC sc d mr_253 [.ref 1, .int x1, .int x2] H (.inr 3) H' c s) : RC sc (d + 1) mr_252 [.ref 1, .int x1, .int x2, .ref 225] H (.inl (some (.int 3))) H' c s := by
  refine RP.blk 5 (pc' := 5) (lv' := [(0, .ref 1), (1, .int x1), (2, .int x2), (3, .ref 225)]) (st' := [.int x2, .int x1, .ref 1, .int 0, .ref 225]) (H' := H) (kc' := 0) (ks' := 0) rfl ?_
  refine RP.callX (st' := [.int 0, .ref 225]) rfl rfl rfl rfl rfl rfl (args_v2 (a := 0) rfl rfl (by decide) rfl h0 (by decide)) hr rfl ?_
  rw [Nat.zero_add, Nat.zero_add]
  refine RP.blk 1 (pc' := 24) (lv' := [(0, .ref 1), (1, .int x1), (2, .int x2), (3, .ref 225)]) (st' := [.int 3]) (H' := H') (kc' := c) (ks' := s) rfl ?_
  exact RP.done (c := 0) (s := 0) rfl rfl rfl rfl
set_option maxRecDepth 100000 in
set_option maxHeartbeats 1000000 in
theorem rc_w27 {sc : Nat × (Nat → Int32)} {d c s : Nat} {H H' : aH} {f0 : List Value} {f : Nat → Int64} {v : Int32} {x1 x2 : Int32} (h0 : H[0]? = some (kO 11 f0)) (hr : RC sc d mr_257 [.ref 1, .int x1, .int x2] H (.inl (some (.int v))) H' c s) (h224 : H'[224]? = some (kJ 1 f)) : RC sc (d + 1) mr_256 [.ref 1, .int x1, .int x2, .ref 225] H (.inl (some (.int 0))) (H'.set 224 (kJ 1 (va_up f 0 v.toInt64))) c s := by
  refine RP.blk 5 (pc' := 5) (lv' := [(0, .ref 1), (1, .int x1), (2, .int x2), (3, .ref 225)]) (st' := [.int x2, .int x1, .ref 1, .int 0, .ref 225]) (H' := H) (kc' := 0) (ks' := 0) rfl ?_
  refine RP.call (v := some (.int v)) (st' := [.int 0, .ref 225]) rfl rfl rfl rfl rfl rfl (args_v2 (a := 0) rfl rfl (by decide) rfl h0 (by decide)) hr ?_
  rw [Nat.zero_add, Nat.zero_add]
  refine RP.blk 1 (pc' := 9) (lv' := [(0, .ref 1), (1, .int x1), (2, .int x2), (3, .ref 225)]) (st' := [.long v.toInt64, .int 0, .ref 225]) (H' := H') (kc' := c) (ks' := s) rfl ?_
  refine RP.last (a := 224) rfl h224 rfl ?_
  refine RP.blk 2 (pc' := 26) (lv' := [(0, .ref 1), (1, .int x1), (2, .int x2), (3, .ref 225)]) (st' := [.int 0]) (H' := _) (kc' := c) (ks' := s) rfl ?_
  exact RP.done (c := 0) (s := 0) rfl rfl rfl rfl
set_option maxRecDepth 100000 in
set_option maxHeartbeats 1000000 in
theorem rc_w27X0 {sc : Nat × (Nat → Int32)} {d c s : Nat} {H H' : aH} {f0 : List Value} {x1 x2 : Int32} (h0 : H[0]? = some (kO 11 f0)) (hr : RC sc d mr_257 [.ref 1, .int x1, .int x2] H (.inr 0) H' c s) : RC sc (d + 1) mr_256 [.ref 1, .int x1, .int x2, .ref 225] H (.inl (some (.int 1))) H' c s := by
  refine RP.blk 5 (pc' := 5) (lv' := [(0, .ref 1), (1, .int x1), (2, .int x2), (3, .ref 225)]) (st' := [.int x2, .int x1, .ref 1, .int 0, .ref 225]) (H' := H) (kc' := 0) (ks' := 0) rfl ?_
  refine RP.callX (st' := [.int 0, .ref 225]) rfl rfl rfl rfl rfl rfl (args_v2 (a := 0) rfl rfl (by decide) rfl h0 (by decide)) hr rfl ?_
  rw [Nat.zero_add, Nat.zero_add]
  refine RP.blk 1 (pc' := 16) (lv' := [(0, .ref 1), (1, .int x1), (2, .int x2), (3, .ref 225)]) (st' := [.int 1]) (H' := H') (kc' := c) (ks' := s) rfl ?_
  exact RP.done (c := 0) (s := 0) rfl rfl rfl rfl
set_option maxRecDepth 100000 in
set_option maxHeartbeats 1000000 in
theorem rc_w27X1 {sc : Nat × (Nat → Int32)} {d c s : Nat} {H H' : aH} {f0 : List Value} {x1 x2 : Int32} (h0 : H[0]? = some (kO 11 f0)) (hr : RC sc d mr_257 [.ref 1, .int x1, .int x2] H (.inr 1) H' c s) : RC sc (d + 1) mr_256 [.ref 1, .int x1, .int x2, .ref 225] H (.inl (some (.int 2))) H' c s := by
  refine RP.blk 5 (pc' := 5) (lv' := [(0, .ref 1), (1, .int x1), (2, .int x2), (3, .ref 225)]) (st' := [.int x2, .int x1, .ref 1, .int 0, .ref 225]) (H' := H) (kc' := 0) (ks' := 0) rfl ?_
  refine RP.callX (st' := [.int 0, .ref 225]) rfl rfl rfl rfl rfl rfl (args_v2 (a := 0) rfl rfl (by decide) rfl h0 (by decide)) hr rfl ?_
  rw [Nat.zero_add, Nat.zero_add]
  refine RP.blk 1 (pc' := 20) (lv' := [(0, .ref 1), (1, .int x1), (2, .int x2), (3, .ref 225)]) (st' := [.int 2]) (H' := H') (kc' := c) (ks' := s) rfl ?_
  exact RP.done (c := 0) (s := 0) rfl rfl rfl rfl
set_option maxRecDepth 100000 in
set_option maxHeartbeats 1000000 in
theorem rc_w27X3 {sc : Nat × (Nat → Int32)} {d c s : Nat} {H H' : aH} {f0 : List Value} {x1 x2 : Int32} (h0 : H[0]? = some (kO 11 f0)) (hr : RC sc d mr_257 [.ref 1, .int x1, .int x2] H (.inr 3) H' c s) : RC sc (d + 1) mr_256 [.ref 1, .int x1, .int x2, .ref 225] H (.inl (some (.int 3))) H' c s := by
  refine RP.blk 5 (pc' := 5) (lv' := [(0, .ref 1), (1, .int x1), (2, .int x2), (3, .ref 225)]) (st' := [.int x2, .int x1, .ref 1, .int 0, .ref 225]) (H' := H) (kc' := 0) (ks' := 0) rfl ?_
  refine RP.callX (st' := [.int 0, .ref 225]) rfl rfl rfl rfl rfl rfl (args_v2 (a := 0) rfl rfl (by decide) rfl h0 (by decide)) hr rfl ?_
  rw [Nat.zero_add, Nat.zero_add]
  refine RP.blk 1 (pc' := 24) (lv' := [(0, .ref 1), (1, .int x1), (2, .int x2), (3, .ref 225)]) (st' := [.int 3]) (H' := H') (kc' := c) (ks' := s) rfl ?_
  exact RP.done (c := 0) (s := 0) rfl rfl rfl rfl
