/-! ===== the law's case feed, in every state; written by wip/gen/feedstep.py ===== -/
set_option maxRecDepth 100000 in
set_option maxHeartbeats 1000000 in
theorem rc_wfeed {sc : Nat × (Nat → Int32)} {d : Nat} {H H' : aH} {f0 : List Value} {f : Nat → Int64} {v : Int32} {x1 x2 x3 x4 x5 : Int32} (h0 : H[0]? = some (kO 11 f0)) (hr : RC sc d mr_17 [.ref 1, .int x1, .int x2, .int x3, .int x4, .int x5] H (.inl (some (.int v))) H' 0 0) (h224 : H'[224]? = some (kJ 1 f)) : RC sc (d + 1) mr_16 [.ref 1, .int x1, .int x2, .int x3, .int x4, .int x5, .ref 225] H (.inl (some (.int 0))) (H'.set 224 (kJ 1 (va_up f 0 v.toInt64))) 0 0 := by
  refine RP.blk 8 (pc' := 11) (lv' := [(0, .ref 1), (1, .int x1), (2, .int x2), (3, .int x3), (4, .int x4), (5, .int x5), (6, .ref 225)]) (st' := [.int x5, .int x4, .int x3, .int x2, .int x1, .ref 1, .int 0, .ref 225]) (H' := H) (kc' := 0) (ks' := 0) rfl ?_
  refine RP.call (v := some (.int v)) (st' := [.int 0, .ref 225]) rfl rfl rfl rfl rfl rfl (args_v5 (a := 0) rfl rfl (by decide) rfl h0 (by decide)) hr ?_
  refine RP.blk 1 (pc' := 15) (lv' := [(0, .ref 1), (1, .int x1), (2, .int x2), (3, .int x3), (4, .int x4), (5, .int x5), (6, .ref 225)]) (st' := [.long v.toInt64, .int 0, .ref 225]) (H' := H') (kc' := 0) (ks' := 0) rfl ?_
  refine RP.last (a := 224) rfl h224 rfl ?_
  refine RP.blk 2 (pc' := 28) (lv' := [(0, .ref 1), (1, .int x1), (2, .int x2), (3, .int x3), (4, .int x4), (5, .int x5), (6, .ref 225)]) (st' := [.int 0]) (H' := _) (kc' := 0) (ks' := 0) rfl ?_
  exact RP.done (c := 0) (s := 0) rfl rfl rfl rfl
set_option maxRecDepth 100000 in
set_option maxHeartbeats 1000000 in
theorem rc_wfeedX1 {sc : Nat × (Nat → Int32)} {d : Nat} {H H' : aH} {f0 : List Value} {c s : Nat} {x1 x2 x3 x4 x5 : Int32} (h0 : H[0]? = some (kO 11 f0)) (hr : RC sc d mr_17 [.ref 1, .int x1, .int x2, .int x3, .int x4, .int x5] H (.inr 1) H' c s) : RC sc (d + 1) mr_16 [.ref 1, .int x1, .int x2, .int x3, .int x4, .int x5, .ref 225] H (.inl (some (.int 1))) H' c s := by
  refine RP.blk 8 (pc' := 11) (lv' := [(0, .ref 1), (1, .int x1), (2, .int x2), (3, .int x3), (4, .int x4), (5, .int x5), (6, .ref 225)]) (st' := [.int x5, .int x4, .int x3, .int x2, .int x1, .ref 1, .int 0, .ref 225]) (H' := H) (kc' := 0) (ks' := 0) rfl ?_
  refine RP.callX (st' := [.int 0, .ref 225]) rfl rfl rfl rfl rfl rfl (args_v5 (a := 0) rfl rfl (by decide) rfl h0 (by decide)) hr rfl ?_
  refine RP.blk 1 (pc' := 22) (lv' := [(0, .ref 1), (1, .int x1), (2, .int x2), (3, .int x3), (4, .int x4), (5, .int x5), (6, .ref 225)]) (st' := [.int 1]) (H' := H') (kc' := 0 + c) (ks' := 0 + s) rfl ?_
  rw [Nat.zero_add, Nat.zero_add]
  exact RP.done (c := 0) (s := 0) rfl rfl rfl rfl
set_option maxRecDepth 100000 in
set_option maxHeartbeats 1000000 in
theorem rc_wfeedX2 {sc : Nat × (Nat → Int32)} {d : Nat} {H H' : aH} {f0 : List Value} {c s : Nat} {x1 x2 x3 x4 x5 : Int32} (h0 : H[0]? = some (kO 11 f0)) (hr : RC sc d mr_17 [.ref 1, .int x1, .int x2, .int x3, .int x4, .int x5] H (.inr 2) H' c s) : RC sc (d + 1) mr_16 [.ref 1, .int x1, .int x2, .int x3, .int x4, .int x5, .ref 225] H (.inl (some (.int 2))) H' c s := by
  refine RP.blk 8 (pc' := 11) (lv' := [(0, .ref 1), (1, .int x1), (2, .int x2), (3, .int x3), (4, .int x4), (5, .int x5), (6, .ref 225)]) (st' := [.int x5, .int x4, .int x3, .int x2, .int x1, .ref 1, .int 0, .ref 225]) (H' := H) (kc' := 0) (ks' := 0) rfl ?_
  refine RP.callX (st' := [.int 0, .ref 225]) rfl rfl rfl rfl rfl rfl (args_v5 (a := 0) rfl rfl (by decide) rfl h0 (by decide)) hr rfl ?_
  refine RP.blk 1 (pc' := 26) (lv' := [(0, .ref 1), (1, .int x1), (2, .int x2), (3, .int x3), (4, .int x4), (5, .int x5), (6, .ref 225)]) (st' := [.int 2]) (H' := H') (kc' := 0 + c) (ks' := 0 + s) rfl ?_
  rw [Nat.zero_add, Nat.zero_add]
  exact RP.done (c := 0) (s := 0) rfl rfl rfl rfl
theorem rc_feed_down {sc : Nat × (Nat → Int32)} {d : Nat} {H : aH} {o : Nat} {fs : List Value} {x1 x2 x3 x4 x5 : Int32} (h : H[o]? = some (kO 11 fs)) (hu : fs[13]? = some (.int 0)) : RC sc (d + 1) mr_17 [.ref (o + 1), .int x1, .int x2, .int x3, .int x4, .int x5] H (.inr 1) H 1 6 := by
  refine RP.blk 1 (pc' := 1) (lv' := [(0, .ref (o + 1)), (1, .int x1), (2, .int x2), (3, .int x3), (4, .int x4), (5, .int x5)]) (st' := [.ref (o + 1)]) (H' := H) (kc' := 0) (ks' := 0) rfl ?_
  exact RP.callP (st' := []) rfl rfl rfl rfl rfl rfl (args_v0 rfl rfl (by decide) rfl h (by decide)) (rc_down h hu) rfl
theorem rc_feed_full {sc : Nat × (Nat → Int32)} {d : Nat} {H : aH} {o a b n l : Nat} {f : Nat → Int8} {fs : List Value} {x1 x2 x3 x4 x5 : Int32} (h : H[o]? = some (kO 11 fs)) (hu : fs[13]? = some (.int 1)) (ht : fs[1]? = some (.ref (a + 1))) (hr : RowAt H a b n f l) (hk : 2000 < l + 20) (hb : l + 20 < 2 ^ 31) : RC sc (d + 1) mr_17 [.ref (o + 1), .int x1, .int x2, .int x3, .int x4, .int x5] H (.inr 2) H 1 6 := by
  refine RP.blk 1 (pc' := 1) (lv' := [(0, .ref (o + 1)), (1, .int x1), (2, .int x2), (3, .int x3), (4, .int x4), (5, .int x5)]) (st' := [.ref (o + 1)]) (H' := H) (kc' := 0) (ks' := 0) rfl ?_
  refine RP.call (v := none) (st' := []) rfl rfl rfl rfl rfl rfl (args_v0 rfl rfl (by decide) rfl h (by decide)) (rc_up h hu) ?_
  refine RP.blk 2 (pc' := 7) (lv' := [(0, .ref (o + 1)), (1, .int x1), (2, .int x2), (3, .int x3), (4, .int x4), (5, .int x5)]) (st' := [.int (nI 20), .ref (o + 1)]) (H' := H) (kc' := 0) (ks' := 0) rfl ?_
  exact RP.callP (st' := []) rfl rfl rfl rfl rfl rfl (args_v1 rfl rfl (by decide) rfl h (by decide)) (rc_noroom h ht hr hk hb) rfl
theorem rc_mfail {sc : Nat × (Nat → Int32)} {d a : Nat} {H : aH} {fs : List Value} {c : Int32} (h : H[a]? = some (kO 12 fs)) (hl : fs.length = 40) : RC sc d mr_262 [.ref (a + 1), .int c] H (.inl (some (.int 0))) (H.set a (kO 12 (fs.set 0 (.int c)))) 0 0 := by
  refine RP.blk 2 (pc' := 2) (lv' := [(0, .ref (a + 1)), (1, .int c)]) (st' := [.int c, .ref (a + 1)]) (H' := H) (kc' := 0) (ks' := 0) rfl ?_
  refine RP.put (ci := 12) rfl h rfl rfl (by rw [hl]; decide) ?_
  refine RP.blk 1 (pc' := 6) (lv' := [(0, .ref (a + 1)), (1, .int c)]) (st' := [.int 0]) (H' := _) (kc' := 0) (ks' := 0) rfl ?_
  exact RP.done (c := 0) (s := 0) rfl rfl rfl rfl
theorem rc_mfeed_down {sc : Nat × (Nat → Int32)} {d a : Nat} {H : aH} {fs : List Value} {x1 x2 x3 x4 x5 : Int32} (h : H[a]? = some (kO 12 fs)) (hl : fs.length = 40) (hd : fs[2]? = some (.int 1)) : RC sc (d + 1) mr_261 [.ref (a + 1), .int x1, .int x2, .int x3, .int x4, .int x5] H (.inl (some (.int 0))) (H.set a (kO 12 (fs.set 0 (.int 1)))) 0 0 := by
  have g1 : (H.set a (kO 12 (fs.set 0 (.int 0))))[a]? = some (kO 12 (fs.set 0 (.int 0))) := get_set h
  refine RP.blk 2 (pc' := 2) (lv' := [(0, .ref (a + 1)), (1, .int x1), (2, .int x2), (3, .int x3), (4, .int x4), (5, .int x5)]) (st' := [.int 0, .ref (a + 1)]) (H' := H) (kc' := 0) (ks' := 0) rfl ?_
  refine RP.put (ci := 12) rfl h rfl rfl (by rw [hl]; decide) ?_
  refine RP.blk 1 (pc' := 6) (lv' := [(0, .ref (a + 1)), (1, .int x1), (2, .int x2), (3, .int x3), (4, .int x4), (5, .int x5)]) (st' := [.ref (a + 1)]) (H' := _) (kc' := 0) (ks' := 0) rfl ?_
  refine RP.get (ci := 12) rfl g1 rfl (show (fs.set 0 (.int 0))[2]? = _ by rw [List.getElem?_set, if_neg (by decide)]; exact hd) ?_
  refine RP.brF rfl rfl rfl (by decide) ?_
  refine RP.blk 2 (pc' := 14) (lv' := [(0, .ref (a + 1)), (1, .int x1), (2, .int x2), (3, .int x3), (4, .int x4), (5, .int x5)]) (st' := [.int 1, .ref (a + 1)]) (H' := _) (kc' := 0) (ks' := 0) rfl ?_
  refine RP.call (v := some (.int 0)) (st' := []) rfl rfl rfl rfl rfl rfl (args_v1 rfl rfl (by decide) rfl g1 (by decide)) (rc_mfail g1 (by rw [List.length_set]; exact hl)) ?_
  rw [set_set, List.set_set]
  exact RP.done (c := 0) (s := 0) rfl rfl rfl rfl
theorem rc_mfeed {sc : Nat × (Nat → Int32)} {d : Nat} {H : aH} {a b n t : Nat} {f : Nat → Int8} {fs : List Value} {x1 x2 x3 x4 x5 : Int32} (h : ModAt H a b n f fs t) (hd : fs[2]? = some (.int 0)) (hn : 2000 ≤ n) (ht : t + 20 ≤ 2000) : RC sc (d + 1) mr_261 [.ref (a + 1), .int x1, .int x2, .int x3, .int x4, .int x5] H (.inl (some (.int (nI (t + 20))))) (modSet H a b n (up4 (up4 (up4 (up4 (up4 f t x1) (t + 4) x2) (t + 8) x3) (t + 12) x4) (t + 16) x5) (fs.set 0 (.int 0)) (t + 20)) 0 0 := by
  obtain ⟨h1, h2, h3, h4, h5, h6, h7⟩ := h
  have g1 : (H.set a (kO 12 (fs.set 0 (.int 0))))[a]? = some (kO 12 (fs.set 0 (.int 0))) := get_set h1
  have hm : ModAt (H.set a (kO 12 (fs.set 0 (.int 0)))) a b n f (fs.set 0 (.int 0)) t := ⟨g1, by rw [List.length_set]; exact h2, by rw [List.getElem?_set, if_neg (by decide)]; exact h3, by rw [List.getElem?_set, if_neg (by decide)]; exact h4, by rw [List.getElem?_set, if_neg (Ne.symm h6)]; exact h5, h6, h7⟩
  refine RP.blk 2 (pc' := 2) (lv' := [(0, .ref (a + 1)), (1, .int x1), (2, .int x2), (3, .int x3), (4, .int x4), (5, .int x5)]) (st' := [.int 0, .ref (a + 1)]) (H' := H) (kc' := 0) (ks' := 0) rfl ?_
  refine RP.put (ci := 12) rfl h1 rfl rfl (by rw [h2]; decide) ?_
  refine RP.blk 1 (pc' := 6) (lv' := [(0, .ref (a + 1)), (1, .int x1), (2, .int x2), (3, .int x3), (4, .int x4), (5, .int x5)]) (st' := [.ref (a + 1)]) (H' := _) (kc' := 0) (ks' := 0) rfl ?_
  refine RP.get (ci := 12) rfl g1 rfl (show (fs.set 0 (.int 0))[2]? = _ by rw [List.getElem?_set, if_neg (by decide)]; exact hd) ?_
  refine RP.brT rfl rfl rfl (by decide) ?_
  refine RP.blk 1 (pc' := 19) (lv' := [(0, .ref (a + 1)), (1, .int x1), (2, .int x2), (3, .int x3), (4, .int x4), (5, .int x5)]) (st' := [.ref (a + 1)]) (H' := _) (kc' := 0) (ks' := 0) rfl ?_
  refine RP.get (ci := 12) rfl g1 rfl hm.2.2.2.1 ?_
  refine RP.blk 3 (pc' := 28) (lv' := [(0, .ref (a + 1)), (1, .int x1), (2, .int x2), (3, .int x3), (4, .int x4), (5, .int x5)]) (st' := [.int 2000, .int (nI t + 20)]) (H' := _) (kc' := 0) (ks' := 0) rfl ?_
  rw [show nI t + 20 = nI (t + 20) from nI_add t 20]
  refine RP.brT rfl rfl rfl (decide_eq_true (show nI (t + 20) ≤ 2000 from nI_le (b := 2000) ht (by decide))) ?_
  refine RP.blk 2 (pc' := 40) (lv' := [(6, .int 0), (0, .ref (a + 1)), (1, .int x1), (2, .int x2), (3, .int x3), (4, .int x4), (5, .int x5)]) (st' := []) (H' := _) (kc' := 0) (ks' := 0) rfl ?_
  refine rp_mfeed hm (by omega) ?_
  rw [feed_same]
  have e : modSet (H.set a (kO 12 (fs.set 0 (.int 0)))) a b n (up4 (up4 (up4 (up4 (up4 f t x1) (t + 4) x2) (t + 8) x3) (t + 12) x4) (t + 16) x5) (fs.set 0 (.int 0)) (t + 20) = modSet H a b n (up4 (up4 (up4 (up4 (up4 f t x1) (t + 4) x2) (t + 8) x3) (t + 12) x4) (t + 16) x5) (fs.set 0 (.int 0)) (t + 20) := by
    unfold modSet
    rw [List.set_comm _ _ (Ne.symm h6), List.set_set]
  rw [e]
  have g2 := (hm.set (up4 (up4 (up4 (up4 (up4 f t x1) (t + 4) x2) (t + 8) x3) (t + 12) x4) (t + 16) x5) (t + 20))
  rw [e] at g2
  refine RP.blk 1 (pc' := 135) (lv' := [(6, .int 20), (7, .int x5), (0, .ref (a + 1)), (1, .int x1), (2, .int x2), (3, .int x3), (4, .int x4), (5, .int x5)]) (st' := [.ref (a + 1)]) (H' := _) (kc' := 0) (ks' := 0) rfl ?_
  refine RP.get (ci := 12) rfl g2.1 rfl g2.2.2.2.1 ?_
  exact RP.done (c := 0) (s := 0) rfl rfl rfl rfl
