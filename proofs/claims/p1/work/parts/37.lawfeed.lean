/-! ===== the law's case feed: from the switch to the next loop head, in every state; written by wip/gen/lawfeed.py ===== -/
set_option maxRecDepth 100000 in
set_option maxHeartbeats 1000000 in
theorem law_feed {L i : Nat} {xs : Nat → Int32} {kc ks c1 s1 : Nat} {H H1 H2 : aH} {fs1 : List Value} {kk v : Int32} {r : tO × aH × Nat × Nat} (hL : L < 2 ^ 30) (h : i + 6 ≤ L) (hw : RC (L, xs) 1999 mr_16 [.ref 1, .int (xs (i + 1)), .int (xs (i + 2)), .int (xs (i + 3)), .int (xs (i + 4)), .int (xs (i + 5)), .ref 225] H (.inl (some (.int kk))) H1 c1 s1) (hmo : H1[195]? = some (kO 12 fs1)) (hm : RC (L, xs) 1999 mr_261 [.ref 196, .int (xs (i + 1)), .int (xs (i + 2)), .int (xs (i + 3)), .int (xs (i + 4)), .int (xs (i + 5))] H1 (.inl (some (.int v))) H2 0 0)
    (k : RP (L, xs) 2000 mr_law 249 [(6, .int v), (5, .int kk), (4, .int (nI i)), (3, .ref 225), (2, .ref 196), (1, .ref 1), (0, .ref 0)] [] H2 (kc + c1) (ks + s1) r) : RP (L, xs) 2000 mr_law 176 [(4, .int (nI i)), (3, .ref 225), (2, .ref 196), (1, .ref 1), (0, .ref 0)] [] H kc ks r := by
  refine RP.blk 5 (pc' := 182) (lv' := [(4, .int (nI i)), (3, .ref 225), (2, .ref 196), (1, .ref 1), (0, .ref 0)]) (st' := [.int (nI i + 1), .ref 0, .ref 1]) (H' := H) (kc' := kc) (ks' := ks) rfl ?_
  rw [show nI i + 1 = nI (i + 1) from nI_add i 1]
  refine RP.sld rfl (by omega) (by omega) ?_
  refine RP.blk 4 (pc' := 188) (lv' := [(4, .int (nI i)), (3, .ref 225), (2, .ref 196), (1, .ref 1), (0, .ref 0)]) (st' := [.int (nI i + 2), .ref 0, .int (xs (i + 1)), .ref 1]) (H' := H) (kc' := kc) (ks' := ks) rfl ?_
  rw [show nI i + 2 = nI (i + 2) from nI_add i 2]
  refine RP.sld rfl (by omega) (by omega) ?_
  refine RP.blk 4 (pc' := 194) (lv' := [(4, .int (nI i)), (3, .ref 225), (2, .ref 196), (1, .ref 1), (0, .ref 0)]) (st' := [.int (nI i + 3), .ref 0, .int (xs (i + 2)), .int (xs (i + 1)), .ref 1]) (H' := H) (kc' := kc) (ks' := ks) rfl ?_
  rw [show nI i + 3 = nI (i + 3) from nI_add i 3]
  refine RP.sld rfl (by omega) (by omega) ?_
  refine RP.blk 4 (pc' := 200) (lv' := [(4, .int (nI i)), (3, .ref 225), (2, .ref 196), (1, .ref 1), (0, .ref 0)]) (st' := [.int (nI i + 4), .ref 0, .int (xs (i + 3)), .int (xs (i + 2)), .int (xs (i + 1)), .ref 1]) (H' := H) (kc' := kc) (ks' := ks) rfl ?_
  rw [show nI i + 4 = nI (i + 4) from nI_add i 4]
  refine RP.sld rfl (by omega) (by omega) ?_
  refine RP.blk 4 (pc' := 206) (lv' := [(4, .int (nI i)), (3, .ref 225), (2, .ref 196), (1, .ref 1), (0, .ref 0)]) (st' := [.int (nI i + 5), .ref 0, .int (xs (i + 4)), .int (xs (i + 3)), .int (xs (i + 2)), .int (xs (i + 1)), .ref 1]) (H' := H) (kc' := kc) (ks' := ks) rfl ?_
  rw [show nI i + 5 = nI (i + 5) from nI_add i 5]
  refine RP.sld rfl (by omega) (by omega) ?_
  refine RP.blk 1 (pc' := 208) (lv' := [(4, .int (nI i)), (3, .ref 225), (2, .ref 196), (1, .ref 1), (0, .ref 0)]) (st' := [.ref 225, .int (xs (i + 5)), .int (xs (i + 4)), .int (xs (i + 3)), .int (xs (i + 2)), .int (xs (i + 1)), .ref 1]) (H' := H) (kc' := kc) (ks' := ks) rfl ?_
  refine RP.call (v := some (.int kk)) (st' := []) rfl rfl rfl rfl rfl rfl rfl hw ?_
  refine RP.blk 1 (pc' := 213) (lv' := [(5, .int kk), (4, .int (nI i)), (3, .ref 225), (2, .ref 196), (1, .ref 1), (0, .ref 0)]) (st' := []) (H' := H1) (kc' := kc + c1) (ks' := ks + s1) rfl ?_
  refine RP.blk 5 (pc' := 219) (lv' := [(5, .int kk), (4, .int (nI i)), (3, .ref 225), (2, .ref 196), (1, .ref 1), (0, .ref 0)]) (st' := [.int (nI i + 1), .ref 0, .ref 196]) (H' := H1) (kc' := kc + c1) (ks' := ks + s1) rfl ?_
  rw [show nI i + 1 = nI (i + 1) from nI_add i 1]
  refine RP.sld rfl (by omega) (by omega) ?_
  refine RP.blk 4 (pc' := 225) (lv' := [(5, .int kk), (4, .int (nI i)), (3, .ref 225), (2, .ref 196), (1, .ref 1), (0, .ref 0)]) (st' := [.int (nI i + 2), .ref 0, .int (xs (i + 1)), .ref 196]) (H' := H1) (kc' := kc + c1) (ks' := ks + s1) rfl ?_
  rw [show nI i + 2 = nI (i + 2) from nI_add i 2]
  refine RP.sld rfl (by omega) (by omega) ?_
  refine RP.blk 4 (pc' := 231) (lv' := [(5, .int kk), (4, .int (nI i)), (3, .ref 225), (2, .ref 196), (1, .ref 1), (0, .ref 0)]) (st' := [.int (nI i + 3), .ref 0, .int (xs (i + 2)), .int (xs (i + 1)), .ref 196]) (H' := H1) (kc' := kc + c1) (ks' := ks + s1) rfl ?_
  rw [show nI i + 3 = nI (i + 3) from nI_add i 3]
  refine RP.sld rfl (by omega) (by omega) ?_
  refine RP.blk 4 (pc' := 237) (lv' := [(5, .int kk), (4, .int (nI i)), (3, .ref 225), (2, .ref 196), (1, .ref 1), (0, .ref 0)]) (st' := [.int (nI i + 4), .ref 0, .int (xs (i + 3)), .int (xs (i + 2)), .int (xs (i + 1)), .ref 196]) (H' := H1) (kc' := kc + c1) (ks' := ks + s1) rfl ?_
  rw [show nI i + 4 = nI (i + 4) from nI_add i 4]
  refine RP.sld rfl (by omega) (by omega) ?_
  refine RP.blk 4 (pc' := 243) (lv' := [(5, .int kk), (4, .int (nI i)), (3, .ref 225), (2, .ref 196), (1, .ref 1), (0, .ref 0)]) (st' := [.int (nI i + 5), .ref 0, .int (xs (i + 4)), .int (xs (i + 3)), .int (xs (i + 2)), .int (xs (i + 1)), .ref 196]) (H' := H1) (kc' := kc + c1) (ks' := ks + s1) rfl ?_
  rw [show nI i + 5 = nI (i + 5) from nI_add i 5]
  refine RP.sld rfl (by omega) (by omega) ?_
  refine RP.call (v := some (.int v)) (st' := []) rfl rfl rfl rfl rfl rfl (args_v5 (a := 195) rfl rfl (by decide) rfl hmo (by decide)) hm ?_
  refine RP.blk 1 (pc' := 249) (lv' := [(6, .int v), (5, .int kk), (4, .int (nI i)), (3, .ref 225), (2, .ref 196), (1, .ref 1), (0, .ref 0)]) (st' := []) (H' := H2) (kc' := kc + c1) (ks' := ks + s1) rfl ?_
  exact k
