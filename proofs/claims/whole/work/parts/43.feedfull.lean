/-! ===== feed where the tape is full ===== -/
theorem rc_mfeed_full {sc : Nat × (Nat → Int32)} {d a t : Nat} {H : aH} {fs : List Value} {x1 x2 x3 x4 x5 : Int32} (h : H[a]? = some (kO 12 fs)) (hl : fs.length = 40) (hd : fs[2]? = some (.int 0)) (hm : fs[6]? = some (.int (nI t))) (ht : 2000 < t + 20) (hb : t + 20 < 2 ^ 31) : RC sc (d + 1) mr_261 [.ref (a + 1), .int x1, .int x2, .int x3, .int x4, .int x5] H (.inl (some (.int 0))) (H.set a (kO 12 (fs.set 0 (.int 2)))) 0 0 := by
  have g1 : (H.set a (kO 12 (fs.set 0 (.int 0))))[a]? = some (kO 12 (fs.set 0 (.int 0))) := get_set h
  refine RP.blk 2 (pc' := 2) (lv' := [(0, .ref (a + 1)), (1, .int x1), (2, .int x2), (3, .int x3), (4, .int x4), (5, .int x5)]) (st' := [.int 0, .ref (a + 1)]) (H' := H) (kc' := 0) (ks' := 0) rfl ?_
  refine RP.put (ci := 12) rfl h rfl rfl (by rw [hl]; decide) ?_
  refine RP.blk 1 (pc' := 6) (lv' := [(0, .ref (a + 1)), (1, .int x1), (2, .int x2), (3, .int x3), (4, .int x4), (5, .int x5)]) (st' := [.ref (a + 1)]) (H' := _) (kc' := 0) (ks' := 0) rfl ?_
  refine RP.get (ci := 12) rfl g1 rfl (show (fs.set 0 (.int 0))[2]? = _ by rw [List.getElem?_set, if_neg (by decide)]; exact hd) ?_
  refine RP.brT rfl rfl rfl (by decide) ?_
  refine RP.blk 1 (pc' := 19) (lv' := [(0, .ref (a + 1)), (1, .int x1), (2, .int x2), (3, .int x3), (4, .int x4), (5, .int x5)]) (st' := [.ref (a + 1)]) (H' := _) (kc' := 0) (ks' := 0) rfl ?_
  refine RP.get (ci := 12) rfl g1 rfl (show (fs.set 0 (.int 0))[6]? = _ by rw [List.getElem?_set, if_neg (by decide)]; exact hm) ?_
  refine RP.blk 3 (pc' := 28) (lv' := [(0, .ref (a + 1)), (1, .int x1), (2, .int x2), (3, .int x3), (4, .int x4), (5, .int x5)]) (st' := [.int 2000, .int (nI t + 20)]) (H' := _) (kc' := 0) (ks' := 0) rfl ?_
  rw [show nI t + 20 = nI (t + 20) from nI_add t 20]
  refine RP.brF rfl rfl rfl (decide_eq_false (show ¬ nI (t + 20) ≤ 2000 from nI_ge (a := 2000) ht hb)) ?_
  refine RP.blk 2 (pc' := 33) (lv' := [(0, .ref (a + 1)), (1, .int x1), (2, .int x2), (3, .int x3), (4, .int x4), (5, .int x5)]) (st' := [.int 2, .ref (a + 1)]) (H' := _) (kc' := 0) (ks' := 0) rfl ?_
  refine RP.call (v := some (.int 0)) (st' := []) rfl rfl rfl rfl rfl rfl (args_v1 rfl rfl (by decide) rfl g1 (by decide)) (rc_mfail g1 (by rw [List.length_set]; exact hl)) ?_
  rw [set_set, List.set_set]
  exact RP.done (c := 0) (s := 0) rfl rfl rfl rfl
theorem step_feed_full {L i : Nat} {xs : Nat → Int32} {kc ks l n b : Nat} {H : aH} {f0 fs : List Value} {f : Nat → Int8} {r : tO × aH × Nat × Nat} (hL : L < 2 ^ 30) (h : i + 6 ≤ L) (h0 : H[0]? = some (kO 11 f0)) (hu : f0[13]? = some (.int 1)) (ht : f0[1]? = some (.ref 2)) (hr : RowAt H 1 b n f l) (hm : H[195]? = some (kO 12 fs)) (hl : fs.length = 40) (hmt : fs[6]? = some (.int (nI l))) (hd : fs[2]? = some (.int 0)) (hk : 2000 < l + 20) (hb : l + 20 < 2 ^ 31)
    (k : RP (L, xs) 2000 mr_law 33 [(4, .int (nI (i + 6))), (3, .ref 225), (2, .ref 196), (1, .ref 1), (0, .ref 0)] [] (H.set 195 (kO 12 (fs.set 0 (.int 2)))) (kc + 1) (ks + 6) r) :
    RP (L, xs) 2000 mr_law 176 [(4, .int (nI i)), (3, .ref 225), (2, .ref 196), (1, .ref 1), (0, .ref 0)] [] H kc ks r := by
  refine law_feed (c1 := 1) (s1 := 6) hL h (rc_wfeedX2 h0 (rc_feed_full (o := 0) (a := 1) h0 hu ht hr hk hb)) hm (rc_mfeed_full hm hl hd hmt hk hb) ?_
  exact tailX_0 (fs := fs.set 0 (.int 2)) (get_set hm) (by rw [List.getElem?_set, if_pos rfl, if_pos (by omega)]) (by decide) k
