/-! ===== java.util.Arrays.fill of a range of bytes; written by wip/gen/rowops.py ===== -/
theorem rc_rangeCheck {sc : Nat × (Nat → Int32)} {d n i j : Nat} {H : aH} (hi : i ≤ j) (hj : j ≤ n) (hn : n < 2 ^ 31) : RC sc d mr_109 [.int (nI n), .int (nI i), .int (nI j)] H (.inl none) H 0 0 := by
  refine RP.blk 2 (pc' := 2) (lv' := [(0, .int (nI n)), (1, .int (nI i)), (2, .int (nI j))]) (st' := [.int (nI j), .int (nI i)]) (H' := _) (kc' := 0) (ks' := 0) rfl ?_
  refine RP.brT rfl rfl rfl (cT_le i j) ?_
  refine RP.blk 1 (pc' := 47) (lv' := [(0, .int (nI n)), (1, .int (nI i)), (2, .int (nI j))]) (st' := [.int (nI i)]) (H' := _) (kc' := 0) (ks' := 0) rfl ?_
  refine RP.brT rfl rfl rfl (cT_ge i 0) ?_
  refine RP.blk 2 (pc' := 61) (lv' := [(0, .int (nI n)), (1, .int (nI i)), (2, .int (nI j))]) (st' := [.int (nI n), .int (nI j)]) (H' := _) (kc' := 0) (ks' := 0) rfl ?_
  refine RP.brT rfl rfl rfl (cT_le j n) ?_
  exact RP.done (c := 0) (s := 0) rfl rfl rfl rfl
theorem rc_fillR {sc : Nat × (Nat → Int32)} {d a n i k : Nat} {H : aH} {f : Nat → Int8} {v : Int32} (h : H[a]? = some (kB n f)) (hn : n < 2 ^ 30) (hi : i + k ≤ n) : RC sc (d + 1) mr_108 [.ref (a + 1), .int (nI i), .int (nI (i + k)), .int v] H (.inl none) (H.set a (kB n (fun q => if i ≤ q ∧ q < i + k then v.toInt8 else f q))) 0 0 := by
  refine RP.blk 1 (pc' := 1) (lv' := [(0, .ref (a + 1)), (1, .int (nI i)), (2, .int (nI (i + k))), (3, .int v)]) (st' := [.ref (a + 1)]) (H' := _) (kc' := 0) (ks' := 0) rfl ?_
  refine RP.len rfl h rfl ?_
  refine RP.blk 2 (pc' := 4) (lv' := [(0, .ref (a + 1)), (1, .int (nI i)), (2, .int (nI (i + k))), (3, .int v)]) (st' := [.int (nI (i + k)), .int (nI i), .int (nI n)]) (H' := _) (kc' := 0) (ks' := 0) rfl ?_
  refine RP.call (v := none) (st' := []) rfl rfl rfl rfl rfl rfl rfl (rc_rangeCheck (by omega) hi (by omega)) ?_
  refine RP.blk 2 (pc' := 10) (lv' := [(4, .int (nI i)), (0, .ref (a + 1)), (1, .int (nI i)), (2, .int (nI (i + k))), (3, .int v)]) (st' := []) (H' := _) (kc' := 0) (ks' := 0) rfl ?_
  have start : RP sc (d + 1) mr_108 10 [(4, .int (nI (i + 0))), (0, .ref (a + 1)), (1, .int (nI i)), (2, .int (nI (i + k))), (3, .int v)] [] (H.set a (kB n (fun q => if i ≤ q ∧ q < i + 0 then v.toInt8 else f q))) 0 0 (.inl none, H.set a (kB n (fun q => if i ≤ q ∧ q < i + k then v.toInt8 else f q)), 0, 0) := by
    refine RP.loop 10 (fun q => [(4, .int (nI (i + q))), (0, .ref (a + 1)), (1, .int (nI i)), (2, .int (nI (i + k))), (3, .int v)]) [] (fun z => H.set a (kB n (fun q => if i ≤ q ∧ q < i + z then v.toInt8 else f q))) 0 0 k (fun z hz kk => ?_) ?_
    ·
      refine RP.blk 2 (pc' := 13) (lv' := [(4, .int (nI (i + z))), (0, .ref (a + 1)), (1, .int (nI i)), (2, .int (nI (i + k))), (3, .int v)]) (st' := [.int (nI (i + k)), .int (nI (i + z))]) (H' := _) (kc' := 0) (ks' := 0) rfl ?_
      refine RP.brF rfl rfl rfl (cF_ge (i + z) (i + k)) ?_
      refine RP.blk 3 (pc' := 20) (lv' := [(4, .int (nI (i + z))), (0, .ref (a + 1)), (1, .int (nI i)), (2, .int (nI (i + k))), (3, .int v)]) (st' := [.int v, .int (nI (i + z)), .ref (a + 1)]) (H' := _) (kc' := 0) (ks' := 0) rfl ?_
      refine RP.bastN (j := i + z) rfl (get_set h) (by omega) (by omega) ?_
      rw [set_set, up_fill]
      refine RP.blk 1 (pc' := 24) (lv' := [(4, .int (nI (i + z) + 1)), (0, .ref (a + 1)), (1, .int (nI i)), (2, .int (nI (i + k))), (3, .int v)]) (st' := []) (H' := _) (kc' := 0) (ks' := 0) rfl ?_
      rw [show (nI (i + z) + 1 : Int32) = nI (i + z + 1) from nI_add (i + z) 1]
      refine RP.blk 1 (pc' := 10) (lv' := [(4, .int (nI (i + z + 1))), (0, .ref (a + 1)), (1, .int (nI i)), (2, .int (nI (i + k))), (3, .int v)]) (st' := []) (H' := _) (kc' := 0) (ks' := 0) rfl ?_
      exact kk
    ·
      refine RP.blk 2 (pc' := 13) (lv' := [(4, .int (nI (i + k))), (0, .ref (a + 1)), (1, .int (nI i)), (2, .int (nI (i + k))), (3, .int v)]) (st' := [.int (nI (i + k)), .int (nI (i + k))]) (H' := _) (kc' := 0) (ks' := 0) rfl ?_
      refine RP.brT rfl rfl rfl (cT_ge (i + k) (i + k)) ?_
      exact RP.done (c := 0) (s := 0) rfl rfl rfl rfl
  rw [fill_0, set_self h] at start
  exact start
