/-! ===== end, in every state ===== -/
theorem rc_range {sc : Nat × (Nat → Int32)} {d : Nat} {H : aH} {o : Nat} {v lo hi : Int32} (h1 : ¬ v < lo) (h2 : v ≤ hi) : RC sc d mr_24 [.ref (o + 1), .int v, .int lo, .int hi] H (.inl none) H 0 0 := by
  refine RP.blk 2 (pc' := 2) (lv' := [(0, .ref (o + 1)), (1, .int v), (2, .int lo), (3, .int hi)]) (st' := [.int lo, .int v]) (H' := H) (kc' := 0) (ks' := 0) rfl ?_
  refine RP.brF rfl rfl rfl (decide_eq_false h1) ?_
  refine RP.blk 2 (pc' := 7) (lv' := [(0, .ref (o + 1)), (1, .int v), (2, .int lo), (3, .int hi)]) (st' := [.int hi, .int v]) (H' := H) (kc' := 0) (ks' := 0) rfl ?_
  refine RP.brT rfl rfl rfl (decide_eq_true h2) ?_
  exact RP.done (c := 0) (s := 0) rfl rfl rfl rfl
theorem rc_rangeX {sc : Nat × (Nat → Int32)} {d : Nat} {H : aH} {o : Nat} {v lo hi : Int32} (h : v < lo ∨ ¬ v ≤ hi) : RC sc d mr_24 [.ref (o + 1), .int v, .int lo, .int hi] H (.inr 0) H 1 6 := by
  refine RP.blk 2 (pc' := 2) (lv' := [(0, .ref (o + 1)), (1, .int v), (2, .int lo), (3, .int hi)]) (st' := [.int lo, .int v]) (H' := H) (kc' := 0) (ks' := 0) rfl ?_
  by_cases h1 : v < lo
  · refine RP.brT rfl rfl rfl (decide_eq_true h1) ?_
    exact RP.done (c := 1) (s := 6) rfl rfl rfl rfl
  · refine RP.brF rfl rfl rfl (decide_eq_false h1) ?_
    refine RP.blk 2 (pc' := 7) (lv' := [(0, .ref (o + 1)), (1, .int v), (2, .int lo), (3, .int hi)]) (st' := [.int hi, .int v]) (H' := H) (kc' := 0) (ks' := 0) rfl ?_
    refine RP.brF rfl rfl rfl (decide_eq_false (h.resolve_left h1)) ?_
    exact RP.done (c := 1) (s := 6) rfl rfl rfl rfl
theorem rc_end_ok {sc : Nat × (Nat → Int32)} {d : Nat} {H : aH} {o a b n l m : Nat} {f : Nat → Int8} {fs : List Value} (h : H[o]? = some (kO 11 fs)) (hu : fs[13]? = some (.int 1)) (ht : fs[1]? = some (.ref (a + 1))) (hr : RowAt H a b n f l) (hl : l < 2 ^ 31) (hm : m ≤ l) : RC sc (d + 1) mr_26 [.ref (o + 1), .int (nI m)] H (.inl (some (.int (nI m)))) (H.set a (kO 5 [.ref (b + 1), .int (nI m)])) 0 0 := by
  refine RP.blk 4 (pc' := 4) (lv' := [(0, .ref (o + 1)), (1, .int (nI m))]) (st' := [.ref (o + 1), .int 0, .int (nI m), .ref (o + 1)]) (H' := H) (kc' := 0) (ks' := 0) rfl ?_
  refine RP.get (ci := 11) rfl h rfl ht ?_
  refine RP.get (ci := 5) rfl hr.1 rfl rfl ?_
  refine RP.call (v := none) (st' := []) rfl rfl rfl rfl rfl rfl (args_v3 rfl rfl (by decide) rfl h (by decide)) (rc_range (nI_pos (by omega)) (nI_le hm hl)) ?_
  refine RP.blk 1 (pc' := 14) (lv' := [(0, .ref (o + 1)), (1, .int (nI m))]) (st' := [.ref (o + 1)]) (H' := H) (kc' := 0) (ks' := 0) rfl ?_
  refine RP.call (v := none) (st' := []) rfl rfl rfl rfl rfl rfl (args_v0 rfl rfl (by decide) rfl h (by decide)) (rc_up h hu) ?_
  refine RP.blk 1 (pc' := 18) (lv' := [(0, .ref (o + 1)), (1, .int (nI m))]) (st' := [.ref (o + 1)]) (H' := H) (kc' := 0) (ks' := 0) rfl ?_
  refine RP.get (ci := 11) rfl h rfl ht ?_
  refine RP.blk 1 (pc' := 22) (lv' := [(0, .ref (o + 1)), (1, .int (nI m))]) (st' := [.int (nI m), .ref (a + 1)]) (H' := H) (kc' := 0) (ks' := 0) rfl ?_
  refine RP.put (ci := 5) rfl hr.1 rfl rfl (Nat.le_of_ble_eq_true rfl) ?_
  refine RP.blk 1 (pc' := 26) (lv' := [(0, .ref (o + 1)), (1, .int (nI m))]) (st' := [.int (nI m)]) (H' := _) (kc' := 0) (ks' := 0) rfl ?_
  exact RP.done (c := 0) (s := 0) rfl rfl rfl rfl
theorem rc_end_bad {sc : Nat × (Nat → Int32)} {d : Nat} {H : aH} {o a b n l : Nat} {f : Nat → Int8} {fs : List Value} {x : Int32} (h : H[o]? = some (kO 11 fs)) (ht : fs[1]? = some (.ref (a + 1))) (hr : RowAt H a b n f l) (hx : x < 0 ∨ ¬ x ≤ nI l) : RC sc (d + 1) mr_26 [.ref (o + 1), .int x] H (.inr 0) H 1 6 := by
  refine RP.blk 4 (pc' := 4) (lv' := [(0, .ref (o + 1)), (1, .int x)]) (st' := [.ref (o + 1), .int 0, .int x, .ref (o + 1)]) (H' := H) (kc' := 0) (ks' := 0) rfl ?_
  refine RP.get (ci := 11) rfl h rfl ht ?_
  refine RP.get (ci := 5) rfl hr.1 rfl rfl ?_
  exact RP.callP (st' := []) rfl rfl rfl rfl rfl rfl (args_v3 rfl rfl (by decide) rfl h (by decide)) (rc_rangeX hx) rfl
theorem rc_end_down {sc : Nat × (Nat → Int32)} {d : Nat} {H : aH} {o a b n l m : Nat} {f : Nat → Int8} {fs : List Value} (h : H[o]? = some (kO 11 fs)) (hu : fs[13]? = some (.int 0)) (ht : fs[1]? = some (.ref (a + 1))) (hr : RowAt H a b n f l) (hl : l < 2 ^ 31) (hm : m ≤ l) : RC sc (d + 1) mr_26 [.ref (o + 1), .int (nI m)] H (.inr 1) H 1 6 := by
  refine RP.blk 4 (pc' := 4) (lv' := [(0, .ref (o + 1)), (1, .int (nI m))]) (st' := [.ref (o + 1), .int 0, .int (nI m), .ref (o + 1)]) (H' := H) (kc' := 0) (ks' := 0) rfl ?_
  refine RP.get (ci := 11) rfl h rfl ht ?_
  refine RP.get (ci := 5) rfl hr.1 rfl rfl ?_
  refine RP.call (v := none) (st' := []) rfl rfl rfl rfl rfl rfl (args_v3 rfl rfl (by decide) rfl h (by decide)) (rc_range (nI_pos (by omega)) (nI_le hm hl)) ?_
  refine RP.blk 1 (pc' := 14) (lv' := [(0, .ref (o + 1)), (1, .int (nI m))]) (st' := [.ref (o + 1)]) (H' := H) (kc' := 0) (ks' := 0) rfl ?_
  exact RP.callP (st' := []) rfl rfl rfl rfl rfl rfl (args_v0 rfl rfl (by decide) rfl h (by decide)) (rc_down h hu) rfl
/-- the reference's end -/
theorem rc_mend_bad {sc : Nat × (Nat → Int32)} {d a t : Nat} {H : aH} {fs : List Value} {x : Int32} (h : H[a]? = some (kO 12 fs)) (hl : fs.length = 40) (ht : fs[6]? = some (.int (nI t))) (hx : x < 0 ∨ ¬ x ≤ nI t) : RC sc (d + 1) mr_265 [.ref (a + 1), .int x] H (.inl (some (.int 0))) (H.set a (kO 12 (fs.set 0 (.int 1)))) 0 0 := by
  have g1 : (H.set a (kO 12 (fs.set 0 (.int 0))))[a]? = some (kO 12 (fs.set 0 (.int 0))) := get_set h
  have fin : RP sc (d + 1) mr_265 17 [(0, .ref (a + 1)), (1, .int x)] [] (H.set a (kO 12 (fs.set 0 (.int 0)))) 0 0 (.inl (some (.int 0)), H.set a (kO 12 (fs.set 0 (.int 1))), 0, 0) := by
    refine RP.blk 2 (pc' := 19) (lv' := [(0, .ref (a + 1)), (1, .int x)]) (st' := [.int 1, .ref (a + 1)]) (H' := _) (kc' := 0) (ks' := 0) rfl ?_
    refine RP.call (v := some (.int 0)) (st' := []) rfl rfl rfl rfl rfl rfl (args_v1 rfl rfl (by decide) rfl g1 (by decide)) (rc_mfail g1 (by rw [List.length_set]; exact hl)) ?_
    rw [set_set, List.set_set]
    exact RP.done (c := 0) (s := 0) rfl rfl rfl rfl
  refine RP.blk 2 (pc' := 2) (lv' := [(0, .ref (a + 1)), (1, .int x)]) (st' := [.int 0, .ref (a + 1)]) (H' := H) (kc' := 0) (ks' := 0) rfl ?_
  refine RP.put (ci := 12) rfl h rfl rfl (by rw [hl]; decide) ?_
  refine RP.blk 1 (pc' := 6) (lv' := [(0, .ref (a + 1)), (1, .int x)]) (st' := [.int x]) (H' := _) (kc' := 0) (ks' := 0) rfl ?_
  by_cases h1 : x < 0
  · exact RP.brT rfl rfl rfl (decide_eq_true h1) fin
  · refine RP.brF rfl rfl rfl (decide_eq_false h1) ?_
    refine RP.blk 2 (pc' := 11) (lv' := [(0, .ref (a + 1)), (1, .int x)]) (st' := [.ref (a + 1), .int x]) (H' := _) (kc' := 0) (ks' := 0) rfl ?_
    refine RP.get (ci := 12) rfl g1 rfl (show (fs.set 0 (.int 0))[6]? = _ by rw [List.getElem?_set, if_neg (by decide)]; exact ht) ?_
    exact RP.brF rfl rfl rfl (decide_eq_false (hx.resolve_left h1)) fin
theorem rc_mend_down {sc : Nat × (Nat → Int32)} {d a t m : Nat} {H : aH} {fs : List Value} (h : H[a]? = some (kO 12 fs)) (hl : fs.length = 40) (ht : fs[6]? = some (.int (nI t))) (htb : t < 2 ^ 31) (hm : m ≤ t) (hd : fs[2]? = some (.int 1)) : RC sc (d + 1) mr_265 [.ref (a + 1), .int (nI m)] H (.inl (some (.int 0))) (H.set a (kO 12 (fs.set 0 (.int 2)))) 0 0 := by
  have g1 : (H.set a (kO 12 (fs.set 0 (.int 0))))[a]? = some (kO 12 (fs.set 0 (.int 0))) := get_set h
  refine RP.blk 2 (pc' := 2) (lv' := [(0, .ref (a + 1)), (1, .int (nI m))]) (st' := [.int 0, .ref (a + 1)]) (H' := H) (kc' := 0) (ks' := 0) rfl ?_
  refine RP.put (ci := 12) rfl h rfl rfl (by rw [hl]; decide) ?_
  refine RP.blk 1 (pc' := 6) (lv' := [(0, .ref (a + 1)), (1, .int (nI m))]) (st' := [.int (nI m)]) (H' := _) (kc' := 0) (ks' := 0) rfl ?_
  refine RP.brF rfl rfl rfl (decide_eq_false (nI_pos (by omega))) ?_
  refine RP.blk 2 (pc' := 11) (lv' := [(0, .ref (a + 1)), (1, .int (nI m))]) (st' := [.ref (a + 1), .int (nI m)]) (H' := _) (kc' := 0) (ks' := 0) rfl ?_
  refine RP.get (ci := 12) rfl g1 rfl (show (fs.set 0 (.int 0))[6]? = _ by rw [List.getElem?_set, if_neg (by decide)]; exact ht) ?_
  refine RP.brT rfl rfl rfl (decide_eq_true (nI_le hm htb)) ?_
  refine RP.blk 1 (pc' := 24) (lv' := [(0, .ref (a + 1)), (1, .int (nI m))]) (st' := [.ref (a + 1)]) (H' := _) (kc' := 0) (ks' := 0) rfl ?_
  refine RP.get (ci := 12) rfl g1 rfl (show (fs.set 0 (.int 0))[2]? = _ by rw [List.getElem?_set, if_neg (by decide)]; exact hd) ?_
  refine RP.brF rfl rfl rfl (by decide) ?_
  refine RP.blk 2 (pc' := 32) (lv' := [(0, .ref (a + 1)), (1, .int (nI m))]) (st' := [.int 2, .ref (a + 1)]) (H' := _) (kc' := 0) (ks' := 0) rfl ?_
  refine RP.call (v := some (.int 0)) (st' := []) rfl rfl rfl rfl rfl rfl (args_v1 rfl rfl (by decide) rfl g1 (by decide)) (rc_mfail g1 (by rw [List.length_set]; exact hl)) ?_
  rw [set_set, List.set_set]
  exact RP.done (c := 0) (s := 0) rfl rfl rfl rfl
theorem rc_mend_ok {sc : Nat × (Nat → Int32)} {d a t m : Nat} {H : aH} {fs : List Value} (h : H[a]? = some (kO 12 fs)) (hl : fs.length = 40) (ht : fs[6]? = some (.int (nI t))) (htb : t < 2 ^ 31) (hm : m ≤ t) (hd : fs[2]? = some (.int 0)) : RC sc d mr_265 [.ref (a + 1), .int (nI m)] H (.inl (some (.int (nI m)))) (H.set a (kO 12 ((fs.set 0 (.int 0)).set 6 (.int (nI m))))) 0 0 := by
  have g1 : (H.set a (kO 12 (fs.set 0 (.int 0))))[a]? = some (kO 12 (fs.set 0 (.int 0))) := get_set h
  refine RP.blk 2 (pc' := 2) (lv' := [(0, .ref (a + 1)), (1, .int (nI m))]) (st' := [.int 0, .ref (a + 1)]) (H' := H) (kc' := 0) (ks' := 0) rfl ?_
  refine RP.put (ci := 12) rfl h rfl rfl (by rw [hl]; decide) ?_
  refine RP.blk 1 (pc' := 6) (lv' := [(0, .ref (a + 1)), (1, .int (nI m))]) (st' := [.int (nI m)]) (H' := _) (kc' := 0) (ks' := 0) rfl ?_
  refine RP.brF rfl rfl rfl (decide_eq_false (nI_pos (by omega))) ?_
  refine RP.blk 2 (pc' := 11) (lv' := [(0, .ref (a + 1)), (1, .int (nI m))]) (st' := [.ref (a + 1), .int (nI m)]) (H' := _) (kc' := 0) (ks' := 0) rfl ?_
  refine RP.get (ci := 12) rfl g1 rfl (show (fs.set 0 (.int 0))[6]? = _ by rw [List.getElem?_set, if_neg (by decide)]; exact ht) ?_
  refine RP.brT rfl rfl rfl (decide_eq_true (nI_le hm htb)) ?_
  refine RP.blk 1 (pc' := 24) (lv' := [(0, .ref (a + 1)), (1, .int (nI m))]) (st' := [.ref (a + 1)]) (H' := _) (kc' := 0) (ks' := 0) rfl ?_
  refine RP.get (ci := 12) rfl g1 rfl (show (fs.set 0 (.int 0))[2]? = _ by rw [List.getElem?_set, if_neg (by decide)]; exact hd) ?_
  refine RP.brT rfl rfl rfl (by decide) ?_
  refine RP.blk 2 (pc' := 38) (lv' := [(0, .ref (a + 1)), (1, .int (nI m))]) (st' := [.int (nI m), .ref (a + 1)]) (H' := _) (kc' := 0) (ks' := 0) rfl ?_
  refine RP.put (ci := 12) rfl g1 rfl rfl (by rw [List.length_set, hl]; decide) ?_
  rw [set_set]
  refine RP.blk 1 (pc' := 42) (lv' := [(0, .ref (a + 1)), (1, .int (nI m))]) (st' := [.int (nI m)]) (H' := _) (kc' := 0) (ks' := 0) rfl ?_
  exact RP.done (c := 0) (s := 0) rfl rfl rfl rfl
