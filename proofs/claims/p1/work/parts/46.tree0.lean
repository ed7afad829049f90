/-! ===== the tree: numbers, kinds; class and reference; written by wip/gen/tree0.py ===== -/
theorem rc_isNum {sc : Nat × (Nat → Int32)} {d a v : Nat} {H : aH} (hv : v ≤ 200) : RC sc d mr_211 [.ref (a + 1), .int (nI v)] H (.inl (some (.int 1))) H 0 0 := by
  refine RP.blk 1 (pc' := 1) (lv' := [(0, .ref (a + 1)), (1, .int (nI v))]) (st' := [.int (nI v)]) (H' := _) (kc' := 0) (ks' := 0) rfl ?_
  refine RP.brF rfl rfl rfl (cF_lt v 0) ?_
  refine RP.blk 2 (pc' := 8) (lv' := [(0, .ref (a + 1)), (1, .int (nI v))]) (st' := [.int 200, .int (nI v)]) (H' := _) (kc' := 0) (ks' := 0) rfl ?_
  refine RP.brF rfl rfl rfl (cF_gt v 200) ?_
  refine RP.blk 2 (pc' := 16) (lv' := [(0, .ref (a + 1)), (1, .int (nI v))]) (st' := [.int 1]) (H' := _) (kc' := 0) (ks' := 0) rfl ?_
  exact RP.done (c := 0) (s := 0) rfl rfl rfl rfl
theorem rc_kindOf {sc : Nat × (Nat → Int32)} {d a k v : Nat} {H : aH} {fs : List Value} {f : Nat → Int32} (h : H[a]? = some (kO 9 fs)) (hk : fs[0]? = some (.ref (k + 1))) (hK : H[k]? = some (kI 201 f)) (hv : v ≤ 200) : RC sc (d + 1) mr_210 [.ref (a + 1), .int (nI v)] H (.inl (some (.int (f v)))) H 0 0 := by
  refine RP.blk 2 (pc' := 2) (lv' := [(0, .ref (a + 1)), (1, .int (nI v))]) (st' := [.int (nI v), .ref (a + 1)]) (H' := _) (kc' := 0) (ks' := 0) rfl ?_
  refine RP.call (v := some (.int 1)) (st' := []) rfl rfl rfl rfl rfl rfl (args_v [.int (nI v)] [] rfl rfl (Nat.le_of_ble_eq_true rfl) rfl h (Nat.le_of_ble_eq_true rfl)) (rc_isNum hv) ?_
  refine RP.brF rfl rfl rfl (by decide) ?_
  refine RP.blk 1 (pc' := 9) (lv' := [(0, .ref (a + 1)), (1, .int (nI v))]) (st' := [.ref (a + 1)]) (H' := _) (kc' := 0) (ks' := 0) rfl ?_
  refine RP.get (ci := 9) rfl h rfl hk ?_
  refine RP.blk 1 (pc' := 13) (lv' := [(0, .ref (a + 1)), (1, .int (nI v))]) (st' := [.int (nI v), .ref (k + 1)]) (H' := _) (kc' := 0) (ks' := 0) rfl ?_
  refine RP.ialdN (j := v) rfl hK (by omega) (by decide) ?_
  refine RP.blk 1 (pc' := 18) (lv' := [(0, .ref (a + 1)), (1, .int (nI v))]) (st' := [.int (f v)]) (H' := _) (kc' := 0) (ks' := 0) rfl ?_
  exact RP.done (c := 0) (s := 0) rfl rfl rfl rfl
theorem rc_isDirT {sc : Nat × (Nat → Int32)} {d a k v : Nat} {H : aH} {fs : List Value} {f : Nat → Int32} (h : H[a]? = some (kO 9 fs)) (hk : fs[0]? = some (.ref (k + 1))) (hK : H[k]? = some (kI 201 f)) (hv : v ≤ 200) (hf : f v = 2) : RC sc (d + 2) mr_209 [.ref (a + 1), .int (nI v)] H (.inl (some (.int 1))) H 0 0 := by
  refine RP.blk 2 (pc' := 2) (lv' := [(0, .ref (a + 1)), (1, .int (nI v))]) (st' := [.int (nI v), .ref (a + 1)]) (H' := _) (kc' := 0) (ks' := 0) rfl ?_
  refine RP.call (v := some (.int (f v))) (st' := []) rfl rfl rfl rfl rfl rfl (args_v [.int (nI v)] [] rfl rfl (Nat.le_of_ble_eq_true rfl) rfl h (Nat.le_of_ble_eq_true rfl)) (rc_kindOf h hk hK hv) ?_
  refine RP.blk 1 (pc' := 6) (lv' := [(0, .ref (a + 1)), (1, .int (nI v))]) (st' := [.int 2, .int (f v)]) (H' := _) (kc' := 0) (ks' := 0) rfl ?_
  refine RP.brF rfl rfl rfl (bnf hf) ?_
  refine RP.blk 2 (pc' := 14) (lv' := [(0, .ref (a + 1)), (1, .int (nI v))]) (st' := [.int 1]) (H' := _) (kc' := 0) (ks' := 0) rfl ?_
  exact RP.done (c := 0) (s := 0) rfl rfl rfl rfl
theorem rc_isDirF {sc : Nat × (Nat → Int32)} {d a k v : Nat} {H : aH} {fs : List Value} {f : Nat → Int32} (h : H[a]? = some (kO 9 fs)) (hk : fs[0]? = some (.ref (k + 1))) (hK : H[k]? = some (kI 201 f)) (hv : v ≤ 200) (hf : ¬ f v = 2) : RC sc (d + 2) mr_209 [.ref (a + 1), .int (nI v)] H (.inl (some (.int 0))) H 0 0 := by
  refine RP.blk 2 (pc' := 2) (lv' := [(0, .ref (a + 1)), (1, .int (nI v))]) (st' := [.int (nI v), .ref (a + 1)]) (H' := _) (kc' := 0) (ks' := 0) rfl ?_
  refine RP.call (v := some (.int (f v))) (st' := []) rfl rfl rfl rfl rfl rfl (args_v [.int (nI v)] [] rfl rfl (Nat.le_of_ble_eq_true rfl) rfl h (Nat.le_of_ble_eq_true rfl)) (rc_kindOf h hk hK hv) ?_
  refine RP.blk 1 (pc' := 6) (lv' := [(0, .ref (a + 1)), (1, .int (nI v))]) (st' := [.int 2, .int (f v)]) (H' := _) (kc' := 0) (ks' := 0) rfl ?_
  refine RP.brT rfl rfl rfl (bnt hf) ?_
  refine RP.blk 1 (pc' := 14) (lv' := [(0, .ref (a + 1)), (1, .int (nI v))]) (st' := [.int 0]) (H' := _) (kc' := 0) (ks' := 0) rfl ?_
  exact RP.done (c := 0) (s := 0) rfl rfl rfl rfl
theorem rc_reqNum {sc : Nat × (Nat → Int32)} {d o v : Nat} {H : aH} {fo : List Value} (ho : H[o]? = some (kO 11 fo)) (hv : v ≤ 200) : RC sc (d + 1) mr_216 [.ref (o + 1), .int (nI v)] H (.inl none) H 0 0 := by
  refine RP.blk 4 (pc' := 6) (lv' := [(0, .ref (o + 1)), (1, .int (nI v))]) (st' := [.int 200, .int 0, .int (nI v), .ref (o + 1)]) (H' := _) (kc' := 0) (ks' := 0) rfl ?_
  refine RP.call (v := none) (st' := []) rfl rfl rfl rfl rfl rfl (args_v [.int 200, .int 0, .int (nI v)] [] rfl rfl (Nat.le_of_ble_eq_true rfl) rfl ho (Nat.le_of_ble_eq_true rfl)) (rc_range (lo := 0) (hi := 200) (nI_pos (by omega)) (nI_le (b := 200) (by omega) (by decide))) ?_
  exact RP.done (c := 0) (s := 0) rfl rfl rfl rfl
theorem rc_reqNumX {sc : Nat × (Nat → Int32)} {d o : Nat} {H : aH} {fo : List Value} {x : Int32} (ho : H[o]? = some (kO 11 fo)) (hx : x < 0 ∨ ¬ x ≤ 200) : RC sc (d + 1) mr_216 [.ref (o + 1), .int x] H (.inr 0) H 1 6 := by
  refine RP.blk 4 (pc' := 6) (lv' := [(0, .ref (o + 1)), (1, .int x)]) (st' := [.int 200, .int 0, .int x, .ref (o + 1)]) (H' := _) (kc' := 0) (ks' := 0) rfl ?_
  exact RP.callP (st' := []) rfl rfl rfl rfl rfl rfl (args_v [.int 200, .int 0, .int x] [] rfl rfl (Nat.le_of_ble_eq_true rfl) rfl ho (Nat.le_of_ble_eq_true rfl)) (rc_rangeX hx) rfl
theorem rc_reqDir {sc : Nat × (Nat → Int32)} {d o a k v : Nat} {H : aH} {fo fs : List Value} {f : Nat → Int32} (ho : H[o]? = some (kO 11 fo)) (hot : fo[6]? = some (.ref (a + 1))) (h : H[a]? = some (kO 9 fs)) (hk : fs[0]? = some (.ref (k + 1))) (hK : H[k]? = some (kI 201 f)) (hv : v ≤ 200) (hf : f v = 2) : RC sc (d + 3) mr_218 [.ref (o + 1), .int (nI v)] H (.inl none) H 0 0 := by
  refine RP.blk 1 (pc' := 1) (lv' := [(0, .ref (o + 1)), (1, .int (nI v))]) (st' := [.ref (o + 1)]) (H' := _) (kc' := 0) (ks' := 0) rfl ?_
  refine RP.get (ci := 11) rfl ho rfl hot ?_
  refine RP.blk 1 (pc' := 5) (lv' := [(0, .ref (o + 1)), (1, .int (nI v))]) (st' := [.int (nI v), .ref (a + 1)]) (H' := _) (kc' := 0) (ks' := 0) rfl ?_
  refine RP.call (v := some (.int 1)) (st' := []) rfl rfl rfl rfl rfl rfl (args_v [.int (nI v)] [] rfl rfl (Nat.le_of_ble_eq_true rfl) rfl h (Nat.le_of_ble_eq_true rfl)) (rc_isDirT h hk hK hv hf) ?_
  refine RP.brT rfl rfl rfl (by decide) ?_
  exact RP.done (c := 0) (s := 0) rfl rfl rfl rfl
theorem rc_reqDirX {sc : Nat × (Nat → Int32)} {d o a k v : Nat} {H : aH} {fo fs : List Value} {f : Nat → Int32} (ho : H[o]? = some (kO 11 fo)) (hot : fo[6]? = some (.ref (a + 1))) (h : H[a]? = some (kO 9 fs)) (hk : fs[0]? = some (.ref (k + 1))) (hK : H[k]? = some (kI 201 f)) (hv : v ≤ 200) (hf : ¬ f v = 2) : RC sc (d + 3) mr_218 [.ref (o + 1), .int (nI v)] H (.inr 3) H 1 6 := by
  refine RP.blk 1 (pc' := 1) (lv' := [(0, .ref (o + 1)), (1, .int (nI v))]) (st' := [.ref (o + 1)]) (H' := _) (kc' := 0) (ks' := 0) rfl ?_
  refine RP.get (ci := 11) rfl ho rfl hot ?_
  refine RP.blk 1 (pc' := 5) (lv' := [(0, .ref (o + 1)), (1, .int (nI v))]) (st' := [.int (nI v), .ref (a + 1)]) (H' := _) (kc' := 0) (ks' := 0) rfl ?_
  refine RP.call (v := some (.int 0)) (st' := []) rfl rfl rfl rfl rfl rfl (args_v [.int (nI v)] [] rfl rfl (Nat.le_of_ble_eq_true rfl) rfl h (Nat.le_of_ble_eq_true rfl)) (rc_isDirF h hk hK hv hf) ?_
  refine RP.brF rfl rfl rfl (by decide) ?_
  exact RP.done (c := 1) (s := 6) rfl rfl rfl rfl
theorem rc_thereX {sc : Nat × (Nat → Int32)} {d o : Nat} {H : aH} {x : Int32} (hx : x < 0) : RC sc d mr_226 [.ref (o + 1), .int x] H (.inr 3) H 1 6 := by
  refine RP.blk 1 (pc' := 1) (lv' := [(0, .ref (o + 1)), (1, .int x)]) (st' := [.int x]) (H' := _) (kc' := 0) (ks' := 0) rfl ?_
  refine RP.brF rfl rfl rfl (decide_eq_false (Int32.not_le.mpr hx)) ?_
  exact RP.done (c := 1) (s := 6) rfl rfl rfl rfl
theorem rc_there {sc : Nat × (Nat → Int32)} {d o v : Nat} {H : aH} (hv : v < 2 ^ 31) : RC sc d mr_226 [.ref (o + 1), .int (nI v)] H (.inl none) H 0 0 := by
  refine RP.blk 1 (pc' := 1) (lv' := [(0, .ref (o + 1)), (1, .int (nI v))]) (st' := [.int (nI v)]) (H' := _) (kc' := 0) (ks' := 0) rfl ?_
  refine RP.brT rfl rfl rfl (cT_ge v 0) ?_
  exact RP.done (c := 0) (s := 0) rfl rfl rfl rfl
theorem rc_isInT {sc : Nat × (Nat → Int32)} {d a k q v : Nat} {H : aH} {fs : List Value} {f g : Nat → Int32} {x : Int32} (h : H[a]? = some (kO 9 fs)) (hk : fs[0]? = some (.ref (k + 1))) (hK : H[k]? = some (kI 201 f)) (hp : fs[1]? = some (.ref (q + 1))) (hP : H[q]? = some (kI 201 g)) (h1 : 1 ≤ v) (hv : v ≤ 200) (hf : ¬ f v = 0) (hg : g v = x) : RC sc d mr_220 [.ref (a + 1), .int (nI v), .int x] H (.inl (some (.int 1))) H 0 0 := by
  refine RP.blk 1 (pc' := 1) (lv' := [(0, .ref (a + 1)), (1, .int (nI v)), (2, .int x)]) (st' := [.int (nI v)]) (H' := _) (kc' := 0) (ks' := 0) rfl ?_
  refine RP.brF rfl rfl rfl (cF_le v 0) ?_
  refine RP.blk 1 (pc' := 5) (lv' := [(0, .ref (a + 1)), (1, .int (nI v)), (2, .int x)]) (st' := [.ref (a + 1)]) (H' := _) (kc' := 0) (ks' := 0) rfl ?_
  refine RP.get (ci := 9) rfl h rfl hk ?_
  refine RP.blk 1 (pc' := 9) (lv' := [(0, .ref (a + 1)), (1, .int (nI v)), (2, .int x)]) (st' := [.int (nI v), .ref (k + 1)]) (H' := _) (kc' := 0) (ks' := 0) rfl ?_
  refine RP.ialdN (j := v) rfl hK (by omega) (by decide) ?_
  refine RP.brF rfl rfl rfl (decide_eq_false hf) ?_
  refine RP.blk 1 (pc' := 14) (lv' := [(0, .ref (a + 1)), (1, .int (nI v)), (2, .int x)]) (st' := [.ref (a + 1)]) (H' := _) (kc' := 0) (ks' := 0) rfl ?_
  refine RP.get (ci := 9) rfl h rfl hp ?_
  refine RP.blk 1 (pc' := 18) (lv' := [(0, .ref (a + 1)), (1, .int (nI v)), (2, .int x)]) (st' := [.int (nI v), .ref (q + 1)]) (H' := _) (kc' := 0) (ks' := 0) rfl ?_
  refine RP.ialdN (j := v) rfl hP (by omega) (by decide) ?_
  refine RP.blk 1 (pc' := 20) (lv' := [(0, .ref (a + 1)), (1, .int (nI v)), (2, .int x)]) (st' := [.int x, .int (g v)]) (H' := _) (kc' := 0) (ks' := 0) rfl ?_
  refine RP.brF rfl rfl rfl (bnf hg) ?_
  refine RP.blk 2 (pc' := 28) (lv' := [(0, .ref (a + 1)), (1, .int (nI v)), (2, .int x)]) (st' := [.int 1]) (H' := _) (kc' := 0) (ks' := 0) rfl ?_
  exact RP.done (c := 0) (s := 0) rfl rfl rfl rfl
theorem rc_isIn0 {sc : Nat × (Nat → Int32)} {d a k v : Nat} {H : aH} {fs : List Value} {f : Nat → Int32} {x : Int32} (h : H[a]? = some (kO 9 fs)) (hk : fs[0]? = some (.ref (k + 1))) (hK : H[k]? = some (kI 201 f)) (h1 : 1 ≤ v) (hv : v ≤ 200) (hf : f v = 0) : RC sc d mr_220 [.ref (a + 1), .int (nI v), .int x] H (.inl (some (.int 0))) H 0 0 := by
  refine RP.blk 1 (pc' := 1) (lv' := [(0, .ref (a + 1)), (1, .int (nI v)), (2, .int x)]) (st' := [.int (nI v)]) (H' := _) (kc' := 0) (ks' := 0) rfl ?_
  refine RP.brF rfl rfl rfl (cF_le v 0) ?_
  refine RP.blk 1 (pc' := 5) (lv' := [(0, .ref (a + 1)), (1, .int (nI v)), (2, .int x)]) (st' := [.ref (a + 1)]) (H' := _) (kc' := 0) (ks' := 0) rfl ?_
  refine RP.get (ci := 9) rfl h rfl hk ?_
  refine RP.blk 1 (pc' := 9) (lv' := [(0, .ref (a + 1)), (1, .int (nI v)), (2, .int x)]) (st' := [.int (nI v), .ref (k + 1)]) (H' := _) (kc' := 0) (ks' := 0) rfl ?_
  refine RP.ialdN (j := v) rfl hK (by omega) (by decide) ?_
  refine RP.brT rfl rfl rfl (decide_eq_true hf) ?_
  refine RP.blk 1 (pc' := 28) (lv' := [(0, .ref (a + 1)), (1, .int (nI v)), (2, .int x)]) (st' := [.int 0]) (H' := _) (kc' := 0) (ks' := 0) rfl ?_
  exact RP.done (c := 0) (s := 0) rfl rfl rfl rfl
theorem rc_isInF {sc : Nat × (Nat → Int32)} {d a k q v : Nat} {H : aH} {fs : List Value} {f g : Nat → Int32} {x : Int32} (h : H[a]? = some (kO 9 fs)) (hk : fs[0]? = some (.ref (k + 1))) (hK : H[k]? = some (kI 201 f)) (hp : fs[1]? = some (.ref (q + 1))) (hP : H[q]? = some (kI 201 g)) (h1 : 1 ≤ v) (hv : v ≤ 200) (hf : ¬ f v = 0) (hg : ¬ g v = x) : RC sc d mr_220 [.ref (a + 1), .int (nI v), .int x] H (.inl (some (.int 0))) H 0 0 := by
  refine RP.blk 1 (pc' := 1) (lv' := [(0, .ref (a + 1)), (1, .int (nI v)), (2, .int x)]) (st' := [.int (nI v)]) (H' := _) (kc' := 0) (ks' := 0) rfl ?_
  refine RP.brF rfl rfl rfl (cF_le v 0) ?_
  refine RP.blk 1 (pc' := 5) (lv' := [(0, .ref (a + 1)), (1, .int (nI v)), (2, .int x)]) (st' := [.ref (a + 1)]) (H' := _) (kc' := 0) (ks' := 0) rfl ?_
  refine RP.get (ci := 9) rfl h rfl hk ?_
  refine RP.blk 1 (pc' := 9) (lv' := [(0, .ref (a + 1)), (1, .int (nI v)), (2, .int x)]) (st' := [.int (nI v), .ref (k + 1)]) (H' := _) (kc' := 0) (ks' := 0) rfl ?_
  refine RP.ialdN (j := v) rfl hK (by omega) (by decide) ?_
  refine RP.brF rfl rfl rfl (decide_eq_false hf) ?_
  refine RP.blk 1 (pc' := 14) (lv' := [(0, .ref (a + 1)), (1, .int (nI v)), (2, .int x)]) (st' := [.ref (a + 1)]) (H' := _) (kc' := 0) (ks' := 0) rfl ?_
  refine RP.get (ci := 9) rfl h rfl hp ?_
  refine RP.blk 1 (pc' := 18) (lv' := [(0, .ref (a + 1)), (1, .int (nI v)), (2, .int x)]) (st' := [.int (nI v), .ref (q + 1)]) (H' := _) (kc' := 0) (ks' := 0) rfl ?_
  refine RP.ialdN (j := v) rfl hP (by omega) (by decide) ?_
  refine RP.blk 1 (pc' := 20) (lv' := [(0, .ref (a + 1)), (1, .int (nI v)), (2, .int x)]) (st' := [.int x, .int (g v)]) (H' := _) (kc' := 0) (ks' := 0) rfl ?_
  refine RP.brT rfl rfl rfl (bnt hg) ?_
  refine RP.blk 1 (pc' := 28) (lv' := [(0, .ref (a + 1)), (1, .int (nI v)), (2, .int x)]) (st' := [.int 0]) (H' := _) (kc' := 0) (ks' := 0) rfl ?_
  exact RP.done (c := 0) (s := 0) rfl rfl rfl rfl
theorem rc_ranked0 {sc : Nat × (Nat → Int32)} {d a k : Nat} {H : aH} {fs : List Value} {f : Nat → Int32} {x y : Int32} (h : H[a]? = some (kO 9 fs)) (hk : fs[0]? = some (.ref (k + 1))) (hK : H[k]? = some (kI 201 f)) (hf : ∀ v, 1 ≤ v → v ≤ 200 → f v = 0) : RC sc (d + 1) mr_254 [.ref (a + 1), .int x, .int y] H (.inl (some (.int (-1)))) H 0 0 := by
  refine RP.blk 2 (pc' := 2) (lv' := [(3, .int 1), (0, .ref (a + 1)), (1, .int x), (2, .int y)]) (st' := []) (H' := _) (kc' := 0) (ks' := 0) rfl ?_
  have start : RP sc (d + 1) mr_254 2 [(3, .int (nI (0 + 1))), (0, .ref (a + 1)), (1, .int x), (2, .int y)] [] H 0 0 (.inl (some (.int (-1))), H, 0, 0) := by
    refine RP.loop 2 (fun i => [(3, .int (nI (i + 1))), (0, .ref (a + 1)), (1, .int x), (2, .int y)]) [] (fun _ => H) 0 0 200 (fun i hi kk => ?_) ?_
    ·
      refine RP.blk 2 (pc' := 6) (lv' := [(3, .int (nI (i + 1))), (0, .ref (a + 1)), (1, .int x), (2, .int y)]) (st' := [.int 200, .int (nI (i + 1))]) (H' := _) (kc' := 0) (ks' := 0) rfl ?_
      refine RP.brF rfl rfl rfl (cF_gt (i + 1) 200) ?_
      refine RP.blk 1 (pc' := 10) (lv' := [(3, .int (nI (i + 1))), (0, .ref (a + 1)), (1, .int x), (2, .int y)]) (st' := [.int y]) (H' := _) (kc' := 0) (ks' := 0) rfl ?_
      by_cases hy : y < 0
      ·
        refine RP.brT rfl rfl rfl (decide_eq_true hy) ?_
        refine RP.blk 1 (pc' := 41) (lv' := [(3, .int (nI (i + 1))), (0, .ref (a + 1)), (1, .int x), (2, .int y)]) (st' := [.int (-1)]) (H' := _) (kc' := 0) (ks' := 0) rfl ?_
        exact RP.done (c := 0) (s := 0) rfl rfl rfl rfl
      ·
        refine RP.brF rfl rfl rfl (decide_eq_false hy) ?_
        refine RP.blk 3 (pc' := 16) (lv' := [(3, .int (nI (i + 1))), (0, .ref (a + 1)), (1, .int x), (2, .int y)]) (st' := [.int x, .int (nI (i + 1)), .ref (a + 1)]) (H' := _) (kc' := 0) (ks' := 0) rfl ?_
        refine RP.call (v := some (.int 0)) (st' := []) rfl rfl rfl rfl rfl rfl (args_v [.int x, .int (nI (i + 1))] [] rfl rfl (Nat.le_of_ble_eq_true rfl) rfl h (Nat.le_of_ble_eq_true rfl)) (rc_isIn0 h hk hK (by omega) (by omega) (hf _ (by omega) (by omega))) ?_
        refine RP.brT rfl rfl rfl (by decide) ?_
        refine RP.blk 1 (pc' := 37) (lv' := [(3, .int (nI (i + 1) + 1)), (0, .ref (a + 1)), (1, .int x), (2, .int y)]) (st' := []) (H' := _) (kc' := 0) (ks' := 0) rfl ?_
        rw [show (nI (i + 1) + 1 : Int32) = nI (i + 1 + 1) from nI_add (i + 1) 1]
        refine RP.blk 1 (pc' := 2) (lv' := [(3, .int (nI (i + 1 + 1))), (0, .ref (a + 1)), (1, .int x), (2, .int y)]) (st' := []) (H' := _) (kc' := 0) (ks' := 0) rfl ?_
        exact kk
    ·
      refine RP.blk 2 (pc' := 6) (lv' := [(3, .int (nI (200 + 1))), (0, .ref (a + 1)), (1, .int x), (2, .int y)]) (st' := [.int 200, .int (nI (200 + 1))]) (H' := _) (kc' := 0) (ks' := 0) rfl ?_
      refine RP.brT rfl rfl rfl (cT_gt (200 + 1) 200) ?_
      refine RP.blk 1 (pc' := 41) (lv' := [(3, .int (nI (200 + 1))), (0, .ref (a + 1)), (1, .int x), (2, .int y)]) (st' := [.int (-1)]) (H' := _) (kc' := 0) (ks' := 0) rfl ?_
      exact RP.done (c := 0) (s := 0) rfl rfl rfl rfl
  exact start
theorem rc_mdirT {sc : Nat × (Nat → Int32)} {d a k v : Nat} {H : aH} {fs : List Value} {f : Nat → Int32} (h1 : H[a]? = some (kO 12 fs)) (hk : fs[27]? = some (.ref (k + 1))) (hK : H[k]? = some (kI 201 f)) (hv : v ≤ 200) (hf : f v = 2) : RC sc d mr_306 [.ref (a + 1), .int (nI v)] H (.inl (some (.int 1))) H 0 0 := by
  refine RP.blk 1 (pc' := 1) (lv' := [(0, .ref (a + 1)), (1, .int (nI v))]) (st' := [.ref (a + 1)]) (H' := _) (kc' := 0) (ks' := 0) rfl ?_
  refine RP.get (ci := 12) rfl h1 rfl hk ?_
  refine RP.blk 1 (pc' := 5) (lv' := [(0, .ref (a + 1)), (1, .int (nI v))]) (st' := [.int (nI v), .ref (k + 1)]) (H' := _) (kc' := 0) (ks' := 0) rfl ?_
  refine RP.ialdN (j := v) rfl hK (by omega) (by decide) ?_
  refine RP.blk 1 (pc' := 7) (lv' := [(0, .ref (a + 1)), (1, .int (nI v))]) (st' := [.int 2, .int (f v)]) (H' := _) (kc' := 0) (ks' := 0) rfl ?_
  refine RP.brF rfl rfl rfl (bnf hf) ?_
  refine RP.blk 2 (pc' := 15) (lv' := [(0, .ref (a + 1)), (1, .int (nI v))]) (st' := [.int 1]) (H' := _) (kc' := 0) (ks' := 0) rfl ?_
  exact RP.done (c := 0) (s := 0) rfl rfl rfl rfl
theorem rc_mdirF {sc : Nat × (Nat → Int32)} {d a k v : Nat} {H : aH} {fs : List Value} {f : Nat → Int32} (h1 : H[a]? = some (kO 12 fs)) (hk : fs[27]? = some (.ref (k + 1))) (hK : H[k]? = some (kI 201 f)) (hv : v ≤ 200) (hf : ¬ f v = 2) : RC sc d mr_306 [.ref (a + 1), .int (nI v)] H (.inl (some (.int 0))) H 0 0 := by
  refine RP.blk 1 (pc' := 1) (lv' := [(0, .ref (a + 1)), (1, .int (nI v))]) (st' := [.ref (a + 1)]) (H' := _) (kc' := 0) (ks' := 0) rfl ?_
  refine RP.get (ci := 12) rfl h1 rfl hk ?_
  refine RP.blk 1 (pc' := 5) (lv' := [(0, .ref (a + 1)), (1, .int (nI v))]) (st' := [.int (nI v), .ref (k + 1)]) (H' := _) (kc' := 0) (ks' := 0) rfl ?_
  refine RP.ialdN (j := v) rfl hK (by omega) (by decide) ?_
  refine RP.blk 1 (pc' := 7) (lv' := [(0, .ref (a + 1)), (1, .int (nI v))]) (st' := [.int 2, .int (f v)]) (H' := _) (kc' := 0) (ks' := 0) rfl ?_
  refine RP.brT rfl rfl rfl (bnt hf) ?_
  refine RP.blk 1 (pc' := 15) (lv' := [(0, .ref (a + 1)), (1, .int (nI v))]) (st' := [.int 0]) (H' := _) (kc' := 0) (ks' := 0) rfl ?_
  exact RP.done (c := 0) (s := 0) rfl rfl rfl rfl
theorem rc_mlist_bad {sc : Nat × (Nat → Int32)} {d a : Nat} {H : aH} {fs : List Value} {x y : Int32} (h1 : H[a]? = some (kO 12 fs)) (h2 : fs.length = 40) (hx : x < 0 ∨ ¬ x < 201) : RC sc (d + 1) mr_329 [.ref (a + 1), .int x, .int y] H (.inl (some (.int 0))) (H.set a (kO 12 (fs.set 0 (.int 1)))) 0 0 := by
  refine RP.blk 2 (pc' := 2) (lv' := [(0, .ref (a + 1)), (1, .int x), (2, .int y)]) (st' := [.int 0, .ref (a + 1)]) (H' := _) (kc' := 0) (ks' := 0) rfl ?_
  refine RP.put (ci := 12) rfl h1 rfl rfl (lt_len h2 (by decide)) ?_
  refine RP.blk 3 (pc' := 10) (lv' := [(0, .ref (a + 1)), (1, .int x), (2, .int y)]) (st' := [.int 201, .int x, .ref (a + 1)]) (H' := _) (kc' := 0) (ks' := 0) rfl ?_
  refine RP.call (v := some (.int 1)) (st' := []) rfl rfl rfl rfl rfl rfl (args_v [.int 201, .int x] [] rfl rfl (Nat.le_of_ble_eq_true rfl) rfl (get_set h1) (Nat.le_of_ble_eq_true rfl)) (rc_outX hx) ?_
  refine RP.brF rfl rfl rfl (by decide) ?_
  refine RP.blk 2 (pc' := 18) (lv' := [(0, .ref (a + 1)), (1, .int x), (2, .int y)]) (st' := [.int 1, .ref (a + 1)]) (H' := _) (kc' := 0) (ks' := 0) rfl ?_
  refine RP.call (v := some (.int 0)) (st' := []) rfl rfl rfl rfl rfl rfl (args_v [.int 1] [] rfl rfl (Nat.le_of_ble_eq_true rfl) rfl (get_set h1) (Nat.le_of_ble_eq_true rfl)) (rc_mfail (get_set h1) (len_set h2)) ?_
  rw [set_set, List.set_set]
  exact RP.done (c := 0) (s := 0) rfl rfl rfl rfl
theorem rc_mcount_bad {sc : Nat × (Nat → Int32)} {d a : Nat} {H : aH} {fs : List Value} {x y : Int32} (h1 : H[a]? = some (kO 12 fs)) (h2 : fs.length = 40) (hx : x < 0 ∨ ¬ x < 10) : RC sc (d + 1) mr_300 [.ref (a + 1), .int x] H (.inl (some (.int 0))) (H.set a (kO 12 (fs.set 0 (.int 1)))) 0 0 := by
  refine RP.blk 2 (pc' := 2) (lv' := [(0, .ref (a + 1)), (1, .int x)]) (st' := [.int 0, .ref (a + 1)]) (H' := _) (kc' := 0) (ks' := 0) rfl ?_
  refine RP.put (ci := 12) rfl h1 rfl rfl (lt_len h2 (by decide)) ?_
  refine RP.blk 3 (pc' := 9) (lv' := [(0, .ref (a + 1)), (1, .int x)]) (st' := [.int 10, .int x, .ref (a + 1)]) (H' := _) (kc' := 0) (ks' := 0) rfl ?_
  refine RP.call (v := some (.int 1)) (st' := []) rfl rfl rfl rfl rfl rfl (args_v [.int 10, .int x] [] rfl rfl (Nat.le_of_ble_eq_true rfl) rfl (get_set h1) (Nat.le_of_ble_eq_true rfl)) (rc_outX hx) ?_
  refine RP.brF rfl rfl rfl (by decide) ?_
  refine RP.blk 2 (pc' := 17) (lv' := [(0, .ref (a + 1)), (1, .int x)]) (st' := [.int 1, .ref (a + 1)]) (H' := _) (kc' := 0) (ks' := 0) rfl ?_
  refine RP.call (v := some (.int 0)) (st' := []) rfl rfl rfl rfl rfl rfl (args_v [.int 1] [] rfl rfl (Nat.le_of_ble_eq_true rfl) rfl (get_set h1) (Nat.le_of_ble_eq_true rfl)) (rc_mfail (get_set h1) (len_set h2)) ?_
  rw [set_set, List.set_set]
  exact RP.done (c := 0) (s := 0) rfl rfl rfl rfl
theorem rc_mlist_no {sc : Nat × (Nat → Int32)} {d a k v : Nat} {H : aH} {fs : List Value} {f : Nat → Int32} {y : Int32} (h1 : H[a]? = some (kO 12 fs)) (h2 : fs.length = 40) (hk : fs[27]? = some (.ref (k + 1))) (hK : H[k]? = some (kI 201 f)) (hne : k ≠ a) (hd : fs[2]? = some (.int 0)) (hv : v ≤ 200) (hf : ¬ f v = 2) : RC sc (d + 1) mr_329 [.ref (a + 1), .int (nI v), .int y] H (.inl (some (.int 0))) (H.set a (kO 12 (fs.set 0 (.int 3)))) 0 0 := by
  refine RP.blk 2 (pc' := 2) (lv' := [(0, .ref (a + 1)), (1, .int (nI v)), (2, .int y)]) (st' := [.int 0, .ref (a + 1)]) (H' := _) (kc' := 0) (ks' := 0) rfl ?_
  refine RP.put (ci := 12) rfl h1 rfl rfl (lt_len h2 (by decide)) ?_
  refine RP.blk 3 (pc' := 10) (lv' := [(0, .ref (a + 1)), (1, .int (nI v)), (2, .int y)]) (st' := [.int 201, .int (nI v), .ref (a + 1)]) (H' := _) (kc' := 0) (ks' := 0) rfl ?_
  refine RP.call (v := some (.int 0)) (st' := []) rfl rfl rfl rfl rfl rfl (args_v [.int 201, .int (nI v)] [] rfl rfl (Nat.le_of_ble_eq_true rfl) rfl (get_set h1) (Nat.le_of_ble_eq_true rfl)) (rc_out (v := v) (m := 201) (by omega) (by decide)) ?_
  refine RP.brT rfl rfl rfl (by decide) ?_
  refine RP.blk 1 (pc' := 23) (lv' := [(0, .ref (a + 1)), (1, .int (nI v)), (2, .int y)]) (st' := [.ref (a + 1)]) (H' := _) (kc' := 0) (ks' := 0) rfl ?_
  refine RP.get (ci := 12) rfl (get_set h1) rfl ((fs_ne (by decide)).trans hd) ?_
  refine RP.brT rfl rfl rfl (by decide) ?_
  refine RP.blk 2 (pc' := 37) (lv' := [(0, .ref (a + 1)), (1, .int (nI v)), (2, .int y)]) (st' := [.int (nI v), .ref (a + 1)]) (H' := _) (kc' := 0) (ks' := 0) rfl ?_
  refine RP.call (v := some (.int 0)) (st' := []) rfl rfl rfl rfl rfl rfl (args_v [.int (nI v)] [] rfl rfl (Nat.le_of_ble_eq_true rfl) rfl (get_set h1) (Nat.le_of_ble_eq_true rfl)) (rc_mdirF (get_set h1) ((fs_ne (by decide)).trans hk) ((set_far hne).trans hK) hv hf) ?_
  refine RP.brT rfl rfl rfl (by decide) ?_
  refine RP.blk 2 (pc' := 49) (lv' := [(0, .ref (a + 1)), (1, .int (nI v)), (2, .int y)]) (st' := [.int 3, .ref (a + 1)]) (H' := _) (kc' := 0) (ks' := 0) rfl ?_
  refine RP.call (v := some (.int 0)) (st' := []) rfl rfl rfl rfl rfl rfl (args_v [.int 3] [] rfl rfl (Nat.le_of_ble_eq_true rfl) rfl (get_set h1) (Nat.le_of_ble_eq_true rfl)) (rc_mfail (get_set h1) (len_set h2)) ?_
  rw [set_set, List.set_set]
  exact RP.done (c := 0) (s := 0) rfl rfl rfl rfl
theorem rc_mlist0 {sc : Nat × (Nat → Int32)} {d a k v : Nat} {H : aH} {fs : List Value} {f : Nat → Int32} {y : Int32} (h1 : H[a]? = some (kO 12 fs)) (h2 : fs.length = 40) (hk : fs[27]? = some (.ref (k + 1))) (hK : H[k]? = some (kI 201 f)) (hne : k ≠ a) (hd : fs[2]? = some (.int 0)) (hv : v ≤ 200) (hf : f v = 2) (h0 : ∀ w, 1 ≤ w → w ≤ 200 → f w = 0) : RC sc (d + 1) mr_329 [.ref (a + 1), .int (nI v), .int y] H (.inl (some (.int 0))) (H.set a (kO 12 (fs.set 0 (.int 3)))) 0 0 := by
  refine RP.blk 2 (pc' := 2) (lv' := [(0, .ref (a + 1)), (1, .int (nI v)), (2, .int y)]) (st' := [.int 0, .ref (a + 1)]) (H' := _) (kc' := 0) (ks' := 0) rfl ?_
  refine RP.put (ci := 12) rfl h1 rfl rfl (lt_len h2 (by decide)) ?_
  refine RP.blk 3 (pc' := 10) (lv' := [(0, .ref (a + 1)), (1, .int (nI v)), (2, .int y)]) (st' := [.int 201, .int (nI v), .ref (a + 1)]) (H' := _) (kc' := 0) (ks' := 0) rfl ?_
  refine RP.call (v := some (.int 0)) (st' := []) rfl rfl rfl rfl rfl rfl (args_v [.int 201, .int (nI v)] [] rfl rfl (Nat.le_of_ble_eq_true rfl) rfl (get_set h1) (Nat.le_of_ble_eq_true rfl)) (rc_out (v := v) (m := 201) (by omega) (by decide)) ?_
  refine RP.brT rfl rfl rfl (by decide) ?_
  refine RP.blk 1 (pc' := 23) (lv' := [(0, .ref (a + 1)), (1, .int (nI v)), (2, .int y)]) (st' := [.ref (a + 1)]) (H' := _) (kc' := 0) (ks' := 0) rfl ?_
  refine RP.get (ci := 12) rfl (get_set h1) rfl ((fs_ne (by decide)).trans hd) ?_
  refine RP.brT rfl rfl rfl (by decide) ?_
  refine RP.blk 2 (pc' := 37) (lv' := [(0, .ref (a + 1)), (1, .int (nI v)), (2, .int y)]) (st' := [.int (nI v), .ref (a + 1)]) (H' := _) (kc' := 0) (ks' := 0) rfl ?_
  refine RP.call (v := some (.int 1)) (st' := []) rfl rfl rfl rfl rfl rfl (args_v [.int (nI v)] [] rfl rfl (Nat.le_of_ble_eq_true rfl) rfl (get_set h1) (Nat.le_of_ble_eq_true rfl)) (rc_mdirT (get_set h1) ((fs_ne (by decide)).trans hk) ((set_far hne).trans hK) hv hf) ?_
  refine RP.brF rfl rfl rfl (by decide) ?_
  refine RP.blk 1 (pc' := 44) (lv' := [(0, .ref (a + 1)), (1, .int (nI v)), (2, .int y)]) (st' := [.int y]) (H' := _) (kc' := 0) (ks' := 0) rfl ?_
  by_cases hy : 0 ≤ y
  ·
    refine RP.brT rfl rfl rfl (decide_eq_true hy) ?_
    refine RP.blk 2 (pc' := 55) (lv' := [(3, .int 1), (0, .ref (a + 1)), (1, .int (nI v)), (2, .int y)]) (st' := []) (H' := _) (kc' := 0) (ks' := 0) rfl ?_
    have start : RP sc (d + 1) mr_329 55 [(3, .int (nI (0 + 1))), (0, .ref (a + 1)), (1, .int (nI v)), (2, .int y)] [] (H.set a (kO 12 (fs.set 0 (.int 0)))) 0 0 (.inl (some (.int 0)), H.set a (kO 12 (fs.set 0 (.int 3))), 0, 0) := by
      refine RP.loop 55 (fun i => [(3, .int (nI (i + 1))), (0, .ref (a + 1)), (1, .int (nI v)), (2, .int y)]) [] (fun _ => (H.set a (kO 12 (fs.set 0 (.int 0))))) 0 0 200 (fun i hi kk => ?_) ?_
      ·
        refine RP.blk 2 (pc' := 59) (lv' := [(3, .int (nI (i + 1))), (0, .ref (a + 1)), (1, .int (nI v)), (2, .int y)]) (st' := [.int 200, .int (nI (i + 1))]) (H' := _) (kc' := 0) (ks' := 0) rfl ?_
        refine RP.brF rfl rfl rfl (cF_gt (i + 1) 200) ?_
        refine RP.blk 1 (pc' := 63) (lv' := [(3, .int (nI (i + 1))), (0, .ref (a + 1)), (1, .int (nI v)), (2, .int y)]) (st' := [.ref (a + 1)]) (H' := _) (kc' := 0) (ks' := 0) rfl ?_
        refine RP.get (ci := 12) rfl (get_set h1) rfl ((fs_ne (by decide)).trans hk) ?_
        refine RP.blk 1 (pc' := 67) (lv' := [(3, .int (nI (i + 1))), (0, .ref (a + 1)), (1, .int (nI v)), (2, .int y)]) (st' := [.int (nI (i + 1)), .ref (k + 1)]) (H' := _) (kc' := 0) (ks' := 0) rfl ?_
        refine RP.ialdN (j := i + 1) rfl ((set_far hne).trans hK) (by omega) (by decide) ?_
        refine RP.brT rfl rfl rfl (decide_eq_true (h0 _ (by omega) (by omega))) ?_
        refine RP.blk 1 (pc' := 209) (lv' := [(3, .int (nI (i + 1) + 1)), (0, .ref (a + 1)), (1, .int (nI v)), (2, .int y)]) (st' := []) (H' := _) (kc' := 0) (ks' := 0) rfl ?_
        rw [show (nI (i + 1) + 1 : Int32) = nI (i + 1 + 1) from nI_add (i + 1) 1]
        refine RP.blk 1 (pc' := 55) (lv' := [(3, .int (nI (i + 1 + 1))), (0, .ref (a + 1)), (1, .int (nI v)), (2, .int y)]) (st' := []) (H' := _) (kc' := 0) (ks' := 0) rfl ?_
        exact kk
      ·
        refine RP.blk 2 (pc' := 59) (lv' := [(3, .int (nI (200 + 1))), (0, .ref (a + 1)), (1, .int (nI v)), (2, .int y)]) (st' := [.int 200, .int (nI (200 + 1))]) (H' := _) (kc' := 0) (ks' := 0) rfl ?_
        refine RP.brT rfl rfl rfl (cT_gt (200 + 1) 200) ?_
        refine RP.blk 2 (pc' := 214) (lv' := [(3, .int (nI (200 + 1))), (0, .ref (a + 1)), (1, .int (nI v)), (2, .int y)]) (st' := [.int 3, .ref (a + 1)]) (H' := _) (kc' := 0) (ks' := 0) rfl ?_
        refine RP.call (v := some (.int 0)) (st' := []) rfl rfl rfl rfl rfl rfl (args_v [.int 3] [] rfl rfl (Nat.le_of_ble_eq_true rfl) rfl (get_set h1) (Nat.le_of_ble_eq_true rfl)) (rc_mfail (get_set h1) (len_set h2)) ?_
        rw [set_set, List.set_set]
        exact RP.done (c := 0) (s := 0) rfl rfl rfl rfl
    exact start
  ·
    refine RP.brF rfl rfl rfl (decide_eq_false hy) ?_
    refine RP.blk 2 (pc' := 49) (lv' := [(0, .ref (a + 1)), (1, .int (nI v)), (2, .int y)]) (st' := [.int 3, .ref (a + 1)]) (H' := _) (kc' := 0) (ks' := 0) rfl ?_
    refine RP.call (v := some (.int 0)) (st' := []) rfl rfl rfl rfl rfl rfl (args_v [.int 3] [] rfl rfl (Nat.le_of_ble_eq_true rfl) rfl (get_set h1) (Nat.le_of_ble_eq_true rfl)) (rc_mfail (get_set h1) (len_set h2)) ?_
    rw [set_set, List.set_set]
    exact RP.done (c := 0) (s := 0) rfl rfl rfl rfl
theorem rc_mabout_bad {sc : Nat × (Nat → Int32)} {d a : Nat} {H : aH} {fs : List Value} {x y : Int32} (h1 : H[a]? = some (kO 12 fs)) (h2 : fs.length = 40) (hx : (x < 0 ∨ ¬ x < 201) ∨ (y < 0 ∨ ¬ y < 4)) : RC sc (d + 1) mr_330 [.ref (a + 1), .int x, .int y] H (.inl (some (.int 0))) (H.set a (kO 12 (fs.set 0 (.int 1)))) 0 0 := by
  have fin : RP sc (d + 1) mr_330 25 [(0, .ref (a + 1)), (1, .int x), (2, .int y)] [] (H.set a (kO 12 (fs.set 0 (.int 0)))) 0 0 (.inl (some (.int 0)), H.set a (kO 12 (fs.set 0 (.int 1))), 0, 0) := by
    refine RP.blk 2 (pc' := 27) (lv' := [(0, .ref (a + 1)), (1, .int x), (2, .int y)]) (st' := [.int 1, .ref (a + 1)]) (H' := _) (kc' := 0) (ks' := 0) rfl ?_
    refine RP.call (v := some (.int 0)) (st' := []) rfl rfl rfl rfl rfl rfl (args_v [.int 1] [] rfl rfl (Nat.le_of_ble_eq_true rfl) rfl (get_set h1) (Nat.le_of_ble_eq_true rfl)) (rc_mfail (get_set h1) (len_set h2)) ?_
    rw [set_set, List.set_set]
    exact RP.done (c := 0) (s := 0) rfl rfl rfl rfl
  refine RP.blk 2 (pc' := 2) (lv' := [(0, .ref (a + 1)), (1, .int x), (2, .int y)]) (st' := [.int 0, .ref (a + 1)]) (H' := _) (kc' := 0) (ks' := 0) rfl ?_
  refine RP.put (ci := 12) rfl h1 rfl rfl (lt_len h2 (by decide)) ?_
  refine RP.blk 3 (pc' := 10) (lv' := [(0, .ref (a + 1)), (1, .int x), (2, .int y)]) (st' := [.int 201, .int x, .ref (a + 1)]) (H' := _) (kc' := 0) (ks' := 0) rfl ?_
  by_cases h5 : x < 0 ∨ ¬ x < 201
  ·
    refine RP.call (v := some (.int 1)) (st' := []) rfl rfl rfl rfl rfl rfl (args_v [.int 201, .int x] [] rfl rfl (Nat.le_of_ble_eq_true rfl) rfl (get_set h1) (Nat.le_of_ble_eq_true rfl)) (rc_outX h5) ?_
    refine RP.brT rfl rfl rfl (by decide) ?_
    exact fin
  · obtain ⟨v, hv, rfl⟩ := nI_of2 (M := 200) (n := 200) rfl (fun e => h5 (Or.inl e)) ((le_pred (n := 200) (by decide)).mpr (Classical.not_not.mp (fun e => h5 (Or.inr e))))
    refine RP.call (v := some (.int 0)) (st' := []) rfl rfl rfl rfl rfl rfl (args_v [.int 201, .int (nI v)] [] rfl rfl (Nat.le_of_ble_eq_true rfl) rfl (get_set h1) (Nat.le_of_ble_eq_true rfl)) (rc_out (v := v) (m := 201) (by omega) (by decide)) ?_
    refine RP.brF rfl rfl rfl (by decide) ?_
    refine RP.blk 3 (pc' := 19) (lv' := [(0, .ref (a + 1)), (1, .int (nI v)), (2, .int y)]) (st' := [.int 4, .int y, .ref (a + 1)]) (H' := _) (kc' := 0) (ks' := 0) rfl ?_
    refine RP.call (v := some (.int 1)) (st' := []) rfl rfl rfl rfl rfl rfl (args_v [.int 4, .int y] [] rfl rfl (Nat.le_of_ble_eq_true rfl) rfl (get_set h1) (Nat.le_of_ble_eq_true rfl)) (rc_outX (hx.resolve_left h5)) ?_
    refine RP.brF rfl rfl rfl (by decide) ?_
    exact fin
theorem rc_mabout_no {sc : Nat × (Nat → Int32)} {d a k v w : Nat} {H : aH} {fs : List Value} {f : Nat → Int32} (h1 : H[a]? = some (kO 12 fs)) (h2 : fs.length = 40) (hk : fs[27]? = some (.ref (k + 1))) (hK : H[k]? = some (kI 201 f)) (hne : k ≠ a) (hd : fs[2]? = some (.int 0)) (hv : v ≤ 200) (hw : w ≤ 3) (hf : f v = 0) : RC sc (d + 1) mr_330 [.ref (a + 1), .int (nI v), .int (nI w)] H (.inl (some (.int 0))) (H.set a (kO 12 (fs.set 0 (.int 3)))) 0 0 := by
  refine RP.blk 2 (pc' := 2) (lv' := [(0, .ref (a + 1)), (1, .int (nI v)), (2, .int (nI w))]) (st' := [.int 0, .ref (a + 1)]) (H' := _) (kc' := 0) (ks' := 0) rfl ?_
  refine RP.put (ci := 12) rfl h1 rfl rfl (lt_len h2 (by decide)) ?_
  refine RP.blk 3 (pc' := 10) (lv' := [(0, .ref (a + 1)), (1, .int (nI v)), (2, .int (nI w))]) (st' := [.int 201, .int (nI v), .ref (a + 1)]) (H' := _) (kc' := 0) (ks' := 0) rfl ?_
  refine RP.call (v := some (.int 0)) (st' := []) rfl rfl rfl rfl rfl rfl (args_v [.int 201, .int (nI v)] [] rfl rfl (Nat.le_of_ble_eq_true rfl) rfl (get_set h1) (Nat.le_of_ble_eq_true rfl)) (rc_out (v := v) (m := 201) (by omega) (by decide)) ?_
  refine RP.brF rfl rfl rfl (by decide) ?_
  refine RP.blk 3 (pc' := 19) (lv' := [(0, .ref (a + 1)), (1, .int (nI v)), (2, .int (nI w))]) (st' := [.int 4, .int (nI w), .ref (a + 1)]) (H' := _) (kc' := 0) (ks' := 0) rfl ?_
  refine RP.call (v := some (.int 0)) (st' := []) rfl rfl rfl rfl rfl rfl (args_v [.int 4, .int (nI w)] [] rfl rfl (Nat.le_of_ble_eq_true rfl) rfl (get_set h1) (Nat.le_of_ble_eq_true rfl)) (rc_out (v := w) (m := 4) (by omega) (by decide)) ?_
  refine RP.brT rfl rfl rfl (by decide) ?_
  refine RP.blk 1 (pc' := 32) (lv' := [(0, .ref (a + 1)), (1, .int (nI v)), (2, .int (nI w))]) (st' := [.ref (a + 1)]) (H' := _) (kc' := 0) (ks' := 0) rfl ?_
  refine RP.get (ci := 12) rfl (get_set h1) rfl ((fs_ne (by decide)).trans hd) ?_
  refine RP.brT rfl rfl rfl (by decide) ?_
  refine RP.blk 1 (pc' := 45) (lv' := [(0, .ref (a + 1)), (1, .int (nI v)), (2, .int (nI w))]) (st' := [.ref (a + 1)]) (H' := _) (kc' := 0) (ks' := 0) rfl ?_
  refine RP.get (ci := 12) rfl (get_set h1) rfl ((fs_ne (by decide)).trans hk) ?_
  refine RP.blk 1 (pc' := 49) (lv' := [(0, .ref (a + 1)), (1, .int (nI v)), (2, .int (nI w))]) (st' := [.int (nI v), .ref (k + 1)]) (H' := _) (kc' := 0) (ks' := 0) rfl ?_
  refine RP.ialdN (j := v) rfl ((set_far hne).trans hK) (by omega) (by decide) ?_
  refine RP.brF rfl rfl rfl (bnf hf) ?_
  refine RP.blk 2 (pc' := 55) (lv' := [(0, .ref (a + 1)), (1, .int (nI v)), (2, .int (nI w))]) (st' := [.int 3, .ref (a + 1)]) (H' := _) (kc' := 0) (ks' := 0) rfl ?_
  refine RP.call (v := some (.int 0)) (st' := []) rfl rfl rfl rfl rfl rfl (args_v [.int 3] [] rfl rfl (Nat.le_of_ble_eq_true rfl) rfl (get_set h1) (Nat.le_of_ble_eq_true rfl)) (rc_mfail (get_set h1) (len_set h2)) ?_
  rw [set_set, List.set_set]
  exact RP.done (c := 0) (s := 0) rfl rfl rfl rfl
theorem rc_list_bad {sc : Nat × (Nat → Int32)} {d o : Nat} {H : aH} {fo : List Value} {x y : Int32} (ho : H[o]? = some (kO 11 fo)) (hx : x < 0 ∨ ¬ x ≤ 200) : RC sc (d + 2) mr_253 [.ref (o + 1), .int x, .int y] H (.inr 0) H 1 6 := by
  refine RP.blk 2 (pc' := 2) (lv' := [(0, .ref (o + 1)), (1, .int x), (2, .int y)]) (st' := [.int x, .ref (o + 1)]) (H' := _) (kc' := 0) (ks' := 0) rfl ?_
  exact RP.callP (st' := []) rfl rfl rfl rfl rfl rfl (args_v [.int x] [] rfl rfl (Nat.le_of_ble_eq_true rfl) rfl ho (Nat.le_of_ble_eq_true rfl)) (rc_reqNumX ho hx) rfl
theorem rc_list_no {sc : Nat × (Nat → Int32)} {d o a k v : Nat} {H : aH} {fo fs : List Value} {f : Nat → Int32} {y : Int32} (ho : H[o]? = some (kO 11 fo)) (hot : fo[6]? = some (.ref (a + 1))) (h : H[a]? = some (kO 9 fs)) (hk : fs[0]? = some (.ref (k + 1))) (hK : H[k]? = some (kI 201 f)) (hu : fo[13]? = some (.int 1)) (hv : v ≤ 200) (hf : ¬ f v = 2) : RC sc (d + 4) mr_253 [.ref (o + 1), .int (nI v), .int y] H (.inr 3) H 1 6 := by
  refine RP.blk 2 (pc' := 2) (lv' := [(0, .ref (o + 1)), (1, .int (nI v)), (2, .int y)]) (st' := [.int (nI v), .ref (o + 1)]) (H' := _) (kc' := 0) (ks' := 0) rfl ?_
  refine RP.call (v := none) (st' := []) rfl rfl rfl rfl rfl rfl (args_v [.int (nI v)] [] rfl rfl (Nat.le_of_ble_eq_true rfl) rfl ho (Nat.le_of_ble_eq_true rfl)) (rc_reqNum ho hv) ?_
  refine RP.blk 1 (pc' := 6) (lv' := [(0, .ref (o + 1)), (1, .int (nI v)), (2, .int y)]) (st' := [.ref (o + 1)]) (H' := _) (kc' := 0) (ks' := 0) rfl ?_
  refine RP.call (v := none) (st' := []) rfl rfl rfl rfl rfl rfl (args_v [] [] rfl rfl (Nat.le_of_ble_eq_true rfl) rfl ho (Nat.le_of_ble_eq_true rfl)) (rc_up ho hu) ?_
  refine RP.blk 2 (pc' := 11) (lv' := [(0, .ref (o + 1)), (1, .int (nI v)), (2, .int y)]) (st' := [.int (nI v), .ref (o + 1)]) (H' := _) (kc' := 0) (ks' := 0) rfl ?_
  exact RP.callP (st' := []) rfl rfl rfl rfl rfl rfl (args_v [.int (nI v)] [] rfl rfl (Nat.le_of_ble_eq_true rfl) rfl ho (Nat.le_of_ble_eq_true rfl)) (rc_reqDirX ho hot h hk hK hv hf) rfl
theorem rc_list0 {sc : Nat × (Nat → Int32)} {d o a k v : Nat} {H : aH} {fo fs : List Value} {f : Nat → Int32} {y : Int32} (ho : H[o]? = some (kO 11 fo)) (hot : fo[6]? = some (.ref (a + 1))) (h : H[a]? = some (kO 9 fs)) (hk : fs[0]? = some (.ref (k + 1))) (hK : H[k]? = some (kI 201 f)) (hu : fo[13]? = some (.int 1)) (hv : v ≤ 200) (hf : f v = 2) (h0 : ∀ w, 1 ≤ w → w ≤ 200 → f w = 0) : RC sc (d + 4) mr_253 [.ref (o + 1), .int (nI v), .int y] H (.inr 3) H 1 6 := by
  refine RP.blk 2 (pc' := 2) (lv' := [(0, .ref (o + 1)), (1, .int (nI v)), (2, .int y)]) (st' := [.int (nI v), .ref (o + 1)]) (H' := _) (kc' := 0) (ks' := 0) rfl ?_
  refine RP.call (v := none) (st' := []) rfl rfl rfl rfl rfl rfl (args_v [.int (nI v)] [] rfl rfl (Nat.le_of_ble_eq_true rfl) rfl ho (Nat.le_of_ble_eq_true rfl)) (rc_reqNum ho hv) ?_
  refine RP.blk 1 (pc' := 6) (lv' := [(0, .ref (o + 1)), (1, .int (nI v)), (2, .int y)]) (st' := [.ref (o + 1)]) (H' := _) (kc' := 0) (ks' := 0) rfl ?_
  refine RP.call (v := none) (st' := []) rfl rfl rfl rfl rfl rfl (args_v [] [] rfl rfl (Nat.le_of_ble_eq_true rfl) rfl ho (Nat.le_of_ble_eq_true rfl)) (rc_up ho hu) ?_
  refine RP.blk 2 (pc' := 11) (lv' := [(0, .ref (o + 1)), (1, .int (nI v)), (2, .int y)]) (st' := [.int (nI v), .ref (o + 1)]) (H' := _) (kc' := 0) (ks' := 0) rfl ?_
  refine RP.call (v := none) (st' := []) rfl rfl rfl rfl rfl rfl (args_v [.int (nI v)] [] rfl rfl (Nat.le_of_ble_eq_true rfl) rfl ho (Nat.le_of_ble_eq_true rfl)) (rc_reqDir ho hot h hk hK hv hf) ?_
  refine RP.blk 1 (pc' := 15) (lv' := [(0, .ref (o + 1)), (1, .int (nI v)), (2, .int y)]) (st' := [.ref (o + 1)]) (H' := _) (kc' := 0) (ks' := 0) rfl ?_
  refine RP.get (ci := 11) rfl ho rfl hot ?_
  refine RP.blk 2 (pc' := 20) (lv' := [(0, .ref (o + 1)), (1, .int (nI v)), (2, .int y)]) (st' := [.int y, .int (nI v), .ref (a + 1)]) (H' := _) (kc' := 0) (ks' := 0) rfl ?_
  refine RP.call (v := some (.int (-1))) (st' := []) rfl rfl rfl rfl rfl rfl (args_v [.int y, .int (nI v)] [] rfl rfl (Nat.le_of_ble_eq_true rfl) rfl h (Nat.le_of_ble_eq_true rfl)) (rc_ranked0 h hk hK h0) ?_
  refine RP.blk 3 (pc' := 26) (lv' := [(3, .int (-1)), (0, .ref (o + 1)), (1, .int (nI v)), (2, .int y)]) (st' := [.int (-1), .ref (o + 1)]) (H' := _) (kc' := 0) (ks' := 0) rfl ?_
  exact RP.callP (st' := []) rfl rfl rfl rfl rfl rfl (args_v [.int (-1)] [] rfl rfl (Nat.le_of_ble_eq_true rfl) rfl ho (Nat.le_of_ble_eq_true rfl)) (rc_thereX (by decide)) rfl
theorem rc_about_bad {sc : Nat × (Nat → Int32)} {d o : Nat} {H : aH} {fo : List Value} {x y : Int32} (ho : H[o]? = some (kO 11 fo)) (hx : (x < 0 ∨ ¬ x ≤ 200) ∨ (y < 0 ∨ ¬ y ≤ 3)) : RC sc (d + 2) mr_257 [.ref (o + 1), .int x, .int y] H (.inr 0) H 1 6 := by
  refine RP.blk 2 (pc' := 2) (lv' := [(0, .ref (o + 1)), (1, .int x), (2, .int y)]) (st' := [.int x, .ref (o + 1)]) (H' := _) (kc' := 0) (ks' := 0) rfl ?_
  by_cases h5 : x < 0 ∨ ¬ x ≤ 200
  ·
    exact RP.callP (st' := []) rfl rfl rfl rfl rfl rfl (args_v [.int x] [] rfl rfl (Nat.le_of_ble_eq_true rfl) rfl ho (Nat.le_of_ble_eq_true rfl)) (rc_reqNumX ho h5) rfl
  · obtain ⟨v, hv, rfl⟩ := nI_of2 (M := 200) (n := 200) rfl (fun e => h5 (Or.inl e)) (Classical.not_not.mp (fun e => h5 (Or.inr e)))
    refine RP.call (v := none) (st' := []) rfl rfl rfl rfl rfl rfl (args_v [.int (nI v)] [] rfl rfl (Nat.le_of_ble_eq_true rfl) rfl ho (Nat.le_of_ble_eq_true rfl)) (rc_reqNum ho hv) ?_
    refine RP.blk 4 (pc' := 9) (lv' := [(0, .ref (o + 1)), (1, .int (nI v)), (2, .int y)]) (st' := [.int 3, .int 0, .int y, .ref (o + 1)]) (H' := _) (kc' := 0) (ks' := 0) rfl ?_
    exact RP.callP (st' := []) rfl rfl rfl rfl rfl rfl (args_v [.int 3, .int 0, .int y] [] rfl rfl (Nat.le_of_ble_eq_true rfl) rfl ho (Nat.le_of_ble_eq_true rfl)) (rc_rangeX (hx.resolve_left h5)) rfl
theorem rc_about_no {sc : Nat × (Nat → Int32)} {d o a k v w : Nat} {H : aH} {fo fs : List Value} {f : Nat → Int32} (ho : H[o]? = some (kO 11 fo)) (hot : fo[6]? = some (.ref (a + 1))) (h : H[a]? = some (kO 9 fs)) (hk : fs[0]? = some (.ref (k + 1))) (hK : H[k]? = some (kI 201 f)) (hu : fo[13]? = some (.int 1)) (hv : v ≤ 200) (hw : w ≤ 3) (hf : f v = 0) : RC sc (d + 2) mr_257 [.ref (o + 1), .int (nI v), .int (nI w)] H (.inr 3) H 1 6 := by
  refine RP.blk 2 (pc' := 2) (lv' := [(0, .ref (o + 1)), (1, .int (nI v)), (2, .int (nI w))]) (st' := [.int (nI v), .ref (o + 1)]) (H' := _) (kc' := 0) (ks' := 0) rfl ?_
  refine RP.call (v := none) (st' := []) rfl rfl rfl rfl rfl rfl (args_v [.int (nI v)] [] rfl rfl (Nat.le_of_ble_eq_true rfl) rfl ho (Nat.le_of_ble_eq_true rfl)) (rc_reqNum ho hv) ?_
  refine RP.blk 4 (pc' := 9) (lv' := [(0, .ref (o + 1)), (1, .int (nI v)), (2, .int (nI w))]) (st' := [.int 3, .int 0, .int (nI w), .ref (o + 1)]) (H' := _) (kc' := 0) (ks' := 0) rfl ?_
  refine RP.call (v := none) (st' := []) rfl rfl rfl rfl rfl rfl (args_v [.int 3, .int 0, .int (nI w)] [] rfl rfl (Nat.le_of_ble_eq_true rfl) rfl ho (Nat.le_of_ble_eq_true rfl)) (rc_range (lo := 0) (hi := 3) (nI_pos (by omega)) (nI_le (b := 3) (by omega) (by decide))) ?_
  refine RP.blk 1 (pc' := 13) (lv' := [(0, .ref (o + 1)), (1, .int (nI v)), (2, .int (nI w))]) (st' := [.ref (o + 1)]) (H' := _) (kc' := 0) (ks' := 0) rfl ?_
  refine RP.call (v := none) (st' := []) rfl rfl rfl rfl rfl rfl (args_v [] [] rfl rfl (Nat.le_of_ble_eq_true rfl) rfl ho (Nat.le_of_ble_eq_true rfl)) (rc_up ho hu) ?_
  refine RP.blk 1 (pc' := 17) (lv' := [(0, .ref (o + 1)), (1, .int (nI v)), (2, .int (nI w))]) (st' := [.ref (o + 1)]) (H' := _) (kc' := 0) (ks' := 0) rfl ?_
  refine RP.get (ci := 11) rfl ho rfl hot ?_
  refine RP.blk 1 (pc' := 21) (lv' := [(0, .ref (o + 1)), (1, .int (nI v)), (2, .int (nI w))]) (st' := [.int (nI v), .ref (a + 1)]) (H' := _) (kc' := 0) (ks' := 0) rfl ?_
  refine RP.call (v := some (.int (f v))) (st' := []) rfl rfl rfl rfl rfl rfl (args_v [.int (nI v)] [] rfl rfl (Nat.le_of_ble_eq_true rfl) rfl h (Nat.le_of_ble_eq_true rfl)) (rc_kindOf h hk hK hv) ?_
  refine RP.brF rfl rfl rfl (bnf hf) ?_
  exact RP.done (c := 1) (s := 6) rfl rfl rfl rfl
theorem rc_count_bad {sc : Nat × (Nat → Int32)} {d o : Nat} {H : aH} {fo : List Value} {x : Int32} (ho : H[o]? = some (kO 11 fo)) (hx : x < 0 ∨ ¬ x ≤ 9) : RC sc (d + 1) mr_196 [.ref (o + 1), .int x] H (.inr 0) H 1 6 := by
  refine RP.blk 4 (pc' := 5) (lv' := [(0, .ref (o + 1)), (1, .int x)]) (st' := [.int 9, .int 0, .int x, .ref (o + 1)]) (H' := _) (kc' := 0) (ks' := 0) rfl ?_
  exact RP.callP (st' := []) rfl rfl rfl rfl rfl rfl (args_v [.int 9, .int 0, .int x] [] rfl rfl (Nat.le_of_ble_eq_true rfl) rfl ho (Nat.le_of_ble_eq_true rfl)) (rc_rangeX hx) rfl
