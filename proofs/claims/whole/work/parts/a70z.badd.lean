/-! ===== a batch takes one more: the places stay; class; out of 51 by hand ===== -/
theorem ri_badd5 {sc : Nat × (Nat → Int32)} {a na m : Nat} {d b n u : Nat} {H : aH} {D : Nat → Int8} {S K : Nat → Nat} {E : Nat → Option Nat} {g : Nat → Int8} {l : Option Nat} (h : BatchAt H b D S K E n u) (hk : BatchOk S K E n u) (h1 : H[a]? = some (kB na g)) (hna : na < 2 ^ 30) (hj : m ≤ na) (hab : a < b ∨ b + 6 ≤ a) (hn : n < 40) (hu : u + m + l.getD 0 ≤ 4100) : RI sc (d + 1) mr_49 [.ref (b + 1), .ref (a + 1), .int (nI m), .int (lI l)] H (fun x H' => x = nI (u + m) ∧ BatchAt H' b (cpy g 0 D u m) (va_up S n u) (va_up K n m) (va_up E n l) (n + 1) (u + (m + l.getD 0)) ∧ ∀ a, ¬ (b ≤ a ∧ a < b + 5) → H'[a]? = H[a]?) := by
  have hk1 := hk.1
  have hk2 := hk.2.1
  refine RI.of ?_
  refine RQ.blk 1 (pc' := 1) (lv' := [(0, .ref (b + 1)), (1, .ref (a + 1)), (2, .int (nI m)), (3, .int (lI l))]) (st' := [.ref (b + 1)]) (H' := _) (kc' := 0) (ks' := 0) rfl ?_
  refine RQ.get (ci := 0) rfl h.1 rfl rfl ?_
  refine RQ.blk 1 (pc' := 6) (lv' := [(0, .ref (b + 1)), (1, .ref (a + 1)), (2, .int (nI m)), (3, .int (lI l))]) (st' := [.int 40, .int (nI n)]) (H' := _) (kc' := 0) (ks' := 0) rfl ?_
  refine RQ.brF rfl rfl rfl (cF_ge n 40) ?_
  refine RQ.blk 4 (pc' := 15) (lv' := [(0, .ref (b + 1)), (1, .ref (a + 1)), (2, .int (nI m)), (3, .int (lI l))]) (st' := [.int (if lI l < 0 then 0 else lI l), .int (nI m)]) (H' := _) (kc' := 0) (ks' := 0) rfl ?_
  rw [maxL (by omega)]
  refine RQ.blk 1 (pc' := 16) (lv' := [(0, .ref (b + 1)), (1, .ref (a + 1)), (2, .int (nI m)), (3, .int (lI l))]) (st' := [.int (nI m + nI (l.getD 0))]) (H' := _) (kc' := 0) (ks' := 0) rfl ?_
  rw [show (nI m + nI (l.getD 0) : Int32) = nI (m + (l.getD 0)) from nI_add m (l.getD 0)]
  refine RQ.blk 1 (pc' := 17) (lv' := [(0, .ref (b + 1)), (1, .ref (a + 1)), (2, .int (nI m)), (3, .int (lI l))]) (st' := [.ref (b + 1), .int (nI (m + (l.getD 0)))]) (H' := _) (kc' := 0) (ks' := 0) rfl ?_
  refine RQ.get (ci := 0) rfl h.1 rfl rfl ?_
  refine RQ.len rfl h.2.1 rfl ?_
  refine RQ.blk 1 (pc' := 22) (lv' := [(0, .ref (b + 1)), (1, .ref (a + 1)), (2, .int (nI m)), (3, .int (lI l))]) (st' := [.ref (b + 1), .int (nI 4100), .int (nI (m + (l.getD 0)))]) (H' := _) (kc' := 0) (ks' := 0) rfl ?_
  refine RQ.get (ci := 0) rfl h.1 rfl rfl ?_
  refine RQ.blk 1 (pc' := 26) (lv' := [(0, .ref (b + 1)), (1, .ref (a + 1)), (2, .int (nI m)), (3, .int (lI l))]) (st' := [.int (nI 4100 - nI u), .int (nI (m + (l.getD 0)))]) (H' := _) (kc' := 0) (ks' := 0) rfl ?_
  rw [show (nI 4100 - nI u : Int32) = nI (4100 - u) from pk_sub (a := 4100) (b := u) (by omega)]
  refine RQ.brT rfl rfl rfl (cT_le (m + (l.getD 0)) (4100 - u)) ?_
  refine RQ.blk 3 (pc' := 34) (lv' := [(0, .ref (b + 1)), (1, .ref (a + 1)), (2, .int (nI m)), (3, .int (lI l))]) (st' := [.ref (b + 1), .int 0, .ref (a + 1)]) (H' := _) (kc' := 0) (ks' := 0) rfl ?_
  refine RQ.get (ci := 0) rfl h.1 rfl rfl ?_
  refine RQ.blk 1 (pc' := 38) (lv' := [(0, .ref (b + 1)), (1, .ref (a + 1)), (2, .int (nI m)), (3, .int (lI l))]) (st' := [.ref (b + 1), .ref (b + 1 + 1), .int 0, .ref (a + 1)]) (H' := _) (kc' := 0) (ks' := 0) rfl ?_
  refine RQ.get (ci := 0) rfl h.1 rfl rfl ?_
  refine RQ.blk 1 (pc' := 42) (lv' := [(0, .ref (b + 1)), (1, .ref (a + 1)), (2, .int (nI m)), (3, .int (lI l))]) (st' := [.int (nI m), .int (nI u), .ref (b + 1 + 1), .int 0, .ref (a + 1)]) (H' := _) (kc' := 0) (ks' := 0) rfl ?_
  refine RQ.call (v := none) (st' := []) rfl rfl rfl rfl rfl rfl rfl (rc_copy (i := 0) h1 h.2.1 (by omega) (by decide) (by omega) (by omega)) ?_
  refine RQ.blk 1 (pc' := 46) (lv' := [(0, .ref (b + 1)), (1, .ref (a + 1)), (2, .int (nI m)), (3, .int (lI l))]) (st' := [.ref (b + 1)]) (H' := _) (kc' := 0) (ks' := 0) rfl ?_
  refine RQ.get (ci := 0) rfl ((set_far (by omega)).trans h.1) rfl rfl ?_
  refine RQ.blk 1 (pc' := 50) (lv' := [(0, .ref (b + 1)), (1, .ref (a + 1)), (2, .int (nI m)), (3, .int (lI l))]) (st' := [.ref (b + 1), .ref (b + 2 + 1)]) (H' := _) (kc' := 0) (ks' := 0) rfl ?_
  refine RQ.get (ci := 0) rfl ((set_far (by omega)).trans h.1) rfl rfl ?_
  refine RQ.blk 1 (pc' := 54) (lv' := [(0, .ref (b + 1)), (1, .ref (a + 1)), (2, .int (nI m)), (3, .int (lI l))]) (st' := [.ref (b + 1), .int (nI n), .ref (b + 2 + 1)]) (H' := _) (kc' := 0) (ks' := 0) rfl ?_
  refine RQ.get (ci := 0) rfl ((set_far (by omega)).trans h.1) rfl rfl ?_
  refine RQ.iastN (j := n) rfl ((set_far (by omega)).trans h.2.2.1) (by omega) (by decide) ?_
  refine RQ.blk 1 (pc' := 59) (lv' := [(0, .ref (b + 1)), (1, .ref (a + 1)), (2, .int (nI m)), (3, .int (lI l))]) (st' := [.ref (b + 1)]) (H' := _) (kc' := 0) (ks' := 0) rfl ?_
  refine RQ.get (ci := 0) rfl ((set_far (by omega)).trans ((set_far (by omega)).trans h.1)) rfl rfl ?_
  refine RQ.blk 1 (pc' := 63) (lv' := [(0, .ref (b + 1)), (1, .ref (a + 1)), (2, .int (nI m)), (3, .int (lI l))]) (st' := [.ref (b + 1), .ref (b + 3 + 1)]) (H' := _) (kc' := 0) (ks' := 0) rfl ?_
  refine RQ.get (ci := 0) rfl ((set_far (by omega)).trans ((set_far (by omega)).trans h.1)) rfl rfl ?_
  refine RQ.blk 1 (pc' := 67) (lv' := [(0, .ref (b + 1)), (1, .ref (a + 1)), (2, .int (nI m)), (3, .int (lI l))]) (st' := [.int (nI m), .int (nI n), .ref (b + 3 + 1)]) (H' := _) (kc' := 0) (ks' := 0) rfl ?_
  refine RQ.iastN (j := n) rfl ((set_far (by omega)).trans ((set_far (by omega)).trans h.2.2.2.1)) (by omega) (by decide) ?_
  refine RQ.blk 1 (pc' := 69) (lv' := [(0, .ref (b + 1)), (1, .ref (a + 1)), (2, .int (nI m)), (3, .int (lI l))]) (st' := [.ref (b + 1)]) (H' := _) (kc' := 0) (ks' := 0) rfl ?_
  refine RQ.get (ci := 0) rfl ((set_far (by omega)).trans ((set_far (by omega)).trans ((set_far (by omega)).trans h.1))) rfl rfl ?_
  refine RQ.blk 1 (pc' := 73) (lv' := [(0, .ref (b + 1)), (1, .ref (a + 1)), (2, .int (nI m)), (3, .int (lI l))]) (st' := [.ref (b + 1), .ref (b + 4 + 1)]) (H' := _) (kc' := 0) (ks' := 0) rfl ?_
  refine RQ.get (ci := 0) rfl ((set_far (by omega)).trans ((set_far (by omega)).trans ((set_far (by omega)).trans h.1))) rfl rfl ?_
  refine RQ.blk 1 (pc' := 77) (lv' := [(0, .ref (b + 1)), (1, .ref (a + 1)), (2, .int (nI m)), (3, .int (lI l))]) (st' := [.int (lI l), .int (nI n), .ref (b + 4 + 1)]) (H' := _) (kc' := 0) (ks' := 0) rfl ?_
  refine RQ.iastN (j := n) rfl ((set_far (by omega)).trans ((set_far (by omega)).trans ((set_far (by omega)).trans h.2.2.2.2))) (by omega) (by decide) ?_
  refine RQ.blk 2 (pc' := 80) (lv' := [(0, .ref (b + 1)), (1, .ref (a + 1)), (2, .int (nI m)), (3, .int (lI l))]) (st' := [.ref (b + 1), .ref (b + 1)]) (H' := _) (kc' := 0) (ks' := 0) rfl ?_
  refine RQ.get (ci := 0) rfl ((set_far (by omega)).trans ((set_far (by omega)).trans ((set_far (by omega)).trans ((set_far (by omega)).trans h.1)))) rfl rfl ?_
  refine RQ.blk 2 (pc' := 85) (lv' := [(0, .ref (b + 1)), (1, .ref (a + 1)), (2, .int (nI m)), (3, .int (lI l))]) (st' := [.int (nI n + 1), .ref (b + 1)]) (H' := _) (kc' := 0) (ks' := 0) rfl ?_
  rw [show (nI n + 1 : Int32) = nI (n + 1) from nI_add n 1]
  refine RQ.put (ci := 0) rfl ((set_far (by omega)).trans ((set_far (by omega)).trans ((set_far (by omega)).trans ((set_far (by omega)).trans h.1)))) rfl rfl (Nat.le_of_ble_eq_true rfl) ?_
  refine RQ.blk 2 (pc' := 90) (lv' := [(0, .ref (b + 1)), (1, .ref (a + 1)), (2, .int (nI m)), (3, .int (lI l))]) (st' := [.ref (b + 1), .ref (b + 1)]) (H' := _) (kc' := 0) (ks' := 0) rfl ?_
  refine RQ.get (ci := 0) rfl (get_set ((set_far (by omega)).trans ((set_far (by omega)).trans ((set_far (by omega)).trans ((set_far (by omega)).trans h.1))))) rfl rfl ?_
  refine RQ.blk 4 (pc' := 99) (lv' := [(0, .ref (b + 1)), (1, .ref (a + 1)), (2, .int (nI m)), (3, .int (lI l))]) (st' := [.int (if lI l < 0 then 0 else lI l), .int (nI m), .int (nI u), .ref (b + 1)]) (H' := _) (kc' := 0) (ks' := 0) rfl ?_
  rw [maxL (by omega)]
  refine RQ.blk 1 (pc' := 100) (lv' := [(0, .ref (b + 1)), (1, .ref (a + 1)), (2, .int (nI m)), (3, .int (lI l))]) (st' := [.int (nI m + nI (l.getD 0)), .int (nI u), .ref (b + 1)]) (H' := _) (kc' := 0) (ks' := 0) rfl ?_
  rw [show (nI m + nI (l.getD 0) : Int32) = nI (m + (l.getD 0)) from nI_add m (l.getD 0)]
  refine RQ.blk 1 (pc' := 101) (lv' := [(0, .ref (b + 1)), (1, .ref (a + 1)), (2, .int (nI m)), (3, .int (lI l))]) (st' := [.int (nI u + nI (m + (l.getD 0))), .ref (b + 1)]) (H' := _) (kc' := 0) (ks' := 0) rfl ?_
  rw [show (nI u + nI (m + (l.getD 0)) : Int32) = nI (u + (m + (l.getD 0))) from nI_add u (m + (l.getD 0))]
  refine RQ.put (ci := 0) rfl (get_set ((set_far (by omega)).trans ((set_far (by omega)).trans ((set_far (by omega)).trans ((set_far (by omega)).trans h.1))))) rfl rfl (Nat.le_of_ble_eq_true rfl) ?_
  refine RQ.blk 1 (pc' := 105) (lv' := [(0, .ref (b + 1)), (1, .ref (a + 1)), (2, .int (nI m)), (3, .int (lI l))]) (st' := [.ref (b + 1)]) (H' := _) (kc' := 0) (ks' := 0) rfl ?_
  refine RQ.get (ci := 0) rfl (get_set (get_set ((set_far (by omega)).trans ((set_far (by omega)).trans ((set_far (by omega)).trans ((set_far (by omega)).trans h.1)))))) rfl rfl ?_
  refine RQ.blk 3 (pc' := 113) (lv' := [(0, .ref (b + 1)), (1, .ref (a + 1)), (2, .int (nI m)), (3, .int (lI l))]) (st' := [.int (if lI l < 0 then 0 else lI l), .int (nI (u + (m + (l.getD 0))))]) (H' := _) (kc' := 0) (ks' := 0) rfl ?_
  rw [maxL (by omega)]
  refine RQ.blk 1 (pc' := 114) (lv' := [(0, .ref (b + 1)), (1, .ref (a + 1)), (2, .int (nI m)), (3, .int (lI l))]) (st' := [.int (nI (u + (m + (l.getD 0))) - nI (l.getD 0))]) (H' := _) (kc' := 0) (ks' := 0) rfl ?_
  rw [show (nI (u + (m + (l.getD 0))) - nI (l.getD 0) : Int32) = nI ((u + (m + (l.getD 0))) - (l.getD 0)) from pk_sub (a := (u + (m + (l.getD 0)))) (b := (l.getD 0)) (by omega)]
  rw [show u + (m + l.getD 0) - l.getD 0 = u + m by omega]
  exact RQ.done (c := 0) (s := 0) rfl rfl rfl rfl ⟨_, _, rfl, rfl, ⟨get_set (get_set ((set_far (by omega)).trans ((set_far (by omega)).trans ((set_far (by omega)).trans ((set_far (by omega)).trans h.1))))), (set_far (by omega)).trans ((set_far (by omega)).trans ((set_far (by omega)).trans ((set_far (by omega)).trans ((set_far (by omega)).trans (get_set h.2.1))))), ((set_far (by omega)).trans ((set_far (by omega)).trans ((set_far (by omega)).trans ((set_far (by omega)).trans (get_set ((set_far (by omega)).trans h.2.2.1)))))).trans (congrArg (fun f => some (kI 40 f)) up_nI), ((set_far (by omega)).trans ((set_far (by omega)).trans ((set_far (by omega)).trans (get_set ((set_far (by omega)).trans ((set_far (by omega)).trans h.2.2.2.1)))))).trans (congrArg (fun f => some (kI 40 f)) up_nI), ((set_far (by omega)).trans ((set_far (by omega)).trans (get_set ((set_far (by omega)).trans ((set_far (by omega)).trans ((set_far (by omega)).trans h.2.2.2.2)))))).trans (congrArg (fun f => some (kI 40 f)) up_lI)⟩, fun a ha => (set_far (by omega)).trans ((set_far (by omega)).trans ((set_far (by omega)).trans ((set_far (by omega)).trans ((set_far (by omega)).trans (set_far (by omega))))))⟩
