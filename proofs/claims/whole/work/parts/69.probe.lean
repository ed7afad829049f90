/-! ===== the class: the tape is taken, the probe, the answer, what calls ask for; written by wip/gen/probe.py ===== -/
theorem rc_takeTape {sc : Nat × (Nat → Int32)} {l : Nat} {d : Nat} {H : aH} {bl pr up cw cl cp cb : Int32} (h0 : H[0]? = some (kO 11 (fvs bl pr up cw cl cp cb))) (h1 : H[1]? = some (kO 5 [.ref 3, .int (nI l)])) : RC sc d mr_35 [.ref 1] H (.inl (some (.int (nI l)))) (H.set 1 (kO 5 [.ref 3, .int (nI 0)])) 0 0 := by
  refine RP.blk 1 (pc' := 1) (lv' := [(0, .ref 1)]) (st' := [.ref 1]) (H' := _) (kc' := 0) (ks' := 0) rfl ?_
  refine RP.get (ci := 11) rfl h0 rfl rfl ?_
  refine RP.get (ci := 5) rfl h1 rfl rfl ?_
  refine RP.blk 2 (pc' := 9) (lv' := [(1, .int (nI l)), (0, .ref 1)]) (st' := [.ref 1]) (H' := _) (kc' := 0) (ks' := 0) rfl ?_
  refine RP.get (ci := 11) rfl h0 rfl rfl ?_
  refine RP.blk 1 (pc' := 13) (lv' := [(1, .int (nI l)), (0, .ref 1)]) (st' := [.int 0, .ref 2]) (H' := _) (kc' := 0) (ks' := 0) rfl ?_
  refine RP.put (ci := 5) rfl h1 rfl rfl (Nat.le_of_ble_eq_true rfl) ?_
  refine RP.blk 1 (pc' := 17) (lv' := [(1, .int (nI l)), (0, .ref 1)]) (st' := [.int (nI l)]) (H' := _) (kc' := 0) (ks' := 0) rfl ?_
  exact RP.done (c := 0) (s := 0) rfl rfl rfl rfl
theorem rc_reqTx {sc : Nat × (Nat → Int32)} {t : Nat} {d : Nat} {H : aH} {bl pr up cw cl cp cb : Int32} (h0 : H[0]? = some (kO 11 (fvs bl pr up cw cl cp cb))) (ht : t < 8) : RC sc (d + 1) mr_34 [.ref 1, .int (nI t)] H (.inl none) H 0 0 := by
  refine RP.blk 4 (pc' := 5) (lv' := [(0, .ref 1), (1, .int (nI t))]) (st' := [.int 7, .int 0, .int (nI t), .ref 1]) (H' := _) (kc' := 0) (ks' := 0) rfl ?_
  refine RP.call (v := none) (st' := []) rfl rfl rfl rfl rfl rfl (args_v [.int 7, .int 0, .int (nI t)] [] rfl rfl (Nat.le_of_ble_eq_true rfl) rfl h0 (Nat.le_of_ble_eq_true rfl)) (rc_range (lo := 0) (hi := 7) (nI_pos (by omega)) (nI_le (b := 7) (by omega) (by decide))) ?_
  exact RP.done (c := 0) (s := 0) rfl rfl rfl rfl
theorem rc_reqTxX {sc : Nat × (Nat → Int32)} {x : Int32} {d : Nat} {H : aH} {bl pr up cw cl cp cb : Int32} (h0 : H[0]? = some (kO 11 (fvs bl pr up cw cl cp cb))) (hx : x < 0 ∨ ¬ x ≤ 7) : RC sc (d + 1) mr_34 [.ref 1, .int x] H (.inr 0) H 1 6 := by
  refine RP.blk 4 (pc' := 5) (lv' := [(0, .ref 1), (1, .int x)]) (st' := [.int 7, .int 0, .int x, .ref 1]) (H' := _) (kc' := 0) (ks' := 0) rfl ?_
  exact RP.callP (st' := []) rfl rfl rfl rfl rfl rfl (args_v [.int 7, .int 0, .int x] [] rfl rfl (Nat.le_of_ble_eq_true rfl) rfl h0 (Nat.le_of_ble_eq_true rfl)) (rc_rangeX hx) rfl
theorem rc_reqOpen {sc : Nat × (Nat → Int32)} {d : Nat} {H : aH} {bl pr up cw cl cp cb : Int32} {op : Nat → Bool} {mo : Nat → Nat} {t : Nat} (h0 : H[0]? = some (kO 11 (fvs bl pr up cw cl cp cb))) (h : SightAt H op mo) (ht : t < 8) (hb : op t = true) : RC sc (d + 1) mr_36 [.ref 1, .int (nI t)] H (.inl none) H 0 0 := by
  refine RP.blk 1 (pc' := 1) (lv' := [(0, .ref 1), (1, .int (nI t))]) (st' := [.ref 1]) (H' := _) (kc' := 0) (ks' := 0) rfl ?_
  refine RP.get (ci := 11) rfl h0 rfl rfl ?_
  refine RP.blk 1 (pc' := 5) (lv' := [(0, .ref 1), (1, .int (nI t))]) (st' := [.int (nI t), .ref 8]) (H' := _) (kc' := 0) (ks' := 0) rfl ?_
  refine RP.call (v := some (.int 1)) (st' := []) rfl rfl rfl rfl rfl rfl (args_v [.int (nI t)] [] rfl rfl (Nat.le_of_ble_eq_true rfl) rfl h.1 (Nat.le_of_ble_eq_true rfl)) (rc_isOpenT h ht hb) ?_
  refine RP.brT rfl rfl rfl (by decide) ?_
  exact RP.done (c := 0) (s := 0) rfl rfl rfl rfl
theorem rc_reqOpenX {sc : Nat × (Nat → Int32)} {d : Nat} {H : aH} {bl pr up cw cl cp cb : Int32} {op : Nat → Bool} {mo : Nat → Nat} {t : Nat} (h0 : H[0]? = some (kO 11 (fvs bl pr up cw cl cp cb))) (h : SightAt H op mo) (ht : t < 8) (hb : op t = false) : RC sc (d + 1) mr_36 [.ref 1, .int (nI t)] H (.inr 3) H 1 6 := by
  refine RP.blk 1 (pc' := 1) (lv' := [(0, .ref 1), (1, .int (nI t))]) (st' := [.ref 1]) (H' := _) (kc' := 0) (ks' := 0) rfl ?_
  refine RP.get (ci := 11) rfl h0 rfl rfl ?_
  refine RP.blk 1 (pc' := 5) (lv' := [(0, .ref 1), (1, .int (nI t))]) (st' := [.int (nI t), .ref 8]) (H' := _) (kc' := 0) (ks' := 0) rfl ?_
  refine RP.call (v := some (.int 0)) (st' := []) rfl rfl rfl rfl rfl rfl (args_v [.int (nI t)] [] rfl rfl (Nat.le_of_ble_eq_true rfl) rfl h.1 (Nat.le_of_ble_eq_true rfl)) (rc_isOpenF h ht hb) ?_
  refine RP.brF rfl rfl rfl (by decide) ?_
  exact RP.done (c := 1) (s := 6) rfl rfl rfl rfl
/-- the probe's bytes: whose the key is, then the key -/
def prb (f g : Nat → Int8) (n : Nat) : Nat → Int8 := cpy f 0 (va_up g 0 (0 : Int32).toInt8) 1 n
theorem sl_prb {f g : Nat → Int8} {n : Nat} : sl (prb f g n) 0 (n + 1) = 0 :: sl f 0 n := by
  rw [sl]
  unfold prb
  rw [sl_cpy, cpy_out (Or.inl (by decide))]
  rfl
theorem rc_probeUser {sc : Nat × (Nat → Int32)} {n l q : Nat} {d : Nat} {H : aH} {bl pr up cw cl cp cb : Int32} {f g : Nat → Int8} (h0 : H[0]? = some (kO 11 (fvs bl pr up cw cl cp cb))) (h1 : H[1]? = some (kO 5 [.ref 3, .int (nI l)])) (h2 : H[2]? = some (kB 2000 f)) (h5 : H[5]? = some (kO 5 [.ref 7, .int (nI q)])) (h6 : H[6]? = some (kB 41 g)) (hn : n ≤ 40) : RC sc (d + 1) mr_40 [.ref 1, .int (nI n)] H (.inl none) ((H.set 6 (kB 41 (prb f g n))).set 5 (kO 5 [.ref 7, .int (nI (n + 1))])) 0 0 := by
  refine RP.blk 1 (pc' := 1) (lv' := [(0, .ref 1), (1, .int (nI n))]) (st' := [.ref 1]) (H' := _) (kc' := 0) (ks' := 0) rfl ?_
  refine RP.get (ci := 11) rfl h0 rfl rfl ?_
  refine RP.get (ci := 5) rfl h5 rfl rfl ?_
  refine RP.blk 2 (pc' := 9) (lv' := [(0, .ref 1), (1, .int (nI n))]) (st' := [.int 0, .int 0, .ref 7]) (H' := _) (kc' := 0) (ks' := 0) rfl ?_
  refine RP.bastN (j := 0) rfl h6 (by omega) (by decide) ?_
  refine RP.blk 1 (pc' := 11) (lv' := [(0, .ref 1), (1, .int (nI n))]) (st' := [.ref 1]) (H' := _) (kc' := 0) (ks' := 0) rfl ?_
  refine RP.get (ci := 11) rfl ((set_far (by decide)).trans h0) rfl rfl ?_
  refine RP.get (ci := 5) rfl ((set_far (by decide)).trans h1) rfl rfl ?_
  refine RP.blk 2 (pc' := 19) (lv' := [(0, .ref 1), (1, .int (nI n))]) (st' := [.ref 1, .int 0, .ref 3]) (H' := _) (kc' := 0) (ks' := 0) rfl ?_
  refine RP.get (ci := 11) rfl ((set_far (by decide)).trans h0) rfl rfl ?_
  refine RP.get (ci := 5) rfl ((set_far (by decide)).trans h5) rfl rfl ?_
  refine RP.blk 2 (pc' := 27) (lv' := [(0, .ref 1), (1, .int (nI n))]) (st' := [.int (nI n), .int 1, .ref 7, .int 0, .ref 3]) (H' := _) (kc' := 0) (ks' := 0) rfl ?_
  refine RP.call (v := none) (st' := []) rfl rfl rfl rfl rfl rfl rfl (rc_copy (i := 0) (j := 1) ((set_far (by decide)).trans h2) (get_set h6) (by decide) (by decide) (by omega) (by omega)) ?_
  rw [set_set]
  refine RP.blk 1 (pc' := 31) (lv' := [(0, .ref 1), (1, .int (nI n))]) (st' := [.ref 1]) (H' := _) (kc' := 0) (ks' := 0) rfl ?_
  refine RP.get (ci := 11) rfl ((set_far (by decide)).trans h0) rfl rfl ?_
  refine RP.blk 3 (pc' := 37) (lv' := [(0, .ref 1), (1, .int (nI n))]) (st' := [.int (nI n + 1), .ref 6]) (H' := _) (kc' := 0) (ks' := 0) rfl ?_
  rw [show (nI n + 1 : Int32) = nI (n + 1) from nI_add n 1]
  refine RP.put (ci := 5) rfl ((set_far (by decide)).trans h5) rfl rfl (Nat.le_of_ble_eq_true rfl) ?_
  exact RP.done (c := 0) (s := 0) rfl rfl rfl rfl
theorem rc_answer {sc : Nat × (Nat → Int32)} {a na i n q : Nat} {d : Nat} {H : aH} {bl pr up cw cl cp cb : Int32} {f g : Nat → Int8} (h0 : H[0]? = some (kO 11 (fvs bl pr up cw cl cp cb))) (h3 : H[3]? = some (kO 5 [.ref 5, .int (nI q)])) (h4 : H[4]? = some (kB 1000 g)) (h1 : H[a]? = some (kB na f)) (ha4 : a ≠ 4) (ha3 : a ≠ 3) (hna : na < 2 ^ 31) (hi : i + n ≤ na) (hn : 0 + n ≤ 1000) : RC sc (d + 1) mr_55 [.ref 1, .ref (a + 1), .int (nI i), .int (nI n)] H (.inl (some (.int (nI n)))) ((H.set 4 (kB 1000 (cpy f i g 0 n))).set 3 (kO 5 [.ref 5, .int (nI n)])) 0 0 := by
  refine RP.blk 3 (pc' := 3) (lv' := [(0, .ref 1), (1, .ref (a + 1)), (2, .int (nI i)), (3, .int (nI n))]) (st' := [.ref 1, .int (nI i), .ref (a + 1)]) (H' := _) (kc' := 0) (ks' := 0) rfl ?_
  refine RP.get (ci := 11) rfl h0 rfl rfl ?_
  refine RP.get (ci := 5) rfl h3 rfl rfl ?_
  refine RP.blk 2 (pc' := 11) (lv' := [(0, .ref 1), (1, .ref (a + 1)), (2, .int (nI i)), (3, .int (nI n))]) (st' := [.int (nI n), .int 0, .ref 5, .int (nI i), .ref (a + 1)]) (H' := _) (kc' := 0) (ks' := 0) rfl ?_
  refine RP.call (v := none) (st' := []) rfl rfl rfl rfl rfl rfl rfl (rc_copy h1 h4 hna (by decide) hi hn) ?_
  refine RP.blk 1 (pc' := 15) (lv' := [(0, .ref 1), (1, .ref (a + 1)), (2, .int (nI i)), (3, .int (nI n))]) (st' := [.ref 1]) (H' := _) (kc' := 0) (ks' := 0) rfl ?_
  refine RP.get (ci := 11) rfl ((set_far (by decide)).trans h0) rfl rfl ?_
  refine RP.blk 1 (pc' := 19) (lv' := [(0, .ref 1), (1, .ref (a + 1)), (2, .int (nI i)), (3, .int (nI n))]) (st' := [.int (nI n), .ref 4]) (H' := _) (kc' := 0) (ks' := 0) rfl ?_
  refine RP.put (ci := 5) rfl ((set_far (by decide)).trans h3) rfl rfl (Nat.le_of_ble_eq_true rfl) ?_
  refine RP.blk 1 (pc' := 23) (lv' := [(0, .ref 1), (1, .ref (a + 1)), (2, .int (nI i)), (3, .int (nI n))]) (st' := [.int (nI n)]) (H' := _) (kc' := 0) (ks' := 0) rfl ?_
  exact RP.done (c := 0) (s := 0) rfl rfl rfl rfl
