/-! ===== get, seek, commit, abort where they are refused: wrong arguments, down, not open; written by wip/gen/refuse.py ===== -/
theorem rc_get_bad {sc : Nat × (Nat → Int32)} {d l : Nat} {H : aH} {bl pr cw cl cp cb : Int32} {up x : Int32} (h0 : H[0]? = some (kO 11 (fvs bl pr up cw cl cp cb))) (h1 : H[1]? = some (kO 5 [.ref 3, .int (nI l)])) (hl : l ≤ 2000) (hbad : ¬ ((∃ t, x = nI t ∧ t < 8) ∧ 1 ≤ l ∧ l ≤ 40)) : RC sc (d + 2) mr_53 [.ref 1, .int x] H (.inr 0) H 1 6 := by
  refine RP.blk 2 (pc' := 2) (lv' := [(0, .ref 1), (1, .int x)]) (st' := [.int x, .ref 1]) (H' := _) (kc' := 0) (ks' := 0) rfl ?_
  rcases pk_ix x (n := 8) (by decide) with hx | hx | ⟨t, ht, rfl⟩
  ·
    exact RP.callP (st' := []) rfl rfl rfl rfl rfl rfl (args_v [.int x] [] rfl rfl (Nat.le_of_ble_eq_true rfl) rfl h0 (Nat.le_of_ble_eq_true rfl)) (rc_reqTxX h0 (Or.inl hx)) rfl
  ·
    exact RP.callP (st' := []) rfl rfl rfl rfl rfl rfl (args_v [.int x] [] rfl rfl (Nat.le_of_ble_eq_true rfl) rfl h0 (Nat.le_of_ble_eq_true rfl)) (rc_reqTxX h0 (Or.inr (not7 hx))) rfl
  ·
    refine RP.call (v := none) (st' := []) rfl rfl rfl rfl rfl rfl (args_v [.int (nI t)] [] rfl rfl (Nat.le_of_ble_eq_true rfl) rfl h0 (Nat.le_of_ble_eq_true rfl)) (rc_reqTx h0 ht) ?_
    refine RP.blk 2 (pc' := 7) (lv' := [(0, .ref 1), (1, .int (nI t))]) (st' := [.ref 1, .ref 1]) (H' := _) (kc' := 0) (ks' := 0) rfl ?_
    refine RP.get (ci := 11) rfl h0 rfl rfl ?_
    refine RP.get (ci := 5) rfl h1 rfl rfl ?_
    refine RP.blk 2 (pc' := 16) (lv' := [(0, .ref 1), (1, .int (nI t))]) (st' := [.int 40, .int 1, .int (nI l), .ref 1]) (H' := _) (kc' := 0) (ks' := 0) rfl ?_
    exact RP.callP (st' := []) rfl rfl rfl rfl rfl rfl (args_v [.int 40, .int 1, .int (nI l)] [] rfl rfl (Nat.le_of_ble_eq_true rfl) rfl h0 (Nat.le_of_ble_eq_true rfl)) (rc_rangeX (by rcases Nat.eq_zero_or_pos l with e | e; exact Or.inl (nI_lt (b := 1) (by omega) (by decide)); exact Or.inr (nI_ge (a := 40) (by have : ¬ (1 ≤ l ∧ l ≤ 40) := fun e2 => hbad ⟨⟨t, rfl, ht⟩, e2⟩; omega) (by omega)))) rfl
theorem rc_get_down {sc : Nat × (Nat → Int32)} {d l : Nat} {H : aH} {bl pr cw cl cp cb : Int32} {t : Nat} (h0 : H[0]? = some (kO 11 (fvs bl pr 0 cw cl cp cb))) (h1 : H[1]? = some (kO 5 [.ref 3, .int (nI l)])) (ht : t < 8) (hl1 : 1 ≤ l) (hl2 : l ≤ 40) : RC sc (d + 2) mr_53 [.ref 1, .int (nI t)] H (.inr 1) H 1 6 := by
  refine RP.blk 2 (pc' := 2) (lv' := [(0, .ref 1), (1, .int (nI t))]) (st' := [.int (nI t), .ref 1]) (H' := _) (kc' := 0) (ks' := 0) rfl ?_
  refine RP.call (v := none) (st' := []) rfl rfl rfl rfl rfl rfl (args_v [.int (nI t)] [] rfl rfl (Nat.le_of_ble_eq_true rfl) rfl h0 (Nat.le_of_ble_eq_true rfl)) (rc_reqTx h0 ht) ?_
  refine RP.blk 2 (pc' := 7) (lv' := [(0, .ref 1), (1, .int (nI t))]) (st' := [.ref 1, .ref 1]) (H' := _) (kc' := 0) (ks' := 0) rfl ?_
  refine RP.get (ci := 11) rfl h0 rfl rfl ?_
  refine RP.get (ci := 5) rfl h1 rfl rfl ?_
  refine RP.blk 2 (pc' := 16) (lv' := [(0, .ref 1), (1, .int (nI t))]) (st' := [.int 40, .int 1, .int (nI l), .ref 1]) (H' := _) (kc' := 0) (ks' := 0) rfl ?_
  refine RP.call (v := none) (st' := []) rfl rfl rfl rfl rfl rfl (args_v [.int 40, .int 1, .int (nI l)] [] rfl rfl (Nat.le_of_ble_eq_true rfl) rfl h0 (Nat.le_of_ble_eq_true rfl)) (rc_range (lo := 1) (hi := 40) (nI_nlt (b := 1) (by omega) (by omega)) (nI_le (b := 40) (by omega) (by decide))) ?_
  refine RP.blk 1 (pc' := 20) (lv' := [(0, .ref 1), (1, .int (nI t))]) (st' := [.ref 1]) (H' := _) (kc' := 0) (ks' := 0) rfl ?_
  exact RP.callP (st' := []) rfl rfl rfl rfl rfl rfl (args_v [] [] rfl rfl (Nat.le_of_ble_eq_true rfl) rfl h0 (Nat.le_of_ble_eq_true rfl)) (rc_down h0 rfl) rfl
theorem rc_get_closed {sc : Nat × (Nat → Int32)} {d l : Nat} {H : aH} {bl pr cw cl cp cb : Int32} {t : Nat} {op : Nat → Bool} {mo : Nat → Nat} (h0 : H[0]? = some (kO 11 (fvs bl pr 1 cw cl cp cb))) (h1 : H[1]? = some (kO 5 [.ref 3, .int (nI l)])) (ht : t < 8) (hl1 : 1 ≤ l) (hl2 : l ≤ 40) (hs : SightAt H op mo) (hop : op t = false) : RC sc (d + 2) mr_53 [.ref 1, .int (nI t)] H (.inr 3) (H.set 1 (kO 5 [.ref 3, .int (nI 0)])) 1 6 := by
  refine RP.blk 2 (pc' := 2) (lv' := [(0, .ref 1), (1, .int (nI t))]) (st' := [.int (nI t), .ref 1]) (H' := _) (kc' := 0) (ks' := 0) rfl ?_
  refine RP.call (v := none) (st' := []) rfl rfl rfl rfl rfl rfl (args_v [.int (nI t)] [] rfl rfl (Nat.le_of_ble_eq_true rfl) rfl h0 (Nat.le_of_ble_eq_true rfl)) (rc_reqTx h0 ht) ?_
  refine RP.blk 2 (pc' := 7) (lv' := [(0, .ref 1), (1, .int (nI t))]) (st' := [.ref 1, .ref 1]) (H' := _) (kc' := 0) (ks' := 0) rfl ?_
  refine RP.get (ci := 11) rfl h0 rfl rfl ?_
  refine RP.get (ci := 5) rfl h1 rfl rfl ?_
  refine RP.blk 2 (pc' := 16) (lv' := [(0, .ref 1), (1, .int (nI t))]) (st' := [.int 40, .int 1, .int (nI l), .ref 1]) (H' := _) (kc' := 0) (ks' := 0) rfl ?_
  refine RP.call (v := none) (st' := []) rfl rfl rfl rfl rfl rfl (args_v [.int 40, .int 1, .int (nI l)] [] rfl rfl (Nat.le_of_ble_eq_true rfl) rfl h0 (Nat.le_of_ble_eq_true rfl)) (rc_range (lo := 1) (hi := 40) (nI_nlt (b := 1) (by omega) (by omega)) (nI_le (b := 40) (by omega) (by decide))) ?_
  refine RP.blk 1 (pc' := 20) (lv' := [(0, .ref 1), (1, .int (nI t))]) (st' := [.ref 1]) (H' := _) (kc' := 0) (ks' := 0) rfl ?_
  refine RP.call (v := none) (st' := []) rfl rfl rfl rfl rfl rfl (args_v [] [] rfl rfl (Nat.le_of_ble_eq_true rfl) rfl h0 (Nat.le_of_ble_eq_true rfl)) (rc_up h0 rfl) ?_
  refine RP.blk 1 (pc' := 24) (lv' := [(0, .ref 1), (1, .int (nI t))]) (st' := [.ref 1]) (H' := _) (kc' := 0) (ks' := 0) rfl ?_
  refine RP.call (v := some (.int (nI l))) (st' := []) rfl rfl rfl rfl rfl rfl (args_v [] [] rfl rfl (Nat.le_of_ble_eq_true rfl) rfl h0 (Nat.le_of_ble_eq_true rfl)) (rc_takeTape h0 h1) ?_
  have hs2 : SightAt (H.set 1 (kO 5 [.ref 3, .int (nI 0)])) op mo := ⟨(set_far (by decide)).trans hs.1, (set_far (by decide)).trans hs.2.1, (set_far (by decide)).trans hs.2.2⟩
  have h0b : (H.set 1 (kO 5 [.ref 3, .int (nI 0)]))[0]? = _ := (set_far (by decide)).trans h0
  refine RP.blk 3 (pc' := 30) (lv' := [(2, .int (nI l)), (0, .ref 1), (1, .int (nI t))]) (st' := [.int (nI t), .ref 1]) (H' := _) (kc' := 0) (ks' := 0) rfl ?_
  exact RP.callP (st' := []) rfl rfl rfl rfl rfl rfl (args_v [.int (nI t)] [] rfl rfl (Nat.le_of_ble_eq_true rfl) rfl h0b (Nat.le_of_ble_eq_true rfl)) (rc_reqOpenX h0b hs2 ht hop) rfl
theorem rc_mget_bad {sc : Nat × (Nat → Int32)} {d l : Nat} {H : aH} {fa li cw cl rs pr ve us pi hu : Int32} {ba bo : Nat} {dn x : Int32} (hm : H[195]? = some (kO 12 (mfs fa li dn cw cl (nI l) rs pr ve us pi hu ba bo))) (hl : l ≤ 2000) (hbad : ¬ ((∃ t, x = nI t ∧ t < 8) ∧ 1 ≤ l ∧ l ≤ 40)) : RC sc (d + 1) mr_289 [.ref 196, .int x] H (.inl (some (.int 0))) (H.set 195 (kO 12 (mfs 1 li dn cw cl (nI l) rs pr ve us pi hu ba bo))) 0 0 := by
  refine RP.blk 2 (pc' := 2) (lv' := [(0, .ref 196), (1, .int x)]) (st' := [.int 0, .ref 196]) (H' := _) (kc' := 0) (ks' := 0) rfl ?_
  refine RP.put (ci := 12) rfl hm rfl rfl (Nat.le_of_ble_eq_true rfl) ?_
  refine RP.blk 3 (pc' := 9) (lv' := [(0, .ref 196), (1, .int x)]) (st' := [.int 8, .int x, .ref 196]) (H' := _) (kc' := 0) (ks' := 0) rfl ?_
  rcases pk_ix x (n := 8) (by decide) with hx | hx | ⟨t, ht, rfl⟩
  ·
    refine RP.call (v := some (.int 1)) (st' := []) rfl rfl rfl rfl rfl rfl (args_v [.int 8, .int x] [] rfl rfl (Nat.le_of_ble_eq_true rfl) rfl (get_set hm) (Nat.le_of_ble_eq_true rfl)) (rc_outX (m := 8) (Or.inl hx)) ?_
    refine RP.brT rfl rfl rfl (by decide) ?_
    refine RP.blk 2 (pc' := 34) (lv' := [(0, .ref 196), (1, .int x)]) (st' := [.int 1, .ref 196]) (H' := _) (kc' := 0) (ks' := 0) rfl ?_
    refine RP.call (v := some (.int 0)) (st' := []) rfl rfl rfl rfl rfl rfl (args_v [.int 1] [] rfl rfl (Nat.le_of_ble_eq_true rfl) rfl (get_set hm) (Nat.le_of_ble_eq_true rfl)) (rc_mfail (get_set hm) rfl) ?_
    rw [set_set]
    exact RP.done (c := 0) (s := 0) rfl rfl rfl rfl
  ·
    refine RP.call (v := some (.int 1)) (st' := []) rfl rfl rfl rfl rfl rfl (args_v [.int 8, .int x] [] rfl rfl (Nat.le_of_ble_eq_true rfl) rfl (get_set hm) (Nat.le_of_ble_eq_true rfl)) (rc_outX (m := 8) (Or.inr (Int32.not_lt.mpr hx))) ?_
    refine RP.brT rfl rfl rfl (by decide) ?_
    refine RP.blk 2 (pc' := 34) (lv' := [(0, .ref 196), (1, .int x)]) (st' := [.int 1, .ref 196]) (H' := _) (kc' := 0) (ks' := 0) rfl ?_
    refine RP.call (v := some (.int 0)) (st' := []) rfl rfl rfl rfl rfl rfl (args_v [.int 1] [] rfl rfl (Nat.le_of_ble_eq_true rfl) rfl (get_set hm) (Nat.le_of_ble_eq_true rfl)) (rc_mfail (get_set hm) rfl) ?_
    rw [set_set]
    exact RP.done (c := 0) (s := 0) rfl rfl rfl rfl
  · have hb2 : ¬ (1 ≤ l ∧ l ≤ 40) := fun e2 => hbad ⟨⟨t, rfl, ht⟩, e2⟩
    refine RP.call (v := some (.int 0)) (st' := []) rfl rfl rfl rfl rfl rfl (args_v [.int 8, .int (nI t)] [] rfl rfl (Nat.le_of_ble_eq_true rfl) rfl (get_set hm) (Nat.le_of_ble_eq_true rfl)) (rc_out (v := t) (m := 8) ht (by decide)) ?_
    refine RP.brF rfl rfl rfl (by decide) ?_
    refine RP.blk 1 (pc' := 16) (lv' := [(0, .ref 196), (1, .int (nI t))]) (st' := [.ref 196]) (H' := _) (kc' := 0) (ks' := 0) rfl ?_
    refine RP.get (ci := 12) rfl (get_set hm) rfl rfl ?_
    refine RP.blk 1 (pc' := 20) (lv' := [(0, .ref 196), (1, .int (nI t))]) (st' := [.int 1, .int (nI l)]) (H' := _) (kc' := 0) (ks' := 0) rfl ?_
    by_cases hl1 : l < 1
    ·
      refine RP.brT rfl rfl rfl (cT_lt l 1) ?_
      refine RP.blk 2 (pc' := 34) (lv' := [(0, .ref 196), (1, .int (nI t))]) (st' := [.int 1, .ref 196]) (H' := _) (kc' := 0) (ks' := 0) rfl ?_
      refine RP.call (v := some (.int 0)) (st' := []) rfl rfl rfl rfl rfl rfl (args_v [.int 1] [] rfl rfl (Nat.le_of_ble_eq_true rfl) rfl (get_set hm) (Nat.le_of_ble_eq_true rfl)) (rc_mfail (get_set hm) rfl) ?_
      rw [set_set]
      exact RP.done (c := 0) (s := 0) rfl rfl rfl rfl
    ·
      refine RP.brF rfl rfl rfl (cF_lt l 1) ?_
      refine RP.blk 1 (pc' := 24) (lv' := [(0, .ref 196), (1, .int (nI t))]) (st' := [.ref 196]) (H' := _) (kc' := 0) (ks' := 0) rfl ?_
      refine RP.get (ci := 12) rfl (get_set hm) rfl rfl ?_
      refine RP.blk 1 (pc' := 29) (lv' := [(0, .ref 196), (1, .int (nI t))]) (st' := [.int 40, .int (nI l)]) (H' := _) (kc' := 0) (ks' := 0) rfl ?_
      refine RP.brF rfl rfl rfl (cF_le l 40) ?_
      refine RP.blk 2 (pc' := 34) (lv' := [(0, .ref 196), (1, .int (nI t))]) (st' := [.int 1, .ref 196]) (H' := _) (kc' := 0) (ks' := 0) rfl ?_
      refine RP.call (v := some (.int 0)) (st' := []) rfl rfl rfl rfl rfl rfl (args_v [.int 1] [] rfl rfl (Nat.le_of_ble_eq_true rfl) rfl (get_set hm) (Nat.le_of_ble_eq_true rfl)) (rc_mfail (get_set hm) rfl) ?_
      rw [set_set]
      exact RP.done (c := 0) (s := 0) rfl rfl rfl rfl
theorem rc_mget_down {sc : Nat × (Nat → Int32)} {d l : Nat} {H : aH} {fa li cw cl rs pr ve us pi hu : Int32} {ba bo : Nat} {t : Nat} (hm : H[195]? = some (kO 12 (mfs fa li 1 cw cl (nI l) rs pr ve us pi hu ba bo))) (ht : t < 8) (hl1 : 1 ≤ l) (hl2 : l ≤ 40) : RC sc (d + 1) mr_289 [.ref 196, .int (nI t)] H (.inl (some (.int 0))) (H.set 195 (kO 12 (mfs 2 li 1 cw cl (nI l) rs pr ve us pi hu ba bo))) 0 0 := by
  refine RP.blk 2 (pc' := 2) (lv' := [(0, .ref 196), (1, .int (nI t))]) (st' := [.int 0, .ref 196]) (H' := _) (kc' := 0) (ks' := 0) rfl ?_
  refine RP.put (ci := 12) rfl hm rfl rfl (Nat.le_of_ble_eq_true rfl) ?_
  refine RP.blk 3 (pc' := 9) (lv' := [(0, .ref 196), (1, .int (nI t))]) (st' := [.int 8, .int (nI t), .ref 196]) (H' := _) (kc' := 0) (ks' := 0) rfl ?_
  refine RP.call (v := some (.int 0)) (st' := []) rfl rfl rfl rfl rfl rfl (args_v [.int 8, .int (nI t)] [] rfl rfl (Nat.le_of_ble_eq_true rfl) rfl (get_set hm) (Nat.le_of_ble_eq_true rfl)) (rc_out (v := t) (m := 8) ht (by decide)) ?_
  refine RP.brF rfl rfl rfl (by decide) ?_
  refine RP.blk 1 (pc' := 16) (lv' := [(0, .ref 196), (1, .int (nI t))]) (st' := [.ref 196]) (H' := _) (kc' := 0) (ks' := 0) rfl ?_
  refine RP.get (ci := 12) rfl (get_set hm) rfl rfl ?_
  refine RP.blk 1 (pc' := 20) (lv' := [(0, .ref 196), (1, .int (nI t))]) (st' := [.int 1, .int (nI l)]) (H' := _) (kc' := 0) (ks' := 0) rfl ?_
  refine RP.brF rfl rfl rfl (cF_lt l 1) ?_
  refine RP.blk 1 (pc' := 24) (lv' := [(0, .ref 196), (1, .int (nI t))]) (st' := [.ref 196]) (H' := _) (kc' := 0) (ks' := 0) rfl ?_
  refine RP.get (ci := 12) rfl (get_set hm) rfl rfl ?_
  refine RP.blk 1 (pc' := 29) (lv' := [(0, .ref 196), (1, .int (nI t))]) (st' := [.int 40, .int (nI l)]) (H' := _) (kc' := 0) (ks' := 0) rfl ?_
  refine RP.brT rfl rfl rfl (cT_le l 40) ?_
  refine RP.blk 1 (pc' := 39) (lv' := [(0, .ref 196), (1, .int (nI t))]) (st' := [.ref 196]) (H' := _) (kc' := 0) (ks' := 0) rfl ?_
  refine RP.get (ci := 12) rfl (get_set hm) rfl rfl ?_
  refine RP.brF rfl rfl rfl (by decide) ?_
  refine RP.blk 2 (pc' := 47) (lv' := [(0, .ref 196), (1, .int (nI t))]) (st' := [.int 2, .ref 196]) (H' := _) (kc' := 0) (ks' := 0) rfl ?_
  refine RP.call (v := some (.int 0)) (st' := []) rfl rfl rfl rfl rfl rfl (args_v [.int 2] [] rfl rfl (Nat.le_of_ble_eq_true rfl) rfl (get_set hm) (Nat.le_of_ble_eq_true rfl)) (rc_mfail (get_set hm) rfl) ?_
  rw [set_set]
  exact RP.done (c := 0) (s := 0) rfl rfl rfl rfl
theorem rc_mget_closed {sc : Nat × (Nat → Int32)} {d l : Nat} {H : aH} {fa li cw cl rs pr ve us pi hu : Int32} {ba bo : Nat} {t : Nat} {op : Nat → Bool} (hm : H[195]? = some (kO 12 (mfs fa li 0 cw cl (nI l) rs pr ve us pi hu ba bo))) (ht : t < 8) (hl1 : 1 ≤ l) (hl2 : l ≤ 40) (h205 : H[205]? = some (kZ 8 op)) (hop : op t = false) : RC sc (d + 1) mr_289 [.ref 196, .int (nI t)] H (.inl (some (.int 0))) (H.set 195 (kO 12 (mfs 3 li 0 cw cl 0 rs pr ve us pi hu ba bo))) 0 0 := by
  refine RP.blk 2 (pc' := 2) (lv' := [(0, .ref 196), (1, .int (nI t))]) (st' := [.int 0, .ref 196]) (H' := _) (kc' := 0) (ks' := 0) rfl ?_
  refine RP.put (ci := 12) rfl hm rfl rfl (Nat.le_of_ble_eq_true rfl) ?_
  refine RP.blk 3 (pc' := 9) (lv' := [(0, .ref 196), (1, .int (nI t))]) (st' := [.int 8, .int (nI t), .ref 196]) (H' := _) (kc' := 0) (ks' := 0) rfl ?_
  refine RP.call (v := some (.int 0)) (st' := []) rfl rfl rfl rfl rfl rfl (args_v [.int 8, .int (nI t)] [] rfl rfl (Nat.le_of_ble_eq_true rfl) rfl (get_set hm) (Nat.le_of_ble_eq_true rfl)) (rc_out (v := t) (m := 8) ht (by decide)) ?_
  refine RP.brF rfl rfl rfl (by decide) ?_
  refine RP.blk 1 (pc' := 16) (lv' := [(0, .ref 196), (1, .int (nI t))]) (st' := [.ref 196]) (H' := _) (kc' := 0) (ks' := 0) rfl ?_
  refine RP.get (ci := 12) rfl (get_set hm) rfl rfl ?_
  refine RP.blk 1 (pc' := 20) (lv' := [(0, .ref 196), (1, .int (nI t))]) (st' := [.int 1, .int (nI l)]) (H' := _) (kc' := 0) (ks' := 0) rfl ?_
  refine RP.brF rfl rfl rfl (cF_lt l 1) ?_
  refine RP.blk 1 (pc' := 24) (lv' := [(0, .ref 196), (1, .int (nI t))]) (st' := [.ref 196]) (H' := _) (kc' := 0) (ks' := 0) rfl ?_
  refine RP.get (ci := 12) rfl (get_set hm) rfl rfl ?_
  refine RP.blk 1 (pc' := 29) (lv' := [(0, .ref 196), (1, .int (nI t))]) (st' := [.int 40, .int (nI l)]) (H' := _) (kc' := 0) (ks' := 0) rfl ?_
  refine RP.brT rfl rfl rfl (cT_le l 40) ?_
  refine RP.blk 1 (pc' := 39) (lv' := [(0, .ref 196), (1, .int (nI t))]) (st' := [.ref 196]) (H' := _) (kc' := 0) (ks' := 0) rfl ?_
  refine RP.get (ci := 12) rfl (get_set hm) rfl rfl ?_
  refine RP.brT rfl rfl rfl (by decide) ?_
  refine RP.blk 1 (pc' := 52) (lv' := [(0, .ref 196), (1, .int (nI t))]) (st' := [.ref 196]) (H' := _) (kc' := 0) (ks' := 0) rfl ?_
  refine RP.get (ci := 12) rfl (get_set hm) rfl rfl ?_
  refine RP.blk 3 (pc' := 58) (lv' := [(2, .int (nI l)), (0, .ref 196), (1, .int (nI t))]) (st' := [.int 0, .ref 196]) (H' := _) (kc' := 0) (ks' := 0) rfl ?_
  refine RP.put (ci := 12) rfl (get_set hm) rfl rfl (Nat.le_of_ble_eq_true rfl) ?_
  refine RP.blk 1 (pc' := 62) (lv' := [(2, .int (nI l)), (0, .ref 196), (1, .int (nI t))]) (st' := [.ref 196]) (H' := _) (kc' := 0) (ks' := 0) rfl ?_
  refine RP.get (ci := 12) rfl (get_set (get_set hm)) rfl rfl ?_
  refine RP.blk 1 (pc' := 66) (lv' := [(2, .int (nI l)), (0, .ref 196), (1, .int (nI t))]) (st' := [.int (nI t), .ref 206]) (H' := _) (kc' := 0) (ks' := 0) rfl ?_
  rw [set_set]
  refine RP.zaldN (j := t) rfl ((set_far (by decide)).trans h205) (by omega) (by decide) ?_
  refine RP.brF rfl rfl rfl (z_neF hop) ?_
  refine RP.blk 2 (pc' := 72) (lv' := [(2, .int (nI l)), (0, .ref 196), (1, .int (nI t))]) (st' := [.int 3, .ref 196]) (H' := _) (kc' := 0) (ks' := 0) rfl ?_
  refine RP.call (v := some (.int 0)) (st' := []) rfl rfl rfl rfl rfl rfl (args_v [.int 3] [] rfl rfl (Nat.le_of_ble_eq_true rfl) rfl (get_set hm) (Nat.le_of_ble_eq_true rfl)) (rc_mfail (get_set hm) rfl) ?_
  rw [set_set]
  exact RP.done (c := 0) (s := 0) rfl rfl rfl rfl
theorem rc_seek_bad {sc : Nat × (Nat → Int32)} {y : Int32} {d l : Nat} {H : aH} {bl pr cw cl cp cb : Int32} {up x : Int32} (h0 : H[0]? = some (kO 11 (fvs bl pr up cw cl cp cb))) (h1 : H[1]? = some (kO 5 [.ref 3, .int (nI l)])) (hl : l ≤ 2000) (hbad : ¬ ((∃ t, x = nI t ∧ t < 8) ∧ l ≤ 40)) : RC sc (d + 2) mr_69 [.ref 1, .int x, .int y] H (.inr 0) H 1 6 := by
  refine RP.blk 2 (pc' := 2) (lv' := [(0, .ref 1), (1, .int x), (2, .int y)]) (st' := [.int x, .ref 1]) (H' := _) (kc' := 0) (ks' := 0) rfl ?_
  rcases pk_ix x (n := 8) (by decide) with hx | hx | ⟨t, ht, rfl⟩
  ·
    exact RP.callP (st' := []) rfl rfl rfl rfl rfl rfl (args_v [.int x] [] rfl rfl (Nat.le_of_ble_eq_true rfl) rfl h0 (Nat.le_of_ble_eq_true rfl)) (rc_reqTxX h0 (Or.inl hx)) rfl
  ·
    exact RP.callP (st' := []) rfl rfl rfl rfl rfl rfl (args_v [.int x] [] rfl rfl (Nat.le_of_ble_eq_true rfl) rfl h0 (Nat.le_of_ble_eq_true rfl)) (rc_reqTxX h0 (Or.inr (not7 hx))) rfl
  ·
    refine RP.call (v := none) (st' := []) rfl rfl rfl rfl rfl rfl (args_v [.int (nI t)] [] rfl rfl (Nat.le_of_ble_eq_true rfl) rfl h0 (Nat.le_of_ble_eq_true rfl)) (rc_reqTx h0 ht) ?_
    refine RP.blk 2 (pc' := 7) (lv' := [(0, .ref 1), (1, .int (nI t)), (2, .int y)]) (st' := [.ref 1, .ref 1]) (H' := _) (kc' := 0) (ks' := 0) rfl ?_
    refine RP.get (ci := 11) rfl h0 rfl rfl ?_
    refine RP.get (ci := 5) rfl h1 rfl rfl ?_
    refine RP.blk 2 (pc' := 16) (lv' := [(0, .ref 1), (1, .int (nI t)), (2, .int y)]) (st' := [.int 40, .int 0, .int (nI l), .ref 1]) (H' := _) (kc' := 0) (ks' := 0) rfl ?_
    exact RP.callP (st' := []) rfl rfl rfl rfl rfl rfl (args_v [.int 40, .int 0, .int (nI l)] [] rfl rfl (Nat.le_of_ble_eq_true rfl) rfl h0 (Nat.le_of_ble_eq_true rfl)) (rc_rangeX (Or.inr (nI_ge (a := 40) (by have : ¬ l ≤ 40 := fun e2 => hbad ⟨⟨t, rfl, ht⟩, e2⟩; omega) (by omega)))) rfl
theorem rc_seek_down {sc : Nat × (Nat → Int32)} {y : Int32} {d l : Nat} {H : aH} {bl pr cw cl cp cb : Int32} {t : Nat} (h0 : H[0]? = some (kO 11 (fvs bl pr 0 cw cl cp cb))) (h1 : H[1]? = some (kO 5 [.ref 3, .int (nI l)])) (ht : t < 8) (hl2 : l ≤ 40) : RC sc (d + 2) mr_69 [.ref 1, .int (nI t), .int y] H (.inr 1) H 1 6 := by
  refine RP.blk 2 (pc' := 2) (lv' := [(0, .ref 1), (1, .int (nI t)), (2, .int y)]) (st' := [.int (nI t), .ref 1]) (H' := _) (kc' := 0) (ks' := 0) rfl ?_
  refine RP.call (v := none) (st' := []) rfl rfl rfl rfl rfl rfl (args_v [.int (nI t)] [] rfl rfl (Nat.le_of_ble_eq_true rfl) rfl h0 (Nat.le_of_ble_eq_true rfl)) (rc_reqTx h0 ht) ?_
  refine RP.blk 2 (pc' := 7) (lv' := [(0, .ref 1), (1, .int (nI t)), (2, .int y)]) (st' := [.ref 1, .ref 1]) (H' := _) (kc' := 0) (ks' := 0) rfl ?_
  refine RP.get (ci := 11) rfl h0 rfl rfl ?_
  refine RP.get (ci := 5) rfl h1 rfl rfl ?_
  refine RP.blk 2 (pc' := 16) (lv' := [(0, .ref 1), (1, .int (nI t)), (2, .int y)]) (st' := [.int 40, .int 0, .int (nI l), .ref 1]) (H' := _) (kc' := 0) (ks' := 0) rfl ?_
  refine RP.call (v := none) (st' := []) rfl rfl rfl rfl rfl rfl (args_v [.int 40, .int 0, .int (nI l)] [] rfl rfl (Nat.le_of_ble_eq_true rfl) rfl h0 (Nat.le_of_ble_eq_true rfl)) (rc_range (lo := 0) (hi := 40) (nI_pos (by omega)) (nI_le (b := 40) (by omega) (by decide))) ?_
  refine RP.blk 1 (pc' := 20) (lv' := [(0, .ref 1), (1, .int (nI t)), (2, .int y)]) (st' := [.ref 1]) (H' := _) (kc' := 0) (ks' := 0) rfl ?_
  exact RP.callP (st' := []) rfl rfl rfl rfl rfl rfl (args_v [] [] rfl rfl (Nat.le_of_ble_eq_true rfl) rfl h0 (Nat.le_of_ble_eq_true rfl)) (rc_down h0 rfl) rfl
theorem rc_seek_closed {sc : Nat × (Nat → Int32)} {y : Int32} {d l : Nat} {H : aH} {bl pr cw cl cp cb : Int32} {t : Nat} {op : Nat → Bool} {mo : Nat → Nat} (h0 : H[0]? = some (kO 11 (fvs bl pr 1 cw cl cp cb))) (h1 : H[1]? = some (kO 5 [.ref 3, .int (nI l)])) (ht : t < 8) (hl2 : l ≤ 40) (hs : SightAt H op mo) (hop : op t = false) : RC sc (d + 2) mr_69 [.ref 1, .int (nI t), .int y] H (.inr 3) (H.set 1 (kO 5 [.ref 3, .int (nI 0)])) 1 6 := by
  refine RP.blk 2 (pc' := 2) (lv' := [(0, .ref 1), (1, .int (nI t)), (2, .int y)]) (st' := [.int (nI t), .ref 1]) (H' := _) (kc' := 0) (ks' := 0) rfl ?_
  refine RP.call (v := none) (st' := []) rfl rfl rfl rfl rfl rfl (args_v [.int (nI t)] [] rfl rfl (Nat.le_of_ble_eq_true rfl) rfl h0 (Nat.le_of_ble_eq_true rfl)) (rc_reqTx h0 ht) ?_
  refine RP.blk 2 (pc' := 7) (lv' := [(0, .ref 1), (1, .int (nI t)), (2, .int y)]) (st' := [.ref 1, .ref 1]) (H' := _) (kc' := 0) (ks' := 0) rfl ?_
  refine RP.get (ci := 11) rfl h0 rfl rfl ?_
  refine RP.get (ci := 5) rfl h1 rfl rfl ?_
  refine RP.blk 2 (pc' := 16) (lv' := [(0, .ref 1), (1, .int (nI t)), (2, .int y)]) (st' := [.int 40, .int 0, .int (nI l), .ref 1]) (H' := _) (kc' := 0) (ks' := 0) rfl ?_
  refine RP.call (v := none) (st' := []) rfl rfl rfl rfl rfl rfl (args_v [.int 40, .int 0, .int (nI l)] [] rfl rfl (Nat.le_of_ble_eq_true rfl) rfl h0 (Nat.le_of_ble_eq_true rfl)) (rc_range (lo := 0) (hi := 40) (nI_pos (by omega)) (nI_le (b := 40) (by omega) (by decide))) ?_
  refine RP.blk 1 (pc' := 20) (lv' := [(0, .ref 1), (1, .int (nI t)), (2, .int y)]) (st' := [.ref 1]) (H' := _) (kc' := 0) (ks' := 0) rfl ?_
  refine RP.call (v := none) (st' := []) rfl rfl rfl rfl rfl rfl (args_v [] [] rfl rfl (Nat.le_of_ble_eq_true rfl) rfl h0 (Nat.le_of_ble_eq_true rfl)) (rc_up h0 rfl) ?_
  refine RP.blk 1 (pc' := 24) (lv' := [(0, .ref 1), (1, .int (nI t)), (2, .int y)]) (st' := [.ref 1]) (H' := _) (kc' := 0) (ks' := 0) rfl ?_
  refine RP.call (v := some (.int (nI l))) (st' := []) rfl rfl rfl rfl rfl rfl (args_v [] [] rfl rfl (Nat.le_of_ble_eq_true rfl) rfl h0 (Nat.le_of_ble_eq_true rfl)) (rc_takeTape h0 h1) ?_
  have hs2 : SightAt (H.set 1 (kO 5 [.ref 3, .int (nI 0)])) op mo := ⟨(set_far (by decide)).trans hs.1, (set_far (by decide)).trans hs.2.1, (set_far (by decide)).trans hs.2.2⟩
  have h0b : (H.set 1 (kO 5 [.ref 3, .int (nI 0)]))[0]? = _ := (set_far (by decide)).trans h0
  refine RP.blk 3 (pc' := 30) (lv' := [(3, .int (nI l)), (0, .ref 1), (1, .int (nI t)), (2, .int y)]) (st' := [.int (nI t), .ref 1]) (H' := _) (kc' := 0) (ks' := 0) rfl ?_
  exact RP.callP (st' := []) rfl rfl rfl rfl rfl rfl (args_v [.int (nI t)] [] rfl rfl (Nat.le_of_ble_eq_true rfl) rfl h0b (Nat.le_of_ble_eq_true rfl)) (rc_reqOpenX h0b hs2 ht hop) rfl
theorem rc_mseek_bad {sc : Nat × (Nat → Int32)} {y : Int32} {d l : Nat} {H : aH} {fa li cw cl rs pr ve us pi hu : Int32} {ba bo : Nat} {dn x : Int32} (hm : H[195]? = some (kO 12 (mfs fa li dn cw cl (nI l) rs pr ve us pi hu ba bo))) (hl : l ≤ 2000) (hbad : ¬ ((∃ t, x = nI t ∧ t < 8) ∧ l ≤ 40)) : RC sc (d + 1) mr_292 [.ref 196, .int x, .int y] H (.inl (some (.int 0))) (H.set 195 (kO 12 (mfs 1 li dn cw cl (nI l) rs pr ve us pi hu ba bo))) 0 0 := by
  refine RP.blk 2 (pc' := 2) (lv' := [(0, .ref 196), (1, .int x), (2, .int y)]) (st' := [.int 0, .ref 196]) (H' := _) (kc' := 0) (ks' := 0) rfl ?_
  refine RP.put (ci := 12) rfl hm rfl rfl (Nat.le_of_ble_eq_true rfl) ?_
  refine RP.blk 3 (pc' := 9) (lv' := [(0, .ref 196), (1, .int x), (2, .int y)]) (st' := [.int 8, .int x, .ref 196]) (H' := _) (kc' := 0) (ks' := 0) rfl ?_
  rcases pk_ix x (n := 8) (by decide) with hx | hx | ⟨t, ht, rfl⟩
  ·
    refine RP.call (v := some (.int 1)) (st' := []) rfl rfl rfl rfl rfl rfl (args_v [.int 8, .int x] [] rfl rfl (Nat.le_of_ble_eq_true rfl) rfl (get_set hm) (Nat.le_of_ble_eq_true rfl)) (rc_outX (m := 8) (Or.inl hx)) ?_
    refine RP.brT rfl rfl rfl (by decide) ?_
    refine RP.blk 2 (pc' := 26) (lv' := [(0, .ref 196), (1, .int x), (2, .int y)]) (st' := [.int 1, .ref 196]) (H' := _) (kc' := 0) (ks' := 0) rfl ?_
    refine RP.call (v := some (.int 0)) (st' := []) rfl rfl rfl rfl rfl rfl (args_v [.int 1] [] rfl rfl (Nat.le_of_ble_eq_true rfl) rfl (get_set hm) (Nat.le_of_ble_eq_true rfl)) (rc_mfail (get_set hm) rfl) ?_
    rw [set_set]
    exact RP.done (c := 0) (s := 0) rfl rfl rfl rfl
  ·
    refine RP.call (v := some (.int 1)) (st' := []) rfl rfl rfl rfl rfl rfl (args_v [.int 8, .int x] [] rfl rfl (Nat.le_of_ble_eq_true rfl) rfl (get_set hm) (Nat.le_of_ble_eq_true rfl)) (rc_outX (m := 8) (Or.inr (Int32.not_lt.mpr hx))) ?_
    refine RP.brT rfl rfl rfl (by decide) ?_
    refine RP.blk 2 (pc' := 26) (lv' := [(0, .ref 196), (1, .int x), (2, .int y)]) (st' := [.int 1, .ref 196]) (H' := _) (kc' := 0) (ks' := 0) rfl ?_
    refine RP.call (v := some (.int 0)) (st' := []) rfl rfl rfl rfl rfl rfl (args_v [.int 1] [] rfl rfl (Nat.le_of_ble_eq_true rfl) rfl (get_set hm) (Nat.le_of_ble_eq_true rfl)) (rc_mfail (get_set hm) rfl) ?_
    rw [set_set]
    exact RP.done (c := 0) (s := 0) rfl rfl rfl rfl
  · have hb2 : ¬ l ≤ 40 := fun e2 => hbad ⟨⟨t, rfl, ht⟩, e2⟩
    refine RP.call (v := some (.int 0)) (st' := []) rfl rfl rfl rfl rfl rfl (args_v [.int 8, .int (nI t)] [] rfl rfl (Nat.le_of_ble_eq_true rfl) rfl (get_set hm) (Nat.le_of_ble_eq_true rfl)) (rc_out (v := t) (m := 8) ht (by decide)) ?_
    refine RP.brF rfl rfl rfl (by decide) ?_
    refine RP.blk 1 (pc' := 16) (lv' := [(0, .ref 196), (1, .int (nI t)), (2, .int y)]) (st' := [.ref 196]) (H' := _) (kc' := 0) (ks' := 0) rfl ?_
    refine RP.get (ci := 12) rfl (get_set hm) rfl rfl ?_
    refine RP.blk 1 (pc' := 21) (lv' := [(0, .ref 196), (1, .int (nI t)), (2, .int y)]) (st' := [.int 40, .int (nI l)]) (H' := _) (kc' := 0) (ks' := 0) rfl ?_
    refine RP.brF rfl rfl rfl (cF_le l 40) ?_
    refine RP.blk 2 (pc' := 26) (lv' := [(0, .ref 196), (1, .int (nI t)), (2, .int y)]) (st' := [.int 1, .ref 196]) (H' := _) (kc' := 0) (ks' := 0) rfl ?_
    refine RP.call (v := some (.int 0)) (st' := []) rfl rfl rfl rfl rfl rfl (args_v [.int 1] [] rfl rfl (Nat.le_of_ble_eq_true rfl) rfl (get_set hm) (Nat.le_of_ble_eq_true rfl)) (rc_mfail (get_set hm) rfl) ?_
    rw [set_set]
    exact RP.done (c := 0) (s := 0) rfl rfl rfl rfl
theorem rc_mseek_down {sc : Nat × (Nat → Int32)} {y : Int32} {d l : Nat} {H : aH} {fa li cw cl rs pr ve us pi hu : Int32} {ba bo : Nat} {t : Nat} (hm : H[195]? = some (kO 12 (mfs fa li 1 cw cl (nI l) rs pr ve us pi hu ba bo))) (ht : t < 8) (hl2 : l ≤ 40) : RC sc (d + 1) mr_292 [.ref 196, .int (nI t), .int y] H (.inl (some (.int 0))) (H.set 195 (kO 12 (mfs 2 li 1 cw cl (nI l) rs pr ve us pi hu ba bo))) 0 0 := by
  refine RP.blk 2 (pc' := 2) (lv' := [(0, .ref 196), (1, .int (nI t)), (2, .int y)]) (st' := [.int 0, .ref 196]) (H' := _) (kc' := 0) (ks' := 0) rfl ?_
  refine RP.put (ci := 12) rfl hm rfl rfl (Nat.le_of_ble_eq_true rfl) ?_
  refine RP.blk 3 (pc' := 9) (lv' := [(0, .ref 196), (1, .int (nI t)), (2, .int y)]) (st' := [.int 8, .int (nI t), .ref 196]) (H' := _) (kc' := 0) (ks' := 0) rfl ?_
  refine RP.call (v := some (.int 0)) (st' := []) rfl rfl rfl rfl rfl rfl (args_v [.int 8, .int (nI t)] [] rfl rfl (Nat.le_of_ble_eq_true rfl) rfl (get_set hm) (Nat.le_of_ble_eq_true rfl)) (rc_out (v := t) (m := 8) ht (by decide)) ?_
  refine RP.brF rfl rfl rfl (by decide) ?_
  refine RP.blk 1 (pc' := 16) (lv' := [(0, .ref 196), (1, .int (nI t)), (2, .int y)]) (st' := [.ref 196]) (H' := _) (kc' := 0) (ks' := 0) rfl ?_
  refine RP.get (ci := 12) rfl (get_set hm) rfl rfl ?_
  refine RP.blk 1 (pc' := 21) (lv' := [(0, .ref 196), (1, .int (nI t)), (2, .int y)]) (st' := [.int 40, .int (nI l)]) (H' := _) (kc' := 0) (ks' := 0) rfl ?_
  refine RP.brT rfl rfl rfl (cT_le l 40) ?_
  refine RP.blk 1 (pc' := 31) (lv' := [(0, .ref 196), (1, .int (nI t)), (2, .int y)]) (st' := [.ref 196]) (H' := _) (kc' := 0) (ks' := 0) rfl ?_
  refine RP.get (ci := 12) rfl (get_set hm) rfl rfl ?_
  refine RP.brF rfl rfl rfl (by decide) ?_
  refine RP.blk 2 (pc' := 39) (lv' := [(0, .ref 196), (1, .int (nI t)), (2, .int y)]) (st' := [.int 2, .ref 196]) (H' := _) (kc' := 0) (ks' := 0) rfl ?_
  refine RP.call (v := some (.int 0)) (st' := []) rfl rfl rfl rfl rfl rfl (args_v [.int 2] [] rfl rfl (Nat.le_of_ble_eq_true rfl) rfl (get_set hm) (Nat.le_of_ble_eq_true rfl)) (rc_mfail (get_set hm) rfl) ?_
  rw [set_set]
  exact RP.done (c := 0) (s := 0) rfl rfl rfl rfl
theorem rc_mseek_closed {sc : Nat × (Nat → Int32)} {y : Int32} {d l : Nat} {H : aH} {fa li cw cl rs pr ve us pi hu : Int32} {ba bo : Nat} {t : Nat} {op : Nat → Bool} (hm : H[195]? = some (kO 12 (mfs fa li 0 cw cl (nI l) rs pr ve us pi hu ba bo))) (ht : t < 8) (hl2 : l ≤ 40) (h205 : H[205]? = some (kZ 8 op)) (hop : op t = false) : RC sc (d + 1) mr_292 [.ref 196, .int (nI t), .int y] H (.inl (some (.int 0))) (H.set 195 (kO 12 (mfs 3 li 0 cw cl 0 rs pr ve us pi hu ba bo))) 0 0 := by
  refine RP.blk 2 (pc' := 2) (lv' := [(0, .ref 196), (1, .int (nI t)), (2, .int y)]) (st' := [.int 0, .ref 196]) (H' := _) (kc' := 0) (ks' := 0) rfl ?_
  refine RP.put (ci := 12) rfl hm rfl rfl (Nat.le_of_ble_eq_true rfl) ?_
  refine RP.blk 3 (pc' := 9) (lv' := [(0, .ref 196), (1, .int (nI t)), (2, .int y)]) (st' := [.int 8, .int (nI t), .ref 196]) (H' := _) (kc' := 0) (ks' := 0) rfl ?_
  refine RP.call (v := some (.int 0)) (st' := []) rfl rfl rfl rfl rfl rfl (args_v [.int 8, .int (nI t)] [] rfl rfl (Nat.le_of_ble_eq_true rfl) rfl (get_set hm) (Nat.le_of_ble_eq_true rfl)) (rc_out (v := t) (m := 8) ht (by decide)) ?_
  refine RP.brF rfl rfl rfl (by decide) ?_
  refine RP.blk 1 (pc' := 16) (lv' := [(0, .ref 196), (1, .int (nI t)), (2, .int y)]) (st' := [.ref 196]) (H' := _) (kc' := 0) (ks' := 0) rfl ?_
  refine RP.get (ci := 12) rfl (get_set hm) rfl rfl ?_
  refine RP.blk 1 (pc' := 21) (lv' := [(0, .ref 196), (1, .int (nI t)), (2, .int y)]) (st' := [.int 40, .int (nI l)]) (H' := _) (kc' := 0) (ks' := 0) rfl ?_
  refine RP.brT rfl rfl rfl (cT_le l 40) ?_
  refine RP.blk 1 (pc' := 31) (lv' := [(0, .ref 196), (1, .int (nI t)), (2, .int y)]) (st' := [.ref 196]) (H' := _) (kc' := 0) (ks' := 0) rfl ?_
  refine RP.get (ci := 12) rfl (get_set hm) rfl rfl ?_
  refine RP.brT rfl rfl rfl (by decide) ?_
  refine RP.blk 1 (pc' := 44) (lv' := [(0, .ref 196), (1, .int (nI t)), (2, .int y)]) (st' := [.ref 196]) (H' := _) (kc' := 0) (ks' := 0) rfl ?_
  refine RP.get (ci := 12) rfl (get_set hm) rfl rfl ?_
  refine RP.blk 3 (pc' := 50) (lv' := [(3, .int (nI l)), (0, .ref 196), (1, .int (nI t)), (2, .int y)]) (st' := [.int 0, .ref 196]) (H' := _) (kc' := 0) (ks' := 0) rfl ?_
  refine RP.put (ci := 12) rfl (get_set hm) rfl rfl (Nat.le_of_ble_eq_true rfl) ?_
  refine RP.blk 1 (pc' := 54) (lv' := [(3, .int (nI l)), (0, .ref 196), (1, .int (nI t)), (2, .int y)]) (st' := [.ref 196]) (H' := _) (kc' := 0) (ks' := 0) rfl ?_
  refine RP.get (ci := 12) rfl (get_set (get_set hm)) rfl rfl ?_
  refine RP.blk 1 (pc' := 58) (lv' := [(3, .int (nI l)), (0, .ref 196), (1, .int (nI t)), (2, .int y)]) (st' := [.int (nI t), .ref 206]) (H' := _) (kc' := 0) (ks' := 0) rfl ?_
  rw [set_set]
  refine RP.zaldN (j := t) rfl ((set_far (by decide)).trans h205) (by omega) (by decide) ?_
  refine RP.brF rfl rfl rfl (z_neF hop) ?_
  refine RP.blk 2 (pc' := 64) (lv' := [(3, .int (nI l)), (0, .ref 196), (1, .int (nI t)), (2, .int y)]) (st' := [.int 3, .ref 196]) (H' := _) (kc' := 0) (ks' := 0) rfl ?_
  refine RP.call (v := some (.int 0)) (st' := []) rfl rfl rfl rfl rfl rfl (args_v [.int 3] [] rfl rfl (Nat.le_of_ble_eq_true rfl) rfl (get_set hm) (Nat.le_of_ble_eq_true rfl)) (rc_mfail (get_set hm) rfl) ?_
  rw [set_set]
  exact RP.done (c := 0) (s := 0) rfl rfl rfl rfl
theorem rc_commit_bad {sc : Nat × (Nat → Int32)} {d : Nat} {H : aH} {bl pr cw cl cp cb : Int32} {up x : Int32} (h0 : H[0]? = some (kO 11 (fvs bl pr up cw cl cp cb))) (hbad : ¬ (∃ t, x = nI t ∧ t < 8)) : RC sc (d + 2) mr_77 [.ref 1, .int x] H (.inr 0) H 1 6 := by
  refine RP.blk 2 (pc' := 2) (lv' := [(0, .ref 1), (1, .int x)]) (st' := [.int x, .ref 1]) (H' := _) (kc' := 0) (ks' := 0) rfl ?_
  rcases pk_ix x (n := 8) (by decide) with hx | hx | ⟨t, ht, rfl⟩
  ·
    exact RP.callP (st' := []) rfl rfl rfl rfl rfl rfl (args_v [.int x] [] rfl rfl (Nat.le_of_ble_eq_true rfl) rfl h0 (Nat.le_of_ble_eq_true rfl)) (rc_reqTxX h0 (Or.inl hx)) rfl
  ·
    exact RP.callP (st' := []) rfl rfl rfl rfl rfl rfl (args_v [.int x] [] rfl rfl (Nat.le_of_ble_eq_true rfl) rfl h0 (Nat.le_of_ble_eq_true rfl)) (rc_reqTxX h0 (Or.inr (not7 hx))) rfl
  · exact absurd ⟨t, rfl, ht⟩ hbad
theorem rc_commit_down {sc : Nat × (Nat → Int32)} {d : Nat} {H : aH} {bl pr cw cl cp cb : Int32} {t : Nat} (h0 : H[0]? = some (kO 11 (fvs bl pr 0 cw cl cp cb))) (ht : t < 8) : RC sc (d + 2) mr_77 [.ref 1, .int (nI t)] H (.inr 1) H 1 6 := by
  refine RP.blk 2 (pc' := 2) (lv' := [(0, .ref 1), (1, .int (nI t))]) (st' := [.int (nI t), .ref 1]) (H' := _) (kc' := 0) (ks' := 0) rfl ?_
  refine RP.call (v := none) (st' := []) rfl rfl rfl rfl rfl rfl (args_v [.int (nI t)] [] rfl rfl (Nat.le_of_ble_eq_true rfl) rfl h0 (Nat.le_of_ble_eq_true rfl)) (rc_reqTx h0 ht) ?_
  refine RP.blk 1 (pc' := 6) (lv' := [(0, .ref 1), (1, .int (nI t))]) (st' := [.ref 1]) (H' := _) (kc' := 0) (ks' := 0) rfl ?_
  exact RP.callP (st' := []) rfl rfl rfl rfl rfl rfl (args_v [] [] rfl rfl (Nat.le_of_ble_eq_true rfl) rfl h0 (Nat.le_of_ble_eq_true rfl)) (rc_down h0 rfl) rfl
theorem rc_commit_closed {sc : Nat × (Nat → Int32)} {d : Nat} {H : aH} {bl pr cw cl cp cb : Int32} {t : Nat} {op : Nat → Bool} {mo : Nat → Nat} (h0 : H[0]? = some (kO 11 (fvs bl pr 1 cw cl cp cb))) (ht : t < 8) (hs : SightAt H op mo) (hop : op t = false) : RC sc (d + 2) mr_77 [.ref 1, .int (nI t)] H (.inr 3) H 1 6 := by
  refine RP.blk 2 (pc' := 2) (lv' := [(0, .ref 1), (1, .int (nI t))]) (st' := [.int (nI t), .ref 1]) (H' := _) (kc' := 0) (ks' := 0) rfl ?_
  refine RP.call (v := none) (st' := []) rfl rfl rfl rfl rfl rfl (args_v [.int (nI t)] [] rfl rfl (Nat.le_of_ble_eq_true rfl) rfl h0 (Nat.le_of_ble_eq_true rfl)) (rc_reqTx h0 ht) ?_
  refine RP.blk 1 (pc' := 6) (lv' := [(0, .ref 1), (1, .int (nI t))]) (st' := [.ref 1]) (H' := _) (kc' := 0) (ks' := 0) rfl ?_
  refine RP.call (v := none) (st' := []) rfl rfl rfl rfl rfl rfl (args_v [] [] rfl rfl (Nat.le_of_ble_eq_true rfl) rfl h0 (Nat.le_of_ble_eq_true rfl)) (rc_up h0 rfl) ?_
  refine RP.blk 2 (pc' := 11) (lv' := [(0, .ref 1), (1, .int (nI t))]) (st' := [.int (nI t), .ref 1]) (H' := _) (kc' := 0) (ks' := 0) rfl ?_
  exact RP.callP (st' := []) rfl rfl rfl rfl rfl rfl (args_v [.int (nI t)] [] rfl rfl (Nat.le_of_ble_eq_true rfl) rfl h0 (Nat.le_of_ble_eq_true rfl)) (rc_reqOpenX h0 hs ht hop) rfl
theorem rc_mcommit_bad {sc : Nat × (Nat → Int32)} {d : Nat} {H : aH} {fa li cw cl rs pr ve us pi hu tp : Int32} {ba bo : Nat} {dn x : Int32} (hm : H[195]? = some (kO 12 (mfs fa li dn cw cl tp rs pr ve us pi hu ba bo))) (hbad : ¬ (∃ t, x = nI t ∧ t < 8)) : RC sc (d + 1) mr_295 [.ref 196, .int x] H (.inl (some (.int 0))) (H.set 195 (kO 12 (mfs 1 li dn cw cl tp rs pr ve us pi hu ba bo))) 0 0 := by
  refine RP.blk 2 (pc' := 2) (lv' := [(0, .ref 196), (1, .int x)]) (st' := [.int 0, .ref 196]) (H' := _) (kc' := 0) (ks' := 0) rfl ?_
  refine RP.put (ci := 12) rfl hm rfl rfl (Nat.le_of_ble_eq_true rfl) ?_
  refine RP.blk 3 (pc' := 9) (lv' := [(0, .ref 196), (1, .int x)]) (st' := [.int 8, .int x, .ref 196]) (H' := _) (kc' := 0) (ks' := 0) rfl ?_
  rcases pk_ix x (n := 8) (by decide) with hx | hx | ⟨t, ht, rfl⟩
  ·
    refine RP.call (v := some (.int 1)) (st' := []) rfl rfl rfl rfl rfl rfl (args_v [.int 8, .int x] [] rfl rfl (Nat.le_of_ble_eq_true rfl) rfl (get_set hm) (Nat.le_of_ble_eq_true rfl)) (rc_outX (m := 8) (Or.inl hx)) ?_
    refine RP.brF rfl rfl rfl (by decide) ?_
    refine RP.blk 2 (pc' := 17) (lv' := [(0, .ref 196), (1, .int x)]) (st' := [.int 1, .ref 196]) (H' := _) (kc' := 0) (ks' := 0) rfl ?_
    refine RP.call (v := some (.int 0)) (st' := []) rfl rfl rfl rfl rfl rfl (args_v [.int 1] [] rfl rfl (Nat.le_of_ble_eq_true rfl) rfl (get_set hm) (Nat.le_of_ble_eq_true rfl)) (rc_mfail (get_set hm) rfl) ?_
    rw [set_set]
    exact RP.done (c := 0) (s := 0) rfl rfl rfl rfl
  ·
    refine RP.call (v := some (.int 1)) (st' := []) rfl rfl rfl rfl rfl rfl (args_v [.int 8, .int x] [] rfl rfl (Nat.le_of_ble_eq_true rfl) rfl (get_set hm) (Nat.le_of_ble_eq_true rfl)) (rc_outX (m := 8) (Or.inr (Int32.not_lt.mpr hx))) ?_
    refine RP.brF rfl rfl rfl (by decide) ?_
    refine RP.blk 2 (pc' := 17) (lv' := [(0, .ref 196), (1, .int x)]) (st' := [.int 1, .ref 196]) (H' := _) (kc' := 0) (ks' := 0) rfl ?_
    refine RP.call (v := some (.int 0)) (st' := []) rfl rfl rfl rfl rfl rfl (args_v [.int 1] [] rfl rfl (Nat.le_of_ble_eq_true rfl) rfl (get_set hm) (Nat.le_of_ble_eq_true rfl)) (rc_mfail (get_set hm) rfl) ?_
    rw [set_set]
    exact RP.done (c := 0) (s := 0) rfl rfl rfl rfl
  · exact absurd ⟨t, rfl, ht⟩ hbad
theorem rc_mcommit_down {sc : Nat × (Nat → Int32)} {d : Nat} {H : aH} {fa li cw cl rs pr ve us pi hu tp : Int32} {ba bo : Nat} {t : Nat} (hm : H[195]? = some (kO 12 (mfs fa li 1 cw cl tp rs pr ve us pi hu ba bo))) (ht : t < 8) : RC sc (d + 1) mr_295 [.ref 196, .int (nI t)] H (.inl (some (.int 0))) (H.set 195 (kO 12 (mfs 2 li 1 cw cl tp rs pr ve us pi hu ba bo))) 0 0 := by
  refine RP.blk 2 (pc' := 2) (lv' := [(0, .ref 196), (1, .int (nI t))]) (st' := [.int 0, .ref 196]) (H' := _) (kc' := 0) (ks' := 0) rfl ?_
  refine RP.put (ci := 12) rfl hm rfl rfl (Nat.le_of_ble_eq_true rfl) ?_
  refine RP.blk 3 (pc' := 9) (lv' := [(0, .ref 196), (1, .int (nI t))]) (st' := [.int 8, .int (nI t), .ref 196]) (H' := _) (kc' := 0) (ks' := 0) rfl ?_
  refine RP.call (v := some (.int 0)) (st' := []) rfl rfl rfl rfl rfl rfl (args_v [.int 8, .int (nI t)] [] rfl rfl (Nat.le_of_ble_eq_true rfl) rfl (get_set hm) (Nat.le_of_ble_eq_true rfl)) (rc_out (v := t) (m := 8) ht (by decide)) ?_
  refine RP.brT rfl rfl rfl (by decide) ?_
  refine RP.blk 1 (pc' := 22) (lv' := [(0, .ref 196), (1, .int (nI t))]) (st' := [.ref 196]) (H' := _) (kc' := 0) (ks' := 0) rfl ?_
  refine RP.get (ci := 12) rfl (get_set hm) rfl rfl ?_
  refine RP.brF rfl rfl rfl (by decide) ?_
  refine RP.blk 2 (pc' := 30) (lv' := [(0, .ref 196), (1, .int (nI t))]) (st' := [.int 2, .ref 196]) (H' := _) (kc' := 0) (ks' := 0) rfl ?_
  refine RP.call (v := some (.int 0)) (st' := []) rfl rfl rfl rfl rfl rfl (args_v [.int 2] [] rfl rfl (Nat.le_of_ble_eq_true rfl) rfl (get_set hm) (Nat.le_of_ble_eq_true rfl)) (rc_mfail (get_set hm) rfl) ?_
  rw [set_set]
  exact RP.done (c := 0) (s := 0) rfl rfl rfl rfl
theorem rc_mcommit_closed {sc : Nat × (Nat → Int32)} {d : Nat} {H : aH} {fa li cw cl rs pr ve us pi hu tp : Int32} {ba bo : Nat} {t : Nat} {op : Nat → Bool} (hm : H[195]? = some (kO 12 (mfs fa li 0 cw cl tp rs pr ve us pi hu ba bo))) (ht : t < 8) (h205 : H[205]? = some (kZ 8 op)) (hop : op t = false) : RC sc (d + 1) mr_295 [.ref 196, .int (nI t)] H (.inl (some (.int 0))) (H.set 195 (kO 12 (mfs 3 li 0 cw cl tp rs pr ve us pi hu ba bo))) 0 0 := by
  refine RP.blk 2 (pc' := 2) (lv' := [(0, .ref 196), (1, .int (nI t))]) (st' := [.int 0, .ref 196]) (H' := _) (kc' := 0) (ks' := 0) rfl ?_
  refine RP.put (ci := 12) rfl hm rfl rfl (Nat.le_of_ble_eq_true rfl) ?_
  refine RP.blk 3 (pc' := 9) (lv' := [(0, .ref 196), (1, .int (nI t))]) (st' := [.int 8, .int (nI t), .ref 196]) (H' := _) (kc' := 0) (ks' := 0) rfl ?_
  refine RP.call (v := some (.int 0)) (st' := []) rfl rfl rfl rfl rfl rfl (args_v [.int 8, .int (nI t)] [] rfl rfl (Nat.le_of_ble_eq_true rfl) rfl (get_set hm) (Nat.le_of_ble_eq_true rfl)) (rc_out (v := t) (m := 8) ht (by decide)) ?_
  refine RP.brT rfl rfl rfl (by decide) ?_
  refine RP.blk 1 (pc' := 22) (lv' := [(0, .ref 196), (1, .int (nI t))]) (st' := [.ref 196]) (H' := _) (kc' := 0) (ks' := 0) rfl ?_
  refine RP.get (ci := 12) rfl (get_set hm) rfl rfl ?_
  refine RP.brT rfl rfl rfl (by decide) ?_
  refine RP.blk 1 (pc' := 35) (lv' := [(0, .ref 196), (1, .int (nI t))]) (st' := [.ref 196]) (H' := _) (kc' := 0) (ks' := 0) rfl ?_
  refine RP.get (ci := 12) rfl (get_set hm) rfl rfl ?_
  refine RP.blk 1 (pc' := 39) (lv' := [(0, .ref 196), (1, .int (nI t))]) (st' := [.int (nI t), .ref 206]) (H' := _) (kc' := 0) (ks' := 0) rfl ?_
  refine RP.zaldN (j := t) rfl ((set_far (by decide)).trans h205) (by omega) (by decide) ?_
  refine RP.brF rfl rfl rfl (z_neF hop) ?_
  refine RP.blk 2 (pc' := 45) (lv' := [(0, .ref 196), (1, .int (nI t))]) (st' := [.int 3, .ref 196]) (H' := _) (kc' := 0) (ks' := 0) rfl ?_
  refine RP.call (v := some (.int 0)) (st' := []) rfl rfl rfl rfl rfl rfl (args_v [.int 3] [] rfl rfl (Nat.le_of_ble_eq_true rfl) rfl (get_set hm) (Nat.le_of_ble_eq_true rfl)) (rc_mfail (get_set hm) rfl) ?_
  rw [set_set]
  exact RP.done (c := 0) (s := 0) rfl rfl rfl rfl
theorem rc_abort_bad {sc : Nat × (Nat → Int32)} {d : Nat} {H : aH} {bl pr cw cl cp cb : Int32} {up x : Int32} (h0 : H[0]? = some (kO 11 (fvs bl pr up cw cl cp cb))) (hbad : ¬ (∃ t, x = nI t ∧ t < 8)) : RC sc (d + 2) mr_164 [.ref 1, .int x] H (.inr 0) H 1 6 := by
  refine RP.blk 2 (pc' := 2) (lv' := [(0, .ref 1), (1, .int x)]) (st' := [.int x, .ref 1]) (H' := _) (kc' := 0) (ks' := 0) rfl ?_
  rcases pk_ix x (n := 8) (by decide) with hx | hx | ⟨t, ht, rfl⟩
  ·
    exact RP.callP (st' := []) rfl rfl rfl rfl rfl rfl (args_v [.int x] [] rfl rfl (Nat.le_of_ble_eq_true rfl) rfl h0 (Nat.le_of_ble_eq_true rfl)) (rc_reqTxX h0 (Or.inl hx)) rfl
  ·
    exact RP.callP (st' := []) rfl rfl rfl rfl rfl rfl (args_v [.int x] [] rfl rfl (Nat.le_of_ble_eq_true rfl) rfl h0 (Nat.le_of_ble_eq_true rfl)) (rc_reqTxX h0 (Or.inr (not7 hx))) rfl
  · exact absurd ⟨t, rfl, ht⟩ hbad
theorem rc_abort_down {sc : Nat × (Nat → Int32)} {d : Nat} {H : aH} {bl pr cw cl cp cb : Int32} {t : Nat} (h0 : H[0]? = some (kO 11 (fvs bl pr 0 cw cl cp cb))) (ht : t < 8) : RC sc (d + 2) mr_164 [.ref 1, .int (nI t)] H (.inr 1) H 1 6 := by
  refine RP.blk 2 (pc' := 2) (lv' := [(0, .ref 1), (1, .int (nI t))]) (st' := [.int (nI t), .ref 1]) (H' := _) (kc' := 0) (ks' := 0) rfl ?_
  refine RP.call (v := none) (st' := []) rfl rfl rfl rfl rfl rfl (args_v [.int (nI t)] [] rfl rfl (Nat.le_of_ble_eq_true rfl) rfl h0 (Nat.le_of_ble_eq_true rfl)) (rc_reqTx h0 ht) ?_
  refine RP.blk 1 (pc' := 6) (lv' := [(0, .ref 1), (1, .int (nI t))]) (st' := [.ref 1]) (H' := _) (kc' := 0) (ks' := 0) rfl ?_
  exact RP.callP (st' := []) rfl rfl rfl rfl rfl rfl (args_v [] [] rfl rfl (Nat.le_of_ble_eq_true rfl) rfl h0 (Nat.le_of_ble_eq_true rfl)) (rc_down h0 rfl) rfl
theorem rc_abort_closed {sc : Nat × (Nat → Int32)} {d : Nat} {H : aH} {bl pr cw cl cp cb : Int32} {t : Nat} {op : Nat → Bool} {mo : Nat → Nat} (h0 : H[0]? = some (kO 11 (fvs bl pr 1 cw cl cp cb))) (ht : t < 8) (hs : SightAt H op mo) (hop : op t = false) : RC sc (d + 2) mr_164 [.ref 1, .int (nI t)] H (.inr 3) H 1 6 := by
  refine RP.blk 2 (pc' := 2) (lv' := [(0, .ref 1), (1, .int (nI t))]) (st' := [.int (nI t), .ref 1]) (H' := _) (kc' := 0) (ks' := 0) rfl ?_
  refine RP.call (v := none) (st' := []) rfl rfl rfl rfl rfl rfl (args_v [.int (nI t)] [] rfl rfl (Nat.le_of_ble_eq_true rfl) rfl h0 (Nat.le_of_ble_eq_true rfl)) (rc_reqTx h0 ht) ?_
  refine RP.blk 1 (pc' := 6) (lv' := [(0, .ref 1), (1, .int (nI t))]) (st' := [.ref 1]) (H' := _) (kc' := 0) (ks' := 0) rfl ?_
  refine RP.call (v := none) (st' := []) rfl rfl rfl rfl rfl rfl (args_v [] [] rfl rfl (Nat.le_of_ble_eq_true rfl) rfl h0 (Nat.le_of_ble_eq_true rfl)) (rc_up h0 rfl) ?_
  refine RP.blk 2 (pc' := 11) (lv' := [(0, .ref 1), (1, .int (nI t))]) (st' := [.int (nI t), .ref 1]) (H' := _) (kc' := 0) (ks' := 0) rfl ?_
  exact RP.callP (st' := []) rfl rfl rfl rfl rfl rfl (args_v [.int (nI t)] [] rfl rfl (Nat.le_of_ble_eq_true rfl) rfl h0 (Nat.le_of_ble_eq_true rfl)) (rc_reqOpenX h0 hs ht hop) rfl
theorem rc_mabort_bad {sc : Nat × (Nat → Int32)} {d : Nat} {H : aH} {fa li cw cl rs pr ve us pi hu tp : Int32} {ba bo : Nat} {dn x : Int32} (hm : H[195]? = some (kO 12 (mfs fa li dn cw cl tp rs pr ve us pi hu ba bo))) (hbad : ¬ (∃ t, x = nI t ∧ t < 8)) : RC sc (d + 1) mr_299 [.ref 196, .int x] H (.inl (some (.int 0))) (H.set 195 (kO 12 (mfs 1 li dn cw cl tp rs pr ve us pi hu ba bo))) 0 0 := by
  refine RP.blk 2 (pc' := 2) (lv' := [(0, .ref 196), (1, .int x)]) (st' := [.int 0, .ref 196]) (H' := _) (kc' := 0) (ks' := 0) rfl ?_
  refine RP.put (ci := 12) rfl hm rfl rfl (Nat.le_of_ble_eq_true rfl) ?_
  refine RP.blk 3 (pc' := 9) (lv' := [(0, .ref 196), (1, .int x)]) (st' := [.int 8, .int x, .ref 196]) (H' := _) (kc' := 0) (ks' := 0) rfl ?_
  rcases pk_ix x (n := 8) (by decide) with hx | hx | ⟨t, ht, rfl⟩
  ·
    refine RP.call (v := some (.int 1)) (st' := []) rfl rfl rfl rfl rfl rfl (args_v [.int 8, .int x] [] rfl rfl (Nat.le_of_ble_eq_true rfl) rfl (get_set hm) (Nat.le_of_ble_eq_true rfl)) (rc_outX (m := 8) (Or.inl hx)) ?_
    refine RP.brF rfl rfl rfl (by decide) ?_
    refine RP.blk 2 (pc' := 17) (lv' := [(0, .ref 196), (1, .int x)]) (st' := [.int 1, .ref 196]) (H' := _) (kc' := 0) (ks' := 0) rfl ?_
    refine RP.call (v := some (.int 0)) (st' := []) rfl rfl rfl rfl rfl rfl (args_v [.int 1] [] rfl rfl (Nat.le_of_ble_eq_true rfl) rfl (get_set hm) (Nat.le_of_ble_eq_true rfl)) (rc_mfail (get_set hm) rfl) ?_
    rw [set_set]
    exact RP.done (c := 0) (s := 0) rfl rfl rfl rfl
  ·
    refine RP.call (v := some (.int 1)) (st' := []) rfl rfl rfl rfl rfl rfl (args_v [.int 8, .int x] [] rfl rfl (Nat.le_of_ble_eq_true rfl) rfl (get_set hm) (Nat.le_of_ble_eq_true rfl)) (rc_outX (m := 8) (Or.inr (Int32.not_lt.mpr hx))) ?_
    refine RP.brF rfl rfl rfl (by decide) ?_
    refine RP.blk 2 (pc' := 17) (lv' := [(0, .ref 196), (1, .int x)]) (st' := [.int 1, .ref 196]) (H' := _) (kc' := 0) (ks' := 0) rfl ?_
    refine RP.call (v := some (.int 0)) (st' := []) rfl rfl rfl rfl rfl rfl (args_v [.int 1] [] rfl rfl (Nat.le_of_ble_eq_true rfl) rfl (get_set hm) (Nat.le_of_ble_eq_true rfl)) (rc_mfail (get_set hm) rfl) ?_
    rw [set_set]
    exact RP.done (c := 0) (s := 0) rfl rfl rfl rfl
  · exact absurd ⟨t, rfl, ht⟩ hbad
theorem rc_mabort_down {sc : Nat × (Nat → Int32)} {d : Nat} {H : aH} {fa li cw cl rs pr ve us pi hu tp : Int32} {ba bo : Nat} {t : Nat} (hm : H[195]? = some (kO 12 (mfs fa li 1 cw cl tp rs pr ve us pi hu ba bo))) (ht : t < 8) : RC sc (d + 1) mr_299 [.ref 196, .int (nI t)] H (.inl (some (.int 0))) (H.set 195 (kO 12 (mfs 2 li 1 cw cl tp rs pr ve us pi hu ba bo))) 0 0 := by
  refine RP.blk 2 (pc' := 2) (lv' := [(0, .ref 196), (1, .int (nI t))]) (st' := [.int 0, .ref 196]) (H' := _) (kc' := 0) (ks' := 0) rfl ?_
  refine RP.put (ci := 12) rfl hm rfl rfl (Nat.le_of_ble_eq_true rfl) ?_
  refine RP.blk 3 (pc' := 9) (lv' := [(0, .ref 196), (1, .int (nI t))]) (st' := [.int 8, .int (nI t), .ref 196]) (H' := _) (kc' := 0) (ks' := 0) rfl ?_
  refine RP.call (v := some (.int 0)) (st' := []) rfl rfl rfl rfl rfl rfl (args_v [.int 8, .int (nI t)] [] rfl rfl (Nat.le_of_ble_eq_true rfl) rfl (get_set hm) (Nat.le_of_ble_eq_true rfl)) (rc_out (v := t) (m := 8) ht (by decide)) ?_
  refine RP.brT rfl rfl rfl (by decide) ?_
  refine RP.blk 1 (pc' := 22) (lv' := [(0, .ref 196), (1, .int (nI t))]) (st' := [.ref 196]) (H' := _) (kc' := 0) (ks' := 0) rfl ?_
  refine RP.get (ci := 12) rfl (get_set hm) rfl rfl ?_
  refine RP.brF rfl rfl rfl (by decide) ?_
  refine RP.blk 2 (pc' := 30) (lv' := [(0, .ref 196), (1, .int (nI t))]) (st' := [.int 2, .ref 196]) (H' := _) (kc' := 0) (ks' := 0) rfl ?_
  refine RP.call (v := some (.int 0)) (st' := []) rfl rfl rfl rfl rfl rfl (args_v [.int 2] [] rfl rfl (Nat.le_of_ble_eq_true rfl) rfl (get_set hm) (Nat.le_of_ble_eq_true rfl)) (rc_mfail (get_set hm) rfl) ?_
  rw [set_set]
  exact RP.done (c := 0) (s := 0) rfl rfl rfl rfl
theorem rc_mabort_closed {sc : Nat × (Nat → Int32)} {d : Nat} {H : aH} {fa li cw cl rs pr ve us pi hu tp : Int32} {ba bo : Nat} {t : Nat} {op : Nat → Bool} (hm : H[195]? = some (kO 12 (mfs fa li 0 cw cl tp rs pr ve us pi hu ba bo))) (ht : t < 8) (h205 : H[205]? = some (kZ 8 op)) (hop : op t = false) : RC sc (d + 1) mr_299 [.ref 196, .int (nI t)] H (.inl (some (.int 0))) (H.set 195 (kO 12 (mfs 3 li 0 cw cl tp rs pr ve us pi hu ba bo))) 0 0 := by
  refine RP.blk 2 (pc' := 2) (lv' := [(0, .ref 196), (1, .int (nI t))]) (st' := [.int 0, .ref 196]) (H' := _) (kc' := 0) (ks' := 0) rfl ?_
  refine RP.put (ci := 12) rfl hm rfl rfl (Nat.le_of_ble_eq_true rfl) ?_
  refine RP.blk 3 (pc' := 9) (lv' := [(0, .ref 196), (1, .int (nI t))]) (st' := [.int 8, .int (nI t), .ref 196]) (H' := _) (kc' := 0) (ks' := 0) rfl ?_
  refine RP.call (v := some (.int 0)) (st' := []) rfl rfl rfl rfl rfl rfl (args_v [.int 8, .int (nI t)] [] rfl rfl (Nat.le_of_ble_eq_true rfl) rfl (get_set hm) (Nat.le_of_ble_eq_true rfl)) (rc_out (v := t) (m := 8) ht (by decide)) ?_
  refine RP.brT rfl rfl rfl (by decide) ?_
  refine RP.blk 1 (pc' := 22) (lv' := [(0, .ref 196), (1, .int (nI t))]) (st' := [.ref 196]) (H' := _) (kc' := 0) (ks' := 0) rfl ?_
  refine RP.get (ci := 12) rfl (get_set hm) rfl rfl ?_
  refine RP.brT rfl rfl rfl (by decide) ?_
  refine RP.blk 1 (pc' := 35) (lv' := [(0, .ref 196), (1, .int (nI t))]) (st' := [.ref 196]) (H' := _) (kc' := 0) (ks' := 0) rfl ?_
  refine RP.get (ci := 12) rfl (get_set hm) rfl rfl ?_
  refine RP.blk 1 (pc' := 39) (lv' := [(0, .ref 196), (1, .int (nI t))]) (st' := [.int (nI t), .ref 206]) (H' := _) (kc' := 0) (ks' := 0) rfl ?_
  refine RP.zaldN (j := t) rfl ((set_far (by decide)).trans h205) (by omega) (by decide) ?_
  refine RP.brF rfl rfl rfl (z_neF hop) ?_
  refine RP.blk 2 (pc' := 45) (lv' := [(0, .ref 196), (1, .int (nI t))]) (st' := [.int 3, .ref 196]) (H' := _) (kc' := 0) (ks' := 0) rfl ?_
  refine RP.call (v := some (.int 0)) (st' := []) rfl rfl rfl rfl rfl rfl (args_v [.int 3] [] rfl rfl (Nat.le_of_ble_eq_true rfl) rfl (get_set hm) (Nat.le_of_ble_eq_true rfl)) (rc_mfail (get_set hm) rfl) ?_
  rw [set_set]
  exact RP.done (c := 0) (s := 0) rfl rfl rfl rfl
theorem step_get_bad {L i l : Nat} {xs : Nat → Int32} {kc ks : Nat} {H : aH} {Q : tO × aH × Nat × Nat → Prop} {bl pr cw cl cp cb fa li mcw mcl rs mpr ve us pi hu : Int32} {ba bo : Nat} {up dn : Int32} (hL : L < 2 ^ 30) (h : i + 6 ≤ L) (h0 : H[0]? = some (kO 11 (fvs bl pr up cw cl cp cb))) (h1 : H[1]? = some (kO 5 [.ref 3, .int (nI l)])) (hm : H[195]? = some (kO 12 (mfs fa li dn mcw mcl (nI l) rs mpr ve us pi hu ba bo))) (hl : l ≤ 2000) (hbad : ¬ ((∃ t, xs (i + 1) = nI t ∧ t < 8) ∧ 1 ≤ l ∧ l ≤ 40))
    (k : RQ (L, xs) 2000 mr_law 33 [(4, .int (nI (i + 6))), (3, .ref 225), (2, .ref 196), (1, .ref 1), (0, .ref 0)] [] (H.set 195 (kO 12 (mfs 1 li dn mcw mcl (nI l) rs mpr ve us pi hu ba bo))) (kc + 1) (ks + 6) Q) :
    RQ (L, xs) 2000 mr_law 572 [(4, .int (nI i)), (3, .ref 225), (2, .ref 196), (1, .ref 1), (0, .ref 0)] [] H kc ks Q := by
  have hm1 : (H : aH)[195]? = _ := hm
  refine RQ.of (fun r kk => law_op6 (c1 := 1) (s1 := 6) (c2 := 0) (s2 := 0) (kk := 1) (v := 0) (H1 := H) (H2 := (H.set 195 (kO 12 (mfs 1 li dn mcw mcl (nI l) rs mpr ve us pi hu ba bo)))) hL h (by exact rc_w6X0 h0 (rc_get_bad h0 h1 hl hbad)) hm1 (by exact rc_mget_bad hm hl hbad) kk) ?_
  exact RQ.of (fun r kk => tailX_6 (get_set hm1) rfl (by decide) kk) k
theorem step_get_down {L i l : Nat} {xs : Nat → Int32} {kc ks : Nat} {H : aH} {Q : tO × aH × Nat × Nat → Prop} {bl pr cw cl cp cb fa li mcw mcl rs mpr ve us pi hu : Int32} {ba bo : Nat} {t : Nat} (hL : L < 2 ^ 30) (h : i + 6 ≤ L) (h0 : H[0]? = some (kO 11 (fvs bl pr 0 cw cl cp cb))) (h1 : H[1]? = some (kO 5 [.ref 3, .int (nI l)])) (hm : H[195]? = some (kO 12 (mfs fa li 1 mcw mcl (nI l) rs mpr ve us pi hu ba bo))) (e1 : xs (i + 1) = nI t) (ht : t < 8) (hl1 : 1 ≤ l) (hl2 : l ≤ 40)
    (k : RQ (L, xs) 2000 mr_law 33 [(4, .int (nI (i + 6))), (3, .ref 225), (2, .ref 196), (1, .ref 1), (0, .ref 0)] [] (H.set 195 (kO 12 (mfs 2 li 1 mcw mcl (nI l) rs mpr ve us pi hu ba bo))) (kc + 1) (ks + 6) Q) :
    RQ (L, xs) 2000 mr_law 572 [(4, .int (nI i)), (3, .ref 225), (2, .ref 196), (1, .ref 1), (0, .ref 0)] [] H kc ks Q := by
  have hm1 : (H : aH)[195]? = _ := hm
  refine RQ.of (fun r kk => law_op6 (c1 := 1) (s1 := 6) (c2 := 0) (s2 := 0) (kk := 2) (v := 0) (H1 := H) (H2 := (H.set 195 (kO 12 (mfs 2 li 1 mcw mcl (nI l) rs mpr ve us pi hu ba bo)))) hL h (by rw [e1]; exact rc_w6X1 h0 (rc_get_down h0 h1 ht hl1 hl2)) hm1 (by rw [e1]; exact rc_mget_down hm ht hl1 hl2) kk) ?_
  exact RQ.of (fun r kk => tailX_6 (get_set hm1) rfl (by decide) kk) k
theorem step_get_closed {L i l : Nat} {xs : Nat → Int32} {kc ks : Nat} {H : aH} {Q : tO × aH × Nat × Nat → Prop} {bl pr cw cl cp cb fa li mcw mcl rs mpr ve us pi hu : Int32} {ba bo : Nat} {t : Nat} {op : Nat → Bool} {mo : Nat → Nat} (hL : L < 2 ^ 30) (h : i + 6 ≤ L) (h0 : H[0]? = some (kO 11 (fvs bl pr 1 cw cl cp cb))) (h1 : H[1]? = some (kO 5 [.ref 3, .int (nI l)])) (hm : H[195]? = some (kO 12 (mfs fa li 0 mcw mcl (nI l) rs mpr ve us pi hu ba bo))) (e1 : xs (i + 1) = nI t) (ht : t < 8) (hl1 : 1 ≤ l) (hl2 : l ≤ 40) (hs : SightAt H op mo) (h205 : H[205]? = some (kZ 8 op)) (hop : op t = false)
    (k : RQ (L, xs) 2000 mr_law 33 [(4, .int (nI (i + 6))), (3, .ref 225), (2, .ref 196), (1, .ref 1), (0, .ref 0)] [] ((H.set 1 (kO 5 [.ref 3, .int (nI 0)])).set 195 (kO 12 (mfs 3 li 0 mcw mcl 0 rs mpr ve us pi hu ba bo))) (kc + 1) (ks + 6) Q) :
    RQ (L, xs) 2000 mr_law 572 [(4, .int (nI i)), (3, .ref 225), (2, .ref 196), (1, .ref 1), (0, .ref 0)] [] H kc ks Q := by
  have hm1 : ((H.set 1 (kO 5 [.ref 3, .int (nI 0)])) : aH)[195]? = _ := (set_far (by decide)).trans hm
  refine RQ.of (fun r kk => law_op6 (c1 := 1) (s1 := 6) (c2 := 0) (s2 := 0) (kk := 3) (v := 0) (H1 := (H.set 1 (kO 5 [.ref 3, .int (nI 0)]))) (H2 := ((H.set 1 (kO 5 [.ref 3, .int (nI 0)])).set 195 (kO 12 (mfs 3 li 0 mcw mcl 0 rs mpr ve us pi hu ba bo)))) hL h (by rw [e1]; exact rc_w6X3 h0 (rc_get_closed h0 h1 ht hl1 hl2 hs hop)) hm1 (by rw [e1]; exact rc_mget_closed hm1 ht hl1 hl2 ((set_far (by decide)).trans h205) hop) kk) ?_
  exact RQ.of (fun r kk => tailX_6 (get_set hm1) rfl (by decide) kk) k
theorem step_seek_bad {L i l : Nat} {xs : Nat → Int32} {kc ks : Nat} {H : aH} {Q : tO × aH × Nat × Nat → Prop} {bl pr cw cl cp cb fa li mcw mcl rs mpr ve us pi hu : Int32} {ba bo : Nat} {up dn : Int32} (hL : L < 2 ^ 30) (h : i + 6 ≤ L) (h0 : H[0]? = some (kO 11 (fvs bl pr up cw cl cp cb))) (h1 : H[1]? = some (kO 5 [.ref 3, .int (nI l)])) (hm : H[195]? = some (kO 12 (mfs fa li dn mcw mcl (nI l) rs mpr ve us pi hu ba bo))) (hl : l ≤ 2000) (hbad : ¬ ((∃ t, xs (i + 1) = nI t ∧ t < 8) ∧ l ≤ 40))
    (k : RQ (L, xs) 2000 mr_law 33 [(4, .int (nI (i + 6))), (3, .ref 225), (2, .ref 196), (1, .ref 1), (0, .ref 0)] [] (H.set 195 (kO 12 (mfs 1 li dn mcw mcl (nI l) rs mpr ve us pi hu ba bo))) (kc + 1) (ks + 6) Q) :
    RQ (L, xs) 2000 mr_law 628 [(4, .int (nI i)), (3, .ref 225), (2, .ref 196), (1, .ref 1), (0, .ref 0)] [] H kc ks Q := by
  have hm1 : (H : aH)[195]? = _ := hm
  refine RQ.of (fun r kk => law_op7 (c1 := 1) (s1 := 6) (c2 := 0) (s2 := 0) (kk := 1) (v := 0) (H1 := H) (H2 := (H.set 195 (kO 12 (mfs 1 li dn mcw mcl (nI l) rs mpr ve us pi hu ba bo)))) hL h (by exact rc_w7X0 h0 (rc_seek_bad h0 h1 hl hbad)) hm1 (by exact rc_mseek_bad hm hl hbad) kk) ?_
  exact RQ.of (fun r kk => tailX_7 (get_set hm1) rfl (by decide) kk) k
theorem step_seek_down {L i l : Nat} {xs : Nat → Int32} {kc ks : Nat} {H : aH} {Q : tO × aH × Nat × Nat → Prop} {bl pr cw cl cp cb fa li mcw mcl rs mpr ve us pi hu : Int32} {ba bo : Nat} {t : Nat} (hL : L < 2 ^ 30) (h : i + 6 ≤ L) (h0 : H[0]? = some (kO 11 (fvs bl pr 0 cw cl cp cb))) (h1 : H[1]? = some (kO 5 [.ref 3, .int (nI l)])) (hm : H[195]? = some (kO 12 (mfs fa li 1 mcw mcl (nI l) rs mpr ve us pi hu ba bo))) (e1 : xs (i + 1) = nI t) (ht : t < 8) (hl2 : l ≤ 40)
    (k : RQ (L, xs) 2000 mr_law 33 [(4, .int (nI (i + 6))), (3, .ref 225), (2, .ref 196), (1, .ref 1), (0, .ref 0)] [] (H.set 195 (kO 12 (mfs 2 li 1 mcw mcl (nI l) rs mpr ve us pi hu ba bo))) (kc + 1) (ks + 6) Q) :
    RQ (L, xs) 2000 mr_law 628 [(4, .int (nI i)), (3, .ref 225), (2, .ref 196), (1, .ref 1), (0, .ref 0)] [] H kc ks Q := by
  have hm1 : (H : aH)[195]? = _ := hm
  refine RQ.of (fun r kk => law_op7 (c1 := 1) (s1 := 6) (c2 := 0) (s2 := 0) (kk := 2) (v := 0) (H1 := H) (H2 := (H.set 195 (kO 12 (mfs 2 li 1 mcw mcl (nI l) rs mpr ve us pi hu ba bo)))) hL h (by rw [e1]; exact rc_w7X1 h0 (rc_seek_down h0 h1 ht hl2)) hm1 (by rw [e1]; exact rc_mseek_down hm ht hl2) kk) ?_
  exact RQ.of (fun r kk => tailX_7 (get_set hm1) rfl (by decide) kk) k
theorem step_seek_closed {L i l : Nat} {xs : Nat → Int32} {kc ks : Nat} {H : aH} {Q : tO × aH × Nat × Nat → Prop} {bl pr cw cl cp cb fa li mcw mcl rs mpr ve us pi hu : Int32} {ba bo : Nat} {t : Nat} {op : Nat → Bool} {mo : Nat → Nat} (hL : L < 2 ^ 30) (h : i + 6 ≤ L) (h0 : H[0]? = some (kO 11 (fvs bl pr 1 cw cl cp cb))) (h1 : H[1]? = some (kO 5 [.ref 3, .int (nI l)])) (hm : H[195]? = some (kO 12 (mfs fa li 0 mcw mcl (nI l) rs mpr ve us pi hu ba bo))) (e1 : xs (i + 1) = nI t) (ht : t < 8) (hl2 : l ≤ 40) (hs : SightAt H op mo) (h205 : H[205]? = some (kZ 8 op)) (hop : op t = false)
    (k : RQ (L, xs) 2000 mr_law 33 [(4, .int (nI (i + 6))), (3, .ref 225), (2, .ref 196), (1, .ref 1), (0, .ref 0)] [] ((H.set 1 (kO 5 [.ref 3, .int (nI 0)])).set 195 (kO 12 (mfs 3 li 0 mcw mcl 0 rs mpr ve us pi hu ba bo))) (kc + 1) (ks + 6) Q) :
    RQ (L, xs) 2000 mr_law 628 [(4, .int (nI i)), (3, .ref 225), (2, .ref 196), (1, .ref 1), (0, .ref 0)] [] H kc ks Q := by
  have hm1 : ((H.set 1 (kO 5 [.ref 3, .int (nI 0)])) : aH)[195]? = _ := (set_far (by decide)).trans hm
  refine RQ.of (fun r kk => law_op7 (c1 := 1) (s1 := 6) (c2 := 0) (s2 := 0) (kk := 3) (v := 0) (H1 := (H.set 1 (kO 5 [.ref 3, .int (nI 0)]))) (H2 := ((H.set 1 (kO 5 [.ref 3, .int (nI 0)])).set 195 (kO 12 (mfs 3 li 0 mcw mcl 0 rs mpr ve us pi hu ba bo)))) hL h (by rw [e1]; exact rc_w7X3 h0 (rc_seek_closed h0 h1 ht hl2 hs hop)) hm1 (by rw [e1]; exact rc_mseek_closed hm1 ht hl2 ((set_far (by decide)).trans h205) hop) kk) ?_
  exact RQ.of (fun r kk => tailX_7 (get_set hm1) rfl (by decide) kk) k
theorem step_commit_bad {L i : Nat} {xs : Nat → Int32} {kc ks : Nat} {H : aH} {Q : tO × aH × Nat × Nat → Prop} {bl pr cw cl cp cb fa li mcw mcl rs mpr ve us pi hu tp : Int32} {ba bo : Nat} {up dn : Int32} (hL : L < 2 ^ 30) (h : i + 6 ≤ L) (h0 : H[0]? = some (kO 11 (fvs bl pr up cw cl cp cb))) (hm : H[195]? = some (kO 12 (mfs fa li dn mcw mcl tp rs mpr ve us pi hu ba bo))) (hbad : ¬ (∃ t, xs (i + 1) = nI t ∧ t < 8))
    (k : RQ (L, xs) 2000 mr_law 33 [(4, .int (nI (i + 6))), (3, .ref 225), (2, .ref 196), (1, .ref 1), (0, .ref 0)] [] (H.set 195 (kO 12 (mfs 1 li dn mcw mcl tp rs mpr ve us pi hu ba bo))) (kc + 1) (ks + 6) Q) :
    RQ (L, xs) 2000 mr_law 712 [(4, .int (nI i)), (3, .ref 225), (2, .ref 196), (1, .ref 1), (0, .ref 0)] [] H kc ks Q := by
  have hm1 : (H : aH)[195]? = _ := hm
  refine RQ.of (fun r kk => law_op8 (c1 := 1) (s1 := 6) (c2 := 0) (s2 := 0) (kk := 1) (v := 0) (H1 := H) (H2 := (H.set 195 (kO 12 (mfs 1 li dn mcw mcl tp rs mpr ve us pi hu ba bo)))) hL h (by exact rc_w8X0 h0 (rc_commit_bad h0 hbad)) hm1 (by exact rc_mcommit_bad hm hbad) kk) ?_
  exact RQ.of (fun r kk => tailX_8 (get_set hm1) rfl (by decide) kk) k
theorem step_commit_down {L i : Nat} {xs : Nat → Int32} {kc ks : Nat} {H : aH} {Q : tO × aH × Nat × Nat → Prop} {bl pr cw cl cp cb fa li mcw mcl rs mpr ve us pi hu tp : Int32} {ba bo : Nat} {t : Nat} (hL : L < 2 ^ 30) (h : i + 6 ≤ L) (h0 : H[0]? = some (kO 11 (fvs bl pr 0 cw cl cp cb))) (hm : H[195]? = some (kO 12 (mfs fa li 1 mcw mcl tp rs mpr ve us pi hu ba bo))) (e1 : xs (i + 1) = nI t) (ht : t < 8)
    (k : RQ (L, xs) 2000 mr_law 33 [(4, .int (nI (i + 6))), (3, .ref 225), (2, .ref 196), (1, .ref 1), (0, .ref 0)] [] (H.set 195 (kO 12 (mfs 2 li 1 mcw mcl tp rs mpr ve us pi hu ba bo))) (kc + 1) (ks + 6) Q) :
    RQ (L, xs) 2000 mr_law 712 [(4, .int (nI i)), (3, .ref 225), (2, .ref 196), (1, .ref 1), (0, .ref 0)] [] H kc ks Q := by
  have hm1 : (H : aH)[195]? = _ := hm
  refine RQ.of (fun r kk => law_op8 (c1 := 1) (s1 := 6) (c2 := 0) (s2 := 0) (kk := 2) (v := 0) (H1 := H) (H2 := (H.set 195 (kO 12 (mfs 2 li 1 mcw mcl tp rs mpr ve us pi hu ba bo)))) hL h (by rw [e1]; exact rc_w8X1 h0 (rc_commit_down h0 ht)) hm1 (by rw [e1]; exact rc_mcommit_down hm ht) kk) ?_
  exact RQ.of (fun r kk => tailX_8 (get_set hm1) rfl (by decide) kk) k
theorem step_commit_closed {L i : Nat} {xs : Nat → Int32} {kc ks : Nat} {H : aH} {Q : tO × aH × Nat × Nat → Prop} {bl pr cw cl cp cb fa li mcw mcl rs mpr ve us pi hu tp : Int32} {ba bo : Nat} {t : Nat} {op : Nat → Bool} {mo : Nat → Nat} (hL : L < 2 ^ 30) (h : i + 6 ≤ L) (h0 : H[0]? = some (kO 11 (fvs bl pr 1 cw cl cp cb))) (hm : H[195]? = some (kO 12 (mfs fa li 0 mcw mcl tp rs mpr ve us pi hu ba bo))) (e1 : xs (i + 1) = nI t) (ht : t < 8) (hs : SightAt H op mo) (h205 : H[205]? = some (kZ 8 op)) (hop : op t = false)
    (k : RQ (L, xs) 2000 mr_law 33 [(4, .int (nI (i + 6))), (3, .ref 225), (2, .ref 196), (1, .ref 1), (0, .ref 0)] [] (H.set 195 (kO 12 (mfs 3 li 0 mcw mcl tp rs mpr ve us pi hu ba bo))) (kc + 1) (ks + 6) Q) :
    RQ (L, xs) 2000 mr_law 712 [(4, .int (nI i)), (3, .ref 225), (2, .ref 196), (1, .ref 1), (0, .ref 0)] [] H kc ks Q := by
  have hm1 : (H : aH)[195]? = _ := hm
  refine RQ.of (fun r kk => law_op8 (c1 := 1) (s1 := 6) (c2 := 0) (s2 := 0) (kk := 3) (v := 0) (H1 := H) (H2 := (H.set 195 (kO 12 (mfs 3 li 0 mcw mcl tp rs mpr ve us pi hu ba bo)))) hL h (by rw [e1]; exact rc_w8X3 h0 (rc_commit_closed h0 ht hs hop)) hm1 (by rw [e1]; exact rc_mcommit_closed hm1 ht (h205) hop) kk) ?_
  exact RQ.of (fun r kk => tailX_8 (get_set hm1) rfl (by decide) kk) k
theorem step_abort_bad {L i : Nat} {xs : Nat → Int32} {kc ks : Nat} {H : aH} {Q : tO × aH × Nat × Nat → Prop} {bl pr cw cl cp cb fa li mcw mcl rs mpr ve us pi hu tp : Int32} {ba bo : Nat} {up dn : Int32} (hL : L < 2 ^ 30) (h : i + 6 ≤ L) (h0 : H[0]? = some (kO 11 (fvs bl pr up cw cl cp cb))) (hm : H[195]? = some (kO 12 (mfs fa li dn mcw mcl tp rs mpr ve us pi hu ba bo))) (hbad : ¬ (∃ t, xs (i + 1) = nI t ∧ t < 8))
    (k : RQ (L, xs) 2000 mr_law 33 [(4, .int (nI (i + 6))), (3, .ref 225), (2, .ref 196), (1, .ref 1), (0, .ref 0)] [] (H.set 195 (kO 12 (mfs 1 li dn mcw mcl tp rs mpr ve us pi hu ba bo))) (kc + 1) (ks + 6) Q) :
    RQ (L, xs) 2000 mr_law 768 [(4, .int (nI i)), (3, .ref 225), (2, .ref 196), (1, .ref 1), (0, .ref 0)] [] H kc ks Q := by
  have hm1 : (H : aH)[195]? = _ := hm
  refine RQ.of (fun r kk => law_op9 (c1 := 1) (s1 := 6) (c2 := 0) (s2 := 0) (kk := 1) (v := 0) (H1 := H) (H2 := (H.set 195 (kO 12 (mfs 1 li dn mcw mcl tp rs mpr ve us pi hu ba bo)))) hL h (by exact rc_w9X0 h0 (rc_abort_bad h0 hbad)) hm1 (by exact rc_mabort_bad hm hbad) kk) ?_
  exact RQ.of (fun r kk => tailX_9 (get_set hm1) rfl (by decide) kk) k
theorem step_abort_down {L i : Nat} {xs : Nat → Int32} {kc ks : Nat} {H : aH} {Q : tO × aH × Nat × Nat → Prop} {bl pr cw cl cp cb fa li mcw mcl rs mpr ve us pi hu tp : Int32} {ba bo : Nat} {t : Nat} (hL : L < 2 ^ 30) (h : i + 6 ≤ L) (h0 : H[0]? = some (kO 11 (fvs bl pr 0 cw cl cp cb))) (hm : H[195]? = some (kO 12 (mfs fa li 1 mcw mcl tp rs mpr ve us pi hu ba bo))) (e1 : xs (i + 1) = nI t) (ht : t < 8)
    (k : RQ (L, xs) 2000 mr_law 33 [(4, .int (nI (i + 6))), (3, .ref 225), (2, .ref 196), (1, .ref 1), (0, .ref 0)] [] (H.set 195 (kO 12 (mfs 2 li 1 mcw mcl tp rs mpr ve us pi hu ba bo))) (kc + 1) (ks + 6) Q) :
    RQ (L, xs) 2000 mr_law 768 [(4, .int (nI i)), (3, .ref 225), (2, .ref 196), (1, .ref 1), (0, .ref 0)] [] H kc ks Q := by
  have hm1 : (H : aH)[195]? = _ := hm
  refine RQ.of (fun r kk => law_op9 (c1 := 1) (s1 := 6) (c2 := 0) (s2 := 0) (kk := 2) (v := 0) (H1 := H) (H2 := (H.set 195 (kO 12 (mfs 2 li 1 mcw mcl tp rs mpr ve us pi hu ba bo)))) hL h (by rw [e1]; exact rc_w9X1 h0 (rc_abort_down h0 ht)) hm1 (by rw [e1]; exact rc_mabort_down hm ht) kk) ?_
  exact RQ.of (fun r kk => tailX_9 (get_set hm1) rfl (by decide) kk) k
theorem step_abort_closed {L i : Nat} {xs : Nat → Int32} {kc ks : Nat} {H : aH} {Q : tO × aH × Nat × Nat → Prop} {bl pr cw cl cp cb fa li mcw mcl rs mpr ve us pi hu tp : Int32} {ba bo : Nat} {t : Nat} {op : Nat → Bool} {mo : Nat → Nat} (hL : L < 2 ^ 30) (h : i + 6 ≤ L) (h0 : H[0]? = some (kO 11 (fvs bl pr 1 cw cl cp cb))) (hm : H[195]? = some (kO 12 (mfs fa li 0 mcw mcl tp rs mpr ve us pi hu ba bo))) (e1 : xs (i + 1) = nI t) (ht : t < 8) (hs : SightAt H op mo) (h205 : H[205]? = some (kZ 8 op)) (hop : op t = false)
    (k : RQ (L, xs) 2000 mr_law 33 [(4, .int (nI (i + 6))), (3, .ref 225), (2, .ref 196), (1, .ref 1), (0, .ref 0)] [] (H.set 195 (kO 12 (mfs 3 li 0 mcw mcl tp rs mpr ve us pi hu ba bo))) (kc + 1) (ks + 6) Q) :
    RQ (L, xs) 2000 mr_law 768 [(4, .int (nI i)), (3, .ref 225), (2, .ref 196), (1, .ref 1), (0, .ref 0)] [] H kc ks Q := by
  have hm1 : (H : aH)[195]? = _ := hm
  refine RQ.of (fun r kk => law_op9 (c1 := 1) (s1 := 6) (c2 := 0) (s2 := 0) (kk := 3) (v := 0) (H1 := H) (H2 := (H.set 195 (kO 12 (mfs 3 li 0 mcw mcl tp rs mpr ve us pi hu ba bo)))) hL h (by rw [e1]; exact rc_w9X3 h0 (rc_abort_closed h0 ht hs hop)) hm1 (by rw [e1]; exact rc_mabort_closed hm1 ht (h205) hop) kk) ?_
  exact RQ.of (fun r kk => tailX_9 (get_set hm1) rfl (by decide) kk) k
