/-! ===== the reference: a change is entered, case by case; written by wip/gen/enter2.py ===== -/
theorem rc_menter_closed {sc : Nat × (Nat → Int32)} {d t n k : Nat} {op : Nat → Bool} {H : aH} {v : Option Nat} {fa li dn cw cl rs pr ve us pi hu : Int32} {ba bo : Nat} (hm : H[195]? = some (kO 12 (mfs fa li dn cw cl (nI n) rs pr ve us pi hu ba bo))) (ht : t < 8) (h205 : H[205]? = some (kZ 8 op)) (hop : op t = false) : RC sc (d + 1) mr_284 [.ref 196, .int (nI t), .int (nI k), .int (lI v)] H (.inl (some (.int 0))) (H.set 195 (kO 12 (mfs 3 li dn cw cl 0 rs pr ve us pi hu ba bo))) 0 0 := by
  refine RP.blk 1 (pc' := 1) (lv' := [(0, .ref 196), (1, .int (nI t)), (2, .int (nI k)), (3, .int (lI v))]) (st' := [.ref 196]) (H' := _) (kc' := 0) (ks' := 0) rfl ?_
  refine RP.get (ci := 12) rfl hm rfl rfl ?_
  refine RP.blk 3 (pc' := 8) (lv' := [(4, .int (nI n)), (0, .ref 196), (1, .int (nI t)), (2, .int (nI k)), (3, .int (lI v))]) (st' := [.int 0, .ref 196]) (H' := _) (kc' := 0) (ks' := 0) rfl ?_
  refine RP.put (ci := 12) rfl hm rfl rfl (Nat.le_of_ble_eq_true rfl) ?_
  refine RP.blk 1 (pc' := 12) (lv' := [(4, .int (nI n)), (0, .ref 196), (1, .int (nI t)), (2, .int (nI k)), (3, .int (lI v))]) (st' := [.ref 196]) (H' := _) (kc' := 0) (ks' := 0) rfl ?_
  refine RP.get (ci := 12) rfl (get_set hm) rfl rfl ?_
  refine RP.blk 1 (pc' := 16) (lv' := [(4, .int (nI n)), (0, .ref 196), (1, .int (nI t)), (2, .int (nI k)), (3, .int (lI v))]) (st' := [.int (nI t), .ref 206]) (H' := _) (kc' := 0) (ks' := 0) rfl ?_
  refine RP.zaldN (j := t) rfl ((set_far (by decide)).trans h205) (by omega) (by decide) ?_
  refine RP.brF rfl rfl rfl (z_neF hop) ?_
  refine RP.blk 2 (pc' := 22) (lv' := [(4, .int (nI n)), (0, .ref 196), (1, .int (nI t)), (2, .int (nI k)), (3, .int (lI v))]) (st' := [.int 3, .ref 196]) (H' := _) (kc' := 0) (ks' := 0) rfl ?_
  refine RP.call (v := some (.int 0)) (st' := []) rfl rfl rfl rfl rfl rfl (args_v [.int 3] [] rfl rfl (Nat.le_of_ble_eq_true rfl) rfl (get_set hm) (Nat.le_of_ble_eq_true rfl)) (rc_mfail (get_set hm) rfl) ?_
  rw [set_set]
  exact RP.done (c := 0) (s := 0) rfl rfl rfl rfl
theorem rc_menterX_new {sc : Nat × (Nat → Int32)} {d t n k : Nat} {op : Nat → Bool} {H : aH} {ro fi wk wn : Nat → Nat} {wz : Nat → Option Nat} {wb g : Nat → Int8} {v : Option Nat} {fa li dn cw cl rs pr ve us pi hu : Int32} {ba bo : Nat} (hm : H[195]? = some (kO 12 (mfs fa li dn cw cl (nI n) rs pr ve us pi hu ba bo))) (h : MRAt H ro fi wk wn wz wb) (hk : MROk ro fi wk wn wz t) (h205 : H[205]? = some (kZ 8 op)) (h196 : H[196]? = some (kB 2000 g)) (hkn : k ≤ n) (hn : n ≤ 2000) (hop : op t = true) (hx : ∀ q, q < ro t → ¬ sl wb (wk (32 * t + q)) (wn (32 * t + q)) = sl g 0 k) (hc : ro t = 32 ∨ 4000 < fi t - 0 + n) : RC sc (d + 2) mr_284 [.ref 196, .int (nI t), .int (nI k), .int (lI v)] H (.inl (some (.int 0))) (H.set 195 (kO 12 (mfs 4 li dn cw cl 0 rs pr ve us pi hu ba bo))) 0 0 := by
  have hk0 := hk
  obtain ⟨ht, hro, hfi, hrow⟩ := hk
  refine RP.blk 1 (pc' := 1) (lv' := [(0, .ref 196), (1, .int (nI t)), (2, .int (nI k)), (3, .int (lI v))]) (st' := [.ref 196]) (H' := _) (kc' := 0) (ks' := 0) rfl ?_
  refine RP.get (ci := 12) rfl hm rfl rfl ?_
  refine RP.blk 3 (pc' := 8) (lv' := [(4, .int (nI n)), (0, .ref 196), (1, .int (nI t)), (2, .int (nI k)), (3, .int (lI v))]) (st' := [.int 0, .ref 196]) (H' := _) (kc' := 0) (ks' := 0) rfl ?_
  refine RP.put (ci := 12) rfl hm rfl rfl (Nat.le_of_ble_eq_true rfl) ?_
  refine RP.blk 1 (pc' := 12) (lv' := [(4, .int (nI n)), (0, .ref 196), (1, .int (nI t)), (2, .int (nI k)), (3, .int (lI v))]) (st' := [.ref 196]) (H' := _) (kc' := 0) (ks' := 0) rfl ?_
  refine RP.get (ci := 12) rfl (get_set hm) rfl rfl ?_
  refine RP.blk 1 (pc' := 16) (lv' := [(4, .int (nI n)), (0, .ref 196), (1, .int (nI t)), (2, .int (nI k)), (3, .int (lI v))]) (st' := [.int (nI t), .ref 206]) (H' := _) (kc' := 0) (ks' := 0) rfl ?_
  refine RP.zaldN (j := t) rfl ((set_far (by decide)).trans h205) (by omega) (by decide) ?_
  refine RP.brT rfl rfl rfl (z_neT hop) ?_
  refine RP.blk 3 (pc' := 29) (lv' := [(4, .int (nI n)), (0, .ref 196), (1, .int (nI t)), (2, .int (nI k)), (3, .int (lI v))]) (st' := [.ref 196, .int (nI t), .ref 196]) (H' := _) (kc' := 0) (ks' := 0) rfl ?_
  refine RP.get (ci := 12) rfl (get_set hm) rfl rfl ?_
  refine RP.blk 2 (pc' := 34) (lv' := [(4, .int (nI n)), (0, .ref 196), (1, .int (nI t)), (2, .int (nI k)), (3, .int (lI v))]) (st' := [.int (nI k), .int 0, .ref 197, .int (nI t), .ref 196]) (H' := _) (kc' := 0) (ks' := 0) rfl ?_
  have hm1 : (H.set 195 (kO 12 (mfs fa li dn cw cl 0 rs pr ve us pi hu ba bo)))[195]? = _ := get_set hm
  have hR1 : MRAt (H.set 195 (kO 12 (mfs fa li dn cw cl 0 rs pr ve us pi hu ba bo))) ro fi wk wn wz wb := ⟨(set_far (by decide)).trans h.1, (set_far (by decide)).trans h.2.1, (set_far (by decide)).trans h.2.2.1, (set_far (by decide)).trans h.2.2.2.1, (set_far (by decide)).trans h.2.2.2.2.1, (set_far (by decide)).trans h.2.2.2.2.2⟩
  have h196b : (H.set 195 (kO 12 (mfs fa li dn cw cl 0 rs pr ve us pi hu ba bo)))[196]? = some (kB 2000 g) := (set_far (by decide)).trans h196
  refine RP.call (v := some (.int (-1))) (st' := []) rfl rfl rfl rfl rfl rfl (args_v [.int (nI k), .int 0, .ref 197, .int (nI t)] [] rfl rfl (Nat.le_of_ble_eq_true rfl) rfl (get_set hm) (Nat.le_of_ble_eq_true rfl)) (rc_mrowOf_none (j := 0) hm1 hR1 hk0 h196b (by decide) (by omega) hx) ?_
  refine RP.blk 2 (pc' := 40) (lv' := [(5, .int (-1)), (4, .int (nI n)), (0, .ref 196), (1, .int (nI t)), (2, .int (nI k)), (3, .int (lI v))]) (st' := [.ref 196]) (H' := _) (kc' := 0) (ks' := 0) rfl ?_
  refine RP.get (ci := 12) rfl (get_set hm) rfl rfl ?_
  refine RP.blk 1 (pc' := 44) (lv' := [(5, .int (-1)), (4, .int (nI n)), (0, .ref 196), (1, .int (nI t)), (2, .int (nI k)), (3, .int (lI v))]) (st' := [.int (nI t), .ref 209]) (H' := _) (kc' := 0) (ks' := 0) rfl ?_
  refine RP.ialdN (j := t) rfl ((set_far (by decide)).trans h.2.1) (by omega) (by decide) ?_
  refine RP.blk 1 (pc' := 47) (lv' := [(5, .int (-1)), (4, .int (nI n)), (0, .ref 196), (1, .int (nI t)), (2, .int (nI k)), (3, .int (lI v))]) (st' := [.int (-1), .int (nI (fi t))]) (H' := _) (kc' := 0) (ks' := 0) rfl ?_
  refine RP.brF rfl rfl rfl (by decide) ?_
  refine RP.blk 3 (pc' := 61) (lv' := [(5, .int (-1)), (4, .int (nI n)), (0, .ref 196), (1, .int (nI t)), (2, .int (nI k)), (3, .int (lI v))]) (st' := [.int (nI (fi t) - 0)]) (H' := _) (kc' := 0) (ks' := 0) rfl ?_
  rw [show (nI (fi t) - 0 : Int32) = nI ((fi t) - 0) from pk_sub (a := (fi t)) (b := 0) (by omega)]
  refine RP.blk 2 (pc' := 65) (lv' := [(6, .int (nI ((fi t) - 0))), (5, .int (-1)), (4, .int (nI n)), (0, .ref 196), (1, .int (nI t)), (2, .int (nI k)), (3, .int (lI v))]) (st' := [.int (-1)]) (H' := _) (kc' := 0) (ks' := 0) rfl ?_
  refine RP.brF rfl rfl rfl (by decide) ?_
  refine RP.blk 1 (pc' := 69) (lv' := [(6, .int (nI ((fi t) - 0))), (5, .int (-1)), (4, .int (nI n)), (0, .ref 196), (1, .int (nI t)), (2, .int (nI k)), (3, .int (lI v))]) (st' := [.ref 196]) (H' := _) (kc' := 0) (ks' := 0) rfl ?_
  refine RP.get (ci := 12) rfl (get_set hm) rfl rfl ?_
  refine RP.blk 1 (pc' := 73) (lv' := [(6, .int (nI ((fi t) - 0))), (5, .int (-1)), (4, .int (nI n)), (0, .ref 196), (1, .int (nI t)), (2, .int (nI k)), (3, .int (lI v))]) (st' := [.int (nI t), .ref 208]) (H' := _) (kc' := 0) (ks' := 0) rfl ?_
  refine RP.ialdN (j := t) rfl ((set_far (by decide)).trans h.1) (by omega) (by decide) ?_
  refine RP.blk 1 (pc' := 76) (lv' := [(6, .int (nI ((fi t) - 0))), (5, .int (-1)), (4, .int (nI n)), (0, .ref 196), (1, .int (nI t)), (2, .int (nI k)), (3, .int (lI v))]) (st' := [.int 32, .int (nI (ro t))]) (H' := _) (kc' := 0) (ks' := 0) rfl ?_
  by_cases h32 : ro t = 32
  ·
    refine RP.brT rfl rfl rfl (cT_eq (ro t) 32) ?_
    refine RP.blk 2 (pc' := 92) (lv' := [(6, .int (nI ((fi t) - 0))), (5, .int (-1)), (4, .int (nI n)), (0, .ref 196), (1, .int (nI t)), (2, .int (nI k)), (3, .int (lI v))]) (st' := [.int 4, .ref 196]) (H' := _) (kc' := 0) (ks' := 0) rfl ?_
    refine RP.call (v := some (.int 0)) (st' := []) rfl rfl rfl rfl rfl rfl (args_v [.int 4] [] rfl rfl (Nat.le_of_ble_eq_true rfl) rfl (get_set hm) (Nat.le_of_ble_eq_true rfl)) (rc_mfail (get_set hm) rfl) ?_
    rw [set_set]
    exact RP.done (c := 0) (s := 0) rfl rfl rfl rfl
  ·
    refine RP.brF rfl rfl rfl (cF_eq (ro t) 32) ?_
    refine RP.blk 3 (pc' := 84) (lv' := [(6, .int (nI ((fi t) - 0))), (5, .int (-1)), (4, .int (nI n)), (0, .ref 196), (1, .int (nI t)), (2, .int (nI k)), (3, .int (lI v))]) (st' := [.int (nI ((fi t) - 0) + nI n)]) (H' := _) (kc' := 0) (ks' := 0) rfl ?_
    rw [show (nI ((fi t) - 0) + nI n : Int32) = nI ((fi t) - 0 + n) from nI_add ((fi t) - 0) n]
    refine RP.blk 1 (pc' := 87) (lv' := [(6, .int (nI ((fi t) - 0))), (5, .int (-1)), (4, .int (nI n)), (0, .ref 196), (1, .int (nI t)), (2, .int (nI k)), (3, .int (lI v))]) (st' := [.int 4000, .int (nI ((fi t) - 0 + n))]) (H' := _) (kc' := 0) (ks' := 0) rfl ?_
    refine RP.brF rfl rfl rfl (cF_le (fi t - 0 + n) 4000) ?_
    refine RP.blk 2 (pc' := 92) (lv' := [(6, .int (nI ((fi t) - 0))), (5, .int (-1)), (4, .int (nI n)), (0, .ref 196), (1, .int (nI t)), (2, .int (nI k)), (3, .int (lI v))]) (st' := [.int 4, .ref 196]) (H' := _) (kc' := 0) (ks' := 0) rfl ?_
    refine RP.call (v := some (.int 0)) (st' := []) rfl rfl rfl rfl rfl rfl (args_v [.int 4] [] rfl rfl (Nat.le_of_ble_eq_true rfl) rfl (get_set hm) (Nat.le_of_ble_eq_true rfl)) (rc_mfail (get_set hm) rfl) ?_
    rw [set_set]
    exact RP.done (c := 0) (s := 0) rfl rfl rfl rfl
theorem rc_menterX_old {sc : Nat × (Nat → Int32)} {d t n k : Nat} {op : Nat → Bool} {H : aH} {ro fi wk wn : Nat → Nat} {wz : Nat → Option Nat} {wb g : Nat → Int8} {v : Option Nat} {fa li dn cw cl rs pr ve us pi hu : Int32} {ba bo : Nat} {i : Nat} (hm : H[195]? = some (kO 12 (mfs fa li dn cw cl (nI n) rs pr ve us pi hu ba bo))) (h : MRAt H ro fi wk wn wz wb) (hk : MROk ro fi wk wn wz t) (h205 : H[205]? = some (kZ 8 op)) (h196 : H[196]? = some (kB 2000 g)) (hkn : k ≤ n) (hn : n ≤ 2000) (hop : op t = true) (hi : i < ro t) (he : sl wb (wk (32 * t + i)) (wn (32 * t + i)) = sl g 0 k) (hx : ∀ q, q < i → ¬ sl wb (wk (32 * t + q)) (wn (32 * t + q)) = sl g 0 k) (hc : 4000 < fi t - (wn (32 * t + i) + (wz (32 * t + i)).getD 0) + n) : RC sc (d + 2) mr_284 [.ref 196, .int (nI t), .int (nI k), .int (lI v)] H (.inl (some (.int 0))) (H.set 195 (kO 12 (mfs 4 li dn cw cl 0 rs pr ve us pi hu ba bo))) 0 0 := by
  have hk0 := hk
  obtain ⟨ht, hro, hfi, hrow⟩ := hk
  refine RP.blk 1 (pc' := 1) (lv' := [(0, .ref 196), (1, .int (nI t)), (2, .int (nI k)), (3, .int (lI v))]) (st' := [.ref 196]) (H' := _) (kc' := 0) (ks' := 0) rfl ?_
  refine RP.get (ci := 12) rfl hm rfl rfl ?_
  refine RP.blk 3 (pc' := 8) (lv' := [(4, .int (nI n)), (0, .ref 196), (1, .int (nI t)), (2, .int (nI k)), (3, .int (lI v))]) (st' := [.int 0, .ref 196]) (H' := _) (kc' := 0) (ks' := 0) rfl ?_
  refine RP.put (ci := 12) rfl hm rfl rfl (Nat.le_of_ble_eq_true rfl) ?_
  refine RP.blk 1 (pc' := 12) (lv' := [(4, .int (nI n)), (0, .ref 196), (1, .int (nI t)), (2, .int (nI k)), (3, .int (lI v))]) (st' := [.ref 196]) (H' := _) (kc' := 0) (ks' := 0) rfl ?_
  refine RP.get (ci := 12) rfl (get_set hm) rfl rfl ?_
  refine RP.blk 1 (pc' := 16) (lv' := [(4, .int (nI n)), (0, .ref 196), (1, .int (nI t)), (2, .int (nI k)), (3, .int (lI v))]) (st' := [.int (nI t), .ref 206]) (H' := _) (kc' := 0) (ks' := 0) rfl ?_
  refine RP.zaldN (j := t) rfl ((set_far (by decide)).trans h205) (by omega) (by decide) ?_
  refine RP.brT rfl rfl rfl (z_neT hop) ?_
  refine RP.blk 3 (pc' := 29) (lv' := [(4, .int (nI n)), (0, .ref 196), (1, .int (nI t)), (2, .int (nI k)), (3, .int (lI v))]) (st' := [.ref 196, .int (nI t), .ref 196]) (H' := _) (kc' := 0) (ks' := 0) rfl ?_
  refine RP.get (ci := 12) rfl (get_set hm) rfl rfl ?_
  refine RP.blk 2 (pc' := 34) (lv' := [(4, .int (nI n)), (0, .ref 196), (1, .int (nI t)), (2, .int (nI k)), (3, .int (lI v))]) (st' := [.int (nI k), .int 0, .ref 197, .int (nI t), .ref 196]) (H' := _) (kc' := 0) (ks' := 0) rfl ?_
  have hm1 : (H.set 195 (kO 12 (mfs fa li dn cw cl 0 rs pr ve us pi hu ba bo)))[195]? = _ := get_set hm
  have hR1 : MRAt (H.set 195 (kO 12 (mfs fa li dn cw cl 0 rs pr ve us pi hu ba bo))) ro fi wk wn wz wb := ⟨(set_far (by decide)).trans h.1, (set_far (by decide)).trans h.2.1, (set_far (by decide)).trans h.2.2.1, (set_far (by decide)).trans h.2.2.2.1, (set_far (by decide)).trans h.2.2.2.2.1, (set_far (by decide)).trans h.2.2.2.2.2⟩
  have h196b : (H.set 195 (kO 12 (mfs fa li dn cw cl 0 rs pr ve us pi hu ba bo)))[196]? = some (kB 2000 g) := (set_far (by decide)).trans h196
  refine RP.call (v := some (.int (nI (32 * t + i)))) (st' := []) rfl rfl rfl rfl rfl rfl (args_v [.int (nI k), .int 0, .ref 197, .int (nI t)] [] rfl rfl (Nat.le_of_ble_eq_true rfl) rfl (get_set hm) (Nat.le_of_ble_eq_true rfl)) (rc_mrowOf_some (j := 0) hm1 hR1 hk0 h196b (by decide) (by omega) hi he hx) ?_
  have hri := hrow i hi
  refine RP.blk 2 (pc' := 40) (lv' := [(5, .int (nI (32 * t + i))), (4, .int (nI n)), (0, .ref 196), (1, .int (nI t)), (2, .int (nI k)), (3, .int (lI v))]) (st' := [.ref 196]) (H' := _) (kc' := 0) (ks' := 0) rfl ?_
  refine RP.get (ci := 12) rfl (get_set hm) rfl rfl ?_
  refine RP.blk 1 (pc' := 44) (lv' := [(5, .int (nI (32 * t + i))), (4, .int (nI n)), (0, .ref 196), (1, .int (nI t)), (2, .int (nI k)), (3, .int (lI v))]) (st' := [.int (nI t), .ref 209]) (H' := _) (kc' := 0) (ks' := 0) rfl ?_
  refine RP.ialdN (j := t) rfl ((set_far (by decide)).trans h.2.1) (by omega) (by decide) ?_
  refine RP.blk 1 (pc' := 47) (lv' := [(5, .int (nI (32 * t + i))), (4, .int (nI n)), (0, .ref 196), (1, .int (nI t)), (2, .int (nI k)), (3, .int (lI v))]) (st' := [.int (nI (32 * t + i)), .int (nI (fi t))]) (H' := _) (kc' := 0) (ks' := 0) rfl ?_
  refine RP.brT rfl rfl rfl (cT_ge (32 * t + i) 0) ?_
  refine RP.blk 2 (pc' := 57) (lv' := [(5, .int (nI (32 * t + i))), (4, .int (nI n)), (0, .ref 196), (1, .int (nI t)), (2, .int (nI k)), (3, .int (lI v))]) (st' := [.int (nI (32 * t + i)), .ref 196, .int (nI (fi t))]) (H' := _) (kc' := 0) (ks' := 0) rfl ?_
  refine RP.call (v := some (.int (nI (wn (32 * t + i) + (wz (32 * t + i)).getD 0)))) (st' := [.int (nI (fi t))]) rfl rfl rfl rfl rfl rfl (args_v [.int (nI (32 * t + i))] [.int (nI (fi t))] rfl rfl (Nat.le_of_ble_eq_true rfl) rfl (get_set hm) (Nat.le_of_ble_eq_true rfl)) (rc_mrowBytes hm1 hR1 (by omega) (by omega)) ?_
  refine RP.blk 1 (pc' := 61) (lv' := [(5, .int (nI (32 * t + i))), (4, .int (nI n)), (0, .ref 196), (1, .int (nI t)), (2, .int (nI k)), (3, .int (lI v))]) (st' := [.int (nI (fi t) - nI (wn (32 * t + i) + (wz (32 * t + i)).getD 0))]) (H' := _) (kc' := 0) (ks' := 0) rfl ?_
  rw [show (nI (fi t) - nI (wn (32 * t + i) + (wz (32 * t + i)).getD 0) : Int32) = nI ((fi t) - (wn (32 * t + i) + (wz (32 * t + i)).getD 0)) from pk_sub (a := (fi t)) (b := (wn (32 * t + i) + (wz (32 * t + i)).getD 0)) (by omega)]
  refine RP.blk 2 (pc' := 65) (lv' := [(6, .int (nI ((fi t) - (wn (32 * t + i) + (wz (32 * t + i)).getD 0)))), (5, .int (nI (32 * t + i))), (4, .int (nI n)), (0, .ref 196), (1, .int (nI t)), (2, .int (nI k)), (3, .int (lI v))]) (st' := [.int (nI (32 * t + i))]) (H' := _) (kc' := 0) (ks' := 0) rfl ?_
  refine RP.brT rfl rfl rfl (cT_ge (32 * t + i) 0) ?_
  refine RP.blk 3 (pc' := 84) (lv' := [(6, .int (nI ((fi t) - (wn (32 * t + i) + (wz (32 * t + i)).getD 0)))), (5, .int (nI (32 * t + i))), (4, .int (nI n)), (0, .ref 196), (1, .int (nI t)), (2, .int (nI k)), (3, .int (lI v))]) (st' := [.int (nI ((fi t) - (wn (32 * t + i) + (wz (32 * t + i)).getD 0)) + nI n)]) (H' := _) (kc' := 0) (ks' := 0) rfl ?_
  rw [show (nI ((fi t) - (wn (32 * t + i) + (wz (32 * t + i)).getD 0)) + nI n : Int32) = nI ((fi t) - (wn (32 * t + i) + (wz (32 * t + i)).getD 0) + n) from nI_add ((fi t) - (wn (32 * t + i) + (wz (32 * t + i)).getD 0)) n]
  refine RP.blk 1 (pc' := 87) (lv' := [(6, .int (nI ((fi t) - (wn (32 * t + i) + (wz (32 * t + i)).getD 0)))), (5, .int (nI (32 * t + i))), (4, .int (nI n)), (0, .ref 196), (1, .int (nI t)), (2, .int (nI k)), (3, .int (lI v))]) (st' := [.int 4000, .int (nI ((fi t) - (wn (32 * t + i) + (wz (32 * t + i)).getD 0) + n))]) (H' := _) (kc' := 0) (ks' := 0) rfl ?_
  refine RP.brF rfl rfl rfl (cF_le (fi t - (wn (32 * t + i) + (wz (32 * t + i)).getD 0) + n) 4000) ?_
  refine RP.blk 2 (pc' := 92) (lv' := [(6, .int (nI ((fi t) - (wn (32 * t + i) + (wz (32 * t + i)).getD 0)))), (5, .int (nI (32 * t + i))), (4, .int (nI n)), (0, .ref 196), (1, .int (nI t)), (2, .int (nI k)), (3, .int (lI v))]) (st' := [.int 4, .ref 196]) (H' := _) (kc' := 0) (ks' := 0) rfl ?_
  refine RP.call (v := some (.int 0)) (st' := []) rfl rfl rfl rfl rfl rfl (args_v [.int 4] [] rfl rfl (Nat.le_of_ble_eq_true rfl) rfl (get_set hm) (Nat.le_of_ble_eq_true rfl)) (rc_mfail (get_set hm) rfl) ?_
  rw [set_set]
  exact RP.done (c := 0) (s := 0) rfl rfl rfl rfl
theorem ri_menter_new {sc : Nat × (Nat → Int32)} {d t n k : Nat} {op : Nat → Bool} {H : aH} {ro fi wk wn : Nat → Nat} {wz : Nat → Option Nat} {wb g : Nat → Int8} {v : Option Nat} {fa li dn cw cl rs pr ve us pi hu : Int32} {ba bo : Nat} (hm : H[195]? = some (kO 12 (mfs fa li dn cw cl (nI n) rs pr ve us pi hu ba bo))) (h : MRAt H ro fi wk wn wz wb) (hk : MROk ro fi wk wn wz t) (h205 : H[205]? = some (kZ 8 op)) (h196 : H[196]? = some (kB 2000 g)) (hkn : k ≤ n) (hn : n ≤ 2000) (hop : op t = true) (hx : ∀ q, q < ro t → ¬ sl wb (wk (32 * t + q)) (wn (32 * t + q)) = sl g 0 k) (hc1 : ro t < 32) (hc : fi t - 0 + n ≤ 4000) : RI sc (d + 2) mr_284 [.ref 196, .int (nI t), .int (nI k), .int (lI v)] H (fun x H' => x = nI (ro t + 1) ∧ MRAt H' (va_up ro t (ro t + 1)) (va_up fi t (fi t + n)) (va_up wk (32 * t + ro t) (4000 * t + fi t)) (va_up wn (32 * t + ro t) k) (va_up wz (32 * t + ro t) v) (cpy g 0 wb (4000 * t + fi t) n) ∧ H'[195]? = some (kO 12 (mfs fa li dn cw cl 0 rs pr ve us pi hu ba bo)) ∧ ∀ a, ¬ (207 ≤ a ∧ a < 213) → a ≠ 195 → H'[a]? = H[a]?) := by
  refine RI.of ?_
  have hk0 := hk
  obtain ⟨ht, hro, hfi, hrow⟩ := hk
  refine RQ.blk 1 (pc' := 1) (lv' := [(0, .ref 196), (1, .int (nI t)), (2, .int (nI k)), (3, .int (lI v))]) (st' := [.ref 196]) (H' := _) (kc' := 0) (ks' := 0) rfl ?_
  refine RQ.get (ci := 12) rfl hm rfl rfl ?_
  refine RQ.blk 3 (pc' := 8) (lv' := [(4, .int (nI n)), (0, .ref 196), (1, .int (nI t)), (2, .int (nI k)), (3, .int (lI v))]) (st' := [.int 0, .ref 196]) (H' := _) (kc' := 0) (ks' := 0) rfl ?_
  refine RQ.put (ci := 12) rfl hm rfl rfl (Nat.le_of_ble_eq_true rfl) ?_
  refine RQ.blk 1 (pc' := 12) (lv' := [(4, .int (nI n)), (0, .ref 196), (1, .int (nI t)), (2, .int (nI k)), (3, .int (lI v))]) (st' := [.ref 196]) (H' := _) (kc' := 0) (ks' := 0) rfl ?_
  refine RQ.get (ci := 12) rfl (get_set hm) rfl rfl ?_
  refine RQ.blk 1 (pc' := 16) (lv' := [(4, .int (nI n)), (0, .ref 196), (1, .int (nI t)), (2, .int (nI k)), (3, .int (lI v))]) (st' := [.int (nI t), .ref 206]) (H' := _) (kc' := 0) (ks' := 0) rfl ?_
  refine RQ.zaldN (j := t) rfl ((set_far (by decide)).trans h205) (by omega) (by decide) ?_
  refine RQ.brT rfl rfl rfl (z_neT hop) ?_
  refine RQ.blk 3 (pc' := 29) (lv' := [(4, .int (nI n)), (0, .ref 196), (1, .int (nI t)), (2, .int (nI k)), (3, .int (lI v))]) (st' := [.ref 196, .int (nI t), .ref 196]) (H' := _) (kc' := 0) (ks' := 0) rfl ?_
  refine RQ.get (ci := 12) rfl (get_set hm) rfl rfl ?_
  refine RQ.blk 2 (pc' := 34) (lv' := [(4, .int (nI n)), (0, .ref 196), (1, .int (nI t)), (2, .int (nI k)), (3, .int (lI v))]) (st' := [.int (nI k), .int 0, .ref 197, .int (nI t), .ref 196]) (H' := _) (kc' := 0) (ks' := 0) rfl ?_
  have hm1 : (H.set 195 (kO 12 (mfs fa li dn cw cl 0 rs pr ve us pi hu ba bo)))[195]? = _ := get_set hm
  have hR1 : MRAt (H.set 195 (kO 12 (mfs fa li dn cw cl 0 rs pr ve us pi hu ba bo))) ro fi wk wn wz wb := ⟨(set_far (by decide)).trans h.1, (set_far (by decide)).trans h.2.1, (set_far (by decide)).trans h.2.2.1, (set_far (by decide)).trans h.2.2.2.1, (set_far (by decide)).trans h.2.2.2.2.1, (set_far (by decide)).trans h.2.2.2.2.2⟩
  have h196b : (H.set 195 (kO 12 (mfs fa li dn cw cl 0 rs pr ve us pi hu ba bo)))[196]? = some (kB 2000 g) := (set_far (by decide)).trans h196
  refine RQ.call (v := some (.int (-1))) (st' := []) rfl rfl rfl rfl rfl rfl (args_v [.int (nI k), .int 0, .ref 197, .int (nI t)] [] rfl rfl (Nat.le_of_ble_eq_true rfl) rfl (get_set hm) (Nat.le_of_ble_eq_true rfl)) (rc_mrowOf_none (j := 0) hm1 hR1 hk0 h196b (by decide) (by omega) hx) ?_
  refine RQ.blk 2 (pc' := 40) (lv' := [(5, .int (-1)), (4, .int (nI n)), (0, .ref 196), (1, .int (nI t)), (2, .int (nI k)), (3, .int (lI v))]) (st' := [.ref 196]) (H' := _) (kc' := 0) (ks' := 0) rfl ?_
  refine RQ.get (ci := 12) rfl (get_set hm) rfl rfl ?_
  refine RQ.blk 1 (pc' := 44) (lv' := [(5, .int (-1)), (4, .int (nI n)), (0, .ref 196), (1, .int (nI t)), (2, .int (nI k)), (3, .int (lI v))]) (st' := [.int (nI t), .ref 209]) (H' := _) (kc' := 0) (ks' := 0) rfl ?_
  refine RQ.ialdN (j := t) rfl ((set_far (by decide)).trans h.2.1) (by omega) (by decide) ?_
  refine RQ.blk 1 (pc' := 47) (lv' := [(5, .int (-1)), (4, .int (nI n)), (0, .ref 196), (1, .int (nI t)), (2, .int (nI k)), (3, .int (lI v))]) (st' := [.int (-1), .int (nI (fi t))]) (H' := _) (kc' := 0) (ks' := 0) rfl ?_
  refine RQ.brF rfl rfl rfl (by decide) ?_
  refine RQ.blk 3 (pc' := 61) (lv' := [(5, .int (-1)), (4, .int (nI n)), (0, .ref 196), (1, .int (nI t)), (2, .int (nI k)), (3, .int (lI v))]) (st' := [.int (nI (fi t) - 0)]) (H' := _) (kc' := 0) (ks' := 0) rfl ?_
  rw [show (nI (fi t) - 0 : Int32) = nI ((fi t) - 0) from pk_sub (a := (fi t)) (b := 0) (by omega)]
  refine RQ.blk 2 (pc' := 65) (lv' := [(6, .int (nI ((fi t) - 0))), (5, .int (-1)), (4, .int (nI n)), (0, .ref 196), (1, .int (nI t)), (2, .int (nI k)), (3, .int (lI v))]) (st' := [.int (-1)]) (H' := _) (kc' := 0) (ks' := 0) rfl ?_
  refine RQ.brF rfl rfl rfl (by decide) ?_
  refine RQ.blk 1 (pc' := 69) (lv' := [(6, .int (nI ((fi t) - 0))), (5, .int (-1)), (4, .int (nI n)), (0, .ref 196), (1, .int (nI t)), (2, .int (nI k)), (3, .int (lI v))]) (st' := [.ref 196]) (H' := _) (kc' := 0) (ks' := 0) rfl ?_
  refine RQ.get (ci := 12) rfl (get_set hm) rfl rfl ?_
  refine RQ.blk 1 (pc' := 73) (lv' := [(6, .int (nI ((fi t) - 0))), (5, .int (-1)), (4, .int (nI n)), (0, .ref 196), (1, .int (nI t)), (2, .int (nI k)), (3, .int (lI v))]) (st' := [.int (nI t), .ref 208]) (H' := _) (kc' := 0) (ks' := 0) rfl ?_
  refine RQ.ialdN (j := t) rfl ((set_far (by decide)).trans h.1) (by omega) (by decide) ?_
  refine RQ.blk 1 (pc' := 76) (lv' := [(6, .int (nI ((fi t) - 0))), (5, .int (-1)), (4, .int (nI n)), (0, .ref 196), (1, .int (nI t)), (2, .int (nI k)), (3, .int (lI v))]) (st' := [.int 32, .int (nI (ro t))]) (H' := _) (kc' := 0) (ks' := 0) rfl ?_
  refine RQ.brF rfl rfl rfl (cF_eq (ro t) 32) ?_
  refine RQ.blk 3 (pc' := 84) (lv' := [(6, .int (nI ((fi t) - 0))), (5, .int (-1)), (4, .int (nI n)), (0, .ref 196), (1, .int (nI t)), (2, .int (nI k)), (3, .int (lI v))]) (st' := [.int (nI ((fi t) - 0) + nI n)]) (H' := _) (kc' := 0) (ks' := 0) rfl ?_
  rw [show (nI ((fi t) - 0) + nI n : Int32) = nI ((fi t) - 0 + n) from nI_add ((fi t) - 0) n]
  refine RQ.blk 1 (pc' := 87) (lv' := [(6, .int (nI ((fi t) - 0))), (5, .int (-1)), (4, .int (nI n)), (0, .ref 196), (1, .int (nI t)), (2, .int (nI k)), (3, .int (lI v))]) (st' := [.int 4000, .int (nI ((fi t) - 0 + n))]) (H' := _) (kc' := 0) (ks' := 0) rfl ?_
  refine RQ.brT rfl rfl rfl (cT_le (fi t - 0 + n) 4000) ?_
  refine RQ.blk 1 (pc' := 98) (lv' := [(6, .int (nI ((fi t) - 0))), (5, .int (-1)), (4, .int (nI n)), (0, .ref 196), (1, .int (nI t)), (2, .int (nI k)), (3, .int (lI v))]) (st' := [.int (-1)]) (H' := _) (kc' := 0) (ks' := 0) rfl ?_
  refine RQ.brT rfl rfl rfl (by decide) ?_
  obtain ⟨r, k1, x, H', k2, k3, k4, k5⟩ := rq_menter (sc := sc) (d := d + 2) (k := k) (v := v) (x5 := -1) (x6 := nI (fi t - 0)) hm1 hR1 h196b ht hc1 (by omega) hn
  exact ⟨r, k1, x, H', k2, k3, k4, (k5 195 (by omega)).trans hm1, fun a ha h9 => (k5 a ha).trans (set_far h9)⟩
theorem ri_menter_old {sc : Nat × (Nat → Int32)} {d t n k : Nat} {op : Nat → Bool} {H : aH} {ro fi wk wn : Nat → Nat} {wz : Nat → Option Nat} {wb g : Nat → Int8} {v : Option Nat} {fa li dn cw cl rs pr ve us pi hu : Int32} {ba bo : Nat} {i : Nat} (hm : H[195]? = some (kO 12 (mfs fa li dn cw cl (nI n) rs pr ve us pi hu ba bo))) (h : MRAt H ro fi wk wn wz wb) (hk : MROk ro fi wk wn wz t) (h205 : H[205]? = some (kZ 8 op)) (h196 : H[196]? = some (kB 2000 g)) (hkn : k ≤ n) (hn : n ≤ 2000) (hop : op t = true) (hi : i < ro t) (he : sl wb (wk (32 * t + i)) (wn (32 * t + i)) = sl g 0 k) (hx : ∀ q, q < i → ¬ sl wb (wk (32 * t + q)) (wn (32 * t + q)) = sl g 0 k) (hS : ∀ j, i < j → j < ro t → (wn (32 * t + i) + (wz (32 * t + i)).getD 0) ≤ wk (32 * t + j)) (hc : fi t - (wn (32 * t + i) + (wz (32 * t + i)).getD 0) + n ≤ 4000) : RI sc (d + 2) mr_284 [.ref 196, .int (nI t), .int (nI k), .int (lI v)] H (fun x H' => x = nI (ro t - 1 + 1) ∧ MRAt H' (va_up (va_up ro t (ro t - 1)) t (ro t - 1 + 1)) (va_up (va_up fi t (fi t - (wn (32 * t + i) + (wz (32 * t + i)).getD 0))) t (fi t - (wn (32 * t + i) + (wz (32 * t + i)).getD 0) + n)) (va_up (shF wk (fun z => z - (wn (32 * t + i) + (wz (32 * t + i)).getD 0)) (32 * t + i) (32 * t + (ro t - 1))) (32 * t + (ro t - 1)) (4000 * t + (fi t - (wn (32 * t + i) + (wz (32 * t + i)).getD 0)))) (va_up (shF wn (fun z => z) (32 * t + i) (32 * t + (ro t - 1))) (32 * t + (ro t - 1)) k) (va_up (shF wz (fun z => z) (32 * t + i) (32 * t + (ro t - 1))) (32 * t + (ro t - 1)) v) (cpy g 0 (shB wb (wn (32 * t + i) + (wz (32 * t + i)).getD 0) (wk (32 * t + i)) (4000 * t + fi t - (wn (32 * t + i) + (wz (32 * t + i)).getD 0))) (4000 * t + (fi t - (wn (32 * t + i) + (wz (32 * t + i)).getD 0))) n) ∧ H'[195]? = some (kO 12 (mfs fa li dn cw cl 0 rs pr ve us pi hu ba bo)) ∧ ∀ a, ¬ (207 ≤ a ∧ a < 213) → a ≠ 195 → H'[a]? = H[a]?) := by
  refine RI.of ?_
  have hk0 := hk
  obtain ⟨ht, hro, hfi, hrow⟩ := hk
  refine RQ.blk 1 (pc' := 1) (lv' := [(0, .ref 196), (1, .int (nI t)), (2, .int (nI k)), (3, .int (lI v))]) (st' := [.ref 196]) (H' := _) (kc' := 0) (ks' := 0) rfl ?_
  refine RQ.get (ci := 12) rfl hm rfl rfl ?_
  refine RQ.blk 3 (pc' := 8) (lv' := [(4, .int (nI n)), (0, .ref 196), (1, .int (nI t)), (2, .int (nI k)), (3, .int (lI v))]) (st' := [.int 0, .ref 196]) (H' := _) (kc' := 0) (ks' := 0) rfl ?_
  refine RQ.put (ci := 12) rfl hm rfl rfl (Nat.le_of_ble_eq_true rfl) ?_
  refine RQ.blk 1 (pc' := 12) (lv' := [(4, .int (nI n)), (0, .ref 196), (1, .int (nI t)), (2, .int (nI k)), (3, .int (lI v))]) (st' := [.ref 196]) (H' := _) (kc' := 0) (ks' := 0) rfl ?_
  refine RQ.get (ci := 12) rfl (get_set hm) rfl rfl ?_
  refine RQ.blk 1 (pc' := 16) (lv' := [(4, .int (nI n)), (0, .ref 196), (1, .int (nI t)), (2, .int (nI k)), (3, .int (lI v))]) (st' := [.int (nI t), .ref 206]) (H' := _) (kc' := 0) (ks' := 0) rfl ?_
  refine RQ.zaldN (j := t) rfl ((set_far (by decide)).trans h205) (by omega) (by decide) ?_
  refine RQ.brT rfl rfl rfl (z_neT hop) ?_
  refine RQ.blk 3 (pc' := 29) (lv' := [(4, .int (nI n)), (0, .ref 196), (1, .int (nI t)), (2, .int (nI k)), (3, .int (lI v))]) (st' := [.ref 196, .int (nI t), .ref 196]) (H' := _) (kc' := 0) (ks' := 0) rfl ?_
  refine RQ.get (ci := 12) rfl (get_set hm) rfl rfl ?_
  refine RQ.blk 2 (pc' := 34) (lv' := [(4, .int (nI n)), (0, .ref 196), (1, .int (nI t)), (2, .int (nI k)), (3, .int (lI v))]) (st' := [.int (nI k), .int 0, .ref 197, .int (nI t), .ref 196]) (H' := _) (kc' := 0) (ks' := 0) rfl ?_
  have hm1 : (H.set 195 (kO 12 (mfs fa li dn cw cl 0 rs pr ve us pi hu ba bo)))[195]? = _ := get_set hm
  have hR1 : MRAt (H.set 195 (kO 12 (mfs fa li dn cw cl 0 rs pr ve us pi hu ba bo))) ro fi wk wn wz wb := ⟨(set_far (by decide)).trans h.1, (set_far (by decide)).trans h.2.1, (set_far (by decide)).trans h.2.2.1, (set_far (by decide)).trans h.2.2.2.1, (set_far (by decide)).trans h.2.2.2.2.1, (set_far (by decide)).trans h.2.2.2.2.2⟩
  have h196b : (H.set 195 (kO 12 (mfs fa li dn cw cl 0 rs pr ve us pi hu ba bo)))[196]? = some (kB 2000 g) := (set_far (by decide)).trans h196
  refine RQ.call (v := some (.int (nI (32 * t + i)))) (st' := []) rfl rfl rfl rfl rfl rfl (args_v [.int (nI k), .int 0, .ref 197, .int (nI t)] [] rfl rfl (Nat.le_of_ble_eq_true rfl) rfl (get_set hm) (Nat.le_of_ble_eq_true rfl)) (rc_mrowOf_some (j := 0) hm1 hR1 hk0 h196b (by decide) (by omega) hi he hx) ?_
  have hri := hrow i hi
  refine RQ.blk 2 (pc' := 40) (lv' := [(5, .int (nI (32 * t + i))), (4, .int (nI n)), (0, .ref 196), (1, .int (nI t)), (2, .int (nI k)), (3, .int (lI v))]) (st' := [.ref 196]) (H' := _) (kc' := 0) (ks' := 0) rfl ?_
  refine RQ.get (ci := 12) rfl (get_set hm) rfl rfl ?_
  refine RQ.blk 1 (pc' := 44) (lv' := [(5, .int (nI (32 * t + i))), (4, .int (nI n)), (0, .ref 196), (1, .int (nI t)), (2, .int (nI k)), (3, .int (lI v))]) (st' := [.int (nI t), .ref 209]) (H' := _) (kc' := 0) (ks' := 0) rfl ?_
  refine RQ.ialdN (j := t) rfl ((set_far (by decide)).trans h.2.1) (by omega) (by decide) ?_
  refine RQ.blk 1 (pc' := 47) (lv' := [(5, .int (nI (32 * t + i))), (4, .int (nI n)), (0, .ref 196), (1, .int (nI t)), (2, .int (nI k)), (3, .int (lI v))]) (st' := [.int (nI (32 * t + i)), .int (nI (fi t))]) (H' := _) (kc' := 0) (ks' := 0) rfl ?_
  refine RQ.brT rfl rfl rfl (cT_ge (32 * t + i) 0) ?_
  refine RQ.blk 2 (pc' := 57) (lv' := [(5, .int (nI (32 * t + i))), (4, .int (nI n)), (0, .ref 196), (1, .int (nI t)), (2, .int (nI k)), (3, .int (lI v))]) (st' := [.int (nI (32 * t + i)), .ref 196, .int (nI (fi t))]) (H' := _) (kc' := 0) (ks' := 0) rfl ?_
  refine RQ.call (v := some (.int (nI (wn (32 * t + i) + (wz (32 * t + i)).getD 0)))) (st' := [.int (nI (fi t))]) rfl rfl rfl rfl rfl rfl (args_v [.int (nI (32 * t + i))] [.int (nI (fi t))] rfl rfl (Nat.le_of_ble_eq_true rfl) rfl (get_set hm) (Nat.le_of_ble_eq_true rfl)) (rc_mrowBytes hm1 hR1 (by omega) (by omega)) ?_
  refine RQ.blk 1 (pc' := 61) (lv' := [(5, .int (nI (32 * t + i))), (4, .int (nI n)), (0, .ref 196), (1, .int (nI t)), (2, .int (nI k)), (3, .int (lI v))]) (st' := [.int (nI (fi t) - nI (wn (32 * t + i) + (wz (32 * t + i)).getD 0))]) (H' := _) (kc' := 0) (ks' := 0) rfl ?_
  rw [show (nI (fi t) - nI (wn (32 * t + i) + (wz (32 * t + i)).getD 0) : Int32) = nI ((fi t) - (wn (32 * t + i) + (wz (32 * t + i)).getD 0)) from pk_sub (a := (fi t)) (b := (wn (32 * t + i) + (wz (32 * t + i)).getD 0)) (by omega)]
  refine RQ.blk 2 (pc' := 65) (lv' := [(6, .int (nI ((fi t) - (wn (32 * t + i) + (wz (32 * t + i)).getD 0)))), (5, .int (nI (32 * t + i))), (4, .int (nI n)), (0, .ref 196), (1, .int (nI t)), (2, .int (nI k)), (3, .int (lI v))]) (st' := [.int (nI (32 * t + i))]) (H' := _) (kc' := 0) (ks' := 0) rfl ?_
  refine RQ.brT rfl rfl rfl (cT_ge (32 * t + i) 0) ?_
  refine RQ.blk 3 (pc' := 84) (lv' := [(6, .int (nI ((fi t) - (wn (32 * t + i) + (wz (32 * t + i)).getD 0)))), (5, .int (nI (32 * t + i))), (4, .int (nI n)), (0, .ref 196), (1, .int (nI t)), (2, .int (nI k)), (3, .int (lI v))]) (st' := [.int (nI ((fi t) - (wn (32 * t + i) + (wz (32 * t + i)).getD 0)) + nI n)]) (H' := _) (kc' := 0) (ks' := 0) rfl ?_
  rw [show (nI ((fi t) - (wn (32 * t + i) + (wz (32 * t + i)).getD 0)) + nI n : Int32) = nI ((fi t) - (wn (32 * t + i) + (wz (32 * t + i)).getD 0) + n) from nI_add ((fi t) - (wn (32 * t + i) + (wz (32 * t + i)).getD 0)) n]
  refine RQ.blk 1 (pc' := 87) (lv' := [(6, .int (nI ((fi t) - (wn (32 * t + i) + (wz (32 * t + i)).getD 0)))), (5, .int (nI (32 * t + i))), (4, .int (nI n)), (0, .ref 196), (1, .int (nI t)), (2, .int (nI k)), (3, .int (lI v))]) (st' := [.int 4000, .int (nI ((fi t) - (wn (32 * t + i) + (wz (32 * t + i)).getD 0) + n))]) (H' := _) (kc' := 0) (ks' := 0) rfl ?_
  refine RQ.brT rfl rfl rfl (cT_le (fi t - (wn (32 * t + i) + (wz (32 * t + i)).getD 0) + n) 4000) ?_
  refine RQ.blk 1 (pc' := 98) (lv' := [(6, .int (nI ((fi t) - (wn (32 * t + i) + (wz (32 * t + i)).getD 0)))), (5, .int (nI (32 * t + i))), (4, .int (nI n)), (0, .ref 196), (1, .int (nI t)), (2, .int (nI k)), (3, .int (lI v))]) (st' := [.int (nI (32 * t + i))]) (H' := _) (kc' := 0) (ks' := 0) rfl ?_
  refine RQ.brF rfl rfl rfl (cF_lt (32 * t + i) 0) ?_
  refine RQ.blk 3 (pc' := 105) (lv' := [(6, .int (nI ((fi t) - (wn (32 * t + i) + (wz (32 * t + i)).getD 0)))), (5, .int (nI (32 * t + i))), (4, .int (nI n)), (0, .ref 196), (1, .int (nI t)), (2, .int (nI k)), (3, .int (lI v))]) (st' := [.int (nI (32 * t + i)), .int (nI t), .ref 196]) (H' := _) (kc' := 0) (ks' := 0) rfl ?_
  refine RQ.callN (st' := []) rfl rfl rfl rfl rfl rfl (args_v [.int (nI (32 * t + i)), .int (nI t)] [] rfl rfl (Nat.le_of_ble_eq_true rfl) rfl (get_set hm) (Nat.le_of_ble_eq_true rfl)) (rn_mtakeOut hm1 hR1 hk0 hi hS) (fun H2 ht2 => ?_)
  obtain ⟨hR2, hs2⟩ := ht2
  have e1 : va_up ro t (ro t - 1) t = ro t - 1 := up_at
  have e2 : va_up fi t (fi t - (wn (32 * t + i) + (wz (32 * t + i)).getD 0)) t = fi t - (wn (32 * t + i) + (wz (32 * t + i)).getD 0) := up_at
  obtain ⟨r, k1, x, H', k2, k3, k4, k5⟩ := rq_menter (sc := sc) (d := d + 2) (k := k) (v := v) (x5 := nI (32 * t + i)) (x6 := nI (fi t - (wn (32 * t + i) + (wz (32 * t + i)).getD 0))) ((hs2 195 (by omega)).trans hm1) hR2 ((hs2 196 (by omega)).trans h196b) ht (by rw [e1]; omega) (by rw [e2]; omega) hn
  rw [e1, e2] at k4
  rw [e1] at k3
  exact ⟨r, k1, x, H', k2, k3, k4, ((k5 195 (by omega)).trans (hs2 195 (by omega))).trans hm1, fun a ha h9 => ((k5 a ha).trans (hs2 a ha)).trans (set_far h9)⟩
