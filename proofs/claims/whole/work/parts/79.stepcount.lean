/-! ===== count and faults as one step of the law; written by wip/gen/stepcount.py ===== -/
theorem rc_faults0 {sc : Nat × (Nat → Int32)} {d : Nat} {H : aH} {bl pr up cw cl cp cb : Int32} {fs : List Value} (h0 : H[0]? = some (kO 11 (fvs bl pr up cw cl cp cb))) (h : H[71]? = some (kO 1 fs)) (hf : fs[4]? = some (.int 0)) : RC sc (d + 1) mr_200 [.ref 1, .int (nI 0)] H (.inl (some (.int 0))) H 0 0 := by
  refine RP.blk 4 (pc' := 4) (lv' := [(0, .ref 1), (1, .int (nI 0))]) (st' := [.int 5, .int 0, .int (nI 0), .ref 1]) (H' := _) (kc' := 0) (ks' := 0) rfl ?_
  refine RP.call (v := none) (st' := []) rfl rfl rfl rfl rfl rfl (args_v [.int 5, .int 0, .int (nI 0)] [] rfl rfl (Nat.le_of_ble_eq_true rfl) rfl h0 (Nat.le_of_ble_eq_true rfl)) (rc_range (lo := 0) (hi := 5) (nI_pos (by decide)) (nI_le (b := 5) (by decide) (by decide))) ?_
  refine RP.blk 1 (pc' := 8) (lv' := [(0, .ref 1), (1, .int (nI 0))]) (st' := [.int (nI 0)]) (H' := _) (kc' := 0) (ks' := 0) rfl ?_
  refine RP.blk 1 (pc' := 44) (lv' := [(0, .ref 1), (1, .int (nI 0))]) (st' := []) (H' := _) (kc' := 0) (ks' := 0) rfl ?_
  refine RP.blk 1 (pc' := 45) (lv' := [(0, .ref 1), (1, .int (nI 0))]) (st' := [.ref 1]) (H' := _) (kc' := 0) (ks' := 0) rfl ?_
  refine RP.get (ci := 11) rfl h0 rfl rfl ?_
  refine RP.get (ci := 1) rfl h rfl hf ?_
  exact RP.done (c := 0) (s := 0) rfl rfl rfl rfl
theorem rc_faults1 {sc : Nat × (Nat → Int32)} {d : Nat} {H : aH} {bl pr up cw cl cp cb : Int32} {fs : List Value} (h0 : H[0]? = some (kO 11 (fvs bl pr up cw cl cp cb))) (h : H[190]? = some (kO 4 fs)) (hf : fs[8]? = some (.int 0)) : RC sc (d + 1) mr_200 [.ref 1, .int (nI 1)] H (.inl (some (.int 0))) H 0 0 := by
  refine RP.blk 4 (pc' := 4) (lv' := [(0, .ref 1), (1, .int (nI 1))]) (st' := [.int 5, .int 0, .int (nI 1), .ref 1]) (H' := _) (kc' := 0) (ks' := 0) rfl ?_
  refine RP.call (v := none) (st' := []) rfl rfl rfl rfl rfl rfl (args_v [.int 5, .int 0, .int (nI 1)] [] rfl rfl (Nat.le_of_ble_eq_true rfl) rfl h0 (Nat.le_of_ble_eq_true rfl)) (rc_range (lo := 0) (hi := 5) (nI_pos (by decide)) (nI_le (b := 5) (by decide) (by decide))) ?_
  refine RP.blk 1 (pc' := 8) (lv' := [(0, .ref 1), (1, .int (nI 1))]) (st' := [.int (nI 1)]) (H' := _) (kc' := 0) (ks' := 0) rfl ?_
  refine RP.blk 1 (pc' := 52) (lv' := [(0, .ref 1), (1, .int (nI 1))]) (st' := []) (H' := _) (kc' := 0) (ks' := 0) rfl ?_
  refine RP.blk 1 (pc' := 53) (lv' := [(0, .ref 1), (1, .int (nI 1))]) (st' := [.ref 1]) (H' := _) (kc' := 0) (ks' := 0) rfl ?_
  refine RP.get (ci := 11) rfl h0 rfl rfl ?_
  refine RP.get (ci := 4) rfl h rfl hf ?_
  exact RP.done (c := 0) (s := 0) rfl rfl rfl rfl
theorem rc_faults2 {sc : Nat × (Nat → Int32)} {d : Nat} {H : aH} {bl pr up cw cl cp cb : Int32} {fs : List Value} (h0 : H[0]? = some (kO 11 (fvs bl pr up cw cl cp cb))) (h : H[190]? = some (kO 4 fs)) (hf : fs[9]? = some (.int 0)) : RC sc (d + 1) mr_200 [.ref 1, .int (nI 2)] H (.inl (some (.int 0))) H 0 0 := by
  refine RP.blk 4 (pc' := 4) (lv' := [(0, .ref 1), (1, .int (nI 2))]) (st' := [.int 5, .int 0, .int (nI 2), .ref 1]) (H' := _) (kc' := 0) (ks' := 0) rfl ?_
  refine RP.call (v := none) (st' := []) rfl rfl rfl rfl rfl rfl (args_v [.int 5, .int 0, .int (nI 2)] [] rfl rfl (Nat.le_of_ble_eq_true rfl) rfl h0 (Nat.le_of_ble_eq_true rfl)) (rc_range (lo := 0) (hi := 5) (nI_pos (by decide)) (nI_le (b := 5) (by decide) (by decide))) ?_
  refine RP.blk 1 (pc' := 8) (lv' := [(0, .ref 1), (1, .int (nI 2))]) (st' := [.int (nI 2)]) (H' := _) (kc' := 0) (ks' := 0) rfl ?_
  refine RP.blk 1 (pc' := 60) (lv' := [(0, .ref 1), (1, .int (nI 2))]) (st' := []) (H' := _) (kc' := 0) (ks' := 0) rfl ?_
  refine RP.blk 1 (pc' := 61) (lv' := [(0, .ref 1), (1, .int (nI 2))]) (st' := [.ref 1]) (H' := _) (kc' := 0) (ks' := 0) rfl ?_
  refine RP.get (ci := 11) rfl h0 rfl rfl ?_
  refine RP.get (ci := 4) rfl h rfl hf ?_
  exact RP.done (c := 0) (s := 0) rfl rfl rfl rfl
theorem rc_faults3 {sc : Nat × (Nat → Int32)} {d : Nat} {H : aH} {bl pr up cw cl cp cb : Int32} {fs : List Value} (h0 : H[0]? = some (kO 11 (fvs bl pr up cw cl cp cb))) (h : H[136]? = some (kO 8 fs)) (hf : fs[9]? = some (.int 0)) : RC sc (d + 1) mr_200 [.ref 1, .int (nI 3)] H (.inl (some (.int 0))) H 0 0 := by
  refine RP.blk 4 (pc' := 4) (lv' := [(0, .ref 1), (1, .int (nI 3))]) (st' := [.int 5, .int 0, .int (nI 3), .ref 1]) (H' := _) (kc' := 0) (ks' := 0) rfl ?_
  refine RP.call (v := none) (st' := []) rfl rfl rfl rfl rfl rfl (args_v [.int 5, .int 0, .int (nI 3)] [] rfl rfl (Nat.le_of_ble_eq_true rfl) rfl h0 (Nat.le_of_ble_eq_true rfl)) (rc_range (lo := 0) (hi := 5) (nI_pos (by decide)) (nI_le (b := 5) (by decide) (by decide))) ?_
  refine RP.blk 1 (pc' := 8) (lv' := [(0, .ref 1), (1, .int (nI 3))]) (st' := [.int (nI 3)]) (H' := _) (kc' := 0) (ks' := 0) rfl ?_
  refine RP.blk 1 (pc' := 68) (lv' := [(0, .ref 1), (1, .int (nI 3))]) (st' := []) (H' := _) (kc' := 0) (ks' := 0) rfl ?_
  refine RP.blk 1 (pc' := 69) (lv' := [(0, .ref 1), (1, .int (nI 3))]) (st' := [.ref 1]) (H' := _) (kc' := 0) (ks' := 0) rfl ?_
  refine RP.get (ci := 11) rfl h0 rfl rfl ?_
  refine RP.get (ci := 8) rfl h rfl hf ?_
  exact RP.done (c := 0) (s := 0) rfl rfl rfl rfl
theorem rc_faults4 {sc : Nat × (Nat → Int32)} {d : Nat} {H : aH} {bl pr up cw cl cp cb : Int32} {fs : List Value} (h0 : H[0]? = some (kO 11 (fvs bl pr up cw cl cp cb))) (h : H[83]? = some (kO 3 fs)) (hf : fs[16]? = some (.int 0)) : RC sc (d + 1) mr_200 [.ref 1, .int (nI 4)] H (.inl (some (.int 0))) H 0 0 := by
  refine RP.blk 4 (pc' := 4) (lv' := [(0, .ref 1), (1, .int (nI 4))]) (st' := [.int 5, .int 0, .int (nI 4), .ref 1]) (H' := _) (kc' := 0) (ks' := 0) rfl ?_
  refine RP.call (v := none) (st' := []) rfl rfl rfl rfl rfl rfl (args_v [.int 5, .int 0, .int (nI 4)] [] rfl rfl (Nat.le_of_ble_eq_true rfl) rfl h0 (Nat.le_of_ble_eq_true rfl)) (rc_range (lo := 0) (hi := 5) (nI_pos (by decide)) (nI_le (b := 5) (by decide) (by decide))) ?_
  refine RP.blk 1 (pc' := 8) (lv' := [(0, .ref 1), (1, .int (nI 4))]) (st' := [.int (nI 4)]) (H' := _) (kc' := 0) (ks' := 0) rfl ?_
  refine RP.blk 1 (pc' := 76) (lv' := [(0, .ref 1), (1, .int (nI 4))]) (st' := []) (H' := _) (kc' := 0) (ks' := 0) rfl ?_
  refine RP.blk 1 (pc' := 77) (lv' := [(0, .ref 1), (1, .int (nI 4))]) (st' := [.ref 1]) (H' := _) (kc' := 0) (ks' := 0) rfl ?_
  refine RP.get (ci := 11) rfl h0 rfl rfl ?_
  refine RP.get (ci := 3) rfl h rfl hf ?_
  exact RP.done (c := 0) (s := 0) rfl rfl rfl rfl
theorem rc_faults5 {sc : Nat × (Nat → Int32)} {d : Nat} {H : aH} {bl pr up cw cl cp cb : Int32} {fs : List Value} (h0 : H[0]? = some (kO 11 (fvs bl pr up cw cl cp cb))) (h : H[83]? = some (kO 3 fs)) (hf : fs[17]? = some (.int 0)) : RC sc (d + 1) mr_200 [.ref 1, .int (nI 5)] H (.inl (some (.int 0))) H 0 0 := by
  refine RP.blk 4 (pc' := 4) (lv' := [(0, .ref 1), (1, .int (nI 5))]) (st' := [.int 5, .int 0, .int (nI 5), .ref 1]) (H' := _) (kc' := 0) (ks' := 0) rfl ?_
  refine RP.call (v := none) (st' := []) rfl rfl rfl rfl rfl rfl (args_v [.int 5, .int 0, .int (nI 5)] [] rfl rfl (Nat.le_of_ble_eq_true rfl) rfl h0 (Nat.le_of_ble_eq_true rfl)) (rc_range (lo := 0) (hi := 5) (nI_pos (by decide)) (nI_le (b := 5) (by decide) (by decide))) ?_
  refine RP.blk 1 (pc' := 8) (lv' := [(0, .ref 1), (1, .int (nI 5))]) (st' := [.int (nI 5)]) (H' := _) (kc' := 0) (ks' := 0) rfl ?_
  refine RP.blk 1 (pc' := 84) (lv' := [(0, .ref 1), (1, .int (nI 5))]) (st' := []) (H' := _) (kc' := 0) (ks' := 0) rfl ?_
  refine RP.blk 1 (pc' := 85) (lv' := [(0, .ref 1), (1, .int (nI 5))]) (st' := [.ref 1]) (H' := _) (kc' := 0) (ks' := 0) rfl ?_
  refine RP.get (ci := 11) rfl h0 rfl rfl ?_
  refine RP.get (ci := 3) rfl h rfl hf ?_
  exact RP.done (c := 0) (s := 0) rfl rfl rfl rfl
theorem rc_faults_bad {sc : Nat × (Nat → Int32)} {x : Int32} {d : Nat} {H : aH} {bl pr up cw cl cp cb : Int32} (h0 : H[0]? = some (kO 11 (fvs bl pr up cw cl cp cb))) (hx : x < 0 ∨ ¬ x ≤ 5) : RC sc (d + 1) mr_200 [.ref 1, .int x] H (.inr 0) H 1 6 := by
  refine RP.blk 4 (pc' := 4) (lv' := [(0, .ref 1), (1, .int x)]) (st' := [.int 5, .int 0, .int x, .ref 1]) (H' := _) (kc' := 0) (ks' := 0) rfl ?_
  exact RP.callP (st' := []) rfl rfl rfl rfl rfl rfl (args_v [.int 5, .int 0, .int x] [] rfl rfl (Nat.le_of_ble_eq_true rfl) rfl h0 (Nat.le_of_ble_eq_true rfl)) (rc_rangeX hx) rfl
theorem rc_mfaults {sc : Nat × (Nat → Int32)} {w : Nat} {d : Nat} {H : aH} {fa li dn cw cl tp rs pr ve us pi hu : Int32} {ba bo : Nat} (hm : H[195]? = some (kO 12 (mfs fa li dn cw cl tp rs pr ve us pi hu ba bo))) (hw : w < 6) : RC sc (d + 1) mr_281 [.ref 196, .int (nI w)] H (.inl (some (.int 0))) (H.set 195 (kO 12 (mfs 0 li dn cw cl tp rs pr ve us pi hu ba bo))) 0 0 := by
  refine RP.blk 2 (pc' := 2) (lv' := [(0, .ref 196), (1, .int (nI w))]) (st' := [.int 0, .ref 196]) (H' := _) (kc' := 0) (ks' := 0) rfl ?_
  refine RP.put (ci := 12) rfl hm rfl rfl (Nat.le_of_ble_eq_true rfl) ?_
  refine RP.blk 3 (pc' := 9) (lv' := [(0, .ref 196), (1, .int (nI w))]) (st' := [.int 6, .int (nI w), .ref 196]) (H' := _) (kc' := 0) (ks' := 0) rfl ?_
  refine RP.call (v := some (.int 0)) (st' := []) rfl rfl rfl rfl rfl rfl (args_v [.int 6, .int (nI w)] [] rfl rfl (Nat.le_of_ble_eq_true rfl) rfl (get_set hm) (Nat.le_of_ble_eq_true rfl)) (rc_out (v := w) (m := 6) hw (by decide)) ?_
  refine RP.brT rfl rfl rfl (by decide) ?_
  refine RP.blk 1 (pc' := 24) (lv' := [(0, .ref 196), (1, .int (nI w))]) (st' := [.int 0]) (H' := _) (kc' := 0) (ks' := 0) rfl ?_
  exact RP.done (c := 0) (s := 0) rfl rfl rfl rfl
theorem rc_mfaults_bad {sc : Nat × (Nat → Int32)} {x : Int32} {d : Nat} {H : aH} {fa li dn cw cl tp rs pr ve us pi hu : Int32} {ba bo : Nat} (hm : H[195]? = some (kO 12 (mfs fa li dn cw cl tp rs pr ve us pi hu ba bo))) (hx : x < 0 ∨ ¬ x < 6) : RC sc (d + 1) mr_281 [.ref 196, .int x] H (.inl (some (.int 0))) (H.set 195 (kO 12 (mfs 1 li dn cw cl tp rs pr ve us pi hu ba bo))) 0 0 := by
  refine RP.blk 2 (pc' := 2) (lv' := [(0, .ref 196), (1, .int x)]) (st' := [.int 0, .ref 196]) (H' := _) (kc' := 0) (ks' := 0) rfl ?_
  refine RP.put (ci := 12) rfl hm rfl rfl (Nat.le_of_ble_eq_true rfl) ?_
  refine RP.blk 3 (pc' := 9) (lv' := [(0, .ref 196), (1, .int x)]) (st' := [.int 6, .int x, .ref 196]) (H' := _) (kc' := 0) (ks' := 0) rfl ?_
  refine RP.call (v := some (.int 1)) (st' := []) rfl rfl rfl rfl rfl rfl (args_v [.int 6, .int x] [] rfl rfl (Nat.le_of_ble_eq_true rfl) rfl (get_set hm) (Nat.le_of_ble_eq_true rfl)) (rc_outX (m := 6) hx) ?_
  refine RP.brF rfl rfl rfl (by decide) ?_
  refine RP.blk 2 (pc' := 17) (lv' := [(0, .ref 196), (1, .int x)]) (st' := [.int 1, .ref 196]) (H' := _) (kc' := 0) (ks' := 0) rfl ?_
  refine RP.call (v := some (.int 0)) (st' := []) rfl rfl rfl rfl rfl rfl (args_v [.int 1] [] rfl rfl (Nat.le_of_ble_eq_true rfl) rfl (get_set hm) (Nat.le_of_ble_eq_true rfl)) (rc_mfail (get_set hm) rfl) ?_
  rw [set_set]
  refine RP.blk 1 (pc' := 24) (lv' := [(0, .ref 196), (1, .int x)]) (st' := [.int 0]) (H' := _) (kc' := 0) (ks' := 0) rfl ?_
  exact RP.done (c := 0) (s := 0) rfl rfl rfl rfl
section SC
variable {L i : Nat} {xs : Nat → Int32} {kc ks : Nat} {H : aH} {Q : tO × aH × Nat × Nat → Prop} {cl cp cb fa li mcl ve us pi hu : Int32} {ba bo : Nat} {e : Nat → Int64}
theorem step_count0 {bl cw mcw tp rs pr : Int32} {op : Nat → Bool} (hL : L < 2 ^ 30) (h : i + 6 ≤ L) (h0 : H[0]? = some (kO 11 (fvs bl pr 1 cw cl cp cb))) (hm : H[195]? = some (kO 12 (mfs fa li 0 mcw mcl tp rs pr ve us pi hu ba bo))) (h5 : H[205]? = some (kZ 8 op)) (h224 : H[224]? = some (kJ 1 e)) (e1 : xs (i + 1) = nI 0)
    (k : RQ (L, xs) 2000 mr_law 33 [(4, .int (nI (i + 6))), (3, .ref 225), (2, .ref 196), (1, .ref 1), (0, .ref 0)] [] ((H.set 224 (kJ 1 (va_up e 0 pr.toInt64))).set 195 (kO 12 (mfs 0 li 0 mcw mcl tp rs pr ve us pi hu ba bo))) kc ks Q) :
    RQ (L, xs) 2000 mr_law 1179 [(4, .int (nI i)), (3, .ref 225), (2, .ref 196), (1, .ref 1), (0, .ref 0)] [] H kc ks Q := by
  have hm1 : (H.set 224 (kJ 1 (va_up e 0 pr.toInt64)))[195]? = _ := (set_far (by decide)).trans hm
  refine RQ.of (fun r kk => law_op16 (c1 := 0) (s1 := 0) (c2 := 0) (s2 := 0) (kk := 0) (v := pr) (H1 := (H.set 224 (kJ 1 (va_up e 0 pr.toInt64)))) (H2 := ((H.set 224 (kJ 1 (va_up e 0 pr.toInt64))).set 195 (kO 12 (mfs 0 li 0 mcw mcl tp rs pr ve us pi hu ba bo)))) hL h (by rw [e1]; exact rc_w16 h0 (rc_count0 h0) h224) hm1 (by rw [e1]; exact rc_mcount0 hm1 ((set_far (by decide)).trans h5)) kk) ?_
  exact RQ.of (fun r kk => tail_16 (get_set hm1) rfl ((set_far (by decide)).trans (get_set h224)) rfl kk) k
theorem step_count1_0 {bl pr cw mcw tp rs mpr : Int32} {op : Nat → Bool} (hL : L < 2 ^ 30) (h : i + 6 ≤ L) (h0 : H[0]? = some (kO 11 (fvs bl pr 1 cw cl cp cb))) (hm : H[195]? = some (kO 12 (mfs fa li 0 mcw mcl tp rs mpr ve us pi hu ba bo))) (h5 : H[205]? = some (kZ 8 op)) (h224 : H[224]? = some (kJ 1 e)) (e1 : xs (i + 1) = nI 1)
    (k : RQ (L, xs) 2000 mr_law 33 [(4, .int (nI (i + 6))), (3, .ref 225), (2, .ref 196), (1, .ref 1), (0, .ref 0)] [] ((H.set 224 (kJ 1 (va_up e 0 (1 : Int32).toInt64))).set 195 (kO 12 (mfs 0 li 0 mcw mcl tp rs mpr ve us pi hu ba bo))) kc ks Q) :
    RQ (L, xs) 2000 mr_law 1179 [(4, .int (nI i)), (3, .ref 225), (2, .ref 196), (1, .ref 1), (0, .ref 0)] [] H kc ks Q := by
  have hm1 : (H.set 224 (kJ 1 (va_up e 0 (1 : Int32).toInt64)))[195]? = _ := (set_far (by decide)).trans hm
  refine RQ.of (fun r kk => law_op16 (c1 := 0) (s1 := 0) (c2 := 0) (s2 := 0) (kk := 0) (v := (1 : Int32)) (H1 := (H.set 224 (kJ 1 (va_up e 0 (1 : Int32).toInt64)))) (H2 := ((H.set 224 (kJ 1 (va_up e 0 (1 : Int32).toInt64))).set 195 (kO 12 (mfs 0 li 0 mcw mcl tp rs mpr ve us pi hu ba bo)))) hL h (by rw [e1]; exact rc_w16 h0 (rc_count1_1 h0) h224) hm1 (by rw [e1]; exact rc_mcount1_0 hm1 ((set_far (by decide)).trans h5)) kk) ?_
  exact RQ.of (fun r kk => tail_16 (get_set hm1) rfl ((set_far (by decide)).trans (get_set h224)) rfl kk) k
theorem step_count2_0 {bl pr up cw mcw tp rs mpr : Int32} {mo : Nat → Nat} {op : Nat → Bool} (hL : L < 2 ^ 30) (h : i + 6 ≤ L) (h0 : H[0]? = some (kO 11 (fvs bl pr up cw cl cp cb))) (hm : H[195]? = some (kO 12 (mfs fa li 0 mcw mcl tp rs mpr ve us pi hu ba bo))) (h5 : H[205]? = some (kZ 8 op)) (hs : SightAt H op mo) (h224 : H[224]? = some (kJ 1 e)) (e1 : xs (i + 1) = nI 2)
    (k : RQ (L, xs) 2000 mr_law 33 [(4, .int (nI (i + 6))), (3, .ref 225), (2, .ref 196), (1, .ref 1), (0, .ref 0)] [] ((H.set 224 (kJ 1 (va_up e 0 (nI (cntB op 8)).toInt64))).set 195 (kO 12 (mfs 0 li 0 mcw mcl tp rs mpr ve us pi hu ba bo))) kc ks Q) :
    RQ (L, xs) 2000 mr_law 1179 [(4, .int (nI i)), (3, .ref 225), (2, .ref 196), (1, .ref 1), (0, .ref 0)] [] H kc ks Q := by
  have hm1 : (H.set 224 (kJ 1 (va_up e 0 (nI (cntB op 8)).toInt64)))[195]? = _ := (set_far (by decide)).trans hm
  refine RQ.of (fun r kk => law_op16 (c1 := 0) (s1 := 0) (c2 := 0) (s2 := 0) (kk := 0) (v := (nI (cntB op 8))) (H1 := (H.set 224 (kJ 1 (va_up e 0 (nI (cntB op 8)).toInt64)))) (H2 := ((H.set 224 (kJ 1 (va_up e 0 (nI (cntB op 8)).toInt64))).set 195 (kO 12 (mfs 0 li 0 mcw mcl tp rs mpr ve us pi hu ba bo)))) hL h (by rw [e1]; exact rc_w16 h0 (rc_count2 h0 hs) h224) hm1 (by rw [e1]; exact rc_mcount2_0 hm1 ((set_far (by decide)).trans h5)) kk) ?_
  exact RQ.of (fun r kk => tail_16 (get_set hm1) rfl ((set_far (by decide)).trans (get_set h224)) rfl kk) k
theorem step_count4_0 {pr up cw mcw tp rs mpr : Int32} {B : Nat} {op : Nat → Bool} (hL : L < 2 ^ 30) (h : i + 6 ≤ L) (h0 : H[0]? = some (kO 11 (fvs (nI B) pr up cw cl cp cb))) (hm : H[195]? = some (kO 12 (mfs fa (nI (B * 256)) 0 mcw mcl tp rs mpr ve us pi hu ba bo))) (h5 : H[205]? = some (kZ 8 op)) (h224 : H[224]? = some (kJ 1 e)) (e1 : xs (i + 1) = nI 4)
    (k : RQ (L, xs) 2000 mr_law 33 [(4, .int (nI (i + 6))), (3, .ref 225), (2, .ref 196), (1, .ref 1), (0, .ref 0)] [] ((H.set 224 (kJ 1 (va_up e 0 (nI (B * 256)).toInt64))).set 195 (kO 12 (mfs 0 (nI (B * 256)) 0 mcw mcl tp rs mpr ve us pi hu ba bo))) kc ks Q) :
    RQ (L, xs) 2000 mr_law 1179 [(4, .int (nI i)), (3, .ref 225), (2, .ref 196), (1, .ref 1), (0, .ref 0)] [] H kc ks Q := by
  have hm1 : (H.set 224 (kJ 1 (va_up e 0 (nI (B * 256)).toInt64)))[195]? = _ := (set_far (by decide)).trans hm
  refine RQ.of (fun r kk => law_op16 (c1 := 0) (s1 := 0) (c2 := 0) (s2 := 0) (kk := 0) (v := (nI (B * 256))) (H1 := (H.set 224 (kJ 1 (va_up e 0 (nI (B * 256)).toInt64)))) (H2 := ((H.set 224 (kJ 1 (va_up e 0 (nI (B * 256)).toInt64))).set 195 (kO 12 (mfs 0 (nI (B * 256)) 0 mcw mcl tp rs mpr ve us pi hu ba bo)))) hL h (by rw [e1]; exact rc_w16 h0 (rc_count4 h0) h224) hm1 (by rw [e1]; exact rc_mcount4_0 hm1 ((set_far (by decide)).trans h5)) kk) ?_
  exact RQ.of (fun r kk => tail_16 (get_set hm1) rfl ((set_far (by decide)).trans (get_set h224)) rfl kk) k
theorem step_count7_0 {bl pr up cw mcw rs mpr : Int32} {l : Nat} {op : Nat → Bool} (hL : L < 2 ^ 30) (h : i + 6 ≤ L) (h0 : H[0]? = some (kO 11 (fvs bl pr up cw cl cp cb))) (hm : H[195]? = some (kO 12 (mfs fa li 0 mcw mcl (nI l) rs mpr ve us pi hu ba bo))) (h5 : H[205]? = some (kZ 8 op)) (h1 : H[1]? = some (kO 5 [.ref 3, .int (nI l)])) (h224 : H[224]? = some (kJ 1 e)) (e1 : xs (i + 1) = nI 7)
    (k : RQ (L, xs) 2000 mr_law 33 [(4, .int (nI (i + 6))), (3, .ref 225), (2, .ref 196), (1, .ref 1), (0, .ref 0)] [] ((H.set 224 (kJ 1 (va_up e 0 (nI l).toInt64))).set 195 (kO 12 (mfs 0 li 0 mcw mcl (nI l) rs mpr ve us pi hu ba bo))) kc ks Q) :
    RQ (L, xs) 2000 mr_law 1179 [(4, .int (nI i)), (3, .ref 225), (2, .ref 196), (1, .ref 1), (0, .ref 0)] [] H kc ks Q := by
  have hm1 : (H.set 224 (kJ 1 (va_up e 0 (nI l).toInt64)))[195]? = _ := (set_far (by decide)).trans hm
  refine RQ.of (fun r kk => law_op16 (c1 := 0) (s1 := 0) (c2 := 0) (s2 := 0) (kk := 0) (v := (nI l)) (H1 := (H.set 224 (kJ 1 (va_up e 0 (nI l).toInt64)))) (H2 := ((H.set 224 (kJ 1 (va_up e 0 (nI l).toInt64))).set 195 (kO 12 (mfs 0 li 0 mcw mcl (nI l) rs mpr ve us pi hu ba bo)))) hL h (by rw [e1]; exact rc_w16 h0 (rc_count7 h0 h1) h224) hm1 (by rw [e1]; exact rc_mcount7_0 hm1 ((set_far (by decide)).trans h5)) kk) ?_
  exact RQ.of (fun r kk => tail_16 (get_set hm1) rfl ((set_far (by decide)).trans (get_set h224)) rfl kk) k
theorem step_count8_0 {bl pr up cw mcw tp mpr : Int32} {l : Nat} {op : Nat → Bool} (hL : L < 2 ^ 30) (h : i + 6 ≤ L) (h0 : H[0]? = some (kO 11 (fvs bl pr up cw cl cp cb))) (hm : H[195]? = some (kO 12 (mfs fa li 0 mcw mcl tp (nI l) mpr ve us pi hu ba bo))) (h5 : H[205]? = some (kZ 8 op)) (h3 : H[3]? = some (kO 5 [.ref 5, .int (nI l)])) (h224 : H[224]? = some (kJ 1 e)) (e1 : xs (i + 1) = nI 8)
    (k : RQ (L, xs) 2000 mr_law 33 [(4, .int (nI (i + 6))), (3, .ref 225), (2, .ref 196), (1, .ref 1), (0, .ref 0)] [] ((H.set 224 (kJ 1 (va_up e 0 (nI l).toInt64))).set 195 (kO 12 (mfs 0 li 0 mcw mcl tp (nI l) mpr ve us pi hu ba bo))) kc ks Q) :
    RQ (L, xs) 2000 mr_law 1179 [(4, .int (nI i)), (3, .ref 225), (2, .ref 196), (1, .ref 1), (0, .ref 0)] [] H kc ks Q := by
  have hm1 : (H.set 224 (kJ 1 (va_up e 0 (nI l).toInt64)))[195]? = _ := (set_far (by decide)).trans hm
  refine RQ.of (fun r kk => law_op16 (c1 := 0) (s1 := 0) (c2 := 0) (s2 := 0) (kk := 0) (v := (nI l)) (H1 := (H.set 224 (kJ 1 (va_up e 0 (nI l).toInt64)))) (H2 := ((H.set 224 (kJ 1 (va_up e 0 (nI l).toInt64))).set 195 (kO 12 (mfs 0 li 0 mcw mcl tp (nI l) mpr ve us pi hu ba bo)))) hL h (by rw [e1]; exact rc_w16 h0 (rc_count8 h0 h3) h224) hm1 (by rw [e1]; exact rc_mcount8_0 hm1 ((set_far (by decide)).trans h5)) kk) ?_
  exact RQ.of (fun r kk => tail_16 (get_set hm1) rfl ((set_far (by decide)).trans (get_set h224)) rfl kk) k
theorem step_count9_0_0 {bl pr up tp rs mpr : Int32} {op : Nat → Bool} (hL : L < 2 ^ 30) (h : i + 6 ≤ L) (h0 : H[0]? = some (kO 11 (fvs bl pr up 0 cl cp cb))) (hm : H[195]? = some (kO 12 (mfs fa li 0 0 mcl tp rs mpr ve us pi hu ba bo))) (h5 : H[205]? = some (kZ 8 op)) (h224 : H[224]? = some (kJ 1 e)) (e1 : xs (i + 1) = nI 9)
    (k : RQ (L, xs) 2000 mr_law 33 [(4, .int (nI (i + 6))), (3, .ref 225), (2, .ref 196), (1, .ref 1), (0, .ref 0)] [] ((H.set 224 (kJ 1 (va_up e 0 (0 : Int32).toInt64))).set 195 (kO 12 (mfs 0 li 0 0 mcl tp rs mpr ve us pi hu ba bo))) kc ks Q) :
    RQ (L, xs) 2000 mr_law 1179 [(4, .int (nI i)), (3, .ref 225), (2, .ref 196), (1, .ref 1), (0, .ref 0)] [] H kc ks Q := by
  have hm1 : (H.set 224 (kJ 1 (va_up e 0 (0 : Int32).toInt64)))[195]? = _ := (set_far (by decide)).trans hm
  refine RQ.of (fun r kk => law_op16 (c1 := 0) (s1 := 0) (c2 := 0) (s2 := 0) (kk := 0) (v := (0 : Int32)) (H1 := (H.set 224 (kJ 1 (va_up e 0 (0 : Int32).toInt64)))) (H2 := ((H.set 224 (kJ 1 (va_up e 0 (0 : Int32).toInt64))).set 195 (kO 12 (mfs 0 li 0 0 mcl tp rs mpr ve us pi hu ba bo)))) hL h (by rw [e1]; exact rc_w16 h0 (rc_count9_0 h0) h224) hm1 (by rw [e1]; exact rc_mcount9_0_0 hm1 ((set_far (by decide)).trans h5)) kk) ?_
  exact RQ.of (fun r kk => tail_16 (get_set hm1) rfl ((set_far (by decide)).trans (get_set h224)) rfl kk) k
theorem step_count9_0_1 {bl pr up tp rs mpr : Int32} {op : Nat → Bool} (hL : L < 2 ^ 30) (h : i + 6 ≤ L) (h0 : H[0]? = some (kO 11 (fvs bl pr up 1 cl cp cb))) (hm : H[195]? = some (kO 12 (mfs fa li 0 1 mcl tp rs mpr ve us pi hu ba bo))) (h5 : H[205]? = some (kZ 8 op)) (h224 : H[224]? = some (kJ 1 e)) (e1 : xs (i + 1) = nI 9)
    (k : RQ (L, xs) 2000 mr_law 33 [(4, .int (nI (i + 6))), (3, .ref 225), (2, .ref 196), (1, .ref 1), (0, .ref 0)] [] ((H.set 224 (kJ 1 (va_up e 0 (1 : Int32).toInt64))).set 195 (kO 12 (mfs 0 li 0 1 mcl tp rs mpr ve us pi hu ba bo))) kc ks Q) :
    RQ (L, xs) 2000 mr_law 1179 [(4, .int (nI i)), (3, .ref 225), (2, .ref 196), (1, .ref 1), (0, .ref 0)] [] H kc ks Q := by
  have hm1 : (H.set 224 (kJ 1 (va_up e 0 (1 : Int32).toInt64)))[195]? = _ := (set_far (by decide)).trans hm
  refine RQ.of (fun r kk => law_op16 (c1 := 0) (s1 := 0) (c2 := 0) (s2 := 0) (kk := 0) (v := (1 : Int32)) (H1 := (H.set 224 (kJ 1 (va_up e 0 (1 : Int32).toInt64)))) (H2 := ((H.set 224 (kJ 1 (va_up e 0 (1 : Int32).toInt64))).set 195 (kO 12 (mfs 0 li 0 1 mcl tp rs mpr ve us pi hu ba bo)))) hL h (by rw [e1]; exact rc_w16 h0 (rc_count9_1 h0) h224) hm1 (by rw [e1]; exact rc_mcount9_0_1 hm1 ((set_far (by decide)).trans h5)) kk) ?_
  exact RQ.of (fun r kk => tail_16 (get_set hm1) rfl ((set_far (by decide)).trans (get_set h224)) rfl kk) k
theorem step_count1_1 {bl pr cw mcw tp rs mpr : Int32} {op : Nat → Bool} (hL : L < 2 ^ 30) (h : i + 6 ≤ L) (h0 : H[0]? = some (kO 11 (fvs bl pr 0 cw cl cp cb))) (hm : H[195]? = some (kO 12 (mfs fa li 1 mcw mcl tp rs mpr ve us pi hu ba bo))) (h5 : H[205]? = some (kZ 8 op)) (h224 : H[224]? = some (kJ 1 e)) (e1 : xs (i + 1) = nI 1)
    (k : RQ (L, xs) 2000 mr_law 33 [(4, .int (nI (i + 6))), (3, .ref 225), (2, .ref 196), (1, .ref 1), (0, .ref 0)] [] ((H.set 224 (kJ 1 (va_up e 0 (0 : Int32).toInt64))).set 195 (kO 12 (mfs 0 li 1 mcw mcl tp rs mpr ve us pi hu ba bo))) kc ks Q) :
    RQ (L, xs) 2000 mr_law 1179 [(4, .int (nI i)), (3, .ref 225), (2, .ref 196), (1, .ref 1), (0, .ref 0)] [] H kc ks Q := by
  have hm1 : (H.set 224 (kJ 1 (va_up e 0 (0 : Int32).toInt64)))[195]? = _ := (set_far (by decide)).trans hm
  refine RQ.of (fun r kk => law_op16 (c1 := 0) (s1 := 0) (c2 := 0) (s2 := 0) (kk := 0) (v := (0 : Int32)) (H1 := (H.set 224 (kJ 1 (va_up e 0 (0 : Int32).toInt64)))) (H2 := ((H.set 224 (kJ 1 (va_up e 0 (0 : Int32).toInt64))).set 195 (kO 12 (mfs 0 li 1 mcw mcl tp rs mpr ve us pi hu ba bo)))) hL h (by rw [e1]; exact rc_w16 h0 (rc_count1_0 h0) h224) hm1 (by rw [e1]; exact rc_mcount1_1 hm1 ((set_far (by decide)).trans h5)) kk) ?_
  exact RQ.of (fun r kk => tail_16 (get_set hm1) rfl ((set_far (by decide)).trans (get_set h224)) rfl kk) k
theorem step_count2_1 {bl pr up cw mcw tp rs mpr : Int32} {mo : Nat → Nat} {op : Nat → Bool} (hL : L < 2 ^ 30) (h : i + 6 ≤ L) (h0 : H[0]? = some (kO 11 (fvs bl pr up cw cl cp cb))) (hm : H[195]? = some (kO 12 (mfs fa li 1 mcw mcl tp rs mpr ve us pi hu ba bo))) (h5 : H[205]? = some (kZ 8 op)) (hs : SightAt H op mo) (h224 : H[224]? = some (kJ 1 e)) (e1 : xs (i + 1) = nI 2)
    (k : RQ (L, xs) 2000 mr_law 33 [(4, .int (nI (i + 6))), (3, .ref 225), (2, .ref 196), (1, .ref 1), (0, .ref 0)] [] ((H.set 224 (kJ 1 (va_up e 0 (nI (cntB op 8)).toInt64))).set 195 (kO 12 (mfs 0 li 1 mcw mcl tp rs mpr ve us pi hu ba bo))) kc ks Q) :
    RQ (L, xs) 2000 mr_law 1179 [(4, .int (nI i)), (3, .ref 225), (2, .ref 196), (1, .ref 1), (0, .ref 0)] [] H kc ks Q := by
  have hm1 : (H.set 224 (kJ 1 (va_up e 0 (nI (cntB op 8)).toInt64)))[195]? = _ := (set_far (by decide)).trans hm
  refine RQ.of (fun r kk => law_op16 (c1 := 0) (s1 := 0) (c2 := 0) (s2 := 0) (kk := 0) (v := (nI (cntB op 8))) (H1 := (H.set 224 (kJ 1 (va_up e 0 (nI (cntB op 8)).toInt64)))) (H2 := ((H.set 224 (kJ 1 (va_up e 0 (nI (cntB op 8)).toInt64))).set 195 (kO 12 (mfs 0 li 1 mcw mcl tp rs mpr ve us pi hu ba bo)))) hL h (by rw [e1]; exact rc_w16 h0 (rc_count2 h0 hs) h224) hm1 (by rw [e1]; exact rc_mcount2_1 hm1 ((set_far (by decide)).trans h5)) kk) ?_
  exact RQ.of (fun r kk => tail_16 (get_set hm1) rfl ((set_far (by decide)).trans (get_set h224)) rfl kk) k
theorem step_count4_1 {pr up cw mcw tp rs mpr : Int32} {B : Nat} {op : Nat → Bool} (hL : L < 2 ^ 30) (h : i + 6 ≤ L) (h0 : H[0]? = some (kO 11 (fvs (nI B) pr up cw cl cp cb))) (hm : H[195]? = some (kO 12 (mfs fa (nI (B * 256)) 1 mcw mcl tp rs mpr ve us pi hu ba bo))) (h5 : H[205]? = some (kZ 8 op)) (h224 : H[224]? = some (kJ 1 e)) (e1 : xs (i + 1) = nI 4)
    (k : RQ (L, xs) 2000 mr_law 33 [(4, .int (nI (i + 6))), (3, .ref 225), (2, .ref 196), (1, .ref 1), (0, .ref 0)] [] ((H.set 224 (kJ 1 (va_up e 0 (nI (B * 256)).toInt64))).set 195 (kO 12 (mfs 0 (nI (B * 256)) 1 mcw mcl tp rs mpr ve us pi hu ba bo))) kc ks Q) :
    RQ (L, xs) 2000 mr_law 1179 [(4, .int (nI i)), (3, .ref 225), (2, .ref 196), (1, .ref 1), (0, .ref 0)] [] H kc ks Q := by
  have hm1 : (H.set 224 (kJ 1 (va_up e 0 (nI (B * 256)).toInt64)))[195]? = _ := (set_far (by decide)).trans hm
  refine RQ.of (fun r kk => law_op16 (c1 := 0) (s1 := 0) (c2 := 0) (s2 := 0) (kk := 0) (v := (nI (B * 256))) (H1 := (H.set 224 (kJ 1 (va_up e 0 (nI (B * 256)).toInt64)))) (H2 := ((H.set 224 (kJ 1 (va_up e 0 (nI (B * 256)).toInt64))).set 195 (kO 12 (mfs 0 (nI (B * 256)) 1 mcw mcl tp rs mpr ve us pi hu ba bo)))) hL h (by rw [e1]; exact rc_w16 h0 (rc_count4 h0) h224) hm1 (by rw [e1]; exact rc_mcount4_1 hm1 ((set_far (by decide)).trans h5)) kk) ?_
  exact RQ.of (fun r kk => tail_16 (get_set hm1) rfl ((set_far (by decide)).trans (get_set h224)) rfl kk) k
theorem step_count7_1 {bl pr up cw mcw rs mpr : Int32} {l : Nat} {op : Nat → Bool} (hL : L < 2 ^ 30) (h : i + 6 ≤ L) (h0 : H[0]? = some (kO 11 (fvs bl pr up cw cl cp cb))) (hm : H[195]? = some (kO 12 (mfs fa li 1 mcw mcl (nI l) rs mpr ve us pi hu ba bo))) (h5 : H[205]? = some (kZ 8 op)) (h1 : H[1]? = some (kO 5 [.ref 3, .int (nI l)])) (h224 : H[224]? = some (kJ 1 e)) (e1 : xs (i + 1) = nI 7)
    (k : RQ (L, xs) 2000 mr_law 33 [(4, .int (nI (i + 6))), (3, .ref 225), (2, .ref 196), (1, .ref 1), (0, .ref 0)] [] ((H.set 224 (kJ 1 (va_up e 0 (nI l).toInt64))).set 195 (kO 12 (mfs 0 li 1 mcw mcl (nI l) rs mpr ve us pi hu ba bo))) kc ks Q) :
    RQ (L, xs) 2000 mr_law 1179 [(4, .int (nI i)), (3, .ref 225), (2, .ref 196), (1, .ref 1), (0, .ref 0)] [] H kc ks Q := by
  have hm1 : (H.set 224 (kJ 1 (va_up e 0 (nI l).toInt64)))[195]? = _ := (set_far (by decide)).trans hm
  refine RQ.of (fun r kk => law_op16 (c1 := 0) (s1 := 0) (c2 := 0) (s2 := 0) (kk := 0) (v := (nI l)) (H1 := (H.set 224 (kJ 1 (va_up e 0 (nI l).toInt64)))) (H2 := ((H.set 224 (kJ 1 (va_up e 0 (nI l).toInt64))).set 195 (kO 12 (mfs 0 li 1 mcw mcl (nI l) rs mpr ve us pi hu ba bo)))) hL h (by rw [e1]; exact rc_w16 h0 (rc_count7 h0 h1) h224) hm1 (by rw [e1]; exact rc_mcount7_1 hm1 ((set_far (by decide)).trans h5)) kk) ?_
  exact RQ.of (fun r kk => tail_16 (get_set hm1) rfl ((set_far (by decide)).trans (get_set h224)) rfl kk) k
theorem step_count8_1 {bl pr up cw mcw tp mpr : Int32} {l : Nat} {op : Nat → Bool} (hL : L < 2 ^ 30) (h : i + 6 ≤ L) (h0 : H[0]? = some (kO 11 (fvs bl pr up cw cl cp cb))) (hm : H[195]? = some (kO 12 (mfs fa li 1 mcw mcl tp (nI l) mpr ve us pi hu ba bo))) (h5 : H[205]? = some (kZ 8 op)) (h3 : H[3]? = some (kO 5 [.ref 5, .int (nI l)])) (h224 : H[224]? = some (kJ 1 e)) (e1 : xs (i + 1) = nI 8)
    (k : RQ (L, xs) 2000 mr_law 33 [(4, .int (nI (i + 6))), (3, .ref 225), (2, .ref 196), (1, .ref 1), (0, .ref 0)] [] ((H.set 224 (kJ 1 (va_up e 0 (nI l).toInt64))).set 195 (kO 12 (mfs 0 li 1 mcw mcl tp (nI l) mpr ve us pi hu ba bo))) kc ks Q) :
    RQ (L, xs) 2000 mr_law 1179 [(4, .int (nI i)), (3, .ref 225), (2, .ref 196), (1, .ref 1), (0, .ref 0)] [] H kc ks Q := by
  have hm1 : (H.set 224 (kJ 1 (va_up e 0 (nI l).toInt64)))[195]? = _ := (set_far (by decide)).trans hm
  refine RQ.of (fun r kk => law_op16 (c1 := 0) (s1 := 0) (c2 := 0) (s2 := 0) (kk := 0) (v := (nI l)) (H1 := (H.set 224 (kJ 1 (va_up e 0 (nI l).toInt64)))) (H2 := ((H.set 224 (kJ 1 (va_up e 0 (nI l).toInt64))).set 195 (kO 12 (mfs 0 li 1 mcw mcl tp (nI l) mpr ve us pi hu ba bo)))) hL h (by rw [e1]; exact rc_w16 h0 (rc_count8 h0 h3) h224) hm1 (by rw [e1]; exact rc_mcount8_1 hm1 ((set_far (by decide)).trans h5)) kk) ?_
  exact RQ.of (fun r kk => tail_16 (get_set hm1) rfl ((set_far (by decide)).trans (get_set h224)) rfl kk) k
theorem step_count9_1_0 {bl pr up tp rs mpr : Int32} {op : Nat → Bool} (hL : L < 2 ^ 30) (h : i + 6 ≤ L) (h0 : H[0]? = some (kO 11 (fvs bl pr up 0 cl cp cb))) (hm : H[195]? = some (kO 12 (mfs fa li 1 0 mcl tp rs mpr ve us pi hu ba bo))) (h5 : H[205]? = some (kZ 8 op)) (h224 : H[224]? = some (kJ 1 e)) (e1 : xs (i + 1) = nI 9)
    (k : RQ (L, xs) 2000 mr_law 33 [(4, .int (nI (i + 6))), (3, .ref 225), (2, .ref 196), (1, .ref 1), (0, .ref 0)] [] ((H.set 224 (kJ 1 (va_up e 0 (0 : Int32).toInt64))).set 195 (kO 12 (mfs 0 li 1 0 mcl tp rs mpr ve us pi hu ba bo))) kc ks Q) :
    RQ (L, xs) 2000 mr_law 1179 [(4, .int (nI i)), (3, .ref 225), (2, .ref 196), (1, .ref 1), (0, .ref 0)] [] H kc ks Q := by
  have hm1 : (H.set 224 (kJ 1 (va_up e 0 (0 : Int32).toInt64)))[195]? = _ := (set_far (by decide)).trans hm
  refine RQ.of (fun r kk => law_op16 (c1 := 0) (s1 := 0) (c2 := 0) (s2 := 0) (kk := 0) (v := (0 : Int32)) (H1 := (H.set 224 (kJ 1 (va_up e 0 (0 : Int32).toInt64)))) (H2 := ((H.set 224 (kJ 1 (va_up e 0 (0 : Int32).toInt64))).set 195 (kO 12 (mfs 0 li 1 0 mcl tp rs mpr ve us pi hu ba bo)))) hL h (by rw [e1]; exact rc_w16 h0 (rc_count9_0 h0) h224) hm1 (by rw [e1]; exact rc_mcount9_1_0 hm1 ((set_far (by decide)).trans h5)) kk) ?_
  exact RQ.of (fun r kk => tail_16 (get_set hm1) rfl ((set_far (by decide)).trans (get_set h224)) rfl kk) k
theorem step_count9_1_1 {bl pr up tp rs mpr : Int32} {op : Nat → Bool} (hL : L < 2 ^ 30) (h : i + 6 ≤ L) (h0 : H[0]? = some (kO 11 (fvs bl pr up 1 cl cp cb))) (hm : H[195]? = some (kO 12 (mfs fa li 1 1 mcl tp rs mpr ve us pi hu ba bo))) (h5 : H[205]? = some (kZ 8 op)) (h224 : H[224]? = some (kJ 1 e)) (e1 : xs (i + 1) = nI 9)
    (k : RQ (L, xs) 2000 mr_law 33 [(4, .int (nI (i + 6))), (3, .ref 225), (2, .ref 196), (1, .ref 1), (0, .ref 0)] [] ((H.set 224 (kJ 1 (va_up e 0 (1 : Int32).toInt64))).set 195 (kO 12 (mfs 0 li 1 1 mcl tp rs mpr ve us pi hu ba bo))) kc ks Q) :
    RQ (L, xs) 2000 mr_law 1179 [(4, .int (nI i)), (3, .ref 225), (2, .ref 196), (1, .ref 1), (0, .ref 0)] [] H kc ks Q := by
  have hm1 : (H.set 224 (kJ 1 (va_up e 0 (1 : Int32).toInt64)))[195]? = _ := (set_far (by decide)).trans hm
  refine RQ.of (fun r kk => law_op16 (c1 := 0) (s1 := 0) (c2 := 0) (s2 := 0) (kk := 0) (v := (1 : Int32)) (H1 := (H.set 224 (kJ 1 (va_up e 0 (1 : Int32).toInt64)))) (H2 := ((H.set 224 (kJ 1 (va_up e 0 (1 : Int32).toInt64))).set 195 (kO 12 (mfs 0 li 1 1 mcl tp rs mpr ve us pi hu ba bo)))) hL h (by rw [e1]; exact rc_w16 h0 (rc_count9_1 h0) h224) hm1 (by rw [e1]; exact rc_mcount9_1_1 hm1 ((set_far (by decide)).trans h5)) kk) ?_
  exact RQ.of (fun r kk => tail_16 (get_set hm1) rfl ((set_far (by decide)).trans (get_set h224)) rfl kk) k
theorem step_count6 {bl pr cw mcw tp rs mpr : Int32} {kd pa sz nl : Nat → Nat} {nm nm2 : Nat → Int8} {sz2 pa2 nl2 : Nat → Nat} {op : Nat → Bool} (hL : L < 2 ^ 30) (h : i + 6 ≤ L) (h0 : H[0]? = some (kO 11 (fvs bl pr 1 cw cl cp cb))) (hm : H[195]? = some (kO 12 (mfs fa li 0 mcw mcl tp rs mpr ve us pi hu ba bo))) (h5 : H[205]? = some (kZ 8 op)) (hT : TreeAt H kd pa sz nl nm (sumF (fun v => if kd v = 0 then 0 else 1) 200)) (hM : MTreeAt H kd pa2 sz2 nl2 nm2) (hk : TreeOk kd pa2 sz2 nl2) (h224 : H[224]? = some (kJ 1 e)) (e1 : xs (i + 1) = nI 6)
    (k : RQ (L, xs) 2000 mr_law 33 [(4, .int (nI (i + 6))), (3, .ref 225), (2, .ref 196), (1, .ref 1), (0, .ref 0)] [] ((H.set 224 (kJ 1 (va_up e 0 (nI (sumF (fun v => if kd v = 0 then 0 else 1) 200)).toInt64))).set 195 (kO 12 (mfs 0 li 0 mcw mcl tp rs mpr ve us pi hu ba bo))) kc ks Q) :
    RQ (L, xs) 2000 mr_law 1179 [(4, .int (nI i)), (3, .ref 225), (2, .ref 196), (1, .ref 1), (0, .ref 0)] [] H kc ks Q := by
  have hm1 : (H.set 224 (kJ 1 (va_up e 0 (nI (sumF (fun v => if kd v = 0 then 0 else 1) 200)).toInt64)))[195]? = _ := (set_far (by decide)).trans hm
  refine RQ.of (fun r kk => law_op16 (c1 := 0) (s1 := 0) (c2 := 0) (s2 := 0) (kk := 0) (v := (nI (sumF (fun v => if kd v = 0 then 0 else 1) 200))) (H1 := (H.set 224 (kJ 1 (va_up e 0 (nI (sumF (fun v => if kd v = 0 then 0 else 1) 200)).toInt64)))) (H2 := ((H.set 224 (kJ 1 (va_up e 0 (nI (sumF (fun v => if kd v = 0 then 0 else 1) 200)).toInt64))).set 195 (kO 12 (mfs 0 li 0 mcw mcl tp rs mpr ve us pi hu ba bo)))) hL h (by rw [e1]; exact rc_w16 h0 (rc_count6 h0 hT) h224) hm1 (by rw [e1]; exact rc_mcount6 hm1 ((set_far (by decide)).trans h5) ⟨(set_far (by decide)).trans hM.1, (set_far (by decide)).trans hM.2.1, (set_far (by decide)).trans hM.2.2.1, (set_far (by decide)).trans hM.2.2.2.1, (set_far (by decide)).trans hM.2.2.2.2⟩ hk) kk) ?_
  exact RQ.of (fun r kk => tail_16 (get_set hm1) rfl ((set_far (by decide)).trans (get_set h224)) rfl kk) k
theorem step_count0_down {bl pr cw mcw tp rs mpr : Int32} (hL : L < 2 ^ 30) (h : i + 6 ≤ L) (h0 : H[0]? = some (kO 11 (fvs bl pr 0 cw cl cp cb))) (hm : H[195]? = some (kO 12 (mfs fa li 1 mcw mcl tp rs mpr ve us pi hu ba bo))) (e1 : xs (i + 1) = nI 0)
    (k : RQ (L, xs) 2000 mr_law 33 [(4, .int (nI (i + 6))), (3, .ref 225), (2, .ref 196), (1, .ref 1), (0, .ref 0)] [] (H.set 195 (kO 12 (mfs 2 li 1 mcw mcl tp rs mpr ve us pi hu ba bo))) (kc + 1) (ks + 6) Q) :
    RQ (L, xs) 2000 mr_law 1179 [(4, .int (nI i)), (3, .ref 225), (2, .ref 196), (1, .ref 1), (0, .ref 0)] [] H kc ks Q := by
  refine RQ.of (fun r kk => law_op16 (c1 := 1) (s1 := 6) (c2 := 0) (s2 := 0) (kk := 2) (v := 0) (H1 := H) (H2 := (H.set 195 (kO 12 (mfs 2 li 1 mcw mcl tp rs mpr ve us pi hu ba bo)))) hL h (by rw [e1]; exact rc_w16X1 h0 (rc_count0_down h0)) hm (by rw [e1]; exact rc_mcount0_down hm) kk) ?_
  exact RQ.of (fun r kk => tailX_16 (get_set hm) rfl (by decide) kk) k
theorem step_count3_down {bl pr cw mcw tp rs mpr : Int32} (hL : L < 2 ^ 30) (h : i + 6 ≤ L) (h0 : H[0]? = some (kO 11 (fvs bl pr 0 cw cl cp cb))) (hm : H[195]? = some (kO 12 (mfs fa li 1 mcw mcl tp rs mpr ve us pi hu ba bo))) (e1 : xs (i + 1) = nI 3)
    (k : RQ (L, xs) 2000 mr_law 33 [(4, .int (nI (i + 6))), (3, .ref 225), (2, .ref 196), (1, .ref 1), (0, .ref 0)] [] (H.set 195 (kO 12 (mfs 2 li 1 mcw mcl tp rs mpr ve us pi hu ba bo))) (kc + 1) (ks + 6) Q) :
    RQ (L, xs) 2000 mr_law 1179 [(4, .int (nI i)), (3, .ref 225), (2, .ref 196), (1, .ref 1), (0, .ref 0)] [] H kc ks Q := by
  refine RQ.of (fun r kk => law_op16 (c1 := 1) (s1 := 6) (c2 := 0) (s2 := 0) (kk := 2) (v := 0) (H1 := H) (H2 := (H.set 195 (kO 12 (mfs 2 li 1 mcw mcl tp rs mpr ve us pi hu ba bo)))) hL h (by rw [e1]; exact rc_w16X1 h0 (rc_count3_down h0)) hm (by rw [e1]; exact rc_mcount3_down hm) kk) ?_
  exact RQ.of (fun r kk => tailX_16 (get_set hm) rfl (by decide) kk) k
theorem step_count5_down {bl pr cw mcw tp rs mpr : Int32} (hL : L < 2 ^ 30) (h : i + 6 ≤ L) (h0 : H[0]? = some (kO 11 (fvs bl pr 0 cw cl cp cb))) (hm : H[195]? = some (kO 12 (mfs fa li 1 mcw mcl tp rs mpr ve us pi hu ba bo))) (e1 : xs (i + 1) = nI 5)
    (k : RQ (L, xs) 2000 mr_law 33 [(4, .int (nI (i + 6))), (3, .ref 225), (2, .ref 196), (1, .ref 1), (0, .ref 0)] [] (H.set 195 (kO 12 (mfs 2 li 1 mcw mcl tp rs mpr ve us pi hu ba bo))) (kc + 1) (ks + 6) Q) :
    RQ (L, xs) 2000 mr_law 1179 [(4, .int (nI i)), (3, .ref 225), (2, .ref 196), (1, .ref 1), (0, .ref 0)] [] H kc ks Q := by
  refine RQ.of (fun r kk => law_op16 (c1 := 1) (s1 := 6) (c2 := 0) (s2 := 0) (kk := 2) (v := 0) (H1 := H) (H2 := (H.set 195 (kO 12 (mfs 2 li 1 mcw mcl tp rs mpr ve us pi hu ba bo)))) hL h (by rw [e1]; exact rc_w16X1 h0 (rc_count5_down h0)) hm (by rw [e1]; exact rc_mcount5_down hm) kk) ?_
  exact RQ.of (fun r kk => tailX_16 (get_set hm) rfl (by decide) kk) k
theorem step_count6_down {bl pr cw mcw tp rs mpr : Int32} (hL : L < 2 ^ 30) (h : i + 6 ≤ L) (h0 : H[0]? = some (kO 11 (fvs bl pr 0 cw cl cp cb))) (hm : H[195]? = some (kO 12 (mfs fa li 1 mcw mcl tp rs mpr ve us pi hu ba bo))) (e1 : xs (i + 1) = nI 6)
    (k : RQ (L, xs) 2000 mr_law 33 [(4, .int (nI (i + 6))), (3, .ref 225), (2, .ref 196), (1, .ref 1), (0, .ref 0)] [] (H.set 195 (kO 12 (mfs 2 li 1 mcw mcl tp rs mpr ve us pi hu ba bo))) (kc + 1) (ks + 6) Q) :
    RQ (L, xs) 2000 mr_law 1179 [(4, .int (nI i)), (3, .ref 225), (2, .ref 196), (1, .ref 1), (0, .ref 0)] [] H kc ks Q := by
  refine RQ.of (fun r kk => law_op16 (c1 := 1) (s1 := 6) (c2 := 0) (s2 := 0) (kk := 2) (v := 0) (H1 := H) (H2 := (H.set 195 (kO 12 (mfs 2 li 1 mcw mcl tp rs mpr ve us pi hu ba bo)))) hL h (by rw [e1]; exact rc_w16X1 h0 (rc_count6_down h0)) hm (by rw [e1]; exact rc_mcount6_down hm) kk) ?_
  exact RQ.of (fun r kk => tailX_16 (get_set hm) rfl (by decide) kk) k
theorem step_count_bad {bl pr up cw dn mcw tp rs mpr : Int32} (hL : L < 2 ^ 30) (h : i + 6 ≤ L) (h0 : H[0]? = some (kO 11 (fvs bl pr up cw cl cp cb))) (hm : H[195]? = some (kO 12 (mfs fa li dn mcw mcl tp rs mpr ve us pi hu ba bo))) (hx : xs (i + 1) < 0 ∨ ¬ xs (i + 1) ≤ 9) 
    (k : RQ (L, xs) 2000 mr_law 33 [(4, .int (nI (i + 6))), (3, .ref 225), (2, .ref 196), (1, .ref 1), (0, .ref 0)] [] (H.set 195 (kO 12 (mfs 1 li dn mcw mcl tp rs mpr ve us pi hu ba bo))) (kc + 1) (ks + 6) Q) :
    RQ (L, xs) 2000 mr_law 1179 [(4, .int (nI i)), (3, .ref 225), (2, .ref 196), (1, .ref 1), (0, .ref 0)] [] H kc ks Q := by
  refine RQ.of (fun r kk => law_op16 (c1 := 1) (s1 := 6) (c2 := 0) (s2 := 0) (kk := 1) (v := 0) (H1 := H) (H2 := (H.set 195 (kO 12 (mfs 1 li dn mcw mcl tp rs mpr ve us pi hu ba bo)))) hL h (by exact rc_w16X0 h0 (rc_count_bad (o := 0) h0 hx)) hm (by exact rc_mcount_bad (a := 195) (y := 0) hm rfl (hx.imp_right (fun e g => e ((le_pred (n := 9) (by decide)).mpr g)))) kk) ?_
  exact RQ.of (fun r kk => tailX_16 (get_set hm) rfl (by decide) kk) k
theorem step_faults0 {bl pr up cw dn mcw tp rs mpr : Int32} {fs : List Value} (hL : L < 2 ^ 30) (h : i + 6 ≤ L) (h0 : H[0]? = some (kO 11 (fvs bl pr up cw cl cp cb))) (hm : H[195]? = some (kO 12 (mfs fa li dn mcw mcl tp rs mpr ve us pi hu ba bo))) (hc : H[71]? = some (kO 1 fs)) (hf : fs[4]? = some (.int 0)) (h224 : H[224]? = some (kJ 1 e)) (e1 : xs (i + 1) = nI 0)
    (k : RQ (L, xs) 2000 mr_law 33 [(4, .int (nI (i + 6))), (3, .ref 225), (2, .ref 196), (1, .ref 1), (0, .ref 0)] [] ((H.set 224 (kJ 1 (va_up e 0 (0 : Int32).toInt64))).set 195 (kO 12 (mfs 0 li dn mcw mcl tp rs mpr ve us pi hu ba bo))) kc ks Q) :
    RQ (L, xs) 2000 mr_law 1235 [(4, .int (nI i)), (3, .ref 225), (2, .ref 196), (1, .ref 1), (0, .ref 0)] [] H kc ks Q := by
  have hm1 : (H.set 224 (kJ 1 (va_up e 0 (0 : Int32).toInt64)))[195]? = _ := (set_far (by decide)).trans hm
  refine RQ.of (fun r kk => law_op17 (c1 := 0) (s1 := 0) (c2 := 0) (s2 := 0) (kk := 0) (v := (0 : Int32)) (H1 := (H.set 224 (kJ 1 (va_up e 0 (0 : Int32).toInt64)))) (H2 := ((H.set 224 (kJ 1 (va_up e 0 (0 : Int32).toInt64))).set 195 (kO 12 (mfs 0 li dn mcw mcl tp rs mpr ve us pi hu ba bo)))) hL h (by rw [e1]; exact rc_w17 h0 (rc_faults0 h0 hc hf) h224) hm1 (by rw [e1]; exact rc_mfaults hm1 (by decide)) kk) ?_
  exact RQ.of (fun r kk => tail_17 (get_set hm1) rfl ((set_far (by decide)).trans (get_set h224)) rfl kk) k
theorem step_faults1 {bl pr up cw dn mcw tp rs mpr : Int32} {fs : List Value} (hL : L < 2 ^ 30) (h : i + 6 ≤ L) (h0 : H[0]? = some (kO 11 (fvs bl pr up cw cl cp cb))) (hm : H[195]? = some (kO 12 (mfs fa li dn mcw mcl tp rs mpr ve us pi hu ba bo))) (hc : H[190]? = some (kO 4 fs)) (hf : fs[8]? = some (.int 0)) (h224 : H[224]? = some (kJ 1 e)) (e1 : xs (i + 1) = nI 1)
    (k : RQ (L, xs) 2000 mr_law 33 [(4, .int (nI (i + 6))), (3, .ref 225), (2, .ref 196), (1, .ref 1), (0, .ref 0)] [] ((H.set 224 (kJ 1 (va_up e 0 (0 : Int32).toInt64))).set 195 (kO 12 (mfs 0 li dn mcw mcl tp rs mpr ve us pi hu ba bo))) kc ks Q) :
    RQ (L, xs) 2000 mr_law 1235 [(4, .int (nI i)), (3, .ref 225), (2, .ref 196), (1, .ref 1), (0, .ref 0)] [] H kc ks Q := by
  have hm1 : (H.set 224 (kJ 1 (va_up e 0 (0 : Int32).toInt64)))[195]? = _ := (set_far (by decide)).trans hm
  refine RQ.of (fun r kk => law_op17 (c1 := 0) (s1 := 0) (c2 := 0) (s2 := 0) (kk := 0) (v := (0 : Int32)) (H1 := (H.set 224 (kJ 1 (va_up e 0 (0 : Int32).toInt64)))) (H2 := ((H.set 224 (kJ 1 (va_up e 0 (0 : Int32).toInt64))).set 195 (kO 12 (mfs 0 li dn mcw mcl tp rs mpr ve us pi hu ba bo)))) hL h (by rw [e1]; exact rc_w17 h0 (rc_faults1 h0 hc hf) h224) hm1 (by rw [e1]; exact rc_mfaults hm1 (by decide)) kk) ?_
  exact RQ.of (fun r kk => tail_17 (get_set hm1) rfl ((set_far (by decide)).trans (get_set h224)) rfl kk) k
theorem step_faults2 {bl pr up cw dn mcw tp rs mpr : Int32} {fs : List Value} (hL : L < 2 ^ 30) (h : i + 6 ≤ L) (h0 : H[0]? = some (kO 11 (fvs bl pr up cw cl cp cb))) (hm : H[195]? = some (kO 12 (mfs fa li dn mcw mcl tp rs mpr ve us pi hu ba bo))) (hc : H[190]? = some (kO 4 fs)) (hf : fs[9]? = some (.int 0)) (h224 : H[224]? = some (kJ 1 e)) (e1 : xs (i + 1) = nI 2)
    (k : RQ (L, xs) 2000 mr_law 33 [(4, .int (nI (i + 6))), (3, .ref 225), (2, .ref 196), (1, .ref 1), (0, .ref 0)] [] ((H.set 224 (kJ 1 (va_up e 0 (0 : Int32).toInt64))).set 195 (kO 12 (mfs 0 li dn mcw mcl tp rs mpr ve us pi hu ba bo))) kc ks Q) :
    RQ (L, xs) 2000 mr_law 1235 [(4, .int (nI i)), (3, .ref 225), (2, .ref 196), (1, .ref 1), (0, .ref 0)] [] H kc ks Q := by
  have hm1 : (H.set 224 (kJ 1 (va_up e 0 (0 : Int32).toInt64)))[195]? = _ := (set_far (by decide)).trans hm
  refine RQ.of (fun r kk => law_op17 (c1 := 0) (s1 := 0) (c2 := 0) (s2 := 0) (kk := 0) (v := (0 : Int32)) (H1 := (H.set 224 (kJ 1 (va_up e 0 (0 : Int32).toInt64)))) (H2 := ((H.set 224 (kJ 1 (va_up e 0 (0 : Int32).toInt64))).set 195 (kO 12 (mfs 0 li dn mcw mcl tp rs mpr ve us pi hu ba bo)))) hL h (by rw [e1]; exact rc_w17 h0 (rc_faults2 h0 hc hf) h224) hm1 (by rw [e1]; exact rc_mfaults hm1 (by decide)) kk) ?_
  exact RQ.of (fun r kk => tail_17 (get_set hm1) rfl ((set_far (by decide)).trans (get_set h224)) rfl kk) k
theorem step_faults3 {bl pr up cw dn mcw tp rs mpr : Int32} {fs : List Value} (hL : L < 2 ^ 30) (h : i + 6 ≤ L) (h0 : H[0]? = some (kO 11 (fvs bl pr up cw cl cp cb))) (hm : H[195]? = some (kO 12 (mfs fa li dn mcw mcl tp rs mpr ve us pi hu ba bo))) (hc : H[136]? = some (kO 8 fs)) (hf : fs[9]? = some (.int 0)) (h224 : H[224]? = some (kJ 1 e)) (e1 : xs (i + 1) = nI 3)
    (k : RQ (L, xs) 2000 mr_law 33 [(4, .int (nI (i + 6))), (3, .ref 225), (2, .ref 196), (1, .ref 1), (0, .ref 0)] [] ((H.set 224 (kJ 1 (va_up e 0 (0 : Int32).toInt64))).set 195 (kO 12 (mfs 0 li dn mcw mcl tp rs mpr ve us pi hu ba bo))) kc ks Q) :
    RQ (L, xs) 2000 mr_law 1235 [(4, .int (nI i)), (3, .ref 225), (2, .ref 196), (1, .ref 1), (0, .ref 0)] [] H kc ks Q := by
  have hm1 : (H.set 224 (kJ 1 (va_up e 0 (0 : Int32).toInt64)))[195]? = _ := (set_far (by decide)).trans hm
  refine RQ.of (fun r kk => law_op17 (c1 := 0) (s1 := 0) (c2 := 0) (s2 := 0) (kk := 0) (v := (0 : Int32)) (H1 := (H.set 224 (kJ 1 (va_up e 0 (0 : Int32).toInt64)))) (H2 := ((H.set 224 (kJ 1 (va_up e 0 (0 : Int32).toInt64))).set 195 (kO 12 (mfs 0 li dn mcw mcl tp rs mpr ve us pi hu ba bo)))) hL h (by rw [e1]; exact rc_w17 h0 (rc_faults3 h0 hc hf) h224) hm1 (by rw [e1]; exact rc_mfaults hm1 (by decide)) kk) ?_
  exact RQ.of (fun r kk => tail_17 (get_set hm1) rfl ((set_far (by decide)).trans (get_set h224)) rfl kk) k
theorem step_faults4 {bl pr up cw dn mcw tp rs mpr : Int32} {fs : List Value} (hL : L < 2 ^ 30) (h : i + 6 ≤ L) (h0 : H[0]? = some (kO 11 (fvs bl pr up cw cl cp cb))) (hm : H[195]? = some (kO 12 (mfs fa li dn mcw mcl tp rs mpr ve us pi hu ba bo))) (hc : H[83]? = some (kO 3 fs)) (hf : fs[16]? = some (.int 0)) (h224 : H[224]? = some (kJ 1 e)) (e1 : xs (i + 1) = nI 4)
    (k : RQ (L, xs) 2000 mr_law 33 [(4, .int (nI (i + 6))), (3, .ref 225), (2, .ref 196), (1, .ref 1), (0, .ref 0)] [] ((H.set 224 (kJ 1 (va_up e 0 (0 : Int32).toInt64))).set 195 (kO 12 (mfs 0 li dn mcw mcl tp rs mpr ve us pi hu ba bo))) kc ks Q) :
    RQ (L, xs) 2000 mr_law 1235 [(4, .int (nI i)), (3, .ref 225), (2, .ref 196), (1, .ref 1), (0, .ref 0)] [] H kc ks Q := by
  have hm1 : (H.set 224 (kJ 1 (va_up e 0 (0 : Int32).toInt64)))[195]? = _ := (set_far (by decide)).trans hm
  refine RQ.of (fun r kk => law_op17 (c1 := 0) (s1 := 0) (c2 := 0) (s2 := 0) (kk := 0) (v := (0 : Int32)) (H1 := (H.set 224 (kJ 1 (va_up e 0 (0 : Int32).toInt64)))) (H2 := ((H.set 224 (kJ 1 (va_up e 0 (0 : Int32).toInt64))).set 195 (kO 12 (mfs 0 li dn mcw mcl tp rs mpr ve us pi hu ba bo)))) hL h (by rw [e1]; exact rc_w17 h0 (rc_faults4 h0 hc hf) h224) hm1 (by rw [e1]; exact rc_mfaults hm1 (by decide)) kk) ?_
  exact RQ.of (fun r kk => tail_17 (get_set hm1) rfl ((set_far (by decide)).trans (get_set h224)) rfl kk) k
theorem step_faults5 {bl pr up cw dn mcw tp rs mpr : Int32} {fs : List Value} (hL : L < 2 ^ 30) (h : i + 6 ≤ L) (h0 : H[0]? = some (kO 11 (fvs bl pr up cw cl cp cb))) (hm : H[195]? = some (kO 12 (mfs fa li dn mcw mcl tp rs mpr ve us pi hu ba bo))) (hc : H[83]? = some (kO 3 fs)) (hf : fs[17]? = some (.int 0)) (h224 : H[224]? = some (kJ 1 e)) (e1 : xs (i + 1) = nI 5)
    (k : RQ (L, xs) 2000 mr_law 33 [(4, .int (nI (i + 6))), (3, .ref 225), (2, .ref 196), (1, .ref 1), (0, .ref 0)] [] ((H.set 224 (kJ 1 (va_up e 0 (0 : Int32).toInt64))).set 195 (kO 12 (mfs 0 li dn mcw mcl tp rs mpr ve us pi hu ba bo))) kc ks Q) :
    RQ (L, xs) 2000 mr_law 1235 [(4, .int (nI i)), (3, .ref 225), (2, .ref 196), (1, .ref 1), (0, .ref 0)] [] H kc ks Q := by
  have hm1 : (H.set 224 (kJ 1 (va_up e 0 (0 : Int32).toInt64)))[195]? = _ := (set_far (by decide)).trans hm
  refine RQ.of (fun r kk => law_op17 (c1 := 0) (s1 := 0) (c2 := 0) (s2 := 0) (kk := 0) (v := (0 : Int32)) (H1 := (H.set 224 (kJ 1 (va_up e 0 (0 : Int32).toInt64)))) (H2 := ((H.set 224 (kJ 1 (va_up e 0 (0 : Int32).toInt64))).set 195 (kO 12 (mfs 0 li dn mcw mcl tp rs mpr ve us pi hu ba bo)))) hL h (by rw [e1]; exact rc_w17 h0 (rc_faults5 h0 hc hf) h224) hm1 (by rw [e1]; exact rc_mfaults hm1 (by decide)) kk) ?_
  exact RQ.of (fun r kk => tail_17 (get_set hm1) rfl ((set_far (by decide)).trans (get_set h224)) rfl kk) k
theorem step_faults_bad {bl pr up cw dn mcw tp rs mpr : Int32} (hL : L < 2 ^ 30) (h : i + 6 ≤ L) (h0 : H[0]? = some (kO 11 (fvs bl pr up cw cl cp cb))) (hm : H[195]? = some (kO 12 (mfs fa li dn mcw mcl tp rs mpr ve us pi hu ba bo))) (hx : xs (i + 1) < 0 ∨ ¬ xs (i + 1) ≤ 5) 
    (k : RQ (L, xs) 2000 mr_law 33 [(4, .int (nI (i + 6))), (3, .ref 225), (2, .ref 196), (1, .ref 1), (0, .ref 0)] [] (H.set 195 (kO 12 (mfs 1 li dn mcw mcl tp rs mpr ve us pi hu ba bo))) (kc + 1) (ks + 6) Q) :
    RQ (L, xs) 2000 mr_law 1235 [(4, .int (nI i)), (3, .ref 225), (2, .ref 196), (1, .ref 1), (0, .ref 0)] [] H kc ks Q := by
  refine RQ.of (fun r kk => law_op17 (c1 := 1) (s1 := 6) (c2 := 0) (s2 := 0) (kk := 1) (v := 0) (H1 := H) (H2 := (H.set 195 (kO 12 (mfs 1 li dn mcw mcl tp rs mpr ve us pi hu ba bo)))) hL h (by exact rc_w17X0 h0 (rc_faults_bad h0 hx)) hm (by exact rc_mfaults_bad hm (hx.imp_right (fun e g => e ((le_pred (n := 5) (by decide)).mpr g)))) kk) ?_
  exact RQ.of (fun r kk => tailX_17 (get_set hm) rfl (by decide) kk) k
end SC
