/-! ===== begin and cut, as steps of the law; written by wip/gen/begin.py ===== -/
/-- the fields of the class's object -/
def fvs (bl pr up cw cl cp cb : Int32) : List Value := [.int bl, .ref 2, .ref 4, .ref 6, .ref 8, .ref 60, .ref 66, .ref 72, .ref 75, .ref 84, .ref 137, .ref 191, .int pr, .int up, .int cw, .int cl, .int cp, .int cb]
/-- the fields of the reference -/
def mfs (fa li dn cw cl tp rs pr ve us pi hu : Int32) (ba bo : Nat) : List Value := [.int fa, .int li, .int dn, .int cw, .int cl, .ref 197, .int tp, .ref 198, .int rs, .int pr, .int ve, .ref 199, .ref 200, .ref 201, .ref 202, .ref 203, .ref (ba + 1), .ref (bo + 1), .int us, .ref 206, .ref 207, .ref 208, .ref 209, .ref 210, .ref 211, .ref 212, .ref 213, .ref 214, .ref 215, .ref 216, .ref 217, .ref 218, .int pi, .ref 219, .ref 220, .ref 221, .ref 222, .ref 223, .ref 224, .int hu]
theorem rc_leastClosed {sc : Nat × (Nat → Int32)} {d t : Nat} {H : aH} {op : Nat → Bool} {mo : Nat → Nat} (h : SightAt H op mo) (ht : t < 8) (hf : op t = false) (hb : ∀ s, s < t → op s = true) : RC sc d mr_29 [.ref 8] H (.inl (some (.int (nI t)))) H 0 0 := by
  obtain ⟨x, H', h1, h2, h3⟩ := ri_leastClosed (sc := sc) (d := d) h
  rw [h2] at h1
  rcases h3 with ⟨u, hu, h4, h5, h6⟩ | ⟨-, h4⟩
  · have e : u = t := by
      rcases Nat.lt_trichotomy u t with e | e | e
      · rw [hb u e] at h5; cases h5
      · exact e
      · rw [h6 t e] at hf; cases hf
    rw [h4, e] at h1
    exact h1
  · rw [h4 t ht] at hf; cases hf
theorem rc_leastClosedN {sc : Nat × (Nat → Int32)} {d : Nat} {H : aH} {op : Nat → Bool} {mo : Nat → Nat} (h : SightAt H op mo) (hb : ∀ s, s < 8 → op s = true) : RC sc d mr_29 [.ref 8] H (.inl (some (.int (-1)))) H 0 0 := by
  obtain ⟨x, H', h1, h2, h3⟩ := ri_leastClosed (sc := sc) (d := d) h
  rw [h2] at h1
  rcases h3 with ⟨u, hu, h4, h5, h6⟩ | ⟨h4, -⟩
  · rw [hb u hu] at h5; cases h5
  · rw [h4] at h1
    exact h1
theorem rc_begin_ok {sc : Nat × (Nat → Int32)} {d p : Nat} {H : aH} {op : Nat → Bool} {mo : Nat → Nat} {bl cw cl cp cb : Int32} {t b : Nat} {wq : Nat → Option Nat} {fb : List Value} (h0 : H[0]? = some (kO 11 (fvs bl (nI p) 1 cw cl cp cb))) (h : SightAt H op mo) (hw : H[10]? = some (kQ 4 8 wq)) (hq : wq t = some b) (hB : H[b]? = some (kO 0 fb)) (hl : fb.length = 7) (h7 : 7 ≠ b) (h8 : 8 ≠ b) (h9 : 9 ≠ b) (h10 : 10 ≠ b) (ht : t < 8) (hf : op t = false) (hb : ∀ s, s < t → op s = true) : RC sc (d + 2) mr_28 [.ref 1] H (.inl (some (.int (nI t)))) (((H.set 8 (kZ 8 (va_up op t true))).set 9 (kI 8 (va_up (fun j => nI (mo j)) t (nI p)))).set b (kO 0 ((fb.set 5 (.int 0)).set 6 (.int 0)))) 0 0 := by
  refine RP.blk 1 (pc' := 1) (lv' := [(0, .ref 1)]) (st' := [.ref 1]) (H' := _) (kc' := 0) (ks' := 0) rfl ?_
  refine RP.call (v := none) (st' := []) rfl rfl rfl rfl rfl rfl (args_v [] [] rfl rfl (Nat.le_of_ble_eq_true rfl) rfl h0 (Nat.le_of_ble_eq_true rfl)) (rc_up h0 rfl) ?_
  refine RP.blk 1 (pc' := 5) (lv' := [(0, .ref 1)]) (st' := [.ref 1]) (H' := _) (kc' := 0) (ks' := 0) rfl ?_
  refine RP.get (ci := 11) rfl h0 rfl rfl ?_
  refine RP.call (v := some (.int (nI t))) (st' := []) rfl rfl rfl rfl rfl rfl (args_v [] [] rfl rfl (Nat.le_of_ble_eq_true rfl) rfl h.1 (Nat.le_of_ble_eq_true rfl)) (rc_leastClosed h ht hf hb) ?_
  refine RP.blk 2 (pc' := 13) (lv' := [(1, .int (nI t)), (0, .ref 1)]) (st' := [.int (nI t)]) (H' := _) (kc' := 0) (ks' := 0) rfl ?_
  refine RP.brT rfl rfl rfl (cT_ge t 0) ?_
  refine RP.blk 1 (pc' := 27) (lv' := [(1, .int (nI t)), (0, .ref 1)]) (st' := [.ref 1]) (H' := _) (kc' := 0) (ks' := 0) rfl ?_
  refine RP.get (ci := 11) rfl h0 rfl rfl ?_
  refine RP.blk 2 (pc' := 32) (lv' := [(1, .int (nI t)), (0, .ref 1)]) (st' := [.ref 1, .int (nI t), .ref 8]) (H' := _) (kc' := 0) (ks' := 0) rfl ?_
  refine RP.get (ci := 11) rfl h0 rfl rfl ?_
  refine RP.call (v := none) (st' := []) rfl rfl rfl rfl rfl rfl (args_v [.int (nI p), .int (nI t)] [] rfl rfl (Nat.le_of_ble_eq_true rfl) rfl h.1 (Nat.le_of_ble_eq_true rfl)) (rc_start h hw hq hB hl h7 h8 h9 h10 ht) ?_
  refine RP.blk 1 (pc' := 39) (lv' := [(1, .int (nI t)), (0, .ref 1)]) (st' := [.int (nI t)]) (H' := _) (kc' := 0) (ks' := 0) rfl ?_
  exact RP.done (c := 0) (s := 0) rfl rfl rfl rfl
theorem rc_begin_full {sc : Nat × (Nat → Int32)} {d p : Nat} {H : aH} {op : Nat → Bool} {mo : Nat → Nat} {bl cw cl cp cb : Int32} (h0 : H[0]? = some (kO 11 (fvs bl (nI p) 1 cw cl cp cb))) (h : SightAt H op mo) (hb : ∀ s, s < 8 → op s = true) : RC sc (d + 1) mr_28 [.ref 1] H (.inr 2) H 1 6 := by
  refine RP.blk 1 (pc' := 1) (lv' := [(0, .ref 1)]) (st' := [.ref 1]) (H' := _) (kc' := 0) (ks' := 0) rfl ?_
  refine RP.call (v := none) (st' := []) rfl rfl rfl rfl rfl rfl (args_v [] [] rfl rfl (Nat.le_of_ble_eq_true rfl) rfl h0 (Nat.le_of_ble_eq_true rfl)) (rc_up h0 rfl) ?_
  refine RP.blk 1 (pc' := 5) (lv' := [(0, .ref 1)]) (st' := [.ref 1]) (H' := _) (kc' := 0) (ks' := 0) rfl ?_
  refine RP.get (ci := 11) rfl h0 rfl rfl ?_
  refine RP.call (v := some (.int (-1))) (st' := []) rfl rfl rfl rfl rfl rfl (args_v [] [] rfl rfl (Nat.le_of_ble_eq_true rfl) rfl h.1 (Nat.le_of_ble_eq_true rfl)) (rc_leastClosedN h hb) ?_
  refine RP.blk 2 (pc' := 13) (lv' := [(1, .int (-1)), (0, .ref 1)]) (st' := [.int (-1)]) (H' := _) (kc' := 0) (ks' := 0) rfl ?_
  refine RP.brF rfl rfl rfl (by decide) ?_
  exact RP.done (c := 1) (s := 6) rfl rfl rfl rfl
theorem rc_begin_down {sc : Nat × (Nat → Int32)} {d : Nat} {H : aH} {bl pr cw cl cp cb : Int32} (h0 : H[0]? = some (kO 11 (fvs bl (pr) 0 cw cl cp cb))) : RC sc (d + 1) mr_28 [.ref 1] H (.inr 1) H 1 6 := by
  refine RP.blk 1 (pc' := 1) (lv' := [(0, .ref 1)]) (st' := [.ref 1]) (H' := _) (kc' := 0) (ks' := 0) rfl ?_
  exact RP.callP (st' := []) rfl rfl rfl rfl rfl rfl (args_v [] [] rfl rfl (Nat.le_of_ble_eq_true rfl) rfl h0 (Nat.le_of_ble_eq_true rfl)) (rc_down h0 rfl) rfl
theorem rc_mbegin_down {sc : Nat × (Nat → Int32)} {d : Nat} {H : aH} {fa li cw cl tp rs ve us pi hu : Int32} {ba bo : Nat} {pr : Int32} (hm : H[195]? = some (kO 12 (mfs fa li 1 cw cl tp rs pr ve us pi hu ba bo))) : RC sc (d + 1) mr_282 [.ref 196] H (.inl (some (.int 0))) (H.set 195 (kO 12 (mfs 1 li 1 cw cl tp rs pr ve us pi hu ba bo))) 0 0 := by
  refine RP.blk 2 (pc' := 2) (lv' := [(0, .ref 196)]) (st' := [.int 0, .ref 196]) (H' := _) (kc' := 0) (ks' := 0) rfl ?_
  refine RP.put (ci := 12) rfl hm rfl rfl (Nat.le_of_ble_eq_true rfl) ?_
  refine RP.blk 1 (pc' := 6) (lv' := [(0, .ref 196)]) (st' := [.ref 196]) (H' := _) (kc' := 0) (ks' := 0) rfl ?_
  refine RP.get (ci := 12) rfl (get_set hm) rfl rfl ?_
  refine RP.brF rfl rfl rfl (by decide) ?_
  refine RP.blk 2 (pc' := 14) (lv' := [(0, .ref 196)]) (st' := [.int 1, .ref 196]) (H' := _) (kc' := 0) (ks' := 0) rfl ?_
  refine RP.call (v := some (.int 0)) (st' := []) rfl rfl rfl rfl rfl rfl (args_v [.int 1] [] rfl rfl (Nat.le_of_ble_eq_true rfl) rfl (get_set hm) (Nat.le_of_ble_eq_true rfl)) (rc_mfail (get_set hm) rfl) ?_
  rw [set_set]
  exact RP.done (c := 0) (s := 0) rfl rfl rfl rfl
theorem rc_mbegin_ok {sc : Nat × (Nat → Int32)} {d : Nat} {H : aH} {fa li cw cl tp rs ve us pi hu : Int32} {ba bo : Nat} {p : Nat} {op : Nat → Bool} {se : Nat → Nat} {ro fi : Nat → Int32} {t : Nat} (hm : H[195]? = some (kO 12 (mfs fa li 0 cw cl tp rs (nI p) ve us pi hu ba bo))) (h5 : H[205]? = some (kZ 8 op)) (h6 : H[206]? = some (kI 8 (fun j => nI (se j)))) (h7 : H[207]? = some (kI 8 ro)) (h8 : H[208]? = some (kI 8 fi)) (ht : t < 8) (hf : op t = false) (hb : ∀ s, s < t → op s = true) : RC sc (d + 1) mr_282 [.ref 196] H (.inl (some (.int (nI t)))) (((((H.set 195 (kO 12 (mfs 0 li 0 cw cl tp rs (nI p) ve us pi hu ba bo))).set 205 (kZ 8 (va_up op t true))).set 206 (kI 8 (va_up (fun j => nI (se j)) t (nI p)))).set 207 (kI 8 (va_up ro t 0))).set 208 (kI 8 (va_up fi t 0))) 0 0 := by
  refine RP.blk 2 (pc' := 2) (lv' := [(0, .ref 196)]) (st' := [.int 0, .ref 196]) (H' := _) (kc' := 0) (ks' := 0) rfl ?_
  refine RP.put (ci := 12) rfl hm rfl rfl (Nat.le_of_ble_eq_true rfl) ?_
  refine RP.blk 1 (pc' := 6) (lv' := [(0, .ref 196)]) (st' := [.ref 196]) (H' := _) (kc' := 0) (ks' := 0) rfl ?_
  refine RP.get (ci := 12) rfl (get_set hm) rfl rfl ?_
  refine RP.brT rfl rfl rfl (by decide) ?_
  refine RP.blk 2 (pc' := 20) (lv' := [(1, .int 0), (0, .ref 196)]) (st' := []) (H' := _) (kc' := 0) (ks' := 0) rfl ?_
  have start : RP sc (d + 1) mr_282 20 [(1, .int (nI 0)), (0, .ref 196)] [] (H.set 195 (kO 12 (mfs 0 li 0 cw cl tp rs (nI p) ve us pi hu ba bo))) 0 0 (.inl (some (.int (nI t))), (((((H.set 195 (kO 12 (mfs 0 li 0 cw cl tp rs (nI p) ve us pi hu ba bo))).set 205 (kZ 8 (va_up op t true))).set 206 (kI 8 (va_up (fun j => nI (se j)) t (nI p)))).set 207 (kI 8 (va_up ro t 0))).set 208 (kI 8 (va_up fi t 0))), 0, 0) := by
    refine RP.loop 20 (fun i => [(1, .int (nI i)), (0, .ref 196)]) [] (fun _ => (H.set 195 (kO 12 (mfs 0 li 0 cw cl tp rs (nI p) ve us pi hu ba bo)))) 0 0 t (fun i hi kk => ?_) ?_
    ·
      refine RP.blk 2 (pc' := 23) (lv' := [(1, .int (nI i)), (0, .ref 196)]) (st' := [.int 8, .int (nI i)]) (H' := _) (kc' := 0) (ks' := 0) rfl ?_
      refine RP.brF rfl rfl rfl (cF_ge i 8) ?_
      refine RP.blk 1 (pc' := 27) (lv' := [(1, .int (nI i)), (0, .ref 196)]) (st' := [.ref 196]) (H' := _) (kc' := 0) (ks' := 0) rfl ?_
      refine RP.get (ci := 12) rfl (get_set hm) rfl rfl ?_
      refine RP.blk 1 (pc' := 31) (lv' := [(1, .int (nI i)), (0, .ref 196)]) (st' := [.int (nI i), .ref 206]) (H' := _) (kc' := 0) (ks' := 0) rfl ?_
      refine RP.zaldN (j := i) rfl ((set_far (by decide)).trans h5) (by omega) (by decide) ?_
      refine RP.brF rfl rfl rfl (z_eqT (hb i hi)) ?_
      refine RP.blk 2 (pc' := 74) (lv' := [(1, .int (nI i + 1)), (0, .ref 196)]) (st' := []) (H' := _) (kc' := 0) (ks' := 0) rfl ?_
      rw [show (nI i + 1 : Int32) = nI (i + 1) from nI_add i 1]
      refine RP.blk 1 (pc' := 20) (lv' := [(1, .int (nI (i + 1))), (0, .ref 196)]) (st' := []) (H' := _) (kc' := 0) (ks' := 0) rfl ?_
      exact kk
    ·
      refine RP.blk 2 (pc' := 23) (lv' := [(1, .int (nI t)), (0, .ref 196)]) (st' := [.int 8, .int (nI t)]) (H' := _) (kc' := 0) (ks' := 0) rfl ?_
      refine RP.brF rfl rfl rfl (cF_ge t 8) ?_
      refine RP.blk 1 (pc' := 27) (lv' := [(1, .int (nI t)), (0, .ref 196)]) (st' := [.ref 196]) (H' := _) (kc' := 0) (ks' := 0) rfl ?_
      refine RP.get (ci := 12) rfl (get_set hm) rfl rfl ?_
      refine RP.blk 1 (pc' := 31) (lv' := [(1, .int (nI t)), (0, .ref 196)]) (st' := [.int (nI t), .ref 206]) (H' := _) (kc' := 0) (ks' := 0) rfl ?_
      refine RP.zaldN (j := t) rfl ((set_far (by decide)).trans h5) (by omega) (by decide) ?_
      refine RP.brT rfl rfl rfl (z_eqF hf) ?_
      refine RP.blk 1 (pc' := 39) (lv' := [(1, .int (nI t)), (0, .ref 196)]) (st' := [.ref 196]) (H' := _) (kc' := 0) (ks' := 0) rfl ?_
      refine RP.get (ci := 12) rfl (get_set hm) rfl rfl ?_
      refine RP.blk 2 (pc' := 44) (lv' := [(1, .int (nI t)), (0, .ref 196)]) (st' := [.int 1, .int (nI t), .ref 206]) (H' := _) (kc' := 0) (ks' := 0) rfl ?_
      refine RP.zastN (j := t) rfl ((set_far (by decide)).trans h5) (by omega) (by decide) ?_
      refine RP.blk 1 (pc' := 46) (lv' := [(1, .int (nI t)), (0, .ref 196)]) (st' := [.ref 196]) (H' := _) (kc' := 0) (ks' := 0) rfl ?_
      refine RP.get (ci := 12) rfl ((set_far (by decide)).trans (get_set hm)) rfl rfl ?_
      refine RP.blk 2 (pc' := 51) (lv' := [(1, .int (nI t)), (0, .ref 196)]) (st' := [.ref 196, .int (nI t), .ref 207]) (H' := _) (kc' := 0) (ks' := 0) rfl ?_
      refine RP.get (ci := 12) rfl ((set_far (by decide)).trans (get_set hm)) rfl rfl ?_
      refine RP.iastN (j := t) rfl ((set_far (by decide)).trans ((set_far (by decide)).trans h6)) (by omega) (by decide) ?_
      refine RP.blk 1 (pc' := 56) (lv' := [(1, .int (nI t)), (0, .ref 196)]) (st' := [.ref 196]) (H' := _) (kc' := 0) (ks' := 0) rfl ?_
      refine RP.get (ci := 12) rfl ((set_far (by decide)).trans ((set_far (by decide)).trans (get_set hm))) rfl rfl ?_
      refine RP.blk 2 (pc' := 61) (lv' := [(1, .int (nI t)), (0, .ref 196)]) (st' := [.int 0, .int (nI t), .ref 208]) (H' := _) (kc' := 0) (ks' := 0) rfl ?_
      refine RP.iastN (j := t) rfl ((set_far (by decide)).trans ((set_far (by decide)).trans ((set_far (by decide)).trans h7))) (by omega) (by decide) ?_
      refine RP.blk 1 (pc' := 63) (lv' := [(1, .int (nI t)), (0, .ref 196)]) (st' := [.ref 196]) (H' := _) (kc' := 0) (ks' := 0) rfl ?_
      refine RP.get (ci := 12) rfl ((set_far (by decide)).trans ((set_far (by decide)).trans ((set_far (by decide)).trans (get_set hm)))) rfl rfl ?_
      refine RP.blk 2 (pc' := 68) (lv' := [(1, .int (nI t)), (0, .ref 196)]) (st' := [.int 0, .int (nI t), .ref 209]) (H' := _) (kc' := 0) (ks' := 0) rfl ?_
      refine RP.iastN (j := t) rfl ((set_far (by decide)).trans ((set_far (by decide)).trans ((set_far (by decide)).trans ((set_far (by decide)).trans h8)))) (by omega) (by decide) ?_
      refine RP.blk 1 (pc' := 70) (lv' := [(1, .int (nI t)), (0, .ref 196)]) (st' := [.int (nI t)]) (H' := _) (kc' := 0) (ks' := 0) rfl ?_
      exact RP.done (c := 0) (s := 0) rfl rfl rfl rfl
  exact start
theorem rc_mbegin_full {sc : Nat × (Nat → Int32)} {d : Nat} {H : aH} {fa li cw cl tp rs ve us pi hu : Int32} {ba bo : Nat} {p : Nat} {op : Nat → Bool} {se : Nat → Nat} {ro fi : Nat → Int32} (hm : H[195]? = some (kO 12 (mfs fa li 0 cw cl tp rs (nI p) ve us pi hu ba bo))) (h5 : H[205]? = some (kZ 8 op)) (h6 : H[206]? = some (kI 8 (fun j => nI (se j)))) (h7 : H[207]? = some (kI 8 ro)) (h8 : H[208]? = some (kI 8 fi)) (hb : ∀ s, s < 8 → op s = true) : RC sc (d + 1) mr_282 [.ref 196] H (.inl (some (.int 0))) (H.set 195 (kO 12 (mfs 2 li 0 cw cl tp rs (nI p) ve us pi hu ba bo))) 0 0 := by
  refine RP.blk 2 (pc' := 2) (lv' := [(0, .ref 196)]) (st' := [.int 0, .ref 196]) (H' := _) (kc' := 0) (ks' := 0) rfl ?_
  refine RP.put (ci := 12) rfl hm rfl rfl (Nat.le_of_ble_eq_true rfl) ?_
  refine RP.blk 1 (pc' := 6) (lv' := [(0, .ref 196)]) (st' := [.ref 196]) (H' := _) (kc' := 0) (ks' := 0) rfl ?_
  refine RP.get (ci := 12) rfl (get_set hm) rfl rfl ?_
  refine RP.brT rfl rfl rfl (by decide) ?_
  refine RP.blk 2 (pc' := 20) (lv' := [(1, .int 0), (0, .ref 196)]) (st' := []) (H' := _) (kc' := 0) (ks' := 0) rfl ?_
  have start : RP sc (d + 1) mr_282 20 [(1, .int (nI 0)), (0, .ref 196)] [] (H.set 195 (kO 12 (mfs 0 li 0 cw cl tp rs (nI p) ve us pi hu ba bo))) 0 0 (.inl (some (.int 0)), H.set 195 (kO 12 (mfs 2 li 0 cw cl tp rs (nI p) ve us pi hu ba bo)), 0, 0) := by
    refine RP.loop 20 (fun i => [(1, .int (nI i)), (0, .ref 196)]) [] (fun _ => (H.set 195 (kO 12 (mfs 0 li 0 cw cl tp rs (nI p) ve us pi hu ba bo)))) 0 0 8 (fun i hi kk => ?_) ?_
    ·
      refine RP.blk 2 (pc' := 23) (lv' := [(1, .int (nI i)), (0, .ref 196)]) (st' := [.int 8, .int (nI i)]) (H' := _) (kc' := 0) (ks' := 0) rfl ?_
      refine RP.brF rfl rfl rfl (cF_ge i 8) ?_
      refine RP.blk 1 (pc' := 27) (lv' := [(1, .int (nI i)), (0, .ref 196)]) (st' := [.ref 196]) (H' := _) (kc' := 0) (ks' := 0) rfl ?_
      refine RP.get (ci := 12) rfl (get_set hm) rfl rfl ?_
      refine RP.blk 1 (pc' := 31) (lv' := [(1, .int (nI i)), (0, .ref 196)]) (st' := [.int (nI i), .ref 206]) (H' := _) (kc' := 0) (ks' := 0) rfl ?_
      refine RP.zaldN (j := i) rfl ((set_far (by decide)).trans h5) (by omega) (by decide) ?_
      refine RP.brF rfl rfl rfl (z_eqT (hb i hi)) ?_
      refine RP.blk 2 (pc' := 74) (lv' := [(1, .int (nI i + 1)), (0, .ref 196)]) (st' := []) (H' := _) (kc' := 0) (ks' := 0) rfl ?_
      rw [show (nI i + 1 : Int32) = nI (i + 1) from nI_add i 1]
      refine RP.blk 1 (pc' := 20) (lv' := [(1, .int (nI (i + 1))), (0, .ref 196)]) (st' := []) (H' := _) (kc' := 0) (ks' := 0) rfl ?_
      exact kk
    ·
      refine RP.blk 2 (pc' := 23) (lv' := [(1, .int (nI 8)), (0, .ref 196)]) (st' := [.int 8, .int (nI 8)]) (H' := _) (kc' := 0) (ks' := 0) rfl ?_
      refine RP.brT rfl rfl rfl (cT_ge 8 8) ?_
      refine RP.blk 2 (pc' := 79) (lv' := [(1, .int (nI 8)), (0, .ref 196)]) (st' := [.int 2, .ref 196]) (H' := _) (kc' := 0) (ks' := 0) rfl ?_
      refine RP.call (v := some (.int 0)) (st' := []) rfl rfl rfl rfl rfl rfl (args_v [.int 2] [] rfl rfl (Nat.le_of_ble_eq_true rfl) rfl (get_set hm) (Nat.le_of_ble_eq_true rfl)) (rc_mfail (get_set hm) rfl) ?_
      rw [set_set]
      exact RP.done (c := 0) (s := 0) rfl rfl rfl rfl
  exact start
theorem rc_cut_bad {sc : Nat × (Nat → Int32)} {d : Nat} {H : aH} {bl pr up cw cl cp cb x y z : Int32} (h0 : H[0]? = some (kO 11 (fvs bl pr up cw cl cp cb))) (hx : y < 0 ∨ z < 0) : RC sc (d + 1) mr_176 [.ref 1, .int x, .int y, .int z] H (.inr 0) H 1 6 := by
  refine RP.blk 4 (pc' := 6) (lv' := [(0, .ref 1), (1, .int x), (2, .int y), (3, .int z)]) (st' := [.int 2147483647, .int 0, .int y, .ref 1]) (H' := _) (kc' := 0) (ks' := 0) rfl ?_
  by_cases hy : y < 0
  ·
    exact RP.callP (st' := []) rfl rfl rfl rfl rfl rfl (args_v [.int 2147483647, .int 0, .int y] [] rfl rfl (Nat.le_of_ble_eq_true rfl) rfl h0 (Nat.le_of_ble_eq_true rfl)) (rc_rangeX (Or.inl hy)) rfl
  ·
    refine RP.call (v := none) (st' := []) rfl rfl rfl rfl rfl rfl (args_v [.int 2147483647, .int 0, .int y] [] rfl rfl (Nat.le_of_ble_eq_true rfl) rfl h0 (Nat.le_of_ble_eq_true rfl)) (rc_range (hi := 2147483647) hy (Int32.not_lt.mp i32_max)) ?_
    refine RP.blk 4 (pc' := 15) (lv' := [(0, .ref 1), (1, .int x), (2, .int y), (3, .int z)]) (st' := [.int 2147483647, .int 0, .int z, .ref 1]) (H' := _) (kc' := 0) (ks' := 0) rfl ?_
    exact RP.callP (st' := []) rfl rfl rfl rfl rfl rfl (args_v [.int 2147483647, .int 0, .int z] [] rfl rfl (Nat.le_of_ble_eq_true rfl) rfl h0 (Nat.le_of_ble_eq_true rfl)) (rc_rangeX (Or.inl (hx.resolve_left hy))) rfl
theorem rc_cut0 {sc : Nat × (Nat → Int32)} {d : Nat} {H : aH} {bl pr up cl cp cb x y z : Int32} (h0 : H[0]? = some (kO 11 (fvs bl pr up 0 cl cp cb))) (hx : x = 0 ∨ x = 1) (hy : ¬ y < 0) (hz : ¬ z < 0) : RC sc (d + 1) mr_176 [.ref 1, .int x, .int y, .int z] H (.inl (some (.int 0))) (H.set 0 (kO 11 (fvs bl pr up 1 x y z))) 0 0 := by
  refine RP.blk 4 (pc' := 6) (lv' := [(0, .ref 1), (1, .int x), (2, .int y), (3, .int z)]) (st' := [.int 2147483647, .int 0, .int y, .ref 1]) (H' := _) (kc' := 0) (ks' := 0) rfl ?_
  refine RP.call (v := none) (st' := []) rfl rfl rfl rfl rfl rfl (args_v [.int 2147483647, .int 0, .int y] [] rfl rfl (Nat.le_of_ble_eq_true rfl) rfl h0 (Nat.le_of_ble_eq_true rfl)) (rc_range (hi := 2147483647) hy (Int32.not_lt.mp i32_max)) ?_
  refine RP.blk 4 (pc' := 15) (lv' := [(0, .ref 1), (1, .int x), (2, .int y), (3, .int z)]) (st' := [.int 2147483647, .int 0, .int z, .ref 1]) (H' := _) (kc' := 0) (ks' := 0) rfl ?_
  refine RP.call (v := none) (st' := []) rfl rfl rfl rfl rfl rfl (args_v [.int 2147483647, .int 0, .int z] [] rfl rfl (Nat.le_of_ble_eq_true rfl) rfl h0 (Nat.le_of_ble_eq_true rfl)) (rc_range (hi := 2147483647) hz (Int32.not_lt.mp i32_max)) ?_
  refine RP.blk 1 (pc' := 19) (lv' := [(0, .ref 1), (1, .int x), (2, .int y), (3, .int z)]) (st' := [.ref 1]) (H' := _) (kc' := 0) (ks' := 0) rfl ?_
  refine RP.get (ci := 11) rfl h0 rfl rfl ?_
  refine RP.brT rfl rfl rfl (by decide) ?_
  refine RP.blk 4 (pc' := 34) (lv' := [(4, .int 0), (0, .ref 1), (1, .int x), (2, .int y), (3, .int z)]) (st' := [.int 1, .ref 1]) (H' := _) (kc' := 0) (ks' := 0) rfl ?_
  refine RP.put (ci := 11) rfl h0 rfl rfl (Nat.le_of_ble_eq_true rfl) ?_
  refine RP.blk 2 (pc' := 39) (lv' := [(4, .int 0), (0, .ref 1), (1, .int x), (2, .int y), (3, .int z)]) (st' := [.int x, .ref 1]) (H' := _) (kc' := 0) (ks' := 0) rfl ?_
  refine RP.put (ci := 11) rfl (get_set h0) rfl (by rcases hx with rfl | rfl <;> rfl) (Nat.le_of_ble_eq_true rfl) ?_
  refine RP.blk 2 (pc' := 44) (lv' := [(4, .int 0), (0, .ref 1), (1, .int x), (2, .int y), (3, .int z)]) (st' := [.int y, .ref 1]) (H' := _) (kc' := 0) (ks' := 0) rfl ?_
  refine RP.put (ci := 11) rfl (get_set (get_set h0)) rfl rfl (Nat.le_of_ble_eq_true rfl) ?_
  refine RP.blk 2 (pc' := 49) (lv' := [(4, .int 0), (0, .ref 1), (1, .int x), (2, .int y), (3, .int z)]) (st' := [.int z, .ref 1]) (H' := _) (kc' := 0) (ks' := 0) rfl ?_
  refine RP.put (ci := 11) rfl (get_set (get_set (get_set h0))) rfl rfl (Nat.le_of_ble_eq_true rfl) ?_
  refine RP.blk 1 (pc' := 54) (lv' := [(4, .int 0), (0, .ref 1), (1, .int x), (2, .int y), (3, .int z)]) (st' := [.int 0]) (H' := _) (kc' := 0) (ks' := 0) rfl ?_
  rw [set_set, set_set, set_set]
  exact RP.done (c := 0) (s := 0) rfl rfl rfl rfl
theorem rc_cut1 {sc : Nat × (Nat → Int32)} {d : Nat} {H : aH} {bl pr up cl cp cb x y z : Int32} (h0 : H[0]? = some (kO 11 (fvs bl pr up 1 cl cp cb))) (hx : x = 0 ∨ x = 1) (hy : ¬ y < 0) (hz : ¬ z < 0) : RC sc (d + 1) mr_176 [.ref 1, .int x, .int y, .int z] H (.inl (some (.int 1))) (H.set 0 (kO 11 (fvs bl pr up 1 x y z))) 0 0 := by
  refine RP.blk 4 (pc' := 6) (lv' := [(0, .ref 1), (1, .int x), (2, .int y), (3, .int z)]) (st' := [.int 2147483647, .int 0, .int y, .ref 1]) (H' := _) (kc' := 0) (ks' := 0) rfl ?_
  refine RP.call (v := none) (st' := []) rfl rfl rfl rfl rfl rfl (args_v [.int 2147483647, .int 0, .int y] [] rfl rfl (Nat.le_of_ble_eq_true rfl) rfl h0 (Nat.le_of_ble_eq_true rfl)) (rc_range (hi := 2147483647) hy (Int32.not_lt.mp i32_max)) ?_
  refine RP.blk 4 (pc' := 15) (lv' := [(0, .ref 1), (1, .int x), (2, .int y), (3, .int z)]) (st' := [.int 2147483647, .int 0, .int z, .ref 1]) (H' := _) (kc' := 0) (ks' := 0) rfl ?_
  refine RP.call (v := none) (st' := []) rfl rfl rfl rfl rfl rfl (args_v [.int 2147483647, .int 0, .int z] [] rfl rfl (Nat.le_of_ble_eq_true rfl) rfl h0 (Nat.le_of_ble_eq_true rfl)) (rc_range (hi := 2147483647) hz (Int32.not_lt.mp i32_max)) ?_
  refine RP.blk 1 (pc' := 19) (lv' := [(0, .ref 1), (1, .int x), (2, .int y), (3, .int z)]) (st' := [.ref 1]) (H' := _) (kc' := 0) (ks' := 0) rfl ?_
  refine RP.get (ci := 11) rfl h0 rfl rfl ?_
  refine RP.brF rfl rfl rfl (by decide) ?_
  refine RP.blk 5 (pc' := 34) (lv' := [(4, .int 1), (0, .ref 1), (1, .int x), (2, .int y), (3, .int z)]) (st' := [.int 1, .ref 1]) (H' := _) (kc' := 0) (ks' := 0) rfl ?_
  refine RP.put (ci := 11) rfl h0 rfl rfl (Nat.le_of_ble_eq_true rfl) ?_
  refine RP.blk 2 (pc' := 39) (lv' := [(4, .int 1), (0, .ref 1), (1, .int x), (2, .int y), (3, .int z)]) (st' := [.int x, .ref 1]) (H' := _) (kc' := 0) (ks' := 0) rfl ?_
  refine RP.put (ci := 11) rfl (get_set h0) rfl (by rcases hx with rfl | rfl <;> rfl) (Nat.le_of_ble_eq_true rfl) ?_
  refine RP.blk 2 (pc' := 44) (lv' := [(4, .int 1), (0, .ref 1), (1, .int x), (2, .int y), (3, .int z)]) (st' := [.int y, .ref 1]) (H' := _) (kc' := 0) (ks' := 0) rfl ?_
  refine RP.put (ci := 11) rfl (get_set (get_set h0)) rfl rfl (Nat.le_of_ble_eq_true rfl) ?_
  refine RP.blk 2 (pc' := 49) (lv' := [(4, .int 1), (0, .ref 1), (1, .int x), (2, .int y), (3, .int z)]) (st' := [.int z, .ref 1]) (H' := _) (kc' := 0) (ks' := 0) rfl ?_
  refine RP.put (ci := 11) rfl (get_set (get_set (get_set h0))) rfl rfl (Nat.le_of_ble_eq_true rfl) ?_
  refine RP.blk 1 (pc' := 54) (lv' := [(4, .int 1), (0, .ref 1), (1, .int x), (2, .int y), (3, .int z)]) (st' := [.int 1]) (H' := _) (kc' := 0) (ks' := 0) rfl ?_
  rw [set_set, set_set, set_set]
  exact RP.done (c := 0) (s := 0) rfl rfl rfl rfl
theorem rc_mcut_bad {sc : Nat × (Nat → Int32)} {d : Nat} {H : aH} {fa li dn cw cl tp rs pr ve us pi hu x y z : Int32} {ba bo : Nat} (hm : H[195]? = some (kO 12 (mfs fa li dn cw cl tp rs pr ve us pi hu ba bo))) (hx : y < 0 ∨ z < 0) : RC sc (d + 1) mr_267 [.ref 196, .int x, .int y, .int z] H (.inl (some (.int 0))) (H.set 195 (kO 12 (mfs 1 li dn cw cl tp rs pr ve us pi hu ba bo))) 0 0 := by
  refine RP.blk 2 (pc' := 2) (lv' := [(0, .ref 196), (1, .int x), (2, .int y), (3, .int z)]) (st' := [.int 0, .ref 196]) (H' := _) (kc' := 0) (ks' := 0) rfl ?_
  refine RP.put (ci := 12) rfl hm rfl rfl (Nat.le_of_ble_eq_true rfl) ?_
  refine RP.blk 1 (pc' := 6) (lv' := [(0, .ref 196), (1, .int x), (2, .int y), (3, .int z)]) (st' := [.int y]) (H' := _) (kc' := 0) (ks' := 0) rfl ?_
  by_cases hy : y < 0
  ·
    refine RP.brT rfl rfl rfl (decide_eq_true hy) ?_
    refine RP.blk 2 (pc' := 15) (lv' := [(0, .ref 196), (1, .int x), (2, .int y), (3, .int z)]) (st' := [.int 1, .ref 196]) (H' := _) (kc' := 0) (ks' := 0) rfl ?_
    refine RP.call (v := some (.int 0)) (st' := []) rfl rfl rfl rfl rfl rfl (args_v [.int 1] [] rfl rfl (Nat.le_of_ble_eq_true rfl) rfl (get_set hm) (Nat.le_of_ble_eq_true rfl)) (rc_mfail (get_set hm) rfl) ?_
    rw [set_set]
    exact RP.done (c := 0) (s := 0) rfl rfl rfl rfl
  ·
    refine RP.brF rfl rfl rfl (decide_eq_false hy) ?_
    refine RP.blk 1 (pc' := 10) (lv' := [(0, .ref 196), (1, .int x), (2, .int y), (3, .int z)]) (st' := [.int z]) (H' := _) (kc' := 0) (ks' := 0) rfl ?_
    refine RP.brF rfl rfl rfl (decide_eq_false (Int32.not_le.mpr (hx.resolve_left hy))) ?_
    refine RP.blk 2 (pc' := 15) (lv' := [(0, .ref 196), (1, .int x), (2, .int y), (3, .int z)]) (st' := [.int 1, .ref 196]) (H' := _) (kc' := 0) (ks' := 0) rfl ?_
    refine RP.call (v := some (.int 0)) (st' := []) rfl rfl rfl rfl rfl rfl (args_v [.int 1] [] rfl rfl (Nat.le_of_ble_eq_true rfl) rfl (get_set hm) (Nat.le_of_ble_eq_true rfl)) (rc_mfail (get_set hm) rfl) ?_
    rw [set_set]
    exact RP.done (c := 0) (s := 0) rfl rfl rfl rfl
theorem rc_mcut0 {sc : Nat × (Nat → Int32)} {d : Nat} {H : aH} {fa li dn cl tp rs pr ve us pi hu x y z : Int32} {ba bo : Nat} (hm : H[195]? = some (kO 12 (mfs fa li dn 0 cl tp rs pr ve us pi hu ba bo))) (hx : x = 0 ∨ x = 1) (hy : ¬ y < 0) (hz : ¬ z < 0) : RC sc (d + 1) mr_267 [.ref 196, .int x, .int y, .int z] H (.inl (some (.int 0))) (H.set 195 (kO 12 (mfs 0 li dn 1 x tp rs pr ve us pi hu ba bo))) 0 0 := by
  refine RP.blk 2 (pc' := 2) (lv' := [(0, .ref 196), (1, .int x), (2, .int y), (3, .int z)]) (st' := [.int 0, .ref 196]) (H' := _) (kc' := 0) (ks' := 0) rfl ?_
  refine RP.put (ci := 12) rfl hm rfl rfl (Nat.le_of_ble_eq_true rfl) ?_
  refine RP.blk 1 (pc' := 6) (lv' := [(0, .ref 196), (1, .int x), (2, .int y), (3, .int z)]) (st' := [.int y]) (H' := _) (kc' := 0) (ks' := 0) rfl ?_
  refine RP.brF rfl rfl rfl (decide_eq_false hy) ?_
  refine RP.blk 1 (pc' := 10) (lv' := [(0, .ref 196), (1, .int x), (2, .int y), (3, .int z)]) (st' := [.int z]) (H' := _) (kc' := 0) (ks' := 0) rfl ?_
  refine RP.brT rfl rfl rfl (decide_eq_true (Int32.not_lt.mp hz)) ?_
  refine RP.blk 1 (pc' := 20) (lv' := [(0, .ref 196), (1, .int x), (2, .int y), (3, .int z)]) (st' := [.ref 196]) (H' := _) (kc' := 0) (ks' := 0) rfl ?_
  refine RP.get (ci := 12) rfl (get_set hm) rfl rfl ?_
  refine RP.brT rfl rfl rfl (by decide) ?_
  refine RP.blk 4 (pc' := 35) (lv' := [(4, .int 0), (0, .ref 196), (1, .int x), (2, .int y), (3, .int z)]) (st' := [.int 1, .ref 196]) (H' := _) (kc' := 0) (ks' := 0) rfl ?_
  refine RP.put (ci := 12) rfl (get_set hm) rfl rfl (Nat.le_of_ble_eq_true rfl) ?_
  refine RP.blk 2 (pc' := 40) (lv' := [(4, .int 0), (0, .ref 196), (1, .int x), (2, .int y), (3, .int z)]) (st' := [.int x, .ref 196]) (H' := _) (kc' := 0) (ks' := 0) rfl ?_
  refine RP.put (ci := 12) rfl (get_set (get_set hm)) rfl (by rcases hx with rfl | rfl <;> rfl) (Nat.le_of_ble_eq_true rfl) ?_
  refine RP.blk 1 (pc' := 45) (lv' := [(4, .int 0), (0, .ref 196), (1, .int x), (2, .int y), (3, .int z)]) (st' := [.int 0]) (H' := _) (kc' := 0) (ks' := 0) rfl ?_
  rw [set_set, set_set]
  exact RP.done (c := 0) (s := 0) rfl rfl rfl rfl
theorem rc_mcut1 {sc : Nat × (Nat → Int32)} {d : Nat} {H : aH} {fa li dn cl tp rs pr ve us pi hu x y z : Int32} {ba bo : Nat} (hm : H[195]? = some (kO 12 (mfs fa li dn 1 cl tp rs pr ve us pi hu ba bo))) (hx : x = 0 ∨ x = 1) (hy : ¬ y < 0) (hz : ¬ z < 0) : RC sc (d + 1) mr_267 [.ref 196, .int x, .int y, .int z] H (.inl (some (.int 1))) (H.set 195 (kO 12 (mfs 0 li dn 1 x tp rs pr ve us pi hu ba bo))) 0 0 := by
  refine RP.blk 2 (pc' := 2) (lv' := [(0, .ref 196), (1, .int x), (2, .int y), (3, .int z)]) (st' := [.int 0, .ref 196]) (H' := _) (kc' := 0) (ks' := 0) rfl ?_
  refine RP.put (ci := 12) rfl hm rfl rfl (Nat.le_of_ble_eq_true rfl) ?_
  refine RP.blk 1 (pc' := 6) (lv' := [(0, .ref 196), (1, .int x), (2, .int y), (3, .int z)]) (st' := [.int y]) (H' := _) (kc' := 0) (ks' := 0) rfl ?_
  refine RP.brF rfl rfl rfl (decide_eq_false hy) ?_
  refine RP.blk 1 (pc' := 10) (lv' := [(0, .ref 196), (1, .int x), (2, .int y), (3, .int z)]) (st' := [.int z]) (H' := _) (kc' := 0) (ks' := 0) rfl ?_
  refine RP.brT rfl rfl rfl (decide_eq_true (Int32.not_lt.mp hz)) ?_
  refine RP.blk 1 (pc' := 20) (lv' := [(0, .ref 196), (1, .int x), (2, .int y), (3, .int z)]) (st' := [.ref 196]) (H' := _) (kc' := 0) (ks' := 0) rfl ?_
  refine RP.get (ci := 12) rfl (get_set hm) rfl rfl ?_
  refine RP.brF rfl rfl rfl (by decide) ?_
  refine RP.blk 5 (pc' := 35) (lv' := [(4, .int 1), (0, .ref 196), (1, .int x), (2, .int y), (3, .int z)]) (st' := [.int 1, .ref 196]) (H' := _) (kc' := 0) (ks' := 0) rfl ?_
  refine RP.put (ci := 12) rfl (get_set hm) rfl rfl (Nat.le_of_ble_eq_true rfl) ?_
  refine RP.blk 2 (pc' := 40) (lv' := [(4, .int 1), (0, .ref 196), (1, .int x), (2, .int y), (3, .int z)]) (st' := [.int x, .ref 196]) (H' := _) (kc' := 0) (ks' := 0) rfl ?_
  refine RP.put (ci := 12) rfl (get_set (get_set hm)) rfl (by rcases hx with rfl | rfl <;> rfl) (Nat.le_of_ble_eq_true rfl) ?_
  refine RP.blk 1 (pc' := 45) (lv' := [(4, .int 1), (0, .ref 196), (1, .int x), (2, .int y), (3, .int z)]) (st' := [.int 1]) (H' := _) (kc' := 0) (ks' := 0) rfl ?_
  rw [set_set, set_set]
  exact RP.done (c := 0) (s := 0) rfl rfl rfl rfl
