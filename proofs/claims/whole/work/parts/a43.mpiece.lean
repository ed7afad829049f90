/-! ===== files: is it one (class); where a piece lies, the lesser (reference); written by wip/gen/mpiece.py ===== -/
theorem rc_requireFile1 {sc : Nat × (Nat → Int32)} {d v : Nat} {H : aH} {bl pr up cw cl cp cb : Int32} {kd pa sz nl : Nat → Nat} {nm : Nat → Int8} {no : Nat} (h0 : H[0]? = some (kO 11 (fvs bl pr up cw cl cp cb))) (h : TreeAt H kd pa sz nl nm no) (hk : TreeOk kd pa sz nl) (hv : v ≤ 200) (hf : kd v = 1) : RC sc (d + 3) mr_239 [.ref 1, .int (nI v)] H (.inl none) H 0 0 := by
  refine RP.blk 1 (pc' := 1) (lv' := [(0, .ref 1), (1, .int (nI v))]) (st' := [.ref 1]) (H' := _) (kc' := 0) (ks' := 0) rfl ?_
  refine RP.get (ci := 11) rfl h0 rfl rfl ?_
  refine RP.blk 1 (pc' := 5) (lv' := [(0, .ref 1), (1, .int (nI v))]) (st' := [.int (nI v), .ref 66]) (H' := _) (kc' := 0) (ks' := 0) rfl ?_
  refine RP.call (v := some (.int (if kd v = 1 then 1 else 0))) (st' := []) rfl rfl rfl rfl rfl rfl (args_v [.int (nI v)] [] rfl rfl (Nat.le_of_ble_eq_true rfl) rfl h.1 (Nat.le_of_ble_eq_true rfl)) (rc_isFile h hk hv) ?_
  rw [if_pos hf]
  refine RP.brT rfl rfl rfl (by decide) ?_
  exact RP.done (c := 0) (s := 0) rfl rfl rfl rfl
theorem rc_requireFile0 {sc : Nat × (Nat → Int32)} {d v : Nat} {H : aH} {bl pr up cw cl cp cb : Int32} {kd pa sz nl : Nat → Nat} {nm : Nat → Int8} {no : Nat} (h0 : H[0]? = some (kO 11 (fvs bl pr up cw cl cp cb))) (h : TreeAt H kd pa sz nl nm no) (hk : TreeOk kd pa sz nl) (hv : v ≤ 200) (hf : ¬ kd v = 1) : RC sc (d + 3) mr_239 [.ref 1, .int (nI v)] H (.inr 3) H 1 6 := by
  refine RP.blk 1 (pc' := 1) (lv' := [(0, .ref 1), (1, .int (nI v))]) (st' := [.ref 1]) (H' := _) (kc' := 0) (ks' := 0) rfl ?_
  refine RP.get (ci := 11) rfl h0 rfl rfl ?_
  refine RP.blk 1 (pc' := 5) (lv' := [(0, .ref 1), (1, .int (nI v))]) (st' := [.int (nI v), .ref 66]) (H' := _) (kc' := 0) (ks' := 0) rfl ?_
  refine RP.call (v := some (.int (if kd v = 1 then 1 else 0))) (st' := []) rfl rfl rfl rfl rfl rfl (args_v [.int (nI v)] [] rfl rfl (Nat.le_of_ble_eq_true rfl) rfl h.1 (Nat.le_of_ble_eq_true rfl)) (rc_isFile h hk hv) ?_
  rw [if_neg hf]
  refine RP.brF rfl rfl rfl (by decide) ?_
  exact RP.done (c := 1) (s := 6) rfl rfl rfl rfl
theorem rc_mleast {sc : Nat × (Nat → Int32)} {d a b : Nat} {H : aH} (ha : a < 2 ^ 31) (hb : b < 2 ^ 31) : RC sc d mr_318 [.ref 196, .int (nI a), .int (nI b)] H (.inl (some (.int (nI (min a b))))) H 0 0 := by
  refine RC.of ?_
  refine RQ.blk 2 (pc' := 2) (lv' := [(0, .ref 196), (1, .int (nI a)), (2, .int (nI b))]) (st' := [.int (nI b), .int (nI a)]) (H' := _) (kc' := 0) (ks' := 0) rfl ?_
  by_cases hab : a < b
  · rw [show min a b = a by omega]
    refine RQ.brF rfl rfl rfl (cF_ge a b) ?_
    refine RQ.blk 2 (pc' := 10) (lv' := [(0, .ref 196), (1, .int (nI a)), (2, .int (nI b))]) (st' := [.int (nI a)]) (H' := _) (kc' := 0) (ks' := 0) rfl ?_
    exact RQ.done (c := 0) (s := 0) rfl rfl rfl rfl rfl
  · rw [show min a b = b by omega]
    refine RQ.brT rfl rfl rfl (cT_ge a b) ?_
    refine RQ.blk 1 (pc' := 10) (lv' := [(0, .ref 196), (1, .int (nI a)), (2, .int (nI b))]) (st' := [.int (nI b)]) (H' := _) (kc' := 0) (ks' := 0) rfl ?_
    exact RQ.done (c := 0) (s := 0) rfl rfl rfl rfl rfl
theorem rc_mpiece {sc : Nat × (Nat → Int32)} {d f x M : Nat} {H : aH} {fa li dn cw cl tp rs pr ve us hu : Int32} {pi ba bo : Nat} {pf px : Nat → Nat} (hm : H[195]? = some (kO 12 (mfs fa li dn cw cl tp rs pr ve us (nI pi) hu ba bo))) (hF : H[218]? = some (kI M (fun j => nI (pf j)))) (hX : H[219]? = some (kI M (fun j => nI (px j)))) (hM : M < 2 ^ 30) (hpi : pi ≤ M) (hf : f < 2 ^ 31) (hx : x < 2 ^ 31) (hb : ∀ j, j < pi → pf j < 2 ^ 31 ∧ px j < 2 ^ 31) : RC sc d mr_324 [.ref 196, .int (nI f), .int (nI x)] H (.inl (some (.int (lI (fstF (fun j => decide (pf j = f) && decide (px j = x)) 0 pi))))) H 0 0 := by
  refine RC.of ?_
  refine RQ.blk 2 (pc' := 2) (lv' := [(3, .int 0), (0, .ref 196), (1, .int (nI f)), (2, .int (nI x))]) (st' := []) (H' := _) (kc' := 0) (ks' := 0) rfl ?_
  refine RQ.while (S := Nat) (pc := 2) (fun i H' => i ≤ pi ∧ fstF (fun j => decide (pf j = f) && decide (px j = x)) 0 pi = fstF (fun j => decide (pf j = f) && decide (px j = x)) i (pi - i) ∧ H' = H) (fun i => [(3, .int (nI i)), (0, .ref 196), (1, .int (nI f)), (2, .int (nI x))]) (fun i => pi - i) ?_ 0 H ⟨Nat.zero_le _, rfl, rfl⟩
  rintro i H2 ⟨hi, he, eH⟩ ih
  rw [eH]
  by_cases hip : i < pi
  ·
    have hbi := hb i hip
    refine RQ.blk 2 (pc' := 4) (lv' := [(3, .int (nI i)), (0, .ref 196), (1, .int (nI f)), (2, .int (nI x))]) (st' := [.ref 196, .int (nI i)]) (H' := _) (kc' := 0) (ks' := 0) rfl ?_
    refine RQ.get (ci := 12) rfl hm rfl rfl ?_
    refine RQ.brF rfl rfl rfl (cF_ge i pi) ?_
    refine RQ.blk 1 (pc' := 11) (lv' := [(3, .int (nI i)), (0, .ref 196), (1, .int (nI f)), (2, .int (nI x))]) (st' := [.ref 196]) (H' := _) (kc' := 0) (ks' := 0) rfl ?_
    refine RQ.get (ci := 12) rfl hm rfl rfl ?_
    refine RQ.blk 1 (pc' := 15) (lv' := [(3, .int (nI i)), (0, .ref 196), (1, .int (nI f)), (2, .int (nI x))]) (st' := [.int (nI i), .ref 219]) (H' := _) (kc' := 0) (ks' := 0) rfl ?_
    refine RQ.ialdN (j := i) rfl hF (by omega) (by omega) ?_
    refine RQ.blk 1 (pc' := 17) (lv' := [(3, .int (nI i)), (0, .ref 196), (1, .int (nI f)), (2, .int (nI x))]) (st' := [.int (nI f), .int (nI (pf i))]) (H' := _) (kc' := 0) (ks' := 0) rfl ?_
    by_cases k1 : pf i = f
    · refine RQ.brF rfl rfl rfl (cF_ne (pf i) f) ?_
      refine RQ.blk 1 (pc' := 21) (lv' := [(3, .int (nI i)), (0, .ref 196), (1, .int (nI f)), (2, .int (nI x))]) (st' := [.ref 196]) (H' := _) (kc' := 0) (ks' := 0) rfl ?_
      refine RQ.get (ci := 12) rfl hm rfl rfl ?_
      refine RQ.blk 1 (pc' := 25) (lv' := [(3, .int (nI i)), (0, .ref 196), (1, .int (nI f)), (2, .int (nI x))]) (st' := [.int (nI i), .ref 220]) (H' := _) (kc' := 0) (ks' := 0) rfl ?_
      refine RQ.ialdN (j := i) rfl hX (by omega) (by omega) ?_
      refine RQ.blk 1 (pc' := 27) (lv' := [(3, .int (nI i)), (0, .ref 196), (1, .int (nI f)), (2, .int (nI x))]) (st' := [.int (nI x), .int (nI (px i))]) (H' := _) (kc' := 0) (ks' := 0) rfl ?_
      by_cases k2 : px i = x
      · refine RQ.brF rfl rfl rfl (cF_ne (px i) x) ?_
        refine RQ.blk 1 (pc' := 31) (lv' := [(3, .int (nI i)), (0, .ref 196), (1, .int (nI f)), (2, .int (nI x))]) (st' := [.int (nI i)]) (H' := _) (kc' := 0) (ks' := 0) rfl ?_
        have hh : fstF (fun j => decide (pf j = f) && decide (px j = x)) i (pi - i) = some i := fstF_hit (by omega) (by show (decide (pf i = f) && decide (px i = x)) = true; rw [decide_eq_true k1, decide_eq_true k2]; rfl)
        rw [he, hh]
        exact RQ.done (c := 0) (s := 0) rfl rfl rfl rfl rfl
      · refine RQ.brT rfl rfl rfl (cT_ne (px i) x) ?_
        refine RQ.blk 1 (pc' := 35) (lv' := [(3, .int (nI i + 1)), (0, .ref 196), (1, .int (nI f)), (2, .int (nI x))]) (st' := []) (H' := _) (kc' := 0) (ks' := 0) rfl ?_
        rw [show (nI i + 1 : Int32) = nI (i + 1) from nI_add i 1]
        refine RQ.blk 1 (pc' := 2) (lv' := [(3, .int (nI (i + 1))), (0, .ref 196), (1, .int (nI f)), (2, .int (nI x))]) (st' := []) (H' := _) (kc' := 0) (ks' := 0) rfl ?_
        refine RQ.pick (a := [(3, .int (nI (i + 1))), (0, .ref 196), (1, .int (nI f)), (2, .int (nI x))]) [0, 1, 2, 3] [3, 0, 1, 2] rfl rfl (by decide) ?_
        exact ih (i + 1) _ ⟨by omega, by rw [he, fstF_miss (by omega) (by show (decide (pf i = f) && decide (px i = x)) = false; rw [decide_eq_false k2, Bool.and_false]), show pi - i - 1 = pi - (i + 1) by omega], rfl⟩ (by omega)
    · refine RQ.brT rfl rfl rfl (cT_ne (pf i) f) ?_
      refine RQ.blk 1 (pc' := 35) (lv' := [(3, .int (nI i + 1)), (0, .ref 196), (1, .int (nI f)), (2, .int (nI x))]) (st' := []) (H' := _) (kc' := 0) (ks' := 0) rfl ?_
      rw [show (nI i + 1 : Int32) = nI (i + 1) from nI_add i 1]
      refine RQ.blk 1 (pc' := 2) (lv' := [(3, .int (nI (i + 1))), (0, .ref 196), (1, .int (nI f)), (2, .int (nI x))]) (st' := []) (H' := _) (kc' := 0) (ks' := 0) rfl ?_
      refine RQ.pick (a := [(3, .int (nI (i + 1))), (0, .ref 196), (1, .int (nI f)), (2, .int (nI x))]) [0, 1, 2, 3] [3, 0, 1, 2] rfl rfl (by decide) ?_
      exact ih (i + 1) _ ⟨by omega, by rw [he, fstF_miss (by omega) (by show (decide (pf i = f) && decide (px i = x)) = false; rw [decide_eq_false k1, Bool.false_and]), show pi - i - 1 = pi - (i + 1) by omega], rfl⟩ (by omega)
  ·
    refine RQ.blk 2 (pc' := 4) (lv' := [(3, .int (nI i)), (0, .ref 196), (1, .int (nI f)), (2, .int (nI x))]) (st' := [.ref 196, .int (nI i)]) (H' := _) (kc' := 0) (ks' := 0) rfl ?_
    refine RQ.get (ci := 12) rfl hm rfl rfl ?_
    refine RQ.brT rfl rfl rfl (cT_ge i pi) ?_
    refine RQ.blk 1 (pc' := 39) (lv' := [(3, .int (nI i)), (0, .ref 196), (1, .int (nI f)), (2, .int (nI x))]) (st' := [.int (-1)]) (H' := _) (kc' := 0) (ks' := 0) rfl ?_
    rw [he, show pi - i = 0 by omega]
    exact RQ.done (c := 0) (s := 0) rfl rfl rfl rfl rfl
