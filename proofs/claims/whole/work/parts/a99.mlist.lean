/-! ===== list of the reference, every end; written by wip/gen/refi14.py ===== -/
theorem rq_mrank {sc : Nat × (Nat → Int32)} {d v c : Nat} {k : Int32} {H : aH} {fa li dn cw cl tp rs pr ve us pi hu : Int32} {ba bo : Nat} {kd pa sz nl : Nat → Nat} {nm : Nat → Int8} {Q : _ → Prop} (hm : H[195]? = some (kO 12 (mfs fa li dn cw cl tp rs pr ve us pi hu ba bo))) (hT : MTreeAt H kd pa sz nl nm) (hk : TreeOk kd pa sz nl) (hv : v ≤ 200) (hc : c ≤ 200) (K : RQ sc (d + 1) mr_329 177 [(5, .int (nI (200 + 1))), (4, .int (nI (rkF (rkP kd pa nl nm c v) 200))), (3, .int (nI c)), (0, .ref 196), (1, .int (nI v)), (2, .int k)] [] H 0 0 Q) : RQ sc (d + 1) mr_329 90 [(5, .int 1), (4, .int 0), (3, .int (nI c)), (0, .ref 196), (1, .int (nI v)), (2, .int k)] [] H 0 0 Q := by
  have hnc := (hk c hc).2.2.2
  refine RQ.while (S := Nat) (pc := 90) (fun i H' => i ≤ 200 ∧ H' = H) (fun i => [(5, .int (nI (i + 1))), (4, .int (nI (rkF (rkP kd pa nl nm c v) i))), (3, .int (nI c)), (0, .ref 196), (1, .int (nI v)), (2, .int k)]) (fun i => 200 - i) ?_ 0 H ⟨Nat.zero_le _, rfl⟩
  rintro i H2 ⟨hi, eH⟩ ih
  rw [eH]
  by_cases hi2 : i < 200
  ·
    have hw := hk (i + 1) (by omega)
    refine RQ.blk 2 (pc' := 95) (lv' := [(5, .int (nI (i + 1))), (4, .int (nI (rkF (rkP kd pa nl nm c v) i))), (3, .int (nI c)), (0, .ref 196), (1, .int (nI v)), (2, .int k)]) (st' := [.int 200, .int (nI (i + 1))]) (H' := _) (kc' := 0) (ks' := 0) rfl ?_
    refine RQ.brF rfl rfl rfl (cF_gt (i + 1) 200) ?_
    refine RQ.blk 1 (pc' := 99) (lv' := [(5, .int (nI (i + 1))), (4, .int (nI (rkF (rkP kd pa nl nm c v) i))), (3, .int (nI c)), (0, .ref 196), (1, .int (nI v)), (2, .int k)]) (st' := [.ref 196]) (H' := _) (kc' := 0) (ks' := 0) rfl ?_
    refine RQ.get (ci := 12) rfl hm rfl rfl ?_
    refine RQ.blk 1 (pc' := 104) (lv' := [(5, .int (nI (i + 1))), (4, .int (nI (rkF (rkP kd pa nl nm c v) i))), (3, .int (nI c)), (0, .ref 196), (1, .int (nI v)), (2, .int k)]) (st' := [.int (nI (i + 1)), .ref 214]) (H' := _) (kc' := 0) (ks' := 0) rfl ?_
    refine RQ.ialdN (j := i + 1) rfl hT.1 (by omega) (by decide) ?_
    by_cases k1 : kd (i + 1) = 0
    · refine RQ.brT rfl rfl rfl (cT_eq (kd (i + 1)) 0) ?_
      refine RQ.blk 3 (pc' := 128) (lv' := [(6, .int 0), (5, .int (nI (i + 1))), (4, .int (nI (rkF (rkP kd pa nl nm c v) i))), (3, .int (nI c)), (0, .ref 196), (1, .int (nI v)), (2, .int k)]) (st' := [.int 0]) (H' := _) (kc' := 0) (ks' := 0) rfl ?_
      refine RQ.brT rfl rfl rfl (by decide) ?_
      refine RQ.blk 1 (pc' := 174) (lv' := [(5, .int (nI (i + 1) + 1)), (6, .int 0), (4, .int (nI (rkF (rkP kd pa nl nm c v) i))), (3, .int (nI c)), (0, .ref 196), (1, .int (nI v)), (2, .int k)]) (st' := []) (H' := _) (kc' := 0) (ks' := 0) rfl ?_
      rw [show (nI (i + 1) + 1 : Int32) = nI (i + 1 + 1) from nI_add (i + 1) 1]
      refine RQ.blk 1 (pc' := 90) (lv' := [(5, .int (nI (i + 1 + 1))), (6, .int 0), (4, .int (nI (rkF (rkP kd pa nl nm c v) i))), (3, .int (nI c)), (0, .ref 196), (1, .int (nI v)), (2, .int k)]) (st' := []) (H' := _) (kc' := 0) (ks' := 0) rfl ?_
      refine RQ.pick (a := [(5, .int (nI (i + 1 + 1))), (4, .int (nI (rkF (rkP kd pa nl nm c v) i))), (3, .int (nI c)), (0, .ref 196), (1, .int (nI v)), (2, .int k)]) [0, 2, 3, 4, 5, 6] [5, 6, 4, 3, 0, 1, 2] rfl rfl (by decide) ?_
      have hp : rkP kd pa nl nm c v (i + 1) = false := by unfold rkP inD; rw [decide_eq_true k1]; rfl
      have h9 := ih (i + 1) _ ⟨by omega, rfl⟩ (by omega)
      rw [show rkF (rkP kd pa nl nm c v) (i + 1) = rkF (rkP kd pa nl nm c v) i by rw [rkF, if_neg (by rw [hp]; decide)]; rfl] at h9
      exact h9
    · refine RQ.brF rfl rfl rfl (cF_eq (kd (i + 1)) 0) ?_
      refine RQ.blk 1 (pc' := 109) (lv' := [(5, .int (nI (i + 1))), (4, .int (nI (rkF (rkP kd pa nl nm c v) i))), (3, .int (nI c)), (0, .ref 196), (1, .int (nI v)), (2, .int k)]) (st' := [.ref 196]) (H' := _) (kc' := 0) (ks' := 0) rfl ?_
      refine RQ.get (ci := 12) rfl hm rfl rfl ?_
      refine RQ.blk 1 (pc' := 114) (lv' := [(5, .int (nI (i + 1))), (4, .int (nI (rkF (rkP kd pa nl nm c v) i))), (3, .int (nI c)), (0, .ref 196), (1, .int (nI v)), (2, .int k)]) (st' := [.int (nI (i + 1)), .ref 215]) (H' := _) (kc' := 0) (ks' := 0) rfl ?_
      refine RQ.ialdN (j := i + 1) rfl hT.2.1 (by omega) (by decide) ?_
      refine RQ.blk 1 (pc' := 116) (lv' := [(5, .int (nI (i + 1))), (4, .int (nI (rkF (rkP kd pa nl nm c v) i))), (3, .int (nI c)), (0, .ref 196), (1, .int (nI v)), (2, .int k)]) (st' := [.int (nI v), .int (nI (pa (i + 1)))]) (H' := _) (kc' := 0) (ks' := 0) rfl ?_
      by_cases k2 : pa (i + 1) = v
      · refine RQ.brF rfl rfl rfl (cF_ne (pa (i + 1)) v) ?_
        refine RQ.blk 4 (pc' := 128) (lv' := [(6, .int 1), (5, .int (nI (i + 1))), (4, .int (nI (rkF (rkP kd pa nl nm c v) i))), (3, .int (nI c)), (0, .ref 196), (1, .int (nI v)), (2, .int k)]) (st' := [.int 1]) (H' := _) (kc' := 0) (ks' := 0) rfl ?_
        refine RQ.brF rfl rfl rfl (by decide) ?_
        refine RQ.blk 2 (pc' := 133) (lv' := [(6, .int 1), (5, .int (nI (i + 1))), (4, .int (nI (rkF (rkP kd pa nl nm c v) i))), (3, .int (nI c)), (0, .ref 196), (1, .int (nI v)), (2, .int k)]) (st' := [.ref 196, .ref 196]) (H' := _) (kc' := 0) (ks' := 0) rfl ?_
        refine RQ.get (ci := 12) rfl hm rfl rfl ?_
        refine RQ.blk 3 (pc' := 141) (lv' := [(6, .int 1), (5, .int (nI (i + 1))), (4, .int (nI (rkF (rkP kd pa nl nm c v) i))), (3, .int (nI c)), (0, .ref 196), (1, .int (nI v)), (2, .int k)]) (st' := [.int (30 * nI (i + 1)), .ref 217, .ref 196]) (H' := _) (kc' := 0) (ks' := 0) rfl ?_
        rw [show (30 * nI (i + 1) : Int32) = nI (30 * (i + 1)) from pk_mul 30 (i + 1)]
        refine RQ.blk 1 (pc' := 142) (lv' := [(6, .int 1), (5, .int (nI (i + 1))), (4, .int (nI (rkF (rkP kd pa nl nm c v) i))), (3, .int (nI c)), (0, .ref 196), (1, .int (nI v)), (2, .int k)]) (st' := [.ref 196, .int (nI (30 * (i + 1))), .ref 217, .ref 196]) (H' := _) (kc' := 0) (ks' := 0) rfl ?_
        refine RQ.get (ci := 12) rfl hm rfl rfl ?_
        refine RQ.blk 1 (pc' := 147) (lv' := [(6, .int 1), (5, .int (nI (i + 1))), (4, .int (nI (rkF (rkP kd pa nl nm c v) i))), (3, .int (nI c)), (0, .ref 196), (1, .int (nI v)), (2, .int k)]) (st' := [.int (nI (i + 1)), .ref 216, .int (nI (30 * (i + 1))), .ref 217, .ref 196]) (H' := _) (kc' := 0) (ks' := 0) rfl ?_
        refine RQ.ialdN (j := i + 1) rfl hT.2.2.1 (by omega) (by decide) ?_
        refine RQ.blk 1 (pc' := 149) (lv' := [(6, .int 1), (5, .int (nI (i + 1))), (4, .int (nI (rkF (rkP kd pa nl nm c v) i))), (3, .int (nI c)), (0, .ref 196), (1, .int (nI v)), (2, .int k)]) (st' := [.ref 196, .int (nI (nl (i + 1))), .int (nI (30 * (i + 1))), .ref 217, .ref 196]) (H' := _) (kc' := 0) (ks' := 0) rfl ?_
        refine RQ.get (ci := 12) rfl hm rfl rfl ?_
        refine RQ.blk 3 (pc' := 156) (lv' := [(6, .int 1), (5, .int (nI (i + 1))), (4, .int (nI (rkF (rkP kd pa nl nm c v) i))), (3, .int (nI c)), (0, .ref 196), (1, .int (nI v)), (2, .int k)]) (st' := [.int (30 * nI c), .ref 217, .int (nI (nl (i + 1))), .int (nI (30 * (i + 1))), .ref 217, .ref 196]) (H' := _) (kc' := 0) (ks' := 0) rfl ?_
        rw [show (30 * nI c : Int32) = nI (30 * c) from pk_mul 30 c]
        refine RQ.blk 1 (pc' := 157) (lv' := [(6, .int 1), (5, .int (nI (i + 1))), (4, .int (nI (rkF (rkP kd pa nl nm c v) i))), (3, .int (nI c)), (0, .ref 196), (1, .int (nI v)), (2, .int k)]) (st' := [.ref 196, .int (nI (30 * c)), .ref 217, .int (nI (nl (i + 1))), .int (nI (30 * (i + 1))), .ref 217, .ref 196]) (H' := _) (kc' := 0) (ks' := 0) rfl ?_
        refine RQ.get (ci := 12) rfl hm rfl rfl ?_
        refine RQ.blk 1 (pc' := 161) (lv' := [(6, .int 1), (5, .int (nI (i + 1))), (4, .int (nI (rkF (rkP kd pa nl nm c v) i))), (3, .int (nI c)), (0, .ref 196), (1, .int (nI v)), (2, .int k)]) (st' := [.int (nI c), .ref 216, .int (nI (30 * c)), .ref 217, .int (nI (nl (i + 1))), .int (nI (30 * (i + 1))), .ref 217, .ref 196]) (H' := _) (kc' := 0) (ks' := 0) rfl ?_
        refine RQ.ialdN (j := c) rfl hT.2.2.1 (by omega) (by decide) ?_
        refine RQ.callI (st' := []) rfl rfl rfl rfl rfl rfl (args_v [.int (nI (nl c)), .int (nI (30 * c)), .ref 217, .int (nI (nl (i + 1))), .int (nI (30 * (i + 1))), .ref 217] [] rfl rfl (Nat.le_of_ble_eq_true rfl) rfl hm (Nat.le_of_ble_eq_true rfl)) (ri_mcmp (i := 30 * (i + 1)) (n := nl (i + 1)) (j := 30 * c) (m := nl c) hT.2.2.2.1 hT.2.2.2.1 (by decide) (by decide) (by omega) (by omega)) (fun y H3 hx => ?_)
        obtain ⟨eH3, hy⟩ := hx
        rw [eH3]
        rw [show 30 * (i + 1) = (i + 1) * 30 from Nat.mul_comm _ _, show 30 * c = c * 30 from Nat.mul_comm _ _] at hy
        by_cases k3 : cmpL (sl nm ((i + 1) * 30) (nl (i + 1))) (sl nm (c * 30) (nl c)) < 0
        · refine RQ.brF rfl rfl rfl (decide_eq_false (Int32.not_le.mpr ((cmp_lt0 hy).mpr k3))) ?_
          refine RQ.blk 1 (pc' := 171) (lv' := [(4, .int (nI (rkF (rkP kd pa nl nm c v) i) + 1)), (6, .int 1), (5, .int (nI (i + 1))), (3, .int (nI c)), (0, .ref 196), (1, .int (nI v)), (2, .int k)]) (st' := []) (H' := _) (kc' := 0) (ks' := 0) rfl ?_
          rw [show (nI (rkF (rkP kd pa nl nm c v) i) + 1 : Int32) = nI (rkF (rkP kd pa nl nm c v) i + 1) from nI_add (rkF (rkP kd pa nl nm c v) i) 1]
          refine RQ.blk 1 (pc' := 174) (lv' := [(5, .int (nI (i + 1) + 1)), (4, .int (nI (rkF (rkP kd pa nl nm c v) i + 1))), (6, .int 1), (3, .int (nI c)), (0, .ref 196), (1, .int (nI v)), (2, .int k)]) (st' := []) (H' := _) (kc' := 0) (ks' := 0) rfl ?_
          rw [show (nI (i + 1) + 1 : Int32) = nI (i + 1 + 1) from nI_add (i + 1) 1]
          refine RQ.blk 1 (pc' := 90) (lv' := [(5, .int (nI (i + 1 + 1))), (4, .int (nI (rkF (rkP kd pa nl nm c v) i + 1))), (6, .int 1), (3, .int (nI c)), (0, .ref 196), (1, .int (nI v)), (2, .int k)]) (st' := []) (H' := _) (kc' := 0) (ks' := 0) rfl ?_
          refine RQ.pick (a := [(5, .int (nI (i + 1 + 1))), (4, .int (nI (rkF (rkP kd pa nl nm c v) i + 1))), (3, .int (nI c)), (0, .ref 196), (1, .int (nI v)), (2, .int k)]) [0, 1, 3, 4, 5, 6] [5, 4, 6, 3, 0, 1, 2] rfl rfl (by decide) ?_
          have hp : rkP kd pa nl nm c v (i + 1) = true := by unfold rkP inD; rw [decide_eq_false k1, decide_eq_true k2, decide_eq_true k3]; rfl
          have h9 := ih (i + 1) _ ⟨by omega, rfl⟩ (by omega)
          rw [show rkF (rkP kd pa nl nm c v) (i + 1) = rkF (rkP kd pa nl nm c v) i + 1 by rw [rkF, if_pos hp]] at h9
          exact h9
        · refine RQ.brT rfl rfl rfl (decide_eq_true (Int32.not_lt.mp (fun e => k3 ((cmp_lt0 hy).mp e)))) ?_
          refine RQ.blk 1 (pc' := 174) (lv' := [(5, .int (nI (i + 1) + 1)), (6, .int 1), (4, .int (nI (rkF (rkP kd pa nl nm c v) i))), (3, .int (nI c)), (0, .ref 196), (1, .int (nI v)), (2, .int k)]) (st' := []) (H' := _) (kc' := 0) (ks' := 0) rfl ?_
          rw [show (nI (i + 1) + 1 : Int32) = nI (i + 1 + 1) from nI_add (i + 1) 1]
          refine RQ.blk 1 (pc' := 90) (lv' := [(5, .int (nI (i + 1 + 1))), (6, .int 1), (4, .int (nI (rkF (rkP kd pa nl nm c v) i))), (3, .int (nI c)), (0, .ref 196), (1, .int (nI v)), (2, .int k)]) (st' := []) (H' := _) (kc' := 0) (ks' := 0) rfl ?_
          refine RQ.pick (a := [(5, .int (nI (i + 1 + 1))), (4, .int (nI (rkF (rkP kd pa nl nm c v) i))), (3, .int (nI c)), (0, .ref 196), (1, .int (nI v)), (2, .int k)]) [0, 2, 3, 4, 5, 6] [5, 6, 4, 3, 0, 1, 2] rfl rfl (by decide) ?_
          have hp : rkP kd pa nl nm c v (i + 1) = false := by unfold rkP inD; rw [decide_eq_false k1, decide_eq_true k2, decide_eq_false k3]; rfl
          have h9 := ih (i + 1) _ ⟨by omega, rfl⟩ (by omega)
          rw [show rkF (rkP kd pa nl nm c v) (i + 1) = rkF (rkP kd pa nl nm c v) i by rw [rkF, if_neg (by rw [hp]; decide)]; rfl] at h9
          exact h9
      · refine RQ.brT rfl rfl rfl (cT_ne (pa (i + 1)) v) ?_
        refine RQ.blk 3 (pc' := 128) (lv' := [(6, .int 0), (5, .int (nI (i + 1))), (4, .int (nI (rkF (rkP kd pa nl nm c v) i))), (3, .int (nI c)), (0, .ref 196), (1, .int (nI v)), (2, .int k)]) (st' := [.int 0]) (H' := _) (kc' := 0) (ks' := 0) rfl ?_
        refine RQ.brT rfl rfl rfl (by decide) ?_
        refine RQ.blk 1 (pc' := 174) (lv' := [(5, .int (nI (i + 1) + 1)), (6, .int 0), (4, .int (nI (rkF (rkP kd pa nl nm c v) i))), (3, .int (nI c)), (0, .ref 196), (1, .int (nI v)), (2, .int k)]) (st' := []) (H' := _) (kc' := 0) (ks' := 0) rfl ?_
        rw [show (nI (i + 1) + 1 : Int32) = nI (i + 1 + 1) from nI_add (i + 1) 1]
        refine RQ.blk 1 (pc' := 90) (lv' := [(5, .int (nI (i + 1 + 1))), (6, .int 0), (4, .int (nI (rkF (rkP kd pa nl nm c v) i))), (3, .int (nI c)), (0, .ref 196), (1, .int (nI v)), (2, .int k)]) (st' := []) (H' := _) (kc' := 0) (ks' := 0) rfl ?_
        refine RQ.pick (a := [(5, .int (nI (i + 1 + 1))), (4, .int (nI (rkF (rkP kd pa nl nm c v) i))), (3, .int (nI c)), (0, .ref 196), (1, .int (nI v)), (2, .int k)]) [0, 2, 3, 4, 5, 6] [5, 6, 4, 3, 0, 1, 2] rfl rfl (by decide) ?_
        have hp : rkP kd pa nl nm c v (i + 1) = false := by unfold rkP inD; rw [decide_eq_false k1, decide_eq_false k2]; rfl
        have h9 := ih (i + 1) _ ⟨by omega, rfl⟩ (by omega)
        rw [show rkF (rkP kd pa nl nm c v) (i + 1) = rkF (rkP kd pa nl nm c v) i by rw [rkF, if_neg (by rw [hp]; decide)]; rfl] at h9
        exact h9
  ·
    refine RQ.blk 2 (pc' := 95) (lv' := [(5, .int (nI (i + 1))), (4, .int (nI (rkF (rkP kd pa nl nm c v) i))), (3, .int (nI c)), (0, .ref 196), (1, .int (nI v)), (2, .int k)]) (st' := [.int 200, .int (nI (i + 1))]) (H' := _) (kc' := 0) (ks' := 0) rfl ?_
    refine RQ.brT rfl rfl rfl (cT_gt (i + 1) 200) ?_
    rw [show i = 200 by omega]
    exact K
