/-! ===== list of the reference, every end; written by wip/gen/refi14.py ===== -/
theorem rq_mrank {sc : Nat × (Nat → Int32)} {d v c : Nat} {k : Int32} {H : aH} {fa li dn cw cl tp rs pr ve us pi hu : Int32} {ba bo : Nat} {kd pa sz nl : Nat → Nat} {nm : Nat → Int8} {Q : _ → Prop} (hm : H[195]? = some (kO 12 (mfs fa li dn cw cl tp rs pr ve us pi hu ba bo))) (hT : MTreeAt H kd pa sz nl nm) (hk : TreeOk kd pa sz nl) (hv : v ≤ 200) (hc : c ≤ 200) (K : RQ sc (d + 1) mr_329 177 [(5, .int (nI (200 + 1))), (4, .int (nI (rkF (rkP kd pa nl nm c v) 200))), (3, .int (nI c)), (0, .ref 196), (1, .int (nI v)), (2, .int k)] [] H 0 0 Q) : RQ sc (d + 1) mr_329 90 [(5, .int 1), (4, .int 0), (3, .int (nI c)), (0, .ref 196), (1, .int (nI v)), (2, .int k)] [] H 0 0 Q := by
  have hnc := (hk c hc).2.2.2
  refine RQ.while (S := Nat) (pc := 90) (fun i H' => i ≤ 200 ∧ H' = H) (fun i => [(5, .int (nI (i + 1))), (4, .int (nI (rkF (rkP kd pa nl nm c v) i))), (3, .int (nI c)), (0, .ref 196), (1, .int (nI v)), (2, .int k)]) (fun i => 200 - i) ?_ 0 H ⟨Nat.zero_le _, rfl⟩
  rintro i H2 ⟨hi, eH⟩ ih
  rw [eH]
  by_cases hi2 : i < 200
  ·
    have hw := hk (i + 1) (by omega)
    refine RQ.blk 2 (pc' := 95) (lv' := [(5, .int (nI (i + 1))), (4, .int (nI (rkF (rkP kd pa nl nm c v) i))), (3, .int (nI c)), (0, .ref 196), (1, .int (nI v)), (2, .int k)]) (st' := [.int 200, .int (nI (i + 1))]) (H' := _) (kc' := 0) (ks' := 0) rfl ?_
    refine RQ.brF rfl rfl rfl (cF_gt (i + 1) 200) ?_
    refine RQ.blk 1 (pc' := 99) (lv' := [(5, .int (nI (i + 1))), (4, .int (nI (rkF (rkP kd pa nl nm c v) i))), (3, .int (nI c)), (0, .ref 196), (1, .int (nI v)), (2, .int k)]) (st' := [.ref 196]) (H' := _) (kc' := 0) (ks' := 0) rfl ?_
    refine RQ.get (ci := 12) rfl hm rfl rfl ?_
    refine RQ.blk 1 (pc' := 104) (lv' := [(5, .int (nI (i + 1))), (4, .int (nI (rkF (rkP kd pa nl nm c v) i))), (3, .int (nI c)), (0, .ref 196), (1, .int (nI v)), (2, .int k)]) (st' := [.int (nI (i + 1)), .ref 214]) (H' := _) (kc' := 0) (ks' := 0) rfl ?_
    refine RQ.ialdN (j := i + 1) rfl hT.1 (by omega) (by decide) ?_
    by_cases k1 : kd (i + 1) = 0
    · refine RQ.brT rfl rfl rfl (cT_eq (kd (i + 1)) 0) ?_
      refine RQ.blk 3 (pc' := 128) (lv' := [(6, .int 0), (5, .int (nI (i + 1))), (4, .int (nI (rkF (rkP kd pa nl nm c v) i))), (3, .int (nI c)), (0, .ref 196), (1, .int (nI v)), (2, .int k)]) (st' := [.int 0]) (H' := _) (kc' := 0) (ks' := 0) rfl ?_
      refine RQ.brT rfl rfl rfl (by decide) ?_
      refine RQ.blk 1 (pc' := 174) (lv' := [(5, .int (nI (i + 1) + 1)), (6, .int 0), (4, .int (nI (rkF (rkP kd pa nl nm c v) i))), (3, .int (nI c)), (0, .ref 196), (1, .int (nI v)), (2, .int k)]) (st' := []) (H' := _) (kc' := 0) (ks' := 0) rfl ?_
      rw [show (nI (i + 1) + 1 : Int32) = nI (i + 1 + 1) from nI_add (i + 1) 1]
      refine RQ.blk 1 (pc' := 90) (lv' := [(5, .int (nI (i + 1 + 1))), (6, .int 0), (4, .int (nI (rkF (rkP kd pa nl nm c v) i))), (3, .int (nI c)), (0, .ref 196), (1, .int (nI v)), (2, .int k)]) (st' := []) (H' := _) (kc' := 0) (ks' := 0) rfl ?_
      refine RQ.pick (a := [(5, .int (nI (i + 1 + 1))), (4, .int (nI (rkF (rkP kd pa nl nm c v) i))), (3, .int (nI c)), (0, .ref 196), (1, .int (nI v)), (2, .int k)]) [0, 2, 3, 4, 5, 6] [5, 6, 4, 3, 0, 1, 2] rfl rfl (by decide) ?_
      have hp : rkP kd pa nl nm c v (i + 1) = false := by unfold rkP inD; rw [decide_eq_true k1]; rfl
      have h9 := ih (i + 1) _ ⟨by omega, rfl⟩ (by omega)
      rw [show rkF (rkP kd pa nl nm c v) (i + 1) = rkF (rkP kd pa nl nm c v) i by rw [rkF, if_neg (by rw [hp]; decide)]; rfl] at h9
      exact h9
    · refine RQ.brF rfl rfl rfl (cF_eq (kd (i + 1)) 0) ?_
      refine RQ.blk 1 (pc' := 109) (lv' := [(5, .int (nI (i + 1))), (4, .int (nI (rkF (rkP kd pa nl nm c v) i))), (3, .int (nI c)), (0, .ref 196), (1, .int (nI v)), (2, .int k)]) (st' := [.ref 196]) (H' := _) (kc' := 0) (ks' := 0) rfl ?_
      refine RQ.get (ci := 12) rfl hm rfl rfl ?_
      refine RQ.blk 1 (pc' := 114) (lv' := [(5, .int (nI (i + 1))), (4, .int (nI (rkF (rkP kd pa nl nm c v) i))), (3, .int (nI c)), (0, .ref 196), (1, .int (nI v)), (2, .int k)]) (st' := [.int (nI (i + 1)), .ref 215]) (H' := _) (kc' := 0) (ks' := 0) rfl ?_
      refine RQ.ialdN (j := i + 1) rfl hT.2.1 (by omega) (by decide) ?_
      refine RQ.blk 1 (pc' := 116) (lv' := [(5, .int (nI (i + 1))), (4, .int (nI (rkF (rkP kd pa nl nm c v) i))), (3, .int (nI c)), (0, .ref 196), (1, .int (nI v)), (2, .int k)]) (st' := [.int (nI v), .int (nI (pa (i + 1)))]) (H' := _) (kc' := 0) (ks' := 0) rfl ?_
      by_cases k2 : pa (i + 1) = v
      · refine RQ.brF rfl rfl rfl (cF_ne (pa (i + 1)) v) ?_
        refine RQ.blk 4 (pc' := 128) (lv' := [(6, .int 1), (5, .int (nI (i + 1))), (4, .int (nI (rkF (rkP kd pa nl nm c v) i))), (3, .int (nI c)), (0, .ref 196), (1, .int (nI v)), (2, .int k)]) (st' := [.int 1]) (H' := _) (kc' := 0) (ks' := 0) rfl ?_
        refine RQ.brF rfl rfl rfl (by decide) ?_
        refine RQ.blk 2 (pc' := 133) (lv' := [(6, .int 1), (5, .int (nI (i + 1))), (4, .int (nI (rkF (rkP kd pa nl nm c v) i))), (3, .int (nI c)), (0, .ref 196), (1, .int (nI v)), (2, .int k)]) (st' := [.ref 196, .ref 196]) (H' := _) (kc' := 0) (ks' := 0) rfl ?_
        refine RQ.get (ci := 12) rfl hm rfl rfl ?_
        refine RQ.blk 3 (pc' := 141) (lv' := [(6, .int 1), (5, .int (nI (i + 1))), (4, .int (nI (rkF (rkP kd pa nl nm c v) i))), (3, .int (nI c)), (0, .ref 196), (1, .int (nI v)), (2, .int k)]) (st' := [.int (30 * nI (i + 1)), .ref 217, .ref 196]) (H' := _) (kc' := 0) (ks' := 0) rfl ?_
        rw [show (30 * nI (i + 1) : Int32) = nI (30 * (i + 1)) from pk_mul 30 (i + 1)]
        refine RQ.blk 1 (pc' := 142) (lv' := [(6, .int 1), (5, .int (nI (i + 1))), (4, .int (nI (rkF (rkP kd pa nl nm c v) i))), (3, .int (nI c)), (0, .ref 196), (1, .int (nI v)), (2, .int k)]) (st' := [.ref 196, .int (nI (30 * (i + 1))), .ref 217, .ref 196]) (H' := _) (kc' := 0) (ks' := 0) rfl ?_
        refine RQ.get (ci := 12) rfl hm rfl rfl ?_
        refine RQ.blk 1 (pc' := 147) (lv' := [(6, .int 1), (5, .int (nI (i + 1))), (4, .int (nI (rkF (rkP kd pa nl nm c v) i))), (3, .int (nI c)), (0, .ref 196), (1, .int (nI v)), (2, .int k)]) (st' := [.int (nI (i + 1)), .ref 216, .int (nI (30 * (i + 1))), .ref 217, .ref 196]) (H' := _) (kc' := 0) (ks' := 0) rfl ?_
        refine RQ.ialdN (j := i + 1) rfl hT.2.2.1 (by omega) (by decide) ?_
        refine RQ.blk 1 (pc' := 149) (lv' := [(6, .int 1), (5, .int (nI (i + 1))), (4, .int (nI (rkF (rkP kd pa nl nm c v) i))), (3, .int (nI c)), (0, .ref 196), (1, .int (nI v)), (2, .int k)]) (st' := [.ref 196, .int (nI (nl (i + 1))), .int (nI (30 * (i + 1))), .ref 217, .ref 196]) (H' := _) (kc' := 0) (ks' := 0) rfl ?_
        refine RQ.get (ci := 12) rfl hm rfl rfl ?_
        refine RQ.blk 3 (pc' := 156) (lv' := [(6, .int 1), (5, .int (nI (i + 1))), (4, .int (nI (rkF (rkP kd pa nl nm c v) i))), (3, .int (nI c)), (0, .ref 196), (1, .int (nI v)), (2, .int k)]) (st' := [.int (30 * nI c), .ref 217, .int (nI (nl (i + 1))), .int (nI (30 * (i + 1))), .ref 217, .ref 196]) (H' := _) (kc' := 0) (ks' := 0) rfl ?_
        rw [show (30 * nI c : Int32) = nI (30 * c) from pk_mul 30 c]
        refine RQ.blk 1 (pc' := 157) (lv' := [(6, .int 1), (5, .int (nI (i + 1))), (4, .int (nI (rkF (rkP kd pa nl nm c v) i))), (3, .int (nI c)), (0, .ref 196), (1, .int (nI v)), (2, .int k)]) (st' := [.ref 196, .int (nI (30 * c)), .ref 217, .int (nI (nl (i + 1))), .int (nI (30 * (i + 1))), .ref 217, .ref 196]) (H' := _) (kc' := 0) (ks' := 0) rfl ?_
        refine RQ.get (ci := 12) rfl hm rfl rfl ?_
        refine RQ.blk 1 (pc' := 161) (lv' := [(6, .int 1), (5, .int (nI (i + 1))), (4, .int (nI (rkF (rkP kd pa nl nm c v) i))), (3, .int (nI c)), (0, .ref 196), (1, .int (nI v)), (2, .int k)]) (st' := [.int (nI c), .ref 216, .int (nI (30 * c)), .ref 217, .int (nI (nl (i + 1))), .int (nI (30 * (i + 1))), .ref 217, .ref 196]) (H' := _) (kc' := 0) (ks' := 0) rfl ?_
        refine RQ.ialdN (j := c) rfl hT.2.2.1 (by omega) (by decide) ?_
        refine RQ.callI (st' := []) rfl rfl rfl rfl rfl rfl (args_v [.int (nI (nl c)), .int (nI (30 * c)), .ref 217, .int (nI (nl (i + 1))), .int (nI (30 * (i + 1))), .ref 217] [] rfl rfl (Nat.le_of_ble_eq_true rfl) rfl hm (Nat.le_of_ble_eq_true rfl)) (ri_mcmp (i := 30 * (i + 1)) (n := nl (i + 1)) (j := 30 * c) (m := nl c) hT.2.2.2.1 hT.2.2.2.1 (by decide) (by decide) (by omega) (by omega)) (fun y H3 hx => ?_)
        obtain ⟨eH3, hy⟩ := hx
        rw [eH3]
        rw [show 30 * (i + 1) = (i + 1) * 30 from Nat.mul_comm _ _, show 30 * c = c * 30 from Nat.mul_comm _ _] at hy
        by_cases k3 : cmpL (sl nm ((i + 1) * 30) (nl (i + 1))) (sl nm (c * 30) (nl c)) < 0
        · refine RQ.brF rfl rfl rfl (decide_eq_false (Int32.not_le.mpr ((cmp_lt0 hy).mpr k3))) ?_
          refine RQ.blk 1 (pc' := 171) (lv' := [(4, .int (nI (rkF (rkP kd pa nl nm c v) i) + 1)), (6, .int 1), (5, .int (nI (i + 1))), (3, .int (nI c)), (0, .ref 196), (1, .int (nI v)), (2, .int k)]) (st' := []) (H' := _) (kc' := 0) (ks' := 0) rfl ?_
          rw [show (nI (rkF (rkP kd pa nl nm c v) i) + 1 : Int32) = nI (rkF (rkP kd pa nl nm c v) i + 1) from nI_add (rkF (rkP kd pa nl nm c v) i) 1]
          refine RQ.blk 1 (pc' := 174) (lv' := [(5, .int (nI (i + 1) + 1)), (4, .int (nI (rkF (rkP kd pa nl nm c v) i + 1))), (6, .int 1), (3, .int (nI c)), (0, .ref 196), (1, .int (nI v)), (2, .int k)]) (st' := []) (H' := _) (kc' := 0) (ks' := 0) rfl ?_
          rw [show (nI (i + 1) + 1 : Int32) = nI (i + 1 + 1) from nI_add (i + 1) 1]
          refine RQ.blk 1 (pc' := 90) (lv' := [(5, .int (nI (i + 1 + 1))), (4, .int (nI (rkF (rkP kd pa nl nm c v) i + 1))), (6, .int 1), (3, .int (nI c)), (0, .ref 196), (1, .int (nI v)), (2, .int k)]) (st' := []) (H' := _) (kc' := 0) (ks' := 0) rfl ?_
          refine RQ.pick (a := [(5, .int (nI (i + 1 + 1))), (4, .int (nI (rkF (rkP kd pa nl nm c v) i + 1))), (3, .int (nI c)), (0, .ref 196), (1, .int (nI v)), (2, .int k)]) [0, 1, 3, 4, 5, 6] [5, 4, 6, 3, 0, 1, 2] rfl rfl (by decide) ?_
          have hp : rkP kd pa nl nm c v (i + 1) = true := by unfold rkP inD; rw [decide_eq_false k1, decide_eq_true k2, decide_eq_true k3]; rfl
          have h9 := ih (i + 1) _ ⟨by omega, rfl⟩ (by omega)
          rw [show rkF (rkP kd pa nl nm c v) (i + 1) = rkF (rkP kd pa nl nm c v) i + 1 by rw [rkF, if_pos hp]] at h9
          exact h9
        · refine RQ.brT rfl rfl rfl (decide_eq_true (Int32.not_lt.mp (fun e => k3 ((cmp_lt0 hy).mp e)))) ?_
          refine RQ.blk 1 (pc' := 174) (lv' := [(5, .int (nI (i + 1) + 1)), (6, .int 1), (4, .int (nI (rkF (rkP kd pa nl nm c v) i))), (3, .int (nI c)), (0, .ref 196), (1, .int (nI v)), (2, .int k)]) (st' := []) (H' := _) (kc' := 0) (ks' := 0) rfl ?_
          rw [show (nI (i + 1) + 1 : Int32) = nI (i + 1 + 1) from nI_add (i + 1) 1]
          refine RQ.blk 1 (pc' := 90) (lv' := [(5, .int (nI (i + 1 + 1))), (6, .int 1), (4, .int (nI (rkF (rkP kd pa nl nm c v) i))), (3, .int (nI c)), (0, .ref 196), (1, .int (nI v)), (2, .int k)]) (st' := []) (H' := _) (kc' := 0) (ks' := 0) rfl ?_
          refine RQ.pick (a := [(5, .int (nI (i + 1 + 1))), (4, .int (nI (rkF (rkP kd pa nl nm c v) i))), (3, .int (nI c)), (0, .ref 196), (1, .int (nI v)), (2, .int k)]) [0, 2, 3, 4, 5, 6] [5, 6, 4, 3, 0, 1, 2] rfl rfl (by decide) ?_
          have hp : rkP kd pa nl nm c v (i + 1) = false := by unfold rkP inD; rw [decide_eq_false k1, decide_eq_true k2, decide_eq_false k3]; rfl
          have h9 := ih (i + 1) _ ⟨by omega, rfl⟩ (by omega)
          rw [show rkF (rkP kd pa nl nm c v) (i + 1) = rkF (rkP kd pa nl nm c v) i by rw [rkF, if_neg (by rw [hp]; decide)]; rfl] at h9
          exact h9
      · refine RQ.brT rfl rfl rfl (cT_ne (pa (i + 1)) v) ?_
        refine RQ.blk 3 (pc' := 128) (lv' := [(6, .int 0), (5, .int (nI (i + 1))), (4, .int (nI (rkF (rkP kd pa nl nm c v) i))), (3, .int (nI c)), (0, .ref 196), (1, .int (nI v)), (2, .int k)]) (st' := [.int 0]) (H' := _) (kc' := 0) (ks' := 0) rfl ?_
        refine RQ.brT rfl rfl rfl (by decide) ?_
        refine RQ.blk 1 (pc' := 174) (lv' := [(5, .int (nI (i + 1) + 1)), (6, .int 0), (4, .int (nI (rkF (rkP kd pa nl nm c v) i))), (3, .int (nI c)), (0, .ref 196), (1, .int (nI v)), (2, .int k)]) (st' := []) (H' := _) (kc' := 0) (ks' := 0) rfl ?_
        rw [show (nI (i + 1) + 1 : Int32) = nI (i + 1 + 1) from nI_add (i + 1) 1]
        refine RQ.blk 1 (pc' := 90) (lv' := [(5, .int (nI (i + 1 + 1))), (6, .int 0), (4, .int (nI (rkF (rkP kd pa nl nm c v) i))), (3, .int (nI c)), (0, .ref 196), (1, .int (nI v)), (2, .int k)]) (st' := []) (H' := _) (kc' := 0) (ks' := 0) rfl ?_
        refine RQ.pick (a := [(5, .int (nI (i + 1 + 1))), (4, .int (nI (rkF (rkP kd pa nl nm c v) i))), (3, .int (nI c)), (0, .ref 196), (1, .int (nI v)), (2, .int k)]) [0, 2, 3, 4, 5, 6] [5, 6, 4, 3, 0, 1, 2] rfl rfl (by decide) ?_
        have hp : rkP kd pa nl nm c v (i + 1) = false := by unfold rkP inD; rw [decide_eq_false k1, decide_eq_false k2]; rfl
        have h9 := ih (i + 1) _ ⟨by omega, rfl⟩ (by omega)
        rw [show rkF (rkP kd pa nl nm c v) (i + 1) = rkF (rkP kd pa nl nm c v) i by rw [rkF, if_neg (by rw [hp]; decide)]; rfl] at h9
        exact h9
  ·
    refine RQ.blk 2 (pc' := 95) (lv' := [(5, .int (nI (i + 1))), (4, .int (nI (rkF (rkP kd pa nl nm c v) i))), (3, .int (nI c)), (0, .ref 196), (1, .int (nI v)), (2, .int k)]) (st' := [.int 200, .int (nI (i + 1))]) (H' := _) (kc' := 0) (ks' := 0) rfl ?_
    refine RQ.brT rfl rfl rfl (cT_gt (i + 1) 200) ?_
    rw [show i = 200 by omega]
    exact K
theorem rkF_le (P : Nat → Bool) : ∀ n, rkF P n ≤ n
  | 0 => Nat.le_refl _
  | n + 1 => by
    have := rkF_le P n
    rw [rkF]
    split <;> omega
/-- whether c is the name number n of the directory v -/
def lsP (kd pa nl : Nat → Nat) (nm : Nat → Int8) (v n c : Nat) : Bool := inD kd pa v c && decide (rkF (rkP kd pa nl nm c v) 200 = n)
set_option maxRecDepth 20000 in
theorem ri_mlist_down {sc : Nat × (Nat → Int32)} {d l : Nat} {H : aH} {fa cw cl rs : Int32} {li : Nat} {tb : Nat → Int8} {g0 : Nat → Int8} {p : Nat} {ms : List aMV} {op : Nat → Bool} {se : Nat → Nat} {wss : Nat → List aE} {kd pa sz nl : Nat → Nat} {nm : Nat → Int8} {ps : List aPc} {v n : Nat} (h : RefI H fa li 1 cw cl tb l rs g0 p ms op se wss kd pa sz nl nm ps) (hk : RefOk l p ms se kd pa sz nl ps) (hv : v ≤ 200) (hn : n < 2 ^ 31) : RI sc (d + 5) mr_329 [.ref 196, .int (nI v), .int (nI n)] H (fun x H' => x = 0 ∧ RefI H' 2 li 1 cw cl tb l rs g0 p ms op se wss kd pa sz nl nm ps ∧ ∀ a, ¬ (195 ≤ a ∧ a < 224) → H'[a]? = H[a]?) := by
  obtain ⟨us, ba, bo, hm, hV, h5, h6, hR, hT, hP, h196, h197⟩ := h
  obtain ⟨k1, k2, k3, k4, k5, k6, k7, k8⟩ := hk
  refine RI.of ?_
  refine RQ.blk 2 (pc' := 2) (lv' := [(0, .ref 196), (1, .int (nI v)), (2, .int (nI n))]) (st' := [.int 0, .ref 196]) (H' := _) (kc' := 0) (ks' := 0) rfl ?_
  refine RQ.put (ci := 12) rfl hm rfl rfl (Nat.le_of_ble_eq_true rfl) ?_
  have hm1 : (H.set 195 (kO 12 (mfs 0 (nI li) 1 cw cl (nI l) rs (nI p) (nI ms.length) (nI us) (nI ps.length) (nI (plen ps)) ba bo)))[195]? = some (kO 12 (mfs 0 (nI li) 1 cw cl (nI l) rs (nI p) (nI ms.length) (nI us) (nI ps.length) (nI (plen ps)) ba bo)) := get_set hm
  have f1 : ∀ a, a ≠ 195 → (H.set 195 (kO 12 (mfs 0 (nI li) 1 cw cl (nI l) rs (nI p) (nI ms.length) (nI us) (nI ps.length) (nI (plen ps)) ba bo)))[a]? = H[a]? := fun a ha => set_far ha
  show RQ _ _ _ 5 [(0, .ref 196), (1, .int (nI v)), (2, .int (nI n))] [] (H.set 195 (kO 12 (mfs 0 (nI li) 1 cw cl (nI l) rs (nI p) (nI ms.length) (nI us) (nI ps.length) (nI (plen ps)) ba bo))) 0 0 _
  generalize (H.set 195 (kO 12 (mfs 0 (nI li) 1 cw cl (nI l) rs (nI p) (nI ms.length) (nI us) (nI ps.length) (nI (plen ps)) ba bo))) = H1 at hm1 f1 ⊢
  have hV1 := hV.far (fun a a1 a2 => f1 a (by omega)) (f1 223 (by decide))
  have h51 := (f1 205 (by decide)).trans h5
  have h61 := (f1 206 (by decide)).trans h6
  have hR1 := hR.far (fun a a1 => f1 a (by omega))
  have hT1 := hT.far (fun a a1 a2 => f1 a (by omega))
  have hP1 := hP.far (fun a a1 a2 => f1 a (by omega))
  have h1961 := (f1 196 (by decide)).trans h196
  have h1971 := (f1 197 (by decide)).trans h197
  have hkv := k5 v hv
  refine RQ.blk 3 (pc' := 10) (lv' := [(0, .ref 196), (1, .int (nI v)), (2, .int (nI n))]) (st' := [.int 201, .int (nI v), .ref 196]) (H' := _) (kc' := 0) (ks' := 0) rfl ?_
  refine RQ.call (v := some (.int 0)) (st' := []) rfl rfl rfl rfl rfl rfl (args_v [.int 201, .int (nI v)] [] rfl rfl (Nat.le_of_ble_eq_true rfl) rfl hm1 (Nat.le_of_ble_eq_true rfl)) (rc_out (v := v) (m := 201) (by omega) (by decide)) ?_
  refine RQ.brT rfl rfl rfl (by decide) ?_
  refine RQ.blk 1 (pc' := 23) (lv' := [(0, .ref 196), (1, .int (nI v)), (2, .int (nI n))]) (st' := [.ref 196]) (H' := _) (kc' := 0) (ks' := 0) rfl ?_
  refine RQ.get (ci := 12) rfl hm1 rfl rfl ?_
  refine RQ.brF rfl rfl rfl (by decide) ?_
  refine RQ.blk 2 (pc' := 31) (lv' := [(0, .ref 196), (1, .int (nI v)), (2, .int (nI n))]) (st' := [.int 2, .ref 196]) (H' := _) (kc' := 0) (ks' := 0) rfl ?_
  refine RQ.call (v := some (.int 0)) (st' := []) rfl rfl rfl rfl rfl rfl (args_v [.int 2] [] rfl rfl (Nat.le_of_ble_eq_true rfl) rfl hm1 (Nat.le_of_ble_eq_true rfl)) (rc_mfail hm1 rfl) ?_
  exact RQ.done (c := 0) (s := 0) rfl rfl rfl rfl ⟨_, _, rfl, rfl, ⟨us, ba, bo, get_set hm1, hV1.far (fun a a1 a2 => set_far (by omega)) (set_far (by decide)), (set_far (by decide)).trans h51, (set_far (by decide)).trans h61, hR1.far (fun a a1 => set_far (by omega)), hT1.far (fun a a1 a2 => set_far (by omega)), hP1.far (fun a a1 a2 => set_far (by omega)), (set_far (by decide)).trans h1961, (set_far (by decide)).trans h1971⟩, fun a ha => (set_far (by omega)).trans (f1 a (by omega))⟩
set_option maxRecDepth 20000 in
theorem ri_mlist_nodir {sc : Nat × (Nat → Int32)} {d l : Nat} {H : aH} {fa cw cl rs : Int32} {li : Nat} {tb : Nat → Int8} {g0 : Nat → Int8} {p : Nat} {ms : List aMV} {op : Nat → Bool} {se : Nat → Nat} {wss : Nat → List aE} {kd pa sz nl : Nat → Nat} {nm : Nat → Int8} {ps : List aPc} {v n : Nat} (h : RefI H fa li 0 cw cl tb l rs g0 p ms op se wss kd pa sz nl nm ps) (hk : RefOk l p ms se kd pa sz nl ps) (hv : v ≤ 200) (hn : n < 2 ^ 31) (hkd : ¬ kd v = 2) : RI sc (d + 5) mr_329 [.ref 196, .int (nI v), .int (nI n)] H (fun x H' => x = 0 ∧ RefI H' 3 li 0 cw cl tb l rs g0 p ms op se wss kd pa sz nl nm ps ∧ ∀ a, ¬ (195 ≤ a ∧ a < 224) → H'[a]? = H[a]?) := by
  obtain ⟨us, ba, bo, hm, hV, h5, h6, hR, hT, hP, h196, h197⟩ := h
  obtain ⟨k1, k2, k3, k4, k5, k6, k7, k8⟩ := hk
  refine RI.of ?_
  refine RQ.blk 2 (pc' := 2) (lv' := [(0, .ref 196), (1, .int (nI v)), (2, .int (nI n))]) (st' := [.int 0, .ref 196]) (H' := _) (kc' := 0) (ks' := 0) rfl ?_
  refine RQ.put (ci := 12) rfl hm rfl rfl (Nat.le_of_ble_eq_true rfl) ?_
  have hm1 : (H.set 195 (kO 12 (mfs 0 (nI li) 0 cw cl (nI l) rs (nI p) (nI ms.length) (nI us) (nI ps.length) (nI (plen ps)) ba bo)))[195]? = some (kO 12 (mfs 0 (nI li) 0 cw cl (nI l) rs (nI p) (nI ms.length) (nI us) (nI ps.length) (nI (plen ps)) ba bo)) := get_set hm
  have f1 : ∀ a, a ≠ 195 → (H.set 195 (kO 12 (mfs 0 (nI li) 0 cw cl (nI l) rs (nI p) (nI ms.length) (nI us) (nI ps.length) (nI (plen ps)) ba bo)))[a]? = H[a]? := fun a ha => set_far ha
  show RQ _ _ _ 5 [(0, .ref 196), (1, .int (nI v)), (2, .int (nI n))] [] (H.set 195 (kO 12 (mfs 0 (nI li) 0 cw cl (nI l) rs (nI p) (nI ms.length) (nI us) (nI ps.length) (nI (plen ps)) ba bo))) 0 0 _
  generalize (H.set 195 (kO 12 (mfs 0 (nI li) 0 cw cl (nI l) rs (nI p) (nI ms.length) (nI us) (nI ps.length) (nI (plen ps)) ba bo))) = H1 at hm1 f1 ⊢
  have hV1 := hV.far (fun a a1 a2 => f1 a (by omega)) (f1 223 (by decide))
  have h51 := (f1 205 (by decide)).trans h5
  have h61 := (f1 206 (by decide)).trans h6
  have hR1 := hR.far (fun a a1 => f1 a (by omega))
  have hT1 := hT.far (fun a a1 a2 => f1 a (by omega))
  have hP1 := hP.far (fun a a1 a2 => f1 a (by omega))
  have h1961 := (f1 196 (by decide)).trans h196
  have h1971 := (f1 197 (by decide)).trans h197
  have hkv := k5 v hv
  refine RQ.blk 3 (pc' := 10) (lv' := [(0, .ref 196), (1, .int (nI v)), (2, .int (nI n))]) (st' := [.int 201, .int (nI v), .ref 196]) (H' := _) (kc' := 0) (ks' := 0) rfl ?_
  refine RQ.call (v := some (.int 0)) (st' := []) rfl rfl rfl rfl rfl rfl (args_v [.int 201, .int (nI v)] [] rfl rfl (Nat.le_of_ble_eq_true rfl) rfl hm1 (Nat.le_of_ble_eq_true rfl)) (rc_out (v := v) (m := 201) (by omega) (by decide)) ?_
  refine RQ.brT rfl rfl rfl (by decide) ?_
  refine RQ.blk 1 (pc' := 23) (lv' := [(0, .ref 196), (1, .int (nI v)), (2, .int (nI n))]) (st' := [.ref 196]) (H' := _) (kc' := 0) (ks' := 0) rfl ?_
  refine RQ.get (ci := 12) rfl hm1 rfl rfl ?_
  refine RQ.brT rfl rfl rfl (by decide) ?_
  refine RQ.blk 2 (pc' := 37) (lv' := [(0, .ref 196), (1, .int (nI v)), (2, .int (nI n))]) (st' := [.int (nI v), .ref 196]) (H' := _) (kc' := 0) (ks' := 0) rfl ?_
  refine RQ.call (v := some (.int 0)) (st' := []) rfl rfl rfl rfl rfl rfl (args_v [.int (nI v)] [] rfl rfl (Nat.le_of_ble_eq_true rfl) rfl hm1 (Nat.le_of_ble_eq_true rfl)) (rc_mdirF hm1 rfl hT1.1 hv (nI_ne2 hkv.1 hkd)) ?_
  refine RQ.brT rfl rfl rfl (by decide) ?_
  refine RQ.blk 2 (pc' := 49) (lv' := [(0, .ref 196), (1, .int (nI v)), (2, .int (nI n))]) (st' := [.int 3, .ref 196]) (H' := _) (kc' := 0) (ks' := 0) rfl ?_
  refine RQ.call (v := some (.int 0)) (st' := []) rfl rfl rfl rfl rfl rfl (args_v [.int 3] [] rfl rfl (Nat.le_of_ble_eq_true rfl) rfl hm1 (Nat.le_of_ble_eq_true rfl)) (rc_mfail hm1 rfl) ?_
  exact RQ.done (c := 0) (s := 0) rfl rfl rfl rfl ⟨_, _, rfl, rfl, ⟨us, ba, bo, get_set hm1, hV1.far (fun a a1 a2 => set_far (by omega)) (set_far (by decide)), (set_far (by decide)).trans h51, (set_far (by decide)).trans h61, hR1.far (fun a a1 => set_far (by omega)), hT1.far (fun a a1 a2 => set_far (by omega)), hP1.far (fun a a1 a2 => set_far (by omega)), (set_far (by decide)).trans h1961, (set_far (by decide)).trans h1971⟩, fun a ha => (set_far (by omega)).trans (f1 a (by omega))⟩
set_option maxRecDepth 20000 in
theorem ri_mlist_neg {sc : Nat × (Nat → Int32)} {d l : Nat} {H : aH} {fa cw cl rs : Int32} {li : Nat} {tb : Nat → Int8} {g0 : Nat → Int8} {p : Nat} {ms : List aMV} {op : Nat → Bool} {se : Nat → Nat} {wss : Nat → List aE} {kd pa sz nl : Nat → Nat} {nm : Nat → Int8} {ps : List aPc} {v : Nat} {k : Int32} (h : RefI H fa li 0 cw cl tb l rs g0 p ms op se wss kd pa sz nl nm ps) (hk : RefOk l p ms se kd pa sz nl ps) (hv : v ≤ 200) (hkd : kd v = 2) (hk0 : k < 0) : RI sc (d + 5) mr_329 [.ref 196, .int (nI v), .int k] H (fun x H' => x = 0 ∧ RefI H' 3 li 0 cw cl tb l rs g0 p ms op se wss kd pa sz nl nm ps ∧ ∀ a, ¬ (195 ≤ a ∧ a < 224) → H'[a]? = H[a]?) := by
  obtain ⟨us, ba, bo, hm, hV, h5, h6, hR, hT, hP, h196, h197⟩ := h
  obtain ⟨k1, k2, k3, k4, k5, k6, k7, k8⟩ := hk
  refine RI.of ?_
  refine RQ.blk 2 (pc' := 2) (lv' := [(0, .ref 196), (1, .int (nI v)), (2, .int k)]) (st' := [.int 0, .ref 196]) (H' := _) (kc' := 0) (ks' := 0) rfl ?_
  refine RQ.put (ci := 12) rfl hm rfl rfl (Nat.le_of_ble_eq_true rfl) ?_
  have hm1 : (H.set 195 (kO 12 (mfs 0 (nI li) 0 cw cl (nI l) rs (nI p) (nI ms.length) (nI us) (nI ps.length) (nI (plen ps)) ba bo)))[195]? = some (kO 12 (mfs 0 (nI li) 0 cw cl (nI l) rs (nI p) (nI ms.length) (nI us) (nI ps.length) (nI (plen ps)) ba bo)) := get_set hm
  have f1 : ∀ a, a ≠ 195 → (H.set 195 (kO 12 (mfs 0 (nI li) 0 cw cl (nI l) rs (nI p) (nI ms.length) (nI us) (nI ps.length) (nI (plen ps)) ba bo)))[a]? = H[a]? := fun a ha => set_far ha
  show RQ _ _ _ 5 [(0, .ref 196), (1, .int (nI v)), (2, .int k)] [] (H.set 195 (kO 12 (mfs 0 (nI li) 0 cw cl (nI l) rs (nI p) (nI ms.length) (nI us) (nI ps.length) (nI (plen ps)) ba bo))) 0 0 _
  generalize (H.set 195 (kO 12 (mfs 0 (nI li) 0 cw cl (nI l) rs (nI p) (nI ms.length) (nI us) (nI ps.length) (nI (plen ps)) ba bo))) = H1 at hm1 f1 ⊢
  have hV1 := hV.far (fun a a1 a2 => f1 a (by omega)) (f1 223 (by decide))
  have h51 := (f1 205 (by decide)).trans h5
  have h61 := (f1 206 (by decide)).trans h6
  have hR1 := hR.far (fun a a1 => f1 a (by omega))
  have hT1 := hT.far (fun a a1 a2 => f1 a (by omega))
  have hP1 := hP.far (fun a a1 a2 => f1 a (by omega))
  have h1961 := (f1 196 (by decide)).trans h196
  have h1971 := (f1 197 (by decide)).trans h197
  have hkv := k5 v hv
  refine RQ.blk 3 (pc' := 10) (lv' := [(0, .ref 196), (1, .int (nI v)), (2, .int k)]) (st' := [.int 201, .int (nI v), .ref 196]) (H' := _) (kc' := 0) (ks' := 0) rfl ?_
  refine RQ.call (v := some (.int 0)) (st' := []) rfl rfl rfl rfl rfl rfl (args_v [.int 201, .int (nI v)] [] rfl rfl (Nat.le_of_ble_eq_true rfl) rfl hm1 (Nat.le_of_ble_eq_true rfl)) (rc_out (v := v) (m := 201) (by omega) (by decide)) ?_
  refine RQ.brT rfl rfl rfl (by decide) ?_
  refine RQ.blk 1 (pc' := 23) (lv' := [(0, .ref 196), (1, .int (nI v)), (2, .int k)]) (st' := [.ref 196]) (H' := _) (kc' := 0) (ks' := 0) rfl ?_
  refine RQ.get (ci := 12) rfl hm1 rfl rfl ?_
  refine RQ.brT rfl rfl rfl (by decide) ?_
  refine RQ.blk 2 (pc' := 37) (lv' := [(0, .ref 196), (1, .int (nI v)), (2, .int k)]) (st' := [.int (nI v), .ref 196]) (H' := _) (kc' := 0) (ks' := 0) rfl ?_
  refine RQ.call (v := some (.int 1)) (st' := []) rfl rfl rfl rfl rfl rfl (args_v [.int (nI v)] [] rfl rfl (Nat.le_of_ble_eq_true rfl) rfl hm1 (Nat.le_of_ble_eq_true rfl)) (rc_mdirT hm1 rfl hT1.1 hv (nI_is2 hkd)) ?_
  refine RQ.brF rfl rfl rfl (by decide) ?_
  refine RQ.blk 1 (pc' := 44) (lv' := [(0, .ref 196), (1, .int (nI v)), (2, .int k)]) (st' := [.int k]) (H' := _) (kc' := 0) (ks' := 0) rfl ?_
  refine RQ.brF rfl rfl rfl (decide_eq_false (Int32.not_le.mpr hk0)) ?_
  refine RQ.blk 2 (pc' := 49) (lv' := [(0, .ref 196), (1, .int (nI v)), (2, .int k)]) (st' := [.int 3, .ref 196]) (H' := _) (kc' := 0) (ks' := 0) rfl ?_
  refine RQ.call (v := some (.int 0)) (st' := []) rfl rfl rfl rfl rfl rfl (args_v [.int 3] [] rfl rfl (Nat.le_of_ble_eq_true rfl) rfl hm1 (Nat.le_of_ble_eq_true rfl)) (rc_mfail hm1 rfl) ?_
  exact RQ.done (c := 0) (s := 0) rfl rfl rfl rfl ⟨_, _, rfl, rfl, ⟨us, ba, bo, get_set hm1, hV1.far (fun a a1 a2 => set_far (by omega)) (set_far (by decide)), (set_far (by decide)).trans h51, (set_far (by decide)).trans h61, hR1.far (fun a a1 => set_far (by omega)), hT1.far (fun a a1 a2 => set_far (by omega)), hP1.far (fun a a1 a2 => set_far (by omega)), (set_far (by decide)).trans h1961, (set_far (by decide)).trans h1971⟩, fun a ha => (set_far (by omega)).trans (f1 a (by omega))⟩
set_option maxRecDepth 20000 in
theorem ri_mlist_ok {sc : Nat × (Nat → Int32)} {d l : Nat} {H : aH} {fa cw cl rs : Int32} {li : Nat} {tb : Nat → Int8} {g0 : Nat → Int8} {p : Nat} {ms : List aMV} {op : Nat → Bool} {se : Nat → Nat} {wss : Nat → List aE} {kd pa sz nl : Nat → Nat} {nm : Nat → Int8} {ps : List aPc} {v n : Nat} {r : Nat} (h : RefI H fa li 0 cw cl tb l rs g0 p ms op se wss kd pa sz nl nm ps) (hk : RefOk l p ms se kd pa sz nl ps) (hv : v ≤ 200) (hn : n < 2 ^ 31) (hkd : kd v = 2) (hfn : fstF (lsP kd pa nl nm v n) 1 200 = some r) : RI sc (d + 5) mr_329 [.ref 196, .int (nI v), .int (nI n)] H (fun x H' => x = nI r ∧ RefI H' 0 li 0 cw cl tb l (nI (nl r)) (cpy nm (30 * r) g0 0 (nl r)) p ms op se wss kd pa sz nl nm ps ∧ ∀ a, ¬ (195 ≤ a ∧ a < 224) → H'[a]? = H[a]?) := by
  obtain ⟨us, ba, bo, hm, hV, h5, h6, hR, hT, hP, h196, h197⟩ := h
  obtain ⟨k1, k2, k3, k4, k5, k6, k7, k8⟩ := hk
  refine RI.of ?_
  refine RQ.blk 2 (pc' := 2) (lv' := [(0, .ref 196), (1, .int (nI v)), (2, .int (nI n))]) (st' := [.int 0, .ref 196]) (H' := _) (kc' := 0) (ks' := 0) rfl ?_
  refine RQ.put (ci := 12) rfl hm rfl rfl (Nat.le_of_ble_eq_true rfl) ?_
  have hm1 : (H.set 195 (kO 12 (mfs 0 (nI li) 0 cw cl (nI l) rs (nI p) (nI ms.length) (nI us) (nI ps.length) (nI (plen ps)) ba bo)))[195]? = some (kO 12 (mfs 0 (nI li) 0 cw cl (nI l) rs (nI p) (nI ms.length) (nI us) (nI ps.length) (nI (plen ps)) ba bo)) := get_set hm
  have f1 : ∀ a, a ≠ 195 → (H.set 195 (kO 12 (mfs 0 (nI li) 0 cw cl (nI l) rs (nI p) (nI ms.length) (nI us) (nI ps.length) (nI (plen ps)) ba bo)))[a]? = H[a]? := fun a ha => set_far ha
  show RQ _ _ _ 5 [(0, .ref 196), (1, .int (nI v)), (2, .int (nI n))] [] (H.set 195 (kO 12 (mfs 0 (nI li) 0 cw cl (nI l) rs (nI p) (nI ms.length) (nI us) (nI ps.length) (nI (plen ps)) ba bo))) 0 0 _
  generalize (H.set 195 (kO 12 (mfs 0 (nI li) 0 cw cl (nI l) rs (nI p) (nI ms.length) (nI us) (nI ps.length) (nI (plen ps)) ba bo))) = H1 at hm1 f1 ⊢
  have hV1 := hV.far (fun a a1 a2 => f1 a (by omega)) (f1 223 (by decide))
  have h51 := (f1 205 (by decide)).trans h5
  have h61 := (f1 206 (by decide)).trans h6
  have hR1 := hR.far (fun a a1 => f1 a (by omega))
  have hT1 := hT.far (fun a a1 a2 => f1 a (by omega))
  have hP1 := hP.far (fun a a1 a2 => f1 a (by omega))
  have h1961 := (f1 196 (by decide)).trans h196
  have h1971 := (f1 197 (by decide)).trans h197
  have hkv := k5 v hv
  refine RQ.blk 3 (pc' := 10) (lv' := [(0, .ref 196), (1, .int (nI v)), (2, .int (nI n))]) (st' := [.int 201, .int (nI v), .ref 196]) (H' := _) (kc' := 0) (ks' := 0) rfl ?_
  refine RQ.call (v := some (.int 0)) (st' := []) rfl rfl rfl rfl rfl rfl (args_v [.int 201, .int (nI v)] [] rfl rfl (Nat.le_of_ble_eq_true rfl) rfl hm1 (Nat.le_of_ble_eq_true rfl)) (rc_out (v := v) (m := 201) (by omega) (by decide)) ?_
  refine RQ.brT rfl rfl rfl (by decide) ?_
  refine RQ.blk 1 (pc' := 23) (lv' := [(0, .ref 196), (1, .int (nI v)), (2, .int (nI n))]) (st' := [.ref 196]) (H' := _) (kc' := 0) (ks' := 0) rfl ?_
  refine RQ.get (ci := 12) rfl hm1 rfl rfl ?_
  refine RQ.brT rfl rfl rfl (by decide) ?_
  refine RQ.blk 2 (pc' := 37) (lv' := [(0, .ref 196), (1, .int (nI v)), (2, .int (nI n))]) (st' := [.int (nI v), .ref 196]) (H' := _) (kc' := 0) (ks' := 0) rfl ?_
  refine RQ.call (v := some (.int 1)) (st' := []) rfl rfl rfl rfl rfl rfl (args_v [.int (nI v)] [] rfl rfl (Nat.le_of_ble_eq_true rfl) rfl hm1 (Nat.le_of_ble_eq_true rfl)) (rc_mdirT hm1 rfl hT1.1 hv (nI_is2 hkd)) ?_
  refine RQ.brF rfl rfl rfl (by decide) ?_
  refine RQ.blk 1 (pc' := 44) (lv' := [(0, .ref 196), (1, .int (nI v)), (2, .int (nI n))]) (st' := [.int (nI n)]) (H' := _) (kc' := 0) (ks' := 0) rfl ?_
  refine RQ.brT rfl rfl rfl (cT_ge n 0) ?_
  refine RQ.blk 2 (pc' := 55) (lv' := [(3, .int 1), (0, .ref 196), (1, .int (nI v)), (2, .int (nI n))]) (st' := []) (H' := _) (kc' := 0) (ks' := 0) rfl ?_
  refine RQ.pick (a := [(3, .int 1), (0, .ref 196), (1, .int (nI v)), (2, .int (nI n))]) [0, 1, 2, 3] [3, 0, 1, 2] rfl rfl (by decide) ?_
  refine RQ.while (S := Nat) (pc := 55) (fun i H' => 1 ≤ i ∧ i ≤ 201 ∧ fstF (lsP kd pa nl nm v n) i (201 - i) = some r ∧ H' = H1) (fun i => [(3, .int (nI i)), (0, .ref 196), (1, .int (nI v)), (2, .int (nI n))]) (fun i => 201 - i) ?_ 1 H1 ⟨Nat.le_refl _, by omega, hfn, rfl⟩
  rintro i H3 ⟨hi1, hi2, he, eH⟩ ih
  rw [eH]
  by_cases hil : i ≤ 200
  ·
    have hki := k5 i hil
    have hrk := rkF_le (rkP kd pa nl nm i v) 200
    refine RQ.blk 2 (pc' := 59) (lv' := [(3, .int (nI i)), (0, .ref 196), (1, .int (nI v)), (2, .int (nI n))]) (st' := [.int 200, .int (nI i)]) (H' := _) (kc' := 0) (ks' := 0) rfl ?_
    refine RQ.brF rfl rfl rfl (cF_gt i 200) ?_
    refine RQ.blk 1 (pc' := 63) (lv' := [(3, .int (nI i)), (0, .ref 196), (1, .int (nI v)), (2, .int (nI n))]) (st' := [.ref 196]) (H' := _) (kc' := 0) (ks' := 0) rfl ?_
    refine RQ.get (ci := 12) rfl hm1 rfl rfl ?_
    refine RQ.blk 1 (pc' := 67) (lv' := [(3, .int (nI i)), (0, .ref 196), (1, .int (nI v)), (2, .int (nI n))]) (st' := [.int (nI i), .ref 214]) (H' := _) (kc' := 0) (ks' := 0) rfl ?_
    refine RQ.ialdN (j := i) rfl hT1.1 (by omega) (by decide) ?_
    by_cases z1 : kd i = 0
    · refine RQ.brT rfl rfl rfl (cT_eq (kd i) 0) ?_
      refine RQ.blk 1 (pc' := 209) (lv' := [(3, .int (nI i + 1)), (0, .ref 196), (1, .int (nI v)), (2, .int (nI n))]) (st' := []) (H' := _) (kc' := 0) (ks' := 0) rfl ?_
      rw [show (nI i + 1 : Int32) = nI (i + 1) from nI_add i 1]
      refine RQ.blk 1 (pc' := 55) (lv' := [(3, .int (nI (i + 1))), (0, .ref 196), (1, .int (nI v)), (2, .int (nI n))]) (st' := []) (H' := _) (kc' := 0) (ks' := 0) rfl ?_
      refine RQ.pick (a := [(3, .int (nI (i + 1))), (0, .ref 196), (1, .int (nI v)), (2, .int (nI n))]) [0, 1, 2, 3] [3, 0, 1, 2] rfl rfl (by decide) ?_
      have hp : (lsP kd pa nl nm v n) i = false := by unfold lsP inD; rw [decide_eq_true z1]; rfl
      rw [fstF_miss (by omega) hp] at he
      exact ih (i + 1) _ ⟨by omega, by omega, by rw [show 201 - (i + 1) = 201 - i - 1 by omega]; exact he, rfl⟩ (by omega)
    · refine RQ.brF rfl rfl rfl (cF_eq (kd i) 0) ?_
      refine RQ.blk 1 (pc' := 72) (lv' := [(3, .int (nI i)), (0, .ref 196), (1, .int (nI v)), (2, .int (nI n))]) (st' := [.ref 196]) (H' := _) (kc' := 0) (ks' := 0) rfl ?_
      refine RQ.get (ci := 12) rfl hm1 rfl rfl ?_
      refine RQ.blk 1 (pc' := 76) (lv' := [(3, .int (nI i)), (0, .ref 196), (1, .int (nI v)), (2, .int (nI n))]) (st' := [.int (nI i), .ref 215]) (H' := _) (kc' := 0) (ks' := 0) rfl ?_
      refine RQ.ialdN (j := i) rfl hT1.2.1 (by omega) (by decide) ?_
      refine RQ.blk 1 (pc' := 78) (lv' := [(3, .int (nI i)), (0, .ref 196), (1, .int (nI v)), (2, .int (nI n))]) (st' := [.int (nI v), .int (nI (pa i))]) (H' := _) (kc' := 0) (ks' := 0) rfl ?_
      by_cases z2 : pa i = v
      · refine RQ.brT rfl rfl rfl (cT_eq (pa i) v) ?_
        refine RQ.blk 4 (pc' := 90) (lv' := [(5, .int 1), (4, .int 0), (3, .int (nI i)), (0, .ref 196), (1, .int (nI v)), (2, .int (nI n))]) (st' := []) (H' := _) (kc' := 0) (ks' := 0) rfl ?_
        refine RQ.pick (a := [(5, .int 1), (4, .int 0), (3, .int (nI i)), (0, .ref 196), (1, .int (nI v)), (2, .int (nI n))]) [0, 1, 2, 3, 4, 5] [5, 4, 3, 0, 1, 2] rfl rfl (by decide) ?_
        refine rq_mrank (d := d + 4) hm1 hT1 k5 hv hil ?_
        refine RQ.blk 2 (pc' := 180) (lv' := [(5, .int (nI (200 + 1))), (4, .int (nI (rkF (rkP kd pa nl nm i v) 200))), (3, .int (nI i)), (0, .ref 196), (1, .int (nI v)), (2, .int (nI n))]) (st' := [.int (nI n), .int (nI (rkF (rkP kd pa nl nm i v) 200))]) (H' := _) (kc' := 0) (ks' := 0) rfl ?_
        by_cases z3 : rkF (rkP kd pa nl nm i v) 200 = n
        · refine RQ.brT rfl rfl rfl (cT_eq (rkF (rkP kd pa nl nm i v) 200) n) ?_
          have hp : (lsP kd pa nl nm v n) i = true := by unfold lsP inD; rw [decide_eq_false z1, decide_eq_true z2, decide_eq_true z3]; rfl
          rw [fstF_hit (by omega) hp] at he
          have hri : r = i := (Option.some.inj he).symm
          subst hri
          refine RQ.blk 2 (pc' := 188) (lv' := [(5, .int (nI (200 + 1))), (4, .int (nI (rkF (rkP kd pa nl nm r v) 200))), (3, .int (nI r)), (0, .ref 196), (1, .int (nI v)), (2, .int (nI n))]) (st' := [.ref 196, .ref 196]) (H' := _) (kc' := 0) (ks' := 0) rfl ?_
          refine RQ.get (ci := 12) rfl hm1 rfl rfl ?_
          refine RQ.blk 3 (pc' := 195) (lv' := [(5, .int (nI (200 + 1))), (4, .int (nI (rkF (rkP kd pa nl nm r v) 200))), (3, .int (nI r)), (0, .ref 196), (1, .int (nI v)), (2, .int (nI n))]) (st' := [.int (30 * nI r), .ref 217, .ref 196]) (H' := _) (kc' := 0) (ks' := 0) rfl ?_
          rw [show (30 * nI r : Int32) = nI (30 * r) from pk_mul 30 r]
          refine RQ.blk 1 (pc' := 196) (lv' := [(5, .int (nI (200 + 1))), (4, .int (nI (rkF (rkP kd pa nl nm r v) 200))), (3, .int (nI r)), (0, .ref 196), (1, .int (nI v)), (2, .int (nI n))]) (st' := [.ref 196, .int (nI (30 * r)), .ref 217, .ref 196]) (H' := _) (kc' := 0) (ks' := 0) rfl ?_
          refine RQ.get (ci := 12) rfl hm1 rfl rfl ?_
          refine RQ.blk 1 (pc' := 200) (lv' := [(5, .int (nI (200 + 1))), (4, .int (nI (rkF (rkP kd pa nl nm r v) 200))), (3, .int (nI r)), (0, .ref 196), (1, .int (nI v)), (2, .int (nI n))]) (st' := [.int (nI r), .ref 216, .int (nI (30 * r)), .ref 217, .ref 196]) (H' := _) (kc' := 0) (ks' := 0) rfl ?_
          refine RQ.ialdN (j := r) rfl hT1.2.2.1 (by omega) (by decide) ?_
          refine RQ.call (v := none) (st' := []) rfl rfl rfl rfl rfl rfl (args_v [.int (nI (nl r)), .int (nI (30 * r)), .ref 217] [] rfl rfl (Nat.le_of_ble_eq_true rfl) rfl hm1 (Nat.le_of_ble_eq_true rfl)) (rc_mtake (a := 216) (na := 6030) (j := 30 * r) (n := nl r) hm1 h1971 hT1.2.2.2.1 (by decide) (by decide) (by decide) (by omega) (by omega)) ?_
          refine RQ.blk 1 (pc' := 205) (lv' := [(5, .int (nI (200 + 1))), (4, .int (nI (rkF (rkP kd pa nl nm r v) 200))), (3, .int (nI r)), (0, .ref 196), (1, .int (nI v)), (2, .int (nI n))]) (st' := [.int (nI r)]) (H' := _) (kc' := 0) (ks' := 0) rfl ?_
          exact RQ.done (c := 0) (s := 0) rfl rfl rfl rfl ⟨_, _, rfl, rfl, ⟨us, ba, bo, get_set ((set_far (by decide)).trans hm1), hV1.far (fun a a1 a2 => (set_far (by omega)).trans (set_far (by omega))) ((set_far (by decide)).trans (set_far (by decide))), (set_far (by decide)).trans ((set_far (by decide)).trans h51), (set_far (by decide)).trans ((set_far (by decide)).trans h61), hR1.far (fun a a1 => (set_far (by omega)).trans (set_far (by omega))), hT1.far (fun a a1 a2 => (set_far (by omega)).trans (set_far (by omega))), hP1.far (fun a a1 a2 => (set_far (by omega)).trans (set_far (by omega))), (set_far (by decide)).trans ((set_far (by decide)).trans h1961), (set_far (by decide)).trans (get_set h1971)⟩, fun a ha => (set_far (by omega)).trans ((set_far (by omega)).trans (f1 a (by omega)))⟩
        · refine RQ.brF rfl rfl rfl (cF_eq (rkF (rkP kd pa nl nm i v) 200) n) ?_
          refine RQ.blk 2 (pc' := 209) (lv' := [(3, .int (nI i + 1)), (5, .int (nI (200 + 1))), (4, .int (nI (rkF (rkP kd pa nl nm i v) 200))), (0, .ref 196), (1, .int (nI v)), (2, .int (nI n))]) (st' := []) (H' := _) (kc' := 0) (ks' := 0) rfl ?_
          rw [show (nI i + 1 : Int32) = nI (i + 1) from nI_add i 1]
          refine RQ.blk 1 (pc' := 55) (lv' := [(3, .int (nI (i + 1))), (5, .int (nI (200 + 1))), (4, .int (nI (rkF (rkP kd pa nl nm i v) 200))), (0, .ref 196), (1, .int (nI v)), (2, .int (nI n))]) (st' := []) (H' := _) (kc' := 0) (ks' := 0) rfl ?_
          refine RQ.pick (a := [(3, .int (nI (i + 1))), (0, .ref 196), (1, .int (nI v)), (2, .int (nI n))]) [0, 3, 4, 5] [3, 5, 4, 0, 1, 2] rfl rfl (by decide) ?_
          have hp : (lsP kd pa nl nm v n) i = false := by unfold lsP inD; rw [decide_eq_false z1, decide_eq_true z2, decide_eq_false z3]; rfl
          rw [fstF_miss (by omega) hp] at he
          exact ih (i + 1) _ ⟨by omega, by omega, by rw [show 201 - (i + 1) = 201 - i - 1 by omega]; exact he, rfl⟩ (by omega)
      · refine RQ.brF rfl rfl rfl (cF_eq (pa i) v) ?_
        refine RQ.blk 2 (pc' := 209) (lv' := [(3, .int (nI i + 1)), (0, .ref 196), (1, .int (nI v)), (2, .int (nI n))]) (st' := []) (H' := _) (kc' := 0) (ks' := 0) rfl ?_
        rw [show (nI i + 1 : Int32) = nI (i + 1) from nI_add i 1]
        refine RQ.blk 1 (pc' := 55) (lv' := [(3, .int (nI (i + 1))), (0, .ref 196), (1, .int (nI v)), (2, .int (nI n))]) (st' := []) (H' := _) (kc' := 0) (ks' := 0) rfl ?_
        refine RQ.pick (a := [(3, .int (nI (i + 1))), (0, .ref 196), (1, .int (nI v)), (2, .int (nI n))]) [0, 1, 2, 3] [3, 0, 1, 2] rfl rfl (by decide) ?_
        have hp : (lsP kd pa nl nm v n) i = false := by unfold lsP inD; rw [decide_eq_false z1, decide_eq_false z2]; rfl
        rw [fstF_miss (by omega) hp] at he
        exact ih (i + 1) _ ⟨by omega, by omega, by rw [show 201 - (i + 1) = 201 - i - 1 by omega]; exact he, rfl⟩ (by omega)
  ·
    rw [show 201 - i = 0 by omega] at he
    cases he
set_option maxRecDepth 20000 in
theorem ri_mlist_none {sc : Nat × (Nat → Int32)} {d l : Nat} {H : aH} {fa cw cl rs : Int32} {li : Nat} {tb : Nat → Int8} {g0 : Nat → Int8} {p : Nat} {ms : List aMV} {op : Nat → Bool} {se : Nat → Nat} {wss : Nat → List aE} {kd pa sz nl : Nat → Nat} {nm : Nat → Int8} {ps : List aPc} {v n : Nat} (h : RefI H fa li 0 cw cl tb l rs g0 p ms op se wss kd pa sz nl nm ps) (hk : RefOk l p ms se kd pa sz nl ps) (hv : v ≤ 200) (hn : n < 2 ^ 31) (hkd : kd v = 2) (hfn : fstF (lsP kd pa nl nm v n) 1 200 = none) : RI sc (d + 5) mr_329 [.ref 196, .int (nI v), .int (nI n)] H (fun x H' => x = 0 ∧ RefI H' 3 li 0 cw cl tb l rs g0 p ms op se wss kd pa sz nl nm ps ∧ ∀ a, ¬ (195 ≤ a ∧ a < 224) → H'[a]? = H[a]?) := by
  obtain ⟨us, ba, bo, hm, hV, h5, h6, hR, hT, hP, h196, h197⟩ := h
  obtain ⟨k1, k2, k3, k4, k5, k6, k7, k8⟩ := hk
  refine RI.of ?_
  refine RQ.blk 2 (pc' := 2) (lv' := [(0, .ref 196), (1, .int (nI v)), (2, .int (nI n))]) (st' := [.int 0, .ref 196]) (H' := _) (kc' := 0) (ks' := 0) rfl ?_
  refine RQ.put (ci := 12) rfl hm rfl rfl (Nat.le_of_ble_eq_true rfl) ?_
  have hm1 : (H.set 195 (kO 12 (mfs 0 (nI li) 0 cw cl (nI l) rs (nI p) (nI ms.length) (nI us) (nI ps.length) (nI (plen ps)) ba bo)))[195]? = some (kO 12 (mfs 0 (nI li) 0 cw cl (nI l) rs (nI p) (nI ms.length) (nI us) (nI ps.length) (nI (plen ps)) ba bo)) := get_set hm
  have f1 : ∀ a, a ≠ 195 → (H.set 195 (kO 12 (mfs 0 (nI li) 0 cw cl (nI l) rs (nI p) (nI ms.length) (nI us) (nI ps.length) (nI (plen ps)) ba bo)))[a]? = H[a]? := fun a ha => set_far ha
  show RQ _ _ _ 5 [(0, .ref 196), (1, .int (nI v)), (2, .int (nI n))] [] (H.set 195 (kO 12 (mfs 0 (nI li) 0 cw cl (nI l) rs (nI p) (nI ms.length) (nI us) (nI ps.length) (nI (plen ps)) ba bo))) 0 0 _
  generalize (H.set 195 (kO 12 (mfs 0 (nI li) 0 cw cl (nI l) rs (nI p) (nI ms.length) (nI us) (nI ps.length) (nI (plen ps)) ba bo))) = H1 at hm1 f1 ⊢
  have hV1 := hV.far (fun a a1 a2 => f1 a (by omega)) (f1 223 (by decide))
  have h51 := (f1 205 (by decide)).trans h5
  have h61 := (f1 206 (by decide)).trans h6
  have hR1 := hR.far (fun a a1 => f1 a (by omega))
  have hT1 := hT.far (fun a a1 a2 => f1 a (by omega))
  have hP1 := hP.far (fun a a1 a2 => f1 a (by omega))
  have h1961 := (f1 196 (by decide)).trans h196
  have h1971 := (f1 197 (by decide)).trans h197
  have hkv := k5 v hv
  refine RQ.blk 3 (pc' := 10) (lv' := [(0, .ref 196), (1, .int (nI v)), (2, .int (nI n))]) (st' := [.int 201, .int (nI v), .ref 196]) (H' := _) (kc' := 0) (ks' := 0) rfl ?_
  refine RQ.call (v := some (.int 0)) (st' := []) rfl rfl rfl rfl rfl rfl (args_v [.int 201, .int (nI v)] [] rfl rfl (Nat.le_of_ble_eq_true rfl) rfl hm1 (Nat.le_of_ble_eq_true rfl)) (rc_out (v := v) (m := 201) (by omega) (by decide)) ?_
  refine RQ.brT rfl rfl rfl (by decide) ?_
  refine RQ.blk 1 (pc' := 23) (lv' := [(0, .ref 196), (1, .int (nI v)), (2, .int (nI n))]) (st' := [.ref 196]) (H' := _) (kc' := 0) (ks' := 0) rfl ?_
  refine RQ.get (ci := 12) rfl hm1 rfl rfl ?_
  refine RQ.brT rfl rfl rfl (by decide) ?_
  refine RQ.blk 2 (pc' := 37) (lv' := [(0, .ref 196), (1, .int (nI v)), (2, .int (nI n))]) (st' := [.int (nI v), .ref 196]) (H' := _) (kc' := 0) (ks' := 0) rfl ?_
  refine RQ.call (v := some (.int 1)) (st' := []) rfl rfl rfl rfl rfl rfl (args_v [.int (nI v)] [] rfl rfl (Nat.le_of_ble_eq_true rfl) rfl hm1 (Nat.le_of_ble_eq_true rfl)) (rc_mdirT hm1 rfl hT1.1 hv (nI_is2 hkd)) ?_
  refine RQ.brF rfl rfl rfl (by decide) ?_
  refine RQ.blk 1 (pc' := 44) (lv' := [(0, .ref 196), (1, .int (nI v)), (2, .int (nI n))]) (st' := [.int (nI n)]) (H' := _) (kc' := 0) (ks' := 0) rfl ?_
  refine RQ.brT rfl rfl rfl (cT_ge n 0) ?_
  refine RQ.blk 2 (pc' := 55) (lv' := [(3, .int 1), (0, .ref 196), (1, .int (nI v)), (2, .int (nI n))]) (st' := []) (H' := _) (kc' := 0) (ks' := 0) rfl ?_
  refine RQ.pick (a := [(3, .int 1), (0, .ref 196), (1, .int (nI v)), (2, .int (nI n))]) [0, 1, 2, 3] [3, 0, 1, 2] rfl rfl (by decide) ?_
  refine RQ.while (S := Nat) (pc := 55) (fun i H' => 1 ≤ i ∧ i ≤ 201 ∧ fstF (lsP kd pa nl nm v n) i (201 - i) = none ∧ H' = H1) (fun i => [(3, .int (nI i)), (0, .ref 196), (1, .int (nI v)), (2, .int (nI n))]) (fun i => 201 - i) ?_ 1 H1 ⟨Nat.le_refl _, by omega, hfn, rfl⟩
  rintro i H3 ⟨hi1, hi2, he, eH⟩ ih
  rw [eH]
  by_cases hil : i ≤ 200
  ·
    have hki := k5 i hil
    have hrk := rkF_le (rkP kd pa nl nm i v) 200
    refine RQ.blk 2 (pc' := 59) (lv' := [(3, .int (nI i)), (0, .ref 196), (1, .int (nI v)), (2, .int (nI n))]) (st' := [.int 200, .int (nI i)]) (H' := _) (kc' := 0) (ks' := 0) rfl ?_
    refine RQ.brF rfl rfl rfl (cF_gt i 200) ?_
    refine RQ.blk 1 (pc' := 63) (lv' := [(3, .int (nI i)), (0, .ref 196), (1, .int (nI v)), (2, .int (nI n))]) (st' := [.ref 196]) (H' := _) (kc' := 0) (ks' := 0) rfl ?_
    refine RQ.get (ci := 12) rfl hm1 rfl rfl ?_
    refine RQ.blk 1 (pc' := 67) (lv' := [(3, .int (nI i)), (0, .ref 196), (1, .int (nI v)), (2, .int (nI n))]) (st' := [.int (nI i), .ref 214]) (H' := _) (kc' := 0) (ks' := 0) rfl ?_
    refine RQ.ialdN (j := i) rfl hT1.1 (by omega) (by decide) ?_
    by_cases z1 : kd i = 0
    · refine RQ.brT rfl rfl rfl (cT_eq (kd i) 0) ?_
      refine RQ.blk 1 (pc' := 209) (lv' := [(3, .int (nI i + 1)), (0, .ref 196), (1, .int (nI v)), (2, .int (nI n))]) (st' := []) (H' := _) (kc' := 0) (ks' := 0) rfl ?_
      rw [show (nI i + 1 : Int32) = nI (i + 1) from nI_add i 1]
      refine RQ.blk 1 (pc' := 55) (lv' := [(3, .int (nI (i + 1))), (0, .ref 196), (1, .int (nI v)), (2, .int (nI n))]) (st' := []) (H' := _) (kc' := 0) (ks' := 0) rfl ?_
      refine RQ.pick (a := [(3, .int (nI (i + 1))), (0, .ref 196), (1, .int (nI v)), (2, .int (nI n))]) [0, 1, 2, 3] [3, 0, 1, 2] rfl rfl (by decide) ?_
      have hp : (lsP kd pa nl nm v n) i = false := by unfold lsP inD; rw [decide_eq_true z1]; rfl
      rw [fstF_miss (by omega) hp] at he
      exact ih (i + 1) _ ⟨by omega, by omega, by rw [show 201 - (i + 1) = 201 - i - 1 by omega]; exact he, rfl⟩ (by omega)
    · refine RQ.brF rfl rfl rfl (cF_eq (kd i) 0) ?_
      refine RQ.blk 1 (pc' := 72) (lv' := [(3, .int (nI i)), (0, .ref 196), (1, .int (nI v)), (2, .int (nI n))]) (st' := [.ref 196]) (H' := _) (kc' := 0) (ks' := 0) rfl ?_
      refine RQ.get (ci := 12) rfl hm1 rfl rfl ?_
      refine RQ.blk 1 (pc' := 76) (lv' := [(3, .int (nI i)), (0, .ref 196), (1, .int (nI v)), (2, .int (nI n))]) (st' := [.int (nI i), .ref 215]) (H' := _) (kc' := 0) (ks' := 0) rfl ?_
      refine RQ.ialdN (j := i) rfl hT1.2.1 (by omega) (by decide) ?_
      refine RQ.blk 1 (pc' := 78) (lv' := [(3, .int (nI i)), (0, .ref 196), (1, .int (nI v)), (2, .int (nI n))]) (st' := [.int (nI v), .int (nI (pa i))]) (H' := _) (kc' := 0) (ks' := 0) rfl ?_
      by_cases z2 : pa i = v
      · refine RQ.brT rfl rfl rfl (cT_eq (pa i) v) ?_
        refine RQ.blk 4 (pc' := 90) (lv' := [(5, .int 1), (4, .int 0), (3, .int (nI i)), (0, .ref 196), (1, .int (nI v)), (2, .int (nI n))]) (st' := []) (H' := _) (kc' := 0) (ks' := 0) rfl ?_
        refine RQ.pick (a := [(5, .int 1), (4, .int 0), (3, .int (nI i)), (0, .ref 196), (1, .int (nI v)), (2, .int (nI n))]) [0, 1, 2, 3, 4, 5] [5, 4, 3, 0, 1, 2] rfl rfl (by decide) ?_
        refine rq_mrank (d := d + 4) hm1 hT1 k5 hv hil ?_
        refine RQ.blk 2 (pc' := 180) (lv' := [(5, .int (nI (200 + 1))), (4, .int (nI (rkF (rkP kd pa nl nm i v) 200))), (3, .int (nI i)), (0, .ref 196), (1, .int (nI v)), (2, .int (nI n))]) (st' := [.int (nI n), .int (nI (rkF (rkP kd pa nl nm i v) 200))]) (H' := _) (kc' := 0) (ks' := 0) rfl ?_
        by_cases z3 : rkF (rkP kd pa nl nm i v) 200 = n
        · refine RQ.brT rfl rfl rfl (cT_eq (rkF (rkP kd pa nl nm i v) 200) n) ?_
          have hp : (lsP kd pa nl nm v n) i = true := by unfold lsP inD; rw [decide_eq_false z1, decide_eq_true z2, decide_eq_true z3]; rfl
          rw [fstF_hit (by omega) hp] at he
          cases he
        · refine RQ.brF rfl rfl rfl (cF_eq (rkF (rkP kd pa nl nm i v) 200) n) ?_
          refine RQ.blk 2 (pc' := 209) (lv' := [(3, .int (nI i + 1)), (5, .int (nI (200 + 1))), (4, .int (nI (rkF (rkP kd pa nl nm i v) 200))), (0, .ref 196), (1, .int (nI v)), (2, .int (nI n))]) (st' := []) (H' := _) (kc' := 0) (ks' := 0) rfl ?_
          rw [show (nI i + 1 : Int32) = nI (i + 1) from nI_add i 1]
          refine RQ.blk 1 (pc' := 55) (lv' := [(3, .int (nI (i + 1))), (5, .int (nI (200 + 1))), (4, .int (nI (rkF (rkP kd pa nl nm i v) 200))), (0, .ref 196), (1, .int (nI v)), (2, .int (nI n))]) (st' := []) (H' := _) (kc' := 0) (ks' := 0) rfl ?_
          refine RQ.pick (a := [(3, .int (nI (i + 1))), (0, .ref 196), (1, .int (nI v)), (2, .int (nI n))]) [0, 3, 4, 5] [3, 5, 4, 0, 1, 2] rfl rfl (by decide) ?_
          have hp : (lsP kd pa nl nm v n) i = false := by unfold lsP inD; rw [decide_eq_false z1, decide_eq_true z2, decide_eq_false z3]; rfl
          rw [fstF_miss (by omega) hp] at he
          exact ih (i + 1) _ ⟨by omega, by omega, by rw [show 201 - (i + 1) = 201 - i - 1 by omega]; exact he, rfl⟩ (by omega)
      · refine RQ.brF rfl rfl rfl (cF_eq (pa i) v) ?_
        refine RQ.blk 2 (pc' := 209) (lv' := [(3, .int (nI i + 1)), (0, .ref 196), (1, .int (nI v)), (2, .int (nI n))]) (st' := []) (H' := _) (kc' := 0) (ks' := 0) rfl ?_
        rw [show (nI i + 1 : Int32) = nI (i + 1) from nI_add i 1]
        refine RQ.blk 1 (pc' := 55) (lv' := [(3, .int (nI (i + 1))), (0, .ref 196), (1, .int (nI v)), (2, .int (nI n))]) (st' := []) (H' := _) (kc' := 0) (ks' := 0) rfl ?_
        refine RQ.pick (a := [(3, .int (nI (i + 1))), (0, .ref 196), (1, .int (nI v)), (2, .int (nI n))]) [0, 1, 2, 3] [3, 0, 1, 2] rfl rfl (by decide) ?_
        have hp : (lsP kd pa nl nm v n) i = false := by unfold lsP inD; rw [decide_eq_false z1, decide_eq_false z2]; rfl
        rw [fstF_miss (by omega) hp] at he
        exact ih (i + 1) _ ⟨by omega, by omega, by rw [show 201 - (i + 1) = 201 - i - 1 by omega]; exact he, rfl⟩ (by omega)
  ·
    refine RQ.blk 2 (pc' := 59) (lv' := [(3, .int (nI i)), (0, .ref 196), (1, .int (nI v)), (2, .int (nI n))]) (st' := [.int 200, .int (nI i)]) (H' := _) (kc' := 0) (ks' := 0) rfl ?_
    refine RQ.brT rfl rfl rfl (cT_gt i 200) ?_
    refine RQ.blk 2 (pc' := 214) (lv' := [(3, .int (nI i)), (0, .ref 196), (1, .int (nI v)), (2, .int (nI n))]) (st' := [.int 3, .ref 196]) (H' := _) (kc' := 0) (ks' := 0) rfl ?_
    refine RQ.call (v := some (.int 0)) (st' := []) rfl rfl rfl rfl rfl rfl (args_v [.int 3] [] rfl rfl (Nat.le_of_ble_eq_true rfl) rfl hm1 (Nat.le_of_ble_eq_true rfl)) (rc_mfail hm1 rfl) ?_
    exact RQ.done (c := 0) (s := 0) rfl rfl rfl rfl ⟨_, _, rfl, rfl, ⟨us, ba, bo, get_set hm1, hV1.far (fun a a1 a2 => set_far (by omega)) (set_far (by decide)), (set_far (by decide)).trans h51, (set_far (by decide)).trans h61, hR1.far (fun a a1 => set_far (by omega)), hT1.far (fun a a1 a2 => set_far (by omega)), hP1.far (fun a a1 a2 => set_far (by omega)), (set_far (by decide)).trans h1961, (set_far (by decide)).trans h1971⟩, fun a ha => (set_far (by omega)).trans (f1 a (by omega))⟩
