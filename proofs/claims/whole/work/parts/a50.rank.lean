/-! ===== how many names of a directory come before a name; class; written by wip/gen/rank.py ===== -/
/-- whether w lies in t, by a name before v's -/
def rkP (kd pa nl : Nat → Nat) (nm : Nat → Int8) (v t w : Nat) : Bool := inD kd pa t w && decide (cmpL (sl nm (w * 30) (nl w)) (sl nm (v * 30) (nl v)) < 0)
/-- how many of 1 to n -/
def rkF (P : Nat → Bool) : Nat → Nat
  | 0 => 0
  | n + 1 => rkF P n + (if P (n + 1) = true then 1 else 0)
theorem rc_rankOf {sc : Nat × (Nat → Int32)} {d v t : Nat} {H : aH} {kd pa sz nl : Nat → Nat} {nm : Nat → Int8} {no : Nat} (h : TreeAt H kd pa sz nl nm no) (hk : TreeOk kd pa sz nl) (hv : v ≤ 200) (ht : t ≤ 200) : RC sc (d + 3) mr_255 [.ref 66, .int (nI v), .int (nI t)] H (.inl (some (.int (nI (rkF (rkP kd pa nl nm v t) 200))))) H 0 0 := by
  have hnv := (hk v hv).2.2.2
  refine RC.of ?_
  refine RQ.blk 4 (pc' := 5) (lv' := [(4, .int 1), (3, .int 0), (0, .ref 66), (1, .int (nI v)), (2, .int (nI t))]) (st' := []) (H' := _) (kc' := 0) (ks' := 0) rfl ?_
  refine RQ.while (S := Nat) (pc := 5) (fun i H' => i ≤ 200 ∧ H' = H) (fun i => [(4, .int (nI (i + 1))), (3, .int (nI (rkF (rkP kd pa nl nm v t) i))), (0, .ref 66), (1, .int (nI v)), (2, .int (nI t))]) (fun i => 200 - i) ?_ 0 H ⟨Nat.zero_le _, rfl⟩
  rintro i H2 ⟨hi, eH⟩ ih
  rw [eH]
  by_cases hi2 : i < 200
  ·
    have hni := (hk (i + 1) (by omega)).2.2.2
    refine RQ.blk 2 (pc' := 10) (lv' := [(4, .int (nI (i + 1))), (3, .int (nI (rkF (rkP kd pa nl nm v t) i))), (0, .ref 66), (1, .int (nI v)), (2, .int (nI t))]) (st' := [.int 200, .int (nI (i + 1))]) (H' := _) (kc' := 0) (ks' := 0) rfl ?_
    refine RQ.brF rfl rfl rfl (cF_gt (i + 1) 200) ?_
    refine RQ.blk 3 (pc' := 17) (lv' := [(4, .int (nI (i + 1))), (3, .int (nI (rkF (rkP kd pa nl nm v t) i))), (0, .ref 66), (1, .int (nI v)), (2, .int (nI t))]) (st' := [.int (nI t), .int (nI (i + 1)), .ref 66]) (H' := _) (kc' := 0) (ks' := 0) rfl ?_
    refine RQ.call (v := some (.int (if inD kd pa t (i + 1) = true then 1 else 0))) (st' := []) rfl rfl rfl rfl rfl rfl (args_v [.int (nI t), .int (nI (i + 1))] [] rfl rfl (Nat.le_of_ble_eq_true rfl) rfl h.1 (Nat.le_of_ble_eq_true rfl)) (rc_isIn (v := i + 1) h hk (by omega) (by omega) ht) ?_
    by_cases k1 : inD kd pa t (i + 1) = true
    · rw [if_pos k1]
      refine RQ.brF rfl rfl rfl (by decide) ?_
      refine RQ.blk 1 (pc' := 24) (lv' := [(4, .int (nI (i + 1))), (3, .int (nI (rkF (rkP kd pa nl nm v t) i))), (0, .ref 66), (1, .int (nI v)), (2, .int (nI t))]) (st' := [.ref 66]) (H' := _) (kc' := 0) (ks' := 0) rfl ?_
      refine RQ.get (ci := 9) rfl h.1 rfl rfl ?_
      refine RQ.blk 3 (pc' := 32) (lv' := [(4, .int (nI (i + 1))), (3, .int (nI (rkF (rkP kd pa nl nm v t) i))), (0, .ref 66), (1, .int (nI v)), (2, .int (nI t))]) (st' := [.int (nI (i + 1) * 30), .ref 71]) (H' := _) (kc' := 0) (ks' := 0) rfl ?_
      rw [show (nI (i + 1) * 30 : Int32) = nI ((i + 1) * 30) from pk_mul (i + 1) 30]
      refine RQ.blk 1 (pc' := 33) (lv' := [(4, .int (nI (i + 1))), (3, .int (nI (rkF (rkP kd pa nl nm v t) i))), (0, .ref 66), (1, .int (nI v)), (2, .int (nI t))]) (st' := [.ref 66, .int (nI ((i + 1) * 30)), .ref 71]) (H' := _) (kc' := 0) (ks' := 0) rfl ?_
      refine RQ.get (ci := 9) rfl h.1 rfl rfl ?_
      refine RQ.blk 1 (pc' := 38) (lv' := [(4, .int (nI (i + 1))), (3, .int (nI (rkF (rkP kd pa nl nm v t) i))), (0, .ref 66), (1, .int (nI v)), (2, .int (nI t))]) (st' := [.int (nI (i + 1)), .ref 70, .int (nI ((i + 1) * 30)), .ref 71]) (H' := _) (kc' := 0) (ks' := 0) rfl ?_
      refine RQ.ialdN (j := i + 1) rfl h.2.2.2.2.1 (by omega) (by decide) ?_
      refine RQ.blk 1 (pc' := 40) (lv' := [(4, .int (nI (i + 1))), (3, .int (nI (rkF (rkP kd pa nl nm v t) i))), (0, .ref 66), (1, .int (nI v)), (2, .int (nI t))]) (st' := [.ref 66, .int (nI (nl (i + 1))), .int (nI ((i + 1) * 30)), .ref 71]) (H' := _) (kc' := 0) (ks' := 0) rfl ?_
      refine RQ.get (ci := 9) rfl h.1 rfl rfl ?_
      refine RQ.blk 3 (pc' := 47) (lv' := [(4, .int (nI (i + 1))), (3, .int (nI (rkF (rkP kd pa nl nm v t) i))), (0, .ref 66), (1, .int (nI v)), (2, .int (nI t))]) (st' := [.int (nI v * 30), .ref 71, .int (nI (nl (i + 1))), .int (nI ((i + 1) * 30)), .ref 71]) (H' := _) (kc' := 0) (ks' := 0) rfl ?_
      rw [show (nI v * 30 : Int32) = nI (v * 30) from pk_mul v 30]
      refine RQ.blk 1 (pc' := 48) (lv' := [(4, .int (nI (i + 1))), (3, .int (nI (rkF (rkP kd pa nl nm v t) i))), (0, .ref 66), (1, .int (nI v)), (2, .int (nI t))]) (st' := [.ref 66, .int (nI (v * 30)), .ref 71, .int (nI (nl (i + 1))), .int (nI ((i + 1) * 30)), .ref 71]) (H' := _) (kc' := 0) (ks' := 0) rfl ?_
      refine RQ.get (ci := 9) rfl h.1 rfl rfl ?_
      refine RQ.blk 1 (pc' := 52) (lv' := [(4, .int (nI (i + 1))), (3, .int (nI (rkF (rkP kd pa nl nm v t) i))), (0, .ref 66), (1, .int (nI v)), (2, .int (nI t))]) (st' := [.int (nI v), .ref 70, .int (nI (v * 30)), .ref 71, .int (nI (nl (i + 1))), .int (nI ((i + 1) * 30)), .ref 71]) (H' := _) (kc' := 0) (ks' := 0) rfl ?_
      refine RQ.ialdN (j := v) rfl h.2.2.2.2.1 (by omega) (by decide) ?_
      refine RQ.callI (st' := []) rfl rfl rfl rfl rfl rfl rfl (ri_cmp (i := (i + 1) * 30) (n := nl (i + 1)) (j := v * 30) (m := nl v) h.2.2.2.2.2 h.2.2.2.2.2 (by decide) (by decide) (by omega) (by omega)) (fun y H3 hx => ?_)
      obtain ⟨eH3, hy⟩ := hx
      subst eH3
      by_cases k2 : cmpL (sl nm ((i + 1) * 30) (nl (i + 1))) (sl nm (v * 30) (nl v)) < 0
      · refine RQ.brF rfl rfl rfl (decide_eq_false (Int32.not_le.mpr ((cmp_lt0 hy).mpr k2))) ?_
        refine RQ.blk 1 (pc' := 62) (lv' := [(3, .int (nI (rkF (rkP kd pa nl nm v t) i) + 1)), (4, .int (nI (i + 1))), (0, .ref 66), (1, .int (nI v)), (2, .int (nI t))]) (st' := []) (H' := _) (kc' := 0) (ks' := 0) rfl ?_
        rw [show (nI (rkF (rkP kd pa nl nm v t) i) + 1 : Int32) = nI (rkF (rkP kd pa nl nm v t) i + 1) from nI_add (rkF (rkP kd pa nl nm v t) i) 1]
        refine RQ.blk 1 (pc' := 65) (lv' := [(4, .int (nI (i + 1) + 1)), (3, .int (nI (rkF (rkP kd pa nl nm v t) i + 1))), (0, .ref 66), (1, .int (nI v)), (2, .int (nI t))]) (st' := []) (H' := _) (kc' := 0) (ks' := 0) rfl ?_
        rw [show (nI (i + 1) + 1 : Int32) = nI (i + 1 + 1) from nI_add (i + 1) 1]
        refine RQ.blk 1 (pc' := 5) (lv' := [(4, .int (nI (i + 1 + 1))), (3, .int (nI (rkF (rkP kd pa nl nm v t) i + 1))), (0, .ref 66), (1, .int (nI v)), (2, .int (nI t))]) (st' := []) (H' := _) (kc' := 0) (ks' := 0) rfl ?_
        refine RQ.pick (a := [(4, .int (nI (i + 1 + 1))), (3, .int (nI (rkF (rkP kd pa nl nm v t) i + 1))), (0, .ref 66), (1, .int (nI v)), (2, .int (nI t))]) [0, 1, 2, 3, 4] [4, 3, 0, 1, 2] rfl rfl (by decide) ?_
        have hp : rkP kd pa nl nm v t (i + 1) = true := by unfold rkP; rw [k1, decide_eq_true k2]; rfl
        have h9 := ih (i + 1) _ ⟨by omega, rfl⟩ (by omega)
        rw [show rkF (rkP kd pa nl nm v t) (i + 1) = rkF (rkP kd pa nl nm v t) i + 1 by rw [rkF, if_pos hp]] at h9
        exact h9
      · refine RQ.brT rfl rfl rfl (decide_eq_true (Int32.not_lt.mp (fun e => k2 ((cmp_lt0 hy).mp e)))) ?_
        refine RQ.blk 1 (pc' := 65) (lv' := [(4, .int (nI (i + 1) + 1)), (3, .int (nI (rkF (rkP kd pa nl nm v t) i))), (0, .ref 66), (1, .int (nI v)), (2, .int (nI t))]) (st' := []) (H' := _) (kc' := 0) (ks' := 0) rfl ?_
        rw [show (nI (i + 1) + 1 : Int32) = nI (i + 1 + 1) from nI_add (i + 1) 1]
        refine RQ.blk 1 (pc' := 5) (lv' := [(4, .int (nI (i + 1 + 1))), (3, .int (nI (rkF (rkP kd pa nl nm v t) i))), (0, .ref 66), (1, .int (nI v)), (2, .int (nI t))]) (st' := []) (H' := _) (kc' := 0) (ks' := 0) rfl ?_
        refine RQ.pick (a := [(4, .int (nI (i + 1 + 1))), (3, .int (nI (rkF (rkP kd pa nl nm v t) i))), (0, .ref 66), (1, .int (nI v)), (2, .int (nI t))]) [0, 1, 2, 3, 4] [4, 3, 0, 1, 2] rfl rfl (by decide) ?_
        have hp : rkP kd pa nl nm v t (i + 1) = false := by unfold rkP; rw [k1, decide_eq_false k2]; rfl
        have h9 := ih (i + 1) _ ⟨by omega, rfl⟩ (by omega)
        rw [show rkF (rkP kd pa nl nm v t) (i + 1) = rkF (rkP kd pa nl nm v t) i by rw [rkF, if_neg (by rw [hp]; decide)]; rfl] at h9
        exact h9
    · rw [if_neg k1]
      refine RQ.brT rfl rfl rfl (by decide) ?_
      refine RQ.blk 1 (pc' := 65) (lv' := [(4, .int (nI (i + 1) + 1)), (3, .int (nI (rkF (rkP kd pa nl nm v t) i))), (0, .ref 66), (1, .int (nI v)), (2, .int (nI t))]) (st' := []) (H' := _) (kc' := 0) (ks' := 0) rfl ?_
      rw [show (nI (i + 1) + 1 : Int32) = nI (i + 1 + 1) from nI_add (i + 1) 1]
      refine RQ.blk 1 (pc' := 5) (lv' := [(4, .int (nI (i + 1 + 1))), (3, .int (nI (rkF (rkP kd pa nl nm v t) i))), (0, .ref 66), (1, .int (nI v)), (2, .int (nI t))]) (st' := []) (H' := _) (kc' := 0) (ks' := 0) rfl ?_
      refine RQ.pick (a := [(4, .int (nI (i + 1 + 1))), (3, .int (nI (rkF (rkP kd pa nl nm v t) i))), (0, .ref 66), (1, .int (nI v)), (2, .int (nI t))]) [0, 1, 2, 3, 4] [4, 3, 0, 1, 2] rfl rfl (by decide) ?_
      have hp : rkP kd pa nl nm v t (i + 1) = false := by unfold rkP; rw [show inD kd pa t (i + 1) = false from eq_false_of_ne_true k1]; rfl
      have h9 := ih (i + 1) _ ⟨by omega, rfl⟩ (by omega)
      rw [show rkF (rkP kd pa nl nm v t) (i + 1) = rkF (rkP kd pa nl nm v t) i by rw [rkF, if_neg (by rw [hp]; decide)]; rfl] at h9
      exact h9
  ·
    refine RQ.blk 2 (pc' := 10) (lv' := [(4, .int (nI (i + 1))), (3, .int (nI (rkF (rkP kd pa nl nm v t) i))), (0, .ref 66), (1, .int (nI v)), (2, .int (nI t))]) (st' := [.int 200, .int (nI (i + 1))]) (H' := _) (kc' := 0) (ks' := 0) rfl ?_
    refine RQ.brT rfl rfl rfl (cT_gt (i + 1) 200) ?_
    refine RQ.blk 1 (pc' := 69) (lv' := [(4, .int (nI (i + 1))), (3, .int (nI (rkF (rkP kd pa nl nm v t) i))), (0, .ref 66), (1, .int (nI v)), (2, .int (nI t))]) (st' := [.int (nI (rkF (rkP kd pa nl nm v t) i))]) (H' := _) (kc' := 0) (ks' := 0) rfl ?_
    exact RQ.done (c := 0) (s := 0) rfl rfl rfl rfl (by rw [show i = 200 by omega])
