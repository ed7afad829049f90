/-! ===== whether the version at a position is the one that is seen; class; written by wip/gen/isseen.py ===== -/
theorem rc_isSeen {sc : Nat × (Nat → Int32)} {d p m : Nat} {H : aH} {N : Nat} {kf : Nat → Int8} {kl mo pl : Nat → Nat} {le : Nat → Option Nat} {al : Nat → Bool} {od sp : Nat → Nat} {sz ss ac : Nat} (h : VersAt H N kf kl mo pl le al od sp sz ss ac) (hk : VersOk N kl mo pl le od sp sz ss) (hp : p < 2 ^ 31) (hm : m < 2 ^ 31) : RC sc (d + 3) mr_72 [.ref 75, .int (nI p), .int (nI m)] H (.inl (some (.int (if p < sz ∧ mo (od p) ≤ m ∧ ((p = 0 ∨ ¬ sl kf (od (p - 1) * 41) (kl (od (p - 1))) = sl kf (od p * 41) (kl (od p))) ∨ m < mo (od (p - 1))) then 1 else 0)))) H 0 0 := by
  have hN := hk.1
  have hszN := hk.2.1
  refine RC.of ?_
  refine RQ.blk 1 (pc' := 1) (lv' := [(0, .ref 75), (1, .int (nI p)), (2, .int (nI m))]) (st' := [.int (nI p)]) (H' := _) (kc' := 0) (ks' := 0) rfl ?_
  refine RQ.brF rfl rfl rfl (cF_lt p 0) ?_
  refine RQ.blk 2 (pc' := 6) (lv' := [(0, .ref 75), (1, .int (nI p)), (2, .int (nI m))]) (st' := [.ref 75, .int (nI p)]) (H' := _) (kc' := 0) (ks' := 0) rfl ?_
  refine RQ.get (ci := 10) rfl h.1 rfl rfl ?_
  by_cases k1 : p < sz
  · have hod := hk.2.2.2.1 p k1
    have hmo := (hk.2.2.2.2.2 _ hod).2.1
    refine RQ.brF rfl rfl rfl (cF_ge p sz) ?_
    refine RQ.blk 1 (pc' := 13) (lv' := [(0, .ref 75), (1, .int (nI p)), (2, .int (nI m))]) (st' := [.ref 75]) (H' := _) (kc' := 0) (ks' := 0) rfl ?_
    refine RQ.get (ci := 10) rfl h.1 rfl rfl ?_
    refine RQ.blk 1 (pc' := 17) (lv' := [(0, .ref 75), (1, .int (nI p)), (2, .int (nI m))]) (st' := [.ref 75, .ref 78]) (H' := _) (kc' := 0) (ks' := 0) rfl ?_
    refine RQ.get (ci := 10) rfl h.1 rfl rfl ?_
    refine RQ.blk 1 (pc' := 21) (lv' := [(0, .ref 75), (1, .int (nI p)), (2, .int (nI m))]) (st' := [.int (nI p), .ref 82, .ref 78]) (H' := _) (kc' := 0) (ks' := 0) rfl ?_
    refine RQ.ialdN (j := p) rfl h.2.2.2.2.2.2.2.1 (by omega) (by omega) ?_
    refine RQ.ialdN (j := od p) rfl h.2.2.2.1 (by omega) (by omega) ?_
    refine RQ.blk 1 (pc' := 24) (lv' := [(0, .ref 75), (1, .int (nI p)), (2, .int (nI m))]) (st' := [.int (nI m), .int (nI (mo (od p)))]) (H' := _) (kc' := 0) (ks' := 0) rfl ?_
    by_cases k2 : mo (od p) ≤ m
    · refine RQ.brT rfl rfl rfl (cT_le (mo (od p)) m) ?_
      refine RQ.blk 2 (pc' := 31) (lv' := [(0, .ref 75), (1, .int (nI p)), (2, .int (nI m))]) (st' := [.int (nI p), .ref 75]) (H' := _) (kc' := 0) (ks' := 0) rfl ?_
      refine RQ.call (v := some (.int (if p = 0 ∨ ¬ sl kf (od (p - 1) * 41) (kl (od (p - 1))) = sl kf (od p * 41) (kl (od p)) then 1 else 0))) (st' := []) rfl rfl rfl rfl rfl rfl (args_v [.int (nI p)] [] rfl rfl (Nat.le_of_ble_eq_true rfl) rfl h.1 (Nat.le_of_ble_eq_true rfl)) (rc_isNewest h hk k1) ?_
      by_cases k3 : p = 0 ∨ ¬ sl kf (od (p - 1) * 41) (kl (od (p - 1))) = sl kf (od p * 41) (kl (od p))
      · rw [if_pos (show p < sz ∧ mo (od p) ≤ m ∧ ((p = 0 ∨ ¬ sl kf (od (p - 1) * 41) (kl (od (p - 1))) = sl kf (od p * 41) (kl (od p))) ∨ m < mo (od (p - 1))) from ⟨k1, k2, Or.inl k3⟩)]
        rw [if_pos k3]
        refine RQ.brT rfl rfl rfl (by decide) ?_
        refine RQ.blk 2 (pc' := 59) (lv' := [(0, .ref 75), (1, .int (nI p)), (2, .int (nI m))]) (st' := [.int 1]) (H' := _) (kc' := 0) (ks' := 0) rfl ?_
        exact RQ.done (c := 0) (s := 0) rfl rfl rfl rfl rfl
      · have hp0 : ¬ p = 0 := fun e => k3 (Or.inl e)
        rw [show (if p = 0 ∨ ¬ sl kf (od (p - 1) * 41) (kl (od (p - 1))) = sl kf (od p * 41) (kl (od p)) then (1 : Int32) else 0) = 0 from if_neg k3]
        have hod2 := hk.2.2.2.1 (p - 1) (by omega)
        have hmo2 := (hk.2.2.2.2.2 _ hod2).2.1
        refine RQ.brF rfl rfl rfl (by decide) ?_
        refine RQ.blk 1 (pc' := 38) (lv' := [(0, .ref 75), (1, .int (nI p)), (2, .int (nI m))]) (st' := [.ref 75]) (H' := _) (kc' := 0) (ks' := 0) rfl ?_
        refine RQ.get (ci := 10) rfl h.1 rfl rfl ?_
        refine RQ.blk 1 (pc' := 42) (lv' := [(0, .ref 75), (1, .int (nI p)), (2, .int (nI m))]) (st' := [.ref 75, .ref 78]) (H' := _) (kc' := 0) (ks' := 0) rfl ?_
        refine RQ.get (ci := 10) rfl h.1 rfl rfl ?_
        refine RQ.blk 3 (pc' := 48) (lv' := [(0, .ref 75), (1, .int (nI p)), (2, .int (nI m))]) (st' := [.int (nI p - 1), .ref 82, .ref 78]) (H' := _) (kc' := 0) (ks' := 0) rfl ?_
        rw [show (nI p - 1 : Int32) = nI (p - 1) from pk_sub (a := p) (b := 1) (by omega)]
        refine RQ.ialdN (j := p - 1) rfl h.2.2.2.2.2.2.2.1 (by omega) (by omega) ?_
        refine RQ.ialdN (j := od (p - 1)) rfl h.2.2.2.1 (by omega) (by omega) ?_
        refine RQ.blk 1 (pc' := 51) (lv' := [(0, .ref 75), (1, .int (nI p)), (2, .int (nI m))]) (st' := [.int (nI m), .int (nI (mo (od (p - 1))))]) (H' := _) (kc' := 0) (ks' := 0) rfl ?_
        by_cases k4 : m < mo (od (p - 1))
        · rw [if_pos (show p < sz ∧ mo (od p) ≤ m ∧ ((p = 0 ∨ ¬ sl kf (od (p - 1) * 41) (kl (od (p - 1))) = sl kf (od p * 41) (kl (od p))) ∨ m < mo (od (p - 1))) from ⟨k1, k2, Or.inr k4⟩)]
          refine RQ.brF rfl rfl rfl (cF_le (mo (od (p - 1))) m) ?_
          refine RQ.blk 2 (pc' := 59) (lv' := [(0, .ref 75), (1, .int (nI p)), (2, .int (nI m))]) (st' := [.int 1]) (H' := _) (kc' := 0) (ks' := 0) rfl ?_
          exact RQ.done (c := 0) (s := 0) rfl rfl rfl rfl rfl
        · rw [if_neg (fun e => e.2.2.elim k3 k4)]
          refine RQ.brT rfl rfl rfl (cT_le (mo (od (p - 1))) m) ?_
          refine RQ.blk 1 (pc' := 59) (lv' := [(0, .ref 75), (1, .int (nI p)), (2, .int (nI m))]) (st' := [.int 0]) (H' := _) (kc' := 0) (ks' := 0) rfl ?_
          exact RQ.done (c := 0) (s := 0) rfl rfl rfl rfl rfl
    · rw [if_neg (fun e => k2 e.2.1)]
      refine RQ.brF rfl rfl rfl (cF_le (mo (od p)) m) ?_
      refine RQ.blk 1 (pc' := 28) (lv' := [(0, .ref 75), (1, .int (nI p)), (2, .int (nI m))]) (st' := [.int 0]) (H' := _) (kc' := 0) (ks' := 0) rfl ?_
      exact RQ.done (c := 0) (s := 0) rfl rfl rfl rfl rfl
  · rw [if_neg (fun e => k1 e.1)]
    refine RQ.brT rfl rfl rfl (cT_ge p sz) ?_
    refine RQ.blk 1 (pc' := 28) (lv' := [(0, .ref 75), (1, .int (nI p)), (2, .int (nI m))]) (st' := [.int 0]) (H' := _) (kc' := 0) (ks' := 0) rfl ?_
    exact RQ.done (c := 0) (s := 0) rfl rfl rfl rfl rfl
