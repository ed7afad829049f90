/-! ===== whether a record lies behind what the tables tell; class; written by wip/gen/fresh2.py ===== -/
/-- whether the place a is fresh: in a log behind the first of the fresh ones, or in it from ff on -/
def freshF (lg : Nat → Nat) (lc fr ff a : Nat) : Bool :=
  match fstF (fun j => decide (lg j = a / 2048)) 0 lc with
  | none => false
  | some j => decide (lc - fr < j) || (decide (j = lc - fr) && decide (ff ≤ a % 2048))
theorem fstF_lt {P : Nat → Bool} : ∀ {n v j : Nat}, fstF P v n = some j → v ≤ j ∧ j < v + n
  | 0, v, j, h => by cases h
  | n + 1, v, j, h => by
    rw [fstF] at h
    by_cases hp : P v = true
    · rw [if_pos hp] at h
      have := Option.some.inj h
      omega
    · rw [if_neg hp] at h
      have := fstF_lt h
      omega
theorem rc_isFresh {sc : Nat × (Nat → Int32)} {d B lc fr ff : Nat} {wr : Bool} {tp rc ms mt sq tu tn nb : Nat} {H : aH} {us : Nat → Bool} {lg : Nat → Nat} {a : Nat} (h : LayAt H (layF B lc fr ff wr tp rc ms mt sq tu tn nb) B us lg) (hB : B ≤ 128) (hl : lc ≤ B) (ha : a < 2 ^ 30) (hlg : ∀ j, j < lc → lg j < 2 ^ 30) (hfl : fr ≤ lc) (hff : ff < 2 ^ 31) : RC sc (d + 1) mr_207 [.ref 84, .int (nI a)] H (.inl (some (.int (if freshF lg lc fr ff a = true then 1 else 0)))) H 0 0 := by
  refine RC.of ?_
  refine RQ.blk 1 (pc' := 1) (lv' := [(0, .ref 84), (1, .int (nI a))]) (st' := [.ref 84]) (H' := _) (kc' := 0) (ks' := 0) rfl ?_
  refine RQ.get (ci := 3) rfl h.1 rfl rfl ?_
  refine RQ.blk 1 (pc' := 5) (lv' := [(0, .ref 84), (1, .int (nI a))]) (st' := [.ref 84, .int (nI lc)]) (H' := _) (kc' := 0) (ks' := 0) rfl ?_
  refine RQ.get (ci := 3) rfl h.1 rfl rfl ?_
  refine RQ.blk 1 (pc' := 9) (lv' := [(0, .ref 84), (1, .int (nI a))]) (st' := [.int (nI lc - nI fr)]) (H' := _) (kc' := 0) (ks' := 0) rfl ?_
  rw [show (nI lc - nI fr : Int32) = nI (lc - fr) from pk_sub (a := lc) (b := fr) (by omega)]
  refine RQ.blk 3 (pc' := 12) (lv' := [(2, .int (nI (lc - fr))), (0, .ref 84), (1, .int (nI a))]) (st' := [.int (nI a), .ref 84]) (H' := _) (kc' := 0) (ks' := 0) rfl ?_
  refine RQ.call (v := some (.int (lI (fstF (fun j => decide (lg j = a / 2048)) 0 lc)))) (st' := []) rfl rfl rfl rfl rfl rfl (args_v [.int (nI a)] [] rfl rfl (Nat.le_of_ble_eq_true rfl) rfl h.1 (Nat.le_of_ble_eq_true rfl)) (rc_logOf h hB hl ha hlg) ?_
  cases ho : fstF (fun j => decide (lg j = a / 2048)) 0 lc with
  | none =>
    have hfr : freshF lg lc fr ff a = false := by unfold freshF; rw [ho]
    rw [hfr]
    rw [show lI (none : Option Nat) = -1 from rfl]
    refine RQ.blk 3 (pc' := 18) (lv' := [(3, .int (-1)), (2, .int (nI (lc - fr))), (0, .ref 84), (1, .int (nI a))]) (st' := [.int (nI (lc - fr)), .int (-1)]) (H' := _) (kc' := 0) (ks' := 0) rfl ?_
    refine RQ.brF rfl rfl rfl (decide_eq_false (fun e => absurd (Int32.lt_trans e (show (-1 : Int32) < 0 by decide)) (nI_nlt (b := 0) (by omega) (by omega)))) ?_
    refine RQ.blk 1 (pc' := 22) (lv' := [(3, .int (-1)), (2, .int (nI (lc - fr))), (0, .ref 84), (1, .int (nI a))]) (st' := [.int (-1)]) (H' := _) (kc' := 0) (ks' := 0) rfl ?_
    refine RQ.brT rfl rfl rfl (by decide) ?_
    refine RQ.blk 1 (pc' := 47) (lv' := [(3, .int (-1)), (2, .int (nI (lc - fr))), (0, .ref 84), (1, .int (nI a))]) (st' := [.int 0]) (H' := _) (kc' := 0) (ks' := 0) rfl ?_
    exact RQ.done (c := 0) (s := 0) rfl rfl rfl rfl rfl
  | some j =>
    have hjl := fstF_lt ho
    rw [show lI (some j) = nI j from rfl]
    refine RQ.blk 3 (pc' := 18) (lv' := [(3, .int (nI j)), (2, .int (nI (lc - fr))), (0, .ref 84), (1, .int (nI a))]) (st' := [.int (nI (lc - fr)), .int (nI j)]) (H' := _) (kc' := 0) (ks' := 0) rfl ?_
    by_cases k1 : lc - fr < j
    · have hfr : freshF lg lc fr ff a = true := by unfold freshF; rw [ho]; dsimp only; rw [decide_eq_true k1, Bool.true_or]
      rw [hfr]
      refine RQ.brT rfl rfl rfl (cT_gt j (lc - fr)) ?_
      refine RQ.blk 2 (pc' := 47) (lv' := [(3, .int (nI j)), (2, .int (nI (lc - fr))), (0, .ref 84), (1, .int (nI a))]) (st' := [.int 1]) (H' := _) (kc' := 0) (ks' := 0) rfl ?_
      exact RQ.done (c := 0) (s := 0) rfl rfl rfl rfl rfl
    · refine RQ.brF rfl rfl rfl (cF_gt j (lc - fr)) ?_
      refine RQ.blk 1 (pc' := 22) (lv' := [(3, .int (nI j)), (2, .int (nI (lc - fr))), (0, .ref 84), (1, .int (nI a))]) (st' := [.int (nI j)]) (H' := _) (kc' := 0) (ks' := 0) rfl ?_
      refine RQ.brF rfl rfl rfl (cF_lt j 0) ?_
      refine RQ.blk 2 (pc' := 27) (lv' := [(3, .int (nI j)), (2, .int (nI (lc - fr))), (0, .ref 84), (1, .int (nI a))]) (st' := [.int (nI (lc - fr)), .int (nI j)]) (H' := _) (kc' := 0) (ks' := 0) rfl ?_
      by_cases k2 : j = lc - fr
      · refine RQ.brF rfl rfl rfl (cF_ne j (lc - fr)) ?_
        refine RQ.blk 3 (pc' := 35) (lv' := [(3, .int (nI j)), (2, .int (nI (lc - fr))), (0, .ref 84), (1, .int (nI a))]) (st' := [.int (nI a - nI a / 2048 * 2048)]) (H' := _) (kc' := 0) (ks' := 0) rfl ?_
        rw [show (nI a - nI a / 2048 * 2048 : Int32) = nI (a % 2048) from pk_rem (a := a) (d := 2048) (by omega) (by omega) (by omega)]
        refine RQ.blk 1 (pc' := 36) (lv' := [(3, .int (nI j)), (2, .int (nI (lc - fr))), (0, .ref 84), (1, .int (nI a))]) (st' := [.ref 84, .int (nI (a % 2048))]) (H' := _) (kc' := 0) (ks' := 0) rfl ?_
        refine RQ.get (ci := 3) rfl h.1 rfl rfl ?_
        by_cases k3 : a % 2048 < ff
        · have hfr : freshF lg lc fr ff a = false := by unfold freshF; rw [ho]; dsimp only; rw [decide_eq_false k1, decide_eq_true k2, decide_eq_false (show ¬ ff ≤ a % 2048 by omega)]; rfl
          rw [hfr]
          refine RQ.brT rfl rfl rfl (cT_lt (a % 2048) ff) ?_
          refine RQ.blk 1 (pc' := 47) (lv' := [(3, .int (nI j)), (2, .int (nI (lc - fr))), (0, .ref 84), (1, .int (nI a))]) (st' := [.int 0]) (H' := _) (kc' := 0) (ks' := 0) rfl ?_
          exact RQ.done (c := 0) (s := 0) rfl rfl rfl rfl rfl
        · have hfr : freshF lg lc fr ff a = true := by unfold freshF; rw [ho]; dsimp only; rw [decide_eq_false k1, decide_eq_true k2, decide_eq_true (show ff ≤ a % 2048 by omega)]; rfl
          rw [hfr]
          refine RQ.brF rfl rfl rfl (cF_lt (a % 2048) ff) ?_
          refine RQ.blk 2 (pc' := 47) (lv' := [(3, .int (nI j)), (2, .int (nI (lc - fr))), (0, .ref 84), (1, .int (nI a))]) (st' := [.int 1]) (H' := _) (kc' := 0) (ks' := 0) rfl ?_
          exact RQ.done (c := 0) (s := 0) rfl rfl rfl rfl rfl
      · have hfr : freshF lg lc fr ff a = false := by unfold freshF; rw [ho]; dsimp only; rw [decide_eq_false k1, decide_eq_false k2]; rfl
        rw [hfr]
        refine RQ.brT rfl rfl rfl (cT_ne j (lc - fr)) ?_
        refine RQ.blk 1 (pc' := 47) (lv' := [(3, .int (nI j)), (2, .int (nI (lc - fr))), (0, .ref 84), (1, .int (nI a))]) (st' := [.int 0]) (H' := _) (kc' := 0) (ks' := 0) rfl ?_
        exact RQ.done (c := 0) (s := 0) rfl rfl rfl rfl rfl
