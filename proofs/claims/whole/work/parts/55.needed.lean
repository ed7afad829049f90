/-! ===== the versions: the sum of what is needed, the number of keys; class; written by wip/gen/vers5.py ===== -/
/-- the slot before position p, -1 at the first -/
def bfI (od : Nat → Nat) : Nat → Int32
  | 0 => -1
  | p + 1 => nI (od p)
/-- whether position p is the first of its key -/
def nwB (kf : Nat → Int8) (kl od : Nat → Nat) : Nat → Bool
  | 0 => true
  | p + 1 => !(decide (sl kf (od p * 41) (kl (od p)) = sl kf (od (p + 1) * 41) (kl (od (p + 1)))))
/-- the moment of the next newer version of the same key -/
def nrB (kf : Nat → Int8) (kl mo od : Nat → Nat) : Nat → Nat
  | 0 => 0
  | p + 1 => if nwB kf kl od (p + 1) then 0 else mo (od p)
/-- whether what stands at position p is needed -/
def ndB (op : Nat → Bool) (sm : Nat → Nat) (kf : Nat → Int8) (kl mo : Nat → Nat) (le : Nat → Option Nat) (od : Nat → Nat) (x : Int32) (p : Nat) : Bool := isN op sm (decide (ub (kf (od p * 41)) = 0)) (decide (le (od p) = none)) (mo (od p)) (nwB kf kl od p) (nrB kf kl mo od p) x
/-- the sum of what is needed among the first n positions -/
def ndS (op : Nat → Bool) (sm : Nat → Nat) (kf : Nat → Int8) (kl mo : Nat → Nat) (le : Nat → Option Nat) (od : Nat → Nat) (x : Int32) : Nat → Nat
  | 0 => 0
  | p + 1 => ndS op sm kf kl mo le od x p + (if ndB op sm kf kl mo le od x p then wgt (ub (kf (od p * 41))) (kl (od p)) (le (od p)) else 0)
theorem rc_needed {sc : Nat × (Nat → Int32)} {d N : Nat} {H : aH} {kf : Nat → Int8} {kl mo pl : Nat → Nat} {le : Nat → Option Nat} {al : Nat → Bool} {od sp : Nat → Nat} {sz ss ac : Nat} {op : Nat → Bool} {sm : Nat → Nat} {x : Int32} (g : SightAt H op sm) (hsm : ∀ t, t < 8 → sm t < 2 ^ 31) (h : VersAt H N kf kl mo pl le al od sp sz ss ac) (hk : VersOk N kl mo pl le od sp sz ss) : RC sc (d + 2) mr_90 [.ref 75, .int x] H (.inl (some (.int (nI (ndS op sm kf kl mo le od x sz))))) H 0 0 := by
  have hN := hk.1
  have hsz := hk.2.1
  have hss := hk.2.2.1
  refine RC.of ?_
  refine RQ.blk 6 (pc' := 7) (lv' := [(4, .int 0), (3, .int (-1)), (2, .int 0), (0, .ref 75), (1, .int x)]) (st' := []) (H' := _) (kc' := 0) (ks' := 0) rfl ?_
  refine RQ.loopQ (pc := 7) (fun _ => True) (fun p => [(4, .int (nI p)), (3, .int (bfI od p)), (2, .int (nI (ndS op sm kf kl mo le od x p))), (0, .ref 75), (1, .int x)]) sz (fun p hp _ ih => ?_) (fun _ => ?_) trivial
  · have hod := hk.2.2.2.1 p hp
    have hk_o := hk.2.2.2.2.2 _ hod
    have ih := ih trivial
    have rest : ∀ (nw : Int32), RQ sc (d + 2) mr_90 70 [(6, .int nw), (5, .int (nI (od p))), (4, .int (nI p)), (3, .int (bfI od p)), (2, .int (nI (ndS op sm kf kl mo le od x p))), (0, .ref 75), (1, .int x)] [.int (if ndB op sm kf kl mo le od x p then 1 else 0)] H 0 0 (fun r => r = (.inl (some (.int (nI (ndS op sm kf kl mo le od x sz)))), H, 0, 0)) := by
      intro nw
      cases hb : ndB op sm kf kl mo le od x p with
      | true =>
        have e : ndS op sm kf kl mo le od x (p + 1) = ndS op sm kf kl mo le od x p + wgt (ub (kf (od p * 41))) (kl (od p)) (le (od p)) := by rw [ndS, if_pos hb]
        refine RQ.brF rfl rfl rfl (by decide) ?_
        refine RQ.blk 3 (pc' := 77) (lv' := [(6, .int nw), (5, .int (nI (od p))), (4, .int (nI p)), (3, .int (bfI od p)), (2, .int (nI (ndS op sm kf kl mo le od x p))), (0, .ref 75), (1, .int x)]) (st' := [.int (nI (od p)), .ref 75, .int (nI (ndS op sm kf kl mo le od x p))]) (H' := _) (kc' := 0) (ks' := 0) rfl ?_
        refine RQ.call (v := some (.int (nI (wgt (ub (kf (od p * 41))) (kl (od p)) (le (od p)))))) (st' := [.int (nI (ndS op sm kf kl mo le od x p))]) rfl rfl rfl rfl rfl rfl (args_v [.int (nI (od p))] [.int (nI (ndS op sm kf kl mo le od x p))] rfl rfl (Nat.le_of_ble_eq_true rfl) rfl h.1 (Nat.le_of_ble_eq_true rfl)) (rc_weightOf h hk hod) ?_
        refine RQ.blk 1 (pc' := 81) (lv' := [(6, .int nw), (5, .int (nI (od p))), (4, .int (nI p)), (3, .int (bfI od p)), (2, .int (nI (ndS op sm kf kl mo le od x p))), (0, .ref 75), (1, .int x)]) (st' := [.int (nI (ndS op sm kf kl mo le od x p) + nI (wgt (ub (kf (od p * 41))) (kl (od p)) (le (od p))))]) (H' := _) (kc' := 0) (ks' := 0) rfl ?_
        rw [show (nI (ndS op sm kf kl mo le od x p) + nI (wgt (ub (kf (od p * 41))) (kl (od p)) (le (od p))) : Int32) = nI (ndS op sm kf kl mo le od x p + (wgt (ub (kf (od p * 41))) (kl (od p)) (le (od p)))) from nI_add (ndS op sm kf kl mo le od x p) (wgt (ub (kf (od p * 41))) (kl (od p)) (le (od p)))]
        refine RQ.blk 4 (pc' := 88) (lv' := [(4, .int (nI p + 1)), (3, .int (nI (od p))), (2, .int (nI (ndS op sm kf kl mo le od x p + (wgt (ub (kf (od p * 41))) (kl (od p)) (le (od p)))))), (6, .int nw), (5, .int (nI (od p))), (0, .ref 75), (1, .int x)]) (st' := []) (H' := _) (kc' := 0) (ks' := 0) rfl ?_
        rw [show (nI p + 1 : Int32) = nI (p + 1) from nI_add p 1]
        refine RQ.blk 1 (pc' := 7) (lv' := [(4, .int (nI (p + 1))), (3, .int (nI (od p))), (2, .int (nI (ndS op sm kf kl mo le od x p + (wgt (ub (kf (od p * 41))) (kl (od p)) (le (od p)))))), (6, .int nw), (5, .int (nI (od p))), (0, .ref 75), (1, .int x)]) (st' := []) (H' := _) (kc' := 0) (ks' := 0) rfl ?_
        rw [← e]
        exact RQ.pick [0, 1, 2, 5, 6] [4, 3, 2, 6, 5, 0, 1] rfl rfl (by decide) ih
      | false =>
        have e : ndS op sm kf kl mo le od x (p + 1) = ndS op sm kf kl mo le od x p := by rw [ndS, hb]; rfl
        refine RQ.brT rfl rfl rfl (by decide) ?_
        refine RQ.blk 3 (pc' := 88) (lv' := [(4, .int (nI p + 1)), (3, .int (nI (od p))), (6, .int nw), (5, .int (nI (od p))), (2, .int (nI (ndS op sm kf kl mo le od x p))), (0, .ref 75), (1, .int x)]) (st' := []) (H' := _) (kc' := 0) (ks' := 0) rfl ?_
        rw [show (nI p + 1 : Int32) = nI (p + 1) from nI_add p 1]
        refine RQ.blk 1 (pc' := 7) (lv' := [(4, .int (nI (p + 1))), (3, .int (nI (od p))), (6, .int nw), (5, .int (nI (od p))), (2, .int (nI (ndS op sm kf kl mo le od x p))), (0, .ref 75), (1, .int x)]) (st' := []) (H' := _) (kc' := 0) (ks' := 0) rfl ?_
        rw [← e]
        exact RQ.pick [0, 1, 4, 5, 6] [4, 3, 6, 5, 2, 0, 1] rfl rfl (by decide) ih
    cases p with
    | zero =>
      refine RQ.blk 2 (pc' := 10) (lv' := [(4, .int (nI 0)), (3, .int (-1)), (2, .int (nI (ndS op sm kf kl mo le od x 0))), (0, .ref 75), (1, .int x)]) (st' := [.ref 75, .int (nI 0)]) (H' := _) (kc' := 0) (ks' := 0) rfl ?_
      refine RQ.get (ci := 10) rfl h.1 rfl rfl ?_
      refine RQ.brF rfl rfl rfl (cF_ge 0 sz) ?_
      refine RQ.blk 1 (pc' := 17) (lv' := [(4, .int (nI 0)), (3, .int (-1)), (2, .int (nI (ndS op sm kf kl mo le od x 0))), (0, .ref 75), (1, .int x)]) (st' := [.ref 75]) (H' := _) (kc' := 0) (ks' := 0) rfl ?_
      refine RQ.get (ci := 10) rfl h.1 rfl rfl ?_
      refine RQ.blk 1 (pc' := 22) (lv' := [(4, .int (nI 0)), (3, .int (-1)), (2, .int (nI (ndS op sm kf kl mo le od x 0))), (0, .ref 75), (1, .int x)]) (st' := [.int (nI 0), .ref 82]) (H' := _) (kc' := 0) (ks' := 0) rfl ?_
      refine RQ.ialdN (j := 0) rfl h.2.2.2.2.2.2.2.1 (by omega) (by omega) ?_
      refine RQ.blk 2 (pc' := 26) (lv' := [(5, .int (nI (od 0))), (4, .int (nI 0)), (3, .int (-1)), (2, .int (nI (ndS op sm kf kl mo le od x 0))), (0, .ref 75), (1, .int x)]) (st' := [.int (-1)]) (H' := _) (kc' := 0) (ks' := 0) rfl ?_
      refine RQ.brT rfl rfl rfl (by decide) ?_
      refine RQ.blk 7 (pc' := 53) (lv' := [(6, .int 1), (5, .int (nI (od 0))), (4, .int (nI 0)), (3, .int (-1)), (2, .int (nI (ndS op sm kf kl mo le od x 0))), (0, .ref 75), (1, .int x)]) (st' := [.int 1, .int 1, .int (nI (od 0)), .ref 75]) (H' := _) (kc' := 0) (ks' := 0) rfl ?_
      refine RQ.brF rfl rfl rfl (by decide) ?_
      refine RQ.blk 3 (pc' := 67) (lv' := [(6, .int 1), (5, .int (nI (od 0))), (4, .int (nI 0)), (3, .int (-1)), (2, .int (nI (ndS op sm kf kl mo le od x 0))), (0, .ref 75), (1, .int x)]) (st' := [.int x, .int 0, .int 1, .int (nI (od 0)), .ref 75]) (H' := _) (kc' := 0) (ks' := 0) rfl ?_
      refine RQ.call (v := some (.int (if ndB op sm kf kl mo le od x 0 then 1 else 0))) (st' := []) rfl rfl rfl rfl rfl rfl (args_v [.int x, .int 0, .int 1, .int (nI (od 0))] [] rfl rfl (Nat.le_of_ble_eq_true rfl) rfl h.1 (Nat.le_of_ble_eq_true rfl)) (rc_isNeeded (nw := true) (nr := 0) g hsm h hk hod (by omega)) ?_
      exact rest 1
    | succ p =>
      have hod1 := hk.2.2.2.1 p (by omega)
      have hk_1 := hk.2.2.2.2.2 _ hod1
      refine RQ.blk 2 (pc' := 10) (lv' := [(4, .int (nI (p + 1))), (3, .int (nI (od p))), (2, .int (nI (ndS op sm kf kl mo le od x (p + 1)))), (0, .ref 75), (1, .int x)]) (st' := [.ref 75, .int (nI (p + 1))]) (H' := _) (kc' := 0) (ks' := 0) rfl ?_
      refine RQ.get (ci := 10) rfl h.1 rfl rfl ?_
      refine RQ.brF rfl rfl rfl (cF_ge (p + 1) sz) ?_
      refine RQ.blk 1 (pc' := 17) (lv' := [(4, .int (nI (p + 1))), (3, .int (nI (od p))), (2, .int (nI (ndS op sm kf kl mo le od x (p + 1)))), (0, .ref 75), (1, .int x)]) (st' := [.ref 75]) (H' := _) (kc' := 0) (ks' := 0) rfl ?_
      refine RQ.get (ci := 10) rfl h.1 rfl rfl ?_
      refine RQ.blk 1 (pc' := 22) (lv' := [(4, .int (nI (p + 1))), (3, .int (nI (od p))), (2, .int (nI (ndS op sm kf kl mo le od x (p + 1)))), (0, .ref 75), (1, .int x)]) (st' := [.int (nI (p + 1)), .ref 82]) (H' := _) (kc' := 0) (ks' := 0) rfl ?_
      refine RQ.ialdN (j := p + 1) rfl h.2.2.2.2.2.2.2.1 (by omega) (by omega) ?_
      refine RQ.blk 2 (pc' := 26) (lv' := [(5, .int (nI (od (p + 1)))), (4, .int (nI (p + 1))), (3, .int (nI (od p))), (2, .int (nI (ndS op sm kf kl mo le od x (p + 1)))), (0, .ref 75), (1, .int x)]) (st' := [.int (nI (od p))]) (H' := _) (kc' := 0) (ks' := 0) rfl ?_
      refine RQ.brF rfl rfl rfl (cF_lt (od p) 0) ?_
      refine RQ.blk 3 (pc' := 33) (lv' := [(5, .int (nI (od (p + 1)))), (4, .int (nI (p + 1))), (3, .int (nI (od p))), (2, .int (nI (ndS op sm kf kl mo le od x (p + 1)))), (0, .ref 75), (1, .int x)]) (st' := [.int (nI (od (p + 1))), .int (nI (od p)), .ref 75]) (H' := _) (kc' := 0) (ks' := 0) rfl ?_
      refine RQ.call (v := some (.int (if sl kf (od p * 41) (kl (od p)) = sl kf (od (p + 1) * 41) (kl (od (p + 1))) then 1 else 0))) (st' := []) rfl rfl rfl rfl rfl rfl (args_v [.int (nI (od (p + 1))), .int (nI (od p))] [] rfl rfl (Nat.le_of_ble_eq_true rfl) rfl h.1 (Nat.le_of_ble_eq_true rfl)) (rc_sameKey h hk hod1 hod) ?_
      by_cases he : sl kf (od p * 41) (kl (od p)) = sl kf (od (p + 1) * 41) (kl (od (p + 1)))
      ·
        rw [if_pos he]
        refine RQ.brT rfl rfl rfl (by decide) ?_
        refine RQ.blk 6 (pc' := 53) (lv' := [(6, .int 0), (5, .int (nI (od (p + 1)))), (4, .int (nI (p + 1))), (3, .int (nI (od p))), (2, .int (nI (ndS op sm kf kl mo le od x (p + 1)))), (0, .ref 75), (1, .int x)]) (st' := [.int 0, .int 0, .int (nI (od (p + 1))), .ref 75]) (H' := _) (kc' := 0) (ks' := 0) rfl ?_
        refine RQ.brT rfl rfl rfl (by decide) ?_
        refine RQ.blk 1 (pc' := 61) (lv' := [(6, .int 0), (5, .int (nI (od (p + 1)))), (4, .int (nI (p + 1))), (3, .int (nI (od p))), (2, .int (nI (ndS op sm kf kl mo le od x (p + 1)))), (0, .ref 75), (1, .int x)]) (st' := [.ref 75, .int 0, .int (nI (od (p + 1))), .ref 75]) (H' := _) (kc' := 0) (ks' := 0) rfl ?_
        refine RQ.get (ci := 10) rfl h.1 rfl rfl ?_
        refine RQ.blk 1 (pc' := 65) (lv' := [(6, .int 0), (5, .int (nI (od (p + 1)))), (4, .int (nI (p + 1))), (3, .int (nI (od p))), (2, .int (nI (ndS op sm kf kl mo le od x (p + 1)))), (0, .ref 75), (1, .int x)]) (st' := [.int (nI (od p)), .ref 78, .int 0, .int (nI (od (p + 1))), .ref 75]) (H' := _) (kc' := 0) (ks' := 0) rfl ?_
        refine RQ.ialdN (j := od p) rfl h.2.2.2.1 (by omega) (by omega) ?_
        refine RQ.blk 1 (pc' := 67) (lv' := [(6, .int 0), (5, .int (nI (od (p + 1)))), (4, .int (nI (p + 1))), (3, .int (nI (od p))), (2, .int (nI (ndS op sm kf kl mo le od x (p + 1)))), (0, .ref 75), (1, .int x)]) (st' := [.int x, .int (nI (mo (od p))), .int 0, .int (nI (od (p + 1))), .ref 75]) (H' := _) (kc' := 0) (ks' := 0) rfl ?_
        have e1 : nwB kf kl od (p + 1) = false := by rw [nwB, decide_eq_true he]; rfl
        have e2 : nrB kf kl mo od (p + 1) = mo (od p) := by rw [nrB, e1]; rfl
        have e3 : ndB op sm kf kl mo le od x (p + 1) = isN op sm (decide (ub (kf (od (p + 1) * 41)) = 0)) (decide (le (od (p + 1)) = none)) (mo (od (p + 1))) false (mo (od p)) x := by unfold ndB; rw [e1, e2]
        have rest := rest 0
        rw [e3] at rest
        refine RQ.call (v := some (.int (if isN op sm (decide (ub (kf (od (p + 1) * 41)) = 0)) (decide (le (od (p + 1)) = none)) (mo (od (p + 1))) false (mo (od p)) x then 1 else 0))) (st' := []) rfl rfl rfl rfl rfl rfl (args_v [.int x, .int (nI (mo (od p))), .int 0, .int (nI (od (p + 1)))] [] rfl rfl (Nat.le_of_ble_eq_true rfl) rfl h.1 (Nat.le_of_ble_eq_true rfl)) (rc_isNeeded (nw := false) (nr := mo (od p)) g hsm h hk hod (by omega)) ?_
        exact rest
      ·
        rw [if_neg he]
        refine RQ.brF rfl rfl rfl (by decide) ?_
        refine RQ.blk 7 (pc' := 53) (lv' := [(6, .int 1), (5, .int (nI (od (p + 1)))), (4, .int (nI (p + 1))), (3, .int (nI (od p))), (2, .int (nI (ndS op sm kf kl mo le od x (p + 1)))), (0, .ref 75), (1, .int x)]) (st' := [.int 1, .int 1, .int (nI (od (p + 1))), .ref 75]) (H' := _) (kc' := 0) (ks' := 0) rfl ?_
        refine RQ.brF rfl rfl rfl (by decide) ?_
        refine RQ.blk 3 (pc' := 67) (lv' := [(6, .int 1), (5, .int (nI (od (p + 1)))), (4, .int (nI (p + 1))), (3, .int (nI (od p))), (2, .int (nI (ndS op sm kf kl mo le od x (p + 1)))), (0, .ref 75), (1, .int x)]) (st' := [.int x, .int 0, .int 1, .int (nI (od (p + 1))), .ref 75]) (H' := _) (kc' := 0) (ks' := 0) rfl ?_
        have e1 : nwB kf kl od (p + 1) = true := by rw [nwB, decide_eq_false he]; rfl
        have e2 : nrB kf kl mo od (p + 1) = 0 := by rw [nrB, e1]; rfl
        have e3 : ndB op sm kf kl mo le od x (p + 1) = isN op sm (decide (ub (kf (od (p + 1) * 41)) = 0)) (decide (le (od (p + 1)) = none)) (mo (od (p + 1))) true 0 x := by unfold ndB; rw [e1, e2]
        have rest := rest 1
        rw [e3] at rest
        refine RQ.call (v := some (.int (if isN op sm (decide (ub (kf (od (p + 1) * 41)) = 0)) (decide (le (od (p + 1)) = none)) (mo (od (p + 1))) true 0 x then 1 else 0))) (st' := []) rfl rfl rfl rfl rfl rfl (args_v [.int x, .int 0, .int 1, .int (nI (od (p + 1)))] [] rfl rfl (Nat.le_of_ble_eq_true rfl) rfl h.1 (Nat.le_of_ble_eq_true rfl)) (rc_isNeeded (nw := true) (nr := 0) g hsm h hk hod (by omega)) ?_
        exact rest
  ·
    refine RQ.blk 2 (pc' := 10) (lv' := [(4, .int (nI sz)), (3, .int (bfI od sz)), (2, .int (nI (ndS op sm kf kl mo le od x sz))), (0, .ref 75), (1, .int x)]) (st' := [.ref 75, .int (nI sz)]) (H' := _) (kc' := 0) (ks' := 0) rfl ?_
    refine RQ.get (ci := 10) rfl h.1 rfl rfl ?_
    refine RQ.brT rfl rfl rfl (cT_ge sz sz) ?_
    refine RQ.blk 1 (pc' := 92) (lv' := [(4, .int (nI sz)), (3, .int (bfI od sz)), (2, .int (nI (ndS op sm kf kl mo le od x sz))), (0, .ref 75), (1, .int x)]) (st' := [.int (nI (ndS op sm kf kl mo le od x sz))]) (H' := _) (kc' := 0) (ks' := 0) rfl ?_
    exact RQ.done (c := 0) (s := 0) rfl rfl rfl rfl rfl
