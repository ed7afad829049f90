/-! ===== what would be needed behind a change; class; written by wip/gen/ndw.py ===== -/
theorem rq_ndA {sc : Nat × (Nat → Int32)} {N : Nat} {kf : Nat → Int8} {kl mo pl : Nat → Nat} {le : Nat → Option Nat} {al : Nat → Bool} {od sp : Nat → Nat} {sz ss ac : Nat} {d p b u : Nat} {H : aH} {op : Nat → Bool} {sm : Nat → Nat} {x : Int32} {D : Nat → Int8} {S K : Nat → Nat} {E : Nat → Option Nat} {ws : List aE} {Q : tO × aH × Nat × Nat → Prop} {s st i y : Nat} (hA : VersAt H N kf kl mo pl le al od sp sz ss ac) (hV : VersWf N kf kl mo pl le al od sp sz ss ac) (hb : BatchAt H b D S K E ws.length u) (hbk : BatchOk S K E ws.length u) (hL : LayE D 0 S K E ws) (hs : SightAt H op sm) (hsm : ∀ t, t < 8 → sm t < 2 ^ 31) (hsN : s < N) (hp : p + 1 < 2 ^ 31) (hy : (if isN op sm (decide (ub (kf (s * 41)) = 0)) (decide (le s = none)) (mo s) true 0 x = true then (wgt (ub (kf (s * 41))) (kl s) (le s)) else 0) ≤ y)
    (kq : RQ sc (d + 2) mr_89 75 [(7, .int (nI s)), (6, .int (nI st)), (5, .int (nI i)), (4, .int (nI (y - (if isN op sm (decide (ub (kf (s * 41)) = 0)) (decide (le s = none)) (mo s) true 0 x = true then (wgt (ub (kf (s * 41))) (kl s) (le s)) else 0)))), (0, .ref 75), (1, .ref (b + 1)), (2, .int x), (3, .int (nI p))] [] H 0 0 Q) : RQ sc (d + 2) mr_89 52 [(7, .int (nI s)), (6, .int (nI st)), (5, .int (nI i)), (4, .int (nI y)), (0, .ref 75), (1, .ref (b + 1)), (2, .int x), (3, .int (nI p))] [] H 0 0 Q := by
  refine RQ.blk 5 (pc' := 58) (lv' := [(7, .int (nI s)), (6, .int (nI st)), (5, .int (nI i)), (4, .int (nI y)), (0, .ref 75), (1, .ref (b + 1)), (2, .int x), (3, .int (nI p))]) (st' := [.int x, .int 0, .int 1, .int (nI s), .ref 75]) (H' := _) (kc' := 0) (ks' := 0) rfl ?_
  refine RQ.call (v := some (.int (if isN op sm (decide (ub (kf (s * 41)) = 0)) (decide (le s = none)) (mo s) true 0 x then 1 else 0))) (st' := []) rfl rfl rfl rfl rfl rfl (args_v [.int x, .int 0, .int 1, .int (nI s)] [] rfl rfl (Nat.le_of_ble_eq_true rfl) rfl hA.1 (Nat.le_of_ble_eq_true rfl)) (rc_isNeeded (nw := true) (nr := 0) hs hsm hA hV.1 hsN (by omega)) ?_
  by_cases c3 : isN op sm (decide (ub (kf (s * 41)) = 0)) (decide (le s = none)) (mo s) true 0 x = true
  · rw [if_pos c3]
    rw [if_pos c3] at kq hy
    refine RQ.brF rfl rfl rfl (by decide) ?_
    refine RQ.blk 3 (pc' := 69) (lv' := [(7, .int (nI s)), (6, .int (nI st)), (5, .int (nI i)), (4, .int (nI y)), (0, .ref 75), (1, .ref (b + 1)), (2, .int x), (3, .int (nI p))]) (st' := [.int (nI s), .ref 75, .int (nI y)]) (H' := _) (kc' := 0) (ks' := 0) rfl ?_
    refine RQ.call (v := some (.int (nI (wgt (ub (kf (s * 41))) (kl s) (le s))))) (st' := [.int (nI y)]) rfl rfl rfl rfl rfl rfl (args_v [.int (nI s)] [.int (nI y)] rfl rfl (Nat.le_of_ble_eq_true rfl) rfl hA.1 (Nat.le_of_ble_eq_true rfl)) (rc_weightOf hA hV.1 hsN) ?_
    refine RQ.blk 1 (pc' := 73) (lv' := [(7, .int (nI s)), (6, .int (nI st)), (5, .int (nI i)), (4, .int (nI y)), (0, .ref 75), (1, .ref (b + 1)), (2, .int x), (3, .int (nI p))]) (st' := [.int (nI y - nI (wgt (ub (kf (s * 41))) (kl s) (le s)))]) (H' := _) (kc' := 0) (ks' := 0) rfl ?_
    rw [show (nI y - nI (wgt (ub (kf (s * 41))) (kl s) (le s)) : Int32) = nI (y - (wgt (ub (kf (s * 41))) (kl s) (le s))) from pk_sub (a := y) (b := (wgt (ub (kf (s * 41))) (kl s) (le s))) (by omega)]
    refine RQ.blk 1 (pc' := 75) (lv' := [(4, .int (nI (y - (wgt (ub (kf (s * 41))) (kl s) (le s))))), (7, .int (nI s)), (6, .int (nI st)), (5, .int (nI i)), (0, .ref 75), (1, .ref (b + 1)), (2, .int x), (3, .int (nI p))]) (st' := []) (H' := _) (kc' := 0) (ks' := 0) rfl ?_
    refine RQ.pick (a := [(7, .int (nI s)), (6, .int (nI st)), (5, .int (nI i)), (4, .int (nI (y - (wgt (ub (kf (s * 41))) (kl s) (le s))))), (0, .ref 75), (1, .ref (b + 1)), (2, .int x), (3, .int (nI p))]) [1, 2, 3, 0, 4, 5, 6, 7] [4, 7, 6, 5, 0, 1, 2, 3] rfl rfl (by decide) ?_
    exact kq
  · rw [if_neg c3]
    rw [if_neg c3] at kq hy
    refine RQ.brT rfl rfl rfl (by decide) ?_
    refine RQ.pick (a := [(7, .int (nI s)), (6, .int (nI st)), (5, .int (nI i)), (4, .int (nI y)), (0, .ref 75), (1, .ref (b + 1)), (2, .int x), (3, .int (nI p))]) [0, 1, 2, 3, 4, 5, 6, 7] [7, 6, 5, 4, 0, 1, 2, 3] rfl rfl (by decide) ?_
    exact kq
theorem rq_ndB {sc : Nat × (Nat → Int32)} {N : Nat} {kf : Nat → Int8} {kl mo pl : Nat → Nat} {le : Nat → Option Nat} {al : Nat → Bool} {od sp : Nat → Nat} {sz ss ac : Nat} {d p b u : Nat} {H : aH} {op : Nat → Bool} {sm : Nat → Nat} {x : Int32} {D : Nat → Int8} {S K : Nat → Nat} {E : Nat → Option Nat} {ws : List aE} {Q : tO × aH × Nat × Nat → Prop} {s st i y : Nat} (hA : VersAt H N kf kl mo pl le al od sp sz ss ac) (hV : VersWf N kf kl mo pl le al od sp sz ss ac) (hb : BatchAt H b D S K E ws.length u) (hbk : BatchOk S K E ws.length u) (hL : LayE D 0 S K E ws) (hs : SightAt H op sm) (hsm : ∀ t, t < 8 → sm t < 2 ^ 31) (hsN : s < N) (hp : p + 1 < 2 ^ 31)
    (kq : RQ sc (d + 2) mr_89 105 [(7, .int (nI s)), (6, .int (nI st)), (5, .int (nI i)), (4, .int (nI (y + (if isN op sm (decide (ub (kf (s * 41)) = 0)) (decide (le s = none)) (mo s) false (p + 1) x = true then (wgt (ub (kf (s * 41))) (kl s) (le s)) else 0)))), (0, .ref 75), (1, .ref (b + 1)), (2, .int x), (3, .int (nI p))] [] H 0 0 Q) : RQ sc (d + 2) mr_89 80 [(7, .int (nI s)), (6, .int (nI st)), (5, .int (nI i)), (4, .int (nI y)), (0, .ref 75), (1, .ref (b + 1)), (2, .int x), (3, .int (nI p))] [] H 0 0 Q := by
  refine RQ.blk 6 (pc' := 87) (lv' := [(7, .int (nI s)), (6, .int (nI st)), (5, .int (nI i)), (4, .int (nI y)), (0, .ref 75), (1, .ref (b + 1)), (2, .int x), (3, .int (nI p))]) (st' := [.int (nI p + 1), .int 0, .int (nI s), .ref 75]) (H' := _) (kc' := 0) (ks' := 0) rfl ?_
  rw [show (nI p + 1 : Int32) = nI (p + 1) from nI_add p 1]
  refine RQ.blk 1 (pc' := 88) (lv' := [(7, .int (nI s)), (6, .int (nI st)), (5, .int (nI i)), (4, .int (nI y)), (0, .ref 75), (1, .ref (b + 1)), (2, .int x), (3, .int (nI p))]) (st' := [.int x, .int (nI (p + 1)), .int 0, .int (nI s), .ref 75]) (H' := _) (kc' := 0) (ks' := 0) rfl ?_
  refine RQ.call (v := some (.int (if isN op sm (decide (ub (kf (s * 41)) = 0)) (decide (le s = none)) (mo s) false (p + 1) x then 1 else 0))) (st' := []) rfl rfl rfl rfl rfl rfl (args_v [.int x, .int (nI (p + 1)), .int 0, .int (nI s)] [] rfl rfl (Nat.le_of_ble_eq_true rfl) rfl hA.1 (Nat.le_of_ble_eq_true rfl)) (rc_isNeeded (nw := false) (nr := (p + 1)) hs hsm hA hV.1 hsN (by omega)) ?_
  by_cases c4 : isN op sm (decide (ub (kf (s * 41)) = 0)) (decide (le s = none)) (mo s) false (p + 1) x = true
  · rw [if_pos c4]
    rw [if_pos c4] at kq
    refine RQ.brF rfl rfl rfl (by decide) ?_
    refine RQ.blk 3 (pc' := 99) (lv' := [(7, .int (nI s)), (6, .int (nI st)), (5, .int (nI i)), (4, .int (nI y)), (0, .ref 75), (1, .ref (b + 1)), (2, .int x), (3, .int (nI p))]) (st' := [.int (nI s), .ref 75, .int (nI y)]) (H' := _) (kc' := 0) (ks' := 0) rfl ?_
    refine RQ.call (v := some (.int (nI (wgt (ub (kf (s * 41))) (kl s) (le s))))) (st' := [.int (nI y)]) rfl rfl rfl rfl rfl rfl (args_v [.int (nI s)] [.int (nI y)] rfl rfl (Nat.le_of_ble_eq_true rfl) rfl hA.1 (Nat.le_of_ble_eq_true rfl)) (rc_weightOf hA hV.1 hsN) ?_
    refine RQ.blk 1 (pc' := 103) (lv' := [(7, .int (nI s)), (6, .int (nI st)), (5, .int (nI i)), (4, .int (nI y)), (0, .ref 75), (1, .ref (b + 1)), (2, .int x), (3, .int (nI p))]) (st' := [.int (nI y + nI (wgt (ub (kf (s * 41))) (kl s) (le s)))]) (H' := _) (kc' := 0) (ks' := 0) rfl ?_
    rw [show (nI y + nI (wgt (ub (kf (s * 41))) (kl s) (le s)) : Int32) = nI (y + (wgt (ub (kf (s * 41))) (kl s) (le s))) from nI_add y (wgt (ub (kf (s * 41))) (kl s) (le s))]
    refine RQ.blk 1 (pc' := 105) (lv' := [(4, .int (nI (y + (wgt (ub (kf (s * 41))) (kl s) (le s))))), (7, .int (nI s)), (6, .int (nI st)), (5, .int (nI i)), (0, .ref 75), (1, .ref (b + 1)), (2, .int x), (3, .int (nI p))]) (st' := []) (H' := _) (kc' := 0) (ks' := 0) rfl ?_
    refine RQ.pick (a := [(7, .int (nI s)), (6, .int (nI st)), (5, .int (nI i)), (4, .int (nI (y + (wgt (ub (kf (s * 41))) (kl s) (le s))))), (0, .ref 75), (1, .ref (b + 1)), (2, .int x), (3, .int (nI p))]) [1, 2, 3, 0, 4, 5, 6, 7] [4, 7, 6, 5, 0, 1, 2, 3] rfl rfl (by decide) ?_
    exact kq
  · rw [if_neg c4]
    rw [if_neg c4] at kq
    refine RQ.brT rfl rfl rfl (by decide) ?_
    refine RQ.pick (a := [(7, .int (nI s)), (6, .int (nI st)), (5, .int (nI i)), (4, .int (nI y)), (0, .ref 75), (1, .ref (b + 1)), (2, .int x), (3, .int (nI p))]) [0, 1, 2, 3, 4, 5, 6, 7] [7, 6, 5, 4, 0, 1, 2, 3] rfl rfl (by decide) ?_
    exact kq
theorem rq_ndC {sc : Nat × (Nat → Int32)} {N : Nat} {kf : Nat → Int8} {kl mo pl : Nat → Nat} {le : Nat → Option Nat} {al : Nat → Bool} {od sp : Nat → Nat} {sz ss ac : Nat} {d p b u : Nat} {H : aH} {op : Nat → Bool} {sm : Nat → Nat} {x : Int32} {D : Nat → Int8} {S K : Nat → Nat} {E : Nat → Option Nat} {ws : List aE} {Q : tO × aH × Nat × Nat → Prop} {i y : Nat} {z : Int32} (hA : VersAt H N kf kl mo pl le al od sp sz ss ac) (hV : VersWf N kf kl mo pl le al od sp sz ss ac) (hb : BatchAt H b D S K E ws.length u) (hbk : BatchOk S K E ws.length u) (hL : LayE D 0 S K E ws) (hs : SightAt H op sm) (hsm : ∀ t, t < 8 → sm t < 2 ^ 31) (hK1 : ∀ i, i < ws.length → 1 ≤ K i) (hi : i < ws.length) (hp : p + 1 < 2 ^ 31)
    (kq : RQ sc (d + 2) mr_89 167 [(5, .int (nI i)), (4, .int (nI (y + (if (!(decide (E i = none)) || (decide (ub (D (S i)) = 0) && aB op sm (p + 1) x)) = true then wgt (ub (D (S i))) (K i) (E i) else 0)))), (0, .ref 75), (1, .ref (b + 1)), (2, .int x), (3, .int (nI p))] [] H 0 0 Q) : RQ sc (d + 2) mr_89 105 [(7, .int z), (6, .int (nI (S i))), (5, .int (nI i)), (4, .int (nI y)), (0, .ref 75), (1, .ref (b + 1)), (2, .int x), (3, .int (nI p))] [] H 0 0 Q := by
  have hn40 := hbk.1
  have hu41 := hbk.2.1
  have hSK := hbk.2.2 i hi
  have hKi : 1 ≤ K i := hK1 i hi
  refine RQ.blk 1 (pc' := 106) (lv' := [(7, .int z), (6, .int (nI (S i))), (5, .int (nI i)), (4, .int (nI y)), (0, .ref 75), (1, .ref (b + 1)), (2, .int x), (3, .int (nI p))]) (st' := [.ref (b + 1)]) (H' := _) (kc' := 0) (ks' := 0) rfl ?_
  refine RQ.get (ci := 0) rfl hb.1 rfl rfl ?_
  refine RQ.blk 1 (pc' := 111) (lv' := [(7, .int z), (6, .int (nI (S i))), (5, .int (nI i)), (4, .int (nI y)), (0, .ref 75), (1, .ref (b + 1)), (2, .int x), (3, .int (nI p))]) (st' := [.int (nI (S i)), .ref ((b + 1) + 1)]) (H' := _) (kc' := 0) (ks' := 0) rfl ?_
  refine RQ.baldN (j := S i) rfl hb.2.1 (by omega) (by decide) ?_
  refine RQ.blk 2 (pc' := 115) (lv' := [(8, .int ((D (S i)).toInt32)), (7, .int z), (6, .int (nI (S i))), (5, .int (nI i)), (4, .int (nI y)), (0, .ref 75), (1, .ref (b + 1)), (2, .int x), (3, .int (nI p))]) (st' := [.ref (b + 1)]) (H' := _) (kc' := 0) (ks' := 0) rfl ?_
  refine RQ.get (ci := 0) rfl hb.1 rfl rfl ?_
  refine RQ.blk 1 (pc' := 120) (lv' := [(8, .int ((D (S i)).toInt32)), (7, .int z), (6, .int (nI (S i))), (5, .int (nI i)), (4, .int (nI y)), (0, .ref 75), (1, .ref (b + 1)), (2, .int x), (3, .int (nI p))]) (st' := [.int (nI i), .ref ((b + 4) + 1)]) (H' := _) (kc' := 0) (ks' := 0) rfl ?_
  refine RQ.ialdN (j := i) rfl hb.2.2.2.2 (by omega) (by decide) ?_
  by_cases c5 : E i = none
  · rw [decide_eq_true c5] at kq
    refine RQ.brF rfl rfl rfl (decide_eq_false (fun e => absurd ((lI_neg (by omega)).mpr c5) (Int32.not_lt.mpr e))) ?_
    refine RQ.blk 1 (pc' := 126) (lv' := [(8, .int ((D (S i)).toInt32)), (7, .int z), (6, .int (nI (S i))), (5, .int (nI i)), (4, .int (nI y)), (0, .ref 75), (1, .ref (b + 1)), (2, .int x), (3, .int (nI p))]) (st' := [.int ((D (S i)).toInt32)]) (H' := _) (kc' := 0) (ks' := 0) rfl ?_
    by_cases c6 : ub (D (S i)) = 0
    · rw [decide_eq_true c6] at kq
      refine RQ.brF rfl rfl rfl (bnf (i8_0.mpr c6)) ?_
      refine RQ.blk 1 (pc' := 130) (lv' := [(8, .int ((D (S i)).toInt32)), (7, .int z), (6, .int (nI (S i))), (5, .int (nI i)), (4, .int (nI y)), (0, .ref 75), (1, .ref (b + 1)), (2, .int x), (3, .int (nI p))]) (st' := [.ref 75]) (H' := _) (kc' := 0) (ks' := 0) rfl ?_
      refine RQ.get (ci := 10) rfl hA.1 rfl rfl ?_
      refine RQ.blk 3 (pc' := 136) (lv' := [(8, .int ((D (S i)).toInt32)), (7, .int z), (6, .int (nI (S i))), (5, .int (nI i)), (4, .int (nI y)), (0, .ref 75), (1, .ref (b + 1)), (2, .int x), (3, .int (nI p))]) (st' := [.int (nI p + 1), .ref 8]) (H' := _) (kc' := 0) (ks' := 0) rfl ?_
      rw [show (nI p + 1 : Int32) = nI (p + 1) from nI_add p 1]
      refine RQ.blk 1 (pc' := 137) (lv' := [(8, .int ((D (S i)).toInt32)), (7, .int z), (6, .int (nI (S i))), (5, .int (nI i)), (4, .int (nI y)), (0, .ref 75), (1, .ref (b + 1)), (2, .int x), (3, .int (nI p))]) (st' := [.int x, .int (nI (p + 1)), .ref 8]) (H' := _) (kc' := 0) (ks' := 0) rfl ?_
      refine RQ.call (v := some (.int (if aB op sm (p + 1) x then 1 else 0))) (st' := []) rfl rfl rfl rfl rfl rfl (args_v [.int x, .int (nI (p + 1))] [] rfl rfl (Nat.le_of_ble_eq_true rfl) rfl hs.1 (Nat.le_of_ble_eq_true rfl)) (rc_anyBefore hs hsm (by omega)) ?_
      by_cases c7 : aB op sm (p + 1) x = true
      · rw [c7] at kq
        rw [if_pos c7]
        rw [if_pos (show (!(true) || (true && true)) = true from rfl)] at kq
        refine RQ.brF rfl rfl rfl (by decide) ?_
        refine RQ.blk 3 (pc' := 148) (lv' := [(8, .int ((D (S i)).toInt32)), (7, .int z), (6, .int (nI (S i))), (5, .int (nI i)), (4, .int (nI y)), (0, .ref 75), (1, .ref (b + 1)), (2, .int x), (3, .int (nI p))]) (st' := [.ref (b + 1), .int ((D (S i)).toInt32), .int (nI y)]) (H' := _) (kc' := 0) (ks' := 0) rfl ?_
        refine RQ.get (ci := 0) rfl hb.1 rfl rfl ?_
        refine RQ.blk 1 (pc' := 153) (lv' := [(8, .int ((D (S i)).toInt32)), (7, .int z), (6, .int (nI (S i))), (5, .int (nI i)), (4, .int (nI y)), (0, .ref 75), (1, .ref (b + 1)), (2, .int x), (3, .int (nI p))]) (st' := [.int (nI i), .ref ((b + 3) + 1), .int ((D (S i)).toInt32), .int (nI y)]) (H' := _) (kc' := 0) (ks' := 0) rfl ?_
        refine RQ.ialdN (j := i) rfl hb.2.2.2.1 (by omega) (by decide) ?_
        refine RQ.blk 1 (pc' := 155) (lv' := [(8, .int ((D (S i)).toInt32)), (7, .int z), (6, .int (nI (S i))), (5, .int (nI i)), (4, .int (nI y)), (0, .ref 75), (1, .ref (b + 1)), (2, .int x), (3, .int (nI p))]) (st' := [.ref (b + 1), .int (nI (K i)), .int ((D (S i)).toInt32), .int (nI y)]) (H' := _) (kc' := 0) (ks' := 0) rfl ?_
        refine RQ.get (ci := 0) rfl hb.1 rfl rfl ?_
        refine RQ.blk 1 (pc' := 160) (lv' := [(8, .int ((D (S i)).toInt32)), (7, .int z), (6, .int (nI (S i))), (5, .int (nI i)), (4, .int (nI y)), (0, .ref 75), (1, .ref (b + 1)), (2, .int x), (3, .int (nI p))]) (st' := [.int (nI i), .ref ((b + 4) + 1), .int (nI (K i)), .int ((D (S i)).toInt32), .int (nI y)]) (H' := _) (kc' := 0) (ks' := 0) rfl ?_
        refine RQ.ialdN (j := i) rfl hb.2.2.2.2 (by omega) (by decide) ?_
        refine RQ.call (v := some (.int (nI (wgt (ub (D (S i))) (K i) (E i))))) (st' := [.int (nI y)]) rfl rfl rfl rfl rfl rfl rfl (rc_weight (x := D (S i)) (n := K i) (l := E i) (by omega) (by omega)) ?_
        refine RQ.blk 1 (pc' := 165) (lv' := [(8, .int ((D (S i)).toInt32)), (7, .int z), (6, .int (nI (S i))), (5, .int (nI i)), (4, .int (nI y)), (0, .ref 75), (1, .ref (b + 1)), (2, .int x), (3, .int (nI p))]) (st' := [.int (nI y + nI (wgt (ub (D (S i))) (K i) (E i)))]) (H' := _) (kc' := 0) (ks' := 0) rfl ?_
        rw [show (nI y + nI (wgt (ub (D (S i))) (K i) (E i)) : Int32) = nI (y + (wgt (ub (D (S i))) (K i) (E i))) from nI_add y (wgt (ub (D (S i))) (K i) (E i))]
        refine RQ.blk 1 (pc' := 167) (lv' := [(4, .int (nI (y + (wgt (ub (D (S i))) (K i) (E i))))), (8, .int ((D (S i)).toInt32)), (7, .int z), (6, .int (nI (S i))), (5, .int (nI i)), (0, .ref 75), (1, .ref (b + 1)), (2, .int x), (3, .int (nI p))]) (st' := []) (H' := _) (kc' := 0) (ks' := 0) rfl ?_
        refine RQ.pick (a := [(5, .int (nI i)), (4, .int (nI (y + (wgt (ub (D (S i))) (K i) (E i))))), (0, .ref 75), (1, .ref (b + 1)), (2, .int x), (3, .int (nI p))]) [4, 0, 5, 6, 7, 8] [4, 8, 7, 6, 5, 0, 1, 2, 3] rfl rfl (by decide) ?_
        exact kq
      · rw [Bool.eq_false_iff.mpr c7] at kq
        rw [if_neg c7]
        rw [if_neg (show ¬ ((!(true) || (true && false)) = true) from fun e => by cases e)] at kq
        refine RQ.brT rfl rfl rfl (by decide) ?_
        refine RQ.pick (a := [(5, .int (nI i)), (4, .int (nI y)), (0, .ref 75), (1, .ref (b + 1)), (2, .int x), (3, .int (nI p))]) [3, 4, 5, 6, 7, 8] [8, 7, 6, 5, 4, 0, 1, 2, 3] rfl rfl (by decide) ?_
        exact kq
    · rw [decide_eq_false c6] at kq
      rw [if_neg (show ¬ ((!(true) || (false && aB op sm (p + 1) x)) = true) from fun e => by cases e)] at kq
      refine RQ.brT rfl rfl rfl (bnt (fun e => c6 (i8_0.mp e))) ?_
      refine RQ.pick (a := [(5, .int (nI i)), (4, .int (nI y)), (0, .ref 75), (1, .ref (b + 1)), (2, .int x), (3, .int (nI p))]) [3, 4, 5, 6, 7, 8] [8, 7, 6, 5, 4, 0, 1, 2, 3] rfl rfl (by decide) ?_
      exact kq
  · rw [decide_eq_false c5] at kq
    rw [if_pos (show (!(false) || (decide (ub (D (S i)) = 0) && aB op sm (p + 1) x)) = true from rfl)] at kq
    refine RQ.brT rfl rfl rfl (decide_eq_true (Int32.not_lt.mp (fun e => c5 ((lI_neg (by omega)).mp e)))) ?_
    refine RQ.blk 3 (pc' := 148) (lv' := [(8, .int ((D (S i)).toInt32)), (7, .int z), (6, .int (nI (S i))), (5, .int (nI i)), (4, .int (nI y)), (0, .ref 75), (1, .ref (b + 1)), (2, .int x), (3, .int (nI p))]) (st' := [.ref (b + 1), .int ((D (S i)).toInt32), .int (nI y)]) (H' := _) (kc' := 0) (ks' := 0) rfl ?_
    refine RQ.get (ci := 0) rfl hb.1 rfl rfl ?_
    refine RQ.blk 1 (pc' := 153) (lv' := [(8, .int ((D (S i)).toInt32)), (7, .int z), (6, .int (nI (S i))), (5, .int (nI i)), (4, .int (nI y)), (0, .ref 75), (1, .ref (b + 1)), (2, .int x), (3, .int (nI p))]) (st' := [.int (nI i), .ref ((b + 3) + 1), .int ((D (S i)).toInt32), .int (nI y)]) (H' := _) (kc' := 0) (ks' := 0) rfl ?_
    refine RQ.ialdN (j := i) rfl hb.2.2.2.1 (by omega) (by decide) ?_
    refine RQ.blk 1 (pc' := 155) (lv' := [(8, .int ((D (S i)).toInt32)), (7, .int z), (6, .int (nI (S i))), (5, .int (nI i)), (4, .int (nI y)), (0, .ref 75), (1, .ref (b + 1)), (2, .int x), (3, .int (nI p))]) (st' := [.ref (b + 1), .int (nI (K i)), .int ((D (S i)).toInt32), .int (nI y)]) (H' := _) (kc' := 0) (ks' := 0) rfl ?_
    refine RQ.get (ci := 0) rfl hb.1 rfl rfl ?_
    refine RQ.blk 1 (pc' := 160) (lv' := [(8, .int ((D (S i)).toInt32)), (7, .int z), (6, .int (nI (S i))), (5, .int (nI i)), (4, .int (nI y)), (0, .ref 75), (1, .ref (b + 1)), (2, .int x), (3, .int (nI p))]) (st' := [.int (nI i), .ref ((b + 4) + 1), .int (nI (K i)), .int ((D (S i)).toInt32), .int (nI y)]) (H' := _) (kc' := 0) (ks' := 0) rfl ?_
    refine RQ.ialdN (j := i) rfl hb.2.2.2.2 (by omega) (by decide) ?_
    refine RQ.call (v := some (.int (nI (wgt (ub (D (S i))) (K i) (E i))))) (st' := [.int (nI y)]) rfl rfl rfl rfl rfl rfl rfl (rc_weight (x := D (S i)) (n := K i) (l := E i) (by omega) (by omega)) ?_
    refine RQ.blk 1 (pc' := 165) (lv' := [(8, .int ((D (S i)).toInt32)), (7, .int z), (6, .int (nI (S i))), (5, .int (nI i)), (4, .int (nI y)), (0, .ref 75), (1, .ref (b + 1)), (2, .int x), (3, .int (nI p))]) (st' := [.int (nI y + nI (wgt (ub (D (S i))) (K i) (E i)))]) (H' := _) (kc' := 0) (ks' := 0) rfl ?_
    rw [show (nI y + nI (wgt (ub (D (S i))) (K i) (E i)) : Int32) = nI (y + (wgt (ub (D (S i))) (K i) (E i))) from nI_add y (wgt (ub (D (S i))) (K i) (E i))]
    refine RQ.blk 1 (pc' := 167) (lv' := [(4, .int (nI (y + (wgt (ub (D (S i))) (K i) (E i))))), (8, .int ((D (S i)).toInt32)), (7, .int z), (6, .int (nI (S i))), (5, .int (nI i)), (0, .ref 75), (1, .ref (b + 1)), (2, .int x), (3, .int (nI p))]) (st' := []) (H' := _) (kc' := 0) (ks' := 0) rfl ?_
    refine RQ.pick (a := [(5, .int (nI i)), (4, .int (nI (y + (wgt (ub (D (S i))) (K i) (E i))))), (0, .ref 75), (1, .ref (b + 1)), (2, .int x), (3, .int (nI p))]) [4, 0, 5, 6, 7, 8] [4, 8, 7, 6, 5, 0, 1, 2, 3] rfl rfl (by decide) ?_
    exact kq
theorem take_get {α : Type} {ws : List α} {i : Nat} {e : α} (h : ws[i]? = some e) : ws.take (i + 1) = ws.take i ++ [e] := by
  rw [List.take_add_one, h]
  rfl
theorem inclV_take {m : Nat} {pl : Nat → Nat} {ws : List aE} {vs : List aV} {i : Nat} {e : aE} (h : ws[i]? = some e) : inclV m pl 0 (ws.take (i + 1)) vs = insV (e.1, m, pl i, e.2.map List.length, true) (inclV m pl 0 (ws.take i) vs) := by
  have hl := get_lt h
  rw [take_get h, inclV_snoc, List.length_take, Nat.min_eq_left (by omega), Nat.zero_add]
/-- no two changes of one key -/
def OneW (ws : List aE) : Prop := ∀ (i j : Nat) (e f : aE), ws[i]? = some e → ws[j]? = some f → e.1 = f.1 → i = j
/-- what is in the list behind the first i changes, of the next one's key, was there before -/
theorem incl_old {m : Nat} {pl : Nat → Nat} {ws : List aE} {vs : List aV} {i : Nat} {e : aE} {v : aV} (h1 : OneW ws) (h : ws[i]? = some e) (hv : v ∈ inclV m pl 0 (ws.take i) vs) (hk : v.1 = e.1) : v ∈ vs := by
  rcases mem_inclV hv with h2 | ⟨j, f, h2, h3⟩
  · exact h2
  · rw [List.getElem?_take] at h2
    split at h2
    · next hj =>
      rw [h3] at hk
      have := h1 j i f e h2 h hk
      omega
    · cases h2
theorem insV_nodup {v : aV} {vs : List aV} (h : vs.Nodup) (hn : v ∉ vs) : (insV v vs).Nodup := (insV_perm v vs).nodup_iff.mpr (List.nodup_cons.mpr ⟨hn, h⟩)
theorem incl_nodup {m : Nat} {pl : Nat → Nat} {ws : List aE} {vs : List aV} (h1 : OneW ws) (hn : vs.Nodup) (hlt : ∀ v ∈ vs, v.2.1 < m) : ∀ i, i ≤ ws.length → (inclV m pl 0 (ws.take i) vs).Nodup
  | 0, _ => hn
  | i + 1, hi => by
    obtain ⟨e, he⟩ := lt_get (l := ws) (i := i) (by omega)
    rw [inclV_take he]
    refine insV_nodup (incl_nodup h1 hn hlt i (by omega)) (fun hv => ?_)
    have := hlt _ (incl_old h1 he hv rfl)
    exact absurd this (Nat.lt_irrefl m)
theorem vsL_nodup {kf : Nat → Int8} {kl mo pl : Nat → Nat} {le : Nat → Option Nat} {al : Nat → Bool} {od : Nat → Nat} {sz : Nat} (hs : srt kf kl mo od sz) : (vsL kf kl mo pl le al od sz).Nodup := by
  unfold vsL
  refine List.pairwise_map.mpr (List.pairwise_lt_range.imp_of_mem (fun {a b} ha hb hab e => ?_))
  have hb := List.mem_range.mp hb
  have e1 : keyO kf kl od a = keyO kf kl od b := congrArg (fun v : aV => v.1) e
  have e2 : mo (od a) = mo (od b) := congrArg (fun v : aV => v.2.1) e
  rcases hs a b hab hb with h | ⟨_, h⟩
  · rw [e1] at h; exact cmpL_irr h
  · omega
theorem rc_neededWith {sc : Nat × (Nat → Int32)} {N : Nat} {kf : Nat → Int8} {kl mo pl : Nat → Nat} {le : Nat → Option Nat} {al : Nat → Bool} {od sp : Nat → Nat} {sz ss ac : Nat} {d p b u : Nat} {H : aH} {op : Nat → Bool} {sm : Nat → Nat} {x : Int32} {D : Nat → Int8} {S K : Nat → Nat} {E : Nat → Option Nat} {ws : List aE} {vs : List aV} (hA : VersAt H N kf kl mo pl le al od sp sz ss ac) (hV : VersWf N kf kl mo pl le al od sp sz ss ac) (hvs : vs = vsL kf kl mo pl le al od sz) (hb : BatchAt H b D S K E ws.length u) (hbk : BatchOk S K E ws.length u) (hL : LayE D 0 S K E ws) (hs : SightAt H op sm) (hsm : ∀ t, t < 8 → sm t < 2 ^ 31) (hK1 : ∀ i, i < ws.length → 1 ≤ K i) (h1W : OneW ws) (hpr : ∀ v ∈ vs, v.2.1 ≤ p) (hp : p + 1 < 2 ^ 31) : RC sc (d + 3) mr_89 [.ref 75, .ref (b + 1), .int x, .int (nI p)] H (.inl (some (.int (nI (sumN op sm x (p + 1) (kmV (inclV (p + 1) (fun _ => 0) 0 ws vs)) (inclV (p + 1) (fun _ => 0) 0 ws vs)))))) H 0 0 := by
  have hN := hV.1.1
  have hn40 := hbk.1
  have hu41 := hbk.2.1
  have hsrt := hV.2.2.2.2.2.2.2.2
  have hVI : VersIs H N vs := ⟨kf, kl, mo, pl, le, al, od, sp, sz, ss, ac, hA, hV, hvs⟩
  have hpr1 : ∀ v ∈ vs, v.2.1 ≤ p + 1 := fun v hv => Nat.le_succ_of_le (hpr v hv)
  have hnd : vs.Nodup := by rw [hvs]; exact vsL_nodup hsrt
  refine RC.of ?_
  refine RQ.blk 2 (pc' := 2) (lv' := [(0, .ref 75), (1, .ref (b + 1)), (2, .int x), (3, .int (nI p))]) (st' := [.int x, .ref 75]) (H' := _) (kc' := 0) (ks' := 0) rfl ?_
  refine RQ.call (v := some (.int (nI (sumN op sm x (p + 1) (kmV vs) vs)))) (st' := []) rfl rfl rfl rfl rfl rfl (args_v [.int x] [] rfl rfl (Nat.le_of_ble_eq_true rfl) rfl hA.1 (Nat.le_of_ble_eq_true rfl)) (rc_neededL (pr := p + 1) hs hsm hVI hpr1) ?_
  refine RQ.blk 3 (pc' := 10) (lv' := [(5, .int 0), (4, .int (nI (sumN op sm x (p + 1) (kmV vs) vs))), (0, .ref 75), (1, .ref (b + 1)), (2, .int x), (3, .int (nI p))]) (st' := []) (H' := _) (kc' := 0) (ks' := 0) rfl ?_
  refine RQ.loopQ (pc := 10) (fun _ => True) (fun i => [(5, .int (nI i)), (4, .int (nI (sumN op sm x (p + 1) (kmV (inclV (p + 1) (fun _ => 0) 0 (ws.take i) vs)) (inclV (p + 1) (fun _ => 0) 0 (ws.take i) vs)))), (0, .ref 75), (1, .ref (b + 1)), (2, .int x), (3, .int (nI p))]) ws.length (fun i hi _ ih => ?_) (fun _ => ?_) trivial
  · have ih := ih trivial
    obtain ⟨e, he⟩ := lt_get hi
    have hSK := hbk.2.2 i hi
    obtain ⟨g1, g2, g3, -⟩ := hL i e he
    have hkey : sl D (S i) (K i) = e.1 := hL.key he
    have hKi := hK1 i hi
    obtain ⟨k, hc⟩ := cut_ex (sl D (S i) (K i)) 2147483647 hsrt (fun p hp => by have := (hV.1.2.2.2.2.2 _ (hV.1.2.2.2.1 p hp)).2.1; omega)
    have hseen : seenV vs e.1 p = if k < sz ∧ keyO kf kl od k = e.1 then some (verO kf kl mo pl le al (od k)) else none := by
      rw [hvs, ← hkey]
      exact cut_seen hsrt (fun q hq => ⟨fun e => absurd e (nI_nlt (a := 2147483647) (by have := (hV.1.2.2.2.2.2 _ (hV.1.2.2.2.1 q hq)).2.1; omega) (by decide)), fun e => by have := hpr (verO kf kl mo pl le al (od q)) (by rw [hvs]; exact List.mem_map.mpr ⟨q, List.mem_range.mpr hq, rfl⟩); have h9 : mo (od q) ≤ p := this; omega⟩) hc
    rw [inclV_take he] at ih
    generalize hW : inclV (p + 1) (fun _ => 0) 0 (ws.take i) vs = W at ih ⊢
    have hmem : ∀ v ∈ W, v.1 = e.1 → v ∈ vs := fun v hv hk => by rw [← hW] at hv; exact incl_old h1W he hv hk
    have hltW : ∀ v ∈ W, v.1 = (e.1, p + 1, 0, e.2.map List.length, true).1 → v.2.1 < p + 1 := fun v hv hk => Nat.lt_succ_of_le (hpr v (hmem v hv hk))
    have hndW : W.Nodup := by rw [← hW]; exact incl_nodup h1W hnd (fun v hv => Nat.lt_succ_of_le (hpr v hv)) i (by omega)
    have hcond : (!(decide (E i = none)) || (decide (ub (D (S i)) = 0) && aB op sm (p + 1) x)) = (!ouV (e.1, p + 1, 0, e.2.map List.length, true) || (usV (e.1, p + 1, 0, e.2.map List.length, true) && aB op sm (p + 1) x)) := by
      have h1 : ouV (e.1, p + 1, 0, e.2.map List.length, true) = decide (E i = none) := by rw [g3]; rfl
      have h2 : usV (e.1, p + 1, 0, e.2.map List.length, true) = decide (ub (D (S i)) = 0) := by
        show decide (e.1.head? = some 0) = _
        rw [← hkey, show K i = (K i - 1) + 1 by omega]
        show decide (some (ub (D (S i))) = some 0) = _
        rw [decide_eq_decide]
        exact ⟨Option.some.inj, congrArg some⟩
      rw [h1, h2]
    have hwN : wgV (e.1, p + 1, 0, e.2.map List.length, true) = wgt (ub (D (S i))) (K i) (E i) := by
      show wgt (e.1.headD 0) e.1.length (e.2.map List.length) = _
      rw [← g3, ← g2, ← hkey, show K i = (K i - 1) + 1 by omega]
      rfl
    refine RQ.blk 2 (pc' := 13) (lv' := [(5, .int (nI i)), (4, .int (nI (sumN op sm x (p + 1) (kmV W) W))), (0, .ref 75), (1, .ref (b + 1)), (2, .int x), (3, .int (nI p))]) (st' := [.ref (b + 1), .int (nI i)]) (H' := _) (kc' := 0) (ks' := 0) rfl ?_
    refine RQ.get (ci := 0) rfl hb.1 rfl rfl ?_
    refine RQ.brF rfl rfl rfl (cF_ge i ws.length) ?_
    refine RQ.blk 1 (pc' := 20) (lv' := [(5, .int (nI i)), (4, .int (nI (sumN op sm x (p + 1) (kmV W) W))), (0, .ref 75), (1, .ref (b + 1)), (2, .int x), (3, .int (nI p))]) (st' := [.ref (b + 1)]) (H' := _) (kc' := 0) (ks' := 0) rfl ?_
    refine RQ.get (ci := 0) rfl hb.1 rfl rfl ?_
    refine RQ.blk 1 (pc' := 25) (lv' := [(5, .int (nI i)), (4, .int (nI (sumN op sm x (p + 1) (kmV W) W))), (0, .ref 75), (1, .ref (b + 1)), (2, .int x), (3, .int (nI p))]) (st' := [.int (nI i), .ref ((b + 2) + 1)]) (H' := _) (kc' := 0) (ks' := 0) rfl ?_
    refine RQ.ialdN (j := i) rfl hb.2.2.1 (by omega) (by decide) ?_
    refine RQ.blk 3 (pc' := 30) (lv' := [(6, .int (nI (S i))), (5, .int (nI i)), (4, .int (nI (sumN op sm x (p + 1) (kmV W) W))), (0, .ref 75), (1, .ref (b + 1)), (2, .int x), (3, .int (nI p))]) (st' := [.ref (b + 1), .ref 75]) (H' := _) (kc' := 0) (ks' := 0) rfl ?_
    refine RQ.get (ci := 0) rfl hb.1 rfl rfl ?_
    refine RQ.blk 2 (pc' := 36) (lv' := [(6, .int (nI (S i))), (5, .int (nI i)), (4, .int (nI (sumN op sm x (p + 1) (kmV W) W))), (0, .ref 75), (1, .ref (b + 1)), (2, .int x), (3, .int (nI p))]) (st' := [.ref (b + 1), .int (nI (S i)), .ref ((b + 1) + 1), .ref 75]) (H' := _) (kc' := 0) (ks' := 0) rfl ?_
    refine RQ.get (ci := 0) rfl hb.1 rfl rfl ?_
    refine RQ.blk 1 (pc' := 41) (lv' := [(6, .int (nI (S i))), (5, .int (nI i)), (4, .int (nI (sumN op sm x (p + 1) (kmV W) W))), (0, .ref 75), (1, .ref (b + 1)), (2, .int x), (3, .int (nI p))]) (st' := [.int (nI i), .ref ((b + 3) + 1), .int (nI (S i)), .ref ((b + 1) + 1), .ref 75]) (H' := _) (kc' := 0) (ks' := 0) rfl ?_
    refine RQ.ialdN (j := i) rfl hb.2.2.2.1 (by omega) (by decide) ?_
    refine RQ.call (v := some (.int (if k < sz ∧ sl kf (od k * 41) (kl (od k)) = sl D (S i) (K i) then nI (od k) else -1))) (st' := []) rfl rfl rfl rfl rfl rfl (args_v [.int (nI (K i)), .int (nI (S i)), .ref ((b + 1) + 1)] [] rfl rfl (Nat.le_of_ble_eq_true rfl) rfl hA.1 (Nat.le_of_ble_eq_true rfl)) (rc_newestOf (k := k) hA hV.1 hb.2.1 (by decide) (by omega) hc) ?_
    refine RQ.blk 2 (pc' := 49) (lv' := [(7, .int (if k < sz ∧ sl kf (od k * 41) (kl (od k)) = sl D (S i) (K i) then nI (od k) else -1)), (6, .int (nI (S i))), (5, .int (nI i)), (4, .int (nI (sumN op sm x (p + 1) (kmV W) W))), (0, .ref 75), (1, .ref (b + 1)), (2, .int x), (3, .int (nI p))]) (st' := [.int (if k < sz ∧ sl kf (od k * 41) (kl (od k)) = sl D (S i) (K i) then nI (od k) else -1)]) (H' := _) (kc' := 0) (ks' := 0) rfl ?_
    by_cases c8 : k < sz ∧ sl kf (od k * 41) (kl (od k)) = sl D (S i) (K i)
    · rw [if_pos c8]
      have hod := hV.1.2.2.2.1 k c8.1
      have h1k := hV.2.2.2.2.2.2.2.1 k c8.1
      have hsk : keyO kf kl od k = e.1 := c8.2.trans hkey
      have hsv : verO kf kl mo pl le al (od k) ∈ vs := by rw [hvs]; exact List.mem_map.mpr ⟨k, List.mem_range.mpr c8.1, rfl⟩
      have hsW : verO kf kl mo pl le al (od k) ∈ W := by rw [← hW]; exact inclV_mem hsv
      have hst := ((seenV_some hVI.one).mp (hseen.trans (if_pos ⟨c8.1, hsk⟩))).2.2
      have hsum := sumN_ins1 (pr := p + 1) (op := op) (sm := sm) (x := x) (v0 := (e.1, p + 1, 0, e.2.map List.length, true)) (s := verO kf kl mo pl le al (od k)) hndW rfl hsW hsk hltW (fun v hv hk hne => by
        have hv2 := hmem v hv hk
        have h3 : ¬ (verO kf kl mo pl le al (od k)).2.1 < v.2.1 := fun hlt => by
          have h4 := (stK_iff.mp hst).2 v.2.1 (mem_km.mpr ⟨v, hv2, hk.trans hsk.symm, rfl⟩) hlt
          have h5 := hpr v hv2
          omega
        have h6 : ¬ v.2.1 = (verO kf kl mo pl le al (od k)).2.1 := fun e6 => hne (hVI.one v hv2 _ hsv (hk.trans hsk.symm) e6)
        omega)
      have hcnt := sumN_ge (op := op) (sm := sm) (x := x) (pr := p + 1) (L := kmV W) hsW
      rw [(need_old (pr := p + 1) (op := op) (sm := sm) (x := x) (v0 := (e.1, p + 1, 0, e.2.map List.length, true)) rfl hsW hsk hltW (fun v hv hk => by
        have hv2 := hmem v hv hk
        refine Nat.le_of_not_lt (fun hlt => ?_)
        have h4 := (stK_iff.mp hst).2 v.2.1 (mem_km.mpr ⟨v, hv2, hk.trans hsk.symm, rfl⟩) hlt
        have h5 := hpr v hv2
        omega)).1] at hcnt
      have e1 : usV (verO kf kl mo pl le al (od k)) = (decide (ub (kf (od k * 41)) = 0)) := by
        show decide ((sl kf (od k * 41) (kl (od k))).head? = some 0) = _
        rw [show kl (od k) = (kl (od k) - 1) + 1 by omega]
        show decide (some (ub (kf (od k * 41))) = some 0) = _
        rw [decide_eq_decide]
        exact ⟨Option.some.inj, congrArg some⟩
      have e2 : ouV (verO kf kl mo pl le al (od k)) = (decide (le (od k) = none)) := rfl
      rw [e1, e2, wgV_ver h1k, hwN, ← hcond] at hsum
      rw [e1, e2, wgV_ver h1k] at hcnt
      refine RQ.brF rfl rfl rfl (cF_lt (od k) 0) ?_
      have e3 : (verO kf kl mo pl le al (od k)).2.1 = mo (od k) := rfl
      rw [e3] at hsum hcnt
      refine RQ.pick (a := [(7, .int (nI (od k))), (6, .int (nI (S i))), (5, .int (nI i)), (4, .int (nI (sumN op sm x (p + 1) (kmV W) W))), (0, .ref 75), (1, .ref (b + 1)), (2, .int x), (3, .int (nI p))]) [0, 1, 2, 3, 4, 5, 6, 7] [7, 6, 5, 4, 0, 1, 2, 3] rfl rfl (by decide) ?_
      refine rq_ndA hA hV hb hbk hL hs hsm hod hp hcnt ?_
      refine RQ.blk 1 (pc' := 77) (lv' := [(7, .int (nI (od k))), (6, .int (nI (S i))), (5, .int (nI i)), (4, .int _), (0, .ref 75), (1, .ref (b + 1)), (2, .int x), (3, .int (nI p))]) (st' := [.int (nI (od k))]) (H' := _) (kc' := 0) (ks' := 0) rfl ?_
      refine RQ.brF rfl rfl rfl (cF_lt (od k) 0) ?_
      refine rq_ndB hA hV hb hbk hL hs hsm hod hp ?_
      refine rq_ndC hA hV hb hbk hL hs hsm hK1 hi hp ?_
      refine RQ.blk 1 (pc' := 170) (lv' := [(5, .int (nI i + 1)), (4, .int _), (0, .ref 75), (1, .ref (b + 1)), (2, .int x), (3, .int (nI p))]) (st' := []) (H' := _) (kc' := 0) (ks' := 0) rfl ?_
      rw [show (nI i + 1 : Int32) = nI (i + 1) from nI_add i 1]
      refine RQ.blk 1 (pc' := 10) (lv' := [(5, .int (nI (i + 1))), (4, .int _), (0, .ref 75), (1, .ref (b + 1)), (2, .int x), (3, .int (nI p))]) (st' := []) (H' := _) (kc' := 0) (ks' := 0) rfl ?_
      have hfin : ∀ y, y = sumN op sm x (p + 1) (kmV (insV (e.1, p + 1, 0, e.2.map List.length, true) W)) (insV (e.1, p + 1, 0, e.2.map List.length, true) W) → RQ sc (d + 3) mr_89 10 [(5, .int (nI (i + 1))), (4, .int (nI y)), (0, .ref 75), (1, .ref (b + 1)), (2, .int x), (3, .int (nI p))] [] H 0 0 _ := fun y hy => by rw [hy]; exact ih
      exact hfin _ (by omega)
    · rw [if_neg c8]
      have hno : ∀ v ∈ W, ¬ v.1 = (e.1, p + 1, 0, e.2.map List.length, true).1 := fun v hv hk => by
        have hv2 := hmem v hv hk
        have h3 := seenV_none.mp (hseen.trans (if_neg (fun e2 => c8 ⟨e2.1, e2.2.trans hkey.symm⟩))) v hv2 hk
        exact h3 (hpr v hv2)
      have hsum := sumN_ins0 (pr := p + 1) (op := op) (sm := sm) (x := x) (v0 := (e.1, p + 1, 0, e.2.map List.length, true)) rfl hno
      rw [hwN, ← hcond] at hsum
      rw [hsum] at ih
      refine RQ.brT rfl rfl rfl (by decide) ?_
      refine RQ.blk 1 (pc' := 77) (lv' := [(7, .int (-1)), (6, .int (nI (S i))), (5, .int (nI i)), (4, .int (nI (sumN op sm x (p + 1) (kmV W) W))), (0, .ref 75), (1, .ref (b + 1)), (2, .int x), (3, .int (nI p))]) (st' := [.int (-1)]) (H' := _) (kc' := 0) (ks' := 0) rfl ?_
      refine RQ.brT rfl rfl rfl (by decide) ?_
      refine RQ.pick (a := [(7, .int (-1)), (6, .int (nI (S i))), (5, .int (nI i)), (4, .int (nI (sumN op sm x (p + 1) (kmV W) W))), (0, .ref 75), (1, .ref (b + 1)), (2, .int x), (3, .int (nI p))]) [0, 1, 2, 3, 4, 5, 6, 7] [7, 6, 5, 4, 0, 1, 2, 3] rfl rfl (by decide) ?_
      refine rq_ndC hA hV hb hbk hL hs hsm hK1 hi hp ?_
      refine RQ.blk 1 (pc' := 170) (lv' := [(5, .int (nI i + 1)), (4, .int (nI (sumN op sm x (p + 1) (kmV W) W + (if (!(decide (E i = none)) || (decide (ub (D (S i)) = 0) && aB op sm (p + 1) x)) = true then wgt (ub (D (S i))) (K i) (E i) else 0)))), (0, .ref 75), (1, .ref (b + 1)), (2, .int x), (3, .int (nI p))]) (st' := []) (H' := _) (kc' := 0) (ks' := 0) rfl ?_
      rw [show (nI i + 1 : Int32) = nI (i + 1) from nI_add i 1]
      refine RQ.blk 1 (pc' := 10) (lv' := [(5, .int (nI (i + 1))), (4, .int (nI (sumN op sm x (p + 1) (kmV W) W + (if (!(decide (E i = none)) || (decide (ub (D (S i)) = 0) && aB op sm (p + 1) x)) = true then wgt (ub (D (S i))) (K i) (E i) else 0)))), (0, .ref 75), (1, .ref (b + 1)), (2, .int x), (3, .int (nI p))]) (st' := []) (H' := _) (kc' := 0) (ks' := 0) rfl ?_
      exact ih
  · rw [List.take_of_length_le (Nat.le_refl _)]
    refine RQ.blk 2 (pc' := 13) (lv' := [(5, .int (nI ws.length)), (4, .int (nI (sumN op sm x (p + 1) (kmV (inclV (p + 1) (fun _ => 0) 0 (ws) vs)) (inclV (p + 1) (fun _ => 0) 0 (ws) vs)))), (0, .ref 75), (1, .ref (b + 1)), (2, .int x), (3, .int (nI p))]) (st' := [.ref (b + 1), .int (nI ws.length)]) (H' := _) (kc' := 0) (ks' := 0) rfl ?_
    refine RQ.get (ci := 0) rfl hb.1 rfl rfl ?_
    refine RQ.brT rfl rfl rfl (cT_ge ws.length ws.length) ?_
    refine RQ.blk 1 (pc' := 175) (lv' := [(5, .int (nI ws.length)), (4, .int (nI (sumN op sm x (p + 1) (kmV (inclV (p + 1) (fun _ => 0) 0 (ws) vs)) (inclV (p + 1) (fun _ => 0) 0 (ws) vs)))), (0, .ref 75), (1, .ref (b + 1)), (2, .int x), (3, .int (nI p))]) (st' := [.int (nI (sumN op sm x (p + 1) (kmV (inclV (p + 1) (fun _ => 0) 0 (ws) vs)) (inclV (p + 1) (fun _ => 0) 0 (ws) vs)))]) (H' := _) (kc' := 0) (ks' := 0) rfl ?_
    exact RQ.done (c := 0) (s := 0) rfl rfl rfl rfl rfl
