/-! ===== the reference: what a version weighs, what files take, what is needed; written by wip/gen/mvers2.py ===== -/
theorem any_succ {P : Nat → Bool} {n : Nat} : (List.range (n + 1)).any P = ((List.range n).any P || P n) := by
  rw [List.range_succ, List.any_append]
  simp
/-- one that is open, but the one, of which P holds, among the first i -/
def opA (op : Nat → Bool) (x : Int32) (P : Nat → Bool) (i : Nat) : Bool := (List.range i).any (fun t => op t && !(decide (nI t = x)) && P t)
theorem opA_no {op : Nat → Bool} {x : Int32} {P : Nat → Bool} {i : Nat} (h : op i = false ∨ nI i = x) : opA op x P (i + 1) = opA op x P i := by
  unfold opA
  rw [any_succ]
  rcases h with h | h
  · rw [h]; simp
  · rw [decide_eq_true h]; simp
theorem opA_yes {op : Nat → Bool} {x : Int32} {P : Nat → Bool} {i : Nat} (h : op i = true) (h2 : ¬ nI i = x) : opA op x P (i + 1) = (opA op x P i || P i) := by
  unfold opA
  rw [any_succ, h, decide_eq_false h2]
  simp
/-- what a version weighs -/
def mwg (st bf : Bool) (k : Nat) (z : Option Nat) : Nat := if st = false then 0 else if z = none then (if bf then 24 + k else 0) else 24 + k + z.getD 0
theorem rc_mweight {sc : Nat × (Nat → Int32)} {v p : Nat} {d : Nat} {H : aH} {bf : Nat → Int8} {ko kn vo : Nat → Nat} {vz : Nat → Option Nat} {vm : Nat → Nat} {n : Nat} {fa li dn cw cl tp rs us pi hu : Int32} {ba bo : Nat} {op : Nat → Bool} {se : Nat → Nat} {x : Int32} (hm : H[195]? = some (kO 12 (mfs fa li dn cw cl tp rs (nI p) (nI n) us pi hu ba bo))) (h : MVAt H ba bf ko kn vo vz vm) (hk : MVOk ko kn vo vz vm n) (h5 : H[205]? = some (kZ 8 op)) (h6 : H[206]? = some (kI 8 (fun j => nI (se j)))) (hse : ∀ t, t < 8 → se t < 2 ^ 31) (hv : v < n) (hp : p < 2 ^ 31) : RC sc (d + 2) mr_271 [.ref 196, .int (nI v), .int x] H (.inl (some (.int (nI (mwg (stB' bf ko kn vm n v p || opA op x (fun t => stB' bf ko kn vm n v (se t)) 8) (opA op x (fun t => decide (se t < vm v)) 8) (kn v) (vz v)))))) H 0 0 := by
  have hn := hk.1
  have hk_v := hk.2 v hv
  refine RC.of ?_
  refine RQ.blk 3 (pc' := 3) (lv' := [(0, .ref 196), (1, .int (nI v)), (2, .int x)]) (st' := [.ref 196, .int (nI v), .ref 196]) (H' := _) (kc' := 0) (ks' := 0) rfl ?_
  refine RQ.get (ci := 12) rfl hm rfl rfl ?_
  refine RQ.call (v := some (.int (if stB' bf ko kn vm n v p then 1 else 0))) (st' := []) rfl rfl rfl rfl rfl rfl (args_v [.int (nI p), .int (nI v)] [] rfl rfl (Nat.le_of_ble_eq_true rfl) rfl hm (Nat.le_of_ble_eq_true rfl)) (rc_mstands hm h hk hv hp) ?_
  refine RQ.blk 5 (pc' := 16) (lv' := [(5, .int 0), (4, .int 0), (3, .int (if stB' bf ko kn vm n v p then 1 else 0)), (0, .ref 196), (1, .int (nI v)), (2, .int x)]) (st' := []) (H' := _) (kc' := 0) (ks' := 0) rfl ?_
  have e0 : (stB' bf ko kn vm n v p || opA op x (fun t => stB' bf ko kn vm n v (se t)) 0) = stB' bf ko kn vm n v p := by unfold opA; simp
  suffices start : RQ sc (d + 2) mr_271 16 [(5, .int (nI 0)), (4, .int (if (opA op x (fun t => decide (se t < vm v)) 0) then 1 else 0)), (3, .int (if (stB' bf ko kn vm n v p || opA op x (fun t => stB' bf ko kn vm n v (se t)) 0) then 1 else 0)), (0, .ref 196), (1, .int (nI v)), (2, .int x)] [] H 0 0 (fun r => r = (.inl (some (.int (nI (mwg (stB' bf ko kn vm n v p || opA op x (fun t => stB' bf ko kn vm n v (se t)) 8) (opA op x (fun t => decide (se t < vm v)) 8) (kn v) (vz v))))), H, 0, 0)) by
    rw [e0] at start
    exact start
  refine RQ.loopQ (pc := 16) (fun _ => True) (fun i => [(5, .int (nI i)), (4, .int (if (opA op x (fun t => decide (se t < vm v)) i) then 1 else 0)), (3, .int (if (stB' bf ko kn vm n v p || opA op x (fun t => stB' bf ko kn vm n v (se t)) i) then 1 else 0)), (0, .ref 196), (1, .int (nI v)), (2, .int x)]) 8 (fun i hi _ ih => ?_) (fun _ => ?_) trivial
  · have ih := ih trivial
    have hsei := hse i hi
    refine RQ.blk 2 (pc' := 20) (lv' := [(5, .int (nI i)), (4, .int (if (opA op x (fun t => decide (se t < vm v)) i) then 1 else 0)), (3, .int (if (stB' bf ko kn vm n v p || opA op x (fun t => stB' bf ko kn vm n v (se t)) i) then 1 else 0)), (0, .ref 196), (1, .int (nI v)), (2, .int x)]) (st' := [.int 8, .int (nI i)]) (H' := _) (kc' := 0) (ks' := 0) rfl ?_
    refine RQ.brF rfl rfl rfl (cF_ge i 8) ?_
    refine RQ.blk 1 (pc' := 24) (lv' := [(5, .int (nI i)), (4, .int (if (opA op x (fun t => decide (se t < vm v)) i) then 1 else 0)), (3, .int (if (stB' bf ko kn vm n v p || opA op x (fun t => stB' bf ko kn vm n v (se t)) i) then 1 else 0)), (0, .ref 196), (1, .int (nI v)), (2, .int x)]) (st' := [.ref 196]) (H' := _) (kc' := 0) (ks' := 0) rfl ?_
    refine RQ.get (ci := 12) rfl hm rfl rfl ?_
    refine RQ.blk 1 (pc' := 29) (lv' := [(5, .int (nI i)), (4, .int (if (opA op x (fun t => decide (se t < vm v)) i) then 1 else 0)), (3, .int (if (stB' bf ko kn vm n v p || opA op x (fun t => stB' bf ko kn vm n v (se t)) i) then 1 else 0)), (0, .ref 196), (1, .int (nI v)), (2, .int x)]) (st' := [.int (nI i), .ref 206]) (H' := _) (kc' := 0) (ks' := 0) rfl ?_
    refine RQ.zaldN (j := i) rfl h5 (by omega) (by decide) ?_
    have skip : (op i = false ∨ nI i = x) → RQ sc (d + 2) mr_271 82 [(5, .int (nI i)), (4, .int (if (opA op x (fun t => decide (se t < vm v)) i) then 1 else 0)), (3, .int (if (stB' bf ko kn vm n v p || opA op x (fun t => stB' bf ko kn vm n v (se t)) i) then 1 else 0)), (0, .ref 196), (1, .int (nI v)), (2, .int x)] [] H 0 0 (fun r => r = (.inl (some (.int (nI (mwg (stB' bf ko kn vm n v p || opA op x (fun t => stB' bf ko kn vm n v (se t)) 8) (opA op x (fun t => decide (se t < vm v)) 8) (kn v) (vz v))))), H, 0, 0)) := by
      intro e
      rw [opA_no (P := fun t => stB' bf ko kn vm n v (se t)) e, opA_no (P := fun t => decide (se t < vm v)) e] at ih
      refine RQ.blk 1 (pc' := 85) (lv' := [(5, .int (nI i + 1)), (4, .int (if (opA op x (fun t => decide (se t < vm v)) i) then 1 else 0)), (3, .int (if (stB' bf ko kn vm n v p || opA op x (fun t => stB' bf ko kn vm n v (se t)) i) then 1 else 0)), (0, .ref 196), (1, .int (nI v)), (2, .int x)]) (st' := []) (H' := _) (kc' := 0) (ks' := 0) rfl ?_
      rw [show (nI i + 1 : Int32) = nI (i + 1) from nI_add i 1]
      refine RQ.blk 1 (pc' := 16) (lv' := [(5, .int (nI (i + 1))), (4, .int (if (opA op x (fun t => decide (se t < vm v)) i) then 1 else 0)), (3, .int (if (stB' bf ko kn vm n v p || opA op x (fun t => stB' bf ko kn vm n v (se t)) i) then 1 else 0)), (0, .ref 196), (1, .int (nI v)), (2, .int x)]) (st' := []) (H' := _) (kc' := 0) (ks' := 0) rfl ?_
      exact ih
    cases ho : op i with
    | false =>
      refine RQ.brT rfl rfl rfl (by decide) ?_
      exact skip (Or.inl ho)
    | true =>
      refine RQ.brF rfl rfl rfl (by decide) ?_
      refine RQ.blk 2 (pc' := 36) (lv' := [(5, .int (nI i)), (4, .int (if (opA op x (fun t => decide (se t < vm v)) i) then 1 else 0)), (3, .int (if (stB' bf ko kn vm n v p || opA op x (fun t => stB' bf ko kn vm n v (se t)) i) then 1 else 0)), (0, .ref 196), (1, .int (nI v)), (2, .int x)]) (st' := [.int x, .int (nI i)]) (H' := _) (kc' := 0) (ks' := 0) rfl ?_
      by_cases hx : nI i = x
      ·
        refine RQ.brF rfl rfl rfl (bnf hx) ?_
        refine RQ.blk 1 (pc' := 82) (lv' := [(5, .int (nI i)), (4, .int (if (opA op x (fun t => decide (se t < vm v)) i) then 1 else 0)), (3, .int (if (stB' bf ko kn vm n v p || opA op x (fun t => stB' bf ko kn vm n v (se t)) i) then 1 else 0)), (0, .ref 196), (1, .int (nI v)), (2, .int x)]) (st' := []) (H' := _) (kc' := 0) (ks' := 0) rfl ?_
        exact skip (Or.inr hx)
      · rw [opA_yes (P := fun t => stB' bf ko kn vm n v (se t)) ho hx, opA_yes (P := fun t => decide (se t < vm v)) ho hx] at ih
        have two : ∀ s : Bool, s = (stB' bf ko kn vm n v p || (opA op x (fun t => stB' bf ko kn vm n v (se t)) i || stB' bf ko kn vm n v (se i))) → RQ sc (d + 2) mr_271 63 [(5, .int (nI i)), (4, .int (if (opA op x (fun t => decide (se t < vm v)) i) then 1 else 0)), (3, .int (if s then 1 else 0)), (0, .ref 196), (1, .int (nI v)), (2, .int x)] [] H 0 0 (fun r => r = (.inl (some (.int (nI (mwg (stB' bf ko kn vm n v p || opA op x (fun t => stB' bf ko kn vm n v (se t)) 8) (opA op x (fun t => decide (se t < vm v)) 8) (kn v) (vz v))))), H, 0, 0)) := by
          intro s hs
          rw [← hs] at ih
          refine RQ.blk 1 (pc' := 64) (lv' := [(5, .int (nI i)), (4, .int (if (opA op x (fun t => decide (se t < vm v)) i) then 1 else 0)), (3, .int (if s then 1 else 0)), (0, .ref 196), (1, .int (nI v)), (2, .int x)]) (st' := [.ref 196]) (H' := _) (kc' := 0) (ks' := 0) rfl ?_
          refine RQ.get (ci := 12) rfl hm rfl rfl ?_
          refine RQ.blk 1 (pc' := 69) (lv' := [(5, .int (nI i)), (4, .int (if (opA op x (fun t => decide (se t < vm v)) i) then 1 else 0)), (3, .int (if s then 1 else 0)), (0, .ref 196), (1, .int (nI v)), (2, .int x)]) (st' := [.int (nI i), .ref 207]) (H' := _) (kc' := 0) (ks' := 0) rfl ?_
          refine RQ.ialdN (j := i) rfl h6 (by omega) (by decide) ?_
          refine RQ.blk 1 (pc' := 71) (lv' := [(5, .int (nI i)), (4, .int (if (opA op x (fun t => decide (se t < vm v)) i) then 1 else 0)), (3, .int (if s then 1 else 0)), (0, .ref 196), (1, .int (nI v)), (2, .int x)]) (st' := [.ref 196, .int (nI (se i))]) (H' := _) (kc' := 0) (ks' := 0) rfl ?_
          refine RQ.get (ci := 12) rfl hm rfl rfl ?_
          refine RQ.blk 1 (pc' := 75) (lv' := [(5, .int (nI i)), (4, .int (if (opA op x (fun t => decide (se t < vm v)) i) then 1 else 0)), (3, .int (if s then 1 else 0)), (0, .ref 196), (1, .int (nI v)), (2, .int x)]) (st' := [.int (nI v), .ref 203, .int (nI (se i))]) (H' := _) (kc' := 0) (ks' := 0) rfl ?_
          refine RQ.ialdN (j := v) rfl h.2.2.2.2.1 (by omega) (by decide) ?_
          by_cases hb : se i < vm v
          · rw [decide_eq_true hb, Bool.or_true] at ih
            refine RQ.brF rfl rfl rfl (cF_ge (se i) (vm v)) ?_
            refine RQ.blk 3 (pc' := 85) (lv' := [(5, .int (nI i + 1)), (4, .int 1), (3, .int (if s then 1 else 0)), (0, .ref 196), (1, .int (nI v)), (2, .int x)]) (st' := []) (H' := _) (kc' := 0) (ks' := 0) rfl ?_
            rw [show (nI i + 1 : Int32) = nI (i + 1) from nI_add i 1]
            refine RQ.blk 1 (pc' := 16) (lv' := [(5, .int (nI (i + 1))), (4, .int 1), (3, .int (if s then 1 else 0)), (0, .ref 196), (1, .int (nI v)), (2, .int x)]) (st' := []) (H' := _) (kc' := 0) (ks' := 0) rfl ?_
            exact RQ.pick [0, 1, 2, 3, 4, 5] [5, 4, 3, 0, 1, 2] rfl rfl (by decide) ih
          · rw [decide_eq_false hb, Bool.or_false] at ih
            refine RQ.brT rfl rfl rfl (cT_ge (se i) (vm v)) ?_
            refine RQ.blk 1 (pc' := 85) (lv' := [(5, .int (nI i + 1)), (4, .int (if (opA op x (fun t => decide (se t < vm v)) i) then 1 else 0)), (3, .int (if s then 1 else 0)), (0, .ref 196), (1, .int (nI v)), (2, .int x)]) (st' := []) (H' := _) (kc' := 0) (ks' := 0) rfl ?_
            rw [show (nI i + 1 : Int32) = nI (i + 1) from nI_add i 1]
            refine RQ.blk 1 (pc' := 16) (lv' := [(5, .int (nI (i + 1))), (4, .int (if (opA op x (fun t => decide (se t < vm v)) i) then 1 else 0)), (3, .int (if s then 1 else 0)), (0, .ref 196), (1, .int (nI v)), (2, .int x)]) (st' := []) (H' := _) (kc' := 0) (ks' := 0) rfl ?_
            exact ih
        refine RQ.brT rfl rfl rfl (bnt hx) ?_
        refine RQ.blk 1 (pc' := 43) (lv' := [(5, .int (nI i)), (4, .int (if (opA op x (fun t => decide (se t < vm v)) i) then 1 else 0)), (3, .int (if (stB' bf ko kn vm n v p || opA op x (fun t => stB' bf ko kn vm n v (se t)) i) then 1 else 0)), (0, .ref 196), (1, .int (nI v)), (2, .int x)]) (st' := [.int (if (stB' bf ko kn vm n v p || opA op x (fun t => stB' bf ko kn vm n v (se t)) i) then 1 else 0)]) (H' := _) (kc' := 0) (ks' := 0) rfl ?_
        cases hs : (stB' bf ko kn vm n v p || opA op x (fun t => stB' bf ko kn vm n v (se t)) i) with
        | true =>
          refine RQ.brT rfl rfl rfl (by decide) ?_
          exact two true (by rw [← Bool.or_assoc, hs]; rfl)
        | false =>
          refine RQ.brF rfl rfl rfl (by decide) ?_
          refine RQ.blk 3 (pc' := 49) (lv' := [(5, .int (nI i)), (4, .int (if (opA op x (fun t => decide (se t < vm v)) i) then 1 else 0)), (3, .int (if false then 1 else 0)), (0, .ref 196), (1, .int (nI v)), (2, .int x)]) (st' := [.ref 196, .int (nI v), .ref 196]) (H' := _) (kc' := 0) (ks' := 0) rfl ?_
          refine RQ.get (ci := 12) rfl hm rfl rfl ?_
          refine RQ.blk 1 (pc' := 54) (lv' := [(5, .int (nI i)), (4, .int (if (opA op x (fun t => decide (se t < vm v)) i) then 1 else 0)), (3, .int (if false then 1 else 0)), (0, .ref 196), (1, .int (nI v)), (2, .int x)]) (st' := [.int (nI i), .ref 207, .int (nI v), .ref 196]) (H' := _) (kc' := 0) (ks' := 0) rfl ?_
          refine RQ.ialdN (j := i) rfl h6 (by omega) (by decide) ?_
          refine RQ.call (v := some (.int (if stB' bf ko kn vm n v (se i) then 1 else 0))) (st' := []) rfl rfl rfl rfl rfl rfl (args_v [.int (nI (se i)), .int (nI v)] [] rfl rfl (Nat.le_of_ble_eq_true rfl) rfl hm (Nat.le_of_ble_eq_true rfl)) (rc_mstands hm h hk hv hsei) ?_
          cases h2 : stB' bf ko kn vm n v (se i) with
          | true =>
            refine RQ.brF rfl rfl rfl (by decide) ?_
            refine RQ.blk 2 (pc' := 63) (lv' := [(3, .int 1), (5, .int (nI i)), (4, .int (if (opA op x (fun t => decide (se t < vm v)) i) then 1 else 0)), (0, .ref 196), (1, .int (nI v)), (2, .int x)]) (st' := []) (H' := _) (kc' := 0) (ks' := 0) rfl ?_
            exact RQ.pick [1, 2, 0, 3, 4, 5] [3, 5, 4, 0, 1, 2] rfl rfl (by decide) (two true (by rw [h2, Bool.or_true, Bool.or_true]))
          | false =>
            refine RQ.brT rfl rfl rfl (by decide) ?_
            exact two false (by rw [← Bool.or_assoc, hs, h2]; rfl)
  ·
    refine RQ.blk 2 (pc' := 20) (lv' := [(5, .int (nI 8)), (4, .int (if (opA op x (fun t => decide (se t < vm v)) 8) then 1 else 0)), (3, .int (if (stB' bf ko kn vm n v p || opA op x (fun t => stB' bf ko kn vm n v (se t)) 8) then 1 else 0)), (0, .ref 196), (1, .int (nI v)), (2, .int x)]) (st' := [.int 8, .int (nI 8)]) (H' := _) (kc' := 0) (ks' := 0) rfl ?_
    refine RQ.brT rfl rfl rfl (cT_ge 8 8) ?_
    refine RQ.blk 1 (pc' := 89) (lv' := [(5, .int (nI 8)), (4, .int (if (opA op x (fun t => decide (se t < vm v)) 8) then 1 else 0)), (3, .int (if (stB' bf ko kn vm n v p || opA op x (fun t => stB' bf ko kn vm n v (se t)) 8) then 1 else 0)), (0, .ref 196), (1, .int (nI v)), (2, .int x)]) (st' := [.int (if (stB' bf ko kn vm n v p || opA op x (fun t => stB' bf ko kn vm n v (se t)) 8) then 1 else 0)]) (H' := _) (kc' := 0) (ks' := 0) rfl ?_
    unfold mwg
    cases hs : (stB' bf ko kn vm n v p || opA op x (fun t => stB' bf ko kn vm n v (se t)) 8) with
    | false =>
      rw [if_pos rfl]
      refine RQ.brF rfl rfl rfl (by decide) ?_
      refine RQ.blk 1 (pc' := 93) (lv' := [(5, .int (nI 8)), (4, .int (if (opA op x (fun t => decide (se t < vm v)) 8) then 1 else 0)), (3, .int (if false then 1 else 0)), (0, .ref 196), (1, .int (nI v)), (2, .int x)]) (st' := [.int 0]) (H' := _) (kc' := 0) (ks' := 0) rfl ?_
      exact RQ.done (c := 0) (s := 0) rfl rfl rfl rfl rfl
    | true =>
      rw [if_neg (show ¬ (true = false) by decide)]
      refine RQ.brT rfl rfl rfl (by decide) ?_
      refine RQ.blk 1 (pc' := 95) (lv' := [(5, .int (nI 8)), (4, .int (if (opA op x (fun t => decide (se t < vm v)) 8) then 1 else 0)), (3, .int (if true then 1 else 0)), (0, .ref 196), (1, .int (nI v)), (2, .int x)]) (st' := [.ref 196]) (H' := _) (kc' := 0) (ks' := 0) rfl ?_
      refine RQ.get (ci := 12) rfl hm rfl rfl ?_
      refine RQ.blk 1 (pc' := 99) (lv' := [(5, .int (nI 8)), (4, .int (if (opA op x (fun t => decide (se t < vm v)) 8) then 1 else 0)), (3, .int (if true then 1 else 0)), (0, .ref 196), (1, .int (nI v)), (2, .int x)]) (st' := [.int (nI v), .ref 202]) (H' := _) (kc' := 0) (ks' := 0) rfl ?_
      refine RQ.ialdN (j := v) rfl h.2.2.2.1 (by omega) (by decide) ?_
      by_cases hz : vz v = none
      · rw [if_pos hz]
        refine RQ.brT rfl rfl rfl (decide_eq_true ((lI_neg (by omega)).mpr hz)) ?_
        refine RQ.blk 1 (pc' := 122) (lv' := [(5, .int (nI 8)), (4, .int (if (opA op x (fun t => decide (se t < vm v)) 8) then 1 else 0)), (3, .int (if true then 1 else 0)), (0, .ref 196), (1, .int (nI v)), (2, .int x)]) (st' := [.int (if (opA op x (fun t => decide (se t < vm v)) 8) then 1 else 0)]) (H' := _) (kc' := 0) (ks' := 0) rfl ?_
        cases hb : (opA op x (fun t => decide (se t < vm v)) 8) with
        | true =>
          refine RQ.brF rfl rfl rfl (by decide) ?_
          refine RQ.blk 2 (pc' := 128) (lv' := [(5, .int (nI 8)), (4, .int (if true then 1 else 0)), (3, .int (if true then 1 else 0)), (0, .ref 196), (1, .int (nI v)), (2, .int x)]) (st' := [.ref 196, .int 24]) (H' := _) (kc' := 0) (ks' := 0) rfl ?_
          refine RQ.get (ci := 12) rfl hm rfl rfl ?_
          refine RQ.blk 1 (pc' := 132) (lv' := [(5, .int (nI 8)), (4, .int (if true then 1 else 0)), (3, .int (if true then 1 else 0)), (0, .ref 196), (1, .int (nI v)), (2, .int x)]) (st' := [.int (nI v), .ref 200, .int 24]) (H' := _) (kc' := 0) (ks' := 0) rfl ?_
          refine RQ.ialdN (j := v) rfl h.2.1 (by omega) (by decide) ?_
          refine RQ.blk 1 (pc' := 134) (lv' := [(5, .int (nI 8)), (4, .int (if true then 1 else 0)), (3, .int (if true then 1 else 0)), (0, .ref 196), (1, .int (nI v)), (2, .int x)]) (st' := [.int (24 + nI (kn v))]) (H' := _) (kc' := 0) (ks' := 0) rfl ?_
          rw [show (24 + nI (kn v) : Int32) = nI (24 + (kn v)) from nI_add 24 (kn v)]
          refine RQ.blk 1 (pc' := 138) (lv' := [(5, .int (nI 8)), (4, .int (if true then 1 else 0)), (3, .int (if true then 1 else 0)), (0, .ref 196), (1, .int (nI v)), (2, .int x)]) (st' := [.int (nI (24 + (kn v)))]) (H' := _) (kc' := 0) (ks' := 0) rfl ?_
          exact RQ.done (c := 0) (s := 0) rfl rfl rfl rfl rfl
        | false =>
          refine RQ.brT rfl rfl rfl (by decide) ?_
          refine RQ.blk 1 (pc' := 138) (lv' := [(5, .int (nI 8)), (4, .int (if false then 1 else 0)), (3, .int (if true then 1 else 0)), (0, .ref 196), (1, .int (nI v)), (2, .int x)]) (st' := [.int 0]) (H' := _) (kc' := 0) (ks' := 0) rfl ?_
          exact RQ.done (c := 0) (s := 0) rfl rfl rfl rfl rfl
      · obtain ⟨z, hz2⟩ : ∃ z, vz v = some z := by cases e : vz v with | none => exact absurd e hz | some z => exact ⟨z, rfl⟩
        rw [if_neg hz]
        refine RQ.brF rfl rfl rfl (decide_eq_false (fun e => hz ((lI_neg (by omega)).mp e))) ?_
        refine RQ.blk 2 (pc' := 106) (lv' := [(5, .int (nI 8)), (4, .int (if (opA op x (fun t => decide (se t < vm v)) 8) then 1 else 0)), (3, .int (if true then 1 else 0)), (0, .ref 196), (1, .int (nI v)), (2, .int x)]) (st' := [.ref 196, .int 24]) (H' := _) (kc' := 0) (ks' := 0) rfl ?_
        refine RQ.get (ci := 12) rfl hm rfl rfl ?_
        refine RQ.blk 1 (pc' := 110) (lv' := [(5, .int (nI 8)), (4, .int (if (opA op x (fun t => decide (se t < vm v)) 8) then 1 else 0)), (3, .int (if true then 1 else 0)), (0, .ref 196), (1, .int (nI v)), (2, .int x)]) (st' := [.int (nI v), .ref 200, .int 24]) (H' := _) (kc' := 0) (ks' := 0) rfl ?_
        refine RQ.ialdN (j := v) rfl h.2.1 (by omega) (by decide) ?_
        refine RQ.blk 1 (pc' := 112) (lv' := [(5, .int (nI 8)), (4, .int (if (opA op x (fun t => decide (se t < vm v)) 8) then 1 else 0)), (3, .int (if true then 1 else 0)), (0, .ref 196), (1, .int (nI v)), (2, .int x)]) (st' := [.int (24 + nI (kn v))]) (H' := _) (kc' := 0) (ks' := 0) rfl ?_
        rw [show (24 + nI (kn v) : Int32) = nI (24 + (kn v)) from nI_add 24 (kn v)]
        refine RQ.blk 1 (pc' := 113) (lv' := [(5, .int (nI 8)), (4, .int (if (opA op x (fun t => decide (se t < vm v)) 8) then 1 else 0)), (3, .int (if true then 1 else 0)), (0, .ref 196), (1, .int (nI v)), (2, .int x)]) (st' := [.ref 196, .int (nI (24 + (kn v)))]) (H' := _) (kc' := 0) (ks' := 0) rfl ?_
        refine RQ.get (ci := 12) rfl hm rfl rfl ?_
        refine RQ.blk 1 (pc' := 117) (lv' := [(5, .int (nI 8)), (4, .int (if (opA op x (fun t => decide (se t < vm v)) 8) then 1 else 0)), (3, .int (if true then 1 else 0)), (0, .ref 196), (1, .int (nI v)), (2, .int x)]) (st' := [.int (nI v), .ref 202, .int (nI (24 + (kn v)))]) (H' := _) (kc' := 0) (ks' := 0) rfl ?_
        refine RQ.ialdN (j := v) rfl h.2.2.2.1 (by omega) (by decide) ?_
        rw [hz2] at hk_v ⊢
        refine RQ.blk 1 (pc' := 119) (lv' := [(5, .int (nI 8)), (4, .int (if (opA op x (fun t => decide (se t < vm v)) 8) then 1 else 0)), (3, .int (if true then 1 else 0)), (0, .ref 196), (1, .int (nI v)), (2, .int x)]) (st' := [.int (nI (24 + (kn v)) + nI z)]) (H' := _) (kc' := 0) (ks' := 0) rfl ?_
        rw [show (nI (24 + (kn v)) + nI z : Int32) = nI (24 + (kn v) + z) from nI_add (24 + (kn v)) z]
        exact RQ.done (c := 0) (s := 0) rfl rfl rfl rfl rfl
