/-! ===== what an entry tells, what it hides; which comes first; class; written by wip/gen/tells.py ===== -/
theorem lI_inj {a b : Option Nat} (ha : a.getD 0 < 2 ^ 30) (hb : b.getD 0 < 2 ^ 30) (h : lI a = lI b) : a = b := by
  cases a with
  | none =>
    cases b with
    | none => rfl
    | some y =>
      have h1 : lI (some y) < 0 := by rw [← h]; decide
      exact absurd ((lI_neg (by have hb : y < 2 ^ 30 := hb; show y < 2 ^ 31; omega)).mp h1) nofun
  | some x =>
    have ha : x < 2 ^ 30 := ha
    cases b with
    | none =>
      have h1 : lI (some x) < 0 := by rw [h]; decide
      exact absurd ((lI_neg (by show x < 2 ^ 31; omega)).mp h1) nofun
    | some y =>
      have hb : y < 2 ^ 30 := hb
      exact congrArg some ((nI_eq (by omega) (by omega)).mp h)
theorem cmp_lt0 {x : Int32} {z : Int} (h : x.toInt = z) : x < 0 ↔ z < 0 := by
  rw [Int32.lt_iff_toInt_lt, h]
  exact Iff.rfl
theorem cmp_eq0 {x : Int32} {z : Int} (h : x.toInt = z) : x = 0 ↔ z = 0 := by
  rw [← Int32.toInt_inj, h]
  exact Iff.rfl
/-- whether the entry says of a version where it is -/
def tellsV (vs : List aV) (e : aT) : Bool :=
  match seenV vs e.1 e.2.1 with
  | some v => decide (v.2.1 = e.2.1) && (decide (v.2.2.2.1 = e.2.2.2) && (!v.2.2.2.2 && (decide (e.2.2.2 = none) || decide (v.2.2.1 = e.2.2.1))))
  | none => false
/-- whether it must still hide what older tables say -/
def hidesV (vs : List aV) (e : aT) : Bool :=
  decide (e.2.2.2 = none) && match seenV vs e.1 (2 ^ 30) with
  | some v => decide (v.2.1 ≤ e.2.1)
  | none => true
/-- which entry comes first -/
def befE (a b : aT) : Bool := decide (cmpL a.1 b.1 < 0) || (decide (a.1 = b.1) && decide (b.2.1 < a.2.1))
theorem rc_tells {sc : Nat × (Nat → Int32)} {d N q lm bf gm : Nat} {H : aH} {vs : List aV} {rn : Value} {of : Int32} {n m pp : Nat} {l : Option Nat} {g : Nat → Int8} (hV : VersIs H N vs) (hT : H[136]? = some (kO 8 (tabF lm bf gm))) (hq : H[q]? = some (kO 2 (curF q rn of (nI n) (nI m) (nI pp) (lI l) 0))) (hg : H[q + 1]? = some (kB 41 g)) (hn : n ≤ 41) (hm : m < 2 ^ 30) (hpp : pp < 2 ^ 30) (hl : l.getD 0 < 2 ^ 30) : RC sc (d + 2) mr_128 [.ref 137, .ref (q + 1)] H (.inl (some (.int (if tellsV vs (sl g 0 n, m, pp, l) = true then 1 else 0)))) H 0 0 := by
  obtain ⟨kf, kl, mo, pl, le, al, od, sp, sz, ss, ac, hA, hW, hvs⟩ := hV
  have hN := hW.1.1
  have hszN := hW.1.2.1
  have hsrt := hW.2.2.2.2.2.2.2.2
  obtain ⟨k, hc⟩ := cut_ex (sl g 0 n) (nI m) hsrt (fun p hp => by have := (hW.1.2.2.2.2.2 _ (hW.1.2.2.2.1 p hp)).2.1; omega)
  have hkz := hc.1
  have hseen : seenV vs (sl g 0 n) m = if k < sz ∧ keyO kf kl od k = sl g 0 n then some (verO kf kl mo pl le al (od k)) else none := by
    rw [hvs]
    exact cut_seen hsrt (fun q hq => by have := (hW.1.2.2.2.2.2 _ (hW.1.2.2.2.1 q hq)).2.1; exact ⟨fun e => Classical.byContradiction (fun e2 => nI_nlt (by omega) (by omega) e), fun e => nI_lt e (by omega)⟩) hc
  refine RC.of ?_
  refine RQ.blk 1 (pc' := 1) (lv' := [(0, .ref 137), (1, .ref (q + 1))]) (st' := [.ref 137]) (H' := _) (kc' := 0) (ks' := 0) rfl ?_
  refine RQ.get (ci := 8) rfl hT rfl rfl ?_
  refine RQ.blk 1 (pc' := 5) (lv' := [(0, .ref 137), (1, .ref (q + 1))]) (st' := [.ref (q + 1), .ref 75]) (H' := _) (kc' := 0) (ks' := 0) rfl ?_
  refine RQ.get (ci := 2) rfl hq rfl rfl ?_
  refine RQ.blk 2 (pc' := 10) (lv' := [(0, .ref 137), (1, .ref (q + 1))]) (st' := [.ref (q + 1), .int 0, .ref ((q + 1) + 1), .ref 75]) (H' := _) (kc' := 0) (ks' := 0) rfl ?_
  refine RQ.get (ci := 2) rfl hq rfl rfl ?_
  refine RQ.blk 1 (pc' := 14) (lv' := [(0, .ref 137), (1, .ref (q + 1))]) (st' := [.ref (q + 1), .int (nI n), .int 0, .ref ((q + 1) + 1), .ref 75]) (H' := _) (kc' := 0) (ks' := 0) rfl ?_
  refine RQ.get (ci := 2) rfl hq rfl rfl ?_
  refine RQ.call (v := some (.int (nI k))) (st' := []) rfl rfl rfl rfl rfl rfl (args_v [.int (nI m), .int (nI n), .int 0, .ref ((q + 1) + 1)] [] rfl rfl (Nat.le_of_ble_eq_true rfl) rfl hA.1 (Nat.le_of_ble_eq_true rfl)) (rc_from (j := 0) (m := n) (k := k) hA hW.1 hg (by decide) (by omega) hc) ?_
  refine RQ.blk 3 (pc' := 23) (lv' := [(2, .int (nI k)), (0, .ref 137), (1, .ref (q + 1))]) (st' := [.ref 137, .int (nI k)]) (H' := _) (kc' := 0) (ks' := 0) rfl ?_
  refine RQ.get (ci := 8) rfl hT rfl rfl ?_
  refine RQ.get (ci := 10) rfl hA.1 rfl rfl ?_
  by_cases hks : k < sz
  · refine RQ.brT rfl rfl rfl (cT_lt k sz) ?_
    refine RQ.blk 1 (pc' := 35) (lv' := [(2, .int (nI k)), (0, .ref 137), (1, .ref (q + 1))]) (st' := [.ref 137]) (H' := _) (kc' := 0) (ks' := 0) rfl ?_
    refine RQ.get (ci := 8) rfl hT rfl rfl ?_
    refine RQ.get (ci := 10) rfl hA.1 rfl rfl ?_
    refine RQ.blk 1 (pc' := 42) (lv' := [(2, .int (nI k)), (0, .ref 137), (1, .ref (q + 1))]) (st' := [.int (nI k), .ref 82]) (H' := _) (kc' := 0) (ks' := 0) rfl ?_
    refine RQ.ialdN (j := k) rfl hA.2.2.2.2.2.2.2.1 (by omega) (by omega) ?_
    refine RQ.blk 2 (pc' := 45) (lv' := [(3, .int (nI (od k))), (2, .int (nI k)), (0, .ref 137), (1, .ref (q + 1))]) (st' := [.ref 137]) (H' := _) (kc' := 0) (ks' := 0) rfl ?_
    refine RQ.get (ci := 8) rfl hT rfl rfl ?_
    refine RQ.blk 2 (pc' := 50) (lv' := [(3, .int (nI (od k))), (2, .int (nI k)), (0, .ref 137), (1, .ref (q + 1))]) (st' := [.ref (q + 1), .int (nI (od k)), .ref 75]) (H' := _) (kc' := 0) (ks' := 0) rfl ?_
    refine RQ.get (ci := 2) rfl hq rfl rfl ?_
    refine RQ.blk 2 (pc' := 55) (lv' := [(3, .int (nI (od k))), (2, .int (nI k)), (0, .ref 137), (1, .ref (q + 1))]) (st' := [.ref (q + 1), .int 0, .ref ((q + 1) + 1), .int (nI (od k)), .ref 75]) (H' := _) (kc' := 0) (ks' := 0) rfl ?_
    refine RQ.get (ci := 2) rfl hq rfl rfl ?_
    have hod := hW.1.2.2.2.1 k hks
    refine RQ.call (v := some (.int (if sl kf (od k * 41) (kl (od k)) = sl g 0 n then 1 else 0))) (st' := []) rfl rfl rfl rfl rfl rfl (args_v [.int (nI n), .int 0, .ref ((q + 1) + 1), .int (nI (od k))] [] rfl rfl (Nat.le_of_ble_eq_true rfl) rfl hA.1 (Nat.le_of_ble_eq_true rfl)) (rc_hasKey (j := 0) (m := n) hA hW.1 hg (by decide) (by omega) hod) ?_
    by_cases hke : sl kf (od k * 41) (kl (od k)) = sl g 0 n
    · rw [if_pos hke]
      refine RQ.brF rfl rfl rfl (by decide) ?_
      refine RQ.blk 1 (pc' := 65) (lv' := [(3, .int (nI (od k))), (2, .int (nI k)), (0, .ref 137), (1, .ref (q + 1))]) (st' := [.ref 137]) (H' := _) (kc' := 0) (ks' := 0) rfl ?_
      refine RQ.get (ci := 8) rfl hT rfl rfl ?_
      refine RQ.get (ci := 10) rfl hA.1 rfl rfl ?_
      refine RQ.blk 1 (pc' := 72) (lv' := [(3, .int (nI (od k))), (2, .int (nI k)), (0, .ref 137), (1, .ref (q + 1))]) (st' := [.int (nI (od k)), .ref 78]) (H' := _) (kc' := 0) (ks' := 0) rfl ?_
      refine RQ.ialdN (j := od k) rfl hA.2.2.2.1 (by omega) (by omega) ?_
      refine RQ.blk 1 (pc' := 74) (lv' := [(3, .int (nI (od k))), (2, .int (nI k)), (0, .ref 137), (1, .ref (q + 1))]) (st' := [.ref (q + 1), .int (nI (mo (od k)))]) (H' := _) (kc' := 0) (ks' := 0) rfl ?_
      refine RQ.get (ci := 2) rfl hq rfl rfl ?_
      by_cases h1 : mo (od k) = m
      · refine RQ.brF rfl rfl rfl (cF_ne (mo (od k)) m) ?_
        refine RQ.blk 1 (pc' := 81) (lv' := [(3, .int (nI (od k))), (2, .int (nI k)), (0, .ref 137), (1, .ref (q + 1))]) (st' := [.ref 137]) (H' := _) (kc' := 0) (ks' := 0) rfl ?_
        refine RQ.get (ci := 8) rfl hT rfl rfl ?_
        refine RQ.get (ci := 10) rfl hA.1 rfl rfl ?_
        refine RQ.blk 1 (pc' := 88) (lv' := [(3, .int (nI (od k))), (2, .int (nI k)), (0, .ref 137), (1, .ref (q + 1))]) (st' := [.int (nI (od k)), .ref 80]) (H' := _) (kc' := 0) (ks' := 0) rfl ?_
        refine RQ.ialdN (j := od k) rfl hA.2.2.2.2.2.1 (by omega) (by omega) ?_
        refine RQ.blk 1 (pc' := 90) (lv' := [(3, .int (nI (od k))), (2, .int (nI k)), (0, .ref 137), (1, .ref (q + 1))]) (st' := [.ref (q + 1), .int (lI (le (od k)))]) (H' := _) (kc' := 0) (ks' := 0) rfl ?_
        refine RQ.get (ci := 2) rfl hq rfl rfl ?_
        by_cases h2 : le (od k) = l
        · refine RQ.brF rfl rfl rfl (bnf (congrArg lI h2)) ?_
          refine RQ.blk 1 (pc' := 97) (lv' := [(3, .int (nI (od k))), (2, .int (nI k)), (0, .ref 137), (1, .ref (q + 1))]) (st' := [.ref 137]) (H' := _) (kc' := 0) (ks' := 0) rfl ?_
          refine RQ.get (ci := 8) rfl hT rfl rfl ?_
          refine RQ.get (ci := 10) rfl hA.1 rfl rfl ?_
          refine RQ.blk 1 (pc' := 104) (lv' := [(3, .int (nI (od k))), (2, .int (nI k)), (0, .ref 137), (1, .ref (q + 1))]) (st' := [.int (nI (od k)), .ref 81]) (H' := _) (kc' := 0) (ks' := 0) rfl ?_
          refine RQ.zaldN (j := od k) rfl hA.2.2.2.2.2.2.1 (by omega) (by omega) ?_
          by_cases h3 : al (od k) = true
          · rw [if_pos h3]
            refine RQ.brT rfl rfl rfl (by decide) ?_
            refine RQ.blk 1 (pc' := 136) (lv' := [(3, .int (nI (od k))), (2, .int (nI k)), (0, .ref 137), (1, .ref (q + 1))]) (st' := [.int 0]) (H' := _) (kc' := 0) (ks' := 0) rfl ?_
            have hres : tellsV vs (sl g 0 n, m, pp, l) = false := by
              unfold tellsV
              rw [show seenV vs (sl g 0 n, m, pp, l).1 (sl g 0 n, m, pp, l).2.1 = _ from hseen]
              rw [if_pos ⟨hks, hke⟩]
              show (decide (mo (od k) = m) && (decide (le (od k) = l) && (!al (od k) && (decide (l = none) || decide (pl (od k) = pp))))) = _
              rw [decide_eq_true h1]
              rw [decide_eq_true h2]
              rw [h3]
              rfl
            rw [hres]
            exact RQ.done (c := 0) (s := 0) rfl rfl rfl rfl rfl
          · rw [if_neg h3]
            refine RQ.brF rfl rfl rfl (by decide) ?_
            refine RQ.blk 1 (pc' := 109) (lv' := [(3, .int (nI (od k))), (2, .int (nI k)), (0, .ref 137), (1, .ref (q + 1))]) (st' := [.ref (q + 1)]) (H' := _) (kc' := 0) (ks' := 0) rfl ?_
            refine RQ.get (ci := 2) rfl hq rfl rfl ?_
            by_cases h4 : l = none
            · refine RQ.brT rfl rfl rfl (decide_eq_true ((lI_neg (by omega)).mpr h4)) ?_
              refine RQ.blk 2 (pc' := 136) (lv' := [(3, .int (nI (od k))), (2, .int (nI k)), (0, .ref 137), (1, .ref (q + 1))]) (st' := [.int 1]) (H' := _) (kc' := 0) (ks' := 0) rfl ?_
              have hres : tellsV vs (sl g 0 n, m, pp, l) = true := by
                unfold tellsV
                rw [show seenV vs (sl g 0 n, m, pp, l).1 (sl g 0 n, m, pp, l).2.1 = _ from hseen]
                rw [if_pos ⟨hks, hke⟩]
                show (decide (mo (od k) = m) && (decide (le (od k) = l) && (!al (od k) && (decide (l = none) || decide (pl (od k) = pp))))) = _
                rw [decide_eq_true h1]
                rw [decide_eq_true h2]
                rw [show al (od k) = false by cases e : al (od k) with | true => exact absurd e h3 | false => rfl]
                rw [decide_eq_true h4]
                rfl
              rw [hres]
              exact RQ.done (c := 0) (s := 0) rfl rfl rfl rfl rfl
            · refine RQ.brF rfl rfl rfl (decide_eq_false (fun e => h4 ((lI_neg (by omega)).mp e))) ?_
              refine RQ.blk 1 (pc' := 116) (lv' := [(3, .int (nI (od k))), (2, .int (nI k)), (0, .ref 137), (1, .ref (q + 1))]) (st' := [.ref 137]) (H' := _) (kc' := 0) (ks' := 0) rfl ?_
              refine RQ.get (ci := 8) rfl hT rfl rfl ?_
              refine RQ.get (ci := 10) rfl hA.1 rfl rfl ?_
              refine RQ.blk 1 (pc' := 123) (lv' := [(3, .int (nI (od k))), (2, .int (nI k)), (0, .ref 137), (1, .ref (q + 1))]) (st' := [.int (nI (od k)), .ref 79]) (H' := _) (kc' := 0) (ks' := 0) rfl ?_
              refine RQ.ialdN (j := od k) rfl hA.2.2.2.2.1 (by omega) (by omega) ?_
              refine RQ.blk 1 (pc' := 125) (lv' := [(3, .int (nI (od k))), (2, .int (nI k)), (0, .ref 137), (1, .ref (q + 1))]) (st' := [.ref (q + 1), .int (nI (pl (od k)))]) (H' := _) (kc' := 0) (ks' := 0) rfl ?_
              refine RQ.get (ci := 2) rfl hq rfl rfl ?_
              by_cases h5 : pl (od k) = pp
              · refine RQ.brF rfl rfl rfl (cF_ne (pl (od k)) pp) ?_
                refine RQ.blk 2 (pc' := 136) (lv' := [(3, .int (nI (od k))), (2, .int (nI k)), (0, .ref 137), (1, .ref (q + 1))]) (st' := [.int 1]) (H' := _) (kc' := 0) (ks' := 0) rfl ?_
                have hres : tellsV vs (sl g 0 n, m, pp, l) = true := by
                  unfold tellsV
                  rw [show seenV vs (sl g 0 n, m, pp, l).1 (sl g 0 n, m, pp, l).2.1 = _ from hseen]
                  rw [if_pos ⟨hks, hke⟩]
                  show (decide (mo (od k) = m) && (decide (le (od k) = l) && (!al (od k) && (decide (l = none) || decide (pl (od k) = pp))))) = _
                  rw [decide_eq_true h1]
                  rw [decide_eq_true h2]
                  rw [show al (od k) = false by cases e : al (od k) with | true => exact absurd e h3 | false => rfl]
                  rw [decide_eq_false h4]
                  rw [decide_eq_true h5]
                  rfl
                rw [hres]
                exact RQ.done (c := 0) (s := 0) rfl rfl rfl rfl rfl
              · have hplo := (hW.1.2.2.2.2.2 _ hod).2.2.1
                refine RQ.brT rfl rfl rfl (cT_ne (pl (od k)) pp) ?_
                refine RQ.blk 1 (pc' := 136) (lv' := [(3, .int (nI (od k))), (2, .int (nI k)), (0, .ref 137), (1, .ref (q + 1))]) (st' := [.int 0]) (H' := _) (kc' := 0) (ks' := 0) rfl ?_
                have hres : tellsV vs (sl g 0 n, m, pp, l) = false := by
                  unfold tellsV
                  rw [show seenV vs (sl g 0 n, m, pp, l).1 (sl g 0 n, m, pp, l).2.1 = _ from hseen]
                  rw [if_pos ⟨hks, hke⟩]
                  show (decide (mo (od k) = m) && (decide (le (od k) = l) && (!al (od k) && (decide (l = none) || decide (pl (od k) = pp))))) = _
                  rw [decide_eq_true h1]
                  rw [decide_eq_true h2]
                  rw [show al (od k) = false by cases e : al (od k) with | true => exact absurd e h3 | false => rfl]
                  rw [decide_eq_false h4]
                  rw [decide_eq_false h5]
                  rfl
                rw [hres]
                exact RQ.done (c := 0) (s := 0) rfl rfl rfl rfl rfl
        · have hle := (hW.1.2.2.2.2.2 _ hod).2.2.2
          refine RQ.brT rfl rfl rfl (bnt (fun e => h2 (lI_inj hle hl e))) ?_
          refine RQ.blk 1 (pc' := 136) (lv' := [(3, .int (nI (od k))), (2, .int (nI k)), (0, .ref 137), (1, .ref (q + 1))]) (st' := [.int 0]) (H' := _) (kc' := 0) (ks' := 0) rfl ?_
          have hres : tellsV vs (sl g 0 n, m, pp, l) = false := by
            unfold tellsV
            rw [show seenV vs (sl g 0 n, m, pp, l).1 (sl g 0 n, m, pp, l).2.1 = _ from hseen]
            rw [if_pos ⟨hks, hke⟩]
            show (decide (mo (od k) = m) && (decide (le (od k) = l) && (!al (od k) && (decide (l = none) || decide (pl (od k) = pp))))) = _
            rw [decide_eq_true h1]
            rw [decide_eq_false h2]
            rfl
          rw [hres]
          exact RQ.done (c := 0) (s := 0) rfl rfl rfl rfl rfl
      · have hmo := (hW.1.2.2.2.2.2 _ hod).2.1
        refine RQ.brT rfl rfl rfl (cT_ne (mo (od k)) m) ?_
        refine RQ.blk 1 (pc' := 136) (lv' := [(3, .int (nI (od k))), (2, .int (nI k)), (0, .ref 137), (1, .ref (q + 1))]) (st' := [.int 0]) (H' := _) (kc' := 0) (ks' := 0) rfl ?_
        have hres : tellsV vs (sl g 0 n, m, pp, l) = false := by
          unfold tellsV
          rw [show seenV vs (sl g 0 n, m, pp, l).1 (sl g 0 n, m, pp, l).2.1 = _ from hseen]
          rw [if_pos ⟨hks, hke⟩]
          show (decide (mo (od k) = m) && (decide (le (od k) = l) && (!al (od k) && (decide (l = none) || decide (pl (od k) = pp))))) = _
          rw [decide_eq_false h1]
          rfl
        rw [hres]
        exact RQ.done (c := 0) (s := 0) rfl rfl rfl rfl rfl
    · rw [if_neg hke]
      refine RQ.brT rfl rfl rfl (by decide) ?_
      refine RQ.blk 1 (pc' := 136) (lv' := [(3, .int (nI (od k))), (2, .int (nI k)), (0, .ref 137), (1, .ref (q + 1))]) (st' := [.int 0]) (H' := _) (kc' := 0) (ks' := 0) rfl ?_
      have hres : tellsV vs (sl g 0 n, m, pp, l) = false := by
        unfold tellsV
        rw [show seenV vs (sl g 0 n, m, pp, l).1 (sl g 0 n, m, pp, l).2.1 = _ from hseen]
        rw [if_neg (fun e => hke e.2)]
      rw [hres]
      exact RQ.done (c := 0) (s := 0) rfl rfl rfl rfl rfl
  · refine RQ.brF rfl rfl rfl (cF_lt k sz) ?_
    refine RQ.blk 1 (pc' := 33) (lv' := [(2, .int (nI k)), (0, .ref 137), (1, .ref (q + 1))]) (st' := [.int 0]) (H' := _) (kc' := 0) (ks' := 0) rfl ?_
    have hres : tellsV vs (sl g 0 n, m, pp, l) = false := by
      unfold tellsV
      rw [show seenV vs (sl g 0 n, m, pp, l).1 (sl g 0 n, m, pp, l).2.1 = _ from hseen]
      rw [if_neg (fun e => hks e.1)]
    rw [hres]
    exact RQ.done (c := 0) (s := 0) rfl rfl rfl rfl rfl
theorem rc_hides {sc : Nat × (Nat → Int32)} {d N q lm bf gm : Nat} {H : aH} {vs : List aV} {rn : Value} {of : Int32} {n m pp : Nat} {l : Option Nat} {g : Nat → Int8} (hV : VersIs H N vs) (hT : H[136]? = some (kO 8 (tabF lm bf gm))) (hq : H[q]? = some (kO 2 (curF q rn of (nI n) (nI m) (nI pp) (lI l) 0))) (hg : H[q + 1]? = some (kB 41 g)) (hn : n ≤ 41) (hm : m < 2 ^ 30) (hpp : pp < 2 ^ 30) (hl : l.getD 0 < 2 ^ 30) : RC sc (d + 2) mr_129 [.ref 137, .ref (q + 1)] H (.inl (some (.int (if hidesV vs (sl g 0 n, m, pp, l) = true then 1 else 0)))) H 0 0 := by
  obtain ⟨kf, kl, mo, pl, le, al, od, sp, sz, ss, ac, hA, hW, hvs⟩ := hV
  have hN := hW.1.1
  have hszN := hW.1.2.1
  have hsrt := hW.2.2.2.2.2.2.2.2
  obtain ⟨k, hc⟩ := cut_ex (sl g 0 n) 2147483647 hsrt (fun p hp => by have := (hW.1.2.2.2.2.2 _ (hW.1.2.2.2.1 p hp)).2.1; omega)
  have hkz := hc.1
  have hseen : seenV vs (sl g 0 n) (2 ^ 30) = if k < sz ∧ keyO kf kl od k = sl g 0 n then some (verO kf kl mo pl le al (od k)) else none := by
    rw [hvs]
    exact cut_seen hsrt (fun q hq => by have := (hW.1.2.2.2.2.2 _ (hW.1.2.2.2.1 q hq)).2.1; exact ⟨fun e => absurd e (nI_nlt (a := 2147483647) (by omega) (by decide)), fun e => by omega⟩) hc
  refine RC.of ?_
  refine RQ.blk 1 (pc' := 1) (lv' := [(0, .ref 137), (1, .ref (q + 1))]) (st' := [.ref 137]) (H' := _) (kc' := 0) (ks' := 0) rfl ?_
  refine RQ.get (ci := 8) rfl hT rfl rfl ?_
  refine RQ.blk 1 (pc' := 5) (lv' := [(0, .ref 137), (1, .ref (q + 1))]) (st' := [.ref (q + 1), .ref 75]) (H' := _) (kc' := 0) (ks' := 0) rfl ?_
  refine RQ.get (ci := 2) rfl hq rfl rfl ?_
  refine RQ.blk 2 (pc' := 10) (lv' := [(0, .ref 137), (1, .ref (q + 1))]) (st' := [.ref (q + 1), .int 0, .ref ((q + 1) + 1), .ref 75]) (H' := _) (kc' := 0) (ks' := 0) rfl ?_
  refine RQ.get (ci := 2) rfl hq rfl rfl ?_
  refine RQ.blk 1 (pc' := 15) (lv' := [(0, .ref 137), (1, .ref (q + 1))]) (st' := [.int 2147483647, .int (nI n), .int 0, .ref ((q + 1) + 1), .ref 75]) (H' := _) (kc' := 0) (ks' := 0) rfl ?_
  refine RQ.call (v := some (.int (nI k))) (st' := []) rfl rfl rfl rfl rfl rfl (args_v [.int 2147483647, .int (nI n), .int 0, .ref ((q + 1) + 1)] [] rfl rfl (Nat.le_of_ble_eq_true rfl) rfl hA.1 (Nat.le_of_ble_eq_true rfl)) (rc_from (j := 0) (m := n) (k := k) hA hW.1 hg (by decide) (by omega) hc) ?_
  refine RQ.blk 3 (pc' := 21) (lv' := [(2, .int (nI k)), (0, .ref 137), (1, .ref (q + 1))]) (st' := [.ref 137, .int (nI k)]) (H' := _) (kc' := 0) (ks' := 0) rfl ?_
  refine RQ.get (ci := 8) rfl hT rfl rfl ?_
  refine RQ.get (ci := 10) rfl hA.1 rfl rfl ?_
  by_cases hks : k < sz
  · refine RQ.brF rfl rfl rfl (cF_ge k sz) ?_
    refine RQ.blk 1 (pc' := 31) (lv' := [(2, .int (nI k)), (0, .ref 137), (1, .ref (q + 1))]) (st' := [.ref 137]) (H' := _) (kc' := 0) (ks' := 0) rfl ?_
    refine RQ.get (ci := 8) rfl hT rfl rfl ?_
    refine RQ.blk 1 (pc' := 35) (lv' := [(2, .int (nI k)), (0, .ref 137), (1, .ref (q + 1))]) (st' := [.ref 137, .ref 75]) (H' := _) (kc' := 0) (ks' := 0) rfl ?_
    refine RQ.get (ci := 8) rfl hT rfl rfl ?_
    refine RQ.get (ci := 10) rfl hA.1 rfl rfl ?_
    refine RQ.blk 1 (pc' := 42) (lv' := [(2, .int (nI k)), (0, .ref 137), (1, .ref (q + 1))]) (st' := [.int (nI k), .ref 82, .ref 75]) (H' := _) (kc' := 0) (ks' := 0) rfl ?_
    refine RQ.ialdN (j := k) rfl hA.2.2.2.2.2.2.2.1 (by omega) (by omega) ?_
    refine RQ.blk 1 (pc' := 44) (lv' := [(2, .int (nI k)), (0, .ref 137), (1, .ref (q + 1))]) (st' := [.ref (q + 1), .int (nI (od k)), .ref 75]) (H' := _) (kc' := 0) (ks' := 0) rfl ?_
    refine RQ.get (ci := 2) rfl hq rfl rfl ?_
    refine RQ.blk 2 (pc' := 49) (lv' := [(2, .int (nI k)), (0, .ref 137), (1, .ref (q + 1))]) (st' := [.ref (q + 1), .int 0, .ref ((q + 1) + 1), .int (nI (od k)), .ref 75]) (H' := _) (kc' := 0) (ks' := 0) rfl ?_
    refine RQ.get (ci := 2) rfl hq rfl rfl ?_
    have hod := hW.1.2.2.2.1 k hks
    refine RQ.call (v := some (.int (if sl kf (od k * 41) (kl (od k)) = sl g 0 n then 1 else 0))) (st' := []) rfl rfl rfl rfl rfl rfl (args_v [.int (nI n), .int 0, .ref ((q + 1) + 1), .int (nI (od k))] [] rfl rfl (Nat.le_of_ble_eq_true rfl) rfl hA.1 (Nat.le_of_ble_eq_true rfl)) (rc_hasKey (j := 0) (m := n) hA hW.1 hg (by decide) (by omega) hod) ?_
    by_cases hke : sl kf (od k * 41) (kl (od k)) = sl g 0 n
    · rw [if_pos hke]
      refine RQ.brF rfl rfl rfl (by decide) ?_
      refine RQ.blk 4 (pc' := 65) (lv' := [(3, .int 1), (2, .int (nI k)), (0, .ref 137), (1, .ref (q + 1))]) (st' := [.ref (q + 1)]) (H' := _) (kc' := 0) (ks' := 0) rfl ?_
      refine RQ.get (ci := 2) rfl hq rfl rfl ?_
      by_cases h4 : l = none
      · refine RQ.brF rfl rfl rfl (decide_eq_false (Int32.not_le.mpr ((lI_neg (by omega)).mpr h4))) ?_
        refine RQ.blk 1 (pc' := 72) (lv' := [(3, .int 1), (2, .int (nI k)), (0, .ref 137), (1, .ref (q + 1))]) (st' := [.int 1]) (H' := _) (kc' := 0) (ks' := 0) rfl ?_
        refine RQ.brF rfl rfl rfl (by decide) ?_
        refine RQ.blk 1 (pc' := 76) (lv' := [(3, .int 1), (2, .int (nI k)), (0, .ref 137), (1, .ref (q + 1))]) (st' := [.ref 137]) (H' := _) (kc' := 0) (ks' := 0) rfl ?_
        refine RQ.get (ci := 8) rfl hT rfl rfl ?_
        refine RQ.get (ci := 10) rfl hA.1 rfl rfl ?_
        refine RQ.blk 1 (pc' := 83) (lv' := [(3, .int 1), (2, .int (nI k)), (0, .ref 137), (1, .ref (q + 1))]) (st' := [.ref 137, .ref 78]) (H' := _) (kc' := 0) (ks' := 0) rfl ?_
        refine RQ.get (ci := 8) rfl hT rfl rfl ?_
        refine RQ.get (ci := 10) rfl hA.1 rfl rfl ?_
        refine RQ.blk 1 (pc' := 90) (lv' := [(3, .int 1), (2, .int (nI k)), (0, .ref 137), (1, .ref (q + 1))]) (st' := [.int (nI k), .ref 82, .ref 78]) (H' := _) (kc' := 0) (ks' := 0) rfl ?_
        refine RQ.ialdN (j := k) rfl hA.2.2.2.2.2.2.2.1 (by omega) (by omega) ?_
        refine RQ.ialdN (j := od k) rfl hA.2.2.2.1 (by omega) (by omega) ?_
        refine RQ.blk 1 (pc' := 93) (lv' := [(3, .int 1), (2, .int (nI k)), (0, .ref 137), (1, .ref (q + 1))]) (st' := [.ref (q + 1), .int (nI (mo (od k)))]) (H' := _) (kc' := 0) (ks' := 0) rfl ?_
        refine RQ.get (ci := 2) rfl hq rfl rfl ?_
        by_cases h5 : m < mo (od k)
        · have hmo := (hW.1.2.2.2.2.2 _ hod).2.1
          refine RQ.brT rfl rfl rfl (cT_gt (mo (od k)) m) ?_
          refine RQ.blk 1 (pc' := 104) (lv' := [(3, .int 1), (2, .int (nI k)), (0, .ref 137), (1, .ref (q + 1))]) (st' := [.int 0]) (H' := _) (kc' := 0) (ks' := 0) rfl ?_
          have hres : hidesV vs (sl g 0 n, m, pp, l) = false := by
            unfold hidesV
            rw [show decide ((sl g 0 n, m, pp, l).2.2.2 = none) = true from decide_eq_true h4]
            rw [show seenV vs (sl g 0 n, m, pp, l).1 (2 ^ 30) = _ from hseen]
            rw [if_pos ⟨hks, hke⟩]
            show (true && decide (mo (od k) ≤ m)) = _
            rw [decide_eq_false (by omega)]
            rfl
          rw [hres]
          exact RQ.done (c := 0) (s := 0) rfl rfl rfl rfl rfl
        · refine RQ.brF rfl rfl rfl (cF_gt (mo (od k)) m) ?_
          refine RQ.blk 2 (pc' := 104) (lv' := [(3, .int 1), (2, .int (nI k)), (0, .ref 137), (1, .ref (q + 1))]) (st' := [.int 1]) (H' := _) (kc' := 0) (ks' := 0) rfl ?_
          have hres : hidesV vs (sl g 0 n, m, pp, l) = true := by
            unfold hidesV
            rw [show decide ((sl g 0 n, m, pp, l).2.2.2 = none) = true from decide_eq_true h4]
            rw [show seenV vs (sl g 0 n, m, pp, l).1 (2 ^ 30) = _ from hseen]
            rw [if_pos ⟨hks, hke⟩]
            show (true && decide (mo (od k) ≤ m)) = _
            rw [decide_eq_true (by omega)]
            rfl
          rw [hres]
          exact RQ.done (c := 0) (s := 0) rfl rfl rfl rfl rfl
      · refine RQ.brT rfl rfl rfl (decide_eq_true (Int32.not_lt.mp (fun e => h4 ((lI_neg (by omega)).mp e)))) ?_
        refine RQ.blk 1 (pc' := 104) (lv' := [(3, .int 1), (2, .int (nI k)), (0, .ref 137), (1, .ref (q + 1))]) (st' := [.int 0]) (H' := _) (kc' := 0) (ks' := 0) rfl ?_
        have hres : hidesV vs (sl g 0 n, m, pp, l) = false := by
          unfold hidesV
          rw [show decide ((sl g 0 n, m, pp, l).2.2.2 = none) = false from decide_eq_false h4]
          rfl
        rw [hres]
        exact RQ.done (c := 0) (s := 0) rfl rfl rfl rfl rfl
    · rw [if_neg hke]
      refine RQ.brT rfl rfl rfl (by decide) ?_
      refine RQ.blk 3 (pc' := 65) (lv' := [(3, .int 0), (2, .int (nI k)), (0, .ref 137), (1, .ref (q + 1))]) (st' := [.ref (q + 1)]) (H' := _) (kc' := 0) (ks' := 0) rfl ?_
      refine RQ.get (ci := 2) rfl hq rfl rfl ?_
      by_cases h4 : l = none
      · refine RQ.brF rfl rfl rfl (decide_eq_false (Int32.not_le.mpr ((lI_neg (by omega)).mpr h4))) ?_
        refine RQ.blk 1 (pc' := 72) (lv' := [(3, .int 0), (2, .int (nI k)), (0, .ref 137), (1, .ref (q + 1))]) (st' := [.int 0]) (H' := _) (kc' := 0) (ks' := 0) rfl ?_
        refine RQ.brT rfl rfl rfl (by decide) ?_
        refine RQ.blk 2 (pc' := 104) (lv' := [(3, .int 0), (2, .int (nI k)), (0, .ref 137), (1, .ref (q + 1))]) (st' := [.int 1]) (H' := _) (kc' := 0) (ks' := 0) rfl ?_
        have hres : hidesV vs (sl g 0 n, m, pp, l) = true := by
          unfold hidesV
          rw [show decide ((sl g 0 n, m, pp, l).2.2.2 = none) = true from decide_eq_true h4]
          rw [show seenV vs (sl g 0 n, m, pp, l).1 (2 ^ 30) = _ from hseen]
          rw [if_neg (fun e => hke e.2)]
          rfl
        rw [hres]
        exact RQ.done (c := 0) (s := 0) rfl rfl rfl rfl rfl
      · refine RQ.brT rfl rfl rfl (decide_eq_true (Int32.not_lt.mp (fun e => h4 ((lI_neg (by omega)).mp e)))) ?_
        refine RQ.blk 1 (pc' := 104) (lv' := [(3, .int 0), (2, .int (nI k)), (0, .ref 137), (1, .ref (q + 1))]) (st' := [.int 0]) (H' := _) (kc' := 0) (ks' := 0) rfl ?_
        have hres : hidesV vs (sl g 0 n, m, pp, l) = false := by
          unfold hidesV
          rw [show decide ((sl g 0 n, m, pp, l).2.2.2 = none) = false from decide_eq_false h4]
          rfl
        rw [hres]
        exact RQ.done (c := 0) (s := 0) rfl rfl rfl rfl rfl
  · refine RQ.brT rfl rfl rfl (cT_ge k sz) ?_
    refine RQ.blk 3 (pc' := 65) (lv' := [(3, .int 0), (2, .int (nI k)), (0, .ref 137), (1, .ref (q + 1))]) (st' := [.ref (q + 1)]) (H' := _) (kc' := 0) (ks' := 0) rfl ?_
    refine RQ.get (ci := 2) rfl hq rfl rfl ?_
    by_cases h4 : l = none
    · refine RQ.brF rfl rfl rfl (decide_eq_false (Int32.not_le.mpr ((lI_neg (by omega)).mpr h4))) ?_
      refine RQ.blk 1 (pc' := 72) (lv' := [(3, .int 0), (2, .int (nI k)), (0, .ref 137), (1, .ref (q + 1))]) (st' := [.int 0]) (H' := _) (kc' := 0) (ks' := 0) rfl ?_
      refine RQ.brT rfl rfl rfl (by decide) ?_
      refine RQ.blk 2 (pc' := 104) (lv' := [(3, .int 0), (2, .int (nI k)), (0, .ref 137), (1, .ref (q + 1))]) (st' := [.int 1]) (H' := _) (kc' := 0) (ks' := 0) rfl ?_
      have hres : hidesV vs (sl g 0 n, m, pp, l) = true := by
        unfold hidesV
        rw [show decide ((sl g 0 n, m, pp, l).2.2.2 = none) = true from decide_eq_true h4]
        rw [show seenV vs (sl g 0 n, m, pp, l).1 (2 ^ 30) = _ from hseen]
        rw [if_neg (fun e => hks e.1)]
        rfl
      rw [hres]
      exact RQ.done (c := 0) (s := 0) rfl rfl rfl rfl rfl
    · refine RQ.brT rfl rfl rfl (decide_eq_true (Int32.not_lt.mp (fun e => h4 ((lI_neg (by omega)).mp e)))) ?_
      refine RQ.blk 1 (pc' := 104) (lv' := [(3, .int 0), (2, .int (nI k)), (0, .ref 137), (1, .ref (q + 1))]) (st' := [.int 0]) (H' := _) (kc' := 0) (ks' := 0) rfl ?_
      have hres : hidesV vs (sl g 0 n, m, pp, l) = false := by
        unfold hidesV
        rw [show decide ((sl g 0 n, m, pp, l).2.2.2 = none) = false from decide_eq_false h4]
        rfl
      rw [hres]
      exact RQ.done (c := 0) (s := 0) rfl rfl rfl rfl rfl
theorem rc_isBefore {sc : Nat × (Nat → Int32)} {d q q2 : Nat} {H : aH} {rn : Value} {of : Int32} {n m pp : Nat} {l : Option Nat} {g : Nat → Int8} {rn2 : Value} {of2 : Int32} {n2 m2 pp2 : Nat} {l2 : Option Nat} {g2 : Nat → Int8} (hq : H[q]? = some (kO 2 (curF q rn of (nI n) (nI m) (nI pp) (lI l) 0))) (hg : H[q + 1]? = some (kB 41 g)) (hn : n ≤ 41) (hm : m < 2 ^ 30) (hpp : pp < 2 ^ 30) (hl : l.getD 0 < 2 ^ 30) (hq2 : H[q2]? = some (kO 2 (curF q2 rn2 of2 (nI n2) (nI m2) (nI pp2) (lI l2) 0))) (hg2 : H[q2 + 1]? = some (kB 41 g2)) (hn2 : n2 ≤ 41) (hm2 : m2 < 2 ^ 30) (hpp2 : pp2 < 2 ^ 30) (hl2 : l2.getD 0 < 2 ^ 30) : RC sc (d + 1) mr_126 [.ref 137, .ref (q + 1), .ref (q2 + 1)] H (.inl (some (.int (if befE (sl g 0 n, m, pp, l) (sl g2 0 n2, m2, pp2, l2) = true then 1 else 0)))) H 0 0 := by
  refine RC.of ?_
  refine RQ.blk 1 (pc' := 1) (lv' := [(0, .ref 137), (1, .ref (q + 1)), (2, .ref (q2 + 1))]) (st' := [.ref (q + 1)]) (H' := _) (kc' := 0) (ks' := 0) rfl ?_
  refine RQ.get (ci := 2) rfl hq rfl rfl ?_
  refine RQ.blk 2 (pc' := 6) (lv' := [(0, .ref 137), (1, .ref (q + 1)), (2, .ref (q2 + 1))]) (st' := [.ref (q + 1), .int 0, .ref ((q + 1) + 1)]) (H' := _) (kc' := 0) (ks' := 0) rfl ?_
  refine RQ.get (ci := 2) rfl hq rfl rfl ?_
  refine RQ.blk 1 (pc' := 10) (lv' := [(0, .ref 137), (1, .ref (q + 1)), (2, .ref (q2 + 1))]) (st' := [.ref (q2 + 1), .int (nI n), .int 0, .ref ((q + 1) + 1)]) (H' := _) (kc' := 0) (ks' := 0) rfl ?_
  refine RQ.get (ci := 2) rfl hq2 rfl rfl ?_
  refine RQ.blk 2 (pc' := 15) (lv' := [(0, .ref 137), (1, .ref (q + 1)), (2, .ref (q2 + 1))]) (st' := [.ref (q2 + 1), .int 0, .ref ((q2 + 1) + 1), .int (nI n), .int 0, .ref ((q + 1) + 1)]) (H' := _) (kc' := 0) (ks' := 0) rfl ?_
  refine RQ.get (ci := 2) rfl hq2 rfl rfl ?_
  refine RQ.callI (st' := []) rfl rfl rfl rfl rfl rfl rfl (ri_cmp (i := 0) (n := n) (j := 0) (m := n2) hg hg2 (by decide) (by decide) (by omega) (by omega)) (fun y H2 hx => ?_)
  obtain ⟨eH, hy⟩ := hx
  subst eH
  refine RQ.blk 2 (pc' := 23) (lv' := [(3, .int y), (0, .ref 137), (1, .ref (q + 1)), (2, .ref (q2 + 1))]) (st' := [.int y]) (H' := _) (kc' := 0) (ks' := 0) rfl ?_
  by_cases h1 : cmpL (sl g 0 n) (sl g2 0 n2) < 0
  · refine RQ.brT rfl rfl rfl (decide_eq_true ((cmp_lt0 hy).mpr h1)) ?_
    refine RQ.blk 2 (pc' := 46) (lv' := [(3, .int y), (0, .ref 137), (1, .ref (q + 1)), (2, .ref (q2 + 1))]) (st' := [.int 1]) (H' := _) (kc' := 0) (ks' := 0) rfl ?_
    have hres : befE (sl g 0 n, m, pp, l) (sl g2 0 n2, m2, pp2, l2) = true := by
      unfold befE
      rw [show decide (cmpL (sl g 0 n, m, pp, l).1 (sl g2 0 n2, m2, pp2, l2).1 < 0) = true from decide_eq_true h1]
      rfl
    rw [hres]
    exact RQ.done (c := 0) (s := 0) rfl rfl rfl rfl rfl
  · refine RQ.brF rfl rfl rfl (decide_eq_false (fun e => h1 ((cmp_lt0 hy).mp e))) ?_
    refine RQ.blk 1 (pc' := 27) (lv' := [(3, .int y), (0, .ref 137), (1, .ref (q + 1)), (2, .ref (q2 + 1))]) (st' := [.int y]) (H' := _) (kc' := 0) (ks' := 0) rfl ?_
    by_cases h2 : cmpL (sl g 0 n) (sl g2 0 n2) = 0
    · refine RQ.brF rfl rfl rfl (bnf ((cmp_eq0 hy).mpr h2)) ?_
      refine RQ.blk 1 (pc' := 31) (lv' := [(3, .int y), (0, .ref 137), (1, .ref (q + 1)), (2, .ref (q2 + 1))]) (st' := [.ref (q + 1)]) (H' := _) (kc' := 0) (ks' := 0) rfl ?_
      refine RQ.get (ci := 2) rfl hq rfl rfl ?_
      refine RQ.blk 1 (pc' := 35) (lv' := [(3, .int y), (0, .ref 137), (1, .ref (q + 1)), (2, .ref (q2 + 1))]) (st' := [.ref (q2 + 1), .int (nI m)]) (H' := _) (kc' := 0) (ks' := 0) rfl ?_
      refine RQ.get (ci := 2) rfl hq2 rfl rfl ?_
      by_cases h3 : m2 < m
      · refine RQ.brF rfl rfl rfl (cF_le m m2) ?_
        refine RQ.blk 2 (pc' := 46) (lv' := [(3, .int y), (0, .ref 137), (1, .ref (q + 1)), (2, .ref (q2 + 1))]) (st' := [.int 1]) (H' := _) (kc' := 0) (ks' := 0) rfl ?_
        have hres : befE (sl g 0 n, m, pp, l) (sl g2 0 n2, m2, pp2, l2) = true := by
          unfold befE
          rw [show decide (cmpL (sl g 0 n, m, pp, l).1 (sl g2 0 n2, m2, pp2, l2).1 < 0) = false from decide_eq_false h1]
          rw [show decide ((sl g 0 n, m, pp, l).1 = (sl g2 0 n2, m2, pp2, l2).1) = true from decide_eq_true (cmpL_eq.mp h2), show decide ((sl g2 0 n2, m2, pp2, l2).2.1 < (sl g 0 n, m, pp, l).2.1) = true from decide_eq_true h3]
          rfl
        rw [hres]
        exact RQ.done (c := 0) (s := 0) rfl rfl rfl rfl rfl
      · refine RQ.brT rfl rfl rfl (cT_le m m2) ?_
        refine RQ.blk 1 (pc' := 46) (lv' := [(3, .int y), (0, .ref 137), (1, .ref (q + 1)), (2, .ref (q2 + 1))]) (st' := [.int 0]) (H' := _) (kc' := 0) (ks' := 0) rfl ?_
        have hres : befE (sl g 0 n, m, pp, l) (sl g2 0 n2, m2, pp2, l2) = false := by
          unfold befE
          rw [show decide (cmpL (sl g 0 n, m, pp, l).1 (sl g2 0 n2, m2, pp2, l2).1 < 0) = false from decide_eq_false h1]
          rw [show decide ((sl g 0 n, m, pp, l).1 = (sl g2 0 n2, m2, pp2, l2).1) = true from decide_eq_true (cmpL_eq.mp h2), show decide ((sl g2 0 n2, m2, pp2, l2).2.1 < (sl g 0 n, m, pp, l).2.1) = false from decide_eq_false h3]
          rfl
        rw [hres]
        exact RQ.done (c := 0) (s := 0) rfl rfl rfl rfl rfl
    · refine RQ.brT rfl rfl rfl (bnt (fun e => h2 ((cmp_eq0 hy).mp e))) ?_
      refine RQ.blk 1 (pc' := 46) (lv' := [(3, .int y), (0, .ref 137), (1, .ref (q + 1)), (2, .ref (q2 + 1))]) (st' := [.int 0]) (H' := _) (kc' := 0) (ks' := 0) rfl ?_
      have hres : befE (sl g 0 n, m, pp, l) (sl g2 0 n2, m2, pp2, l2) = false := by
        unfold befE
        rw [show decide (cmpL (sl g 0 n, m, pp, l).1 (sl g2 0 n2, m2, pp2, l2).1 < 0) = false from decide_eq_false h1]
        rw [show decide ((sl g 0 n, m, pp, l).1 = (sl g2 0 n2, m2, pp2, l2).1) = false from decide_eq_false (fun e => h2 (cmpL_eq.mpr e))]
        rfl
      rw [hres]
      exact RQ.done (c := 0) (s := 0) rfl rfl rfl rfl rfl
theorem rc_isAgain {sc : Nat × (Nat → Int32)} {d q lm bf gm ln : Nat} {H : aH} {lb : Nat → Int8} {rn : Value} {of : Int32} {n m pp : Nat} {l : Option Nat} {g : Nat → Int8} (hT : H[136]? = some (kO 8 (tabF lm bf gm))) (hL : H[138]? = some (kO 5 [.ref 140, .int (nI ln)])) (hb : H[139]? = some (kB 41 lb)) (hln : ln ≤ 41) (hq : H[q]? = some (kO 2 (curF q rn of (nI n) (nI m) (nI pp) (lI l) 0))) (hg : H[q + 1]? = some (kB 41 g)) (hn : n ≤ 41) (hm : m < 2 ^ 30) (hpp : pp < 2 ^ 30) (hl : l.getD 0 < 2 ^ 30) : RC sc (d + 1) mr_127 [.ref 137, .ref (q + 1)] H (.inl (some (.int (if sl lb 0 ln = sl g 0 n then 1 else 0)))) H 0 0 := by
  refine RC.of ?_
  refine RQ.blk 1 (pc' := 1) (lv' := [(0, .ref 137), (1, .ref (q + 1))]) (st' := [.ref 137]) (H' := _) (kc' := 0) (ks' := 0) rfl ?_
  refine RQ.get (ci := 8) rfl hT rfl rfl ?_
  refine RQ.get (ci := 5) rfl hL rfl rfl ?_
  refine RQ.blk 1 (pc' := 8) (lv' := [(0, .ref 137), (1, .ref (q + 1))]) (st' := [.ref (q + 1), .int (nI ln)]) (H' := _) (kc' := 0) (ks' := 0) rfl ?_
  refine RQ.get (ci := 2) rfl hq rfl rfl ?_
  by_cases h1 : ln = n
  · refine RQ.brF rfl rfl rfl (cF_ne ln n) ?_
    refine RQ.blk 1 (pc' := 15) (lv' := [(0, .ref 137), (1, .ref (q + 1))]) (st' := [.ref 137]) (H' := _) (kc' := 0) (ks' := 0) rfl ?_
    refine RQ.get (ci := 8) rfl hT rfl rfl ?_
    refine RQ.get (ci := 5) rfl hL rfl rfl ?_
    refine RQ.blk 2 (pc' := 23) (lv' := [(0, .ref 137), (1, .ref (q + 1))]) (st' := [.ref 137, .int 0, .ref 140]) (H' := _) (kc' := 0) (ks' := 0) rfl ?_
    refine RQ.get (ci := 8) rfl hT rfl rfl ?_
    refine RQ.get (ci := 5) rfl hL rfl rfl ?_
    refine RQ.blk 1 (pc' := 30) (lv' := [(0, .ref 137), (1, .ref (q + 1))]) (st' := [.ref (q + 1), .int (nI ln), .int 0, .ref 140]) (H' := _) (kc' := 0) (ks' := 0) rfl ?_
    refine RQ.get (ci := 2) rfl hq rfl rfl ?_
    refine RQ.blk 2 (pc' := 35) (lv' := [(0, .ref 137), (1, .ref (q + 1))]) (st' := [.ref (q + 1), .int 0, .ref ((q + 1) + 1), .int (nI ln), .int 0, .ref 140]) (H' := _) (kc' := 0) (ks' := 0) rfl ?_
    refine RQ.get (ci := 2) rfl hq rfl rfl ?_
    refine RQ.callI (st' := []) rfl rfl rfl rfl rfl rfl rfl (ri_cmp (i := 0) (n := ln) (j := 0) (m := n) hb hg (by decide) (by decide) (by omega) (by omega)) (fun y H2 hx => ?_)
    obtain ⟨eH, hy⟩ := hx
    subst eH
    by_cases h2 : cmpL (sl lb 0 ln) (sl g 0 n) = 0
    · refine RQ.brF rfl rfl rfl (bnf ((cmp_eq0 hy).mpr h2)) ?_
      refine RQ.blk 2 (pc' := 49) (lv' := [(0, .ref 137), (1, .ref (q + 1))]) (st' := [.int 1]) (H' := _) (kc' := 0) (ks' := 0) rfl ?_
      rw [if_pos (cmpL_eq.mp h2)]
      exact RQ.done (c := 0) (s := 0) rfl rfl rfl rfl rfl
    · refine RQ.brT rfl rfl rfl (bnt (fun e => h2 ((cmp_eq0 hy).mp e))) ?_
      refine RQ.blk 1 (pc' := 49) (lv' := [(0, .ref 137), (1, .ref (q + 1))]) (st' := [.int 0]) (H' := _) (kc' := 0) (ks' := 0) rfl ?_
      rw [if_neg (fun e => h2 (cmpL_eq.mpr e))]
      exact RQ.done (c := 0) (s := 0) rfl rfl rfl rfl rfl
  · refine RQ.brT rfl rfl rfl (cT_ne ln n) ?_
    refine RQ.blk 1 (pc' := 49) (lv' := [(0, .ref 137), (1, .ref (q + 1))]) (st' := [.int 0]) (H' := _) (kc' := 0) (ks' := 0) rfl ?_
    rw [if_neg (fun e => h1 (by have := congrArg List.length e; rwa [sl_length, sl_length] at this))]
    exact RQ.done (c := 0) (s := 0) rfl rfl rfl rfl rfl
theorem rn_remember {sc : Nat × (Nat → Int32)} {d q lm bf gm ln : Nat} {H : aH} {lb : Nat → Int8} {rn : Value} {of : Int32} {n m pp : Nat} {l : Option Nat} {g : Nat → Int8} (hT : H[136]? = some (kO 8 (tabF lm bf gm))) (hL : H[138]? = some (kO 5 [.ref 140, .int (nI ln)])) (hb : H[139]? = some (kB 41 lb)) (hln : ln ≤ 41) (hq : H[q]? = some (kO 2 (curF q rn of (nI n) (nI m) (nI pp) (lI l) 0))) (hg : H[q + 1]? = some (kB 41 g)) (hn : n ≤ 41) (hm : m < 2 ^ 30) (hpp : pp < 2 ^ 30) (hl : l.getD 0 < 2 ^ 30) (hq1 : 142 ≤ q) : RN sc (d + 1) mr_130 [.ref 137, .ref (q + 1)] H (fun H' => (∃ lb', H'[139]? = some (kB 41 lb') ∧ sl lb' 0 n = sl g 0 n) ∧ H'[138]? = some (kO 5 [.ref 140, .int (nI n)]) ∧ H'[136]? = some (kO 8 (tabF m bf gm)) ∧ ∀ a, a ≠ 136 → a ≠ 138 → a ≠ 139 → H'[a]? = H[a]?) := by
  refine RN.of ?_
  refine RQ.blk 1 (pc' := 1) (lv' := [(0, .ref 137), (1, .ref (q + 1))]) (st' := [.ref (q + 1)]) (H' := _) (kc' := 0) (ks' := 0) rfl ?_
  refine RQ.get (ci := 2) rfl hq rfl rfl ?_
  refine RQ.blk 2 (pc' := 6) (lv' := [(0, .ref 137), (1, .ref (q + 1))]) (st' := [.ref 137, .int 0, .ref ((q + 1) + 1)]) (H' := _) (kc' := 0) (ks' := 0) rfl ?_
  refine RQ.get (ci := 8) rfl hT rfl rfl ?_
  refine RQ.get (ci := 5) rfl hL rfl rfl ?_
  refine RQ.blk 2 (pc' := 14) (lv' := [(0, .ref 137), (1, .ref (q + 1))]) (st' := [.ref (q + 1), .int 0, .ref 140, .int 0, .ref ((q + 1) + 1)]) (H' := _) (kc' := 0) (ks' := 0) rfl ?_
  refine RQ.get (ci := 2) rfl hq rfl rfl ?_
  refine RQ.call (v := none) (st' := []) rfl rfl rfl rfl rfl rfl rfl (rc_copy (i := 0) (j := 0) (k := n) hg hb (by decide) (by decide) (by omega) (by omega)) ?_
  refine RQ.blk 1 (pc' := 21) (lv' := [(0, .ref 137), (1, .ref (q + 1))]) (st' := [.ref 137]) (H' := _) (kc' := 0) (ks' := 0) rfl ?_
  refine RQ.get (ci := 8) rfl ((set_far (by decide)).trans hT) rfl rfl ?_
  refine RQ.blk 1 (pc' := 25) (lv' := [(0, .ref 137), (1, .ref (q + 1))]) (st' := [.ref (q + 1), .ref 139]) (H' := _) (kc' := 0) (ks' := 0) rfl ?_
  refine RQ.get (ci := 2) rfl ((set_far (by omega)).trans hq) rfl rfl ?_
  refine RQ.put (ci := 5) rfl ((set_far (by decide)).trans hL) rfl rfl (Nat.le_of_ble_eq_true rfl) ?_
  refine RQ.blk 2 (pc' := 33) (lv' := [(0, .ref 137), (1, .ref (q + 1))]) (st' := [.ref (q + 1), .ref 137]) (H' := _) (kc' := 0) (ks' := 0) rfl ?_
  refine RQ.get (ci := 2) rfl ((set_far (by omega)).trans ((set_far (by omega)).trans hq)) rfl rfl ?_
  refine RQ.put (ci := 8) rfl ((set_far (by decide)).trans ((set_far (by decide)).trans hT)) rfl rfl (Nat.le_of_ble_eq_true rfl) ?_
  exact RQ.done (c := 0) (s := 0) rfl rfl rfl rfl ⟨_, rfl, ⟨cpy g 0 lb 0 n, (set_far (by decide)).trans ((set_far (by decide)).trans (get_set hb)), sl_cpy⟩, (set_far (by decide)).trans (get_set ((set_far (by decide)).trans hL)), get_set ((set_far (by decide)).trans ((set_far (by decide)).trans hT)), fun a a1 a2 a3 => (set_far a1).trans ((set_far a2).trans (set_far a3))⟩
