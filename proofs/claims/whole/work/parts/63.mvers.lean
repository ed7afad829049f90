/-! ===== the reference's versions: which stands at a moment, what it weighs; written by wip/gen/mvers.py ===== -/
/-- the reference's versions: bytes, where keys lie and how long they are, where values lie and how long, moments -/
def MVAt (H : aH) (ba : Nat) (bf : Nat → Int8) (ko kn vo : Nat → Nat) (vz : Nat → Option Nat) (vm : Nat → Nat) : Prop := H[198]? = some (kI 1500 (fun j => nI (ko j))) ∧ H[199]? = some (kI 1500 (fun j => nI (kn j))) ∧ H[200]? = some (kI 1500 (fun j => nI (vo j))) ∧ H[201]? = some (kI 1500 (fun j => lI (vz j))) ∧ H[202]? = some (kI 1500 (fun j => nI (vm j))) ∧ H[ba]? = some (kB 48000 bf)
/-- in bounds, the first n -/
def MVOk (ko kn vo : Nat → Nat) (vz : Nat → Option Nat) (vm : Nat → Nat) (n : Nat) : Prop := n ≤ 1500 ∧ ∀ v, v < n → ko v + kn v ≤ 48000 ∧ kn v ≤ 40 ∧ vo v + (vz v).getD 0 ≤ 48000 ∧ vm v < 2 ^ 30
/-- w hides v at the moment m -/
def hidB (bf : Nat → Int8) (ko kn vm : Nat → Nat) (v m w : Nat) : Bool := decide (vm v < vm w) && decide (vm w ≤ m) && decide (sl bf (ko v) (kn v) = sl bf (ko w) (kn w))
/-- v stands at the moment m -/
def stB' (bf : Nat → Int8) (ko kn vm : Nat → Nat) (n v m : Nat) : Bool := decide (vm v ≤ m) && !((List.range n).any (hidB bf ko kn vm v m))
theorem rc_mstands {sc : Nat × (Nat → Int32)} {v m : Nat} {d : Nat} {H : aH} {bf : Nat → Int8} {ko kn vo : Nat → Nat} {vz : Nat → Option Nat} {vm : Nat → Nat} {n : Nat} {fa li dn cw cl tp rs pr us pi hu : Int32} {ba bo : Nat} (hm : H[195]? = some (kO 12 (mfs fa li dn cw cl tp rs pr (nI n) us pi hu ba bo))) (h : MVAt H ba bf ko kn vo vz vm) (hk : MVOk ko kn vo vz vm n) (hv : v < n) (hmm : m < 2 ^ 31) : RC sc (d + 1) mr_272 [.ref 196, .int (nI v), .int (nI m)] H (.inl (some (.int (if stB' bf ko kn vm n v m then 1 else 0)))) H 0 0 := by
  have hn := hk.1
  have hk_v := hk.2 v hv
  refine RC.of ?_
  refine RQ.blk 1 (pc' := 1) (lv' := [(0, .ref 196), (1, .int (nI v)), (2, .int (nI m))]) (st' := [.ref 196]) (H' := _) (kc' := 0) (ks' := 0) rfl ?_
  refine RQ.get (ci := 12) rfl hm rfl rfl ?_
  refine RQ.blk 1 (pc' := 5) (lv' := [(0, .ref 196), (1, .int (nI v)), (2, .int (nI m))]) (st' := [.int (nI v), .ref 203]) (H' := _) (kc' := 0) (ks' := 0) rfl ?_
  refine RQ.ialdN (j := v) rfl h.2.2.2.2.1 (by omega) (by decide) ?_
  refine RQ.blk 1 (pc' := 7) (lv' := [(0, .ref 196), (1, .int (nI v)), (2, .int (nI m))]) (st' := [.int (nI m), .int (nI (vm v))]) (H' := _) (kc' := 0) (ks' := 0) rfl ?_
  unfold stB'
  by_cases hvm : vm v ≤ m
  · rw [decide_eq_true hvm, Bool.true_and]
    refine RQ.brT rfl rfl rfl (cT_le (vm v) m) ?_
    refine RQ.blk 2 (pc' := 14) (lv' := [(3, .int 0), (0, .ref 196), (1, .int (nI v)), (2, .int (nI m))]) (st' := []) (H' := _) (kc' := 0) (ks' := 0) rfl ?_
    refine RQ.loopQ (pc := 14) (fun i => ∀ w, w < i → hidB bf ko kn vm v m w = false) (fun i => [(3, .int (nI i)), (0, .ref 196), (1, .int (nI v)), (2, .int (nI m))]) n (fun i hi h2 ih => ?_) (fun h2 => ?_) (fun s hs => absurd hs (Nat.not_lt_zero _))
    · have hk_i := hk.2 i hi
      have nx : hidB bf ko kn vm v m i = false → _ := fun e => ih (fun s hs => (Nat.lt_succ_iff_lt_or_eq.mp hs).elim (h2 s) (fun e2 => by rw [e2]; exact e))
      refine RQ.blk 2 (pc' := 16) (lv' := [(3, .int (nI i)), (0, .ref 196), (1, .int (nI v)), (2, .int (nI m))]) (st' := [.ref 196, .int (nI i)]) (H' := _) (kc' := 0) (ks' := 0) rfl ?_
      refine RQ.get (ci := 12) rfl hm rfl rfl ?_
      refine RQ.brF rfl rfl rfl (cF_ge i n) ?_
      refine RQ.blk 1 (pc' := 23) (lv' := [(3, .int (nI i)), (0, .ref 196), (1, .int (nI v)), (2, .int (nI m))]) (st' := [.ref 196]) (H' := _) (kc' := 0) (ks' := 0) rfl ?_
      refine RQ.get (ci := 12) rfl hm rfl rfl ?_
      refine RQ.blk 1 (pc' := 27) (lv' := [(3, .int (nI i)), (0, .ref 196), (1, .int (nI v)), (2, .int (nI m))]) (st' := [.int (nI i), .ref 203]) (H' := _) (kc' := 0) (ks' := 0) rfl ?_
      refine RQ.ialdN (j := i) rfl h.2.2.2.2.1 (by omega) (by decide) ?_
      refine RQ.blk 1 (pc' := 29) (lv' := [(3, .int (nI i)), (0, .ref 196), (1, .int (nI v)), (2, .int (nI m))]) (st' := [.ref 196, .int (nI (vm i))]) (H' := _) (kc' := 0) (ks' := 0) rfl ?_
      refine RQ.get (ci := 12) rfl hm rfl rfl ?_
      refine RQ.blk 1 (pc' := 33) (lv' := [(3, .int (nI i)), (0, .ref 196), (1, .int (nI v)), (2, .int (nI m))]) (st' := [.int (nI v), .ref 203, .int (nI (vm i))]) (H' := _) (kc' := 0) (ks' := 0) rfl ?_
      refine RQ.ialdN (j := v) rfl h.2.2.2.2.1 (by omega) (by decide) ?_
      by_cases h3 : vm v < vm i
      ·
        refine RQ.brF rfl rfl rfl (cF_le (vm i) (vm v)) ?_
        refine RQ.blk 1 (pc' := 38) (lv' := [(3, .int (nI i)), (0, .ref 196), (1, .int (nI v)), (2, .int (nI m))]) (st' := [.ref 196]) (H' := _) (kc' := 0) (ks' := 0) rfl ?_
        refine RQ.get (ci := 12) rfl hm rfl rfl ?_
        refine RQ.blk 1 (pc' := 42) (lv' := [(3, .int (nI i)), (0, .ref 196), (1, .int (nI v)), (2, .int (nI m))]) (st' := [.int (nI i), .ref 203]) (H' := _) (kc' := 0) (ks' := 0) rfl ?_
        refine RQ.ialdN (j := i) rfl h.2.2.2.2.1 (by omega) (by decide) ?_
        refine RQ.blk 1 (pc' := 44) (lv' := [(3, .int (nI i)), (0, .ref 196), (1, .int (nI v)), (2, .int (nI m))]) (st' := [.int (nI m), .int (nI (vm i))]) (H' := _) (kc' := 0) (ks' := 0) rfl ?_
        by_cases h4 : vm i ≤ m
        ·
          refine RQ.brF rfl rfl rfl (cF_gt (vm i) m) ?_
          refine RQ.blk 4 (pc' := 56) (lv' := [(4, .int 1), (3, .int (nI i)), (0, .ref 196), (1, .int (nI v)), (2, .int (nI m))]) (st' := [.int 1]) (H' := _) (kc' := 0) (ks' := 0) rfl ?_
          refine RQ.brF rfl rfl rfl (by decide) ?_
          refine RQ.blk 2 (pc' := 61) (lv' := [(4, .int 1), (3, .int (nI i)), (0, .ref 196), (1, .int (nI v)), (2, .int (nI m))]) (st' := [.ref 196, .ref 196]) (H' := _) (kc' := 0) (ks' := 0) rfl ?_
          refine RQ.get (ci := 12) rfl hm rfl rfl ?_
          refine RQ.blk 1 (pc' := 65) (lv' := [(4, .int 1), (3, .int (nI i)), (0, .ref 196), (1, .int (nI v)), (2, .int (nI m))]) (st' := [.ref 196, .ref (ba + 1), .ref 196]) (H' := _) (kc' := 0) (ks' := 0) rfl ?_
          refine RQ.get (ci := 12) rfl hm rfl rfl ?_
          refine RQ.blk 1 (pc' := 69) (lv' := [(4, .int 1), (3, .int (nI i)), (0, .ref 196), (1, .int (nI v)), (2, .int (nI m))]) (st' := [.int (nI v), .ref 199, .ref (ba + 1), .ref 196]) (H' := _) (kc' := 0) (ks' := 0) rfl ?_
          refine RQ.ialdN (j := v) rfl h.1 (by omega) (by decide) ?_
          refine RQ.blk 1 (pc' := 71) (lv' := [(4, .int 1), (3, .int (nI i)), (0, .ref 196), (1, .int (nI v)), (2, .int (nI m))]) (st' := [.ref 196, .int (nI (ko v)), .ref (ba + 1), .ref 196]) (H' := _) (kc' := 0) (ks' := 0) rfl ?_
          refine RQ.get (ci := 12) rfl hm rfl rfl ?_
          refine RQ.blk 1 (pc' := 75) (lv' := [(4, .int 1), (3, .int (nI i)), (0, .ref 196), (1, .int (nI v)), (2, .int (nI m))]) (st' := [.int (nI v), .ref 200, .int (nI (ko v)), .ref (ba + 1), .ref 196]) (H' := _) (kc' := 0) (ks' := 0) rfl ?_
          refine RQ.ialdN (j := v) rfl h.2.1 (by omega) (by decide) ?_
          refine RQ.blk 1 (pc' := 77) (lv' := [(4, .int 1), (3, .int (nI i)), (0, .ref 196), (1, .int (nI v)), (2, .int (nI m))]) (st' := [.ref 196, .int (nI (kn v)), .int (nI (ko v)), .ref (ba + 1), .ref 196]) (H' := _) (kc' := 0) (ks' := 0) rfl ?_
          refine RQ.get (ci := 12) rfl hm rfl rfl ?_
          refine RQ.blk 1 (pc' := 81) (lv' := [(4, .int 1), (3, .int (nI i)), (0, .ref 196), (1, .int (nI v)), (2, .int (nI m))]) (st' := [.ref 196, .ref (ba + 1), .int (nI (kn v)), .int (nI (ko v)), .ref (ba + 1), .ref 196]) (H' := _) (kc' := 0) (ks' := 0) rfl ?_
          refine RQ.get (ci := 12) rfl hm rfl rfl ?_
          refine RQ.blk 1 (pc' := 85) (lv' := [(4, .int 1), (3, .int (nI i)), (0, .ref 196), (1, .int (nI v)), (2, .int (nI m))]) (st' := [.int (nI i), .ref 199, .ref (ba + 1), .int (nI (kn v)), .int (nI (ko v)), .ref (ba + 1), .ref 196]) (H' := _) (kc' := 0) (ks' := 0) rfl ?_
          refine RQ.ialdN (j := i) rfl h.1 (by omega) (by decide) ?_
          refine RQ.blk 1 (pc' := 87) (lv' := [(4, .int 1), (3, .int (nI i)), (0, .ref 196), (1, .int (nI v)), (2, .int (nI m))]) (st' := [.ref 196, .int (nI (ko i)), .ref (ba + 1), .int (nI (kn v)), .int (nI (ko v)), .ref (ba + 1), .ref 196]) (H' := _) (kc' := 0) (ks' := 0) rfl ?_
          refine RQ.get (ci := 12) rfl hm rfl rfl ?_
          refine RQ.blk 1 (pc' := 91) (lv' := [(4, .int 1), (3, .int (nI i)), (0, .ref 196), (1, .int (nI v)), (2, .int (nI m))]) (st' := [.int (nI i), .ref 200, .int (nI (ko i)), .ref (ba + 1), .int (nI (kn v)), .int (nI (ko v)), .ref (ba + 1), .ref 196]) (H' := _) (kc' := 0) (ks' := 0) rfl ?_
          refine RQ.ialdN (j := i) rfl h.2.1 (by omega) (by decide) ?_
          refine RQ.callI (st' := []) rfl rfl rfl rfl rfl rfl (args_v [.int (nI (kn i)), .int (nI (ko i)), .ref (ba + 1), .int (nI (kn v)), .int (nI (ko v)), .ref (ba + 1)] [] rfl rfl (Nat.le_of_ble_eq_true rfl) rfl hm (Nat.le_of_ble_eq_true rfl)) (ri_mcmp h.2.2.2.2.2 h.2.2.2.2.2 (by decide) (by decide) (by omega) (by omega)) (fun x H2 hx => ?_)
          rw [hx.1]
          replace hx := hx.2
          by_cases he : sl bf (ko v) (kn v) = sl bf (ko i) (kn i)
          · rw [any_T hi (show hidB bf ko kn vm v m i = true by unfold hidB; rw [decide_eq_true h3, decide_eq_true h4, decide_eq_true he]; rfl)]
            refine RQ.brF rfl rfl rfl (bnf ((i_eq0 hx).mpr (by rw [he]; exact cmpL_self _))) ?_
            refine RQ.blk 1 (pc' := 99) (lv' := [(4, .int 1), (3, .int (nI i)), (0, .ref 196), (1, .int (nI v)), (2, .int (nI m))]) (st' := [.int 0]) (H' := _) (kc' := 0) (ks' := 0) rfl ?_
            exact RQ.done (c := 0) (s := 0) rfl rfl rfl rfl rfl
          ·
            refine RQ.brT rfl rfl rfl (bnt (fun e => he (cmpL_eq.mp ((i_eq0 hx).mp e)))) ?_
            refine RQ.blk 1 (pc' := 103) (lv' := [(3, .int (nI i + 1)), (4, .int 1), (0, .ref 196), (1, .int (nI v)), (2, .int (nI m))]) (st' := []) (H' := _) (kc' := 0) (ks' := 0) rfl ?_
            rw [show (nI i + 1 : Int32) = nI (i + 1) from nI_add i 1]
            refine RQ.blk 1 (pc' := 14) (lv' := [(3, .int (nI (i + 1))), (4, .int 1), (0, .ref 196), (1, .int (nI v)), (2, .int (nI m))]) (st' := []) (H' := _) (kc' := 0) (ks' := 0) rfl ?_
            exact RQ.pick [0, 2, 3, 4] [3, 4, 0, 1, 2] rfl rfl (by decide) (nx (by unfold hidB; rw [decide_eq_false he, Bool.and_false]))
        ·
          refine RQ.brT rfl rfl rfl (cT_gt (vm i) m) ?_
          refine RQ.blk 3 (pc' := 56) (lv' := [(4, .int 0), (3, .int (nI i)), (0, .ref 196), (1, .int (nI v)), (2, .int (nI m))]) (st' := [.int 0]) (H' := _) (kc' := 0) (ks' := 0) rfl ?_
          refine RQ.brT rfl rfl rfl (by decide) ?_
          refine RQ.blk 1 (pc' := 103) (lv' := [(3, .int (nI i + 1)), (4, .int 0), (0, .ref 196), (1, .int (nI v)), (2, .int (nI m))]) (st' := []) (H' := _) (kc' := 0) (ks' := 0) rfl ?_
          rw [show (nI i + 1 : Int32) = nI (i + 1) from nI_add i 1]
          refine RQ.blk 1 (pc' := 14) (lv' := [(3, .int (nI (i + 1))), (4, .int 0), (0, .ref 196), (1, .int (nI v)), (2, .int (nI m))]) (st' := []) (H' := _) (kc' := 0) (ks' := 0) rfl ?_
          exact RQ.pick [0, 2, 3, 4] [3, 4, 0, 1, 2] rfl rfl (by decide) (nx (by unfold hidB; rw [decide_eq_false h4, Bool.and_false, Bool.false_and]))
      ·
        refine RQ.brT rfl rfl rfl (cT_le (vm i) (vm v)) ?_
        refine RQ.blk 3 (pc' := 56) (lv' := [(4, .int 0), (3, .int (nI i)), (0, .ref 196), (1, .int (nI v)), (2, .int (nI m))]) (st' := [.int 0]) (H' := _) (kc' := 0) (ks' := 0) rfl ?_
        refine RQ.brT rfl rfl rfl (by decide) ?_
        refine RQ.blk 1 (pc' := 103) (lv' := [(3, .int (nI i + 1)), (4, .int 0), (0, .ref 196), (1, .int (nI v)), (2, .int (nI m))]) (st' := []) (H' := _) (kc' := 0) (ks' := 0) rfl ?_
        rw [show (nI i + 1 : Int32) = nI (i + 1) from nI_add i 1]
        refine RQ.blk 1 (pc' := 14) (lv' := [(3, .int (nI (i + 1))), (4, .int 0), (0, .ref 196), (1, .int (nI v)), (2, .int (nI m))]) (st' := []) (H' := _) (kc' := 0) (ks' := 0) rfl ?_
        exact RQ.pick [0, 2, 3, 4] [3, 4, 0, 1, 2] rfl rfl (by decide) (nx (by unfold hidB; rw [decide_eq_false h3, Bool.false_and, Bool.false_and]))
    · rw [any_F h2]
      refine RQ.blk 2 (pc' := 16) (lv' := [(3, .int (nI n)), (0, .ref 196), (1, .int (nI v)), (2, .int (nI m))]) (st' := [.ref 196, .int (nI n)]) (H' := _) (kc' := 0) (ks' := 0) rfl ?_
      refine RQ.get (ci := 12) rfl hm rfl rfl ?_
      refine RQ.brT rfl rfl rfl (cT_ge n n) ?_
      refine RQ.blk 1 (pc' := 107) (lv' := [(3, .int (nI n)), (0, .ref 196), (1, .int (nI v)), (2, .int (nI m))]) (st' := [.int 1]) (H' := _) (kc' := 0) (ks' := 0) rfl ?_
      exact RQ.done (c := 0) (s := 0) rfl rfl rfl rfl rfl
  · rw [decide_eq_false hvm, Bool.false_and]
    refine RQ.brF rfl rfl rfl (cF_le (vm v) m) ?_
    refine RQ.blk 1 (pc' := 11) (lv' := [(0, .ref 196), (1, .int (nI v)), (2, .int (nI m))]) (st' := [.int 0]) (H' := _) (kc' := 0) (ks' := 0) rfl ?_
    exact RQ.done (c := 0) (s := 0) rfl rfl rfl rfl rfl
/-- how many keys have a value at the moment, among the first n of N -/
def keyS (bf : Nat → Int8) (ko kn : Nat → Nat) (vz : Nat → Option Nat) (vm : Nat → Nat) (N m : Nat) : Nat → Nat := cntB (fun v => !(decide (vz v = none)) && stB' bf ko kn vm N v m)
theorem rc_mkeys {sc : Nat × (Nat → Int32)} {p : Nat} {d : Nat} {H : aH} {bf : Nat → Int8} {ko kn vo : Nat → Nat} {vz : Nat → Option Nat} {vm : Nat → Nat} {n : Nat} {fa li dn cw cl tp rs us pi hu : Int32} {ba bo : Nat} (hm : H[195]? = some (kO 12 (mfs fa li dn cw cl tp rs (nI p) (nI n) us pi hu ba bo))) (h : MVAt H ba bf ko kn vo vz vm) (hk : MVOk ko kn vo vz vm n) (hp : p < 2 ^ 31) : RC sc (d + 2) mr_301 [.ref 196] H (.inl (some (.int (nI (cntB (fun v => !(decide (vz v = none)) && stB' bf ko kn vm n v p) n))))) H 0 0 := by
  have hn := hk.1
  refine RP.blk 4 (pc' := 4) (lv' := [(2, .int 0), (1, .int 0), (0, .ref 196)]) (st' := []) (H' := _) (kc' := 0) (ks' := 0) rfl ?_
  have start : RP sc (d + 2) mr_301 4 [(2, .int (nI 0)), (1, .int (nI (cntB (fun v => !(decide (vz v = none)) && stB' bf ko kn vm n v p) 0))), (0, .ref 196)] [] H 0 0 (.inl (some (.int (nI (cntB (fun v => !(decide (vz v = none)) && stB' bf ko kn vm n v p) n)))), H, 0, 0) := by
    refine RP.loop 4 (fun i => [(2, .int (nI i)), (1, .int (nI (cntB (fun v => !(decide (vz v = none)) && stB' bf ko kn vm n v p) i))), (0, .ref 196)]) [] (fun _ => H) 0 0 n (fun i hi kk => ?_) ?_
    · have hk_i := hk.2 i hi
      have e : cntB (fun v => !(decide (vz v = none)) && stB' bf ko kn vm n v p) (i + 1) = cntB (fun v => !(decide (vz v = none)) && stB' bf ko kn vm n v p) i + (if (!(decide (vz i = none)) && stB' bf ko kn vm n i p) = true then 1 else 0) := rfl
      refine RP.blk 2 (pc' := 6) (lv' := [(2, .int (nI i)), (1, .int (nI (cntB (fun v => !(decide (vz v = none)) && stB' bf ko kn vm n v p) i))), (0, .ref 196)]) (st' := [.ref 196, .int (nI i)]) (H' := _) (kc' := 0) (ks' := 0) rfl ?_
      refine RP.get (ci := 12) rfl hm rfl rfl ?_
      refine RP.brF rfl rfl rfl (cF_ge i n) ?_
      refine RP.blk 1 (pc' := 13) (lv' := [(2, .int (nI i)), (1, .int (nI (cntB (fun v => !(decide (vz v = none)) && stB' bf ko kn vm n v p) i))), (0, .ref 196)]) (st' := [.ref 196]) (H' := _) (kc' := 0) (ks' := 0) rfl ?_
      refine RP.get (ci := 12) rfl hm rfl rfl ?_
      refine RP.blk 1 (pc' := 17) (lv' := [(2, .int (nI i)), (1, .int (nI (cntB (fun v => !(decide (vz v = none)) && stB' bf ko kn vm n v p) i))), (0, .ref 196)]) (st' := [.int (nI i), .ref 202]) (H' := _) (kc' := 0) (ks' := 0) rfl ?_
      refine RP.ialdN (j := i) rfl h.2.2.2.1 (by omega) (by decide) ?_
      by_cases hz : vz i = none
      · rw [decide_eq_true hz] at e
        rw [e] at kk
        refine RP.brT rfl rfl rfl (decide_eq_true ((lI_neg (by omega)).mpr hz)) ?_
        refine RP.blk 1 (pc' := 39) (lv' := [(2, .int (nI i + 1)), (1, .int (nI (cntB (fun v => !(decide (vz v = none)) && stB' bf ko kn vm n v p) i))), (0, .ref 196)]) (st' := []) (H' := _) (kc' := 0) (ks' := 0) rfl ?_
        rw [show (nI i + 1 : Int32) = nI (i + 1) from nI_add i 1]
        refine RP.blk 1 (pc' := 4) (lv' := [(2, .int (nI (i + 1))), (1, .int (nI (cntB (fun v => !(decide (vz v = none)) && stB' bf ko kn vm n v p) i))), (0, .ref 196)]) (st' := []) (H' := _) (kc' := 0) (ks' := 0) rfl ?_
        exact kk
      · rw [decide_eq_false hz] at e
        refine RP.brF rfl rfl rfl (decide_eq_false (fun e => hz ((lI_neg (by omega)).mp e))) ?_
        refine RP.blk 3 (pc' := 24) (lv' := [(2, .int (nI i)), (1, .int (nI (cntB (fun v => !(decide (vz v = none)) && stB' bf ko kn vm n v p) i))), (0, .ref 196)]) (st' := [.ref 196, .int (nI i), .ref 196]) (H' := _) (kc' := 0) (ks' := 0) rfl ?_
        refine RP.get (ci := 12) rfl hm rfl rfl ?_
        refine RP.call (v := some (.int (if stB' bf ko kn vm n i p then 1 else 0))) (st' := []) rfl rfl rfl rfl rfl rfl (args_v [.int (nI p), .int (nI i)] [] rfl rfl (Nat.le_of_ble_eq_true rfl) rfl hm (Nat.le_of_ble_eq_true rfl)) (rc_mstands hm h hk hi hp) ?_
        cases hs : stB' bf ko kn vm n i p with
        | true =>
          rw [hs] at e
          rw [e] at kk
          refine RP.brF rfl rfl rfl (by decide) ?_
          refine RP.blk 1 (pc' := 36) (lv' := [(1, .int (nI (cntB (fun v => !(decide (vz v = none)) && stB' bf ko kn vm n v p) i) + 1)), (2, .int (nI i)), (0, .ref 196)]) (st' := []) (H' := _) (kc' := 0) (ks' := 0) rfl ?_
          rw [show (nI (cntB (fun v => !(decide (vz v = none)) && stB' bf ko kn vm n v p) i) + 1 : Int32) = nI (cntB (fun v => !(decide (vz v = none)) && stB' bf ko kn vm n v p) i + 1) from nI_add (cntB (fun v => !(decide (vz v = none)) && stB' bf ko kn vm n v p) i) 1]
          refine RP.blk 1 (pc' := 39) (lv' := [(2, .int (nI i + 1)), (1, .int (nI (cntB (fun v => !(decide (vz v = none)) && stB' bf ko kn vm n v p) i + 1))), (0, .ref 196)]) (st' := []) (H' := _) (kc' := 0) (ks' := 0) rfl ?_
          rw [show (nI i + 1 : Int32) = nI (i + 1) from nI_add i 1]
          refine RP.blk 1 (pc' := 4) (lv' := [(2, .int (nI (i + 1))), (1, .int (nI (cntB (fun v => !(decide (vz v = none)) && stB' bf ko kn vm n v p) i + 1))), (0, .ref 196)]) (st' := []) (H' := _) (kc' := 0) (ks' := 0) rfl ?_
          exact kk
        | false =>
          rw [hs] at e
          rw [e] at kk
          refine RP.brT rfl rfl rfl (by decide) ?_
          refine RP.blk 1 (pc' := 39) (lv' := [(2, .int (nI i + 1)), (1, .int (nI (cntB (fun v => !(decide (vz v = none)) && stB' bf ko kn vm n v p) i))), (0, .ref 196)]) (st' := []) (H' := _) (kc' := 0) (ks' := 0) rfl ?_
          rw [show (nI i + 1 : Int32) = nI (i + 1) from nI_add i 1]
          refine RP.blk 1 (pc' := 4) (lv' := [(2, .int (nI (i + 1))), (1, .int (nI (cntB (fun v => !(decide (vz v = none)) && stB' bf ko kn vm n v p) i))), (0, .ref 196)]) (st' := []) (H' := _) (kc' := 0) (ks' := 0) rfl ?_
          exact kk
    ·
      refine RP.blk 2 (pc' := 6) (lv' := [(2, .int (nI n)), (1, .int (nI (cntB (fun v => !(decide (vz v = none)) && stB' bf ko kn vm n v p) n))), (0, .ref 196)]) (st' := [.ref 196, .int (nI n)]) (H' := _) (kc' := 0) (ks' := 0) rfl ?_
      refine RP.get (ci := 12) rfl hm rfl rfl ?_
      refine RP.brT rfl rfl rfl (cT_ge n n) ?_
      refine RP.blk 1 (pc' := 43) (lv' := [(2, .int (nI n)), (1, .int (nI (cntB (fun v => !(decide (vz v = none)) && stB' bf ko kn vm n v p) n))), (0, .ref 196)]) (st' := [.int (nI (cntB (fun v => !(decide (vz v = none)) && stB' bf ko kn vm n v p) n))]) (H' := _) (kc' := 0) (ks' := 0) rfl ?_
      exact RP.done (c := 0) (s := 0) rfl rfl rfl rfl
  exact start
