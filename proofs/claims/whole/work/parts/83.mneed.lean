/-! ===== the reference: the version of a key at a moment, what files take, what is needed; written by wip/gen/mvers3.py ===== -/
/-- v is newer -/
def bLt (vm : Nat → Nat) (o : Option Nat) (v : Nat) : Bool := match o with
  | none => true
  | some b => decide (vm b < vm v)
/-- the newest of the first n versions of the key at the moment -/
def bestV (bf : Nat → Int8) (ko kn vm : Nat → Nat) (key : List Nat) (m : Nat) : Nat → Option Nat
  | 0 => none
  | v + 1 => if vm v ≤ m ∧ sl bf (ko v) (kn v) = key ∧ bLt vm (bestV bf ko kn vm key m v) v = true then some v else bestV bf ko kn vm key m v
theorem bestV_lt {bf : Nat → Int8} {ko kn vm : Nat → Nat} {key : List Nat} {m : Nat} : ∀ (n b : Nat), bestV bf ko kn vm key m n = some b → b < n
  | 0, b, h => by cases h
  | n + 1, b, h => by
    rw [bestV] at h
    split at h
    · have := Option.some.inj h; omega
    · have := bestV_lt n b h; omega
theorem rc_mversionAt {sc : Nat × (Nat → Int32)} {a na j q m : Nat} {d : Nat} {H : aH} {bf : Nat → Int8} {ko kn vo : Nat → Nat} {vz : Nat → Option Nat} {vm : Nat → Nat} {n : Nat} {fa li dn cw cl tp rs pr us pi hu : Int32} {ba bo : Nat} {g : Nat → Int8} (hm : H[195]? = some (kO 12 (mfs fa li dn cw cl tp rs pr (nI n) us pi hu ba bo))) (h : MVAt H ba bf ko kn vo vz vm) (hk : MVOk ko kn vo vz vm n) (h1 : H[a]? = some (kB na g)) (hna : na < 2 ^ 30) (hj : j + q ≤ na) (hmm : m < 2 ^ 31) : RC sc (d + 1) mr_291 [.ref 196, .ref (a + 1), .int (nI j), .int (nI q), .int (nI m)] H (.inl (some (.int (lI (bestV bf ko kn vm (sl g j q) m n))))) H 0 0 := by
  have hn := hk.1
  refine RC.of ?_
  refine RQ.blk 4 (pc' := 6) (lv' := [(6, .int 0), (5, .int (-1)), (0, .ref 196), (1, .ref (a + 1)), (2, .int (nI j)), (3, .int (nI q)), (4, .int (nI m))]) (st' := []) (H' := _) (kc' := 0) (ks' := 0) rfl ?_
  refine RQ.loopQ (pc := 6) (fun _ => True) (fun v => [(6, .int (nI v)), (5, .int (lI (bestV bf ko kn vm (sl g j q) m v))), (0, .ref 196), (1, .ref (a + 1)), (2, .int (nI j)), (3, .int (nI q)), (4, .int (nI m))]) n (fun v hv _ ih => ?_) (fun _ => ?_) trivial
  · have ih := ih trivial
    have hk_v := hk.2 v hv
    rw [bestV] at ih
    refine RQ.blk 2 (pc' := 9) (lv' := [(6, .int (nI v)), (5, .int (lI (bestV bf ko kn vm (sl g j q) m v))), (0, .ref 196), (1, .ref (a + 1)), (2, .int (nI j)), (3, .int (nI q)), (4, .int (nI m))]) (st' := [.ref 196, .int (nI v)]) (H' := _) (kc' := 0) (ks' := 0) rfl ?_
    refine RQ.get (ci := 12) rfl hm rfl rfl ?_
    refine RQ.brF rfl rfl rfl (cF_ge v n) ?_
    refine RQ.blk 1 (pc' := 16) (lv' := [(6, .int (nI v)), (5, .int (lI (bestV bf ko kn vm (sl g j q) m v))), (0, .ref 196), (1, .ref (a + 1)), (2, .int (nI j)), (3, .int (nI q)), (4, .int (nI m))]) (st' := [.ref 196]) (H' := _) (kc' := 0) (ks' := 0) rfl ?_
    refine RQ.get (ci := 12) rfl hm rfl rfl ?_
    refine RQ.blk 1 (pc' := 21) (lv' := [(6, .int (nI v)), (5, .int (lI (bestV bf ko kn vm (sl g j q) m v))), (0, .ref 196), (1, .ref (a + 1)), (2, .int (nI j)), (3, .int (nI q)), (4, .int (nI m))]) (st' := [.int (nI v), .ref 203]) (H' := _) (kc' := 0) (ks' := 0) rfl ?_
    refine RQ.ialdN (j := v) rfl h.2.2.2.2.1 (by omega) (by decide) ?_
    refine RQ.blk 1 (pc' := 24) (lv' := [(6, .int (nI v)), (5, .int (lI (bestV bf ko kn vm (sl g j q) m v))), (0, .ref 196), (1, .ref (a + 1)), (2, .int (nI j)), (3, .int (nI q)), (4, .int (nI m))]) (st' := [.int (nI m), .int (nI (vm v))]) (H' := _) (kc' := 0) (ks' := 0) rfl ?_
    have skip : ¬ (vm v ≤ m ∧ sl bf (ko v) (kn v) = sl g j q ∧ bLt vm (bestV bf ko kn vm (sl g j q) m v) v = true) → RQ sc (d + 1) mr_291 84 [(6, .int (nI v)), (5, .int (lI (bestV bf ko kn vm (sl g j q) m v))), (0, .ref 196), (1, .ref (a + 1)), (2, .int (nI j)), (3, .int (nI q)), (4, .int (nI m))] [] H 0 0 (fun r => r = (.inl (some (.int (lI (bestV bf ko kn vm (sl g j q) m n)))), H, 0, 0)) := by
      intro e
      rw [if_neg e] at ih
      refine RQ.blk 1 (pc' := 87) (lv' := [(6, .int (nI v + 1)), (5, .int (lI (bestV bf ko kn vm (sl g j q) m v))), (0, .ref 196), (1, .ref (a + 1)), (2, .int (nI j)), (3, .int (nI q)), (4, .int (nI m))]) (st' := []) (H' := _) (kc' := 0) (ks' := 0) rfl ?_
      rw [show (nI v + 1 : Int32) = nI (v + 1) from nI_add v 1]
      refine RQ.blk 1 (pc' := 6) (lv' := [(6, .int (nI (v + 1))), (5, .int (lI (bestV bf ko kn vm (sl g j q) m v))), (0, .ref 196), (1, .ref (a + 1)), (2, .int (nI j)), (3, .int (nI q)), (4, .int (nI m))]) (st' := []) (H' := _) (kc' := 0) (ks' := 0) rfl ?_
      exact ih
    have hit : (vm v ≤ m ∧ sl bf (ko v) (kn v) = sl g j q ∧ bLt vm (bestV bf ko kn vm (sl g j q) m v) v = true) → RQ sc (d + 1) mr_291 80 [(6, .int (nI v)), (5, .int (lI (bestV bf ko kn vm (sl g j q) m v))), (0, .ref 196), (1, .ref (a + 1)), (2, .int (nI j)), (3, .int (nI q)), (4, .int (nI m))] [] H 0 0 (fun r => r = (.inl (some (.int (lI (bestV bf ko kn vm (sl g j q) m n)))), H, 0, 0)) := by
      intro e
      rw [if_pos e] at ih
      refine RQ.blk 3 (pc' := 87) (lv' := [(6, .int (nI v + 1)), (5, .int (nI v)), (0, .ref 196), (1, .ref (a + 1)), (2, .int (nI j)), (3, .int (nI q)), (4, .int (nI m))]) (st' := []) (H' := _) (kc' := 0) (ks' := 0) rfl ?_
      rw [show (nI v + 1 : Int32) = nI (v + 1) from nI_add v 1]
      refine RQ.blk 1 (pc' := 6) (lv' := [(6, .int (nI (v + 1))), (5, .int (nI v)), (0, .ref 196), (1, .ref (a + 1)), (2, .int (nI j)), (3, .int (nI q)), (4, .int (nI m))]) (st' := []) (H' := _) (kc' := 0) (ks' := 0) rfl ?_
      exact RQ.pick [0, 1, 2, 3, 4, 5, 6] [6, 5, 0, 1, 2, 3, 4] rfl rfl (by decide) ih
    by_cases hvm : vm v ≤ m
    ·
      refine RQ.brF rfl rfl rfl (cF_gt (vm v) m) ?_
      refine RQ.blk 2 (pc' := 29) (lv' := [(6, .int (nI v)), (5, .int (lI (bestV bf ko kn vm (sl g j q) m v))), (0, .ref 196), (1, .ref (a + 1)), (2, .int (nI j)), (3, .int (nI q)), (4, .int (nI m))]) (st' := [.ref 196, .ref 196]) (H' := _) (kc' := 0) (ks' := 0) rfl ?_
      refine RQ.get (ci := 12) rfl hm rfl rfl ?_
      refine RQ.blk 1 (pc' := 33) (lv' := [(6, .int (nI v)), (5, .int (lI (bestV bf ko kn vm (sl g j q) m v))), (0, .ref 196), (1, .ref (a + 1)), (2, .int (nI j)), (3, .int (nI q)), (4, .int (nI m))]) (st' := [.ref 196, .ref (ba + 1), .ref 196]) (H' := _) (kc' := 0) (ks' := 0) rfl ?_
      refine RQ.get (ci := 12) rfl hm rfl rfl ?_
      refine RQ.blk 1 (pc' := 38) (lv' := [(6, .int (nI v)), (5, .int (lI (bestV bf ko kn vm (sl g j q) m v))), (0, .ref 196), (1, .ref (a + 1)), (2, .int (nI j)), (3, .int (nI q)), (4, .int (nI m))]) (st' := [.int (nI v), .ref 199, .ref (ba + 1), .ref 196]) (H' := _) (kc' := 0) (ks' := 0) rfl ?_
      refine RQ.ialdN (j := v) rfl h.1 (by omega) (by decide) ?_
      refine RQ.blk 1 (pc' := 40) (lv' := [(6, .int (nI v)), (5, .int (lI (bestV bf ko kn vm (sl g j q) m v))), (0, .ref 196), (1, .ref (a + 1)), (2, .int (nI j)), (3, .int (nI q)), (4, .int (nI m))]) (st' := [.ref 196, .int (nI (ko v)), .ref (ba + 1), .ref 196]) (H' := _) (kc' := 0) (ks' := 0) rfl ?_
      refine RQ.get (ci := 12) rfl hm rfl rfl ?_
      refine RQ.blk 1 (pc' := 45) (lv' := [(6, .int (nI v)), (5, .int (lI (bestV bf ko kn vm (sl g j q) m v))), (0, .ref 196), (1, .ref (a + 1)), (2, .int (nI j)), (3, .int (nI q)), (4, .int (nI m))]) (st' := [.int (nI v), .ref 200, .int (nI (ko v)), .ref (ba + 1), .ref 196]) (H' := _) (kc' := 0) (ks' := 0) rfl ?_
      refine RQ.ialdN (j := v) rfl h.2.1 (by omega) (by decide) ?_
      refine RQ.blk 3 (pc' := 49) (lv' := [(6, .int (nI v)), (5, .int (lI (bestV bf ko kn vm (sl g j q) m v))), (0, .ref 196), (1, .ref (a + 1)), (2, .int (nI j)), (3, .int (nI q)), (4, .int (nI m))]) (st' := [.int (nI q), .int (nI j), .ref (a + 1), .int (nI (kn v)), .int (nI (ko v)), .ref (ba + 1), .ref 196]) (H' := _) (kc' := 0) (ks' := 0) rfl ?_
      refine RQ.callI (st' := []) rfl rfl rfl rfl rfl rfl (args_v [.int (nI q), .int (nI j), .ref (a + 1), .int (nI (kn v)), .int (nI (ko v)), .ref (ba + 1)] [] rfl rfl (Nat.le_of_ble_eq_true rfl) rfl hm (Nat.le_of_ble_eq_true rfl)) (ri_mcmp h.2.2.2.2.2 h1 (by decide) hna (by omega) hj) (fun x H2 hx => ?_)
      rw [hx.1]
      replace hx := hx.2
      by_cases he : sl bf (ko v) (kn v) = sl g j q
      ·
        refine RQ.brT rfl rfl rfl (decide_eq_true ((i_eq0 hx).mpr (by rw [he]; exact cmpL_self _))) ?_
        refine RQ.blk 1 (pc' := 60) (lv' := [(6, .int (nI v)), (5, .int (lI (bestV bf ko kn vm (sl g j q) m v))), (0, .ref 196), (1, .ref (a + 1)), (2, .int (nI j)), (3, .int (nI q)), (4, .int (nI m))]) (st' := [.int (lI (bestV bf ko kn vm (sl g j q) m v))]) (H' := _) (kc' := 0) (ks' := 0) rfl ?_
        cases hb : bestV bf ko kn vm (sl g j q) m v with
        | none =>
          have hit := hit ⟨hvm, he, by rw [hb]; rfl⟩
          rw [hb] at hit
          refine RQ.brT rfl rfl rfl (by decide) ?_
          exact hit
        | some b =>
          have hbv := bestV_lt v b hb
          have hk_b := hk.2 b (by omega)
          rw [hb] at skip hit
          refine RQ.brF rfl rfl rfl (cF_lt b 0) ?_
          refine RQ.blk 1 (pc' := 64) (lv' := [(6, .int (nI v)), (5, .int (nI b)), (0, .ref 196), (1, .ref (a + 1)), (2, .int (nI j)), (3, .int (nI q)), (4, .int (nI m))]) (st' := [.ref 196]) (H' := _) (kc' := 0) (ks' := 0) rfl ?_
          refine RQ.get (ci := 12) rfl hm rfl rfl ?_
          refine RQ.blk 1 (pc' := 69) (lv' := [(6, .int (nI v)), (5, .int (nI b)), (0, .ref 196), (1, .ref (a + 1)), (2, .int (nI j)), (3, .int (nI q)), (4, .int (nI m))]) (st' := [.int (nI v), .ref 203]) (H' := _) (kc' := 0) (ks' := 0) rfl ?_
          refine RQ.ialdN (j := v) rfl h.2.2.2.2.1 (by omega) (by decide) ?_
          refine RQ.blk 1 (pc' := 71) (lv' := [(6, .int (nI v)), (5, .int (nI b)), (0, .ref 196), (1, .ref (a + 1)), (2, .int (nI j)), (3, .int (nI q)), (4, .int (nI m))]) (st' := [.ref 196, .int (nI (vm v))]) (H' := _) (kc' := 0) (ks' := 0) rfl ?_
          refine RQ.get (ci := 12) rfl hm rfl rfl ?_
          refine RQ.blk 1 (pc' := 76) (lv' := [(6, .int (nI v)), (5, .int (nI b)), (0, .ref 196), (1, .ref (a + 1)), (2, .int (nI j)), (3, .int (nI q)), (4, .int (nI m))]) (st' := [.int (nI b), .ref 203, .int (nI (vm v))]) (H' := _) (kc' := 0) (ks' := 0) rfl ?_
          refine RQ.ialdN (j := b) rfl h.2.2.2.2.1 (by omega) (by decide) ?_
          by_cases h9 : vm b < vm v
          ·
            refine RQ.brF rfl rfl rfl (cF_le (vm v) (vm b)) ?_
            exact hit ⟨hvm, he, decide_eq_true h9⟩
          ·
            refine RQ.brT rfl rfl rfl (cT_le (vm v) (vm b)) ?_
            exact skip (fun e => h9 (of_decide_eq_true e.2.2))
      ·
        refine RQ.brF rfl rfl rfl (decide_eq_false (fun e => he (cmpL_eq.mp ((i_eq0 hx).mp e)))) ?_
        refine RQ.blk 1 (pc' := 84) (lv' := [(6, .int (nI v)), (5, .int (lI (bestV bf ko kn vm (sl g j q) m v))), (0, .ref 196), (1, .ref (a + 1)), (2, .int (nI j)), (3, .int (nI q)), (4, .int (nI m))]) (st' := []) (H' := _) (kc' := 0) (ks' := 0) rfl ?_
        exact skip (fun e => he e.2.1)
    ·
      refine RQ.brT rfl rfl rfl (cT_gt (vm v) m) ?_
      exact skip (fun e => hvm e.1)
  ·
    refine RQ.blk 2 (pc' := 9) (lv' := [(6, .int (nI n)), (5, .int (lI (bestV bf ko kn vm (sl g j q) m n))), (0, .ref 196), (1, .ref (a + 1)), (2, .int (nI j)), (3, .int (nI q)), (4, .int (nI m))]) (st' := [.ref 196, .int (nI n)]) (H' := _) (kc' := 0) (ks' := 0) rfl ?_
    refine RQ.get (ci := 12) rfl hm rfl rfl ?_
    refine RQ.brT rfl rfl rfl (cT_ge n n) ?_
    refine RQ.blk 1 (pc' := 92) (lv' := [(6, .int (nI n)), (5, .int (lI (bestV bf ko kn vm (sl g j q) m n))), (0, .ref 196), (1, .ref (a + 1)), (2, .int (nI j)), (3, .int (nI q)), (4, .int (nI m))]) (st' := [.int (lI (bestV bf ko kn vm (sl g j q) m n))]) (H' := _) (kc' := 0) (ks' := 0) rfl ?_
    exact RQ.done (c := 0) (s := 0) rfl rfl rfl rfl rfl
/-- the sum over the first n -/
def sum0 (f : Nat → Nat) : Nat → Nat
  | 0 => 0
  | n + 1 => sum0 f n + f n
theorem rc_filesTake {sc : Nat × (Nat → Int32)} {d pc : Nat} {H : aH} {kd pa sz nl ps : Nat → Nat} {nm : Nat → Int8} {fa li dn cw cl tp rs pr ve us hu : Int32} {ba bo : Nat} (hm : H[195]? = some (kO 12 (mfs fa li dn cw cl tp rs pr ve us (nI pc) hu ba bo))) (h : MTreeAt H kd pa sz nl nm) (hk : TreeOk kd pa sz nl) (hps : H[220]? = some (kI 1300 (fun j => nI (ps j)))) (hpc : pc ≤ 1300) : RC sc d mr_278 [.ref 196] H (.inl (some (.int (nI (sumF (fun f => if kd f = 0 then 0 else 62 + nl f) 200 + sum0 (fun p => 27 + ps p) pc))))) H 0 0 := by
  refine RP.blk 4 (pc' := 4) (lv' := [(2, .int 1), (1, .int 0), (0, .ref 196)]) (st' := []) (H' := _) (kc' := 0) (ks' := 0) rfl ?_
  have two : RP sc d mr_278 44 [(2, .int (nI 0)), (1, .int (nI (sumF (fun f => if kd f = 0 then 0 else 62 + nl f) 200 + sum0 (fun p => 27 + ps p) 0))), (0, .ref 196)] [] H 0 0 (.inl (some (.int (nI (sumF (fun f => if kd f = 0 then 0 else 62 + nl f) 200 + sum0 (fun p => 27 + ps p) pc)))), H, 0, 0) := by
    refine RP.loop 44 (fun i => [(2, .int (nI i)), (1, .int (nI (sumF (fun f => if kd f = 0 then 0 else 62 + nl f) 200 + sum0 (fun p => 27 + ps p) i))), (0, .ref 196)]) [] (fun _ => H) 0 0 pc (fun i hi kk => ?_) ?_
    ·
      refine RP.blk 2 (pc' := 46) (lv' := [(2, .int (nI i)), (1, .int (nI (sumF (fun f => if kd f = 0 then 0 else 62 + nl f) 200 + sum0 (fun p => 27 + ps p) i))), (0, .ref 196)]) (st' := [.ref 196, .int (nI i)]) (H' := _) (kc' := 0) (ks' := 0) rfl ?_
      refine RP.get (ci := 12) rfl hm rfl rfl ?_
      refine RP.brF rfl rfl rfl (cF_ge i pc) ?_
      refine RP.blk 3 (pc' := 56) (lv' := [(2, .int (nI i)), (1, .int (nI (sumF (fun f => if kd f = 0 then 0 else 62 + nl f) 200 + sum0 (fun p => 27 + ps p) i))), (0, .ref 196)]) (st' := [.ref 196, .int 27, .int (nI (sumF (fun f => if kd f = 0 then 0 else 62 + nl f) 200 + sum0 (fun p => 27 + ps p) i))]) (H' := _) (kc' := 0) (ks' := 0) rfl ?_
      refine RP.get (ci := 12) rfl hm rfl rfl ?_
      refine RP.blk 1 (pc' := 60) (lv' := [(2, .int (nI i)), (1, .int (nI (sumF (fun f => if kd f = 0 then 0 else 62 + nl f) 200 + sum0 (fun p => 27 + ps p) i))), (0, .ref 196)]) (st' := [.int (nI i), .ref 221, .int 27, .int (nI (sumF (fun f => if kd f = 0 then 0 else 62 + nl f) 200 + sum0 (fun p => 27 + ps p) i))]) (H' := _) (kc' := 0) (ks' := 0) rfl ?_
      refine RP.ialdN (j := i) rfl hps (by omega) (by decide) ?_
      refine RP.blk 1 (pc' := 62) (lv' := [(2, .int (nI i)), (1, .int (nI (sumF (fun f => if kd f = 0 then 0 else 62 + nl f) 200 + sum0 (fun p => 27 + ps p) i))), (0, .ref 196)]) (st' := [.int (27 + nI (ps i)), .int (nI (sumF (fun f => if kd f = 0 then 0 else 62 + nl f) 200 + sum0 (fun p => 27 + ps p) i))]) (H' := _) (kc' := 0) (ks' := 0) rfl ?_
      rw [show (27 + nI (ps i) : Int32) = nI (27 + (ps i)) from nI_add 27 (ps i)]
      refine RP.blk 1 (pc' := 63) (lv' := [(2, .int (nI i)), (1, .int (nI (sumF (fun f => if kd f = 0 then 0 else 62 + nl f) 200 + sum0 (fun p => 27 + ps p) i))), (0, .ref 196)]) (st' := [.int (nI (sumF (fun f => if kd f = 0 then 0 else 62 + nl f) 200 + sum0 (fun p => 27 + ps p) i) + nI (27 + (ps i)))]) (H' := _) (kc' := 0) (ks' := 0) rfl ?_
      rw [show (nI (sumF (fun f => if kd f = 0 then 0 else 62 + nl f) 200 + sum0 (fun p => 27 + ps p) i) + nI (27 + (ps i)) : Int32) = nI (sumF (fun f => if kd f = 0 then 0 else 62 + nl f) 200 + sum0 (fun p => 27 + ps p) i + (27 + (ps i))) from nI_add (sumF (fun f => if kd f = 0 then 0 else 62 + nl f) 200 + sum0 (fun p => 27 + ps p) i) (27 + (ps i))]
      refine RP.blk 2 (pc' := 67) (lv' := [(2, .int (nI i + 1)), (1, .int (nI (sumF (fun f => if kd f = 0 then 0 else 62 + nl f) 200 + sum0 (fun p => 27 + ps p) i + (27 + (ps i))))), (0, .ref 196)]) (st' := []) (H' := _) (kc' := 0) (ks' := 0) rfl ?_
      rw [show (nI i + 1 : Int32) = nI (i + 1) from nI_add i 1]
      refine RP.blk 1 (pc' := 44) (lv' := [(2, .int (nI (i + 1))), (1, .int (nI (sumF (fun f => if kd f = 0 then 0 else 62 + nl f) 200 + sum0 (fun p => 27 + ps p) i + (27 + (ps i))))), (0, .ref 196)]) (st' := []) (H' := _) (kc' := 0) (ks' := 0) rfl ?_
      rw [Nat.add_assoc]
      exact kk
    ·
      refine RP.blk 2 (pc' := 46) (lv' := [(2, .int (nI pc)), (1, .int (nI (sumF (fun f => if kd f = 0 then 0 else 62 + nl f) 200 + sum0 (fun p => 27 + ps p) pc))), (0, .ref 196)]) (st' := [.ref 196, .int (nI pc)]) (H' := _) (kc' := 0) (ks' := 0) rfl ?_
      refine RP.get (ci := 12) rfl hm rfl rfl ?_
      refine RP.brT rfl rfl rfl (cT_ge pc pc) ?_
      refine RP.blk 1 (pc' := 71) (lv' := [(2, .int (nI pc)), (1, .int (nI (sumF (fun f => if kd f = 0 then 0 else 62 + nl f) 200 + sum0 (fun p => 27 + ps p) pc))), (0, .ref 196)]) (st' := [.int (nI (sumF (fun f => if kd f = 0 then 0 else 62 + nl f) 200 + sum0 (fun p => 27 + ps p) pc))]) (H' := _) (kc' := 0) (ks' := 0) rfl ?_
      exact RP.done (c := 0) (s := 0) rfl rfl rfl rfl
  have start : RP sc d mr_278 4 [(2, .int (nI (0 + 1))), (1, .int (nI (sumF (fun f => if kd f = 0 then 0 else 62 + nl f) 0))), (0, .ref 196)] [] H 0 0 (.inl (some (.int (nI (sumF (fun f => if kd f = 0 then 0 else 62 + nl f) 200 + sum0 (fun p => 27 + ps p) pc)))), H, 0, 0) := by
    refine RP.loop 4 (fun i => [(2, .int (nI (i + 1))), (1, .int (nI (sumF (fun f => if kd f = 0 then 0 else 62 + nl f) i))), (0, .ref 196)]) [] (fun _ => H) 0 0 200 (fun i hi kk => ?_) ?_
    · have hk_v := hk (i + 1) (by omega)
      have e : sumF (fun f => if kd f = 0 then 0 else 62 + nl f) (i + 1) = sumF (fun f => if kd f = 0 then 0 else 62 + nl f) i + (if kd (i + 1) = 0 then 0 else 62 + nl (i + 1)) := rfl
      refine RP.blk 2 (pc' := 8) (lv' := [(2, .int (nI (i + 1))), (1, .int (nI (sumF (fun f => if kd f = 0 then 0 else 62 + nl f) i))), (0, .ref 196)]) (st' := [.int 200, .int (nI (i + 1))]) (H' := _) (kc' := 0) (ks' := 0) rfl ?_
      refine RP.brF rfl rfl rfl (cF_gt (i + 1) 200) ?_
      refine RP.blk 2 (pc' := 13) (lv' := [(2, .int (nI (i + 1))), (1, .int (nI (sumF (fun f => if kd f = 0 then 0 else 62 + nl f) i))), (0, .ref 196)]) (st' := [.ref 196, .int (nI (sumF (fun f => if kd f = 0 then 0 else 62 + nl f) i))]) (H' := _) (kc' := 0) (ks' := 0) rfl ?_
      refine RP.get (ci := 12) rfl hm rfl rfl ?_
      refine RP.blk 1 (pc' := 17) (lv' := [(2, .int (nI (i + 1))), (1, .int (nI (sumF (fun f => if kd f = 0 then 0 else 62 + nl f) i))), (0, .ref 196)]) (st' := [.int (nI (i + 1)), .ref 214, .int (nI (sumF (fun f => if kd f = 0 then 0 else 62 + nl f) i))]) (H' := _) (kc' := 0) (ks' := 0) rfl ?_
      refine RP.ialdN (j := i + 1) rfl h.1 (by omega) (by decide) ?_
      by_cases hf : kd (i + 1) = 0
      · rw [if_pos hf] at e
        rw [e] at kk
        refine RP.brF rfl rfl rfl (cF_ne (kd (i + 1)) 0) ?_
        refine RP.blk 3 (pc' := 35) (lv' := [(2, .int (nI (i + 1))), (1, .int (nI (sumF (fun f => if kd f = 0 then 0 else 62 + nl f) i))), (0, .ref 196)]) (st' := [.int (nI (sumF (fun f => if kd f = 0 then 0 else 62 + nl f) i) + 0)]) (H' := _) (kc' := 0) (ks' := 0) rfl ?_
        rw [show (nI (sumF (fun f => if kd f = 0 then 0 else 62 + nl f) i) + 0 : Int32) = nI (sumF (fun f => if kd f = 0 then 0 else 62 + nl f) i + 0) from nI_add (sumF (fun f => if kd f = 0 then 0 else 62 + nl f) i) 0]
        refine RP.blk 2 (pc' := 39) (lv' := [(2, .int (nI (i + 1) + 1)), (1, .int (nI (sumF (fun f => if kd f = 0 then 0 else 62 + nl f) i + 0))), (0, .ref 196)]) (st' := []) (H' := _) (kc' := 0) (ks' := 0) rfl ?_
        rw [show (nI (i + 1) + 1 : Int32) = nI (i + 1 + 1) from nI_add (i + 1) 1]
        refine RP.blk 1 (pc' := 4) (lv' := [(2, .int (nI (i + 1 + 1))), (1, .int (nI (sumF (fun f => if kd f = 0 then 0 else 62 + nl f) i + 0))), (0, .ref 196)]) (st' := []) (H' := _) (kc' := 0) (ks' := 0) rfl ?_
        exact kk
      · rw [if_neg hf] at e
        rw [e] at kk
        refine RP.brT rfl rfl rfl (cT_ne (kd (i + 1)) 0) ?_
        refine RP.blk 2 (pc' := 28) (lv' := [(2, .int (nI (i + 1))), (1, .int (nI (sumF (fun f => if kd f = 0 then 0 else 62 + nl f) i))), (0, .ref 196)]) (st' := [.ref 196, .int 62, .int (nI (sumF (fun f => if kd f = 0 then 0 else 62 + nl f) i))]) (H' := _) (kc' := 0) (ks' := 0) rfl ?_
        refine RP.get (ci := 12) rfl hm rfl rfl ?_
        refine RP.blk 1 (pc' := 32) (lv' := [(2, .int (nI (i + 1))), (1, .int (nI (sumF (fun f => if kd f = 0 then 0 else 62 + nl f) i))), (0, .ref 196)]) (st' := [.int (nI (i + 1)), .ref 216, .int 62, .int (nI (sumF (fun f => if kd f = 0 then 0 else 62 + nl f) i))]) (H' := _) (kc' := 0) (ks' := 0) rfl ?_
        refine RP.ialdN (j := i + 1) rfl h.2.2.1 (by omega) (by decide) ?_
        refine RP.blk 1 (pc' := 34) (lv' := [(2, .int (nI (i + 1))), (1, .int (nI (sumF (fun f => if kd f = 0 then 0 else 62 + nl f) i))), (0, .ref 196)]) (st' := [.int (62 + nI (nl (i + 1))), .int (nI (sumF (fun f => if kd f = 0 then 0 else 62 + nl f) i))]) (H' := _) (kc' := 0) (ks' := 0) rfl ?_
        rw [show (62 + nI (nl (i + 1)) : Int32) = nI (62 + (nl (i + 1))) from nI_add 62 (nl (i + 1))]
        refine RP.blk 1 (pc' := 35) (lv' := [(2, .int (nI (i + 1))), (1, .int (nI (sumF (fun f => if kd f = 0 then 0 else 62 + nl f) i))), (0, .ref 196)]) (st' := [.int (nI (sumF (fun f => if kd f = 0 then 0 else 62 + nl f) i) + nI (62 + (nl (i + 1))))]) (H' := _) (kc' := 0) (ks' := 0) rfl ?_
        rw [show (nI (sumF (fun f => if kd f = 0 then 0 else 62 + nl f) i) + nI (62 + (nl (i + 1))) : Int32) = nI (sumF (fun f => if kd f = 0 then 0 else 62 + nl f) i + (62 + (nl (i + 1)))) from nI_add (sumF (fun f => if kd f = 0 then 0 else 62 + nl f) i) (62 + (nl (i + 1)))]
        refine RP.blk 2 (pc' := 39) (lv' := [(2, .int (nI (i + 1) + 1)), (1, .int (nI (sumF (fun f => if kd f = 0 then 0 else 62 + nl f) i + (62 + (nl (i + 1)))))), (0, .ref 196)]) (st' := []) (H' := _) (kc' := 0) (ks' := 0) rfl ?_
        rw [show (nI (i + 1) + 1 : Int32) = nI (i + 1 + 1) from nI_add (i + 1) 1]
        refine RP.blk 1 (pc' := 4) (lv' := [(2, .int (nI (i + 1 + 1))), (1, .int (nI (sumF (fun f => if kd f = 0 then 0 else 62 + nl f) i + (62 + (nl (i + 1)))))), (0, .ref 196)]) (st' := []) (H' := _) (kc' := 0) (ks' := 0) rfl ?_
        exact kk
    ·
      refine RP.blk 2 (pc' := 8) (lv' := [(2, .int (nI (200 + 1))), (1, .int (nI (sumF (fun f => if kd f = 0 then 0 else 62 + nl f) 200))), (0, .ref 196)]) (st' := [.int 200, .int (nI (200 + 1))]) (H' := _) (kc' := 0) (ks' := 0) rfl ?_
      refine RP.brT rfl rfl rfl (cT_gt (200 + 1) 200) ?_
      refine RP.blk 2 (pc' := 44) (lv' := [(2, .int 0), (1, .int (nI (sumF (fun f => if kd f = 0 then 0 else 62 + nl f) 200))), (0, .ref 196)]) (st' := []) (H' := _) (kc' := 0) (ks' := 0) rfl ?_
      rw [show sumF (fun f => if kd f = 0 then 0 else 62 + nl f) 200 + sum0 (fun p => 27 + ps p) 0 = sumF (fun f => if kd f = 0 then 0 else 62 + nl f) 200 from Nat.add_zero _] at two
      exact two
  exact start
