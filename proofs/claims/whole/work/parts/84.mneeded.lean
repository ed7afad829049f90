/-! ===== the reference: what is needed in all; written by wip/gen/mneed2.py ===== -/
/-- what the version v weighs -/
def wV (bf : Nat → Int8) (ko kn : Nat → Nat) (vz : Nat → Option Nat) (vm : Nat → Nat) (n p : Nat) (op : Nat → Bool) (se : Nat → Nat) (x : Int32) (v : Nat) : Nat := mwg (stB' bf ko kn vm n v p || opA op x (fun t => stB' bf ko kn vm n v (se t)) 8) (opA op x (fun t => decide (se t < vm v)) 8) (kn v) (vz v)
theorem rc_mneeded {sc : Nat × (Nat → Int32)} {p : Nat} {d : Nat} {H : aH} {bf : Nat → Int8} {ko kn vo : Nat → Nat} {vz : Nat → Option Nat} {vm : Nat → Nat} {n : Nat} {fa li dn cw cl tp rs us hu : Int32} {ba bo : Nat} {op : Nat → Bool} {se : Nat → Nat} {x : Int32} {pc : Nat} {kd pa sz nl ps : Nat → Nat} {nm : Nat → Int8} (hm : H[195]? = some (kO 12 (mfs fa li dn cw cl tp rs (nI p) (nI n) us (nI pc) hu ba bo))) (h : MVAt H ba bf ko kn vo vz vm) (hk : MVOk ko kn vo vz vm n) (h5 : H[205]? = some (kZ 8 op)) (h6 : H[206]? = some (kI 8 (fun j => nI (se j)))) (hse : ∀ t, t < 8 → se t < 2 ^ 31) (hT : MTreeAt H kd pa sz nl nm) (hkT : TreeOk kd pa sz nl) (hps : H[220]? = some (kI 1300 (fun j => nI (ps j)))) (hpc : pc ≤ 1300) (hp : p < 2 ^ 31) : RC sc (d + 3) mr_277 [.ref 196, .int x] H (.inl (some (.int (nI ((sumF (fun f => if kd f = 0 then 0 else 62 + nl f) 200 + sum0 (fun p => 27 + ps p) pc) + sum0 (wV bf ko kn vz vm n p op se x) n))))) H 0 0 := by
  have hn := hk.1
  have hft := rc_filesTake (sc := sc) (d := d + 2) hm hT hkT hps hpc
  generalize (sumF (fun f => if kd f = 0 then 0 else 62 + nl f) 200 + sum0 (fun p => 27 + ps p) pc) = ft at hft ⊢
  refine RP.blk 1 (pc' := 1) (lv' := [(0, .ref 196), (1, .int x)]) (st' := [.ref 196]) (H' := _) (kc' := 0) (ks' := 0) rfl ?_
  refine RP.call (v := some (.int (nI ft))) (st' := []) rfl rfl rfl rfl rfl rfl (args_v [] [] rfl rfl (Nat.le_of_ble_eq_true rfl) rfl hm (Nat.le_of_ble_eq_true rfl)) hft ?_
  refine RP.blk 3 (pc' := 7) (lv' := [(3, .int 0), (2, .int (nI ft)), (0, .ref 196), (1, .int x)]) (st' := []) (H' := _) (kc' := 0) (ks' := 0) rfl ?_
  have start : RP sc (d + 3) mr_277 7 [(3, .int (nI 0)), (2, .int (nI (ft + sum0 (wV bf ko kn vz vm n p op se x) 0))), (0, .ref 196), (1, .int x)] [] H 0 0 (.inl (some (.int (nI (ft + sum0 (wV bf ko kn vz vm n p op se x) n)))), H, 0, 0) := by
    refine RP.loop 7 (fun v => [(3, .int (nI v)), (2, .int (nI (ft + sum0 (wV bf ko kn vz vm n p op se x) v))), (0, .ref 196), (1, .int x)]) [] (fun _ => H) 0 0 n (fun v hv kk => ?_) ?_
    ·
      refine RP.blk 2 (pc' := 9) (lv' := [(3, .int (nI v)), (2, .int (nI (ft + sum0 (wV bf ko kn vz vm n p op se x) v))), (0, .ref 196), (1, .int x)]) (st' := [.ref 196, .int (nI v)]) (H' := _) (kc' := 0) (ks' := 0) rfl ?_
      refine RP.get (ci := 12) rfl hm rfl rfl ?_
      refine RP.brF rfl rfl rfl (cF_ge v n) ?_
      refine RP.blk 4 (pc' := 19) (lv' := [(3, .int (nI v)), (2, .int (nI (ft + sum0 (wV bf ko kn vz vm n p op se x) v))), (0, .ref 196), (1, .int x)]) (st' := [.int x, .int (nI v), .ref 196, .int (nI (ft + sum0 (wV bf ko kn vz vm n p op se x) v))]) (H' := _) (kc' := 0) (ks' := 0) rfl ?_
      refine RP.call (v := some (.int (nI (wV bf ko kn vz vm n p op se x v)))) (st' := [.int (nI (ft + sum0 (wV bf ko kn vz vm n p op se x) v))]) rfl rfl rfl rfl rfl rfl (args_v [.int x, .int (nI v)] [.int (nI (ft + sum0 (wV bf ko kn vz vm n p op se x) v))] rfl rfl (Nat.le_of_ble_eq_true rfl) rfl hm (Nat.le_of_ble_eq_true rfl)) (rc_mweight hm h hk h5 h6 hse hv hp) ?_
      refine RP.blk 1 (pc' := 23) (lv' := [(3, .int (nI v)), (2, .int (nI (ft + sum0 (wV bf ko kn vz vm n p op se x) v))), (0, .ref 196), (1, .int x)]) (st' := [.int (nI (ft + sum0 (wV bf ko kn vz vm n p op se x) v) + nI (wV bf ko kn vz vm n p op se x v))]) (H' := _) (kc' := 0) (ks' := 0) rfl ?_
      rw [show (nI (ft + sum0 (wV bf ko kn vz vm n p op se x) v) + nI (wV bf ko kn vz vm n p op se x v) : Int32) = nI (ft + sum0 (wV bf ko kn vz vm n p op se x) v + (wV bf ko kn vz vm n p op se x v)) from nI_add (ft + sum0 (wV bf ko kn vz vm n p op se x) v) (wV bf ko kn vz vm n p op se x v)]
      refine RP.blk 2 (pc' := 27) (lv' := [(3, .int (nI v + 1)), (2, .int (nI (ft + sum0 (wV bf ko kn vz vm n p op se x) v + (wV bf ko kn vz vm n p op se x v)))), (0, .ref 196), (1, .int x)]) (st' := []) (H' := _) (kc' := 0) (ks' := 0) rfl ?_
      rw [show (nI v + 1 : Int32) = nI (v + 1) from nI_add v 1]
      refine RP.blk 1 (pc' := 7) (lv' := [(3, .int (nI (v + 1))), (2, .int (nI (ft + sum0 (wV bf ko kn vz vm n p op se x) v + (wV bf ko kn vz vm n p op se x v)))), (0, .ref 196), (1, .int x)]) (st' := []) (H' := _) (kc' := 0) (ks' := 0) rfl ?_
      rw [Nat.add_assoc ft]
      exact kk
    ·
      refine RP.blk 2 (pc' := 9) (lv' := [(3, .int (nI n)), (2, .int (nI (ft + sum0 (wV bf ko kn vz vm n p op se x) n))), (0, .ref 196), (1, .int x)]) (st' := [.ref 196, .int (nI n)]) (H' := _) (kc' := 0) (ks' := 0) rfl ?_
      refine RP.get (ci := 12) rfl hm rfl rfl ?_
      refine RP.brT rfl rfl rfl (cT_ge n n) ?_
      refine RP.blk 1 (pc' := 31) (lv' := [(3, .int (nI n)), (2, .int (nI (ft + sum0 (wV bf ko kn vz vm n p op se x) n))), (0, .ref 196), (1, .int x)]) (st' := [.int (nI (ft + sum0 (wV bf ko kn vz vm n p op se x) n))]) (H' := _) (kc' := 0) (ks' := 0) rfl ?_
      exact RP.done (c := 0) (s := 0) rfl rfl rfl rfl
  exact start
