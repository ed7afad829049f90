/-! ===== about of the reference, every end; written by wip/gen/refi13.py ===== -/
/-- how many pieces a file has -/
def cntP (f : Nat) (ps : List aPc) : Nat := (ps.map (fun x => if x.1 = f then 1 else 0)).sum
theorem cntP_step {f n : Nat} {ps : List aPc} {x : aPc} (h : ps[n]? = some x) : cntP f (ps.take (n + 1)) = cntP f (ps.take n) + (if x.1 = f then 1 else 0) := by
  rw [List.take_add_one, h]
  unfold cntP
  rw [List.map_append, List.sum_append]
  show _ + ((if x.1 = f then 1 else 0) + 0) = _
  omega
theorem rq_mcnt {sc : Nat × (Nat → Int32)} {d v : Nat} {w : Int32} {H : aH} {fa li dn cw cl tp rs pr ve us : Int32} {ba bo : Nat} {ps : List aPc} {Q : _ → Prop} (hm : H[195]? = some (kO 12 (mfs fa li dn cw cl tp rs pr ve us (nI ps.length) (nI (plen ps)) ba bo))) (hP : PcsIs H ps) (hpi : ps.length ≤ 1300) (hok : ∀ x ∈ ps, PcOk x) (hv : v ≤ 200) (K : RQ sc d mr_330 93 [(4, .int (nI ps.length)), (3, .int (nI (cntP v ps))), (0, .ref 196), (1, .int (nI v)), (2, .int w)] [] H 0 0 Q) : RQ sc d mr_330 64 [(4, .int 0), (3, .int 0), (0, .ref 196), (1, .int (nI v)), (2, .int w)] [] H 0 0 Q := by
  obtain ⟨pf, px, pz, pa, hd, hA, hE, hD⟩ := hP
  refine RQ.while (S := Nat) (pc := 64) (fun i H' => i ≤ ps.length ∧ H' = H) (fun i => [(4, .int (nI i)), (3, .int (nI (cntP v (ps.take i)))), (0, .ref 196), (1, .int (nI v)), (2, .int w)]) (fun i => ps.length - i) ?_ 0 H ⟨Nat.zero_le _, rfl⟩
  rintro i H1 ⟨hi, eH⟩ ih
  rw [eH]
  by_cases hil : i < ps.length
  ·
    obtain ⟨x, hx⟩ := lt_get hil
    have e1 := (hE i x hx).1
    have o1 := (hok x (List.mem_of_getElem? hx)).1
    have hst := cntP_step (f := v) hx
    refine RQ.blk 2 (pc' := 67) (lv' := [(4, .int (nI i)), (3, .int (nI (cntP v (ps.take i)))), (0, .ref 196), (1, .int (nI v)), (2, .int w)]) (st' := [.ref 196, .int (nI i)]) (H' := _) (kc' := 0) (ks' := 0) rfl ?_
    refine RQ.get (ci := 12) rfl hm rfl rfl ?_
    refine RQ.brF rfl rfl rfl (cF_ge i ps.length) ?_
    refine RQ.blk 1 (pc' := 74) (lv' := [(4, .int (nI i)), (3, .int (nI (cntP v (ps.take i)))), (0, .ref 196), (1, .int (nI v)), (2, .int w)]) (st' := [.ref 196]) (H' := _) (kc' := 0) (ks' := 0) rfl ?_
    refine RQ.get (ci := 12) rfl hm rfl rfl ?_
    refine RQ.blk 1 (pc' := 79) (lv' := [(4, .int (nI i)), (3, .int (nI (cntP v (ps.take i)))), (0, .ref 196), (1, .int (nI v)), (2, .int w)]) (st' := [.int (nI i), .ref 219]) (H' := _) (kc' := 0) (ks' := 0) rfl ?_
    refine RQ.ialdN (j := i) rfl hA.1 (by omega) (by decide) ?_
    rw [e1]
    refine RQ.blk 1 (pc' := 81) (lv' := [(4, .int (nI i)), (3, .int (nI (cntP v (ps.take i)))), (0, .ref 196), (1, .int (nI v)), (2, .int w)]) (st' := [.int (nI v), .int (nI x.1)]) (H' := _) (kc' := 0) (ks' := 0) rfl ?_
    by_cases kz : x.1 = v
    · refine RQ.brF rfl rfl rfl (cF_ne x.1 v) ?_
      rw [if_pos kz] at hst
      refine RQ.blk 1 (pc' := 87) (lv' := [(3, .int (nI (cntP v (ps.take i)) + 1)), (4, .int (nI i)), (0, .ref 196), (1, .int (nI v)), (2, .int w)]) (st' := []) (H' := _) (kc' := 0) (ks' := 0) rfl ?_
      rw [show (nI (cntP v (ps.take i)) + 1 : Int32) = nI ((cntP v (ps.take i)) + 1) from nI_add (cntP v (ps.take i)) 1]
      refine RQ.blk 1 (pc' := 90) (lv' := [(4, .int (nI i + 1)), (3, .int (nI ((cntP v (ps.take i)) + 1))), (0, .ref 196), (1, .int (nI v)), (2, .int w)]) (st' := []) (H' := _) (kc' := 0) (ks' := 0) rfl ?_
      rw [show (nI i + 1 : Int32) = nI (i + 1) from nI_add i 1]
      refine RQ.blk 1 (pc' := 64) (lv' := [(4, .int (nI (i + 1))), (3, .int (nI ((cntP v (ps.take i)) + 1))), (0, .ref 196), (1, .int (nI v)), (2, .int w)]) (st' := []) (H' := _) (kc' := 0) (ks' := 0) rfl ?_
      refine RQ.pick (a := [(4, .int (nI (i + 1))), (3, .int (nI ((cntP v (ps.take i)) + 1))), (0, .ref 196), (1, .int (nI v)), (2, .int w)]) [0, 1, 2, 3, 4] [4, 3, 0, 1, 2] rfl rfl (by decide) ?_
      rw [← hst]
      exact ih (i + 1) _ ⟨by omega, rfl⟩ (by omega)
    · refine RQ.brT rfl rfl rfl (cT_ne x.1 v) ?_
      rw [if_neg kz] at hst
      refine RQ.blk 1 (pc' := 90) (lv' := [(4, .int (nI i + 1)), (3, .int (nI (cntP v (ps.take i)))), (0, .ref 196), (1, .int (nI v)), (2, .int w)]) (st' := []) (H' := _) (kc' := 0) (ks' := 0) rfl ?_
      rw [show (nI i + 1 : Int32) = nI (i + 1) from nI_add i 1]
      refine RQ.blk 1 (pc' := 64) (lv' := [(4, .int (nI (i + 1))), (3, .int (nI (cntP v (ps.take i)))), (0, .ref 196), (1, .int (nI v)), (2, .int w)]) (st' := []) (H' := _) (kc' := 0) (ks' := 0) rfl ?_
      refine RQ.pick (a := [(4, .int (nI (i + 1))), (3, .int (nI (cntP v (ps.take i)))), (0, .ref 196), (1, .int (nI v)), (2, .int w)]) [0, 1, 2, 3, 4] [4, 3, 0, 1, 2] rfl rfl (by decide) ?_
      have hst2 : cntP v (ps.take (i + 1)) = cntP v (ps.take i) := hst
      rw [← hst2]
      exact ih (i + 1) _ ⟨by omega, rfl⟩ (by omega)
  ·
    refine RQ.blk 2 (pc' := 67) (lv' := [(4, .int (nI i)), (3, .int (nI (cntP v (ps.take i)))), (0, .ref 196), (1, .int (nI v)), (2, .int w)]) (st' := [.ref 196, .int (nI i)]) (H' := _) (kc' := 0) (ks' := 0) rfl ?_
    refine RQ.get (ci := 12) rfl hm rfl rfl ?_
    refine RQ.brT rfl rfl rfl (cT_ge i ps.length) ?_
    rw [show i = ps.length by omega, List.take_of_length_le (Nat.le_refl _)]
    exact K
set_option maxRecDepth 20000 in
theorem ri_mabout_down {sc : Nat × (Nat → Int32)} {d l : Nat} {H : aH} {fa cw cl rs : Int32} {li : Nat} {tb : Nat → Int8} {g0 : Nat → Int8} {p : Nat} {ms : List aMV} {op : Nat → Bool} {se : Nat → Nat} {wss : Nat → List aE} {kd pa sz nl : Nat → Nat} {nm : Nat → Int8} {ps : List aPc} {v w : Nat} (h : RefI H fa li 1 cw cl tb l rs g0 p ms op se wss kd pa sz nl nm ps) (hk : RefOk l p ms se kd pa sz nl ps) (hv : v ≤ 200) (hw : w ≤ 3) : RI sc (d + 5) mr_330 [.ref 196, .int (nI v), .int (nI w)] H (fun x H' => x = 0 ∧ RefI H' 2 li 1 cw cl tb l rs g0 p ms op se wss kd pa sz nl nm ps ∧ ∀ a, ¬ (195 ≤ a ∧ a < 224) → H'[a]? = H[a]?) := by
  obtain ⟨us, ba, bo, hm, hV, h5, h6, hR, hT, hP, h196, h197⟩ := h
  obtain ⟨k1, k2, k3, k4, k5, k6, k7, k8⟩ := hk
  refine RI.of ?_
  refine RQ.blk 2 (pc' := 2) (lv' := [(0, .ref 196), (1, .int (nI v)), (2, .int (nI w))]) (st' := [.int 0, .ref 196]) (H' := _) (kc' := 0) (ks' := 0) rfl ?_
  refine RQ.put (ci := 12) rfl hm rfl rfl (Nat.le_of_ble_eq_true rfl) ?_
  have hm1 : (H.set 195 (kO 12 (mfs 0 (nI li) 1 cw cl (nI l) rs (nI p) (nI ms.length) (nI us) (nI ps.length) (nI (plen ps)) ba bo)))[195]? = some (kO 12 (mfs 0 (nI li) 1 cw cl (nI l) rs (nI p) (nI ms.length) (nI us) (nI ps.length) (nI (plen ps)) ba bo)) := get_set hm
  have f1 : ∀ a, a ≠ 195 → (H.set 195 (kO 12 (mfs 0 (nI li) 1 cw cl (nI l) rs (nI p) (nI ms.length) (nI us) (nI ps.length) (nI (plen ps)) ba bo)))[a]? = H[a]? := fun a ha => set_far ha
  show RQ _ _ _ 5 [(0, .ref 196), (1, .int (nI v)), (2, .int (nI w))] [] (H.set 195 (kO 12 (mfs 0 (nI li) 1 cw cl (nI l) rs (nI p) (nI ms.length) (nI us) (nI ps.length) (nI (plen ps)) ba bo))) 0 0 _
  generalize (H.set 195 (kO 12 (mfs 0 (nI li) 1 cw cl (nI l) rs (nI p) (nI ms.length) (nI us) (nI ps.length) (nI (plen ps)) ba bo))) = H1 at hm1 f1 ⊢
  have hV1 := hV.far (fun a a1 a2 => f1 a (by omega)) (f1 223 (by decide))
  have h51 := (f1 205 (by decide)).trans h5
  have h61 := (f1 206 (by decide)).trans h6
  have hR1 := hR.far (fun a a1 => f1 a (by omega))
  have hT1 := hT.far (fun a a1 a2 => f1 a (by omega))
  have hP1 := hP.far (fun a a1 a2 => f1 a (by omega))
  have h1961 := (f1 196 (by decide)).trans h196
  have h1971 := (f1 197 (by decide)).trans h197
  have hkv := k5 v hv
  refine RQ.blk 3 (pc' := 10) (lv' := [(0, .ref 196), (1, .int (nI v)), (2, .int (nI w))]) (st' := [.int 201, .int (nI v), .ref 196]) (H' := _) (kc' := 0) (ks' := 0) rfl ?_
  refine RQ.call (v := some (.int 0)) (st' := []) rfl rfl rfl rfl rfl rfl (args_v [.int 201, .int (nI v)] [] rfl rfl (Nat.le_of_ble_eq_true rfl) rfl hm1 (Nat.le_of_ble_eq_true rfl)) (rc_out (v := v) (m := 201) (by omega) (by decide)) ?_
  refine RQ.brF rfl rfl rfl (by decide) ?_
  refine RQ.blk 3 (pc' := 19) (lv' := [(0, .ref 196), (1, .int (nI v)), (2, .int (nI w))]) (st' := [.int 4, .int (nI w), .ref 196]) (H' := _) (kc' := 0) (ks' := 0) rfl ?_
  refine RQ.call (v := some (.int 0)) (st' := []) rfl rfl rfl rfl rfl rfl (args_v [.int 4, .int (nI w)] [] rfl rfl (Nat.le_of_ble_eq_true rfl) rfl hm1 (Nat.le_of_ble_eq_true rfl)) (rc_out (v := w) (m := 4) (by omega) (by decide)) ?_
  refine RQ.brT rfl rfl rfl (by decide) ?_
  refine RQ.blk 1 (pc' := 32) (lv' := [(0, .ref 196), (1, .int (nI v)), (2, .int (nI w))]) (st' := [.ref 196]) (H' := _) (kc' := 0) (ks' := 0) rfl ?_
  refine RQ.get (ci := 12) rfl hm1 rfl rfl ?_
  refine RQ.brF rfl rfl rfl (by decide) ?_
  refine RQ.blk 2 (pc' := 40) (lv' := [(0, .ref 196), (1, .int (nI v)), (2, .int (nI w))]) (st' := [.int 2, .ref 196]) (H' := _) (kc' := 0) (ks' := 0) rfl ?_
  refine RQ.call (v := some (.int 0)) (st' := []) rfl rfl rfl rfl rfl rfl (args_v [.int 2] [] rfl rfl (Nat.le_of_ble_eq_true rfl) rfl hm1 (Nat.le_of_ble_eq_true rfl)) (rc_mfail hm1 rfl) ?_
  exact RQ.done (c := 0) (s := 0) rfl rfl rfl rfl ⟨_, _, rfl, rfl, ⟨us, ba, bo, get_set hm1, hV1.far (fun a a1 a2 => set_far (by omega)) (set_far (by decide)), (set_far (by decide)).trans h51, (set_far (by decide)).trans h61, hR1.far (fun a a1 => set_far (by omega)), hT1.far (fun a a1 a2 => set_far (by omega)), hP1.far (fun a a1 a2 => set_far (by omega)), (set_far (by decide)).trans h1961, (set_far (by decide)).trans h1971⟩, fun a ha => (set_far (by omega)).trans (f1 a (by omega))⟩
set_option maxRecDepth 20000 in
theorem ri_mabout_no {sc : Nat × (Nat → Int32)} {d l : Nat} {H : aH} {fa cw cl rs : Int32} {li : Nat} {tb : Nat → Int8} {g0 : Nat → Int8} {p : Nat} {ms : List aMV} {op : Nat → Bool} {se : Nat → Nat} {wss : Nat → List aE} {kd pa sz nl : Nat → Nat} {nm : Nat → Int8} {ps : List aPc} {v w : Nat} (h : RefI H fa li 0 cw cl tb l rs g0 p ms op se wss kd pa sz nl nm ps) (hk : RefOk l p ms se kd pa sz nl ps) (hv : v ≤ 200) (hw : w ≤ 3) (hkd : kd v = 0) : RI sc (d + 5) mr_330 [.ref 196, .int (nI v), .int (nI w)] H (fun x H' => x = 0 ∧ RefI H' 3 li 0 cw cl tb l rs g0 p ms op se wss kd pa sz nl nm ps ∧ ∀ a, ¬ (195 ≤ a ∧ a < 224) → H'[a]? = H[a]?) := by
  obtain ⟨us, ba, bo, hm, hV, h5, h6, hR, hT, hP, h196, h197⟩ := h
  obtain ⟨k1, k2, k3, k4, k5, k6, k7, k8⟩ := hk
  refine RI.of ?_
  refine RQ.blk 2 (pc' := 2) (lv' := [(0, .ref 196), (1, .int (nI v)), (2, .int (nI w))]) (st' := [.int 0, .ref 196]) (H' := _) (kc' := 0) (ks' := 0) rfl ?_
  refine RQ.put (ci := 12) rfl hm rfl rfl (Nat.le_of_ble_eq_true rfl) ?_
  have hm1 : (H.set 195 (kO 12 (mfs 0 (nI li) 0 cw cl (nI l) rs (nI p) (nI ms.length) (nI us) (nI ps.length) (nI (plen ps)) ba bo)))[195]? = some (kO 12 (mfs 0 (nI li) 0 cw cl (nI l) rs (nI p) (nI ms.length) (nI us) (nI ps.length) (nI (plen ps)) ba bo)) := get_set hm
  have f1 : ∀ a, a ≠ 195 → (H.set 195 (kO 12 (mfs 0 (nI li) 0 cw cl (nI l) rs (nI p) (nI ms.length) (nI us) (nI ps.length) (nI (plen ps)) ba bo)))[a]? = H[a]? := fun a ha => set_far ha
  show RQ _ _ _ 5 [(0, .ref 196), (1, .int (nI v)), (2, .int (nI w))] [] (H.set 195 (kO 12 (mfs 0 (nI li) 0 cw cl (nI l) rs (nI p) (nI ms.length) (nI us) (nI ps.length) (nI (plen ps)) ba bo))) 0 0 _
  generalize (H.set 195 (kO 12 (mfs 0 (nI li) 0 cw cl (nI l) rs (nI p) (nI ms.length) (nI us) (nI ps.length) (nI (plen ps)) ba bo))) = H1 at hm1 f1 ⊢
  have hV1 := hV.far (fun a a1 a2 => f1 a (by omega)) (f1 223 (by decide))
  have h51 := (f1 205 (by decide)).trans h5
  have h61 := (f1 206 (by decide)).trans h6
  have hR1 := hR.far (fun a a1 => f1 a (by omega))
  have hT1 := hT.far (fun a a1 a2 => f1 a (by omega))
  have hP1 := hP.far (fun a a1 a2 => f1 a (by omega))
  have h1961 := (f1 196 (by decide)).trans h196
  have h1971 := (f1 197 (by decide)).trans h197
  have hkv := k5 v hv
  refine RQ.blk 3 (pc' := 10) (lv' := [(0, .ref 196), (1, .int (nI v)), (2, .int (nI w))]) (st' := [.int 201, .int (nI v), .ref 196]) (H' := _) (kc' := 0) (ks' := 0) rfl ?_
  refine RQ.call (v := some (.int 0)) (st' := []) rfl rfl rfl rfl rfl rfl (args_v [.int 201, .int (nI v)] [] rfl rfl (Nat.le_of_ble_eq_true rfl) rfl hm1 (Nat.le_of_ble_eq_true rfl)) (rc_out (v := v) (m := 201) (by omega) (by decide)) ?_
  refine RQ.brF rfl rfl rfl (by decide) ?_
  refine RQ.blk 3 (pc' := 19) (lv' := [(0, .ref 196), (1, .int (nI v)), (2, .int (nI w))]) (st' := [.int 4, .int (nI w), .ref 196]) (H' := _) (kc' := 0) (ks' := 0) rfl ?_
  refine RQ.call (v := some (.int 0)) (st' := []) rfl rfl rfl rfl rfl rfl (args_v [.int 4, .int (nI w)] [] rfl rfl (Nat.le_of_ble_eq_true rfl) rfl hm1 (Nat.le_of_ble_eq_true rfl)) (rc_out (v := w) (m := 4) (by omega) (by decide)) ?_
  refine RQ.brT rfl rfl rfl (by decide) ?_
  refine RQ.blk 1 (pc' := 32) (lv' := [(0, .ref 196), (1, .int (nI v)), (2, .int (nI w))]) (st' := [.ref 196]) (H' := _) (kc' := 0) (ks' := 0) rfl ?_
  refine RQ.get (ci := 12) rfl hm1 rfl rfl ?_
  refine RQ.brT rfl rfl rfl (by decide) ?_
  refine RQ.blk 1 (pc' := 45) (lv' := [(0, .ref 196), (1, .int (nI v)), (2, .int (nI w))]) (st' := [.ref 196]) (H' := _) (kc' := 0) (ks' := 0) rfl ?_
  refine RQ.get (ci := 12) rfl hm1 rfl rfl ?_
  refine RQ.blk 1 (pc' := 49) (lv' := [(0, .ref 196), (1, .int (nI v)), (2, .int (nI w))]) (st' := [.int (nI v), .ref 214]) (H' := _) (kc' := 0) (ks' := 0) rfl ?_
  refine RQ.ialdN (j := v) rfl hT1.1 (by omega) (by decide) ?_
  rw [hkd]
  refine RQ.brF rfl rfl rfl (cF_ne 0 0) ?_
  refine RQ.blk 2 (pc' := 55) (lv' := [(0, .ref 196), (1, .int (nI v)), (2, .int (nI w))]) (st' := [.int 3, .ref 196]) (H' := _) (kc' := 0) (ks' := 0) rfl ?_
  refine RQ.call (v := some (.int 0)) (st' := []) rfl rfl rfl rfl rfl rfl (args_v [.int 3] [] rfl rfl (Nat.le_of_ble_eq_true rfl) rfl hm1 (Nat.le_of_ble_eq_true rfl)) (rc_mfail hm1 rfl) ?_
  exact RQ.done (c := 0) (s := 0) rfl rfl rfl rfl ⟨_, _, rfl, rfl, ⟨us, ba, bo, get_set hm1, hV1.far (fun a a1 a2 => set_far (by omega)) (set_far (by decide)), (set_far (by decide)).trans h51, (set_far (by decide)).trans h61, hR1.far (fun a a1 => set_far (by omega)), hT1.far (fun a a1 a2 => set_far (by omega)), hP1.far (fun a a1 a2 => set_far (by omega)), (set_far (by decide)).trans h1961, (set_far (by decide)).trans h1971⟩, fun a ha => (set_far (by omega)).trans (f1 a (by omega))⟩
set_option maxRecDepth 20000 in
theorem ri_mabout0_ok {sc : Nat × (Nat → Int32)} {d l : Nat} {H : aH} {fa cw cl rs : Int32} {li : Nat} {tb : Nat → Int8} {g0 : Nat → Int8} {p : Nat} {ms : List aMV} {op : Nat → Bool} {se : Nat → Nat} {wss : Nat → List aE} {kd pa sz nl : Nat → Nat} {nm : Nat → Int8} {ps : List aPc} {v : Nat} (h : RefI H fa li 0 cw cl tb l rs g0 p ms op se wss kd pa sz nl nm ps) (hk : RefOk l p ms se kd pa sz nl ps) (hv : v ≤ 200) (hkd : ¬ kd v = 0) : RI sc (d + 5) mr_330 [.ref 196, .int (nI v), .int 0] H (fun x H' => x = nI (kd v) ∧ RefI H' 0 li 0 cw cl tb l rs g0 p ms op se wss kd pa sz nl nm ps ∧ ∀ a, ¬ (195 ≤ a ∧ a < 224) → H'[a]? = H[a]?) := by
  obtain ⟨us, ba, bo, hm, hV, h5, h6, hR, hT, hP, h196, h197⟩ := h
  obtain ⟨k1, k2, k3, k4, k5, k6, k7, k8⟩ := hk
  refine RI.of ?_
  refine RQ.blk 2 (pc' := 2) (lv' := [(0, .ref 196), (1, .int (nI v)), (2, .int 0)]) (st' := [.int 0, .ref 196]) (H' := _) (kc' := 0) (ks' := 0) rfl ?_
  refine RQ.put (ci := 12) rfl hm rfl rfl (Nat.le_of_ble_eq_true rfl) ?_
  have hm1 : (H.set 195 (kO 12 (mfs 0 (nI li) 0 cw cl (nI l) rs (nI p) (nI ms.length) (nI us) (nI ps.length) (nI (plen ps)) ba bo)))[195]? = some (kO 12 (mfs 0 (nI li) 0 cw cl (nI l) rs (nI p) (nI ms.length) (nI us) (nI ps.length) (nI (plen ps)) ba bo)) := get_set hm
  have f1 : ∀ a, a ≠ 195 → (H.set 195 (kO 12 (mfs 0 (nI li) 0 cw cl (nI l) rs (nI p) (nI ms.length) (nI us) (nI ps.length) (nI (plen ps)) ba bo)))[a]? = H[a]? := fun a ha => set_far ha
  show RQ _ _ _ 5 [(0, .ref 196), (1, .int (nI v)), (2, .int 0)] [] (H.set 195 (kO 12 (mfs 0 (nI li) 0 cw cl (nI l) rs (nI p) (nI ms.length) (nI us) (nI ps.length) (nI (plen ps)) ba bo))) 0 0 _
  generalize (H.set 195 (kO 12 (mfs 0 (nI li) 0 cw cl (nI l) rs (nI p) (nI ms.length) (nI us) (nI ps.length) (nI (plen ps)) ba bo))) = H1 at hm1 f1 ⊢
  have hV1 := hV.far (fun a a1 a2 => f1 a (by omega)) (f1 223 (by decide))
  have h51 := (f1 205 (by decide)).trans h5
  have h61 := (f1 206 (by decide)).trans h6
  have hR1 := hR.far (fun a a1 => f1 a (by omega))
  have hT1 := hT.far (fun a a1 a2 => f1 a (by omega))
  have hP1 := hP.far (fun a a1 a2 => f1 a (by omega))
  have h1961 := (f1 196 (by decide)).trans h196
  have h1971 := (f1 197 (by decide)).trans h197
  have hkv := k5 v hv
  refine RQ.blk 3 (pc' := 10) (lv' := [(0, .ref 196), (1, .int (nI v)), (2, .int 0)]) (st' := [.int 201, .int (nI v), .ref 196]) (H' := _) (kc' := 0) (ks' := 0) rfl ?_
  refine RQ.call (v := some (.int 0)) (st' := []) rfl rfl rfl rfl rfl rfl (args_v [.int 201, .int (nI v)] [] rfl rfl (Nat.le_of_ble_eq_true rfl) rfl hm1 (Nat.le_of_ble_eq_true rfl)) (rc_out (v := v) (m := 201) (by omega) (by decide)) ?_
  refine RQ.brF rfl rfl rfl (by decide) ?_
  refine RQ.blk 3 (pc' := 19) (lv' := [(0, .ref 196), (1, .int (nI v)), (2, .int 0)]) (st' := [.int 4, .int 0, .ref 196]) (H' := _) (kc' := 0) (ks' := 0) rfl ?_
  refine RQ.call (v := some (.int 0)) (st' := []) rfl rfl rfl rfl rfl rfl (args_v [.int 4, .int 0] [] rfl rfl (Nat.le_of_ble_eq_true rfl) rfl hm1 (Nat.le_of_ble_eq_true rfl)) (rc_out (v := 0) (m := 4) (by omega) (by decide)) ?_
  refine RQ.brT rfl rfl rfl (by decide) ?_
  refine RQ.blk 1 (pc' := 32) (lv' := [(0, .ref 196), (1, .int (nI v)), (2, .int 0)]) (st' := [.ref 196]) (H' := _) (kc' := 0) (ks' := 0) rfl ?_
  refine RQ.get (ci := 12) rfl hm1 rfl rfl ?_
  refine RQ.brT rfl rfl rfl (by decide) ?_
  refine RQ.blk 1 (pc' := 45) (lv' := [(0, .ref 196), (1, .int (nI v)), (2, .int 0)]) (st' := [.ref 196]) (H' := _) (kc' := 0) (ks' := 0) rfl ?_
  refine RQ.get (ci := 12) rfl hm1 rfl rfl ?_
  refine RQ.blk 1 (pc' := 49) (lv' := [(0, .ref 196), (1, .int (nI v)), (2, .int 0)]) (st' := [.int (nI v), .ref 214]) (H' := _) (kc' := 0) (ks' := 0) rfl ?_
  refine RQ.ialdN (j := v) rfl hT1.1 (by omega) (by decide) ?_
  refine RQ.brT rfl rfl rfl (cT_ne (kd v) 0) ?_
  refine RQ.blk 4 (pc' := 64) (lv' := [(4, .int 0), (3, .int 0), (0, .ref 196), (1, .int (nI v)), (2, .int 0)]) (st' := []) (H' := _) (kc' := 0) (ks' := 0) rfl ?_
  refine RQ.pick (a := [(4, .int 0), (3, .int 0), (0, .ref 196), (1, .int (nI v)), (2, .int 0)]) [0, 1, 2, 3, 4] [4, 3, 0, 1, 2] rfl rfl (by decide) ?_
  refine rq_mcnt hm1 hP1 k6 k8 hv ?_
  refine RQ.blk 2 (pc' := 120) (lv' := [(4, .int (nI ps.length)), (3, .int (nI (cntP v ps))), (0, .ref 196), (1, .int (nI v)), (2, .int 0)]) (st' := []) (H' := _) (kc' := 0) (ks' := 0) rfl ?_
  refine RQ.blk 1 (pc' := 121) (lv' := [(4, .int (nI ps.length)), (3, .int (nI (cntP v ps))), (0, .ref 196), (1, .int (nI v)), (2, .int 0)]) (st' := [.ref 196]) (H' := _) (kc' := 0) (ks' := 0) rfl ?_
  refine RQ.get (ci := 12) rfl hm1 rfl rfl ?_
  refine RQ.blk 1 (pc' := 125) (lv' := [(4, .int (nI ps.length)), (3, .int (nI (cntP v ps))), (0, .ref 196), (1, .int (nI v)), (2, .int 0)]) (st' := [.int (nI v), .ref 214]) (H' := _) (kc' := 0) (ks' := 0) rfl ?_
  refine RQ.ialdN (j := v) rfl hT1.1 (by omega) (by decide) ?_
  exact RQ.done (c := 0) (s := 0) rfl rfl rfl rfl ⟨_, _, rfl, rfl, ⟨us, ba, bo, hm1, hV1, h51, h61, hR1, hT1, hP1, h1961, h1971⟩, fun a ha => f1 a (by omega)⟩
set_option maxRecDepth 20000 in
theorem ri_mabout1_ok {sc : Nat × (Nat → Int32)} {d l : Nat} {H : aH} {fa cw cl rs : Int32} {li : Nat} {tb : Nat → Int8} {g0 : Nat → Int8} {p : Nat} {ms : List aMV} {op : Nat → Bool} {se : Nat → Nat} {wss : Nat → List aE} {kd pa sz nl : Nat → Nat} {nm : Nat → Int8} {ps : List aPc} {v : Nat} (h : RefI H fa li 0 cw cl tb l rs g0 p ms op se wss kd pa sz nl nm ps) (hk : RefOk l p ms se kd pa sz nl ps) (hv : v ≤ 200) (hkd : ¬ kd v = 0) : RI sc (d + 5) mr_330 [.ref 196, .int (nI v), .int 1] H (fun x H' => x = (if kd v = 2 then nI (sumF (fun w => if inD kd pa v w then 1 else 0) 200) else nI (sz v)) ∧ RefI H' 0 li 0 cw cl tb l rs g0 p ms op se wss kd pa sz nl nm ps ∧ ∀ a, ¬ (195 ≤ a ∧ a < 224) → H'[a]? = H[a]?) := by
  obtain ⟨us, ba, bo, hm, hV, h5, h6, hR, hT, hP, h196, h197⟩ := h
  obtain ⟨k1, k2, k3, k4, k5, k6, k7, k8⟩ := hk
  refine RI.of ?_
  refine RQ.blk 2 (pc' := 2) (lv' := [(0, .ref 196), (1, .int (nI v)), (2, .int 1)]) (st' := [.int 0, .ref 196]) (H' := _) (kc' := 0) (ks' := 0) rfl ?_
  refine RQ.put (ci := 12) rfl hm rfl rfl (Nat.le_of_ble_eq_true rfl) ?_
  have hm1 : (H.set 195 (kO 12 (mfs 0 (nI li) 0 cw cl (nI l) rs (nI p) (nI ms.length) (nI us) (nI ps.length) (nI (plen ps)) ba bo)))[195]? = some (kO 12 (mfs 0 (nI li) 0 cw cl (nI l) rs (nI p) (nI ms.length) (nI us) (nI ps.length) (nI (plen ps)) ba bo)) := get_set hm
  have f1 : ∀ a, a ≠ 195 → (H.set 195 (kO 12 (mfs 0 (nI li) 0 cw cl (nI l) rs (nI p) (nI ms.length) (nI us) (nI ps.length) (nI (plen ps)) ba bo)))[a]? = H[a]? := fun a ha => set_far ha
  show RQ _ _ _ 5 [(0, .ref 196), (1, .int (nI v)), (2, .int 1)] [] (H.set 195 (kO 12 (mfs 0 (nI li) 0 cw cl (nI l) rs (nI p) (nI ms.length) (nI us) (nI ps.length) (nI (plen ps)) ba bo))) 0 0 _
  generalize (H.set 195 (kO 12 (mfs 0 (nI li) 0 cw cl (nI l) rs (nI p) (nI ms.length) (nI us) (nI ps.length) (nI (plen ps)) ba bo))) = H1 at hm1 f1 ⊢
  have hV1 := hV.far (fun a a1 a2 => f1 a (by omega)) (f1 223 (by decide))
  have h51 := (f1 205 (by decide)).trans h5
  have h61 := (f1 206 (by decide)).trans h6
  have hR1 := hR.far (fun a a1 => f1 a (by omega))
  have hT1 := hT.far (fun a a1 a2 => f1 a (by omega))
  have hP1 := hP.far (fun a a1 a2 => f1 a (by omega))
  have h1961 := (f1 196 (by decide)).trans h196
  have h1971 := (f1 197 (by decide)).trans h197
  have hkv := k5 v hv
  refine RQ.blk 3 (pc' := 10) (lv' := [(0, .ref 196), (1, .int (nI v)), (2, .int 1)]) (st' := [.int 201, .int (nI v), .ref 196]) (H' := _) (kc' := 0) (ks' := 0) rfl ?_
  refine RQ.call (v := some (.int 0)) (st' := []) rfl rfl rfl rfl rfl rfl (args_v [.int 201, .int (nI v)] [] rfl rfl (Nat.le_of_ble_eq_true rfl) rfl hm1 (Nat.le_of_ble_eq_true rfl)) (rc_out (v := v) (m := 201) (by omega) (by decide)) ?_
  refine RQ.brF rfl rfl rfl (by decide) ?_
  refine RQ.blk 3 (pc' := 19) (lv' := [(0, .ref 196), (1, .int (nI v)), (2, .int 1)]) (st' := [.int 4, .int 1, .ref 196]) (H' := _) (kc' := 0) (ks' := 0) rfl ?_
  refine RQ.call (v := some (.int 0)) (st' := []) rfl rfl rfl rfl rfl rfl (args_v [.int 4, .int 1] [] rfl rfl (Nat.le_of_ble_eq_true rfl) rfl hm1 (Nat.le_of_ble_eq_true rfl)) (rc_out (v := 1) (m := 4) (by omega) (by decide)) ?_
  refine RQ.brT rfl rfl rfl (by decide) ?_
  refine RQ.blk 1 (pc' := 32) (lv' := [(0, .ref 196), (1, .int (nI v)), (2, .int 1)]) (st' := [.ref 196]) (H' := _) (kc' := 0) (ks' := 0) rfl ?_
  refine RQ.get (ci := 12) rfl hm1 rfl rfl ?_
  refine RQ.brT rfl rfl rfl (by decide) ?_
  refine RQ.blk 1 (pc' := 45) (lv' := [(0, .ref 196), (1, .int (nI v)), (2, .int 1)]) (st' := [.ref 196]) (H' := _) (kc' := 0) (ks' := 0) rfl ?_
  refine RQ.get (ci := 12) rfl hm1 rfl rfl ?_
  refine RQ.blk 1 (pc' := 49) (lv' := [(0, .ref 196), (1, .int (nI v)), (2, .int 1)]) (st' := [.int (nI v), .ref 214]) (H' := _) (kc' := 0) (ks' := 0) rfl ?_
  refine RQ.ialdN (j := v) rfl hT1.1 (by omega) (by decide) ?_
  refine RQ.brT rfl rfl rfl (cT_ne (kd v) 0) ?_
  refine RQ.blk 4 (pc' := 64) (lv' := [(4, .int 0), (3, .int 0), (0, .ref 196), (1, .int (nI v)), (2, .int 1)]) (st' := []) (H' := _) (kc' := 0) (ks' := 0) rfl ?_
  refine RQ.pick (a := [(4, .int 0), (3, .int 0), (0, .ref 196), (1, .int (nI v)), (2, .int 1)]) [0, 1, 2, 3, 4] [4, 3, 0, 1, 2] rfl rfl (by decide) ?_
  refine rq_mcnt hm1 hP1 k6 k8 hv ?_
  refine RQ.blk 2 (pc' := 127) (lv' := [(4, .int (nI ps.length)), (3, .int (nI (cntP v ps))), (0, .ref 196), (1, .int (nI v)), (2, .int 1)]) (st' := []) (H' := _) (kc' := 0) (ks' := 0) rfl ?_
  refine RQ.blk 2 (pc' := 129) (lv' := [(4, .int (nI ps.length)), (3, .int (nI (cntP v ps))), (0, .ref 196), (1, .int (nI v)), (2, .int 1)]) (st' := [.int (nI v), .ref 196]) (H' := _) (kc' := 0) (ks' := 0) rfl ?_
  by_cases kz : kd v = 2
  · refine RQ.call (v := some (.int 1)) (st' := []) rfl rfl rfl rfl rfl rfl (args_v [.int (nI v)] [] rfl rfl (Nat.le_of_ble_eq_true rfl) rfl hm1 (Nat.le_of_ble_eq_true rfl)) (rc_mdirT hm1 rfl hT1.1 hv (nI_is2 kz)) ?_
    refine RQ.brF rfl rfl rfl (by decide) ?_
    refine RQ.blk 2 (pc' := 137) (lv' := [(4, .int (nI ps.length)), (3, .int (nI (cntP v ps))), (0, .ref 196), (1, .int (nI v)), (2, .int 1)]) (st' := [.int (nI v), .ref 196]) (H' := _) (kc' := 0) (ks' := 0) rfl ?_
    refine RQ.call (v := some (.int (nI (sumF (fun w => if inD kd pa v w then 1 else 0) 200)))) (st' := []) rfl rfl rfl rfl rfl rfl (args_v [.int (nI v)] [] rfl rfl (Nat.le_of_ble_eq_true rfl) rfl hm1 (Nat.le_of_ble_eq_true rfl)) (rc_mchildCount hm1 hT1 k5 hv) ?_
    refine RQ.blk 1 (pc' := 149) (lv' := [(4, .int (nI ps.length)), (3, .int (nI (cntP v ps))), (0, .ref 196), (1, .int (nI v)), (2, .int 1)]) (st' := [.int (nI (sumF (fun w => if inD kd pa v w then 1 else 0) 200))]) (H' := _) (kc' := 0) (ks' := 0) rfl ?_
    exact RQ.done (c := 0) (s := 0) rfl rfl rfl rfl ⟨_, _, rfl, (by rw [if_pos kz]), ⟨us, ba, bo, hm1, hV1, h51, h61, hR1, hT1, hP1, h1961, h1971⟩, fun a ha => f1 a (by omega)⟩
  · refine RQ.call (v := some (.int 0)) (st' := []) rfl rfl rfl rfl rfl rfl (args_v [.int (nI v)] [] rfl rfl (Nat.le_of_ble_eq_true rfl) rfl hm1 (Nat.le_of_ble_eq_true rfl)) (rc_mdirF hm1 rfl hT1.1 hv (nI_ne2 hkv.1 kz)) ?_
    refine RQ.brT rfl rfl rfl (by decide) ?_
    refine RQ.blk 1 (pc' := 144) (lv' := [(4, .int (nI ps.length)), (3, .int (nI (cntP v ps))), (0, .ref 196), (1, .int (nI v)), (2, .int 1)]) (st' := [.ref 196]) (H' := _) (kc' := 0) (ks' := 0) rfl ?_
    refine RQ.get (ci := 12) rfl hm1 rfl rfl ?_
    refine RQ.blk 1 (pc' := 148) (lv' := [(4, .int (nI ps.length)), (3, .int (nI (cntP v ps))), (0, .ref 196), (1, .int (nI v)), (2, .int 1)]) (st' := [.int (nI v), .ref 218]) (H' := _) (kc' := 0) (ks' := 0) rfl ?_
    refine RQ.ialdN (j := v) rfl hT1.2.2.2.2 (by omega) (by decide) ?_
    exact RQ.done (c := 0) (s := 0) rfl rfl rfl rfl ⟨_, _, rfl, (by rw [if_neg kz]), ⟨us, ba, bo, hm1, hV1, h51, h61, hR1, hT1, hP1, h1961, h1971⟩, fun a ha => f1 a (by omega)⟩
set_option maxRecDepth 20000 in
theorem ri_mabout2_ok {sc : Nat × (Nat → Int32)} {d l : Nat} {H : aH} {fa cw cl rs : Int32} {li : Nat} {tb : Nat → Int8} {g0 : Nat → Int8} {p : Nat} {ms : List aMV} {op : Nat → Bool} {se : Nat → Nat} {wss : Nat → List aE} {kd pa sz nl : Nat → Nat} {nm : Nat → Int8} {ps : List aPc} {v : Nat} (h : RefI H fa li 0 cw cl tb l rs g0 p ms op se wss kd pa sz nl nm ps) (hk : RefOk l p ms se kd pa sz nl ps) (hv : v ≤ 200) (hkd : ¬ kd v = 0) : RI sc (d + 5) mr_330 [.ref 196, .int (nI v), .int 2] H (fun x H' => x = nI (pa v) ∧ RefI H' 0 li 0 cw cl tb l rs g0 p ms op se wss kd pa sz nl nm ps ∧ ∀ a, ¬ (195 ≤ a ∧ a < 224) → H'[a]? = H[a]?) := by
  obtain ⟨us, ba, bo, hm, hV, h5, h6, hR, hT, hP, h196, h197⟩ := h
  obtain ⟨k1, k2, k3, k4, k5, k6, k7, k8⟩ := hk
  refine RI.of ?_
  refine RQ.blk 2 (pc' := 2) (lv' := [(0, .ref 196), (1, .int (nI v)), (2, .int 2)]) (st' := [.int 0, .ref 196]) (H' := _) (kc' := 0) (ks' := 0) rfl ?_
  refine RQ.put (ci := 12) rfl hm rfl rfl (Nat.le_of_ble_eq_true rfl) ?_
  have hm1 : (H.set 195 (kO 12 (mfs 0 (nI li) 0 cw cl (nI l) rs (nI p) (nI ms.length) (nI us) (nI ps.length) (nI (plen ps)) ba bo)))[195]? = some (kO 12 (mfs 0 (nI li) 0 cw cl (nI l) rs (nI p) (nI ms.length) (nI us) (nI ps.length) (nI (plen ps)) ba bo)) := get_set hm
  have f1 : ∀ a, a ≠ 195 → (H.set 195 (kO 12 (mfs 0 (nI li) 0 cw cl (nI l) rs (nI p) (nI ms.length) (nI us) (nI ps.length) (nI (plen ps)) ba bo)))[a]? = H[a]? := fun a ha => set_far ha
  show RQ _ _ _ 5 [(0, .ref 196), (1, .int (nI v)), (2, .int 2)] [] (H.set 195 (kO 12 (mfs 0 (nI li) 0 cw cl (nI l) rs (nI p) (nI ms.length) (nI us) (nI ps.length) (nI (plen ps)) ba bo))) 0 0 _
  generalize (H.set 195 (kO 12 (mfs 0 (nI li) 0 cw cl (nI l) rs (nI p) (nI ms.length) (nI us) (nI ps.length) (nI (plen ps)) ba bo))) = H1 at hm1 f1 ⊢
  have hV1 := hV.far (fun a a1 a2 => f1 a (by omega)) (f1 223 (by decide))
  have h51 := (f1 205 (by decide)).trans h5
  have h61 := (f1 206 (by decide)).trans h6
  have hR1 := hR.far (fun a a1 => f1 a (by omega))
  have hT1 := hT.far (fun a a1 a2 => f1 a (by omega))
  have hP1 := hP.far (fun a a1 a2 => f1 a (by omega))
  have h1961 := (f1 196 (by decide)).trans h196
  have h1971 := (f1 197 (by decide)).trans h197
  have hkv := k5 v hv
  refine RQ.blk 3 (pc' := 10) (lv' := [(0, .ref 196), (1, .int (nI v)), (2, .int 2)]) (st' := [.int 201, .int (nI v), .ref 196]) (H' := _) (kc' := 0) (ks' := 0) rfl ?_
  refine RQ.call (v := some (.int 0)) (st' := []) rfl rfl rfl rfl rfl rfl (args_v [.int 201, .int (nI v)] [] rfl rfl (Nat.le_of_ble_eq_true rfl) rfl hm1 (Nat.le_of_ble_eq_true rfl)) (rc_out (v := v) (m := 201) (by omega) (by decide)) ?_
  refine RQ.brF rfl rfl rfl (by decide) ?_
  refine RQ.blk 3 (pc' := 19) (lv' := [(0, .ref 196), (1, .int (nI v)), (2, .int 2)]) (st' := [.int 4, .int 2, .ref 196]) (H' := _) (kc' := 0) (ks' := 0) rfl ?_
  refine RQ.call (v := some (.int 0)) (st' := []) rfl rfl rfl rfl rfl rfl (args_v [.int 4, .int 2] [] rfl rfl (Nat.le_of_ble_eq_true rfl) rfl hm1 (Nat.le_of_ble_eq_true rfl)) (rc_out (v := 2) (m := 4) (by omega) (by decide)) ?_
  refine RQ.brT rfl rfl rfl (by decide) ?_
  refine RQ.blk 1 (pc' := 32) (lv' := [(0, .ref 196), (1, .int (nI v)), (2, .int 2)]) (st' := [.ref 196]) (H' := _) (kc' := 0) (ks' := 0) rfl ?_
  refine RQ.get (ci := 12) rfl hm1 rfl rfl ?_
  refine RQ.brT rfl rfl rfl (by decide) ?_
  refine RQ.blk 1 (pc' := 45) (lv' := [(0, .ref 196), (1, .int (nI v)), (2, .int 2)]) (st' := [.ref 196]) (H' := _) (kc' := 0) (ks' := 0) rfl ?_
  refine RQ.get (ci := 12) rfl hm1 rfl rfl ?_
  refine RQ.blk 1 (pc' := 49) (lv' := [(0, .ref 196), (1, .int (nI v)), (2, .int 2)]) (st' := [.int (nI v), .ref 214]) (H' := _) (kc' := 0) (ks' := 0) rfl ?_
  refine RQ.ialdN (j := v) rfl hT1.1 (by omega) (by decide) ?_
  refine RQ.brT rfl rfl rfl (cT_ne (kd v) 0) ?_
  refine RQ.blk 4 (pc' := 64) (lv' := [(4, .int 0), (3, .int 0), (0, .ref 196), (1, .int (nI v)), (2, .int 2)]) (st' := []) (H' := _) (kc' := 0) (ks' := 0) rfl ?_
  refine RQ.pick (a := [(4, .int 0), (3, .int 0), (0, .ref 196), (1, .int (nI v)), (2, .int 2)]) [0, 1, 2, 3, 4] [4, 3, 0, 1, 2] rfl rfl (by decide) ?_
  refine rq_mcnt hm1 hP1 k6 k8 hv ?_
  refine RQ.blk 2 (pc' := 150) (lv' := [(4, .int (nI ps.length)), (3, .int (nI (cntP v ps))), (0, .ref 196), (1, .int (nI v)), (2, .int 2)]) (st' := []) (H' := _) (kc' := 0) (ks' := 0) rfl ?_
  refine RQ.blk 1 (pc' := 151) (lv' := [(4, .int (nI ps.length)), (3, .int (nI (cntP v ps))), (0, .ref 196), (1, .int (nI v)), (2, .int 2)]) (st' := [.ref 196]) (H' := _) (kc' := 0) (ks' := 0) rfl ?_
  refine RQ.get (ci := 12) rfl hm1 rfl rfl ?_
  refine RQ.blk 1 (pc' := 155) (lv' := [(4, .int (nI ps.length)), (3, .int (nI (cntP v ps))), (0, .ref 196), (1, .int (nI v)), (2, .int 2)]) (st' := [.int (nI v), .ref 215]) (H' := _) (kc' := 0) (ks' := 0) rfl ?_
  refine RQ.ialdN (j := v) rfl hT1.2.1 (by omega) (by decide) ?_
  exact RQ.done (c := 0) (s := 0) rfl rfl rfl rfl ⟨_, _, rfl, rfl, ⟨us, ba, bo, hm1, hV1, h51, h61, hR1, hT1, hP1, h1961, h1971⟩, fun a ha => f1 a (by omega)⟩
set_option maxRecDepth 20000 in
theorem ri_mabout3_ok {sc : Nat × (Nat → Int32)} {d l : Nat} {H : aH} {fa cw cl rs : Int32} {li : Nat} {tb : Nat → Int8} {g0 : Nat → Int8} {p : Nat} {ms : List aMV} {op : Nat → Bool} {se : Nat → Nat} {wss : Nat → List aE} {kd pa sz nl : Nat → Nat} {nm : Nat → Int8} {ps : List aPc} {v : Nat} (h : RefI H fa li 0 cw cl tb l rs g0 p ms op se wss kd pa sz nl nm ps) (hk : RefOk l p ms se kd pa sz nl ps) (hv : v ≤ 200) (hkd : ¬ kd v = 0) : RI sc (d + 5) mr_330 [.ref 196, .int (nI v), .int 3] H (fun x H' => x = nI (cntP v ps) ∧ RefI H' 0 li 0 cw cl tb l rs g0 p ms op se wss kd pa sz nl nm ps ∧ ∀ a, ¬ (195 ≤ a ∧ a < 224) → H'[a]? = H[a]?) := by
  obtain ⟨us, ba, bo, hm, hV, h5, h6, hR, hT, hP, h196, h197⟩ := h
  obtain ⟨k1, k2, k3, k4, k5, k6, k7, k8⟩ := hk
  refine RI.of ?_
  refine RQ.blk 2 (pc' := 2) (lv' := [(0, .ref 196), (1, .int (nI v)), (2, .int 3)]) (st' := [.int 0, .ref 196]) (H' := _) (kc' := 0) (ks' := 0) rfl ?_
  refine RQ.put (ci := 12) rfl hm rfl rfl (Nat.le_of_ble_eq_true rfl) ?_
  have hm1 : (H.set 195 (kO 12 (mfs 0 (nI li) 0 cw cl (nI l) rs (nI p) (nI ms.length) (nI us) (nI ps.length) (nI (plen ps)) ba bo)))[195]? = some (kO 12 (mfs 0 (nI li) 0 cw cl (nI l) rs (nI p) (nI ms.length) (nI us) (nI ps.length) (nI (plen ps)) ba bo)) := get_set hm
  have f1 : ∀ a, a ≠ 195 → (H.set 195 (kO 12 (mfs 0 (nI li) 0 cw cl (nI l) rs (nI p) (nI ms.length) (nI us) (nI ps.length) (nI (plen ps)) ba bo)))[a]? = H[a]? := fun a ha => set_far ha
  show RQ _ _ _ 5 [(0, .ref 196), (1, .int (nI v)), (2, .int 3)] [] (H.set 195 (kO 12 (mfs 0 (nI li) 0 cw cl (nI l) rs (nI p) (nI ms.length) (nI us) (nI ps.length) (nI (plen ps)) ba bo))) 0 0 _
  generalize (H.set 195 (kO 12 (mfs 0 (nI li) 0 cw cl (nI l) rs (nI p) (nI ms.length) (nI us) (nI ps.length) (nI (plen ps)) ba bo))) = H1 at hm1 f1 ⊢
  have hV1 := hV.far (fun a a1 a2 => f1 a (by omega)) (f1 223 (by decide))
  have h51 := (f1 205 (by decide)).trans h5
  have h61 := (f1 206 (by decide)).trans h6
  have hR1 := hR.far (fun a a1 => f1 a (by omega))
  have hT1 := hT.far (fun a a1 a2 => f1 a (by omega))
  have hP1 := hP.far (fun a a1 a2 => f1 a (by omega))
  have h1961 := (f1 196 (by decide)).trans h196
  have h1971 := (f1 197 (by decide)).trans h197
  have hkv := k5 v hv
  refine RQ.blk 3 (pc' := 10) (lv' := [(0, .ref 196), (1, .int (nI v)), (2, .int 3)]) (st' := [.int 201, .int (nI v), .ref 196]) (H' := _) (kc' := 0) (ks' := 0) rfl ?_
  refine RQ.call (v := some (.int 0)) (st' := []) rfl rfl rfl rfl rfl rfl (args_v [.int 201, .int (nI v)] [] rfl rfl (Nat.le_of_ble_eq_true rfl) rfl hm1 (Nat.le_of_ble_eq_true rfl)) (rc_out (v := v) (m := 201) (by omega) (by decide)) ?_
  refine RQ.brF rfl rfl rfl (by decide) ?_
  refine RQ.blk 3 (pc' := 19) (lv' := [(0, .ref 196), (1, .int (nI v)), (2, .int 3)]) (st' := [.int 4, .int 3, .ref 196]) (H' := _) (kc' := 0) (ks' := 0) rfl ?_
  refine RQ.call (v := some (.int 0)) (st' := []) rfl rfl rfl rfl rfl rfl (args_v [.int 4, .int 3] [] rfl rfl (Nat.le_of_ble_eq_true rfl) rfl hm1 (Nat.le_of_ble_eq_true rfl)) (rc_out (v := 3) (m := 4) (by omega) (by decide)) ?_
  refine RQ.brT rfl rfl rfl (by decide) ?_
  refine RQ.blk 1 (pc' := 32) (lv' := [(0, .ref 196), (1, .int (nI v)), (2, .int 3)]) (st' := [.ref 196]) (H' := _) (kc' := 0) (ks' := 0) rfl ?_
  refine RQ.get (ci := 12) rfl hm1 rfl rfl ?_
  refine RQ.brT rfl rfl rfl (by decide) ?_
  refine RQ.blk 1 (pc' := 45) (lv' := [(0, .ref 196), (1, .int (nI v)), (2, .int 3)]) (st' := [.ref 196]) (H' := _) (kc' := 0) (ks' := 0) rfl ?_
  refine RQ.get (ci := 12) rfl hm1 rfl rfl ?_
  refine RQ.blk 1 (pc' := 49) (lv' := [(0, .ref 196), (1, .int (nI v)), (2, .int 3)]) (st' := [.int (nI v), .ref 214]) (H' := _) (kc' := 0) (ks' := 0) rfl ?_
  refine RQ.ialdN (j := v) rfl hT1.1 (by omega) (by decide) ?_
  refine RQ.brT rfl rfl rfl (cT_ne (kd v) 0) ?_
  refine RQ.blk 4 (pc' := 64) (lv' := [(4, .int 0), (3, .int 0), (0, .ref 196), (1, .int (nI v)), (2, .int 3)]) (st' := []) (H' := _) (kc' := 0) (ks' := 0) rfl ?_
  refine RQ.pick (a := [(4, .int 0), (3, .int 0), (0, .ref 196), (1, .int (nI v)), (2, .int 3)]) [0, 1, 2, 3, 4] [4, 3, 0, 1, 2] rfl rfl (by decide) ?_
  refine rq_mcnt hm1 hP1 k6 k8 hv ?_
  refine RQ.blk 2 (pc' := 157) (lv' := [(4, .int (nI ps.length)), (3, .int (nI (cntP v ps))), (0, .ref 196), (1, .int (nI v)), (2, .int 3)]) (st' := []) (H' := _) (kc' := 0) (ks' := 0) rfl ?_
  refine RQ.blk 1 (pc' := 158) (lv' := [(4, .int (nI ps.length)), (3, .int (nI (cntP v ps))), (0, .ref 196), (1, .int (nI v)), (2, .int 3)]) (st' := [.int (nI (cntP v ps))]) (H' := _) (kc' := 0) (ks' := 0) rfl ?_
  exact RQ.done (c := 0) (s := 0) rfl rfl rfl rfl ⟨_, _, rfl, rfl, ⟨us, ba, bo, hm1, hV1, h51, h61, hR1, hT1, hP1, h1961, h1971⟩, fun a ha => f1 a (by omega)⟩
