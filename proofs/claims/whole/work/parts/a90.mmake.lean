/-! ===== make of the reference, every end but the first; written by wip/gen/refi5.py ===== -/
/-- the first number that is free -/
def frI (kd : Nat → Nat) : Nat := (fstF (fun i => decide (kd i = 0)) 1 200).getD 201
theorem rq_mmk {sc : Nat × (Nat → Int32)} {d v l : Nat} {b : Int32} {H : aH} {fs : List Value} {kd : Nat → Nat} {Q : _ → Prop} (hm : H[195]? = some (kO 12 fs)) (hk : fs[27]? = some (.ref 214)) (hK : H[213]? = some (kI 201 (fun j => nI (kd j)))) (hb : ∀ i, i ≤ 200 → kd i ≤ 2) (K : RQ sc d mr_304 114 [(4, .int (nI (frI kd))), (0, .ref 196), (1, .int (nI v)), (2, .int b), (3, .int (nI l))] [] H 0 0 Q) : RQ sc d mr_304 90 [(4, .int 1), (0, .ref 196), (1, .int (nI v)), (2, .int b), (3, .int (nI l))] [] H 0 0 Q := by
  refine RQ.while (S := Nat) (pc := 90) (fun i H' => 1 ≤ i ∧ i ≤ 201 ∧ fstF (fun i => decide (kd i = 0)) 1 200 = fstF (fun i => decide (kd i = 0)) i (201 - i) ∧ H' = H) (fun i => [(4, .int (nI i)), (0, .ref 196), (1, .int (nI v)), (2, .int b), (3, .int (nI l))]) (fun i => 201 - i) ?_ 1 H ⟨by omega, by omega, rfl, rfl⟩
  rintro i H1 ⟨hi1, hi2, he, eH⟩ ih
  rw [eH]
  by_cases hi : i ≤ 200
  ·
    have hbi := hb i hi
    refine RQ.blk 2 (pc' := 95) (lv' := [(4, .int (nI i)), (0, .ref 196), (1, .int (nI v)), (2, .int b), (3, .int (nI l))]) (st' := [.int 200, .int (nI i)]) (H' := _) (kc' := 0) (ks' := 0) rfl ?_
    refine RQ.brF rfl rfl rfl (cF_gt i 200) ?_
    refine RQ.blk 1 (pc' := 99) (lv' := [(4, .int (nI i)), (0, .ref 196), (1, .int (nI v)), (2, .int b), (3, .int (nI l))]) (st' := [.ref 196]) (H' := _) (kc' := 0) (ks' := 0) rfl ?_
    refine RQ.get (ci := 12) rfl hm rfl hk ?_
    refine RQ.blk 1 (pc' := 104) (lv' := [(4, .int (nI i)), (0, .ref 196), (1, .int (nI v)), (2, .int b), (3, .int (nI l))]) (st' := [.int (nI i), .ref 214]) (H' := _) (kc' := 0) (ks' := 0) rfl ?_
    refine RQ.ialdN (j := i) rfl hK (by omega) (by decide) ?_
    by_cases kz : kd i = 0
    · refine RQ.brT rfl rfl rfl (cT_eq (kd i) 0) ?_
      have hf : frI kd = i := by unfold frI; rw [he, fstF_hit (by omega) (decide_eq_true kz)]; rfl
      rw [hf] at K
      exact K
    · refine RQ.brF rfl rfl rfl (cF_eq (kd i) 0) ?_
      refine RQ.blk 1 (pc' := 111) (lv' := [(4, .int (nI i + 1)), (0, .ref 196), (1, .int (nI v)), (2, .int b), (3, .int (nI l))]) (st' := []) (H' := _) (kc' := 0) (ks' := 0) rfl ?_
      rw [show (nI i + 1 : Int32) = nI (i + 1) from nI_add i 1]
      refine RQ.blk 1 (pc' := 90) (lv' := [(4, .int (nI (i + 1))), (0, .ref 196), (1, .int (nI v)), (2, .int b), (3, .int (nI l))]) (st' := []) (H' := _) (kc' := 0) (ks' := 0) rfl ?_
      exact ih (i + 1) _ ⟨by omega, by omega, by rw [he, fstF_miss (by omega) (decide_eq_false kz), show 201 - i - 1 = 201 - (i + 1) by omega], rfl⟩ (by omega)
  ·
    refine RQ.blk 2 (pc' := 95) (lv' := [(4, .int (nI i)), (0, .ref 196), (1, .int (nI v)), (2, .int b), (3, .int (nI l))]) (st' := [.int 200, .int (nI i)]) (H' := _) (kc' := 0) (ks' := 0) rfl ?_
    refine RQ.brT rfl rfl rfl (cT_gt i 200) ?_
    have hf : frI kd = i := by unfold frI; rw [he, show 201 - i = 0 by omega]; show 201 = i; omega
    rw [hf] at K
    exact K
set_option maxRecDepth 20000 in
theorem ri_mmake_down {sc : Nat × (Nat → Int32)} {d l : Nat} {H : aH} {fa cw cl rs : Int32} {li : Nat} {tb : Nat → Int8} {g0 : Nat → Int8} {p : Nat} {ms : List aMV} {op : Nat → Bool} {se : Nat → Nat} {wss : Nat → List aE} {kd pa sz nl : Nat → Nat} {nm : Nat → Int8} {ps : List aPc} {v : Nat} {b : Int32} (h : RefI H fa li 1 cw cl tb l rs g0 p ms op se wss kd pa sz nl nm ps) (hk : RefOk l p ms se kd pa sz nl ps) (hv : v ≤ 200) (hl1 : 1 ≤ l) (hl : l ≤ 30) (hnm : noSl tb 0 l) : RI sc (d + 5) mr_304 [.ref 196, .int (nI v), .int b] H (fun x H' => x = 0 ∧ RefI H' 2 li 1 cw cl tb l rs g0 p ms op se wss kd pa sz nl nm ps ∧ ∀ a, ¬ (195 ≤ a ∧ a < 224) → H'[a]? = H[a]?) := by
  obtain ⟨us, ba, bo, hm, hV, h5, h6, hR, hT, hP, h196, h197⟩ := h
  obtain ⟨k1, k2, k3, k4, k5, k6, k7, k8⟩ := hk
  refine RI.of ?_
  refine RQ.blk 2 (pc' := 2) (lv' := [(0, .ref 196), (1, .int (nI v)), (2, .int b)]) (st' := [.int 0, .ref 196]) (H' := _) (kc' := 0) (ks' := 0) rfl ?_
  refine RQ.put (ci := 12) rfl hm rfl rfl (Nat.le_of_ble_eq_true rfl) ?_
  have hm1 : (H.set 195 (kO 12 (mfs 0 (nI li) 1 cw cl (nI l) rs (nI p) (nI ms.length) (nI us) (nI ps.length) (nI (plen ps)) ba bo)))[195]? = some (kO 12 (mfs 0 (nI li) 1 cw cl (nI l) rs (nI p) (nI ms.length) (nI us) (nI ps.length) (nI (plen ps)) ba bo)) := get_set hm
  have f1 : ∀ a, a ≠ 195 → (H.set 195 (kO 12 (mfs 0 (nI li) 1 cw cl (nI l) rs (nI p) (nI ms.length) (nI us) (nI ps.length) (nI (plen ps)) ba bo)))[a]? = H[a]? := fun a ha => set_far ha
  show RQ _ _ _ 5 [(0, .ref 196), (1, .int (nI v)), (2, .int b)] [] (H.set 195 (kO 12 (mfs 0 (nI li) 1 cw cl (nI l) rs (nI p) (nI ms.length) (nI us) (nI ps.length) (nI (plen ps)) ba bo))) 0 0 _
  generalize (H.set 195 (kO 12 (mfs 0 (nI li) 1 cw cl (nI l) rs (nI p) (nI ms.length) (nI us) (nI ps.length) (nI (plen ps)) ba bo))) = H1 at hm1 f1 ⊢
  have hV1 := hV.far (fun a a1 a2 => f1 a (by omega)) (f1 223 (by decide))
  have h51 := (f1 205 (by decide)).trans h5
  have h61 := (f1 206 (by decide)).trans h6
  have hR1 := hR.far (fun a a1 => f1 a (by omega))
  have hT1 := hT.far (fun a a1 a2 => f1 a (by omega))
  have hP1 := hP.far (fun a a1 a2 => f1 a (by omega))
  have h1961 := (f1 196 (by decide)).trans h196
  have h1971 := (f1 197 (by decide)).trans h197
  refine RQ.blk 3 (pc' := 10) (lv' := [(0, .ref 196), (1, .int (nI v)), (2, .int b)]) (st' := [.int 201, .int (nI v), .ref 196]) (H' := _) (kc' := 0) (ks' := 0) rfl ?_
  refine RQ.call (v := some (.int 0)) (st' := []) rfl rfl rfl rfl rfl rfl (args_v [.int 201, .int (nI v)] [] rfl rfl (Nat.le_of_ble_eq_true rfl) rfl hm1 (Nat.le_of_ble_eq_true rfl)) (rc_out (v := v) (m := 201) (by omega) (by decide)) ?_
  refine RQ.brF rfl rfl rfl (by decide) ?_
  refine RQ.blk 3 (pc' := 19) (lv' := [(0, .ref 196), (1, .int (nI v)), (2, .int b)]) (st' := [.ref 196, .int 0, .ref 196]) (H' := _) (kc' := 0) (ks' := 0) rfl ?_
  refine RQ.get (ci := 12) rfl hm1 rfl rfl ?_
  refine RQ.call (v := some (.int 1)) (st' := []) rfl rfl rfl rfl rfl rfl (args_v [.int (nI l), .int 0] [] rfl rfl (Nat.le_of_ble_eq_true rfl) rfl hm1 (Nat.le_of_ble_eq_true rfl)) (rc_named1 (i := 0) (n := l) hm1 h1961 (by decide) (by omega) hl1 hl hnm) ?_
  refine RQ.brT rfl rfl rfl (by decide) ?_
  refine RQ.blk 1 (pc' := 35) (lv' := [(0, .ref 196), (1, .int (nI v)), (2, .int b)]) (st' := [.ref 196]) (H' := _) (kc' := 0) (ks' := 0) rfl ?_
  refine RQ.get (ci := 12) rfl hm1 rfl rfl ?_
  refine RQ.brF rfl rfl rfl (by decide) ?_
  refine RQ.blk 2 (pc' := 43) (lv' := [(0, .ref 196), (1, .int (nI v)), (2, .int b)]) (st' := [.int 2, .ref 196]) (H' := _) (kc' := 0) (ks' := 0) rfl ?_
  refine RQ.call (v := some (.int 0)) (st' := []) rfl rfl rfl rfl rfl rfl (args_v [.int 2] [] rfl rfl (Nat.le_of_ble_eq_true rfl) rfl hm1 (Nat.le_of_ble_eq_true rfl)) (rc_mfail hm1 rfl) ?_
  exact RQ.done (c := 0) (s := 0) rfl rfl rfl rfl ⟨_, _, rfl, rfl, ⟨us, ba, bo, get_set hm1, hV1.far (fun a a1 a2 => set_far (by omega)) (set_far (by decide)), (set_far (by decide)).trans h51, (set_far (by decide)).trans h61, hR1.far (fun a a1 => set_far (by omega)), hT1.far (fun a a1 a2 => set_far (by omega)), hP1.far (fun a a1 a2 => set_far (by omega)), (set_far (by decide)).trans h1961, (set_far (by decide)).trans h1971⟩, fun a ha => (set_far (by omega)).trans (f1 a (by omega))⟩
set_option maxRecDepth 20000 in
theorem ri_mmake_no {sc : Nat × (Nat → Int32)} {d l : Nat} {H : aH} {fa cw cl rs : Int32} {li : Nat} {tb : Nat → Int8} {g0 : Nat → Int8} {p : Nat} {ms : List aMV} {op : Nat → Bool} {se : Nat → Nat} {wss : Nat → List aE} {kd pa sz nl : Nat → Nat} {nm : Nat → Int8} {ps : List aPc} {v : Nat} {b : Int32} (h : RefI H fa li 0 cw cl tb l rs g0 p ms op se wss kd pa sz nl nm ps) (hk : RefOk l p ms se kd pa sz nl ps) (hv : v ≤ 200) (hl1 : 1 ≤ l) (hl : l ≤ 30) (hnm : noSl tb 0 l) (hkd : ¬ kd v = 2) : RI sc (d + 5) mr_304 [.ref 196, .int (nI v), .int b] H (fun x H' => x = 0 ∧ RefI H' 3 li 0 cw cl tb 0 rs g0 p ms op se wss kd pa sz nl nm ps ∧ ∀ a, ¬ (195 ≤ a ∧ a < 224) → H'[a]? = H[a]?) := by
  obtain ⟨us, ba, bo, hm, hV, h5, h6, hR, hT, hP, h196, h197⟩ := h
  obtain ⟨k1, k2, k3, k4, k5, k6, k7, k8⟩ := hk
  refine RI.of ?_
  refine RQ.blk 2 (pc' := 2) (lv' := [(0, .ref 196), (1, .int (nI v)), (2, .int b)]) (st' := [.int 0, .ref 196]) (H' := _) (kc' := 0) (ks' := 0) rfl ?_
  refine RQ.put (ci := 12) rfl hm rfl rfl (Nat.le_of_ble_eq_true rfl) ?_
  have hm1 : (H.set 195 (kO 12 (mfs 0 (nI li) 0 cw cl (nI l) rs (nI p) (nI ms.length) (nI us) (nI ps.length) (nI (plen ps)) ba bo)))[195]? = some (kO 12 (mfs 0 (nI li) 0 cw cl (nI l) rs (nI p) (nI ms.length) (nI us) (nI ps.length) (nI (plen ps)) ba bo)) := get_set hm
  have f1 : ∀ a, a ≠ 195 → (H.set 195 (kO 12 (mfs 0 (nI li) 0 cw cl (nI l) rs (nI p) (nI ms.length) (nI us) (nI ps.length) (nI (plen ps)) ba bo)))[a]? = H[a]? := fun a ha => set_far ha
  show RQ _ _ _ 5 [(0, .ref 196), (1, .int (nI v)), (2, .int b)] [] (H.set 195 (kO 12 (mfs 0 (nI li) 0 cw cl (nI l) rs (nI p) (nI ms.length) (nI us) (nI ps.length) (nI (plen ps)) ba bo))) 0 0 _
  generalize (H.set 195 (kO 12 (mfs 0 (nI li) 0 cw cl (nI l) rs (nI p) (nI ms.length) (nI us) (nI ps.length) (nI (plen ps)) ba bo))) = H1 at hm1 f1 ⊢
  have hV1 := hV.far (fun a a1 a2 => f1 a (by omega)) (f1 223 (by decide))
  have h51 := (f1 205 (by decide)).trans h5
  have h61 := (f1 206 (by decide)).trans h6
  have hR1 := hR.far (fun a a1 => f1 a (by omega))
  have hT1 := hT.far (fun a a1 a2 => f1 a (by omega))
  have hP1 := hP.far (fun a a1 a2 => f1 a (by omega))
  have h1961 := (f1 196 (by decide)).trans h196
  have h1971 := (f1 197 (by decide)).trans h197
  have hkv := k5 v hv
  refine RQ.blk 3 (pc' := 10) (lv' := [(0, .ref 196), (1, .int (nI v)), (2, .int b)]) (st' := [.int 201, .int (nI v), .ref 196]) (H' := _) (kc' := 0) (ks' := 0) rfl ?_
  refine RQ.call (v := some (.int 0)) (st' := []) rfl rfl rfl rfl rfl rfl (args_v [.int 201, .int (nI v)] [] rfl rfl (Nat.le_of_ble_eq_true rfl) rfl hm1 (Nat.le_of_ble_eq_true rfl)) (rc_out (v := v) (m := 201) (by omega) (by decide)) ?_
  refine RQ.brF rfl rfl rfl (by decide) ?_
  refine RQ.blk 3 (pc' := 19) (lv' := [(0, .ref 196), (1, .int (nI v)), (2, .int b)]) (st' := [.ref 196, .int 0, .ref 196]) (H' := _) (kc' := 0) (ks' := 0) rfl ?_
  refine RQ.get (ci := 12) rfl hm1 rfl rfl ?_
  refine RQ.call (v := some (.int 1)) (st' := []) rfl rfl rfl rfl rfl rfl (args_v [.int (nI l), .int 0] [] rfl rfl (Nat.le_of_ble_eq_true rfl) rfl hm1 (Nat.le_of_ble_eq_true rfl)) (rc_named1 (i := 0) (n := l) hm1 h1961 (by decide) (by omega) hl1 hl hnm) ?_
  refine RQ.brT rfl rfl rfl (by decide) ?_
  refine RQ.blk 1 (pc' := 35) (lv' := [(0, .ref 196), (1, .int (nI v)), (2, .int b)]) (st' := [.ref 196]) (H' := _) (kc' := 0) (ks' := 0) rfl ?_
  refine RQ.get (ci := 12) rfl hm1 rfl rfl ?_
  refine RQ.brT rfl rfl rfl (by decide) ?_
  refine RQ.blk 1 (pc' := 48) (lv' := [(0, .ref 196), (1, .int (nI v)), (2, .int b)]) (st' := [.ref 196]) (H' := _) (kc' := 0) (ks' := 0) rfl ?_
  refine RQ.get (ci := 12) rfl hm1 rfl rfl ?_
  refine RQ.blk 3 (pc' := 54) (lv' := [(3, .int (nI l)), (0, .ref 196), (1, .int (nI v)), (2, .int b)]) (st' := [.int 0, .ref 196]) (H' := _) (kc' := 0) (ks' := 0) rfl ?_
  refine RQ.put (ci := 12) rfl hm1 rfl rfl (Nat.le_of_ble_eq_true rfl) ?_
  have hm2 : (H1.set 195 (kO 12 (mfs 0 (nI li) 0 cw cl (nI 0) rs (nI p) (nI ms.length) (nI us) (nI ps.length) (nI (plen ps)) ba bo)))[195]? = some (kO 12 (mfs 0 (nI li) 0 cw cl (nI 0) rs (nI p) (nI ms.length) (nI us) (nI ps.length) (nI (plen ps)) ba bo)) := get_set hm1
  have f2 : ∀ a, a ≠ 195 → (H1.set 195 (kO 12 (mfs 0 (nI li) 0 cw cl (nI 0) rs (nI p) (nI ms.length) (nI us) (nI ps.length) (nI (plen ps)) ba bo)))[a]? = H[a]? := fun a ha => (set_far ha).trans (f1 a ha)
  show RQ _ _ _ 57 [(3, .int (nI l)), (0, .ref 196), (1, .int (nI v)), (2, .int b)] [] (H1.set 195 (kO 12 (mfs 0 (nI li) 0 cw cl (nI 0) rs (nI p) (nI ms.length) (nI us) (nI ps.length) (nI (plen ps)) ba bo))) 0 0 _
  generalize (H1.set 195 (kO 12 (mfs 0 (nI li) 0 cw cl (nI 0) rs (nI p) (nI ms.length) (nI us) (nI ps.length) (nI (plen ps)) ba bo))) = H2 at hm2 f2 ⊢
  clear hm1 f1 hV1 h51 h61 hR1 hT1 hP1 h1961 h1971
  have hm1 := hm2
  have f1 := f2
  clear hm2 f2
  have hV1 := hV.far (fun a a1 a2 => f1 a (by omega)) (f1 223 (by decide))
  have h51 := (f1 205 (by decide)).trans h5
  have h61 := (f1 206 (by decide)).trans h6
  have hR1 := hR.far (fun a a1 => f1 a (by omega))
  have hT1 := hT.far (fun a a1 a2 => f1 a (by omega))
  have hP1 := hP.far (fun a a1 a2 => f1 a (by omega))
  have h1961 := (f1 196 (by decide)).trans h196
  have h1971 := (f1 197 (by decide)).trans h197
  refine RQ.blk 2 (pc' := 59) (lv' := [(3, .int (nI l)), (0, .ref 196), (1, .int (nI v)), (2, .int b)]) (st' := [.int (nI v), .ref 196]) (H' := _) (kc' := 0) (ks' := 0) rfl ?_
  refine RQ.call (v := some (.int 0)) (st' := []) rfl rfl rfl rfl rfl rfl (args_v [.int (nI v)] [] rfl rfl (Nat.le_of_ble_eq_true rfl) rfl hm1 (Nat.le_of_ble_eq_true rfl)) (rc_mdirF hm1 rfl hT1.1 hv (nI_ne2 hkv.1 hkd)) ?_
  refine RQ.brF rfl rfl rfl (by decide) ?_
  refine RQ.blk 2 (pc' := 67) (lv' := [(3, .int (nI l)), (0, .ref 196), (1, .int (nI v)), (2, .int b)]) (st' := [.int 3, .ref 196]) (H' := _) (kc' := 0) (ks' := 0) rfl ?_
  refine RQ.call (v := some (.int 0)) (st' := []) rfl rfl rfl rfl rfl rfl (args_v [.int 3] [] rfl rfl (Nat.le_of_ble_eq_true rfl) rfl hm1 (Nat.le_of_ble_eq_true rfl)) (rc_mfail hm1 rfl) ?_
  exact RQ.done (c := 0) (s := 0) rfl rfl rfl rfl ⟨_, _, rfl, rfl, ⟨us, ba, bo, get_set hm1, hV1.far (fun a a1 a2 => set_far (by omega)) (set_far (by decide)), (set_far (by decide)).trans h51, (set_far (by decide)).trans h61, hR1.far (fun a a1 => set_far (by omega)), hT1.far (fun a a1 a2 => set_far (by omega)), hP1.far (fun a a1 a2 => set_far (by omega)), (set_far (by decide)).trans h1961, (set_far (by decide)).trans h1971⟩, fun a ha => (set_far (by omega)).trans (f1 a (by omega))⟩
set_option maxRecDepth 20000 in
theorem ri_mmake_there {sc : Nat × (Nat → Int32)} {d l : Nat} {H : aH} {fa cw cl rs : Int32} {li : Nat} {tb : Nat → Int8} {g0 : Nat → Int8} {p : Nat} {ms : List aMV} {op : Nat → Bool} {se : Nat → Nat} {wss : Nat → List aE} {kd pa sz nl : Nat → Nat} {nm : Nat → Int8} {ps : List aPc} {v : Nat} {b : Int32} {c : Nat} (h : RefI H fa li 0 cw cl tb l rs g0 p ms op se wss kd pa sz nl nm ps) (hk : RefOk l p ms se kd pa sz nl ps) (hv : v ≤ 200) (hl1 : 1 ≤ l) (hl : l ≤ 30) (hnm : noSl tb 0 l) (hkd : kd v = 2) (hc : (fstF (inN kd pa nl nm v (sl tb 0 l)) 1 200) = some c) : RI sc (d + 5) mr_304 [.ref 196, .int (nI v), .int b] H (fun x H' => x = 0 ∧ RefI H' 4 li 0 cw cl tb 0 rs g0 p ms op se wss kd pa sz nl nm ps ∧ ∀ a, ¬ (195 ≤ a ∧ a < 224) → H'[a]? = H[a]?) := by
  obtain ⟨us, ba, bo, hm, hV, h5, h6, hR, hT, hP, h196, h197⟩ := h
  obtain ⟨k1, k2, k3, k4, k5, k6, k7, k8⟩ := hk
  refine RI.of ?_
  refine RQ.blk 2 (pc' := 2) (lv' := [(0, .ref 196), (1, .int (nI v)), (2, .int b)]) (st' := [.int 0, .ref 196]) (H' := _) (kc' := 0) (ks' := 0) rfl ?_
  refine RQ.put (ci := 12) rfl hm rfl rfl (Nat.le_of_ble_eq_true rfl) ?_
  have hm1 : (H.set 195 (kO 12 (mfs 0 (nI li) 0 cw cl (nI l) rs (nI p) (nI ms.length) (nI us) (nI ps.length) (nI (plen ps)) ba bo)))[195]? = some (kO 12 (mfs 0 (nI li) 0 cw cl (nI l) rs (nI p) (nI ms.length) (nI us) (nI ps.length) (nI (plen ps)) ba bo)) := get_set hm
  have f1 : ∀ a, a ≠ 195 → (H.set 195 (kO 12 (mfs 0 (nI li) 0 cw cl (nI l) rs (nI p) (nI ms.length) (nI us) (nI ps.length) (nI (plen ps)) ba bo)))[a]? = H[a]? := fun a ha => set_far ha
  show RQ _ _ _ 5 [(0, .ref 196), (1, .int (nI v)), (2, .int b)] [] (H.set 195 (kO 12 (mfs 0 (nI li) 0 cw cl (nI l) rs (nI p) (nI ms.length) (nI us) (nI ps.length) (nI (plen ps)) ba bo))) 0 0 _
  generalize (H.set 195 (kO 12 (mfs 0 (nI li) 0 cw cl (nI l) rs (nI p) (nI ms.length) (nI us) (nI ps.length) (nI (plen ps)) ba bo))) = H1 at hm1 f1 ⊢
  have hV1 := hV.far (fun a a1 a2 => f1 a (by omega)) (f1 223 (by decide))
  have h51 := (f1 205 (by decide)).trans h5
  have h61 := (f1 206 (by decide)).trans h6
  have hR1 := hR.far (fun a a1 => f1 a (by omega))
  have hT1 := hT.far (fun a a1 a2 => f1 a (by omega))
  have hP1 := hP.far (fun a a1 a2 => f1 a (by omega))
  have h1961 := (f1 196 (by decide)).trans h196
  have h1971 := (f1 197 (by decide)).trans h197
  have hkv := k5 v hv
  refine RQ.blk 3 (pc' := 10) (lv' := [(0, .ref 196), (1, .int (nI v)), (2, .int b)]) (st' := [.int 201, .int (nI v), .ref 196]) (H' := _) (kc' := 0) (ks' := 0) rfl ?_
  refine RQ.call (v := some (.int 0)) (st' := []) rfl rfl rfl rfl rfl rfl (args_v [.int 201, .int (nI v)] [] rfl rfl (Nat.le_of_ble_eq_true rfl) rfl hm1 (Nat.le_of_ble_eq_true rfl)) (rc_out (v := v) (m := 201) (by omega) (by decide)) ?_
  refine RQ.brF rfl rfl rfl (by decide) ?_
  refine RQ.blk 3 (pc' := 19) (lv' := [(0, .ref 196), (1, .int (nI v)), (2, .int b)]) (st' := [.ref 196, .int 0, .ref 196]) (H' := _) (kc' := 0) (ks' := 0) rfl ?_
  refine RQ.get (ci := 12) rfl hm1 rfl rfl ?_
  refine RQ.call (v := some (.int 1)) (st' := []) rfl rfl rfl rfl rfl rfl (args_v [.int (nI l), .int 0] [] rfl rfl (Nat.le_of_ble_eq_true rfl) rfl hm1 (Nat.le_of_ble_eq_true rfl)) (rc_named1 (i := 0) (n := l) hm1 h1961 (by decide) (by omega) hl1 hl hnm) ?_
  refine RQ.brT rfl rfl rfl (by decide) ?_
  refine RQ.blk 1 (pc' := 35) (lv' := [(0, .ref 196), (1, .int (nI v)), (2, .int b)]) (st' := [.ref 196]) (H' := _) (kc' := 0) (ks' := 0) rfl ?_
  refine RQ.get (ci := 12) rfl hm1 rfl rfl ?_
  refine RQ.brT rfl rfl rfl (by decide) ?_
  refine RQ.blk 1 (pc' := 48) (lv' := [(0, .ref 196), (1, .int (nI v)), (2, .int b)]) (st' := [.ref 196]) (H' := _) (kc' := 0) (ks' := 0) rfl ?_
  refine RQ.get (ci := 12) rfl hm1 rfl rfl ?_
  refine RQ.blk 3 (pc' := 54) (lv' := [(3, .int (nI l)), (0, .ref 196), (1, .int (nI v)), (2, .int b)]) (st' := [.int 0, .ref 196]) (H' := _) (kc' := 0) (ks' := 0) rfl ?_
  refine RQ.put (ci := 12) rfl hm1 rfl rfl (Nat.le_of_ble_eq_true rfl) ?_
  have hm2 : (H1.set 195 (kO 12 (mfs 0 (nI li) 0 cw cl (nI 0) rs (nI p) (nI ms.length) (nI us) (nI ps.length) (nI (plen ps)) ba bo)))[195]? = some (kO 12 (mfs 0 (nI li) 0 cw cl (nI 0) rs (nI p) (nI ms.length) (nI us) (nI ps.length) (nI (plen ps)) ba bo)) := get_set hm1
  have f2 : ∀ a, a ≠ 195 → (H1.set 195 (kO 12 (mfs 0 (nI li) 0 cw cl (nI 0) rs (nI p) (nI ms.length) (nI us) (nI ps.length) (nI (plen ps)) ba bo)))[a]? = H[a]? := fun a ha => (set_far ha).trans (f1 a ha)
  show RQ _ _ _ 57 [(3, .int (nI l)), (0, .ref 196), (1, .int (nI v)), (2, .int b)] [] (H1.set 195 (kO 12 (mfs 0 (nI li) 0 cw cl (nI 0) rs (nI p) (nI ms.length) (nI us) (nI ps.length) (nI (plen ps)) ba bo))) 0 0 _
  generalize (H1.set 195 (kO 12 (mfs 0 (nI li) 0 cw cl (nI 0) rs (nI p) (nI ms.length) (nI us) (nI ps.length) (nI (plen ps)) ba bo))) = H2 at hm2 f2 ⊢
  clear hm1 f1 hV1 h51 h61 hR1 hT1 hP1 h1961 h1971
  have hm1 := hm2
  have f1 := f2
  clear hm2 f2
  have hV1 := hV.far (fun a a1 a2 => f1 a (by omega)) (f1 223 (by decide))
  have h51 := (f1 205 (by decide)).trans h5
  have h61 := (f1 206 (by decide)).trans h6
  have hR1 := hR.far (fun a a1 => f1 a (by omega))
  have hT1 := hT.far (fun a a1 a2 => f1 a (by omega))
  have hP1 := hP.far (fun a a1 a2 => f1 a (by omega))
  have h1961 := (f1 196 (by decide)).trans h196
  have h1971 := (f1 197 (by decide)).trans h197
  refine RQ.blk 2 (pc' := 59) (lv' := [(3, .int (nI l)), (0, .ref 196), (1, .int (nI v)), (2, .int b)]) (st' := [.int (nI v), .ref 196]) (H' := _) (kc' := 0) (ks' := 0) rfl ?_
  refine RQ.call (v := some (.int 1)) (st' := []) rfl rfl rfl rfl rfl rfl (args_v [.int (nI v)] [] rfl rfl (Nat.le_of_ble_eq_true rfl) rfl hm1 (Nat.le_of_ble_eq_true rfl)) (rc_mdirT hm1 rfl hT1.1 hv (nI_is2 hkd)) ?_
  refine RQ.brT rfl rfl rfl (by decide) ?_
  refine RQ.blk 4 (pc' := 75) (lv' := [(3, .int (nI l)), (0, .ref 196), (1, .int (nI v)), (2, .int b)]) (st' := [.int (nI l), .int 0, .int (nI v), .ref 196]) (H' := _) (kc' := 0) (ks' := 0) rfl ?_
  have hch := rc_mchild (sc := sc) (d := d + 3) (j := 0) (m := l) hm1 hT1 k5 h1961 (by omega) hv
  rw [hc] at hch
  have hcl := fstF_lt hc
  refine RQ.call (v := some (.int (nI c))) (st' := []) rfl rfl rfl rfl rfl rfl (args_v [.int (nI l), .int 0, .int (nI v)] [] rfl rfl (Nat.le_of_ble_eq_true rfl) rfl hm1 (Nat.le_of_ble_eq_true rfl)) hch ?_
  refine RQ.brF rfl rfl rfl (cF_lt c 0) ?_
  refine RQ.blk 2 (pc' := 83) (lv' := [(3, .int (nI l)), (0, .ref 196), (1, .int (nI v)), (2, .int b)]) (st' := [.int 4, .ref 196]) (H' := _) (kc' := 0) (ks' := 0) rfl ?_
  refine RQ.call (v := some (.int 0)) (st' := []) rfl rfl rfl rfl rfl rfl (args_v [.int 4] [] rfl rfl (Nat.le_of_ble_eq_true rfl) rfl hm1 (Nat.le_of_ble_eq_true rfl)) (rc_mfail hm1 rfl) ?_
  exact RQ.done (c := 0) (s := 0) rfl rfl rfl rfl ⟨_, _, rfl, rfl, ⟨us, ba, bo, get_set hm1, hV1.far (fun a a1 a2 => set_far (by omega)) (set_far (by decide)), (set_far (by decide)).trans h51, (set_far (by decide)).trans h61, hR1.far (fun a a1 => set_far (by omega)), hT1.far (fun a a1 a2 => set_far (by omega)), hP1.far (fun a a1 a2 => set_far (by omega)), (set_far (by decide)).trans h1961, (set_far (by decide)).trans h1971⟩, fun a ha => (set_far (by omega)).trans (f1 a (by omega))⟩
set_option maxRecDepth 20000 in
theorem ri_mmake_nofree {sc : Nat × (Nat → Int32)} {d l : Nat} {H : aH} {fa cw cl rs : Int32} {li : Nat} {tb : Nat → Int8} {g0 : Nat → Int8} {p : Nat} {ms : List aMV} {op : Nat → Bool} {se : Nat → Nat} {wss : Nat → List aE} {kd pa sz nl : Nat → Nat} {nm : Nat → Int8} {ps : List aPc} {v : Nat} {b : Int32} {c : Nat} (h : RefI H fa li 0 cw cl tb l rs g0 p ms op se wss kd pa sz nl nm ps) (hk : RefOk l p ms se kd pa sz nl ps) (hv : v ≤ 200) (hl1 : 1 ≤ l) (hl : l ≤ 30) (hnm : noSl tb 0 l) (hkd : kd v = 2) (hc : (fstF (inN kd pa nl nm v (sl tb 0 l)) 1 200) = none) (hfr : frI kd = c) (hc2 : 200 < c) (hc3 : c ≤ 201) : RI sc (d + 5) mr_304 [.ref 196, .int (nI v), .int b] H (fun x H' => x = 0 ∧ RefI H' 5 li 0 cw cl tb 0 rs g0 p ms op se wss kd pa sz nl nm ps ∧ ∀ a, ¬ (195 ≤ a ∧ a < 224) → H'[a]? = H[a]?) := by
  obtain ⟨us, ba, bo, hm, hV, h5, h6, hR, hT, hP, h196, h197⟩ := h
  obtain ⟨k1, k2, k3, k4, k5, k6, k7, k8⟩ := hk
  refine RI.of ?_
  refine RQ.blk 2 (pc' := 2) (lv' := [(0, .ref 196), (1, .int (nI v)), (2, .int b)]) (st' := [.int 0, .ref 196]) (H' := _) (kc' := 0) (ks' := 0) rfl ?_
  refine RQ.put (ci := 12) rfl hm rfl rfl (Nat.le_of_ble_eq_true rfl) ?_
  have hm1 : (H.set 195 (kO 12 (mfs 0 (nI li) 0 cw cl (nI l) rs (nI p) (nI ms.length) (nI us) (nI ps.length) (nI (plen ps)) ba bo)))[195]? = some (kO 12 (mfs 0 (nI li) 0 cw cl (nI l) rs (nI p) (nI ms.length) (nI us) (nI ps.length) (nI (plen ps)) ba bo)) := get_set hm
  have f1 : ∀ a, a ≠ 195 → (H.set 195 (kO 12 (mfs 0 (nI li) 0 cw cl (nI l) rs (nI p) (nI ms.length) (nI us) (nI ps.length) (nI (plen ps)) ba bo)))[a]? = H[a]? := fun a ha => set_far ha
  show RQ _ _ _ 5 [(0, .ref 196), (1, .int (nI v)), (2, .int b)] [] (H.set 195 (kO 12 (mfs 0 (nI li) 0 cw cl (nI l) rs (nI p) (nI ms.length) (nI us) (nI ps.length) (nI (plen ps)) ba bo))) 0 0 _
  generalize (H.set 195 (kO 12 (mfs 0 (nI li) 0 cw cl (nI l) rs (nI p) (nI ms.length) (nI us) (nI ps.length) (nI (plen ps)) ba bo))) = H1 at hm1 f1 ⊢
  have hV1 := hV.far (fun a a1 a2 => f1 a (by omega)) (f1 223 (by decide))
  have h51 := (f1 205 (by decide)).trans h5
  have h61 := (f1 206 (by decide)).trans h6
  have hR1 := hR.far (fun a a1 => f1 a (by omega))
  have hT1 := hT.far (fun a a1 a2 => f1 a (by omega))
  have hP1 := hP.far (fun a a1 a2 => f1 a (by omega))
  have h1961 := (f1 196 (by decide)).trans h196
  have h1971 := (f1 197 (by decide)).trans h197
  have hkv := k5 v hv
  refine RQ.blk 3 (pc' := 10) (lv' := [(0, .ref 196), (1, .int (nI v)), (2, .int b)]) (st' := [.int 201, .int (nI v), .ref 196]) (H' := _) (kc' := 0) (ks' := 0) rfl ?_
  refine RQ.call (v := some (.int 0)) (st' := []) rfl rfl rfl rfl rfl rfl (args_v [.int 201, .int (nI v)] [] rfl rfl (Nat.le_of_ble_eq_true rfl) rfl hm1 (Nat.le_of_ble_eq_true rfl)) (rc_out (v := v) (m := 201) (by omega) (by decide)) ?_
  refine RQ.brF rfl rfl rfl (by decide) ?_
  refine RQ.blk 3 (pc' := 19) (lv' := [(0, .ref 196), (1, .int (nI v)), (2, .int b)]) (st' := [.ref 196, .int 0, .ref 196]) (H' := _) (kc' := 0) (ks' := 0) rfl ?_
  refine RQ.get (ci := 12) rfl hm1 rfl rfl ?_
  refine RQ.call (v := some (.int 1)) (st' := []) rfl rfl rfl rfl rfl rfl (args_v [.int (nI l), .int 0] [] rfl rfl (Nat.le_of_ble_eq_true rfl) rfl hm1 (Nat.le_of_ble_eq_true rfl)) (rc_named1 (i := 0) (n := l) hm1 h1961 (by decide) (by omega) hl1 hl hnm) ?_
  refine RQ.brT rfl rfl rfl (by decide) ?_
  refine RQ.blk 1 (pc' := 35) (lv' := [(0, .ref 196), (1, .int (nI v)), (2, .int b)]) (st' := [.ref 196]) (H' := _) (kc' := 0) (ks' := 0) rfl ?_
  refine RQ.get (ci := 12) rfl hm1 rfl rfl ?_
  refine RQ.brT rfl rfl rfl (by decide) ?_
  refine RQ.blk 1 (pc' := 48) (lv' := [(0, .ref 196), (1, .int (nI v)), (2, .int b)]) (st' := [.ref 196]) (H' := _) (kc' := 0) (ks' := 0) rfl ?_
  refine RQ.get (ci := 12) rfl hm1 rfl rfl ?_
  refine RQ.blk 3 (pc' := 54) (lv' := [(3, .int (nI l)), (0, .ref 196), (1, .int (nI v)), (2, .int b)]) (st' := [.int 0, .ref 196]) (H' := _) (kc' := 0) (ks' := 0) rfl ?_
  refine RQ.put (ci := 12) rfl hm1 rfl rfl (Nat.le_of_ble_eq_true rfl) ?_
  have hm2 : (H1.set 195 (kO 12 (mfs 0 (nI li) 0 cw cl (nI 0) rs (nI p) (nI ms.length) (nI us) (nI ps.length) (nI (plen ps)) ba bo)))[195]? = some (kO 12 (mfs 0 (nI li) 0 cw cl (nI 0) rs (nI p) (nI ms.length) (nI us) (nI ps.length) (nI (plen ps)) ba bo)) := get_set hm1
  have f2 : ∀ a, a ≠ 195 → (H1.set 195 (kO 12 (mfs 0 (nI li) 0 cw cl (nI 0) rs (nI p) (nI ms.length) (nI us) (nI ps.length) (nI (plen ps)) ba bo)))[a]? = H[a]? := fun a ha => (set_far ha).trans (f1 a ha)
  show RQ _ _ _ 57 [(3, .int (nI l)), (0, .ref 196), (1, .int (nI v)), (2, .int b)] [] (H1.set 195 (kO 12 (mfs 0 (nI li) 0 cw cl (nI 0) rs (nI p) (nI ms.length) (nI us) (nI ps.length) (nI (plen ps)) ba bo))) 0 0 _
  generalize (H1.set 195 (kO 12 (mfs 0 (nI li) 0 cw cl (nI 0) rs (nI p) (nI ms.length) (nI us) (nI ps.length) (nI (plen ps)) ba bo))) = H2 at hm2 f2 ⊢
  clear hm1 f1 hV1 h51 h61 hR1 hT1 hP1 h1961 h1971
  have hm1 := hm2
  have f1 := f2
  clear hm2 f2
  have hV1 := hV.far (fun a a1 a2 => f1 a (by omega)) (f1 223 (by decide))
  have h51 := (f1 205 (by decide)).trans h5
  have h61 := (f1 206 (by decide)).trans h6
  have hR1 := hR.far (fun a a1 => f1 a (by omega))
  have hT1 := hT.far (fun a a1 a2 => f1 a (by omega))
  have hP1 := hP.far (fun a a1 a2 => f1 a (by omega))
  have h1961 := (f1 196 (by decide)).trans h196
  have h1971 := (f1 197 (by decide)).trans h197
  refine RQ.blk 2 (pc' := 59) (lv' := [(3, .int (nI l)), (0, .ref 196), (1, .int (nI v)), (2, .int b)]) (st' := [.int (nI v), .ref 196]) (H' := _) (kc' := 0) (ks' := 0) rfl ?_
  refine RQ.call (v := some (.int 1)) (st' := []) rfl rfl rfl rfl rfl rfl (args_v [.int (nI v)] [] rfl rfl (Nat.le_of_ble_eq_true rfl) rfl hm1 (Nat.le_of_ble_eq_true rfl)) (rc_mdirT hm1 rfl hT1.1 hv (nI_is2 hkd)) ?_
  refine RQ.brT rfl rfl rfl (by decide) ?_
  refine RQ.blk 4 (pc' := 75) (lv' := [(3, .int (nI l)), (0, .ref 196), (1, .int (nI v)), (2, .int b)]) (st' := [.int (nI l), .int 0, .int (nI v), .ref 196]) (H' := _) (kc' := 0) (ks' := 0) rfl ?_
  have hch := rc_mchild (sc := sc) (d := d + 3) (j := 0) (m := l) hm1 hT1 k5 h1961 (by omega) hv
  rw [hc] at hch
  refine RQ.call (v := some (.int (-1))) (st' := []) rfl rfl rfl rfl rfl rfl (args_v [.int (nI l), .int 0, .int (nI v)] [] rfl rfl (Nat.le_of_ble_eq_true rfl) rfl hm1 (Nat.le_of_ble_eq_true rfl)) hch ?_
  refine RQ.brT rfl rfl rfl (by decide) ?_
  refine RQ.blk 2 (pc' := 90) (lv' := [(4, .int 1), (3, .int (nI l)), (0, .ref 196), (1, .int (nI v)), (2, .int b)]) (st' := []) (H' := _) (kc' := 0) (ks' := 0) rfl ?_
  refine RQ.pick (a := [(4, .int 1), (0, .ref 196), (1, .int (nI v)), (2, .int b), (3, .int (nI l))]) [0, 2, 3, 4, 1] [4, 3, 0, 1, 2] rfl rfl (by decide) ?_
  refine rq_mmk hm1 rfl hT1.1 (fun i hi => (k5 i hi).1) ?_
  rw [hfr]
  refine RQ.blk 2 (pc' := 119) (lv' := [(4, .int (nI c)), (0, .ref 196), (1, .int (nI v)), (2, .int b), (3, .int (nI l))]) (st' := [.int 200, .int (nI c)]) (H' := _) (kc' := 0) (ks' := 0) rfl ?_
  refine RQ.brT rfl rfl rfl (cT_gt c 200) ?_
  refine RQ.blk 2 (pc' := 141) (lv' := [(4, .int (nI c)), (0, .ref 196), (1, .int (nI v)), (2, .int b), (3, .int (nI l))]) (st' := [.int 5, .ref 196]) (H' := _) (kc' := 0) (ks' := 0) rfl ?_
  refine RQ.call (v := some (.int 0)) (st' := []) rfl rfl rfl rfl rfl rfl (args_v [.int 5] [] rfl rfl (Nat.le_of_ble_eq_true rfl) rfl hm1 (Nat.le_of_ble_eq_true rfl)) (rc_mfail hm1 rfl) ?_
  exact RQ.done (c := 0) (s := 0) rfl rfl rfl rfl ⟨_, _, rfl, rfl, ⟨us, ba, bo, get_set hm1, hV1.far (fun a a1 a2 => set_far (by omega)) (set_far (by decide)), (set_far (by decide)).trans h51, (set_far (by decide)).trans h61, hR1.far (fun a a1 => set_far (by omega)), hT1.far (fun a a1 a2 => set_far (by omega)), hP1.far (fun a a1 a2 => set_far (by omega)), (set_far (by decide)).trans h1961, (set_far (by decide)).trans h1971⟩, fun a ha => (set_far (by omega)).trans (f1 a (by omega))⟩
set_option maxRecDepth 20000 in
theorem ri_mmake_full {sc : Nat × (Nat → Int32)} {d l : Nat} {H : aH} {fa cw cl rs : Int32} {li : Nat} {tb : Nat → Int8} {g0 : Nat → Int8} {p : Nat} {ms : List aMV} {op : Nat → Bool} {se : Nat → Nat} {wss : Nat → List aE} {kd pa sz nl : Nat → Nat} {nm : Nat → Int8} {ps : List aPc} {v : Nat} {b : Int32} {c : Nat} (h : RefI H fa li 0 cw cl tb l rs g0 p ms op se wss kd pa sz nl nm ps) (hk : RefOk l p ms se kd pa sz nl ps) (hv : v ≤ 200) (hl1 : 1 ≤ l) (hl : l ≤ 30) (hnm : noSl tb 0 l) (hkd : kd v = 2) (hc : (fstF (inN kd pa nl nm v (sl tb 0 l)) 1 200) = none) (hfr : frI kd = c) (hc1 : 1 ≤ c) (hc2 : c ≤ 200) (hli : li < 2 ^ 31) (hnd : (ndR op se (-1) p ms kd nl ps) + 62 + l < 2 ^ 31) (hfull : li < (ndR op se (-1) p ms kd nl ps) + 62 + l) : RI sc (d + 5) mr_304 [.ref 196, .int (nI v), .int b] H (fun x H' => x = 0 ∧ RefI H' 5 li 0 cw cl tb 0 rs g0 p ms op se wss kd pa sz nl nm ps ∧ ∀ a, ¬ (195 ≤ a ∧ a < 224) → H'[a]? = H[a]?) := by
  obtain ⟨us, ba, bo, hm, hV, h5, h6, hR, hT, hP, h196, h197⟩ := h
  obtain ⟨k1, k2, k3, k4, k5, k6, k7, k8⟩ := hk
  refine RI.of ?_
  refine RQ.blk 2 (pc' := 2) (lv' := [(0, .ref 196), (1, .int (nI v)), (2, .int b)]) (st' := [.int 0, .ref 196]) (H' := _) (kc' := 0) (ks' := 0) rfl ?_
  refine RQ.put (ci := 12) rfl hm rfl rfl (Nat.le_of_ble_eq_true rfl) ?_
  have hm1 : (H.set 195 (kO 12 (mfs 0 (nI li) 0 cw cl (nI l) rs (nI p) (nI ms.length) (nI us) (nI ps.length) (nI (plen ps)) ba bo)))[195]? = some (kO 12 (mfs 0 (nI li) 0 cw cl (nI l) rs (nI p) (nI ms.length) (nI us) (nI ps.length) (nI (plen ps)) ba bo)) := get_set hm
  have f1 : ∀ a, a ≠ 195 → (H.set 195 (kO 12 (mfs 0 (nI li) 0 cw cl (nI l) rs (nI p) (nI ms.length) (nI us) (nI ps.length) (nI (plen ps)) ba bo)))[a]? = H[a]? := fun a ha => set_far ha
  show RQ _ _ _ 5 [(0, .ref 196), (1, .int (nI v)), (2, .int b)] [] (H.set 195 (kO 12 (mfs 0 (nI li) 0 cw cl (nI l) rs (nI p) (nI ms.length) (nI us) (nI ps.length) (nI (plen ps)) ba bo))) 0 0 _
  generalize (H.set 195 (kO 12 (mfs 0 (nI li) 0 cw cl (nI l) rs (nI p) (nI ms.length) (nI us) (nI ps.length) (nI (plen ps)) ba bo))) = H1 at hm1 f1 ⊢
  have hV1 := hV.far (fun a a1 a2 => f1 a (by omega)) (f1 223 (by decide))
  have h51 := (f1 205 (by decide)).trans h5
  have h61 := (f1 206 (by decide)).trans h6
  have hR1 := hR.far (fun a a1 => f1 a (by omega))
  have hT1 := hT.far (fun a a1 a2 => f1 a (by omega))
  have hP1 := hP.far (fun a a1 a2 => f1 a (by omega))
  have h1961 := (f1 196 (by decide)).trans h196
  have h1971 := (f1 197 (by decide)).trans h197
  have hkv := k5 v hv
  refine RQ.blk 3 (pc' := 10) (lv' := [(0, .ref 196), (1, .int (nI v)), (2, .int b)]) (st' := [.int 201, .int (nI v), .ref 196]) (H' := _) (kc' := 0) (ks' := 0) rfl ?_
  refine RQ.call (v := some (.int 0)) (st' := []) rfl rfl rfl rfl rfl rfl (args_v [.int 201, .int (nI v)] [] rfl rfl (Nat.le_of_ble_eq_true rfl) rfl hm1 (Nat.le_of_ble_eq_true rfl)) (rc_out (v := v) (m := 201) (by omega) (by decide)) ?_
  refine RQ.brF rfl rfl rfl (by decide) ?_
  refine RQ.blk 3 (pc' := 19) (lv' := [(0, .ref 196), (1, .int (nI v)), (2, .int b)]) (st' := [.ref 196, .int 0, .ref 196]) (H' := _) (kc' := 0) (ks' := 0) rfl ?_
  refine RQ.get (ci := 12) rfl hm1 rfl rfl ?_
  refine RQ.call (v := some (.int 1)) (st' := []) rfl rfl rfl rfl rfl rfl (args_v [.int (nI l), .int 0] [] rfl rfl (Nat.le_of_ble_eq_true rfl) rfl hm1 (Nat.le_of_ble_eq_true rfl)) (rc_named1 (i := 0) (n := l) hm1 h1961 (by decide) (by omega) hl1 hl hnm) ?_
  refine RQ.brT rfl rfl rfl (by decide) ?_
  refine RQ.blk 1 (pc' := 35) (lv' := [(0, .ref 196), (1, .int (nI v)), (2, .int b)]) (st' := [.ref 196]) (H' := _) (kc' := 0) (ks' := 0) rfl ?_
  refine RQ.get (ci := 12) rfl hm1 rfl rfl ?_
  refine RQ.brT rfl rfl rfl (by decide) ?_
  refine RQ.blk 1 (pc' := 48) (lv' := [(0, .ref 196), (1, .int (nI v)), (2, .int b)]) (st' := [.ref 196]) (H' := _) (kc' := 0) (ks' := 0) rfl ?_
  refine RQ.get (ci := 12) rfl hm1 rfl rfl ?_
  refine RQ.blk 3 (pc' := 54) (lv' := [(3, .int (nI l)), (0, .ref 196), (1, .int (nI v)), (2, .int b)]) (st' := [.int 0, .ref 196]) (H' := _) (kc' := 0) (ks' := 0) rfl ?_
  refine RQ.put (ci := 12) rfl hm1 rfl rfl (Nat.le_of_ble_eq_true rfl) ?_
  have hm2 : (H1.set 195 (kO 12 (mfs 0 (nI li) 0 cw cl (nI 0) rs (nI p) (nI ms.length) (nI us) (nI ps.length) (nI (plen ps)) ba bo)))[195]? = some (kO 12 (mfs 0 (nI li) 0 cw cl (nI 0) rs (nI p) (nI ms.length) (nI us) (nI ps.length) (nI (plen ps)) ba bo)) := get_set hm1
  have f2 : ∀ a, a ≠ 195 → (H1.set 195 (kO 12 (mfs 0 (nI li) 0 cw cl (nI 0) rs (nI p) (nI ms.length) (nI us) (nI ps.length) (nI (plen ps)) ba bo)))[a]? = H[a]? := fun a ha => (set_far ha).trans (f1 a ha)
  show RQ _ _ _ 57 [(3, .int (nI l)), (0, .ref 196), (1, .int (nI v)), (2, .int b)] [] (H1.set 195 (kO 12 (mfs 0 (nI li) 0 cw cl (nI 0) rs (nI p) (nI ms.length) (nI us) (nI ps.length) (nI (plen ps)) ba bo))) 0 0 _
  generalize (H1.set 195 (kO 12 (mfs 0 (nI li) 0 cw cl (nI 0) rs (nI p) (nI ms.length) (nI us) (nI ps.length) (nI (plen ps)) ba bo))) = H2 at hm2 f2 ⊢
  clear hm1 f1 hV1 h51 h61 hR1 hT1 hP1 h1961 h1971
  have hm1 := hm2
  have f1 := f2
  clear hm2 f2
  have hV1 := hV.far (fun a a1 a2 => f1 a (by omega)) (f1 223 (by decide))
  have h51 := (f1 205 (by decide)).trans h5
  have h61 := (f1 206 (by decide)).trans h6
  have hR1 := hR.far (fun a a1 => f1 a (by omega))
  have hT1 := hT.far (fun a a1 a2 => f1 a (by omega))
  have hP1 := hP.far (fun a a1 a2 => f1 a (by omega))
  have h1961 := (f1 196 (by decide)).trans h196
  have h1971 := (f1 197 (by decide)).trans h197
  refine RQ.blk 2 (pc' := 59) (lv' := [(3, .int (nI l)), (0, .ref 196), (1, .int (nI v)), (2, .int b)]) (st' := [.int (nI v), .ref 196]) (H' := _) (kc' := 0) (ks' := 0) rfl ?_
  refine RQ.call (v := some (.int 1)) (st' := []) rfl rfl rfl rfl rfl rfl (args_v [.int (nI v)] [] rfl rfl (Nat.le_of_ble_eq_true rfl) rfl hm1 (Nat.le_of_ble_eq_true rfl)) (rc_mdirT hm1 rfl hT1.1 hv (nI_is2 hkd)) ?_
  refine RQ.brT rfl rfl rfl (by decide) ?_
  refine RQ.blk 4 (pc' := 75) (lv' := [(3, .int (nI l)), (0, .ref 196), (1, .int (nI v)), (2, .int b)]) (st' := [.int (nI l), .int 0, .int (nI v), .ref 196]) (H' := _) (kc' := 0) (ks' := 0) rfl ?_
  have hch := rc_mchild (sc := sc) (d := d + 3) (j := 0) (m := l) hm1 hT1 k5 h1961 (by omega) hv
  rw [hc] at hch
  refine RQ.call (v := some (.int (-1))) (st' := []) rfl rfl rfl rfl rfl rfl (args_v [.int (nI l), .int 0, .int (nI v)] [] rfl rfl (Nat.le_of_ble_eq_true rfl) rfl hm1 (Nat.le_of_ble_eq_true rfl)) hch ?_
  refine RQ.brT rfl rfl rfl (by decide) ?_
  refine RQ.blk 2 (pc' := 90) (lv' := [(4, .int 1), (3, .int (nI l)), (0, .ref 196), (1, .int (nI v)), (2, .int b)]) (st' := []) (H' := _) (kc' := 0) (ks' := 0) rfl ?_
  refine RQ.pick (a := [(4, .int 1), (0, .ref 196), (1, .int (nI v)), (2, .int b), (3, .int (nI l))]) [0, 2, 3, 4, 1] [4, 3, 0, 1, 2] rfl rfl (by decide) ?_
  refine rq_mmk hm1 rfl hT1.1 (fun i hi => (k5 i hi).1) ?_
  rw [hfr]
  refine RQ.blk 2 (pc' := 119) (lv' := [(4, .int (nI c)), (0, .ref 196), (1, .int (nI v)), (2, .int b), (3, .int (nI l))]) (st' := [.int 200, .int (nI c)]) (H' := _) (kc' := 0) (ks' := 0) rfl ?_
  refine RQ.brF rfl rfl rfl (cF_gt c 200) ?_
  refine RQ.blk 2 (pc' := 124) (lv' := [(4, .int (nI c)), (0, .ref 196), (1, .int (nI v)), (2, .int b), (3, .int (nI l))]) (st' := [.int (-1), .ref 196]) (H' := _) (kc' := 0) (ks' := 0) rfl ?_
  refine RQ.call (v := some (.int (nI (ndR op se (-1) p ms kd nl ps)))) (st' := []) rfl rfl rfl rfl rfl rfl (args_v [.int (-1)] [] rfl rfl (Nat.le_of_ble_eq_true rfl) rfl hm1 (Nat.le_of_ble_eq_true rfl)) (rc_mneedR (x := -1) hm1 hV1 k3 h51 h61 k4 hT1 k5 hP1 k6 (by omega)) ?_
  refine RQ.blk 2 (pc' := 130) (lv' := [(4, .int (nI c)), (0, .ref 196), (1, .int (nI v)), (2, .int b), (3, .int (nI l))]) (st' := [.int (nI (ndR op se (-1) p ms kd nl ps) + 62)]) (H' := _) (kc' := 0) (ks' := 0) rfl ?_
  rw [show (nI (ndR op se (-1) p ms kd nl ps) + 62 : Int32) = nI (ndR op se (-1) p ms kd nl ps + 62) from nI_add (ndR op se (-1) p ms kd nl ps) 62]
  refine RQ.blk 2 (pc' := 132) (lv' := [(4, .int (nI c)), (0, .ref 196), (1, .int (nI v)), (2, .int b), (3, .int (nI l))]) (st' := [.int (nI (ndR op se (-1) p ms kd nl ps + 62) + nI l)]) (H' := _) (kc' := 0) (ks' := 0) rfl ?_
  rw [show (nI (ndR op se (-1) p ms kd nl ps + 62) + nI l : Int32) = nI (ndR op se (-1) p ms kd nl ps + 62 + l) from nI_add (ndR op se (-1) p ms kd nl ps + 62) l]
  refine RQ.blk 1 (pc' := 133) (lv' := [(4, .int (nI c)), (0, .ref 196), (1, .int (nI v)), (2, .int b), (3, .int (nI l))]) (st' := [.ref 196, .int (nI (ndR op se (-1) p ms kd nl ps + 62 + l))]) (H' := _) (kc' := 0) (ks' := 0) rfl ?_
  refine RQ.get (ci := 12) rfl hm1 rfl rfl ?_
  refine RQ.brF rfl rfl rfl (cF_le ((ndR op se (-1) p ms kd nl ps) + 62 + l) li) ?_
  refine RQ.blk 2 (pc' := 141) (lv' := [(4, .int (nI c)), (0, .ref 196), (1, .int (nI v)), (2, .int b), (3, .int (nI l))]) (st' := [.int 5, .ref 196]) (H' := _) (kc' := 0) (ks' := 0) rfl ?_
  refine RQ.call (v := some (.int 0)) (st' := []) rfl rfl rfl rfl rfl rfl (args_v [.int 5] [] rfl rfl (Nat.le_of_ble_eq_true rfl) rfl hm1 (Nat.le_of_ble_eq_true rfl)) (rc_mfail hm1 rfl) ?_
  exact RQ.done (c := 0) (s := 0) rfl rfl rfl rfl ⟨_, _, rfl, rfl, ⟨us, ba, bo, get_set hm1, hV1.far (fun a a1 a2 => set_far (by omega)) (set_far (by decide)), (set_far (by decide)).trans h51, (set_far (by decide)).trans h61, hR1.far (fun a a1 => set_far (by omega)), hT1.far (fun a a1 a2 => set_far (by omega)), hP1.far (fun a a1 a2 => set_far (by omega)), (set_far (by decide)).trans h1961, (set_far (by decide)).trans h1971⟩, fun a ha => (set_far (by omega)).trans (f1 a (by omega))⟩
set_option maxRecDepth 20000 in
theorem ri_mmake_lost {sc : Nat × (Nat → Int32)} {d l : Nat} {H : aH} {fa rs : Int32} {li : Nat} {tb : Nat → Int8} {g0 : Nat → Int8} {p : Nat} {ms : List aMV} {op : Nat → Bool} {se : Nat → Nat} {wss : Nat → List aE} {kd pa sz nl : Nat → Nat} {nm : Nat → Int8} {ps : List aPc} {v : Nat} {b : Int32} {c : Nat} (h : RefI H fa li 0 1 0 tb l rs g0 p ms op se wss kd pa sz nl nm ps) (hk : RefOk l p ms se kd pa sz nl ps) (hv : v ≤ 200) (hl1 : 1 ≤ l) (hl : l ≤ 30) (hnm : noSl tb 0 l) (hkd : kd v = 2) (hc : (fstF (inN kd pa nl nm v (sl tb 0 l)) 1 200) = none) (hfr : frI kd = c) (hc1 : 1 ≤ c) (hc2 : c ≤ 200) (hli : li < 2 ^ 31) (hnd : (ndR op se (-1) p ms kd nl ps) + 62 + l < 2 ^ 31) (hfits : (ndR op se (-1) p ms kd nl ps) + 62 + l ≤ li) : RI sc (d + 5) mr_304 [.ref 196, .int (nI v), .int b] H (fun x H' => x = 0 ∧ RefI H' 2 li 1 0 0 tb 0 0 g0 p (ms.filter (keepM (fun j => if j < 8 then false else op j) se p (kmM ms))) (fun j => if j < 8 then false else op j) se wss kd pa sz nl nm ps ∧ ∀ a, ¬ (195 ≤ a ∧ a < 224) → H'[a]? = H[a]?) := by
  obtain ⟨us, ba, bo, hm, hV, h5, h6, hR, hT, hP, h196, h197⟩ := h
  obtain ⟨k1, k2, k3, k4, k5, k6, k7, k8⟩ := hk
  refine RI.of ?_
  refine RQ.blk 2 (pc' := 2) (lv' := [(0, .ref 196), (1, .int (nI v)), (2, .int b)]) (st' := [.int 0, .ref 196]) (H' := _) (kc' := 0) (ks' := 0) rfl ?_
  refine RQ.put (ci := 12) rfl hm rfl rfl (Nat.le_of_ble_eq_true rfl) ?_
  have hm1 : (H.set 195 (kO 12 (mfs 0 (nI li) 0 1 0 (nI l) rs (nI p) (nI ms.length) (nI us) (nI ps.length) (nI (plen ps)) ba bo)))[195]? = some (kO 12 (mfs 0 (nI li) 0 1 0 (nI l) rs (nI p) (nI ms.length) (nI us) (nI ps.length) (nI (plen ps)) ba bo)) := get_set hm
  have f1 : ∀ a, a ≠ 195 → (H.set 195 (kO 12 (mfs 0 (nI li) 0 1 0 (nI l) rs (nI p) (nI ms.length) (nI us) (nI ps.length) (nI (plen ps)) ba bo)))[a]? = H[a]? := fun a ha => set_far ha
  show RQ _ _ _ 5 [(0, .ref 196), (1, .int (nI v)), (2, .int b)] [] (H.set 195 (kO 12 (mfs 0 (nI li) 0 1 0 (nI l) rs (nI p) (nI ms.length) (nI us) (nI ps.length) (nI (plen ps)) ba bo))) 0 0 _
  generalize (H.set 195 (kO 12 (mfs 0 (nI li) 0 1 0 (nI l) rs (nI p) (nI ms.length) (nI us) (nI ps.length) (nI (plen ps)) ba bo))) = H1 at hm1 f1 ⊢
  have hV1 := hV.far (fun a a1 a2 => f1 a (by omega)) (f1 223 (by decide))
  have h51 := (f1 205 (by decide)).trans h5
  have h61 := (f1 206 (by decide)).trans h6
  have hR1 := hR.far (fun a a1 => f1 a (by omega))
  have hT1 := hT.far (fun a a1 a2 => f1 a (by omega))
  have hP1 := hP.far (fun a a1 a2 => f1 a (by omega))
  have h1961 := (f1 196 (by decide)).trans h196
  have h1971 := (f1 197 (by decide)).trans h197
  have hkv := k5 v hv
  refine RQ.blk 3 (pc' := 10) (lv' := [(0, .ref 196), (1, .int (nI v)), (2, .int b)]) (st' := [.int 201, .int (nI v), .ref 196]) (H' := _) (kc' := 0) (ks' := 0) rfl ?_
  refine RQ.call (v := some (.int 0)) (st' := []) rfl rfl rfl rfl rfl rfl (args_v [.int 201, .int (nI v)] [] rfl rfl (Nat.le_of_ble_eq_true rfl) rfl hm1 (Nat.le_of_ble_eq_true rfl)) (rc_out (v := v) (m := 201) (by omega) (by decide)) ?_
  refine RQ.brF rfl rfl rfl (by decide) ?_
  refine RQ.blk 3 (pc' := 19) (lv' := [(0, .ref 196), (1, .int (nI v)), (2, .int b)]) (st' := [.ref 196, .int 0, .ref 196]) (H' := _) (kc' := 0) (ks' := 0) rfl ?_
  refine RQ.get (ci := 12) rfl hm1 rfl rfl ?_
  refine RQ.call (v := some (.int 1)) (st' := []) rfl rfl rfl rfl rfl rfl (args_v [.int (nI l), .int 0] [] rfl rfl (Nat.le_of_ble_eq_true rfl) rfl hm1 (Nat.le_of_ble_eq_true rfl)) (rc_named1 (i := 0) (n := l) hm1 h1961 (by decide) (by omega) hl1 hl hnm) ?_
  refine RQ.brT rfl rfl rfl (by decide) ?_
  refine RQ.blk 1 (pc' := 35) (lv' := [(0, .ref 196), (1, .int (nI v)), (2, .int b)]) (st' := [.ref 196]) (H' := _) (kc' := 0) (ks' := 0) rfl ?_
  refine RQ.get (ci := 12) rfl hm1 rfl rfl ?_
  refine RQ.brT rfl rfl rfl (by decide) ?_
  refine RQ.blk 1 (pc' := 48) (lv' := [(0, .ref 196), (1, .int (nI v)), (2, .int b)]) (st' := [.ref 196]) (H' := _) (kc' := 0) (ks' := 0) rfl ?_
  refine RQ.get (ci := 12) rfl hm1 rfl rfl ?_
  refine RQ.blk 3 (pc' := 54) (lv' := [(3, .int (nI l)), (0, .ref 196), (1, .int (nI v)), (2, .int b)]) (st' := [.int 0, .ref 196]) (H' := _) (kc' := 0) (ks' := 0) rfl ?_
  refine RQ.put (ci := 12) rfl hm1 rfl rfl (Nat.le_of_ble_eq_true rfl) ?_
  have hm2 : (H1.set 195 (kO 12 (mfs 0 (nI li) 0 1 0 (nI 0) rs (nI p) (nI ms.length) (nI us) (nI ps.length) (nI (plen ps)) ba bo)))[195]? = some (kO 12 (mfs 0 (nI li) 0 1 0 (nI 0) rs (nI p) (nI ms.length) (nI us) (nI ps.length) (nI (plen ps)) ba bo)) := get_set hm1
  have f2 : ∀ a, a ≠ 195 → (H1.set 195 (kO 12 (mfs 0 (nI li) 0 1 0 (nI 0) rs (nI p) (nI ms.length) (nI us) (nI ps.length) (nI (plen ps)) ba bo)))[a]? = H[a]? := fun a ha => (set_far ha).trans (f1 a ha)
  show RQ _ _ _ 57 [(3, .int (nI l)), (0, .ref 196), (1, .int (nI v)), (2, .int b)] [] (H1.set 195 (kO 12 (mfs 0 (nI li) 0 1 0 (nI 0) rs (nI p) (nI ms.length) (nI us) (nI ps.length) (nI (plen ps)) ba bo))) 0 0 _
  generalize (H1.set 195 (kO 12 (mfs 0 (nI li) 0 1 0 (nI 0) rs (nI p) (nI ms.length) (nI us) (nI ps.length) (nI (plen ps)) ba bo))) = H2 at hm2 f2 ⊢
  clear hm1 f1 hV1 h51 h61 hR1 hT1 hP1 h1961 h1971
  have hm1 := hm2
  have f1 := f2
  clear hm2 f2
  have hV1 := hV.far (fun a a1 a2 => f1 a (by omega)) (f1 223 (by decide))
  have h51 := (f1 205 (by decide)).trans h5
  have h61 := (f1 206 (by decide)).trans h6
  have hR1 := hR.far (fun a a1 => f1 a (by omega))
  have hT1 := hT.far (fun a a1 a2 => f1 a (by omega))
  have hP1 := hP.far (fun a a1 a2 => f1 a (by omega))
  have h1961 := (f1 196 (by decide)).trans h196
  have h1971 := (f1 197 (by decide)).trans h197
  refine RQ.blk 2 (pc' := 59) (lv' := [(3, .int (nI l)), (0, .ref 196), (1, .int (nI v)), (2, .int b)]) (st' := [.int (nI v), .ref 196]) (H' := _) (kc' := 0) (ks' := 0) rfl ?_
  refine RQ.call (v := some (.int 1)) (st' := []) rfl rfl rfl rfl rfl rfl (args_v [.int (nI v)] [] rfl rfl (Nat.le_of_ble_eq_true rfl) rfl hm1 (Nat.le_of_ble_eq_true rfl)) (rc_mdirT hm1 rfl hT1.1 hv (nI_is2 hkd)) ?_
  refine RQ.brT rfl rfl rfl (by decide) ?_
  refine RQ.blk 4 (pc' := 75) (lv' := [(3, .int (nI l)), (0, .ref 196), (1, .int (nI v)), (2, .int b)]) (st' := [.int (nI l), .int 0, .int (nI v), .ref 196]) (H' := _) (kc' := 0) (ks' := 0) rfl ?_
  have hch := rc_mchild (sc := sc) (d := d + 3) (j := 0) (m := l) hm1 hT1 k5 h1961 (by omega) hv
  rw [hc] at hch
  refine RQ.call (v := some (.int (-1))) (st' := []) rfl rfl rfl rfl rfl rfl (args_v [.int (nI l), .int 0, .int (nI v)] [] rfl rfl (Nat.le_of_ble_eq_true rfl) rfl hm1 (Nat.le_of_ble_eq_true rfl)) hch ?_
  refine RQ.brT rfl rfl rfl (by decide) ?_
  refine RQ.blk 2 (pc' := 90) (lv' := [(4, .int 1), (3, .int (nI l)), (0, .ref 196), (1, .int (nI v)), (2, .int b)]) (st' := []) (H' := _) (kc' := 0) (ks' := 0) rfl ?_
  refine RQ.pick (a := [(4, .int 1), (0, .ref 196), (1, .int (nI v)), (2, .int b), (3, .int (nI l))]) [0, 2, 3, 4, 1] [4, 3, 0, 1, 2] rfl rfl (by decide) ?_
  refine rq_mmk hm1 rfl hT1.1 (fun i hi => (k5 i hi).1) ?_
  rw [hfr]
  refine RQ.blk 2 (pc' := 119) (lv' := [(4, .int (nI c)), (0, .ref 196), (1, .int (nI v)), (2, .int b), (3, .int (nI l))]) (st' := [.int 200, .int (nI c)]) (H' := _) (kc' := 0) (ks' := 0) rfl ?_
  refine RQ.brF rfl rfl rfl (cF_gt c 200) ?_
  refine RQ.blk 2 (pc' := 124) (lv' := [(4, .int (nI c)), (0, .ref 196), (1, .int (nI v)), (2, .int b), (3, .int (nI l))]) (st' := [.int (-1), .ref 196]) (H' := _) (kc' := 0) (ks' := 0) rfl ?_
  refine RQ.call (v := some (.int (nI (ndR op se (-1) p ms kd nl ps)))) (st' := []) rfl rfl rfl rfl rfl rfl (args_v [.int (-1)] [] rfl rfl (Nat.le_of_ble_eq_true rfl) rfl hm1 (Nat.le_of_ble_eq_true rfl)) (rc_mneedR (x := -1) hm1 hV1 k3 h51 h61 k4 hT1 k5 hP1 k6 (by omega)) ?_
  refine RQ.blk 2 (pc' := 130) (lv' := [(4, .int (nI c)), (0, .ref 196), (1, .int (nI v)), (2, .int b), (3, .int (nI l))]) (st' := [.int (nI (ndR op se (-1) p ms kd nl ps) + 62)]) (H' := _) (kc' := 0) (ks' := 0) rfl ?_
  rw [show (nI (ndR op se (-1) p ms kd nl ps) + 62 : Int32) = nI (ndR op se (-1) p ms kd nl ps + 62) from nI_add (ndR op se (-1) p ms kd nl ps) 62]
  refine RQ.blk 2 (pc' := 132) (lv' := [(4, .int (nI c)), (0, .ref 196), (1, .int (nI v)), (2, .int b), (3, .int (nI l))]) (st' := [.int (nI (ndR op se (-1) p ms kd nl ps + 62) + nI l)]) (H' := _) (kc' := 0) (ks' := 0) rfl ?_
  rw [show (nI (ndR op se (-1) p ms kd nl ps + 62) + nI l : Int32) = nI (ndR op se (-1) p ms kd nl ps + 62 + l) from nI_add (ndR op se (-1) p ms kd nl ps + 62) l]
  refine RQ.blk 1 (pc' := 133) (lv' := [(4, .int (nI c)), (0, .ref 196), (1, .int (nI v)), (2, .int b), (3, .int (nI l))]) (st' := [.ref 196, .int (nI (ndR op se (-1) p ms kd nl ps + 62 + l))]) (H' := _) (kc' := 0) (ks' := 0) rfl ?_
  refine RQ.get (ci := 12) rfl hm1 rfl rfl ?_
  refine RQ.brT rfl rfl rfl (cT_le ((ndR op se (-1) p ms kd nl ps) + 62 + l) li) ?_
  refine RQ.blk 2 (pc' := 147) (lv' := [(4, .int (nI c)), (0, .ref 196), (1, .int (nI v)), (2, .int b), (3, .int (nI l))]) (st' := [.int 2, .ref 196]) (H' := _) (kc' := 0) (ks' := 0) rfl ?_
  refine RQ.callI (st' := []) rfl rfl rfl rfl rfl rfl (args_v [.int 2] [] rfl rfl (Nat.le_of_ble_eq_true rfl) rfl hm1 (Nat.le_of_ble_eq_true rfl)) (ri_mlost1 (x := 2) hm1 h51) (fun y H2 hy => ?_)
  obtain ⟨ey, hm2, h52, f2⟩ := hy
  rw [ey]
  refine RQ.brF rfl rfl rfl (by decide) ?_
  refine RQ.blk 1 (pc' := 154) (lv' := [(4, .int (nI c)), (0, .ref 196), (1, .int (nI v)), (2, .int b), (3, .int (nI l))]) (st' := [.ref 196]) (H' := _) (kc' := 0) (ks' := 0) rfl ?_
  have g2 : ∀ a, a ≠ 195 → a ≠ 205 → H2[a]? = H[a]? := fun a a1 a2 => (f2 a a1 a2).trans (f1 a a1)
  refine RQ.callN (st' := []) rfl rfl rfl rfl rfl rfl (args_v [] [] rfl rfl (Nat.le_of_ble_eq_true rfl) rfl hm2 (Nat.le_of_ble_eq_true rfl)) (rn_pruneL (op := (fun j => if j < 8 then false else op j)) hm2 (hV.far (fun a a1 a2 => g2 a (by omega) (by omega)) (g2 223 (by decide) (by decide))) k3 h52 ((g2 206 (by decide) (by decide)).trans h6) k4 (by omega)) (fun H3 hz => ?_)
  obtain ⟨us', hm3, hV3, f3⟩ := hz
  refine RQ.blk 1 (pc' := 158) (lv' := [(4, .int (nI c)), (0, .ref 196), (1, .int (nI v)), (2, .int b), (3, .int (nI l))]) (st' := [.int 0]) (H' := _) (kc' := 0) (ks' := 0) rfl ?_
  have g3 : ∀ a, ¬ (195 ≤ a ∧ a ≤ 205 ∧ a ≠ 196 ∧ a ≠ 197 ∨ a = 223) → H3[a]? = H[a]? := fun a ha => (f3 a (by omega)).trans (g2 a (by omega) (by omega))
  exact RQ.done (c := 0) (s := 0) rfl rfl rfl rfl ⟨_, _, rfl, rfl, ⟨us', bo, ba, hm3, hV3, (f3 205 (by omega)).trans h52, (g3 206 (by omega)).trans h6, hR.far (fun a a1 => g3 a (by omega)), hT.far (fun a a1 a2 => g3 a (by omega)), hP.far (fun a a1 a2 => g3 a (by omega)), (g3 196 (by omega)).trans h196, (g3 197 (by omega)).trans h197⟩, fun a ha => g3 a (by omega)⟩
set_option maxRecDepth 20000 in
theorem ri_mmake0_ok {sc : Nat × (Nat → Int32)} {d l : Nat} {H : aH} {fa cl rs : Int32} {li : Nat} {tb : Nat → Int8} {g0 : Nat → Int8} {p : Nat} {ms : List aMV} {op : Nat → Bool} {se : Nat → Nat} {wss : Nat → List aE} {kd pa sz nl : Nat → Nat} {nm : Nat → Int8} {ps : List aPc} {v c : Nat} (h : RefI H fa li 0 0 cl tb l rs g0 p ms op se wss kd pa sz nl nm ps) (hk : RefOk l p ms se kd pa sz nl ps) (hv : v ≤ 200) (hl1 : 1 ≤ l) (hl : l ≤ 30) (hnm : noSl tb 0 l) (hkd : kd v = 2) (hc : (fstF (inN kd pa nl nm v (sl tb 0 l)) 1 200) = none) (hfr : frI kd = c) (hc1 : 1 ≤ c) (hc2 : c ≤ 200) (hli : li < 2 ^ 31) (hnd : (ndR op se (-1) p ms kd nl ps) + 62 + l < 2 ^ 31) (hfits : (ndR op se (-1) p ms kd nl ps) + 62 + l ≤ li) : RI sc (d + 5) mr_304 [.ref 196, .int (nI v), .int 0] H (fun x H' => x = nI c ∧ RefI H' 0 li 0 0 cl tb 0 rs g0 (p + 1) ms op se wss (va_up kd c 1) (va_up pa c v) (va_up sz c 0) (va_up nl c l) (cpy tb 0 nm (30 * c) l) ps ∧ ∀ a, ¬ (195 ≤ a ∧ a < 224) → H'[a]? = H[a]?) := by
  obtain ⟨us, ba, bo, hm, hV, h5, h6, hR, hT, hP, h196, h197⟩ := h
  obtain ⟨k1, k2, k3, k4, k5, k6, k7, k8⟩ := hk
  refine RI.of ?_
  refine RQ.blk 2 (pc' := 2) (lv' := [(0, .ref 196), (1, .int (nI v)), (2, .int 0)]) (st' := [.int 0, .ref 196]) (H' := _) (kc' := 0) (ks' := 0) rfl ?_
  refine RQ.put (ci := 12) rfl hm rfl rfl (Nat.le_of_ble_eq_true rfl) ?_
  have hm1 : (H.set 195 (kO 12 (mfs 0 (nI li) 0 0 cl (nI l) rs (nI p) (nI ms.length) (nI us) (nI ps.length) (nI (plen ps)) ba bo)))[195]? = some (kO 12 (mfs 0 (nI li) 0 0 cl (nI l) rs (nI p) (nI ms.length) (nI us) (nI ps.length) (nI (plen ps)) ba bo)) := get_set hm
  have f1 : ∀ a, a ≠ 195 → (H.set 195 (kO 12 (mfs 0 (nI li) 0 0 cl (nI l) rs (nI p) (nI ms.length) (nI us) (nI ps.length) (nI (plen ps)) ba bo)))[a]? = H[a]? := fun a ha => set_far ha
  show RQ _ _ _ 5 [(0, .ref 196), (1, .int (nI v)), (2, .int 0)] [] (H.set 195 (kO 12 (mfs 0 (nI li) 0 0 cl (nI l) rs (nI p) (nI ms.length) (nI us) (nI ps.length) (nI (plen ps)) ba bo))) 0 0 _
  generalize (H.set 195 (kO 12 (mfs 0 (nI li) 0 0 cl (nI l) rs (nI p) (nI ms.length) (nI us) (nI ps.length) (nI (plen ps)) ba bo))) = H1 at hm1 f1 ⊢
  have hV1 := hV.far (fun a a1 a2 => f1 a (by omega)) (f1 223 (by decide))
  have h51 := (f1 205 (by decide)).trans h5
  have h61 := (f1 206 (by decide)).trans h6
  have hR1 := hR.far (fun a a1 => f1 a (by omega))
  have hT1 := hT.far (fun a a1 a2 => f1 a (by omega))
  have hP1 := hP.far (fun a a1 a2 => f1 a (by omega))
  have h1961 := (f1 196 (by decide)).trans h196
  have h1971 := (f1 197 (by decide)).trans h197
  have hkv := k5 v hv
  refine RQ.blk 3 (pc' := 10) (lv' := [(0, .ref 196), (1, .int (nI v)), (2, .int 0)]) (st' := [.int 201, .int (nI v), .ref 196]) (H' := _) (kc' := 0) (ks' := 0) rfl ?_
  refine RQ.call (v := some (.int 0)) (st' := []) rfl rfl rfl rfl rfl rfl (args_v [.int 201, .int (nI v)] [] rfl rfl (Nat.le_of_ble_eq_true rfl) rfl hm1 (Nat.le_of_ble_eq_true rfl)) (rc_out (v := v) (m := 201) (by omega) (by decide)) ?_
  refine RQ.brF rfl rfl rfl (by decide) ?_
  refine RQ.blk 3 (pc' := 19) (lv' := [(0, .ref 196), (1, .int (nI v)), (2, .int 0)]) (st' := [.ref 196, .int 0, .ref 196]) (H' := _) (kc' := 0) (ks' := 0) rfl ?_
  refine RQ.get (ci := 12) rfl hm1 rfl rfl ?_
  refine RQ.call (v := some (.int 1)) (st' := []) rfl rfl rfl rfl rfl rfl (args_v [.int (nI l), .int 0] [] rfl rfl (Nat.le_of_ble_eq_true rfl) rfl hm1 (Nat.le_of_ble_eq_true rfl)) (rc_named1 (i := 0) (n := l) hm1 h1961 (by decide) (by omega) hl1 hl hnm) ?_
  refine RQ.brT rfl rfl rfl (by decide) ?_
  refine RQ.blk 1 (pc' := 35) (lv' := [(0, .ref 196), (1, .int (nI v)), (2, .int 0)]) (st' := [.ref 196]) (H' := _) (kc' := 0) (ks' := 0) rfl ?_
  refine RQ.get (ci := 12) rfl hm1 rfl rfl ?_
  refine RQ.brT rfl rfl rfl (by decide) ?_
  refine RQ.blk 1 (pc' := 48) (lv' := [(0, .ref 196), (1, .int (nI v)), (2, .int 0)]) (st' := [.ref 196]) (H' := _) (kc' := 0) (ks' := 0) rfl ?_
  refine RQ.get (ci := 12) rfl hm1 rfl rfl ?_
  refine RQ.blk 3 (pc' := 54) (lv' := [(3, .int (nI l)), (0, .ref 196), (1, .int (nI v)), (2, .int 0)]) (st' := [.int 0, .ref 196]) (H' := _) (kc' := 0) (ks' := 0) rfl ?_
  refine RQ.put (ci := 12) rfl hm1 rfl rfl (Nat.le_of_ble_eq_true rfl) ?_
  have hm2 : (H1.set 195 (kO 12 (mfs 0 (nI li) 0 0 cl (nI 0) rs (nI p) (nI ms.length) (nI us) (nI ps.length) (nI (plen ps)) ba bo)))[195]? = some (kO 12 (mfs 0 (nI li) 0 0 cl (nI 0) rs (nI p) (nI ms.length) (nI us) (nI ps.length) (nI (plen ps)) ba bo)) := get_set hm1
  have f2 : ∀ a, a ≠ 195 → (H1.set 195 (kO 12 (mfs 0 (nI li) 0 0 cl (nI 0) rs (nI p) (nI ms.length) (nI us) (nI ps.length) (nI (plen ps)) ba bo)))[a]? = H[a]? := fun a ha => (set_far ha).trans (f1 a ha)
  show RQ _ _ _ 57 [(3, .int (nI l)), (0, .ref 196), (1, .int (nI v)), (2, .int 0)] [] (H1.set 195 (kO 12 (mfs 0 (nI li) 0 0 cl (nI 0) rs (nI p) (nI ms.length) (nI us) (nI ps.length) (nI (plen ps)) ba bo))) 0 0 _
  generalize (H1.set 195 (kO 12 (mfs 0 (nI li) 0 0 cl (nI 0) rs (nI p) (nI ms.length) (nI us) (nI ps.length) (nI (plen ps)) ba bo))) = H2 at hm2 f2 ⊢
  clear hm1 f1 hV1 h51 h61 hR1 hT1 hP1 h1961 h1971
  have hm1 := hm2
  have f1 := f2
  clear hm2 f2
  have hV1 := hV.far (fun a a1 a2 => f1 a (by omega)) (f1 223 (by decide))
  have h51 := (f1 205 (by decide)).trans h5
  have h61 := (f1 206 (by decide)).trans h6
  have hR1 := hR.far (fun a a1 => f1 a (by omega))
  have hT1 := hT.far (fun a a1 a2 => f1 a (by omega))
  have hP1 := hP.far (fun a a1 a2 => f1 a (by omega))
  have h1961 := (f1 196 (by decide)).trans h196
  have h1971 := (f1 197 (by decide)).trans h197
  refine RQ.blk 2 (pc' := 59) (lv' := [(3, .int (nI l)), (0, .ref 196), (1, .int (nI v)), (2, .int 0)]) (st' := [.int (nI v), .ref 196]) (H' := _) (kc' := 0) (ks' := 0) rfl ?_
  refine RQ.call (v := some (.int 1)) (st' := []) rfl rfl rfl rfl rfl rfl (args_v [.int (nI v)] [] rfl rfl (Nat.le_of_ble_eq_true rfl) rfl hm1 (Nat.le_of_ble_eq_true rfl)) (rc_mdirT hm1 rfl hT1.1 hv (nI_is2 hkd)) ?_
  refine RQ.brT rfl rfl rfl (by decide) ?_
  refine RQ.blk 4 (pc' := 75) (lv' := [(3, .int (nI l)), (0, .ref 196), (1, .int (nI v)), (2, .int 0)]) (st' := [.int (nI l), .int 0, .int (nI v), .ref 196]) (H' := _) (kc' := 0) (ks' := 0) rfl ?_
  have hch := rc_mchild (sc := sc) (d := d + 3) (j := 0) (m := l) hm1 hT1 k5 h1961 (by omega) hv
  rw [hc] at hch
  refine RQ.call (v := some (.int (-1))) (st' := []) rfl rfl rfl rfl rfl rfl (args_v [.int (nI l), .int 0, .int (nI v)] [] rfl rfl (Nat.le_of_ble_eq_true rfl) rfl hm1 (Nat.le_of_ble_eq_true rfl)) hch ?_
  refine RQ.brT rfl rfl rfl (by decide) ?_
  refine RQ.blk 2 (pc' := 90) (lv' := [(4, .int 1), (3, .int (nI l)), (0, .ref 196), (1, .int (nI v)), (2, .int 0)]) (st' := []) (H' := _) (kc' := 0) (ks' := 0) rfl ?_
  refine RQ.pick (a := [(4, .int 1), (0, .ref 196), (1, .int (nI v)), (2, .int 0), (3, .int (nI l))]) [0, 2, 3, 4, 1] [4, 3, 0, 1, 2] rfl rfl (by decide) ?_
  refine rq_mmk hm1 rfl hT1.1 (fun i hi => (k5 i hi).1) ?_
  rw [hfr]
  refine RQ.blk 2 (pc' := 119) (lv' := [(4, .int (nI c)), (0, .ref 196), (1, .int (nI v)), (2, .int 0), (3, .int (nI l))]) (st' := [.int 200, .int (nI c)]) (H' := _) (kc' := 0) (ks' := 0) rfl ?_
  refine RQ.brF rfl rfl rfl (cF_gt c 200) ?_
  refine RQ.blk 2 (pc' := 124) (lv' := [(4, .int (nI c)), (0, .ref 196), (1, .int (nI v)), (2, .int 0), (3, .int (nI l))]) (st' := [.int (-1), .ref 196]) (H' := _) (kc' := 0) (ks' := 0) rfl ?_
  refine RQ.call (v := some (.int (nI (ndR op se (-1) p ms kd nl ps)))) (st' := []) rfl rfl rfl rfl rfl rfl (args_v [.int (-1)] [] rfl rfl (Nat.le_of_ble_eq_true rfl) rfl hm1 (Nat.le_of_ble_eq_true rfl)) (rc_mneedR (x := -1) hm1 hV1 k3 h51 h61 k4 hT1 k5 hP1 k6 (by omega)) ?_
  refine RQ.blk 2 (pc' := 130) (lv' := [(4, .int (nI c)), (0, .ref 196), (1, .int (nI v)), (2, .int 0), (3, .int (nI l))]) (st' := [.int (nI (ndR op se (-1) p ms kd nl ps) + 62)]) (H' := _) (kc' := 0) (ks' := 0) rfl ?_
  rw [show (nI (ndR op se (-1) p ms kd nl ps) + 62 : Int32) = nI (ndR op se (-1) p ms kd nl ps + 62) from nI_add (ndR op se (-1) p ms kd nl ps) 62]
  refine RQ.blk 2 (pc' := 132) (lv' := [(4, .int (nI c)), (0, .ref 196), (1, .int (nI v)), (2, .int 0), (3, .int (nI l))]) (st' := [.int (nI (ndR op se (-1) p ms kd nl ps + 62) + nI l)]) (H' := _) (kc' := 0) (ks' := 0) rfl ?_
  rw [show (nI (ndR op se (-1) p ms kd nl ps + 62) + nI l : Int32) = nI (ndR op se (-1) p ms kd nl ps + 62 + l) from nI_add (ndR op se (-1) p ms kd nl ps + 62) l]
  refine RQ.blk 1 (pc' := 133) (lv' := [(4, .int (nI c)), (0, .ref 196), (1, .int (nI v)), (2, .int 0), (3, .int (nI l))]) (st' := [.ref 196, .int (nI (ndR op se (-1) p ms kd nl ps + 62 + l))]) (H' := _) (kc' := 0) (ks' := 0) rfl ?_
  refine RQ.get (ci := 12) rfl hm1 rfl rfl ?_
  refine RQ.brT rfl rfl rfl (cT_le ((ndR op se (-1) p ms kd nl ps) + 62 + l) li) ?_
  refine RQ.blk 2 (pc' := 147) (lv' := [(4, .int (nI c)), (0, .ref 196), (1, .int (nI v)), (2, .int 0), (3, .int (nI l))]) (st' := [.int 2, .ref 196]) (H' := _) (kc' := 0) (ks' := 0) rfl ?_
  refine RQ.call (v := some (.int 0)) (st' := []) rfl rfl rfl rfl rfl rfl (args_v [.int 2] [] rfl rfl (Nat.le_of_ble_eq_true rfl) rfl hm1 (Nat.le_of_ble_eq_true rfl)) (rc_mlost0 hm1) ?_
  refine RQ.brT rfl rfl rfl (by decide) ?_
  refine RQ.blk 1 (pc' := 160) (lv' := [(4, .int (nI c)), (0, .ref 196), (1, .int (nI v)), (2, .int 0), (3, .int (nI l))]) (st' := [.ref 196]) (H' := _) (kc' := 0) (ks' := 0) rfl ?_
  refine RQ.get (ci := 12) rfl hm1 rfl rfl ?_
  refine RQ.blk 2 (pc' := 166) (lv' := [(4, .int (nI c)), (0, .ref 196), (1, .int (nI v)), (2, .int 0), (3, .int (nI l))]) (st' := [.int 0, .int (nI c), .ref 214]) (H' := _) (kc' := 0) (ks' := 0) rfl ?_
  refine RQ.brT rfl rfl rfl (by decide) ?_
  refine RQ.blk 1 (pc' := 174) (lv' := [(4, .int (nI c)), (0, .ref 196), (1, .int (nI v)), (2, .int 0), (3, .int (nI l))]) (st' := [.int 1, .int (nI c), .ref 214]) (H' := _) (kc' := 0) (ks' := 0) rfl ?_
  refine RQ.iastN (j := c) rfl hT1.1 (by omega) (by decide) ?_
  refine RQ.blk 1 (pc' := 176) (lv' := [(4, .int (nI c)), (0, .ref 196), (1, .int (nI v)), (2, .int 0), (3, .int (nI l))]) (st' := [.ref 196]) (H' := _) (kc' := 0) (ks' := 0) rfl ?_
  refine RQ.get (ci := 12) rfl ((set_far (by decide)).trans hm1) rfl rfl ?_
  refine RQ.blk 2 (pc' := 182) (lv' := [(4, .int (nI c)), (0, .ref 196), (1, .int (nI v)), (2, .int 0), (3, .int (nI l))]) (st' := [.int 0, .int (nI c), .ref 218]) (H' := _) (kc' := 0) (ks' := 0) rfl ?_
  refine RQ.iastN (j := c) rfl ((set_far (by decide)).trans hT1.2.2.2.2) (by omega) (by decide) ?_
  have hm3 : ((H2.set 213 (kI 201 (va_up (fun j => nI (kd j)) c 1))).set 217 (kI 201 (va_up (fun j => nI (sz j)) c 0)))[195]? = _ := (set_far (by decide)).trans ((set_far (by decide)).trans hm1)
  have f3 : ∀ a, ¬ (a = 195 ∨ a = 213 ∨ a = 217) → ((H2.set 213 (kI 201 (va_up (fun j => nI (kd j)) c 1))).set 217 (kI 201 (va_up (fun j => nI (sz j)) c 0)))[a]? = H[a]? := fun a ha => (set_far (by omega)).trans ((set_far (by omega)).trans (f1 a (by omega)))
  have hK3 : ((H2.set 213 (kI 201 (va_up (fun j => nI (kd j)) c 1))).set 217 (kI 201 (va_up (fun j => nI (sz j)) c 0)))[213]? = some (kI 201 (fun j => nI (va_up kd c 1 j))) := (set_far (by decide)).trans ((get_set hT1.1).trans (congrArg (fun g => some (kI 201 g)) (by funext j; by_cases e : j = c; rw [e, up_at, up_at]; rfl; rw [up_ne e, up_ne e])))
  have hZ3 : ((H2.set 213 (kI 201 (va_up (fun j => nI (kd j)) c 1))).set 217 (kI 201 (va_up (fun j => nI (sz j)) c 0)))[217]? = some (kI 201 (fun j => nI (va_up sz c 0 j))) := (get_set ((set_far (by decide)).trans hT1.2.2.2.2)).trans (congrArg (fun g => some (kI 201 g)) (by funext j; by_cases e : j = c; rw [e, up_at, up_at]; rfl; rw [up_ne e, up_ne e]))
  generalize ((H2.set 213 (kI 201 (va_up (fun j => nI (kd j)) c 1))).set 217 (kI 201 (va_up (fun j => nI (sz j)) c 0))) = H3 at hm3 f3 hK3 hZ3 ⊢
  have hT3 : MTreeAt H3 (va_up kd c 1) pa (va_up sz c 0) nl nm := ⟨hK3, (f3 214 (by omega)).trans hT.2.1, (f3 215 (by omega)).trans hT.2.2.1, (f3 216 (by omega)).trans hT.2.2.2.1, hZ3⟩
  refine RQ.blk 5 (pc' := 189) (lv' := [(4, .int (nI c)), (0, .ref 196), (1, .int (nI v)), (2, .int 0), (3, .int (nI l))]) (st' := [.int (nI l), .int 0, .int (nI v), .int (nI c), .ref 196]) (H' := _) (kc' := 0) (ks' := 0) rfl ?_
  refine RQ.call (v := none) (st' := []) rfl rfl rfl rfl rfl rfl (args_v [.int (nI l), .int 0, .int (nI v), .int (nI c)] [] rfl rfl (Nat.le_of_ble_eq_true rfl) rfl hm3 (Nat.le_of_ble_eq_true rfl)) (rc_mname (v := c) (dir := v) (i := 0) (n := l) hm3 hT3 ((f3 196 (by omega)).trans h196) hc2 (by omega) hl) ?_
  have hm4 : (((H3.set 214 (kI 201 (fun j => nI (va_up pa c v j)))).set 215 (kI 201 (fun j => nI (va_up nl c l j)))).set 216 (kB 6030 (cpy tb 0 nm (30 * c) l)))[195]? = _ := (set_far (by decide)).trans ((set_far (by decide)).trans ((set_far (by decide)).trans hm3))
  have f4 : ∀ a, ¬ (a = 195 ∨ (213 ≤ a ∧ a < 218)) → (((H3.set 214 (kI 201 (fun j => nI (va_up pa c v j)))).set 215 (kI 201 (fun j => nI (va_up nl c l j)))).set 216 (kB 6030 (cpy tb 0 nm (30 * c) l)))[a]? = H[a]? := fun a ha => (set_far (by omega)).trans ((set_far (by omega)).trans ((set_far (by omega)).trans (f3 a (by omega))))
  have hT4 : MTreeAt (((H3.set 214 (kI 201 (fun j => nI (va_up pa c v j)))).set 215 (kI 201 (fun j => nI (va_up nl c l j)))).set 216 (kB 6030 (cpy tb 0 nm (30 * c) l))) (va_up kd c 1) (va_up pa c v) (va_up sz c 0) (va_up nl c l) (cpy tb 0 nm (30 * c) l) := ⟨(set_far (by decide)).trans ((set_far (by decide)).trans ((set_far (by decide)).trans hT3.1)), (set_far (by decide)).trans ((set_far (by decide)).trans (get_set hT3.2.1)), (set_far (by decide)).trans (get_set ((set_far (by decide)).trans hT3.2.2.1)), get_set ((set_far (by decide)).trans ((set_far (by decide)).trans hT3.2.2.2.1)), (set_far (by decide)).trans ((set_far (by decide)).trans ((set_far (by decide)).trans hT3.2.2.2.2))⟩
  generalize (((H3.set 214 (kI 201 (fun j => nI (va_up pa c v j)))).set 215 (kI 201 (fun j => nI (va_up nl c l j)))).set 216 (kB 6030 (cpy tb 0 nm (30 * c) l))) = H4 at hm4 f4 hT4 ⊢
  have hP4 := hP.far (fun a a1 a2 => f4 a (by omega))
  refine RQ.blk 3 (pc' := 196) (lv' := [(4, .int (nI c)), (0, .ref 196), (1, .int (nI v)), (2, .int 0), (3, .int (nI l))]) (st' := [.int (nI c), .int 2, .ref 196]) (H' := _) (kc' := 0) (ks' := 0) rfl ?_
  refine RQ.call (v := some (.int (nI c))) (st' := []) rfl rfl rfl rfl rfl rfl (args_v [.int (nI c), .int 2] [] rfl rfl (Nat.le_of_ble_eq_true rfl) rfl hm4 (Nat.le_of_ble_eq_true rfl)) (rc_mchanged0 (x := 2) hm4) ?_
  exact RQ.done (c := 0) (s := 0) rfl rfl rfl rfl ⟨_, _, rfl, rfl, ⟨us, ba, bo, get_set hm4, hV.far (fun a a1 a2 => (set_far (by omega)).trans (f4 a (by omega))) ((set_far (by decide)).trans (f4 223 (by omega))), (set_far (by decide)).trans ((f4 205 (by omega)).trans h5), (set_far (by decide)).trans ((f4 206 (by omega)).trans h6), hR.far (fun a a1 => (set_far (by omega)).trans (f4 a (by omega))), hT4.far (fun a a1 a2 => set_far (by omega)), hP4.far (fun a a1 a2 => set_far (by omega)), (set_far (by decide)).trans ((f4 196 (by omega)).trans h196), (set_far (by decide)).trans ((f4 197 (by omega)).trans h197)⟩, fun a ha => (set_far (by omega)).trans (f4 a (by omega))⟩
set_option maxRecDepth 20000 in
theorem ri_mmake0_late {sc : Nat × (Nat → Int32)} {d l : Nat} {H : aH} {fa rs : Int32} {li : Nat} {tb : Nat → Int8} {g0 : Nat → Int8} {p : Nat} {ms : List aMV} {op : Nat → Bool} {se : Nat → Nat} {wss : Nat → List aE} {kd pa sz nl : Nat → Nat} {nm : Nat → Int8} {ps : List aPc} {v c : Nat} (h : RefI H fa li 0 1 1 tb l rs g0 p ms op se wss kd pa sz nl nm ps) (hk : RefOk l p ms se kd pa sz nl ps) (hv : v ≤ 200) (hl1 : 1 ≤ l) (hl : l ≤ 30) (hnm : noSl tb 0 l) (hkd : kd v = 2) (hc : (fstF (inN kd pa nl nm v (sl tb 0 l)) 1 200) = none) (hfr : frI kd = c) (hc1 : 1 ≤ c) (hc2 : c ≤ 200) (hli : li < 2 ^ 31) (hnd : (ndR op se (-1) p ms kd nl ps) + 62 + l < 2 ^ 31) (hfits : (ndR op se (-1) p ms kd nl ps) + 62 + l ≤ li) : RI sc (d + 5) mr_304 [.ref 196, .int (nI v), .int 0] H (fun x H' => x = 0 ∧ RefI H' 2 li 1 0 1 tb 0 0 g0 (p + 1) (ms.filter (keepM (fun j => if j < 8 then false else op j) se (p + 1) (kmM ms))) (fun j => if j < 8 then false else op j) se wss (va_up kd c 1) (va_up pa c v) (va_up sz c 0) (va_up nl c l) (cpy tb 0 nm (30 * c) l) ps ∧ ∀ a, ¬ (195 ≤ a ∧ a < 224) → H'[a]? = H[a]?) := by
  obtain ⟨us, ba, bo, hm, hV, h5, h6, hR, hT, hP, h196, h197⟩ := h
  obtain ⟨k1, k2, k3, k4, k5, k6, k7, k8⟩ := hk
  refine RI.of ?_
  refine RQ.blk 2 (pc' := 2) (lv' := [(0, .ref 196), (1, .int (nI v)), (2, .int 0)]) (st' := [.int 0, .ref 196]) (H' := _) (kc' := 0) (ks' := 0) rfl ?_
  refine RQ.put (ci := 12) rfl hm rfl rfl (Nat.le_of_ble_eq_true rfl) ?_
  have hm1 : (H.set 195 (kO 12 (mfs 0 (nI li) 0 1 1 (nI l) rs (nI p) (nI ms.length) (nI us) (nI ps.length) (nI (plen ps)) ba bo)))[195]? = some (kO 12 (mfs 0 (nI li) 0 1 1 (nI l) rs (nI p) (nI ms.length) (nI us) (nI ps.length) (nI (plen ps)) ba bo)) := get_set hm
  have f1 : ∀ a, a ≠ 195 → (H.set 195 (kO 12 (mfs 0 (nI li) 0 1 1 (nI l) rs (nI p) (nI ms.length) (nI us) (nI ps.length) (nI (plen ps)) ba bo)))[a]? = H[a]? := fun a ha => set_far ha
  show RQ _ _ _ 5 [(0, .ref 196), (1, .int (nI v)), (2, .int 0)] [] (H.set 195 (kO 12 (mfs 0 (nI li) 0 1 1 (nI l) rs (nI p) (nI ms.length) (nI us) (nI ps.length) (nI (plen ps)) ba bo))) 0 0 _
  generalize (H.set 195 (kO 12 (mfs 0 (nI li) 0 1 1 (nI l) rs (nI p) (nI ms.length) (nI us) (nI ps.length) (nI (plen ps)) ba bo))) = H1 at hm1 f1 ⊢
  have hV1 := hV.far (fun a a1 a2 => f1 a (by omega)) (f1 223 (by decide))
  have h51 := (f1 205 (by decide)).trans h5
  have h61 := (f1 206 (by decide)).trans h6
  have hR1 := hR.far (fun a a1 => f1 a (by omega))
  have hT1 := hT.far (fun a a1 a2 => f1 a (by omega))
  have hP1 := hP.far (fun a a1 a2 => f1 a (by omega))
  have h1961 := (f1 196 (by decide)).trans h196
  have h1971 := (f1 197 (by decide)).trans h197
  have hkv := k5 v hv
  refine RQ.blk 3 (pc' := 10) (lv' := [(0, .ref 196), (1, .int (nI v)), (2, .int 0)]) (st' := [.int 201, .int (nI v), .ref 196]) (H' := _) (kc' := 0) (ks' := 0) rfl ?_
  refine RQ.call (v := some (.int 0)) (st' := []) rfl rfl rfl rfl rfl rfl (args_v [.int 201, .int (nI v)] [] rfl rfl (Nat.le_of_ble_eq_true rfl) rfl hm1 (Nat.le_of_ble_eq_true rfl)) (rc_out (v := v) (m := 201) (by omega) (by decide)) ?_
  refine RQ.brF rfl rfl rfl (by decide) ?_
  refine RQ.blk 3 (pc' := 19) (lv' := [(0, .ref 196), (1, .int (nI v)), (2, .int 0)]) (st' := [.ref 196, .int 0, .ref 196]) (H' := _) (kc' := 0) (ks' := 0) rfl ?_
  refine RQ.get (ci := 12) rfl hm1 rfl rfl ?_
  refine RQ.call (v := some (.int 1)) (st' := []) rfl rfl rfl rfl rfl rfl (args_v [.int (nI l), .int 0] [] rfl rfl (Nat.le_of_ble_eq_true rfl) rfl hm1 (Nat.le_of_ble_eq_true rfl)) (rc_named1 (i := 0) (n := l) hm1 h1961 (by decide) (by omega) hl1 hl hnm) ?_
  refine RQ.brT rfl rfl rfl (by decide) ?_
  refine RQ.blk 1 (pc' := 35) (lv' := [(0, .ref 196), (1, .int (nI v)), (2, .int 0)]) (st' := [.ref 196]) (H' := _) (kc' := 0) (ks' := 0) rfl ?_
  refine RQ.get (ci := 12) rfl hm1 rfl rfl ?_
  refine RQ.brT rfl rfl rfl (by decide) ?_
  refine RQ.blk 1 (pc' := 48) (lv' := [(0, .ref 196), (1, .int (nI v)), (2, .int 0)]) (st' := [.ref 196]) (H' := _) (kc' := 0) (ks' := 0) rfl ?_
  refine RQ.get (ci := 12) rfl hm1 rfl rfl ?_
  refine RQ.blk 3 (pc' := 54) (lv' := [(3, .int (nI l)), (0, .ref 196), (1, .int (nI v)), (2, .int 0)]) (st' := [.int 0, .ref 196]) (H' := _) (kc' := 0) (ks' := 0) rfl ?_
  refine RQ.put (ci := 12) rfl hm1 rfl rfl (Nat.le_of_ble_eq_true rfl) ?_
  have hm2 : (H1.set 195 (kO 12 (mfs 0 (nI li) 0 1 1 (nI 0) rs (nI p) (nI ms.length) (nI us) (nI ps.length) (nI (plen ps)) ba bo)))[195]? = some (kO 12 (mfs 0 (nI li) 0 1 1 (nI 0) rs (nI p) (nI ms.length) (nI us) (nI ps.length) (nI (plen ps)) ba bo)) := get_set hm1
  have f2 : ∀ a, a ≠ 195 → (H1.set 195 (kO 12 (mfs 0 (nI li) 0 1 1 (nI 0) rs (nI p) (nI ms.length) (nI us) (nI ps.length) (nI (plen ps)) ba bo)))[a]? = H[a]? := fun a ha => (set_far ha).trans (f1 a ha)
  show RQ _ _ _ 57 [(3, .int (nI l)), (0, .ref 196), (1, .int (nI v)), (2, .int 0)] [] (H1.set 195 (kO 12 (mfs 0 (nI li) 0 1 1 (nI 0) rs (nI p) (nI ms.length) (nI us) (nI ps.length) (nI (plen ps)) ba bo))) 0 0 _
  generalize (H1.set 195 (kO 12 (mfs 0 (nI li) 0 1 1 (nI 0) rs (nI p) (nI ms.length) (nI us) (nI ps.length) (nI (plen ps)) ba bo))) = H2 at hm2 f2 ⊢
  clear hm1 f1 hV1 h51 h61 hR1 hT1 hP1 h1961 h1971
  have hm1 := hm2
  have f1 := f2
  clear hm2 f2
  have hV1 := hV.far (fun a a1 a2 => f1 a (by omega)) (f1 223 (by decide))
  have h51 := (f1 205 (by decide)).trans h5
  have h61 := (f1 206 (by decide)).trans h6
  have hR1 := hR.far (fun a a1 => f1 a (by omega))
  have hT1 := hT.far (fun a a1 a2 => f1 a (by omega))
  have hP1 := hP.far (fun a a1 a2 => f1 a (by omega))
  have h1961 := (f1 196 (by decide)).trans h196
  have h1971 := (f1 197 (by decide)).trans h197
  refine RQ.blk 2 (pc' := 59) (lv' := [(3, .int (nI l)), (0, .ref 196), (1, .int (nI v)), (2, .int 0)]) (st' := [.int (nI v), .ref 196]) (H' := _) (kc' := 0) (ks' := 0) rfl ?_
  refine RQ.call (v := some (.int 1)) (st' := []) rfl rfl rfl rfl rfl rfl (args_v [.int (nI v)] [] rfl rfl (Nat.le_of_ble_eq_true rfl) rfl hm1 (Nat.le_of_ble_eq_true rfl)) (rc_mdirT hm1 rfl hT1.1 hv (nI_is2 hkd)) ?_
  refine RQ.brT rfl rfl rfl (by decide) ?_
  refine RQ.blk 4 (pc' := 75) (lv' := [(3, .int (nI l)), (0, .ref 196), (1, .int (nI v)), (2, .int 0)]) (st' := [.int (nI l), .int 0, .int (nI v), .ref 196]) (H' := _) (kc' := 0) (ks' := 0) rfl ?_
  have hch := rc_mchild (sc := sc) (d := d + 3) (j := 0) (m := l) hm1 hT1 k5 h1961 (by omega) hv
  rw [hc] at hch
  refine RQ.call (v := some (.int (-1))) (st' := []) rfl rfl rfl rfl rfl rfl (args_v [.int (nI l), .int 0, .int (nI v)] [] rfl rfl (Nat.le_of_ble_eq_true rfl) rfl hm1 (Nat.le_of_ble_eq_true rfl)) hch ?_
  refine RQ.brT rfl rfl rfl (by decide) ?_
  refine RQ.blk 2 (pc' := 90) (lv' := [(4, .int 1), (3, .int (nI l)), (0, .ref 196), (1, .int (nI v)), (2, .int 0)]) (st' := []) (H' := _) (kc' := 0) (ks' := 0) rfl ?_
  refine RQ.pick (a := [(4, .int 1), (0, .ref 196), (1, .int (nI v)), (2, .int 0), (3, .int (nI l))]) [0, 2, 3, 4, 1] [4, 3, 0, 1, 2] rfl rfl (by decide) ?_
  refine rq_mmk hm1 rfl hT1.1 (fun i hi => (k5 i hi).1) ?_
  rw [hfr]
  refine RQ.blk 2 (pc' := 119) (lv' := [(4, .int (nI c)), (0, .ref 196), (1, .int (nI v)), (2, .int 0), (3, .int (nI l))]) (st' := [.int 200, .int (nI c)]) (H' := _) (kc' := 0) (ks' := 0) rfl ?_
  refine RQ.brF rfl rfl rfl (cF_gt c 200) ?_
  refine RQ.blk 2 (pc' := 124) (lv' := [(4, .int (nI c)), (0, .ref 196), (1, .int (nI v)), (2, .int 0), (3, .int (nI l))]) (st' := [.int (-1), .ref 196]) (H' := _) (kc' := 0) (ks' := 0) rfl ?_
  refine RQ.call (v := some (.int (nI (ndR op se (-1) p ms kd nl ps)))) (st' := []) rfl rfl rfl rfl rfl rfl (args_v [.int (-1)] [] rfl rfl (Nat.le_of_ble_eq_true rfl) rfl hm1 (Nat.le_of_ble_eq_true rfl)) (rc_mneedR (x := -1) hm1 hV1 k3 h51 h61 k4 hT1 k5 hP1 k6 (by omega)) ?_
  refine RQ.blk 2 (pc' := 130) (lv' := [(4, .int (nI c)), (0, .ref 196), (1, .int (nI v)), (2, .int 0), (3, .int (nI l))]) (st' := [.int (nI (ndR op se (-1) p ms kd nl ps) + 62)]) (H' := _) (kc' := 0) (ks' := 0) rfl ?_
  rw [show (nI (ndR op se (-1) p ms kd nl ps) + 62 : Int32) = nI (ndR op se (-1) p ms kd nl ps + 62) from nI_add (ndR op se (-1) p ms kd nl ps) 62]
  refine RQ.blk 2 (pc' := 132) (lv' := [(4, .int (nI c)), (0, .ref 196), (1, .int (nI v)), (2, .int 0), (3, .int (nI l))]) (st' := [.int (nI (ndR op se (-1) p ms kd nl ps + 62) + nI l)]) (H' := _) (kc' := 0) (ks' := 0) rfl ?_
  rw [show (nI (ndR op se (-1) p ms kd nl ps + 62) + nI l : Int32) = nI (ndR op se (-1) p ms kd nl ps + 62 + l) from nI_add (ndR op se (-1) p ms kd nl ps + 62) l]
  refine RQ.blk 1 (pc' := 133) (lv' := [(4, .int (nI c)), (0, .ref 196), (1, .int (nI v)), (2, .int 0), (3, .int (nI l))]) (st' := [.ref 196, .int (nI (ndR op se (-1) p ms kd nl ps + 62 + l))]) (H' := _) (kc' := 0) (ks' := 0) rfl ?_
  refine RQ.get (ci := 12) rfl hm1 rfl rfl ?_
  refine RQ.brT rfl rfl rfl (cT_le ((ndR op se (-1) p ms kd nl ps) + 62 + l) li) ?_
  refine RQ.blk 2 (pc' := 147) (lv' := [(4, .int (nI c)), (0, .ref 196), (1, .int (nI v)), (2, .int 0), (3, .int (nI l))]) (st' := [.int 2, .ref 196]) (H' := _) (kc' := 0) (ks' := 0) rfl ?_
  refine RQ.call (v := some (.int 0)) (st' := []) rfl rfl rfl rfl rfl rfl (args_v [.int 2] [] rfl rfl (Nat.le_of_ble_eq_true rfl) rfl hm1 (Nat.le_of_ble_eq_true rfl)) (rc_mlostL hm1) ?_
  refine RQ.brT rfl rfl rfl (by decide) ?_
  refine RQ.blk 1 (pc' := 160) (lv' := [(4, .int (nI c)), (0, .ref 196), (1, .int (nI v)), (2, .int 0), (3, .int (nI l))]) (st' := [.ref 196]) (H' := _) (kc' := 0) (ks' := 0) rfl ?_
  refine RQ.get (ci := 12) rfl hm1 rfl rfl ?_
  refine RQ.blk 2 (pc' := 166) (lv' := [(4, .int (nI c)), (0, .ref 196), (1, .int (nI v)), (2, .int 0), (3, .int (nI l))]) (st' := [.int 0, .int (nI c), .ref 214]) (H' := _) (kc' := 0) (ks' := 0) rfl ?_
  refine RQ.brT rfl rfl rfl (by decide) ?_
  refine RQ.blk 1 (pc' := 174) (lv' := [(4, .int (nI c)), (0, .ref 196), (1, .int (nI v)), (2, .int 0), (3, .int (nI l))]) (st' := [.int 1, .int (nI c), .ref 214]) (H' := _) (kc' := 0) (ks' := 0) rfl ?_
  refine RQ.iastN (j := c) rfl hT1.1 (by omega) (by decide) ?_
  refine RQ.blk 1 (pc' := 176) (lv' := [(4, .int (nI c)), (0, .ref 196), (1, .int (nI v)), (2, .int 0), (3, .int (nI l))]) (st' := [.ref 196]) (H' := _) (kc' := 0) (ks' := 0) rfl ?_
  refine RQ.get (ci := 12) rfl ((set_far (by decide)).trans hm1) rfl rfl ?_
  refine RQ.blk 2 (pc' := 182) (lv' := [(4, .int (nI c)), (0, .ref 196), (1, .int (nI v)), (2, .int 0), (3, .int (nI l))]) (st' := [.int 0, .int (nI c), .ref 218]) (H' := _) (kc' := 0) (ks' := 0) rfl ?_
  refine RQ.iastN (j := c) rfl ((set_far (by decide)).trans hT1.2.2.2.2) (by omega) (by decide) ?_
  have hm3 : ((H2.set 213 (kI 201 (va_up (fun j => nI (kd j)) c 1))).set 217 (kI 201 (va_up (fun j => nI (sz j)) c 0)))[195]? = _ := (set_far (by decide)).trans ((set_far (by decide)).trans hm1)
  have f3 : ∀ a, ¬ (a = 195 ∨ a = 213 ∨ a = 217) → ((H2.set 213 (kI 201 (va_up (fun j => nI (kd j)) c 1))).set 217 (kI 201 (va_up (fun j => nI (sz j)) c 0)))[a]? = H[a]? := fun a ha => (set_far (by omega)).trans ((set_far (by omega)).trans (f1 a (by omega)))
  have hK3 : ((H2.set 213 (kI 201 (va_up (fun j => nI (kd j)) c 1))).set 217 (kI 201 (va_up (fun j => nI (sz j)) c 0)))[213]? = some (kI 201 (fun j => nI (va_up kd c 1 j))) := (set_far (by decide)).trans ((get_set hT1.1).trans (congrArg (fun g => some (kI 201 g)) (by funext j; by_cases e : j = c; rw [e, up_at, up_at]; rfl; rw [up_ne e, up_ne e])))
  have hZ3 : ((H2.set 213 (kI 201 (va_up (fun j => nI (kd j)) c 1))).set 217 (kI 201 (va_up (fun j => nI (sz j)) c 0)))[217]? = some (kI 201 (fun j => nI (va_up sz c 0 j))) := (get_set ((set_far (by decide)).trans hT1.2.2.2.2)).trans (congrArg (fun g => some (kI 201 g)) (by funext j; by_cases e : j = c; rw [e, up_at, up_at]; rfl; rw [up_ne e, up_ne e]))
  generalize ((H2.set 213 (kI 201 (va_up (fun j => nI (kd j)) c 1))).set 217 (kI 201 (va_up (fun j => nI (sz j)) c 0))) = H3 at hm3 f3 hK3 hZ3 ⊢
  have hT3 : MTreeAt H3 (va_up kd c 1) pa (va_up sz c 0) nl nm := ⟨hK3, (f3 214 (by omega)).trans hT.2.1, (f3 215 (by omega)).trans hT.2.2.1, (f3 216 (by omega)).trans hT.2.2.2.1, hZ3⟩
  refine RQ.blk 5 (pc' := 189) (lv' := [(4, .int (nI c)), (0, .ref 196), (1, .int (nI v)), (2, .int 0), (3, .int (nI l))]) (st' := [.int (nI l), .int 0, .int (nI v), .int (nI c), .ref 196]) (H' := _) (kc' := 0) (ks' := 0) rfl ?_
  refine RQ.call (v := none) (st' := []) rfl rfl rfl rfl rfl rfl (args_v [.int (nI l), .int 0, .int (nI v), .int (nI c)] [] rfl rfl (Nat.le_of_ble_eq_true rfl) rfl hm3 (Nat.le_of_ble_eq_true rfl)) (rc_mname (v := c) (dir := v) (i := 0) (n := l) hm3 hT3 ((f3 196 (by omega)).trans h196) hc2 (by omega) hl) ?_
  have hm4 : (((H3.set 214 (kI 201 (fun j => nI (va_up pa c v j)))).set 215 (kI 201 (fun j => nI (va_up nl c l j)))).set 216 (kB 6030 (cpy tb 0 nm (30 * c) l)))[195]? = _ := (set_far (by decide)).trans ((set_far (by decide)).trans ((set_far (by decide)).trans hm3))
  have f4 : ∀ a, ¬ (a = 195 ∨ (213 ≤ a ∧ a < 218)) → (((H3.set 214 (kI 201 (fun j => nI (va_up pa c v j)))).set 215 (kI 201 (fun j => nI (va_up nl c l j)))).set 216 (kB 6030 (cpy tb 0 nm (30 * c) l)))[a]? = H[a]? := fun a ha => (set_far (by omega)).trans ((set_far (by omega)).trans ((set_far (by omega)).trans (f3 a (by omega))))
  have hT4 : MTreeAt (((H3.set 214 (kI 201 (fun j => nI (va_up pa c v j)))).set 215 (kI 201 (fun j => nI (va_up nl c l j)))).set 216 (kB 6030 (cpy tb 0 nm (30 * c) l))) (va_up kd c 1) (va_up pa c v) (va_up sz c 0) (va_up nl c l) (cpy tb 0 nm (30 * c) l) := ⟨(set_far (by decide)).trans ((set_far (by decide)).trans ((set_far (by decide)).trans hT3.1)), (set_far (by decide)).trans ((set_far (by decide)).trans (get_set hT3.2.1)), (set_far (by decide)).trans (get_set ((set_far (by decide)).trans hT3.2.2.1)), get_set ((set_far (by decide)).trans ((set_far (by decide)).trans hT3.2.2.2.1)), (set_far (by decide)).trans ((set_far (by decide)).trans ((set_far (by decide)).trans hT3.2.2.2.2))⟩
  generalize (((H3.set 214 (kI 201 (fun j => nI (va_up pa c v j)))).set 215 (kI 201 (fun j => nI (va_up nl c l j)))).set 216 (kB 6030 (cpy tb 0 nm (30 * c) l))) = H4 at hm4 f4 hT4 ⊢
  have hP4 := hP.far (fun a a1 a2 => f4 a (by omega))
  refine RQ.blk 3 (pc' := 196) (lv' := [(4, .int (nI c)), (0, .ref 196), (1, .int (nI v)), (2, .int 0), (3, .int (nI l))]) (st' := [.int (nI c), .int 2, .ref 196]) (H' := _) (kc' := 0) (ks' := 0) rfl ?_
  refine RQ.callI (st' := []) rfl rfl rfl rfl rfl rfl (args_v [.int (nI c), .int 2] [] rfl rfl (Nat.le_of_ble_eq_true rfl) rfl hm4 (Nat.le_of_ble_eq_true rfl)) (ri_mchanged1 (x := 2) (y := nI c) hm4 (hV.far (fun a a1 a2 => f4 a (by omega)) (f4 223 (by omega))) k3 ((f4 205 (by omega)).trans h5) ((f4 206 (by omega)).trans h6) k4 k2) (fun z H5 hz => ?_)
  obtain ⟨ez, us', hm5, hV5, h55, f5⟩ := hz
  have g5 : ∀ a, ¬ (195 ≤ a ∧ a ≤ 205 ∧ a ≠ 196 ∧ a ≠ 197 ∨ a = 223) → H5[a]? = H4[a]? := fun a ha => f5 a (by omega) (by omega)
  exact RQ.done (c := 0) (s := 0) rfl rfl rfl rfl ⟨_, _, rfl, ez, ⟨us', bo, ba, hm5, hV5, h55, (g5 206 (by omega)).trans ((f4 206 (by omega)).trans h6), hR.far (fun a a1 => (g5 a (by omega)).trans (f4 a (by omega))), hT4.far (fun a a1 a2 => g5 a (by omega)), hP4.far (fun a a1 a2 => g5 a (by omega)), (g5 196 (by omega)).trans ((f4 196 (by omega)).trans h196), (g5 197 (by omega)).trans ((f4 197 (by omega)).trans h197)⟩, fun a ha => (g5 a (by omega)).trans (f4 a (by omega))⟩
set_option maxRecDepth 20000 in
theorem ri_mmake1_ok {sc : Nat × (Nat → Int32)} {d l : Nat} {H : aH} {fa cl rs : Int32} {li : Nat} {tb : Nat → Int8} {g0 : Nat → Int8} {p : Nat} {ms : List aMV} {op : Nat → Bool} {se : Nat → Nat} {wss : Nat → List aE} {kd pa sz nl : Nat → Nat} {nm : Nat → Int8} {ps : List aPc} {v c : Nat} (h : RefI H fa li 0 0 cl tb l rs g0 p ms op se wss kd pa sz nl nm ps) (hk : RefOk l p ms se kd pa sz nl ps) (hv : v ≤ 200) (hl1 : 1 ≤ l) (hl : l ≤ 30) (hnm : noSl tb 0 l) (hkd : kd v = 2) (hc : (fstF (inN kd pa nl nm v (sl tb 0 l)) 1 200) = none) (hfr : frI kd = c) (hc1 : 1 ≤ c) (hc2 : c ≤ 200) (hli : li < 2 ^ 31) (hnd : (ndR op se (-1) p ms kd nl ps) + 62 + l < 2 ^ 31) (hfits : (ndR op se (-1) p ms kd nl ps) + 62 + l ≤ li) : RI sc (d + 5) mr_304 [.ref 196, .int (nI v), .int 1] H (fun x H' => x = nI c ∧ RefI H' 0 li 0 0 cl tb 0 rs g0 (p + 1) ms op se wss (va_up kd c 2) (va_up pa c v) (va_up sz c 0) (va_up nl c l) (cpy tb 0 nm (30 * c) l) ps ∧ ∀ a, ¬ (195 ≤ a ∧ a < 224) → H'[a]? = H[a]?) := by
  obtain ⟨us, ba, bo, hm, hV, h5, h6, hR, hT, hP, h196, h197⟩ := h
  obtain ⟨k1, k2, k3, k4, k5, k6, k7, k8⟩ := hk
  refine RI.of ?_
  refine RQ.blk 2 (pc' := 2) (lv' := [(0, .ref 196), (1, .int (nI v)), (2, .int 1)]) (st' := [.int 0, .ref 196]) (H' := _) (kc' := 0) (ks' := 0) rfl ?_
  refine RQ.put (ci := 12) rfl hm rfl rfl (Nat.le_of_ble_eq_true rfl) ?_
  have hm1 : (H.set 195 (kO 12 (mfs 0 (nI li) 0 0 cl (nI l) rs (nI p) (nI ms.length) (nI us) (nI ps.length) (nI (plen ps)) ba bo)))[195]? = some (kO 12 (mfs 0 (nI li) 0 0 cl (nI l) rs (nI p) (nI ms.length) (nI us) (nI ps.length) (nI (plen ps)) ba bo)) := get_set hm
  have f1 : ∀ a, a ≠ 195 → (H.set 195 (kO 12 (mfs 0 (nI li) 0 0 cl (nI l) rs (nI p) (nI ms.length) (nI us) (nI ps.length) (nI (plen ps)) ba bo)))[a]? = H[a]? := fun a ha => set_far ha
  show RQ _ _ _ 5 [(0, .ref 196), (1, .int (nI v)), (2, .int 1)] [] (H.set 195 (kO 12 (mfs 0 (nI li) 0 0 cl (nI l) rs (nI p) (nI ms.length) (nI us) (nI ps.length) (nI (plen ps)) ba bo))) 0 0 _
  generalize (H.set 195 (kO 12 (mfs 0 (nI li) 0 0 cl (nI l) rs (nI p) (nI ms.length) (nI us) (nI ps.length) (nI (plen ps)) ba bo))) = H1 at hm1 f1 ⊢
  have hV1 := hV.far (fun a a1 a2 => f1 a (by omega)) (f1 223 (by decide))
  have h51 := (f1 205 (by decide)).trans h5
  have h61 := (f1 206 (by decide)).trans h6
  have hR1 := hR.far (fun a a1 => f1 a (by omega))
  have hT1 := hT.far (fun a a1 a2 => f1 a (by omega))
  have hP1 := hP.far (fun a a1 a2 => f1 a (by omega))
  have h1961 := (f1 196 (by decide)).trans h196
  have h1971 := (f1 197 (by decide)).trans h197
  have hkv := k5 v hv
  refine RQ.blk 3 (pc' := 10) (lv' := [(0, .ref 196), (1, .int (nI v)), (2, .int 1)]) (st' := [.int 201, .int (nI v), .ref 196]) (H' := _) (kc' := 0) (ks' := 0) rfl ?_
  refine RQ.call (v := some (.int 0)) (st' := []) rfl rfl rfl rfl rfl rfl (args_v [.int 201, .int (nI v)] [] rfl rfl (Nat.le_of_ble_eq_true rfl) rfl hm1 (Nat.le_of_ble_eq_true rfl)) (rc_out (v := v) (m := 201) (by omega) (by decide)) ?_
  refine RQ.brF rfl rfl rfl (by decide) ?_
  refine RQ.blk 3 (pc' := 19) (lv' := [(0, .ref 196), (1, .int (nI v)), (2, .int 1)]) (st' := [.ref 196, .int 0, .ref 196]) (H' := _) (kc' := 0) (ks' := 0) rfl ?_
  refine RQ.get (ci := 12) rfl hm1 rfl rfl ?_
  refine RQ.call (v := some (.int 1)) (st' := []) rfl rfl rfl rfl rfl rfl (args_v [.int (nI l), .int 0] [] rfl rfl (Nat.le_of_ble_eq_true rfl) rfl hm1 (Nat.le_of_ble_eq_true rfl)) (rc_named1 (i := 0) (n := l) hm1 h1961 (by decide) (by omega) hl1 hl hnm) ?_
  refine RQ.brT rfl rfl rfl (by decide) ?_
  refine RQ.blk 1 (pc' := 35) (lv' := [(0, .ref 196), (1, .int (nI v)), (2, .int 1)]) (st' := [.ref 196]) (H' := _) (kc' := 0) (ks' := 0) rfl ?_
  refine RQ.get (ci := 12) rfl hm1 rfl rfl ?_
  refine RQ.brT rfl rfl rfl (by decide) ?_
  refine RQ.blk 1 (pc' := 48) (lv' := [(0, .ref 196), (1, .int (nI v)), (2, .int 1)]) (st' := [.ref 196]) (H' := _) (kc' := 0) (ks' := 0) rfl ?_
  refine RQ.get (ci := 12) rfl hm1 rfl rfl ?_
  refine RQ.blk 3 (pc' := 54) (lv' := [(3, .int (nI l)), (0, .ref 196), (1, .int (nI v)), (2, .int 1)]) (st' := [.int 0, .ref 196]) (H' := _) (kc' := 0) (ks' := 0) rfl ?_
  refine RQ.put (ci := 12) rfl hm1 rfl rfl (Nat.le_of_ble_eq_true rfl) ?_
  have hm2 : (H1.set 195 (kO 12 (mfs 0 (nI li) 0 0 cl (nI 0) rs (nI p) (nI ms.length) (nI us) (nI ps.length) (nI (plen ps)) ba bo)))[195]? = some (kO 12 (mfs 0 (nI li) 0 0 cl (nI 0) rs (nI p) (nI ms.length) (nI us) (nI ps.length) (nI (plen ps)) ba bo)) := get_set hm1
  have f2 : ∀ a, a ≠ 195 → (H1.set 195 (kO 12 (mfs 0 (nI li) 0 0 cl (nI 0) rs (nI p) (nI ms.length) (nI us) (nI ps.length) (nI (plen ps)) ba bo)))[a]? = H[a]? := fun a ha => (set_far ha).trans (f1 a ha)
  show RQ _ _ _ 57 [(3, .int (nI l)), (0, .ref 196), (1, .int (nI v)), (2, .int 1)] [] (H1.set 195 (kO 12 (mfs 0 (nI li) 0 0 cl (nI 0) rs (nI p) (nI ms.length) (nI us) (nI ps.length) (nI (plen ps)) ba bo))) 0 0 _
  generalize (H1.set 195 (kO 12 (mfs 0 (nI li) 0 0 cl (nI 0) rs (nI p) (nI ms.length) (nI us) (nI ps.length) (nI (plen ps)) ba bo))) = H2 at hm2 f2 ⊢
  clear hm1 f1 hV1 h51 h61 hR1 hT1 hP1 h1961 h1971
  have hm1 := hm2
  have f1 := f2
  clear hm2 f2
  have hV1 := hV.far (fun a a1 a2 => f1 a (by omega)) (f1 223 (by decide))
  have h51 := (f1 205 (by decide)).trans h5
  have h61 := (f1 206 (by decide)).trans h6
  have hR1 := hR.far (fun a a1 => f1 a (by omega))
  have hT1 := hT.far (fun a a1 a2 => f1 a (by omega))
  have hP1 := hP.far (fun a a1 a2 => f1 a (by omega))
  have h1961 := (f1 196 (by decide)).trans h196
  have h1971 := (f1 197 (by decide)).trans h197
  refine RQ.blk 2 (pc' := 59) (lv' := [(3, .int (nI l)), (0, .ref 196), (1, .int (nI v)), (2, .int 1)]) (st' := [.int (nI v), .ref 196]) (H' := _) (kc' := 0) (ks' := 0) rfl ?_
  refine RQ.call (v := some (.int 1)) (st' := []) rfl rfl rfl rfl rfl rfl (args_v [.int (nI v)] [] rfl rfl (Nat.le_of_ble_eq_true rfl) rfl hm1 (Nat.le_of_ble_eq_true rfl)) (rc_mdirT hm1 rfl hT1.1 hv (nI_is2 hkd)) ?_
  refine RQ.brT rfl rfl rfl (by decide) ?_
  refine RQ.blk 4 (pc' := 75) (lv' := [(3, .int (nI l)), (0, .ref 196), (1, .int (nI v)), (2, .int 1)]) (st' := [.int (nI l), .int 0, .int (nI v), .ref 196]) (H' := _) (kc' := 0) (ks' := 0) rfl ?_
  have hch := rc_mchild (sc := sc) (d := d + 3) (j := 0) (m := l) hm1 hT1 k5 h1961 (by omega) hv
  rw [hc] at hch
  refine RQ.call (v := some (.int (-1))) (st' := []) rfl rfl rfl rfl rfl rfl (args_v [.int (nI l), .int 0, .int (nI v)] [] rfl rfl (Nat.le_of_ble_eq_true rfl) rfl hm1 (Nat.le_of_ble_eq_true rfl)) hch ?_
  refine RQ.brT rfl rfl rfl (by decide) ?_
  refine RQ.blk 2 (pc' := 90) (lv' := [(4, .int 1), (3, .int (nI l)), (0, .ref 196), (1, .int (nI v)), (2, .int 1)]) (st' := []) (H' := _) (kc' := 0) (ks' := 0) rfl ?_
  refine RQ.pick (a := [(4, .int 1), (0, .ref 196), (1, .int (nI v)), (2, .int 1), (3, .int (nI l))]) [0, 2, 3, 4, 1] [4, 3, 0, 1, 2] rfl rfl (by decide) ?_
  refine rq_mmk hm1 rfl hT1.1 (fun i hi => (k5 i hi).1) ?_
  rw [hfr]
  refine RQ.blk 2 (pc' := 119) (lv' := [(4, .int (nI c)), (0, .ref 196), (1, .int (nI v)), (2, .int 1), (3, .int (nI l))]) (st' := [.int 200, .int (nI c)]) (H' := _) (kc' := 0) (ks' := 0) rfl ?_
  refine RQ.brF rfl rfl rfl (cF_gt c 200) ?_
  refine RQ.blk 2 (pc' := 124) (lv' := [(4, .int (nI c)), (0, .ref 196), (1, .int (nI v)), (2, .int 1), (3, .int (nI l))]) (st' := [.int (-1), .ref 196]) (H' := _) (kc' := 0) (ks' := 0) rfl ?_
  refine RQ.call (v := some (.int (nI (ndR op se (-1) p ms kd nl ps)))) (st' := []) rfl rfl rfl rfl rfl rfl (args_v [.int (-1)] [] rfl rfl (Nat.le_of_ble_eq_true rfl) rfl hm1 (Nat.le_of_ble_eq_true rfl)) (rc_mneedR (x := -1) hm1 hV1 k3 h51 h61 k4 hT1 k5 hP1 k6 (by omega)) ?_
  refine RQ.blk 2 (pc' := 130) (lv' := [(4, .int (nI c)), (0, .ref 196), (1, .int (nI v)), (2, .int 1), (3, .int (nI l))]) (st' := [.int (nI (ndR op se (-1) p ms kd nl ps) + 62)]) (H' := _) (kc' := 0) (ks' := 0) rfl ?_
  rw [show (nI (ndR op se (-1) p ms kd nl ps) + 62 : Int32) = nI (ndR op se (-1) p ms kd nl ps + 62) from nI_add (ndR op se (-1) p ms kd nl ps) 62]
  refine RQ.blk 2 (pc' := 132) (lv' := [(4, .int (nI c)), (0, .ref 196), (1, .int (nI v)), (2, .int 1), (3, .int (nI l))]) (st' := [.int (nI (ndR op se (-1) p ms kd nl ps + 62) + nI l)]) (H' := _) (kc' := 0) (ks' := 0) rfl ?_
  rw [show (nI (ndR op se (-1) p ms kd nl ps + 62) + nI l : Int32) = nI (ndR op se (-1) p ms kd nl ps + 62 + l) from nI_add (ndR op se (-1) p ms kd nl ps + 62) l]
  refine RQ.blk 1 (pc' := 133) (lv' := [(4, .int (nI c)), (0, .ref 196), (1, .int (nI v)), (2, .int 1), (3, .int (nI l))]) (st' := [.ref 196, .int (nI (ndR op se (-1) p ms kd nl ps + 62 + l))]) (H' := _) (kc' := 0) (ks' := 0) rfl ?_
  refine RQ.get (ci := 12) rfl hm1 rfl rfl ?_
  refine RQ.brT rfl rfl rfl (cT_le ((ndR op se (-1) p ms kd nl ps) + 62 + l) li) ?_
  refine RQ.blk 2 (pc' := 147) (lv' := [(4, .int (nI c)), (0, .ref 196), (1, .int (nI v)), (2, .int 1), (3, .int (nI l))]) (st' := [.int 2, .ref 196]) (H' := _) (kc' := 0) (ks' := 0) rfl ?_
  refine RQ.call (v := some (.int 0)) (st' := []) rfl rfl rfl rfl rfl rfl (args_v [.int 2] [] rfl rfl (Nat.le_of_ble_eq_true rfl) rfl hm1 (Nat.le_of_ble_eq_true rfl)) (rc_mlost0 hm1) ?_
  refine RQ.brT rfl rfl rfl (by decide) ?_
  refine RQ.blk 1 (pc' := 160) (lv' := [(4, .int (nI c)), (0, .ref 196), (1, .int (nI v)), (2, .int 1), (3, .int (nI l))]) (st' := [.ref 196]) (H' := _) (kc' := 0) (ks' := 0) rfl ?_
  refine RQ.get (ci := 12) rfl hm1 rfl rfl ?_
  refine RQ.blk 2 (pc' := 166) (lv' := [(4, .int (nI c)), (0, .ref 196), (1, .int (nI v)), (2, .int 1), (3, .int (nI l))]) (st' := [.int 1, .int (nI c), .ref 214]) (H' := _) (kc' := 0) (ks' := 0) rfl ?_
  refine RQ.brF rfl rfl rfl (by decide) ?_
  refine RQ.blk 2 (pc' := 174) (lv' := [(4, .int (nI c)), (0, .ref 196), (1, .int (nI v)), (2, .int 1), (3, .int (nI l))]) (st' := [.int 2, .int (nI c), .ref 214]) (H' := _) (kc' := 0) (ks' := 0) rfl ?_
  refine RQ.iastN (j := c) rfl hT1.1 (by omega) (by decide) ?_
  refine RQ.blk 1 (pc' := 176) (lv' := [(4, .int (nI c)), (0, .ref 196), (1, .int (nI v)), (2, .int 1), (3, .int (nI l))]) (st' := [.ref 196]) (H' := _) (kc' := 0) (ks' := 0) rfl ?_
  refine RQ.get (ci := 12) rfl ((set_far (by decide)).trans hm1) rfl rfl ?_
  refine RQ.blk 2 (pc' := 182) (lv' := [(4, .int (nI c)), (0, .ref 196), (1, .int (nI v)), (2, .int 1), (3, .int (nI l))]) (st' := [.int 0, .int (nI c), .ref 218]) (H' := _) (kc' := 0) (ks' := 0) rfl ?_
  refine RQ.iastN (j := c) rfl ((set_far (by decide)).trans hT1.2.2.2.2) (by omega) (by decide) ?_
  have hm3 : ((H2.set 213 (kI 201 (va_up (fun j => nI (kd j)) c 2))).set 217 (kI 201 (va_up (fun j => nI (sz j)) c 0)))[195]? = _ := (set_far (by decide)).trans ((set_far (by decide)).trans hm1)
  have f3 : ∀ a, ¬ (a = 195 ∨ a = 213 ∨ a = 217) → ((H2.set 213 (kI 201 (va_up (fun j => nI (kd j)) c 2))).set 217 (kI 201 (va_up (fun j => nI (sz j)) c 0)))[a]? = H[a]? := fun a ha => (set_far (by omega)).trans ((set_far (by omega)).trans (f1 a (by omega)))
  have hK3 : ((H2.set 213 (kI 201 (va_up (fun j => nI (kd j)) c 2))).set 217 (kI 201 (va_up (fun j => nI (sz j)) c 0)))[213]? = some (kI 201 (fun j => nI (va_up kd c 2 j))) := (set_far (by decide)).trans ((get_set hT1.1).trans (congrArg (fun g => some (kI 201 g)) (by funext j; by_cases e : j = c; rw [e, up_at, up_at]; rfl; rw [up_ne e, up_ne e])))
  have hZ3 : ((H2.set 213 (kI 201 (va_up (fun j => nI (kd j)) c 2))).set 217 (kI 201 (va_up (fun j => nI (sz j)) c 0)))[217]? = some (kI 201 (fun j => nI (va_up sz c 0 j))) := (get_set ((set_far (by decide)).trans hT1.2.2.2.2)).trans (congrArg (fun g => some (kI 201 g)) (by funext j; by_cases e : j = c; rw [e, up_at, up_at]; rfl; rw [up_ne e, up_ne e]))
  generalize ((H2.set 213 (kI 201 (va_up (fun j => nI (kd j)) c 2))).set 217 (kI 201 (va_up (fun j => nI (sz j)) c 0))) = H3 at hm3 f3 hK3 hZ3 ⊢
  have hT3 : MTreeAt H3 (va_up kd c 2) pa (va_up sz c 0) nl nm := ⟨hK3, (f3 214 (by omega)).trans hT.2.1, (f3 215 (by omega)).trans hT.2.2.1, (f3 216 (by omega)).trans hT.2.2.2.1, hZ3⟩
  refine RQ.blk 5 (pc' := 189) (lv' := [(4, .int (nI c)), (0, .ref 196), (1, .int (nI v)), (2, .int 1), (3, .int (nI l))]) (st' := [.int (nI l), .int 0, .int (nI v), .int (nI c), .ref 196]) (H' := _) (kc' := 0) (ks' := 0) rfl ?_
  refine RQ.call (v := none) (st' := []) rfl rfl rfl rfl rfl rfl (args_v [.int (nI l), .int 0, .int (nI v), .int (nI c)] [] rfl rfl (Nat.le_of_ble_eq_true rfl) rfl hm3 (Nat.le_of_ble_eq_true rfl)) (rc_mname (v := c) (dir := v) (i := 0) (n := l) hm3 hT3 ((f3 196 (by omega)).trans h196) hc2 (by omega) hl) ?_
  have hm4 : (((H3.set 214 (kI 201 (fun j => nI (va_up pa c v j)))).set 215 (kI 201 (fun j => nI (va_up nl c l j)))).set 216 (kB 6030 (cpy tb 0 nm (30 * c) l)))[195]? = _ := (set_far (by decide)).trans ((set_far (by decide)).trans ((set_far (by decide)).trans hm3))
  have f4 : ∀ a, ¬ (a = 195 ∨ (213 ≤ a ∧ a < 218)) → (((H3.set 214 (kI 201 (fun j => nI (va_up pa c v j)))).set 215 (kI 201 (fun j => nI (va_up nl c l j)))).set 216 (kB 6030 (cpy tb 0 nm (30 * c) l)))[a]? = H[a]? := fun a ha => (set_far (by omega)).trans ((set_far (by omega)).trans ((set_far (by omega)).trans (f3 a (by omega))))
  have hT4 : MTreeAt (((H3.set 214 (kI 201 (fun j => nI (va_up pa c v j)))).set 215 (kI 201 (fun j => nI (va_up nl c l j)))).set 216 (kB 6030 (cpy tb 0 nm (30 * c) l))) (va_up kd c 2) (va_up pa c v) (va_up sz c 0) (va_up nl c l) (cpy tb 0 nm (30 * c) l) := ⟨(set_far (by decide)).trans ((set_far (by decide)).trans ((set_far (by decide)).trans hT3.1)), (set_far (by decide)).trans ((set_far (by decide)).trans (get_set hT3.2.1)), (set_far (by decide)).trans (get_set ((set_far (by decide)).trans hT3.2.2.1)), get_set ((set_far (by decide)).trans ((set_far (by decide)).trans hT3.2.2.2.1)), (set_far (by decide)).trans ((set_far (by decide)).trans ((set_far (by decide)).trans hT3.2.2.2.2))⟩
  generalize (((H3.set 214 (kI 201 (fun j => nI (va_up pa c v j)))).set 215 (kI 201 (fun j => nI (va_up nl c l j)))).set 216 (kB 6030 (cpy tb 0 nm (30 * c) l))) = H4 at hm4 f4 hT4 ⊢
  have hP4 := hP.far (fun a a1 a2 => f4 a (by omega))
  refine RQ.blk 3 (pc' := 196) (lv' := [(4, .int (nI c)), (0, .ref 196), (1, .int (nI v)), (2, .int 1), (3, .int (nI l))]) (st' := [.int (nI c), .int 2, .ref 196]) (H' := _) (kc' := 0) (ks' := 0) rfl ?_
  refine RQ.call (v := some (.int (nI c))) (st' := []) rfl rfl rfl rfl rfl rfl (args_v [.int (nI c), .int 2] [] rfl rfl (Nat.le_of_ble_eq_true rfl) rfl hm4 (Nat.le_of_ble_eq_true rfl)) (rc_mchanged0 (x := 2) hm4) ?_
  exact RQ.done (c := 0) (s := 0) rfl rfl rfl rfl ⟨_, _, rfl, rfl, ⟨us, ba, bo, get_set hm4, hV.far (fun a a1 a2 => (set_far (by omega)).trans (f4 a (by omega))) ((set_far (by decide)).trans (f4 223 (by omega))), (set_far (by decide)).trans ((f4 205 (by omega)).trans h5), (set_far (by decide)).trans ((f4 206 (by omega)).trans h6), hR.far (fun a a1 => (set_far (by omega)).trans (f4 a (by omega))), hT4.far (fun a a1 a2 => set_far (by omega)), hP4.far (fun a a1 a2 => set_far (by omega)), (set_far (by decide)).trans ((f4 196 (by omega)).trans h196), (set_far (by decide)).trans ((f4 197 (by omega)).trans h197)⟩, fun a ha => (set_far (by omega)).trans (f4 a (by omega))⟩
set_option maxRecDepth 20000 in
theorem ri_mmake1_late {sc : Nat × (Nat → Int32)} {d l : Nat} {H : aH} {fa rs : Int32} {li : Nat} {tb : Nat → Int8} {g0 : Nat → Int8} {p : Nat} {ms : List aMV} {op : Nat → Bool} {se : Nat → Nat} {wss : Nat → List aE} {kd pa sz nl : Nat → Nat} {nm : Nat → Int8} {ps : List aPc} {v c : Nat} (h : RefI H fa li 0 1 1 tb l rs g0 p ms op se wss kd pa sz nl nm ps) (hk : RefOk l p ms se kd pa sz nl ps) (hv : v ≤ 200) (hl1 : 1 ≤ l) (hl : l ≤ 30) (hnm : noSl tb 0 l) (hkd : kd v = 2) (hc : (fstF (inN kd pa nl nm v (sl tb 0 l)) 1 200) = none) (hfr : frI kd = c) (hc1 : 1 ≤ c) (hc2 : c ≤ 200) (hli : li < 2 ^ 31) (hnd : (ndR op se (-1) p ms kd nl ps) + 62 + l < 2 ^ 31) (hfits : (ndR op se (-1) p ms kd nl ps) + 62 + l ≤ li) : RI sc (d + 5) mr_304 [.ref 196, .int (nI v), .int 1] H (fun x H' => x = 0 ∧ RefI H' 2 li 1 0 1 tb 0 0 g0 (p + 1) (ms.filter (keepM (fun j => if j < 8 then false else op j) se (p + 1) (kmM ms))) (fun j => if j < 8 then false else op j) se wss (va_up kd c 2) (va_up pa c v) (va_up sz c 0) (va_up nl c l) (cpy tb 0 nm (30 * c) l) ps ∧ ∀ a, ¬ (195 ≤ a ∧ a < 224) → H'[a]? = H[a]?) := by
  obtain ⟨us, ba, bo, hm, hV, h5, h6, hR, hT, hP, h196, h197⟩ := h
  obtain ⟨k1, k2, k3, k4, k5, k6, k7, k8⟩ := hk
  refine RI.of ?_
  refine RQ.blk 2 (pc' := 2) (lv' := [(0, .ref 196), (1, .int (nI v)), (2, .int 1)]) (st' := [.int 0, .ref 196]) (H' := _) (kc' := 0) (ks' := 0) rfl ?_
  refine RQ.put (ci := 12) rfl hm rfl rfl (Nat.le_of_ble_eq_true rfl) ?_
  have hm1 : (H.set 195 (kO 12 (mfs 0 (nI li) 0 1 1 (nI l) rs (nI p) (nI ms.length) (nI us) (nI ps.length) (nI (plen ps)) ba bo)))[195]? = some (kO 12 (mfs 0 (nI li) 0 1 1 (nI l) rs (nI p) (nI ms.length) (nI us) (nI ps.length) (nI (plen ps)) ba bo)) := get_set hm
  have f1 : ∀ a, a ≠ 195 → (H.set 195 (kO 12 (mfs 0 (nI li) 0 1 1 (nI l) rs (nI p) (nI ms.length) (nI us) (nI ps.length) (nI (plen ps)) ba bo)))[a]? = H[a]? := fun a ha => set_far ha
  show RQ _ _ _ 5 [(0, .ref 196), (1, .int (nI v)), (2, .int 1)] [] (H.set 195 (kO 12 (mfs 0 (nI li) 0 1 1 (nI l) rs (nI p) (nI ms.length) (nI us) (nI ps.length) (nI (plen ps)) ba bo))) 0 0 _
  generalize (H.set 195 (kO 12 (mfs 0 (nI li) 0 1 1 (nI l) rs (nI p) (nI ms.length) (nI us) (nI ps.length) (nI (plen ps)) ba bo))) = H1 at hm1 f1 ⊢
  have hV1 := hV.far (fun a a1 a2 => f1 a (by omega)) (f1 223 (by decide))
  have h51 := (f1 205 (by decide)).trans h5
  have h61 := (f1 206 (by decide)).trans h6
  have hR1 := hR.far (fun a a1 => f1 a (by omega))
  have hT1 := hT.far (fun a a1 a2 => f1 a (by omega))
  have hP1 := hP.far (fun a a1 a2 => f1 a (by omega))
  have h1961 := (f1 196 (by decide)).trans h196
  have h1971 := (f1 197 (by decide)).trans h197
  have hkv := k5 v hv
  refine RQ.blk 3 (pc' := 10) (lv' := [(0, .ref 196), (1, .int (nI v)), (2, .int 1)]) (st' := [.int 201, .int (nI v), .ref 196]) (H' := _) (kc' := 0) (ks' := 0) rfl ?_
  refine RQ.call (v := some (.int 0)) (st' := []) rfl rfl rfl rfl rfl rfl (args_v [.int 201, .int (nI v)] [] rfl rfl (Nat.le_of_ble_eq_true rfl) rfl hm1 (Nat.le_of_ble_eq_true rfl)) (rc_out (v := v) (m := 201) (by omega) (by decide)) ?_
  refine RQ.brF rfl rfl rfl (by decide) ?_
  refine RQ.blk 3 (pc' := 19) (lv' := [(0, .ref 196), (1, .int (nI v)), (2, .int 1)]) (st' := [.ref 196, .int 0, .ref 196]) (H' := _) (kc' := 0) (ks' := 0) rfl ?_
  refine RQ.get (ci := 12) rfl hm1 rfl rfl ?_
  refine RQ.call (v := some (.int 1)) (st' := []) rfl rfl rfl rfl rfl rfl (args_v [.int (nI l), .int 0] [] rfl rfl (Nat.le_of_ble_eq_true rfl) rfl hm1 (Nat.le_of_ble_eq_true rfl)) (rc_named1 (i := 0) (n := l) hm1 h1961 (by decide) (by omega) hl1 hl hnm) ?_
  refine RQ.brT rfl rfl rfl (by decide) ?_
  refine RQ.blk 1 (pc' := 35) (lv' := [(0, .ref 196), (1, .int (nI v)), (2, .int 1)]) (st' := [.ref 196]) (H' := _) (kc' := 0) (ks' := 0) rfl ?_
  refine RQ.get (ci := 12) rfl hm1 rfl rfl ?_
  refine RQ.brT rfl rfl rfl (by decide) ?_
  refine RQ.blk 1 (pc' := 48) (lv' := [(0, .ref 196), (1, .int (nI v)), (2, .int 1)]) (st' := [.ref 196]) (H' := _) (kc' := 0) (ks' := 0) rfl ?_
  refine RQ.get (ci := 12) rfl hm1 rfl rfl ?_
  refine RQ.blk 3 (pc' := 54) (lv' := [(3, .int (nI l)), (0, .ref 196), (1, .int (nI v)), (2, .int 1)]) (st' := [.int 0, .ref 196]) (H' := _) (kc' := 0) (ks' := 0) rfl ?_
  refine RQ.put (ci := 12) rfl hm1 rfl rfl (Nat.le_of_ble_eq_true rfl) ?_
  have hm2 : (H1.set 195 (kO 12 (mfs 0 (nI li) 0 1 1 (nI 0) rs (nI p) (nI ms.length) (nI us) (nI ps.length) (nI (plen ps)) ba bo)))[195]? = some (kO 12 (mfs 0 (nI li) 0 1 1 (nI 0) rs (nI p) (nI ms.length) (nI us) (nI ps.length) (nI (plen ps)) ba bo)) := get_set hm1
  have f2 : ∀ a, a ≠ 195 → (H1.set 195 (kO 12 (mfs 0 (nI li) 0 1 1 (nI 0) rs (nI p) (nI ms.length) (nI us) (nI ps.length) (nI (plen ps)) ba bo)))[a]? = H[a]? := fun a ha => (set_far ha).trans (f1 a ha)
  show RQ _ _ _ 57 [(3, .int (nI l)), (0, .ref 196), (1, .int (nI v)), (2, .int 1)] [] (H1.set 195 (kO 12 (mfs 0 (nI li) 0 1 1 (nI 0) rs (nI p) (nI ms.length) (nI us) (nI ps.length) (nI (plen ps)) ba bo))) 0 0 _
  generalize (H1.set 195 (kO 12 (mfs 0 (nI li) 0 1 1 (nI 0) rs (nI p) (nI ms.length) (nI us) (nI ps.length) (nI (plen ps)) ba bo))) = H2 at hm2 f2 ⊢
  clear hm1 f1 hV1 h51 h61 hR1 hT1 hP1 h1961 h1971
  have hm1 := hm2
  have f1 := f2
  clear hm2 f2
  have hV1 := hV.far (fun a a1 a2 => f1 a (by omega)) (f1 223 (by decide))
  have h51 := (f1 205 (by decide)).trans h5
  have h61 := (f1 206 (by decide)).trans h6
  have hR1 := hR.far (fun a a1 => f1 a (by omega))
  have hT1 := hT.far (fun a a1 a2 => f1 a (by omega))
  have hP1 := hP.far (fun a a1 a2 => f1 a (by omega))
  have h1961 := (f1 196 (by decide)).trans h196
  have h1971 := (f1 197 (by decide)).trans h197
  refine RQ.blk 2 (pc' := 59) (lv' := [(3, .int (nI l)), (0, .ref 196), (1, .int (nI v)), (2, .int 1)]) (st' := [.int (nI v), .ref 196]) (H' := _) (kc' := 0) (ks' := 0) rfl ?_
  refine RQ.call (v := some (.int 1)) (st' := []) rfl rfl rfl rfl rfl rfl (args_v [.int (nI v)] [] rfl rfl (Nat.le_of_ble_eq_true rfl) rfl hm1 (Nat.le_of_ble_eq_true rfl)) (rc_mdirT hm1 rfl hT1.1 hv (nI_is2 hkd)) ?_
  refine RQ.brT rfl rfl rfl (by decide) ?_
  refine RQ.blk 4 (pc' := 75) (lv' := [(3, .int (nI l)), (0, .ref 196), (1, .int (nI v)), (2, .int 1)]) (st' := [.int (nI l), .int 0, .int (nI v), .ref 196]) (H' := _) (kc' := 0) (ks' := 0) rfl ?_
  have hch := rc_mchild (sc := sc) (d := d + 3) (j := 0) (m := l) hm1 hT1 k5 h1961 (by omega) hv
  rw [hc] at hch
  refine RQ.call (v := some (.int (-1))) (st' := []) rfl rfl rfl rfl rfl rfl (args_v [.int (nI l), .int 0, .int (nI v)] [] rfl rfl (Nat.le_of_ble_eq_true rfl) rfl hm1 (Nat.le_of_ble_eq_true rfl)) hch ?_
  refine RQ.brT rfl rfl rfl (by decide) ?_
  refine RQ.blk 2 (pc' := 90) (lv' := [(4, .int 1), (3, .int (nI l)), (0, .ref 196), (1, .int (nI v)), (2, .int 1)]) (st' := []) (H' := _) (kc' := 0) (ks' := 0) rfl ?_
  refine RQ.pick (a := [(4, .int 1), (0, .ref 196), (1, .int (nI v)), (2, .int 1), (3, .int (nI l))]) [0, 2, 3, 4, 1] [4, 3, 0, 1, 2] rfl rfl (by decide) ?_
  refine rq_mmk hm1 rfl hT1.1 (fun i hi => (k5 i hi).1) ?_
  rw [hfr]
  refine RQ.blk 2 (pc' := 119) (lv' := [(4, .int (nI c)), (0, .ref 196), (1, .int (nI v)), (2, .int 1), (3, .int (nI l))]) (st' := [.int 200, .int (nI c)]) (H' := _) (kc' := 0) (ks' := 0) rfl ?_
  refine RQ.brF rfl rfl rfl (cF_gt c 200) ?_
  refine RQ.blk 2 (pc' := 124) (lv' := [(4, .int (nI c)), (0, .ref 196), (1, .int (nI v)), (2, .int 1), (3, .int (nI l))]) (st' := [.int (-1), .ref 196]) (H' := _) (kc' := 0) (ks' := 0) rfl ?_
  refine RQ.call (v := some (.int (nI (ndR op se (-1) p ms kd nl ps)))) (st' := []) rfl rfl rfl rfl rfl rfl (args_v [.int (-1)] [] rfl rfl (Nat.le_of_ble_eq_true rfl) rfl hm1 (Nat.le_of_ble_eq_true rfl)) (rc_mneedR (x := -1) hm1 hV1 k3 h51 h61 k4 hT1 k5 hP1 k6 (by omega)) ?_
  refine RQ.blk 2 (pc' := 130) (lv' := [(4, .int (nI c)), (0, .ref 196), (1, .int (nI v)), (2, .int 1), (3, .int (nI l))]) (st' := [.int (nI (ndR op se (-1) p ms kd nl ps) + 62)]) (H' := _) (kc' := 0) (ks' := 0) rfl ?_
  rw [show (nI (ndR op se (-1) p ms kd nl ps) + 62 : Int32) = nI (ndR op se (-1) p ms kd nl ps + 62) from nI_add (ndR op se (-1) p ms kd nl ps) 62]
  refine RQ.blk 2 (pc' := 132) (lv' := [(4, .int (nI c)), (0, .ref 196), (1, .int (nI v)), (2, .int 1), (3, .int (nI l))]) (st' := [.int (nI (ndR op se (-1) p ms kd nl ps + 62) + nI l)]) (H' := _) (kc' := 0) (ks' := 0) rfl ?_
  rw [show (nI (ndR op se (-1) p ms kd nl ps + 62) + nI l : Int32) = nI (ndR op se (-1) p ms kd nl ps + 62 + l) from nI_add (ndR op se (-1) p ms kd nl ps + 62) l]
  refine RQ.blk 1 (pc' := 133) (lv' := [(4, .int (nI c)), (0, .ref 196), (1, .int (nI v)), (2, .int 1), (3, .int (nI l))]) (st' := [.ref 196, .int (nI (ndR op se (-1) p ms kd nl ps + 62 + l))]) (H' := _) (kc' := 0) (ks' := 0) rfl ?_
  refine RQ.get (ci := 12) rfl hm1 rfl rfl ?_
  refine RQ.brT rfl rfl rfl (cT_le ((ndR op se (-1) p ms kd nl ps) + 62 + l) li) ?_
  refine RQ.blk 2 (pc' := 147) (lv' := [(4, .int (nI c)), (0, .ref 196), (1, .int (nI v)), (2, .int 1), (3, .int (nI l))]) (st' := [.int 2, .ref 196]) (H' := _) (kc' := 0) (ks' := 0) rfl ?_
  refine RQ.call (v := some (.int 0)) (st' := []) rfl rfl rfl rfl rfl rfl (args_v [.int 2] [] rfl rfl (Nat.le_of_ble_eq_true rfl) rfl hm1 (Nat.le_of_ble_eq_true rfl)) (rc_mlostL hm1) ?_
  refine RQ.brT rfl rfl rfl (by decide) ?_
  refine RQ.blk 1 (pc' := 160) (lv' := [(4, .int (nI c)), (0, .ref 196), (1, .int (nI v)), (2, .int 1), (3, .int (nI l))]) (st' := [.ref 196]) (H' := _) (kc' := 0) (ks' := 0) rfl ?_
  refine RQ.get (ci := 12) rfl hm1 rfl rfl ?_
  refine RQ.blk 2 (pc' := 166) (lv' := [(4, .int (nI c)), (0, .ref 196), (1, .int (nI v)), (2, .int 1), (3, .int (nI l))]) (st' := [.int 1, .int (nI c), .ref 214]) (H' := _) (kc' := 0) (ks' := 0) rfl ?_
  refine RQ.brF rfl rfl rfl (by decide) ?_
  refine RQ.blk 2 (pc' := 174) (lv' := [(4, .int (nI c)), (0, .ref 196), (1, .int (nI v)), (2, .int 1), (3, .int (nI l))]) (st' := [.int 2, .int (nI c), .ref 214]) (H' := _) (kc' := 0) (ks' := 0) rfl ?_
  refine RQ.iastN (j := c) rfl hT1.1 (by omega) (by decide) ?_
  refine RQ.blk 1 (pc' := 176) (lv' := [(4, .int (nI c)), (0, .ref 196), (1, .int (nI v)), (2, .int 1), (3, .int (nI l))]) (st' := [.ref 196]) (H' := _) (kc' := 0) (ks' := 0) rfl ?_
  refine RQ.get (ci := 12) rfl ((set_far (by decide)).trans hm1) rfl rfl ?_
  refine RQ.blk 2 (pc' := 182) (lv' := [(4, .int (nI c)), (0, .ref 196), (1, .int (nI v)), (2, .int 1), (3, .int (nI l))]) (st' := [.int 0, .int (nI c), .ref 218]) (H' := _) (kc' := 0) (ks' := 0) rfl ?_
  refine RQ.iastN (j := c) rfl ((set_far (by decide)).trans hT1.2.2.2.2) (by omega) (by decide) ?_
  have hm3 : ((H2.set 213 (kI 201 (va_up (fun j => nI (kd j)) c 2))).set 217 (kI 201 (va_up (fun j => nI (sz j)) c 0)))[195]? = _ := (set_far (by decide)).trans ((set_far (by decide)).trans hm1)
  have f3 : ∀ a, ¬ (a = 195 ∨ a = 213 ∨ a = 217) → ((H2.set 213 (kI 201 (va_up (fun j => nI (kd j)) c 2))).set 217 (kI 201 (va_up (fun j => nI (sz j)) c 0)))[a]? = H[a]? := fun a ha => (set_far (by omega)).trans ((set_far (by omega)).trans (f1 a (by omega)))
  have hK3 : ((H2.set 213 (kI 201 (va_up (fun j => nI (kd j)) c 2))).set 217 (kI 201 (va_up (fun j => nI (sz j)) c 0)))[213]? = some (kI 201 (fun j => nI (va_up kd c 2 j))) := (set_far (by decide)).trans ((get_set hT1.1).trans (congrArg (fun g => some (kI 201 g)) (by funext j; by_cases e : j = c; rw [e, up_at, up_at]; rfl; rw [up_ne e, up_ne e])))
  have hZ3 : ((H2.set 213 (kI 201 (va_up (fun j => nI (kd j)) c 2))).set 217 (kI 201 (va_up (fun j => nI (sz j)) c 0)))[217]? = some (kI 201 (fun j => nI (va_up sz c 0 j))) := (get_set ((set_far (by decide)).trans hT1.2.2.2.2)).trans (congrArg (fun g => some (kI 201 g)) (by funext j; by_cases e : j = c; rw [e, up_at, up_at]; rfl; rw [up_ne e, up_ne e]))
  generalize ((H2.set 213 (kI 201 (va_up (fun j => nI (kd j)) c 2))).set 217 (kI 201 (va_up (fun j => nI (sz j)) c 0))) = H3 at hm3 f3 hK3 hZ3 ⊢
  have hT3 : MTreeAt H3 (va_up kd c 2) pa (va_up sz c 0) nl nm := ⟨hK3, (f3 214 (by omega)).trans hT.2.1, (f3 215 (by omega)).trans hT.2.2.1, (f3 216 (by omega)).trans hT.2.2.2.1, hZ3⟩
  refine RQ.blk 5 (pc' := 189) (lv' := [(4, .int (nI c)), (0, .ref 196), (1, .int (nI v)), (2, .int 1), (3, .int (nI l))]) (st' := [.int (nI l), .int 0, .int (nI v), .int (nI c), .ref 196]) (H' := _) (kc' := 0) (ks' := 0) rfl ?_
  refine RQ.call (v := none) (st' := []) rfl rfl rfl rfl rfl rfl (args_v [.int (nI l), .int 0, .int (nI v), .int (nI c)] [] rfl rfl (Nat.le_of_ble_eq_true rfl) rfl hm3 (Nat.le_of_ble_eq_true rfl)) (rc_mname (v := c) (dir := v) (i := 0) (n := l) hm3 hT3 ((f3 196 (by omega)).trans h196) hc2 (by omega) hl) ?_
  have hm4 : (((H3.set 214 (kI 201 (fun j => nI (va_up pa c v j)))).set 215 (kI 201 (fun j => nI (va_up nl c l j)))).set 216 (kB 6030 (cpy tb 0 nm (30 * c) l)))[195]? = _ := (set_far (by decide)).trans ((set_far (by decide)).trans ((set_far (by decide)).trans hm3))
  have f4 : ∀ a, ¬ (a = 195 ∨ (213 ≤ a ∧ a < 218)) → (((H3.set 214 (kI 201 (fun j => nI (va_up pa c v j)))).set 215 (kI 201 (fun j => nI (va_up nl c l j)))).set 216 (kB 6030 (cpy tb 0 nm (30 * c) l)))[a]? = H[a]? := fun a ha => (set_far (by omega)).trans ((set_far (by omega)).trans ((set_far (by omega)).trans (f3 a (by omega))))
  have hT4 : MTreeAt (((H3.set 214 (kI 201 (fun j => nI (va_up pa c v j)))).set 215 (kI 201 (fun j => nI (va_up nl c l j)))).set 216 (kB 6030 (cpy tb 0 nm (30 * c) l))) (va_up kd c 2) (va_up pa c v) (va_up sz c 0) (va_up nl c l) (cpy tb 0 nm (30 * c) l) := ⟨(set_far (by decide)).trans ((set_far (by decide)).trans ((set_far (by decide)).trans hT3.1)), (set_far (by decide)).trans ((set_far (by decide)).trans (get_set hT3.2.1)), (set_far (by decide)).trans (get_set ((set_far (by decide)).trans hT3.2.2.1)), get_set ((set_far (by decide)).trans ((set_far (by decide)).trans hT3.2.2.2.1)), (set_far (by decide)).trans ((set_far (by decide)).trans ((set_far (by decide)).trans hT3.2.2.2.2))⟩
  generalize (((H3.set 214 (kI 201 (fun j => nI (va_up pa c v j)))).set 215 (kI 201 (fun j => nI (va_up nl c l j)))).set 216 (kB 6030 (cpy tb 0 nm (30 * c) l))) = H4 at hm4 f4 hT4 ⊢
  have hP4 := hP.far (fun a a1 a2 => f4 a (by omega))
  refine RQ.blk 3 (pc' := 196) (lv' := [(4, .int (nI c)), (0, .ref 196), (1, .int (nI v)), (2, .int 1), (3, .int (nI l))]) (st' := [.int (nI c), .int 2, .ref 196]) (H' := _) (kc' := 0) (ks' := 0) rfl ?_
  refine RQ.callI (st' := []) rfl rfl rfl rfl rfl rfl (args_v [.int (nI c), .int 2] [] rfl rfl (Nat.le_of_ble_eq_true rfl) rfl hm4 (Nat.le_of_ble_eq_true rfl)) (ri_mchanged1 (x := 2) (y := nI c) hm4 (hV.far (fun a a1 a2 => f4 a (by omega)) (f4 223 (by omega))) k3 ((f4 205 (by omega)).trans h5) ((f4 206 (by omega)).trans h6) k4 k2) (fun z H5 hz => ?_)
  obtain ⟨ez, us', hm5, hV5, h55, f5⟩ := hz
  have g5 : ∀ a, ¬ (195 ≤ a ∧ a ≤ 205 ∧ a ≠ 196 ∧ a ≠ 197 ∨ a = 223) → H5[a]? = H4[a]? := fun a ha => f5 a (by omega) (by omega)
  exact RQ.done (c := 0) (s := 0) rfl rfl rfl rfl ⟨_, _, rfl, ez, ⟨us', bo, ba, hm5, hV5, h55, (g5 206 (by omega)).trans ((f4 206 (by omega)).trans h6), hR.far (fun a a1 => (g5 a (by omega)).trans (f4 a (by omega))), hT4.far (fun a a1 a2 => g5 a (by omega)), hP4.far (fun a a1 a2 => g5 a (by omega)), (g5 196 (by omega)).trans ((f4 196 (by omega)).trans h196), (g5 197 (by omega)).trans ((f4 197 (by omega)).trans h197)⟩, fun a ha => (g5 a (by omega)).trans (f4 a (by omega))⟩
