/-! ===== remove of the reference, every end but the first; written by wip/gen/refi3.py ===== -/
theorem nI_ne2 {k : Nat} (h1 : k ≤ 2) (h : ¬ k = 2) : ¬ nI k = 2 := by
  rcases (show k = 0 ∨ k = 1 by omega) with e | e
  · rw [e]; decide
  · rw [e]; decide
theorem nI_is2 {k : Nat} (h : k = 2) : nI k = 2 := by rw [h]; rfl
set_option maxRecDepth 20000 in
theorem ri_mremove_down {sc : Nat × (Nat → Int32)} {d l : Nat} {H : aH} {fa cw cl rs : Int32} {li : Nat} {tb : Nat → Int8} {g0 : Nat → Int8} {p : Nat} {ms : List aMV} {op : Nat → Bool} {se : Nat → Nat} {wss : Nat → List aE} {kd pa sz nl : Nat → Nat} {nm : Nat → Int8} {ps : List aPc} {v : Nat} (h : RefI H fa li 1 cw cl tb l rs g0 p ms op se wss kd pa sz nl nm ps) (hk : RefOk l p ms se kd pa sz nl ps) (hv : v ≤ 200) (hl1 : 1 ≤ l) (hl : l ≤ 30) (hnm : noSl tb 0 l) : RI sc (d + 5) mr_311 [.ref 196, .int (nI v)] H (fun x H' => x = 0 ∧ RefI H' 2 li 1 cw cl tb l rs g0 p ms op se wss kd pa sz nl nm ps ∧ ∀ a, ¬ (195 ≤ a ∧ a < 224) → H'[a]? = H[a]?) := by
  obtain ⟨us, ba, bo, hm, hV, h5, h6, hR, hT, hP, h196, h197⟩ := h
  obtain ⟨k1, k2, k3, k4, k5, k6, k7, k8⟩ := hk
  refine RI.of ?_
  refine RQ.blk 2 (pc' := 2) (lv' := [(0, .ref 196), (1, .int (nI v))]) (st' := [.int 0, .ref 196]) (H' := _) (kc' := 0) (ks' := 0) rfl ?_
  refine RQ.put (ci := 12) rfl hm rfl rfl (Nat.le_of_ble_eq_true rfl) ?_
  have hm1 : (H.set 195 (kO 12 (mfs 0 (nI li) 1 cw cl (nI l) rs (nI p) (nI ms.length) (nI us) (nI ps.length) (nI (plen ps)) ba bo)))[195]? = some (kO 12 (mfs 0 (nI li) 1 cw cl (nI l) rs (nI p) (nI ms.length) (nI us) (nI ps.length) (nI (plen ps)) ba bo)) := get_set hm
  have f1 : ∀ a, a ≠ 195 → (H.set 195 (kO 12 (mfs 0 (nI li) 1 cw cl (nI l) rs (nI p) (nI ms.length) (nI us) (nI ps.length) (nI (plen ps)) ba bo)))[a]? = H[a]? := fun a ha => set_far ha
  show RQ _ _ _ 5 [(0, .ref 196), (1, .int (nI v))] [] (H.set 195 (kO 12 (mfs 0 (nI li) 1 cw cl (nI l) rs (nI p) (nI ms.length) (nI us) (nI ps.length) (nI (plen ps)) ba bo))) 0 0 _
  generalize (H.set 195 (kO 12 (mfs 0 (nI li) 1 cw cl (nI l) rs (nI p) (nI ms.length) (nI us) (nI ps.length) (nI (plen ps)) ba bo))) = H1 at hm1 f1 ⊢
  have hV1 := hV.far (fun a a1 a2 => f1 a (by omega)) (f1 223 (by decide))
  have h51 := (f1 205 (by decide)).trans h5
  have h61 := (f1 206 (by decide)).trans h6
  have hR1 := hR.far (fun a a1 => f1 a (by omega))
  have hT1 := hT.far (fun a a1 a2 => f1 a (by omega))
  have hP1 := hP.far (fun a a1 a2 => f1 a (by omega))
  have h1961 := (f1 196 (by decide)).trans h196
  have h1971 := (f1 197 (by decide)).trans h197
  refine RQ.blk 3 (pc' := 10) (lv' := [(0, .ref 196), (1, .int (nI v))]) (st' := [.int 201, .int (nI v), .ref 196]) (H' := _) (kc' := 0) (ks' := 0) rfl ?_
  refine RQ.call (v := some (.int 0)) (st' := []) rfl rfl rfl rfl rfl rfl (args_v [.int 201, .int (nI v)] [] rfl rfl (Nat.le_of_ble_eq_true rfl) rfl hm1 (Nat.le_of_ble_eq_true rfl)) (rc_out (v := v) (m := 201) (by omega) (by decide)) ?_
  refine RQ.brF rfl rfl rfl (by decide) ?_
  refine RQ.blk 3 (pc' := 19) (lv' := [(0, .ref 196), (1, .int (nI v))]) (st' := [.ref 196, .int 0, .ref 196]) (H' := _) (kc' := 0) (ks' := 0) rfl ?_
  refine RQ.get (ci := 12) rfl hm1 rfl rfl ?_
  refine RQ.call (v := some (.int 1)) (st' := []) rfl rfl rfl rfl rfl rfl (args_v [.int (nI l), .int 0] [] rfl rfl (Nat.le_of_ble_eq_true rfl) rfl hm1 (Nat.le_of_ble_eq_true rfl)) (rc_named1 (i := 0) (n := l) hm1 h1961 (by decide) (by omega) hl1 hl hnm) ?_
  refine RQ.brT rfl rfl rfl (by decide) ?_
  refine RQ.blk 1 (pc' := 35) (lv' := [(0, .ref 196), (1, .int (nI v))]) (st' := [.ref 196]) (H' := _) (kc' := 0) (ks' := 0) rfl ?_
  refine RQ.get (ci := 12) rfl hm1 rfl rfl ?_
  refine RQ.brF rfl rfl rfl (by decide) ?_
  refine RQ.blk 2 (pc' := 43) (lv' := [(0, .ref 196), (1, .int (nI v))]) (st' := [.int 2, .ref 196]) (H' := _) (kc' := 0) (ks' := 0) rfl ?_
  refine RQ.call (v := some (.int 0)) (st' := []) rfl rfl rfl rfl rfl rfl (args_v [.int 2] [] rfl rfl (Nat.le_of_ble_eq_true rfl) rfl hm1 (Nat.le_of_ble_eq_true rfl)) (rc_mfail hm1 rfl) ?_
  exact RQ.done (c := 0) (s := 0) rfl rfl rfl rfl ⟨_, _, rfl, rfl, ⟨us, ba, bo, get_set hm1, hV1.far (fun a a1 a2 => set_far (by omega)) (set_far (by decide)), (set_far (by decide)).trans h51, (set_far (by decide)).trans h61, hR1.far (fun a a1 => set_far (by omega)), hT1.far (fun a a1 a2 => set_far (by omega)), hP1.far (fun a a1 a2 => set_far (by omega)), (set_far (by decide)).trans h1961, (set_far (by decide)).trans h1971⟩, fun a ha => (set_far (by omega)).trans (f1 a (by omega))⟩
set_option maxRecDepth 20000 in
theorem ri_mremove_no {sc : Nat × (Nat → Int32)} {d l : Nat} {H : aH} {fa cw cl rs : Int32} {li : Nat} {tb : Nat → Int8} {g0 : Nat → Int8} {p : Nat} {ms : List aMV} {op : Nat → Bool} {se : Nat → Nat} {wss : Nat → List aE} {kd pa sz nl : Nat → Nat} {nm : Nat → Int8} {ps : List aPc} {v : Nat} (h : RefI H fa li 0 cw cl tb l rs g0 p ms op se wss kd pa sz nl nm ps) (hk : RefOk l p ms se kd pa sz nl ps) (hv : v ≤ 200) (hl1 : 1 ≤ l) (hl : l ≤ 30) (hnm : noSl tb 0 l) (hkd : ¬ kd v = 2) : RI sc (d + 5) mr_311 [.ref 196, .int (nI v)] H (fun x H' => x = 0 ∧ RefI H' 3 li 0 cw cl tb 0 rs g0 p ms op se wss kd pa sz nl nm ps ∧ ∀ a, ¬ (195 ≤ a ∧ a < 224) → H'[a]? = H[a]?) := by
  obtain ⟨us, ba, bo, hm, hV, h5, h6, hR, hT, hP, h196, h197⟩ := h
  obtain ⟨k1, k2, k3, k4, k5, k6, k7, k8⟩ := hk
  refine RI.of ?_
  refine RQ.blk 2 (pc' := 2) (lv' := [(0, .ref 196), (1, .int (nI v))]) (st' := [.int 0, .ref 196]) (H' := _) (kc' := 0) (ks' := 0) rfl ?_
  refine RQ.put (ci := 12) rfl hm rfl rfl (Nat.le_of_ble_eq_true rfl) ?_
  have hm1 : (H.set 195 (kO 12 (mfs 0 (nI li) 0 cw cl (nI l) rs (nI p) (nI ms.length) (nI us) (nI ps.length) (nI (plen ps)) ba bo)))[195]? = some (kO 12 (mfs 0 (nI li) 0 cw cl (nI l) rs (nI p) (nI ms.length) (nI us) (nI ps.length) (nI (plen ps)) ba bo)) := get_set hm
  have f1 : ∀ a, a ≠ 195 → (H.set 195 (kO 12 (mfs 0 (nI li) 0 cw cl (nI l) rs (nI p) (nI ms.length) (nI us) (nI ps.length) (nI (plen ps)) ba bo)))[a]? = H[a]? := fun a ha => set_far ha
  show RQ _ _ _ 5 [(0, .ref 196), (1, .int (nI v))] [] (H.set 195 (kO 12 (mfs 0 (nI li) 0 cw cl (nI l) rs (nI p) (nI ms.length) (nI us) (nI ps.length) (nI (plen ps)) ba bo))) 0 0 _
  generalize (H.set 195 (kO 12 (mfs 0 (nI li) 0 cw cl (nI l) rs (nI p) (nI ms.length) (nI us) (nI ps.length) (nI (plen ps)) ba bo))) = H1 at hm1 f1 ⊢
  have hV1 := hV.far (fun a a1 a2 => f1 a (by omega)) (f1 223 (by decide))
  have h51 := (f1 205 (by decide)).trans h5
  have h61 := (f1 206 (by decide)).trans h6
  have hR1 := hR.far (fun a a1 => f1 a (by omega))
  have hT1 := hT.far (fun a a1 a2 => f1 a (by omega))
  have hP1 := hP.far (fun a a1 a2 => f1 a (by omega))
  have h1961 := (f1 196 (by decide)).trans h196
  have h1971 := (f1 197 (by decide)).trans h197
  have hkv := k5 v hv
  refine RQ.blk 3 (pc' := 10) (lv' := [(0, .ref 196), (1, .int (nI v))]) (st' := [.int 201, .int (nI v), .ref 196]) (H' := _) (kc' := 0) (ks' := 0) rfl ?_
  refine RQ.call (v := some (.int 0)) (st' := []) rfl rfl rfl rfl rfl rfl (args_v [.int 201, .int (nI v)] [] rfl rfl (Nat.le_of_ble_eq_true rfl) rfl hm1 (Nat.le_of_ble_eq_true rfl)) (rc_out (v := v) (m := 201) (by omega) (by decide)) ?_
  refine RQ.brF rfl rfl rfl (by decide) ?_
  refine RQ.blk 3 (pc' := 19) (lv' := [(0, .ref 196), (1, .int (nI v))]) (st' := [.ref 196, .int 0, .ref 196]) (H' := _) (kc' := 0) (ks' := 0) rfl ?_
  refine RQ.get (ci := 12) rfl hm1 rfl rfl ?_
  refine RQ.call (v := some (.int 1)) (st' := []) rfl rfl rfl rfl rfl rfl (args_v [.int (nI l), .int 0] [] rfl rfl (Nat.le_of_ble_eq_true rfl) rfl hm1 (Nat.le_of_ble_eq_true rfl)) (rc_named1 (i := 0) (n := l) hm1 h1961 (by decide) (by omega) hl1 hl hnm) ?_
  refine RQ.brT rfl rfl rfl (by decide) ?_
  refine RQ.blk 1 (pc' := 35) (lv' := [(0, .ref 196), (1, .int (nI v))]) (st' := [.ref 196]) (H' := _) (kc' := 0) (ks' := 0) rfl ?_
  refine RQ.get (ci := 12) rfl hm1 rfl rfl ?_
  refine RQ.brT rfl rfl rfl (by decide) ?_
  refine RQ.blk 1 (pc' := 48) (lv' := [(0, .ref 196), (1, .int (nI v))]) (st' := [.ref 196]) (H' := _) (kc' := 0) (ks' := 0) rfl ?_
  refine RQ.get (ci := 12) rfl hm1 rfl rfl ?_
  refine RQ.blk 3 (pc' := 54) (lv' := [(2, .int (nI l)), (0, .ref 196), (1, .int (nI v))]) (st' := [.int 0, .ref 196]) (H' := _) (kc' := 0) (ks' := 0) rfl ?_
  refine RQ.put (ci := 12) rfl hm1 rfl rfl (Nat.le_of_ble_eq_true rfl) ?_
  have hm2 : (H1.set 195 (kO 12 (mfs 0 (nI li) 0 cw cl (nI 0) rs (nI p) (nI ms.length) (nI us) (nI ps.length) (nI (plen ps)) ba bo)))[195]? = some (kO 12 (mfs 0 (nI li) 0 cw cl (nI 0) rs (nI p) (nI ms.length) (nI us) (nI ps.length) (nI (plen ps)) ba bo)) := get_set hm1
  have f2 : ∀ a, a ≠ 195 → (H1.set 195 (kO 12 (mfs 0 (nI li) 0 cw cl (nI 0) rs (nI p) (nI ms.length) (nI us) (nI ps.length) (nI (plen ps)) ba bo)))[a]? = H[a]? := fun a ha => (set_far ha).trans (f1 a ha)
  show RQ _ _ _ 57 [(2, .int (nI l)), (0, .ref 196), (1, .int (nI v))] [] (H1.set 195 (kO 12 (mfs 0 (nI li) 0 cw cl (nI 0) rs (nI p) (nI ms.length) (nI us) (nI ps.length) (nI (plen ps)) ba bo))) 0 0 _
  generalize (H1.set 195 (kO 12 (mfs 0 (nI li) 0 cw cl (nI 0) rs (nI p) (nI ms.length) (nI us) (nI ps.length) (nI (plen ps)) ba bo))) = H2 at hm2 f2 ⊢
  clear hm1 f1 hV1 h51 h61 hR1 hT1 hP1 h1961 h1971
  have hm1 := hm2
  have f1 := f2
  clear hm2 f2
  have hV1 := hV.far (fun a a1 a2 => f1 a (by omega)) (f1 223 (by decide))
  have h51 := (f1 205 (by decide)).trans h5
  have h61 := (f1 206 (by decide)).trans h6
  have hR1 := hR.far (fun a a1 => f1 a (by omega))
  have hT1 := hT.far (fun a a1 a2 => f1 a (by omega))
  have hP1 := hP.far (fun a a1 a2 => f1 a (by omega))
  have h1961 := (f1 196 (by decide)).trans h196
  have h1971 := (f1 197 (by decide)).trans h197
  refine RQ.blk 2 (pc' := 59) (lv' := [(2, .int (nI l)), (0, .ref 196), (1, .int (nI v))]) (st' := [.int (nI v), .ref 196]) (H' := _) (kc' := 0) (ks' := 0) rfl ?_
  refine RQ.call (v := some (.int 0)) (st' := []) rfl rfl rfl rfl rfl rfl (args_v [.int (nI v)] [] rfl rfl (Nat.le_of_ble_eq_true rfl) rfl hm1 (Nat.le_of_ble_eq_true rfl)) (rc_mdirF hm1 rfl hT1.1 hv (nI_ne2 hkv.1 hkd)) ?_
  refine RQ.brT rfl rfl rfl (by decide) ?_
  refine RQ.blk 3 (pc' := 78) (lv' := [(3, .int (-1)), (2, .int (nI l)), (0, .ref 196), (1, .int (nI v))]) (st' := [.int (-1)]) (H' := _) (kc' := 0) (ks' := 0) rfl ?_
  refine RQ.brF rfl rfl rfl (by decide) ?_
  refine RQ.blk 2 (pc' := 83) (lv' := [(3, .int (-1)), (2, .int (nI l)), (0, .ref 196), (1, .int (nI v))]) (st' := [.int 3, .ref 196]) (H' := _) (kc' := 0) (ks' := 0) rfl ?_
  refine RQ.call (v := some (.int 0)) (st' := []) rfl rfl rfl rfl rfl rfl (args_v [.int 3] [] rfl rfl (Nat.le_of_ble_eq_true rfl) rfl hm1 (Nat.le_of_ble_eq_true rfl)) (rc_mfail hm1 rfl) ?_
  exact RQ.done (c := 0) (s := 0) rfl rfl rfl rfl ⟨_, _, rfl, rfl, ⟨us, ba, bo, get_set hm1, hV1.far (fun a a1 a2 => set_far (by omega)) (set_far (by decide)), (set_far (by decide)).trans h51, (set_far (by decide)).trans h61, hR1.far (fun a a1 => set_far (by omega)), hT1.far (fun a a1 a2 => set_far (by omega)), hP1.far (fun a a1 a2 => set_far (by omega)), (set_far (by decide)).trans h1961, (set_far (by decide)).trans h1971⟩, fun a ha => (set_far (by omega)).trans (f1 a (by omega))⟩
set_option maxRecDepth 20000 in
theorem ri_mremove_none {sc : Nat × (Nat → Int32)} {d l : Nat} {H : aH} {fa cw cl rs : Int32} {li : Nat} {tb : Nat → Int8} {g0 : Nat → Int8} {p : Nat} {ms : List aMV} {op : Nat → Bool} {se : Nat → Nat} {wss : Nat → List aE} {kd pa sz nl : Nat → Nat} {nm : Nat → Int8} {ps : List aPc} {v : Nat} (h : RefI H fa li 0 cw cl tb l rs g0 p ms op se wss kd pa sz nl nm ps) (hk : RefOk l p ms se kd pa sz nl ps) (hv : v ≤ 200) (hl1 : 1 ≤ l) (hl : l ≤ 30) (hnm : noSl tb 0 l) (hkd : kd v = 2) (hc : (fstF (inN kd pa nl nm v (sl tb 0 l)) 1 200) = none) : RI sc (d + 5) mr_311 [.ref 196, .int (nI v)] H (fun x H' => x = 0 ∧ RefI H' 3 li 0 cw cl tb 0 rs g0 p ms op se wss kd pa sz nl nm ps ∧ ∀ a, ¬ (195 ≤ a ∧ a < 224) → H'[a]? = H[a]?) := by
  obtain ⟨us, ba, bo, hm, hV, h5, h6, hR, hT, hP, h196, h197⟩ := h
  obtain ⟨k1, k2, k3, k4, k5, k6, k7, k8⟩ := hk
  refine RI.of ?_
  refine RQ.blk 2 (pc' := 2) (lv' := [(0, .ref 196), (1, .int (nI v))]) (st' := [.int 0, .ref 196]) (H' := _) (kc' := 0) (ks' := 0) rfl ?_
  refine RQ.put (ci := 12) rfl hm rfl rfl (Nat.le_of_ble_eq_true rfl) ?_
  have hm1 : (H.set 195 (kO 12 (mfs 0 (nI li) 0 cw cl (nI l) rs (nI p) (nI ms.length) (nI us) (nI ps.length) (nI (plen ps)) ba bo)))[195]? = some (kO 12 (mfs 0 (nI li) 0 cw cl (nI l) rs (nI p) (nI ms.length) (nI us) (nI ps.length) (nI (plen ps)) ba bo)) := get_set hm
  have f1 : ∀ a, a ≠ 195 → (H.set 195 (kO 12 (mfs 0 (nI li) 0 cw cl (nI l) rs (nI p) (nI ms.length) (nI us) (nI ps.length) (nI (plen ps)) ba bo)))[a]? = H[a]? := fun a ha => set_far ha
  show RQ _ _ _ 5 [(0, .ref 196), (1, .int (nI v))] [] (H.set 195 (kO 12 (mfs 0 (nI li) 0 cw cl (nI l) rs (nI p) (nI ms.length) (nI us) (nI ps.length) (nI (plen ps)) ba bo))) 0 0 _
  generalize (H.set 195 (kO 12 (mfs 0 (nI li) 0 cw cl (nI l) rs (nI p) (nI ms.length) (nI us) (nI ps.length) (nI (plen ps)) ba bo))) = H1 at hm1 f1 ⊢
  have hV1 := hV.far (fun a a1 a2 => f1 a (by omega)) (f1 223 (by decide))
  have h51 := (f1 205 (by decide)).trans h5
  have h61 := (f1 206 (by decide)).trans h6
  have hR1 := hR.far (fun a a1 => f1 a (by omega))
  have hT1 := hT.far (fun a a1 a2 => f1 a (by omega))
  have hP1 := hP.far (fun a a1 a2 => f1 a (by omega))
  have h1961 := (f1 196 (by decide)).trans h196
  have h1971 := (f1 197 (by decide)).trans h197
  have hkv := k5 v hv
  refine RQ.blk 3 (pc' := 10) (lv' := [(0, .ref 196), (1, .int (nI v))]) (st' := [.int 201, .int (nI v), .ref 196]) (H' := _) (kc' := 0) (ks' := 0) rfl ?_
  refine RQ.call (v := some (.int 0)) (st' := []) rfl rfl rfl rfl rfl rfl (args_v [.int 201, .int (nI v)] [] rfl rfl (Nat.le_of_ble_eq_true rfl) rfl hm1 (Nat.le_of_ble_eq_true rfl)) (rc_out (v := v) (m := 201) (by omega) (by decide)) ?_
  refine RQ.brF rfl rfl rfl (by decide) ?_
  refine RQ.blk 3 (pc' := 19) (lv' := [(0, .ref 196), (1, .int (nI v))]) (st' := [.ref 196, .int 0, .ref 196]) (H' := _) (kc' := 0) (ks' := 0) rfl ?_
  refine RQ.get (ci := 12) rfl hm1 rfl rfl ?_
  refine RQ.call (v := some (.int 1)) (st' := []) rfl rfl rfl rfl rfl rfl (args_v [.int (nI l), .int 0] [] rfl rfl (Nat.le_of_ble_eq_true rfl) rfl hm1 (Nat.le_of_ble_eq_true rfl)) (rc_named1 (i := 0) (n := l) hm1 h1961 (by decide) (by omega) hl1 hl hnm) ?_
  refine RQ.brT rfl rfl rfl (by decide) ?_
  refine RQ.blk 1 (pc' := 35) (lv' := [(0, .ref 196), (1, .int (nI v))]) (st' := [.ref 196]) (H' := _) (kc' := 0) (ks' := 0) rfl ?_
  refine RQ.get (ci := 12) rfl hm1 rfl rfl ?_
  refine RQ.brT rfl rfl rfl (by decide) ?_
  refine RQ.blk 1 (pc' := 48) (lv' := [(0, .ref 196), (1, .int (nI v))]) (st' := [.ref 196]) (H' := _) (kc' := 0) (ks' := 0) rfl ?_
  refine RQ.get (ci := 12) rfl hm1 rfl rfl ?_
  refine RQ.blk 3 (pc' := 54) (lv' := [(2, .int (nI l)), (0, .ref 196), (1, .int (nI v))]) (st' := [.int 0, .ref 196]) (H' := _) (kc' := 0) (ks' := 0) rfl ?_
  refine RQ.put (ci := 12) rfl hm1 rfl rfl (Nat.le_of_ble_eq_true rfl) ?_
  have hm2 : (H1.set 195 (kO 12 (mfs 0 (nI li) 0 cw cl (nI 0) rs (nI p) (nI ms.length) (nI us) (nI ps.length) (nI (plen ps)) ba bo)))[195]? = some (kO 12 (mfs 0 (nI li) 0 cw cl (nI 0) rs (nI p) (nI ms.length) (nI us) (nI ps.length) (nI (plen ps)) ba bo)) := get_set hm1
  have f2 : ∀ a, a ≠ 195 → (H1.set 195 (kO 12 (mfs 0 (nI li) 0 cw cl (nI 0) rs (nI p) (nI ms.length) (nI us) (nI ps.length) (nI (plen ps)) ba bo)))[a]? = H[a]? := fun a ha => (set_far ha).trans (f1 a ha)
  show RQ _ _ _ 57 [(2, .int (nI l)), (0, .ref 196), (1, .int (nI v))] [] (H1.set 195 (kO 12 (mfs 0 (nI li) 0 cw cl (nI 0) rs (nI p) (nI ms.length) (nI us) (nI ps.length) (nI (plen ps)) ba bo))) 0 0 _
  generalize (H1.set 195 (kO 12 (mfs 0 (nI li) 0 cw cl (nI 0) rs (nI p) (nI ms.length) (nI us) (nI ps.length) (nI (plen ps)) ba bo))) = H2 at hm2 f2 ⊢
  clear hm1 f1 hV1 h51 h61 hR1 hT1 hP1 h1961 h1971
  have hm1 := hm2
  have f1 := f2
  clear hm2 f2
  have hV1 := hV.far (fun a a1 a2 => f1 a (by omega)) (f1 223 (by decide))
  have h51 := (f1 205 (by decide)).trans h5
  have h61 := (f1 206 (by decide)).trans h6
  have hR1 := hR.far (fun a a1 => f1 a (by omega))
  have hT1 := hT.far (fun a a1 a2 => f1 a (by omega))
  have hP1 := hP.far (fun a a1 a2 => f1 a (by omega))
  have h1961 := (f1 196 (by decide)).trans h196
  have h1971 := (f1 197 (by decide)).trans h197
  refine RQ.blk 2 (pc' := 59) (lv' := [(2, .int (nI l)), (0, .ref 196), (1, .int (nI v))]) (st' := [.int (nI v), .ref 196]) (H' := _) (kc' := 0) (ks' := 0) rfl ?_
  refine RQ.call (v := some (.int 1)) (st' := []) rfl rfl rfl rfl rfl rfl (args_v [.int (nI v)] [] rfl rfl (Nat.le_of_ble_eq_true rfl) rfl hm1 (Nat.le_of_ble_eq_true rfl)) (rc_mdirT hm1 rfl hT1.1 hv (nI_is2 hkd)) ?_
  refine RQ.brF rfl rfl rfl (by decide) ?_
  refine RQ.blk 4 (pc' := 69) (lv' := [(2, .int (nI l)), (0, .ref 196), (1, .int (nI v))]) (st' := [.int (nI l), .int 0, .int (nI v), .ref 196]) (H' := _) (kc' := 0) (ks' := 0) rfl ?_
  have hch := rc_mchild (sc := sc) (d := d + 3) (j := 0) (m := l) hm1 hT1 k5 h1961 (by omega) hv
  rw [hc] at hch
  refine RQ.call (v := some (.int (-1))) (st' := []) rfl rfl rfl rfl rfl rfl (args_v [.int (nI l), .int 0, .int (nI v)] [] rfl rfl (Nat.le_of_ble_eq_true rfl) rfl hm1 (Nat.le_of_ble_eq_true rfl)) hch ?_
  refine RQ.blk 3 (pc' := 78) (lv' := [(3, .int (-1)), (2, .int (nI l)), (0, .ref 196), (1, .int (nI v))]) (st' := [.int (-1)]) (H' := _) (kc' := 0) (ks' := 0) rfl ?_
  refine RQ.brF rfl rfl rfl (by decide) ?_
  refine RQ.blk 2 (pc' := 83) (lv' := [(3, .int (-1)), (2, .int (nI l)), (0, .ref 196), (1, .int (nI v))]) (st' := [.int 3, .ref 196]) (H' := _) (kc' := 0) (ks' := 0) rfl ?_
  refine RQ.call (v := some (.int 0)) (st' := []) rfl rfl rfl rfl rfl rfl (args_v [.int 3] [] rfl rfl (Nat.le_of_ble_eq_true rfl) rfl hm1 (Nat.le_of_ble_eq_true rfl)) (rc_mfail hm1 rfl) ?_
  exact RQ.done (c := 0) (s := 0) rfl rfl rfl rfl ⟨_, _, rfl, rfl, ⟨us, ba, bo, get_set hm1, hV1.far (fun a a1 a2 => set_far (by omega)) (set_far (by decide)), (set_far (by decide)).trans h51, (set_far (by decide)).trans h61, hR1.far (fun a a1 => set_far (by omega)), hT1.far (fun a a1 a2 => set_far (by omega)), hP1.far (fun a a1 a2 => set_far (by omega)), (set_far (by decide)).trans h1961, (set_far (by decide)).trans h1971⟩, fun a ha => (set_far (by omega)).trans (f1 a (by omega))⟩
theorem count_le (P : Nat → Bool) : ∀ n, sumF (fun w => if P w then 1 else 0) n ≤ n
  | 0 => Nat.le_refl _
  | n + 1 => by
    have := count_le P n
    rw [sumF]
    split <;> omega
set_option maxRecDepth 20000 in
theorem ri_mremove_full {sc : Nat × (Nat → Int32)} {d l : Nat} {H : aH} {fa cw cl rs : Int32} {li : Nat} {tb : Nat → Int8} {g0 : Nat → Int8} {p : Nat} {ms : List aMV} {op : Nat → Bool} {se : Nat → Nat} {wss : Nat → List aE} {kd pa sz nl : Nat → Nat} {nm : Nat → Int8} {ps : List aPc} {v : Nat} {c : Nat} (h : RefI H fa li 0 cw cl tb l rs g0 p ms op se wss kd pa sz nl nm ps) (hk : RefOk l p ms se kd pa sz nl ps) (hv : v ≤ 200) (hl1 : 1 ≤ l) (hl : l ≤ 30) (hnm : noSl tb 0 l) (hkd : kd v = 2) (hc : (fstF (inN kd pa nl nm v (sl tb 0 l)) 1 200) = some c) (hkc2 : kd c = 2) (hcc : 0 < (sumF (fun w => if inD kd pa c w then 1 else 0) 200)) : RI sc (d + 5) mr_311 [.ref 196, .int (nI v)] H (fun x H' => x = 0 ∧ RefI H' 4 li 0 cw cl tb 0 rs g0 p ms op se wss kd pa sz nl nm ps ∧ ∀ a, ¬ (195 ≤ a ∧ a < 224) → H'[a]? = H[a]?) := by
  obtain ⟨us, ba, bo, hm, hV, h5, h6, hR, hT, hP, h196, h197⟩ := h
  obtain ⟨k1, k2, k3, k4, k5, k6, k7, k8⟩ := hk
  refine RI.of ?_
  refine RQ.blk 2 (pc' := 2) (lv' := [(0, .ref 196), (1, .int (nI v))]) (st' := [.int 0, .ref 196]) (H' := _) (kc' := 0) (ks' := 0) rfl ?_
  refine RQ.put (ci := 12) rfl hm rfl rfl (Nat.le_of_ble_eq_true rfl) ?_
  have hm1 : (H.set 195 (kO 12 (mfs 0 (nI li) 0 cw cl (nI l) rs (nI p) (nI ms.length) (nI us) (nI ps.length) (nI (plen ps)) ba bo)))[195]? = some (kO 12 (mfs 0 (nI li) 0 cw cl (nI l) rs (nI p) (nI ms.length) (nI us) (nI ps.length) (nI (plen ps)) ba bo)) := get_set hm
  have f1 : ∀ a, a ≠ 195 → (H.set 195 (kO 12 (mfs 0 (nI li) 0 cw cl (nI l) rs (nI p) (nI ms.length) (nI us) (nI ps.length) (nI (plen ps)) ba bo)))[a]? = H[a]? := fun a ha => set_far ha
  show RQ _ _ _ 5 [(0, .ref 196), (1, .int (nI v))] [] (H.set 195 (kO 12 (mfs 0 (nI li) 0 cw cl (nI l) rs (nI p) (nI ms.length) (nI us) (nI ps.length) (nI (plen ps)) ba bo))) 0 0 _
  generalize (H.set 195 (kO 12 (mfs 0 (nI li) 0 cw cl (nI l) rs (nI p) (nI ms.length) (nI us) (nI ps.length) (nI (plen ps)) ba bo))) = H1 at hm1 f1 ⊢
  have hV1 := hV.far (fun a a1 a2 => f1 a (by omega)) (f1 223 (by decide))
  have h51 := (f1 205 (by decide)).trans h5
  have h61 := (f1 206 (by decide)).trans h6
  have hR1 := hR.far (fun a a1 => f1 a (by omega))
  have hT1 := hT.far (fun a a1 a2 => f1 a (by omega))
  have hP1 := hP.far (fun a a1 a2 => f1 a (by omega))
  have h1961 := (f1 196 (by decide)).trans h196
  have h1971 := (f1 197 (by decide)).trans h197
  have hkv := k5 v hv
  refine RQ.blk 3 (pc' := 10) (lv' := [(0, .ref 196), (1, .int (nI v))]) (st' := [.int 201, .int (nI v), .ref 196]) (H' := _) (kc' := 0) (ks' := 0) rfl ?_
  refine RQ.call (v := some (.int 0)) (st' := []) rfl rfl rfl rfl rfl rfl (args_v [.int 201, .int (nI v)] [] rfl rfl (Nat.le_of_ble_eq_true rfl) rfl hm1 (Nat.le_of_ble_eq_true rfl)) (rc_out (v := v) (m := 201) (by omega) (by decide)) ?_
  refine RQ.brF rfl rfl rfl (by decide) ?_
  refine RQ.blk 3 (pc' := 19) (lv' := [(0, .ref 196), (1, .int (nI v))]) (st' := [.ref 196, .int 0, .ref 196]) (H' := _) (kc' := 0) (ks' := 0) rfl ?_
  refine RQ.get (ci := 12) rfl hm1 rfl rfl ?_
  refine RQ.call (v := some (.int 1)) (st' := []) rfl rfl rfl rfl rfl rfl (args_v [.int (nI l), .int 0] [] rfl rfl (Nat.le_of_ble_eq_true rfl) rfl hm1 (Nat.le_of_ble_eq_true rfl)) (rc_named1 (i := 0) (n := l) hm1 h1961 (by decide) (by omega) hl1 hl hnm) ?_
  refine RQ.brT rfl rfl rfl (by decide) ?_
  refine RQ.blk 1 (pc' := 35) (lv' := [(0, .ref 196), (1, .int (nI v))]) (st' := [.ref 196]) (H' := _) (kc' := 0) (ks' := 0) rfl ?_
  refine RQ.get (ci := 12) rfl hm1 rfl rfl ?_
  refine RQ.brT rfl rfl rfl (by decide) ?_
  refine RQ.blk 1 (pc' := 48) (lv' := [(0, .ref 196), (1, .int (nI v))]) (st' := [.ref 196]) (H' := _) (kc' := 0) (ks' := 0) rfl ?_
  refine RQ.get (ci := 12) rfl hm1 rfl rfl ?_
  refine RQ.blk 3 (pc' := 54) (lv' := [(2, .int (nI l)), (0, .ref 196), (1, .int (nI v))]) (st' := [.int 0, .ref 196]) (H' := _) (kc' := 0) (ks' := 0) rfl ?_
  refine RQ.put (ci := 12) rfl hm1 rfl rfl (Nat.le_of_ble_eq_true rfl) ?_
  have hm2 : (H1.set 195 (kO 12 (mfs 0 (nI li) 0 cw cl (nI 0) rs (nI p) (nI ms.length) (nI us) (nI ps.length) (nI (plen ps)) ba bo)))[195]? = some (kO 12 (mfs 0 (nI li) 0 cw cl (nI 0) rs (nI p) (nI ms.length) (nI us) (nI ps.length) (nI (plen ps)) ba bo)) := get_set hm1
  have f2 : ∀ a, a ≠ 195 → (H1.set 195 (kO 12 (mfs 0 (nI li) 0 cw cl (nI 0) rs (nI p) (nI ms.length) (nI us) (nI ps.length) (nI (plen ps)) ba bo)))[a]? = H[a]? := fun a ha => (set_far ha).trans (f1 a ha)
  show RQ _ _ _ 57 [(2, .int (nI l)), (0, .ref 196), (1, .int (nI v))] [] (H1.set 195 (kO 12 (mfs 0 (nI li) 0 cw cl (nI 0) rs (nI p) (nI ms.length) (nI us) (nI ps.length) (nI (plen ps)) ba bo))) 0 0 _
  generalize (H1.set 195 (kO 12 (mfs 0 (nI li) 0 cw cl (nI 0) rs (nI p) (nI ms.length) (nI us) (nI ps.length) (nI (plen ps)) ba bo))) = H2 at hm2 f2 ⊢
  clear hm1 f1 hV1 h51 h61 hR1 hT1 hP1 h1961 h1971
  have hm1 := hm2
  have f1 := f2
  clear hm2 f2
  have hV1 := hV.far (fun a a1 a2 => f1 a (by omega)) (f1 223 (by decide))
  have h51 := (f1 205 (by decide)).trans h5
  have h61 := (f1 206 (by decide)).trans h6
  have hR1 := hR.far (fun a a1 => f1 a (by omega))
  have hT1 := hT.far (fun a a1 a2 => f1 a (by omega))
  have hP1 := hP.far (fun a a1 a2 => f1 a (by omega))
  have h1961 := (f1 196 (by decide)).trans h196
  have h1971 := (f1 197 (by decide)).trans h197
  refine RQ.blk 2 (pc' := 59) (lv' := [(2, .int (nI l)), (0, .ref 196), (1, .int (nI v))]) (st' := [.int (nI v), .ref 196]) (H' := _) (kc' := 0) (ks' := 0) rfl ?_
  refine RQ.call (v := some (.int 1)) (st' := []) rfl rfl rfl rfl rfl rfl (args_v [.int (nI v)] [] rfl rfl (Nat.le_of_ble_eq_true rfl) rfl hm1 (Nat.le_of_ble_eq_true rfl)) (rc_mdirT hm1 rfl hT1.1 hv (nI_is2 hkd)) ?_
  refine RQ.brF rfl rfl rfl (by decide) ?_
  refine RQ.blk 4 (pc' := 69) (lv' := [(2, .int (nI l)), (0, .ref 196), (1, .int (nI v))]) (st' := [.int (nI l), .int 0, .int (nI v), .ref 196]) (H' := _) (kc' := 0) (ks' := 0) rfl ?_
  have hcl := fstF_lt hc
  have hkc := k5 c (by omega)
  have hch := rc_mchild (sc := sc) (d := d + 3) (j := 0) (m := l) hm1 hT1 k5 h1961 (by omega) hv
  rw [hc] at hch
  refine RQ.call (v := some (.int (nI c))) (st' := []) rfl rfl rfl rfl rfl rfl (args_v [.int (nI l), .int 0, .int (nI v)] [] rfl rfl (Nat.le_of_ble_eq_true rfl) rfl hm1 (Nat.le_of_ble_eq_true rfl)) hch ?_
  refine RQ.blk 3 (pc' := 78) (lv' := [(3, .int (nI c)), (2, .int (nI l)), (0, .ref 196), (1, .int (nI v))]) (st' := [.int (nI c)]) (H' := _) (kc' := 0) (ks' := 0) rfl ?_
  refine RQ.brT rfl rfl rfl (cT_ge c 0) ?_
  refine RQ.blk 2 (pc' := 89) (lv' := [(3, .int (nI c)), (2, .int (nI l)), (0, .ref 196), (1, .int (nI v))]) (st' := [.int (nI c), .ref 196]) (H' := _) (kc' := 0) (ks' := 0) rfl ?_
  refine RQ.call (v := some (.int 1)) (st' := []) rfl rfl rfl rfl rfl rfl (args_v [.int (nI c)] [] rfl rfl (Nat.le_of_ble_eq_true rfl) rfl hm1 (Nat.le_of_ble_eq_true rfl)) (rc_mdirT hm1 rfl hT1.1 (by omega) (nI_is2 hkc2)) ?_
  refine RQ.brF rfl rfl rfl (by decide) ?_
  refine RQ.blk 2 (pc' := 97) (lv' := [(3, .int (nI c)), (2, .int (nI l)), (0, .ref 196), (1, .int (nI v))]) (st' := [.int (nI c), .ref 196]) (H' := _) (kc' := 0) (ks' := 0) rfl ?_
  refine RQ.call (v := some (.int (nI (sumF (fun w => if inD kd pa c w then 1 else 0) 200)))) (st' := []) rfl rfl rfl rfl rfl rfl (args_v [.int (nI c)] [] rfl rfl (Nat.le_of_ble_eq_true rfl) rfl hm1 (Nat.le_of_ble_eq_true rfl)) (rc_mchildCount hm1 hT1 k5 (by omega)) ?_
  have hb9 := count_le (fun w => inD kd pa c w) 200
  refine RQ.brF rfl rfl rfl (cF_le (sumF (fun w => if inD kd pa c w then 1 else 0) 200) 0) ?_
  refine RQ.blk 2 (pc' := 105) (lv' := [(3, .int (nI c)), (2, .int (nI l)), (0, .ref 196), (1, .int (nI v))]) (st' := [.int 4, .ref 196]) (H' := _) (kc' := 0) (ks' := 0) rfl ?_
  refine RQ.call (v := some (.int 0)) (st' := []) rfl rfl rfl rfl rfl rfl (args_v [.int 4] [] rfl rfl (Nat.le_of_ble_eq_true rfl) rfl hm1 (Nat.le_of_ble_eq_true rfl)) (rc_mfail hm1 rfl) ?_
  exact RQ.done (c := 0) (s := 0) rfl rfl rfl rfl ⟨_, _, rfl, rfl, ⟨us, ba, bo, get_set hm1, hV1.far (fun a a1 a2 => set_far (by omega)) (set_far (by decide)), (set_far (by decide)).trans h51, (set_far (by decide)).trans h61, hR1.far (fun a a1 => set_far (by omega)), hT1.far (fun a a1 a2 => set_far (by omega)), hP1.far (fun a a1 a2 => set_far (by omega)), (set_far (by decide)).trans h1961, (set_far (by decide)).trans h1971⟩, fun a ha => (set_far (by omega)).trans (f1 a (by omega))⟩
set_option maxRecDepth 20000 in
theorem ri_mremove_lost {sc : Nat × (Nat → Int32)} {d l : Nat} {H : aH} {fa rs : Int32} {li : Nat} {tb : Nat → Int8} {g0 : Nat → Int8} {p : Nat} {ms : List aMV} {op : Nat → Bool} {se : Nat → Nat} {wss : Nat → List aE} {kd pa sz nl : Nat → Nat} {nm : Nat → Int8} {ps : List aPc} {v : Nat} {c : Nat} (h : RefI H fa li 0 1 0 tb l rs g0 p ms op se wss kd pa sz nl nm ps) (hk : RefOk l p ms se kd pa sz nl ps) (hv : v ≤ 200) (hl1 : 1 ≤ l) (hl : l ≤ 30) (hnm : noSl tb 0 l) (hkd : kd v = 2) (hc : (fstF (inN kd pa nl nm v (sl tb 0 l)) 1 200) = some c) (hem : ¬ (kd c = 2 ∧ 0 < (sumF (fun w => if inD kd pa c w then 1 else 0) 200))) : RI sc (d + 5) mr_311 [.ref 196, .int (nI v)] H (fun x H' => x = 0 ∧ RefI H' 2 li 1 0 0 tb 0 0 g0 p (ms.filter (keepM (fun j => if j < 8 then false else op j) se p (kmM ms))) (fun j => if j < 8 then false else op j) se wss kd pa sz nl nm ps ∧ ∀ a, ¬ (195 ≤ a ∧ a < 224) → H'[a]? = H[a]?) := by
  obtain ⟨us, ba, bo, hm, hV, h5, h6, hR, hT, hP, h196, h197⟩ := h
  obtain ⟨k1, k2, k3, k4, k5, k6, k7, k8⟩ := hk
  refine RI.of ?_
  refine RQ.blk 2 (pc' := 2) (lv' := [(0, .ref 196), (1, .int (nI v))]) (st' := [.int 0, .ref 196]) (H' := _) (kc' := 0) (ks' := 0) rfl ?_
  refine RQ.put (ci := 12) rfl hm rfl rfl (Nat.le_of_ble_eq_true rfl) ?_
  have hm1 : (H.set 195 (kO 12 (mfs 0 (nI li) 0 1 0 (nI l) rs (nI p) (nI ms.length) (nI us) (nI ps.length) (nI (plen ps)) ba bo)))[195]? = some (kO 12 (mfs 0 (nI li) 0 1 0 (nI l) rs (nI p) (nI ms.length) (nI us) (nI ps.length) (nI (plen ps)) ba bo)) := get_set hm
  have f1 : ∀ a, a ≠ 195 → (H.set 195 (kO 12 (mfs 0 (nI li) 0 1 0 (nI l) rs (nI p) (nI ms.length) (nI us) (nI ps.length) (nI (plen ps)) ba bo)))[a]? = H[a]? := fun a ha => set_far ha
  show RQ _ _ _ 5 [(0, .ref 196), (1, .int (nI v))] [] (H.set 195 (kO 12 (mfs 0 (nI li) 0 1 0 (nI l) rs (nI p) (nI ms.length) (nI us) (nI ps.length) (nI (plen ps)) ba bo))) 0 0 _
  generalize (H.set 195 (kO 12 (mfs 0 (nI li) 0 1 0 (nI l) rs (nI p) (nI ms.length) (nI us) (nI ps.length) (nI (plen ps)) ba bo))) = H1 at hm1 f1 ⊢
  have hV1 := hV.far (fun a a1 a2 => f1 a (by omega)) (f1 223 (by decide))
  have h51 := (f1 205 (by decide)).trans h5
  have h61 := (f1 206 (by decide)).trans h6
  have hR1 := hR.far (fun a a1 => f1 a (by omega))
  have hT1 := hT.far (fun a a1 a2 => f1 a (by omega))
  have hP1 := hP.far (fun a a1 a2 => f1 a (by omega))
  have h1961 := (f1 196 (by decide)).trans h196
  have h1971 := (f1 197 (by decide)).trans h197
  have hkv := k5 v hv
  refine RQ.blk 3 (pc' := 10) (lv' := [(0, .ref 196), (1, .int (nI v))]) (st' := [.int 201, .int (nI v), .ref 196]) (H' := _) (kc' := 0) (ks' := 0) rfl ?_
  refine RQ.call (v := some (.int 0)) (st' := []) rfl rfl rfl rfl rfl rfl (args_v [.int 201, .int (nI v)] [] rfl rfl (Nat.le_of_ble_eq_true rfl) rfl hm1 (Nat.le_of_ble_eq_true rfl)) (rc_out (v := v) (m := 201) (by omega) (by decide)) ?_
  refine RQ.brF rfl rfl rfl (by decide) ?_
  refine RQ.blk 3 (pc' := 19) (lv' := [(0, .ref 196), (1, .int (nI v))]) (st' := [.ref 196, .int 0, .ref 196]) (H' := _) (kc' := 0) (ks' := 0) rfl ?_
  refine RQ.get (ci := 12) rfl hm1 rfl rfl ?_
  refine RQ.call (v := some (.int 1)) (st' := []) rfl rfl rfl rfl rfl rfl (args_v [.int (nI l), .int 0] [] rfl rfl (Nat.le_of_ble_eq_true rfl) rfl hm1 (Nat.le_of_ble_eq_true rfl)) (rc_named1 (i := 0) (n := l) hm1 h1961 (by decide) (by omega) hl1 hl hnm) ?_
  refine RQ.brT rfl rfl rfl (by decide) ?_
  refine RQ.blk 1 (pc' := 35) (lv' := [(0, .ref 196), (1, .int (nI v))]) (st' := [.ref 196]) (H' := _) (kc' := 0) (ks' := 0) rfl ?_
  refine RQ.get (ci := 12) rfl hm1 rfl rfl ?_
  refine RQ.brT rfl rfl rfl (by decide) ?_
  refine RQ.blk 1 (pc' := 48) (lv' := [(0, .ref 196), (1, .int (nI v))]) (st' := [.ref 196]) (H' := _) (kc' := 0) (ks' := 0) rfl ?_
  refine RQ.get (ci := 12) rfl hm1 rfl rfl ?_
  refine RQ.blk 3 (pc' := 54) (lv' := [(2, .int (nI l)), (0, .ref 196), (1, .int (nI v))]) (st' := [.int 0, .ref 196]) (H' := _) (kc' := 0) (ks' := 0) rfl ?_
  refine RQ.put (ci := 12) rfl hm1 rfl rfl (Nat.le_of_ble_eq_true rfl) ?_
  have hm2 : (H1.set 195 (kO 12 (mfs 0 (nI li) 0 1 0 (nI 0) rs (nI p) (nI ms.length) (nI us) (nI ps.length) (nI (plen ps)) ba bo)))[195]? = some (kO 12 (mfs 0 (nI li) 0 1 0 (nI 0) rs (nI p) (nI ms.length) (nI us) (nI ps.length) (nI (plen ps)) ba bo)) := get_set hm1
  have f2 : ∀ a, a ≠ 195 → (H1.set 195 (kO 12 (mfs 0 (nI li) 0 1 0 (nI 0) rs (nI p) (nI ms.length) (nI us) (nI ps.length) (nI (plen ps)) ba bo)))[a]? = H[a]? := fun a ha => (set_far ha).trans (f1 a ha)
  show RQ _ _ _ 57 [(2, .int (nI l)), (0, .ref 196), (1, .int (nI v))] [] (H1.set 195 (kO 12 (mfs 0 (nI li) 0 1 0 (nI 0) rs (nI p) (nI ms.length) (nI us) (nI ps.length) (nI (plen ps)) ba bo))) 0 0 _
  generalize (H1.set 195 (kO 12 (mfs 0 (nI li) 0 1 0 (nI 0) rs (nI p) (nI ms.length) (nI us) (nI ps.length) (nI (plen ps)) ba bo))) = H2 at hm2 f2 ⊢
  clear hm1 f1 hV1 h51 h61 hR1 hT1 hP1 h1961 h1971
  have hm1 := hm2
  have f1 := f2
  clear hm2 f2
  have hV1 := hV.far (fun a a1 a2 => f1 a (by omega)) (f1 223 (by decide))
  have h51 := (f1 205 (by decide)).trans h5
  have h61 := (f1 206 (by decide)).trans h6
  have hR1 := hR.far (fun a a1 => f1 a (by omega))
  have hT1 := hT.far (fun a a1 a2 => f1 a (by omega))
  have hP1 := hP.far (fun a a1 a2 => f1 a (by omega))
  have h1961 := (f1 196 (by decide)).trans h196
  have h1971 := (f1 197 (by decide)).trans h197
  refine RQ.blk 2 (pc' := 59) (lv' := [(2, .int (nI l)), (0, .ref 196), (1, .int (nI v))]) (st' := [.int (nI v), .ref 196]) (H' := _) (kc' := 0) (ks' := 0) rfl ?_
  refine RQ.call (v := some (.int 1)) (st' := []) rfl rfl rfl rfl rfl rfl (args_v [.int (nI v)] [] rfl rfl (Nat.le_of_ble_eq_true rfl) rfl hm1 (Nat.le_of_ble_eq_true rfl)) (rc_mdirT hm1 rfl hT1.1 hv (nI_is2 hkd)) ?_
  refine RQ.brF rfl rfl rfl (by decide) ?_
  refine RQ.blk 4 (pc' := 69) (lv' := [(2, .int (nI l)), (0, .ref 196), (1, .int (nI v))]) (st' := [.int (nI l), .int 0, .int (nI v), .ref 196]) (H' := _) (kc' := 0) (ks' := 0) rfl ?_
  have hcl := fstF_lt hc
  have hkc := k5 c (by omega)
  have hch := rc_mchild (sc := sc) (d := d + 3) (j := 0) (m := l) hm1 hT1 k5 h1961 (by omega) hv
  rw [hc] at hch
  refine RQ.call (v := some (.int (nI c))) (st' := []) rfl rfl rfl rfl rfl rfl (args_v [.int (nI l), .int 0, .int (nI v)] [] rfl rfl (Nat.le_of_ble_eq_true rfl) rfl hm1 (Nat.le_of_ble_eq_true rfl)) hch ?_
  refine RQ.blk 3 (pc' := 78) (lv' := [(3, .int (nI c)), (2, .int (nI l)), (0, .ref 196), (1, .int (nI v))]) (st' := [.int (nI c)]) (H' := _) (kc' := 0) (ks' := 0) rfl ?_
  refine RQ.brT rfl rfl rfl (cT_ge c 0) ?_
  refine RQ.blk 2 (pc' := 89) (lv' := [(3, .int (nI c)), (2, .int (nI l)), (0, .ref 196), (1, .int (nI v))]) (st' := [.int (nI c), .ref 196]) (H' := _) (kc' := 0) (ks' := 0) rfl ?_
  by_cases kc : kd c = 2
  · refine RQ.call (v := some (.int 1)) (st' := []) rfl rfl rfl rfl rfl rfl (args_v [.int (nI c)] [] rfl rfl (Nat.le_of_ble_eq_true rfl) rfl hm1 (Nat.le_of_ble_eq_true rfl)) (rc_mdirT hm1 rfl hT1.1 (by omega) (nI_is2 kc)) ?_
    refine RQ.brF rfl rfl rfl (by decide) ?_
    refine RQ.blk 2 (pc' := 97) (lv' := [(3, .int (nI c)), (2, .int (nI l)), (0, .ref 196), (1, .int (nI v))]) (st' := [.int (nI c), .ref 196]) (H' := _) (kc' := 0) (ks' := 0) rfl ?_
    refine RQ.call (v := some (.int (nI (sumF (fun w => if inD kd pa c w then 1 else 0) 200)))) (st' := []) rfl rfl rfl rfl rfl rfl (args_v [.int (nI c)] [] rfl rfl (Nat.le_of_ble_eq_true rfl) rfl hm1 (Nat.le_of_ble_eq_true rfl)) (rc_mchildCount hm1 hT1 k5 (by omega)) ?_
    have hb9 : (sumF (fun w => if inD kd pa c w then 1 else 0) 200) = 0 := Nat.eq_zero_of_not_pos (fun e => hem ⟨kc, e⟩)
    rw [hb9, show nI 0 = 0 from rfl]
    refine RQ.brT rfl rfl rfl (by decide) ?_
    refine RQ.blk 2 (pc' := 111) (lv' := [(3, .int (nI c)), (2, .int (nI l)), (0, .ref 196), (1, .int (nI v))]) (st' := [.int 2, .ref 196]) (H' := _) (kc' := 0) (ks' := 0) rfl ?_
    refine RQ.callI (st' := []) rfl rfl rfl rfl rfl rfl (args_v [.int 2] [] rfl rfl (Nat.le_of_ble_eq_true rfl) rfl hm1 (Nat.le_of_ble_eq_true rfl)) (ri_mlost1 (x := 2) hm1 h51) (fun y H2 hy => ?_)
    obtain ⟨ey, hm2, h52, f2⟩ := hy
    rw [ey]
    refine RQ.brF rfl rfl rfl (by decide) ?_
    refine RQ.blk 1 (pc' := 118) (lv' := [(3, .int (nI c)), (2, .int (nI l)), (0, .ref 196), (1, .int (nI v))]) (st' := [.ref 196]) (H' := _) (kc' := 0) (ks' := 0) rfl ?_
    have g2 : ∀ a, a ≠ 195 → a ≠ 205 → H2[a]? = H[a]? := fun a a1 a2 => (f2 a a1 a2).trans (f1 a a1)
    refine RQ.callN (st' := []) rfl rfl rfl rfl rfl rfl (args_v [] [] rfl rfl (Nat.le_of_ble_eq_true rfl) rfl hm2 (Nat.le_of_ble_eq_true rfl)) (rn_pruneL (op := (fun j => if j < 8 then false else op j)) hm2 (hV.far (fun a a1 a2 => g2 a (by omega) (by omega)) (g2 223 (by decide) (by decide))) k3 h52 ((g2 206 (by decide) (by decide)).trans h6) k4 (by omega)) (fun H3 hz => ?_)
    obtain ⟨us', hm3, hV3, f3⟩ := hz
    refine RQ.blk 1 (pc' := 122) (lv' := [(3, .int (nI c)), (2, .int (nI l)), (0, .ref 196), (1, .int (nI v))]) (st' := [.int 0]) (H' := _) (kc' := 0) (ks' := 0) rfl ?_
    have g3 : ∀ a, ¬ (195 ≤ a ∧ a ≤ 205 ∧ a ≠ 196 ∧ a ≠ 197 ∨ a = 223) → H3[a]? = H[a]? := fun a ha => (f3 a (by omega)).trans (g2 a (by omega) (by omega))
    exact RQ.done (c := 0) (s := 0) rfl rfl rfl rfl ⟨_, _, rfl, rfl, ⟨us', bo, ba, hm3, hV3, (f3 205 (by omega)).trans h52, (g3 206 (by omega)).trans h6, hR.far (fun a a1 => g3 a (by omega)), hT.far (fun a a1 a2 => g3 a (by omega)), hP.far (fun a a1 a2 => g3 a (by omega)), (g3 196 (by omega)).trans h196, (g3 197 (by omega)).trans h197⟩, fun a ha => g3 a (by omega)⟩
  · refine RQ.call (v := some (.int 0)) (st' := []) rfl rfl rfl rfl rfl rfl (args_v [.int (nI c)] [] rfl rfl (Nat.le_of_ble_eq_true rfl) rfl hm1 (Nat.le_of_ble_eq_true rfl)) (rc_mdirF hm1 rfl hT1.1 (by omega) (nI_ne2 hkc.1 kc)) ?_
    refine RQ.brT rfl rfl rfl (by decide) ?_
    refine RQ.blk 2 (pc' := 111) (lv' := [(3, .int (nI c)), (2, .int (nI l)), (0, .ref 196), (1, .int (nI v))]) (st' := [.int 2, .ref 196]) (H' := _) (kc' := 0) (ks' := 0) rfl ?_
    refine RQ.callI (st' := []) rfl rfl rfl rfl rfl rfl (args_v [.int 2] [] rfl rfl (Nat.le_of_ble_eq_true rfl) rfl hm1 (Nat.le_of_ble_eq_true rfl)) (ri_mlost1 (x := 2) hm1 h51) (fun y H2 hy => ?_)
    obtain ⟨ey, hm2, h52, f2⟩ := hy
    rw [ey]
    refine RQ.brF rfl rfl rfl (by decide) ?_
    refine RQ.blk 1 (pc' := 118) (lv' := [(3, .int (nI c)), (2, .int (nI l)), (0, .ref 196), (1, .int (nI v))]) (st' := [.ref 196]) (H' := _) (kc' := 0) (ks' := 0) rfl ?_
    have g2 : ∀ a, a ≠ 195 → a ≠ 205 → H2[a]? = H[a]? := fun a a1 a2 => (f2 a a1 a2).trans (f1 a a1)
    refine RQ.callN (st' := []) rfl rfl rfl rfl rfl rfl (args_v [] [] rfl rfl (Nat.le_of_ble_eq_true rfl) rfl hm2 (Nat.le_of_ble_eq_true rfl)) (rn_pruneL (op := (fun j => if j < 8 then false else op j)) hm2 (hV.far (fun a a1 a2 => g2 a (by omega) (by omega)) (g2 223 (by decide) (by decide))) k3 h52 ((g2 206 (by decide) (by decide)).trans h6) k4 (by omega)) (fun H3 hz => ?_)
    obtain ⟨us', hm3, hV3, f3⟩ := hz
    refine RQ.blk 1 (pc' := 122) (lv' := [(3, .int (nI c)), (2, .int (nI l)), (0, .ref 196), (1, .int (nI v))]) (st' := [.int 0]) (H' := _) (kc' := 0) (ks' := 0) rfl ?_
    have g3 : ∀ a, ¬ (195 ≤ a ∧ a ≤ 205 ∧ a ≠ 196 ∧ a ≠ 197 ∨ a = 223) → H3[a]? = H[a]? := fun a ha => (f3 a (by omega)).trans (g2 a (by omega) (by omega))
    exact RQ.done (c := 0) (s := 0) rfl rfl rfl rfl ⟨_, _, rfl, rfl, ⟨us', bo, ba, hm3, hV3, (f3 205 (by omega)).trans h52, (g3 206 (by omega)).trans h6, hR.far (fun a a1 => g3 a (by omega)), hT.far (fun a a1 a2 => g3 a (by omega)), hP.far (fun a a1 a2 => g3 a (by omega)), (g3 196 (by omega)).trans h196, (g3 197 (by omega)).trans h197⟩, fun a ha => g3 a (by omega)⟩
set_option maxRecDepth 20000 in
theorem ri_mremove_ok {sc : Nat × (Nat → Int32)} {d l : Nat} {H : aH} {fa cl rs : Int32} {li : Nat} {tb : Nat → Int8} {g0 : Nat → Int8} {p : Nat} {ms : List aMV} {op : Nat → Bool} {se : Nat → Nat} {wss : Nat → List aE} {kd pa sz nl : Nat → Nat} {nm : Nat → Int8} {ps : List aPc} {v : Nat} {c : Nat} (h : RefI H fa li 0 0 cl tb l rs g0 p ms op se wss kd pa sz nl nm ps) (hk : RefOk l p ms se kd pa sz nl ps) (hv : v ≤ 200) (hl1 : 1 ≤ l) (hl : l ≤ 30) (hnm : noSl tb 0 l) (hkd : kd v = 2) (hc : (fstF (inN kd pa nl nm v (sl tb 0 l)) 1 200) = some c) (hem : ¬ (kd c = 2 ∧ 0 < (sumF (fun w => if inD kd pa c w then 1 else 0) 200))) : RI sc (d + 5) mr_311 [.ref 196, .int (nI v)] H (fun x H' => x = nI c ∧ ∃ cur : List aPc, cur.Perm (ps.filterMap (cutE c 0)) ∧ RefI H' 0 li 0 0 cl tb 0 rs g0 (p + 1) ms op se wss (va_up kd c 0) pa sz nl nm cur ∧ ∀ a, ¬ (195 ≤ a ∧ a < 224) → H'[a]? = H[a]?) := by
  obtain ⟨us, ba, bo, hm, hV, h5, h6, hR, hT, hP, h196, h197⟩ := h
  obtain ⟨k1, k2, k3, k4, k5, k6, k7, k8⟩ := hk
  refine RI.of ?_
  refine RQ.blk 2 (pc' := 2) (lv' := [(0, .ref 196), (1, .int (nI v))]) (st' := [.int 0, .ref 196]) (H' := _) (kc' := 0) (ks' := 0) rfl ?_
  refine RQ.put (ci := 12) rfl hm rfl rfl (Nat.le_of_ble_eq_true rfl) ?_
  have hm1 : (H.set 195 (kO 12 (mfs 0 (nI li) 0 0 cl (nI l) rs (nI p) (nI ms.length) (nI us) (nI ps.length) (nI (plen ps)) ba bo)))[195]? = some (kO 12 (mfs 0 (nI li) 0 0 cl (nI l) rs (nI p) (nI ms.length) (nI us) (nI ps.length) (nI (plen ps)) ba bo)) := get_set hm
  have f1 : ∀ a, a ≠ 195 → (H.set 195 (kO 12 (mfs 0 (nI li) 0 0 cl (nI l) rs (nI p) (nI ms.length) (nI us) (nI ps.length) (nI (plen ps)) ba bo)))[a]? = H[a]? := fun a ha => set_far ha
  show RQ _ _ _ 5 [(0, .ref 196), (1, .int (nI v))] [] (H.set 195 (kO 12 (mfs 0 (nI li) 0 0 cl (nI l) rs (nI p) (nI ms.length) (nI us) (nI ps.length) (nI (plen ps)) ba bo))) 0 0 _
  generalize (H.set 195 (kO 12 (mfs 0 (nI li) 0 0 cl (nI l) rs (nI p) (nI ms.length) (nI us) (nI ps.length) (nI (plen ps)) ba bo))) = H1 at hm1 f1 ⊢
  have hV1 := hV.far (fun a a1 a2 => f1 a (by omega)) (f1 223 (by decide))
  have h51 := (f1 205 (by decide)).trans h5
  have h61 := (f1 206 (by decide)).trans h6
  have hR1 := hR.far (fun a a1 => f1 a (by omega))
  have hT1 := hT.far (fun a a1 a2 => f1 a (by omega))
  have hP1 := hP.far (fun a a1 a2 => f1 a (by omega))
  have h1961 := (f1 196 (by decide)).trans h196
  have h1971 := (f1 197 (by decide)).trans h197
  have hkv := k5 v hv
  refine RQ.blk 3 (pc' := 10) (lv' := [(0, .ref 196), (1, .int (nI v))]) (st' := [.int 201, .int (nI v), .ref 196]) (H' := _) (kc' := 0) (ks' := 0) rfl ?_
  refine RQ.call (v := some (.int 0)) (st' := []) rfl rfl rfl rfl rfl rfl (args_v [.int 201, .int (nI v)] [] rfl rfl (Nat.le_of_ble_eq_true rfl) rfl hm1 (Nat.le_of_ble_eq_true rfl)) (rc_out (v := v) (m := 201) (by omega) (by decide)) ?_
  refine RQ.brF rfl rfl rfl (by decide) ?_
  refine RQ.blk 3 (pc' := 19) (lv' := [(0, .ref 196), (1, .int (nI v))]) (st' := [.ref 196, .int 0, .ref 196]) (H' := _) (kc' := 0) (ks' := 0) rfl ?_
  refine RQ.get (ci := 12) rfl hm1 rfl rfl ?_
  refine RQ.call (v := some (.int 1)) (st' := []) rfl rfl rfl rfl rfl rfl (args_v [.int (nI l), .int 0] [] rfl rfl (Nat.le_of_ble_eq_true rfl) rfl hm1 (Nat.le_of_ble_eq_true rfl)) (rc_named1 (i := 0) (n := l) hm1 h1961 (by decide) (by omega) hl1 hl hnm) ?_
  refine RQ.brT rfl rfl rfl (by decide) ?_
  refine RQ.blk 1 (pc' := 35) (lv' := [(0, .ref 196), (1, .int (nI v))]) (st' := [.ref 196]) (H' := _) (kc' := 0) (ks' := 0) rfl ?_
  refine RQ.get (ci := 12) rfl hm1 rfl rfl ?_
  refine RQ.brT rfl rfl rfl (by decide) ?_
  refine RQ.blk 1 (pc' := 48) (lv' := [(0, .ref 196), (1, .int (nI v))]) (st' := [.ref 196]) (H' := _) (kc' := 0) (ks' := 0) rfl ?_
  refine RQ.get (ci := 12) rfl hm1 rfl rfl ?_
  refine RQ.blk 3 (pc' := 54) (lv' := [(2, .int (nI l)), (0, .ref 196), (1, .int (nI v))]) (st' := [.int 0, .ref 196]) (H' := _) (kc' := 0) (ks' := 0) rfl ?_
  refine RQ.put (ci := 12) rfl hm1 rfl rfl (Nat.le_of_ble_eq_true rfl) ?_
  have hm2 : (H1.set 195 (kO 12 (mfs 0 (nI li) 0 0 cl (nI 0) rs (nI p) (nI ms.length) (nI us) (nI ps.length) (nI (plen ps)) ba bo)))[195]? = some (kO 12 (mfs 0 (nI li) 0 0 cl (nI 0) rs (nI p) (nI ms.length) (nI us) (nI ps.length) (nI (plen ps)) ba bo)) := get_set hm1
  have f2 : ∀ a, a ≠ 195 → (H1.set 195 (kO 12 (mfs 0 (nI li) 0 0 cl (nI 0) rs (nI p) (nI ms.length) (nI us) (nI ps.length) (nI (plen ps)) ba bo)))[a]? = H[a]? := fun a ha => (set_far ha).trans (f1 a ha)
  show RQ _ _ _ 57 [(2, .int (nI l)), (0, .ref 196), (1, .int (nI v))] [] (H1.set 195 (kO 12 (mfs 0 (nI li) 0 0 cl (nI 0) rs (nI p) (nI ms.length) (nI us) (nI ps.length) (nI (plen ps)) ba bo))) 0 0 _
  generalize (H1.set 195 (kO 12 (mfs 0 (nI li) 0 0 cl (nI 0) rs (nI p) (nI ms.length) (nI us) (nI ps.length) (nI (plen ps)) ba bo))) = H2 at hm2 f2 ⊢
  clear hm1 f1 hV1 h51 h61 hR1 hT1 hP1 h1961 h1971
  have hm1 := hm2
  have f1 := f2
  clear hm2 f2
  have hV1 := hV.far (fun a a1 a2 => f1 a (by omega)) (f1 223 (by decide))
  have h51 := (f1 205 (by decide)).trans h5
  have h61 := (f1 206 (by decide)).trans h6
  have hR1 := hR.far (fun a a1 => f1 a (by omega))
  have hT1 := hT.far (fun a a1 a2 => f1 a (by omega))
  have hP1 := hP.far (fun a a1 a2 => f1 a (by omega))
  have h1961 := (f1 196 (by decide)).trans h196
  have h1971 := (f1 197 (by decide)).trans h197
  refine RQ.blk 2 (pc' := 59) (lv' := [(2, .int (nI l)), (0, .ref 196), (1, .int (nI v))]) (st' := [.int (nI v), .ref 196]) (H' := _) (kc' := 0) (ks' := 0) rfl ?_
  refine RQ.call (v := some (.int 1)) (st' := []) rfl rfl rfl rfl rfl rfl (args_v [.int (nI v)] [] rfl rfl (Nat.le_of_ble_eq_true rfl) rfl hm1 (Nat.le_of_ble_eq_true rfl)) (rc_mdirT hm1 rfl hT1.1 hv (nI_is2 hkd)) ?_
  refine RQ.brF rfl rfl rfl (by decide) ?_
  refine RQ.blk 4 (pc' := 69) (lv' := [(2, .int (nI l)), (0, .ref 196), (1, .int (nI v))]) (st' := [.int (nI l), .int 0, .int (nI v), .ref 196]) (H' := _) (kc' := 0) (ks' := 0) rfl ?_
  have hcl := fstF_lt hc
  have hkc := k5 c (by omega)
  have hch := rc_mchild (sc := sc) (d := d + 3) (j := 0) (m := l) hm1 hT1 k5 h1961 (by omega) hv
  rw [hc] at hch
  refine RQ.call (v := some (.int (nI c))) (st' := []) rfl rfl rfl rfl rfl rfl (args_v [.int (nI l), .int 0, .int (nI v)] [] rfl rfl (Nat.le_of_ble_eq_true rfl) rfl hm1 (Nat.le_of_ble_eq_true rfl)) hch ?_
  refine RQ.blk 3 (pc' := 78) (lv' := [(3, .int (nI c)), (2, .int (nI l)), (0, .ref 196), (1, .int (nI v))]) (st' := [.int (nI c)]) (H' := _) (kc' := 0) (ks' := 0) rfl ?_
  refine RQ.brT rfl rfl rfl (cT_ge c 0) ?_
  refine RQ.blk 2 (pc' := 89) (lv' := [(3, .int (nI c)), (2, .int (nI l)), (0, .ref 196), (1, .int (nI v))]) (st' := [.int (nI c), .ref 196]) (H' := _) (kc' := 0) (ks' := 0) rfl ?_
  by_cases kc : kd c = 2
  · refine RQ.call (v := some (.int 1)) (st' := []) rfl rfl rfl rfl rfl rfl (args_v [.int (nI c)] [] rfl rfl (Nat.le_of_ble_eq_true rfl) rfl hm1 (Nat.le_of_ble_eq_true rfl)) (rc_mdirT hm1 rfl hT1.1 (by omega) (nI_is2 kc)) ?_
    refine RQ.brF rfl rfl rfl (by decide) ?_
    refine RQ.blk 2 (pc' := 97) (lv' := [(3, .int (nI c)), (2, .int (nI l)), (0, .ref 196), (1, .int (nI v))]) (st' := [.int (nI c), .ref 196]) (H' := _) (kc' := 0) (ks' := 0) rfl ?_
    refine RQ.call (v := some (.int (nI (sumF (fun w => if inD kd pa c w then 1 else 0) 200)))) (st' := []) rfl rfl rfl rfl rfl rfl (args_v [.int (nI c)] [] rfl rfl (Nat.le_of_ble_eq_true rfl) rfl hm1 (Nat.le_of_ble_eq_true rfl)) (rc_mchildCount hm1 hT1 k5 (by omega)) ?_
    have hb9 : (sumF (fun w => if inD kd pa c w then 1 else 0) 200) = 0 := Nat.eq_zero_of_not_pos (fun e => hem ⟨kc, e⟩)
    rw [hb9, show nI 0 = 0 from rfl]
    refine RQ.brT rfl rfl rfl (by decide) ?_
    refine RQ.blk 2 (pc' := 111) (lv' := [(3, .int (nI c)), (2, .int (nI l)), (0, .ref 196), (1, .int (nI v))]) (st' := [.int 2, .ref 196]) (H' := _) (kc' := 0) (ks' := 0) rfl ?_
    refine RQ.call (v := some (.int 0)) (st' := []) rfl rfl rfl rfl rfl rfl (args_v [.int 2] [] rfl rfl (Nat.le_of_ble_eq_true rfl) rfl hm1 (Nat.le_of_ble_eq_true rfl)) (rc_mlost0 hm1) ?_
    refine RQ.brT rfl rfl rfl (by decide) ?_
    refine RQ.blk 2 (pc' := 125) (lv' := [(3, .int (nI c)), (2, .int (nI l)), (0, .ref 196), (1, .int (nI v))]) (st' := [.int (nI c), .ref 196]) (H' := _) (kc' := 0) (ks' := 0) rfl ?_
    refine RQ.callN (st' := []) rfl rfl rfl rfl rfl rfl (args_v [.int (nI c)] [] rfl rfl (Nat.le_of_ble_eq_true rfl) rfl hm1 (Nat.le_of_ble_eq_true rfl)) (rn_forget (d := d + 1) hm1 hP1 k6 k7 k8 (show c ≤ 200 by omega) hT1.1) (fun H3 hx3 => ?_)
    obtain ⟨cur, hm3, hP3, hK3, hpm, -, -, f3⟩ := hx3
    have f4 : ∀ a, ¬ (a = 195 ∨ a = 213 ∨ (218 ≤ a ∧ a < 223)) → H3[a]? = H[a]? := fun a ha => (f3 a ha).trans (f1 a (by omega))
    have hT4 : MTreeAt H3 (va_up kd c 0) pa sz nl nm := ⟨hK3, (f4 214 (by omega)).trans hT.2.1, (f4 215 (by omega)).trans hT.2.2.1, (f4 216 (by omega)).trans hT.2.2.2.1, (f4 217 (by omega)).trans hT.2.2.2.2⟩
    refine RQ.blk 3 (pc' := 131) (lv' := [(3, .int (nI c)), (2, .int (nI l)), (0, .ref 196), (1, .int (nI v))]) (st' := [.int (nI c), .int 2, .ref 196]) (H' := _) (kc' := 0) (ks' := 0) rfl ?_
    refine RQ.call (v := some (.int (nI c))) (st' := []) rfl rfl rfl rfl rfl rfl (args_v [.int (nI c), .int 2] [] rfl rfl (Nat.le_of_ble_eq_true rfl) rfl hm3 (Nat.le_of_ble_eq_true rfl)) (rc_mchanged0 (x := 2) hm3) ?_
    exact RQ.done (c := 0) (s := 0) rfl rfl rfl rfl ⟨_, _, rfl, rfl, cur, hpm, ⟨us, ba, bo, get_set hm3, hV.far (fun a a1 a2 => (set_far (by omega)).trans (f4 a (by omega))) ((set_far (by decide)).trans (f4 223 (by omega))), (set_far (by decide)).trans ((f4 205 (by omega)).trans h5), (set_far (by decide)).trans ((f4 206 (by omega)).trans h6), hR.far (fun a a1 => (set_far (by omega)).trans (f4 a (by omega))), hT4.far (fun a a1 a2 => set_far (by omega)), hP3.far (fun a a1 a2 => set_far (by omega)), (set_far (by decide)).trans ((f4 196 (by omega)).trans h196), (set_far (by decide)).trans ((f4 197 (by omega)).trans h197)⟩, fun a ha => (set_far (by omega)).trans (f4 a (by omega))⟩
  · refine RQ.call (v := some (.int 0)) (st' := []) rfl rfl rfl rfl rfl rfl (args_v [.int (nI c)] [] rfl rfl (Nat.le_of_ble_eq_true rfl) rfl hm1 (Nat.le_of_ble_eq_true rfl)) (rc_mdirF hm1 rfl hT1.1 (by omega) (nI_ne2 hkc.1 kc)) ?_
    refine RQ.brT rfl rfl rfl (by decide) ?_
    refine RQ.blk 2 (pc' := 111) (lv' := [(3, .int (nI c)), (2, .int (nI l)), (0, .ref 196), (1, .int (nI v))]) (st' := [.int 2, .ref 196]) (H' := _) (kc' := 0) (ks' := 0) rfl ?_
    refine RQ.call (v := some (.int 0)) (st' := []) rfl rfl rfl rfl rfl rfl (args_v [.int 2] [] rfl rfl (Nat.le_of_ble_eq_true rfl) rfl hm1 (Nat.le_of_ble_eq_true rfl)) (rc_mlost0 hm1) ?_
    refine RQ.brT rfl rfl rfl (by decide) ?_
    refine RQ.blk 2 (pc' := 125) (lv' := [(3, .int (nI c)), (2, .int (nI l)), (0, .ref 196), (1, .int (nI v))]) (st' := [.int (nI c), .ref 196]) (H' := _) (kc' := 0) (ks' := 0) rfl ?_
    refine RQ.callN (st' := []) rfl rfl rfl rfl rfl rfl (args_v [.int (nI c)] [] rfl rfl (Nat.le_of_ble_eq_true rfl) rfl hm1 (Nat.le_of_ble_eq_true rfl)) (rn_forget (d := d + 1) hm1 hP1 k6 k7 k8 (show c ≤ 200 by omega) hT1.1) (fun H3 hx3 => ?_)
    obtain ⟨cur, hm3, hP3, hK3, hpm, -, -, f3⟩ := hx3
    have f4 : ∀ a, ¬ (a = 195 ∨ a = 213 ∨ (218 ≤ a ∧ a < 223)) → H3[a]? = H[a]? := fun a ha => (f3 a ha).trans (f1 a (by omega))
    have hT4 : MTreeAt H3 (va_up kd c 0) pa sz nl nm := ⟨hK3, (f4 214 (by omega)).trans hT.2.1, (f4 215 (by omega)).trans hT.2.2.1, (f4 216 (by omega)).trans hT.2.2.2.1, (f4 217 (by omega)).trans hT.2.2.2.2⟩
    refine RQ.blk 3 (pc' := 131) (lv' := [(3, .int (nI c)), (2, .int (nI l)), (0, .ref 196), (1, .int (nI v))]) (st' := [.int (nI c), .int 2, .ref 196]) (H' := _) (kc' := 0) (ks' := 0) rfl ?_
    refine RQ.call (v := some (.int (nI c))) (st' := []) rfl rfl rfl rfl rfl rfl (args_v [.int (nI c), .int 2] [] rfl rfl (Nat.le_of_ble_eq_true rfl) rfl hm3 (Nat.le_of_ble_eq_true rfl)) (rc_mchanged0 (x := 2) hm3) ?_
    exact RQ.done (c := 0) (s := 0) rfl rfl rfl rfl ⟨_, _, rfl, rfl, cur, hpm, ⟨us, ba, bo, get_set hm3, hV.far (fun a a1 a2 => (set_far (by omega)).trans (f4 a (by omega))) ((set_far (by decide)).trans (f4 223 (by omega))), (set_far (by decide)).trans ((f4 205 (by omega)).trans h5), (set_far (by decide)).trans ((f4 206 (by omega)).trans h6), hR.far (fun a a1 => (set_far (by omega)).trans (f4 a (by omega))), hT4.far (fun a a1 a2 => set_far (by omega)), hP3.far (fun a a1 a2 => set_far (by omega)), (set_far (by decide)).trans ((f4 196 (by omega)).trans h196), (set_far (by decide)).trans ((f4 197 (by omega)).trans h197)⟩, fun a ha => (set_far (by omega)).trans (f4 a (by omega))⟩
set_option maxRecDepth 20000 in
theorem ri_mremove_late {sc : Nat × (Nat → Int32)} {d l : Nat} {H : aH} {fa rs : Int32} {li : Nat} {tb : Nat → Int8} {g0 : Nat → Int8} {p : Nat} {ms : List aMV} {op : Nat → Bool} {se : Nat → Nat} {wss : Nat → List aE} {kd pa sz nl : Nat → Nat} {nm : Nat → Int8} {ps : List aPc} {v : Nat} {c : Nat} (h : RefI H fa li 0 1 1 tb l rs g0 p ms op se wss kd pa sz nl nm ps) (hk : RefOk l p ms se kd pa sz nl ps) (hv : v ≤ 200) (hl1 : 1 ≤ l) (hl : l ≤ 30) (hnm : noSl tb 0 l) (hkd : kd v = 2) (hc : (fstF (inN kd pa nl nm v (sl tb 0 l)) 1 200) = some c) (hem : ¬ (kd c = 2 ∧ 0 < (sumF (fun w => if inD kd pa c w then 1 else 0) 200))) : RI sc (d + 5) mr_311 [.ref 196, .int (nI v)] H (fun x H' => x = 0 ∧ ∃ cur : List aPc, cur.Perm (ps.filterMap (cutE c 0)) ∧ RefI H' 2 li 1 0 1 tb 0 0 g0 (p + 1) (ms.filter (keepM (fun j => if j < 8 then false else op j) se (p + 1) (kmM ms))) (fun j => if j < 8 then false else op j) se wss (va_up kd c 0) pa sz nl nm cur ∧ ∀ a, ¬ (195 ≤ a ∧ a < 224) → H'[a]? = H[a]?) := by
  obtain ⟨us, ba, bo, hm, hV, h5, h6, hR, hT, hP, h196, h197⟩ := h
  obtain ⟨k1, k2, k3, k4, k5, k6, k7, k8⟩ := hk
  refine RI.of ?_
  refine RQ.blk 2 (pc' := 2) (lv' := [(0, .ref 196), (1, .int (nI v))]) (st' := [.int 0, .ref 196]) (H' := _) (kc' := 0) (ks' := 0) rfl ?_
  refine RQ.put (ci := 12) rfl hm rfl rfl (Nat.le_of_ble_eq_true rfl) ?_
  have hm1 : (H.set 195 (kO 12 (mfs 0 (nI li) 0 1 1 (nI l) rs (nI p) (nI ms.length) (nI us) (nI ps.length) (nI (plen ps)) ba bo)))[195]? = some (kO 12 (mfs 0 (nI li) 0 1 1 (nI l) rs (nI p) (nI ms.length) (nI us) (nI ps.length) (nI (plen ps)) ba bo)) := get_set hm
  have f1 : ∀ a, a ≠ 195 → (H.set 195 (kO 12 (mfs 0 (nI li) 0 1 1 (nI l) rs (nI p) (nI ms.length) (nI us) (nI ps.length) (nI (plen ps)) ba bo)))[a]? = H[a]? := fun a ha => set_far ha
  show RQ _ _ _ 5 [(0, .ref 196), (1, .int (nI v))] [] (H.set 195 (kO 12 (mfs 0 (nI li) 0 1 1 (nI l) rs (nI p) (nI ms.length) (nI us) (nI ps.length) (nI (plen ps)) ba bo))) 0 0 _
  generalize (H.set 195 (kO 12 (mfs 0 (nI li) 0 1 1 (nI l) rs (nI p) (nI ms.length) (nI us) (nI ps.length) (nI (plen ps)) ba bo))) = H1 at hm1 f1 ⊢
  have hV1 := hV.far (fun a a1 a2 => f1 a (by omega)) (f1 223 (by decide))
  have h51 := (f1 205 (by decide)).trans h5
  have h61 := (f1 206 (by decide)).trans h6
  have hR1 := hR.far (fun a a1 => f1 a (by omega))
  have hT1 := hT.far (fun a a1 a2 => f1 a (by omega))
  have hP1 := hP.far (fun a a1 a2 => f1 a (by omega))
  have h1961 := (f1 196 (by decide)).trans h196
  have h1971 := (f1 197 (by decide)).trans h197
  have hkv := k5 v hv
  refine RQ.blk 3 (pc' := 10) (lv' := [(0, .ref 196), (1, .int (nI v))]) (st' := [.int 201, .int (nI v), .ref 196]) (H' := _) (kc' := 0) (ks' := 0) rfl ?_
  refine RQ.call (v := some (.int 0)) (st' := []) rfl rfl rfl rfl rfl rfl (args_v [.int 201, .int (nI v)] [] rfl rfl (Nat.le_of_ble_eq_true rfl) rfl hm1 (Nat.le_of_ble_eq_true rfl)) (rc_out (v := v) (m := 201) (by omega) (by decide)) ?_
  refine RQ.brF rfl rfl rfl (by decide) ?_
  refine RQ.blk 3 (pc' := 19) (lv' := [(0, .ref 196), (1, .int (nI v))]) (st' := [.ref 196, .int 0, .ref 196]) (H' := _) (kc' := 0) (ks' := 0) rfl ?_
  refine RQ.get (ci := 12) rfl hm1 rfl rfl ?_
  refine RQ.call (v := some (.int 1)) (st' := []) rfl rfl rfl rfl rfl rfl (args_v [.int (nI l), .int 0] [] rfl rfl (Nat.le_of_ble_eq_true rfl) rfl hm1 (Nat.le_of_ble_eq_true rfl)) (rc_named1 (i := 0) (n := l) hm1 h1961 (by decide) (by omega) hl1 hl hnm) ?_
  refine RQ.brT rfl rfl rfl (by decide) ?_
  refine RQ.blk 1 (pc' := 35) (lv' := [(0, .ref 196), (1, .int (nI v))]) (st' := [.ref 196]) (H' := _) (kc' := 0) (ks' := 0) rfl ?_
  refine RQ.get (ci := 12) rfl hm1 rfl rfl ?_
  refine RQ.brT rfl rfl rfl (by decide) ?_
  refine RQ.blk 1 (pc' := 48) (lv' := [(0, .ref 196), (1, .int (nI v))]) (st' := [.ref 196]) (H' := _) (kc' := 0) (ks' := 0) rfl ?_
  refine RQ.get (ci := 12) rfl hm1 rfl rfl ?_
  refine RQ.blk 3 (pc' := 54) (lv' := [(2, .int (nI l)), (0, .ref 196), (1, .int (nI v))]) (st' := [.int 0, .ref 196]) (H' := _) (kc' := 0) (ks' := 0) rfl ?_
  refine RQ.put (ci := 12) rfl hm1 rfl rfl (Nat.le_of_ble_eq_true rfl) ?_
  have hm2 : (H1.set 195 (kO 12 (mfs 0 (nI li) 0 1 1 (nI 0) rs (nI p) (nI ms.length) (nI us) (nI ps.length) (nI (plen ps)) ba bo)))[195]? = some (kO 12 (mfs 0 (nI li) 0 1 1 (nI 0) rs (nI p) (nI ms.length) (nI us) (nI ps.length) (nI (plen ps)) ba bo)) := get_set hm1
  have f2 : ∀ a, a ≠ 195 → (H1.set 195 (kO 12 (mfs 0 (nI li) 0 1 1 (nI 0) rs (nI p) (nI ms.length) (nI us) (nI ps.length) (nI (plen ps)) ba bo)))[a]? = H[a]? := fun a ha => (set_far ha).trans (f1 a ha)
  show RQ _ _ _ 57 [(2, .int (nI l)), (0, .ref 196), (1, .int (nI v))] [] (H1.set 195 (kO 12 (mfs 0 (nI li) 0 1 1 (nI 0) rs (nI p) (nI ms.length) (nI us) (nI ps.length) (nI (plen ps)) ba bo))) 0 0 _
  generalize (H1.set 195 (kO 12 (mfs 0 (nI li) 0 1 1 (nI 0) rs (nI p) (nI ms.length) (nI us) (nI ps.length) (nI (plen ps)) ba bo))) = H2 at hm2 f2 ⊢
  clear hm1 f1 hV1 h51 h61 hR1 hT1 hP1 h1961 h1971
  have hm1 := hm2
  have f1 := f2
  clear hm2 f2
  have hV1 := hV.far (fun a a1 a2 => f1 a (by omega)) (f1 223 (by decide))
  have h51 := (f1 205 (by decide)).trans h5
  have h61 := (f1 206 (by decide)).trans h6
  have hR1 := hR.far (fun a a1 => f1 a (by omega))
  have hT1 := hT.far (fun a a1 a2 => f1 a (by omega))
  have hP1 := hP.far (fun a a1 a2 => f1 a (by omega))
  have h1961 := (f1 196 (by decide)).trans h196
  have h1971 := (f1 197 (by decide)).trans h197
  refine RQ.blk 2 (pc' := 59) (lv' := [(2, .int (nI l)), (0, .ref 196), (1, .int (nI v))]) (st' := [.int (nI v), .ref 196]) (H' := _) (kc' := 0) (ks' := 0) rfl ?_
  refine RQ.call (v := some (.int 1)) (st' := []) rfl rfl rfl rfl rfl rfl (args_v [.int (nI v)] [] rfl rfl (Nat.le_of_ble_eq_true rfl) rfl hm1 (Nat.le_of_ble_eq_true rfl)) (rc_mdirT hm1 rfl hT1.1 hv (nI_is2 hkd)) ?_
  refine RQ.brF rfl rfl rfl (by decide) ?_
  refine RQ.blk 4 (pc' := 69) (lv' := [(2, .int (nI l)), (0, .ref 196), (1, .int (nI v))]) (st' := [.int (nI l), .int 0, .int (nI v), .ref 196]) (H' := _) (kc' := 0) (ks' := 0) rfl ?_
  have hcl := fstF_lt hc
  have hkc := k5 c (by omega)
  have hch := rc_mchild (sc := sc) (d := d + 3) (j := 0) (m := l) hm1 hT1 k5 h1961 (by omega) hv
  rw [hc] at hch
  refine RQ.call (v := some (.int (nI c))) (st' := []) rfl rfl rfl rfl rfl rfl (args_v [.int (nI l), .int 0, .int (nI v)] [] rfl rfl (Nat.le_of_ble_eq_true rfl) rfl hm1 (Nat.le_of_ble_eq_true rfl)) hch ?_
  refine RQ.blk 3 (pc' := 78) (lv' := [(3, .int (nI c)), (2, .int (nI l)), (0, .ref 196), (1, .int (nI v))]) (st' := [.int (nI c)]) (H' := _) (kc' := 0) (ks' := 0) rfl ?_
  refine RQ.brT rfl rfl rfl (cT_ge c 0) ?_
  refine RQ.blk 2 (pc' := 89) (lv' := [(3, .int (nI c)), (2, .int (nI l)), (0, .ref 196), (1, .int (nI v))]) (st' := [.int (nI c), .ref 196]) (H' := _) (kc' := 0) (ks' := 0) rfl ?_
  by_cases kc : kd c = 2
  · refine RQ.call (v := some (.int 1)) (st' := []) rfl rfl rfl rfl rfl rfl (args_v [.int (nI c)] [] rfl rfl (Nat.le_of_ble_eq_true rfl) rfl hm1 (Nat.le_of_ble_eq_true rfl)) (rc_mdirT hm1 rfl hT1.1 (by omega) (nI_is2 kc)) ?_
    refine RQ.brF rfl rfl rfl (by decide) ?_
    refine RQ.blk 2 (pc' := 97) (lv' := [(3, .int (nI c)), (2, .int (nI l)), (0, .ref 196), (1, .int (nI v))]) (st' := [.int (nI c), .ref 196]) (H' := _) (kc' := 0) (ks' := 0) rfl ?_
    refine RQ.call (v := some (.int (nI (sumF (fun w => if inD kd pa c w then 1 else 0) 200)))) (st' := []) rfl rfl rfl rfl rfl rfl (args_v [.int (nI c)] [] rfl rfl (Nat.le_of_ble_eq_true rfl) rfl hm1 (Nat.le_of_ble_eq_true rfl)) (rc_mchildCount hm1 hT1 k5 (by omega)) ?_
    have hb9 : (sumF (fun w => if inD kd pa c w then 1 else 0) 200) = 0 := Nat.eq_zero_of_not_pos (fun e => hem ⟨kc, e⟩)
    rw [hb9, show nI 0 = 0 from rfl]
    refine RQ.brT rfl rfl rfl (by decide) ?_
    refine RQ.blk 2 (pc' := 111) (lv' := [(3, .int (nI c)), (2, .int (nI l)), (0, .ref 196), (1, .int (nI v))]) (st' := [.int 2, .ref 196]) (H' := _) (kc' := 0) (ks' := 0) rfl ?_
    refine RQ.call (v := some (.int 0)) (st' := []) rfl rfl rfl rfl rfl rfl (args_v [.int 2] [] rfl rfl (Nat.le_of_ble_eq_true rfl) rfl hm1 (Nat.le_of_ble_eq_true rfl)) (rc_mlostL hm1) ?_
    refine RQ.brT rfl rfl rfl (by decide) ?_
    refine RQ.blk 2 (pc' := 125) (lv' := [(3, .int (nI c)), (2, .int (nI l)), (0, .ref 196), (1, .int (nI v))]) (st' := [.int (nI c), .ref 196]) (H' := _) (kc' := 0) (ks' := 0) rfl ?_
    refine RQ.callN (st' := []) rfl rfl rfl rfl rfl rfl (args_v [.int (nI c)] [] rfl rfl (Nat.le_of_ble_eq_true rfl) rfl hm1 (Nat.le_of_ble_eq_true rfl)) (rn_forget (d := d + 1) hm1 hP1 k6 k7 k8 (show c ≤ 200 by omega) hT1.1) (fun H3 hx3 => ?_)
    obtain ⟨cur, hm3, hP3, hK3, hpm, -, -, f3⟩ := hx3
    have f4 : ∀ a, ¬ (a = 195 ∨ a = 213 ∨ (218 ≤ a ∧ a < 223)) → H3[a]? = H[a]? := fun a ha => (f3 a ha).trans (f1 a (by omega))
    have hT4 : MTreeAt H3 (va_up kd c 0) pa sz nl nm := ⟨hK3, (f4 214 (by omega)).trans hT.2.1, (f4 215 (by omega)).trans hT.2.2.1, (f4 216 (by omega)).trans hT.2.2.2.1, (f4 217 (by omega)).trans hT.2.2.2.2⟩
    refine RQ.blk 3 (pc' := 131) (lv' := [(3, .int (nI c)), (2, .int (nI l)), (0, .ref 196), (1, .int (nI v))]) (st' := [.int (nI c), .int 2, .ref 196]) (H' := _) (kc' := 0) (ks' := 0) rfl ?_
    refine RQ.callI (st' := []) rfl rfl rfl rfl rfl rfl (args_v [.int (nI c), .int 2] [] rfl rfl (Nat.le_of_ble_eq_true rfl) rfl hm3 (Nat.le_of_ble_eq_true rfl)) (ri_mchanged1 (x := 2) (y := nI c) hm3 (hV.far (fun a a1 a2 => f4 a (by omega)) (f4 223 (by omega))) k3 ((f4 205 (by omega)).trans h5) ((f4 206 (by omega)).trans h6) k4 k2) (fun z H5 hz => ?_)
    obtain ⟨ez, us', hm5, hV5, h55, f5⟩ := hz
    have g5 : ∀ a, ¬ (195 ≤ a ∧ a ≤ 205 ∧ a ≠ 196 ∧ a ≠ 197 ∨ a = 223) → H5[a]? = H3[a]? := fun a ha => f5 a (by omega) (by omega)
    exact RQ.done (c := 0) (s := 0) rfl rfl rfl rfl ⟨_, _, rfl, ez, cur, hpm, ⟨us', bo, ba, hm5, hV5, h55, (g5 206 (by omega)).trans ((f4 206 (by omega)).trans h6), hR.far (fun a a1 => (g5 a (by omega)).trans (f4 a (by omega))), hT4.far (fun a a1 a2 => g5 a (by omega)), hP3.far (fun a a1 a2 => g5 a (by omega)), (g5 196 (by omega)).trans ((f4 196 (by omega)).trans h196), (g5 197 (by omega)).trans ((f4 197 (by omega)).trans h197)⟩, fun a ha => (g5 a (by omega)).trans (f4 a (by omega))⟩
  · refine RQ.call (v := some (.int 0)) (st' := []) rfl rfl rfl rfl rfl rfl (args_v [.int (nI c)] [] rfl rfl (Nat.le_of_ble_eq_true rfl) rfl hm1 (Nat.le_of_ble_eq_true rfl)) (rc_mdirF hm1 rfl hT1.1 (by omega) (nI_ne2 hkc.1 kc)) ?_
    refine RQ.brT rfl rfl rfl (by decide) ?_
    refine RQ.blk 2 (pc' := 111) (lv' := [(3, .int (nI c)), (2, .int (nI l)), (0, .ref 196), (1, .int (nI v))]) (st' := [.int 2, .ref 196]) (H' := _) (kc' := 0) (ks' := 0) rfl ?_
    refine RQ.call (v := some (.int 0)) (st' := []) rfl rfl rfl rfl rfl rfl (args_v [.int 2] [] rfl rfl (Nat.le_of_ble_eq_true rfl) rfl hm1 (Nat.le_of_ble_eq_true rfl)) (rc_mlostL hm1) ?_
    refine RQ.brT rfl rfl rfl (by decide) ?_
    refine RQ.blk 2 (pc' := 125) (lv' := [(3, .int (nI c)), (2, .int (nI l)), (0, .ref 196), (1, .int (nI v))]) (st' := [.int (nI c), .ref 196]) (H' := _) (kc' := 0) (ks' := 0) rfl ?_
    refine RQ.callN (st' := []) rfl rfl rfl rfl rfl rfl (args_v [.int (nI c)] [] rfl rfl (Nat.le_of_ble_eq_true rfl) rfl hm1 (Nat.le_of_ble_eq_true rfl)) (rn_forget (d := d + 1) hm1 hP1 k6 k7 k8 (show c ≤ 200 by omega) hT1.1) (fun H3 hx3 => ?_)
    obtain ⟨cur, hm3, hP3, hK3, hpm, -, -, f3⟩ := hx3
    have f4 : ∀ a, ¬ (a = 195 ∨ a = 213 ∨ (218 ≤ a ∧ a < 223)) → H3[a]? = H[a]? := fun a ha => (f3 a ha).trans (f1 a (by omega))
    have hT4 : MTreeAt H3 (va_up kd c 0) pa sz nl nm := ⟨hK3, (f4 214 (by omega)).trans hT.2.1, (f4 215 (by omega)).trans hT.2.2.1, (f4 216 (by omega)).trans hT.2.2.2.1, (f4 217 (by omega)).trans hT.2.2.2.2⟩
    refine RQ.blk 3 (pc' := 131) (lv' := [(3, .int (nI c)), (2, .int (nI l)), (0, .ref 196), (1, .int (nI v))]) (st' := [.int (nI c), .int 2, .ref 196]) (H' := _) (kc' := 0) (ks' := 0) rfl ?_
    refine RQ.callI (st' := []) rfl rfl rfl rfl rfl rfl (args_v [.int (nI c), .int 2] [] rfl rfl (Nat.le_of_ble_eq_true rfl) rfl hm3 (Nat.le_of_ble_eq_true rfl)) (ri_mchanged1 (x := 2) (y := nI c) hm3 (hV.far (fun a a1 a2 => f4 a (by omega)) (f4 223 (by omega))) k3 ((f4 205 (by omega)).trans h5) ((f4 206 (by omega)).trans h6) k4 k2) (fun z H5 hz => ?_)
    obtain ⟨ez, us', hm5, hV5, h55, f5⟩ := hz
    have g5 : ∀ a, ¬ (195 ≤ a ∧ a ≤ 205 ∧ a ≠ 196 ∧ a ≠ 197 ∨ a = 223) → H5[a]? = H3[a]? := fun a ha => f5 a (by omega) (by omega)
    exact RQ.done (c := 0) (s := 0) rfl rfl rfl rfl ⟨_, _, rfl, ez, cur, hpm, ⟨us', bo, ba, hm5, hV5, h55, (g5 206 (by omega)).trans ((f4 206 (by omega)).trans h6), hR.far (fun a a1 => (g5 a (by omega)).trans (f4 a (by omega))), hT4.far (fun a a1 a2 => g5 a (by omega)), hP3.far (fun a a1 a2 => g5 a (by omega)), (g5 196 (by omega)).trans ((f4 196 (by omega)).trans h196), (g5 197 (by omega)).trans ((f4 197 (by omega)).trans h197)⟩, fun a ha => (g5 a (by omega)).trans (f4 a (by omega))⟩
