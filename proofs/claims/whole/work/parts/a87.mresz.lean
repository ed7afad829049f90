/-! ===== resize of the reference: same, lost, done, done late; written by wip/gen/refi2.py ===== -/
set_option maxRecDepth 20000 in
theorem ri_mresize_same {sc : Nat × (Nat → Int32)} {d l : Nat} {H : aH} {fa cw cl rs : Int32} {li : Nat} {tb : Nat → Int8} {g0 : Nat → Int8} {p : Nat} {ms : List aMV} {op : Nat → Bool} {se : Nat → Nat} {wss : Nat → List aE} {kd pa sz nl : Nat → Nat} {nm : Nat → Int8} {ps : List aPc} {f n : Nat} (h : RefI H fa li 0 cw cl tb l rs g0 p ms op se wss kd pa sz nl nm ps) (hk : RefOk l p ms se kd pa sz nl ps) (hf : f ≤ 200) (hn : n ≤ 16384) (hkd : kd f = 1) (hsz : sz f = n) : RI sc (d + 5) mr_328 [.ref 196, .int (nI f), .int (nI n)] H (fun x H' => x = nI n ∧ RefI H' 0 li 0 cw cl tb l rs g0 p ms op se wss kd pa sz nl nm ps ∧ ∀ a, ¬ (195 ≤ a ∧ a < 224) → H'[a]? = H[a]?) := by
  obtain ⟨us, ba, bo, hm, hV, h5, h6, hR, hT, hP, h196, h197⟩ := h
  obtain ⟨k1, k2, k3, k4, k5, k6, k7, k8⟩ := hk
  refine RI.of ?_
  refine RQ.blk 2 (pc' := 2) (lv' := [(0, .ref 196), (1, .int (nI f)), (2, .int (nI n))]) (st' := [.int 0, .ref 196]) (H' := _) (kc' := 0) (ks' := 0) rfl ?_
  refine RQ.put (ci := 12) rfl hm rfl rfl (Nat.le_of_ble_eq_true rfl) ?_
  have hm1 : (H.set 195 (kO 12 (mfs 0 (nI li) 0 cw cl (nI l) rs (nI p) (nI ms.length) (nI us) (nI ps.length) (nI (plen ps)) ba bo)))[195]? = some (kO 12 (mfs 0 (nI li) 0 cw cl (nI l) rs (nI p) (nI ms.length) (nI us) (nI ps.length) (nI (plen ps)) ba bo)) := get_set hm
  have f1 : ∀ a, a ≠ 195 → (H.set 195 (kO 12 (mfs 0 (nI li) 0 cw cl (nI l) rs (nI p) (nI ms.length) (nI us) (nI ps.length) (nI (plen ps)) ba bo)))[a]? = H[a]? := fun a ha => set_far ha
  show RQ _ _ _ 5 [(0, .ref 196), (1, .int (nI f)), (2, .int (nI n))] [] (H.set 195 (kO 12 (mfs 0 (nI li) 0 cw cl (nI l) rs (nI p) (nI ms.length) (nI us) (nI ps.length) (nI (plen ps)) ba bo))) 0 0 _
  generalize (H.set 195 (kO 12 (mfs 0 (nI li) 0 cw cl (nI l) rs (nI p) (nI ms.length) (nI us) (nI ps.length) (nI (plen ps)) ba bo))) = H1 at hm1 f1 ⊢
  have hV1 := hV.far (fun a a1 a2 => f1 a (by omega)) (f1 223 (by decide))
  have h51 := (f1 205 (by decide)).trans h5
  have h61 := (f1 206 (by decide)).trans h6
  have hR1 := hR.far (fun a a1 => f1 a (by omega))
  have hT1 := hT.far (fun a a1 a2 => f1 a (by omega))
  have hP1 := hP.far (fun a a1 a2 => f1 a (by omega))
  have h1961 := (f1 196 (by decide)).trans h196
  have h1971 := (f1 197 (by decide)).trans h197
  have hkf := k5 f hf
  refine RQ.blk 3 (pc' := 10) (lv' := [(0, .ref 196), (1, .int (nI f)), (2, .int (nI n))]) (st' := [.int 201, .int (nI f), .ref 196]) (H' := _) (kc' := 0) (ks' := 0) rfl ?_
  refine RQ.call (v := some (.int 0)) (st' := []) rfl rfl rfl rfl rfl rfl (args_v [.int 201, .int (nI f)] [] rfl rfl (Nat.le_of_ble_eq_true rfl) rfl hm1 (Nat.le_of_ble_eq_true rfl)) (rc_out (v := f) (m := 201) (by omega) (by decide)) ?_
  refine RQ.brF rfl rfl rfl (by decide) ?_
  refine RQ.blk 3 (pc' := 21) (lv' := [(0, .ref 196), (1, .int (nI f)), (2, .int (nI n))]) (st' := [.int 16385, .int (nI n), .ref 196]) (H' := _) (kc' := 0) (ks' := 0) rfl ?_
  refine RQ.call (v := some (.int 0)) (st' := []) rfl rfl rfl rfl rfl rfl (args_v [.int 16385, .int (nI n)] [] rfl rfl (Nat.le_of_ble_eq_true rfl) rfl hm1 (Nat.le_of_ble_eq_true rfl)) (rc_out (v := n) (m := 16385) (by omega) (by decide)) ?_
  refine RQ.brT rfl rfl rfl (by decide) ?_
  refine RQ.blk 1 (pc' := 34) (lv' := [(0, .ref 196), (1, .int (nI f)), (2, .int (nI n))]) (st' := [.ref 196]) (H' := _) (kc' := 0) (ks' := 0) rfl ?_
  refine RQ.get (ci := 12) rfl hm1 rfl rfl ?_
  refine RQ.brT rfl rfl rfl (by decide) ?_
  refine RQ.blk 1 (pc' := 47) (lv' := [(0, .ref 196), (1, .int (nI f)), (2, .int (nI n))]) (st' := [.ref 196]) (H' := _) (kc' := 0) (ks' := 0) rfl ?_
  refine RQ.get (ci := 12) rfl hm1 rfl rfl ?_
  refine RQ.blk 1 (pc' := 51) (lv' := [(0, .ref 196), (1, .int (nI f)), (2, .int (nI n))]) (st' := [.int (nI f), .ref 214]) (H' := _) (kc' := 0) (ks' := 0) rfl ?_
  refine RQ.ialdN (j := f) rfl hT1.1 (by omega) (by decide) ?_
  refine RQ.blk 1 (pc' := 53) (lv' := [(0, .ref 196), (1, .int (nI f)), (2, .int (nI n))]) (st' := [.int 1, .int (nI (kd f))]) (H' := _) (kc' := 0) (ks' := 0) rfl ?_
  rw [hkd]
  refine RQ.brT rfl rfl rfl (cT_eq 1 1) ?_
  refine RQ.blk 1 (pc' := 63) (lv' := [(0, .ref 196), (1, .int (nI f)), (2, .int (nI n))]) (st' := [.ref 196]) (H' := _) (kc' := 0) (ks' := 0) rfl ?_
  refine RQ.get (ci := 12) rfl hm1 rfl rfl ?_
  refine RQ.blk 1 (pc' := 67) (lv' := [(0, .ref 196), (1, .int (nI f)), (2, .int (nI n))]) (st' := [.int (nI f), .ref 218]) (H' := _) (kc' := 0) (ks' := 0) rfl ?_
  refine RQ.ialdN (j := f) rfl hT1.2.2.2.2 (by omega) (by decide) ?_
  refine RQ.blk 3 (pc' := 71) (lv' := [(3, .int (nI (sz f))), (0, .ref 196), (1, .int (nI f)), (2, .int (nI n))]) (st' := [.int (nI n), .int (nI (sz f))]) (H' := _) (kc' := 0) (ks' := 0) rfl ?_
  refine RQ.brF rfl rfl rfl (cF_ne (sz f) n) ?_
  refine RQ.blk 1 (pc' := 75) (lv' := [(3, .int (nI (sz f))), (0, .ref 196), (1, .int (nI f)), (2, .int (nI n))]) (st' := [.int (nI n)]) (H' := _) (kc' := 0) (ks' := 0) rfl ?_
  exact RQ.done (c := 0) (s := 0) rfl rfl rfl rfl ⟨_, _, rfl, rfl, ⟨us, ba, bo, hm1, hV1, h51, h61, hR1, hT1, hP1, h1961, h1971⟩, fun a ha => f1 a (by omega)⟩
set_option maxRecDepth 20000 in
theorem ri_mresize_lost {sc : Nat × (Nat → Int32)} {d l : Nat} {H : aH} {fa rs : Int32} {li : Nat} {tb : Nat → Int8} {g0 : Nat → Int8} {p : Nat} {ms : List aMV} {op : Nat → Bool} {se : Nat → Nat} {wss : Nat → List aE} {kd pa sz nl : Nat → Nat} {nm : Nat → Int8} {ps : List aPc} {f n : Nat} (h : RefI H fa li 0 1 0 tb l rs g0 p ms op se wss kd pa sz nl nm ps) (hk : RefOk l p ms se kd pa sz nl ps) (hf : f ≤ 200) (hn : n ≤ 16384) (hkd : kd f = 1) (hsz : ¬ sz f = n) : RI sc (d + 5) mr_328 [.ref 196, .int (nI f), .int (nI n)] H (fun x H' => x = 0 ∧ RefI H' 2 li 1 0 0 tb 0 0 g0 p (ms.filter (keepM (fun j => if j < 8 then false else op j) se p (kmM ms))) (fun j => if j < 8 then false else op j) se wss kd pa sz nl nm ps ∧ ∀ a, ¬ (195 ≤ a ∧ a < 224) → H'[a]? = H[a]?) := by
  obtain ⟨us, ba, bo, hm, hV, h5, h6, hR, hT, hP, h196, h197⟩ := h
  obtain ⟨k1, k2, k3, k4, k5, k6, k7, k8⟩ := hk
  refine RI.of ?_
  refine RQ.blk 2 (pc' := 2) (lv' := [(0, .ref 196), (1, .int (nI f)), (2, .int (nI n))]) (st' := [.int 0, .ref 196]) (H' := _) (kc' := 0) (ks' := 0) rfl ?_
  refine RQ.put (ci := 12) rfl hm rfl rfl (Nat.le_of_ble_eq_true rfl) ?_
  have hm1 : (H.set 195 (kO 12 (mfs 0 (nI li) 0 1 0 (nI l) rs (nI p) (nI ms.length) (nI us) (nI ps.length) (nI (plen ps)) ba bo)))[195]? = some (kO 12 (mfs 0 (nI li) 0 1 0 (nI l) rs (nI p) (nI ms.length) (nI us) (nI ps.length) (nI (plen ps)) ba bo)) := get_set hm
  have f1 : ∀ a, a ≠ 195 → (H.set 195 (kO 12 (mfs 0 (nI li) 0 1 0 (nI l) rs (nI p) (nI ms.length) (nI us) (nI ps.length) (nI (plen ps)) ba bo)))[a]? = H[a]? := fun a ha => set_far ha
  show RQ _ _ _ 5 [(0, .ref 196), (1, .int (nI f)), (2, .int (nI n))] [] (H.set 195 (kO 12 (mfs 0 (nI li) 0 1 0 (nI l) rs (nI p) (nI ms.length) (nI us) (nI ps.length) (nI (plen ps)) ba bo))) 0 0 _
  generalize (H.set 195 (kO 12 (mfs 0 (nI li) 0 1 0 (nI l) rs (nI p) (nI ms.length) (nI us) (nI ps.length) (nI (plen ps)) ba bo))) = H1 at hm1 f1 ⊢
  have hV1 := hV.far (fun a a1 a2 => f1 a (by omega)) (f1 223 (by decide))
  have h51 := (f1 205 (by decide)).trans h5
  have h61 := (f1 206 (by decide)).trans h6
  have hR1 := hR.far (fun a a1 => f1 a (by omega))
  have hT1 := hT.far (fun a a1 a2 => f1 a (by omega))
  have hP1 := hP.far (fun a a1 a2 => f1 a (by omega))
  have h1961 := (f1 196 (by decide)).trans h196
  have h1971 := (f1 197 (by decide)).trans h197
  have hkf := k5 f hf
  refine RQ.blk 3 (pc' := 10) (lv' := [(0, .ref 196), (1, .int (nI f)), (2, .int (nI n))]) (st' := [.int 201, .int (nI f), .ref 196]) (H' := _) (kc' := 0) (ks' := 0) rfl ?_
  refine RQ.call (v := some (.int 0)) (st' := []) rfl rfl rfl rfl rfl rfl (args_v [.int 201, .int (nI f)] [] rfl rfl (Nat.le_of_ble_eq_true rfl) rfl hm1 (Nat.le_of_ble_eq_true rfl)) (rc_out (v := f) (m := 201) (by omega) (by decide)) ?_
  refine RQ.brF rfl rfl rfl (by decide) ?_
  refine RQ.blk 3 (pc' := 21) (lv' := [(0, .ref 196), (1, .int (nI f)), (2, .int (nI n))]) (st' := [.int 16385, .int (nI n), .ref 196]) (H' := _) (kc' := 0) (ks' := 0) rfl ?_
  refine RQ.call (v := some (.int 0)) (st' := []) rfl rfl rfl rfl rfl rfl (args_v [.int 16385, .int (nI n)] [] rfl rfl (Nat.le_of_ble_eq_true rfl) rfl hm1 (Nat.le_of_ble_eq_true rfl)) (rc_out (v := n) (m := 16385) (by omega) (by decide)) ?_
  refine RQ.brT rfl rfl rfl (by decide) ?_
  refine RQ.blk 1 (pc' := 34) (lv' := [(0, .ref 196), (1, .int (nI f)), (2, .int (nI n))]) (st' := [.ref 196]) (H' := _) (kc' := 0) (ks' := 0) rfl ?_
  refine RQ.get (ci := 12) rfl hm1 rfl rfl ?_
  refine RQ.brT rfl rfl rfl (by decide) ?_
  refine RQ.blk 1 (pc' := 47) (lv' := [(0, .ref 196), (1, .int (nI f)), (2, .int (nI n))]) (st' := [.ref 196]) (H' := _) (kc' := 0) (ks' := 0) rfl ?_
  refine RQ.get (ci := 12) rfl hm1 rfl rfl ?_
  refine RQ.blk 1 (pc' := 51) (lv' := [(0, .ref 196), (1, .int (nI f)), (2, .int (nI n))]) (st' := [.int (nI f), .ref 214]) (H' := _) (kc' := 0) (ks' := 0) rfl ?_
  refine RQ.ialdN (j := f) rfl hT1.1 (by omega) (by decide) ?_
  refine RQ.blk 1 (pc' := 53) (lv' := [(0, .ref 196), (1, .int (nI f)), (2, .int (nI n))]) (st' := [.int 1, .int (nI (kd f))]) (H' := _) (kc' := 0) (ks' := 0) rfl ?_
  rw [hkd]
  refine RQ.brT rfl rfl rfl (cT_eq 1 1) ?_
  refine RQ.blk 1 (pc' := 63) (lv' := [(0, .ref 196), (1, .int (nI f)), (2, .int (nI n))]) (st' := [.ref 196]) (H' := _) (kc' := 0) (ks' := 0) rfl ?_
  refine RQ.get (ci := 12) rfl hm1 rfl rfl ?_
  refine RQ.blk 1 (pc' := 67) (lv' := [(0, .ref 196), (1, .int (nI f)), (2, .int (nI n))]) (st' := [.int (nI f), .ref 218]) (H' := _) (kc' := 0) (ks' := 0) rfl ?_
  refine RQ.ialdN (j := f) rfl hT1.2.2.2.2 (by omega) (by decide) ?_
  refine RQ.blk 3 (pc' := 71) (lv' := [(3, .int (nI (sz f))), (0, .ref 196), (1, .int (nI f)), (2, .int (nI n))]) (st' := [.int (nI n), .int (nI (sz f))]) (H' := _) (kc' := 0) (ks' := 0) rfl ?_
  refine RQ.brT rfl rfl rfl (cT_ne (sz f) n) ?_
  refine RQ.blk 2 (pc' := 78) (lv' := [(3, .int (nI (sz f))), (0, .ref 196), (1, .int (nI f)), (2, .int (nI n))]) (st' := [.int 2, .ref 196]) (H' := _) (kc' := 0) (ks' := 0) rfl ?_
  refine RQ.callI (st' := []) rfl rfl rfl rfl rfl rfl (args_v [.int 2] [] rfl rfl (Nat.le_of_ble_eq_true rfl) rfl hm1 (Nat.le_of_ble_eq_true rfl)) (ri_mlost1 (x := 2) hm1 h51) (fun y H2 hy => ?_)
  obtain ⟨ey, hm2, h52, f2⟩ := hy
  rw [ey]
  refine RQ.brF rfl rfl rfl (by decide) ?_
  refine RQ.blk 1 (pc' := 85) (lv' := [(3, .int (nI (sz f))), (0, .ref 196), (1, .int (nI f)), (2, .int (nI n))]) (st' := [.ref 196]) (H' := _) (kc' := 0) (ks' := 0) rfl ?_
  have g2 : ∀ a, a ≠ 195 → a ≠ 205 → H2[a]? = H[a]? := fun a a1 a2 => (f2 a a1 a2).trans (f1 a a1)
  refine RQ.callN (st' := []) rfl rfl rfl rfl rfl rfl (args_v [] [] rfl rfl (Nat.le_of_ble_eq_true rfl) rfl hm2 (Nat.le_of_ble_eq_true rfl)) (rn_pruneL (op := (fun j => if j < 8 then false else op j)) hm2 (hV.far (fun a a1 a2 => g2 a (by omega) (by omega)) (g2 223 (by decide) (by decide))) k3 h52 ((g2 206 (by decide) (by decide)).trans h6) k4 (by omega)) (fun H3 hz => ?_)
  obtain ⟨us', hm3, hV3, f3⟩ := hz
  refine RQ.blk 1 (pc' := 89) (lv' := [(3, .int (nI (sz f))), (0, .ref 196), (1, .int (nI f)), (2, .int (nI n))]) (st' := [.int 0]) (H' := _) (kc' := 0) (ks' := 0) rfl ?_
  have g3 : ∀ a, ¬ (195 ≤ a ∧ a ≤ 205 ∧ a ≠ 196 ∧ a ≠ 197 ∨ a = 223) → H3[a]? = H[a]? := fun a ha => (f3 a (by omega)).trans (g2 a (by omega) (by omega))
  exact RQ.done (c := 0) (s := 0) rfl rfl rfl rfl ⟨_, _, rfl, rfl, ⟨us', bo, ba, hm3, hV3, (f3 205 (by omega)).trans h52, (g3 206 (by omega)).trans h6, hR.far (fun a a1 => g3 a (by omega)), hT.far (fun a a1 a2 => g3 a (by omega)), hP.far (fun a a1 a2 => g3 a (by omega)), (g3 196 (by omega)).trans h196, (g3 197 (by omega)).trans h197⟩, fun a ha => g3 a (by omega)⟩
set_option maxRecDepth 20000 in
theorem ri_mresize_ok {sc : Nat × (Nat → Int32)} {d l : Nat} {H : aH} {fa cl rs : Int32} {li : Nat} {tb : Nat → Int8} {g0 : Nat → Int8} {p : Nat} {ms : List aMV} {op : Nat → Bool} {se : Nat → Nat} {wss : Nat → List aE} {kd pa sz nl : Nat → Nat} {nm : Nat → Int8} {ps : List aPc} {f n : Nat} (h : RefI H fa li 0 0 cl tb l rs g0 p ms op se wss kd pa sz nl nm ps) (hk : RefOk l p ms se kd pa sz nl ps) (hf : f ≤ 200) (hn : n ≤ 16384) (hkd : kd f = 1) (hsz : ¬ sz f = n) : RI sc (d + 5) mr_328 [.ref 196, .int (nI f), .int (nI n)] H (fun x H' => x = nI (sz f) ∧ ∃ cur : List aPc, cur.Perm (if n < sz f then ps.filterMap (cutE f n) else ps) ∧ RefI H' 0 li 0 0 cl tb l rs g0 (p + 1) ms op se wss kd pa (va_up sz f n) nl nm cur ∧ ∀ a, ¬ (195 ≤ a ∧ a < 224) → H'[a]? = H[a]?) := by
  obtain ⟨us, ba, bo, hm, hV, h5, h6, hR, hT, hP, h196, h197⟩ := h
  obtain ⟨k1, k2, k3, k4, k5, k6, k7, k8⟩ := hk
  refine RI.of ?_
  refine RQ.blk 2 (pc' := 2) (lv' := [(0, .ref 196), (1, .int (nI f)), (2, .int (nI n))]) (st' := [.int 0, .ref 196]) (H' := _) (kc' := 0) (ks' := 0) rfl ?_
  refine RQ.put (ci := 12) rfl hm rfl rfl (Nat.le_of_ble_eq_true rfl) ?_
  have hm1 : (H.set 195 (kO 12 (mfs 0 (nI li) 0 0 cl (nI l) rs (nI p) (nI ms.length) (nI us) (nI ps.length) (nI (plen ps)) ba bo)))[195]? = some (kO 12 (mfs 0 (nI li) 0 0 cl (nI l) rs (nI p) (nI ms.length) (nI us) (nI ps.length) (nI (plen ps)) ba bo)) := get_set hm
  have f1 : ∀ a, a ≠ 195 → (H.set 195 (kO 12 (mfs 0 (nI li) 0 0 cl (nI l) rs (nI p) (nI ms.length) (nI us) (nI ps.length) (nI (plen ps)) ba bo)))[a]? = H[a]? := fun a ha => set_far ha
  show RQ _ _ _ 5 [(0, .ref 196), (1, .int (nI f)), (2, .int (nI n))] [] (H.set 195 (kO 12 (mfs 0 (nI li) 0 0 cl (nI l) rs (nI p) (nI ms.length) (nI us) (nI ps.length) (nI (plen ps)) ba bo))) 0 0 _
  generalize (H.set 195 (kO 12 (mfs 0 (nI li) 0 0 cl (nI l) rs (nI p) (nI ms.length) (nI us) (nI ps.length) (nI (plen ps)) ba bo))) = H1 at hm1 f1 ⊢
  have hV1 := hV.far (fun a a1 a2 => f1 a (by omega)) (f1 223 (by decide))
  have h51 := (f1 205 (by decide)).trans h5
  have h61 := (f1 206 (by decide)).trans h6
  have hR1 := hR.far (fun a a1 => f1 a (by omega))
  have hT1 := hT.far (fun a a1 a2 => f1 a (by omega))
  have hP1 := hP.far (fun a a1 a2 => f1 a (by omega))
  have h1961 := (f1 196 (by decide)).trans h196
  have h1971 := (f1 197 (by decide)).trans h197
  have hkf := k5 f hf
  refine RQ.blk 3 (pc' := 10) (lv' := [(0, .ref 196), (1, .int (nI f)), (2, .int (nI n))]) (st' := [.int 201, .int (nI f), .ref 196]) (H' := _) (kc' := 0) (ks' := 0) rfl ?_
  refine RQ.call (v := some (.int 0)) (st' := []) rfl rfl rfl rfl rfl rfl (args_v [.int 201, .int (nI f)] [] rfl rfl (Nat.le_of_ble_eq_true rfl) rfl hm1 (Nat.le_of_ble_eq_true rfl)) (rc_out (v := f) (m := 201) (by omega) (by decide)) ?_
  refine RQ.brF rfl rfl rfl (by decide) ?_
  refine RQ.blk 3 (pc' := 21) (lv' := [(0, .ref 196), (1, .int (nI f)), (2, .int (nI n))]) (st' := [.int 16385, .int (nI n), .ref 196]) (H' := _) (kc' := 0) (ks' := 0) rfl ?_
  refine RQ.call (v := some (.int 0)) (st' := []) rfl rfl rfl rfl rfl rfl (args_v [.int 16385, .int (nI n)] [] rfl rfl (Nat.le_of_ble_eq_true rfl) rfl hm1 (Nat.le_of_ble_eq_true rfl)) (rc_out (v := n) (m := 16385) (by omega) (by decide)) ?_
  refine RQ.brT rfl rfl rfl (by decide) ?_
  refine RQ.blk 1 (pc' := 34) (lv' := [(0, .ref 196), (1, .int (nI f)), (2, .int (nI n))]) (st' := [.ref 196]) (H' := _) (kc' := 0) (ks' := 0) rfl ?_
  refine RQ.get (ci := 12) rfl hm1 rfl rfl ?_
  refine RQ.brT rfl rfl rfl (by decide) ?_
  refine RQ.blk 1 (pc' := 47) (lv' := [(0, .ref 196), (1, .int (nI f)), (2, .int (nI n))]) (st' := [.ref 196]) (H' := _) (kc' := 0) (ks' := 0) rfl ?_
  refine RQ.get (ci := 12) rfl hm1 rfl rfl ?_
  refine RQ.blk 1 (pc' := 51) (lv' := [(0, .ref 196), (1, .int (nI f)), (2, .int (nI n))]) (st' := [.int (nI f), .ref 214]) (H' := _) (kc' := 0) (ks' := 0) rfl ?_
  refine RQ.ialdN (j := f) rfl hT1.1 (by omega) (by decide) ?_
  refine RQ.blk 1 (pc' := 53) (lv' := [(0, .ref 196), (1, .int (nI f)), (2, .int (nI n))]) (st' := [.int 1, .int (nI (kd f))]) (H' := _) (kc' := 0) (ks' := 0) rfl ?_
  rw [hkd]
  refine RQ.brT rfl rfl rfl (cT_eq 1 1) ?_
  refine RQ.blk 1 (pc' := 63) (lv' := [(0, .ref 196), (1, .int (nI f)), (2, .int (nI n))]) (st' := [.ref 196]) (H' := _) (kc' := 0) (ks' := 0) rfl ?_
  refine RQ.get (ci := 12) rfl hm1 rfl rfl ?_
  refine RQ.blk 1 (pc' := 67) (lv' := [(0, .ref 196), (1, .int (nI f)), (2, .int (nI n))]) (st' := [.int (nI f), .ref 218]) (H' := _) (kc' := 0) (ks' := 0) rfl ?_
  refine RQ.ialdN (j := f) rfl hT1.2.2.2.2 (by omega) (by decide) ?_
  refine RQ.blk 3 (pc' := 71) (lv' := [(3, .int (nI (sz f))), (0, .ref 196), (1, .int (nI f)), (2, .int (nI n))]) (st' := [.int (nI n), .int (nI (sz f))]) (H' := _) (kc' := 0) (ks' := 0) rfl ?_
  refine RQ.brT rfl rfl rfl (cT_ne (sz f) n) ?_
  refine RQ.blk 2 (pc' := 78) (lv' := [(3, .int (nI (sz f))), (0, .ref 196), (1, .int (nI f)), (2, .int (nI n))]) (st' := [.int 2, .ref 196]) (H' := _) (kc' := 0) (ks' := 0) rfl ?_
  refine RQ.call (v := some (.int 0)) (st' := []) rfl rfl rfl rfl rfl rfl (args_v [.int 2] [] rfl rfl (Nat.le_of_ble_eq_true rfl) rfl hm1 (Nat.le_of_ble_eq_true rfl)) (rc_mlost0 hm1) ?_
  refine RQ.brT rfl rfl rfl (by decide) ?_
  refine RQ.blk 2 (pc' := 92) (lv' := [(3, .int (nI (sz f))), (0, .ref 196), (1, .int (nI f)), (2, .int (nI n))]) (st' := [.int (nI (sz f)), .int (nI n)]) (H' := _) (kc' := 0) (ks' := 0) rfl ?_
  by_cases ks : n < sz f
  · refine RQ.brF rfl rfl rfl (cF_ge n (sz f)) ?_
    refine RQ.blk 3 (pc' := 98) (lv' := [(3, .int (nI (sz f))), (0, .ref 196), (1, .int (nI f)), (2, .int (nI n))]) (st' := [.int (nI n), .int (nI f), .ref 196]) (H' := _) (kc' := 0) (ks' := 0) rfl ?_
    refine RQ.callN (st' := []) rfl rfl rfl rfl rfl rfl (args_v [.int (nI n), .int (nI f)] [] rfl rfl (Nat.le_of_ble_eq_true rfl) rfl hm1 (Nat.le_of_ble_eq_true rfl)) (rn_cutOff (d := d + 2) hm1 hP1 k6 k7 k8 hf hn) (fun H3 hx3 => ?_)
    obtain ⟨cur, hm3, hP3, hpm, -, -, f3⟩ := hx3
    rw [← if_pos (t := ps.filterMap (cutE f n)) (e := ps) ks] at hpm
    have hZ3 := (f3 217 (by omega)).trans hT1.2.2.2.2
    refine RQ.blk 1 (pc' := 102) (lv' := [(3, .int (nI (sz f))), (0, .ref 196), (1, .int (nI f)), (2, .int (nI n))]) (st' := [.ref 196]) (H' := _) (kc' := 0) (ks' := 0) rfl ?_
    refine RQ.get (ci := 12) rfl hm3 rfl rfl ?_
    refine RQ.blk 2 (pc' := 107) (lv' := [(3, .int (nI (sz f))), (0, .ref 196), (1, .int (nI f)), (2, .int (nI n))]) (st' := [.int (nI n), .int (nI f), .ref 218]) (H' := _) (kc' := 0) (ks' := 0) rfl ?_
    refine RQ.iastN (j := f) rfl hZ3 (by omega) (by decide) ?_
    rw [up_nI]
    refine RQ.blk 3 (pc' := 111) (lv' := [(3, .int (nI (sz f))), (0, .ref 196), (1, .int (nI f)), (2, .int (nI n))]) (st' := [.int (nI (sz f)), .int 2, .ref 196]) (H' := _) (kc' := 0) (ks' := 0) rfl ?_
    have hm4 : (H3.set 217 (kI 201 (fun j => nI (va_up sz f n j))))[195]? = _ := (set_far (by decide)).trans hm3
    have f4 : ∀ a, ¬ (a = 195 ∨ (217 ≤ a ∧ a < 223)) → (H3.set 217 (kI 201 (fun j => nI (va_up sz f n j))))[a]? = H[a]? := fun a ha => (set_far (by omega)).trans ((f3 a (by omega)).trans (f1 a (by omega)))
    have hZ4 : (H3.set 217 (kI 201 (fun j => nI (va_up sz f n j))))[217]? = some (kI 201 (fun j => nI (va_up sz f n j))) := get_set hZ3
    have hP4 := hP3.far (H' := (H3.set 217 (kI 201 (fun j => nI (va_up sz f n j))))) (fun a a1 a2 => set_far (by omega))
    have hT4 : MTreeAt (H3.set 217 (kI 201 (fun j => nI (va_up sz f n j)))) kd pa (va_up sz f n) nl nm := ⟨(f4 213 (by omega)).trans hT.1, (f4 214 (by omega)).trans hT.2.1, (f4 215 (by omega)).trans hT.2.2.1, (f4 216 (by omega)).trans hT.2.2.2.1, hZ4⟩
    generalize (H3.set 217 (kI 201 (fun j => nI (va_up sz f n j)))) = H4 at hm4 f4 hZ4 hP4 hT4 ⊢
    refine RQ.call (v := some (.int (nI (sz f)))) (st' := []) rfl rfl rfl rfl rfl rfl (args_v [.int (nI (sz f)), .int 2] [] rfl rfl (Nat.le_of_ble_eq_true rfl) rfl hm4 (Nat.le_of_ble_eq_true rfl)) (rc_mchanged0 (x := 2) hm4) ?_
    exact RQ.done (c := 0) (s := 0) rfl rfl rfl rfl ⟨_, _, rfl, rfl, cur, hpm, ⟨us, ba, bo, get_set hm4, hV.far (fun a a1 a2 => (set_far (by omega)).trans (f4 a (by omega))) ((set_far (by decide)).trans (f4 223 (by omega))), (set_far (by decide)).trans ((f4 205 (by omega)).trans h5), (set_far (by decide)).trans ((f4 206 (by omega)).trans h6), hR.far (fun a a1 => (set_far (by omega)).trans (f4 a (by omega))), hT4.far (fun a a1 a2 => set_far (by omega)), hP4.far (fun a a1 a2 => set_far (by omega)), (set_far (by decide)).trans ((f4 196 (by omega)).trans h196), (set_far (by decide)).trans ((f4 197 (by omega)).trans h197)⟩, fun a ha => (set_far (by omega)).trans (f4 a (by omega))⟩
  · refine RQ.brT rfl rfl rfl (cT_ge n (sz f)) ?_
    refine RQ.blk 1 (pc' := 102) (lv' := [(3, .int (nI (sz f))), (0, .ref 196), (1, .int (nI f)), (2, .int (nI n))]) (st' := [.ref 196]) (H' := _) (kc' := 0) (ks' := 0) rfl ?_
    refine RQ.get (ci := 12) rfl hm1 rfl rfl ?_
    refine RQ.blk 2 (pc' := 107) (lv' := [(3, .int (nI (sz f))), (0, .ref 196), (1, .int (nI f)), (2, .int (nI n))]) (st' := [.int (nI n), .int (nI f), .ref 218]) (H' := _) (kc' := 0) (ks' := 0) rfl ?_
    have hpm : ps.Perm (if n < sz f then ps.filterMap (cutE f n) else ps) := by rw [if_neg ks]
    obtain ⟨H3, eH⟩ : ∃ H3, H3 = H1 := ⟨_, rfl⟩
    rw [← eH]
    rw [← eH] at hm1 f1 hT1 hP1
    have hm3 := hm1
    have hP3 := hP1
    have f3 : ∀ a, ¬ (a = 195 ∨ (218 ≤ a ∧ a < 223)) → H3[a]? = H3[a]? := fun a _ => rfl
    have hZ3 := hT1.2.2.2.2
    refine RQ.iastN (j := f) rfl hZ3 (by omega) (by decide) ?_
    rw [up_nI]
    refine RQ.blk 3 (pc' := 111) (lv' := [(3, .int (nI (sz f))), (0, .ref 196), (1, .int (nI f)), (2, .int (nI n))]) (st' := [.int (nI (sz f)), .int 2, .ref 196]) (H' := _) (kc' := 0) (ks' := 0) rfl ?_
    have hm4 : (H3.set 217 (kI 201 (fun j => nI (va_up sz f n j))))[195]? = _ := (set_far (by decide)).trans hm3
    have f4 : ∀ a, ¬ (a = 195 ∨ (217 ≤ a ∧ a < 223)) → (H3.set 217 (kI 201 (fun j => nI (va_up sz f n j))))[a]? = H[a]? := fun a ha => (set_far (by omega)).trans ((f3 a (by omega)).trans (f1 a (by omega)))
    have hZ4 : (H3.set 217 (kI 201 (fun j => nI (va_up sz f n j))))[217]? = some (kI 201 (fun j => nI (va_up sz f n j))) := get_set hZ3
    have hP4 := hP3.far (H' := (H3.set 217 (kI 201 (fun j => nI (va_up sz f n j))))) (fun a a1 a2 => set_far (by omega))
    have hT4 : MTreeAt (H3.set 217 (kI 201 (fun j => nI (va_up sz f n j)))) kd pa (va_up sz f n) nl nm := ⟨(f4 213 (by omega)).trans hT.1, (f4 214 (by omega)).trans hT.2.1, (f4 215 (by omega)).trans hT.2.2.1, (f4 216 (by omega)).trans hT.2.2.2.1, hZ4⟩
    generalize (H3.set 217 (kI 201 (fun j => nI (va_up sz f n j)))) = H4 at hm4 f4 hZ4 hP4 hT4 ⊢
    refine RQ.call (v := some (.int (nI (sz f)))) (st' := []) rfl rfl rfl rfl rfl rfl (args_v [.int (nI (sz f)), .int 2] [] rfl rfl (Nat.le_of_ble_eq_true rfl) rfl hm4 (Nat.le_of_ble_eq_true rfl)) (rc_mchanged0 (x := 2) hm4) ?_
    exact RQ.done (c := 0) (s := 0) rfl rfl rfl rfl ⟨_, _, rfl, rfl, ps, hpm, ⟨us, ba, bo, get_set hm4, hV.far (fun a a1 a2 => (set_far (by omega)).trans (f4 a (by omega))) ((set_far (by decide)).trans (f4 223 (by omega))), (set_far (by decide)).trans ((f4 205 (by omega)).trans h5), (set_far (by decide)).trans ((f4 206 (by omega)).trans h6), hR.far (fun a a1 => (set_far (by omega)).trans (f4 a (by omega))), hT4.far (fun a a1 a2 => set_far (by omega)), hP4.far (fun a a1 a2 => set_far (by omega)), (set_far (by decide)).trans ((f4 196 (by omega)).trans h196), (set_far (by decide)).trans ((f4 197 (by omega)).trans h197)⟩, fun a ha => (set_far (by omega)).trans (f4 a (by omega))⟩
set_option maxRecDepth 20000 in
theorem ri_mresize_late {sc : Nat × (Nat → Int32)} {d l : Nat} {H : aH} {fa rs : Int32} {li : Nat} {tb : Nat → Int8} {g0 : Nat → Int8} {p : Nat} {ms : List aMV} {op : Nat → Bool} {se : Nat → Nat} {wss : Nat → List aE} {kd pa sz nl : Nat → Nat} {nm : Nat → Int8} {ps : List aPc} {f n : Nat} (h : RefI H fa li 0 1 1 tb l rs g0 p ms op se wss kd pa sz nl nm ps) (hk : RefOk l p ms se kd pa sz nl ps) (hf : f ≤ 200) (hn : n ≤ 16384) (hkd : kd f = 1) (hsz : ¬ sz f = n) : RI sc (d + 5) mr_328 [.ref 196, .int (nI f), .int (nI n)] H (fun x H' => x = 0 ∧ ∃ cur : List aPc, cur.Perm (if n < sz f then ps.filterMap (cutE f n) else ps) ∧ RefI H' 2 li 1 0 1 tb 0 0 g0 (p + 1) (ms.filter (keepM (fun j => if j < 8 then false else op j) se (p + 1) (kmM ms))) (fun j => if j < 8 then false else op j) se wss kd pa (va_up sz f n) nl nm cur ∧ ∀ a, ¬ (195 ≤ a ∧ a < 224) → H'[a]? = H[a]?) := by
  obtain ⟨us, ba, bo, hm, hV, h5, h6, hR, hT, hP, h196, h197⟩ := h
  obtain ⟨k1, k2, k3, k4, k5, k6, k7, k8⟩ := hk
  refine RI.of ?_
  refine RQ.blk 2 (pc' := 2) (lv' := [(0, .ref 196), (1, .int (nI f)), (2, .int (nI n))]) (st' := [.int 0, .ref 196]) (H' := _) (kc' := 0) (ks' := 0) rfl ?_
  refine RQ.put (ci := 12) rfl hm rfl rfl (Nat.le_of_ble_eq_true rfl) ?_
  have hm1 : (H.set 195 (kO 12 (mfs 0 (nI li) 0 1 1 (nI l) rs (nI p) (nI ms.length) (nI us) (nI ps.length) (nI (plen ps)) ba bo)))[195]? = some (kO 12 (mfs 0 (nI li) 0 1 1 (nI l) rs (nI p) (nI ms.length) (nI us) (nI ps.length) (nI (plen ps)) ba bo)) := get_set hm
  have f1 : ∀ a, a ≠ 195 → (H.set 195 (kO 12 (mfs 0 (nI li) 0 1 1 (nI l) rs (nI p) (nI ms.length) (nI us) (nI ps.length) (nI (plen ps)) ba bo)))[a]? = H[a]? := fun a ha => set_far ha
  show RQ _ _ _ 5 [(0, .ref 196), (1, .int (nI f)), (2, .int (nI n))] [] (H.set 195 (kO 12 (mfs 0 (nI li) 0 1 1 (nI l) rs (nI p) (nI ms.length) (nI us) (nI ps.length) (nI (plen ps)) ba bo))) 0 0 _
  generalize (H.set 195 (kO 12 (mfs 0 (nI li) 0 1 1 (nI l) rs (nI p) (nI ms.length) (nI us) (nI ps.length) (nI (plen ps)) ba bo))) = H1 at hm1 f1 ⊢
  have hV1 := hV.far (fun a a1 a2 => f1 a (by omega)) (f1 223 (by decide))
  have h51 := (f1 205 (by decide)).trans h5
  have h61 := (f1 206 (by decide)).trans h6
  have hR1 := hR.far (fun a a1 => f1 a (by omega))
  have hT1 := hT.far (fun a a1 a2 => f1 a (by omega))
  have hP1 := hP.far (fun a a1 a2 => f1 a (by omega))
  have h1961 := (f1 196 (by decide)).trans h196
  have h1971 := (f1 197 (by decide)).trans h197
  have hkf := k5 f hf
  refine RQ.blk 3 (pc' := 10) (lv' := [(0, .ref 196), (1, .int (nI f)), (2, .int (nI n))]) (st' := [.int 201, .int (nI f), .ref 196]) (H' := _) (kc' := 0) (ks' := 0) rfl ?_
  refine RQ.call (v := some (.int 0)) (st' := []) rfl rfl rfl rfl rfl rfl (args_v [.int 201, .int (nI f)] [] rfl rfl (Nat.le_of_ble_eq_true rfl) rfl hm1 (Nat.le_of_ble_eq_true rfl)) (rc_out (v := f) (m := 201) (by omega) (by decide)) ?_
  refine RQ.brF rfl rfl rfl (by decide) ?_
  refine RQ.blk 3 (pc' := 21) (lv' := [(0, .ref 196), (1, .int (nI f)), (2, .int (nI n))]) (st' := [.int 16385, .int (nI n), .ref 196]) (H' := _) (kc' := 0) (ks' := 0) rfl ?_
  refine RQ.call (v := some (.int 0)) (st' := []) rfl rfl rfl rfl rfl rfl (args_v [.int 16385, .int (nI n)] [] rfl rfl (Nat.le_of_ble_eq_true rfl) rfl hm1 (Nat.le_of_ble_eq_true rfl)) (rc_out (v := n) (m := 16385) (by omega) (by decide)) ?_
  refine RQ.brT rfl rfl rfl (by decide) ?_
  refine RQ.blk 1 (pc' := 34) (lv' := [(0, .ref 196), (1, .int (nI f)), (2, .int (nI n))]) (st' := [.ref 196]) (H' := _) (kc' := 0) (ks' := 0) rfl ?_
  refine RQ.get (ci := 12) rfl hm1 rfl rfl ?_
  refine RQ.brT rfl rfl rfl (by decide) ?_
  refine RQ.blk 1 (pc' := 47) (lv' := [(0, .ref 196), (1, .int (nI f)), (2, .int (nI n))]) (st' := [.ref 196]) (H' := _) (kc' := 0) (ks' := 0) rfl ?_
  refine RQ.get (ci := 12) rfl hm1 rfl rfl ?_
  refine RQ.blk 1 (pc' := 51) (lv' := [(0, .ref 196), (1, .int (nI f)), (2, .int (nI n))]) (st' := [.int (nI f), .ref 214]) (H' := _) (kc' := 0) (ks' := 0) rfl ?_
  refine RQ.ialdN (j := f) rfl hT1.1 (by omega) (by decide) ?_
  refine RQ.blk 1 (pc' := 53) (lv' := [(0, .ref 196), (1, .int (nI f)), (2, .int (nI n))]) (st' := [.int 1, .int (nI (kd f))]) (H' := _) (kc' := 0) (ks' := 0) rfl ?_
  rw [hkd]
  refine RQ.brT rfl rfl rfl (cT_eq 1 1) ?_
  refine RQ.blk 1 (pc' := 63) (lv' := [(0, .ref 196), (1, .int (nI f)), (2, .int (nI n))]) (st' := [.ref 196]) (H' := _) (kc' := 0) (ks' := 0) rfl ?_
  refine RQ.get (ci := 12) rfl hm1 rfl rfl ?_
  refine RQ.blk 1 (pc' := 67) (lv' := [(0, .ref 196), (1, .int (nI f)), (2, .int (nI n))]) (st' := [.int (nI f), .ref 218]) (H' := _) (kc' := 0) (ks' := 0) rfl ?_
  refine RQ.ialdN (j := f) rfl hT1.2.2.2.2 (by omega) (by decide) ?_
  refine RQ.blk 3 (pc' := 71) (lv' := [(3, .int (nI (sz f))), (0, .ref 196), (1, .int (nI f)), (2, .int (nI n))]) (st' := [.int (nI n), .int (nI (sz f))]) (H' := _) (kc' := 0) (ks' := 0) rfl ?_
  refine RQ.brT rfl rfl rfl (cT_ne (sz f) n) ?_
  refine RQ.blk 2 (pc' := 78) (lv' := [(3, .int (nI (sz f))), (0, .ref 196), (1, .int (nI f)), (2, .int (nI n))]) (st' := [.int 2, .ref 196]) (H' := _) (kc' := 0) (ks' := 0) rfl ?_
  refine RQ.call (v := some (.int 0)) (st' := []) rfl rfl rfl rfl rfl rfl (args_v [.int 2] [] rfl rfl (Nat.le_of_ble_eq_true rfl) rfl hm1 (Nat.le_of_ble_eq_true rfl)) (rc_mlostL hm1) ?_
  refine RQ.brT rfl rfl rfl (by decide) ?_
  refine RQ.blk 2 (pc' := 92) (lv' := [(3, .int (nI (sz f))), (0, .ref 196), (1, .int (nI f)), (2, .int (nI n))]) (st' := [.int (nI (sz f)), .int (nI n)]) (H' := _) (kc' := 0) (ks' := 0) rfl ?_
  by_cases ks : n < sz f
  · refine RQ.brF rfl rfl rfl (cF_ge n (sz f)) ?_
    refine RQ.blk 3 (pc' := 98) (lv' := [(3, .int (nI (sz f))), (0, .ref 196), (1, .int (nI f)), (2, .int (nI n))]) (st' := [.int (nI n), .int (nI f), .ref 196]) (H' := _) (kc' := 0) (ks' := 0) rfl ?_
    refine RQ.callN (st' := []) rfl rfl rfl rfl rfl rfl (args_v [.int (nI n), .int (nI f)] [] rfl rfl (Nat.le_of_ble_eq_true rfl) rfl hm1 (Nat.le_of_ble_eq_true rfl)) (rn_cutOff (d := d + 2) hm1 hP1 k6 k7 k8 hf hn) (fun H3 hx3 => ?_)
    obtain ⟨cur, hm3, hP3, hpm, -, -, f3⟩ := hx3
    rw [← if_pos (t := ps.filterMap (cutE f n)) (e := ps) ks] at hpm
    have hZ3 := (f3 217 (by omega)).trans hT1.2.2.2.2
    refine RQ.blk 1 (pc' := 102) (lv' := [(3, .int (nI (sz f))), (0, .ref 196), (1, .int (nI f)), (2, .int (nI n))]) (st' := [.ref 196]) (H' := _) (kc' := 0) (ks' := 0) rfl ?_
    refine RQ.get (ci := 12) rfl hm3 rfl rfl ?_
    refine RQ.blk 2 (pc' := 107) (lv' := [(3, .int (nI (sz f))), (0, .ref 196), (1, .int (nI f)), (2, .int (nI n))]) (st' := [.int (nI n), .int (nI f), .ref 218]) (H' := _) (kc' := 0) (ks' := 0) rfl ?_
    refine RQ.iastN (j := f) rfl hZ3 (by omega) (by decide) ?_
    rw [up_nI]
    refine RQ.blk 3 (pc' := 111) (lv' := [(3, .int (nI (sz f))), (0, .ref 196), (1, .int (nI f)), (2, .int (nI n))]) (st' := [.int (nI (sz f)), .int 2, .ref 196]) (H' := _) (kc' := 0) (ks' := 0) rfl ?_
    have hm4 : (H3.set 217 (kI 201 (fun j => nI (va_up sz f n j))))[195]? = _ := (set_far (by decide)).trans hm3
    have f4 : ∀ a, ¬ (a = 195 ∨ (217 ≤ a ∧ a < 223)) → (H3.set 217 (kI 201 (fun j => nI (va_up sz f n j))))[a]? = H[a]? := fun a ha => (set_far (by omega)).trans ((f3 a (by omega)).trans (f1 a (by omega)))
    have hZ4 : (H3.set 217 (kI 201 (fun j => nI (va_up sz f n j))))[217]? = some (kI 201 (fun j => nI (va_up sz f n j))) := get_set hZ3
    have hP4 := hP3.far (H' := (H3.set 217 (kI 201 (fun j => nI (va_up sz f n j))))) (fun a a1 a2 => set_far (by omega))
    have hT4 : MTreeAt (H3.set 217 (kI 201 (fun j => nI (va_up sz f n j)))) kd pa (va_up sz f n) nl nm := ⟨(f4 213 (by omega)).trans hT.1, (f4 214 (by omega)).trans hT.2.1, (f4 215 (by omega)).trans hT.2.2.1, (f4 216 (by omega)).trans hT.2.2.2.1, hZ4⟩
    generalize (H3.set 217 (kI 201 (fun j => nI (va_up sz f n j)))) = H4 at hm4 f4 hZ4 hP4 hT4 ⊢
    refine RQ.callI (st' := []) rfl rfl rfl rfl rfl rfl (args_v [.int (nI (sz f)), .int 2] [] rfl rfl (Nat.le_of_ble_eq_true rfl) rfl hm4 (Nat.le_of_ble_eq_true rfl)) (ri_mchanged1 (x := 2) (y := nI (sz f)) hm4 (hV.far (fun a a1 a2 => f4 a (by omega)) (f4 223 (by omega))) k3 ((f4 205 (by omega)).trans h5) ((f4 206 (by omega)).trans h6) k4 k2) (fun z H5 hz => ?_)
    obtain ⟨ez, us', hm5, hV5, h55, f5⟩ := hz
    have g5 : ∀ a, ¬ (195 ≤ a ∧ a ≤ 205 ∧ a ≠ 196 ∧ a ≠ 197 ∨ a = 223) → H5[a]? = H4[a]? := fun a ha => f5 a (by omega) (by omega)
    exact RQ.done (c := 0) (s := 0) rfl rfl rfl rfl ⟨_, _, rfl, ez, cur, hpm, ⟨us', bo, ba, hm5, hV5, h55, (g5 206 (by omega)).trans ((f4 206 (by omega)).trans h6), hR.far (fun a a1 => (g5 a (by omega)).trans (f4 a (by omega))), hT4.far (fun a a1 a2 => g5 a (by omega)), hP4.far (fun a a1 a2 => g5 a (by omega)), (g5 196 (by omega)).trans ((f4 196 (by omega)).trans h196), (g5 197 (by omega)).trans ((f4 197 (by omega)).trans h197)⟩, fun a ha => (g5 a (by omega)).trans (f4 a (by omega))⟩
  · refine RQ.brT rfl rfl rfl (cT_ge n (sz f)) ?_
    refine RQ.blk 1 (pc' := 102) (lv' := [(3, .int (nI (sz f))), (0, .ref 196), (1, .int (nI f)), (2, .int (nI n))]) (st' := [.ref 196]) (H' := _) (kc' := 0) (ks' := 0) rfl ?_
    refine RQ.get (ci := 12) rfl hm1 rfl rfl ?_
    refine RQ.blk 2 (pc' := 107) (lv' := [(3, .int (nI (sz f))), (0, .ref 196), (1, .int (nI f)), (2, .int (nI n))]) (st' := [.int (nI n), .int (nI f), .ref 218]) (H' := _) (kc' := 0) (ks' := 0) rfl ?_
    have hpm : ps.Perm (if n < sz f then ps.filterMap (cutE f n) else ps) := by rw [if_neg ks]
    obtain ⟨H3, eH⟩ : ∃ H3, H3 = H1 := ⟨_, rfl⟩
    rw [← eH]
    rw [← eH] at hm1 f1 hT1 hP1
    have hm3 := hm1
    have hP3 := hP1
    have f3 : ∀ a, ¬ (a = 195 ∨ (218 ≤ a ∧ a < 223)) → H3[a]? = H3[a]? := fun a _ => rfl
    have hZ3 := hT1.2.2.2.2
    refine RQ.iastN (j := f) rfl hZ3 (by omega) (by decide) ?_
    rw [up_nI]
    refine RQ.blk 3 (pc' := 111) (lv' := [(3, .int (nI (sz f))), (0, .ref 196), (1, .int (nI f)), (2, .int (nI n))]) (st' := [.int (nI (sz f)), .int 2, .ref 196]) (H' := _) (kc' := 0) (ks' := 0) rfl ?_
    have hm4 : (H3.set 217 (kI 201 (fun j => nI (va_up sz f n j))))[195]? = _ := (set_far (by decide)).trans hm3
    have f4 : ∀ a, ¬ (a = 195 ∨ (217 ≤ a ∧ a < 223)) → (H3.set 217 (kI 201 (fun j => nI (va_up sz f n j))))[a]? = H[a]? := fun a ha => (set_far (by omega)).trans ((f3 a (by omega)).trans (f1 a (by omega)))
    have hZ4 : (H3.set 217 (kI 201 (fun j => nI (va_up sz f n j))))[217]? = some (kI 201 (fun j => nI (va_up sz f n j))) := get_set hZ3
    have hP4 := hP3.far (H' := (H3.set 217 (kI 201 (fun j => nI (va_up sz f n j))))) (fun a a1 a2 => set_far (by omega))
    have hT4 : MTreeAt (H3.set 217 (kI 201 (fun j => nI (va_up sz f n j)))) kd pa (va_up sz f n) nl nm := ⟨(f4 213 (by omega)).trans hT.1, (f4 214 (by omega)).trans hT.2.1, (f4 215 (by omega)).trans hT.2.2.1, (f4 216 (by omega)).trans hT.2.2.2.1, hZ4⟩
    generalize (H3.set 217 (kI 201 (fun j => nI (va_up sz f n j)))) = H4 at hm4 f4 hZ4 hP4 hT4 ⊢
    refine RQ.callI (st' := []) rfl rfl rfl rfl rfl rfl (args_v [.int (nI (sz f)), .int 2] [] rfl rfl (Nat.le_of_ble_eq_true rfl) rfl hm4 (Nat.le_of_ble_eq_true rfl)) (ri_mchanged1 (x := 2) (y := nI (sz f)) hm4 (hV.far (fun a a1 a2 => f4 a (by omega)) (f4 223 (by omega))) k3 ((f4 205 (by omega)).trans h5) ((f4 206 (by omega)).trans h6) k4 k2) (fun z H5 hz => ?_)
    obtain ⟨ez, us', hm5, hV5, h55, f5⟩ := hz
    have g5 : ∀ a, ¬ (195 ≤ a ∧ a ≤ 205 ∧ a ≠ 196 ∧ a ≠ 197 ∨ a = 223) → H5[a]? = H4[a]? := fun a ha => f5 a (by omega) (by omega)
    exact RQ.done (c := 0) (s := 0) rfl rfl rfl rfl ⟨_, _, rfl, ez, ps, hpm, ⟨us', bo, ba, hm5, hV5, h55, (g5 206 (by omega)).trans ((f4 206 (by omega)).trans h6), hR.far (fun a a1 => (g5 a (by omega)).trans (f4 a (by omega))), hT4.far (fun a a1 a2 => g5 a (by omega)), hP4.far (fun a a1 a2 => g5 a (by omega)), (g5 196 (by omega)).trans ((f4 196 (by omega)).trans h196), (g5 197 (by omega)).trans ((f4 197 (by omega)).trans h197)⟩, fun a ha => (g5 a (by omega)).trans (f4 a (by omega))⟩
