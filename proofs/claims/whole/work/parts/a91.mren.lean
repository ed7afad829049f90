/-! ===== rename of the reference, every end but the first; written by wip/gen/refi6.py ===== -/
def wtL (t : Nat) (ps : List aPc) : Nat := 62 + (ps.map (fun x => if x.1 = t then 27 + x.2.2.length else 0)).sum
theorem wtF_list {pf pz : Nat → Nat} {t : Nat} {ps : List aPc} (h : ∀ j x, ps[j]? = some x → pf j = x.1 ∧ pz j = x.2.2.length) : ∀ n, n ≤ ps.length → wtF pf pz t n = wtL t (ps.take n)
  | 0, _ => rfl
  | n + 1, hn => by
    obtain ⟨x, hx⟩ := lt_get (show n < ps.length by omega)
    obtain ⟨e1, e2⟩ := h n x hx
    have e3 : wtL t (ps.take (n + 1)) = wtL t (ps.take n) + (if x.1 = t then 27 + x.2.2.length else 0) := by
      rw [List.take_add_one, hx]
      unfold wtL
      rw [List.map_append, List.sum_append]
      show 62 + (_ + ((if x.1 = t then 27 + x.2.2.length else 0) + 0)) = _
      omega
    rw [wtF, wtF_list h n (by omega), e3, e1, e2]
theorem rc_mweightL {sc : Nat × (Nat → Int32)} {d f : Nat} {H : aH} {fa li dn cw cl tp rs pr ve us : Int32} {ba bo : Nat} {ps : List aPc} (hm : H[195]? = some (kO 12 (mfs fa li dn cw cl tp rs pr ve us (nI ps.length) (nI (plen ps)) ba bo))) (h : PcsIs H ps) (hpi : ps.length ≤ 1300) (hok : ∀ x ∈ ps, PcOk x) (hf : f ≤ 200) : RC sc d mr_320 [.ref 196, .int (nI f)] H (.inl (some (.int (nI (wtL f ps))))) H 0 0 := by
  obtain ⟨pf, px, pz, pa, hd, hA, hE, hD⟩ := h
  have e := rc_mweightOf (sc := sc) (d := d) (f := f) hm hA.1 hA.2.2.1 (by decide) hpi (by omega) (fun j hj => by
    obtain ⟨y, hy⟩ := lt_get hj
    have e1 := (hE j y hy).1
    have o1 := (hok y (List.mem_of_getElem? hy)).1
    omega)
  rw [wtF_list (fun j x hx => ⟨(hE j x hx).1, (hE j x hx).2.2.1⟩) ps.length (Nat.le_refl _), List.take_of_length_le (Nat.le_refl _)] at e
  exact e
theorem i32_mix (x y z w r : Int32) (h : x + y = r + z + w) : x + (y - z - w) = r := by grind
theorem nI_mix {a b c d : Nat} (h : c + d ≤ a + b) : nI a + (nI b - nI c - nI d) = nI (a + b - (c + d)) := i32_mix _ _ _ _ _ (by rw [nI_add, nI_add, nI_add, show a + b - (c + d) + c + d = a + b by omega])
theorem nI_mix0 {a b c : Nat} (h : c ≤ a + b) : nI a + (nI b - nI c - 0) = nI (a + b - c) := nI_mix (d := 0) (by omega)
set_option maxRecDepth 20000 in
theorem ri_mrename_down {sc : Nat × (Nat → Int32)} {d l : Nat} {H : aH} {fa cw cl rs : Int32} {li : Nat} {tb : Nat → Int8} {g0 : Nat → Int8} {p : Nat} {ms : List aMV} {op : Nat → Bool} {se : Nat → Nat} {wss : Nat → List aE} {kd pa sz nl : Nat → Nat} {nm : Nat → Int8} {ps : List aPc} {a b k : Nat} (h : RefI H fa li 1 cw cl tb l rs g0 p ms op se wss kd pa sz nl nm ps) (hk : RefOk l p ms se kd pa sz nl ps) (ha : a ≤ 200) (hb : b ≤ 200) (hk1 : 1 ≤ k) (hk30 : k ≤ 30) (hkl : k < l) (hl30 : l - k ≤ 30) (hn1 : noSl tb 0 k) (hn2 : noSl tb k (l - k)) : RI sc (d + 5) mr_317 [.ref 196, .int (nI a), .int (nI b), .int (nI k)] H (fun x H' => x = 0 ∧ RefI H' 2 li 1 cw cl tb l rs g0 p ms op se wss kd pa sz nl nm ps ∧ ∀ a, ¬ (195 ≤ a ∧ a < 224) → H'[a]? = H[a]?) := by
  obtain ⟨us, ba, bo, hm, hV, h5, h6, hR, hT, hP, h196, h197⟩ := h
  obtain ⟨k1, k2, k3, k4, k5, k6, k7, k8⟩ := hk
  refine RI.of ?_
  refine RQ.blk 2 (pc' := 2) (lv' := [(0, .ref 196), (1, .int (nI a)), (2, .int (nI b)), (3, .int (nI k))]) (st' := [.int 0, .ref 196]) (H' := _) (kc' := 0) (ks' := 0) rfl ?_
  refine RQ.put (ci := 12) rfl hm rfl rfl (Nat.le_of_ble_eq_true rfl) ?_
  have hm1 : (H.set 195 (kO 12 (mfs 0 (nI li) 1 cw cl (nI l) rs (nI p) (nI ms.length) (nI us) (nI ps.length) (nI (plen ps)) ba bo)))[195]? = some (kO 12 (mfs 0 (nI li) 1 cw cl (nI l) rs (nI p) (nI ms.length) (nI us) (nI ps.length) (nI (plen ps)) ba bo)) := get_set hm
  have f1 : ∀ a, a ≠ 195 → (H.set 195 (kO 12 (mfs 0 (nI li) 1 cw cl (nI l) rs (nI p) (nI ms.length) (nI us) (nI ps.length) (nI (plen ps)) ba bo)))[a]? = H[a]? := fun a ha => set_far ha
  show RQ _ _ _ 5 [(0, .ref 196), (1, .int (nI a)), (2, .int (nI b)), (3, .int (nI k))] [] (H.set 195 (kO 12 (mfs 0 (nI li) 1 cw cl (nI l) rs (nI p) (nI ms.length) (nI us) (nI ps.length) (nI (plen ps)) ba bo))) 0 0 _
  generalize (H.set 195 (kO 12 (mfs 0 (nI li) 1 cw cl (nI l) rs (nI p) (nI ms.length) (nI us) (nI ps.length) (nI (plen ps)) ba bo))) = H1 at hm1 f1 ⊢
  have hV1 := hV.far (fun a a1 a2 => f1 a (by omega)) (f1 223 (by decide))
  have h51 := (f1 205 (by decide)).trans h5
  have h61 := (f1 206 (by decide)).trans h6
  have hR1 := hR.far (fun a a1 => f1 a (by omega))
  have hT1 := hT.far (fun a a1 a2 => f1 a (by omega))
  have hP1 := hP.far (fun a a1 a2 => f1 a (by omega))
  have h1961 := (f1 196 (by decide)).trans h196
  have h1971 := (f1 197 (by decide)).trans h197
  refine RQ.blk 3 (pc' := 10) (lv' := [(0, .ref 196), (1, .int (nI a)), (2, .int (nI b)), (3, .int (nI k))]) (st' := [.int 201, .int (nI a), .ref 196]) (H' := _) (kc' := 0) (ks' := 0) rfl ?_
  refine RQ.call (v := some (.int 0)) (st' := []) rfl rfl rfl rfl rfl rfl (args_v [.int 201, .int (nI a)] [] rfl rfl (Nat.le_of_ble_eq_true rfl) rfl hm1 (Nat.le_of_ble_eq_true rfl)) (rc_out (v := a) (m := 201) (by omega) (by decide)) ?_
  refine RQ.brF rfl rfl rfl (by decide) ?_
  refine RQ.blk 3 (pc' := 21) (lv' := [(0, .ref 196), (1, .int (nI a)), (2, .int (nI b)), (3, .int (nI k))]) (st' := [.int 201, .int (nI b), .ref 196]) (H' := _) (kc' := 0) (ks' := 0) rfl ?_
  refine RQ.call (v := some (.int 0)) (st' := []) rfl rfl rfl rfl rfl rfl (args_v [.int 201, .int (nI b)] [] rfl rfl (Nat.le_of_ble_eq_true rfl) rfl hm1 (Nat.le_of_ble_eq_true rfl)) (rc_out (v := b) (m := 201) (by omega) (by decide)) ?_
  refine RQ.brF rfl rfl rfl (by decide) ?_
  refine RQ.blk 5 (pc' := 32) (lv' := [(0, .ref 196), (1, .int (nI a)), (2, .int (nI b)), (3, .int (nI k))]) (st' := [.ref 196, .int (nI k), .ref 196, .int 0, .ref 196]) (H' := _) (kc' := 0) (ks' := 0) rfl ?_
  refine RQ.get (ci := 12) rfl hm1 rfl rfl ?_
  refine RQ.call (v := some (.int (nI (min k l)))) (st' := [.int 0, .ref 196]) rfl rfl rfl rfl rfl rfl (args_v [.int (nI l), .int (nI k)] [.int 0, .ref 196] rfl rfl (Nat.le_of_ble_eq_true rfl) rfl hm1 (Nat.le_of_ble_eq_true rfl)) (rc_mleast (a := k) (b := l) (by omega) (by omega)) ?_
  rw [show min k l = k by omega]
  refine RQ.call (v := some (.int 1)) (st' := []) rfl rfl rfl rfl rfl rfl (args_v [.int (nI k), .int 0] [] rfl rfl (Nat.le_of_ble_eq_true rfl) rfl hm1 (Nat.le_of_ble_eq_true rfl)) (rc_named1 (i := 0) (n := k) hm1 h1961 (by decide) (by omega) hk1 hk30 hn1) ?_
  refine RQ.brF rfl rfl rfl (by decide) ?_
  refine RQ.blk 2 (pc' := 46) (lv' := [(0, .ref 196), (1, .int (nI a)), (2, .int (nI b)), (3, .int (nI k))]) (st' := [.ref 196, .int (nI k)]) (H' := _) (kc' := 0) (ks' := 0) rfl ?_
  refine RQ.get (ci := 12) rfl hm1 rfl rfl ?_
  refine RQ.brF rfl rfl rfl (cF_gt k l) ?_
  refine RQ.blk 3 (pc' := 55) (lv' := [(0, .ref 196), (1, .int (nI a)), (2, .int (nI b)), (3, .int (nI k))]) (st' := [.ref 196, .int (nI k), .ref 196]) (H' := _) (kc' := 0) (ks' := 0) rfl ?_
  refine RQ.get (ci := 12) rfl hm1 rfl rfl ?_
  refine RQ.blk 2 (pc' := 60) (lv' := [(0, .ref 196), (1, .int (nI a)), (2, .int (nI b)), (3, .int (nI k))]) (st' := [.int (nI l - nI k), .int (nI k), .ref 196]) (H' := _) (kc' := 0) (ks' := 0) rfl ?_
  rw [show (nI l - nI k : Int32) = nI (l - k) from pk_sub (a := l) (b := k) (by omega)]
  refine RQ.call (v := some (.int 1)) (st' := []) rfl rfl rfl rfl rfl rfl (args_v [.int (nI (l - k)), .int (nI k)] [] rfl rfl (Nat.le_of_ble_eq_true rfl) rfl hm1 (Nat.le_of_ble_eq_true rfl)) (rc_named1 (i := k) (n := l - k) hm1 h1961 (by decide) (by omega) (by omega) hl30 hn2) ?_
  refine RQ.brT rfl rfl rfl (by decide) ?_
  refine RQ.blk 1 (pc' := 73) (lv' := [(0, .ref 196), (1, .int (nI a)), (2, .int (nI b)), (3, .int (nI k))]) (st' := [.ref 196]) (H' := _) (kc' := 0) (ks' := 0) rfl ?_
  refine RQ.get (ci := 12) rfl hm1 rfl rfl ?_
  refine RQ.brF rfl rfl rfl (by decide) ?_
  refine RQ.blk 2 (pc' := 81) (lv' := [(0, .ref 196), (1, .int (nI a)), (2, .int (nI b)), (3, .int (nI k))]) (st' := [.int 2, .ref 196]) (H' := _) (kc' := 0) (ks' := 0) rfl ?_
  refine RQ.call (v := some (.int 0)) (st' := []) rfl rfl rfl rfl rfl rfl (args_v [.int 2] [] rfl rfl (Nat.le_of_ble_eq_true rfl) rfl hm1 (Nat.le_of_ble_eq_true rfl)) (rc_mfail hm1 rfl) ?_
  exact RQ.done (c := 0) (s := 0) rfl rfl rfl rfl ⟨_, _, rfl, rfl, ⟨us, ba, bo, get_set hm1, hV1.far (fun a a1 a2 => set_far (by omega)) (set_far (by decide)), (set_far (by decide)).trans h51, (set_far (by decide)).trans h61, hR1.far (fun a a1 => set_far (by omega)), hT1.far (fun a a1 a2 => set_far (by omega)), hP1.far (fun a a1 a2 => set_far (by omega)), (set_far (by decide)).trans h1961, (set_far (by decide)).trans h1971⟩, fun a ha => (set_far (by omega)).trans (f1 a (by omega))⟩
set_option maxRecDepth 20000 in
theorem ri_mrename_no1 {sc : Nat × (Nat → Int32)} {d l : Nat} {H : aH} {fa cw cl rs : Int32} {li : Nat} {tb : Nat → Int8} {g0 : Nat → Int8} {p : Nat} {ms : List aMV} {op : Nat → Bool} {se : Nat → Nat} {wss : Nat → List aE} {kd pa sz nl : Nat → Nat} {nm : Nat → Int8} {ps : List aPc} {a b k : Nat} (h : RefI H fa li 0 cw cl tb l rs g0 p ms op se wss kd pa sz nl nm ps) (hk : RefOk l p ms se kd pa sz nl ps) (ha : a ≤ 200) (hb : b ≤ 200) (hk1 : 1 ≤ k) (hk30 : k ≤ 30) (hkl : k < l) (hl30 : l - k ≤ 30) (hn1 : noSl tb 0 k) (hn2 : noSl tb k (l - k)) (hkd : ¬ kd a = 2) : RI sc (d + 5) mr_317 [.ref 196, .int (nI a), .int (nI b), .int (nI k)] H (fun x H' => x = 0 ∧ RefI H' 3 li 0 cw cl tb 0 rs g0 p ms op se wss kd pa sz nl nm ps ∧ ∀ a, ¬ (195 ≤ a ∧ a < 224) → H'[a]? = H[a]?) := by
  obtain ⟨us, ba, bo, hm, hV, h5, h6, hR, hT, hP, h196, h197⟩ := h
  obtain ⟨k1, k2, k3, k4, k5, k6, k7, k8⟩ := hk
  refine RI.of ?_
  refine RQ.blk 2 (pc' := 2) (lv' := [(0, .ref 196), (1, .int (nI a)), (2, .int (nI b)), (3, .int (nI k))]) (st' := [.int 0, .ref 196]) (H' := _) (kc' := 0) (ks' := 0) rfl ?_
  refine RQ.put (ci := 12) rfl hm rfl rfl (Nat.le_of_ble_eq_true rfl) ?_
  have hm1 : (H.set 195 (kO 12 (mfs 0 (nI li) 0 cw cl (nI l) rs (nI p) (nI ms.length) (nI us) (nI ps.length) (nI (plen ps)) ba bo)))[195]? = some (kO 12 (mfs 0 (nI li) 0 cw cl (nI l) rs (nI p) (nI ms.length) (nI us) (nI ps.length) (nI (plen ps)) ba bo)) := get_set hm
  have f1 : ∀ a, a ≠ 195 → (H.set 195 (kO 12 (mfs 0 (nI li) 0 cw cl (nI l) rs (nI p) (nI ms.length) (nI us) (nI ps.length) (nI (plen ps)) ba bo)))[a]? = H[a]? := fun a ha => set_far ha
  show RQ _ _ _ 5 [(0, .ref 196), (1, .int (nI a)), (2, .int (nI b)), (3, .int (nI k))] [] (H.set 195 (kO 12 (mfs 0 (nI li) 0 cw cl (nI l) rs (nI p) (nI ms.length) (nI us) (nI ps.length) (nI (plen ps)) ba bo))) 0 0 _
  generalize (H.set 195 (kO 12 (mfs 0 (nI li) 0 cw cl (nI l) rs (nI p) (nI ms.length) (nI us) (nI ps.length) (nI (plen ps)) ba bo))) = H1 at hm1 f1 ⊢
  have hV1 := hV.far (fun a a1 a2 => f1 a (by omega)) (f1 223 (by decide))
  have h51 := (f1 205 (by decide)).trans h5
  have h61 := (f1 206 (by decide)).trans h6
  have hR1 := hR.far (fun a a1 => f1 a (by omega))
  have hT1 := hT.far (fun a a1 a2 => f1 a (by omega))
  have hP1 := hP.far (fun a a1 a2 => f1 a (by omega))
  have h1961 := (f1 196 (by decide)).trans h196
  have h1971 := (f1 197 (by decide)).trans h197
  have hka := k5 a ha
  have hkb := k5 b hb
  refine RQ.blk 3 (pc' := 10) (lv' := [(0, .ref 196), (1, .int (nI a)), (2, .int (nI b)), (3, .int (nI k))]) (st' := [.int 201, .int (nI a), .ref 196]) (H' := _) (kc' := 0) (ks' := 0) rfl ?_
  refine RQ.call (v := some (.int 0)) (st' := []) rfl rfl rfl rfl rfl rfl (args_v [.int 201, .int (nI a)] [] rfl rfl (Nat.le_of_ble_eq_true rfl) rfl hm1 (Nat.le_of_ble_eq_true rfl)) (rc_out (v := a) (m := 201) (by omega) (by decide)) ?_
  refine RQ.brF rfl rfl rfl (by decide) ?_
  refine RQ.blk 3 (pc' := 21) (lv' := [(0, .ref 196), (1, .int (nI a)), (2, .int (nI b)), (3, .int (nI k))]) (st' := [.int 201, .int (nI b), .ref 196]) (H' := _) (kc' := 0) (ks' := 0) rfl ?_
  refine RQ.call (v := some (.int 0)) (st' := []) rfl rfl rfl rfl rfl rfl (args_v [.int 201, .int (nI b)] [] rfl rfl (Nat.le_of_ble_eq_true rfl) rfl hm1 (Nat.le_of_ble_eq_true rfl)) (rc_out (v := b) (m := 201) (by omega) (by decide)) ?_
  refine RQ.brF rfl rfl rfl (by decide) ?_
  refine RQ.blk 5 (pc' := 32) (lv' := [(0, .ref 196), (1, .int (nI a)), (2, .int (nI b)), (3, .int (nI k))]) (st' := [.ref 196, .int (nI k), .ref 196, .int 0, .ref 196]) (H' := _) (kc' := 0) (ks' := 0) rfl ?_
  refine RQ.get (ci := 12) rfl hm1 rfl rfl ?_
  refine RQ.call (v := some (.int (nI (min k l)))) (st' := [.int 0, .ref 196]) rfl rfl rfl rfl rfl rfl (args_v [.int (nI l), .int (nI k)] [.int 0, .ref 196] rfl rfl (Nat.le_of_ble_eq_true rfl) rfl hm1 (Nat.le_of_ble_eq_true rfl)) (rc_mleast (a := k) (b := l) (by omega) (by omega)) ?_
  rw [show min k l = k by omega]
  refine RQ.call (v := some (.int 1)) (st' := []) rfl rfl rfl rfl rfl rfl (args_v [.int (nI k), .int 0] [] rfl rfl (Nat.le_of_ble_eq_true rfl) rfl hm1 (Nat.le_of_ble_eq_true rfl)) (rc_named1 (i := 0) (n := k) hm1 h1961 (by decide) (by omega) hk1 hk30 hn1) ?_
  refine RQ.brF rfl rfl rfl (by decide) ?_
  refine RQ.blk 2 (pc' := 46) (lv' := [(0, .ref 196), (1, .int (nI a)), (2, .int (nI b)), (3, .int (nI k))]) (st' := [.ref 196, .int (nI k)]) (H' := _) (kc' := 0) (ks' := 0) rfl ?_
  refine RQ.get (ci := 12) rfl hm1 rfl rfl ?_
  refine RQ.brF rfl rfl rfl (cF_gt k l) ?_
  refine RQ.blk 3 (pc' := 55) (lv' := [(0, .ref 196), (1, .int (nI a)), (2, .int (nI b)), (3, .int (nI k))]) (st' := [.ref 196, .int (nI k), .ref 196]) (H' := _) (kc' := 0) (ks' := 0) rfl ?_
  refine RQ.get (ci := 12) rfl hm1 rfl rfl ?_
  refine RQ.blk 2 (pc' := 60) (lv' := [(0, .ref 196), (1, .int (nI a)), (2, .int (nI b)), (3, .int (nI k))]) (st' := [.int (nI l - nI k), .int (nI k), .ref 196]) (H' := _) (kc' := 0) (ks' := 0) rfl ?_
  rw [show (nI l - nI k : Int32) = nI (l - k) from pk_sub (a := l) (b := k) (by omega)]
  refine RQ.call (v := some (.int 1)) (st' := []) rfl rfl rfl rfl rfl rfl (args_v [.int (nI (l - k)), .int (nI k)] [] rfl rfl (Nat.le_of_ble_eq_true rfl) rfl hm1 (Nat.le_of_ble_eq_true rfl)) (rc_named1 (i := k) (n := l - k) hm1 h1961 (by decide) (by omega) (by omega) hl30 hn2) ?_
  refine RQ.brT rfl rfl rfl (by decide) ?_
  refine RQ.blk 1 (pc' := 73) (lv' := [(0, .ref 196), (1, .int (nI a)), (2, .int (nI b)), (3, .int (nI k))]) (st' := [.ref 196]) (H' := _) (kc' := 0) (ks' := 0) rfl ?_
  refine RQ.get (ci := 12) rfl hm1 rfl rfl ?_
  refine RQ.brT rfl rfl rfl (by decide) ?_
  refine RQ.blk 1 (pc' := 86) (lv' := [(0, .ref 196), (1, .int (nI a)), (2, .int (nI b)), (3, .int (nI k))]) (st' := [.ref 196]) (H' := _) (kc' := 0) (ks' := 0) rfl ?_
  refine RQ.get (ci := 12) rfl hm1 rfl rfl ?_
  refine RQ.blk 3 (pc' := 93) (lv' := [(4, .int (nI l)), (0, .ref 196), (1, .int (nI a)), (2, .int (nI b)), (3, .int (nI k))]) (st' := [.int 0, .ref 196]) (H' := _) (kc' := 0) (ks' := 0) rfl ?_
  refine RQ.put (ci := 12) rfl hm1 rfl rfl (Nat.le_of_ble_eq_true rfl) ?_
  have hm2 : (H1.set 195 (kO 12 (mfs 0 (nI li) 0 cw cl (nI 0) rs (nI p) (nI ms.length) (nI us) (nI ps.length) (nI (plen ps)) ba bo)))[195]? = some (kO 12 (mfs 0 (nI li) 0 cw cl (nI 0) rs (nI p) (nI ms.length) (nI us) (nI ps.length) (nI (plen ps)) ba bo)) := get_set hm1
  have f2 : ∀ a, a ≠ 195 → (H1.set 195 (kO 12 (mfs 0 (nI li) 0 cw cl (nI 0) rs (nI p) (nI ms.length) (nI us) (nI ps.length) (nI (plen ps)) ba bo)))[a]? = H[a]? := fun a ha => (set_far ha).trans (f1 a ha)
  show RQ _ _ _ 96 [(4, .int (nI l)), (0, .ref 196), (1, .int (nI a)), (2, .int (nI b)), (3, .int (nI k))] [] (H1.set 195 (kO 12 (mfs 0 (nI li) 0 cw cl (nI 0) rs (nI p) (nI ms.length) (nI us) (nI ps.length) (nI (plen ps)) ba bo))) 0 0 _
  generalize (H1.set 195 (kO 12 (mfs 0 (nI li) 0 cw cl (nI 0) rs (nI p) (nI ms.length) (nI us) (nI ps.length) (nI (plen ps)) ba bo))) = H2 at hm2 f2 ⊢
  clear hm1 f1 hV1 h51 h61 hR1 hT1 hP1 h1961 h1971
  have hm1 := hm2
  have f1 := f2
  clear hm2 f2
  have hV1 := hV.far (fun a a1 a2 => f1 a (by omega)) (f1 223 (by decide))
  have h51 := (f1 205 (by decide)).trans h5
  have h61 := (f1 206 (by decide)).trans h6
  have hR1 := hR.far (fun a a1 => f1 a (by omega))
  have hT1 := hT.far (fun a a1 a2 => f1 a (by omega))
  have hP1 := hP.far (fun a a1 a2 => f1 a (by omega))
  have h1961 := (f1 196 (by decide)).trans h196
  have h1971 := (f1 197 (by decide)).trans h197
  refine RQ.blk 2 (pc' := 98) (lv' := [(4, .int (nI l)), (0, .ref 196), (1, .int (nI a)), (2, .int (nI b)), (3, .int (nI k))]) (st' := [.int (nI a), .ref 196]) (H' := _) (kc' := 0) (ks' := 0) rfl ?_
  refine RQ.call (v := some (.int 0)) (st' := []) rfl rfl rfl rfl rfl rfl (args_v [.int (nI a)] [] rfl rfl (Nat.le_of_ble_eq_true rfl) rfl hm1 (Nat.le_of_ble_eq_true rfl)) (rc_mdirF hm1 rfl hT1.1 ha (nI_ne2 hka.1 hkd)) ?_
  refine RQ.brT rfl rfl rfl (by decide) ?_
  refine RQ.blk 3 (pc' := 127) (lv' := [(5, .int (-1)), (4, .int (nI l)), (0, .ref 196), (1, .int (nI a)), (2, .int (nI b)), (3, .int (nI k))]) (st' := [.int (-1)]) (H' := _) (kc' := 0) (ks' := 0) rfl ?_
  refine RQ.brF rfl rfl rfl (by decide) ?_
  refine RQ.blk 2 (pc' := 132) (lv' := [(5, .int (-1)), (4, .int (nI l)), (0, .ref 196), (1, .int (nI a)), (2, .int (nI b)), (3, .int (nI k))]) (st' := [.int 3, .ref 196]) (H' := _) (kc' := 0) (ks' := 0) rfl ?_
  refine RQ.call (v := some (.int 0)) (st' := []) rfl rfl rfl rfl rfl rfl (args_v [.int 3] [] rfl rfl (Nat.le_of_ble_eq_true rfl) rfl hm1 (Nat.le_of_ble_eq_true rfl)) (rc_mfail hm1 rfl) ?_
  exact RQ.done (c := 0) (s := 0) rfl rfl rfl rfl ⟨_, _, rfl, rfl, ⟨us, ba, bo, get_set hm1, hV1.far (fun a a1 a2 => set_far (by omega)) (set_far (by decide)), (set_far (by decide)).trans h51, (set_far (by decide)).trans h61, hR1.far (fun a a1 => set_far (by omega)), hT1.far (fun a a1 a2 => set_far (by omega)), hP1.far (fun a a1 a2 => set_far (by omega)), (set_far (by decide)).trans h1961, (set_far (by decide)).trans h1971⟩, fun a ha => (set_far (by omega)).trans (f1 a (by omega))⟩
set_option maxRecDepth 20000 in
theorem ri_mrename_no2 {sc : Nat × (Nat → Int32)} {d l : Nat} {H : aH} {fa cw cl rs : Int32} {li : Nat} {tb : Nat → Int8} {g0 : Nat → Int8} {p : Nat} {ms : List aMV} {op : Nat → Bool} {se : Nat → Nat} {wss : Nat → List aE} {kd pa sz nl : Nat → Nat} {nm : Nat → Int8} {ps : List aPc} {a b k : Nat} (h : RefI H fa li 0 cw cl tb l rs g0 p ms op se wss kd pa sz nl nm ps) (hk : RefOk l p ms se kd pa sz nl ps) (ha : a ≤ 200) (hb : b ≤ 200) (hk1 : 1 ≤ k) (hk30 : k ≤ 30) (hkl : k < l) (hl30 : l - k ≤ 30) (hn1 : noSl tb 0 k) (hn2 : noSl tb k (l - k)) (hkd : kd a = 2) (hkd2 : ¬ kd b = 2) : RI sc (d + 5) mr_317 [.ref 196, .int (nI a), .int (nI b), .int (nI k)] H (fun x H' => x = 0 ∧ RefI H' 3 li 0 cw cl tb 0 rs g0 p ms op se wss kd pa sz nl nm ps ∧ ∀ a, ¬ (195 ≤ a ∧ a < 224) → H'[a]? = H[a]?) := by
  obtain ⟨us, ba, bo, hm, hV, h5, h6, hR, hT, hP, h196, h197⟩ := h
  obtain ⟨k1, k2, k3, k4, k5, k6, k7, k8⟩ := hk
  refine RI.of ?_
  refine RQ.blk 2 (pc' := 2) (lv' := [(0, .ref 196), (1, .int (nI a)), (2, .int (nI b)), (3, .int (nI k))]) (st' := [.int 0, .ref 196]) (H' := _) (kc' := 0) (ks' := 0) rfl ?_
  refine RQ.put (ci := 12) rfl hm rfl rfl (Nat.le_of_ble_eq_true rfl) ?_
  have hm1 : (H.set 195 (kO 12 (mfs 0 (nI li) 0 cw cl (nI l) rs (nI p) (nI ms.length) (nI us) (nI ps.length) (nI (plen ps)) ba bo)))[195]? = some (kO 12 (mfs 0 (nI li) 0 cw cl (nI l) rs (nI p) (nI ms.length) (nI us) (nI ps.length) (nI (plen ps)) ba bo)) := get_set hm
  have f1 : ∀ a, a ≠ 195 → (H.set 195 (kO 12 (mfs 0 (nI li) 0 cw cl (nI l) rs (nI p) (nI ms.length) (nI us) (nI ps.length) (nI (plen ps)) ba bo)))[a]? = H[a]? := fun a ha => set_far ha
  show RQ _ _ _ 5 [(0, .ref 196), (1, .int (nI a)), (2, .int (nI b)), (3, .int (nI k))] [] (H.set 195 (kO 12 (mfs 0 (nI li) 0 cw cl (nI l) rs (nI p) (nI ms.length) (nI us) (nI ps.length) (nI (plen ps)) ba bo))) 0 0 _
  generalize (H.set 195 (kO 12 (mfs 0 (nI li) 0 cw cl (nI l) rs (nI p) (nI ms.length) (nI us) (nI ps.length) (nI (plen ps)) ba bo))) = H1 at hm1 f1 ⊢
  have hV1 := hV.far (fun a a1 a2 => f1 a (by omega)) (f1 223 (by decide))
  have h51 := (f1 205 (by decide)).trans h5
  have h61 := (f1 206 (by decide)).trans h6
  have hR1 := hR.far (fun a a1 => f1 a (by omega))
  have hT1 := hT.far (fun a a1 a2 => f1 a (by omega))
  have hP1 := hP.far (fun a a1 a2 => f1 a (by omega))
  have h1961 := (f1 196 (by decide)).trans h196
  have h1971 := (f1 197 (by decide)).trans h197
  have hka := k5 a ha
  have hkb := k5 b hb
  refine RQ.blk 3 (pc' := 10) (lv' := [(0, .ref 196), (1, .int (nI a)), (2, .int (nI b)), (3, .int (nI k))]) (st' := [.int 201, .int (nI a), .ref 196]) (H' := _) (kc' := 0) (ks' := 0) rfl ?_
  refine RQ.call (v := some (.int 0)) (st' := []) rfl rfl rfl rfl rfl rfl (args_v [.int 201, .int (nI a)] [] rfl rfl (Nat.le_of_ble_eq_true rfl) rfl hm1 (Nat.le_of_ble_eq_true rfl)) (rc_out (v := a) (m := 201) (by omega) (by decide)) ?_
  refine RQ.brF rfl rfl rfl (by decide) ?_
  refine RQ.blk 3 (pc' := 21) (lv' := [(0, .ref 196), (1, .int (nI a)), (2, .int (nI b)), (3, .int (nI k))]) (st' := [.int 201, .int (nI b), .ref 196]) (H' := _) (kc' := 0) (ks' := 0) rfl ?_
  refine RQ.call (v := some (.int 0)) (st' := []) rfl rfl rfl rfl rfl rfl (args_v [.int 201, .int (nI b)] [] rfl rfl (Nat.le_of_ble_eq_true rfl) rfl hm1 (Nat.le_of_ble_eq_true rfl)) (rc_out (v := b) (m := 201) (by omega) (by decide)) ?_
  refine RQ.brF rfl rfl rfl (by decide) ?_
  refine RQ.blk 5 (pc' := 32) (lv' := [(0, .ref 196), (1, .int (nI a)), (2, .int (nI b)), (3, .int (nI k))]) (st' := [.ref 196, .int (nI k), .ref 196, .int 0, .ref 196]) (H' := _) (kc' := 0) (ks' := 0) rfl ?_
  refine RQ.get (ci := 12) rfl hm1 rfl rfl ?_
  refine RQ.call (v := some (.int (nI (min k l)))) (st' := [.int 0, .ref 196]) rfl rfl rfl rfl rfl rfl (args_v [.int (nI l), .int (nI k)] [.int 0, .ref 196] rfl rfl (Nat.le_of_ble_eq_true rfl) rfl hm1 (Nat.le_of_ble_eq_true rfl)) (rc_mleast (a := k) (b := l) (by omega) (by omega)) ?_
  rw [show min k l = k by omega]
  refine RQ.call (v := some (.int 1)) (st' := []) rfl rfl rfl rfl rfl rfl (args_v [.int (nI k), .int 0] [] rfl rfl (Nat.le_of_ble_eq_true rfl) rfl hm1 (Nat.le_of_ble_eq_true rfl)) (rc_named1 (i := 0) (n := k) hm1 h1961 (by decide) (by omega) hk1 hk30 hn1) ?_
  refine RQ.brF rfl rfl rfl (by decide) ?_
  refine RQ.blk 2 (pc' := 46) (lv' := [(0, .ref 196), (1, .int (nI a)), (2, .int (nI b)), (3, .int (nI k))]) (st' := [.ref 196, .int (nI k)]) (H' := _) (kc' := 0) (ks' := 0) rfl ?_
  refine RQ.get (ci := 12) rfl hm1 rfl rfl ?_
  refine RQ.brF rfl rfl rfl (cF_gt k l) ?_
  refine RQ.blk 3 (pc' := 55) (lv' := [(0, .ref 196), (1, .int (nI a)), (2, .int (nI b)), (3, .int (nI k))]) (st' := [.ref 196, .int (nI k), .ref 196]) (H' := _) (kc' := 0) (ks' := 0) rfl ?_
  refine RQ.get (ci := 12) rfl hm1 rfl rfl ?_
  refine RQ.blk 2 (pc' := 60) (lv' := [(0, .ref 196), (1, .int (nI a)), (2, .int (nI b)), (3, .int (nI k))]) (st' := [.int (nI l - nI k), .int (nI k), .ref 196]) (H' := _) (kc' := 0) (ks' := 0) rfl ?_
  rw [show (nI l - nI k : Int32) = nI (l - k) from pk_sub (a := l) (b := k) (by omega)]
  refine RQ.call (v := some (.int 1)) (st' := []) rfl rfl rfl rfl rfl rfl (args_v [.int (nI (l - k)), .int (nI k)] [] rfl rfl (Nat.le_of_ble_eq_true rfl) rfl hm1 (Nat.le_of_ble_eq_true rfl)) (rc_named1 (i := k) (n := l - k) hm1 h1961 (by decide) (by omega) (by omega) hl30 hn2) ?_
  refine RQ.brT rfl rfl rfl (by decide) ?_
  refine RQ.blk 1 (pc' := 73) (lv' := [(0, .ref 196), (1, .int (nI a)), (2, .int (nI b)), (3, .int (nI k))]) (st' := [.ref 196]) (H' := _) (kc' := 0) (ks' := 0) rfl ?_
  refine RQ.get (ci := 12) rfl hm1 rfl rfl ?_
  refine RQ.brT rfl rfl rfl (by decide) ?_
  refine RQ.blk 1 (pc' := 86) (lv' := [(0, .ref 196), (1, .int (nI a)), (2, .int (nI b)), (3, .int (nI k))]) (st' := [.ref 196]) (H' := _) (kc' := 0) (ks' := 0) rfl ?_
  refine RQ.get (ci := 12) rfl hm1 rfl rfl ?_
  refine RQ.blk 3 (pc' := 93) (lv' := [(4, .int (nI l)), (0, .ref 196), (1, .int (nI a)), (2, .int (nI b)), (3, .int (nI k))]) (st' := [.int 0, .ref 196]) (H' := _) (kc' := 0) (ks' := 0) rfl ?_
  refine RQ.put (ci := 12) rfl hm1 rfl rfl (Nat.le_of_ble_eq_true rfl) ?_
  have hm2 : (H1.set 195 (kO 12 (mfs 0 (nI li) 0 cw cl (nI 0) rs (nI p) (nI ms.length) (nI us) (nI ps.length) (nI (plen ps)) ba bo)))[195]? = some (kO 12 (mfs 0 (nI li) 0 cw cl (nI 0) rs (nI p) (nI ms.length) (nI us) (nI ps.length) (nI (plen ps)) ba bo)) := get_set hm1
  have f2 : ∀ a, a ≠ 195 → (H1.set 195 (kO 12 (mfs 0 (nI li) 0 cw cl (nI 0) rs (nI p) (nI ms.length) (nI us) (nI ps.length) (nI (plen ps)) ba bo)))[a]? = H[a]? := fun a ha => (set_far ha).trans (f1 a ha)
  show RQ _ _ _ 96 [(4, .int (nI l)), (0, .ref 196), (1, .int (nI a)), (2, .int (nI b)), (3, .int (nI k))] [] (H1.set 195 (kO 12 (mfs 0 (nI li) 0 cw cl (nI 0) rs (nI p) (nI ms.length) (nI us) (nI ps.length) (nI (plen ps)) ba bo))) 0 0 _
  generalize (H1.set 195 (kO 12 (mfs 0 (nI li) 0 cw cl (nI 0) rs (nI p) (nI ms.length) (nI us) (nI ps.length) (nI (plen ps)) ba bo))) = H2 at hm2 f2 ⊢
  clear hm1 f1 hV1 h51 h61 hR1 hT1 hP1 h1961 h1971
  have hm1 := hm2
  have f1 := f2
  clear hm2 f2
  have hV1 := hV.far (fun a a1 a2 => f1 a (by omega)) (f1 223 (by decide))
  have h51 := (f1 205 (by decide)).trans h5
  have h61 := (f1 206 (by decide)).trans h6
  have hR1 := hR.far (fun a a1 => f1 a (by omega))
  have hT1 := hT.far (fun a a1 a2 => f1 a (by omega))
  have hP1 := hP.far (fun a a1 a2 => f1 a (by omega))
  have h1961 := (f1 196 (by decide)).trans h196
  have h1971 := (f1 197 (by decide)).trans h197
  refine RQ.blk 2 (pc' := 98) (lv' := [(4, .int (nI l)), (0, .ref 196), (1, .int (nI a)), (2, .int (nI b)), (3, .int (nI k))]) (st' := [.int (nI a), .ref 196]) (H' := _) (kc' := 0) (ks' := 0) rfl ?_
  refine RQ.call (v := some (.int 1)) (st' := []) rfl rfl rfl rfl rfl rfl (args_v [.int (nI a)] [] rfl rfl (Nat.le_of_ble_eq_true rfl) rfl hm1 (Nat.le_of_ble_eq_true rfl)) (rc_mdirT hm1 rfl hT1.1 ha (nI_is2 hkd)) ?_
  refine RQ.brF rfl rfl rfl (by decide) ?_
  refine RQ.blk 2 (pc' := 106) (lv' := [(4, .int (nI l)), (0, .ref 196), (1, .int (nI a)), (2, .int (nI b)), (3, .int (nI k))]) (st' := [.int (nI b), .ref 196]) (H' := _) (kc' := 0) (ks' := 0) rfl ?_
  refine RQ.call (v := some (.int 0)) (st' := []) rfl rfl rfl rfl rfl rfl (args_v [.int (nI b)] [] rfl rfl (Nat.le_of_ble_eq_true rfl) rfl hm1 (Nat.le_of_ble_eq_true rfl)) (rc_mdirF hm1 rfl hT1.1 hb (nI_ne2 hkb.1 hkd2)) ?_
  refine RQ.brT rfl rfl rfl (by decide) ?_
  refine RQ.blk 3 (pc' := 127) (lv' := [(5, .int (-1)), (4, .int (nI l)), (0, .ref 196), (1, .int (nI a)), (2, .int (nI b)), (3, .int (nI k))]) (st' := [.int (-1)]) (H' := _) (kc' := 0) (ks' := 0) rfl ?_
  refine RQ.brF rfl rfl rfl (by decide) ?_
  refine RQ.blk 2 (pc' := 132) (lv' := [(5, .int (-1)), (4, .int (nI l)), (0, .ref 196), (1, .int (nI a)), (2, .int (nI b)), (3, .int (nI k))]) (st' := [.int 3, .ref 196]) (H' := _) (kc' := 0) (ks' := 0) rfl ?_
  refine RQ.call (v := some (.int 0)) (st' := []) rfl rfl rfl rfl rfl rfl (args_v [.int 3] [] rfl rfl (Nat.le_of_ble_eq_true rfl) rfl hm1 (Nat.le_of_ble_eq_true rfl)) (rc_mfail hm1 rfl) ?_
  exact RQ.done (c := 0) (s := 0) rfl rfl rfl rfl ⟨_, _, rfl, rfl, ⟨us, ba, bo, get_set hm1, hV1.far (fun a a1 a2 => set_far (by omega)) (set_far (by decide)), (set_far (by decide)).trans h51, (set_far (by decide)).trans h61, hR1.far (fun a a1 => set_far (by omega)), hT1.far (fun a a1 a2 => set_far (by omega)), hP1.far (fun a a1 a2 => set_far (by omega)), (set_far (by decide)).trans h1961, (set_far (by decide)).trans h1971⟩, fun a ha => (set_far (by omega)).trans (f1 a (by omega))⟩
set_option maxRecDepth 20000 in
theorem ri_mrename_none {sc : Nat × (Nat → Int32)} {d l : Nat} {H : aH} {fa cw cl rs : Int32} {li : Nat} {tb : Nat → Int8} {g0 : Nat → Int8} {p : Nat} {ms : List aMV} {op : Nat → Bool} {se : Nat → Nat} {wss : Nat → List aE} {kd pa sz nl : Nat → Nat} {nm : Nat → Int8} {ps : List aPc} {a b k : Nat} (h : RefI H fa li 0 cw cl tb l rs g0 p ms op se wss kd pa sz nl nm ps) (hk : RefOk l p ms se kd pa sz nl ps) (ha : a ≤ 200) (hb : b ≤ 200) (hk1 : 1 ≤ k) (hk30 : k ≤ 30) (hkl : k < l) (hl30 : l - k ≤ 30) (hn1 : noSl tb 0 k) (hn2 : noSl tb k (l - k)) (hkd : kd a = 2) (hkd2 : kd b = 2) (hc : (fstF (inN kd pa nl nm a (sl tb 0 k)) 1 200) = none) : RI sc (d + 5) mr_317 [.ref 196, .int (nI a), .int (nI b), .int (nI k)] H (fun x H' => x = 0 ∧ RefI H' 3 li 0 cw cl tb 0 rs g0 p ms op se wss kd pa sz nl nm ps ∧ ∀ a, ¬ (195 ≤ a ∧ a < 224) → H'[a]? = H[a]?) := by
  obtain ⟨us, ba, bo, hm, hV, h5, h6, hR, hT, hP, h196, h197⟩ := h
  obtain ⟨k1, k2, k3, k4, k5, k6, k7, k8⟩ := hk
  refine RI.of ?_
  refine RQ.blk 2 (pc' := 2) (lv' := [(0, .ref 196), (1, .int (nI a)), (2, .int (nI b)), (3, .int (nI k))]) (st' := [.int 0, .ref 196]) (H' := _) (kc' := 0) (ks' := 0) rfl ?_
  refine RQ.put (ci := 12) rfl hm rfl rfl (Nat.le_of_ble_eq_true rfl) ?_
  have hm1 : (H.set 195 (kO 12 (mfs 0 (nI li) 0 cw cl (nI l) rs (nI p) (nI ms.length) (nI us) (nI ps.length) (nI (plen ps)) ba bo)))[195]? = some (kO 12 (mfs 0 (nI li) 0 cw cl (nI l) rs (nI p) (nI ms.length) (nI us) (nI ps.length) (nI (plen ps)) ba bo)) := get_set hm
  have f1 : ∀ a, a ≠ 195 → (H.set 195 (kO 12 (mfs 0 (nI li) 0 cw cl (nI l) rs (nI p) (nI ms.length) (nI us) (nI ps.length) (nI (plen ps)) ba bo)))[a]? = H[a]? := fun a ha => set_far ha
  show RQ _ _ _ 5 [(0, .ref 196), (1, .int (nI a)), (2, .int (nI b)), (3, .int (nI k))] [] (H.set 195 (kO 12 (mfs 0 (nI li) 0 cw cl (nI l) rs (nI p) (nI ms.length) (nI us) (nI ps.length) (nI (plen ps)) ba bo))) 0 0 _
  generalize (H.set 195 (kO 12 (mfs 0 (nI li) 0 cw cl (nI l) rs (nI p) (nI ms.length) (nI us) (nI ps.length) (nI (plen ps)) ba bo))) = H1 at hm1 f1 ⊢
  have hV1 := hV.far (fun a a1 a2 => f1 a (by omega)) (f1 223 (by decide))
  have h51 := (f1 205 (by decide)).trans h5
  have h61 := (f1 206 (by decide)).trans h6
  have hR1 := hR.far (fun a a1 => f1 a (by omega))
  have hT1 := hT.far (fun a a1 a2 => f1 a (by omega))
  have hP1 := hP.far (fun a a1 a2 => f1 a (by omega))
  have h1961 := (f1 196 (by decide)).trans h196
  have h1971 := (f1 197 (by decide)).trans h197
  have hka := k5 a ha
  have hkb := k5 b hb
  refine RQ.blk 3 (pc' := 10) (lv' := [(0, .ref 196), (1, .int (nI a)), (2, .int (nI b)), (3, .int (nI k))]) (st' := [.int 201, .int (nI a), .ref 196]) (H' := _) (kc' := 0) (ks' := 0) rfl ?_
  refine RQ.call (v := some (.int 0)) (st' := []) rfl rfl rfl rfl rfl rfl (args_v [.int 201, .int (nI a)] [] rfl rfl (Nat.le_of_ble_eq_true rfl) rfl hm1 (Nat.le_of_ble_eq_true rfl)) (rc_out (v := a) (m := 201) (by omega) (by decide)) ?_
  refine RQ.brF rfl rfl rfl (by decide) ?_
  refine RQ.blk 3 (pc' := 21) (lv' := [(0, .ref 196), (1, .int (nI a)), (2, .int (nI b)), (3, .int (nI k))]) (st' := [.int 201, .int (nI b), .ref 196]) (H' := _) (kc' := 0) (ks' := 0) rfl ?_
  refine RQ.call (v := some (.int 0)) (st' := []) rfl rfl rfl rfl rfl rfl (args_v [.int 201, .int (nI b)] [] rfl rfl (Nat.le_of_ble_eq_true rfl) rfl hm1 (Nat.le_of_ble_eq_true rfl)) (rc_out (v := b) (m := 201) (by omega) (by decide)) ?_
  refine RQ.brF rfl rfl rfl (by decide) ?_
  refine RQ.blk 5 (pc' := 32) (lv' := [(0, .ref 196), (1, .int (nI a)), (2, .int (nI b)), (3, .int (nI k))]) (st' := [.ref 196, .int (nI k), .ref 196, .int 0, .ref 196]) (H' := _) (kc' := 0) (ks' := 0) rfl ?_
  refine RQ.get (ci := 12) rfl hm1 rfl rfl ?_
  refine RQ.call (v := some (.int (nI (min k l)))) (st' := [.int 0, .ref 196]) rfl rfl rfl rfl rfl rfl (args_v [.int (nI l), .int (nI k)] [.int 0, .ref 196] rfl rfl (Nat.le_of_ble_eq_true rfl) rfl hm1 (Nat.le_of_ble_eq_true rfl)) (rc_mleast (a := k) (b := l) (by omega) (by omega)) ?_
  rw [show min k l = k by omega]
  refine RQ.call (v := some (.int 1)) (st' := []) rfl rfl rfl rfl rfl rfl (args_v [.int (nI k), .int 0] [] rfl rfl (Nat.le_of_ble_eq_true rfl) rfl hm1 (Nat.le_of_ble_eq_true rfl)) (rc_named1 (i := 0) (n := k) hm1 h1961 (by decide) (by omega) hk1 hk30 hn1) ?_
  refine RQ.brF rfl rfl rfl (by decide) ?_
  refine RQ.blk 2 (pc' := 46) (lv' := [(0, .ref 196), (1, .int (nI a)), (2, .int (nI b)), (3, .int (nI k))]) (st' := [.ref 196, .int (nI k)]) (H' := _) (kc' := 0) (ks' := 0) rfl ?_
  refine RQ.get (ci := 12) rfl hm1 rfl rfl ?_
  refine RQ.brF rfl rfl rfl (cF_gt k l) ?_
  refine RQ.blk 3 (pc' := 55) (lv' := [(0, .ref 196), (1, .int (nI a)), (2, .int (nI b)), (3, .int (nI k))]) (st' := [.ref 196, .int (nI k), .ref 196]) (H' := _) (kc' := 0) (ks' := 0) rfl ?_
  refine RQ.get (ci := 12) rfl hm1 rfl rfl ?_
  refine RQ.blk 2 (pc' := 60) (lv' := [(0, .ref 196), (1, .int (nI a)), (2, .int (nI b)), (3, .int (nI k))]) (st' := [.int (nI l - nI k), .int (nI k), .ref 196]) (H' := _) (kc' := 0) (ks' := 0) rfl ?_
  rw [show (nI l - nI k : Int32) = nI (l - k) from pk_sub (a := l) (b := k) (by omega)]
  refine RQ.call (v := some (.int 1)) (st' := []) rfl rfl rfl rfl rfl rfl (args_v [.int (nI (l - k)), .int (nI k)] [] rfl rfl (Nat.le_of_ble_eq_true rfl) rfl hm1 (Nat.le_of_ble_eq_true rfl)) (rc_named1 (i := k) (n := l - k) hm1 h1961 (by decide) (by omega) (by omega) hl30 hn2) ?_
  refine RQ.brT rfl rfl rfl (by decide) ?_
  refine RQ.blk 1 (pc' := 73) (lv' := [(0, .ref 196), (1, .int (nI a)), (2, .int (nI b)), (3, .int (nI k))]) (st' := [.ref 196]) (H' := _) (kc' := 0) (ks' := 0) rfl ?_
  refine RQ.get (ci := 12) rfl hm1 rfl rfl ?_
  refine RQ.brT rfl rfl rfl (by decide) ?_
  refine RQ.blk 1 (pc' := 86) (lv' := [(0, .ref 196), (1, .int (nI a)), (2, .int (nI b)), (3, .int (nI k))]) (st' := [.ref 196]) (H' := _) (kc' := 0) (ks' := 0) rfl ?_
  refine RQ.get (ci := 12) rfl hm1 rfl rfl ?_
  refine RQ.blk 3 (pc' := 93) (lv' := [(4, .int (nI l)), (0, .ref 196), (1, .int (nI a)), (2, .int (nI b)), (3, .int (nI k))]) (st' := [.int 0, .ref 196]) (H' := _) (kc' := 0) (ks' := 0) rfl ?_
  refine RQ.put (ci := 12) rfl hm1 rfl rfl (Nat.le_of_ble_eq_true rfl) ?_
  have hm2 : (H1.set 195 (kO 12 (mfs 0 (nI li) 0 cw cl (nI 0) rs (nI p) (nI ms.length) (nI us) (nI ps.length) (nI (plen ps)) ba bo)))[195]? = some (kO 12 (mfs 0 (nI li) 0 cw cl (nI 0) rs (nI p) (nI ms.length) (nI us) (nI ps.length) (nI (plen ps)) ba bo)) := get_set hm1
  have f2 : ∀ a, a ≠ 195 → (H1.set 195 (kO 12 (mfs 0 (nI li) 0 cw cl (nI 0) rs (nI p) (nI ms.length) (nI us) (nI ps.length) (nI (plen ps)) ba bo)))[a]? = H[a]? := fun a ha => (set_far ha).trans (f1 a ha)
  show RQ _ _ _ 96 [(4, .int (nI l)), (0, .ref 196), (1, .int (nI a)), (2, .int (nI b)), (3, .int (nI k))] [] (H1.set 195 (kO 12 (mfs 0 (nI li) 0 cw cl (nI 0) rs (nI p) (nI ms.length) (nI us) (nI ps.length) (nI (plen ps)) ba bo))) 0 0 _
  generalize (H1.set 195 (kO 12 (mfs 0 (nI li) 0 cw cl (nI 0) rs (nI p) (nI ms.length) (nI us) (nI ps.length) (nI (plen ps)) ba bo))) = H2 at hm2 f2 ⊢
  clear hm1 f1 hV1 h51 h61 hR1 hT1 hP1 h1961 h1971
  have hm1 := hm2
  have f1 := f2
  clear hm2 f2
  have hV1 := hV.far (fun a a1 a2 => f1 a (by omega)) (f1 223 (by decide))
  have h51 := (f1 205 (by decide)).trans h5
  have h61 := (f1 206 (by decide)).trans h6
  have hR1 := hR.far (fun a a1 => f1 a (by omega))
  have hT1 := hT.far (fun a a1 a2 => f1 a (by omega))
  have hP1 := hP.far (fun a a1 a2 => f1 a (by omega))
  have h1961 := (f1 196 (by decide)).trans h196
  have h1971 := (f1 197 (by decide)).trans h197
  refine RQ.blk 2 (pc' := 98) (lv' := [(4, .int (nI l)), (0, .ref 196), (1, .int (nI a)), (2, .int (nI b)), (3, .int (nI k))]) (st' := [.int (nI a), .ref 196]) (H' := _) (kc' := 0) (ks' := 0) rfl ?_
  refine RQ.call (v := some (.int 1)) (st' := []) rfl rfl rfl rfl rfl rfl (args_v [.int (nI a)] [] rfl rfl (Nat.le_of_ble_eq_true rfl) rfl hm1 (Nat.le_of_ble_eq_true rfl)) (rc_mdirT hm1 rfl hT1.1 ha (nI_is2 hkd)) ?_
  refine RQ.brF rfl rfl rfl (by decide) ?_
  refine RQ.blk 2 (pc' := 106) (lv' := [(4, .int (nI l)), (0, .ref 196), (1, .int (nI a)), (2, .int (nI b)), (3, .int (nI k))]) (st' := [.int (nI b), .ref 196]) (H' := _) (kc' := 0) (ks' := 0) rfl ?_
  refine RQ.call (v := some (.int 1)) (st' := []) rfl rfl rfl rfl rfl rfl (args_v [.int (nI b)] [] rfl rfl (Nat.le_of_ble_eq_true rfl) rfl hm1 (Nat.le_of_ble_eq_true rfl)) (rc_mdirT hm1 rfl hT1.1 hb (nI_is2 hkd2)) ?_
  refine RQ.brF rfl rfl rfl (by decide) ?_
  refine RQ.blk 4 (pc' := 116) (lv' := [(4, .int (nI l)), (0, .ref 196), (1, .int (nI a)), (2, .int (nI b)), (3, .int (nI k))]) (st' := [.int (nI k), .int 0, .int (nI a), .ref 196]) (H' := _) (kc' := 0) (ks' := 0) rfl ?_
  have hch := rc_mchild (sc := sc) (d := d + 3) (j := 0) (m := k) hm1 hT1 k5 h1961 (by omega) ha
  rw [hc] at hch
  refine RQ.call (v := some (.int (-1))) (st' := []) rfl rfl rfl rfl rfl rfl (args_v [.int (nI k), .int 0, .int (nI a)] [] rfl rfl (Nat.le_of_ble_eq_true rfl) rfl hm1 (Nat.le_of_ble_eq_true rfl)) hch ?_
  refine RQ.blk 3 (pc' := 127) (lv' := [(5, .int (-1)), (4, .int (nI l)), (0, .ref 196), (1, .int (nI a)), (2, .int (nI b)), (3, .int (nI k))]) (st' := [.int (-1)]) (H' := _) (kc' := 0) (ks' := 0) rfl ?_
  refine RQ.brF rfl rfl rfl (by decide) ?_
  refine RQ.blk 2 (pc' := 132) (lv' := [(5, .int (-1)), (4, .int (nI l)), (0, .ref 196), (1, .int (nI a)), (2, .int (nI b)), (3, .int (nI k))]) (st' := [.int 3, .ref 196]) (H' := _) (kc' := 0) (ks' := 0) rfl ?_
  refine RQ.call (v := some (.int 0)) (st' := []) rfl rfl rfl rfl rfl rfl (args_v [.int 3] [] rfl rfl (Nat.le_of_ble_eq_true rfl) rfl hm1 (Nat.le_of_ble_eq_true rfl)) (rc_mfail hm1 rfl) ?_
  exact RQ.done (c := 0) (s := 0) rfl rfl rfl rfl ⟨_, _, rfl, rfl, ⟨us, ba, bo, get_set hm1, hV1.far (fun a a1 a2 => set_far (by omega)) (set_far (by decide)), (set_far (by decide)).trans h51, (set_far (by decide)).trans h61, hR1.far (fun a a1 => set_far (by omega)), hT1.far (fun a a1 a2 => set_far (by omega)), hP1.far (fun a a1 a2 => set_far (by omega)), (set_far (by decide)).trans h1961, (set_far (by decide)).trans h1971⟩, fun a ha => (set_far (by omega)).trans (f1 a (by omega))⟩
set_option maxRecDepth 20000 in
theorem ri_mrename_same {sc : Nat × (Nat → Int32)} {d l : Nat} {H : aH} {fa cw cl rs : Int32} {li : Nat} {tb : Nat → Int8} {g0 : Nat → Int8} {p : Nat} {ms : List aMV} {op : Nat → Bool} {se : Nat → Nat} {wss : Nat → List aE} {kd pa sz nl : Nat → Nat} {nm : Nat → Int8} {ps : List aPc} {a b k : Nat} {c t : Nat} (h : RefI H fa li 0 cw cl tb l rs g0 p ms op se wss kd pa sz nl nm ps) (hk : RefOk l p ms se kd pa sz nl ps) (ha : a ≤ 200) (hb : b ≤ 200) (hk1 : 1 ≤ k) (hk30 : k ≤ 30) (hkl : k < l) (hl30 : l - k ≤ 30) (hn1 : noSl tb 0 k) (hn2 : noSl tb k (l - k)) (hkd : kd a = 2) (hkd2 : kd b = 2) (hc : (fstF (inN kd pa nl nm a (sl tb 0 k)) 1 200) = some c) (ht : (fstF (inN kd pa nl nm b (sl tb k (l - k))) 1 200) = some t) (htc : t = c) : RI sc (d + 5) mr_317 [.ref 196, .int (nI a), .int (nI b), .int (nI k)] H (fun x H' => x = nI c ∧ RefI H' 0 li 0 cw cl tb 0 rs g0 p ms op se wss kd pa sz nl nm ps ∧ ∀ a, ¬ (195 ≤ a ∧ a < 224) → H'[a]? = H[a]?) := by
  obtain ⟨us, ba, bo, hm, hV, h5, h6, hR, hT, hP, h196, h197⟩ := h
  obtain ⟨k1, k2, k3, k4, k5, k6, k7, k8⟩ := hk
  refine RI.of ?_
  refine RQ.blk 2 (pc' := 2) (lv' := [(0, .ref 196), (1, .int (nI a)), (2, .int (nI b)), (3, .int (nI k))]) (st' := [.int 0, .ref 196]) (H' := _) (kc' := 0) (ks' := 0) rfl ?_
  refine RQ.put (ci := 12) rfl hm rfl rfl (Nat.le_of_ble_eq_true rfl) ?_
  have hm1 : (H.set 195 (kO 12 (mfs 0 (nI li) 0 cw cl (nI l) rs (nI p) (nI ms.length) (nI us) (nI ps.length) (nI (plen ps)) ba bo)))[195]? = some (kO 12 (mfs 0 (nI li) 0 cw cl (nI l) rs (nI p) (nI ms.length) (nI us) (nI ps.length) (nI (plen ps)) ba bo)) := get_set hm
  have f1 : ∀ a, a ≠ 195 → (H.set 195 (kO 12 (mfs 0 (nI li) 0 cw cl (nI l) rs (nI p) (nI ms.length) (nI us) (nI ps.length) (nI (plen ps)) ba bo)))[a]? = H[a]? := fun a ha => set_far ha
  show RQ _ _ _ 5 [(0, .ref 196), (1, .int (nI a)), (2, .int (nI b)), (3, .int (nI k))] [] (H.set 195 (kO 12 (mfs 0 (nI li) 0 cw cl (nI l) rs (nI p) (nI ms.length) (nI us) (nI ps.length) (nI (plen ps)) ba bo))) 0 0 _
  generalize (H.set 195 (kO 12 (mfs 0 (nI li) 0 cw cl (nI l) rs (nI p) (nI ms.length) (nI us) (nI ps.length) (nI (plen ps)) ba bo))) = H1 at hm1 f1 ⊢
  have hV1 := hV.far (fun a a1 a2 => f1 a (by omega)) (f1 223 (by decide))
  have h51 := (f1 205 (by decide)).trans h5
  have h61 := (f1 206 (by decide)).trans h6
  have hR1 := hR.far (fun a a1 => f1 a (by omega))
  have hT1 := hT.far (fun a a1 a2 => f1 a (by omega))
  have hP1 := hP.far (fun a a1 a2 => f1 a (by omega))
  have h1961 := (f1 196 (by decide)).trans h196
  have h1971 := (f1 197 (by decide)).trans h197
  have hka := k5 a ha
  have hkb := k5 b hb
  refine RQ.blk 3 (pc' := 10) (lv' := [(0, .ref 196), (1, .int (nI a)), (2, .int (nI b)), (3, .int (nI k))]) (st' := [.int 201, .int (nI a), .ref 196]) (H' := _) (kc' := 0) (ks' := 0) rfl ?_
  refine RQ.call (v := some (.int 0)) (st' := []) rfl rfl rfl rfl rfl rfl (args_v [.int 201, .int (nI a)] [] rfl rfl (Nat.le_of_ble_eq_true rfl) rfl hm1 (Nat.le_of_ble_eq_true rfl)) (rc_out (v := a) (m := 201) (by omega) (by decide)) ?_
  refine RQ.brF rfl rfl rfl (by decide) ?_
  refine RQ.blk 3 (pc' := 21) (lv' := [(0, .ref 196), (1, .int (nI a)), (2, .int (nI b)), (3, .int (nI k))]) (st' := [.int 201, .int (nI b), .ref 196]) (H' := _) (kc' := 0) (ks' := 0) rfl ?_
  refine RQ.call (v := some (.int 0)) (st' := []) rfl rfl rfl rfl rfl rfl (args_v [.int 201, .int (nI b)] [] rfl rfl (Nat.le_of_ble_eq_true rfl) rfl hm1 (Nat.le_of_ble_eq_true rfl)) (rc_out (v := b) (m := 201) (by omega) (by decide)) ?_
  refine RQ.brF rfl rfl rfl (by decide) ?_
  refine RQ.blk 5 (pc' := 32) (lv' := [(0, .ref 196), (1, .int (nI a)), (2, .int (nI b)), (3, .int (nI k))]) (st' := [.ref 196, .int (nI k), .ref 196, .int 0, .ref 196]) (H' := _) (kc' := 0) (ks' := 0) rfl ?_
  refine RQ.get (ci := 12) rfl hm1 rfl rfl ?_
  refine RQ.call (v := some (.int (nI (min k l)))) (st' := [.int 0, .ref 196]) rfl rfl rfl rfl rfl rfl (args_v [.int (nI l), .int (nI k)] [.int 0, .ref 196] rfl rfl (Nat.le_of_ble_eq_true rfl) rfl hm1 (Nat.le_of_ble_eq_true rfl)) (rc_mleast (a := k) (b := l) (by omega) (by omega)) ?_
  rw [show min k l = k by omega]
  refine RQ.call (v := some (.int 1)) (st' := []) rfl rfl rfl rfl rfl rfl (args_v [.int (nI k), .int 0] [] rfl rfl (Nat.le_of_ble_eq_true rfl) rfl hm1 (Nat.le_of_ble_eq_true rfl)) (rc_named1 (i := 0) (n := k) hm1 h1961 (by decide) (by omega) hk1 hk30 hn1) ?_
  refine RQ.brF rfl rfl rfl (by decide) ?_
  refine RQ.blk 2 (pc' := 46) (lv' := [(0, .ref 196), (1, .int (nI a)), (2, .int (nI b)), (3, .int (nI k))]) (st' := [.ref 196, .int (nI k)]) (H' := _) (kc' := 0) (ks' := 0) rfl ?_
  refine RQ.get (ci := 12) rfl hm1 rfl rfl ?_
  refine RQ.brF rfl rfl rfl (cF_gt k l) ?_
  refine RQ.blk 3 (pc' := 55) (lv' := [(0, .ref 196), (1, .int (nI a)), (2, .int (nI b)), (3, .int (nI k))]) (st' := [.ref 196, .int (nI k), .ref 196]) (H' := _) (kc' := 0) (ks' := 0) rfl ?_
  refine RQ.get (ci := 12) rfl hm1 rfl rfl ?_
  refine RQ.blk 2 (pc' := 60) (lv' := [(0, .ref 196), (1, .int (nI a)), (2, .int (nI b)), (3, .int (nI k))]) (st' := [.int (nI l - nI k), .int (nI k), .ref 196]) (H' := _) (kc' := 0) (ks' := 0) rfl ?_
  rw [show (nI l - nI k : Int32) = nI (l - k) from pk_sub (a := l) (b := k) (by omega)]
  refine RQ.call (v := some (.int 1)) (st' := []) rfl rfl rfl rfl rfl rfl (args_v [.int (nI (l - k)), .int (nI k)] [] rfl rfl (Nat.le_of_ble_eq_true rfl) rfl hm1 (Nat.le_of_ble_eq_true rfl)) (rc_named1 (i := k) (n := l - k) hm1 h1961 (by decide) (by omega) (by omega) hl30 hn2) ?_
  refine RQ.brT rfl rfl rfl (by decide) ?_
  refine RQ.blk 1 (pc' := 73) (lv' := [(0, .ref 196), (1, .int (nI a)), (2, .int (nI b)), (3, .int (nI k))]) (st' := [.ref 196]) (H' := _) (kc' := 0) (ks' := 0) rfl ?_
  refine RQ.get (ci := 12) rfl hm1 rfl rfl ?_
  refine RQ.brT rfl rfl rfl (by decide) ?_
  refine RQ.blk 1 (pc' := 86) (lv' := [(0, .ref 196), (1, .int (nI a)), (2, .int (nI b)), (3, .int (nI k))]) (st' := [.ref 196]) (H' := _) (kc' := 0) (ks' := 0) rfl ?_
  refine RQ.get (ci := 12) rfl hm1 rfl rfl ?_
  refine RQ.blk 3 (pc' := 93) (lv' := [(4, .int (nI l)), (0, .ref 196), (1, .int (nI a)), (2, .int (nI b)), (3, .int (nI k))]) (st' := [.int 0, .ref 196]) (H' := _) (kc' := 0) (ks' := 0) rfl ?_
  refine RQ.put (ci := 12) rfl hm1 rfl rfl (Nat.le_of_ble_eq_true rfl) ?_
  have hm2 : (H1.set 195 (kO 12 (mfs 0 (nI li) 0 cw cl (nI 0) rs (nI p) (nI ms.length) (nI us) (nI ps.length) (nI (plen ps)) ba bo)))[195]? = some (kO 12 (mfs 0 (nI li) 0 cw cl (nI 0) rs (nI p) (nI ms.length) (nI us) (nI ps.length) (nI (plen ps)) ba bo)) := get_set hm1
  have f2 : ∀ a, a ≠ 195 → (H1.set 195 (kO 12 (mfs 0 (nI li) 0 cw cl (nI 0) rs (nI p) (nI ms.length) (nI us) (nI ps.length) (nI (plen ps)) ba bo)))[a]? = H[a]? := fun a ha => (set_far ha).trans (f1 a ha)
  show RQ _ _ _ 96 [(4, .int (nI l)), (0, .ref 196), (1, .int (nI a)), (2, .int (nI b)), (3, .int (nI k))] [] (H1.set 195 (kO 12 (mfs 0 (nI li) 0 cw cl (nI 0) rs (nI p) (nI ms.length) (nI us) (nI ps.length) (nI (plen ps)) ba bo))) 0 0 _
  generalize (H1.set 195 (kO 12 (mfs 0 (nI li) 0 cw cl (nI 0) rs (nI p) (nI ms.length) (nI us) (nI ps.length) (nI (plen ps)) ba bo))) = H2 at hm2 f2 ⊢
  clear hm1 f1 hV1 h51 h61 hR1 hT1 hP1 h1961 h1971
  have hm1 := hm2
  have f1 := f2
  clear hm2 f2
  have hV1 := hV.far (fun a a1 a2 => f1 a (by omega)) (f1 223 (by decide))
  have h51 := (f1 205 (by decide)).trans h5
  have h61 := (f1 206 (by decide)).trans h6
  have hR1 := hR.far (fun a a1 => f1 a (by omega))
  have hT1 := hT.far (fun a a1 a2 => f1 a (by omega))
  have hP1 := hP.far (fun a a1 a2 => f1 a (by omega))
  have h1961 := (f1 196 (by decide)).trans h196
  have h1971 := (f1 197 (by decide)).trans h197
  refine RQ.blk 2 (pc' := 98) (lv' := [(4, .int (nI l)), (0, .ref 196), (1, .int (nI a)), (2, .int (nI b)), (3, .int (nI k))]) (st' := [.int (nI a), .ref 196]) (H' := _) (kc' := 0) (ks' := 0) rfl ?_
  refine RQ.call (v := some (.int 1)) (st' := []) rfl rfl rfl rfl rfl rfl (args_v [.int (nI a)] [] rfl rfl (Nat.le_of_ble_eq_true rfl) rfl hm1 (Nat.le_of_ble_eq_true rfl)) (rc_mdirT hm1 rfl hT1.1 ha (nI_is2 hkd)) ?_
  refine RQ.brF rfl rfl rfl (by decide) ?_
  refine RQ.blk 2 (pc' := 106) (lv' := [(4, .int (nI l)), (0, .ref 196), (1, .int (nI a)), (2, .int (nI b)), (3, .int (nI k))]) (st' := [.int (nI b), .ref 196]) (H' := _) (kc' := 0) (ks' := 0) rfl ?_
  refine RQ.call (v := some (.int 1)) (st' := []) rfl rfl rfl rfl rfl rfl (args_v [.int (nI b)] [] rfl rfl (Nat.le_of_ble_eq_true rfl) rfl hm1 (Nat.le_of_ble_eq_true rfl)) (rc_mdirT hm1 rfl hT1.1 hb (nI_is2 hkd2)) ?_
  refine RQ.brF rfl rfl rfl (by decide) ?_
  refine RQ.blk 4 (pc' := 116) (lv' := [(4, .int (nI l)), (0, .ref 196), (1, .int (nI a)), (2, .int (nI b)), (3, .int (nI k))]) (st' := [.int (nI k), .int 0, .int (nI a), .ref 196]) (H' := _) (kc' := 0) (ks' := 0) rfl ?_
  have hch := rc_mchild (sc := sc) (d := d + 3) (j := 0) (m := k) hm1 hT1 k5 h1961 (by omega) ha
  rw [hc] at hch
  have hcl := fstF_lt hc
  have hkc := k5 c (by omega)
  refine RQ.call (v := some (.int (nI c))) (st' := []) rfl rfl rfl rfl rfl rfl (args_v [.int (nI k), .int 0, .int (nI a)] [] rfl rfl (Nat.le_of_ble_eq_true rfl) rfl hm1 (Nat.le_of_ble_eq_true rfl)) hch ?_
  refine RQ.blk 3 (pc' := 127) (lv' := [(5, .int (nI c)), (4, .int (nI l)), (0, .ref 196), (1, .int (nI a)), (2, .int (nI b)), (3, .int (nI k))]) (st' := [.int (nI c)]) (H' := _) (kc' := 0) (ks' := 0) rfl ?_
  refine RQ.brT rfl rfl rfl (cT_ge c 0) ?_
  refine RQ.blk 6 (pc' := 143) (lv' := [(5, .int (nI c)), (4, .int (nI l)), (0, .ref 196), (1, .int (nI a)), (2, .int (nI b)), (3, .int (nI k))]) (st' := [.int (nI l - nI k), .int (nI k), .int (nI b), .ref 196]) (H' := _) (kc' := 0) (ks' := 0) rfl ?_
  rw [show (nI l - nI k : Int32) = nI (l - k) from pk_sub (a := l) (b := k) (by omega)]
  have hch2 := rc_mchild (sc := sc) (d := d + 3) (j := k) (m := l - k) hm1 hT1 k5 h1961 (by omega) hb
  rw [ht] at hch2
  have htl := fstF_lt ht
  have hkt := k5 t (by omega)
  refine RQ.call (v := some (.int (nI t))) (st' := []) rfl rfl rfl rfl rfl rfl (args_v [.int (nI (l - k)), .int (nI k), .int (nI b)] [] rfl rfl (Nat.le_of_ble_eq_true rfl) rfl hm1 (Nat.le_of_ble_eq_true rfl)) hch2 ?_
  refine RQ.blk 3 (pc' := 152) (lv' := [(6, .int (nI t)), (5, .int (nI c)), (4, .int (nI l)), (0, .ref 196), (1, .int (nI a)), (2, .int (nI b)), (3, .int (nI k))]) (st' := [.int (nI c), .int (nI t)]) (H' := _) (kc' := 0) (ks' := 0) rfl ?_
  refine RQ.brF rfl rfl rfl (cF_ne t c) ?_
  refine RQ.blk 1 (pc' := 157) (lv' := [(6, .int (nI t)), (5, .int (nI c)), (4, .int (nI l)), (0, .ref 196), (1, .int (nI a)), (2, .int (nI b)), (3, .int (nI k))]) (st' := [.int (nI c)]) (H' := _) (kc' := 0) (ks' := 0) rfl ?_
  exact RQ.done (c := 0) (s := 0) rfl rfl rfl rfl ⟨_, _, rfl, rfl, ⟨us, ba, bo, hm1, hV1, h51, h61, hR1, hT1, hP1, h1961, h1971⟩, fun a ha => f1 a (by omega)⟩
theorem neg1_ne (c : Nat) (h : c < 2 ^ 30) : ¬ ((-1 : Int32) = nI c) := fun e => by
  have h1 : ((-1 : Int32) < 0) := by decide
  rw [e] at h1
  exact absurd h1 (of_decide_eq_false (cF_lt (x := nI c) (y := 0) c 0 (by omega) (by omega) rfl rfl))
set_option maxRecDepth 20000 in
theorem ri_mrename_in {sc : Nat × (Nat → Int32)} {d l : Nat} {H : aH} {fa cw cl rs : Int32} {li : Nat} {tb : Nat → Int8} {g0 : Nat → Int8} {p : Nat} {ms : List aMV} {op : Nat → Bool} {se : Nat → Nat} {wss : Nat → List aE} {kd pa sz nl : Nat → Nat} {nm : Nat → Int8} {ps : List aPc} {a b k : Nat} {c : Nat} (h : RefI H fa li 0 cw cl tb l rs g0 p ms op se wss kd pa sz nl nm ps) (hk : RefOk l p ms se kd pa sz nl ps) (ha : a ≤ 200) (hb : b ≤ 200) (hk1 : 1 ≤ k) (hk30 : k ≤ 30) (hkl : k < l) (hl30 : l - k ≤ 30) (hn1 : noSl tb 0 k) (hn2 : noSl tb k (l - k)) (hkd : kd a = 2) (hkd2 : kd b = 2) (hc : (fstF (inN kd pa nl nm a (sl tb 0 k)) 1 200) = some c) (ht : (fstF (inN kd pa nl nm b (sl tb k (l - k))) 1 200) = none) (hup : upF pa c 201 b = 0 ∨ upF pa c 201 b = c) (kc : kd c = 2) (ki : upF pa c 201 b = c) : RI sc (d + 5) mr_317 [.ref 196, .int (nI a), .int (nI b), .int (nI k)] H (fun x H' => x = 0 ∧ RefI H' 4 li 0 cw cl tb 0 rs g0 p ms op se wss kd pa sz nl nm ps ∧ ∀ a, ¬ (195 ≤ a ∧ a < 224) → H'[a]? = H[a]?) := by
  obtain ⟨us, ba, bo, hm, hV, h5, h6, hR, hT, hP, h196, h197⟩ := h
  obtain ⟨k1, k2, k3, k4, k5, k6, k7, k8⟩ := hk
  refine RI.of ?_
  refine RQ.blk 2 (pc' := 2) (lv' := [(0, .ref 196), (1, .int (nI a)), (2, .int (nI b)), (3, .int (nI k))]) (st' := [.int 0, .ref 196]) (H' := _) (kc' := 0) (ks' := 0) rfl ?_
  refine RQ.put (ci := 12) rfl hm rfl rfl (Nat.le_of_ble_eq_true rfl) ?_
  have hm1 : (H.set 195 (kO 12 (mfs 0 (nI li) 0 cw cl (nI l) rs (nI p) (nI ms.length) (nI us) (nI ps.length) (nI (plen ps)) ba bo)))[195]? = some (kO 12 (mfs 0 (nI li) 0 cw cl (nI l) rs (nI p) (nI ms.length) (nI us) (nI ps.length) (nI (plen ps)) ba bo)) := get_set hm
  have f1 : ∀ a, a ≠ 195 → (H.set 195 (kO 12 (mfs 0 (nI li) 0 cw cl (nI l) rs (nI p) (nI ms.length) (nI us) (nI ps.length) (nI (plen ps)) ba bo)))[a]? = H[a]? := fun a ha => set_far ha
  show RQ _ _ _ 5 [(0, .ref 196), (1, .int (nI a)), (2, .int (nI b)), (3, .int (nI k))] [] (H.set 195 (kO 12 (mfs 0 (nI li) 0 cw cl (nI l) rs (nI p) (nI ms.length) (nI us) (nI ps.length) (nI (plen ps)) ba bo))) 0 0 _
  generalize (H.set 195 (kO 12 (mfs 0 (nI li) 0 cw cl (nI l) rs (nI p) (nI ms.length) (nI us) (nI ps.length) (nI (plen ps)) ba bo))) = H1 at hm1 f1 ⊢
  have hV1 := hV.far (fun a a1 a2 => f1 a (by omega)) (f1 223 (by decide))
  have h51 := (f1 205 (by decide)).trans h5
  have h61 := (f1 206 (by decide)).trans h6
  have hR1 := hR.far (fun a a1 => f1 a (by omega))
  have hT1 := hT.far (fun a a1 a2 => f1 a (by omega))
  have hP1 := hP.far (fun a a1 a2 => f1 a (by omega))
  have h1961 := (f1 196 (by decide)).trans h196
  have h1971 := (f1 197 (by decide)).trans h197
  have hka := k5 a ha
  have hkb := k5 b hb
  refine RQ.blk 3 (pc' := 10) (lv' := [(0, .ref 196), (1, .int (nI a)), (2, .int (nI b)), (3, .int (nI k))]) (st' := [.int 201, .int (nI a), .ref 196]) (H' := _) (kc' := 0) (ks' := 0) rfl ?_
  refine RQ.call (v := some (.int 0)) (st' := []) rfl rfl rfl rfl rfl rfl (args_v [.int 201, .int (nI a)] [] rfl rfl (Nat.le_of_ble_eq_true rfl) rfl hm1 (Nat.le_of_ble_eq_true rfl)) (rc_out (v := a) (m := 201) (by omega) (by decide)) ?_
  refine RQ.brF rfl rfl rfl (by decide) ?_
  refine RQ.blk 3 (pc' := 21) (lv' := [(0, .ref 196), (1, .int (nI a)), (2, .int (nI b)), (3, .int (nI k))]) (st' := [.int 201, .int (nI b), .ref 196]) (H' := _) (kc' := 0) (ks' := 0) rfl ?_
  refine RQ.call (v := some (.int 0)) (st' := []) rfl rfl rfl rfl rfl rfl (args_v [.int 201, .int (nI b)] [] rfl rfl (Nat.le_of_ble_eq_true rfl) rfl hm1 (Nat.le_of_ble_eq_true rfl)) (rc_out (v := b) (m := 201) (by omega) (by decide)) ?_
  refine RQ.brF rfl rfl rfl (by decide) ?_
  refine RQ.blk 5 (pc' := 32) (lv' := [(0, .ref 196), (1, .int (nI a)), (2, .int (nI b)), (3, .int (nI k))]) (st' := [.ref 196, .int (nI k), .ref 196, .int 0, .ref 196]) (H' := _) (kc' := 0) (ks' := 0) rfl ?_
  refine RQ.get (ci := 12) rfl hm1 rfl rfl ?_
  refine RQ.call (v := some (.int (nI (min k l)))) (st' := [.int 0, .ref 196]) rfl rfl rfl rfl rfl rfl (args_v [.int (nI l), .int (nI k)] [.int 0, .ref 196] rfl rfl (Nat.le_of_ble_eq_true rfl) rfl hm1 (Nat.le_of_ble_eq_true rfl)) (rc_mleast (a := k) (b := l) (by omega) (by omega)) ?_
  rw [show min k l = k by omega]
  refine RQ.call (v := some (.int 1)) (st' := []) rfl rfl rfl rfl rfl rfl (args_v [.int (nI k), .int 0] [] rfl rfl (Nat.le_of_ble_eq_true rfl) rfl hm1 (Nat.le_of_ble_eq_true rfl)) (rc_named1 (i := 0) (n := k) hm1 h1961 (by decide) (by omega) hk1 hk30 hn1) ?_
  refine RQ.brF rfl rfl rfl (by decide) ?_
  refine RQ.blk 2 (pc' := 46) (lv' := [(0, .ref 196), (1, .int (nI a)), (2, .int (nI b)), (3, .int (nI k))]) (st' := [.ref 196, .int (nI k)]) (H' := _) (kc' := 0) (ks' := 0) rfl ?_
  refine RQ.get (ci := 12) rfl hm1 rfl rfl ?_
  refine RQ.brF rfl rfl rfl (cF_gt k l) ?_
  refine RQ.blk 3 (pc' := 55) (lv' := [(0, .ref 196), (1, .int (nI a)), (2, .int (nI b)), (3, .int (nI k))]) (st' := [.ref 196, .int (nI k), .ref 196]) (H' := _) (kc' := 0) (ks' := 0) rfl ?_
  refine RQ.get (ci := 12) rfl hm1 rfl rfl ?_
  refine RQ.blk 2 (pc' := 60) (lv' := [(0, .ref 196), (1, .int (nI a)), (2, .int (nI b)), (3, .int (nI k))]) (st' := [.int (nI l - nI k), .int (nI k), .ref 196]) (H' := _) (kc' := 0) (ks' := 0) rfl ?_
  rw [show (nI l - nI k : Int32) = nI (l - k) from pk_sub (a := l) (b := k) (by omega)]
  refine RQ.call (v := some (.int 1)) (st' := []) rfl rfl rfl rfl rfl rfl (args_v [.int (nI (l - k)), .int (nI k)] [] rfl rfl (Nat.le_of_ble_eq_true rfl) rfl hm1 (Nat.le_of_ble_eq_true rfl)) (rc_named1 (i := k) (n := l - k) hm1 h1961 (by decide) (by omega) (by omega) hl30 hn2) ?_
  refine RQ.brT rfl rfl rfl (by decide) ?_
  refine RQ.blk 1 (pc' := 73) (lv' := [(0, .ref 196), (1, .int (nI a)), (2, .int (nI b)), (3, .int (nI k))]) (st' := [.ref 196]) (H' := _) (kc' := 0) (ks' := 0) rfl ?_
  refine RQ.get (ci := 12) rfl hm1 rfl rfl ?_
  refine RQ.brT rfl rfl rfl (by decide) ?_
  refine RQ.blk 1 (pc' := 86) (lv' := [(0, .ref 196), (1, .int (nI a)), (2, .int (nI b)), (3, .int (nI k))]) (st' := [.ref 196]) (H' := _) (kc' := 0) (ks' := 0) rfl ?_
  refine RQ.get (ci := 12) rfl hm1 rfl rfl ?_
  refine RQ.blk 3 (pc' := 93) (lv' := [(4, .int (nI l)), (0, .ref 196), (1, .int (nI a)), (2, .int (nI b)), (3, .int (nI k))]) (st' := [.int 0, .ref 196]) (H' := _) (kc' := 0) (ks' := 0) rfl ?_
  refine RQ.put (ci := 12) rfl hm1 rfl rfl (Nat.le_of_ble_eq_true rfl) ?_
  have hm2 : (H1.set 195 (kO 12 (mfs 0 (nI li) 0 cw cl (nI 0) rs (nI p) (nI ms.length) (nI us) (nI ps.length) (nI (plen ps)) ba bo)))[195]? = some (kO 12 (mfs 0 (nI li) 0 cw cl (nI 0) rs (nI p) (nI ms.length) (nI us) (nI ps.length) (nI (plen ps)) ba bo)) := get_set hm1
  have f2 : ∀ a, a ≠ 195 → (H1.set 195 (kO 12 (mfs 0 (nI li) 0 cw cl (nI 0) rs (nI p) (nI ms.length) (nI us) (nI ps.length) (nI (plen ps)) ba bo)))[a]? = H[a]? := fun a ha => (set_far ha).trans (f1 a ha)
  show RQ _ _ _ 96 [(4, .int (nI l)), (0, .ref 196), (1, .int (nI a)), (2, .int (nI b)), (3, .int (nI k))] [] (H1.set 195 (kO 12 (mfs 0 (nI li) 0 cw cl (nI 0) rs (nI p) (nI ms.length) (nI us) (nI ps.length) (nI (plen ps)) ba bo))) 0 0 _
  generalize (H1.set 195 (kO 12 (mfs 0 (nI li) 0 cw cl (nI 0) rs (nI p) (nI ms.length) (nI us) (nI ps.length) (nI (plen ps)) ba bo))) = H2 at hm2 f2 ⊢
  clear hm1 f1 hV1 h51 h61 hR1 hT1 hP1 h1961 h1971
  have hm1 := hm2
  have f1 := f2
  clear hm2 f2
  have hV1 := hV.far (fun a a1 a2 => f1 a (by omega)) (f1 223 (by decide))
  have h51 := (f1 205 (by decide)).trans h5
  have h61 := (f1 206 (by decide)).trans h6
  have hR1 := hR.far (fun a a1 => f1 a (by omega))
  have hT1 := hT.far (fun a a1 a2 => f1 a (by omega))
  have hP1 := hP.far (fun a a1 a2 => f1 a (by omega))
  have h1961 := (f1 196 (by decide)).trans h196
  have h1971 := (f1 197 (by decide)).trans h197
  refine RQ.blk 2 (pc' := 98) (lv' := [(4, .int (nI l)), (0, .ref 196), (1, .int (nI a)), (2, .int (nI b)), (3, .int (nI k))]) (st' := [.int (nI a), .ref 196]) (H' := _) (kc' := 0) (ks' := 0) rfl ?_
  refine RQ.call (v := some (.int 1)) (st' := []) rfl rfl rfl rfl rfl rfl (args_v [.int (nI a)] [] rfl rfl (Nat.le_of_ble_eq_true rfl) rfl hm1 (Nat.le_of_ble_eq_true rfl)) (rc_mdirT hm1 rfl hT1.1 ha (nI_is2 hkd)) ?_
  refine RQ.brF rfl rfl rfl (by decide) ?_
  refine RQ.blk 2 (pc' := 106) (lv' := [(4, .int (nI l)), (0, .ref 196), (1, .int (nI a)), (2, .int (nI b)), (3, .int (nI k))]) (st' := [.int (nI b), .ref 196]) (H' := _) (kc' := 0) (ks' := 0) rfl ?_
  refine RQ.call (v := some (.int 1)) (st' := []) rfl rfl rfl rfl rfl rfl (args_v [.int (nI b)] [] rfl rfl (Nat.le_of_ble_eq_true rfl) rfl hm1 (Nat.le_of_ble_eq_true rfl)) (rc_mdirT hm1 rfl hT1.1 hb (nI_is2 hkd2)) ?_
  refine RQ.brF rfl rfl rfl (by decide) ?_
  refine RQ.blk 4 (pc' := 116) (lv' := [(4, .int (nI l)), (0, .ref 196), (1, .int (nI a)), (2, .int (nI b)), (3, .int (nI k))]) (st' := [.int (nI k), .int 0, .int (nI a), .ref 196]) (H' := _) (kc' := 0) (ks' := 0) rfl ?_
  have hch := rc_mchild (sc := sc) (d := d + 3) (j := 0) (m := k) hm1 hT1 k5 h1961 (by omega) ha
  rw [hc] at hch
  have hcl := fstF_lt hc
  have hkc := k5 c (by omega)
  refine RQ.call (v := some (.int (nI c))) (st' := []) rfl rfl rfl rfl rfl rfl (args_v [.int (nI k), .int 0, .int (nI a)] [] rfl rfl (Nat.le_of_ble_eq_true rfl) rfl hm1 (Nat.le_of_ble_eq_true rfl)) hch ?_
  refine RQ.blk 3 (pc' := 127) (lv' := [(5, .int (nI c)), (4, .int (nI l)), (0, .ref 196), (1, .int (nI a)), (2, .int (nI b)), (3, .int (nI k))]) (st' := [.int (nI c)]) (H' := _) (kc' := 0) (ks' := 0) rfl ?_
  refine RQ.brT rfl rfl rfl (cT_ge c 0) ?_
  refine RQ.blk 6 (pc' := 143) (lv' := [(5, .int (nI c)), (4, .int (nI l)), (0, .ref 196), (1, .int (nI a)), (2, .int (nI b)), (3, .int (nI k))]) (st' := [.int (nI l - nI k), .int (nI k), .int (nI b), .ref 196]) (H' := _) (kc' := 0) (ks' := 0) rfl ?_
  rw [show (nI l - nI k : Int32) = nI (l - k) from pk_sub (a := l) (b := k) (by omega)]
  have hch2 := rc_mchild (sc := sc) (d := d + 3) (j := k) (m := l - k) hm1 hT1 k5 h1961 (by omega) hb
  rw [ht] at hch2
  refine RQ.call (v := some (.int (-1))) (st' := []) rfl rfl rfl rfl rfl rfl (args_v [.int (nI (l - k)), .int (nI k), .int (nI b)] [] rfl rfl (Nat.le_of_ble_eq_true rfl) rfl hm1 (Nat.le_of_ble_eq_true rfl)) hch2 ?_
  refine RQ.blk 3 (pc' := 152) (lv' := [(6, .int (-1)), (5, .int (nI c)), (4, .int (nI l)), (0, .ref 196), (1, .int (nI a)), (2, .int (nI b)), (3, .int (nI k))]) (st' := [.int (nI c), .int (-1)]) (H' := _) (kc' := 0) (ks' := 0) rfl ?_
  refine RQ.brT rfl rfl rfl (bnt (neg1_ne c (by omega))) ?_
  refine RQ.blk 2 (pc' := 161) (lv' := [(6, .int (-1)), (5, .int (nI c)), (4, .int (nI l)), (0, .ref 196), (1, .int (nI a)), (2, .int (nI b)), (3, .int (nI k))]) (st' := [.int (nI c), .ref 196]) (H' := _) (kc' := 0) (ks' := 0) rfl ?_
  refine RQ.call (v := some (.int 1)) (st' := []) rfl rfl rfl rfl rfl rfl (args_v [.int (nI c)] [] rfl rfl (Nat.le_of_ble_eq_true rfl) rfl hm1 (Nat.le_of_ble_eq_true rfl)) (rc_mdirT hm1 rfl hT1.1 (by omega) (nI_is2 kc)) ?_
  refine RQ.brF rfl rfl rfl (by decide) ?_
  refine RQ.blk 3 (pc' := 171) (lv' := [(6, .int (-1)), (5, .int (nI c)), (4, .int (nI l)), (0, .ref 196), (1, .int (nI a)), (2, .int (nI b)), (3, .int (nI k))]) (st' := [.int (nI c), .int (nI b), .ref 196]) (H' := _) (kc' := 0) (ks' := 0) rfl ?_
  have hin := rc_minside (sc := sc) (d := d + 4) hm1 hT1.2.1 (fun w hw => (k5 w hw).2.1) hb (show c ≤ 200 by omega) hup
  rw [if_pos ki] at hin
  refine RQ.call (v := some (.int 1)) (st' := []) rfl rfl rfl rfl rfl rfl (args_v [.int (nI c), .int (nI b)] [] rfl rfl (Nat.le_of_ble_eq_true rfl) rfl hm1 (Nat.le_of_ble_eq_true rfl)) hin ?_
  refine RQ.brT rfl rfl rfl (by decide) ?_
  refine RQ.blk 2 (pc' := 202) (lv' := [(6, .int (-1)), (5, .int (nI c)), (4, .int (nI l)), (0, .ref 196), (1, .int (nI a)), (2, .int (nI b)), (3, .int (nI k))]) (st' := [.int 4, .ref 196]) (H' := _) (kc' := 0) (ks' := 0) rfl ?_
  refine RQ.call (v := some (.int 0)) (st' := []) rfl rfl rfl rfl rfl rfl (args_v [.int 4] [] rfl rfl (Nat.le_of_ble_eq_true rfl) rfl hm1 (Nat.le_of_ble_eq_true rfl)) (rc_mfail hm1 rfl) ?_
  exact RQ.done (c := 0) (s := 0) rfl rfl rfl rfl ⟨_, _, rfl, rfl, ⟨us, ba, bo, get_set hm1, hV1.far (fun a a1 a2 => set_far (by omega)) (set_far (by decide)), (set_far (by decide)).trans h51, (set_far (by decide)).trans h61, hR1.far (fun a a1 => set_far (by omega)), hT1.far (fun a a1 a2 => set_far (by omega)), hP1.far (fun a a1 a2 => set_far (by omega)), (set_far (by decide)).trans h1961, (set_far (by decide)).trans h1971⟩, fun a ha => (set_far (by omega)).trans (f1 a (by omega))⟩
set_option maxRecDepth 20000 in
theorem ri_mrename_clash {sc : Nat × (Nat → Int32)} {d l : Nat} {H : aH} {fa cw cl rs : Int32} {li : Nat} {tb : Nat → Int8} {g0 : Nat → Int8} {p : Nat} {ms : List aMV} {op : Nat → Bool} {se : Nat → Nat} {wss : Nat → List aE} {kd pa sz nl : Nat → Nat} {nm : Nat → Int8} {ps : List aPc} {a b k : Nat} {c t : Nat} (h : RefI H fa li 0 cw cl tb l rs g0 p ms op se wss kd pa sz nl nm ps) (hk : RefOk l p ms se kd pa sz nl ps) (ha : a ≤ 200) (hb : b ≤ 200) (hk1 : 1 ≤ k) (hk30 : k ≤ 30) (hkl : k < l) (hl30 : l - k ≤ 30) (hn1 : noSl tb 0 k) (hn2 : noSl tb k (l - k)) (hkd : kd a = 2) (hkd2 : kd b = 2) (hc : (fstF (inN kd pa nl nm a (sl tb 0 k)) 1 200) = some c) (ht : (fstF (inN kd pa nl nm b (sl tb k (l - k))) 1 200) = some t) (htc : ¬ t = c) (hup : upF pa c 201 b = 0 ∨ upF pa c 201 b = c) (hcl4 : kd c = 2 ∨ kd t = 2) : RI sc (d + 5) mr_317 [.ref 196, .int (nI a), .int (nI b), .int (nI k)] H (fun x H' => x = 0 ∧ RefI H' 4 li 0 cw cl tb 0 rs g0 p ms op se wss kd pa sz nl nm ps ∧ ∀ a, ¬ (195 ≤ a ∧ a < 224) → H'[a]? = H[a]?) := by
  obtain ⟨us, ba, bo, hm, hV, h5, h6, hR, hT, hP, h196, h197⟩ := h
  obtain ⟨k1, k2, k3, k4, k5, k6, k7, k8⟩ := hk
  refine RI.of ?_
  refine RQ.blk 2 (pc' := 2) (lv' := [(0, .ref 196), (1, .int (nI a)), (2, .int (nI b)), (3, .int (nI k))]) (st' := [.int 0, .ref 196]) (H' := _) (kc' := 0) (ks' := 0) rfl ?_
  refine RQ.put (ci := 12) rfl hm rfl rfl (Nat.le_of_ble_eq_true rfl) ?_
  have hm1 : (H.set 195 (kO 12 (mfs 0 (nI li) 0 cw cl (nI l) rs (nI p) (nI ms.length) (nI us) (nI ps.length) (nI (plen ps)) ba bo)))[195]? = some (kO 12 (mfs 0 (nI li) 0 cw cl (nI l) rs (nI p) (nI ms.length) (nI us) (nI ps.length) (nI (plen ps)) ba bo)) := get_set hm
  have f1 : ∀ a, a ≠ 195 → (H.set 195 (kO 12 (mfs 0 (nI li) 0 cw cl (nI l) rs (nI p) (nI ms.length) (nI us) (nI ps.length) (nI (plen ps)) ba bo)))[a]? = H[a]? := fun a ha => set_far ha
  show RQ _ _ _ 5 [(0, .ref 196), (1, .int (nI a)), (2, .int (nI b)), (3, .int (nI k))] [] (H.set 195 (kO 12 (mfs 0 (nI li) 0 cw cl (nI l) rs (nI p) (nI ms.length) (nI us) (nI ps.length) (nI (plen ps)) ba bo))) 0 0 _
  generalize (H.set 195 (kO 12 (mfs 0 (nI li) 0 cw cl (nI l) rs (nI p) (nI ms.length) (nI us) (nI ps.length) (nI (plen ps)) ba bo))) = H1 at hm1 f1 ⊢
  have hV1 := hV.far (fun a a1 a2 => f1 a (by omega)) (f1 223 (by decide))
  have h51 := (f1 205 (by decide)).trans h5
  have h61 := (f1 206 (by decide)).trans h6
  have hR1 := hR.far (fun a a1 => f1 a (by omega))
  have hT1 := hT.far (fun a a1 a2 => f1 a (by omega))
  have hP1 := hP.far (fun a a1 a2 => f1 a (by omega))
  have h1961 := (f1 196 (by decide)).trans h196
  have h1971 := (f1 197 (by decide)).trans h197
  have hka := k5 a ha
  have hkb := k5 b hb
  refine RQ.blk 3 (pc' := 10) (lv' := [(0, .ref 196), (1, .int (nI a)), (2, .int (nI b)), (3, .int (nI k))]) (st' := [.int 201, .int (nI a), .ref 196]) (H' := _) (kc' := 0) (ks' := 0) rfl ?_
  refine RQ.call (v := some (.int 0)) (st' := []) rfl rfl rfl rfl rfl rfl (args_v [.int 201, .int (nI a)] [] rfl rfl (Nat.le_of_ble_eq_true rfl) rfl hm1 (Nat.le_of_ble_eq_true rfl)) (rc_out (v := a) (m := 201) (by omega) (by decide)) ?_
  refine RQ.brF rfl rfl rfl (by decide) ?_
  refine RQ.blk 3 (pc' := 21) (lv' := [(0, .ref 196), (1, .int (nI a)), (2, .int (nI b)), (3, .int (nI k))]) (st' := [.int 201, .int (nI b), .ref 196]) (H' := _) (kc' := 0) (ks' := 0) rfl ?_
  refine RQ.call (v := some (.int 0)) (st' := []) rfl rfl rfl rfl rfl rfl (args_v [.int 201, .int (nI b)] [] rfl rfl (Nat.le_of_ble_eq_true rfl) rfl hm1 (Nat.le_of_ble_eq_true rfl)) (rc_out (v := b) (m := 201) (by omega) (by decide)) ?_
  refine RQ.brF rfl rfl rfl (by decide) ?_
  refine RQ.blk 5 (pc' := 32) (lv' := [(0, .ref 196), (1, .int (nI a)), (2, .int (nI b)), (3, .int (nI k))]) (st' := [.ref 196, .int (nI k), .ref 196, .int 0, .ref 196]) (H' := _) (kc' := 0) (ks' := 0) rfl ?_
  refine RQ.get (ci := 12) rfl hm1 rfl rfl ?_
  refine RQ.call (v := some (.int (nI (min k l)))) (st' := [.int 0, .ref 196]) rfl rfl rfl rfl rfl rfl (args_v [.int (nI l), .int (nI k)] [.int 0, .ref 196] rfl rfl (Nat.le_of_ble_eq_true rfl) rfl hm1 (Nat.le_of_ble_eq_true rfl)) (rc_mleast (a := k) (b := l) (by omega) (by omega)) ?_
  rw [show min k l = k by omega]
  refine RQ.call (v := some (.int 1)) (st' := []) rfl rfl rfl rfl rfl rfl (args_v [.int (nI k), .int 0] [] rfl rfl (Nat.le_of_ble_eq_true rfl) rfl hm1 (Nat.le_of_ble_eq_true rfl)) (rc_named1 (i := 0) (n := k) hm1 h1961 (by decide) (by omega) hk1 hk30 hn1) ?_
  refine RQ.brF rfl rfl rfl (by decide) ?_
  refine RQ.blk 2 (pc' := 46) (lv' := [(0, .ref 196), (1, .int (nI a)), (2, .int (nI b)), (3, .int (nI k))]) (st' := [.ref 196, .int (nI k)]) (H' := _) (kc' := 0) (ks' := 0) rfl ?_
  refine RQ.get (ci := 12) rfl hm1 rfl rfl ?_
  refine RQ.brF rfl rfl rfl (cF_gt k l) ?_
  refine RQ.blk 3 (pc' := 55) (lv' := [(0, .ref 196), (1, .int (nI a)), (2, .int (nI b)), (3, .int (nI k))]) (st' := [.ref 196, .int (nI k), .ref 196]) (H' := _) (kc' := 0) (ks' := 0) rfl ?_
  refine RQ.get (ci := 12) rfl hm1 rfl rfl ?_
  refine RQ.blk 2 (pc' := 60) (lv' := [(0, .ref 196), (1, .int (nI a)), (2, .int (nI b)), (3, .int (nI k))]) (st' := [.int (nI l - nI k), .int (nI k), .ref 196]) (H' := _) (kc' := 0) (ks' := 0) rfl ?_
  rw [show (nI l - nI k : Int32) = nI (l - k) from pk_sub (a := l) (b := k) (by omega)]
  refine RQ.call (v := some (.int 1)) (st' := []) rfl rfl rfl rfl rfl rfl (args_v [.int (nI (l - k)), .int (nI k)] [] rfl rfl (Nat.le_of_ble_eq_true rfl) rfl hm1 (Nat.le_of_ble_eq_true rfl)) (rc_named1 (i := k) (n := l - k) hm1 h1961 (by decide) (by omega) (by omega) hl30 hn2) ?_
  refine RQ.brT rfl rfl rfl (by decide) ?_
  refine RQ.blk 1 (pc' := 73) (lv' := [(0, .ref 196), (1, .int (nI a)), (2, .int (nI b)), (3, .int (nI k))]) (st' := [.ref 196]) (H' := _) (kc' := 0) (ks' := 0) rfl ?_
  refine RQ.get (ci := 12) rfl hm1 rfl rfl ?_
  refine RQ.brT rfl rfl rfl (by decide) ?_
  refine RQ.blk 1 (pc' := 86) (lv' := [(0, .ref 196), (1, .int (nI a)), (2, .int (nI b)), (3, .int (nI k))]) (st' := [.ref 196]) (H' := _) (kc' := 0) (ks' := 0) rfl ?_
  refine RQ.get (ci := 12) rfl hm1 rfl rfl ?_
  refine RQ.blk 3 (pc' := 93) (lv' := [(4, .int (nI l)), (0, .ref 196), (1, .int (nI a)), (2, .int (nI b)), (3, .int (nI k))]) (st' := [.int 0, .ref 196]) (H' := _) (kc' := 0) (ks' := 0) rfl ?_
  refine RQ.put (ci := 12) rfl hm1 rfl rfl (Nat.le_of_ble_eq_true rfl) ?_
  have hm2 : (H1.set 195 (kO 12 (mfs 0 (nI li) 0 cw cl (nI 0) rs (nI p) (nI ms.length) (nI us) (nI ps.length) (nI (plen ps)) ba bo)))[195]? = some (kO 12 (mfs 0 (nI li) 0 cw cl (nI 0) rs (nI p) (nI ms.length) (nI us) (nI ps.length) (nI (plen ps)) ba bo)) := get_set hm1
  have f2 : ∀ a, a ≠ 195 → (H1.set 195 (kO 12 (mfs 0 (nI li) 0 cw cl (nI 0) rs (nI p) (nI ms.length) (nI us) (nI ps.length) (nI (plen ps)) ba bo)))[a]? = H[a]? := fun a ha => (set_far ha).trans (f1 a ha)
  show RQ _ _ _ 96 [(4, .int (nI l)), (0, .ref 196), (1, .int (nI a)), (2, .int (nI b)), (3, .int (nI k))] [] (H1.set 195 (kO 12 (mfs 0 (nI li) 0 cw cl (nI 0) rs (nI p) (nI ms.length) (nI us) (nI ps.length) (nI (plen ps)) ba bo))) 0 0 _
  generalize (H1.set 195 (kO 12 (mfs 0 (nI li) 0 cw cl (nI 0) rs (nI p) (nI ms.length) (nI us) (nI ps.length) (nI (plen ps)) ba bo))) = H2 at hm2 f2 ⊢
  clear hm1 f1 hV1 h51 h61 hR1 hT1 hP1 h1961 h1971
  have hm1 := hm2
  have f1 := f2
  clear hm2 f2
  have hV1 := hV.far (fun a a1 a2 => f1 a (by omega)) (f1 223 (by decide))
  have h51 := (f1 205 (by decide)).trans h5
  have h61 := (f1 206 (by decide)).trans h6
  have hR1 := hR.far (fun a a1 => f1 a (by omega))
  have hT1 := hT.far (fun a a1 a2 => f1 a (by omega))
  have hP1 := hP.far (fun a a1 a2 => f1 a (by omega))
  have h1961 := (f1 196 (by decide)).trans h196
  have h1971 := (f1 197 (by decide)).trans h197
  refine RQ.blk 2 (pc' := 98) (lv' := [(4, .int (nI l)), (0, .ref 196), (1, .int (nI a)), (2, .int (nI b)), (3, .int (nI k))]) (st' := [.int (nI a), .ref 196]) (H' := _) (kc' := 0) (ks' := 0) rfl ?_
  refine RQ.call (v := some (.int 1)) (st' := []) rfl rfl rfl rfl rfl rfl (args_v [.int (nI a)] [] rfl rfl (Nat.le_of_ble_eq_true rfl) rfl hm1 (Nat.le_of_ble_eq_true rfl)) (rc_mdirT hm1 rfl hT1.1 ha (nI_is2 hkd)) ?_
  refine RQ.brF rfl rfl rfl (by decide) ?_
  refine RQ.blk 2 (pc' := 106) (lv' := [(4, .int (nI l)), (0, .ref 196), (1, .int (nI a)), (2, .int (nI b)), (3, .int (nI k))]) (st' := [.int (nI b), .ref 196]) (H' := _) (kc' := 0) (ks' := 0) rfl ?_
  refine RQ.call (v := some (.int 1)) (st' := []) rfl rfl rfl rfl rfl rfl (args_v [.int (nI b)] [] rfl rfl (Nat.le_of_ble_eq_true rfl) rfl hm1 (Nat.le_of_ble_eq_true rfl)) (rc_mdirT hm1 rfl hT1.1 hb (nI_is2 hkd2)) ?_
  refine RQ.brF rfl rfl rfl (by decide) ?_
  refine RQ.blk 4 (pc' := 116) (lv' := [(4, .int (nI l)), (0, .ref 196), (1, .int (nI a)), (2, .int (nI b)), (3, .int (nI k))]) (st' := [.int (nI k), .int 0, .int (nI a), .ref 196]) (H' := _) (kc' := 0) (ks' := 0) rfl ?_
  have hch := rc_mchild (sc := sc) (d := d + 3) (j := 0) (m := k) hm1 hT1 k5 h1961 (by omega) ha
  rw [hc] at hch
  have hcl := fstF_lt hc
  have hkc := k5 c (by omega)
  refine RQ.call (v := some (.int (nI c))) (st' := []) rfl rfl rfl rfl rfl rfl (args_v [.int (nI k), .int 0, .int (nI a)] [] rfl rfl (Nat.le_of_ble_eq_true rfl) rfl hm1 (Nat.le_of_ble_eq_true rfl)) hch ?_
  refine RQ.blk 3 (pc' := 127) (lv' := [(5, .int (nI c)), (4, .int (nI l)), (0, .ref 196), (1, .int (nI a)), (2, .int (nI b)), (3, .int (nI k))]) (st' := [.int (nI c)]) (H' := _) (kc' := 0) (ks' := 0) rfl ?_
  refine RQ.brT rfl rfl rfl (cT_ge c 0) ?_
  refine RQ.blk 6 (pc' := 143) (lv' := [(5, .int (nI c)), (4, .int (nI l)), (0, .ref 196), (1, .int (nI a)), (2, .int (nI b)), (3, .int (nI k))]) (st' := [.int (nI l - nI k), .int (nI k), .int (nI b), .ref 196]) (H' := _) (kc' := 0) (ks' := 0) rfl ?_
  rw [show (nI l - nI k : Int32) = nI (l - k) from pk_sub (a := l) (b := k) (by omega)]
  have hch2 := rc_mchild (sc := sc) (d := d + 3) (j := k) (m := l - k) hm1 hT1 k5 h1961 (by omega) hb
  rw [ht] at hch2
  have htl := fstF_lt ht
  have hkt := k5 t (by omega)
  refine RQ.call (v := some (.int (nI t))) (st' := []) rfl rfl rfl rfl rfl rfl (args_v [.int (nI (l - k)), .int (nI k), .int (nI b)] [] rfl rfl (Nat.le_of_ble_eq_true rfl) rfl hm1 (Nat.le_of_ble_eq_true rfl)) hch2 ?_
  refine RQ.blk 3 (pc' := 152) (lv' := [(6, .int (nI t)), (5, .int (nI c)), (4, .int (nI l)), (0, .ref 196), (1, .int (nI a)), (2, .int (nI b)), (3, .int (nI k))]) (st' := [.int (nI c), .int (nI t)]) (H' := _) (kc' := 0) (ks' := 0) rfl ?_
  refine RQ.brT rfl rfl rfl (cT_ne t c) ?_
  refine RQ.blk 2 (pc' := 161) (lv' := [(6, .int (nI t)), (5, .int (nI c)), (4, .int (nI l)), (0, .ref 196), (1, .int (nI a)), (2, .int (nI b)), (3, .int (nI k))]) (st' := [.int (nI c), .ref 196]) (H' := _) (kc' := 0) (ks' := 0) rfl ?_
  by_cases kc : kd c = 2
  · refine RQ.call (v := some (.int 1)) (st' := []) rfl rfl rfl rfl rfl rfl (args_v [.int (nI c)] [] rfl rfl (Nat.le_of_ble_eq_true rfl) rfl hm1 (Nat.le_of_ble_eq_true rfl)) (rc_mdirT hm1 rfl hT1.1 (by omega) (nI_is2 kc)) ?_
    refine RQ.brF rfl rfl rfl (by decide) ?_
    refine RQ.blk 3 (pc' := 171) (lv' := [(6, .int (nI t)), (5, .int (nI c)), (4, .int (nI l)), (0, .ref 196), (1, .int (nI a)), (2, .int (nI b)), (3, .int (nI k))]) (st' := [.int (nI c), .int (nI b), .ref 196]) (H' := _) (kc' := 0) (ks' := 0) rfl ?_
    by_cases ki : upF pa c 201 b = c
    · have hin := rc_minside (sc := sc) (d := d + 4) hm1 hT1.2.1 (fun w hw => (k5 w hw).2.1) hb (show c ≤ 200 by omega) hup
      rw [if_pos ki] at hin
      refine RQ.call (v := some (.int 1)) (st' := []) rfl rfl rfl rfl rfl rfl (args_v [.int (nI c), .int (nI b)] [] rfl rfl (Nat.le_of_ble_eq_true rfl) rfl hm1 (Nat.le_of_ble_eq_true rfl)) hin ?_
      refine RQ.brT rfl rfl rfl (by decide) ?_
      refine RQ.blk 2 (pc' := 202) (lv' := [(6, .int (nI t)), (5, .int (nI c)), (4, .int (nI l)), (0, .ref 196), (1, .int (nI a)), (2, .int (nI b)), (3, .int (nI k))]) (st' := [.int 4, .ref 196]) (H' := _) (kc' := 0) (ks' := 0) rfl ?_
      refine RQ.call (v := some (.int 0)) (st' := []) rfl rfl rfl rfl rfl rfl (args_v [.int 4] [] rfl rfl (Nat.le_of_ble_eq_true rfl) rfl hm1 (Nat.le_of_ble_eq_true rfl)) (rc_mfail hm1 rfl) ?_
      exact RQ.done (c := 0) (s := 0) rfl rfl rfl rfl ⟨_, _, rfl, rfl, ⟨us, ba, bo, get_set hm1, hV1.far (fun a a1 a2 => set_far (by omega)) (set_far (by decide)), (set_far (by decide)).trans h51, (set_far (by decide)).trans h61, hR1.far (fun a a1 => set_far (by omega)), hT1.far (fun a a1 a2 => set_far (by omega)), hP1.far (fun a a1 a2 => set_far (by omega)), (set_far (by decide)).trans h1961, (set_far (by decide)).trans h1971⟩, fun a ha => (set_far (by omega)).trans (f1 a (by omega))⟩
    · have hin := rc_minside (sc := sc) (d := d + 4) hm1 hT1.2.1 (fun w hw => (k5 w hw).2.1) hb (show c ≤ 200 by omega) hup
      rw [if_neg ki] at hin
      refine RQ.call (v := some (.int 0)) (st' := []) rfl rfl rfl rfl rfl rfl (args_v [.int (nI c), .int (nI b)] [] rfl rfl (Nat.le_of_ble_eq_true rfl) rfl hm1 (Nat.le_of_ble_eq_true rfl)) hin ?_
      refine RQ.brF rfl rfl rfl (by decide) ?_
      refine RQ.blk 1 (pc' := 179) (lv' := [(6, .int (nI t)), (5, .int (nI c)), (4, .int (nI l)), (0, .ref 196), (1, .int (nI a)), (2, .int (nI b)), (3, .int (nI k))]) (st' := [.int (nI t)]) (H' := _) (kc' := 0) (ks' := 0) rfl ?_
      refine RQ.brF rfl rfl rfl (cF_lt t 0) ?_
      refine RQ.blk 2 (pc' := 185) (lv' := [(6, .int (nI t)), (5, .int (nI c)), (4, .int (nI l)), (0, .ref 196), (1, .int (nI a)), (2, .int (nI b)), (3, .int (nI k))]) (st' := [.int (nI t), .ref 196]) (H' := _) (kc' := 0) (ks' := 0) rfl ?_
      by_cases kt : kd t = 2
      · refine RQ.call (v := some (.int 1)) (st' := []) rfl rfl rfl rfl rfl rfl (args_v [.int (nI t)] [] rfl rfl (Nat.le_of_ble_eq_true rfl) rfl hm1 (Nat.le_of_ble_eq_true rfl)) (rc_mdirT hm1 rfl hT1.1 (by omega) (nI_is2 kt)) ?_
        refine RQ.brT rfl rfl rfl (by decide) ?_
        refine RQ.blk 2 (pc' := 202) (lv' := [(6, .int (nI t)), (5, .int (nI c)), (4, .int (nI l)), (0, .ref 196), (1, .int (nI a)), (2, .int (nI b)), (3, .int (nI k))]) (st' := [.int 4, .ref 196]) (H' := _) (kc' := 0) (ks' := 0) rfl ?_
        refine RQ.call (v := some (.int 0)) (st' := []) rfl rfl rfl rfl rfl rfl (args_v [.int 4] [] rfl rfl (Nat.le_of_ble_eq_true rfl) rfl hm1 (Nat.le_of_ble_eq_true rfl)) (rc_mfail hm1 rfl) ?_
        exact RQ.done (c := 0) (s := 0) rfl rfl rfl rfl ⟨_, _, rfl, rfl, ⟨us, ba, bo, get_set hm1, hV1.far (fun a a1 a2 => set_far (by omega)) (set_far (by decide)), (set_far (by decide)).trans h51, (set_far (by decide)).trans h61, hR1.far (fun a a1 => set_far (by omega)), hT1.far (fun a a1 a2 => set_far (by omega)), hP1.far (fun a a1 a2 => set_far (by omega)), (set_far (by decide)).trans h1961, (set_far (by decide)).trans h1971⟩, fun a ha => (set_far (by omega)).trans (f1 a (by omega))⟩
      · refine RQ.call (v := some (.int 0)) (st' := []) rfl rfl rfl rfl rfl rfl (args_v [.int (nI t)] [] rfl rfl (Nat.le_of_ble_eq_true rfl) rfl hm1 (Nat.le_of_ble_eq_true rfl)) (rc_mdirF hm1 rfl hT1.1 (by omega) (nI_ne2 hkt.1 kt)) ?_
        refine RQ.brF rfl rfl rfl (by decide) ?_
        refine RQ.blk 2 (pc' := 194) (lv' := [(6, .int (nI t)), (5, .int (nI c)), (4, .int (nI l)), (0, .ref 196), (1, .int (nI a)), (2, .int (nI b)), (3, .int (nI k))]) (st' := [.int (nI c), .ref 196]) (H' := _) (kc' := 0) (ks' := 0) rfl ?_
        refine RQ.call (v := some (.int 1)) (st' := []) rfl rfl rfl rfl rfl rfl (args_v [.int (nI c)] [] rfl rfl (Nat.le_of_ble_eq_true rfl) rfl hm1 (Nat.le_of_ble_eq_true rfl)) (rc_mdirT hm1 rfl hT1.1 (by omega) (nI_is2 kc)) ?_
        refine RQ.brF rfl rfl rfl (by decide) ?_
        refine RQ.blk 2 (pc' := 202) (lv' := [(6, .int (nI t)), (5, .int (nI c)), (4, .int (nI l)), (0, .ref 196), (1, .int (nI a)), (2, .int (nI b)), (3, .int (nI k))]) (st' := [.int 4, .ref 196]) (H' := _) (kc' := 0) (ks' := 0) rfl ?_
        refine RQ.call (v := some (.int 0)) (st' := []) rfl rfl rfl rfl rfl rfl (args_v [.int 4] [] rfl rfl (Nat.le_of_ble_eq_true rfl) rfl hm1 (Nat.le_of_ble_eq_true rfl)) (rc_mfail hm1 rfl) ?_
        exact RQ.done (c := 0) (s := 0) rfl rfl rfl rfl ⟨_, _, rfl, rfl, ⟨us, ba, bo, get_set hm1, hV1.far (fun a a1 a2 => set_far (by omega)) (set_far (by decide)), (set_far (by decide)).trans h51, (set_far (by decide)).trans h61, hR1.far (fun a a1 => set_far (by omega)), hT1.far (fun a a1 a2 => set_far (by omega)), hP1.far (fun a a1 a2 => set_far (by omega)), (set_far (by decide)).trans h1961, (set_far (by decide)).trans h1971⟩, fun a ha => (set_far (by omega)).trans (f1 a (by omega))⟩
  · refine RQ.call (v := some (.int 0)) (st' := []) rfl rfl rfl rfl rfl rfl (args_v [.int (nI c)] [] rfl rfl (Nat.le_of_ble_eq_true rfl) rfl hm1 (Nat.le_of_ble_eq_true rfl)) (rc_mdirF hm1 rfl hT1.1 (by omega) (nI_ne2 hkc.1 kc)) ?_
    refine RQ.brT rfl rfl rfl (by decide) ?_
    refine RQ.blk 1 (pc' := 179) (lv' := [(6, .int (nI t)), (5, .int (nI c)), (4, .int (nI l)), (0, .ref 196), (1, .int (nI a)), (2, .int (nI b)), (3, .int (nI k))]) (st' := [.int (nI t)]) (H' := _) (kc' := 0) (ks' := 0) rfl ?_
    refine RQ.brF rfl rfl rfl (cF_lt t 0) ?_
    refine RQ.blk 2 (pc' := 185) (lv' := [(6, .int (nI t)), (5, .int (nI c)), (4, .int (nI l)), (0, .ref 196), (1, .int (nI a)), (2, .int (nI b)), (3, .int (nI k))]) (st' := [.int (nI t), .ref 196]) (H' := _) (kc' := 0) (ks' := 0) rfl ?_
    have kt : kd t = 2 := hcl4.resolve_left kc
    refine RQ.call (v := some (.int 1)) (st' := []) rfl rfl rfl rfl rfl rfl (args_v [.int (nI t)] [] rfl rfl (Nat.le_of_ble_eq_true rfl) rfl hm1 (Nat.le_of_ble_eq_true rfl)) (rc_mdirT hm1 rfl hT1.1 (by omega) (nI_is2 kt)) ?_
    refine RQ.brT rfl rfl rfl (by decide) ?_
    refine RQ.blk 2 (pc' := 202) (lv' := [(6, .int (nI t)), (5, .int (nI c)), (4, .int (nI l)), (0, .ref 196), (1, .int (nI a)), (2, .int (nI b)), (3, .int (nI k))]) (st' := [.int 4, .ref 196]) (H' := _) (kc' := 0) (ks' := 0) rfl ?_
    refine RQ.call (v := some (.int 0)) (st' := []) rfl rfl rfl rfl rfl rfl (args_v [.int 4] [] rfl rfl (Nat.le_of_ble_eq_true rfl) rfl hm1 (Nat.le_of_ble_eq_true rfl)) (rc_mfail hm1 rfl) ?_
    exact RQ.done (c := 0) (s := 0) rfl rfl rfl rfl ⟨_, _, rfl, rfl, ⟨us, ba, bo, get_set hm1, hV1.far (fun a a1 a2 => set_far (by omega)) (set_far (by decide)), (set_far (by decide)).trans h51, (set_far (by decide)).trans h61, hR1.far (fun a a1 => set_far (by omega)), hT1.far (fun a a1 a2 => set_far (by omega)), hP1.far (fun a a1 a2 => set_far (by omega)), (set_far (by decide)).trans h1961, (set_far (by decide)).trans h1971⟩, fun a ha => (set_far (by omega)).trans (f1 a (by omega))⟩
set_option maxRecDepth 20000 in
theorem ri_mrename0_full {sc : Nat × (Nat → Int32)} {d l : Nat} {H : aH} {fa cw cl rs : Int32} {li : Nat} {tb : Nat → Int8} {g0 : Nat → Int8} {p : Nat} {ms : List aMV} {op : Nat → Bool} {se : Nat → Nat} {wss : Nat → List aE} {kd pa sz nl : Nat → Nat} {nm : Nat → Int8} {ps : List aPc} {a b k : Nat} {c : Nat} (h : RefI H fa li 0 cw cl tb l rs g0 p ms op se wss kd pa sz nl nm ps) (hk : RefOk l p ms se kd pa sz nl ps) (ha : a ≤ 200) (hb : b ≤ 200) (hk1 : 1 ≤ k) (hk30 : k ≤ 30) (hkl : k < l) (hl30 : l - k ≤ 30) (hn1 : noSl tb 0 k) (hn2 : noSl tb k (l - k)) (hkd : kd a = 2) (hkd2 : kd b = 2) (hc : (fstF (inN kd pa nl nm a (sl tb 0 k)) 1 200) = some c) (ht : (fstF (inN kd pa nl nm b (sl tb k (l - k))) 1 200) = none) (hup : upF pa c 201 b = 0 ∨ upF pa c 201 b = c) (hni : ¬ (kd c = 2 ∧ upF pa c 201 b = c)) (hli : li < 2 ^ 31) (hnd : (ndR op se (-1) p ms kd nl ps) + l < 2 ^ 31) (hge : nl c ≤ (ndR op se (-1) p ms kd nl ps) + (l - k)) (hfull : li < ((ndR op se (-1) p ms kd nl ps) + (l - k) - nl c)) : RI sc (d + 5) mr_317 [.ref 196, .int (nI a), .int (nI b), .int (nI k)] H (fun x H' => x = 0 ∧ RefI H' 5 li 0 cw cl tb 0 rs g0 p ms op se wss kd pa sz nl nm ps ∧ ∀ a, ¬ (195 ≤ a ∧ a < 224) → H'[a]? = H[a]?) := by
  obtain ⟨us, ba, bo, hm, hV, h5, h6, hR, hT, hP, h196, h197⟩ := h
  obtain ⟨k1, k2, k3, k4, k5, k6, k7, k8⟩ := hk
  refine RI.of ?_
  refine RQ.blk 2 (pc' := 2) (lv' := [(0, .ref 196), (1, .int (nI a)), (2, .int (nI b)), (3, .int (nI k))]) (st' := [.int 0, .ref 196]) (H' := _) (kc' := 0) (ks' := 0) rfl ?_
  refine RQ.put (ci := 12) rfl hm rfl rfl (Nat.le_of_ble_eq_true rfl) ?_
  have hm1 : (H.set 195 (kO 12 (mfs 0 (nI li) 0 cw cl (nI l) rs (nI p) (nI ms.length) (nI us) (nI ps.length) (nI (plen ps)) ba bo)))[195]? = some (kO 12 (mfs 0 (nI li) 0 cw cl (nI l) rs (nI p) (nI ms.length) (nI us) (nI ps.length) (nI (plen ps)) ba bo)) := get_set hm
  have f1 : ∀ a, a ≠ 195 → (H.set 195 (kO 12 (mfs 0 (nI li) 0 cw cl (nI l) rs (nI p) (nI ms.length) (nI us) (nI ps.length) (nI (plen ps)) ba bo)))[a]? = H[a]? := fun a ha => set_far ha
  show RQ _ _ _ 5 [(0, .ref 196), (1, .int (nI a)), (2, .int (nI b)), (3, .int (nI k))] [] (H.set 195 (kO 12 (mfs 0 (nI li) 0 cw cl (nI l) rs (nI p) (nI ms.length) (nI us) (nI ps.length) (nI (plen ps)) ba bo))) 0 0 _
  generalize (H.set 195 (kO 12 (mfs 0 (nI li) 0 cw cl (nI l) rs (nI p) (nI ms.length) (nI us) (nI ps.length) (nI (plen ps)) ba bo))) = H1 at hm1 f1 ⊢
  have hV1 := hV.far (fun a a1 a2 => f1 a (by omega)) (f1 223 (by decide))
  have h51 := (f1 205 (by decide)).trans h5
  have h61 := (f1 206 (by decide)).trans h6
  have hR1 := hR.far (fun a a1 => f1 a (by omega))
  have hT1 := hT.far (fun a a1 a2 => f1 a (by omega))
  have hP1 := hP.far (fun a a1 a2 => f1 a (by omega))
  have h1961 := (f1 196 (by decide)).trans h196
  have h1971 := (f1 197 (by decide)).trans h197
  have hka := k5 a ha
  have hkb := k5 b hb
  refine RQ.blk 3 (pc' := 10) (lv' := [(0, .ref 196), (1, .int (nI a)), (2, .int (nI b)), (3, .int (nI k))]) (st' := [.int 201, .int (nI a), .ref 196]) (H' := _) (kc' := 0) (ks' := 0) rfl ?_
  refine RQ.call (v := some (.int 0)) (st' := []) rfl rfl rfl rfl rfl rfl (args_v [.int 201, .int (nI a)] [] rfl rfl (Nat.le_of_ble_eq_true rfl) rfl hm1 (Nat.le_of_ble_eq_true rfl)) (rc_out (v := a) (m := 201) (by omega) (by decide)) ?_
  refine RQ.brF rfl rfl rfl (by decide) ?_
  refine RQ.blk 3 (pc' := 21) (lv' := [(0, .ref 196), (1, .int (nI a)), (2, .int (nI b)), (3, .int (nI k))]) (st' := [.int 201, .int (nI b), .ref 196]) (H' := _) (kc' := 0) (ks' := 0) rfl ?_
  refine RQ.call (v := some (.int 0)) (st' := []) rfl rfl rfl rfl rfl rfl (args_v [.int 201, .int (nI b)] [] rfl rfl (Nat.le_of_ble_eq_true rfl) rfl hm1 (Nat.le_of_ble_eq_true rfl)) (rc_out (v := b) (m := 201) (by omega) (by decide)) ?_
  refine RQ.brF rfl rfl rfl (by decide) ?_
  refine RQ.blk 5 (pc' := 32) (lv' := [(0, .ref 196), (1, .int (nI a)), (2, .int (nI b)), (3, .int (nI k))]) (st' := [.ref 196, .int (nI k), .ref 196, .int 0, .ref 196]) (H' := _) (kc' := 0) (ks' := 0) rfl ?_
  refine RQ.get (ci := 12) rfl hm1 rfl rfl ?_
  refine RQ.call (v := some (.int (nI (min k l)))) (st' := [.int 0, .ref 196]) rfl rfl rfl rfl rfl rfl (args_v [.int (nI l), .int (nI k)] [.int 0, .ref 196] rfl rfl (Nat.le_of_ble_eq_true rfl) rfl hm1 (Nat.le_of_ble_eq_true rfl)) (rc_mleast (a := k) (b := l) (by omega) (by omega)) ?_
  rw [show min k l = k by omega]
  refine RQ.call (v := some (.int 1)) (st' := []) rfl rfl rfl rfl rfl rfl (args_v [.int (nI k), .int 0] [] rfl rfl (Nat.le_of_ble_eq_true rfl) rfl hm1 (Nat.le_of_ble_eq_true rfl)) (rc_named1 (i := 0) (n := k) hm1 h1961 (by decide) (by omega) hk1 hk30 hn1) ?_
  refine RQ.brF rfl rfl rfl (by decide) ?_
  refine RQ.blk 2 (pc' := 46) (lv' := [(0, .ref 196), (1, .int (nI a)), (2, .int (nI b)), (3, .int (nI k))]) (st' := [.ref 196, .int (nI k)]) (H' := _) (kc' := 0) (ks' := 0) rfl ?_
  refine RQ.get (ci := 12) rfl hm1 rfl rfl ?_
  refine RQ.brF rfl rfl rfl (cF_gt k l) ?_
  refine RQ.blk 3 (pc' := 55) (lv' := [(0, .ref 196), (1, .int (nI a)), (2, .int (nI b)), (3, .int (nI k))]) (st' := [.ref 196, .int (nI k), .ref 196]) (H' := _) (kc' := 0) (ks' := 0) rfl ?_
  refine RQ.get (ci := 12) rfl hm1 rfl rfl ?_
  refine RQ.blk 2 (pc' := 60) (lv' := [(0, .ref 196), (1, .int (nI a)), (2, .int (nI b)), (3, .int (nI k))]) (st' := [.int (nI l - nI k), .int (nI k), .ref 196]) (H' := _) (kc' := 0) (ks' := 0) rfl ?_
  rw [show (nI l - nI k : Int32) = nI (l - k) from pk_sub (a := l) (b := k) (by omega)]
  refine RQ.call (v := some (.int 1)) (st' := []) rfl rfl rfl rfl rfl rfl (args_v [.int (nI (l - k)), .int (nI k)] [] rfl rfl (Nat.le_of_ble_eq_true rfl) rfl hm1 (Nat.le_of_ble_eq_true rfl)) (rc_named1 (i := k) (n := l - k) hm1 h1961 (by decide) (by omega) (by omega) hl30 hn2) ?_
  refine RQ.brT rfl rfl rfl (by decide) ?_
  refine RQ.blk 1 (pc' := 73) (lv' := [(0, .ref 196), (1, .int (nI a)), (2, .int (nI b)), (3, .int (nI k))]) (st' := [.ref 196]) (H' := _) (kc' := 0) (ks' := 0) rfl ?_
  refine RQ.get (ci := 12) rfl hm1 rfl rfl ?_
  refine RQ.brT rfl rfl rfl (by decide) ?_
  refine RQ.blk 1 (pc' := 86) (lv' := [(0, .ref 196), (1, .int (nI a)), (2, .int (nI b)), (3, .int (nI k))]) (st' := [.ref 196]) (H' := _) (kc' := 0) (ks' := 0) rfl ?_
  refine RQ.get (ci := 12) rfl hm1 rfl rfl ?_
  refine RQ.blk 3 (pc' := 93) (lv' := [(4, .int (nI l)), (0, .ref 196), (1, .int (nI a)), (2, .int (nI b)), (3, .int (nI k))]) (st' := [.int 0, .ref 196]) (H' := _) (kc' := 0) (ks' := 0) rfl ?_
  refine RQ.put (ci := 12) rfl hm1 rfl rfl (Nat.le_of_ble_eq_true rfl) ?_
  have hm2 : (H1.set 195 (kO 12 (mfs 0 (nI li) 0 cw cl (nI 0) rs (nI p) (nI ms.length) (nI us) (nI ps.length) (nI (plen ps)) ba bo)))[195]? = some (kO 12 (mfs 0 (nI li) 0 cw cl (nI 0) rs (nI p) (nI ms.length) (nI us) (nI ps.length) (nI (plen ps)) ba bo)) := get_set hm1
  have f2 : ∀ a, a ≠ 195 → (H1.set 195 (kO 12 (mfs 0 (nI li) 0 cw cl (nI 0) rs (nI p) (nI ms.length) (nI us) (nI ps.length) (nI (plen ps)) ba bo)))[a]? = H[a]? := fun a ha => (set_far ha).trans (f1 a ha)
  show RQ _ _ _ 96 [(4, .int (nI l)), (0, .ref 196), (1, .int (nI a)), (2, .int (nI b)), (3, .int (nI k))] [] (H1.set 195 (kO 12 (mfs 0 (nI li) 0 cw cl (nI 0) rs (nI p) (nI ms.length) (nI us) (nI ps.length) (nI (plen ps)) ba bo))) 0 0 _
  generalize (H1.set 195 (kO 12 (mfs 0 (nI li) 0 cw cl (nI 0) rs (nI p) (nI ms.length) (nI us) (nI ps.length) (nI (plen ps)) ba bo))) = H2 at hm2 f2 ⊢
  clear hm1 f1 hV1 h51 h61 hR1 hT1 hP1 h1961 h1971
  have hm1 := hm2
  have f1 := f2
  clear hm2 f2
  have hV1 := hV.far (fun a a1 a2 => f1 a (by omega)) (f1 223 (by decide))
  have h51 := (f1 205 (by decide)).trans h5
  have h61 := (f1 206 (by decide)).trans h6
  have hR1 := hR.far (fun a a1 => f1 a (by omega))
  have hT1 := hT.far (fun a a1 a2 => f1 a (by omega))
  have hP1 := hP.far (fun a a1 a2 => f1 a (by omega))
  have h1961 := (f1 196 (by decide)).trans h196
  have h1971 := (f1 197 (by decide)).trans h197
  refine RQ.blk 2 (pc' := 98) (lv' := [(4, .int (nI l)), (0, .ref 196), (1, .int (nI a)), (2, .int (nI b)), (3, .int (nI k))]) (st' := [.int (nI a), .ref 196]) (H' := _) (kc' := 0) (ks' := 0) rfl ?_
  refine RQ.call (v := some (.int 1)) (st' := []) rfl rfl rfl rfl rfl rfl (args_v [.int (nI a)] [] rfl rfl (Nat.le_of_ble_eq_true rfl) rfl hm1 (Nat.le_of_ble_eq_true rfl)) (rc_mdirT hm1 rfl hT1.1 ha (nI_is2 hkd)) ?_
  refine RQ.brF rfl rfl rfl (by decide) ?_
  refine RQ.blk 2 (pc' := 106) (lv' := [(4, .int (nI l)), (0, .ref 196), (1, .int (nI a)), (2, .int (nI b)), (3, .int (nI k))]) (st' := [.int (nI b), .ref 196]) (H' := _) (kc' := 0) (ks' := 0) rfl ?_
  refine RQ.call (v := some (.int 1)) (st' := []) rfl rfl rfl rfl rfl rfl (args_v [.int (nI b)] [] rfl rfl (Nat.le_of_ble_eq_true rfl) rfl hm1 (Nat.le_of_ble_eq_true rfl)) (rc_mdirT hm1 rfl hT1.1 hb (nI_is2 hkd2)) ?_
  refine RQ.brF rfl rfl rfl (by decide) ?_
  refine RQ.blk 4 (pc' := 116) (lv' := [(4, .int (nI l)), (0, .ref 196), (1, .int (nI a)), (2, .int (nI b)), (3, .int (nI k))]) (st' := [.int (nI k), .int 0, .int (nI a), .ref 196]) (H' := _) (kc' := 0) (ks' := 0) rfl ?_
  have hch := rc_mchild (sc := sc) (d := d + 3) (j := 0) (m := k) hm1 hT1 k5 h1961 (by omega) ha
  rw [hc] at hch
  have hcl := fstF_lt hc
  have hkc := k5 c (by omega)
  refine RQ.call (v := some (.int (nI c))) (st' := []) rfl rfl rfl rfl rfl rfl (args_v [.int (nI k), .int 0, .int (nI a)] [] rfl rfl (Nat.le_of_ble_eq_true rfl) rfl hm1 (Nat.le_of_ble_eq_true rfl)) hch ?_
  refine RQ.blk 3 (pc' := 127) (lv' := [(5, .int (nI c)), (4, .int (nI l)), (0, .ref 196), (1, .int (nI a)), (2, .int (nI b)), (3, .int (nI k))]) (st' := [.int (nI c)]) (H' := _) (kc' := 0) (ks' := 0) rfl ?_
  refine RQ.brT rfl rfl rfl (cT_ge c 0) ?_
  refine RQ.blk 6 (pc' := 143) (lv' := [(5, .int (nI c)), (4, .int (nI l)), (0, .ref 196), (1, .int (nI a)), (2, .int (nI b)), (3, .int (nI k))]) (st' := [.int (nI l - nI k), .int (nI k), .int (nI b), .ref 196]) (H' := _) (kc' := 0) (ks' := 0) rfl ?_
  rw [show (nI l - nI k : Int32) = nI (l - k) from pk_sub (a := l) (b := k) (by omega)]
  have hch2 := rc_mchild (sc := sc) (d := d + 3) (j := k) (m := l - k) hm1 hT1 k5 h1961 (by omega) hb
  rw [ht] at hch2
  refine RQ.call (v := some (.int (-1))) (st' := []) rfl rfl rfl rfl rfl rfl (args_v [.int (nI (l - k)), .int (nI k), .int (nI b)] [] rfl rfl (Nat.le_of_ble_eq_true rfl) rfl hm1 (Nat.le_of_ble_eq_true rfl)) hch2 ?_
  refine RQ.blk 3 (pc' := 152) (lv' := [(6, .int (-1)), (5, .int (nI c)), (4, .int (nI l)), (0, .ref 196), (1, .int (nI a)), (2, .int (nI b)), (3, .int (nI k))]) (st' := [.int (nI c), .int (-1)]) (H' := _) (kc' := 0) (ks' := 0) rfl ?_
  refine RQ.brT rfl rfl rfl (bnt (neg1_ne c (by omega))) ?_
  refine RQ.blk 2 (pc' := 161) (lv' := [(6, .int (-1)), (5, .int (nI c)), (4, .int (nI l)), (0, .ref 196), (1, .int (nI a)), (2, .int (nI b)), (3, .int (nI k))]) (st' := [.int (nI c), .ref 196]) (H' := _) (kc' := 0) (ks' := 0) rfl ?_
  by_cases kc : kd c = 2
  · have ki : ¬ upF pa c 201 b = c := fun e => hni ⟨kc, e⟩
    refine RQ.call (v := some (.int 1)) (st' := []) rfl rfl rfl rfl rfl rfl (args_v [.int (nI c)] [] rfl rfl (Nat.le_of_ble_eq_true rfl) rfl hm1 (Nat.le_of_ble_eq_true rfl)) (rc_mdirT hm1 rfl hT1.1 (by omega) (nI_is2 kc)) ?_
    refine RQ.brF rfl rfl rfl (by decide) ?_
    refine RQ.blk 3 (pc' := 171) (lv' := [(6, .int (-1)), (5, .int (nI c)), (4, .int (nI l)), (0, .ref 196), (1, .int (nI a)), (2, .int (nI b)), (3, .int (nI k))]) (st' := [.int (nI c), .int (nI b), .ref 196]) (H' := _) (kc' := 0) (ks' := 0) rfl ?_
    have hin := rc_minside (sc := sc) (d := d + 4) hm1 hT1.2.1 (fun w hw => (k5 w hw).2.1) hb (show c ≤ 200 by omega) hup
    rw [if_neg ki] at hin
    refine RQ.call (v := some (.int 0)) (st' := []) rfl rfl rfl rfl rfl rfl (args_v [.int (nI c), .int (nI b)] [] rfl rfl (Nat.le_of_ble_eq_true rfl) rfl hm1 (Nat.le_of_ble_eq_true rfl)) hin ?_
    refine RQ.brF rfl rfl rfl (by decide) ?_
    refine RQ.blk 1 (pc' := 179) (lv' := [(6, .int (-1)), (5, .int (nI c)), (4, .int (nI l)), (0, .ref 196), (1, .int (nI a)), (2, .int (nI b)), (3, .int (nI k))]) (st' := [.int (-1)]) (H' := _) (kc' := 0) (ks' := 0) rfl ?_
    refine RQ.brT rfl rfl rfl (by decide) ?_
    refine RQ.blk 3 (pc' := 210) (lv' := [(6, .int (-1)), (5, .int (nI c)), (4, .int (nI l)), (0, .ref 196), (1, .int (nI a)), (2, .int (nI b)), (3, .int (nI k))]) (st' := [.int (nI l - nI k)]) (H' := _) (kc' := 0) (ks' := 0) rfl ?_
    rw [show (nI l - nI k : Int32) = nI (l - k) from pk_sub (a := l) (b := k) (by omega)]
    refine RQ.blk 1 (pc' := 211) (lv' := [(6, .int (-1)), (5, .int (nI c)), (4, .int (nI l)), (0, .ref 196), (1, .int (nI a)), (2, .int (nI b)), (3, .int (nI k))]) (st' := [.ref 196, .int (nI (l - k))]) (H' := _) (kc' := 0) (ks' := 0) rfl ?_
    refine RQ.get (ci := 12) rfl hm1 rfl rfl ?_
    refine RQ.blk 1 (pc' := 216) (lv' := [(6, .int (-1)), (5, .int (nI c)), (4, .int (nI l)), (0, .ref 196), (1, .int (nI a)), (2, .int (nI b)), (3, .int (nI k))]) (st' := [.int (nI c), .ref 216, .int (nI (l - k))]) (H' := _) (kc' := 0) (ks' := 0) rfl ?_
    refine RQ.ialdN (j := c) rfl hT1.2.2.1 (by omega) (by decide) ?_
    refine RQ.blk 1 (pc' := 218) (lv' := [(6, .int (-1)), (5, .int (nI c)), (4, .int (nI l)), (0, .ref 196), (1, .int (nI a)), (2, .int (nI b)), (3, .int (nI k))]) (st' := [.int (nI (l - k) - nI (nl c))]) (H' := _) (kc' := 0) (ks' := 0) rfl ?_
    refine RQ.blk 1 (pc' := 220) (lv' := [(6, .int (-1)), (5, .int (nI c)), (4, .int (nI l)), (0, .ref 196), (1, .int (nI a)), (2, .int (nI b)), (3, .int (nI k))]) (st' := [.int (-1), .int (nI (l - k) - nI (nl c))]) (H' := _) (kc' := 0) (ks' := 0) rfl ?_
    refine RQ.brF rfl rfl rfl (by decide) ?_
    refine RQ.blk 2 (pc' := 241) (lv' := [(6, .int (-1)), (5, .int (nI c)), (4, .int (nI l)), (0, .ref 196), (1, .int (nI a)), (2, .int (nI b)), (3, .int (nI k))]) (st' := [.int 0, .int (nI (l - k) - nI (nl c))]) (H' := _) (kc' := 0) (ks' := 0) rfl ?_
    refine RQ.blk 1 (pc' := 242) (lv' := [(6, .int (-1)), (5, .int (nI c)), (4, .int (nI l)), (0, .ref 196), (1, .int (nI a)), (2, .int (nI b)), (3, .int (nI k))]) (st' := [.int ((nI (l - k) - nI (nl c)) - 0)]) (H' := _) (kc' := 0) (ks' := 0) rfl ?_
    refine RQ.blk 3 (pc' := 246) (lv' := [(7, .int (nI (l - k) - nI (nl c) - 0)), (6, .int (-1)), (5, .int (nI c)), (4, .int (nI l)), (0, .ref 196), (1, .int (nI a)), (2, .int (nI b)), (3, .int (nI k))]) (st' := [.int (-1), .ref 196]) (H' := _) (kc' := 0) (ks' := 0) rfl ?_
    refine RQ.call (v := some (.int (nI (ndR op se (-1) p ms kd nl ps)))) (st' := []) rfl rfl rfl rfl rfl rfl (args_v [.int (-1)] [] rfl rfl (Nat.le_of_ble_eq_true rfl) rfl hm1 (Nat.le_of_ble_eq_true rfl)) (rc_mneedR (x := -1) hm1 hV1 k3 h51 h61 k4 hT1 k5 hP1 k6 (by omega)) ?_
    refine RQ.blk 1 (pc' := 251) (lv' := [(7, .int (nI (l - k) - nI (nl c) - 0)), (6, .int (-1)), (5, .int (nI c)), (4, .int (nI l)), (0, .ref 196), (1, .int (nI a)), (2, .int (nI b)), (3, .int (nI k))]) (st' := [.int (nI (l - k) - nI (nl c) - 0), .int (nI (ndR op se (-1) p ms kd nl ps))]) (H' := _) (kc' := 0) (ks' := 0) rfl ?_
    refine RQ.blk 1 (pc' := 252) (lv' := [(7, .int (nI (l - k) - nI (nl c) - 0)), (6, .int (-1)), (5, .int (nI c)), (4, .int (nI l)), (0, .ref 196), (1, .int (nI a)), (2, .int (nI b)), (3, .int (nI k))]) (st' := [.int (nI (ndR op se (-1) p ms kd nl ps) + (nI (l - k) - nI (nl c) - 0))]) (H' := _) (kc' := 0) (ks' := 0) rfl ?_
    rw [nI_mix0 hge]
    refine RQ.blk 1 (pc' := 253) (lv' := [(7, .int (nI (l - k) - nI (nl c) - 0)), (6, .int (-1)), (5, .int (nI c)), (4, .int (nI l)), (0, .ref 196), (1, .int (nI a)), (2, .int (nI b)), (3, .int (nI k))]) (st' := [.ref 196, .int (nI ((ndR op se (-1) p ms kd nl ps) + (l - k) - nl c))]) (H' := _) (kc' := 0) (ks' := 0) rfl ?_
    refine RQ.get (ci := 12) rfl hm1 rfl rfl ?_
    refine RQ.brF rfl rfl rfl (cF_le ((ndR op se (-1) p ms kd nl ps) + (l - k) - nl c) li) ?_
    refine RQ.blk 2 (pc' := 261) (lv' := [(7, .int (nI (l - k) - nI (nl c) - 0)), (6, .int (-1)), (5, .int (nI c)), (4, .int (nI l)), (0, .ref 196), (1, .int (nI a)), (2, .int (nI b)), (3, .int (nI k))]) (st' := [.int 5, .ref 196]) (H' := _) (kc' := 0) (ks' := 0) rfl ?_
    refine RQ.call (v := some (.int 0)) (st' := []) rfl rfl rfl rfl rfl rfl (args_v [.int 5] [] rfl rfl (Nat.le_of_ble_eq_true rfl) rfl hm1 (Nat.le_of_ble_eq_true rfl)) (rc_mfail hm1 rfl) ?_
    exact RQ.done (c := 0) (s := 0) rfl rfl rfl rfl ⟨_, _, rfl, rfl, ⟨us, ba, bo, get_set hm1, hV1.far (fun a a1 a2 => set_far (by omega)) (set_far (by decide)), (set_far (by decide)).trans h51, (set_far (by decide)).trans h61, hR1.far (fun a a1 => set_far (by omega)), hT1.far (fun a a1 a2 => set_far (by omega)), hP1.far (fun a a1 a2 => set_far (by omega)), (set_far (by decide)).trans h1961, (set_far (by decide)).trans h1971⟩, fun a ha => (set_far (by omega)).trans (f1 a (by omega))⟩
  · refine RQ.call (v := some (.int 0)) (st' := []) rfl rfl rfl rfl rfl rfl (args_v [.int (nI c)] [] rfl rfl (Nat.le_of_ble_eq_true rfl) rfl hm1 (Nat.le_of_ble_eq_true rfl)) (rc_mdirF hm1 rfl hT1.1 (by omega) (nI_ne2 hkc.1 kc)) ?_
    refine RQ.brT rfl rfl rfl (by decide) ?_
    refine RQ.blk 1 (pc' := 179) (lv' := [(6, .int (-1)), (5, .int (nI c)), (4, .int (nI l)), (0, .ref 196), (1, .int (nI a)), (2, .int (nI b)), (3, .int (nI k))]) (st' := [.int (-1)]) (H' := _) (kc' := 0) (ks' := 0) rfl ?_
    refine RQ.brT rfl rfl rfl (by decide) ?_
    refine RQ.blk 3 (pc' := 210) (lv' := [(6, .int (-1)), (5, .int (nI c)), (4, .int (nI l)), (0, .ref 196), (1, .int (nI a)), (2, .int (nI b)), (3, .int (nI k))]) (st' := [.int (nI l - nI k)]) (H' := _) (kc' := 0) (ks' := 0) rfl ?_
    rw [show (nI l - nI k : Int32) = nI (l - k) from pk_sub (a := l) (b := k) (by omega)]
    refine RQ.blk 1 (pc' := 211) (lv' := [(6, .int (-1)), (5, .int (nI c)), (4, .int (nI l)), (0, .ref 196), (1, .int (nI a)), (2, .int (nI b)), (3, .int (nI k))]) (st' := [.ref 196, .int (nI (l - k))]) (H' := _) (kc' := 0) (ks' := 0) rfl ?_
    refine RQ.get (ci := 12) rfl hm1 rfl rfl ?_
    refine RQ.blk 1 (pc' := 216) (lv' := [(6, .int (-1)), (5, .int (nI c)), (4, .int (nI l)), (0, .ref 196), (1, .int (nI a)), (2, .int (nI b)), (3, .int (nI k))]) (st' := [.int (nI c), .ref 216, .int (nI (l - k))]) (H' := _) (kc' := 0) (ks' := 0) rfl ?_
    refine RQ.ialdN (j := c) rfl hT1.2.2.1 (by omega) (by decide) ?_
    refine RQ.blk 1 (pc' := 218) (lv' := [(6, .int (-1)), (5, .int (nI c)), (4, .int (nI l)), (0, .ref 196), (1, .int (nI a)), (2, .int (nI b)), (3, .int (nI k))]) (st' := [.int (nI (l - k) - nI (nl c))]) (H' := _) (kc' := 0) (ks' := 0) rfl ?_
    refine RQ.blk 1 (pc' := 220) (lv' := [(6, .int (-1)), (5, .int (nI c)), (4, .int (nI l)), (0, .ref 196), (1, .int (nI a)), (2, .int (nI b)), (3, .int (nI k))]) (st' := [.int (-1), .int (nI (l - k) - nI (nl c))]) (H' := _) (kc' := 0) (ks' := 0) rfl ?_
    refine RQ.brF rfl rfl rfl (by decide) ?_
    refine RQ.blk 2 (pc' := 241) (lv' := [(6, .int (-1)), (5, .int (nI c)), (4, .int (nI l)), (0, .ref 196), (1, .int (nI a)), (2, .int (nI b)), (3, .int (nI k))]) (st' := [.int 0, .int (nI (l - k) - nI (nl c))]) (H' := _) (kc' := 0) (ks' := 0) rfl ?_
    refine RQ.blk 1 (pc' := 242) (lv' := [(6, .int (-1)), (5, .int (nI c)), (4, .int (nI l)), (0, .ref 196), (1, .int (nI a)), (2, .int (nI b)), (3, .int (nI k))]) (st' := [.int ((nI (l - k) - nI (nl c)) - 0)]) (H' := _) (kc' := 0) (ks' := 0) rfl ?_
    refine RQ.blk 3 (pc' := 246) (lv' := [(7, .int (nI (l - k) - nI (nl c) - 0)), (6, .int (-1)), (5, .int (nI c)), (4, .int (nI l)), (0, .ref 196), (1, .int (nI a)), (2, .int (nI b)), (3, .int (nI k))]) (st' := [.int (-1), .ref 196]) (H' := _) (kc' := 0) (ks' := 0) rfl ?_
    refine RQ.call (v := some (.int (nI (ndR op se (-1) p ms kd nl ps)))) (st' := []) rfl rfl rfl rfl rfl rfl (args_v [.int (-1)] [] rfl rfl (Nat.le_of_ble_eq_true rfl) rfl hm1 (Nat.le_of_ble_eq_true rfl)) (rc_mneedR (x := -1) hm1 hV1 k3 h51 h61 k4 hT1 k5 hP1 k6 (by omega)) ?_
    refine RQ.blk 1 (pc' := 251) (lv' := [(7, .int (nI (l - k) - nI (nl c) - 0)), (6, .int (-1)), (5, .int (nI c)), (4, .int (nI l)), (0, .ref 196), (1, .int (nI a)), (2, .int (nI b)), (3, .int (nI k))]) (st' := [.int (nI (l - k) - nI (nl c) - 0), .int (nI (ndR op se (-1) p ms kd nl ps))]) (H' := _) (kc' := 0) (ks' := 0) rfl ?_
    refine RQ.blk 1 (pc' := 252) (lv' := [(7, .int (nI (l - k) - nI (nl c) - 0)), (6, .int (-1)), (5, .int (nI c)), (4, .int (nI l)), (0, .ref 196), (1, .int (nI a)), (2, .int (nI b)), (3, .int (nI k))]) (st' := [.int (nI (ndR op se (-1) p ms kd nl ps) + (nI (l - k) - nI (nl c) - 0))]) (H' := _) (kc' := 0) (ks' := 0) rfl ?_
    rw [nI_mix0 hge]
    refine RQ.blk 1 (pc' := 253) (lv' := [(7, .int (nI (l - k) - nI (nl c) - 0)), (6, .int (-1)), (5, .int (nI c)), (4, .int (nI l)), (0, .ref 196), (1, .int (nI a)), (2, .int (nI b)), (3, .int (nI k))]) (st' := [.ref 196, .int (nI ((ndR op se (-1) p ms kd nl ps) + (l - k) - nl c))]) (H' := _) (kc' := 0) (ks' := 0) rfl ?_
    refine RQ.get (ci := 12) rfl hm1 rfl rfl ?_
    refine RQ.brF rfl rfl rfl (cF_le ((ndR op se (-1) p ms kd nl ps) + (l - k) - nl c) li) ?_
    refine RQ.blk 2 (pc' := 261) (lv' := [(7, .int (nI (l - k) - nI (nl c) - 0)), (6, .int (-1)), (5, .int (nI c)), (4, .int (nI l)), (0, .ref 196), (1, .int (nI a)), (2, .int (nI b)), (3, .int (nI k))]) (st' := [.int 5, .ref 196]) (H' := _) (kc' := 0) (ks' := 0) rfl ?_
    refine RQ.call (v := some (.int 0)) (st' := []) rfl rfl rfl rfl rfl rfl (args_v [.int 5] [] rfl rfl (Nat.le_of_ble_eq_true rfl) rfl hm1 (Nat.le_of_ble_eq_true rfl)) (rc_mfail hm1 rfl) ?_
    exact RQ.done (c := 0) (s := 0) rfl rfl rfl rfl ⟨_, _, rfl, rfl, ⟨us, ba, bo, get_set hm1, hV1.far (fun a a1 a2 => set_far (by omega)) (set_far (by decide)), (set_far (by decide)).trans h51, (set_far (by decide)).trans h61, hR1.far (fun a a1 => set_far (by omega)), hT1.far (fun a a1 a2 => set_far (by omega)), hP1.far (fun a a1 a2 => set_far (by omega)), (set_far (by decide)).trans h1961, (set_far (by decide)).trans h1971⟩, fun a ha => (set_far (by omega)).trans (f1 a (by omega))⟩
set_option maxRecDepth 20000 in
theorem ri_mrename0_lost {sc : Nat × (Nat → Int32)} {d l : Nat} {H : aH} {fa rs : Int32} {li : Nat} {tb : Nat → Int8} {g0 : Nat → Int8} {p : Nat} {ms : List aMV} {op : Nat → Bool} {se : Nat → Nat} {wss : Nat → List aE} {kd pa sz nl : Nat → Nat} {nm : Nat → Int8} {ps : List aPc} {a b k : Nat} {c : Nat} (h : RefI H fa li 0 1 0 tb l rs g0 p ms op se wss kd pa sz nl nm ps) (hk : RefOk l p ms se kd pa sz nl ps) (ha : a ≤ 200) (hb : b ≤ 200) (hk1 : 1 ≤ k) (hk30 : k ≤ 30) (hkl : k < l) (hl30 : l - k ≤ 30) (hn1 : noSl tb 0 k) (hn2 : noSl tb k (l - k)) (hkd : kd a = 2) (hkd2 : kd b = 2) (hc : (fstF (inN kd pa nl nm a (sl tb 0 k)) 1 200) = some c) (ht : (fstF (inN kd pa nl nm b (sl tb k (l - k))) 1 200) = none) (hup : upF pa c 201 b = 0 ∨ upF pa c 201 b = c) (hni : ¬ (kd c = 2 ∧ upF pa c 201 b = c)) (hli : li < 2 ^ 31) (hnd : (ndR op se (-1) p ms kd nl ps) + l < 2 ^ 31) (hge : nl c ≤ (ndR op se (-1) p ms kd nl ps) + (l - k)) (hfits : ((ndR op se (-1) p ms kd nl ps) + (l - k) - nl c) ≤ li) : RI sc (d + 5) mr_317 [.ref 196, .int (nI a), .int (nI b), .int (nI k)] H (fun x H' => x = 0 ∧ RefI H' 2 li 1 0 0 tb 0 0 g0 p (ms.filter (keepM (fun j => if j < 8 then false else op j) se p (kmM ms))) (fun j => if j < 8 then false else op j) se wss kd pa sz nl nm ps ∧ ∀ a, ¬ (195 ≤ a ∧ a < 224) → H'[a]? = H[a]?) := by
  obtain ⟨us, ba, bo, hm, hV, h5, h6, hR, hT, hP, h196, h197⟩ := h
  obtain ⟨k1, k2, k3, k4, k5, k6, k7, k8⟩ := hk
  refine RI.of ?_
  refine RQ.blk 2 (pc' := 2) (lv' := [(0, .ref 196), (1, .int (nI a)), (2, .int (nI b)), (3, .int (nI k))]) (st' := [.int 0, .ref 196]) (H' := _) (kc' := 0) (ks' := 0) rfl ?_
  refine RQ.put (ci := 12) rfl hm rfl rfl (Nat.le_of_ble_eq_true rfl) ?_
  have hm1 : (H.set 195 (kO 12 (mfs 0 (nI li) 0 1 0 (nI l) rs (nI p) (nI ms.length) (nI us) (nI ps.length) (nI (plen ps)) ba bo)))[195]? = some (kO 12 (mfs 0 (nI li) 0 1 0 (nI l) rs (nI p) (nI ms.length) (nI us) (nI ps.length) (nI (plen ps)) ba bo)) := get_set hm
  have f1 : ∀ a, a ≠ 195 → (H.set 195 (kO 12 (mfs 0 (nI li) 0 1 0 (nI l) rs (nI p) (nI ms.length) (nI us) (nI ps.length) (nI (plen ps)) ba bo)))[a]? = H[a]? := fun a ha => set_far ha
  show RQ _ _ _ 5 [(0, .ref 196), (1, .int (nI a)), (2, .int (nI b)), (3, .int (nI k))] [] (H.set 195 (kO 12 (mfs 0 (nI li) 0 1 0 (nI l) rs (nI p) (nI ms.length) (nI us) (nI ps.length) (nI (plen ps)) ba bo))) 0 0 _
  generalize (H.set 195 (kO 12 (mfs 0 (nI li) 0 1 0 (nI l) rs (nI p) (nI ms.length) (nI us) (nI ps.length) (nI (plen ps)) ba bo))) = H1 at hm1 f1 ⊢
  have hV1 := hV.far (fun a a1 a2 => f1 a (by omega)) (f1 223 (by decide))
  have h51 := (f1 205 (by decide)).trans h5
  have h61 := (f1 206 (by decide)).trans h6
  have hR1 := hR.far (fun a a1 => f1 a (by omega))
  have hT1 := hT.far (fun a a1 a2 => f1 a (by omega))
  have hP1 := hP.far (fun a a1 a2 => f1 a (by omega))
  have h1961 := (f1 196 (by decide)).trans h196
  have h1971 := (f1 197 (by decide)).trans h197
  have hka := k5 a ha
  have hkb := k5 b hb
  refine RQ.blk 3 (pc' := 10) (lv' := [(0, .ref 196), (1, .int (nI a)), (2, .int (nI b)), (3, .int (nI k))]) (st' := [.int 201, .int (nI a), .ref 196]) (H' := _) (kc' := 0) (ks' := 0) rfl ?_
  refine RQ.call (v := some (.int 0)) (st' := []) rfl rfl rfl rfl rfl rfl (args_v [.int 201, .int (nI a)] [] rfl rfl (Nat.le_of_ble_eq_true rfl) rfl hm1 (Nat.le_of_ble_eq_true rfl)) (rc_out (v := a) (m := 201) (by omega) (by decide)) ?_
  refine RQ.brF rfl rfl rfl (by decide) ?_
  refine RQ.blk 3 (pc' := 21) (lv' := [(0, .ref 196), (1, .int (nI a)), (2, .int (nI b)), (3, .int (nI k))]) (st' := [.int 201, .int (nI b), .ref 196]) (H' := _) (kc' := 0) (ks' := 0) rfl ?_
  refine RQ.call (v := some (.int 0)) (st' := []) rfl rfl rfl rfl rfl rfl (args_v [.int 201, .int (nI b)] [] rfl rfl (Nat.le_of_ble_eq_true rfl) rfl hm1 (Nat.le_of_ble_eq_true rfl)) (rc_out (v := b) (m := 201) (by omega) (by decide)) ?_
  refine RQ.brF rfl rfl rfl (by decide) ?_
  refine RQ.blk 5 (pc' := 32) (lv' := [(0, .ref 196), (1, .int (nI a)), (2, .int (nI b)), (3, .int (nI k))]) (st' := [.ref 196, .int (nI k), .ref 196, .int 0, .ref 196]) (H' := _) (kc' := 0) (ks' := 0) rfl ?_
  refine RQ.get (ci := 12) rfl hm1 rfl rfl ?_
  refine RQ.call (v := some (.int (nI (min k l)))) (st' := [.int 0, .ref 196]) rfl rfl rfl rfl rfl rfl (args_v [.int (nI l), .int (nI k)] [.int 0, .ref 196] rfl rfl (Nat.le_of_ble_eq_true rfl) rfl hm1 (Nat.le_of_ble_eq_true rfl)) (rc_mleast (a := k) (b := l) (by omega) (by omega)) ?_
  rw [show min k l = k by omega]
  refine RQ.call (v := some (.int 1)) (st' := []) rfl rfl rfl rfl rfl rfl (args_v [.int (nI k), .int 0] [] rfl rfl (Nat.le_of_ble_eq_true rfl) rfl hm1 (Nat.le_of_ble_eq_true rfl)) (rc_named1 (i := 0) (n := k) hm1 h1961 (by decide) (by omega) hk1 hk30 hn1) ?_
  refine RQ.brF rfl rfl rfl (by decide) ?_
  refine RQ.blk 2 (pc' := 46) (lv' := [(0, .ref 196), (1, .int (nI a)), (2, .int (nI b)), (3, .int (nI k))]) (st' := [.ref 196, .int (nI k)]) (H' := _) (kc' := 0) (ks' := 0) rfl ?_
  refine RQ.get (ci := 12) rfl hm1 rfl rfl ?_
  refine RQ.brF rfl rfl rfl (cF_gt k l) ?_
  refine RQ.blk 3 (pc' := 55) (lv' := [(0, .ref 196), (1, .int (nI a)), (2, .int (nI b)), (3, .int (nI k))]) (st' := [.ref 196, .int (nI k), .ref 196]) (H' := _) (kc' := 0) (ks' := 0) rfl ?_
  refine RQ.get (ci := 12) rfl hm1 rfl rfl ?_
  refine RQ.blk 2 (pc' := 60) (lv' := [(0, .ref 196), (1, .int (nI a)), (2, .int (nI b)), (3, .int (nI k))]) (st' := [.int (nI l - nI k), .int (nI k), .ref 196]) (H' := _) (kc' := 0) (ks' := 0) rfl ?_
  rw [show (nI l - nI k : Int32) = nI (l - k) from pk_sub (a := l) (b := k) (by omega)]
  refine RQ.call (v := some (.int 1)) (st' := []) rfl rfl rfl rfl rfl rfl (args_v [.int (nI (l - k)), .int (nI k)] [] rfl rfl (Nat.le_of_ble_eq_true rfl) rfl hm1 (Nat.le_of_ble_eq_true rfl)) (rc_named1 (i := k) (n := l - k) hm1 h1961 (by decide) (by omega) (by omega) hl30 hn2) ?_
  refine RQ.brT rfl rfl rfl (by decide) ?_
  refine RQ.blk 1 (pc' := 73) (lv' := [(0, .ref 196), (1, .int (nI a)), (2, .int (nI b)), (3, .int (nI k))]) (st' := [.ref 196]) (H' := _) (kc' := 0) (ks' := 0) rfl ?_
  refine RQ.get (ci := 12) rfl hm1 rfl rfl ?_
  refine RQ.brT rfl rfl rfl (by decide) ?_
  refine RQ.blk 1 (pc' := 86) (lv' := [(0, .ref 196), (1, .int (nI a)), (2, .int (nI b)), (3, .int (nI k))]) (st' := [.ref 196]) (H' := _) (kc' := 0) (ks' := 0) rfl ?_
  refine RQ.get (ci := 12) rfl hm1 rfl rfl ?_
  refine RQ.blk 3 (pc' := 93) (lv' := [(4, .int (nI l)), (0, .ref 196), (1, .int (nI a)), (2, .int (nI b)), (3, .int (nI k))]) (st' := [.int 0, .ref 196]) (H' := _) (kc' := 0) (ks' := 0) rfl ?_
  refine RQ.put (ci := 12) rfl hm1 rfl rfl (Nat.le_of_ble_eq_true rfl) ?_
  have hm2 : (H1.set 195 (kO 12 (mfs 0 (nI li) 0 1 0 (nI 0) rs (nI p) (nI ms.length) (nI us) (nI ps.length) (nI (plen ps)) ba bo)))[195]? = some (kO 12 (mfs 0 (nI li) 0 1 0 (nI 0) rs (nI p) (nI ms.length) (nI us) (nI ps.length) (nI (plen ps)) ba bo)) := get_set hm1
  have f2 : ∀ a, a ≠ 195 → (H1.set 195 (kO 12 (mfs 0 (nI li) 0 1 0 (nI 0) rs (nI p) (nI ms.length) (nI us) (nI ps.length) (nI (plen ps)) ba bo)))[a]? = H[a]? := fun a ha => (set_far ha).trans (f1 a ha)
  show RQ _ _ _ 96 [(4, .int (nI l)), (0, .ref 196), (1, .int (nI a)), (2, .int (nI b)), (3, .int (nI k))] [] (H1.set 195 (kO 12 (mfs 0 (nI li) 0 1 0 (nI 0) rs (nI p) (nI ms.length) (nI us) (nI ps.length) (nI (plen ps)) ba bo))) 0 0 _
  generalize (H1.set 195 (kO 12 (mfs 0 (nI li) 0 1 0 (nI 0) rs (nI p) (nI ms.length) (nI us) (nI ps.length) (nI (plen ps)) ba bo))) = H2 at hm2 f2 ⊢
  clear hm1 f1 hV1 h51 h61 hR1 hT1 hP1 h1961 h1971
  have hm1 := hm2
  have f1 := f2
  clear hm2 f2
  have hV1 := hV.far (fun a a1 a2 => f1 a (by omega)) (f1 223 (by decide))
  have h51 := (f1 205 (by decide)).trans h5
  have h61 := (f1 206 (by decide)).trans h6
  have hR1 := hR.far (fun a a1 => f1 a (by omega))
  have hT1 := hT.far (fun a a1 a2 => f1 a (by omega))
  have hP1 := hP.far (fun a a1 a2 => f1 a (by omega))
  have h1961 := (f1 196 (by decide)).trans h196
  have h1971 := (f1 197 (by decide)).trans h197
  refine RQ.blk 2 (pc' := 98) (lv' := [(4, .int (nI l)), (0, .ref 196), (1, .int (nI a)), (2, .int (nI b)), (3, .int (nI k))]) (st' := [.int (nI a), .ref 196]) (H' := _) (kc' := 0) (ks' := 0) rfl ?_
  refine RQ.call (v := some (.int 1)) (st' := []) rfl rfl rfl rfl rfl rfl (args_v [.int (nI a)] [] rfl rfl (Nat.le_of_ble_eq_true rfl) rfl hm1 (Nat.le_of_ble_eq_true rfl)) (rc_mdirT hm1 rfl hT1.1 ha (nI_is2 hkd)) ?_
  refine RQ.brF rfl rfl rfl (by decide) ?_
  refine RQ.blk 2 (pc' := 106) (lv' := [(4, .int (nI l)), (0, .ref 196), (1, .int (nI a)), (2, .int (nI b)), (3, .int (nI k))]) (st' := [.int (nI b), .ref 196]) (H' := _) (kc' := 0) (ks' := 0) rfl ?_
  refine RQ.call (v := some (.int 1)) (st' := []) rfl rfl rfl rfl rfl rfl (args_v [.int (nI b)] [] rfl rfl (Nat.le_of_ble_eq_true rfl) rfl hm1 (Nat.le_of_ble_eq_true rfl)) (rc_mdirT hm1 rfl hT1.1 hb (nI_is2 hkd2)) ?_
  refine RQ.brF rfl rfl rfl (by decide) ?_
  refine RQ.blk 4 (pc' := 116) (lv' := [(4, .int (nI l)), (0, .ref 196), (1, .int (nI a)), (2, .int (nI b)), (3, .int (nI k))]) (st' := [.int (nI k), .int 0, .int (nI a), .ref 196]) (H' := _) (kc' := 0) (ks' := 0) rfl ?_
  have hch := rc_mchild (sc := sc) (d := d + 3) (j := 0) (m := k) hm1 hT1 k5 h1961 (by omega) ha
  rw [hc] at hch
  have hcl := fstF_lt hc
  have hkc := k5 c (by omega)
  refine RQ.call (v := some (.int (nI c))) (st' := []) rfl rfl rfl rfl rfl rfl (args_v [.int (nI k), .int 0, .int (nI a)] [] rfl rfl (Nat.le_of_ble_eq_true rfl) rfl hm1 (Nat.le_of_ble_eq_true rfl)) hch ?_
  refine RQ.blk 3 (pc' := 127) (lv' := [(5, .int (nI c)), (4, .int (nI l)), (0, .ref 196), (1, .int (nI a)), (2, .int (nI b)), (3, .int (nI k))]) (st' := [.int (nI c)]) (H' := _) (kc' := 0) (ks' := 0) rfl ?_
  refine RQ.brT rfl rfl rfl (cT_ge c 0) ?_
  refine RQ.blk 6 (pc' := 143) (lv' := [(5, .int (nI c)), (4, .int (nI l)), (0, .ref 196), (1, .int (nI a)), (2, .int (nI b)), (3, .int (nI k))]) (st' := [.int (nI l - nI k), .int (nI k), .int (nI b), .ref 196]) (H' := _) (kc' := 0) (ks' := 0) rfl ?_
  rw [show (nI l - nI k : Int32) = nI (l - k) from pk_sub (a := l) (b := k) (by omega)]
  have hch2 := rc_mchild (sc := sc) (d := d + 3) (j := k) (m := l - k) hm1 hT1 k5 h1961 (by omega) hb
  rw [ht] at hch2
  refine RQ.call (v := some (.int (-1))) (st' := []) rfl rfl rfl rfl rfl rfl (args_v [.int (nI (l - k)), .int (nI k), .int (nI b)] [] rfl rfl (Nat.le_of_ble_eq_true rfl) rfl hm1 (Nat.le_of_ble_eq_true rfl)) hch2 ?_
  refine RQ.blk 3 (pc' := 152) (lv' := [(6, .int (-1)), (5, .int (nI c)), (4, .int (nI l)), (0, .ref 196), (1, .int (nI a)), (2, .int (nI b)), (3, .int (nI k))]) (st' := [.int (nI c), .int (-1)]) (H' := _) (kc' := 0) (ks' := 0) rfl ?_
  refine RQ.brT rfl rfl rfl (bnt (neg1_ne c (by omega))) ?_
  refine RQ.blk 2 (pc' := 161) (lv' := [(6, .int (-1)), (5, .int (nI c)), (4, .int (nI l)), (0, .ref 196), (1, .int (nI a)), (2, .int (nI b)), (3, .int (nI k))]) (st' := [.int (nI c), .ref 196]) (H' := _) (kc' := 0) (ks' := 0) rfl ?_
  by_cases kc : kd c = 2
  · have ki : ¬ upF pa c 201 b = c := fun e => hni ⟨kc, e⟩
    refine RQ.call (v := some (.int 1)) (st' := []) rfl rfl rfl rfl rfl rfl (args_v [.int (nI c)] [] rfl rfl (Nat.le_of_ble_eq_true rfl) rfl hm1 (Nat.le_of_ble_eq_true rfl)) (rc_mdirT hm1 rfl hT1.1 (by omega) (nI_is2 kc)) ?_
    refine RQ.brF rfl rfl rfl (by decide) ?_
    refine RQ.blk 3 (pc' := 171) (lv' := [(6, .int (-1)), (5, .int (nI c)), (4, .int (nI l)), (0, .ref 196), (1, .int (nI a)), (2, .int (nI b)), (3, .int (nI k))]) (st' := [.int (nI c), .int (nI b), .ref 196]) (H' := _) (kc' := 0) (ks' := 0) rfl ?_
    have hin := rc_minside (sc := sc) (d := d + 4) hm1 hT1.2.1 (fun w hw => (k5 w hw).2.1) hb (show c ≤ 200 by omega) hup
    rw [if_neg ki] at hin
    refine RQ.call (v := some (.int 0)) (st' := []) rfl rfl rfl rfl rfl rfl (args_v [.int (nI c), .int (nI b)] [] rfl rfl (Nat.le_of_ble_eq_true rfl) rfl hm1 (Nat.le_of_ble_eq_true rfl)) hin ?_
    refine RQ.brF rfl rfl rfl (by decide) ?_
    refine RQ.blk 1 (pc' := 179) (lv' := [(6, .int (-1)), (5, .int (nI c)), (4, .int (nI l)), (0, .ref 196), (1, .int (nI a)), (2, .int (nI b)), (3, .int (nI k))]) (st' := [.int (-1)]) (H' := _) (kc' := 0) (ks' := 0) rfl ?_
    refine RQ.brT rfl rfl rfl (by decide) ?_
    refine RQ.blk 3 (pc' := 210) (lv' := [(6, .int (-1)), (5, .int (nI c)), (4, .int (nI l)), (0, .ref 196), (1, .int (nI a)), (2, .int (nI b)), (3, .int (nI k))]) (st' := [.int (nI l - nI k)]) (H' := _) (kc' := 0) (ks' := 0) rfl ?_
    rw [show (nI l - nI k : Int32) = nI (l - k) from pk_sub (a := l) (b := k) (by omega)]
    refine RQ.blk 1 (pc' := 211) (lv' := [(6, .int (-1)), (5, .int (nI c)), (4, .int (nI l)), (0, .ref 196), (1, .int (nI a)), (2, .int (nI b)), (3, .int (nI k))]) (st' := [.ref 196, .int (nI (l - k))]) (H' := _) (kc' := 0) (ks' := 0) rfl ?_
    refine RQ.get (ci := 12) rfl hm1 rfl rfl ?_
    refine RQ.blk 1 (pc' := 216) (lv' := [(6, .int (-1)), (5, .int (nI c)), (4, .int (nI l)), (0, .ref 196), (1, .int (nI a)), (2, .int (nI b)), (3, .int (nI k))]) (st' := [.int (nI c), .ref 216, .int (nI (l - k))]) (H' := _) (kc' := 0) (ks' := 0) rfl ?_
    refine RQ.ialdN (j := c) rfl hT1.2.2.1 (by omega) (by decide) ?_
    refine RQ.blk 1 (pc' := 218) (lv' := [(6, .int (-1)), (5, .int (nI c)), (4, .int (nI l)), (0, .ref 196), (1, .int (nI a)), (2, .int (nI b)), (3, .int (nI k))]) (st' := [.int (nI (l - k) - nI (nl c))]) (H' := _) (kc' := 0) (ks' := 0) rfl ?_
    refine RQ.blk 1 (pc' := 220) (lv' := [(6, .int (-1)), (5, .int (nI c)), (4, .int (nI l)), (0, .ref 196), (1, .int (nI a)), (2, .int (nI b)), (3, .int (nI k))]) (st' := [.int (-1), .int (nI (l - k) - nI (nl c))]) (H' := _) (kc' := 0) (ks' := 0) rfl ?_
    refine RQ.brF rfl rfl rfl (by decide) ?_
    refine RQ.blk 2 (pc' := 241) (lv' := [(6, .int (-1)), (5, .int (nI c)), (4, .int (nI l)), (0, .ref 196), (1, .int (nI a)), (2, .int (nI b)), (3, .int (nI k))]) (st' := [.int 0, .int (nI (l - k) - nI (nl c))]) (H' := _) (kc' := 0) (ks' := 0) rfl ?_
    refine RQ.blk 1 (pc' := 242) (lv' := [(6, .int (-1)), (5, .int (nI c)), (4, .int (nI l)), (0, .ref 196), (1, .int (nI a)), (2, .int (nI b)), (3, .int (nI k))]) (st' := [.int ((nI (l - k) - nI (nl c)) - 0)]) (H' := _) (kc' := 0) (ks' := 0) rfl ?_
    refine RQ.blk 3 (pc' := 246) (lv' := [(7, .int (nI (l - k) - nI (nl c) - 0)), (6, .int (-1)), (5, .int (nI c)), (4, .int (nI l)), (0, .ref 196), (1, .int (nI a)), (2, .int (nI b)), (3, .int (nI k))]) (st' := [.int (-1), .ref 196]) (H' := _) (kc' := 0) (ks' := 0) rfl ?_
    refine RQ.call (v := some (.int (nI (ndR op se (-1) p ms kd nl ps)))) (st' := []) rfl rfl rfl rfl rfl rfl (args_v [.int (-1)] [] rfl rfl (Nat.le_of_ble_eq_true rfl) rfl hm1 (Nat.le_of_ble_eq_true rfl)) (rc_mneedR (x := -1) hm1 hV1 k3 h51 h61 k4 hT1 k5 hP1 k6 (by omega)) ?_
    refine RQ.blk 1 (pc' := 251) (lv' := [(7, .int (nI (l - k) - nI (nl c) - 0)), (6, .int (-1)), (5, .int (nI c)), (4, .int (nI l)), (0, .ref 196), (1, .int (nI a)), (2, .int (nI b)), (3, .int (nI k))]) (st' := [.int (nI (l - k) - nI (nl c) - 0), .int (nI (ndR op se (-1) p ms kd nl ps))]) (H' := _) (kc' := 0) (ks' := 0) rfl ?_
    refine RQ.blk 1 (pc' := 252) (lv' := [(7, .int (nI (l - k) - nI (nl c) - 0)), (6, .int (-1)), (5, .int (nI c)), (4, .int (nI l)), (0, .ref 196), (1, .int (nI a)), (2, .int (nI b)), (3, .int (nI k))]) (st' := [.int (nI (ndR op se (-1) p ms kd nl ps) + (nI (l - k) - nI (nl c) - 0))]) (H' := _) (kc' := 0) (ks' := 0) rfl ?_
    rw [nI_mix0 hge]
    refine RQ.blk 1 (pc' := 253) (lv' := [(7, .int (nI (l - k) - nI (nl c) - 0)), (6, .int (-1)), (5, .int (nI c)), (4, .int (nI l)), (0, .ref 196), (1, .int (nI a)), (2, .int (nI b)), (3, .int (nI k))]) (st' := [.ref 196, .int (nI ((ndR op se (-1) p ms kd nl ps) + (l - k) - nl c))]) (H' := _) (kc' := 0) (ks' := 0) rfl ?_
    refine RQ.get (ci := 12) rfl hm1 rfl rfl ?_
    refine RQ.brT rfl rfl rfl (cT_le ((ndR op se (-1) p ms kd nl ps) + (l - k) - nl c) li) ?_
    refine RQ.blk 2 (pc' := 267) (lv' := [(7, .int (nI (l - k) - nI (nl c) - 0)), (6, .int (-1)), (5, .int (nI c)), (4, .int (nI l)), (0, .ref 196), (1, .int (nI a)), (2, .int (nI b)), (3, .int (nI k))]) (st' := [.int 2, .ref 196]) (H' := _) (kc' := 0) (ks' := 0) rfl ?_
    refine RQ.callI (st' := []) rfl rfl rfl rfl rfl rfl (args_v [.int 2] [] rfl rfl (Nat.le_of_ble_eq_true rfl) rfl hm1 (Nat.le_of_ble_eq_true rfl)) (ri_mlost1 (x := 2) hm1 h51) (fun y H2 hy => ?_)
    obtain ⟨ey, hm2, h52, f2⟩ := hy
    rw [ey]
    refine RQ.brF rfl rfl rfl (by decide) ?_
    refine RQ.blk 1 (pc' := 274) (lv' := [(7, .int (nI (l - k) - nI (nl c) - 0)), (6, .int (-1)), (5, .int (nI c)), (4, .int (nI l)), (0, .ref 196), (1, .int (nI a)), (2, .int (nI b)), (3, .int (nI k))]) (st' := [.ref 196]) (H' := _) (kc' := 0) (ks' := 0) rfl ?_
    have g2 : ∀ a, a ≠ 195 → a ≠ 205 → H2[a]? = H[a]? := fun a a1 a2 => (f2 a a1 a2).trans (f1 a a1)
    refine RQ.callN (st' := []) rfl rfl rfl rfl rfl rfl (args_v [] [] rfl rfl (Nat.le_of_ble_eq_true rfl) rfl hm2 (Nat.le_of_ble_eq_true rfl)) (rn_pruneL (op := (fun j => if j < 8 then false else op j)) hm2 (hV.far (fun a a1 a2 => g2 a (by omega) (by omega)) (g2 223 (by decide) (by decide))) k3 h52 ((g2 206 (by decide) (by decide)).trans h6) k4 (by omega)) (fun H3 hz => ?_)
    obtain ⟨us', hm3, hV3, f3⟩ := hz
    refine RQ.blk 1 (pc' := 278) (lv' := [(7, .int (nI (l - k) - nI (nl c) - 0)), (6, .int (-1)), (5, .int (nI c)), (4, .int (nI l)), (0, .ref 196), (1, .int (nI a)), (2, .int (nI b)), (3, .int (nI k))]) (st' := [.int 0]) (H' := _) (kc' := 0) (ks' := 0) rfl ?_
    have g3 : ∀ a, ¬ (195 ≤ a ∧ a ≤ 205 ∧ a ≠ 196 ∧ a ≠ 197 ∨ a = 223) → H3[a]? = H[a]? := fun a ha => (f3 a (by omega)).trans (g2 a (by omega) (by omega))
    exact RQ.done (c := 0) (s := 0) rfl rfl rfl rfl ⟨_, _, rfl, rfl, ⟨us', bo, ba, hm3, hV3, (f3 205 (by omega)).trans h52, (g3 206 (by omega)).trans h6, hR.far (fun a a1 => g3 a (by omega)), hT.far (fun a a1 a2 => g3 a (by omega)), hP.far (fun a a1 a2 => g3 a (by omega)), (g3 196 (by omega)).trans h196, (g3 197 (by omega)).trans h197⟩, fun a ha => g3 a (by omega)⟩
  · refine RQ.call (v := some (.int 0)) (st' := []) rfl rfl rfl rfl rfl rfl (args_v [.int (nI c)] [] rfl rfl (Nat.le_of_ble_eq_true rfl) rfl hm1 (Nat.le_of_ble_eq_true rfl)) (rc_mdirF hm1 rfl hT1.1 (by omega) (nI_ne2 hkc.1 kc)) ?_
    refine RQ.brT rfl rfl rfl (by decide) ?_
    refine RQ.blk 1 (pc' := 179) (lv' := [(6, .int (-1)), (5, .int (nI c)), (4, .int (nI l)), (0, .ref 196), (1, .int (nI a)), (2, .int (nI b)), (3, .int (nI k))]) (st' := [.int (-1)]) (H' := _) (kc' := 0) (ks' := 0) rfl ?_
    refine RQ.brT rfl rfl rfl (by decide) ?_
    refine RQ.blk 3 (pc' := 210) (lv' := [(6, .int (-1)), (5, .int (nI c)), (4, .int (nI l)), (0, .ref 196), (1, .int (nI a)), (2, .int (nI b)), (3, .int (nI k))]) (st' := [.int (nI l - nI k)]) (H' := _) (kc' := 0) (ks' := 0) rfl ?_
    rw [show (nI l - nI k : Int32) = nI (l - k) from pk_sub (a := l) (b := k) (by omega)]
    refine RQ.blk 1 (pc' := 211) (lv' := [(6, .int (-1)), (5, .int (nI c)), (4, .int (nI l)), (0, .ref 196), (1, .int (nI a)), (2, .int (nI b)), (3, .int (nI k))]) (st' := [.ref 196, .int (nI (l - k))]) (H' := _) (kc' := 0) (ks' := 0) rfl ?_
    refine RQ.get (ci := 12) rfl hm1 rfl rfl ?_
    refine RQ.blk 1 (pc' := 216) (lv' := [(6, .int (-1)), (5, .int (nI c)), (4, .int (nI l)), (0, .ref 196), (1, .int (nI a)), (2, .int (nI b)), (3, .int (nI k))]) (st' := [.int (nI c), .ref 216, .int (nI (l - k))]) (H' := _) (kc' := 0) (ks' := 0) rfl ?_
    refine RQ.ialdN (j := c) rfl hT1.2.2.1 (by omega) (by decide) ?_
    refine RQ.blk 1 (pc' := 218) (lv' := [(6, .int (-1)), (5, .int (nI c)), (4, .int (nI l)), (0, .ref 196), (1, .int (nI a)), (2, .int (nI b)), (3, .int (nI k))]) (st' := [.int (nI (l - k) - nI (nl c))]) (H' := _) (kc' := 0) (ks' := 0) rfl ?_
    refine RQ.blk 1 (pc' := 220) (lv' := [(6, .int (-1)), (5, .int (nI c)), (4, .int (nI l)), (0, .ref 196), (1, .int (nI a)), (2, .int (nI b)), (3, .int (nI k))]) (st' := [.int (-1), .int (nI (l - k) - nI (nl c))]) (H' := _) (kc' := 0) (ks' := 0) rfl ?_
    refine RQ.brF rfl rfl rfl (by decide) ?_
    refine RQ.blk 2 (pc' := 241) (lv' := [(6, .int (-1)), (5, .int (nI c)), (4, .int (nI l)), (0, .ref 196), (1, .int (nI a)), (2, .int (nI b)), (3, .int (nI k))]) (st' := [.int 0, .int (nI (l - k) - nI (nl c))]) (H' := _) (kc' := 0) (ks' := 0) rfl ?_
    refine RQ.blk 1 (pc' := 242) (lv' := [(6, .int (-1)), (5, .int (nI c)), (4, .int (nI l)), (0, .ref 196), (1, .int (nI a)), (2, .int (nI b)), (3, .int (nI k))]) (st' := [.int ((nI (l - k) - nI (nl c)) - 0)]) (H' := _) (kc' := 0) (ks' := 0) rfl ?_
    refine RQ.blk 3 (pc' := 246) (lv' := [(7, .int (nI (l - k) - nI (nl c) - 0)), (6, .int (-1)), (5, .int (nI c)), (4, .int (nI l)), (0, .ref 196), (1, .int (nI a)), (2, .int (nI b)), (3, .int (nI k))]) (st' := [.int (-1), .ref 196]) (H' := _) (kc' := 0) (ks' := 0) rfl ?_
    refine RQ.call (v := some (.int (nI (ndR op se (-1) p ms kd nl ps)))) (st' := []) rfl rfl rfl rfl rfl rfl (args_v [.int (-1)] [] rfl rfl (Nat.le_of_ble_eq_true rfl) rfl hm1 (Nat.le_of_ble_eq_true rfl)) (rc_mneedR (x := -1) hm1 hV1 k3 h51 h61 k4 hT1 k5 hP1 k6 (by omega)) ?_
    refine RQ.blk 1 (pc' := 251) (lv' := [(7, .int (nI (l - k) - nI (nl c) - 0)), (6, .int (-1)), (5, .int (nI c)), (4, .int (nI l)), (0, .ref 196), (1, .int (nI a)), (2, .int (nI b)), (3, .int (nI k))]) (st' := [.int (nI (l - k) - nI (nl c) - 0), .int (nI (ndR op se (-1) p ms kd nl ps))]) (H' := _) (kc' := 0) (ks' := 0) rfl ?_
    refine RQ.blk 1 (pc' := 252) (lv' := [(7, .int (nI (l - k) - nI (nl c) - 0)), (6, .int (-1)), (5, .int (nI c)), (4, .int (nI l)), (0, .ref 196), (1, .int (nI a)), (2, .int (nI b)), (3, .int (nI k))]) (st' := [.int (nI (ndR op se (-1) p ms kd nl ps) + (nI (l - k) - nI (nl c) - 0))]) (H' := _) (kc' := 0) (ks' := 0) rfl ?_
    rw [nI_mix0 hge]
    refine RQ.blk 1 (pc' := 253) (lv' := [(7, .int (nI (l - k) - nI (nl c) - 0)), (6, .int (-1)), (5, .int (nI c)), (4, .int (nI l)), (0, .ref 196), (1, .int (nI a)), (2, .int (nI b)), (3, .int (nI k))]) (st' := [.ref 196, .int (nI ((ndR op se (-1) p ms kd nl ps) + (l - k) - nl c))]) (H' := _) (kc' := 0) (ks' := 0) rfl ?_
    refine RQ.get (ci := 12) rfl hm1 rfl rfl ?_
    refine RQ.brT rfl rfl rfl (cT_le ((ndR op se (-1) p ms kd nl ps) + (l - k) - nl c) li) ?_
    refine RQ.blk 2 (pc' := 267) (lv' := [(7, .int (nI (l - k) - nI (nl c) - 0)), (6, .int (-1)), (5, .int (nI c)), (4, .int (nI l)), (0, .ref 196), (1, .int (nI a)), (2, .int (nI b)), (3, .int (nI k))]) (st' := [.int 2, .ref 196]) (H' := _) (kc' := 0) (ks' := 0) rfl ?_
    refine RQ.callI (st' := []) rfl rfl rfl rfl rfl rfl (args_v [.int 2] [] rfl rfl (Nat.le_of_ble_eq_true rfl) rfl hm1 (Nat.le_of_ble_eq_true rfl)) (ri_mlost1 (x := 2) hm1 h51) (fun y H2 hy => ?_)
    obtain ⟨ey, hm2, h52, f2⟩ := hy
    rw [ey]
    refine RQ.brF rfl rfl rfl (by decide) ?_
    refine RQ.blk 1 (pc' := 274) (lv' := [(7, .int (nI (l - k) - nI (nl c) - 0)), (6, .int (-1)), (5, .int (nI c)), (4, .int (nI l)), (0, .ref 196), (1, .int (nI a)), (2, .int (nI b)), (3, .int (nI k))]) (st' := [.ref 196]) (H' := _) (kc' := 0) (ks' := 0) rfl ?_
    have g2 : ∀ a, a ≠ 195 → a ≠ 205 → H2[a]? = H[a]? := fun a a1 a2 => (f2 a a1 a2).trans (f1 a a1)
    refine RQ.callN (st' := []) rfl rfl rfl rfl rfl rfl (args_v [] [] rfl rfl (Nat.le_of_ble_eq_true rfl) rfl hm2 (Nat.le_of_ble_eq_true rfl)) (rn_pruneL (op := (fun j => if j < 8 then false else op j)) hm2 (hV.far (fun a a1 a2 => g2 a (by omega) (by omega)) (g2 223 (by decide) (by decide))) k3 h52 ((g2 206 (by decide) (by decide)).trans h6) k4 (by omega)) (fun H3 hz => ?_)
    obtain ⟨us', hm3, hV3, f3⟩ := hz
    refine RQ.blk 1 (pc' := 278) (lv' := [(7, .int (nI (l - k) - nI (nl c) - 0)), (6, .int (-1)), (5, .int (nI c)), (4, .int (nI l)), (0, .ref 196), (1, .int (nI a)), (2, .int (nI b)), (3, .int (nI k))]) (st' := [.int 0]) (H' := _) (kc' := 0) (ks' := 0) rfl ?_
    have g3 : ∀ a, ¬ (195 ≤ a ∧ a ≤ 205 ∧ a ≠ 196 ∧ a ≠ 197 ∨ a = 223) → H3[a]? = H[a]? := fun a ha => (f3 a (by omega)).trans (g2 a (by omega) (by omega))
    exact RQ.done (c := 0) (s := 0) rfl rfl rfl rfl ⟨_, _, rfl, rfl, ⟨us', bo, ba, hm3, hV3, (f3 205 (by omega)).trans h52, (g3 206 (by omega)).trans h6, hR.far (fun a a1 => g3 a (by omega)), hT.far (fun a a1 a2 => g3 a (by omega)), hP.far (fun a a1 a2 => g3 a (by omega)), (g3 196 (by omega)).trans h196, (g3 197 (by omega)).trans h197⟩, fun a ha => g3 a (by omega)⟩
set_option maxRecDepth 20000 in
theorem ri_mrename0_ok {sc : Nat × (Nat → Int32)} {d l : Nat} {H : aH} {fa cl rs : Int32} {li : Nat} {tb : Nat → Int8} {g0 : Nat → Int8} {p : Nat} {ms : List aMV} {op : Nat → Bool} {se : Nat → Nat} {wss : Nat → List aE} {kd pa sz nl : Nat → Nat} {nm : Nat → Int8} {ps : List aPc} {a b k : Nat} {c : Nat} (h : RefI H fa li 0 0 cl tb l rs g0 p ms op se wss kd pa sz nl nm ps) (hk : RefOk l p ms se kd pa sz nl ps) (ha : a ≤ 200) (hb : b ≤ 200) (hk1 : 1 ≤ k) (hk30 : k ≤ 30) (hkl : k < l) (hl30 : l - k ≤ 30) (hn1 : noSl tb 0 k) (hn2 : noSl tb k (l - k)) (hkd : kd a = 2) (hkd2 : kd b = 2) (hc : (fstF (inN kd pa nl nm a (sl tb 0 k)) 1 200) = some c) (ht : (fstF (inN kd pa nl nm b (sl tb k (l - k))) 1 200) = none) (hup : upF pa c 201 b = 0 ∨ upF pa c 201 b = c) (hni : ¬ (kd c = 2 ∧ upF pa c 201 b = c)) (hli : li < 2 ^ 31) (hnd : (ndR op se (-1) p ms kd nl ps) + l < 2 ^ 31) (hge : nl c ≤ (ndR op se (-1) p ms kd nl ps) + (l - k)) (hfits : ((ndR op se (-1) p ms kd nl ps) + (l - k) - nl c) ≤ li) : RI sc (d + 5) mr_317 [.ref 196, .int (nI a), .int (nI b), .int (nI k)] H (fun x H' => x = nI c ∧ RefI H' 0 li 0 0 cl tb 0 rs g0 (p + 1) ms op se wss kd (va_up pa c b) sz (va_up nl c (l - k)) (cpy tb k nm (30 * c) (l - k)) ps ∧ ∀ a, ¬ (195 ≤ a ∧ a < 224) → H'[a]? = H[a]?) := by
  obtain ⟨us, ba, bo, hm, hV, h5, h6, hR, hT, hP, h196, h197⟩ := h
  obtain ⟨k1, k2, k3, k4, k5, k6, k7, k8⟩ := hk
  refine RI.of ?_
  refine RQ.blk 2 (pc' := 2) (lv' := [(0, .ref 196), (1, .int (nI a)), (2, .int (nI b)), (3, .int (nI k))]) (st' := [.int 0, .ref 196]) (H' := _) (kc' := 0) (ks' := 0) rfl ?_
  refine RQ.put (ci := 12) rfl hm rfl rfl (Nat.le_of_ble_eq_true rfl) ?_
  have hm1 : (H.set 195 (kO 12 (mfs 0 (nI li) 0 0 cl (nI l) rs (nI p) (nI ms.length) (nI us) (nI ps.length) (nI (plen ps)) ba bo)))[195]? = some (kO 12 (mfs 0 (nI li) 0 0 cl (nI l) rs (nI p) (nI ms.length) (nI us) (nI ps.length) (nI (plen ps)) ba bo)) := get_set hm
  have f1 : ∀ a, a ≠ 195 → (H.set 195 (kO 12 (mfs 0 (nI li) 0 0 cl (nI l) rs (nI p) (nI ms.length) (nI us) (nI ps.length) (nI (plen ps)) ba bo)))[a]? = H[a]? := fun a ha => set_far ha
  show RQ _ _ _ 5 [(0, .ref 196), (1, .int (nI a)), (2, .int (nI b)), (3, .int (nI k))] [] (H.set 195 (kO 12 (mfs 0 (nI li) 0 0 cl (nI l) rs (nI p) (nI ms.length) (nI us) (nI ps.length) (nI (plen ps)) ba bo))) 0 0 _
  generalize (H.set 195 (kO 12 (mfs 0 (nI li) 0 0 cl (nI l) rs (nI p) (nI ms.length) (nI us) (nI ps.length) (nI (plen ps)) ba bo))) = H1 at hm1 f1 ⊢
  have hV1 := hV.far (fun a a1 a2 => f1 a (by omega)) (f1 223 (by decide))
  have h51 := (f1 205 (by decide)).trans h5
  have h61 := (f1 206 (by decide)).trans h6
  have hR1 := hR.far (fun a a1 => f1 a (by omega))
  have hT1 := hT.far (fun a a1 a2 => f1 a (by omega))
  have hP1 := hP.far (fun a a1 a2 => f1 a (by omega))
  have h1961 := (f1 196 (by decide)).trans h196
  have h1971 := (f1 197 (by decide)).trans h197
  have hka := k5 a ha
  have hkb := k5 b hb
  refine RQ.blk 3 (pc' := 10) (lv' := [(0, .ref 196), (1, .int (nI a)), (2, .int (nI b)), (3, .int (nI k))]) (st' := [.int 201, .int (nI a), .ref 196]) (H' := _) (kc' := 0) (ks' := 0) rfl ?_
  refine RQ.call (v := some (.int 0)) (st' := []) rfl rfl rfl rfl rfl rfl (args_v [.int 201, .int (nI a)] [] rfl rfl (Nat.le_of_ble_eq_true rfl) rfl hm1 (Nat.le_of_ble_eq_true rfl)) (rc_out (v := a) (m := 201) (by omega) (by decide)) ?_
  refine RQ.brF rfl rfl rfl (by decide) ?_
  refine RQ.blk 3 (pc' := 21) (lv' := [(0, .ref 196), (1, .int (nI a)), (2, .int (nI b)), (3, .int (nI k))]) (st' := [.int 201, .int (nI b), .ref 196]) (H' := _) (kc' := 0) (ks' := 0) rfl ?_
  refine RQ.call (v := some (.int 0)) (st' := []) rfl rfl rfl rfl rfl rfl (args_v [.int 201, .int (nI b)] [] rfl rfl (Nat.le_of_ble_eq_true rfl) rfl hm1 (Nat.le_of_ble_eq_true rfl)) (rc_out (v := b) (m := 201) (by omega) (by decide)) ?_
  refine RQ.brF rfl rfl rfl (by decide) ?_
  refine RQ.blk 5 (pc' := 32) (lv' := [(0, .ref 196), (1, .int (nI a)), (2, .int (nI b)), (3, .int (nI k))]) (st' := [.ref 196, .int (nI k), .ref 196, .int 0, .ref 196]) (H' := _) (kc' := 0) (ks' := 0) rfl ?_
  refine RQ.get (ci := 12) rfl hm1 rfl rfl ?_
  refine RQ.call (v := some (.int (nI (min k l)))) (st' := [.int 0, .ref 196]) rfl rfl rfl rfl rfl rfl (args_v [.int (nI l), .int (nI k)] [.int 0, .ref 196] rfl rfl (Nat.le_of_ble_eq_true rfl) rfl hm1 (Nat.le_of_ble_eq_true rfl)) (rc_mleast (a := k) (b := l) (by omega) (by omega)) ?_
  rw [show min k l = k by omega]
  refine RQ.call (v := some (.int 1)) (st' := []) rfl rfl rfl rfl rfl rfl (args_v [.int (nI k), .int 0] [] rfl rfl (Nat.le_of_ble_eq_true rfl) rfl hm1 (Nat.le_of_ble_eq_true rfl)) (rc_named1 (i := 0) (n := k) hm1 h1961 (by decide) (by omega) hk1 hk30 hn1) ?_
  refine RQ.brF rfl rfl rfl (by decide) ?_
  refine RQ.blk 2 (pc' := 46) (lv' := [(0, .ref 196), (1, .int (nI a)), (2, .int (nI b)), (3, .int (nI k))]) (st' := [.ref 196, .int (nI k)]) (H' := _) (kc' := 0) (ks' := 0) rfl ?_
  refine RQ.get (ci := 12) rfl hm1 rfl rfl ?_
  refine RQ.brF rfl rfl rfl (cF_gt k l) ?_
  refine RQ.blk 3 (pc' := 55) (lv' := [(0, .ref 196), (1, .int (nI a)), (2, .int (nI b)), (3, .int (nI k))]) (st' := [.ref 196, .int (nI k), .ref 196]) (H' := _) (kc' := 0) (ks' := 0) rfl ?_
  refine RQ.get (ci := 12) rfl hm1 rfl rfl ?_
  refine RQ.blk 2 (pc' := 60) (lv' := [(0, .ref 196), (1, .int (nI a)), (2, .int (nI b)), (3, .int (nI k))]) (st' := [.int (nI l - nI k), .int (nI k), .ref 196]) (H' := _) (kc' := 0) (ks' := 0) rfl ?_
  rw [show (nI l - nI k : Int32) = nI (l - k) from pk_sub (a := l) (b := k) (by omega)]
  refine RQ.call (v := some (.int 1)) (st' := []) rfl rfl rfl rfl rfl rfl (args_v [.int (nI (l - k)), .int (nI k)] [] rfl rfl (Nat.le_of_ble_eq_true rfl) rfl hm1 (Nat.le_of_ble_eq_true rfl)) (rc_named1 (i := k) (n := l - k) hm1 h1961 (by decide) (by omega) (by omega) hl30 hn2) ?_
  refine RQ.brT rfl rfl rfl (by decide) ?_
  refine RQ.blk 1 (pc' := 73) (lv' := [(0, .ref 196), (1, .int (nI a)), (2, .int (nI b)), (3, .int (nI k))]) (st' := [.ref 196]) (H' := _) (kc' := 0) (ks' := 0) rfl ?_
  refine RQ.get (ci := 12) rfl hm1 rfl rfl ?_
  refine RQ.brT rfl rfl rfl (by decide) ?_
  refine RQ.blk 1 (pc' := 86) (lv' := [(0, .ref 196), (1, .int (nI a)), (2, .int (nI b)), (3, .int (nI k))]) (st' := [.ref 196]) (H' := _) (kc' := 0) (ks' := 0) rfl ?_
  refine RQ.get (ci := 12) rfl hm1 rfl rfl ?_
  refine RQ.blk 3 (pc' := 93) (lv' := [(4, .int (nI l)), (0, .ref 196), (1, .int (nI a)), (2, .int (nI b)), (3, .int (nI k))]) (st' := [.int 0, .ref 196]) (H' := _) (kc' := 0) (ks' := 0) rfl ?_
  refine RQ.put (ci := 12) rfl hm1 rfl rfl (Nat.le_of_ble_eq_true rfl) ?_
  have hm2 : (H1.set 195 (kO 12 (mfs 0 (nI li) 0 0 cl (nI 0) rs (nI p) (nI ms.length) (nI us) (nI ps.length) (nI (plen ps)) ba bo)))[195]? = some (kO 12 (mfs 0 (nI li) 0 0 cl (nI 0) rs (nI p) (nI ms.length) (nI us) (nI ps.length) (nI (plen ps)) ba bo)) := get_set hm1
  have f2 : ∀ a, a ≠ 195 → (H1.set 195 (kO 12 (mfs 0 (nI li) 0 0 cl (nI 0) rs (nI p) (nI ms.length) (nI us) (nI ps.length) (nI (plen ps)) ba bo)))[a]? = H[a]? := fun a ha => (set_far ha).trans (f1 a ha)
  show RQ _ _ _ 96 [(4, .int (nI l)), (0, .ref 196), (1, .int (nI a)), (2, .int (nI b)), (3, .int (nI k))] [] (H1.set 195 (kO 12 (mfs 0 (nI li) 0 0 cl (nI 0) rs (nI p) (nI ms.length) (nI us) (nI ps.length) (nI (plen ps)) ba bo))) 0 0 _
  generalize (H1.set 195 (kO 12 (mfs 0 (nI li) 0 0 cl (nI 0) rs (nI p) (nI ms.length) (nI us) (nI ps.length) (nI (plen ps)) ba bo))) = H2 at hm2 f2 ⊢
  clear hm1 f1 hV1 h51 h61 hR1 hT1 hP1 h1961 h1971
  have hm1 := hm2
  have f1 := f2
  clear hm2 f2
  have hV1 := hV.far (fun a a1 a2 => f1 a (by omega)) (f1 223 (by decide))
  have h51 := (f1 205 (by decide)).trans h5
  have h61 := (f1 206 (by decide)).trans h6
  have hR1 := hR.far (fun a a1 => f1 a (by omega))
  have hT1 := hT.far (fun a a1 a2 => f1 a (by omega))
  have hP1 := hP.far (fun a a1 a2 => f1 a (by omega))
  have h1961 := (f1 196 (by decide)).trans h196
  have h1971 := (f1 197 (by decide)).trans h197
  refine RQ.blk 2 (pc' := 98) (lv' := [(4, .int (nI l)), (0, .ref 196), (1, .int (nI a)), (2, .int (nI b)), (3, .int (nI k))]) (st' := [.int (nI a), .ref 196]) (H' := _) (kc' := 0) (ks' := 0) rfl ?_
  refine RQ.call (v := some (.int 1)) (st' := []) rfl rfl rfl rfl rfl rfl (args_v [.int (nI a)] [] rfl rfl (Nat.le_of_ble_eq_true rfl) rfl hm1 (Nat.le_of_ble_eq_true rfl)) (rc_mdirT hm1 rfl hT1.1 ha (nI_is2 hkd)) ?_
  refine RQ.brF rfl rfl rfl (by decide) ?_
  refine RQ.blk 2 (pc' := 106) (lv' := [(4, .int (nI l)), (0, .ref 196), (1, .int (nI a)), (2, .int (nI b)), (3, .int (nI k))]) (st' := [.int (nI b), .ref 196]) (H' := _) (kc' := 0) (ks' := 0) rfl ?_
  refine RQ.call (v := some (.int 1)) (st' := []) rfl rfl rfl rfl rfl rfl (args_v [.int (nI b)] [] rfl rfl (Nat.le_of_ble_eq_true rfl) rfl hm1 (Nat.le_of_ble_eq_true rfl)) (rc_mdirT hm1 rfl hT1.1 hb (nI_is2 hkd2)) ?_
  refine RQ.brF rfl rfl rfl (by decide) ?_
  refine RQ.blk 4 (pc' := 116) (lv' := [(4, .int (nI l)), (0, .ref 196), (1, .int (nI a)), (2, .int (nI b)), (3, .int (nI k))]) (st' := [.int (nI k), .int 0, .int (nI a), .ref 196]) (H' := _) (kc' := 0) (ks' := 0) rfl ?_
  have hch := rc_mchild (sc := sc) (d := d + 3) (j := 0) (m := k) hm1 hT1 k5 h1961 (by omega) ha
  rw [hc] at hch
  have hcl := fstF_lt hc
  have hkc := k5 c (by omega)
  refine RQ.call (v := some (.int (nI c))) (st' := []) rfl rfl rfl rfl rfl rfl (args_v [.int (nI k), .int 0, .int (nI a)] [] rfl rfl (Nat.le_of_ble_eq_true rfl) rfl hm1 (Nat.le_of_ble_eq_true rfl)) hch ?_
  refine RQ.blk 3 (pc' := 127) (lv' := [(5, .int (nI c)), (4, .int (nI l)), (0, .ref 196), (1, .int (nI a)), (2, .int (nI b)), (3, .int (nI k))]) (st' := [.int (nI c)]) (H' := _) (kc' := 0) (ks' := 0) rfl ?_
  refine RQ.brT rfl rfl rfl (cT_ge c 0) ?_
  refine RQ.blk 6 (pc' := 143) (lv' := [(5, .int (nI c)), (4, .int (nI l)), (0, .ref 196), (1, .int (nI a)), (2, .int (nI b)), (3, .int (nI k))]) (st' := [.int (nI l - nI k), .int (nI k), .int (nI b), .ref 196]) (H' := _) (kc' := 0) (ks' := 0) rfl ?_
  rw [show (nI l - nI k : Int32) = nI (l - k) from pk_sub (a := l) (b := k) (by omega)]
  have hch2 := rc_mchild (sc := sc) (d := d + 3) (j := k) (m := l - k) hm1 hT1 k5 h1961 (by omega) hb
  rw [ht] at hch2
  refine RQ.call (v := some (.int (-1))) (st' := []) rfl rfl rfl rfl rfl rfl (args_v [.int (nI (l - k)), .int (nI k), .int (nI b)] [] rfl rfl (Nat.le_of_ble_eq_true rfl) rfl hm1 (Nat.le_of_ble_eq_true rfl)) hch2 ?_
  refine RQ.blk 3 (pc' := 152) (lv' := [(6, .int (-1)), (5, .int (nI c)), (4, .int (nI l)), (0, .ref 196), (1, .int (nI a)), (2, .int (nI b)), (3, .int (nI k))]) (st' := [.int (nI c), .int (-1)]) (H' := _) (kc' := 0) (ks' := 0) rfl ?_
  refine RQ.brT rfl rfl rfl (bnt (neg1_ne c (by omega))) ?_
  refine RQ.blk 2 (pc' := 161) (lv' := [(6, .int (-1)), (5, .int (nI c)), (4, .int (nI l)), (0, .ref 196), (1, .int (nI a)), (2, .int (nI b)), (3, .int (nI k))]) (st' := [.int (nI c), .ref 196]) (H' := _) (kc' := 0) (ks' := 0) rfl ?_
  by_cases kc : kd c = 2
  · have ki : ¬ upF pa c 201 b = c := fun e => hni ⟨kc, e⟩
    refine RQ.call (v := some (.int 1)) (st' := []) rfl rfl rfl rfl rfl rfl (args_v [.int (nI c)] [] rfl rfl (Nat.le_of_ble_eq_true rfl) rfl hm1 (Nat.le_of_ble_eq_true rfl)) (rc_mdirT hm1 rfl hT1.1 (by omega) (nI_is2 kc)) ?_
    refine RQ.brF rfl rfl rfl (by decide) ?_
    refine RQ.blk 3 (pc' := 171) (lv' := [(6, .int (-1)), (5, .int (nI c)), (4, .int (nI l)), (0, .ref 196), (1, .int (nI a)), (2, .int (nI b)), (3, .int (nI k))]) (st' := [.int (nI c), .int (nI b), .ref 196]) (H' := _) (kc' := 0) (ks' := 0) rfl ?_
    have hin := rc_minside (sc := sc) (d := d + 4) hm1 hT1.2.1 (fun w hw => (k5 w hw).2.1) hb (show c ≤ 200 by omega) hup
    rw [if_neg ki] at hin
    refine RQ.call (v := some (.int 0)) (st' := []) rfl rfl rfl rfl rfl rfl (args_v [.int (nI c), .int (nI b)] [] rfl rfl (Nat.le_of_ble_eq_true rfl) rfl hm1 (Nat.le_of_ble_eq_true rfl)) hin ?_
    refine RQ.brF rfl rfl rfl (by decide) ?_
    refine RQ.blk 1 (pc' := 179) (lv' := [(6, .int (-1)), (5, .int (nI c)), (4, .int (nI l)), (0, .ref 196), (1, .int (nI a)), (2, .int (nI b)), (3, .int (nI k))]) (st' := [.int (-1)]) (H' := _) (kc' := 0) (ks' := 0) rfl ?_
    refine RQ.brT rfl rfl rfl (by decide) ?_
    refine RQ.blk 3 (pc' := 210) (lv' := [(6, .int (-1)), (5, .int (nI c)), (4, .int (nI l)), (0, .ref 196), (1, .int (nI a)), (2, .int (nI b)), (3, .int (nI k))]) (st' := [.int (nI l - nI k)]) (H' := _) (kc' := 0) (ks' := 0) rfl ?_
    rw [show (nI l - nI k : Int32) = nI (l - k) from pk_sub (a := l) (b := k) (by omega)]
    refine RQ.blk 1 (pc' := 211) (lv' := [(6, .int (-1)), (5, .int (nI c)), (4, .int (nI l)), (0, .ref 196), (1, .int (nI a)), (2, .int (nI b)), (3, .int (nI k))]) (st' := [.ref 196, .int (nI (l - k))]) (H' := _) (kc' := 0) (ks' := 0) rfl ?_
    refine RQ.get (ci := 12) rfl hm1 rfl rfl ?_
    refine RQ.blk 1 (pc' := 216) (lv' := [(6, .int (-1)), (5, .int (nI c)), (4, .int (nI l)), (0, .ref 196), (1, .int (nI a)), (2, .int (nI b)), (3, .int (nI k))]) (st' := [.int (nI c), .ref 216, .int (nI (l - k))]) (H' := _) (kc' := 0) (ks' := 0) rfl ?_
    refine RQ.ialdN (j := c) rfl hT1.2.2.1 (by omega) (by decide) ?_
    refine RQ.blk 1 (pc' := 218) (lv' := [(6, .int (-1)), (5, .int (nI c)), (4, .int (nI l)), (0, .ref 196), (1, .int (nI a)), (2, .int (nI b)), (3, .int (nI k))]) (st' := [.int (nI (l - k) - nI (nl c))]) (H' := _) (kc' := 0) (ks' := 0) rfl ?_
    refine RQ.blk 1 (pc' := 220) (lv' := [(6, .int (-1)), (5, .int (nI c)), (4, .int (nI l)), (0, .ref 196), (1, .int (nI a)), (2, .int (nI b)), (3, .int (nI k))]) (st' := [.int (-1), .int (nI (l - k) - nI (nl c))]) (H' := _) (kc' := 0) (ks' := 0) rfl ?_
    refine RQ.brF rfl rfl rfl (by decide) ?_
    refine RQ.blk 2 (pc' := 241) (lv' := [(6, .int (-1)), (5, .int (nI c)), (4, .int (nI l)), (0, .ref 196), (1, .int (nI a)), (2, .int (nI b)), (3, .int (nI k))]) (st' := [.int 0, .int (nI (l - k) - nI (nl c))]) (H' := _) (kc' := 0) (ks' := 0) rfl ?_
    refine RQ.blk 1 (pc' := 242) (lv' := [(6, .int (-1)), (5, .int (nI c)), (4, .int (nI l)), (0, .ref 196), (1, .int (nI a)), (2, .int (nI b)), (3, .int (nI k))]) (st' := [.int ((nI (l - k) - nI (nl c)) - 0)]) (H' := _) (kc' := 0) (ks' := 0) rfl ?_
    refine RQ.blk 3 (pc' := 246) (lv' := [(7, .int (nI (l - k) - nI (nl c) - 0)), (6, .int (-1)), (5, .int (nI c)), (4, .int (nI l)), (0, .ref 196), (1, .int (nI a)), (2, .int (nI b)), (3, .int (nI k))]) (st' := [.int (-1), .ref 196]) (H' := _) (kc' := 0) (ks' := 0) rfl ?_
    refine RQ.call (v := some (.int (nI (ndR op se (-1) p ms kd nl ps)))) (st' := []) rfl rfl rfl rfl rfl rfl (args_v [.int (-1)] [] rfl rfl (Nat.le_of_ble_eq_true rfl) rfl hm1 (Nat.le_of_ble_eq_true rfl)) (rc_mneedR (x := -1) hm1 hV1 k3 h51 h61 k4 hT1 k5 hP1 k6 (by omega)) ?_
    refine RQ.blk 1 (pc' := 251) (lv' := [(7, .int (nI (l - k) - nI (nl c) - 0)), (6, .int (-1)), (5, .int (nI c)), (4, .int (nI l)), (0, .ref 196), (1, .int (nI a)), (2, .int (nI b)), (3, .int (nI k))]) (st' := [.int (nI (l - k) - nI (nl c) - 0), .int (nI (ndR op se (-1) p ms kd nl ps))]) (H' := _) (kc' := 0) (ks' := 0) rfl ?_
    refine RQ.blk 1 (pc' := 252) (lv' := [(7, .int (nI (l - k) - nI (nl c) - 0)), (6, .int (-1)), (5, .int (nI c)), (4, .int (nI l)), (0, .ref 196), (1, .int (nI a)), (2, .int (nI b)), (3, .int (nI k))]) (st' := [.int (nI (ndR op se (-1) p ms kd nl ps) + (nI (l - k) - nI (nl c) - 0))]) (H' := _) (kc' := 0) (ks' := 0) rfl ?_
    rw [nI_mix0 hge]
    refine RQ.blk 1 (pc' := 253) (lv' := [(7, .int (nI (l - k) - nI (nl c) - 0)), (6, .int (-1)), (5, .int (nI c)), (4, .int (nI l)), (0, .ref 196), (1, .int (nI a)), (2, .int (nI b)), (3, .int (nI k))]) (st' := [.ref 196, .int (nI ((ndR op se (-1) p ms kd nl ps) + (l - k) - nl c))]) (H' := _) (kc' := 0) (ks' := 0) rfl ?_
    refine RQ.get (ci := 12) rfl hm1 rfl rfl ?_
    refine RQ.brT rfl rfl rfl (cT_le ((ndR op se (-1) p ms kd nl ps) + (l - k) - nl c) li) ?_
    refine RQ.blk 2 (pc' := 267) (lv' := [(7, .int (nI (l - k) - nI (nl c) - 0)), (6, .int (-1)), (5, .int (nI c)), (4, .int (nI l)), (0, .ref 196), (1, .int (nI a)), (2, .int (nI b)), (3, .int (nI k))]) (st' := [.int 2, .ref 196]) (H' := _) (kc' := 0) (ks' := 0) rfl ?_
    refine RQ.call (v := some (.int 0)) (st' := []) rfl rfl rfl rfl rfl rfl (args_v [.int 2] [] rfl rfl (Nat.le_of_ble_eq_true rfl) rfl hm1 (Nat.le_of_ble_eq_true rfl)) (rc_mlost0 hm1) ?_
    refine RQ.brT rfl rfl rfl (by decide) ?_
    refine RQ.blk 1 (pc' := 281) (lv' := [(7, .int (nI (l - k) - nI (nl c) - 0)), (6, .int (-1)), (5, .int (nI c)), (4, .int (nI l)), (0, .ref 196), (1, .int (nI a)), (2, .int (nI b)), (3, .int (nI k))]) (st' := [.int (-1)]) (H' := _) (kc' := 0) (ks' := 0) rfl ?_
    refine RQ.brT rfl rfl rfl (by decide) ?_
    obtain ⟨H3, eH⟩ : ∃ H3, H3 = H2 := ⟨_, rfl⟩
    rw [← eH]
    rw [← eH] at hm1 f1 hT1 hP1
    have hm3 := hm1
    have hP3 := hP1
    have hT3 := hT1
    have f3 : ∀ a, ¬ (a = 195 ∨ a = 213 ∨ (218 ≤ a ∧ a < 223)) → H3[a]? = H[a]? := fun a ha => f1 a (by omega)
    refine RQ.blk 7 (pc' := 299) (lv' := [(7, .int (nI (l - k) - nI (nl c) - 0)), (6, .int (-1)), (5, .int (nI c)), (4, .int (nI l)), (0, .ref 196), (1, .int (nI a)), (2, .int (nI b)), (3, .int (nI k))]) (st' := [.int (nI l - nI k), .int (nI k), .int (nI b), .int (nI c), .ref 196]) (H' := _) (kc' := 0) (ks' := 0) rfl ?_
    rw [show (nI l - nI k : Int32) = nI (l - k) from pk_sub (a := l) (b := k) (by omega)]
    refine RQ.call (v := none) (st' := []) rfl rfl rfl rfl rfl rfl (args_v [.int (nI (l - k)), .int (nI k), .int (nI b), .int (nI c)] [] rfl rfl (Nat.le_of_ble_eq_true rfl) rfl hm3 (Nat.le_of_ble_eq_true rfl)) (rc_mname (v := c) (dir := b) (i := k) (n := l - k) hm3 hT3 ((f3 196 (by omega)).trans h196) (by omega) (by omega) hl30) ?_
    have hm4 : (((H3.set 214 (kI 201 (fun j => nI (va_up pa c b j)))).set 215 (kI 201 (fun j => nI (va_up nl c (l - k) j)))).set 216 (kB 6030 (cpy tb k nm (30 * c) (l - k))))[195]? = _ := (set_far (by decide)).trans ((set_far (by decide)).trans ((set_far (by decide)).trans hm3))
    have f4 : ∀ a, ¬ (a = 195 ∨ (213 ≤ a ∧ a < 223)) → (((H3.set 214 (kI 201 (fun j => nI (va_up pa c b j)))).set 215 (kI 201 (fun j => nI (va_up nl c (l - k) j)))).set 216 (kB 6030 (cpy tb k nm (30 * c) (l - k))))[a]? = H[a]? := fun a ha => (set_far (by omega)).trans ((set_far (by omega)).trans ((set_far (by omega)).trans (f3 a (by omega))))
    have hT4 : MTreeAt (((H3.set 214 (kI 201 (fun j => nI (va_up pa c b j)))).set 215 (kI 201 (fun j => nI (va_up nl c (l - k) j)))).set 216 (kB 6030 (cpy tb k nm (30 * c) (l - k)))) kd (va_up pa c b) sz (va_up nl c (l - k)) (cpy tb k nm (30 * c) (l - k)) := ⟨(set_far (by decide)).trans ((set_far (by decide)).trans ((set_far (by decide)).trans hT3.1)), (set_far (by decide)).trans ((set_far (by decide)).trans (get_set hT3.2.1)), (set_far (by decide)).trans (get_set ((set_far (by decide)).trans hT3.2.2.1)), get_set ((set_far (by decide)).trans ((set_far (by decide)).trans hT3.2.2.2.1)), (set_far (by decide)).trans ((set_far (by decide)).trans ((set_far (by decide)).trans hT3.2.2.2.2))⟩
    have hP4 := hP3.far (H' := (((H3.set 214 (kI 201 (fun j => nI (va_up pa c b j)))).set 215 (kI 201 (fun j => nI (va_up nl c (l - k) j)))).set 216 (kB 6030 (cpy tb k nm (30 * c) (l - k))))) (fun a a1 a2 => (set_far (by omega)).trans ((set_far (by omega)).trans (set_far (by omega))))
    generalize (((H3.set 214 (kI 201 (fun j => nI (va_up pa c b j)))).set 215 (kI 201 (fun j => nI (va_up nl c (l - k) j)))).set 216 (kB 6030 (cpy tb k nm (30 * c) (l - k)))) = H4 at hm4 f4 hT4 hP4 ⊢
    refine RQ.blk 3 (pc' := 306) (lv' := [(7, .int (nI (l - k) - nI (nl c) - 0)), (6, .int (-1)), (5, .int (nI c)), (4, .int (nI l)), (0, .ref 196), (1, .int (nI a)), (2, .int (nI b)), (3, .int (nI k))]) (st' := [.int (nI c), .int 2, .ref 196]) (H' := _) (kc' := 0) (ks' := 0) rfl ?_
    refine RQ.call (v := some (.int (nI c))) (st' := []) rfl rfl rfl rfl rfl rfl (args_v [.int (nI c), .int 2] [] rfl rfl (Nat.le_of_ble_eq_true rfl) rfl hm4 (Nat.le_of_ble_eq_true rfl)) (rc_mchanged0 (x := 2) hm4) ?_
    exact RQ.done (c := 0) (s := 0) rfl rfl rfl rfl ⟨_, _, rfl, rfl, ⟨us, ba, bo, get_set hm4, hV.far (fun a a1 a2 => (set_far (by omega)).trans (f4 a (by omega))) ((set_far (by decide)).trans (f4 223 (by omega))), (set_far (by decide)).trans ((f4 205 (by omega)).trans h5), (set_far (by decide)).trans ((f4 206 (by omega)).trans h6), hR.far (fun a a1 => (set_far (by omega)).trans (f4 a (by omega))), hT4.far (fun a a1 a2 => set_far (by omega)), hP4.far (fun a a1 a2 => set_far (by omega)), (set_far (by decide)).trans ((f4 196 (by omega)).trans h196), (set_far (by decide)).trans ((f4 197 (by omega)).trans h197)⟩, fun a ha => (set_far (by omega)).trans (f4 a (by omega))⟩
  · refine RQ.call (v := some (.int 0)) (st' := []) rfl rfl rfl rfl rfl rfl (args_v [.int (nI c)] [] rfl rfl (Nat.le_of_ble_eq_true rfl) rfl hm1 (Nat.le_of_ble_eq_true rfl)) (rc_mdirF hm1 rfl hT1.1 (by omega) (nI_ne2 hkc.1 kc)) ?_
    refine RQ.brT rfl rfl rfl (by decide) ?_
    refine RQ.blk 1 (pc' := 179) (lv' := [(6, .int (-1)), (5, .int (nI c)), (4, .int (nI l)), (0, .ref 196), (1, .int (nI a)), (2, .int (nI b)), (3, .int (nI k))]) (st' := [.int (-1)]) (H' := _) (kc' := 0) (ks' := 0) rfl ?_
    refine RQ.brT rfl rfl rfl (by decide) ?_
    refine RQ.blk 3 (pc' := 210) (lv' := [(6, .int (-1)), (5, .int (nI c)), (4, .int (nI l)), (0, .ref 196), (1, .int (nI a)), (2, .int (nI b)), (3, .int (nI k))]) (st' := [.int (nI l - nI k)]) (H' := _) (kc' := 0) (ks' := 0) rfl ?_
    rw [show (nI l - nI k : Int32) = nI (l - k) from pk_sub (a := l) (b := k) (by omega)]
    refine RQ.blk 1 (pc' := 211) (lv' := [(6, .int (-1)), (5, .int (nI c)), (4, .int (nI l)), (0, .ref 196), (1, .int (nI a)), (2, .int (nI b)), (3, .int (nI k))]) (st' := [.ref 196, .int (nI (l - k))]) (H' := _) (kc' := 0) (ks' := 0) rfl ?_
    refine RQ.get (ci := 12) rfl hm1 rfl rfl ?_
    refine RQ.blk 1 (pc' := 216) (lv' := [(6, .int (-1)), (5, .int (nI c)), (4, .int (nI l)), (0, .ref 196), (1, .int (nI a)), (2, .int (nI b)), (3, .int (nI k))]) (st' := [.int (nI c), .ref 216, .int (nI (l - k))]) (H' := _) (kc' := 0) (ks' := 0) rfl ?_
    refine RQ.ialdN (j := c) rfl hT1.2.2.1 (by omega) (by decide) ?_
    refine RQ.blk 1 (pc' := 218) (lv' := [(6, .int (-1)), (5, .int (nI c)), (4, .int (nI l)), (0, .ref 196), (1, .int (nI a)), (2, .int (nI b)), (3, .int (nI k))]) (st' := [.int (nI (l - k) - nI (nl c))]) (H' := _) (kc' := 0) (ks' := 0) rfl ?_
    refine RQ.blk 1 (pc' := 220) (lv' := [(6, .int (-1)), (5, .int (nI c)), (4, .int (nI l)), (0, .ref 196), (1, .int (nI a)), (2, .int (nI b)), (3, .int (nI k))]) (st' := [.int (-1), .int (nI (l - k) - nI (nl c))]) (H' := _) (kc' := 0) (ks' := 0) rfl ?_
    refine RQ.brF rfl rfl rfl (by decide) ?_
    refine RQ.blk 2 (pc' := 241) (lv' := [(6, .int (-1)), (5, .int (nI c)), (4, .int (nI l)), (0, .ref 196), (1, .int (nI a)), (2, .int (nI b)), (3, .int (nI k))]) (st' := [.int 0, .int (nI (l - k) - nI (nl c))]) (H' := _) (kc' := 0) (ks' := 0) rfl ?_
    refine RQ.blk 1 (pc' := 242) (lv' := [(6, .int (-1)), (5, .int (nI c)), (4, .int (nI l)), (0, .ref 196), (1, .int (nI a)), (2, .int (nI b)), (3, .int (nI k))]) (st' := [.int ((nI (l - k) - nI (nl c)) - 0)]) (H' := _) (kc' := 0) (ks' := 0) rfl ?_
    refine RQ.blk 3 (pc' := 246) (lv' := [(7, .int (nI (l - k) - nI (nl c) - 0)), (6, .int (-1)), (5, .int (nI c)), (4, .int (nI l)), (0, .ref 196), (1, .int (nI a)), (2, .int (nI b)), (3, .int (nI k))]) (st' := [.int (-1), .ref 196]) (H' := _) (kc' := 0) (ks' := 0) rfl ?_
    refine RQ.call (v := some (.int (nI (ndR op se (-1) p ms kd nl ps)))) (st' := []) rfl rfl rfl rfl rfl rfl (args_v [.int (-1)] [] rfl rfl (Nat.le_of_ble_eq_true rfl) rfl hm1 (Nat.le_of_ble_eq_true rfl)) (rc_mneedR (x := -1) hm1 hV1 k3 h51 h61 k4 hT1 k5 hP1 k6 (by omega)) ?_
    refine RQ.blk 1 (pc' := 251) (lv' := [(7, .int (nI (l - k) - nI (nl c) - 0)), (6, .int (-1)), (5, .int (nI c)), (4, .int (nI l)), (0, .ref 196), (1, .int (nI a)), (2, .int (nI b)), (3, .int (nI k))]) (st' := [.int (nI (l - k) - nI (nl c) - 0), .int (nI (ndR op se (-1) p ms kd nl ps))]) (H' := _) (kc' := 0) (ks' := 0) rfl ?_
    refine RQ.blk 1 (pc' := 252) (lv' := [(7, .int (nI (l - k) - nI (nl c) - 0)), (6, .int (-1)), (5, .int (nI c)), (4, .int (nI l)), (0, .ref 196), (1, .int (nI a)), (2, .int (nI b)), (3, .int (nI k))]) (st' := [.int (nI (ndR op se (-1) p ms kd nl ps) + (nI (l - k) - nI (nl c) - 0))]) (H' := _) (kc' := 0) (ks' := 0) rfl ?_
    rw [nI_mix0 hge]
    refine RQ.blk 1 (pc' := 253) (lv' := [(7, .int (nI (l - k) - nI (nl c) - 0)), (6, .int (-1)), (5, .int (nI c)), (4, .int (nI l)), (0, .ref 196), (1, .int (nI a)), (2, .int (nI b)), (3, .int (nI k))]) (st' := [.ref 196, .int (nI ((ndR op se (-1) p ms kd nl ps) + (l - k) - nl c))]) (H' := _) (kc' := 0) (ks' := 0) rfl ?_
    refine RQ.get (ci := 12) rfl hm1 rfl rfl ?_
    refine RQ.brT rfl rfl rfl (cT_le ((ndR op se (-1) p ms kd nl ps) + (l - k) - nl c) li) ?_
    refine RQ.blk 2 (pc' := 267) (lv' := [(7, .int (nI (l - k) - nI (nl c) - 0)), (6, .int (-1)), (5, .int (nI c)), (4, .int (nI l)), (0, .ref 196), (1, .int (nI a)), (2, .int (nI b)), (3, .int (nI k))]) (st' := [.int 2, .ref 196]) (H' := _) (kc' := 0) (ks' := 0) rfl ?_
    refine RQ.call (v := some (.int 0)) (st' := []) rfl rfl rfl rfl rfl rfl (args_v [.int 2] [] rfl rfl (Nat.le_of_ble_eq_true rfl) rfl hm1 (Nat.le_of_ble_eq_true rfl)) (rc_mlost0 hm1) ?_
    refine RQ.brT rfl rfl rfl (by decide) ?_
    refine RQ.blk 1 (pc' := 281) (lv' := [(7, .int (nI (l - k) - nI (nl c) - 0)), (6, .int (-1)), (5, .int (nI c)), (4, .int (nI l)), (0, .ref 196), (1, .int (nI a)), (2, .int (nI b)), (3, .int (nI k))]) (st' := [.int (-1)]) (H' := _) (kc' := 0) (ks' := 0) rfl ?_
    refine RQ.brT rfl rfl rfl (by decide) ?_
    obtain ⟨H3, eH⟩ : ∃ H3, H3 = H2 := ⟨_, rfl⟩
    rw [← eH]
    rw [← eH] at hm1 f1 hT1 hP1
    have hm3 := hm1
    have hP3 := hP1
    have hT3 := hT1
    have f3 : ∀ a, ¬ (a = 195 ∨ a = 213 ∨ (218 ≤ a ∧ a < 223)) → H3[a]? = H[a]? := fun a ha => f1 a (by omega)
    refine RQ.blk 7 (pc' := 299) (lv' := [(7, .int (nI (l - k) - nI (nl c) - 0)), (6, .int (-1)), (5, .int (nI c)), (4, .int (nI l)), (0, .ref 196), (1, .int (nI a)), (2, .int (nI b)), (3, .int (nI k))]) (st' := [.int (nI l - nI k), .int (nI k), .int (nI b), .int (nI c), .ref 196]) (H' := _) (kc' := 0) (ks' := 0) rfl ?_
    rw [show (nI l - nI k : Int32) = nI (l - k) from pk_sub (a := l) (b := k) (by omega)]
    refine RQ.call (v := none) (st' := []) rfl rfl rfl rfl rfl rfl (args_v [.int (nI (l - k)), .int (nI k), .int (nI b), .int (nI c)] [] rfl rfl (Nat.le_of_ble_eq_true rfl) rfl hm3 (Nat.le_of_ble_eq_true rfl)) (rc_mname (v := c) (dir := b) (i := k) (n := l - k) hm3 hT3 ((f3 196 (by omega)).trans h196) (by omega) (by omega) hl30) ?_
    have hm4 : (((H3.set 214 (kI 201 (fun j => nI (va_up pa c b j)))).set 215 (kI 201 (fun j => nI (va_up nl c (l - k) j)))).set 216 (kB 6030 (cpy tb k nm (30 * c) (l - k))))[195]? = _ := (set_far (by decide)).trans ((set_far (by decide)).trans ((set_far (by decide)).trans hm3))
    have f4 : ∀ a, ¬ (a = 195 ∨ (213 ≤ a ∧ a < 223)) → (((H3.set 214 (kI 201 (fun j => nI (va_up pa c b j)))).set 215 (kI 201 (fun j => nI (va_up nl c (l - k) j)))).set 216 (kB 6030 (cpy tb k nm (30 * c) (l - k))))[a]? = H[a]? := fun a ha => (set_far (by omega)).trans ((set_far (by omega)).trans ((set_far (by omega)).trans (f3 a (by omega))))
    have hT4 : MTreeAt (((H3.set 214 (kI 201 (fun j => nI (va_up pa c b j)))).set 215 (kI 201 (fun j => nI (va_up nl c (l - k) j)))).set 216 (kB 6030 (cpy tb k nm (30 * c) (l - k)))) kd (va_up pa c b) sz (va_up nl c (l - k)) (cpy tb k nm (30 * c) (l - k)) := ⟨(set_far (by decide)).trans ((set_far (by decide)).trans ((set_far (by decide)).trans hT3.1)), (set_far (by decide)).trans ((set_far (by decide)).trans (get_set hT3.2.1)), (set_far (by decide)).trans (get_set ((set_far (by decide)).trans hT3.2.2.1)), get_set ((set_far (by decide)).trans ((set_far (by decide)).trans hT3.2.2.2.1)), (set_far (by decide)).trans ((set_far (by decide)).trans ((set_far (by decide)).trans hT3.2.2.2.2))⟩
    have hP4 := hP3.far (H' := (((H3.set 214 (kI 201 (fun j => nI (va_up pa c b j)))).set 215 (kI 201 (fun j => nI (va_up nl c (l - k) j)))).set 216 (kB 6030 (cpy tb k nm (30 * c) (l - k))))) (fun a a1 a2 => (set_far (by omega)).trans ((set_far (by omega)).trans (set_far (by omega))))
    generalize (((H3.set 214 (kI 201 (fun j => nI (va_up pa c b j)))).set 215 (kI 201 (fun j => nI (va_up nl c (l - k) j)))).set 216 (kB 6030 (cpy tb k nm (30 * c) (l - k)))) = H4 at hm4 f4 hT4 hP4 ⊢
    refine RQ.blk 3 (pc' := 306) (lv' := [(7, .int (nI (l - k) - nI (nl c) - 0)), (6, .int (-1)), (5, .int (nI c)), (4, .int (nI l)), (0, .ref 196), (1, .int (nI a)), (2, .int (nI b)), (3, .int (nI k))]) (st' := [.int (nI c), .int 2, .ref 196]) (H' := _) (kc' := 0) (ks' := 0) rfl ?_
    refine RQ.call (v := some (.int (nI c))) (st' := []) rfl rfl rfl rfl rfl rfl (args_v [.int (nI c), .int 2] [] rfl rfl (Nat.le_of_ble_eq_true rfl) rfl hm4 (Nat.le_of_ble_eq_true rfl)) (rc_mchanged0 (x := 2) hm4) ?_
    exact RQ.done (c := 0) (s := 0) rfl rfl rfl rfl ⟨_, _, rfl, rfl, ⟨us, ba, bo, get_set hm4, hV.far (fun a a1 a2 => (set_far (by omega)).trans (f4 a (by omega))) ((set_far (by decide)).trans (f4 223 (by omega))), (set_far (by decide)).trans ((f4 205 (by omega)).trans h5), (set_far (by decide)).trans ((f4 206 (by omega)).trans h6), hR.far (fun a a1 => (set_far (by omega)).trans (f4 a (by omega))), hT4.far (fun a a1 a2 => set_far (by omega)), hP4.far (fun a a1 a2 => set_far (by omega)), (set_far (by decide)).trans ((f4 196 (by omega)).trans h196), (set_far (by decide)).trans ((f4 197 (by omega)).trans h197)⟩, fun a ha => (set_far (by omega)).trans (f4 a (by omega))⟩
set_option maxRecDepth 20000 in
theorem ri_mrename0_late {sc : Nat × (Nat → Int32)} {d l : Nat} {H : aH} {fa rs : Int32} {li : Nat} {tb : Nat → Int8} {g0 : Nat → Int8} {p : Nat} {ms : List aMV} {op : Nat → Bool} {se : Nat → Nat} {wss : Nat → List aE} {kd pa sz nl : Nat → Nat} {nm : Nat → Int8} {ps : List aPc} {a b k : Nat} {c : Nat} (h : RefI H fa li 0 1 1 tb l rs g0 p ms op se wss kd pa sz nl nm ps) (hk : RefOk l p ms se kd pa sz nl ps) (ha : a ≤ 200) (hb : b ≤ 200) (hk1 : 1 ≤ k) (hk30 : k ≤ 30) (hkl : k < l) (hl30 : l - k ≤ 30) (hn1 : noSl tb 0 k) (hn2 : noSl tb k (l - k)) (hkd : kd a = 2) (hkd2 : kd b = 2) (hc : (fstF (inN kd pa nl nm a (sl tb 0 k)) 1 200) = some c) (ht : (fstF (inN kd pa nl nm b (sl tb k (l - k))) 1 200) = none) (hup : upF pa c 201 b = 0 ∨ upF pa c 201 b = c) (hni : ¬ (kd c = 2 ∧ upF pa c 201 b = c)) (hli : li < 2 ^ 31) (hnd : (ndR op se (-1) p ms kd nl ps) + l < 2 ^ 31) (hge : nl c ≤ (ndR op se (-1) p ms kd nl ps) + (l - k)) (hfits : ((ndR op se (-1) p ms kd nl ps) + (l - k) - nl c) ≤ li) : RI sc (d + 5) mr_317 [.ref 196, .int (nI a), .int (nI b), .int (nI k)] H (fun x H' => x = 0 ∧ RefI H' 2 li 1 0 1 tb 0 0 g0 (p + 1) (ms.filter (keepM (fun j => if j < 8 then false else op j) se (p + 1) (kmM ms))) (fun j => if j < 8 then false else op j) se wss kd (va_up pa c b) sz (va_up nl c (l - k)) (cpy tb k nm (30 * c) (l - k)) ps ∧ ∀ a, ¬ (195 ≤ a ∧ a < 224) → H'[a]? = H[a]?) := by
  obtain ⟨us, ba, bo, hm, hV, h5, h6, hR, hT, hP, h196, h197⟩ := h
  obtain ⟨k1, k2, k3, k4, k5, k6, k7, k8⟩ := hk
  refine RI.of ?_
  refine RQ.blk 2 (pc' := 2) (lv' := [(0, .ref 196), (1, .int (nI a)), (2, .int (nI b)), (3, .int (nI k))]) (st' := [.int 0, .ref 196]) (H' := _) (kc' := 0) (ks' := 0) rfl ?_
  refine RQ.put (ci := 12) rfl hm rfl rfl (Nat.le_of_ble_eq_true rfl) ?_
  have hm1 : (H.set 195 (kO 12 (mfs 0 (nI li) 0 1 1 (nI l) rs (nI p) (nI ms.length) (nI us) (nI ps.length) (nI (plen ps)) ba bo)))[195]? = some (kO 12 (mfs 0 (nI li) 0 1 1 (nI l) rs (nI p) (nI ms.length) (nI us) (nI ps.length) (nI (plen ps)) ba bo)) := get_set hm
  have f1 : ∀ a, a ≠ 195 → (H.set 195 (kO 12 (mfs 0 (nI li) 0 1 1 (nI l) rs (nI p) (nI ms.length) (nI us) (nI ps.length) (nI (plen ps)) ba bo)))[a]? = H[a]? := fun a ha => set_far ha
  show RQ _ _ _ 5 [(0, .ref 196), (1, .int (nI a)), (2, .int (nI b)), (3, .int (nI k))] [] (H.set 195 (kO 12 (mfs 0 (nI li) 0 1 1 (nI l) rs (nI p) (nI ms.length) (nI us) (nI ps.length) (nI (plen ps)) ba bo))) 0 0 _
  generalize (H.set 195 (kO 12 (mfs 0 (nI li) 0 1 1 (nI l) rs (nI p) (nI ms.length) (nI us) (nI ps.length) (nI (plen ps)) ba bo))) = H1 at hm1 f1 ⊢
  have hV1 := hV.far (fun a a1 a2 => f1 a (by omega)) (f1 223 (by decide))
  have h51 := (f1 205 (by decide)).trans h5
  have h61 := (f1 206 (by decide)).trans h6
  have hR1 := hR.far (fun a a1 => f1 a (by omega))
  have hT1 := hT.far (fun a a1 a2 => f1 a (by omega))
  have hP1 := hP.far (fun a a1 a2 => f1 a (by omega))
  have h1961 := (f1 196 (by decide)).trans h196
  have h1971 := (f1 197 (by decide)).trans h197
  have hka := k5 a ha
  have hkb := k5 b hb
  refine RQ.blk 3 (pc' := 10) (lv' := [(0, .ref 196), (1, .int (nI a)), (2, .int (nI b)), (3, .int (nI k))]) (st' := [.int 201, .int (nI a), .ref 196]) (H' := _) (kc' := 0) (ks' := 0) rfl ?_
  refine RQ.call (v := some (.int 0)) (st' := []) rfl rfl rfl rfl rfl rfl (args_v [.int 201, .int (nI a)] [] rfl rfl (Nat.le_of_ble_eq_true rfl) rfl hm1 (Nat.le_of_ble_eq_true rfl)) (rc_out (v := a) (m := 201) (by omega) (by decide)) ?_
  refine RQ.brF rfl rfl rfl (by decide) ?_
  refine RQ.blk 3 (pc' := 21) (lv' := [(0, .ref 196), (1, .int (nI a)), (2, .int (nI b)), (3, .int (nI k))]) (st' := [.int 201, .int (nI b), .ref 196]) (H' := _) (kc' := 0) (ks' := 0) rfl ?_
  refine RQ.call (v := some (.int 0)) (st' := []) rfl rfl rfl rfl rfl rfl (args_v [.int 201, .int (nI b)] [] rfl rfl (Nat.le_of_ble_eq_true rfl) rfl hm1 (Nat.le_of_ble_eq_true rfl)) (rc_out (v := b) (m := 201) (by omega) (by decide)) ?_
  refine RQ.brF rfl rfl rfl (by decide) ?_
  refine RQ.blk 5 (pc' := 32) (lv' := [(0, .ref 196), (1, .int (nI a)), (2, .int (nI b)), (3, .int (nI k))]) (st' := [.ref 196, .int (nI k), .ref 196, .int 0, .ref 196]) (H' := _) (kc' := 0) (ks' := 0) rfl ?_
  refine RQ.get (ci := 12) rfl hm1 rfl rfl ?_
  refine RQ.call (v := some (.int (nI (min k l)))) (st' := [.int 0, .ref 196]) rfl rfl rfl rfl rfl rfl (args_v [.int (nI l), .int (nI k)] [.int 0, .ref 196] rfl rfl (Nat.le_of_ble_eq_true rfl) rfl hm1 (Nat.le_of_ble_eq_true rfl)) (rc_mleast (a := k) (b := l) (by omega) (by omega)) ?_
  rw [show min k l = k by omega]
  refine RQ.call (v := some (.int 1)) (st' := []) rfl rfl rfl rfl rfl rfl (args_v [.int (nI k), .int 0] [] rfl rfl (Nat.le_of_ble_eq_true rfl) rfl hm1 (Nat.le_of_ble_eq_true rfl)) (rc_named1 (i := 0) (n := k) hm1 h1961 (by decide) (by omega) hk1 hk30 hn1) ?_
  refine RQ.brF rfl rfl rfl (by decide) ?_
  refine RQ.blk 2 (pc' := 46) (lv' := [(0, .ref 196), (1, .int (nI a)), (2, .int (nI b)), (3, .int (nI k))]) (st' := [.ref 196, .int (nI k)]) (H' := _) (kc' := 0) (ks' := 0) rfl ?_
  refine RQ.get (ci := 12) rfl hm1 rfl rfl ?_
  refine RQ.brF rfl rfl rfl (cF_gt k l) ?_
  refine RQ.blk 3 (pc' := 55) (lv' := [(0, .ref 196), (1, .int (nI a)), (2, .int (nI b)), (3, .int (nI k))]) (st' := [.ref 196, .int (nI k), .ref 196]) (H' := _) (kc' := 0) (ks' := 0) rfl ?_
  refine RQ.get (ci := 12) rfl hm1 rfl rfl ?_
  refine RQ.blk 2 (pc' := 60) (lv' := [(0, .ref 196), (1, .int (nI a)), (2, .int (nI b)), (3, .int (nI k))]) (st' := [.int (nI l - nI k), .int (nI k), .ref 196]) (H' := _) (kc' := 0) (ks' := 0) rfl ?_
  rw [show (nI l - nI k : Int32) = nI (l - k) from pk_sub (a := l) (b := k) (by omega)]
  refine RQ.call (v := some (.int 1)) (st' := []) rfl rfl rfl rfl rfl rfl (args_v [.int (nI (l - k)), .int (nI k)] [] rfl rfl (Nat.le_of_ble_eq_true rfl) rfl hm1 (Nat.le_of_ble_eq_true rfl)) (rc_named1 (i := k) (n := l - k) hm1 h1961 (by decide) (by omega) (by omega) hl30 hn2) ?_
  refine RQ.brT rfl rfl rfl (by decide) ?_
  refine RQ.blk 1 (pc' := 73) (lv' := [(0, .ref 196), (1, .int (nI a)), (2, .int (nI b)), (3, .int (nI k))]) (st' := [.ref 196]) (H' := _) (kc' := 0) (ks' := 0) rfl ?_
  refine RQ.get (ci := 12) rfl hm1 rfl rfl ?_
  refine RQ.brT rfl rfl rfl (by decide) ?_
  refine RQ.blk 1 (pc' := 86) (lv' := [(0, .ref 196), (1, .int (nI a)), (2, .int (nI b)), (3, .int (nI k))]) (st' := [.ref 196]) (H' := _) (kc' := 0) (ks' := 0) rfl ?_
  refine RQ.get (ci := 12) rfl hm1 rfl rfl ?_
  refine RQ.blk 3 (pc' := 93) (lv' := [(4, .int (nI l)), (0, .ref 196), (1, .int (nI a)), (2, .int (nI b)), (3, .int (nI k))]) (st' := [.int 0, .ref 196]) (H' := _) (kc' := 0) (ks' := 0) rfl ?_
  refine RQ.put (ci := 12) rfl hm1 rfl rfl (Nat.le_of_ble_eq_true rfl) ?_
  have hm2 : (H1.set 195 (kO 12 (mfs 0 (nI li) 0 1 1 (nI 0) rs (nI p) (nI ms.length) (nI us) (nI ps.length) (nI (plen ps)) ba bo)))[195]? = some (kO 12 (mfs 0 (nI li) 0 1 1 (nI 0) rs (nI p) (nI ms.length) (nI us) (nI ps.length) (nI (plen ps)) ba bo)) := get_set hm1
  have f2 : ∀ a, a ≠ 195 → (H1.set 195 (kO 12 (mfs 0 (nI li) 0 1 1 (nI 0) rs (nI p) (nI ms.length) (nI us) (nI ps.length) (nI (plen ps)) ba bo)))[a]? = H[a]? := fun a ha => (set_far ha).trans (f1 a ha)
  show RQ _ _ _ 96 [(4, .int (nI l)), (0, .ref 196), (1, .int (nI a)), (2, .int (nI b)), (3, .int (nI k))] [] (H1.set 195 (kO 12 (mfs 0 (nI li) 0 1 1 (nI 0) rs (nI p) (nI ms.length) (nI us) (nI ps.length) (nI (plen ps)) ba bo))) 0 0 _
  generalize (H1.set 195 (kO 12 (mfs 0 (nI li) 0 1 1 (nI 0) rs (nI p) (nI ms.length) (nI us) (nI ps.length) (nI (plen ps)) ba bo))) = H2 at hm2 f2 ⊢
  clear hm1 f1 hV1 h51 h61 hR1 hT1 hP1 h1961 h1971
  have hm1 := hm2
  have f1 := f2
  clear hm2 f2
  have hV1 := hV.far (fun a a1 a2 => f1 a (by omega)) (f1 223 (by decide))
  have h51 := (f1 205 (by decide)).trans h5
  have h61 := (f1 206 (by decide)).trans h6
  have hR1 := hR.far (fun a a1 => f1 a (by omega))
  have hT1 := hT.far (fun a a1 a2 => f1 a (by omega))
  have hP1 := hP.far (fun a a1 a2 => f1 a (by omega))
  have h1961 := (f1 196 (by decide)).trans h196
  have h1971 := (f1 197 (by decide)).trans h197
  refine RQ.blk 2 (pc' := 98) (lv' := [(4, .int (nI l)), (0, .ref 196), (1, .int (nI a)), (2, .int (nI b)), (3, .int (nI k))]) (st' := [.int (nI a), .ref 196]) (H' := _) (kc' := 0) (ks' := 0) rfl ?_
  refine RQ.call (v := some (.int 1)) (st' := []) rfl rfl rfl rfl rfl rfl (args_v [.int (nI a)] [] rfl rfl (Nat.le_of_ble_eq_true rfl) rfl hm1 (Nat.le_of_ble_eq_true rfl)) (rc_mdirT hm1 rfl hT1.1 ha (nI_is2 hkd)) ?_
  refine RQ.brF rfl rfl rfl (by decide) ?_
  refine RQ.blk 2 (pc' := 106) (lv' := [(4, .int (nI l)), (0, .ref 196), (1, .int (nI a)), (2, .int (nI b)), (3, .int (nI k))]) (st' := [.int (nI b), .ref 196]) (H' := _) (kc' := 0) (ks' := 0) rfl ?_
  refine RQ.call (v := some (.int 1)) (st' := []) rfl rfl rfl rfl rfl rfl (args_v [.int (nI b)] [] rfl rfl (Nat.le_of_ble_eq_true rfl) rfl hm1 (Nat.le_of_ble_eq_true rfl)) (rc_mdirT hm1 rfl hT1.1 hb (nI_is2 hkd2)) ?_
  refine RQ.brF rfl rfl rfl (by decide) ?_
  refine RQ.blk 4 (pc' := 116) (lv' := [(4, .int (nI l)), (0, .ref 196), (1, .int (nI a)), (2, .int (nI b)), (3, .int (nI k))]) (st' := [.int (nI k), .int 0, .int (nI a), .ref 196]) (H' := _) (kc' := 0) (ks' := 0) rfl ?_
  have hch := rc_mchild (sc := sc) (d := d + 3) (j := 0) (m := k) hm1 hT1 k5 h1961 (by omega) ha
  rw [hc] at hch
  have hcl := fstF_lt hc
  have hkc := k5 c (by omega)
  refine RQ.call (v := some (.int (nI c))) (st' := []) rfl rfl rfl rfl rfl rfl (args_v [.int (nI k), .int 0, .int (nI a)] [] rfl rfl (Nat.le_of_ble_eq_true rfl) rfl hm1 (Nat.le_of_ble_eq_true rfl)) hch ?_
  refine RQ.blk 3 (pc' := 127) (lv' := [(5, .int (nI c)), (4, .int (nI l)), (0, .ref 196), (1, .int (nI a)), (2, .int (nI b)), (3, .int (nI k))]) (st' := [.int (nI c)]) (H' := _) (kc' := 0) (ks' := 0) rfl ?_
  refine RQ.brT rfl rfl rfl (cT_ge c 0) ?_
  refine RQ.blk 6 (pc' := 143) (lv' := [(5, .int (nI c)), (4, .int (nI l)), (0, .ref 196), (1, .int (nI a)), (2, .int (nI b)), (3, .int (nI k))]) (st' := [.int (nI l - nI k), .int (nI k), .int (nI b), .ref 196]) (H' := _) (kc' := 0) (ks' := 0) rfl ?_
  rw [show (nI l - nI k : Int32) = nI (l - k) from pk_sub (a := l) (b := k) (by omega)]
  have hch2 := rc_mchild (sc := sc) (d := d + 3) (j := k) (m := l - k) hm1 hT1 k5 h1961 (by omega) hb
  rw [ht] at hch2
  refine RQ.call (v := some (.int (-1))) (st' := []) rfl rfl rfl rfl rfl rfl (args_v [.int (nI (l - k)), .int (nI k), .int (nI b)] [] rfl rfl (Nat.le_of_ble_eq_true rfl) rfl hm1 (Nat.le_of_ble_eq_true rfl)) hch2 ?_
  refine RQ.blk 3 (pc' := 152) (lv' := [(6, .int (-1)), (5, .int (nI c)), (4, .int (nI l)), (0, .ref 196), (1, .int (nI a)), (2, .int (nI b)), (3, .int (nI k))]) (st' := [.int (nI c), .int (-1)]) (H' := _) (kc' := 0) (ks' := 0) rfl ?_
  refine RQ.brT rfl rfl rfl (bnt (neg1_ne c (by omega))) ?_
  refine RQ.blk 2 (pc' := 161) (lv' := [(6, .int (-1)), (5, .int (nI c)), (4, .int (nI l)), (0, .ref 196), (1, .int (nI a)), (2, .int (nI b)), (3, .int (nI k))]) (st' := [.int (nI c), .ref 196]) (H' := _) (kc' := 0) (ks' := 0) rfl ?_
  by_cases kc : kd c = 2
  · have ki : ¬ upF pa c 201 b = c := fun e => hni ⟨kc, e⟩
    refine RQ.call (v := some (.int 1)) (st' := []) rfl rfl rfl rfl rfl rfl (args_v [.int (nI c)] [] rfl rfl (Nat.le_of_ble_eq_true rfl) rfl hm1 (Nat.le_of_ble_eq_true rfl)) (rc_mdirT hm1 rfl hT1.1 (by omega) (nI_is2 kc)) ?_
    refine RQ.brF rfl rfl rfl (by decide) ?_
    refine RQ.blk 3 (pc' := 171) (lv' := [(6, .int (-1)), (5, .int (nI c)), (4, .int (nI l)), (0, .ref 196), (1, .int (nI a)), (2, .int (nI b)), (3, .int (nI k))]) (st' := [.int (nI c), .int (nI b), .ref 196]) (H' := _) (kc' := 0) (ks' := 0) rfl ?_
    have hin := rc_minside (sc := sc) (d := d + 4) hm1 hT1.2.1 (fun w hw => (k5 w hw).2.1) hb (show c ≤ 200 by omega) hup
    rw [if_neg ki] at hin
    refine RQ.call (v := some (.int 0)) (st' := []) rfl rfl rfl rfl rfl rfl (args_v [.int (nI c), .int (nI b)] [] rfl rfl (Nat.le_of_ble_eq_true rfl) rfl hm1 (Nat.le_of_ble_eq_true rfl)) hin ?_
    refine RQ.brF rfl rfl rfl (by decide) ?_
    refine RQ.blk 1 (pc' := 179) (lv' := [(6, .int (-1)), (5, .int (nI c)), (4, .int (nI l)), (0, .ref 196), (1, .int (nI a)), (2, .int (nI b)), (3, .int (nI k))]) (st' := [.int (-1)]) (H' := _) (kc' := 0) (ks' := 0) rfl ?_
    refine RQ.brT rfl rfl rfl (by decide) ?_
    refine RQ.blk 3 (pc' := 210) (lv' := [(6, .int (-1)), (5, .int (nI c)), (4, .int (nI l)), (0, .ref 196), (1, .int (nI a)), (2, .int (nI b)), (3, .int (nI k))]) (st' := [.int (nI l - nI k)]) (H' := _) (kc' := 0) (ks' := 0) rfl ?_
    rw [show (nI l - nI k : Int32) = nI (l - k) from pk_sub (a := l) (b := k) (by omega)]
    refine RQ.blk 1 (pc' := 211) (lv' := [(6, .int (-1)), (5, .int (nI c)), (4, .int (nI l)), (0, .ref 196), (1, .int (nI a)), (2, .int (nI b)), (3, .int (nI k))]) (st' := [.ref 196, .int (nI (l - k))]) (H' := _) (kc' := 0) (ks' := 0) rfl ?_
    refine RQ.get (ci := 12) rfl hm1 rfl rfl ?_
    refine RQ.blk 1 (pc' := 216) (lv' := [(6, .int (-1)), (5, .int (nI c)), (4, .int (nI l)), (0, .ref 196), (1, .int (nI a)), (2, .int (nI b)), (3, .int (nI k))]) (st' := [.int (nI c), .ref 216, .int (nI (l - k))]) (H' := _) (kc' := 0) (ks' := 0) rfl ?_
    refine RQ.ialdN (j := c) rfl hT1.2.2.1 (by omega) (by decide) ?_
    refine RQ.blk 1 (pc' := 218) (lv' := [(6, .int (-1)), (5, .int (nI c)), (4, .int (nI l)), (0, .ref 196), (1, .int (nI a)), (2, .int (nI b)), (3, .int (nI k))]) (st' := [.int (nI (l - k) - nI (nl c))]) (H' := _) (kc' := 0) (ks' := 0) rfl ?_
    refine RQ.blk 1 (pc' := 220) (lv' := [(6, .int (-1)), (5, .int (nI c)), (4, .int (nI l)), (0, .ref 196), (1, .int (nI a)), (2, .int (nI b)), (3, .int (nI k))]) (st' := [.int (-1), .int (nI (l - k) - nI (nl c))]) (H' := _) (kc' := 0) (ks' := 0) rfl ?_
    refine RQ.brF rfl rfl rfl (by decide) ?_
    refine RQ.blk 2 (pc' := 241) (lv' := [(6, .int (-1)), (5, .int (nI c)), (4, .int (nI l)), (0, .ref 196), (1, .int (nI a)), (2, .int (nI b)), (3, .int (nI k))]) (st' := [.int 0, .int (nI (l - k) - nI (nl c))]) (H' := _) (kc' := 0) (ks' := 0) rfl ?_
    refine RQ.blk 1 (pc' := 242) (lv' := [(6, .int (-1)), (5, .int (nI c)), (4, .int (nI l)), (0, .ref 196), (1, .int (nI a)), (2, .int (nI b)), (3, .int (nI k))]) (st' := [.int ((nI (l - k) - nI (nl c)) - 0)]) (H' := _) (kc' := 0) (ks' := 0) rfl ?_
    refine RQ.blk 3 (pc' := 246) (lv' := [(7, .int (nI (l - k) - nI (nl c) - 0)), (6, .int (-1)), (5, .int (nI c)), (4, .int (nI l)), (0, .ref 196), (1, .int (nI a)), (2, .int (nI b)), (3, .int (nI k))]) (st' := [.int (-1), .ref 196]) (H' := _) (kc' := 0) (ks' := 0) rfl ?_
    refine RQ.call (v := some (.int (nI (ndR op se (-1) p ms kd nl ps)))) (st' := []) rfl rfl rfl rfl rfl rfl (args_v [.int (-1)] [] rfl rfl (Nat.le_of_ble_eq_true rfl) rfl hm1 (Nat.le_of_ble_eq_true rfl)) (rc_mneedR (x := -1) hm1 hV1 k3 h51 h61 k4 hT1 k5 hP1 k6 (by omega)) ?_
    refine RQ.blk 1 (pc' := 251) (lv' := [(7, .int (nI (l - k) - nI (nl c) - 0)), (6, .int (-1)), (5, .int (nI c)), (4, .int (nI l)), (0, .ref 196), (1, .int (nI a)), (2, .int (nI b)), (3, .int (nI k))]) (st' := [.int (nI (l - k) - nI (nl c) - 0), .int (nI (ndR op se (-1) p ms kd nl ps))]) (H' := _) (kc' := 0) (ks' := 0) rfl ?_
    refine RQ.blk 1 (pc' := 252) (lv' := [(7, .int (nI (l - k) - nI (nl c) - 0)), (6, .int (-1)), (5, .int (nI c)), (4, .int (nI l)), (0, .ref 196), (1, .int (nI a)), (2, .int (nI b)), (3, .int (nI k))]) (st' := [.int (nI (ndR op se (-1) p ms kd nl ps) + (nI (l - k) - nI (nl c) - 0))]) (H' := _) (kc' := 0) (ks' := 0) rfl ?_
    rw [nI_mix0 hge]
    refine RQ.blk 1 (pc' := 253) (lv' := [(7, .int (nI (l - k) - nI (nl c) - 0)), (6, .int (-1)), (5, .int (nI c)), (4, .int (nI l)), (0, .ref 196), (1, .int (nI a)), (2, .int (nI b)), (3, .int (nI k))]) (st' := [.ref 196, .int (nI ((ndR op se (-1) p ms kd nl ps) + (l - k) - nl c))]) (H' := _) (kc' := 0) (ks' := 0) rfl ?_
    refine RQ.get (ci := 12) rfl hm1 rfl rfl ?_
    refine RQ.brT rfl rfl rfl (cT_le ((ndR op se (-1) p ms kd nl ps) + (l - k) - nl c) li) ?_
    refine RQ.blk 2 (pc' := 267) (lv' := [(7, .int (nI (l - k) - nI (nl c) - 0)), (6, .int (-1)), (5, .int (nI c)), (4, .int (nI l)), (0, .ref 196), (1, .int (nI a)), (2, .int (nI b)), (3, .int (nI k))]) (st' := [.int 2, .ref 196]) (H' := _) (kc' := 0) (ks' := 0) rfl ?_
    refine RQ.call (v := some (.int 0)) (st' := []) rfl rfl rfl rfl rfl rfl (args_v [.int 2] [] rfl rfl (Nat.le_of_ble_eq_true rfl) rfl hm1 (Nat.le_of_ble_eq_true rfl)) (rc_mlostL hm1) ?_
    refine RQ.brT rfl rfl rfl (by decide) ?_
    refine RQ.blk 1 (pc' := 281) (lv' := [(7, .int (nI (l - k) - nI (nl c) - 0)), (6, .int (-1)), (5, .int (nI c)), (4, .int (nI l)), (0, .ref 196), (1, .int (nI a)), (2, .int (nI b)), (3, .int (nI k))]) (st' := [.int (-1)]) (H' := _) (kc' := 0) (ks' := 0) rfl ?_
    refine RQ.brT rfl rfl rfl (by decide) ?_
    obtain ⟨H3, eH⟩ : ∃ H3, H3 = H2 := ⟨_, rfl⟩
    rw [← eH]
    rw [← eH] at hm1 f1 hT1 hP1
    have hm3 := hm1
    have hP3 := hP1
    have hT3 := hT1
    have f3 : ∀ a, ¬ (a = 195 ∨ a = 213 ∨ (218 ≤ a ∧ a < 223)) → H3[a]? = H[a]? := fun a ha => f1 a (by omega)
    refine RQ.blk 7 (pc' := 299) (lv' := [(7, .int (nI (l - k) - nI (nl c) - 0)), (6, .int (-1)), (5, .int (nI c)), (4, .int (nI l)), (0, .ref 196), (1, .int (nI a)), (2, .int (nI b)), (3, .int (nI k))]) (st' := [.int (nI l - nI k), .int (nI k), .int (nI b), .int (nI c), .ref 196]) (H' := _) (kc' := 0) (ks' := 0) rfl ?_
    rw [show (nI l - nI k : Int32) = nI (l - k) from pk_sub (a := l) (b := k) (by omega)]
    refine RQ.call (v := none) (st' := []) rfl rfl rfl rfl rfl rfl (args_v [.int (nI (l - k)), .int (nI k), .int (nI b), .int (nI c)] [] rfl rfl (Nat.le_of_ble_eq_true rfl) rfl hm3 (Nat.le_of_ble_eq_true rfl)) (rc_mname (v := c) (dir := b) (i := k) (n := l - k) hm3 hT3 ((f3 196 (by omega)).trans h196) (by omega) (by omega) hl30) ?_
    have hm4 : (((H3.set 214 (kI 201 (fun j => nI (va_up pa c b j)))).set 215 (kI 201 (fun j => nI (va_up nl c (l - k) j)))).set 216 (kB 6030 (cpy tb k nm (30 * c) (l - k))))[195]? = _ := (set_far (by decide)).trans ((set_far (by decide)).trans ((set_far (by decide)).trans hm3))
    have f4 : ∀ a, ¬ (a = 195 ∨ (213 ≤ a ∧ a < 223)) → (((H3.set 214 (kI 201 (fun j => nI (va_up pa c b j)))).set 215 (kI 201 (fun j => nI (va_up nl c (l - k) j)))).set 216 (kB 6030 (cpy tb k nm (30 * c) (l - k))))[a]? = H[a]? := fun a ha => (set_far (by omega)).trans ((set_far (by omega)).trans ((set_far (by omega)).trans (f3 a (by omega))))
    have hT4 : MTreeAt (((H3.set 214 (kI 201 (fun j => nI (va_up pa c b j)))).set 215 (kI 201 (fun j => nI (va_up nl c (l - k) j)))).set 216 (kB 6030 (cpy tb k nm (30 * c) (l - k)))) kd (va_up pa c b) sz (va_up nl c (l - k)) (cpy tb k nm (30 * c) (l - k)) := ⟨(set_far (by decide)).trans ((set_far (by decide)).trans ((set_far (by decide)).trans hT3.1)), (set_far (by decide)).trans ((set_far (by decide)).trans (get_set hT3.2.1)), (set_far (by decide)).trans (get_set ((set_far (by decide)).trans hT3.2.2.1)), get_set ((set_far (by decide)).trans ((set_far (by decide)).trans hT3.2.2.2.1)), (set_far (by decide)).trans ((set_far (by decide)).trans ((set_far (by decide)).trans hT3.2.2.2.2))⟩
    have hP4 := hP3.far (H' := (((H3.set 214 (kI 201 (fun j => nI (va_up pa c b j)))).set 215 (kI 201 (fun j => nI (va_up nl c (l - k) j)))).set 216 (kB 6030 (cpy tb k nm (30 * c) (l - k))))) (fun a a1 a2 => (set_far (by omega)).trans ((set_far (by omega)).trans (set_far (by omega))))
    generalize (((H3.set 214 (kI 201 (fun j => nI (va_up pa c b j)))).set 215 (kI 201 (fun j => nI (va_up nl c (l - k) j)))).set 216 (kB 6030 (cpy tb k nm (30 * c) (l - k)))) = H4 at hm4 f4 hT4 hP4 ⊢
    refine RQ.blk 3 (pc' := 306) (lv' := [(7, .int (nI (l - k) - nI (nl c) - 0)), (6, .int (-1)), (5, .int (nI c)), (4, .int (nI l)), (0, .ref 196), (1, .int (nI a)), (2, .int (nI b)), (3, .int (nI k))]) (st' := [.int (nI c), .int 2, .ref 196]) (H' := _) (kc' := 0) (ks' := 0) rfl ?_
    refine RQ.callI (st' := []) rfl rfl rfl rfl rfl rfl (args_v [.int (nI c), .int 2] [] rfl rfl (Nat.le_of_ble_eq_true rfl) rfl hm4 (Nat.le_of_ble_eq_true rfl)) (ri_mchanged1 (x := 2) (y := nI c) hm4 (hV.far (fun a a1 a2 => f4 a (by omega)) (f4 223 (by omega))) k3 ((f4 205 (by omega)).trans h5) ((f4 206 (by omega)).trans h6) k4 k2) (fun z H5 hz => ?_)
    obtain ⟨ez, us', hm5, hV5, h55, f5⟩ := hz
    have g5 : ∀ a, ¬ (195 ≤ a ∧ a ≤ 205 ∧ a ≠ 196 ∧ a ≠ 197 ∨ a = 223) → H5[a]? = H4[a]? := fun a ha => f5 a (by omega) (by omega)
    exact RQ.done (c := 0) (s := 0) rfl rfl rfl rfl ⟨_, _, rfl, ez, ⟨us', bo, ba, hm5, hV5, h55, (g5 206 (by omega)).trans ((f4 206 (by omega)).trans h6), hR.far (fun a a1 => (g5 a (by omega)).trans (f4 a (by omega))), hT4.far (fun a a1 a2 => g5 a (by omega)), hP4.far (fun a a1 a2 => g5 a (by omega)), (g5 196 (by omega)).trans ((f4 196 (by omega)).trans h196), (g5 197 (by omega)).trans ((f4 197 (by omega)).trans h197)⟩, fun a ha => (g5 a (by omega)).trans (f4 a (by omega))⟩
  · refine RQ.call (v := some (.int 0)) (st' := []) rfl rfl rfl rfl rfl rfl (args_v [.int (nI c)] [] rfl rfl (Nat.le_of_ble_eq_true rfl) rfl hm1 (Nat.le_of_ble_eq_true rfl)) (rc_mdirF hm1 rfl hT1.1 (by omega) (nI_ne2 hkc.1 kc)) ?_
    refine RQ.brT rfl rfl rfl (by decide) ?_
    refine RQ.blk 1 (pc' := 179) (lv' := [(6, .int (-1)), (5, .int (nI c)), (4, .int (nI l)), (0, .ref 196), (1, .int (nI a)), (2, .int (nI b)), (3, .int (nI k))]) (st' := [.int (-1)]) (H' := _) (kc' := 0) (ks' := 0) rfl ?_
    refine RQ.brT rfl rfl rfl (by decide) ?_
    refine RQ.blk 3 (pc' := 210) (lv' := [(6, .int (-1)), (5, .int (nI c)), (4, .int (nI l)), (0, .ref 196), (1, .int (nI a)), (2, .int (nI b)), (3, .int (nI k))]) (st' := [.int (nI l - nI k)]) (H' := _) (kc' := 0) (ks' := 0) rfl ?_
    rw [show (nI l - nI k : Int32) = nI (l - k) from pk_sub (a := l) (b := k) (by omega)]
    refine RQ.blk 1 (pc' := 211) (lv' := [(6, .int (-1)), (5, .int (nI c)), (4, .int (nI l)), (0, .ref 196), (1, .int (nI a)), (2, .int (nI b)), (3, .int (nI k))]) (st' := [.ref 196, .int (nI (l - k))]) (H' := _) (kc' := 0) (ks' := 0) rfl ?_
    refine RQ.get (ci := 12) rfl hm1 rfl rfl ?_
    refine RQ.blk 1 (pc' := 216) (lv' := [(6, .int (-1)), (5, .int (nI c)), (4, .int (nI l)), (0, .ref 196), (1, .int (nI a)), (2, .int (nI b)), (3, .int (nI k))]) (st' := [.int (nI c), .ref 216, .int (nI (l - k))]) (H' := _) (kc' := 0) (ks' := 0) rfl ?_
    refine RQ.ialdN (j := c) rfl hT1.2.2.1 (by omega) (by decide) ?_
    refine RQ.blk 1 (pc' := 218) (lv' := [(6, .int (-1)), (5, .int (nI c)), (4, .int (nI l)), (0, .ref 196), (1, .int (nI a)), (2, .int (nI b)), (3, .int (nI k))]) (st' := [.int (nI (l - k) - nI (nl c))]) (H' := _) (kc' := 0) (ks' := 0) rfl ?_
    refine RQ.blk 1 (pc' := 220) (lv' := [(6, .int (-1)), (5, .int (nI c)), (4, .int (nI l)), (0, .ref 196), (1, .int (nI a)), (2, .int (nI b)), (3, .int (nI k))]) (st' := [.int (-1), .int (nI (l - k) - nI (nl c))]) (H' := _) (kc' := 0) (ks' := 0) rfl ?_
    refine RQ.brF rfl rfl rfl (by decide) ?_
    refine RQ.blk 2 (pc' := 241) (lv' := [(6, .int (-1)), (5, .int (nI c)), (4, .int (nI l)), (0, .ref 196), (1, .int (nI a)), (2, .int (nI b)), (3, .int (nI k))]) (st' := [.int 0, .int (nI (l - k) - nI (nl c))]) (H' := _) (kc' := 0) (ks' := 0) rfl ?_
    refine RQ.blk 1 (pc' := 242) (lv' := [(6, .int (-1)), (5, .int (nI c)), (4, .int (nI l)), (0, .ref 196), (1, .int (nI a)), (2, .int (nI b)), (3, .int (nI k))]) (st' := [.int ((nI (l - k) - nI (nl c)) - 0)]) (H' := _) (kc' := 0) (ks' := 0) rfl ?_
    refine RQ.blk 3 (pc' := 246) (lv' := [(7, .int (nI (l - k) - nI (nl c) - 0)), (6, .int (-1)), (5, .int (nI c)), (4, .int (nI l)), (0, .ref 196), (1, .int (nI a)), (2, .int (nI b)), (3, .int (nI k))]) (st' := [.int (-1), .ref 196]) (H' := _) (kc' := 0) (ks' := 0) rfl ?_
    refine RQ.call (v := some (.int (nI (ndR op se (-1) p ms kd nl ps)))) (st' := []) rfl rfl rfl rfl rfl rfl (args_v [.int (-1)] [] rfl rfl (Nat.le_of_ble_eq_true rfl) rfl hm1 (Nat.le_of_ble_eq_true rfl)) (rc_mneedR (x := -1) hm1 hV1 k3 h51 h61 k4 hT1 k5 hP1 k6 (by omega)) ?_
    refine RQ.blk 1 (pc' := 251) (lv' := [(7, .int (nI (l - k) - nI (nl c) - 0)), (6, .int (-1)), (5, .int (nI c)), (4, .int (nI l)), (0, .ref 196), (1, .int (nI a)), (2, .int (nI b)), (3, .int (nI k))]) (st' := [.int (nI (l - k) - nI (nl c) - 0), .int (nI (ndR op se (-1) p ms kd nl ps))]) (H' := _) (kc' := 0) (ks' := 0) rfl ?_
    refine RQ.blk 1 (pc' := 252) (lv' := [(7, .int (nI (l - k) - nI (nl c) - 0)), (6, .int (-1)), (5, .int (nI c)), (4, .int (nI l)), (0, .ref 196), (1, .int (nI a)), (2, .int (nI b)), (3, .int (nI k))]) (st' := [.int (nI (ndR op se (-1) p ms kd nl ps) + (nI (l - k) - nI (nl c) - 0))]) (H' := _) (kc' := 0) (ks' := 0) rfl ?_
    rw [nI_mix0 hge]
    refine RQ.blk 1 (pc' := 253) (lv' := [(7, .int (nI (l - k) - nI (nl c) - 0)), (6, .int (-1)), (5, .int (nI c)), (4, .int (nI l)), (0, .ref 196), (1, .int (nI a)), (2, .int (nI b)), (3, .int (nI k))]) (st' := [.ref 196, .int (nI ((ndR op se (-1) p ms kd nl ps) + (l - k) - nl c))]) (H' := _) (kc' := 0) (ks' := 0) rfl ?_
    refine RQ.get (ci := 12) rfl hm1 rfl rfl ?_
    refine RQ.brT rfl rfl rfl (cT_le ((ndR op se (-1) p ms kd nl ps) + (l - k) - nl c) li) ?_
    refine RQ.blk 2 (pc' := 267) (lv' := [(7, .int (nI (l - k) - nI (nl c) - 0)), (6, .int (-1)), (5, .int (nI c)), (4, .int (nI l)), (0, .ref 196), (1, .int (nI a)), (2, .int (nI b)), (3, .int (nI k))]) (st' := [.int 2, .ref 196]) (H' := _) (kc' := 0) (ks' := 0) rfl ?_
    refine RQ.call (v := some (.int 0)) (st' := []) rfl rfl rfl rfl rfl rfl (args_v [.int 2] [] rfl rfl (Nat.le_of_ble_eq_true rfl) rfl hm1 (Nat.le_of_ble_eq_true rfl)) (rc_mlostL hm1) ?_
    refine RQ.brT rfl rfl rfl (by decide) ?_
    refine RQ.blk 1 (pc' := 281) (lv' := [(7, .int (nI (l - k) - nI (nl c) - 0)), (6, .int (-1)), (5, .int (nI c)), (4, .int (nI l)), (0, .ref 196), (1, .int (nI a)), (2, .int (nI b)), (3, .int (nI k))]) (st' := [.int (-1)]) (H' := _) (kc' := 0) (ks' := 0) rfl ?_
    refine RQ.brT rfl rfl rfl (by decide) ?_
    obtain ⟨H3, eH⟩ : ∃ H3, H3 = H2 := ⟨_, rfl⟩
    rw [← eH]
    rw [← eH] at hm1 f1 hT1 hP1
    have hm3 := hm1
    have hP3 := hP1
    have hT3 := hT1
    have f3 : ∀ a, ¬ (a = 195 ∨ a = 213 ∨ (218 ≤ a ∧ a < 223)) → H3[a]? = H[a]? := fun a ha => f1 a (by omega)
    refine RQ.blk 7 (pc' := 299) (lv' := [(7, .int (nI (l - k) - nI (nl c) - 0)), (6, .int (-1)), (5, .int (nI c)), (4, .int (nI l)), (0, .ref 196), (1, .int (nI a)), (2, .int (nI b)), (3, .int (nI k))]) (st' := [.int (nI l - nI k), .int (nI k), .int (nI b), .int (nI c), .ref 196]) (H' := _) (kc' := 0) (ks' := 0) rfl ?_
    rw [show (nI l - nI k : Int32) = nI (l - k) from pk_sub (a := l) (b := k) (by omega)]
    refine RQ.call (v := none) (st' := []) rfl rfl rfl rfl rfl rfl (args_v [.int (nI (l - k)), .int (nI k), .int (nI b), .int (nI c)] [] rfl rfl (Nat.le_of_ble_eq_true rfl) rfl hm3 (Nat.le_of_ble_eq_true rfl)) (rc_mname (v := c) (dir := b) (i := k) (n := l - k) hm3 hT3 ((f3 196 (by omega)).trans h196) (by omega) (by omega) hl30) ?_
    have hm4 : (((H3.set 214 (kI 201 (fun j => nI (va_up pa c b j)))).set 215 (kI 201 (fun j => nI (va_up nl c (l - k) j)))).set 216 (kB 6030 (cpy tb k nm (30 * c) (l - k))))[195]? = _ := (set_far (by decide)).trans ((set_far (by decide)).trans ((set_far (by decide)).trans hm3))
    have f4 : ∀ a, ¬ (a = 195 ∨ (213 ≤ a ∧ a < 223)) → (((H3.set 214 (kI 201 (fun j => nI (va_up pa c b j)))).set 215 (kI 201 (fun j => nI (va_up nl c (l - k) j)))).set 216 (kB 6030 (cpy tb k nm (30 * c) (l - k))))[a]? = H[a]? := fun a ha => (set_far (by omega)).trans ((set_far (by omega)).trans ((set_far (by omega)).trans (f3 a (by omega))))
    have hT4 : MTreeAt (((H3.set 214 (kI 201 (fun j => nI (va_up pa c b j)))).set 215 (kI 201 (fun j => nI (va_up nl c (l - k) j)))).set 216 (kB 6030 (cpy tb k nm (30 * c) (l - k)))) kd (va_up pa c b) sz (va_up nl c (l - k)) (cpy tb k nm (30 * c) (l - k)) := ⟨(set_far (by decide)).trans ((set_far (by decide)).trans ((set_far (by decide)).trans hT3.1)), (set_far (by decide)).trans ((set_far (by decide)).trans (get_set hT3.2.1)), (set_far (by decide)).trans (get_set ((set_far (by decide)).trans hT3.2.2.1)), get_set ((set_far (by decide)).trans ((set_far (by decide)).trans hT3.2.2.2.1)), (set_far (by decide)).trans ((set_far (by decide)).trans ((set_far (by decide)).trans hT3.2.2.2.2))⟩
    have hP4 := hP3.far (H' := (((H3.set 214 (kI 201 (fun j => nI (va_up pa c b j)))).set 215 (kI 201 (fun j => nI (va_up nl c (l - k) j)))).set 216 (kB 6030 (cpy tb k nm (30 * c) (l - k))))) (fun a a1 a2 => (set_far (by omega)).trans ((set_far (by omega)).trans (set_far (by omega))))
    generalize (((H3.set 214 (kI 201 (fun j => nI (va_up pa c b j)))).set 215 (kI 201 (fun j => nI (va_up nl c (l - k) j)))).set 216 (kB 6030 (cpy tb k nm (30 * c) (l - k)))) = H4 at hm4 f4 hT4 hP4 ⊢
    refine RQ.blk 3 (pc' := 306) (lv' := [(7, .int (nI (l - k) - nI (nl c) - 0)), (6, .int (-1)), (5, .int (nI c)), (4, .int (nI l)), (0, .ref 196), (1, .int (nI a)), (2, .int (nI b)), (3, .int (nI k))]) (st' := [.int (nI c), .int 2, .ref 196]) (H' := _) (kc' := 0) (ks' := 0) rfl ?_
    refine RQ.callI (st' := []) rfl rfl rfl rfl rfl rfl (args_v [.int (nI c), .int 2] [] rfl rfl (Nat.le_of_ble_eq_true rfl) rfl hm4 (Nat.le_of_ble_eq_true rfl)) (ri_mchanged1 (x := 2) (y := nI c) hm4 (hV.far (fun a a1 a2 => f4 a (by omega)) (f4 223 (by omega))) k3 ((f4 205 (by omega)).trans h5) ((f4 206 (by omega)).trans h6) k4 k2) (fun z H5 hz => ?_)
    obtain ⟨ez, us', hm5, hV5, h55, f5⟩ := hz
    have g5 : ∀ a, ¬ (195 ≤ a ∧ a ≤ 205 ∧ a ≠ 196 ∧ a ≠ 197 ∨ a = 223) → H5[a]? = H4[a]? := fun a ha => f5 a (by omega) (by omega)
    exact RQ.done (c := 0) (s := 0) rfl rfl rfl rfl ⟨_, _, rfl, ez, ⟨us', bo, ba, hm5, hV5, h55, (g5 206 (by omega)).trans ((f4 206 (by omega)).trans h6), hR.far (fun a a1 => (g5 a (by omega)).trans (f4 a (by omega))), hT4.far (fun a a1 a2 => g5 a (by omega)), hP4.far (fun a a1 a2 => g5 a (by omega)), (g5 196 (by omega)).trans ((f4 196 (by omega)).trans h196), (g5 197 (by omega)).trans ((f4 197 (by omega)).trans h197)⟩, fun a ha => (g5 a (by omega)).trans (f4 a (by omega))⟩
set_option maxRecDepth 20000 in
theorem ri_mrename1_full {sc : Nat × (Nat → Int32)} {d l : Nat} {H : aH} {fa cw cl rs : Int32} {li : Nat} {tb : Nat → Int8} {g0 : Nat → Int8} {p : Nat} {ms : List aMV} {op : Nat → Bool} {se : Nat → Nat} {wss : Nat → List aE} {kd pa sz nl : Nat → Nat} {nm : Nat → Int8} {ps : List aPc} {a b k : Nat} {c t : Nat} (h : RefI H fa li 0 cw cl tb l rs g0 p ms op se wss kd pa sz nl nm ps) (hk : RefOk l p ms se kd pa sz nl ps) (ha : a ≤ 200) (hb : b ≤ 200) (hk1 : 1 ≤ k) (hk30 : k ≤ 30) (hkl : k < l) (hl30 : l - k ≤ 30) (hn1 : noSl tb 0 k) (hn2 : noSl tb k (l - k)) (hkd : kd a = 2) (hkd2 : kd b = 2) (hc : (fstF (inN kd pa nl nm a (sl tb 0 k)) 1 200) = some c) (ht : (fstF (inN kd pa nl nm b (sl tb k (l - k))) 1 200) = some t) (htc : ¬ t = c) (kc : ¬ kd c = 2) (kt : ¬ kd t = 2) (hli : li < 2 ^ 31) (hnd : (ndR op se (-1) p ms kd nl ps) + l < 2 ^ 31) (hge : (nl c + (wtL t ps + nl t)) ≤ (ndR op se (-1) p ms kd nl ps) + (l - k)) (hfull : li < ((ndR op se (-1) p ms kd nl ps) + (l - k) - (nl c + (wtL t ps + nl t)))) : RI sc (d + 5) mr_317 [.ref 196, .int (nI a), .int (nI b), .int (nI k)] H (fun x H' => x = 0 ∧ RefI H' 5 li 0 cw cl tb 0 rs g0 p ms op se wss kd pa sz nl nm ps ∧ ∀ a, ¬ (195 ≤ a ∧ a < 224) → H'[a]? = H[a]?) := by
  obtain ⟨us, ba, bo, hm, hV, h5, h6, hR, hT, hP, h196, h197⟩ := h
  obtain ⟨k1, k2, k3, k4, k5, k6, k7, k8⟩ := hk
  refine RI.of ?_
  refine RQ.blk 2 (pc' := 2) (lv' := [(0, .ref 196), (1, .int (nI a)), (2, .int (nI b)), (3, .int (nI k))]) (st' := [.int 0, .ref 196]) (H' := _) (kc' := 0) (ks' := 0) rfl ?_
  refine RQ.put (ci := 12) rfl hm rfl rfl (Nat.le_of_ble_eq_true rfl) ?_
  have hm1 : (H.set 195 (kO 12 (mfs 0 (nI li) 0 cw cl (nI l) rs (nI p) (nI ms.length) (nI us) (nI ps.length) (nI (plen ps)) ba bo)))[195]? = some (kO 12 (mfs 0 (nI li) 0 cw cl (nI l) rs (nI p) (nI ms.length) (nI us) (nI ps.length) (nI (plen ps)) ba bo)) := get_set hm
  have f1 : ∀ a, a ≠ 195 → (H.set 195 (kO 12 (mfs 0 (nI li) 0 cw cl (nI l) rs (nI p) (nI ms.length) (nI us) (nI ps.length) (nI (plen ps)) ba bo)))[a]? = H[a]? := fun a ha => set_far ha
  show RQ _ _ _ 5 [(0, .ref 196), (1, .int (nI a)), (2, .int (nI b)), (3, .int (nI k))] [] (H.set 195 (kO 12 (mfs 0 (nI li) 0 cw cl (nI l) rs (nI p) (nI ms.length) (nI us) (nI ps.length) (nI (plen ps)) ba bo))) 0 0 _
  generalize (H.set 195 (kO 12 (mfs 0 (nI li) 0 cw cl (nI l) rs (nI p) (nI ms.length) (nI us) (nI ps.length) (nI (plen ps)) ba bo))) = H1 at hm1 f1 ⊢
  have hV1 := hV.far (fun a a1 a2 => f1 a (by omega)) (f1 223 (by decide))
  have h51 := (f1 205 (by decide)).trans h5
  have h61 := (f1 206 (by decide)).trans h6
  have hR1 := hR.far (fun a a1 => f1 a (by omega))
  have hT1 := hT.far (fun a a1 a2 => f1 a (by omega))
  have hP1 := hP.far (fun a a1 a2 => f1 a (by omega))
  have h1961 := (f1 196 (by decide)).trans h196
  have h1971 := (f1 197 (by decide)).trans h197
  have hka := k5 a ha
  have hkb := k5 b hb
  refine RQ.blk 3 (pc' := 10) (lv' := [(0, .ref 196), (1, .int (nI a)), (2, .int (nI b)), (3, .int (nI k))]) (st' := [.int 201, .int (nI a), .ref 196]) (H' := _) (kc' := 0) (ks' := 0) rfl ?_
  refine RQ.call (v := some (.int 0)) (st' := []) rfl rfl rfl rfl rfl rfl (args_v [.int 201, .int (nI a)] [] rfl rfl (Nat.le_of_ble_eq_true rfl) rfl hm1 (Nat.le_of_ble_eq_true rfl)) (rc_out (v := a) (m := 201) (by omega) (by decide)) ?_
  refine RQ.brF rfl rfl rfl (by decide) ?_
  refine RQ.blk 3 (pc' := 21) (lv' := [(0, .ref 196), (1, .int (nI a)), (2, .int (nI b)), (3, .int (nI k))]) (st' := [.int 201, .int (nI b), .ref 196]) (H' := _) (kc' := 0) (ks' := 0) rfl ?_
  refine RQ.call (v := some (.int 0)) (st' := []) rfl rfl rfl rfl rfl rfl (args_v [.int 201, .int (nI b)] [] rfl rfl (Nat.le_of_ble_eq_true rfl) rfl hm1 (Nat.le_of_ble_eq_true rfl)) (rc_out (v := b) (m := 201) (by omega) (by decide)) ?_
  refine RQ.brF rfl rfl rfl (by decide) ?_
  refine RQ.blk 5 (pc' := 32) (lv' := [(0, .ref 196), (1, .int (nI a)), (2, .int (nI b)), (3, .int (nI k))]) (st' := [.ref 196, .int (nI k), .ref 196, .int 0, .ref 196]) (H' := _) (kc' := 0) (ks' := 0) rfl ?_
  refine RQ.get (ci := 12) rfl hm1 rfl rfl ?_
  refine RQ.call (v := some (.int (nI (min k l)))) (st' := [.int 0, .ref 196]) rfl rfl rfl rfl rfl rfl (args_v [.int (nI l), .int (nI k)] [.int 0, .ref 196] rfl rfl (Nat.le_of_ble_eq_true rfl) rfl hm1 (Nat.le_of_ble_eq_true rfl)) (rc_mleast (a := k) (b := l) (by omega) (by omega)) ?_
  rw [show min k l = k by omega]
  refine RQ.call (v := some (.int 1)) (st' := []) rfl rfl rfl rfl rfl rfl (args_v [.int (nI k), .int 0] [] rfl rfl (Nat.le_of_ble_eq_true rfl) rfl hm1 (Nat.le_of_ble_eq_true rfl)) (rc_named1 (i := 0) (n := k) hm1 h1961 (by decide) (by omega) hk1 hk30 hn1) ?_
  refine RQ.brF rfl rfl rfl (by decide) ?_
  refine RQ.blk 2 (pc' := 46) (lv' := [(0, .ref 196), (1, .int (nI a)), (2, .int (nI b)), (3, .int (nI k))]) (st' := [.ref 196, .int (nI k)]) (H' := _) (kc' := 0) (ks' := 0) rfl ?_
  refine RQ.get (ci := 12) rfl hm1 rfl rfl ?_
  refine RQ.brF rfl rfl rfl (cF_gt k l) ?_
  refine RQ.blk 3 (pc' := 55) (lv' := [(0, .ref 196), (1, .int (nI a)), (2, .int (nI b)), (3, .int (nI k))]) (st' := [.ref 196, .int (nI k), .ref 196]) (H' := _) (kc' := 0) (ks' := 0) rfl ?_
  refine RQ.get (ci := 12) rfl hm1 rfl rfl ?_
  refine RQ.blk 2 (pc' := 60) (lv' := [(0, .ref 196), (1, .int (nI a)), (2, .int (nI b)), (3, .int (nI k))]) (st' := [.int (nI l - nI k), .int (nI k), .ref 196]) (H' := _) (kc' := 0) (ks' := 0) rfl ?_
  rw [show (nI l - nI k : Int32) = nI (l - k) from pk_sub (a := l) (b := k) (by omega)]
  refine RQ.call (v := some (.int 1)) (st' := []) rfl rfl rfl rfl rfl rfl (args_v [.int (nI (l - k)), .int (nI k)] [] rfl rfl (Nat.le_of_ble_eq_true rfl) rfl hm1 (Nat.le_of_ble_eq_true rfl)) (rc_named1 (i := k) (n := l - k) hm1 h1961 (by decide) (by omega) (by omega) hl30 hn2) ?_
  refine RQ.brT rfl rfl rfl (by decide) ?_
  refine RQ.blk 1 (pc' := 73) (lv' := [(0, .ref 196), (1, .int (nI a)), (2, .int (nI b)), (3, .int (nI k))]) (st' := [.ref 196]) (H' := _) (kc' := 0) (ks' := 0) rfl ?_
  refine RQ.get (ci := 12) rfl hm1 rfl rfl ?_
  refine RQ.brT rfl rfl rfl (by decide) ?_
  refine RQ.blk 1 (pc' := 86) (lv' := [(0, .ref 196), (1, .int (nI a)), (2, .int (nI b)), (3, .int (nI k))]) (st' := [.ref 196]) (H' := _) (kc' := 0) (ks' := 0) rfl ?_
  refine RQ.get (ci := 12) rfl hm1 rfl rfl ?_
  refine RQ.blk 3 (pc' := 93) (lv' := [(4, .int (nI l)), (0, .ref 196), (1, .int (nI a)), (2, .int (nI b)), (3, .int (nI k))]) (st' := [.int 0, .ref 196]) (H' := _) (kc' := 0) (ks' := 0) rfl ?_
  refine RQ.put (ci := 12) rfl hm1 rfl rfl (Nat.le_of_ble_eq_true rfl) ?_
  have hm2 : (H1.set 195 (kO 12 (mfs 0 (nI li) 0 cw cl (nI 0) rs (nI p) (nI ms.length) (nI us) (nI ps.length) (nI (plen ps)) ba bo)))[195]? = some (kO 12 (mfs 0 (nI li) 0 cw cl (nI 0) rs (nI p) (nI ms.length) (nI us) (nI ps.length) (nI (plen ps)) ba bo)) := get_set hm1
  have f2 : ∀ a, a ≠ 195 → (H1.set 195 (kO 12 (mfs 0 (nI li) 0 cw cl (nI 0) rs (nI p) (nI ms.length) (nI us) (nI ps.length) (nI (plen ps)) ba bo)))[a]? = H[a]? := fun a ha => (set_far ha).trans (f1 a ha)
  show RQ _ _ _ 96 [(4, .int (nI l)), (0, .ref 196), (1, .int (nI a)), (2, .int (nI b)), (3, .int (nI k))] [] (H1.set 195 (kO 12 (mfs 0 (nI li) 0 cw cl (nI 0) rs (nI p) (nI ms.length) (nI us) (nI ps.length) (nI (plen ps)) ba bo))) 0 0 _
  generalize (H1.set 195 (kO 12 (mfs 0 (nI li) 0 cw cl (nI 0) rs (nI p) (nI ms.length) (nI us) (nI ps.length) (nI (plen ps)) ba bo))) = H2 at hm2 f2 ⊢
  clear hm1 f1 hV1 h51 h61 hR1 hT1 hP1 h1961 h1971
  have hm1 := hm2
  have f1 := f2
  clear hm2 f2
  have hV1 := hV.far (fun a a1 a2 => f1 a (by omega)) (f1 223 (by decide))
  have h51 := (f1 205 (by decide)).trans h5
  have h61 := (f1 206 (by decide)).trans h6
  have hR1 := hR.far (fun a a1 => f1 a (by omega))
  have hT1 := hT.far (fun a a1 a2 => f1 a (by omega))
  have hP1 := hP.far (fun a a1 a2 => f1 a (by omega))
  have h1961 := (f1 196 (by decide)).trans h196
  have h1971 := (f1 197 (by decide)).trans h197
  refine RQ.blk 2 (pc' := 98) (lv' := [(4, .int (nI l)), (0, .ref 196), (1, .int (nI a)), (2, .int (nI b)), (3, .int (nI k))]) (st' := [.int (nI a), .ref 196]) (H' := _) (kc' := 0) (ks' := 0) rfl ?_
  refine RQ.call (v := some (.int 1)) (st' := []) rfl rfl rfl rfl rfl rfl (args_v [.int (nI a)] [] rfl rfl (Nat.le_of_ble_eq_true rfl) rfl hm1 (Nat.le_of_ble_eq_true rfl)) (rc_mdirT hm1 rfl hT1.1 ha (nI_is2 hkd)) ?_
  refine RQ.brF rfl rfl rfl (by decide) ?_
  refine RQ.blk 2 (pc' := 106) (lv' := [(4, .int (nI l)), (0, .ref 196), (1, .int (nI a)), (2, .int (nI b)), (3, .int (nI k))]) (st' := [.int (nI b), .ref 196]) (H' := _) (kc' := 0) (ks' := 0) rfl ?_
  refine RQ.call (v := some (.int 1)) (st' := []) rfl rfl rfl rfl rfl rfl (args_v [.int (nI b)] [] rfl rfl (Nat.le_of_ble_eq_true rfl) rfl hm1 (Nat.le_of_ble_eq_true rfl)) (rc_mdirT hm1 rfl hT1.1 hb (nI_is2 hkd2)) ?_
  refine RQ.brF rfl rfl rfl (by decide) ?_
  refine RQ.blk 4 (pc' := 116) (lv' := [(4, .int (nI l)), (0, .ref 196), (1, .int (nI a)), (2, .int (nI b)), (3, .int (nI k))]) (st' := [.int (nI k), .int 0, .int (nI a), .ref 196]) (H' := _) (kc' := 0) (ks' := 0) rfl ?_
  have hch := rc_mchild (sc := sc) (d := d + 3) (j := 0) (m := k) hm1 hT1 k5 h1961 (by omega) ha
  rw [hc] at hch
  have hcl := fstF_lt hc
  have hkc := k5 c (by omega)
  refine RQ.call (v := some (.int (nI c))) (st' := []) rfl rfl rfl rfl rfl rfl (args_v [.int (nI k), .int 0, .int (nI a)] [] rfl rfl (Nat.le_of_ble_eq_true rfl) rfl hm1 (Nat.le_of_ble_eq_true rfl)) hch ?_
  refine RQ.blk 3 (pc' := 127) (lv' := [(5, .int (nI c)), (4, .int (nI l)), (0, .ref 196), (1, .int (nI a)), (2, .int (nI b)), (3, .int (nI k))]) (st' := [.int (nI c)]) (H' := _) (kc' := 0) (ks' := 0) rfl ?_
  refine RQ.brT rfl rfl rfl (cT_ge c 0) ?_
  refine RQ.blk 6 (pc' := 143) (lv' := [(5, .int (nI c)), (4, .int (nI l)), (0, .ref 196), (1, .int (nI a)), (2, .int (nI b)), (3, .int (nI k))]) (st' := [.int (nI l - nI k), .int (nI k), .int (nI b), .ref 196]) (H' := _) (kc' := 0) (ks' := 0) rfl ?_
  rw [show (nI l - nI k : Int32) = nI (l - k) from pk_sub (a := l) (b := k) (by omega)]
  have hch2 := rc_mchild (sc := sc) (d := d + 3) (j := k) (m := l - k) hm1 hT1 k5 h1961 (by omega) hb
  rw [ht] at hch2
  have htl := fstF_lt ht
  have hkt := k5 t (by omega)
  refine RQ.call (v := some (.int (nI t))) (st' := []) rfl rfl rfl rfl rfl rfl (args_v [.int (nI (l - k)), .int (nI k), .int (nI b)] [] rfl rfl (Nat.le_of_ble_eq_true rfl) rfl hm1 (Nat.le_of_ble_eq_true rfl)) hch2 ?_
  refine RQ.blk 3 (pc' := 152) (lv' := [(6, .int (nI t)), (5, .int (nI c)), (4, .int (nI l)), (0, .ref 196), (1, .int (nI a)), (2, .int (nI b)), (3, .int (nI k))]) (st' := [.int (nI c), .int (nI t)]) (H' := _) (kc' := 0) (ks' := 0) rfl ?_
  refine RQ.brT rfl rfl rfl (cT_ne t c) ?_
  refine RQ.blk 2 (pc' := 161) (lv' := [(6, .int (nI t)), (5, .int (nI c)), (4, .int (nI l)), (0, .ref 196), (1, .int (nI a)), (2, .int (nI b)), (3, .int (nI k))]) (st' := [.int (nI c), .ref 196]) (H' := _) (kc' := 0) (ks' := 0) rfl ?_
  refine RQ.call (v := some (.int 0)) (st' := []) rfl rfl rfl rfl rfl rfl (args_v [.int (nI c)] [] rfl rfl (Nat.le_of_ble_eq_true rfl) rfl hm1 (Nat.le_of_ble_eq_true rfl)) (rc_mdirF hm1 rfl hT1.1 (by omega) (nI_ne2 hkc.1 kc)) ?_
  refine RQ.brT rfl rfl rfl (by decide) ?_
  refine RQ.blk 1 (pc' := 179) (lv' := [(6, .int (nI t)), (5, .int (nI c)), (4, .int (nI l)), (0, .ref 196), (1, .int (nI a)), (2, .int (nI b)), (3, .int (nI k))]) (st' := [.int (nI t)]) (H' := _) (kc' := 0) (ks' := 0) rfl ?_
  refine RQ.brF rfl rfl rfl (cF_lt t 0) ?_
  refine RQ.blk 2 (pc' := 185) (lv' := [(6, .int (nI t)), (5, .int (nI c)), (4, .int (nI l)), (0, .ref 196), (1, .int (nI a)), (2, .int (nI b)), (3, .int (nI k))]) (st' := [.int (nI t), .ref 196]) (H' := _) (kc' := 0) (ks' := 0) rfl ?_
  refine RQ.call (v := some (.int 0)) (st' := []) rfl rfl rfl rfl rfl rfl (args_v [.int (nI t)] [] rfl rfl (Nat.le_of_ble_eq_true rfl) rfl hm1 (Nat.le_of_ble_eq_true rfl)) (rc_mdirF hm1 rfl hT1.1 (by omega) (nI_ne2 hkt.1 kt)) ?_
  refine RQ.brF rfl rfl rfl (by decide) ?_
  refine RQ.blk 2 (pc' := 194) (lv' := [(6, .int (nI t)), (5, .int (nI c)), (4, .int (nI l)), (0, .ref 196), (1, .int (nI a)), (2, .int (nI b)), (3, .int (nI k))]) (st' := [.int (nI c), .ref 196]) (H' := _) (kc' := 0) (ks' := 0) rfl ?_
  refine RQ.call (v := some (.int 0)) (st' := []) rfl rfl rfl rfl rfl rfl (args_v [.int (nI c)] [] rfl rfl (Nat.le_of_ble_eq_true rfl) rfl hm1 (Nat.le_of_ble_eq_true rfl)) (rc_mdirF hm1 rfl hT1.1 (by omega) (nI_ne2 hkc.1 kc)) ?_
  refine RQ.brT rfl rfl rfl (by decide) ?_
  refine RQ.blk 3 (pc' := 210) (lv' := [(6, .int (nI t)), (5, .int (nI c)), (4, .int (nI l)), (0, .ref 196), (1, .int (nI a)), (2, .int (nI b)), (3, .int (nI k))]) (st' := [.int (nI l - nI k)]) (H' := _) (kc' := 0) (ks' := 0) rfl ?_
  rw [show (nI l - nI k : Int32) = nI (l - k) from pk_sub (a := l) (b := k) (by omega)]
  refine RQ.blk 1 (pc' := 211) (lv' := [(6, .int (nI t)), (5, .int (nI c)), (4, .int (nI l)), (0, .ref 196), (1, .int (nI a)), (2, .int (nI b)), (3, .int (nI k))]) (st' := [.ref 196, .int (nI (l - k))]) (H' := _) (kc' := 0) (ks' := 0) rfl ?_
  refine RQ.get (ci := 12) rfl hm1 rfl rfl ?_
  refine RQ.blk 1 (pc' := 216) (lv' := [(6, .int (nI t)), (5, .int (nI c)), (4, .int (nI l)), (0, .ref 196), (1, .int (nI a)), (2, .int (nI b)), (3, .int (nI k))]) (st' := [.int (nI c), .ref 216, .int (nI (l - k))]) (H' := _) (kc' := 0) (ks' := 0) rfl ?_
  refine RQ.ialdN (j := c) rfl hT1.2.2.1 (by omega) (by decide) ?_
  refine RQ.blk 1 (pc' := 218) (lv' := [(6, .int (nI t)), (5, .int (nI c)), (4, .int (nI l)), (0, .ref 196), (1, .int (nI a)), (2, .int (nI b)), (3, .int (nI k))]) (st' := [.int (nI (l - k) - nI (nl c))]) (H' := _) (kc' := 0) (ks' := 0) rfl ?_
  refine RQ.blk 1 (pc' := 220) (lv' := [(6, .int (nI t)), (5, .int (nI c)), (4, .int (nI l)), (0, .ref 196), (1, .int (nI a)), (2, .int (nI b)), (3, .int (nI k))]) (st' := [.int (nI t), .int (nI (l - k) - nI (nl c))]) (H' := _) (kc' := 0) (ks' := 0) rfl ?_
  refine RQ.brT rfl rfl rfl (cT_ge t 0) ?_
  refine RQ.blk 2 (pc' := 230) (lv' := [(6, .int (nI t)), (5, .int (nI c)), (4, .int (nI l)), (0, .ref 196), (1, .int (nI a)), (2, .int (nI b)), (3, .int (nI k))]) (st' := [.int (nI t), .ref 196, .int (nI (l - k) - nI (nl c))]) (H' := _) (kc' := 0) (ks' := 0) rfl ?_
  refine RQ.call (v := some (.int (nI (wtL t ps)))) (st' := [.int (nI (l - k) - nI (nl c))]) rfl rfl rfl rfl rfl rfl (args_v [.int (nI t)] [.int (nI (l - k) - nI (nl c))] rfl rfl (Nat.le_of_ble_eq_true rfl) rfl hm1 (Nat.le_of_ble_eq_true rfl)) (rc_mweightL hm1 hP1 k6 k8 (show t ≤ 200 by omega)) ?_
  refine RQ.blk 1 (pc' := 234) (lv' := [(6, .int (nI t)), (5, .int (nI c)), (4, .int (nI l)), (0, .ref 196), (1, .int (nI a)), (2, .int (nI b)), (3, .int (nI k))]) (st' := [.ref 196, .int (nI (wtL t ps)), .int (nI (l - k) - nI (nl c))]) (H' := _) (kc' := 0) (ks' := 0) rfl ?_
  refine RQ.get (ci := 12) rfl hm1 rfl rfl ?_
  refine RQ.blk 1 (pc' := 239) (lv' := [(6, .int (nI t)), (5, .int (nI c)), (4, .int (nI l)), (0, .ref 196), (1, .int (nI a)), (2, .int (nI b)), (3, .int (nI k))]) (st' := [.int (nI t), .ref 216, .int (nI (wtL t ps)), .int (nI (l - k) - nI (nl c))]) (H' := _) (kc' := 0) (ks' := 0) rfl ?_
  refine RQ.ialdN (j := t) rfl hT1.2.2.1 (by omega) (by decide) ?_
  refine RQ.blk 1 (pc' := 241) (lv' := [(6, .int (nI t)), (5, .int (nI c)), (4, .int (nI l)), (0, .ref 196), (1, .int (nI a)), (2, .int (nI b)), (3, .int (nI k))]) (st' := [.int (nI (wtL t ps) + nI (nl t)), .int (nI (l - k) - nI (nl c))]) (H' := _) (kc' := 0) (ks' := 0) rfl ?_
  rw [show (nI (wtL t ps) + nI (nl t) : Int32) = nI (wtL t ps + (nl t)) from nI_add (wtL t ps) (nl t)]
  refine RQ.blk 1 (pc' := 242) (lv' := [(6, .int (nI t)), (5, .int (nI c)), (4, .int (nI l)), (0, .ref 196), (1, .int (nI a)), (2, .int (nI b)), (3, .int (nI k))]) (st' := [.int ((nI (l - k) - nI (nl c)) - nI (wtL t ps + (nl t)))]) (H' := _) (kc' := 0) (ks' := 0) rfl ?_
  refine RQ.blk 3 (pc' := 246) (lv' := [(7, .int (nI (l - k) - nI (nl c) - nI (wtL t ps + nl t))), (6, .int (nI t)), (5, .int (nI c)), (4, .int (nI l)), (0, .ref 196), (1, .int (nI a)), (2, .int (nI b)), (3, .int (nI k))]) (st' := [.int (-1), .ref 196]) (H' := _) (kc' := 0) (ks' := 0) rfl ?_
  refine RQ.call (v := some (.int (nI (ndR op se (-1) p ms kd nl ps)))) (st' := []) rfl rfl rfl rfl rfl rfl (args_v [.int (-1)] [] rfl rfl (Nat.le_of_ble_eq_true rfl) rfl hm1 (Nat.le_of_ble_eq_true rfl)) (rc_mneedR (x := -1) hm1 hV1 k3 h51 h61 k4 hT1 k5 hP1 k6 (by omega)) ?_
  refine RQ.blk 1 (pc' := 251) (lv' := [(7, .int (nI (l - k) - nI (nl c) - nI (wtL t ps + nl t))), (6, .int (nI t)), (5, .int (nI c)), (4, .int (nI l)), (0, .ref 196), (1, .int (nI a)), (2, .int (nI b)), (3, .int (nI k))]) (st' := [.int (nI (l - k) - nI (nl c) - nI (wtL t ps + nl t)), .int (nI (ndR op se (-1) p ms kd nl ps))]) (H' := _) (kc' := 0) (ks' := 0) rfl ?_
  refine RQ.blk 1 (pc' := 252) (lv' := [(7, .int (nI (l - k) - nI (nl c) - nI (wtL t ps + nl t))), (6, .int (nI t)), (5, .int (nI c)), (4, .int (nI l)), (0, .ref 196), (1, .int (nI a)), (2, .int (nI b)), (3, .int (nI k))]) (st' := [.int (nI (ndR op se (-1) p ms kd nl ps) + (nI (l - k) - nI (nl c) - nI (wtL t ps + nl t)))]) (H' := _) (kc' := 0) (ks' := 0) rfl ?_
  rw [nI_mix hge]
  refine RQ.blk 1 (pc' := 253) (lv' := [(7, .int (nI (l - k) - nI (nl c) - nI (wtL t ps + nl t))), (6, .int (nI t)), (5, .int (nI c)), (4, .int (nI l)), (0, .ref 196), (1, .int (nI a)), (2, .int (nI b)), (3, .int (nI k))]) (st' := [.ref 196, .int (nI ((ndR op se (-1) p ms kd nl ps) + (l - k) - (nl c + (wtL t ps + nl t))))]) (H' := _) (kc' := 0) (ks' := 0) rfl ?_
  refine RQ.get (ci := 12) rfl hm1 rfl rfl ?_
  refine RQ.brF rfl rfl rfl (cF_le ((ndR op se (-1) p ms kd nl ps) + (l - k) - (nl c + (wtL t ps + nl t))) li) ?_
  refine RQ.blk 2 (pc' := 261) (lv' := [(7, .int (nI (l - k) - nI (nl c) - nI (wtL t ps + nl t))), (6, .int (nI t)), (5, .int (nI c)), (4, .int (nI l)), (0, .ref 196), (1, .int (nI a)), (2, .int (nI b)), (3, .int (nI k))]) (st' := [.int 5, .ref 196]) (H' := _) (kc' := 0) (ks' := 0) rfl ?_
  refine RQ.call (v := some (.int 0)) (st' := []) rfl rfl rfl rfl rfl rfl (args_v [.int 5] [] rfl rfl (Nat.le_of_ble_eq_true rfl) rfl hm1 (Nat.le_of_ble_eq_true rfl)) (rc_mfail hm1 rfl) ?_
  exact RQ.done (c := 0) (s := 0) rfl rfl rfl rfl ⟨_, _, rfl, rfl, ⟨us, ba, bo, get_set hm1, hV1.far (fun a a1 a2 => set_far (by omega)) (set_far (by decide)), (set_far (by decide)).trans h51, (set_far (by decide)).trans h61, hR1.far (fun a a1 => set_far (by omega)), hT1.far (fun a a1 a2 => set_far (by omega)), hP1.far (fun a a1 a2 => set_far (by omega)), (set_far (by decide)).trans h1961, (set_far (by decide)).trans h1971⟩, fun a ha => (set_far (by omega)).trans (f1 a (by omega))⟩
set_option maxRecDepth 20000 in
theorem ri_mrename1_lost {sc : Nat × (Nat → Int32)} {d l : Nat} {H : aH} {fa rs : Int32} {li : Nat} {tb : Nat → Int8} {g0 : Nat → Int8} {p : Nat} {ms : List aMV} {op : Nat → Bool} {se : Nat → Nat} {wss : Nat → List aE} {kd pa sz nl : Nat → Nat} {nm : Nat → Int8} {ps : List aPc} {a b k : Nat} {c t : Nat} (h : RefI H fa li 0 1 0 tb l rs g0 p ms op se wss kd pa sz nl nm ps) (hk : RefOk l p ms se kd pa sz nl ps) (ha : a ≤ 200) (hb : b ≤ 200) (hk1 : 1 ≤ k) (hk30 : k ≤ 30) (hkl : k < l) (hl30 : l - k ≤ 30) (hn1 : noSl tb 0 k) (hn2 : noSl tb k (l - k)) (hkd : kd a = 2) (hkd2 : kd b = 2) (hc : (fstF (inN kd pa nl nm a (sl tb 0 k)) 1 200) = some c) (ht : (fstF (inN kd pa nl nm b (sl tb k (l - k))) 1 200) = some t) (htc : ¬ t = c) (kc : ¬ kd c = 2) (kt : ¬ kd t = 2) (hli : li < 2 ^ 31) (hnd : (ndR op se (-1) p ms kd nl ps) + l < 2 ^ 31) (hge : (nl c + (wtL t ps + nl t)) ≤ (ndR op se (-1) p ms kd nl ps) + (l - k)) (hfits : ((ndR op se (-1) p ms kd nl ps) + (l - k) - (nl c + (wtL t ps + nl t))) ≤ li) : RI sc (d + 5) mr_317 [.ref 196, .int (nI a), .int (nI b), .int (nI k)] H (fun x H' => x = 0 ∧ RefI H' 2 li 1 0 0 tb 0 0 g0 p (ms.filter (keepM (fun j => if j < 8 then false else op j) se p (kmM ms))) (fun j => if j < 8 then false else op j) se wss kd pa sz nl nm ps ∧ ∀ a, ¬ (195 ≤ a ∧ a < 224) → H'[a]? = H[a]?) := by
  obtain ⟨us, ba, bo, hm, hV, h5, h6, hR, hT, hP, h196, h197⟩ := h
  obtain ⟨k1, k2, k3, k4, k5, k6, k7, k8⟩ := hk
  refine RI.of ?_
  refine RQ.blk 2 (pc' := 2) (lv' := [(0, .ref 196), (1, .int (nI a)), (2, .int (nI b)), (3, .int (nI k))]) (st' := [.int 0, .ref 196]) (H' := _) (kc' := 0) (ks' := 0) rfl ?_
  refine RQ.put (ci := 12) rfl hm rfl rfl (Nat.le_of_ble_eq_true rfl) ?_
  have hm1 : (H.set 195 (kO 12 (mfs 0 (nI li) 0 1 0 (nI l) rs (nI p) (nI ms.length) (nI us) (nI ps.length) (nI (plen ps)) ba bo)))[195]? = some (kO 12 (mfs 0 (nI li) 0 1 0 (nI l) rs (nI p) (nI ms.length) (nI us) (nI ps.length) (nI (plen ps)) ba bo)) := get_set hm
  have f1 : ∀ a, a ≠ 195 → (H.set 195 (kO 12 (mfs 0 (nI li) 0 1 0 (nI l) rs (nI p) (nI ms.length) (nI us) (nI ps.length) (nI (plen ps)) ba bo)))[a]? = H[a]? := fun a ha => set_far ha
  show RQ _ _ _ 5 [(0, .ref 196), (1, .int (nI a)), (2, .int (nI b)), (3, .int (nI k))] [] (H.set 195 (kO 12 (mfs 0 (nI li) 0 1 0 (nI l) rs (nI p) (nI ms.length) (nI us) (nI ps.length) (nI (plen ps)) ba bo))) 0 0 _
  generalize (H.set 195 (kO 12 (mfs 0 (nI li) 0 1 0 (nI l) rs (nI p) (nI ms.length) (nI us) (nI ps.length) (nI (plen ps)) ba bo))) = H1 at hm1 f1 ⊢
  have hV1 := hV.far (fun a a1 a2 => f1 a (by omega)) (f1 223 (by decide))
  have h51 := (f1 205 (by decide)).trans h5
  have h61 := (f1 206 (by decide)).trans h6
  have hR1 := hR.far (fun a a1 => f1 a (by omega))
  have hT1 := hT.far (fun a a1 a2 => f1 a (by omega))
  have hP1 := hP.far (fun a a1 a2 => f1 a (by omega))
  have h1961 := (f1 196 (by decide)).trans h196
  have h1971 := (f1 197 (by decide)).trans h197
  have hka := k5 a ha
  have hkb := k5 b hb
  refine RQ.blk 3 (pc' := 10) (lv' := [(0, .ref 196), (1, .int (nI a)), (2, .int (nI b)), (3, .int (nI k))]) (st' := [.int 201, .int (nI a), .ref 196]) (H' := _) (kc' := 0) (ks' := 0) rfl ?_
  refine RQ.call (v := some (.int 0)) (st' := []) rfl rfl rfl rfl rfl rfl (args_v [.int 201, .int (nI a)] [] rfl rfl (Nat.le_of_ble_eq_true rfl) rfl hm1 (Nat.le_of_ble_eq_true rfl)) (rc_out (v := a) (m := 201) (by omega) (by decide)) ?_
  refine RQ.brF rfl rfl rfl (by decide) ?_
  refine RQ.blk 3 (pc' := 21) (lv' := [(0, .ref 196), (1, .int (nI a)), (2, .int (nI b)), (3, .int (nI k))]) (st' := [.int 201, .int (nI b), .ref 196]) (H' := _) (kc' := 0) (ks' := 0) rfl ?_
  refine RQ.call (v := some (.int 0)) (st' := []) rfl rfl rfl rfl rfl rfl (args_v [.int 201, .int (nI b)] [] rfl rfl (Nat.le_of_ble_eq_true rfl) rfl hm1 (Nat.le_of_ble_eq_true rfl)) (rc_out (v := b) (m := 201) (by omega) (by decide)) ?_
  refine RQ.brF rfl rfl rfl (by decide) ?_
  refine RQ.blk 5 (pc' := 32) (lv' := [(0, .ref 196), (1, .int (nI a)), (2, .int (nI b)), (3, .int (nI k))]) (st' := [.ref 196, .int (nI k), .ref 196, .int 0, .ref 196]) (H' := _) (kc' := 0) (ks' := 0) rfl ?_
  refine RQ.get (ci := 12) rfl hm1 rfl rfl ?_
  refine RQ.call (v := some (.int (nI (min k l)))) (st' := [.int 0, .ref 196]) rfl rfl rfl rfl rfl rfl (args_v [.int (nI l), .int (nI k)] [.int 0, .ref 196] rfl rfl (Nat.le_of_ble_eq_true rfl) rfl hm1 (Nat.le_of_ble_eq_true rfl)) (rc_mleast (a := k) (b := l) (by omega) (by omega)) ?_
  rw [show min k l = k by omega]
  refine RQ.call (v := some (.int 1)) (st' := []) rfl rfl rfl rfl rfl rfl (args_v [.int (nI k), .int 0] [] rfl rfl (Nat.le_of_ble_eq_true rfl) rfl hm1 (Nat.le_of_ble_eq_true rfl)) (rc_named1 (i := 0) (n := k) hm1 h1961 (by decide) (by omega) hk1 hk30 hn1) ?_
  refine RQ.brF rfl rfl rfl (by decide) ?_
  refine RQ.blk 2 (pc' := 46) (lv' := [(0, .ref 196), (1, .int (nI a)), (2, .int (nI b)), (3, .int (nI k))]) (st' := [.ref 196, .int (nI k)]) (H' := _) (kc' := 0) (ks' := 0) rfl ?_
  refine RQ.get (ci := 12) rfl hm1 rfl rfl ?_
  refine RQ.brF rfl rfl rfl (cF_gt k l) ?_
  refine RQ.blk 3 (pc' := 55) (lv' := [(0, .ref 196), (1, .int (nI a)), (2, .int (nI b)), (3, .int (nI k))]) (st' := [.ref 196, .int (nI k), .ref 196]) (H' := _) (kc' := 0) (ks' := 0) rfl ?_
  refine RQ.get (ci := 12) rfl hm1 rfl rfl ?_
  refine RQ.blk 2 (pc' := 60) (lv' := [(0, .ref 196), (1, .int (nI a)), (2, .int (nI b)), (3, .int (nI k))]) (st' := [.int (nI l - nI k), .int (nI k), .ref 196]) (H' := _) (kc' := 0) (ks' := 0) rfl ?_
  rw [show (nI l - nI k : Int32) = nI (l - k) from pk_sub (a := l) (b := k) (by omega)]
  refine RQ.call (v := some (.int 1)) (st' := []) rfl rfl rfl rfl rfl rfl (args_v [.int (nI (l - k)), .int (nI k)] [] rfl rfl (Nat.le_of_ble_eq_true rfl) rfl hm1 (Nat.le_of_ble_eq_true rfl)) (rc_named1 (i := k) (n := l - k) hm1 h1961 (by decide) (by omega) (by omega) hl30 hn2) ?_
  refine RQ.brT rfl rfl rfl (by decide) ?_
  refine RQ.blk 1 (pc' := 73) (lv' := [(0, .ref 196), (1, .int (nI a)), (2, .int (nI b)), (3, .int (nI k))]) (st' := [.ref 196]) (H' := _) (kc' := 0) (ks' := 0) rfl ?_
  refine RQ.get (ci := 12) rfl hm1 rfl rfl ?_
  refine RQ.brT rfl rfl rfl (by decide) ?_
  refine RQ.blk 1 (pc' := 86) (lv' := [(0, .ref 196), (1, .int (nI a)), (2, .int (nI b)), (3, .int (nI k))]) (st' := [.ref 196]) (H' := _) (kc' := 0) (ks' := 0) rfl ?_
  refine RQ.get (ci := 12) rfl hm1 rfl rfl ?_
  refine RQ.blk 3 (pc' := 93) (lv' := [(4, .int (nI l)), (0, .ref 196), (1, .int (nI a)), (2, .int (nI b)), (3, .int (nI k))]) (st' := [.int 0, .ref 196]) (H' := _) (kc' := 0) (ks' := 0) rfl ?_
  refine RQ.put (ci := 12) rfl hm1 rfl rfl (Nat.le_of_ble_eq_true rfl) ?_
  have hm2 : (H1.set 195 (kO 12 (mfs 0 (nI li) 0 1 0 (nI 0) rs (nI p) (nI ms.length) (nI us) (nI ps.length) (nI (plen ps)) ba bo)))[195]? = some (kO 12 (mfs 0 (nI li) 0 1 0 (nI 0) rs (nI p) (nI ms.length) (nI us) (nI ps.length) (nI (plen ps)) ba bo)) := get_set hm1
  have f2 : ∀ a, a ≠ 195 → (H1.set 195 (kO 12 (mfs 0 (nI li) 0 1 0 (nI 0) rs (nI p) (nI ms.length) (nI us) (nI ps.length) (nI (plen ps)) ba bo)))[a]? = H[a]? := fun a ha => (set_far ha).trans (f1 a ha)
  show RQ _ _ _ 96 [(4, .int (nI l)), (0, .ref 196), (1, .int (nI a)), (2, .int (nI b)), (3, .int (nI k))] [] (H1.set 195 (kO 12 (mfs 0 (nI li) 0 1 0 (nI 0) rs (nI p) (nI ms.length) (nI us) (nI ps.length) (nI (plen ps)) ba bo))) 0 0 _
  generalize (H1.set 195 (kO 12 (mfs 0 (nI li) 0 1 0 (nI 0) rs (nI p) (nI ms.length) (nI us) (nI ps.length) (nI (plen ps)) ba bo))) = H2 at hm2 f2 ⊢
  clear hm1 f1 hV1 h51 h61 hR1 hT1 hP1 h1961 h1971
  have hm1 := hm2
  have f1 := f2
  clear hm2 f2
  have hV1 := hV.far (fun a a1 a2 => f1 a (by omega)) (f1 223 (by decide))
  have h51 := (f1 205 (by decide)).trans h5
  have h61 := (f1 206 (by decide)).trans h6
  have hR1 := hR.far (fun a a1 => f1 a (by omega))
  have hT1 := hT.far (fun a a1 a2 => f1 a (by omega))
  have hP1 := hP.far (fun a a1 a2 => f1 a (by omega))
  have h1961 := (f1 196 (by decide)).trans h196
  have h1971 := (f1 197 (by decide)).trans h197
  refine RQ.blk 2 (pc' := 98) (lv' := [(4, .int (nI l)), (0, .ref 196), (1, .int (nI a)), (2, .int (nI b)), (3, .int (nI k))]) (st' := [.int (nI a), .ref 196]) (H' := _) (kc' := 0) (ks' := 0) rfl ?_
  refine RQ.call (v := some (.int 1)) (st' := []) rfl rfl rfl rfl rfl rfl (args_v [.int (nI a)] [] rfl rfl (Nat.le_of_ble_eq_true rfl) rfl hm1 (Nat.le_of_ble_eq_true rfl)) (rc_mdirT hm1 rfl hT1.1 ha (nI_is2 hkd)) ?_
  refine RQ.brF rfl rfl rfl (by decide) ?_
  refine RQ.blk 2 (pc' := 106) (lv' := [(4, .int (nI l)), (0, .ref 196), (1, .int (nI a)), (2, .int (nI b)), (3, .int (nI k))]) (st' := [.int (nI b), .ref 196]) (H' := _) (kc' := 0) (ks' := 0) rfl ?_
  refine RQ.call (v := some (.int 1)) (st' := []) rfl rfl rfl rfl rfl rfl (args_v [.int (nI b)] [] rfl rfl (Nat.le_of_ble_eq_true rfl) rfl hm1 (Nat.le_of_ble_eq_true rfl)) (rc_mdirT hm1 rfl hT1.1 hb (nI_is2 hkd2)) ?_
  refine RQ.brF rfl rfl rfl (by decide) ?_
  refine RQ.blk 4 (pc' := 116) (lv' := [(4, .int (nI l)), (0, .ref 196), (1, .int (nI a)), (2, .int (nI b)), (3, .int (nI k))]) (st' := [.int (nI k), .int 0, .int (nI a), .ref 196]) (H' := _) (kc' := 0) (ks' := 0) rfl ?_
  have hch := rc_mchild (sc := sc) (d := d + 3) (j := 0) (m := k) hm1 hT1 k5 h1961 (by omega) ha
  rw [hc] at hch
  have hcl := fstF_lt hc
  have hkc := k5 c (by omega)
  refine RQ.call (v := some (.int (nI c))) (st' := []) rfl rfl rfl rfl rfl rfl (args_v [.int (nI k), .int 0, .int (nI a)] [] rfl rfl (Nat.le_of_ble_eq_true rfl) rfl hm1 (Nat.le_of_ble_eq_true rfl)) hch ?_
  refine RQ.blk 3 (pc' := 127) (lv' := [(5, .int (nI c)), (4, .int (nI l)), (0, .ref 196), (1, .int (nI a)), (2, .int (nI b)), (3, .int (nI k))]) (st' := [.int (nI c)]) (H' := _) (kc' := 0) (ks' := 0) rfl ?_
  refine RQ.brT rfl rfl rfl (cT_ge c 0) ?_
  refine RQ.blk 6 (pc' := 143) (lv' := [(5, .int (nI c)), (4, .int (nI l)), (0, .ref 196), (1, .int (nI a)), (2, .int (nI b)), (3, .int (nI k))]) (st' := [.int (nI l - nI k), .int (nI k), .int (nI b), .ref 196]) (H' := _) (kc' := 0) (ks' := 0) rfl ?_
  rw [show (nI l - nI k : Int32) = nI (l - k) from pk_sub (a := l) (b := k) (by omega)]
  have hch2 := rc_mchild (sc := sc) (d := d + 3) (j := k) (m := l - k) hm1 hT1 k5 h1961 (by omega) hb
  rw [ht] at hch2
  have htl := fstF_lt ht
  have hkt := k5 t (by omega)
  refine RQ.call (v := some (.int (nI t))) (st' := []) rfl rfl rfl rfl rfl rfl (args_v [.int (nI (l - k)), .int (nI k), .int (nI b)] [] rfl rfl (Nat.le_of_ble_eq_true rfl) rfl hm1 (Nat.le_of_ble_eq_true rfl)) hch2 ?_
  refine RQ.blk 3 (pc' := 152) (lv' := [(6, .int (nI t)), (5, .int (nI c)), (4, .int (nI l)), (0, .ref 196), (1, .int (nI a)), (2, .int (nI b)), (3, .int (nI k))]) (st' := [.int (nI c), .int (nI t)]) (H' := _) (kc' := 0) (ks' := 0) rfl ?_
  refine RQ.brT rfl rfl rfl (cT_ne t c) ?_
  refine RQ.blk 2 (pc' := 161) (lv' := [(6, .int (nI t)), (5, .int (nI c)), (4, .int (nI l)), (0, .ref 196), (1, .int (nI a)), (2, .int (nI b)), (3, .int (nI k))]) (st' := [.int (nI c), .ref 196]) (H' := _) (kc' := 0) (ks' := 0) rfl ?_
  refine RQ.call (v := some (.int 0)) (st' := []) rfl rfl rfl rfl rfl rfl (args_v [.int (nI c)] [] rfl rfl (Nat.le_of_ble_eq_true rfl) rfl hm1 (Nat.le_of_ble_eq_true rfl)) (rc_mdirF hm1 rfl hT1.1 (by omega) (nI_ne2 hkc.1 kc)) ?_
  refine RQ.brT rfl rfl rfl (by decide) ?_
  refine RQ.blk 1 (pc' := 179) (lv' := [(6, .int (nI t)), (5, .int (nI c)), (4, .int (nI l)), (0, .ref 196), (1, .int (nI a)), (2, .int (nI b)), (3, .int (nI k))]) (st' := [.int (nI t)]) (H' := _) (kc' := 0) (ks' := 0) rfl ?_
  refine RQ.brF rfl rfl rfl (cF_lt t 0) ?_
  refine RQ.blk 2 (pc' := 185) (lv' := [(6, .int (nI t)), (5, .int (nI c)), (4, .int (nI l)), (0, .ref 196), (1, .int (nI a)), (2, .int (nI b)), (3, .int (nI k))]) (st' := [.int (nI t), .ref 196]) (H' := _) (kc' := 0) (ks' := 0) rfl ?_
  refine RQ.call (v := some (.int 0)) (st' := []) rfl rfl rfl rfl rfl rfl (args_v [.int (nI t)] [] rfl rfl (Nat.le_of_ble_eq_true rfl) rfl hm1 (Nat.le_of_ble_eq_true rfl)) (rc_mdirF hm1 rfl hT1.1 (by omega) (nI_ne2 hkt.1 kt)) ?_
  refine RQ.brF rfl rfl rfl (by decide) ?_
  refine RQ.blk 2 (pc' := 194) (lv' := [(6, .int (nI t)), (5, .int (nI c)), (4, .int (nI l)), (0, .ref 196), (1, .int (nI a)), (2, .int (nI b)), (3, .int (nI k))]) (st' := [.int (nI c), .ref 196]) (H' := _) (kc' := 0) (ks' := 0) rfl ?_
  refine RQ.call (v := some (.int 0)) (st' := []) rfl rfl rfl rfl rfl rfl (args_v [.int (nI c)] [] rfl rfl (Nat.le_of_ble_eq_true rfl) rfl hm1 (Nat.le_of_ble_eq_true rfl)) (rc_mdirF hm1 rfl hT1.1 (by omega) (nI_ne2 hkc.1 kc)) ?_
  refine RQ.brT rfl rfl rfl (by decide) ?_
  refine RQ.blk 3 (pc' := 210) (lv' := [(6, .int (nI t)), (5, .int (nI c)), (4, .int (nI l)), (0, .ref 196), (1, .int (nI a)), (2, .int (nI b)), (3, .int (nI k))]) (st' := [.int (nI l - nI k)]) (H' := _) (kc' := 0) (ks' := 0) rfl ?_
  rw [show (nI l - nI k : Int32) = nI (l - k) from pk_sub (a := l) (b := k) (by omega)]
  refine RQ.blk 1 (pc' := 211) (lv' := [(6, .int (nI t)), (5, .int (nI c)), (4, .int (nI l)), (0, .ref 196), (1, .int (nI a)), (2, .int (nI b)), (3, .int (nI k))]) (st' := [.ref 196, .int (nI (l - k))]) (H' := _) (kc' := 0) (ks' := 0) rfl ?_
  refine RQ.get (ci := 12) rfl hm1 rfl rfl ?_
  refine RQ.blk 1 (pc' := 216) (lv' := [(6, .int (nI t)), (5, .int (nI c)), (4, .int (nI l)), (0, .ref 196), (1, .int (nI a)), (2, .int (nI b)), (3, .int (nI k))]) (st' := [.int (nI c), .ref 216, .int (nI (l - k))]) (H' := _) (kc' := 0) (ks' := 0) rfl ?_
  refine RQ.ialdN (j := c) rfl hT1.2.2.1 (by omega) (by decide) ?_
  refine RQ.blk 1 (pc' := 218) (lv' := [(6, .int (nI t)), (5, .int (nI c)), (4, .int (nI l)), (0, .ref 196), (1, .int (nI a)), (2, .int (nI b)), (3, .int (nI k))]) (st' := [.int (nI (l - k) - nI (nl c))]) (H' := _) (kc' := 0) (ks' := 0) rfl ?_
  refine RQ.blk 1 (pc' := 220) (lv' := [(6, .int (nI t)), (5, .int (nI c)), (4, .int (nI l)), (0, .ref 196), (1, .int (nI a)), (2, .int (nI b)), (3, .int (nI k))]) (st' := [.int (nI t), .int (nI (l - k) - nI (nl c))]) (H' := _) (kc' := 0) (ks' := 0) rfl ?_
  refine RQ.brT rfl rfl rfl (cT_ge t 0) ?_
  refine RQ.blk 2 (pc' := 230) (lv' := [(6, .int (nI t)), (5, .int (nI c)), (4, .int (nI l)), (0, .ref 196), (1, .int (nI a)), (2, .int (nI b)), (3, .int (nI k))]) (st' := [.int (nI t), .ref 196, .int (nI (l - k) - nI (nl c))]) (H' := _) (kc' := 0) (ks' := 0) rfl ?_
  refine RQ.call (v := some (.int (nI (wtL t ps)))) (st' := [.int (nI (l - k) - nI (nl c))]) rfl rfl rfl rfl rfl rfl (args_v [.int (nI t)] [.int (nI (l - k) - nI (nl c))] rfl rfl (Nat.le_of_ble_eq_true rfl) rfl hm1 (Nat.le_of_ble_eq_true rfl)) (rc_mweightL hm1 hP1 k6 k8 (show t ≤ 200 by omega)) ?_
  refine RQ.blk 1 (pc' := 234) (lv' := [(6, .int (nI t)), (5, .int (nI c)), (4, .int (nI l)), (0, .ref 196), (1, .int (nI a)), (2, .int (nI b)), (3, .int (nI k))]) (st' := [.ref 196, .int (nI (wtL t ps)), .int (nI (l - k) - nI (nl c))]) (H' := _) (kc' := 0) (ks' := 0) rfl ?_
  refine RQ.get (ci := 12) rfl hm1 rfl rfl ?_
  refine RQ.blk 1 (pc' := 239) (lv' := [(6, .int (nI t)), (5, .int (nI c)), (4, .int (nI l)), (0, .ref 196), (1, .int (nI a)), (2, .int (nI b)), (3, .int (nI k))]) (st' := [.int (nI t), .ref 216, .int (nI (wtL t ps)), .int (nI (l - k) - nI (nl c))]) (H' := _) (kc' := 0) (ks' := 0) rfl ?_
  refine RQ.ialdN (j := t) rfl hT1.2.2.1 (by omega) (by decide) ?_
  refine RQ.blk 1 (pc' := 241) (lv' := [(6, .int (nI t)), (5, .int (nI c)), (4, .int (nI l)), (0, .ref 196), (1, .int (nI a)), (2, .int (nI b)), (3, .int (nI k))]) (st' := [.int (nI (wtL t ps) + nI (nl t)), .int (nI (l - k) - nI (nl c))]) (H' := _) (kc' := 0) (ks' := 0) rfl ?_
  rw [show (nI (wtL t ps) + nI (nl t) : Int32) = nI (wtL t ps + (nl t)) from nI_add (wtL t ps) (nl t)]
  refine RQ.blk 1 (pc' := 242) (lv' := [(6, .int (nI t)), (5, .int (nI c)), (4, .int (nI l)), (0, .ref 196), (1, .int (nI a)), (2, .int (nI b)), (3, .int (nI k))]) (st' := [.int ((nI (l - k) - nI (nl c)) - nI (wtL t ps + (nl t)))]) (H' := _) (kc' := 0) (ks' := 0) rfl ?_
  refine RQ.blk 3 (pc' := 246) (lv' := [(7, .int (nI (l - k) - nI (nl c) - nI (wtL t ps + nl t))), (6, .int (nI t)), (5, .int (nI c)), (4, .int (nI l)), (0, .ref 196), (1, .int (nI a)), (2, .int (nI b)), (3, .int (nI k))]) (st' := [.int (-1), .ref 196]) (H' := _) (kc' := 0) (ks' := 0) rfl ?_
  refine RQ.call (v := some (.int (nI (ndR op se (-1) p ms kd nl ps)))) (st' := []) rfl rfl rfl rfl rfl rfl (args_v [.int (-1)] [] rfl rfl (Nat.le_of_ble_eq_true rfl) rfl hm1 (Nat.le_of_ble_eq_true rfl)) (rc_mneedR (x := -1) hm1 hV1 k3 h51 h61 k4 hT1 k5 hP1 k6 (by omega)) ?_
  refine RQ.blk 1 (pc' := 251) (lv' := [(7, .int (nI (l - k) - nI (nl c) - nI (wtL t ps + nl t))), (6, .int (nI t)), (5, .int (nI c)), (4, .int (nI l)), (0, .ref 196), (1, .int (nI a)), (2, .int (nI b)), (3, .int (nI k))]) (st' := [.int (nI (l - k) - nI (nl c) - nI (wtL t ps + nl t)), .int (nI (ndR op se (-1) p ms kd nl ps))]) (H' := _) (kc' := 0) (ks' := 0) rfl ?_
  refine RQ.blk 1 (pc' := 252) (lv' := [(7, .int (nI (l - k) - nI (nl c) - nI (wtL t ps + nl t))), (6, .int (nI t)), (5, .int (nI c)), (4, .int (nI l)), (0, .ref 196), (1, .int (nI a)), (2, .int (nI b)), (3, .int (nI k))]) (st' := [.int (nI (ndR op se (-1) p ms kd nl ps) + (nI (l - k) - nI (nl c) - nI (wtL t ps + nl t)))]) (H' := _) (kc' := 0) (ks' := 0) rfl ?_
  rw [nI_mix hge]
  refine RQ.blk 1 (pc' := 253) (lv' := [(7, .int (nI (l - k) - nI (nl c) - nI (wtL t ps + nl t))), (6, .int (nI t)), (5, .int (nI c)), (4, .int (nI l)), (0, .ref 196), (1, .int (nI a)), (2, .int (nI b)), (3, .int (nI k))]) (st' := [.ref 196, .int (nI ((ndR op se (-1) p ms kd nl ps) + (l - k) - (nl c + (wtL t ps + nl t))))]) (H' := _) (kc' := 0) (ks' := 0) rfl ?_
  refine RQ.get (ci := 12) rfl hm1 rfl rfl ?_
  refine RQ.brT rfl rfl rfl (cT_le ((ndR op se (-1) p ms kd nl ps) + (l - k) - (nl c + (wtL t ps + nl t))) li) ?_
  refine RQ.blk 2 (pc' := 267) (lv' := [(7, .int (nI (l - k) - nI (nl c) - nI (wtL t ps + nl t))), (6, .int (nI t)), (5, .int (nI c)), (4, .int (nI l)), (0, .ref 196), (1, .int (nI a)), (2, .int (nI b)), (3, .int (nI k))]) (st' := [.int 2, .ref 196]) (H' := _) (kc' := 0) (ks' := 0) rfl ?_
  refine RQ.callI (st' := []) rfl rfl rfl rfl rfl rfl (args_v [.int 2] [] rfl rfl (Nat.le_of_ble_eq_true rfl) rfl hm1 (Nat.le_of_ble_eq_true rfl)) (ri_mlost1 (x := 2) hm1 h51) (fun y H2 hy => ?_)
  obtain ⟨ey, hm2, h52, f2⟩ := hy
  rw [ey]
  refine RQ.brF rfl rfl rfl (by decide) ?_
  refine RQ.blk 1 (pc' := 274) (lv' := [(7, .int (nI (l - k) - nI (nl c) - nI (wtL t ps + nl t))), (6, .int (nI t)), (5, .int (nI c)), (4, .int (nI l)), (0, .ref 196), (1, .int (nI a)), (2, .int (nI b)), (3, .int (nI k))]) (st' := [.ref 196]) (H' := _) (kc' := 0) (ks' := 0) rfl ?_
  have g2 : ∀ a, a ≠ 195 → a ≠ 205 → H2[a]? = H[a]? := fun a a1 a2 => (f2 a a1 a2).trans (f1 a a1)
  refine RQ.callN (st' := []) rfl rfl rfl rfl rfl rfl (args_v [] [] rfl rfl (Nat.le_of_ble_eq_true rfl) rfl hm2 (Nat.le_of_ble_eq_true rfl)) (rn_pruneL (op := (fun j => if j < 8 then false else op j)) hm2 (hV.far (fun a a1 a2 => g2 a (by omega) (by omega)) (g2 223 (by decide) (by decide))) k3 h52 ((g2 206 (by decide) (by decide)).trans h6) k4 (by omega)) (fun H3 hz => ?_)
  obtain ⟨us', hm3, hV3, f3⟩ := hz
  refine RQ.blk 1 (pc' := 278) (lv' := [(7, .int (nI (l - k) - nI (nl c) - nI (wtL t ps + nl t))), (6, .int (nI t)), (5, .int (nI c)), (4, .int (nI l)), (0, .ref 196), (1, .int (nI a)), (2, .int (nI b)), (3, .int (nI k))]) (st' := [.int 0]) (H' := _) (kc' := 0) (ks' := 0) rfl ?_
  have g3 : ∀ a, ¬ (195 ≤ a ∧ a ≤ 205 ∧ a ≠ 196 ∧ a ≠ 197 ∨ a = 223) → H3[a]? = H[a]? := fun a ha => (f3 a (by omega)).trans (g2 a (by omega) (by omega))
  exact RQ.done (c := 0) (s := 0) rfl rfl rfl rfl ⟨_, _, rfl, rfl, ⟨us', bo, ba, hm3, hV3, (f3 205 (by omega)).trans h52, (g3 206 (by omega)).trans h6, hR.far (fun a a1 => g3 a (by omega)), hT.far (fun a a1 a2 => g3 a (by omega)), hP.far (fun a a1 a2 => g3 a (by omega)), (g3 196 (by omega)).trans h196, (g3 197 (by omega)).trans h197⟩, fun a ha => g3 a (by omega)⟩
set_option maxRecDepth 20000 in
theorem ri_mrename1_ok {sc : Nat × (Nat → Int32)} {d l : Nat} {H : aH} {fa cl rs : Int32} {li : Nat} {tb : Nat → Int8} {g0 : Nat → Int8} {p : Nat} {ms : List aMV} {op : Nat → Bool} {se : Nat → Nat} {wss : Nat → List aE} {kd pa sz nl : Nat → Nat} {nm : Nat → Int8} {ps : List aPc} {a b k : Nat} {c t : Nat} (h : RefI H fa li 0 0 cl tb l rs g0 p ms op se wss kd pa sz nl nm ps) (hk : RefOk l p ms se kd pa sz nl ps) (ha : a ≤ 200) (hb : b ≤ 200) (hk1 : 1 ≤ k) (hk30 : k ≤ 30) (hkl : k < l) (hl30 : l - k ≤ 30) (hn1 : noSl tb 0 k) (hn2 : noSl tb k (l - k)) (hkd : kd a = 2) (hkd2 : kd b = 2) (hc : (fstF (inN kd pa nl nm a (sl tb 0 k)) 1 200) = some c) (ht : (fstF (inN kd pa nl nm b (sl tb k (l - k))) 1 200) = some t) (htc : ¬ t = c) (kc : ¬ kd c = 2) (kt : ¬ kd t = 2) (hli : li < 2 ^ 31) (hnd : (ndR op se (-1) p ms kd nl ps) + l < 2 ^ 31) (hge : (nl c + (wtL t ps + nl t)) ≤ (ndR op se (-1) p ms kd nl ps) + (l - k)) (hfits : ((ndR op se (-1) p ms kd nl ps) + (l - k) - (nl c + (wtL t ps + nl t))) ≤ li) : RI sc (d + 5) mr_317 [.ref 196, .int (nI a), .int (nI b), .int (nI k)] H (fun x H' => x = nI c ∧ ∃ cur : List aPc, cur.Perm (ps.filterMap (cutE t 0)) ∧ RefI H' 0 li 0 0 cl tb 0 rs g0 (p + 1) ms op se wss (va_up kd t 0) (va_up pa c b) sz (va_up nl c (l - k)) (cpy tb k nm (30 * c) (l - k)) cur ∧ ∀ a, ¬ (195 ≤ a ∧ a < 224) → H'[a]? = H[a]?) := by
  obtain ⟨us, ba, bo, hm, hV, h5, h6, hR, hT, hP, h196, h197⟩ := h
  obtain ⟨k1, k2, k3, k4, k5, k6, k7, k8⟩ := hk
  refine RI.of ?_
  refine RQ.blk 2 (pc' := 2) (lv' := [(0, .ref 196), (1, .int (nI a)), (2, .int (nI b)), (3, .int (nI k))]) (st' := [.int 0, .ref 196]) (H' := _) (kc' := 0) (ks' := 0) rfl ?_
  refine RQ.put (ci := 12) rfl hm rfl rfl (Nat.le_of_ble_eq_true rfl) ?_
  have hm1 : (H.set 195 (kO 12 (mfs 0 (nI li) 0 0 cl (nI l) rs (nI p) (nI ms.length) (nI us) (nI ps.length) (nI (plen ps)) ba bo)))[195]? = some (kO 12 (mfs 0 (nI li) 0 0 cl (nI l) rs (nI p) (nI ms.length) (nI us) (nI ps.length) (nI (plen ps)) ba bo)) := get_set hm
  have f1 : ∀ a, a ≠ 195 → (H.set 195 (kO 12 (mfs 0 (nI li) 0 0 cl (nI l) rs (nI p) (nI ms.length) (nI us) (nI ps.length) (nI (plen ps)) ba bo)))[a]? = H[a]? := fun a ha => set_far ha
  show RQ _ _ _ 5 [(0, .ref 196), (1, .int (nI a)), (2, .int (nI b)), (3, .int (nI k))] [] (H.set 195 (kO 12 (mfs 0 (nI li) 0 0 cl (nI l) rs (nI p) (nI ms.length) (nI us) (nI ps.length) (nI (plen ps)) ba bo))) 0 0 _
  generalize (H.set 195 (kO 12 (mfs 0 (nI li) 0 0 cl (nI l) rs (nI p) (nI ms.length) (nI us) (nI ps.length) (nI (plen ps)) ba bo))) = H1 at hm1 f1 ⊢
  have hV1 := hV.far (fun a a1 a2 => f1 a (by omega)) (f1 223 (by decide))
  have h51 := (f1 205 (by decide)).trans h5
  have h61 := (f1 206 (by decide)).trans h6
  have hR1 := hR.far (fun a a1 => f1 a (by omega))
  have hT1 := hT.far (fun a a1 a2 => f1 a (by omega))
  have hP1 := hP.far (fun a a1 a2 => f1 a (by omega))
  have h1961 := (f1 196 (by decide)).trans h196
  have h1971 := (f1 197 (by decide)).trans h197
  have hka := k5 a ha
  have hkb := k5 b hb
  refine RQ.blk 3 (pc' := 10) (lv' := [(0, .ref 196), (1, .int (nI a)), (2, .int (nI b)), (3, .int (nI k))]) (st' := [.int 201, .int (nI a), .ref 196]) (H' := _) (kc' := 0) (ks' := 0) rfl ?_
  refine RQ.call (v := some (.int 0)) (st' := []) rfl rfl rfl rfl rfl rfl (args_v [.int 201, .int (nI a)] [] rfl rfl (Nat.le_of_ble_eq_true rfl) rfl hm1 (Nat.le_of_ble_eq_true rfl)) (rc_out (v := a) (m := 201) (by omega) (by decide)) ?_
  refine RQ.brF rfl rfl rfl (by decide) ?_
  refine RQ.blk 3 (pc' := 21) (lv' := [(0, .ref 196), (1, .int (nI a)), (2, .int (nI b)), (3, .int (nI k))]) (st' := [.int 201, .int (nI b), .ref 196]) (H' := _) (kc' := 0) (ks' := 0) rfl ?_
  refine RQ.call (v := some (.int 0)) (st' := []) rfl rfl rfl rfl rfl rfl (args_v [.int 201, .int (nI b)] [] rfl rfl (Nat.le_of_ble_eq_true rfl) rfl hm1 (Nat.le_of_ble_eq_true rfl)) (rc_out (v := b) (m := 201) (by omega) (by decide)) ?_
  refine RQ.brF rfl rfl rfl (by decide) ?_
  refine RQ.blk 5 (pc' := 32) (lv' := [(0, .ref 196), (1, .int (nI a)), (2, .int (nI b)), (3, .int (nI k))]) (st' := [.ref 196, .int (nI k), .ref 196, .int 0, .ref 196]) (H' := _) (kc' := 0) (ks' := 0) rfl ?_
  refine RQ.get (ci := 12) rfl hm1 rfl rfl ?_
  refine RQ.call (v := some (.int (nI (min k l)))) (st' := [.int 0, .ref 196]) rfl rfl rfl rfl rfl rfl (args_v [.int (nI l), .int (nI k)] [.int 0, .ref 196] rfl rfl (Nat.le_of_ble_eq_true rfl) rfl hm1 (Nat.le_of_ble_eq_true rfl)) (rc_mleast (a := k) (b := l) (by omega) (by omega)) ?_
  rw [show min k l = k by omega]
  refine RQ.call (v := some (.int 1)) (st' := []) rfl rfl rfl rfl rfl rfl (args_v [.int (nI k), .int 0] [] rfl rfl (Nat.le_of_ble_eq_true rfl) rfl hm1 (Nat.le_of_ble_eq_true rfl)) (rc_named1 (i := 0) (n := k) hm1 h1961 (by decide) (by omega) hk1 hk30 hn1) ?_
  refine RQ.brF rfl rfl rfl (by decide) ?_
  refine RQ.blk 2 (pc' := 46) (lv' := [(0, .ref 196), (1, .int (nI a)), (2, .int (nI b)), (3, .int (nI k))]) (st' := [.ref 196, .int (nI k)]) (H' := _) (kc' := 0) (ks' := 0) rfl ?_
  refine RQ.get (ci := 12) rfl hm1 rfl rfl ?_
  refine RQ.brF rfl rfl rfl (cF_gt k l) ?_
  refine RQ.blk 3 (pc' := 55) (lv' := [(0, .ref 196), (1, .int (nI a)), (2, .int (nI b)), (3, .int (nI k))]) (st' := [.ref 196, .int (nI k), .ref 196]) (H' := _) (kc' := 0) (ks' := 0) rfl ?_
  refine RQ.get (ci := 12) rfl hm1 rfl rfl ?_
  refine RQ.blk 2 (pc' := 60) (lv' := [(0, .ref 196), (1, .int (nI a)), (2, .int (nI b)), (3, .int (nI k))]) (st' := [.int (nI l - nI k), .int (nI k), .ref 196]) (H' := _) (kc' := 0) (ks' := 0) rfl ?_
  rw [show (nI l - nI k : Int32) = nI (l - k) from pk_sub (a := l) (b := k) (by omega)]
  refine RQ.call (v := some (.int 1)) (st' := []) rfl rfl rfl rfl rfl rfl (args_v [.int (nI (l - k)), .int (nI k)] [] rfl rfl (Nat.le_of_ble_eq_true rfl) rfl hm1 (Nat.le_of_ble_eq_true rfl)) (rc_named1 (i := k) (n := l - k) hm1 h1961 (by decide) (by omega) (by omega) hl30 hn2) ?_
  refine RQ.brT rfl rfl rfl (by decide) ?_
  refine RQ.blk 1 (pc' := 73) (lv' := [(0, .ref 196), (1, .int (nI a)), (2, .int (nI b)), (3, .int (nI k))]) (st' := [.ref 196]) (H' := _) (kc' := 0) (ks' := 0) rfl ?_
  refine RQ.get (ci := 12) rfl hm1 rfl rfl ?_
  refine RQ.brT rfl rfl rfl (by decide) ?_
  refine RQ.blk 1 (pc' := 86) (lv' := [(0, .ref 196), (1, .int (nI a)), (2, .int (nI b)), (3, .int (nI k))]) (st' := [.ref 196]) (H' := _) (kc' := 0) (ks' := 0) rfl ?_
  refine RQ.get (ci := 12) rfl hm1 rfl rfl ?_
  refine RQ.blk 3 (pc' := 93) (lv' := [(4, .int (nI l)), (0, .ref 196), (1, .int (nI a)), (2, .int (nI b)), (3, .int (nI k))]) (st' := [.int 0, .ref 196]) (H' := _) (kc' := 0) (ks' := 0) rfl ?_
  refine RQ.put (ci := 12) rfl hm1 rfl rfl (Nat.le_of_ble_eq_true rfl) ?_
  have hm2 : (H1.set 195 (kO 12 (mfs 0 (nI li) 0 0 cl (nI 0) rs (nI p) (nI ms.length) (nI us) (nI ps.length) (nI (plen ps)) ba bo)))[195]? = some (kO 12 (mfs 0 (nI li) 0 0 cl (nI 0) rs (nI p) (nI ms.length) (nI us) (nI ps.length) (nI (plen ps)) ba bo)) := get_set hm1
  have f2 : ∀ a, a ≠ 195 → (H1.set 195 (kO 12 (mfs 0 (nI li) 0 0 cl (nI 0) rs (nI p) (nI ms.length) (nI us) (nI ps.length) (nI (plen ps)) ba bo)))[a]? = H[a]? := fun a ha => (set_far ha).trans (f1 a ha)
  show RQ _ _ _ 96 [(4, .int (nI l)), (0, .ref 196), (1, .int (nI a)), (2, .int (nI b)), (3, .int (nI k))] [] (H1.set 195 (kO 12 (mfs 0 (nI li) 0 0 cl (nI 0) rs (nI p) (nI ms.length) (nI us) (nI ps.length) (nI (plen ps)) ba bo))) 0 0 _
  generalize (H1.set 195 (kO 12 (mfs 0 (nI li) 0 0 cl (nI 0) rs (nI p) (nI ms.length) (nI us) (nI ps.length) (nI (plen ps)) ba bo))) = H2 at hm2 f2 ⊢
  clear hm1 f1 hV1 h51 h61 hR1 hT1 hP1 h1961 h1971
  have hm1 := hm2
  have f1 := f2
  clear hm2 f2
  have hV1 := hV.far (fun a a1 a2 => f1 a (by omega)) (f1 223 (by decide))
  have h51 := (f1 205 (by decide)).trans h5
  have h61 := (f1 206 (by decide)).trans h6
  have hR1 := hR.far (fun a a1 => f1 a (by omega))
  have hT1 := hT.far (fun a a1 a2 => f1 a (by omega))
  have hP1 := hP.far (fun a a1 a2 => f1 a (by omega))
  have h1961 := (f1 196 (by decide)).trans h196
  have h1971 := (f1 197 (by decide)).trans h197
  refine RQ.blk 2 (pc' := 98) (lv' := [(4, .int (nI l)), (0, .ref 196), (1, .int (nI a)), (2, .int (nI b)), (3, .int (nI k))]) (st' := [.int (nI a), .ref 196]) (H' := _) (kc' := 0) (ks' := 0) rfl ?_
  refine RQ.call (v := some (.int 1)) (st' := []) rfl rfl rfl rfl rfl rfl (args_v [.int (nI a)] [] rfl rfl (Nat.le_of_ble_eq_true rfl) rfl hm1 (Nat.le_of_ble_eq_true rfl)) (rc_mdirT hm1 rfl hT1.1 ha (nI_is2 hkd)) ?_
  refine RQ.brF rfl rfl rfl (by decide) ?_
  refine RQ.blk 2 (pc' := 106) (lv' := [(4, .int (nI l)), (0, .ref 196), (1, .int (nI a)), (2, .int (nI b)), (3, .int (nI k))]) (st' := [.int (nI b), .ref 196]) (H' := _) (kc' := 0) (ks' := 0) rfl ?_
  refine RQ.call (v := some (.int 1)) (st' := []) rfl rfl rfl rfl rfl rfl (args_v [.int (nI b)] [] rfl rfl (Nat.le_of_ble_eq_true rfl) rfl hm1 (Nat.le_of_ble_eq_true rfl)) (rc_mdirT hm1 rfl hT1.1 hb (nI_is2 hkd2)) ?_
  refine RQ.brF rfl rfl rfl (by decide) ?_
  refine RQ.blk 4 (pc' := 116) (lv' := [(4, .int (nI l)), (0, .ref 196), (1, .int (nI a)), (2, .int (nI b)), (3, .int (nI k))]) (st' := [.int (nI k), .int 0, .int (nI a), .ref 196]) (H' := _) (kc' := 0) (ks' := 0) rfl ?_
  have hch := rc_mchild (sc := sc) (d := d + 3) (j := 0) (m := k) hm1 hT1 k5 h1961 (by omega) ha
  rw [hc] at hch
  have hcl := fstF_lt hc
  have hkc := k5 c (by omega)
  refine RQ.call (v := some (.int (nI c))) (st' := []) rfl rfl rfl rfl rfl rfl (args_v [.int (nI k), .int 0, .int (nI a)] [] rfl rfl (Nat.le_of_ble_eq_true rfl) rfl hm1 (Nat.le_of_ble_eq_true rfl)) hch ?_
  refine RQ.blk 3 (pc' := 127) (lv' := [(5, .int (nI c)), (4, .int (nI l)), (0, .ref 196), (1, .int (nI a)), (2, .int (nI b)), (3, .int (nI k))]) (st' := [.int (nI c)]) (H' := _) (kc' := 0) (ks' := 0) rfl ?_
  refine RQ.brT rfl rfl rfl (cT_ge c 0) ?_
  refine RQ.blk 6 (pc' := 143) (lv' := [(5, .int (nI c)), (4, .int (nI l)), (0, .ref 196), (1, .int (nI a)), (2, .int (nI b)), (3, .int (nI k))]) (st' := [.int (nI l - nI k), .int (nI k), .int (nI b), .ref 196]) (H' := _) (kc' := 0) (ks' := 0) rfl ?_
  rw [show (nI l - nI k : Int32) = nI (l - k) from pk_sub (a := l) (b := k) (by omega)]
  have hch2 := rc_mchild (sc := sc) (d := d + 3) (j := k) (m := l - k) hm1 hT1 k5 h1961 (by omega) hb
  rw [ht] at hch2
  have htl := fstF_lt ht
  have hkt := k5 t (by omega)
  refine RQ.call (v := some (.int (nI t))) (st' := []) rfl rfl rfl rfl rfl rfl (args_v [.int (nI (l - k)), .int (nI k), .int (nI b)] [] rfl rfl (Nat.le_of_ble_eq_true rfl) rfl hm1 (Nat.le_of_ble_eq_true rfl)) hch2 ?_
  refine RQ.blk 3 (pc' := 152) (lv' := [(6, .int (nI t)), (5, .int (nI c)), (4, .int (nI l)), (0, .ref 196), (1, .int (nI a)), (2, .int (nI b)), (3, .int (nI k))]) (st' := [.int (nI c), .int (nI t)]) (H' := _) (kc' := 0) (ks' := 0) rfl ?_
  refine RQ.brT rfl rfl rfl (cT_ne t c) ?_
  refine RQ.blk 2 (pc' := 161) (lv' := [(6, .int (nI t)), (5, .int (nI c)), (4, .int (nI l)), (0, .ref 196), (1, .int (nI a)), (2, .int (nI b)), (3, .int (nI k))]) (st' := [.int (nI c), .ref 196]) (H' := _) (kc' := 0) (ks' := 0) rfl ?_
  refine RQ.call (v := some (.int 0)) (st' := []) rfl rfl rfl rfl rfl rfl (args_v [.int (nI c)] [] rfl rfl (Nat.le_of_ble_eq_true rfl) rfl hm1 (Nat.le_of_ble_eq_true rfl)) (rc_mdirF hm1 rfl hT1.1 (by omega) (nI_ne2 hkc.1 kc)) ?_
  refine RQ.brT rfl rfl rfl (by decide) ?_
  refine RQ.blk 1 (pc' := 179) (lv' := [(6, .int (nI t)), (5, .int (nI c)), (4, .int (nI l)), (0, .ref 196), (1, .int (nI a)), (2, .int (nI b)), (3, .int (nI k))]) (st' := [.int (nI t)]) (H' := _) (kc' := 0) (ks' := 0) rfl ?_
  refine RQ.brF rfl rfl rfl (cF_lt t 0) ?_
  refine RQ.blk 2 (pc' := 185) (lv' := [(6, .int (nI t)), (5, .int (nI c)), (4, .int (nI l)), (0, .ref 196), (1, .int (nI a)), (2, .int (nI b)), (3, .int (nI k))]) (st' := [.int (nI t), .ref 196]) (H' := _) (kc' := 0) (ks' := 0) rfl ?_
  refine RQ.call (v := some (.int 0)) (st' := []) rfl rfl rfl rfl rfl rfl (args_v [.int (nI t)] [] rfl rfl (Nat.le_of_ble_eq_true rfl) rfl hm1 (Nat.le_of_ble_eq_true rfl)) (rc_mdirF hm1 rfl hT1.1 (by omega) (nI_ne2 hkt.1 kt)) ?_
  refine RQ.brF rfl rfl rfl (by decide) ?_
  refine RQ.blk 2 (pc' := 194) (lv' := [(6, .int (nI t)), (5, .int (nI c)), (4, .int (nI l)), (0, .ref 196), (1, .int (nI a)), (2, .int (nI b)), (3, .int (nI k))]) (st' := [.int (nI c), .ref 196]) (H' := _) (kc' := 0) (ks' := 0) rfl ?_
  refine RQ.call (v := some (.int 0)) (st' := []) rfl rfl rfl rfl rfl rfl (args_v [.int (nI c)] [] rfl rfl (Nat.le_of_ble_eq_true rfl) rfl hm1 (Nat.le_of_ble_eq_true rfl)) (rc_mdirF hm1 rfl hT1.1 (by omega) (nI_ne2 hkc.1 kc)) ?_
  refine RQ.brT rfl rfl rfl (by decide) ?_
  refine RQ.blk 3 (pc' := 210) (lv' := [(6, .int (nI t)), (5, .int (nI c)), (4, .int (nI l)), (0, .ref 196), (1, .int (nI a)), (2, .int (nI b)), (3, .int (nI k))]) (st' := [.int (nI l - nI k)]) (H' := _) (kc' := 0) (ks' := 0) rfl ?_
  rw [show (nI l - nI k : Int32) = nI (l - k) from pk_sub (a := l) (b := k) (by omega)]
  refine RQ.blk 1 (pc' := 211) (lv' := [(6, .int (nI t)), (5, .int (nI c)), (4, .int (nI l)), (0, .ref 196), (1, .int (nI a)), (2, .int (nI b)), (3, .int (nI k))]) (st' := [.ref 196, .int (nI (l - k))]) (H' := _) (kc' := 0) (ks' := 0) rfl ?_
  refine RQ.get (ci := 12) rfl hm1 rfl rfl ?_
  refine RQ.blk 1 (pc' := 216) (lv' := [(6, .int (nI t)), (5, .int (nI c)), (4, .int (nI l)), (0, .ref 196), (1, .int (nI a)), (2, .int (nI b)), (3, .int (nI k))]) (st' := [.int (nI c), .ref 216, .int (nI (l - k))]) (H' := _) (kc' := 0) (ks' := 0) rfl ?_
  refine RQ.ialdN (j := c) rfl hT1.2.2.1 (by omega) (by decide) ?_
  refine RQ.blk 1 (pc' := 218) (lv' := [(6, .int (nI t)), (5, .int (nI c)), (4, .int (nI l)), (0, .ref 196), (1, .int (nI a)), (2, .int (nI b)), (3, .int (nI k))]) (st' := [.int (nI (l - k) - nI (nl c))]) (H' := _) (kc' := 0) (ks' := 0) rfl ?_
  refine RQ.blk 1 (pc' := 220) (lv' := [(6, .int (nI t)), (5, .int (nI c)), (4, .int (nI l)), (0, .ref 196), (1, .int (nI a)), (2, .int (nI b)), (3, .int (nI k))]) (st' := [.int (nI t), .int (nI (l - k) - nI (nl c))]) (H' := _) (kc' := 0) (ks' := 0) rfl ?_
  refine RQ.brT rfl rfl rfl (cT_ge t 0) ?_
  refine RQ.blk 2 (pc' := 230) (lv' := [(6, .int (nI t)), (5, .int (nI c)), (4, .int (nI l)), (0, .ref 196), (1, .int (nI a)), (2, .int (nI b)), (3, .int (nI k))]) (st' := [.int (nI t), .ref 196, .int (nI (l - k) - nI (nl c))]) (H' := _) (kc' := 0) (ks' := 0) rfl ?_
  refine RQ.call (v := some (.int (nI (wtL t ps)))) (st' := [.int (nI (l - k) - nI (nl c))]) rfl rfl rfl rfl rfl rfl (args_v [.int (nI t)] [.int (nI (l - k) - nI (nl c))] rfl rfl (Nat.le_of_ble_eq_true rfl) rfl hm1 (Nat.le_of_ble_eq_true rfl)) (rc_mweightL hm1 hP1 k6 k8 (show t ≤ 200 by omega)) ?_
  refine RQ.blk 1 (pc' := 234) (lv' := [(6, .int (nI t)), (5, .int (nI c)), (4, .int (nI l)), (0, .ref 196), (1, .int (nI a)), (2, .int (nI b)), (3, .int (nI k))]) (st' := [.ref 196, .int (nI (wtL t ps)), .int (nI (l - k) - nI (nl c))]) (H' := _) (kc' := 0) (ks' := 0) rfl ?_
  refine RQ.get (ci := 12) rfl hm1 rfl rfl ?_
  refine RQ.blk 1 (pc' := 239) (lv' := [(6, .int (nI t)), (5, .int (nI c)), (4, .int (nI l)), (0, .ref 196), (1, .int (nI a)), (2, .int (nI b)), (3, .int (nI k))]) (st' := [.int (nI t), .ref 216, .int (nI (wtL t ps)), .int (nI (l - k) - nI (nl c))]) (H' := _) (kc' := 0) (ks' := 0) rfl ?_
  refine RQ.ialdN (j := t) rfl hT1.2.2.1 (by omega) (by decide) ?_
  refine RQ.blk 1 (pc' := 241) (lv' := [(6, .int (nI t)), (5, .int (nI c)), (4, .int (nI l)), (0, .ref 196), (1, .int (nI a)), (2, .int (nI b)), (3, .int (nI k))]) (st' := [.int (nI (wtL t ps) + nI (nl t)), .int (nI (l - k) - nI (nl c))]) (H' := _) (kc' := 0) (ks' := 0) rfl ?_
  rw [show (nI (wtL t ps) + nI (nl t) : Int32) = nI (wtL t ps + (nl t)) from nI_add (wtL t ps) (nl t)]
  refine RQ.blk 1 (pc' := 242) (lv' := [(6, .int (nI t)), (5, .int (nI c)), (4, .int (nI l)), (0, .ref 196), (1, .int (nI a)), (2, .int (nI b)), (3, .int (nI k))]) (st' := [.int ((nI (l - k) - nI (nl c)) - nI (wtL t ps + (nl t)))]) (H' := _) (kc' := 0) (ks' := 0) rfl ?_
  refine RQ.blk 3 (pc' := 246) (lv' := [(7, .int (nI (l - k) - nI (nl c) - nI (wtL t ps + nl t))), (6, .int (nI t)), (5, .int (nI c)), (4, .int (nI l)), (0, .ref 196), (1, .int (nI a)), (2, .int (nI b)), (3, .int (nI k))]) (st' := [.int (-1), .ref 196]) (H' := _) (kc' := 0) (ks' := 0) rfl ?_
  refine RQ.call (v := some (.int (nI (ndR op se (-1) p ms kd nl ps)))) (st' := []) rfl rfl rfl rfl rfl rfl (args_v [.int (-1)] [] rfl rfl (Nat.le_of_ble_eq_true rfl) rfl hm1 (Nat.le_of_ble_eq_true rfl)) (rc_mneedR (x := -1) hm1 hV1 k3 h51 h61 k4 hT1 k5 hP1 k6 (by omega)) ?_
  refine RQ.blk 1 (pc' := 251) (lv' := [(7, .int (nI (l - k) - nI (nl c) - nI (wtL t ps + nl t))), (6, .int (nI t)), (5, .int (nI c)), (4, .int (nI l)), (0, .ref 196), (1, .int (nI a)), (2, .int (nI b)), (3, .int (nI k))]) (st' := [.int (nI (l - k) - nI (nl c) - nI (wtL t ps + nl t)), .int (nI (ndR op se (-1) p ms kd nl ps))]) (H' := _) (kc' := 0) (ks' := 0) rfl ?_
  refine RQ.blk 1 (pc' := 252) (lv' := [(7, .int (nI (l - k) - nI (nl c) - nI (wtL t ps + nl t))), (6, .int (nI t)), (5, .int (nI c)), (4, .int (nI l)), (0, .ref 196), (1, .int (nI a)), (2, .int (nI b)), (3, .int (nI k))]) (st' := [.int (nI (ndR op se (-1) p ms kd nl ps) + (nI (l - k) - nI (nl c) - nI (wtL t ps + nl t)))]) (H' := _) (kc' := 0) (ks' := 0) rfl ?_
  rw [nI_mix hge]
  refine RQ.blk 1 (pc' := 253) (lv' := [(7, .int (nI (l - k) - nI (nl c) - nI (wtL t ps + nl t))), (6, .int (nI t)), (5, .int (nI c)), (4, .int (nI l)), (0, .ref 196), (1, .int (nI a)), (2, .int (nI b)), (3, .int (nI k))]) (st' := [.ref 196, .int (nI ((ndR op se (-1) p ms kd nl ps) + (l - k) - (nl c + (wtL t ps + nl t))))]) (H' := _) (kc' := 0) (ks' := 0) rfl ?_
  refine RQ.get (ci := 12) rfl hm1 rfl rfl ?_
  refine RQ.brT rfl rfl rfl (cT_le ((ndR op se (-1) p ms kd nl ps) + (l - k) - (nl c + (wtL t ps + nl t))) li) ?_
  refine RQ.blk 2 (pc' := 267) (lv' := [(7, .int (nI (l - k) - nI (nl c) - nI (wtL t ps + nl t))), (6, .int (nI t)), (5, .int (nI c)), (4, .int (nI l)), (0, .ref 196), (1, .int (nI a)), (2, .int (nI b)), (3, .int (nI k))]) (st' := [.int 2, .ref 196]) (H' := _) (kc' := 0) (ks' := 0) rfl ?_
  refine RQ.call (v := some (.int 0)) (st' := []) rfl rfl rfl rfl rfl rfl (args_v [.int 2] [] rfl rfl (Nat.le_of_ble_eq_true rfl) rfl hm1 (Nat.le_of_ble_eq_true rfl)) (rc_mlost0 hm1) ?_
  refine RQ.brT rfl rfl rfl (by decide) ?_
  refine RQ.blk 1 (pc' := 281) (lv' := [(7, .int (nI (l - k) - nI (nl c) - nI (wtL t ps + nl t))), (6, .int (nI t)), (5, .int (nI c)), (4, .int (nI l)), (0, .ref 196), (1, .int (nI a)), (2, .int (nI b)), (3, .int (nI k))]) (st' := [.int (nI t)]) (H' := _) (kc' := 0) (ks' := 0) rfl ?_
  refine RQ.brF rfl rfl rfl (cF_lt t 0) ?_
  refine RQ.blk 2 (pc' := 287) (lv' := [(7, .int (nI (l - k) - nI (nl c) - nI (wtL t ps + nl t))), (6, .int (nI t)), (5, .int (nI c)), (4, .int (nI l)), (0, .ref 196), (1, .int (nI a)), (2, .int (nI b)), (3, .int (nI k))]) (st' := [.int (nI t), .ref 196]) (H' := _) (kc' := 0) (ks' := 0) rfl ?_
  refine RQ.callN (st' := []) rfl rfl rfl rfl rfl rfl (args_v [.int (nI t)] [] rfl rfl (Nat.le_of_ble_eq_true rfl) rfl hm1 (Nat.le_of_ble_eq_true rfl)) (rn_forget (d := d + 1) hm1 hP1 k6 k7 k8 (show t ≤ 200 by omega) hT1.1) (fun H3 hx3 => ?_)
  obtain ⟨cur, hm3, hP3, hK3, hpm, -, -, f30⟩ := hx3
  have f3 : ∀ a, ¬ (a = 195 ∨ a = 213 ∨ (218 ≤ a ∧ a < 223)) → H3[a]? = H[a]? := fun a ha => (f30 a ha).trans (f1 a (by omega))
  have hT3 : MTreeAt H3 (va_up kd t 0) pa sz nl nm := ⟨hK3, (f3 214 (by omega)).trans hT.2.1, (f3 215 (by omega)).trans hT.2.2.1, (f3 216 (by omega)).trans hT.2.2.2.1, (f3 217 (by omega)).trans hT.2.2.2.2⟩
  refine RQ.blk 7 (pc' := 299) (lv' := [(7, .int (nI (l - k) - nI (nl c) - nI (wtL t ps + nl t))), (6, .int (nI t)), (5, .int (nI c)), (4, .int (nI l)), (0, .ref 196), (1, .int (nI a)), (2, .int (nI b)), (3, .int (nI k))]) (st' := [.int (nI l - nI k), .int (nI k), .int (nI b), .int (nI c), .ref 196]) (H' := _) (kc' := 0) (ks' := 0) rfl ?_
  rw [show (nI l - nI k : Int32) = nI (l - k) from pk_sub (a := l) (b := k) (by omega)]
  refine RQ.call (v := none) (st' := []) rfl rfl rfl rfl rfl rfl (args_v [.int (nI (l - k)), .int (nI k), .int (nI b), .int (nI c)] [] rfl rfl (Nat.le_of_ble_eq_true rfl) rfl hm3 (Nat.le_of_ble_eq_true rfl)) (rc_mname (v := c) (dir := b) (i := k) (n := l - k) hm3 hT3 ((f3 196 (by omega)).trans h196) (by omega) (by omega) hl30) ?_
  have hm4 : (((H3.set 214 (kI 201 (fun j => nI (va_up pa c b j)))).set 215 (kI 201 (fun j => nI (va_up nl c (l - k) j)))).set 216 (kB 6030 (cpy tb k nm (30 * c) (l - k))))[195]? = _ := (set_far (by decide)).trans ((set_far (by decide)).trans ((set_far (by decide)).trans hm3))
  have f4 : ∀ a, ¬ (a = 195 ∨ (213 ≤ a ∧ a < 223)) → (((H3.set 214 (kI 201 (fun j => nI (va_up pa c b j)))).set 215 (kI 201 (fun j => nI (va_up nl c (l - k) j)))).set 216 (kB 6030 (cpy tb k nm (30 * c) (l - k))))[a]? = H[a]? := fun a ha => (set_far (by omega)).trans ((set_far (by omega)).trans ((set_far (by omega)).trans (f3 a (by omega))))
  have hT4 : MTreeAt (((H3.set 214 (kI 201 (fun j => nI (va_up pa c b j)))).set 215 (kI 201 (fun j => nI (va_up nl c (l - k) j)))).set 216 (kB 6030 (cpy tb k nm (30 * c) (l - k)))) (va_up kd t 0) (va_up pa c b) sz (va_up nl c (l - k)) (cpy tb k nm (30 * c) (l - k)) := ⟨(set_far (by decide)).trans ((set_far (by decide)).trans ((set_far (by decide)).trans hT3.1)), (set_far (by decide)).trans ((set_far (by decide)).trans (get_set hT3.2.1)), (set_far (by decide)).trans (get_set ((set_far (by decide)).trans hT3.2.2.1)), get_set ((set_far (by decide)).trans ((set_far (by decide)).trans hT3.2.2.2.1)), (set_far (by decide)).trans ((set_far (by decide)).trans ((set_far (by decide)).trans hT3.2.2.2.2))⟩
  have hP4 := hP3.far (H' := (((H3.set 214 (kI 201 (fun j => nI (va_up pa c b j)))).set 215 (kI 201 (fun j => nI (va_up nl c (l - k) j)))).set 216 (kB 6030 (cpy tb k nm (30 * c) (l - k))))) (fun a a1 a2 => (set_far (by omega)).trans ((set_far (by omega)).trans (set_far (by omega))))
  generalize (((H3.set 214 (kI 201 (fun j => nI (va_up pa c b j)))).set 215 (kI 201 (fun j => nI (va_up nl c (l - k) j)))).set 216 (kB 6030 (cpy tb k nm (30 * c) (l - k)))) = H4 at hm4 f4 hT4 hP4 ⊢
  refine RQ.blk 3 (pc' := 306) (lv' := [(7, .int (nI (l - k) - nI (nl c) - nI (wtL t ps + nl t))), (6, .int (nI t)), (5, .int (nI c)), (4, .int (nI l)), (0, .ref 196), (1, .int (nI a)), (2, .int (nI b)), (3, .int (nI k))]) (st' := [.int (nI c), .int 2, .ref 196]) (H' := _) (kc' := 0) (ks' := 0) rfl ?_
  refine RQ.call (v := some (.int (nI c))) (st' := []) rfl rfl rfl rfl rfl rfl (args_v [.int (nI c), .int 2] [] rfl rfl (Nat.le_of_ble_eq_true rfl) rfl hm4 (Nat.le_of_ble_eq_true rfl)) (rc_mchanged0 (x := 2) hm4) ?_
  exact RQ.done (c := 0) (s := 0) rfl rfl rfl rfl ⟨_, _, rfl, rfl, cur, hpm, ⟨us, ba, bo, get_set hm4, hV.far (fun a a1 a2 => (set_far (by omega)).trans (f4 a (by omega))) ((set_far (by decide)).trans (f4 223 (by omega))), (set_far (by decide)).trans ((f4 205 (by omega)).trans h5), (set_far (by decide)).trans ((f4 206 (by omega)).trans h6), hR.far (fun a a1 => (set_far (by omega)).trans (f4 a (by omega))), hT4.far (fun a a1 a2 => set_far (by omega)), hP4.far (fun a a1 a2 => set_far (by omega)), (set_far (by decide)).trans ((f4 196 (by omega)).trans h196), (set_far (by decide)).trans ((f4 197 (by omega)).trans h197)⟩, fun a ha => (set_far (by omega)).trans (f4 a (by omega))⟩
set_option maxRecDepth 20000 in
theorem ri_mrename1_late {sc : Nat × (Nat → Int32)} {d l : Nat} {H : aH} {fa rs : Int32} {li : Nat} {tb : Nat → Int8} {g0 : Nat → Int8} {p : Nat} {ms : List aMV} {op : Nat → Bool} {se : Nat → Nat} {wss : Nat → List aE} {kd pa sz nl : Nat → Nat} {nm : Nat → Int8} {ps : List aPc} {a b k : Nat} {c t : Nat} (h : RefI H fa li 0 1 1 tb l rs g0 p ms op se wss kd pa sz nl nm ps) (hk : RefOk l p ms se kd pa sz nl ps) (ha : a ≤ 200) (hb : b ≤ 200) (hk1 : 1 ≤ k) (hk30 : k ≤ 30) (hkl : k < l) (hl30 : l - k ≤ 30) (hn1 : noSl tb 0 k) (hn2 : noSl tb k (l - k)) (hkd : kd a = 2) (hkd2 : kd b = 2) (hc : (fstF (inN kd pa nl nm a (sl tb 0 k)) 1 200) = some c) (ht : (fstF (inN kd pa nl nm b (sl tb k (l - k))) 1 200) = some t) (htc : ¬ t = c) (kc : ¬ kd c = 2) (kt : ¬ kd t = 2) (hli : li < 2 ^ 31) (hnd : (ndR op se (-1) p ms kd nl ps) + l < 2 ^ 31) (hge : (nl c + (wtL t ps + nl t)) ≤ (ndR op se (-1) p ms kd nl ps) + (l - k)) (hfits : ((ndR op se (-1) p ms kd nl ps) + (l - k) - (nl c + (wtL t ps + nl t))) ≤ li) : RI sc (d + 5) mr_317 [.ref 196, .int (nI a), .int (nI b), .int (nI k)] H (fun x H' => x = 0 ∧ ∃ cur : List aPc, cur.Perm (ps.filterMap (cutE t 0)) ∧ RefI H' 2 li 1 0 1 tb 0 0 g0 (p + 1) (ms.filter (keepM (fun j => if j < 8 then false else op j) se (p + 1) (kmM ms))) (fun j => if j < 8 then false else op j) se wss (va_up kd t 0) (va_up pa c b) sz (va_up nl c (l - k)) (cpy tb k nm (30 * c) (l - k)) cur ∧ ∀ a, ¬ (195 ≤ a ∧ a < 224) → H'[a]? = H[a]?) := by
  obtain ⟨us, ba, bo, hm, hV, h5, h6, hR, hT, hP, h196, h197⟩ := h
  obtain ⟨k1, k2, k3, k4, k5, k6, k7, k8⟩ := hk
  refine RI.of ?_
  refine RQ.blk 2 (pc' := 2) (lv' := [(0, .ref 196), (1, .int (nI a)), (2, .int (nI b)), (3, .int (nI k))]) (st' := [.int 0, .ref 196]) (H' := _) (kc' := 0) (ks' := 0) rfl ?_
  refine RQ.put (ci := 12) rfl hm rfl rfl (Nat.le_of_ble_eq_true rfl) ?_
  have hm1 : (H.set 195 (kO 12 (mfs 0 (nI li) 0 1 1 (nI l) rs (nI p) (nI ms.length) (nI us) (nI ps.length) (nI (plen ps)) ba bo)))[195]? = some (kO 12 (mfs 0 (nI li) 0 1 1 (nI l) rs (nI p) (nI ms.length) (nI us) (nI ps.length) (nI (plen ps)) ba bo)) := get_set hm
  have f1 : ∀ a, a ≠ 195 → (H.set 195 (kO 12 (mfs 0 (nI li) 0 1 1 (nI l) rs (nI p) (nI ms.length) (nI us) (nI ps.length) (nI (plen ps)) ba bo)))[a]? = H[a]? := fun a ha => set_far ha
  show RQ _ _ _ 5 [(0, .ref 196), (1, .int (nI a)), (2, .int (nI b)), (3, .int (nI k))] [] (H.set 195 (kO 12 (mfs 0 (nI li) 0 1 1 (nI l) rs (nI p) (nI ms.length) (nI us) (nI ps.length) (nI (plen ps)) ba bo))) 0 0 _
  generalize (H.set 195 (kO 12 (mfs 0 (nI li) 0 1 1 (nI l) rs (nI p) (nI ms.length) (nI us) (nI ps.length) (nI (plen ps)) ba bo))) = H1 at hm1 f1 ⊢
  have hV1 := hV.far (fun a a1 a2 => f1 a (by omega)) (f1 223 (by decide))
  have h51 := (f1 205 (by decide)).trans h5
  have h61 := (f1 206 (by decide)).trans h6
  have hR1 := hR.far (fun a a1 => f1 a (by omega))
  have hT1 := hT.far (fun a a1 a2 => f1 a (by omega))
  have hP1 := hP.far (fun a a1 a2 => f1 a (by omega))
  have h1961 := (f1 196 (by decide)).trans h196
  have h1971 := (f1 197 (by decide)).trans h197
  have hka := k5 a ha
  have hkb := k5 b hb
  refine RQ.blk 3 (pc' := 10) (lv' := [(0, .ref 196), (1, .int (nI a)), (2, .int (nI b)), (3, .int (nI k))]) (st' := [.int 201, .int (nI a), .ref 196]) (H' := _) (kc' := 0) (ks' := 0) rfl ?_
  refine RQ.call (v := some (.int 0)) (st' := []) rfl rfl rfl rfl rfl rfl (args_v [.int 201, .int (nI a)] [] rfl rfl (Nat.le_of_ble_eq_true rfl) rfl hm1 (Nat.le_of_ble_eq_true rfl)) (rc_out (v := a) (m := 201) (by omega) (by decide)) ?_
  refine RQ.brF rfl rfl rfl (by decide) ?_
  refine RQ.blk 3 (pc' := 21) (lv' := [(0, .ref 196), (1, .int (nI a)), (2, .int (nI b)), (3, .int (nI k))]) (st' := [.int 201, .int (nI b), .ref 196]) (H' := _) (kc' := 0) (ks' := 0) rfl ?_
  refine RQ.call (v := some (.int 0)) (st' := []) rfl rfl rfl rfl rfl rfl (args_v [.int 201, .int (nI b)] [] rfl rfl (Nat.le_of_ble_eq_true rfl) rfl hm1 (Nat.le_of_ble_eq_true rfl)) (rc_out (v := b) (m := 201) (by omega) (by decide)) ?_
  refine RQ.brF rfl rfl rfl (by decide) ?_
  refine RQ.blk 5 (pc' := 32) (lv' := [(0, .ref 196), (1, .int (nI a)), (2, .int (nI b)), (3, .int (nI k))]) (st' := [.ref 196, .int (nI k), .ref 196, .int 0, .ref 196]) (H' := _) (kc' := 0) (ks' := 0) rfl ?_
  refine RQ.get (ci := 12) rfl hm1 rfl rfl ?_
  refine RQ.call (v := some (.int (nI (min k l)))) (st' := [.int 0, .ref 196]) rfl rfl rfl rfl rfl rfl (args_v [.int (nI l), .int (nI k)] [.int 0, .ref 196] rfl rfl (Nat.le_of_ble_eq_true rfl) rfl hm1 (Nat.le_of_ble_eq_true rfl)) (rc_mleast (a := k) (b := l) (by omega) (by omega)) ?_
  rw [show min k l = k by omega]
  refine RQ.call (v := some (.int 1)) (st' := []) rfl rfl rfl rfl rfl rfl (args_v [.int (nI k), .int 0] [] rfl rfl (Nat.le_of_ble_eq_true rfl) rfl hm1 (Nat.le_of_ble_eq_true rfl)) (rc_named1 (i := 0) (n := k) hm1 h1961 (by decide) (by omega) hk1 hk30 hn1) ?_
  refine RQ.brF rfl rfl rfl (by decide) ?_
  refine RQ.blk 2 (pc' := 46) (lv' := [(0, .ref 196), (1, .int (nI a)), (2, .int (nI b)), (3, .int (nI k))]) (st' := [.ref 196, .int (nI k)]) (H' := _) (kc' := 0) (ks' := 0) rfl ?_
  refine RQ.get (ci := 12) rfl hm1 rfl rfl ?_
  refine RQ.brF rfl rfl rfl (cF_gt k l) ?_
  refine RQ.blk 3 (pc' := 55) (lv' := [(0, .ref 196), (1, .int (nI a)), (2, .int (nI b)), (3, .int (nI k))]) (st' := [.ref 196, .int (nI k), .ref 196]) (H' := _) (kc' := 0) (ks' := 0) rfl ?_
  refine RQ.get (ci := 12) rfl hm1 rfl rfl ?_
  refine RQ.blk 2 (pc' := 60) (lv' := [(0, .ref 196), (1, .int (nI a)), (2, .int (nI b)), (3, .int (nI k))]) (st' := [.int (nI l - nI k), .int (nI k), .ref 196]) (H' := _) (kc' := 0) (ks' := 0) rfl ?_
  rw [show (nI l - nI k : Int32) = nI (l - k) from pk_sub (a := l) (b := k) (by omega)]
  refine RQ.call (v := some (.int 1)) (st' := []) rfl rfl rfl rfl rfl rfl (args_v [.int (nI (l - k)), .int (nI k)] [] rfl rfl (Nat.le_of_ble_eq_true rfl) rfl hm1 (Nat.le_of_ble_eq_true rfl)) (rc_named1 (i := k) (n := l - k) hm1 h1961 (by decide) (by omega) (by omega) hl30 hn2) ?_
  refine RQ.brT rfl rfl rfl (by decide) ?_
  refine RQ.blk 1 (pc' := 73) (lv' := [(0, .ref 196), (1, .int (nI a)), (2, .int (nI b)), (3, .int (nI k))]) (st' := [.ref 196]) (H' := _) (kc' := 0) (ks' := 0) rfl ?_
  refine RQ.get (ci := 12) rfl hm1 rfl rfl ?_
  refine RQ.brT rfl rfl rfl (by decide) ?_
  refine RQ.blk 1 (pc' := 86) (lv' := [(0, .ref 196), (1, .int (nI a)), (2, .int (nI b)), (3, .int (nI k))]) (st' := [.ref 196]) (H' := _) (kc' := 0) (ks' := 0) rfl ?_
  refine RQ.get (ci := 12) rfl hm1 rfl rfl ?_
  refine RQ.blk 3 (pc' := 93) (lv' := [(4, .int (nI l)), (0, .ref 196), (1, .int (nI a)), (2, .int (nI b)), (3, .int (nI k))]) (st' := [.int 0, .ref 196]) (H' := _) (kc' := 0) (ks' := 0) rfl ?_
  refine RQ.put (ci := 12) rfl hm1 rfl rfl (Nat.le_of_ble_eq_true rfl) ?_
  have hm2 : (H1.set 195 (kO 12 (mfs 0 (nI li) 0 1 1 (nI 0) rs (nI p) (nI ms.length) (nI us) (nI ps.length) (nI (plen ps)) ba bo)))[195]? = some (kO 12 (mfs 0 (nI li) 0 1 1 (nI 0) rs (nI p) (nI ms.length) (nI us) (nI ps.length) (nI (plen ps)) ba bo)) := get_set hm1
  have f2 : ∀ a, a ≠ 195 → (H1.set 195 (kO 12 (mfs 0 (nI li) 0 1 1 (nI 0) rs (nI p) (nI ms.length) (nI us) (nI ps.length) (nI (plen ps)) ba bo)))[a]? = H[a]? := fun a ha => (set_far ha).trans (f1 a ha)
  show RQ _ _ _ 96 [(4, .int (nI l)), (0, .ref 196), (1, .int (nI a)), (2, .int (nI b)), (3, .int (nI k))] [] (H1.set 195 (kO 12 (mfs 0 (nI li) 0 1 1 (nI 0) rs (nI p) (nI ms.length) (nI us) (nI ps.length) (nI (plen ps)) ba bo))) 0 0 _
  generalize (H1.set 195 (kO 12 (mfs 0 (nI li) 0 1 1 (nI 0) rs (nI p) (nI ms.length) (nI us) (nI ps.length) (nI (plen ps)) ba bo))) = H2 at hm2 f2 ⊢
  clear hm1 f1 hV1 h51 h61 hR1 hT1 hP1 h1961 h1971
  have hm1 := hm2
  have f1 := f2
  clear hm2 f2
  have hV1 := hV.far (fun a a1 a2 => f1 a (by omega)) (f1 223 (by decide))
  have h51 := (f1 205 (by decide)).trans h5
  have h61 := (f1 206 (by decide)).trans h6
  have hR1 := hR.far (fun a a1 => f1 a (by omega))
  have hT1 := hT.far (fun a a1 a2 => f1 a (by omega))
  have hP1 := hP.far (fun a a1 a2 => f1 a (by omega))
  have h1961 := (f1 196 (by decide)).trans h196
  have h1971 := (f1 197 (by decide)).trans h197
  refine RQ.blk 2 (pc' := 98) (lv' := [(4, .int (nI l)), (0, .ref 196), (1, .int (nI a)), (2, .int (nI b)), (3, .int (nI k))]) (st' := [.int (nI a), .ref 196]) (H' := _) (kc' := 0) (ks' := 0) rfl ?_
  refine RQ.call (v := some (.int 1)) (st' := []) rfl rfl rfl rfl rfl rfl (args_v [.int (nI a)] [] rfl rfl (Nat.le_of_ble_eq_true rfl) rfl hm1 (Nat.le_of_ble_eq_true rfl)) (rc_mdirT hm1 rfl hT1.1 ha (nI_is2 hkd)) ?_
  refine RQ.brF rfl rfl rfl (by decide) ?_
  refine RQ.blk 2 (pc' := 106) (lv' := [(4, .int (nI l)), (0, .ref 196), (1, .int (nI a)), (2, .int (nI b)), (3, .int (nI k))]) (st' := [.int (nI b), .ref 196]) (H' := _) (kc' := 0) (ks' := 0) rfl ?_
  refine RQ.call (v := some (.int 1)) (st' := []) rfl rfl rfl rfl rfl rfl (args_v [.int (nI b)] [] rfl rfl (Nat.le_of_ble_eq_true rfl) rfl hm1 (Nat.le_of_ble_eq_true rfl)) (rc_mdirT hm1 rfl hT1.1 hb (nI_is2 hkd2)) ?_
  refine RQ.brF rfl rfl rfl (by decide) ?_
  refine RQ.blk 4 (pc' := 116) (lv' := [(4, .int (nI l)), (0, .ref 196), (1, .int (nI a)), (2, .int (nI b)), (3, .int (nI k))]) (st' := [.int (nI k), .int 0, .int (nI a), .ref 196]) (H' := _) (kc' := 0) (ks' := 0) rfl ?_
  have hch := rc_mchild (sc := sc) (d := d + 3) (j := 0) (m := k) hm1 hT1 k5 h1961 (by omega) ha
  rw [hc] at hch
  have hcl := fstF_lt hc
  have hkc := k5 c (by omega)
  refine RQ.call (v := some (.int (nI c))) (st' := []) rfl rfl rfl rfl rfl rfl (args_v [.int (nI k), .int 0, .int (nI a)] [] rfl rfl (Nat.le_of_ble_eq_true rfl) rfl hm1 (Nat.le_of_ble_eq_true rfl)) hch ?_
  refine RQ.blk 3 (pc' := 127) (lv' := [(5, .int (nI c)), (4, .int (nI l)), (0, .ref 196), (1, .int (nI a)), (2, .int (nI b)), (3, .int (nI k))]) (st' := [.int (nI c)]) (H' := _) (kc' := 0) (ks' := 0) rfl ?_
  refine RQ.brT rfl rfl rfl (cT_ge c 0) ?_
  refine RQ.blk 6 (pc' := 143) (lv' := [(5, .int (nI c)), (4, .int (nI l)), (0, .ref 196), (1, .int (nI a)), (2, .int (nI b)), (3, .int (nI k))]) (st' := [.int (nI l - nI k), .int (nI k), .int (nI b), .ref 196]) (H' := _) (kc' := 0) (ks' := 0) rfl ?_
  rw [show (nI l - nI k : Int32) = nI (l - k) from pk_sub (a := l) (b := k) (by omega)]
  have hch2 := rc_mchild (sc := sc) (d := d + 3) (j := k) (m := l - k) hm1 hT1 k5 h1961 (by omega) hb
  rw [ht] at hch2
  have htl := fstF_lt ht
  have hkt := k5 t (by omega)
  refine RQ.call (v := some (.int (nI t))) (st' := []) rfl rfl rfl rfl rfl rfl (args_v [.int (nI (l - k)), .int (nI k), .int (nI b)] [] rfl rfl (Nat.le_of_ble_eq_true rfl) rfl hm1 (Nat.le_of_ble_eq_true rfl)) hch2 ?_
  refine RQ.blk 3 (pc' := 152) (lv' := [(6, .int (nI t)), (5, .int (nI c)), (4, .int (nI l)), (0, .ref 196), (1, .int (nI a)), (2, .int (nI b)), (3, .int (nI k))]) (st' := [.int (nI c), .int (nI t)]) (H' := _) (kc' := 0) (ks' := 0) rfl ?_
  refine RQ.brT rfl rfl rfl (cT_ne t c) ?_
  refine RQ.blk 2 (pc' := 161) (lv' := [(6, .int (nI t)), (5, .int (nI c)), (4, .int (nI l)), (0, .ref 196), (1, .int (nI a)), (2, .int (nI b)), (3, .int (nI k))]) (st' := [.int (nI c), .ref 196]) (H' := _) (kc' := 0) (ks' := 0) rfl ?_
  refine RQ.call (v := some (.int 0)) (st' := []) rfl rfl rfl rfl rfl rfl (args_v [.int (nI c)] [] rfl rfl (Nat.le_of_ble_eq_true rfl) rfl hm1 (Nat.le_of_ble_eq_true rfl)) (rc_mdirF hm1 rfl hT1.1 (by omega) (nI_ne2 hkc.1 kc)) ?_
  refine RQ.brT rfl rfl rfl (by decide) ?_
  refine RQ.blk 1 (pc' := 179) (lv' := [(6, .int (nI t)), (5, .int (nI c)), (4, .int (nI l)), (0, .ref 196), (1, .int (nI a)), (2, .int (nI b)), (3, .int (nI k))]) (st' := [.int (nI t)]) (H' := _) (kc' := 0) (ks' := 0) rfl ?_
  refine RQ.brF rfl rfl rfl (cF_lt t 0) ?_
  refine RQ.blk 2 (pc' := 185) (lv' := [(6, .int (nI t)), (5, .int (nI c)), (4, .int (nI l)), (0, .ref 196), (1, .int (nI a)), (2, .int (nI b)), (3, .int (nI k))]) (st' := [.int (nI t), .ref 196]) (H' := _) (kc' := 0) (ks' := 0) rfl ?_
  refine RQ.call (v := some (.int 0)) (st' := []) rfl rfl rfl rfl rfl rfl (args_v [.int (nI t)] [] rfl rfl (Nat.le_of_ble_eq_true rfl) rfl hm1 (Nat.le_of_ble_eq_true rfl)) (rc_mdirF hm1 rfl hT1.1 (by omega) (nI_ne2 hkt.1 kt)) ?_
  refine RQ.brF rfl rfl rfl (by decide) ?_
  refine RQ.blk 2 (pc' := 194) (lv' := [(6, .int (nI t)), (5, .int (nI c)), (4, .int (nI l)), (0, .ref 196), (1, .int (nI a)), (2, .int (nI b)), (3, .int (nI k))]) (st' := [.int (nI c), .ref 196]) (H' := _) (kc' := 0) (ks' := 0) rfl ?_
  refine RQ.call (v := some (.int 0)) (st' := []) rfl rfl rfl rfl rfl rfl (args_v [.int (nI c)] [] rfl rfl (Nat.le_of_ble_eq_true rfl) rfl hm1 (Nat.le_of_ble_eq_true rfl)) (rc_mdirF hm1 rfl hT1.1 (by omega) (nI_ne2 hkc.1 kc)) ?_
  refine RQ.brT rfl rfl rfl (by decide) ?_
  refine RQ.blk 3 (pc' := 210) (lv' := [(6, .int (nI t)), (5, .int (nI c)), (4, .int (nI l)), (0, .ref 196), (1, .int (nI a)), (2, .int (nI b)), (3, .int (nI k))]) (st' := [.int (nI l - nI k)]) (H' := _) (kc' := 0) (ks' := 0) rfl ?_
  rw [show (nI l - nI k : Int32) = nI (l - k) from pk_sub (a := l) (b := k) (by omega)]
  refine RQ.blk 1 (pc' := 211) (lv' := [(6, .int (nI t)), (5, .int (nI c)), (4, .int (nI l)), (0, .ref 196), (1, .int (nI a)), (2, .int (nI b)), (3, .int (nI k))]) (st' := [.ref 196, .int (nI (l - k))]) (H' := _) (kc' := 0) (ks' := 0) rfl ?_
  refine RQ.get (ci := 12) rfl hm1 rfl rfl ?_
  refine RQ.blk 1 (pc' := 216) (lv' := [(6, .int (nI t)), (5, .int (nI c)), (4, .int (nI l)), (0, .ref 196), (1, .int (nI a)), (2, .int (nI b)), (3, .int (nI k))]) (st' := [.int (nI c), .ref 216, .int (nI (l - k))]) (H' := _) (kc' := 0) (ks' := 0) rfl ?_
  refine RQ.ialdN (j := c) rfl hT1.2.2.1 (by omega) (by decide) ?_
  refine RQ.blk 1 (pc' := 218) (lv' := [(6, .int (nI t)), (5, .int (nI c)), (4, .int (nI l)), (0, .ref 196), (1, .int (nI a)), (2, .int (nI b)), (3, .int (nI k))]) (st' := [.int (nI (l - k) - nI (nl c))]) (H' := _) (kc' := 0) (ks' := 0) rfl ?_
  refine RQ.blk 1 (pc' := 220) (lv' := [(6, .int (nI t)), (5, .int (nI c)), (4, .int (nI l)), (0, .ref 196), (1, .int (nI a)), (2, .int (nI b)), (3, .int (nI k))]) (st' := [.int (nI t), .int (nI (l - k) - nI (nl c))]) (H' := _) (kc' := 0) (ks' := 0) rfl ?_
  refine RQ.brT rfl rfl rfl (cT_ge t 0) ?_
  refine RQ.blk 2 (pc' := 230) (lv' := [(6, .int (nI t)), (5, .int (nI c)), (4, .int (nI l)), (0, .ref 196), (1, .int (nI a)), (2, .int (nI b)), (3, .int (nI k))]) (st' := [.int (nI t), .ref 196, .int (nI (l - k) - nI (nl c))]) (H' := _) (kc' := 0) (ks' := 0) rfl ?_
  refine RQ.call (v := some (.int (nI (wtL t ps)))) (st' := [.int (nI (l - k) - nI (nl c))]) rfl rfl rfl rfl rfl rfl (args_v [.int (nI t)] [.int (nI (l - k) - nI (nl c))] rfl rfl (Nat.le_of_ble_eq_true rfl) rfl hm1 (Nat.le_of_ble_eq_true rfl)) (rc_mweightL hm1 hP1 k6 k8 (show t ≤ 200 by omega)) ?_
  refine RQ.blk 1 (pc' := 234) (lv' := [(6, .int (nI t)), (5, .int (nI c)), (4, .int (nI l)), (0, .ref 196), (1, .int (nI a)), (2, .int (nI b)), (3, .int (nI k))]) (st' := [.ref 196, .int (nI (wtL t ps)), .int (nI (l - k) - nI (nl c))]) (H' := _) (kc' := 0) (ks' := 0) rfl ?_
  refine RQ.get (ci := 12) rfl hm1 rfl rfl ?_
  refine RQ.blk 1 (pc' := 239) (lv' := [(6, .int (nI t)), (5, .int (nI c)), (4, .int (nI l)), (0, .ref 196), (1, .int (nI a)), (2, .int (nI b)), (3, .int (nI k))]) (st' := [.int (nI t), .ref 216, .int (nI (wtL t ps)), .int (nI (l - k) - nI (nl c))]) (H' := _) (kc' := 0) (ks' := 0) rfl ?_
  refine RQ.ialdN (j := t) rfl hT1.2.2.1 (by omega) (by decide) ?_
  refine RQ.blk 1 (pc' := 241) (lv' := [(6, .int (nI t)), (5, .int (nI c)), (4, .int (nI l)), (0, .ref 196), (1, .int (nI a)), (2, .int (nI b)), (3, .int (nI k))]) (st' := [.int (nI (wtL t ps) + nI (nl t)), .int (nI (l - k) - nI (nl c))]) (H' := _) (kc' := 0) (ks' := 0) rfl ?_
  rw [show (nI (wtL t ps) + nI (nl t) : Int32) = nI (wtL t ps + (nl t)) from nI_add (wtL t ps) (nl t)]
  refine RQ.blk 1 (pc' := 242) (lv' := [(6, .int (nI t)), (5, .int (nI c)), (4, .int (nI l)), (0, .ref 196), (1, .int (nI a)), (2, .int (nI b)), (3, .int (nI k))]) (st' := [.int ((nI (l - k) - nI (nl c)) - nI (wtL t ps + (nl t)))]) (H' := _) (kc' := 0) (ks' := 0) rfl ?_
  refine RQ.blk 3 (pc' := 246) (lv' := [(7, .int (nI (l - k) - nI (nl c) - nI (wtL t ps + nl t))), (6, .int (nI t)), (5, .int (nI c)), (4, .int (nI l)), (0, .ref 196), (1, .int (nI a)), (2, .int (nI b)), (3, .int (nI k))]) (st' := [.int (-1), .ref 196]) (H' := _) (kc' := 0) (ks' := 0) rfl ?_
  refine RQ.call (v := some (.int (nI (ndR op se (-1) p ms kd nl ps)))) (st' := []) rfl rfl rfl rfl rfl rfl (args_v [.int (-1)] [] rfl rfl (Nat.le_of_ble_eq_true rfl) rfl hm1 (Nat.le_of_ble_eq_true rfl)) (rc_mneedR (x := -1) hm1 hV1 k3 h51 h61 k4 hT1 k5 hP1 k6 (by omega)) ?_
  refine RQ.blk 1 (pc' := 251) (lv' := [(7, .int (nI (l - k) - nI (nl c) - nI (wtL t ps + nl t))), (6, .int (nI t)), (5, .int (nI c)), (4, .int (nI l)), (0, .ref 196), (1, .int (nI a)), (2, .int (nI b)), (3, .int (nI k))]) (st' := [.int (nI (l - k) - nI (nl c) - nI (wtL t ps + nl t)), .int (nI (ndR op se (-1) p ms kd nl ps))]) (H' := _) (kc' := 0) (ks' := 0) rfl ?_
  refine RQ.blk 1 (pc' := 252) (lv' := [(7, .int (nI (l - k) - nI (nl c) - nI (wtL t ps + nl t))), (6, .int (nI t)), (5, .int (nI c)), (4, .int (nI l)), (0, .ref 196), (1, .int (nI a)), (2, .int (nI b)), (3, .int (nI k))]) (st' := [.int (nI (ndR op se (-1) p ms kd nl ps) + (nI (l - k) - nI (nl c) - nI (wtL t ps + nl t)))]) (H' := _) (kc' := 0) (ks' := 0) rfl ?_
  rw [nI_mix hge]
  refine RQ.blk 1 (pc' := 253) (lv' := [(7, .int (nI (l - k) - nI (nl c) - nI (wtL t ps + nl t))), (6, .int (nI t)), (5, .int (nI c)), (4, .int (nI l)), (0, .ref 196), (1, .int (nI a)), (2, .int (nI b)), (3, .int (nI k))]) (st' := [.ref 196, .int (nI ((ndR op se (-1) p ms kd nl ps) + (l - k) - (nl c + (wtL t ps + nl t))))]) (H' := _) (kc' := 0) (ks' := 0) rfl ?_
  refine RQ.get (ci := 12) rfl hm1 rfl rfl ?_
  refine RQ.brT rfl rfl rfl (cT_le ((ndR op se (-1) p ms kd nl ps) + (l - k) - (nl c + (wtL t ps + nl t))) li) ?_
  refine RQ.blk 2 (pc' := 267) (lv' := [(7, .int (nI (l - k) - nI (nl c) - nI (wtL t ps + nl t))), (6, .int (nI t)), (5, .int (nI c)), (4, .int (nI l)), (0, .ref 196), (1, .int (nI a)), (2, .int (nI b)), (3, .int (nI k))]) (st' := [.int 2, .ref 196]) (H' := _) (kc' := 0) (ks' := 0) rfl ?_
  refine RQ.call (v := some (.int 0)) (st' := []) rfl rfl rfl rfl rfl rfl (args_v [.int 2] [] rfl rfl (Nat.le_of_ble_eq_true rfl) rfl hm1 (Nat.le_of_ble_eq_true rfl)) (rc_mlostL hm1) ?_
  refine RQ.brT rfl rfl rfl (by decide) ?_
  refine RQ.blk 1 (pc' := 281) (lv' := [(7, .int (nI (l - k) - nI (nl c) - nI (wtL t ps + nl t))), (6, .int (nI t)), (5, .int (nI c)), (4, .int (nI l)), (0, .ref 196), (1, .int (nI a)), (2, .int (nI b)), (3, .int (nI k))]) (st' := [.int (nI t)]) (H' := _) (kc' := 0) (ks' := 0) rfl ?_
  refine RQ.brF rfl rfl rfl (cF_lt t 0) ?_
  refine RQ.blk 2 (pc' := 287) (lv' := [(7, .int (nI (l - k) - nI (nl c) - nI (wtL t ps + nl t))), (6, .int (nI t)), (5, .int (nI c)), (4, .int (nI l)), (0, .ref 196), (1, .int (nI a)), (2, .int (nI b)), (3, .int (nI k))]) (st' := [.int (nI t), .ref 196]) (H' := _) (kc' := 0) (ks' := 0) rfl ?_
  refine RQ.callN (st' := []) rfl rfl rfl rfl rfl rfl (args_v [.int (nI t)] [] rfl rfl (Nat.le_of_ble_eq_true rfl) rfl hm1 (Nat.le_of_ble_eq_true rfl)) (rn_forget (d := d + 1) hm1 hP1 k6 k7 k8 (show t ≤ 200 by omega) hT1.1) (fun H3 hx3 => ?_)
  obtain ⟨cur, hm3, hP3, hK3, hpm, -, -, f30⟩ := hx3
  have f3 : ∀ a, ¬ (a = 195 ∨ a = 213 ∨ (218 ≤ a ∧ a < 223)) → H3[a]? = H[a]? := fun a ha => (f30 a ha).trans (f1 a (by omega))
  have hT3 : MTreeAt H3 (va_up kd t 0) pa sz nl nm := ⟨hK3, (f3 214 (by omega)).trans hT.2.1, (f3 215 (by omega)).trans hT.2.2.1, (f3 216 (by omega)).trans hT.2.2.2.1, (f3 217 (by omega)).trans hT.2.2.2.2⟩
  refine RQ.blk 7 (pc' := 299) (lv' := [(7, .int (nI (l - k) - nI (nl c) - nI (wtL t ps + nl t))), (6, .int (nI t)), (5, .int (nI c)), (4, .int (nI l)), (0, .ref 196), (1, .int (nI a)), (2, .int (nI b)), (3, .int (nI k))]) (st' := [.int (nI l - nI k), .int (nI k), .int (nI b), .int (nI c), .ref 196]) (H' := _) (kc' := 0) (ks' := 0) rfl ?_
  rw [show (nI l - nI k : Int32) = nI (l - k) from pk_sub (a := l) (b := k) (by omega)]
  refine RQ.call (v := none) (st' := []) rfl rfl rfl rfl rfl rfl (args_v [.int (nI (l - k)), .int (nI k), .int (nI b), .int (nI c)] [] rfl rfl (Nat.le_of_ble_eq_true rfl) rfl hm3 (Nat.le_of_ble_eq_true rfl)) (rc_mname (v := c) (dir := b) (i := k) (n := l - k) hm3 hT3 ((f3 196 (by omega)).trans h196) (by omega) (by omega) hl30) ?_
  have hm4 : (((H3.set 214 (kI 201 (fun j => nI (va_up pa c b j)))).set 215 (kI 201 (fun j => nI (va_up nl c (l - k) j)))).set 216 (kB 6030 (cpy tb k nm (30 * c) (l - k))))[195]? = _ := (set_far (by decide)).trans ((set_far (by decide)).trans ((set_far (by decide)).trans hm3))
  have f4 : ∀ a, ¬ (a = 195 ∨ (213 ≤ a ∧ a < 223)) → (((H3.set 214 (kI 201 (fun j => nI (va_up pa c b j)))).set 215 (kI 201 (fun j => nI (va_up nl c (l - k) j)))).set 216 (kB 6030 (cpy tb k nm (30 * c) (l - k))))[a]? = H[a]? := fun a ha => (set_far (by omega)).trans ((set_far (by omega)).trans ((set_far (by omega)).trans (f3 a (by omega))))
  have hT4 : MTreeAt (((H3.set 214 (kI 201 (fun j => nI (va_up pa c b j)))).set 215 (kI 201 (fun j => nI (va_up nl c (l - k) j)))).set 216 (kB 6030 (cpy tb k nm (30 * c) (l - k)))) (va_up kd t 0) (va_up pa c b) sz (va_up nl c (l - k)) (cpy tb k nm (30 * c) (l - k)) := ⟨(set_far (by decide)).trans ((set_far (by decide)).trans ((set_far (by decide)).trans hT3.1)), (set_far (by decide)).trans ((set_far (by decide)).trans (get_set hT3.2.1)), (set_far (by decide)).trans (get_set ((set_far (by decide)).trans hT3.2.2.1)), get_set ((set_far (by decide)).trans ((set_far (by decide)).trans hT3.2.2.2.1)), (set_far (by decide)).trans ((set_far (by decide)).trans ((set_far (by decide)).trans hT3.2.2.2.2))⟩
  have hP4 := hP3.far (H' := (((H3.set 214 (kI 201 (fun j => nI (va_up pa c b j)))).set 215 (kI 201 (fun j => nI (va_up nl c (l - k) j)))).set 216 (kB 6030 (cpy tb k nm (30 * c) (l - k))))) (fun a a1 a2 => (set_far (by omega)).trans ((set_far (by omega)).trans (set_far (by omega))))
  generalize (((H3.set 214 (kI 201 (fun j => nI (va_up pa c b j)))).set 215 (kI 201 (fun j => nI (va_up nl c (l - k) j)))).set 216 (kB 6030 (cpy tb k nm (30 * c) (l - k)))) = H4 at hm4 f4 hT4 hP4 ⊢
  refine RQ.blk 3 (pc' := 306) (lv' := [(7, .int (nI (l - k) - nI (nl c) - nI (wtL t ps + nl t))), (6, .int (nI t)), (5, .int (nI c)), (4, .int (nI l)), (0, .ref 196), (1, .int (nI a)), (2, .int (nI b)), (3, .int (nI k))]) (st' := [.int (nI c), .int 2, .ref 196]) (H' := _) (kc' := 0) (ks' := 0) rfl ?_
  refine RQ.callI (st' := []) rfl rfl rfl rfl rfl rfl (args_v [.int (nI c), .int 2] [] rfl rfl (Nat.le_of_ble_eq_true rfl) rfl hm4 (Nat.le_of_ble_eq_true rfl)) (ri_mchanged1 (x := 2) (y := nI c) hm4 (hV.far (fun a a1 a2 => f4 a (by omega)) (f4 223 (by omega))) k3 ((f4 205 (by omega)).trans h5) ((f4 206 (by omega)).trans h6) k4 k2) (fun z H5 hz => ?_)
  obtain ⟨ez, us', hm5, hV5, h55, f5⟩ := hz
  have g5 : ∀ a, ¬ (195 ≤ a ∧ a ≤ 205 ∧ a ≠ 196 ∧ a ≠ 197 ∨ a = 223) → H5[a]? = H4[a]? := fun a ha => f5 a (by omega) (by omega)
  exact RQ.done (c := 0) (s := 0) rfl rfl rfl rfl ⟨_, _, rfl, ez, cur, hpm, ⟨us', bo, ba, hm5, hV5, h55, (g5 206 (by omega)).trans ((f4 206 (by omega)).trans h6), hR.far (fun a a1 => (g5 a (by omega)).trans (f4 a (by omega))), hT4.far (fun a a1 a2 => g5 a (by omega)), hP4.far (fun a a1 a2 => g5 a (by omega)), (g5 196 (by omega)).trans ((f4 196 (by omega)).trans h196), (g5 197 (by omega)).trans ((f4 197 (by omega)).trans h197)⟩, fun a ha => (g5 a (by omega)).trans (f4 a (by omega))⟩
