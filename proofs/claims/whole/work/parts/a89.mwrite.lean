/-! ===== what is needed, over lists; write of the reference, every end but the first; written by wip/gen/refi4.py ===== -/
/-- what is needed -/
def ndR (op : Nat → Bool) (se : Nat → Nat) (x : Int32) (p : Nat) (ms : List aMV) (kd nl : Nat → Nat) (ps : List aPc) : Nat := sumF (fun f => if kd f = 0 then 0 else 62 + nl f) 200 + (27 * ps.length + plen ps) + (ms.map (wM op se x p (kmM ms))).sum
theorem sum0_plen {pz : Nat → Nat} {ps : List aPc} (h : ∀ j x, ps[j]? = some x → pz j = x.2.2.length) : ∀ n, n ≤ ps.length → sum0 (fun p => 27 + pz p) n = 27 * n + plen (ps.take n)
  | 0, _ => rfl
  | n + 1, hn => by
    obtain ⟨x, hx⟩ := lt_get (show n < ps.length by omega)
    have e1 := sum0_plen h n (by omega)
    have e2 := h n x hx
    have e3 : plen (ps.take (n + 1)) = plen (ps.take n) + x.2.2.length := by
      rw [List.take_add_one, hx]
      unfold plen
      rw [List.map_append, List.sum_append]
      show _ + (x.2.2.length + 0) = _
      omega
    rw [sum0, e1, e3]
    show _ + (27 + pz n) = _
    omega
theorem rc_mneedR {sc : Nat × (Nat → Int32)} {d p us : Nat} {H : aH} {fa li dn cw cl tp rs : Int32} {ba bo : Nat} {ms : List aMV} {op : Nat → Bool} {se : Nat → Nat} {x : Int32} {kd pa sz nl : Nat → Nat} {nm : Nat → Int8} {ps : List aPc} (hm : H[195]? = some (kO 12 (mfs fa li dn cw cl tp rs (nI p) (nI ms.length) (nI us) (nI ps.length) (nI (plen ps)) ba bo))) (hV : MVIs H ba bo us ms) (hk : MSOk ms) (h5 : H[205]? = some (kZ 8 op)) (h6 : H[206]? = some (kI 8 (fun j => nI (se j)))) (hse : ∀ t, t < 8 → se t < 2 ^ 31) (hT : MTreeAt H kd pa sz nl nm) (hkT : TreeOk kd pa sz nl) (hP : PcsIs H ps) (hpc : ps.length ≤ 1300) (hp : p < 2 ^ 31) : RC sc (d + 3) mr_277 [.ref 196, .int x] H (.inl (some (.int (nI (ndR op se x p ms kd nl ps))))) H 0 0 := by
  obtain ⟨⟨bf, ko, kn, vo, vz, vm, hA, hL⟩, -⟩ := hV
  obtain ⟨pf, px, pz, pat, hd, hA2, hE, -⟩ := hP
  have h := rc_mneededL (sc := sc) (d := d) (x := x) hm hA hL hk h5 h6 hse hT hkT hA2.2.2.1 hpc hp
  rw [sum0_plen (fun j y hy => (hE j y hy).2.2.1) ps.length (Nat.le_refl _), List.take_of_length_le (Nat.le_refl _)] at h
  exact h
set_option maxRecDepth 20000 in
theorem ri_mwrite_down {sc : Nat × (Nat → Int32)} {d l : Nat} {H : aH} {fa cw cl rs : Int32} {li : Nat} {tb : Nat → Int8} {g0 : Nat → Int8} {p : Nat} {ms : List aMV} {op : Nat → Bool} {se : Nat → Nat} {wss : Nat → List aE} {kd pa sz nl : Nat → Nat} {nm : Nat → Int8} {ps : List aPc} {f off : Nat} (h : RefI H fa li 1 cw cl tb l rs g0 p ms op se wss kd pa sz nl nm ps) (hk : RefOk l p ms se kd pa sz nl ps) (hf : f ≤ 200) (hl1 : 1 ≤ l) (hol : off + l ≤ 16384) : RI sc (d + 5) mr_322 [.ref 196, .int (nI f), .int (nI off)] H (fun x H' => x = 0 ∧ RefI H' 2 li 1 cw cl tb l rs g0 p ms op se wss kd pa sz nl nm ps ∧ ∀ a, ¬ (195 ≤ a ∧ a < 224) → H'[a]? = H[a]?) := by
  obtain ⟨us, ba, bo, hm, hV, h5, h6, hR, hT, hP, h196, h197⟩ := h
  obtain ⟨k1, k2, k3, k4, k5, k6, k7, k8⟩ := hk
  refine RI.of ?_
  refine RQ.blk 2 (pc' := 2) (lv' := [(0, .ref 196), (1, .int (nI f)), (2, .int (nI off))]) (st' := [.int 0, .ref 196]) (H' := _) (kc' := 0) (ks' := 0) rfl ?_
  refine RQ.put (ci := 12) rfl hm rfl rfl (Nat.le_of_ble_eq_true rfl) ?_
  have hm1 : (H.set 195 (kO 12 (mfs 0 (nI li) 1 cw cl (nI l) rs (nI p) (nI ms.length) (nI us) (nI ps.length) (nI (plen ps)) ba bo)))[195]? = some (kO 12 (mfs 0 (nI li) 1 cw cl (nI l) rs (nI p) (nI ms.length) (nI us) (nI ps.length) (nI (plen ps)) ba bo)) := get_set hm
  have f1 : ∀ a, a ≠ 195 → (H.set 195 (kO 12 (mfs 0 (nI li) 1 cw cl (nI l) rs (nI p) (nI ms.length) (nI us) (nI ps.length) (nI (plen ps)) ba bo)))[a]? = H[a]? := fun a ha => set_far ha
  show RQ _ _ _ 5 [(0, .ref 196), (1, .int (nI f)), (2, .int (nI off))] [] (H.set 195 (kO 12 (mfs 0 (nI li) 1 cw cl (nI l) rs (nI p) (nI ms.length) (nI us) (nI ps.length) (nI (plen ps)) ba bo))) 0 0 _
  generalize (H.set 195 (kO 12 (mfs 0 (nI li) 1 cw cl (nI l) rs (nI p) (nI ms.length) (nI us) (nI ps.length) (nI (plen ps)) ba bo))) = H1 at hm1 f1 ⊢
  have hV1 := hV.far (fun a a1 a2 => f1 a (by omega)) (f1 223 (by decide))
  have h51 := (f1 205 (by decide)).trans h5
  have h61 := (f1 206 (by decide)).trans h6
  have hR1 := hR.far (fun a a1 => f1 a (by omega))
  have hT1 := hT.far (fun a a1 a2 => f1 a (by omega))
  have hP1 := hP.far (fun a a1 a2 => f1 a (by omega))
  have h1961 := (f1 196 (by decide)).trans h196
  have h1971 := (f1 197 (by decide)).trans h197
  refine RQ.blk 3 (pc' := 10) (lv' := [(0, .ref 196), (1, .int (nI f)), (2, .int (nI off))]) (st' := [.int 201, .int (nI f), .ref 196]) (H' := _) (kc' := 0) (ks' := 0) rfl ?_
  refine RQ.call (v := some (.int 0)) (st' := []) rfl rfl rfl rfl rfl rfl (args_v [.int 201, .int (nI f)] [] rfl rfl (Nat.le_of_ble_eq_true rfl) rfl hm1 (Nat.le_of_ble_eq_true rfl)) (rc_out (v := f) (m := 201) (by omega) (by decide)) ?_
  refine RQ.brF rfl rfl rfl (by decide) ?_
  refine RQ.blk 1 (pc' := 17) (lv' := [(0, .ref 196), (1, .int (nI f)), (2, .int (nI off))]) (st' := [.ref 196]) (H' := _) (kc' := 0) (ks' := 0) rfl ?_
  refine RQ.get (ci := 12) rfl hm1 rfl rfl ?_
  refine RQ.blk 1 (pc' := 21) (lv' := [(0, .ref 196), (1, .int (nI f)), (2, .int (nI off))]) (st' := [.int 1, .int (nI l)]) (H' := _) (kc' := 0) (ks' := 0) rfl ?_
  refine RQ.brF rfl rfl rfl (cF_lt l 1) ?_
  refine RQ.blk 1 (pc' := 25) (lv' := [(0, .ref 196), (1, .int (nI f)), (2, .int (nI off))]) (st' := [.int (nI off)]) (H' := _) (kc' := 0) (ks' := 0) rfl ?_
  refine RQ.brF rfl rfl rfl (cF_lt off 0) ?_
  refine RQ.blk 3 (pc' := 33) (lv' := [(0, .ref 196), (1, .int (nI f)), (2, .int (nI off))]) (st' := [.ref 196, .int 16384, .int (nI off)]) (H' := _) (kc' := 0) (ks' := 0) rfl ?_
  refine RQ.get (ci := 12) rfl hm1 rfl rfl ?_
  refine RQ.blk 1 (pc' := 37) (lv' := [(0, .ref 196), (1, .int (nI f)), (2, .int (nI off))]) (st' := [.int (16384 - nI l), .int (nI off)]) (H' := _) (kc' := 0) (ks' := 0) rfl ?_
  rw [show (16384 - nI l : Int32) = nI (16384 - l) from pk_sub (a := 16384) (b := l) (by omega)]
  refine RQ.brT rfl rfl rfl (cT_le off (16384 - l)) ?_
  refine RQ.blk 1 (pc' := 47) (lv' := [(0, .ref 196), (1, .int (nI f)), (2, .int (nI off))]) (st' := [.ref 196]) (H' := _) (kc' := 0) (ks' := 0) rfl ?_
  refine RQ.get (ci := 12) rfl hm1 rfl rfl ?_
  refine RQ.brF rfl rfl rfl (by decide) ?_
  refine RQ.blk 2 (pc' := 55) (lv' := [(0, .ref 196), (1, .int (nI f)), (2, .int (nI off))]) (st' := [.int 2, .ref 196]) (H' := _) (kc' := 0) (ks' := 0) rfl ?_
  refine RQ.call (v := some (.int 0)) (st' := []) rfl rfl rfl rfl rfl rfl (args_v [.int 2] [] rfl rfl (Nat.le_of_ble_eq_true rfl) rfl hm1 (Nat.le_of_ble_eq_true rfl)) (rc_mfail hm1 rfl) ?_
  exact RQ.done (c := 0) (s := 0) rfl rfl rfl rfl ⟨_, _, rfl, rfl, ⟨us, ba, bo, get_set hm1, hV1.far (fun a a1 a2 => set_far (by omega)) (set_far (by decide)), (set_far (by decide)).trans h51, (set_far (by decide)).trans h61, hR1.far (fun a a1 => set_far (by omega)), hT1.far (fun a a1 a2 => set_far (by omega)), hP1.far (fun a a1 a2 => set_far (by omega)), (set_far (by decide)).trans h1961, (set_far (by decide)).trans h1971⟩, fun a ha => (set_far (by omega)).trans (f1 a (by omega))⟩
set_option maxRecDepth 20000 in
theorem ri_mwrite_no {sc : Nat × (Nat → Int32)} {d l : Nat} {H : aH} {fa cw cl rs : Int32} {li : Nat} {tb : Nat → Int8} {g0 : Nat → Int8} {p : Nat} {ms : List aMV} {op : Nat → Bool} {se : Nat → Nat} {wss : Nat → List aE} {kd pa sz nl : Nat → Nat} {nm : Nat → Int8} {ps : List aPc} {f off : Nat} (h : RefI H fa li 0 cw cl tb l rs g0 p ms op se wss kd pa sz nl nm ps) (hk : RefOk l p ms se kd pa sz nl ps) (hf : f ≤ 200) (hl1 : 1 ≤ l) (hol : off + l ≤ 16384) (hkd : ¬ kd f = 1) : RI sc (d + 5) mr_322 [.ref 196, .int (nI f), .int (nI off)] H (fun x H' => x = 0 ∧ RefI H' 3 li 0 cw cl tb 0 rs g0 p ms op se wss kd pa sz nl nm ps ∧ ∀ a, ¬ (195 ≤ a ∧ a < 224) → H'[a]? = H[a]?) := by
  obtain ⟨us, ba, bo, hm, hV, h5, h6, hR, hT, hP, h196, h197⟩ := h
  obtain ⟨k1, k2, k3, k4, k5, k6, k7, k8⟩ := hk
  refine RI.of ?_
  refine RQ.blk 2 (pc' := 2) (lv' := [(0, .ref 196), (1, .int (nI f)), (2, .int (nI off))]) (st' := [.int 0, .ref 196]) (H' := _) (kc' := 0) (ks' := 0) rfl ?_
  refine RQ.put (ci := 12) rfl hm rfl rfl (Nat.le_of_ble_eq_true rfl) ?_
  have hm1 : (H.set 195 (kO 12 (mfs 0 (nI li) 0 cw cl (nI l) rs (nI p) (nI ms.length) (nI us) (nI ps.length) (nI (plen ps)) ba bo)))[195]? = some (kO 12 (mfs 0 (nI li) 0 cw cl (nI l) rs (nI p) (nI ms.length) (nI us) (nI ps.length) (nI (plen ps)) ba bo)) := get_set hm
  have f1 : ∀ a, a ≠ 195 → (H.set 195 (kO 12 (mfs 0 (nI li) 0 cw cl (nI l) rs (nI p) (nI ms.length) (nI us) (nI ps.length) (nI (plen ps)) ba bo)))[a]? = H[a]? := fun a ha => set_far ha
  show RQ _ _ _ 5 [(0, .ref 196), (1, .int (nI f)), (2, .int (nI off))] [] (H.set 195 (kO 12 (mfs 0 (nI li) 0 cw cl (nI l) rs (nI p) (nI ms.length) (nI us) (nI ps.length) (nI (plen ps)) ba bo))) 0 0 _
  generalize (H.set 195 (kO 12 (mfs 0 (nI li) 0 cw cl (nI l) rs (nI p) (nI ms.length) (nI us) (nI ps.length) (nI (plen ps)) ba bo))) = H1 at hm1 f1 ⊢
  have hV1 := hV.far (fun a a1 a2 => f1 a (by omega)) (f1 223 (by decide))
  have h51 := (f1 205 (by decide)).trans h5
  have h61 := (f1 206 (by decide)).trans h6
  have hR1 := hR.far (fun a a1 => f1 a (by omega))
  have hT1 := hT.far (fun a a1 a2 => f1 a (by omega))
  have hP1 := hP.far (fun a a1 a2 => f1 a (by omega))
  have h1961 := (f1 196 (by decide)).trans h196
  have h1971 := (f1 197 (by decide)).trans h197
  have hkf := k5 f hf
  refine RQ.blk 3 (pc' := 10) (lv' := [(0, .ref 196), (1, .int (nI f)), (2, .int (nI off))]) (st' := [.int 201, .int (nI f), .ref 196]) (H' := _) (kc' := 0) (ks' := 0) rfl ?_
  refine RQ.call (v := some (.int 0)) (st' := []) rfl rfl rfl rfl rfl rfl (args_v [.int 201, .int (nI f)] [] rfl rfl (Nat.le_of_ble_eq_true rfl) rfl hm1 (Nat.le_of_ble_eq_true rfl)) (rc_out (v := f) (m := 201) (by omega) (by decide)) ?_
  refine RQ.brF rfl rfl rfl (by decide) ?_
  refine RQ.blk 1 (pc' := 17) (lv' := [(0, .ref 196), (1, .int (nI f)), (2, .int (nI off))]) (st' := [.ref 196]) (H' := _) (kc' := 0) (ks' := 0) rfl ?_
  refine RQ.get (ci := 12) rfl hm1 rfl rfl ?_
  refine RQ.blk 1 (pc' := 21) (lv' := [(0, .ref 196), (1, .int (nI f)), (2, .int (nI off))]) (st' := [.int 1, .int (nI l)]) (H' := _) (kc' := 0) (ks' := 0) rfl ?_
  refine RQ.brF rfl rfl rfl (cF_lt l 1) ?_
  refine RQ.blk 1 (pc' := 25) (lv' := [(0, .ref 196), (1, .int (nI f)), (2, .int (nI off))]) (st' := [.int (nI off)]) (H' := _) (kc' := 0) (ks' := 0) rfl ?_
  refine RQ.brF rfl rfl rfl (cF_lt off 0) ?_
  refine RQ.blk 3 (pc' := 33) (lv' := [(0, .ref 196), (1, .int (nI f)), (2, .int (nI off))]) (st' := [.ref 196, .int 16384, .int (nI off)]) (H' := _) (kc' := 0) (ks' := 0) rfl ?_
  refine RQ.get (ci := 12) rfl hm1 rfl rfl ?_
  refine RQ.blk 1 (pc' := 37) (lv' := [(0, .ref 196), (1, .int (nI f)), (2, .int (nI off))]) (st' := [.int (16384 - nI l), .int (nI off)]) (H' := _) (kc' := 0) (ks' := 0) rfl ?_
  rw [show (16384 - nI l : Int32) = nI (16384 - l) from pk_sub (a := 16384) (b := l) (by omega)]
  refine RQ.brT rfl rfl rfl (cT_le off (16384 - l)) ?_
  refine RQ.blk 1 (pc' := 47) (lv' := [(0, .ref 196), (1, .int (nI f)), (2, .int (nI off))]) (st' := [.ref 196]) (H' := _) (kc' := 0) (ks' := 0) rfl ?_
  refine RQ.get (ci := 12) rfl hm1 rfl rfl ?_
  refine RQ.brT rfl rfl rfl (by decide) ?_
  refine RQ.blk 1 (pc' := 60) (lv' := [(0, .ref 196), (1, .int (nI f)), (2, .int (nI off))]) (st' := [.ref 196]) (H' := _) (kc' := 0) (ks' := 0) rfl ?_
  refine RQ.get (ci := 12) rfl hm1 rfl rfl ?_
  refine RQ.blk 3 (pc' := 66) (lv' := [(3, .int (nI l)), (0, .ref 196), (1, .int (nI f)), (2, .int (nI off))]) (st' := [.int 0, .ref 196]) (H' := _) (kc' := 0) (ks' := 0) rfl ?_
  refine RQ.put (ci := 12) rfl hm1 rfl rfl (Nat.le_of_ble_eq_true rfl) ?_
  have hm2 : (H1.set 195 (kO 12 (mfs 0 (nI li) 0 cw cl (nI 0) rs (nI p) (nI ms.length) (nI us) (nI ps.length) (nI (plen ps)) ba bo)))[195]? = some (kO 12 (mfs 0 (nI li) 0 cw cl (nI 0) rs (nI p) (nI ms.length) (nI us) (nI ps.length) (nI (plen ps)) ba bo)) := get_set hm1
  have f2 : ∀ a, a ≠ 195 → (H1.set 195 (kO 12 (mfs 0 (nI li) 0 cw cl (nI 0) rs (nI p) (nI ms.length) (nI us) (nI ps.length) (nI (plen ps)) ba bo)))[a]? = H[a]? := fun a ha => (set_far ha).trans (f1 a ha)
  show RQ _ _ _ 69 [(3, .int (nI l)), (0, .ref 196), (1, .int (nI f)), (2, .int (nI off))] [] (H1.set 195 (kO 12 (mfs 0 (nI li) 0 cw cl (nI 0) rs (nI p) (nI ms.length) (nI us) (nI ps.length) (nI (plen ps)) ba bo))) 0 0 _
  generalize (H1.set 195 (kO 12 (mfs 0 (nI li) 0 cw cl (nI 0) rs (nI p) (nI ms.length) (nI us) (nI ps.length) (nI (plen ps)) ba bo))) = H2 at hm2 f2 ⊢
  clear hm1 f1 hV1 h51 h61 hR1 hT1 hP1 h1961 h1971
  have hm1 := hm2
  have f1 := f2
  clear hm2 f2
  have hV1 := hV.far (fun a a1 a2 => f1 a (by omega)) (f1 223 (by decide))
  have h51 := (f1 205 (by decide)).trans h5
  have h61 := (f1 206 (by decide)).trans h6
  have hR1 := hR.far (fun a a1 => f1 a (by omega))
  have hT1 := hT.far (fun a a1 a2 => f1 a (by omega))
  have hP1 := hP.far (fun a a1 a2 => f1 a (by omega))
  have h1961 := (f1 196 (by decide)).trans h196
  have h1971 := (f1 197 (by decide)).trans h197
  refine RQ.blk 1 (pc' := 70) (lv' := [(3, .int (nI l)), (0, .ref 196), (1, .int (nI f)), (2, .int (nI off))]) (st' := [.ref 196]) (H' := _) (kc' := 0) (ks' := 0) rfl ?_
  refine RQ.get (ci := 12) rfl hm1 rfl rfl ?_
  refine RQ.blk 1 (pc' := 74) (lv' := [(3, .int (nI l)), (0, .ref 196), (1, .int (nI f)), (2, .int (nI off))]) (st' := [.int (nI f), .ref 214]) (H' := _) (kc' := 0) (ks' := 0) rfl ?_
  refine RQ.ialdN (j := f) rfl hT1.1 (by omega) (by decide) ?_
  refine RQ.blk 1 (pc' := 76) (lv' := [(3, .int (nI l)), (0, .ref 196), (1, .int (nI f)), (2, .int (nI off))]) (st' := [.int 1, .int (nI (kd f))]) (H' := _) (kc' := 0) (ks' := 0) rfl ?_
  refine RQ.brF rfl rfl rfl (cF_eq (kd f) 1) ?_
  refine RQ.blk 2 (pc' := 81) (lv' := [(3, .int (nI l)), (0, .ref 196), (1, .int (nI f)), (2, .int (nI off))]) (st' := [.int 3, .ref 196]) (H' := _) (kc' := 0) (ks' := 0) rfl ?_
  refine RQ.call (v := some (.int 0)) (st' := []) rfl rfl rfl rfl rfl rfl (args_v [.int 3] [] rfl rfl (Nat.le_of_ble_eq_true rfl) rfl hm1 (Nat.le_of_ble_eq_true rfl)) (rc_mfail hm1 rfl) ?_
  exact RQ.done (c := 0) (s := 0) rfl rfl rfl rfl ⟨_, _, rfl, rfl, ⟨us, ba, bo, get_set hm1, hV1.far (fun a a1 a2 => set_far (by omega)) (set_far (by decide)), (set_far (by decide)).trans h51, (set_far (by decide)).trans h61, hR1.far (fun a a1 => set_far (by omega)), hT1.far (fun a a1 a2 => set_far (by omega)), hP1.far (fun a a1 a2 => set_far (by omega)), (set_far (by decide)).trans h1961, (set_far (by decide)).trans h1971⟩, fun a ha => (set_far (by omega)).trans (f1 a (by omega))⟩
set_option maxRecDepth 20000 in
theorem ri_mwrite_full {sc : Nat × (Nat → Int32)} {d l : Nat} {H : aH} {fa cw cl rs : Int32} {li : Nat} {tb : Nat → Int8} {g0 : Nat → Int8} {p : Nat} {ms : List aMV} {op : Nat → Bool} {se : Nat → Nat} {wss : Nat → List aE} {kd pa sz nl : Nat → Nat} {nm : Nat → Int8} {ps : List aPc} {f off : Nat} (h : RefI H fa li 0 cw cl tb l rs g0 p ms op se wss kd pa sz nl nm ps) (hk : RefOk l p ms se kd pa sz nl ps) (hf : f ≤ 200) (hl1 : 1 ≤ l) (hol : off + l ≤ 16384) (hkd : kd f = 1) (hli : li < 2 ^ 31) (hnd : (ndR op se (-1) p ms kd nl ps) + (grS ps f (off + l) (off / 512) ((off + l - 1) / 512 + 1 - off / 512)) < 2 ^ 31) (hfull : li < (ndR op se (-1) p ms kd nl ps) + (grS ps f (off + l) (off / 512) ((off + l - 1) / 512 + 1 - off / 512))) : RI sc (d + 5) mr_322 [.ref 196, .int (nI f), .int (nI off)] H (fun x H' => x = 0 ∧ RefI H' 4 li 0 cw cl tb 0 rs g0 p ms op se wss kd pa sz nl nm ps ∧ ∀ a, ¬ (195 ≤ a ∧ a < 224) → H'[a]? = H[a]?) := by
  obtain ⟨us, ba, bo, hm, hV, h5, h6, hR, hT, hP, h196, h197⟩ := h
  obtain ⟨k1, k2, k3, k4, k5, k6, k7, k8⟩ := hk
  refine RI.of ?_
  refine RQ.blk 2 (pc' := 2) (lv' := [(0, .ref 196), (1, .int (nI f)), (2, .int (nI off))]) (st' := [.int 0, .ref 196]) (H' := _) (kc' := 0) (ks' := 0) rfl ?_
  refine RQ.put (ci := 12) rfl hm rfl rfl (Nat.le_of_ble_eq_true rfl) ?_
  have hm1 : (H.set 195 (kO 12 (mfs 0 (nI li) 0 cw cl (nI l) rs (nI p) (nI ms.length) (nI us) (nI ps.length) (nI (plen ps)) ba bo)))[195]? = some (kO 12 (mfs 0 (nI li) 0 cw cl (nI l) rs (nI p) (nI ms.length) (nI us) (nI ps.length) (nI (plen ps)) ba bo)) := get_set hm
  have f1 : ∀ a, a ≠ 195 → (H.set 195 (kO 12 (mfs 0 (nI li) 0 cw cl (nI l) rs (nI p) (nI ms.length) (nI us) (nI ps.length) (nI (plen ps)) ba bo)))[a]? = H[a]? := fun a ha => set_far ha
  show RQ _ _ _ 5 [(0, .ref 196), (1, .int (nI f)), (2, .int (nI off))] [] (H.set 195 (kO 12 (mfs 0 (nI li) 0 cw cl (nI l) rs (nI p) (nI ms.length) (nI us) (nI ps.length) (nI (plen ps)) ba bo))) 0 0 _
  generalize (H.set 195 (kO 12 (mfs 0 (nI li) 0 cw cl (nI l) rs (nI p) (nI ms.length) (nI us) (nI ps.length) (nI (plen ps)) ba bo))) = H1 at hm1 f1 ⊢
  have hV1 := hV.far (fun a a1 a2 => f1 a (by omega)) (f1 223 (by decide))
  have h51 := (f1 205 (by decide)).trans h5
  have h61 := (f1 206 (by decide)).trans h6
  have hR1 := hR.far (fun a a1 => f1 a (by omega))
  have hT1 := hT.far (fun a a1 a2 => f1 a (by omega))
  have hP1 := hP.far (fun a a1 a2 => f1 a (by omega))
  have h1961 := (f1 196 (by decide)).trans h196
  have h1971 := (f1 197 (by decide)).trans h197
  have hkf := k5 f hf
  refine RQ.blk 3 (pc' := 10) (lv' := [(0, .ref 196), (1, .int (nI f)), (2, .int (nI off))]) (st' := [.int 201, .int (nI f), .ref 196]) (H' := _) (kc' := 0) (ks' := 0) rfl ?_
  refine RQ.call (v := some (.int 0)) (st' := []) rfl rfl rfl rfl rfl rfl (args_v [.int 201, .int (nI f)] [] rfl rfl (Nat.le_of_ble_eq_true rfl) rfl hm1 (Nat.le_of_ble_eq_true rfl)) (rc_out (v := f) (m := 201) (by omega) (by decide)) ?_
  refine RQ.brF rfl rfl rfl (by decide) ?_
  refine RQ.blk 1 (pc' := 17) (lv' := [(0, .ref 196), (1, .int (nI f)), (2, .int (nI off))]) (st' := [.ref 196]) (H' := _) (kc' := 0) (ks' := 0) rfl ?_
  refine RQ.get (ci := 12) rfl hm1 rfl rfl ?_
  refine RQ.blk 1 (pc' := 21) (lv' := [(0, .ref 196), (1, .int (nI f)), (2, .int (nI off))]) (st' := [.int 1, .int (nI l)]) (H' := _) (kc' := 0) (ks' := 0) rfl ?_
  refine RQ.brF rfl rfl rfl (cF_lt l 1) ?_
  refine RQ.blk 1 (pc' := 25) (lv' := [(0, .ref 196), (1, .int (nI f)), (2, .int (nI off))]) (st' := [.int (nI off)]) (H' := _) (kc' := 0) (ks' := 0) rfl ?_
  refine RQ.brF rfl rfl rfl (cF_lt off 0) ?_
  refine RQ.blk 3 (pc' := 33) (lv' := [(0, .ref 196), (1, .int (nI f)), (2, .int (nI off))]) (st' := [.ref 196, .int 16384, .int (nI off)]) (H' := _) (kc' := 0) (ks' := 0) rfl ?_
  refine RQ.get (ci := 12) rfl hm1 rfl rfl ?_
  refine RQ.blk 1 (pc' := 37) (lv' := [(0, .ref 196), (1, .int (nI f)), (2, .int (nI off))]) (st' := [.int (16384 - nI l), .int (nI off)]) (H' := _) (kc' := 0) (ks' := 0) rfl ?_
  rw [show (16384 - nI l : Int32) = nI (16384 - l) from pk_sub (a := 16384) (b := l) (by omega)]
  refine RQ.brT rfl rfl rfl (cT_le off (16384 - l)) ?_
  refine RQ.blk 1 (pc' := 47) (lv' := [(0, .ref 196), (1, .int (nI f)), (2, .int (nI off))]) (st' := [.ref 196]) (H' := _) (kc' := 0) (ks' := 0) rfl ?_
  refine RQ.get (ci := 12) rfl hm1 rfl rfl ?_
  refine RQ.brT rfl rfl rfl (by decide) ?_
  refine RQ.blk 1 (pc' := 60) (lv' := [(0, .ref 196), (1, .int (nI f)), (2, .int (nI off))]) (st' := [.ref 196]) (H' := _) (kc' := 0) (ks' := 0) rfl ?_
  refine RQ.get (ci := 12) rfl hm1 rfl rfl ?_
  refine RQ.blk 3 (pc' := 66) (lv' := [(3, .int (nI l)), (0, .ref 196), (1, .int (nI f)), (2, .int (nI off))]) (st' := [.int 0, .ref 196]) (H' := _) (kc' := 0) (ks' := 0) rfl ?_
  refine RQ.put (ci := 12) rfl hm1 rfl rfl (Nat.le_of_ble_eq_true rfl) ?_
  have hm2 : (H1.set 195 (kO 12 (mfs 0 (nI li) 0 cw cl (nI 0) rs (nI p) (nI ms.length) (nI us) (nI ps.length) (nI (plen ps)) ba bo)))[195]? = some (kO 12 (mfs 0 (nI li) 0 cw cl (nI 0) rs (nI p) (nI ms.length) (nI us) (nI ps.length) (nI (plen ps)) ba bo)) := get_set hm1
  have f2 : ∀ a, a ≠ 195 → (H1.set 195 (kO 12 (mfs 0 (nI li) 0 cw cl (nI 0) rs (nI p) (nI ms.length) (nI us) (nI ps.length) (nI (plen ps)) ba bo)))[a]? = H[a]? := fun a ha => (set_far ha).trans (f1 a ha)
  show RQ _ _ _ 69 [(3, .int (nI l)), (0, .ref 196), (1, .int (nI f)), (2, .int (nI off))] [] (H1.set 195 (kO 12 (mfs 0 (nI li) 0 cw cl (nI 0) rs (nI p) (nI ms.length) (nI us) (nI ps.length) (nI (plen ps)) ba bo))) 0 0 _
  generalize (H1.set 195 (kO 12 (mfs 0 (nI li) 0 cw cl (nI 0) rs (nI p) (nI ms.length) (nI us) (nI ps.length) (nI (plen ps)) ba bo))) = H2 at hm2 f2 ⊢
  clear hm1 f1 hV1 h51 h61 hR1 hT1 hP1 h1961 h1971
  have hm1 := hm2
  have f1 := f2
  clear hm2 f2
  have hV1 := hV.far (fun a a1 a2 => f1 a (by omega)) (f1 223 (by decide))
  have h51 := (f1 205 (by decide)).trans h5
  have h61 := (f1 206 (by decide)).trans h6
  have hR1 := hR.far (fun a a1 => f1 a (by omega))
  have hT1 := hT.far (fun a a1 a2 => f1 a (by omega))
  have hP1 := hP.far (fun a a1 a2 => f1 a (by omega))
  have h1961 := (f1 196 (by decide)).trans h196
  have h1971 := (f1 197 (by decide)).trans h197
  refine RQ.blk 1 (pc' := 70) (lv' := [(3, .int (nI l)), (0, .ref 196), (1, .int (nI f)), (2, .int (nI off))]) (st' := [.ref 196]) (H' := _) (kc' := 0) (ks' := 0) rfl ?_
  refine RQ.get (ci := 12) rfl hm1 rfl rfl ?_
  refine RQ.blk 1 (pc' := 74) (lv' := [(3, .int (nI l)), (0, .ref 196), (1, .int (nI f)), (2, .int (nI off))]) (st' := [.int (nI f), .ref 214]) (H' := _) (kc' := 0) (ks' := 0) rfl ?_
  refine RQ.ialdN (j := f) rfl hT1.1 (by omega) (by decide) ?_
  rw [hkd]
  refine RQ.blk 1 (pc' := 76) (lv' := [(3, .int (nI l)), (0, .ref 196), (1, .int (nI f)), (2, .int (nI off))]) (st' := [.int 1, .int (nI 1)]) (H' := _) (kc' := 0) (ks' := 0) rfl ?_
  refine RQ.brT rfl rfl rfl (cT_eq 1 1) ?_
  refine RQ.blk 2 (pc' := 87) (lv' := [(3, .int (nI l)), (0, .ref 196), (1, .int (nI f)), (2, .int (nI off))]) (st' := [.int (-1), .ref 196]) (H' := _) (kc' := 0) (ks' := 0) rfl ?_
  refine RQ.call (v := some (.int (nI (ndR op se (-1) p ms kd nl ps)))) (st' := []) rfl rfl rfl rfl rfl rfl (args_v [.int (-1)] [] rfl rfl (Nat.le_of_ble_eq_true rfl) rfl hm1 (Nat.le_of_ble_eq_true rfl)) (rc_mneedR (x := -1) hm1 hV1 k3 h51 h61 k4 hT1 k5 hP1 k6 (by omega)) ?_
  refine RQ.blk 4 (pc' := 94) (lv' := [(3, .int (nI l)), (0, .ref 196), (1, .int (nI f)), (2, .int (nI off))]) (st' := [.int (nI l), .int (nI off), .int (nI f), .ref 196, .int (nI (ndR op se (-1) p ms kd nl ps))]) (H' := _) (kc' := 0) (ks' := 0) rfl ?_
  refine RQ.call (v := some (.int (nI (grS ps f (off + l) (off / 512) ((off + l - 1) / 512 + 1 - off / 512))))) (st' := [.int (nI (ndR op se (-1) p ms kd nl ps))]) rfl rfl rfl rfl rfl rfl (args_v [.int (nI l), .int (nI off), .int (nI f)] [.int (nI (ndR op se (-1) p ms kd nl ps))] rfl rfl (Nat.le_of_ble_eq_true rfl) rfl hm1 (Nat.le_of_ble_eq_true rfl)) (rc_growth hm1 hP1 k6 k7 k8 hf hol hl1) ?_
  refine RQ.blk 1 (pc' := 98) (lv' := [(3, .int (nI l)), (0, .ref 196), (1, .int (nI f)), (2, .int (nI off))]) (st' := [.int (nI (ndR op se (-1) p ms kd nl ps) + nI (grS ps f (off + l) (off / 512) ((off + l - 1) / 512 + 1 - off / 512)))]) (H' := _) (kc' := 0) (ks' := 0) rfl ?_
  rw [show (nI (ndR op se (-1) p ms kd nl ps) + nI (grS ps f (off + l) (off / 512) ((off + l - 1) / 512 + 1 - off / 512)) : Int32) = nI (ndR op se (-1) p ms kd nl ps + (grS ps f (off + l) (off / 512) ((off + l - 1) / 512 + 1 - off / 512))) from nI_add (ndR op se (-1) p ms kd nl ps) (grS ps f (off + l) (off / 512) ((off + l - 1) / 512 + 1 - off / 512))]
  refine RQ.blk 1 (pc' := 99) (lv' := [(3, .int (nI l)), (0, .ref 196), (1, .int (nI f)), (2, .int (nI off))]) (st' := [.ref 196, .int (nI (ndR op se (-1) p ms kd nl ps + (grS ps f (off + l) (off / 512) ((off + l - 1) / 512 + 1 - off / 512))))]) (H' := _) (kc' := 0) (ks' := 0) rfl ?_
  refine RQ.get (ci := 12) rfl hm1 rfl rfl ?_
  refine RQ.brF rfl rfl rfl (cF_le ((ndR op se (-1) p ms kd nl ps) + (grS ps f (off + l) (off / 512) ((off + l - 1) / 512 + 1 - off / 512))) li) ?_
  refine RQ.blk 2 (pc' := 107) (lv' := [(3, .int (nI l)), (0, .ref 196), (1, .int (nI f)), (2, .int (nI off))]) (st' := [.int 4, .ref 196]) (H' := _) (kc' := 0) (ks' := 0) rfl ?_
  refine RQ.call (v := some (.int 0)) (st' := []) rfl rfl rfl rfl rfl rfl (args_v [.int 4] [] rfl rfl (Nat.le_of_ble_eq_true rfl) rfl hm1 (Nat.le_of_ble_eq_true rfl)) (rc_mfail hm1 rfl) ?_
  exact RQ.done (c := 0) (s := 0) rfl rfl rfl rfl ⟨_, _, rfl, rfl, ⟨us, ba, bo, get_set hm1, hV1.far (fun a a1 a2 => set_far (by omega)) (set_far (by decide)), (set_far (by decide)).trans h51, (set_far (by decide)).trans h61, hR1.far (fun a a1 => set_far (by omega)), hT1.far (fun a a1 a2 => set_far (by omega)), hP1.far (fun a a1 a2 => set_far (by omega)), (set_far (by decide)).trans h1961, (set_far (by decide)).trans h1971⟩, fun a ha => (set_far (by omega)).trans (f1 a (by omega))⟩
set_option maxRecDepth 20000 in
theorem ri_mwrite_lost {sc : Nat × (Nat → Int32)} {d l : Nat} {H : aH} {fa rs : Int32} {li : Nat} {tb : Nat → Int8} {g0 : Nat → Int8} {p : Nat} {ms : List aMV} {op : Nat → Bool} {se : Nat → Nat} {wss : Nat → List aE} {kd pa sz nl : Nat → Nat} {nm : Nat → Int8} {ps : List aPc} {f off : Nat} (h : RefI H fa li 0 1 0 tb l rs g0 p ms op se wss kd pa sz nl nm ps) (hk : RefOk l p ms se kd pa sz nl ps) (hf : f ≤ 200) (hl1 : 1 ≤ l) (hol : off + l ≤ 16384) (hkd : kd f = 1) (hli : li < 2 ^ 31) (hnd : (ndR op se (-1) p ms kd nl ps) + (grS ps f (off + l) (off / 512) ((off + l - 1) / 512 + 1 - off / 512)) < 2 ^ 31) (hfits : (ndR op se (-1) p ms kd nl ps) + (grS ps f (off + l) (off / 512) ((off + l - 1) / 512 + 1 - off / 512)) ≤ li) : RI sc (d + 5) mr_322 [.ref 196, .int (nI f), .int (nI off)] H (fun x H' => x = 0 ∧ RefI H' 2 li 1 0 0 tb 0 0 g0 p (ms.filter (keepM (fun j => if j < 8 then false else op j) se p (kmM ms))) (fun j => if j < 8 then false else op j) se wss kd pa sz nl nm ps ∧ ∀ a, ¬ (195 ≤ a ∧ a < 224) → H'[a]? = H[a]?) := by
  obtain ⟨us, ba, bo, hm, hV, h5, h6, hR, hT, hP, h196, h197⟩ := h
  obtain ⟨k1, k2, k3, k4, k5, k6, k7, k8⟩ := hk
  refine RI.of ?_
  refine RQ.blk 2 (pc' := 2) (lv' := [(0, .ref 196), (1, .int (nI f)), (2, .int (nI off))]) (st' := [.int 0, .ref 196]) (H' := _) (kc' := 0) (ks' := 0) rfl ?_
  refine RQ.put (ci := 12) rfl hm rfl rfl (Nat.le_of_ble_eq_true rfl) ?_
  have hm1 : (H.set 195 (kO 12 (mfs 0 (nI li) 0 1 0 (nI l) rs (nI p) (nI ms.length) (nI us) (nI ps.length) (nI (plen ps)) ba bo)))[195]? = some (kO 12 (mfs 0 (nI li) 0 1 0 (nI l) rs (nI p) (nI ms.length) (nI us) (nI ps.length) (nI (plen ps)) ba bo)) := get_set hm
  have f1 : ∀ a, a ≠ 195 → (H.set 195 (kO 12 (mfs 0 (nI li) 0 1 0 (nI l) rs (nI p) (nI ms.length) (nI us) (nI ps.length) (nI (plen ps)) ba bo)))[a]? = H[a]? := fun a ha => set_far ha
  show RQ _ _ _ 5 [(0, .ref 196), (1, .int (nI f)), (2, .int (nI off))] [] (H.set 195 (kO 12 (mfs 0 (nI li) 0 1 0 (nI l) rs (nI p) (nI ms.length) (nI us) (nI ps.length) (nI (plen ps)) ba bo))) 0 0 _
  generalize (H.set 195 (kO 12 (mfs 0 (nI li) 0 1 0 (nI l) rs (nI p) (nI ms.length) (nI us) (nI ps.length) (nI (plen ps)) ba bo))) = H1 at hm1 f1 ⊢
  have hV1 := hV.far (fun a a1 a2 => f1 a (by omega)) (f1 223 (by decide))
  have h51 := (f1 205 (by decide)).trans h5
  have h61 := (f1 206 (by decide)).trans h6
  have hR1 := hR.far (fun a a1 => f1 a (by omega))
  have hT1 := hT.far (fun a a1 a2 => f1 a (by omega))
  have hP1 := hP.far (fun a a1 a2 => f1 a (by omega))
  have h1961 := (f1 196 (by decide)).trans h196
  have h1971 := (f1 197 (by decide)).trans h197
  have hkf := k5 f hf
  refine RQ.blk 3 (pc' := 10) (lv' := [(0, .ref 196), (1, .int (nI f)), (2, .int (nI off))]) (st' := [.int 201, .int (nI f), .ref 196]) (H' := _) (kc' := 0) (ks' := 0) rfl ?_
  refine RQ.call (v := some (.int 0)) (st' := []) rfl rfl rfl rfl rfl rfl (args_v [.int 201, .int (nI f)] [] rfl rfl (Nat.le_of_ble_eq_true rfl) rfl hm1 (Nat.le_of_ble_eq_true rfl)) (rc_out (v := f) (m := 201) (by omega) (by decide)) ?_
  refine RQ.brF rfl rfl rfl (by decide) ?_
  refine RQ.blk 1 (pc' := 17) (lv' := [(0, .ref 196), (1, .int (nI f)), (2, .int (nI off))]) (st' := [.ref 196]) (H' := _) (kc' := 0) (ks' := 0) rfl ?_
  refine RQ.get (ci := 12) rfl hm1 rfl rfl ?_
  refine RQ.blk 1 (pc' := 21) (lv' := [(0, .ref 196), (1, .int (nI f)), (2, .int (nI off))]) (st' := [.int 1, .int (nI l)]) (H' := _) (kc' := 0) (ks' := 0) rfl ?_
  refine RQ.brF rfl rfl rfl (cF_lt l 1) ?_
  refine RQ.blk 1 (pc' := 25) (lv' := [(0, .ref 196), (1, .int (nI f)), (2, .int (nI off))]) (st' := [.int (nI off)]) (H' := _) (kc' := 0) (ks' := 0) rfl ?_
  refine RQ.brF rfl rfl rfl (cF_lt off 0) ?_
  refine RQ.blk 3 (pc' := 33) (lv' := [(0, .ref 196), (1, .int (nI f)), (2, .int (nI off))]) (st' := [.ref 196, .int 16384, .int (nI off)]) (H' := _) (kc' := 0) (ks' := 0) rfl ?_
  refine RQ.get (ci := 12) rfl hm1 rfl rfl ?_
  refine RQ.blk 1 (pc' := 37) (lv' := [(0, .ref 196), (1, .int (nI f)), (2, .int (nI off))]) (st' := [.int (16384 - nI l), .int (nI off)]) (H' := _) (kc' := 0) (ks' := 0) rfl ?_
  rw [show (16384 - nI l : Int32) = nI (16384 - l) from pk_sub (a := 16384) (b := l) (by omega)]
  refine RQ.brT rfl rfl rfl (cT_le off (16384 - l)) ?_
  refine RQ.blk 1 (pc' := 47) (lv' := [(0, .ref 196), (1, .int (nI f)), (2, .int (nI off))]) (st' := [.ref 196]) (H' := _) (kc' := 0) (ks' := 0) rfl ?_
  refine RQ.get (ci := 12) rfl hm1 rfl rfl ?_
  refine RQ.brT rfl rfl rfl (by decide) ?_
  refine RQ.blk 1 (pc' := 60) (lv' := [(0, .ref 196), (1, .int (nI f)), (2, .int (nI off))]) (st' := [.ref 196]) (H' := _) (kc' := 0) (ks' := 0) rfl ?_
  refine RQ.get (ci := 12) rfl hm1 rfl rfl ?_
  refine RQ.blk 3 (pc' := 66) (lv' := [(3, .int (nI l)), (0, .ref 196), (1, .int (nI f)), (2, .int (nI off))]) (st' := [.int 0, .ref 196]) (H' := _) (kc' := 0) (ks' := 0) rfl ?_
  refine RQ.put (ci := 12) rfl hm1 rfl rfl (Nat.le_of_ble_eq_true rfl) ?_
  have hm2 : (H1.set 195 (kO 12 (mfs 0 (nI li) 0 1 0 (nI 0) rs (nI p) (nI ms.length) (nI us) (nI ps.length) (nI (plen ps)) ba bo)))[195]? = some (kO 12 (mfs 0 (nI li) 0 1 0 (nI 0) rs (nI p) (nI ms.length) (nI us) (nI ps.length) (nI (plen ps)) ba bo)) := get_set hm1
  have f2 : ∀ a, a ≠ 195 → (H1.set 195 (kO 12 (mfs 0 (nI li) 0 1 0 (nI 0) rs (nI p) (nI ms.length) (nI us) (nI ps.length) (nI (plen ps)) ba bo)))[a]? = H[a]? := fun a ha => (set_far ha).trans (f1 a ha)
  show RQ _ _ _ 69 [(3, .int (nI l)), (0, .ref 196), (1, .int (nI f)), (2, .int (nI off))] [] (H1.set 195 (kO 12 (mfs 0 (nI li) 0 1 0 (nI 0) rs (nI p) (nI ms.length) (nI us) (nI ps.length) (nI (plen ps)) ba bo))) 0 0 _
  generalize (H1.set 195 (kO 12 (mfs 0 (nI li) 0 1 0 (nI 0) rs (nI p) (nI ms.length) (nI us) (nI ps.length) (nI (plen ps)) ba bo))) = H2 at hm2 f2 ⊢
  clear hm1 f1 hV1 h51 h61 hR1 hT1 hP1 h1961 h1971
  have hm1 := hm2
  have f1 := f2
  clear hm2 f2
  have hV1 := hV.far (fun a a1 a2 => f1 a (by omega)) (f1 223 (by decide))
  have h51 := (f1 205 (by decide)).trans h5
  have h61 := (f1 206 (by decide)).trans h6
  have hR1 := hR.far (fun a a1 => f1 a (by omega))
  have hT1 := hT.far (fun a a1 a2 => f1 a (by omega))
  have hP1 := hP.far (fun a a1 a2 => f1 a (by omega))
  have h1961 := (f1 196 (by decide)).trans h196
  have h1971 := (f1 197 (by decide)).trans h197
  refine RQ.blk 1 (pc' := 70) (lv' := [(3, .int (nI l)), (0, .ref 196), (1, .int (nI f)), (2, .int (nI off))]) (st' := [.ref 196]) (H' := _) (kc' := 0) (ks' := 0) rfl ?_
  refine RQ.get (ci := 12) rfl hm1 rfl rfl ?_
  refine RQ.blk 1 (pc' := 74) (lv' := [(3, .int (nI l)), (0, .ref 196), (1, .int (nI f)), (2, .int (nI off))]) (st' := [.int (nI f), .ref 214]) (H' := _) (kc' := 0) (ks' := 0) rfl ?_
  refine RQ.ialdN (j := f) rfl hT1.1 (by omega) (by decide) ?_
  rw [hkd]
  refine RQ.blk 1 (pc' := 76) (lv' := [(3, .int (nI l)), (0, .ref 196), (1, .int (nI f)), (2, .int (nI off))]) (st' := [.int 1, .int (nI 1)]) (H' := _) (kc' := 0) (ks' := 0) rfl ?_
  refine RQ.brT rfl rfl rfl (cT_eq 1 1) ?_
  refine RQ.blk 2 (pc' := 87) (lv' := [(3, .int (nI l)), (0, .ref 196), (1, .int (nI f)), (2, .int (nI off))]) (st' := [.int (-1), .ref 196]) (H' := _) (kc' := 0) (ks' := 0) rfl ?_
  refine RQ.call (v := some (.int (nI (ndR op se (-1) p ms kd nl ps)))) (st' := []) rfl rfl rfl rfl rfl rfl (args_v [.int (-1)] [] rfl rfl (Nat.le_of_ble_eq_true rfl) rfl hm1 (Nat.le_of_ble_eq_true rfl)) (rc_mneedR (x := -1) hm1 hV1 k3 h51 h61 k4 hT1 k5 hP1 k6 (by omega)) ?_
  refine RQ.blk 4 (pc' := 94) (lv' := [(3, .int (nI l)), (0, .ref 196), (1, .int (nI f)), (2, .int (nI off))]) (st' := [.int (nI l), .int (nI off), .int (nI f), .ref 196, .int (nI (ndR op se (-1) p ms kd nl ps))]) (H' := _) (kc' := 0) (ks' := 0) rfl ?_
  refine RQ.call (v := some (.int (nI (grS ps f (off + l) (off / 512) ((off + l - 1) / 512 + 1 - off / 512))))) (st' := [.int (nI (ndR op se (-1) p ms kd nl ps))]) rfl rfl rfl rfl rfl rfl (args_v [.int (nI l), .int (nI off), .int (nI f)] [.int (nI (ndR op se (-1) p ms kd nl ps))] rfl rfl (Nat.le_of_ble_eq_true rfl) rfl hm1 (Nat.le_of_ble_eq_true rfl)) (rc_growth hm1 hP1 k6 k7 k8 hf hol hl1) ?_
  refine RQ.blk 1 (pc' := 98) (lv' := [(3, .int (nI l)), (0, .ref 196), (1, .int (nI f)), (2, .int (nI off))]) (st' := [.int (nI (ndR op se (-1) p ms kd nl ps) + nI (grS ps f (off + l) (off / 512) ((off + l - 1) / 512 + 1 - off / 512)))]) (H' := _) (kc' := 0) (ks' := 0) rfl ?_
  rw [show (nI (ndR op se (-1) p ms kd nl ps) + nI (grS ps f (off + l) (off / 512) ((off + l - 1) / 512 + 1 - off / 512)) : Int32) = nI (ndR op se (-1) p ms kd nl ps + (grS ps f (off + l) (off / 512) ((off + l - 1) / 512 + 1 - off / 512))) from nI_add (ndR op se (-1) p ms kd nl ps) (grS ps f (off + l) (off / 512) ((off + l - 1) / 512 + 1 - off / 512))]
  refine RQ.blk 1 (pc' := 99) (lv' := [(3, .int (nI l)), (0, .ref 196), (1, .int (nI f)), (2, .int (nI off))]) (st' := [.ref 196, .int (nI (ndR op se (-1) p ms kd nl ps + (grS ps f (off + l) (off / 512) ((off + l - 1) / 512 + 1 - off / 512))))]) (H' := _) (kc' := 0) (ks' := 0) rfl ?_
  refine RQ.get (ci := 12) rfl hm1 rfl rfl ?_
  refine RQ.brT rfl rfl rfl (cT_le ((ndR op se (-1) p ms kd nl ps) + (grS ps f (off + l) (off / 512) ((off + l - 1) / 512 + 1 - off / 512))) li) ?_
  refine RQ.blk 2 (pc' := 113) (lv' := [(3, .int (nI l)), (0, .ref 196), (1, .int (nI f)), (2, .int (nI off))]) (st' := [.int 2, .ref 196]) (H' := _) (kc' := 0) (ks' := 0) rfl ?_
  refine RQ.callI (st' := []) rfl rfl rfl rfl rfl rfl (args_v [.int 2] [] rfl rfl (Nat.le_of_ble_eq_true rfl) rfl hm1 (Nat.le_of_ble_eq_true rfl)) (ri_mlost1 (x := 2) hm1 h51) (fun y H2 hy => ?_)
  obtain ⟨ey, hm2, h52, f2⟩ := hy
  rw [ey]
  refine RQ.brF rfl rfl rfl (by decide) ?_
  refine RQ.blk 1 (pc' := 120) (lv' := [(3, .int (nI l)), (0, .ref 196), (1, .int (nI f)), (2, .int (nI off))]) (st' := [.ref 196]) (H' := _) (kc' := 0) (ks' := 0) rfl ?_
  have g2 : ∀ a, a ≠ 195 → a ≠ 205 → H2[a]? = H[a]? := fun a a1 a2 => (f2 a a1 a2).trans (f1 a a1)
  refine RQ.callN (st' := []) rfl rfl rfl rfl rfl rfl (args_v [] [] rfl rfl (Nat.le_of_ble_eq_true rfl) rfl hm2 (Nat.le_of_ble_eq_true rfl)) (rn_pruneL (op := (fun j => if j < 8 then false else op j)) hm2 (hV.far (fun a a1 a2 => g2 a (by omega) (by omega)) (g2 223 (by decide) (by decide))) k3 h52 ((g2 206 (by decide) (by decide)).trans h6) k4 (by omega)) (fun H3 hz => ?_)
  obtain ⟨us', hm3, hV3, f3⟩ := hz
  refine RQ.blk 1 (pc' := 124) (lv' := [(3, .int (nI l)), (0, .ref 196), (1, .int (nI f)), (2, .int (nI off))]) (st' := [.int 0]) (H' := _) (kc' := 0) (ks' := 0) rfl ?_
  have g3 : ∀ a, ¬ (195 ≤ a ∧ a ≤ 205 ∧ a ≠ 196 ∧ a ≠ 197 ∨ a = 223) → H3[a]? = H[a]? := fun a ha => (f3 a (by omega)).trans (g2 a (by omega) (by omega))
  exact RQ.done (c := 0) (s := 0) rfl rfl rfl rfl ⟨_, _, rfl, rfl, ⟨us', bo, ba, hm3, hV3, (f3 205 (by omega)).trans h52, (g3 206 (by omega)).trans h6, hR.far (fun a a1 => g3 a (by omega)), hT.far (fun a a1 a2 => g3 a (by omega)), hP.far (fun a a1 a2 => g3 a (by omega)), (g3 196 (by omega)).trans h196, (g3 197 (by omega)).trans h197⟩, fun a ha => g3 a (by omega)⟩
set_option maxRecDepth 20000 in
theorem ri_mwrite_ok {sc : Nat × (Nat → Int32)} {d l : Nat} {H : aH} {fa cl rs : Int32} {li : Nat} {tb : Nat → Int8} {g0 : Nat → Int8} {p : Nat} {ms : List aMV} {op : Nat → Bool} {se : Nat → Nat} {wss : Nat → List aE} {kd pa sz nl : Nat → Nat} {nm : Nat → Int8} {ps : List aPc} {f off : Nat} (h : RefI H fa li 0 0 cl tb l rs g0 p ms op se wss kd pa sz nl nm ps) (hk : RefOk l p ms se kd pa sz nl ps) (hf : f ≤ 200) (hl1 : 1 ≤ l) (hol : off + l ≤ 16384) (hkd : kd f = 1) (hli : li < 2 ^ 31) (hnd : (ndR op se (-1) p ms kd nl ps) + (grS ps f (off + l) (off / 512) ((off + l - 1) / 512 + 1 - off / 512)) < 2 ^ 31) (hfits : (ndR op se (-1) p ms kd nl ps) + (grS ps f (off + l) (off / 512) ((off + l - 1) / 512 + 1 - off / 512)) ≤ li) (hroom : ∀ m, m ≤ ((off + l - 1) / 512 + 1 - off / 512) → (layN tb f off (off + l) ps m).length ≤ 1300 ∧ plen (layN tb f off (off + l) ps m) ≤ 40000) : RI sc (d + 5) mr_322 [.ref 196, .int (nI f), .int (nI off)] H (fun x H' => x = nI (max (sz f) (off + l)) ∧ RefI H' 0 li 0 0 cl tb 0 rs g0 (p + 1) ms op se wss kd pa (va_up sz f (max (sz f) (off + l))) nl nm (layN tb f off (off + l) ps ((off + l - 1) / 512 + 1 - off / 512)) ∧ ∀ a, ¬ (195 ≤ a ∧ a < 224) → H'[a]? = H[a]?) := by
  obtain ⟨us, ba, bo, hm, hV, h5, h6, hR, hT, hP, h196, h197⟩ := h
  obtain ⟨k1, k2, k3, k4, k5, k6, k7, k8⟩ := hk
  refine RI.of ?_
  refine RQ.blk 2 (pc' := 2) (lv' := [(0, .ref 196), (1, .int (nI f)), (2, .int (nI off))]) (st' := [.int 0, .ref 196]) (H' := _) (kc' := 0) (ks' := 0) rfl ?_
  refine RQ.put (ci := 12) rfl hm rfl rfl (Nat.le_of_ble_eq_true rfl) ?_
  have hm1 : (H.set 195 (kO 12 (mfs 0 (nI li) 0 0 cl (nI l) rs (nI p) (nI ms.length) (nI us) (nI ps.length) (nI (plen ps)) ba bo)))[195]? = some (kO 12 (mfs 0 (nI li) 0 0 cl (nI l) rs (nI p) (nI ms.length) (nI us) (nI ps.length) (nI (plen ps)) ba bo)) := get_set hm
  have f1 : ∀ a, a ≠ 195 → (H.set 195 (kO 12 (mfs 0 (nI li) 0 0 cl (nI l) rs (nI p) (nI ms.length) (nI us) (nI ps.length) (nI (plen ps)) ba bo)))[a]? = H[a]? := fun a ha => set_far ha
  show RQ _ _ _ 5 [(0, .ref 196), (1, .int (nI f)), (2, .int (nI off))] [] (H.set 195 (kO 12 (mfs 0 (nI li) 0 0 cl (nI l) rs (nI p) (nI ms.length) (nI us) (nI ps.length) (nI (plen ps)) ba bo))) 0 0 _
  generalize (H.set 195 (kO 12 (mfs 0 (nI li) 0 0 cl (nI l) rs (nI p) (nI ms.length) (nI us) (nI ps.length) (nI (plen ps)) ba bo))) = H1 at hm1 f1 ⊢
  have hV1 := hV.far (fun a a1 a2 => f1 a (by omega)) (f1 223 (by decide))
  have h51 := (f1 205 (by decide)).trans h5
  have h61 := (f1 206 (by decide)).trans h6
  have hR1 := hR.far (fun a a1 => f1 a (by omega))
  have hT1 := hT.far (fun a a1 a2 => f1 a (by omega))
  have hP1 := hP.far (fun a a1 a2 => f1 a (by omega))
  have h1961 := (f1 196 (by decide)).trans h196
  have h1971 := (f1 197 (by decide)).trans h197
  have hkf := k5 f hf
  refine RQ.blk 3 (pc' := 10) (lv' := [(0, .ref 196), (1, .int (nI f)), (2, .int (nI off))]) (st' := [.int 201, .int (nI f), .ref 196]) (H' := _) (kc' := 0) (ks' := 0) rfl ?_
  refine RQ.call (v := some (.int 0)) (st' := []) rfl rfl rfl rfl rfl rfl (args_v [.int 201, .int (nI f)] [] rfl rfl (Nat.le_of_ble_eq_true rfl) rfl hm1 (Nat.le_of_ble_eq_true rfl)) (rc_out (v := f) (m := 201) (by omega) (by decide)) ?_
  refine RQ.brF rfl rfl rfl (by decide) ?_
  refine RQ.blk 1 (pc' := 17) (lv' := [(0, .ref 196), (1, .int (nI f)), (2, .int (nI off))]) (st' := [.ref 196]) (H' := _) (kc' := 0) (ks' := 0) rfl ?_
  refine RQ.get (ci := 12) rfl hm1 rfl rfl ?_
  refine RQ.blk 1 (pc' := 21) (lv' := [(0, .ref 196), (1, .int (nI f)), (2, .int (nI off))]) (st' := [.int 1, .int (nI l)]) (H' := _) (kc' := 0) (ks' := 0) rfl ?_
  refine RQ.brF rfl rfl rfl (cF_lt l 1) ?_
  refine RQ.blk 1 (pc' := 25) (lv' := [(0, .ref 196), (1, .int (nI f)), (2, .int (nI off))]) (st' := [.int (nI off)]) (H' := _) (kc' := 0) (ks' := 0) rfl ?_
  refine RQ.brF rfl rfl rfl (cF_lt off 0) ?_
  refine RQ.blk 3 (pc' := 33) (lv' := [(0, .ref 196), (1, .int (nI f)), (2, .int (nI off))]) (st' := [.ref 196, .int 16384, .int (nI off)]) (H' := _) (kc' := 0) (ks' := 0) rfl ?_
  refine RQ.get (ci := 12) rfl hm1 rfl rfl ?_
  refine RQ.blk 1 (pc' := 37) (lv' := [(0, .ref 196), (1, .int (nI f)), (2, .int (nI off))]) (st' := [.int (16384 - nI l), .int (nI off)]) (H' := _) (kc' := 0) (ks' := 0) rfl ?_
  rw [show (16384 - nI l : Int32) = nI (16384 - l) from pk_sub (a := 16384) (b := l) (by omega)]
  refine RQ.brT rfl rfl rfl (cT_le off (16384 - l)) ?_
  refine RQ.blk 1 (pc' := 47) (lv' := [(0, .ref 196), (1, .int (nI f)), (2, .int (nI off))]) (st' := [.ref 196]) (H' := _) (kc' := 0) (ks' := 0) rfl ?_
  refine RQ.get (ci := 12) rfl hm1 rfl rfl ?_
  refine RQ.brT rfl rfl rfl (by decide) ?_
  refine RQ.blk 1 (pc' := 60) (lv' := [(0, .ref 196), (1, .int (nI f)), (2, .int (nI off))]) (st' := [.ref 196]) (H' := _) (kc' := 0) (ks' := 0) rfl ?_
  refine RQ.get (ci := 12) rfl hm1 rfl rfl ?_
  refine RQ.blk 3 (pc' := 66) (lv' := [(3, .int (nI l)), (0, .ref 196), (1, .int (nI f)), (2, .int (nI off))]) (st' := [.int 0, .ref 196]) (H' := _) (kc' := 0) (ks' := 0) rfl ?_
  refine RQ.put (ci := 12) rfl hm1 rfl rfl (Nat.le_of_ble_eq_true rfl) ?_
  have hm2 : (H1.set 195 (kO 12 (mfs 0 (nI li) 0 0 cl (nI 0) rs (nI p) (nI ms.length) (nI us) (nI ps.length) (nI (plen ps)) ba bo)))[195]? = some (kO 12 (mfs 0 (nI li) 0 0 cl (nI 0) rs (nI p) (nI ms.length) (nI us) (nI ps.length) (nI (plen ps)) ba bo)) := get_set hm1
  have f2 : ∀ a, a ≠ 195 → (H1.set 195 (kO 12 (mfs 0 (nI li) 0 0 cl (nI 0) rs (nI p) (nI ms.length) (nI us) (nI ps.length) (nI (plen ps)) ba bo)))[a]? = H[a]? := fun a ha => (set_far ha).trans (f1 a ha)
  show RQ _ _ _ 69 [(3, .int (nI l)), (0, .ref 196), (1, .int (nI f)), (2, .int (nI off))] [] (H1.set 195 (kO 12 (mfs 0 (nI li) 0 0 cl (nI 0) rs (nI p) (nI ms.length) (nI us) (nI ps.length) (nI (plen ps)) ba bo))) 0 0 _
  generalize (H1.set 195 (kO 12 (mfs 0 (nI li) 0 0 cl (nI 0) rs (nI p) (nI ms.length) (nI us) (nI ps.length) (nI (plen ps)) ba bo))) = H2 at hm2 f2 ⊢
  clear hm1 f1 hV1 h51 h61 hR1 hT1 hP1 h1961 h1971
  have hm1 := hm2
  have f1 := f2
  clear hm2 f2
  have hV1 := hV.far (fun a a1 a2 => f1 a (by omega)) (f1 223 (by decide))
  have h51 := (f1 205 (by decide)).trans h5
  have h61 := (f1 206 (by decide)).trans h6
  have hR1 := hR.far (fun a a1 => f1 a (by omega))
  have hT1 := hT.far (fun a a1 a2 => f1 a (by omega))
  have hP1 := hP.far (fun a a1 a2 => f1 a (by omega))
  have h1961 := (f1 196 (by decide)).trans h196
  have h1971 := (f1 197 (by decide)).trans h197
  refine RQ.blk 1 (pc' := 70) (lv' := [(3, .int (nI l)), (0, .ref 196), (1, .int (nI f)), (2, .int (nI off))]) (st' := [.ref 196]) (H' := _) (kc' := 0) (ks' := 0) rfl ?_
  refine RQ.get (ci := 12) rfl hm1 rfl rfl ?_
  refine RQ.blk 1 (pc' := 74) (lv' := [(3, .int (nI l)), (0, .ref 196), (1, .int (nI f)), (2, .int (nI off))]) (st' := [.int (nI f), .ref 214]) (H' := _) (kc' := 0) (ks' := 0) rfl ?_
  refine RQ.ialdN (j := f) rfl hT1.1 (by omega) (by decide) ?_
  rw [hkd]
  refine RQ.blk 1 (pc' := 76) (lv' := [(3, .int (nI l)), (0, .ref 196), (1, .int (nI f)), (2, .int (nI off))]) (st' := [.int 1, .int (nI 1)]) (H' := _) (kc' := 0) (ks' := 0) rfl ?_
  refine RQ.brT rfl rfl rfl (cT_eq 1 1) ?_
  refine RQ.blk 2 (pc' := 87) (lv' := [(3, .int (nI l)), (0, .ref 196), (1, .int (nI f)), (2, .int (nI off))]) (st' := [.int (-1), .ref 196]) (H' := _) (kc' := 0) (ks' := 0) rfl ?_
  refine RQ.call (v := some (.int (nI (ndR op se (-1) p ms kd nl ps)))) (st' := []) rfl rfl rfl rfl rfl rfl (args_v [.int (-1)] [] rfl rfl (Nat.le_of_ble_eq_true rfl) rfl hm1 (Nat.le_of_ble_eq_true rfl)) (rc_mneedR (x := -1) hm1 hV1 k3 h51 h61 k4 hT1 k5 hP1 k6 (by omega)) ?_
  refine RQ.blk 4 (pc' := 94) (lv' := [(3, .int (nI l)), (0, .ref 196), (1, .int (nI f)), (2, .int (nI off))]) (st' := [.int (nI l), .int (nI off), .int (nI f), .ref 196, .int (nI (ndR op se (-1) p ms kd nl ps))]) (H' := _) (kc' := 0) (ks' := 0) rfl ?_
  refine RQ.call (v := some (.int (nI (grS ps f (off + l) (off / 512) ((off + l - 1) / 512 + 1 - off / 512))))) (st' := [.int (nI (ndR op se (-1) p ms kd nl ps))]) rfl rfl rfl rfl rfl rfl (args_v [.int (nI l), .int (nI off), .int (nI f)] [.int (nI (ndR op se (-1) p ms kd nl ps))] rfl rfl (Nat.le_of_ble_eq_true rfl) rfl hm1 (Nat.le_of_ble_eq_true rfl)) (rc_growth hm1 hP1 k6 k7 k8 hf hol hl1) ?_
  refine RQ.blk 1 (pc' := 98) (lv' := [(3, .int (nI l)), (0, .ref 196), (1, .int (nI f)), (2, .int (nI off))]) (st' := [.int (nI (ndR op se (-1) p ms kd nl ps) + nI (grS ps f (off + l) (off / 512) ((off + l - 1) / 512 + 1 - off / 512)))]) (H' := _) (kc' := 0) (ks' := 0) rfl ?_
  rw [show (nI (ndR op se (-1) p ms kd nl ps) + nI (grS ps f (off + l) (off / 512) ((off + l - 1) / 512 + 1 - off / 512)) : Int32) = nI (ndR op se (-1) p ms kd nl ps + (grS ps f (off + l) (off / 512) ((off + l - 1) / 512 + 1 - off / 512))) from nI_add (ndR op se (-1) p ms kd nl ps) (grS ps f (off + l) (off / 512) ((off + l - 1) / 512 + 1 - off / 512))]
  refine RQ.blk 1 (pc' := 99) (lv' := [(3, .int (nI l)), (0, .ref 196), (1, .int (nI f)), (2, .int (nI off))]) (st' := [.ref 196, .int (nI (ndR op se (-1) p ms kd nl ps + (grS ps f (off + l) (off / 512) ((off + l - 1) / 512 + 1 - off / 512))))]) (H' := _) (kc' := 0) (ks' := 0) rfl ?_
  refine RQ.get (ci := 12) rfl hm1 rfl rfl ?_
  refine RQ.brT rfl rfl rfl (cT_le ((ndR op se (-1) p ms kd nl ps) + (grS ps f (off + l) (off / 512) ((off + l - 1) / 512 + 1 - off / 512))) li) ?_
  refine RQ.blk 2 (pc' := 113) (lv' := [(3, .int (nI l)), (0, .ref 196), (1, .int (nI f)), (2, .int (nI off))]) (st' := [.int 2, .ref 196]) (H' := _) (kc' := 0) (ks' := 0) rfl ?_
  refine RQ.call (v := some (.int 0)) (st' := []) rfl rfl rfl rfl rfl rfl (args_v [.int 2] [] rfl rfl (Nat.le_of_ble_eq_true rfl) rfl hm1 (Nat.le_of_ble_eq_true rfl)) (rc_mlost0 hm1) ?_
  refine RQ.brT rfl rfl rfl (by decide) ?_
  refine RQ.blk 4 (pc' := 129) (lv' := [(3, .int (nI l)), (0, .ref 196), (1, .int (nI f)), (2, .int (nI off))]) (st' := [.int (nI l), .int (nI off), .int (nI f), .ref 196]) (H' := _) (kc' := 0) (ks' := 0) rfl ?_
  refine RQ.callN (st' := []) rfl rfl rfl rfl rfl rfl (args_v [.int (nI l), .int (nI off), .int (nI f)] [] rfl rfl (Nat.le_of_ble_eq_true rfl) rfl hm1 (Nat.le_of_ble_eq_true rfl)) (rn_lay (d := d + 3) hm1 hP1 h1961 k8 hf hol hl1 k1 hroom) (fun H3 hx3 => ?_)
  obtain ⟨hm3, hP3, f3⟩ := hx3
  have hZ3 := (f3 217 (by omega)).trans hT1.2.2.2.2
  have f30 : ∀ a, ¬ (a = 195 ∨ (218 ≤ a ∧ a < 223)) → H3[a]? = H[a]? := fun a ha => (f3 a ha).trans (f1 a (by omega))
  refine RQ.blk 1 (pc' := 133) (lv' := [(3, .int (nI l)), (0, .ref 196), (1, .int (nI f)), (2, .int (nI off))]) (st' := [.ref 196]) (H' := _) (kc' := 0) (ks' := 0) rfl ?_
  refine RQ.get (ci := 12) rfl hm3 rfl rfl ?_
  refine RQ.blk 1 (pc' := 137) (lv' := [(3, .int (nI l)), (0, .ref 196), (1, .int (nI f)), (2, .int (nI off))]) (st' := [.int (nI f), .ref 218]) (H' := _) (kc' := 0) (ks' := 0) rfl ?_
  refine RQ.ialdN (j := f) rfl hZ3 (by omega) (by decide) ?_
  refine RQ.blk 3 (pc' := 141) (lv' := [(3, .int (nI l)), (0, .ref 196), (1, .int (nI f)), (2, .int (nI off))]) (st' := [.int (nI off + nI l), .int (nI (sz f))]) (H' := _) (kc' := 0) (ks' := 0) rfl ?_
  rw [show (nI off + nI l : Int32) = nI (off + l) from nI_add off l]
  by_cases ks : sz f < off + l
  · refine RQ.brF rfl rfl rfl (cF_ge (sz f) (off + l)) ?_
    refine RQ.blk 1 (pc' := 145) (lv' := [(3, .int (nI l)), (0, .ref 196), (1, .int (nI f)), (2, .int (nI off))]) (st' := [.ref 196]) (H' := _) (kc' := 0) (ks' := 0) rfl ?_
    refine RQ.get (ci := 12) rfl hm3 rfl rfl ?_
    refine RQ.blk 4 (pc' := 152) (lv' := [(3, .int (nI l)), (0, .ref 196), (1, .int (nI f)), (2, .int (nI off))]) (st' := [.int (nI off + nI l), .int (nI f), .ref 218]) (H' := _) (kc' := 0) (ks' := 0) rfl ?_
    rw [show (nI off + nI l : Int32) = nI (off + l) from nI_add off l]
    refine RQ.iastN (j := f) rfl hZ3 (by omega) (by decide) ?_
    rw [up_nI]
    have hmx : max (sz f) (off + l) = off + l := by omega
    have hm4 : (H3.set 217 (kI 201 (fun j => nI (va_up sz f (off + l) j))))[195]? = _ := (set_far (by decide)).trans hm3
    have hZ4 : (H3.set 217 (kI 201 (fun j => nI (va_up sz f (off + l) j))))[217]? = some (kI 201 (fun j => nI (va_up sz f (off + l) j))) := get_set hZ3
    have hP4 := hP3.far (H' := (H3.set 217 (kI 201 (fun j => nI (va_up sz f (off + l) j))))) (fun a a1 a2 => set_far (by omega))
    have f4 : ∀ a, ¬ (a = 195 ∨ (217 ≤ a ∧ a < 223)) → (H3.set 217 (kI 201 (fun j => nI (va_up sz f (off + l) j))))[a]? = H[a]? := fun a ha => (set_far (by omega)).trans (f30 a (by omega))
    generalize (H3.set 217 (kI 201 (fun j => nI (va_up sz f (off + l) j)))) = H4 at hm4 hZ4 hP4 f4 ⊢
    have hans : nI (va_up sz f (off + l) f) = nI (max (sz f) (off + l)) := by rw [up_at, hmx]
    have hT4 : MTreeAt H4 kd pa (va_up sz f (max (sz f) (off + l))) nl nm := ⟨(f4 213 (by omega)).trans hT.1, (f4 214 (by omega)).trans hT.2.1, (f4 215 (by omega)).trans hT.2.2.1, (f4 216 (by omega)).trans hT.2.2.2.1, by rw [hmx]; exact hZ4⟩
    refine RQ.blk 3 (pc' := 156) (lv' := [(3, .int (nI l)), (0, .ref 196), (1, .int (nI f)), (2, .int (nI off))]) (st' := [.ref 196, .int 2, .ref 196]) (H' := _) (kc' := 0) (ks' := 0) rfl ?_
    refine RQ.get (ci := 12) rfl hm4 rfl rfl ?_
    refine RQ.blk 1 (pc' := 160) (lv' := [(3, .int (nI l)), (0, .ref 196), (1, .int (nI f)), (2, .int (nI off))]) (st' := [.int (nI f), .ref 218, .int 2, .ref 196]) (H' := _) (kc' := 0) (ks' := 0) rfl ?_
    refine RQ.ialdN (j := f) rfl hZ4 (by omega) (by decide) ?_
    refine RQ.call (v := some (.int (nI (va_up sz f (off + l) f)))) (st' := []) rfl rfl rfl rfl rfl rfl (args_v [.int (nI (va_up sz f (off + l) f)), .int 2] [] rfl rfl (Nat.le_of_ble_eq_true rfl) rfl hm4 (Nat.le_of_ble_eq_true rfl)) (rc_mchanged0 (x := 2) hm4) ?_
    exact RQ.done (c := 0) (s := 0) rfl rfl rfl rfl ⟨_, _, rfl, hans, ⟨us, ba, bo, get_set hm4, hV.far (fun a a1 a2 => (set_far (by omega)).trans (f4 a (by omega))) ((set_far (by decide)).trans (f4 223 (by omega))), (set_far (by decide)).trans ((f4 205 (by omega)).trans h5), (set_far (by decide)).trans ((f4 206 (by omega)).trans h6), hR.far (fun a a1 => (set_far (by omega)).trans (f4 a (by omega))), hT4.far (fun a a1 a2 => set_far (by omega)), hP4.far (fun a a1 a2 => set_far (by omega)), (set_far (by decide)).trans ((f4 196 (by omega)).trans h196), (set_far (by decide)).trans ((f4 197 (by omega)).trans h197)⟩, fun a ha => (set_far (by omega)).trans (f4 a (by omega))⟩
  · refine RQ.brT rfl rfl rfl (cT_ge (sz f) (off + l)) ?_
    have hmx : (va_up sz f (max (sz f) (off + l))) = sz := by funext j; by_cases e : j = f; rw [e, up_at]; omega; rw [up_ne e]
    obtain ⟨H4, eH⟩ : ∃ H4, H4 = H3 := ⟨_, rfl⟩
    rw [← eH]
    rw [← eH] at hm3 hZ3 hP3 f30
    have hm4 := hm3
    have hP4 := hP3
    have f4 : ∀ a, ¬ (a = 195 ∨ (217 ≤ a ∧ a < 223)) → H4[a]? = H[a]? := fun a ha => f30 a (by omega)
    have hans : nI (sz f) = nI (max (sz f) (off + l)) := by rw [show max (sz f) (off + l) = sz f by omega]
    have hT4 : MTreeAt H4 kd pa (va_up sz f (max (sz f) (off + l))) nl nm := ⟨(f4 213 (by omega)).trans hT.1, (f4 214 (by omega)).trans hT.2.1, (f4 215 (by omega)).trans hT.2.2.1, (f4 216 (by omega)).trans hT.2.2.2.1, by rw [hmx]; exact hZ3⟩
    refine RQ.blk 3 (pc' := 156) (lv' := [(3, .int (nI l)), (0, .ref 196), (1, .int (nI f)), (2, .int (nI off))]) (st' := [.ref 196, .int 2, .ref 196]) (H' := _) (kc' := 0) (ks' := 0) rfl ?_
    refine RQ.get (ci := 12) rfl hm4 rfl rfl ?_
    refine RQ.blk 1 (pc' := 160) (lv' := [(3, .int (nI l)), (0, .ref 196), (1, .int (nI f)), (2, .int (nI off))]) (st' := [.int (nI f), .ref 218, .int 2, .ref 196]) (H' := _) (kc' := 0) (ks' := 0) rfl ?_
    refine RQ.ialdN (j := f) rfl hZ3 (by omega) (by decide) ?_
    refine RQ.call (v := some (.int (nI (sz f)))) (st' := []) rfl rfl rfl rfl rfl rfl (args_v [.int (nI (sz f)), .int 2] [] rfl rfl (Nat.le_of_ble_eq_true rfl) rfl hm4 (Nat.le_of_ble_eq_true rfl)) (rc_mchanged0 (x := 2) hm4) ?_
    exact RQ.done (c := 0) (s := 0) rfl rfl rfl rfl ⟨_, _, rfl, hans, ⟨us, ba, bo, get_set hm4, hV.far (fun a a1 a2 => (set_far (by omega)).trans (f4 a (by omega))) ((set_far (by decide)).trans (f4 223 (by omega))), (set_far (by decide)).trans ((f4 205 (by omega)).trans h5), (set_far (by decide)).trans ((f4 206 (by omega)).trans h6), hR.far (fun a a1 => (set_far (by omega)).trans (f4 a (by omega))), hT4.far (fun a a1 a2 => set_far (by omega)), hP4.far (fun a a1 a2 => set_far (by omega)), (set_far (by decide)).trans ((f4 196 (by omega)).trans h196), (set_far (by decide)).trans ((f4 197 (by omega)).trans h197)⟩, fun a ha => (set_far (by omega)).trans (f4 a (by omega))⟩
set_option maxRecDepth 20000 in
theorem ri_mwrite_late {sc : Nat × (Nat → Int32)} {d l : Nat} {H : aH} {fa rs : Int32} {li : Nat} {tb : Nat → Int8} {g0 : Nat → Int8} {p : Nat} {ms : List aMV} {op : Nat → Bool} {se : Nat → Nat} {wss : Nat → List aE} {kd pa sz nl : Nat → Nat} {nm : Nat → Int8} {ps : List aPc} {f off : Nat} (h : RefI H fa li 0 1 1 tb l rs g0 p ms op se wss kd pa sz nl nm ps) (hk : RefOk l p ms se kd pa sz nl ps) (hf : f ≤ 200) (hl1 : 1 ≤ l) (hol : off + l ≤ 16384) (hkd : kd f = 1) (hli : li < 2 ^ 31) (hnd : (ndR op se (-1) p ms kd nl ps) + (grS ps f (off + l) (off / 512) ((off + l - 1) / 512 + 1 - off / 512)) < 2 ^ 31) (hfits : (ndR op se (-1) p ms kd nl ps) + (grS ps f (off + l) (off / 512) ((off + l - 1) / 512 + 1 - off / 512)) ≤ li) (hroom : ∀ m, m ≤ ((off + l - 1) / 512 + 1 - off / 512) → (layN tb f off (off + l) ps m).length ≤ 1300 ∧ plen (layN tb f off (off + l) ps m) ≤ 40000) : RI sc (d + 5) mr_322 [.ref 196, .int (nI f), .int (nI off)] H (fun x H' => x = 0 ∧ RefI H' 2 li 1 0 1 tb 0 0 g0 (p + 1) (ms.filter (keepM (fun j => if j < 8 then false else op j) se (p + 1) (kmM ms))) (fun j => if j < 8 then false else op j) se wss kd pa (va_up sz f (max (sz f) (off + l))) nl nm (layN tb f off (off + l) ps ((off + l - 1) / 512 + 1 - off / 512)) ∧ ∀ a, ¬ (195 ≤ a ∧ a < 224) → H'[a]? = H[a]?) := by
  obtain ⟨us, ba, bo, hm, hV, h5, h6, hR, hT, hP, h196, h197⟩ := h
  obtain ⟨k1, k2, k3, k4, k5, k6, k7, k8⟩ := hk
  refine RI.of ?_
  refine RQ.blk 2 (pc' := 2) (lv' := [(0, .ref 196), (1, .int (nI f)), (2, .int (nI off))]) (st' := [.int 0, .ref 196]) (H' := _) (kc' := 0) (ks' := 0) rfl ?_
  refine RQ.put (ci := 12) rfl hm rfl rfl (Nat.le_of_ble_eq_true rfl) ?_
  have hm1 : (H.set 195 (kO 12 (mfs 0 (nI li) 0 1 1 (nI l) rs (nI p) (nI ms.length) (nI us) (nI ps.length) (nI (plen ps)) ba bo)))[195]? = some (kO 12 (mfs 0 (nI li) 0 1 1 (nI l) rs (nI p) (nI ms.length) (nI us) (nI ps.length) (nI (plen ps)) ba bo)) := get_set hm
  have f1 : ∀ a, a ≠ 195 → (H.set 195 (kO 12 (mfs 0 (nI li) 0 1 1 (nI l) rs (nI p) (nI ms.length) (nI us) (nI ps.length) (nI (plen ps)) ba bo)))[a]? = H[a]? := fun a ha => set_far ha
  show RQ _ _ _ 5 [(0, .ref 196), (1, .int (nI f)), (2, .int (nI off))] [] (H.set 195 (kO 12 (mfs 0 (nI li) 0 1 1 (nI l) rs (nI p) (nI ms.length) (nI us) (nI ps.length) (nI (plen ps)) ba bo))) 0 0 _
  generalize (H.set 195 (kO 12 (mfs 0 (nI li) 0 1 1 (nI l) rs (nI p) (nI ms.length) (nI us) (nI ps.length) (nI (plen ps)) ba bo))) = H1 at hm1 f1 ⊢
  have hV1 := hV.far (fun a a1 a2 => f1 a (by omega)) (f1 223 (by decide))
  have h51 := (f1 205 (by decide)).trans h5
  have h61 := (f1 206 (by decide)).trans h6
  have hR1 := hR.far (fun a a1 => f1 a (by omega))
  have hT1 := hT.far (fun a a1 a2 => f1 a (by omega))
  have hP1 := hP.far (fun a a1 a2 => f1 a (by omega))
  have h1961 := (f1 196 (by decide)).trans h196
  have h1971 := (f1 197 (by decide)).trans h197
  have hkf := k5 f hf
  refine RQ.blk 3 (pc' := 10) (lv' := [(0, .ref 196), (1, .int (nI f)), (2, .int (nI off))]) (st' := [.int 201, .int (nI f), .ref 196]) (H' := _) (kc' := 0) (ks' := 0) rfl ?_
  refine RQ.call (v := some (.int 0)) (st' := []) rfl rfl rfl rfl rfl rfl (args_v [.int 201, .int (nI f)] [] rfl rfl (Nat.le_of_ble_eq_true rfl) rfl hm1 (Nat.le_of_ble_eq_true rfl)) (rc_out (v := f) (m := 201) (by omega) (by decide)) ?_
  refine RQ.brF rfl rfl rfl (by decide) ?_
  refine RQ.blk 1 (pc' := 17) (lv' := [(0, .ref 196), (1, .int (nI f)), (2, .int (nI off))]) (st' := [.ref 196]) (H' := _) (kc' := 0) (ks' := 0) rfl ?_
  refine RQ.get (ci := 12) rfl hm1 rfl rfl ?_
  refine RQ.blk 1 (pc' := 21) (lv' := [(0, .ref 196), (1, .int (nI f)), (2, .int (nI off))]) (st' := [.int 1, .int (nI l)]) (H' := _) (kc' := 0) (ks' := 0) rfl ?_
  refine RQ.brF rfl rfl rfl (cF_lt l 1) ?_
  refine RQ.blk 1 (pc' := 25) (lv' := [(0, .ref 196), (1, .int (nI f)), (2, .int (nI off))]) (st' := [.int (nI off)]) (H' := _) (kc' := 0) (ks' := 0) rfl ?_
  refine RQ.brF rfl rfl rfl (cF_lt off 0) ?_
  refine RQ.blk 3 (pc' := 33) (lv' := [(0, .ref 196), (1, .int (nI f)), (2, .int (nI off))]) (st' := [.ref 196, .int 16384, .int (nI off)]) (H' := _) (kc' := 0) (ks' := 0) rfl ?_
  refine RQ.get (ci := 12) rfl hm1 rfl rfl ?_
  refine RQ.blk 1 (pc' := 37) (lv' := [(0, .ref 196), (1, .int (nI f)), (2, .int (nI off))]) (st' := [.int (16384 - nI l), .int (nI off)]) (H' := _) (kc' := 0) (ks' := 0) rfl ?_
  rw [show (16384 - nI l : Int32) = nI (16384 - l) from pk_sub (a := 16384) (b := l) (by omega)]
  refine RQ.brT rfl rfl rfl (cT_le off (16384 - l)) ?_
  refine RQ.blk 1 (pc' := 47) (lv' := [(0, .ref 196), (1, .int (nI f)), (2, .int (nI off))]) (st' := [.ref 196]) (H' := _) (kc' := 0) (ks' := 0) rfl ?_
  refine RQ.get (ci := 12) rfl hm1 rfl rfl ?_
  refine RQ.brT rfl rfl rfl (by decide) ?_
  refine RQ.blk 1 (pc' := 60) (lv' := [(0, .ref 196), (1, .int (nI f)), (2, .int (nI off))]) (st' := [.ref 196]) (H' := _) (kc' := 0) (ks' := 0) rfl ?_
  refine RQ.get (ci := 12) rfl hm1 rfl rfl ?_
  refine RQ.blk 3 (pc' := 66) (lv' := [(3, .int (nI l)), (0, .ref 196), (1, .int (nI f)), (2, .int (nI off))]) (st' := [.int 0, .ref 196]) (H' := _) (kc' := 0) (ks' := 0) rfl ?_
  refine RQ.put (ci := 12) rfl hm1 rfl rfl (Nat.le_of_ble_eq_true rfl) ?_
  have hm2 : (H1.set 195 (kO 12 (mfs 0 (nI li) 0 1 1 (nI 0) rs (nI p) (nI ms.length) (nI us) (nI ps.length) (nI (plen ps)) ba bo)))[195]? = some (kO 12 (mfs 0 (nI li) 0 1 1 (nI 0) rs (nI p) (nI ms.length) (nI us) (nI ps.length) (nI (plen ps)) ba bo)) := get_set hm1
  have f2 : ∀ a, a ≠ 195 → (H1.set 195 (kO 12 (mfs 0 (nI li) 0 1 1 (nI 0) rs (nI p) (nI ms.length) (nI us) (nI ps.length) (nI (plen ps)) ba bo)))[a]? = H[a]? := fun a ha => (set_far ha).trans (f1 a ha)
  show RQ _ _ _ 69 [(3, .int (nI l)), (0, .ref 196), (1, .int (nI f)), (2, .int (nI off))] [] (H1.set 195 (kO 12 (mfs 0 (nI li) 0 1 1 (nI 0) rs (nI p) (nI ms.length) (nI us) (nI ps.length) (nI (plen ps)) ba bo))) 0 0 _
  generalize (H1.set 195 (kO 12 (mfs 0 (nI li) 0 1 1 (nI 0) rs (nI p) (nI ms.length) (nI us) (nI ps.length) (nI (plen ps)) ba bo))) = H2 at hm2 f2 ⊢
  clear hm1 f1 hV1 h51 h61 hR1 hT1 hP1 h1961 h1971
  have hm1 := hm2
  have f1 := f2
  clear hm2 f2
  have hV1 := hV.far (fun a a1 a2 => f1 a (by omega)) (f1 223 (by decide))
  have h51 := (f1 205 (by decide)).trans h5
  have h61 := (f1 206 (by decide)).trans h6
  have hR1 := hR.far (fun a a1 => f1 a (by omega))
  have hT1 := hT.far (fun a a1 a2 => f1 a (by omega))
  have hP1 := hP.far (fun a a1 a2 => f1 a (by omega))
  have h1961 := (f1 196 (by decide)).trans h196
  have h1971 := (f1 197 (by decide)).trans h197
  refine RQ.blk 1 (pc' := 70) (lv' := [(3, .int (nI l)), (0, .ref 196), (1, .int (nI f)), (2, .int (nI off))]) (st' := [.ref 196]) (H' := _) (kc' := 0) (ks' := 0) rfl ?_
  refine RQ.get (ci := 12) rfl hm1 rfl rfl ?_
  refine RQ.blk 1 (pc' := 74) (lv' := [(3, .int (nI l)), (0, .ref 196), (1, .int (nI f)), (2, .int (nI off))]) (st' := [.int (nI f), .ref 214]) (H' := _) (kc' := 0) (ks' := 0) rfl ?_
  refine RQ.ialdN (j := f) rfl hT1.1 (by omega) (by decide) ?_
  rw [hkd]
  refine RQ.blk 1 (pc' := 76) (lv' := [(3, .int (nI l)), (0, .ref 196), (1, .int (nI f)), (2, .int (nI off))]) (st' := [.int 1, .int (nI 1)]) (H' := _) (kc' := 0) (ks' := 0) rfl ?_
  refine RQ.brT rfl rfl rfl (cT_eq 1 1) ?_
  refine RQ.blk 2 (pc' := 87) (lv' := [(3, .int (nI l)), (0, .ref 196), (1, .int (nI f)), (2, .int (nI off))]) (st' := [.int (-1), .ref 196]) (H' := _) (kc' := 0) (ks' := 0) rfl ?_
  refine RQ.call (v := some (.int (nI (ndR op se (-1) p ms kd nl ps)))) (st' := []) rfl rfl rfl rfl rfl rfl (args_v [.int (-1)] [] rfl rfl (Nat.le_of_ble_eq_true rfl) rfl hm1 (Nat.le_of_ble_eq_true rfl)) (rc_mneedR (x := -1) hm1 hV1 k3 h51 h61 k4 hT1 k5 hP1 k6 (by omega)) ?_
  refine RQ.blk 4 (pc' := 94) (lv' := [(3, .int (nI l)), (0, .ref 196), (1, .int (nI f)), (2, .int (nI off))]) (st' := [.int (nI l), .int (nI off), .int (nI f), .ref 196, .int (nI (ndR op se (-1) p ms kd nl ps))]) (H' := _) (kc' := 0) (ks' := 0) rfl ?_
  refine RQ.call (v := some (.int (nI (grS ps f (off + l) (off / 512) ((off + l - 1) / 512 + 1 - off / 512))))) (st' := [.int (nI (ndR op se (-1) p ms kd nl ps))]) rfl rfl rfl rfl rfl rfl (args_v [.int (nI l), .int (nI off), .int (nI f)] [.int (nI (ndR op se (-1) p ms kd nl ps))] rfl rfl (Nat.le_of_ble_eq_true rfl) rfl hm1 (Nat.le_of_ble_eq_true rfl)) (rc_growth hm1 hP1 k6 k7 k8 hf hol hl1) ?_
  refine RQ.blk 1 (pc' := 98) (lv' := [(3, .int (nI l)), (0, .ref 196), (1, .int (nI f)), (2, .int (nI off))]) (st' := [.int (nI (ndR op se (-1) p ms kd nl ps) + nI (grS ps f (off + l) (off / 512) ((off + l - 1) / 512 + 1 - off / 512)))]) (H' := _) (kc' := 0) (ks' := 0) rfl ?_
  rw [show (nI (ndR op se (-1) p ms kd nl ps) + nI (grS ps f (off + l) (off / 512) ((off + l - 1) / 512 + 1 - off / 512)) : Int32) = nI (ndR op se (-1) p ms kd nl ps + (grS ps f (off + l) (off / 512) ((off + l - 1) / 512 + 1 - off / 512))) from nI_add (ndR op se (-1) p ms kd nl ps) (grS ps f (off + l) (off / 512) ((off + l - 1) / 512 + 1 - off / 512))]
  refine RQ.blk 1 (pc' := 99) (lv' := [(3, .int (nI l)), (0, .ref 196), (1, .int (nI f)), (2, .int (nI off))]) (st' := [.ref 196, .int (nI (ndR op se (-1) p ms kd nl ps + (grS ps f (off + l) (off / 512) ((off + l - 1) / 512 + 1 - off / 512))))]) (H' := _) (kc' := 0) (ks' := 0) rfl ?_
  refine RQ.get (ci := 12) rfl hm1 rfl rfl ?_
  refine RQ.brT rfl rfl rfl (cT_le ((ndR op se (-1) p ms kd nl ps) + (grS ps f (off + l) (off / 512) ((off + l - 1) / 512 + 1 - off / 512))) li) ?_
  refine RQ.blk 2 (pc' := 113) (lv' := [(3, .int (nI l)), (0, .ref 196), (1, .int (nI f)), (2, .int (nI off))]) (st' := [.int 2, .ref 196]) (H' := _) (kc' := 0) (ks' := 0) rfl ?_
  refine RQ.call (v := some (.int 0)) (st' := []) rfl rfl rfl rfl rfl rfl (args_v [.int 2] [] rfl rfl (Nat.le_of_ble_eq_true rfl) rfl hm1 (Nat.le_of_ble_eq_true rfl)) (rc_mlostL hm1) ?_
  refine RQ.brT rfl rfl rfl (by decide) ?_
  refine RQ.blk 4 (pc' := 129) (lv' := [(3, .int (nI l)), (0, .ref 196), (1, .int (nI f)), (2, .int (nI off))]) (st' := [.int (nI l), .int (nI off), .int (nI f), .ref 196]) (H' := _) (kc' := 0) (ks' := 0) rfl ?_
  refine RQ.callN (st' := []) rfl rfl rfl rfl rfl rfl (args_v [.int (nI l), .int (nI off), .int (nI f)] [] rfl rfl (Nat.le_of_ble_eq_true rfl) rfl hm1 (Nat.le_of_ble_eq_true rfl)) (rn_lay (d := d + 3) hm1 hP1 h1961 k8 hf hol hl1 k1 hroom) (fun H3 hx3 => ?_)
  obtain ⟨hm3, hP3, f3⟩ := hx3
  have hZ3 := (f3 217 (by omega)).trans hT1.2.2.2.2
  have f30 : ∀ a, ¬ (a = 195 ∨ (218 ≤ a ∧ a < 223)) → H3[a]? = H[a]? := fun a ha => (f3 a ha).trans (f1 a (by omega))
  refine RQ.blk 1 (pc' := 133) (lv' := [(3, .int (nI l)), (0, .ref 196), (1, .int (nI f)), (2, .int (nI off))]) (st' := [.ref 196]) (H' := _) (kc' := 0) (ks' := 0) rfl ?_
  refine RQ.get (ci := 12) rfl hm3 rfl rfl ?_
  refine RQ.blk 1 (pc' := 137) (lv' := [(3, .int (nI l)), (0, .ref 196), (1, .int (nI f)), (2, .int (nI off))]) (st' := [.int (nI f), .ref 218]) (H' := _) (kc' := 0) (ks' := 0) rfl ?_
  refine RQ.ialdN (j := f) rfl hZ3 (by omega) (by decide) ?_
  refine RQ.blk 3 (pc' := 141) (lv' := [(3, .int (nI l)), (0, .ref 196), (1, .int (nI f)), (2, .int (nI off))]) (st' := [.int (nI off + nI l), .int (nI (sz f))]) (H' := _) (kc' := 0) (ks' := 0) rfl ?_
  rw [show (nI off + nI l : Int32) = nI (off + l) from nI_add off l]
  by_cases ks : sz f < off + l
  · refine RQ.brF rfl rfl rfl (cF_ge (sz f) (off + l)) ?_
    refine RQ.blk 1 (pc' := 145) (lv' := [(3, .int (nI l)), (0, .ref 196), (1, .int (nI f)), (2, .int (nI off))]) (st' := [.ref 196]) (H' := _) (kc' := 0) (ks' := 0) rfl ?_
    refine RQ.get (ci := 12) rfl hm3 rfl rfl ?_
    refine RQ.blk 4 (pc' := 152) (lv' := [(3, .int (nI l)), (0, .ref 196), (1, .int (nI f)), (2, .int (nI off))]) (st' := [.int (nI off + nI l), .int (nI f), .ref 218]) (H' := _) (kc' := 0) (ks' := 0) rfl ?_
    rw [show (nI off + nI l : Int32) = nI (off + l) from nI_add off l]
    refine RQ.iastN (j := f) rfl hZ3 (by omega) (by decide) ?_
    rw [up_nI]
    have hmx : max (sz f) (off + l) = off + l := by omega
    have hm4 : (H3.set 217 (kI 201 (fun j => nI (va_up sz f (off + l) j))))[195]? = _ := (set_far (by decide)).trans hm3
    have hZ4 : (H3.set 217 (kI 201 (fun j => nI (va_up sz f (off + l) j))))[217]? = some (kI 201 (fun j => nI (va_up sz f (off + l) j))) := get_set hZ3
    have hP4 := hP3.far (H' := (H3.set 217 (kI 201 (fun j => nI (va_up sz f (off + l) j))))) (fun a a1 a2 => set_far (by omega))
    have f4 : ∀ a, ¬ (a = 195 ∨ (217 ≤ a ∧ a < 223)) → (H3.set 217 (kI 201 (fun j => nI (va_up sz f (off + l) j))))[a]? = H[a]? := fun a ha => (set_far (by omega)).trans (f30 a (by omega))
    generalize (H3.set 217 (kI 201 (fun j => nI (va_up sz f (off + l) j)))) = H4 at hm4 hZ4 hP4 f4 ⊢
    have hans : nI (va_up sz f (off + l) f) = nI (max (sz f) (off + l)) := by rw [up_at, hmx]
    have hT4 : MTreeAt H4 kd pa (va_up sz f (max (sz f) (off + l))) nl nm := ⟨(f4 213 (by omega)).trans hT.1, (f4 214 (by omega)).trans hT.2.1, (f4 215 (by omega)).trans hT.2.2.1, (f4 216 (by omega)).trans hT.2.2.2.1, by rw [hmx]; exact hZ4⟩
    refine RQ.blk 3 (pc' := 156) (lv' := [(3, .int (nI l)), (0, .ref 196), (1, .int (nI f)), (2, .int (nI off))]) (st' := [.ref 196, .int 2, .ref 196]) (H' := _) (kc' := 0) (ks' := 0) rfl ?_
    refine RQ.get (ci := 12) rfl hm4 rfl rfl ?_
    refine RQ.blk 1 (pc' := 160) (lv' := [(3, .int (nI l)), (0, .ref 196), (1, .int (nI f)), (2, .int (nI off))]) (st' := [.int (nI f), .ref 218, .int 2, .ref 196]) (H' := _) (kc' := 0) (ks' := 0) rfl ?_
    refine RQ.ialdN (j := f) rfl hZ4 (by omega) (by decide) ?_
    refine RQ.callI (st' := []) rfl rfl rfl rfl rfl rfl (args_v [.int (nI (va_up sz f (off + l) f)), .int 2] [] rfl rfl (Nat.le_of_ble_eq_true rfl) rfl hm4 (Nat.le_of_ble_eq_true rfl)) (ri_mchanged1 (x := 2) (y := nI (va_up sz f (off + l) f)) hm4 (hV.far (fun a a1 a2 => f4 a (by omega)) (f4 223 (by omega))) k3 ((f4 205 (by omega)).trans h5) ((f4 206 (by omega)).trans h6) k4 k2) (fun z H5 hz => ?_)
    obtain ⟨ez, us', hm5, hV5, h55, f5⟩ := hz
    have g5 : ∀ a, ¬ (195 ≤ a ∧ a ≤ 205 ∧ a ≠ 196 ∧ a ≠ 197 ∨ a = 223) → H5[a]? = H4[a]? := fun a ha => f5 a (by omega) (by omega)
    exact RQ.done (c := 0) (s := 0) rfl rfl rfl rfl ⟨_, _, rfl, ez, ⟨us', bo, ba, hm5, hV5, h55, (g5 206 (by omega)).trans ((f4 206 (by omega)).trans h6), hR.far (fun a a1 => (g5 a (by omega)).trans (f4 a (by omega))), hT4.far (fun a a1 a2 => g5 a (by omega)), hP4.far (fun a a1 a2 => g5 a (by omega)), (g5 196 (by omega)).trans ((f4 196 (by omega)).trans h196), (g5 197 (by omega)).trans ((f4 197 (by omega)).trans h197)⟩, fun a ha => (g5 a (by omega)).trans (f4 a (by omega))⟩
  · refine RQ.brT rfl rfl rfl (cT_ge (sz f) (off + l)) ?_
    have hmx : (va_up sz f (max (sz f) (off + l))) = sz := by funext j; by_cases e : j = f; rw [e, up_at]; omega; rw [up_ne e]
    obtain ⟨H4, eH⟩ : ∃ H4, H4 = H3 := ⟨_, rfl⟩
    rw [← eH]
    rw [← eH] at hm3 hZ3 hP3 f30
    have hm4 := hm3
    have hP4 := hP3
    have f4 : ∀ a, ¬ (a = 195 ∨ (217 ≤ a ∧ a < 223)) → H4[a]? = H[a]? := fun a ha => f30 a (by omega)
    have hans : nI (sz f) = nI (max (sz f) (off + l)) := by rw [show max (sz f) (off + l) = sz f by omega]
    have hT4 : MTreeAt H4 kd pa (va_up sz f (max (sz f) (off + l))) nl nm := ⟨(f4 213 (by omega)).trans hT.1, (f4 214 (by omega)).trans hT.2.1, (f4 215 (by omega)).trans hT.2.2.1, (f4 216 (by omega)).trans hT.2.2.2.1, by rw [hmx]; exact hZ3⟩
    refine RQ.blk 3 (pc' := 156) (lv' := [(3, .int (nI l)), (0, .ref 196), (1, .int (nI f)), (2, .int (nI off))]) (st' := [.ref 196, .int 2, .ref 196]) (H' := _) (kc' := 0) (ks' := 0) rfl ?_
    refine RQ.get (ci := 12) rfl hm4 rfl rfl ?_
    refine RQ.blk 1 (pc' := 160) (lv' := [(3, .int (nI l)), (0, .ref 196), (1, .int (nI f)), (2, .int (nI off))]) (st' := [.int (nI f), .ref 218, .int 2, .ref 196]) (H' := _) (kc' := 0) (ks' := 0) rfl ?_
    refine RQ.ialdN (j := f) rfl hZ3 (by omega) (by decide) ?_
    refine RQ.callI (st' := []) rfl rfl rfl rfl rfl rfl (args_v [.int (nI (sz f)), .int 2] [] rfl rfl (Nat.le_of_ble_eq_true rfl) rfl hm4 (Nat.le_of_ble_eq_true rfl)) (ri_mchanged1 (x := 2) (y := nI (sz f)) hm4 (hV.far (fun a a1 a2 => f4 a (by omega)) (f4 223 (by omega))) k3 ((f4 205 (by omega)).trans h5) ((f4 206 (by omega)).trans h6) k4 k2) (fun z H5 hz => ?_)
    obtain ⟨ez, us', hm5, hV5, h55, f5⟩ := hz
    have g5 : ∀ a, ¬ (195 ≤ a ∧ a ≤ 205 ∧ a ≠ 196 ∧ a ≠ 197 ∨ a = 223) → H5[a]? = H4[a]? := fun a ha => f5 a (by omega) (by omega)
    exact RQ.done (c := 0) (s := 0) rfl rfl rfl rfl ⟨_, _, rfl, ez, ⟨us', bo, ba, hm5, hV5, h55, (g5 206 (by omega)).trans ((f4 206 (by omega)).trans h6), hR.far (fun a a1 => (g5 a (by omega)).trans (f4 a (by omega))), hT4.far (fun a a1 a2 => g5 a (by omega)), hP4.far (fun a a1 a2 => g5 a (by omega)), (g5 196 (by omega)).trans ((f4 196 (by omega)).trans h196), (g5 197 (by omega)).trans ((f4 197 (by omega)).trans h197)⟩, fun a ha => (g5 a (by omega)).trans (f4 a (by omega))⟩
