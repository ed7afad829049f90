/-! ===== write of the reference with arguments refused; written by wip/gen/refi10.py ===== -/
set_option maxRecDepth 20000 in
theorem ri_mwrite_bad {sc : Nat × (Nat → Int32)} {d l : Nat} {H : aH} {fa dn cw cl rs : Int32} {li : Nat} {tb : Nat → Int8} {g0 : Nat → Int8} {p : Nat} {ms : List aMV} {op : Nat → Bool} {se : Nat → Nat} {wss : Nat → List aE} {kd pa sz nl : Nat → Nat} {nm : Nat → Int8} {ps : List aPc} {x y : Int32} (h : RefI H fa li dn cw cl tb l rs g0 p ms op se wss kd pa sz nl nm ps) (hk : RefOk l p ms se kd pa sz nl ps) (hbad : ¬ ((∃ t, x = nI t ∧ t < 201) ∧ 1 ≤ l ∧ ∃ s, y = nI s ∧ s + l ≤ 16384)) : RI sc (d + 5) mr_322 [.ref 196, .int x, .int y] H (fun x H' => x = 0 ∧ RefI H' 1 li dn cw cl tb l rs g0 p ms op se wss kd pa sz nl nm ps ∧ ∀ a, ¬ (195 ≤ a ∧ a < 224) → H'[a]? = H[a]?) := by
  obtain ⟨us, ba, bo, hm, hV, h5, h6, hR, hT, hP, h196, h197⟩ := h
  obtain ⟨k1, k2, k3, k4, k5, k6, k7, k8⟩ := hk
  refine RI.of ?_
  refine RQ.blk 2 (pc' := 2) (lv' := [(0, .ref 196), (1, .int x), (2, .int y)]) (st' := [.int 0, .ref 196]) (H' := _) (kc' := 0) (ks' := 0) rfl ?_
  refine RQ.put (ci := 12) rfl hm rfl rfl (Nat.le_of_ble_eq_true rfl) ?_
  have hm1 : (H.set 195 (kO 12 (mfs 0 (nI li) dn cw cl (nI l) rs (nI p) (nI ms.length) (nI us) (nI ps.length) (nI (plen ps)) ba bo)))[195]? = some (kO 12 (mfs 0 (nI li) dn cw cl (nI l) rs (nI p) (nI ms.length) (nI us) (nI ps.length) (nI (plen ps)) ba bo)) := get_set hm
  have f1 : ∀ a, a ≠ 195 → (H.set 195 (kO 12 (mfs 0 (nI li) dn cw cl (nI l) rs (nI p) (nI ms.length) (nI us) (nI ps.length) (nI (plen ps)) ba bo)))[a]? = H[a]? := fun a ha => set_far ha
  show RQ _ _ _ 5 [(0, .ref 196), (1, .int x), (2, .int y)] [] (H.set 195 (kO 12 (mfs 0 (nI li) dn cw cl (nI l) rs (nI p) (nI ms.length) (nI us) (nI ps.length) (nI (plen ps)) ba bo))) 0 0 _
  generalize (H.set 195 (kO 12 (mfs 0 (nI li) dn cw cl (nI l) rs (nI p) (nI ms.length) (nI us) (nI ps.length) (nI (plen ps)) ba bo))) = H1 at hm1 f1 ⊢
  have hV1 := hV.far (fun a a1 a2 => f1 a (by omega)) (f1 223 (by decide))
  have h51 := (f1 205 (by decide)).trans h5
  have h61 := (f1 206 (by decide)).trans h6
  have hR1 := hR.far (fun a a1 => f1 a (by omega))
  have hT1 := hT.far (fun a a1 a2 => f1 a (by omega))
  have hP1 := hP.far (fun a a1 a2 => f1 a (by omega))
  have h1961 := (f1 196 (by decide)).trans h196
  have h1971 := (f1 197 (by decide)).trans h197
  refine RQ.blk 3 (pc' := 10) (lv' := [(0, .ref 196), (1, .int x), (2, .int y)]) (st' := [.int 201, .int x, .ref 196]) (H' := _) (kc' := 0) (ks' := 0) rfl ?_
  rcases pk_ix x (n := 201) (by decide) with hx | hx | ⟨t, ht, rfl⟩
  ·
    refine RQ.call (v := some (.int 1)) (st' := []) rfl rfl rfl rfl rfl rfl (args_v [.int 201, .int x] [] rfl rfl (Nat.le_of_ble_eq_true rfl) rfl hm1 (Nat.le_of_ble_eq_true rfl)) (rc_outX (m := 201) (Or.inl hx)) ?_
    refine RQ.brT rfl rfl rfl (by decide) ?_
    refine RQ.blk 2 (pc' := 42) (lv' := [(0, .ref 196), (1, .int x), (2, .int y)]) (st' := [.int 1, .ref 196]) (H' := _) (kc' := 0) (ks' := 0) rfl ?_
    refine RQ.call (v := some (.int 0)) (st' := []) rfl rfl rfl rfl rfl rfl (args_v [.int 1] [] rfl rfl (Nat.le_of_ble_eq_true rfl) rfl hm1 (Nat.le_of_ble_eq_true rfl)) (rc_mfail hm1 rfl) ?_
    exact RQ.done (c := 0) (s := 0) rfl rfl rfl rfl ⟨_, _, rfl, rfl, ⟨us, ba, bo, get_set hm1, hV1.far (fun a a1 a2 => set_far (by omega)) (set_far (by decide)), (set_far (by decide)).trans h51, (set_far (by decide)).trans h61, hR1.far (fun a a1 => set_far (by omega)), hT1.far (fun a a1 a2 => set_far (by omega)), hP1.far (fun a a1 a2 => set_far (by omega)), (set_far (by decide)).trans h1961, (set_far (by decide)).trans h1971⟩, fun a ha => (set_far (by omega)).trans (f1 a (by omega))⟩
  ·
    refine RQ.call (v := some (.int 1)) (st' := []) rfl rfl rfl rfl rfl rfl (args_v [.int 201, .int x] [] rfl rfl (Nat.le_of_ble_eq_true rfl) rfl hm1 (Nat.le_of_ble_eq_true rfl)) (rc_outX (m := 201) (Or.inr (Int32.not_lt.mpr hx))) ?_
    refine RQ.brT rfl rfl rfl (by decide) ?_
    refine RQ.blk 2 (pc' := 42) (lv' := [(0, .ref 196), (1, .int x), (2, .int y)]) (st' := [.int 1, .ref 196]) (H' := _) (kc' := 0) (ks' := 0) rfl ?_
    refine RQ.call (v := some (.int 0)) (st' := []) rfl rfl rfl rfl rfl rfl (args_v [.int 1] [] rfl rfl (Nat.le_of_ble_eq_true rfl) rfl hm1 (Nat.le_of_ble_eq_true rfl)) (rc_mfail hm1 rfl) ?_
    exact RQ.done (c := 0) (s := 0) rfl rfl rfl rfl ⟨_, _, rfl, rfl, ⟨us, ba, bo, get_set hm1, hV1.far (fun a a1 a2 => set_far (by omega)) (set_far (by decide)), (set_far (by decide)).trans h51, (set_far (by decide)).trans h61, hR1.far (fun a a1 => set_far (by omega)), hT1.far (fun a a1 a2 => set_far (by omega)), hP1.far (fun a a1 a2 => set_far (by omega)), (set_far (by decide)).trans h1961, (set_far (by decide)).trans h1971⟩, fun a ha => (set_far (by omega)).trans (f1 a (by omega))⟩
  ·
    refine RQ.call (v := some (.int 0)) (st' := []) rfl rfl rfl rfl rfl rfl (args_v [.int 201, .int (nI t)] [] rfl rfl (Nat.le_of_ble_eq_true rfl) rfl hm1 (Nat.le_of_ble_eq_true rfl)) (rc_out (v := t) (m := 201) ht (by decide)) ?_
    refine RQ.brF rfl rfl rfl (by decide) ?_
    refine RQ.blk 1 (pc' := 17) (lv' := [(0, .ref 196), (1, .int (nI t)), (2, .int y)]) (st' := [.ref 196]) (H' := _) (kc' := 0) (ks' := 0) rfl ?_
    refine RQ.get (ci := 12) rfl hm1 rfl rfl ?_
    refine RQ.blk 1 (pc' := 21) (lv' := [(0, .ref 196), (1, .int (nI t)), (2, .int y)]) (st' := [.int 1, .int (nI l)]) (H' := _) (kc' := 0) (ks' := 0) rfl ?_
    by_cases hl : l < 1
    · refine RQ.brT rfl rfl rfl (cT_lt l 1) ?_
      refine RQ.blk 2 (pc' := 42) (lv' := [(0, .ref 196), (1, .int (nI t)), (2, .int y)]) (st' := [.int 1, .ref 196]) (H' := _) (kc' := 0) (ks' := 0) rfl ?_
      refine RQ.call (v := some (.int 0)) (st' := []) rfl rfl rfl rfl rfl rfl (args_v [.int 1] [] rfl rfl (Nat.le_of_ble_eq_true rfl) rfl hm1 (Nat.le_of_ble_eq_true rfl)) (rc_mfail hm1 rfl) ?_
      exact RQ.done (c := 0) (s := 0) rfl rfl rfl rfl ⟨_, _, rfl, rfl, ⟨us, ba, bo, get_set hm1, hV1.far (fun a a1 a2 => set_far (by omega)) (set_far (by decide)), (set_far (by decide)).trans h51, (set_far (by decide)).trans h61, hR1.far (fun a a1 => set_far (by omega)), hT1.far (fun a a1 a2 => set_far (by omega)), hP1.far (fun a a1 a2 => set_far (by omega)), (set_far (by decide)).trans h1961, (set_far (by decide)).trans h1971⟩, fun a ha => (set_far (by omega)).trans (f1 a (by omega))⟩
    · refine RQ.brF rfl rfl rfl (cF_lt l 1) ?_
      refine RQ.blk 1 (pc' := 25) (lv' := [(0, .ref 196), (1, .int (nI t)), (2, .int y)]) (st' := [.int y]) (H' := _) (kc' := 0) (ks' := 0) rfl ?_
      rcases pk_ix y (n := 16385) (by decide) with hy | hy | ⟨s, hs, rfl⟩
      ·
        refine RQ.brT rfl rfl rfl (decide_eq_true hy) ?_
        refine RQ.blk 2 (pc' := 42) (lv' := [(0, .ref 196), (1, .int (nI t)), (2, .int y)]) (st' := [.int 1, .ref 196]) (H' := _) (kc' := 0) (ks' := 0) rfl ?_
        refine RQ.call (v := some (.int 0)) (st' := []) rfl rfl rfl rfl rfl rfl (args_v [.int 1] [] rfl rfl (Nat.le_of_ble_eq_true rfl) rfl hm1 (Nat.le_of_ble_eq_true rfl)) (rc_mfail hm1 rfl) ?_
        exact RQ.done (c := 0) (s := 0) rfl rfl rfl rfl ⟨_, _, rfl, rfl, ⟨us, ba, bo, get_set hm1, hV1.far (fun a a1 a2 => set_far (by omega)) (set_far (by decide)), (set_far (by decide)).trans h51, (set_far (by decide)).trans h61, hR1.far (fun a a1 => set_far (by omega)), hT1.far (fun a a1 a2 => set_far (by omega)), hP1.far (fun a a1 a2 => set_far (by omega)), (set_far (by decide)).trans h1961, (set_far (by decide)).trans h1971⟩, fun a ha => (set_far (by omega)).trans (f1 a (by omega))⟩
      ·
        have hy2 : nI (16384 - l) < y := Int32.lt_of_lt_of_le (of_decide_eq_true (cT_lt (x := nI (16384 - l)) (y := nI 16385) (16384 - l) 16385 (by omega) (by omega) rfl rfl)) hy
        have hy0 : ¬ y < 0 := Int32.not_lt.mpr (Int32.le_trans (by decide : (0 : Int32) ≤ nI 16385) hy)
        refine RQ.brF rfl rfl rfl (decide_eq_false hy0) ?_
        refine RQ.blk 3 (pc' := 33) (lv' := [(0, .ref 196), (1, .int (nI t)), (2, .int y)]) (st' := [.ref 196, .int 16384, .int y]) (H' := _) (kc' := 0) (ks' := 0) rfl ?_
        refine RQ.get (ci := 12) rfl hm1 rfl rfl ?_
        refine RQ.blk 1 (pc' := 37) (lv' := [(0, .ref 196), (1, .int (nI t)), (2, .int y)]) (st' := [.int (16384 - nI l), .int y]) (H' := _) (kc' := 0) (ks' := 0) rfl ?_
        rw [show (16384 - nI l : Int32) = nI (16384 - l) from pk_sub (a := 16384) (b := l) (by omega)]
        refine RQ.brF rfl rfl rfl (decide_eq_false (Int32.not_le.mpr hy2)) ?_
        refine RQ.blk 2 (pc' := 42) (lv' := [(0, .ref 196), (1, .int (nI t)), (2, .int y)]) (st' := [.int 1, .ref 196]) (H' := _) (kc' := 0) (ks' := 0) rfl ?_
        refine RQ.call (v := some (.int 0)) (st' := []) rfl rfl rfl rfl rfl rfl (args_v [.int 1] [] rfl rfl (Nat.le_of_ble_eq_true rfl) rfl hm1 (Nat.le_of_ble_eq_true rfl)) (rc_mfail hm1 rfl) ?_
        exact RQ.done (c := 0) (s := 0) rfl rfl rfl rfl ⟨_, _, rfl, rfl, ⟨us, ba, bo, get_set hm1, hV1.far (fun a a1 a2 => set_far (by omega)) (set_far (by decide)), (set_far (by decide)).trans h51, (set_far (by decide)).trans h61, hR1.far (fun a a1 => set_far (by omega)), hT1.far (fun a a1 a2 => set_far (by omega)), hP1.far (fun a a1 a2 => set_far (by omega)), (set_far (by decide)).trans h1961, (set_far (by decide)).trans h1971⟩, fun a ha => (set_far (by omega)).trans (f1 a (by omega))⟩
      ·
        have hs2 : ¬ s + l ≤ 16384 := fun e => hbad ⟨⟨t, rfl, ht⟩, by omega, ⟨s, rfl, e⟩⟩
        refine RQ.brF rfl rfl rfl (cF_lt s 0) ?_
        refine RQ.blk 3 (pc' := 33) (lv' := [(0, .ref 196), (1, .int (nI t)), (2, .int (nI s))]) (st' := [.ref 196, .int 16384, .int (nI s)]) (H' := _) (kc' := 0) (ks' := 0) rfl ?_
        refine RQ.get (ci := 12) rfl hm1 rfl rfl ?_
        refine RQ.blk 1 (pc' := 37) (lv' := [(0, .ref 196), (1, .int (nI t)), (2, .int (nI s))]) (st' := [.int (16384 - nI l), .int (nI s)]) (H' := _) (kc' := 0) (ks' := 0) rfl ?_
        rw [show (16384 - nI l : Int32) = nI (16384 - l) from pk_sub (a := 16384) (b := l) (by omega)]
        refine RQ.brF rfl rfl rfl (cF_le s (16384 - l)) ?_
        refine RQ.blk 2 (pc' := 42) (lv' := [(0, .ref 196), (1, .int (nI t)), (2, .int (nI s))]) (st' := [.int 1, .ref 196]) (H' := _) (kc' := 0) (ks' := 0) rfl ?_
        refine RQ.call (v := some (.int 0)) (st' := []) rfl rfl rfl rfl rfl rfl (args_v [.int 1] [] rfl rfl (Nat.le_of_ble_eq_true rfl) rfl hm1 (Nat.le_of_ble_eq_true rfl)) (rc_mfail hm1 rfl) ?_
        exact RQ.done (c := 0) (s := 0) rfl rfl rfl rfl ⟨_, _, rfl, rfl, ⟨us, ba, bo, get_set hm1, hV1.far (fun a a1 a2 => set_far (by omega)) (set_far (by decide)), (set_far (by decide)).trans h51, (set_far (by decide)).trans h61, hR1.far (fun a a1 => set_far (by omega)), hT1.far (fun a a1 a2 => set_far (by omega)), hP1.far (fun a a1 a2 => set_far (by omega)), (set_far (by decide)).trans h1961, (set_far (by decide)).trans h1971⟩, fun a ha => (set_far (by omega)).trans (f1 a (by omega))⟩
