/-! ===== rename of the reference with arguments refused; written by wip/gen/refi12.py ===== -/
/-- a name that may be -/
def nmOk (tb : Nat → Int8) (i n : Nat) : Prop := 1 ≤ n ∧ n ≤ 30 ∧ noSl tb i n
theorem rc_nmT {sc : Nat × (Nat → Int32)} {d i n : Nat} {H : aH} {fa li dn cw cl tp rs pr ve us pi hu : Int32} {ba bo : Nat} {g : Nat → Int8} (hm : H[195]? = some (kO 12 (mfs fa li dn cw cl tp rs pr ve us pi hu ba bo))) (hg : H[196]? = some (kB 2000 g)) (hin : i + n ≤ 2000) (h : nmOk g i n) : RC sc d mr_305 [.ref 196, .int (nI i), .int (nI n)] H (.inl (some (.int 1))) H 0 0 := rc_named1 hm hg (by decide) hin h.1 h.2.1 h.2.2
theorem rc_nmF {sc : Nat × (Nat → Int32)} {d i n : Nat} {H : aH} {fa li dn cw cl tp rs pr ve us pi hu : Int32} {ba bo : Nat} {g : Nat → Int8} (hm : H[195]? = some (kO 12 (mfs fa li dn cw cl tp rs pr ve us pi hu ba bo))) (hg : H[196]? = some (kB 2000 g)) (hin : i + n ≤ 2000) (h : ¬ nmOk g i n) : RC sc d mr_305 [.ref 196, .int (nI i), .int (nI n)] H (.inl (some (.int 0))) H 0 0 := by
  by_cases hl : 1 ≤ n ∧ n ≤ 30
  · exact rc_named0 hm hg (by decide) hin hl.1 hl.2 (fun e => h ⟨hl.1, hl.2, e⟩)
  · exact rc_namedL (nI_rng (by omega) hl)
theorem rc_mleastT {sc : Nat × (Nat → Int32)} {d : Nat} {H : aH} {x y : Int32} (h : x < y) : RC sc d mr_318 [.ref 196, .int x, .int y] H (.inl (some (.int x))) H 0 0 := by
  refine RP.blk 2 (pc' := 2) (lv' := [(0, .ref 196), (1, .int x), (2, .int y)]) (st' := [.int y, .int x]) (H' := _) (kc' := 0) (ks' := 0) rfl ?_
  refine RP.brF rfl rfl rfl (decide_eq_false (Int32.not_le.mpr h)) ?_
  refine RP.blk 2 (pc' := 10) (lv' := [(0, .ref 196), (1, .int x), (2, .int y)]) (st' := [.int x]) (H' := _) (kc' := 0) (ks' := 0) rfl ?_
  exact RP.done (c := 0) (s := 0) rfl rfl rfl rfl
theorem rc_mleastF {sc : Nat × (Nat → Int32)} {d : Nat} {H : aH} {x y : Int32} (h : ¬ x < y) : RC sc d mr_318 [.ref 196, .int x, .int y] H (.inl (some (.int y))) H 0 0 := by
  refine RP.blk 2 (pc' := 2) (lv' := [(0, .ref 196), (1, .int x), (2, .int y)]) (st' := [.int y, .int x]) (H' := _) (kc' := 0) (ks' := 0) rfl ?_
  refine RP.brT rfl rfl rfl (decide_eq_true (Int32.not_lt.mp h)) ?_
  refine RP.blk 1 (pc' := 10) (lv' := [(0, .ref 196), (1, .int x), (2, .int y)]) (st' := [.int y]) (H' := _) (kc' := 0) (ks' := 0) rfl ?_
  exact RP.done (c := 0) (s := 0) rfl rfl rfl rfl
set_option maxRecDepth 20000 in
theorem ri_mrename_bad {sc : Nat × (Nat → Int32)} {d l : Nat} {H : aH} {fa dn cw cl rs : Int32} {li : Nat} {tb : Nat → Int8} {g0 : Nat → Int8} {p : Nat} {ms : List aMV} {op : Nat → Bool} {se : Nat → Nat} {wss : Nat → List aE} {kd pa sz nl : Nat → Nat} {nm : Nat → Int8} {ps : List aPc} {x y z : Int32} (h : RefI H fa li dn cw cl tb l rs g0 p ms op se wss kd pa sz nl nm ps) (hk : RefOk l p ms se kd pa sz nl ps) (hbad : ¬ ((∃ t, x = nI t ∧ t < 201) ∧ (∃ t, y = nI t ∧ t < 201) ∧ ∃ k, z = nI k ∧ k ≤ l ∧ nmOk tb 0 k ∧ nmOk tb k (l - k))) : RI sc (d + 5) mr_317 [.ref 196, .int x, .int y, .int z] H (fun x H' => x = 0 ∧ RefI H' 1 li dn cw cl tb l rs g0 p ms op se wss kd pa sz nl nm ps ∧ ∀ a, ¬ (195 ≤ a ∧ a < 224) → H'[a]? = H[a]?) := by
  obtain ⟨us, ba, bo, hm, hV, h5, h6, hR, hT, hP, h196, h197⟩ := h
  obtain ⟨k1, k2, k3, k4, k5, k6, k7, k8⟩ := hk
  refine RI.of ?_
  refine RQ.blk 2 (pc' := 2) (lv' := [(0, .ref 196), (1, .int x), (2, .int y), (3, .int z)]) (st' := [.int 0, .ref 196]) (H' := _) (kc' := 0) (ks' := 0) rfl ?_
  refine RQ.put (ci := 12) rfl hm rfl rfl (Nat.le_of_ble_eq_true rfl) ?_
  have hm1 : (H.set 195 (kO 12 (mfs 0 (nI li) dn cw cl (nI l) rs (nI p) (nI ms.length) (nI us) (nI ps.length) (nI (plen ps)) ba bo)))[195]? = some (kO 12 (mfs 0 (nI li) dn cw cl (nI l) rs (nI p) (nI ms.length) (nI us) (nI ps.length) (nI (plen ps)) ba bo)) := get_set hm
  have f1 : ∀ a, a ≠ 195 → (H.set 195 (kO 12 (mfs 0 (nI li) dn cw cl (nI l) rs (nI p) (nI ms.length) (nI us) (nI ps.length) (nI (plen ps)) ba bo)))[a]? = H[a]? := fun a ha => set_far ha
  show RQ _ _ _ 5 [(0, .ref 196), (1, .int x), (2, .int y), (3, .int z)] [] (H.set 195 (kO 12 (mfs 0 (nI li) dn cw cl (nI l) rs (nI p) (nI ms.length) (nI us) (nI ps.length) (nI (plen ps)) ba bo))) 0 0 _
  generalize (H.set 195 (kO 12 (mfs 0 (nI li) dn cw cl (nI l) rs (nI p) (nI ms.length) (nI us) (nI ps.length) (nI (plen ps)) ba bo))) = H1 at hm1 f1 ⊢
  have hV1 := hV.far (fun a a1 a2 => f1 a (by omega)) (f1 223 (by decide))
  have h51 := (f1 205 (by decide)).trans h5
  have h61 := (f1 206 (by decide)).trans h6
  have hR1 := hR.far (fun a a1 => f1 a (by omega))
  have hT1 := hT.far (fun a a1 a2 => f1 a (by omega))
  have hP1 := hP.far (fun a a1 a2 => f1 a (by omega))
  have h1961 := (f1 196 (by decide)).trans h196
  have h1971 := (f1 197 (by decide)).trans h197
  refine RQ.blk 3 (pc' := 10) (lv' := [(0, .ref 196), (1, .int x), (2, .int y), (3, .int z)]) (st' := [.int 201, .int x, .ref 196]) (H' := _) (kc' := 0) (ks' := 0) rfl ?_
  rcases pk_ix x (n := 201) (by decide) with hx | hx | ⟨s, hs, rfl⟩
  ·
    refine RQ.call (v := some (.int 1)) (st' := []) rfl rfl rfl rfl rfl rfl (args_v [.int 201, .int x] [] rfl rfl (Nat.le_of_ble_eq_true rfl) rfl hm1 (Nat.le_of_ble_eq_true rfl)) (rc_outX (m := 201) (Or.inl hx)) ?_
    refine RQ.brT rfl rfl rfl (by decide) ?_
    refine RQ.blk 2 (pc' := 68) (lv' := [(0, .ref 196), (1, .int x), (2, .int y), (3, .int z)]) (st' := [.int 1, .ref 196]) (H' := _) (kc' := 0) (ks' := 0) rfl ?_
    refine RQ.call (v := some (.int 0)) (st' := []) rfl rfl rfl rfl rfl rfl (args_v [.int 1] [] rfl rfl (Nat.le_of_ble_eq_true rfl) rfl hm1 (Nat.le_of_ble_eq_true rfl)) (rc_mfail hm1 rfl) ?_
    exact RQ.done (c := 0) (s := 0) rfl rfl rfl rfl ⟨_, _, rfl, rfl, ⟨us, ba, bo, get_set hm1, hV1.far (fun a a1 a2 => set_far (by omega)) (set_far (by decide)), (set_far (by decide)).trans h51, (set_far (by decide)).trans h61, hR1.far (fun a a1 => set_far (by omega)), hT1.far (fun a a1 a2 => set_far (by omega)), hP1.far (fun a a1 a2 => set_far (by omega)), (set_far (by decide)).trans h1961, (set_far (by decide)).trans h1971⟩, fun a ha => (set_far (by omega)).trans (f1 a (by omega))⟩
  ·
    refine RQ.call (v := some (.int 1)) (st' := []) rfl rfl rfl rfl rfl rfl (args_v [.int 201, .int x] [] rfl rfl (Nat.le_of_ble_eq_true rfl) rfl hm1 (Nat.le_of_ble_eq_true rfl)) (rc_outX (m := 201) (Or.inr (Int32.not_lt.mpr hx))) ?_
    refine RQ.brT rfl rfl rfl (by decide) ?_
    refine RQ.blk 2 (pc' := 68) (lv' := [(0, .ref 196), (1, .int x), (2, .int y), (3, .int z)]) (st' := [.int 1, .ref 196]) (H' := _) (kc' := 0) (ks' := 0) rfl ?_
    refine RQ.call (v := some (.int 0)) (st' := []) rfl rfl rfl rfl rfl rfl (args_v [.int 1] [] rfl rfl (Nat.le_of_ble_eq_true rfl) rfl hm1 (Nat.le_of_ble_eq_true rfl)) (rc_mfail hm1 rfl) ?_
    exact RQ.done (c := 0) (s := 0) rfl rfl rfl rfl ⟨_, _, rfl, rfl, ⟨us, ba, bo, get_set hm1, hV1.far (fun a a1 a2 => set_far (by omega)) (set_far (by decide)), (set_far (by decide)).trans h51, (set_far (by decide)).trans h61, hR1.far (fun a a1 => set_far (by omega)), hT1.far (fun a a1 a2 => set_far (by omega)), hP1.far (fun a a1 a2 => set_far (by omega)), (set_far (by decide)).trans h1961, (set_far (by decide)).trans h1971⟩, fun a ha => (set_far (by omega)).trans (f1 a (by omega))⟩
  ·
    refine RQ.call (v := some (.int 0)) (st' := []) rfl rfl rfl rfl rfl rfl (args_v [.int 201, .int (nI s)] [] rfl rfl (Nat.le_of_ble_eq_true rfl) rfl hm1 (Nat.le_of_ble_eq_true rfl)) (rc_out (v := s) (m := 201) hs (by decide)) ?_
    refine RQ.brF rfl rfl rfl (by decide) ?_
    refine RQ.blk 3 (pc' := 21) (lv' := [(0, .ref 196), (1, .int (nI s)), (2, .int y), (3, .int z)]) (st' := [.int 201, .int y, .ref 196]) (H' := _) (kc' := 0) (ks' := 0) rfl ?_
    rcases pk_ix y (n := 201) (by decide) with hx | hx | ⟨t, ht, rfl⟩
    ·
      refine RQ.call (v := some (.int 1)) (st' := []) rfl rfl rfl rfl rfl rfl (args_v [.int 201, .int y] [] rfl rfl (Nat.le_of_ble_eq_true rfl) rfl hm1 (Nat.le_of_ble_eq_true rfl)) (rc_outX (m := 201) (Or.inl hx)) ?_
      refine RQ.brT rfl rfl rfl (by decide) ?_
      refine RQ.blk 2 (pc' := 68) (lv' := [(0, .ref 196), (1, .int (nI s)), (2, .int y), (3, .int z)]) (st' := [.int 1, .ref 196]) (H' := _) (kc' := 0) (ks' := 0) rfl ?_
      refine RQ.call (v := some (.int 0)) (st' := []) rfl rfl rfl rfl rfl rfl (args_v [.int 1] [] rfl rfl (Nat.le_of_ble_eq_true rfl) rfl hm1 (Nat.le_of_ble_eq_true rfl)) (rc_mfail hm1 rfl) ?_
      exact RQ.done (c := 0) (s := 0) rfl rfl rfl rfl ⟨_, _, rfl, rfl, ⟨us, ba, bo, get_set hm1, hV1.far (fun a a1 a2 => set_far (by omega)) (set_far (by decide)), (set_far (by decide)).trans h51, (set_far (by decide)).trans h61, hR1.far (fun a a1 => set_far (by omega)), hT1.far (fun a a1 a2 => set_far (by omega)), hP1.far (fun a a1 a2 => set_far (by omega)), (set_far (by decide)).trans h1961, (set_far (by decide)).trans h1971⟩, fun a ha => (set_far (by omega)).trans (f1 a (by omega))⟩
    ·
      refine RQ.call (v := some (.int 1)) (st' := []) rfl rfl rfl rfl rfl rfl (args_v [.int 201, .int y] [] rfl rfl (Nat.le_of_ble_eq_true rfl) rfl hm1 (Nat.le_of_ble_eq_true rfl)) (rc_outX (m := 201) (Or.inr (Int32.not_lt.mpr hx))) ?_
      refine RQ.brT rfl rfl rfl (by decide) ?_
      refine RQ.blk 2 (pc' := 68) (lv' := [(0, .ref 196), (1, .int (nI s)), (2, .int y), (3, .int z)]) (st' := [.int 1, .ref 196]) (H' := _) (kc' := 0) (ks' := 0) rfl ?_
      refine RQ.call (v := some (.int 0)) (st' := []) rfl rfl rfl rfl rfl rfl (args_v [.int 1] [] rfl rfl (Nat.le_of_ble_eq_true rfl) rfl hm1 (Nat.le_of_ble_eq_true rfl)) (rc_mfail hm1 rfl) ?_
      exact RQ.done (c := 0) (s := 0) rfl rfl rfl rfl ⟨_, _, rfl, rfl, ⟨us, ba, bo, get_set hm1, hV1.far (fun a a1 a2 => set_far (by omega)) (set_far (by decide)), (set_far (by decide)).trans h51, (set_far (by decide)).trans h61, hR1.far (fun a a1 => set_far (by omega)), hT1.far (fun a a1 a2 => set_far (by omega)), hP1.far (fun a a1 a2 => set_far (by omega)), (set_far (by decide)).trans h1961, (set_far (by decide)).trans h1971⟩, fun a ha => (set_far (by omega)).trans (f1 a (by omega))⟩
    ·
      refine RQ.call (v := some (.int 0)) (st' := []) rfl rfl rfl rfl rfl rfl (args_v [.int 201, .int (nI t)] [] rfl rfl (Nat.le_of_ble_eq_true rfl) rfl hm1 (Nat.le_of_ble_eq_true rfl)) (rc_out (v := t) (m := 201) ht (by decide)) ?_
      refine RQ.brF rfl rfl rfl (by decide) ?_
      refine RQ.blk 5 (pc' := 32) (lv' := [(0, .ref 196), (1, .int (nI s)), (2, .int (nI t)), (3, .int z)]) (st' := [.ref 196, .int z, .ref 196, .int 0, .ref 196]) (H' := _) (kc' := 0) (ks' := 0) rfl ?_
      refine RQ.get (ci := 12) rfl hm1 rfl rfl ?_
      rcases pk_ix z (n := 2001) (by decide) with hz | hz | ⟨k, hk, rfl⟩
      ·
        have hzl : z < nI l := Int32.lt_of_lt_of_le hz (of_decide_eq_true (cT_le (x := 0) (y := nI l) 0 l (by omega) (by omega) rfl rfl))
        refine RQ.call (v := some (.int z)) (st' := [.int 0, .ref 196]) rfl rfl rfl rfl rfl rfl (args_v [.int (nI l), .int z] [.int 0, .ref 196] rfl rfl (Nat.le_of_ble_eq_true rfl) rfl hm1 (Nat.le_of_ble_eq_true rfl)) (rc_mleastT hzl) ?_
        refine RQ.call (v := some (.int 0)) (st' := []) rfl rfl rfl rfl rfl rfl (args_v [.int z, .int 0] [] rfl rfl (Nat.le_of_ble_eq_true rfl) rfl hm1 (Nat.le_of_ble_eq_true rfl)) (rc_namedL (i := 0) (x := z) (fun e => absurd (Int32.lt_of_lt_of_le hz (by decide : (0 : Int32) ≤ 1)) (Int32.not_lt.mpr e.1))) ?_
        refine RQ.brT rfl rfl rfl (by decide) ?_
        refine RQ.blk 2 (pc' := 68) (lv' := [(0, .ref 196), (1, .int (nI s)), (2, .int (nI t)), (3, .int z)]) (st' := [.int 1, .ref 196]) (H' := _) (kc' := 0) (ks' := 0) rfl ?_
        refine RQ.call (v := some (.int 0)) (st' := []) rfl rfl rfl rfl rfl rfl (args_v [.int 1] [] rfl rfl (Nat.le_of_ble_eq_true rfl) rfl hm1 (Nat.le_of_ble_eq_true rfl)) (rc_mfail hm1 rfl) ?_
        exact RQ.done (c := 0) (s := 0) rfl rfl rfl rfl ⟨_, _, rfl, rfl, ⟨us, ba, bo, get_set hm1, hV1.far (fun a a1 a2 => set_far (by omega)) (set_far (by decide)), (set_far (by decide)).trans h51, (set_far (by decide)).trans h61, hR1.far (fun a a1 => set_far (by omega)), hT1.far (fun a a1 a2 => set_far (by omega)), hP1.far (fun a a1 a2 => set_far (by omega)), (set_far (by decide)).trans h1961, (set_far (by decide)).trans h1971⟩, fun a ha => (set_far (by omega)).trans (f1 a (by omega))⟩
      ·
        have hlz : nI l < z := Int32.lt_of_lt_of_le (of_decide_eq_true (cT_lt (x := nI l) (y := nI 2001) l 2001 (by omega) (by omega) rfl rfl)) hz
        refine RQ.call (v := some (.int (nI l))) (st' := [.int 0, .ref 196]) rfl rfl rfl rfl rfl rfl (args_v [.int (nI l), .int z] [.int 0, .ref 196] rfl rfl (Nat.le_of_ble_eq_true rfl) rfl hm1 (Nat.le_of_ble_eq_true rfl)) (rc_mleastF (Int32.not_lt.mpr (Int32.le_of_lt hlz))) ?_
        by_cases hn1 : nmOk tb 0 l
        · refine RQ.call (v := some (.int 1)) (st' := []) rfl rfl rfl rfl rfl rfl (args_v [.int (nI l), .int 0] [] rfl rfl (Nat.le_of_ble_eq_true rfl) rfl hm1 (Nat.le_of_ble_eq_true rfl)) (rc_nmT (i := 0) (n := l) hm1 h1961 (by omega) hn1) ?_
          refine RQ.brF rfl rfl rfl (by decide) ?_
          refine RQ.blk 2 (pc' := 46) (lv' := [(0, .ref 196), (1, .int (nI s)), (2, .int (nI t)), (3, .int z)]) (st' := [.ref 196, .int z]) (H' := _) (kc' := 0) (ks' := 0) rfl ?_
          refine RQ.get (ci := 12) rfl hm1 rfl rfl ?_
          refine RQ.brT rfl rfl rfl (decide_eq_true hlz) ?_
          refine RQ.blk 2 (pc' := 68) (lv' := [(0, .ref 196), (1, .int (nI s)), (2, .int (nI t)), (3, .int z)]) (st' := [.int 1, .ref 196]) (H' := _) (kc' := 0) (ks' := 0) rfl ?_
          refine RQ.call (v := some (.int 0)) (st' := []) rfl rfl rfl rfl rfl rfl (args_v [.int 1] [] rfl rfl (Nat.le_of_ble_eq_true rfl) rfl hm1 (Nat.le_of_ble_eq_true rfl)) (rc_mfail hm1 rfl) ?_
          exact RQ.done (c := 0) (s := 0) rfl rfl rfl rfl ⟨_, _, rfl, rfl, ⟨us, ba, bo, get_set hm1, hV1.far (fun a a1 a2 => set_far (by omega)) (set_far (by decide)), (set_far (by decide)).trans h51, (set_far (by decide)).trans h61, hR1.far (fun a a1 => set_far (by omega)), hT1.far (fun a a1 a2 => set_far (by omega)), hP1.far (fun a a1 a2 => set_far (by omega)), (set_far (by decide)).trans h1961, (set_far (by decide)).trans h1971⟩, fun a ha => (set_far (by omega)).trans (f1 a (by omega))⟩
        · refine RQ.call (v := some (.int 0)) (st' := []) rfl rfl rfl rfl rfl rfl (args_v [.int (nI l), .int 0] [] rfl rfl (Nat.le_of_ble_eq_true rfl) rfl hm1 (Nat.le_of_ble_eq_true rfl)) (rc_nmF (i := 0) (n := l) hm1 h1961 (by omega) hn1) ?_
          refine RQ.brT rfl rfl rfl (by decide) ?_
          refine RQ.blk 2 (pc' := 68) (lv' := [(0, .ref 196), (1, .int (nI s)), (2, .int (nI t)), (3, .int z)]) (st' := [.int 1, .ref 196]) (H' := _) (kc' := 0) (ks' := 0) rfl ?_
          refine RQ.call (v := some (.int 0)) (st' := []) rfl rfl rfl rfl rfl rfl (args_v [.int 1] [] rfl rfl (Nat.le_of_ble_eq_true rfl) rfl hm1 (Nat.le_of_ble_eq_true rfl)) (rc_mfail hm1 rfl) ?_
          exact RQ.done (c := 0) (s := 0) rfl rfl rfl rfl ⟨_, _, rfl, rfl, ⟨us, ba, bo, get_set hm1, hV1.far (fun a a1 a2 => set_far (by omega)) (set_far (by decide)), (set_far (by decide)).trans h51, (set_far (by decide)).trans h61, hR1.far (fun a a1 => set_far (by omega)), hT1.far (fun a a1 a2 => set_far (by omega)), hP1.far (fun a a1 a2 => set_far (by omega)), (set_far (by decide)).trans h1961, (set_far (by decide)).trans h1971⟩, fun a ha => (set_far (by omega)).trans (f1 a (by omega))⟩
      ·
        refine RQ.call (v := some (.int (nI (min k l)))) (st' := [.int 0, .ref 196]) rfl rfl rfl rfl rfl rfl (args_v [.int (nI l), .int (nI k)] [.int 0, .ref 196] rfl rfl (Nat.le_of_ble_eq_true rfl) rfl hm1 (Nat.le_of_ble_eq_true rfl)) (rc_mleast (a := k) (b := l) (by omega) (by omega)) ?_
        by_cases hn1 : nmOk tb 0 (min k l)
        · refine RQ.call (v := some (.int 1)) (st' := []) rfl rfl rfl rfl rfl rfl (args_v [.int (nI (min k l)), .int 0] [] rfl rfl (Nat.le_of_ble_eq_true rfl) rfl hm1 (Nat.le_of_ble_eq_true rfl)) (rc_nmT (i := 0) (n := min k l) hm1 h1961 (by omega) hn1) ?_
          refine RQ.brF rfl rfl rfl (by decide) ?_
          refine RQ.blk 2 (pc' := 46) (lv' := [(0, .ref 196), (1, .int (nI s)), (2, .int (nI t)), (3, .int (nI k))]) (st' := [.ref 196, .int (nI k)]) (H' := _) (kc' := 0) (ks' := 0) rfl ?_
          refine RQ.get (ci := 12) rfl hm1 rfl rfl ?_
          by_cases hkl : k ≤ l
          · refine RQ.brF rfl rfl rfl (cF_gt k l) ?_
            refine RQ.blk 3 (pc' := 55) (lv' := [(0, .ref 196), (1, .int (nI s)), (2, .int (nI t)), (3, .int (nI k))]) (st' := [.ref 196, .int (nI k), .ref 196]) (H' := _) (kc' := 0) (ks' := 0) rfl ?_
            refine RQ.get (ci := 12) rfl hm1 rfl rfl ?_
            refine RQ.blk 2 (pc' := 60) (lv' := [(0, .ref 196), (1, .int (nI s)), (2, .int (nI t)), (3, .int (nI k))]) (st' := [.int (nI l - nI k), .int (nI k), .ref 196]) (H' := _) (kc' := 0) (ks' := 0) rfl ?_
            rw [show (nI l - nI k : Int32) = nI (l - k) from pk_sub (a := l) (b := k) (by omega)]
            have hn2 : ¬ nmOk tb k (l - k) := fun e => hbad ⟨⟨s, rfl, hs⟩, ⟨t, rfl, ht⟩, k, rfl, hkl, by rw [Nat.min_eq_left hkl] at hn1; exact hn1, e⟩
            refine RQ.call (v := some (.int 0)) (st' := []) rfl rfl rfl rfl rfl rfl (args_v [.int (nI (l - k)), .int (nI k)] [] rfl rfl (Nat.le_of_ble_eq_true rfl) rfl hm1 (Nat.le_of_ble_eq_true rfl)) (rc_nmF (i := k) (n := l - k) hm1 h1961 (by omega) hn2) ?_
            refine RQ.brF rfl rfl rfl (by decide) ?_
            refine RQ.blk 2 (pc' := 68) (lv' := [(0, .ref 196), (1, .int (nI s)), (2, .int (nI t)), (3, .int (nI k))]) (st' := [.int 1, .ref 196]) (H' := _) (kc' := 0) (ks' := 0) rfl ?_
            refine RQ.call (v := some (.int 0)) (st' := []) rfl rfl rfl rfl rfl rfl (args_v [.int 1] [] rfl rfl (Nat.le_of_ble_eq_true rfl) rfl hm1 (Nat.le_of_ble_eq_true rfl)) (rc_mfail hm1 rfl) ?_
            exact RQ.done (c := 0) (s := 0) rfl rfl rfl rfl ⟨_, _, rfl, rfl, ⟨us, ba, bo, get_set hm1, hV1.far (fun a a1 a2 => set_far (by omega)) (set_far (by decide)), (set_far (by decide)).trans h51, (set_far (by decide)).trans h61, hR1.far (fun a a1 => set_far (by omega)), hT1.far (fun a a1 a2 => set_far (by omega)), hP1.far (fun a a1 a2 => set_far (by omega)), (set_far (by decide)).trans h1961, (set_far (by decide)).trans h1971⟩, fun a ha => (set_far (by omega)).trans (f1 a (by omega))⟩
          · refine RQ.brT rfl rfl rfl (cT_gt k l) ?_
            refine RQ.blk 2 (pc' := 68) (lv' := [(0, .ref 196), (1, .int (nI s)), (2, .int (nI t)), (3, .int (nI k))]) (st' := [.int 1, .ref 196]) (H' := _) (kc' := 0) (ks' := 0) rfl ?_
            refine RQ.call (v := some (.int 0)) (st' := []) rfl rfl rfl rfl rfl rfl (args_v [.int 1] [] rfl rfl (Nat.le_of_ble_eq_true rfl) rfl hm1 (Nat.le_of_ble_eq_true rfl)) (rc_mfail hm1 rfl) ?_
            exact RQ.done (c := 0) (s := 0) rfl rfl rfl rfl ⟨_, _, rfl, rfl, ⟨us, ba, bo, get_set hm1, hV1.far (fun a a1 a2 => set_far (by omega)) (set_far (by decide)), (set_far (by decide)).trans h51, (set_far (by decide)).trans h61, hR1.far (fun a a1 => set_far (by omega)), hT1.far (fun a a1 a2 => set_far (by omega)), hP1.far (fun a a1 a2 => set_far (by omega)), (set_far (by decide)).trans h1961, (set_far (by decide)).trans h1971⟩, fun a ha => (set_far (by omega)).trans (f1 a (by omega))⟩
        · refine RQ.call (v := some (.int 0)) (st' := []) rfl rfl rfl rfl rfl rfl (args_v [.int (nI (min k l)), .int 0] [] rfl rfl (Nat.le_of_ble_eq_true rfl) rfl hm1 (Nat.le_of_ble_eq_true rfl)) (rc_nmF (i := 0) (n := min k l) hm1 h1961 (by omega) hn1) ?_
          refine RQ.brT rfl rfl rfl (by decide) ?_
          refine RQ.blk 2 (pc' := 68) (lv' := [(0, .ref 196), (1, .int (nI s)), (2, .int (nI t)), (3, .int (nI k))]) (st' := [.int 1, .ref 196]) (H' := _) (kc' := 0) (ks' := 0) rfl ?_
          refine RQ.call (v := some (.int 0)) (st' := []) rfl rfl rfl rfl rfl rfl (args_v [.int 1] [] rfl rfl (Nat.le_of_ble_eq_true rfl) rfl hm1 (Nat.le_of_ble_eq_true rfl)) (rc_mfail hm1 rfl) ?_
          exact RQ.done (c := 0) (s := 0) rfl rfl rfl rfl ⟨_, _, rfl, rfl, ⟨us, ba, bo, get_set hm1, hV1.far (fun a a1 a2 => set_far (by omega)) (set_far (by decide)), (set_far (by decide)).trans h51, (set_far (by decide)).trans h61, hR1.far (fun a a1 => set_far (by omega)), hT1.far (fun a a1 a2 => set_far (by omega)), hP1.far (fun a a1 a2 => set_far (by omega)), (set_far (by decide)).trans h1961, (set_far (by decide)).trans h1971⟩, fun a ha => (set_far (by omega)).trans (f1 a (by omega))⟩
