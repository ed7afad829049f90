/-! ===== room is made before a change; a log is cleared on call; class; for any states; written by wip/gen/roomm.py ===== -/
theorem rb_roomMade {sc : Nat × (Nat → Int32)} {d : Nat} {H : aH} {bl up cw cl cp cb : Int32} {P : Nat} {ok ok1 ok2 bad : aH → Prop} {gfs : List Value} (h0 : H[0]? = some (kO 11 (fvs bl (nI P) up cw cl cp cb))) (hg : H[190]? = some (kO 4 gfs)) (hR : RR sc (d + 5) P H ok1 bad) (hv1 : ∀ H', ok1 H' → H'[0]? = some (kO 11 (fvs bl (nI P) up cw cl cp cb)) ∧ (∃ tfs, H'[136]? = some (kO 8 tfs)) ∧ ∃ N vs, VersIs H' N vs ∧ (96 ≤ aloN vs → RE sc (d + 5) mr_97 [.ref 137, .int 0, .int (nI P)] H' ok2 bad) ∧ (aloN vs < 96 → ok2 H')) (hv2 : ∀ H', ok2 H' → ∃ fs, H'[0]? = some (kO 11 fs)) (hk : ∀ H', ok2 H' → RE sc (d + 5) mr_118 [.ref 1] H' ok bad) : RB sc (d + 6) mr_96 [.ref 1] H ok bad := by
  have hk2 : ∀ H2, ok2 H2 → RQ sc (d + 6) mr_96 42 [(0, .ref 1)] [] H2 0 0 (BQ ok bad) := by
    intro H2 hx2
    obtain ⟨fs2, h2⟩ := hv2 H2 hx2
    refine RQ.blk 1 (pc' := 43) (lv' := [(0, .ref 1)]) (st' := [.ref 1]) (H' := _) (kc' := 0) (ks' := 0) rfl ?_
    refine RQ.callTX (st' := []) rfl rfl rfl rfl rfl rfl (args_v [] [] rfl rfl (Nat.le_of_ble_eq_true rfl) rfl h2 (Nat.le_of_ble_eq_true rfl)) (hk H2 hx2) rfl (fun H3 hx3 => ?_) (fun H9 hbad => ?_)
    rotate_left
    · refine RQ.blk 1 (pc' := 50) (lv' := [(0, .ref 1)]) (st' := [.int 0]) (H' := _) (kc' := 0 + 1) (ks' := 0 + 6) rfl ?_
      exact RQ.done (c := 0) (s := 0) rfl rfl rfl rfl (Or.inr ⟨_, rfl, hbad⟩)
    refine RQ.blk 1 (pc' := 47) (lv' := [(0, .ref 1)]) (st' := [.int 1]) (H' := _) (kc' := 0) (ks' := 0) rfl ?_
    exact RQ.done (c := 0) (s := 0) rfl rfl rfl rfl (Or.inl ⟨_, rfl, hx3⟩)
  have hrest : ∀ H1, ok1 H1 → RQ sc (d + 6) mr_96 18 [(0, .ref 1)] [] H1 0 0 (BQ ok bad) := by
    intro H1 hx1
    obtain ⟨h0, ⟨tfs, ht⟩, N, vs, hV, hs1, hs2⟩ := hv1 H1 hx1
    obtain ⟨kf, kl, mo, pl, le, al, od, sp, sz, ss, hA, hsz, hac⟩ := hV.alo
    refine RQ.blk 1 (pc' := 19) (lv' := [(0, .ref 1)]) (st' := [.ref 1]) (H' := _) (kc' := 0) (ks' := 0) rfl ?_
    refine RQ.get (ci := 11) rfl h0 rfl rfl ?_
    refine RQ.get (ci := 10) rfl hA.1 rfl rfl ?_
    refine RQ.blk 1 (pc' := 27) (lv' := [(0, .ref 1)]) (st' := [.int 96, .int (nI (aloN vs))]) (H' := _) (kc' := 0) (ks' := 0) rfl ?_
    by_cases hz : aloN vs < 96
    · refine RQ.brT rfl rfl rfl (cT_lt (aloN vs) 96) ?_
      exact hk2 _ (hs2 hz)
    · refine RQ.brF rfl rfl rfl (cF_lt (aloN vs) 96) ?_
      refine RQ.blk 1 (pc' := 31) (lv' := [(0, .ref 1)]) (st' := [.ref 1]) (H' := _) (kc' := 0) (ks' := 0) rfl ?_
      refine RQ.get (ci := 11) rfl h0 rfl rfl ?_
      refine RQ.blk 2 (pc' := 36) (lv' := [(0, .ref 1)]) (st' := [.ref 1, .int 0, .ref 137]) (H' := _) (kc' := 0) (ks' := 0) rfl ?_
      refine RQ.get (ci := 11) rfl h0 rfl rfl ?_
      refine RQ.callTX (st' := []) rfl rfl rfl rfl rfl rfl (args_v [.int (nI P), .int 0] [] rfl rfl (Nat.le_of_ble_eq_true rfl) rfl ht (Nat.le_of_ble_eq_true rfl)) (hs1 (by omega)) rfl (fun H2 hx2 => ?_) (fun H9 hbad => ?_)
      rotate_left
      · refine RQ.blk 1 (pc' := 50) (lv' := [(0, .ref 1)]) (st' := [.int 0]) (H' := _) (kc' := 0 + 1) (ks' := 0 + 6) rfl ?_
        exact RQ.done (c := 0) (s := 0) rfl rfl rfl rfl (Or.inr ⟨_, rfl, hbad⟩)
      exact hk2 _ hx2
  refine RB.of ?_
  refine RQ.blk 1 (pc' := 1) (lv' := [(0, .ref 1)]) (st' := [.ref 1]) (H' := _) (kc' := 0) (ks' := 0) rfl ?_
  rcases hR with ⟨g0, g1⟩ | ⟨g0, g1⟩
  · refine RQ.call (v := some (.int 0)) (st' := []) rfl rfl rfl rfl rfl rfl (args_v [] [] rfl rfl (Nat.le_of_ble_eq_true rfl) rfl h0 (Nat.le_of_ble_eq_true rfl)) g0 ?_
    refine RQ.brT rfl rfl rfl (by decide) ?_
    exact hrest _ g1
  · refine RQ.call (v := some (.int 1)) (st' := []) rfl rfl rfl rfl rfl rfl (args_v [] [] rfl rfl (Nat.le_of_ble_eq_true rfl) rfl h0 (Nat.le_of_ble_eq_true rfl)) g0 ?_
    refine RQ.brF rfl rfl rfl (by decide) ?_
    refine RQ.blk 1 (pc' := 8) (lv' := [(0, .ref 1)]) (st' := [.ref 1]) (H' := _) (kc' := 0) (ks' := 0) rfl ?_
    refine RQ.get (ci := 11) rfl h0 rfl rfl ?_
    refine RQ.blk 1 (pc' := 12) (lv' := [(0, .ref 1)]) (st' := [.ref 1, .ref 191]) (H' := _) (kc' := 0) (ks' := 0) rfl ?_
    refine RQ.get (ci := 11) rfl h0 rfl rfl ?_
    refine RQ.callTX (st' := []) rfl rfl rfl rfl rfl rfl (args_v [.int (nI P)] [] rfl rfl (Nat.le_of_ble_eq_true rfl) rfl hg (Nat.le_of_ble_eq_true rfl)) g1 rfl (fun H1 hx1 => ?_) (fun H9 hbad => ?_)
    rotate_left
    · refine RQ.blk 1 (pc' := 50) (lv' := [(0, .ref 1)]) (st' := [.int 0]) (H' := _) (kc' := 0 + 1) (ks' := 0 + 6) rfl ?_
      exact RQ.done (c := 0) (s := 0) rfl rfl rfl rfl (Or.inr ⟨_, rfl, hbad⟩)
    exact hrest _ hx1
theorem rb_cleared {sc : Nat × (Nat → Int32)} {d : Nat} {H : aH} {bl up cw cl cp cb : Int32} {P : Nat} {ok ok1 ok2 bad : aH → Prop} {gfs : List Value} (h0 : H[0]? = some (kO 11 (fvs bl (nI P) up cw cl cp cb))) (hg : H[190]? = some (kO 4 gfs)) (hR : RR sc (d + 5) P H ok1 bad) (hv1 : ∀ H', ok1 H' → H'[0]? = some (kO 11 (fvs bl (nI P) up cw cl cp cb)) ∧ (∃ tfs, H'[136]? = some (kO 8 tfs))) (hk : ∀ H', ok1 H' → RE sc (d + 5) mr_118 [.ref 1] H' ok2 bad) (hv2 : ∀ H', ok2 H' → H'[0]? = some (kO 11 (fvs bl (nI P) up cw cl cp cb)) ∧ ∃ gfs, H'[190]? = some (kO 4 gfs)) (hc : ∀ H', ok2 H' → RE sc (d + 5) mr_140 [.ref 191, .int (nI P)] H' ok bad) : RB sc (d + 6) mr_174 [.ref 1] H ok bad := by
  have hrest : ∀ H1, ok1 H1 → RQ sc (d + 6) mr_174 18 [(0, .ref 1)] [] H1 0 0 (BQ ok bad) := by
    intro H1 hx1
    obtain ⟨h0, ⟨tfs, ht⟩⟩ := hv1 H1 hx1
    refine RQ.blk 1 (pc' := 19) (lv' := [(0, .ref 1)]) (st' := [.ref 1]) (H' := _) (kc' := 0) (ks' := 0) rfl ?_
    refine RQ.callTX (st' := []) rfl rfl rfl rfl rfl rfl (args_v [] [] rfl rfl (Nat.le_of_ble_eq_true rfl) rfl h0 (Nat.le_of_ble_eq_true rfl)) (hk H1 hx1) rfl (fun H2 hx2 => ?_) (fun H9 hbad => ?_)
    rotate_left
    · refine RQ.blk 1 (pc' := 37) (lv' := [(0, .ref 1)]) (st' := [.int 0]) (H' := _) (kc' := 0 + 1) (ks' := 0 + 6) rfl ?_
      exact RQ.done (c := 0) (s := 0) rfl rfl rfl rfl (Or.inr ⟨_, rfl, hbad⟩)
    obtain ⟨h2, gfs2, hg2⟩ := hv2 H2 hx2
    refine RQ.blk 1 (pc' := 23) (lv' := [(0, .ref 1)]) (st' := [.ref 1]) (H' := _) (kc' := 0) (ks' := 0) rfl ?_
    refine RQ.get (ci := 11) rfl h2 rfl rfl ?_
    refine RQ.blk 1 (pc' := 27) (lv' := [(0, .ref 1)]) (st' := [.ref 1, .ref 191]) (H' := _) (kc' := 0) (ks' := 0) rfl ?_
    refine RQ.get (ci := 11) rfl h2 rfl rfl ?_
    refine RQ.callTX (st' := []) rfl rfl rfl rfl rfl rfl (args_v [.int (nI P)] [] rfl rfl (Nat.le_of_ble_eq_true rfl) rfl hg2 (Nat.le_of_ble_eq_true rfl)) (hc H2 hx2) rfl (fun H3 hx3 => ?_) (fun H9 hbad => ?_)
    rotate_left
    · refine RQ.blk 1 (pc' := 37) (lv' := [(0, .ref 1)]) (st' := [.int 0]) (H' := _) (kc' := 0 + 1) (ks' := 0 + 6) rfl ?_
      exact RQ.done (c := 0) (s := 0) rfl rfl rfl rfl (Or.inr ⟨_, rfl, hbad⟩)
    refine RQ.blk 1 (pc' := 34) (lv' := [(0, .ref 1)]) (st' := [.int 1]) (H' := _) (kc' := 0) (ks' := 0) rfl ?_
    exact RQ.done (c := 0) (s := 0) rfl rfl rfl rfl (Or.inl ⟨_, rfl, hx3⟩)
  refine RB.of ?_
  refine RQ.blk 1 (pc' := 1) (lv' := [(0, .ref 1)]) (st' := [.ref 1]) (H' := _) (kc' := 0) (ks' := 0) rfl ?_
  rcases hR with ⟨g0, g1⟩ | ⟨g0, g1⟩
  · refine RQ.call (v := some (.int 0)) (st' := []) rfl rfl rfl rfl rfl rfl (args_v [] [] rfl rfl (Nat.le_of_ble_eq_true rfl) rfl h0 (Nat.le_of_ble_eq_true rfl)) g0 ?_
    refine RQ.brT rfl rfl rfl (by decide) ?_
    exact hrest _ g1
  · refine RQ.call (v := some (.int 1)) (st' := []) rfl rfl rfl rfl rfl rfl (args_v [] [] rfl rfl (Nat.le_of_ble_eq_true rfl) rfl h0 (Nat.le_of_ble_eq_true rfl)) g0 ?_
    refine RQ.brF rfl rfl rfl (by decide) ?_
    refine RQ.blk 1 (pc' := 8) (lv' := [(0, .ref 1)]) (st' := [.ref 1]) (H' := _) (kc' := 0) (ks' := 0) rfl ?_
    refine RQ.get (ci := 11) rfl h0 rfl rfl ?_
    refine RQ.blk 1 (pc' := 12) (lv' := [(0, .ref 1)]) (st' := [.ref 1, .ref 191]) (H' := _) (kc' := 0) (ks' := 0) rfl ?_
    refine RQ.get (ci := 11) rfl h0 rfl rfl ?_
    refine RQ.callTX (st' := []) rfl rfl rfl rfl rfl rfl (args_v [.int (nI P)] [] rfl rfl (Nat.le_of_ble_eq_true rfl) rfl hg (Nat.le_of_ble_eq_true rfl)) g1 rfl (fun H1 hx1 => ?_) (fun H9 hbad => ?_)
    rotate_left
    · refine RQ.blk 1 (pc' := 37) (lv' := [(0, .ref 1)]) (st' := [.int 0]) (H' := _) (kc' := 0 + 1) (ks' := 0 + 6) rfl ?_
      exact RQ.done (c := 0) (s := 0) rfl rfl rfl rfl (Or.inr ⟨_, rfl, hbad⟩)
    exact hrest _ hx1
