/-! ===== calls whose failing is caught: flushed, merged, stored; class; written by wip/gen/tried.py ===== -/
/-- the method answers 1, or the power fails in it, and it answers 0 -/
def RB (sc : Nat × (Nat → Int32)) (d : Nat) (M : aM) (av : List Value) (H : aH) (ok bad : aH → Prop) : Prop := (∃ H', RC sc d M av H (.inl (some (.int 1))) H' 0 0 ∧ ok H') ∨ (∃ H', RC sc d M av H (.inl (some (.int 0))) H' 1 6 ∧ bad H')
def BQ (ok bad : aH → Prop) (r : tO × aH × Nat × Nat) : Prop := (∃ H', r = (.inl (some (.int 1)), H', 0, 0) ∧ ok H') ∨ (∃ H', r = (.inl (some (.int 0)), H', 1, 6) ∧ bad H')
theorem RB.of {sc : Nat × (Nat → Int32)} {d : Nat} {M : aM} {av : List Value} {H : aH} {ok bad : aH → Prop} (h : RQ sc d M 0 (lv_args 0 av) [] H 0 0 (BQ ok bad)) : RB sc d M av H ok bad := by
  obtain ⟨r, h1, h2⟩ := h
  rcases h2 with ⟨H', e, h3⟩ | ⟨H', e, h3⟩
  · subst e; exact Or.inl ⟨H', h1, h3⟩
  · subst e; exact Or.inr ⟨H', h1, h3⟩
theorem RQ.callTX {sc : Nat × (Nat → Int32)} {d : Nat} {M M' : aM} {pc nx : Nat} {lv : aL} {st : List Value} {H : aH} {kc ks : Nat} {Q : tO × aH × Nat × Nat → Prop} {I : Instr} {m k i n : Nat} {av st' : List Value} {ok bad : aH → Prop} (hI : lkI pc (mT M) = some (nx, I)) (h0 : stG sc nx lv st H I = none) (h1 : stB st I = none) (h2 : stD st I = none) (hC : stC I = some (m, k)) (hm : mtb[m]? = some M') (ha : argsOf M' k H st = some (av, st')) (hr : RE sc d M' av H ok bad) (hx : lkX pc 1 (mX M) = some (i, n)) (k1 : ∀ H', ok H' → RQ sc (d + 1) M nx lv st' H' kc ks Q) (k2 : ∀ H', bad H' → RQ sc (d + 1) M n (lvD lv i) [] H' (kc + 1) (ks + 6) Q) : RQ sc (d + 1) M pc lv st H kc ks Q := by
  rcases hr with ⟨H', a, b⟩ | ⟨H', a, b⟩
  · exact RQ.call hI h0 h1 h2 hC hm ha a (k1 H' b)
  · exact RQ.callX hI h0 h1 h2 hC hm ha a hx (k2 H' b)
/-- the reserve of blocks is looked at, and all is renewed where it is lacking -/
def RR (sc : Nat × (Nat → Int32)) (d P : Nat) (H : aH) (ok bad : aH → Prop) : Prop := (RC sc d mr_331 [.ref 1] H (.inl (some (.int 0))) H 0 0 ∧ ok H) ∨ (RC sc d mr_331 [.ref 1] H (.inl (some (.int 1))) H 0 0 ∧ RE sc d mr_333 [.ref 191, .int (nI P)] H ok bad)
theorem RR.mono {sc : Nat × (Nat → Int32)} {d P : Nat} {H : aH} {ok ok' bad bad' : aH → Prop} (h : RR sc d P H ok bad) (h1 : ∀ H', ok H' → ok' H') (h2 : ∀ H', bad H' → bad' H') : RR sc d P H ok' bad' := by
  rcases h with ⟨a, b⟩ | ⟨a, b⟩
  · exact Or.inl ⟨a, h1 _ b⟩
  · exact Or.inr ⟨a, b.mono h1 h2⟩
theorem rb_flushed {sc : Nat × (Nat → Int32)} {d : Nat} {H : aH} {bl up cw cl cp cb : Int32} {P : Nat} {ok ok1 ok2 bad : aH → Prop} {gfs : List Value} (h0 : H[0]? = some (kO 11 (fvs bl (nI P) up cw cl cp cb))) (hg : H[190]? = some (kO 4 gfs)) (hR : RR sc (d + 5) P H ok1 bad) (hv1 : ∀ H', ok1 H' → H'[0]? = some (kO 11 (fvs bl (nI P) up cw cl cp cb)) ∧ (∃ tfs, H'[136]? = some (kO 8 tfs))) (hs : ∀ H', ok1 H' → RE sc (d + 5) mr_97 [.ref 137, .int 0, .int (nI P)] H' ok2 bad) (hv2 : ∀ H', ok2 H' → ∃ fs, H'[0]? = some (kO 11 fs)) (hk : ∀ H', ok2 H' → RE sc (d + 5) mr_118 [.ref 1] H' ok bad) : RB sc (d + 6) mr_167 [.ref 1] H ok bad := by
  have hrest : ∀ H1, ok1 H1 → RQ sc (d + 6) mr_167 18 [(0, .ref 1)] [] H1 0 0 (BQ ok bad) := by
    intro H1 hx1
    obtain ⟨h0, ⟨tfs, ht⟩⟩ := hv1 H1 hx1
    refine RQ.blk 1 (pc' := 19) (lv' := [(0, .ref 1)]) (st' := [.ref 1]) (H' := _) (kc' := 0) (ks' := 0) rfl ?_
    refine RQ.get (ci := 11) rfl h0 rfl rfl ?_
    refine RQ.blk 2 (pc' := 24) (lv' := [(0, .ref 1)]) (st' := [.ref 1, .int 0, .ref 137]) (H' := _) (kc' := 0) (ks' := 0) rfl ?_
    refine RQ.get (ci := 11) rfl h0 rfl rfl ?_
    refine RQ.callTX (st' := []) rfl rfl rfl rfl rfl rfl (args_v [.int (nI P), .int 0] [] rfl rfl (Nat.le_of_ble_eq_true rfl) rfl ht (Nat.le_of_ble_eq_true rfl)) (hs H1 hx1) rfl (fun H2 hx2 => ?_) (fun H9 hbad => ?_)
    rotate_left
    · refine RQ.blk 1 (pc' := 38) (lv' := [(0, .ref 1)]) (st' := [.int 0]) (H' := _) (kc' := 0 + 1) (ks' := 0 + 6) rfl ?_
      exact RQ.done (c := 0) (s := 0) rfl rfl rfl rfl (Or.inr ⟨_, rfl, hbad⟩)
    obtain ⟨fs2, h2⟩ := hv2 H2 hx2
    refine RQ.blk 1 (pc' := 31) (lv' := [(0, .ref 1)]) (st' := [.ref 1]) (H' := _) (kc' := 0) (ks' := 0) rfl ?_
    refine RQ.callTX (st' := []) rfl rfl rfl rfl rfl rfl (args_v [] [] rfl rfl (Nat.le_of_ble_eq_true rfl) rfl h2 (Nat.le_of_ble_eq_true rfl)) (hk H2 hx2) rfl (fun H3 hx3 => ?_) (fun H9 hbad => ?_)
    rotate_left
    · refine RQ.blk 1 (pc' := 38) (lv' := [(0, .ref 1)]) (st' := [.int 0]) (H' := _) (kc' := 0 + 1) (ks' := 0 + 6) rfl ?_
      exact RQ.done (c := 0) (s := 0) rfl rfl rfl rfl (Or.inr ⟨_, rfl, hbad⟩)
    refine RQ.blk 1 (pc' := 35) (lv' := [(0, .ref 1)]) (st' := [.int 1]) (H' := _) (kc' := 0) (ks' := 0) rfl ?_
    exact RQ.done (c := 0) (s := 0) rfl rfl rfl rfl (Or.inl ⟨_, rfl, hx3⟩)
  refine RB.of ?_
  refine RQ.blk 1 (pc' := 1) (lv' := [(0, .ref 1)]) (st' := [.ref 1]) (H' := _) (kc' := 0) (ks' := 0) rfl ?_
  rcases hR with ⟨g0, g1⟩ | ⟨g0, g1⟩
  · refine RQ.call (v := some (.int 0)) (st' := []) rfl rfl rfl rfl rfl rfl (args_v [] [] rfl rfl (Nat.le_of_ble_eq_true rfl) rfl h0 (Nat.le_of_ble_eq_true rfl)) g0 ?_
    refine RQ.brT rfl rfl rfl (by decide) ?_
    exact hrest _ g1
  · refine RQ.call (v := some (.int 1)) (st' := []) rfl rfl rfl rfl rfl rfl (args_v [] [] rfl rfl (Nat.le_of_ble_eq_true rfl) rfl h0 (Nat.le_of_ble_eq_true rfl)) g0 ?_
    refine RQ.brF rfl rfl rfl (by decide) ?_
    refine RQ.blk 1 (pc' := 8) (lv' := [(0, .ref 1)]) (st' := [.ref 1]) (H' := _) (kc' := 0) (ks' := 0) rfl ?_
    refine RQ.get (ci := 11) rfl h0 rfl rfl ?_
    refine RQ.blk 1 (pc' := 12) (lv' := [(0, .ref 1)]) (st' := [.ref 1, .ref 191]) (H' := _) (kc' := 0) (ks' := 0) rfl ?_
    refine RQ.get (ci := 11) rfl h0 rfl rfl ?_
    refine RQ.callTX (st' := []) rfl rfl rfl rfl rfl rfl (args_v [.int (nI P)] [] rfl rfl (Nat.le_of_ble_eq_true rfl) rfl hg (Nat.le_of_ble_eq_true rfl)) g1 rfl (fun H1 hx1 => ?_) (fun H9 hbad => ?_)
    rotate_left
    · refine RQ.blk 1 (pc' := 38) (lv' := [(0, .ref 1)]) (st' := [.int 0]) (H' := _) (kc' := 0 + 1) (ks' := 0 + 6) rfl ?_
      exact RQ.done (c := 0) (s := 0) rfl rfl rfl rfl (Or.inr ⟨_, rfl, hbad⟩)
    exact hrest _ hx1
theorem rb_stored {sc : Nat × (Nat → Int32)} {d b : Nat} {H : aH} {bl up cw cl cp cb : Int32} {P : Nat} {ok bad : aH → Prop} {gfs : List Value} (h0 : H[0]? = some (kO 11 (fvs bl (nI P) up cw cl cp cb))) (hg : H[190]? = some (kO 4 gfs)) (hs : RE sc (d + 5) mr_151 [.ref 191, .ref (b + 1), .int (nI P)] H ok bad) : RB sc (d + 6) mr_150 [.ref 1, .ref (b + 1)] H ok bad := by
  refine RB.of ?_
  refine RQ.blk 1 (pc' := 1) (lv' := [(0, .ref 1), (1, .ref (b + 1))]) (st' := [.ref 1]) (H' := _) (kc' := 0) (ks' := 0) rfl ?_
  refine RQ.get (ci := 11) rfl h0 rfl rfl ?_
  refine RQ.blk 2 (pc' := 6) (lv' := [(0, .ref 1), (1, .ref (b + 1))]) (st' := [.ref 1, .ref (b + 1), .ref 191]) (H' := _) (kc' := 0) (ks' := 0) rfl ?_
  refine RQ.get (ci := 11) rfl h0 rfl rfl ?_
  refine RQ.callTX (st' := []) rfl rfl rfl rfl rfl rfl (args_v [.int (nI P), .ref (b + 1)] [] rfl rfl (Nat.le_of_ble_eq_true rfl) rfl hg (Nat.le_of_ble_eq_true rfl)) hs rfl (fun H2 hx2 => ?_) (fun H9 hbad => ?_)
  rotate_left
  · refine RQ.blk 1 (pc' := 16) (lv' := [(0, .ref 1), (1, .ref (b + 1))]) (st' := [.int 0]) (H' := _) (kc' := 0 + 1) (ks' := 0 + 6) rfl ?_
    exact RQ.done (c := 0) (s := 0) rfl rfl rfl rfl (Or.inr ⟨_, rfl, hbad⟩)
  refine RQ.blk 1 (pc' := 13) (lv' := [(0, .ref 1), (1, .ref (b + 1))]) (st' := [.int 1]) (H' := _) (kc' := 0) (ks' := 0) rfl ?_
  exact RQ.done (c := 0) (s := 0) rfl rfl rfl rfl (Or.inl ⟨_, rfl, hx2⟩)
theorem rb_merged0 {sc : Nat × (Nat → Int32)} {d : Nat} {H : aH} {bl up cw cl cp cb : Int32} {P : Nat} {ok ok1 bad : aH → Prop} {gfs : List Value} (h0 : H[0]? = some (kO 11 (fvs bl (nI P) up cw cl cp cb))) (hg : H[190]? = some (kO 4 gfs)) (hR : RR sc (d + 5) P H ok1 bad) (hv1 : ∀ H', ok1 H' → H'[0]? = some (kO 11 (fvs bl (nI P) up cw cl cp cb)) ∧ (∃ tfs, H'[136]? = some (kO 8 tfs))) (hs : ∀ H', ok1 H' → RE sc (d + 5) mr_171 [.ref 137, .int (nI P)] H' ok bad) : RB sc (d + 6) mr_170 [.ref 1, .int 0] H ok bad := by
  have hrest : ∀ H1, ok1 H1 → RQ sc (d + 6) mr_170 18 [(0, .ref 1), (1, .int 0)] [] H1 0 0 (BQ ok bad) := by
    intro H1 hx1
    obtain ⟨h0, ⟨tfs, ht⟩⟩ := hv1 H1 hx1
    refine RQ.blk 1 (pc' := 19) (lv' := [(0, .ref 1), (1, .int 0)]) (st' := [.int 0]) (H' := _) (kc' := 0) (ks' := 0) rfl ?_
    refine RQ.brT rfl rfl rfl (by decide) ?_
    refine RQ.blk 1 (pc' := 46) (lv' := [(0, .ref 1), (1, .int 0)]) (st' := [.ref 1]) (H' := _) (kc' := 0) (ks' := 0) rfl ?_
    refine RQ.get (ci := 11) rfl h0 rfl rfl ?_
    refine RQ.blk 1 (pc' := 50) (lv' := [(0, .ref 1), (1, .int 0)]) (st' := [.ref 1, .ref 137]) (H' := _) (kc' := 0) (ks' := 0) rfl ?_
    refine RQ.get (ci := 11) rfl h0 rfl rfl ?_
    refine RQ.callTX (st' := []) rfl rfl rfl rfl rfl rfl (args_v [.int (nI P)] [] rfl rfl (Nat.le_of_ble_eq_true rfl) rfl ht (Nat.le_of_ble_eq_true rfl)) (hs H1 hx1) rfl (fun H2 hx2 => ?_) (fun H9 hbad => ?_)
    rotate_left
    · refine RQ.blk 1 (pc' := 60) (lv' := [(0, .ref 1), (1, .int 0)]) (st' := [.int 0]) (H' := _) (kc' := 0 + 1) (ks' := 0 + 6) rfl ?_
      exact RQ.done (c := 0) (s := 0) rfl rfl rfl rfl (Or.inr ⟨_, rfl, hbad⟩)
    refine RQ.blk 1 (pc' := 57) (lv' := [(0, .ref 1), (1, .int 0)]) (st' := [.int 1]) (H' := _) (kc' := 0) (ks' := 0) rfl ?_
    exact RQ.done (c := 0) (s := 0) rfl rfl rfl rfl (Or.inl ⟨_, rfl, hx2⟩)
  refine RB.of ?_
  refine RQ.blk 1 (pc' := 1) (lv' := [(0, .ref 1), (1, .int 0)]) (st' := [.ref 1]) (H' := _) (kc' := 0) (ks' := 0) rfl ?_
  rcases hR with ⟨g0, g1⟩ | ⟨g0, g1⟩
  · refine RQ.call (v := some (.int 0)) (st' := []) rfl rfl rfl rfl rfl rfl (args_v [] [] rfl rfl (Nat.le_of_ble_eq_true rfl) rfl h0 (Nat.le_of_ble_eq_true rfl)) g0 ?_
    refine RQ.brT rfl rfl rfl (by decide) ?_
    exact hrest _ g1
  · refine RQ.call (v := some (.int 1)) (st' := []) rfl rfl rfl rfl rfl rfl (args_v [] [] rfl rfl (Nat.le_of_ble_eq_true rfl) rfl h0 (Nat.le_of_ble_eq_true rfl)) g0 ?_
    refine RQ.brF rfl rfl rfl (by decide) ?_
    refine RQ.blk 1 (pc' := 8) (lv' := [(0, .ref 1), (1, .int 0)]) (st' := [.ref 1]) (H' := _) (kc' := 0) (ks' := 0) rfl ?_
    refine RQ.get (ci := 11) rfl h0 rfl rfl ?_
    refine RQ.blk 1 (pc' := 12) (lv' := [(0, .ref 1), (1, .int 0)]) (st' := [.ref 1, .ref 191]) (H' := _) (kc' := 0) (ks' := 0) rfl ?_
    refine RQ.get (ci := 11) rfl h0 rfl rfl ?_
    refine RQ.callTX (st' := []) rfl rfl rfl rfl rfl rfl (args_v [.int (nI P)] [] rfl rfl (Nat.le_of_ble_eq_true rfl) rfl hg (Nat.le_of_ble_eq_true rfl)) g1 rfl (fun H1 hx1 => ?_) (fun H9 hbad => ?_)
    rotate_left
    · refine RQ.blk 1 (pc' := 60) (lv' := [(0, .ref 1), (1, .int 0)]) (st' := [.int 0]) (H' := _) (kc' := 0 + 1) (ks' := 0 + 6) rfl ?_
      exact RQ.done (c := 0) (s := 0) rfl rfl rfl rfl (Or.inr ⟨_, rfl, hbad⟩)
    exact hrest _ hx1
theorem rb_merged1 {sc : Nat × (Nat → Int32)} {d : Nat} {H : aH} {bl up cw cl cp cb : Int32} {P : Nat} {ok ok1 bad : aH → Prop} {gfs : List Value} (h0 : H[0]? = some (kO 11 (fvs bl (nI P) up cw cl cp cb))) (hg : H[190]? = some (kO 4 gfs)) (hR : RR sc (d + 5) P H ok1 bad) (hv1 : ∀ H', ok1 H' → H'[0]? = some (kO 11 (fvs bl (nI P) up cw cl cp cb)) ∧ (∃ tfs, H'[136]? = some (kO 8 tfs))) (hs : ∀ H', ok1 H' → ∃ B lgs fr ff wr tp rs ms mt sq tu us, LayIs H' B lgs fr ff wr tp rs ms mt sq tu us ∧ RE sc (d + 5) mr_120 [.ref 137, .int (nI 0), .int (nI rs.length), .int (nI 3), .int (nI P)] H' ok bad) : RB sc (d + 6) mr_170 [.ref 1, .int 1] H ok bad := by
  have hrest : ∀ H1, ok1 H1 → RQ sc (d + 6) mr_170 18 [(0, .ref 1), (1, .int 1)] [] H1 0 0 (BQ ok bad) := by
    intro H1 hx1
    obtain ⟨h0, ⟨tfs, ht⟩⟩ := hv1 H1 hx1
    obtain ⟨B, lgs, fr, ff, wr, tp, rs, ms, mt, sq, tu, us, hL, hs⟩ := hs H1 hx1
    obtain ⟨lg, pi, hY, -⟩ := id hL
    refine RQ.blk 1 (pc' := 19) (lv' := [(0, .ref 1), (1, .int 1)]) (st' := [.int 1]) (H' := _) (kc' := 0) (ks' := 0) rfl ?_
    refine RQ.brF rfl rfl rfl (by decide) ?_
    refine RQ.blk 1 (pc' := 23) (lv' := [(0, .ref 1), (1, .int 1)]) (st' := [.ref 1]) (H' := _) (kc' := 0) (ks' := 0) rfl ?_
    refine RQ.get (ci := 11) rfl h0 rfl rfl ?_
    refine RQ.blk 2 (pc' := 28) (lv' := [(0, .ref 1), (1, .int 1)]) (st' := [.ref 1, .int 0, .ref 137]) (H' := _) (kc' := 0) (ks' := 0) rfl ?_
    refine RQ.get (ci := 11) rfl h0 rfl rfl ?_
    refine RQ.get (ci := 3) rfl hY.1 rfl rfl ?_
    refine RQ.blk 2 (pc' := 36) (lv' := [(0, .ref 1), (1, .int 1)]) (st' := [.ref 1, .int 3, .int (nI rs.length), .int 0, .ref 137]) (H' := _) (kc' := 0) (ks' := 0) rfl ?_
    refine RQ.get (ci := 11) rfl h0 rfl rfl ?_
    refine RQ.callTX (st' := []) rfl rfl rfl rfl rfl rfl (args_v [.int (nI P), .int 3, .int (nI rs.length), .int 0] [] rfl rfl (Nat.le_of_ble_eq_true rfl) rfl ht (Nat.le_of_ble_eq_true rfl)) hs rfl (fun H2 hx2 => ?_) (fun H9 hbad => ?_)
    rotate_left
    · refine RQ.blk 1 (pc' := 60) (lv' := [(0, .ref 1), (1, .int 1)]) (st' := [.int 0]) (H' := _) (kc' := 0 + 1) (ks' := 0 + 6) rfl ?_
      exact RQ.done (c := 0) (s := 0) rfl rfl rfl rfl (Or.inr ⟨_, rfl, hbad⟩)
    refine RQ.blk 2 (pc' := 57) (lv' := [(0, .ref 1), (1, .int 1)]) (st' := [.int 1]) (H' := _) (kc' := 0) (ks' := 0) rfl ?_
    exact RQ.done (c := 0) (s := 0) rfl rfl rfl rfl (Or.inl ⟨_, rfl, hx2⟩)
  refine RB.of ?_
  refine RQ.blk 1 (pc' := 1) (lv' := [(0, .ref 1), (1, .int 1)]) (st' := [.ref 1]) (H' := _) (kc' := 0) (ks' := 0) rfl ?_
  rcases hR with ⟨g0, g1⟩ | ⟨g0, g1⟩
  · refine RQ.call (v := some (.int 0)) (st' := []) rfl rfl rfl rfl rfl rfl (args_v [] [] rfl rfl (Nat.le_of_ble_eq_true rfl) rfl h0 (Nat.le_of_ble_eq_true rfl)) g0 ?_
    refine RQ.brT rfl rfl rfl (by decide) ?_
    exact hrest _ g1
  · refine RQ.call (v := some (.int 1)) (st' := []) rfl rfl rfl rfl rfl rfl (args_v [] [] rfl rfl (Nat.le_of_ble_eq_true rfl) rfl h0 (Nat.le_of_ble_eq_true rfl)) g0 ?_
    refine RQ.brF rfl rfl rfl (by decide) ?_
    refine RQ.blk 1 (pc' := 8) (lv' := [(0, .ref 1), (1, .int 1)]) (st' := [.ref 1]) (H' := _) (kc' := 0) (ks' := 0) rfl ?_
    refine RQ.get (ci := 11) rfl h0 rfl rfl ?_
    refine RQ.blk 1 (pc' := 12) (lv' := [(0, .ref 1), (1, .int 1)]) (st' := [.ref 1, .ref 191]) (H' := _) (kc' := 0) (ks' := 0) rfl ?_
    refine RQ.get (ci := 11) rfl h0 rfl rfl ?_
    refine RQ.callTX (st' := []) rfl rfl rfl rfl rfl rfl (args_v [.int (nI P)] [] rfl rfl (Nat.le_of_ble_eq_true rfl) rfl hg (Nat.le_of_ble_eq_true rfl)) g1 rfl (fun H1 hx1 => ?_) (fun H9 hbad => ?_)
    rotate_left
    · refine RQ.blk 1 (pc' := 60) (lv' := [(0, .ref 1), (1, .int 1)]) (st' := [.int 0]) (H' := _) (kc' := 0 + 1) (ks' := 0 + 6) rfl ?_
      exact RQ.done (c := 0) (s := 0) rfl rfl rfl rfl (Or.inr ⟨_, rfl, hbad⟩)
    exact hrest _ hx1
