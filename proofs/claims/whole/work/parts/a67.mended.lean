/-! ===== all that is in memory is made anew from the chip; class; for any states; written by wip/gen/mended.py ===== -/
theorem rb_mended {sc : Nat × (Nat → Int32)} {d : Nat} {B P0 P : Nat} {up cw cl cp cb pr : Int32} {a1 a2 a3 a4 a5 a6 a7 a8 b8 a9 a10 bad : aH → Prop} {H : aH} {yf : List Value} (hY : H[83]? = some (kO 3 yf)) (h0 : H[0]? = some (kO 11 (fvs (nI B) pr up cw cl cp cb))) (h1 : RI sc (d + 6) mr_180 [.ref 84] H (fun x H' => x = nI P0 ∧ a1 H')) (g1 : ∀ H, a1 H → H[0]? = some (kO 11 (fvs (nI B) pr up cw cl cp cb))) (k1 : ∀ H, a1 H → a2 (H.set 0 (kO 11 (fvs (nI B) (nI P0) up cw cl cp cb)))) (g2 : ∀ H, a2 H → H[0]? = some (kO 11 (fvs (nI B) (nI P0) up cw cl cp cb)) ∧ (∃ tfs, H[136]? = some (kO 8 tfs)) ∧ (∃ gfs, H[190]? = some (kO 4 gfs)) ∧ (∃ vfs, H[74]? = some (kO 10 vfs)) ∧ (∃ qfs, H[65]? = some (kO 9 qfs))) (h2 : ∀ H, a2 H → RN sc (d + 6) mr_183 [.ref 137] H a3) (g3 : ∀ H, a3 H → H[0]? = some (kO 11 (fvs (nI B) (nI P0) up cw cl cp cb)) ∧ (∃ tfs, H[136]? = some (kO 8 tfs)) ∧ (∃ gfs, H[190]? = some (kO 4 gfs)) ∧ (∃ vfs, H[74]? = some (kO 10 vfs)) ∧ (∃ qfs, H[65]? = some (kO 9 qfs))) (h3 : ∀ H, a3 H → RI sc (d + 6) mr_185 [.ref 191, .int (nI P0)] H (fun x H' => x = nI P ∧ a4 H')) (g4 : ∀ H, a4 H → H[0]? = some (kO 11 (fvs (nI B) (nI P0) up cw cl cp cb))) (k4 : ∀ H, a4 H → a5 (H.set 0 (kO 11 (fvs (nI B) (nI P) up cw cl cp cb)))) (g5 : ∀ H, a5 H → H[0]? = some (kO 11 (fvs (nI B) (nI P) up cw cl cp cb)) ∧ (∃ tfs, H[136]? = some (kO 8 tfs)) ∧ (∃ gfs, H[190]? = some (kO 4 gfs)) ∧ (∃ vfs, H[74]? = some (kO 10 vfs)) ∧ (∃ qfs, H[65]? = some (kO 9 qfs))) (h5 : ∀ H, a5 H → RN sc (d + 6) mr_80 [.ref 75] H a6) (g6 : ∀ H, a6 H → H[0]? = some (kO 11 (fvs (nI B) (nI P) up cw cl cp cb)) ∧ (∃ tfs, H[136]? = some (kO 8 tfs)) ∧ (∃ gfs, H[190]? = some (kO 4 gfs)) ∧ (∃ vfs, H[74]? = some (kO 10 vfs)) ∧ (∃ qfs, H[65]? = some (kO 9 qfs))) (h6 : ∀ H, a6 H → RN sc (d + 6) mr_189 [.ref 191] H a7) (g7 : ∀ H, a7 H → H[0]? = some (kO 11 (fvs (nI B) (nI P) up cw cl cp cb)) ∧ (∃ tfs, H[136]? = some (kO 8 tfs)) ∧ (∃ gfs, H[190]? = some (kO 4 gfs)) ∧ (∃ vfs, H[74]? = some (kO 10 vfs)) ∧ (∃ qfs, H[65]? = some (kO 9 qfs))) (h7 : ∀ H, a7 H → RN sc (d + 6) mr_134 [.ref 191] H a8) (g8 : ∀ H, a8 H → H[0]? = some (kO 11 (fvs (nI B) (nI P) up cw cl cp cb)) ∧ (∃ tfs, H[136]? = some (kO 8 tfs)) ∧ (∃ gfs, H[190]? = some (kO 4 gfs)) ∧ (∃ vfs, H[74]? = some (kO 10 vfs)) ∧ (∃ qfs, H[65]? = some (kO 9 qfs))) (hR : ∀ H, a8 H → RR sc (d + 6) P H b8 bad) (gb : ∀ H, b8 H → H[0]? = some (kO 11 (fvs (nI B) (nI P) up cw cl cp cb)) ∧ (∃ tfs, H[136]? = some (kO 8 tfs)) ∧ (∃ gfs, H[190]? = some (kO 4 gfs)) ∧ (∃ vfs, H[74]? = some (kO 10 vfs)) ∧ (∃ qfs, H[65]? = some (kO 9 qfs))) (h8 : ∀ H, b8 H → RE sc (d + 6) mr_97 [.ref 137, .int 0, .int (nI P)] H a9 bad) (g9 : ∀ H, a9 H → H[0]? = some (kO 11 (fvs (nI B) (nI P) up cw cl cp cb)) ∧ (∃ tfs, H[136]? = some (kO 8 tfs)) ∧ (∃ gfs, H[190]? = some (kO 4 gfs)) ∧ (∃ vfs, H[74]? = some (kO 10 vfs)) ∧ (∃ qfs, H[65]? = some (kO 9 qfs))) (h9 : ∀ H, a9 H → RN sc (d + 6) mr_190 [.ref 66, .ref 75, .ref 72] H a10) : RB sc (d + 7) mr_179 [.ref 1] H a10 bad := by
  have hrest : ∀ HB, b8 HB → RQ sc (d + 7) mr_179 72 [(0, .ref 1)] [] HB 0 0 (BQ a10 bad) := by
    intro HB xB
    obtain ⟨v0, ⟨tfs, vt⟩, ⟨gfs, vg⟩, ⟨vfs, vv⟩, ⟨qfs, vq⟩⟩ := gb _ xB
    refine RQ.blk 1 (pc' := 73) (lv' := [(0, .ref 1)]) (st' := [.ref 1]) (H' := _) (kc' := 0) (ks' := 0) rfl ?_
    refine RQ.get (ci := 11) rfl v0 rfl rfl ?_
    refine RQ.blk 2 (pc' := 78) (lv' := [(0, .ref 1)]) (st' := [.ref 1, .int 0, .ref 137]) (H' := _) (kc' := 0) (ks' := 0) rfl ?_
    refine RQ.get (ci := 11) rfl v0 rfl rfl ?_
    refine RQ.callTX (st' := []) rfl rfl rfl rfl rfl rfl (args_v [.int (nI P), .int 0] [] rfl rfl (Nat.le_of_ble_eq_true rfl) rfl vt (Nat.le_of_ble_eq_true rfl)) (h8 _ xB) rfl (fun H9 x9 => ?_) (fun H9 hbad => ?_)
    rotate_left
    · refine RQ.blk 1 (pc' := 103) (lv' := [(0, .ref 1)]) (st' := [.int 0]) (H' := _) (kc' := 0 + 1) (ks' := 0 + 6) rfl ?_
      exact RQ.done (c := 0) (s := 0) rfl rfl rfl rfl (Or.inr ⟨_, rfl, hbad⟩)
    obtain ⟨v0, ⟨tfs, vt⟩, ⟨gfs, vg⟩, ⟨vfs, vv⟩, ⟨qfs, vq⟩⟩ := g9 _ x9
    refine RQ.blk 1 (pc' := 85) (lv' := [(0, .ref 1)]) (st' := [.ref 1]) (H' := _) (kc' := 0) (ks' := 0) rfl ?_
    refine RQ.get (ci := 11) rfl v0 rfl rfl ?_
    refine RQ.blk 1 (pc' := 89) (lv' := [(0, .ref 1)]) (st' := [.ref 1, .ref 66]) (H' := _) (kc' := 0) (ks' := 0) rfl ?_
    refine RQ.get (ci := 11) rfl v0 rfl rfl ?_
    refine RQ.blk 1 (pc' := 93) (lv' := [(0, .ref 1)]) (st' := [.ref 1, .ref 75, .ref 66]) (H' := _) (kc' := 0) (ks' := 0) rfl ?_
    refine RQ.get (ci := 11) rfl v0 rfl rfl ?_
    refine RQ.callN (st' := []) rfl rfl rfl rfl rfl rfl (args_v [.ref 72, .ref 75] [] rfl rfl (Nat.le_of_ble_eq_true rfl) rfl vq (Nat.le_of_ble_eq_true rfl)) (h9 _ x9) (fun HA xA => ?_)
    refine RQ.blk 1 (pc' := 100) (lv' := [(0, .ref 1)]) (st' := [.int 1]) (H' := _) (kc' := 0) (ks' := 0) rfl ?_
    exact RQ.done (c := 0) (s := 0) rfl rfl rfl rfl (Or.inl ⟨_, rfl, xA⟩)
  refine RB.of ?_
  refine RQ.blk 2 (pc' := 2) (lv' := [(0, .ref 1)]) (st' := [.ref 1, .ref 1]) (H' := _) (kc' := 0) (ks' := 0) rfl ?_
  refine RQ.get (ci := 11) rfl h0 rfl rfl ?_
  refine RQ.callI (st' := [.ref 1]) rfl rfl rfl rfl rfl rfl (args_v [] [.ref 1] rfl rfl (Nat.le_of_ble_eq_true rfl) rfl hY (Nat.le_of_ble_eq_true rfl)) h1 (fun y H1 hx1 => ?_)
  obtain ⟨ey, x1⟩ := hx1
  rw [ey]
  have w1 := g1 _ x1
  refine RQ.put (ci := 11) rfl w1 rfl rfl (Nat.le_of_ble_eq_true rfl) ?_
  have x2 := k1 _ x1
  show RQ _ _ _ _ _ _ (H1.set 0 (kO 11 (fvs (nI B) (nI P0) up cw cl cp cb))) _ _ _
  generalize (H1.set 0 (kO 11 (fvs (nI B) (nI P0) up cw cl cp cb))) = H2 at x2 ⊢
  obtain ⟨v0, ⟨tfs, vt⟩, ⟨gfs, vg⟩, ⟨vfs, vv⟩, ⟨qfs, vq⟩⟩ := g2 _ x2
  refine RQ.blk 1 (pc' := 12) (lv' := [(0, .ref 1)]) (st' := [.ref 1]) (H' := _) (kc' := 0) (ks' := 0) rfl ?_
  refine RQ.get (ci := 11) rfl v0 rfl rfl ?_
  refine RQ.callN (st' := []) rfl rfl rfl rfl rfl rfl (args_v [] [] rfl rfl (Nat.le_of_ble_eq_true rfl) rfl vt (Nat.le_of_ble_eq_true rfl)) (h2 _ x2) (fun H3 x3 => ?_)
  obtain ⟨v0, ⟨tfs, vt⟩, ⟨gfs, vg⟩, ⟨vfs, vv⟩, ⟨qfs, vq⟩⟩ := g3 _ x3
  refine RQ.blk 2 (pc' := 20) (lv' := [(0, .ref 1)]) (st' := [.ref 1, .ref 1]) (H' := _) (kc' := 0) (ks' := 0) rfl ?_
  refine RQ.get (ci := 11) rfl v0 rfl rfl ?_
  refine RQ.blk 1 (pc' := 24) (lv' := [(0, .ref 1)]) (st' := [.ref 1, .ref 191, .ref 1]) (H' := _) (kc' := 0) (ks' := 0) rfl ?_
  refine RQ.get (ci := 11) rfl v0 rfl rfl ?_
  refine RQ.callI (st' := [.ref 1]) rfl rfl rfl rfl rfl rfl (args_v [.int (nI P0)] [.ref 1] rfl rfl (Nat.le_of_ble_eq_true rfl) rfl vg (Nat.le_of_ble_eq_true rfl)) (h3 _ x3) (fun y2 H4 hx4 => ?_)
  obtain ⟨ey2, x4⟩ := hx4
  rw [ey2]
  have w4 := g4 _ x4
  refine RQ.put (ci := 11) rfl w4 rfl rfl (Nat.le_of_ble_eq_true rfl) ?_
  have x5 := k4 _ x4
  show RQ _ _ _ _ _ _ (H4.set 0 (kO 11 (fvs (nI B) (nI P) up cw cl cp cb))) _ _ _
  generalize (H4.set 0 (kO 11 (fvs (nI B) (nI P) up cw cl cp cb))) = H5 at x5 ⊢
  obtain ⟨v0, ⟨tfs, vt⟩, ⟨gfs, vg⟩, ⟨vfs, vv⟩, ⟨qfs, vq⟩⟩ := g5 _ x5
  refine RQ.blk 1 (pc' := 34) (lv' := [(0, .ref 1)]) (st' := [.ref 1]) (H' := _) (kc' := 0) (ks' := 0) rfl ?_
  refine RQ.get (ci := 11) rfl v0 rfl rfl ?_
  refine RQ.callN (st' := []) rfl rfl rfl rfl rfl rfl (args_v [] [] rfl rfl (Nat.le_of_ble_eq_true rfl) rfl vv (Nat.le_of_ble_eq_true rfl)) (h5 _ x5) (fun H6 x6 => ?_)
  obtain ⟨v0, ⟨tfs, vt⟩, ⟨gfs, vg⟩, ⟨vfs, vv⟩, ⟨qfs, vq⟩⟩ := g6 _ x6
  refine RQ.blk 1 (pc' := 41) (lv' := [(0, .ref 1)]) (st' := [.ref 1]) (H' := _) (kc' := 0) (ks' := 0) rfl ?_
  refine RQ.get (ci := 11) rfl v0 rfl rfl ?_
  refine RQ.callN (st' := []) rfl rfl rfl rfl rfl rfl (args_v [] [] rfl rfl (Nat.le_of_ble_eq_true rfl) rfl vg (Nat.le_of_ble_eq_true rfl)) (h6 _ x6) (fun H7 x7 => ?_)
  obtain ⟨v0, ⟨tfs, vt⟩, ⟨gfs, vg⟩, ⟨vfs, vv⟩, ⟨qfs, vq⟩⟩ := g7 _ x7
  refine RQ.blk 1 (pc' := 48) (lv' := [(0, .ref 1)]) (st' := [.ref 1]) (H' := _) (kc' := 0) (ks' := 0) rfl ?_
  refine RQ.get (ci := 11) rfl v0 rfl rfl ?_
  refine RQ.callN (st' := []) rfl rfl rfl rfl rfl rfl (args_v [] [] rfl rfl (Nat.le_of_ble_eq_true rfl) rfl vg (Nat.le_of_ble_eq_true rfl)) (h7 _ x7) (fun H8 x8 => ?_)
  obtain ⟨v0, ⟨tfs, vt⟩, ⟨gfs, vg⟩, ⟨vfs, vv⟩, ⟨qfs, vq⟩⟩ := g8 _ x8
  refine RQ.blk 1 (pc' := 55) (lv' := [(0, .ref 1)]) (st' := [.ref 1]) (H' := _) (kc' := 0) (ks' := 0) rfl ?_
  rcases hR _ x8 with ⟨r0, r1⟩ | ⟨r0, r1⟩
  · refine RQ.call (v := some (.int 0)) (st' := []) rfl rfl rfl rfl rfl rfl (args_v [] [] rfl rfl (Nat.le_of_ble_eq_true rfl) rfl v0 (Nat.le_of_ble_eq_true rfl)) r0 ?_
    refine RQ.brT rfl rfl rfl (by decide) ?_
    exact hrest _ r1
  · refine RQ.call (v := some (.int 1)) (st' := []) rfl rfl rfl rfl rfl rfl (args_v [] [] rfl rfl (Nat.le_of_ble_eq_true rfl) rfl v0 (Nat.le_of_ble_eq_true rfl)) r0 ?_
    refine RQ.brF rfl rfl rfl (by decide) ?_
    refine RQ.blk 1 (pc' := 62) (lv' := [(0, .ref 1)]) (st' := [.ref 1]) (H' := _) (kc' := 0) (ks' := 0) rfl ?_
    refine RQ.get (ci := 11) rfl v0 rfl rfl ?_
    refine RQ.blk 1 (pc' := 66) (lv' := [(0, .ref 1)]) (st' := [.ref 1, .ref 191]) (H' := _) (kc' := 0) (ks' := 0) rfl ?_
    refine RQ.get (ci := 11) rfl v0 rfl rfl ?_
    refine RQ.callTX (st' := []) rfl rfl rfl rfl rfl rfl (args_v [.int (nI P)] [] rfl rfl (Nat.le_of_ble_eq_true rfl) rfl vg (Nat.le_of_ble_eq_true rfl)) r1 rfl (fun HB xB => ?_) (fun H9 hbad => ?_)
    rotate_left
    · refine RQ.blk 1 (pc' := 103) (lv' := [(0, .ref 1)]) (st' := [.int 0]) (H' := _) (kc' := 0 + 1) (ks' := 0 + 6) rfl ?_
      exact RQ.done (c := 0) (s := 0) rfl rfl rfl rfl (Or.inr ⟨_, rfl, hbad⟩)
    exact hrest _ xB
