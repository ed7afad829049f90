/-! ===== room is made before a change; a log is cleared on call; class; for any states; written by wip/gen/roomm.py ===== -/
/-- what states tell for the making of room; ac: how many are known in memory alone; fn: how many blocks are free -/
def RmI {τ : Type} (I : τ → aH → Prop) (ac fn : τ → Nat) (B P : Nat) (up cw cl cp cb : Int32) : Prop := ∀ s H, I s H → H[0]? = some (kO 11 (fvs (nI B) (nI P) up cw cl cp cb)) ∧ (∃ N kf kl mo pl le al od sp sz ss, VersAt H N kf kl mo pl le al od sp sz ss (ac s)) ∧ (∃ lc fr ff wr tp rc ms mt sq tu us lg, LayAt H (layF B lc fr ff wr tp rc ms mt sq tu 0 0) B us lg ∧ freeN us B = fn s) ∧ (∃ tfs, H[136]? = some (kO 8 tfs)) ∧ (∃ gfs, H[190]? = some (kO 4 gfs)) ∧ ac s < 2 ^ 31
theorem rb_roomMade {sc : Nat × (Nat → Int32)} {d : Nat} {τ : Type} {I I' : τ → aH → Prop} {ac fn : τ → Nat} {bad : aH → Prop} {B P : Nat} {up cw cl cp cb : Int32} {p0 p1 p2 p3 p4 p7 : τ → Prop} {p5 p6 : Nat → τ → Prop} {s : τ} {H : aH} (hI : RmI I ac fn B P up cw cl cp cb) (hB : B ≤ 128) (hS0 : ∀ s H, p0 s → 96 ≤ ac s → I s H → RE sc (d + 6) mr_97 [.ref 137, .int (nI P)] H (fun H' => ∃ s', p1 s' ∧ I s' H') bad) (h01 : ∀ s, p0 s → ac s < 96 → p1 s) (hK1 : ∀ s H, p1 s → I s H → RE sc (d + 6) mr_118 [.ref 1] H (fun H' => ∃ s', p2 s' ∧ I s' H') bad) (hS2 : ∀ s H, p2 s → fn s < B / 4 → I s H → RE sc (d + 6) mr_97 [.ref 137, .int (nI P)] H (fun H' => ∃ s', p3 s' ∧ I s' H') bad) (hSw : ∀ s H, p3 s → I s H → RI sc (d + 6) mr_134 [.ref 191] H (fun x H' => (x = 0 ∧ ∃ s', p5 0 s' ∧ I s' H') ∨ (x = 1 ∧ ∃ s', p4 s' ∧ I' s' H'))) (hI' : ∀ s H, I' s H → H[0]? = some (kO 11 (fvs (nI B) (nI P) up cw cl cp cb)) ∧ ∃ yf, H[83]? = some (kO 3 yf)) (hSv : ∀ s H, p4 s → I' s H → RE sc (d + 6) mr_115 [.ref 84, .int (nI P)] H (fun H' => ∃ s', p5 0 s' ∧ I s' H') bad) (hC : ∀ n s H, n < B → p5 n s → fn s < B / 4 → I s H → REI sc (d + 6) mr_140 [.ref 191, .int (nI P), .int 0] H (fun x H' => (x = 0 ∧ ∃ s', p7 s' ∧ I s' H') ∨ (x = 1 ∧ ∃ s', p6 n s' ∧ I s' H')) bad) (hK6 : ∀ n s H, p6 n s → I s H → RE sc (d + 6) mr_118 [.ref 1] H (fun H' => ∃ s', p5 (n + 1) s' ∧ I s' H') bad) (h0 : p0 s) (h : I s H) : RB sc (d + 7) mr_96 [.ref 1] H (fun H' => ∃ s', I s' H' ∧ ((p2 s' ∧ B / 4 ≤ fn s') ∨ p7 s' ∨ ∃ n, p5 n s' ∧ (B / 4 ≤ fn s' ∨ n = B))) bad := by
  refine RB.of ?_
  have hloop : ∀ n H6 s6, n ≤ B → p5 n s6 → I s6 H6 → RQ sc (d + 7) mr_96 81 [(2, .int (nI n)), (1, .int (nI (B / 4))), (0, .ref 1)] [] H6 0 0 (BQ (fun H' => ∃ s', I s' H' ∧ ((p2 s' ∧ B / 4 ≤ fn s') ∨ p7 s' ∨ ∃ n, p5 n s' ∧ (B / 4 ≤ fn s' ∨ n = B))) bad) := by
    intro n H6 s6 hn hp5 h6
    refine RQ.while (S := Nat) (pc := 81) (fun n H' => n ≤ B ∧ ∃ s', p5 n s' ∧ I s' H') (fun n => [(2, .int (nI n)), (1, .int (nI (B / 4))), (0, .ref 1)]) (fun n => B - n) ?_ n H6 ⟨hn, s6, hp5, h6⟩
    rintro n H7 ⟨hn, s7, hp7, h7⟩ ih
    by_cases hnB : n < B
    ·
      obtain ⟨v0, ⟨vN, vkf, vkl, vmo, vpl, vle, val, vod, vsp, vsz, vss, v74⟩, ⟨ylc, yfr, yff, ywr, ytp, yrc, yms, ymt, ysq, ytu, yus, ylg, hY, hyf⟩, ⟨tfs, vt⟩, ⟨gfs, vg⟩, hac⟩ := hI _ _ h7
      refine RQ.blk 2 (pc' := 83) (lv' := [(2, .int (nI n)), (1, .int (nI (B / 4))), (0, .ref 1)]) (st' := [.ref 1, .int (nI n)]) (H' := _) (kc' := 0) (ks' := 0) rfl ?_
      refine RQ.get (ci := 11) rfl v0 rfl rfl ?_
      refine RQ.brF rfl rfl rfl (cF_ge n B) ?_
      refine RQ.blk 1 (pc' := 90) (lv' := [(2, .int (nI n)), (1, .int (nI (B / 4))), (0, .ref 1)]) (st' := [.ref 1]) (H' := _) (kc' := 0) (ks' := 0) rfl ?_
      refine RQ.get (ci := 11) rfl v0 rfl rfl ?_
      refine RQ.call (v := some (.int (nI (freeN yus B)))) (st' := []) rfl rfl rfl rfl rfl rfl (args_v [] [] rfl rfl (Nat.le_of_ble_eq_true rfl) rfl hY.1 (Nat.le_of_ble_eq_true rfl)) (rc_freeBlocks hY hB) ?_
      rw [hyf]
      have hfb : fn s7 ≤ B := by rw [← hyf]; exact cntB_le _ _
      refine RQ.blk 1 (pc' := 97) (lv' := [(2, .int (nI n)), (1, .int (nI (B / 4))), (0, .ref 1)]) (st' := [.int (nI (B / 4)), .int (nI (fn s7))]) (H' := _) (kc' := 0) (ks' := 0) rfl ?_
      by_cases hlo7 : fn s7 < B / 4
      · refine RQ.brF rfl rfl rfl (cF_ge (fn s7) (B / 4)) ?_
        refine RQ.blk 1 (pc' := 101) (lv' := [(2, .int (nI n)), (1, .int (nI (B / 4))), (0, .ref 1)]) (st' := [.ref 1]) (H' := _) (kc' := 0) (ks' := 0) rfl ?_
        refine RQ.get (ci := 11) rfl v0 rfl rfl ?_
        refine RQ.blk 1 (pc' := 105) (lv' := [(2, .int (nI n)), (1, .int (nI (B / 4))), (0, .ref 1)]) (st' := [.ref 1, .ref 191]) (H' := _) (kc' := 0) (ks' := 0) rfl ?_
        refine RQ.get (ci := 11) rfl v0 rfl rfl ?_
        refine RQ.blk 1 (pc' := 109) (lv' := [(2, .int (nI n)), (1, .int (nI (B / 4))), (0, .ref 1)]) (st' := [.int 0, .int (nI P), .ref 191]) (H' := _) (kc' := 0) (ks' := 0) rfl ?_
        refine RQ.callTXI (st' := []) rfl rfl rfl rfl rfl rfl (args_v [.int 0, .int (nI P)] [] rfl rfl (Nat.le_of_ble_eq_true rfl) rfl vg (Nat.le_of_ble_eq_true rfl)) (hC _ _ _ hnB hp7 hlo7 h7) rfl (fun y H8 hx8 => ?_) (fun H9 hbad => ?_)
        rotate_left
        · refine RQ.blk 1 (pc' := 132) (lv' := _) (st' := [.int 0]) (H' := _) (kc' := 0 + 1) (ks' := 0 + 6) rfl ?_
          exact RQ.done (c := 0) (s := 0) rfl rfl rfl rfl (Or.inr ⟨_, rfl, hbad⟩)
        rcases hx8 with ⟨rfl, s8, hp8, h8⟩ | ⟨rfl, s8, hp6, h8⟩
        ·
          refine RQ.brF rfl rfl rfl (by decide) ?_
          refine RQ.blk 2 (pc' := 129) (lv' := [(2, .int (nI n)), (1, .int (nI (B / 4))), (0, .ref 1)]) (st' := [.int 1]) (H' := _) (kc' := 0) (ks' := 0) rfl ?_
          exact RQ.done (c := 0) (s := 0) rfl rfl rfl rfl (Or.inl ⟨_, rfl, s8, h8, Or.inr (Or.inl hp8)⟩)
        ·
          refine RQ.brT rfl rfl rfl (by decide) ?_
          obtain ⟨v0, ⟨vN, vkf, vkl, vmo, vpl, vle, val, vod, vsp, vsz, vss, v74⟩, ⟨ylc, yfr, yff, ywr, ytp, yrc, yms, ymt, ysq, ytu, yus, ylg, hY, hyf⟩, ⟨tfs, vt⟩, ⟨gfs, vg⟩, hac⟩ := hI _ _ h8
          refine RQ.blk 1 (pc' := 119) (lv' := [(2, .int (nI n)), (1, .int (nI (B / 4))), (0, .ref 1)]) (st' := [.ref 1]) (H' := _) (kc' := 0) (ks' := 0) rfl ?_
          refine RQ.callTX (st' := []) rfl rfl rfl rfl rfl rfl (args_v [] [] rfl rfl (Nat.le_of_ble_eq_true rfl) rfl v0 (Nat.le_of_ble_eq_true rfl)) (hK6 _ _ _ hp6 h8) rfl (fun H9 hx9 => ?_) (fun H9 hbad => ?_)
          rotate_left
          · refine RQ.blk 1 (pc' := 132) (lv' := _) (st' := [.int 0]) (H' := _) (kc' := 0 + 1) (ks' := 0 + 6) rfl ?_
            exact RQ.done (c := 0) (s := 0) rfl rfl rfl rfl (Or.inr ⟨_, rfl, hbad⟩)
          obtain ⟨s9, hp9, h9⟩ := hx9
          obtain ⟨v0, ⟨vN, vkf, vkl, vmo, vpl, vle, val, vod, vsp, vsz, vss, v74⟩, ⟨ylc, yfr, yff, ywr, ytp, yrc, yms, ymt, ysq, ytu, yus, ylg, hY, hyf⟩, ⟨tfs, vt⟩, ⟨gfs, vg⟩, hac⟩ := hI _ _ h9
          refine RQ.blk 1 (pc' := 125) (lv' := [(2, .int (nI n + 1)), (1, .int (nI (B / 4))), (0, .ref 1)]) (st' := []) (H' := _) (kc' := 0) (ks' := 0) rfl ?_
          rw [show (nI n + 1 : Int32) = nI (n + 1) from nI_add n 1]
          refine RQ.blk 1 (pc' := 81) (lv' := [(2, .int (nI (n + 1))), (1, .int (nI (B / 4))), (0, .ref 1)]) (st' := []) (H' := _) (kc' := 0) (ks' := 0) rfl ?_
          refine RQ.pick (a := [(2, .int (nI (n + 1))), (1, .int (nI (B / 4))), (0, .ref 1)]) [0, 1, 2] [2, 1, 0] rfl rfl (by decide) ?_
          exact ih (n + 1) _ ⟨by omega, s9, hp9, h9⟩ (by omega)
      · refine RQ.brT rfl rfl rfl (cT_ge (fn s7) (B / 4)) ?_
        refine RQ.blk 1 (pc' := 129) (lv' := [(2, .int (nI n)), (1, .int (nI (B / 4))), (0, .ref 1)]) (st' := [.int 1]) (H' := _) (kc' := 0) (ks' := 0) rfl ?_
        exact RQ.done (c := 0) (s := 0) rfl rfl rfl rfl (Or.inl ⟨_, rfl, s7, h7, Or.inr (Or.inr ⟨n, hp7, Or.inl (by omega)⟩)⟩)
    ·
      obtain ⟨v0, ⟨vN, vkf, vkl, vmo, vpl, vle, val, vod, vsp, vsz, vss, v74⟩, ⟨ylc, yfr, yff, ywr, ytp, yrc, yms, ymt, ysq, ytu, yus, ylg, hY, hyf⟩, ⟨tfs, vt⟩, ⟨gfs, vg⟩, hac⟩ := hI _ _ h7
      refine RQ.blk 2 (pc' := 83) (lv' := [(2, .int (nI n)), (1, .int (nI (B / 4))), (0, .ref 1)]) (st' := [.ref 1, .int (nI n)]) (H' := _) (kc' := 0) (ks' := 0) rfl ?_
      refine RQ.get (ci := 11) rfl v0 rfl rfl ?_
      refine RQ.brT rfl rfl rfl (cT_ge n B) ?_
      refine RQ.blk 1 (pc' := 129) (lv' := [(2, .int (nI n)), (1, .int (nI (B / 4))), (0, .ref 1)]) (st' := [.int 1]) (H' := _) (kc' := 0) (ks' := 0) rfl ?_
      exact RQ.done (c := 0) (s := 0) rfl rfl rfl rfl (Or.inl ⟨_, rfl, s7, h7, Or.inr (Or.inr ⟨n, hp7, Or.inr (by omega)⟩)⟩)
  obtain ⟨v0, ⟨vN, vkf, vkl, vmo, vpl, vle, val, vod, vsp, vsz, vss, v74⟩, ⟨ylc, yfr, yff, ywr, ytp, yrc, yms, ymt, ysq, ytu, yus, ylg, hY, hyf⟩, ⟨tfs, vt⟩, ⟨gfs, vg⟩, hac⟩ := hI _ _ h
  refine RQ.blk 1 (pc' := 1) (lv' := [(0, .ref 1)]) (st' := [.ref 1]) (H' := _) (kc' := 0) (ks' := 0) rfl ?_
  refine RQ.get (ci := 11) rfl v0 rfl rfl ?_
  refine RQ.get (ci := 10) rfl v74.1 rfl rfl ?_
  refine RQ.blk 1 (pc' := 9) (lv' := [(0, .ref 1)]) (st' := [.int 96, .int (nI (ac s))]) (H' := _) (kc' := 0) (ks' := 0) rfl ?_
  by_cases ha : ac s < 96
  · have hp1 := h01 _ h0 ha
    refine RQ.brT rfl rfl rfl (cT_lt (ac s) 96) ?_
    refine RQ.blk 1 (pc' := 24) (lv' := [(0, .ref 1)]) (st' := [.ref 1]) (H' := _) (kc' := 0) (ks' := 0) rfl ?_
    refine RQ.callTX (st' := []) rfl rfl rfl rfl rfl rfl (args_v [] [] rfl rfl (Nat.le_of_ble_eq_true rfl) rfl v0 (Nat.le_of_ble_eq_true rfl)) (hK1 _ _ hp1 h) rfl (fun H3 hx3 => ?_) (fun H9 hbad => ?_)
    rotate_left
    · refine RQ.blk 1 (pc' := 132) (lv' := _) (st' := [.int 0]) (H' := _) (kc' := 0 + 1) (ks' := 0 + 6) rfl ?_
      exact RQ.done (c := 0) (s := 0) rfl rfl rfl rfl (Or.inr ⟨_, rfl, hbad⟩)
    obtain ⟨s3, hp2, h3⟩ := hx3
    obtain ⟨v0, ⟨vN, vkf, vkl, vmo, vpl, vle, val, vod, vsp, vsz, vss, v74⟩, ⟨ylc, yfr, yff, ywr, ytp, yrc, yms, ymt, ysq, ytu, yus, ylg, hY, hyf⟩, ⟨tfs, vt⟩, ⟨gfs, vg⟩, hac⟩ := hI _ _ h3
    refine RQ.blk 1 (pc' := 28) (lv' := [(0, .ref 1)]) (st' := [.ref 1]) (H' := _) (kc' := 0) (ks' := 0) rfl ?_
    refine RQ.get (ci := 11) rfl v0 rfl rfl ?_
    refine RQ.blk 2 (pc' := 33) (lv' := [(0, .ref 1)]) (st' := [.int (nI B / 4)]) (H' := _) (kc' := 0) (ks' := 0) rfl ?_
    rw [show (nI B / 4 : Int32) = nI (B / 4) from pk_div (a := B) (d := 4) (by omega) (by omega) (by omega)]
    refine RQ.blk 2 (pc' := 35) (lv' := [(1, .int (nI (B / 4))), (0, .ref 1)]) (st' := [.ref 1]) (H' := _) (kc' := 0) (ks' := 0) rfl ?_
    refine RQ.get (ci := 11) rfl v0 rfl rfl ?_
    refine RQ.call (v := some (.int (nI (freeN yus B)))) (st' := []) rfl rfl rfl rfl rfl rfl (args_v [] [] rfl rfl (Nat.le_of_ble_eq_true rfl) rfl hY.1 (Nat.le_of_ble_eq_true rfl)) (rc_freeBlocks hY hB) ?_
    rw [hyf]
    have hfb : fn s3 ≤ B := by rw [← hyf]; exact cntB_le _ _
    refine RQ.blk 1 (pc' := 42) (lv' := [(1, .int (nI (B / 4))), (0, .ref 1)]) (st' := [.int (nI (B / 4)), .int (nI (fn s3))]) (H' := _) (kc' := 0) (ks' := 0) rfl ?_
    by_cases hlo : fn s3 < B / 4
    · refine RQ.brT rfl rfl rfl (cT_lt (fn s3) (B / 4)) ?_
      refine RQ.blk 1 (pc' := 48) (lv' := [(1, .int (nI (B / 4))), (0, .ref 1)]) (st' := [.ref 1]) (H' := _) (kc' := 0) (ks' := 0) rfl ?_
      refine RQ.get (ci := 11) rfl v0 rfl rfl ?_
      refine RQ.blk 1 (pc' := 52) (lv' := [(1, .int (nI (B / 4))), (0, .ref 1)]) (st' := [.ref 1, .ref 137]) (H' := _) (kc' := 0) (ks' := 0) rfl ?_
      refine RQ.get (ci := 11) rfl v0 rfl rfl ?_
      refine RQ.callTX (st' := []) rfl rfl rfl rfl rfl rfl (args_v [.int (nI P)] [] rfl rfl (Nat.le_of_ble_eq_true rfl) rfl vt (Nat.le_of_ble_eq_true rfl)) (hS2 _ _ hp2 hlo h3) rfl (fun H4 hx4 => ?_) (fun H9 hbad => ?_)
      rotate_left
      · refine RQ.blk 1 (pc' := 132) (lv' := _) (st' := [.int 0]) (H' := _) (kc' := 0 + 1) (ks' := 0 + 6) rfl ?_
        exact RQ.done (c := 0) (s := 0) rfl rfl rfl rfl (Or.inr ⟨_, rfl, hbad⟩)
      obtain ⟨s4, hp3, h4⟩ := hx4
      obtain ⟨v0, ⟨vN, vkf, vkl, vmo, vpl, vle, val, vod, vsp, vsz, vss, v74⟩, ⟨ylc, yfr, yff, ywr, ytp, yrc, yms, ymt, ysq, ytu, yus, ylg, hY, hyf⟩, ⟨tfs, vt⟩, ⟨gfs, vg⟩, hac⟩ := hI _ _ h4
      refine RQ.blk 1 (pc' := 59) (lv' := [(1, .int (nI (B / 4))), (0, .ref 1)]) (st' := [.ref 1]) (H' := _) (kc' := 0) (ks' := 0) rfl ?_
      refine RQ.get (ci := 11) rfl v0 rfl rfl ?_
      refine RQ.callI (st' := []) rfl rfl rfl rfl rfl rfl (args_v [] [] rfl rfl (Nat.le_of_ble_eq_true rfl) rfl vg (Nat.le_of_ble_eq_true rfl)) (hSw _ _ hp3 h4) (fun y H5 hx5 => ?_)
      rcases hx5 with ⟨rfl, s5, hp5, h5⟩ | ⟨rfl, s5, hp4, h5⟩
      ·
        obtain ⟨v0, ⟨vN, vkf, vkl, vmo, vpl, vle, val, vod, vsp, vsz, vss, v74⟩, ⟨ylc, yfr, yff, ywr, ytp, yrc, yms, ymt, ysq, ytu, yus, ylg, hY, hyf⟩, ⟨tfs, vt⟩, ⟨gfs, vg⟩, hac⟩ := hI _ _ h5
        refine RQ.brT rfl rfl rfl (by decide) ?_
        refine RQ.blk 2 (pc' := 81) (lv' := [(2, .int 0), (1, .int (nI (B / 4))), (0, .ref 1)]) (st' := []) (H' := _) (kc' := 0) (ks' := 0) rfl ?_
        refine RQ.pick (a := [(2, .int 0), (1, .int (nI (B / 4))), (0, .ref 1)]) [0, 1, 2] [2, 1, 0] rfl rfl (by decide) ?_
        exact hloop 0 H5 s5 (Nat.zero_le _) hp5 h5
      ·
        obtain ⟨v0, yf5, v83⟩ := hI' _ _ h5
        refine RQ.brF rfl rfl rfl (by decide) ?_
        refine RQ.blk 1 (pc' := 69) (lv' := [(1, .int (nI (B / 4))), (0, .ref 1)]) (st' := [.ref 1]) (H' := _) (kc' := 0) (ks' := 0) rfl ?_
        refine RQ.get (ci := 11) rfl v0 rfl rfl ?_
        refine RQ.blk 1 (pc' := 73) (lv' := [(1, .int (nI (B / 4))), (0, .ref 1)]) (st' := [.ref 1, .ref 84]) (H' := _) (kc' := 0) (ks' := 0) rfl ?_
        refine RQ.get (ci := 11) rfl v0 rfl rfl ?_
        refine RQ.callTX (st' := []) rfl rfl rfl rfl rfl rfl (args_v [.int (nI P)] [] rfl rfl (Nat.le_of_ble_eq_true rfl) rfl v83 (Nat.le_of_ble_eq_true rfl)) (hSv _ _ hp4 h5) rfl (fun H6 hx6 => ?_) (fun H9 hbad => ?_)
        rotate_left
        · refine RQ.blk 1 (pc' := 132) (lv' := _) (st' := [.int 0]) (H' := _) (kc' := 0 + 1) (ks' := 0 + 6) rfl ?_
          exact RQ.done (c := 0) (s := 0) rfl rfl rfl rfl (Or.inr ⟨_, rfl, hbad⟩)
        obtain ⟨s6, hp5, h6⟩ := hx6
        refine RQ.blk 2 (pc' := 81) (lv' := [(2, .int 0), (1, .int (nI (B / 4))), (0, .ref 1)]) (st' := []) (H' := _) (kc' := 0) (ks' := 0) rfl ?_
        refine RQ.pick (a := [(2, .int 0), (1, .int (nI (B / 4))), (0, .ref 1)]) [0, 1, 2] [2, 1, 0] rfl rfl (by decide) ?_
        exact hloop 0 H6 s6 (Nat.zero_le _) hp5 h6
    · refine RQ.brF rfl rfl rfl (cF_lt (fn s3) (B / 4)) ?_
      refine RQ.blk 1 (pc' := 46) (lv' := [(1, .int (nI (B / 4))), (0, .ref 1)]) (st' := [.int 1]) (H' := _) (kc' := 0) (ks' := 0) rfl ?_
      exact RQ.done (c := 0) (s := 0) rfl rfl rfl rfl (Or.inl ⟨_, rfl, s3, h3, Or.inl ⟨hp2, by omega⟩⟩)
  · refine RQ.brF rfl rfl rfl (cF_lt (ac s) 96) ?_
    refine RQ.blk 1 (pc' := 13) (lv' := [(0, .ref 1)]) (st' := [.ref 1]) (H' := _) (kc' := 0) (ks' := 0) rfl ?_
    refine RQ.get (ci := 11) rfl v0 rfl rfl ?_
    refine RQ.blk 1 (pc' := 17) (lv' := [(0, .ref 1)]) (st' := [.ref 1, .ref 137]) (H' := _) (kc' := 0) (ks' := 0) rfl ?_
    refine RQ.get (ci := 11) rfl v0 rfl rfl ?_
    refine RQ.callTX (st' := []) rfl rfl rfl rfl rfl rfl (args_v [.int (nI P)] [] rfl rfl (Nat.le_of_ble_eq_true rfl) rfl vt (Nat.le_of_ble_eq_true rfl)) (hS0 _ _ h0 (by omega) h) rfl (fun H2 hx2 => ?_) (fun H9 hbad => ?_)
    rotate_left
    · refine RQ.blk 1 (pc' := 132) (lv' := _) (st' := [.int 0]) (H' := _) (kc' := 0 + 1) (ks' := 0 + 6) rfl ?_
      exact RQ.done (c := 0) (s := 0) rfl rfl rfl rfl (Or.inr ⟨_, rfl, hbad⟩)
    obtain ⟨s2, hp1, h2⟩ := hx2
    obtain ⟨v0, ⟨vN, vkf, vkl, vmo, vpl, vle, val, vod, vsp, vsz, vss, v74⟩, ⟨ylc, yfr, yff, ywr, ytp, yrc, yms, ymt, ysq, ytu, yus, ylg, hY, hyf⟩, ⟨tfs, vt⟩, ⟨gfs, vg⟩, hac⟩ := hI _ _ h2
    refine RQ.blk 1 (pc' := 24) (lv' := [(0, .ref 1)]) (st' := [.ref 1]) (H' := _) (kc' := 0) (ks' := 0) rfl ?_
    refine RQ.callTX (st' := []) rfl rfl rfl rfl rfl rfl (args_v [] [] rfl rfl (Nat.le_of_ble_eq_true rfl) rfl v0 (Nat.le_of_ble_eq_true rfl)) (hK1 _ _ hp1 h2) rfl (fun H3 hx3 => ?_) (fun H9 hbad => ?_)
    rotate_left
    · refine RQ.blk 1 (pc' := 132) (lv' := _) (st' := [.int 0]) (H' := _) (kc' := 0 + 1) (ks' := 0 + 6) rfl ?_
      exact RQ.done (c := 0) (s := 0) rfl rfl rfl rfl (Or.inr ⟨_, rfl, hbad⟩)
    obtain ⟨s3, hp2, h3⟩ := hx3
    obtain ⟨v0, ⟨vN, vkf, vkl, vmo, vpl, vle, val, vod, vsp, vsz, vss, v74⟩, ⟨ylc, yfr, yff, ywr, ytp, yrc, yms, ymt, ysq, ytu, yus, ylg, hY, hyf⟩, ⟨tfs, vt⟩, ⟨gfs, vg⟩, hac⟩ := hI _ _ h3
    refine RQ.blk 1 (pc' := 28) (lv' := [(0, .ref 1)]) (st' := [.ref 1]) (H' := _) (kc' := 0) (ks' := 0) rfl ?_
    refine RQ.get (ci := 11) rfl v0 rfl rfl ?_
    refine RQ.blk 2 (pc' := 33) (lv' := [(0, .ref 1)]) (st' := [.int (nI B / 4)]) (H' := _) (kc' := 0) (ks' := 0) rfl ?_
    rw [show (nI B / 4 : Int32) = nI (B / 4) from pk_div (a := B) (d := 4) (by omega) (by omega) (by omega)]
    refine RQ.blk 2 (pc' := 35) (lv' := [(1, .int (nI (B / 4))), (0, .ref 1)]) (st' := [.ref 1]) (H' := _) (kc' := 0) (ks' := 0) rfl ?_
    refine RQ.get (ci := 11) rfl v0 rfl rfl ?_
    refine RQ.call (v := some (.int (nI (freeN yus B)))) (st' := []) rfl rfl rfl rfl rfl rfl (args_v [] [] rfl rfl (Nat.le_of_ble_eq_true rfl) rfl hY.1 (Nat.le_of_ble_eq_true rfl)) (rc_freeBlocks hY hB) ?_
    rw [hyf]
    have hfb : fn s3 ≤ B := by rw [← hyf]; exact cntB_le _ _
    refine RQ.blk 1 (pc' := 42) (lv' := [(1, .int (nI (B / 4))), (0, .ref 1)]) (st' := [.int (nI (B / 4)), .int (nI (fn s3))]) (H' := _) (kc' := 0) (ks' := 0) rfl ?_
    by_cases hlo : fn s3 < B / 4
    · refine RQ.brT rfl rfl rfl (cT_lt (fn s3) (B / 4)) ?_
      refine RQ.blk 1 (pc' := 48) (lv' := [(1, .int (nI (B / 4))), (0, .ref 1)]) (st' := [.ref 1]) (H' := _) (kc' := 0) (ks' := 0) rfl ?_
      refine RQ.get (ci := 11) rfl v0 rfl rfl ?_
      refine RQ.blk 1 (pc' := 52) (lv' := [(1, .int (nI (B / 4))), (0, .ref 1)]) (st' := [.ref 1, .ref 137]) (H' := _) (kc' := 0) (ks' := 0) rfl ?_
      refine RQ.get (ci := 11) rfl v0 rfl rfl ?_
      refine RQ.callTX (st' := []) rfl rfl rfl rfl rfl rfl (args_v [.int (nI P)] [] rfl rfl (Nat.le_of_ble_eq_true rfl) rfl vt (Nat.le_of_ble_eq_true rfl)) (hS2 _ _ hp2 hlo h3) rfl (fun H4 hx4 => ?_) (fun H9 hbad => ?_)
      rotate_left
      · refine RQ.blk 1 (pc' := 132) (lv' := _) (st' := [.int 0]) (H' := _) (kc' := 0 + 1) (ks' := 0 + 6) rfl ?_
        exact RQ.done (c := 0) (s := 0) rfl rfl rfl rfl (Or.inr ⟨_, rfl, hbad⟩)
      obtain ⟨s4, hp3, h4⟩ := hx4
      obtain ⟨v0, ⟨vN, vkf, vkl, vmo, vpl, vle, val, vod, vsp, vsz, vss, v74⟩, ⟨ylc, yfr, yff, ywr, ytp, yrc, yms, ymt, ysq, ytu, yus, ylg, hY, hyf⟩, ⟨tfs, vt⟩, ⟨gfs, vg⟩, hac⟩ := hI _ _ h4
      refine RQ.blk 1 (pc' := 59) (lv' := [(1, .int (nI (B / 4))), (0, .ref 1)]) (st' := [.ref 1]) (H' := _) (kc' := 0) (ks' := 0) rfl ?_
      refine RQ.get (ci := 11) rfl v0 rfl rfl ?_
      refine RQ.callI (st' := []) rfl rfl rfl rfl rfl rfl (args_v [] [] rfl rfl (Nat.le_of_ble_eq_true rfl) rfl vg (Nat.le_of_ble_eq_true rfl)) (hSw _ _ hp3 h4) (fun y H5 hx5 => ?_)
      rcases hx5 with ⟨rfl, s5, hp5, h5⟩ | ⟨rfl, s5, hp4, h5⟩
      ·
        obtain ⟨v0, ⟨vN, vkf, vkl, vmo, vpl, vle, val, vod, vsp, vsz, vss, v74⟩, ⟨ylc, yfr, yff, ywr, ytp, yrc, yms, ymt, ysq, ytu, yus, ylg, hY, hyf⟩, ⟨tfs, vt⟩, ⟨gfs, vg⟩, hac⟩ := hI _ _ h5
        refine RQ.brT rfl rfl rfl (by decide) ?_
        refine RQ.blk 2 (pc' := 81) (lv' := [(2, .int 0), (1, .int (nI (B / 4))), (0, .ref 1)]) (st' := []) (H' := _) (kc' := 0) (ks' := 0) rfl ?_
        refine RQ.pick (a := [(2, .int 0), (1, .int (nI (B / 4))), (0, .ref 1)]) [0, 1, 2] [2, 1, 0] rfl rfl (by decide) ?_
        exact hloop 0 H5 s5 (Nat.zero_le _) hp5 h5
      ·
        obtain ⟨v0, yf5, v83⟩ := hI' _ _ h5
        refine RQ.brF rfl rfl rfl (by decide) ?_
        refine RQ.blk 1 (pc' := 69) (lv' := [(1, .int (nI (B / 4))), (0, .ref 1)]) (st' := [.ref 1]) (H' := _) (kc' := 0) (ks' := 0) rfl ?_
        refine RQ.get (ci := 11) rfl v0 rfl rfl ?_
        refine RQ.blk 1 (pc' := 73) (lv' := [(1, .int (nI (B / 4))), (0, .ref 1)]) (st' := [.ref 1, .ref 84]) (H' := _) (kc' := 0) (ks' := 0) rfl ?_
        refine RQ.get (ci := 11) rfl v0 rfl rfl ?_
        refine RQ.callTX (st' := []) rfl rfl rfl rfl rfl rfl (args_v [.int (nI P)] [] rfl rfl (Nat.le_of_ble_eq_true rfl) rfl v83 (Nat.le_of_ble_eq_true rfl)) (hSv _ _ hp4 h5) rfl (fun H6 hx6 => ?_) (fun H9 hbad => ?_)
        rotate_left
        · refine RQ.blk 1 (pc' := 132) (lv' := _) (st' := [.int 0]) (H' := _) (kc' := 0 + 1) (ks' := 0 + 6) rfl ?_
          exact RQ.done (c := 0) (s := 0) rfl rfl rfl rfl (Or.inr ⟨_, rfl, hbad⟩)
        obtain ⟨s6, hp5, h6⟩ := hx6
        refine RQ.blk 2 (pc' := 81) (lv' := [(2, .int 0), (1, .int (nI (B / 4))), (0, .ref 1)]) (st' := []) (H' := _) (kc' := 0) (ks' := 0) rfl ?_
        refine RQ.pick (a := [(2, .int 0), (1, .int (nI (B / 4))), (0, .ref 1)]) [0, 1, 2] [2, 1, 0] rfl rfl (by decide) ?_
        exact hloop 0 H6 s6 (Nat.zero_le _) hp5 h6
    · refine RQ.brF rfl rfl rfl (cF_lt (fn s3) (B / 4)) ?_
      refine RQ.blk 1 (pc' := 46) (lv' := [(1, .int (nI (B / 4))), (0, .ref 1)]) (st' := [.int 1]) (H' := _) (kc' := 0) (ks' := 0) rfl ?_
      exact RQ.done (c := 0) (s := 0) rfl rfl rfl rfl (Or.inl ⟨_, rfl, s3, h3, Or.inl ⟨hp2, by omega⟩⟩)
theorem rb_cleared {sc : Nat × (Nat → Int32)} {d : Nat} {B P : Nat} {up cw cl cp cb : Int32} {ok1 bad : aH → Prop} {ok : Int32 → aH → Prop} {H : aH} {fs : List Value} (h0 : H[0]? = some (kO 11 fs)) (hk : RE sc (d + 6) mr_118 [.ref 1] H ok1 bad) (hv : ∀ H', ok1 H' → H'[0]? = some (kO 11 (fvs (nI B) (nI P) up cw cl cp cb)) ∧ ∃ gfs, H'[190]? = some (kO 4 gfs)) (hc : ∀ H', ok1 H' → REI sc (d + 6) mr_140 [.ref 191, .int (nI P), .int 1] H' ok bad) : RB sc (d + 7) mr_174 [.ref 1] H (fun H' => ∃ y, ok y H') bad := by
  refine RB.of ?_
  refine RQ.blk 1 (pc' := 1) (lv' := [(0, .ref 1)]) (st' := [.ref 1]) (H' := _) (kc' := 0) (ks' := 0) rfl ?_
  refine RQ.callTX (st' := []) rfl rfl rfl rfl rfl rfl (args_v [] [] rfl rfl (Nat.le_of_ble_eq_true rfl) rfl h0 (Nat.le_of_ble_eq_true rfl)) hk rfl (fun H2 hx2 => ?_) (fun H9 hbad => ?_)
  rotate_left
  · refine RQ.blk 1 (pc' := 21) (lv' := _) (st' := [.int 0]) (H' := _) (kc' := 0 + 1) (ks' := 0 + 6) rfl ?_
    exact RQ.done (c := 0) (s := 0) rfl rfl rfl rfl (Or.inr ⟨_, rfl, hbad⟩)
  obtain ⟨h2, gfs, hg⟩ := hv H2 hx2
  refine RQ.blk 1 (pc' := 5) (lv' := [(0, .ref 1)]) (st' := [.ref 1]) (H' := _) (kc' := 0) (ks' := 0) rfl ?_
  refine RQ.get (ci := 11) rfl h2 rfl rfl ?_
  refine RQ.blk 1 (pc' := 9) (lv' := [(0, .ref 1)]) (st' := [.ref 1, .ref 191]) (H' := _) (kc' := 0) (ks' := 0) rfl ?_
  refine RQ.get (ci := 11) rfl h2 rfl rfl ?_
  refine RQ.blk 1 (pc' := 13) (lv' := [(0, .ref 1)]) (st' := [.int 1, .int (nI P), .ref 191]) (H' := _) (kc' := 0) (ks' := 0) rfl ?_
  refine RQ.callTXI (st' := []) rfl rfl rfl rfl rfl rfl (args_v [.int 1, .int (nI P)] [] rfl rfl (Nat.le_of_ble_eq_true rfl) rfl hg (Nat.le_of_ble_eq_true rfl)) (hc H2 hx2) rfl (fun y H3 hx3 => ?_) (fun H9 hbad => ?_)
  rotate_left
  · refine RQ.blk 1 (pc' := 21) (lv' := _) (st' := [.int 0]) (H' := _) (kc' := 0 + 1) (ks' := 0 + 6) rfl ?_
    exact RQ.done (c := 0) (s := 0) rfl rfl rfl rfl (Or.inr ⟨_, rfl, hbad⟩)
  refine RQ.blk 2 (pc' := 18) (lv' := [(0, .ref 1)]) (st' := [.int 1]) (H' := _) (kc' := 0) (ks' := 0) rfl ?_
  exact RQ.done (c := 0) (s := 0) rfl rfl rfl rfl (Or.inl ⟨_, rfl, y, hx3⟩)
