/-! ===== flush, compact, collect, mount out of their parts; class; written by wip/gen/maint.py ===== -/
/-- a call that throws, perhaps behind another throw that was caught -/
def RXc (sc : Nat × (Nat → Int32)) (d : Nat) (M : aM) (av : List Value) (H : aH) (e : Nat) (P : aH → Prop) : Prop := ∃ H' n, n ≤ 2 ∧ RC sc d M av H (.inr e) H' n (6 * n) ∧ P H'
theorem RX.c {sc : Nat × (Nat → Int32)} {d : Nat} {M : aM} {av : List Value} {H : aH} {e : Nat} {P : aH → Prop} (h : RX sc d M av H e P) : RXc sc d M av H e P := by
  obtain ⟨H', h1, h2⟩ := h
  exact ⟨H', 1, by decide, h1, h2⟩
theorem RX2.c {sc : Nat × (Nat → Int32)} {d : Nat} {M : aM} {av : List Value} {H : aH} {e : Nat} {P : aH → Prop} (h : RX2 sc d M av H e P) : RXc sc d M av H e P := by
  obtain ⟨H', h1, h2⟩ := h
  exact ⟨H', 2, by decide, h1, h2⟩
theorem RXc.of {sc : Nat × (Nat → Int32)} {d : Nat} {M : aM} {av : List Value} {H : aH} {e : Nat} {P : aH → Prop} (h : RQ sc d M 0 (lv_args 0 av) [] H 0 0 (fun r => ∃ H' n, n ≤ 2 ∧ r = (.inr e, H', n, 6 * n) ∧ P H')) : RXc sc d M av H e P := by
  obtain ⟨r, h1, H', n, hn, e2, h3⟩ := h
  subst e2
  exact ⟨H', n, hn, h1, h3⟩
set_option maxRecDepth 20000 in
theorem ri_flush_ok {sc : Nat × (Nat → Int32)} {d : Nat} {H : aH} {B P : Nat} {cl : Int32} {cp cb : Nat} {tb : Nat → Int8} {l : Nat} {g : Nat → Int8} {rl : Nat} {wss : Nat → List aE} {t : aTr} {nn : Nat} {ok1 ok2 : aH → Prop} (h : ClsA H B P 1 0 cl cp cb tb l g rl wss t) (hRM : RB sc (d + 7) mr_167 [.ref 1] H ok1 (fun _ => False)) (hSE : ∀ H', ok1 H' → RN sc (d + 7) mr_153 [.ref 1, .int 1] H' ok2) (hNE : ∀ H', ok2 H' → RC sc (d + 7) mr_90 [.ref 75, .int (-1)] H' (.inl (some (.int (nI nn)))) H' 0 0) (hf1 : ∀ H', ok1 H' → H'[0]? = some (kO 11 (fvs (nI B) (nI P) 1 0 cl (nI cp) (nI cb)))) (hf2 : ∀ H', ok2 H' → H'[0]? = some (kO 11 (fvs (nI B) (nI P) 1 0 cl (nI cp) (nI cb)))) (hv2 : ∀ H', ok2 H' → ∃ fs, H'[74]? = some (kO 10 fs)) : RI sc (d + 8) mr_166 [.ref 1] H (fun x H' => x = nI nn ∧ ok2 H') := by
  obtain ⟨h0, h1, h2, h3, h4, ⟨q5, p6, h5, h6⟩, ⟨wq, h10, hwq⟩, hW, hCh, hT⟩ := id h
  refine RI.of ?_
  refine RQ.blk 1 (pc' := 1) (lv' := [(0, .ref 1)]) (st' := [.ref 1]) (H' := _) (kc' := 0) (ks' := 0) rfl ?_
  refine RQ.call (v := none) (st' := []) rfl rfl rfl rfl rfl rfl (args_v [] [] rfl rfl (Nat.le_of_ble_eq_true rfl) rfl h0 (Nat.le_of_ble_eq_true rfl)) (rc_up h0 rfl) ?_
  refine RQ.blk 2 (pc' := 6) (lv' := [(0, .ref 1)]) (st' := [.int 0, .ref 1]) (H' := _) (kc' := 0) (ks' := 0) rfl ?_
  refine RQ.call (v := none) (st' := []) rfl rfl rfl rfl rfl rfl (args_v [.int 0] [] rfl rfl (Nat.le_of_ble_eq_true rfl) rfl h0 (Nat.le_of_ble_eq_true rfl)) (rc_armCut0 h0) ?_
  refine RQ.blk 2 (pc' := 11) (lv' := [(0, .ref 1)]) (st' := [.ref 1, .ref 1]) (H' := _) (kc' := 0) (ks' := 0) rfl ?_
  refine RQ.callB (st' := [.ref 1]) rfl rfl rfl rfl rfl rfl (args_v [] [.ref 1] rfl rfl (Nat.le_of_ble_eq_true rfl) rfl h0 (Nat.le_of_ble_eq_true rfl)) hRM (fun H2 hH2 => ?_) (fun H2 hH2 => False.elim hH2)
  · have g1 := hf1 H2 hH2
    refine RQ.callN (st' := []) rfl rfl rfl rfl rfl rfl (args_v [.int 1] [] rfl rfl (Nat.le_of_ble_eq_true rfl) rfl g1 (Nat.le_of_ble_eq_true rfl)) (hSE H2 hH2) (fun H3 hH3 => ?_)
    have g2 := hf2 H3 hH3
    obtain ⟨vfs, g74⟩ := hv2 H3 hH3
    refine RQ.blk 1 (pc' := 18) (lv' := [(0, .ref 1)]) (st' := [.ref 1]) (H' := _) (kc' := 0) (ks' := 0) rfl ?_
    refine RQ.get (ci := 11) rfl g2 rfl rfl ?_
    refine RQ.blk 1 (pc' := 22) (lv' := [(0, .ref 1)]) (st' := [.int (-1), .ref 75]) (H' := _) (kc' := 0) (ks' := 0) rfl ?_
    refine RQ.call (v := some (.int (nI nn))) (st' := []) rfl rfl rfl rfl rfl rfl (args_v [.int (-1)] [] rfl rfl (Nat.le_of_ble_eq_true rfl) rfl g74 (Nat.le_of_ble_eq_true rfl)) (hNE H3 hH3) ?_
    exact RQ.done (c := 0) (s := 0) rfl rfl rfl rfl ⟨_, _, rfl, rfl, hH3⟩
set_option maxRecDepth 20000 in
theorem rx_flush_late {sc : Nat × (Nat → Int32)} {d : Nat} {H : aH} {B P : Nat}  {cp cb : Nat} {tb : Nat → Int8} {l : Nat} {g : Nat → Int8} {rl : Nat} {wss : Nat → List aE} {t : aTr} {ok1 fin : aH → Prop} (h : ClsA H B P 1 1 1 cp cb tb l g rl wss t) (hRM : RB sc (d + 7) mr_167 [.ref 1] H ok1 (fun _ => False)) (hSE : ∀ H', ok1 H' → RX sc (d + 7) mr_153 [.ref 1, .int 1] H' 1 fin) (hf1 : ∀ H', ok1 H' → H'[0]? = some (kO 11 (fvs (nI B) (nI P) 1 1 1 (nI cp) (nI cb)))) : RXc sc (d + 8) mr_166 [.ref 1] H 1 (fun H' => fin H') := by
  obtain ⟨h0, h1, h2, h3, h4, ⟨q5, p6, h5, h6⟩, ⟨wq, h10, hwq⟩, hW, hCh, hT⟩ := id h
  refine RXc.of ?_
  refine RQ.blk 1 (pc' := 1) (lv' := [(0, .ref 1)]) (st' := [.ref 1]) (H' := _) (kc' := 0) (ks' := 0) rfl ?_
  refine RQ.call (v := none) (st' := []) rfl rfl rfl rfl rfl rfl (args_v [] [] rfl rfl (Nat.le_of_ble_eq_true rfl) rfl h0 (Nat.le_of_ble_eq_true rfl)) (rc_up h0 rfl) ?_
  refine RQ.blk 2 (pc' := 6) (lv' := [(0, .ref 1)]) (st' := [.int 0, .ref 1]) (H' := _) (kc' := 0) (ks' := 0) rfl ?_
  refine RQ.call (v := none) (st' := []) rfl rfl rfl rfl rfl rfl (args_v [.int 0] [] rfl rfl (Nat.le_of_ble_eq_true rfl) rfl h0 (Nat.le_of_ble_eq_true rfl)) (rc_armCutL h0) ?_
  refine RQ.blk 2 (pc' := 11) (lv' := [(0, .ref 1)]) (st' := [.ref 1, .ref 1]) (H' := _) (kc' := 0) (ks' := 0) rfl ?_
  refine RQ.callB (st' := [.ref 1]) rfl rfl rfl rfl rfl rfl (args_v [] [.ref 1] rfl rfl (Nat.le_of_ble_eq_true rfl) rfl h0 (Nat.le_of_ble_eq_true rfl)) hRM (fun H2 hH2 => ?_) (fun H2 hH2 => False.elim hH2)
  · have g1 := hf1 H2 hH2
    obtain ⟨H4, hx4, hp4⟩ := hSE H2 hH2
    exact RQ.callP (st' := []) rfl rfl rfl rfl rfl rfl (args_v [.int 1] [] rfl rfl (Nat.le_of_ble_eq_true rfl) rfl g1 (Nat.le_of_ble_eq_true rfl)) hx4 rfl ⟨_, 1, by decide, rfl, hp4⟩
set_option maxRecDepth 20000 in
theorem rx_flush_cut {sc : Nat × (Nat → Int32)} {d : Nat} {H : aH} {B P : Nat}  {cp cb : Nat} {tb : Nat → Int8} {l : Nat} {g : Nat → Int8} {rl : Nat} {wss : Nat → List aE} {t : aTr} {ok1 bad fin : aH → Prop} {tf : Nat → Nat} {cf : Nat → Int8} {pq : Option Nat} {bb : Nat} (h : ClsA H B P 1 1 0 cp cb tb l g rl wss t) (hC : ChipAt H B cf tf pq bb 0) (hRM : RB sc (d + 7) mr_167 [.ref 1] (H.set 71 (kO 1 [.ref 73, .ref 74, .int (lI (some (cp))), .int (nI cb), .int (nI 0)])) ok1 bad) (hSE : ∀ H', ok1 H' → RX sc (d + 7) mr_153 [.ref 1, .int 1] H' 1 fin) (hSB : ∀ H', bad H' → RX sc (d + 7) mr_153 [.ref 1, .int 0] H' 1 fin) (hf1 : ∀ H', ok1 H' → H'[0]? = some (kO 11 (fvs (nI B) (nI P) 1 1 0 (nI cp) (nI cb)))) (hfb : ∀ H', bad H' → H'[0]? = some (kO 11 (fvs (nI B) (nI P) 1 1 0 (nI cp) (nI cb)))) : RXc sc (d + 8) mr_166 [.ref 1] H 1 (fun H' => fin H') := by
  obtain ⟨h0, h1, h2, h3, h4, ⟨q5, p6, h5, h6⟩, ⟨wq, h10, hwq⟩, hW, hCh, hT⟩ := id h
  refine RXc.of ?_
  refine RQ.blk 1 (pc' := 1) (lv' := [(0, .ref 1)]) (st' := [.ref 1]) (H' := _) (kc' := 0) (ks' := 0) rfl ?_
  refine RQ.call (v := none) (st' := []) rfl rfl rfl rfl rfl rfl (args_v [] [] rfl rfl (Nat.le_of_ble_eq_true rfl) rfl h0 (Nat.le_of_ble_eq_true rfl)) (rc_up h0 rfl) ?_
  refine RQ.blk 2 (pc' := 6) (lv' := [(0, .ref 1)]) (st' := [.int 0, .ref 1]) (H' := _) (kc' := 0) (ks' := 0) rfl ?_
  refine RQ.call (v := none) (st' := []) rfl rfl rfl rfl rfl rfl (args_v [.int 0] [] rfl rfl (Nat.le_of_ble_eq_true rfl) rfl h0 (Nat.le_of_ble_eq_true rfl)) (rc_armCut1 h0 hC) ?_
  refine RQ.blk 2 (pc' := 11) (lv' := [(0, .ref 1)]) (st' := [.ref 1, .ref 1]) (H' := _) (kc' := 0) (ks' := 0) rfl ?_
  generalize hH1 : (H.set 71 (kO 1 [.ref 73, .ref 74, .int (lI (some (cp))), .int (nI cb), .int (nI 0)])) = H1 at hRM ⊢
  have g0 : H1[0]? = some (kO 11 (fvs (nI B) (nI P) 1 1 0 (nI cp) (nI cb))) := by rw [← hH1]; exact (set_far (by decide)).trans h0
  refine RQ.callB (st' := [.ref 1]) rfl rfl rfl rfl rfl rfl (args_v [] [.ref 1] rfl rfl (Nat.le_of_ble_eq_true rfl) rfl g0 (Nat.le_of_ble_eq_true rfl)) hRM (fun H2 hH2 => ?_) (fun H2 hH2 => ?_)
  · have g1 := hf1 H2 hH2
    obtain ⟨H4, hx4, hp4⟩ := hSE H2 hH2
    exact RQ.callP (st' := []) rfl rfl rfl rfl rfl rfl (args_v [.int 1] [] rfl rfl (Nat.le_of_ble_eq_true rfl) rfl g1 (Nat.le_of_ble_eq_true rfl)) hx4 rfl ⟨_, 1, by decide, rfl, hp4⟩
  · have g1 := hfb H2 hH2
    obtain ⟨H4, hx4, hp4⟩ := hSB H2 hH2
    exact RQ.callP (st' := []) rfl rfl rfl rfl rfl rfl (args_v [.int 0] [] rfl rfl (Nat.le_of_ble_eq_true rfl) rfl g1 (Nat.le_of_ble_eq_true rfl)) hx4 rfl ⟨_, 2, by decide, rfl, hp4⟩
set_option maxRecDepth 20000 in
theorem rx_flush_down {sc : Nat × (Nat → Int32)} {d : Nat} {H : aH} {B P : Nat} {cw cl : Int32} {cp cb : Nat} {tb : Nat → Int8} {l : Nat} {g : Nat → Int8} {rl : Nat} {wss : Nat → List aE} {t : aTr}  (h : ClsA H B P 0 cw cl cp cb tb l g rl wss t)  : RX sc (d + 8) mr_166 [.ref 1] H 1 (fun H' => ClsA H' B P 0 cw cl cp cb tb l g rl wss t ∧ FrK H H') := by
  obtain ⟨h0, h1, h2, h3, h4, ⟨q5, p6, h5, h6⟩, ⟨wq, h10, hwq⟩, hW, hCh, hT⟩ := id h
  refine RX.of ?_
  refine RQ.blk 1 (pc' := 1) (lv' := [(0, .ref 1)]) (st' := [.ref 1]) (H' := _) (kc' := 0) (ks' := 0) rfl ?_
  exact RQ.callP (st' := []) rfl rfl rfl rfl rfl rfl (args_v [] [] rfl rfl (Nat.le_of_ble_eq_true rfl) rfl h0 (Nat.le_of_ble_eq_true rfl)) (rc_down h0 rfl) rfl ⟨_, rfl, h, FrK.rfl'⟩
set_option maxRecDepth 20000 in
theorem ri_compact0_ok {sc : Nat × (Nat → Int32)} {d : Nat} {H : aH} {B P : Nat} {cl : Int32} {cp cb : Nat} {tb : Nat → Int8} {l : Nat} {g : Nat → Int8} {rl : Nat} {wss : Nat → List aE} {t : aTr} {nn : Nat} {ok1 ok2 : aH → Prop} (h : ClsA H B P 1 0 cl cp cb tb l g rl wss t) (hRM : RB sc (d + 7) mr_170 [.ref 1, .int 0] H ok1 (fun _ => False)) (hSE : ∀ H', ok1 H' → RN sc (d + 7) mr_153 [.ref 1, .int 1] H' ok2) (hNE : ∀ H', ok2 H' → RC sc (d + 7) mr_90 [.ref 75, .int (-1)] H' (.inl (some (.int (nI nn)))) H' 0 0) (hf1 : ∀ H', ok1 H' → H'[0]? = some (kO 11 (fvs (nI B) (nI P) 1 0 cl (nI cp) (nI cb)))) (hf2 : ∀ H', ok2 H' → H'[0]? = some (kO 11 (fvs (nI B) (nI P) 1 0 cl (nI cp) (nI cb)))) (hv2 : ∀ H', ok2 H' → ∃ fs, H'[74]? = some (kO 10 fs)) : RI sc (d + 8) mr_169 [.ref 1, .int 0] H (fun x H' => x = nI nn ∧ ok2 H') := by
  obtain ⟨h0, h1, h2, h3, h4, ⟨q5, p6, h5, h6⟩, ⟨wq, h10, hwq⟩, hW, hCh, hT⟩ := id h
  refine RI.of ?_
  refine RQ.blk 1 (pc' := 1) (lv' := [(0, .ref 1), (1, .int 0)]) (st' := [.ref 1]) (H' := _) (kc' := 0) (ks' := 0) rfl ?_
  refine RQ.call (v := none) (st' := []) rfl rfl rfl rfl rfl rfl (args_v [] [] rfl rfl (Nat.le_of_ble_eq_true rfl) rfl h0 (Nat.le_of_ble_eq_true rfl)) (rc_up h0 rfl) ?_
  refine RQ.blk 2 (pc' := 6) (lv' := [(0, .ref 1), (1, .int 0)]) (st' := [.int 0, .ref 1]) (H' := _) (kc' := 0) (ks' := 0) rfl ?_
  refine RQ.call (v := none) (st' := []) rfl rfl rfl rfl rfl rfl (args_v [.int 0] [] rfl rfl (Nat.le_of_ble_eq_true rfl) rfl h0 (Nat.le_of_ble_eq_true rfl)) (rc_armCut0 h0) ?_
  refine RQ.blk 3 (pc' := 12) (lv' := [(0, .ref 1), (1, .int 0)]) (st' := [.int 0, .ref 1, .ref 1]) (H' := _) (kc' := 0) (ks' := 0) rfl ?_
  refine RQ.callB (st' := [.ref 1]) rfl rfl rfl rfl rfl rfl (args_v [.int 0] [.ref 1] rfl rfl (Nat.le_of_ble_eq_true rfl) rfl h0 (Nat.le_of_ble_eq_true rfl)) hRM (fun H2 hH2 => ?_) (fun H2 hH2 => False.elim hH2)
  · have g1 := hf1 H2 hH2
    refine RQ.callN (st' := []) rfl rfl rfl rfl rfl rfl (args_v [.int 1] [] rfl rfl (Nat.le_of_ble_eq_true rfl) rfl g1 (Nat.le_of_ble_eq_true rfl)) (hSE H2 hH2) (fun H3 hH3 => ?_)
    have g2 := hf2 H3 hH3
    obtain ⟨vfs, g74⟩ := hv2 H3 hH3
    refine RQ.blk 1 (pc' := 19) (lv' := [(0, .ref 1), (1, .int 0)]) (st' := [.ref 1]) (H' := _) (kc' := 0) (ks' := 0) rfl ?_
    refine RQ.get (ci := 11) rfl g2 rfl rfl ?_
    refine RQ.blk 1 (pc' := 23) (lv' := [(0, .ref 1), (1, .int 0)]) (st' := [.int (-1), .ref 75]) (H' := _) (kc' := 0) (ks' := 0) rfl ?_
    refine RQ.call (v := some (.int (nI nn))) (st' := []) rfl rfl rfl rfl rfl rfl (args_v [.int (-1)] [] rfl rfl (Nat.le_of_ble_eq_true rfl) rfl g74 (Nat.le_of_ble_eq_true rfl)) (hNE H3 hH3) ?_
    exact RQ.done (c := 0) (s := 0) rfl rfl rfl rfl ⟨_, _, rfl, rfl, hH3⟩
set_option maxRecDepth 20000 in
theorem rx_compact0_late {sc : Nat × (Nat → Int32)} {d : Nat} {H : aH} {B P : Nat}  {cp cb : Nat} {tb : Nat → Int8} {l : Nat} {g : Nat → Int8} {rl : Nat} {wss : Nat → List aE} {t : aTr} {ok1 fin : aH → Prop} (h : ClsA H B P 1 1 1 cp cb tb l g rl wss t) (hRM : RB sc (d + 7) mr_170 [.ref 1, .int 0] H ok1 (fun _ => False)) (hSE : ∀ H', ok1 H' → RX sc (d + 7) mr_153 [.ref 1, .int 1] H' 1 fin) (hf1 : ∀ H', ok1 H' → H'[0]? = some (kO 11 (fvs (nI B) (nI P) 1 1 1 (nI cp) (nI cb)))) : RXc sc (d + 8) mr_169 [.ref 1, .int 0] H 1 (fun H' => fin H') := by
  obtain ⟨h0, h1, h2, h3, h4, ⟨q5, p6, h5, h6⟩, ⟨wq, h10, hwq⟩, hW, hCh, hT⟩ := id h
  refine RXc.of ?_
  refine RQ.blk 1 (pc' := 1) (lv' := [(0, .ref 1), (1, .int 0)]) (st' := [.ref 1]) (H' := _) (kc' := 0) (ks' := 0) rfl ?_
  refine RQ.call (v := none) (st' := []) rfl rfl rfl rfl rfl rfl (args_v [] [] rfl rfl (Nat.le_of_ble_eq_true rfl) rfl h0 (Nat.le_of_ble_eq_true rfl)) (rc_up h0 rfl) ?_
  refine RQ.blk 2 (pc' := 6) (lv' := [(0, .ref 1), (1, .int 0)]) (st' := [.int 0, .ref 1]) (H' := _) (kc' := 0) (ks' := 0) rfl ?_
  refine RQ.call (v := none) (st' := []) rfl rfl rfl rfl rfl rfl (args_v [.int 0] [] rfl rfl (Nat.le_of_ble_eq_true rfl) rfl h0 (Nat.le_of_ble_eq_true rfl)) (rc_armCutL h0) ?_
  refine RQ.blk 3 (pc' := 12) (lv' := [(0, .ref 1), (1, .int 0)]) (st' := [.int 0, .ref 1, .ref 1]) (H' := _) (kc' := 0) (ks' := 0) rfl ?_
  refine RQ.callB (st' := [.ref 1]) rfl rfl rfl rfl rfl rfl (args_v [.int 0] [.ref 1] rfl rfl (Nat.le_of_ble_eq_true rfl) rfl h0 (Nat.le_of_ble_eq_true rfl)) hRM (fun H2 hH2 => ?_) (fun H2 hH2 => False.elim hH2)
  · have g1 := hf1 H2 hH2
    obtain ⟨H4, hx4, hp4⟩ := hSE H2 hH2
    exact RQ.callP (st' := []) rfl rfl rfl rfl rfl rfl (args_v [.int 1] [] rfl rfl (Nat.le_of_ble_eq_true rfl) rfl g1 (Nat.le_of_ble_eq_true rfl)) hx4 rfl ⟨_, 1, by decide, rfl, hp4⟩
set_option maxRecDepth 20000 in
theorem rx_compact0_cut {sc : Nat × (Nat → Int32)} {d : Nat} {H : aH} {B P : Nat}  {cp cb : Nat} {tb : Nat → Int8} {l : Nat} {g : Nat → Int8} {rl : Nat} {wss : Nat → List aE} {t : aTr} {ok1 bad fin : aH → Prop} {tf : Nat → Nat} {cf : Nat → Int8} {pq : Option Nat} {bb : Nat} (h : ClsA H B P 1 1 0 cp cb tb l g rl wss t) (hC : ChipAt H B cf tf pq bb 0) (hRM : RB sc (d + 7) mr_170 [.ref 1, .int 0] (H.set 71 (kO 1 [.ref 73, .ref 74, .int (lI (some (cp))), .int (nI cb), .int (nI 0)])) ok1 bad) (hSE : ∀ H', ok1 H' → RX sc (d + 7) mr_153 [.ref 1, .int 1] H' 1 fin) (hSB : ∀ H', bad H' → RX sc (d + 7) mr_153 [.ref 1, .int 0] H' 1 fin) (hf1 : ∀ H', ok1 H' → H'[0]? = some (kO 11 (fvs (nI B) (nI P) 1 1 0 (nI cp) (nI cb)))) (hfb : ∀ H', bad H' → H'[0]? = some (kO 11 (fvs (nI B) (nI P) 1 1 0 (nI cp) (nI cb)))) : RXc sc (d + 8) mr_169 [.ref 1, .int 0] H 1 (fun H' => fin H') := by
  obtain ⟨h0, h1, h2, h3, h4, ⟨q5, p6, h5, h6⟩, ⟨wq, h10, hwq⟩, hW, hCh, hT⟩ := id h
  refine RXc.of ?_
  refine RQ.blk 1 (pc' := 1) (lv' := [(0, .ref 1), (1, .int 0)]) (st' := [.ref 1]) (H' := _) (kc' := 0) (ks' := 0) rfl ?_
  refine RQ.call (v := none) (st' := []) rfl rfl rfl rfl rfl rfl (args_v [] [] rfl rfl (Nat.le_of_ble_eq_true rfl) rfl h0 (Nat.le_of_ble_eq_true rfl)) (rc_up h0 rfl) ?_
  refine RQ.blk 2 (pc' := 6) (lv' := [(0, .ref 1), (1, .int 0)]) (st' := [.int 0, .ref 1]) (H' := _) (kc' := 0) (ks' := 0) rfl ?_
  refine RQ.call (v := none) (st' := []) rfl rfl rfl rfl rfl rfl (args_v [.int 0] [] rfl rfl (Nat.le_of_ble_eq_true rfl) rfl h0 (Nat.le_of_ble_eq_true rfl)) (rc_armCut1 h0 hC) ?_
  refine RQ.blk 3 (pc' := 12) (lv' := [(0, .ref 1), (1, .int 0)]) (st' := [.int 0, .ref 1, .ref 1]) (H' := _) (kc' := 0) (ks' := 0) rfl ?_
  generalize hH1 : (H.set 71 (kO 1 [.ref 73, .ref 74, .int (lI (some (cp))), .int (nI cb), .int (nI 0)])) = H1 at hRM ⊢
  have g0 : H1[0]? = some (kO 11 (fvs (nI B) (nI P) 1 1 0 (nI cp) (nI cb))) := by rw [← hH1]; exact (set_far (by decide)).trans h0
  refine RQ.callB (st' := [.ref 1]) rfl rfl rfl rfl rfl rfl (args_v [.int 0] [.ref 1] rfl rfl (Nat.le_of_ble_eq_true rfl) rfl g0 (Nat.le_of_ble_eq_true rfl)) hRM (fun H2 hH2 => ?_) (fun H2 hH2 => ?_)
  · have g1 := hf1 H2 hH2
    obtain ⟨H4, hx4, hp4⟩ := hSE H2 hH2
    exact RQ.callP (st' := []) rfl rfl rfl rfl rfl rfl (args_v [.int 1] [] rfl rfl (Nat.le_of_ble_eq_true rfl) rfl g1 (Nat.le_of_ble_eq_true rfl)) hx4 rfl ⟨_, 1, by decide, rfl, hp4⟩
  · have g1 := hfb H2 hH2
    obtain ⟨H4, hx4, hp4⟩ := hSB H2 hH2
    exact RQ.callP (st' := []) rfl rfl rfl rfl rfl rfl (args_v [.int 0] [] rfl rfl (Nat.le_of_ble_eq_true rfl) rfl g1 (Nat.le_of_ble_eq_true rfl)) hx4 rfl ⟨_, 2, by decide, rfl, hp4⟩
set_option maxRecDepth 20000 in
theorem rx_compact0_down {sc : Nat × (Nat → Int32)} {d : Nat} {H : aH} {B P : Nat} {cw cl : Int32} {cp cb : Nat} {tb : Nat → Int8} {l : Nat} {g : Nat → Int8} {rl : Nat} {wss : Nat → List aE} {t : aTr}  (h : ClsA H B P 0 cw cl cp cb tb l g rl wss t)  : RX sc (d + 8) mr_169 [.ref 1, .int 0] H 1 (fun H' => ClsA H' B P 0 cw cl cp cb tb l g rl wss t ∧ FrK H H') := by
  obtain ⟨h0, h1, h2, h3, h4, ⟨q5, p6, h5, h6⟩, ⟨wq, h10, hwq⟩, hW, hCh, hT⟩ := id h
  refine RX.of ?_
  refine RQ.blk 1 (pc' := 1) (lv' := [(0, .ref 1), (1, .int 0)]) (st' := [.ref 1]) (H' := _) (kc' := 0) (ks' := 0) rfl ?_
  exact RQ.callP (st' := []) rfl rfl rfl rfl rfl rfl (args_v [] [] rfl rfl (Nat.le_of_ble_eq_true rfl) rfl h0 (Nat.le_of_ble_eq_true rfl)) (rc_down h0 rfl) rfl ⟨_, rfl, h, FrK.rfl'⟩
set_option maxRecDepth 20000 in
theorem ri_compact1_ok {sc : Nat × (Nat → Int32)} {d : Nat} {H : aH} {B P : Nat} {cl : Int32} {cp cb : Nat} {tb : Nat → Int8} {l : Nat} {g : Nat → Int8} {rl : Nat} {wss : Nat → List aE} {t : aTr} {nn : Nat} {ok1 ok2 : aH → Prop} (h : ClsA H B P 1 0 cl cp cb tb l g rl wss t) (hRM : RB sc (d + 7) mr_170 [.ref 1, .int 1] H ok1 (fun _ => False)) (hSE : ∀ H', ok1 H' → RN sc (d + 7) mr_153 [.ref 1, .int 1] H' ok2) (hNE : ∀ H', ok2 H' → RC sc (d + 7) mr_90 [.ref 75, .int (-1)] H' (.inl (some (.int (nI nn)))) H' 0 0) (hf1 : ∀ H', ok1 H' → H'[0]? = some (kO 11 (fvs (nI B) (nI P) 1 0 cl (nI cp) (nI cb)))) (hf2 : ∀ H', ok2 H' → H'[0]? = some (kO 11 (fvs (nI B) (nI P) 1 0 cl (nI cp) (nI cb)))) (hv2 : ∀ H', ok2 H' → ∃ fs, H'[74]? = some (kO 10 fs)) : RI sc (d + 8) mr_169 [.ref 1, .int 1] H (fun x H' => x = nI nn ∧ ok2 H') := by
  obtain ⟨h0, h1, h2, h3, h4, ⟨q5, p6, h5, h6⟩, ⟨wq, h10, hwq⟩, hW, hCh, hT⟩ := id h
  refine RI.of ?_
  refine RQ.blk 1 (pc' := 1) (lv' := [(0, .ref 1), (1, .int 1)]) (st' := [.ref 1]) (H' := _) (kc' := 0) (ks' := 0) rfl ?_
  refine RQ.call (v := none) (st' := []) rfl rfl rfl rfl rfl rfl (args_v [] [] rfl rfl (Nat.le_of_ble_eq_true rfl) rfl h0 (Nat.le_of_ble_eq_true rfl)) (rc_up h0 rfl) ?_
  refine RQ.blk 2 (pc' := 6) (lv' := [(0, .ref 1), (1, .int 1)]) (st' := [.int 0, .ref 1]) (H' := _) (kc' := 0) (ks' := 0) rfl ?_
  refine RQ.call (v := none) (st' := []) rfl rfl rfl rfl rfl rfl (args_v [.int 0] [] rfl rfl (Nat.le_of_ble_eq_true rfl) rfl h0 (Nat.le_of_ble_eq_true rfl)) (rc_armCut0 h0) ?_
  refine RQ.blk 3 (pc' := 12) (lv' := [(0, .ref 1), (1, .int 1)]) (st' := [.int 1, .ref 1, .ref 1]) (H' := _) (kc' := 0) (ks' := 0) rfl ?_
  refine RQ.callB (st' := [.ref 1]) rfl rfl rfl rfl rfl rfl (args_v [.int 1] [.ref 1] rfl rfl (Nat.le_of_ble_eq_true rfl) rfl h0 (Nat.le_of_ble_eq_true rfl)) hRM (fun H2 hH2 => ?_) (fun H2 hH2 => False.elim hH2)
  · have g1 := hf1 H2 hH2
    refine RQ.callN (st' := []) rfl rfl rfl rfl rfl rfl (args_v [.int 1] [] rfl rfl (Nat.le_of_ble_eq_true rfl) rfl g1 (Nat.le_of_ble_eq_true rfl)) (hSE H2 hH2) (fun H3 hH3 => ?_)
    have g2 := hf2 H3 hH3
    obtain ⟨vfs, g74⟩ := hv2 H3 hH3
    refine RQ.blk 1 (pc' := 19) (lv' := [(0, .ref 1), (1, .int 1)]) (st' := [.ref 1]) (H' := _) (kc' := 0) (ks' := 0) rfl ?_
    refine RQ.get (ci := 11) rfl g2 rfl rfl ?_
    refine RQ.blk 1 (pc' := 23) (lv' := [(0, .ref 1), (1, .int 1)]) (st' := [.int (-1), .ref 75]) (H' := _) (kc' := 0) (ks' := 0) rfl ?_
    refine RQ.call (v := some (.int (nI nn))) (st' := []) rfl rfl rfl rfl rfl rfl (args_v [.int (-1)] [] rfl rfl (Nat.le_of_ble_eq_true rfl) rfl g74 (Nat.le_of_ble_eq_true rfl)) (hNE H3 hH3) ?_
    exact RQ.done (c := 0) (s := 0) rfl rfl rfl rfl ⟨_, _, rfl, rfl, hH3⟩
set_option maxRecDepth 20000 in
theorem rx_compact1_late {sc : Nat × (Nat → Int32)} {d : Nat} {H : aH} {B P : Nat}  {cp cb : Nat} {tb : Nat → Int8} {l : Nat} {g : Nat → Int8} {rl : Nat} {wss : Nat → List aE} {t : aTr} {ok1 fin : aH → Prop} (h : ClsA H B P 1 1 1 cp cb tb l g rl wss t) (hRM : RB sc (d + 7) mr_170 [.ref 1, .int 1] H ok1 (fun _ => False)) (hSE : ∀ H', ok1 H' → RX sc (d + 7) mr_153 [.ref 1, .int 1] H' 1 fin) (hf1 : ∀ H', ok1 H' → H'[0]? = some (kO 11 (fvs (nI B) (nI P) 1 1 1 (nI cp) (nI cb)))) : RXc sc (d + 8) mr_169 [.ref 1, .int 1] H 1 (fun H' => fin H') := by
  obtain ⟨h0, h1, h2, h3, h4, ⟨q5, p6, h5, h6⟩, ⟨wq, h10, hwq⟩, hW, hCh, hT⟩ := id h
  refine RXc.of ?_
  refine RQ.blk 1 (pc' := 1) (lv' := [(0, .ref 1), (1, .int 1)]) (st' := [.ref 1]) (H' := _) (kc' := 0) (ks' := 0) rfl ?_
  refine RQ.call (v := none) (st' := []) rfl rfl rfl rfl rfl rfl (args_v [] [] rfl rfl (Nat.le_of_ble_eq_true rfl) rfl h0 (Nat.le_of_ble_eq_true rfl)) (rc_up h0 rfl) ?_
  refine RQ.blk 2 (pc' := 6) (lv' := [(0, .ref 1), (1, .int 1)]) (st' := [.int 0, .ref 1]) (H' := _) (kc' := 0) (ks' := 0) rfl ?_
  refine RQ.call (v := none) (st' := []) rfl rfl rfl rfl rfl rfl (args_v [.int 0] [] rfl rfl (Nat.le_of_ble_eq_true rfl) rfl h0 (Nat.le_of_ble_eq_true rfl)) (rc_armCutL h0) ?_
  refine RQ.blk 3 (pc' := 12) (lv' := [(0, .ref 1), (1, .int 1)]) (st' := [.int 1, .ref 1, .ref 1]) (H' := _) (kc' := 0) (ks' := 0) rfl ?_
  refine RQ.callB (st' := [.ref 1]) rfl rfl rfl rfl rfl rfl (args_v [.int 1] [.ref 1] rfl rfl (Nat.le_of_ble_eq_true rfl) rfl h0 (Nat.le_of_ble_eq_true rfl)) hRM (fun H2 hH2 => ?_) (fun H2 hH2 => False.elim hH2)
  · have g1 := hf1 H2 hH2
    obtain ⟨H4, hx4, hp4⟩ := hSE H2 hH2
    exact RQ.callP (st' := []) rfl rfl rfl rfl rfl rfl (args_v [.int 1] [] rfl rfl (Nat.le_of_ble_eq_true rfl) rfl g1 (Nat.le_of_ble_eq_true rfl)) hx4 rfl ⟨_, 1, by decide, rfl, hp4⟩
set_option maxRecDepth 20000 in
theorem rx_compact1_cut {sc : Nat × (Nat → Int32)} {d : Nat} {H : aH} {B P : Nat}  {cp cb : Nat} {tb : Nat → Int8} {l : Nat} {g : Nat → Int8} {rl : Nat} {wss : Nat → List aE} {t : aTr} {ok1 bad fin : aH → Prop} {tf : Nat → Nat} {cf : Nat → Int8} {pq : Option Nat} {bb : Nat} (h : ClsA H B P 1 1 0 cp cb tb l g rl wss t) (hC : ChipAt H B cf tf pq bb 0) (hRM : RB sc (d + 7) mr_170 [.ref 1, .int 1] (H.set 71 (kO 1 [.ref 73, .ref 74, .int (lI (some (cp))), .int (nI cb), .int (nI 0)])) ok1 bad) (hSE : ∀ H', ok1 H' → RX sc (d + 7) mr_153 [.ref 1, .int 1] H' 1 fin) (hSB : ∀ H', bad H' → RX sc (d + 7) mr_153 [.ref 1, .int 0] H' 1 fin) (hf1 : ∀ H', ok1 H' → H'[0]? = some (kO 11 (fvs (nI B) (nI P) 1 1 0 (nI cp) (nI cb)))) (hfb : ∀ H', bad H' → H'[0]? = some (kO 11 (fvs (nI B) (nI P) 1 1 0 (nI cp) (nI cb)))) : RXc sc (d + 8) mr_169 [.ref 1, .int 1] H 1 (fun H' => fin H') := by
  obtain ⟨h0, h1, h2, h3, h4, ⟨q5, p6, h5, h6⟩, ⟨wq, h10, hwq⟩, hW, hCh, hT⟩ := id h
  refine RXc.of ?_
  refine RQ.blk 1 (pc' := 1) (lv' := [(0, .ref 1), (1, .int 1)]) (st' := [.ref 1]) (H' := _) (kc' := 0) (ks' := 0) rfl ?_
  refine RQ.call (v := none) (st' := []) rfl rfl rfl rfl rfl rfl (args_v [] [] rfl rfl (Nat.le_of_ble_eq_true rfl) rfl h0 (Nat.le_of_ble_eq_true rfl)) (rc_up h0 rfl) ?_
  refine RQ.blk 2 (pc' := 6) (lv' := [(0, .ref 1), (1, .int 1)]) (st' := [.int 0, .ref 1]) (H' := _) (kc' := 0) (ks' := 0) rfl ?_
  refine RQ.call (v := none) (st' := []) rfl rfl rfl rfl rfl rfl (args_v [.int 0] [] rfl rfl (Nat.le_of_ble_eq_true rfl) rfl h0 (Nat.le_of_ble_eq_true rfl)) (rc_armCut1 h0 hC) ?_
  refine RQ.blk 3 (pc' := 12) (lv' := [(0, .ref 1), (1, .int 1)]) (st' := [.int 1, .ref 1, .ref 1]) (H' := _) (kc' := 0) (ks' := 0) rfl ?_
  generalize hH1 : (H.set 71 (kO 1 [.ref 73, .ref 74, .int (lI (some (cp))), .int (nI cb), .int (nI 0)])) = H1 at hRM ⊢
  have g0 : H1[0]? = some (kO 11 (fvs (nI B) (nI P) 1 1 0 (nI cp) (nI cb))) := by rw [← hH1]; exact (set_far (by decide)).trans h0
  refine RQ.callB (st' := [.ref 1]) rfl rfl rfl rfl rfl rfl (args_v [.int 1] [.ref 1] rfl rfl (Nat.le_of_ble_eq_true rfl) rfl g0 (Nat.le_of_ble_eq_true rfl)) hRM (fun H2 hH2 => ?_) (fun H2 hH2 => ?_)
  · have g1 := hf1 H2 hH2
    obtain ⟨H4, hx4, hp4⟩ := hSE H2 hH2
    exact RQ.callP (st' := []) rfl rfl rfl rfl rfl rfl (args_v [.int 1] [] rfl rfl (Nat.le_of_ble_eq_true rfl) rfl g1 (Nat.le_of_ble_eq_true rfl)) hx4 rfl ⟨_, 1, by decide, rfl, hp4⟩
  · have g1 := hfb H2 hH2
    obtain ⟨H4, hx4, hp4⟩ := hSB H2 hH2
    exact RQ.callP (st' := []) rfl rfl rfl rfl rfl rfl (args_v [.int 0] [] rfl rfl (Nat.le_of_ble_eq_true rfl) rfl g1 (Nat.le_of_ble_eq_true rfl)) hx4 rfl ⟨_, 2, by decide, rfl, hp4⟩
set_option maxRecDepth 20000 in
theorem rx_compact1_down {sc : Nat × (Nat → Int32)} {d : Nat} {H : aH} {B P : Nat} {cw cl : Int32} {cp cb : Nat} {tb : Nat → Int8} {l : Nat} {g : Nat → Int8} {rl : Nat} {wss : Nat → List aE} {t : aTr}  (h : ClsA H B P 0 cw cl cp cb tb l g rl wss t)  : RX sc (d + 8) mr_169 [.ref 1, .int 1] H 1 (fun H' => ClsA H' B P 0 cw cl cp cb tb l g rl wss t ∧ FrK H H') := by
  obtain ⟨h0, h1, h2, h3, h4, ⟨q5, p6, h5, h6⟩, ⟨wq, h10, hwq⟩, hW, hCh, hT⟩ := id h
  refine RX.of ?_
  refine RQ.blk 1 (pc' := 1) (lv' := [(0, .ref 1), (1, .int 1)]) (st' := [.ref 1]) (H' := _) (kc' := 0) (ks' := 0) rfl ?_
  exact RQ.callP (st' := []) rfl rfl rfl rfl rfl rfl (args_v [] [] rfl rfl (Nat.le_of_ble_eq_true rfl) rfl h0 (Nat.le_of_ble_eq_true rfl)) (rc_down h0 rfl) rfl ⟨_, rfl, h, FrK.rfl'⟩
set_option maxRecDepth 20000 in
theorem ri_collect_ok {sc : Nat × (Nat → Int32)} {d : Nat} {H : aH} {B P : Nat} {cl : Int32} {cp cb : Nat} {tb : Nat → Int8} {l : Nat} {g : Nat → Int8} {rl : Nat} {wss : Nat → List aE} {t : aTr} {nn : Nat} {ok1 ok2 : aH → Prop} (h : ClsA H B P 1 0 cl cp cb tb l g rl wss t) (hRM : RB sc (d + 7) mr_174 [.ref 1] H ok1 (fun _ => False)) (hSE : ∀ H', ok1 H' → RN sc (d + 7) mr_153 [.ref 1, .int 1] H' ok2) (hNE : ∀ H', ok2 H' → RC sc (d + 7) mr_90 [.ref 75, .int (-1)] H' (.inl (some (.int (nI nn)))) H' 0 0) (hf1 : ∀ H', ok1 H' → H'[0]? = some (kO 11 (fvs (nI B) (nI P) 1 0 cl (nI cp) (nI cb)))) (hf2 : ∀ H', ok2 H' → H'[0]? = some (kO 11 (fvs (nI B) (nI P) 1 0 cl (nI cp) (nI cb)))) (hv2 : ∀ H', ok2 H' → ∃ fs, H'[74]? = some (kO 10 fs)) : RI sc (d + 8) mr_173 [.ref 1] H (fun x H' => x = nI nn ∧ ok2 H') := by
  obtain ⟨h0, h1, h2, h3, h4, ⟨q5, p6, h5, h6⟩, ⟨wq, h10, hwq⟩, hW, hCh, hT⟩ := id h
  refine RI.of ?_
  refine RQ.blk 1 (pc' := 1) (lv' := [(0, .ref 1)]) (st' := [.ref 1]) (H' := _) (kc' := 0) (ks' := 0) rfl ?_
  refine RQ.call (v := none) (st' := []) rfl rfl rfl rfl rfl rfl (args_v [] [] rfl rfl (Nat.le_of_ble_eq_true rfl) rfl h0 (Nat.le_of_ble_eq_true rfl)) (rc_up h0 rfl) ?_
  refine RQ.blk 2 (pc' := 6) (lv' := [(0, .ref 1)]) (st' := [.int 0, .ref 1]) (H' := _) (kc' := 0) (ks' := 0) rfl ?_
  refine RQ.call (v := none) (st' := []) rfl rfl rfl rfl rfl rfl (args_v [.int 0] [] rfl rfl (Nat.le_of_ble_eq_true rfl) rfl h0 (Nat.le_of_ble_eq_true rfl)) (rc_armCut0 h0) ?_
  refine RQ.blk 2 (pc' := 11) (lv' := [(0, .ref 1)]) (st' := [.ref 1, .ref 1]) (H' := _) (kc' := 0) (ks' := 0) rfl ?_
  refine RQ.callB (st' := [.ref 1]) rfl rfl rfl rfl rfl rfl (args_v [] [.ref 1] rfl rfl (Nat.le_of_ble_eq_true rfl) rfl h0 (Nat.le_of_ble_eq_true rfl)) hRM (fun H2 hH2 => ?_) (fun H2 hH2 => False.elim hH2)
  · have g1 := hf1 H2 hH2
    refine RQ.callN (st' := []) rfl rfl rfl rfl rfl rfl (args_v [.int 1] [] rfl rfl (Nat.le_of_ble_eq_true rfl) rfl g1 (Nat.le_of_ble_eq_true rfl)) (hSE H2 hH2) (fun H3 hH3 => ?_)
    have g2 := hf2 H3 hH3
    obtain ⟨vfs, g74⟩ := hv2 H3 hH3
    refine RQ.blk 1 (pc' := 18) (lv' := [(0, .ref 1)]) (st' := [.ref 1]) (H' := _) (kc' := 0) (ks' := 0) rfl ?_
    refine RQ.get (ci := 11) rfl g2 rfl rfl ?_
    refine RQ.blk 1 (pc' := 22) (lv' := [(0, .ref 1)]) (st' := [.int (-1), .ref 75]) (H' := _) (kc' := 0) (ks' := 0) rfl ?_
    refine RQ.call (v := some (.int (nI nn))) (st' := []) rfl rfl rfl rfl rfl rfl (args_v [.int (-1)] [] rfl rfl (Nat.le_of_ble_eq_true rfl) rfl g74 (Nat.le_of_ble_eq_true rfl)) (hNE H3 hH3) ?_
    exact RQ.done (c := 0) (s := 0) rfl rfl rfl rfl ⟨_, _, rfl, rfl, hH3⟩
set_option maxRecDepth 20000 in
theorem rx_collect_late {sc : Nat × (Nat → Int32)} {d : Nat} {H : aH} {B P : Nat}  {cp cb : Nat} {tb : Nat → Int8} {l : Nat} {g : Nat → Int8} {rl : Nat} {wss : Nat → List aE} {t : aTr} {ok1 fin : aH → Prop} (h : ClsA H B P 1 1 1 cp cb tb l g rl wss t) (hRM : RB sc (d + 7) mr_174 [.ref 1] H ok1 (fun _ => False)) (hSE : ∀ H', ok1 H' → RX sc (d + 7) mr_153 [.ref 1, .int 1] H' 1 fin) (hf1 : ∀ H', ok1 H' → H'[0]? = some (kO 11 (fvs (nI B) (nI P) 1 1 1 (nI cp) (nI cb)))) : RXc sc (d + 8) mr_173 [.ref 1] H 1 (fun H' => fin H') := by
  obtain ⟨h0, h1, h2, h3, h4, ⟨q5, p6, h5, h6⟩, ⟨wq, h10, hwq⟩, hW, hCh, hT⟩ := id h
  refine RXc.of ?_
  refine RQ.blk 1 (pc' := 1) (lv' := [(0, .ref 1)]) (st' := [.ref 1]) (H' := _) (kc' := 0) (ks' := 0) rfl ?_
  refine RQ.call (v := none) (st' := []) rfl rfl rfl rfl rfl rfl (args_v [] [] rfl rfl (Nat.le_of_ble_eq_true rfl) rfl h0 (Nat.le_of_ble_eq_true rfl)) (rc_up h0 rfl) ?_
  refine RQ.blk 2 (pc' := 6) (lv' := [(0, .ref 1)]) (st' := [.int 0, .ref 1]) (H' := _) (kc' := 0) (ks' := 0) rfl ?_
  refine RQ.call (v := none) (st' := []) rfl rfl rfl rfl rfl rfl (args_v [.int 0] [] rfl rfl (Nat.le_of_ble_eq_true rfl) rfl h0 (Nat.le_of_ble_eq_true rfl)) (rc_armCutL h0) ?_
  refine RQ.blk 2 (pc' := 11) (lv' := [(0, .ref 1)]) (st' := [.ref 1, .ref 1]) (H' := _) (kc' := 0) (ks' := 0) rfl ?_
  refine RQ.callB (st' := [.ref 1]) rfl rfl rfl rfl rfl rfl (args_v [] [.ref 1] rfl rfl (Nat.le_of_ble_eq_true rfl) rfl h0 (Nat.le_of_ble_eq_true rfl)) hRM (fun H2 hH2 => ?_) (fun H2 hH2 => False.elim hH2)
  · have g1 := hf1 H2 hH2
    obtain ⟨H4, hx4, hp4⟩ := hSE H2 hH2
    exact RQ.callP (st' := []) rfl rfl rfl rfl rfl rfl (args_v [.int 1] [] rfl rfl (Nat.le_of_ble_eq_true rfl) rfl g1 (Nat.le_of_ble_eq_true rfl)) hx4 rfl ⟨_, 1, by decide, rfl, hp4⟩
set_option maxRecDepth 20000 in
theorem rx_collect_cut {sc : Nat × (Nat → Int32)} {d : Nat} {H : aH} {B P : Nat}  {cp cb : Nat} {tb : Nat → Int8} {l : Nat} {g : Nat → Int8} {rl : Nat} {wss : Nat → List aE} {t : aTr} {ok1 bad fin : aH → Prop} {tf : Nat → Nat} {cf : Nat → Int8} {pq : Option Nat} {bb : Nat} (h : ClsA H B P 1 1 0 cp cb tb l g rl wss t) (hC : ChipAt H B cf tf pq bb 0) (hRM : RB sc (d + 7) mr_174 [.ref 1] (H.set 71 (kO 1 [.ref 73, .ref 74, .int (lI (some (cp))), .int (nI cb), .int (nI 0)])) ok1 bad) (hSE : ∀ H', ok1 H' → RX sc (d + 7) mr_153 [.ref 1, .int 1] H' 1 fin) (hSB : ∀ H', bad H' → RX sc (d + 7) mr_153 [.ref 1, .int 0] H' 1 fin) (hf1 : ∀ H', ok1 H' → H'[0]? = some (kO 11 (fvs (nI B) (nI P) 1 1 0 (nI cp) (nI cb)))) (hfb : ∀ H', bad H' → H'[0]? = some (kO 11 (fvs (nI B) (nI P) 1 1 0 (nI cp) (nI cb)))) : RXc sc (d + 8) mr_173 [.ref 1] H 1 (fun H' => fin H') := by
  obtain ⟨h0, h1, h2, h3, h4, ⟨q5, p6, h5, h6⟩, ⟨wq, h10, hwq⟩, hW, hCh, hT⟩ := id h
  refine RXc.of ?_
  refine RQ.blk 1 (pc' := 1) (lv' := [(0, .ref 1)]) (st' := [.ref 1]) (H' := _) (kc' := 0) (ks' := 0) rfl ?_
  refine RQ.call (v := none) (st' := []) rfl rfl rfl rfl rfl rfl (args_v [] [] rfl rfl (Nat.le_of_ble_eq_true rfl) rfl h0 (Nat.le_of_ble_eq_true rfl)) (rc_up h0 rfl) ?_
  refine RQ.blk 2 (pc' := 6) (lv' := [(0, .ref 1)]) (st' := [.int 0, .ref 1]) (H' := _) (kc' := 0) (ks' := 0) rfl ?_
  refine RQ.call (v := none) (st' := []) rfl rfl rfl rfl rfl rfl (args_v [.int 0] [] rfl rfl (Nat.le_of_ble_eq_true rfl) rfl h0 (Nat.le_of_ble_eq_true rfl)) (rc_armCut1 h0 hC) ?_
  refine RQ.blk 2 (pc' := 11) (lv' := [(0, .ref 1)]) (st' := [.ref 1, .ref 1]) (H' := _) (kc' := 0) (ks' := 0) rfl ?_
  generalize hH1 : (H.set 71 (kO 1 [.ref 73, .ref 74, .int (lI (some (cp))), .int (nI cb), .int (nI 0)])) = H1 at hRM ⊢
  have g0 : H1[0]? = some (kO 11 (fvs (nI B) (nI P) 1 1 0 (nI cp) (nI cb))) := by rw [← hH1]; exact (set_far (by decide)).trans h0
  refine RQ.callB (st' := [.ref 1]) rfl rfl rfl rfl rfl rfl (args_v [] [.ref 1] rfl rfl (Nat.le_of_ble_eq_true rfl) rfl g0 (Nat.le_of_ble_eq_true rfl)) hRM (fun H2 hH2 => ?_) (fun H2 hH2 => ?_)
  · have g1 := hf1 H2 hH2
    obtain ⟨H4, hx4, hp4⟩ := hSE H2 hH2
    exact RQ.callP (st' := []) rfl rfl rfl rfl rfl rfl (args_v [.int 1] [] rfl rfl (Nat.le_of_ble_eq_true rfl) rfl g1 (Nat.le_of_ble_eq_true rfl)) hx4 rfl ⟨_, 1, by decide, rfl, hp4⟩
  · have g1 := hfb H2 hH2
    obtain ⟨H4, hx4, hp4⟩ := hSB H2 hH2
    exact RQ.callP (st' := []) rfl rfl rfl rfl rfl rfl (args_v [.int 0] [] rfl rfl (Nat.le_of_ble_eq_true rfl) rfl g1 (Nat.le_of_ble_eq_true rfl)) hx4 rfl ⟨_, 2, by decide, rfl, hp4⟩
set_option maxRecDepth 20000 in
theorem rx_collect_down {sc : Nat × (Nat → Int32)} {d : Nat} {H : aH} {B P : Nat} {cw cl : Int32} {cp cb : Nat} {tb : Nat → Int8} {l : Nat} {g : Nat → Int8} {rl : Nat} {wss : Nat → List aE} {t : aTr}  (h : ClsA H B P 0 cw cl cp cb tb l g rl wss t)  : RX sc (d + 8) mr_173 [.ref 1] H 1 (fun H' => ClsA H' B P 0 cw cl cp cb tb l g rl wss t ∧ FrK H H') := by
  obtain ⟨h0, h1, h2, h3, h4, ⟨q5, p6, h5, h6⟩, ⟨wq, h10, hwq⟩, hW, hCh, hT⟩ := id h
  refine RX.of ?_
  refine RQ.blk 1 (pc' := 1) (lv' := [(0, .ref 1)]) (st' := [.ref 1]) (H' := _) (kc' := 0) (ks' := 0) rfl ?_
  exact RQ.callP (st' := []) rfl rfl rfl rfl rfl rfl (args_v [] [] rfl rfl (Nat.le_of_ble_eq_true rfl) rfl h0 (Nat.le_of_ble_eq_true rfl)) (rc_down h0 rfl) rfl ⟨_, rfl, h, FrK.rfl'⟩
set_option maxRecDepth 20000 in
theorem ri_mount_ok {sc : Nat × (Nat → Int32)} {d : Nat} {H : aH} {B P : Nat} {pr up cl : Int32} {cp cb : Nat} {ok0 ok1 ok2 : aH → Prop} (h0 : H[0]? = some (kO 11 (fvs (nI B) pr up 0 cl (nI cp) (nI cb)))) (hGD : RN sc (d + 7) mr_155 [.ref 1] H ok0) (hf0 : ∀ H', ok0 H' → H'[0]? = some (kO 11 (fvs (nI B) 0 0 0 cl (nI cp) (nI cb)))) (hf1 : ∀ H', ok1 H' → H'[0]? = some (kO 11 (fvs (nI B) (nI P) 0 0 cl (nI cp) (nI cb)))) (hRM : ∀ H', ok0 H' → RB sc (d + 7) mr_179 [.ref 1] H' ok1 (fun _ => False)) (hSE : ∀ H', ok1 H' → RN sc (d + 7) mr_153 [.ref 1, .int 1] H' ok2) (hf2 : ∀ H', ok2 H' → H'[0]? = some (kO 11 (fvs (nI B) (nI P) 0 0 cl (nI cp) (nI cb)))) : RI sc (d + 8) mr_178 [.ref 1] H (fun x H' => x = nI P ∧ ∃ H3, ok2 H3 ∧ H' = H3.set 0 (kO 11 (fvs (nI B) (nI P) 1 0 cl (nI cp) (nI cb)))) := by
  refine RI.of ?_
  refine RQ.blk 1 (pc' := 1) (lv' := [(0, .ref 1)]) (st' := [.ref 1]) (H' := _) (kc' := 0) (ks' := 0) rfl ?_
  refine RQ.callN (st' := []) rfl rfl rfl rfl rfl rfl (args_v [] [] rfl rfl (Nat.le_of_ble_eq_true rfl) rfl h0 (Nat.le_of_ble_eq_true rfl)) hGD (fun H1 hH1 => ?_)
  have e0 := hf0 H1 hH1
  refine RQ.blk 2 (pc' := 6) (lv' := [(0, .ref 1)]) (st' := [.int 0, .ref 1]) (H' := _) (kc' := 0) (ks' := 0) rfl ?_
  refine RQ.call (v := none) (st' := []) rfl rfl rfl rfl rfl rfl (args_v [.int 0] [] rfl rfl (Nat.le_of_ble_eq_true rfl) rfl e0 (Nat.le_of_ble_eq_true rfl)) (rc_armCut0 e0) ?_
  refine RQ.blk 2 (pc' := 11) (lv' := [(0, .ref 1)]) (st' := [.ref 1, .ref 1]) (H' := _) (kc' := 0) (ks' := 0) rfl ?_
  refine RQ.callB (st' := [.ref 1]) rfl rfl rfl rfl rfl rfl (args_v [] [.ref 1] rfl rfl (Nat.le_of_ble_eq_true rfl) rfl e0 (Nat.le_of_ble_eq_true rfl)) (hRM H1 hH1) (fun H2 hH2 => ?_) (fun H2 hH2 => False.elim hH2)
  · have g1 := hf1 H2 hH2
    refine RQ.callN (st' := []) rfl rfl rfl rfl rfl rfl (args_v [.int 1] [] rfl rfl (Nat.le_of_ble_eq_true rfl) rfl g1 (Nat.le_of_ble_eq_true rfl)) (hSE H2 hH2) (fun H3 hH3 => ?_)
    have g2 := hf2 H3 hH3
    refine RQ.blk 2 (pc' := 19) (lv' := [(0, .ref 1)]) (st' := [.int 1, .ref 1]) (H' := _) (kc' := 0) (ks' := 0) rfl ?_
    refine RQ.put (ci := 11) rfl g2 rfl rfl (Nat.le_of_ble_eq_true rfl) ?_
    refine RQ.blk 1 (pc' := 23) (lv' := [(0, .ref 1)]) (st' := [.ref 1]) (H' := _) (kc' := 0) (ks' := 0) rfl ?_
    refine RQ.get (ci := 11) rfl (get_set g2) rfl rfl ?_
    exact RQ.done (c := 0) (s := 0) rfl rfl rfl rfl ⟨_, _, rfl, rfl, H3, hH3, rfl⟩
set_option maxRecDepth 20000 in
theorem rx_mount_late {sc : Nat × (Nat → Int32)} {d : Nat} {H : aH} {B P : Nat} {pr up : Int32} {cp cb : Nat} {ok0 ok1 fin : aH → Prop} (h0 : H[0]? = some (kO 11 (fvs (nI B) pr up 1 1 (nI cp) (nI cb)))) (hGD : RN sc (d + 7) mr_155 [.ref 1] H ok0) (hf0 : ∀ H', ok0 H' → H'[0]? = some (kO 11 (fvs (nI B) 0 0 1 1 (nI cp) (nI cb)))) (hf1 : ∀ H', ok1 H' → H'[0]? = some (kO 11 (fvs (nI B) (nI P) 0 1 1 (nI cp) (nI cb)))) (hRM : ∀ H', ok0 H' → RB sc (d + 7) mr_179 [.ref 1] H' ok1 (fun _ => False)) (hSE : ∀ H', ok1 H' → RX sc (d + 7) mr_153 [.ref 1, .int 1] H' 1 fin) : RXc sc (d + 8) mr_178 [.ref 1] H 1 fin := by
  refine RXc.of ?_
  refine RQ.blk 1 (pc' := 1) (lv' := [(0, .ref 1)]) (st' := [.ref 1]) (H' := _) (kc' := 0) (ks' := 0) rfl ?_
  refine RQ.callN (st' := []) rfl rfl rfl rfl rfl rfl (args_v [] [] rfl rfl (Nat.le_of_ble_eq_true rfl) rfl h0 (Nat.le_of_ble_eq_true rfl)) hGD (fun H1 hH1 => ?_)
  have e0 := hf0 H1 hH1
  refine RQ.blk 2 (pc' := 6) (lv' := [(0, .ref 1)]) (st' := [.int 0, .ref 1]) (H' := _) (kc' := 0) (ks' := 0) rfl ?_
  refine RQ.call (v := none) (st' := []) rfl rfl rfl rfl rfl rfl (args_v [.int 0] [] rfl rfl (Nat.le_of_ble_eq_true rfl) rfl e0 (Nat.le_of_ble_eq_true rfl)) (rc_armCutL e0) ?_
  refine RQ.blk 2 (pc' := 11) (lv' := [(0, .ref 1)]) (st' := [.ref 1, .ref 1]) (H' := _) (kc' := 0) (ks' := 0) rfl ?_
  refine RQ.callB (st' := [.ref 1]) rfl rfl rfl rfl rfl rfl (args_v [] [.ref 1] rfl rfl (Nat.le_of_ble_eq_true rfl) rfl e0 (Nat.le_of_ble_eq_true rfl)) (hRM H1 hH1) (fun H2 hH2 => ?_) (fun H2 hH2 => False.elim hH2)
  · have g1 := hf1 H2 hH2
    obtain ⟨H4, hx4, hp4⟩ := hSE H2 hH2
    exact RQ.callP (st' := []) rfl rfl rfl rfl rfl rfl (args_v [.int 1] [] rfl rfl (Nat.le_of_ble_eq_true rfl) rfl g1 (Nat.le_of_ble_eq_true rfl)) hx4 rfl ⟨_, 1, by decide, rfl, hp4⟩
set_option maxRecDepth 20000 in
theorem rx_mount_cut {sc : Nat × (Nat → Int32)} {d : Nat} {H : aH} {B P : Nat} {pr up : Int32} {cp cb : Nat} {ok0 ok1 bad fin : aH → Prop} (h0 : H[0]? = some (kO 11 (fvs (nI B) pr up 1 0 (nI cp) (nI cb)))) (hGD : RN sc (d + 7) mr_155 [.ref 1] H ok0) (hf0 : ∀ H', ok0 H' → H'[0]? = some (kO 11 (fvs (nI B) 0 0 1 0 (nI cp) (nI cb)))) (hf1 : ∀ H', ok1 H' → H'[0]? = some (kO 11 (fvs (nI B) (nI P) 0 1 0 (nI cp) (nI cb)))) (hC0 : ∀ H', ok0 H' → ∃ cf tf pq bb, ChipAt H' B cf tf pq bb 0) (hRM : ∀ H', ok0 H' → RB sc (d + 7) mr_179 [.ref 1] (H'.set 71 (kO 1 [.ref 73, .ref 74, .int (lI (some (cp))), .int (nI cb), .int (nI 0)])) ok1 bad) (hSE : ∀ H', ok1 H' → RX sc (d + 7) mr_153 [.ref 1, .int 1] H' 1 fin) (hSB : ∀ H', bad H' → RX sc (d + 7) mr_153 [.ref 1, .int 0] H' 1 fin) (hfb : ∀ H', bad H' → ∃ Pb, H'[0]? = some (kO 11 (fvs (nI B) Pb 0 1 0 (nI cp) (nI cb)))) : RXc sc (d + 8) mr_178 [.ref 1] H 1 fin := by
  refine RXc.of ?_
  refine RQ.blk 1 (pc' := 1) (lv' := [(0, .ref 1)]) (st' := [.ref 1]) (H' := _) (kc' := 0) (ks' := 0) rfl ?_
  refine RQ.callN (st' := []) rfl rfl rfl rfl rfl rfl (args_v [] [] rfl rfl (Nat.le_of_ble_eq_true rfl) rfl h0 (Nat.le_of_ble_eq_true rfl)) hGD (fun H1 hH1 => ?_)
  have e0 := hf0 H1 hH1
  refine RQ.blk 2 (pc' := 6) (lv' := [(0, .ref 1)]) (st' := [.int 0, .ref 1]) (H' := _) (kc' := 0) (ks' := 0) rfl ?_
  obtain ⟨cf, tf, pq, bb, hC⟩ := hC0 H1 hH1
  refine RQ.call (v := none) (st' := []) rfl rfl rfl rfl rfl rfl (args_v [.int 0] [] rfl rfl (Nat.le_of_ble_eq_true rfl) rfl e0 (Nat.le_of_ble_eq_true rfl)) (rc_armCut1 e0 hC) ?_
  refine RQ.blk 2 (pc' := 11) (lv' := [(0, .ref 1)]) (st' := [.ref 1, .ref 1]) (H' := _) (kc' := 0) (ks' := 0) rfl ?_
  have hRM := hRM H1 hH1
  generalize hHA : (H1.set 71 (kO 1 [.ref 73, .ref 74, .int (lI (some (cp))), .int (nI cb), .int (nI 0)])) = HA at hRM ⊢
  have e1 : HA[0]? = some (kO 11 (fvs (nI B) 0 0 1 0 (nI cp) (nI cb))) := by rw [← hHA]; exact (set_far (by decide)).trans e0
  refine RQ.callB (st' := [.ref 1]) rfl rfl rfl rfl rfl rfl (args_v [] [.ref 1] rfl rfl (Nat.le_of_ble_eq_true rfl) rfl e1 (Nat.le_of_ble_eq_true rfl)) hRM (fun H2 hH2 => ?_) (fun H2 hH2 => ?_)
  · have g1 := hf1 H2 hH2
    obtain ⟨H4, hx4, hp4⟩ := hSE H2 hH2
    exact RQ.callP (st' := []) rfl rfl rfl rfl rfl rfl (args_v [.int 1] [] rfl rfl (Nat.le_of_ble_eq_true rfl) rfl g1 (Nat.le_of_ble_eq_true rfl)) hx4 rfl ⟨_, 1, by decide, rfl, hp4⟩
  · obtain ⟨Pb, g1⟩ := hfb H2 hH2
    obtain ⟨H4, hx4, hp4⟩ := hSB H2 hH2
    exact RQ.callP (st' := []) rfl rfl rfl rfl rfl rfl (args_v [.int 0] [] rfl rfl (Nat.le_of_ble_eq_true rfl) rfl g1 (Nat.le_of_ble_eq_true rfl)) hx4 rfl ⟨_, 2, by decide, rfl, hp4⟩
