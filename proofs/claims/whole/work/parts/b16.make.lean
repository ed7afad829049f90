/-! ===== make, remove out of their parts; class; written by wip/gen/chm.py ===== -/
theorem rn_bclearI {sc : Nat × (Nat → Int32)} {d b : Nat} {H : aH} {ws : List aE} (hb : BatchIs H b ws) : RN sc d mr_31 [.ref (b + 1)] H (fun H' => BatchIs H' b [] ∧ ∀ a, a ≠ b → H'[a]? = H[a]?) := by
  obtain ⟨D, S, K, E, h1, h2, h3, h4⟩ := hb
  exact ⟨_, rc_bclear h1.1 rfl, ⟨D, S, K, E, ⟨get_set h1.1, (set_far (by omega)).trans h1.2.1, (set_far (by omega)).trans h1.2.2.1, (set_far (by omega)).trans h1.2.2.2.1, (set_far (by omega)).trans h1.2.2.2.2⟩, fun i e he => (by cases he), Nat.zero_le _, Nat.zero_le _⟩, fun a ha => set_far ha⟩
/-- the class's cells while a change is made -/
def ChB (H H' : aH) (B P : Nat) (cw cl : Int32) (cp cb : Nat) (tb : Nat → Int8) (l : Nat) (g : Nat → Int8) (rl : Nat) (wss : Nat → List aE) (t : aTr) (ws : List aE) : Prop := ClsA H' B P 1 cw cl cp cb tb l g rl wss t ∧ BatchIs H' 59 ws ∧ FrK H H'
set_option maxRecDepth 20000 in
theorem rx_make_down {sc : Nat × (Nat → Int32)} {d : Nat} {H : aH} {B P : Nat} {cw cl : Int32} {cp cb : Nat} {tb : Nat → Int8} {l : Nat} {g : Nat → Int8} {rl : Nat} {wss : Nat → List aE} {t : aTr} {v : Nat} {wx : Int32} (h : ClsA H B P 0 cw cl cp cb tb l g rl wss t) (hv : v ≤ 200) (hl1 : 1 ≤ l) (hl2 : l ≤ 30) (hnm : (∀ k, k < l → ¬ btB tb l (0 + k) = 47)) : RX sc (d + 8) mr_215 [.ref 1, .int (nI v), .int wx] H 1 (fun H' => ClsA H' B P 0 cw cl cp cb tb l g rl wss t ∧ FrK H H') := by
  obtain ⟨h0, h1, h2, h3, h4, ⟨q5, p6, h5, h6⟩, ⟨wq, h10, hwq⟩, hW, hCh, hT⟩ := id h
  refine RX.of ?_
  refine RQ.blk 2 (pc' := 2) (lv' := [(0, .ref 1), (1, .int (nI v)), (2, .int wx)]) (st' := [.int (nI v), .ref 1]) (H' := _) (kc' := 0) (ks' := 0) rfl ?_
  refine RQ.call (v := none) (st' := []) rfl rfl rfl rfl rfl rfl (args_v [.int (nI v)] [] rfl rfl (Nat.le_of_ble_eq_true rfl) rfl h0 (Nat.le_of_ble_eq_true rfl)) (rc_reqNum h0 hv) ?_
  refine RQ.blk 3 (pc' := 8) (lv' := [(0, .ref 1), (1, .int (nI v)), (2, .int wx)]) (st' := [.ref 1, .int 0, .ref 1]) (H' := _) (kc' := 0) (ks' := 0) rfl ?_
  refine RQ.get (ci := 11) rfl h0 rfl rfl ?_
  refine RQ.get (ci := 5) rfl h1 rfl rfl ?_
  refine RQ.call (v := none) (st' := []) rfl rfl rfl rfl rfl rfl (args_v [.int (nI l), .int 0] [] rfl rfl (Nat.le_of_ble_eq_true rfl) rfl h0 (Nat.le_of_ble_eq_true rfl)) (rc_requireName1 (i := 0) h0 ⟨h1, h2, by decide, by decide⟩ (by omega) (by decide) hl1 hl2 hnm) ?_
  refine RQ.blk 1 (pc' := 18) (lv' := [(0, .ref 1), (1, .int (nI v)), (2, .int wx)]) (st' := [.ref 1]) (H' := _) (kc' := 0) (ks' := 0) rfl ?_
  exact RQ.callP (st' := []) rfl rfl rfl rfl rfl rfl (args_v [] [] rfl rfl (Nat.le_of_ble_eq_true rfl) rfl h0 (Nat.le_of_ble_eq_true rfl)) (rc_down h0 rfl) rfl ⟨_, rfl, h, FrK.rfl'⟩
set_option maxRecDepth 20000 in
theorem rx_make_nodir {sc : Nat × (Nat → Int32)} {d : Nat} {H : aH} {B P : Nat} {cw cl : Int32} {cp cb : Nat} {tb : Nat → Int8} {l : Nat} {g : Nat → Int8} {rl : Nat} {wss : Nat → List aE} {t : aTr} {v : Nat} {wx : Int32} (h : ClsA H B P 1 cw cl cp cb tb l g rl wss t) (hk : TreeOk t.1 t.2.1 t.2.2.1 t.2.2.2.1) (hv : v ≤ 200) (hl1 : 1 ≤ l) (hl2 : l ≤ 30) (hnm : (∀ k, k < l → ¬ btB tb l (0 + k) = 47)) (hkd : ¬ t.1 v = 2) : RX sc (d + 8) mr_215 [.ref 1, .int (nI v), .int wx] H 3 (fun H' => ClsA H' B P 1 cw cl cp cb tb 0 g rl wss t ∧ FrK H H') := by
  obtain ⟨h0, h1, h2, h3, h4, ⟨q5, p6, h5, h6⟩, ⟨wq, h10, hwq⟩, hW, hCh, hT⟩ := id h
  refine RX.of ?_
  have hkv := hk v hv
  refine RQ.blk 2 (pc' := 2) (lv' := [(0, .ref 1), (1, .int (nI v)), (2, .int wx)]) (st' := [.int (nI v), .ref 1]) (H' := _) (kc' := 0) (ks' := 0) rfl ?_
  refine RQ.call (v := none) (st' := []) rfl rfl rfl rfl rfl rfl (args_v [.int (nI v)] [] rfl rfl (Nat.le_of_ble_eq_true rfl) rfl h0 (Nat.le_of_ble_eq_true rfl)) (rc_reqNum h0 hv) ?_
  refine RQ.blk 3 (pc' := 8) (lv' := [(0, .ref 1), (1, .int (nI v)), (2, .int wx)]) (st' := [.ref 1, .int 0, .ref 1]) (H' := _) (kc' := 0) (ks' := 0) rfl ?_
  refine RQ.get (ci := 11) rfl h0 rfl rfl ?_
  refine RQ.get (ci := 5) rfl h1 rfl rfl ?_
  refine RQ.call (v := none) (st' := []) rfl rfl rfl rfl rfl rfl (args_v [.int (nI l), .int 0] [] rfl rfl (Nat.le_of_ble_eq_true rfl) rfl h0 (Nat.le_of_ble_eq_true rfl)) (rc_requireName1 (i := 0) h0 ⟨h1, h2, by decide, by decide⟩ (by omega) (by decide) hl1 hl2 hnm) ?_
  refine RQ.blk 1 (pc' := 18) (lv' := [(0, .ref 1), (1, .int (nI v)), (2, .int wx)]) (st' := [.ref 1]) (H' := _) (kc' := 0) (ks' := 0) rfl ?_
  refine RQ.call (v := none) (st' := []) rfl rfl rfl rfl rfl rfl (args_v [] [] rfl rfl (Nat.le_of_ble_eq_true rfl) rfl h0 (Nat.le_of_ble_eq_true rfl)) (rc_up h0 rfl) ?_
  refine RQ.blk 1 (pc' := 22) (lv' := [(0, .ref 1), (1, .int (nI v)), (2, .int wx)]) (st' := [.ref 1]) (H' := _) (kc' := 0) (ks' := 0) rfl ?_
  refine RQ.call (v := some (.int (nI l))) (st' := []) rfl rfl rfl rfl rfl rfl (args_v [] [] rfl rfl (Nat.le_of_ble_eq_true rfl) rfl h0 (Nat.le_of_ble_eq_true rfl)) (rc_takeTape h0 h1) ?_
  have far1 : ∀ a, a ≠ 1 → (H.set 1 (kO 5 [.ref 3, .int (nI 0)]))[a]? = H[a]? := fun a ha => set_far ha
  have h11 : (H.set 1 (kO 5 [.ref 3, .int (nI 0)]))[1]? = some (kO 5 [.ref 3, .int (nI 0)]) := get_set h1
  refine RQ.blk 1 (pc' := 26) (lv' := [(3, .int (nI l)), (0, .ref 1), (1, .int (nI v)), (2, .int wx)]) (st' := []) (H' := _) (kc' := 0) (ks' := 0) rfl ?_
  show RQ _ _ _ 26 [(3, .int (nI l)), (0, .ref 1), (1, .int (nI v)), (2, .int wx)] [] (H.set 1 (kO 5 [.ref 3, .int (nI 0)])) 0 0 _
  generalize (H.set 1 (kO 5 [.ref 3, .int (nI 0)])) = H1 at far1 h11 ⊢
  have h01 := (far1 0 (by decide)).trans h0
  have h21 := (far1 2 (by decide)).trans h2
  have hT1 : TreeAt H1 t.1 t.2.1 t.2.2.1 t.2.2.2.1 t.2.2.2.2.1 t.2.2.2.2.2 := hT.far (fun a a1 a2 => far1 a (by omega))
  have hc1 : ClsA H1 B P 1 cw cl cp cb tb 0 g rl wss t := h.small h01 h11 h21 ((far1 3 (by decide)).trans h3) ((far1 4 (by decide)).trans h4) ⟨q5, p6, (far1 5 (by decide)).trans h5, (far1 6 (by decide)).trans h6⟩ (fun a a1 a2 => far1 a (by omega))
  have fk1 : FrK H H1 := fun a ha => far1 a (by omega)
  refine RQ.blk 2 (pc' := 28) (lv' := [(3, .int (nI l)), (0, .ref 1), (1, .int (nI v)), (2, .int wx)]) (st' := [.int (nI v), .ref 1]) (H' := _) (kc' := 0) (ks' := 0) rfl ?_
  exact RQ.callP (st' := []) rfl rfl rfl rfl rfl rfl (args_v [.int (nI v)] [] rfl rfl (Nat.le_of_ble_eq_true rfl) rfl h01 (Nat.le_of_ble_eq_true rfl)) (rc_reqDirX h01 rfl hT1.1 rfl hT1.2.1 hv (nI_ne2 hkv.1 hkd)) rfl ⟨_, rfl, hc1, fk1⟩
set_option maxRecDepth 20000 in
theorem rx_make_there {sc : Nat × (Nat → Int32)} {d : Nat} {H : aH} {B P : Nat} {cw cl : Int32} {cp cb : Nat} {tb : Nat → Int8} {l : Nat} {g : Nat → Int8} {rl : Nat} {wss : Nat → List aE} {t : aTr} {v r : Nat} {wx : Int32} (h : ClsA H B P 1 cw cl cp cb tb l g rl wss t) (hk : TreeOk t.1 t.2.1 t.2.2.1 t.2.2.2.1) (hv : v ≤ 200) (hl1 : 1 ≤ l) (hl2 : l ≤ 30) (hnm : (∀ k, k < l → ¬ btB tb l (0 + k) = 47)) (hkd : t.1 v = 2) (hch : fstF (inN t.1 t.2.1 t.2.2.2.1 t.2.2.2.2.1 v (sl tb 0 l)) 1 200 = some r) : RX sc (d + 8) mr_215 [.ref 1, .int (nI v), .int wx] H 4 (fun H' => ClsA H' B P 1 cw cl cp cb tb 0 g rl wss t ∧ FrK H H') := by
  obtain ⟨h0, h1, h2, h3, h4, ⟨q5, p6, h5, h6⟩, ⟨wq, h10, hwq⟩, hW, hCh, hT⟩ := id h
  refine RX.of ?_
  refine RQ.blk 2 (pc' := 2) (lv' := [(0, .ref 1), (1, .int (nI v)), (2, .int wx)]) (st' := [.int (nI v), .ref 1]) (H' := _) (kc' := 0) (ks' := 0) rfl ?_
  refine RQ.call (v := none) (st' := []) rfl rfl rfl rfl rfl rfl (args_v [.int (nI v)] [] rfl rfl (Nat.le_of_ble_eq_true rfl) rfl h0 (Nat.le_of_ble_eq_true rfl)) (rc_reqNum h0 hv) ?_
  refine RQ.blk 3 (pc' := 8) (lv' := [(0, .ref 1), (1, .int (nI v)), (2, .int wx)]) (st' := [.ref 1, .int 0, .ref 1]) (H' := _) (kc' := 0) (ks' := 0) rfl ?_
  refine RQ.get (ci := 11) rfl h0 rfl rfl ?_
  refine RQ.get (ci := 5) rfl h1 rfl rfl ?_
  refine RQ.call (v := none) (st' := []) rfl rfl rfl rfl rfl rfl (args_v [.int (nI l), .int 0] [] rfl rfl (Nat.le_of_ble_eq_true rfl) rfl h0 (Nat.le_of_ble_eq_true rfl)) (rc_requireName1 (i := 0) h0 ⟨h1, h2, by decide, by decide⟩ (by omega) (by decide) hl1 hl2 hnm) ?_
  refine RQ.blk 1 (pc' := 18) (lv' := [(0, .ref 1), (1, .int (nI v)), (2, .int wx)]) (st' := [.ref 1]) (H' := _) (kc' := 0) (ks' := 0) rfl ?_
  refine RQ.call (v := none) (st' := []) rfl rfl rfl rfl rfl rfl (args_v [] [] rfl rfl (Nat.le_of_ble_eq_true rfl) rfl h0 (Nat.le_of_ble_eq_true rfl)) (rc_up h0 rfl) ?_
  refine RQ.blk 1 (pc' := 22) (lv' := [(0, .ref 1), (1, .int (nI v)), (2, .int wx)]) (st' := [.ref 1]) (H' := _) (kc' := 0) (ks' := 0) rfl ?_
  refine RQ.call (v := some (.int (nI l))) (st' := []) rfl rfl rfl rfl rfl rfl (args_v [] [] rfl rfl (Nat.le_of_ble_eq_true rfl) rfl h0 (Nat.le_of_ble_eq_true rfl)) (rc_takeTape h0 h1) ?_
  have far1 : ∀ a, a ≠ 1 → (H.set 1 (kO 5 [.ref 3, .int (nI 0)]))[a]? = H[a]? := fun a ha => set_far ha
  have h11 : (H.set 1 (kO 5 [.ref 3, .int (nI 0)]))[1]? = some (kO 5 [.ref 3, .int (nI 0)]) := get_set h1
  refine RQ.blk 1 (pc' := 26) (lv' := [(3, .int (nI l)), (0, .ref 1), (1, .int (nI v)), (2, .int wx)]) (st' := []) (H' := _) (kc' := 0) (ks' := 0) rfl ?_
  show RQ _ _ _ 26 [(3, .int (nI l)), (0, .ref 1), (1, .int (nI v)), (2, .int wx)] [] (H.set 1 (kO 5 [.ref 3, .int (nI 0)])) 0 0 _
  generalize (H.set 1 (kO 5 [.ref 3, .int (nI 0)])) = H1 at far1 h11 ⊢
  have h01 := (far1 0 (by decide)).trans h0
  have h21 := (far1 2 (by decide)).trans h2
  have hT1 : TreeAt H1 t.1 t.2.1 t.2.2.1 t.2.2.2.1 t.2.2.2.2.1 t.2.2.2.2.2 := hT.far (fun a a1 a2 => far1 a (by omega))
  have hc1 : ClsA H1 B P 1 cw cl cp cb tb 0 g rl wss t := h.small h01 h11 h21 ((far1 3 (by decide)).trans h3) ((far1 4 (by decide)).trans h4) ⟨q5, p6, (far1 5 (by decide)).trans h5, (far1 6 (by decide)).trans h6⟩ (fun a a1 a2 => far1 a (by omega))
  have fk1 : FrK H H1 := fun a ha => far1 a (by omega)
  refine RQ.blk 2 (pc' := 28) (lv' := [(3, .int (nI l)), (0, .ref 1), (1, .int (nI v)), (2, .int wx)]) (st' := [.int (nI v), .ref 1]) (H' := _) (kc' := 0) (ks' := 0) rfl ?_
  refine RQ.call (v := none) (st' := []) rfl rfl rfl rfl rfl rfl (args_v [.int (nI v)] [] rfl rfl (Nat.le_of_ble_eq_true rfl) rfl h01 (Nat.le_of_ble_eq_true rfl)) (rc_reqDir h01 rfl hT1.1 rfl hT1.2.1 hv (nI_is2 hkd)) ?_
  refine RQ.blk 1 (pc' := 32) (lv' := [(3, .int (nI l)), (0, .ref 1), (1, .int (nI v)), (2, .int wx)]) (st' := [.ref 1]) (H' := _) (kc' := 0) (ks' := 0) rfl ?_
  refine RQ.get (ci := 11) rfl h01 rfl rfl ?_
  refine RQ.blk 2 (pc' := 37) (lv' := [(3, .int (nI l)), (0, .ref 1), (1, .int (nI v)), (2, .int wx)]) (st' := [.ref 1, .int (nI v), .ref 66]) (H' := _) (kc' := 0) (ks' := 0) rfl ?_
  refine RQ.get (ci := 11) rfl h01 rfl rfl ?_
  refine RQ.get (ci := 5) rfl h11 rfl rfl ?_
  refine RQ.blk 2 (pc' := 45) (lv' := [(3, .int (nI l)), (0, .ref 1), (1, .int (nI v)), (2, .int wx)]) (st' := [.int (nI l), .int 0, .ref 3, .int (nI v), .ref 66]) (H' := _) (kc' := 0) (ks' := 0) rfl ?_
  refine RQ.call (v := some (.int (lI (fstF (inN t.1 t.2.1 t.2.2.2.1 t.2.2.2.2.1 v (sl tb 0 l)) 1 200)))) (st' := []) rfl rfl rfl rfl rfl rfl (args_v [.int (nI l), .int 0, .ref 3, .int (nI v)] [] rfl rfl (Nat.le_of_ble_eq_true rfl) rfl hT1.1 (Nat.le_of_ble_eq_true rfl)) (rc_childNamed (a := 2) (na := 2000) (j := 0) (m := l) hT1 hk h21 (by decide) (by omega) hv) ?_
  rw [hch]
  rw [show lI (some r) = nI r from rfl]
  have hr := fstF_lt hch
  refine RQ.brF rfl rfl rfl (cF_lt r 0) ?_
  exact RQ.done (c := 1) (s := 6) rfl rfl rfl rfl ⟨_, rfl, hc1, fk1⟩
set_option maxRecDepth 20000 in
theorem rx_make_nofree {sc : Nat × (Nat → Int32)} {d : Nat} {H : aH} {B P : Nat} {cw cl : Int32} {cp cb : Nat} {tb : Nat → Int8} {l : Nat} {g : Nat → Int8} {rl : Nat} {wss : Nat → List aE} {t : aTr} {v : Nat} {wx : Int32} (h : ClsA H B P 1 cw cl cp cb tb l g rl wss t) (hk : TreeOk t.1 t.2.1 t.2.2.1 t.2.2.2.1) (hv : v ≤ 200) (hl1 : 1 ≤ l) (hl2 : l ≤ 30) (hnm : (∀ k, k < l → ¬ btB tb l (0 + k) = 47)) (hkd : t.1 v = 2) (hch : fstF (inN t.1 t.2.1 t.2.2.2.1 t.2.2.2.2.1 v (sl tb 0 l)) 1 200 = none) (hlu : fstF (fun v => decide (t.1 v = 0)) 1 200 = none) : RX sc (d + 8) mr_215 [.ref 1, .int (nI v), .int wx] H 2 (fun H' => ClsA H' B P 1 cw cl cp cb tb 0 g rl wss t ∧ FrK H H') := by
  obtain ⟨h0, h1, h2, h3, h4, ⟨q5, p6, h5, h6⟩, ⟨wq, h10, hwq⟩, hW, hCh, hT⟩ := id h
  refine RX.of ?_
  refine RQ.blk 2 (pc' := 2) (lv' := [(0, .ref 1), (1, .int (nI v)), (2, .int wx)]) (st' := [.int (nI v), .ref 1]) (H' := _) (kc' := 0) (ks' := 0) rfl ?_
  refine RQ.call (v := none) (st' := []) rfl rfl rfl rfl rfl rfl (args_v [.int (nI v)] [] rfl rfl (Nat.le_of_ble_eq_true rfl) rfl h0 (Nat.le_of_ble_eq_true rfl)) (rc_reqNum h0 hv) ?_
  refine RQ.blk 3 (pc' := 8) (lv' := [(0, .ref 1), (1, .int (nI v)), (2, .int wx)]) (st' := [.ref 1, .int 0, .ref 1]) (H' := _) (kc' := 0) (ks' := 0) rfl ?_
  refine RQ.get (ci := 11) rfl h0 rfl rfl ?_
  refine RQ.get (ci := 5) rfl h1 rfl rfl ?_
  refine RQ.call (v := none) (st' := []) rfl rfl rfl rfl rfl rfl (args_v [.int (nI l), .int 0] [] rfl rfl (Nat.le_of_ble_eq_true rfl) rfl h0 (Nat.le_of_ble_eq_true rfl)) (rc_requireName1 (i := 0) h0 ⟨h1, h2, by decide, by decide⟩ (by omega) (by decide) hl1 hl2 hnm) ?_
  refine RQ.blk 1 (pc' := 18) (lv' := [(0, .ref 1), (1, .int (nI v)), (2, .int wx)]) (st' := [.ref 1]) (H' := _) (kc' := 0) (ks' := 0) rfl ?_
  refine RQ.call (v := none) (st' := []) rfl rfl rfl rfl rfl rfl (args_v [] [] rfl rfl (Nat.le_of_ble_eq_true rfl) rfl h0 (Nat.le_of_ble_eq_true rfl)) (rc_up h0 rfl) ?_
  refine RQ.blk 1 (pc' := 22) (lv' := [(0, .ref 1), (1, .int (nI v)), (2, .int wx)]) (st' := [.ref 1]) (H' := _) (kc' := 0) (ks' := 0) rfl ?_
  refine RQ.call (v := some (.int (nI l))) (st' := []) rfl rfl rfl rfl rfl rfl (args_v [] [] rfl rfl (Nat.le_of_ble_eq_true rfl) rfl h0 (Nat.le_of_ble_eq_true rfl)) (rc_takeTape h0 h1) ?_
  have far1 : ∀ a, a ≠ 1 → (H.set 1 (kO 5 [.ref 3, .int (nI 0)]))[a]? = H[a]? := fun a ha => set_far ha
  have h11 : (H.set 1 (kO 5 [.ref 3, .int (nI 0)]))[1]? = some (kO 5 [.ref 3, .int (nI 0)]) := get_set h1
  refine RQ.blk 1 (pc' := 26) (lv' := [(3, .int (nI l)), (0, .ref 1), (1, .int (nI v)), (2, .int wx)]) (st' := []) (H' := _) (kc' := 0) (ks' := 0) rfl ?_
  show RQ _ _ _ 26 [(3, .int (nI l)), (0, .ref 1), (1, .int (nI v)), (2, .int wx)] [] (H.set 1 (kO 5 [.ref 3, .int (nI 0)])) 0 0 _
  generalize (H.set 1 (kO 5 [.ref 3, .int (nI 0)])) = H1 at far1 h11 ⊢
  have h01 := (far1 0 (by decide)).trans h0
  have h21 := (far1 2 (by decide)).trans h2
  have hT1 : TreeAt H1 t.1 t.2.1 t.2.2.1 t.2.2.2.1 t.2.2.2.2.1 t.2.2.2.2.2 := hT.far (fun a a1 a2 => far1 a (by omega))
  have hc1 : ClsA H1 B P 1 cw cl cp cb tb 0 g rl wss t := h.small h01 h11 h21 ((far1 3 (by decide)).trans h3) ((far1 4 (by decide)).trans h4) ⟨q5, p6, (far1 5 (by decide)).trans h5, (far1 6 (by decide)).trans h6⟩ (fun a a1 a2 => far1 a (by omega))
  have fk1 : FrK H H1 := fun a ha => far1 a (by omega)
  refine RQ.blk 2 (pc' := 28) (lv' := [(3, .int (nI l)), (0, .ref 1), (1, .int (nI v)), (2, .int wx)]) (st' := [.int (nI v), .ref 1]) (H' := _) (kc' := 0) (ks' := 0) rfl ?_
  refine RQ.call (v := none) (st' := []) rfl rfl rfl rfl rfl rfl (args_v [.int (nI v)] [] rfl rfl (Nat.le_of_ble_eq_true rfl) rfl h01 (Nat.le_of_ble_eq_true rfl)) (rc_reqDir h01 rfl hT1.1 rfl hT1.2.1 hv (nI_is2 hkd)) ?_
  refine RQ.blk 1 (pc' := 32) (lv' := [(3, .int (nI l)), (0, .ref 1), (1, .int (nI v)), (2, .int wx)]) (st' := [.ref 1]) (H' := _) (kc' := 0) (ks' := 0) rfl ?_
  refine RQ.get (ci := 11) rfl h01 rfl rfl ?_
  refine RQ.blk 2 (pc' := 37) (lv' := [(3, .int (nI l)), (0, .ref 1), (1, .int (nI v)), (2, .int wx)]) (st' := [.ref 1, .int (nI v), .ref 66]) (H' := _) (kc' := 0) (ks' := 0) rfl ?_
  refine RQ.get (ci := 11) rfl h01 rfl rfl ?_
  refine RQ.get (ci := 5) rfl h11 rfl rfl ?_
  refine RQ.blk 2 (pc' := 45) (lv' := [(3, .int (nI l)), (0, .ref 1), (1, .int (nI v)), (2, .int wx)]) (st' := [.int (nI l), .int 0, .ref 3, .int (nI v), .ref 66]) (H' := _) (kc' := 0) (ks' := 0) rfl ?_
  refine RQ.call (v := some (.int (lI (fstF (inN t.1 t.2.1 t.2.2.2.1 t.2.2.2.2.1 v (sl tb 0 l)) 1 200)))) (st' := []) rfl rfl rfl rfl rfl rfl (args_v [.int (nI l), .int 0, .ref 3, .int (nI v)] [] rfl rfl (Nat.le_of_ble_eq_true rfl) rfl hT1.1 (Nat.le_of_ble_eq_true rfl)) (rc_childNamed (a := 2) (na := 2000) (j := 0) (m := l) hT1 hk h21 (by decide) (by omega) hv) ?_
  rw [hch]
  rw [show lI none = -1 from rfl]
  refine RQ.brT rfl rfl rfl (by decide) ?_
  refine RQ.blk 1 (pc' := 63) (lv' := [(3, .int (nI l)), (0, .ref 1), (1, .int (nI v)), (2, .int wx)]) (st' := [.ref 1]) (H' := _) (kc' := 0) (ks' := 0) rfl ?_
  refine RQ.get (ci := 11) rfl h01 rfl rfl ?_
  refine RQ.call (v := some (.int (lI (fstF (fun v => decide (t.1 v = 0)) 1 200)))) (st' := []) rfl rfl rfl rfl rfl rfl (args_v [] [] rfl rfl (Nat.le_of_ble_eq_true rfl) rfl hT1.1 (Nat.le_of_ble_eq_true rfl)) (rc_leastUnused hT1 hk) ?_
  rw [hlu]
  rw [show lI none = -1 from rfl]
  refine RQ.blk 2 (pc' := 73) (lv' := [(4, .int (-1)), (3, .int (nI l)), (0, .ref 1), (1, .int (nI v)), (2, .int wx)]) (st' := [.int (-1)]) (H' := _) (kc' := 0) (ks' := 0) rfl ?_
  refine RQ.brF rfl rfl rfl (by decide) ?_
  exact RQ.done (c := 1) (s := 6) rfl rfl rfl rfl ⟨_, rfl, hc1, fk1⟩
set_option maxRecDepth 20000 in
theorem rx_make0_full {sc : Nat × (Nat → Int32)} {d : Nat} {H : aH} {B P : Nat} {cw cl : Int32} {cp cb : Nat} {tb : Nat → Int8} {l : Nat} {g : Nat → Int8} {rl : Nat} {wss : Nat → List aE} {t : aTr} {v r : Nat} {N : Nat} {op : Nat → Bool} {sm : Nat → Nat} {vs : List aV} (h : ClsA H B P 1 cw cl cp cb tb l g rl wss t) (hk : TreeOk t.1 t.2.1 t.2.2.1 t.2.2.2.1) (hv : v ≤ 200) (hl1 : 1 ≤ l) (hl2 : l ≤ 30) (hnm : (∀ k, k < l → ¬ btB tb l (0 + k) = 47)) (hkd : t.1 v = 2) (hch : fstF (inN t.1 t.2.1 t.2.2.2.1 t.2.2.2.2.1 v (sl tb 0 l)) 1 200 = none) (hlu : fstF (fun v => decide (t.1 v = 0)) 1 200 = some r) (hs : SightAt H op sm) (hsm : ∀ t, t < 8 → sm t < 2 ^ 30) (hV : VersIs H N vs) (hpr : ∀ v ∈ vs, v.2.1 ≤ P) (hP : P + 1 < 2 ^ 30) (hB : B ≤ 128) (hle : B * 256 < sumN op sm (-1) (P + 1) (kmV (inclV (P + 1) (fun _ => 0) 0 ([([1, r], some ([1, v] ++ (beB 2 0 ++ sl tb 0 l)))]) vs)) (inclV (P + 1) (fun _ => 0) 0 ([([1, r], some ([1, v] ++ (beB 2 0 ++ sl tb 0 l)))]) vs)) (hl31 : sumN op sm (-1) (P + 1) (kmV (inclV (P + 1) (fun _ => 0) 0 ([([1, r], some ([1, v] ++ (beB 2 0 ++ sl tb 0 l)))]) vs)) (inclV (P + 1) (fun _ => 0) 0 ([([1, r], some ([1, v] ++ (beB 2 0 ++ sl tb 0 l)))]) vs) < 2 ^ 31) : RX sc (d + 8) mr_215 [.ref 1, .int (nI v), .int 0] H 2 (fun H' => ClsA H' B P 1 cw cl cp cb tb 0 g rl wss t ∧ FrK H H') := by
  obtain ⟨h0, h1, h2, h3, h4, ⟨q5, p6, h5, h6⟩, ⟨wq, h10, hwq⟩, hW, hCh, hT⟩ := id h
  refine RX.of ?_
  refine RQ.blk 2 (pc' := 2) (lv' := [(0, .ref 1), (1, .int (nI v)), (2, .int 0)]) (st' := [.int (nI v), .ref 1]) (H' := _) (kc' := 0) (ks' := 0) rfl ?_
  refine RQ.call (v := none) (st' := []) rfl rfl rfl rfl rfl rfl (args_v [.int (nI v)] [] rfl rfl (Nat.le_of_ble_eq_true rfl) rfl h0 (Nat.le_of_ble_eq_true rfl)) (rc_reqNum h0 hv) ?_
  refine RQ.blk 3 (pc' := 8) (lv' := [(0, .ref 1), (1, .int (nI v)), (2, .int 0)]) (st' := [.ref 1, .int 0, .ref 1]) (H' := _) (kc' := 0) (ks' := 0) rfl ?_
  refine RQ.get (ci := 11) rfl h0 rfl rfl ?_
  refine RQ.get (ci := 5) rfl h1 rfl rfl ?_
  refine RQ.call (v := none) (st' := []) rfl rfl rfl rfl rfl rfl (args_v [.int (nI l), .int 0] [] rfl rfl (Nat.le_of_ble_eq_true rfl) rfl h0 (Nat.le_of_ble_eq_true rfl)) (rc_requireName1 (i := 0) h0 ⟨h1, h2, by decide, by decide⟩ (by omega) (by decide) hl1 hl2 hnm) ?_
  refine RQ.blk 1 (pc' := 18) (lv' := [(0, .ref 1), (1, .int (nI v)), (2, .int 0)]) (st' := [.ref 1]) (H' := _) (kc' := 0) (ks' := 0) rfl ?_
  refine RQ.call (v := none) (st' := []) rfl rfl rfl rfl rfl rfl (args_v [] [] rfl rfl (Nat.le_of_ble_eq_true rfl) rfl h0 (Nat.le_of_ble_eq_true rfl)) (rc_up h0 rfl) ?_
  refine RQ.blk 1 (pc' := 22) (lv' := [(0, .ref 1), (1, .int (nI v)), (2, .int 0)]) (st' := [.ref 1]) (H' := _) (kc' := 0) (ks' := 0) rfl ?_
  refine RQ.call (v := some (.int (nI l))) (st' := []) rfl rfl rfl rfl rfl rfl (args_v [] [] rfl rfl (Nat.le_of_ble_eq_true rfl) rfl h0 (Nat.le_of_ble_eq_true rfl)) (rc_takeTape h0 h1) ?_
  have far1 : ∀ a, a ≠ 1 → (H.set 1 (kO 5 [.ref 3, .int (nI 0)]))[a]? = H[a]? := fun a ha => set_far ha
  have h11 : (H.set 1 (kO 5 [.ref 3, .int (nI 0)]))[1]? = some (kO 5 [.ref 3, .int (nI 0)]) := get_set h1
  refine RQ.blk 1 (pc' := 26) (lv' := [(3, .int (nI l)), (0, .ref 1), (1, .int (nI v)), (2, .int 0)]) (st' := []) (H' := _) (kc' := 0) (ks' := 0) rfl ?_
  show RQ _ _ _ 26 [(3, .int (nI l)), (0, .ref 1), (1, .int (nI v)), (2, .int 0)] [] (H.set 1 (kO 5 [.ref 3, .int (nI 0)])) 0 0 _
  generalize (H.set 1 (kO 5 [.ref 3, .int (nI 0)])) = H1 at far1 h11 ⊢
  have h01 := (far1 0 (by decide)).trans h0
  have h21 := (far1 2 (by decide)).trans h2
  have hT1 : TreeAt H1 t.1 t.2.1 t.2.2.1 t.2.2.2.1 t.2.2.2.2.1 t.2.2.2.2.2 := hT.far (fun a a1 a2 => far1 a (by omega))
  have hc1 : ClsA H1 B P 1 cw cl cp cb tb 0 g rl wss t := h.small h01 h11 h21 ((far1 3 (by decide)).trans h3) ((far1 4 (by decide)).trans h4) ⟨q5, p6, (far1 5 (by decide)).trans h5, (far1 6 (by decide)).trans h6⟩ (fun a a1 a2 => far1 a (by omega))
  have fk1 : FrK H H1 := fun a ha => far1 a (by omega)
  refine RQ.blk 2 (pc' := 28) (lv' := [(3, .int (nI l)), (0, .ref 1), (1, .int (nI v)), (2, .int 0)]) (st' := [.int (nI v), .ref 1]) (H' := _) (kc' := 0) (ks' := 0) rfl ?_
  refine RQ.call (v := none) (st' := []) rfl rfl rfl rfl rfl rfl (args_v [.int (nI v)] [] rfl rfl (Nat.le_of_ble_eq_true rfl) rfl h01 (Nat.le_of_ble_eq_true rfl)) (rc_reqDir h01 rfl hT1.1 rfl hT1.2.1 hv (nI_is2 hkd)) ?_
  refine RQ.blk 1 (pc' := 32) (lv' := [(3, .int (nI l)), (0, .ref 1), (1, .int (nI v)), (2, .int 0)]) (st' := [.ref 1]) (H' := _) (kc' := 0) (ks' := 0) rfl ?_
  refine RQ.get (ci := 11) rfl h01 rfl rfl ?_
  refine RQ.blk 2 (pc' := 37) (lv' := [(3, .int (nI l)), (0, .ref 1), (1, .int (nI v)), (2, .int 0)]) (st' := [.ref 1, .int (nI v), .ref 66]) (H' := _) (kc' := 0) (ks' := 0) rfl ?_
  refine RQ.get (ci := 11) rfl h01 rfl rfl ?_
  refine RQ.get (ci := 5) rfl h11 rfl rfl ?_
  refine RQ.blk 2 (pc' := 45) (lv' := [(3, .int (nI l)), (0, .ref 1), (1, .int (nI v)), (2, .int 0)]) (st' := [.int (nI l), .int 0, .ref 3, .int (nI v), .ref 66]) (H' := _) (kc' := 0) (ks' := 0) rfl ?_
  refine RQ.call (v := some (.int (lI (fstF (inN t.1 t.2.1 t.2.2.2.1 t.2.2.2.2.1 v (sl tb 0 l)) 1 200)))) (st' := []) rfl rfl rfl rfl rfl rfl (args_v [.int (nI l), .int 0, .ref 3, .int (nI v)] [] rfl rfl (Nat.le_of_ble_eq_true rfl) rfl hT1.1 (Nat.le_of_ble_eq_true rfl)) (rc_childNamed (a := 2) (na := 2000) (j := 0) (m := l) hT1 hk h21 (by decide) (by omega) hv) ?_
  rw [hch]
  rw [show lI none = -1 from rfl]
  refine RQ.brT rfl rfl rfl (by decide) ?_
  refine RQ.blk 1 (pc' := 63) (lv' := [(3, .int (nI l)), (0, .ref 1), (1, .int (nI v)), (2, .int 0)]) (st' := [.ref 1]) (H' := _) (kc' := 0) (ks' := 0) rfl ?_
  refine RQ.get (ci := 11) rfl h01 rfl rfl ?_
  refine RQ.call (v := some (.int (lI (fstF (fun v => decide (t.1 v = 0)) 1 200)))) (st' := []) rfl rfl rfl rfl rfl rfl (args_v [] [] rfl rfl (Nat.le_of_ble_eq_true rfl) rfl hT1.1 (Nat.le_of_ble_eq_true rfl)) (rc_leastUnused hT1 hk) ?_
  rw [hlu]
  rw [show lI (some r) = nI r from rfl]
  have hr := fstF_lt hlu
  refine RQ.blk 2 (pc' := 73) (lv' := [(4, .int (nI r)), (3, .int (nI l)), (0, .ref 1), (1, .int (nI v)), (2, .int 0)]) (st' := [.int (nI r)]) (H' := _) (kc' := 0) (ks' := 0) rfl ?_
  refine RQ.brT rfl rfl rfl (cT_ge r 0) ?_
  refine RQ.blk 1 (pc' := 88) (lv' := [(4, .int (nI r)), (3, .int (nI l)), (0, .ref 1), (1, .int (nI v)), (2, .int 0)]) (st' := [.int 0]) (H' := _) (kc' := 0) (ks' := 0) rfl ?_
  refine RQ.brT rfl rfl rfl (by decide) ?_
  refine RQ.blk 2 (pc' := 98) (lv' := [(5, .int 1), (4, .int (nI r)), (3, .int (nI l)), (0, .ref 1), (1, .int (nI v)), (2, .int 0)]) (st' := []) (H' := _) (kc' := 0) (ks' := 0) rfl ?_
  obtain ⟨⟨ws0, hb0⟩, Q0, hq0⟩ := hc1.2.2.2.2.2.2.2.2.1
  obtain ⟨D0, S0, K0, E0, hb0A, -⟩ := id hb0
  refine RQ.blk 1 (pc' := 99) (lv' := [(5, .int 1), (4, .int (nI r)), (3, .int (nI l)), (0, .ref 1), (1, .int (nI v)), (2, .int 0)]) (st' := [.ref 1]) (H' := _) (kc' := 0) (ks' := 0) rfl ?_
  refine RQ.get (ci := 11) rfl h01 rfl rfl ?_
  refine RQ.callN (st' := []) rfl rfl rfl rfl rfl rfl (args_v [] [] rfl rfl (Nat.le_of_ble_eq_true rfl) rfl hb0A.1 (Nat.le_of_ble_eq_true rfl)) (rn_bclearI hb0) (fun H2 hx2 => ?_)
  obtain ⟨hb2, f2⟩ := hx2
  have h02 := (f2 0 (by decide)).trans h01
  have h12 := (f2 1 (by decide)).trans h11
  have h22 := (f2 2 (by decide)).trans h21
  have hT2 : TreeAt H2 t.1 t.2.1 t.2.2.1 t.2.2.2.1 t.2.2.2.2.1 t.2.2.2.2.2 := hT1.far (fun a a1 a2 => f2 a (by omega))
  have hq2 := (f2 64 (by decide)).trans hq0
  have e52 : ∃ q : Nat, H2[5]? = some (kO 5 [.ref 7, .int (nI q)]) := ⟨q5, (f2 5 (by decide)).trans ((far1 5 (by decide)).trans h5)⟩
  have e62 : ∃ g, H2[6]? = some (kB 41 g) := ⟨p6, (f2 6 (by decide)).trans ((far1 6 (by decide)).trans h6)⟩
  refine RQ.blk 6 (pc' := 113) (lv' := [(5, .int 1), (4, .int (nI r)), (3, .int (nI l)), (0, .ref 1), (1, .int (nI v)), (2, .int 0)]) (st' := [.ref 1, .int 0, .int (nI v), .int 1, .int (nI r), .ref 1]) (H' := _) (kc' := 0) (ks' := 0) rfl ?_
  refine RQ.get (ci := 11) rfl h02 rfl rfl ?_
  refine RQ.get (ci := 5) rfl h12 rfl rfl ?_
  refine RQ.blk 2 (pc' := 121) (lv' := [(5, .int 1), (4, .int (nI r)), (3, .int (nI l)), (0, .ref 1), (1, .int (nI v)), (2, .int 0)]) (st' := [.int (nI l), .int 0, .ref 3, .int 0, .int (nI v), .int 1, .int (nI r), .ref 1]) (H' := _) (kc' := 0) (ks' := 0) rfl ?_
  refine RQ.callN (st' := []) rfl rfl rfl rfl rfl rfl (args_v [.int (nI l), .int 0, .ref 3, .int 0, .int (nI v), .int 1, .int (nI r)] [] rfl rfl (Nat.le_of_ble_eq_true rfl) rfl h02 (Nat.le_of_ble_eq_true rfl)) (rn_chNode (v := r) (k := 1) (dir := v) (s := 0) (a := 2) (na := 2000) (i := 0) (n := l) h02 e52 e62 hb2 h22 (by decide) (by decide) (by decide) (by decide) (by omega) (by omega) (by decide) (by omega) (by decide) hl2 (by decide) (by show 0 + 6 + l ≤ 4100; omega)) (fun H3 hx3 => ?_)
  obtain ⟨hb3, e53, e63, f3⟩ := hx3
  have hb3 : BatchIs H3 59 [([1, r], some ([1, v] ++ (beB 2 0 ++ sl tb 0 l)))] := hb3
  have f13 : ∀ a, a ≠ 5 → a ≠ 6 → ¬ (59 ≤ a ∧ a < 64) → H3[a]? = H1[a]? := fun a a1 a2 a3 => (f3 a a1 a2 a3).trans (f2 a (by omega))
  have hc3 : ClsA H3 B P 1 cw cl cp cb tb 0 g rl wss t := by
    obtain ⟨qa, ea⟩ := e53
    obtain ⟨pa, eb⟩ := e63
    obtain ⟨c0, c1, c2, c3, c4, -, ⟨wq2, c10, cwq⟩, cW, -, cT⟩ := hc1
    exact ⟨(f13 0 (by decide) (by decide) (by decide)).trans c0, (f13 1 (by decide) (by decide) (by decide)).trans c1, (f13 2 (by decide) (by decide) (by decide)).trans c2, (f13 3 (by decide) (by decide) (by decide)).trans c3, (f13 4 (by decide) (by decide) (by decide)).trans c4, ⟨qa, pa, ea, eb⟩, ⟨wq2, (f13 10 (by decide) (by decide) (by decide)).trans c10, cwq⟩, fun t ht => ⟨(cW t ht).1.keep (fun a a1 a2 => f13 a (by omega) (by omega) (by omega)), (cW t ht).2.imp (fun Q hQ => (f13 _ (by omega) (by omega) (by omega)).trans hQ)⟩, ⟨⟨_, hb3⟩, Q0, (f3 64 (by decide) (by decide) (by decide)).trans hq2⟩, cT.far (fun a a1 a2 => f13 a (by omega) (by omega) (by omega))⟩
  have fk3 : FrK H H3 := fk1.trans (fun a ha => f13 a (by omega) (by omega) (by omega))
  have hch3 : ChB H H3 B P cw cl cp cb tb 0 g rl wss t [([1, r], some ([1, v] ++ (beB 2 0 ++ sl tb 0 l)))] := ⟨hc3, hb3, fk3⟩
  obtain ⟨D3, S3, K3, E3, hb3A, hb3L, hb340, hb341⟩ := id hb3
  have hb3k := hb3L.ok hb340 hb341
  have h03 := hc3.1
  have h13 := hc3.2.1
  have h23 := hc3.2.2.1
  have hT3 : TreeAt H3 t.1 t.2.1 t.2.2.1 t.2.2.2.1 t.2.2.2.2.1 t.2.2.2.2.2 := hc3.2.2.2.2.2.2.2.2.2
  refine RQ.blk 2 (pc' := 126) (lv' := [(5, .int 1), (4, .int (nI r)), (3, .int (nI l)), (0, .ref 1), (1, .int (nI v)), (2, .int 0)]) (st' := [.ref 1, .ref 1]) (H' := _) (kc' := 0) (ks' := 0) rfl ?_
  refine RQ.get (ci := 11) rfl h03 rfl rfl ?_
  refine RQ.blk 1 (pc' := 130) (lv' := [(5, .int 1), (4, .int (nI r)), (3, .int (nI l)), (0, .ref 1), (1, .int (nI v)), (2, .int 0)]) (st' := [.int (-1), .ref 60, .ref 1]) (H' := _) (kc' := 0) (ks' := 0) rfl ?_
  obtain ⟨kf, kl, mo, pl, le, al, od, sp, sz, ss, ac, hA, hVW, hvs⟩ := (hV.far (fun a a1 a2 => fk3 a (by omega)) : VersIs H3 N vs)
  exact RQ.callP (st' := []) rfl rfl rfl rfl rfl rfl (args_v [.int (-1), .ref 60] [] rfl rfl (Nat.le_of_ble_eq_true rfl) rfl h03 (Nat.le_of_ble_eq_true rfl)) (rc_reqRoomX h03 hA hVW hvs hb3A hb3k hb3L (hs.far2 (fun a a1 a2 => fk3 a (by omega))) (fun t ht => Nat.lt_trans (hsm t ht) (by decide)) (fun i hi => by obtain ⟨e, he⟩ := lt_get hi; rw [(hb3L i e he).2.1]; exact (by obtain e2 := List.mem_singleton.mp (List.mem_of_getElem? he); rw [e2]; show 1 ≤ 2; decide)) (fun i j e f h1 h2 _ => by have := get_lt h1; have := get_lt h2; have q1 : i < 1 := get_lt h1; have q2 : j < 1 := get_lt h2; omega) hpr (by omega) hB hle hl31) rfl ⟨_, rfl, hc3, fk3⟩
set_option maxRecDepth 20000 in
theorem ri_make0_ok {sc : Nat × (Nat → Int32)} {d : Nat} {H : aH} {B P : Nat} {cl : Int32} {cp cb : Nat} {tb : Nat → Int8} {l : Nat} {g : Nat → Int8} {rl : Nat} {wss : Nat → List aE} {t : aTr} {v r : Nat} {N : Nat} {op : Nat → Bool} {sm : Nat → Nat} {vs : List aV} {ok1 ok2 ok3 ok5 ok6 : aH → Prop} (h : ClsA H B P 1 0 cl cp cb tb l g rl wss t) (hk : TreeOk t.1 t.2.1 t.2.2.1 t.2.2.2.1) (hv : v ≤ 200) (hl1 : 1 ≤ l) (hl2 : l ≤ 30) (hnm : (∀ k, k < l → ¬ btB tb l (0 + k) = 47)) (hkd : t.1 v = 2) (hch : fstF (inN t.1 t.2.1 t.2.2.2.1 t.2.2.2.2.1 v (sl tb 0 l)) 1 200 = none) (hlu : fstF (fun v => decide (t.1 v = 0)) 1 200 = some r) (hs : SightAt H op sm) (hsm : ∀ t, t < 8 → sm t < 2 ^ 30) (hV : VersIs H N vs) (hpr : ∀ v ∈ vs, v.2.1 ≤ P) (hP : P + 1 < 2 ^ 30) (hB : B ≤ 128) (hle : sumN op sm (-1) (P + 1) (kmV (inclV (P + 1) (fun _ => 0) 0 ([([1, r], some ([1, v] ++ (beB 2 0 ++ sl tb 0 l)))]) vs)) (inclV (P + 1) (fun _ => 0) 0 ([([1, r], some ([1, v] ++ (beB 2 0 ++ sl tb 0 l)))]) vs) ≤ B * 256) (hRM : ∀ H', ChB H H' B P 0 cl cp cb tb 0 g rl wss t ([([1, r], some ([1, v] ++ (beB 2 0 ++ sl tb 0 l)))]) → RB sc (d + 7) mr_96 [.ref 1] H' ok1 (fun _ => False)) (hST : ∀ H', ok1 H' → RB sc (d + 7) mr_150 [.ref 1, .ref 60] H' ok2 (fun _ => False)) (hf1 : ∀ H', ok1 H' → H'[0]? = some (kO 11 (fvs (nI B) (nI P) 1 0 cl (nI cp) (nI cb)))) (hSE : ∀ H', ok2 H' → RN sc (d + 7) mr_153 [.ref 1, .int 1] H' ok3) (hIN : ∀ H', ok3 H' → RN sc (d + 7) mr_160 [.ref 1, .ref 60] H' ok5) (hTS : ∀ H', ok5 H' → RN sc (d + 7) mr_191 [.ref 66, .int (nI r), .int 1, .int (nI v), .int 0, .ref 3, .int 0, .int (nI l)] H' ok6) (hf2 : ∀ H', ok2 H' → H'[0]? = some (kO 11 (fvs (nI B) (nI P) 1 0 cl (nI cp) (nI cb)))) (hf3 : ∀ H', ok3 H' → H'[0]? = some (kO 11 (fvs (nI B) (nI P) 1 0 cl (nI cp) (nI cb)))) (hf5 : ∀ H', ok5 H' → H'[0]? = some (kO 11 (fvs (nI B) (nI (P + 1)) 1 0 cl (nI cp) (nI cb))) ∧ (∃ fs, H'[65]? = some (kO 9 fs)) ∧ ∃ lx : Nat, H'[1]? = some (kO 5 [.ref 3, .int (nI lx)])) : RI sc (d + 8) mr_215 [.ref 1, .int (nI v), .int 0] H (fun x H' => x = nI r ∧ ok6 H') := by
  obtain ⟨h0, h1, h2, h3, h4, ⟨q5, p6, h5, h6⟩, ⟨wq, h10, hwq⟩, hW, hCh, hT⟩ := id h
  refine RI.of ?_
  refine RQ.blk 2 (pc' := 2) (lv' := [(0, .ref 1), (1, .int (nI v)), (2, .int 0)]) (st' := [.int (nI v), .ref 1]) (H' := _) (kc' := 0) (ks' := 0) rfl ?_
  refine RQ.call (v := none) (st' := []) rfl rfl rfl rfl rfl rfl (args_v [.int (nI v)] [] rfl rfl (Nat.le_of_ble_eq_true rfl) rfl h0 (Nat.le_of_ble_eq_true rfl)) (rc_reqNum h0 hv) ?_
  refine RQ.blk 3 (pc' := 8) (lv' := [(0, .ref 1), (1, .int (nI v)), (2, .int 0)]) (st' := [.ref 1, .int 0, .ref 1]) (H' := _) (kc' := 0) (ks' := 0) rfl ?_
  refine RQ.get (ci := 11) rfl h0 rfl rfl ?_
  refine RQ.get (ci := 5) rfl h1 rfl rfl ?_
  refine RQ.call (v := none) (st' := []) rfl rfl rfl rfl rfl rfl (args_v [.int (nI l), .int 0] [] rfl rfl (Nat.le_of_ble_eq_true rfl) rfl h0 (Nat.le_of_ble_eq_true rfl)) (rc_requireName1 (i := 0) h0 ⟨h1, h2, by decide, by decide⟩ (by omega) (by decide) hl1 hl2 hnm) ?_
  refine RQ.blk 1 (pc' := 18) (lv' := [(0, .ref 1), (1, .int (nI v)), (2, .int 0)]) (st' := [.ref 1]) (H' := _) (kc' := 0) (ks' := 0) rfl ?_
  refine RQ.call (v := none) (st' := []) rfl rfl rfl rfl rfl rfl (args_v [] [] rfl rfl (Nat.le_of_ble_eq_true rfl) rfl h0 (Nat.le_of_ble_eq_true rfl)) (rc_up h0 rfl) ?_
  refine RQ.blk 1 (pc' := 22) (lv' := [(0, .ref 1), (1, .int (nI v)), (2, .int 0)]) (st' := [.ref 1]) (H' := _) (kc' := 0) (ks' := 0) rfl ?_
  refine RQ.call (v := some (.int (nI l))) (st' := []) rfl rfl rfl rfl rfl rfl (args_v [] [] rfl rfl (Nat.le_of_ble_eq_true rfl) rfl h0 (Nat.le_of_ble_eq_true rfl)) (rc_takeTape h0 h1) ?_
  have far1 : ∀ a, a ≠ 1 → (H.set 1 (kO 5 [.ref 3, .int (nI 0)]))[a]? = H[a]? := fun a ha => set_far ha
  have h11 : (H.set 1 (kO 5 [.ref 3, .int (nI 0)]))[1]? = some (kO 5 [.ref 3, .int (nI 0)]) := get_set h1
  refine RQ.blk 1 (pc' := 26) (lv' := [(3, .int (nI l)), (0, .ref 1), (1, .int (nI v)), (2, .int 0)]) (st' := []) (H' := _) (kc' := 0) (ks' := 0) rfl ?_
  show RQ _ _ _ 26 [(3, .int (nI l)), (0, .ref 1), (1, .int (nI v)), (2, .int 0)] [] (H.set 1 (kO 5 [.ref 3, .int (nI 0)])) 0 0 _
  generalize (H.set 1 (kO 5 [.ref 3, .int (nI 0)])) = H1 at far1 h11 ⊢
  have h01 := (far1 0 (by decide)).trans h0
  have h21 := (far1 2 (by decide)).trans h2
  have hT1 : TreeAt H1 t.1 t.2.1 t.2.2.1 t.2.2.2.1 t.2.2.2.2.1 t.2.2.2.2.2 := hT.far (fun a a1 a2 => far1 a (by omega))
  have hc1 : ClsA H1 B P 1 0 cl cp cb tb 0 g rl wss t := h.small h01 h11 h21 ((far1 3 (by decide)).trans h3) ((far1 4 (by decide)).trans h4) ⟨q5, p6, (far1 5 (by decide)).trans h5, (far1 6 (by decide)).trans h6⟩ (fun a a1 a2 => far1 a (by omega))
  have fk1 : FrK H H1 := fun a ha => far1 a (by omega)
  refine RQ.blk 2 (pc' := 28) (lv' := [(3, .int (nI l)), (0, .ref 1), (1, .int (nI v)), (2, .int 0)]) (st' := [.int (nI v), .ref 1]) (H' := _) (kc' := 0) (ks' := 0) rfl ?_
  refine RQ.call (v := none) (st' := []) rfl rfl rfl rfl rfl rfl (args_v [.int (nI v)] [] rfl rfl (Nat.le_of_ble_eq_true rfl) rfl h01 (Nat.le_of_ble_eq_true rfl)) (rc_reqDir h01 rfl hT1.1 rfl hT1.2.1 hv (nI_is2 hkd)) ?_
  refine RQ.blk 1 (pc' := 32) (lv' := [(3, .int (nI l)), (0, .ref 1), (1, .int (nI v)), (2, .int 0)]) (st' := [.ref 1]) (H' := _) (kc' := 0) (ks' := 0) rfl ?_
  refine RQ.get (ci := 11) rfl h01 rfl rfl ?_
  refine RQ.blk 2 (pc' := 37) (lv' := [(3, .int (nI l)), (0, .ref 1), (1, .int (nI v)), (2, .int 0)]) (st' := [.ref 1, .int (nI v), .ref 66]) (H' := _) (kc' := 0) (ks' := 0) rfl ?_
  refine RQ.get (ci := 11) rfl h01 rfl rfl ?_
  refine RQ.get (ci := 5) rfl h11 rfl rfl ?_
  refine RQ.blk 2 (pc' := 45) (lv' := [(3, .int (nI l)), (0, .ref 1), (1, .int (nI v)), (2, .int 0)]) (st' := [.int (nI l), .int 0, .ref 3, .int (nI v), .ref 66]) (H' := _) (kc' := 0) (ks' := 0) rfl ?_
  refine RQ.call (v := some (.int (lI (fstF (inN t.1 t.2.1 t.2.2.2.1 t.2.2.2.2.1 v (sl tb 0 l)) 1 200)))) (st' := []) rfl rfl rfl rfl rfl rfl (args_v [.int (nI l), .int 0, .ref 3, .int (nI v)] [] rfl rfl (Nat.le_of_ble_eq_true rfl) rfl hT1.1 (Nat.le_of_ble_eq_true rfl)) (rc_childNamed (a := 2) (na := 2000) (j := 0) (m := l) hT1 hk h21 (by decide) (by omega) hv) ?_
  rw [hch]
  rw [show lI none = -1 from rfl]
  refine RQ.brT rfl rfl rfl (by decide) ?_
  refine RQ.blk 1 (pc' := 63) (lv' := [(3, .int (nI l)), (0, .ref 1), (1, .int (nI v)), (2, .int 0)]) (st' := [.ref 1]) (H' := _) (kc' := 0) (ks' := 0) rfl ?_
  refine RQ.get (ci := 11) rfl h01 rfl rfl ?_
  refine RQ.call (v := some (.int (lI (fstF (fun v => decide (t.1 v = 0)) 1 200)))) (st' := []) rfl rfl rfl rfl rfl rfl (args_v [] [] rfl rfl (Nat.le_of_ble_eq_true rfl) rfl hT1.1 (Nat.le_of_ble_eq_true rfl)) (rc_leastUnused hT1 hk) ?_
  rw [hlu]
  rw [show lI (some r) = nI r from rfl]
  have hr := fstF_lt hlu
  refine RQ.blk 2 (pc' := 73) (lv' := [(4, .int (nI r)), (3, .int (nI l)), (0, .ref 1), (1, .int (nI v)), (2, .int 0)]) (st' := [.int (nI r)]) (H' := _) (kc' := 0) (ks' := 0) rfl ?_
  refine RQ.brT rfl rfl rfl (cT_ge r 0) ?_
  refine RQ.blk 1 (pc' := 88) (lv' := [(4, .int (nI r)), (3, .int (nI l)), (0, .ref 1), (1, .int (nI v)), (2, .int 0)]) (st' := [.int 0]) (H' := _) (kc' := 0) (ks' := 0) rfl ?_
  refine RQ.brT rfl rfl rfl (by decide) ?_
  refine RQ.blk 2 (pc' := 98) (lv' := [(5, .int 1), (4, .int (nI r)), (3, .int (nI l)), (0, .ref 1), (1, .int (nI v)), (2, .int 0)]) (st' := []) (H' := _) (kc' := 0) (ks' := 0) rfl ?_
  obtain ⟨⟨ws0, hb0⟩, Q0, hq0⟩ := hc1.2.2.2.2.2.2.2.2.1
  obtain ⟨D0, S0, K0, E0, hb0A, -⟩ := id hb0
  refine RQ.blk 1 (pc' := 99) (lv' := [(5, .int 1), (4, .int (nI r)), (3, .int (nI l)), (0, .ref 1), (1, .int (nI v)), (2, .int 0)]) (st' := [.ref 1]) (H' := _) (kc' := 0) (ks' := 0) rfl ?_
  refine RQ.get (ci := 11) rfl h01 rfl rfl ?_
  refine RQ.callN (st' := []) rfl rfl rfl rfl rfl rfl (args_v [] [] rfl rfl (Nat.le_of_ble_eq_true rfl) rfl hb0A.1 (Nat.le_of_ble_eq_true rfl)) (rn_bclearI hb0) (fun H2 hx2 => ?_)
  obtain ⟨hb2, f2⟩ := hx2
  have h02 := (f2 0 (by decide)).trans h01
  have h12 := (f2 1 (by decide)).trans h11
  have h22 := (f2 2 (by decide)).trans h21
  have hT2 : TreeAt H2 t.1 t.2.1 t.2.2.1 t.2.2.2.1 t.2.2.2.2.1 t.2.2.2.2.2 := hT1.far (fun a a1 a2 => f2 a (by omega))
  have hq2 := (f2 64 (by decide)).trans hq0
  have e52 : ∃ q : Nat, H2[5]? = some (kO 5 [.ref 7, .int (nI q)]) := ⟨q5, (f2 5 (by decide)).trans ((far1 5 (by decide)).trans h5)⟩
  have e62 : ∃ g, H2[6]? = some (kB 41 g) := ⟨p6, (f2 6 (by decide)).trans ((far1 6 (by decide)).trans h6)⟩
  refine RQ.blk 6 (pc' := 113) (lv' := [(5, .int 1), (4, .int (nI r)), (3, .int (nI l)), (0, .ref 1), (1, .int (nI v)), (2, .int 0)]) (st' := [.ref 1, .int 0, .int (nI v), .int 1, .int (nI r), .ref 1]) (H' := _) (kc' := 0) (ks' := 0) rfl ?_
  refine RQ.get (ci := 11) rfl h02 rfl rfl ?_
  refine RQ.get (ci := 5) rfl h12 rfl rfl ?_
  refine RQ.blk 2 (pc' := 121) (lv' := [(5, .int 1), (4, .int (nI r)), (3, .int (nI l)), (0, .ref 1), (1, .int (nI v)), (2, .int 0)]) (st' := [.int (nI l), .int 0, .ref 3, .int 0, .int (nI v), .int 1, .int (nI r), .ref 1]) (H' := _) (kc' := 0) (ks' := 0) rfl ?_
  refine RQ.callN (st' := []) rfl rfl rfl rfl rfl rfl (args_v [.int (nI l), .int 0, .ref 3, .int 0, .int (nI v), .int 1, .int (nI r)] [] rfl rfl (Nat.le_of_ble_eq_true rfl) rfl h02 (Nat.le_of_ble_eq_true rfl)) (rn_chNode (v := r) (k := 1) (dir := v) (s := 0) (a := 2) (na := 2000) (i := 0) (n := l) h02 e52 e62 hb2 h22 (by decide) (by decide) (by decide) (by decide) (by omega) (by omega) (by decide) (by omega) (by decide) hl2 (by decide) (by show 0 + 6 + l ≤ 4100; omega)) (fun H3 hx3 => ?_)
  obtain ⟨hb3, e53, e63, f3⟩ := hx3
  have hb3 : BatchIs H3 59 [([1, r], some ([1, v] ++ (beB 2 0 ++ sl tb 0 l)))] := hb3
  have f13 : ∀ a, a ≠ 5 → a ≠ 6 → ¬ (59 ≤ a ∧ a < 64) → H3[a]? = H1[a]? := fun a a1 a2 a3 => (f3 a a1 a2 a3).trans (f2 a (by omega))
  have hc3 : ClsA H3 B P 1 0 cl cp cb tb 0 g rl wss t := by
    obtain ⟨qa, ea⟩ := e53
    obtain ⟨pa, eb⟩ := e63
    obtain ⟨c0, c1, c2, c3, c4, -, ⟨wq2, c10, cwq⟩, cW, -, cT⟩ := hc1
    exact ⟨(f13 0 (by decide) (by decide) (by decide)).trans c0, (f13 1 (by decide) (by decide) (by decide)).trans c1, (f13 2 (by decide) (by decide) (by decide)).trans c2, (f13 3 (by decide) (by decide) (by decide)).trans c3, (f13 4 (by decide) (by decide) (by decide)).trans c4, ⟨qa, pa, ea, eb⟩, ⟨wq2, (f13 10 (by decide) (by decide) (by decide)).trans c10, cwq⟩, fun t ht => ⟨(cW t ht).1.keep (fun a a1 a2 => f13 a (by omega) (by omega) (by omega)), (cW t ht).2.imp (fun Q hQ => (f13 _ (by omega) (by omega) (by omega)).trans hQ)⟩, ⟨⟨_, hb3⟩, Q0, (f3 64 (by decide) (by decide) (by decide)).trans hq2⟩, cT.far (fun a a1 a2 => f13 a (by omega) (by omega) (by omega))⟩
  have fk3 : FrK H H3 := fk1.trans (fun a ha => f13 a (by omega) (by omega) (by omega))
  have hch3 : ChB H H3 B P 0 cl cp cb tb 0 g rl wss t [([1, r], some ([1, v] ++ (beB 2 0 ++ sl tb 0 l)))] := ⟨hc3, hb3, fk3⟩
  obtain ⟨D3, S3, K3, E3, hb3A, hb3L, hb340, hb341⟩ := id hb3
  have hb3k := hb3L.ok hb340 hb341
  have h03 := hc3.1
  have h13 := hc3.2.1
  have h23 := hc3.2.2.1
  have hT3 : TreeAt H3 t.1 t.2.1 t.2.2.1 t.2.2.2.1 t.2.2.2.2.1 t.2.2.2.2.2 := hc3.2.2.2.2.2.2.2.2.2
  refine RQ.blk 2 (pc' := 126) (lv' := [(5, .int 1), (4, .int (nI r)), (3, .int (nI l)), (0, .ref 1), (1, .int (nI v)), (2, .int 0)]) (st' := [.ref 1, .ref 1]) (H' := _) (kc' := 0) (ks' := 0) rfl ?_
  refine RQ.get (ci := 11) rfl h03 rfl rfl ?_
  refine RQ.blk 1 (pc' := 130) (lv' := [(5, .int 1), (4, .int (nI r)), (3, .int (nI l)), (0, .ref 1), (1, .int (nI v)), (2, .int 0)]) (st' := [.int (-1), .ref 60, .ref 1]) (H' := _) (kc' := 0) (ks' := 0) rfl ?_
  obtain ⟨kf, kl, mo, pl, le, al, od, sp, sz, ss, ac, hA, hVW, hvs⟩ := (hV.far (fun a a1 a2 => fk3 a (by omega)) : VersIs H3 N vs)
  refine RQ.call (v := none) (st' := []) rfl rfl rfl rfl rfl rfl (args_v [.int (-1), .ref 60] [] rfl rfl (Nat.le_of_ble_eq_true rfl) rfl h03 (Nat.le_of_ble_eq_true rfl)) (rc_reqRoom h03 hA hVW hvs hb3A hb3k hb3L (hs.far2 (fun a a1 a2 => fk3 a (by omega))) (fun t ht => Nat.lt_trans (hsm t ht) (by decide)) (fun i hi => by obtain ⟨e, he⟩ := lt_get hi; rw [(hb3L i e he).2.1]; exact (by obtain e2 := List.mem_singleton.mp (List.mem_of_getElem? he); rw [e2]; show 1 ≤ 2; decide)) (fun i j e f h1 h2 _ => by have := get_lt h1; have := get_lt h2; have q1 : i < 1 := get_lt h1; have q2 : j < 1 := get_lt h2; omega) hpr (by omega) hB hle) ?_
  refine RQ.blk 2 (pc' := 135) (lv' := [(5, .int 1), (4, .int (nI r)), (3, .int (nI l)), (0, .ref 1), (1, .int (nI v)), (2, .int 0)]) (st' := [.ref 1, .ref 1]) (H' := _) (kc' := 0) (ks' := 0) rfl ?_
  refine RQ.get (ci := 11) rfl h03 rfl rfl ?_
  refine RQ.get (ci := 0) rfl hb3A.1 rfl rfl ?_
  refine RQ.blk 2 (pc' := 143) (lv' := [(5, .int 1), (4, .int (nI r)), (3, .int (nI l)), (0, .ref 1), (1, .int (nI v)), (2, .int 0)]) (st' := [.int (nI (([([1, r], some ([1, v] ++ (beB 2 0 ++ sl tb 0 l)))]).length) + 1), .ref 1]) (H' := _) (kc' := 0) (ks' := 0) rfl ?_
  rw [show (nI (([([1, r], some ([1, v] ++ (beB 2 0 ++ sl tb 0 l)))]).length) + 1 : Int32) = nI (([([1, r], some ([1, v] ++ (beB 2 0 ++ sl tb 0 l)))]).length + 1) from nI_add (([([1, r], some ([1, v] ++ (beB 2 0 ++ sl tb 0 l)))]).length) 1]
  refine RQ.call (v := none) (st' := []) rfl rfl rfl rfl rfl rfl (args_v [.int (nI (([([1, r], some ([1, v] ++ (beB 2 0 ++ sl tb 0 l)))]).length + 1))] [] rfl rfl (Nat.le_of_ble_eq_true rfl) rfl h03 (Nat.le_of_ble_eq_true rfl)) (rc_armCut0 h03) ?_
  refine RQ.blk 2 (pc' := 148) (lv' := [(5, .int 1), (4, .int (nI r)), (3, .int (nI l)), (0, .ref 1), (1, .int (nI v)), (2, .int 0)]) (st' := [.ref 1, .ref 1]) (H' := _) (kc' := 0) (ks' := 0) rfl ?_
  refine RQ.callB (st' := [.ref 1]) rfl rfl rfl rfl rfl rfl (args_v [] [.ref 1] rfl rfl (Nat.le_of_ble_eq_true rfl) rfl h03 (Nat.le_of_ble_eq_true rfl)) (hRM H3 hch3) (fun H4 hH4 => ?_) (fun H4 hH4 => False.elim hH4)
  · have g1 := hf1 H4 hH4
    refine RQ.brF rfl rfl rfl (by decide) ?_
    refine RQ.blk 2 (pc' := 156) (lv' := [(5, .int 1), (4, .int (nI r)), (3, .int (nI l)), (0, .ref 1), (1, .int (nI v)), (2, .int 0)]) (st' := [.ref 1, .ref 1, .ref 1]) (H' := _) (kc' := 0) (ks' := 0) rfl ?_
    refine RQ.get (ci := 11) rfl g1 rfl rfl ?_
    refine RQ.callB (st' := [.ref 1]) rfl rfl rfl rfl rfl rfl (args_v [.ref 60] [.ref 1] rfl rfl (Nat.le_of_ble_eq_true rfl) rfl g1 (Nat.le_of_ble_eq_true rfl)) (hST H4 hH4) (fun H5 hH5 => ?_) (fun H5 hH5 => False.elim hH5)
    · have g2 := hf2 H5 hH5
      refine RQ.brF rfl rfl rfl (by decide) ?_
      refine RQ.blk 2 (pc' := 170) (lv' := [(5, .int 1), (4, .int (nI r)), (3, .int (nI l)), (0, .ref 1), (1, .int (nI v)), (2, .int 0)]) (st' := [.int 1, .ref 1]) (H' := _) (kc' := 0) (ks' := 0) rfl ?_
      refine RQ.callN (st' := []) rfl rfl rfl rfl rfl rfl (args_v [.int 1] [] rfl rfl (Nat.le_of_ble_eq_true rfl) rfl g2 (Nat.le_of_ble_eq_true rfl)) (hSE H5 hH5) (fun H6 hH6 => ?_)
      have g3 := hf3 H6 hH6
      refine RQ.blk 2 (pc' := 175) (lv' := [(5, .int 1), (4, .int (nI r)), (3, .int (nI l)), (0, .ref 1), (1, .int (nI v)), (2, .int 0)]) (st' := [.ref 1, .ref 1]) (H' := _) (kc' := 0) (ks' := 0) rfl ?_
      refine RQ.get (ci := 11) rfl g3 rfl rfl ?_
      refine RQ.callN (st' := []) rfl rfl rfl rfl rfl rfl (args_v [.ref 60] [] rfl rfl (Nat.le_of_ble_eq_true rfl) rfl g3 (Nat.le_of_ble_eq_true rfl)) (hIN H6 hH6) (fun H7 hH7 => ?_)
      obtain ⟨g5, ⟨tfs, g65⟩, lx, g11⟩ := hf5 H7 hH7
      refine RQ.blk 1 (pc' := 182) (lv' := [(5, .int 1), (4, .int (nI r)), (3, .int (nI l)), (0, .ref 1), (1, .int (nI v)), (2, .int 0)]) (st' := [.ref 1]) (H' := _) (kc' := 0) (ks' := 0) rfl ?_
      refine RQ.get (ci := 11) rfl g5 rfl rfl ?_
      refine RQ.blk 5 (pc' := 192) (lv' := [(5, .int 1), (4, .int (nI r)), (3, .int (nI l)), (0, .ref 1), (1, .int (nI v)), (2, .int 0)]) (st' := [.ref 1, .int 0, .int (nI v), .int 1, .int (nI r), .ref 66]) (H' := _) (kc' := 0) (ks' := 0) rfl ?_
      refine RQ.get (ci := 11) rfl g5 rfl rfl ?_
      refine RQ.get (ci := 5) rfl g11 rfl rfl ?_
      refine RQ.blk 2 (pc' := 200) (lv' := [(5, .int 1), (4, .int (nI r)), (3, .int (nI l)), (0, .ref 1), (1, .int (nI v)), (2, .int 0)]) (st' := [.int (nI l), .int 0, .ref 3, .int 0, .int (nI v), .int 1, .int (nI r), .ref 66]) (H' := _) (kc' := 0) (ks' := 0) rfl ?_
      refine RQ.callN (st' := []) rfl rfl rfl rfl rfl rfl (args_v [.int (nI l), .int 0, .ref 3, .int 0, .int (nI v), .int 1, .int (nI r)] [] rfl rfl (Nat.le_of_ble_eq_true rfl) rfl g65 (Nat.le_of_ble_eq_true rfl)) (hTS H7 hH7) (fun H8 hH8 => ?_)
      refine RQ.blk 1 (pc' := 205) (lv' := [(5, .int 1), (4, .int (nI r)), (3, .int (nI l)), (0, .ref 1), (1, .int (nI v)), (2, .int 0)]) (st' := [.int (nI r)]) (H' := _) (kc' := 0) (ks' := 0) rfl ?_
      exact RQ.done (c := 0) (s := 0) rfl rfl rfl rfl ⟨_, _, rfl, rfl, hH8⟩
set_option maxRecDepth 20000 in
theorem rx_make0_late {sc : Nat × (Nat → Int32)} {d : Nat} {H : aH} {B P : Nat}  {cp cb : Nat} {tb : Nat → Int8} {l : Nat} {g : Nat → Int8} {rl : Nat} {wss : Nat → List aE} {t : aTr} {v r : Nat} {N : Nat} {op : Nat → Bool} {sm : Nat → Nat} {vs : List aV} {ok1 ok2 fin : aH → Prop} (h : ClsA H B P 1 1 1 cp cb tb l g rl wss t) (hk : TreeOk t.1 t.2.1 t.2.2.1 t.2.2.2.1) (hv : v ≤ 200) (hl1 : 1 ≤ l) (hl2 : l ≤ 30) (hnm : (∀ k, k < l → ¬ btB tb l (0 + k) = 47)) (hkd : t.1 v = 2) (hch : fstF (inN t.1 t.2.1 t.2.2.2.1 t.2.2.2.2.1 v (sl tb 0 l)) 1 200 = none) (hlu : fstF (fun v => decide (t.1 v = 0)) 1 200 = some r) (hs : SightAt H op sm) (hsm : ∀ t, t < 8 → sm t < 2 ^ 30) (hV : VersIs H N vs) (hpr : ∀ v ∈ vs, v.2.1 ≤ P) (hP : P + 1 < 2 ^ 30) (hB : B ≤ 128) (hle : sumN op sm (-1) (P + 1) (kmV (inclV (P + 1) (fun _ => 0) 0 ([([1, r], some ([1, v] ++ (beB 2 0 ++ sl tb 0 l)))]) vs)) (inclV (P + 1) (fun _ => 0) 0 ([([1, r], some ([1, v] ++ (beB 2 0 ++ sl tb 0 l)))]) vs) ≤ B * 256) (hRM : ∀ H', ChB H H' B P 1 1 cp cb tb 0 g rl wss t ([([1, r], some ([1, v] ++ (beB 2 0 ++ sl tb 0 l)))]) → RB sc (d + 7) mr_96 [.ref 1] H' ok1 (fun _ => False)) (hST : ∀ H', ok1 H' → RB sc (d + 7) mr_150 [.ref 1, .ref 60] H' ok2 (fun _ => False)) (hf1 : ∀ H', ok1 H' → H'[0]? = some (kO 11 (fvs (nI B) (nI P) 1 1 1 (nI cp) (nI cb)))) (hSE : ∀ H', ok2 H' → RX sc (d + 7) mr_153 [.ref 1, .int 1] H' 1 fin) (hf2 : ∀ H', ok2 H' → H'[0]? = some (kO 11 (fvs (nI B) (nI P) 1 1 1 (nI cp) (nI cb)))) : RXc sc (d + 8) mr_215 [.ref 1, .int (nI v), .int 0] H 1 (fun H' => fin H') := by
  obtain ⟨h0, h1, h2, h3, h4, ⟨q5, p6, h5, h6⟩, ⟨wq, h10, hwq⟩, hW, hCh, hT⟩ := id h
  refine RXc.of ?_
  refine RQ.blk 2 (pc' := 2) (lv' := [(0, .ref 1), (1, .int (nI v)), (2, .int 0)]) (st' := [.int (nI v), .ref 1]) (H' := _) (kc' := 0) (ks' := 0) rfl ?_
  refine RQ.call (v := none) (st' := []) rfl rfl rfl rfl rfl rfl (args_v [.int (nI v)] [] rfl rfl (Nat.le_of_ble_eq_true rfl) rfl h0 (Nat.le_of_ble_eq_true rfl)) (rc_reqNum h0 hv) ?_
  refine RQ.blk 3 (pc' := 8) (lv' := [(0, .ref 1), (1, .int (nI v)), (2, .int 0)]) (st' := [.ref 1, .int 0, .ref 1]) (H' := _) (kc' := 0) (ks' := 0) rfl ?_
  refine RQ.get (ci := 11) rfl h0 rfl rfl ?_
  refine RQ.get (ci := 5) rfl h1 rfl rfl ?_
  refine RQ.call (v := none) (st' := []) rfl rfl rfl rfl rfl rfl (args_v [.int (nI l), .int 0] [] rfl rfl (Nat.le_of_ble_eq_true rfl) rfl h0 (Nat.le_of_ble_eq_true rfl)) (rc_requireName1 (i := 0) h0 ⟨h1, h2, by decide, by decide⟩ (by omega) (by decide) hl1 hl2 hnm) ?_
  refine RQ.blk 1 (pc' := 18) (lv' := [(0, .ref 1), (1, .int (nI v)), (2, .int 0)]) (st' := [.ref 1]) (H' := _) (kc' := 0) (ks' := 0) rfl ?_
  refine RQ.call (v := none) (st' := []) rfl rfl rfl rfl rfl rfl (args_v [] [] rfl rfl (Nat.le_of_ble_eq_true rfl) rfl h0 (Nat.le_of_ble_eq_true rfl)) (rc_up h0 rfl) ?_
  refine RQ.blk 1 (pc' := 22) (lv' := [(0, .ref 1), (1, .int (nI v)), (2, .int 0)]) (st' := [.ref 1]) (H' := _) (kc' := 0) (ks' := 0) rfl ?_
  refine RQ.call (v := some (.int (nI l))) (st' := []) rfl rfl rfl rfl rfl rfl (args_v [] [] rfl rfl (Nat.le_of_ble_eq_true rfl) rfl h0 (Nat.le_of_ble_eq_true rfl)) (rc_takeTape h0 h1) ?_
  have far1 : ∀ a, a ≠ 1 → (H.set 1 (kO 5 [.ref 3, .int (nI 0)]))[a]? = H[a]? := fun a ha => set_far ha
  have h11 : (H.set 1 (kO 5 [.ref 3, .int (nI 0)]))[1]? = some (kO 5 [.ref 3, .int (nI 0)]) := get_set h1
  refine RQ.blk 1 (pc' := 26) (lv' := [(3, .int (nI l)), (0, .ref 1), (1, .int (nI v)), (2, .int 0)]) (st' := []) (H' := _) (kc' := 0) (ks' := 0) rfl ?_
  show RQ _ _ _ 26 [(3, .int (nI l)), (0, .ref 1), (1, .int (nI v)), (2, .int 0)] [] (H.set 1 (kO 5 [.ref 3, .int (nI 0)])) 0 0 _
  generalize (H.set 1 (kO 5 [.ref 3, .int (nI 0)])) = H1 at far1 h11 ⊢
  have h01 := (far1 0 (by decide)).trans h0
  have h21 := (far1 2 (by decide)).trans h2
  have hT1 : TreeAt H1 t.1 t.2.1 t.2.2.1 t.2.2.2.1 t.2.2.2.2.1 t.2.2.2.2.2 := hT.far (fun a a1 a2 => far1 a (by omega))
  have hc1 : ClsA H1 B P 1 1 1 cp cb tb 0 g rl wss t := h.small h01 h11 h21 ((far1 3 (by decide)).trans h3) ((far1 4 (by decide)).trans h4) ⟨q5, p6, (far1 5 (by decide)).trans h5, (far1 6 (by decide)).trans h6⟩ (fun a a1 a2 => far1 a (by omega))
  have fk1 : FrK H H1 := fun a ha => far1 a (by omega)
  refine RQ.blk 2 (pc' := 28) (lv' := [(3, .int (nI l)), (0, .ref 1), (1, .int (nI v)), (2, .int 0)]) (st' := [.int (nI v), .ref 1]) (H' := _) (kc' := 0) (ks' := 0) rfl ?_
  refine RQ.call (v := none) (st' := []) rfl rfl rfl rfl rfl rfl (args_v [.int (nI v)] [] rfl rfl (Nat.le_of_ble_eq_true rfl) rfl h01 (Nat.le_of_ble_eq_true rfl)) (rc_reqDir h01 rfl hT1.1 rfl hT1.2.1 hv (nI_is2 hkd)) ?_
  refine RQ.blk 1 (pc' := 32) (lv' := [(3, .int (nI l)), (0, .ref 1), (1, .int (nI v)), (2, .int 0)]) (st' := [.ref 1]) (H' := _) (kc' := 0) (ks' := 0) rfl ?_
  refine RQ.get (ci := 11) rfl h01 rfl rfl ?_
  refine RQ.blk 2 (pc' := 37) (lv' := [(3, .int (nI l)), (0, .ref 1), (1, .int (nI v)), (2, .int 0)]) (st' := [.ref 1, .int (nI v), .ref 66]) (H' := _) (kc' := 0) (ks' := 0) rfl ?_
  refine RQ.get (ci := 11) rfl h01 rfl rfl ?_
  refine RQ.get (ci := 5) rfl h11 rfl rfl ?_
  refine RQ.blk 2 (pc' := 45) (lv' := [(3, .int (nI l)), (0, .ref 1), (1, .int (nI v)), (2, .int 0)]) (st' := [.int (nI l), .int 0, .ref 3, .int (nI v), .ref 66]) (H' := _) (kc' := 0) (ks' := 0) rfl ?_
  refine RQ.call (v := some (.int (lI (fstF (inN t.1 t.2.1 t.2.2.2.1 t.2.2.2.2.1 v (sl tb 0 l)) 1 200)))) (st' := []) rfl rfl rfl rfl rfl rfl (args_v [.int (nI l), .int 0, .ref 3, .int (nI v)] [] rfl rfl (Nat.le_of_ble_eq_true rfl) rfl hT1.1 (Nat.le_of_ble_eq_true rfl)) (rc_childNamed (a := 2) (na := 2000) (j := 0) (m := l) hT1 hk h21 (by decide) (by omega) hv) ?_
  rw [hch]
  rw [show lI none = -1 from rfl]
  refine RQ.brT rfl rfl rfl (by decide) ?_
  refine RQ.blk 1 (pc' := 63) (lv' := [(3, .int (nI l)), (0, .ref 1), (1, .int (nI v)), (2, .int 0)]) (st' := [.ref 1]) (H' := _) (kc' := 0) (ks' := 0) rfl ?_
  refine RQ.get (ci := 11) rfl h01 rfl rfl ?_
  refine RQ.call (v := some (.int (lI (fstF (fun v => decide (t.1 v = 0)) 1 200)))) (st' := []) rfl rfl rfl rfl rfl rfl (args_v [] [] rfl rfl (Nat.le_of_ble_eq_true rfl) rfl hT1.1 (Nat.le_of_ble_eq_true rfl)) (rc_leastUnused hT1 hk) ?_
  rw [hlu]
  rw [show lI (some r) = nI r from rfl]
  have hr := fstF_lt hlu
  refine RQ.blk 2 (pc' := 73) (lv' := [(4, .int (nI r)), (3, .int (nI l)), (0, .ref 1), (1, .int (nI v)), (2, .int 0)]) (st' := [.int (nI r)]) (H' := _) (kc' := 0) (ks' := 0) rfl ?_
  refine RQ.brT rfl rfl rfl (cT_ge r 0) ?_
  refine RQ.blk 1 (pc' := 88) (lv' := [(4, .int (nI r)), (3, .int (nI l)), (0, .ref 1), (1, .int (nI v)), (2, .int 0)]) (st' := [.int 0]) (H' := _) (kc' := 0) (ks' := 0) rfl ?_
  refine RQ.brT rfl rfl rfl (by decide) ?_
  refine RQ.blk 2 (pc' := 98) (lv' := [(5, .int 1), (4, .int (nI r)), (3, .int (nI l)), (0, .ref 1), (1, .int (nI v)), (2, .int 0)]) (st' := []) (H' := _) (kc' := 0) (ks' := 0) rfl ?_
  obtain ⟨⟨ws0, hb0⟩, Q0, hq0⟩ := hc1.2.2.2.2.2.2.2.2.1
  obtain ⟨D0, S0, K0, E0, hb0A, -⟩ := id hb0
  refine RQ.blk 1 (pc' := 99) (lv' := [(5, .int 1), (4, .int (nI r)), (3, .int (nI l)), (0, .ref 1), (1, .int (nI v)), (2, .int 0)]) (st' := [.ref 1]) (H' := _) (kc' := 0) (ks' := 0) rfl ?_
  refine RQ.get (ci := 11) rfl h01 rfl rfl ?_
  refine RQ.callN (st' := []) rfl rfl rfl rfl rfl rfl (args_v [] [] rfl rfl (Nat.le_of_ble_eq_true rfl) rfl hb0A.1 (Nat.le_of_ble_eq_true rfl)) (rn_bclearI hb0) (fun H2 hx2 => ?_)
  obtain ⟨hb2, f2⟩ := hx2
  have h02 := (f2 0 (by decide)).trans h01
  have h12 := (f2 1 (by decide)).trans h11
  have h22 := (f2 2 (by decide)).trans h21
  have hT2 : TreeAt H2 t.1 t.2.1 t.2.2.1 t.2.2.2.1 t.2.2.2.2.1 t.2.2.2.2.2 := hT1.far (fun a a1 a2 => f2 a (by omega))
  have hq2 := (f2 64 (by decide)).trans hq0
  have e52 : ∃ q : Nat, H2[5]? = some (kO 5 [.ref 7, .int (nI q)]) := ⟨q5, (f2 5 (by decide)).trans ((far1 5 (by decide)).trans h5)⟩
  have e62 : ∃ g, H2[6]? = some (kB 41 g) := ⟨p6, (f2 6 (by decide)).trans ((far1 6 (by decide)).trans h6)⟩
  refine RQ.blk 6 (pc' := 113) (lv' := [(5, .int 1), (4, .int (nI r)), (3, .int (nI l)), (0, .ref 1), (1, .int (nI v)), (2, .int 0)]) (st' := [.ref 1, .int 0, .int (nI v), .int 1, .int (nI r), .ref 1]) (H' := _) (kc' := 0) (ks' := 0) rfl ?_
  refine RQ.get (ci := 11) rfl h02 rfl rfl ?_
  refine RQ.get (ci := 5) rfl h12 rfl rfl ?_
  refine RQ.blk 2 (pc' := 121) (lv' := [(5, .int 1), (4, .int (nI r)), (3, .int (nI l)), (0, .ref 1), (1, .int (nI v)), (2, .int 0)]) (st' := [.int (nI l), .int 0, .ref 3, .int 0, .int (nI v), .int 1, .int (nI r), .ref 1]) (H' := _) (kc' := 0) (ks' := 0) rfl ?_
  refine RQ.callN (st' := []) rfl rfl rfl rfl rfl rfl (args_v [.int (nI l), .int 0, .ref 3, .int 0, .int (nI v), .int 1, .int (nI r)] [] rfl rfl (Nat.le_of_ble_eq_true rfl) rfl h02 (Nat.le_of_ble_eq_true rfl)) (rn_chNode (v := r) (k := 1) (dir := v) (s := 0) (a := 2) (na := 2000) (i := 0) (n := l) h02 e52 e62 hb2 h22 (by decide) (by decide) (by decide) (by decide) (by omega) (by omega) (by decide) (by omega) (by decide) hl2 (by decide) (by show 0 + 6 + l ≤ 4100; omega)) (fun H3 hx3 => ?_)
  obtain ⟨hb3, e53, e63, f3⟩ := hx3
  have hb3 : BatchIs H3 59 [([1, r], some ([1, v] ++ (beB 2 0 ++ sl tb 0 l)))] := hb3
  have f13 : ∀ a, a ≠ 5 → a ≠ 6 → ¬ (59 ≤ a ∧ a < 64) → H3[a]? = H1[a]? := fun a a1 a2 a3 => (f3 a a1 a2 a3).trans (f2 a (by omega))
  have hc3 : ClsA H3 B P 1 1 1 cp cb tb 0 g rl wss t := by
    obtain ⟨qa, ea⟩ := e53
    obtain ⟨pa, eb⟩ := e63
    obtain ⟨c0, c1, c2, c3, c4, -, ⟨wq2, c10, cwq⟩, cW, -, cT⟩ := hc1
    exact ⟨(f13 0 (by decide) (by decide) (by decide)).trans c0, (f13 1 (by decide) (by decide) (by decide)).trans c1, (f13 2 (by decide) (by decide) (by decide)).trans c2, (f13 3 (by decide) (by decide) (by decide)).trans c3, (f13 4 (by decide) (by decide) (by decide)).trans c4, ⟨qa, pa, ea, eb⟩, ⟨wq2, (f13 10 (by decide) (by decide) (by decide)).trans c10, cwq⟩, fun t ht => ⟨(cW t ht).1.keep (fun a a1 a2 => f13 a (by omega) (by omega) (by omega)), (cW t ht).2.imp (fun Q hQ => (f13 _ (by omega) (by omega) (by omega)).trans hQ)⟩, ⟨⟨_, hb3⟩, Q0, (f3 64 (by decide) (by decide) (by decide)).trans hq2⟩, cT.far (fun a a1 a2 => f13 a (by omega) (by omega) (by omega))⟩
  have fk3 : FrK H H3 := fk1.trans (fun a ha => f13 a (by omega) (by omega) (by omega))
  have hch3 : ChB H H3 B P 1 1 cp cb tb 0 g rl wss t [([1, r], some ([1, v] ++ (beB 2 0 ++ sl tb 0 l)))] := ⟨hc3, hb3, fk3⟩
  obtain ⟨D3, S3, K3, E3, hb3A, hb3L, hb340, hb341⟩ := id hb3
  have hb3k := hb3L.ok hb340 hb341
  have h03 := hc3.1
  have h13 := hc3.2.1
  have h23 := hc3.2.2.1
  have hT3 : TreeAt H3 t.1 t.2.1 t.2.2.1 t.2.2.2.1 t.2.2.2.2.1 t.2.2.2.2.2 := hc3.2.2.2.2.2.2.2.2.2
  refine RQ.blk 2 (pc' := 126) (lv' := [(5, .int 1), (4, .int (nI r)), (3, .int (nI l)), (0, .ref 1), (1, .int (nI v)), (2, .int 0)]) (st' := [.ref 1, .ref 1]) (H' := _) (kc' := 0) (ks' := 0) rfl ?_
  refine RQ.get (ci := 11) rfl h03 rfl rfl ?_
  refine RQ.blk 1 (pc' := 130) (lv' := [(5, .int 1), (4, .int (nI r)), (3, .int (nI l)), (0, .ref 1), (1, .int (nI v)), (2, .int 0)]) (st' := [.int (-1), .ref 60, .ref 1]) (H' := _) (kc' := 0) (ks' := 0) rfl ?_
  obtain ⟨kf, kl, mo, pl, le, al, od, sp, sz, ss, ac, hA, hVW, hvs⟩ := (hV.far (fun a a1 a2 => fk3 a (by omega)) : VersIs H3 N vs)
  refine RQ.call (v := none) (st' := []) rfl rfl rfl rfl rfl rfl (args_v [.int (-1), .ref 60] [] rfl rfl (Nat.le_of_ble_eq_true rfl) rfl h03 (Nat.le_of_ble_eq_true rfl)) (rc_reqRoom h03 hA hVW hvs hb3A hb3k hb3L (hs.far2 (fun a a1 a2 => fk3 a (by omega))) (fun t ht => Nat.lt_trans (hsm t ht) (by decide)) (fun i hi => by obtain ⟨e, he⟩ := lt_get hi; rw [(hb3L i e he).2.1]; exact (by obtain e2 := List.mem_singleton.mp (List.mem_of_getElem? he); rw [e2]; show 1 ≤ 2; decide)) (fun i j e f h1 h2 _ => by have := get_lt h1; have := get_lt h2; have q1 : i < 1 := get_lt h1; have q2 : j < 1 := get_lt h2; omega) hpr (by omega) hB hle) ?_
  refine RQ.blk 2 (pc' := 135) (lv' := [(5, .int 1), (4, .int (nI r)), (3, .int (nI l)), (0, .ref 1), (1, .int (nI v)), (2, .int 0)]) (st' := [.ref 1, .ref 1]) (H' := _) (kc' := 0) (ks' := 0) rfl ?_
  refine RQ.get (ci := 11) rfl h03 rfl rfl ?_
  refine RQ.get (ci := 0) rfl hb3A.1 rfl rfl ?_
  refine RQ.blk 2 (pc' := 143) (lv' := [(5, .int 1), (4, .int (nI r)), (3, .int (nI l)), (0, .ref 1), (1, .int (nI v)), (2, .int 0)]) (st' := [.int (nI (([([1, r], some ([1, v] ++ (beB 2 0 ++ sl tb 0 l)))]).length) + 1), .ref 1]) (H' := _) (kc' := 0) (ks' := 0) rfl ?_
  rw [show (nI (([([1, r], some ([1, v] ++ (beB 2 0 ++ sl tb 0 l)))]).length) + 1 : Int32) = nI (([([1, r], some ([1, v] ++ (beB 2 0 ++ sl tb 0 l)))]).length + 1) from nI_add (([([1, r], some ([1, v] ++ (beB 2 0 ++ sl tb 0 l)))]).length) 1]
  refine RQ.call (v := none) (st' := []) rfl rfl rfl rfl rfl rfl (args_v [.int (nI (([([1, r], some ([1, v] ++ (beB 2 0 ++ sl tb 0 l)))]).length + 1))] [] rfl rfl (Nat.le_of_ble_eq_true rfl) rfl h03 (Nat.le_of_ble_eq_true rfl)) (rc_armCutL h03) ?_
  refine RQ.blk 2 (pc' := 148) (lv' := [(5, .int 1), (4, .int (nI r)), (3, .int (nI l)), (0, .ref 1), (1, .int (nI v)), (2, .int 0)]) (st' := [.ref 1, .ref 1]) (H' := _) (kc' := 0) (ks' := 0) rfl ?_
  refine RQ.callB (st' := [.ref 1]) rfl rfl rfl rfl rfl rfl (args_v [] [.ref 1] rfl rfl (Nat.le_of_ble_eq_true rfl) rfl h03 (Nat.le_of_ble_eq_true rfl)) (hRM H3 hch3) (fun H4 hH4 => ?_) (fun H4 hH4 => False.elim hH4)
  · have g1 := hf1 H4 hH4
    refine RQ.brF rfl rfl rfl (by decide) ?_
    refine RQ.blk 2 (pc' := 156) (lv' := [(5, .int 1), (4, .int (nI r)), (3, .int (nI l)), (0, .ref 1), (1, .int (nI v)), (2, .int 0)]) (st' := [.ref 1, .ref 1, .ref 1]) (H' := _) (kc' := 0) (ks' := 0) rfl ?_
    refine RQ.get (ci := 11) rfl g1 rfl rfl ?_
    refine RQ.callB (st' := [.ref 1]) rfl rfl rfl rfl rfl rfl (args_v [.ref 60] [.ref 1] rfl rfl (Nat.le_of_ble_eq_true rfl) rfl g1 (Nat.le_of_ble_eq_true rfl)) (hST H4 hH4) (fun H5 hH5 => ?_) (fun H5 hH5 => False.elim hH5)
    · have g2 := hf2 H5 hH5
      refine RQ.brF rfl rfl rfl (by decide) ?_
      refine RQ.blk 2 (pc' := 170) (lv' := [(5, .int 1), (4, .int (nI r)), (3, .int (nI l)), (0, .ref 1), (1, .int (nI v)), (2, .int 0)]) (st' := [.int 1, .ref 1]) (H' := _) (kc' := 0) (ks' := 0) rfl ?_
      obtain ⟨HX, hxX, hpX⟩ := hSE H5 hH5
      exact RQ.callP (st' := []) rfl rfl rfl rfl rfl rfl (args_v [.int 1] [] rfl rfl (Nat.le_of_ble_eq_true rfl) rfl g2 (Nat.le_of_ble_eq_true rfl)) hxX rfl ⟨_, 1, by decide, rfl, hpX⟩
set_option maxRecDepth 20000 in
theorem rx_make0_cut {sc : Nat × (Nat → Int32)} {d : Nat} {H : aH} {B P : Nat}  {cp cb : Nat} {tb : Nat → Int8} {l : Nat} {g : Nat → Int8} {rl : Nat} {wss : Nat → List aE} {t : aTr} {v r : Nat} {N : Nat} {op : Nat → Bool} {sm : Nat → Nat} {vs : List aV} {ok1 bad fin : aH → Prop} (h : ClsA H B P 1 1 0 cp cb tb l g rl wss t) (hk : TreeOk t.1 t.2.1 t.2.2.1 t.2.2.2.1) (hv : v ≤ 200) (hl1 : 1 ≤ l) (hl2 : l ≤ 30) (hnm : (∀ k, k < l → ¬ btB tb l (0 + k) = 47)) (hkd : t.1 v = 2) (hch : fstF (inN t.1 t.2.1 t.2.2.2.1 t.2.2.2.2.1 v (sl tb 0 l)) 1 200 = none) (hlu : fstF (fun v => decide (t.1 v = 0)) 1 200 = some r) (hs : SightAt H op sm) (hsm : ∀ t, t < 8 → sm t < 2 ^ 30) (hV : VersIs H N vs) (hpr : ∀ v ∈ vs, v.2.1 ≤ P) (hP : P + 1 < 2 ^ 30) (hB : B ≤ 128) (hle : sumN op sm (-1) (P + 1) (kmV (inclV (P + 1) (fun _ => 0) 0 ([([1, r], some ([1, v] ++ (beB 2 0 ++ sl tb 0 l)))]) vs)) (inclV (P + 1) (fun _ => 0) 0 ([([1, r], some ([1, v] ++ (beB 2 0 ++ sl tb 0 l)))]) vs) ≤ B * 256) (hC0 : ∀ H', ChB H H' B P 1 0 cp cb tb 0 g rl wss t ([([1, r], some ([1, v] ++ (beB 2 0 ++ sl tb 0 l)))]) → ∃ cf tf pq bb, ChipAt H' B cf tf pq bb 0) (hcp : cp < 2 ^ 31) (hRM : ∀ H', ChB H H' B P 1 0 cp cb tb 0 g rl wss t ([([1, r], some ([1, v] ++ (beB 2 0 ++ sl tb 0 l)))]) → RB sc (d + 7) mr_96 [.ref 1] (H'.set 71 (kO 1 [.ref 73, .ref 74, .int (lI (some (cp % (([([1, r], some ([1, v] ++ (beB 2 0 ++ sl tb 0 l)))]).length + 1)))), .int (nI cb), .int (nI 0)])) ok1 bad) (hST : ∀ H', ok1 H' → RB sc (d + 7) mr_150 [.ref 1, .ref 60] H' (fun _ => False) bad) (hf1 : ∀ H', ok1 H' → H'[0]? = some (kO 11 (fvs (nI B) (nI P) 1 1 0 (nI cp) (nI cb)))) (hSB : ∀ H', bad H' → RX sc (d + 7) mr_153 [.ref 1, .int 0] H' 1 fin) (hfb : ∀ H', bad H' → H'[0]? = some (kO 11 (fvs (nI B) (nI P) 1 1 0 (nI cp) (nI cb)))) : RXc sc (d + 8) mr_215 [.ref 1, .int (nI v), .int 0] H 1 (fun H' => fin H') := by
  obtain ⟨h0, h1, h2, h3, h4, ⟨q5, p6, h5, h6⟩, ⟨wq, h10, hwq⟩, hW, hCh, hT⟩ := id h
  refine RXc.of ?_
  refine RQ.blk 2 (pc' := 2) (lv' := [(0, .ref 1), (1, .int (nI v)), (2, .int 0)]) (st' := [.int (nI v), .ref 1]) (H' := _) (kc' := 0) (ks' := 0) rfl ?_
  refine RQ.call (v := none) (st' := []) rfl rfl rfl rfl rfl rfl (args_v [.int (nI v)] [] rfl rfl (Nat.le_of_ble_eq_true rfl) rfl h0 (Nat.le_of_ble_eq_true rfl)) (rc_reqNum h0 hv) ?_
  refine RQ.blk 3 (pc' := 8) (lv' := [(0, .ref 1), (1, .int (nI v)), (2, .int 0)]) (st' := [.ref 1, .int 0, .ref 1]) (H' := _) (kc' := 0) (ks' := 0) rfl ?_
  refine RQ.get (ci := 11) rfl h0 rfl rfl ?_
  refine RQ.get (ci := 5) rfl h1 rfl rfl ?_
  refine RQ.call (v := none) (st' := []) rfl rfl rfl rfl rfl rfl (args_v [.int (nI l), .int 0] [] rfl rfl (Nat.le_of_ble_eq_true rfl) rfl h0 (Nat.le_of_ble_eq_true rfl)) (rc_requireName1 (i := 0) h0 ⟨h1, h2, by decide, by decide⟩ (by omega) (by decide) hl1 hl2 hnm) ?_
  refine RQ.blk 1 (pc' := 18) (lv' := [(0, .ref 1), (1, .int (nI v)), (2, .int 0)]) (st' := [.ref 1]) (H' := _) (kc' := 0) (ks' := 0) rfl ?_
  refine RQ.call (v := none) (st' := []) rfl rfl rfl rfl rfl rfl (args_v [] [] rfl rfl (Nat.le_of_ble_eq_true rfl) rfl h0 (Nat.le_of_ble_eq_true rfl)) (rc_up h0 rfl) ?_
  refine RQ.blk 1 (pc' := 22) (lv' := [(0, .ref 1), (1, .int (nI v)), (2, .int 0)]) (st' := [.ref 1]) (H' := _) (kc' := 0) (ks' := 0) rfl ?_
  refine RQ.call (v := some (.int (nI l))) (st' := []) rfl rfl rfl rfl rfl rfl (args_v [] [] rfl rfl (Nat.le_of_ble_eq_true rfl) rfl h0 (Nat.le_of_ble_eq_true rfl)) (rc_takeTape h0 h1) ?_
  have far1 : ∀ a, a ≠ 1 → (H.set 1 (kO 5 [.ref 3, .int (nI 0)]))[a]? = H[a]? := fun a ha => set_far ha
  have h11 : (H.set 1 (kO 5 [.ref 3, .int (nI 0)]))[1]? = some (kO 5 [.ref 3, .int (nI 0)]) := get_set h1
  refine RQ.blk 1 (pc' := 26) (lv' := [(3, .int (nI l)), (0, .ref 1), (1, .int (nI v)), (2, .int 0)]) (st' := []) (H' := _) (kc' := 0) (ks' := 0) rfl ?_
  show RQ _ _ _ 26 [(3, .int (nI l)), (0, .ref 1), (1, .int (nI v)), (2, .int 0)] [] (H.set 1 (kO 5 [.ref 3, .int (nI 0)])) 0 0 _
  generalize (H.set 1 (kO 5 [.ref 3, .int (nI 0)])) = H1 at far1 h11 ⊢
  have h01 := (far1 0 (by decide)).trans h0
  have h21 := (far1 2 (by decide)).trans h2
  have hT1 : TreeAt H1 t.1 t.2.1 t.2.2.1 t.2.2.2.1 t.2.2.2.2.1 t.2.2.2.2.2 := hT.far (fun a a1 a2 => far1 a (by omega))
  have hc1 : ClsA H1 B P 1 1 0 cp cb tb 0 g rl wss t := h.small h01 h11 h21 ((far1 3 (by decide)).trans h3) ((far1 4 (by decide)).trans h4) ⟨q5, p6, (far1 5 (by decide)).trans h5, (far1 6 (by decide)).trans h6⟩ (fun a a1 a2 => far1 a (by omega))
  have fk1 : FrK H H1 := fun a ha => far1 a (by omega)
  refine RQ.blk 2 (pc' := 28) (lv' := [(3, .int (nI l)), (0, .ref 1), (1, .int (nI v)), (2, .int 0)]) (st' := [.int (nI v), .ref 1]) (H' := _) (kc' := 0) (ks' := 0) rfl ?_
  refine RQ.call (v := none) (st' := []) rfl rfl rfl rfl rfl rfl (args_v [.int (nI v)] [] rfl rfl (Nat.le_of_ble_eq_true rfl) rfl h01 (Nat.le_of_ble_eq_true rfl)) (rc_reqDir h01 rfl hT1.1 rfl hT1.2.1 hv (nI_is2 hkd)) ?_
  refine RQ.blk 1 (pc' := 32) (lv' := [(3, .int (nI l)), (0, .ref 1), (1, .int (nI v)), (2, .int 0)]) (st' := [.ref 1]) (H' := _) (kc' := 0) (ks' := 0) rfl ?_
  refine RQ.get (ci := 11) rfl h01 rfl rfl ?_
  refine RQ.blk 2 (pc' := 37) (lv' := [(3, .int (nI l)), (0, .ref 1), (1, .int (nI v)), (2, .int 0)]) (st' := [.ref 1, .int (nI v), .ref 66]) (H' := _) (kc' := 0) (ks' := 0) rfl ?_
  refine RQ.get (ci := 11) rfl h01 rfl rfl ?_
  refine RQ.get (ci := 5) rfl h11 rfl rfl ?_
  refine RQ.blk 2 (pc' := 45) (lv' := [(3, .int (nI l)), (0, .ref 1), (1, .int (nI v)), (2, .int 0)]) (st' := [.int (nI l), .int 0, .ref 3, .int (nI v), .ref 66]) (H' := _) (kc' := 0) (ks' := 0) rfl ?_
  refine RQ.call (v := some (.int (lI (fstF (inN t.1 t.2.1 t.2.2.2.1 t.2.2.2.2.1 v (sl tb 0 l)) 1 200)))) (st' := []) rfl rfl rfl rfl rfl rfl (args_v [.int (nI l), .int 0, .ref 3, .int (nI v)] [] rfl rfl (Nat.le_of_ble_eq_true rfl) rfl hT1.1 (Nat.le_of_ble_eq_true rfl)) (rc_childNamed (a := 2) (na := 2000) (j := 0) (m := l) hT1 hk h21 (by decide) (by omega) hv) ?_
  rw [hch]
  rw [show lI none = -1 from rfl]
  refine RQ.brT rfl rfl rfl (by decide) ?_
  refine RQ.blk 1 (pc' := 63) (lv' := [(3, .int (nI l)), (0, .ref 1), (1, .int (nI v)), (2, .int 0)]) (st' := [.ref 1]) (H' := _) (kc' := 0) (ks' := 0) rfl ?_
  refine RQ.get (ci := 11) rfl h01 rfl rfl ?_
  refine RQ.call (v := some (.int (lI (fstF (fun v => decide (t.1 v = 0)) 1 200)))) (st' := []) rfl rfl rfl rfl rfl rfl (args_v [] [] rfl rfl (Nat.le_of_ble_eq_true rfl) rfl hT1.1 (Nat.le_of_ble_eq_true rfl)) (rc_leastUnused hT1 hk) ?_
  rw [hlu]
  rw [show lI (some r) = nI r from rfl]
  have hr := fstF_lt hlu
  refine RQ.blk 2 (pc' := 73) (lv' := [(4, .int (nI r)), (3, .int (nI l)), (0, .ref 1), (1, .int (nI v)), (2, .int 0)]) (st' := [.int (nI r)]) (H' := _) (kc' := 0) (ks' := 0) rfl ?_
  refine RQ.brT rfl rfl rfl (cT_ge r 0) ?_
  refine RQ.blk 1 (pc' := 88) (lv' := [(4, .int (nI r)), (3, .int (nI l)), (0, .ref 1), (1, .int (nI v)), (2, .int 0)]) (st' := [.int 0]) (H' := _) (kc' := 0) (ks' := 0) rfl ?_
  refine RQ.brT rfl rfl rfl (by decide) ?_
  refine RQ.blk 2 (pc' := 98) (lv' := [(5, .int 1), (4, .int (nI r)), (3, .int (nI l)), (0, .ref 1), (1, .int (nI v)), (2, .int 0)]) (st' := []) (H' := _) (kc' := 0) (ks' := 0) rfl ?_
  obtain ⟨⟨ws0, hb0⟩, Q0, hq0⟩ := hc1.2.2.2.2.2.2.2.2.1
  obtain ⟨D0, S0, K0, E0, hb0A, -⟩ := id hb0
  refine RQ.blk 1 (pc' := 99) (lv' := [(5, .int 1), (4, .int (nI r)), (3, .int (nI l)), (0, .ref 1), (1, .int (nI v)), (2, .int 0)]) (st' := [.ref 1]) (H' := _) (kc' := 0) (ks' := 0) rfl ?_
  refine RQ.get (ci := 11) rfl h01 rfl rfl ?_
  refine RQ.callN (st' := []) rfl rfl rfl rfl rfl rfl (args_v [] [] rfl rfl (Nat.le_of_ble_eq_true rfl) rfl hb0A.1 (Nat.le_of_ble_eq_true rfl)) (rn_bclearI hb0) (fun H2 hx2 => ?_)
  obtain ⟨hb2, f2⟩ := hx2
  have h02 := (f2 0 (by decide)).trans h01
  have h12 := (f2 1 (by decide)).trans h11
  have h22 := (f2 2 (by decide)).trans h21
  have hT2 : TreeAt H2 t.1 t.2.1 t.2.2.1 t.2.2.2.1 t.2.2.2.2.1 t.2.2.2.2.2 := hT1.far (fun a a1 a2 => f2 a (by omega))
  have hq2 := (f2 64 (by decide)).trans hq0
  have e52 : ∃ q : Nat, H2[5]? = some (kO 5 [.ref 7, .int (nI q)]) := ⟨q5, (f2 5 (by decide)).trans ((far1 5 (by decide)).trans h5)⟩
  have e62 : ∃ g, H2[6]? = some (kB 41 g) := ⟨p6, (f2 6 (by decide)).trans ((far1 6 (by decide)).trans h6)⟩
  refine RQ.blk 6 (pc' := 113) (lv' := [(5, .int 1), (4, .int (nI r)), (3, .int (nI l)), (0, .ref 1), (1, .int (nI v)), (2, .int 0)]) (st' := [.ref 1, .int 0, .int (nI v), .int 1, .int (nI r), .ref 1]) (H' := _) (kc' := 0) (ks' := 0) rfl ?_
  refine RQ.get (ci := 11) rfl h02 rfl rfl ?_
  refine RQ.get (ci := 5) rfl h12 rfl rfl ?_
  refine RQ.blk 2 (pc' := 121) (lv' := [(5, .int 1), (4, .int (nI r)), (3, .int (nI l)), (0, .ref 1), (1, .int (nI v)), (2, .int 0)]) (st' := [.int (nI l), .int 0, .ref 3, .int 0, .int (nI v), .int 1, .int (nI r), .ref 1]) (H' := _) (kc' := 0) (ks' := 0) rfl ?_
  refine RQ.callN (st' := []) rfl rfl rfl rfl rfl rfl (args_v [.int (nI l), .int 0, .ref 3, .int 0, .int (nI v), .int 1, .int (nI r)] [] rfl rfl (Nat.le_of_ble_eq_true rfl) rfl h02 (Nat.le_of_ble_eq_true rfl)) (rn_chNode (v := r) (k := 1) (dir := v) (s := 0) (a := 2) (na := 2000) (i := 0) (n := l) h02 e52 e62 hb2 h22 (by decide) (by decide) (by decide) (by decide) (by omega) (by omega) (by decide) (by omega) (by decide) hl2 (by decide) (by show 0 + 6 + l ≤ 4100; omega)) (fun H3 hx3 => ?_)
  obtain ⟨hb3, e53, e63, f3⟩ := hx3
  have hb3 : BatchIs H3 59 [([1, r], some ([1, v] ++ (beB 2 0 ++ sl tb 0 l)))] := hb3
  have f13 : ∀ a, a ≠ 5 → a ≠ 6 → ¬ (59 ≤ a ∧ a < 64) → H3[a]? = H1[a]? := fun a a1 a2 a3 => (f3 a a1 a2 a3).trans (f2 a (by omega))
  have hc3 : ClsA H3 B P 1 1 0 cp cb tb 0 g rl wss t := by
    obtain ⟨qa, ea⟩ := e53
    obtain ⟨pa, eb⟩ := e63
    obtain ⟨c0, c1, c2, c3, c4, -, ⟨wq2, c10, cwq⟩, cW, -, cT⟩ := hc1
    exact ⟨(f13 0 (by decide) (by decide) (by decide)).trans c0, (f13 1 (by decide) (by decide) (by decide)).trans c1, (f13 2 (by decide) (by decide) (by decide)).trans c2, (f13 3 (by decide) (by decide) (by decide)).trans c3, (f13 4 (by decide) (by decide) (by decide)).trans c4, ⟨qa, pa, ea, eb⟩, ⟨wq2, (f13 10 (by decide) (by decide) (by decide)).trans c10, cwq⟩, fun t ht => ⟨(cW t ht).1.keep (fun a a1 a2 => f13 a (by omega) (by omega) (by omega)), (cW t ht).2.imp (fun Q hQ => (f13 _ (by omega) (by omega) (by omega)).trans hQ)⟩, ⟨⟨_, hb3⟩, Q0, (f3 64 (by decide) (by decide) (by decide)).trans hq2⟩, cT.far (fun a a1 a2 => f13 a (by omega) (by omega) (by omega))⟩
  have fk3 : FrK H H3 := fk1.trans (fun a ha => f13 a (by omega) (by omega) (by omega))
  have hch3 : ChB H H3 B P 1 0 cp cb tb 0 g rl wss t [([1, r], some ([1, v] ++ (beB 2 0 ++ sl tb 0 l)))] := ⟨hc3, hb3, fk3⟩
  obtain ⟨D3, S3, K3, E3, hb3A, hb3L, hb340, hb341⟩ := id hb3
  have hb3k := hb3L.ok hb340 hb341
  have h03 := hc3.1
  have h13 := hc3.2.1
  have h23 := hc3.2.2.1
  have hT3 : TreeAt H3 t.1 t.2.1 t.2.2.1 t.2.2.2.1 t.2.2.2.2.1 t.2.2.2.2.2 := hc3.2.2.2.2.2.2.2.2.2
  refine RQ.blk 2 (pc' := 126) (lv' := [(5, .int 1), (4, .int (nI r)), (3, .int (nI l)), (0, .ref 1), (1, .int (nI v)), (2, .int 0)]) (st' := [.ref 1, .ref 1]) (H' := _) (kc' := 0) (ks' := 0) rfl ?_
  refine RQ.get (ci := 11) rfl h03 rfl rfl ?_
  refine RQ.blk 1 (pc' := 130) (lv' := [(5, .int 1), (4, .int (nI r)), (3, .int (nI l)), (0, .ref 1), (1, .int (nI v)), (2, .int 0)]) (st' := [.int (-1), .ref 60, .ref 1]) (H' := _) (kc' := 0) (ks' := 0) rfl ?_
  obtain ⟨kf, kl, mo, pl, le, al, od, sp, sz, ss, ac, hA, hVW, hvs⟩ := (hV.far (fun a a1 a2 => fk3 a (by omega)) : VersIs H3 N vs)
  refine RQ.call (v := none) (st' := []) rfl rfl rfl rfl rfl rfl (args_v [.int (-1), .ref 60] [] rfl rfl (Nat.le_of_ble_eq_true rfl) rfl h03 (Nat.le_of_ble_eq_true rfl)) (rc_reqRoom h03 hA hVW hvs hb3A hb3k hb3L (hs.far2 (fun a a1 a2 => fk3 a (by omega))) (fun t ht => Nat.lt_trans (hsm t ht) (by decide)) (fun i hi => by obtain ⟨e, he⟩ := lt_get hi; rw [(hb3L i e he).2.1]; exact (by obtain e2 := List.mem_singleton.mp (List.mem_of_getElem? he); rw [e2]; show 1 ≤ 2; decide)) (fun i j e f h1 h2 _ => by have := get_lt h1; have := get_lt h2; have q1 : i < 1 := get_lt h1; have q2 : j < 1 := get_lt h2; omega) hpr (by omega) hB hle) ?_
  refine RQ.blk 2 (pc' := 135) (lv' := [(5, .int 1), (4, .int (nI r)), (3, .int (nI l)), (0, .ref 1), (1, .int (nI v)), (2, .int 0)]) (st' := [.ref 1, .ref 1]) (H' := _) (kc' := 0) (ks' := 0) rfl ?_
  refine RQ.get (ci := 11) rfl h03 rfl rfl ?_
  refine RQ.get (ci := 0) rfl hb3A.1 rfl rfl ?_
  refine RQ.blk 2 (pc' := 143) (lv' := [(5, .int 1), (4, .int (nI r)), (3, .int (nI l)), (0, .ref 1), (1, .int (nI v)), (2, .int 0)]) (st' := [.int (nI (([([1, r], some ([1, v] ++ (beB 2 0 ++ sl tb 0 l)))]).length) + 1), .ref 1]) (H' := _) (kc' := 0) (ks' := 0) rfl ?_
  rw [show (nI (([([1, r], some ([1, v] ++ (beB 2 0 ++ sl tb 0 l)))]).length) + 1 : Int32) = nI (([([1, r], some ([1, v] ++ (beB 2 0 ++ sl tb 0 l)))]).length + 1) from nI_add (([([1, r], some ([1, v] ++ (beB 2 0 ++ sl tb 0 l)))]).length) 1]
  obtain ⟨cf, tf, pq, bb, hC3⟩ := hC0 H3 hch3
  refine RQ.call (v := none) (st' := []) rfl rfl rfl rfl rfl rfl (args_v [.int (nI (([([1, r], some ([1, v] ++ (beB 2 0 ++ sl tb 0 l)))]).length + 1))] [] rfl rfl (Nat.le_of_ble_eq_true rfl) rfl h03 (Nat.le_of_ble_eq_true rfl)) (rc_armCutM (n := ([([1, r], some ([1, v] ++ (beB 2 0 ++ sl tb 0 l)))]).length + 1) h03 hC3 (by omega) (by show ([([1, r], some ([1, v] ++ (beB 2 0 ++ sl tb 0 l)))]).length + 1 < 2 ^ 31; omega) hcp) ?_
  refine RQ.blk 2 (pc' := 148) (lv' := [(5, .int 1), (4, .int (nI r)), (3, .int (nI l)), (0, .ref 1), (1, .int (nI v)), (2, .int 0)]) (st' := [.ref 1, .ref 1]) (H' := _) (kc' := 0) (ks' := 0) rfl ?_
  have hRM3 := hRM H3 hch3
  generalize hHA : (H3.set 71 (kO 1 [.ref 73, .ref 74, .int (lI (some (cp % (([([1, r], some ([1, v] ++ (beB 2 0 ++ sl tb 0 l)))]).length + 1)))), .int (nI cb), .int (nI 0)])) = HA at hRM3 ⊢
  have g0 : HA[0]? = some (kO 11 (fvs (nI B) (nI P) 1 1 0 (nI cp) (nI cb))) := by rw [← hHA]; exact (set_far (by decide)).trans h03
  refine RQ.callB (st' := [.ref 1]) rfl rfl rfl rfl rfl rfl (args_v [] [.ref 1] rfl rfl (Nat.le_of_ble_eq_true rfl) rfl g0 (Nat.le_of_ble_eq_true rfl)) hRM3 (fun H4 hH4 => ?_) (fun H4 hH4 => ?_)
  · have g1 := hf1 H4 hH4
    refine RQ.brF rfl rfl rfl (by decide) ?_
    refine RQ.blk 2 (pc' := 156) (lv' := [(5, .int 1), (4, .int (nI r)), (3, .int (nI l)), (0, .ref 1), (1, .int (nI v)), (2, .int 0)]) (st' := [.ref 1, .ref 1, .ref 1]) (H' := _) (kc' := 0) (ks' := 0) rfl ?_
    refine RQ.get (ci := 11) rfl g1 rfl rfl ?_
    refine RQ.callB (st' := [.ref 1]) rfl rfl rfl rfl rfl rfl (args_v [.ref 60] [.ref 1] rfl rfl (Nat.le_of_ble_eq_true rfl) rfl g1 (Nat.le_of_ble_eq_true rfl)) (hST H4 hH4) (fun H5 hH5 => ?_) (fun H5 hH5 => ?_)
    · exact hH5.elim
    · have g2 := hfb H5 hH5
      refine RQ.brT rfl rfl rfl (by decide) ?_
      refine RQ.blk 1 (pc' := 170) (lv' := [(5, .int 1), (4, .int (nI r)), (3, .int (nI l)), (0, .ref 1), (1, .int (nI v)), (2, .int 0)]) (st' := [.int 0, .ref 1]) (H' := _) (kc' := 0 + 1) (ks' := 0 + 6) rfl ?_
      obtain ⟨HX, hxX, hpX⟩ := hSB H5 hH5
      exact RQ.callP (st' := []) rfl rfl rfl rfl rfl rfl (args_v [.int 0] [] rfl rfl (Nat.le_of_ble_eq_true rfl) rfl g2 (Nat.le_of_ble_eq_true rfl)) hxX rfl ⟨_, 2, by decide, rfl, hpX⟩
  · have g2 := hfb H4 hH4
    refine RQ.brT rfl rfl rfl (by decide) ?_
    refine RQ.blk 1 (pc' := 170) (lv' := [(5, .int 1), (4, .int (nI r)), (3, .int (nI l)), (0, .ref 1), (1, .int (nI v)), (2, .int 0)]) (st' := [.int 0, .ref 1]) (H' := _) (kc' := 0 + 1) (ks' := 0 + 6) rfl ?_
    obtain ⟨HX, hxX, hpX⟩ := hSB H4 hH4
    exact RQ.callP (st' := []) rfl rfl rfl rfl rfl rfl (args_v [.int 0] [] rfl rfl (Nat.le_of_ble_eq_true rfl) rfl g2 (Nat.le_of_ble_eq_true rfl)) hxX rfl ⟨_, 2, by decide, rfl, hpX⟩
set_option maxRecDepth 20000 in
theorem rx_make1_full {sc : Nat × (Nat → Int32)} {d : Nat} {H : aH} {B P : Nat} {cw cl : Int32} {cp cb : Nat} {tb : Nat → Int8} {l : Nat} {g : Nat → Int8} {rl : Nat} {wss : Nat → List aE} {t : aTr} {v r : Nat} {N : Nat} {op : Nat → Bool} {sm : Nat → Nat} {vs : List aV} (h : ClsA H B P 1 cw cl cp cb tb l g rl wss t) (hk : TreeOk t.1 t.2.1 t.2.2.1 t.2.2.2.1) (hv : v ≤ 200) (hl1 : 1 ≤ l) (hl2 : l ≤ 30) (hnm : (∀ k, k < l → ¬ btB tb l (0 + k) = 47)) (hkd : t.1 v = 2) (hch : fstF (inN t.1 t.2.1 t.2.2.2.1 t.2.2.2.2.1 v (sl tb 0 l)) 1 200 = none) (hlu : fstF (fun v => decide (t.1 v = 0)) 1 200 = some r) (hs : SightAt H op sm) (hsm : ∀ t, t < 8 → sm t < 2 ^ 30) (hV : VersIs H N vs) (hpr : ∀ v ∈ vs, v.2.1 ≤ P) (hP : P + 1 < 2 ^ 30) (hB : B ≤ 128) (hle : B * 256 < sumN op sm (-1) (P + 1) (kmV (inclV (P + 1) (fun _ => 0) 0 ([([1, r], some ([2, v] ++ (beB 2 0 ++ sl tb 0 l)))]) vs)) (inclV (P + 1) (fun _ => 0) 0 ([([1, r], some ([2, v] ++ (beB 2 0 ++ sl tb 0 l)))]) vs)) (hl31 : sumN op sm (-1) (P + 1) (kmV (inclV (P + 1) (fun _ => 0) 0 ([([1, r], some ([2, v] ++ (beB 2 0 ++ sl tb 0 l)))]) vs)) (inclV (P + 1) (fun _ => 0) 0 ([([1, r], some ([2, v] ++ (beB 2 0 ++ sl tb 0 l)))]) vs) < 2 ^ 31) : RX sc (d + 8) mr_215 [.ref 1, .int (nI v), .int 1] H 2 (fun H' => ClsA H' B P 1 cw cl cp cb tb 0 g rl wss t ∧ FrK H H') := by
  obtain ⟨h0, h1, h2, h3, h4, ⟨q5, p6, h5, h6⟩, ⟨wq, h10, hwq⟩, hW, hCh, hT⟩ := id h
  refine RX.of ?_
  refine RQ.blk 2 (pc' := 2) (lv' := [(0, .ref 1), (1, .int (nI v)), (2, .int 1)]) (st' := [.int (nI v), .ref 1]) (H' := _) (kc' := 0) (ks' := 0) rfl ?_
  refine RQ.call (v := none) (st' := []) rfl rfl rfl rfl rfl rfl (args_v [.int (nI v)] [] rfl rfl (Nat.le_of_ble_eq_true rfl) rfl h0 (Nat.le_of_ble_eq_true rfl)) (rc_reqNum h0 hv) ?_
  refine RQ.blk 3 (pc' := 8) (lv' := [(0, .ref 1), (1, .int (nI v)), (2, .int 1)]) (st' := [.ref 1, .int 0, .ref 1]) (H' := _) (kc' := 0) (ks' := 0) rfl ?_
  refine RQ.get (ci := 11) rfl h0 rfl rfl ?_
  refine RQ.get (ci := 5) rfl h1 rfl rfl ?_
  refine RQ.call (v := none) (st' := []) rfl rfl rfl rfl rfl rfl (args_v [.int (nI l), .int 0] [] rfl rfl (Nat.le_of_ble_eq_true rfl) rfl h0 (Nat.le_of_ble_eq_true rfl)) (rc_requireName1 (i := 0) h0 ⟨h1, h2, by decide, by decide⟩ (by omega) (by decide) hl1 hl2 hnm) ?_
  refine RQ.blk 1 (pc' := 18) (lv' := [(0, .ref 1), (1, .int (nI v)), (2, .int 1)]) (st' := [.ref 1]) (H' := _) (kc' := 0) (ks' := 0) rfl ?_
  refine RQ.call (v := none) (st' := []) rfl rfl rfl rfl rfl rfl (args_v [] [] rfl rfl (Nat.le_of_ble_eq_true rfl) rfl h0 (Nat.le_of_ble_eq_true rfl)) (rc_up h0 rfl) ?_
  refine RQ.blk 1 (pc' := 22) (lv' := [(0, .ref 1), (1, .int (nI v)), (2, .int 1)]) (st' := [.ref 1]) (H' := _) (kc' := 0) (ks' := 0) rfl ?_
  refine RQ.call (v := some (.int (nI l))) (st' := []) rfl rfl rfl rfl rfl rfl (args_v [] [] rfl rfl (Nat.le_of_ble_eq_true rfl) rfl h0 (Nat.le_of_ble_eq_true rfl)) (rc_takeTape h0 h1) ?_
  have far1 : ∀ a, a ≠ 1 → (H.set 1 (kO 5 [.ref 3, .int (nI 0)]))[a]? = H[a]? := fun a ha => set_far ha
  have h11 : (H.set 1 (kO 5 [.ref 3, .int (nI 0)]))[1]? = some (kO 5 [.ref 3, .int (nI 0)]) := get_set h1
  refine RQ.blk 1 (pc' := 26) (lv' := [(3, .int (nI l)), (0, .ref 1), (1, .int (nI v)), (2, .int 1)]) (st' := []) (H' := _) (kc' := 0) (ks' := 0) rfl ?_
  show RQ _ _ _ 26 [(3, .int (nI l)), (0, .ref 1), (1, .int (nI v)), (2, .int 1)] [] (H.set 1 (kO 5 [.ref 3, .int (nI 0)])) 0 0 _
  generalize (H.set 1 (kO 5 [.ref 3, .int (nI 0)])) = H1 at far1 h11 ⊢
  have h01 := (far1 0 (by decide)).trans h0
  have h21 := (far1 2 (by decide)).trans h2
  have hT1 : TreeAt H1 t.1 t.2.1 t.2.2.1 t.2.2.2.1 t.2.2.2.2.1 t.2.2.2.2.2 := hT.far (fun a a1 a2 => far1 a (by omega))
  have hc1 : ClsA H1 B P 1 cw cl cp cb tb 0 g rl wss t := h.small h01 h11 h21 ((far1 3 (by decide)).trans h3) ((far1 4 (by decide)).trans h4) ⟨q5, p6, (far1 5 (by decide)).trans h5, (far1 6 (by decide)).trans h6⟩ (fun a a1 a2 => far1 a (by omega))
  have fk1 : FrK H H1 := fun a ha => far1 a (by omega)
  refine RQ.blk 2 (pc' := 28) (lv' := [(3, .int (nI l)), (0, .ref 1), (1, .int (nI v)), (2, .int 1)]) (st' := [.int (nI v), .ref 1]) (H' := _) (kc' := 0) (ks' := 0) rfl ?_
  refine RQ.call (v := none) (st' := []) rfl rfl rfl rfl rfl rfl (args_v [.int (nI v)] [] rfl rfl (Nat.le_of_ble_eq_true rfl) rfl h01 (Nat.le_of_ble_eq_true rfl)) (rc_reqDir h01 rfl hT1.1 rfl hT1.2.1 hv (nI_is2 hkd)) ?_
  refine RQ.blk 1 (pc' := 32) (lv' := [(3, .int (nI l)), (0, .ref 1), (1, .int (nI v)), (2, .int 1)]) (st' := [.ref 1]) (H' := _) (kc' := 0) (ks' := 0) rfl ?_
  refine RQ.get (ci := 11) rfl h01 rfl rfl ?_
  refine RQ.blk 2 (pc' := 37) (lv' := [(3, .int (nI l)), (0, .ref 1), (1, .int (nI v)), (2, .int 1)]) (st' := [.ref 1, .int (nI v), .ref 66]) (H' := _) (kc' := 0) (ks' := 0) rfl ?_
  refine RQ.get (ci := 11) rfl h01 rfl rfl ?_
  refine RQ.get (ci := 5) rfl h11 rfl rfl ?_
  refine RQ.blk 2 (pc' := 45) (lv' := [(3, .int (nI l)), (0, .ref 1), (1, .int (nI v)), (2, .int 1)]) (st' := [.int (nI l), .int 0, .ref 3, .int (nI v), .ref 66]) (H' := _) (kc' := 0) (ks' := 0) rfl ?_
  refine RQ.call (v := some (.int (lI (fstF (inN t.1 t.2.1 t.2.2.2.1 t.2.2.2.2.1 v (sl tb 0 l)) 1 200)))) (st' := []) rfl rfl rfl rfl rfl rfl (args_v [.int (nI l), .int 0, .ref 3, .int (nI v)] [] rfl rfl (Nat.le_of_ble_eq_true rfl) rfl hT1.1 (Nat.le_of_ble_eq_true rfl)) (rc_childNamed (a := 2) (na := 2000) (j := 0) (m := l) hT1 hk h21 (by decide) (by omega) hv) ?_
  rw [hch]
  rw [show lI none = -1 from rfl]
  refine RQ.brT rfl rfl rfl (by decide) ?_
  refine RQ.blk 1 (pc' := 63) (lv' := [(3, .int (nI l)), (0, .ref 1), (1, .int (nI v)), (2, .int 1)]) (st' := [.ref 1]) (H' := _) (kc' := 0) (ks' := 0) rfl ?_
  refine RQ.get (ci := 11) rfl h01 rfl rfl ?_
  refine RQ.call (v := some (.int (lI (fstF (fun v => decide (t.1 v = 0)) 1 200)))) (st' := []) rfl rfl rfl rfl rfl rfl (args_v [] [] rfl rfl (Nat.le_of_ble_eq_true rfl) rfl hT1.1 (Nat.le_of_ble_eq_true rfl)) (rc_leastUnused hT1 hk) ?_
  rw [hlu]
  rw [show lI (some r) = nI r from rfl]
  have hr := fstF_lt hlu
  refine RQ.blk 2 (pc' := 73) (lv' := [(4, .int (nI r)), (3, .int (nI l)), (0, .ref 1), (1, .int (nI v)), (2, .int 1)]) (st' := [.int (nI r)]) (H' := _) (kc' := 0) (ks' := 0) rfl ?_
  refine RQ.brT rfl rfl rfl (cT_ge r 0) ?_
  refine RQ.blk 1 (pc' := 88) (lv' := [(4, .int (nI r)), (3, .int (nI l)), (0, .ref 1), (1, .int (nI v)), (2, .int 1)]) (st' := [.int 1]) (H' := _) (kc' := 0) (ks' := 0) rfl ?_
  refine RQ.brF rfl rfl rfl (by decide) ?_
  refine RQ.blk 3 (pc' := 98) (lv' := [(5, .int 2), (4, .int (nI r)), (3, .int (nI l)), (0, .ref 1), (1, .int (nI v)), (2, .int 1)]) (st' := []) (H' := _) (kc' := 0) (ks' := 0) rfl ?_
  obtain ⟨⟨ws0, hb0⟩, Q0, hq0⟩ := hc1.2.2.2.2.2.2.2.2.1
  obtain ⟨D0, S0, K0, E0, hb0A, -⟩ := id hb0
  refine RQ.blk 1 (pc' := 99) (lv' := [(5, .int 2), (4, .int (nI r)), (3, .int (nI l)), (0, .ref 1), (1, .int (nI v)), (2, .int 1)]) (st' := [.ref 1]) (H' := _) (kc' := 0) (ks' := 0) rfl ?_
  refine RQ.get (ci := 11) rfl h01 rfl rfl ?_
  refine RQ.callN (st' := []) rfl rfl rfl rfl rfl rfl (args_v [] [] rfl rfl (Nat.le_of_ble_eq_true rfl) rfl hb0A.1 (Nat.le_of_ble_eq_true rfl)) (rn_bclearI hb0) (fun H2 hx2 => ?_)
  obtain ⟨hb2, f2⟩ := hx2
  have h02 := (f2 0 (by decide)).trans h01
  have h12 := (f2 1 (by decide)).trans h11
  have h22 := (f2 2 (by decide)).trans h21
  have hT2 : TreeAt H2 t.1 t.2.1 t.2.2.1 t.2.2.2.1 t.2.2.2.2.1 t.2.2.2.2.2 := hT1.far (fun a a1 a2 => f2 a (by omega))
  have hq2 := (f2 64 (by decide)).trans hq0
  have e52 : ∃ q : Nat, H2[5]? = some (kO 5 [.ref 7, .int (nI q)]) := ⟨q5, (f2 5 (by decide)).trans ((far1 5 (by decide)).trans h5)⟩
  have e62 : ∃ g, H2[6]? = some (kB 41 g) := ⟨p6, (f2 6 (by decide)).trans ((far1 6 (by decide)).trans h6)⟩
  refine RQ.blk 6 (pc' := 113) (lv' := [(5, .int 2), (4, .int (nI r)), (3, .int (nI l)), (0, .ref 1), (1, .int (nI v)), (2, .int 1)]) (st' := [.ref 1, .int 0, .int (nI v), .int 2, .int (nI r), .ref 1]) (H' := _) (kc' := 0) (ks' := 0) rfl ?_
  refine RQ.get (ci := 11) rfl h02 rfl rfl ?_
  refine RQ.get (ci := 5) rfl h12 rfl rfl ?_
  refine RQ.blk 2 (pc' := 121) (lv' := [(5, .int 2), (4, .int (nI r)), (3, .int (nI l)), (0, .ref 1), (1, .int (nI v)), (2, .int 1)]) (st' := [.int (nI l), .int 0, .ref 3, .int 0, .int (nI v), .int 2, .int (nI r), .ref 1]) (H' := _) (kc' := 0) (ks' := 0) rfl ?_
  refine RQ.callN (st' := []) rfl rfl rfl rfl rfl rfl (args_v [.int (nI l), .int 0, .ref 3, .int 0, .int (nI v), .int 2, .int (nI r)] [] rfl rfl (Nat.le_of_ble_eq_true rfl) rfl h02 (Nat.le_of_ble_eq_true rfl)) (rn_chNode (v := r) (k := 2) (dir := v) (s := 0) (a := 2) (na := 2000) (i := 0) (n := l) h02 e52 e62 hb2 h22 (by decide) (by decide) (by decide) (by decide) (by omega) (by omega) (by decide) (by omega) (by decide) hl2 (by decide) (by show 0 + 6 + l ≤ 4100; omega)) (fun H3 hx3 => ?_)
  obtain ⟨hb3, e53, e63, f3⟩ := hx3
  have hb3 : BatchIs H3 59 [([1, r], some ([2, v] ++ (beB 2 0 ++ sl tb 0 l)))] := hb3
  have f13 : ∀ a, a ≠ 5 → a ≠ 6 → ¬ (59 ≤ a ∧ a < 64) → H3[a]? = H1[a]? := fun a a1 a2 a3 => (f3 a a1 a2 a3).trans (f2 a (by omega))
  have hc3 : ClsA H3 B P 1 cw cl cp cb tb 0 g rl wss t := by
    obtain ⟨qa, ea⟩ := e53
    obtain ⟨pa, eb⟩ := e63
    obtain ⟨c0, c1, c2, c3, c4, -, ⟨wq2, c10, cwq⟩, cW, -, cT⟩ := hc1
    exact ⟨(f13 0 (by decide) (by decide) (by decide)).trans c0, (f13 1 (by decide) (by decide) (by decide)).trans c1, (f13 2 (by decide) (by decide) (by decide)).trans c2, (f13 3 (by decide) (by decide) (by decide)).trans c3, (f13 4 (by decide) (by decide) (by decide)).trans c4, ⟨qa, pa, ea, eb⟩, ⟨wq2, (f13 10 (by decide) (by decide) (by decide)).trans c10, cwq⟩, fun t ht => ⟨(cW t ht).1.keep (fun a a1 a2 => f13 a (by omega) (by omega) (by omega)), (cW t ht).2.imp (fun Q hQ => (f13 _ (by omega) (by omega) (by omega)).trans hQ)⟩, ⟨⟨_, hb3⟩, Q0, (f3 64 (by decide) (by decide) (by decide)).trans hq2⟩, cT.far (fun a a1 a2 => f13 a (by omega) (by omega) (by omega))⟩
  have fk3 : FrK H H3 := fk1.trans (fun a ha => f13 a (by omega) (by omega) (by omega))
  have hch3 : ChB H H3 B P cw cl cp cb tb 0 g rl wss t [([1, r], some ([2, v] ++ (beB 2 0 ++ sl tb 0 l)))] := ⟨hc3, hb3, fk3⟩
  obtain ⟨D3, S3, K3, E3, hb3A, hb3L, hb340, hb341⟩ := id hb3
  have hb3k := hb3L.ok hb340 hb341
  have h03 := hc3.1
  have h13 := hc3.2.1
  have h23 := hc3.2.2.1
  have hT3 : TreeAt H3 t.1 t.2.1 t.2.2.1 t.2.2.2.1 t.2.2.2.2.1 t.2.2.2.2.2 := hc3.2.2.2.2.2.2.2.2.2
  refine RQ.blk 2 (pc' := 126) (lv' := [(5, .int 2), (4, .int (nI r)), (3, .int (nI l)), (0, .ref 1), (1, .int (nI v)), (2, .int 1)]) (st' := [.ref 1, .ref 1]) (H' := _) (kc' := 0) (ks' := 0) rfl ?_
  refine RQ.get (ci := 11) rfl h03 rfl rfl ?_
  refine RQ.blk 1 (pc' := 130) (lv' := [(5, .int 2), (4, .int (nI r)), (3, .int (nI l)), (0, .ref 1), (1, .int (nI v)), (2, .int 1)]) (st' := [.int (-1), .ref 60, .ref 1]) (H' := _) (kc' := 0) (ks' := 0) rfl ?_
  obtain ⟨kf, kl, mo, pl, le, al, od, sp, sz, ss, ac, hA, hVW, hvs⟩ := (hV.far (fun a a1 a2 => fk3 a (by omega)) : VersIs H3 N vs)
  exact RQ.callP (st' := []) rfl rfl rfl rfl rfl rfl (args_v [.int (-1), .ref 60] [] rfl rfl (Nat.le_of_ble_eq_true rfl) rfl h03 (Nat.le_of_ble_eq_true rfl)) (rc_reqRoomX h03 hA hVW hvs hb3A hb3k hb3L (hs.far2 (fun a a1 a2 => fk3 a (by omega))) (fun t ht => Nat.lt_trans (hsm t ht) (by decide)) (fun i hi => by obtain ⟨e, he⟩ := lt_get hi; rw [(hb3L i e he).2.1]; exact (by obtain e2 := List.mem_singleton.mp (List.mem_of_getElem? he); rw [e2]; show 1 ≤ 2; decide)) (fun i j e f h1 h2 _ => by have := get_lt h1; have := get_lt h2; have q1 : i < 1 := get_lt h1; have q2 : j < 1 := get_lt h2; omega) hpr (by omega) hB hle hl31) rfl ⟨_, rfl, hc3, fk3⟩
set_option maxRecDepth 20000 in
theorem ri_make1_ok {sc : Nat × (Nat → Int32)} {d : Nat} {H : aH} {B P : Nat} {cl : Int32} {cp cb : Nat} {tb : Nat → Int8} {l : Nat} {g : Nat → Int8} {rl : Nat} {wss : Nat → List aE} {t : aTr} {v r : Nat} {N : Nat} {op : Nat → Bool} {sm : Nat → Nat} {vs : List aV} {ok1 ok2 ok3 ok5 ok6 : aH → Prop} (h : ClsA H B P 1 0 cl cp cb tb l g rl wss t) (hk : TreeOk t.1 t.2.1 t.2.2.1 t.2.2.2.1) (hv : v ≤ 200) (hl1 : 1 ≤ l) (hl2 : l ≤ 30) (hnm : (∀ k, k < l → ¬ btB tb l (0 + k) = 47)) (hkd : t.1 v = 2) (hch : fstF (inN t.1 t.2.1 t.2.2.2.1 t.2.2.2.2.1 v (sl tb 0 l)) 1 200 = none) (hlu : fstF (fun v => decide (t.1 v = 0)) 1 200 = some r) (hs : SightAt H op sm) (hsm : ∀ t, t < 8 → sm t < 2 ^ 30) (hV : VersIs H N vs) (hpr : ∀ v ∈ vs, v.2.1 ≤ P) (hP : P + 1 < 2 ^ 30) (hB : B ≤ 128) (hle : sumN op sm (-1) (P + 1) (kmV (inclV (P + 1) (fun _ => 0) 0 ([([1, r], some ([2, v] ++ (beB 2 0 ++ sl tb 0 l)))]) vs)) (inclV (P + 1) (fun _ => 0) 0 ([([1, r], some ([2, v] ++ (beB 2 0 ++ sl tb 0 l)))]) vs) ≤ B * 256) (hRM : ∀ H', ChB H H' B P 0 cl cp cb tb 0 g rl wss t ([([1, r], some ([2, v] ++ (beB 2 0 ++ sl tb 0 l)))]) → RB sc (d + 7) mr_96 [.ref 1] H' ok1 (fun _ => False)) (hST : ∀ H', ok1 H' → RB sc (d + 7) mr_150 [.ref 1, .ref 60] H' ok2 (fun _ => False)) (hf1 : ∀ H', ok1 H' → H'[0]? = some (kO 11 (fvs (nI B) (nI P) 1 0 cl (nI cp) (nI cb)))) (hSE : ∀ H', ok2 H' → RN sc (d + 7) mr_153 [.ref 1, .int 1] H' ok3) (hIN : ∀ H', ok3 H' → RN sc (d + 7) mr_160 [.ref 1, .ref 60] H' ok5) (hTS : ∀ H', ok5 H' → RN sc (d + 7) mr_191 [.ref 66, .int (nI r), .int 2, .int (nI v), .int 0, .ref 3, .int 0, .int (nI l)] H' ok6) (hf2 : ∀ H', ok2 H' → H'[0]? = some (kO 11 (fvs (nI B) (nI P) 1 0 cl (nI cp) (nI cb)))) (hf3 : ∀ H', ok3 H' → H'[0]? = some (kO 11 (fvs (nI B) (nI P) 1 0 cl (nI cp) (nI cb)))) (hf5 : ∀ H', ok5 H' → H'[0]? = some (kO 11 (fvs (nI B) (nI (P + 1)) 1 0 cl (nI cp) (nI cb))) ∧ (∃ fs, H'[65]? = some (kO 9 fs)) ∧ ∃ lx : Nat, H'[1]? = some (kO 5 [.ref 3, .int (nI lx)])) : RI sc (d + 8) mr_215 [.ref 1, .int (nI v), .int 1] H (fun x H' => x = nI r ∧ ok6 H') := by
  obtain ⟨h0, h1, h2, h3, h4, ⟨q5, p6, h5, h6⟩, ⟨wq, h10, hwq⟩, hW, hCh, hT⟩ := id h
  refine RI.of ?_
  refine RQ.blk 2 (pc' := 2) (lv' := [(0, .ref 1), (1, .int (nI v)), (2, .int 1)]) (st' := [.int (nI v), .ref 1]) (H' := _) (kc' := 0) (ks' := 0) rfl ?_
  refine RQ.call (v := none) (st' := []) rfl rfl rfl rfl rfl rfl (args_v [.int (nI v)] [] rfl rfl (Nat.le_of_ble_eq_true rfl) rfl h0 (Nat.le_of_ble_eq_true rfl)) (rc_reqNum h0 hv) ?_
  refine RQ.blk 3 (pc' := 8) (lv' := [(0, .ref 1), (1, .int (nI v)), (2, .int 1)]) (st' := [.ref 1, .int 0, .ref 1]) (H' := _) (kc' := 0) (ks' := 0) rfl ?_
  refine RQ.get (ci := 11) rfl h0 rfl rfl ?_
  refine RQ.get (ci := 5) rfl h1 rfl rfl ?_
  refine RQ.call (v := none) (st' := []) rfl rfl rfl rfl rfl rfl (args_v [.int (nI l), .int 0] [] rfl rfl (Nat.le_of_ble_eq_true rfl) rfl h0 (Nat.le_of_ble_eq_true rfl)) (rc_requireName1 (i := 0) h0 ⟨h1, h2, by decide, by decide⟩ (by omega) (by decide) hl1 hl2 hnm) ?_
  refine RQ.blk 1 (pc' := 18) (lv' := [(0, .ref 1), (1, .int (nI v)), (2, .int 1)]) (st' := [.ref 1]) (H' := _) (kc' := 0) (ks' := 0) rfl ?_
  refine RQ.call (v := none) (st' := []) rfl rfl rfl rfl rfl rfl (args_v [] [] rfl rfl (Nat.le_of_ble_eq_true rfl) rfl h0 (Nat.le_of_ble_eq_true rfl)) (rc_up h0 rfl) ?_
  refine RQ.blk 1 (pc' := 22) (lv' := [(0, .ref 1), (1, .int (nI v)), (2, .int 1)]) (st' := [.ref 1]) (H' := _) (kc' := 0) (ks' := 0) rfl ?_
  refine RQ.call (v := some (.int (nI l))) (st' := []) rfl rfl rfl rfl rfl rfl (args_v [] [] rfl rfl (Nat.le_of_ble_eq_true rfl) rfl h0 (Nat.le_of_ble_eq_true rfl)) (rc_takeTape h0 h1) ?_
  have far1 : ∀ a, a ≠ 1 → (H.set 1 (kO 5 [.ref 3, .int (nI 0)]))[a]? = H[a]? := fun a ha => set_far ha
  have h11 : (H.set 1 (kO 5 [.ref 3, .int (nI 0)]))[1]? = some (kO 5 [.ref 3, .int (nI 0)]) := get_set h1
  refine RQ.blk 1 (pc' := 26) (lv' := [(3, .int (nI l)), (0, .ref 1), (1, .int (nI v)), (2, .int 1)]) (st' := []) (H' := _) (kc' := 0) (ks' := 0) rfl ?_
  show RQ _ _ _ 26 [(3, .int (nI l)), (0, .ref 1), (1, .int (nI v)), (2, .int 1)] [] (H.set 1 (kO 5 [.ref 3, .int (nI 0)])) 0 0 _
  generalize (H.set 1 (kO 5 [.ref 3, .int (nI 0)])) = H1 at far1 h11 ⊢
  have h01 := (far1 0 (by decide)).trans h0
  have h21 := (far1 2 (by decide)).trans h2
  have hT1 : TreeAt H1 t.1 t.2.1 t.2.2.1 t.2.2.2.1 t.2.2.2.2.1 t.2.2.2.2.2 := hT.far (fun a a1 a2 => far1 a (by omega))
  have hc1 : ClsA H1 B P 1 0 cl cp cb tb 0 g rl wss t := h.small h01 h11 h21 ((far1 3 (by decide)).trans h3) ((far1 4 (by decide)).trans h4) ⟨q5, p6, (far1 5 (by decide)).trans h5, (far1 6 (by decide)).trans h6⟩ (fun a a1 a2 => far1 a (by omega))
  have fk1 : FrK H H1 := fun a ha => far1 a (by omega)
  refine RQ.blk 2 (pc' := 28) (lv' := [(3, .int (nI l)), (0, .ref 1), (1, .int (nI v)), (2, .int 1)]) (st' := [.int (nI v), .ref 1]) (H' := _) (kc' := 0) (ks' := 0) rfl ?_
  refine RQ.call (v := none) (st' := []) rfl rfl rfl rfl rfl rfl (args_v [.int (nI v)] [] rfl rfl (Nat.le_of_ble_eq_true rfl) rfl h01 (Nat.le_of_ble_eq_true rfl)) (rc_reqDir h01 rfl hT1.1 rfl hT1.2.1 hv (nI_is2 hkd)) ?_
  refine RQ.blk 1 (pc' := 32) (lv' := [(3, .int (nI l)), (0, .ref 1), (1, .int (nI v)), (2, .int 1)]) (st' := [.ref 1]) (H' := _) (kc' := 0) (ks' := 0) rfl ?_
  refine RQ.get (ci := 11) rfl h01 rfl rfl ?_
  refine RQ.blk 2 (pc' := 37) (lv' := [(3, .int (nI l)), (0, .ref 1), (1, .int (nI v)), (2, .int 1)]) (st' := [.ref 1, .int (nI v), .ref 66]) (H' := _) (kc' := 0) (ks' := 0) rfl ?_
  refine RQ.get (ci := 11) rfl h01 rfl rfl ?_
  refine RQ.get (ci := 5) rfl h11 rfl rfl ?_
  refine RQ.blk 2 (pc' := 45) (lv' := [(3, .int (nI l)), (0, .ref 1), (1, .int (nI v)), (2, .int 1)]) (st' := [.int (nI l), .int 0, .ref 3, .int (nI v), .ref 66]) (H' := _) (kc' := 0) (ks' := 0) rfl ?_
  refine RQ.call (v := some (.int (lI (fstF (inN t.1 t.2.1 t.2.2.2.1 t.2.2.2.2.1 v (sl tb 0 l)) 1 200)))) (st' := []) rfl rfl rfl rfl rfl rfl (args_v [.int (nI l), .int 0, .ref 3, .int (nI v)] [] rfl rfl (Nat.le_of_ble_eq_true rfl) rfl hT1.1 (Nat.le_of_ble_eq_true rfl)) (rc_childNamed (a := 2) (na := 2000) (j := 0) (m := l) hT1 hk h21 (by decide) (by omega) hv) ?_
  rw [hch]
  rw [show lI none = -1 from rfl]
  refine RQ.brT rfl rfl rfl (by decide) ?_
  refine RQ.blk 1 (pc' := 63) (lv' := [(3, .int (nI l)), (0, .ref 1), (1, .int (nI v)), (2, .int 1)]) (st' := [.ref 1]) (H' := _) (kc' := 0) (ks' := 0) rfl ?_
  refine RQ.get (ci := 11) rfl h01 rfl rfl ?_
  refine RQ.call (v := some (.int (lI (fstF (fun v => decide (t.1 v = 0)) 1 200)))) (st' := []) rfl rfl rfl rfl rfl rfl (args_v [] [] rfl rfl (Nat.le_of_ble_eq_true rfl) rfl hT1.1 (Nat.le_of_ble_eq_true rfl)) (rc_leastUnused hT1 hk) ?_
  rw [hlu]
  rw [show lI (some r) = nI r from rfl]
  have hr := fstF_lt hlu
  refine RQ.blk 2 (pc' := 73) (lv' := [(4, .int (nI r)), (3, .int (nI l)), (0, .ref 1), (1, .int (nI v)), (2, .int 1)]) (st' := [.int (nI r)]) (H' := _) (kc' := 0) (ks' := 0) rfl ?_
  refine RQ.brT rfl rfl rfl (cT_ge r 0) ?_
  refine RQ.blk 1 (pc' := 88) (lv' := [(4, .int (nI r)), (3, .int (nI l)), (0, .ref 1), (1, .int (nI v)), (2, .int 1)]) (st' := [.int 1]) (H' := _) (kc' := 0) (ks' := 0) rfl ?_
  refine RQ.brF rfl rfl rfl (by decide) ?_
  refine RQ.blk 3 (pc' := 98) (lv' := [(5, .int 2), (4, .int (nI r)), (3, .int (nI l)), (0, .ref 1), (1, .int (nI v)), (2, .int 1)]) (st' := []) (H' := _) (kc' := 0) (ks' := 0) rfl ?_
  obtain ⟨⟨ws0, hb0⟩, Q0, hq0⟩ := hc1.2.2.2.2.2.2.2.2.1
  obtain ⟨D0, S0, K0, E0, hb0A, -⟩ := id hb0
  refine RQ.blk 1 (pc' := 99) (lv' := [(5, .int 2), (4, .int (nI r)), (3, .int (nI l)), (0, .ref 1), (1, .int (nI v)), (2, .int 1)]) (st' := [.ref 1]) (H' := _) (kc' := 0) (ks' := 0) rfl ?_
  refine RQ.get (ci := 11) rfl h01 rfl rfl ?_
  refine RQ.callN (st' := []) rfl rfl rfl rfl rfl rfl (args_v [] [] rfl rfl (Nat.le_of_ble_eq_true rfl) rfl hb0A.1 (Nat.le_of_ble_eq_true rfl)) (rn_bclearI hb0) (fun H2 hx2 => ?_)
  obtain ⟨hb2, f2⟩ := hx2
  have h02 := (f2 0 (by decide)).trans h01
  have h12 := (f2 1 (by decide)).trans h11
  have h22 := (f2 2 (by decide)).trans h21
  have hT2 : TreeAt H2 t.1 t.2.1 t.2.2.1 t.2.2.2.1 t.2.2.2.2.1 t.2.2.2.2.2 := hT1.far (fun a a1 a2 => f2 a (by omega))
  have hq2 := (f2 64 (by decide)).trans hq0
  have e52 : ∃ q : Nat, H2[5]? = some (kO 5 [.ref 7, .int (nI q)]) := ⟨q5, (f2 5 (by decide)).trans ((far1 5 (by decide)).trans h5)⟩
  have e62 : ∃ g, H2[6]? = some (kB 41 g) := ⟨p6, (f2 6 (by decide)).trans ((far1 6 (by decide)).trans h6)⟩
  refine RQ.blk 6 (pc' := 113) (lv' := [(5, .int 2), (4, .int (nI r)), (3, .int (nI l)), (0, .ref 1), (1, .int (nI v)), (2, .int 1)]) (st' := [.ref 1, .int 0, .int (nI v), .int 2, .int (nI r), .ref 1]) (H' := _) (kc' := 0) (ks' := 0) rfl ?_
  refine RQ.get (ci := 11) rfl h02 rfl rfl ?_
  refine RQ.get (ci := 5) rfl h12 rfl rfl ?_
  refine RQ.blk 2 (pc' := 121) (lv' := [(5, .int 2), (4, .int (nI r)), (3, .int (nI l)), (0, .ref 1), (1, .int (nI v)), (2, .int 1)]) (st' := [.int (nI l), .int 0, .ref 3, .int 0, .int (nI v), .int 2, .int (nI r), .ref 1]) (H' := _) (kc' := 0) (ks' := 0) rfl ?_
  refine RQ.callN (st' := []) rfl rfl rfl rfl rfl rfl (args_v [.int (nI l), .int 0, .ref 3, .int 0, .int (nI v), .int 2, .int (nI r)] [] rfl rfl (Nat.le_of_ble_eq_true rfl) rfl h02 (Nat.le_of_ble_eq_true rfl)) (rn_chNode (v := r) (k := 2) (dir := v) (s := 0) (a := 2) (na := 2000) (i := 0) (n := l) h02 e52 e62 hb2 h22 (by decide) (by decide) (by decide) (by decide) (by omega) (by omega) (by decide) (by omega) (by decide) hl2 (by decide) (by show 0 + 6 + l ≤ 4100; omega)) (fun H3 hx3 => ?_)
  obtain ⟨hb3, e53, e63, f3⟩ := hx3
  have hb3 : BatchIs H3 59 [([1, r], some ([2, v] ++ (beB 2 0 ++ sl tb 0 l)))] := hb3
  have f13 : ∀ a, a ≠ 5 → a ≠ 6 → ¬ (59 ≤ a ∧ a < 64) → H3[a]? = H1[a]? := fun a a1 a2 a3 => (f3 a a1 a2 a3).trans (f2 a (by omega))
  have hc3 : ClsA H3 B P 1 0 cl cp cb tb 0 g rl wss t := by
    obtain ⟨qa, ea⟩ := e53
    obtain ⟨pa, eb⟩ := e63
    obtain ⟨c0, c1, c2, c3, c4, -, ⟨wq2, c10, cwq⟩, cW, -, cT⟩ := hc1
    exact ⟨(f13 0 (by decide) (by decide) (by decide)).trans c0, (f13 1 (by decide) (by decide) (by decide)).trans c1, (f13 2 (by decide) (by decide) (by decide)).trans c2, (f13 3 (by decide) (by decide) (by decide)).trans c3, (f13 4 (by decide) (by decide) (by decide)).trans c4, ⟨qa, pa, ea, eb⟩, ⟨wq2, (f13 10 (by decide) (by decide) (by decide)).trans c10, cwq⟩, fun t ht => ⟨(cW t ht).1.keep (fun a a1 a2 => f13 a (by omega) (by omega) (by omega)), (cW t ht).2.imp (fun Q hQ => (f13 _ (by omega) (by omega) (by omega)).trans hQ)⟩, ⟨⟨_, hb3⟩, Q0, (f3 64 (by decide) (by decide) (by decide)).trans hq2⟩, cT.far (fun a a1 a2 => f13 a (by omega) (by omega) (by omega))⟩
  have fk3 : FrK H H3 := fk1.trans (fun a ha => f13 a (by omega) (by omega) (by omega))
  have hch3 : ChB H H3 B P 0 cl cp cb tb 0 g rl wss t [([1, r], some ([2, v] ++ (beB 2 0 ++ sl tb 0 l)))] := ⟨hc3, hb3, fk3⟩
  obtain ⟨D3, S3, K3, E3, hb3A, hb3L, hb340, hb341⟩ := id hb3
  have hb3k := hb3L.ok hb340 hb341
  have h03 := hc3.1
  have h13 := hc3.2.1
  have h23 := hc3.2.2.1
  have hT3 : TreeAt H3 t.1 t.2.1 t.2.2.1 t.2.2.2.1 t.2.2.2.2.1 t.2.2.2.2.2 := hc3.2.2.2.2.2.2.2.2.2
  refine RQ.blk 2 (pc' := 126) (lv' := [(5, .int 2), (4, .int (nI r)), (3, .int (nI l)), (0, .ref 1), (1, .int (nI v)), (2, .int 1)]) (st' := [.ref 1, .ref 1]) (H' := _) (kc' := 0) (ks' := 0) rfl ?_
  refine RQ.get (ci := 11) rfl h03 rfl rfl ?_
  refine RQ.blk 1 (pc' := 130) (lv' := [(5, .int 2), (4, .int (nI r)), (3, .int (nI l)), (0, .ref 1), (1, .int (nI v)), (2, .int 1)]) (st' := [.int (-1), .ref 60, .ref 1]) (H' := _) (kc' := 0) (ks' := 0) rfl ?_
  obtain ⟨kf, kl, mo, pl, le, al, od, sp, sz, ss, ac, hA, hVW, hvs⟩ := (hV.far (fun a a1 a2 => fk3 a (by omega)) : VersIs H3 N vs)
  refine RQ.call (v := none) (st' := []) rfl rfl rfl rfl rfl rfl (args_v [.int (-1), .ref 60] [] rfl rfl (Nat.le_of_ble_eq_true rfl) rfl h03 (Nat.le_of_ble_eq_true rfl)) (rc_reqRoom h03 hA hVW hvs hb3A hb3k hb3L (hs.far2 (fun a a1 a2 => fk3 a (by omega))) (fun t ht => Nat.lt_trans (hsm t ht) (by decide)) (fun i hi => by obtain ⟨e, he⟩ := lt_get hi; rw [(hb3L i e he).2.1]; exact (by obtain e2 := List.mem_singleton.mp (List.mem_of_getElem? he); rw [e2]; show 1 ≤ 2; decide)) (fun i j e f h1 h2 _ => by have := get_lt h1; have := get_lt h2; have q1 : i < 1 := get_lt h1; have q2 : j < 1 := get_lt h2; omega) hpr (by omega) hB hle) ?_
  refine RQ.blk 2 (pc' := 135) (lv' := [(5, .int 2), (4, .int (nI r)), (3, .int (nI l)), (0, .ref 1), (1, .int (nI v)), (2, .int 1)]) (st' := [.ref 1, .ref 1]) (H' := _) (kc' := 0) (ks' := 0) rfl ?_
  refine RQ.get (ci := 11) rfl h03 rfl rfl ?_
  refine RQ.get (ci := 0) rfl hb3A.1 rfl rfl ?_
  refine RQ.blk 2 (pc' := 143) (lv' := [(5, .int 2), (4, .int (nI r)), (3, .int (nI l)), (0, .ref 1), (1, .int (nI v)), (2, .int 1)]) (st' := [.int (nI (([([1, r], some ([2, v] ++ (beB 2 0 ++ sl tb 0 l)))]).length) + 1), .ref 1]) (H' := _) (kc' := 0) (ks' := 0) rfl ?_
  rw [show (nI (([([1, r], some ([2, v] ++ (beB 2 0 ++ sl tb 0 l)))]).length) + 1 : Int32) = nI (([([1, r], some ([2, v] ++ (beB 2 0 ++ sl tb 0 l)))]).length + 1) from nI_add (([([1, r], some ([2, v] ++ (beB 2 0 ++ sl tb 0 l)))]).length) 1]
  refine RQ.call (v := none) (st' := []) rfl rfl rfl rfl rfl rfl (args_v [.int (nI (([([1, r], some ([2, v] ++ (beB 2 0 ++ sl tb 0 l)))]).length + 1))] [] rfl rfl (Nat.le_of_ble_eq_true rfl) rfl h03 (Nat.le_of_ble_eq_true rfl)) (rc_armCut0 h03) ?_
  refine RQ.blk 2 (pc' := 148) (lv' := [(5, .int 2), (4, .int (nI r)), (3, .int (nI l)), (0, .ref 1), (1, .int (nI v)), (2, .int 1)]) (st' := [.ref 1, .ref 1]) (H' := _) (kc' := 0) (ks' := 0) rfl ?_
  refine RQ.callB (st' := [.ref 1]) rfl rfl rfl rfl rfl rfl (args_v [] [.ref 1] rfl rfl (Nat.le_of_ble_eq_true rfl) rfl h03 (Nat.le_of_ble_eq_true rfl)) (hRM H3 hch3) (fun H4 hH4 => ?_) (fun H4 hH4 => False.elim hH4)
  · have g1 := hf1 H4 hH4
    refine RQ.brF rfl rfl rfl (by decide) ?_
    refine RQ.blk 2 (pc' := 156) (lv' := [(5, .int 2), (4, .int (nI r)), (3, .int (nI l)), (0, .ref 1), (1, .int (nI v)), (2, .int 1)]) (st' := [.ref 1, .ref 1, .ref 1]) (H' := _) (kc' := 0) (ks' := 0) rfl ?_
    refine RQ.get (ci := 11) rfl g1 rfl rfl ?_
    refine RQ.callB (st' := [.ref 1]) rfl rfl rfl rfl rfl rfl (args_v [.ref 60] [.ref 1] rfl rfl (Nat.le_of_ble_eq_true rfl) rfl g1 (Nat.le_of_ble_eq_true rfl)) (hST H4 hH4) (fun H5 hH5 => ?_) (fun H5 hH5 => False.elim hH5)
    · have g2 := hf2 H5 hH5
      refine RQ.brF rfl rfl rfl (by decide) ?_
      refine RQ.blk 2 (pc' := 170) (lv' := [(5, .int 2), (4, .int (nI r)), (3, .int (nI l)), (0, .ref 1), (1, .int (nI v)), (2, .int 1)]) (st' := [.int 1, .ref 1]) (H' := _) (kc' := 0) (ks' := 0) rfl ?_
      refine RQ.callN (st' := []) rfl rfl rfl rfl rfl rfl (args_v [.int 1] [] rfl rfl (Nat.le_of_ble_eq_true rfl) rfl g2 (Nat.le_of_ble_eq_true rfl)) (hSE H5 hH5) (fun H6 hH6 => ?_)
      have g3 := hf3 H6 hH6
      refine RQ.blk 2 (pc' := 175) (lv' := [(5, .int 2), (4, .int (nI r)), (3, .int (nI l)), (0, .ref 1), (1, .int (nI v)), (2, .int 1)]) (st' := [.ref 1, .ref 1]) (H' := _) (kc' := 0) (ks' := 0) rfl ?_
      refine RQ.get (ci := 11) rfl g3 rfl rfl ?_
      refine RQ.callN (st' := []) rfl rfl rfl rfl rfl rfl (args_v [.ref 60] [] rfl rfl (Nat.le_of_ble_eq_true rfl) rfl g3 (Nat.le_of_ble_eq_true rfl)) (hIN H6 hH6) (fun H7 hH7 => ?_)
      obtain ⟨g5, ⟨tfs, g65⟩, lx, g11⟩ := hf5 H7 hH7
      refine RQ.blk 1 (pc' := 182) (lv' := [(5, .int 2), (4, .int (nI r)), (3, .int (nI l)), (0, .ref 1), (1, .int (nI v)), (2, .int 1)]) (st' := [.ref 1]) (H' := _) (kc' := 0) (ks' := 0) rfl ?_
      refine RQ.get (ci := 11) rfl g5 rfl rfl ?_
      refine RQ.blk 5 (pc' := 192) (lv' := [(5, .int 2), (4, .int (nI r)), (3, .int (nI l)), (0, .ref 1), (1, .int (nI v)), (2, .int 1)]) (st' := [.ref 1, .int 0, .int (nI v), .int 2, .int (nI r), .ref 66]) (H' := _) (kc' := 0) (ks' := 0) rfl ?_
      refine RQ.get (ci := 11) rfl g5 rfl rfl ?_
      refine RQ.get (ci := 5) rfl g11 rfl rfl ?_
      refine RQ.blk 2 (pc' := 200) (lv' := [(5, .int 2), (4, .int (nI r)), (3, .int (nI l)), (0, .ref 1), (1, .int (nI v)), (2, .int 1)]) (st' := [.int (nI l), .int 0, .ref 3, .int 0, .int (nI v), .int 2, .int (nI r), .ref 66]) (H' := _) (kc' := 0) (ks' := 0) rfl ?_
      refine RQ.callN (st' := []) rfl rfl rfl rfl rfl rfl (args_v [.int (nI l), .int 0, .ref 3, .int 0, .int (nI v), .int 2, .int (nI r)] [] rfl rfl (Nat.le_of_ble_eq_true rfl) rfl g65 (Nat.le_of_ble_eq_true rfl)) (hTS H7 hH7) (fun H8 hH8 => ?_)
      refine RQ.blk 1 (pc' := 205) (lv' := [(5, .int 2), (4, .int (nI r)), (3, .int (nI l)), (0, .ref 1), (1, .int (nI v)), (2, .int 1)]) (st' := [.int (nI r)]) (H' := _) (kc' := 0) (ks' := 0) rfl ?_
      exact RQ.done (c := 0) (s := 0) rfl rfl rfl rfl ⟨_, _, rfl, rfl, hH8⟩
set_option maxRecDepth 20000 in
theorem rx_make1_late {sc : Nat × (Nat → Int32)} {d : Nat} {H : aH} {B P : Nat}  {cp cb : Nat} {tb : Nat → Int8} {l : Nat} {g : Nat → Int8} {rl : Nat} {wss : Nat → List aE} {t : aTr} {v r : Nat} {N : Nat} {op : Nat → Bool} {sm : Nat → Nat} {vs : List aV} {ok1 ok2 fin : aH → Prop} (h : ClsA H B P 1 1 1 cp cb tb l g rl wss t) (hk : TreeOk t.1 t.2.1 t.2.2.1 t.2.2.2.1) (hv : v ≤ 200) (hl1 : 1 ≤ l) (hl2 : l ≤ 30) (hnm : (∀ k, k < l → ¬ btB tb l (0 + k) = 47)) (hkd : t.1 v = 2) (hch : fstF (inN t.1 t.2.1 t.2.2.2.1 t.2.2.2.2.1 v (sl tb 0 l)) 1 200 = none) (hlu : fstF (fun v => decide (t.1 v = 0)) 1 200 = some r) (hs : SightAt H op sm) (hsm : ∀ t, t < 8 → sm t < 2 ^ 30) (hV : VersIs H N vs) (hpr : ∀ v ∈ vs, v.2.1 ≤ P) (hP : P + 1 < 2 ^ 30) (hB : B ≤ 128) (hle : sumN op sm (-1) (P + 1) (kmV (inclV (P + 1) (fun _ => 0) 0 ([([1, r], some ([2, v] ++ (beB 2 0 ++ sl tb 0 l)))]) vs)) (inclV (P + 1) (fun _ => 0) 0 ([([1, r], some ([2, v] ++ (beB 2 0 ++ sl tb 0 l)))]) vs) ≤ B * 256) (hRM : ∀ H', ChB H H' B P 1 1 cp cb tb 0 g rl wss t ([([1, r], some ([2, v] ++ (beB 2 0 ++ sl tb 0 l)))]) → RB sc (d + 7) mr_96 [.ref 1] H' ok1 (fun _ => False)) (hST : ∀ H', ok1 H' → RB sc (d + 7) mr_150 [.ref 1, .ref 60] H' ok2 (fun _ => False)) (hf1 : ∀ H', ok1 H' → H'[0]? = some (kO 11 (fvs (nI B) (nI P) 1 1 1 (nI cp) (nI cb)))) (hSE : ∀ H', ok2 H' → RX sc (d + 7) mr_153 [.ref 1, .int 1] H' 1 fin) (hf2 : ∀ H', ok2 H' → H'[0]? = some (kO 11 (fvs (nI B) (nI P) 1 1 1 (nI cp) (nI cb)))) : RXc sc (d + 8) mr_215 [.ref 1, .int (nI v), .int 1] H 1 (fun H' => fin H') := by
  obtain ⟨h0, h1, h2, h3, h4, ⟨q5, p6, h5, h6⟩, ⟨wq, h10, hwq⟩, hW, hCh, hT⟩ := id h
  refine RXc.of ?_
  refine RQ.blk 2 (pc' := 2) (lv' := [(0, .ref 1), (1, .int (nI v)), (2, .int 1)]) (st' := [.int (nI v), .ref 1]) (H' := _) (kc' := 0) (ks' := 0) rfl ?_
  refine RQ.call (v := none) (st' := []) rfl rfl rfl rfl rfl rfl (args_v [.int (nI v)] [] rfl rfl (Nat.le_of_ble_eq_true rfl) rfl h0 (Nat.le_of_ble_eq_true rfl)) (rc_reqNum h0 hv) ?_
  refine RQ.blk 3 (pc' := 8) (lv' := [(0, .ref 1), (1, .int (nI v)), (2, .int 1)]) (st' := [.ref 1, .int 0, .ref 1]) (H' := _) (kc' := 0) (ks' := 0) rfl ?_
  refine RQ.get (ci := 11) rfl h0 rfl rfl ?_
  refine RQ.get (ci := 5) rfl h1 rfl rfl ?_
  refine RQ.call (v := none) (st' := []) rfl rfl rfl rfl rfl rfl (args_v [.int (nI l), .int 0] [] rfl rfl (Nat.le_of_ble_eq_true rfl) rfl h0 (Nat.le_of_ble_eq_true rfl)) (rc_requireName1 (i := 0) h0 ⟨h1, h2, by decide, by decide⟩ (by omega) (by decide) hl1 hl2 hnm) ?_
  refine RQ.blk 1 (pc' := 18) (lv' := [(0, .ref 1), (1, .int (nI v)), (2, .int 1)]) (st' := [.ref 1]) (H' := _) (kc' := 0) (ks' := 0) rfl ?_
  refine RQ.call (v := none) (st' := []) rfl rfl rfl rfl rfl rfl (args_v [] [] rfl rfl (Nat.le_of_ble_eq_true rfl) rfl h0 (Nat.le_of_ble_eq_true rfl)) (rc_up h0 rfl) ?_
  refine RQ.blk 1 (pc' := 22) (lv' := [(0, .ref 1), (1, .int (nI v)), (2, .int 1)]) (st' := [.ref 1]) (H' := _) (kc' := 0) (ks' := 0) rfl ?_
  refine RQ.call (v := some (.int (nI l))) (st' := []) rfl rfl rfl rfl rfl rfl (args_v [] [] rfl rfl (Nat.le_of_ble_eq_true rfl) rfl h0 (Nat.le_of_ble_eq_true rfl)) (rc_takeTape h0 h1) ?_
  have far1 : ∀ a, a ≠ 1 → (H.set 1 (kO 5 [.ref 3, .int (nI 0)]))[a]? = H[a]? := fun a ha => set_far ha
  have h11 : (H.set 1 (kO 5 [.ref 3, .int (nI 0)]))[1]? = some (kO 5 [.ref 3, .int (nI 0)]) := get_set h1
  refine RQ.blk 1 (pc' := 26) (lv' := [(3, .int (nI l)), (0, .ref 1), (1, .int (nI v)), (2, .int 1)]) (st' := []) (H' := _) (kc' := 0) (ks' := 0) rfl ?_
  show RQ _ _ _ 26 [(3, .int (nI l)), (0, .ref 1), (1, .int (nI v)), (2, .int 1)] [] (H.set 1 (kO 5 [.ref 3, .int (nI 0)])) 0 0 _
  generalize (H.set 1 (kO 5 [.ref 3, .int (nI 0)])) = H1 at far1 h11 ⊢
  have h01 := (far1 0 (by decide)).trans h0
  have h21 := (far1 2 (by decide)).trans h2
  have hT1 : TreeAt H1 t.1 t.2.1 t.2.2.1 t.2.2.2.1 t.2.2.2.2.1 t.2.2.2.2.2 := hT.far (fun a a1 a2 => far1 a (by omega))
  have hc1 : ClsA H1 B P 1 1 1 cp cb tb 0 g rl wss t := h.small h01 h11 h21 ((far1 3 (by decide)).trans h3) ((far1 4 (by decide)).trans h4) ⟨q5, p6, (far1 5 (by decide)).trans h5, (far1 6 (by decide)).trans h6⟩ (fun a a1 a2 => far1 a (by omega))
  have fk1 : FrK H H1 := fun a ha => far1 a (by omega)
  refine RQ.blk 2 (pc' := 28) (lv' := [(3, .int (nI l)), (0, .ref 1), (1, .int (nI v)), (2, .int 1)]) (st' := [.int (nI v), .ref 1]) (H' := _) (kc' := 0) (ks' := 0) rfl ?_
  refine RQ.call (v := none) (st' := []) rfl rfl rfl rfl rfl rfl (args_v [.int (nI v)] [] rfl rfl (Nat.le_of_ble_eq_true rfl) rfl h01 (Nat.le_of_ble_eq_true rfl)) (rc_reqDir h01 rfl hT1.1 rfl hT1.2.1 hv (nI_is2 hkd)) ?_
  refine RQ.blk 1 (pc' := 32) (lv' := [(3, .int (nI l)), (0, .ref 1), (1, .int (nI v)), (2, .int 1)]) (st' := [.ref 1]) (H' := _) (kc' := 0) (ks' := 0) rfl ?_
  refine RQ.get (ci := 11) rfl h01 rfl rfl ?_
  refine RQ.blk 2 (pc' := 37) (lv' := [(3, .int (nI l)), (0, .ref 1), (1, .int (nI v)), (2, .int 1)]) (st' := [.ref 1, .int (nI v), .ref 66]) (H' := _) (kc' := 0) (ks' := 0) rfl ?_
  refine RQ.get (ci := 11) rfl h01 rfl rfl ?_
  refine RQ.get (ci := 5) rfl h11 rfl rfl ?_
  refine RQ.blk 2 (pc' := 45) (lv' := [(3, .int (nI l)), (0, .ref 1), (1, .int (nI v)), (2, .int 1)]) (st' := [.int (nI l), .int 0, .ref 3, .int (nI v), .ref 66]) (H' := _) (kc' := 0) (ks' := 0) rfl ?_
  refine RQ.call (v := some (.int (lI (fstF (inN t.1 t.2.1 t.2.2.2.1 t.2.2.2.2.1 v (sl tb 0 l)) 1 200)))) (st' := []) rfl rfl rfl rfl rfl rfl (args_v [.int (nI l), .int 0, .ref 3, .int (nI v)] [] rfl rfl (Nat.le_of_ble_eq_true rfl) rfl hT1.1 (Nat.le_of_ble_eq_true rfl)) (rc_childNamed (a := 2) (na := 2000) (j := 0) (m := l) hT1 hk h21 (by decide) (by omega) hv) ?_
  rw [hch]
  rw [show lI none = -1 from rfl]
  refine RQ.brT rfl rfl rfl (by decide) ?_
  refine RQ.blk 1 (pc' := 63) (lv' := [(3, .int (nI l)), (0, .ref 1), (1, .int (nI v)), (2, .int 1)]) (st' := [.ref 1]) (H' := _) (kc' := 0) (ks' := 0) rfl ?_
  refine RQ.get (ci := 11) rfl h01 rfl rfl ?_
  refine RQ.call (v := some (.int (lI (fstF (fun v => decide (t.1 v = 0)) 1 200)))) (st' := []) rfl rfl rfl rfl rfl rfl (args_v [] [] rfl rfl (Nat.le_of_ble_eq_true rfl) rfl hT1.1 (Nat.le_of_ble_eq_true rfl)) (rc_leastUnused hT1 hk) ?_
  rw [hlu]
  rw [show lI (some r) = nI r from rfl]
  have hr := fstF_lt hlu
  refine RQ.blk 2 (pc' := 73) (lv' := [(4, .int (nI r)), (3, .int (nI l)), (0, .ref 1), (1, .int (nI v)), (2, .int 1)]) (st' := [.int (nI r)]) (H' := _) (kc' := 0) (ks' := 0) rfl ?_
  refine RQ.brT rfl rfl rfl (cT_ge r 0) ?_
  refine RQ.blk 1 (pc' := 88) (lv' := [(4, .int (nI r)), (3, .int (nI l)), (0, .ref 1), (1, .int (nI v)), (2, .int 1)]) (st' := [.int 1]) (H' := _) (kc' := 0) (ks' := 0) rfl ?_
  refine RQ.brF rfl rfl rfl (by decide) ?_
  refine RQ.blk 3 (pc' := 98) (lv' := [(5, .int 2), (4, .int (nI r)), (3, .int (nI l)), (0, .ref 1), (1, .int (nI v)), (2, .int 1)]) (st' := []) (H' := _) (kc' := 0) (ks' := 0) rfl ?_
  obtain ⟨⟨ws0, hb0⟩, Q0, hq0⟩ := hc1.2.2.2.2.2.2.2.2.1
  obtain ⟨D0, S0, K0, E0, hb0A, -⟩ := id hb0
  refine RQ.blk 1 (pc' := 99) (lv' := [(5, .int 2), (4, .int (nI r)), (3, .int (nI l)), (0, .ref 1), (1, .int (nI v)), (2, .int 1)]) (st' := [.ref 1]) (H' := _) (kc' := 0) (ks' := 0) rfl ?_
  refine RQ.get (ci := 11) rfl h01 rfl rfl ?_
  refine RQ.callN (st' := []) rfl rfl rfl rfl rfl rfl (args_v [] [] rfl rfl (Nat.le_of_ble_eq_true rfl) rfl hb0A.1 (Nat.le_of_ble_eq_true rfl)) (rn_bclearI hb0) (fun H2 hx2 => ?_)
  obtain ⟨hb2, f2⟩ := hx2
  have h02 := (f2 0 (by decide)).trans h01
  have h12 := (f2 1 (by decide)).trans h11
  have h22 := (f2 2 (by decide)).trans h21
  have hT2 : TreeAt H2 t.1 t.2.1 t.2.2.1 t.2.2.2.1 t.2.2.2.2.1 t.2.2.2.2.2 := hT1.far (fun a a1 a2 => f2 a (by omega))
  have hq2 := (f2 64 (by decide)).trans hq0
  have e52 : ∃ q : Nat, H2[5]? = some (kO 5 [.ref 7, .int (nI q)]) := ⟨q5, (f2 5 (by decide)).trans ((far1 5 (by decide)).trans h5)⟩
  have e62 : ∃ g, H2[6]? = some (kB 41 g) := ⟨p6, (f2 6 (by decide)).trans ((far1 6 (by decide)).trans h6)⟩
  refine RQ.blk 6 (pc' := 113) (lv' := [(5, .int 2), (4, .int (nI r)), (3, .int (nI l)), (0, .ref 1), (1, .int (nI v)), (2, .int 1)]) (st' := [.ref 1, .int 0, .int (nI v), .int 2, .int (nI r), .ref 1]) (H' := _) (kc' := 0) (ks' := 0) rfl ?_
  refine RQ.get (ci := 11) rfl h02 rfl rfl ?_
  refine RQ.get (ci := 5) rfl h12 rfl rfl ?_
  refine RQ.blk 2 (pc' := 121) (lv' := [(5, .int 2), (4, .int (nI r)), (3, .int (nI l)), (0, .ref 1), (1, .int (nI v)), (2, .int 1)]) (st' := [.int (nI l), .int 0, .ref 3, .int 0, .int (nI v), .int 2, .int (nI r), .ref 1]) (H' := _) (kc' := 0) (ks' := 0) rfl ?_
  refine RQ.callN (st' := []) rfl rfl rfl rfl rfl rfl (args_v [.int (nI l), .int 0, .ref 3, .int 0, .int (nI v), .int 2, .int (nI r)] [] rfl rfl (Nat.le_of_ble_eq_true rfl) rfl h02 (Nat.le_of_ble_eq_true rfl)) (rn_chNode (v := r) (k := 2) (dir := v) (s := 0) (a := 2) (na := 2000) (i := 0) (n := l) h02 e52 e62 hb2 h22 (by decide) (by decide) (by decide) (by decide) (by omega) (by omega) (by decide) (by omega) (by decide) hl2 (by decide) (by show 0 + 6 + l ≤ 4100; omega)) (fun H3 hx3 => ?_)
  obtain ⟨hb3, e53, e63, f3⟩ := hx3
  have hb3 : BatchIs H3 59 [([1, r], some ([2, v] ++ (beB 2 0 ++ sl tb 0 l)))] := hb3
  have f13 : ∀ a, a ≠ 5 → a ≠ 6 → ¬ (59 ≤ a ∧ a < 64) → H3[a]? = H1[a]? := fun a a1 a2 a3 => (f3 a a1 a2 a3).trans (f2 a (by omega))
  have hc3 : ClsA H3 B P 1 1 1 cp cb tb 0 g rl wss t := by
    obtain ⟨qa, ea⟩ := e53
    obtain ⟨pa, eb⟩ := e63
    obtain ⟨c0, c1, c2, c3, c4, -, ⟨wq2, c10, cwq⟩, cW, -, cT⟩ := hc1
    exact ⟨(f13 0 (by decide) (by decide) (by decide)).trans c0, (f13 1 (by decide) (by decide) (by decide)).trans c1, (f13 2 (by decide) (by decide) (by decide)).trans c2, (f13 3 (by decide) (by decide) (by decide)).trans c3, (f13 4 (by decide) (by decide) (by decide)).trans c4, ⟨qa, pa, ea, eb⟩, ⟨wq2, (f13 10 (by decide) (by decide) (by decide)).trans c10, cwq⟩, fun t ht => ⟨(cW t ht).1.keep (fun a a1 a2 => f13 a (by omega) (by omega) (by omega)), (cW t ht).2.imp (fun Q hQ => (f13 _ (by omega) (by omega) (by omega)).trans hQ)⟩, ⟨⟨_, hb3⟩, Q0, (f3 64 (by decide) (by decide) (by decide)).trans hq2⟩, cT.far (fun a a1 a2 => f13 a (by omega) (by omega) (by omega))⟩
  have fk3 : FrK H H3 := fk1.trans (fun a ha => f13 a (by omega) (by omega) (by omega))
  have hch3 : ChB H H3 B P 1 1 cp cb tb 0 g rl wss t [([1, r], some ([2, v] ++ (beB 2 0 ++ sl tb 0 l)))] := ⟨hc3, hb3, fk3⟩
  obtain ⟨D3, S3, K3, E3, hb3A, hb3L, hb340, hb341⟩ := id hb3
  have hb3k := hb3L.ok hb340 hb341
  have h03 := hc3.1
  have h13 := hc3.2.1
  have h23 := hc3.2.2.1
  have hT3 : TreeAt H3 t.1 t.2.1 t.2.2.1 t.2.2.2.1 t.2.2.2.2.1 t.2.2.2.2.2 := hc3.2.2.2.2.2.2.2.2.2
  refine RQ.blk 2 (pc' := 126) (lv' := [(5, .int 2), (4, .int (nI r)), (3, .int (nI l)), (0, .ref 1), (1, .int (nI v)), (2, .int 1)]) (st' := [.ref 1, .ref 1]) (H' := _) (kc' := 0) (ks' := 0) rfl ?_
  refine RQ.get (ci := 11) rfl h03 rfl rfl ?_
  refine RQ.blk 1 (pc' := 130) (lv' := [(5, .int 2), (4, .int (nI r)), (3, .int (nI l)), (0, .ref 1), (1, .int (nI v)), (2, .int 1)]) (st' := [.int (-1), .ref 60, .ref 1]) (H' := _) (kc' := 0) (ks' := 0) rfl ?_
  obtain ⟨kf, kl, mo, pl, le, al, od, sp, sz, ss, ac, hA, hVW, hvs⟩ := (hV.far (fun a a1 a2 => fk3 a (by omega)) : VersIs H3 N vs)
  refine RQ.call (v := none) (st' := []) rfl rfl rfl rfl rfl rfl (args_v [.int (-1), .ref 60] [] rfl rfl (Nat.le_of_ble_eq_true rfl) rfl h03 (Nat.le_of_ble_eq_true rfl)) (rc_reqRoom h03 hA hVW hvs hb3A hb3k hb3L (hs.far2 (fun a a1 a2 => fk3 a (by omega))) (fun t ht => Nat.lt_trans (hsm t ht) (by decide)) (fun i hi => by obtain ⟨e, he⟩ := lt_get hi; rw [(hb3L i e he).2.1]; exact (by obtain e2 := List.mem_singleton.mp (List.mem_of_getElem? he); rw [e2]; show 1 ≤ 2; decide)) (fun i j e f h1 h2 _ => by have := get_lt h1; have := get_lt h2; have q1 : i < 1 := get_lt h1; have q2 : j < 1 := get_lt h2; omega) hpr (by omega) hB hle) ?_
  refine RQ.blk 2 (pc' := 135) (lv' := [(5, .int 2), (4, .int (nI r)), (3, .int (nI l)), (0, .ref 1), (1, .int (nI v)), (2, .int 1)]) (st' := [.ref 1, .ref 1]) (H' := _) (kc' := 0) (ks' := 0) rfl ?_
  refine RQ.get (ci := 11) rfl h03 rfl rfl ?_
  refine RQ.get (ci := 0) rfl hb3A.1 rfl rfl ?_
  refine RQ.blk 2 (pc' := 143) (lv' := [(5, .int 2), (4, .int (nI r)), (3, .int (nI l)), (0, .ref 1), (1, .int (nI v)), (2, .int 1)]) (st' := [.int (nI (([([1, r], some ([2, v] ++ (beB 2 0 ++ sl tb 0 l)))]).length) + 1), .ref 1]) (H' := _) (kc' := 0) (ks' := 0) rfl ?_
  rw [show (nI (([([1, r], some ([2, v] ++ (beB 2 0 ++ sl tb 0 l)))]).length) + 1 : Int32) = nI (([([1, r], some ([2, v] ++ (beB 2 0 ++ sl tb 0 l)))]).length + 1) from nI_add (([([1, r], some ([2, v] ++ (beB 2 0 ++ sl tb 0 l)))]).length) 1]
  refine RQ.call (v := none) (st' := []) rfl rfl rfl rfl rfl rfl (args_v [.int (nI (([([1, r], some ([2, v] ++ (beB 2 0 ++ sl tb 0 l)))]).length + 1))] [] rfl rfl (Nat.le_of_ble_eq_true rfl) rfl h03 (Nat.le_of_ble_eq_true rfl)) (rc_armCutL h03) ?_
  refine RQ.blk 2 (pc' := 148) (lv' := [(5, .int 2), (4, .int (nI r)), (3, .int (nI l)), (0, .ref 1), (1, .int (nI v)), (2, .int 1)]) (st' := [.ref 1, .ref 1]) (H' := _) (kc' := 0) (ks' := 0) rfl ?_
  refine RQ.callB (st' := [.ref 1]) rfl rfl rfl rfl rfl rfl (args_v [] [.ref 1] rfl rfl (Nat.le_of_ble_eq_true rfl) rfl h03 (Nat.le_of_ble_eq_true rfl)) (hRM H3 hch3) (fun H4 hH4 => ?_) (fun H4 hH4 => False.elim hH4)
  · have g1 := hf1 H4 hH4
    refine RQ.brF rfl rfl rfl (by decide) ?_
    refine RQ.blk 2 (pc' := 156) (lv' := [(5, .int 2), (4, .int (nI r)), (3, .int (nI l)), (0, .ref 1), (1, .int (nI v)), (2, .int 1)]) (st' := [.ref 1, .ref 1, .ref 1]) (H' := _) (kc' := 0) (ks' := 0) rfl ?_
    refine RQ.get (ci := 11) rfl g1 rfl rfl ?_
    refine RQ.callB (st' := [.ref 1]) rfl rfl rfl rfl rfl rfl (args_v [.ref 60] [.ref 1] rfl rfl (Nat.le_of_ble_eq_true rfl) rfl g1 (Nat.le_of_ble_eq_true rfl)) (hST H4 hH4) (fun H5 hH5 => ?_) (fun H5 hH5 => False.elim hH5)
    · have g2 := hf2 H5 hH5
      refine RQ.brF rfl rfl rfl (by decide) ?_
      refine RQ.blk 2 (pc' := 170) (lv' := [(5, .int 2), (4, .int (nI r)), (3, .int (nI l)), (0, .ref 1), (1, .int (nI v)), (2, .int 1)]) (st' := [.int 1, .ref 1]) (H' := _) (kc' := 0) (ks' := 0) rfl ?_
      obtain ⟨HX, hxX, hpX⟩ := hSE H5 hH5
      exact RQ.callP (st' := []) rfl rfl rfl rfl rfl rfl (args_v [.int 1] [] rfl rfl (Nat.le_of_ble_eq_true rfl) rfl g2 (Nat.le_of_ble_eq_true rfl)) hxX rfl ⟨_, 1, by decide, rfl, hpX⟩
set_option maxRecDepth 20000 in
theorem rx_make1_cut {sc : Nat × (Nat → Int32)} {d : Nat} {H : aH} {B P : Nat}  {cp cb : Nat} {tb : Nat → Int8} {l : Nat} {g : Nat → Int8} {rl : Nat} {wss : Nat → List aE} {t : aTr} {v r : Nat} {N : Nat} {op : Nat → Bool} {sm : Nat → Nat} {vs : List aV} {ok1 bad fin : aH → Prop} (h : ClsA H B P 1 1 0 cp cb tb l g rl wss t) (hk : TreeOk t.1 t.2.1 t.2.2.1 t.2.2.2.1) (hv : v ≤ 200) (hl1 : 1 ≤ l) (hl2 : l ≤ 30) (hnm : (∀ k, k < l → ¬ btB tb l (0 + k) = 47)) (hkd : t.1 v = 2) (hch : fstF (inN t.1 t.2.1 t.2.2.2.1 t.2.2.2.2.1 v (sl tb 0 l)) 1 200 = none) (hlu : fstF (fun v => decide (t.1 v = 0)) 1 200 = some r) (hs : SightAt H op sm) (hsm : ∀ t, t < 8 → sm t < 2 ^ 30) (hV : VersIs H N vs) (hpr : ∀ v ∈ vs, v.2.1 ≤ P) (hP : P + 1 < 2 ^ 30) (hB : B ≤ 128) (hle : sumN op sm (-1) (P + 1) (kmV (inclV (P + 1) (fun _ => 0) 0 ([([1, r], some ([2, v] ++ (beB 2 0 ++ sl tb 0 l)))]) vs)) (inclV (P + 1) (fun _ => 0) 0 ([([1, r], some ([2, v] ++ (beB 2 0 ++ sl tb 0 l)))]) vs) ≤ B * 256) (hC0 : ∀ H', ChB H H' B P 1 0 cp cb tb 0 g rl wss t ([([1, r], some ([2, v] ++ (beB 2 0 ++ sl tb 0 l)))]) → ∃ cf tf pq bb, ChipAt H' B cf tf pq bb 0) (hcp : cp < 2 ^ 31) (hRM : ∀ H', ChB H H' B P 1 0 cp cb tb 0 g rl wss t ([([1, r], some ([2, v] ++ (beB 2 0 ++ sl tb 0 l)))]) → RB sc (d + 7) mr_96 [.ref 1] (H'.set 71 (kO 1 [.ref 73, .ref 74, .int (lI (some (cp % (([([1, r], some ([2, v] ++ (beB 2 0 ++ sl tb 0 l)))]).length + 1)))), .int (nI cb), .int (nI 0)])) ok1 bad) (hST : ∀ H', ok1 H' → RB sc (d + 7) mr_150 [.ref 1, .ref 60] H' (fun _ => False) bad) (hf1 : ∀ H', ok1 H' → H'[0]? = some (kO 11 (fvs (nI B) (nI P) 1 1 0 (nI cp) (nI cb)))) (hSB : ∀ H', bad H' → RX sc (d + 7) mr_153 [.ref 1, .int 0] H' 1 fin) (hfb : ∀ H', bad H' → H'[0]? = some (kO 11 (fvs (nI B) (nI P) 1 1 0 (nI cp) (nI cb)))) : RXc sc (d + 8) mr_215 [.ref 1, .int (nI v), .int 1] H 1 (fun H' => fin H') := by
  obtain ⟨h0, h1, h2, h3, h4, ⟨q5, p6, h5, h6⟩, ⟨wq, h10, hwq⟩, hW, hCh, hT⟩ := id h
  refine RXc.of ?_
  refine RQ.blk 2 (pc' := 2) (lv' := [(0, .ref 1), (1, .int (nI v)), (2, .int 1)]) (st' := [.int (nI v), .ref 1]) (H' := _) (kc' := 0) (ks' := 0) rfl ?_
  refine RQ.call (v := none) (st' := []) rfl rfl rfl rfl rfl rfl (args_v [.int (nI v)] [] rfl rfl (Nat.le_of_ble_eq_true rfl) rfl h0 (Nat.le_of_ble_eq_true rfl)) (rc_reqNum h0 hv) ?_
  refine RQ.blk 3 (pc' := 8) (lv' := [(0, .ref 1), (1, .int (nI v)), (2, .int 1)]) (st' := [.ref 1, .int 0, .ref 1]) (H' := _) (kc' := 0) (ks' := 0) rfl ?_
  refine RQ.get (ci := 11) rfl h0 rfl rfl ?_
  refine RQ.get (ci := 5) rfl h1 rfl rfl ?_
  refine RQ.call (v := none) (st' := []) rfl rfl rfl rfl rfl rfl (args_v [.int (nI l), .int 0] [] rfl rfl (Nat.le_of_ble_eq_true rfl) rfl h0 (Nat.le_of_ble_eq_true rfl)) (rc_requireName1 (i := 0) h0 ⟨h1, h2, by decide, by decide⟩ (by omega) (by decide) hl1 hl2 hnm) ?_
  refine RQ.blk 1 (pc' := 18) (lv' := [(0, .ref 1), (1, .int (nI v)), (2, .int 1)]) (st' := [.ref 1]) (H' := _) (kc' := 0) (ks' := 0) rfl ?_
  refine RQ.call (v := none) (st' := []) rfl rfl rfl rfl rfl rfl (args_v [] [] rfl rfl (Nat.le_of_ble_eq_true rfl) rfl h0 (Nat.le_of_ble_eq_true rfl)) (rc_up h0 rfl) ?_
  refine RQ.blk 1 (pc' := 22) (lv' := [(0, .ref 1), (1, .int (nI v)), (2, .int 1)]) (st' := [.ref 1]) (H' := _) (kc' := 0) (ks' := 0) rfl ?_
  refine RQ.call (v := some (.int (nI l))) (st' := []) rfl rfl rfl rfl rfl rfl (args_v [] [] rfl rfl (Nat.le_of_ble_eq_true rfl) rfl h0 (Nat.le_of_ble_eq_true rfl)) (rc_takeTape h0 h1) ?_
  have far1 : ∀ a, a ≠ 1 → (H.set 1 (kO 5 [.ref 3, .int (nI 0)]))[a]? = H[a]? := fun a ha => set_far ha
  have h11 : (H.set 1 (kO 5 [.ref 3, .int (nI 0)]))[1]? = some (kO 5 [.ref 3, .int (nI 0)]) := get_set h1
  refine RQ.blk 1 (pc' := 26) (lv' := [(3, .int (nI l)), (0, .ref 1), (1, .int (nI v)), (2, .int 1)]) (st' := []) (H' := _) (kc' := 0) (ks' := 0) rfl ?_
  show RQ _ _ _ 26 [(3, .int (nI l)), (0, .ref 1), (1, .int (nI v)), (2, .int 1)] [] (H.set 1 (kO 5 [.ref 3, .int (nI 0)])) 0 0 _
  generalize (H.set 1 (kO 5 [.ref 3, .int (nI 0)])) = H1 at far1 h11 ⊢
  have h01 := (far1 0 (by decide)).trans h0
  have h21 := (far1 2 (by decide)).trans h2
  have hT1 : TreeAt H1 t.1 t.2.1 t.2.2.1 t.2.2.2.1 t.2.2.2.2.1 t.2.2.2.2.2 := hT.far (fun a a1 a2 => far1 a (by omega))
  have hc1 : ClsA H1 B P 1 1 0 cp cb tb 0 g rl wss t := h.small h01 h11 h21 ((far1 3 (by decide)).trans h3) ((far1 4 (by decide)).trans h4) ⟨q5, p6, (far1 5 (by decide)).trans h5, (far1 6 (by decide)).trans h6⟩ (fun a a1 a2 => far1 a (by omega))
  have fk1 : FrK H H1 := fun a ha => far1 a (by omega)
  refine RQ.blk 2 (pc' := 28) (lv' := [(3, .int (nI l)), (0, .ref 1), (1, .int (nI v)), (2, .int 1)]) (st' := [.int (nI v), .ref 1]) (H' := _) (kc' := 0) (ks' := 0) rfl ?_
  refine RQ.call (v := none) (st' := []) rfl rfl rfl rfl rfl rfl (args_v [.int (nI v)] [] rfl rfl (Nat.le_of_ble_eq_true rfl) rfl h01 (Nat.le_of_ble_eq_true rfl)) (rc_reqDir h01 rfl hT1.1 rfl hT1.2.1 hv (nI_is2 hkd)) ?_
  refine RQ.blk 1 (pc' := 32) (lv' := [(3, .int (nI l)), (0, .ref 1), (1, .int (nI v)), (2, .int 1)]) (st' := [.ref 1]) (H' := _) (kc' := 0) (ks' := 0) rfl ?_
  refine RQ.get (ci := 11) rfl h01 rfl rfl ?_
  refine RQ.blk 2 (pc' := 37) (lv' := [(3, .int (nI l)), (0, .ref 1), (1, .int (nI v)), (2, .int 1)]) (st' := [.ref 1, .int (nI v), .ref 66]) (H' := _) (kc' := 0) (ks' := 0) rfl ?_
  refine RQ.get (ci := 11) rfl h01 rfl rfl ?_
  refine RQ.get (ci := 5) rfl h11 rfl rfl ?_
  refine RQ.blk 2 (pc' := 45) (lv' := [(3, .int (nI l)), (0, .ref 1), (1, .int (nI v)), (2, .int 1)]) (st' := [.int (nI l), .int 0, .ref 3, .int (nI v), .ref 66]) (H' := _) (kc' := 0) (ks' := 0) rfl ?_
  refine RQ.call (v := some (.int (lI (fstF (inN t.1 t.2.1 t.2.2.2.1 t.2.2.2.2.1 v (sl tb 0 l)) 1 200)))) (st' := []) rfl rfl rfl rfl rfl rfl (args_v [.int (nI l), .int 0, .ref 3, .int (nI v)] [] rfl rfl (Nat.le_of_ble_eq_true rfl) rfl hT1.1 (Nat.le_of_ble_eq_true rfl)) (rc_childNamed (a := 2) (na := 2000) (j := 0) (m := l) hT1 hk h21 (by decide) (by omega) hv) ?_
  rw [hch]
  rw [show lI none = -1 from rfl]
  refine RQ.brT rfl rfl rfl (by decide) ?_
  refine RQ.blk 1 (pc' := 63) (lv' := [(3, .int (nI l)), (0, .ref 1), (1, .int (nI v)), (2, .int 1)]) (st' := [.ref 1]) (H' := _) (kc' := 0) (ks' := 0) rfl ?_
  refine RQ.get (ci := 11) rfl h01 rfl rfl ?_
  refine RQ.call (v := some (.int (lI (fstF (fun v => decide (t.1 v = 0)) 1 200)))) (st' := []) rfl rfl rfl rfl rfl rfl (args_v [] [] rfl rfl (Nat.le_of_ble_eq_true rfl) rfl hT1.1 (Nat.le_of_ble_eq_true rfl)) (rc_leastUnused hT1 hk) ?_
  rw [hlu]
  rw [show lI (some r) = nI r from rfl]
  have hr := fstF_lt hlu
  refine RQ.blk 2 (pc' := 73) (lv' := [(4, .int (nI r)), (3, .int (nI l)), (0, .ref 1), (1, .int (nI v)), (2, .int 1)]) (st' := [.int (nI r)]) (H' := _) (kc' := 0) (ks' := 0) rfl ?_
  refine RQ.brT rfl rfl rfl (cT_ge r 0) ?_
  refine RQ.blk 1 (pc' := 88) (lv' := [(4, .int (nI r)), (3, .int (nI l)), (0, .ref 1), (1, .int (nI v)), (2, .int 1)]) (st' := [.int 1]) (H' := _) (kc' := 0) (ks' := 0) rfl ?_
  refine RQ.brF rfl rfl rfl (by decide) ?_
  refine RQ.blk 3 (pc' := 98) (lv' := [(5, .int 2), (4, .int (nI r)), (3, .int (nI l)), (0, .ref 1), (1, .int (nI v)), (2, .int 1)]) (st' := []) (H' := _) (kc' := 0) (ks' := 0) rfl ?_
  obtain ⟨⟨ws0, hb0⟩, Q0, hq0⟩ := hc1.2.2.2.2.2.2.2.2.1
  obtain ⟨D0, S0, K0, E0, hb0A, -⟩ := id hb0
  refine RQ.blk 1 (pc' := 99) (lv' := [(5, .int 2), (4, .int (nI r)), (3, .int (nI l)), (0, .ref 1), (1, .int (nI v)), (2, .int 1)]) (st' := [.ref 1]) (H' := _) (kc' := 0) (ks' := 0) rfl ?_
  refine RQ.get (ci := 11) rfl h01 rfl rfl ?_
  refine RQ.callN (st' := []) rfl rfl rfl rfl rfl rfl (args_v [] [] rfl rfl (Nat.le_of_ble_eq_true rfl) rfl hb0A.1 (Nat.le_of_ble_eq_true rfl)) (rn_bclearI hb0) (fun H2 hx2 => ?_)
  obtain ⟨hb2, f2⟩ := hx2
  have h02 := (f2 0 (by decide)).trans h01
  have h12 := (f2 1 (by decide)).trans h11
  have h22 := (f2 2 (by decide)).trans h21
  have hT2 : TreeAt H2 t.1 t.2.1 t.2.2.1 t.2.2.2.1 t.2.2.2.2.1 t.2.2.2.2.2 := hT1.far (fun a a1 a2 => f2 a (by omega))
  have hq2 := (f2 64 (by decide)).trans hq0
  have e52 : ∃ q : Nat, H2[5]? = some (kO 5 [.ref 7, .int (nI q)]) := ⟨q5, (f2 5 (by decide)).trans ((far1 5 (by decide)).trans h5)⟩
  have e62 : ∃ g, H2[6]? = some (kB 41 g) := ⟨p6, (f2 6 (by decide)).trans ((far1 6 (by decide)).trans h6)⟩
  refine RQ.blk 6 (pc' := 113) (lv' := [(5, .int 2), (4, .int (nI r)), (3, .int (nI l)), (0, .ref 1), (1, .int (nI v)), (2, .int 1)]) (st' := [.ref 1, .int 0, .int (nI v), .int 2, .int (nI r), .ref 1]) (H' := _) (kc' := 0) (ks' := 0) rfl ?_
  refine RQ.get (ci := 11) rfl h02 rfl rfl ?_
  refine RQ.get (ci := 5) rfl h12 rfl rfl ?_
  refine RQ.blk 2 (pc' := 121) (lv' := [(5, .int 2), (4, .int (nI r)), (3, .int (nI l)), (0, .ref 1), (1, .int (nI v)), (2, .int 1)]) (st' := [.int (nI l), .int 0, .ref 3, .int 0, .int (nI v), .int 2, .int (nI r), .ref 1]) (H' := _) (kc' := 0) (ks' := 0) rfl ?_
  refine RQ.callN (st' := []) rfl rfl rfl rfl rfl rfl (args_v [.int (nI l), .int 0, .ref 3, .int 0, .int (nI v), .int 2, .int (nI r)] [] rfl rfl (Nat.le_of_ble_eq_true rfl) rfl h02 (Nat.le_of_ble_eq_true rfl)) (rn_chNode (v := r) (k := 2) (dir := v) (s := 0) (a := 2) (na := 2000) (i := 0) (n := l) h02 e52 e62 hb2 h22 (by decide) (by decide) (by decide) (by decide) (by omega) (by omega) (by decide) (by omega) (by decide) hl2 (by decide) (by show 0 + 6 + l ≤ 4100; omega)) (fun H3 hx3 => ?_)
  obtain ⟨hb3, e53, e63, f3⟩ := hx3
  have hb3 : BatchIs H3 59 [([1, r], some ([2, v] ++ (beB 2 0 ++ sl tb 0 l)))] := hb3
  have f13 : ∀ a, a ≠ 5 → a ≠ 6 → ¬ (59 ≤ a ∧ a < 64) → H3[a]? = H1[a]? := fun a a1 a2 a3 => (f3 a a1 a2 a3).trans (f2 a (by omega))
  have hc3 : ClsA H3 B P 1 1 0 cp cb tb 0 g rl wss t := by
    obtain ⟨qa, ea⟩ := e53
    obtain ⟨pa, eb⟩ := e63
    obtain ⟨c0, c1, c2, c3, c4, -, ⟨wq2, c10, cwq⟩, cW, -, cT⟩ := hc1
    exact ⟨(f13 0 (by decide) (by decide) (by decide)).trans c0, (f13 1 (by decide) (by decide) (by decide)).trans c1, (f13 2 (by decide) (by decide) (by decide)).trans c2, (f13 3 (by decide) (by decide) (by decide)).trans c3, (f13 4 (by decide) (by decide) (by decide)).trans c4, ⟨qa, pa, ea, eb⟩, ⟨wq2, (f13 10 (by decide) (by decide) (by decide)).trans c10, cwq⟩, fun t ht => ⟨(cW t ht).1.keep (fun a a1 a2 => f13 a (by omega) (by omega) (by omega)), (cW t ht).2.imp (fun Q hQ => (f13 _ (by omega) (by omega) (by omega)).trans hQ)⟩, ⟨⟨_, hb3⟩, Q0, (f3 64 (by decide) (by decide) (by decide)).trans hq2⟩, cT.far (fun a a1 a2 => f13 a (by omega) (by omega) (by omega))⟩
  have fk3 : FrK H H3 := fk1.trans (fun a ha => f13 a (by omega) (by omega) (by omega))
  have hch3 : ChB H H3 B P 1 0 cp cb tb 0 g rl wss t [([1, r], some ([2, v] ++ (beB 2 0 ++ sl tb 0 l)))] := ⟨hc3, hb3, fk3⟩
  obtain ⟨D3, S3, K3, E3, hb3A, hb3L, hb340, hb341⟩ := id hb3
  have hb3k := hb3L.ok hb340 hb341
  have h03 := hc3.1
  have h13 := hc3.2.1
  have h23 := hc3.2.2.1
  have hT3 : TreeAt H3 t.1 t.2.1 t.2.2.1 t.2.2.2.1 t.2.2.2.2.1 t.2.2.2.2.2 := hc3.2.2.2.2.2.2.2.2.2
  refine RQ.blk 2 (pc' := 126) (lv' := [(5, .int 2), (4, .int (nI r)), (3, .int (nI l)), (0, .ref 1), (1, .int (nI v)), (2, .int 1)]) (st' := [.ref 1, .ref 1]) (H' := _) (kc' := 0) (ks' := 0) rfl ?_
  refine RQ.get (ci := 11) rfl h03 rfl rfl ?_
  refine RQ.blk 1 (pc' := 130) (lv' := [(5, .int 2), (4, .int (nI r)), (3, .int (nI l)), (0, .ref 1), (1, .int (nI v)), (2, .int 1)]) (st' := [.int (-1), .ref 60, .ref 1]) (H' := _) (kc' := 0) (ks' := 0) rfl ?_
  obtain ⟨kf, kl, mo, pl, le, al, od, sp, sz, ss, ac, hA, hVW, hvs⟩ := (hV.far (fun a a1 a2 => fk3 a (by omega)) : VersIs H3 N vs)
  refine RQ.call (v := none) (st' := []) rfl rfl rfl rfl rfl rfl (args_v [.int (-1), .ref 60] [] rfl rfl (Nat.le_of_ble_eq_true rfl) rfl h03 (Nat.le_of_ble_eq_true rfl)) (rc_reqRoom h03 hA hVW hvs hb3A hb3k hb3L (hs.far2 (fun a a1 a2 => fk3 a (by omega))) (fun t ht => Nat.lt_trans (hsm t ht) (by decide)) (fun i hi => by obtain ⟨e, he⟩ := lt_get hi; rw [(hb3L i e he).2.1]; exact (by obtain e2 := List.mem_singleton.mp (List.mem_of_getElem? he); rw [e2]; show 1 ≤ 2; decide)) (fun i j e f h1 h2 _ => by have := get_lt h1; have := get_lt h2; have q1 : i < 1 := get_lt h1; have q2 : j < 1 := get_lt h2; omega) hpr (by omega) hB hle) ?_
  refine RQ.blk 2 (pc' := 135) (lv' := [(5, .int 2), (4, .int (nI r)), (3, .int (nI l)), (0, .ref 1), (1, .int (nI v)), (2, .int 1)]) (st' := [.ref 1, .ref 1]) (H' := _) (kc' := 0) (ks' := 0) rfl ?_
  refine RQ.get (ci := 11) rfl h03 rfl rfl ?_
  refine RQ.get (ci := 0) rfl hb3A.1 rfl rfl ?_
  refine RQ.blk 2 (pc' := 143) (lv' := [(5, .int 2), (4, .int (nI r)), (3, .int (nI l)), (0, .ref 1), (1, .int (nI v)), (2, .int 1)]) (st' := [.int (nI (([([1, r], some ([2, v] ++ (beB 2 0 ++ sl tb 0 l)))]).length) + 1), .ref 1]) (H' := _) (kc' := 0) (ks' := 0) rfl ?_
  rw [show (nI (([([1, r], some ([2, v] ++ (beB 2 0 ++ sl tb 0 l)))]).length) + 1 : Int32) = nI (([([1, r], some ([2, v] ++ (beB 2 0 ++ sl tb 0 l)))]).length + 1) from nI_add (([([1, r], some ([2, v] ++ (beB 2 0 ++ sl tb 0 l)))]).length) 1]
  obtain ⟨cf, tf, pq, bb, hC3⟩ := hC0 H3 hch3
  refine RQ.call (v := none) (st' := []) rfl rfl rfl rfl rfl rfl (args_v [.int (nI (([([1, r], some ([2, v] ++ (beB 2 0 ++ sl tb 0 l)))]).length + 1))] [] rfl rfl (Nat.le_of_ble_eq_true rfl) rfl h03 (Nat.le_of_ble_eq_true rfl)) (rc_armCutM (n := ([([1, r], some ([2, v] ++ (beB 2 0 ++ sl tb 0 l)))]).length + 1) h03 hC3 (by omega) (by show ([([1, r], some ([2, v] ++ (beB 2 0 ++ sl tb 0 l)))]).length + 1 < 2 ^ 31; omega) hcp) ?_
  refine RQ.blk 2 (pc' := 148) (lv' := [(5, .int 2), (4, .int (nI r)), (3, .int (nI l)), (0, .ref 1), (1, .int (nI v)), (2, .int 1)]) (st' := [.ref 1, .ref 1]) (H' := _) (kc' := 0) (ks' := 0) rfl ?_
  have hRM3 := hRM H3 hch3
  generalize hHA : (H3.set 71 (kO 1 [.ref 73, .ref 74, .int (lI (some (cp % (([([1, r], some ([2, v] ++ (beB 2 0 ++ sl tb 0 l)))]).length + 1)))), .int (nI cb), .int (nI 0)])) = HA at hRM3 ⊢
  have g0 : HA[0]? = some (kO 11 (fvs (nI B) (nI P) 1 1 0 (nI cp) (nI cb))) := by rw [← hHA]; exact (set_far (by decide)).trans h03
  refine RQ.callB (st' := [.ref 1]) rfl rfl rfl rfl rfl rfl (args_v [] [.ref 1] rfl rfl (Nat.le_of_ble_eq_true rfl) rfl g0 (Nat.le_of_ble_eq_true rfl)) hRM3 (fun H4 hH4 => ?_) (fun H4 hH4 => ?_)
  · have g1 := hf1 H4 hH4
    refine RQ.brF rfl rfl rfl (by decide) ?_
    refine RQ.blk 2 (pc' := 156) (lv' := [(5, .int 2), (4, .int (nI r)), (3, .int (nI l)), (0, .ref 1), (1, .int (nI v)), (2, .int 1)]) (st' := [.ref 1, .ref 1, .ref 1]) (H' := _) (kc' := 0) (ks' := 0) rfl ?_
    refine RQ.get (ci := 11) rfl g1 rfl rfl ?_
    refine RQ.callB (st' := [.ref 1]) rfl rfl rfl rfl rfl rfl (args_v [.ref 60] [.ref 1] rfl rfl (Nat.le_of_ble_eq_true rfl) rfl g1 (Nat.le_of_ble_eq_true rfl)) (hST H4 hH4) (fun H5 hH5 => ?_) (fun H5 hH5 => ?_)
    · exact hH5.elim
    · have g2 := hfb H5 hH5
      refine RQ.brT rfl rfl rfl (by decide) ?_
      refine RQ.blk 1 (pc' := 170) (lv' := [(5, .int 2), (4, .int (nI r)), (3, .int (nI l)), (0, .ref 1), (1, .int (nI v)), (2, .int 1)]) (st' := [.int 0, .ref 1]) (H' := _) (kc' := 0 + 1) (ks' := 0 + 6) rfl ?_
      obtain ⟨HX, hxX, hpX⟩ := hSB H5 hH5
      exact RQ.callP (st' := []) rfl rfl rfl rfl rfl rfl (args_v [.int 0] [] rfl rfl (Nat.le_of_ble_eq_true rfl) rfl g2 (Nat.le_of_ble_eq_true rfl)) hxX rfl ⟨_, 2, by decide, rfl, hpX⟩
  · have g2 := hfb H4 hH4
    refine RQ.brT rfl rfl rfl (by decide) ?_
    refine RQ.blk 1 (pc' := 170) (lv' := [(5, .int 2), (4, .int (nI r)), (3, .int (nI l)), (0, .ref 1), (1, .int (nI v)), (2, .int 1)]) (st' := [.int 0, .ref 1]) (H' := _) (kc' := 0 + 1) (ks' := 0 + 6) rfl ?_
    obtain ⟨HX, hxX, hpX⟩ := hSB H4 hH4
    exact RQ.callP (st' := []) rfl rfl rfl rfl rfl rfl (args_v [.int 0] [] rfl rfl (Nat.le_of_ble_eq_true rfl) rfl g2 (Nat.le_of_ble_eq_true rfl)) hxX rfl ⟨_, 2, by decide, rfl, hpX⟩
