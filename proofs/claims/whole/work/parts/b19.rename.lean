/-! ===== rename out of its parts; class; written by wip/gen/chm4.py ===== -/
theorem rc_isNumN {sc : Nat × (Nat → Int32)} {d : Nat} {H : aH} : RC sc d mr_211 [.ref 66, .int (-1)] H (.inl (some (.int 0))) H 0 0 := by
  refine RC.of ?_
  refine RQ.blk 1 (pc' := 1) (lv' := [(0, .ref 66), (1, .int (-1))]) (st' := [.int (-1)]) (H' := _) (kc' := 0) (ks' := 0) rfl ?_
  refine RQ.brT rfl rfl rfl (by decide) ?_
  refine RQ.blk 1 (pc' := 16) (lv' := [(0, .ref 66), (1, .int (-1))]) (st' := [.int 0]) (H' := _) (kc' := 0) (ks' := 0) rfl ?_
  exact RQ.done (c := 0) (s := 0) rfl rfl rfl rfl rfl
theorem rc_kindN {sc : Nat × (Nat → Int32)} {d : Nat} {H : aH} {fs : List Value} (h : H[65]? = some (kO 9 fs)) : RC sc (d + 1) mr_210 [.ref 66, .int (-1)] H (.inl (some (.int 0))) H 0 0 := by
  refine RC.of ?_
  refine RQ.blk 2 (pc' := 2) (lv' := [(0, .ref 66), (1, .int (-1))]) (st' := [.int (-1), .ref 66]) (H' := _) (kc' := 0) (ks' := 0) rfl ?_
  refine RQ.call (v := some (.int 0)) (st' := []) rfl rfl rfl rfl rfl rfl (args_v [.int (-1)] [] rfl rfl (Nat.le_of_ble_eq_true rfl) rfl h (Nat.le_of_ble_eq_true rfl)) rc_isNumN ?_
  refine RQ.brT rfl rfl rfl (by decide) ?_
  refine RQ.blk 1 (pc' := 18) (lv' := [(0, .ref 66), (1, .int (-1))]) (st' := [.int 0]) (H' := _) (kc' := 0) (ks' := 0) rfl ?_
  exact RQ.done (c := 0) (s := 0) rfl rfl rfl rfl rfl
theorem rc_isDirN {sc : Nat × (Nat → Int32)} {d : Nat} {H : aH} {fs : List Value} (h : H[65]? = some (kO 9 fs)) : RC sc (d + 2) mr_209 [.ref 66, .int (-1)] H (.inl (some (.int 0))) H 0 0 := by
  refine RC.of ?_
  refine RQ.blk 2 (pc' := 2) (lv' := [(0, .ref 66), (1, .int (-1))]) (st' := [.int (-1), .ref 66]) (H' := _) (kc' := 0) (ks' := 0) rfl ?_
  refine RQ.call (v := some (.int 0)) (st' := []) rfl rfl rfl rfl rfl rfl (args_v [.int (-1)] [] rfl rfl (Nat.le_of_ble_eq_true rfl) rfl h (Nat.le_of_ble_eq_true rfl)) (rc_kindN h) ?_
  refine RQ.blk 1 (pc' := 6) (lv' := [(0, .ref 66), (1, .int (-1))]) (st' := [.int 2, .int 0]) (H' := _) (kc' := 0) (ks' := 0) rfl ?_
  refine RQ.brT rfl rfl rfl (by decide) ?_
  refine RQ.blk 1 (pc' := 14) (lv' := [(0, .ref 66), (1, .int (-1))]) (st' := [.int 0]) (H' := _) (kc' := 0) (ks' := 0) rfl ?_
  exact RQ.done (c := 0) (s := 0) rfl rfl rfl rfl rfl
theorem rc_unsetN {sc : Nat × (Nat → Int32)} {d : Nat} {H : aH} : RC sc d mr_231 [.ref 66, .int (-1)] H (.inl none) H 0 0 := by
  refine RC.of ?_
  refine RQ.blk 2 (pc' := 2) (lv' := [(0, .ref 66), (1, .int (-1))]) (st' := [.int 1, .int (-1)]) (H' := _) (kc' := 0) (ks' := 0) rfl ?_
  refine RQ.brT rfl rfl rfl (by decide) ?_
  exact RQ.done (c := 0) (s := 0) rfl rfl rfl rfl rfl
set_option maxRecDepth 20000 in
theorem rx_rename_down {sc : Nat × (Nat → Int32)} {d : Nat} {H : aH} {B P : Nat} {cw cl : Int32} {cp cb : Nat} {tb : Nat → Int8} {l : Nat} {g : Nat → Int8} {rl : Nat} {wss : Nat → List aE} {t : aTr} {v u k : Nat} (h : ClsA H B P 0 cw cl cp cb tb l g rl wss t) (hv : v ≤ 200) (hu : u ≤ 200) (hk1 : 1 ≤ k) (hk2 : k ≤ 30) (hk3 : k + 1 ≤ l) (hk4 : l ≤ k + 30) (hnm : ∀ j, j < k → ¬ btB tb l (0 + j) = 47) (hnm2 : ∀ j, j < l - k → ¬ btB tb l (k + j) = 47) : RX sc (d + 8) mr_233 [.ref 1, .int (nI v), .int (nI u), .int (nI k)] H 1 (fun H' => ClsA H' B P 0 cw cl cp cb tb l g rl wss t ∧ FrK H H') := by
  obtain ⟨h0, h1, h2, h3, h4, ⟨q5, p6, h5, h6⟩, ⟨wq, h10, hwq⟩, hW, hCh, hT⟩ := id h
  refine RX.of ?_
  refine RQ.blk 2 (pc' := 2) (lv' := [(0, .ref 1), (1, .int (nI v)), (2, .int (nI u)), (3, .int (nI k))]) (st' := [.int (nI v), .ref 1]) (H' := _) (kc' := 0) (ks' := 0) rfl ?_
  refine RQ.call (v := none) (st' := []) rfl rfl rfl rfl rfl rfl (args_v [.int (nI v)] [] rfl rfl (Nat.le_of_ble_eq_true rfl) rfl h0 (Nat.le_of_ble_eq_true rfl)) (rc_reqNum h0 hv) ?_
  refine RQ.blk 2 (pc' := 7) (lv' := [(0, .ref 1), (1, .int (nI v)), (2, .int (nI u)), (3, .int (nI k))]) (st' := [.int (nI u), .ref 1]) (H' := _) (kc' := 0) (ks' := 0) rfl ?_
  refine RQ.call (v := none) (st' := []) rfl rfl rfl rfl rfl rfl (args_v [.int (nI u)] [] rfl rfl (Nat.le_of_ble_eq_true rfl) rfl h0 (Nat.le_of_ble_eq_true rfl)) (rc_reqNum h0 hu) ?_
  refine RQ.blk 5 (pc' := 16) (lv' := [(0, .ref 1), (1, .int (nI v)), (2, .int (nI u)), (3, .int (nI k))]) (st' := [.ref 1, .int 30, .int 1, .int (nI k), .ref 1]) (H' := _) (kc' := 0) (ks' := 0) rfl ?_
  refine RQ.get (ci := 11) rfl h0 rfl rfl ?_
  refine RQ.get (ci := 5) rfl h1 rfl rfl ?_
  refine RQ.blk 1 (pc' := 25) (lv' := [(0, .ref 1), (1, .int (nI v)), (2, .int (nI u)), (3, .int (nI k))]) (st' := [.int (if nI l < 30 then nI l else 30), .int 1, .int (nI k), .ref 1]) (H' := _) (kc' := 0) (ks' := 0) rfl ?_
  rw [show (if nI l < 30 then nI l else 30 : Int32) = nI (min 30 l) from minI (a := 30) (b := l) (by omega) (by omega)]
  refine RQ.call (v := none) (st' := []) rfl rfl rfl rfl rfl rfl (args_v [.int (nI (min 30 l)), .int 1, .int (nI k)] [] rfl rfl (Nat.le_of_ble_eq_true rfl) rfl h0 (Nat.le_of_ble_eq_true rfl)) (rc_range (fun e => absurd e (nI_nlt hk1 (by omega))) (rg_hi (n := min 30 l) (by omega) (by omega))) ?_
  refine RQ.blk 3 (pc' := 31) (lv' := [(0, .ref 1), (1, .int (nI v)), (2, .int (nI u)), (3, .int (nI k))]) (st' := [.int (nI k), .int 0, .ref 1]) (H' := _) (kc' := 0) (ks' := 0) rfl ?_
  refine RQ.call (v := none) (st' := []) rfl rfl rfl rfl rfl rfl (args_v [.int (nI k), .int 0] [] rfl rfl (Nat.le_of_ble_eq_true rfl) rfl h0 (Nat.le_of_ble_eq_true rfl)) (rc_requireName1 (i := 0) h0 ⟨h1, h2, by decide, by decide⟩ (by omega) (by decide) hk1 hk2 hnm) ?_
  refine RQ.blk 3 (pc' := 37) (lv' := [(0, .ref 1), (1, .int (nI v)), (2, .int (nI u)), (3, .int (nI k))]) (st' := [.ref 1, .int (nI k), .ref 1]) (H' := _) (kc' := 0) (ks' := 0) rfl ?_
  refine RQ.get (ci := 11) rfl h0 rfl rfl ?_
  refine RQ.get (ci := 5) rfl h1 rfl rfl ?_
  refine RQ.blk 2 (pc' := 45) (lv' := [(0, .ref 1), (1, .int (nI v)), (2, .int (nI u)), (3, .int (nI k))]) (st' := [.int (nI l - nI k), .int (nI k), .ref 1]) (H' := _) (kc' := 0) (ks' := 0) rfl ?_
  rw [show (nI l - nI k : Int32) = nI (l - k) from pk_sub (a := l) (b := k) (by omega)]
  refine RQ.call (v := none) (st' := []) rfl rfl rfl rfl rfl rfl (args_v [.int (nI (l - k)), .int (nI k)] [] rfl rfl (Nat.le_of_ble_eq_true rfl) rfl h0 (Nat.le_of_ble_eq_true rfl)) (rc_requireName1 (i := k) (n := l - k) h0 ⟨h1, h2, by decide, by decide⟩ (by omega) (by omega) (by omega) (by omega) hnm2) ?_
  refine RQ.blk 1 (pc' := 49) (lv' := [(0, .ref 1), (1, .int (nI v)), (2, .int (nI u)), (3, .int (nI k))]) (st' := [.ref 1]) (H' := _) (kc' := 0) (ks' := 0) rfl ?_
  exact RQ.callP (st' := []) rfl rfl rfl rfl rfl rfl (args_v [] [] rfl rfl (Nat.le_of_ble_eq_true rfl) rfl h0 (Nat.le_of_ble_eq_true rfl)) (rc_down h0 rfl) rfl ⟨_, rfl, h, FrK.rfl'⟩
set_option maxRecDepth 20000 in
theorem rx_rename_no1 {sc : Nat × (Nat → Int32)} {d : Nat} {H : aH} {B P : Nat} {cw cl : Int32} {cp cb : Nat} {tb : Nat → Int8} {l : Nat} {g : Nat → Int8} {rl : Nat} {wss : Nat → List aE} {t : aTr} {v u k : Nat} (h : ClsA H B P 1 cw cl cp cb tb l g rl wss t) (hk : TreeOk t.1 t.2.1 t.2.2.1 t.2.2.2.1) (hv : v ≤ 200) (hu : u ≤ 200) (hk1 : 1 ≤ k) (hk2 : k ≤ 30) (hk3 : k + 1 ≤ l) (hk4 : l ≤ k + 30) (hnm : ∀ j, j < k → ¬ btB tb l (0 + j) = 47) (hnm2 : ∀ j, j < l - k → ¬ btB tb l (k + j) = 47) (hkd : ¬ t.1 v = 2) : RX sc (d + 8) mr_233 [.ref 1, .int (nI v), .int (nI u), .int (nI k)] H 3 (fun H' => ClsA H' B P 1 cw cl cp cb tb 0 g rl wss t ∧ FrK H H') := by
  obtain ⟨h0, h1, h2, h3, h4, ⟨q5, p6, h5, h6⟩, ⟨wq, h10, hwq⟩, hW, hCh, hT⟩ := id h
  refine RX.of ?_
  have hkv := hk v hv
  refine RQ.blk 2 (pc' := 2) (lv' := [(0, .ref 1), (1, .int (nI v)), (2, .int (nI u)), (3, .int (nI k))]) (st' := [.int (nI v), .ref 1]) (H' := _) (kc' := 0) (ks' := 0) rfl ?_
  refine RQ.call (v := none) (st' := []) rfl rfl rfl rfl rfl rfl (args_v [.int (nI v)] [] rfl rfl (Nat.le_of_ble_eq_true rfl) rfl h0 (Nat.le_of_ble_eq_true rfl)) (rc_reqNum h0 hv) ?_
  refine RQ.blk 2 (pc' := 7) (lv' := [(0, .ref 1), (1, .int (nI v)), (2, .int (nI u)), (3, .int (nI k))]) (st' := [.int (nI u), .ref 1]) (H' := _) (kc' := 0) (ks' := 0) rfl ?_
  refine RQ.call (v := none) (st' := []) rfl rfl rfl rfl rfl rfl (args_v [.int (nI u)] [] rfl rfl (Nat.le_of_ble_eq_true rfl) rfl h0 (Nat.le_of_ble_eq_true rfl)) (rc_reqNum h0 hu) ?_
  refine RQ.blk 5 (pc' := 16) (lv' := [(0, .ref 1), (1, .int (nI v)), (2, .int (nI u)), (3, .int (nI k))]) (st' := [.ref 1, .int 30, .int 1, .int (nI k), .ref 1]) (H' := _) (kc' := 0) (ks' := 0) rfl ?_
  refine RQ.get (ci := 11) rfl h0 rfl rfl ?_
  refine RQ.get (ci := 5) rfl h1 rfl rfl ?_
  refine RQ.blk 1 (pc' := 25) (lv' := [(0, .ref 1), (1, .int (nI v)), (2, .int (nI u)), (3, .int (nI k))]) (st' := [.int (if nI l < 30 then nI l else 30), .int 1, .int (nI k), .ref 1]) (H' := _) (kc' := 0) (ks' := 0) rfl ?_
  rw [show (if nI l < 30 then nI l else 30 : Int32) = nI (min 30 l) from minI (a := 30) (b := l) (by omega) (by omega)]
  refine RQ.call (v := none) (st' := []) rfl rfl rfl rfl rfl rfl (args_v [.int (nI (min 30 l)), .int 1, .int (nI k)] [] rfl rfl (Nat.le_of_ble_eq_true rfl) rfl h0 (Nat.le_of_ble_eq_true rfl)) (rc_range (fun e => absurd e (nI_nlt hk1 (by omega))) (rg_hi (n := min 30 l) (by omega) (by omega))) ?_
  refine RQ.blk 3 (pc' := 31) (lv' := [(0, .ref 1), (1, .int (nI v)), (2, .int (nI u)), (3, .int (nI k))]) (st' := [.int (nI k), .int 0, .ref 1]) (H' := _) (kc' := 0) (ks' := 0) rfl ?_
  refine RQ.call (v := none) (st' := []) rfl rfl rfl rfl rfl rfl (args_v [.int (nI k), .int 0] [] rfl rfl (Nat.le_of_ble_eq_true rfl) rfl h0 (Nat.le_of_ble_eq_true rfl)) (rc_requireName1 (i := 0) h0 ⟨h1, h2, by decide, by decide⟩ (by omega) (by decide) hk1 hk2 hnm) ?_
  refine RQ.blk 3 (pc' := 37) (lv' := [(0, .ref 1), (1, .int (nI v)), (2, .int (nI u)), (3, .int (nI k))]) (st' := [.ref 1, .int (nI k), .ref 1]) (H' := _) (kc' := 0) (ks' := 0) rfl ?_
  refine RQ.get (ci := 11) rfl h0 rfl rfl ?_
  refine RQ.get (ci := 5) rfl h1 rfl rfl ?_
  refine RQ.blk 2 (pc' := 45) (lv' := [(0, .ref 1), (1, .int (nI v)), (2, .int (nI u)), (3, .int (nI k))]) (st' := [.int (nI l - nI k), .int (nI k), .ref 1]) (H' := _) (kc' := 0) (ks' := 0) rfl ?_
  rw [show (nI l - nI k : Int32) = nI (l - k) from pk_sub (a := l) (b := k) (by omega)]
  refine RQ.call (v := none) (st' := []) rfl rfl rfl rfl rfl rfl (args_v [.int (nI (l - k)), .int (nI k)] [] rfl rfl (Nat.le_of_ble_eq_true rfl) rfl h0 (Nat.le_of_ble_eq_true rfl)) (rc_requireName1 (i := k) (n := l - k) h0 ⟨h1, h2, by decide, by decide⟩ (by omega) (by omega) (by omega) (by omega) hnm2) ?_
  refine RQ.blk 1 (pc' := 49) (lv' := [(0, .ref 1), (1, .int (nI v)), (2, .int (nI u)), (3, .int (nI k))]) (st' := [.ref 1]) (H' := _) (kc' := 0) (ks' := 0) rfl ?_
  refine RQ.call (v := none) (st' := []) rfl rfl rfl rfl rfl rfl (args_v [] [] rfl rfl (Nat.le_of_ble_eq_true rfl) rfl h0 (Nat.le_of_ble_eq_true rfl)) (rc_up h0 rfl) ?_
  refine RQ.blk 1 (pc' := 53) (lv' := [(0, .ref 1), (1, .int (nI v)), (2, .int (nI u)), (3, .int (nI k))]) (st' := [.ref 1]) (H' := _) (kc' := 0) (ks' := 0) rfl ?_
  refine RQ.call (v := some (.int (nI l))) (st' := []) rfl rfl rfl rfl rfl rfl (args_v [] [] rfl rfl (Nat.le_of_ble_eq_true rfl) rfl h0 (Nat.le_of_ble_eq_true rfl)) (rc_takeTape h0 h1) ?_
  have far1 : ∀ a, a ≠ 1 → (H.set 1 (kO 5 [.ref 3, .int (nI 0)]))[a]? = H[a]? := fun a ha => set_far ha
  have h11 : (H.set 1 (kO 5 [.ref 3, .int (nI 0)]))[1]? = some (kO 5 [.ref 3, .int (nI 0)]) := get_set h1
  refine RQ.blk 2 (pc' := 58) (lv' := [(0, .ref 1), (1, .int (nI v)), (2, .int (nI u)), (3, .int (nI k))]) (st' := [.int (nI l - nI k)]) (H' := _) (kc' := 0) (ks' := 0) rfl ?_
  rw [show (nI l - nI k : Int32) = nI (l - k) from pk_sub (a := l) (b := k) (by omega)]
  refine RQ.blk 1 (pc' := 60) (lv' := [(4, .int (nI (l - k))), (0, .ref 1), (1, .int (nI v)), (2, .int (nI u)), (3, .int (nI k))]) (st' := []) (H' := _) (kc' := 0) (ks' := 0) rfl ?_
  show RQ _ _ _ 60 [(4, .int (nI (l - k))), (0, .ref 1), (1, .int (nI v)), (2, .int (nI u)), (3, .int (nI k))] [] (H.set 1 (kO 5 [.ref 3, .int (nI 0)])) 0 0 _
  generalize (H.set 1 (kO 5 [.ref 3, .int (nI 0)])) = H1 at far1 h11 ⊢
  have h01 := (far1 0 (by decide)).trans h0
  have h21 := (far1 2 (by decide)).trans h2
  have hT1 : TreeAt H1 t.1 t.2.1 t.2.2.1 t.2.2.2.1 t.2.2.2.2.1 t.2.2.2.2.2 := hT.far (fun a a1 a2 => far1 a (by omega))
  have hc1 : ClsA H1 B P 1 cw cl cp cb tb 0 g rl wss t := h.small h01 h11 h21 ((far1 3 (by decide)).trans h3) ((far1 4 (by decide)).trans h4) ⟨q5, p6, (far1 5 (by decide)).trans h5, (far1 6 (by decide)).trans h6⟩ (fun a a1 a2 => far1 a (by omega))
  have fk1 : FrK H H1 := fun a ha => far1 a (by omega)
  refine RQ.blk 2 (pc' := 62) (lv' := [(4, .int (nI (l - k))), (0, .ref 1), (1, .int (nI v)), (2, .int (nI u)), (3, .int (nI k))]) (st' := [.int (nI v), .ref 1]) (H' := _) (kc' := 0) (ks' := 0) rfl ?_
  exact RQ.callP (st' := []) rfl rfl rfl rfl rfl rfl (args_v [.int (nI v)] [] rfl rfl (Nat.le_of_ble_eq_true rfl) rfl h01 (Nat.le_of_ble_eq_true rfl)) (rc_reqDirX h01 rfl hT1.1 rfl hT1.2.1 hv (nI_ne2 hkv.1 hkd)) rfl ⟨_, rfl, hc1, fk1⟩
set_option maxRecDepth 20000 in
theorem rx_rename_no2 {sc : Nat × (Nat → Int32)} {d : Nat} {H : aH} {B P : Nat} {cw cl : Int32} {cp cb : Nat} {tb : Nat → Int8} {l : Nat} {g : Nat → Int8} {rl : Nat} {wss : Nat → List aE} {t : aTr} {v u k : Nat} (h : ClsA H B P 1 cw cl cp cb tb l g rl wss t) (hk : TreeOk t.1 t.2.1 t.2.2.1 t.2.2.2.1) (hv : v ≤ 200) (hu : u ≤ 200) (hk1 : 1 ≤ k) (hk2 : k ≤ 30) (hk3 : k + 1 ≤ l) (hk4 : l ≤ k + 30) (hnm : ∀ j, j < k → ¬ btB tb l (0 + j) = 47) (hnm2 : ∀ j, j < l - k → ¬ btB tb l (k + j) = 47) (hkd : t.1 v = 2) (hkd2 : ¬ t.1 u = 2) : RX sc (d + 8) mr_233 [.ref 1, .int (nI v), .int (nI u), .int (nI k)] H 3 (fun H' => ClsA H' B P 1 cw cl cp cb tb 0 g rl wss t ∧ FrK H H') := by
  obtain ⟨h0, h1, h2, h3, h4, ⟨q5, p6, h5, h6⟩, ⟨wq, h10, hwq⟩, hW, hCh, hT⟩ := id h
  refine RX.of ?_
  have hkv := hk u hu
  refine RQ.blk 2 (pc' := 2) (lv' := [(0, .ref 1), (1, .int (nI v)), (2, .int (nI u)), (3, .int (nI k))]) (st' := [.int (nI v), .ref 1]) (H' := _) (kc' := 0) (ks' := 0) rfl ?_
  refine RQ.call (v := none) (st' := []) rfl rfl rfl rfl rfl rfl (args_v [.int (nI v)] [] rfl rfl (Nat.le_of_ble_eq_true rfl) rfl h0 (Nat.le_of_ble_eq_true rfl)) (rc_reqNum h0 hv) ?_
  refine RQ.blk 2 (pc' := 7) (lv' := [(0, .ref 1), (1, .int (nI v)), (2, .int (nI u)), (3, .int (nI k))]) (st' := [.int (nI u), .ref 1]) (H' := _) (kc' := 0) (ks' := 0) rfl ?_
  refine RQ.call (v := none) (st' := []) rfl rfl rfl rfl rfl rfl (args_v [.int (nI u)] [] rfl rfl (Nat.le_of_ble_eq_true rfl) rfl h0 (Nat.le_of_ble_eq_true rfl)) (rc_reqNum h0 hu) ?_
  refine RQ.blk 5 (pc' := 16) (lv' := [(0, .ref 1), (1, .int (nI v)), (2, .int (nI u)), (3, .int (nI k))]) (st' := [.ref 1, .int 30, .int 1, .int (nI k), .ref 1]) (H' := _) (kc' := 0) (ks' := 0) rfl ?_
  refine RQ.get (ci := 11) rfl h0 rfl rfl ?_
  refine RQ.get (ci := 5) rfl h1 rfl rfl ?_
  refine RQ.blk 1 (pc' := 25) (lv' := [(0, .ref 1), (1, .int (nI v)), (2, .int (nI u)), (3, .int (nI k))]) (st' := [.int (if nI l < 30 then nI l else 30), .int 1, .int (nI k), .ref 1]) (H' := _) (kc' := 0) (ks' := 0) rfl ?_
  rw [show (if nI l < 30 then nI l else 30 : Int32) = nI (min 30 l) from minI (a := 30) (b := l) (by omega) (by omega)]
  refine RQ.call (v := none) (st' := []) rfl rfl rfl rfl rfl rfl (args_v [.int (nI (min 30 l)), .int 1, .int (nI k)] [] rfl rfl (Nat.le_of_ble_eq_true rfl) rfl h0 (Nat.le_of_ble_eq_true rfl)) (rc_range (fun e => absurd e (nI_nlt hk1 (by omega))) (rg_hi (n := min 30 l) (by omega) (by omega))) ?_
  refine RQ.blk 3 (pc' := 31) (lv' := [(0, .ref 1), (1, .int (nI v)), (2, .int (nI u)), (3, .int (nI k))]) (st' := [.int (nI k), .int 0, .ref 1]) (H' := _) (kc' := 0) (ks' := 0) rfl ?_
  refine RQ.call (v := none) (st' := []) rfl rfl rfl rfl rfl rfl (args_v [.int (nI k), .int 0] [] rfl rfl (Nat.le_of_ble_eq_true rfl) rfl h0 (Nat.le_of_ble_eq_true rfl)) (rc_requireName1 (i := 0) h0 ⟨h1, h2, by decide, by decide⟩ (by omega) (by decide) hk1 hk2 hnm) ?_
  refine RQ.blk 3 (pc' := 37) (lv' := [(0, .ref 1), (1, .int (nI v)), (2, .int (nI u)), (3, .int (nI k))]) (st' := [.ref 1, .int (nI k), .ref 1]) (H' := _) (kc' := 0) (ks' := 0) rfl ?_
  refine RQ.get (ci := 11) rfl h0 rfl rfl ?_
  refine RQ.get (ci := 5) rfl h1 rfl rfl ?_
  refine RQ.blk 2 (pc' := 45) (lv' := [(0, .ref 1), (1, .int (nI v)), (2, .int (nI u)), (3, .int (nI k))]) (st' := [.int (nI l - nI k), .int (nI k), .ref 1]) (H' := _) (kc' := 0) (ks' := 0) rfl ?_
  rw [show (nI l - nI k : Int32) = nI (l - k) from pk_sub (a := l) (b := k) (by omega)]
  refine RQ.call (v := none) (st' := []) rfl rfl rfl rfl rfl rfl (args_v [.int (nI (l - k)), .int (nI k)] [] rfl rfl (Nat.le_of_ble_eq_true rfl) rfl h0 (Nat.le_of_ble_eq_true rfl)) (rc_requireName1 (i := k) (n := l - k) h0 ⟨h1, h2, by decide, by decide⟩ (by omega) (by omega) (by omega) (by omega) hnm2) ?_
  refine RQ.blk 1 (pc' := 49) (lv' := [(0, .ref 1), (1, .int (nI v)), (2, .int (nI u)), (3, .int (nI k))]) (st' := [.ref 1]) (H' := _) (kc' := 0) (ks' := 0) rfl ?_
  refine RQ.call (v := none) (st' := []) rfl rfl rfl rfl rfl rfl (args_v [] [] rfl rfl (Nat.le_of_ble_eq_true rfl) rfl h0 (Nat.le_of_ble_eq_true rfl)) (rc_up h0 rfl) ?_
  refine RQ.blk 1 (pc' := 53) (lv' := [(0, .ref 1), (1, .int (nI v)), (2, .int (nI u)), (3, .int (nI k))]) (st' := [.ref 1]) (H' := _) (kc' := 0) (ks' := 0) rfl ?_
  refine RQ.call (v := some (.int (nI l))) (st' := []) rfl rfl rfl rfl rfl rfl (args_v [] [] rfl rfl (Nat.le_of_ble_eq_true rfl) rfl h0 (Nat.le_of_ble_eq_true rfl)) (rc_takeTape h0 h1) ?_
  have far1 : ∀ a, a ≠ 1 → (H.set 1 (kO 5 [.ref 3, .int (nI 0)]))[a]? = H[a]? := fun a ha => set_far ha
  have h11 : (H.set 1 (kO 5 [.ref 3, .int (nI 0)]))[1]? = some (kO 5 [.ref 3, .int (nI 0)]) := get_set h1
  refine RQ.blk 2 (pc' := 58) (lv' := [(0, .ref 1), (1, .int (nI v)), (2, .int (nI u)), (3, .int (nI k))]) (st' := [.int (nI l - nI k)]) (H' := _) (kc' := 0) (ks' := 0) rfl ?_
  rw [show (nI l - nI k : Int32) = nI (l - k) from pk_sub (a := l) (b := k) (by omega)]
  refine RQ.blk 1 (pc' := 60) (lv' := [(4, .int (nI (l - k))), (0, .ref 1), (1, .int (nI v)), (2, .int (nI u)), (3, .int (nI k))]) (st' := []) (H' := _) (kc' := 0) (ks' := 0) rfl ?_
  show RQ _ _ _ 60 [(4, .int (nI (l - k))), (0, .ref 1), (1, .int (nI v)), (2, .int (nI u)), (3, .int (nI k))] [] (H.set 1 (kO 5 [.ref 3, .int (nI 0)])) 0 0 _
  generalize (H.set 1 (kO 5 [.ref 3, .int (nI 0)])) = H1 at far1 h11 ⊢
  have h01 := (far1 0 (by decide)).trans h0
  have h21 := (far1 2 (by decide)).trans h2
  have hT1 : TreeAt H1 t.1 t.2.1 t.2.2.1 t.2.2.2.1 t.2.2.2.2.1 t.2.2.2.2.2 := hT.far (fun a a1 a2 => far1 a (by omega))
  have hc1 : ClsA H1 B P 1 cw cl cp cb tb 0 g rl wss t := h.small h01 h11 h21 ((far1 3 (by decide)).trans h3) ((far1 4 (by decide)).trans h4) ⟨q5, p6, (far1 5 (by decide)).trans h5, (far1 6 (by decide)).trans h6⟩ (fun a a1 a2 => far1 a (by omega))
  have fk1 : FrK H H1 := fun a ha => far1 a (by omega)
  refine RQ.blk 2 (pc' := 62) (lv' := [(4, .int (nI (l - k))), (0, .ref 1), (1, .int (nI v)), (2, .int (nI u)), (3, .int (nI k))]) (st' := [.int (nI v), .ref 1]) (H' := _) (kc' := 0) (ks' := 0) rfl ?_
  refine RQ.call (v := none) (st' := []) rfl rfl rfl rfl rfl rfl (args_v [.int (nI v)] [] rfl rfl (Nat.le_of_ble_eq_true rfl) rfl h01 (Nat.le_of_ble_eq_true rfl)) (rc_reqDir h01 rfl hT1.1 rfl hT1.2.1 hv (nI_is2 hkd)) ?_
  refine RQ.blk 2 (pc' := 67) (lv' := [(4, .int (nI (l - k))), (0, .ref 1), (1, .int (nI v)), (2, .int (nI u)), (3, .int (nI k))]) (st' := [.int (nI u), .ref 1]) (H' := _) (kc' := 0) (ks' := 0) rfl ?_
  exact RQ.callP (st' := []) rfl rfl rfl rfl rfl rfl (args_v [.int (nI u)] [] rfl rfl (Nat.le_of_ble_eq_true rfl) rfl h01 (Nat.le_of_ble_eq_true rfl)) (rc_reqDirX h01 rfl hT1.1 rfl hT1.2.1 hu (nI_ne2 hkv.1 hkd2)) rfl ⟨_, rfl, hc1, fk1⟩
set_option maxRecDepth 20000 in
theorem rx_rename_none {sc : Nat × (Nat → Int32)} {d : Nat} {H : aH} {B P : Nat} {cw cl : Int32} {cp cb : Nat} {tb : Nat → Int8} {l : Nat} {g : Nat → Int8} {rl : Nat} {wss : Nat → List aE} {t : aTr} {v u k : Nat} (h : ClsA H B P 1 cw cl cp cb tb l g rl wss t) (hk : TreeOk t.1 t.2.1 t.2.2.1 t.2.2.2.1) (hv : v ≤ 200) (hu : u ≤ 200) (hk1 : 1 ≤ k) (hk2 : k ≤ 30) (hk3 : k + 1 ≤ l) (hk4 : l ≤ k + 30) (hnm : ∀ j, j < k → ¬ btB tb l (0 + j) = 47) (hnm2 : ∀ j, j < l - k → ¬ btB tb l (k + j) = 47) (hkd : t.1 v = 2) (hkd2 : t.1 u = 2) (hc1x : fstF (inN t.1 t.2.1 t.2.2.2.1 t.2.2.2.2.1 v (sl tb 0 k)) 1 200 = none) : RX sc (d + 8) mr_233 [.ref 1, .int (nI v), .int (nI u), .int (nI k)] H 3 (fun H' => ClsA H' B P 1 cw cl cp cb tb 0 g rl wss t ∧ FrK H H') := by
  obtain ⟨h0, h1, h2, h3, h4, ⟨q5, p6, h5, h6⟩, ⟨wq, h10, hwq⟩, hW, hCh, hT⟩ := id h
  refine RX.of ?_
  refine RQ.blk 2 (pc' := 2) (lv' := [(0, .ref 1), (1, .int (nI v)), (2, .int (nI u)), (3, .int (nI k))]) (st' := [.int (nI v), .ref 1]) (H' := _) (kc' := 0) (ks' := 0) rfl ?_
  refine RQ.call (v := none) (st' := []) rfl rfl rfl rfl rfl rfl (args_v [.int (nI v)] [] rfl rfl (Nat.le_of_ble_eq_true rfl) rfl h0 (Nat.le_of_ble_eq_true rfl)) (rc_reqNum h0 hv) ?_
  refine RQ.blk 2 (pc' := 7) (lv' := [(0, .ref 1), (1, .int (nI v)), (2, .int (nI u)), (3, .int (nI k))]) (st' := [.int (nI u), .ref 1]) (H' := _) (kc' := 0) (ks' := 0) rfl ?_
  refine RQ.call (v := none) (st' := []) rfl rfl rfl rfl rfl rfl (args_v [.int (nI u)] [] rfl rfl (Nat.le_of_ble_eq_true rfl) rfl h0 (Nat.le_of_ble_eq_true rfl)) (rc_reqNum h0 hu) ?_
  refine RQ.blk 5 (pc' := 16) (lv' := [(0, .ref 1), (1, .int (nI v)), (2, .int (nI u)), (3, .int (nI k))]) (st' := [.ref 1, .int 30, .int 1, .int (nI k), .ref 1]) (H' := _) (kc' := 0) (ks' := 0) rfl ?_
  refine RQ.get (ci := 11) rfl h0 rfl rfl ?_
  refine RQ.get (ci := 5) rfl h1 rfl rfl ?_
  refine RQ.blk 1 (pc' := 25) (lv' := [(0, .ref 1), (1, .int (nI v)), (2, .int (nI u)), (3, .int (nI k))]) (st' := [.int (if nI l < 30 then nI l else 30), .int 1, .int (nI k), .ref 1]) (H' := _) (kc' := 0) (ks' := 0) rfl ?_
  rw [show (if nI l < 30 then nI l else 30 : Int32) = nI (min 30 l) from minI (a := 30) (b := l) (by omega) (by omega)]
  refine RQ.call (v := none) (st' := []) rfl rfl rfl rfl rfl rfl (args_v [.int (nI (min 30 l)), .int 1, .int (nI k)] [] rfl rfl (Nat.le_of_ble_eq_true rfl) rfl h0 (Nat.le_of_ble_eq_true rfl)) (rc_range (fun e => absurd e (nI_nlt hk1 (by omega))) (rg_hi (n := min 30 l) (by omega) (by omega))) ?_
  refine RQ.blk 3 (pc' := 31) (lv' := [(0, .ref 1), (1, .int (nI v)), (2, .int (nI u)), (3, .int (nI k))]) (st' := [.int (nI k), .int 0, .ref 1]) (H' := _) (kc' := 0) (ks' := 0) rfl ?_
  refine RQ.call (v := none) (st' := []) rfl rfl rfl rfl rfl rfl (args_v [.int (nI k), .int 0] [] rfl rfl (Nat.le_of_ble_eq_true rfl) rfl h0 (Nat.le_of_ble_eq_true rfl)) (rc_requireName1 (i := 0) h0 ⟨h1, h2, by decide, by decide⟩ (by omega) (by decide) hk1 hk2 hnm) ?_
  refine RQ.blk 3 (pc' := 37) (lv' := [(0, .ref 1), (1, .int (nI v)), (2, .int (nI u)), (3, .int (nI k))]) (st' := [.ref 1, .int (nI k), .ref 1]) (H' := _) (kc' := 0) (ks' := 0) rfl ?_
  refine RQ.get (ci := 11) rfl h0 rfl rfl ?_
  refine RQ.get (ci := 5) rfl h1 rfl rfl ?_
  refine RQ.blk 2 (pc' := 45) (lv' := [(0, .ref 1), (1, .int (nI v)), (2, .int (nI u)), (3, .int (nI k))]) (st' := [.int (nI l - nI k), .int (nI k), .ref 1]) (H' := _) (kc' := 0) (ks' := 0) rfl ?_
  rw [show (nI l - nI k : Int32) = nI (l - k) from pk_sub (a := l) (b := k) (by omega)]
  refine RQ.call (v := none) (st' := []) rfl rfl rfl rfl rfl rfl (args_v [.int (nI (l - k)), .int (nI k)] [] rfl rfl (Nat.le_of_ble_eq_true rfl) rfl h0 (Nat.le_of_ble_eq_true rfl)) (rc_requireName1 (i := k) (n := l - k) h0 ⟨h1, h2, by decide, by decide⟩ (by omega) (by omega) (by omega) (by omega) hnm2) ?_
  refine RQ.blk 1 (pc' := 49) (lv' := [(0, .ref 1), (1, .int (nI v)), (2, .int (nI u)), (3, .int (nI k))]) (st' := [.ref 1]) (H' := _) (kc' := 0) (ks' := 0) rfl ?_
  refine RQ.call (v := none) (st' := []) rfl rfl rfl rfl rfl rfl (args_v [] [] rfl rfl (Nat.le_of_ble_eq_true rfl) rfl h0 (Nat.le_of_ble_eq_true rfl)) (rc_up h0 rfl) ?_
  refine RQ.blk 1 (pc' := 53) (lv' := [(0, .ref 1), (1, .int (nI v)), (2, .int (nI u)), (3, .int (nI k))]) (st' := [.ref 1]) (H' := _) (kc' := 0) (ks' := 0) rfl ?_
  refine RQ.call (v := some (.int (nI l))) (st' := []) rfl rfl rfl rfl rfl rfl (args_v [] [] rfl rfl (Nat.le_of_ble_eq_true rfl) rfl h0 (Nat.le_of_ble_eq_true rfl)) (rc_takeTape h0 h1) ?_
  have far1 : ∀ a, a ≠ 1 → (H.set 1 (kO 5 [.ref 3, .int (nI 0)]))[a]? = H[a]? := fun a ha => set_far ha
  have h11 : (H.set 1 (kO 5 [.ref 3, .int (nI 0)]))[1]? = some (kO 5 [.ref 3, .int (nI 0)]) := get_set h1
  refine RQ.blk 2 (pc' := 58) (lv' := [(0, .ref 1), (1, .int (nI v)), (2, .int (nI u)), (3, .int (nI k))]) (st' := [.int (nI l - nI k)]) (H' := _) (kc' := 0) (ks' := 0) rfl ?_
  rw [show (nI l - nI k : Int32) = nI (l - k) from pk_sub (a := l) (b := k) (by omega)]
  refine RQ.blk 1 (pc' := 60) (lv' := [(4, .int (nI (l - k))), (0, .ref 1), (1, .int (nI v)), (2, .int (nI u)), (3, .int (nI k))]) (st' := []) (H' := _) (kc' := 0) (ks' := 0) rfl ?_
  show RQ _ _ _ 60 [(4, .int (nI (l - k))), (0, .ref 1), (1, .int (nI v)), (2, .int (nI u)), (3, .int (nI k))] [] (H.set 1 (kO 5 [.ref 3, .int (nI 0)])) 0 0 _
  generalize (H.set 1 (kO 5 [.ref 3, .int (nI 0)])) = H1 at far1 h11 ⊢
  have h01 := (far1 0 (by decide)).trans h0
  have h21 := (far1 2 (by decide)).trans h2
  have hT1 : TreeAt H1 t.1 t.2.1 t.2.2.1 t.2.2.2.1 t.2.2.2.2.1 t.2.2.2.2.2 := hT.far (fun a a1 a2 => far1 a (by omega))
  have hc1 : ClsA H1 B P 1 cw cl cp cb tb 0 g rl wss t := h.small h01 h11 h21 ((far1 3 (by decide)).trans h3) ((far1 4 (by decide)).trans h4) ⟨q5, p6, (far1 5 (by decide)).trans h5, (far1 6 (by decide)).trans h6⟩ (fun a a1 a2 => far1 a (by omega))
  have fk1 : FrK H H1 := fun a ha => far1 a (by omega)
  refine RQ.blk 2 (pc' := 62) (lv' := [(4, .int (nI (l - k))), (0, .ref 1), (1, .int (nI v)), (2, .int (nI u)), (3, .int (nI k))]) (st' := [.int (nI v), .ref 1]) (H' := _) (kc' := 0) (ks' := 0) rfl ?_
  refine RQ.call (v := none) (st' := []) rfl rfl rfl rfl rfl rfl (args_v [.int (nI v)] [] rfl rfl (Nat.le_of_ble_eq_true rfl) rfl h01 (Nat.le_of_ble_eq_true rfl)) (rc_reqDir h01 rfl hT1.1 rfl hT1.2.1 hv (nI_is2 hkd)) ?_
  refine RQ.blk 2 (pc' := 67) (lv' := [(4, .int (nI (l - k))), (0, .ref 1), (1, .int (nI v)), (2, .int (nI u)), (3, .int (nI k))]) (st' := [.int (nI u), .ref 1]) (H' := _) (kc' := 0) (ks' := 0) rfl ?_
  refine RQ.call (v := none) (st' := []) rfl rfl rfl rfl rfl rfl (args_v [.int (nI u)] [] rfl rfl (Nat.le_of_ble_eq_true rfl) rfl h01 (Nat.le_of_ble_eq_true rfl)) (rc_reqDir h01 rfl hT1.1 rfl hT1.2.1 hu (nI_is2 hkd2)) ?_
  refine RQ.blk 1 (pc' := 71) (lv' := [(4, .int (nI (l - k))), (0, .ref 1), (1, .int (nI v)), (2, .int (nI u)), (3, .int (nI k))]) (st' := [.ref 1]) (H' := _) (kc' := 0) (ks' := 0) rfl ?_
  refine RQ.get (ci := 11) rfl h01 rfl rfl ?_
  refine RQ.blk 2 (pc' := 76) (lv' := [(4, .int (nI (l - k))), (0, .ref 1), (1, .int (nI v)), (2, .int (nI u)), (3, .int (nI k))]) (st' := [.ref 1, .int (nI v), .ref 66]) (H' := _) (kc' := 0) (ks' := 0) rfl ?_
  refine RQ.get (ci := 11) rfl h01 rfl rfl ?_
  refine RQ.get (ci := 5) rfl h11 rfl rfl ?_
  refine RQ.blk 2 (pc' := 84) (lv' := [(4, .int (nI (l - k))), (0, .ref 1), (1, .int (nI v)), (2, .int (nI u)), (3, .int (nI k))]) (st' := [.int (nI k), .int 0, .ref 3, .int (nI v), .ref 66]) (H' := _) (kc' := 0) (ks' := 0) rfl ?_
  refine RQ.call (v := some (.int (lI (fstF (inN t.1 t.2.1 t.2.2.2.1 t.2.2.2.2.1 v (sl tb 0 k)) 1 200)))) (st' := []) rfl rfl rfl rfl rfl rfl (args_v [.int (nI k), .int 0, .ref 3, .int (nI v)] [] rfl rfl (Nat.le_of_ble_eq_true rfl) rfl hT1.1 (Nat.le_of_ble_eq_true rfl)) (rc_childNamed (a := 2) (na := 2000) (j := 0) (m := k) hT1 hk h21 (by decide) (by omega) hv) ?_
  rw [hc1x]
  rw [show lI none = -1 from rfl]
  refine RQ.blk 3 (pc' := 92) (lv' := [(5, .int (-1)), (4, .int (nI (l - k))), (0, .ref 1), (1, .int (nI v)), (2, .int (nI u)), (3, .int (nI k))]) (st' := [.int (-1), .ref 1]) (H' := _) (kc' := 0) (ks' := 0) rfl ?_
  exact RQ.callP (st' := []) rfl rfl rfl rfl rfl rfl (args_v [.int (-1)] [] rfl rfl (Nat.le_of_ble_eq_true rfl) rfl h01 (Nat.le_of_ble_eq_true rfl)) (rc_thereX (by decide)) rfl ⟨_, rfl, hc1, fk1⟩
set_option maxRecDepth 20000 in
theorem ri_rename_same {sc : Nat × (Nat → Int32)} {d : Nat} {H : aH} {B P : Nat} {cw cl : Int32} {cp cb : Nat} {tb : Nat → Int8} {l : Nat} {g : Nat → Int8} {rl : Nat} {wss : Nat → List aE} {t : aTr} {v u k r : Nat} (h : ClsA H B P 1 cw cl cp cb tb l g rl wss t) (hk : TreeOk t.1 t.2.1 t.2.2.1 t.2.2.2.1) (hv : v ≤ 200) (hu : u ≤ 200) (hk1 : 1 ≤ k) (hk2 : k ≤ 30) (hk3 : k + 1 ≤ l) (hk4 : l ≤ k + 30) (hnm : ∀ j, j < k → ¬ btB tb l (0 + j) = 47) (hnm2 : ∀ j, j < l - k → ¬ btB tb l (k + j) = 47) (hkd : t.1 v = 2) (hkd2 : t.1 u = 2) (hc1x : fstF (inN t.1 t.2.1 t.2.2.2.1 t.2.2.2.2.1 v (sl tb 0 k)) 1 200 = some r) (hc2x : fstF (inN t.1 t.2.1 t.2.2.2.1 t.2.2.2.2.1 u (sl tb k (l - k))) 1 200 = some r) : RI sc (d + 8) mr_233 [.ref 1, .int (nI v), .int (nI u), .int (nI k)] H (fun x H' => x = nI r ∧ ClsA H' B P 1 cw cl cp cb tb 0 g rl wss t ∧ FrK H H') := by
  obtain ⟨h0, h1, h2, h3, h4, ⟨q5, p6, h5, h6⟩, ⟨wq, h10, hwq⟩, hW, hCh, hT⟩ := id h
  refine RI.of ?_
  refine RQ.blk 2 (pc' := 2) (lv' := [(0, .ref 1), (1, .int (nI v)), (2, .int (nI u)), (3, .int (nI k))]) (st' := [.int (nI v), .ref 1]) (H' := _) (kc' := 0) (ks' := 0) rfl ?_
  refine RQ.call (v := none) (st' := []) rfl rfl rfl rfl rfl rfl (args_v [.int (nI v)] [] rfl rfl (Nat.le_of_ble_eq_true rfl) rfl h0 (Nat.le_of_ble_eq_true rfl)) (rc_reqNum h0 hv) ?_
  refine RQ.blk 2 (pc' := 7) (lv' := [(0, .ref 1), (1, .int (nI v)), (2, .int (nI u)), (3, .int (nI k))]) (st' := [.int (nI u), .ref 1]) (H' := _) (kc' := 0) (ks' := 0) rfl ?_
  refine RQ.call (v := none) (st' := []) rfl rfl rfl rfl rfl rfl (args_v [.int (nI u)] [] rfl rfl (Nat.le_of_ble_eq_true rfl) rfl h0 (Nat.le_of_ble_eq_true rfl)) (rc_reqNum h0 hu) ?_
  refine RQ.blk 5 (pc' := 16) (lv' := [(0, .ref 1), (1, .int (nI v)), (2, .int (nI u)), (3, .int (nI k))]) (st' := [.ref 1, .int 30, .int 1, .int (nI k), .ref 1]) (H' := _) (kc' := 0) (ks' := 0) rfl ?_
  refine RQ.get (ci := 11) rfl h0 rfl rfl ?_
  refine RQ.get (ci := 5) rfl h1 rfl rfl ?_
  refine RQ.blk 1 (pc' := 25) (lv' := [(0, .ref 1), (1, .int (nI v)), (2, .int (nI u)), (3, .int (nI k))]) (st' := [.int (if nI l < 30 then nI l else 30), .int 1, .int (nI k), .ref 1]) (H' := _) (kc' := 0) (ks' := 0) rfl ?_
  rw [show (if nI l < 30 then nI l else 30 : Int32) = nI (min 30 l) from minI (a := 30) (b := l) (by omega) (by omega)]
  refine RQ.call (v := none) (st' := []) rfl rfl rfl rfl rfl rfl (args_v [.int (nI (min 30 l)), .int 1, .int (nI k)] [] rfl rfl (Nat.le_of_ble_eq_true rfl) rfl h0 (Nat.le_of_ble_eq_true rfl)) (rc_range (fun e => absurd e (nI_nlt hk1 (by omega))) (rg_hi (n := min 30 l) (by omega) (by omega))) ?_
  refine RQ.blk 3 (pc' := 31) (lv' := [(0, .ref 1), (1, .int (nI v)), (2, .int (nI u)), (3, .int (nI k))]) (st' := [.int (nI k), .int 0, .ref 1]) (H' := _) (kc' := 0) (ks' := 0) rfl ?_
  refine RQ.call (v := none) (st' := []) rfl rfl rfl rfl rfl rfl (args_v [.int (nI k), .int 0] [] rfl rfl (Nat.le_of_ble_eq_true rfl) rfl h0 (Nat.le_of_ble_eq_true rfl)) (rc_requireName1 (i := 0) h0 ⟨h1, h2, by decide, by decide⟩ (by omega) (by decide) hk1 hk2 hnm) ?_
  refine RQ.blk 3 (pc' := 37) (lv' := [(0, .ref 1), (1, .int (nI v)), (2, .int (nI u)), (3, .int (nI k))]) (st' := [.ref 1, .int (nI k), .ref 1]) (H' := _) (kc' := 0) (ks' := 0) rfl ?_
  refine RQ.get (ci := 11) rfl h0 rfl rfl ?_
  refine RQ.get (ci := 5) rfl h1 rfl rfl ?_
  refine RQ.blk 2 (pc' := 45) (lv' := [(0, .ref 1), (1, .int (nI v)), (2, .int (nI u)), (3, .int (nI k))]) (st' := [.int (nI l - nI k), .int (nI k), .ref 1]) (H' := _) (kc' := 0) (ks' := 0) rfl ?_
  rw [show (nI l - nI k : Int32) = nI (l - k) from pk_sub (a := l) (b := k) (by omega)]
  refine RQ.call (v := none) (st' := []) rfl rfl rfl rfl rfl rfl (args_v [.int (nI (l - k)), .int (nI k)] [] rfl rfl (Nat.le_of_ble_eq_true rfl) rfl h0 (Nat.le_of_ble_eq_true rfl)) (rc_requireName1 (i := k) (n := l - k) h0 ⟨h1, h2, by decide, by decide⟩ (by omega) (by omega) (by omega) (by omega) hnm2) ?_
  refine RQ.blk 1 (pc' := 49) (lv' := [(0, .ref 1), (1, .int (nI v)), (2, .int (nI u)), (3, .int (nI k))]) (st' := [.ref 1]) (H' := _) (kc' := 0) (ks' := 0) rfl ?_
  refine RQ.call (v := none) (st' := []) rfl rfl rfl rfl rfl rfl (args_v [] [] rfl rfl (Nat.le_of_ble_eq_true rfl) rfl h0 (Nat.le_of_ble_eq_true rfl)) (rc_up h0 rfl) ?_
  refine RQ.blk 1 (pc' := 53) (lv' := [(0, .ref 1), (1, .int (nI v)), (2, .int (nI u)), (3, .int (nI k))]) (st' := [.ref 1]) (H' := _) (kc' := 0) (ks' := 0) rfl ?_
  refine RQ.call (v := some (.int (nI l))) (st' := []) rfl rfl rfl rfl rfl rfl (args_v [] [] rfl rfl (Nat.le_of_ble_eq_true rfl) rfl h0 (Nat.le_of_ble_eq_true rfl)) (rc_takeTape h0 h1) ?_
  have far1 : ∀ a, a ≠ 1 → (H.set 1 (kO 5 [.ref 3, .int (nI 0)]))[a]? = H[a]? := fun a ha => set_far ha
  have h11 : (H.set 1 (kO 5 [.ref 3, .int (nI 0)]))[1]? = some (kO 5 [.ref 3, .int (nI 0)]) := get_set h1
  refine RQ.blk 2 (pc' := 58) (lv' := [(0, .ref 1), (1, .int (nI v)), (2, .int (nI u)), (3, .int (nI k))]) (st' := [.int (nI l - nI k)]) (H' := _) (kc' := 0) (ks' := 0) rfl ?_
  rw [show (nI l - nI k : Int32) = nI (l - k) from pk_sub (a := l) (b := k) (by omega)]
  refine RQ.blk 1 (pc' := 60) (lv' := [(4, .int (nI (l - k))), (0, .ref 1), (1, .int (nI v)), (2, .int (nI u)), (3, .int (nI k))]) (st' := []) (H' := _) (kc' := 0) (ks' := 0) rfl ?_
  show RQ _ _ _ 60 [(4, .int (nI (l - k))), (0, .ref 1), (1, .int (nI v)), (2, .int (nI u)), (3, .int (nI k))] [] (H.set 1 (kO 5 [.ref 3, .int (nI 0)])) 0 0 _
  generalize (H.set 1 (kO 5 [.ref 3, .int (nI 0)])) = H1 at far1 h11 ⊢
  have h01 := (far1 0 (by decide)).trans h0
  have h21 := (far1 2 (by decide)).trans h2
  have hT1 : TreeAt H1 t.1 t.2.1 t.2.2.1 t.2.2.2.1 t.2.2.2.2.1 t.2.2.2.2.2 := hT.far (fun a a1 a2 => far1 a (by omega))
  have hc1 : ClsA H1 B P 1 cw cl cp cb tb 0 g rl wss t := h.small h01 h11 h21 ((far1 3 (by decide)).trans h3) ((far1 4 (by decide)).trans h4) ⟨q5, p6, (far1 5 (by decide)).trans h5, (far1 6 (by decide)).trans h6⟩ (fun a a1 a2 => far1 a (by omega))
  have fk1 : FrK H H1 := fun a ha => far1 a (by omega)
  refine RQ.blk 2 (pc' := 62) (lv' := [(4, .int (nI (l - k))), (0, .ref 1), (1, .int (nI v)), (2, .int (nI u)), (3, .int (nI k))]) (st' := [.int (nI v), .ref 1]) (H' := _) (kc' := 0) (ks' := 0) rfl ?_
  refine RQ.call (v := none) (st' := []) rfl rfl rfl rfl rfl rfl (args_v [.int (nI v)] [] rfl rfl (Nat.le_of_ble_eq_true rfl) rfl h01 (Nat.le_of_ble_eq_true rfl)) (rc_reqDir h01 rfl hT1.1 rfl hT1.2.1 hv (nI_is2 hkd)) ?_
  refine RQ.blk 2 (pc' := 67) (lv' := [(4, .int (nI (l - k))), (0, .ref 1), (1, .int (nI v)), (2, .int (nI u)), (3, .int (nI k))]) (st' := [.int (nI u), .ref 1]) (H' := _) (kc' := 0) (ks' := 0) rfl ?_
  refine RQ.call (v := none) (st' := []) rfl rfl rfl rfl rfl rfl (args_v [.int (nI u)] [] rfl rfl (Nat.le_of_ble_eq_true rfl) rfl h01 (Nat.le_of_ble_eq_true rfl)) (rc_reqDir h01 rfl hT1.1 rfl hT1.2.1 hu (nI_is2 hkd2)) ?_
  refine RQ.blk 1 (pc' := 71) (lv' := [(4, .int (nI (l - k))), (0, .ref 1), (1, .int (nI v)), (2, .int (nI u)), (3, .int (nI k))]) (st' := [.ref 1]) (H' := _) (kc' := 0) (ks' := 0) rfl ?_
  refine RQ.get (ci := 11) rfl h01 rfl rfl ?_
  refine RQ.blk 2 (pc' := 76) (lv' := [(4, .int (nI (l - k))), (0, .ref 1), (1, .int (nI v)), (2, .int (nI u)), (3, .int (nI k))]) (st' := [.ref 1, .int (nI v), .ref 66]) (H' := _) (kc' := 0) (ks' := 0) rfl ?_
  refine RQ.get (ci := 11) rfl h01 rfl rfl ?_
  refine RQ.get (ci := 5) rfl h11 rfl rfl ?_
  refine RQ.blk 2 (pc' := 84) (lv' := [(4, .int (nI (l - k))), (0, .ref 1), (1, .int (nI v)), (2, .int (nI u)), (3, .int (nI k))]) (st' := [.int (nI k), .int 0, .ref 3, .int (nI v), .ref 66]) (H' := _) (kc' := 0) (ks' := 0) rfl ?_
  refine RQ.call (v := some (.int (lI (fstF (inN t.1 t.2.1 t.2.2.2.1 t.2.2.2.2.1 v (sl tb 0 k)) 1 200)))) (st' := []) rfl rfl rfl rfl rfl rfl (args_v [.int (nI k), .int 0, .ref 3, .int (nI v)] [] rfl rfl (Nat.le_of_ble_eq_true rfl) rfl hT1.1 (Nat.le_of_ble_eq_true rfl)) (rc_childNamed (a := 2) (na := 2000) (j := 0) (m := k) hT1 hk h21 (by decide) (by omega) hv) ?_
  rw [hc1x]
  rw [show lI (some r) = nI r from rfl]
  have hr := fstF_lt hc1x
  have hkr := hk r (by omega)
  refine RQ.blk 3 (pc' := 92) (lv' := [(5, .int (nI r)), (4, .int (nI (l - k))), (0, .ref 1), (1, .int (nI v)), (2, .int (nI u)), (3, .int (nI k))]) (st' := [.int (nI r), .ref 1]) (H' := _) (kc' := 0) (ks' := 0) rfl ?_
  refine RQ.call (v := none) (st' := []) rfl rfl rfl rfl rfl rfl (args_v [.int (nI r)] [] rfl rfl (Nat.le_of_ble_eq_true rfl) rfl h01 (Nat.le_of_ble_eq_true rfl)) (rc_there (by omega)) ?_
  refine RQ.blk 1 (pc' := 96) (lv' := [(5, .int (nI r)), (4, .int (nI (l - k))), (0, .ref 1), (1, .int (nI v)), (2, .int (nI u)), (3, .int (nI k))]) (st' := [.ref 1]) (H' := _) (kc' := 0) (ks' := 0) rfl ?_
  refine RQ.get (ci := 11) rfl h01 rfl rfl ?_
  refine RQ.blk 2 (pc' := 101) (lv' := [(5, .int (nI r)), (4, .int (nI (l - k))), (0, .ref 1), (1, .int (nI v)), (2, .int (nI u)), (3, .int (nI k))]) (st' := [.ref 1, .int (nI u), .ref 66]) (H' := _) (kc' := 0) (ks' := 0) rfl ?_
  refine RQ.get (ci := 11) rfl h01 rfl rfl ?_
  refine RQ.get (ci := 5) rfl h11 rfl rfl ?_
  refine RQ.blk 2 (pc' := 110) (lv' := [(5, .int (nI r)), (4, .int (nI (l - k))), (0, .ref 1), (1, .int (nI v)), (2, .int (nI u)), (3, .int (nI k))]) (st' := [.int (nI (l - k)), .int (nI k), .ref 3, .int (nI u), .ref 66]) (H' := _) (kc' := 0) (ks' := 0) rfl ?_
  refine RQ.call (v := some (.int (lI (fstF (inN t.1 t.2.1 t.2.2.2.1 t.2.2.2.2.1 u (sl tb k (l - k))) 1 200)))) (st' := []) rfl rfl rfl rfl rfl rfl (args_v [.int (nI (l - k)), .int (nI k), .ref 3, .int (nI u)] [] rfl rfl (Nat.le_of_ble_eq_true rfl) rfl hT1.1 (Nat.le_of_ble_eq_true rfl)) (rc_childNamed (a := 2) (na := 2000) (j := k) (m := l - k) hT1 hk h21 (by decide) (by omega) hu) ?_
  rw [hc2x]
  rw [show lI (some r) = nI r from rfl]
  have hq := fstF_lt hc2x
  have hkq := hk r (by omega)
  refine RQ.blk 3 (pc' := 119) (lv' := [(6, .int (nI r)), (5, .int (nI r)), (4, .int (nI (l - k))), (0, .ref 1), (1, .int (nI v)), (2, .int (nI u)), (3, .int (nI k))]) (st' := [.int (nI r), .int (nI r)]) (H' := _) (kc' := 0) (ks' := 0) rfl ?_
  refine RQ.brF rfl rfl rfl (cF_ne r r) ?_
  refine RQ.blk 1 (pc' := 124) (lv' := [(6, .int (nI r)), (5, .int (nI r)), (4, .int (nI (l - k))), (0, .ref 1), (1, .int (nI v)), (2, .int (nI u)), (3, .int (nI k))]) (st' := [.int (nI r)]) (H' := _) (kc' := 0) (ks' := 0) rfl ?_
  exact RQ.done (c := 0) (s := 0) rfl rfl rfl rfl ⟨_, _, rfl, rfl, hc1, fk1⟩
set_option maxRecDepth 20000 in
theorem rx_rename_way1 {sc : Nat × (Nat → Int32)} {d : Nat} {H : aH} {B P : Nat} {cw cl : Int32} {cp cb : Nat} {tb : Nat → Int8} {l : Nat} {g : Nat → Int8} {rl : Nat} {wss : Nat → List aE} {t : aTr} {v u k r q : Nat} (h : ClsA H B P 1 cw cl cp cb tb l g rl wss t) (hk : TreeOk t.1 t.2.1 t.2.2.1 t.2.2.2.1) (hv : v ≤ 200) (hu : u ≤ 200) (hk1 : 1 ≤ k) (hk2 : k ≤ 30) (hk3 : k + 1 ≤ l) (hk4 : l ≤ k + 30) (hnm : ∀ j, j < k → ¬ btB tb l (0 + j) = 47) (hnm2 : ∀ j, j < l - k → ¬ btB tb l (k + j) = 47) (hkd : t.1 v = 2) (hkd2 : t.1 u = 2) (hc1x : fstF (inN t.1 t.2.1 t.2.2.2.1 t.2.2.2.2.1 v (sl tb 0 k)) 1 200 = some r) (hc2x : fstF (inN t.1 t.2.1 t.2.2.2.1 t.2.2.2.2.1 u (sl tb k (l - k))) 1 200 = some q) (hqr : ¬ q = r) (hd : t.1 r = 2) : RX sc (d + 8) mr_233 [.ref 1, .int (nI v), .int (nI u), .int (nI k)] H 4 (fun H' => ClsA H' B P 1 cw cl cp cb tb 0 g rl wss t ∧ FrK H H') := by
  obtain ⟨h0, h1, h2, h3, h4, ⟨q5, p6, h5, h6⟩, ⟨wq, h10, hwq⟩, hW, hCh, hT⟩ := id h
  refine RX.of ?_
  refine RQ.blk 2 (pc' := 2) (lv' := [(0, .ref 1), (1, .int (nI v)), (2, .int (nI u)), (3, .int (nI k))]) (st' := [.int (nI v), .ref 1]) (H' := _) (kc' := 0) (ks' := 0) rfl ?_
  refine RQ.call (v := none) (st' := []) rfl rfl rfl rfl rfl rfl (args_v [.int (nI v)] [] rfl rfl (Nat.le_of_ble_eq_true rfl) rfl h0 (Nat.le_of_ble_eq_true rfl)) (rc_reqNum h0 hv) ?_
  refine RQ.blk 2 (pc' := 7) (lv' := [(0, .ref 1), (1, .int (nI v)), (2, .int (nI u)), (3, .int (nI k))]) (st' := [.int (nI u), .ref 1]) (H' := _) (kc' := 0) (ks' := 0) rfl ?_
  refine RQ.call (v := none) (st' := []) rfl rfl rfl rfl rfl rfl (args_v [.int (nI u)] [] rfl rfl (Nat.le_of_ble_eq_true rfl) rfl h0 (Nat.le_of_ble_eq_true rfl)) (rc_reqNum h0 hu) ?_
  refine RQ.blk 5 (pc' := 16) (lv' := [(0, .ref 1), (1, .int (nI v)), (2, .int (nI u)), (3, .int (nI k))]) (st' := [.ref 1, .int 30, .int 1, .int (nI k), .ref 1]) (H' := _) (kc' := 0) (ks' := 0) rfl ?_
  refine RQ.get (ci := 11) rfl h0 rfl rfl ?_
  refine RQ.get (ci := 5) rfl h1 rfl rfl ?_
  refine RQ.blk 1 (pc' := 25) (lv' := [(0, .ref 1), (1, .int (nI v)), (2, .int (nI u)), (3, .int (nI k))]) (st' := [.int (if nI l < 30 then nI l else 30), .int 1, .int (nI k), .ref 1]) (H' := _) (kc' := 0) (ks' := 0) rfl ?_
  rw [show (if nI l < 30 then nI l else 30 : Int32) = nI (min 30 l) from minI (a := 30) (b := l) (by omega) (by omega)]
  refine RQ.call (v := none) (st' := []) rfl rfl rfl rfl rfl rfl (args_v [.int (nI (min 30 l)), .int 1, .int (nI k)] [] rfl rfl (Nat.le_of_ble_eq_true rfl) rfl h0 (Nat.le_of_ble_eq_true rfl)) (rc_range (fun e => absurd e (nI_nlt hk1 (by omega))) (rg_hi (n := min 30 l) (by omega) (by omega))) ?_
  refine RQ.blk 3 (pc' := 31) (lv' := [(0, .ref 1), (1, .int (nI v)), (2, .int (nI u)), (3, .int (nI k))]) (st' := [.int (nI k), .int 0, .ref 1]) (H' := _) (kc' := 0) (ks' := 0) rfl ?_
  refine RQ.call (v := none) (st' := []) rfl rfl rfl rfl rfl rfl (args_v [.int (nI k), .int 0] [] rfl rfl (Nat.le_of_ble_eq_true rfl) rfl h0 (Nat.le_of_ble_eq_true rfl)) (rc_requireName1 (i := 0) h0 ⟨h1, h2, by decide, by decide⟩ (by omega) (by decide) hk1 hk2 hnm) ?_
  refine RQ.blk 3 (pc' := 37) (lv' := [(0, .ref 1), (1, .int (nI v)), (2, .int (nI u)), (3, .int (nI k))]) (st' := [.ref 1, .int (nI k), .ref 1]) (H' := _) (kc' := 0) (ks' := 0) rfl ?_
  refine RQ.get (ci := 11) rfl h0 rfl rfl ?_
  refine RQ.get (ci := 5) rfl h1 rfl rfl ?_
  refine RQ.blk 2 (pc' := 45) (lv' := [(0, .ref 1), (1, .int (nI v)), (2, .int (nI u)), (3, .int (nI k))]) (st' := [.int (nI l - nI k), .int (nI k), .ref 1]) (H' := _) (kc' := 0) (ks' := 0) rfl ?_
  rw [show (nI l - nI k : Int32) = nI (l - k) from pk_sub (a := l) (b := k) (by omega)]
  refine RQ.call (v := none) (st' := []) rfl rfl rfl rfl rfl rfl (args_v [.int (nI (l - k)), .int (nI k)] [] rfl rfl (Nat.le_of_ble_eq_true rfl) rfl h0 (Nat.le_of_ble_eq_true rfl)) (rc_requireName1 (i := k) (n := l - k) h0 ⟨h1, h2, by decide, by decide⟩ (by omega) (by omega) (by omega) (by omega) hnm2) ?_
  refine RQ.blk 1 (pc' := 49) (lv' := [(0, .ref 1), (1, .int (nI v)), (2, .int (nI u)), (3, .int (nI k))]) (st' := [.ref 1]) (H' := _) (kc' := 0) (ks' := 0) rfl ?_
  refine RQ.call (v := none) (st' := []) rfl rfl rfl rfl rfl rfl (args_v [] [] rfl rfl (Nat.le_of_ble_eq_true rfl) rfl h0 (Nat.le_of_ble_eq_true rfl)) (rc_up h0 rfl) ?_
  refine RQ.blk 1 (pc' := 53) (lv' := [(0, .ref 1), (1, .int (nI v)), (2, .int (nI u)), (3, .int (nI k))]) (st' := [.ref 1]) (H' := _) (kc' := 0) (ks' := 0) rfl ?_
  refine RQ.call (v := some (.int (nI l))) (st' := []) rfl rfl rfl rfl rfl rfl (args_v [] [] rfl rfl (Nat.le_of_ble_eq_true rfl) rfl h0 (Nat.le_of_ble_eq_true rfl)) (rc_takeTape h0 h1) ?_
  have far1 : ∀ a, a ≠ 1 → (H.set 1 (kO 5 [.ref 3, .int (nI 0)]))[a]? = H[a]? := fun a ha => set_far ha
  have h11 : (H.set 1 (kO 5 [.ref 3, .int (nI 0)]))[1]? = some (kO 5 [.ref 3, .int (nI 0)]) := get_set h1
  refine RQ.blk 2 (pc' := 58) (lv' := [(0, .ref 1), (1, .int (nI v)), (2, .int (nI u)), (3, .int (nI k))]) (st' := [.int (nI l - nI k)]) (H' := _) (kc' := 0) (ks' := 0) rfl ?_
  rw [show (nI l - nI k : Int32) = nI (l - k) from pk_sub (a := l) (b := k) (by omega)]
  refine RQ.blk 1 (pc' := 60) (lv' := [(4, .int (nI (l - k))), (0, .ref 1), (1, .int (nI v)), (2, .int (nI u)), (3, .int (nI k))]) (st' := []) (H' := _) (kc' := 0) (ks' := 0) rfl ?_
  show RQ _ _ _ 60 [(4, .int (nI (l - k))), (0, .ref 1), (1, .int (nI v)), (2, .int (nI u)), (3, .int (nI k))] [] (H.set 1 (kO 5 [.ref 3, .int (nI 0)])) 0 0 _
  generalize (H.set 1 (kO 5 [.ref 3, .int (nI 0)])) = H1 at far1 h11 ⊢
  have h01 := (far1 0 (by decide)).trans h0
  have h21 := (far1 2 (by decide)).trans h2
  have hT1 : TreeAt H1 t.1 t.2.1 t.2.2.1 t.2.2.2.1 t.2.2.2.2.1 t.2.2.2.2.2 := hT.far (fun a a1 a2 => far1 a (by omega))
  have hc1 : ClsA H1 B P 1 cw cl cp cb tb 0 g rl wss t := h.small h01 h11 h21 ((far1 3 (by decide)).trans h3) ((far1 4 (by decide)).trans h4) ⟨q5, p6, (far1 5 (by decide)).trans h5, (far1 6 (by decide)).trans h6⟩ (fun a a1 a2 => far1 a (by omega))
  have fk1 : FrK H H1 := fun a ha => far1 a (by omega)
  refine RQ.blk 2 (pc' := 62) (lv' := [(4, .int (nI (l - k))), (0, .ref 1), (1, .int (nI v)), (2, .int (nI u)), (3, .int (nI k))]) (st' := [.int (nI v), .ref 1]) (H' := _) (kc' := 0) (ks' := 0) rfl ?_
  refine RQ.call (v := none) (st' := []) rfl rfl rfl rfl rfl rfl (args_v [.int (nI v)] [] rfl rfl (Nat.le_of_ble_eq_true rfl) rfl h01 (Nat.le_of_ble_eq_true rfl)) (rc_reqDir h01 rfl hT1.1 rfl hT1.2.1 hv (nI_is2 hkd)) ?_
  refine RQ.blk 2 (pc' := 67) (lv' := [(4, .int (nI (l - k))), (0, .ref 1), (1, .int (nI v)), (2, .int (nI u)), (3, .int (nI k))]) (st' := [.int (nI u), .ref 1]) (H' := _) (kc' := 0) (ks' := 0) rfl ?_
  refine RQ.call (v := none) (st' := []) rfl rfl rfl rfl rfl rfl (args_v [.int (nI u)] [] rfl rfl (Nat.le_of_ble_eq_true rfl) rfl h01 (Nat.le_of_ble_eq_true rfl)) (rc_reqDir h01 rfl hT1.1 rfl hT1.2.1 hu (nI_is2 hkd2)) ?_
  refine RQ.blk 1 (pc' := 71) (lv' := [(4, .int (nI (l - k))), (0, .ref 1), (1, .int (nI v)), (2, .int (nI u)), (3, .int (nI k))]) (st' := [.ref 1]) (H' := _) (kc' := 0) (ks' := 0) rfl ?_
  refine RQ.get (ci := 11) rfl h01 rfl rfl ?_
  refine RQ.blk 2 (pc' := 76) (lv' := [(4, .int (nI (l - k))), (0, .ref 1), (1, .int (nI v)), (2, .int (nI u)), (3, .int (nI k))]) (st' := [.ref 1, .int (nI v), .ref 66]) (H' := _) (kc' := 0) (ks' := 0) rfl ?_
  refine RQ.get (ci := 11) rfl h01 rfl rfl ?_
  refine RQ.get (ci := 5) rfl h11 rfl rfl ?_
  refine RQ.blk 2 (pc' := 84) (lv' := [(4, .int (nI (l - k))), (0, .ref 1), (1, .int (nI v)), (2, .int (nI u)), (3, .int (nI k))]) (st' := [.int (nI k), .int 0, .ref 3, .int (nI v), .ref 66]) (H' := _) (kc' := 0) (ks' := 0) rfl ?_
  refine RQ.call (v := some (.int (lI (fstF (inN t.1 t.2.1 t.2.2.2.1 t.2.2.2.2.1 v (sl tb 0 k)) 1 200)))) (st' := []) rfl rfl rfl rfl rfl rfl (args_v [.int (nI k), .int 0, .ref 3, .int (nI v)] [] rfl rfl (Nat.le_of_ble_eq_true rfl) rfl hT1.1 (Nat.le_of_ble_eq_true rfl)) (rc_childNamed (a := 2) (na := 2000) (j := 0) (m := k) hT1 hk h21 (by decide) (by omega) hv) ?_
  rw [hc1x]
  rw [show lI (some r) = nI r from rfl]
  have hr := fstF_lt hc1x
  have hkr := hk r (by omega)
  refine RQ.blk 3 (pc' := 92) (lv' := [(5, .int (nI r)), (4, .int (nI (l - k))), (0, .ref 1), (1, .int (nI v)), (2, .int (nI u)), (3, .int (nI k))]) (st' := [.int (nI r), .ref 1]) (H' := _) (kc' := 0) (ks' := 0) rfl ?_
  refine RQ.call (v := none) (st' := []) rfl rfl rfl rfl rfl rfl (args_v [.int (nI r)] [] rfl rfl (Nat.le_of_ble_eq_true rfl) rfl h01 (Nat.le_of_ble_eq_true rfl)) (rc_there (by omega)) ?_
  refine RQ.blk 1 (pc' := 96) (lv' := [(5, .int (nI r)), (4, .int (nI (l - k))), (0, .ref 1), (1, .int (nI v)), (2, .int (nI u)), (3, .int (nI k))]) (st' := [.ref 1]) (H' := _) (kc' := 0) (ks' := 0) rfl ?_
  refine RQ.get (ci := 11) rfl h01 rfl rfl ?_
  refine RQ.blk 2 (pc' := 101) (lv' := [(5, .int (nI r)), (4, .int (nI (l - k))), (0, .ref 1), (1, .int (nI v)), (2, .int (nI u)), (3, .int (nI k))]) (st' := [.ref 1, .int (nI u), .ref 66]) (H' := _) (kc' := 0) (ks' := 0) rfl ?_
  refine RQ.get (ci := 11) rfl h01 rfl rfl ?_
  refine RQ.get (ci := 5) rfl h11 rfl rfl ?_
  refine RQ.blk 2 (pc' := 110) (lv' := [(5, .int (nI r)), (4, .int (nI (l - k))), (0, .ref 1), (1, .int (nI v)), (2, .int (nI u)), (3, .int (nI k))]) (st' := [.int (nI (l - k)), .int (nI k), .ref 3, .int (nI u), .ref 66]) (H' := _) (kc' := 0) (ks' := 0) rfl ?_
  refine RQ.call (v := some (.int (lI (fstF (inN t.1 t.2.1 t.2.2.2.1 t.2.2.2.2.1 u (sl tb k (l - k))) 1 200)))) (st' := []) rfl rfl rfl rfl rfl rfl (args_v [.int (nI (l - k)), .int (nI k), .ref 3, .int (nI u)] [] rfl rfl (Nat.le_of_ble_eq_true rfl) rfl hT1.1 (Nat.le_of_ble_eq_true rfl)) (rc_childNamed (a := 2) (na := 2000) (j := k) (m := l - k) hT1 hk h21 (by decide) (by omega) hu) ?_
  rw [hc2x]
  rw [show lI (some q) = nI q from rfl]
  have hq := fstF_lt hc2x
  have hkq := hk q (by omega)
  refine RQ.blk 3 (pc' := 119) (lv' := [(6, .int (nI q)), (5, .int (nI r)), (4, .int (nI (l - k))), (0, .ref 1), (1, .int (nI v)), (2, .int (nI u)), (3, .int (nI k))]) (st' := [.int (nI r), .int (nI q)]) (H' := _) (kc' := 0) (ks' := 0) rfl ?_
  refine RQ.brT rfl rfl rfl (cT_ne q r) ?_
  refine RQ.blk 1 (pc' := 126) (lv' := [(6, .int (nI q)), (5, .int (nI r)), (4, .int (nI (l - k))), (0, .ref 1), (1, .int (nI v)), (2, .int (nI u)), (3, .int (nI k))]) (st' := [.ref 1]) (H' := _) (kc' := 0) (ks' := 0) rfl ?_
  refine RQ.get (ci := 11) rfl h01 rfl rfl ?_
  refine RQ.blk 1 (pc' := 131) (lv' := [(6, .int (nI q)), (5, .int (nI r)), (4, .int (nI (l - k))), (0, .ref 1), (1, .int (nI v)), (2, .int (nI u)), (3, .int (nI k))]) (st' := [.int (nI r), .ref 66]) (H' := _) (kc' := 0) (ks' := 0) rfl ?_
  refine RQ.call (v := some (.int 1)) (st' := []) rfl rfl rfl rfl rfl rfl (args_v [.int (nI r)] [] rfl rfl (Nat.le_of_ble_eq_true rfl) rfl hT1.1 (Nat.le_of_ble_eq_true rfl)) (rc_isDirT hT1.1 rfl hT1.2.1 (by omega) (nI_is2 hd)) ?_
  refine RQ.brF rfl rfl rfl (by decide) ?_
  refine RQ.blk 1 (pc' := 139) (lv' := [(6, .int (nI q)), (5, .int (nI r)), (4, .int (nI (l - k))), (0, .ref 1), (1, .int (nI v)), (2, .int (nI u)), (3, .int (nI k))]) (st' := [.int (nI q)]) (H' := _) (kc' := 0) (ks' := 0) rfl ?_
  refine RQ.brT rfl rfl rfl (cT_ge q 0) ?_
  exact RQ.done (c := 1) (s := 6) rfl rfl rfl rfl ⟨_, rfl, hc1, fk1⟩
set_option maxRecDepth 20000 in
theorem rx_rename_way2 {sc : Nat × (Nat → Int32)} {d : Nat} {H : aH} {B P : Nat} {cw cl : Int32} {cp cb : Nat} {tb : Nat → Int8} {l : Nat} {g : Nat → Int8} {rl : Nat} {wss : Nat → List aE} {t : aTr} {v u k r : Nat} (h : ClsA H B P 1 cw cl cp cb tb l g rl wss t) (hk : TreeOk t.1 t.2.1 t.2.2.1 t.2.2.2.1) (hv : v ≤ 200) (hu : u ≤ 200) (hk1 : 1 ≤ k) (hk2 : k ≤ 30) (hk3 : k + 1 ≤ l) (hk4 : l ≤ k + 30) (hnm : ∀ j, j < k → ¬ btB tb l (0 + j) = 47) (hnm2 : ∀ j, j < l - k → ¬ btB tb l (k + j) = 47) (hkd : t.1 v = 2) (hkd2 : t.1 u = 2) (hc1x : fstF (inN t.1 t.2.1 t.2.2.2.1 t.2.2.2.2.1 v (sl tb 0 k)) 1 200 = some r) (hc2x : fstF (inN t.1 t.2.1 t.2.2.2.1 t.2.2.2.2.1 u (sl tb k (l - k))) 1 200 = none) (hd : t.1 r = 2) (hwi : upF t.2.1 r 201 u = r) : RX sc (d + 8) mr_233 [.ref 1, .int (nI v), .int (nI u), .int (nI k)] H 4 (fun H' => ClsA H' B P 1 cw cl cp cb tb 0 g rl wss t ∧ FrK H H') := by
  obtain ⟨h0, h1, h2, h3, h4, ⟨q5, p6, h5, h6⟩, ⟨wq, h10, hwq⟩, hW, hCh, hT⟩ := id h
  refine RX.of ?_
  refine RQ.blk 2 (pc' := 2) (lv' := [(0, .ref 1), (1, .int (nI v)), (2, .int (nI u)), (3, .int (nI k))]) (st' := [.int (nI v), .ref 1]) (H' := _) (kc' := 0) (ks' := 0) rfl ?_
  refine RQ.call (v := none) (st' := []) rfl rfl rfl rfl rfl rfl (args_v [.int (nI v)] [] rfl rfl (Nat.le_of_ble_eq_true rfl) rfl h0 (Nat.le_of_ble_eq_true rfl)) (rc_reqNum h0 hv) ?_
  refine RQ.blk 2 (pc' := 7) (lv' := [(0, .ref 1), (1, .int (nI v)), (2, .int (nI u)), (3, .int (nI k))]) (st' := [.int (nI u), .ref 1]) (H' := _) (kc' := 0) (ks' := 0) rfl ?_
  refine RQ.call (v := none) (st' := []) rfl rfl rfl rfl rfl rfl (args_v [.int (nI u)] [] rfl rfl (Nat.le_of_ble_eq_true rfl) rfl h0 (Nat.le_of_ble_eq_true rfl)) (rc_reqNum h0 hu) ?_
  refine RQ.blk 5 (pc' := 16) (lv' := [(0, .ref 1), (1, .int (nI v)), (2, .int (nI u)), (3, .int (nI k))]) (st' := [.ref 1, .int 30, .int 1, .int (nI k), .ref 1]) (H' := _) (kc' := 0) (ks' := 0) rfl ?_
  refine RQ.get (ci := 11) rfl h0 rfl rfl ?_
  refine RQ.get (ci := 5) rfl h1 rfl rfl ?_
  refine RQ.blk 1 (pc' := 25) (lv' := [(0, .ref 1), (1, .int (nI v)), (2, .int (nI u)), (3, .int (nI k))]) (st' := [.int (if nI l < 30 then nI l else 30), .int 1, .int (nI k), .ref 1]) (H' := _) (kc' := 0) (ks' := 0) rfl ?_
  rw [show (if nI l < 30 then nI l else 30 : Int32) = nI (min 30 l) from minI (a := 30) (b := l) (by omega) (by omega)]
  refine RQ.call (v := none) (st' := []) rfl rfl rfl rfl rfl rfl (args_v [.int (nI (min 30 l)), .int 1, .int (nI k)] [] rfl rfl (Nat.le_of_ble_eq_true rfl) rfl h0 (Nat.le_of_ble_eq_true rfl)) (rc_range (fun e => absurd e (nI_nlt hk1 (by omega))) (rg_hi (n := min 30 l) (by omega) (by omega))) ?_
  refine RQ.blk 3 (pc' := 31) (lv' := [(0, .ref 1), (1, .int (nI v)), (2, .int (nI u)), (3, .int (nI k))]) (st' := [.int (nI k), .int 0, .ref 1]) (H' := _) (kc' := 0) (ks' := 0) rfl ?_
  refine RQ.call (v := none) (st' := []) rfl rfl rfl rfl rfl rfl (args_v [.int (nI k), .int 0] [] rfl rfl (Nat.le_of_ble_eq_true rfl) rfl h0 (Nat.le_of_ble_eq_true rfl)) (rc_requireName1 (i := 0) h0 ⟨h1, h2, by decide, by decide⟩ (by omega) (by decide) hk1 hk2 hnm) ?_
  refine RQ.blk 3 (pc' := 37) (lv' := [(0, .ref 1), (1, .int (nI v)), (2, .int (nI u)), (3, .int (nI k))]) (st' := [.ref 1, .int (nI k), .ref 1]) (H' := _) (kc' := 0) (ks' := 0) rfl ?_
  refine RQ.get (ci := 11) rfl h0 rfl rfl ?_
  refine RQ.get (ci := 5) rfl h1 rfl rfl ?_
  refine RQ.blk 2 (pc' := 45) (lv' := [(0, .ref 1), (1, .int (nI v)), (2, .int (nI u)), (3, .int (nI k))]) (st' := [.int (nI l - nI k), .int (nI k), .ref 1]) (H' := _) (kc' := 0) (ks' := 0) rfl ?_
  rw [show (nI l - nI k : Int32) = nI (l - k) from pk_sub (a := l) (b := k) (by omega)]
  refine RQ.call (v := none) (st' := []) rfl rfl rfl rfl rfl rfl (args_v [.int (nI (l - k)), .int (nI k)] [] rfl rfl (Nat.le_of_ble_eq_true rfl) rfl h0 (Nat.le_of_ble_eq_true rfl)) (rc_requireName1 (i := k) (n := l - k) h0 ⟨h1, h2, by decide, by decide⟩ (by omega) (by omega) (by omega) (by omega) hnm2) ?_
  refine RQ.blk 1 (pc' := 49) (lv' := [(0, .ref 1), (1, .int (nI v)), (2, .int (nI u)), (3, .int (nI k))]) (st' := [.ref 1]) (H' := _) (kc' := 0) (ks' := 0) rfl ?_
  refine RQ.call (v := none) (st' := []) rfl rfl rfl rfl rfl rfl (args_v [] [] rfl rfl (Nat.le_of_ble_eq_true rfl) rfl h0 (Nat.le_of_ble_eq_true rfl)) (rc_up h0 rfl) ?_
  refine RQ.blk 1 (pc' := 53) (lv' := [(0, .ref 1), (1, .int (nI v)), (2, .int (nI u)), (3, .int (nI k))]) (st' := [.ref 1]) (H' := _) (kc' := 0) (ks' := 0) rfl ?_
  refine RQ.call (v := some (.int (nI l))) (st' := []) rfl rfl rfl rfl rfl rfl (args_v [] [] rfl rfl (Nat.le_of_ble_eq_true rfl) rfl h0 (Nat.le_of_ble_eq_true rfl)) (rc_takeTape h0 h1) ?_
  have far1 : ∀ a, a ≠ 1 → (H.set 1 (kO 5 [.ref 3, .int (nI 0)]))[a]? = H[a]? := fun a ha => set_far ha
  have h11 : (H.set 1 (kO 5 [.ref 3, .int (nI 0)]))[1]? = some (kO 5 [.ref 3, .int (nI 0)]) := get_set h1
  refine RQ.blk 2 (pc' := 58) (lv' := [(0, .ref 1), (1, .int (nI v)), (2, .int (nI u)), (3, .int (nI k))]) (st' := [.int (nI l - nI k)]) (H' := _) (kc' := 0) (ks' := 0) rfl ?_
  rw [show (nI l - nI k : Int32) = nI (l - k) from pk_sub (a := l) (b := k) (by omega)]
  refine RQ.blk 1 (pc' := 60) (lv' := [(4, .int (nI (l - k))), (0, .ref 1), (1, .int (nI v)), (2, .int (nI u)), (3, .int (nI k))]) (st' := []) (H' := _) (kc' := 0) (ks' := 0) rfl ?_
  show RQ _ _ _ 60 [(4, .int (nI (l - k))), (0, .ref 1), (1, .int (nI v)), (2, .int (nI u)), (3, .int (nI k))] [] (H.set 1 (kO 5 [.ref 3, .int (nI 0)])) 0 0 _
  generalize (H.set 1 (kO 5 [.ref 3, .int (nI 0)])) = H1 at far1 h11 ⊢
  have h01 := (far1 0 (by decide)).trans h0
  have h21 := (far1 2 (by decide)).trans h2
  have hT1 : TreeAt H1 t.1 t.2.1 t.2.2.1 t.2.2.2.1 t.2.2.2.2.1 t.2.2.2.2.2 := hT.far (fun a a1 a2 => far1 a (by omega))
  have hc1 : ClsA H1 B P 1 cw cl cp cb tb 0 g rl wss t := h.small h01 h11 h21 ((far1 3 (by decide)).trans h3) ((far1 4 (by decide)).trans h4) ⟨q5, p6, (far1 5 (by decide)).trans h5, (far1 6 (by decide)).trans h6⟩ (fun a a1 a2 => far1 a (by omega))
  have fk1 : FrK H H1 := fun a ha => far1 a (by omega)
  refine RQ.blk 2 (pc' := 62) (lv' := [(4, .int (nI (l - k))), (0, .ref 1), (1, .int (nI v)), (2, .int (nI u)), (3, .int (nI k))]) (st' := [.int (nI v), .ref 1]) (H' := _) (kc' := 0) (ks' := 0) rfl ?_
  refine RQ.call (v := none) (st' := []) rfl rfl rfl rfl rfl rfl (args_v [.int (nI v)] [] rfl rfl (Nat.le_of_ble_eq_true rfl) rfl h01 (Nat.le_of_ble_eq_true rfl)) (rc_reqDir h01 rfl hT1.1 rfl hT1.2.1 hv (nI_is2 hkd)) ?_
  refine RQ.blk 2 (pc' := 67) (lv' := [(4, .int (nI (l - k))), (0, .ref 1), (1, .int (nI v)), (2, .int (nI u)), (3, .int (nI k))]) (st' := [.int (nI u), .ref 1]) (H' := _) (kc' := 0) (ks' := 0) rfl ?_
  refine RQ.call (v := none) (st' := []) rfl rfl rfl rfl rfl rfl (args_v [.int (nI u)] [] rfl rfl (Nat.le_of_ble_eq_true rfl) rfl h01 (Nat.le_of_ble_eq_true rfl)) (rc_reqDir h01 rfl hT1.1 rfl hT1.2.1 hu (nI_is2 hkd2)) ?_
  refine RQ.blk 1 (pc' := 71) (lv' := [(4, .int (nI (l - k))), (0, .ref 1), (1, .int (nI v)), (2, .int (nI u)), (3, .int (nI k))]) (st' := [.ref 1]) (H' := _) (kc' := 0) (ks' := 0) rfl ?_
  refine RQ.get (ci := 11) rfl h01 rfl rfl ?_
  refine RQ.blk 2 (pc' := 76) (lv' := [(4, .int (nI (l - k))), (0, .ref 1), (1, .int (nI v)), (2, .int (nI u)), (3, .int (nI k))]) (st' := [.ref 1, .int (nI v), .ref 66]) (H' := _) (kc' := 0) (ks' := 0) rfl ?_
  refine RQ.get (ci := 11) rfl h01 rfl rfl ?_
  refine RQ.get (ci := 5) rfl h11 rfl rfl ?_
  refine RQ.blk 2 (pc' := 84) (lv' := [(4, .int (nI (l - k))), (0, .ref 1), (1, .int (nI v)), (2, .int (nI u)), (3, .int (nI k))]) (st' := [.int (nI k), .int 0, .ref 3, .int (nI v), .ref 66]) (H' := _) (kc' := 0) (ks' := 0) rfl ?_
  refine RQ.call (v := some (.int (lI (fstF (inN t.1 t.2.1 t.2.2.2.1 t.2.2.2.2.1 v (sl tb 0 k)) 1 200)))) (st' := []) rfl rfl rfl rfl rfl rfl (args_v [.int (nI k), .int 0, .ref 3, .int (nI v)] [] rfl rfl (Nat.le_of_ble_eq_true rfl) rfl hT1.1 (Nat.le_of_ble_eq_true rfl)) (rc_childNamed (a := 2) (na := 2000) (j := 0) (m := k) hT1 hk h21 (by decide) (by omega) hv) ?_
  rw [hc1x]
  rw [show lI (some r) = nI r from rfl]
  have hr := fstF_lt hc1x
  have hkr := hk r (by omega)
  refine RQ.blk 3 (pc' := 92) (lv' := [(5, .int (nI r)), (4, .int (nI (l - k))), (0, .ref 1), (1, .int (nI v)), (2, .int (nI u)), (3, .int (nI k))]) (st' := [.int (nI r), .ref 1]) (H' := _) (kc' := 0) (ks' := 0) rfl ?_
  refine RQ.call (v := none) (st' := []) rfl rfl rfl rfl rfl rfl (args_v [.int (nI r)] [] rfl rfl (Nat.le_of_ble_eq_true rfl) rfl h01 (Nat.le_of_ble_eq_true rfl)) (rc_there (by omega)) ?_
  refine RQ.blk 1 (pc' := 96) (lv' := [(5, .int (nI r)), (4, .int (nI (l - k))), (0, .ref 1), (1, .int (nI v)), (2, .int (nI u)), (3, .int (nI k))]) (st' := [.ref 1]) (H' := _) (kc' := 0) (ks' := 0) rfl ?_
  refine RQ.get (ci := 11) rfl h01 rfl rfl ?_
  refine RQ.blk 2 (pc' := 101) (lv' := [(5, .int (nI r)), (4, .int (nI (l - k))), (0, .ref 1), (1, .int (nI v)), (2, .int (nI u)), (3, .int (nI k))]) (st' := [.ref 1, .int (nI u), .ref 66]) (H' := _) (kc' := 0) (ks' := 0) rfl ?_
  refine RQ.get (ci := 11) rfl h01 rfl rfl ?_
  refine RQ.get (ci := 5) rfl h11 rfl rfl ?_
  refine RQ.blk 2 (pc' := 110) (lv' := [(5, .int (nI r)), (4, .int (nI (l - k))), (0, .ref 1), (1, .int (nI v)), (2, .int (nI u)), (3, .int (nI k))]) (st' := [.int (nI (l - k)), .int (nI k), .ref 3, .int (nI u), .ref 66]) (H' := _) (kc' := 0) (ks' := 0) rfl ?_
  refine RQ.call (v := some (.int (lI (fstF (inN t.1 t.2.1 t.2.2.2.1 t.2.2.2.2.1 u (sl tb k (l - k))) 1 200)))) (st' := []) rfl rfl rfl rfl rfl rfl (args_v [.int (nI (l - k)), .int (nI k), .ref 3, .int (nI u)] [] rfl rfl (Nat.le_of_ble_eq_true rfl) rfl hT1.1 (Nat.le_of_ble_eq_true rfl)) (rc_childNamed (a := 2) (na := 2000) (j := k) (m := l - k) hT1 hk h21 (by decide) (by omega) hu) ?_
  rw [hc2x]
  rw [show lI none = -1 from rfl]
  refine RQ.blk 3 (pc' := 119) (lv' := [(6, .int (-1)), (5, .int (nI r)), (4, .int (nI (l - k))), (0, .ref 1), (1, .int (nI v)), (2, .int (nI u)), (3, .int (nI k))]) (st' := [.int (nI r), .int (-1)]) (H' := _) (kc' := 0) (ks' := 0) rfl ?_
  refine RQ.brT rfl rfl rfl (bnt (fun e => absurd (show nI r < nI 0 by rw [← e]; decide) (nI_nlt (Nat.zero_le r) (by omega)))) ?_
  refine RQ.blk 1 (pc' := 126) (lv' := [(6, .int (-1)), (5, .int (nI r)), (4, .int (nI (l - k))), (0, .ref 1), (1, .int (nI v)), (2, .int (nI u)), (3, .int (nI k))]) (st' := [.ref 1]) (H' := _) (kc' := 0) (ks' := 0) rfl ?_
  refine RQ.get (ci := 11) rfl h01 rfl rfl ?_
  refine RQ.blk 1 (pc' := 131) (lv' := [(6, .int (-1)), (5, .int (nI r)), (4, .int (nI (l - k))), (0, .ref 1), (1, .int (nI v)), (2, .int (nI u)), (3, .int (nI k))]) (st' := [.int (nI r), .ref 66]) (H' := _) (kc' := 0) (ks' := 0) rfl ?_
  refine RQ.call (v := some (.int 1)) (st' := []) rfl rfl rfl rfl rfl rfl (args_v [.int (nI r)] [] rfl rfl (Nat.le_of_ble_eq_true rfl) rfl hT1.1 (Nat.le_of_ble_eq_true rfl)) (rc_isDirT hT1.1 rfl hT1.2.1 (by omega) (nI_is2 hd)) ?_
  refine RQ.brF rfl rfl rfl (by decide) ?_
  refine RQ.blk 1 (pc' := 139) (lv' := [(6, .int (-1)), (5, .int (nI r)), (4, .int (nI (l - k))), (0, .ref 1), (1, .int (nI v)), (2, .int (nI u)), (3, .int (nI k))]) (st' := [.int (-1)]) (H' := _) (kc' := 0) (ks' := 0) rfl ?_
  refine RQ.brF rfl rfl rfl (by decide) ?_
  refine RQ.blk 1 (pc' := 143) (lv' := [(6, .int (-1)), (5, .int (nI r)), (4, .int (nI (l - k))), (0, .ref 1), (1, .int (nI v)), (2, .int (nI u)), (3, .int (nI k))]) (st' := [.ref 1]) (H' := _) (kc' := 0) (ks' := 0) rfl ?_
  refine RQ.get (ci := 11) rfl h01 rfl rfl ?_
  refine RQ.blk 2 (pc' := 149) (lv' := [(6, .int (-1)), (5, .int (nI r)), (4, .int (nI (l - k))), (0, .ref 1), (1, .int (nI v)), (2, .int (nI u)), (3, .int (nI k))]) (st' := [.int (nI r), .int (nI u), .ref 66]) (H' := _) (kc' := 0) (ks' := 0) rfl ?_
  refine RQ.call (v := some (.int (if upF t.2.1 r 201 u = r then 1 else 0))) (st' := []) rfl rfl rfl rfl rfl rfl (args_v [.int (nI r), .int (nI u)] [] rfl rfl (Nat.le_of_ble_eq_true rfl) rfl hT1.1 (Nat.le_of_ble_eq_true rfl)) (rc_isWithin hT1 hk hu (by omega)) ?_
  rw [if_pos hwi]
  refine RQ.brT rfl rfl rfl (by decide) ?_
  exact RQ.done (c := 1) (s := 6) rfl rfl rfl rfl ⟨_, rfl, hc1, fk1⟩
set_option maxRecDepth 20000 in
theorem rx_rename_way3 {sc : Nat × (Nat → Int32)} {d : Nat} {H : aH} {B P : Nat} {cw cl : Int32} {cp cb : Nat} {tb : Nat → Int8} {l : Nat} {g : Nat → Int8} {rl : Nat} {wss : Nat → List aE} {t : aTr} {v u k r q : Nat} (h : ClsA H B P 1 cw cl cp cb tb l g rl wss t) (hk : TreeOk t.1 t.2.1 t.2.2.1 t.2.2.2.1) (hv : v ≤ 200) (hu : u ≤ 200) (hk1 : 1 ≤ k) (hk2 : k ≤ 30) (hk3 : k + 1 ≤ l) (hk4 : l ≤ k + 30) (hnm : ∀ j, j < k → ¬ btB tb l (0 + j) = 47) (hnm2 : ∀ j, j < l - k → ¬ btB tb l (k + j) = 47) (hkd : t.1 v = 2) (hkd2 : t.1 u = 2) (hc1x : fstF (inN t.1 t.2.1 t.2.2.2.1 t.2.2.2.2.1 v (sl tb 0 k)) 1 200 = some r) (hc2x : fstF (inN t.1 t.2.1 t.2.2.2.1 t.2.2.2.2.1 u (sl tb k (l - k))) 1 200 = some q) (hqr : ¬ q = r) (hd : ¬ t.1 r = 2) (hd2 : t.1 q = 2) : RX sc (d + 8) mr_233 [.ref 1, .int (nI v), .int (nI u), .int (nI k)] H 4 (fun H' => ClsA H' B P 1 cw cl cp cb tb 0 g rl wss t ∧ FrK H H') := by
  obtain ⟨h0, h1, h2, h3, h4, ⟨q5, p6, h5, h6⟩, ⟨wq, h10, hwq⟩, hW, hCh, hT⟩ := id h
  refine RX.of ?_
  refine RQ.blk 2 (pc' := 2) (lv' := [(0, .ref 1), (1, .int (nI v)), (2, .int (nI u)), (3, .int (nI k))]) (st' := [.int (nI v), .ref 1]) (H' := _) (kc' := 0) (ks' := 0) rfl ?_
  refine RQ.call (v := none) (st' := []) rfl rfl rfl rfl rfl rfl (args_v [.int (nI v)] [] rfl rfl (Nat.le_of_ble_eq_true rfl) rfl h0 (Nat.le_of_ble_eq_true rfl)) (rc_reqNum h0 hv) ?_
  refine RQ.blk 2 (pc' := 7) (lv' := [(0, .ref 1), (1, .int (nI v)), (2, .int (nI u)), (3, .int (nI k))]) (st' := [.int (nI u), .ref 1]) (H' := _) (kc' := 0) (ks' := 0) rfl ?_
  refine RQ.call (v := none) (st' := []) rfl rfl rfl rfl rfl rfl (args_v [.int (nI u)] [] rfl rfl (Nat.le_of_ble_eq_true rfl) rfl h0 (Nat.le_of_ble_eq_true rfl)) (rc_reqNum h0 hu) ?_
  refine RQ.blk 5 (pc' := 16) (lv' := [(0, .ref 1), (1, .int (nI v)), (2, .int (nI u)), (3, .int (nI k))]) (st' := [.ref 1, .int 30, .int 1, .int (nI k), .ref 1]) (H' := _) (kc' := 0) (ks' := 0) rfl ?_
  refine RQ.get (ci := 11) rfl h0 rfl rfl ?_
  refine RQ.get (ci := 5) rfl h1 rfl rfl ?_
  refine RQ.blk 1 (pc' := 25) (lv' := [(0, .ref 1), (1, .int (nI v)), (2, .int (nI u)), (3, .int (nI k))]) (st' := [.int (if nI l < 30 then nI l else 30), .int 1, .int (nI k), .ref 1]) (H' := _) (kc' := 0) (ks' := 0) rfl ?_
  rw [show (if nI l < 30 then nI l else 30 : Int32) = nI (min 30 l) from minI (a := 30) (b := l) (by omega) (by omega)]
  refine RQ.call (v := none) (st' := []) rfl rfl rfl rfl rfl rfl (args_v [.int (nI (min 30 l)), .int 1, .int (nI k)] [] rfl rfl (Nat.le_of_ble_eq_true rfl) rfl h0 (Nat.le_of_ble_eq_true rfl)) (rc_range (fun e => absurd e (nI_nlt hk1 (by omega))) (rg_hi (n := min 30 l) (by omega) (by omega))) ?_
  refine RQ.blk 3 (pc' := 31) (lv' := [(0, .ref 1), (1, .int (nI v)), (2, .int (nI u)), (3, .int (nI k))]) (st' := [.int (nI k), .int 0, .ref 1]) (H' := _) (kc' := 0) (ks' := 0) rfl ?_
  refine RQ.call (v := none) (st' := []) rfl rfl rfl rfl rfl rfl (args_v [.int (nI k), .int 0] [] rfl rfl (Nat.le_of_ble_eq_true rfl) rfl h0 (Nat.le_of_ble_eq_true rfl)) (rc_requireName1 (i := 0) h0 ⟨h1, h2, by decide, by decide⟩ (by omega) (by decide) hk1 hk2 hnm) ?_
  refine RQ.blk 3 (pc' := 37) (lv' := [(0, .ref 1), (1, .int (nI v)), (2, .int (nI u)), (3, .int (nI k))]) (st' := [.ref 1, .int (nI k), .ref 1]) (H' := _) (kc' := 0) (ks' := 0) rfl ?_
  refine RQ.get (ci := 11) rfl h0 rfl rfl ?_
  refine RQ.get (ci := 5) rfl h1 rfl rfl ?_
  refine RQ.blk 2 (pc' := 45) (lv' := [(0, .ref 1), (1, .int (nI v)), (2, .int (nI u)), (3, .int (nI k))]) (st' := [.int (nI l - nI k), .int (nI k), .ref 1]) (H' := _) (kc' := 0) (ks' := 0) rfl ?_
  rw [show (nI l - nI k : Int32) = nI (l - k) from pk_sub (a := l) (b := k) (by omega)]
  refine RQ.call (v := none) (st' := []) rfl rfl rfl rfl rfl rfl (args_v [.int (nI (l - k)), .int (nI k)] [] rfl rfl (Nat.le_of_ble_eq_true rfl) rfl h0 (Nat.le_of_ble_eq_true rfl)) (rc_requireName1 (i := k) (n := l - k) h0 ⟨h1, h2, by decide, by decide⟩ (by omega) (by omega) (by omega) (by omega) hnm2) ?_
  refine RQ.blk 1 (pc' := 49) (lv' := [(0, .ref 1), (1, .int (nI v)), (2, .int (nI u)), (3, .int (nI k))]) (st' := [.ref 1]) (H' := _) (kc' := 0) (ks' := 0) rfl ?_
  refine RQ.call (v := none) (st' := []) rfl rfl rfl rfl rfl rfl (args_v [] [] rfl rfl (Nat.le_of_ble_eq_true rfl) rfl h0 (Nat.le_of_ble_eq_true rfl)) (rc_up h0 rfl) ?_
  refine RQ.blk 1 (pc' := 53) (lv' := [(0, .ref 1), (1, .int (nI v)), (2, .int (nI u)), (3, .int (nI k))]) (st' := [.ref 1]) (H' := _) (kc' := 0) (ks' := 0) rfl ?_
  refine RQ.call (v := some (.int (nI l))) (st' := []) rfl rfl rfl rfl rfl rfl (args_v [] [] rfl rfl (Nat.le_of_ble_eq_true rfl) rfl h0 (Nat.le_of_ble_eq_true rfl)) (rc_takeTape h0 h1) ?_
  have far1 : ∀ a, a ≠ 1 → (H.set 1 (kO 5 [.ref 3, .int (nI 0)]))[a]? = H[a]? := fun a ha => set_far ha
  have h11 : (H.set 1 (kO 5 [.ref 3, .int (nI 0)]))[1]? = some (kO 5 [.ref 3, .int (nI 0)]) := get_set h1
  refine RQ.blk 2 (pc' := 58) (lv' := [(0, .ref 1), (1, .int (nI v)), (2, .int (nI u)), (3, .int (nI k))]) (st' := [.int (nI l - nI k)]) (H' := _) (kc' := 0) (ks' := 0) rfl ?_
  rw [show (nI l - nI k : Int32) = nI (l - k) from pk_sub (a := l) (b := k) (by omega)]
  refine RQ.blk 1 (pc' := 60) (lv' := [(4, .int (nI (l - k))), (0, .ref 1), (1, .int (nI v)), (2, .int (nI u)), (3, .int (nI k))]) (st' := []) (H' := _) (kc' := 0) (ks' := 0) rfl ?_
  show RQ _ _ _ 60 [(4, .int (nI (l - k))), (0, .ref 1), (1, .int (nI v)), (2, .int (nI u)), (3, .int (nI k))] [] (H.set 1 (kO 5 [.ref 3, .int (nI 0)])) 0 0 _
  generalize (H.set 1 (kO 5 [.ref 3, .int (nI 0)])) = H1 at far1 h11 ⊢
  have h01 := (far1 0 (by decide)).trans h0
  have h21 := (far1 2 (by decide)).trans h2
  have hT1 : TreeAt H1 t.1 t.2.1 t.2.2.1 t.2.2.2.1 t.2.2.2.2.1 t.2.2.2.2.2 := hT.far (fun a a1 a2 => far1 a (by omega))
  have hc1 : ClsA H1 B P 1 cw cl cp cb tb 0 g rl wss t := h.small h01 h11 h21 ((far1 3 (by decide)).trans h3) ((far1 4 (by decide)).trans h4) ⟨q5, p6, (far1 5 (by decide)).trans h5, (far1 6 (by decide)).trans h6⟩ (fun a a1 a2 => far1 a (by omega))
  have fk1 : FrK H H1 := fun a ha => far1 a (by omega)
  refine RQ.blk 2 (pc' := 62) (lv' := [(4, .int (nI (l - k))), (0, .ref 1), (1, .int (nI v)), (2, .int (nI u)), (3, .int (nI k))]) (st' := [.int (nI v), .ref 1]) (H' := _) (kc' := 0) (ks' := 0) rfl ?_
  refine RQ.call (v := none) (st' := []) rfl rfl rfl rfl rfl rfl (args_v [.int (nI v)] [] rfl rfl (Nat.le_of_ble_eq_true rfl) rfl h01 (Nat.le_of_ble_eq_true rfl)) (rc_reqDir h01 rfl hT1.1 rfl hT1.2.1 hv (nI_is2 hkd)) ?_
  refine RQ.blk 2 (pc' := 67) (lv' := [(4, .int (nI (l - k))), (0, .ref 1), (1, .int (nI v)), (2, .int (nI u)), (3, .int (nI k))]) (st' := [.int (nI u), .ref 1]) (H' := _) (kc' := 0) (ks' := 0) rfl ?_
  refine RQ.call (v := none) (st' := []) rfl rfl rfl rfl rfl rfl (args_v [.int (nI u)] [] rfl rfl (Nat.le_of_ble_eq_true rfl) rfl h01 (Nat.le_of_ble_eq_true rfl)) (rc_reqDir h01 rfl hT1.1 rfl hT1.2.1 hu (nI_is2 hkd2)) ?_
  refine RQ.blk 1 (pc' := 71) (lv' := [(4, .int (nI (l - k))), (0, .ref 1), (1, .int (nI v)), (2, .int (nI u)), (3, .int (nI k))]) (st' := [.ref 1]) (H' := _) (kc' := 0) (ks' := 0) rfl ?_
  refine RQ.get (ci := 11) rfl h01 rfl rfl ?_
  refine RQ.blk 2 (pc' := 76) (lv' := [(4, .int (nI (l - k))), (0, .ref 1), (1, .int (nI v)), (2, .int (nI u)), (3, .int (nI k))]) (st' := [.ref 1, .int (nI v), .ref 66]) (H' := _) (kc' := 0) (ks' := 0) rfl ?_
  refine RQ.get (ci := 11) rfl h01 rfl rfl ?_
  refine RQ.get (ci := 5) rfl h11 rfl rfl ?_
  refine RQ.blk 2 (pc' := 84) (lv' := [(4, .int (nI (l - k))), (0, .ref 1), (1, .int (nI v)), (2, .int (nI u)), (3, .int (nI k))]) (st' := [.int (nI k), .int 0, .ref 3, .int (nI v), .ref 66]) (H' := _) (kc' := 0) (ks' := 0) rfl ?_
  refine RQ.call (v := some (.int (lI (fstF (inN t.1 t.2.1 t.2.2.2.1 t.2.2.2.2.1 v (sl tb 0 k)) 1 200)))) (st' := []) rfl rfl rfl rfl rfl rfl (args_v [.int (nI k), .int 0, .ref 3, .int (nI v)] [] rfl rfl (Nat.le_of_ble_eq_true rfl) rfl hT1.1 (Nat.le_of_ble_eq_true rfl)) (rc_childNamed (a := 2) (na := 2000) (j := 0) (m := k) hT1 hk h21 (by decide) (by omega) hv) ?_
  rw [hc1x]
  rw [show lI (some r) = nI r from rfl]
  have hr := fstF_lt hc1x
  have hkr := hk r (by omega)
  refine RQ.blk 3 (pc' := 92) (lv' := [(5, .int (nI r)), (4, .int (nI (l - k))), (0, .ref 1), (1, .int (nI v)), (2, .int (nI u)), (3, .int (nI k))]) (st' := [.int (nI r), .ref 1]) (H' := _) (kc' := 0) (ks' := 0) rfl ?_
  refine RQ.call (v := none) (st' := []) rfl rfl rfl rfl rfl rfl (args_v [.int (nI r)] [] rfl rfl (Nat.le_of_ble_eq_true rfl) rfl h01 (Nat.le_of_ble_eq_true rfl)) (rc_there (by omega)) ?_
  refine RQ.blk 1 (pc' := 96) (lv' := [(5, .int (nI r)), (4, .int (nI (l - k))), (0, .ref 1), (1, .int (nI v)), (2, .int (nI u)), (3, .int (nI k))]) (st' := [.ref 1]) (H' := _) (kc' := 0) (ks' := 0) rfl ?_
  refine RQ.get (ci := 11) rfl h01 rfl rfl ?_
  refine RQ.blk 2 (pc' := 101) (lv' := [(5, .int (nI r)), (4, .int (nI (l - k))), (0, .ref 1), (1, .int (nI v)), (2, .int (nI u)), (3, .int (nI k))]) (st' := [.ref 1, .int (nI u), .ref 66]) (H' := _) (kc' := 0) (ks' := 0) rfl ?_
  refine RQ.get (ci := 11) rfl h01 rfl rfl ?_
  refine RQ.get (ci := 5) rfl h11 rfl rfl ?_
  refine RQ.blk 2 (pc' := 110) (lv' := [(5, .int (nI r)), (4, .int (nI (l - k))), (0, .ref 1), (1, .int (nI v)), (2, .int (nI u)), (3, .int (nI k))]) (st' := [.int (nI (l - k)), .int (nI k), .ref 3, .int (nI u), .ref 66]) (H' := _) (kc' := 0) (ks' := 0) rfl ?_
  refine RQ.call (v := some (.int (lI (fstF (inN t.1 t.2.1 t.2.2.2.1 t.2.2.2.2.1 u (sl tb k (l - k))) 1 200)))) (st' := []) rfl rfl rfl rfl rfl rfl (args_v [.int (nI (l - k)), .int (nI k), .ref 3, .int (nI u)] [] rfl rfl (Nat.le_of_ble_eq_true rfl) rfl hT1.1 (Nat.le_of_ble_eq_true rfl)) (rc_childNamed (a := 2) (na := 2000) (j := k) (m := l - k) hT1 hk h21 (by decide) (by omega) hu) ?_
  rw [hc2x]
  rw [show lI (some q) = nI q from rfl]
  have hq := fstF_lt hc2x
  have hkq := hk q (by omega)
  refine RQ.blk 3 (pc' := 119) (lv' := [(6, .int (nI q)), (5, .int (nI r)), (4, .int (nI (l - k))), (0, .ref 1), (1, .int (nI v)), (2, .int (nI u)), (3, .int (nI k))]) (st' := [.int (nI r), .int (nI q)]) (H' := _) (kc' := 0) (ks' := 0) rfl ?_
  refine RQ.brT rfl rfl rfl (cT_ne q r) ?_
  refine RQ.blk 1 (pc' := 126) (lv' := [(6, .int (nI q)), (5, .int (nI r)), (4, .int (nI (l - k))), (0, .ref 1), (1, .int (nI v)), (2, .int (nI u)), (3, .int (nI k))]) (st' := [.ref 1]) (H' := _) (kc' := 0) (ks' := 0) rfl ?_
  refine RQ.get (ci := 11) rfl h01 rfl rfl ?_
  refine RQ.blk 1 (pc' := 131) (lv' := [(6, .int (nI q)), (5, .int (nI r)), (4, .int (nI (l - k))), (0, .ref 1), (1, .int (nI v)), (2, .int (nI u)), (3, .int (nI k))]) (st' := [.int (nI r), .ref 66]) (H' := _) (kc' := 0) (ks' := 0) rfl ?_
  refine RQ.call (v := some (.int 0)) (st' := []) rfl rfl rfl rfl rfl rfl (args_v [.int (nI r)] [] rfl rfl (Nat.le_of_ble_eq_true rfl) rfl hT1.1 (Nat.le_of_ble_eq_true rfl)) (rc_isDirF hT1.1 rfl hT1.2.1 (by omega) (nI_ne2 hkr.1 hd)) ?_
  refine RQ.brT rfl rfl rfl (by decide) ?_
  refine RQ.blk 1 (pc' := 156) (lv' := [(6, .int (nI q)), (5, .int (nI r)), (4, .int (nI (l - k))), (0, .ref 1), (1, .int (nI v)), (2, .int (nI u)), (3, .int (nI k))]) (st' := [.ref 1]) (H' := _) (kc' := 0) (ks' := 0) rfl ?_
  refine RQ.get (ci := 11) rfl h01 rfl rfl ?_
  refine RQ.blk 1 (pc' := 161) (lv' := [(6, .int (nI q)), (5, .int (nI r)), (4, .int (nI (l - k))), (0, .ref 1), (1, .int (nI v)), (2, .int (nI u)), (3, .int (nI k))]) (st' := [.int (nI q), .ref 66]) (H' := _) (kc' := 0) (ks' := 0) rfl ?_
  refine RQ.call (v := some (.int 1)) (st' := []) rfl rfl rfl rfl rfl rfl (args_v [.int (nI q)] [] rfl rfl (Nat.le_of_ble_eq_true rfl) rfl hT1.1 (Nat.le_of_ble_eq_true rfl)) (rc_isDirT hT1.1 rfl hT1.2.1 (by omega) (nI_is2 hd2)) ?_
  refine RQ.brF rfl rfl rfl (by decide) ?_
  exact RQ.done (c := 1) (s := 6) rfl rfl rfl rfl ⟨_, rfl, hc1, fk1⟩
set_option maxRecDepth 20000 in
theorem rx_rename0_full {sc : Nat × (Nat → Int32)} {d : Nat} {H : aH} {B P : Nat} {cw cl : Int32} {cp cb : Nat} {tb : Nat → Int8} {l : Nat} {g : Nat → Int8} {rl : Nat} {wss : Nat → List aE} {t : aTr} {v u k r : Nat} {ws : List aE} {N : Nat} {op : Nat → Bool} {sm : Nat → Nat} {vs : List aV} (h : ClsA H B P 1 cw cl cp cb tb l g rl wss t) (hk : TreeOk t.1 t.2.1 t.2.2.1 t.2.2.2.1) (hv : v ≤ 200) (hu : u ≤ 200) (hk1 : 1 ≤ k) (hk2 : k ≤ 30) (hk3 : k + 1 ≤ l) (hk4 : l ≤ k + 30) (hnm : ∀ j, j < k → ¬ btB tb l (0 + j) = 47) (hnm2 : ∀ j, j < l - k → ¬ btB tb l (k + j) = 47) (hkd : t.1 v = 2) (hkd2 : t.1 u = 2) (hc1x : fstF (inN t.1 t.2.1 t.2.2.2.1 t.2.2.2.2.1 v (sl tb 0 k)) 1 200 = some r) (hc2x : fstF (inN t.1 t.2.1 t.2.2.2.1 t.2.2.2.2.1 u (sl tb k (l - k))) 1 200 = none) (hwi : ¬ (t.1 r = 2 ∧ upF t.2.1 r 201 u = r)) (hws : [([1, r], some ([t.1 r, u] ++ (beB 2 (t.2.2.1 r) ++ sl tb k (l - k))))] = ws) (h1W : OneW ws) (hkl : ∀ e ∈ ws, 1 ≤ e.1.length) (hs : SightAt H op sm) (hsm : ∀ t, t < 8 → sm t < 2 ^ 30) (hV : VersIs H N vs) (hpr : ∀ v ∈ vs, v.2.1 ≤ P) (hP : P + 1 < 2 ^ 30) (hB : B ≤ 128) (hle : B * 256 < sumN op sm (-1) (P + 1) (kmV (inclV (P + 1) (fun _ => 0) 0 ws vs)) (inclV (P + 1) (fun _ => 0) 0 ws vs)) (hl31 : sumN op sm (-1) (P + 1) (kmV (inclV (P + 1) (fun _ => 0) 0 ws vs)) (inclV (P + 1) (fun _ => 0) 0 ws vs) < 2 ^ 31) : RX sc (d + 8) mr_233 [.ref 1, .int (nI v), .int (nI u), .int (nI k)] H 2 (fun H' => ClsA H' B P 1 cw cl cp cb tb 0 g rl wss t ∧ FrK H H') := by
  obtain ⟨h0, h1, h2, h3, h4, ⟨q5, p6, h5, h6⟩, ⟨wq, h10, hwq⟩, hW, hCh, hT⟩ := id h
  refine RX.of ?_
  refine RQ.blk 2 (pc' := 2) (lv' := [(0, .ref 1), (1, .int (nI v)), (2, .int (nI u)), (3, .int (nI k))]) (st' := [.int (nI v), .ref 1]) (H' := _) (kc' := 0) (ks' := 0) rfl ?_
  refine RQ.call (v := none) (st' := []) rfl rfl rfl rfl rfl rfl (args_v [.int (nI v)] [] rfl rfl (Nat.le_of_ble_eq_true rfl) rfl h0 (Nat.le_of_ble_eq_true rfl)) (rc_reqNum h0 hv) ?_
  refine RQ.blk 2 (pc' := 7) (lv' := [(0, .ref 1), (1, .int (nI v)), (2, .int (nI u)), (3, .int (nI k))]) (st' := [.int (nI u), .ref 1]) (H' := _) (kc' := 0) (ks' := 0) rfl ?_
  refine RQ.call (v := none) (st' := []) rfl rfl rfl rfl rfl rfl (args_v [.int (nI u)] [] rfl rfl (Nat.le_of_ble_eq_true rfl) rfl h0 (Nat.le_of_ble_eq_true rfl)) (rc_reqNum h0 hu) ?_
  refine RQ.blk 5 (pc' := 16) (lv' := [(0, .ref 1), (1, .int (nI v)), (2, .int (nI u)), (3, .int (nI k))]) (st' := [.ref 1, .int 30, .int 1, .int (nI k), .ref 1]) (H' := _) (kc' := 0) (ks' := 0) rfl ?_
  refine RQ.get (ci := 11) rfl h0 rfl rfl ?_
  refine RQ.get (ci := 5) rfl h1 rfl rfl ?_
  refine RQ.blk 1 (pc' := 25) (lv' := [(0, .ref 1), (1, .int (nI v)), (2, .int (nI u)), (3, .int (nI k))]) (st' := [.int (if nI l < 30 then nI l else 30), .int 1, .int (nI k), .ref 1]) (H' := _) (kc' := 0) (ks' := 0) rfl ?_
  rw [show (if nI l < 30 then nI l else 30 : Int32) = nI (min 30 l) from minI (a := 30) (b := l) (by omega) (by omega)]
  refine RQ.call (v := none) (st' := []) rfl rfl rfl rfl rfl rfl (args_v [.int (nI (min 30 l)), .int 1, .int (nI k)] [] rfl rfl (Nat.le_of_ble_eq_true rfl) rfl h0 (Nat.le_of_ble_eq_true rfl)) (rc_range (fun e => absurd e (nI_nlt hk1 (by omega))) (rg_hi (n := min 30 l) (by omega) (by omega))) ?_
  refine RQ.blk 3 (pc' := 31) (lv' := [(0, .ref 1), (1, .int (nI v)), (2, .int (nI u)), (3, .int (nI k))]) (st' := [.int (nI k), .int 0, .ref 1]) (H' := _) (kc' := 0) (ks' := 0) rfl ?_
  refine RQ.call (v := none) (st' := []) rfl rfl rfl rfl rfl rfl (args_v [.int (nI k), .int 0] [] rfl rfl (Nat.le_of_ble_eq_true rfl) rfl h0 (Nat.le_of_ble_eq_true rfl)) (rc_requireName1 (i := 0) h0 ⟨h1, h2, by decide, by decide⟩ (by omega) (by decide) hk1 hk2 hnm) ?_
  refine RQ.blk 3 (pc' := 37) (lv' := [(0, .ref 1), (1, .int (nI v)), (2, .int (nI u)), (3, .int (nI k))]) (st' := [.ref 1, .int (nI k), .ref 1]) (H' := _) (kc' := 0) (ks' := 0) rfl ?_
  refine RQ.get (ci := 11) rfl h0 rfl rfl ?_
  refine RQ.get (ci := 5) rfl h1 rfl rfl ?_
  refine RQ.blk 2 (pc' := 45) (lv' := [(0, .ref 1), (1, .int (nI v)), (2, .int (nI u)), (3, .int (nI k))]) (st' := [.int (nI l - nI k), .int (nI k), .ref 1]) (H' := _) (kc' := 0) (ks' := 0) rfl ?_
  rw [show (nI l - nI k : Int32) = nI (l - k) from pk_sub (a := l) (b := k) (by omega)]
  refine RQ.call (v := none) (st' := []) rfl rfl rfl rfl rfl rfl (args_v [.int (nI (l - k)), .int (nI k)] [] rfl rfl (Nat.le_of_ble_eq_true rfl) rfl h0 (Nat.le_of_ble_eq_true rfl)) (rc_requireName1 (i := k) (n := l - k) h0 ⟨h1, h2, by decide, by decide⟩ (by omega) (by omega) (by omega) (by omega) hnm2) ?_
  refine RQ.blk 1 (pc' := 49) (lv' := [(0, .ref 1), (1, .int (nI v)), (2, .int (nI u)), (3, .int (nI k))]) (st' := [.ref 1]) (H' := _) (kc' := 0) (ks' := 0) rfl ?_
  refine RQ.call (v := none) (st' := []) rfl rfl rfl rfl rfl rfl (args_v [] [] rfl rfl (Nat.le_of_ble_eq_true rfl) rfl h0 (Nat.le_of_ble_eq_true rfl)) (rc_up h0 rfl) ?_
  refine RQ.blk 1 (pc' := 53) (lv' := [(0, .ref 1), (1, .int (nI v)), (2, .int (nI u)), (3, .int (nI k))]) (st' := [.ref 1]) (H' := _) (kc' := 0) (ks' := 0) rfl ?_
  refine RQ.call (v := some (.int (nI l))) (st' := []) rfl rfl rfl rfl rfl rfl (args_v [] [] rfl rfl (Nat.le_of_ble_eq_true rfl) rfl h0 (Nat.le_of_ble_eq_true rfl)) (rc_takeTape h0 h1) ?_
  have far1 : ∀ a, a ≠ 1 → (H.set 1 (kO 5 [.ref 3, .int (nI 0)]))[a]? = H[a]? := fun a ha => set_far ha
  have h11 : (H.set 1 (kO 5 [.ref 3, .int (nI 0)]))[1]? = some (kO 5 [.ref 3, .int (nI 0)]) := get_set h1
  refine RQ.blk 2 (pc' := 58) (lv' := [(0, .ref 1), (1, .int (nI v)), (2, .int (nI u)), (3, .int (nI k))]) (st' := [.int (nI l - nI k)]) (H' := _) (kc' := 0) (ks' := 0) rfl ?_
  rw [show (nI l - nI k : Int32) = nI (l - k) from pk_sub (a := l) (b := k) (by omega)]
  refine RQ.blk 1 (pc' := 60) (lv' := [(4, .int (nI (l - k))), (0, .ref 1), (1, .int (nI v)), (2, .int (nI u)), (3, .int (nI k))]) (st' := []) (H' := _) (kc' := 0) (ks' := 0) rfl ?_
  show RQ _ _ _ 60 [(4, .int (nI (l - k))), (0, .ref 1), (1, .int (nI v)), (2, .int (nI u)), (3, .int (nI k))] [] (H.set 1 (kO 5 [.ref 3, .int (nI 0)])) 0 0 _
  generalize (H.set 1 (kO 5 [.ref 3, .int (nI 0)])) = H1 at far1 h11 ⊢
  have h01 := (far1 0 (by decide)).trans h0
  have h21 := (far1 2 (by decide)).trans h2
  have hT1 : TreeAt H1 t.1 t.2.1 t.2.2.1 t.2.2.2.1 t.2.2.2.2.1 t.2.2.2.2.2 := hT.far (fun a a1 a2 => far1 a (by omega))
  have hc1 : ClsA H1 B P 1 cw cl cp cb tb 0 g rl wss t := h.small h01 h11 h21 ((far1 3 (by decide)).trans h3) ((far1 4 (by decide)).trans h4) ⟨q5, p6, (far1 5 (by decide)).trans h5, (far1 6 (by decide)).trans h6⟩ (fun a a1 a2 => far1 a (by omega))
  have fk1 : FrK H H1 := fun a ha => far1 a (by omega)
  refine RQ.blk 2 (pc' := 62) (lv' := [(4, .int (nI (l - k))), (0, .ref 1), (1, .int (nI v)), (2, .int (nI u)), (3, .int (nI k))]) (st' := [.int (nI v), .ref 1]) (H' := _) (kc' := 0) (ks' := 0) rfl ?_
  refine RQ.call (v := none) (st' := []) rfl rfl rfl rfl rfl rfl (args_v [.int (nI v)] [] rfl rfl (Nat.le_of_ble_eq_true rfl) rfl h01 (Nat.le_of_ble_eq_true rfl)) (rc_reqDir h01 rfl hT1.1 rfl hT1.2.1 hv (nI_is2 hkd)) ?_
  refine RQ.blk 2 (pc' := 67) (lv' := [(4, .int (nI (l - k))), (0, .ref 1), (1, .int (nI v)), (2, .int (nI u)), (3, .int (nI k))]) (st' := [.int (nI u), .ref 1]) (H' := _) (kc' := 0) (ks' := 0) rfl ?_
  refine RQ.call (v := none) (st' := []) rfl rfl rfl rfl rfl rfl (args_v [.int (nI u)] [] rfl rfl (Nat.le_of_ble_eq_true rfl) rfl h01 (Nat.le_of_ble_eq_true rfl)) (rc_reqDir h01 rfl hT1.1 rfl hT1.2.1 hu (nI_is2 hkd2)) ?_
  refine RQ.blk 1 (pc' := 71) (lv' := [(4, .int (nI (l - k))), (0, .ref 1), (1, .int (nI v)), (2, .int (nI u)), (3, .int (nI k))]) (st' := [.ref 1]) (H' := _) (kc' := 0) (ks' := 0) rfl ?_
  refine RQ.get (ci := 11) rfl h01 rfl rfl ?_
  refine RQ.blk 2 (pc' := 76) (lv' := [(4, .int (nI (l - k))), (0, .ref 1), (1, .int (nI v)), (2, .int (nI u)), (3, .int (nI k))]) (st' := [.ref 1, .int (nI v), .ref 66]) (H' := _) (kc' := 0) (ks' := 0) rfl ?_
  refine RQ.get (ci := 11) rfl h01 rfl rfl ?_
  refine RQ.get (ci := 5) rfl h11 rfl rfl ?_
  refine RQ.blk 2 (pc' := 84) (lv' := [(4, .int (nI (l - k))), (0, .ref 1), (1, .int (nI v)), (2, .int (nI u)), (3, .int (nI k))]) (st' := [.int (nI k), .int 0, .ref 3, .int (nI v), .ref 66]) (H' := _) (kc' := 0) (ks' := 0) rfl ?_
  refine RQ.call (v := some (.int (lI (fstF (inN t.1 t.2.1 t.2.2.2.1 t.2.2.2.2.1 v (sl tb 0 k)) 1 200)))) (st' := []) rfl rfl rfl rfl rfl rfl (args_v [.int (nI k), .int 0, .ref 3, .int (nI v)] [] rfl rfl (Nat.le_of_ble_eq_true rfl) rfl hT1.1 (Nat.le_of_ble_eq_true rfl)) (rc_childNamed (a := 2) (na := 2000) (j := 0) (m := k) hT1 hk h21 (by decide) (by omega) hv) ?_
  rw [hc1x]
  rw [show lI (some r) = nI r from rfl]
  have hr := fstF_lt hc1x
  have hkr := hk r (by omega)
  refine RQ.blk 3 (pc' := 92) (lv' := [(5, .int (nI r)), (4, .int (nI (l - k))), (0, .ref 1), (1, .int (nI v)), (2, .int (nI u)), (3, .int (nI k))]) (st' := [.int (nI r), .ref 1]) (H' := _) (kc' := 0) (ks' := 0) rfl ?_
  refine RQ.call (v := none) (st' := []) rfl rfl rfl rfl rfl rfl (args_v [.int (nI r)] [] rfl rfl (Nat.le_of_ble_eq_true rfl) rfl h01 (Nat.le_of_ble_eq_true rfl)) (rc_there (by omega)) ?_
  refine RQ.blk 1 (pc' := 96) (lv' := [(5, .int (nI r)), (4, .int (nI (l - k))), (0, .ref 1), (1, .int (nI v)), (2, .int (nI u)), (3, .int (nI k))]) (st' := [.ref 1]) (H' := _) (kc' := 0) (ks' := 0) rfl ?_
  refine RQ.get (ci := 11) rfl h01 rfl rfl ?_
  refine RQ.blk 2 (pc' := 101) (lv' := [(5, .int (nI r)), (4, .int (nI (l - k))), (0, .ref 1), (1, .int (nI v)), (2, .int (nI u)), (3, .int (nI k))]) (st' := [.ref 1, .int (nI u), .ref 66]) (H' := _) (kc' := 0) (ks' := 0) rfl ?_
  refine RQ.get (ci := 11) rfl h01 rfl rfl ?_
  refine RQ.get (ci := 5) rfl h11 rfl rfl ?_
  refine RQ.blk 2 (pc' := 110) (lv' := [(5, .int (nI r)), (4, .int (nI (l - k))), (0, .ref 1), (1, .int (nI v)), (2, .int (nI u)), (3, .int (nI k))]) (st' := [.int (nI (l - k)), .int (nI k), .ref 3, .int (nI u), .ref 66]) (H' := _) (kc' := 0) (ks' := 0) rfl ?_
  refine RQ.call (v := some (.int (lI (fstF (inN t.1 t.2.1 t.2.2.2.1 t.2.2.2.2.1 u (sl tb k (l - k))) 1 200)))) (st' := []) rfl rfl rfl rfl rfl rfl (args_v [.int (nI (l - k)), .int (nI k), .ref 3, .int (nI u)] [] rfl rfl (Nat.le_of_ble_eq_true rfl) rfl hT1.1 (Nat.le_of_ble_eq_true rfl)) (rc_childNamed (a := 2) (na := 2000) (j := k) (m := l - k) hT1 hk h21 (by decide) (by omega) hu) ?_
  rw [hc2x]
  rw [show lI none = -1 from rfl]
  refine RQ.blk 3 (pc' := 119) (lv' := [(6, .int (-1)), (5, .int (nI r)), (4, .int (nI (l - k))), (0, .ref 1), (1, .int (nI v)), (2, .int (nI u)), (3, .int (nI k))]) (st' := [.int (nI r), .int (-1)]) (H' := _) (kc' := 0) (ks' := 0) rfl ?_
  refine RQ.brT rfl rfl rfl (bnt (fun e => absurd (show nI r < nI 0 by rw [← e]; decide) (nI_nlt (Nat.zero_le r) (by omega)))) ?_
  refine RQ.blk 1 (pc' := 126) (lv' := [(6, .int (-1)), (5, .int (nI r)), (4, .int (nI (l - k))), (0, .ref 1), (1, .int (nI v)), (2, .int (nI u)), (3, .int (nI k))]) (st' := [.ref 1]) (H' := _) (kc' := 0) (ks' := 0) rfl ?_
  refine RQ.get (ci := 11) rfl h01 rfl rfl ?_
  refine RQ.blk 1 (pc' := 131) (lv' := [(6, .int (-1)), (5, .int (nI r)), (4, .int (nI (l - k))), (0, .ref 1), (1, .int (nI v)), (2, .int (nI u)), (3, .int (nI k))]) (st' := [.int (nI r), .ref 66]) (H' := _) (kc' := 0) (ks' := 0) rfl ?_
  by_cases kd2 : t.1 r = 2
  · refine RQ.call (v := some (.int 1)) (st' := []) rfl rfl rfl rfl rfl rfl (args_v [.int (nI r)] [] rfl rfl (Nat.le_of_ble_eq_true rfl) rfl hT1.1 (Nat.le_of_ble_eq_true rfl)) (rc_isDirT hT1.1 rfl hT1.2.1 (by omega) (nI_is2 kd2)) ?_
    refine RQ.brF rfl rfl rfl (by decide) ?_
    refine RQ.blk 1 (pc' := 139) (lv' := [(6, .int (-1)), (5, .int (nI r)), (4, .int (nI (l - k))), (0, .ref 1), (1, .int (nI v)), (2, .int (nI u)), (3, .int (nI k))]) (st' := [.int (-1)]) (H' := _) (kc' := 0) (ks' := 0) rfl ?_
    refine RQ.brF rfl rfl rfl (by decide) ?_
    refine RQ.blk 1 (pc' := 143) (lv' := [(6, .int (-1)), (5, .int (nI r)), (4, .int (nI (l - k))), (0, .ref 1), (1, .int (nI v)), (2, .int (nI u)), (3, .int (nI k))]) (st' := [.ref 1]) (H' := _) (kc' := 0) (ks' := 0) rfl ?_
    refine RQ.get (ci := 11) rfl h01 rfl rfl ?_
    refine RQ.blk 2 (pc' := 149) (lv' := [(6, .int (-1)), (5, .int (nI r)), (4, .int (nI (l - k))), (0, .ref 1), (1, .int (nI v)), (2, .int (nI u)), (3, .int (nI k))]) (st' := [.int (nI r), .int (nI u), .ref 66]) (H' := _) (kc' := 0) (ks' := 0) rfl ?_
    refine RQ.call (v := some (.int (if upF t.2.1 r 201 u = r then 1 else 0))) (st' := []) rfl rfl rfl rfl rfl rfl (args_v [.int (nI r), .int (nI u)] [] rfl rfl (Nat.le_of_ble_eq_true rfl) rfl hT1.1 (Nat.le_of_ble_eq_true rfl)) (rc_isWithin hT1 hk hu (by omega)) ?_
    rw [if_neg (fun e => hwi ⟨kd2, e⟩)]
    refine RQ.brF rfl rfl rfl (by decide) ?_
    refine RQ.blk 1 (pc' := 156) (lv' := [(6, .int (-1)), (5, .int (nI r)), (4, .int (nI (l - k))), (0, .ref 1), (1, .int (nI v)), (2, .int (nI u)), (3, .int (nI k))]) (st' := [.ref 1]) (H' := _) (kc' := 0) (ks' := 0) rfl ?_
    refine RQ.get (ci := 11) rfl h01 rfl rfl ?_
    refine RQ.blk 1 (pc' := 161) (lv' := [(6, .int (-1)), (5, .int (nI r)), (4, .int (nI (l - k))), (0, .ref 1), (1, .int (nI v)), (2, .int (nI u)), (3, .int (nI k))]) (st' := [.int (-1), .ref 66]) (H' := _) (kc' := 0) (ks' := 0) rfl ?_
    refine RQ.call (v := some (.int 0)) (st' := []) rfl rfl rfl rfl rfl rfl (args_v [.int (-1)] [] rfl rfl (Nat.le_of_ble_eq_true rfl) rfl hT1.1 (Nat.le_of_ble_eq_true rfl)) (rc_isDirN hT1.1) ?_
    refine RQ.brT rfl rfl rfl (by decide) ?_
    refine RQ.blk 1 (pc' := 179) (lv' := [(6, .int (-1)), (5, .int (nI r)), (4, .int (nI (l - k))), (0, .ref 1), (1, .int (nI v)), (2, .int (nI u)), (3, .int (nI k))]) (st' := [.ref 1]) (H' := _) (kc' := 0) (ks' := 0) rfl ?_
    refine RQ.get (ci := 11) rfl h01 rfl rfl ?_
    refine RQ.blk 1 (pc' := 184) (lv' := [(6, .int (-1)), (5, .int (nI r)), (4, .int (nI (l - k))), (0, .ref 1), (1, .int (nI v)), (2, .int (nI u)), (3, .int (nI k))]) (st' := [.int (nI r), .ref 66]) (H' := _) (kc' := 0) (ks' := 0) rfl ?_
    refine RQ.call (v := some (.int (nI (t.1 r)))) (st' := []) rfl rfl rfl rfl rfl rfl (args_v [.int (nI r)] [] rfl rfl (Nat.le_of_ble_eq_true rfl) rfl hT1.1 (Nat.le_of_ble_eq_true rfl)) (rc_kindOf hT1.1 rfl hT1.2.1 (by omega)) ?_
    refine RQ.blk 2 (pc' := 190) (lv' := [(7, .int (nI (t.1 r))), (6, .int (-1)), (5, .int (nI r)), (4, .int (nI (l - k))), (0, .ref 1), (1, .int (nI v)), (2, .int (nI u)), (3, .int (nI k))]) (st' := [.ref 1]) (H' := _) (kc' := 0) (ks' := 0) rfl ?_
    refine RQ.get (ci := 11) rfl h01 rfl rfl ?_
    refine RQ.blk 1 (pc' := 195) (lv' := [(7, .int (nI (t.1 r))), (6, .int (-1)), (5, .int (nI r)), (4, .int (nI (l - k))), (0, .ref 1), (1, .int (nI v)), (2, .int (nI u)), (3, .int (nI k))]) (st' := [.int (nI r), .ref 66]) (H' := _) (kc' := 0) (ks' := 0) rfl ?_
    refine RQ.call (v := some (.int (nI (t.2.2.1 r)))) (st' := []) rfl rfl rfl rfl rfl rfl (args_v [.int (nI r)] [] rfl rfl (Nat.le_of_ble_eq_true rfl) rfl hT1.1 (Nat.le_of_ble_eq_true rfl)) (rc_sizeOf hT1 hk (by omega)) ?_
    refine RQ.blk 1 (pc' := 200) (lv' := [(8, .int (nI (t.2.2.1 r))), (7, .int (nI (t.1 r))), (6, .int (-1)), (5, .int (nI r)), (4, .int (nI (l - k))), (0, .ref 1), (1, .int (nI v)), (2, .int (nI u)), (3, .int (nI k))]) (st' := []) (H' := _) (kc' := 0) (ks' := 0) rfl ?_
    obtain ⟨⟨ws0, hb0⟩, Q0, hq0⟩ := hc1.2.2.2.2.2.2.2.2.1
    obtain ⟨D0, S0, K0, E0, hb0A, -⟩ := id hb0
    refine RQ.blk 1 (pc' := 201) (lv' := [(8, .int (nI (t.2.2.1 r))), (7, .int (nI (t.1 r))), (6, .int (-1)), (5, .int (nI r)), (4, .int (nI (l - k))), (0, .ref 1), (1, .int (nI v)), (2, .int (nI u)), (3, .int (nI k))]) (st' := [.ref 1]) (H' := _) (kc' := 0) (ks' := 0) rfl ?_
    refine RQ.get (ci := 11) rfl h01 rfl rfl ?_
    refine RQ.callN (st' := []) rfl rfl rfl rfl rfl rfl (args_v [] [] rfl rfl (Nat.le_of_ble_eq_true rfl) rfl hb0A.1 (Nat.le_of_ble_eq_true rfl)) (rn_bclearI hb0) (fun H2 hx2 => ?_)
    obtain ⟨hb2, f2⟩ := hx2
    have h02 := (f2 0 (by decide)).trans h01
    have h12 := (f2 1 (by decide)).trans h11
    have h22 := (f2 2 (by decide)).trans h21
    have hT2 : TreeAt H2 t.1 t.2.1 t.2.2.1 t.2.2.2.1 t.2.2.2.2.1 t.2.2.2.2.2 := hT1.far (fun a a1 a2 => f2 a (by omega))
    have hq2 := (f2 64 (by decide)).trans hq0
    have e52 : ∃ q : Nat, H2[5]? = some (kO 5 [.ref 7, .int (nI q)]) := ⟨q5, (f2 5 (by decide)).trans ((far1 5 (by decide)).trans h5)⟩
    have e62 : ∃ g, H2[6]? = some (kB 41 g) := ⟨p6, (f2 6 (by decide)).trans ((far1 6 (by decide)).trans h6)⟩
    refine RQ.blk 6 (pc' := 216) (lv' := [(8, .int (nI (t.2.2.1 r))), (7, .int (nI (t.1 r))), (6, .int (-1)), (5, .int (nI r)), (4, .int (nI (l - k))), (0, .ref 1), (1, .int (nI v)), (2, .int (nI u)), (3, .int (nI k))]) (st' := [.ref 1, .int (nI (t.2.2.1 r)), .int (nI u), .int (nI (t.1 r)), .int (nI r), .ref 1]) (H' := _) (kc' := 0) (ks' := 0) rfl ?_
    refine RQ.get (ci := 11) rfl h02 rfl rfl ?_
    refine RQ.get (ci := 5) rfl h12 rfl rfl ?_
    refine RQ.blk 2 (pc' := 225) (lv' := [(8, .int (nI (t.2.2.1 r))), (7, .int (nI (t.1 r))), (6, .int (-1)), (5, .int (nI r)), (4, .int (nI (l - k))), (0, .ref 1), (1, .int (nI v)), (2, .int (nI u)), (3, .int (nI k))]) (st' := [.int (nI (l - k)), .int (nI k), .ref 3, .int (nI (t.2.2.1 r)), .int (nI u), .int (nI (t.1 r)), .int (nI r), .ref 1]) (H' := _) (kc' := 0) (ks' := 0) rfl ?_
    refine RQ.callN (st' := []) rfl rfl rfl rfl rfl rfl (args_v [.int (nI (l - k)), .int (nI k), .ref 3, .int (nI (t.2.2.1 r)), .int (nI u), .int (nI (t.1 r)), .int (nI r)] [] rfl rfl (Nat.le_of_ble_eq_true rfl) rfl h02 (Nat.le_of_ble_eq_true rfl)) (rn_chNode (v := r) (k := t.1 r) (dir := u) (s := t.2.2.1 r) (a := 2) (na := 2000) (i := k) (n := l - k) h02 e52 e62 hb2 h22 (by decide) (by decide) (by decide) (by decide) (by omega) (by omega) (by omega) (by omega) (by omega) (by omega) (by decide) (by show 0 + 6 + (l - k) ≤ 4100; omega)) (fun Hc hxc => ?_)
    obtain ⟨hbc, e5c, e6c, fc⟩ := hxc
    have hbc : BatchIs Hc 59 [([1, r], some ([t.1 r, u] ++ (beB 2 (t.2.2.1 r) ++ sl tb k (l - k))))] := hbc
    refine RQ.blk 1 (pc' := 230) (lv' := [(8, .int (nI (t.2.2.1 r))), (7, .int (nI (t.1 r))), (6, .int (-1)), (5, .int (nI r)), (4, .int (nI (l - k))), (0, .ref 1), (1, .int (nI v)), (2, .int (nI u)), (3, .int (nI k))]) (st' := [.int (-1)]) (H' := _) (kc' := 0) (ks' := 0) rfl ?_
    refine RQ.brT rfl rfl rfl (by decide) ?_
    rw [hws] at hbc
    show RQ _ _ _ 239 [(8, .int (nI (t.2.2.1 r))), (7, .int (nI (t.1 r))), (6, .int (-1)), (5, .int (nI r)), (4, .int (nI (l - k))), (0, .ref 1), (1, .int (nI v)), (2, .int (nI u)), (3, .int (nI k))] [] Hc 0 0 _
    obtain ⟨H3, eH3⟩ : ∃ H3, H3 = Hc := ⟨_, rfl⟩
    rw [← eH3] at hbc e5c e6c fc ⊢
    have hb3 := hbc
    have e53 := e5c
    have e63 := e6c
    have f3 := fc
    have f13 : ∀ a, a ≠ 5 → a ≠ 6 → ¬ (59 ≤ a ∧ a < 64) → H3[a]? = H1[a]? := fun a a1 a2 a3 => (f3 a a1 a2 a3).trans (f2 a (by omega))
    have hc3 : ClsA H3 B P 1 cw cl cp cb tb 0 g rl wss t := by
      obtain ⟨qa, ea⟩ := e53
      obtain ⟨pa, eb⟩ := e63
      obtain ⟨c0, c1, c2, c3, c4, -, ⟨wq2, c10, cwq⟩, cW, -, cT⟩ := hc1
      exact ⟨(f13 0 (by decide) (by decide) (by decide)).trans c0, (f13 1 (by decide) (by decide) (by decide)).trans c1, (f13 2 (by decide) (by decide) (by decide)).trans c2, (f13 3 (by decide) (by decide) (by decide)).trans c3, (f13 4 (by decide) (by decide) (by decide)).trans c4, ⟨qa, pa, ea, eb⟩, ⟨wq2, (f13 10 (by decide) (by decide) (by decide)).trans c10, cwq⟩, fun t ht => ⟨(cW t ht).1.keep (fun a a1 a2 => f13 a (by omega) (by omega) (by omega)), (cW t ht).2.imp (fun Q hQ => (f13 _ (by omega) (by omega) (by omega)).trans hQ)⟩, ⟨⟨_, hb3⟩, Q0, (f3 64 (by decide) (by decide) (by decide)).trans hq2⟩, cT.far (fun a a1 a2 => f13 a (by omega) (by omega) (by omega))⟩
    have fk3 : FrK H H3 := fk1.trans (fun a ha => f13 a (by omega) (by omega) (by omega))
    have hch3 : ChB H H3 B P cw cl cp cb tb 0 g rl wss t ws := ⟨hc3, hb3, fk3⟩
    obtain ⟨D3, S3, K3, E3, hb3A, hb3L, hb340, hb341⟩ := id hb3
    have hb3k := hb3L.ok hb340 hb341
    have h03 := hc3.1
    have h13 := hc3.2.1
    have h23 := hc3.2.2.1
    have hT3 : TreeAt H3 t.1 t.2.1 t.2.2.1 t.2.2.2.1 t.2.2.2.2.1 t.2.2.2.2.2 := hc3.2.2.2.2.2.2.2.2.2
    refine RQ.blk 2 (pc' := 241) (lv' := [(8, .int (nI (t.2.2.1 r))), (7, .int (nI (t.1 r))), (6, .int (-1)), (5, .int (nI r)), (4, .int (nI (l - k))), (0, .ref 1), (1, .int (nI v)), (2, .int (nI u)), (3, .int (nI k))]) (st' := [.ref 1, .ref 1]) (H' := _) (kc' := 0) (ks' := 0) rfl ?_
    refine RQ.get (ci := 11) rfl h03 rfl rfl ?_
    refine RQ.blk 1 (pc' := 245) (lv' := [(8, .int (nI (t.2.2.1 r))), (7, .int (nI (t.1 r))), (6, .int (-1)), (5, .int (nI r)), (4, .int (nI (l - k))), (0, .ref 1), (1, .int (nI v)), (2, .int (nI u)), (3, .int (nI k))]) (st' := [.int (-1), .ref 60, .ref 1]) (H' := _) (kc' := 0) (ks' := 0) rfl ?_
    obtain ⟨kf3, kl3, mo3, pl3, le3, al3, od3, sp3, sz3, ss3, ac3, hA3, hVW3, hvs3⟩ := (hV.far (fun a a1 a2 => fk3 a (by omega)) : VersIs H3 N vs)
    exact RQ.callP (st' := []) rfl rfl rfl rfl rfl rfl (args_v [.int (-1), .ref 60] [] rfl rfl (Nat.le_of_ble_eq_true rfl) rfl h03 (Nat.le_of_ble_eq_true rfl)) (rc_reqRoomX h03 hA3 hVW3 hvs3 hb3A hb3k hb3L (hs.far2 (fun a a1 a2 => fk3 a (by omega))) (fun t ht => Nat.lt_trans (hsm t ht) (by decide)) (fun i hi => by obtain ⟨e, he⟩ := lt_get hi; rw [(hb3L i e he).2.1]; exact (hkl e (List.mem_of_getElem? he))) h1W hpr (by omega) hB hle hl31) rfl ⟨_, rfl, hc3, fk3⟩
  · refine RQ.call (v := some (.int 0)) (st' := []) rfl rfl rfl rfl rfl rfl (args_v [.int (nI r)] [] rfl rfl (Nat.le_of_ble_eq_true rfl) rfl hT1.1 (Nat.le_of_ble_eq_true rfl)) (rc_isDirF hT1.1 rfl hT1.2.1 (by omega) (nI_ne2 hkr.1 kd2)) ?_
    refine RQ.brT rfl rfl rfl (by decide) ?_
    refine RQ.blk 1 (pc' := 156) (lv' := [(6, .int (-1)), (5, .int (nI r)), (4, .int (nI (l - k))), (0, .ref 1), (1, .int (nI v)), (2, .int (nI u)), (3, .int (nI k))]) (st' := [.ref 1]) (H' := _) (kc' := 0) (ks' := 0) rfl ?_
    refine RQ.get (ci := 11) rfl h01 rfl rfl ?_
    refine RQ.blk 1 (pc' := 161) (lv' := [(6, .int (-1)), (5, .int (nI r)), (4, .int (nI (l - k))), (0, .ref 1), (1, .int (nI v)), (2, .int (nI u)), (3, .int (nI k))]) (st' := [.int (-1), .ref 66]) (H' := _) (kc' := 0) (ks' := 0) rfl ?_
    refine RQ.call (v := some (.int 0)) (st' := []) rfl rfl rfl rfl rfl rfl (args_v [.int (-1)] [] rfl rfl (Nat.le_of_ble_eq_true rfl) rfl hT1.1 (Nat.le_of_ble_eq_true rfl)) (rc_isDirN hT1.1) ?_
    refine RQ.brT rfl rfl rfl (by decide) ?_
    refine RQ.blk 1 (pc' := 179) (lv' := [(6, .int (-1)), (5, .int (nI r)), (4, .int (nI (l - k))), (0, .ref 1), (1, .int (nI v)), (2, .int (nI u)), (3, .int (nI k))]) (st' := [.ref 1]) (H' := _) (kc' := 0) (ks' := 0) rfl ?_
    refine RQ.get (ci := 11) rfl h01 rfl rfl ?_
    refine RQ.blk 1 (pc' := 184) (lv' := [(6, .int (-1)), (5, .int (nI r)), (4, .int (nI (l - k))), (0, .ref 1), (1, .int (nI v)), (2, .int (nI u)), (3, .int (nI k))]) (st' := [.int (nI r), .ref 66]) (H' := _) (kc' := 0) (ks' := 0) rfl ?_
    refine RQ.call (v := some (.int (nI (t.1 r)))) (st' := []) rfl rfl rfl rfl rfl rfl (args_v [.int (nI r)] [] rfl rfl (Nat.le_of_ble_eq_true rfl) rfl hT1.1 (Nat.le_of_ble_eq_true rfl)) (rc_kindOf hT1.1 rfl hT1.2.1 (by omega)) ?_
    refine RQ.blk 2 (pc' := 190) (lv' := [(7, .int (nI (t.1 r))), (6, .int (-1)), (5, .int (nI r)), (4, .int (nI (l - k))), (0, .ref 1), (1, .int (nI v)), (2, .int (nI u)), (3, .int (nI k))]) (st' := [.ref 1]) (H' := _) (kc' := 0) (ks' := 0) rfl ?_
    refine RQ.get (ci := 11) rfl h01 rfl rfl ?_
    refine RQ.blk 1 (pc' := 195) (lv' := [(7, .int (nI (t.1 r))), (6, .int (-1)), (5, .int (nI r)), (4, .int (nI (l - k))), (0, .ref 1), (1, .int (nI v)), (2, .int (nI u)), (3, .int (nI k))]) (st' := [.int (nI r), .ref 66]) (H' := _) (kc' := 0) (ks' := 0) rfl ?_
    refine RQ.call (v := some (.int (nI (t.2.2.1 r)))) (st' := []) rfl rfl rfl rfl rfl rfl (args_v [.int (nI r)] [] rfl rfl (Nat.le_of_ble_eq_true rfl) rfl hT1.1 (Nat.le_of_ble_eq_true rfl)) (rc_sizeOf hT1 hk (by omega)) ?_
    refine RQ.blk 1 (pc' := 200) (lv' := [(8, .int (nI (t.2.2.1 r))), (7, .int (nI (t.1 r))), (6, .int (-1)), (5, .int (nI r)), (4, .int (nI (l - k))), (0, .ref 1), (1, .int (nI v)), (2, .int (nI u)), (3, .int (nI k))]) (st' := []) (H' := _) (kc' := 0) (ks' := 0) rfl ?_
    obtain ⟨⟨ws0, hb0⟩, Q0, hq0⟩ := hc1.2.2.2.2.2.2.2.2.1
    obtain ⟨D0, S0, K0, E0, hb0A, -⟩ := id hb0
    refine RQ.blk 1 (pc' := 201) (lv' := [(8, .int (nI (t.2.2.1 r))), (7, .int (nI (t.1 r))), (6, .int (-1)), (5, .int (nI r)), (4, .int (nI (l - k))), (0, .ref 1), (1, .int (nI v)), (2, .int (nI u)), (3, .int (nI k))]) (st' := [.ref 1]) (H' := _) (kc' := 0) (ks' := 0) rfl ?_
    refine RQ.get (ci := 11) rfl h01 rfl rfl ?_
    refine RQ.callN (st' := []) rfl rfl rfl rfl rfl rfl (args_v [] [] rfl rfl (Nat.le_of_ble_eq_true rfl) rfl hb0A.1 (Nat.le_of_ble_eq_true rfl)) (rn_bclearI hb0) (fun H2 hx2 => ?_)
    obtain ⟨hb2, f2⟩ := hx2
    have h02 := (f2 0 (by decide)).trans h01
    have h12 := (f2 1 (by decide)).trans h11
    have h22 := (f2 2 (by decide)).trans h21
    have hT2 : TreeAt H2 t.1 t.2.1 t.2.2.1 t.2.2.2.1 t.2.2.2.2.1 t.2.2.2.2.2 := hT1.far (fun a a1 a2 => f2 a (by omega))
    have hq2 := (f2 64 (by decide)).trans hq0
    have e52 : ∃ q : Nat, H2[5]? = some (kO 5 [.ref 7, .int (nI q)]) := ⟨q5, (f2 5 (by decide)).trans ((far1 5 (by decide)).trans h5)⟩
    have e62 : ∃ g, H2[6]? = some (kB 41 g) := ⟨p6, (f2 6 (by decide)).trans ((far1 6 (by decide)).trans h6)⟩
    refine RQ.blk 6 (pc' := 216) (lv' := [(8, .int (nI (t.2.2.1 r))), (7, .int (nI (t.1 r))), (6, .int (-1)), (5, .int (nI r)), (4, .int (nI (l - k))), (0, .ref 1), (1, .int (nI v)), (2, .int (nI u)), (3, .int (nI k))]) (st' := [.ref 1, .int (nI (t.2.2.1 r)), .int (nI u), .int (nI (t.1 r)), .int (nI r), .ref 1]) (H' := _) (kc' := 0) (ks' := 0) rfl ?_
    refine RQ.get (ci := 11) rfl h02 rfl rfl ?_
    refine RQ.get (ci := 5) rfl h12 rfl rfl ?_
    refine RQ.blk 2 (pc' := 225) (lv' := [(8, .int (nI (t.2.2.1 r))), (7, .int (nI (t.1 r))), (6, .int (-1)), (5, .int (nI r)), (4, .int (nI (l - k))), (0, .ref 1), (1, .int (nI v)), (2, .int (nI u)), (3, .int (nI k))]) (st' := [.int (nI (l - k)), .int (nI k), .ref 3, .int (nI (t.2.2.1 r)), .int (nI u), .int (nI (t.1 r)), .int (nI r), .ref 1]) (H' := _) (kc' := 0) (ks' := 0) rfl ?_
    refine RQ.callN (st' := []) rfl rfl rfl rfl rfl rfl (args_v [.int (nI (l - k)), .int (nI k), .ref 3, .int (nI (t.2.2.1 r)), .int (nI u), .int (nI (t.1 r)), .int (nI r)] [] rfl rfl (Nat.le_of_ble_eq_true rfl) rfl h02 (Nat.le_of_ble_eq_true rfl)) (rn_chNode (v := r) (k := t.1 r) (dir := u) (s := t.2.2.1 r) (a := 2) (na := 2000) (i := k) (n := l - k) h02 e52 e62 hb2 h22 (by decide) (by decide) (by decide) (by decide) (by omega) (by omega) (by omega) (by omega) (by omega) (by omega) (by decide) (by show 0 + 6 + (l - k) ≤ 4100; omega)) (fun Hc hxc => ?_)
    obtain ⟨hbc, e5c, e6c, fc⟩ := hxc
    have hbc : BatchIs Hc 59 [([1, r], some ([t.1 r, u] ++ (beB 2 (t.2.2.1 r) ++ sl tb k (l - k))))] := hbc
    refine RQ.blk 1 (pc' := 230) (lv' := [(8, .int (nI (t.2.2.1 r))), (7, .int (nI (t.1 r))), (6, .int (-1)), (5, .int (nI r)), (4, .int (nI (l - k))), (0, .ref 1), (1, .int (nI v)), (2, .int (nI u)), (3, .int (nI k))]) (st' := [.int (-1)]) (H' := _) (kc' := 0) (ks' := 0) rfl ?_
    refine RQ.brT rfl rfl rfl (by decide) ?_
    rw [hws] at hbc
    show RQ _ _ _ 239 [(8, .int (nI (t.2.2.1 r))), (7, .int (nI (t.1 r))), (6, .int (-1)), (5, .int (nI r)), (4, .int (nI (l - k))), (0, .ref 1), (1, .int (nI v)), (2, .int (nI u)), (3, .int (nI k))] [] Hc 0 0 _
    obtain ⟨H3, eH3⟩ : ∃ H3, H3 = Hc := ⟨_, rfl⟩
    rw [← eH3] at hbc e5c e6c fc ⊢
    have hb3 := hbc
    have e53 := e5c
    have e63 := e6c
    have f3 := fc
    have f13 : ∀ a, a ≠ 5 → a ≠ 6 → ¬ (59 ≤ a ∧ a < 64) → H3[a]? = H1[a]? := fun a a1 a2 a3 => (f3 a a1 a2 a3).trans (f2 a (by omega))
    have hc3 : ClsA H3 B P 1 cw cl cp cb tb 0 g rl wss t := by
      obtain ⟨qa, ea⟩ := e53
      obtain ⟨pa, eb⟩ := e63
      obtain ⟨c0, c1, c2, c3, c4, -, ⟨wq2, c10, cwq⟩, cW, -, cT⟩ := hc1
      exact ⟨(f13 0 (by decide) (by decide) (by decide)).trans c0, (f13 1 (by decide) (by decide) (by decide)).trans c1, (f13 2 (by decide) (by decide) (by decide)).trans c2, (f13 3 (by decide) (by decide) (by decide)).trans c3, (f13 4 (by decide) (by decide) (by decide)).trans c4, ⟨qa, pa, ea, eb⟩, ⟨wq2, (f13 10 (by decide) (by decide) (by decide)).trans c10, cwq⟩, fun t ht => ⟨(cW t ht).1.keep (fun a a1 a2 => f13 a (by omega) (by omega) (by omega)), (cW t ht).2.imp (fun Q hQ => (f13 _ (by omega) (by omega) (by omega)).trans hQ)⟩, ⟨⟨_, hb3⟩, Q0, (f3 64 (by decide) (by decide) (by decide)).trans hq2⟩, cT.far (fun a a1 a2 => f13 a (by omega) (by omega) (by omega))⟩
    have fk3 : FrK H H3 := fk1.trans (fun a ha => f13 a (by omega) (by omega) (by omega))
    have hch3 : ChB H H3 B P cw cl cp cb tb 0 g rl wss t ws := ⟨hc3, hb3, fk3⟩
    obtain ⟨D3, S3, K3, E3, hb3A, hb3L, hb340, hb341⟩ := id hb3
    have hb3k := hb3L.ok hb340 hb341
    have h03 := hc3.1
    have h13 := hc3.2.1
    have h23 := hc3.2.2.1
    have hT3 : TreeAt H3 t.1 t.2.1 t.2.2.1 t.2.2.2.1 t.2.2.2.2.1 t.2.2.2.2.2 := hc3.2.2.2.2.2.2.2.2.2
    refine RQ.blk 2 (pc' := 241) (lv' := [(8, .int (nI (t.2.2.1 r))), (7, .int (nI (t.1 r))), (6, .int (-1)), (5, .int (nI r)), (4, .int (nI (l - k))), (0, .ref 1), (1, .int (nI v)), (2, .int (nI u)), (3, .int (nI k))]) (st' := [.ref 1, .ref 1]) (H' := _) (kc' := 0) (ks' := 0) rfl ?_
    refine RQ.get (ci := 11) rfl h03 rfl rfl ?_
    refine RQ.blk 1 (pc' := 245) (lv' := [(8, .int (nI (t.2.2.1 r))), (7, .int (nI (t.1 r))), (6, .int (-1)), (5, .int (nI r)), (4, .int (nI (l - k))), (0, .ref 1), (1, .int (nI v)), (2, .int (nI u)), (3, .int (nI k))]) (st' := [.int (-1), .ref 60, .ref 1]) (H' := _) (kc' := 0) (ks' := 0) rfl ?_
    obtain ⟨kf3, kl3, mo3, pl3, le3, al3, od3, sp3, sz3, ss3, ac3, hA3, hVW3, hvs3⟩ := (hV.far (fun a a1 a2 => fk3 a (by omega)) : VersIs H3 N vs)
    exact RQ.callP (st' := []) rfl rfl rfl rfl rfl rfl (args_v [.int (-1), .ref 60] [] rfl rfl (Nat.le_of_ble_eq_true rfl) rfl h03 (Nat.le_of_ble_eq_true rfl)) (rc_reqRoomX h03 hA3 hVW3 hvs3 hb3A hb3k hb3L (hs.far2 (fun a a1 a2 => fk3 a (by omega))) (fun t ht => Nat.lt_trans (hsm t ht) (by decide)) (fun i hi => by obtain ⟨e, he⟩ := lt_get hi; rw [(hb3L i e he).2.1]; exact (hkl e (List.mem_of_getElem? he))) h1W hpr (by omega) hB hle hl31) rfl ⟨_, rfl, hc3, fk3⟩
set_option maxRecDepth 20000 in
theorem ri_rename0_ok {sc : Nat × (Nat → Int32)} {d : Nat} {H : aH} {B P : Nat} {cl : Int32} {cp cb : Nat} {tb : Nat → Int8} {l : Nat} {g : Nat → Int8} {rl : Nat} {wss : Nat → List aE} {t : aTr} {v u k r : Nat} {ws : List aE} {N : Nat} {op : Nat → Bool} {sm : Nat → Nat} {vs : List aV} {ok1 ok2 ok3 ok5 ok6 : aH → Prop} (h : ClsA H B P 1 0 cl cp cb tb l g rl wss t) (hk : TreeOk t.1 t.2.1 t.2.2.1 t.2.2.2.1) (hv : v ≤ 200) (hu : u ≤ 200) (hk1 : 1 ≤ k) (hk2 : k ≤ 30) (hk3 : k + 1 ≤ l) (hk4 : l ≤ k + 30) (hnm : ∀ j, j < k → ¬ btB tb l (0 + j) = 47) (hnm2 : ∀ j, j < l - k → ¬ btB tb l (k + j) = 47) (hkd : t.1 v = 2) (hkd2 : t.1 u = 2) (hc1x : fstF (inN t.1 t.2.1 t.2.2.2.1 t.2.2.2.2.1 v (sl tb 0 k)) 1 200 = some r) (hc2x : fstF (inN t.1 t.2.1 t.2.2.2.1 t.2.2.2.2.1 u (sl tb k (l - k))) 1 200 = none) (hwi : ¬ (t.1 r = 2 ∧ upF t.2.1 r 201 u = r)) (hws : [([1, r], some ([t.1 r, u] ++ (beB 2 (t.2.2.1 r) ++ sl tb k (l - k))))] = ws) (h1W : OneW ws) (hkl : ∀ e ∈ ws, 1 ≤ e.1.length) (hs : SightAt H op sm) (hsm : ∀ t, t < 8 → sm t < 2 ^ 30) (hV : VersIs H N vs) (hpr : ∀ v ∈ vs, v.2.1 ≤ P) (hP : P + 1 < 2 ^ 30) (hB : B ≤ 128) (hle : sumN op sm (-1) (P + 1) (kmV (inclV (P + 1) (fun _ => 0) 0 ws vs)) (inclV (P + 1) (fun _ => 0) 0 ws vs) ≤ B * 256) (hRM : ∀ H', ChB H H' B P 0 cl cp cb tb 0 g rl wss t ws → RB sc (d + 7) mr_96 [.ref 1] H' ok1 (fun _ => False)) (hST : ∀ H', ok1 H' → RB sc (d + 7) mr_150 [.ref 1, .ref 60] H' ok2 (fun _ => False)) (hf1 : ∀ H', ok1 H' → H'[0]? = some (kO 11 (fvs (nI B) (nI P) 1 0 cl (nI cp) (nI cb)))) (hSE : ∀ H', ok2 H' → RN sc (d + 7) mr_153 [.ref 1, .int 1] H' ok3) (hIN : ∀ H', ok3 H' → RN sc (d + 7) mr_160 [.ref 1, .ref 60] H' ok5) (hTS : ∀ H', ok5 H' → RN sc (d + 7) mr_191 [.ref 66, .int (nI r), .int (nI (t.1 r)), .int (nI u), .int (nI (t.2.2.1 r)), .ref 3, .int (nI k), .int (nI (l - k))] H' ok6) (hf2 : ∀ H', ok2 H' → H'[0]? = some (kO 11 (fvs (nI B) (nI P) 1 0 cl (nI cp) (nI cb)))) (hf3 : ∀ H', ok3 H' → H'[0]? = some (kO 11 (fvs (nI B) (nI P) 1 0 cl (nI cp) (nI cb)))) (hf5 : ∀ H', ok5 H' → H'[0]? = some (kO 11 (fvs (nI B) (nI (P + 1)) 1 0 cl (nI cp) (nI cb))) ∧ (∃ fs, H'[65]? = some (kO 9 fs)) ∧ ∃ lx : Nat, H'[1]? = some (kO 5 [.ref 3, .int (nI lx)])) : RI sc (d + 8) mr_233 [.ref 1, .int (nI v), .int (nI u), .int (nI k)] H (fun x H' => x = nI r ∧ ok6 H') := by
  obtain ⟨h0, h1, h2, h3, h4, ⟨q5, p6, h5, h6⟩, ⟨wq, h10, hwq⟩, hW, hCh, hT⟩ := id h
  refine RI.of ?_
  refine RQ.blk 2 (pc' := 2) (lv' := [(0, .ref 1), (1, .int (nI v)), (2, .int (nI u)), (3, .int (nI k))]) (st' := [.int (nI v), .ref 1]) (H' := _) (kc' := 0) (ks' := 0) rfl ?_
  refine RQ.call (v := none) (st' := []) rfl rfl rfl rfl rfl rfl (args_v [.int (nI v)] [] rfl rfl (Nat.le_of_ble_eq_true rfl) rfl h0 (Nat.le_of_ble_eq_true rfl)) (rc_reqNum h0 hv) ?_
  refine RQ.blk 2 (pc' := 7) (lv' := [(0, .ref 1), (1, .int (nI v)), (2, .int (nI u)), (3, .int (nI k))]) (st' := [.int (nI u), .ref 1]) (H' := _) (kc' := 0) (ks' := 0) rfl ?_
  refine RQ.call (v := none) (st' := []) rfl rfl rfl rfl rfl rfl (args_v [.int (nI u)] [] rfl rfl (Nat.le_of_ble_eq_true rfl) rfl h0 (Nat.le_of_ble_eq_true rfl)) (rc_reqNum h0 hu) ?_
  refine RQ.blk 5 (pc' := 16) (lv' := [(0, .ref 1), (1, .int (nI v)), (2, .int (nI u)), (3, .int (nI k))]) (st' := [.ref 1, .int 30, .int 1, .int (nI k), .ref 1]) (H' := _) (kc' := 0) (ks' := 0) rfl ?_
  refine RQ.get (ci := 11) rfl h0 rfl rfl ?_
  refine RQ.get (ci := 5) rfl h1 rfl rfl ?_
  refine RQ.blk 1 (pc' := 25) (lv' := [(0, .ref 1), (1, .int (nI v)), (2, .int (nI u)), (3, .int (nI k))]) (st' := [.int (if nI l < 30 then nI l else 30), .int 1, .int (nI k), .ref 1]) (H' := _) (kc' := 0) (ks' := 0) rfl ?_
  rw [show (if nI l < 30 then nI l else 30 : Int32) = nI (min 30 l) from minI (a := 30) (b := l) (by omega) (by omega)]
  refine RQ.call (v := none) (st' := []) rfl rfl rfl rfl rfl rfl (args_v [.int (nI (min 30 l)), .int 1, .int (nI k)] [] rfl rfl (Nat.le_of_ble_eq_true rfl) rfl h0 (Nat.le_of_ble_eq_true rfl)) (rc_range (fun e => absurd e (nI_nlt hk1 (by omega))) (rg_hi (n := min 30 l) (by omega) (by omega))) ?_
  refine RQ.blk 3 (pc' := 31) (lv' := [(0, .ref 1), (1, .int (nI v)), (2, .int (nI u)), (3, .int (nI k))]) (st' := [.int (nI k), .int 0, .ref 1]) (H' := _) (kc' := 0) (ks' := 0) rfl ?_
  refine RQ.call (v := none) (st' := []) rfl rfl rfl rfl rfl rfl (args_v [.int (nI k), .int 0] [] rfl rfl (Nat.le_of_ble_eq_true rfl) rfl h0 (Nat.le_of_ble_eq_true rfl)) (rc_requireName1 (i := 0) h0 ⟨h1, h2, by decide, by decide⟩ (by omega) (by decide) hk1 hk2 hnm) ?_
  refine RQ.blk 3 (pc' := 37) (lv' := [(0, .ref 1), (1, .int (nI v)), (2, .int (nI u)), (3, .int (nI k))]) (st' := [.ref 1, .int (nI k), .ref 1]) (H' := _) (kc' := 0) (ks' := 0) rfl ?_
  refine RQ.get (ci := 11) rfl h0 rfl rfl ?_
  refine RQ.get (ci := 5) rfl h1 rfl rfl ?_
  refine RQ.blk 2 (pc' := 45) (lv' := [(0, .ref 1), (1, .int (nI v)), (2, .int (nI u)), (3, .int (nI k))]) (st' := [.int (nI l - nI k), .int (nI k), .ref 1]) (H' := _) (kc' := 0) (ks' := 0) rfl ?_
  rw [show (nI l - nI k : Int32) = nI (l - k) from pk_sub (a := l) (b := k) (by omega)]
  refine RQ.call (v := none) (st' := []) rfl rfl rfl rfl rfl rfl (args_v [.int (nI (l - k)), .int (nI k)] [] rfl rfl (Nat.le_of_ble_eq_true rfl) rfl h0 (Nat.le_of_ble_eq_true rfl)) (rc_requireName1 (i := k) (n := l - k) h0 ⟨h1, h2, by decide, by decide⟩ (by omega) (by omega) (by omega) (by omega) hnm2) ?_
  refine RQ.blk 1 (pc' := 49) (lv' := [(0, .ref 1), (1, .int (nI v)), (2, .int (nI u)), (3, .int (nI k))]) (st' := [.ref 1]) (H' := _) (kc' := 0) (ks' := 0) rfl ?_
  refine RQ.call (v := none) (st' := []) rfl rfl rfl rfl rfl rfl (args_v [] [] rfl rfl (Nat.le_of_ble_eq_true rfl) rfl h0 (Nat.le_of_ble_eq_true rfl)) (rc_up h0 rfl) ?_
  refine RQ.blk 1 (pc' := 53) (lv' := [(0, .ref 1), (1, .int (nI v)), (2, .int (nI u)), (3, .int (nI k))]) (st' := [.ref 1]) (H' := _) (kc' := 0) (ks' := 0) rfl ?_
  refine RQ.call (v := some (.int (nI l))) (st' := []) rfl rfl rfl rfl rfl rfl (args_v [] [] rfl rfl (Nat.le_of_ble_eq_true rfl) rfl h0 (Nat.le_of_ble_eq_true rfl)) (rc_takeTape h0 h1) ?_
  have far1 : ∀ a, a ≠ 1 → (H.set 1 (kO 5 [.ref 3, .int (nI 0)]))[a]? = H[a]? := fun a ha => set_far ha
  have h11 : (H.set 1 (kO 5 [.ref 3, .int (nI 0)]))[1]? = some (kO 5 [.ref 3, .int (nI 0)]) := get_set h1
  refine RQ.blk 2 (pc' := 58) (lv' := [(0, .ref 1), (1, .int (nI v)), (2, .int (nI u)), (3, .int (nI k))]) (st' := [.int (nI l - nI k)]) (H' := _) (kc' := 0) (ks' := 0) rfl ?_
  rw [show (nI l - nI k : Int32) = nI (l - k) from pk_sub (a := l) (b := k) (by omega)]
  refine RQ.blk 1 (pc' := 60) (lv' := [(4, .int (nI (l - k))), (0, .ref 1), (1, .int (nI v)), (2, .int (nI u)), (3, .int (nI k))]) (st' := []) (H' := _) (kc' := 0) (ks' := 0) rfl ?_
  show RQ _ _ _ 60 [(4, .int (nI (l - k))), (0, .ref 1), (1, .int (nI v)), (2, .int (nI u)), (3, .int (nI k))] [] (H.set 1 (kO 5 [.ref 3, .int (nI 0)])) 0 0 _
  generalize (H.set 1 (kO 5 [.ref 3, .int (nI 0)])) = H1 at far1 h11 ⊢
  have h01 := (far1 0 (by decide)).trans h0
  have h21 := (far1 2 (by decide)).trans h2
  have hT1 : TreeAt H1 t.1 t.2.1 t.2.2.1 t.2.2.2.1 t.2.2.2.2.1 t.2.2.2.2.2 := hT.far (fun a a1 a2 => far1 a (by omega))
  have hc1 : ClsA H1 B P 1 0 cl cp cb tb 0 g rl wss t := h.small h01 h11 h21 ((far1 3 (by decide)).trans h3) ((far1 4 (by decide)).trans h4) ⟨q5, p6, (far1 5 (by decide)).trans h5, (far1 6 (by decide)).trans h6⟩ (fun a a1 a2 => far1 a (by omega))
  have fk1 : FrK H H1 := fun a ha => far1 a (by omega)
  refine RQ.blk 2 (pc' := 62) (lv' := [(4, .int (nI (l - k))), (0, .ref 1), (1, .int (nI v)), (2, .int (nI u)), (3, .int (nI k))]) (st' := [.int (nI v), .ref 1]) (H' := _) (kc' := 0) (ks' := 0) rfl ?_
  refine RQ.call (v := none) (st' := []) rfl rfl rfl rfl rfl rfl (args_v [.int (nI v)] [] rfl rfl (Nat.le_of_ble_eq_true rfl) rfl h01 (Nat.le_of_ble_eq_true rfl)) (rc_reqDir h01 rfl hT1.1 rfl hT1.2.1 hv (nI_is2 hkd)) ?_
  refine RQ.blk 2 (pc' := 67) (lv' := [(4, .int (nI (l - k))), (0, .ref 1), (1, .int (nI v)), (2, .int (nI u)), (3, .int (nI k))]) (st' := [.int (nI u), .ref 1]) (H' := _) (kc' := 0) (ks' := 0) rfl ?_
  refine RQ.call (v := none) (st' := []) rfl rfl rfl rfl rfl rfl (args_v [.int (nI u)] [] rfl rfl (Nat.le_of_ble_eq_true rfl) rfl h01 (Nat.le_of_ble_eq_true rfl)) (rc_reqDir h01 rfl hT1.1 rfl hT1.2.1 hu (nI_is2 hkd2)) ?_
  refine RQ.blk 1 (pc' := 71) (lv' := [(4, .int (nI (l - k))), (0, .ref 1), (1, .int (nI v)), (2, .int (nI u)), (3, .int (nI k))]) (st' := [.ref 1]) (H' := _) (kc' := 0) (ks' := 0) rfl ?_
  refine RQ.get (ci := 11) rfl h01 rfl rfl ?_
  refine RQ.blk 2 (pc' := 76) (lv' := [(4, .int (nI (l - k))), (0, .ref 1), (1, .int (nI v)), (2, .int (nI u)), (3, .int (nI k))]) (st' := [.ref 1, .int (nI v), .ref 66]) (H' := _) (kc' := 0) (ks' := 0) rfl ?_
  refine RQ.get (ci := 11) rfl h01 rfl rfl ?_
  refine RQ.get (ci := 5) rfl h11 rfl rfl ?_
  refine RQ.blk 2 (pc' := 84) (lv' := [(4, .int (nI (l - k))), (0, .ref 1), (1, .int (nI v)), (2, .int (nI u)), (3, .int (nI k))]) (st' := [.int (nI k), .int 0, .ref 3, .int (nI v), .ref 66]) (H' := _) (kc' := 0) (ks' := 0) rfl ?_
  refine RQ.call (v := some (.int (lI (fstF (inN t.1 t.2.1 t.2.2.2.1 t.2.2.2.2.1 v (sl tb 0 k)) 1 200)))) (st' := []) rfl rfl rfl rfl rfl rfl (args_v [.int (nI k), .int 0, .ref 3, .int (nI v)] [] rfl rfl (Nat.le_of_ble_eq_true rfl) rfl hT1.1 (Nat.le_of_ble_eq_true rfl)) (rc_childNamed (a := 2) (na := 2000) (j := 0) (m := k) hT1 hk h21 (by decide) (by omega) hv) ?_
  rw [hc1x]
  rw [show lI (some r) = nI r from rfl]
  have hr := fstF_lt hc1x
  have hkr := hk r (by omega)
  refine RQ.blk 3 (pc' := 92) (lv' := [(5, .int (nI r)), (4, .int (nI (l - k))), (0, .ref 1), (1, .int (nI v)), (2, .int (nI u)), (3, .int (nI k))]) (st' := [.int (nI r), .ref 1]) (H' := _) (kc' := 0) (ks' := 0) rfl ?_
  refine RQ.call (v := none) (st' := []) rfl rfl rfl rfl rfl rfl (args_v [.int (nI r)] [] rfl rfl (Nat.le_of_ble_eq_true rfl) rfl h01 (Nat.le_of_ble_eq_true rfl)) (rc_there (by omega)) ?_
  refine RQ.blk 1 (pc' := 96) (lv' := [(5, .int (nI r)), (4, .int (nI (l - k))), (0, .ref 1), (1, .int (nI v)), (2, .int (nI u)), (3, .int (nI k))]) (st' := [.ref 1]) (H' := _) (kc' := 0) (ks' := 0) rfl ?_
  refine RQ.get (ci := 11) rfl h01 rfl rfl ?_
  refine RQ.blk 2 (pc' := 101) (lv' := [(5, .int (nI r)), (4, .int (nI (l - k))), (0, .ref 1), (1, .int (nI v)), (2, .int (nI u)), (3, .int (nI k))]) (st' := [.ref 1, .int (nI u), .ref 66]) (H' := _) (kc' := 0) (ks' := 0) rfl ?_
  refine RQ.get (ci := 11) rfl h01 rfl rfl ?_
  refine RQ.get (ci := 5) rfl h11 rfl rfl ?_
  refine RQ.blk 2 (pc' := 110) (lv' := [(5, .int (nI r)), (4, .int (nI (l - k))), (0, .ref 1), (1, .int (nI v)), (2, .int (nI u)), (3, .int (nI k))]) (st' := [.int (nI (l - k)), .int (nI k), .ref 3, .int (nI u), .ref 66]) (H' := _) (kc' := 0) (ks' := 0) rfl ?_
  refine RQ.call (v := some (.int (lI (fstF (inN t.1 t.2.1 t.2.2.2.1 t.2.2.2.2.1 u (sl tb k (l - k))) 1 200)))) (st' := []) rfl rfl rfl rfl rfl rfl (args_v [.int (nI (l - k)), .int (nI k), .ref 3, .int (nI u)] [] rfl rfl (Nat.le_of_ble_eq_true rfl) rfl hT1.1 (Nat.le_of_ble_eq_true rfl)) (rc_childNamed (a := 2) (na := 2000) (j := k) (m := l - k) hT1 hk h21 (by decide) (by omega) hu) ?_
  rw [hc2x]
  rw [show lI none = -1 from rfl]
  refine RQ.blk 3 (pc' := 119) (lv' := [(6, .int (-1)), (5, .int (nI r)), (4, .int (nI (l - k))), (0, .ref 1), (1, .int (nI v)), (2, .int (nI u)), (3, .int (nI k))]) (st' := [.int (nI r), .int (-1)]) (H' := _) (kc' := 0) (ks' := 0) rfl ?_
  refine RQ.brT rfl rfl rfl (bnt (fun e => absurd (show nI r < nI 0 by rw [← e]; decide) (nI_nlt (Nat.zero_le r) (by omega)))) ?_
  refine RQ.blk 1 (pc' := 126) (lv' := [(6, .int (-1)), (5, .int (nI r)), (4, .int (nI (l - k))), (0, .ref 1), (1, .int (nI v)), (2, .int (nI u)), (3, .int (nI k))]) (st' := [.ref 1]) (H' := _) (kc' := 0) (ks' := 0) rfl ?_
  refine RQ.get (ci := 11) rfl h01 rfl rfl ?_
  refine RQ.blk 1 (pc' := 131) (lv' := [(6, .int (-1)), (5, .int (nI r)), (4, .int (nI (l - k))), (0, .ref 1), (1, .int (nI v)), (2, .int (nI u)), (3, .int (nI k))]) (st' := [.int (nI r), .ref 66]) (H' := _) (kc' := 0) (ks' := 0) rfl ?_
  by_cases kd2 : t.1 r = 2
  · refine RQ.call (v := some (.int 1)) (st' := []) rfl rfl rfl rfl rfl rfl (args_v [.int (nI r)] [] rfl rfl (Nat.le_of_ble_eq_true rfl) rfl hT1.1 (Nat.le_of_ble_eq_true rfl)) (rc_isDirT hT1.1 rfl hT1.2.1 (by omega) (nI_is2 kd2)) ?_
    refine RQ.brF rfl rfl rfl (by decide) ?_
    refine RQ.blk 1 (pc' := 139) (lv' := [(6, .int (-1)), (5, .int (nI r)), (4, .int (nI (l - k))), (0, .ref 1), (1, .int (nI v)), (2, .int (nI u)), (3, .int (nI k))]) (st' := [.int (-1)]) (H' := _) (kc' := 0) (ks' := 0) rfl ?_
    refine RQ.brF rfl rfl rfl (by decide) ?_
    refine RQ.blk 1 (pc' := 143) (lv' := [(6, .int (-1)), (5, .int (nI r)), (4, .int (nI (l - k))), (0, .ref 1), (1, .int (nI v)), (2, .int (nI u)), (3, .int (nI k))]) (st' := [.ref 1]) (H' := _) (kc' := 0) (ks' := 0) rfl ?_
    refine RQ.get (ci := 11) rfl h01 rfl rfl ?_
    refine RQ.blk 2 (pc' := 149) (lv' := [(6, .int (-1)), (5, .int (nI r)), (4, .int (nI (l - k))), (0, .ref 1), (1, .int (nI v)), (2, .int (nI u)), (3, .int (nI k))]) (st' := [.int (nI r), .int (nI u), .ref 66]) (H' := _) (kc' := 0) (ks' := 0) rfl ?_
    refine RQ.call (v := some (.int (if upF t.2.1 r 201 u = r then 1 else 0))) (st' := []) rfl rfl rfl rfl rfl rfl (args_v [.int (nI r), .int (nI u)] [] rfl rfl (Nat.le_of_ble_eq_true rfl) rfl hT1.1 (Nat.le_of_ble_eq_true rfl)) (rc_isWithin hT1 hk hu (by omega)) ?_
    rw [if_neg (fun e => hwi ⟨kd2, e⟩)]
    refine RQ.brF rfl rfl rfl (by decide) ?_
    refine RQ.blk 1 (pc' := 156) (lv' := [(6, .int (-1)), (5, .int (nI r)), (4, .int (nI (l - k))), (0, .ref 1), (1, .int (nI v)), (2, .int (nI u)), (3, .int (nI k))]) (st' := [.ref 1]) (H' := _) (kc' := 0) (ks' := 0) rfl ?_
    refine RQ.get (ci := 11) rfl h01 rfl rfl ?_
    refine RQ.blk 1 (pc' := 161) (lv' := [(6, .int (-1)), (5, .int (nI r)), (4, .int (nI (l - k))), (0, .ref 1), (1, .int (nI v)), (2, .int (nI u)), (3, .int (nI k))]) (st' := [.int (-1), .ref 66]) (H' := _) (kc' := 0) (ks' := 0) rfl ?_
    refine RQ.call (v := some (.int 0)) (st' := []) rfl rfl rfl rfl rfl rfl (args_v [.int (-1)] [] rfl rfl (Nat.le_of_ble_eq_true rfl) rfl hT1.1 (Nat.le_of_ble_eq_true rfl)) (rc_isDirN hT1.1) ?_
    refine RQ.brT rfl rfl rfl (by decide) ?_
    refine RQ.blk 1 (pc' := 179) (lv' := [(6, .int (-1)), (5, .int (nI r)), (4, .int (nI (l - k))), (0, .ref 1), (1, .int (nI v)), (2, .int (nI u)), (3, .int (nI k))]) (st' := [.ref 1]) (H' := _) (kc' := 0) (ks' := 0) rfl ?_
    refine RQ.get (ci := 11) rfl h01 rfl rfl ?_
    refine RQ.blk 1 (pc' := 184) (lv' := [(6, .int (-1)), (5, .int (nI r)), (4, .int (nI (l - k))), (0, .ref 1), (1, .int (nI v)), (2, .int (nI u)), (3, .int (nI k))]) (st' := [.int (nI r), .ref 66]) (H' := _) (kc' := 0) (ks' := 0) rfl ?_
    refine RQ.call (v := some (.int (nI (t.1 r)))) (st' := []) rfl rfl rfl rfl rfl rfl (args_v [.int (nI r)] [] rfl rfl (Nat.le_of_ble_eq_true rfl) rfl hT1.1 (Nat.le_of_ble_eq_true rfl)) (rc_kindOf hT1.1 rfl hT1.2.1 (by omega)) ?_
    refine RQ.blk 2 (pc' := 190) (lv' := [(7, .int (nI (t.1 r))), (6, .int (-1)), (5, .int (nI r)), (4, .int (nI (l - k))), (0, .ref 1), (1, .int (nI v)), (2, .int (nI u)), (3, .int (nI k))]) (st' := [.ref 1]) (H' := _) (kc' := 0) (ks' := 0) rfl ?_
    refine RQ.get (ci := 11) rfl h01 rfl rfl ?_
    refine RQ.blk 1 (pc' := 195) (lv' := [(7, .int (nI (t.1 r))), (6, .int (-1)), (5, .int (nI r)), (4, .int (nI (l - k))), (0, .ref 1), (1, .int (nI v)), (2, .int (nI u)), (3, .int (nI k))]) (st' := [.int (nI r), .ref 66]) (H' := _) (kc' := 0) (ks' := 0) rfl ?_
    refine RQ.call (v := some (.int (nI (t.2.2.1 r)))) (st' := []) rfl rfl rfl rfl rfl rfl (args_v [.int (nI r)] [] rfl rfl (Nat.le_of_ble_eq_true rfl) rfl hT1.1 (Nat.le_of_ble_eq_true rfl)) (rc_sizeOf hT1 hk (by omega)) ?_
    refine RQ.blk 1 (pc' := 200) (lv' := [(8, .int (nI (t.2.2.1 r))), (7, .int (nI (t.1 r))), (6, .int (-1)), (5, .int (nI r)), (4, .int (nI (l - k))), (0, .ref 1), (1, .int (nI v)), (2, .int (nI u)), (3, .int (nI k))]) (st' := []) (H' := _) (kc' := 0) (ks' := 0) rfl ?_
    obtain ⟨⟨ws0, hb0⟩, Q0, hq0⟩ := hc1.2.2.2.2.2.2.2.2.1
    obtain ⟨D0, S0, K0, E0, hb0A, -⟩ := id hb0
    refine RQ.blk 1 (pc' := 201) (lv' := [(8, .int (nI (t.2.2.1 r))), (7, .int (nI (t.1 r))), (6, .int (-1)), (5, .int (nI r)), (4, .int (nI (l - k))), (0, .ref 1), (1, .int (nI v)), (2, .int (nI u)), (3, .int (nI k))]) (st' := [.ref 1]) (H' := _) (kc' := 0) (ks' := 0) rfl ?_
    refine RQ.get (ci := 11) rfl h01 rfl rfl ?_
    refine RQ.callN (st' := []) rfl rfl rfl rfl rfl rfl (args_v [] [] rfl rfl (Nat.le_of_ble_eq_true rfl) rfl hb0A.1 (Nat.le_of_ble_eq_true rfl)) (rn_bclearI hb0) (fun H2 hx2 => ?_)
    obtain ⟨hb2, f2⟩ := hx2
    have h02 := (f2 0 (by decide)).trans h01
    have h12 := (f2 1 (by decide)).trans h11
    have h22 := (f2 2 (by decide)).trans h21
    have hT2 : TreeAt H2 t.1 t.2.1 t.2.2.1 t.2.2.2.1 t.2.2.2.2.1 t.2.2.2.2.2 := hT1.far (fun a a1 a2 => f2 a (by omega))
    have hq2 := (f2 64 (by decide)).trans hq0
    have e52 : ∃ q : Nat, H2[5]? = some (kO 5 [.ref 7, .int (nI q)]) := ⟨q5, (f2 5 (by decide)).trans ((far1 5 (by decide)).trans h5)⟩
    have e62 : ∃ g, H2[6]? = some (kB 41 g) := ⟨p6, (f2 6 (by decide)).trans ((far1 6 (by decide)).trans h6)⟩
    refine RQ.blk 6 (pc' := 216) (lv' := [(8, .int (nI (t.2.2.1 r))), (7, .int (nI (t.1 r))), (6, .int (-1)), (5, .int (nI r)), (4, .int (nI (l - k))), (0, .ref 1), (1, .int (nI v)), (2, .int (nI u)), (3, .int (nI k))]) (st' := [.ref 1, .int (nI (t.2.2.1 r)), .int (nI u), .int (nI (t.1 r)), .int (nI r), .ref 1]) (H' := _) (kc' := 0) (ks' := 0) rfl ?_
    refine RQ.get (ci := 11) rfl h02 rfl rfl ?_
    refine RQ.get (ci := 5) rfl h12 rfl rfl ?_
    refine RQ.blk 2 (pc' := 225) (lv' := [(8, .int (nI (t.2.2.1 r))), (7, .int (nI (t.1 r))), (6, .int (-1)), (5, .int (nI r)), (4, .int (nI (l - k))), (0, .ref 1), (1, .int (nI v)), (2, .int (nI u)), (3, .int (nI k))]) (st' := [.int (nI (l - k)), .int (nI k), .ref 3, .int (nI (t.2.2.1 r)), .int (nI u), .int (nI (t.1 r)), .int (nI r), .ref 1]) (H' := _) (kc' := 0) (ks' := 0) rfl ?_
    refine RQ.callN (st' := []) rfl rfl rfl rfl rfl rfl (args_v [.int (nI (l - k)), .int (nI k), .ref 3, .int (nI (t.2.2.1 r)), .int (nI u), .int (nI (t.1 r)), .int (nI r)] [] rfl rfl (Nat.le_of_ble_eq_true rfl) rfl h02 (Nat.le_of_ble_eq_true rfl)) (rn_chNode (v := r) (k := t.1 r) (dir := u) (s := t.2.2.1 r) (a := 2) (na := 2000) (i := k) (n := l - k) h02 e52 e62 hb2 h22 (by decide) (by decide) (by decide) (by decide) (by omega) (by omega) (by omega) (by omega) (by omega) (by omega) (by decide) (by show 0 + 6 + (l - k) ≤ 4100; omega)) (fun Hc hxc => ?_)
    obtain ⟨hbc, e5c, e6c, fc⟩ := hxc
    have hbc : BatchIs Hc 59 [([1, r], some ([t.1 r, u] ++ (beB 2 (t.2.2.1 r) ++ sl tb k (l - k))))] := hbc
    refine RQ.blk 1 (pc' := 230) (lv' := [(8, .int (nI (t.2.2.1 r))), (7, .int (nI (t.1 r))), (6, .int (-1)), (5, .int (nI r)), (4, .int (nI (l - k))), (0, .ref 1), (1, .int (nI v)), (2, .int (nI u)), (3, .int (nI k))]) (st' := [.int (-1)]) (H' := _) (kc' := 0) (ks' := 0) rfl ?_
    refine RQ.brT rfl rfl rfl (by decide) ?_
    rw [hws] at hbc
    show RQ _ _ _ 239 [(8, .int (nI (t.2.2.1 r))), (7, .int (nI (t.1 r))), (6, .int (-1)), (5, .int (nI r)), (4, .int (nI (l - k))), (0, .ref 1), (1, .int (nI v)), (2, .int (nI u)), (3, .int (nI k))] [] Hc 0 0 _
    obtain ⟨H3, eH3⟩ : ∃ H3, H3 = Hc := ⟨_, rfl⟩
    rw [← eH3] at hbc e5c e6c fc ⊢
    have hb3 := hbc
    have e53 := e5c
    have e63 := e6c
    have f3 := fc
    have f13 : ∀ a, a ≠ 5 → a ≠ 6 → ¬ (59 ≤ a ∧ a < 64) → H3[a]? = H1[a]? := fun a a1 a2 a3 => (f3 a a1 a2 a3).trans (f2 a (by omega))
    have hc3 : ClsA H3 B P 1 0 cl cp cb tb 0 g rl wss t := by
      obtain ⟨qa, ea⟩ := e53
      obtain ⟨pa, eb⟩ := e63
      obtain ⟨c0, c1, c2, c3, c4, -, ⟨wq2, c10, cwq⟩, cW, -, cT⟩ := hc1
      exact ⟨(f13 0 (by decide) (by decide) (by decide)).trans c0, (f13 1 (by decide) (by decide) (by decide)).trans c1, (f13 2 (by decide) (by decide) (by decide)).trans c2, (f13 3 (by decide) (by decide) (by decide)).trans c3, (f13 4 (by decide) (by decide) (by decide)).trans c4, ⟨qa, pa, ea, eb⟩, ⟨wq2, (f13 10 (by decide) (by decide) (by decide)).trans c10, cwq⟩, fun t ht => ⟨(cW t ht).1.keep (fun a a1 a2 => f13 a (by omega) (by omega) (by omega)), (cW t ht).2.imp (fun Q hQ => (f13 _ (by omega) (by omega) (by omega)).trans hQ)⟩, ⟨⟨_, hb3⟩, Q0, (f3 64 (by decide) (by decide) (by decide)).trans hq2⟩, cT.far (fun a a1 a2 => f13 a (by omega) (by omega) (by omega))⟩
    have fk3 : FrK H H3 := fk1.trans (fun a ha => f13 a (by omega) (by omega) (by omega))
    have hch3 : ChB H H3 B P 0 cl cp cb tb 0 g rl wss t ws := ⟨hc3, hb3, fk3⟩
    obtain ⟨D3, S3, K3, E3, hb3A, hb3L, hb340, hb341⟩ := id hb3
    have hb3k := hb3L.ok hb340 hb341
    have h03 := hc3.1
    have h13 := hc3.2.1
    have h23 := hc3.2.2.1
    have hT3 : TreeAt H3 t.1 t.2.1 t.2.2.1 t.2.2.2.1 t.2.2.2.2.1 t.2.2.2.2.2 := hc3.2.2.2.2.2.2.2.2.2
    refine RQ.blk 2 (pc' := 241) (lv' := [(8, .int (nI (t.2.2.1 r))), (7, .int (nI (t.1 r))), (6, .int (-1)), (5, .int (nI r)), (4, .int (nI (l - k))), (0, .ref 1), (1, .int (nI v)), (2, .int (nI u)), (3, .int (nI k))]) (st' := [.ref 1, .ref 1]) (H' := _) (kc' := 0) (ks' := 0) rfl ?_
    refine RQ.get (ci := 11) rfl h03 rfl rfl ?_
    refine RQ.blk 1 (pc' := 245) (lv' := [(8, .int (nI (t.2.2.1 r))), (7, .int (nI (t.1 r))), (6, .int (-1)), (5, .int (nI r)), (4, .int (nI (l - k))), (0, .ref 1), (1, .int (nI v)), (2, .int (nI u)), (3, .int (nI k))]) (st' := [.int (-1), .ref 60, .ref 1]) (H' := _) (kc' := 0) (ks' := 0) rfl ?_
    obtain ⟨kf3, kl3, mo3, pl3, le3, al3, od3, sp3, sz3, ss3, ac3, hA3, hVW3, hvs3⟩ := (hV.far (fun a a1 a2 => fk3 a (by omega)) : VersIs H3 N vs)
    refine RQ.call (v := none) (st' := []) rfl rfl rfl rfl rfl rfl (args_v [.int (-1), .ref 60] [] rfl rfl (Nat.le_of_ble_eq_true rfl) rfl h03 (Nat.le_of_ble_eq_true rfl)) (rc_reqRoom h03 hA3 hVW3 hvs3 hb3A hb3k hb3L (hs.far2 (fun a a1 a2 => fk3 a (by omega))) (fun t ht => Nat.lt_trans (hsm t ht) (by decide)) (fun i hi => by obtain ⟨e, he⟩ := lt_get hi; rw [(hb3L i e he).2.1]; exact (hkl e (List.mem_of_getElem? he))) h1W hpr (by omega) hB hle) ?_
    refine RQ.blk 2 (pc' := 250) (lv' := [(8, .int (nI (t.2.2.1 r))), (7, .int (nI (t.1 r))), (6, .int (-1)), (5, .int (nI r)), (4, .int (nI (l - k))), (0, .ref 1), (1, .int (nI v)), (2, .int (nI u)), (3, .int (nI k))]) (st' := [.ref 1, .ref 1]) (H' := _) (kc' := 0) (ks' := 0) rfl ?_
    refine RQ.get (ci := 11) rfl h03 rfl rfl ?_
    refine RQ.get (ci := 0) rfl hb3A.1 rfl rfl ?_
    refine RQ.blk 2 (pc' := 258) (lv' := [(8, .int (nI (t.2.2.1 r))), (7, .int (nI (t.1 r))), (6, .int (-1)), (5, .int (nI r)), (4, .int (nI (l - k))), (0, .ref 1), (1, .int (nI v)), (2, .int (nI u)), (3, .int (nI k))]) (st' := [.int (nI ws.length + 1), .ref 1]) (H' := _) (kc' := 0) (ks' := 0) rfl ?_
    rw [show (nI ws.length + 1 : Int32) = nI (ws.length + 1) from nI_add ws.length 1]
    refine RQ.call (v := none) (st' := []) rfl rfl rfl rfl rfl rfl (args_v [.int (nI (ws.length + 1))] [] rfl rfl (Nat.le_of_ble_eq_true rfl) rfl h03 (Nat.le_of_ble_eq_true rfl)) (rc_armCut0 h03) ?_
    refine RQ.blk 2 (pc' := 263) (lv' := [(8, .int (nI (t.2.2.1 r))), (7, .int (nI (t.1 r))), (6, .int (-1)), (5, .int (nI r)), (4, .int (nI (l - k))), (0, .ref 1), (1, .int (nI v)), (2, .int (nI u)), (3, .int (nI k))]) (st' := [.ref 1, .ref 1]) (H' := _) (kc' := 0) (ks' := 0) rfl ?_
    refine RQ.callB (st' := [.ref 1]) rfl rfl rfl rfl rfl rfl (args_v [] [.ref 1] rfl rfl (Nat.le_of_ble_eq_true rfl) rfl h03 (Nat.le_of_ble_eq_true rfl)) (hRM H3 hch3) (fun H4 hH4 => ?_) (fun H4 hH4 => False.elim hH4)
    · have g1 := hf1 H4 hH4
      refine RQ.brF rfl rfl rfl (by decide) ?_
      refine RQ.blk 2 (pc' := 271) (lv' := [(8, .int (nI (t.2.2.1 r))), (7, .int (nI (t.1 r))), (6, .int (-1)), (5, .int (nI r)), (4, .int (nI (l - k))), (0, .ref 1), (1, .int (nI v)), (2, .int (nI u)), (3, .int (nI k))]) (st' := [.ref 1, .ref 1, .ref 1]) (H' := _) (kc' := 0) (ks' := 0) rfl ?_
      refine RQ.get (ci := 11) rfl g1 rfl rfl ?_
      refine RQ.callB (st' := [.ref 1]) rfl rfl rfl rfl rfl rfl (args_v [.ref 60] [.ref 1] rfl rfl (Nat.le_of_ble_eq_true rfl) rfl g1 (Nat.le_of_ble_eq_true rfl)) (hST H4 hH4) (fun H5 hH5 => ?_) (fun H5 hH5 => False.elim hH5)
      · have g2 := hf2 H5 hH5
        refine RQ.brF rfl rfl rfl (by decide) ?_
        refine RQ.blk 2 (pc' := 285) (lv' := [(8, .int (nI (t.2.2.1 r))), (7, .int (nI (t.1 r))), (6, .int (-1)), (5, .int (nI r)), (4, .int (nI (l - k))), (0, .ref 1), (1, .int (nI v)), (2, .int (nI u)), (3, .int (nI k))]) (st' := [.int 1, .ref 1]) (H' := _) (kc' := 0) (ks' := 0) rfl ?_
        refine RQ.callN (st' := []) rfl rfl rfl rfl rfl rfl (args_v [.int 1] [] rfl rfl (Nat.le_of_ble_eq_true rfl) rfl g2 (Nat.le_of_ble_eq_true rfl)) (hSE H5 hH5) (fun H6 hH6 => ?_)
        have g3 := hf3 H6 hH6
        refine RQ.blk 2 (pc' := 290) (lv' := [(8, .int (nI (t.2.2.1 r))), (7, .int (nI (t.1 r))), (6, .int (-1)), (5, .int (nI r)), (4, .int (nI (l - k))), (0, .ref 1), (1, .int (nI v)), (2, .int (nI u)), (3, .int (nI k))]) (st' := [.ref 1, .ref 1]) (H' := _) (kc' := 0) (ks' := 0) rfl ?_
        refine RQ.get (ci := 11) rfl g3 rfl rfl ?_
        refine RQ.callN (st' := []) rfl rfl rfl rfl rfl rfl (args_v [.ref 60] [] rfl rfl (Nat.le_of_ble_eq_true rfl) rfl g3 (Nat.le_of_ble_eq_true rfl)) (hIN H6 hH6) (fun H7 hH7 => ?_)
        obtain ⟨g5, ⟨tfs, g65⟩, lx, g11⟩ := hf5 H7 hH7
        refine RQ.blk 1 (pc' := 297) (lv' := [(8, .int (nI (t.2.2.1 r))), (7, .int (nI (t.1 r))), (6, .int (-1)), (5, .int (nI r)), (4, .int (nI (l - k))), (0, .ref 1), (1, .int (nI v)), (2, .int (nI u)), (3, .int (nI k))]) (st' := [.ref 1]) (H' := _) (kc' := 0) (ks' := 0) rfl ?_
        refine RQ.get (ci := 11) rfl g5 rfl rfl ?_
        refine RQ.blk 1 (pc' := 302) (lv' := [(8, .int (nI (t.2.2.1 r))), (7, .int (nI (t.1 r))), (6, .int (-1)), (5, .int (nI r)), (4, .int (nI (l - k))), (0, .ref 1), (1, .int (nI v)), (2, .int (nI u)), (3, .int (nI k))]) (st' := [.int (-1), .ref 66]) (H' := _) (kc' := 0) (ks' := 0) rfl ?_
        refine RQ.call (v := none) (st' := []) rfl rfl rfl rfl rfl rfl (args_v [.int (-1)] [] rfl rfl (Nat.le_of_ble_eq_true rfl) rfl g65 (Nat.le_of_ble_eq_true rfl)) rc_unsetN ?_
        refine RQ.blk 1 (pc' := 306) (lv' := [(8, .int (nI (t.2.2.1 r))), (7, .int (nI (t.1 r))), (6, .int (-1)), (5, .int (nI r)), (4, .int (nI (l - k))), (0, .ref 1), (1, .int (nI v)), (2, .int (nI u)), (3, .int (nI k))]) (st' := [.ref 1]) (H' := _) (kc' := 0) (ks' := 0) rfl ?_
        refine RQ.get (ci := 11) rfl g5 rfl rfl ?_
        refine RQ.blk 5 (pc' := 317) (lv' := [(8, .int (nI (t.2.2.1 r))), (7, .int (nI (t.1 r))), (6, .int (-1)), (5, .int (nI r)), (4, .int (nI (l - k))), (0, .ref 1), (1, .int (nI v)), (2, .int (nI u)), (3, .int (nI k))]) (st' := [.ref 1, .int (nI (t.2.2.1 r)), .int (nI u), .int (nI (t.1 r)), .int (nI r), .ref 66]) (H' := _) (kc' := 0) (ks' := 0) rfl ?_
        refine RQ.get (ci := 11) rfl g5 rfl rfl ?_
        refine RQ.get (ci := 5) rfl g11 rfl rfl ?_
        refine RQ.blk 2 (pc' := 326) (lv' := [(8, .int (nI (t.2.2.1 r))), (7, .int (nI (t.1 r))), (6, .int (-1)), (5, .int (nI r)), (4, .int (nI (l - k))), (0, .ref 1), (1, .int (nI v)), (2, .int (nI u)), (3, .int (nI k))]) (st' := [.int (nI (l - k)), .int (nI k), .ref 3, .int (nI (t.2.2.1 r)), .int (nI u), .int (nI (t.1 r)), .int (nI r), .ref 66]) (H' := _) (kc' := 0) (ks' := 0) rfl ?_
        refine RQ.callN (st' := []) rfl rfl rfl rfl rfl rfl (args_v [.int (nI (l - k)), .int (nI k), .ref 3, .int (nI (t.2.2.1 r)), .int (nI u), .int (nI (t.1 r)), .int (nI r)] [] rfl rfl (Nat.le_of_ble_eq_true rfl) rfl g65 (Nat.le_of_ble_eq_true rfl)) (hTS H7 hH7) (fun H8 hH8 => ?_)
        refine RQ.blk 1 (pc' := 331) (lv' := [(8, .int (nI (t.2.2.1 r))), (7, .int (nI (t.1 r))), (6, .int (-1)), (5, .int (nI r)), (4, .int (nI (l - k))), (0, .ref 1), (1, .int (nI v)), (2, .int (nI u)), (3, .int (nI k))]) (st' := [.int (nI r)]) (H' := _) (kc' := 0) (ks' := 0) rfl ?_
        exact RQ.done (c := 0) (s := 0) rfl rfl rfl rfl ⟨_, _, rfl, rfl, hH8⟩
  · refine RQ.call (v := some (.int 0)) (st' := []) rfl rfl rfl rfl rfl rfl (args_v [.int (nI r)] [] rfl rfl (Nat.le_of_ble_eq_true rfl) rfl hT1.1 (Nat.le_of_ble_eq_true rfl)) (rc_isDirF hT1.1 rfl hT1.2.1 (by omega) (nI_ne2 hkr.1 kd2)) ?_
    refine RQ.brT rfl rfl rfl (by decide) ?_
    refine RQ.blk 1 (pc' := 156) (lv' := [(6, .int (-1)), (5, .int (nI r)), (4, .int (nI (l - k))), (0, .ref 1), (1, .int (nI v)), (2, .int (nI u)), (3, .int (nI k))]) (st' := [.ref 1]) (H' := _) (kc' := 0) (ks' := 0) rfl ?_
    refine RQ.get (ci := 11) rfl h01 rfl rfl ?_
    refine RQ.blk 1 (pc' := 161) (lv' := [(6, .int (-1)), (5, .int (nI r)), (4, .int (nI (l - k))), (0, .ref 1), (1, .int (nI v)), (2, .int (nI u)), (3, .int (nI k))]) (st' := [.int (-1), .ref 66]) (H' := _) (kc' := 0) (ks' := 0) rfl ?_
    refine RQ.call (v := some (.int 0)) (st' := []) rfl rfl rfl rfl rfl rfl (args_v [.int (-1)] [] rfl rfl (Nat.le_of_ble_eq_true rfl) rfl hT1.1 (Nat.le_of_ble_eq_true rfl)) (rc_isDirN hT1.1) ?_
    refine RQ.brT rfl rfl rfl (by decide) ?_
    refine RQ.blk 1 (pc' := 179) (lv' := [(6, .int (-1)), (5, .int (nI r)), (4, .int (nI (l - k))), (0, .ref 1), (1, .int (nI v)), (2, .int (nI u)), (3, .int (nI k))]) (st' := [.ref 1]) (H' := _) (kc' := 0) (ks' := 0) rfl ?_
    refine RQ.get (ci := 11) rfl h01 rfl rfl ?_
    refine RQ.blk 1 (pc' := 184) (lv' := [(6, .int (-1)), (5, .int (nI r)), (4, .int (nI (l - k))), (0, .ref 1), (1, .int (nI v)), (2, .int (nI u)), (3, .int (nI k))]) (st' := [.int (nI r), .ref 66]) (H' := _) (kc' := 0) (ks' := 0) rfl ?_
    refine RQ.call (v := some (.int (nI (t.1 r)))) (st' := []) rfl rfl rfl rfl rfl rfl (args_v [.int (nI r)] [] rfl rfl (Nat.le_of_ble_eq_true rfl) rfl hT1.1 (Nat.le_of_ble_eq_true rfl)) (rc_kindOf hT1.1 rfl hT1.2.1 (by omega)) ?_
    refine RQ.blk 2 (pc' := 190) (lv' := [(7, .int (nI (t.1 r))), (6, .int (-1)), (5, .int (nI r)), (4, .int (nI (l - k))), (0, .ref 1), (1, .int (nI v)), (2, .int (nI u)), (3, .int (nI k))]) (st' := [.ref 1]) (H' := _) (kc' := 0) (ks' := 0) rfl ?_
    refine RQ.get (ci := 11) rfl h01 rfl rfl ?_
    refine RQ.blk 1 (pc' := 195) (lv' := [(7, .int (nI (t.1 r))), (6, .int (-1)), (5, .int (nI r)), (4, .int (nI (l - k))), (0, .ref 1), (1, .int (nI v)), (2, .int (nI u)), (3, .int (nI k))]) (st' := [.int (nI r), .ref 66]) (H' := _) (kc' := 0) (ks' := 0) rfl ?_
    refine RQ.call (v := some (.int (nI (t.2.2.1 r)))) (st' := []) rfl rfl rfl rfl rfl rfl (args_v [.int (nI r)] [] rfl rfl (Nat.le_of_ble_eq_true rfl) rfl hT1.1 (Nat.le_of_ble_eq_true rfl)) (rc_sizeOf hT1 hk (by omega)) ?_
    refine RQ.blk 1 (pc' := 200) (lv' := [(8, .int (nI (t.2.2.1 r))), (7, .int (nI (t.1 r))), (6, .int (-1)), (5, .int (nI r)), (4, .int (nI (l - k))), (0, .ref 1), (1, .int (nI v)), (2, .int (nI u)), (3, .int (nI k))]) (st' := []) (H' := _) (kc' := 0) (ks' := 0) rfl ?_
    obtain ⟨⟨ws0, hb0⟩, Q0, hq0⟩ := hc1.2.2.2.2.2.2.2.2.1
    obtain ⟨D0, S0, K0, E0, hb0A, -⟩ := id hb0
    refine RQ.blk 1 (pc' := 201) (lv' := [(8, .int (nI (t.2.2.1 r))), (7, .int (nI (t.1 r))), (6, .int (-1)), (5, .int (nI r)), (4, .int (nI (l - k))), (0, .ref 1), (1, .int (nI v)), (2, .int (nI u)), (3, .int (nI k))]) (st' := [.ref 1]) (H' := _) (kc' := 0) (ks' := 0) rfl ?_
    refine RQ.get (ci := 11) rfl h01 rfl rfl ?_
    refine RQ.callN (st' := []) rfl rfl rfl rfl rfl rfl (args_v [] [] rfl rfl (Nat.le_of_ble_eq_true rfl) rfl hb0A.1 (Nat.le_of_ble_eq_true rfl)) (rn_bclearI hb0) (fun H2 hx2 => ?_)
    obtain ⟨hb2, f2⟩ := hx2
    have h02 := (f2 0 (by decide)).trans h01
    have h12 := (f2 1 (by decide)).trans h11
    have h22 := (f2 2 (by decide)).trans h21
    have hT2 : TreeAt H2 t.1 t.2.1 t.2.2.1 t.2.2.2.1 t.2.2.2.2.1 t.2.2.2.2.2 := hT1.far (fun a a1 a2 => f2 a (by omega))
    have hq2 := (f2 64 (by decide)).trans hq0
    have e52 : ∃ q : Nat, H2[5]? = some (kO 5 [.ref 7, .int (nI q)]) := ⟨q5, (f2 5 (by decide)).trans ((far1 5 (by decide)).trans h5)⟩
    have e62 : ∃ g, H2[6]? = some (kB 41 g) := ⟨p6, (f2 6 (by decide)).trans ((far1 6 (by decide)).trans h6)⟩
    refine RQ.blk 6 (pc' := 216) (lv' := [(8, .int (nI (t.2.2.1 r))), (7, .int (nI (t.1 r))), (6, .int (-1)), (5, .int (nI r)), (4, .int (nI (l - k))), (0, .ref 1), (1, .int (nI v)), (2, .int (nI u)), (3, .int (nI k))]) (st' := [.ref 1, .int (nI (t.2.2.1 r)), .int (nI u), .int (nI (t.1 r)), .int (nI r), .ref 1]) (H' := _) (kc' := 0) (ks' := 0) rfl ?_
    refine RQ.get (ci := 11) rfl h02 rfl rfl ?_
    refine RQ.get (ci := 5) rfl h12 rfl rfl ?_
    refine RQ.blk 2 (pc' := 225) (lv' := [(8, .int (nI (t.2.2.1 r))), (7, .int (nI (t.1 r))), (6, .int (-1)), (5, .int (nI r)), (4, .int (nI (l - k))), (0, .ref 1), (1, .int (nI v)), (2, .int (nI u)), (3, .int (nI k))]) (st' := [.int (nI (l - k)), .int (nI k), .ref 3, .int (nI (t.2.2.1 r)), .int (nI u), .int (nI (t.1 r)), .int (nI r), .ref 1]) (H' := _) (kc' := 0) (ks' := 0) rfl ?_
    refine RQ.callN (st' := []) rfl rfl rfl rfl rfl rfl (args_v [.int (nI (l - k)), .int (nI k), .ref 3, .int (nI (t.2.2.1 r)), .int (nI u), .int (nI (t.1 r)), .int (nI r)] [] rfl rfl (Nat.le_of_ble_eq_true rfl) rfl h02 (Nat.le_of_ble_eq_true rfl)) (rn_chNode (v := r) (k := t.1 r) (dir := u) (s := t.2.2.1 r) (a := 2) (na := 2000) (i := k) (n := l - k) h02 e52 e62 hb2 h22 (by decide) (by decide) (by decide) (by decide) (by omega) (by omega) (by omega) (by omega) (by omega) (by omega) (by decide) (by show 0 + 6 + (l - k) ≤ 4100; omega)) (fun Hc hxc => ?_)
    obtain ⟨hbc, e5c, e6c, fc⟩ := hxc
    have hbc : BatchIs Hc 59 [([1, r], some ([t.1 r, u] ++ (beB 2 (t.2.2.1 r) ++ sl tb k (l - k))))] := hbc
    refine RQ.blk 1 (pc' := 230) (lv' := [(8, .int (nI (t.2.2.1 r))), (7, .int (nI (t.1 r))), (6, .int (-1)), (5, .int (nI r)), (4, .int (nI (l - k))), (0, .ref 1), (1, .int (nI v)), (2, .int (nI u)), (3, .int (nI k))]) (st' := [.int (-1)]) (H' := _) (kc' := 0) (ks' := 0) rfl ?_
    refine RQ.brT rfl rfl rfl (by decide) ?_
    rw [hws] at hbc
    show RQ _ _ _ 239 [(8, .int (nI (t.2.2.1 r))), (7, .int (nI (t.1 r))), (6, .int (-1)), (5, .int (nI r)), (4, .int (nI (l - k))), (0, .ref 1), (1, .int (nI v)), (2, .int (nI u)), (3, .int (nI k))] [] Hc 0 0 _
    obtain ⟨H3, eH3⟩ : ∃ H3, H3 = Hc := ⟨_, rfl⟩
    rw [← eH3] at hbc e5c e6c fc ⊢
    have hb3 := hbc
    have e53 := e5c
    have e63 := e6c
    have f3 := fc
    have f13 : ∀ a, a ≠ 5 → a ≠ 6 → ¬ (59 ≤ a ∧ a < 64) → H3[a]? = H1[a]? := fun a a1 a2 a3 => (f3 a a1 a2 a3).trans (f2 a (by omega))
    have hc3 : ClsA H3 B P 1 0 cl cp cb tb 0 g rl wss t := by
      obtain ⟨qa, ea⟩ := e53
      obtain ⟨pa, eb⟩ := e63
      obtain ⟨c0, c1, c2, c3, c4, -, ⟨wq2, c10, cwq⟩, cW, -, cT⟩ := hc1
      exact ⟨(f13 0 (by decide) (by decide) (by decide)).trans c0, (f13 1 (by decide) (by decide) (by decide)).trans c1, (f13 2 (by decide) (by decide) (by decide)).trans c2, (f13 3 (by decide) (by decide) (by decide)).trans c3, (f13 4 (by decide) (by decide) (by decide)).trans c4, ⟨qa, pa, ea, eb⟩, ⟨wq2, (f13 10 (by decide) (by decide) (by decide)).trans c10, cwq⟩, fun t ht => ⟨(cW t ht).1.keep (fun a a1 a2 => f13 a (by omega) (by omega) (by omega)), (cW t ht).2.imp (fun Q hQ => (f13 _ (by omega) (by omega) (by omega)).trans hQ)⟩, ⟨⟨_, hb3⟩, Q0, (f3 64 (by decide) (by decide) (by decide)).trans hq2⟩, cT.far (fun a a1 a2 => f13 a (by omega) (by omega) (by omega))⟩
    have fk3 : FrK H H3 := fk1.trans (fun a ha => f13 a (by omega) (by omega) (by omega))
    have hch3 : ChB H H3 B P 0 cl cp cb tb 0 g rl wss t ws := ⟨hc3, hb3, fk3⟩
    obtain ⟨D3, S3, K3, E3, hb3A, hb3L, hb340, hb341⟩ := id hb3
    have hb3k := hb3L.ok hb340 hb341
    have h03 := hc3.1
    have h13 := hc3.2.1
    have h23 := hc3.2.2.1
    have hT3 : TreeAt H3 t.1 t.2.1 t.2.2.1 t.2.2.2.1 t.2.2.2.2.1 t.2.2.2.2.2 := hc3.2.2.2.2.2.2.2.2.2
    refine RQ.blk 2 (pc' := 241) (lv' := [(8, .int (nI (t.2.2.1 r))), (7, .int (nI (t.1 r))), (6, .int (-1)), (5, .int (nI r)), (4, .int (nI (l - k))), (0, .ref 1), (1, .int (nI v)), (2, .int (nI u)), (3, .int (nI k))]) (st' := [.ref 1, .ref 1]) (H' := _) (kc' := 0) (ks' := 0) rfl ?_
    refine RQ.get (ci := 11) rfl h03 rfl rfl ?_
    refine RQ.blk 1 (pc' := 245) (lv' := [(8, .int (nI (t.2.2.1 r))), (7, .int (nI (t.1 r))), (6, .int (-1)), (5, .int (nI r)), (4, .int (nI (l - k))), (0, .ref 1), (1, .int (nI v)), (2, .int (nI u)), (3, .int (nI k))]) (st' := [.int (-1), .ref 60, .ref 1]) (H' := _) (kc' := 0) (ks' := 0) rfl ?_
    obtain ⟨kf3, kl3, mo3, pl3, le3, al3, od3, sp3, sz3, ss3, ac3, hA3, hVW3, hvs3⟩ := (hV.far (fun a a1 a2 => fk3 a (by omega)) : VersIs H3 N vs)
    refine RQ.call (v := none) (st' := []) rfl rfl rfl rfl rfl rfl (args_v [.int (-1), .ref 60] [] rfl rfl (Nat.le_of_ble_eq_true rfl) rfl h03 (Nat.le_of_ble_eq_true rfl)) (rc_reqRoom h03 hA3 hVW3 hvs3 hb3A hb3k hb3L (hs.far2 (fun a a1 a2 => fk3 a (by omega))) (fun t ht => Nat.lt_trans (hsm t ht) (by decide)) (fun i hi => by obtain ⟨e, he⟩ := lt_get hi; rw [(hb3L i e he).2.1]; exact (hkl e (List.mem_of_getElem? he))) h1W hpr (by omega) hB hle) ?_
    refine RQ.blk 2 (pc' := 250) (lv' := [(8, .int (nI (t.2.2.1 r))), (7, .int (nI (t.1 r))), (6, .int (-1)), (5, .int (nI r)), (4, .int (nI (l - k))), (0, .ref 1), (1, .int (nI v)), (2, .int (nI u)), (3, .int (nI k))]) (st' := [.ref 1, .ref 1]) (H' := _) (kc' := 0) (ks' := 0) rfl ?_
    refine RQ.get (ci := 11) rfl h03 rfl rfl ?_
    refine RQ.get (ci := 0) rfl hb3A.1 rfl rfl ?_
    refine RQ.blk 2 (pc' := 258) (lv' := [(8, .int (nI (t.2.2.1 r))), (7, .int (nI (t.1 r))), (6, .int (-1)), (5, .int (nI r)), (4, .int (nI (l - k))), (0, .ref 1), (1, .int (nI v)), (2, .int (nI u)), (3, .int (nI k))]) (st' := [.int (nI ws.length + 1), .ref 1]) (H' := _) (kc' := 0) (ks' := 0) rfl ?_
    rw [show (nI ws.length + 1 : Int32) = nI (ws.length + 1) from nI_add ws.length 1]
    refine RQ.call (v := none) (st' := []) rfl rfl rfl rfl rfl rfl (args_v [.int (nI (ws.length + 1))] [] rfl rfl (Nat.le_of_ble_eq_true rfl) rfl h03 (Nat.le_of_ble_eq_true rfl)) (rc_armCut0 h03) ?_
    refine RQ.blk 2 (pc' := 263) (lv' := [(8, .int (nI (t.2.2.1 r))), (7, .int (nI (t.1 r))), (6, .int (-1)), (5, .int (nI r)), (4, .int (nI (l - k))), (0, .ref 1), (1, .int (nI v)), (2, .int (nI u)), (3, .int (nI k))]) (st' := [.ref 1, .ref 1]) (H' := _) (kc' := 0) (ks' := 0) rfl ?_
    refine RQ.callB (st' := [.ref 1]) rfl rfl rfl rfl rfl rfl (args_v [] [.ref 1] rfl rfl (Nat.le_of_ble_eq_true rfl) rfl h03 (Nat.le_of_ble_eq_true rfl)) (hRM H3 hch3) (fun H4 hH4 => ?_) (fun H4 hH4 => False.elim hH4)
    · have g1 := hf1 H4 hH4
      refine RQ.brF rfl rfl rfl (by decide) ?_
      refine RQ.blk 2 (pc' := 271) (lv' := [(8, .int (nI (t.2.2.1 r))), (7, .int (nI (t.1 r))), (6, .int (-1)), (5, .int (nI r)), (4, .int (nI (l - k))), (0, .ref 1), (1, .int (nI v)), (2, .int (nI u)), (3, .int (nI k))]) (st' := [.ref 1, .ref 1, .ref 1]) (H' := _) (kc' := 0) (ks' := 0) rfl ?_
      refine RQ.get (ci := 11) rfl g1 rfl rfl ?_
      refine RQ.callB (st' := [.ref 1]) rfl rfl rfl rfl rfl rfl (args_v [.ref 60] [.ref 1] rfl rfl (Nat.le_of_ble_eq_true rfl) rfl g1 (Nat.le_of_ble_eq_true rfl)) (hST H4 hH4) (fun H5 hH5 => ?_) (fun H5 hH5 => False.elim hH5)
      · have g2 := hf2 H5 hH5
        refine RQ.brF rfl rfl rfl (by decide) ?_
        refine RQ.blk 2 (pc' := 285) (lv' := [(8, .int (nI (t.2.2.1 r))), (7, .int (nI (t.1 r))), (6, .int (-1)), (5, .int (nI r)), (4, .int (nI (l - k))), (0, .ref 1), (1, .int (nI v)), (2, .int (nI u)), (3, .int (nI k))]) (st' := [.int 1, .ref 1]) (H' := _) (kc' := 0) (ks' := 0) rfl ?_
        refine RQ.callN (st' := []) rfl rfl rfl rfl rfl rfl (args_v [.int 1] [] rfl rfl (Nat.le_of_ble_eq_true rfl) rfl g2 (Nat.le_of_ble_eq_true rfl)) (hSE H5 hH5) (fun H6 hH6 => ?_)
        have g3 := hf3 H6 hH6
        refine RQ.blk 2 (pc' := 290) (lv' := [(8, .int (nI (t.2.2.1 r))), (7, .int (nI (t.1 r))), (6, .int (-1)), (5, .int (nI r)), (4, .int (nI (l - k))), (0, .ref 1), (1, .int (nI v)), (2, .int (nI u)), (3, .int (nI k))]) (st' := [.ref 1, .ref 1]) (H' := _) (kc' := 0) (ks' := 0) rfl ?_
        refine RQ.get (ci := 11) rfl g3 rfl rfl ?_
        refine RQ.callN (st' := []) rfl rfl rfl rfl rfl rfl (args_v [.ref 60] [] rfl rfl (Nat.le_of_ble_eq_true rfl) rfl g3 (Nat.le_of_ble_eq_true rfl)) (hIN H6 hH6) (fun H7 hH7 => ?_)
        obtain ⟨g5, ⟨tfs, g65⟩, lx, g11⟩ := hf5 H7 hH7
        refine RQ.blk 1 (pc' := 297) (lv' := [(8, .int (nI (t.2.2.1 r))), (7, .int (nI (t.1 r))), (6, .int (-1)), (5, .int (nI r)), (4, .int (nI (l - k))), (0, .ref 1), (1, .int (nI v)), (2, .int (nI u)), (3, .int (nI k))]) (st' := [.ref 1]) (H' := _) (kc' := 0) (ks' := 0) rfl ?_
        refine RQ.get (ci := 11) rfl g5 rfl rfl ?_
        refine RQ.blk 1 (pc' := 302) (lv' := [(8, .int (nI (t.2.2.1 r))), (7, .int (nI (t.1 r))), (6, .int (-1)), (5, .int (nI r)), (4, .int (nI (l - k))), (0, .ref 1), (1, .int (nI v)), (2, .int (nI u)), (3, .int (nI k))]) (st' := [.int (-1), .ref 66]) (H' := _) (kc' := 0) (ks' := 0) rfl ?_
        refine RQ.call (v := none) (st' := []) rfl rfl rfl rfl rfl rfl (args_v [.int (-1)] [] rfl rfl (Nat.le_of_ble_eq_true rfl) rfl g65 (Nat.le_of_ble_eq_true rfl)) rc_unsetN ?_
        refine RQ.blk 1 (pc' := 306) (lv' := [(8, .int (nI (t.2.2.1 r))), (7, .int (nI (t.1 r))), (6, .int (-1)), (5, .int (nI r)), (4, .int (nI (l - k))), (0, .ref 1), (1, .int (nI v)), (2, .int (nI u)), (3, .int (nI k))]) (st' := [.ref 1]) (H' := _) (kc' := 0) (ks' := 0) rfl ?_
        refine RQ.get (ci := 11) rfl g5 rfl rfl ?_
        refine RQ.blk 5 (pc' := 317) (lv' := [(8, .int (nI (t.2.2.1 r))), (7, .int (nI (t.1 r))), (6, .int (-1)), (5, .int (nI r)), (4, .int (nI (l - k))), (0, .ref 1), (1, .int (nI v)), (2, .int (nI u)), (3, .int (nI k))]) (st' := [.ref 1, .int (nI (t.2.2.1 r)), .int (nI u), .int (nI (t.1 r)), .int (nI r), .ref 66]) (H' := _) (kc' := 0) (ks' := 0) rfl ?_
        refine RQ.get (ci := 11) rfl g5 rfl rfl ?_
        refine RQ.get (ci := 5) rfl g11 rfl rfl ?_
        refine RQ.blk 2 (pc' := 326) (lv' := [(8, .int (nI (t.2.2.1 r))), (7, .int (nI (t.1 r))), (6, .int (-1)), (5, .int (nI r)), (4, .int (nI (l - k))), (0, .ref 1), (1, .int (nI v)), (2, .int (nI u)), (3, .int (nI k))]) (st' := [.int (nI (l - k)), .int (nI k), .ref 3, .int (nI (t.2.2.1 r)), .int (nI u), .int (nI (t.1 r)), .int (nI r), .ref 66]) (H' := _) (kc' := 0) (ks' := 0) rfl ?_
        refine RQ.callN (st' := []) rfl rfl rfl rfl rfl rfl (args_v [.int (nI (l - k)), .int (nI k), .ref 3, .int (nI (t.2.2.1 r)), .int (nI u), .int (nI (t.1 r)), .int (nI r)] [] rfl rfl (Nat.le_of_ble_eq_true rfl) rfl g65 (Nat.le_of_ble_eq_true rfl)) (hTS H7 hH7) (fun H8 hH8 => ?_)
        refine RQ.blk 1 (pc' := 331) (lv' := [(8, .int (nI (t.2.2.1 r))), (7, .int (nI (t.1 r))), (6, .int (-1)), (5, .int (nI r)), (4, .int (nI (l - k))), (0, .ref 1), (1, .int (nI v)), (2, .int (nI u)), (3, .int (nI k))]) (st' := [.int (nI r)]) (H' := _) (kc' := 0) (ks' := 0) rfl ?_
        exact RQ.done (c := 0) (s := 0) rfl rfl rfl rfl ⟨_, _, rfl, rfl, hH8⟩
set_option maxRecDepth 20000 in
theorem rx_rename0_late {sc : Nat × (Nat → Int32)} {d : Nat} {H : aH} {B P : Nat}  {cp cb : Nat} {tb : Nat → Int8} {l : Nat} {g : Nat → Int8} {rl : Nat} {wss : Nat → List aE} {t : aTr} {v u k r : Nat} {ws : List aE} {N : Nat} {op : Nat → Bool} {sm : Nat → Nat} {vs : List aV} {ok1 ok2 fin : aH → Prop} (h : ClsA H B P 1 1 1 cp cb tb l g rl wss t) (hk : TreeOk t.1 t.2.1 t.2.2.1 t.2.2.2.1) (hv : v ≤ 200) (hu : u ≤ 200) (hk1 : 1 ≤ k) (hk2 : k ≤ 30) (hk3 : k + 1 ≤ l) (hk4 : l ≤ k + 30) (hnm : ∀ j, j < k → ¬ btB tb l (0 + j) = 47) (hnm2 : ∀ j, j < l - k → ¬ btB tb l (k + j) = 47) (hkd : t.1 v = 2) (hkd2 : t.1 u = 2) (hc1x : fstF (inN t.1 t.2.1 t.2.2.2.1 t.2.2.2.2.1 v (sl tb 0 k)) 1 200 = some r) (hc2x : fstF (inN t.1 t.2.1 t.2.2.2.1 t.2.2.2.2.1 u (sl tb k (l - k))) 1 200 = none) (hwi : ¬ (t.1 r = 2 ∧ upF t.2.1 r 201 u = r)) (hws : [([1, r], some ([t.1 r, u] ++ (beB 2 (t.2.2.1 r) ++ sl tb k (l - k))))] = ws) (h1W : OneW ws) (hkl : ∀ e ∈ ws, 1 ≤ e.1.length) (hs : SightAt H op sm) (hsm : ∀ t, t < 8 → sm t < 2 ^ 30) (hV : VersIs H N vs) (hpr : ∀ v ∈ vs, v.2.1 ≤ P) (hP : P + 1 < 2 ^ 30) (hB : B ≤ 128) (hle : sumN op sm (-1) (P + 1) (kmV (inclV (P + 1) (fun _ => 0) 0 ws vs)) (inclV (P + 1) (fun _ => 0) 0 ws vs) ≤ B * 256) (hRM : ∀ H', ChB H H' B P 1 1 cp cb tb 0 g rl wss t ws → RB sc (d + 7) mr_96 [.ref 1] H' ok1 (fun _ => False)) (hST : ∀ H', ok1 H' → RB sc (d + 7) mr_150 [.ref 1, .ref 60] H' ok2 (fun _ => False)) (hf1 : ∀ H', ok1 H' → H'[0]? = some (kO 11 (fvs (nI B) (nI P) 1 1 1 (nI cp) (nI cb)))) (hSE : ∀ H', ok2 H' → RX sc (d + 7) mr_153 [.ref 1, .int 1] H' 1 fin) (hf2 : ∀ H', ok2 H' → H'[0]? = some (kO 11 (fvs (nI B) (nI P) 1 1 1 (nI cp) (nI cb)))) : RXc sc (d + 8) mr_233 [.ref 1, .int (nI v), .int (nI u), .int (nI k)] H 1 (fun H' => fin H') := by
  obtain ⟨h0, h1, h2, h3, h4, ⟨q5, p6, h5, h6⟩, ⟨wq, h10, hwq⟩, hW, hCh, hT⟩ := id h
  refine RXc.of ?_
  refine RQ.blk 2 (pc' := 2) (lv' := [(0, .ref 1), (1, .int (nI v)), (2, .int (nI u)), (3, .int (nI k))]) (st' := [.int (nI v), .ref 1]) (H' := _) (kc' := 0) (ks' := 0) rfl ?_
  refine RQ.call (v := none) (st' := []) rfl rfl rfl rfl rfl rfl (args_v [.int (nI v)] [] rfl rfl (Nat.le_of_ble_eq_true rfl) rfl h0 (Nat.le_of_ble_eq_true rfl)) (rc_reqNum h0 hv) ?_
  refine RQ.blk 2 (pc' := 7) (lv' := [(0, .ref 1), (1, .int (nI v)), (2, .int (nI u)), (3, .int (nI k))]) (st' := [.int (nI u), .ref 1]) (H' := _) (kc' := 0) (ks' := 0) rfl ?_
  refine RQ.call (v := none) (st' := []) rfl rfl rfl rfl rfl rfl (args_v [.int (nI u)] [] rfl rfl (Nat.le_of_ble_eq_true rfl) rfl h0 (Nat.le_of_ble_eq_true rfl)) (rc_reqNum h0 hu) ?_
  refine RQ.blk 5 (pc' := 16) (lv' := [(0, .ref 1), (1, .int (nI v)), (2, .int (nI u)), (3, .int (nI k))]) (st' := [.ref 1, .int 30, .int 1, .int (nI k), .ref 1]) (H' := _) (kc' := 0) (ks' := 0) rfl ?_
  refine RQ.get (ci := 11) rfl h0 rfl rfl ?_
  refine RQ.get (ci := 5) rfl h1 rfl rfl ?_
  refine RQ.blk 1 (pc' := 25) (lv' := [(0, .ref 1), (1, .int (nI v)), (2, .int (nI u)), (3, .int (nI k))]) (st' := [.int (if nI l < 30 then nI l else 30), .int 1, .int (nI k), .ref 1]) (H' := _) (kc' := 0) (ks' := 0) rfl ?_
  rw [show (if nI l < 30 then nI l else 30 : Int32) = nI (min 30 l) from minI (a := 30) (b := l) (by omega) (by omega)]
  refine RQ.call (v := none) (st' := []) rfl rfl rfl rfl rfl rfl (args_v [.int (nI (min 30 l)), .int 1, .int (nI k)] [] rfl rfl (Nat.le_of_ble_eq_true rfl) rfl h0 (Nat.le_of_ble_eq_true rfl)) (rc_range (fun e => absurd e (nI_nlt hk1 (by omega))) (rg_hi (n := min 30 l) (by omega) (by omega))) ?_
  refine RQ.blk 3 (pc' := 31) (lv' := [(0, .ref 1), (1, .int (nI v)), (2, .int (nI u)), (3, .int (nI k))]) (st' := [.int (nI k), .int 0, .ref 1]) (H' := _) (kc' := 0) (ks' := 0) rfl ?_
  refine RQ.call (v := none) (st' := []) rfl rfl rfl rfl rfl rfl (args_v [.int (nI k), .int 0] [] rfl rfl (Nat.le_of_ble_eq_true rfl) rfl h0 (Nat.le_of_ble_eq_true rfl)) (rc_requireName1 (i := 0) h0 ⟨h1, h2, by decide, by decide⟩ (by omega) (by decide) hk1 hk2 hnm) ?_
  refine RQ.blk 3 (pc' := 37) (lv' := [(0, .ref 1), (1, .int (nI v)), (2, .int (nI u)), (3, .int (nI k))]) (st' := [.ref 1, .int (nI k), .ref 1]) (H' := _) (kc' := 0) (ks' := 0) rfl ?_
  refine RQ.get (ci := 11) rfl h0 rfl rfl ?_
  refine RQ.get (ci := 5) rfl h1 rfl rfl ?_
  refine RQ.blk 2 (pc' := 45) (lv' := [(0, .ref 1), (1, .int (nI v)), (2, .int (nI u)), (3, .int (nI k))]) (st' := [.int (nI l - nI k), .int (nI k), .ref 1]) (H' := _) (kc' := 0) (ks' := 0) rfl ?_
  rw [show (nI l - nI k : Int32) = nI (l - k) from pk_sub (a := l) (b := k) (by omega)]
  refine RQ.call (v := none) (st' := []) rfl rfl rfl rfl rfl rfl (args_v [.int (nI (l - k)), .int (nI k)] [] rfl rfl (Nat.le_of_ble_eq_true rfl) rfl h0 (Nat.le_of_ble_eq_true rfl)) (rc_requireName1 (i := k) (n := l - k) h0 ⟨h1, h2, by decide, by decide⟩ (by omega) (by omega) (by omega) (by omega) hnm2) ?_
  refine RQ.blk 1 (pc' := 49) (lv' := [(0, .ref 1), (1, .int (nI v)), (2, .int (nI u)), (3, .int (nI k))]) (st' := [.ref 1]) (H' := _) (kc' := 0) (ks' := 0) rfl ?_
  refine RQ.call (v := none) (st' := []) rfl rfl rfl rfl rfl rfl (args_v [] [] rfl rfl (Nat.le_of_ble_eq_true rfl) rfl h0 (Nat.le_of_ble_eq_true rfl)) (rc_up h0 rfl) ?_
  refine RQ.blk 1 (pc' := 53) (lv' := [(0, .ref 1), (1, .int (nI v)), (2, .int (nI u)), (3, .int (nI k))]) (st' := [.ref 1]) (H' := _) (kc' := 0) (ks' := 0) rfl ?_
  refine RQ.call (v := some (.int (nI l))) (st' := []) rfl rfl rfl rfl rfl rfl (args_v [] [] rfl rfl (Nat.le_of_ble_eq_true rfl) rfl h0 (Nat.le_of_ble_eq_true rfl)) (rc_takeTape h0 h1) ?_
  have far1 : ∀ a, a ≠ 1 → (H.set 1 (kO 5 [.ref 3, .int (nI 0)]))[a]? = H[a]? := fun a ha => set_far ha
  have h11 : (H.set 1 (kO 5 [.ref 3, .int (nI 0)]))[1]? = some (kO 5 [.ref 3, .int (nI 0)]) := get_set h1
  refine RQ.blk 2 (pc' := 58) (lv' := [(0, .ref 1), (1, .int (nI v)), (2, .int (nI u)), (3, .int (nI k))]) (st' := [.int (nI l - nI k)]) (H' := _) (kc' := 0) (ks' := 0) rfl ?_
  rw [show (nI l - nI k : Int32) = nI (l - k) from pk_sub (a := l) (b := k) (by omega)]
  refine RQ.blk 1 (pc' := 60) (lv' := [(4, .int (nI (l - k))), (0, .ref 1), (1, .int (nI v)), (2, .int (nI u)), (3, .int (nI k))]) (st' := []) (H' := _) (kc' := 0) (ks' := 0) rfl ?_
  show RQ _ _ _ 60 [(4, .int (nI (l - k))), (0, .ref 1), (1, .int (nI v)), (2, .int (nI u)), (3, .int (nI k))] [] (H.set 1 (kO 5 [.ref 3, .int (nI 0)])) 0 0 _
  generalize (H.set 1 (kO 5 [.ref 3, .int (nI 0)])) = H1 at far1 h11 ⊢
  have h01 := (far1 0 (by decide)).trans h0
  have h21 := (far1 2 (by decide)).trans h2
  have hT1 : TreeAt H1 t.1 t.2.1 t.2.2.1 t.2.2.2.1 t.2.2.2.2.1 t.2.2.2.2.2 := hT.far (fun a a1 a2 => far1 a (by omega))
  have hc1 : ClsA H1 B P 1 1 1 cp cb tb 0 g rl wss t := h.small h01 h11 h21 ((far1 3 (by decide)).trans h3) ((far1 4 (by decide)).trans h4) ⟨q5, p6, (far1 5 (by decide)).trans h5, (far1 6 (by decide)).trans h6⟩ (fun a a1 a2 => far1 a (by omega))
  have fk1 : FrK H H1 := fun a ha => far1 a (by omega)
  refine RQ.blk 2 (pc' := 62) (lv' := [(4, .int (nI (l - k))), (0, .ref 1), (1, .int (nI v)), (2, .int (nI u)), (3, .int (nI k))]) (st' := [.int (nI v), .ref 1]) (H' := _) (kc' := 0) (ks' := 0) rfl ?_
  refine RQ.call (v := none) (st' := []) rfl rfl rfl rfl rfl rfl (args_v [.int (nI v)] [] rfl rfl (Nat.le_of_ble_eq_true rfl) rfl h01 (Nat.le_of_ble_eq_true rfl)) (rc_reqDir h01 rfl hT1.1 rfl hT1.2.1 hv (nI_is2 hkd)) ?_
  refine RQ.blk 2 (pc' := 67) (lv' := [(4, .int (nI (l - k))), (0, .ref 1), (1, .int (nI v)), (2, .int (nI u)), (3, .int (nI k))]) (st' := [.int (nI u), .ref 1]) (H' := _) (kc' := 0) (ks' := 0) rfl ?_
  refine RQ.call (v := none) (st' := []) rfl rfl rfl rfl rfl rfl (args_v [.int (nI u)] [] rfl rfl (Nat.le_of_ble_eq_true rfl) rfl h01 (Nat.le_of_ble_eq_true rfl)) (rc_reqDir h01 rfl hT1.1 rfl hT1.2.1 hu (nI_is2 hkd2)) ?_
  refine RQ.blk 1 (pc' := 71) (lv' := [(4, .int (nI (l - k))), (0, .ref 1), (1, .int (nI v)), (2, .int (nI u)), (3, .int (nI k))]) (st' := [.ref 1]) (H' := _) (kc' := 0) (ks' := 0) rfl ?_
  refine RQ.get (ci := 11) rfl h01 rfl rfl ?_
  refine RQ.blk 2 (pc' := 76) (lv' := [(4, .int (nI (l - k))), (0, .ref 1), (1, .int (nI v)), (2, .int (nI u)), (3, .int (nI k))]) (st' := [.ref 1, .int (nI v), .ref 66]) (H' := _) (kc' := 0) (ks' := 0) rfl ?_
  refine RQ.get (ci := 11) rfl h01 rfl rfl ?_
  refine RQ.get (ci := 5) rfl h11 rfl rfl ?_
  refine RQ.blk 2 (pc' := 84) (lv' := [(4, .int (nI (l - k))), (0, .ref 1), (1, .int (nI v)), (2, .int (nI u)), (3, .int (nI k))]) (st' := [.int (nI k), .int 0, .ref 3, .int (nI v), .ref 66]) (H' := _) (kc' := 0) (ks' := 0) rfl ?_
  refine RQ.call (v := some (.int (lI (fstF (inN t.1 t.2.1 t.2.2.2.1 t.2.2.2.2.1 v (sl tb 0 k)) 1 200)))) (st' := []) rfl rfl rfl rfl rfl rfl (args_v [.int (nI k), .int 0, .ref 3, .int (nI v)] [] rfl rfl (Nat.le_of_ble_eq_true rfl) rfl hT1.1 (Nat.le_of_ble_eq_true rfl)) (rc_childNamed (a := 2) (na := 2000) (j := 0) (m := k) hT1 hk h21 (by decide) (by omega) hv) ?_
  rw [hc1x]
  rw [show lI (some r) = nI r from rfl]
  have hr := fstF_lt hc1x
  have hkr := hk r (by omega)
  refine RQ.blk 3 (pc' := 92) (lv' := [(5, .int (nI r)), (4, .int (nI (l - k))), (0, .ref 1), (1, .int (nI v)), (2, .int (nI u)), (3, .int (nI k))]) (st' := [.int (nI r), .ref 1]) (H' := _) (kc' := 0) (ks' := 0) rfl ?_
  refine RQ.call (v := none) (st' := []) rfl rfl rfl rfl rfl rfl (args_v [.int (nI r)] [] rfl rfl (Nat.le_of_ble_eq_true rfl) rfl h01 (Nat.le_of_ble_eq_true rfl)) (rc_there (by omega)) ?_
  refine RQ.blk 1 (pc' := 96) (lv' := [(5, .int (nI r)), (4, .int (nI (l - k))), (0, .ref 1), (1, .int (nI v)), (2, .int (nI u)), (3, .int (nI k))]) (st' := [.ref 1]) (H' := _) (kc' := 0) (ks' := 0) rfl ?_
  refine RQ.get (ci := 11) rfl h01 rfl rfl ?_
  refine RQ.blk 2 (pc' := 101) (lv' := [(5, .int (nI r)), (4, .int (nI (l - k))), (0, .ref 1), (1, .int (nI v)), (2, .int (nI u)), (3, .int (nI k))]) (st' := [.ref 1, .int (nI u), .ref 66]) (H' := _) (kc' := 0) (ks' := 0) rfl ?_
  refine RQ.get (ci := 11) rfl h01 rfl rfl ?_
  refine RQ.get (ci := 5) rfl h11 rfl rfl ?_
  refine RQ.blk 2 (pc' := 110) (lv' := [(5, .int (nI r)), (4, .int (nI (l - k))), (0, .ref 1), (1, .int (nI v)), (2, .int (nI u)), (3, .int (nI k))]) (st' := [.int (nI (l - k)), .int (nI k), .ref 3, .int (nI u), .ref 66]) (H' := _) (kc' := 0) (ks' := 0) rfl ?_
  refine RQ.call (v := some (.int (lI (fstF (inN t.1 t.2.1 t.2.2.2.1 t.2.2.2.2.1 u (sl tb k (l - k))) 1 200)))) (st' := []) rfl rfl rfl rfl rfl rfl (args_v [.int (nI (l - k)), .int (nI k), .ref 3, .int (nI u)] [] rfl rfl (Nat.le_of_ble_eq_true rfl) rfl hT1.1 (Nat.le_of_ble_eq_true rfl)) (rc_childNamed (a := 2) (na := 2000) (j := k) (m := l - k) hT1 hk h21 (by decide) (by omega) hu) ?_
  rw [hc2x]
  rw [show lI none = -1 from rfl]
  refine RQ.blk 3 (pc' := 119) (lv' := [(6, .int (-1)), (5, .int (nI r)), (4, .int (nI (l - k))), (0, .ref 1), (1, .int (nI v)), (2, .int (nI u)), (3, .int (nI k))]) (st' := [.int (nI r), .int (-1)]) (H' := _) (kc' := 0) (ks' := 0) rfl ?_
  refine RQ.brT rfl rfl rfl (bnt (fun e => absurd (show nI r < nI 0 by rw [← e]; decide) (nI_nlt (Nat.zero_le r) (by omega)))) ?_
  refine RQ.blk 1 (pc' := 126) (lv' := [(6, .int (-1)), (5, .int (nI r)), (4, .int (nI (l - k))), (0, .ref 1), (1, .int (nI v)), (2, .int (nI u)), (3, .int (nI k))]) (st' := [.ref 1]) (H' := _) (kc' := 0) (ks' := 0) rfl ?_
  refine RQ.get (ci := 11) rfl h01 rfl rfl ?_
  refine RQ.blk 1 (pc' := 131) (lv' := [(6, .int (-1)), (5, .int (nI r)), (4, .int (nI (l - k))), (0, .ref 1), (1, .int (nI v)), (2, .int (nI u)), (3, .int (nI k))]) (st' := [.int (nI r), .ref 66]) (H' := _) (kc' := 0) (ks' := 0) rfl ?_
  by_cases kd2 : t.1 r = 2
  · refine RQ.call (v := some (.int 1)) (st' := []) rfl rfl rfl rfl rfl rfl (args_v [.int (nI r)] [] rfl rfl (Nat.le_of_ble_eq_true rfl) rfl hT1.1 (Nat.le_of_ble_eq_true rfl)) (rc_isDirT hT1.1 rfl hT1.2.1 (by omega) (nI_is2 kd2)) ?_
    refine RQ.brF rfl rfl rfl (by decide) ?_
    refine RQ.blk 1 (pc' := 139) (lv' := [(6, .int (-1)), (5, .int (nI r)), (4, .int (nI (l - k))), (0, .ref 1), (1, .int (nI v)), (2, .int (nI u)), (3, .int (nI k))]) (st' := [.int (-1)]) (H' := _) (kc' := 0) (ks' := 0) rfl ?_
    refine RQ.brF rfl rfl rfl (by decide) ?_
    refine RQ.blk 1 (pc' := 143) (lv' := [(6, .int (-1)), (5, .int (nI r)), (4, .int (nI (l - k))), (0, .ref 1), (1, .int (nI v)), (2, .int (nI u)), (3, .int (nI k))]) (st' := [.ref 1]) (H' := _) (kc' := 0) (ks' := 0) rfl ?_
    refine RQ.get (ci := 11) rfl h01 rfl rfl ?_
    refine RQ.blk 2 (pc' := 149) (lv' := [(6, .int (-1)), (5, .int (nI r)), (4, .int (nI (l - k))), (0, .ref 1), (1, .int (nI v)), (2, .int (nI u)), (3, .int (nI k))]) (st' := [.int (nI r), .int (nI u), .ref 66]) (H' := _) (kc' := 0) (ks' := 0) rfl ?_
    refine RQ.call (v := some (.int (if upF t.2.1 r 201 u = r then 1 else 0))) (st' := []) rfl rfl rfl rfl rfl rfl (args_v [.int (nI r), .int (nI u)] [] rfl rfl (Nat.le_of_ble_eq_true rfl) rfl hT1.1 (Nat.le_of_ble_eq_true rfl)) (rc_isWithin hT1 hk hu (by omega)) ?_
    rw [if_neg (fun e => hwi ⟨kd2, e⟩)]
    refine RQ.brF rfl rfl rfl (by decide) ?_
    refine RQ.blk 1 (pc' := 156) (lv' := [(6, .int (-1)), (5, .int (nI r)), (4, .int (nI (l - k))), (0, .ref 1), (1, .int (nI v)), (2, .int (nI u)), (3, .int (nI k))]) (st' := [.ref 1]) (H' := _) (kc' := 0) (ks' := 0) rfl ?_
    refine RQ.get (ci := 11) rfl h01 rfl rfl ?_
    refine RQ.blk 1 (pc' := 161) (lv' := [(6, .int (-1)), (5, .int (nI r)), (4, .int (nI (l - k))), (0, .ref 1), (1, .int (nI v)), (2, .int (nI u)), (3, .int (nI k))]) (st' := [.int (-1), .ref 66]) (H' := _) (kc' := 0) (ks' := 0) rfl ?_
    refine RQ.call (v := some (.int 0)) (st' := []) rfl rfl rfl rfl rfl rfl (args_v [.int (-1)] [] rfl rfl (Nat.le_of_ble_eq_true rfl) rfl hT1.1 (Nat.le_of_ble_eq_true rfl)) (rc_isDirN hT1.1) ?_
    refine RQ.brT rfl rfl rfl (by decide) ?_
    refine RQ.blk 1 (pc' := 179) (lv' := [(6, .int (-1)), (5, .int (nI r)), (4, .int (nI (l - k))), (0, .ref 1), (1, .int (nI v)), (2, .int (nI u)), (3, .int (nI k))]) (st' := [.ref 1]) (H' := _) (kc' := 0) (ks' := 0) rfl ?_
    refine RQ.get (ci := 11) rfl h01 rfl rfl ?_
    refine RQ.blk 1 (pc' := 184) (lv' := [(6, .int (-1)), (5, .int (nI r)), (4, .int (nI (l - k))), (0, .ref 1), (1, .int (nI v)), (2, .int (nI u)), (3, .int (nI k))]) (st' := [.int (nI r), .ref 66]) (H' := _) (kc' := 0) (ks' := 0) rfl ?_
    refine RQ.call (v := some (.int (nI (t.1 r)))) (st' := []) rfl rfl rfl rfl rfl rfl (args_v [.int (nI r)] [] rfl rfl (Nat.le_of_ble_eq_true rfl) rfl hT1.1 (Nat.le_of_ble_eq_true rfl)) (rc_kindOf hT1.1 rfl hT1.2.1 (by omega)) ?_
    refine RQ.blk 2 (pc' := 190) (lv' := [(7, .int (nI (t.1 r))), (6, .int (-1)), (5, .int (nI r)), (4, .int (nI (l - k))), (0, .ref 1), (1, .int (nI v)), (2, .int (nI u)), (3, .int (nI k))]) (st' := [.ref 1]) (H' := _) (kc' := 0) (ks' := 0) rfl ?_
    refine RQ.get (ci := 11) rfl h01 rfl rfl ?_
    refine RQ.blk 1 (pc' := 195) (lv' := [(7, .int (nI (t.1 r))), (6, .int (-1)), (5, .int (nI r)), (4, .int (nI (l - k))), (0, .ref 1), (1, .int (nI v)), (2, .int (nI u)), (3, .int (nI k))]) (st' := [.int (nI r), .ref 66]) (H' := _) (kc' := 0) (ks' := 0) rfl ?_
    refine RQ.call (v := some (.int (nI (t.2.2.1 r)))) (st' := []) rfl rfl rfl rfl rfl rfl (args_v [.int (nI r)] [] rfl rfl (Nat.le_of_ble_eq_true rfl) rfl hT1.1 (Nat.le_of_ble_eq_true rfl)) (rc_sizeOf hT1 hk (by omega)) ?_
    refine RQ.blk 1 (pc' := 200) (lv' := [(8, .int (nI (t.2.2.1 r))), (7, .int (nI (t.1 r))), (6, .int (-1)), (5, .int (nI r)), (4, .int (nI (l - k))), (0, .ref 1), (1, .int (nI v)), (2, .int (nI u)), (3, .int (nI k))]) (st' := []) (H' := _) (kc' := 0) (ks' := 0) rfl ?_
    obtain ⟨⟨ws0, hb0⟩, Q0, hq0⟩ := hc1.2.2.2.2.2.2.2.2.1
    obtain ⟨D0, S0, K0, E0, hb0A, -⟩ := id hb0
    refine RQ.blk 1 (pc' := 201) (lv' := [(8, .int (nI (t.2.2.1 r))), (7, .int (nI (t.1 r))), (6, .int (-1)), (5, .int (nI r)), (4, .int (nI (l - k))), (0, .ref 1), (1, .int (nI v)), (2, .int (nI u)), (3, .int (nI k))]) (st' := [.ref 1]) (H' := _) (kc' := 0) (ks' := 0) rfl ?_
    refine RQ.get (ci := 11) rfl h01 rfl rfl ?_
    refine RQ.callN (st' := []) rfl rfl rfl rfl rfl rfl (args_v [] [] rfl rfl (Nat.le_of_ble_eq_true rfl) rfl hb0A.1 (Nat.le_of_ble_eq_true rfl)) (rn_bclearI hb0) (fun H2 hx2 => ?_)
    obtain ⟨hb2, f2⟩ := hx2
    have h02 := (f2 0 (by decide)).trans h01
    have h12 := (f2 1 (by decide)).trans h11
    have h22 := (f2 2 (by decide)).trans h21
    have hT2 : TreeAt H2 t.1 t.2.1 t.2.2.1 t.2.2.2.1 t.2.2.2.2.1 t.2.2.2.2.2 := hT1.far (fun a a1 a2 => f2 a (by omega))
    have hq2 := (f2 64 (by decide)).trans hq0
    have e52 : ∃ q : Nat, H2[5]? = some (kO 5 [.ref 7, .int (nI q)]) := ⟨q5, (f2 5 (by decide)).trans ((far1 5 (by decide)).trans h5)⟩
    have e62 : ∃ g, H2[6]? = some (kB 41 g) := ⟨p6, (f2 6 (by decide)).trans ((far1 6 (by decide)).trans h6)⟩
    refine RQ.blk 6 (pc' := 216) (lv' := [(8, .int (nI (t.2.2.1 r))), (7, .int (nI (t.1 r))), (6, .int (-1)), (5, .int (nI r)), (4, .int (nI (l - k))), (0, .ref 1), (1, .int (nI v)), (2, .int (nI u)), (3, .int (nI k))]) (st' := [.ref 1, .int (nI (t.2.2.1 r)), .int (nI u), .int (nI (t.1 r)), .int (nI r), .ref 1]) (H' := _) (kc' := 0) (ks' := 0) rfl ?_
    refine RQ.get (ci := 11) rfl h02 rfl rfl ?_
    refine RQ.get (ci := 5) rfl h12 rfl rfl ?_
    refine RQ.blk 2 (pc' := 225) (lv' := [(8, .int (nI (t.2.2.1 r))), (7, .int (nI (t.1 r))), (6, .int (-1)), (5, .int (nI r)), (4, .int (nI (l - k))), (0, .ref 1), (1, .int (nI v)), (2, .int (nI u)), (3, .int (nI k))]) (st' := [.int (nI (l - k)), .int (nI k), .ref 3, .int (nI (t.2.2.1 r)), .int (nI u), .int (nI (t.1 r)), .int (nI r), .ref 1]) (H' := _) (kc' := 0) (ks' := 0) rfl ?_
    refine RQ.callN (st' := []) rfl rfl rfl rfl rfl rfl (args_v [.int (nI (l - k)), .int (nI k), .ref 3, .int (nI (t.2.2.1 r)), .int (nI u), .int (nI (t.1 r)), .int (nI r)] [] rfl rfl (Nat.le_of_ble_eq_true rfl) rfl h02 (Nat.le_of_ble_eq_true rfl)) (rn_chNode (v := r) (k := t.1 r) (dir := u) (s := t.2.2.1 r) (a := 2) (na := 2000) (i := k) (n := l - k) h02 e52 e62 hb2 h22 (by decide) (by decide) (by decide) (by decide) (by omega) (by omega) (by omega) (by omega) (by omega) (by omega) (by decide) (by show 0 + 6 + (l - k) ≤ 4100; omega)) (fun Hc hxc => ?_)
    obtain ⟨hbc, e5c, e6c, fc⟩ := hxc
    have hbc : BatchIs Hc 59 [([1, r], some ([t.1 r, u] ++ (beB 2 (t.2.2.1 r) ++ sl tb k (l - k))))] := hbc
    refine RQ.blk 1 (pc' := 230) (lv' := [(8, .int (nI (t.2.2.1 r))), (7, .int (nI (t.1 r))), (6, .int (-1)), (5, .int (nI r)), (4, .int (nI (l - k))), (0, .ref 1), (1, .int (nI v)), (2, .int (nI u)), (3, .int (nI k))]) (st' := [.int (-1)]) (H' := _) (kc' := 0) (ks' := 0) rfl ?_
    refine RQ.brT rfl rfl rfl (by decide) ?_
    rw [hws] at hbc
    show RQ _ _ _ 239 [(8, .int (nI (t.2.2.1 r))), (7, .int (nI (t.1 r))), (6, .int (-1)), (5, .int (nI r)), (4, .int (nI (l - k))), (0, .ref 1), (1, .int (nI v)), (2, .int (nI u)), (3, .int (nI k))] [] Hc 0 0 _
    obtain ⟨H3, eH3⟩ : ∃ H3, H3 = Hc := ⟨_, rfl⟩
    rw [← eH3] at hbc e5c e6c fc ⊢
    have hb3 := hbc
    have e53 := e5c
    have e63 := e6c
    have f3 := fc
    have f13 : ∀ a, a ≠ 5 → a ≠ 6 → ¬ (59 ≤ a ∧ a < 64) → H3[a]? = H1[a]? := fun a a1 a2 a3 => (f3 a a1 a2 a3).trans (f2 a (by omega))
    have hc3 : ClsA H3 B P 1 1 1 cp cb tb 0 g rl wss t := by
      obtain ⟨qa, ea⟩ := e53
      obtain ⟨pa, eb⟩ := e63
      obtain ⟨c0, c1, c2, c3, c4, -, ⟨wq2, c10, cwq⟩, cW, -, cT⟩ := hc1
      exact ⟨(f13 0 (by decide) (by decide) (by decide)).trans c0, (f13 1 (by decide) (by decide) (by decide)).trans c1, (f13 2 (by decide) (by decide) (by decide)).trans c2, (f13 3 (by decide) (by decide) (by decide)).trans c3, (f13 4 (by decide) (by decide) (by decide)).trans c4, ⟨qa, pa, ea, eb⟩, ⟨wq2, (f13 10 (by decide) (by decide) (by decide)).trans c10, cwq⟩, fun t ht => ⟨(cW t ht).1.keep (fun a a1 a2 => f13 a (by omega) (by omega) (by omega)), (cW t ht).2.imp (fun Q hQ => (f13 _ (by omega) (by omega) (by omega)).trans hQ)⟩, ⟨⟨_, hb3⟩, Q0, (f3 64 (by decide) (by decide) (by decide)).trans hq2⟩, cT.far (fun a a1 a2 => f13 a (by omega) (by omega) (by omega))⟩
    have fk3 : FrK H H3 := fk1.trans (fun a ha => f13 a (by omega) (by omega) (by omega))
    have hch3 : ChB H H3 B P 1 1 cp cb tb 0 g rl wss t ws := ⟨hc3, hb3, fk3⟩
    obtain ⟨D3, S3, K3, E3, hb3A, hb3L, hb340, hb341⟩ := id hb3
    have hb3k := hb3L.ok hb340 hb341
    have h03 := hc3.1
    have h13 := hc3.2.1
    have h23 := hc3.2.2.1
    have hT3 : TreeAt H3 t.1 t.2.1 t.2.2.1 t.2.2.2.1 t.2.2.2.2.1 t.2.2.2.2.2 := hc3.2.2.2.2.2.2.2.2.2
    refine RQ.blk 2 (pc' := 241) (lv' := [(8, .int (nI (t.2.2.1 r))), (7, .int (nI (t.1 r))), (6, .int (-1)), (5, .int (nI r)), (4, .int (nI (l - k))), (0, .ref 1), (1, .int (nI v)), (2, .int (nI u)), (3, .int (nI k))]) (st' := [.ref 1, .ref 1]) (H' := _) (kc' := 0) (ks' := 0) rfl ?_
    refine RQ.get (ci := 11) rfl h03 rfl rfl ?_
    refine RQ.blk 1 (pc' := 245) (lv' := [(8, .int (nI (t.2.2.1 r))), (7, .int (nI (t.1 r))), (6, .int (-1)), (5, .int (nI r)), (4, .int (nI (l - k))), (0, .ref 1), (1, .int (nI v)), (2, .int (nI u)), (3, .int (nI k))]) (st' := [.int (-1), .ref 60, .ref 1]) (H' := _) (kc' := 0) (ks' := 0) rfl ?_
    obtain ⟨kf3, kl3, mo3, pl3, le3, al3, od3, sp3, sz3, ss3, ac3, hA3, hVW3, hvs3⟩ := (hV.far (fun a a1 a2 => fk3 a (by omega)) : VersIs H3 N vs)
    refine RQ.call (v := none) (st' := []) rfl rfl rfl rfl rfl rfl (args_v [.int (-1), .ref 60] [] rfl rfl (Nat.le_of_ble_eq_true rfl) rfl h03 (Nat.le_of_ble_eq_true rfl)) (rc_reqRoom h03 hA3 hVW3 hvs3 hb3A hb3k hb3L (hs.far2 (fun a a1 a2 => fk3 a (by omega))) (fun t ht => Nat.lt_trans (hsm t ht) (by decide)) (fun i hi => by obtain ⟨e, he⟩ := lt_get hi; rw [(hb3L i e he).2.1]; exact (hkl e (List.mem_of_getElem? he))) h1W hpr (by omega) hB hle) ?_
    refine RQ.blk 2 (pc' := 250) (lv' := [(8, .int (nI (t.2.2.1 r))), (7, .int (nI (t.1 r))), (6, .int (-1)), (5, .int (nI r)), (4, .int (nI (l - k))), (0, .ref 1), (1, .int (nI v)), (2, .int (nI u)), (3, .int (nI k))]) (st' := [.ref 1, .ref 1]) (H' := _) (kc' := 0) (ks' := 0) rfl ?_
    refine RQ.get (ci := 11) rfl h03 rfl rfl ?_
    refine RQ.get (ci := 0) rfl hb3A.1 rfl rfl ?_
    refine RQ.blk 2 (pc' := 258) (lv' := [(8, .int (nI (t.2.2.1 r))), (7, .int (nI (t.1 r))), (6, .int (-1)), (5, .int (nI r)), (4, .int (nI (l - k))), (0, .ref 1), (1, .int (nI v)), (2, .int (nI u)), (3, .int (nI k))]) (st' := [.int (nI ws.length + 1), .ref 1]) (H' := _) (kc' := 0) (ks' := 0) rfl ?_
    rw [show (nI ws.length + 1 : Int32) = nI (ws.length + 1) from nI_add ws.length 1]
    refine RQ.call (v := none) (st' := []) rfl rfl rfl rfl rfl rfl (args_v [.int (nI (ws.length + 1))] [] rfl rfl (Nat.le_of_ble_eq_true rfl) rfl h03 (Nat.le_of_ble_eq_true rfl)) (rc_armCutL h03) ?_
    refine RQ.blk 2 (pc' := 263) (lv' := [(8, .int (nI (t.2.2.1 r))), (7, .int (nI (t.1 r))), (6, .int (-1)), (5, .int (nI r)), (4, .int (nI (l - k))), (0, .ref 1), (1, .int (nI v)), (2, .int (nI u)), (3, .int (nI k))]) (st' := [.ref 1, .ref 1]) (H' := _) (kc' := 0) (ks' := 0) rfl ?_
    refine RQ.callB (st' := [.ref 1]) rfl rfl rfl rfl rfl rfl (args_v [] [.ref 1] rfl rfl (Nat.le_of_ble_eq_true rfl) rfl h03 (Nat.le_of_ble_eq_true rfl)) (hRM H3 hch3) (fun H4 hH4 => ?_) (fun H4 hH4 => False.elim hH4)
    · have g1 := hf1 H4 hH4
      refine RQ.brF rfl rfl rfl (by decide) ?_
      refine RQ.blk 2 (pc' := 271) (lv' := [(8, .int (nI (t.2.2.1 r))), (7, .int (nI (t.1 r))), (6, .int (-1)), (5, .int (nI r)), (4, .int (nI (l - k))), (0, .ref 1), (1, .int (nI v)), (2, .int (nI u)), (3, .int (nI k))]) (st' := [.ref 1, .ref 1, .ref 1]) (H' := _) (kc' := 0) (ks' := 0) rfl ?_
      refine RQ.get (ci := 11) rfl g1 rfl rfl ?_
      refine RQ.callB (st' := [.ref 1]) rfl rfl rfl rfl rfl rfl (args_v [.ref 60] [.ref 1] rfl rfl (Nat.le_of_ble_eq_true rfl) rfl g1 (Nat.le_of_ble_eq_true rfl)) (hST H4 hH4) (fun H5 hH5 => ?_) (fun H5 hH5 => False.elim hH5)
      · have g2 := hf2 H5 hH5
        refine RQ.brF rfl rfl rfl (by decide) ?_
        refine RQ.blk 2 (pc' := 285) (lv' := [(8, .int (nI (t.2.2.1 r))), (7, .int (nI (t.1 r))), (6, .int (-1)), (5, .int (nI r)), (4, .int (nI (l - k))), (0, .ref 1), (1, .int (nI v)), (2, .int (nI u)), (3, .int (nI k))]) (st' := [.int 1, .ref 1]) (H' := _) (kc' := 0) (ks' := 0) rfl ?_
        obtain ⟨HX, hxX, hpX⟩ := hSE H5 hH5
        exact RQ.callP (st' := []) rfl rfl rfl rfl rfl rfl (args_v [.int 1] [] rfl rfl (Nat.le_of_ble_eq_true rfl) rfl g2 (Nat.le_of_ble_eq_true rfl)) hxX rfl ⟨_, 1, by decide, rfl, hpX⟩
  · refine RQ.call (v := some (.int 0)) (st' := []) rfl rfl rfl rfl rfl rfl (args_v [.int (nI r)] [] rfl rfl (Nat.le_of_ble_eq_true rfl) rfl hT1.1 (Nat.le_of_ble_eq_true rfl)) (rc_isDirF hT1.1 rfl hT1.2.1 (by omega) (nI_ne2 hkr.1 kd2)) ?_
    refine RQ.brT rfl rfl rfl (by decide) ?_
    refine RQ.blk 1 (pc' := 156) (lv' := [(6, .int (-1)), (5, .int (nI r)), (4, .int (nI (l - k))), (0, .ref 1), (1, .int (nI v)), (2, .int (nI u)), (3, .int (nI k))]) (st' := [.ref 1]) (H' := _) (kc' := 0) (ks' := 0) rfl ?_
    refine RQ.get (ci := 11) rfl h01 rfl rfl ?_
    refine RQ.blk 1 (pc' := 161) (lv' := [(6, .int (-1)), (5, .int (nI r)), (4, .int (nI (l - k))), (0, .ref 1), (1, .int (nI v)), (2, .int (nI u)), (3, .int (nI k))]) (st' := [.int (-1), .ref 66]) (H' := _) (kc' := 0) (ks' := 0) rfl ?_
    refine RQ.call (v := some (.int 0)) (st' := []) rfl rfl rfl rfl rfl rfl (args_v [.int (-1)] [] rfl rfl (Nat.le_of_ble_eq_true rfl) rfl hT1.1 (Nat.le_of_ble_eq_true rfl)) (rc_isDirN hT1.1) ?_
    refine RQ.brT rfl rfl rfl (by decide) ?_
    refine RQ.blk 1 (pc' := 179) (lv' := [(6, .int (-1)), (5, .int (nI r)), (4, .int (nI (l - k))), (0, .ref 1), (1, .int (nI v)), (2, .int (nI u)), (3, .int (nI k))]) (st' := [.ref 1]) (H' := _) (kc' := 0) (ks' := 0) rfl ?_
    refine RQ.get (ci := 11) rfl h01 rfl rfl ?_
    refine RQ.blk 1 (pc' := 184) (lv' := [(6, .int (-1)), (5, .int (nI r)), (4, .int (nI (l - k))), (0, .ref 1), (1, .int (nI v)), (2, .int (nI u)), (3, .int (nI k))]) (st' := [.int (nI r), .ref 66]) (H' := _) (kc' := 0) (ks' := 0) rfl ?_
    refine RQ.call (v := some (.int (nI (t.1 r)))) (st' := []) rfl rfl rfl rfl rfl rfl (args_v [.int (nI r)] [] rfl rfl (Nat.le_of_ble_eq_true rfl) rfl hT1.1 (Nat.le_of_ble_eq_true rfl)) (rc_kindOf hT1.1 rfl hT1.2.1 (by omega)) ?_
    refine RQ.blk 2 (pc' := 190) (lv' := [(7, .int (nI (t.1 r))), (6, .int (-1)), (5, .int (nI r)), (4, .int (nI (l - k))), (0, .ref 1), (1, .int (nI v)), (2, .int (nI u)), (3, .int (nI k))]) (st' := [.ref 1]) (H' := _) (kc' := 0) (ks' := 0) rfl ?_
    refine RQ.get (ci := 11) rfl h01 rfl rfl ?_
    refine RQ.blk 1 (pc' := 195) (lv' := [(7, .int (nI (t.1 r))), (6, .int (-1)), (5, .int (nI r)), (4, .int (nI (l - k))), (0, .ref 1), (1, .int (nI v)), (2, .int (nI u)), (3, .int (nI k))]) (st' := [.int (nI r), .ref 66]) (H' := _) (kc' := 0) (ks' := 0) rfl ?_
    refine RQ.call (v := some (.int (nI (t.2.2.1 r)))) (st' := []) rfl rfl rfl rfl rfl rfl (args_v [.int (nI r)] [] rfl rfl (Nat.le_of_ble_eq_true rfl) rfl hT1.1 (Nat.le_of_ble_eq_true rfl)) (rc_sizeOf hT1 hk (by omega)) ?_
    refine RQ.blk 1 (pc' := 200) (lv' := [(8, .int (nI (t.2.2.1 r))), (7, .int (nI (t.1 r))), (6, .int (-1)), (5, .int (nI r)), (4, .int (nI (l - k))), (0, .ref 1), (1, .int (nI v)), (2, .int (nI u)), (3, .int (nI k))]) (st' := []) (H' := _) (kc' := 0) (ks' := 0) rfl ?_
    obtain ⟨⟨ws0, hb0⟩, Q0, hq0⟩ := hc1.2.2.2.2.2.2.2.2.1
    obtain ⟨D0, S0, K0, E0, hb0A, -⟩ := id hb0
    refine RQ.blk 1 (pc' := 201) (lv' := [(8, .int (nI (t.2.2.1 r))), (7, .int (nI (t.1 r))), (6, .int (-1)), (5, .int (nI r)), (4, .int (nI (l - k))), (0, .ref 1), (1, .int (nI v)), (2, .int (nI u)), (3, .int (nI k))]) (st' := [.ref 1]) (H' := _) (kc' := 0) (ks' := 0) rfl ?_
    refine RQ.get (ci := 11) rfl h01 rfl rfl ?_
    refine RQ.callN (st' := []) rfl rfl rfl rfl rfl rfl (args_v [] [] rfl rfl (Nat.le_of_ble_eq_true rfl) rfl hb0A.1 (Nat.le_of_ble_eq_true rfl)) (rn_bclearI hb0) (fun H2 hx2 => ?_)
    obtain ⟨hb2, f2⟩ := hx2
    have h02 := (f2 0 (by decide)).trans h01
    have h12 := (f2 1 (by decide)).trans h11
    have h22 := (f2 2 (by decide)).trans h21
    have hT2 : TreeAt H2 t.1 t.2.1 t.2.2.1 t.2.2.2.1 t.2.2.2.2.1 t.2.2.2.2.2 := hT1.far (fun a a1 a2 => f2 a (by omega))
    have hq2 := (f2 64 (by decide)).trans hq0
    have e52 : ∃ q : Nat, H2[5]? = some (kO 5 [.ref 7, .int (nI q)]) := ⟨q5, (f2 5 (by decide)).trans ((far1 5 (by decide)).trans h5)⟩
    have e62 : ∃ g, H2[6]? = some (kB 41 g) := ⟨p6, (f2 6 (by decide)).trans ((far1 6 (by decide)).trans h6)⟩
    refine RQ.blk 6 (pc' := 216) (lv' := [(8, .int (nI (t.2.2.1 r))), (7, .int (nI (t.1 r))), (6, .int (-1)), (5, .int (nI r)), (4, .int (nI (l - k))), (0, .ref 1), (1, .int (nI v)), (2, .int (nI u)), (3, .int (nI k))]) (st' := [.ref 1, .int (nI (t.2.2.1 r)), .int (nI u), .int (nI (t.1 r)), .int (nI r), .ref 1]) (H' := _) (kc' := 0) (ks' := 0) rfl ?_
    refine RQ.get (ci := 11) rfl h02 rfl rfl ?_
    refine RQ.get (ci := 5) rfl h12 rfl rfl ?_
    refine RQ.blk 2 (pc' := 225) (lv' := [(8, .int (nI (t.2.2.1 r))), (7, .int (nI (t.1 r))), (6, .int (-1)), (5, .int (nI r)), (4, .int (nI (l - k))), (0, .ref 1), (1, .int (nI v)), (2, .int (nI u)), (3, .int (nI k))]) (st' := [.int (nI (l - k)), .int (nI k), .ref 3, .int (nI (t.2.2.1 r)), .int (nI u), .int (nI (t.1 r)), .int (nI r), .ref 1]) (H' := _) (kc' := 0) (ks' := 0) rfl ?_
    refine RQ.callN (st' := []) rfl rfl rfl rfl rfl rfl (args_v [.int (nI (l - k)), .int (nI k), .ref 3, .int (nI (t.2.2.1 r)), .int (nI u), .int (nI (t.1 r)), .int (nI r)] [] rfl rfl (Nat.le_of_ble_eq_true rfl) rfl h02 (Nat.le_of_ble_eq_true rfl)) (rn_chNode (v := r) (k := t.1 r) (dir := u) (s := t.2.2.1 r) (a := 2) (na := 2000) (i := k) (n := l - k) h02 e52 e62 hb2 h22 (by decide) (by decide) (by decide) (by decide) (by omega) (by omega) (by omega) (by omega) (by omega) (by omega) (by decide) (by show 0 + 6 + (l - k) ≤ 4100; omega)) (fun Hc hxc => ?_)
    obtain ⟨hbc, e5c, e6c, fc⟩ := hxc
    have hbc : BatchIs Hc 59 [([1, r], some ([t.1 r, u] ++ (beB 2 (t.2.2.1 r) ++ sl tb k (l - k))))] := hbc
    refine RQ.blk 1 (pc' := 230) (lv' := [(8, .int (nI (t.2.2.1 r))), (7, .int (nI (t.1 r))), (6, .int (-1)), (5, .int (nI r)), (4, .int (nI (l - k))), (0, .ref 1), (1, .int (nI v)), (2, .int (nI u)), (3, .int (nI k))]) (st' := [.int (-1)]) (H' := _) (kc' := 0) (ks' := 0) rfl ?_
    refine RQ.brT rfl rfl rfl (by decide) ?_
    rw [hws] at hbc
    show RQ _ _ _ 239 [(8, .int (nI (t.2.2.1 r))), (7, .int (nI (t.1 r))), (6, .int (-1)), (5, .int (nI r)), (4, .int (nI (l - k))), (0, .ref 1), (1, .int (nI v)), (2, .int (nI u)), (3, .int (nI k))] [] Hc 0 0 _
    obtain ⟨H3, eH3⟩ : ∃ H3, H3 = Hc := ⟨_, rfl⟩
    rw [← eH3] at hbc e5c e6c fc ⊢
    have hb3 := hbc
    have e53 := e5c
    have e63 := e6c
    have f3 := fc
    have f13 : ∀ a, a ≠ 5 → a ≠ 6 → ¬ (59 ≤ a ∧ a < 64) → H3[a]? = H1[a]? := fun a a1 a2 a3 => (f3 a a1 a2 a3).trans (f2 a (by omega))
    have hc3 : ClsA H3 B P 1 1 1 cp cb tb 0 g rl wss t := by
      obtain ⟨qa, ea⟩ := e53
      obtain ⟨pa, eb⟩ := e63
      obtain ⟨c0, c1, c2, c3, c4, -, ⟨wq2, c10, cwq⟩, cW, -, cT⟩ := hc1
      exact ⟨(f13 0 (by decide) (by decide) (by decide)).trans c0, (f13 1 (by decide) (by decide) (by decide)).trans c1, (f13 2 (by decide) (by decide) (by decide)).trans c2, (f13 3 (by decide) (by decide) (by decide)).trans c3, (f13 4 (by decide) (by decide) (by decide)).trans c4, ⟨qa, pa, ea, eb⟩, ⟨wq2, (f13 10 (by decide) (by decide) (by decide)).trans c10, cwq⟩, fun t ht => ⟨(cW t ht).1.keep (fun a a1 a2 => f13 a (by omega) (by omega) (by omega)), (cW t ht).2.imp (fun Q hQ => (f13 _ (by omega) (by omega) (by omega)).trans hQ)⟩, ⟨⟨_, hb3⟩, Q0, (f3 64 (by decide) (by decide) (by decide)).trans hq2⟩, cT.far (fun a a1 a2 => f13 a (by omega) (by omega) (by omega))⟩
    have fk3 : FrK H H3 := fk1.trans (fun a ha => f13 a (by omega) (by omega) (by omega))
    have hch3 : ChB H H3 B P 1 1 cp cb tb 0 g rl wss t ws := ⟨hc3, hb3, fk3⟩
    obtain ⟨D3, S3, K3, E3, hb3A, hb3L, hb340, hb341⟩ := id hb3
    have hb3k := hb3L.ok hb340 hb341
    have h03 := hc3.1
    have h13 := hc3.2.1
    have h23 := hc3.2.2.1
    have hT3 : TreeAt H3 t.1 t.2.1 t.2.2.1 t.2.2.2.1 t.2.2.2.2.1 t.2.2.2.2.2 := hc3.2.2.2.2.2.2.2.2.2
    refine RQ.blk 2 (pc' := 241) (lv' := [(8, .int (nI (t.2.2.1 r))), (7, .int (nI (t.1 r))), (6, .int (-1)), (5, .int (nI r)), (4, .int (nI (l - k))), (0, .ref 1), (1, .int (nI v)), (2, .int (nI u)), (3, .int (nI k))]) (st' := [.ref 1, .ref 1]) (H' := _) (kc' := 0) (ks' := 0) rfl ?_
    refine RQ.get (ci := 11) rfl h03 rfl rfl ?_
    refine RQ.blk 1 (pc' := 245) (lv' := [(8, .int (nI (t.2.2.1 r))), (7, .int (nI (t.1 r))), (6, .int (-1)), (5, .int (nI r)), (4, .int (nI (l - k))), (0, .ref 1), (1, .int (nI v)), (2, .int (nI u)), (3, .int (nI k))]) (st' := [.int (-1), .ref 60, .ref 1]) (H' := _) (kc' := 0) (ks' := 0) rfl ?_
    obtain ⟨kf3, kl3, mo3, pl3, le3, al3, od3, sp3, sz3, ss3, ac3, hA3, hVW3, hvs3⟩ := (hV.far (fun a a1 a2 => fk3 a (by omega)) : VersIs H3 N vs)
    refine RQ.call (v := none) (st' := []) rfl rfl rfl rfl rfl rfl (args_v [.int (-1), .ref 60] [] rfl rfl (Nat.le_of_ble_eq_true rfl) rfl h03 (Nat.le_of_ble_eq_true rfl)) (rc_reqRoom h03 hA3 hVW3 hvs3 hb3A hb3k hb3L (hs.far2 (fun a a1 a2 => fk3 a (by omega))) (fun t ht => Nat.lt_trans (hsm t ht) (by decide)) (fun i hi => by obtain ⟨e, he⟩ := lt_get hi; rw [(hb3L i e he).2.1]; exact (hkl e (List.mem_of_getElem? he))) h1W hpr (by omega) hB hle) ?_
    refine RQ.blk 2 (pc' := 250) (lv' := [(8, .int (nI (t.2.2.1 r))), (7, .int (nI (t.1 r))), (6, .int (-1)), (5, .int (nI r)), (4, .int (nI (l - k))), (0, .ref 1), (1, .int (nI v)), (2, .int (nI u)), (3, .int (nI k))]) (st' := [.ref 1, .ref 1]) (H' := _) (kc' := 0) (ks' := 0) rfl ?_
    refine RQ.get (ci := 11) rfl h03 rfl rfl ?_
    refine RQ.get (ci := 0) rfl hb3A.1 rfl rfl ?_
    refine RQ.blk 2 (pc' := 258) (lv' := [(8, .int (nI (t.2.2.1 r))), (7, .int (nI (t.1 r))), (6, .int (-1)), (5, .int (nI r)), (4, .int (nI (l - k))), (0, .ref 1), (1, .int (nI v)), (2, .int (nI u)), (3, .int (nI k))]) (st' := [.int (nI ws.length + 1), .ref 1]) (H' := _) (kc' := 0) (ks' := 0) rfl ?_
    rw [show (nI ws.length + 1 : Int32) = nI (ws.length + 1) from nI_add ws.length 1]
    refine RQ.call (v := none) (st' := []) rfl rfl rfl rfl rfl rfl (args_v [.int (nI (ws.length + 1))] [] rfl rfl (Nat.le_of_ble_eq_true rfl) rfl h03 (Nat.le_of_ble_eq_true rfl)) (rc_armCutL h03) ?_
    refine RQ.blk 2 (pc' := 263) (lv' := [(8, .int (nI (t.2.2.1 r))), (7, .int (nI (t.1 r))), (6, .int (-1)), (5, .int (nI r)), (4, .int (nI (l - k))), (0, .ref 1), (1, .int (nI v)), (2, .int (nI u)), (3, .int (nI k))]) (st' := [.ref 1, .ref 1]) (H' := _) (kc' := 0) (ks' := 0) rfl ?_
    refine RQ.callB (st' := [.ref 1]) rfl rfl rfl rfl rfl rfl (args_v [] [.ref 1] rfl rfl (Nat.le_of_ble_eq_true rfl) rfl h03 (Nat.le_of_ble_eq_true rfl)) (hRM H3 hch3) (fun H4 hH4 => ?_) (fun H4 hH4 => False.elim hH4)
    · have g1 := hf1 H4 hH4
      refine RQ.brF rfl rfl rfl (by decide) ?_
      refine RQ.blk 2 (pc' := 271) (lv' := [(8, .int (nI (t.2.2.1 r))), (7, .int (nI (t.1 r))), (6, .int (-1)), (5, .int (nI r)), (4, .int (nI (l - k))), (0, .ref 1), (1, .int (nI v)), (2, .int (nI u)), (3, .int (nI k))]) (st' := [.ref 1, .ref 1, .ref 1]) (H' := _) (kc' := 0) (ks' := 0) rfl ?_
      refine RQ.get (ci := 11) rfl g1 rfl rfl ?_
      refine RQ.callB (st' := [.ref 1]) rfl rfl rfl rfl rfl rfl (args_v [.ref 60] [.ref 1] rfl rfl (Nat.le_of_ble_eq_true rfl) rfl g1 (Nat.le_of_ble_eq_true rfl)) (hST H4 hH4) (fun H5 hH5 => ?_) (fun H5 hH5 => False.elim hH5)
      · have g2 := hf2 H5 hH5
        refine RQ.brF rfl rfl rfl (by decide) ?_
        refine RQ.blk 2 (pc' := 285) (lv' := [(8, .int (nI (t.2.2.1 r))), (7, .int (nI (t.1 r))), (6, .int (-1)), (5, .int (nI r)), (4, .int (nI (l - k))), (0, .ref 1), (1, .int (nI v)), (2, .int (nI u)), (3, .int (nI k))]) (st' := [.int 1, .ref 1]) (H' := _) (kc' := 0) (ks' := 0) rfl ?_
        obtain ⟨HX, hxX, hpX⟩ := hSE H5 hH5
        exact RQ.callP (st' := []) rfl rfl rfl rfl rfl rfl (args_v [.int 1] [] rfl rfl (Nat.le_of_ble_eq_true rfl) rfl g2 (Nat.le_of_ble_eq_true rfl)) hxX rfl ⟨_, 1, by decide, rfl, hpX⟩
set_option maxRecDepth 20000 in
theorem rx_rename0_cut {sc : Nat × (Nat → Int32)} {d : Nat} {H : aH} {B P : Nat}  {cp cb : Nat} {tb : Nat → Int8} {l : Nat} {g : Nat → Int8} {rl : Nat} {wss : Nat → List aE} {t : aTr} {v u k r : Nat} {ws : List aE} {N : Nat} {op : Nat → Bool} {sm : Nat → Nat} {vs : List aV} {ok1 bad fin : aH → Prop} (h : ClsA H B P 1 1 0 cp cb tb l g rl wss t) (hk : TreeOk t.1 t.2.1 t.2.2.1 t.2.2.2.1) (hv : v ≤ 200) (hu : u ≤ 200) (hk1 : 1 ≤ k) (hk2 : k ≤ 30) (hk3 : k + 1 ≤ l) (hk4 : l ≤ k + 30) (hnm : ∀ j, j < k → ¬ btB tb l (0 + j) = 47) (hnm2 : ∀ j, j < l - k → ¬ btB tb l (k + j) = 47) (hkd : t.1 v = 2) (hkd2 : t.1 u = 2) (hc1x : fstF (inN t.1 t.2.1 t.2.2.2.1 t.2.2.2.2.1 v (sl tb 0 k)) 1 200 = some r) (hc2x : fstF (inN t.1 t.2.1 t.2.2.2.1 t.2.2.2.2.1 u (sl tb k (l - k))) 1 200 = none) (hwi : ¬ (t.1 r = 2 ∧ upF t.2.1 r 201 u = r)) (hws : [([1, r], some ([t.1 r, u] ++ (beB 2 (t.2.2.1 r) ++ sl tb k (l - k))))] = ws) (h1W : OneW ws) (hkl : ∀ e ∈ ws, 1 ≤ e.1.length) (hs : SightAt H op sm) (hsm : ∀ t, t < 8 → sm t < 2 ^ 30) (hV : VersIs H N vs) (hpr : ∀ v ∈ vs, v.2.1 ≤ P) (hP : P + 1 < 2 ^ 30) (hB : B ≤ 128) (hle : sumN op sm (-1) (P + 1) (kmV (inclV (P + 1) (fun _ => 0) 0 ws vs)) (inclV (P + 1) (fun _ => 0) 0 ws vs) ≤ B * 256) (hC0 : ∀ H', ChB H H' B P 1 0 cp cb tb 0 g rl wss t ws → ∃ cf tf pq bb, ChipAt H' B cf tf pq bb 0) (hcp : cp < 2 ^ 31) (hRM : ∀ H', ChB H H' B P 1 0 cp cb tb 0 g rl wss t ws → RB sc (d + 7) mr_96 [.ref 1] (H'.set 71 (kO 1 [.ref 73, .ref 74, .int (lI (some (cp % (ws.length + 1)))), .int (nI cb), .int (nI 0)])) ok1 bad) (hST : ∀ H', ok1 H' → RB sc (d + 7) mr_150 [.ref 1, .ref 60] H' (fun _ => False) bad) (hf1 : ∀ H', ok1 H' → H'[0]? = some (kO 11 (fvs (nI B) (nI P) 1 1 0 (nI cp) (nI cb)))) (hSB : ∀ H', bad H' → RX sc (d + 7) mr_153 [.ref 1, .int 0] H' 1 fin) (hfb : ∀ H', bad H' → H'[0]? = some (kO 11 (fvs (nI B) (nI P) 1 1 0 (nI cp) (nI cb)))) : RXc sc (d + 8) mr_233 [.ref 1, .int (nI v), .int (nI u), .int (nI k)] H 1 (fun H' => fin H') := by
  obtain ⟨h0, h1, h2, h3, h4, ⟨q5, p6, h5, h6⟩, ⟨wq, h10, hwq⟩, hW, hCh, hT⟩ := id h
  refine RXc.of ?_
  refine RQ.blk 2 (pc' := 2) (lv' := [(0, .ref 1), (1, .int (nI v)), (2, .int (nI u)), (3, .int (nI k))]) (st' := [.int (nI v), .ref 1]) (H' := _) (kc' := 0) (ks' := 0) rfl ?_
  refine RQ.call (v := none) (st' := []) rfl rfl rfl rfl rfl rfl (args_v [.int (nI v)] [] rfl rfl (Nat.le_of_ble_eq_true rfl) rfl h0 (Nat.le_of_ble_eq_true rfl)) (rc_reqNum h0 hv) ?_
  refine RQ.blk 2 (pc' := 7) (lv' := [(0, .ref 1), (1, .int (nI v)), (2, .int (nI u)), (3, .int (nI k))]) (st' := [.int (nI u), .ref 1]) (H' := _) (kc' := 0) (ks' := 0) rfl ?_
  refine RQ.call (v := none) (st' := []) rfl rfl rfl rfl rfl rfl (args_v [.int (nI u)] [] rfl rfl (Nat.le_of_ble_eq_true rfl) rfl h0 (Nat.le_of_ble_eq_true rfl)) (rc_reqNum h0 hu) ?_
  refine RQ.blk 5 (pc' := 16) (lv' := [(0, .ref 1), (1, .int (nI v)), (2, .int (nI u)), (3, .int (nI k))]) (st' := [.ref 1, .int 30, .int 1, .int (nI k), .ref 1]) (H' := _) (kc' := 0) (ks' := 0) rfl ?_
  refine RQ.get (ci := 11) rfl h0 rfl rfl ?_
  refine RQ.get (ci := 5) rfl h1 rfl rfl ?_
  refine RQ.blk 1 (pc' := 25) (lv' := [(0, .ref 1), (1, .int (nI v)), (2, .int (nI u)), (3, .int (nI k))]) (st' := [.int (if nI l < 30 then nI l else 30), .int 1, .int (nI k), .ref 1]) (H' := _) (kc' := 0) (ks' := 0) rfl ?_
  rw [show (if nI l < 30 then nI l else 30 : Int32) = nI (min 30 l) from minI (a := 30) (b := l) (by omega) (by omega)]
  refine RQ.call (v := none) (st' := []) rfl rfl rfl rfl rfl rfl (args_v [.int (nI (min 30 l)), .int 1, .int (nI k)] [] rfl rfl (Nat.le_of_ble_eq_true rfl) rfl h0 (Nat.le_of_ble_eq_true rfl)) (rc_range (fun e => absurd e (nI_nlt hk1 (by omega))) (rg_hi (n := min 30 l) (by omega) (by omega))) ?_
  refine RQ.blk 3 (pc' := 31) (lv' := [(0, .ref 1), (1, .int (nI v)), (2, .int (nI u)), (3, .int (nI k))]) (st' := [.int (nI k), .int 0, .ref 1]) (H' := _) (kc' := 0) (ks' := 0) rfl ?_
  refine RQ.call (v := none) (st' := []) rfl rfl rfl rfl rfl rfl (args_v [.int (nI k), .int 0] [] rfl rfl (Nat.le_of_ble_eq_true rfl) rfl h0 (Nat.le_of_ble_eq_true rfl)) (rc_requireName1 (i := 0) h0 ⟨h1, h2, by decide, by decide⟩ (by omega) (by decide) hk1 hk2 hnm) ?_
  refine RQ.blk 3 (pc' := 37) (lv' := [(0, .ref 1), (1, .int (nI v)), (2, .int (nI u)), (3, .int (nI k))]) (st' := [.ref 1, .int (nI k), .ref 1]) (H' := _) (kc' := 0) (ks' := 0) rfl ?_
  refine RQ.get (ci := 11) rfl h0 rfl rfl ?_
  refine RQ.get (ci := 5) rfl h1 rfl rfl ?_
  refine RQ.blk 2 (pc' := 45) (lv' := [(0, .ref 1), (1, .int (nI v)), (2, .int (nI u)), (3, .int (nI k))]) (st' := [.int (nI l - nI k), .int (nI k), .ref 1]) (H' := _) (kc' := 0) (ks' := 0) rfl ?_
  rw [show (nI l - nI k : Int32) = nI (l - k) from pk_sub (a := l) (b := k) (by omega)]
  refine RQ.call (v := none) (st' := []) rfl rfl rfl rfl rfl rfl (args_v [.int (nI (l - k)), .int (nI k)] [] rfl rfl (Nat.le_of_ble_eq_true rfl) rfl h0 (Nat.le_of_ble_eq_true rfl)) (rc_requireName1 (i := k) (n := l - k) h0 ⟨h1, h2, by decide, by decide⟩ (by omega) (by omega) (by omega) (by omega) hnm2) ?_
  refine RQ.blk 1 (pc' := 49) (lv' := [(0, .ref 1), (1, .int (nI v)), (2, .int (nI u)), (3, .int (nI k))]) (st' := [.ref 1]) (H' := _) (kc' := 0) (ks' := 0) rfl ?_
  refine RQ.call (v := none) (st' := []) rfl rfl rfl rfl rfl rfl (args_v [] [] rfl rfl (Nat.le_of_ble_eq_true rfl) rfl h0 (Nat.le_of_ble_eq_true rfl)) (rc_up h0 rfl) ?_
  refine RQ.blk 1 (pc' := 53) (lv' := [(0, .ref 1), (1, .int (nI v)), (2, .int (nI u)), (3, .int (nI k))]) (st' := [.ref 1]) (H' := _) (kc' := 0) (ks' := 0) rfl ?_
  refine RQ.call (v := some (.int (nI l))) (st' := []) rfl rfl rfl rfl rfl rfl (args_v [] [] rfl rfl (Nat.le_of_ble_eq_true rfl) rfl h0 (Nat.le_of_ble_eq_true rfl)) (rc_takeTape h0 h1) ?_
  have far1 : ∀ a, a ≠ 1 → (H.set 1 (kO 5 [.ref 3, .int (nI 0)]))[a]? = H[a]? := fun a ha => set_far ha
  have h11 : (H.set 1 (kO 5 [.ref 3, .int (nI 0)]))[1]? = some (kO 5 [.ref 3, .int (nI 0)]) := get_set h1
  refine RQ.blk 2 (pc' := 58) (lv' := [(0, .ref 1), (1, .int (nI v)), (2, .int (nI u)), (3, .int (nI k))]) (st' := [.int (nI l - nI k)]) (H' := _) (kc' := 0) (ks' := 0) rfl ?_
  rw [show (nI l - nI k : Int32) = nI (l - k) from pk_sub (a := l) (b := k) (by omega)]
  refine RQ.blk 1 (pc' := 60) (lv' := [(4, .int (nI (l - k))), (0, .ref 1), (1, .int (nI v)), (2, .int (nI u)), (3, .int (nI k))]) (st' := []) (H' := _) (kc' := 0) (ks' := 0) rfl ?_
  show RQ _ _ _ 60 [(4, .int (nI (l - k))), (0, .ref 1), (1, .int (nI v)), (2, .int (nI u)), (3, .int (nI k))] [] (H.set 1 (kO 5 [.ref 3, .int (nI 0)])) 0 0 _
  generalize (H.set 1 (kO 5 [.ref 3, .int (nI 0)])) = H1 at far1 h11 ⊢
  have h01 := (far1 0 (by decide)).trans h0
  have h21 := (far1 2 (by decide)).trans h2
  have hT1 : TreeAt H1 t.1 t.2.1 t.2.2.1 t.2.2.2.1 t.2.2.2.2.1 t.2.2.2.2.2 := hT.far (fun a a1 a2 => far1 a (by omega))
  have hc1 : ClsA H1 B P 1 1 0 cp cb tb 0 g rl wss t := h.small h01 h11 h21 ((far1 3 (by decide)).trans h3) ((far1 4 (by decide)).trans h4) ⟨q5, p6, (far1 5 (by decide)).trans h5, (far1 6 (by decide)).trans h6⟩ (fun a a1 a2 => far1 a (by omega))
  have fk1 : FrK H H1 := fun a ha => far1 a (by omega)
  refine RQ.blk 2 (pc' := 62) (lv' := [(4, .int (nI (l - k))), (0, .ref 1), (1, .int (nI v)), (2, .int (nI u)), (3, .int (nI k))]) (st' := [.int (nI v), .ref 1]) (H' := _) (kc' := 0) (ks' := 0) rfl ?_
  refine RQ.call (v := none) (st' := []) rfl rfl rfl rfl rfl rfl (args_v [.int (nI v)] [] rfl rfl (Nat.le_of_ble_eq_true rfl) rfl h01 (Nat.le_of_ble_eq_true rfl)) (rc_reqDir h01 rfl hT1.1 rfl hT1.2.1 hv (nI_is2 hkd)) ?_
  refine RQ.blk 2 (pc' := 67) (lv' := [(4, .int (nI (l - k))), (0, .ref 1), (1, .int (nI v)), (2, .int (nI u)), (3, .int (nI k))]) (st' := [.int (nI u), .ref 1]) (H' := _) (kc' := 0) (ks' := 0) rfl ?_
  refine RQ.call (v := none) (st' := []) rfl rfl rfl rfl rfl rfl (args_v [.int (nI u)] [] rfl rfl (Nat.le_of_ble_eq_true rfl) rfl h01 (Nat.le_of_ble_eq_true rfl)) (rc_reqDir h01 rfl hT1.1 rfl hT1.2.1 hu (nI_is2 hkd2)) ?_
  refine RQ.blk 1 (pc' := 71) (lv' := [(4, .int (nI (l - k))), (0, .ref 1), (1, .int (nI v)), (2, .int (nI u)), (3, .int (nI k))]) (st' := [.ref 1]) (H' := _) (kc' := 0) (ks' := 0) rfl ?_
  refine RQ.get (ci := 11) rfl h01 rfl rfl ?_
  refine RQ.blk 2 (pc' := 76) (lv' := [(4, .int (nI (l - k))), (0, .ref 1), (1, .int (nI v)), (2, .int (nI u)), (3, .int (nI k))]) (st' := [.ref 1, .int (nI v), .ref 66]) (H' := _) (kc' := 0) (ks' := 0) rfl ?_
  refine RQ.get (ci := 11) rfl h01 rfl rfl ?_
  refine RQ.get (ci := 5) rfl h11 rfl rfl ?_
  refine RQ.blk 2 (pc' := 84) (lv' := [(4, .int (nI (l - k))), (0, .ref 1), (1, .int (nI v)), (2, .int (nI u)), (3, .int (nI k))]) (st' := [.int (nI k), .int 0, .ref 3, .int (nI v), .ref 66]) (H' := _) (kc' := 0) (ks' := 0) rfl ?_
  refine RQ.call (v := some (.int (lI (fstF (inN t.1 t.2.1 t.2.2.2.1 t.2.2.2.2.1 v (sl tb 0 k)) 1 200)))) (st' := []) rfl rfl rfl rfl rfl rfl (args_v [.int (nI k), .int 0, .ref 3, .int (nI v)] [] rfl rfl (Nat.le_of_ble_eq_true rfl) rfl hT1.1 (Nat.le_of_ble_eq_true rfl)) (rc_childNamed (a := 2) (na := 2000) (j := 0) (m := k) hT1 hk h21 (by decide) (by omega) hv) ?_
  rw [hc1x]
  rw [show lI (some r) = nI r from rfl]
  have hr := fstF_lt hc1x
  have hkr := hk r (by omega)
  refine RQ.blk 3 (pc' := 92) (lv' := [(5, .int (nI r)), (4, .int (nI (l - k))), (0, .ref 1), (1, .int (nI v)), (2, .int (nI u)), (3, .int (nI k))]) (st' := [.int (nI r), .ref 1]) (H' := _) (kc' := 0) (ks' := 0) rfl ?_
  refine RQ.call (v := none) (st' := []) rfl rfl rfl rfl rfl rfl (args_v [.int (nI r)] [] rfl rfl (Nat.le_of_ble_eq_true rfl) rfl h01 (Nat.le_of_ble_eq_true rfl)) (rc_there (by omega)) ?_
  refine RQ.blk 1 (pc' := 96) (lv' := [(5, .int (nI r)), (4, .int (nI (l - k))), (0, .ref 1), (1, .int (nI v)), (2, .int (nI u)), (3, .int (nI k))]) (st' := [.ref 1]) (H' := _) (kc' := 0) (ks' := 0) rfl ?_
  refine RQ.get (ci := 11) rfl h01 rfl rfl ?_
  refine RQ.blk 2 (pc' := 101) (lv' := [(5, .int (nI r)), (4, .int (nI (l - k))), (0, .ref 1), (1, .int (nI v)), (2, .int (nI u)), (3, .int (nI k))]) (st' := [.ref 1, .int (nI u), .ref 66]) (H' := _) (kc' := 0) (ks' := 0) rfl ?_
  refine RQ.get (ci := 11) rfl h01 rfl rfl ?_
  refine RQ.get (ci := 5) rfl h11 rfl rfl ?_
  refine RQ.blk 2 (pc' := 110) (lv' := [(5, .int (nI r)), (4, .int (nI (l - k))), (0, .ref 1), (1, .int (nI v)), (2, .int (nI u)), (3, .int (nI k))]) (st' := [.int (nI (l - k)), .int (nI k), .ref 3, .int (nI u), .ref 66]) (H' := _) (kc' := 0) (ks' := 0) rfl ?_
  refine RQ.call (v := some (.int (lI (fstF (inN t.1 t.2.1 t.2.2.2.1 t.2.2.2.2.1 u (sl tb k (l - k))) 1 200)))) (st' := []) rfl rfl rfl rfl rfl rfl (args_v [.int (nI (l - k)), .int (nI k), .ref 3, .int (nI u)] [] rfl rfl (Nat.le_of_ble_eq_true rfl) rfl hT1.1 (Nat.le_of_ble_eq_true rfl)) (rc_childNamed (a := 2) (na := 2000) (j := k) (m := l - k) hT1 hk h21 (by decide) (by omega) hu) ?_
  rw [hc2x]
  rw [show lI none = -1 from rfl]
  refine RQ.blk 3 (pc' := 119) (lv' := [(6, .int (-1)), (5, .int (nI r)), (4, .int (nI (l - k))), (0, .ref 1), (1, .int (nI v)), (2, .int (nI u)), (3, .int (nI k))]) (st' := [.int (nI r), .int (-1)]) (H' := _) (kc' := 0) (ks' := 0) rfl ?_
  refine RQ.brT rfl rfl rfl (bnt (fun e => absurd (show nI r < nI 0 by rw [← e]; decide) (nI_nlt (Nat.zero_le r) (by omega)))) ?_
  refine RQ.blk 1 (pc' := 126) (lv' := [(6, .int (-1)), (5, .int (nI r)), (4, .int (nI (l - k))), (0, .ref 1), (1, .int (nI v)), (2, .int (nI u)), (3, .int (nI k))]) (st' := [.ref 1]) (H' := _) (kc' := 0) (ks' := 0) rfl ?_
  refine RQ.get (ci := 11) rfl h01 rfl rfl ?_
  refine RQ.blk 1 (pc' := 131) (lv' := [(6, .int (-1)), (5, .int (nI r)), (4, .int (nI (l - k))), (0, .ref 1), (1, .int (nI v)), (2, .int (nI u)), (3, .int (nI k))]) (st' := [.int (nI r), .ref 66]) (H' := _) (kc' := 0) (ks' := 0) rfl ?_
  by_cases kd2 : t.1 r = 2
  · refine RQ.call (v := some (.int 1)) (st' := []) rfl rfl rfl rfl rfl rfl (args_v [.int (nI r)] [] rfl rfl (Nat.le_of_ble_eq_true rfl) rfl hT1.1 (Nat.le_of_ble_eq_true rfl)) (rc_isDirT hT1.1 rfl hT1.2.1 (by omega) (nI_is2 kd2)) ?_
    refine RQ.brF rfl rfl rfl (by decide) ?_
    refine RQ.blk 1 (pc' := 139) (lv' := [(6, .int (-1)), (5, .int (nI r)), (4, .int (nI (l - k))), (0, .ref 1), (1, .int (nI v)), (2, .int (nI u)), (3, .int (nI k))]) (st' := [.int (-1)]) (H' := _) (kc' := 0) (ks' := 0) rfl ?_
    refine RQ.brF rfl rfl rfl (by decide) ?_
    refine RQ.blk 1 (pc' := 143) (lv' := [(6, .int (-1)), (5, .int (nI r)), (4, .int (nI (l - k))), (0, .ref 1), (1, .int (nI v)), (2, .int (nI u)), (3, .int (nI k))]) (st' := [.ref 1]) (H' := _) (kc' := 0) (ks' := 0) rfl ?_
    refine RQ.get (ci := 11) rfl h01 rfl rfl ?_
    refine RQ.blk 2 (pc' := 149) (lv' := [(6, .int (-1)), (5, .int (nI r)), (4, .int (nI (l - k))), (0, .ref 1), (1, .int (nI v)), (2, .int (nI u)), (3, .int (nI k))]) (st' := [.int (nI r), .int (nI u), .ref 66]) (H' := _) (kc' := 0) (ks' := 0) rfl ?_
    refine RQ.call (v := some (.int (if upF t.2.1 r 201 u = r then 1 else 0))) (st' := []) rfl rfl rfl rfl rfl rfl (args_v [.int (nI r), .int (nI u)] [] rfl rfl (Nat.le_of_ble_eq_true rfl) rfl hT1.1 (Nat.le_of_ble_eq_true rfl)) (rc_isWithin hT1 hk hu (by omega)) ?_
    rw [if_neg (fun e => hwi ⟨kd2, e⟩)]
    refine RQ.brF rfl rfl rfl (by decide) ?_
    refine RQ.blk 1 (pc' := 156) (lv' := [(6, .int (-1)), (5, .int (nI r)), (4, .int (nI (l - k))), (0, .ref 1), (1, .int (nI v)), (2, .int (nI u)), (3, .int (nI k))]) (st' := [.ref 1]) (H' := _) (kc' := 0) (ks' := 0) rfl ?_
    refine RQ.get (ci := 11) rfl h01 rfl rfl ?_
    refine RQ.blk 1 (pc' := 161) (lv' := [(6, .int (-1)), (5, .int (nI r)), (4, .int (nI (l - k))), (0, .ref 1), (1, .int (nI v)), (2, .int (nI u)), (3, .int (nI k))]) (st' := [.int (-1), .ref 66]) (H' := _) (kc' := 0) (ks' := 0) rfl ?_
    refine RQ.call (v := some (.int 0)) (st' := []) rfl rfl rfl rfl rfl rfl (args_v [.int (-1)] [] rfl rfl (Nat.le_of_ble_eq_true rfl) rfl hT1.1 (Nat.le_of_ble_eq_true rfl)) (rc_isDirN hT1.1) ?_
    refine RQ.brT rfl rfl rfl (by decide) ?_
    refine RQ.blk 1 (pc' := 179) (lv' := [(6, .int (-1)), (5, .int (nI r)), (4, .int (nI (l - k))), (0, .ref 1), (1, .int (nI v)), (2, .int (nI u)), (3, .int (nI k))]) (st' := [.ref 1]) (H' := _) (kc' := 0) (ks' := 0) rfl ?_
    refine RQ.get (ci := 11) rfl h01 rfl rfl ?_
    refine RQ.blk 1 (pc' := 184) (lv' := [(6, .int (-1)), (5, .int (nI r)), (4, .int (nI (l - k))), (0, .ref 1), (1, .int (nI v)), (2, .int (nI u)), (3, .int (nI k))]) (st' := [.int (nI r), .ref 66]) (H' := _) (kc' := 0) (ks' := 0) rfl ?_
    refine RQ.call (v := some (.int (nI (t.1 r)))) (st' := []) rfl rfl rfl rfl rfl rfl (args_v [.int (nI r)] [] rfl rfl (Nat.le_of_ble_eq_true rfl) rfl hT1.1 (Nat.le_of_ble_eq_true rfl)) (rc_kindOf hT1.1 rfl hT1.2.1 (by omega)) ?_
    refine RQ.blk 2 (pc' := 190) (lv' := [(7, .int (nI (t.1 r))), (6, .int (-1)), (5, .int (nI r)), (4, .int (nI (l - k))), (0, .ref 1), (1, .int (nI v)), (2, .int (nI u)), (3, .int (nI k))]) (st' := [.ref 1]) (H' := _) (kc' := 0) (ks' := 0) rfl ?_
    refine RQ.get (ci := 11) rfl h01 rfl rfl ?_
    refine RQ.blk 1 (pc' := 195) (lv' := [(7, .int (nI (t.1 r))), (6, .int (-1)), (5, .int (nI r)), (4, .int (nI (l - k))), (0, .ref 1), (1, .int (nI v)), (2, .int (nI u)), (3, .int (nI k))]) (st' := [.int (nI r), .ref 66]) (H' := _) (kc' := 0) (ks' := 0) rfl ?_
    refine RQ.call (v := some (.int (nI (t.2.2.1 r)))) (st' := []) rfl rfl rfl rfl rfl rfl (args_v [.int (nI r)] [] rfl rfl (Nat.le_of_ble_eq_true rfl) rfl hT1.1 (Nat.le_of_ble_eq_true rfl)) (rc_sizeOf hT1 hk (by omega)) ?_
    refine RQ.blk 1 (pc' := 200) (lv' := [(8, .int (nI (t.2.2.1 r))), (7, .int (nI (t.1 r))), (6, .int (-1)), (5, .int (nI r)), (4, .int (nI (l - k))), (0, .ref 1), (1, .int (nI v)), (2, .int (nI u)), (3, .int (nI k))]) (st' := []) (H' := _) (kc' := 0) (ks' := 0) rfl ?_
    obtain ⟨⟨ws0, hb0⟩, Q0, hq0⟩ := hc1.2.2.2.2.2.2.2.2.1
    obtain ⟨D0, S0, K0, E0, hb0A, -⟩ := id hb0
    refine RQ.blk 1 (pc' := 201) (lv' := [(8, .int (nI (t.2.2.1 r))), (7, .int (nI (t.1 r))), (6, .int (-1)), (5, .int (nI r)), (4, .int (nI (l - k))), (0, .ref 1), (1, .int (nI v)), (2, .int (nI u)), (3, .int (nI k))]) (st' := [.ref 1]) (H' := _) (kc' := 0) (ks' := 0) rfl ?_
    refine RQ.get (ci := 11) rfl h01 rfl rfl ?_
    refine RQ.callN (st' := []) rfl rfl rfl rfl rfl rfl (args_v [] [] rfl rfl (Nat.le_of_ble_eq_true rfl) rfl hb0A.1 (Nat.le_of_ble_eq_true rfl)) (rn_bclearI hb0) (fun H2 hx2 => ?_)
    obtain ⟨hb2, f2⟩ := hx2
    have h02 := (f2 0 (by decide)).trans h01
    have h12 := (f2 1 (by decide)).trans h11
    have h22 := (f2 2 (by decide)).trans h21
    have hT2 : TreeAt H2 t.1 t.2.1 t.2.2.1 t.2.2.2.1 t.2.2.2.2.1 t.2.2.2.2.2 := hT1.far (fun a a1 a2 => f2 a (by omega))
    have hq2 := (f2 64 (by decide)).trans hq0
    have e52 : ∃ q : Nat, H2[5]? = some (kO 5 [.ref 7, .int (nI q)]) := ⟨q5, (f2 5 (by decide)).trans ((far1 5 (by decide)).trans h5)⟩
    have e62 : ∃ g, H2[6]? = some (kB 41 g) := ⟨p6, (f2 6 (by decide)).trans ((far1 6 (by decide)).trans h6)⟩
    refine RQ.blk 6 (pc' := 216) (lv' := [(8, .int (nI (t.2.2.1 r))), (7, .int (nI (t.1 r))), (6, .int (-1)), (5, .int (nI r)), (4, .int (nI (l - k))), (0, .ref 1), (1, .int (nI v)), (2, .int (nI u)), (3, .int (nI k))]) (st' := [.ref 1, .int (nI (t.2.2.1 r)), .int (nI u), .int (nI (t.1 r)), .int (nI r), .ref 1]) (H' := _) (kc' := 0) (ks' := 0) rfl ?_
    refine RQ.get (ci := 11) rfl h02 rfl rfl ?_
    refine RQ.get (ci := 5) rfl h12 rfl rfl ?_
    refine RQ.blk 2 (pc' := 225) (lv' := [(8, .int (nI (t.2.2.1 r))), (7, .int (nI (t.1 r))), (6, .int (-1)), (5, .int (nI r)), (4, .int (nI (l - k))), (0, .ref 1), (1, .int (nI v)), (2, .int (nI u)), (3, .int (nI k))]) (st' := [.int (nI (l - k)), .int (nI k), .ref 3, .int (nI (t.2.2.1 r)), .int (nI u), .int (nI (t.1 r)), .int (nI r), .ref 1]) (H' := _) (kc' := 0) (ks' := 0) rfl ?_
    refine RQ.callN (st' := []) rfl rfl rfl rfl rfl rfl (args_v [.int (nI (l - k)), .int (nI k), .ref 3, .int (nI (t.2.2.1 r)), .int (nI u), .int (nI (t.1 r)), .int (nI r)] [] rfl rfl (Nat.le_of_ble_eq_true rfl) rfl h02 (Nat.le_of_ble_eq_true rfl)) (rn_chNode (v := r) (k := t.1 r) (dir := u) (s := t.2.2.1 r) (a := 2) (na := 2000) (i := k) (n := l - k) h02 e52 e62 hb2 h22 (by decide) (by decide) (by decide) (by decide) (by omega) (by omega) (by omega) (by omega) (by omega) (by omega) (by decide) (by show 0 + 6 + (l - k) ≤ 4100; omega)) (fun Hc hxc => ?_)
    obtain ⟨hbc, e5c, e6c, fc⟩ := hxc
    have hbc : BatchIs Hc 59 [([1, r], some ([t.1 r, u] ++ (beB 2 (t.2.2.1 r) ++ sl tb k (l - k))))] := hbc
    refine RQ.blk 1 (pc' := 230) (lv' := [(8, .int (nI (t.2.2.1 r))), (7, .int (nI (t.1 r))), (6, .int (-1)), (5, .int (nI r)), (4, .int (nI (l - k))), (0, .ref 1), (1, .int (nI v)), (2, .int (nI u)), (3, .int (nI k))]) (st' := [.int (-1)]) (H' := _) (kc' := 0) (ks' := 0) rfl ?_
    refine RQ.brT rfl rfl rfl (by decide) ?_
    rw [hws] at hbc
    show RQ _ _ _ 239 [(8, .int (nI (t.2.2.1 r))), (7, .int (nI (t.1 r))), (6, .int (-1)), (5, .int (nI r)), (4, .int (nI (l - k))), (0, .ref 1), (1, .int (nI v)), (2, .int (nI u)), (3, .int (nI k))] [] Hc 0 0 _
    obtain ⟨H3, eH3⟩ : ∃ H3, H3 = Hc := ⟨_, rfl⟩
    rw [← eH3] at hbc e5c e6c fc ⊢
    have hb3 := hbc
    have e53 := e5c
    have e63 := e6c
    have f3 := fc
    have f13 : ∀ a, a ≠ 5 → a ≠ 6 → ¬ (59 ≤ a ∧ a < 64) → H3[a]? = H1[a]? := fun a a1 a2 a3 => (f3 a a1 a2 a3).trans (f2 a (by omega))
    have hc3 : ClsA H3 B P 1 1 0 cp cb tb 0 g rl wss t := by
      obtain ⟨qa, ea⟩ := e53
      obtain ⟨pa, eb⟩ := e63
      obtain ⟨c0, c1, c2, c3, c4, -, ⟨wq2, c10, cwq⟩, cW, -, cT⟩ := hc1
      exact ⟨(f13 0 (by decide) (by decide) (by decide)).trans c0, (f13 1 (by decide) (by decide) (by decide)).trans c1, (f13 2 (by decide) (by decide) (by decide)).trans c2, (f13 3 (by decide) (by decide) (by decide)).trans c3, (f13 4 (by decide) (by decide) (by decide)).trans c4, ⟨qa, pa, ea, eb⟩, ⟨wq2, (f13 10 (by decide) (by decide) (by decide)).trans c10, cwq⟩, fun t ht => ⟨(cW t ht).1.keep (fun a a1 a2 => f13 a (by omega) (by omega) (by omega)), (cW t ht).2.imp (fun Q hQ => (f13 _ (by omega) (by omega) (by omega)).trans hQ)⟩, ⟨⟨_, hb3⟩, Q0, (f3 64 (by decide) (by decide) (by decide)).trans hq2⟩, cT.far (fun a a1 a2 => f13 a (by omega) (by omega) (by omega))⟩
    have fk3 : FrK H H3 := fk1.trans (fun a ha => f13 a (by omega) (by omega) (by omega))
    have hch3 : ChB H H3 B P 1 0 cp cb tb 0 g rl wss t ws := ⟨hc3, hb3, fk3⟩
    obtain ⟨D3, S3, K3, E3, hb3A, hb3L, hb340, hb341⟩ := id hb3
    have hb3k := hb3L.ok hb340 hb341
    have h03 := hc3.1
    have h13 := hc3.2.1
    have h23 := hc3.2.2.1
    have hT3 : TreeAt H3 t.1 t.2.1 t.2.2.1 t.2.2.2.1 t.2.2.2.2.1 t.2.2.2.2.2 := hc3.2.2.2.2.2.2.2.2.2
    refine RQ.blk 2 (pc' := 241) (lv' := [(8, .int (nI (t.2.2.1 r))), (7, .int (nI (t.1 r))), (6, .int (-1)), (5, .int (nI r)), (4, .int (nI (l - k))), (0, .ref 1), (1, .int (nI v)), (2, .int (nI u)), (3, .int (nI k))]) (st' := [.ref 1, .ref 1]) (H' := _) (kc' := 0) (ks' := 0) rfl ?_
    refine RQ.get (ci := 11) rfl h03 rfl rfl ?_
    refine RQ.blk 1 (pc' := 245) (lv' := [(8, .int (nI (t.2.2.1 r))), (7, .int (nI (t.1 r))), (6, .int (-1)), (5, .int (nI r)), (4, .int (nI (l - k))), (0, .ref 1), (1, .int (nI v)), (2, .int (nI u)), (3, .int (nI k))]) (st' := [.int (-1), .ref 60, .ref 1]) (H' := _) (kc' := 0) (ks' := 0) rfl ?_
    obtain ⟨kf3, kl3, mo3, pl3, le3, al3, od3, sp3, sz3, ss3, ac3, hA3, hVW3, hvs3⟩ := (hV.far (fun a a1 a2 => fk3 a (by omega)) : VersIs H3 N vs)
    refine RQ.call (v := none) (st' := []) rfl rfl rfl rfl rfl rfl (args_v [.int (-1), .ref 60] [] rfl rfl (Nat.le_of_ble_eq_true rfl) rfl h03 (Nat.le_of_ble_eq_true rfl)) (rc_reqRoom h03 hA3 hVW3 hvs3 hb3A hb3k hb3L (hs.far2 (fun a a1 a2 => fk3 a (by omega))) (fun t ht => Nat.lt_trans (hsm t ht) (by decide)) (fun i hi => by obtain ⟨e, he⟩ := lt_get hi; rw [(hb3L i e he).2.1]; exact (hkl e (List.mem_of_getElem? he))) h1W hpr (by omega) hB hle) ?_
    refine RQ.blk 2 (pc' := 250) (lv' := [(8, .int (nI (t.2.2.1 r))), (7, .int (nI (t.1 r))), (6, .int (-1)), (5, .int (nI r)), (4, .int (nI (l - k))), (0, .ref 1), (1, .int (nI v)), (2, .int (nI u)), (3, .int (nI k))]) (st' := [.ref 1, .ref 1]) (H' := _) (kc' := 0) (ks' := 0) rfl ?_
    refine RQ.get (ci := 11) rfl h03 rfl rfl ?_
    refine RQ.get (ci := 0) rfl hb3A.1 rfl rfl ?_
    refine RQ.blk 2 (pc' := 258) (lv' := [(8, .int (nI (t.2.2.1 r))), (7, .int (nI (t.1 r))), (6, .int (-1)), (5, .int (nI r)), (4, .int (nI (l - k))), (0, .ref 1), (1, .int (nI v)), (2, .int (nI u)), (3, .int (nI k))]) (st' := [.int (nI ws.length + 1), .ref 1]) (H' := _) (kc' := 0) (ks' := 0) rfl ?_
    rw [show (nI ws.length + 1 : Int32) = nI (ws.length + 1) from nI_add ws.length 1]
    obtain ⟨cf, tf, pq, bb, hC3⟩ := hC0 H3 hch3
    refine RQ.call (v := none) (st' := []) rfl rfl rfl rfl rfl rfl (args_v [.int (nI (ws.length + 1))] [] rfl rfl (Nat.le_of_ble_eq_true rfl) rfl h03 (Nat.le_of_ble_eq_true rfl)) (rc_armCutM (n := ws.length + 1) h03 hC3 (by omega) (by omega) hcp) ?_
    refine RQ.blk 2 (pc' := 263) (lv' := [(8, .int (nI (t.2.2.1 r))), (7, .int (nI (t.1 r))), (6, .int (-1)), (5, .int (nI r)), (4, .int (nI (l - k))), (0, .ref 1), (1, .int (nI v)), (2, .int (nI u)), (3, .int (nI k))]) (st' := [.ref 1, .ref 1]) (H' := _) (kc' := 0) (ks' := 0) rfl ?_
    have hRM3 := hRM H3 hch3
    generalize hHA : (H3.set 71 (kO 1 [.ref 73, .ref 74, .int (lI (some (cp % (ws.length + 1)))), .int (nI cb), .int (nI 0)])) = HA at hRM3 ⊢
    have g0 : HA[0]? = some (kO 11 (fvs (nI B) (nI P) 1 1 0 (nI cp) (nI cb))) := by rw [← hHA]; exact (set_far (by decide)).trans h03
    refine RQ.callB (st' := [.ref 1]) rfl rfl rfl rfl rfl rfl (args_v [] [.ref 1] rfl rfl (Nat.le_of_ble_eq_true rfl) rfl g0 (Nat.le_of_ble_eq_true rfl)) hRM3 (fun H4 hH4 => ?_) (fun H4 hH4 => ?_)
    · have g1 := hf1 H4 hH4
      refine RQ.brF rfl rfl rfl (by decide) ?_
      refine RQ.blk 2 (pc' := 271) (lv' := [(8, .int (nI (t.2.2.1 r))), (7, .int (nI (t.1 r))), (6, .int (-1)), (5, .int (nI r)), (4, .int (nI (l - k))), (0, .ref 1), (1, .int (nI v)), (2, .int (nI u)), (3, .int (nI k))]) (st' := [.ref 1, .ref 1, .ref 1]) (H' := _) (kc' := 0) (ks' := 0) rfl ?_
      refine RQ.get (ci := 11) rfl g1 rfl rfl ?_
      refine RQ.callB (st' := [.ref 1]) rfl rfl rfl rfl rfl rfl (args_v [.ref 60] [.ref 1] rfl rfl (Nat.le_of_ble_eq_true rfl) rfl g1 (Nat.le_of_ble_eq_true rfl)) (hST H4 hH4) (fun H5 hH5 => ?_) (fun H5 hH5 => ?_)
      · exact hH5.elim
      · have g2 := hfb H5 hH5
        refine RQ.brT rfl rfl rfl (by decide) ?_
        refine RQ.blk 1 (pc' := 285) (lv' := [(8, .int (nI (t.2.2.1 r))), (7, .int (nI (t.1 r))), (6, .int (-1)), (5, .int (nI r)), (4, .int (nI (l - k))), (0, .ref 1), (1, .int (nI v)), (2, .int (nI u)), (3, .int (nI k))]) (st' := [.int 0, .ref 1]) (H' := _) (kc' := 0 + 1) (ks' := 0 + 6) rfl ?_
        obtain ⟨HX, hxX, hpX⟩ := hSB H5 hH5
        exact RQ.callP (st' := []) rfl rfl rfl rfl rfl rfl (args_v [.int 0] [] rfl rfl (Nat.le_of_ble_eq_true rfl) rfl g2 (Nat.le_of_ble_eq_true rfl)) hxX rfl ⟨_, 2, by decide, rfl, hpX⟩
    · have g2 := hfb H4 hH4
      refine RQ.brT rfl rfl rfl (by decide) ?_
      refine RQ.blk 1 (pc' := 285) (lv' := [(8, .int (nI (t.2.2.1 r))), (7, .int (nI (t.1 r))), (6, .int (-1)), (5, .int (nI r)), (4, .int (nI (l - k))), (0, .ref 1), (1, .int (nI v)), (2, .int (nI u)), (3, .int (nI k))]) (st' := [.int 0, .ref 1]) (H' := _) (kc' := 0 + 1) (ks' := 0 + 6) rfl ?_
      obtain ⟨HX, hxX, hpX⟩ := hSB H4 hH4
      exact RQ.callP (st' := []) rfl rfl rfl rfl rfl rfl (args_v [.int 0] [] rfl rfl (Nat.le_of_ble_eq_true rfl) rfl g2 (Nat.le_of_ble_eq_true rfl)) hxX rfl ⟨_, 2, by decide, rfl, hpX⟩
  · refine RQ.call (v := some (.int 0)) (st' := []) rfl rfl rfl rfl rfl rfl (args_v [.int (nI r)] [] rfl rfl (Nat.le_of_ble_eq_true rfl) rfl hT1.1 (Nat.le_of_ble_eq_true rfl)) (rc_isDirF hT1.1 rfl hT1.2.1 (by omega) (nI_ne2 hkr.1 kd2)) ?_
    refine RQ.brT rfl rfl rfl (by decide) ?_
    refine RQ.blk 1 (pc' := 156) (lv' := [(6, .int (-1)), (5, .int (nI r)), (4, .int (nI (l - k))), (0, .ref 1), (1, .int (nI v)), (2, .int (nI u)), (3, .int (nI k))]) (st' := [.ref 1]) (H' := _) (kc' := 0) (ks' := 0) rfl ?_
    refine RQ.get (ci := 11) rfl h01 rfl rfl ?_
    refine RQ.blk 1 (pc' := 161) (lv' := [(6, .int (-1)), (5, .int (nI r)), (4, .int (nI (l - k))), (0, .ref 1), (1, .int (nI v)), (2, .int (nI u)), (3, .int (nI k))]) (st' := [.int (-1), .ref 66]) (H' := _) (kc' := 0) (ks' := 0) rfl ?_
    refine RQ.call (v := some (.int 0)) (st' := []) rfl rfl rfl rfl rfl rfl (args_v [.int (-1)] [] rfl rfl (Nat.le_of_ble_eq_true rfl) rfl hT1.1 (Nat.le_of_ble_eq_true rfl)) (rc_isDirN hT1.1) ?_
    refine RQ.brT rfl rfl rfl (by decide) ?_
    refine RQ.blk 1 (pc' := 179) (lv' := [(6, .int (-1)), (5, .int (nI r)), (4, .int (nI (l - k))), (0, .ref 1), (1, .int (nI v)), (2, .int (nI u)), (3, .int (nI k))]) (st' := [.ref 1]) (H' := _) (kc' := 0) (ks' := 0) rfl ?_
    refine RQ.get (ci := 11) rfl h01 rfl rfl ?_
    refine RQ.blk 1 (pc' := 184) (lv' := [(6, .int (-1)), (5, .int (nI r)), (4, .int (nI (l - k))), (0, .ref 1), (1, .int (nI v)), (2, .int (nI u)), (3, .int (nI k))]) (st' := [.int (nI r), .ref 66]) (H' := _) (kc' := 0) (ks' := 0) rfl ?_
    refine RQ.call (v := some (.int (nI (t.1 r)))) (st' := []) rfl rfl rfl rfl rfl rfl (args_v [.int (nI r)] [] rfl rfl (Nat.le_of_ble_eq_true rfl) rfl hT1.1 (Nat.le_of_ble_eq_true rfl)) (rc_kindOf hT1.1 rfl hT1.2.1 (by omega)) ?_
    refine RQ.blk 2 (pc' := 190) (lv' := [(7, .int (nI (t.1 r))), (6, .int (-1)), (5, .int (nI r)), (4, .int (nI (l - k))), (0, .ref 1), (1, .int (nI v)), (2, .int (nI u)), (3, .int (nI k))]) (st' := [.ref 1]) (H' := _) (kc' := 0) (ks' := 0) rfl ?_
    refine RQ.get (ci := 11) rfl h01 rfl rfl ?_
    refine RQ.blk 1 (pc' := 195) (lv' := [(7, .int (nI (t.1 r))), (6, .int (-1)), (5, .int (nI r)), (4, .int (nI (l - k))), (0, .ref 1), (1, .int (nI v)), (2, .int (nI u)), (3, .int (nI k))]) (st' := [.int (nI r), .ref 66]) (H' := _) (kc' := 0) (ks' := 0) rfl ?_
    refine RQ.call (v := some (.int (nI (t.2.2.1 r)))) (st' := []) rfl rfl rfl rfl rfl rfl (args_v [.int (nI r)] [] rfl rfl (Nat.le_of_ble_eq_true rfl) rfl hT1.1 (Nat.le_of_ble_eq_true rfl)) (rc_sizeOf hT1 hk (by omega)) ?_
    refine RQ.blk 1 (pc' := 200) (lv' := [(8, .int (nI (t.2.2.1 r))), (7, .int (nI (t.1 r))), (6, .int (-1)), (5, .int (nI r)), (4, .int (nI (l - k))), (0, .ref 1), (1, .int (nI v)), (2, .int (nI u)), (3, .int (nI k))]) (st' := []) (H' := _) (kc' := 0) (ks' := 0) rfl ?_
    obtain ⟨⟨ws0, hb0⟩, Q0, hq0⟩ := hc1.2.2.2.2.2.2.2.2.1
    obtain ⟨D0, S0, K0, E0, hb0A, -⟩ := id hb0
    refine RQ.blk 1 (pc' := 201) (lv' := [(8, .int (nI (t.2.2.1 r))), (7, .int (nI (t.1 r))), (6, .int (-1)), (5, .int (nI r)), (4, .int (nI (l - k))), (0, .ref 1), (1, .int (nI v)), (2, .int (nI u)), (3, .int (nI k))]) (st' := [.ref 1]) (H' := _) (kc' := 0) (ks' := 0) rfl ?_
    refine RQ.get (ci := 11) rfl h01 rfl rfl ?_
    refine RQ.callN (st' := []) rfl rfl rfl rfl rfl rfl (args_v [] [] rfl rfl (Nat.le_of_ble_eq_true rfl) rfl hb0A.1 (Nat.le_of_ble_eq_true rfl)) (rn_bclearI hb0) (fun H2 hx2 => ?_)
    obtain ⟨hb2, f2⟩ := hx2
    have h02 := (f2 0 (by decide)).trans h01
    have h12 := (f2 1 (by decide)).trans h11
    have h22 := (f2 2 (by decide)).trans h21
    have hT2 : TreeAt H2 t.1 t.2.1 t.2.2.1 t.2.2.2.1 t.2.2.2.2.1 t.2.2.2.2.2 := hT1.far (fun a a1 a2 => f2 a (by omega))
    have hq2 := (f2 64 (by decide)).trans hq0
    have e52 : ∃ q : Nat, H2[5]? = some (kO 5 [.ref 7, .int (nI q)]) := ⟨q5, (f2 5 (by decide)).trans ((far1 5 (by decide)).trans h5)⟩
    have e62 : ∃ g, H2[6]? = some (kB 41 g) := ⟨p6, (f2 6 (by decide)).trans ((far1 6 (by decide)).trans h6)⟩
    refine RQ.blk 6 (pc' := 216) (lv' := [(8, .int (nI (t.2.2.1 r))), (7, .int (nI (t.1 r))), (6, .int (-1)), (5, .int (nI r)), (4, .int (nI (l - k))), (0, .ref 1), (1, .int (nI v)), (2, .int (nI u)), (3, .int (nI k))]) (st' := [.ref 1, .int (nI (t.2.2.1 r)), .int (nI u), .int (nI (t.1 r)), .int (nI r), .ref 1]) (H' := _) (kc' := 0) (ks' := 0) rfl ?_
    refine RQ.get (ci := 11) rfl h02 rfl rfl ?_
    refine RQ.get (ci := 5) rfl h12 rfl rfl ?_
    refine RQ.blk 2 (pc' := 225) (lv' := [(8, .int (nI (t.2.2.1 r))), (7, .int (nI (t.1 r))), (6, .int (-1)), (5, .int (nI r)), (4, .int (nI (l - k))), (0, .ref 1), (1, .int (nI v)), (2, .int (nI u)), (3, .int (nI k))]) (st' := [.int (nI (l - k)), .int (nI k), .ref 3, .int (nI (t.2.2.1 r)), .int (nI u), .int (nI (t.1 r)), .int (nI r), .ref 1]) (H' := _) (kc' := 0) (ks' := 0) rfl ?_
    refine RQ.callN (st' := []) rfl rfl rfl rfl rfl rfl (args_v [.int (nI (l - k)), .int (nI k), .ref 3, .int (nI (t.2.2.1 r)), .int (nI u), .int (nI (t.1 r)), .int (nI r)] [] rfl rfl (Nat.le_of_ble_eq_true rfl) rfl h02 (Nat.le_of_ble_eq_true rfl)) (rn_chNode (v := r) (k := t.1 r) (dir := u) (s := t.2.2.1 r) (a := 2) (na := 2000) (i := k) (n := l - k) h02 e52 e62 hb2 h22 (by decide) (by decide) (by decide) (by decide) (by omega) (by omega) (by omega) (by omega) (by omega) (by omega) (by decide) (by show 0 + 6 + (l - k) ≤ 4100; omega)) (fun Hc hxc => ?_)
    obtain ⟨hbc, e5c, e6c, fc⟩ := hxc
    have hbc : BatchIs Hc 59 [([1, r], some ([t.1 r, u] ++ (beB 2 (t.2.2.1 r) ++ sl tb k (l - k))))] := hbc
    refine RQ.blk 1 (pc' := 230) (lv' := [(8, .int (nI (t.2.2.1 r))), (7, .int (nI (t.1 r))), (6, .int (-1)), (5, .int (nI r)), (4, .int (nI (l - k))), (0, .ref 1), (1, .int (nI v)), (2, .int (nI u)), (3, .int (nI k))]) (st' := [.int (-1)]) (H' := _) (kc' := 0) (ks' := 0) rfl ?_
    refine RQ.brT rfl rfl rfl (by decide) ?_
    rw [hws] at hbc
    show RQ _ _ _ 239 [(8, .int (nI (t.2.2.1 r))), (7, .int (nI (t.1 r))), (6, .int (-1)), (5, .int (nI r)), (4, .int (nI (l - k))), (0, .ref 1), (1, .int (nI v)), (2, .int (nI u)), (3, .int (nI k))] [] Hc 0 0 _
    obtain ⟨H3, eH3⟩ : ∃ H3, H3 = Hc := ⟨_, rfl⟩
    rw [← eH3] at hbc e5c e6c fc ⊢
    have hb3 := hbc
    have e53 := e5c
    have e63 := e6c
    have f3 := fc
    have f13 : ∀ a, a ≠ 5 → a ≠ 6 → ¬ (59 ≤ a ∧ a < 64) → H3[a]? = H1[a]? := fun a a1 a2 a3 => (f3 a a1 a2 a3).trans (f2 a (by omega))
    have hc3 : ClsA H3 B P 1 1 0 cp cb tb 0 g rl wss t := by
      obtain ⟨qa, ea⟩ := e53
      obtain ⟨pa, eb⟩ := e63
      obtain ⟨c0, c1, c2, c3, c4, -, ⟨wq2, c10, cwq⟩, cW, -, cT⟩ := hc1
      exact ⟨(f13 0 (by decide) (by decide) (by decide)).trans c0, (f13 1 (by decide) (by decide) (by decide)).trans c1, (f13 2 (by decide) (by decide) (by decide)).trans c2, (f13 3 (by decide) (by decide) (by decide)).trans c3, (f13 4 (by decide) (by decide) (by decide)).trans c4, ⟨qa, pa, ea, eb⟩, ⟨wq2, (f13 10 (by decide) (by decide) (by decide)).trans c10, cwq⟩, fun t ht => ⟨(cW t ht).1.keep (fun a a1 a2 => f13 a (by omega) (by omega) (by omega)), (cW t ht).2.imp (fun Q hQ => (f13 _ (by omega) (by omega) (by omega)).trans hQ)⟩, ⟨⟨_, hb3⟩, Q0, (f3 64 (by decide) (by decide) (by decide)).trans hq2⟩, cT.far (fun a a1 a2 => f13 a (by omega) (by omega) (by omega))⟩
    have fk3 : FrK H H3 := fk1.trans (fun a ha => f13 a (by omega) (by omega) (by omega))
    have hch3 : ChB H H3 B P 1 0 cp cb tb 0 g rl wss t ws := ⟨hc3, hb3, fk3⟩
    obtain ⟨D3, S3, K3, E3, hb3A, hb3L, hb340, hb341⟩ := id hb3
    have hb3k := hb3L.ok hb340 hb341
    have h03 := hc3.1
    have h13 := hc3.2.1
    have h23 := hc3.2.2.1
    have hT3 : TreeAt H3 t.1 t.2.1 t.2.2.1 t.2.2.2.1 t.2.2.2.2.1 t.2.2.2.2.2 := hc3.2.2.2.2.2.2.2.2.2
    refine RQ.blk 2 (pc' := 241) (lv' := [(8, .int (nI (t.2.2.1 r))), (7, .int (nI (t.1 r))), (6, .int (-1)), (5, .int (nI r)), (4, .int (nI (l - k))), (0, .ref 1), (1, .int (nI v)), (2, .int (nI u)), (3, .int (nI k))]) (st' := [.ref 1, .ref 1]) (H' := _) (kc' := 0) (ks' := 0) rfl ?_
    refine RQ.get (ci := 11) rfl h03 rfl rfl ?_
    refine RQ.blk 1 (pc' := 245) (lv' := [(8, .int (nI (t.2.2.1 r))), (7, .int (nI (t.1 r))), (6, .int (-1)), (5, .int (nI r)), (4, .int (nI (l - k))), (0, .ref 1), (1, .int (nI v)), (2, .int (nI u)), (3, .int (nI k))]) (st' := [.int (-1), .ref 60, .ref 1]) (H' := _) (kc' := 0) (ks' := 0) rfl ?_
    obtain ⟨kf3, kl3, mo3, pl3, le3, al3, od3, sp3, sz3, ss3, ac3, hA3, hVW3, hvs3⟩ := (hV.far (fun a a1 a2 => fk3 a (by omega)) : VersIs H3 N vs)
    refine RQ.call (v := none) (st' := []) rfl rfl rfl rfl rfl rfl (args_v [.int (-1), .ref 60] [] rfl rfl (Nat.le_of_ble_eq_true rfl) rfl h03 (Nat.le_of_ble_eq_true rfl)) (rc_reqRoom h03 hA3 hVW3 hvs3 hb3A hb3k hb3L (hs.far2 (fun a a1 a2 => fk3 a (by omega))) (fun t ht => Nat.lt_trans (hsm t ht) (by decide)) (fun i hi => by obtain ⟨e, he⟩ := lt_get hi; rw [(hb3L i e he).2.1]; exact (hkl e (List.mem_of_getElem? he))) h1W hpr (by omega) hB hle) ?_
    refine RQ.blk 2 (pc' := 250) (lv' := [(8, .int (nI (t.2.2.1 r))), (7, .int (nI (t.1 r))), (6, .int (-1)), (5, .int (nI r)), (4, .int (nI (l - k))), (0, .ref 1), (1, .int (nI v)), (2, .int (nI u)), (3, .int (nI k))]) (st' := [.ref 1, .ref 1]) (H' := _) (kc' := 0) (ks' := 0) rfl ?_
    refine RQ.get (ci := 11) rfl h03 rfl rfl ?_
    refine RQ.get (ci := 0) rfl hb3A.1 rfl rfl ?_
    refine RQ.blk 2 (pc' := 258) (lv' := [(8, .int (nI (t.2.2.1 r))), (7, .int (nI (t.1 r))), (6, .int (-1)), (5, .int (nI r)), (4, .int (nI (l - k))), (0, .ref 1), (1, .int (nI v)), (2, .int (nI u)), (3, .int (nI k))]) (st' := [.int (nI ws.length + 1), .ref 1]) (H' := _) (kc' := 0) (ks' := 0) rfl ?_
    rw [show (nI ws.length + 1 : Int32) = nI (ws.length + 1) from nI_add ws.length 1]
    obtain ⟨cf, tf, pq, bb, hC3⟩ := hC0 H3 hch3
    refine RQ.call (v := none) (st' := []) rfl rfl rfl rfl rfl rfl (args_v [.int (nI (ws.length + 1))] [] rfl rfl (Nat.le_of_ble_eq_true rfl) rfl h03 (Nat.le_of_ble_eq_true rfl)) (rc_armCutM (n := ws.length + 1) h03 hC3 (by omega) (by omega) hcp) ?_
    refine RQ.blk 2 (pc' := 263) (lv' := [(8, .int (nI (t.2.2.1 r))), (7, .int (nI (t.1 r))), (6, .int (-1)), (5, .int (nI r)), (4, .int (nI (l - k))), (0, .ref 1), (1, .int (nI v)), (2, .int (nI u)), (3, .int (nI k))]) (st' := [.ref 1, .ref 1]) (H' := _) (kc' := 0) (ks' := 0) rfl ?_
    have hRM3 := hRM H3 hch3
    generalize hHA : (H3.set 71 (kO 1 [.ref 73, .ref 74, .int (lI (some (cp % (ws.length + 1)))), .int (nI cb), .int (nI 0)])) = HA at hRM3 ⊢
    have g0 : HA[0]? = some (kO 11 (fvs (nI B) (nI P) 1 1 0 (nI cp) (nI cb))) := by rw [← hHA]; exact (set_far (by decide)).trans h03
    refine RQ.callB (st' := [.ref 1]) rfl rfl rfl rfl rfl rfl (args_v [] [.ref 1] rfl rfl (Nat.le_of_ble_eq_true rfl) rfl g0 (Nat.le_of_ble_eq_true rfl)) hRM3 (fun H4 hH4 => ?_) (fun H4 hH4 => ?_)
    · have g1 := hf1 H4 hH4
      refine RQ.brF rfl rfl rfl (by decide) ?_
      refine RQ.blk 2 (pc' := 271) (lv' := [(8, .int (nI (t.2.2.1 r))), (7, .int (nI (t.1 r))), (6, .int (-1)), (5, .int (nI r)), (4, .int (nI (l - k))), (0, .ref 1), (1, .int (nI v)), (2, .int (nI u)), (3, .int (nI k))]) (st' := [.ref 1, .ref 1, .ref 1]) (H' := _) (kc' := 0) (ks' := 0) rfl ?_
      refine RQ.get (ci := 11) rfl g1 rfl rfl ?_
      refine RQ.callB (st' := [.ref 1]) rfl rfl rfl rfl rfl rfl (args_v [.ref 60] [.ref 1] rfl rfl (Nat.le_of_ble_eq_true rfl) rfl g1 (Nat.le_of_ble_eq_true rfl)) (hST H4 hH4) (fun H5 hH5 => ?_) (fun H5 hH5 => ?_)
      · exact hH5.elim
      · have g2 := hfb H5 hH5
        refine RQ.brT rfl rfl rfl (by decide) ?_
        refine RQ.blk 1 (pc' := 285) (lv' := [(8, .int (nI (t.2.2.1 r))), (7, .int (nI (t.1 r))), (6, .int (-1)), (5, .int (nI r)), (4, .int (nI (l - k))), (0, .ref 1), (1, .int (nI v)), (2, .int (nI u)), (3, .int (nI k))]) (st' := [.int 0, .ref 1]) (H' := _) (kc' := 0 + 1) (ks' := 0 + 6) rfl ?_
        obtain ⟨HX, hxX, hpX⟩ := hSB H5 hH5
        exact RQ.callP (st' := []) rfl rfl rfl rfl rfl rfl (args_v [.int 0] [] rfl rfl (Nat.le_of_ble_eq_true rfl) rfl g2 (Nat.le_of_ble_eq_true rfl)) hxX rfl ⟨_, 2, by decide, rfl, hpX⟩
    · have g2 := hfb H4 hH4
      refine RQ.brT rfl rfl rfl (by decide) ?_
      refine RQ.blk 1 (pc' := 285) (lv' := [(8, .int (nI (t.2.2.1 r))), (7, .int (nI (t.1 r))), (6, .int (-1)), (5, .int (nI r)), (4, .int (nI (l - k))), (0, .ref 1), (1, .int (nI v)), (2, .int (nI u)), (3, .int (nI k))]) (st' := [.int 0, .ref 1]) (H' := _) (kc' := 0 + 1) (ks' := 0 + 6) rfl ?_
      obtain ⟨HX, hxX, hpX⟩ := hSB H4 hH4
      exact RQ.callP (st' := []) rfl rfl rfl rfl rfl rfl (args_v [.int 0] [] rfl rfl (Nat.le_of_ble_eq_true rfl) rfl g2 (Nat.le_of_ble_eq_true rfl)) hxX rfl ⟨_, 2, by decide, rfl, hpX⟩
set_option maxRecDepth 20000 in
theorem rx_rename1_full {sc : Nat × (Nat → Int32)} {d : Nat} {H : aH} {B P : Nat} {cw cl : Int32} {cp cb : Nat} {tb : Nat → Int8} {l : Nat} {g : Nat → Int8} {rl : Nat} {wss : Nat → List aE} {t : aTr} {v u k r q : Nat} {ws : List aE} {N : Nat} {op : Nat → Bool} {sm : Nat → Nat} {vs : List aV} (h : ClsA H B P 1 cw cl cp cb tb l g rl wss t) (hk : TreeOk t.1 t.2.1 t.2.2.1 t.2.2.2.1) (hv : v ≤ 200) (hu : u ≤ 200) (hk1 : 1 ≤ k) (hk2 : k ≤ 30) (hk3 : k + 1 ≤ l) (hk4 : l ≤ k + 30) (hnm : ∀ j, j < k → ¬ btB tb l (0 + j) = 47) (hnm2 : ∀ j, j < l - k → ¬ btB tb l (k + j) = 47) (hkd : t.1 v = 2) (hkd2 : t.1 u = 2) (hc1x : fstF (inN t.1 t.2.1 t.2.2.2.1 t.2.2.2.2.1 v (sl tb 0 k)) 1 200 = some r) (hc2x : fstF (inN t.1 t.2.1 t.2.2.2.1 t.2.2.2.2.1 u (sl tb k (l - k))) 1 200 = some q) (hqr : ¬ q = r) (hd : ¬ t.1 r = 2) (hd2 : ¬ t.1 q = 2) (hws : [([1, r], some ([t.1 r, u] ++ (beB 2 (t.2.2.1 r) ++ sl tb k (l - k))))] ++ [([1, q], none)] ++ goneW vs q 32 = ws) (h1W : OneW ws) (hkl : ∀ e ∈ ws, 1 ≤ e.1.length) (hs : SightAt H op sm) (hsm : ∀ t, t < 8 → sm t < 2 ^ 30) (hV : VersIs H N vs) (hpr : ∀ v ∈ vs, v.2.1 ≤ P) (hP : P + 1 < 2 ^ 30) (hB : B ≤ 128) (hle : B * 256 < sumN op sm (-1) (P + 1) (kmV (inclV (P + 1) (fun _ => 0) 0 ws vs)) (inclV (P + 1) (fun _ => 0) 0 ws vs)) (hl31 : sumN op sm (-1) (P + 1) (kmV (inclV (P + 1) (fun _ => 0) 0 ws vs)) (inclV (P + 1) (fun _ => 0) 0 ws vs) < 2 ^ 31) : RX sc (d + 8) mr_233 [.ref 1, .int (nI v), .int (nI u), .int (nI k)] H 2 (fun H' => ClsA H' B P 1 cw cl cp cb tb 0 g rl wss t ∧ FrK H H') := by
  obtain ⟨h0, h1, h2, h3, h4, ⟨q5, p6, h5, h6⟩, ⟨wq, h10, hwq⟩, hW, hCh, hT⟩ := id h
  refine RX.of ?_
  refine RQ.blk 2 (pc' := 2) (lv' := [(0, .ref 1), (1, .int (nI v)), (2, .int (nI u)), (3, .int (nI k))]) (st' := [.int (nI v), .ref 1]) (H' := _) (kc' := 0) (ks' := 0) rfl ?_
  refine RQ.call (v := none) (st' := []) rfl rfl rfl rfl rfl rfl (args_v [.int (nI v)] [] rfl rfl (Nat.le_of_ble_eq_true rfl) rfl h0 (Nat.le_of_ble_eq_true rfl)) (rc_reqNum h0 hv) ?_
  refine RQ.blk 2 (pc' := 7) (lv' := [(0, .ref 1), (1, .int (nI v)), (2, .int (nI u)), (3, .int (nI k))]) (st' := [.int (nI u), .ref 1]) (H' := _) (kc' := 0) (ks' := 0) rfl ?_
  refine RQ.call (v := none) (st' := []) rfl rfl rfl rfl rfl rfl (args_v [.int (nI u)] [] rfl rfl (Nat.le_of_ble_eq_true rfl) rfl h0 (Nat.le_of_ble_eq_true rfl)) (rc_reqNum h0 hu) ?_
  refine RQ.blk 5 (pc' := 16) (lv' := [(0, .ref 1), (1, .int (nI v)), (2, .int (nI u)), (3, .int (nI k))]) (st' := [.ref 1, .int 30, .int 1, .int (nI k), .ref 1]) (H' := _) (kc' := 0) (ks' := 0) rfl ?_
  refine RQ.get (ci := 11) rfl h0 rfl rfl ?_
  refine RQ.get (ci := 5) rfl h1 rfl rfl ?_
  refine RQ.blk 1 (pc' := 25) (lv' := [(0, .ref 1), (1, .int (nI v)), (2, .int (nI u)), (3, .int (nI k))]) (st' := [.int (if nI l < 30 then nI l else 30), .int 1, .int (nI k), .ref 1]) (H' := _) (kc' := 0) (ks' := 0) rfl ?_
  rw [show (if nI l < 30 then nI l else 30 : Int32) = nI (min 30 l) from minI (a := 30) (b := l) (by omega) (by omega)]
  refine RQ.call (v := none) (st' := []) rfl rfl rfl rfl rfl rfl (args_v [.int (nI (min 30 l)), .int 1, .int (nI k)] [] rfl rfl (Nat.le_of_ble_eq_true rfl) rfl h0 (Nat.le_of_ble_eq_true rfl)) (rc_range (fun e => absurd e (nI_nlt hk1 (by omega))) (rg_hi (n := min 30 l) (by omega) (by omega))) ?_
  refine RQ.blk 3 (pc' := 31) (lv' := [(0, .ref 1), (1, .int (nI v)), (2, .int (nI u)), (3, .int (nI k))]) (st' := [.int (nI k), .int 0, .ref 1]) (H' := _) (kc' := 0) (ks' := 0) rfl ?_
  refine RQ.call (v := none) (st' := []) rfl rfl rfl rfl rfl rfl (args_v [.int (nI k), .int 0] [] rfl rfl (Nat.le_of_ble_eq_true rfl) rfl h0 (Nat.le_of_ble_eq_true rfl)) (rc_requireName1 (i := 0) h0 ⟨h1, h2, by decide, by decide⟩ (by omega) (by decide) hk1 hk2 hnm) ?_
  refine RQ.blk 3 (pc' := 37) (lv' := [(0, .ref 1), (1, .int (nI v)), (2, .int (nI u)), (3, .int (nI k))]) (st' := [.ref 1, .int (nI k), .ref 1]) (H' := _) (kc' := 0) (ks' := 0) rfl ?_
  refine RQ.get (ci := 11) rfl h0 rfl rfl ?_
  refine RQ.get (ci := 5) rfl h1 rfl rfl ?_
  refine RQ.blk 2 (pc' := 45) (lv' := [(0, .ref 1), (1, .int (nI v)), (2, .int (nI u)), (3, .int (nI k))]) (st' := [.int (nI l - nI k), .int (nI k), .ref 1]) (H' := _) (kc' := 0) (ks' := 0) rfl ?_
  rw [show (nI l - nI k : Int32) = nI (l - k) from pk_sub (a := l) (b := k) (by omega)]
  refine RQ.call (v := none) (st' := []) rfl rfl rfl rfl rfl rfl (args_v [.int (nI (l - k)), .int (nI k)] [] rfl rfl (Nat.le_of_ble_eq_true rfl) rfl h0 (Nat.le_of_ble_eq_true rfl)) (rc_requireName1 (i := k) (n := l - k) h0 ⟨h1, h2, by decide, by decide⟩ (by omega) (by omega) (by omega) (by omega) hnm2) ?_
  refine RQ.blk 1 (pc' := 49) (lv' := [(0, .ref 1), (1, .int (nI v)), (2, .int (nI u)), (3, .int (nI k))]) (st' := [.ref 1]) (H' := _) (kc' := 0) (ks' := 0) rfl ?_
  refine RQ.call (v := none) (st' := []) rfl rfl rfl rfl rfl rfl (args_v [] [] rfl rfl (Nat.le_of_ble_eq_true rfl) rfl h0 (Nat.le_of_ble_eq_true rfl)) (rc_up h0 rfl) ?_
  refine RQ.blk 1 (pc' := 53) (lv' := [(0, .ref 1), (1, .int (nI v)), (2, .int (nI u)), (3, .int (nI k))]) (st' := [.ref 1]) (H' := _) (kc' := 0) (ks' := 0) rfl ?_
  refine RQ.call (v := some (.int (nI l))) (st' := []) rfl rfl rfl rfl rfl rfl (args_v [] [] rfl rfl (Nat.le_of_ble_eq_true rfl) rfl h0 (Nat.le_of_ble_eq_true rfl)) (rc_takeTape h0 h1) ?_
  have far1 : ∀ a, a ≠ 1 → (H.set 1 (kO 5 [.ref 3, .int (nI 0)]))[a]? = H[a]? := fun a ha => set_far ha
  have h11 : (H.set 1 (kO 5 [.ref 3, .int (nI 0)]))[1]? = some (kO 5 [.ref 3, .int (nI 0)]) := get_set h1
  refine RQ.blk 2 (pc' := 58) (lv' := [(0, .ref 1), (1, .int (nI v)), (2, .int (nI u)), (3, .int (nI k))]) (st' := [.int (nI l - nI k)]) (H' := _) (kc' := 0) (ks' := 0) rfl ?_
  rw [show (nI l - nI k : Int32) = nI (l - k) from pk_sub (a := l) (b := k) (by omega)]
  refine RQ.blk 1 (pc' := 60) (lv' := [(4, .int (nI (l - k))), (0, .ref 1), (1, .int (nI v)), (2, .int (nI u)), (3, .int (nI k))]) (st' := []) (H' := _) (kc' := 0) (ks' := 0) rfl ?_
  show RQ _ _ _ 60 [(4, .int (nI (l - k))), (0, .ref 1), (1, .int (nI v)), (2, .int (nI u)), (3, .int (nI k))] [] (H.set 1 (kO 5 [.ref 3, .int (nI 0)])) 0 0 _
  generalize (H.set 1 (kO 5 [.ref 3, .int (nI 0)])) = H1 at far1 h11 ⊢
  have h01 := (far1 0 (by decide)).trans h0
  have h21 := (far1 2 (by decide)).trans h2
  have hT1 : TreeAt H1 t.1 t.2.1 t.2.2.1 t.2.2.2.1 t.2.2.2.2.1 t.2.2.2.2.2 := hT.far (fun a a1 a2 => far1 a (by omega))
  have hc1 : ClsA H1 B P 1 cw cl cp cb tb 0 g rl wss t := h.small h01 h11 h21 ((far1 3 (by decide)).trans h3) ((far1 4 (by decide)).trans h4) ⟨q5, p6, (far1 5 (by decide)).trans h5, (far1 6 (by decide)).trans h6⟩ (fun a a1 a2 => far1 a (by omega))
  have fk1 : FrK H H1 := fun a ha => far1 a (by omega)
  refine RQ.blk 2 (pc' := 62) (lv' := [(4, .int (nI (l - k))), (0, .ref 1), (1, .int (nI v)), (2, .int (nI u)), (3, .int (nI k))]) (st' := [.int (nI v), .ref 1]) (H' := _) (kc' := 0) (ks' := 0) rfl ?_
  refine RQ.call (v := none) (st' := []) rfl rfl rfl rfl rfl rfl (args_v [.int (nI v)] [] rfl rfl (Nat.le_of_ble_eq_true rfl) rfl h01 (Nat.le_of_ble_eq_true rfl)) (rc_reqDir h01 rfl hT1.1 rfl hT1.2.1 hv (nI_is2 hkd)) ?_
  refine RQ.blk 2 (pc' := 67) (lv' := [(4, .int (nI (l - k))), (0, .ref 1), (1, .int (nI v)), (2, .int (nI u)), (3, .int (nI k))]) (st' := [.int (nI u), .ref 1]) (H' := _) (kc' := 0) (ks' := 0) rfl ?_
  refine RQ.call (v := none) (st' := []) rfl rfl rfl rfl rfl rfl (args_v [.int (nI u)] [] rfl rfl (Nat.le_of_ble_eq_true rfl) rfl h01 (Nat.le_of_ble_eq_true rfl)) (rc_reqDir h01 rfl hT1.1 rfl hT1.2.1 hu (nI_is2 hkd2)) ?_
  refine RQ.blk 1 (pc' := 71) (lv' := [(4, .int (nI (l - k))), (0, .ref 1), (1, .int (nI v)), (2, .int (nI u)), (3, .int (nI k))]) (st' := [.ref 1]) (H' := _) (kc' := 0) (ks' := 0) rfl ?_
  refine RQ.get (ci := 11) rfl h01 rfl rfl ?_
  refine RQ.blk 2 (pc' := 76) (lv' := [(4, .int (nI (l - k))), (0, .ref 1), (1, .int (nI v)), (2, .int (nI u)), (3, .int (nI k))]) (st' := [.ref 1, .int (nI v), .ref 66]) (H' := _) (kc' := 0) (ks' := 0) rfl ?_
  refine RQ.get (ci := 11) rfl h01 rfl rfl ?_
  refine RQ.get (ci := 5) rfl h11 rfl rfl ?_
  refine RQ.blk 2 (pc' := 84) (lv' := [(4, .int (nI (l - k))), (0, .ref 1), (1, .int (nI v)), (2, .int (nI u)), (3, .int (nI k))]) (st' := [.int (nI k), .int 0, .ref 3, .int (nI v), .ref 66]) (H' := _) (kc' := 0) (ks' := 0) rfl ?_
  refine RQ.call (v := some (.int (lI (fstF (inN t.1 t.2.1 t.2.2.2.1 t.2.2.2.2.1 v (sl tb 0 k)) 1 200)))) (st' := []) rfl rfl rfl rfl rfl rfl (args_v [.int (nI k), .int 0, .ref 3, .int (nI v)] [] rfl rfl (Nat.le_of_ble_eq_true rfl) rfl hT1.1 (Nat.le_of_ble_eq_true rfl)) (rc_childNamed (a := 2) (na := 2000) (j := 0) (m := k) hT1 hk h21 (by decide) (by omega) hv) ?_
  rw [hc1x]
  rw [show lI (some r) = nI r from rfl]
  have hr := fstF_lt hc1x
  have hkr := hk r (by omega)
  refine RQ.blk 3 (pc' := 92) (lv' := [(5, .int (nI r)), (4, .int (nI (l - k))), (0, .ref 1), (1, .int (nI v)), (2, .int (nI u)), (3, .int (nI k))]) (st' := [.int (nI r), .ref 1]) (H' := _) (kc' := 0) (ks' := 0) rfl ?_
  refine RQ.call (v := none) (st' := []) rfl rfl rfl rfl rfl rfl (args_v [.int (nI r)] [] rfl rfl (Nat.le_of_ble_eq_true rfl) rfl h01 (Nat.le_of_ble_eq_true rfl)) (rc_there (by omega)) ?_
  refine RQ.blk 1 (pc' := 96) (lv' := [(5, .int (nI r)), (4, .int (nI (l - k))), (0, .ref 1), (1, .int (nI v)), (2, .int (nI u)), (3, .int (nI k))]) (st' := [.ref 1]) (H' := _) (kc' := 0) (ks' := 0) rfl ?_
  refine RQ.get (ci := 11) rfl h01 rfl rfl ?_
  refine RQ.blk 2 (pc' := 101) (lv' := [(5, .int (nI r)), (4, .int (nI (l - k))), (0, .ref 1), (1, .int (nI v)), (2, .int (nI u)), (3, .int (nI k))]) (st' := [.ref 1, .int (nI u), .ref 66]) (H' := _) (kc' := 0) (ks' := 0) rfl ?_
  refine RQ.get (ci := 11) rfl h01 rfl rfl ?_
  refine RQ.get (ci := 5) rfl h11 rfl rfl ?_
  refine RQ.blk 2 (pc' := 110) (lv' := [(5, .int (nI r)), (4, .int (nI (l - k))), (0, .ref 1), (1, .int (nI v)), (2, .int (nI u)), (3, .int (nI k))]) (st' := [.int (nI (l - k)), .int (nI k), .ref 3, .int (nI u), .ref 66]) (H' := _) (kc' := 0) (ks' := 0) rfl ?_
  refine RQ.call (v := some (.int (lI (fstF (inN t.1 t.2.1 t.2.2.2.1 t.2.2.2.2.1 u (sl tb k (l - k))) 1 200)))) (st' := []) rfl rfl rfl rfl rfl rfl (args_v [.int (nI (l - k)), .int (nI k), .ref 3, .int (nI u)] [] rfl rfl (Nat.le_of_ble_eq_true rfl) rfl hT1.1 (Nat.le_of_ble_eq_true rfl)) (rc_childNamed (a := 2) (na := 2000) (j := k) (m := l - k) hT1 hk h21 (by decide) (by omega) hu) ?_
  rw [hc2x]
  rw [show lI (some q) = nI q from rfl]
  have hq := fstF_lt hc2x
  have hkq := hk q (by omega)
  refine RQ.blk 3 (pc' := 119) (lv' := [(6, .int (nI q)), (5, .int (nI r)), (4, .int (nI (l - k))), (0, .ref 1), (1, .int (nI v)), (2, .int (nI u)), (3, .int (nI k))]) (st' := [.int (nI r), .int (nI q)]) (H' := _) (kc' := 0) (ks' := 0) rfl ?_
  refine RQ.brT rfl rfl rfl (cT_ne q r) ?_
  refine RQ.blk 1 (pc' := 126) (lv' := [(6, .int (nI q)), (5, .int (nI r)), (4, .int (nI (l - k))), (0, .ref 1), (1, .int (nI v)), (2, .int (nI u)), (3, .int (nI k))]) (st' := [.ref 1]) (H' := _) (kc' := 0) (ks' := 0) rfl ?_
  refine RQ.get (ci := 11) rfl h01 rfl rfl ?_
  refine RQ.blk 1 (pc' := 131) (lv' := [(6, .int (nI q)), (5, .int (nI r)), (4, .int (nI (l - k))), (0, .ref 1), (1, .int (nI v)), (2, .int (nI u)), (3, .int (nI k))]) (st' := [.int (nI r), .ref 66]) (H' := _) (kc' := 0) (ks' := 0) rfl ?_
  refine RQ.call (v := some (.int 0)) (st' := []) rfl rfl rfl rfl rfl rfl (args_v [.int (nI r)] [] rfl rfl (Nat.le_of_ble_eq_true rfl) rfl hT1.1 (Nat.le_of_ble_eq_true rfl)) (rc_isDirF hT1.1 rfl hT1.2.1 (by omega) (nI_ne2 hkr.1 hd)) ?_
  refine RQ.brT rfl rfl rfl (by decide) ?_
  refine RQ.blk 1 (pc' := 156) (lv' := [(6, .int (nI q)), (5, .int (nI r)), (4, .int (nI (l - k))), (0, .ref 1), (1, .int (nI v)), (2, .int (nI u)), (3, .int (nI k))]) (st' := [.ref 1]) (H' := _) (kc' := 0) (ks' := 0) rfl ?_
  refine RQ.get (ci := 11) rfl h01 rfl rfl ?_
  refine RQ.blk 1 (pc' := 161) (lv' := [(6, .int (nI q)), (5, .int (nI r)), (4, .int (nI (l - k))), (0, .ref 1), (1, .int (nI v)), (2, .int (nI u)), (3, .int (nI k))]) (st' := [.int (nI q), .ref 66]) (H' := _) (kc' := 0) (ks' := 0) rfl ?_
  refine RQ.call (v := some (.int 0)) (st' := []) rfl rfl rfl rfl rfl rfl (args_v [.int (nI q)] [] rfl rfl (Nat.le_of_ble_eq_true rfl) rfl hT1.1 (Nat.le_of_ble_eq_true rfl)) (rc_isDirF hT1.1 rfl hT1.2.1 (by omega) (nI_ne2 hkq.1 hd2)) ?_
  refine RQ.brT rfl rfl rfl (by decide) ?_
  refine RQ.blk 1 (pc' := 179) (lv' := [(6, .int (nI q)), (5, .int (nI r)), (4, .int (nI (l - k))), (0, .ref 1), (1, .int (nI v)), (2, .int (nI u)), (3, .int (nI k))]) (st' := [.ref 1]) (H' := _) (kc' := 0) (ks' := 0) rfl ?_
  refine RQ.get (ci := 11) rfl h01 rfl rfl ?_
  refine RQ.blk 1 (pc' := 184) (lv' := [(6, .int (nI q)), (5, .int (nI r)), (4, .int (nI (l - k))), (0, .ref 1), (1, .int (nI v)), (2, .int (nI u)), (3, .int (nI k))]) (st' := [.int (nI r), .ref 66]) (H' := _) (kc' := 0) (ks' := 0) rfl ?_
  refine RQ.call (v := some (.int (nI (t.1 r)))) (st' := []) rfl rfl rfl rfl rfl rfl (args_v [.int (nI r)] [] rfl rfl (Nat.le_of_ble_eq_true rfl) rfl hT1.1 (Nat.le_of_ble_eq_true rfl)) (rc_kindOf hT1.1 rfl hT1.2.1 (by omega)) ?_
  refine RQ.blk 2 (pc' := 190) (lv' := [(7, .int (nI (t.1 r))), (6, .int (nI q)), (5, .int (nI r)), (4, .int (nI (l - k))), (0, .ref 1), (1, .int (nI v)), (2, .int (nI u)), (3, .int (nI k))]) (st' := [.ref 1]) (H' := _) (kc' := 0) (ks' := 0) rfl ?_
  refine RQ.get (ci := 11) rfl h01 rfl rfl ?_
  refine RQ.blk 1 (pc' := 195) (lv' := [(7, .int (nI (t.1 r))), (6, .int (nI q)), (5, .int (nI r)), (4, .int (nI (l - k))), (0, .ref 1), (1, .int (nI v)), (2, .int (nI u)), (3, .int (nI k))]) (st' := [.int (nI r), .ref 66]) (H' := _) (kc' := 0) (ks' := 0) rfl ?_
  refine RQ.call (v := some (.int (nI (t.2.2.1 r)))) (st' := []) rfl rfl rfl rfl rfl rfl (args_v [.int (nI r)] [] rfl rfl (Nat.le_of_ble_eq_true rfl) rfl hT1.1 (Nat.le_of_ble_eq_true rfl)) (rc_sizeOf hT1 hk (by omega)) ?_
  refine RQ.blk 1 (pc' := 200) (lv' := [(8, .int (nI (t.2.2.1 r))), (7, .int (nI (t.1 r))), (6, .int (nI q)), (5, .int (nI r)), (4, .int (nI (l - k))), (0, .ref 1), (1, .int (nI v)), (2, .int (nI u)), (3, .int (nI k))]) (st' := []) (H' := _) (kc' := 0) (ks' := 0) rfl ?_
  obtain ⟨⟨ws0, hb0⟩, Q0, hq0⟩ := hc1.2.2.2.2.2.2.2.2.1
  obtain ⟨D0, S0, K0, E0, hb0A, -⟩ := id hb0
  refine RQ.blk 1 (pc' := 201) (lv' := [(8, .int (nI (t.2.2.1 r))), (7, .int (nI (t.1 r))), (6, .int (nI q)), (5, .int (nI r)), (4, .int (nI (l - k))), (0, .ref 1), (1, .int (nI v)), (2, .int (nI u)), (3, .int (nI k))]) (st' := [.ref 1]) (H' := _) (kc' := 0) (ks' := 0) rfl ?_
  refine RQ.get (ci := 11) rfl h01 rfl rfl ?_
  refine RQ.callN (st' := []) rfl rfl rfl rfl rfl rfl (args_v [] [] rfl rfl (Nat.le_of_ble_eq_true rfl) rfl hb0A.1 (Nat.le_of_ble_eq_true rfl)) (rn_bclearI hb0) (fun H2 hx2 => ?_)
  obtain ⟨hb2, f2⟩ := hx2
  have h02 := (f2 0 (by decide)).trans h01
  have h12 := (f2 1 (by decide)).trans h11
  have h22 := (f2 2 (by decide)).trans h21
  have hT2 : TreeAt H2 t.1 t.2.1 t.2.2.1 t.2.2.2.1 t.2.2.2.2.1 t.2.2.2.2.2 := hT1.far (fun a a1 a2 => f2 a (by omega))
  have hq2 := (f2 64 (by decide)).trans hq0
  have e52 : ∃ q : Nat, H2[5]? = some (kO 5 [.ref 7, .int (nI q)]) := ⟨q5, (f2 5 (by decide)).trans ((far1 5 (by decide)).trans h5)⟩
  have e62 : ∃ g, H2[6]? = some (kB 41 g) := ⟨p6, (f2 6 (by decide)).trans ((far1 6 (by decide)).trans h6)⟩
  refine RQ.blk 6 (pc' := 216) (lv' := [(8, .int (nI (t.2.2.1 r))), (7, .int (nI (t.1 r))), (6, .int (nI q)), (5, .int (nI r)), (4, .int (nI (l - k))), (0, .ref 1), (1, .int (nI v)), (2, .int (nI u)), (3, .int (nI k))]) (st' := [.ref 1, .int (nI (t.2.2.1 r)), .int (nI u), .int (nI (t.1 r)), .int (nI r), .ref 1]) (H' := _) (kc' := 0) (ks' := 0) rfl ?_
  refine RQ.get (ci := 11) rfl h02 rfl rfl ?_
  refine RQ.get (ci := 5) rfl h12 rfl rfl ?_
  refine RQ.blk 2 (pc' := 225) (lv' := [(8, .int (nI (t.2.2.1 r))), (7, .int (nI (t.1 r))), (6, .int (nI q)), (5, .int (nI r)), (4, .int (nI (l - k))), (0, .ref 1), (1, .int (nI v)), (2, .int (nI u)), (3, .int (nI k))]) (st' := [.int (nI (l - k)), .int (nI k), .ref 3, .int (nI (t.2.2.1 r)), .int (nI u), .int (nI (t.1 r)), .int (nI r), .ref 1]) (H' := _) (kc' := 0) (ks' := 0) rfl ?_
  refine RQ.callN (st' := []) rfl rfl rfl rfl rfl rfl (args_v [.int (nI (l - k)), .int (nI k), .ref 3, .int (nI (t.2.2.1 r)), .int (nI u), .int (nI (t.1 r)), .int (nI r)] [] rfl rfl (Nat.le_of_ble_eq_true rfl) rfl h02 (Nat.le_of_ble_eq_true rfl)) (rn_chNode (v := r) (k := t.1 r) (dir := u) (s := t.2.2.1 r) (a := 2) (na := 2000) (i := k) (n := l - k) h02 e52 e62 hb2 h22 (by decide) (by decide) (by decide) (by decide) (by omega) (by omega) (by omega) (by omega) (by omega) (by omega) (by decide) (by show 0 + 6 + (l - k) ≤ 4100; omega)) (fun Hc hxc => ?_)
  obtain ⟨hbc, e5c, e6c, fc⟩ := hxc
  have hbc : BatchIs Hc 59 [([1, r], some ([t.1 r, u] ++ (beB 2 (t.2.2.1 r) ++ sl tb k (l - k))))] := hbc
  refine RQ.blk 1 (pc' := 230) (lv' := [(8, .int (nI (t.2.2.1 r))), (7, .int (nI (t.1 r))), (6, .int (nI q)), (5, .int (nI r)), (4, .int (nI (l - k))), (0, .ref 1), (1, .int (nI v)), (2, .int (nI u)), (3, .int (nI k))]) (st' := [.int (nI q)]) (H' := _) (kc' := 0) (ks' := 0) rfl ?_
  refine RQ.brF rfl rfl rfl (cF_lt q 0) ?_
  refine RQ.blk 2 (pc' := 236) (lv' := [(8, .int (nI (t.2.2.1 r))), (7, .int (nI (t.1 r))), (6, .int (nI q)), (5, .int (nI r)), (4, .int (nI (l - k))), (0, .ref 1), (1, .int (nI v)), (2, .int (nI u)), (3, .int (nI k))]) (st' := [.int (nI q), .ref 1]) (H' := _) (kc' := 0) (ks' := 0) rfl ?_
  have hno : eLen ([1, r], some ([t.1 r, u] ++ (beB 2 (t.2.2.1 r) ++ sl tb k (l - k)))) ≤ 36 := by
    show 2 + ([t.1 r, u] ++ (beB 2 (t.2.2.1 r) ++ sl tb k (l - k))).length ≤ 36
    rw [List.length_append, List.length_append, beB_len, sl_length]
    show 2 + (2 + (2 + (l - k))) ≤ 36
    omega
  refine RQ.callN (st' := []) rfl rfl rfl rfl rfl rfl (args_v [.int (nI q)] [] rfl rfl (Nat.le_of_ble_eq_true rfl) rfl ((fc 0 (by decide) (by decide) (by decide)).trans h02) (Nat.le_of_ble_eq_true rfl)) (rn_chGone (f := q) (vs := vs) ((fc 0 (by decide) (by decide) (by decide)).trans h02) e5c e6c hbc (hV.far (fun a a1 a2 => (fc a (by omega) (by omega) (by omega)).trans ((f2 a (by omega)).trans (far1 a (by omega))))) (by omega) (by show 1 + 33 ≤ 40; decide) (by rw [eOff_one]; omega)) (fun H3 hx3 => ?_)
  obtain ⟨hb3, e53, e63, f3x⟩ := hx3
  rw [hws] at hb3
  have f3 : ∀ a, a ≠ 5 → a ≠ 6 → ¬ (59 ≤ a ∧ a < 64) → H3[a]? = H2[a]? := fun a a1 a2 a3 => (f3x a a1 a2 a3).trans (fc a a1 a2 a3)
  have f13 : ∀ a, a ≠ 5 → a ≠ 6 → ¬ (59 ≤ a ∧ a < 64) → H3[a]? = H1[a]? := fun a a1 a2 a3 => (f3 a a1 a2 a3).trans (f2 a (by omega))
  have hc3 : ClsA H3 B P 1 cw cl cp cb tb 0 g rl wss t := by
    obtain ⟨qa, ea⟩ := e53
    obtain ⟨pa, eb⟩ := e63
    obtain ⟨c0, c1, c2, c3, c4, -, ⟨wq2, c10, cwq⟩, cW, -, cT⟩ := hc1
    exact ⟨(f13 0 (by decide) (by decide) (by decide)).trans c0, (f13 1 (by decide) (by decide) (by decide)).trans c1, (f13 2 (by decide) (by decide) (by decide)).trans c2, (f13 3 (by decide) (by decide) (by decide)).trans c3, (f13 4 (by decide) (by decide) (by decide)).trans c4, ⟨qa, pa, ea, eb⟩, ⟨wq2, (f13 10 (by decide) (by decide) (by decide)).trans c10, cwq⟩, fun t ht => ⟨(cW t ht).1.keep (fun a a1 a2 => f13 a (by omega) (by omega) (by omega)), (cW t ht).2.imp (fun Q hQ => (f13 _ (by omega) (by omega) (by omega)).trans hQ)⟩, ⟨⟨_, hb3⟩, Q0, (f3 64 (by decide) (by decide) (by decide)).trans hq2⟩, cT.far (fun a a1 a2 => f13 a (by omega) (by omega) (by omega))⟩
  have fk3 : FrK H H3 := fk1.trans (fun a ha => f13 a (by omega) (by omega) (by omega))
  have hch3 : ChB H H3 B P cw cl cp cb tb 0 g rl wss t ws := ⟨hc3, hb3, fk3⟩
  obtain ⟨D3, S3, K3, E3, hb3A, hb3L, hb340, hb341⟩ := id hb3
  have hb3k := hb3L.ok hb340 hb341
  have h03 := hc3.1
  have h13 := hc3.2.1
  have h23 := hc3.2.2.1
  have hT3 : TreeAt H3 t.1 t.2.1 t.2.2.1 t.2.2.2.1 t.2.2.2.2.1 t.2.2.2.2.2 := hc3.2.2.2.2.2.2.2.2.2
  refine RQ.blk 2 (pc' := 241) (lv' := [(8, .int (nI (t.2.2.1 r))), (7, .int (nI (t.1 r))), (6, .int (nI q)), (5, .int (nI r)), (4, .int (nI (l - k))), (0, .ref 1), (1, .int (nI v)), (2, .int (nI u)), (3, .int (nI k))]) (st' := [.ref 1, .ref 1]) (H' := _) (kc' := 0) (ks' := 0) rfl ?_
  refine RQ.get (ci := 11) rfl h03 rfl rfl ?_
  refine RQ.blk 1 (pc' := 245) (lv' := [(8, .int (nI (t.2.2.1 r))), (7, .int (nI (t.1 r))), (6, .int (nI q)), (5, .int (nI r)), (4, .int (nI (l - k))), (0, .ref 1), (1, .int (nI v)), (2, .int (nI u)), (3, .int (nI k))]) (st' := [.int (-1), .ref 60, .ref 1]) (H' := _) (kc' := 0) (ks' := 0) rfl ?_
  obtain ⟨kf3, kl3, mo3, pl3, le3, al3, od3, sp3, sz3, ss3, ac3, hA3, hVW3, hvs3⟩ := (hV.far (fun a a1 a2 => fk3 a (by omega)) : VersIs H3 N vs)
  exact RQ.callP (st' := []) rfl rfl rfl rfl rfl rfl (args_v [.int (-1), .ref 60] [] rfl rfl (Nat.le_of_ble_eq_true rfl) rfl h03 (Nat.le_of_ble_eq_true rfl)) (rc_reqRoomX h03 hA3 hVW3 hvs3 hb3A hb3k hb3L (hs.far2 (fun a a1 a2 => fk3 a (by omega))) (fun t ht => Nat.lt_trans (hsm t ht) (by decide)) (fun i hi => by obtain ⟨e, he⟩ := lt_get hi; rw [(hb3L i e he).2.1]; exact (hkl e (List.mem_of_getElem? he))) h1W hpr (by omega) hB hle hl31) rfl ⟨_, rfl, hc3, fk3⟩
set_option maxRecDepth 20000 in
theorem ri_rename1_ok {sc : Nat × (Nat → Int32)} {d : Nat} {H : aH} {B P : Nat} {cl : Int32} {cp cb : Nat} {tb : Nat → Int8} {l : Nat} {g : Nat → Int8} {rl : Nat} {wss : Nat → List aE} {t : aTr} {v u k r q : Nat} {ws : List aE} {N : Nat} {op : Nat → Bool} {sm : Nat → Nat} {vs : List aV} {ok7 : aH → Prop} {ok1 ok2 ok3 ok5 ok6 : aH → Prop} (h : ClsA H B P 1 0 cl cp cb tb l g rl wss t) (hk : TreeOk t.1 t.2.1 t.2.2.1 t.2.2.2.1) (hv : v ≤ 200) (hu : u ≤ 200) (hk1 : 1 ≤ k) (hk2 : k ≤ 30) (hk3 : k + 1 ≤ l) (hk4 : l ≤ k + 30) (hnm : ∀ j, j < k → ¬ btB tb l (0 + j) = 47) (hnm2 : ∀ j, j < l - k → ¬ btB tb l (k + j) = 47) (hkd : t.1 v = 2) (hkd2 : t.1 u = 2) (hc1x : fstF (inN t.1 t.2.1 t.2.2.2.1 t.2.2.2.2.1 v (sl tb 0 k)) 1 200 = some r) (hc2x : fstF (inN t.1 t.2.1 t.2.2.2.1 t.2.2.2.2.1 u (sl tb k (l - k))) 1 200 = some q) (hqr : ¬ q = r) (hd : ¬ t.1 r = 2) (hd2 : ¬ t.1 q = 2) (hws : [([1, r], some ([t.1 r, u] ++ (beB 2 (t.2.2.1 r) ++ sl tb k (l - k))))] ++ [([1, q], none)] ++ goneW vs q 32 = ws) (h1W : OneW ws) (hkl : ∀ e ∈ ws, 1 ≤ e.1.length) (hs : SightAt H op sm) (hsm : ∀ t, t < 8 → sm t < 2 ^ 30) (hV : VersIs H N vs) (hpr : ∀ v ∈ vs, v.2.1 ≤ P) (hP : P + 1 < 2 ^ 30) (hB : B ≤ 128) (hle : sumN op sm (-1) (P + 1) (kmV (inclV (P + 1) (fun _ => 0) 0 ws vs)) (inclV (P + 1) (fun _ => 0) 0 ws vs) ≤ B * 256) (hTV : ∀ H', ok7 H' → RN sc (d + 7) mr_191 [.ref 66, .int (nI r), .int (nI (t.1 r)), .int (nI u), .int (nI (t.2.2.1 r)), .ref 3, .int (nI k), .int (nI (l - k))] H' ok6) (hf7 : ∀ H', ok7 H' → H'[0]? = some (kO 11 (fvs (nI B) (nI (P + 1)) 1 0 cl (nI cp) (nI cb))) ∧ (∃ fs, H'[65]? = some (kO 9 fs)) ∧ ∃ lx : Nat, H'[1]? = some (kO 5 [.ref 3, .int (nI lx)])) (hRM : ∀ H', ChB H H' B P 0 cl cp cb tb 0 g rl wss t ws → RB sc (d + 7) mr_96 [.ref 1] H' ok1 (fun _ => False)) (hST : ∀ H', ok1 H' → RB sc (d + 7) mr_150 [.ref 1, .ref 60] H' ok2 (fun _ => False)) (hf1 : ∀ H', ok1 H' → H'[0]? = some (kO 11 (fvs (nI B) (nI P) 1 0 cl (nI cp) (nI cb)))) (hSE : ∀ H', ok2 H' → RN sc (d + 7) mr_153 [.ref 1, .int 1] H' ok3) (hIN : ∀ H', ok3 H' → RN sc (d + 7) mr_160 [.ref 1, .ref 60] H' ok5) (hTS : ∀ H', ok5 H' → RN sc (d + 7) mr_231 [.ref 66, .int (nI q)] H' ok7) (hf2 : ∀ H', ok2 H' → H'[0]? = some (kO 11 (fvs (nI B) (nI P) 1 0 cl (nI cp) (nI cb)))) (hf3 : ∀ H', ok3 H' → H'[0]? = some (kO 11 (fvs (nI B) (nI P) 1 0 cl (nI cp) (nI cb)))) (hf5 : ∀ H', ok5 H' → H'[0]? = some (kO 11 (fvs (nI B) (nI (P + 1)) 1 0 cl (nI cp) (nI cb))) ∧ (∃ fs, H'[65]? = some (kO 9 fs)) ∧ ∃ lx : Nat, H'[1]? = some (kO 5 [.ref 3, .int (nI lx)])) : RI sc (d + 8) mr_233 [.ref 1, .int (nI v), .int (nI u), .int (nI k)] H (fun x H' => x = nI r ∧ ok6 H') := by
  obtain ⟨h0, h1, h2, h3, h4, ⟨q5, p6, h5, h6⟩, ⟨wq, h10, hwq⟩, hW, hCh, hT⟩ := id h
  refine RI.of ?_
  refine RQ.blk 2 (pc' := 2) (lv' := [(0, .ref 1), (1, .int (nI v)), (2, .int (nI u)), (3, .int (nI k))]) (st' := [.int (nI v), .ref 1]) (H' := _) (kc' := 0) (ks' := 0) rfl ?_
  refine RQ.call (v := none) (st' := []) rfl rfl rfl rfl rfl rfl (args_v [.int (nI v)] [] rfl rfl (Nat.le_of_ble_eq_true rfl) rfl h0 (Nat.le_of_ble_eq_true rfl)) (rc_reqNum h0 hv) ?_
  refine RQ.blk 2 (pc' := 7) (lv' := [(0, .ref 1), (1, .int (nI v)), (2, .int (nI u)), (3, .int (nI k))]) (st' := [.int (nI u), .ref 1]) (H' := _) (kc' := 0) (ks' := 0) rfl ?_
  refine RQ.call (v := none) (st' := []) rfl rfl rfl rfl rfl rfl (args_v [.int (nI u)] [] rfl rfl (Nat.le_of_ble_eq_true rfl) rfl h0 (Nat.le_of_ble_eq_true rfl)) (rc_reqNum h0 hu) ?_
  refine RQ.blk 5 (pc' := 16) (lv' := [(0, .ref 1), (1, .int (nI v)), (2, .int (nI u)), (3, .int (nI k))]) (st' := [.ref 1, .int 30, .int 1, .int (nI k), .ref 1]) (H' := _) (kc' := 0) (ks' := 0) rfl ?_
  refine RQ.get (ci := 11) rfl h0 rfl rfl ?_
  refine RQ.get (ci := 5) rfl h1 rfl rfl ?_
  refine RQ.blk 1 (pc' := 25) (lv' := [(0, .ref 1), (1, .int (nI v)), (2, .int (nI u)), (3, .int (nI k))]) (st' := [.int (if nI l < 30 then nI l else 30), .int 1, .int (nI k), .ref 1]) (H' := _) (kc' := 0) (ks' := 0) rfl ?_
  rw [show (if nI l < 30 then nI l else 30 : Int32) = nI (min 30 l) from minI (a := 30) (b := l) (by omega) (by omega)]
  refine RQ.call (v := none) (st' := []) rfl rfl rfl rfl rfl rfl (args_v [.int (nI (min 30 l)), .int 1, .int (nI k)] [] rfl rfl (Nat.le_of_ble_eq_true rfl) rfl h0 (Nat.le_of_ble_eq_true rfl)) (rc_range (fun e => absurd e (nI_nlt hk1 (by omega))) (rg_hi (n := min 30 l) (by omega) (by omega))) ?_
  refine RQ.blk 3 (pc' := 31) (lv' := [(0, .ref 1), (1, .int (nI v)), (2, .int (nI u)), (3, .int (nI k))]) (st' := [.int (nI k), .int 0, .ref 1]) (H' := _) (kc' := 0) (ks' := 0) rfl ?_
  refine RQ.call (v := none) (st' := []) rfl rfl rfl rfl rfl rfl (args_v [.int (nI k), .int 0] [] rfl rfl (Nat.le_of_ble_eq_true rfl) rfl h0 (Nat.le_of_ble_eq_true rfl)) (rc_requireName1 (i := 0) h0 ⟨h1, h2, by decide, by decide⟩ (by omega) (by decide) hk1 hk2 hnm) ?_
  refine RQ.blk 3 (pc' := 37) (lv' := [(0, .ref 1), (1, .int (nI v)), (2, .int (nI u)), (3, .int (nI k))]) (st' := [.ref 1, .int (nI k), .ref 1]) (H' := _) (kc' := 0) (ks' := 0) rfl ?_
  refine RQ.get (ci := 11) rfl h0 rfl rfl ?_
  refine RQ.get (ci := 5) rfl h1 rfl rfl ?_
  refine RQ.blk 2 (pc' := 45) (lv' := [(0, .ref 1), (1, .int (nI v)), (2, .int (nI u)), (3, .int (nI k))]) (st' := [.int (nI l - nI k), .int (nI k), .ref 1]) (H' := _) (kc' := 0) (ks' := 0) rfl ?_
  rw [show (nI l - nI k : Int32) = nI (l - k) from pk_sub (a := l) (b := k) (by omega)]
  refine RQ.call (v := none) (st' := []) rfl rfl rfl rfl rfl rfl (args_v [.int (nI (l - k)), .int (nI k)] [] rfl rfl (Nat.le_of_ble_eq_true rfl) rfl h0 (Nat.le_of_ble_eq_true rfl)) (rc_requireName1 (i := k) (n := l - k) h0 ⟨h1, h2, by decide, by decide⟩ (by omega) (by omega) (by omega) (by omega) hnm2) ?_
  refine RQ.blk 1 (pc' := 49) (lv' := [(0, .ref 1), (1, .int (nI v)), (2, .int (nI u)), (3, .int (nI k))]) (st' := [.ref 1]) (H' := _) (kc' := 0) (ks' := 0) rfl ?_
  refine RQ.call (v := none) (st' := []) rfl rfl rfl rfl rfl rfl (args_v [] [] rfl rfl (Nat.le_of_ble_eq_true rfl) rfl h0 (Nat.le_of_ble_eq_true rfl)) (rc_up h0 rfl) ?_
  refine RQ.blk 1 (pc' := 53) (lv' := [(0, .ref 1), (1, .int (nI v)), (2, .int (nI u)), (3, .int (nI k))]) (st' := [.ref 1]) (H' := _) (kc' := 0) (ks' := 0) rfl ?_
  refine RQ.call (v := some (.int (nI l))) (st' := []) rfl rfl rfl rfl rfl rfl (args_v [] [] rfl rfl (Nat.le_of_ble_eq_true rfl) rfl h0 (Nat.le_of_ble_eq_true rfl)) (rc_takeTape h0 h1) ?_
  have far1 : ∀ a, a ≠ 1 → (H.set 1 (kO 5 [.ref 3, .int (nI 0)]))[a]? = H[a]? := fun a ha => set_far ha
  have h11 : (H.set 1 (kO 5 [.ref 3, .int (nI 0)]))[1]? = some (kO 5 [.ref 3, .int (nI 0)]) := get_set h1
  refine RQ.blk 2 (pc' := 58) (lv' := [(0, .ref 1), (1, .int (nI v)), (2, .int (nI u)), (3, .int (nI k))]) (st' := [.int (nI l - nI k)]) (H' := _) (kc' := 0) (ks' := 0) rfl ?_
  rw [show (nI l - nI k : Int32) = nI (l - k) from pk_sub (a := l) (b := k) (by omega)]
  refine RQ.blk 1 (pc' := 60) (lv' := [(4, .int (nI (l - k))), (0, .ref 1), (1, .int (nI v)), (2, .int (nI u)), (3, .int (nI k))]) (st' := []) (H' := _) (kc' := 0) (ks' := 0) rfl ?_
  show RQ _ _ _ 60 [(4, .int (nI (l - k))), (0, .ref 1), (1, .int (nI v)), (2, .int (nI u)), (3, .int (nI k))] [] (H.set 1 (kO 5 [.ref 3, .int (nI 0)])) 0 0 _
  generalize (H.set 1 (kO 5 [.ref 3, .int (nI 0)])) = H1 at far1 h11 ⊢
  have h01 := (far1 0 (by decide)).trans h0
  have h21 := (far1 2 (by decide)).trans h2
  have hT1 : TreeAt H1 t.1 t.2.1 t.2.2.1 t.2.2.2.1 t.2.2.2.2.1 t.2.2.2.2.2 := hT.far (fun a a1 a2 => far1 a (by omega))
  have hc1 : ClsA H1 B P 1 0 cl cp cb tb 0 g rl wss t := h.small h01 h11 h21 ((far1 3 (by decide)).trans h3) ((far1 4 (by decide)).trans h4) ⟨q5, p6, (far1 5 (by decide)).trans h5, (far1 6 (by decide)).trans h6⟩ (fun a a1 a2 => far1 a (by omega))
  have fk1 : FrK H H1 := fun a ha => far1 a (by omega)
  refine RQ.blk 2 (pc' := 62) (lv' := [(4, .int (nI (l - k))), (0, .ref 1), (1, .int (nI v)), (2, .int (nI u)), (3, .int (nI k))]) (st' := [.int (nI v), .ref 1]) (H' := _) (kc' := 0) (ks' := 0) rfl ?_
  refine RQ.call (v := none) (st' := []) rfl rfl rfl rfl rfl rfl (args_v [.int (nI v)] [] rfl rfl (Nat.le_of_ble_eq_true rfl) rfl h01 (Nat.le_of_ble_eq_true rfl)) (rc_reqDir h01 rfl hT1.1 rfl hT1.2.1 hv (nI_is2 hkd)) ?_
  refine RQ.blk 2 (pc' := 67) (lv' := [(4, .int (nI (l - k))), (0, .ref 1), (1, .int (nI v)), (2, .int (nI u)), (3, .int (nI k))]) (st' := [.int (nI u), .ref 1]) (H' := _) (kc' := 0) (ks' := 0) rfl ?_
  refine RQ.call (v := none) (st' := []) rfl rfl rfl rfl rfl rfl (args_v [.int (nI u)] [] rfl rfl (Nat.le_of_ble_eq_true rfl) rfl h01 (Nat.le_of_ble_eq_true rfl)) (rc_reqDir h01 rfl hT1.1 rfl hT1.2.1 hu (nI_is2 hkd2)) ?_
  refine RQ.blk 1 (pc' := 71) (lv' := [(4, .int (nI (l - k))), (0, .ref 1), (1, .int (nI v)), (2, .int (nI u)), (3, .int (nI k))]) (st' := [.ref 1]) (H' := _) (kc' := 0) (ks' := 0) rfl ?_
  refine RQ.get (ci := 11) rfl h01 rfl rfl ?_
  refine RQ.blk 2 (pc' := 76) (lv' := [(4, .int (nI (l - k))), (0, .ref 1), (1, .int (nI v)), (2, .int (nI u)), (3, .int (nI k))]) (st' := [.ref 1, .int (nI v), .ref 66]) (H' := _) (kc' := 0) (ks' := 0) rfl ?_
  refine RQ.get (ci := 11) rfl h01 rfl rfl ?_
  refine RQ.get (ci := 5) rfl h11 rfl rfl ?_
  refine RQ.blk 2 (pc' := 84) (lv' := [(4, .int (nI (l - k))), (0, .ref 1), (1, .int (nI v)), (2, .int (nI u)), (3, .int (nI k))]) (st' := [.int (nI k), .int 0, .ref 3, .int (nI v), .ref 66]) (H' := _) (kc' := 0) (ks' := 0) rfl ?_
  refine RQ.call (v := some (.int (lI (fstF (inN t.1 t.2.1 t.2.2.2.1 t.2.2.2.2.1 v (sl tb 0 k)) 1 200)))) (st' := []) rfl rfl rfl rfl rfl rfl (args_v [.int (nI k), .int 0, .ref 3, .int (nI v)] [] rfl rfl (Nat.le_of_ble_eq_true rfl) rfl hT1.1 (Nat.le_of_ble_eq_true rfl)) (rc_childNamed (a := 2) (na := 2000) (j := 0) (m := k) hT1 hk h21 (by decide) (by omega) hv) ?_
  rw [hc1x]
  rw [show lI (some r) = nI r from rfl]
  have hr := fstF_lt hc1x
  have hkr := hk r (by omega)
  refine RQ.blk 3 (pc' := 92) (lv' := [(5, .int (nI r)), (4, .int (nI (l - k))), (0, .ref 1), (1, .int (nI v)), (2, .int (nI u)), (3, .int (nI k))]) (st' := [.int (nI r), .ref 1]) (H' := _) (kc' := 0) (ks' := 0) rfl ?_
  refine RQ.call (v := none) (st' := []) rfl rfl rfl rfl rfl rfl (args_v [.int (nI r)] [] rfl rfl (Nat.le_of_ble_eq_true rfl) rfl h01 (Nat.le_of_ble_eq_true rfl)) (rc_there (by omega)) ?_
  refine RQ.blk 1 (pc' := 96) (lv' := [(5, .int (nI r)), (4, .int (nI (l - k))), (0, .ref 1), (1, .int (nI v)), (2, .int (nI u)), (3, .int (nI k))]) (st' := [.ref 1]) (H' := _) (kc' := 0) (ks' := 0) rfl ?_
  refine RQ.get (ci := 11) rfl h01 rfl rfl ?_
  refine RQ.blk 2 (pc' := 101) (lv' := [(5, .int (nI r)), (4, .int (nI (l - k))), (0, .ref 1), (1, .int (nI v)), (2, .int (nI u)), (3, .int (nI k))]) (st' := [.ref 1, .int (nI u), .ref 66]) (H' := _) (kc' := 0) (ks' := 0) rfl ?_
  refine RQ.get (ci := 11) rfl h01 rfl rfl ?_
  refine RQ.get (ci := 5) rfl h11 rfl rfl ?_
  refine RQ.blk 2 (pc' := 110) (lv' := [(5, .int (nI r)), (4, .int (nI (l - k))), (0, .ref 1), (1, .int (nI v)), (2, .int (nI u)), (3, .int (nI k))]) (st' := [.int (nI (l - k)), .int (nI k), .ref 3, .int (nI u), .ref 66]) (H' := _) (kc' := 0) (ks' := 0) rfl ?_
  refine RQ.call (v := some (.int (lI (fstF (inN t.1 t.2.1 t.2.2.2.1 t.2.2.2.2.1 u (sl tb k (l - k))) 1 200)))) (st' := []) rfl rfl rfl rfl rfl rfl (args_v [.int (nI (l - k)), .int (nI k), .ref 3, .int (nI u)] [] rfl rfl (Nat.le_of_ble_eq_true rfl) rfl hT1.1 (Nat.le_of_ble_eq_true rfl)) (rc_childNamed (a := 2) (na := 2000) (j := k) (m := l - k) hT1 hk h21 (by decide) (by omega) hu) ?_
  rw [hc2x]
  rw [show lI (some q) = nI q from rfl]
  have hq := fstF_lt hc2x
  have hkq := hk q (by omega)
  refine RQ.blk 3 (pc' := 119) (lv' := [(6, .int (nI q)), (5, .int (nI r)), (4, .int (nI (l - k))), (0, .ref 1), (1, .int (nI v)), (2, .int (nI u)), (3, .int (nI k))]) (st' := [.int (nI r), .int (nI q)]) (H' := _) (kc' := 0) (ks' := 0) rfl ?_
  refine RQ.brT rfl rfl rfl (cT_ne q r) ?_
  refine RQ.blk 1 (pc' := 126) (lv' := [(6, .int (nI q)), (5, .int (nI r)), (4, .int (nI (l - k))), (0, .ref 1), (1, .int (nI v)), (2, .int (nI u)), (3, .int (nI k))]) (st' := [.ref 1]) (H' := _) (kc' := 0) (ks' := 0) rfl ?_
  refine RQ.get (ci := 11) rfl h01 rfl rfl ?_
  refine RQ.blk 1 (pc' := 131) (lv' := [(6, .int (nI q)), (5, .int (nI r)), (4, .int (nI (l - k))), (0, .ref 1), (1, .int (nI v)), (2, .int (nI u)), (3, .int (nI k))]) (st' := [.int (nI r), .ref 66]) (H' := _) (kc' := 0) (ks' := 0) rfl ?_
  refine RQ.call (v := some (.int 0)) (st' := []) rfl rfl rfl rfl rfl rfl (args_v [.int (nI r)] [] rfl rfl (Nat.le_of_ble_eq_true rfl) rfl hT1.1 (Nat.le_of_ble_eq_true rfl)) (rc_isDirF hT1.1 rfl hT1.2.1 (by omega) (nI_ne2 hkr.1 hd)) ?_
  refine RQ.brT rfl rfl rfl (by decide) ?_
  refine RQ.blk 1 (pc' := 156) (lv' := [(6, .int (nI q)), (5, .int (nI r)), (4, .int (nI (l - k))), (0, .ref 1), (1, .int (nI v)), (2, .int (nI u)), (3, .int (nI k))]) (st' := [.ref 1]) (H' := _) (kc' := 0) (ks' := 0) rfl ?_
  refine RQ.get (ci := 11) rfl h01 rfl rfl ?_
  refine RQ.blk 1 (pc' := 161) (lv' := [(6, .int (nI q)), (5, .int (nI r)), (4, .int (nI (l - k))), (0, .ref 1), (1, .int (nI v)), (2, .int (nI u)), (3, .int (nI k))]) (st' := [.int (nI q), .ref 66]) (H' := _) (kc' := 0) (ks' := 0) rfl ?_
  refine RQ.call (v := some (.int 0)) (st' := []) rfl rfl rfl rfl rfl rfl (args_v [.int (nI q)] [] rfl rfl (Nat.le_of_ble_eq_true rfl) rfl hT1.1 (Nat.le_of_ble_eq_true rfl)) (rc_isDirF hT1.1 rfl hT1.2.1 (by omega) (nI_ne2 hkq.1 hd2)) ?_
  refine RQ.brT rfl rfl rfl (by decide) ?_
  refine RQ.blk 1 (pc' := 179) (lv' := [(6, .int (nI q)), (5, .int (nI r)), (4, .int (nI (l - k))), (0, .ref 1), (1, .int (nI v)), (2, .int (nI u)), (3, .int (nI k))]) (st' := [.ref 1]) (H' := _) (kc' := 0) (ks' := 0) rfl ?_
  refine RQ.get (ci := 11) rfl h01 rfl rfl ?_
  refine RQ.blk 1 (pc' := 184) (lv' := [(6, .int (nI q)), (5, .int (nI r)), (4, .int (nI (l - k))), (0, .ref 1), (1, .int (nI v)), (2, .int (nI u)), (3, .int (nI k))]) (st' := [.int (nI r), .ref 66]) (H' := _) (kc' := 0) (ks' := 0) rfl ?_
  refine RQ.call (v := some (.int (nI (t.1 r)))) (st' := []) rfl rfl rfl rfl rfl rfl (args_v [.int (nI r)] [] rfl rfl (Nat.le_of_ble_eq_true rfl) rfl hT1.1 (Nat.le_of_ble_eq_true rfl)) (rc_kindOf hT1.1 rfl hT1.2.1 (by omega)) ?_
  refine RQ.blk 2 (pc' := 190) (lv' := [(7, .int (nI (t.1 r))), (6, .int (nI q)), (5, .int (nI r)), (4, .int (nI (l - k))), (0, .ref 1), (1, .int (nI v)), (2, .int (nI u)), (3, .int (nI k))]) (st' := [.ref 1]) (H' := _) (kc' := 0) (ks' := 0) rfl ?_
  refine RQ.get (ci := 11) rfl h01 rfl rfl ?_
  refine RQ.blk 1 (pc' := 195) (lv' := [(7, .int (nI (t.1 r))), (6, .int (nI q)), (5, .int (nI r)), (4, .int (nI (l - k))), (0, .ref 1), (1, .int (nI v)), (2, .int (nI u)), (3, .int (nI k))]) (st' := [.int (nI r), .ref 66]) (H' := _) (kc' := 0) (ks' := 0) rfl ?_
  refine RQ.call (v := some (.int (nI (t.2.2.1 r)))) (st' := []) rfl rfl rfl rfl rfl rfl (args_v [.int (nI r)] [] rfl rfl (Nat.le_of_ble_eq_true rfl) rfl hT1.1 (Nat.le_of_ble_eq_true rfl)) (rc_sizeOf hT1 hk (by omega)) ?_
  refine RQ.blk 1 (pc' := 200) (lv' := [(8, .int (nI (t.2.2.1 r))), (7, .int (nI (t.1 r))), (6, .int (nI q)), (5, .int (nI r)), (4, .int (nI (l - k))), (0, .ref 1), (1, .int (nI v)), (2, .int (nI u)), (3, .int (nI k))]) (st' := []) (H' := _) (kc' := 0) (ks' := 0) rfl ?_
  obtain ⟨⟨ws0, hb0⟩, Q0, hq0⟩ := hc1.2.2.2.2.2.2.2.2.1
  obtain ⟨D0, S0, K0, E0, hb0A, -⟩ := id hb0
  refine RQ.blk 1 (pc' := 201) (lv' := [(8, .int (nI (t.2.2.1 r))), (7, .int (nI (t.1 r))), (6, .int (nI q)), (5, .int (nI r)), (4, .int (nI (l - k))), (0, .ref 1), (1, .int (nI v)), (2, .int (nI u)), (3, .int (nI k))]) (st' := [.ref 1]) (H' := _) (kc' := 0) (ks' := 0) rfl ?_
  refine RQ.get (ci := 11) rfl h01 rfl rfl ?_
  refine RQ.callN (st' := []) rfl rfl rfl rfl rfl rfl (args_v [] [] rfl rfl (Nat.le_of_ble_eq_true rfl) rfl hb0A.1 (Nat.le_of_ble_eq_true rfl)) (rn_bclearI hb0) (fun H2 hx2 => ?_)
  obtain ⟨hb2, f2⟩ := hx2
  have h02 := (f2 0 (by decide)).trans h01
  have h12 := (f2 1 (by decide)).trans h11
  have h22 := (f2 2 (by decide)).trans h21
  have hT2 : TreeAt H2 t.1 t.2.1 t.2.2.1 t.2.2.2.1 t.2.2.2.2.1 t.2.2.2.2.2 := hT1.far (fun a a1 a2 => f2 a (by omega))
  have hq2 := (f2 64 (by decide)).trans hq0
  have e52 : ∃ q : Nat, H2[5]? = some (kO 5 [.ref 7, .int (nI q)]) := ⟨q5, (f2 5 (by decide)).trans ((far1 5 (by decide)).trans h5)⟩
  have e62 : ∃ g, H2[6]? = some (kB 41 g) := ⟨p6, (f2 6 (by decide)).trans ((far1 6 (by decide)).trans h6)⟩
  refine RQ.blk 6 (pc' := 216) (lv' := [(8, .int (nI (t.2.2.1 r))), (7, .int (nI (t.1 r))), (6, .int (nI q)), (5, .int (nI r)), (4, .int (nI (l - k))), (0, .ref 1), (1, .int (nI v)), (2, .int (nI u)), (3, .int (nI k))]) (st' := [.ref 1, .int (nI (t.2.2.1 r)), .int (nI u), .int (nI (t.1 r)), .int (nI r), .ref 1]) (H' := _) (kc' := 0) (ks' := 0) rfl ?_
  refine RQ.get (ci := 11) rfl h02 rfl rfl ?_
  refine RQ.get (ci := 5) rfl h12 rfl rfl ?_
  refine RQ.blk 2 (pc' := 225) (lv' := [(8, .int (nI (t.2.2.1 r))), (7, .int (nI (t.1 r))), (6, .int (nI q)), (5, .int (nI r)), (4, .int (nI (l - k))), (0, .ref 1), (1, .int (nI v)), (2, .int (nI u)), (3, .int (nI k))]) (st' := [.int (nI (l - k)), .int (nI k), .ref 3, .int (nI (t.2.2.1 r)), .int (nI u), .int (nI (t.1 r)), .int (nI r), .ref 1]) (H' := _) (kc' := 0) (ks' := 0) rfl ?_
  refine RQ.callN (st' := []) rfl rfl rfl rfl rfl rfl (args_v [.int (nI (l - k)), .int (nI k), .ref 3, .int (nI (t.2.2.1 r)), .int (nI u), .int (nI (t.1 r)), .int (nI r)] [] rfl rfl (Nat.le_of_ble_eq_true rfl) rfl h02 (Nat.le_of_ble_eq_true rfl)) (rn_chNode (v := r) (k := t.1 r) (dir := u) (s := t.2.2.1 r) (a := 2) (na := 2000) (i := k) (n := l - k) h02 e52 e62 hb2 h22 (by decide) (by decide) (by decide) (by decide) (by omega) (by omega) (by omega) (by omega) (by omega) (by omega) (by decide) (by show 0 + 6 + (l - k) ≤ 4100; omega)) (fun Hc hxc => ?_)
  obtain ⟨hbc, e5c, e6c, fc⟩ := hxc
  have hbc : BatchIs Hc 59 [([1, r], some ([t.1 r, u] ++ (beB 2 (t.2.2.1 r) ++ sl tb k (l - k))))] := hbc
  refine RQ.blk 1 (pc' := 230) (lv' := [(8, .int (nI (t.2.2.1 r))), (7, .int (nI (t.1 r))), (6, .int (nI q)), (5, .int (nI r)), (4, .int (nI (l - k))), (0, .ref 1), (1, .int (nI v)), (2, .int (nI u)), (3, .int (nI k))]) (st' := [.int (nI q)]) (H' := _) (kc' := 0) (ks' := 0) rfl ?_
  refine RQ.brF rfl rfl rfl (cF_lt q 0) ?_
  refine RQ.blk 2 (pc' := 236) (lv' := [(8, .int (nI (t.2.2.1 r))), (7, .int (nI (t.1 r))), (6, .int (nI q)), (5, .int (nI r)), (4, .int (nI (l - k))), (0, .ref 1), (1, .int (nI v)), (2, .int (nI u)), (3, .int (nI k))]) (st' := [.int (nI q), .ref 1]) (H' := _) (kc' := 0) (ks' := 0) rfl ?_
  have hno : eLen ([1, r], some ([t.1 r, u] ++ (beB 2 (t.2.2.1 r) ++ sl tb k (l - k)))) ≤ 36 := by
    show 2 + ([t.1 r, u] ++ (beB 2 (t.2.2.1 r) ++ sl tb k (l - k))).length ≤ 36
    rw [List.length_append, List.length_append, beB_len, sl_length]
    show 2 + (2 + (2 + (l - k))) ≤ 36
    omega
  refine RQ.callN (st' := []) rfl rfl rfl rfl rfl rfl (args_v [.int (nI q)] [] rfl rfl (Nat.le_of_ble_eq_true rfl) rfl ((fc 0 (by decide) (by decide) (by decide)).trans h02) (Nat.le_of_ble_eq_true rfl)) (rn_chGone (f := q) (vs := vs) ((fc 0 (by decide) (by decide) (by decide)).trans h02) e5c e6c hbc (hV.far (fun a a1 a2 => (fc a (by omega) (by omega) (by omega)).trans ((f2 a (by omega)).trans (far1 a (by omega))))) (by omega) (by show 1 + 33 ≤ 40; decide) (by rw [eOff_one]; omega)) (fun H3 hx3 => ?_)
  obtain ⟨hb3, e53, e63, f3x⟩ := hx3
  rw [hws] at hb3
  have f3 : ∀ a, a ≠ 5 → a ≠ 6 → ¬ (59 ≤ a ∧ a < 64) → H3[a]? = H2[a]? := fun a a1 a2 a3 => (f3x a a1 a2 a3).trans (fc a a1 a2 a3)
  have f13 : ∀ a, a ≠ 5 → a ≠ 6 → ¬ (59 ≤ a ∧ a < 64) → H3[a]? = H1[a]? := fun a a1 a2 a3 => (f3 a a1 a2 a3).trans (f2 a (by omega))
  have hc3 : ClsA H3 B P 1 0 cl cp cb tb 0 g rl wss t := by
    obtain ⟨qa, ea⟩ := e53
    obtain ⟨pa, eb⟩ := e63
    obtain ⟨c0, c1, c2, c3, c4, -, ⟨wq2, c10, cwq⟩, cW, -, cT⟩ := hc1
    exact ⟨(f13 0 (by decide) (by decide) (by decide)).trans c0, (f13 1 (by decide) (by decide) (by decide)).trans c1, (f13 2 (by decide) (by decide) (by decide)).trans c2, (f13 3 (by decide) (by decide) (by decide)).trans c3, (f13 4 (by decide) (by decide) (by decide)).trans c4, ⟨qa, pa, ea, eb⟩, ⟨wq2, (f13 10 (by decide) (by decide) (by decide)).trans c10, cwq⟩, fun t ht => ⟨(cW t ht).1.keep (fun a a1 a2 => f13 a (by omega) (by omega) (by omega)), (cW t ht).2.imp (fun Q hQ => (f13 _ (by omega) (by omega) (by omega)).trans hQ)⟩, ⟨⟨_, hb3⟩, Q0, (f3 64 (by decide) (by decide) (by decide)).trans hq2⟩, cT.far (fun a a1 a2 => f13 a (by omega) (by omega) (by omega))⟩
  have fk3 : FrK H H3 := fk1.trans (fun a ha => f13 a (by omega) (by omega) (by omega))
  have hch3 : ChB H H3 B P 0 cl cp cb tb 0 g rl wss t ws := ⟨hc3, hb3, fk3⟩
  obtain ⟨D3, S3, K3, E3, hb3A, hb3L, hb340, hb341⟩ := id hb3
  have hb3k := hb3L.ok hb340 hb341
  have h03 := hc3.1
  have h13 := hc3.2.1
  have h23 := hc3.2.2.1
  have hT3 : TreeAt H3 t.1 t.2.1 t.2.2.1 t.2.2.2.1 t.2.2.2.2.1 t.2.2.2.2.2 := hc3.2.2.2.2.2.2.2.2.2
  refine RQ.blk 2 (pc' := 241) (lv' := [(8, .int (nI (t.2.2.1 r))), (7, .int (nI (t.1 r))), (6, .int (nI q)), (5, .int (nI r)), (4, .int (nI (l - k))), (0, .ref 1), (1, .int (nI v)), (2, .int (nI u)), (3, .int (nI k))]) (st' := [.ref 1, .ref 1]) (H' := _) (kc' := 0) (ks' := 0) rfl ?_
  refine RQ.get (ci := 11) rfl h03 rfl rfl ?_
  refine RQ.blk 1 (pc' := 245) (lv' := [(8, .int (nI (t.2.2.1 r))), (7, .int (nI (t.1 r))), (6, .int (nI q)), (5, .int (nI r)), (4, .int (nI (l - k))), (0, .ref 1), (1, .int (nI v)), (2, .int (nI u)), (3, .int (nI k))]) (st' := [.int (-1), .ref 60, .ref 1]) (H' := _) (kc' := 0) (ks' := 0) rfl ?_
  obtain ⟨kf3, kl3, mo3, pl3, le3, al3, od3, sp3, sz3, ss3, ac3, hA3, hVW3, hvs3⟩ := (hV.far (fun a a1 a2 => fk3 a (by omega)) : VersIs H3 N vs)
  refine RQ.call (v := none) (st' := []) rfl rfl rfl rfl rfl rfl (args_v [.int (-1), .ref 60] [] rfl rfl (Nat.le_of_ble_eq_true rfl) rfl h03 (Nat.le_of_ble_eq_true rfl)) (rc_reqRoom h03 hA3 hVW3 hvs3 hb3A hb3k hb3L (hs.far2 (fun a a1 a2 => fk3 a (by omega))) (fun t ht => Nat.lt_trans (hsm t ht) (by decide)) (fun i hi => by obtain ⟨e, he⟩ := lt_get hi; rw [(hb3L i e he).2.1]; exact (hkl e (List.mem_of_getElem? he))) h1W hpr (by omega) hB hle) ?_
  refine RQ.blk 2 (pc' := 250) (lv' := [(8, .int (nI (t.2.2.1 r))), (7, .int (nI (t.1 r))), (6, .int (nI q)), (5, .int (nI r)), (4, .int (nI (l - k))), (0, .ref 1), (1, .int (nI v)), (2, .int (nI u)), (3, .int (nI k))]) (st' := [.ref 1, .ref 1]) (H' := _) (kc' := 0) (ks' := 0) rfl ?_
  refine RQ.get (ci := 11) rfl h03 rfl rfl ?_
  refine RQ.get (ci := 0) rfl hb3A.1 rfl rfl ?_
  refine RQ.blk 2 (pc' := 258) (lv' := [(8, .int (nI (t.2.2.1 r))), (7, .int (nI (t.1 r))), (6, .int (nI q)), (5, .int (nI r)), (4, .int (nI (l - k))), (0, .ref 1), (1, .int (nI v)), (2, .int (nI u)), (3, .int (nI k))]) (st' := [.int (nI ws.length + 1), .ref 1]) (H' := _) (kc' := 0) (ks' := 0) rfl ?_
  rw [show (nI ws.length + 1 : Int32) = nI (ws.length + 1) from nI_add ws.length 1]
  refine RQ.call (v := none) (st' := []) rfl rfl rfl rfl rfl rfl (args_v [.int (nI (ws.length + 1))] [] rfl rfl (Nat.le_of_ble_eq_true rfl) rfl h03 (Nat.le_of_ble_eq_true rfl)) (rc_armCut0 h03) ?_
  refine RQ.blk 2 (pc' := 263) (lv' := [(8, .int (nI (t.2.2.1 r))), (7, .int (nI (t.1 r))), (6, .int (nI q)), (5, .int (nI r)), (4, .int (nI (l - k))), (0, .ref 1), (1, .int (nI v)), (2, .int (nI u)), (3, .int (nI k))]) (st' := [.ref 1, .ref 1]) (H' := _) (kc' := 0) (ks' := 0) rfl ?_
  refine RQ.callB (st' := [.ref 1]) rfl rfl rfl rfl rfl rfl (args_v [] [.ref 1] rfl rfl (Nat.le_of_ble_eq_true rfl) rfl h03 (Nat.le_of_ble_eq_true rfl)) (hRM H3 hch3) (fun H4 hH4 => ?_) (fun H4 hH4 => False.elim hH4)
  · have g1 := hf1 H4 hH4
    refine RQ.brF rfl rfl rfl (by decide) ?_
    refine RQ.blk 2 (pc' := 271) (lv' := [(8, .int (nI (t.2.2.1 r))), (7, .int (nI (t.1 r))), (6, .int (nI q)), (5, .int (nI r)), (4, .int (nI (l - k))), (0, .ref 1), (1, .int (nI v)), (2, .int (nI u)), (3, .int (nI k))]) (st' := [.ref 1, .ref 1, .ref 1]) (H' := _) (kc' := 0) (ks' := 0) rfl ?_
    refine RQ.get (ci := 11) rfl g1 rfl rfl ?_
    refine RQ.callB (st' := [.ref 1]) rfl rfl rfl rfl rfl rfl (args_v [.ref 60] [.ref 1] rfl rfl (Nat.le_of_ble_eq_true rfl) rfl g1 (Nat.le_of_ble_eq_true rfl)) (hST H4 hH4) (fun H5 hH5 => ?_) (fun H5 hH5 => False.elim hH5)
    · have g2 := hf2 H5 hH5
      refine RQ.brF rfl rfl rfl (by decide) ?_
      refine RQ.blk 2 (pc' := 285) (lv' := [(8, .int (nI (t.2.2.1 r))), (7, .int (nI (t.1 r))), (6, .int (nI q)), (5, .int (nI r)), (4, .int (nI (l - k))), (0, .ref 1), (1, .int (nI v)), (2, .int (nI u)), (3, .int (nI k))]) (st' := [.int 1, .ref 1]) (H' := _) (kc' := 0) (ks' := 0) rfl ?_
      refine RQ.callN (st' := []) rfl rfl rfl rfl rfl rfl (args_v [.int 1] [] rfl rfl (Nat.le_of_ble_eq_true rfl) rfl g2 (Nat.le_of_ble_eq_true rfl)) (hSE H5 hH5) (fun H6 hH6 => ?_)
      have g3 := hf3 H6 hH6
      refine RQ.blk 2 (pc' := 290) (lv' := [(8, .int (nI (t.2.2.1 r))), (7, .int (nI (t.1 r))), (6, .int (nI q)), (5, .int (nI r)), (4, .int (nI (l - k))), (0, .ref 1), (1, .int (nI v)), (2, .int (nI u)), (3, .int (nI k))]) (st' := [.ref 1, .ref 1]) (H' := _) (kc' := 0) (ks' := 0) rfl ?_
      refine RQ.get (ci := 11) rfl g3 rfl rfl ?_
      refine RQ.callN (st' := []) rfl rfl rfl rfl rfl rfl (args_v [.ref 60] [] rfl rfl (Nat.le_of_ble_eq_true rfl) rfl g3 (Nat.le_of_ble_eq_true rfl)) (hIN H6 hH6) (fun H7 hH7 => ?_)
      obtain ⟨g5, ⟨tfs, g65⟩, lx, g11⟩ := hf5 H7 hH7
      refine RQ.blk 1 (pc' := 297) (lv' := [(8, .int (nI (t.2.2.1 r))), (7, .int (nI (t.1 r))), (6, .int (nI q)), (5, .int (nI r)), (4, .int (nI (l - k))), (0, .ref 1), (1, .int (nI v)), (2, .int (nI u)), (3, .int (nI k))]) (st' := [.ref 1]) (H' := _) (kc' := 0) (ks' := 0) rfl ?_
      refine RQ.get (ci := 11) rfl g5 rfl rfl ?_
      refine RQ.blk 1 (pc' := 302) (lv' := [(8, .int (nI (t.2.2.1 r))), (7, .int (nI (t.1 r))), (6, .int (nI q)), (5, .int (nI r)), (4, .int (nI (l - k))), (0, .ref 1), (1, .int (nI v)), (2, .int (nI u)), (3, .int (nI k))]) (st' := [.int (nI q), .ref 66]) (H' := _) (kc' := 0) (ks' := 0) rfl ?_
      refine RQ.callN (st' := []) rfl rfl rfl rfl rfl rfl (args_v [.int (nI q)] [] rfl rfl (Nat.le_of_ble_eq_true rfl) rfl g65 (Nat.le_of_ble_eq_true rfl)) (hTS H7 hH7) (fun H7b hH7b => ?_)
      obtain ⟨g5b, ⟨tfsb, g65b⟩, lxb, g11b⟩ := hf7 H7b hH7b
      refine RQ.blk 1 (pc' := 306) (lv' := [(8, .int (nI (t.2.2.1 r))), (7, .int (nI (t.1 r))), (6, .int (nI q)), (5, .int (nI r)), (4, .int (nI (l - k))), (0, .ref 1), (1, .int (nI v)), (2, .int (nI u)), (3, .int (nI k))]) (st' := [.ref 1]) (H' := _) (kc' := 0) (ks' := 0) rfl ?_
      refine RQ.get (ci := 11) rfl g5b rfl rfl ?_
      refine RQ.blk 5 (pc' := 317) (lv' := [(8, .int (nI (t.2.2.1 r))), (7, .int (nI (t.1 r))), (6, .int (nI q)), (5, .int (nI r)), (4, .int (nI (l - k))), (0, .ref 1), (1, .int (nI v)), (2, .int (nI u)), (3, .int (nI k))]) (st' := [.ref 1, .int (nI (t.2.2.1 r)), .int (nI u), .int (nI (t.1 r)), .int (nI r), .ref 66]) (H' := _) (kc' := 0) (ks' := 0) rfl ?_
      refine RQ.get (ci := 11) rfl g5b rfl rfl ?_
      refine RQ.get (ci := 5) rfl g11b rfl rfl ?_
      refine RQ.blk 2 (pc' := 326) (lv' := [(8, .int (nI (t.2.2.1 r))), (7, .int (nI (t.1 r))), (6, .int (nI q)), (5, .int (nI r)), (4, .int (nI (l - k))), (0, .ref 1), (1, .int (nI v)), (2, .int (nI u)), (3, .int (nI k))]) (st' := [.int (nI (l - k)), .int (nI k), .ref 3, .int (nI (t.2.2.1 r)), .int (nI u), .int (nI (t.1 r)), .int (nI r), .ref 66]) (H' := _) (kc' := 0) (ks' := 0) rfl ?_
      refine RQ.callN (st' := []) rfl rfl rfl rfl rfl rfl (args_v [.int (nI (l - k)), .int (nI k), .ref 3, .int (nI (t.2.2.1 r)), .int (nI u), .int (nI (t.1 r)), .int (nI r)] [] rfl rfl (Nat.le_of_ble_eq_true rfl) rfl g65b (Nat.le_of_ble_eq_true rfl)) (hTV H7b hH7b) (fun H8 hH8 => ?_)
      refine RQ.blk 1 (pc' := 331) (lv' := [(8, .int (nI (t.2.2.1 r))), (7, .int (nI (t.1 r))), (6, .int (nI q)), (5, .int (nI r)), (4, .int (nI (l - k))), (0, .ref 1), (1, .int (nI v)), (2, .int (nI u)), (3, .int (nI k))]) (st' := [.int (nI r)]) (H' := _) (kc' := 0) (ks' := 0) rfl ?_
      exact RQ.done (c := 0) (s := 0) rfl rfl rfl rfl ⟨_, _, rfl, rfl, hH8⟩
set_option maxRecDepth 20000 in
theorem rx_rename1_late {sc : Nat × (Nat → Int32)} {d : Nat} {H : aH} {B P : Nat}  {cp cb : Nat} {tb : Nat → Int8} {l : Nat} {g : Nat → Int8} {rl : Nat} {wss : Nat → List aE} {t : aTr} {v u k r q : Nat} {ws : List aE} {N : Nat} {op : Nat → Bool} {sm : Nat → Nat} {vs : List aV} {ok1 ok2 fin : aH → Prop} (h : ClsA H B P 1 1 1 cp cb tb l g rl wss t) (hk : TreeOk t.1 t.2.1 t.2.2.1 t.2.2.2.1) (hv : v ≤ 200) (hu : u ≤ 200) (hk1 : 1 ≤ k) (hk2 : k ≤ 30) (hk3 : k + 1 ≤ l) (hk4 : l ≤ k + 30) (hnm : ∀ j, j < k → ¬ btB tb l (0 + j) = 47) (hnm2 : ∀ j, j < l - k → ¬ btB tb l (k + j) = 47) (hkd : t.1 v = 2) (hkd2 : t.1 u = 2) (hc1x : fstF (inN t.1 t.2.1 t.2.2.2.1 t.2.2.2.2.1 v (sl tb 0 k)) 1 200 = some r) (hc2x : fstF (inN t.1 t.2.1 t.2.2.2.1 t.2.2.2.2.1 u (sl tb k (l - k))) 1 200 = some q) (hqr : ¬ q = r) (hd : ¬ t.1 r = 2) (hd2 : ¬ t.1 q = 2) (hws : [([1, r], some ([t.1 r, u] ++ (beB 2 (t.2.2.1 r) ++ sl tb k (l - k))))] ++ [([1, q], none)] ++ goneW vs q 32 = ws) (h1W : OneW ws) (hkl : ∀ e ∈ ws, 1 ≤ e.1.length) (hs : SightAt H op sm) (hsm : ∀ t, t < 8 → sm t < 2 ^ 30) (hV : VersIs H N vs) (hpr : ∀ v ∈ vs, v.2.1 ≤ P) (hP : P + 1 < 2 ^ 30) (hB : B ≤ 128) (hle : sumN op sm (-1) (P + 1) (kmV (inclV (P + 1) (fun _ => 0) 0 ws vs)) (inclV (P + 1) (fun _ => 0) 0 ws vs) ≤ B * 256) (hRM : ∀ H', ChB H H' B P 1 1 cp cb tb 0 g rl wss t ws → RB sc (d + 7) mr_96 [.ref 1] H' ok1 (fun _ => False)) (hST : ∀ H', ok1 H' → RB sc (d + 7) mr_150 [.ref 1, .ref 60] H' ok2 (fun _ => False)) (hf1 : ∀ H', ok1 H' → H'[0]? = some (kO 11 (fvs (nI B) (nI P) 1 1 1 (nI cp) (nI cb)))) (hSE : ∀ H', ok2 H' → RX sc (d + 7) mr_153 [.ref 1, .int 1] H' 1 fin) (hf2 : ∀ H', ok2 H' → H'[0]? = some (kO 11 (fvs (nI B) (nI P) 1 1 1 (nI cp) (nI cb)))) : RXc sc (d + 8) mr_233 [.ref 1, .int (nI v), .int (nI u), .int (nI k)] H 1 (fun H' => fin H') := by
  obtain ⟨h0, h1, h2, h3, h4, ⟨q5, p6, h5, h6⟩, ⟨wq, h10, hwq⟩, hW, hCh, hT⟩ := id h
  refine RXc.of ?_
  refine RQ.blk 2 (pc' := 2) (lv' := [(0, .ref 1), (1, .int (nI v)), (2, .int (nI u)), (3, .int (nI k))]) (st' := [.int (nI v), .ref 1]) (H' := _) (kc' := 0) (ks' := 0) rfl ?_
  refine RQ.call (v := none) (st' := []) rfl rfl rfl rfl rfl rfl (args_v [.int (nI v)] [] rfl rfl (Nat.le_of_ble_eq_true rfl) rfl h0 (Nat.le_of_ble_eq_true rfl)) (rc_reqNum h0 hv) ?_
  refine RQ.blk 2 (pc' := 7) (lv' := [(0, .ref 1), (1, .int (nI v)), (2, .int (nI u)), (3, .int (nI k))]) (st' := [.int (nI u), .ref 1]) (H' := _) (kc' := 0) (ks' := 0) rfl ?_
  refine RQ.call (v := none) (st' := []) rfl rfl rfl rfl rfl rfl (args_v [.int (nI u)] [] rfl rfl (Nat.le_of_ble_eq_true rfl) rfl h0 (Nat.le_of_ble_eq_true rfl)) (rc_reqNum h0 hu) ?_
  refine RQ.blk 5 (pc' := 16) (lv' := [(0, .ref 1), (1, .int (nI v)), (2, .int (nI u)), (3, .int (nI k))]) (st' := [.ref 1, .int 30, .int 1, .int (nI k), .ref 1]) (H' := _) (kc' := 0) (ks' := 0) rfl ?_
  refine RQ.get (ci := 11) rfl h0 rfl rfl ?_
  refine RQ.get (ci := 5) rfl h1 rfl rfl ?_
  refine RQ.blk 1 (pc' := 25) (lv' := [(0, .ref 1), (1, .int (nI v)), (2, .int (nI u)), (3, .int (nI k))]) (st' := [.int (if nI l < 30 then nI l else 30), .int 1, .int (nI k), .ref 1]) (H' := _) (kc' := 0) (ks' := 0) rfl ?_
  rw [show (if nI l < 30 then nI l else 30 : Int32) = nI (min 30 l) from minI (a := 30) (b := l) (by omega) (by omega)]
  refine RQ.call (v := none) (st' := []) rfl rfl rfl rfl rfl rfl (args_v [.int (nI (min 30 l)), .int 1, .int (nI k)] [] rfl rfl (Nat.le_of_ble_eq_true rfl) rfl h0 (Nat.le_of_ble_eq_true rfl)) (rc_range (fun e => absurd e (nI_nlt hk1 (by omega))) (rg_hi (n := min 30 l) (by omega) (by omega))) ?_
  refine RQ.blk 3 (pc' := 31) (lv' := [(0, .ref 1), (1, .int (nI v)), (2, .int (nI u)), (3, .int (nI k))]) (st' := [.int (nI k), .int 0, .ref 1]) (H' := _) (kc' := 0) (ks' := 0) rfl ?_
  refine RQ.call (v := none) (st' := []) rfl rfl rfl rfl rfl rfl (args_v [.int (nI k), .int 0] [] rfl rfl (Nat.le_of_ble_eq_true rfl) rfl h0 (Nat.le_of_ble_eq_true rfl)) (rc_requireName1 (i := 0) h0 ⟨h1, h2, by decide, by decide⟩ (by omega) (by decide) hk1 hk2 hnm) ?_
  refine RQ.blk 3 (pc' := 37) (lv' := [(0, .ref 1), (1, .int (nI v)), (2, .int (nI u)), (3, .int (nI k))]) (st' := [.ref 1, .int (nI k), .ref 1]) (H' := _) (kc' := 0) (ks' := 0) rfl ?_
  refine RQ.get (ci := 11) rfl h0 rfl rfl ?_
  refine RQ.get (ci := 5) rfl h1 rfl rfl ?_
  refine RQ.blk 2 (pc' := 45) (lv' := [(0, .ref 1), (1, .int (nI v)), (2, .int (nI u)), (3, .int (nI k))]) (st' := [.int (nI l - nI k), .int (nI k), .ref 1]) (H' := _) (kc' := 0) (ks' := 0) rfl ?_
  rw [show (nI l - nI k : Int32) = nI (l - k) from pk_sub (a := l) (b := k) (by omega)]
  refine RQ.call (v := none) (st' := []) rfl rfl rfl rfl rfl rfl (args_v [.int (nI (l - k)), .int (nI k)] [] rfl rfl (Nat.le_of_ble_eq_true rfl) rfl h0 (Nat.le_of_ble_eq_true rfl)) (rc_requireName1 (i := k) (n := l - k) h0 ⟨h1, h2, by decide, by decide⟩ (by omega) (by omega) (by omega) (by omega) hnm2) ?_
  refine RQ.blk 1 (pc' := 49) (lv' := [(0, .ref 1), (1, .int (nI v)), (2, .int (nI u)), (3, .int (nI k))]) (st' := [.ref 1]) (H' := _) (kc' := 0) (ks' := 0) rfl ?_
  refine RQ.call (v := none) (st' := []) rfl rfl rfl rfl rfl rfl (args_v [] [] rfl rfl (Nat.le_of_ble_eq_true rfl) rfl h0 (Nat.le_of_ble_eq_true rfl)) (rc_up h0 rfl) ?_
  refine RQ.blk 1 (pc' := 53) (lv' := [(0, .ref 1), (1, .int (nI v)), (2, .int (nI u)), (3, .int (nI k))]) (st' := [.ref 1]) (H' := _) (kc' := 0) (ks' := 0) rfl ?_
  refine RQ.call (v := some (.int (nI l))) (st' := []) rfl rfl rfl rfl rfl rfl (args_v [] [] rfl rfl (Nat.le_of_ble_eq_true rfl) rfl h0 (Nat.le_of_ble_eq_true rfl)) (rc_takeTape h0 h1) ?_
  have far1 : ∀ a, a ≠ 1 → (H.set 1 (kO 5 [.ref 3, .int (nI 0)]))[a]? = H[a]? := fun a ha => set_far ha
  have h11 : (H.set 1 (kO 5 [.ref 3, .int (nI 0)]))[1]? = some (kO 5 [.ref 3, .int (nI 0)]) := get_set h1
  refine RQ.blk 2 (pc' := 58) (lv' := [(0, .ref 1), (1, .int (nI v)), (2, .int (nI u)), (3, .int (nI k))]) (st' := [.int (nI l - nI k)]) (H' := _) (kc' := 0) (ks' := 0) rfl ?_
  rw [show (nI l - nI k : Int32) = nI (l - k) from pk_sub (a := l) (b := k) (by omega)]
  refine RQ.blk 1 (pc' := 60) (lv' := [(4, .int (nI (l - k))), (0, .ref 1), (1, .int (nI v)), (2, .int (nI u)), (3, .int (nI k))]) (st' := []) (H' := _) (kc' := 0) (ks' := 0) rfl ?_
  show RQ _ _ _ 60 [(4, .int (nI (l - k))), (0, .ref 1), (1, .int (nI v)), (2, .int (nI u)), (3, .int (nI k))] [] (H.set 1 (kO 5 [.ref 3, .int (nI 0)])) 0 0 _
  generalize (H.set 1 (kO 5 [.ref 3, .int (nI 0)])) = H1 at far1 h11 ⊢
  have h01 := (far1 0 (by decide)).trans h0
  have h21 := (far1 2 (by decide)).trans h2
  have hT1 : TreeAt H1 t.1 t.2.1 t.2.2.1 t.2.2.2.1 t.2.2.2.2.1 t.2.2.2.2.2 := hT.far (fun a a1 a2 => far1 a (by omega))
  have hc1 : ClsA H1 B P 1 1 1 cp cb tb 0 g rl wss t := h.small h01 h11 h21 ((far1 3 (by decide)).trans h3) ((far1 4 (by decide)).trans h4) ⟨q5, p6, (far1 5 (by decide)).trans h5, (far1 6 (by decide)).trans h6⟩ (fun a a1 a2 => far1 a (by omega))
  have fk1 : FrK H H1 := fun a ha => far1 a (by omega)
  refine RQ.blk 2 (pc' := 62) (lv' := [(4, .int (nI (l - k))), (0, .ref 1), (1, .int (nI v)), (2, .int (nI u)), (3, .int (nI k))]) (st' := [.int (nI v), .ref 1]) (H' := _) (kc' := 0) (ks' := 0) rfl ?_
  refine RQ.call (v := none) (st' := []) rfl rfl rfl rfl rfl rfl (args_v [.int (nI v)] [] rfl rfl (Nat.le_of_ble_eq_true rfl) rfl h01 (Nat.le_of_ble_eq_true rfl)) (rc_reqDir h01 rfl hT1.1 rfl hT1.2.1 hv (nI_is2 hkd)) ?_
  refine RQ.blk 2 (pc' := 67) (lv' := [(4, .int (nI (l - k))), (0, .ref 1), (1, .int (nI v)), (2, .int (nI u)), (3, .int (nI k))]) (st' := [.int (nI u), .ref 1]) (H' := _) (kc' := 0) (ks' := 0) rfl ?_
  refine RQ.call (v := none) (st' := []) rfl rfl rfl rfl rfl rfl (args_v [.int (nI u)] [] rfl rfl (Nat.le_of_ble_eq_true rfl) rfl h01 (Nat.le_of_ble_eq_true rfl)) (rc_reqDir h01 rfl hT1.1 rfl hT1.2.1 hu (nI_is2 hkd2)) ?_
  refine RQ.blk 1 (pc' := 71) (lv' := [(4, .int (nI (l - k))), (0, .ref 1), (1, .int (nI v)), (2, .int (nI u)), (3, .int (nI k))]) (st' := [.ref 1]) (H' := _) (kc' := 0) (ks' := 0) rfl ?_
  refine RQ.get (ci := 11) rfl h01 rfl rfl ?_
  refine RQ.blk 2 (pc' := 76) (lv' := [(4, .int (nI (l - k))), (0, .ref 1), (1, .int (nI v)), (2, .int (nI u)), (3, .int (nI k))]) (st' := [.ref 1, .int (nI v), .ref 66]) (H' := _) (kc' := 0) (ks' := 0) rfl ?_
  refine RQ.get (ci := 11) rfl h01 rfl rfl ?_
  refine RQ.get (ci := 5) rfl h11 rfl rfl ?_
  refine RQ.blk 2 (pc' := 84) (lv' := [(4, .int (nI (l - k))), (0, .ref 1), (1, .int (nI v)), (2, .int (nI u)), (3, .int (nI k))]) (st' := [.int (nI k), .int 0, .ref 3, .int (nI v), .ref 66]) (H' := _) (kc' := 0) (ks' := 0) rfl ?_
  refine RQ.call (v := some (.int (lI (fstF (inN t.1 t.2.1 t.2.2.2.1 t.2.2.2.2.1 v (sl tb 0 k)) 1 200)))) (st' := []) rfl rfl rfl rfl rfl rfl (args_v [.int (nI k), .int 0, .ref 3, .int (nI v)] [] rfl rfl (Nat.le_of_ble_eq_true rfl) rfl hT1.1 (Nat.le_of_ble_eq_true rfl)) (rc_childNamed (a := 2) (na := 2000) (j := 0) (m := k) hT1 hk h21 (by decide) (by omega) hv) ?_
  rw [hc1x]
  rw [show lI (some r) = nI r from rfl]
  have hr := fstF_lt hc1x
  have hkr := hk r (by omega)
  refine RQ.blk 3 (pc' := 92) (lv' := [(5, .int (nI r)), (4, .int (nI (l - k))), (0, .ref 1), (1, .int (nI v)), (2, .int (nI u)), (3, .int (nI k))]) (st' := [.int (nI r), .ref 1]) (H' := _) (kc' := 0) (ks' := 0) rfl ?_
  refine RQ.call (v := none) (st' := []) rfl rfl rfl rfl rfl rfl (args_v [.int (nI r)] [] rfl rfl (Nat.le_of_ble_eq_true rfl) rfl h01 (Nat.le_of_ble_eq_true rfl)) (rc_there (by omega)) ?_
  refine RQ.blk 1 (pc' := 96) (lv' := [(5, .int (nI r)), (4, .int (nI (l - k))), (0, .ref 1), (1, .int (nI v)), (2, .int (nI u)), (3, .int (nI k))]) (st' := [.ref 1]) (H' := _) (kc' := 0) (ks' := 0) rfl ?_
  refine RQ.get (ci := 11) rfl h01 rfl rfl ?_
  refine RQ.blk 2 (pc' := 101) (lv' := [(5, .int (nI r)), (4, .int (nI (l - k))), (0, .ref 1), (1, .int (nI v)), (2, .int (nI u)), (3, .int (nI k))]) (st' := [.ref 1, .int (nI u), .ref 66]) (H' := _) (kc' := 0) (ks' := 0) rfl ?_
  refine RQ.get (ci := 11) rfl h01 rfl rfl ?_
  refine RQ.get (ci := 5) rfl h11 rfl rfl ?_
  refine RQ.blk 2 (pc' := 110) (lv' := [(5, .int (nI r)), (4, .int (nI (l - k))), (0, .ref 1), (1, .int (nI v)), (2, .int (nI u)), (3, .int (nI k))]) (st' := [.int (nI (l - k)), .int (nI k), .ref 3, .int (nI u), .ref 66]) (H' := _) (kc' := 0) (ks' := 0) rfl ?_
  refine RQ.call (v := some (.int (lI (fstF (inN t.1 t.2.1 t.2.2.2.1 t.2.2.2.2.1 u (sl tb k (l - k))) 1 200)))) (st' := []) rfl rfl rfl rfl rfl rfl (args_v [.int (nI (l - k)), .int (nI k), .ref 3, .int (nI u)] [] rfl rfl (Nat.le_of_ble_eq_true rfl) rfl hT1.1 (Nat.le_of_ble_eq_true rfl)) (rc_childNamed (a := 2) (na := 2000) (j := k) (m := l - k) hT1 hk h21 (by decide) (by omega) hu) ?_
  rw [hc2x]
  rw [show lI (some q) = nI q from rfl]
  have hq := fstF_lt hc2x
  have hkq := hk q (by omega)
  refine RQ.blk 3 (pc' := 119) (lv' := [(6, .int (nI q)), (5, .int (nI r)), (4, .int (nI (l - k))), (0, .ref 1), (1, .int (nI v)), (2, .int (nI u)), (3, .int (nI k))]) (st' := [.int (nI r), .int (nI q)]) (H' := _) (kc' := 0) (ks' := 0) rfl ?_
  refine RQ.brT rfl rfl rfl (cT_ne q r) ?_
  refine RQ.blk 1 (pc' := 126) (lv' := [(6, .int (nI q)), (5, .int (nI r)), (4, .int (nI (l - k))), (0, .ref 1), (1, .int (nI v)), (2, .int (nI u)), (3, .int (nI k))]) (st' := [.ref 1]) (H' := _) (kc' := 0) (ks' := 0) rfl ?_
  refine RQ.get (ci := 11) rfl h01 rfl rfl ?_
  refine RQ.blk 1 (pc' := 131) (lv' := [(6, .int (nI q)), (5, .int (nI r)), (4, .int (nI (l - k))), (0, .ref 1), (1, .int (nI v)), (2, .int (nI u)), (3, .int (nI k))]) (st' := [.int (nI r), .ref 66]) (H' := _) (kc' := 0) (ks' := 0) rfl ?_
  refine RQ.call (v := some (.int 0)) (st' := []) rfl rfl rfl rfl rfl rfl (args_v [.int (nI r)] [] rfl rfl (Nat.le_of_ble_eq_true rfl) rfl hT1.1 (Nat.le_of_ble_eq_true rfl)) (rc_isDirF hT1.1 rfl hT1.2.1 (by omega) (nI_ne2 hkr.1 hd)) ?_
  refine RQ.brT rfl rfl rfl (by decide) ?_
  refine RQ.blk 1 (pc' := 156) (lv' := [(6, .int (nI q)), (5, .int (nI r)), (4, .int (nI (l - k))), (0, .ref 1), (1, .int (nI v)), (2, .int (nI u)), (3, .int (nI k))]) (st' := [.ref 1]) (H' := _) (kc' := 0) (ks' := 0) rfl ?_
  refine RQ.get (ci := 11) rfl h01 rfl rfl ?_
  refine RQ.blk 1 (pc' := 161) (lv' := [(6, .int (nI q)), (5, .int (nI r)), (4, .int (nI (l - k))), (0, .ref 1), (1, .int (nI v)), (2, .int (nI u)), (3, .int (nI k))]) (st' := [.int (nI q), .ref 66]) (H' := _) (kc' := 0) (ks' := 0) rfl ?_
  refine RQ.call (v := some (.int 0)) (st' := []) rfl rfl rfl rfl rfl rfl (args_v [.int (nI q)] [] rfl rfl (Nat.le_of_ble_eq_true rfl) rfl hT1.1 (Nat.le_of_ble_eq_true rfl)) (rc_isDirF hT1.1 rfl hT1.2.1 (by omega) (nI_ne2 hkq.1 hd2)) ?_
  refine RQ.brT rfl rfl rfl (by decide) ?_
  refine RQ.blk 1 (pc' := 179) (lv' := [(6, .int (nI q)), (5, .int (nI r)), (4, .int (nI (l - k))), (0, .ref 1), (1, .int (nI v)), (2, .int (nI u)), (3, .int (nI k))]) (st' := [.ref 1]) (H' := _) (kc' := 0) (ks' := 0) rfl ?_
  refine RQ.get (ci := 11) rfl h01 rfl rfl ?_
  refine RQ.blk 1 (pc' := 184) (lv' := [(6, .int (nI q)), (5, .int (nI r)), (4, .int (nI (l - k))), (0, .ref 1), (1, .int (nI v)), (2, .int (nI u)), (3, .int (nI k))]) (st' := [.int (nI r), .ref 66]) (H' := _) (kc' := 0) (ks' := 0) rfl ?_
  refine RQ.call (v := some (.int (nI (t.1 r)))) (st' := []) rfl rfl rfl rfl rfl rfl (args_v [.int (nI r)] [] rfl rfl (Nat.le_of_ble_eq_true rfl) rfl hT1.1 (Nat.le_of_ble_eq_true rfl)) (rc_kindOf hT1.1 rfl hT1.2.1 (by omega)) ?_
  refine RQ.blk 2 (pc' := 190) (lv' := [(7, .int (nI (t.1 r))), (6, .int (nI q)), (5, .int (nI r)), (4, .int (nI (l - k))), (0, .ref 1), (1, .int (nI v)), (2, .int (nI u)), (3, .int (nI k))]) (st' := [.ref 1]) (H' := _) (kc' := 0) (ks' := 0) rfl ?_
  refine RQ.get (ci := 11) rfl h01 rfl rfl ?_
  refine RQ.blk 1 (pc' := 195) (lv' := [(7, .int (nI (t.1 r))), (6, .int (nI q)), (5, .int (nI r)), (4, .int (nI (l - k))), (0, .ref 1), (1, .int (nI v)), (2, .int (nI u)), (3, .int (nI k))]) (st' := [.int (nI r), .ref 66]) (H' := _) (kc' := 0) (ks' := 0) rfl ?_
  refine RQ.call (v := some (.int (nI (t.2.2.1 r)))) (st' := []) rfl rfl rfl rfl rfl rfl (args_v [.int (nI r)] [] rfl rfl (Nat.le_of_ble_eq_true rfl) rfl hT1.1 (Nat.le_of_ble_eq_true rfl)) (rc_sizeOf hT1 hk (by omega)) ?_
  refine RQ.blk 1 (pc' := 200) (lv' := [(8, .int (nI (t.2.2.1 r))), (7, .int (nI (t.1 r))), (6, .int (nI q)), (5, .int (nI r)), (4, .int (nI (l - k))), (0, .ref 1), (1, .int (nI v)), (2, .int (nI u)), (3, .int (nI k))]) (st' := []) (H' := _) (kc' := 0) (ks' := 0) rfl ?_
  obtain ⟨⟨ws0, hb0⟩, Q0, hq0⟩ := hc1.2.2.2.2.2.2.2.2.1
  obtain ⟨D0, S0, K0, E0, hb0A, -⟩ := id hb0
  refine RQ.blk 1 (pc' := 201) (lv' := [(8, .int (nI (t.2.2.1 r))), (7, .int (nI (t.1 r))), (6, .int (nI q)), (5, .int (nI r)), (4, .int (nI (l - k))), (0, .ref 1), (1, .int (nI v)), (2, .int (nI u)), (3, .int (nI k))]) (st' := [.ref 1]) (H' := _) (kc' := 0) (ks' := 0) rfl ?_
  refine RQ.get (ci := 11) rfl h01 rfl rfl ?_
  refine RQ.callN (st' := []) rfl rfl rfl rfl rfl rfl (args_v [] [] rfl rfl (Nat.le_of_ble_eq_true rfl) rfl hb0A.1 (Nat.le_of_ble_eq_true rfl)) (rn_bclearI hb0) (fun H2 hx2 => ?_)
  obtain ⟨hb2, f2⟩ := hx2
  have h02 := (f2 0 (by decide)).trans h01
  have h12 := (f2 1 (by decide)).trans h11
  have h22 := (f2 2 (by decide)).trans h21
  have hT2 : TreeAt H2 t.1 t.2.1 t.2.2.1 t.2.2.2.1 t.2.2.2.2.1 t.2.2.2.2.2 := hT1.far (fun a a1 a2 => f2 a (by omega))
  have hq2 := (f2 64 (by decide)).trans hq0
  have e52 : ∃ q : Nat, H2[5]? = some (kO 5 [.ref 7, .int (nI q)]) := ⟨q5, (f2 5 (by decide)).trans ((far1 5 (by decide)).trans h5)⟩
  have e62 : ∃ g, H2[6]? = some (kB 41 g) := ⟨p6, (f2 6 (by decide)).trans ((far1 6 (by decide)).trans h6)⟩
  refine RQ.blk 6 (pc' := 216) (lv' := [(8, .int (nI (t.2.2.1 r))), (7, .int (nI (t.1 r))), (6, .int (nI q)), (5, .int (nI r)), (4, .int (nI (l - k))), (0, .ref 1), (1, .int (nI v)), (2, .int (nI u)), (3, .int (nI k))]) (st' := [.ref 1, .int (nI (t.2.2.1 r)), .int (nI u), .int (nI (t.1 r)), .int (nI r), .ref 1]) (H' := _) (kc' := 0) (ks' := 0) rfl ?_
  refine RQ.get (ci := 11) rfl h02 rfl rfl ?_
  refine RQ.get (ci := 5) rfl h12 rfl rfl ?_
  refine RQ.blk 2 (pc' := 225) (lv' := [(8, .int (nI (t.2.2.1 r))), (7, .int (nI (t.1 r))), (6, .int (nI q)), (5, .int (nI r)), (4, .int (nI (l - k))), (0, .ref 1), (1, .int (nI v)), (2, .int (nI u)), (3, .int (nI k))]) (st' := [.int (nI (l - k)), .int (nI k), .ref 3, .int (nI (t.2.2.1 r)), .int (nI u), .int (nI (t.1 r)), .int (nI r), .ref 1]) (H' := _) (kc' := 0) (ks' := 0) rfl ?_
  refine RQ.callN (st' := []) rfl rfl rfl rfl rfl rfl (args_v [.int (nI (l - k)), .int (nI k), .ref 3, .int (nI (t.2.2.1 r)), .int (nI u), .int (nI (t.1 r)), .int (nI r)] [] rfl rfl (Nat.le_of_ble_eq_true rfl) rfl h02 (Nat.le_of_ble_eq_true rfl)) (rn_chNode (v := r) (k := t.1 r) (dir := u) (s := t.2.2.1 r) (a := 2) (na := 2000) (i := k) (n := l - k) h02 e52 e62 hb2 h22 (by decide) (by decide) (by decide) (by decide) (by omega) (by omega) (by omega) (by omega) (by omega) (by omega) (by decide) (by show 0 + 6 + (l - k) ≤ 4100; omega)) (fun Hc hxc => ?_)
  obtain ⟨hbc, e5c, e6c, fc⟩ := hxc
  have hbc : BatchIs Hc 59 [([1, r], some ([t.1 r, u] ++ (beB 2 (t.2.2.1 r) ++ sl tb k (l - k))))] := hbc
  refine RQ.blk 1 (pc' := 230) (lv' := [(8, .int (nI (t.2.2.1 r))), (7, .int (nI (t.1 r))), (6, .int (nI q)), (5, .int (nI r)), (4, .int (nI (l - k))), (0, .ref 1), (1, .int (nI v)), (2, .int (nI u)), (3, .int (nI k))]) (st' := [.int (nI q)]) (H' := _) (kc' := 0) (ks' := 0) rfl ?_
  refine RQ.brF rfl rfl rfl (cF_lt q 0) ?_
  refine RQ.blk 2 (pc' := 236) (lv' := [(8, .int (nI (t.2.2.1 r))), (7, .int (nI (t.1 r))), (6, .int (nI q)), (5, .int (nI r)), (4, .int (nI (l - k))), (0, .ref 1), (1, .int (nI v)), (2, .int (nI u)), (3, .int (nI k))]) (st' := [.int (nI q), .ref 1]) (H' := _) (kc' := 0) (ks' := 0) rfl ?_
  have hno : eLen ([1, r], some ([t.1 r, u] ++ (beB 2 (t.2.2.1 r) ++ sl tb k (l - k)))) ≤ 36 := by
    show 2 + ([t.1 r, u] ++ (beB 2 (t.2.2.1 r) ++ sl tb k (l - k))).length ≤ 36
    rw [List.length_append, List.length_append, beB_len, sl_length]
    show 2 + (2 + (2 + (l - k))) ≤ 36
    omega
  refine RQ.callN (st' := []) rfl rfl rfl rfl rfl rfl (args_v [.int (nI q)] [] rfl rfl (Nat.le_of_ble_eq_true rfl) rfl ((fc 0 (by decide) (by decide) (by decide)).trans h02) (Nat.le_of_ble_eq_true rfl)) (rn_chGone (f := q) (vs := vs) ((fc 0 (by decide) (by decide) (by decide)).trans h02) e5c e6c hbc (hV.far (fun a a1 a2 => (fc a (by omega) (by omega) (by omega)).trans ((f2 a (by omega)).trans (far1 a (by omega))))) (by omega) (by show 1 + 33 ≤ 40; decide) (by rw [eOff_one]; omega)) (fun H3 hx3 => ?_)
  obtain ⟨hb3, e53, e63, f3x⟩ := hx3
  rw [hws] at hb3
  have f3 : ∀ a, a ≠ 5 → a ≠ 6 → ¬ (59 ≤ a ∧ a < 64) → H3[a]? = H2[a]? := fun a a1 a2 a3 => (f3x a a1 a2 a3).trans (fc a a1 a2 a3)
  have f13 : ∀ a, a ≠ 5 → a ≠ 6 → ¬ (59 ≤ a ∧ a < 64) → H3[a]? = H1[a]? := fun a a1 a2 a3 => (f3 a a1 a2 a3).trans (f2 a (by omega))
  have hc3 : ClsA H3 B P 1 1 1 cp cb tb 0 g rl wss t := by
    obtain ⟨qa, ea⟩ := e53
    obtain ⟨pa, eb⟩ := e63
    obtain ⟨c0, c1, c2, c3, c4, -, ⟨wq2, c10, cwq⟩, cW, -, cT⟩ := hc1
    exact ⟨(f13 0 (by decide) (by decide) (by decide)).trans c0, (f13 1 (by decide) (by decide) (by decide)).trans c1, (f13 2 (by decide) (by decide) (by decide)).trans c2, (f13 3 (by decide) (by decide) (by decide)).trans c3, (f13 4 (by decide) (by decide) (by decide)).trans c4, ⟨qa, pa, ea, eb⟩, ⟨wq2, (f13 10 (by decide) (by decide) (by decide)).trans c10, cwq⟩, fun t ht => ⟨(cW t ht).1.keep (fun a a1 a2 => f13 a (by omega) (by omega) (by omega)), (cW t ht).2.imp (fun Q hQ => (f13 _ (by omega) (by omega) (by omega)).trans hQ)⟩, ⟨⟨_, hb3⟩, Q0, (f3 64 (by decide) (by decide) (by decide)).trans hq2⟩, cT.far (fun a a1 a2 => f13 a (by omega) (by omega) (by omega))⟩
  have fk3 : FrK H H3 := fk1.trans (fun a ha => f13 a (by omega) (by omega) (by omega))
  have hch3 : ChB H H3 B P 1 1 cp cb tb 0 g rl wss t ws := ⟨hc3, hb3, fk3⟩
  obtain ⟨D3, S3, K3, E3, hb3A, hb3L, hb340, hb341⟩ := id hb3
  have hb3k := hb3L.ok hb340 hb341
  have h03 := hc3.1
  have h13 := hc3.2.1
  have h23 := hc3.2.2.1
  have hT3 : TreeAt H3 t.1 t.2.1 t.2.2.1 t.2.2.2.1 t.2.2.2.2.1 t.2.2.2.2.2 := hc3.2.2.2.2.2.2.2.2.2
  refine RQ.blk 2 (pc' := 241) (lv' := [(8, .int (nI (t.2.2.1 r))), (7, .int (nI (t.1 r))), (6, .int (nI q)), (5, .int (nI r)), (4, .int (nI (l - k))), (0, .ref 1), (1, .int (nI v)), (2, .int (nI u)), (3, .int (nI k))]) (st' := [.ref 1, .ref 1]) (H' := _) (kc' := 0) (ks' := 0) rfl ?_
  refine RQ.get (ci := 11) rfl h03 rfl rfl ?_
  refine RQ.blk 1 (pc' := 245) (lv' := [(8, .int (nI (t.2.2.1 r))), (7, .int (nI (t.1 r))), (6, .int (nI q)), (5, .int (nI r)), (4, .int (nI (l - k))), (0, .ref 1), (1, .int (nI v)), (2, .int (nI u)), (3, .int (nI k))]) (st' := [.int (-1), .ref 60, .ref 1]) (H' := _) (kc' := 0) (ks' := 0) rfl ?_
  obtain ⟨kf3, kl3, mo3, pl3, le3, al3, od3, sp3, sz3, ss3, ac3, hA3, hVW3, hvs3⟩ := (hV.far (fun a a1 a2 => fk3 a (by omega)) : VersIs H3 N vs)
  refine RQ.call (v := none) (st' := []) rfl rfl rfl rfl rfl rfl (args_v [.int (-1), .ref 60] [] rfl rfl (Nat.le_of_ble_eq_true rfl) rfl h03 (Nat.le_of_ble_eq_true rfl)) (rc_reqRoom h03 hA3 hVW3 hvs3 hb3A hb3k hb3L (hs.far2 (fun a a1 a2 => fk3 a (by omega))) (fun t ht => Nat.lt_trans (hsm t ht) (by decide)) (fun i hi => by obtain ⟨e, he⟩ := lt_get hi; rw [(hb3L i e he).2.1]; exact (hkl e (List.mem_of_getElem? he))) h1W hpr (by omega) hB hle) ?_
  refine RQ.blk 2 (pc' := 250) (lv' := [(8, .int (nI (t.2.2.1 r))), (7, .int (nI (t.1 r))), (6, .int (nI q)), (5, .int (nI r)), (4, .int (nI (l - k))), (0, .ref 1), (1, .int (nI v)), (2, .int (nI u)), (3, .int (nI k))]) (st' := [.ref 1, .ref 1]) (H' := _) (kc' := 0) (ks' := 0) rfl ?_
  refine RQ.get (ci := 11) rfl h03 rfl rfl ?_
  refine RQ.get (ci := 0) rfl hb3A.1 rfl rfl ?_
  refine RQ.blk 2 (pc' := 258) (lv' := [(8, .int (nI (t.2.2.1 r))), (7, .int (nI (t.1 r))), (6, .int (nI q)), (5, .int (nI r)), (4, .int (nI (l - k))), (0, .ref 1), (1, .int (nI v)), (2, .int (nI u)), (3, .int (nI k))]) (st' := [.int (nI ws.length + 1), .ref 1]) (H' := _) (kc' := 0) (ks' := 0) rfl ?_
  rw [show (nI ws.length + 1 : Int32) = nI (ws.length + 1) from nI_add ws.length 1]
  refine RQ.call (v := none) (st' := []) rfl rfl rfl rfl rfl rfl (args_v [.int (nI (ws.length + 1))] [] rfl rfl (Nat.le_of_ble_eq_true rfl) rfl h03 (Nat.le_of_ble_eq_true rfl)) (rc_armCutL h03) ?_
  refine RQ.blk 2 (pc' := 263) (lv' := [(8, .int (nI (t.2.2.1 r))), (7, .int (nI (t.1 r))), (6, .int (nI q)), (5, .int (nI r)), (4, .int (nI (l - k))), (0, .ref 1), (1, .int (nI v)), (2, .int (nI u)), (3, .int (nI k))]) (st' := [.ref 1, .ref 1]) (H' := _) (kc' := 0) (ks' := 0) rfl ?_
  refine RQ.callB (st' := [.ref 1]) rfl rfl rfl rfl rfl rfl (args_v [] [.ref 1] rfl rfl (Nat.le_of_ble_eq_true rfl) rfl h03 (Nat.le_of_ble_eq_true rfl)) (hRM H3 hch3) (fun H4 hH4 => ?_) (fun H4 hH4 => False.elim hH4)
  · have g1 := hf1 H4 hH4
    refine RQ.brF rfl rfl rfl (by decide) ?_
    refine RQ.blk 2 (pc' := 271) (lv' := [(8, .int (nI (t.2.2.1 r))), (7, .int (nI (t.1 r))), (6, .int (nI q)), (5, .int (nI r)), (4, .int (nI (l - k))), (0, .ref 1), (1, .int (nI v)), (2, .int (nI u)), (3, .int (nI k))]) (st' := [.ref 1, .ref 1, .ref 1]) (H' := _) (kc' := 0) (ks' := 0) rfl ?_
    refine RQ.get (ci := 11) rfl g1 rfl rfl ?_
    refine RQ.callB (st' := [.ref 1]) rfl rfl rfl rfl rfl rfl (args_v [.ref 60] [.ref 1] rfl rfl (Nat.le_of_ble_eq_true rfl) rfl g1 (Nat.le_of_ble_eq_true rfl)) (hST H4 hH4) (fun H5 hH5 => ?_) (fun H5 hH5 => False.elim hH5)
    · have g2 := hf2 H5 hH5
      refine RQ.brF rfl rfl rfl (by decide) ?_
      refine RQ.blk 2 (pc' := 285) (lv' := [(8, .int (nI (t.2.2.1 r))), (7, .int (nI (t.1 r))), (6, .int (nI q)), (5, .int (nI r)), (4, .int (nI (l - k))), (0, .ref 1), (1, .int (nI v)), (2, .int (nI u)), (3, .int (nI k))]) (st' := [.int 1, .ref 1]) (H' := _) (kc' := 0) (ks' := 0) rfl ?_
      obtain ⟨HX, hxX, hpX⟩ := hSE H5 hH5
      exact RQ.callP (st' := []) rfl rfl rfl rfl rfl rfl (args_v [.int 1] [] rfl rfl (Nat.le_of_ble_eq_true rfl) rfl g2 (Nat.le_of_ble_eq_true rfl)) hxX rfl ⟨_, 1, by decide, rfl, hpX⟩
set_option maxRecDepth 20000 in
theorem rx_rename1_cut {sc : Nat × (Nat → Int32)} {d : Nat} {H : aH} {B P : Nat}  {cp cb : Nat} {tb : Nat → Int8} {l : Nat} {g : Nat → Int8} {rl : Nat} {wss : Nat → List aE} {t : aTr} {v u k r q : Nat} {ws : List aE} {N : Nat} {op : Nat → Bool} {sm : Nat → Nat} {vs : List aV} {ok1 bad fin : aH → Prop} (h : ClsA H B P 1 1 0 cp cb tb l g rl wss t) (hk : TreeOk t.1 t.2.1 t.2.2.1 t.2.2.2.1) (hv : v ≤ 200) (hu : u ≤ 200) (hk1 : 1 ≤ k) (hk2 : k ≤ 30) (hk3 : k + 1 ≤ l) (hk4 : l ≤ k + 30) (hnm : ∀ j, j < k → ¬ btB tb l (0 + j) = 47) (hnm2 : ∀ j, j < l - k → ¬ btB tb l (k + j) = 47) (hkd : t.1 v = 2) (hkd2 : t.1 u = 2) (hc1x : fstF (inN t.1 t.2.1 t.2.2.2.1 t.2.2.2.2.1 v (sl tb 0 k)) 1 200 = some r) (hc2x : fstF (inN t.1 t.2.1 t.2.2.2.1 t.2.2.2.2.1 u (sl tb k (l - k))) 1 200 = some q) (hqr : ¬ q = r) (hd : ¬ t.1 r = 2) (hd2 : ¬ t.1 q = 2) (hws : [([1, r], some ([t.1 r, u] ++ (beB 2 (t.2.2.1 r) ++ sl tb k (l - k))))] ++ [([1, q], none)] ++ goneW vs q 32 = ws) (h1W : OneW ws) (hkl : ∀ e ∈ ws, 1 ≤ e.1.length) (hs : SightAt H op sm) (hsm : ∀ t, t < 8 → sm t < 2 ^ 30) (hV : VersIs H N vs) (hpr : ∀ v ∈ vs, v.2.1 ≤ P) (hP : P + 1 < 2 ^ 30) (hB : B ≤ 128) (hle : sumN op sm (-1) (P + 1) (kmV (inclV (P + 1) (fun _ => 0) 0 ws vs)) (inclV (P + 1) (fun _ => 0) 0 ws vs) ≤ B * 256) (hC0 : ∀ H', ChB H H' B P 1 0 cp cb tb 0 g rl wss t ws → ∃ cf tf pq bb, ChipAt H' B cf tf pq bb 0) (hcp : cp < 2 ^ 31) (hRM : ∀ H', ChB H H' B P 1 0 cp cb tb 0 g rl wss t ws → RB sc (d + 7) mr_96 [.ref 1] (H'.set 71 (kO 1 [.ref 73, .ref 74, .int (lI (some (cp % (ws.length + 1)))), .int (nI cb), .int (nI 0)])) ok1 bad) (hST : ∀ H', ok1 H' → RB sc (d + 7) mr_150 [.ref 1, .ref 60] H' (fun _ => False) bad) (hf1 : ∀ H', ok1 H' → H'[0]? = some (kO 11 (fvs (nI B) (nI P) 1 1 0 (nI cp) (nI cb)))) (hSB : ∀ H', bad H' → RX sc (d + 7) mr_153 [.ref 1, .int 0] H' 1 fin) (hfb : ∀ H', bad H' → H'[0]? = some (kO 11 (fvs (nI B) (nI P) 1 1 0 (nI cp) (nI cb)))) : RXc sc (d + 8) mr_233 [.ref 1, .int (nI v), .int (nI u), .int (nI k)] H 1 (fun H' => fin H') := by
  obtain ⟨h0, h1, h2, h3, h4, ⟨q5, p6, h5, h6⟩, ⟨wq, h10, hwq⟩, hW, hCh, hT⟩ := id h
  refine RXc.of ?_
  refine RQ.blk 2 (pc' := 2) (lv' := [(0, .ref 1), (1, .int (nI v)), (2, .int (nI u)), (3, .int (nI k))]) (st' := [.int (nI v), .ref 1]) (H' := _) (kc' := 0) (ks' := 0) rfl ?_
  refine RQ.call (v := none) (st' := []) rfl rfl rfl rfl rfl rfl (args_v [.int (nI v)] [] rfl rfl (Nat.le_of_ble_eq_true rfl) rfl h0 (Nat.le_of_ble_eq_true rfl)) (rc_reqNum h0 hv) ?_
  refine RQ.blk 2 (pc' := 7) (lv' := [(0, .ref 1), (1, .int (nI v)), (2, .int (nI u)), (3, .int (nI k))]) (st' := [.int (nI u), .ref 1]) (H' := _) (kc' := 0) (ks' := 0) rfl ?_
  refine RQ.call (v := none) (st' := []) rfl rfl rfl rfl rfl rfl (args_v [.int (nI u)] [] rfl rfl (Nat.le_of_ble_eq_true rfl) rfl h0 (Nat.le_of_ble_eq_true rfl)) (rc_reqNum h0 hu) ?_
  refine RQ.blk 5 (pc' := 16) (lv' := [(0, .ref 1), (1, .int (nI v)), (2, .int (nI u)), (3, .int (nI k))]) (st' := [.ref 1, .int 30, .int 1, .int (nI k), .ref 1]) (H' := _) (kc' := 0) (ks' := 0) rfl ?_
  refine RQ.get (ci := 11) rfl h0 rfl rfl ?_
  refine RQ.get (ci := 5) rfl h1 rfl rfl ?_
  refine RQ.blk 1 (pc' := 25) (lv' := [(0, .ref 1), (1, .int (nI v)), (2, .int (nI u)), (3, .int (nI k))]) (st' := [.int (if nI l < 30 then nI l else 30), .int 1, .int (nI k), .ref 1]) (H' := _) (kc' := 0) (ks' := 0) rfl ?_
  rw [show (if nI l < 30 then nI l else 30 : Int32) = nI (min 30 l) from minI (a := 30) (b := l) (by omega) (by omega)]
  refine RQ.call (v := none) (st' := []) rfl rfl rfl rfl rfl rfl (args_v [.int (nI (min 30 l)), .int 1, .int (nI k)] [] rfl rfl (Nat.le_of_ble_eq_true rfl) rfl h0 (Nat.le_of_ble_eq_true rfl)) (rc_range (fun e => absurd e (nI_nlt hk1 (by omega))) (rg_hi (n := min 30 l) (by omega) (by omega))) ?_
  refine RQ.blk 3 (pc' := 31) (lv' := [(0, .ref 1), (1, .int (nI v)), (2, .int (nI u)), (3, .int (nI k))]) (st' := [.int (nI k), .int 0, .ref 1]) (H' := _) (kc' := 0) (ks' := 0) rfl ?_
  refine RQ.call (v := none) (st' := []) rfl rfl rfl rfl rfl rfl (args_v [.int (nI k), .int 0] [] rfl rfl (Nat.le_of_ble_eq_true rfl) rfl h0 (Nat.le_of_ble_eq_true rfl)) (rc_requireName1 (i := 0) h0 ⟨h1, h2, by decide, by decide⟩ (by omega) (by decide) hk1 hk2 hnm) ?_
  refine RQ.blk 3 (pc' := 37) (lv' := [(0, .ref 1), (1, .int (nI v)), (2, .int (nI u)), (3, .int (nI k))]) (st' := [.ref 1, .int (nI k), .ref 1]) (H' := _) (kc' := 0) (ks' := 0) rfl ?_
  refine RQ.get (ci := 11) rfl h0 rfl rfl ?_
  refine RQ.get (ci := 5) rfl h1 rfl rfl ?_
  refine RQ.blk 2 (pc' := 45) (lv' := [(0, .ref 1), (1, .int (nI v)), (2, .int (nI u)), (3, .int (nI k))]) (st' := [.int (nI l - nI k), .int (nI k), .ref 1]) (H' := _) (kc' := 0) (ks' := 0) rfl ?_
  rw [show (nI l - nI k : Int32) = nI (l - k) from pk_sub (a := l) (b := k) (by omega)]
  refine RQ.call (v := none) (st' := []) rfl rfl rfl rfl rfl rfl (args_v [.int (nI (l - k)), .int (nI k)] [] rfl rfl (Nat.le_of_ble_eq_true rfl) rfl h0 (Nat.le_of_ble_eq_true rfl)) (rc_requireName1 (i := k) (n := l - k) h0 ⟨h1, h2, by decide, by decide⟩ (by omega) (by omega) (by omega) (by omega) hnm2) ?_
  refine RQ.blk 1 (pc' := 49) (lv' := [(0, .ref 1), (1, .int (nI v)), (2, .int (nI u)), (3, .int (nI k))]) (st' := [.ref 1]) (H' := _) (kc' := 0) (ks' := 0) rfl ?_
  refine RQ.call (v := none) (st' := []) rfl rfl rfl rfl rfl rfl (args_v [] [] rfl rfl (Nat.le_of_ble_eq_true rfl) rfl h0 (Nat.le_of_ble_eq_true rfl)) (rc_up h0 rfl) ?_
  refine RQ.blk 1 (pc' := 53) (lv' := [(0, .ref 1), (1, .int (nI v)), (2, .int (nI u)), (3, .int (nI k))]) (st' := [.ref 1]) (H' := _) (kc' := 0) (ks' := 0) rfl ?_
  refine RQ.call (v := some (.int (nI l))) (st' := []) rfl rfl rfl rfl rfl rfl (args_v [] [] rfl rfl (Nat.le_of_ble_eq_true rfl) rfl h0 (Nat.le_of_ble_eq_true rfl)) (rc_takeTape h0 h1) ?_
  have far1 : ∀ a, a ≠ 1 → (H.set 1 (kO 5 [.ref 3, .int (nI 0)]))[a]? = H[a]? := fun a ha => set_far ha
  have h11 : (H.set 1 (kO 5 [.ref 3, .int (nI 0)]))[1]? = some (kO 5 [.ref 3, .int (nI 0)]) := get_set h1
  refine RQ.blk 2 (pc' := 58) (lv' := [(0, .ref 1), (1, .int (nI v)), (2, .int (nI u)), (3, .int (nI k))]) (st' := [.int (nI l - nI k)]) (H' := _) (kc' := 0) (ks' := 0) rfl ?_
  rw [show (nI l - nI k : Int32) = nI (l - k) from pk_sub (a := l) (b := k) (by omega)]
  refine RQ.blk 1 (pc' := 60) (lv' := [(4, .int (nI (l - k))), (0, .ref 1), (1, .int (nI v)), (2, .int (nI u)), (3, .int (nI k))]) (st' := []) (H' := _) (kc' := 0) (ks' := 0) rfl ?_
  show RQ _ _ _ 60 [(4, .int (nI (l - k))), (0, .ref 1), (1, .int (nI v)), (2, .int (nI u)), (3, .int (nI k))] [] (H.set 1 (kO 5 [.ref 3, .int (nI 0)])) 0 0 _
  generalize (H.set 1 (kO 5 [.ref 3, .int (nI 0)])) = H1 at far1 h11 ⊢
  have h01 := (far1 0 (by decide)).trans h0
  have h21 := (far1 2 (by decide)).trans h2
  have hT1 : TreeAt H1 t.1 t.2.1 t.2.2.1 t.2.2.2.1 t.2.2.2.2.1 t.2.2.2.2.2 := hT.far (fun a a1 a2 => far1 a (by omega))
  have hc1 : ClsA H1 B P 1 1 0 cp cb tb 0 g rl wss t := h.small h01 h11 h21 ((far1 3 (by decide)).trans h3) ((far1 4 (by decide)).trans h4) ⟨q5, p6, (far1 5 (by decide)).trans h5, (far1 6 (by decide)).trans h6⟩ (fun a a1 a2 => far1 a (by omega))
  have fk1 : FrK H H1 := fun a ha => far1 a (by omega)
  refine RQ.blk 2 (pc' := 62) (lv' := [(4, .int (nI (l - k))), (0, .ref 1), (1, .int (nI v)), (2, .int (nI u)), (3, .int (nI k))]) (st' := [.int (nI v), .ref 1]) (H' := _) (kc' := 0) (ks' := 0) rfl ?_
  refine RQ.call (v := none) (st' := []) rfl rfl rfl rfl rfl rfl (args_v [.int (nI v)] [] rfl rfl (Nat.le_of_ble_eq_true rfl) rfl h01 (Nat.le_of_ble_eq_true rfl)) (rc_reqDir h01 rfl hT1.1 rfl hT1.2.1 hv (nI_is2 hkd)) ?_
  refine RQ.blk 2 (pc' := 67) (lv' := [(4, .int (nI (l - k))), (0, .ref 1), (1, .int (nI v)), (2, .int (nI u)), (3, .int (nI k))]) (st' := [.int (nI u), .ref 1]) (H' := _) (kc' := 0) (ks' := 0) rfl ?_
  refine RQ.call (v := none) (st' := []) rfl rfl rfl rfl rfl rfl (args_v [.int (nI u)] [] rfl rfl (Nat.le_of_ble_eq_true rfl) rfl h01 (Nat.le_of_ble_eq_true rfl)) (rc_reqDir h01 rfl hT1.1 rfl hT1.2.1 hu (nI_is2 hkd2)) ?_
  refine RQ.blk 1 (pc' := 71) (lv' := [(4, .int (nI (l - k))), (0, .ref 1), (1, .int (nI v)), (2, .int (nI u)), (3, .int (nI k))]) (st' := [.ref 1]) (H' := _) (kc' := 0) (ks' := 0) rfl ?_
  refine RQ.get (ci := 11) rfl h01 rfl rfl ?_
  refine RQ.blk 2 (pc' := 76) (lv' := [(4, .int (nI (l - k))), (0, .ref 1), (1, .int (nI v)), (2, .int (nI u)), (3, .int (nI k))]) (st' := [.ref 1, .int (nI v), .ref 66]) (H' := _) (kc' := 0) (ks' := 0) rfl ?_
  refine RQ.get (ci := 11) rfl h01 rfl rfl ?_
  refine RQ.get (ci := 5) rfl h11 rfl rfl ?_
  refine RQ.blk 2 (pc' := 84) (lv' := [(4, .int (nI (l - k))), (0, .ref 1), (1, .int (nI v)), (2, .int (nI u)), (3, .int (nI k))]) (st' := [.int (nI k), .int 0, .ref 3, .int (nI v), .ref 66]) (H' := _) (kc' := 0) (ks' := 0) rfl ?_
  refine RQ.call (v := some (.int (lI (fstF (inN t.1 t.2.1 t.2.2.2.1 t.2.2.2.2.1 v (sl tb 0 k)) 1 200)))) (st' := []) rfl rfl rfl rfl rfl rfl (args_v [.int (nI k), .int 0, .ref 3, .int (nI v)] [] rfl rfl (Nat.le_of_ble_eq_true rfl) rfl hT1.1 (Nat.le_of_ble_eq_true rfl)) (rc_childNamed (a := 2) (na := 2000) (j := 0) (m := k) hT1 hk h21 (by decide) (by omega) hv) ?_
  rw [hc1x]
  rw [show lI (some r) = nI r from rfl]
  have hr := fstF_lt hc1x
  have hkr := hk r (by omega)
  refine RQ.blk 3 (pc' := 92) (lv' := [(5, .int (nI r)), (4, .int (nI (l - k))), (0, .ref 1), (1, .int (nI v)), (2, .int (nI u)), (3, .int (nI k))]) (st' := [.int (nI r), .ref 1]) (H' := _) (kc' := 0) (ks' := 0) rfl ?_
  refine RQ.call (v := none) (st' := []) rfl rfl rfl rfl rfl rfl (args_v [.int (nI r)] [] rfl rfl (Nat.le_of_ble_eq_true rfl) rfl h01 (Nat.le_of_ble_eq_true rfl)) (rc_there (by omega)) ?_
  refine RQ.blk 1 (pc' := 96) (lv' := [(5, .int (nI r)), (4, .int (nI (l - k))), (0, .ref 1), (1, .int (nI v)), (2, .int (nI u)), (3, .int (nI k))]) (st' := [.ref 1]) (H' := _) (kc' := 0) (ks' := 0) rfl ?_
  refine RQ.get (ci := 11) rfl h01 rfl rfl ?_
  refine RQ.blk 2 (pc' := 101) (lv' := [(5, .int (nI r)), (4, .int (nI (l - k))), (0, .ref 1), (1, .int (nI v)), (2, .int (nI u)), (3, .int (nI k))]) (st' := [.ref 1, .int (nI u), .ref 66]) (H' := _) (kc' := 0) (ks' := 0) rfl ?_
  refine RQ.get (ci := 11) rfl h01 rfl rfl ?_
  refine RQ.get (ci := 5) rfl h11 rfl rfl ?_
  refine RQ.blk 2 (pc' := 110) (lv' := [(5, .int (nI r)), (4, .int (nI (l - k))), (0, .ref 1), (1, .int (nI v)), (2, .int (nI u)), (3, .int (nI k))]) (st' := [.int (nI (l - k)), .int (nI k), .ref 3, .int (nI u), .ref 66]) (H' := _) (kc' := 0) (ks' := 0) rfl ?_
  refine RQ.call (v := some (.int (lI (fstF (inN t.1 t.2.1 t.2.2.2.1 t.2.2.2.2.1 u (sl tb k (l - k))) 1 200)))) (st' := []) rfl rfl rfl rfl rfl rfl (args_v [.int (nI (l - k)), .int (nI k), .ref 3, .int (nI u)] [] rfl rfl (Nat.le_of_ble_eq_true rfl) rfl hT1.1 (Nat.le_of_ble_eq_true rfl)) (rc_childNamed (a := 2) (na := 2000) (j := k) (m := l - k) hT1 hk h21 (by decide) (by omega) hu) ?_
  rw [hc2x]
  rw [show lI (some q) = nI q from rfl]
  have hq := fstF_lt hc2x
  have hkq := hk q (by omega)
  refine RQ.blk 3 (pc' := 119) (lv' := [(6, .int (nI q)), (5, .int (nI r)), (4, .int (nI (l - k))), (0, .ref 1), (1, .int (nI v)), (2, .int (nI u)), (3, .int (nI k))]) (st' := [.int (nI r), .int (nI q)]) (H' := _) (kc' := 0) (ks' := 0) rfl ?_
  refine RQ.brT rfl rfl rfl (cT_ne q r) ?_
  refine RQ.blk 1 (pc' := 126) (lv' := [(6, .int (nI q)), (5, .int (nI r)), (4, .int (nI (l - k))), (0, .ref 1), (1, .int (nI v)), (2, .int (nI u)), (3, .int (nI k))]) (st' := [.ref 1]) (H' := _) (kc' := 0) (ks' := 0) rfl ?_
  refine RQ.get (ci := 11) rfl h01 rfl rfl ?_
  refine RQ.blk 1 (pc' := 131) (lv' := [(6, .int (nI q)), (5, .int (nI r)), (4, .int (nI (l - k))), (0, .ref 1), (1, .int (nI v)), (2, .int (nI u)), (3, .int (nI k))]) (st' := [.int (nI r), .ref 66]) (H' := _) (kc' := 0) (ks' := 0) rfl ?_
  refine RQ.call (v := some (.int 0)) (st' := []) rfl rfl rfl rfl rfl rfl (args_v [.int (nI r)] [] rfl rfl (Nat.le_of_ble_eq_true rfl) rfl hT1.1 (Nat.le_of_ble_eq_true rfl)) (rc_isDirF hT1.1 rfl hT1.2.1 (by omega) (nI_ne2 hkr.1 hd)) ?_
  refine RQ.brT rfl rfl rfl (by decide) ?_
  refine RQ.blk 1 (pc' := 156) (lv' := [(6, .int (nI q)), (5, .int (nI r)), (4, .int (nI (l - k))), (0, .ref 1), (1, .int (nI v)), (2, .int (nI u)), (3, .int (nI k))]) (st' := [.ref 1]) (H' := _) (kc' := 0) (ks' := 0) rfl ?_
  refine RQ.get (ci := 11) rfl h01 rfl rfl ?_
  refine RQ.blk 1 (pc' := 161) (lv' := [(6, .int (nI q)), (5, .int (nI r)), (4, .int (nI (l - k))), (0, .ref 1), (1, .int (nI v)), (2, .int (nI u)), (3, .int (nI k))]) (st' := [.int (nI q), .ref 66]) (H' := _) (kc' := 0) (ks' := 0) rfl ?_
  refine RQ.call (v := some (.int 0)) (st' := []) rfl rfl rfl rfl rfl rfl (args_v [.int (nI q)] [] rfl rfl (Nat.le_of_ble_eq_true rfl) rfl hT1.1 (Nat.le_of_ble_eq_true rfl)) (rc_isDirF hT1.1 rfl hT1.2.1 (by omega) (nI_ne2 hkq.1 hd2)) ?_
  refine RQ.brT rfl rfl rfl (by decide) ?_
  refine RQ.blk 1 (pc' := 179) (lv' := [(6, .int (nI q)), (5, .int (nI r)), (4, .int (nI (l - k))), (0, .ref 1), (1, .int (nI v)), (2, .int (nI u)), (3, .int (nI k))]) (st' := [.ref 1]) (H' := _) (kc' := 0) (ks' := 0) rfl ?_
  refine RQ.get (ci := 11) rfl h01 rfl rfl ?_
  refine RQ.blk 1 (pc' := 184) (lv' := [(6, .int (nI q)), (5, .int (nI r)), (4, .int (nI (l - k))), (0, .ref 1), (1, .int (nI v)), (2, .int (nI u)), (3, .int (nI k))]) (st' := [.int (nI r), .ref 66]) (H' := _) (kc' := 0) (ks' := 0) rfl ?_
  refine RQ.call (v := some (.int (nI (t.1 r)))) (st' := []) rfl rfl rfl rfl rfl rfl (args_v [.int (nI r)] [] rfl rfl (Nat.le_of_ble_eq_true rfl) rfl hT1.1 (Nat.le_of_ble_eq_true rfl)) (rc_kindOf hT1.1 rfl hT1.2.1 (by omega)) ?_
  refine RQ.blk 2 (pc' := 190) (lv' := [(7, .int (nI (t.1 r))), (6, .int (nI q)), (5, .int (nI r)), (4, .int (nI (l - k))), (0, .ref 1), (1, .int (nI v)), (2, .int (nI u)), (3, .int (nI k))]) (st' := [.ref 1]) (H' := _) (kc' := 0) (ks' := 0) rfl ?_
  refine RQ.get (ci := 11) rfl h01 rfl rfl ?_
  refine RQ.blk 1 (pc' := 195) (lv' := [(7, .int (nI (t.1 r))), (6, .int (nI q)), (5, .int (nI r)), (4, .int (nI (l - k))), (0, .ref 1), (1, .int (nI v)), (2, .int (nI u)), (3, .int (nI k))]) (st' := [.int (nI r), .ref 66]) (H' := _) (kc' := 0) (ks' := 0) rfl ?_
  refine RQ.call (v := some (.int (nI (t.2.2.1 r)))) (st' := []) rfl rfl rfl rfl rfl rfl (args_v [.int (nI r)] [] rfl rfl (Nat.le_of_ble_eq_true rfl) rfl hT1.1 (Nat.le_of_ble_eq_true rfl)) (rc_sizeOf hT1 hk (by omega)) ?_
  refine RQ.blk 1 (pc' := 200) (lv' := [(8, .int (nI (t.2.2.1 r))), (7, .int (nI (t.1 r))), (6, .int (nI q)), (5, .int (nI r)), (4, .int (nI (l - k))), (0, .ref 1), (1, .int (nI v)), (2, .int (nI u)), (3, .int (nI k))]) (st' := []) (H' := _) (kc' := 0) (ks' := 0) rfl ?_
  obtain ⟨⟨ws0, hb0⟩, Q0, hq0⟩ := hc1.2.2.2.2.2.2.2.2.1
  obtain ⟨D0, S0, K0, E0, hb0A, -⟩ := id hb0
  refine RQ.blk 1 (pc' := 201) (lv' := [(8, .int (nI (t.2.2.1 r))), (7, .int (nI (t.1 r))), (6, .int (nI q)), (5, .int (nI r)), (4, .int (nI (l - k))), (0, .ref 1), (1, .int (nI v)), (2, .int (nI u)), (3, .int (nI k))]) (st' := [.ref 1]) (H' := _) (kc' := 0) (ks' := 0) rfl ?_
  refine RQ.get (ci := 11) rfl h01 rfl rfl ?_
  refine RQ.callN (st' := []) rfl rfl rfl rfl rfl rfl (args_v [] [] rfl rfl (Nat.le_of_ble_eq_true rfl) rfl hb0A.1 (Nat.le_of_ble_eq_true rfl)) (rn_bclearI hb0) (fun H2 hx2 => ?_)
  obtain ⟨hb2, f2⟩ := hx2
  have h02 := (f2 0 (by decide)).trans h01
  have h12 := (f2 1 (by decide)).trans h11
  have h22 := (f2 2 (by decide)).trans h21
  have hT2 : TreeAt H2 t.1 t.2.1 t.2.2.1 t.2.2.2.1 t.2.2.2.2.1 t.2.2.2.2.2 := hT1.far (fun a a1 a2 => f2 a (by omega))
  have hq2 := (f2 64 (by decide)).trans hq0
  have e52 : ∃ q : Nat, H2[5]? = some (kO 5 [.ref 7, .int (nI q)]) := ⟨q5, (f2 5 (by decide)).trans ((far1 5 (by decide)).trans h5)⟩
  have e62 : ∃ g, H2[6]? = some (kB 41 g) := ⟨p6, (f2 6 (by decide)).trans ((far1 6 (by decide)).trans h6)⟩
  refine RQ.blk 6 (pc' := 216) (lv' := [(8, .int (nI (t.2.2.1 r))), (7, .int (nI (t.1 r))), (6, .int (nI q)), (5, .int (nI r)), (4, .int (nI (l - k))), (0, .ref 1), (1, .int (nI v)), (2, .int (nI u)), (3, .int (nI k))]) (st' := [.ref 1, .int (nI (t.2.2.1 r)), .int (nI u), .int (nI (t.1 r)), .int (nI r), .ref 1]) (H' := _) (kc' := 0) (ks' := 0) rfl ?_
  refine RQ.get (ci := 11) rfl h02 rfl rfl ?_
  refine RQ.get (ci := 5) rfl h12 rfl rfl ?_
  refine RQ.blk 2 (pc' := 225) (lv' := [(8, .int (nI (t.2.2.1 r))), (7, .int (nI (t.1 r))), (6, .int (nI q)), (5, .int (nI r)), (4, .int (nI (l - k))), (0, .ref 1), (1, .int (nI v)), (2, .int (nI u)), (3, .int (nI k))]) (st' := [.int (nI (l - k)), .int (nI k), .ref 3, .int (nI (t.2.2.1 r)), .int (nI u), .int (nI (t.1 r)), .int (nI r), .ref 1]) (H' := _) (kc' := 0) (ks' := 0) rfl ?_
  refine RQ.callN (st' := []) rfl rfl rfl rfl rfl rfl (args_v [.int (nI (l - k)), .int (nI k), .ref 3, .int (nI (t.2.2.1 r)), .int (nI u), .int (nI (t.1 r)), .int (nI r)] [] rfl rfl (Nat.le_of_ble_eq_true rfl) rfl h02 (Nat.le_of_ble_eq_true rfl)) (rn_chNode (v := r) (k := t.1 r) (dir := u) (s := t.2.2.1 r) (a := 2) (na := 2000) (i := k) (n := l - k) h02 e52 e62 hb2 h22 (by decide) (by decide) (by decide) (by decide) (by omega) (by omega) (by omega) (by omega) (by omega) (by omega) (by decide) (by show 0 + 6 + (l - k) ≤ 4100; omega)) (fun Hc hxc => ?_)
  obtain ⟨hbc, e5c, e6c, fc⟩ := hxc
  have hbc : BatchIs Hc 59 [([1, r], some ([t.1 r, u] ++ (beB 2 (t.2.2.1 r) ++ sl tb k (l - k))))] := hbc
  refine RQ.blk 1 (pc' := 230) (lv' := [(8, .int (nI (t.2.2.1 r))), (7, .int (nI (t.1 r))), (6, .int (nI q)), (5, .int (nI r)), (4, .int (nI (l - k))), (0, .ref 1), (1, .int (nI v)), (2, .int (nI u)), (3, .int (nI k))]) (st' := [.int (nI q)]) (H' := _) (kc' := 0) (ks' := 0) rfl ?_
  refine RQ.brF rfl rfl rfl (cF_lt q 0) ?_
  refine RQ.blk 2 (pc' := 236) (lv' := [(8, .int (nI (t.2.2.1 r))), (7, .int (nI (t.1 r))), (6, .int (nI q)), (5, .int (nI r)), (4, .int (nI (l - k))), (0, .ref 1), (1, .int (nI v)), (2, .int (nI u)), (3, .int (nI k))]) (st' := [.int (nI q), .ref 1]) (H' := _) (kc' := 0) (ks' := 0) rfl ?_
  have hno : eLen ([1, r], some ([t.1 r, u] ++ (beB 2 (t.2.2.1 r) ++ sl tb k (l - k)))) ≤ 36 := by
    show 2 + ([t.1 r, u] ++ (beB 2 (t.2.2.1 r) ++ sl tb k (l - k))).length ≤ 36
    rw [List.length_append, List.length_append, beB_len, sl_length]
    show 2 + (2 + (2 + (l - k))) ≤ 36
    omega
  refine RQ.callN (st' := []) rfl rfl rfl rfl rfl rfl (args_v [.int (nI q)] [] rfl rfl (Nat.le_of_ble_eq_true rfl) rfl ((fc 0 (by decide) (by decide) (by decide)).trans h02) (Nat.le_of_ble_eq_true rfl)) (rn_chGone (f := q) (vs := vs) ((fc 0 (by decide) (by decide) (by decide)).trans h02) e5c e6c hbc (hV.far (fun a a1 a2 => (fc a (by omega) (by omega) (by omega)).trans ((f2 a (by omega)).trans (far1 a (by omega))))) (by omega) (by show 1 + 33 ≤ 40; decide) (by rw [eOff_one]; omega)) (fun H3 hx3 => ?_)
  obtain ⟨hb3, e53, e63, f3x⟩ := hx3
  rw [hws] at hb3
  have f3 : ∀ a, a ≠ 5 → a ≠ 6 → ¬ (59 ≤ a ∧ a < 64) → H3[a]? = H2[a]? := fun a a1 a2 a3 => (f3x a a1 a2 a3).trans (fc a a1 a2 a3)
  have f13 : ∀ a, a ≠ 5 → a ≠ 6 → ¬ (59 ≤ a ∧ a < 64) → H3[a]? = H1[a]? := fun a a1 a2 a3 => (f3 a a1 a2 a3).trans (f2 a (by omega))
  have hc3 : ClsA H3 B P 1 1 0 cp cb tb 0 g rl wss t := by
    obtain ⟨qa, ea⟩ := e53
    obtain ⟨pa, eb⟩ := e63
    obtain ⟨c0, c1, c2, c3, c4, -, ⟨wq2, c10, cwq⟩, cW, -, cT⟩ := hc1
    exact ⟨(f13 0 (by decide) (by decide) (by decide)).trans c0, (f13 1 (by decide) (by decide) (by decide)).trans c1, (f13 2 (by decide) (by decide) (by decide)).trans c2, (f13 3 (by decide) (by decide) (by decide)).trans c3, (f13 4 (by decide) (by decide) (by decide)).trans c4, ⟨qa, pa, ea, eb⟩, ⟨wq2, (f13 10 (by decide) (by decide) (by decide)).trans c10, cwq⟩, fun t ht => ⟨(cW t ht).1.keep (fun a a1 a2 => f13 a (by omega) (by omega) (by omega)), (cW t ht).2.imp (fun Q hQ => (f13 _ (by omega) (by omega) (by omega)).trans hQ)⟩, ⟨⟨_, hb3⟩, Q0, (f3 64 (by decide) (by decide) (by decide)).trans hq2⟩, cT.far (fun a a1 a2 => f13 a (by omega) (by omega) (by omega))⟩
  have fk3 : FrK H H3 := fk1.trans (fun a ha => f13 a (by omega) (by omega) (by omega))
  have hch3 : ChB H H3 B P 1 0 cp cb tb 0 g rl wss t ws := ⟨hc3, hb3, fk3⟩
  obtain ⟨D3, S3, K3, E3, hb3A, hb3L, hb340, hb341⟩ := id hb3
  have hb3k := hb3L.ok hb340 hb341
  have h03 := hc3.1
  have h13 := hc3.2.1
  have h23 := hc3.2.2.1
  have hT3 : TreeAt H3 t.1 t.2.1 t.2.2.1 t.2.2.2.1 t.2.2.2.2.1 t.2.2.2.2.2 := hc3.2.2.2.2.2.2.2.2.2
  refine RQ.blk 2 (pc' := 241) (lv' := [(8, .int (nI (t.2.2.1 r))), (7, .int (nI (t.1 r))), (6, .int (nI q)), (5, .int (nI r)), (4, .int (nI (l - k))), (0, .ref 1), (1, .int (nI v)), (2, .int (nI u)), (3, .int (nI k))]) (st' := [.ref 1, .ref 1]) (H' := _) (kc' := 0) (ks' := 0) rfl ?_
  refine RQ.get (ci := 11) rfl h03 rfl rfl ?_
  refine RQ.blk 1 (pc' := 245) (lv' := [(8, .int (nI (t.2.2.1 r))), (7, .int (nI (t.1 r))), (6, .int (nI q)), (5, .int (nI r)), (4, .int (nI (l - k))), (0, .ref 1), (1, .int (nI v)), (2, .int (nI u)), (3, .int (nI k))]) (st' := [.int (-1), .ref 60, .ref 1]) (H' := _) (kc' := 0) (ks' := 0) rfl ?_
  obtain ⟨kf3, kl3, mo3, pl3, le3, al3, od3, sp3, sz3, ss3, ac3, hA3, hVW3, hvs3⟩ := (hV.far (fun a a1 a2 => fk3 a (by omega)) : VersIs H3 N vs)
  refine RQ.call (v := none) (st' := []) rfl rfl rfl rfl rfl rfl (args_v [.int (-1), .ref 60] [] rfl rfl (Nat.le_of_ble_eq_true rfl) rfl h03 (Nat.le_of_ble_eq_true rfl)) (rc_reqRoom h03 hA3 hVW3 hvs3 hb3A hb3k hb3L (hs.far2 (fun a a1 a2 => fk3 a (by omega))) (fun t ht => Nat.lt_trans (hsm t ht) (by decide)) (fun i hi => by obtain ⟨e, he⟩ := lt_get hi; rw [(hb3L i e he).2.1]; exact (hkl e (List.mem_of_getElem? he))) h1W hpr (by omega) hB hle) ?_
  refine RQ.blk 2 (pc' := 250) (lv' := [(8, .int (nI (t.2.2.1 r))), (7, .int (nI (t.1 r))), (6, .int (nI q)), (5, .int (nI r)), (4, .int (nI (l - k))), (0, .ref 1), (1, .int (nI v)), (2, .int (nI u)), (3, .int (nI k))]) (st' := [.ref 1, .ref 1]) (H' := _) (kc' := 0) (ks' := 0) rfl ?_
  refine RQ.get (ci := 11) rfl h03 rfl rfl ?_
  refine RQ.get (ci := 0) rfl hb3A.1 rfl rfl ?_
  refine RQ.blk 2 (pc' := 258) (lv' := [(8, .int (nI (t.2.2.1 r))), (7, .int (nI (t.1 r))), (6, .int (nI q)), (5, .int (nI r)), (4, .int (nI (l - k))), (0, .ref 1), (1, .int (nI v)), (2, .int (nI u)), (3, .int (nI k))]) (st' := [.int (nI ws.length + 1), .ref 1]) (H' := _) (kc' := 0) (ks' := 0) rfl ?_
  rw [show (nI ws.length + 1 : Int32) = nI (ws.length + 1) from nI_add ws.length 1]
  obtain ⟨cf, tf, pq, bb, hC3⟩ := hC0 H3 hch3
  refine RQ.call (v := none) (st' := []) rfl rfl rfl rfl rfl rfl (args_v [.int (nI (ws.length + 1))] [] rfl rfl (Nat.le_of_ble_eq_true rfl) rfl h03 (Nat.le_of_ble_eq_true rfl)) (rc_armCutM (n := ws.length + 1) h03 hC3 (by omega) (by omega) hcp) ?_
  refine RQ.blk 2 (pc' := 263) (lv' := [(8, .int (nI (t.2.2.1 r))), (7, .int (nI (t.1 r))), (6, .int (nI q)), (5, .int (nI r)), (4, .int (nI (l - k))), (0, .ref 1), (1, .int (nI v)), (2, .int (nI u)), (3, .int (nI k))]) (st' := [.ref 1, .ref 1]) (H' := _) (kc' := 0) (ks' := 0) rfl ?_
  have hRM3 := hRM H3 hch3
  generalize hHA : (H3.set 71 (kO 1 [.ref 73, .ref 74, .int (lI (some (cp % (ws.length + 1)))), .int (nI cb), .int (nI 0)])) = HA at hRM3 ⊢
  have g0 : HA[0]? = some (kO 11 (fvs (nI B) (nI P) 1 1 0 (nI cp) (nI cb))) := by rw [← hHA]; exact (set_far (by decide)).trans h03
  refine RQ.callB (st' := [.ref 1]) rfl rfl rfl rfl rfl rfl (args_v [] [.ref 1] rfl rfl (Nat.le_of_ble_eq_true rfl) rfl g0 (Nat.le_of_ble_eq_true rfl)) hRM3 (fun H4 hH4 => ?_) (fun H4 hH4 => ?_)
  · have g1 := hf1 H4 hH4
    refine RQ.brF rfl rfl rfl (by decide) ?_
    refine RQ.blk 2 (pc' := 271) (lv' := [(8, .int (nI (t.2.2.1 r))), (7, .int (nI (t.1 r))), (6, .int (nI q)), (5, .int (nI r)), (4, .int (nI (l - k))), (0, .ref 1), (1, .int (nI v)), (2, .int (nI u)), (3, .int (nI k))]) (st' := [.ref 1, .ref 1, .ref 1]) (H' := _) (kc' := 0) (ks' := 0) rfl ?_
    refine RQ.get (ci := 11) rfl g1 rfl rfl ?_
    refine RQ.callB (st' := [.ref 1]) rfl rfl rfl rfl rfl rfl (args_v [.ref 60] [.ref 1] rfl rfl (Nat.le_of_ble_eq_true rfl) rfl g1 (Nat.le_of_ble_eq_true rfl)) (hST H4 hH4) (fun H5 hH5 => ?_) (fun H5 hH5 => ?_)
    · exact hH5.elim
    · have g2 := hfb H5 hH5
      refine RQ.brT rfl rfl rfl (by decide) ?_
      refine RQ.blk 1 (pc' := 285) (lv' := [(8, .int (nI (t.2.2.1 r))), (7, .int (nI (t.1 r))), (6, .int (nI q)), (5, .int (nI r)), (4, .int (nI (l - k))), (0, .ref 1), (1, .int (nI v)), (2, .int (nI u)), (3, .int (nI k))]) (st' := [.int 0, .ref 1]) (H' := _) (kc' := 0 + 1) (ks' := 0 + 6) rfl ?_
      obtain ⟨HX, hxX, hpX⟩ := hSB H5 hH5
      exact RQ.callP (st' := []) rfl rfl rfl rfl rfl rfl (args_v [.int 0] [] rfl rfl (Nat.le_of_ble_eq_true rfl) rfl g2 (Nat.le_of_ble_eq_true rfl)) hxX rfl ⟨_, 2, by decide, rfl, hpX⟩
  · have g2 := hfb H4 hH4
    refine RQ.brT rfl rfl rfl (by decide) ?_
    refine RQ.blk 1 (pc' := 285) (lv' := [(8, .int (nI (t.2.2.1 r))), (7, .int (nI (t.1 r))), (6, .int (nI q)), (5, .int (nI r)), (4, .int (nI (l - k))), (0, .ref 1), (1, .int (nI v)), (2, .int (nI u)), (3, .int (nI k))]) (st' := [.int 0, .ref 1]) (H' := _) (kc' := 0 + 1) (ks' := 0 + 6) rfl ?_
    obtain ⟨HX, hxX, hpX⟩ := hSB H4 hH4
    exact RQ.callP (st' := []) rfl rfl rfl rfl rfl rfl (args_v [.int 0] [] rfl rfl (Nat.le_of_ble_eq_true rfl) rfl g2 (Nat.le_of_ble_eq_true rfl)) hxX rfl ⟨_, 2, by decide, rfl, hpX⟩
