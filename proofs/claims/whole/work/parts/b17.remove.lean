/-! ===== remove, resize, write out of their parts; class; written by wip/gen/chm2.py ===== -/
set_option maxRecDepth 20000 in
theorem rx_remove_down {sc : Nat × (Nat → Int32)} {d : Nat} {H : aH} {B P : Nat} {cw cl : Int32} {cp cb : Nat} {tb : Nat → Int8} {l : Nat} {g : Nat → Int8} {rl : Nat} {wss : Nat → List aE} {t : aTr} {v : Nat} (h : ClsA H B P 0 cw cl cp cb tb l g rl wss t) (hv : v ≤ 200) (hl1 : 1 ≤ l) (hl2 : l ≤ 30) (hnm : (∀ k, k < l → ¬ btB tb l (0 + k) = 47)) : RX sc (d + 8) mr_225 [.ref 1, .int (nI v)] H 1 (fun H' => ClsA H' B P 0 cw cl cp cb tb l g rl wss t ∧ FrK H H') := by
  obtain ⟨h0, h1, h2, h3, h4, ⟨q5, p6, h5, h6⟩, ⟨wq, h10, hwq⟩, hW, hCh, hT⟩ := id h
  refine RX.of ?_
  refine RQ.blk 2 (pc' := 2) (lv' := [(0, .ref 1), (1, .int (nI v))]) (st' := [.int (nI v), .ref 1]) (H' := _) (kc' := 0) (ks' := 0) rfl ?_
  refine RQ.call (v := none) (st' := []) rfl rfl rfl rfl rfl rfl (args_v [.int (nI v)] [] rfl rfl (Nat.le_of_ble_eq_true rfl) rfl h0 (Nat.le_of_ble_eq_true rfl)) (rc_reqNum h0 hv) ?_
  refine RQ.blk 3 (pc' := 8) (lv' := [(0, .ref 1), (1, .int (nI v))]) (st' := [.ref 1, .int 0, .ref 1]) (H' := _) (kc' := 0) (ks' := 0) rfl ?_
  refine RQ.get (ci := 11) rfl h0 rfl rfl ?_
  refine RQ.get (ci := 5) rfl h1 rfl rfl ?_
  refine RQ.call (v := none) (st' := []) rfl rfl rfl rfl rfl rfl (args_v [.int (nI l), .int 0] [] rfl rfl (Nat.le_of_ble_eq_true rfl) rfl h0 (Nat.le_of_ble_eq_true rfl)) (rc_requireName1 (i := 0) h0 ⟨h1, h2, by decide, by decide⟩ (by omega) (by decide) hl1 hl2 hnm) ?_
  refine RQ.blk 1 (pc' := 18) (lv' := [(0, .ref 1), (1, .int (nI v))]) (st' := [.ref 1]) (H' := _) (kc' := 0) (ks' := 0) rfl ?_
  exact RQ.callP (st' := []) rfl rfl rfl rfl rfl rfl (args_v [] [] rfl rfl (Nat.le_of_ble_eq_true rfl) rfl h0 (Nat.le_of_ble_eq_true rfl)) (rc_down h0 rfl) rfl ⟨_, rfl, h, FrK.rfl'⟩
set_option maxRecDepth 20000 in
theorem rx_remove_nodir {sc : Nat × (Nat → Int32)} {d : Nat} {H : aH} {B P : Nat} {cw cl : Int32} {cp cb : Nat} {tb : Nat → Int8} {l : Nat} {g : Nat → Int8} {rl : Nat} {wss : Nat → List aE} {t : aTr} {v : Nat} (h : ClsA H B P 1 cw cl cp cb tb l g rl wss t) (hk : TreeOk t.1 t.2.1 t.2.2.1 t.2.2.2.1) (hv : v ≤ 200) (hl1 : 1 ≤ l) (hl2 : l ≤ 30) (hnm : (∀ k, k < l → ¬ btB tb l (0 + k) = 47)) (hkd : ¬ t.1 v = 2) : RX sc (d + 8) mr_225 [.ref 1, .int (nI v)] H 3 (fun H' => ClsA H' B P 1 cw cl cp cb tb 0 g rl wss t ∧ FrK H H') := by
  obtain ⟨h0, h1, h2, h3, h4, ⟨q5, p6, h5, h6⟩, ⟨wq, h10, hwq⟩, hW, hCh, hT⟩ := id h
  refine RX.of ?_
  have hkv := hk v hv
  refine RQ.blk 2 (pc' := 2) (lv' := [(0, .ref 1), (1, .int (nI v))]) (st' := [.int (nI v), .ref 1]) (H' := _) (kc' := 0) (ks' := 0) rfl ?_
  refine RQ.call (v := none) (st' := []) rfl rfl rfl rfl rfl rfl (args_v [.int (nI v)] [] rfl rfl (Nat.le_of_ble_eq_true rfl) rfl h0 (Nat.le_of_ble_eq_true rfl)) (rc_reqNum h0 hv) ?_
  refine RQ.blk 3 (pc' := 8) (lv' := [(0, .ref 1), (1, .int (nI v))]) (st' := [.ref 1, .int 0, .ref 1]) (H' := _) (kc' := 0) (ks' := 0) rfl ?_
  refine RQ.get (ci := 11) rfl h0 rfl rfl ?_
  refine RQ.get (ci := 5) rfl h1 rfl rfl ?_
  refine RQ.call (v := none) (st' := []) rfl rfl rfl rfl rfl rfl (args_v [.int (nI l), .int 0] [] rfl rfl (Nat.le_of_ble_eq_true rfl) rfl h0 (Nat.le_of_ble_eq_true rfl)) (rc_requireName1 (i := 0) h0 ⟨h1, h2, by decide, by decide⟩ (by omega) (by decide) hl1 hl2 hnm) ?_
  refine RQ.blk 1 (pc' := 18) (lv' := [(0, .ref 1), (1, .int (nI v))]) (st' := [.ref 1]) (H' := _) (kc' := 0) (ks' := 0) rfl ?_
  refine RQ.call (v := none) (st' := []) rfl rfl rfl rfl rfl rfl (args_v [] [] rfl rfl (Nat.le_of_ble_eq_true rfl) rfl h0 (Nat.le_of_ble_eq_true rfl)) (rc_up h0 rfl) ?_
  refine RQ.blk 1 (pc' := 22) (lv' := [(0, .ref 1), (1, .int (nI v))]) (st' := [.ref 1]) (H' := _) (kc' := 0) (ks' := 0) rfl ?_
  refine RQ.call (v := some (.int (nI l))) (st' := []) rfl rfl rfl rfl rfl rfl (args_v [] [] rfl rfl (Nat.le_of_ble_eq_true rfl) rfl h0 (Nat.le_of_ble_eq_true rfl)) (rc_takeTape h0 h1) ?_
  have far1 : ∀ a, a ≠ 1 → (H.set 1 (kO 5 [.ref 3, .int (nI 0)]))[a]? = H[a]? := fun a ha => set_far ha
  have h11 : (H.set 1 (kO 5 [.ref 3, .int (nI 0)]))[1]? = some (kO 5 [.ref 3, .int (nI 0)]) := get_set h1
  refine RQ.blk 1 (pc' := 26) (lv' := [(2, .int (nI l)), (0, .ref 1), (1, .int (nI v))]) (st' := []) (H' := _) (kc' := 0) (ks' := 0) rfl ?_
  show RQ _ _ _ 26 [(2, .int (nI l)), (0, .ref 1), (1, .int (nI v))] [] (H.set 1 (kO 5 [.ref 3, .int (nI 0)])) 0 0 _
  generalize (H.set 1 (kO 5 [.ref 3, .int (nI 0)])) = H1 at far1 h11 ⊢
  have h01 := (far1 0 (by decide)).trans h0
  have h21 := (far1 2 (by decide)).trans h2
  have hT1 : TreeAt H1 t.1 t.2.1 t.2.2.1 t.2.2.2.1 t.2.2.2.2.1 t.2.2.2.2.2 := hT.far (fun a a1 a2 => far1 a (by omega))
  have hc1 : ClsA H1 B P 1 cw cl cp cb tb 0 g rl wss t := h.small h01 h11 h21 ((far1 3 (by decide)).trans h3) ((far1 4 (by decide)).trans h4) ⟨q5, p6, (far1 5 (by decide)).trans h5, (far1 6 (by decide)).trans h6⟩ (fun a a1 a2 => far1 a (by omega))
  have fk1 : FrK H H1 := fun a ha => far1 a (by omega)
  refine RQ.blk 2 (pc' := 28) (lv' := [(2, .int (nI l)), (0, .ref 1), (1, .int (nI v))]) (st' := [.int (nI v), .ref 1]) (H' := _) (kc' := 0) (ks' := 0) rfl ?_
  exact RQ.callP (st' := []) rfl rfl rfl rfl rfl rfl (args_v [.int (nI v)] [] rfl rfl (Nat.le_of_ble_eq_true rfl) rfl h01 (Nat.le_of_ble_eq_true rfl)) (rc_reqDirX h01 rfl hT1.1 rfl hT1.2.1 hv (nI_ne2 hkv.1 hkd)) rfl ⟨_, rfl, hc1, fk1⟩
set_option maxRecDepth 20000 in
theorem rx_remove_none {sc : Nat × (Nat → Int32)} {d : Nat} {H : aH} {B P : Nat} {cw cl : Int32} {cp cb : Nat} {tb : Nat → Int8} {l : Nat} {g : Nat → Int8} {rl : Nat} {wss : Nat → List aE} {t : aTr} {v : Nat} (h : ClsA H B P 1 cw cl cp cb tb l g rl wss t) (hk : TreeOk t.1 t.2.1 t.2.2.1 t.2.2.2.1) (hv : v ≤ 200) (hl1 : 1 ≤ l) (hl2 : l ≤ 30) (hnm : (∀ k, k < l → ¬ btB tb l (0 + k) = 47)) (hkd : t.1 v = 2) (hch : fstF (inN t.1 t.2.1 t.2.2.2.1 t.2.2.2.2.1 v (sl tb 0 l)) 1 200 = none) : RX sc (d + 8) mr_225 [.ref 1, .int (nI v)] H 3 (fun H' => ClsA H' B P 1 cw cl cp cb tb 0 g rl wss t ∧ FrK H H') := by
  obtain ⟨h0, h1, h2, h3, h4, ⟨q5, p6, h5, h6⟩, ⟨wq, h10, hwq⟩, hW, hCh, hT⟩ := id h
  refine RX.of ?_
  refine RQ.blk 2 (pc' := 2) (lv' := [(0, .ref 1), (1, .int (nI v))]) (st' := [.int (nI v), .ref 1]) (H' := _) (kc' := 0) (ks' := 0) rfl ?_
  refine RQ.call (v := none) (st' := []) rfl rfl rfl rfl rfl rfl (args_v [.int (nI v)] [] rfl rfl (Nat.le_of_ble_eq_true rfl) rfl h0 (Nat.le_of_ble_eq_true rfl)) (rc_reqNum h0 hv) ?_
  refine RQ.blk 3 (pc' := 8) (lv' := [(0, .ref 1), (1, .int (nI v))]) (st' := [.ref 1, .int 0, .ref 1]) (H' := _) (kc' := 0) (ks' := 0) rfl ?_
  refine RQ.get (ci := 11) rfl h0 rfl rfl ?_
  refine RQ.get (ci := 5) rfl h1 rfl rfl ?_
  refine RQ.call (v := none) (st' := []) rfl rfl rfl rfl rfl rfl (args_v [.int (nI l), .int 0] [] rfl rfl (Nat.le_of_ble_eq_true rfl) rfl h0 (Nat.le_of_ble_eq_true rfl)) (rc_requireName1 (i := 0) h0 ⟨h1, h2, by decide, by decide⟩ (by omega) (by decide) hl1 hl2 hnm) ?_
  refine RQ.blk 1 (pc' := 18) (lv' := [(0, .ref 1), (1, .int (nI v))]) (st' := [.ref 1]) (H' := _) (kc' := 0) (ks' := 0) rfl ?_
  refine RQ.call (v := none) (st' := []) rfl rfl rfl rfl rfl rfl (args_v [] [] rfl rfl (Nat.le_of_ble_eq_true rfl) rfl h0 (Nat.le_of_ble_eq_true rfl)) (rc_up h0 rfl) ?_
  refine RQ.blk 1 (pc' := 22) (lv' := [(0, .ref 1), (1, .int (nI v))]) (st' := [.ref 1]) (H' := _) (kc' := 0) (ks' := 0) rfl ?_
  refine RQ.call (v := some (.int (nI l))) (st' := []) rfl rfl rfl rfl rfl rfl (args_v [] [] rfl rfl (Nat.le_of_ble_eq_true rfl) rfl h0 (Nat.le_of_ble_eq_true rfl)) (rc_takeTape h0 h1) ?_
  have far1 : ∀ a, a ≠ 1 → (H.set 1 (kO 5 [.ref 3, .int (nI 0)]))[a]? = H[a]? := fun a ha => set_far ha
  have h11 : (H.set 1 (kO 5 [.ref 3, .int (nI 0)]))[1]? = some (kO 5 [.ref 3, .int (nI 0)]) := get_set h1
  refine RQ.blk 1 (pc' := 26) (lv' := [(2, .int (nI l)), (0, .ref 1), (1, .int (nI v))]) (st' := []) (H' := _) (kc' := 0) (ks' := 0) rfl ?_
  show RQ _ _ _ 26 [(2, .int (nI l)), (0, .ref 1), (1, .int (nI v))] [] (H.set 1 (kO 5 [.ref 3, .int (nI 0)])) 0 0 _
  generalize (H.set 1 (kO 5 [.ref 3, .int (nI 0)])) = H1 at far1 h11 ⊢
  have h01 := (far1 0 (by decide)).trans h0
  have h21 := (far1 2 (by decide)).trans h2
  have hT1 : TreeAt H1 t.1 t.2.1 t.2.2.1 t.2.2.2.1 t.2.2.2.2.1 t.2.2.2.2.2 := hT.far (fun a a1 a2 => far1 a (by omega))
  have hc1 : ClsA H1 B P 1 cw cl cp cb tb 0 g rl wss t := h.small h01 h11 h21 ((far1 3 (by decide)).trans h3) ((far1 4 (by decide)).trans h4) ⟨q5, p6, (far1 5 (by decide)).trans h5, (far1 6 (by decide)).trans h6⟩ (fun a a1 a2 => far1 a (by omega))
  have fk1 : FrK H H1 := fun a ha => far1 a (by omega)
  refine RQ.blk 2 (pc' := 28) (lv' := [(2, .int (nI l)), (0, .ref 1), (1, .int (nI v))]) (st' := [.int (nI v), .ref 1]) (H' := _) (kc' := 0) (ks' := 0) rfl ?_
  refine RQ.call (v := none) (st' := []) rfl rfl rfl rfl rfl rfl (args_v [.int (nI v)] [] rfl rfl (Nat.le_of_ble_eq_true rfl) rfl h01 (Nat.le_of_ble_eq_true rfl)) (rc_reqDir h01 rfl hT1.1 rfl hT1.2.1 hv (nI_is2 hkd)) ?_
  refine RQ.blk 1 (pc' := 32) (lv' := [(2, .int (nI l)), (0, .ref 1), (1, .int (nI v))]) (st' := [.ref 1]) (H' := _) (kc' := 0) (ks' := 0) rfl ?_
  refine RQ.get (ci := 11) rfl h01 rfl rfl ?_
  refine RQ.blk 2 (pc' := 37) (lv' := [(2, .int (nI l)), (0, .ref 1), (1, .int (nI v))]) (st' := [.ref 1, .int (nI v), .ref 66]) (H' := _) (kc' := 0) (ks' := 0) rfl ?_
  refine RQ.get (ci := 11) rfl h01 rfl rfl ?_
  refine RQ.get (ci := 5) rfl h11 rfl rfl ?_
  refine RQ.blk 2 (pc' := 45) (lv' := [(2, .int (nI l)), (0, .ref 1), (1, .int (nI v))]) (st' := [.int (nI l), .int 0, .ref 3, .int (nI v), .ref 66]) (H' := _) (kc' := 0) (ks' := 0) rfl ?_
  refine RQ.call (v := some (.int (lI (fstF (inN t.1 t.2.1 t.2.2.2.1 t.2.2.2.2.1 v (sl tb 0 l)) 1 200)))) (st' := []) rfl rfl rfl rfl rfl rfl (args_v [.int (nI l), .int 0, .ref 3, .int (nI v)] [] rfl rfl (Nat.le_of_ble_eq_true rfl) rfl hT1.1 (Nat.le_of_ble_eq_true rfl)) (rc_childNamed (a := 2) (na := 2000) (j := 0) (m := l) hT1 hk h21 (by decide) (by omega) hv) ?_
  rw [hch]
  rw [show lI none = -1 from rfl]
  refine RQ.blk 3 (pc' := 51) (lv' := [(3, .int (-1)), (2, .int (nI l)), (0, .ref 1), (1, .int (nI v))]) (st' := [.int (-1), .ref 1]) (H' := _) (kc' := 0) (ks' := 0) rfl ?_
  exact RQ.callP (st' := []) rfl rfl rfl rfl rfl rfl (args_v [.int (-1)] [] rfl rfl (Nat.le_of_ble_eq_true rfl) rfl h01 (Nat.le_of_ble_eq_true rfl)) (rc_thereX (by decide)) rfl ⟨_, rfl, hc1, fk1⟩
theorem sumF_le01 {P : Nat → Bool} : ∀ (n : Nat), sumF (fun w => if P w then 1 else 0) n ≤ n
  | 0 => Nat.le_refl _
  | n + 1 => by
    have := sumF_le01 (P := P) n
    rw [sumF]
    split <;> omega
set_option maxRecDepth 20000 in
theorem rx_remove_full {sc : Nat × (Nat → Int32)} {d : Nat} {H : aH} {B P : Nat} {cw cl : Int32} {cp cb : Nat} {tb : Nat → Int8} {l : Nat} {g : Nat → Int8} {rl : Nat} {wss : Nat → List aE} {t : aTr} {v r : Nat} (h : ClsA H B P 1 cw cl cp cb tb l g rl wss t) (hk : TreeOk t.1 t.2.1 t.2.2.1 t.2.2.2.1) (hv : v ≤ 200) (hl1 : 1 ≤ l) (hl2 : l ≤ 30) (hnm : (∀ k, k < l → ¬ btB tb l (0 + k) = 47)) (hkd : t.1 v = 2) (hch : fstF (inN t.1 t.2.1 t.2.2.2.1 t.2.2.2.2.1 v (sl tb 0 l)) 1 200 = some r) (hc0 : ¬ (sumF (fun w => if inD t.1 t.2.1 r w then 1 else 0) 200) = 0) : RX sc (d + 8) mr_225 [.ref 1, .int (nI v)] H 4 (fun H' => ClsA H' B P 1 cw cl cp cb tb 0 g rl wss t ∧ FrK H H') := by
  obtain ⟨h0, h1, h2, h3, h4, ⟨q5, p6, h5, h6⟩, ⟨wq, h10, hwq⟩, hW, hCh, hT⟩ := id h
  refine RX.of ?_
  refine RQ.blk 2 (pc' := 2) (lv' := [(0, .ref 1), (1, .int (nI v))]) (st' := [.int (nI v), .ref 1]) (H' := _) (kc' := 0) (ks' := 0) rfl ?_
  refine RQ.call (v := none) (st' := []) rfl rfl rfl rfl rfl rfl (args_v [.int (nI v)] [] rfl rfl (Nat.le_of_ble_eq_true rfl) rfl h0 (Nat.le_of_ble_eq_true rfl)) (rc_reqNum h0 hv) ?_
  refine RQ.blk 3 (pc' := 8) (lv' := [(0, .ref 1), (1, .int (nI v))]) (st' := [.ref 1, .int 0, .ref 1]) (H' := _) (kc' := 0) (ks' := 0) rfl ?_
  refine RQ.get (ci := 11) rfl h0 rfl rfl ?_
  refine RQ.get (ci := 5) rfl h1 rfl rfl ?_
  refine RQ.call (v := none) (st' := []) rfl rfl rfl rfl rfl rfl (args_v [.int (nI l), .int 0] [] rfl rfl (Nat.le_of_ble_eq_true rfl) rfl h0 (Nat.le_of_ble_eq_true rfl)) (rc_requireName1 (i := 0) h0 ⟨h1, h2, by decide, by decide⟩ (by omega) (by decide) hl1 hl2 hnm) ?_
  refine RQ.blk 1 (pc' := 18) (lv' := [(0, .ref 1), (1, .int (nI v))]) (st' := [.ref 1]) (H' := _) (kc' := 0) (ks' := 0) rfl ?_
  refine RQ.call (v := none) (st' := []) rfl rfl rfl rfl rfl rfl (args_v [] [] rfl rfl (Nat.le_of_ble_eq_true rfl) rfl h0 (Nat.le_of_ble_eq_true rfl)) (rc_up h0 rfl) ?_
  refine RQ.blk 1 (pc' := 22) (lv' := [(0, .ref 1), (1, .int (nI v))]) (st' := [.ref 1]) (H' := _) (kc' := 0) (ks' := 0) rfl ?_
  refine RQ.call (v := some (.int (nI l))) (st' := []) rfl rfl rfl rfl rfl rfl (args_v [] [] rfl rfl (Nat.le_of_ble_eq_true rfl) rfl h0 (Nat.le_of_ble_eq_true rfl)) (rc_takeTape h0 h1) ?_
  have far1 : ∀ a, a ≠ 1 → (H.set 1 (kO 5 [.ref 3, .int (nI 0)]))[a]? = H[a]? := fun a ha => set_far ha
  have h11 : (H.set 1 (kO 5 [.ref 3, .int (nI 0)]))[1]? = some (kO 5 [.ref 3, .int (nI 0)]) := get_set h1
  refine RQ.blk 1 (pc' := 26) (lv' := [(2, .int (nI l)), (0, .ref 1), (1, .int (nI v))]) (st' := []) (H' := _) (kc' := 0) (ks' := 0) rfl ?_
  show RQ _ _ _ 26 [(2, .int (nI l)), (0, .ref 1), (1, .int (nI v))] [] (H.set 1 (kO 5 [.ref 3, .int (nI 0)])) 0 0 _
  generalize (H.set 1 (kO 5 [.ref 3, .int (nI 0)])) = H1 at far1 h11 ⊢
  have h01 := (far1 0 (by decide)).trans h0
  have h21 := (far1 2 (by decide)).trans h2
  have hT1 : TreeAt H1 t.1 t.2.1 t.2.2.1 t.2.2.2.1 t.2.2.2.2.1 t.2.2.2.2.2 := hT.far (fun a a1 a2 => far1 a (by omega))
  have hc1 : ClsA H1 B P 1 cw cl cp cb tb 0 g rl wss t := h.small h01 h11 h21 ((far1 3 (by decide)).trans h3) ((far1 4 (by decide)).trans h4) ⟨q5, p6, (far1 5 (by decide)).trans h5, (far1 6 (by decide)).trans h6⟩ (fun a a1 a2 => far1 a (by omega))
  have fk1 : FrK H H1 := fun a ha => far1 a (by omega)
  refine RQ.blk 2 (pc' := 28) (lv' := [(2, .int (nI l)), (0, .ref 1), (1, .int (nI v))]) (st' := [.int (nI v), .ref 1]) (H' := _) (kc' := 0) (ks' := 0) rfl ?_
  refine RQ.call (v := none) (st' := []) rfl rfl rfl rfl rfl rfl (args_v [.int (nI v)] [] rfl rfl (Nat.le_of_ble_eq_true rfl) rfl h01 (Nat.le_of_ble_eq_true rfl)) (rc_reqDir h01 rfl hT1.1 rfl hT1.2.1 hv (nI_is2 hkd)) ?_
  refine RQ.blk 1 (pc' := 32) (lv' := [(2, .int (nI l)), (0, .ref 1), (1, .int (nI v))]) (st' := [.ref 1]) (H' := _) (kc' := 0) (ks' := 0) rfl ?_
  refine RQ.get (ci := 11) rfl h01 rfl rfl ?_
  refine RQ.blk 2 (pc' := 37) (lv' := [(2, .int (nI l)), (0, .ref 1), (1, .int (nI v))]) (st' := [.ref 1, .int (nI v), .ref 66]) (H' := _) (kc' := 0) (ks' := 0) rfl ?_
  refine RQ.get (ci := 11) rfl h01 rfl rfl ?_
  refine RQ.get (ci := 5) rfl h11 rfl rfl ?_
  refine RQ.blk 2 (pc' := 45) (lv' := [(2, .int (nI l)), (0, .ref 1), (1, .int (nI v))]) (st' := [.int (nI l), .int 0, .ref 3, .int (nI v), .ref 66]) (H' := _) (kc' := 0) (ks' := 0) rfl ?_
  refine RQ.call (v := some (.int (lI (fstF (inN t.1 t.2.1 t.2.2.2.1 t.2.2.2.2.1 v (sl tb 0 l)) 1 200)))) (st' := []) rfl rfl rfl rfl rfl rfl (args_v [.int (nI l), .int 0, .ref 3, .int (nI v)] [] rfl rfl (Nat.le_of_ble_eq_true rfl) rfl hT1.1 (Nat.le_of_ble_eq_true rfl)) (rc_childNamed (a := 2) (na := 2000) (j := 0) (m := l) hT1 hk h21 (by decide) (by omega) hv) ?_
  rw [hch]
  rw [show lI (some r) = nI r from rfl]
  have hr := fstF_lt hch
  refine RQ.blk 3 (pc' := 51) (lv' := [(3, .int (nI r)), (2, .int (nI l)), (0, .ref 1), (1, .int (nI v))]) (st' := [.int (nI r), .ref 1]) (H' := _) (kc' := 0) (ks' := 0) rfl ?_
  refine RQ.call (v := none) (st' := []) rfl rfl rfl rfl rfl rfl (args_v [.int (nI r)] [] rfl rfl (Nat.le_of_ble_eq_true rfl) rfl h01 (Nat.le_of_ble_eq_true rfl)) (rc_there (by omega)) ?_
  refine RQ.blk 1 (pc' := 55) (lv' := [(3, .int (nI r)), (2, .int (nI l)), (0, .ref 1), (1, .int (nI v))]) (st' := [.ref 1]) (H' := _) (kc' := 0) (ks' := 0) rfl ?_
  refine RQ.get (ci := 11) rfl h01 rfl rfl ?_
  refine RQ.blk 1 (pc' := 59) (lv' := [(3, .int (nI r)), (2, .int (nI l)), (0, .ref 1), (1, .int (nI v))]) (st' := [.int (nI r), .ref 66]) (H' := _) (kc' := 0) (ks' := 0) rfl ?_
  refine RQ.call (v := some (.int (nI (sumF (fun w => if inD t.1 t.2.1 r w then 1 else 0) 200)))) (st' := []) rfl rfl rfl rfl rfl rfl (args_v [.int (nI r)] [] rfl rfl (Nat.le_of_ble_eq_true rfl) rfl hT1.1 (Nat.le_of_ble_eq_true rfl)) (rc_childCount hT1 hk (by omega)) ?_
  have hcc := sumF_le01 (P := fun w => inD t.1 t.2.1 r w) 200
  refine RQ.brF rfl rfl rfl (cF_le (sumF (fun w => if inD t.1 t.2.1 r w then 1 else 0) 200) 0) ?_
  exact RQ.done (c := 1) (s := 6) rfl rfl rfl rfl ⟨_, rfl, hc1, fk1⟩
set_option maxRecDepth 20000 in
theorem ri_remove_ok {sc : Nat × (Nat → Int32)} {d : Nat} {H : aH} {B P : Nat} {cl : Int32} {cp cb : Nat} {tb : Nat → Int8} {l : Nat} {g : Nat → Int8} {rl : Nat} {wss : Nat → List aE} {t : aTr} {v r N : Nat} {vs : List aV} {ws : List aE} {ok1 ok2 ok3 ok5 ok6 : aH → Prop} (h : ClsA H B P 1 0 cl cp cb tb l g rl wss t) (hk : TreeOk t.1 t.2.1 t.2.2.1 t.2.2.2.1) (hv : v ≤ 200) (hl1 : 1 ≤ l) (hl2 : l ≤ 30) (hnm : (∀ k, k < l → ¬ btB tb l (0 + k) = 47)) (hkd : t.1 v = 2) (hch : fstF (inN t.1 t.2.1 t.2.2.2.1 t.2.2.2.2.1 v (sl tb 0 l)) 1 200 = some r) (hc0 : (sumF (fun w => if inD t.1 t.2.1 r w then 1 else 0) 200) = 0) (hV : VersIs H N vs) (hws : [] ++ [([1, r], none)] ++ goneW vs r 32 = ws) (hRM : ∀ H', ChB H H' B P 0 cl cp cb tb 0 g rl wss t ws → RB sc (d + 7) mr_96 [.ref 1] H' ok1 (fun _ => False)) (hST : ∀ H', ok1 H' → RB sc (d + 7) mr_150 [.ref 1, .ref 60] H' ok2 (fun _ => False)) (hf1 : ∀ H', ok1 H' → H'[0]? = some (kO 11 (fvs (nI B) (nI P) 1 0 cl (nI cp) (nI cb)))) (hSE : ∀ H', ok2 H' → RN sc (d + 7) mr_153 [.ref 1, .int 1] H' ok3) (hIN : ∀ H', ok3 H' → RN sc (d + 7) mr_160 [.ref 1, .ref 60] H' ok5) (hTS : ∀ H', ok5 H' → RN sc (d + 7) mr_231 [.ref 66, .int (nI r)] H' ok6) (hf2 : ∀ H', ok2 H' → H'[0]? = some (kO 11 (fvs (nI B) (nI P) 1 0 cl (nI cp) (nI cb)))) (hf3 : ∀ H', ok3 H' → H'[0]? = some (kO 11 (fvs (nI B) (nI P) 1 0 cl (nI cp) (nI cb)))) (hf5 : ∀ H', ok5 H' → H'[0]? = some (kO 11 (fvs (nI B) (nI (P + 1)) 1 0 cl (nI cp) (nI cb))) ∧ (∃ fs, H'[65]? = some (kO 9 fs)) ∧ ∃ lx : Nat, H'[1]? = some (kO 5 [.ref 3, .int (nI lx)])) : RI sc (d + 8) mr_225 [.ref 1, .int (nI v)] H (fun x H' => x = nI r ∧ ok6 H') := by
  obtain ⟨h0, h1, h2, h3, h4, ⟨q5, p6, h5, h6⟩, ⟨wq, h10, hwq⟩, hW, hCh, hT⟩ := id h
  refine RI.of ?_
  refine RQ.blk 2 (pc' := 2) (lv' := [(0, .ref 1), (1, .int (nI v))]) (st' := [.int (nI v), .ref 1]) (H' := _) (kc' := 0) (ks' := 0) rfl ?_
  refine RQ.call (v := none) (st' := []) rfl rfl rfl rfl rfl rfl (args_v [.int (nI v)] [] rfl rfl (Nat.le_of_ble_eq_true rfl) rfl h0 (Nat.le_of_ble_eq_true rfl)) (rc_reqNum h0 hv) ?_
  refine RQ.blk 3 (pc' := 8) (lv' := [(0, .ref 1), (1, .int (nI v))]) (st' := [.ref 1, .int 0, .ref 1]) (H' := _) (kc' := 0) (ks' := 0) rfl ?_
  refine RQ.get (ci := 11) rfl h0 rfl rfl ?_
  refine RQ.get (ci := 5) rfl h1 rfl rfl ?_
  refine RQ.call (v := none) (st' := []) rfl rfl rfl rfl rfl rfl (args_v [.int (nI l), .int 0] [] rfl rfl (Nat.le_of_ble_eq_true rfl) rfl h0 (Nat.le_of_ble_eq_true rfl)) (rc_requireName1 (i := 0) h0 ⟨h1, h2, by decide, by decide⟩ (by omega) (by decide) hl1 hl2 hnm) ?_
  refine RQ.blk 1 (pc' := 18) (lv' := [(0, .ref 1), (1, .int (nI v))]) (st' := [.ref 1]) (H' := _) (kc' := 0) (ks' := 0) rfl ?_
  refine RQ.call (v := none) (st' := []) rfl rfl rfl rfl rfl rfl (args_v [] [] rfl rfl (Nat.le_of_ble_eq_true rfl) rfl h0 (Nat.le_of_ble_eq_true rfl)) (rc_up h0 rfl) ?_
  refine RQ.blk 1 (pc' := 22) (lv' := [(0, .ref 1), (1, .int (nI v))]) (st' := [.ref 1]) (H' := _) (kc' := 0) (ks' := 0) rfl ?_
  refine RQ.call (v := some (.int (nI l))) (st' := []) rfl rfl rfl rfl rfl rfl (args_v [] [] rfl rfl (Nat.le_of_ble_eq_true rfl) rfl h0 (Nat.le_of_ble_eq_true rfl)) (rc_takeTape h0 h1) ?_
  have far1 : ∀ a, a ≠ 1 → (H.set 1 (kO 5 [.ref 3, .int (nI 0)]))[a]? = H[a]? := fun a ha => set_far ha
  have h11 : (H.set 1 (kO 5 [.ref 3, .int (nI 0)]))[1]? = some (kO 5 [.ref 3, .int (nI 0)]) := get_set h1
  refine RQ.blk 1 (pc' := 26) (lv' := [(2, .int (nI l)), (0, .ref 1), (1, .int (nI v))]) (st' := []) (H' := _) (kc' := 0) (ks' := 0) rfl ?_
  show RQ _ _ _ 26 [(2, .int (nI l)), (0, .ref 1), (1, .int (nI v))] [] (H.set 1 (kO 5 [.ref 3, .int (nI 0)])) 0 0 _
  generalize (H.set 1 (kO 5 [.ref 3, .int (nI 0)])) = H1 at far1 h11 ⊢
  have h01 := (far1 0 (by decide)).trans h0
  have h21 := (far1 2 (by decide)).trans h2
  have hT1 : TreeAt H1 t.1 t.2.1 t.2.2.1 t.2.2.2.1 t.2.2.2.2.1 t.2.2.2.2.2 := hT.far (fun a a1 a2 => far1 a (by omega))
  have hc1 : ClsA H1 B P 1 0 cl cp cb tb 0 g rl wss t := h.small h01 h11 h21 ((far1 3 (by decide)).trans h3) ((far1 4 (by decide)).trans h4) ⟨q5, p6, (far1 5 (by decide)).trans h5, (far1 6 (by decide)).trans h6⟩ (fun a a1 a2 => far1 a (by omega))
  have fk1 : FrK H H1 := fun a ha => far1 a (by omega)
  refine RQ.blk 2 (pc' := 28) (lv' := [(2, .int (nI l)), (0, .ref 1), (1, .int (nI v))]) (st' := [.int (nI v), .ref 1]) (H' := _) (kc' := 0) (ks' := 0) rfl ?_
  refine RQ.call (v := none) (st' := []) rfl rfl rfl rfl rfl rfl (args_v [.int (nI v)] [] rfl rfl (Nat.le_of_ble_eq_true rfl) rfl h01 (Nat.le_of_ble_eq_true rfl)) (rc_reqDir h01 rfl hT1.1 rfl hT1.2.1 hv (nI_is2 hkd)) ?_
  refine RQ.blk 1 (pc' := 32) (lv' := [(2, .int (nI l)), (0, .ref 1), (1, .int (nI v))]) (st' := [.ref 1]) (H' := _) (kc' := 0) (ks' := 0) rfl ?_
  refine RQ.get (ci := 11) rfl h01 rfl rfl ?_
  refine RQ.blk 2 (pc' := 37) (lv' := [(2, .int (nI l)), (0, .ref 1), (1, .int (nI v))]) (st' := [.ref 1, .int (nI v), .ref 66]) (H' := _) (kc' := 0) (ks' := 0) rfl ?_
  refine RQ.get (ci := 11) rfl h01 rfl rfl ?_
  refine RQ.get (ci := 5) rfl h11 rfl rfl ?_
  refine RQ.blk 2 (pc' := 45) (lv' := [(2, .int (nI l)), (0, .ref 1), (1, .int (nI v))]) (st' := [.int (nI l), .int 0, .ref 3, .int (nI v), .ref 66]) (H' := _) (kc' := 0) (ks' := 0) rfl ?_
  refine RQ.call (v := some (.int (lI (fstF (inN t.1 t.2.1 t.2.2.2.1 t.2.2.2.2.1 v (sl tb 0 l)) 1 200)))) (st' := []) rfl rfl rfl rfl rfl rfl (args_v [.int (nI l), .int 0, .ref 3, .int (nI v)] [] rfl rfl (Nat.le_of_ble_eq_true rfl) rfl hT1.1 (Nat.le_of_ble_eq_true rfl)) (rc_childNamed (a := 2) (na := 2000) (j := 0) (m := l) hT1 hk h21 (by decide) (by omega) hv) ?_
  rw [hch]
  rw [show lI (some r) = nI r from rfl]
  have hr := fstF_lt hch
  refine RQ.blk 3 (pc' := 51) (lv' := [(3, .int (nI r)), (2, .int (nI l)), (0, .ref 1), (1, .int (nI v))]) (st' := [.int (nI r), .ref 1]) (H' := _) (kc' := 0) (ks' := 0) rfl ?_
  refine RQ.call (v := none) (st' := []) rfl rfl rfl rfl rfl rfl (args_v [.int (nI r)] [] rfl rfl (Nat.le_of_ble_eq_true rfl) rfl h01 (Nat.le_of_ble_eq_true rfl)) (rc_there (by omega)) ?_
  refine RQ.blk 1 (pc' := 55) (lv' := [(3, .int (nI r)), (2, .int (nI l)), (0, .ref 1), (1, .int (nI v))]) (st' := [.ref 1]) (H' := _) (kc' := 0) (ks' := 0) rfl ?_
  refine RQ.get (ci := 11) rfl h01 rfl rfl ?_
  refine RQ.blk 1 (pc' := 59) (lv' := [(3, .int (nI r)), (2, .int (nI l)), (0, .ref 1), (1, .int (nI v))]) (st' := [.int (nI r), .ref 66]) (H' := _) (kc' := 0) (ks' := 0) rfl ?_
  refine RQ.call (v := some (.int (nI (sumF (fun w => if inD t.1 t.2.1 r w then 1 else 0) 200)))) (st' := []) rfl rfl rfl rfl rfl rfl (args_v [.int (nI r)] [] rfl rfl (Nat.le_of_ble_eq_true rfl) rfl hT1.1 (Nat.le_of_ble_eq_true rfl)) (rc_childCount hT1 hk (by omega)) ?_
  have hcc := sumF_le01 (P := fun w => inD t.1 t.2.1 r w) 200
  refine RQ.brT rfl rfl rfl (cT_le (sumF (fun w => if inD t.1 t.2.1 r w then 1 else 0) 200) 0) ?_
  obtain ⟨⟨ws0, hb0⟩, Q0, hq0⟩ := hc1.2.2.2.2.2.2.2.2.1
  obtain ⟨D0, S0, K0, E0, hb0A, -⟩ := id hb0
  refine RQ.blk 1 (pc' := 77) (lv' := [(3, .int (nI r)), (2, .int (nI l)), (0, .ref 1), (1, .int (nI v))]) (st' := [.ref 1]) (H' := _) (kc' := 0) (ks' := 0) rfl ?_
  refine RQ.get (ci := 11) rfl h01 rfl rfl ?_
  refine RQ.callN (st' := []) rfl rfl rfl rfl rfl rfl (args_v [] [] rfl rfl (Nat.le_of_ble_eq_true rfl) rfl hb0A.1 (Nat.le_of_ble_eq_true rfl)) (rn_bclearI hb0) (fun H2 hx2 => ?_)
  obtain ⟨hb2, f2⟩ := hx2
  have h02 := (f2 0 (by decide)).trans h01
  have h12 := (f2 1 (by decide)).trans h11
  have h22 := (f2 2 (by decide)).trans h21
  have hT2 : TreeAt H2 t.1 t.2.1 t.2.2.1 t.2.2.2.1 t.2.2.2.2.1 t.2.2.2.2.2 := hT1.far (fun a a1 a2 => f2 a (by omega))
  have hq2 := (f2 64 (by decide)).trans hq0
  have e52 : ∃ q : Nat, H2[5]? = some (kO 5 [.ref 7, .int (nI q)]) := ⟨q5, (f2 5 (by decide)).trans ((far1 5 (by decide)).trans h5)⟩
  have e62 : ∃ g, H2[6]? = some (kB 41 g) := ⟨p6, (f2 6 (by decide)).trans ((far1 6 (by decide)).trans h6)⟩
  refine RQ.blk 2 (pc' := 85) (lv' := [(3, .int (nI r)), (2, .int (nI l)), (0, .ref 1), (1, .int (nI v))]) (st' := [.int (nI r), .ref 1]) (H' := _) (kc' := 0) (ks' := 0) rfl ?_
  refine RQ.callN (st' := []) rfl rfl rfl rfl rfl rfl (args_v [.int (nI r)] [] rfl rfl (Nat.le_of_ble_eq_true rfl) rfl h02 (Nat.le_of_ble_eq_true rfl)) (rn_chGone (f := r) (ws := []) h02 e52 e62 hb2 (hV.far (fun a a1 a2 => (f2 a (by omega)).trans (far1 a (by omega)))) (by omega) (by decide) (by decide)) (fun H3 hx3 => ?_)
  obtain ⟨hb3, e53, e63, f3⟩ := hx3
  rw [hws] at hb3
  have f13 : ∀ a, a ≠ 5 → a ≠ 6 → ¬ (59 ≤ a ∧ a < 64) → H3[a]? = H1[a]? := fun a a1 a2 a3 => (f3 a a1 a2 a3).trans (f2 a (by omega))
  have hc3 : ClsA H3 B P 1 0 cl cp cb tb 0 g rl wss t := by
    obtain ⟨qa, ea⟩ := e53
    obtain ⟨pa, eb⟩ := e63
    obtain ⟨c0, c1, c2, c3, c4, -, ⟨wq2, c10, cwq⟩, cW, -, cT⟩ := hc1
    exact ⟨(f13 0 (by decide) (by decide) (by decide)).trans c0, (f13 1 (by decide) (by decide) (by decide)).trans c1, (f13 2 (by decide) (by decide) (by decide)).trans c2, (f13 3 (by decide) (by decide) (by decide)).trans c3, (f13 4 (by decide) (by decide) (by decide)).trans c4, ⟨qa, pa, ea, eb⟩, ⟨wq2, (f13 10 (by decide) (by decide) (by decide)).trans c10, cwq⟩, fun t ht => ⟨(cW t ht).1.keep (fun a a1 a2 => f13 a (by omega) (by omega) (by omega)), (cW t ht).2.imp (fun Q hQ => (f13 _ (by omega) (by omega) (by omega)).trans hQ)⟩, ⟨⟨_, hb3⟩, Q0, (f3 64 (by decide) (by decide) (by decide)).trans hq2⟩, cT.far (fun a a1 a2 => f13 a (by omega) (by omega) (by omega))⟩
  have fk3 : FrK H H3 := fk1.trans (fun a ha => f13 a (by omega) (by omega) (by omega))
  have hch3 : ChB H H3 B P 0 cl cp cb tb 0 g rl wss t ws := ⟨hc3, hb3, fk3⟩
  obtain ⟨D3, S3, K3, E3, hb3A, hb3L, hb340, hb341⟩ := id hb3
  have hb3k := hb3L.ok hb340 hb341
  have h03 := hc3.1
  have h13 := hc3.2.1
  have h23 := hc3.2.2.1
  have hT3 : TreeAt H3 t.1 t.2.1 t.2.2.1 t.2.2.2.1 t.2.2.2.2.1 t.2.2.2.2.2 := hc3.2.2.2.2.2.2.2.2.2
  refine RQ.blk 2 (pc' := 90) (lv' := [(3, .int (nI r)), (2, .int (nI l)), (0, .ref 1), (1, .int (nI v))]) (st' := [.ref 1, .ref 1]) (H' := _) (kc' := 0) (ks' := 0) rfl ?_
  refine RQ.get (ci := 11) rfl h03 rfl rfl ?_
  refine RQ.get (ci := 0) rfl hb3A.1 rfl rfl ?_
  refine RQ.blk 2 (pc' := 98) (lv' := [(3, .int (nI r)), (2, .int (nI l)), (0, .ref 1), (1, .int (nI v))]) (st' := [.int (nI ws.length + 1), .ref 1]) (H' := _) (kc' := 0) (ks' := 0) rfl ?_
  rw [show (nI ws.length + 1 : Int32) = nI (ws.length + 1) from nI_add ws.length 1]
  refine RQ.call (v := none) (st' := []) rfl rfl rfl rfl rfl rfl (args_v [.int (nI (ws.length + 1))] [] rfl rfl (Nat.le_of_ble_eq_true rfl) rfl h03 (Nat.le_of_ble_eq_true rfl)) (rc_armCut0 h03) ?_
  refine RQ.blk 2 (pc' := 103) (lv' := [(3, .int (nI r)), (2, .int (nI l)), (0, .ref 1), (1, .int (nI v))]) (st' := [.ref 1, .ref 1]) (H' := _) (kc' := 0) (ks' := 0) rfl ?_
  refine RQ.callB (st' := [.ref 1]) rfl rfl rfl rfl rfl rfl (args_v [] [.ref 1] rfl rfl (Nat.le_of_ble_eq_true rfl) rfl h03 (Nat.le_of_ble_eq_true rfl)) (hRM H3 hch3) (fun H4 hH4 => ?_) (fun H4 hH4 => False.elim hH4)
  · have g1 := hf1 H4 hH4
    refine RQ.brF rfl rfl rfl (by decide) ?_
    refine RQ.blk 2 (pc' := 111) (lv' := [(3, .int (nI r)), (2, .int (nI l)), (0, .ref 1), (1, .int (nI v))]) (st' := [.ref 1, .ref 1, .ref 1]) (H' := _) (kc' := 0) (ks' := 0) rfl ?_
    refine RQ.get (ci := 11) rfl g1 rfl rfl ?_
    refine RQ.callB (st' := [.ref 1]) rfl rfl rfl rfl rfl rfl (args_v [.ref 60] [.ref 1] rfl rfl (Nat.le_of_ble_eq_true rfl) rfl g1 (Nat.le_of_ble_eq_true rfl)) (hST H4 hH4) (fun H5 hH5 => ?_) (fun H5 hH5 => False.elim hH5)
    · have g2 := hf2 H5 hH5
      refine RQ.brF rfl rfl rfl (by decide) ?_
      refine RQ.blk 2 (pc' := 125) (lv' := [(3, .int (nI r)), (2, .int (nI l)), (0, .ref 1), (1, .int (nI v))]) (st' := [.int 1, .ref 1]) (H' := _) (kc' := 0) (ks' := 0) rfl ?_
      refine RQ.callN (st' := []) rfl rfl rfl rfl rfl rfl (args_v [.int 1] [] rfl rfl (Nat.le_of_ble_eq_true rfl) rfl g2 (Nat.le_of_ble_eq_true rfl)) (hSE H5 hH5) (fun H6 hH6 => ?_)
      have g3 := hf3 H6 hH6
      refine RQ.blk 2 (pc' := 130) (lv' := [(3, .int (nI r)), (2, .int (nI l)), (0, .ref 1), (1, .int (nI v))]) (st' := [.ref 1, .ref 1]) (H' := _) (kc' := 0) (ks' := 0) rfl ?_
      refine RQ.get (ci := 11) rfl g3 rfl rfl ?_
      refine RQ.callN (st' := []) rfl rfl rfl rfl rfl rfl (args_v [.ref 60] [] rfl rfl (Nat.le_of_ble_eq_true rfl) rfl g3 (Nat.le_of_ble_eq_true rfl)) (hIN H6 hH6) (fun H7 hH7 => ?_)
      obtain ⟨g5, ⟨tfs, g65⟩, lx, g11⟩ := hf5 H7 hH7
      refine RQ.blk 1 (pc' := 137) (lv' := [(3, .int (nI r)), (2, .int (nI l)), (0, .ref 1), (1, .int (nI v))]) (st' := [.ref 1]) (H' := _) (kc' := 0) (ks' := 0) rfl ?_
      refine RQ.get (ci := 11) rfl g5 rfl rfl ?_
      refine RQ.blk 1 (pc' := 141) (lv' := [(3, .int (nI r)), (2, .int (nI l)), (0, .ref 1), (1, .int (nI v))]) (st' := [.int (nI r), .ref 66]) (H' := _) (kc' := 0) (ks' := 0) rfl ?_
      refine RQ.callN (st' := []) rfl rfl rfl rfl rfl rfl (args_v [.int (nI r)] [] rfl rfl (Nat.le_of_ble_eq_true rfl) rfl g65 (Nat.le_of_ble_eq_true rfl)) (hTS H7 hH7) (fun H8 hH8 => ?_)
      refine RQ.blk 1 (pc' := 145) (lv' := [(3, .int (nI r)), (2, .int (nI l)), (0, .ref 1), (1, .int (nI v))]) (st' := [.int (nI r)]) (H' := _) (kc' := 0) (ks' := 0) rfl ?_
      exact RQ.done (c := 0) (s := 0) rfl rfl rfl rfl ⟨_, _, rfl, rfl, hH8⟩
set_option maxRecDepth 20000 in
theorem rx_remove_late {sc : Nat × (Nat → Int32)} {d : Nat} {H : aH} {B P : Nat}  {cp cb : Nat} {tb : Nat → Int8} {l : Nat} {g : Nat → Int8} {rl : Nat} {wss : Nat → List aE} {t : aTr} {v r N : Nat} {vs : List aV} {ws : List aE} {ok1 ok2 fin : aH → Prop} (h : ClsA H B P 1 1 1 cp cb tb l g rl wss t) (hk : TreeOk t.1 t.2.1 t.2.2.1 t.2.2.2.1) (hv : v ≤ 200) (hl1 : 1 ≤ l) (hl2 : l ≤ 30) (hnm : (∀ k, k < l → ¬ btB tb l (0 + k) = 47)) (hkd : t.1 v = 2) (hch : fstF (inN t.1 t.2.1 t.2.2.2.1 t.2.2.2.2.1 v (sl tb 0 l)) 1 200 = some r) (hc0 : (sumF (fun w => if inD t.1 t.2.1 r w then 1 else 0) 200) = 0) (hV : VersIs H N vs) (hws : [] ++ [([1, r], none)] ++ goneW vs r 32 = ws) (hRM : ∀ H', ChB H H' B P 1 1 cp cb tb 0 g rl wss t ws → RB sc (d + 7) mr_96 [.ref 1] H' ok1 (fun _ => False)) (hST : ∀ H', ok1 H' → RB sc (d + 7) mr_150 [.ref 1, .ref 60] H' ok2 (fun _ => False)) (hf1 : ∀ H', ok1 H' → H'[0]? = some (kO 11 (fvs (nI B) (nI P) 1 1 1 (nI cp) (nI cb)))) (hSE : ∀ H', ok2 H' → RX sc (d + 7) mr_153 [.ref 1, .int 1] H' 1 fin) (hf2 : ∀ H', ok2 H' → H'[0]? = some (kO 11 (fvs (nI B) (nI P) 1 1 1 (nI cp) (nI cb)))) : RXc sc (d + 8) mr_225 [.ref 1, .int (nI v)] H 1 (fun H' => fin H') := by
  obtain ⟨h0, h1, h2, h3, h4, ⟨q5, p6, h5, h6⟩, ⟨wq, h10, hwq⟩, hW, hCh, hT⟩ := id h
  refine RXc.of ?_
  refine RQ.blk 2 (pc' := 2) (lv' := [(0, .ref 1), (1, .int (nI v))]) (st' := [.int (nI v), .ref 1]) (H' := _) (kc' := 0) (ks' := 0) rfl ?_
  refine RQ.call (v := none) (st' := []) rfl rfl rfl rfl rfl rfl (args_v [.int (nI v)] [] rfl rfl (Nat.le_of_ble_eq_true rfl) rfl h0 (Nat.le_of_ble_eq_true rfl)) (rc_reqNum h0 hv) ?_
  refine RQ.blk 3 (pc' := 8) (lv' := [(0, .ref 1), (1, .int (nI v))]) (st' := [.ref 1, .int 0, .ref 1]) (H' := _) (kc' := 0) (ks' := 0) rfl ?_
  refine RQ.get (ci := 11) rfl h0 rfl rfl ?_
  refine RQ.get (ci := 5) rfl h1 rfl rfl ?_
  refine RQ.call (v := none) (st' := []) rfl rfl rfl rfl rfl rfl (args_v [.int (nI l), .int 0] [] rfl rfl (Nat.le_of_ble_eq_true rfl) rfl h0 (Nat.le_of_ble_eq_true rfl)) (rc_requireName1 (i := 0) h0 ⟨h1, h2, by decide, by decide⟩ (by omega) (by decide) hl1 hl2 hnm) ?_
  refine RQ.blk 1 (pc' := 18) (lv' := [(0, .ref 1), (1, .int (nI v))]) (st' := [.ref 1]) (H' := _) (kc' := 0) (ks' := 0) rfl ?_
  refine RQ.call (v := none) (st' := []) rfl rfl rfl rfl rfl rfl (args_v [] [] rfl rfl (Nat.le_of_ble_eq_true rfl) rfl h0 (Nat.le_of_ble_eq_true rfl)) (rc_up h0 rfl) ?_
  refine RQ.blk 1 (pc' := 22) (lv' := [(0, .ref 1), (1, .int (nI v))]) (st' := [.ref 1]) (H' := _) (kc' := 0) (ks' := 0) rfl ?_
  refine RQ.call (v := some (.int (nI l))) (st' := []) rfl rfl rfl rfl rfl rfl (args_v [] [] rfl rfl (Nat.le_of_ble_eq_true rfl) rfl h0 (Nat.le_of_ble_eq_true rfl)) (rc_takeTape h0 h1) ?_
  have far1 : ∀ a, a ≠ 1 → (H.set 1 (kO 5 [.ref 3, .int (nI 0)]))[a]? = H[a]? := fun a ha => set_far ha
  have h11 : (H.set 1 (kO 5 [.ref 3, .int (nI 0)]))[1]? = some (kO 5 [.ref 3, .int (nI 0)]) := get_set h1
  refine RQ.blk 1 (pc' := 26) (lv' := [(2, .int (nI l)), (0, .ref 1), (1, .int (nI v))]) (st' := []) (H' := _) (kc' := 0) (ks' := 0) rfl ?_
  show RQ _ _ _ 26 [(2, .int (nI l)), (0, .ref 1), (1, .int (nI v))] [] (H.set 1 (kO 5 [.ref 3, .int (nI 0)])) 0 0 _
  generalize (H.set 1 (kO 5 [.ref 3, .int (nI 0)])) = H1 at far1 h11 ⊢
  have h01 := (far1 0 (by decide)).trans h0
  have h21 := (far1 2 (by decide)).trans h2
  have hT1 : TreeAt H1 t.1 t.2.1 t.2.2.1 t.2.2.2.1 t.2.2.2.2.1 t.2.2.2.2.2 := hT.far (fun a a1 a2 => far1 a (by omega))
  have hc1 : ClsA H1 B P 1 1 1 cp cb tb 0 g rl wss t := h.small h01 h11 h21 ((far1 3 (by decide)).trans h3) ((far1 4 (by decide)).trans h4) ⟨q5, p6, (far1 5 (by decide)).trans h5, (far1 6 (by decide)).trans h6⟩ (fun a a1 a2 => far1 a (by omega))
  have fk1 : FrK H H1 := fun a ha => far1 a (by omega)
  refine RQ.blk 2 (pc' := 28) (lv' := [(2, .int (nI l)), (0, .ref 1), (1, .int (nI v))]) (st' := [.int (nI v), .ref 1]) (H' := _) (kc' := 0) (ks' := 0) rfl ?_
  refine RQ.call (v := none) (st' := []) rfl rfl rfl rfl rfl rfl (args_v [.int (nI v)] [] rfl rfl (Nat.le_of_ble_eq_true rfl) rfl h01 (Nat.le_of_ble_eq_true rfl)) (rc_reqDir h01 rfl hT1.1 rfl hT1.2.1 hv (nI_is2 hkd)) ?_
  refine RQ.blk 1 (pc' := 32) (lv' := [(2, .int (nI l)), (0, .ref 1), (1, .int (nI v))]) (st' := [.ref 1]) (H' := _) (kc' := 0) (ks' := 0) rfl ?_
  refine RQ.get (ci := 11) rfl h01 rfl rfl ?_
  refine RQ.blk 2 (pc' := 37) (lv' := [(2, .int (nI l)), (0, .ref 1), (1, .int (nI v))]) (st' := [.ref 1, .int (nI v), .ref 66]) (H' := _) (kc' := 0) (ks' := 0) rfl ?_
  refine RQ.get (ci := 11) rfl h01 rfl rfl ?_
  refine RQ.get (ci := 5) rfl h11 rfl rfl ?_
  refine RQ.blk 2 (pc' := 45) (lv' := [(2, .int (nI l)), (0, .ref 1), (1, .int (nI v))]) (st' := [.int (nI l), .int 0, .ref 3, .int (nI v), .ref 66]) (H' := _) (kc' := 0) (ks' := 0) rfl ?_
  refine RQ.call (v := some (.int (lI (fstF (inN t.1 t.2.1 t.2.2.2.1 t.2.2.2.2.1 v (sl tb 0 l)) 1 200)))) (st' := []) rfl rfl rfl rfl rfl rfl (args_v [.int (nI l), .int 0, .ref 3, .int (nI v)] [] rfl rfl (Nat.le_of_ble_eq_true rfl) rfl hT1.1 (Nat.le_of_ble_eq_true rfl)) (rc_childNamed (a := 2) (na := 2000) (j := 0) (m := l) hT1 hk h21 (by decide) (by omega) hv) ?_
  rw [hch]
  rw [show lI (some r) = nI r from rfl]
  have hr := fstF_lt hch
  refine RQ.blk 3 (pc' := 51) (lv' := [(3, .int (nI r)), (2, .int (nI l)), (0, .ref 1), (1, .int (nI v))]) (st' := [.int (nI r), .ref 1]) (H' := _) (kc' := 0) (ks' := 0) rfl ?_
  refine RQ.call (v := none) (st' := []) rfl rfl rfl rfl rfl rfl (args_v [.int (nI r)] [] rfl rfl (Nat.le_of_ble_eq_true rfl) rfl h01 (Nat.le_of_ble_eq_true rfl)) (rc_there (by omega)) ?_
  refine RQ.blk 1 (pc' := 55) (lv' := [(3, .int (nI r)), (2, .int (nI l)), (0, .ref 1), (1, .int (nI v))]) (st' := [.ref 1]) (H' := _) (kc' := 0) (ks' := 0) rfl ?_
  refine RQ.get (ci := 11) rfl h01 rfl rfl ?_
  refine RQ.blk 1 (pc' := 59) (lv' := [(3, .int (nI r)), (2, .int (nI l)), (0, .ref 1), (1, .int (nI v))]) (st' := [.int (nI r), .ref 66]) (H' := _) (kc' := 0) (ks' := 0) rfl ?_
  refine RQ.call (v := some (.int (nI (sumF (fun w => if inD t.1 t.2.1 r w then 1 else 0) 200)))) (st' := []) rfl rfl rfl rfl rfl rfl (args_v [.int (nI r)] [] rfl rfl (Nat.le_of_ble_eq_true rfl) rfl hT1.1 (Nat.le_of_ble_eq_true rfl)) (rc_childCount hT1 hk (by omega)) ?_
  have hcc := sumF_le01 (P := fun w => inD t.1 t.2.1 r w) 200
  refine RQ.brT rfl rfl rfl (cT_le (sumF (fun w => if inD t.1 t.2.1 r w then 1 else 0) 200) 0) ?_
  obtain ⟨⟨ws0, hb0⟩, Q0, hq0⟩ := hc1.2.2.2.2.2.2.2.2.1
  obtain ⟨D0, S0, K0, E0, hb0A, -⟩ := id hb0
  refine RQ.blk 1 (pc' := 77) (lv' := [(3, .int (nI r)), (2, .int (nI l)), (0, .ref 1), (1, .int (nI v))]) (st' := [.ref 1]) (H' := _) (kc' := 0) (ks' := 0) rfl ?_
  refine RQ.get (ci := 11) rfl h01 rfl rfl ?_
  refine RQ.callN (st' := []) rfl rfl rfl rfl rfl rfl (args_v [] [] rfl rfl (Nat.le_of_ble_eq_true rfl) rfl hb0A.1 (Nat.le_of_ble_eq_true rfl)) (rn_bclearI hb0) (fun H2 hx2 => ?_)
  obtain ⟨hb2, f2⟩ := hx2
  have h02 := (f2 0 (by decide)).trans h01
  have h12 := (f2 1 (by decide)).trans h11
  have h22 := (f2 2 (by decide)).trans h21
  have hT2 : TreeAt H2 t.1 t.2.1 t.2.2.1 t.2.2.2.1 t.2.2.2.2.1 t.2.2.2.2.2 := hT1.far (fun a a1 a2 => f2 a (by omega))
  have hq2 := (f2 64 (by decide)).trans hq0
  have e52 : ∃ q : Nat, H2[5]? = some (kO 5 [.ref 7, .int (nI q)]) := ⟨q5, (f2 5 (by decide)).trans ((far1 5 (by decide)).trans h5)⟩
  have e62 : ∃ g, H2[6]? = some (kB 41 g) := ⟨p6, (f2 6 (by decide)).trans ((far1 6 (by decide)).trans h6)⟩
  refine RQ.blk 2 (pc' := 85) (lv' := [(3, .int (nI r)), (2, .int (nI l)), (0, .ref 1), (1, .int (nI v))]) (st' := [.int (nI r), .ref 1]) (H' := _) (kc' := 0) (ks' := 0) rfl ?_
  refine RQ.callN (st' := []) rfl rfl rfl rfl rfl rfl (args_v [.int (nI r)] [] rfl rfl (Nat.le_of_ble_eq_true rfl) rfl h02 (Nat.le_of_ble_eq_true rfl)) (rn_chGone (f := r) (ws := []) h02 e52 e62 hb2 (hV.far (fun a a1 a2 => (f2 a (by omega)).trans (far1 a (by omega)))) (by omega) (by decide) (by decide)) (fun H3 hx3 => ?_)
  obtain ⟨hb3, e53, e63, f3⟩ := hx3
  rw [hws] at hb3
  have f13 : ∀ a, a ≠ 5 → a ≠ 6 → ¬ (59 ≤ a ∧ a < 64) → H3[a]? = H1[a]? := fun a a1 a2 a3 => (f3 a a1 a2 a3).trans (f2 a (by omega))
  have hc3 : ClsA H3 B P 1 1 1 cp cb tb 0 g rl wss t := by
    obtain ⟨qa, ea⟩ := e53
    obtain ⟨pa, eb⟩ := e63
    obtain ⟨c0, c1, c2, c3, c4, -, ⟨wq2, c10, cwq⟩, cW, -, cT⟩ := hc1
    exact ⟨(f13 0 (by decide) (by decide) (by decide)).trans c0, (f13 1 (by decide) (by decide) (by decide)).trans c1, (f13 2 (by decide) (by decide) (by decide)).trans c2, (f13 3 (by decide) (by decide) (by decide)).trans c3, (f13 4 (by decide) (by decide) (by decide)).trans c4, ⟨qa, pa, ea, eb⟩, ⟨wq2, (f13 10 (by decide) (by decide) (by decide)).trans c10, cwq⟩, fun t ht => ⟨(cW t ht).1.keep (fun a a1 a2 => f13 a (by omega) (by omega) (by omega)), (cW t ht).2.imp (fun Q hQ => (f13 _ (by omega) (by omega) (by omega)).trans hQ)⟩, ⟨⟨_, hb3⟩, Q0, (f3 64 (by decide) (by decide) (by decide)).trans hq2⟩, cT.far (fun a a1 a2 => f13 a (by omega) (by omega) (by omega))⟩
  have fk3 : FrK H H3 := fk1.trans (fun a ha => f13 a (by omega) (by omega) (by omega))
  have hch3 : ChB H H3 B P 1 1 cp cb tb 0 g rl wss t ws := ⟨hc3, hb3, fk3⟩
  obtain ⟨D3, S3, K3, E3, hb3A, hb3L, hb340, hb341⟩ := id hb3
  have hb3k := hb3L.ok hb340 hb341
  have h03 := hc3.1
  have h13 := hc3.2.1
  have h23 := hc3.2.2.1
  have hT3 : TreeAt H3 t.1 t.2.1 t.2.2.1 t.2.2.2.1 t.2.2.2.2.1 t.2.2.2.2.2 := hc3.2.2.2.2.2.2.2.2.2
  refine RQ.blk 2 (pc' := 90) (lv' := [(3, .int (nI r)), (2, .int (nI l)), (0, .ref 1), (1, .int (nI v))]) (st' := [.ref 1, .ref 1]) (H' := _) (kc' := 0) (ks' := 0) rfl ?_
  refine RQ.get (ci := 11) rfl h03 rfl rfl ?_
  refine RQ.get (ci := 0) rfl hb3A.1 rfl rfl ?_
  refine RQ.blk 2 (pc' := 98) (lv' := [(3, .int (nI r)), (2, .int (nI l)), (0, .ref 1), (1, .int (nI v))]) (st' := [.int (nI ws.length + 1), .ref 1]) (H' := _) (kc' := 0) (ks' := 0) rfl ?_
  rw [show (nI ws.length + 1 : Int32) = nI (ws.length + 1) from nI_add ws.length 1]
  refine RQ.call (v := none) (st' := []) rfl rfl rfl rfl rfl rfl (args_v [.int (nI (ws.length + 1))] [] rfl rfl (Nat.le_of_ble_eq_true rfl) rfl h03 (Nat.le_of_ble_eq_true rfl)) (rc_armCutL h03) ?_
  refine RQ.blk 2 (pc' := 103) (lv' := [(3, .int (nI r)), (2, .int (nI l)), (0, .ref 1), (1, .int (nI v))]) (st' := [.ref 1, .ref 1]) (H' := _) (kc' := 0) (ks' := 0) rfl ?_
  refine RQ.callB (st' := [.ref 1]) rfl rfl rfl rfl rfl rfl (args_v [] [.ref 1] rfl rfl (Nat.le_of_ble_eq_true rfl) rfl h03 (Nat.le_of_ble_eq_true rfl)) (hRM H3 hch3) (fun H4 hH4 => ?_) (fun H4 hH4 => False.elim hH4)
  · have g1 := hf1 H4 hH4
    refine RQ.brF rfl rfl rfl (by decide) ?_
    refine RQ.blk 2 (pc' := 111) (lv' := [(3, .int (nI r)), (2, .int (nI l)), (0, .ref 1), (1, .int (nI v))]) (st' := [.ref 1, .ref 1, .ref 1]) (H' := _) (kc' := 0) (ks' := 0) rfl ?_
    refine RQ.get (ci := 11) rfl g1 rfl rfl ?_
    refine RQ.callB (st' := [.ref 1]) rfl rfl rfl rfl rfl rfl (args_v [.ref 60] [.ref 1] rfl rfl (Nat.le_of_ble_eq_true rfl) rfl g1 (Nat.le_of_ble_eq_true rfl)) (hST H4 hH4) (fun H5 hH5 => ?_) (fun H5 hH5 => False.elim hH5)
    · have g2 := hf2 H5 hH5
      refine RQ.brF rfl rfl rfl (by decide) ?_
      refine RQ.blk 2 (pc' := 125) (lv' := [(3, .int (nI r)), (2, .int (nI l)), (0, .ref 1), (1, .int (nI v))]) (st' := [.int 1, .ref 1]) (H' := _) (kc' := 0) (ks' := 0) rfl ?_
      obtain ⟨HX, hxX, hpX⟩ := hSE H5 hH5
      exact RQ.callP (st' := []) rfl rfl rfl rfl rfl rfl (args_v [.int 1] [] rfl rfl (Nat.le_of_ble_eq_true rfl) rfl g2 (Nat.le_of_ble_eq_true rfl)) hxX rfl ⟨_, 1, by decide, rfl, hpX⟩
set_option maxRecDepth 20000 in
theorem rx_remove_cut {sc : Nat × (Nat → Int32)} {d : Nat} {H : aH} {B P : Nat}  {cp cb : Nat} {tb : Nat → Int8} {l : Nat} {g : Nat → Int8} {rl : Nat} {wss : Nat → List aE} {t : aTr} {v r N : Nat} {vs : List aV} {ws : List aE} {ok1 bad fin : aH → Prop} (h : ClsA H B P 1 1 0 cp cb tb l g rl wss t) (hk : TreeOk t.1 t.2.1 t.2.2.1 t.2.2.2.1) (hv : v ≤ 200) (hl1 : 1 ≤ l) (hl2 : l ≤ 30) (hnm : (∀ k, k < l → ¬ btB tb l (0 + k) = 47)) (hkd : t.1 v = 2) (hch : fstF (inN t.1 t.2.1 t.2.2.2.1 t.2.2.2.2.1 v (sl tb 0 l)) 1 200 = some r) (hc0 : (sumF (fun w => if inD t.1 t.2.1 r w then 1 else 0) 200) = 0) (hV : VersIs H N vs) (hws : [] ++ [([1, r], none)] ++ goneW vs r 32 = ws) (hC0 : ∀ H', ChB H H' B P 1 0 cp cb tb 0 g rl wss t ws → ∃ cf tf pq bb, ChipAt H' B cf tf pq bb 0) (hcp : cp < 2 ^ 31) (hRM : ∀ H', ChB H H' B P 1 0 cp cb tb 0 g rl wss t ws → RB sc (d + 7) mr_96 [.ref 1] (H'.set 71 (kO 1 [.ref 73, .ref 74, .int (lI (some (cp % (ws.length + 1)))), .int (nI cb), .int (nI 0)])) ok1 bad) (hST : ∀ H', ok1 H' → RB sc (d + 7) mr_150 [.ref 1, .ref 60] H' (fun _ => False) bad) (hf1 : ∀ H', ok1 H' → H'[0]? = some (kO 11 (fvs (nI B) (nI P) 1 1 0 (nI cp) (nI cb)))) (hSB : ∀ H', bad H' → RX sc (d + 7) mr_153 [.ref 1, .int 0] H' 1 fin) (hfb : ∀ H', bad H' → H'[0]? = some (kO 11 (fvs (nI B) (nI P) 1 1 0 (nI cp) (nI cb)))) : RXc sc (d + 8) mr_225 [.ref 1, .int (nI v)] H 1 (fun H' => fin H') := by
  obtain ⟨h0, h1, h2, h3, h4, ⟨q5, p6, h5, h6⟩, ⟨wq, h10, hwq⟩, hW, hCh, hT⟩ := id h
  refine RXc.of ?_
  refine RQ.blk 2 (pc' := 2) (lv' := [(0, .ref 1), (1, .int (nI v))]) (st' := [.int (nI v), .ref 1]) (H' := _) (kc' := 0) (ks' := 0) rfl ?_
  refine RQ.call (v := none) (st' := []) rfl rfl rfl rfl rfl rfl (args_v [.int (nI v)] [] rfl rfl (Nat.le_of_ble_eq_true rfl) rfl h0 (Nat.le_of_ble_eq_true rfl)) (rc_reqNum h0 hv) ?_
  refine RQ.blk 3 (pc' := 8) (lv' := [(0, .ref 1), (1, .int (nI v))]) (st' := [.ref 1, .int 0, .ref 1]) (H' := _) (kc' := 0) (ks' := 0) rfl ?_
  refine RQ.get (ci := 11) rfl h0 rfl rfl ?_
  refine RQ.get (ci := 5) rfl h1 rfl rfl ?_
  refine RQ.call (v := none) (st' := []) rfl rfl rfl rfl rfl rfl (args_v [.int (nI l), .int 0] [] rfl rfl (Nat.le_of_ble_eq_true rfl) rfl h0 (Nat.le_of_ble_eq_true rfl)) (rc_requireName1 (i := 0) h0 ⟨h1, h2, by decide, by decide⟩ (by omega) (by decide) hl1 hl2 hnm) ?_
  refine RQ.blk 1 (pc' := 18) (lv' := [(0, .ref 1), (1, .int (nI v))]) (st' := [.ref 1]) (H' := _) (kc' := 0) (ks' := 0) rfl ?_
  refine RQ.call (v := none) (st' := []) rfl rfl rfl rfl rfl rfl (args_v [] [] rfl rfl (Nat.le_of_ble_eq_true rfl) rfl h0 (Nat.le_of_ble_eq_true rfl)) (rc_up h0 rfl) ?_
  refine RQ.blk 1 (pc' := 22) (lv' := [(0, .ref 1), (1, .int (nI v))]) (st' := [.ref 1]) (H' := _) (kc' := 0) (ks' := 0) rfl ?_
  refine RQ.call (v := some (.int (nI l))) (st' := []) rfl rfl rfl rfl rfl rfl (args_v [] [] rfl rfl (Nat.le_of_ble_eq_true rfl) rfl h0 (Nat.le_of_ble_eq_true rfl)) (rc_takeTape h0 h1) ?_
  have far1 : ∀ a, a ≠ 1 → (H.set 1 (kO 5 [.ref 3, .int (nI 0)]))[a]? = H[a]? := fun a ha => set_far ha
  have h11 : (H.set 1 (kO 5 [.ref 3, .int (nI 0)]))[1]? = some (kO 5 [.ref 3, .int (nI 0)]) := get_set h1
  refine RQ.blk 1 (pc' := 26) (lv' := [(2, .int (nI l)), (0, .ref 1), (1, .int (nI v))]) (st' := []) (H' := _) (kc' := 0) (ks' := 0) rfl ?_
  show RQ _ _ _ 26 [(2, .int (nI l)), (0, .ref 1), (1, .int (nI v))] [] (H.set 1 (kO 5 [.ref 3, .int (nI 0)])) 0 0 _
  generalize (H.set 1 (kO 5 [.ref 3, .int (nI 0)])) = H1 at far1 h11 ⊢
  have h01 := (far1 0 (by decide)).trans h0
  have h21 := (far1 2 (by decide)).trans h2
  have hT1 : TreeAt H1 t.1 t.2.1 t.2.2.1 t.2.2.2.1 t.2.2.2.2.1 t.2.2.2.2.2 := hT.far (fun a a1 a2 => far1 a (by omega))
  have hc1 : ClsA H1 B P 1 1 0 cp cb tb 0 g rl wss t := h.small h01 h11 h21 ((far1 3 (by decide)).trans h3) ((far1 4 (by decide)).trans h4) ⟨q5, p6, (far1 5 (by decide)).trans h5, (far1 6 (by decide)).trans h6⟩ (fun a a1 a2 => far1 a (by omega))
  have fk1 : FrK H H1 := fun a ha => far1 a (by omega)
  refine RQ.blk 2 (pc' := 28) (lv' := [(2, .int (nI l)), (0, .ref 1), (1, .int (nI v))]) (st' := [.int (nI v), .ref 1]) (H' := _) (kc' := 0) (ks' := 0) rfl ?_
  refine RQ.call (v := none) (st' := []) rfl rfl rfl rfl rfl rfl (args_v [.int (nI v)] [] rfl rfl (Nat.le_of_ble_eq_true rfl) rfl h01 (Nat.le_of_ble_eq_true rfl)) (rc_reqDir h01 rfl hT1.1 rfl hT1.2.1 hv (nI_is2 hkd)) ?_
  refine RQ.blk 1 (pc' := 32) (lv' := [(2, .int (nI l)), (0, .ref 1), (1, .int (nI v))]) (st' := [.ref 1]) (H' := _) (kc' := 0) (ks' := 0) rfl ?_
  refine RQ.get (ci := 11) rfl h01 rfl rfl ?_
  refine RQ.blk 2 (pc' := 37) (lv' := [(2, .int (nI l)), (0, .ref 1), (1, .int (nI v))]) (st' := [.ref 1, .int (nI v), .ref 66]) (H' := _) (kc' := 0) (ks' := 0) rfl ?_
  refine RQ.get (ci := 11) rfl h01 rfl rfl ?_
  refine RQ.get (ci := 5) rfl h11 rfl rfl ?_
  refine RQ.blk 2 (pc' := 45) (lv' := [(2, .int (nI l)), (0, .ref 1), (1, .int (nI v))]) (st' := [.int (nI l), .int 0, .ref 3, .int (nI v), .ref 66]) (H' := _) (kc' := 0) (ks' := 0) rfl ?_
  refine RQ.call (v := some (.int (lI (fstF (inN t.1 t.2.1 t.2.2.2.1 t.2.2.2.2.1 v (sl tb 0 l)) 1 200)))) (st' := []) rfl rfl rfl rfl rfl rfl (args_v [.int (nI l), .int 0, .ref 3, .int (nI v)] [] rfl rfl (Nat.le_of_ble_eq_true rfl) rfl hT1.1 (Nat.le_of_ble_eq_true rfl)) (rc_childNamed (a := 2) (na := 2000) (j := 0) (m := l) hT1 hk h21 (by decide) (by omega) hv) ?_
  rw [hch]
  rw [show lI (some r) = nI r from rfl]
  have hr := fstF_lt hch
  refine RQ.blk 3 (pc' := 51) (lv' := [(3, .int (nI r)), (2, .int (nI l)), (0, .ref 1), (1, .int (nI v))]) (st' := [.int (nI r), .ref 1]) (H' := _) (kc' := 0) (ks' := 0) rfl ?_
  refine RQ.call (v := none) (st' := []) rfl rfl rfl rfl rfl rfl (args_v [.int (nI r)] [] rfl rfl (Nat.le_of_ble_eq_true rfl) rfl h01 (Nat.le_of_ble_eq_true rfl)) (rc_there (by omega)) ?_
  refine RQ.blk 1 (pc' := 55) (lv' := [(3, .int (nI r)), (2, .int (nI l)), (0, .ref 1), (1, .int (nI v))]) (st' := [.ref 1]) (H' := _) (kc' := 0) (ks' := 0) rfl ?_
  refine RQ.get (ci := 11) rfl h01 rfl rfl ?_
  refine RQ.blk 1 (pc' := 59) (lv' := [(3, .int (nI r)), (2, .int (nI l)), (0, .ref 1), (1, .int (nI v))]) (st' := [.int (nI r), .ref 66]) (H' := _) (kc' := 0) (ks' := 0) rfl ?_
  refine RQ.call (v := some (.int (nI (sumF (fun w => if inD t.1 t.2.1 r w then 1 else 0) 200)))) (st' := []) rfl rfl rfl rfl rfl rfl (args_v [.int (nI r)] [] rfl rfl (Nat.le_of_ble_eq_true rfl) rfl hT1.1 (Nat.le_of_ble_eq_true rfl)) (rc_childCount hT1 hk (by omega)) ?_
  have hcc := sumF_le01 (P := fun w => inD t.1 t.2.1 r w) 200
  refine RQ.brT rfl rfl rfl (cT_le (sumF (fun w => if inD t.1 t.2.1 r w then 1 else 0) 200) 0) ?_
  obtain ⟨⟨ws0, hb0⟩, Q0, hq0⟩ := hc1.2.2.2.2.2.2.2.2.1
  obtain ⟨D0, S0, K0, E0, hb0A, -⟩ := id hb0
  refine RQ.blk 1 (pc' := 77) (lv' := [(3, .int (nI r)), (2, .int (nI l)), (0, .ref 1), (1, .int (nI v))]) (st' := [.ref 1]) (H' := _) (kc' := 0) (ks' := 0) rfl ?_
  refine RQ.get (ci := 11) rfl h01 rfl rfl ?_
  refine RQ.callN (st' := []) rfl rfl rfl rfl rfl rfl (args_v [] [] rfl rfl (Nat.le_of_ble_eq_true rfl) rfl hb0A.1 (Nat.le_of_ble_eq_true rfl)) (rn_bclearI hb0) (fun H2 hx2 => ?_)
  obtain ⟨hb2, f2⟩ := hx2
  have h02 := (f2 0 (by decide)).trans h01
  have h12 := (f2 1 (by decide)).trans h11
  have h22 := (f2 2 (by decide)).trans h21
  have hT2 : TreeAt H2 t.1 t.2.1 t.2.2.1 t.2.2.2.1 t.2.2.2.2.1 t.2.2.2.2.2 := hT1.far (fun a a1 a2 => f2 a (by omega))
  have hq2 := (f2 64 (by decide)).trans hq0
  have e52 : ∃ q : Nat, H2[5]? = some (kO 5 [.ref 7, .int (nI q)]) := ⟨q5, (f2 5 (by decide)).trans ((far1 5 (by decide)).trans h5)⟩
  have e62 : ∃ g, H2[6]? = some (kB 41 g) := ⟨p6, (f2 6 (by decide)).trans ((far1 6 (by decide)).trans h6)⟩
  refine RQ.blk 2 (pc' := 85) (lv' := [(3, .int (nI r)), (2, .int (nI l)), (0, .ref 1), (1, .int (nI v))]) (st' := [.int (nI r), .ref 1]) (H' := _) (kc' := 0) (ks' := 0) rfl ?_
  refine RQ.callN (st' := []) rfl rfl rfl rfl rfl rfl (args_v [.int (nI r)] [] rfl rfl (Nat.le_of_ble_eq_true rfl) rfl h02 (Nat.le_of_ble_eq_true rfl)) (rn_chGone (f := r) (ws := []) h02 e52 e62 hb2 (hV.far (fun a a1 a2 => (f2 a (by omega)).trans (far1 a (by omega)))) (by omega) (by decide) (by decide)) (fun H3 hx3 => ?_)
  obtain ⟨hb3, e53, e63, f3⟩ := hx3
  rw [hws] at hb3
  have f13 : ∀ a, a ≠ 5 → a ≠ 6 → ¬ (59 ≤ a ∧ a < 64) → H3[a]? = H1[a]? := fun a a1 a2 a3 => (f3 a a1 a2 a3).trans (f2 a (by omega))
  have hc3 : ClsA H3 B P 1 1 0 cp cb tb 0 g rl wss t := by
    obtain ⟨qa, ea⟩ := e53
    obtain ⟨pa, eb⟩ := e63
    obtain ⟨c0, c1, c2, c3, c4, -, ⟨wq2, c10, cwq⟩, cW, -, cT⟩ := hc1
    exact ⟨(f13 0 (by decide) (by decide) (by decide)).trans c0, (f13 1 (by decide) (by decide) (by decide)).trans c1, (f13 2 (by decide) (by decide) (by decide)).trans c2, (f13 3 (by decide) (by decide) (by decide)).trans c3, (f13 4 (by decide) (by decide) (by decide)).trans c4, ⟨qa, pa, ea, eb⟩, ⟨wq2, (f13 10 (by decide) (by decide) (by decide)).trans c10, cwq⟩, fun t ht => ⟨(cW t ht).1.keep (fun a a1 a2 => f13 a (by omega) (by omega) (by omega)), (cW t ht).2.imp (fun Q hQ => (f13 _ (by omega) (by omega) (by omega)).trans hQ)⟩, ⟨⟨_, hb3⟩, Q0, (f3 64 (by decide) (by decide) (by decide)).trans hq2⟩, cT.far (fun a a1 a2 => f13 a (by omega) (by omega) (by omega))⟩
  have fk3 : FrK H H3 := fk1.trans (fun a ha => f13 a (by omega) (by omega) (by omega))
  have hch3 : ChB H H3 B P 1 0 cp cb tb 0 g rl wss t ws := ⟨hc3, hb3, fk3⟩
  obtain ⟨D3, S3, K3, E3, hb3A, hb3L, hb340, hb341⟩ := id hb3
  have hb3k := hb3L.ok hb340 hb341
  have h03 := hc3.1
  have h13 := hc3.2.1
  have h23 := hc3.2.2.1
  have hT3 : TreeAt H3 t.1 t.2.1 t.2.2.1 t.2.2.2.1 t.2.2.2.2.1 t.2.2.2.2.2 := hc3.2.2.2.2.2.2.2.2.2
  refine RQ.blk 2 (pc' := 90) (lv' := [(3, .int (nI r)), (2, .int (nI l)), (0, .ref 1), (1, .int (nI v))]) (st' := [.ref 1, .ref 1]) (H' := _) (kc' := 0) (ks' := 0) rfl ?_
  refine RQ.get (ci := 11) rfl h03 rfl rfl ?_
  refine RQ.get (ci := 0) rfl hb3A.1 rfl rfl ?_
  refine RQ.blk 2 (pc' := 98) (lv' := [(3, .int (nI r)), (2, .int (nI l)), (0, .ref 1), (1, .int (nI v))]) (st' := [.int (nI ws.length + 1), .ref 1]) (H' := _) (kc' := 0) (ks' := 0) rfl ?_
  rw [show (nI ws.length + 1 : Int32) = nI (ws.length + 1) from nI_add ws.length 1]
  obtain ⟨cf, tf, pq, bb, hC3⟩ := hC0 H3 hch3
  refine RQ.call (v := none) (st' := []) rfl rfl rfl rfl rfl rfl (args_v [.int (nI (ws.length + 1))] [] rfl rfl (Nat.le_of_ble_eq_true rfl) rfl h03 (Nat.le_of_ble_eq_true rfl)) (rc_armCutM (n := ws.length + 1) h03 hC3 (by omega) (by omega) hcp) ?_
  refine RQ.blk 2 (pc' := 103) (lv' := [(3, .int (nI r)), (2, .int (nI l)), (0, .ref 1), (1, .int (nI v))]) (st' := [.ref 1, .ref 1]) (H' := _) (kc' := 0) (ks' := 0) rfl ?_
  have hRM3 := hRM H3 hch3
  generalize hHA : (H3.set 71 (kO 1 [.ref 73, .ref 74, .int (lI (some (cp % (ws.length + 1)))), .int (nI cb), .int (nI 0)])) = HA at hRM3 ⊢
  have g0 : HA[0]? = some (kO 11 (fvs (nI B) (nI P) 1 1 0 (nI cp) (nI cb))) := by rw [← hHA]; exact (set_far (by decide)).trans h03
  refine RQ.callB (st' := [.ref 1]) rfl rfl rfl rfl rfl rfl (args_v [] [.ref 1] rfl rfl (Nat.le_of_ble_eq_true rfl) rfl g0 (Nat.le_of_ble_eq_true rfl)) hRM3 (fun H4 hH4 => ?_) (fun H4 hH4 => ?_)
  · have g1 := hf1 H4 hH4
    refine RQ.brF rfl rfl rfl (by decide) ?_
    refine RQ.blk 2 (pc' := 111) (lv' := [(3, .int (nI r)), (2, .int (nI l)), (0, .ref 1), (1, .int (nI v))]) (st' := [.ref 1, .ref 1, .ref 1]) (H' := _) (kc' := 0) (ks' := 0) rfl ?_
    refine RQ.get (ci := 11) rfl g1 rfl rfl ?_
    refine RQ.callB (st' := [.ref 1]) rfl rfl rfl rfl rfl rfl (args_v [.ref 60] [.ref 1] rfl rfl (Nat.le_of_ble_eq_true rfl) rfl g1 (Nat.le_of_ble_eq_true rfl)) (hST H4 hH4) (fun H5 hH5 => ?_) (fun H5 hH5 => ?_)
    · exact hH5.elim
    · have g2 := hfb H5 hH5
      refine RQ.brT rfl rfl rfl (by decide) ?_
      refine RQ.blk 1 (pc' := 125) (lv' := [(3, .int (nI r)), (2, .int (nI l)), (0, .ref 1), (1, .int (nI v))]) (st' := [.int 0, .ref 1]) (H' := _) (kc' := 0 + 1) (ks' := 0 + 6) rfl ?_
      obtain ⟨HX, hxX, hpX⟩ := hSB H5 hH5
      exact RQ.callP (st' := []) rfl rfl rfl rfl rfl rfl (args_v [.int 0] [] rfl rfl (Nat.le_of_ble_eq_true rfl) rfl g2 (Nat.le_of_ble_eq_true rfl)) hxX rfl ⟨_, 2, by decide, rfl, hpX⟩
  · have g2 := hfb H4 hH4
    refine RQ.brT rfl rfl rfl (by decide) ?_
    refine RQ.blk 1 (pc' := 125) (lv' := [(3, .int (nI r)), (2, .int (nI l)), (0, .ref 1), (1, .int (nI v))]) (st' := [.int 0, .ref 1]) (H' := _) (kc' := 0 + 1) (ks' := 0 + 6) rfl ?_
    obtain ⟨HX, hxX, hpX⟩ := hSB H4 hH4
    exact RQ.callP (st' := []) rfl rfl rfl rfl rfl rfl (args_v [.int 0] [] rfl rfl (Nat.le_of_ble_eq_true rfl) rfl g2 (Nat.le_of_ble_eq_true rfl)) hxX rfl ⟨_, 2, by decide, rfl, hpX⟩
set_option maxRecDepth 20000 in
theorem rx_resize_down {sc : Nat × (Nat → Int32)} {d : Nat} {H : aH} {B P : Nat} {cw cl : Int32} {cp cb : Nat} {tb : Nat → Int8} {l : Nat} {g : Nat → Int8} {rl : Nat} {wss : Nat → List aE} {t : aTr} {f n : Nat} (h : ClsA H B P 0 cw cl cp cb tb l g rl wss t) (hf : f ≤ 200) (hn : n ≤ 16384) : RX sc (d + 8) mr_250 [.ref 1, .int (nI f), .int (nI n)] H 1 (fun H' => ClsA H' B P 0 cw cl cp cb tb l g rl wss t ∧ FrK H H') := by
  obtain ⟨h0, h1, h2, h3, h4, ⟨q5, p6, h5, h6⟩, ⟨wq, h10, hwq⟩, hW, hCh, hT⟩ := id h
  refine RX.of ?_
  refine RQ.blk 2 (pc' := 2) (lv' := [(0, .ref 1), (1, .int (nI f)), (2, .int (nI n))]) (st' := [.int (nI f), .ref 1]) (H' := _) (kc' := 0) (ks' := 0) rfl ?_
  refine RQ.call (v := none) (st' := []) rfl rfl rfl rfl rfl rfl (args_v [.int (nI f)] [] rfl rfl (Nat.le_of_ble_eq_true rfl) rfl h0 (Nat.le_of_ble_eq_true rfl)) (rc_reqNum h0 hf) ?_
  refine RQ.blk 4 (pc' := 11) (lv' := [(0, .ref 1), (1, .int (nI f)), (2, .int (nI n))]) (st' := [.int 16384, .int 0, .int (nI n), .ref 1]) (H' := _) (kc' := 0) (ks' := 0) rfl ?_
  refine RQ.call (v := none) (st' := []) rfl rfl rfl rfl rfl rfl (args_v [.int 16384, .int 0, .int (nI n)] [] rfl rfl (Nat.le_of_ble_eq_true rfl) rfl h0 (Nat.le_of_ble_eq_true rfl)) (rc_range (nI_nlt (Nat.zero_le n) (by omega)) (rg_hi (n := 16384) hn (by decide))) ?_
  refine RQ.blk 1 (pc' := 15) (lv' := [(0, .ref 1), (1, .int (nI f)), (2, .int (nI n))]) (st' := [.ref 1]) (H' := _) (kc' := 0) (ks' := 0) rfl ?_
  exact RQ.callP (st' := []) rfl rfl rfl rfl rfl rfl (args_v [] [] rfl rfl (Nat.le_of_ble_eq_true rfl) rfl h0 (Nat.le_of_ble_eq_true rfl)) (rc_down h0 rfl) rfl ⟨_, rfl, h, FrK.rfl'⟩
set_option maxRecDepth 20000 in
theorem rx_resize_no {sc : Nat × (Nat → Int32)} {d : Nat} {H : aH} {B P : Nat} {cw cl : Int32} {cp cb : Nat} {tb : Nat → Int8} {l : Nat} {g : Nat → Int8} {rl : Nat} {wss : Nat → List aE} {t : aTr} {f n : Nat} (h : ClsA H B P 1 cw cl cp cb tb l g rl wss t) (hk : TreeOk t.1 t.2.1 t.2.2.1 t.2.2.2.1) (hf : f ≤ 200) (hn : n ≤ 16384) (hkd : ¬ t.1 f = 1) : RX sc (d + 8) mr_250 [.ref 1, .int (nI f), .int (nI n)] H 3 (fun H' => ClsA H' B P 1 cw cl cp cb tb l g rl wss t ∧ FrK H H') := by
  obtain ⟨h0, h1, h2, h3, h4, ⟨q5, p6, h5, h6⟩, ⟨wq, h10, hwq⟩, hW, hCh, hT⟩ := id h
  refine RX.of ?_
  refine RQ.blk 2 (pc' := 2) (lv' := [(0, .ref 1), (1, .int (nI f)), (2, .int (nI n))]) (st' := [.int (nI f), .ref 1]) (H' := _) (kc' := 0) (ks' := 0) rfl ?_
  refine RQ.call (v := none) (st' := []) rfl rfl rfl rfl rfl rfl (args_v [.int (nI f)] [] rfl rfl (Nat.le_of_ble_eq_true rfl) rfl h0 (Nat.le_of_ble_eq_true rfl)) (rc_reqNum h0 hf) ?_
  refine RQ.blk 4 (pc' := 11) (lv' := [(0, .ref 1), (1, .int (nI f)), (2, .int (nI n))]) (st' := [.int 16384, .int 0, .int (nI n), .ref 1]) (H' := _) (kc' := 0) (ks' := 0) rfl ?_
  refine RQ.call (v := none) (st' := []) rfl rfl rfl rfl rfl rfl (args_v [.int 16384, .int 0, .int (nI n)] [] rfl rfl (Nat.le_of_ble_eq_true rfl) rfl h0 (Nat.le_of_ble_eq_true rfl)) (rc_range (nI_nlt (Nat.zero_le n) (by omega)) (rg_hi (n := 16384) hn (by decide))) ?_
  refine RQ.blk 1 (pc' := 15) (lv' := [(0, .ref 1), (1, .int (nI f)), (2, .int (nI n))]) (st' := [.ref 1]) (H' := _) (kc' := 0) (ks' := 0) rfl ?_
  refine RQ.call (v := none) (st' := []) rfl rfl rfl rfl rfl rfl (args_v [] [] rfl rfl (Nat.le_of_ble_eq_true rfl) rfl h0 (Nat.le_of_ble_eq_true rfl)) (rc_up h0 rfl) ?_
  refine RQ.blk 2 (pc' := 20) (lv' := [(0, .ref 1), (1, .int (nI f)), (2, .int (nI n))]) (st' := [.int (nI f), .ref 1]) (H' := _) (kc' := 0) (ks' := 0) rfl ?_
  exact RQ.callP (st' := []) rfl rfl rfl rfl rfl rfl (args_v [.int (nI f)] [] rfl rfl (Nat.le_of_ble_eq_true rfl) rfl h0 (Nat.le_of_ble_eq_true rfl)) (rc_requireFile0 h0 hT hk hf hkd) rfl ⟨_, rfl, h, FrK.rfl'⟩
set_option maxRecDepth 20000 in
theorem ri_resize_same {sc : Nat × (Nat → Int32)} {d : Nat} {H : aH} {B P : Nat} {cw cl : Int32} {cp cb : Nat} {tb : Nat → Int8} {l : Nat} {g : Nat → Int8} {rl : Nat} {wss : Nat → List aE} {t : aTr} {f n : Nat} (h : ClsA H B P 1 cw cl cp cb tb l g rl wss t) (hk : TreeOk t.1 t.2.1 t.2.2.1 t.2.2.2.1) (hf : f ≤ 200) (hn : n ≤ 16384) (hkd : t.1 f = 1) (hsm : n = t.2.2.1 f) : RI sc (d + 8) mr_250 [.ref 1, .int (nI f), .int (nI n)] H (fun x H' => x = nI (t.2.2.1 f) ∧ ClsA H' B P 1 cw cl cp cb tb l g rl wss t ∧ FrK H H') := by
  obtain ⟨h0, h1, h2, h3, h4, ⟨q5, p6, h5, h6⟩, ⟨wq, h10, hwq⟩, hW, hCh, hT⟩ := id h
  refine RI.of ?_
  refine RQ.blk 2 (pc' := 2) (lv' := [(0, .ref 1), (1, .int (nI f)), (2, .int (nI n))]) (st' := [.int (nI f), .ref 1]) (H' := _) (kc' := 0) (ks' := 0) rfl ?_
  refine RQ.call (v := none) (st' := []) rfl rfl rfl rfl rfl rfl (args_v [.int (nI f)] [] rfl rfl (Nat.le_of_ble_eq_true rfl) rfl h0 (Nat.le_of_ble_eq_true rfl)) (rc_reqNum h0 hf) ?_
  refine RQ.blk 4 (pc' := 11) (lv' := [(0, .ref 1), (1, .int (nI f)), (2, .int (nI n))]) (st' := [.int 16384, .int 0, .int (nI n), .ref 1]) (H' := _) (kc' := 0) (ks' := 0) rfl ?_
  refine RQ.call (v := none) (st' := []) rfl rfl rfl rfl rfl rfl (args_v [.int 16384, .int 0, .int (nI n)] [] rfl rfl (Nat.le_of_ble_eq_true rfl) rfl h0 (Nat.le_of_ble_eq_true rfl)) (rc_range (nI_nlt (Nat.zero_le n) (by omega)) (rg_hi (n := 16384) hn (by decide))) ?_
  refine RQ.blk 1 (pc' := 15) (lv' := [(0, .ref 1), (1, .int (nI f)), (2, .int (nI n))]) (st' := [.ref 1]) (H' := _) (kc' := 0) (ks' := 0) rfl ?_
  refine RQ.call (v := none) (st' := []) rfl rfl rfl rfl rfl rfl (args_v [] [] rfl rfl (Nat.le_of_ble_eq_true rfl) rfl h0 (Nat.le_of_ble_eq_true rfl)) (rc_up h0 rfl) ?_
  refine RQ.blk 2 (pc' := 20) (lv' := [(0, .ref 1), (1, .int (nI f)), (2, .int (nI n))]) (st' := [.int (nI f), .ref 1]) (H' := _) (kc' := 0) (ks' := 0) rfl ?_
  refine RQ.call (v := none) (st' := []) rfl rfl rfl rfl rfl rfl (args_v [.int (nI f)] [] rfl rfl (Nat.le_of_ble_eq_true rfl) rfl h0 (Nat.le_of_ble_eq_true rfl)) (rc_requireFile1 h0 hT hk hf hkd) ?_
  refine RQ.blk 1 (pc' := 24) (lv' := [(0, .ref 1), (1, .int (nI f)), (2, .int (nI n))]) (st' := [.ref 1]) (H' := _) (kc' := 0) (ks' := 0) rfl ?_
  refine RQ.get (ci := 11) rfl h0 rfl rfl ?_
  refine RQ.blk 1 (pc' := 28) (lv' := [(0, .ref 1), (1, .int (nI f)), (2, .int (nI n))]) (st' := [.int (nI f), .ref 66]) (H' := _) (kc' := 0) (ks' := 0) rfl ?_
  refine RQ.call (v := some (.int (nI (t.2.2.1 f)))) (st' := []) rfl rfl rfl rfl rfl rfl (args_v [.int (nI f)] [] rfl rfl (Nat.le_of_ble_eq_true rfl) rfl hT.1 (Nat.le_of_ble_eq_true rfl)) (rc_sizeOf hT hk hf) ?_
  have hkf := hk f hf
  refine RQ.blk 3 (pc' := 34) (lv' := [(3, .int (nI (t.2.2.1 f))), (0, .ref 1), (1, .int (nI f)), (2, .int (nI n))]) (st' := [.int (nI (t.2.2.1 f)), .int (nI n)]) (H' := _) (kc' := 0) (ks' := 0) rfl ?_
  refine RQ.brF rfl rfl rfl (cF_ne n (t.2.2.1 f)) ?_
  refine RQ.blk 1 (pc' := 38) (lv' := [(3, .int (nI (t.2.2.1 f))), (0, .ref 1), (1, .int (nI f)), (2, .int (nI n))]) (st' := [.int (nI (t.2.2.1 f))]) (H' := _) (kc' := 0) (ks' := 0) rfl ?_
  exact RQ.done (c := 0) (s := 0) rfl rfl rfl rfl ⟨_, _, rfl, rfl, h, FrK.rfl'⟩
/-- what a resize writes of the pieces from i0 on -/
def shA (c : Nat → Int8) (vs : List aV) (f n i0 : Nat) : Nat → List aE
  | 0 => []
  | k + 1 => shA c vs f n i0 k ++ shW c vs f (i0 + k) n
theorem eOff_one (e : aE) : eOff [e] [e].length = eLen e := (eOff_end [] e).trans (Nat.zero_add _)
theorem shW_len {c : Nat → Int8} {vs : List aV} {f i n : Nat} (hl : (pcV c vs f i).length ≤ 512) : (shW c vs f i n).length ≤ 1 ∧ eOff (shW c vs f i n) (shW c vs f i n).length ≤ (if n / 512 = i then 515 else 3) := by
  unfold shW
  by_cases hx : pcIn vs f i = true ∧ n - i * 512 < (pcV c vs f i).length
  · rw [if_pos hx]
    refine ⟨Nat.le_refl _, ?_⟩
    rw [eOff_one]
    by_cases c0 : n - i * 512 = 0
    · rw [if_pos c0]
      show 3 + 0 ≤ _
      split <;> omega
    · rw [if_neg c0, if_pos (by omega)]
      show 3 + ((pcV c vs f i).take (n - i * 512)).length ≤ 515
      rw [List.length_take]
      omega
  · rw [if_neg hx]
    exact ⟨Nat.zero_le _, Nat.zero_le _⟩
theorem shA_len {c : Nat → Int8} {vs : List aV} {f n : Nat} (hl : ∀ i, (pcV c vs f i).length ≤ 512) : ∀ k, (shA c vs f n (n / 512) k).length ≤ k ∧ eOff (shA c vs f n (n / 512) k) (shA c vs f n (n / 512) k).length ≤ 3 * k + (if k = 0 then 0 else 512)
  | 0 => ⟨Nat.le_refl _, Nat.zero_le _⟩
  | k + 1 => by
    obtain ⟨a1, a2⟩ := shA_len (c := c) (vs := vs) (f := f) (n := n) hl k
    obtain ⟨b1, b2⟩ := shW_len (c := c) (vs := vs) (f := f) (i := n / 512 + k) (n := n) (hl _)
    rw [shA, List.length_append]
    refine ⟨by omega, ?_⟩
    rw [← List.length_append, eOff_cat]
    split at a2 <;> split at b2 <;> split <;> omega
set_option maxRecDepth 20000 in
theorem ri_resize_ok {sc : Nat × (Nat → Int32)} {d : Nat} {H : aH} {B P : Nat} {cl : Int32} {cp cb : Nat} {tb : Nat → Int8} {l : Nat} {g : Nat → Int8} {rl : Nat} {wss : Nat → List aE} {t : aTr} {f n : Nat} {ws : List aE} {N : Nat} {kf : Nat → Int8} {kl mo pl : Nat → Nat} {le : Nat → Option Nat} {al : Nat → Bool} {od sp : Nat → Nat} {sz ss ac : Nat} {vs : List aV} {cf : Nat → Int8} {tf : Nat → Nat} {pq : Option Nat} {bb ov lc fr ff : Nat} {wr : Bool} {tp rc ms mt sq tu tn nb : Nat} {us : Nat → Bool} {lg : Nat → Nat} {mp hv : Nat} {ok1 ok2 ok3 ok5 ok6 : aH → Prop} (h : ClsA H B P 1 0 cl cp cb tb l g rl wss t) (hk : TreeOk t.1 t.2.1 t.2.2.1 t.2.2.2.1) (hf : f ≤ 200) (hn : n ≤ 16384) (hkd : t.1 f = 1) (hns : ¬ n = t.2.2.1 f) (hws : ([([1, f], some ([1, t.2.1 f] ++ (beB 2 n ++ sl t.2.2.2.2.1 (f * 30) (t.2.2.2.1 f))))] ++ shA cf vs f n (n / 512) (32 - n / 512)) = ws) (hA : VersAt H N kf kl mo pl le al od sp sz ss ac) (hVW : VersWf N kf kl mo pl le al od sp sz ss ac) (hvs : vs = vsL kf kl mo pl le al od sz) (hC : ChipAt H B cf tf pq bb ov) (hY : LayAt H (layF B lc fr ff wr tp rc ms mt sq tu tn nb) B us lg) (hB : B ≤ 128) (hlc : lc ≤ B) (hlg : ∀ j, j < lc → lg j < 2 ^ 30) (hG : H[190]? = some (kO 4 (logF mp hv))) (hRec : RecsOk cf B lg lc vs) (hpl : ∀ i, (∀ v : aV, seenV vs [2, f, i] (2 ^ 30) = some v → ∀ n, v.2.2.2.1 = some n → n ≤ 512) ∧ (pcV cf vs f i).length ≤ 512) (hRM : ∀ H', ChB H H' B P 0 cl cp cb tb l g rl wss t ws → RB sc (d + 7) mr_96 [.ref 1] H' ok1 (fun _ => False)) (hST : ∀ H', ok1 H' → RB sc (d + 7) mr_150 [.ref 1, .ref 60] H' ok2 (fun _ => False)) (hf1 : ∀ H', ok1 H' → H'[0]? = some (kO 11 (fvs (nI B) (nI P) 1 0 cl (nI cp) (nI cb)))) (hSE : ∀ H', ok2 H' → RN sc (d + 7) mr_153 [.ref 1, .int 1] H' ok3) (hIN : ∀ H', ok3 H' → RN sc (d + 7) mr_160 [.ref 1, .ref 60] H' ok5) (hTS : ∀ H', ok5 H' → RN sc (d + 7) mr_245 [.ref 66, .int (nI f), .int (nI n)] H' ok6) (hf2 : ∀ H', ok2 H' → H'[0]? = some (kO 11 (fvs (nI B) (nI P) 1 0 cl (nI cp) (nI cb)))) (hf3 : ∀ H', ok3 H' → H'[0]? = some (kO 11 (fvs (nI B) (nI P) 1 0 cl (nI cp) (nI cb)))) (hf5 : ∀ H', ok5 H' → H'[0]? = some (kO 11 (fvs (nI B) (nI (P + 1)) 1 0 cl (nI cp) (nI cb))) ∧ (∃ fs, H'[65]? = some (kO 9 fs)) ∧ ∃ lx : Nat, H'[1]? = some (kO 5 [.ref 3, .int (nI lx)])) : RI sc (d + 8) mr_250 [.ref 1, .int (nI f), .int (nI n)] H (fun x H' => x = nI (t.2.2.1 f) ∧ ok6 H') := by
  obtain ⟨h0, h1, h2, h3, h4, ⟨q5, p6, h5, h6⟩, ⟨wq, h10, hwq⟩, hW, hCh, hT⟩ := id h
  refine RI.of ?_
  refine RQ.blk 2 (pc' := 2) (lv' := [(0, .ref 1), (1, .int (nI f)), (2, .int (nI n))]) (st' := [.int (nI f), .ref 1]) (H' := _) (kc' := 0) (ks' := 0) rfl ?_
  refine RQ.call (v := none) (st' := []) rfl rfl rfl rfl rfl rfl (args_v [.int (nI f)] [] rfl rfl (Nat.le_of_ble_eq_true rfl) rfl h0 (Nat.le_of_ble_eq_true rfl)) (rc_reqNum h0 hf) ?_
  refine RQ.blk 4 (pc' := 11) (lv' := [(0, .ref 1), (1, .int (nI f)), (2, .int (nI n))]) (st' := [.int 16384, .int 0, .int (nI n), .ref 1]) (H' := _) (kc' := 0) (ks' := 0) rfl ?_
  refine RQ.call (v := none) (st' := []) rfl rfl rfl rfl rfl rfl (args_v [.int 16384, .int 0, .int (nI n)] [] rfl rfl (Nat.le_of_ble_eq_true rfl) rfl h0 (Nat.le_of_ble_eq_true rfl)) (rc_range (nI_nlt (Nat.zero_le n) (by omega)) (rg_hi (n := 16384) hn (by decide))) ?_
  refine RQ.blk 1 (pc' := 15) (lv' := [(0, .ref 1), (1, .int (nI f)), (2, .int (nI n))]) (st' := [.ref 1]) (H' := _) (kc' := 0) (ks' := 0) rfl ?_
  refine RQ.call (v := none) (st' := []) rfl rfl rfl rfl rfl rfl (args_v [] [] rfl rfl (Nat.le_of_ble_eq_true rfl) rfl h0 (Nat.le_of_ble_eq_true rfl)) (rc_up h0 rfl) ?_
  refine RQ.blk 2 (pc' := 20) (lv' := [(0, .ref 1), (1, .int (nI f)), (2, .int (nI n))]) (st' := [.int (nI f), .ref 1]) (H' := _) (kc' := 0) (ks' := 0) rfl ?_
  refine RQ.call (v := none) (st' := []) rfl rfl rfl rfl rfl rfl (args_v [.int (nI f)] [] rfl rfl (Nat.le_of_ble_eq_true rfl) rfl h0 (Nat.le_of_ble_eq_true rfl)) (rc_requireFile1 h0 hT hk hf hkd) ?_
  refine RQ.blk 1 (pc' := 24) (lv' := [(0, .ref 1), (1, .int (nI f)), (2, .int (nI n))]) (st' := [.ref 1]) (H' := _) (kc' := 0) (ks' := 0) rfl ?_
  refine RQ.get (ci := 11) rfl h0 rfl rfl ?_
  refine RQ.blk 1 (pc' := 28) (lv' := [(0, .ref 1), (1, .int (nI f)), (2, .int (nI n))]) (st' := [.int (nI f), .ref 66]) (H' := _) (kc' := 0) (ks' := 0) rfl ?_
  refine RQ.call (v := some (.int (nI (t.2.2.1 f)))) (st' := []) rfl rfl rfl rfl rfl rfl (args_v [.int (nI f)] [] rfl rfl (Nat.le_of_ble_eq_true rfl) rfl hT.1 (Nat.le_of_ble_eq_true rfl)) (rc_sizeOf hT hk hf) ?_
  have hkf := hk f hf
  refine RQ.blk 3 (pc' := 34) (lv' := [(3, .int (nI (t.2.2.1 f))), (0, .ref 1), (1, .int (nI f)), (2, .int (nI n))]) (st' := [.int (nI (t.2.2.1 f)), .int (nI n)]) (H' := _) (kc' := 0) (ks' := 0) rfl ?_
  refine RQ.brT rfl rfl rfl (cT_ne n (t.2.2.1 f)) ?_
  have far1 : ∀ a, a ≠ 1 → H[a]? = H[a]? := fun _ _ => rfl
  have h01 := h0
  have h11 := h1
  have h21 := h2
  have hT1 : TreeAt H t.1 t.2.1 t.2.2.1 t.2.2.2.1 t.2.2.2.2.1 t.2.2.2.2.2 := hT
  have hc1 := h
  have fk1 : FrK H H := FrK.rfl'
  obtain ⟨⟨ws0, hb0⟩, Q0, hq0⟩ := hc1.2.2.2.2.2.2.2.2.1
  obtain ⟨D0, S0, K0, E0, hb0A, -⟩ := id hb0
  refine RQ.blk 1 (pc' := 40) (lv' := [(3, .int (nI (t.2.2.1 f))), (0, .ref 1), (1, .int (nI f)), (2, .int (nI n))]) (st' := [.ref 1]) (H' := _) (kc' := 0) (ks' := 0) rfl ?_
  refine RQ.get (ci := 11) rfl h01 rfl rfl ?_
  refine RQ.callN (st' := []) rfl rfl rfl rfl rfl rfl (args_v [] [] rfl rfl (Nat.le_of_ble_eq_true rfl) rfl hb0A.1 (Nat.le_of_ble_eq_true rfl)) (rn_bclearI hb0) (fun H2 hx2 => ?_)
  obtain ⟨hb2, f2⟩ := hx2
  have h02 := (f2 0 (by decide)).trans h01
  have h12 := (f2 1 (by decide)).trans h11
  have h22 := (f2 2 (by decide)).trans h21
  have hT2 : TreeAt H2 t.1 t.2.1 t.2.2.1 t.2.2.2.1 t.2.2.2.2.1 t.2.2.2.2.2 := hT1.far (fun a a1 a2 => f2 a (by omega))
  have hq2 := (f2 64 (by decide)).trans hq0
  have e52 : ∃ q : Nat, H2[5]? = some (kO 5 [.ref 7, .int (nI q)]) := ⟨q5, (f2 5 (by decide)).trans ((far1 5 (by decide)).trans h5)⟩
  have e62 : ∃ g, H2[6]? = some (kB 41 g) := ⟨p6, (f2 6 (by decide)).trans ((far1 6 (by decide)).trans h6)⟩
  refine RQ.blk 3 (pc' := 49) (lv' := [(3, .int (nI (t.2.2.1 f))), (0, .ref 1), (1, .int (nI f)), (2, .int (nI n))]) (st' := [.int (nI n), .int (nI f), .ref 1]) (H' := _) (kc' := 0) (ks' := 0) rfl ?_
  refine RQ.callN (st' := []) rfl rfl rfl rfl rfl rfl (args_v [.int (nI n), .int (nI f)] [] rfl rfl (Nat.le_of_ble_eq_true rfl) rfl h02 (Nat.le_of_ble_eq_true rfl)) (rn_chSize (v := f) (s := n) (ws := []) h02 e52 e62 hb2 hT2 hk hf (by omega) (by decide) (by show 0 + 6 + t.2.2.2.1 f ≤ 4100; omega)) (fun Hc hxc => ?_)
  obtain ⟨hbc, e5c, e6c, fc⟩ := hxc
  have hbc : BatchIs Hc 59 [([1, f], some ([1, t.2.1 f] ++ (beB 2 n ++ sl t.2.2.2.2.1 (f * 30) (t.2.2.2.1 f))))] := hbc
  refine RQ.blk 3 (pc' := 57) (lv' := [(3, .int (nI (t.2.2.1 f))), (0, .ref 1), (1, .int (nI f)), (2, .int (nI n))]) (st' := [.int (nI n / 512)]) (H' := _) (kc' := 0) (ks' := 0) rfl ?_
  rw [show (nI n / 512 : Int32) = nI (n / 512) from pk_div (a := n) (d := 512) (by omega) (by omega) (by omega)]
  refine RQ.blk 1 (pc' := 59) (lv' := [(4, .int (nI (n / 512))), (3, .int (nI (t.2.2.1 f))), (0, .ref 1), (1, .int (nI f)), (2, .int (nI n))]) (st' := []) (H' := _) (kc' := 0) (ks' := 0) rfl ?_
  refine RQ.pick (a := [(4, .int (nI (n / 512))), (3, .int (nI (t.2.2.1 f))), (0, .ref 1), (1, .int (nI f)), (2, .int (nI n))]) [0, 1, 2, 3, 4] [4, 3, 0, 1, 2] rfl rfl (by decide) ?_
  refine RQ.while (S := Nat) (pc := 59) (fun k H' => k ≤ 32 - n / 512 ∧ BatchIs H' 59 ([([1, f], some ([1, t.2.1 f] ++ (beB 2 n ++ sl t.2.2.2.2.1 (f * 30) (t.2.2.2.1 f))))] ++ shA cf vs f n (n / 512) k) ∧ (∃ q : Nat, H'[5]? = some (kO 5 [.ref 7, .int (nI q)])) ∧ (∃ g, H'[6]? = some (kB 41 g)) ∧ ∀ a, a ≠ 5 → a ≠ 6 → ¬ (59 ≤ a ∧ a < 64) → H'[a]? = H2[a]?) (fun k => [(4, .int (nI (n / 512 + k))), (3, .int (nI (t.2.2.1 f))), (0, .ref 1), (1, .int (nI f)), (2, .int (nI n))]) (fun k => 32 - n / 512 - k) ?_ 0 Hc ⟨Nat.zero_le _, by show BatchIs Hc 59 ([([1, f], some ([1, t.2.1 f] ++ (beB 2 n ++ sl t.2.2.2.2.1 (f * 30) (t.2.2.2.1 f))))] ++ []); rw [List.append_nil]; exact hbc, e5c, e6c, fc⟩
  rintro k H3 ⟨hk1, hb3, e53, e63, f3⟩ ih
  have hn32 : n / 512 ≤ 32 := by omega
  have hal := shA_len (c := cf) (vs := vs) (f := f) (n := n) (fun i => (hpl i).2) k
  have hal1 : ([([1, f], some ([1, t.2.1 f] ++ (beB 2 n ++ sl t.2.2.2.2.1 (f * 30) (t.2.2.2.1 f))))] ++ shA cf vs f n (n / 512) k).length ≤ 1 + k := by rw [List.length_append, List.length_singleton]; omega
  by_cases hki : k < 32 - n / 512
  ·
    have h03 := (f3 0 (by decide) (by decide) (by decide)).trans h02
    refine RQ.blk 2 (pc' := 63) (lv' := [(4, .int (nI (n / 512 + k))), (3, .int (nI (t.2.2.1 f))), (0, .ref 1), (1, .int (nI f)), (2, .int (nI n))]) (st' := [.int 32, .int (nI (n / 512 + k))]) (H' := _) (kc' := 0) (ks' := 0) rfl ?_
    refine RQ.brF rfl rfl rfl (cF_ge (n / 512 + k) 32) ?_
    refine RQ.blk 4 (pc' := 71) (lv' := [(4, .int (nI (n / 512 + k))), (3, .int (nI (t.2.2.1 f))), (0, .ref 1), (1, .int (nI f)), (2, .int (nI n))]) (st' := [.int (nI n), .int (nI (n / 512 + k)), .int (nI f), .ref 1]) (H' := _) (kc' := 0) (ks' := 0) rfl ?_
    have hno : eLen ([1, f], some ([1, t.2.1 f] ++ (beB 2 n ++ sl t.2.2.2.2.1 (f * 30) (t.2.2.2.1 f)))) ≤ 36 := by
      show 2 + ([1, t.2.1 f] ++ (beB 2 n ++ sl t.2.2.2.2.1 (f * 30) (t.2.2.2.1 f))).length ≤ 36
      rw [List.length_append, List.length_append, beB_len, sl_length]
      show 2 + (2 + (2 + _)) ≤ 36
      omega
    have hof : eOff ([([1, f], some ([1, t.2.1 f] ++ (beB 2 n ++ sl t.2.2.2.2.1 (f * 30) (t.2.2.2.1 f))))] ++ shA cf vs f n (n / 512) k) ([([1, f], some ([1, t.2.1 f] ++ (beB 2 n ++ sl t.2.2.2.2.1 (f * 30) (t.2.2.2.1 f))))] ++ shA cf vs f n (n / 512) k).length ≤ 36 + (3 * k + 512) := by
      rw [eOff_cat, eOff_one]
      split at hal <;> omega
    refine RQ.callN (st' := []) rfl rfl rfl rfl rfl rfl (args_v [.int (nI n), .int (nI (n / 512 + k)), .int (nI f)] [] rfl rfl (Nat.le_of_ble_eq_true rfl) rfl h03 (Nat.le_of_ble_eq_true rfl)) (rn_shPiece (tt := 0) (f := f) (i := n / 512 + k) (n := n) h03 e53 e63 hb3 (((f3 1 (by decide) (by decide) (by decide)).trans (f2 1 (by decide))).trans h1) (((f3 2 (by decide) (by decide) (by decide)).trans (f2 2 (by decide))).trans h2) (hA.far (fun a a1 a2 => (f3 a (by omega) (by omega) (by omega)).trans (f2 a (by omega)))) hVW hvs (hC.far (fun a a1 a2 => (f3 a (by omega) (by omega) (by omega)).trans (f2 a (by omega)))) ⟨((f3 83 (by decide) (by decide) (by decide)).trans (f2 83 (by decide))).trans hY.1, ((f3 86 (by decide) (by decide) (by decide)).trans (f2 86 (by decide))).trans hY.2.1, ((f3 87 (by decide) (by decide) (by decide)).trans (f2 87 (by decide))).trans hY.2.2⟩ hB hlc hlg (((f3 190 (by decide) (by decide) (by decide)).trans (f2 190 (by decide))).trans hG) hRec (hpl _).1 (by omega) (by omega) hn (by omega) (by omega)) (fun H4 hx4 => ?_)
    obtain ⟨z1, z2, z3, z4⟩ := hx4
    refine RQ.blk 1 (pc' := 77) (lv' := [(4, .int (nI (n / 512 + k) + 1)), (3, .int (nI (t.2.2.1 f))), (0, .ref 1), (1, .int (nI f)), (2, .int (nI n))]) (st' := []) (H' := _) (kc' := 0) (ks' := 0) rfl ?_
    rw [show (nI (n / 512 + k) + 1 : Int32) = nI (n / 512 + k + 1) from nI_add (n / 512 + k) 1]
    refine RQ.blk 1 (pc' := 59) (lv' := [(4, .int (nI (n / 512 + k + 1))), (3, .int (nI (t.2.2.1 f))), (0, .ref 1), (1, .int (nI f)), (2, .int (nI n))]) (st' := []) (H' := _) (kc' := 0) (ks' := 0) rfl ?_
    refine RQ.pick (a := [(4, .int (nI (n / 512 + k + 1))), (3, .int (nI (t.2.2.1 f))), (0, .ref 1), (1, .int (nI f)), (2, .int (nI n))]) [0, 1, 2, 3, 4] [4, 3, 0, 1, 2] rfl rfl (by decide) ?_
    rw [show n / 512 + k + 1 = n / 512 + (k + 1) by omega]
    exact ih (k + 1) _ ⟨by omega, by show BatchIs H4 59 ([_] ++ (shA cf vs f n (n / 512) k ++ shW cf vs f (n / 512 + k) n)); rw [← List.append_assoc]; exact z1, z2, z3, fun a a1 a2 a3 => (z4 a a1 a2 a3).trans (f3 a a1 a2 a3)⟩ (by omega)
  ·
    have hke : k = 32 - n / 512 := by omega
    rw [hke, hws] at hb3
    have h03 := (f3 0 (by decide) (by decide) (by decide)).trans h02
    refine RQ.blk 2 (pc' := 63) (lv' := [(4, .int (nI (n / 512 + k))), (3, .int (nI (t.2.2.1 f))), (0, .ref 1), (1, .int (nI f)), (2, .int (nI n))]) (st' := [.int 32, .int (nI (n / 512 + k))]) (H' := _) (kc' := 0) (ks' := 0) rfl ?_
    refine RQ.brT rfl rfl rfl (cT_ge (n / 512 + k) 32) ?_
    have f13 : ∀ a, a ≠ 5 → a ≠ 6 → ¬ (59 ≤ a ∧ a < 64) → H3[a]? = H[a]? := fun a a1 a2 a3 => (f3 a a1 a2 a3).trans (f2 a (by omega))
    have hc3 : ClsA H3 B P 1 0 cl cp cb tb l g rl wss t := by
      obtain ⟨qa, ea⟩ := e53
      obtain ⟨pa, eb⟩ := e63
      obtain ⟨c0, c1, c2, c3, c4, -, ⟨wq2, c10, cwq⟩, cW, -, cT⟩ := hc1
      exact ⟨(f13 0 (by decide) (by decide) (by decide)).trans c0, (f13 1 (by decide) (by decide) (by decide)).trans c1, (f13 2 (by decide) (by decide) (by decide)).trans c2, (f13 3 (by decide) (by decide) (by decide)).trans c3, (f13 4 (by decide) (by decide) (by decide)).trans c4, ⟨qa, pa, ea, eb⟩, ⟨wq2, (f13 10 (by decide) (by decide) (by decide)).trans c10, cwq⟩, fun t ht => ⟨(cW t ht).1.keep (fun a a1 a2 => f13 a (by omega) (by omega) (by omega)), (cW t ht).2.imp (fun Q hQ => (f13 _ (by omega) (by omega) (by omega)).trans hQ)⟩, ⟨⟨_, hb3⟩, Q0, (f3 64 (by decide) (by decide) (by decide)).trans hq2⟩, cT.far (fun a a1 a2 => f13 a (by omega) (by omega) (by omega))⟩
    have fk3 : FrK H H3 := fk1.trans (fun a ha => f13 a (by omega) (by omega) (by omega))
    have hch3 : ChB H H3 B P 0 cl cp cb tb l g rl wss t ws := ⟨hc3, hb3, fk3⟩
    obtain ⟨D3, S3, K3, E3, hb3A, hb3L, hb340, hb341⟩ := id hb3
    have hb3k := hb3L.ok hb340 hb341
    have h03 := hc3.1
    have h13 := hc3.2.1
    have h23 := hc3.2.2.1
    have hT3 : TreeAt H3 t.1 t.2.1 t.2.2.1 t.2.2.2.1 t.2.2.2.2.1 t.2.2.2.2.2 := hc3.2.2.2.2.2.2.2.2.2
    refine RQ.blk 2 (pc' := 82) (lv' := [(4, .int (nI (n / 512 + k))), (3, .int (nI (t.2.2.1 f))), (0, .ref 1), (1, .int (nI f)), (2, .int (nI n))]) (st' := [.ref 1, .ref 1]) (H' := _) (kc' := 0) (ks' := 0) rfl ?_
    refine RQ.get (ci := 11) rfl h03 rfl rfl ?_
    refine RQ.get (ci := 0) rfl hb3A.1 rfl rfl ?_
    refine RQ.blk 2 (pc' := 90) (lv' := [(4, .int (nI (n / 512 + k))), (3, .int (nI (t.2.2.1 f))), (0, .ref 1), (1, .int (nI f)), (2, .int (nI n))]) (st' := [.int (nI ws.length + 1), .ref 1]) (H' := _) (kc' := 0) (ks' := 0) rfl ?_
    rw [show (nI ws.length + 1 : Int32) = nI (ws.length + 1) from nI_add ws.length 1]
    refine RQ.call (v := none) (st' := []) rfl rfl rfl rfl rfl rfl (args_v [.int (nI (ws.length + 1))] [] rfl rfl (Nat.le_of_ble_eq_true rfl) rfl h03 (Nat.le_of_ble_eq_true rfl)) (rc_armCut0 h03) ?_
    refine RQ.blk 2 (pc' := 95) (lv' := [(4, .int (nI (n / 512 + k))), (3, .int (nI (t.2.2.1 f))), (0, .ref 1), (1, .int (nI f)), (2, .int (nI n))]) (st' := [.ref 1, .ref 1]) (H' := _) (kc' := 0) (ks' := 0) rfl ?_
    refine RQ.callB (st' := [.ref 1]) rfl rfl rfl rfl rfl rfl (args_v [] [.ref 1] rfl rfl (Nat.le_of_ble_eq_true rfl) rfl h03 (Nat.le_of_ble_eq_true rfl)) (hRM H3 hch3) (fun H4 hH4 => ?_) (fun H4 hH4 => False.elim hH4)
    · have g1 := hf1 H4 hH4
      refine RQ.brF rfl rfl rfl (by decide) ?_
      refine RQ.blk 2 (pc' := 103) (lv' := [(4, .int (nI (n / 512 + k))), (3, .int (nI (t.2.2.1 f))), (0, .ref 1), (1, .int (nI f)), (2, .int (nI n))]) (st' := [.ref 1, .ref 1, .ref 1]) (H' := _) (kc' := 0) (ks' := 0) rfl ?_
      refine RQ.get (ci := 11) rfl g1 rfl rfl ?_
      refine RQ.callB (st' := [.ref 1]) rfl rfl rfl rfl rfl rfl (args_v [.ref 60] [.ref 1] rfl rfl (Nat.le_of_ble_eq_true rfl) rfl g1 (Nat.le_of_ble_eq_true rfl)) (hST H4 hH4) (fun H5 hH5 => ?_) (fun H5 hH5 => False.elim hH5)
      · have g2 := hf2 H5 hH5
        refine RQ.brF rfl rfl rfl (by decide) ?_
        refine RQ.blk 2 (pc' := 117) (lv' := [(4, .int (nI (n / 512 + k))), (3, .int (nI (t.2.2.1 f))), (0, .ref 1), (1, .int (nI f)), (2, .int (nI n))]) (st' := [.int 1, .ref 1]) (H' := _) (kc' := 0) (ks' := 0) rfl ?_
        refine RQ.callN (st' := []) rfl rfl rfl rfl rfl rfl (args_v [.int 1] [] rfl rfl (Nat.le_of_ble_eq_true rfl) rfl g2 (Nat.le_of_ble_eq_true rfl)) (hSE H5 hH5) (fun H6 hH6 => ?_)
        have g3 := hf3 H6 hH6
        refine RQ.blk 2 (pc' := 122) (lv' := [(4, .int (nI (n / 512 + k))), (3, .int (nI (t.2.2.1 f))), (0, .ref 1), (1, .int (nI f)), (2, .int (nI n))]) (st' := [.ref 1, .ref 1]) (H' := _) (kc' := 0) (ks' := 0) rfl ?_
        refine RQ.get (ci := 11) rfl g3 rfl rfl ?_
        refine RQ.callN (st' := []) rfl rfl rfl rfl rfl rfl (args_v [.ref 60] [] rfl rfl (Nat.le_of_ble_eq_true rfl) rfl g3 (Nat.le_of_ble_eq_true rfl)) (hIN H6 hH6) (fun H7 hH7 => ?_)
        obtain ⟨g5, ⟨tfs, g65⟩, lx, g11⟩ := hf5 H7 hH7
        refine RQ.blk 1 (pc' := 129) (lv' := [(4, .int (nI (n / 512 + k))), (3, .int (nI (t.2.2.1 f))), (0, .ref 1), (1, .int (nI f)), (2, .int (nI n))]) (st' := [.ref 1]) (H' := _) (kc' := 0) (ks' := 0) rfl ?_
        refine RQ.get (ci := 11) rfl g5 rfl rfl ?_
        refine RQ.blk 2 (pc' := 134) (lv' := [(4, .int (nI (n / 512 + k))), (3, .int (nI (t.2.2.1 f))), (0, .ref 1), (1, .int (nI f)), (2, .int (nI n))]) (st' := [.int (nI n), .int (nI f), .ref 66]) (H' := _) (kc' := 0) (ks' := 0) rfl ?_
        refine RQ.callN (st' := []) rfl rfl rfl rfl rfl rfl (args_v [.int (nI n), .int (nI f)] [] rfl rfl (Nat.le_of_ble_eq_true rfl) rfl g65 (Nat.le_of_ble_eq_true rfl)) (hTS H7 hH7) (fun H8 hH8 => ?_)
        refine RQ.blk 1 (pc' := 138) (lv' := [(4, .int (nI (n / 512 + k))), (3, .int (nI (t.2.2.1 f))), (0, .ref 1), (1, .int (nI f)), (2, .int (nI n))]) (st' := [.int (nI (t.2.2.1 f))]) (H' := _) (kc' := 0) (ks' := 0) rfl ?_
        exact RQ.done (c := 0) (s := 0) rfl rfl rfl rfl ⟨_, _, rfl, rfl, hH8⟩
set_option maxRecDepth 20000 in
theorem rx_resize_late {sc : Nat × (Nat → Int32)} {d : Nat} {H : aH} {B P : Nat}  {cp cb : Nat} {tb : Nat → Int8} {l : Nat} {g : Nat → Int8} {rl : Nat} {wss : Nat → List aE} {t : aTr} {f n : Nat} {ws : List aE} {N : Nat} {kf : Nat → Int8} {kl mo pl : Nat → Nat} {le : Nat → Option Nat} {al : Nat → Bool} {od sp : Nat → Nat} {sz ss ac : Nat} {vs : List aV} {cf : Nat → Int8} {tf : Nat → Nat} {pq : Option Nat} {bb ov lc fr ff : Nat} {wr : Bool} {tp rc ms mt sq tu tn nb : Nat} {us : Nat → Bool} {lg : Nat → Nat} {mp hv : Nat} {ok1 ok2 fin : aH → Prop} (h : ClsA H B P 1 1 1 cp cb tb l g rl wss t) (hk : TreeOk t.1 t.2.1 t.2.2.1 t.2.2.2.1) (hf : f ≤ 200) (hn : n ≤ 16384) (hkd : t.1 f = 1) (hns : ¬ n = t.2.2.1 f) (hws : ([([1, f], some ([1, t.2.1 f] ++ (beB 2 n ++ sl t.2.2.2.2.1 (f * 30) (t.2.2.2.1 f))))] ++ shA cf vs f n (n / 512) (32 - n / 512)) = ws) (hA : VersAt H N kf kl mo pl le al od sp sz ss ac) (hVW : VersWf N kf kl mo pl le al od sp sz ss ac) (hvs : vs = vsL kf kl mo pl le al od sz) (hC : ChipAt H B cf tf pq bb ov) (hY : LayAt H (layF B lc fr ff wr tp rc ms mt sq tu tn nb) B us lg) (hB : B ≤ 128) (hlc : lc ≤ B) (hlg : ∀ j, j < lc → lg j < 2 ^ 30) (hG : H[190]? = some (kO 4 (logF mp hv))) (hRec : RecsOk cf B lg lc vs) (hpl : ∀ i, (∀ v : aV, seenV vs [2, f, i] (2 ^ 30) = some v → ∀ n, v.2.2.2.1 = some n → n ≤ 512) ∧ (pcV cf vs f i).length ≤ 512) (hRM : ∀ H', ChB H H' B P 1 1 cp cb tb l g rl wss t ws → RB sc (d + 7) mr_96 [.ref 1] H' ok1 (fun _ => False)) (hST : ∀ H', ok1 H' → RB sc (d + 7) mr_150 [.ref 1, .ref 60] H' ok2 (fun _ => False)) (hf1 : ∀ H', ok1 H' → H'[0]? = some (kO 11 (fvs (nI B) (nI P) 1 1 1 (nI cp) (nI cb)))) (hSE : ∀ H', ok2 H' → RX sc (d + 7) mr_153 [.ref 1, .int 1] H' 1 fin) (hf2 : ∀ H', ok2 H' → H'[0]? = some (kO 11 (fvs (nI B) (nI P) 1 1 1 (nI cp) (nI cb)))) : RXc sc (d + 8) mr_250 [.ref 1, .int (nI f), .int (nI n)] H 1 (fun H' => fin H') := by
  obtain ⟨h0, h1, h2, h3, h4, ⟨q5, p6, h5, h6⟩, ⟨wq, h10, hwq⟩, hW, hCh, hT⟩ := id h
  refine RXc.of ?_
  refine RQ.blk 2 (pc' := 2) (lv' := [(0, .ref 1), (1, .int (nI f)), (2, .int (nI n))]) (st' := [.int (nI f), .ref 1]) (H' := _) (kc' := 0) (ks' := 0) rfl ?_
  refine RQ.call (v := none) (st' := []) rfl rfl rfl rfl rfl rfl (args_v [.int (nI f)] [] rfl rfl (Nat.le_of_ble_eq_true rfl) rfl h0 (Nat.le_of_ble_eq_true rfl)) (rc_reqNum h0 hf) ?_
  refine RQ.blk 4 (pc' := 11) (lv' := [(0, .ref 1), (1, .int (nI f)), (2, .int (nI n))]) (st' := [.int 16384, .int 0, .int (nI n), .ref 1]) (H' := _) (kc' := 0) (ks' := 0) rfl ?_
  refine RQ.call (v := none) (st' := []) rfl rfl rfl rfl rfl rfl (args_v [.int 16384, .int 0, .int (nI n)] [] rfl rfl (Nat.le_of_ble_eq_true rfl) rfl h0 (Nat.le_of_ble_eq_true rfl)) (rc_range (nI_nlt (Nat.zero_le n) (by omega)) (rg_hi (n := 16384) hn (by decide))) ?_
  refine RQ.blk 1 (pc' := 15) (lv' := [(0, .ref 1), (1, .int (nI f)), (2, .int (nI n))]) (st' := [.ref 1]) (H' := _) (kc' := 0) (ks' := 0) rfl ?_
  refine RQ.call (v := none) (st' := []) rfl rfl rfl rfl rfl rfl (args_v [] [] rfl rfl (Nat.le_of_ble_eq_true rfl) rfl h0 (Nat.le_of_ble_eq_true rfl)) (rc_up h0 rfl) ?_
  refine RQ.blk 2 (pc' := 20) (lv' := [(0, .ref 1), (1, .int (nI f)), (2, .int (nI n))]) (st' := [.int (nI f), .ref 1]) (H' := _) (kc' := 0) (ks' := 0) rfl ?_
  refine RQ.call (v := none) (st' := []) rfl rfl rfl rfl rfl rfl (args_v [.int (nI f)] [] rfl rfl (Nat.le_of_ble_eq_true rfl) rfl h0 (Nat.le_of_ble_eq_true rfl)) (rc_requireFile1 h0 hT hk hf hkd) ?_
  refine RQ.blk 1 (pc' := 24) (lv' := [(0, .ref 1), (1, .int (nI f)), (2, .int (nI n))]) (st' := [.ref 1]) (H' := _) (kc' := 0) (ks' := 0) rfl ?_
  refine RQ.get (ci := 11) rfl h0 rfl rfl ?_
  refine RQ.blk 1 (pc' := 28) (lv' := [(0, .ref 1), (1, .int (nI f)), (2, .int (nI n))]) (st' := [.int (nI f), .ref 66]) (H' := _) (kc' := 0) (ks' := 0) rfl ?_
  refine RQ.call (v := some (.int (nI (t.2.2.1 f)))) (st' := []) rfl rfl rfl rfl rfl rfl (args_v [.int (nI f)] [] rfl rfl (Nat.le_of_ble_eq_true rfl) rfl hT.1 (Nat.le_of_ble_eq_true rfl)) (rc_sizeOf hT hk hf) ?_
  have hkf := hk f hf
  refine RQ.blk 3 (pc' := 34) (lv' := [(3, .int (nI (t.2.2.1 f))), (0, .ref 1), (1, .int (nI f)), (2, .int (nI n))]) (st' := [.int (nI (t.2.2.1 f)), .int (nI n)]) (H' := _) (kc' := 0) (ks' := 0) rfl ?_
  refine RQ.brT rfl rfl rfl (cT_ne n (t.2.2.1 f)) ?_
  have far1 : ∀ a, a ≠ 1 → H[a]? = H[a]? := fun _ _ => rfl
  have h01 := h0
  have h11 := h1
  have h21 := h2
  have hT1 : TreeAt H t.1 t.2.1 t.2.2.1 t.2.2.2.1 t.2.2.2.2.1 t.2.2.2.2.2 := hT
  have hc1 := h
  have fk1 : FrK H H := FrK.rfl'
  obtain ⟨⟨ws0, hb0⟩, Q0, hq0⟩ := hc1.2.2.2.2.2.2.2.2.1
  obtain ⟨D0, S0, K0, E0, hb0A, -⟩ := id hb0
  refine RQ.blk 1 (pc' := 40) (lv' := [(3, .int (nI (t.2.2.1 f))), (0, .ref 1), (1, .int (nI f)), (2, .int (nI n))]) (st' := [.ref 1]) (H' := _) (kc' := 0) (ks' := 0) rfl ?_
  refine RQ.get (ci := 11) rfl h01 rfl rfl ?_
  refine RQ.callN (st' := []) rfl rfl rfl rfl rfl rfl (args_v [] [] rfl rfl (Nat.le_of_ble_eq_true rfl) rfl hb0A.1 (Nat.le_of_ble_eq_true rfl)) (rn_bclearI hb0) (fun H2 hx2 => ?_)
  obtain ⟨hb2, f2⟩ := hx2
  have h02 := (f2 0 (by decide)).trans h01
  have h12 := (f2 1 (by decide)).trans h11
  have h22 := (f2 2 (by decide)).trans h21
  have hT2 : TreeAt H2 t.1 t.2.1 t.2.2.1 t.2.2.2.1 t.2.2.2.2.1 t.2.2.2.2.2 := hT1.far (fun a a1 a2 => f2 a (by omega))
  have hq2 := (f2 64 (by decide)).trans hq0
  have e52 : ∃ q : Nat, H2[5]? = some (kO 5 [.ref 7, .int (nI q)]) := ⟨q5, (f2 5 (by decide)).trans ((far1 5 (by decide)).trans h5)⟩
  have e62 : ∃ g, H2[6]? = some (kB 41 g) := ⟨p6, (f2 6 (by decide)).trans ((far1 6 (by decide)).trans h6)⟩
  refine RQ.blk 3 (pc' := 49) (lv' := [(3, .int (nI (t.2.2.1 f))), (0, .ref 1), (1, .int (nI f)), (2, .int (nI n))]) (st' := [.int (nI n), .int (nI f), .ref 1]) (H' := _) (kc' := 0) (ks' := 0) rfl ?_
  refine RQ.callN (st' := []) rfl rfl rfl rfl rfl rfl (args_v [.int (nI n), .int (nI f)] [] rfl rfl (Nat.le_of_ble_eq_true rfl) rfl h02 (Nat.le_of_ble_eq_true rfl)) (rn_chSize (v := f) (s := n) (ws := []) h02 e52 e62 hb2 hT2 hk hf (by omega) (by decide) (by show 0 + 6 + t.2.2.2.1 f ≤ 4100; omega)) (fun Hc hxc => ?_)
  obtain ⟨hbc, e5c, e6c, fc⟩ := hxc
  have hbc : BatchIs Hc 59 [([1, f], some ([1, t.2.1 f] ++ (beB 2 n ++ sl t.2.2.2.2.1 (f * 30) (t.2.2.2.1 f))))] := hbc
  refine RQ.blk 3 (pc' := 57) (lv' := [(3, .int (nI (t.2.2.1 f))), (0, .ref 1), (1, .int (nI f)), (2, .int (nI n))]) (st' := [.int (nI n / 512)]) (H' := _) (kc' := 0) (ks' := 0) rfl ?_
  rw [show (nI n / 512 : Int32) = nI (n / 512) from pk_div (a := n) (d := 512) (by omega) (by omega) (by omega)]
  refine RQ.blk 1 (pc' := 59) (lv' := [(4, .int (nI (n / 512))), (3, .int (nI (t.2.2.1 f))), (0, .ref 1), (1, .int (nI f)), (2, .int (nI n))]) (st' := []) (H' := _) (kc' := 0) (ks' := 0) rfl ?_
  refine RQ.pick (a := [(4, .int (nI (n / 512))), (3, .int (nI (t.2.2.1 f))), (0, .ref 1), (1, .int (nI f)), (2, .int (nI n))]) [0, 1, 2, 3, 4] [4, 3, 0, 1, 2] rfl rfl (by decide) ?_
  refine RQ.while (S := Nat) (pc := 59) (fun k H' => k ≤ 32 - n / 512 ∧ BatchIs H' 59 ([([1, f], some ([1, t.2.1 f] ++ (beB 2 n ++ sl t.2.2.2.2.1 (f * 30) (t.2.2.2.1 f))))] ++ shA cf vs f n (n / 512) k) ∧ (∃ q : Nat, H'[5]? = some (kO 5 [.ref 7, .int (nI q)])) ∧ (∃ g, H'[6]? = some (kB 41 g)) ∧ ∀ a, a ≠ 5 → a ≠ 6 → ¬ (59 ≤ a ∧ a < 64) → H'[a]? = H2[a]?) (fun k => [(4, .int (nI (n / 512 + k))), (3, .int (nI (t.2.2.1 f))), (0, .ref 1), (1, .int (nI f)), (2, .int (nI n))]) (fun k => 32 - n / 512 - k) ?_ 0 Hc ⟨Nat.zero_le _, by show BatchIs Hc 59 ([([1, f], some ([1, t.2.1 f] ++ (beB 2 n ++ sl t.2.2.2.2.1 (f * 30) (t.2.2.2.1 f))))] ++ []); rw [List.append_nil]; exact hbc, e5c, e6c, fc⟩
  rintro k H3 ⟨hk1, hb3, e53, e63, f3⟩ ih
  have hn32 : n / 512 ≤ 32 := by omega
  have hal := shA_len (c := cf) (vs := vs) (f := f) (n := n) (fun i => (hpl i).2) k
  have hal1 : ([([1, f], some ([1, t.2.1 f] ++ (beB 2 n ++ sl t.2.2.2.2.1 (f * 30) (t.2.2.2.1 f))))] ++ shA cf vs f n (n / 512) k).length ≤ 1 + k := by rw [List.length_append, List.length_singleton]; omega
  by_cases hki : k < 32 - n / 512
  ·
    have h03 := (f3 0 (by decide) (by decide) (by decide)).trans h02
    refine RQ.blk 2 (pc' := 63) (lv' := [(4, .int (nI (n / 512 + k))), (3, .int (nI (t.2.2.1 f))), (0, .ref 1), (1, .int (nI f)), (2, .int (nI n))]) (st' := [.int 32, .int (nI (n / 512 + k))]) (H' := _) (kc' := 0) (ks' := 0) rfl ?_
    refine RQ.brF rfl rfl rfl (cF_ge (n / 512 + k) 32) ?_
    refine RQ.blk 4 (pc' := 71) (lv' := [(4, .int (nI (n / 512 + k))), (3, .int (nI (t.2.2.1 f))), (0, .ref 1), (1, .int (nI f)), (2, .int (nI n))]) (st' := [.int (nI n), .int (nI (n / 512 + k)), .int (nI f), .ref 1]) (H' := _) (kc' := 0) (ks' := 0) rfl ?_
    have hno : eLen ([1, f], some ([1, t.2.1 f] ++ (beB 2 n ++ sl t.2.2.2.2.1 (f * 30) (t.2.2.2.1 f)))) ≤ 36 := by
      show 2 + ([1, t.2.1 f] ++ (beB 2 n ++ sl t.2.2.2.2.1 (f * 30) (t.2.2.2.1 f))).length ≤ 36
      rw [List.length_append, List.length_append, beB_len, sl_length]
      show 2 + (2 + (2 + _)) ≤ 36
      omega
    have hof : eOff ([([1, f], some ([1, t.2.1 f] ++ (beB 2 n ++ sl t.2.2.2.2.1 (f * 30) (t.2.2.2.1 f))))] ++ shA cf vs f n (n / 512) k) ([([1, f], some ([1, t.2.1 f] ++ (beB 2 n ++ sl t.2.2.2.2.1 (f * 30) (t.2.2.2.1 f))))] ++ shA cf vs f n (n / 512) k).length ≤ 36 + (3 * k + 512) := by
      rw [eOff_cat, eOff_one]
      split at hal <;> omega
    refine RQ.callN (st' := []) rfl rfl rfl rfl rfl rfl (args_v [.int (nI n), .int (nI (n / 512 + k)), .int (nI f)] [] rfl rfl (Nat.le_of_ble_eq_true rfl) rfl h03 (Nat.le_of_ble_eq_true rfl)) (rn_shPiece (tt := 0) (f := f) (i := n / 512 + k) (n := n) h03 e53 e63 hb3 (((f3 1 (by decide) (by decide) (by decide)).trans (f2 1 (by decide))).trans h1) (((f3 2 (by decide) (by decide) (by decide)).trans (f2 2 (by decide))).trans h2) (hA.far (fun a a1 a2 => (f3 a (by omega) (by omega) (by omega)).trans (f2 a (by omega)))) hVW hvs (hC.far (fun a a1 a2 => (f3 a (by omega) (by omega) (by omega)).trans (f2 a (by omega)))) ⟨((f3 83 (by decide) (by decide) (by decide)).trans (f2 83 (by decide))).trans hY.1, ((f3 86 (by decide) (by decide) (by decide)).trans (f2 86 (by decide))).trans hY.2.1, ((f3 87 (by decide) (by decide) (by decide)).trans (f2 87 (by decide))).trans hY.2.2⟩ hB hlc hlg (((f3 190 (by decide) (by decide) (by decide)).trans (f2 190 (by decide))).trans hG) hRec (hpl _).1 (by omega) (by omega) hn (by omega) (by omega)) (fun H4 hx4 => ?_)
    obtain ⟨z1, z2, z3, z4⟩ := hx4
    refine RQ.blk 1 (pc' := 77) (lv' := [(4, .int (nI (n / 512 + k) + 1)), (3, .int (nI (t.2.2.1 f))), (0, .ref 1), (1, .int (nI f)), (2, .int (nI n))]) (st' := []) (H' := _) (kc' := 0) (ks' := 0) rfl ?_
    rw [show (nI (n / 512 + k) + 1 : Int32) = nI (n / 512 + k + 1) from nI_add (n / 512 + k) 1]
    refine RQ.blk 1 (pc' := 59) (lv' := [(4, .int (nI (n / 512 + k + 1))), (3, .int (nI (t.2.2.1 f))), (0, .ref 1), (1, .int (nI f)), (2, .int (nI n))]) (st' := []) (H' := _) (kc' := 0) (ks' := 0) rfl ?_
    refine RQ.pick (a := [(4, .int (nI (n / 512 + k + 1))), (3, .int (nI (t.2.2.1 f))), (0, .ref 1), (1, .int (nI f)), (2, .int (nI n))]) [0, 1, 2, 3, 4] [4, 3, 0, 1, 2] rfl rfl (by decide) ?_
    rw [show n / 512 + k + 1 = n / 512 + (k + 1) by omega]
    exact ih (k + 1) _ ⟨by omega, by show BatchIs H4 59 ([_] ++ (shA cf vs f n (n / 512) k ++ shW cf vs f (n / 512 + k) n)); rw [← List.append_assoc]; exact z1, z2, z3, fun a a1 a2 a3 => (z4 a a1 a2 a3).trans (f3 a a1 a2 a3)⟩ (by omega)
  ·
    have hke : k = 32 - n / 512 := by omega
    rw [hke, hws] at hb3
    have h03 := (f3 0 (by decide) (by decide) (by decide)).trans h02
    refine RQ.blk 2 (pc' := 63) (lv' := [(4, .int (nI (n / 512 + k))), (3, .int (nI (t.2.2.1 f))), (0, .ref 1), (1, .int (nI f)), (2, .int (nI n))]) (st' := [.int 32, .int (nI (n / 512 + k))]) (H' := _) (kc' := 0) (ks' := 0) rfl ?_
    refine RQ.brT rfl rfl rfl (cT_ge (n / 512 + k) 32) ?_
    have f13 : ∀ a, a ≠ 5 → a ≠ 6 → ¬ (59 ≤ a ∧ a < 64) → H3[a]? = H[a]? := fun a a1 a2 a3 => (f3 a a1 a2 a3).trans (f2 a (by omega))
    have hc3 : ClsA H3 B P 1 1 1 cp cb tb l g rl wss t := by
      obtain ⟨qa, ea⟩ := e53
      obtain ⟨pa, eb⟩ := e63
      obtain ⟨c0, c1, c2, c3, c4, -, ⟨wq2, c10, cwq⟩, cW, -, cT⟩ := hc1
      exact ⟨(f13 0 (by decide) (by decide) (by decide)).trans c0, (f13 1 (by decide) (by decide) (by decide)).trans c1, (f13 2 (by decide) (by decide) (by decide)).trans c2, (f13 3 (by decide) (by decide) (by decide)).trans c3, (f13 4 (by decide) (by decide) (by decide)).trans c4, ⟨qa, pa, ea, eb⟩, ⟨wq2, (f13 10 (by decide) (by decide) (by decide)).trans c10, cwq⟩, fun t ht => ⟨(cW t ht).1.keep (fun a a1 a2 => f13 a (by omega) (by omega) (by omega)), (cW t ht).2.imp (fun Q hQ => (f13 _ (by omega) (by omega) (by omega)).trans hQ)⟩, ⟨⟨_, hb3⟩, Q0, (f3 64 (by decide) (by decide) (by decide)).trans hq2⟩, cT.far (fun a a1 a2 => f13 a (by omega) (by omega) (by omega))⟩
    have fk3 : FrK H H3 := fk1.trans (fun a ha => f13 a (by omega) (by omega) (by omega))
    have hch3 : ChB H H3 B P 1 1 cp cb tb l g rl wss t ws := ⟨hc3, hb3, fk3⟩
    obtain ⟨D3, S3, K3, E3, hb3A, hb3L, hb340, hb341⟩ := id hb3
    have hb3k := hb3L.ok hb340 hb341
    have h03 := hc3.1
    have h13 := hc3.2.1
    have h23 := hc3.2.2.1
    have hT3 : TreeAt H3 t.1 t.2.1 t.2.2.1 t.2.2.2.1 t.2.2.2.2.1 t.2.2.2.2.2 := hc3.2.2.2.2.2.2.2.2.2
    refine RQ.blk 2 (pc' := 82) (lv' := [(4, .int (nI (n / 512 + k))), (3, .int (nI (t.2.2.1 f))), (0, .ref 1), (1, .int (nI f)), (2, .int (nI n))]) (st' := [.ref 1, .ref 1]) (H' := _) (kc' := 0) (ks' := 0) rfl ?_
    refine RQ.get (ci := 11) rfl h03 rfl rfl ?_
    refine RQ.get (ci := 0) rfl hb3A.1 rfl rfl ?_
    refine RQ.blk 2 (pc' := 90) (lv' := [(4, .int (nI (n / 512 + k))), (3, .int (nI (t.2.2.1 f))), (0, .ref 1), (1, .int (nI f)), (2, .int (nI n))]) (st' := [.int (nI ws.length + 1), .ref 1]) (H' := _) (kc' := 0) (ks' := 0) rfl ?_
    rw [show (nI ws.length + 1 : Int32) = nI (ws.length + 1) from nI_add ws.length 1]
    refine RQ.call (v := none) (st' := []) rfl rfl rfl rfl rfl rfl (args_v [.int (nI (ws.length + 1))] [] rfl rfl (Nat.le_of_ble_eq_true rfl) rfl h03 (Nat.le_of_ble_eq_true rfl)) (rc_armCutL h03) ?_
    refine RQ.blk 2 (pc' := 95) (lv' := [(4, .int (nI (n / 512 + k))), (3, .int (nI (t.2.2.1 f))), (0, .ref 1), (1, .int (nI f)), (2, .int (nI n))]) (st' := [.ref 1, .ref 1]) (H' := _) (kc' := 0) (ks' := 0) rfl ?_
    refine RQ.callB (st' := [.ref 1]) rfl rfl rfl rfl rfl rfl (args_v [] [.ref 1] rfl rfl (Nat.le_of_ble_eq_true rfl) rfl h03 (Nat.le_of_ble_eq_true rfl)) (hRM H3 hch3) (fun H4 hH4 => ?_) (fun H4 hH4 => False.elim hH4)
    · have g1 := hf1 H4 hH4
      refine RQ.brF rfl rfl rfl (by decide) ?_
      refine RQ.blk 2 (pc' := 103) (lv' := [(4, .int (nI (n / 512 + k))), (3, .int (nI (t.2.2.1 f))), (0, .ref 1), (1, .int (nI f)), (2, .int (nI n))]) (st' := [.ref 1, .ref 1, .ref 1]) (H' := _) (kc' := 0) (ks' := 0) rfl ?_
      refine RQ.get (ci := 11) rfl g1 rfl rfl ?_
      refine RQ.callB (st' := [.ref 1]) rfl rfl rfl rfl rfl rfl (args_v [.ref 60] [.ref 1] rfl rfl (Nat.le_of_ble_eq_true rfl) rfl g1 (Nat.le_of_ble_eq_true rfl)) (hST H4 hH4) (fun H5 hH5 => ?_) (fun H5 hH5 => False.elim hH5)
      · have g2 := hf2 H5 hH5
        refine RQ.brF rfl rfl rfl (by decide) ?_
        refine RQ.blk 2 (pc' := 117) (lv' := [(4, .int (nI (n / 512 + k))), (3, .int (nI (t.2.2.1 f))), (0, .ref 1), (1, .int (nI f)), (2, .int (nI n))]) (st' := [.int 1, .ref 1]) (H' := _) (kc' := 0) (ks' := 0) rfl ?_
        obtain ⟨HX, hxX, hpX⟩ := hSE H5 hH5
        exact RQ.callP (st' := []) rfl rfl rfl rfl rfl rfl (args_v [.int 1] [] rfl rfl (Nat.le_of_ble_eq_true rfl) rfl g2 (Nat.le_of_ble_eq_true rfl)) hxX rfl ⟨_, 1, by decide, rfl, hpX⟩
set_option maxRecDepth 20000 in
theorem rx_resize_cut {sc : Nat × (Nat → Int32)} {d : Nat} {H : aH} {B P : Nat}  {cp cb : Nat} {tb : Nat → Int8} {l : Nat} {g : Nat → Int8} {rl : Nat} {wss : Nat → List aE} {t : aTr} {f n : Nat} {ws : List aE} {N : Nat} {kf : Nat → Int8} {kl mo pl : Nat → Nat} {le : Nat → Option Nat} {al : Nat → Bool} {od sp : Nat → Nat} {sz ss ac : Nat} {vs : List aV} {cf : Nat → Int8} {tf : Nat → Nat} {pq : Option Nat} {bb ov lc fr ff : Nat} {wr : Bool} {tp rc ms mt sq tu tn nb : Nat} {us : Nat → Bool} {lg : Nat → Nat} {mp hv : Nat} {ok1 bad fin : aH → Prop} (h : ClsA H B P 1 1 0 cp cb tb l g rl wss t) (hk : TreeOk t.1 t.2.1 t.2.2.1 t.2.2.2.1) (hf : f ≤ 200) (hn : n ≤ 16384) (hkd : t.1 f = 1) (hns : ¬ n = t.2.2.1 f) (hws : ([([1, f], some ([1, t.2.1 f] ++ (beB 2 n ++ sl t.2.2.2.2.1 (f * 30) (t.2.2.2.1 f))))] ++ shA cf vs f n (n / 512) (32 - n / 512)) = ws) (hA : VersAt H N kf kl mo pl le al od sp sz ss ac) (hVW : VersWf N kf kl mo pl le al od sp sz ss ac) (hvs : vs = vsL kf kl mo pl le al od sz) (hC : ChipAt H B cf tf pq bb ov) (hY : LayAt H (layF B lc fr ff wr tp rc ms mt sq tu tn nb) B us lg) (hB : B ≤ 128) (hlc : lc ≤ B) (hlg : ∀ j, j < lc → lg j < 2 ^ 30) (hG : H[190]? = some (kO 4 (logF mp hv))) (hRec : RecsOk cf B lg lc vs) (hpl : ∀ i, (∀ v : aV, seenV vs [2, f, i] (2 ^ 30) = some v → ∀ n, v.2.2.2.1 = some n → n ≤ 512) ∧ (pcV cf vs f i).length ≤ 512) (hC0 : ∀ H', ChB H H' B P 1 0 cp cb tb l g rl wss t ws → ∃ cf tf pq bb, ChipAt H' B cf tf pq bb 0) (hcp : cp < 2 ^ 31) (hRM : ∀ H', ChB H H' B P 1 0 cp cb tb l g rl wss t ws → RB sc (d + 7) mr_96 [.ref 1] (H'.set 71 (kO 1 [.ref 73, .ref 74, .int (lI (some (cp % (ws.length + 1)))), .int (nI cb), .int (nI 0)])) ok1 bad) (hST : ∀ H', ok1 H' → RB sc (d + 7) mr_150 [.ref 1, .ref 60] H' (fun _ => False) bad) (hf1 : ∀ H', ok1 H' → H'[0]? = some (kO 11 (fvs (nI B) (nI P) 1 1 0 (nI cp) (nI cb)))) (hSB : ∀ H', bad H' → RX sc (d + 7) mr_153 [.ref 1, .int 0] H' 1 fin) (hfb : ∀ H', bad H' → H'[0]? = some (kO 11 (fvs (nI B) (nI P) 1 1 0 (nI cp) (nI cb)))) : RXc sc (d + 8) mr_250 [.ref 1, .int (nI f), .int (nI n)] H 1 (fun H' => fin H') := by
  obtain ⟨h0, h1, h2, h3, h4, ⟨q5, p6, h5, h6⟩, ⟨wq, h10, hwq⟩, hW, hCh, hT⟩ := id h
  refine RXc.of ?_
  refine RQ.blk 2 (pc' := 2) (lv' := [(0, .ref 1), (1, .int (nI f)), (2, .int (nI n))]) (st' := [.int (nI f), .ref 1]) (H' := _) (kc' := 0) (ks' := 0) rfl ?_
  refine RQ.call (v := none) (st' := []) rfl rfl rfl rfl rfl rfl (args_v [.int (nI f)] [] rfl rfl (Nat.le_of_ble_eq_true rfl) rfl h0 (Nat.le_of_ble_eq_true rfl)) (rc_reqNum h0 hf) ?_
  refine RQ.blk 4 (pc' := 11) (lv' := [(0, .ref 1), (1, .int (nI f)), (2, .int (nI n))]) (st' := [.int 16384, .int 0, .int (nI n), .ref 1]) (H' := _) (kc' := 0) (ks' := 0) rfl ?_
  refine RQ.call (v := none) (st' := []) rfl rfl rfl rfl rfl rfl (args_v [.int 16384, .int 0, .int (nI n)] [] rfl rfl (Nat.le_of_ble_eq_true rfl) rfl h0 (Nat.le_of_ble_eq_true rfl)) (rc_range (nI_nlt (Nat.zero_le n) (by omega)) (rg_hi (n := 16384) hn (by decide))) ?_
  refine RQ.blk 1 (pc' := 15) (lv' := [(0, .ref 1), (1, .int (nI f)), (2, .int (nI n))]) (st' := [.ref 1]) (H' := _) (kc' := 0) (ks' := 0) rfl ?_
  refine RQ.call (v := none) (st' := []) rfl rfl rfl rfl rfl rfl (args_v [] [] rfl rfl (Nat.le_of_ble_eq_true rfl) rfl h0 (Nat.le_of_ble_eq_true rfl)) (rc_up h0 rfl) ?_
  refine RQ.blk 2 (pc' := 20) (lv' := [(0, .ref 1), (1, .int (nI f)), (2, .int (nI n))]) (st' := [.int (nI f), .ref 1]) (H' := _) (kc' := 0) (ks' := 0) rfl ?_
  refine RQ.call (v := none) (st' := []) rfl rfl rfl rfl rfl rfl (args_v [.int (nI f)] [] rfl rfl (Nat.le_of_ble_eq_true rfl) rfl h0 (Nat.le_of_ble_eq_true rfl)) (rc_requireFile1 h0 hT hk hf hkd) ?_
  refine RQ.blk 1 (pc' := 24) (lv' := [(0, .ref 1), (1, .int (nI f)), (2, .int (nI n))]) (st' := [.ref 1]) (H' := _) (kc' := 0) (ks' := 0) rfl ?_
  refine RQ.get (ci := 11) rfl h0 rfl rfl ?_
  refine RQ.blk 1 (pc' := 28) (lv' := [(0, .ref 1), (1, .int (nI f)), (2, .int (nI n))]) (st' := [.int (nI f), .ref 66]) (H' := _) (kc' := 0) (ks' := 0) rfl ?_
  refine RQ.call (v := some (.int (nI (t.2.2.1 f)))) (st' := []) rfl rfl rfl rfl rfl rfl (args_v [.int (nI f)] [] rfl rfl (Nat.le_of_ble_eq_true rfl) rfl hT.1 (Nat.le_of_ble_eq_true rfl)) (rc_sizeOf hT hk hf) ?_
  have hkf := hk f hf
  refine RQ.blk 3 (pc' := 34) (lv' := [(3, .int (nI (t.2.2.1 f))), (0, .ref 1), (1, .int (nI f)), (2, .int (nI n))]) (st' := [.int (nI (t.2.2.1 f)), .int (nI n)]) (H' := _) (kc' := 0) (ks' := 0) rfl ?_
  refine RQ.brT rfl rfl rfl (cT_ne n (t.2.2.1 f)) ?_
  have far1 : ∀ a, a ≠ 1 → H[a]? = H[a]? := fun _ _ => rfl
  have h01 := h0
  have h11 := h1
  have h21 := h2
  have hT1 : TreeAt H t.1 t.2.1 t.2.2.1 t.2.2.2.1 t.2.2.2.2.1 t.2.2.2.2.2 := hT
  have hc1 := h
  have fk1 : FrK H H := FrK.rfl'
  obtain ⟨⟨ws0, hb0⟩, Q0, hq0⟩ := hc1.2.2.2.2.2.2.2.2.1
  obtain ⟨D0, S0, K0, E0, hb0A, -⟩ := id hb0
  refine RQ.blk 1 (pc' := 40) (lv' := [(3, .int (nI (t.2.2.1 f))), (0, .ref 1), (1, .int (nI f)), (2, .int (nI n))]) (st' := [.ref 1]) (H' := _) (kc' := 0) (ks' := 0) rfl ?_
  refine RQ.get (ci := 11) rfl h01 rfl rfl ?_
  refine RQ.callN (st' := []) rfl rfl rfl rfl rfl rfl (args_v [] [] rfl rfl (Nat.le_of_ble_eq_true rfl) rfl hb0A.1 (Nat.le_of_ble_eq_true rfl)) (rn_bclearI hb0) (fun H2 hx2 => ?_)
  obtain ⟨hb2, f2⟩ := hx2
  have h02 := (f2 0 (by decide)).trans h01
  have h12 := (f2 1 (by decide)).trans h11
  have h22 := (f2 2 (by decide)).trans h21
  have hT2 : TreeAt H2 t.1 t.2.1 t.2.2.1 t.2.2.2.1 t.2.2.2.2.1 t.2.2.2.2.2 := hT1.far (fun a a1 a2 => f2 a (by omega))
  have hq2 := (f2 64 (by decide)).trans hq0
  have e52 : ∃ q : Nat, H2[5]? = some (kO 5 [.ref 7, .int (nI q)]) := ⟨q5, (f2 5 (by decide)).trans ((far1 5 (by decide)).trans h5)⟩
  have e62 : ∃ g, H2[6]? = some (kB 41 g) := ⟨p6, (f2 6 (by decide)).trans ((far1 6 (by decide)).trans h6)⟩
  refine RQ.blk 3 (pc' := 49) (lv' := [(3, .int (nI (t.2.2.1 f))), (0, .ref 1), (1, .int (nI f)), (2, .int (nI n))]) (st' := [.int (nI n), .int (nI f), .ref 1]) (H' := _) (kc' := 0) (ks' := 0) rfl ?_
  refine RQ.callN (st' := []) rfl rfl rfl rfl rfl rfl (args_v [.int (nI n), .int (nI f)] [] rfl rfl (Nat.le_of_ble_eq_true rfl) rfl h02 (Nat.le_of_ble_eq_true rfl)) (rn_chSize (v := f) (s := n) (ws := []) h02 e52 e62 hb2 hT2 hk hf (by omega) (by decide) (by show 0 + 6 + t.2.2.2.1 f ≤ 4100; omega)) (fun Hc hxc => ?_)
  obtain ⟨hbc, e5c, e6c, fc⟩ := hxc
  have hbc : BatchIs Hc 59 [([1, f], some ([1, t.2.1 f] ++ (beB 2 n ++ sl t.2.2.2.2.1 (f * 30) (t.2.2.2.1 f))))] := hbc
  refine RQ.blk 3 (pc' := 57) (lv' := [(3, .int (nI (t.2.2.1 f))), (0, .ref 1), (1, .int (nI f)), (2, .int (nI n))]) (st' := [.int (nI n / 512)]) (H' := _) (kc' := 0) (ks' := 0) rfl ?_
  rw [show (nI n / 512 : Int32) = nI (n / 512) from pk_div (a := n) (d := 512) (by omega) (by omega) (by omega)]
  refine RQ.blk 1 (pc' := 59) (lv' := [(4, .int (nI (n / 512))), (3, .int (nI (t.2.2.1 f))), (0, .ref 1), (1, .int (nI f)), (2, .int (nI n))]) (st' := []) (H' := _) (kc' := 0) (ks' := 0) rfl ?_
  refine RQ.pick (a := [(4, .int (nI (n / 512))), (3, .int (nI (t.2.2.1 f))), (0, .ref 1), (1, .int (nI f)), (2, .int (nI n))]) [0, 1, 2, 3, 4] [4, 3, 0, 1, 2] rfl rfl (by decide) ?_
  refine RQ.while (S := Nat) (pc := 59) (fun k H' => k ≤ 32 - n / 512 ∧ BatchIs H' 59 ([([1, f], some ([1, t.2.1 f] ++ (beB 2 n ++ sl t.2.2.2.2.1 (f * 30) (t.2.2.2.1 f))))] ++ shA cf vs f n (n / 512) k) ∧ (∃ q : Nat, H'[5]? = some (kO 5 [.ref 7, .int (nI q)])) ∧ (∃ g, H'[6]? = some (kB 41 g)) ∧ ∀ a, a ≠ 5 → a ≠ 6 → ¬ (59 ≤ a ∧ a < 64) → H'[a]? = H2[a]?) (fun k => [(4, .int (nI (n / 512 + k))), (3, .int (nI (t.2.2.1 f))), (0, .ref 1), (1, .int (nI f)), (2, .int (nI n))]) (fun k => 32 - n / 512 - k) ?_ 0 Hc ⟨Nat.zero_le _, by show BatchIs Hc 59 ([([1, f], some ([1, t.2.1 f] ++ (beB 2 n ++ sl t.2.2.2.2.1 (f * 30) (t.2.2.2.1 f))))] ++ []); rw [List.append_nil]; exact hbc, e5c, e6c, fc⟩
  rintro k H3 ⟨hk1, hb3, e53, e63, f3⟩ ih
  have hn32 : n / 512 ≤ 32 := by omega
  have hal := shA_len (c := cf) (vs := vs) (f := f) (n := n) (fun i => (hpl i).2) k
  have hal1 : ([([1, f], some ([1, t.2.1 f] ++ (beB 2 n ++ sl t.2.2.2.2.1 (f * 30) (t.2.2.2.1 f))))] ++ shA cf vs f n (n / 512) k).length ≤ 1 + k := by rw [List.length_append, List.length_singleton]; omega
  by_cases hki : k < 32 - n / 512
  ·
    have h03 := (f3 0 (by decide) (by decide) (by decide)).trans h02
    refine RQ.blk 2 (pc' := 63) (lv' := [(4, .int (nI (n / 512 + k))), (3, .int (nI (t.2.2.1 f))), (0, .ref 1), (1, .int (nI f)), (2, .int (nI n))]) (st' := [.int 32, .int (nI (n / 512 + k))]) (H' := _) (kc' := 0) (ks' := 0) rfl ?_
    refine RQ.brF rfl rfl rfl (cF_ge (n / 512 + k) 32) ?_
    refine RQ.blk 4 (pc' := 71) (lv' := [(4, .int (nI (n / 512 + k))), (3, .int (nI (t.2.2.1 f))), (0, .ref 1), (1, .int (nI f)), (2, .int (nI n))]) (st' := [.int (nI n), .int (nI (n / 512 + k)), .int (nI f), .ref 1]) (H' := _) (kc' := 0) (ks' := 0) rfl ?_
    have hno : eLen ([1, f], some ([1, t.2.1 f] ++ (beB 2 n ++ sl t.2.2.2.2.1 (f * 30) (t.2.2.2.1 f)))) ≤ 36 := by
      show 2 + ([1, t.2.1 f] ++ (beB 2 n ++ sl t.2.2.2.2.1 (f * 30) (t.2.2.2.1 f))).length ≤ 36
      rw [List.length_append, List.length_append, beB_len, sl_length]
      show 2 + (2 + (2 + _)) ≤ 36
      omega
    have hof : eOff ([([1, f], some ([1, t.2.1 f] ++ (beB 2 n ++ sl t.2.2.2.2.1 (f * 30) (t.2.2.2.1 f))))] ++ shA cf vs f n (n / 512) k) ([([1, f], some ([1, t.2.1 f] ++ (beB 2 n ++ sl t.2.2.2.2.1 (f * 30) (t.2.2.2.1 f))))] ++ shA cf vs f n (n / 512) k).length ≤ 36 + (3 * k + 512) := by
      rw [eOff_cat, eOff_one]
      split at hal <;> omega
    refine RQ.callN (st' := []) rfl rfl rfl rfl rfl rfl (args_v [.int (nI n), .int (nI (n / 512 + k)), .int (nI f)] [] rfl rfl (Nat.le_of_ble_eq_true rfl) rfl h03 (Nat.le_of_ble_eq_true rfl)) (rn_shPiece (tt := 0) (f := f) (i := n / 512 + k) (n := n) h03 e53 e63 hb3 (((f3 1 (by decide) (by decide) (by decide)).trans (f2 1 (by decide))).trans h1) (((f3 2 (by decide) (by decide) (by decide)).trans (f2 2 (by decide))).trans h2) (hA.far (fun a a1 a2 => (f3 a (by omega) (by omega) (by omega)).trans (f2 a (by omega)))) hVW hvs (hC.far (fun a a1 a2 => (f3 a (by omega) (by omega) (by omega)).trans (f2 a (by omega)))) ⟨((f3 83 (by decide) (by decide) (by decide)).trans (f2 83 (by decide))).trans hY.1, ((f3 86 (by decide) (by decide) (by decide)).trans (f2 86 (by decide))).trans hY.2.1, ((f3 87 (by decide) (by decide) (by decide)).trans (f2 87 (by decide))).trans hY.2.2⟩ hB hlc hlg (((f3 190 (by decide) (by decide) (by decide)).trans (f2 190 (by decide))).trans hG) hRec (hpl _).1 (by omega) (by omega) hn (by omega) (by omega)) (fun H4 hx4 => ?_)
    obtain ⟨z1, z2, z3, z4⟩ := hx4
    refine RQ.blk 1 (pc' := 77) (lv' := [(4, .int (nI (n / 512 + k) + 1)), (3, .int (nI (t.2.2.1 f))), (0, .ref 1), (1, .int (nI f)), (2, .int (nI n))]) (st' := []) (H' := _) (kc' := 0) (ks' := 0) rfl ?_
    rw [show (nI (n / 512 + k) + 1 : Int32) = nI (n / 512 + k + 1) from nI_add (n / 512 + k) 1]
    refine RQ.blk 1 (pc' := 59) (lv' := [(4, .int (nI (n / 512 + k + 1))), (3, .int (nI (t.2.2.1 f))), (0, .ref 1), (1, .int (nI f)), (2, .int (nI n))]) (st' := []) (H' := _) (kc' := 0) (ks' := 0) rfl ?_
    refine RQ.pick (a := [(4, .int (nI (n / 512 + k + 1))), (3, .int (nI (t.2.2.1 f))), (0, .ref 1), (1, .int (nI f)), (2, .int (nI n))]) [0, 1, 2, 3, 4] [4, 3, 0, 1, 2] rfl rfl (by decide) ?_
    rw [show n / 512 + k + 1 = n / 512 + (k + 1) by omega]
    exact ih (k + 1) _ ⟨by omega, by show BatchIs H4 59 ([_] ++ (shA cf vs f n (n / 512) k ++ shW cf vs f (n / 512 + k) n)); rw [← List.append_assoc]; exact z1, z2, z3, fun a a1 a2 a3 => (z4 a a1 a2 a3).trans (f3 a a1 a2 a3)⟩ (by omega)
  ·
    have hke : k = 32 - n / 512 := by omega
    rw [hke, hws] at hb3
    have h03 := (f3 0 (by decide) (by decide) (by decide)).trans h02
    refine RQ.blk 2 (pc' := 63) (lv' := [(4, .int (nI (n / 512 + k))), (3, .int (nI (t.2.2.1 f))), (0, .ref 1), (1, .int (nI f)), (2, .int (nI n))]) (st' := [.int 32, .int (nI (n / 512 + k))]) (H' := _) (kc' := 0) (ks' := 0) rfl ?_
    refine RQ.brT rfl rfl rfl (cT_ge (n / 512 + k) 32) ?_
    have f13 : ∀ a, a ≠ 5 → a ≠ 6 → ¬ (59 ≤ a ∧ a < 64) → H3[a]? = H[a]? := fun a a1 a2 a3 => (f3 a a1 a2 a3).trans (f2 a (by omega))
    have hc3 : ClsA H3 B P 1 1 0 cp cb tb l g rl wss t := by
      obtain ⟨qa, ea⟩ := e53
      obtain ⟨pa, eb⟩ := e63
      obtain ⟨c0, c1, c2, c3, c4, -, ⟨wq2, c10, cwq⟩, cW, -, cT⟩ := hc1
      exact ⟨(f13 0 (by decide) (by decide) (by decide)).trans c0, (f13 1 (by decide) (by decide) (by decide)).trans c1, (f13 2 (by decide) (by decide) (by decide)).trans c2, (f13 3 (by decide) (by decide) (by decide)).trans c3, (f13 4 (by decide) (by decide) (by decide)).trans c4, ⟨qa, pa, ea, eb⟩, ⟨wq2, (f13 10 (by decide) (by decide) (by decide)).trans c10, cwq⟩, fun t ht => ⟨(cW t ht).1.keep (fun a a1 a2 => f13 a (by omega) (by omega) (by omega)), (cW t ht).2.imp (fun Q hQ => (f13 _ (by omega) (by omega) (by omega)).trans hQ)⟩, ⟨⟨_, hb3⟩, Q0, (f3 64 (by decide) (by decide) (by decide)).trans hq2⟩, cT.far (fun a a1 a2 => f13 a (by omega) (by omega) (by omega))⟩
    have fk3 : FrK H H3 := fk1.trans (fun a ha => f13 a (by omega) (by omega) (by omega))
    have hch3 : ChB H H3 B P 1 0 cp cb tb l g rl wss t ws := ⟨hc3, hb3, fk3⟩
    obtain ⟨D3, S3, K3, E3, hb3A, hb3L, hb340, hb341⟩ := id hb3
    have hb3k := hb3L.ok hb340 hb341
    have h03 := hc3.1
    have h13 := hc3.2.1
    have h23 := hc3.2.2.1
    have hT3 : TreeAt H3 t.1 t.2.1 t.2.2.1 t.2.2.2.1 t.2.2.2.2.1 t.2.2.2.2.2 := hc3.2.2.2.2.2.2.2.2.2
    refine RQ.blk 2 (pc' := 82) (lv' := [(4, .int (nI (n / 512 + k))), (3, .int (nI (t.2.2.1 f))), (0, .ref 1), (1, .int (nI f)), (2, .int (nI n))]) (st' := [.ref 1, .ref 1]) (H' := _) (kc' := 0) (ks' := 0) rfl ?_
    refine RQ.get (ci := 11) rfl h03 rfl rfl ?_
    refine RQ.get (ci := 0) rfl hb3A.1 rfl rfl ?_
    refine RQ.blk 2 (pc' := 90) (lv' := [(4, .int (nI (n / 512 + k))), (3, .int (nI (t.2.2.1 f))), (0, .ref 1), (1, .int (nI f)), (2, .int (nI n))]) (st' := [.int (nI ws.length + 1), .ref 1]) (H' := _) (kc' := 0) (ks' := 0) rfl ?_
    rw [show (nI ws.length + 1 : Int32) = nI (ws.length + 1) from nI_add ws.length 1]
    obtain ⟨cf, tf, pq, bb, hC3⟩ := hC0 H3 hch3
    refine RQ.call (v := none) (st' := []) rfl rfl rfl rfl rfl rfl (args_v [.int (nI (ws.length + 1))] [] rfl rfl (Nat.le_of_ble_eq_true rfl) rfl h03 (Nat.le_of_ble_eq_true rfl)) (rc_armCutM (n := ws.length + 1) h03 hC3 (by omega) (by omega) hcp) ?_
    refine RQ.blk 2 (pc' := 95) (lv' := [(4, .int (nI (n / 512 + k))), (3, .int (nI (t.2.2.1 f))), (0, .ref 1), (1, .int (nI f)), (2, .int (nI n))]) (st' := [.ref 1, .ref 1]) (H' := _) (kc' := 0) (ks' := 0) rfl ?_
    have hRM3 := hRM H3 hch3
    generalize hHA : (H3.set 71 (kO 1 [.ref 73, .ref 74, .int (lI (some (cp % (ws.length + 1)))), .int (nI cb), .int (nI 0)])) = HA at hRM3 ⊢
    have g0 : HA[0]? = some (kO 11 (fvs (nI B) (nI P) 1 1 0 (nI cp) (nI cb))) := by rw [← hHA]; exact (set_far (by decide)).trans h03
    refine RQ.callB (st' := [.ref 1]) rfl rfl rfl rfl rfl rfl (args_v [] [.ref 1] rfl rfl (Nat.le_of_ble_eq_true rfl) rfl g0 (Nat.le_of_ble_eq_true rfl)) hRM3 (fun H4 hH4 => ?_) (fun H4 hH4 => ?_)
    · have g1 := hf1 H4 hH4
      refine RQ.brF rfl rfl rfl (by decide) ?_
      refine RQ.blk 2 (pc' := 103) (lv' := [(4, .int (nI (n / 512 + k))), (3, .int (nI (t.2.2.1 f))), (0, .ref 1), (1, .int (nI f)), (2, .int (nI n))]) (st' := [.ref 1, .ref 1, .ref 1]) (H' := _) (kc' := 0) (ks' := 0) rfl ?_
      refine RQ.get (ci := 11) rfl g1 rfl rfl ?_
      refine RQ.callB (st' := [.ref 1]) rfl rfl rfl rfl rfl rfl (args_v [.ref 60] [.ref 1] rfl rfl (Nat.le_of_ble_eq_true rfl) rfl g1 (Nat.le_of_ble_eq_true rfl)) (hST H4 hH4) (fun H5 hH5 => ?_) (fun H5 hH5 => ?_)
      · exact hH5.elim
      · have g2 := hfb H5 hH5
        refine RQ.brT rfl rfl rfl (by decide) ?_
        refine RQ.blk 1 (pc' := 117) (lv' := [(4, .int (nI (n / 512 + k))), (3, .int (nI (t.2.2.1 f))), (0, .ref 1), (1, .int (nI f)), (2, .int (nI n))]) (st' := [.int 0, .ref 1]) (H' := _) (kc' := 0 + 1) (ks' := 0 + 6) rfl ?_
        obtain ⟨HX, hxX, hpX⟩ := hSB H5 hH5
        exact RQ.callP (st' := []) rfl rfl rfl rfl rfl rfl (args_v [.int 0] [] rfl rfl (Nat.le_of_ble_eq_true rfl) rfl g2 (Nat.le_of_ble_eq_true rfl)) hxX rfl ⟨_, 2, by decide, rfl, hpX⟩
    · have g2 := hfb H4 hH4
      refine RQ.brT rfl rfl rfl (by decide) ?_
      refine RQ.blk 1 (pc' := 117) (lv' := [(4, .int (nI (n / 512 + k))), (3, .int (nI (t.2.2.1 f))), (0, .ref 1), (1, .int (nI f)), (2, .int (nI n))]) (st' := [.int 0, .ref 1]) (H' := _) (kc' := 0 + 1) (ks' := 0 + 6) rfl ?_
      obtain ⟨HX, hxX, hpX⟩ := hSB H4 hH4
      exact RQ.callP (st' := []) rfl rfl rfl rfl rfl rfl (args_v [.int 0] [] rfl rfl (Nat.le_of_ble_eq_true rfl) rfl g2 (Nat.le_of_ble_eq_true rfl)) hxX rfl ⟨_, 2, by decide, rfl, hpX⟩
