/-! ===== the class's calls on files with arguments out of bounds; written by wip/gen/cls4.py ===== -/
theorem ub_47 (x : Int8) : ub x = 47 ↔ x.toInt32 = 47 := by
  have key : ∀ n, n < 256 → (n = 47 ↔ (Int8.ofBitVec (BitVec.ofNat 8 n)).toInt32 = 47) := by decide +kernel
  have h := key x.toBitVec.toNat x.toBitVec.isLt
  rw [BitVec.ofNat_toNat, BitVec.setWidth_eq] at h
  exact h
theorem nosl_iff {tb : Nat → Int8} {l i n : Nat} (h : i + n ≤ l) : noSl tb i n ↔ ∀ k, k < n → ¬ btB tb l (i + k) = 47 := by
  unfold noSl
  constructor
  · intro h1 k hk e
    unfold btB at e
    rw [if_pos (by omega)] at e
    exact h1 k hk ((ub_47 _).mp e)
  · intro h1 k hk e
    refine h1 k hk ?_
    unfold btB
    rw [if_pos (by omega)]
    exact (ub_47 _).mpr e
set_option maxRecDepth 20000 in
theorem rx_read_bad {sc : Nat × (Nat → Int32)} {d : Nat} {H : aH} {B P : Nat} {up cw cl : Int32} {cp cb : Nat} {tb : Nat → Int8} {l : Nat} {g : Nat → Int8} {rl : Nat} {wss : Nat → List aE} {t : aTr} {x y z : Int32} (h : ClsA H B P up cw cl cp cb tb l g rl wss t) (hbad : ¬ ((∃ t, x = nI t ∧ t < 201) ∧ (∃ t, y = nI t ∧ t < 16385) ∧ (∃ t, z = nI t ∧ t < 1001))) : RX sc (d + 8) mr_247 [.ref 1, .int x, .int y, .int z] H 0 (fun H' => ClsA H' B P up cw cl cp cb tb l g rl wss t ∧ FrK H H') := by
  obtain ⟨h0, h1, h2, h3, h4, ⟨q5, p6, h5, h6⟩, ⟨wq, h10, hwq⟩, hW, hCh, hT⟩ := id h
  refine RX.of ?_
  refine RQ.blk 2 (pc' := 2) (lv' := [(0, .ref 1), (1, .int x), (2, .int y), (3, .int z)]) (st' := [.int x, .ref 1]) (H' := _) (kc' := 0) (ks' := 0) rfl ?_
  rcases pk_ix x (n := 201) (by decide) with hx | hx | ⟨t0, ht0, rfl⟩
  ·
    exact RQ.callP (st' := []) rfl rfl rfl rfl rfl rfl (args_v [.int x] [] rfl rfl (Nat.le_of_ble_eq_true rfl) rfl h0 (Nat.le_of_ble_eq_true rfl)) (rc_reqNumX h0 (Or.inl hx)) rfl ⟨_, rfl, h, FrK.rfl'⟩
  ·
    exact RQ.callP (st' := []) rfl rfl rfl rfl rfl rfl (args_v [.int x] [] rfl rfl (Nat.le_of_ble_eq_true rfl) rfl h0 (Nat.le_of_ble_eq_true rfl)) (rc_reqNumX h0 (Or.inr (fun e => Int32.not_lt.mpr hx ((le_pred (n := 200) (by decide)).mp e)))) rfl ⟨_, rfl, h, FrK.rfl'⟩
  ·
    refine RQ.call (v := none) (st' := []) rfl rfl rfl rfl rfl rfl (args_v [.int (nI t0)] [] rfl rfl (Nat.le_of_ble_eq_true rfl) rfl h0 (Nat.le_of_ble_eq_true rfl)) (rc_reqNum h0 (by omega)) ?_
    refine RQ.blk 4 (pc' := 11) (lv' := [(0, .ref 1), (1, .int (nI t0)), (2, .int y), (3, .int z)]) (st' := [.int 16384, .int 0, .int y, .ref 1]) (H' := _) (kc' := 0) (ks' := 0) rfl ?_
    rcases pk_ix y (n := 16385) (by decide) with hx | hx | ⟨t1, ht1, rfl⟩
    ·
      exact RQ.callP (st' := []) rfl rfl rfl rfl rfl rfl (args_v [.int 16384, .int 0, .int y] [] rfl rfl (Nat.le_of_ble_eq_true rfl) rfl h0 (Nat.le_of_ble_eq_true rfl)) (rc_rangeX (Or.inl hx)) rfl ⟨_, rfl, h, FrK.rfl'⟩
    ·
      exact RQ.callP (st' := []) rfl rfl rfl rfl rfl rfl (args_v [.int 16384, .int 0, .int y] [] rfl rfl (Nat.le_of_ble_eq_true rfl) rfl h0 (Nat.le_of_ble_eq_true rfl)) (rc_rangeX (Or.inr (fun e => Int32.not_lt.mpr hx ((le_pred (n := 16384) (by decide)).mp e)))) rfl ⟨_, rfl, h, FrK.rfl'⟩
    ·
      refine RQ.call (v := none) (st' := []) rfl rfl rfl rfl rfl rfl (args_v [.int 16384, .int 0, .int (nI t1)] [] rfl rfl (Nat.le_of_ble_eq_true rfl) rfl h0 (Nat.le_of_ble_eq_true rfl)) (rc_range (nI_nlt (Nat.zero_le t1) (by omega)) (rg_hi (n := 16384) (by omega) (by decide))) ?_
      refine RQ.blk 4 (pc' := 20) (lv' := [(0, .ref 1), (1, .int (nI t0)), (2, .int (nI t1)), (3, .int z)]) (st' := [.int 1000, .int 0, .int z, .ref 1]) (H' := _) (kc' := 0) (ks' := 0) rfl ?_
      rcases pk_ix z (n := 1001) (by decide) with hx | hx | ⟨t2, ht2, rfl⟩
      ·
        exact RQ.callP (st' := []) rfl rfl rfl rfl rfl rfl (args_v [.int 1000, .int 0, .int z] [] rfl rfl (Nat.le_of_ble_eq_true rfl) rfl h0 (Nat.le_of_ble_eq_true rfl)) (rc_rangeX (Or.inl hx)) rfl ⟨_, rfl, h, FrK.rfl'⟩
      ·
        exact RQ.callP (st' := []) rfl rfl rfl rfl rfl rfl (args_v [.int 1000, .int 0, .int z] [] rfl rfl (Nat.le_of_ble_eq_true rfl) rfl h0 (Nat.le_of_ble_eq_true rfl)) (rc_rangeX (Or.inr (fun e => Int32.not_lt.mpr hx ((le_pred (n := 1000) (by decide)).mp e)))) rfl ⟨_, rfl, h, FrK.rfl'⟩
      ·
        refine RQ.call (v := none) (st' := []) rfl rfl rfl rfl rfl rfl (args_v [.int 1000, .int 0, .int (nI t2)] [] rfl rfl (Nat.le_of_ble_eq_true rfl) rfl h0 (Nat.le_of_ble_eq_true rfl)) (rc_range (nI_nlt (Nat.zero_le t2) (by omega)) (rg_hi (n := 1000) (by omega) (by decide))) ?_
        refine RQ.blk 1 (pc' := 24) (lv' := [(0, .ref 1), (1, .int (nI t0)), (2, .int (nI t1)), (3, .int (nI t2))]) (st' := [.ref 1]) (H' := _) (kc' := 0) (ks' := 0) rfl ?_
        exact absurd ⟨⟨_, rfl, ht0⟩, ⟨_, rfl, ht1⟩, ⟨_, rfl, ht2⟩⟩ hbad
set_option maxRecDepth 20000 in
theorem rx_resize_bad {sc : Nat × (Nat → Int32)} {d : Nat} {H : aH} {B P : Nat} {up cw cl : Int32} {cp cb : Nat} {tb : Nat → Int8} {l : Nat} {g : Nat → Int8} {rl : Nat} {wss : Nat → List aE} {t : aTr} {x y : Int32} (h : ClsA H B P up cw cl cp cb tb l g rl wss t) (hbad : ¬ ((∃ t, x = nI t ∧ t < 201) ∧ (∃ t, y = nI t ∧ t < 16385))) : RX sc (d + 8) mr_250 [.ref 1, .int x, .int y] H 0 (fun H' => ClsA H' B P up cw cl cp cb tb l g rl wss t ∧ FrK H H') := by
  obtain ⟨h0, h1, h2, h3, h4, ⟨q5, p6, h5, h6⟩, ⟨wq, h10, hwq⟩, hW, hCh, hT⟩ := id h
  refine RX.of ?_
  refine RQ.blk 2 (pc' := 2) (lv' := [(0, .ref 1), (1, .int x), (2, .int y)]) (st' := [.int x, .ref 1]) (H' := _) (kc' := 0) (ks' := 0) rfl ?_
  rcases pk_ix x (n := 201) (by decide) with hx | hx | ⟨t0, ht0, rfl⟩
  ·
    exact RQ.callP (st' := []) rfl rfl rfl rfl rfl rfl (args_v [.int x] [] rfl rfl (Nat.le_of_ble_eq_true rfl) rfl h0 (Nat.le_of_ble_eq_true rfl)) (rc_reqNumX h0 (Or.inl hx)) rfl ⟨_, rfl, h, FrK.rfl'⟩
  ·
    exact RQ.callP (st' := []) rfl rfl rfl rfl rfl rfl (args_v [.int x] [] rfl rfl (Nat.le_of_ble_eq_true rfl) rfl h0 (Nat.le_of_ble_eq_true rfl)) (rc_reqNumX h0 (Or.inr (fun e => Int32.not_lt.mpr hx ((le_pred (n := 200) (by decide)).mp e)))) rfl ⟨_, rfl, h, FrK.rfl'⟩
  ·
    refine RQ.call (v := none) (st' := []) rfl rfl rfl rfl rfl rfl (args_v [.int (nI t0)] [] rfl rfl (Nat.le_of_ble_eq_true rfl) rfl h0 (Nat.le_of_ble_eq_true rfl)) (rc_reqNum h0 (by omega)) ?_
    refine RQ.blk 4 (pc' := 11) (lv' := [(0, .ref 1), (1, .int (nI t0)), (2, .int y)]) (st' := [.int 16384, .int 0, .int y, .ref 1]) (H' := _) (kc' := 0) (ks' := 0) rfl ?_
    rcases pk_ix y (n := 16385) (by decide) with hx | hx | ⟨t1, ht1, rfl⟩
    ·
      exact RQ.callP (st' := []) rfl rfl rfl rfl rfl rfl (args_v [.int 16384, .int 0, .int y] [] rfl rfl (Nat.le_of_ble_eq_true rfl) rfl h0 (Nat.le_of_ble_eq_true rfl)) (rc_rangeX (Or.inl hx)) rfl ⟨_, rfl, h, FrK.rfl'⟩
    ·
      exact RQ.callP (st' := []) rfl rfl rfl rfl rfl rfl (args_v [.int 16384, .int 0, .int y] [] rfl rfl (Nat.le_of_ble_eq_true rfl) rfl h0 (Nat.le_of_ble_eq_true rfl)) (rc_rangeX (Or.inr (fun e => Int32.not_lt.mpr hx ((le_pred (n := 16384) (by decide)).mp e)))) rfl ⟨_, rfl, h, FrK.rfl'⟩
    ·
      refine RQ.call (v := none) (st' := []) rfl rfl rfl rfl rfl rfl (args_v [.int 16384, .int 0, .int (nI t1)] [] rfl rfl (Nat.le_of_ble_eq_true rfl) rfl h0 (Nat.le_of_ble_eq_true rfl)) (rc_range (nI_nlt (Nat.zero_le t1) (by omega)) (rg_hi (n := 16384) (by omega) (by decide))) ?_
      refine RQ.blk 1 (pc' := 15) (lv' := [(0, .ref 1), (1, .int (nI t0)), (2, .int (nI t1))]) (st' := [.ref 1]) (H' := _) (kc' := 0) (ks' := 0) rfl ?_
      exact absurd ⟨⟨_, rfl, ht0⟩, ⟨_, rfl, ht1⟩⟩ hbad
theorem rc_requireNameR {sc : Nat × (Nat → Int32)} {d i n : Nat} {H : aH} {fs : List Value} (h0 : H[0]? = some (kO 11 fs)) (hx : nI n < 1 ∨ ¬ nI n ≤ 30) : RC sc (d + 1) mr_217 [.ref 1, .int (nI i), .int (nI n)] H (.inr 0) H 1 6 := by
  refine RC.of ?_
  refine RQ.blk 4 (pc' := 5) (lv' := [(0, .ref 1), (1, .int (nI i)), (2, .int (nI n))]) (st' := [.int 30, .int 1, .int (nI n), .ref 1]) (H' := _) (kc' := 0) (ks' := 0) rfl ?_
  exact RQ.callP (st' := []) rfl rfl rfl rfl rfl rfl (args_v [.int 30, .int 1, .int (nI n)] [] rfl rfl (Nat.le_of_ble_eq_true rfl) rfl h0 (Nat.le_of_ble_eq_true rfl)) (rc_rangeX hx) rfl rfl
theorem nI_out {n : Nat} (hn : n < 2 ^ 30) (h : ¬ (1 ≤ n ∧ n ≤ 30)) : nI n < 1 ∨ ¬ nI n ≤ 30 := by
  by_cases h0 : n = 0
  · left
    rw [h0]
    decide
  · right
    intro e
    rw [Int32.le_iff_toInt_le, nI_toInt (by omega)] at e
    have e : (n : Int) ≤ 30 := e
    omega
set_option maxRecDepth 20000 in
theorem rx_make_bad {sc : Nat × (Nat → Int32)} {d : Nat} {H : aH} {B P : Nat} {up cw cl : Int32} {cp cb : Nat} {tb : Nat → Int8} {l : Nat} {g : Nat → Int8} {rl : Nat} {wss : Nat → List aE} {t : aTr} {x w : Int32} (h : ClsA H B P up cw cl cp cb tb l g rl wss t) (hl : l ≤ 2000) (hbad : ¬ ((∃ t, x = nI t ∧ t < 201) ∧ 1 ≤ l ∧ l ≤ 30 ∧ noSl tb 0 l)) : RX sc (d + 8) mr_215 [.ref 1, .int x, .int w] H 0 (fun H' => ClsA H' B P up cw cl cp cb tb l g rl wss t ∧ FrK H H') := by
  obtain ⟨h0, h1, h2, h3, h4, ⟨q5, p6, h5, h6⟩, ⟨wq, h10, hwq⟩, hW, hCh, hT⟩ := id h
  refine RX.of ?_
  refine RQ.blk 2 (pc' := 2) (lv' := [(0, .ref 1), (1, .int x), (2, .int w)]) (st' := [.int x, .ref 1]) (H' := _) (kc' := 0) (ks' := 0) rfl ?_
  rcases pk_ix x (n := 201) (by decide) with hx | hx | ⟨t0, ht0, rfl⟩
  ·
    exact RQ.callP (st' := []) rfl rfl rfl rfl rfl rfl (args_v [.int x] [] rfl rfl (Nat.le_of_ble_eq_true rfl) rfl h0 (Nat.le_of_ble_eq_true rfl)) (rc_reqNumX h0 (Or.inl hx)) rfl ⟨_, rfl, h, FrK.rfl'⟩
  ·
    exact RQ.callP (st' := []) rfl rfl rfl rfl rfl rfl (args_v [.int x] [] rfl rfl (Nat.le_of_ble_eq_true rfl) rfl h0 (Nat.le_of_ble_eq_true rfl)) (rc_reqNumX h0 (Or.inr (fun e => Int32.not_lt.mpr hx ((le_pred (n := 200) (by decide)).mp e)))) rfl ⟨_, rfl, h, FrK.rfl'⟩
  ·
    refine RQ.call (v := none) (st' := []) rfl rfl rfl rfl rfl rfl (args_v [.int (nI t0)] [] rfl rfl (Nat.le_of_ble_eq_true rfl) rfl h0 (Nat.le_of_ble_eq_true rfl)) (rc_reqNum h0 (by omega)) ?_
    refine RQ.blk 3 (pc' := 8) (lv' := [(0, .ref 1), (1, .int (nI t0)), (2, .int w)]) (st' := [.ref 1, .int 0, .ref 1]) (H' := _) (kc' := 0) (ks' := 0) rfl ?_
    refine RQ.get (ci := 11) rfl h0 rfl rfl ?_
    refine RQ.get (ci := 5) rfl h1 rfl rfl ?_
    by_cases hn0 : 1 ≤ l ∧ l ≤ 30
    ·
      by_cases hn0s : ∀ j, j < l → ¬ btB tb l (0 + j) = 47
      ·
        refine RQ.call (v := none) (st' := []) rfl rfl rfl rfl rfl rfl (args_v [.int (nI l), .int 0] [] rfl rfl (Nat.le_of_ble_eq_true rfl) rfl h0 (Nat.le_of_ble_eq_true rfl)) (rc_requireName1 (i := 0) h0 ⟨h1, h2, by decide, by decide⟩ hl (by omega) hn0.1 hn0.2 hn0s) ?_
        refine RQ.blk 1 (pc' := 18) (lv' := [(0, .ref 1), (1, .int (nI t0)), (2, .int w)]) (st' := [.ref 1]) (H' := _) (kc' := 0) (ks' := 0) rfl ?_
        exact absurd ⟨⟨_, rfl, ht0⟩, hn0.1, hn0.2, (nosl_iff (l := l) (by omega)).mpr hn0s⟩ hbad
      ·
        exact RQ.callP (st' := []) rfl rfl rfl rfl rfl rfl (args_v [.int (nI l), .int 0] [] rfl rfl (Nat.le_of_ble_eq_true rfl) rfl h0 (Nat.le_of_ble_eq_true rfl)) (rc_requireName0 (i := 0) h0 ⟨h1, h2, by decide, by decide⟩ hl (by omega) hn0.1 hn0.2 hn0s) rfl ⟨_, rfl, h, FrK.rfl'⟩
    ·
      have hr : nI l < 1 ∨ ¬ nI l ≤ 30 := nI_out (by omega) hn0
      exact RQ.callP (st' := []) rfl rfl rfl rfl rfl rfl (args_v [.int (nI l), .int 0] [] rfl rfl (Nat.le_of_ble_eq_true rfl) rfl h0 (Nat.le_of_ble_eq_true rfl)) (rc_requireNameR (i := 0) h0 hr) rfl ⟨_, rfl, h, FrK.rfl'⟩
set_option maxRecDepth 20000 in
theorem rx_remove_bad {sc : Nat × (Nat → Int32)} {d : Nat} {H : aH} {B P : Nat} {up cw cl : Int32} {cp cb : Nat} {tb : Nat → Int8} {l : Nat} {g : Nat → Int8} {rl : Nat} {wss : Nat → List aE} {t : aTr} {x : Int32} (h : ClsA H B P up cw cl cp cb tb l g rl wss t) (hl : l ≤ 2000) (hbad : ¬ ((∃ t, x = nI t ∧ t < 201) ∧ 1 ≤ l ∧ l ≤ 30 ∧ noSl tb 0 l)) : RX sc (d + 8) mr_225 [.ref 1, .int x] H 0 (fun H' => ClsA H' B P up cw cl cp cb tb l g rl wss t ∧ FrK H H') := by
  obtain ⟨h0, h1, h2, h3, h4, ⟨q5, p6, h5, h6⟩, ⟨wq, h10, hwq⟩, hW, hCh, hT⟩ := id h
  refine RX.of ?_
  refine RQ.blk 2 (pc' := 2) (lv' := [(0, .ref 1), (1, .int x)]) (st' := [.int x, .ref 1]) (H' := _) (kc' := 0) (ks' := 0) rfl ?_
  rcases pk_ix x (n := 201) (by decide) with hx | hx | ⟨t0, ht0, rfl⟩
  ·
    exact RQ.callP (st' := []) rfl rfl rfl rfl rfl rfl (args_v [.int x] [] rfl rfl (Nat.le_of_ble_eq_true rfl) rfl h0 (Nat.le_of_ble_eq_true rfl)) (rc_reqNumX h0 (Or.inl hx)) rfl ⟨_, rfl, h, FrK.rfl'⟩
  ·
    exact RQ.callP (st' := []) rfl rfl rfl rfl rfl rfl (args_v [.int x] [] rfl rfl (Nat.le_of_ble_eq_true rfl) rfl h0 (Nat.le_of_ble_eq_true rfl)) (rc_reqNumX h0 (Or.inr (fun e => Int32.not_lt.mpr hx ((le_pred (n := 200) (by decide)).mp e)))) rfl ⟨_, rfl, h, FrK.rfl'⟩
  ·
    refine RQ.call (v := none) (st' := []) rfl rfl rfl rfl rfl rfl (args_v [.int (nI t0)] [] rfl rfl (Nat.le_of_ble_eq_true rfl) rfl h0 (Nat.le_of_ble_eq_true rfl)) (rc_reqNum h0 (by omega)) ?_
    refine RQ.blk 3 (pc' := 8) (lv' := [(0, .ref 1), (1, .int (nI t0))]) (st' := [.ref 1, .int 0, .ref 1]) (H' := _) (kc' := 0) (ks' := 0) rfl ?_
    refine RQ.get (ci := 11) rfl h0 rfl rfl ?_
    refine RQ.get (ci := 5) rfl h1 rfl rfl ?_
    by_cases hn0 : 1 ≤ l ∧ l ≤ 30
    ·
      by_cases hn0s : ∀ j, j < l → ¬ btB tb l (0 + j) = 47
      ·
        refine RQ.call (v := none) (st' := []) rfl rfl rfl rfl rfl rfl (args_v [.int (nI l), .int 0] [] rfl rfl (Nat.le_of_ble_eq_true rfl) rfl h0 (Nat.le_of_ble_eq_true rfl)) (rc_requireName1 (i := 0) h0 ⟨h1, h2, by decide, by decide⟩ hl (by omega) hn0.1 hn0.2 hn0s) ?_
        refine RQ.blk 1 (pc' := 18) (lv' := [(0, .ref 1), (1, .int (nI t0))]) (st' := [.ref 1]) (H' := _) (kc' := 0) (ks' := 0) rfl ?_
        exact absurd ⟨⟨_, rfl, ht0⟩, hn0.1, hn0.2, (nosl_iff (l := l) (by omega)).mpr hn0s⟩ hbad
      ·
        exact RQ.callP (st' := []) rfl rfl rfl rfl rfl rfl (args_v [.int (nI l), .int 0] [] rfl rfl (Nat.le_of_ble_eq_true rfl) rfl h0 (Nat.le_of_ble_eq_true rfl)) (rc_requireName0 (i := 0) h0 ⟨h1, h2, by decide, by decide⟩ hl (by omega) hn0.1 hn0.2 hn0s) rfl ⟨_, rfl, h, FrK.rfl'⟩
    ·
      have hr : nI l < 1 ∨ ¬ nI l ≤ 30 := nI_out (by omega) hn0
      exact RQ.callP (st' := []) rfl rfl rfl rfl rfl rfl (args_v [.int (nI l), .int 0] [] rfl rfl (Nat.le_of_ble_eq_true rfl) rfl h0 (Nat.le_of_ble_eq_true rfl)) (rc_requireNameR (i := 0) h0 hr) rfl ⟨_, rfl, h, FrK.rfl'⟩
set_option maxRecDepth 20000 in
theorem rx_write_bad {sc : Nat × (Nat → Int32)} {d : Nat} {H : aH} {B P : Nat} {up cw cl : Int32} {cp cb : Nat} {tb : Nat → Int8} {l : Nat} {g : Nat → Int8} {rl : Nat} {wss : Nat → List aE} {t : aTr} {x y : Int32} (h : ClsA H B P up cw cl cp cb tb l g rl wss t) (hl : l ≤ 2000) (hbad : ¬ ((∃ t, x = nI t ∧ t < 201) ∧ 1 ≤ l ∧ ∃ s, y = nI s ∧ s + l ≤ 16384)) : RX sc (d + 8) mr_238 [.ref 1, .int x, .int y] H 0 (fun H' => ClsA H' B P up cw cl cp cb tb l g rl wss t ∧ FrK H H') := by
  obtain ⟨h0, h1, h2, h3, h4, ⟨q5, p6, h5, h6⟩, ⟨wq, h10, hwq⟩, hW, hCh, hT⟩ := id h
  refine RX.of ?_
  refine RQ.blk 2 (pc' := 2) (lv' := [(0, .ref 1), (1, .int x), (2, .int y)]) (st' := [.int x, .ref 1]) (H' := _) (kc' := 0) (ks' := 0) rfl ?_
  rcases pk_ix x (n := 201) (by decide) with hx | hx | ⟨t0, ht0, rfl⟩
  ·
    exact RQ.callP (st' := []) rfl rfl rfl rfl rfl rfl (args_v [.int x] [] rfl rfl (Nat.le_of_ble_eq_true rfl) rfl h0 (Nat.le_of_ble_eq_true rfl)) (rc_reqNumX h0 (Or.inl hx)) rfl ⟨_, rfl, h, FrK.rfl'⟩
  ·
    exact RQ.callP (st' := []) rfl rfl rfl rfl rfl rfl (args_v [.int x] [] rfl rfl (Nat.le_of_ble_eq_true rfl) rfl h0 (Nat.le_of_ble_eq_true rfl)) (rc_reqNumX h0 (Or.inr (fun e => Int32.not_lt.mpr hx ((le_pred (n := 200) (by decide)).mp e)))) rfl ⟨_, rfl, h, FrK.rfl'⟩
  ·
    refine RQ.call (v := none) (st' := []) rfl rfl rfl rfl rfl rfl (args_v [.int (nI t0)] [] rfl rfl (Nat.le_of_ble_eq_true rfl) rfl h0 (Nat.le_of_ble_eq_true rfl)) (rc_reqNum h0 (by omega)) ?_
    refine RQ.blk 2 (pc' := 7) (lv' := [(0, .ref 1), (1, .int (nI t0)), (2, .int y)]) (st' := [.ref 1, .ref 1]) (H' := _) (kc' := 0) (ks' := 0) rfl ?_
    refine RQ.get (ci := 11) rfl h0 rfl rfl ?_
    refine RQ.get (ci := 5) rfl h1 rfl rfl ?_
    refine RQ.blk 2 (pc' := 17) (lv' := [(0, .ref 1), (1, .int (nI t0)), (2, .int y)]) (st' := [.int 2000, .int 1, .int (nI l), .ref 1]) (H' := _) (kc' := 0) (ks' := 0) rfl ?_
    by_cases hl1 : 1 ≤ l
    ·
      refine RQ.call (v := none) (st' := []) rfl rfl rfl rfl rfl rfl (args_v [.int 2000, .int 1, .int (nI l)] [] rfl rfl (Nat.le_of_ble_eq_true rfl) rfl h0 (Nat.le_of_ble_eq_true rfl)) (rc_range (fun e => absurd e (nI_nlt hl1 (by omega))) (rg_hi (n := 2000) hl (by decide))) ?_
      refine RQ.blk 5 (pc' := 27) (lv' := [(0, .ref 1), (1, .int (nI t0)), (2, .int y)]) (st' := [.ref 1, .int 16384, .int 0, .int y, .ref 1]) (H' := _) (kc' := 0) (ks' := 0) rfl ?_
      refine RQ.get (ci := 11) rfl h0 rfl rfl ?_
      refine RQ.get (ci := 5) rfl h1 rfl rfl ?_
      refine RQ.blk 1 (pc' := 34) (lv' := [(0, .ref 1), (1, .int (nI t0)), (2, .int y)]) (st' := [.int (16384 - nI l), .int 0, .int y, .ref 1]) (H' := _) (kc' := 0) (ks' := 0) rfl ?_
      rw [show (16384 - nI l : Int32) = nI (16384 - l) from pk_sub (a := 16384) (b := l) (by omega)]
      by_cases hy : y < 0 ∨ ¬ y ≤ nI (16384 - l)
      ·
        exact RQ.callP (st' := []) rfl rfl rfl rfl rfl rfl (args_v [.int (nI (16384 - l)), .int 0, .int y] [] rfl rfl (Nat.le_of_ble_eq_true rfl) rfl h0 (Nat.le_of_ble_eq_true rfl)) (rc_rangeX hy) rfl ⟨_, rfl, h, FrK.rfl'⟩
      ·
        obtain ⟨k, e1, e2⟩ := nI_of2 (x := y) (M := nI (16384 - l)) (n := 16384 - l) (nI_toInt (by omega)) (fun e => hy (Or.inl e)) (Classical.not_not.mp (fun e => hy (Or.inr e)))
        exact absurd ⟨⟨_, rfl, ht0⟩, hl1, k, e2, by omega⟩ hbad
    ·
      have hl0 : l = 0 := by omega
      exact RQ.callP (st' := []) rfl rfl rfl rfl rfl rfl (args_v [.int 2000, .int 1, .int (nI l)] [] rfl rfl (Nat.le_of_ble_eq_true rfl) rfl h0 (Nat.le_of_ble_eq_true rfl)) (rc_rangeX (Or.inl (by rw [hl0]; decide))) rfl ⟨_, rfl, h, FrK.rfl'⟩
set_option maxRecDepth 20000 in
theorem rx_rename_bad {sc : Nat × (Nat → Int32)} {d : Nat} {H : aH} {B P : Nat} {up cw cl : Int32} {cp cb : Nat} {tb : Nat → Int8} {l : Nat} {g : Nat → Int8} {rl : Nat} {wss : Nat → List aE} {t : aTr} {x y z : Int32} (h : ClsA H B P up cw cl cp cb tb l g rl wss t) (hl : l ≤ 2000) (hbad : ¬ ((∃ t, x = nI t ∧ t < 201) ∧ (∃ t, y = nI t ∧ t < 201) ∧ ∃ k, z = nI k ∧ k ≤ l ∧ nmOk tb 0 k ∧ nmOk tb k (l - k))) : RX sc (d + 8) mr_233 [.ref 1, .int x, .int y, .int z] H 0 (fun H' => ClsA H' B P up cw cl cp cb tb l g rl wss t ∧ FrK H H') := by
  obtain ⟨h0, h1, h2, h3, h4, ⟨q5, p6, h5, h6⟩, ⟨wq, h10, hwq⟩, hW, hCh, hT⟩ := id h
  refine RX.of ?_
  refine RQ.blk 2 (pc' := 2) (lv' := [(0, .ref 1), (1, .int x), (2, .int y), (3, .int z)]) (st' := [.int x, .ref 1]) (H' := _) (kc' := 0) (ks' := 0) rfl ?_
  rcases pk_ix x (n := 201) (by decide) with hx | hx | ⟨t0, ht0, rfl⟩
  ·
    exact RQ.callP (st' := []) rfl rfl rfl rfl rfl rfl (args_v [.int x] [] rfl rfl (Nat.le_of_ble_eq_true rfl) rfl h0 (Nat.le_of_ble_eq_true rfl)) (rc_reqNumX h0 (Or.inl hx)) rfl ⟨_, rfl, h, FrK.rfl'⟩
  ·
    exact RQ.callP (st' := []) rfl rfl rfl rfl rfl rfl (args_v [.int x] [] rfl rfl (Nat.le_of_ble_eq_true rfl) rfl h0 (Nat.le_of_ble_eq_true rfl)) (rc_reqNumX h0 (Or.inr (fun e => Int32.not_lt.mpr hx ((le_pred (n := 200) (by decide)).mp e)))) rfl ⟨_, rfl, h, FrK.rfl'⟩
  ·
    refine RQ.call (v := none) (st' := []) rfl rfl rfl rfl rfl rfl (args_v [.int (nI t0)] [] rfl rfl (Nat.le_of_ble_eq_true rfl) rfl h0 (Nat.le_of_ble_eq_true rfl)) (rc_reqNum h0 (by omega)) ?_
    refine RQ.blk 2 (pc' := 7) (lv' := [(0, .ref 1), (1, .int (nI t0)), (2, .int y), (3, .int z)]) (st' := [.int y, .ref 1]) (H' := _) (kc' := 0) (ks' := 0) rfl ?_
    rcases pk_ix y (n := 201) (by decide) with hx | hx | ⟨t1, ht1, rfl⟩
    ·
      exact RQ.callP (st' := []) rfl rfl rfl rfl rfl rfl (args_v [.int y] [] rfl rfl (Nat.le_of_ble_eq_true rfl) rfl h0 (Nat.le_of_ble_eq_true rfl)) (rc_reqNumX h0 (Or.inl hx)) rfl ⟨_, rfl, h, FrK.rfl'⟩
    ·
      exact RQ.callP (st' := []) rfl rfl rfl rfl rfl rfl (args_v [.int y] [] rfl rfl (Nat.le_of_ble_eq_true rfl) rfl h0 (Nat.le_of_ble_eq_true rfl)) (rc_reqNumX h0 (Or.inr (fun e => Int32.not_lt.mpr hx ((le_pred (n := 200) (by decide)).mp e)))) rfl ⟨_, rfl, h, FrK.rfl'⟩
    ·
      refine RQ.call (v := none) (st' := []) rfl rfl rfl rfl rfl rfl (args_v [.int (nI t1)] [] rfl rfl (Nat.le_of_ble_eq_true rfl) rfl h0 (Nat.le_of_ble_eq_true rfl)) (rc_reqNum h0 (by omega)) ?_
      refine RQ.blk 5 (pc' := 16) (lv' := [(0, .ref 1), (1, .int (nI t0)), (2, .int (nI t1)), (3, .int z)]) (st' := [.ref 1, .int 30, .int 1, .int z, .ref 1]) (H' := _) (kc' := 0) (ks' := 0) rfl ?_
      refine RQ.get (ci := 11) rfl h0 rfl rfl ?_
      refine RQ.get (ci := 5) rfl h1 rfl rfl ?_
      refine RQ.blk 1 (pc' := 25) (lv' := [(0, .ref 1), (1, .int (nI t0)), (2, .int (nI t1)), (3, .int z)]) (st' := [.int (if nI l < 30 then nI l else 30), .int 1, .int z, .ref 1]) (H' := _) (kc' := 0) (ks' := 0) rfl ?_
      rw [show (if nI l < 30 then nI l else 30 : Int32) = nI (min 30 l) from minI (a := 30) (b := l) (by omega) (by omega)]
      by_cases hz : z < 1 ∨ ¬ z ≤ nI (min 30 l)
      ·
        exact RQ.callP (st' := []) rfl rfl rfl rfl rfl rfl (args_v [.int (nI (min 30 l)), .int 1, .int z] [] rfl rfl (Nat.le_of_ble_eq_true rfl) rfl h0 (Nat.le_of_ble_eq_true rfl)) (rc_rangeX hz) rfl ⟨_, rfl, h, FrK.rfl'⟩
      ·
        obtain ⟨k, e1, e2, e3⟩ := k_of (m := min 30 l) (by omega) hz
        subst e1
        refine RQ.call (v := none) (st' := []) rfl rfl rfl rfl rfl rfl (args_v [.int (nI (min 30 l)), .int 1, .int (nI k)] [] rfl rfl (Nat.le_of_ble_eq_true rfl) rfl h0 (Nat.le_of_ble_eq_true rfl)) (rc_range (fun e => hz (Or.inl e)) (Classical.not_not.mp (fun e => hz (Or.inr e)))) ?_
        refine RQ.blk 3 (pc' := 31) (lv' := [(0, .ref 1), (1, .int (nI t0)), (2, .int (nI t1)), (3, .int (nI k))]) (st' := [.int (nI k), .int 0, .ref 1]) (H' := _) (kc' := 0) (ks' := 0) rfl ?_
        by_cases hn0 : 1 ≤ k ∧ k ≤ 30
        ·
          by_cases hn0s : ∀ j, j < k → ¬ btB tb l (0 + j) = 47
          ·
            refine RQ.call (v := none) (st' := []) rfl rfl rfl rfl rfl rfl (args_v [.int (nI k), .int 0] [] rfl rfl (Nat.le_of_ble_eq_true rfl) rfl h0 (Nat.le_of_ble_eq_true rfl)) (rc_requireName1 (i := 0) h0 ⟨h1, h2, by decide, by decide⟩ hl (by omega) hn0.1 hn0.2 hn0s) ?_
            refine RQ.blk 3 (pc' := 37) (lv' := [(0, .ref 1), (1, .int (nI t0)), (2, .int (nI t1)), (3, .int (nI k))]) (st' := [.ref 1, .int (nI k), .ref 1]) (H' := _) (kc' := 0) (ks' := 0) rfl ?_
            refine RQ.get (ci := 11) rfl h0 rfl rfl ?_
            refine RQ.get (ci := 5) rfl h1 rfl rfl ?_
            refine RQ.blk 2 (pc' := 45) (lv' := [(0, .ref 1), (1, .int (nI t0)), (2, .int (nI t1)), (3, .int (nI k))]) (st' := [.int (nI l - nI k), .int (nI k), .ref 1]) (H' := _) (kc' := 0) (ks' := 0) rfl ?_
            rw [show (nI l - nI k : Int32) = nI (l - k) from pk_sub (a := l) (b := k) (by omega)]
            by_cases hn1 : 1 ≤ (l - k) ∧ (l - k) ≤ 30
            ·
              by_cases hn1s : ∀ j, j < (l - k) → ¬ btB tb l (k + j) = 47
              ·
                refine RQ.call (v := none) (st' := []) rfl rfl rfl rfl rfl rfl (args_v [.int (nI (l - k)), .int (nI k)] [] rfl rfl (Nat.le_of_ble_eq_true rfl) rfl h0 (Nat.le_of_ble_eq_true rfl)) (rc_requireName1 (i := k) h0 ⟨h1, h2, by decide, by decide⟩ hl (by omega) hn1.1 hn1.2 hn1s) ?_
                refine RQ.blk 1 (pc' := 49) (lv' := [(0, .ref 1), (1, .int (nI t0)), (2, .int (nI t1)), (3, .int (nI k))]) (st' := [.ref 1]) (H' := _) (kc' := 0) (ks' := 0) rfl ?_
                exact absurd ⟨⟨_, rfl, ht0⟩, ⟨_, rfl, ht1⟩, k, rfl, by omega, ⟨hn0.1, hn0.2, (nosl_iff (l := l) (by omega)).mpr hn0s⟩, ⟨hn1.1, hn1.2, (nosl_iff (l := l) (by omega)).mpr hn1s⟩⟩ hbad
              ·
                exact RQ.callP (st' := []) rfl rfl rfl rfl rfl rfl (args_v [.int (nI (l - k)), .int (nI k)] [] rfl rfl (Nat.le_of_ble_eq_true rfl) rfl h0 (Nat.le_of_ble_eq_true rfl)) (rc_requireName0 (i := k) h0 ⟨h1, h2, by decide, by decide⟩ hl (by omega) hn1.1 hn1.2 hn1s) rfl ⟨_, rfl, h, FrK.rfl'⟩
            ·
              have hr : nI (l - k) < 1 ∨ ¬ nI (l - k) ≤ 30 := nI_out (by omega) hn1
              exact RQ.callP (st' := []) rfl rfl rfl rfl rfl rfl (args_v [.int (nI (l - k)), .int (nI k)] [] rfl rfl (Nat.le_of_ble_eq_true rfl) rfl h0 (Nat.le_of_ble_eq_true rfl)) (rc_requireNameR (i := k) h0 hr) rfl ⟨_, rfl, h, FrK.rfl'⟩
          ·
            exact RQ.callP (st' := []) rfl rfl rfl rfl rfl rfl (args_v [.int (nI k), .int 0] [] rfl rfl (Nat.le_of_ble_eq_true rfl) rfl h0 (Nat.le_of_ble_eq_true rfl)) (rc_requireName0 (i := 0) h0 ⟨h1, h2, by decide, by decide⟩ hl (by omega) hn0.1 hn0.2 hn0s) rfl ⟨_, rfl, h, FrK.rfl'⟩
        ·
          have hr : nI k < 1 ∨ ¬ nI k ≤ 30 := nI_out (by omega) hn0
          exact RQ.callP (st' := []) rfl rfl rfl rfl rfl rfl (args_v [.int (nI k), .int 0] [] rfl rfl (Nat.le_of_ble_eq_true rfl) rfl h0 (Nat.le_of_ble_eq_true rfl)) (rc_requireNameR (i := 0) h0 hr) rfl ⟨_, rfl, h, FrK.rfl'⟩
