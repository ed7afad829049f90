/-! ===== write out of its parts; class; written by wip/gen/chm3.py ===== -/
/-- a piece with what is written laid over it -/
def wrP (c : Nat → Int8) (vs : List aV) (f tt n : Nat) (tb : Nat → Int8) (i : Nat) : aE := ([2, f, i], some (ovrL (pcV c vs f i) ((max tt (i * 512)) - i * 512) (sl tb ((max tt (i * 512)) - tt) ((min (tt + n) (i * 512 + 512)) - (max tt (i * 512))))))
def wrA (c : Nat → Int8) (vs : List aV) (f tt n : Nat) (tb : Nat → Int8) : Nat → List aE
  | 0 => []
  | k + 1 => wrA c vs f tt n tb k ++ [wrP c vs f tt n tb (tt / 512 + k)]
theorem wrP_len {c : Nat → Int8} {vs : List aV} {f tt n i : Nat} {tb : Nat → Int8} (hl : (pcV c vs f i).length ≤ 512) (ho : tt < i * 512 + 512) : eLen (wrP c vs f tt n tb i) ≤ 515 := by
  show 3 + (ovrL (pcV c vs f i) ((max tt (i * 512)) - i * 512) (sl tb ((max tt (i * 512)) - tt) ((min (tt + n) (i * 512 + 512)) - (max tt (i * 512))))).length ≤ 515
  rw [ovrL_len, sl_length]
  omega
theorem wrA_len {c : Nat → Int8} {vs : List aV} {f tt n : Nat} {tb : Nat → Int8} (hl : ∀ i, (pcV c vs f i).length ≤ 512) : ∀ k, (wrA c vs f tt n tb k).length = k ∧ eOff (wrA c vs f tt n tb k) (wrA c vs f tt n tb k).length ≤ 515 * k
  | 0 => ⟨rfl, Nat.zero_le _⟩
  | k + 1 => by
    obtain ⟨a1, a2⟩ := wrA_len (c := c) (vs := vs) (f := f) (tt := tt) (n := n) (tb := tb) hl k
    rw [wrA]
    refine ⟨by rw [List.length_append, a1]; rfl, ?_⟩
    rw [eOff_cat, eOff_one]
    have := wrP_len (c := c) (vs := vs) (f := f) (tt := tt) (n := n) (tb := tb) (hl (tt / 512 + k)) (by omega)
    omega
set_option maxRecDepth 20000 in
theorem rx_write_down {sc : Nat × (Nat → Int32)} {d : Nat} {H : aH} {B P : Nat} {cw cl : Int32} {cp cb : Nat} {tb : Nat → Int8} {l : Nat} {g : Nat → Int8} {rl : Nat} {wss : Nat → List aE} {t : aTr} {f tt : Nat} (h : ClsA H B P 0 cw cl cp cb tb l g rl wss t) (hf : f ≤ 200) (hl1 : 1 ≤ l) (hl2 : l ≤ 2000) (htt : tt ≤ 16384 - l) : RX sc (d + 8) mr_238 [.ref 1, .int (nI f), .int (nI tt)] H 1 (fun H' => ClsA H' B P 0 cw cl cp cb tb l g rl wss t ∧ FrK H H') := by
  obtain ⟨h0, h1, h2, h3, h4, ⟨q5, p6, h5, h6⟩, ⟨wq, h10, hwq⟩, hW, hCh, hT⟩ := id h
  refine RX.of ?_
  refine RQ.blk 2 (pc' := 2) (lv' := [(0, .ref 1), (1, .int (nI f)), (2, .int (nI tt))]) (st' := [.int (nI f), .ref 1]) (H' := _) (kc' := 0) (ks' := 0) rfl ?_
  refine RQ.call (v := none) (st' := []) rfl rfl rfl rfl rfl rfl (args_v [.int (nI f)] [] rfl rfl (Nat.le_of_ble_eq_true rfl) rfl h0 (Nat.le_of_ble_eq_true rfl)) (rc_reqNum h0 hf) ?_
  refine RQ.blk 2 (pc' := 7) (lv' := [(0, .ref 1), (1, .int (nI f)), (2, .int (nI tt))]) (st' := [.ref 1, .ref 1]) (H' := _) (kc' := 0) (ks' := 0) rfl ?_
  refine RQ.get (ci := 11) rfl h0 rfl rfl ?_
  refine RQ.get (ci := 5) rfl h1 rfl rfl ?_
  refine RQ.blk 2 (pc' := 17) (lv' := [(0, .ref 1), (1, .int (nI f)), (2, .int (nI tt))]) (st' := [.int 2000, .int 1, .int (nI l), .ref 1]) (H' := _) (kc' := 0) (ks' := 0) rfl ?_
  refine RQ.call (v := none) (st' := []) rfl rfl rfl rfl rfl rfl (args_v [.int 2000, .int 1, .int (nI l)] [] rfl rfl (Nat.le_of_ble_eq_true rfl) rfl h0 (Nat.le_of_ble_eq_true rfl)) (rc_range (fun e => absurd e (nI_nlt hl1 (by omega))) (rg_hi (n := 2000) hl2 (by decide))) ?_
  refine RQ.blk 5 (pc' := 27) (lv' := [(0, .ref 1), (1, .int (nI f)), (2, .int (nI tt))]) (st' := [.ref 1, .int 16384, .int 0, .int (nI tt), .ref 1]) (H' := _) (kc' := 0) (ks' := 0) rfl ?_
  refine RQ.get (ci := 11) rfl h0 rfl rfl ?_
  refine RQ.get (ci := 5) rfl h1 rfl rfl ?_
  refine RQ.blk 1 (pc' := 34) (lv' := [(0, .ref 1), (1, .int (nI f)), (2, .int (nI tt))]) (st' := [.int (16384 - nI l), .int 0, .int (nI tt), .ref 1]) (H' := _) (kc' := 0) (ks' := 0) rfl ?_
  rw [show (16384 - nI l : Int32) = nI (16384 - l) from pk_sub (a := 16384) (b := l) (by omega)]
  refine RQ.call (v := none) (st' := []) rfl rfl rfl rfl rfl rfl (args_v [.int (nI (16384 - l)), .int 0, .int (nI tt)] [] rfl rfl (Nat.le_of_ble_eq_true rfl) rfl h0 (Nat.le_of_ble_eq_true rfl)) (rc_range (nI_nlt (Nat.zero_le tt) (by omega)) (rg_hi (n := 16384 - l) htt (by omega))) ?_
  refine RQ.blk 1 (pc' := 38) (lv' := [(0, .ref 1), (1, .int (nI f)), (2, .int (nI tt))]) (st' := [.ref 1]) (H' := _) (kc' := 0) (ks' := 0) rfl ?_
  exact RQ.callP (st' := []) rfl rfl rfl rfl rfl rfl (args_v [] [] rfl rfl (Nat.le_of_ble_eq_true rfl) rfl h0 (Nat.le_of_ble_eq_true rfl)) (rc_down h0 rfl) rfl ⟨_, rfl, h, FrK.rfl'⟩
set_option maxRecDepth 20000 in
theorem rx_write_no {sc : Nat × (Nat → Int32)} {d : Nat} {H : aH} {B P : Nat} {cw cl : Int32} {cp cb : Nat} {tb : Nat → Int8} {l : Nat} {g : Nat → Int8} {rl : Nat} {wss : Nat → List aE} {t : aTr} {f tt : Nat} (h : ClsA H B P 1 cw cl cp cb tb l g rl wss t) (hk : TreeOk t.1 t.2.1 t.2.2.1 t.2.2.2.1) (hf : f ≤ 200) (hl1 : 1 ≤ l) (hl2 : l ≤ 2000) (htt : tt ≤ 16384 - l) (hkd : ¬ t.1 f = 1) : RX sc (d + 8) mr_238 [.ref 1, .int (nI f), .int (nI tt)] H 3 (fun H' => ClsA H' B P 1 cw cl cp cb tb 0 g rl wss t ∧ FrK H H') := by
  obtain ⟨h0, h1, h2, h3, h4, ⟨q5, p6, h5, h6⟩, ⟨wq, h10, hwq⟩, hW, hCh, hT⟩ := id h
  refine RX.of ?_
  refine RQ.blk 2 (pc' := 2) (lv' := [(0, .ref 1), (1, .int (nI f)), (2, .int (nI tt))]) (st' := [.int (nI f), .ref 1]) (H' := _) (kc' := 0) (ks' := 0) rfl ?_
  refine RQ.call (v := none) (st' := []) rfl rfl rfl rfl rfl rfl (args_v [.int (nI f)] [] rfl rfl (Nat.le_of_ble_eq_true rfl) rfl h0 (Nat.le_of_ble_eq_true rfl)) (rc_reqNum h0 hf) ?_
  refine RQ.blk 2 (pc' := 7) (lv' := [(0, .ref 1), (1, .int (nI f)), (2, .int (nI tt))]) (st' := [.ref 1, .ref 1]) (H' := _) (kc' := 0) (ks' := 0) rfl ?_
  refine RQ.get (ci := 11) rfl h0 rfl rfl ?_
  refine RQ.get (ci := 5) rfl h1 rfl rfl ?_
  refine RQ.blk 2 (pc' := 17) (lv' := [(0, .ref 1), (1, .int (nI f)), (2, .int (nI tt))]) (st' := [.int 2000, .int 1, .int (nI l), .ref 1]) (H' := _) (kc' := 0) (ks' := 0) rfl ?_
  refine RQ.call (v := none) (st' := []) rfl rfl rfl rfl rfl rfl (args_v [.int 2000, .int 1, .int (nI l)] [] rfl rfl (Nat.le_of_ble_eq_true rfl) rfl h0 (Nat.le_of_ble_eq_true rfl)) (rc_range (fun e => absurd e (nI_nlt hl1 (by omega))) (rg_hi (n := 2000) hl2 (by decide))) ?_
  refine RQ.blk 5 (pc' := 27) (lv' := [(0, .ref 1), (1, .int (nI f)), (2, .int (nI tt))]) (st' := [.ref 1, .int 16384, .int 0, .int (nI tt), .ref 1]) (H' := _) (kc' := 0) (ks' := 0) rfl ?_
  refine RQ.get (ci := 11) rfl h0 rfl rfl ?_
  refine RQ.get (ci := 5) rfl h1 rfl rfl ?_
  refine RQ.blk 1 (pc' := 34) (lv' := [(0, .ref 1), (1, .int (nI f)), (2, .int (nI tt))]) (st' := [.int (16384 - nI l), .int 0, .int (nI tt), .ref 1]) (H' := _) (kc' := 0) (ks' := 0) rfl ?_
  rw [show (16384 - nI l : Int32) = nI (16384 - l) from pk_sub (a := 16384) (b := l) (by omega)]
  refine RQ.call (v := none) (st' := []) rfl rfl rfl rfl rfl rfl (args_v [.int (nI (16384 - l)), .int 0, .int (nI tt)] [] rfl rfl (Nat.le_of_ble_eq_true rfl) rfl h0 (Nat.le_of_ble_eq_true rfl)) (rc_range (nI_nlt (Nat.zero_le tt) (by omega)) (rg_hi (n := 16384 - l) htt (by omega))) ?_
  refine RQ.blk 1 (pc' := 38) (lv' := [(0, .ref 1), (1, .int (nI f)), (2, .int (nI tt))]) (st' := [.ref 1]) (H' := _) (kc' := 0) (ks' := 0) rfl ?_
  refine RQ.call (v := none) (st' := []) rfl rfl rfl rfl rfl rfl (args_v [] [] rfl rfl (Nat.le_of_ble_eq_true rfl) rfl h0 (Nat.le_of_ble_eq_true rfl)) (rc_up h0 rfl) ?_
  refine RQ.blk 1 (pc' := 42) (lv' := [(0, .ref 1), (1, .int (nI f)), (2, .int (nI tt))]) (st' := [.ref 1]) (H' := _) (kc' := 0) (ks' := 0) rfl ?_
  refine RQ.call (v := some (.int (nI l))) (st' := []) rfl rfl rfl rfl rfl rfl (args_v [] [] rfl rfl (Nat.le_of_ble_eq_true rfl) rfl h0 (Nat.le_of_ble_eq_true rfl)) (rc_takeTape h0 h1) ?_
  have far1 : ∀ a, a ≠ 1 → (H.set 1 (kO 5 [.ref 3, .int (nI 0)]))[a]? = H[a]? := fun a ha => set_far ha
  have h11 : (H.set 1 (kO 5 [.ref 3, .int (nI 0)]))[1]? = some (kO 5 [.ref 3, .int (nI 0)]) := get_set h1
  refine RQ.blk 1 (pc' := 46) (lv' := [(3, .int (nI l)), (0, .ref 1), (1, .int (nI f)), (2, .int (nI tt))]) (st' := []) (H' := _) (kc' := 0) (ks' := 0) rfl ?_
  show RQ _ _ _ 46 [(3, .int (nI l)), (0, .ref 1), (1, .int (nI f)), (2, .int (nI tt))] [] (H.set 1 (kO 5 [.ref 3, .int (nI 0)])) 0 0 _
  generalize (H.set 1 (kO 5 [.ref 3, .int (nI 0)])) = H1 at far1 h11 ⊢
  have h01 := (far1 0 (by decide)).trans h0
  have h21 := (far1 2 (by decide)).trans h2
  have hT1 : TreeAt H1 t.1 t.2.1 t.2.2.1 t.2.2.2.1 t.2.2.2.2.1 t.2.2.2.2.2 := hT.far (fun a a1 a2 => far1 a (by omega))
  have hc1 : ClsA H1 B P 1 cw cl cp cb tb 0 g rl wss t := h.small h01 h11 h21 ((far1 3 (by decide)).trans h3) ((far1 4 (by decide)).trans h4) ⟨q5, p6, (far1 5 (by decide)).trans h5, (far1 6 (by decide)).trans h6⟩ (fun a a1 a2 => far1 a (by omega))
  have fk1 : FrK H H1 := fun a ha => far1 a (by omega)
  refine RQ.blk 2 (pc' := 48) (lv' := [(3, .int (nI l)), (0, .ref 1), (1, .int (nI f)), (2, .int (nI tt))]) (st' := [.int (nI f), .ref 1]) (H' := _) (kc' := 0) (ks' := 0) rfl ?_
  exact RQ.callP (st' := []) rfl rfl rfl rfl rfl rfl (args_v [.int (nI f)] [] rfl rfl (Nat.le_of_ble_eq_true rfl) rfl h01 (Nat.le_of_ble_eq_true rfl)) (rc_requireFile0 h01 hT1 hk hf hkd) rfl ⟨_, rfl, hc1, fk1⟩
set_option maxRecDepth 20000 in
theorem rx_write0_full {sc : Nat × (Nat → Int32)} {d : Nat} {H : aH} {B P : Nat} {cw cl : Int32} {cp cb : Nat} {tb : Nat → Int8} {l : Nat} {g : Nat → Int8} {rl : Nat} {wss : Nat → List aE} {t : aTr} {f tt : Nat} {ws : List aE} {op : Nat → Bool} {sm : Nat → Nat} {N : Nat} {kf : Nat → Int8} {kl mo pl : Nat → Nat} {le : Nat → Option Nat} {al : Nat → Bool} {od sp : Nat → Nat} {sz ss ac : Nat} {vs : List aV} {cf : Nat → Int8} {tf : Nat → Nat} {pq : Option Nat} {bb ov lc fr ff : Nat} {wr : Bool} {tp rc ms mt sq tu tn nb : Nat} {us : Nat → Bool} {lg : Nat → Nat} {mp hv : Nat} (h : ClsA H B P 1 cw cl cp cb tb l g rl wss t) (hk : TreeOk t.1 t.2.1 t.2.2.1 t.2.2.2.1) (hf : f ≤ 200) (hl1 : 1 ≤ l) (hl2 : l ≤ 2000) (htt : tt ≤ 16384 - l) (hkd : t.1 f = 1) (hgr : ¬ t.2.2.1 f < tt + l) (hws : (wrA cf vs f tt l tb ((tt + l + 511) / 512 - tt / 512)) = ws) (h1W : OneW ws) (hkl : ∀ e ∈ ws, 1 ≤ e.1.length) (hA : VersAt H N kf kl mo pl le al od sp sz ss ac) (hVW : VersWf N kf kl mo pl le al od sp sz ss ac) (hvs : vs = vsL kf kl mo pl le al od sz) (hC : ChipAt H B cf tf pq bb ov) (hY : LayAt H (layF B lc fr ff wr tp rc ms mt sq tu tn nb) B us lg) (hB : B ≤ 128) (hlc : lc ≤ B) (hlg : ∀ j, j < lc → lg j < 2 ^ 30) (hG : H[190]? = some (kO 4 (logF mp hv))) (hRec : RecsOk cf B lg lc vs) (hpl : ∀ i, (∀ v : aV, seenV vs [2, f, i] (2 ^ 30) = some v → ∀ n, v.2.2.2.1 = some n → n ≤ 512) ∧ (pcV cf vs f i).length ≤ 512) (hs : SightAt H op sm) (hsm : ∀ t, t < 8 → sm t < 2 ^ 30) (hV : VersIs H N vs) (hpr : ∀ v ∈ vs, v.2.1 ≤ P) (hP : P + 1 < 2 ^ 30) (hle : B * 256 < sumN op sm (-1) (P + 1) (kmV (inclV (P + 1) (fun _ => 0) 0 ws vs)) (inclV (P + 1) (fun _ => 0) 0 ws vs)) (hl31 : sumN op sm (-1) (P + 1) (kmV (inclV (P + 1) (fun _ => 0) 0 ws vs)) (inclV (P + 1) (fun _ => 0) 0 ws vs) < 2 ^ 31) : RX sc (d + 8) mr_238 [.ref 1, .int (nI f), .int (nI tt)] H 2 (fun H' => ClsA H' B P 1 cw cl cp cb tb 0 g rl wss t ∧ FrK H H') := by
  obtain ⟨h0, h1, h2, h3, h4, ⟨q5, p6, h5, h6⟩, ⟨wq, h10, hwq⟩, hW, hCh, hT⟩ := id h
  refine RX.of ?_
  refine RQ.blk 2 (pc' := 2) (lv' := [(0, .ref 1), (1, .int (nI f)), (2, .int (nI tt))]) (st' := [.int (nI f), .ref 1]) (H' := _) (kc' := 0) (ks' := 0) rfl ?_
  refine RQ.call (v := none) (st' := []) rfl rfl rfl rfl rfl rfl (args_v [.int (nI f)] [] rfl rfl (Nat.le_of_ble_eq_true rfl) rfl h0 (Nat.le_of_ble_eq_true rfl)) (rc_reqNum h0 hf) ?_
  refine RQ.blk 2 (pc' := 7) (lv' := [(0, .ref 1), (1, .int (nI f)), (2, .int (nI tt))]) (st' := [.ref 1, .ref 1]) (H' := _) (kc' := 0) (ks' := 0) rfl ?_
  refine RQ.get (ci := 11) rfl h0 rfl rfl ?_
  refine RQ.get (ci := 5) rfl h1 rfl rfl ?_
  refine RQ.blk 2 (pc' := 17) (lv' := [(0, .ref 1), (1, .int (nI f)), (2, .int (nI tt))]) (st' := [.int 2000, .int 1, .int (nI l), .ref 1]) (H' := _) (kc' := 0) (ks' := 0) rfl ?_
  refine RQ.call (v := none) (st' := []) rfl rfl rfl rfl rfl rfl (args_v [.int 2000, .int 1, .int (nI l)] [] rfl rfl (Nat.le_of_ble_eq_true rfl) rfl h0 (Nat.le_of_ble_eq_true rfl)) (rc_range (fun e => absurd e (nI_nlt hl1 (by omega))) (rg_hi (n := 2000) hl2 (by decide))) ?_
  refine RQ.blk 5 (pc' := 27) (lv' := [(0, .ref 1), (1, .int (nI f)), (2, .int (nI tt))]) (st' := [.ref 1, .int 16384, .int 0, .int (nI tt), .ref 1]) (H' := _) (kc' := 0) (ks' := 0) rfl ?_
  refine RQ.get (ci := 11) rfl h0 rfl rfl ?_
  refine RQ.get (ci := 5) rfl h1 rfl rfl ?_
  refine RQ.blk 1 (pc' := 34) (lv' := [(0, .ref 1), (1, .int (nI f)), (2, .int (nI tt))]) (st' := [.int (16384 - nI l), .int 0, .int (nI tt), .ref 1]) (H' := _) (kc' := 0) (ks' := 0) rfl ?_
  rw [show (16384 - nI l : Int32) = nI (16384 - l) from pk_sub (a := 16384) (b := l) (by omega)]
  refine RQ.call (v := none) (st' := []) rfl rfl rfl rfl rfl rfl (args_v [.int (nI (16384 - l)), .int 0, .int (nI tt)] [] rfl rfl (Nat.le_of_ble_eq_true rfl) rfl h0 (Nat.le_of_ble_eq_true rfl)) (rc_range (nI_nlt (Nat.zero_le tt) (by omega)) (rg_hi (n := 16384 - l) htt (by omega))) ?_
  refine RQ.blk 1 (pc' := 38) (lv' := [(0, .ref 1), (1, .int (nI f)), (2, .int (nI tt))]) (st' := [.ref 1]) (H' := _) (kc' := 0) (ks' := 0) rfl ?_
  refine RQ.call (v := none) (st' := []) rfl rfl rfl rfl rfl rfl (args_v [] [] rfl rfl (Nat.le_of_ble_eq_true rfl) rfl h0 (Nat.le_of_ble_eq_true rfl)) (rc_up h0 rfl) ?_
  refine RQ.blk 1 (pc' := 42) (lv' := [(0, .ref 1), (1, .int (nI f)), (2, .int (nI tt))]) (st' := [.ref 1]) (H' := _) (kc' := 0) (ks' := 0) rfl ?_
  refine RQ.call (v := some (.int (nI l))) (st' := []) rfl rfl rfl rfl rfl rfl (args_v [] [] rfl rfl (Nat.le_of_ble_eq_true rfl) rfl h0 (Nat.le_of_ble_eq_true rfl)) (rc_takeTape h0 h1) ?_
  have far1 : ∀ a, a ≠ 1 → (H.set 1 (kO 5 [.ref 3, .int (nI 0)]))[a]? = H[a]? := fun a ha => set_far ha
  have h11 : (H.set 1 (kO 5 [.ref 3, .int (nI 0)]))[1]? = some (kO 5 [.ref 3, .int (nI 0)]) := get_set h1
  refine RQ.blk 1 (pc' := 46) (lv' := [(3, .int (nI l)), (0, .ref 1), (1, .int (nI f)), (2, .int (nI tt))]) (st' := []) (H' := _) (kc' := 0) (ks' := 0) rfl ?_
  show RQ _ _ _ 46 [(3, .int (nI l)), (0, .ref 1), (1, .int (nI f)), (2, .int (nI tt))] [] (H.set 1 (kO 5 [.ref 3, .int (nI 0)])) 0 0 _
  generalize (H.set 1 (kO 5 [.ref 3, .int (nI 0)])) = H1 at far1 h11 ⊢
  have h01 := (far1 0 (by decide)).trans h0
  have h21 := (far1 2 (by decide)).trans h2
  have hT1 : TreeAt H1 t.1 t.2.1 t.2.2.1 t.2.2.2.1 t.2.2.2.2.1 t.2.2.2.2.2 := hT.far (fun a a1 a2 => far1 a (by omega))
  have hc1 : ClsA H1 B P 1 cw cl cp cb tb 0 g rl wss t := h.small h01 h11 h21 ((far1 3 (by decide)).trans h3) ((far1 4 (by decide)).trans h4) ⟨q5, p6, (far1 5 (by decide)).trans h5, (far1 6 (by decide)).trans h6⟩ (fun a a1 a2 => far1 a (by omega))
  have fk1 : FrK H H1 := fun a ha => far1 a (by omega)
  refine RQ.blk 2 (pc' := 48) (lv' := [(3, .int (nI l)), (0, .ref 1), (1, .int (nI f)), (2, .int (nI tt))]) (st' := [.int (nI f), .ref 1]) (H' := _) (kc' := 0) (ks' := 0) rfl ?_
  refine RQ.call (v := none) (st' := []) rfl rfl rfl rfl rfl rfl (args_v [.int (nI f)] [] rfl rfl (Nat.le_of_ble_eq_true rfl) rfl h01 (Nat.le_of_ble_eq_true rfl)) (rc_requireFile1 h01 hT1 hk hf hkd) ?_
  refine RQ.blk 1 (pc' := 52) (lv' := [(3, .int (nI l)), (0, .ref 1), (1, .int (nI f)), (2, .int (nI tt))]) (st' := [.ref 1]) (H' := _) (kc' := 0) (ks' := 0) rfl ?_
  refine RQ.get (ci := 11) rfl h01 rfl rfl ?_
  refine RQ.blk 1 (pc' := 56) (lv' := [(3, .int (nI l)), (0, .ref 1), (1, .int (nI f)), (2, .int (nI tt))]) (st' := [.int (nI f), .ref 66]) (H' := _) (kc' := 0) (ks' := 0) rfl ?_
  refine RQ.call (v := some (.int (nI (t.2.2.1 f)))) (st' := []) rfl rfl rfl rfl rfl rfl (args_v [.int (nI f)] [] rfl rfl (Nat.le_of_ble_eq_true rfl) rfl hT1.1 (Nat.le_of_ble_eq_true rfl)) (rc_sizeOf hT1 hk hf) ?_
  have hkf := hk f hf
  refine RQ.blk 3 (pc' := 62) (lv' := [(3, .int (nI l)), (0, .ref 1), (1, .int (nI f)), (2, .int (nI tt))]) (st' := [.int (nI tt + nI l), .int (nI (t.2.2.1 f))]) (H' := _) (kc' := 0) (ks' := 0) rfl ?_
  rw [show (nI tt + nI l : Int32) = nI (tt + l) from nI_add tt l]
  refine RQ.blk 1 (pc' := 65) (lv' := [(3, .int (nI l)), (0, .ref 1), (1, .int (nI f)), (2, .int (nI tt))]) (st' := [.int (if nI (t.2.2.1 f) < nI (tt + l) then nI (tt + l) else nI (t.2.2.1 f))]) (H' := _) (kc' := 0) (ks' := 0) rfl ?_
  rw [show (if nI (t.2.2.1 f) < nI (tt + l) then nI (tt + l) else nI (t.2.2.1 f) : Int32) = nI (max (t.2.2.1 f) (tt + l)) from maxI (a := (t.2.2.1 f)) (b := (tt + l)) (by omega) (by omega)]
  refine RQ.blk 1 (pc' := 67) (lv' := [(4, .int (nI (max (t.2.2.1 f) (tt + l)))), (3, .int (nI l)), (0, .ref 1), (1, .int (nI f)), (2, .int (nI tt))]) (st' := []) (H' := _) (kc' := 0) (ks' := 0) rfl ?_
  obtain ⟨⟨ws0, hb0⟩, Q0, hq0⟩ := hc1.2.2.2.2.2.2.2.2.1
  obtain ⟨D0, S0, K0, E0, hb0A, -⟩ := id hb0
  refine RQ.blk 1 (pc' := 68) (lv' := [(4, .int (nI (max (t.2.2.1 f) (tt + l)))), (3, .int (nI l)), (0, .ref 1), (1, .int (nI f)), (2, .int (nI tt))]) (st' := [.ref 1]) (H' := _) (kc' := 0) (ks' := 0) rfl ?_
  refine RQ.get (ci := 11) rfl h01 rfl rfl ?_
  refine RQ.callN (st' := []) rfl rfl rfl rfl rfl rfl (args_v [] [] rfl rfl (Nat.le_of_ble_eq_true rfl) rfl hb0A.1 (Nat.le_of_ble_eq_true rfl)) (rn_bclearI hb0) (fun H2 hx2 => ?_)
  obtain ⟨hb2, f2⟩ := hx2
  have h02 := (f2 0 (by decide)).trans h01
  have h12 := (f2 1 (by decide)).trans h11
  have h22 := (f2 2 (by decide)).trans h21
  have hT2 : TreeAt H2 t.1 t.2.1 t.2.2.1 t.2.2.2.1 t.2.2.2.2.1 t.2.2.2.2.2 := hT1.far (fun a a1 a2 => f2 a (by omega))
  have hq2 := (f2 64 (by decide)).trans hq0
  have e52 : ∃ q : Nat, H2[5]? = some (kO 5 [.ref 7, .int (nI q)]) := ⟨q5, (f2 5 (by decide)).trans ((far1 5 (by decide)).trans h5)⟩
  have e62 : ∃ g, H2[6]? = some (kB 41 g) := ⟨p6, (f2 6 (by decide)).trans ((far1 6 (by decide)).trans h6)⟩
  refine RQ.blk 3 (pc' := 79) (lv' := [(4, .int (nI (max (t.2.2.1 f) (tt + l)))), (3, .int (nI l)), (0, .ref 1), (1, .int (nI f)), (2, .int (nI tt))]) (st' := [.int (nI tt / 512)]) (H' := _) (kc' := 0) (ks' := 0) rfl ?_
  rw [show (nI tt / 512 : Int32) = nI (tt / 512) from pk_div (a := tt) (d := 512) (by omega) (by omega) (by omega)]
  refine RQ.blk 1 (pc' := 81) (lv' := [(5, .int (nI (tt / 512))), (4, .int (nI (max (t.2.2.1 f) (tt + l)))), (3, .int (nI l)), (0, .ref 1), (1, .int (nI f)), (2, .int (nI tt))]) (st' := []) (H' := _) (kc' := 0) (ks' := 0) rfl ?_
  refine RQ.pick (a := [(5, .int (nI (tt / 512))), (4, .int (nI (max (t.2.2.1 f) (tt + l)))), (3, .int (nI l)), (0, .ref 1), (1, .int (nI f)), (2, .int (nI tt))]) [0, 1, 2, 3, 4, 5] [5, 4, 3, 0, 1, 2] rfl rfl (by decide) ?_
  refine RQ.while (S := Nat) (pc := 81) (fun k H' => k ≤ ((tt + l + 511) / 512 - tt / 512) ∧ BatchIs H' 59 (wrA cf vs f tt l tb k) ∧ (∃ q : Nat, H'[5]? = some (kO 5 [.ref 7, .int (nI q)])) ∧ (∃ g, H'[6]? = some (kB 41 g)) ∧ ∀ a, a ≠ 5 → a ≠ 6 → ¬ (59 ≤ a ∧ a < 64) → H'[a]? = H2[a]?) (fun k => [(5, .int (nI (tt / 512 + k))), (4, .int (nI (max (t.2.2.1 f) (tt + l)))), (3, .int (nI l)), (0, .ref 1), (1, .int (nI f)), (2, .int (nI tt))]) (fun k => ((tt + l + 511) / 512 - tt / 512) - k) ?_ 0 H2 ⟨Nat.zero_le _, hb2, e52, e62, fun _ _ _ _ => rfl⟩
  rintro k H4 ⟨hk1, hb4, e54, e64, f4⟩ ih
  have hal := wrA_len (c := cf) (vs := vs) (f := f) (tt := tt) (n := l) (tb := tb) (fun i => (hpl i).2) k
  have hcn : ((tt + l + 511) / 512 - tt / 512) ≤ 5 := by omega
  by_cases hki : k < ((tt + l + 511) / 512 - tt / 512)
  ·
    have h04 := (f4 0 (by decide) (by decide) (by decide)).trans h02
    refine RQ.blk 2 (pc' := 85) (lv' := [(5, .int (nI (tt / 512 + k))), (4, .int (nI (max (t.2.2.1 f) (tt + l)))), (3, .int (nI l)), (0, .ref 1), (1, .int (nI f)), (2, .int (nI tt))]) (st' := [.int 32, .int (nI (tt / 512 + k))]) (H' := _) (kc' := 0) (ks' := 0) rfl ?_
    refine RQ.brF rfl rfl rfl (cF_ge (tt / 512 + k) 32) ?_
    refine RQ.blk 3 (pc' := 94) (lv' := [(5, .int (nI (tt / 512 + k))), (4, .int (nI (max (t.2.2.1 f) (tt + l)))), (3, .int (nI l)), (0, .ref 1), (1, .int (nI f)), (2, .int (nI tt))]) (st' := [.int (nI (tt / 512 + k) * 512)]) (H' := _) (kc' := 0) (ks' := 0) rfl ?_
    rw [show (nI (tt / 512 + k) * 512 : Int32) = nI ((tt / 512 + k) * 512) from pk_mul (tt / 512 + k) 512]
    refine RQ.blk 3 (pc' := 97) (lv' := [(5, .int (nI (tt / 512 + k))), (4, .int (nI (max (t.2.2.1 f) (tt + l)))), (3, .int (nI l)), (0, .ref 1), (1, .int (nI f)), (2, .int (nI tt))]) (st' := [.int (nI tt + nI l), .int (nI ((tt / 512 + k) * 512))]) (H' := _) (kc' := 0) (ks' := 0) rfl ?_
    rw [show (nI tt + nI l : Int32) = nI (tt + l) from nI_add tt l]
    refine RQ.brF rfl rfl rfl (cF_ge ((tt / 512 + k) * 512) (tt + l)) ?_
    refine RQ.blk 5 (pc' := 106) (lv' := [(5, .int (nI (tt / 512 + k))), (4, .int (nI (max (t.2.2.1 f) (tt + l)))), (3, .int (nI l)), (0, .ref 1), (1, .int (nI f)), (2, .int (nI tt))]) (st' := [.int (nI l), .int (nI tt), .int (nI (tt / 512 + k)), .int (nI f), .ref 1]) (H' := _) (kc' := 0) (ks' := 0) rfl ?_
    refine RQ.callN (st' := []) rfl rfl rfl rfl rfl rfl (args_v [.int (nI l), .int (nI tt), .int (nI (tt / 512 + k)), .int (nI f)] [] rfl rfl (Nat.le_of_ble_eq_true rfl) rfl h04 (Nat.le_of_ble_eq_true rfl)) (rn_chPiece (f := f) (i := tt / 512 + k) (tt := tt) (n := l) h04 e54 e64 hb4 ((f4 1 (by decide) (by decide) (by decide)).trans h12) ((f4 2 (by decide) (by decide) (by decide)).trans h22) (hA.far (fun a a1 a2 => (f4 a (by omega) (by omega) (by omega)).trans ((f2 a (by omega)).trans (far1 a (by omega))))) hVW hvs (hC.far (fun a a1 a2 => (f4 a (by omega) (by omega) (by omega)).trans ((f2 a (by omega)).trans (far1 a (by omega))))) ⟨((f4 83 (by decide) (by decide) (by decide)).trans ((f2 83 (by decide)).trans (far1 83 (by decide)))).trans hY.1, ((f4 86 (by decide) (by decide) (by decide)).trans ((f2 86 (by decide)).trans (far1 86 (by decide)))).trans hY.2.1, ((f4 87 (by decide) (by decide) (by decide)).trans ((f2 87 (by decide)).trans (far1 87 (by decide)))).trans hY.2.2⟩ hB hlc hlg (((f4 190 (by decide) (by decide) (by decide)).trans ((f2 190 (by decide)).trans (far1 190 (by decide)))).trans hG) hRec (hpl _).1 (by omega) (by omega) (by omega) hl2 (by omega) (by omega) hl1 (by omega) (by omega)) (fun H5 hx5 => ?_)
    obtain ⟨z1, z2, z3, z4⟩ := hx5
    refine RQ.blk 1 (pc' := 112) (lv' := [(5, .int (nI (tt / 512 + k) + 1)), (4, .int (nI (max (t.2.2.1 f) (tt + l)))), (3, .int (nI l)), (0, .ref 1), (1, .int (nI f)), (2, .int (nI tt))]) (st' := []) (H' := _) (kc' := 0) (ks' := 0) rfl ?_
    rw [show (nI (tt / 512 + k) + 1 : Int32) = nI (tt / 512 + k + 1) from nI_add (tt / 512 + k) 1]
    refine RQ.blk 1 (pc' := 81) (lv' := [(5, .int (nI (tt / 512 + k + 1))), (4, .int (nI (max (t.2.2.1 f) (tt + l)))), (3, .int (nI l)), (0, .ref 1), (1, .int (nI f)), (2, .int (nI tt))]) (st' := []) (H' := _) (kc' := 0) (ks' := 0) rfl ?_
    refine RQ.pick (a := [(5, .int (nI (tt / 512 + k + 1))), (4, .int (nI (max (t.2.2.1 f) (tt + l)))), (3, .int (nI l)), (0, .ref 1), (1, .int (nI f)), (2, .int (nI tt))]) [0, 1, 2, 3, 4, 5] [5, 4, 3, 0, 1, 2] rfl rfl (by decide) ?_
    rw [show tt / 512 + k + 1 = tt / 512 + (k + 1) by omega]
    exact ih (k + 1) _ ⟨by omega, z1, z2, z3, fun a a1 a2 a3 => (z4 a a1 a2 a3).trans (f4 a a1 a2 a3)⟩ (by omega)
  ·
    have h04 := (f4 0 (by decide) (by decide) (by decide)).trans h02
    have hke : k = ((tt + l + 511) / 512 - tt / 512) := by omega
    rw [hke] at hb4 hal
    have hT4 : TreeAt H4 t.1 t.2.1 t.2.2.1 t.2.2.2.1 t.2.2.2.2.1 t.2.2.2.2.2 := hT2.far (fun a a1 a2 => f4 a (by omega) (by omega) (by omega))
    have hout : 32 ≤ tt / 512 + k ∨ tt + l ≤ (tt / 512 + k) * 512 := by omega
    refine RQ.blk 2 (pc' := 85) (lv' := [(5, .int (nI (tt / 512 + k))), (4, .int (nI (max (t.2.2.1 f) (tt + l)))), (3, .int (nI l)), (0, .ref 1), (1, .int (nI f)), (2, .int (nI tt))]) (st' := [.int 32, .int (nI (tt / 512 + k))]) (H' := _) (kc' := 0) (ks' := 0) rfl ?_
    by_cases k32 : 32 ≤ tt / 512 + k
    · refine RQ.brT rfl rfl rfl (cT_ge (tt / 512 + k) 32) ?_
      refine RQ.blk 2 (pc' := 118) (lv' := [(5, .int (nI (tt / 512 + k))), (4, .int (nI (max (t.2.2.1 f) (tt + l)))), (3, .int (nI l)), (0, .ref 1), (1, .int (nI f)), (2, .int (nI tt))]) (st' := [.ref 1, .int (nI (max (t.2.2.1 f) (tt + l)))]) (H' := _) (kc' := 0) (ks' := 0) rfl ?_
      refine RQ.get (ci := 11) rfl h04 rfl rfl ?_
      refine RQ.blk 1 (pc' := 122) (lv' := [(5, .int (nI (tt / 512 + k))), (4, .int (nI (max (t.2.2.1 f) (tt + l)))), (3, .int (nI l)), (0, .ref 1), (1, .int (nI f)), (2, .int (nI tt))]) (st' := [.int (nI f), .ref 66, .int (nI (max (t.2.2.1 f) (tt + l)))]) (H' := _) (kc' := 0) (ks' := 0) rfl ?_
      refine RQ.call (v := some (.int (nI (t.2.2.1 f)))) (st' := [.int (nI (max (t.2.2.1 f) (tt + l)))]) rfl rfl rfl rfl rfl rfl (args_v [.int (nI f)] [.int (nI (max (t.2.2.1 f) (tt + l)))] rfl rfl (Nat.le_of_ble_eq_true rfl) rfl hT4.1 (Nat.le_of_ble_eq_true rfl)) (rc_sizeOf hT4 hk hf) ?_
      refine RQ.brT rfl rfl rfl (cT_eq (max (t.2.2.1 f) (tt + l)) (t.2.2.1 f)) ?_
      rw [hws] at hb4
      show RQ _ _ _ 135 [(5, .int (nI (tt / 512 + k))), (4, .int (nI (max (t.2.2.1 f) (tt + l)))), (3, .int (nI l)), (0, .ref 1), (1, .int (nI f)), (2, .int (nI tt))] [] H4 0 0 _
      obtain ⟨H3, eH3⟩ : ∃ H3, H3 = H4 := ⟨_, rfl⟩
      rw [← eH3] at hb4 e54 e64 f4 ⊢
      have hb3 := hb4
      have e53 := e54
      have e63 := e64
      have f3 := f4
      have f13 : ∀ a, a ≠ 5 → a ≠ 6 → ¬ (59 ≤ a ∧ a < 64) → H3[a]? = H1[a]? := fun a a1 a2 a3 => (f3 a a1 a2 a3).trans (f2 a (by omega))
      have hc3 : ClsA H3 B P 1 cw cl cp cb tb 0 g rl wss t := by
        obtain ⟨qa, ea⟩ := e53
        obtain ⟨pa, eb⟩ := e63
        obtain ⟨c0, c1, c2, c3, c4, -, ⟨wq2, c10, cwq⟩, cW, -, cT⟩ := hc1
        exact ⟨(f13 0 (by decide) (by decide) (by decide)).trans c0, (f13 1 (by decide) (by decide) (by decide)).trans c1, (f13 2 (by decide) (by decide) (by decide)).trans c2, (f13 3 (by decide) (by decide) (by decide)).trans c3, (f13 4 (by decide) (by decide) (by decide)).trans c4, ⟨qa, pa, ea, eb⟩, ⟨wq2, (f13 10 (by decide) (by decide) (by decide)).trans c10, cwq⟩, fun t ht => ⟨(cW t ht).1.keep (fun a a1 a2 => f13 a (by omega) (by omega) (by omega)), (cW t ht).2.imp (fun Q hQ => (f13 _ (by omega) (by omega) (by omega)).trans hQ)⟩, ⟨⟨_, hb3⟩, Q0, (f3 64 (by decide) (by decide) (by decide)).trans hq2⟩, cT.far (fun a a1 a2 => f13 a (by omega) (by omega) (by omega))⟩
      have fk3 : FrK H H3 := fk1.trans (fun a ha => f13 a (by omega) (by omega) (by omega))
      have hch3 : ChB H H3 B P cw cl cp cb tb 0 g rl wss t ws := ⟨hc3, hb3, fk3⟩
      obtain ⟨D3, S3, K3, E3, hb3A, hb3L, hb340, hb341⟩ := id hb3
      have hb3k := hb3L.ok hb340 hb341
      have h03 := hc3.1
      have h13 := hc3.2.1
      have h23 := hc3.2.2.1
      have hT3 : TreeAt H3 t.1 t.2.1 t.2.2.1 t.2.2.2.1 t.2.2.2.2.1 t.2.2.2.2.2 := hc3.2.2.2.2.2.2.2.2.2
      refine RQ.blk 2 (pc' := 137) (lv' := [(5, .int (nI (tt / 512 + k))), (4, .int (nI (max (t.2.2.1 f) (tt + l)))), (3, .int (nI l)), (0, .ref 1), (1, .int (nI f)), (2, .int (nI tt))]) (st' := [.ref 1, .ref 1]) (H' := _) (kc' := 0) (ks' := 0) rfl ?_
      refine RQ.get (ci := 11) rfl h03 rfl rfl ?_
      refine RQ.blk 1 (pc' := 141) (lv' := [(5, .int (nI (tt / 512 + k))), (4, .int (nI (max (t.2.2.1 f) (tt + l)))), (3, .int (nI l)), (0, .ref 1), (1, .int (nI f)), (2, .int (nI tt))]) (st' := [.int (-1), .ref 60, .ref 1]) (H' := _) (kc' := 0) (ks' := 0) rfl ?_
      obtain ⟨kf3, kl3, mo3, pl3, le3, al3, od3, sp3, sz3, ss3, ac3, hA3, hVW3, hvs3⟩ := (hV.far (fun a a1 a2 => fk3 a (by omega)) : VersIs H3 N vs)
      exact RQ.callP (st' := []) rfl rfl rfl rfl rfl rfl (args_v [.int (-1), .ref 60] [] rfl rfl (Nat.le_of_ble_eq_true rfl) rfl h03 (Nat.le_of_ble_eq_true rfl)) (rc_reqRoomX h03 hA3 hVW3 hvs3 hb3A hb3k hb3L (hs.far2 (fun a a1 a2 => fk3 a (by omega))) (fun t ht => Nat.lt_trans (hsm t ht) (by decide)) (fun i hi => by obtain ⟨e, he⟩ := lt_get hi; rw [(hb3L i e he).2.1]; exact (hkl e (List.mem_of_getElem? he))) h1W hpr (by omega) hB hle hl31) rfl ⟨_, rfl, hc3, fk3⟩
    · refine RQ.brF rfl rfl rfl (cF_ge (tt / 512 + k) 32) ?_
      refine RQ.blk 3 (pc' := 94) (lv' := [(5, .int (nI (tt / 512 + k))), (4, .int (nI (max (t.2.2.1 f) (tt + l)))), (3, .int (nI l)), (0, .ref 1), (1, .int (nI f)), (2, .int (nI tt))]) (st' := [.int (nI (tt / 512 + k) * 512)]) (H' := _) (kc' := 0) (ks' := 0) rfl ?_
      rw [show (nI (tt / 512 + k) * 512 : Int32) = nI ((tt / 512 + k) * 512) from pk_mul (tt / 512 + k) 512]
      refine RQ.blk 3 (pc' := 97) (lv' := [(5, .int (nI (tt / 512 + k))), (4, .int (nI (max (t.2.2.1 f) (tt + l)))), (3, .int (nI l)), (0, .ref 1), (1, .int (nI f)), (2, .int (nI tt))]) (st' := [.int (nI tt + nI l), .int (nI ((tt / 512 + k) * 512))]) (H' := _) (kc' := 0) (ks' := 0) rfl ?_
      rw [show (nI tt + nI l : Int32) = nI (tt + l) from nI_add tt l]
      refine RQ.brT rfl rfl rfl (cT_ge ((tt / 512 + k) * 512) (tt + l)) ?_
      refine RQ.blk 2 (pc' := 118) (lv' := [(5, .int (nI (tt / 512 + k))), (4, .int (nI (max (t.2.2.1 f) (tt + l)))), (3, .int (nI l)), (0, .ref 1), (1, .int (nI f)), (2, .int (nI tt))]) (st' := [.ref 1, .int (nI (max (t.2.2.1 f) (tt + l)))]) (H' := _) (kc' := 0) (ks' := 0) rfl ?_
      refine RQ.get (ci := 11) rfl h04 rfl rfl ?_
      refine RQ.blk 1 (pc' := 122) (lv' := [(5, .int (nI (tt / 512 + k))), (4, .int (nI (max (t.2.2.1 f) (tt + l)))), (3, .int (nI l)), (0, .ref 1), (1, .int (nI f)), (2, .int (nI tt))]) (st' := [.int (nI f), .ref 66, .int (nI (max (t.2.2.1 f) (tt + l)))]) (H' := _) (kc' := 0) (ks' := 0) rfl ?_
      refine RQ.call (v := some (.int (nI (t.2.2.1 f)))) (st' := [.int (nI (max (t.2.2.1 f) (tt + l)))]) rfl rfl rfl rfl rfl rfl (args_v [.int (nI f)] [.int (nI (max (t.2.2.1 f) (tt + l)))] rfl rfl (Nat.le_of_ble_eq_true rfl) rfl hT4.1 (Nat.le_of_ble_eq_true rfl)) (rc_sizeOf hT4 hk hf) ?_
      refine RQ.brT rfl rfl rfl (cT_eq (max (t.2.2.1 f) (tt + l)) (t.2.2.1 f)) ?_
      rw [hws] at hb4
      show RQ _ _ _ 135 [(5, .int (nI (tt / 512 + k))), (4, .int (nI (max (t.2.2.1 f) (tt + l)))), (3, .int (nI l)), (0, .ref 1), (1, .int (nI f)), (2, .int (nI tt))] [] H4 0 0 _
      obtain ⟨H3, eH3⟩ : ∃ H3, H3 = H4 := ⟨_, rfl⟩
      rw [← eH3] at hb4 e54 e64 f4 ⊢
      have hb3 := hb4
      have e53 := e54
      have e63 := e64
      have f3 := f4
      have f13 : ∀ a, a ≠ 5 → a ≠ 6 → ¬ (59 ≤ a ∧ a < 64) → H3[a]? = H1[a]? := fun a a1 a2 a3 => (f3 a a1 a2 a3).trans (f2 a (by omega))
      have hc3 : ClsA H3 B P 1 cw cl cp cb tb 0 g rl wss t := by
        obtain ⟨qa, ea⟩ := e53
        obtain ⟨pa, eb⟩ := e63
        obtain ⟨c0, c1, c2, c3, c4, -, ⟨wq2, c10, cwq⟩, cW, -, cT⟩ := hc1
        exact ⟨(f13 0 (by decide) (by decide) (by decide)).trans c0, (f13 1 (by decide) (by decide) (by decide)).trans c1, (f13 2 (by decide) (by decide) (by decide)).trans c2, (f13 3 (by decide) (by decide) (by decide)).trans c3, (f13 4 (by decide) (by decide) (by decide)).trans c4, ⟨qa, pa, ea, eb⟩, ⟨wq2, (f13 10 (by decide) (by decide) (by decide)).trans c10, cwq⟩, fun t ht => ⟨(cW t ht).1.keep (fun a a1 a2 => f13 a (by omega) (by omega) (by omega)), (cW t ht).2.imp (fun Q hQ => (f13 _ (by omega) (by omega) (by omega)).trans hQ)⟩, ⟨⟨_, hb3⟩, Q0, (f3 64 (by decide) (by decide) (by decide)).trans hq2⟩, cT.far (fun a a1 a2 => f13 a (by omega) (by omega) (by omega))⟩
      have fk3 : FrK H H3 := fk1.trans (fun a ha => f13 a (by omega) (by omega) (by omega))
      have hch3 : ChB H H3 B P cw cl cp cb tb 0 g rl wss t ws := ⟨hc3, hb3, fk3⟩
      obtain ⟨D3, S3, K3, E3, hb3A, hb3L, hb340, hb341⟩ := id hb3
      have hb3k := hb3L.ok hb340 hb341
      have h03 := hc3.1
      have h13 := hc3.2.1
      have h23 := hc3.2.2.1
      have hT3 : TreeAt H3 t.1 t.2.1 t.2.2.1 t.2.2.2.1 t.2.2.2.2.1 t.2.2.2.2.2 := hc3.2.2.2.2.2.2.2.2.2
      refine RQ.blk 2 (pc' := 137) (lv' := [(5, .int (nI (tt / 512 + k))), (4, .int (nI (max (t.2.2.1 f) (tt + l)))), (3, .int (nI l)), (0, .ref 1), (1, .int (nI f)), (2, .int (nI tt))]) (st' := [.ref 1, .ref 1]) (H' := _) (kc' := 0) (ks' := 0) rfl ?_
      refine RQ.get (ci := 11) rfl h03 rfl rfl ?_
      refine RQ.blk 1 (pc' := 141) (lv' := [(5, .int (nI (tt / 512 + k))), (4, .int (nI (max (t.2.2.1 f) (tt + l)))), (3, .int (nI l)), (0, .ref 1), (1, .int (nI f)), (2, .int (nI tt))]) (st' := [.int (-1), .ref 60, .ref 1]) (H' := _) (kc' := 0) (ks' := 0) rfl ?_
      obtain ⟨kf3, kl3, mo3, pl3, le3, al3, od3, sp3, sz3, ss3, ac3, hA3, hVW3, hvs3⟩ := (hV.far (fun a a1 a2 => fk3 a (by omega)) : VersIs H3 N vs)
      exact RQ.callP (st' := []) rfl rfl rfl rfl rfl rfl (args_v [.int (-1), .ref 60] [] rfl rfl (Nat.le_of_ble_eq_true rfl) rfl h03 (Nat.le_of_ble_eq_true rfl)) (rc_reqRoomX h03 hA3 hVW3 hvs3 hb3A hb3k hb3L (hs.far2 (fun a a1 a2 => fk3 a (by omega))) (fun t ht => Nat.lt_trans (hsm t ht) (by decide)) (fun i hi => by obtain ⟨e, he⟩ := lt_get hi; rw [(hb3L i e he).2.1]; exact (hkl e (List.mem_of_getElem? he))) h1W hpr (by omega) hB hle hl31) rfl ⟨_, rfl, hc3, fk3⟩
set_option maxRecDepth 20000 in
theorem ri_write0_ok {sc : Nat × (Nat → Int32)} {d : Nat} {H : aH} {B P : Nat} {cl : Int32} {cp cb : Nat} {tb : Nat → Int8} {l : Nat} {g : Nat → Int8} {rl : Nat} {wss : Nat → List aE} {t : aTr} {f tt : Nat} {ws : List aE} {op : Nat → Bool} {sm : Nat → Nat} {N : Nat} {kf : Nat → Int8} {kl mo pl : Nat → Nat} {le : Nat → Option Nat} {al : Nat → Bool} {od sp : Nat → Nat} {sz ss ac : Nat} {vs : List aV} {cf : Nat → Int8} {tf : Nat → Nat} {pq : Option Nat} {bb ov lc fr ff : Nat} {wr : Bool} {tp rc ms mt sq tu tn nb : Nat} {us : Nat → Bool} {lg : Nat → Nat} {mp hv : Nat} {ok1 ok2 ok3 ok5 ok6 : aH → Prop} (h : ClsA H B P 1 0 cl cp cb tb l g rl wss t) (hk : TreeOk t.1 t.2.1 t.2.2.1 t.2.2.2.1) (hf : f ≤ 200) (hl1 : 1 ≤ l) (hl2 : l ≤ 2000) (htt : tt ≤ 16384 - l) (hkd : t.1 f = 1) (hgr : ¬ t.2.2.1 f < tt + l) (hws : (wrA cf vs f tt l tb ((tt + l + 511) / 512 - tt / 512)) = ws) (h1W : OneW ws) (hkl : ∀ e ∈ ws, 1 ≤ e.1.length) (hA : VersAt H N kf kl mo pl le al od sp sz ss ac) (hVW : VersWf N kf kl mo pl le al od sp sz ss ac) (hvs : vs = vsL kf kl mo pl le al od sz) (hC : ChipAt H B cf tf pq bb ov) (hY : LayAt H (layF B lc fr ff wr tp rc ms mt sq tu tn nb) B us lg) (hB : B ≤ 128) (hlc : lc ≤ B) (hlg : ∀ j, j < lc → lg j < 2 ^ 30) (hG : H[190]? = some (kO 4 (logF mp hv))) (hRec : RecsOk cf B lg lc vs) (hpl : ∀ i, (∀ v : aV, seenV vs [2, f, i] (2 ^ 30) = some v → ∀ n, v.2.2.2.1 = some n → n ≤ 512) ∧ (pcV cf vs f i).length ≤ 512) (hs : SightAt H op sm) (hsm : ∀ t, t < 8 → sm t < 2 ^ 30) (hV : VersIs H N vs) (hpr : ∀ v ∈ vs, v.2.1 ≤ P) (hP : P + 1 < 2 ^ 30) (hle : sumN op sm (-1) (P + 1) (kmV (inclV (P + 1) (fun _ => 0) 0 ws vs)) (inclV (P + 1) (fun _ => 0) 0 ws vs) ≤ B * 256) (hRM : ∀ H', ChB H H' B P 0 cl cp cb tb 0 g rl wss t ws → RB sc (d + 7) mr_96 [.ref 1] H' ok1 (fun _ => False)) (hST : ∀ H', ok1 H' → RB sc (d + 7) mr_150 [.ref 1, .ref 60] H' ok2 (fun _ => False)) (hf1 : ∀ H', ok1 H' → H'[0]? = some (kO 11 (fvs (nI B) (nI P) 1 0 cl (nI cp) (nI cb)))) (hSE : ∀ H', ok2 H' → RN sc (d + 7) mr_153 [.ref 1, .int 1] H' ok3) (hIN : ∀ H', ok3 H' → RN sc (d + 7) mr_160 [.ref 1, .ref 60] H' ok5) (hTS : ∀ H', ok5 H' → RN sc (d + 7) mr_245 [.ref 66, .int (nI f), .int (nI (max (t.2.2.1 f) (tt + l)))] H' ok6) (hf2 : ∀ H', ok2 H' → H'[0]? = some (kO 11 (fvs (nI B) (nI P) 1 0 cl (nI cp) (nI cb)))) (hf3 : ∀ H', ok3 H' → H'[0]? = some (kO 11 (fvs (nI B) (nI P) 1 0 cl (nI cp) (nI cb)))) (hf5 : ∀ H', ok5 H' → H'[0]? = some (kO 11 (fvs (nI B) (nI (P + 1)) 1 0 cl (nI cp) (nI cb))) ∧ (∃ fs, H'[65]? = some (kO 9 fs)) ∧ ∃ lx : Nat, H'[1]? = some (kO 5 [.ref 3, .int (nI lx)])) : RI sc (d + 8) mr_238 [.ref 1, .int (nI f), .int (nI tt)] H (fun x H' => x = nI (max (t.2.2.1 f) (tt + l)) ∧ ok6 H') := by
  obtain ⟨h0, h1, h2, h3, h4, ⟨q5, p6, h5, h6⟩, ⟨wq, h10, hwq⟩, hW, hCh, hT⟩ := id h
  refine RI.of ?_
  refine RQ.blk 2 (pc' := 2) (lv' := [(0, .ref 1), (1, .int (nI f)), (2, .int (nI tt))]) (st' := [.int (nI f), .ref 1]) (H' := _) (kc' := 0) (ks' := 0) rfl ?_
  refine RQ.call (v := none) (st' := []) rfl rfl rfl rfl rfl rfl (args_v [.int (nI f)] [] rfl rfl (Nat.le_of_ble_eq_true rfl) rfl h0 (Nat.le_of_ble_eq_true rfl)) (rc_reqNum h0 hf) ?_
  refine RQ.blk 2 (pc' := 7) (lv' := [(0, .ref 1), (1, .int (nI f)), (2, .int (nI tt))]) (st' := [.ref 1, .ref 1]) (H' := _) (kc' := 0) (ks' := 0) rfl ?_
  refine RQ.get (ci := 11) rfl h0 rfl rfl ?_
  refine RQ.get (ci := 5) rfl h1 rfl rfl ?_
  refine RQ.blk 2 (pc' := 17) (lv' := [(0, .ref 1), (1, .int (nI f)), (2, .int (nI tt))]) (st' := [.int 2000, .int 1, .int (nI l), .ref 1]) (H' := _) (kc' := 0) (ks' := 0) rfl ?_
  refine RQ.call (v := none) (st' := []) rfl rfl rfl rfl rfl rfl (args_v [.int 2000, .int 1, .int (nI l)] [] rfl rfl (Nat.le_of_ble_eq_true rfl) rfl h0 (Nat.le_of_ble_eq_true rfl)) (rc_range (fun e => absurd e (nI_nlt hl1 (by omega))) (rg_hi (n := 2000) hl2 (by decide))) ?_
  refine RQ.blk 5 (pc' := 27) (lv' := [(0, .ref 1), (1, .int (nI f)), (2, .int (nI tt))]) (st' := [.ref 1, .int 16384, .int 0, .int (nI tt), .ref 1]) (H' := _) (kc' := 0) (ks' := 0) rfl ?_
  refine RQ.get (ci := 11) rfl h0 rfl rfl ?_
  refine RQ.get (ci := 5) rfl h1 rfl rfl ?_
  refine RQ.blk 1 (pc' := 34) (lv' := [(0, .ref 1), (1, .int (nI f)), (2, .int (nI tt))]) (st' := [.int (16384 - nI l), .int 0, .int (nI tt), .ref 1]) (H' := _) (kc' := 0) (ks' := 0) rfl ?_
  rw [show (16384 - nI l : Int32) = nI (16384 - l) from pk_sub (a := 16384) (b := l) (by omega)]
  refine RQ.call (v := none) (st' := []) rfl rfl rfl rfl rfl rfl (args_v [.int (nI (16384 - l)), .int 0, .int (nI tt)] [] rfl rfl (Nat.le_of_ble_eq_true rfl) rfl h0 (Nat.le_of_ble_eq_true rfl)) (rc_range (nI_nlt (Nat.zero_le tt) (by omega)) (rg_hi (n := 16384 - l) htt (by omega))) ?_
  refine RQ.blk 1 (pc' := 38) (lv' := [(0, .ref 1), (1, .int (nI f)), (2, .int (nI tt))]) (st' := [.ref 1]) (H' := _) (kc' := 0) (ks' := 0) rfl ?_
  refine RQ.call (v := none) (st' := []) rfl rfl rfl rfl rfl rfl (args_v [] [] rfl rfl (Nat.le_of_ble_eq_true rfl) rfl h0 (Nat.le_of_ble_eq_true rfl)) (rc_up h0 rfl) ?_
  refine RQ.blk 1 (pc' := 42) (lv' := [(0, .ref 1), (1, .int (nI f)), (2, .int (nI tt))]) (st' := [.ref 1]) (H' := _) (kc' := 0) (ks' := 0) rfl ?_
  refine RQ.call (v := some (.int (nI l))) (st' := []) rfl rfl rfl rfl rfl rfl (args_v [] [] rfl rfl (Nat.le_of_ble_eq_true rfl) rfl h0 (Nat.le_of_ble_eq_true rfl)) (rc_takeTape h0 h1) ?_
  have far1 : ∀ a, a ≠ 1 → (H.set 1 (kO 5 [.ref 3, .int (nI 0)]))[a]? = H[a]? := fun a ha => set_far ha
  have h11 : (H.set 1 (kO 5 [.ref 3, .int (nI 0)]))[1]? = some (kO 5 [.ref 3, .int (nI 0)]) := get_set h1
  refine RQ.blk 1 (pc' := 46) (lv' := [(3, .int (nI l)), (0, .ref 1), (1, .int (nI f)), (2, .int (nI tt))]) (st' := []) (H' := _) (kc' := 0) (ks' := 0) rfl ?_
  show RQ _ _ _ 46 [(3, .int (nI l)), (0, .ref 1), (1, .int (nI f)), (2, .int (nI tt))] [] (H.set 1 (kO 5 [.ref 3, .int (nI 0)])) 0 0 _
  generalize (H.set 1 (kO 5 [.ref 3, .int (nI 0)])) = H1 at far1 h11 ⊢
  have h01 := (far1 0 (by decide)).trans h0
  have h21 := (far1 2 (by decide)).trans h2
  have hT1 : TreeAt H1 t.1 t.2.1 t.2.2.1 t.2.2.2.1 t.2.2.2.2.1 t.2.2.2.2.2 := hT.far (fun a a1 a2 => far1 a (by omega))
  have hc1 : ClsA H1 B P 1 0 cl cp cb tb 0 g rl wss t := h.small h01 h11 h21 ((far1 3 (by decide)).trans h3) ((far1 4 (by decide)).trans h4) ⟨q5, p6, (far1 5 (by decide)).trans h5, (far1 6 (by decide)).trans h6⟩ (fun a a1 a2 => far1 a (by omega))
  have fk1 : FrK H H1 := fun a ha => far1 a (by omega)
  refine RQ.blk 2 (pc' := 48) (lv' := [(3, .int (nI l)), (0, .ref 1), (1, .int (nI f)), (2, .int (nI tt))]) (st' := [.int (nI f), .ref 1]) (H' := _) (kc' := 0) (ks' := 0) rfl ?_
  refine RQ.call (v := none) (st' := []) rfl rfl rfl rfl rfl rfl (args_v [.int (nI f)] [] rfl rfl (Nat.le_of_ble_eq_true rfl) rfl h01 (Nat.le_of_ble_eq_true rfl)) (rc_requireFile1 h01 hT1 hk hf hkd) ?_
  refine RQ.blk 1 (pc' := 52) (lv' := [(3, .int (nI l)), (0, .ref 1), (1, .int (nI f)), (2, .int (nI tt))]) (st' := [.ref 1]) (H' := _) (kc' := 0) (ks' := 0) rfl ?_
  refine RQ.get (ci := 11) rfl h01 rfl rfl ?_
  refine RQ.blk 1 (pc' := 56) (lv' := [(3, .int (nI l)), (0, .ref 1), (1, .int (nI f)), (2, .int (nI tt))]) (st' := [.int (nI f), .ref 66]) (H' := _) (kc' := 0) (ks' := 0) rfl ?_
  refine RQ.call (v := some (.int (nI (t.2.2.1 f)))) (st' := []) rfl rfl rfl rfl rfl rfl (args_v [.int (nI f)] [] rfl rfl (Nat.le_of_ble_eq_true rfl) rfl hT1.1 (Nat.le_of_ble_eq_true rfl)) (rc_sizeOf hT1 hk hf) ?_
  have hkf := hk f hf
  refine RQ.blk 3 (pc' := 62) (lv' := [(3, .int (nI l)), (0, .ref 1), (1, .int (nI f)), (2, .int (nI tt))]) (st' := [.int (nI tt + nI l), .int (nI (t.2.2.1 f))]) (H' := _) (kc' := 0) (ks' := 0) rfl ?_
  rw [show (nI tt + nI l : Int32) = nI (tt + l) from nI_add tt l]
  refine RQ.blk 1 (pc' := 65) (lv' := [(3, .int (nI l)), (0, .ref 1), (1, .int (nI f)), (2, .int (nI tt))]) (st' := [.int (if nI (t.2.2.1 f) < nI (tt + l) then nI (tt + l) else nI (t.2.2.1 f))]) (H' := _) (kc' := 0) (ks' := 0) rfl ?_
  rw [show (if nI (t.2.2.1 f) < nI (tt + l) then nI (tt + l) else nI (t.2.2.1 f) : Int32) = nI (max (t.2.2.1 f) (tt + l)) from maxI (a := (t.2.2.1 f)) (b := (tt + l)) (by omega) (by omega)]
  refine RQ.blk 1 (pc' := 67) (lv' := [(4, .int (nI (max (t.2.2.1 f) (tt + l)))), (3, .int (nI l)), (0, .ref 1), (1, .int (nI f)), (2, .int (nI tt))]) (st' := []) (H' := _) (kc' := 0) (ks' := 0) rfl ?_
  obtain ⟨⟨ws0, hb0⟩, Q0, hq0⟩ := hc1.2.2.2.2.2.2.2.2.1
  obtain ⟨D0, S0, K0, E0, hb0A, -⟩ := id hb0
  refine RQ.blk 1 (pc' := 68) (lv' := [(4, .int (nI (max (t.2.2.1 f) (tt + l)))), (3, .int (nI l)), (0, .ref 1), (1, .int (nI f)), (2, .int (nI tt))]) (st' := [.ref 1]) (H' := _) (kc' := 0) (ks' := 0) rfl ?_
  refine RQ.get (ci := 11) rfl h01 rfl rfl ?_
  refine RQ.callN (st' := []) rfl rfl rfl rfl rfl rfl (args_v [] [] rfl rfl (Nat.le_of_ble_eq_true rfl) rfl hb0A.1 (Nat.le_of_ble_eq_true rfl)) (rn_bclearI hb0) (fun H2 hx2 => ?_)
  obtain ⟨hb2, f2⟩ := hx2
  have h02 := (f2 0 (by decide)).trans h01
  have h12 := (f2 1 (by decide)).trans h11
  have h22 := (f2 2 (by decide)).trans h21
  have hT2 : TreeAt H2 t.1 t.2.1 t.2.2.1 t.2.2.2.1 t.2.2.2.2.1 t.2.2.2.2.2 := hT1.far (fun a a1 a2 => f2 a (by omega))
  have hq2 := (f2 64 (by decide)).trans hq0
  have e52 : ∃ q : Nat, H2[5]? = some (kO 5 [.ref 7, .int (nI q)]) := ⟨q5, (f2 5 (by decide)).trans ((far1 5 (by decide)).trans h5)⟩
  have e62 : ∃ g, H2[6]? = some (kB 41 g) := ⟨p6, (f2 6 (by decide)).trans ((far1 6 (by decide)).trans h6)⟩
  refine RQ.blk 3 (pc' := 79) (lv' := [(4, .int (nI (max (t.2.2.1 f) (tt + l)))), (3, .int (nI l)), (0, .ref 1), (1, .int (nI f)), (2, .int (nI tt))]) (st' := [.int (nI tt / 512)]) (H' := _) (kc' := 0) (ks' := 0) rfl ?_
  rw [show (nI tt / 512 : Int32) = nI (tt / 512) from pk_div (a := tt) (d := 512) (by omega) (by omega) (by omega)]
  refine RQ.blk 1 (pc' := 81) (lv' := [(5, .int (nI (tt / 512))), (4, .int (nI (max (t.2.2.1 f) (tt + l)))), (3, .int (nI l)), (0, .ref 1), (1, .int (nI f)), (2, .int (nI tt))]) (st' := []) (H' := _) (kc' := 0) (ks' := 0) rfl ?_
  refine RQ.pick (a := [(5, .int (nI (tt / 512))), (4, .int (nI (max (t.2.2.1 f) (tt + l)))), (3, .int (nI l)), (0, .ref 1), (1, .int (nI f)), (2, .int (nI tt))]) [0, 1, 2, 3, 4, 5] [5, 4, 3, 0, 1, 2] rfl rfl (by decide) ?_
  refine RQ.while (S := Nat) (pc := 81) (fun k H' => k ≤ ((tt + l + 511) / 512 - tt / 512) ∧ BatchIs H' 59 (wrA cf vs f tt l tb k) ∧ (∃ q : Nat, H'[5]? = some (kO 5 [.ref 7, .int (nI q)])) ∧ (∃ g, H'[6]? = some (kB 41 g)) ∧ ∀ a, a ≠ 5 → a ≠ 6 → ¬ (59 ≤ a ∧ a < 64) → H'[a]? = H2[a]?) (fun k => [(5, .int (nI (tt / 512 + k))), (4, .int (nI (max (t.2.2.1 f) (tt + l)))), (3, .int (nI l)), (0, .ref 1), (1, .int (nI f)), (2, .int (nI tt))]) (fun k => ((tt + l + 511) / 512 - tt / 512) - k) ?_ 0 H2 ⟨Nat.zero_le _, hb2, e52, e62, fun _ _ _ _ => rfl⟩
  rintro k H4 ⟨hk1, hb4, e54, e64, f4⟩ ih
  have hal := wrA_len (c := cf) (vs := vs) (f := f) (tt := tt) (n := l) (tb := tb) (fun i => (hpl i).2) k
  have hcn : ((tt + l + 511) / 512 - tt / 512) ≤ 5 := by omega
  by_cases hki : k < ((tt + l + 511) / 512 - tt / 512)
  ·
    have h04 := (f4 0 (by decide) (by decide) (by decide)).trans h02
    refine RQ.blk 2 (pc' := 85) (lv' := [(5, .int (nI (tt / 512 + k))), (4, .int (nI (max (t.2.2.1 f) (tt + l)))), (3, .int (nI l)), (0, .ref 1), (1, .int (nI f)), (2, .int (nI tt))]) (st' := [.int 32, .int (nI (tt / 512 + k))]) (H' := _) (kc' := 0) (ks' := 0) rfl ?_
    refine RQ.brF rfl rfl rfl (cF_ge (tt / 512 + k) 32) ?_
    refine RQ.blk 3 (pc' := 94) (lv' := [(5, .int (nI (tt / 512 + k))), (4, .int (nI (max (t.2.2.1 f) (tt + l)))), (3, .int (nI l)), (0, .ref 1), (1, .int (nI f)), (2, .int (nI tt))]) (st' := [.int (nI (tt / 512 + k) * 512)]) (H' := _) (kc' := 0) (ks' := 0) rfl ?_
    rw [show (nI (tt / 512 + k) * 512 : Int32) = nI ((tt / 512 + k) * 512) from pk_mul (tt / 512 + k) 512]
    refine RQ.blk 3 (pc' := 97) (lv' := [(5, .int (nI (tt / 512 + k))), (4, .int (nI (max (t.2.2.1 f) (tt + l)))), (3, .int (nI l)), (0, .ref 1), (1, .int (nI f)), (2, .int (nI tt))]) (st' := [.int (nI tt + nI l), .int (nI ((tt / 512 + k) * 512))]) (H' := _) (kc' := 0) (ks' := 0) rfl ?_
    rw [show (nI tt + nI l : Int32) = nI (tt + l) from nI_add tt l]
    refine RQ.brF rfl rfl rfl (cF_ge ((tt / 512 + k) * 512) (tt + l)) ?_
    refine RQ.blk 5 (pc' := 106) (lv' := [(5, .int (nI (tt / 512 + k))), (4, .int (nI (max (t.2.2.1 f) (tt + l)))), (3, .int (nI l)), (0, .ref 1), (1, .int (nI f)), (2, .int (nI tt))]) (st' := [.int (nI l), .int (nI tt), .int (nI (tt / 512 + k)), .int (nI f), .ref 1]) (H' := _) (kc' := 0) (ks' := 0) rfl ?_
    refine RQ.callN (st' := []) rfl rfl rfl rfl rfl rfl (args_v [.int (nI l), .int (nI tt), .int (nI (tt / 512 + k)), .int (nI f)] [] rfl rfl (Nat.le_of_ble_eq_true rfl) rfl h04 (Nat.le_of_ble_eq_true rfl)) (rn_chPiece (f := f) (i := tt / 512 + k) (tt := tt) (n := l) h04 e54 e64 hb4 ((f4 1 (by decide) (by decide) (by decide)).trans h12) ((f4 2 (by decide) (by decide) (by decide)).trans h22) (hA.far (fun a a1 a2 => (f4 a (by omega) (by omega) (by omega)).trans ((f2 a (by omega)).trans (far1 a (by omega))))) hVW hvs (hC.far (fun a a1 a2 => (f4 a (by omega) (by omega) (by omega)).trans ((f2 a (by omega)).trans (far1 a (by omega))))) ⟨((f4 83 (by decide) (by decide) (by decide)).trans ((f2 83 (by decide)).trans (far1 83 (by decide)))).trans hY.1, ((f4 86 (by decide) (by decide) (by decide)).trans ((f2 86 (by decide)).trans (far1 86 (by decide)))).trans hY.2.1, ((f4 87 (by decide) (by decide) (by decide)).trans ((f2 87 (by decide)).trans (far1 87 (by decide)))).trans hY.2.2⟩ hB hlc hlg (((f4 190 (by decide) (by decide) (by decide)).trans ((f2 190 (by decide)).trans (far1 190 (by decide)))).trans hG) hRec (hpl _).1 (by omega) (by omega) (by omega) hl2 (by omega) (by omega) hl1 (by omega) (by omega)) (fun H5 hx5 => ?_)
    obtain ⟨z1, z2, z3, z4⟩ := hx5
    refine RQ.blk 1 (pc' := 112) (lv' := [(5, .int (nI (tt / 512 + k) + 1)), (4, .int (nI (max (t.2.2.1 f) (tt + l)))), (3, .int (nI l)), (0, .ref 1), (1, .int (nI f)), (2, .int (nI tt))]) (st' := []) (H' := _) (kc' := 0) (ks' := 0) rfl ?_
    rw [show (nI (tt / 512 + k) + 1 : Int32) = nI (tt / 512 + k + 1) from nI_add (tt / 512 + k) 1]
    refine RQ.blk 1 (pc' := 81) (lv' := [(5, .int (nI (tt / 512 + k + 1))), (4, .int (nI (max (t.2.2.1 f) (tt + l)))), (3, .int (nI l)), (0, .ref 1), (1, .int (nI f)), (2, .int (nI tt))]) (st' := []) (H' := _) (kc' := 0) (ks' := 0) rfl ?_
    refine RQ.pick (a := [(5, .int (nI (tt / 512 + k + 1))), (4, .int (nI (max (t.2.2.1 f) (tt + l)))), (3, .int (nI l)), (0, .ref 1), (1, .int (nI f)), (2, .int (nI tt))]) [0, 1, 2, 3, 4, 5] [5, 4, 3, 0, 1, 2] rfl rfl (by decide) ?_
    rw [show tt / 512 + k + 1 = tt / 512 + (k + 1) by omega]
    exact ih (k + 1) _ ⟨by omega, z1, z2, z3, fun a a1 a2 a3 => (z4 a a1 a2 a3).trans (f4 a a1 a2 a3)⟩ (by omega)
  ·
    have h04 := (f4 0 (by decide) (by decide) (by decide)).trans h02
    have hke : k = ((tt + l + 511) / 512 - tt / 512) := by omega
    rw [hke] at hb4 hal
    have hT4 : TreeAt H4 t.1 t.2.1 t.2.2.1 t.2.2.2.1 t.2.2.2.2.1 t.2.2.2.2.2 := hT2.far (fun a a1 a2 => f4 a (by omega) (by omega) (by omega))
    have hout : 32 ≤ tt / 512 + k ∨ tt + l ≤ (tt / 512 + k) * 512 := by omega
    refine RQ.blk 2 (pc' := 85) (lv' := [(5, .int (nI (tt / 512 + k))), (4, .int (nI (max (t.2.2.1 f) (tt + l)))), (3, .int (nI l)), (0, .ref 1), (1, .int (nI f)), (2, .int (nI tt))]) (st' := [.int 32, .int (nI (tt / 512 + k))]) (H' := _) (kc' := 0) (ks' := 0) rfl ?_
    by_cases k32 : 32 ≤ tt / 512 + k
    · refine RQ.brT rfl rfl rfl (cT_ge (tt / 512 + k) 32) ?_
      refine RQ.blk 2 (pc' := 118) (lv' := [(5, .int (nI (tt / 512 + k))), (4, .int (nI (max (t.2.2.1 f) (tt + l)))), (3, .int (nI l)), (0, .ref 1), (1, .int (nI f)), (2, .int (nI tt))]) (st' := [.ref 1, .int (nI (max (t.2.2.1 f) (tt + l)))]) (H' := _) (kc' := 0) (ks' := 0) rfl ?_
      refine RQ.get (ci := 11) rfl h04 rfl rfl ?_
      refine RQ.blk 1 (pc' := 122) (lv' := [(5, .int (nI (tt / 512 + k))), (4, .int (nI (max (t.2.2.1 f) (tt + l)))), (3, .int (nI l)), (0, .ref 1), (1, .int (nI f)), (2, .int (nI tt))]) (st' := [.int (nI f), .ref 66, .int (nI (max (t.2.2.1 f) (tt + l)))]) (H' := _) (kc' := 0) (ks' := 0) rfl ?_
      refine RQ.call (v := some (.int (nI (t.2.2.1 f)))) (st' := [.int (nI (max (t.2.2.1 f) (tt + l)))]) rfl rfl rfl rfl rfl rfl (args_v [.int (nI f)] [.int (nI (max (t.2.2.1 f) (tt + l)))] rfl rfl (Nat.le_of_ble_eq_true rfl) rfl hT4.1 (Nat.le_of_ble_eq_true rfl)) (rc_sizeOf hT4 hk hf) ?_
      refine RQ.brT rfl rfl rfl (cT_eq (max (t.2.2.1 f) (tt + l)) (t.2.2.1 f)) ?_
      rw [hws] at hb4
      show RQ _ _ _ 135 [(5, .int (nI (tt / 512 + k))), (4, .int (nI (max (t.2.2.1 f) (tt + l)))), (3, .int (nI l)), (0, .ref 1), (1, .int (nI f)), (2, .int (nI tt))] [] H4 0 0 _
      obtain ⟨H3, eH3⟩ : ∃ H3, H3 = H4 := ⟨_, rfl⟩
      rw [← eH3] at hb4 e54 e64 f4 ⊢
      have hb3 := hb4
      have e53 := e54
      have e63 := e64
      have f3 := f4
      have f13 : ∀ a, a ≠ 5 → a ≠ 6 → ¬ (59 ≤ a ∧ a < 64) → H3[a]? = H1[a]? := fun a a1 a2 a3 => (f3 a a1 a2 a3).trans (f2 a (by omega))
      have hc3 : ClsA H3 B P 1 0 cl cp cb tb 0 g rl wss t := by
        obtain ⟨qa, ea⟩ := e53
        obtain ⟨pa, eb⟩ := e63
        obtain ⟨c0, c1, c2, c3, c4, -, ⟨wq2, c10, cwq⟩, cW, -, cT⟩ := hc1
        exact ⟨(f13 0 (by decide) (by decide) (by decide)).trans c0, (f13 1 (by decide) (by decide) (by decide)).trans c1, (f13 2 (by decide) (by decide) (by decide)).trans c2, (f13 3 (by decide) (by decide) (by decide)).trans c3, (f13 4 (by decide) (by decide) (by decide)).trans c4, ⟨qa, pa, ea, eb⟩, ⟨wq2, (f13 10 (by decide) (by decide) (by decide)).trans c10, cwq⟩, fun t ht => ⟨(cW t ht).1.keep (fun a a1 a2 => f13 a (by omega) (by omega) (by omega)), (cW t ht).2.imp (fun Q hQ => (f13 _ (by omega) (by omega) (by omega)).trans hQ)⟩, ⟨⟨_, hb3⟩, Q0, (f3 64 (by decide) (by decide) (by decide)).trans hq2⟩, cT.far (fun a a1 a2 => f13 a (by omega) (by omega) (by omega))⟩
      have fk3 : FrK H H3 := fk1.trans (fun a ha => f13 a (by omega) (by omega) (by omega))
      have hch3 : ChB H H3 B P 0 cl cp cb tb 0 g rl wss t ws := ⟨hc3, hb3, fk3⟩
      obtain ⟨D3, S3, K3, E3, hb3A, hb3L, hb340, hb341⟩ := id hb3
      have hb3k := hb3L.ok hb340 hb341
      have h03 := hc3.1
      have h13 := hc3.2.1
      have h23 := hc3.2.2.1
      have hT3 : TreeAt H3 t.1 t.2.1 t.2.2.1 t.2.2.2.1 t.2.2.2.2.1 t.2.2.2.2.2 := hc3.2.2.2.2.2.2.2.2.2
      refine RQ.blk 2 (pc' := 137) (lv' := [(5, .int (nI (tt / 512 + k))), (4, .int (nI (max (t.2.2.1 f) (tt + l)))), (3, .int (nI l)), (0, .ref 1), (1, .int (nI f)), (2, .int (nI tt))]) (st' := [.ref 1, .ref 1]) (H' := _) (kc' := 0) (ks' := 0) rfl ?_
      refine RQ.get (ci := 11) rfl h03 rfl rfl ?_
      refine RQ.blk 1 (pc' := 141) (lv' := [(5, .int (nI (tt / 512 + k))), (4, .int (nI (max (t.2.2.1 f) (tt + l)))), (3, .int (nI l)), (0, .ref 1), (1, .int (nI f)), (2, .int (nI tt))]) (st' := [.int (-1), .ref 60, .ref 1]) (H' := _) (kc' := 0) (ks' := 0) rfl ?_
      obtain ⟨kf3, kl3, mo3, pl3, le3, al3, od3, sp3, sz3, ss3, ac3, hA3, hVW3, hvs3⟩ := (hV.far (fun a a1 a2 => fk3 a (by omega)) : VersIs H3 N vs)
      refine RQ.call (v := none) (st' := []) rfl rfl rfl rfl rfl rfl (args_v [.int (-1), .ref 60] [] rfl rfl (Nat.le_of_ble_eq_true rfl) rfl h03 (Nat.le_of_ble_eq_true rfl)) (rc_reqRoom h03 hA3 hVW3 hvs3 hb3A hb3k hb3L (hs.far2 (fun a a1 a2 => fk3 a (by omega))) (fun t ht => Nat.lt_trans (hsm t ht) (by decide)) (fun i hi => by obtain ⟨e, he⟩ := lt_get hi; rw [(hb3L i e he).2.1]; exact (hkl e (List.mem_of_getElem? he))) h1W hpr (by omega) hB hle) ?_
      refine RQ.blk 2 (pc' := 146) (lv' := [(5, .int (nI (tt / 512 + k))), (4, .int (nI (max (t.2.2.1 f) (tt + l)))), (3, .int (nI l)), (0, .ref 1), (1, .int (nI f)), (2, .int (nI tt))]) (st' := [.ref 1, .ref 1]) (H' := _) (kc' := 0) (ks' := 0) rfl ?_
      refine RQ.get (ci := 11) rfl h03 rfl rfl ?_
      refine RQ.get (ci := 0) rfl hb3A.1 rfl rfl ?_
      refine RQ.blk 2 (pc' := 154) (lv' := [(5, .int (nI (tt / 512 + k))), (4, .int (nI (max (t.2.2.1 f) (tt + l)))), (3, .int (nI l)), (0, .ref 1), (1, .int (nI f)), (2, .int (nI tt))]) (st' := [.int (nI ws.length + 1), .ref 1]) (H' := _) (kc' := 0) (ks' := 0) rfl ?_
      rw [show (nI ws.length + 1 : Int32) = nI (ws.length + 1) from nI_add ws.length 1]
      refine RQ.call (v := none) (st' := []) rfl rfl rfl rfl rfl rfl (args_v [.int (nI (ws.length + 1))] [] rfl rfl (Nat.le_of_ble_eq_true rfl) rfl h03 (Nat.le_of_ble_eq_true rfl)) (rc_armCut0 h03) ?_
      refine RQ.blk 2 (pc' := 159) (lv' := [(5, .int (nI (tt / 512 + k))), (4, .int (nI (max (t.2.2.1 f) (tt + l)))), (3, .int (nI l)), (0, .ref 1), (1, .int (nI f)), (2, .int (nI tt))]) (st' := [.ref 1, .ref 1]) (H' := _) (kc' := 0) (ks' := 0) rfl ?_
      refine RQ.callB (st' := [.ref 1]) rfl rfl rfl rfl rfl rfl (args_v [] [.ref 1] rfl rfl (Nat.le_of_ble_eq_true rfl) rfl h03 (Nat.le_of_ble_eq_true rfl)) (hRM H3 hch3) (fun H4 hH4 => ?_) (fun H4 hH4 => False.elim hH4)
      · have g1 := hf1 H4 hH4
        refine RQ.brF rfl rfl rfl (by decide) ?_
        refine RQ.blk 2 (pc' := 167) (lv' := [(5, .int (nI (tt / 512 + k))), (4, .int (nI (max (t.2.2.1 f) (tt + l)))), (3, .int (nI l)), (0, .ref 1), (1, .int (nI f)), (2, .int (nI tt))]) (st' := [.ref 1, .ref 1, .ref 1]) (H' := _) (kc' := 0) (ks' := 0) rfl ?_
        refine RQ.get (ci := 11) rfl g1 rfl rfl ?_
        refine RQ.callB (st' := [.ref 1]) rfl rfl rfl rfl rfl rfl (args_v [.ref 60] [.ref 1] rfl rfl (Nat.le_of_ble_eq_true rfl) rfl g1 (Nat.le_of_ble_eq_true rfl)) (hST H4 hH4) (fun H5 hH5 => ?_) (fun H5 hH5 => False.elim hH5)
        · have g2 := hf2 H5 hH5
          refine RQ.brF rfl rfl rfl (by decide) ?_
          refine RQ.blk 2 (pc' := 181) (lv' := [(5, .int (nI (tt / 512 + k))), (4, .int (nI (max (t.2.2.1 f) (tt + l)))), (3, .int (nI l)), (0, .ref 1), (1, .int (nI f)), (2, .int (nI tt))]) (st' := [.int 1, .ref 1]) (H' := _) (kc' := 0) (ks' := 0) rfl ?_
          refine RQ.callN (st' := []) rfl rfl rfl rfl rfl rfl (args_v [.int 1] [] rfl rfl (Nat.le_of_ble_eq_true rfl) rfl g2 (Nat.le_of_ble_eq_true rfl)) (hSE H5 hH5) (fun H6 hH6 => ?_)
          have g3 := hf3 H6 hH6
          refine RQ.blk 2 (pc' := 186) (lv' := [(5, .int (nI (tt / 512 + k))), (4, .int (nI (max (t.2.2.1 f) (tt + l)))), (3, .int (nI l)), (0, .ref 1), (1, .int (nI f)), (2, .int (nI tt))]) (st' := [.ref 1, .ref 1]) (H' := _) (kc' := 0) (ks' := 0) rfl ?_
          refine RQ.get (ci := 11) rfl g3 rfl rfl ?_
          refine RQ.callN (st' := []) rfl rfl rfl rfl rfl rfl (args_v [.ref 60] [] rfl rfl (Nat.le_of_ble_eq_true rfl) rfl g3 (Nat.le_of_ble_eq_true rfl)) (hIN H6 hH6) (fun H7 hH7 => ?_)
          obtain ⟨g5, ⟨tfs, g65⟩, lx, g11⟩ := hf5 H7 hH7
          refine RQ.blk 1 (pc' := 193) (lv' := [(5, .int (nI (tt / 512 + k))), (4, .int (nI (max (t.2.2.1 f) (tt + l)))), (3, .int (nI l)), (0, .ref 1), (1, .int (nI f)), (2, .int (nI tt))]) (st' := [.ref 1]) (H' := _) (kc' := 0) (ks' := 0) rfl ?_
          refine RQ.get (ci := 11) rfl g5 rfl rfl ?_
          refine RQ.blk 2 (pc' := 199) (lv' := [(5, .int (nI (tt / 512 + k))), (4, .int (nI (max (t.2.2.1 f) (tt + l)))), (3, .int (nI l)), (0, .ref 1), (1, .int (nI f)), (2, .int (nI tt))]) (st' := [.int (nI (max (t.2.2.1 f) (tt + l))), .int (nI f), .ref 66]) (H' := _) (kc' := 0) (ks' := 0) rfl ?_
          refine RQ.callN (st' := []) rfl rfl rfl rfl rfl rfl (args_v [.int (nI (max (t.2.2.1 f) (tt + l))), .int (nI f)] [] rfl rfl (Nat.le_of_ble_eq_true rfl) rfl g65 (Nat.le_of_ble_eq_true rfl)) (hTS H7 hH7) (fun H8 hH8 => ?_)
          refine RQ.blk 1 (pc' := 204) (lv' := [(5, .int (nI (tt / 512 + k))), (4, .int (nI (max (t.2.2.1 f) (tt + l)))), (3, .int (nI l)), (0, .ref 1), (1, .int (nI f)), (2, .int (nI tt))]) (st' := [.int (nI (max (t.2.2.1 f) (tt + l)))]) (H' := _) (kc' := 0) (ks' := 0) rfl ?_
          exact RQ.done (c := 0) (s := 0) rfl rfl rfl rfl ⟨_, _, rfl, rfl, hH8⟩
    · refine RQ.brF rfl rfl rfl (cF_ge (tt / 512 + k) 32) ?_
      refine RQ.blk 3 (pc' := 94) (lv' := [(5, .int (nI (tt / 512 + k))), (4, .int (nI (max (t.2.2.1 f) (tt + l)))), (3, .int (nI l)), (0, .ref 1), (1, .int (nI f)), (2, .int (nI tt))]) (st' := [.int (nI (tt / 512 + k) * 512)]) (H' := _) (kc' := 0) (ks' := 0) rfl ?_
      rw [show (nI (tt / 512 + k) * 512 : Int32) = nI ((tt / 512 + k) * 512) from pk_mul (tt / 512 + k) 512]
      refine RQ.blk 3 (pc' := 97) (lv' := [(5, .int (nI (tt / 512 + k))), (4, .int (nI (max (t.2.2.1 f) (tt + l)))), (3, .int (nI l)), (0, .ref 1), (1, .int (nI f)), (2, .int (nI tt))]) (st' := [.int (nI tt + nI l), .int (nI ((tt / 512 + k) * 512))]) (H' := _) (kc' := 0) (ks' := 0) rfl ?_
      rw [show (nI tt + nI l : Int32) = nI (tt + l) from nI_add tt l]
      refine RQ.brT rfl rfl rfl (cT_ge ((tt / 512 + k) * 512) (tt + l)) ?_
      refine RQ.blk 2 (pc' := 118) (lv' := [(5, .int (nI (tt / 512 + k))), (4, .int (nI (max (t.2.2.1 f) (tt + l)))), (3, .int (nI l)), (0, .ref 1), (1, .int (nI f)), (2, .int (nI tt))]) (st' := [.ref 1, .int (nI (max (t.2.2.1 f) (tt + l)))]) (H' := _) (kc' := 0) (ks' := 0) rfl ?_
      refine RQ.get (ci := 11) rfl h04 rfl rfl ?_
      refine RQ.blk 1 (pc' := 122) (lv' := [(5, .int (nI (tt / 512 + k))), (4, .int (nI (max (t.2.2.1 f) (tt + l)))), (3, .int (nI l)), (0, .ref 1), (1, .int (nI f)), (2, .int (nI tt))]) (st' := [.int (nI f), .ref 66, .int (nI (max (t.2.2.1 f) (tt + l)))]) (H' := _) (kc' := 0) (ks' := 0) rfl ?_
      refine RQ.call (v := some (.int (nI (t.2.2.1 f)))) (st' := [.int (nI (max (t.2.2.1 f) (tt + l)))]) rfl rfl rfl rfl rfl rfl (args_v [.int (nI f)] [.int (nI (max (t.2.2.1 f) (tt + l)))] rfl rfl (Nat.le_of_ble_eq_true rfl) rfl hT4.1 (Nat.le_of_ble_eq_true rfl)) (rc_sizeOf hT4 hk hf) ?_
      refine RQ.brT rfl rfl rfl (cT_eq (max (t.2.2.1 f) (tt + l)) (t.2.2.1 f)) ?_
      rw [hws] at hb4
      show RQ _ _ _ 135 [(5, .int (nI (tt / 512 + k))), (4, .int (nI (max (t.2.2.1 f) (tt + l)))), (3, .int (nI l)), (0, .ref 1), (1, .int (nI f)), (2, .int (nI tt))] [] H4 0 0 _
      obtain ⟨H3, eH3⟩ : ∃ H3, H3 = H4 := ⟨_, rfl⟩
      rw [← eH3] at hb4 e54 e64 f4 ⊢
      have hb3 := hb4
      have e53 := e54
      have e63 := e64
      have f3 := f4
      have f13 : ∀ a, a ≠ 5 → a ≠ 6 → ¬ (59 ≤ a ∧ a < 64) → H3[a]? = H1[a]? := fun a a1 a2 a3 => (f3 a a1 a2 a3).trans (f2 a (by omega))
      have hc3 : ClsA H3 B P 1 0 cl cp cb tb 0 g rl wss t := by
        obtain ⟨qa, ea⟩ := e53
        obtain ⟨pa, eb⟩ := e63
        obtain ⟨c0, c1, c2, c3, c4, -, ⟨wq2, c10, cwq⟩, cW, -, cT⟩ := hc1
        exact ⟨(f13 0 (by decide) (by decide) (by decide)).trans c0, (f13 1 (by decide) (by decide) (by decide)).trans c1, (f13 2 (by decide) (by decide) (by decide)).trans c2, (f13 3 (by decide) (by decide) (by decide)).trans c3, (f13 4 (by decide) (by decide) (by decide)).trans c4, ⟨qa, pa, ea, eb⟩, ⟨wq2, (f13 10 (by decide) (by decide) (by decide)).trans c10, cwq⟩, fun t ht => ⟨(cW t ht).1.keep (fun a a1 a2 => f13 a (by omega) (by omega) (by omega)), (cW t ht).2.imp (fun Q hQ => (f13 _ (by omega) (by omega) (by omega)).trans hQ)⟩, ⟨⟨_, hb3⟩, Q0, (f3 64 (by decide) (by decide) (by decide)).trans hq2⟩, cT.far (fun a a1 a2 => f13 a (by omega) (by omega) (by omega))⟩
      have fk3 : FrK H H3 := fk1.trans (fun a ha => f13 a (by omega) (by omega) (by omega))
      have hch3 : ChB H H3 B P 0 cl cp cb tb 0 g rl wss t ws := ⟨hc3, hb3, fk3⟩
      obtain ⟨D3, S3, K3, E3, hb3A, hb3L, hb340, hb341⟩ := id hb3
      have hb3k := hb3L.ok hb340 hb341
      have h03 := hc3.1
      have h13 := hc3.2.1
      have h23 := hc3.2.2.1
      have hT3 : TreeAt H3 t.1 t.2.1 t.2.2.1 t.2.2.2.1 t.2.2.2.2.1 t.2.2.2.2.2 := hc3.2.2.2.2.2.2.2.2.2
      refine RQ.blk 2 (pc' := 137) (lv' := [(5, .int (nI (tt / 512 + k))), (4, .int (nI (max (t.2.2.1 f) (tt + l)))), (3, .int (nI l)), (0, .ref 1), (1, .int (nI f)), (2, .int (nI tt))]) (st' := [.ref 1, .ref 1]) (H' := _) (kc' := 0) (ks' := 0) rfl ?_
      refine RQ.get (ci := 11) rfl h03 rfl rfl ?_
      refine RQ.blk 1 (pc' := 141) (lv' := [(5, .int (nI (tt / 512 + k))), (4, .int (nI (max (t.2.2.1 f) (tt + l)))), (3, .int (nI l)), (0, .ref 1), (1, .int (nI f)), (2, .int (nI tt))]) (st' := [.int (-1), .ref 60, .ref 1]) (H' := _) (kc' := 0) (ks' := 0) rfl ?_
      obtain ⟨kf3, kl3, mo3, pl3, le3, al3, od3, sp3, sz3, ss3, ac3, hA3, hVW3, hvs3⟩ := (hV.far (fun a a1 a2 => fk3 a (by omega)) : VersIs H3 N vs)
      refine RQ.call (v := none) (st' := []) rfl rfl rfl rfl rfl rfl (args_v [.int (-1), .ref 60] [] rfl rfl (Nat.le_of_ble_eq_true rfl) rfl h03 (Nat.le_of_ble_eq_true rfl)) (rc_reqRoom h03 hA3 hVW3 hvs3 hb3A hb3k hb3L (hs.far2 (fun a a1 a2 => fk3 a (by omega))) (fun t ht => Nat.lt_trans (hsm t ht) (by decide)) (fun i hi => by obtain ⟨e, he⟩ := lt_get hi; rw [(hb3L i e he).2.1]; exact (hkl e (List.mem_of_getElem? he))) h1W hpr (by omega) hB hle) ?_
      refine RQ.blk 2 (pc' := 146) (lv' := [(5, .int (nI (tt / 512 + k))), (4, .int (nI (max (t.2.2.1 f) (tt + l)))), (3, .int (nI l)), (0, .ref 1), (1, .int (nI f)), (2, .int (nI tt))]) (st' := [.ref 1, .ref 1]) (H' := _) (kc' := 0) (ks' := 0) rfl ?_
      refine RQ.get (ci := 11) rfl h03 rfl rfl ?_
      refine RQ.get (ci := 0) rfl hb3A.1 rfl rfl ?_
      refine RQ.blk 2 (pc' := 154) (lv' := [(5, .int (nI (tt / 512 + k))), (4, .int (nI (max (t.2.2.1 f) (tt + l)))), (3, .int (nI l)), (0, .ref 1), (1, .int (nI f)), (2, .int (nI tt))]) (st' := [.int (nI ws.length + 1), .ref 1]) (H' := _) (kc' := 0) (ks' := 0) rfl ?_
      rw [show (nI ws.length + 1 : Int32) = nI (ws.length + 1) from nI_add ws.length 1]
      refine RQ.call (v := none) (st' := []) rfl rfl rfl rfl rfl rfl (args_v [.int (nI (ws.length + 1))] [] rfl rfl (Nat.le_of_ble_eq_true rfl) rfl h03 (Nat.le_of_ble_eq_true rfl)) (rc_armCut0 h03) ?_
      refine RQ.blk 2 (pc' := 159) (lv' := [(5, .int (nI (tt / 512 + k))), (4, .int (nI (max (t.2.2.1 f) (tt + l)))), (3, .int (nI l)), (0, .ref 1), (1, .int (nI f)), (2, .int (nI tt))]) (st' := [.ref 1, .ref 1]) (H' := _) (kc' := 0) (ks' := 0) rfl ?_
      refine RQ.callB (st' := [.ref 1]) rfl rfl rfl rfl rfl rfl (args_v [] [.ref 1] rfl rfl (Nat.le_of_ble_eq_true rfl) rfl h03 (Nat.le_of_ble_eq_true rfl)) (hRM H3 hch3) (fun H4 hH4 => ?_) (fun H4 hH4 => False.elim hH4)
      · have g1 := hf1 H4 hH4
        refine RQ.brF rfl rfl rfl (by decide) ?_
        refine RQ.blk 2 (pc' := 167) (lv' := [(5, .int (nI (tt / 512 + k))), (4, .int (nI (max (t.2.2.1 f) (tt + l)))), (3, .int (nI l)), (0, .ref 1), (1, .int (nI f)), (2, .int (nI tt))]) (st' := [.ref 1, .ref 1, .ref 1]) (H' := _) (kc' := 0) (ks' := 0) rfl ?_
        refine RQ.get (ci := 11) rfl g1 rfl rfl ?_
        refine RQ.callB (st' := [.ref 1]) rfl rfl rfl rfl rfl rfl (args_v [.ref 60] [.ref 1] rfl rfl (Nat.le_of_ble_eq_true rfl) rfl g1 (Nat.le_of_ble_eq_true rfl)) (hST H4 hH4) (fun H5 hH5 => ?_) (fun H5 hH5 => False.elim hH5)
        · have g2 := hf2 H5 hH5
          refine RQ.brF rfl rfl rfl (by decide) ?_
          refine RQ.blk 2 (pc' := 181) (lv' := [(5, .int (nI (tt / 512 + k))), (4, .int (nI (max (t.2.2.1 f) (tt + l)))), (3, .int (nI l)), (0, .ref 1), (1, .int (nI f)), (2, .int (nI tt))]) (st' := [.int 1, .ref 1]) (H' := _) (kc' := 0) (ks' := 0) rfl ?_
          refine RQ.callN (st' := []) rfl rfl rfl rfl rfl rfl (args_v [.int 1] [] rfl rfl (Nat.le_of_ble_eq_true rfl) rfl g2 (Nat.le_of_ble_eq_true rfl)) (hSE H5 hH5) (fun H6 hH6 => ?_)
          have g3 := hf3 H6 hH6
          refine RQ.blk 2 (pc' := 186) (lv' := [(5, .int (nI (tt / 512 + k))), (4, .int (nI (max (t.2.2.1 f) (tt + l)))), (3, .int (nI l)), (0, .ref 1), (1, .int (nI f)), (2, .int (nI tt))]) (st' := [.ref 1, .ref 1]) (H' := _) (kc' := 0) (ks' := 0) rfl ?_
          refine RQ.get (ci := 11) rfl g3 rfl rfl ?_
          refine RQ.callN (st' := []) rfl rfl rfl rfl rfl rfl (args_v [.ref 60] [] rfl rfl (Nat.le_of_ble_eq_true rfl) rfl g3 (Nat.le_of_ble_eq_true rfl)) (hIN H6 hH6) (fun H7 hH7 => ?_)
          obtain ⟨g5, ⟨tfs, g65⟩, lx, g11⟩ := hf5 H7 hH7
          refine RQ.blk 1 (pc' := 193) (lv' := [(5, .int (nI (tt / 512 + k))), (4, .int (nI (max (t.2.2.1 f) (tt + l)))), (3, .int (nI l)), (0, .ref 1), (1, .int (nI f)), (2, .int (nI tt))]) (st' := [.ref 1]) (H' := _) (kc' := 0) (ks' := 0) rfl ?_
          refine RQ.get (ci := 11) rfl g5 rfl rfl ?_
          refine RQ.blk 2 (pc' := 199) (lv' := [(5, .int (nI (tt / 512 + k))), (4, .int (nI (max (t.2.2.1 f) (tt + l)))), (3, .int (nI l)), (0, .ref 1), (1, .int (nI f)), (2, .int (nI tt))]) (st' := [.int (nI (max (t.2.2.1 f) (tt + l))), .int (nI f), .ref 66]) (H' := _) (kc' := 0) (ks' := 0) rfl ?_
          refine RQ.callN (st' := []) rfl rfl rfl rfl rfl rfl (args_v [.int (nI (max (t.2.2.1 f) (tt + l))), .int (nI f)] [] rfl rfl (Nat.le_of_ble_eq_true rfl) rfl g65 (Nat.le_of_ble_eq_true rfl)) (hTS H7 hH7) (fun H8 hH8 => ?_)
          refine RQ.blk 1 (pc' := 204) (lv' := [(5, .int (nI (tt / 512 + k))), (4, .int (nI (max (t.2.2.1 f) (tt + l)))), (3, .int (nI l)), (0, .ref 1), (1, .int (nI f)), (2, .int (nI tt))]) (st' := [.int (nI (max (t.2.2.1 f) (tt + l)))]) (H' := _) (kc' := 0) (ks' := 0) rfl ?_
          exact RQ.done (c := 0) (s := 0) rfl rfl rfl rfl ⟨_, _, rfl, rfl, hH8⟩
set_option maxRecDepth 20000 in
theorem rx_write0_late {sc : Nat × (Nat → Int32)} {d : Nat} {H : aH} {B P : Nat}  {cp cb : Nat} {tb : Nat → Int8} {l : Nat} {g : Nat → Int8} {rl : Nat} {wss : Nat → List aE} {t : aTr} {f tt : Nat} {ws : List aE} {op : Nat → Bool} {sm : Nat → Nat} {N : Nat} {kf : Nat → Int8} {kl mo pl : Nat → Nat} {le : Nat → Option Nat} {al : Nat → Bool} {od sp : Nat → Nat} {sz ss ac : Nat} {vs : List aV} {cf : Nat → Int8} {tf : Nat → Nat} {pq : Option Nat} {bb ov lc fr ff : Nat} {wr : Bool} {tp rc ms mt sq tu tn nb : Nat} {us : Nat → Bool} {lg : Nat → Nat} {mp hv : Nat} {ok1 ok2 fin : aH → Prop} (h : ClsA H B P 1 1 1 cp cb tb l g rl wss t) (hk : TreeOk t.1 t.2.1 t.2.2.1 t.2.2.2.1) (hf : f ≤ 200) (hl1 : 1 ≤ l) (hl2 : l ≤ 2000) (htt : tt ≤ 16384 - l) (hkd : t.1 f = 1) (hgr : ¬ t.2.2.1 f < tt + l) (hws : (wrA cf vs f tt l tb ((tt + l + 511) / 512 - tt / 512)) = ws) (h1W : OneW ws) (hkl : ∀ e ∈ ws, 1 ≤ e.1.length) (hA : VersAt H N kf kl mo pl le al od sp sz ss ac) (hVW : VersWf N kf kl mo pl le al od sp sz ss ac) (hvs : vs = vsL kf kl mo pl le al od sz) (hC : ChipAt H B cf tf pq bb ov) (hY : LayAt H (layF B lc fr ff wr tp rc ms mt sq tu tn nb) B us lg) (hB : B ≤ 128) (hlc : lc ≤ B) (hlg : ∀ j, j < lc → lg j < 2 ^ 30) (hG : H[190]? = some (kO 4 (logF mp hv))) (hRec : RecsOk cf B lg lc vs) (hpl : ∀ i, (∀ v : aV, seenV vs [2, f, i] (2 ^ 30) = some v → ∀ n, v.2.2.2.1 = some n → n ≤ 512) ∧ (pcV cf vs f i).length ≤ 512) (hs : SightAt H op sm) (hsm : ∀ t, t < 8 → sm t < 2 ^ 30) (hV : VersIs H N vs) (hpr : ∀ v ∈ vs, v.2.1 ≤ P) (hP : P + 1 < 2 ^ 30) (hle : sumN op sm (-1) (P + 1) (kmV (inclV (P + 1) (fun _ => 0) 0 ws vs)) (inclV (P + 1) (fun _ => 0) 0 ws vs) ≤ B * 256) (hRM : ∀ H', ChB H H' B P 1 1 cp cb tb 0 g rl wss t ws → RB sc (d + 7) mr_96 [.ref 1] H' ok1 (fun _ => False)) (hST : ∀ H', ok1 H' → RB sc (d + 7) mr_150 [.ref 1, .ref 60] H' ok2 (fun _ => False)) (hf1 : ∀ H', ok1 H' → H'[0]? = some (kO 11 (fvs (nI B) (nI P) 1 1 1 (nI cp) (nI cb)))) (hSE : ∀ H', ok2 H' → RX sc (d + 7) mr_153 [.ref 1, .int 1] H' 1 fin) (hf2 : ∀ H', ok2 H' → H'[0]? = some (kO 11 (fvs (nI B) (nI P) 1 1 1 (nI cp) (nI cb)))) : RXc sc (d + 8) mr_238 [.ref 1, .int (nI f), .int (nI tt)] H 1 (fun H' => fin H') := by
  obtain ⟨h0, h1, h2, h3, h4, ⟨q5, p6, h5, h6⟩, ⟨wq, h10, hwq⟩, hW, hCh, hT⟩ := id h
  refine RXc.of ?_
  refine RQ.blk 2 (pc' := 2) (lv' := [(0, .ref 1), (1, .int (nI f)), (2, .int (nI tt))]) (st' := [.int (nI f), .ref 1]) (H' := _) (kc' := 0) (ks' := 0) rfl ?_
  refine RQ.call (v := none) (st' := []) rfl rfl rfl rfl rfl rfl (args_v [.int (nI f)] [] rfl rfl (Nat.le_of_ble_eq_true rfl) rfl h0 (Nat.le_of_ble_eq_true rfl)) (rc_reqNum h0 hf) ?_
  refine RQ.blk 2 (pc' := 7) (lv' := [(0, .ref 1), (1, .int (nI f)), (2, .int (nI tt))]) (st' := [.ref 1, .ref 1]) (H' := _) (kc' := 0) (ks' := 0) rfl ?_
  refine RQ.get (ci := 11) rfl h0 rfl rfl ?_
  refine RQ.get (ci := 5) rfl h1 rfl rfl ?_
  refine RQ.blk 2 (pc' := 17) (lv' := [(0, .ref 1), (1, .int (nI f)), (2, .int (nI tt))]) (st' := [.int 2000, .int 1, .int (nI l), .ref 1]) (H' := _) (kc' := 0) (ks' := 0) rfl ?_
  refine RQ.call (v := none) (st' := []) rfl rfl rfl rfl rfl rfl (args_v [.int 2000, .int 1, .int (nI l)] [] rfl rfl (Nat.le_of_ble_eq_true rfl) rfl h0 (Nat.le_of_ble_eq_true rfl)) (rc_range (fun e => absurd e (nI_nlt hl1 (by omega))) (rg_hi (n := 2000) hl2 (by decide))) ?_
  refine RQ.blk 5 (pc' := 27) (lv' := [(0, .ref 1), (1, .int (nI f)), (2, .int (nI tt))]) (st' := [.ref 1, .int 16384, .int 0, .int (nI tt), .ref 1]) (H' := _) (kc' := 0) (ks' := 0) rfl ?_
  refine RQ.get (ci := 11) rfl h0 rfl rfl ?_
  refine RQ.get (ci := 5) rfl h1 rfl rfl ?_
  refine RQ.blk 1 (pc' := 34) (lv' := [(0, .ref 1), (1, .int (nI f)), (2, .int (nI tt))]) (st' := [.int (16384 - nI l), .int 0, .int (nI tt), .ref 1]) (H' := _) (kc' := 0) (ks' := 0) rfl ?_
  rw [show (16384 - nI l : Int32) = nI (16384 - l) from pk_sub (a := 16384) (b := l) (by omega)]
  refine RQ.call (v := none) (st' := []) rfl rfl rfl rfl rfl rfl (args_v [.int (nI (16384 - l)), .int 0, .int (nI tt)] [] rfl rfl (Nat.le_of_ble_eq_true rfl) rfl h0 (Nat.le_of_ble_eq_true rfl)) (rc_range (nI_nlt (Nat.zero_le tt) (by omega)) (rg_hi (n := 16384 - l) htt (by omega))) ?_
  refine RQ.blk 1 (pc' := 38) (lv' := [(0, .ref 1), (1, .int (nI f)), (2, .int (nI tt))]) (st' := [.ref 1]) (H' := _) (kc' := 0) (ks' := 0) rfl ?_
  refine RQ.call (v := none) (st' := []) rfl rfl rfl rfl rfl rfl (args_v [] [] rfl rfl (Nat.le_of_ble_eq_true rfl) rfl h0 (Nat.le_of_ble_eq_true rfl)) (rc_up h0 rfl) ?_
  refine RQ.blk 1 (pc' := 42) (lv' := [(0, .ref 1), (1, .int (nI f)), (2, .int (nI tt))]) (st' := [.ref 1]) (H' := _) (kc' := 0) (ks' := 0) rfl ?_
  refine RQ.call (v := some (.int (nI l))) (st' := []) rfl rfl rfl rfl rfl rfl (args_v [] [] rfl rfl (Nat.le_of_ble_eq_true rfl) rfl h0 (Nat.le_of_ble_eq_true rfl)) (rc_takeTape h0 h1) ?_
  have far1 : ∀ a, a ≠ 1 → (H.set 1 (kO 5 [.ref 3, .int (nI 0)]))[a]? = H[a]? := fun a ha => set_far ha
  have h11 : (H.set 1 (kO 5 [.ref 3, .int (nI 0)]))[1]? = some (kO 5 [.ref 3, .int (nI 0)]) := get_set h1
  refine RQ.blk 1 (pc' := 46) (lv' := [(3, .int (nI l)), (0, .ref 1), (1, .int (nI f)), (2, .int (nI tt))]) (st' := []) (H' := _) (kc' := 0) (ks' := 0) rfl ?_
  show RQ _ _ _ 46 [(3, .int (nI l)), (0, .ref 1), (1, .int (nI f)), (2, .int (nI tt))] [] (H.set 1 (kO 5 [.ref 3, .int (nI 0)])) 0 0 _
  generalize (H.set 1 (kO 5 [.ref 3, .int (nI 0)])) = H1 at far1 h11 ⊢
  have h01 := (far1 0 (by decide)).trans h0
  have h21 := (far1 2 (by decide)).trans h2
  have hT1 : TreeAt H1 t.1 t.2.1 t.2.2.1 t.2.2.2.1 t.2.2.2.2.1 t.2.2.2.2.2 := hT.far (fun a a1 a2 => far1 a (by omega))
  have hc1 : ClsA H1 B P 1 1 1 cp cb tb 0 g rl wss t := h.small h01 h11 h21 ((far1 3 (by decide)).trans h3) ((far1 4 (by decide)).trans h4) ⟨q5, p6, (far1 5 (by decide)).trans h5, (far1 6 (by decide)).trans h6⟩ (fun a a1 a2 => far1 a (by omega))
  have fk1 : FrK H H1 := fun a ha => far1 a (by omega)
  refine RQ.blk 2 (pc' := 48) (lv' := [(3, .int (nI l)), (0, .ref 1), (1, .int (nI f)), (2, .int (nI tt))]) (st' := [.int (nI f), .ref 1]) (H' := _) (kc' := 0) (ks' := 0) rfl ?_
  refine RQ.call (v := none) (st' := []) rfl rfl rfl rfl rfl rfl (args_v [.int (nI f)] [] rfl rfl (Nat.le_of_ble_eq_true rfl) rfl h01 (Nat.le_of_ble_eq_true rfl)) (rc_requireFile1 h01 hT1 hk hf hkd) ?_
  refine RQ.blk 1 (pc' := 52) (lv' := [(3, .int (nI l)), (0, .ref 1), (1, .int (nI f)), (2, .int (nI tt))]) (st' := [.ref 1]) (H' := _) (kc' := 0) (ks' := 0) rfl ?_
  refine RQ.get (ci := 11) rfl h01 rfl rfl ?_
  refine RQ.blk 1 (pc' := 56) (lv' := [(3, .int (nI l)), (0, .ref 1), (1, .int (nI f)), (2, .int (nI tt))]) (st' := [.int (nI f), .ref 66]) (H' := _) (kc' := 0) (ks' := 0) rfl ?_
  refine RQ.call (v := some (.int (nI (t.2.2.1 f)))) (st' := []) rfl rfl rfl rfl rfl rfl (args_v [.int (nI f)] [] rfl rfl (Nat.le_of_ble_eq_true rfl) rfl hT1.1 (Nat.le_of_ble_eq_true rfl)) (rc_sizeOf hT1 hk hf) ?_
  have hkf := hk f hf
  refine RQ.blk 3 (pc' := 62) (lv' := [(3, .int (nI l)), (0, .ref 1), (1, .int (nI f)), (2, .int (nI tt))]) (st' := [.int (nI tt + nI l), .int (nI (t.2.2.1 f))]) (H' := _) (kc' := 0) (ks' := 0) rfl ?_
  rw [show (nI tt + nI l : Int32) = nI (tt + l) from nI_add tt l]
  refine RQ.blk 1 (pc' := 65) (lv' := [(3, .int (nI l)), (0, .ref 1), (1, .int (nI f)), (2, .int (nI tt))]) (st' := [.int (if nI (t.2.2.1 f) < nI (tt + l) then nI (tt + l) else nI (t.2.2.1 f))]) (H' := _) (kc' := 0) (ks' := 0) rfl ?_
  rw [show (if nI (t.2.2.1 f) < nI (tt + l) then nI (tt + l) else nI (t.2.2.1 f) : Int32) = nI (max (t.2.2.1 f) (tt + l)) from maxI (a := (t.2.2.1 f)) (b := (tt + l)) (by omega) (by omega)]
  refine RQ.blk 1 (pc' := 67) (lv' := [(4, .int (nI (max (t.2.2.1 f) (tt + l)))), (3, .int (nI l)), (0, .ref 1), (1, .int (nI f)), (2, .int (nI tt))]) (st' := []) (H' := _) (kc' := 0) (ks' := 0) rfl ?_
  obtain ⟨⟨ws0, hb0⟩, Q0, hq0⟩ := hc1.2.2.2.2.2.2.2.2.1
  obtain ⟨D0, S0, K0, E0, hb0A, -⟩ := id hb0
  refine RQ.blk 1 (pc' := 68) (lv' := [(4, .int (nI (max (t.2.2.1 f) (tt + l)))), (3, .int (nI l)), (0, .ref 1), (1, .int (nI f)), (2, .int (nI tt))]) (st' := [.ref 1]) (H' := _) (kc' := 0) (ks' := 0) rfl ?_
  refine RQ.get (ci := 11) rfl h01 rfl rfl ?_
  refine RQ.callN (st' := []) rfl rfl rfl rfl rfl rfl (args_v [] [] rfl rfl (Nat.le_of_ble_eq_true rfl) rfl hb0A.1 (Nat.le_of_ble_eq_true rfl)) (rn_bclearI hb0) (fun H2 hx2 => ?_)
  obtain ⟨hb2, f2⟩ := hx2
  have h02 := (f2 0 (by decide)).trans h01
  have h12 := (f2 1 (by decide)).trans h11
  have h22 := (f2 2 (by decide)).trans h21
  have hT2 : TreeAt H2 t.1 t.2.1 t.2.2.1 t.2.2.2.1 t.2.2.2.2.1 t.2.2.2.2.2 := hT1.far (fun a a1 a2 => f2 a (by omega))
  have hq2 := (f2 64 (by decide)).trans hq0
  have e52 : ∃ q : Nat, H2[5]? = some (kO 5 [.ref 7, .int (nI q)]) := ⟨q5, (f2 5 (by decide)).trans ((far1 5 (by decide)).trans h5)⟩
  have e62 : ∃ g, H2[6]? = some (kB 41 g) := ⟨p6, (f2 6 (by decide)).trans ((far1 6 (by decide)).trans h6)⟩
  refine RQ.blk 3 (pc' := 79) (lv' := [(4, .int (nI (max (t.2.2.1 f) (tt + l)))), (3, .int (nI l)), (0, .ref 1), (1, .int (nI f)), (2, .int (nI tt))]) (st' := [.int (nI tt / 512)]) (H' := _) (kc' := 0) (ks' := 0) rfl ?_
  rw [show (nI tt / 512 : Int32) = nI (tt / 512) from pk_div (a := tt) (d := 512) (by omega) (by omega) (by omega)]
  refine RQ.blk 1 (pc' := 81) (lv' := [(5, .int (nI (tt / 512))), (4, .int (nI (max (t.2.2.1 f) (tt + l)))), (3, .int (nI l)), (0, .ref 1), (1, .int (nI f)), (2, .int (nI tt))]) (st' := []) (H' := _) (kc' := 0) (ks' := 0) rfl ?_
  refine RQ.pick (a := [(5, .int (nI (tt / 512))), (4, .int (nI (max (t.2.2.1 f) (tt + l)))), (3, .int (nI l)), (0, .ref 1), (1, .int (nI f)), (2, .int (nI tt))]) [0, 1, 2, 3, 4, 5] [5, 4, 3, 0, 1, 2] rfl rfl (by decide) ?_
  refine RQ.while (S := Nat) (pc := 81) (fun k H' => k ≤ ((tt + l + 511) / 512 - tt / 512) ∧ BatchIs H' 59 (wrA cf vs f tt l tb k) ∧ (∃ q : Nat, H'[5]? = some (kO 5 [.ref 7, .int (nI q)])) ∧ (∃ g, H'[6]? = some (kB 41 g)) ∧ ∀ a, a ≠ 5 → a ≠ 6 → ¬ (59 ≤ a ∧ a < 64) → H'[a]? = H2[a]?) (fun k => [(5, .int (nI (tt / 512 + k))), (4, .int (nI (max (t.2.2.1 f) (tt + l)))), (3, .int (nI l)), (0, .ref 1), (1, .int (nI f)), (2, .int (nI tt))]) (fun k => ((tt + l + 511) / 512 - tt / 512) - k) ?_ 0 H2 ⟨Nat.zero_le _, hb2, e52, e62, fun _ _ _ _ => rfl⟩
  rintro k H4 ⟨hk1, hb4, e54, e64, f4⟩ ih
  have hal := wrA_len (c := cf) (vs := vs) (f := f) (tt := tt) (n := l) (tb := tb) (fun i => (hpl i).2) k
  have hcn : ((tt + l + 511) / 512 - tt / 512) ≤ 5 := by omega
  by_cases hki : k < ((tt + l + 511) / 512 - tt / 512)
  ·
    have h04 := (f4 0 (by decide) (by decide) (by decide)).trans h02
    refine RQ.blk 2 (pc' := 85) (lv' := [(5, .int (nI (tt / 512 + k))), (4, .int (nI (max (t.2.2.1 f) (tt + l)))), (3, .int (nI l)), (0, .ref 1), (1, .int (nI f)), (2, .int (nI tt))]) (st' := [.int 32, .int (nI (tt / 512 + k))]) (H' := _) (kc' := 0) (ks' := 0) rfl ?_
    refine RQ.brF rfl rfl rfl (cF_ge (tt / 512 + k) 32) ?_
    refine RQ.blk 3 (pc' := 94) (lv' := [(5, .int (nI (tt / 512 + k))), (4, .int (nI (max (t.2.2.1 f) (tt + l)))), (3, .int (nI l)), (0, .ref 1), (1, .int (nI f)), (2, .int (nI tt))]) (st' := [.int (nI (tt / 512 + k) * 512)]) (H' := _) (kc' := 0) (ks' := 0) rfl ?_
    rw [show (nI (tt / 512 + k) * 512 : Int32) = nI ((tt / 512 + k) * 512) from pk_mul (tt / 512 + k) 512]
    refine RQ.blk 3 (pc' := 97) (lv' := [(5, .int (nI (tt / 512 + k))), (4, .int (nI (max (t.2.2.1 f) (tt + l)))), (3, .int (nI l)), (0, .ref 1), (1, .int (nI f)), (2, .int (nI tt))]) (st' := [.int (nI tt + nI l), .int (nI ((tt / 512 + k) * 512))]) (H' := _) (kc' := 0) (ks' := 0) rfl ?_
    rw [show (nI tt + nI l : Int32) = nI (tt + l) from nI_add tt l]
    refine RQ.brF rfl rfl rfl (cF_ge ((tt / 512 + k) * 512) (tt + l)) ?_
    refine RQ.blk 5 (pc' := 106) (lv' := [(5, .int (nI (tt / 512 + k))), (4, .int (nI (max (t.2.2.1 f) (tt + l)))), (3, .int (nI l)), (0, .ref 1), (1, .int (nI f)), (2, .int (nI tt))]) (st' := [.int (nI l), .int (nI tt), .int (nI (tt / 512 + k)), .int (nI f), .ref 1]) (H' := _) (kc' := 0) (ks' := 0) rfl ?_
    refine RQ.callN (st' := []) rfl rfl rfl rfl rfl rfl (args_v [.int (nI l), .int (nI tt), .int (nI (tt / 512 + k)), .int (nI f)] [] rfl rfl (Nat.le_of_ble_eq_true rfl) rfl h04 (Nat.le_of_ble_eq_true rfl)) (rn_chPiece (f := f) (i := tt / 512 + k) (tt := tt) (n := l) h04 e54 e64 hb4 ((f4 1 (by decide) (by decide) (by decide)).trans h12) ((f4 2 (by decide) (by decide) (by decide)).trans h22) (hA.far (fun a a1 a2 => (f4 a (by omega) (by omega) (by omega)).trans ((f2 a (by omega)).trans (far1 a (by omega))))) hVW hvs (hC.far (fun a a1 a2 => (f4 a (by omega) (by omega) (by omega)).trans ((f2 a (by omega)).trans (far1 a (by omega))))) ⟨((f4 83 (by decide) (by decide) (by decide)).trans ((f2 83 (by decide)).trans (far1 83 (by decide)))).trans hY.1, ((f4 86 (by decide) (by decide) (by decide)).trans ((f2 86 (by decide)).trans (far1 86 (by decide)))).trans hY.2.1, ((f4 87 (by decide) (by decide) (by decide)).trans ((f2 87 (by decide)).trans (far1 87 (by decide)))).trans hY.2.2⟩ hB hlc hlg (((f4 190 (by decide) (by decide) (by decide)).trans ((f2 190 (by decide)).trans (far1 190 (by decide)))).trans hG) hRec (hpl _).1 (by omega) (by omega) (by omega) hl2 (by omega) (by omega) hl1 (by omega) (by omega)) (fun H5 hx5 => ?_)
    obtain ⟨z1, z2, z3, z4⟩ := hx5
    refine RQ.blk 1 (pc' := 112) (lv' := [(5, .int (nI (tt / 512 + k) + 1)), (4, .int (nI (max (t.2.2.1 f) (tt + l)))), (3, .int (nI l)), (0, .ref 1), (1, .int (nI f)), (2, .int (nI tt))]) (st' := []) (H' := _) (kc' := 0) (ks' := 0) rfl ?_
    rw [show (nI (tt / 512 + k) + 1 : Int32) = nI (tt / 512 + k + 1) from nI_add (tt / 512 + k) 1]
    refine RQ.blk 1 (pc' := 81) (lv' := [(5, .int (nI (tt / 512 + k + 1))), (4, .int (nI (max (t.2.2.1 f) (tt + l)))), (3, .int (nI l)), (0, .ref 1), (1, .int (nI f)), (2, .int (nI tt))]) (st' := []) (H' := _) (kc' := 0) (ks' := 0) rfl ?_
    refine RQ.pick (a := [(5, .int (nI (tt / 512 + k + 1))), (4, .int (nI (max (t.2.2.1 f) (tt + l)))), (3, .int (nI l)), (0, .ref 1), (1, .int (nI f)), (2, .int (nI tt))]) [0, 1, 2, 3, 4, 5] [5, 4, 3, 0, 1, 2] rfl rfl (by decide) ?_
    rw [show tt / 512 + k + 1 = tt / 512 + (k + 1) by omega]
    exact ih (k + 1) _ ⟨by omega, z1, z2, z3, fun a a1 a2 a3 => (z4 a a1 a2 a3).trans (f4 a a1 a2 a3)⟩ (by omega)
  ·
    have h04 := (f4 0 (by decide) (by decide) (by decide)).trans h02
    have hke : k = ((tt + l + 511) / 512 - tt / 512) := by omega
    rw [hke] at hb4 hal
    have hT4 : TreeAt H4 t.1 t.2.1 t.2.2.1 t.2.2.2.1 t.2.2.2.2.1 t.2.2.2.2.2 := hT2.far (fun a a1 a2 => f4 a (by omega) (by omega) (by omega))
    have hout : 32 ≤ tt / 512 + k ∨ tt + l ≤ (tt / 512 + k) * 512 := by omega
    refine RQ.blk 2 (pc' := 85) (lv' := [(5, .int (nI (tt / 512 + k))), (4, .int (nI (max (t.2.2.1 f) (tt + l)))), (3, .int (nI l)), (0, .ref 1), (1, .int (nI f)), (2, .int (nI tt))]) (st' := [.int 32, .int (nI (tt / 512 + k))]) (H' := _) (kc' := 0) (ks' := 0) rfl ?_
    by_cases k32 : 32 ≤ tt / 512 + k
    · refine RQ.brT rfl rfl rfl (cT_ge (tt / 512 + k) 32) ?_
      refine RQ.blk 2 (pc' := 118) (lv' := [(5, .int (nI (tt / 512 + k))), (4, .int (nI (max (t.2.2.1 f) (tt + l)))), (3, .int (nI l)), (0, .ref 1), (1, .int (nI f)), (2, .int (nI tt))]) (st' := [.ref 1, .int (nI (max (t.2.2.1 f) (tt + l)))]) (H' := _) (kc' := 0) (ks' := 0) rfl ?_
      refine RQ.get (ci := 11) rfl h04 rfl rfl ?_
      refine RQ.blk 1 (pc' := 122) (lv' := [(5, .int (nI (tt / 512 + k))), (4, .int (nI (max (t.2.2.1 f) (tt + l)))), (3, .int (nI l)), (0, .ref 1), (1, .int (nI f)), (2, .int (nI tt))]) (st' := [.int (nI f), .ref 66, .int (nI (max (t.2.2.1 f) (tt + l)))]) (H' := _) (kc' := 0) (ks' := 0) rfl ?_
      refine RQ.call (v := some (.int (nI (t.2.2.1 f)))) (st' := [.int (nI (max (t.2.2.1 f) (tt + l)))]) rfl rfl rfl rfl rfl rfl (args_v [.int (nI f)] [.int (nI (max (t.2.2.1 f) (tt + l)))] rfl rfl (Nat.le_of_ble_eq_true rfl) rfl hT4.1 (Nat.le_of_ble_eq_true rfl)) (rc_sizeOf hT4 hk hf) ?_
      refine RQ.brT rfl rfl rfl (cT_eq (max (t.2.2.1 f) (tt + l)) (t.2.2.1 f)) ?_
      rw [hws] at hb4
      show RQ _ _ _ 135 [(5, .int (nI (tt / 512 + k))), (4, .int (nI (max (t.2.2.1 f) (tt + l)))), (3, .int (nI l)), (0, .ref 1), (1, .int (nI f)), (2, .int (nI tt))] [] H4 0 0 _
      obtain ⟨H3, eH3⟩ : ∃ H3, H3 = H4 := ⟨_, rfl⟩
      rw [← eH3] at hb4 e54 e64 f4 ⊢
      have hb3 := hb4
      have e53 := e54
      have e63 := e64
      have f3 := f4
      have f13 : ∀ a, a ≠ 5 → a ≠ 6 → ¬ (59 ≤ a ∧ a < 64) → H3[a]? = H1[a]? := fun a a1 a2 a3 => (f3 a a1 a2 a3).trans (f2 a (by omega))
      have hc3 : ClsA H3 B P 1 1 1 cp cb tb 0 g rl wss t := by
        obtain ⟨qa, ea⟩ := e53
        obtain ⟨pa, eb⟩ := e63
        obtain ⟨c0, c1, c2, c3, c4, -, ⟨wq2, c10, cwq⟩, cW, -, cT⟩ := hc1
        exact ⟨(f13 0 (by decide) (by decide) (by decide)).trans c0, (f13 1 (by decide) (by decide) (by decide)).trans c1, (f13 2 (by decide) (by decide) (by decide)).trans c2, (f13 3 (by decide) (by decide) (by decide)).trans c3, (f13 4 (by decide) (by decide) (by decide)).trans c4, ⟨qa, pa, ea, eb⟩, ⟨wq2, (f13 10 (by decide) (by decide) (by decide)).trans c10, cwq⟩, fun t ht => ⟨(cW t ht).1.keep (fun a a1 a2 => f13 a (by omega) (by omega) (by omega)), (cW t ht).2.imp (fun Q hQ => (f13 _ (by omega) (by omega) (by omega)).trans hQ)⟩, ⟨⟨_, hb3⟩, Q0, (f3 64 (by decide) (by decide) (by decide)).trans hq2⟩, cT.far (fun a a1 a2 => f13 a (by omega) (by omega) (by omega))⟩
      have fk3 : FrK H H3 := fk1.trans (fun a ha => f13 a (by omega) (by omega) (by omega))
      have hch3 : ChB H H3 B P 1 1 cp cb tb 0 g rl wss t ws := ⟨hc3, hb3, fk3⟩
      obtain ⟨D3, S3, K3, E3, hb3A, hb3L, hb340, hb341⟩ := id hb3
      have hb3k := hb3L.ok hb340 hb341
      have h03 := hc3.1
      have h13 := hc3.2.1
      have h23 := hc3.2.2.1
      have hT3 : TreeAt H3 t.1 t.2.1 t.2.2.1 t.2.2.2.1 t.2.2.2.2.1 t.2.2.2.2.2 := hc3.2.2.2.2.2.2.2.2.2
      refine RQ.blk 2 (pc' := 137) (lv' := [(5, .int (nI (tt / 512 + k))), (4, .int (nI (max (t.2.2.1 f) (tt + l)))), (3, .int (nI l)), (0, .ref 1), (1, .int (nI f)), (2, .int (nI tt))]) (st' := [.ref 1, .ref 1]) (H' := _) (kc' := 0) (ks' := 0) rfl ?_
      refine RQ.get (ci := 11) rfl h03 rfl rfl ?_
      refine RQ.blk 1 (pc' := 141) (lv' := [(5, .int (nI (tt / 512 + k))), (4, .int (nI (max (t.2.2.1 f) (tt + l)))), (3, .int (nI l)), (0, .ref 1), (1, .int (nI f)), (2, .int (nI tt))]) (st' := [.int (-1), .ref 60, .ref 1]) (H' := _) (kc' := 0) (ks' := 0) rfl ?_
      obtain ⟨kf3, kl3, mo3, pl3, le3, al3, od3, sp3, sz3, ss3, ac3, hA3, hVW3, hvs3⟩ := (hV.far (fun a a1 a2 => fk3 a (by omega)) : VersIs H3 N vs)
      refine RQ.call (v := none) (st' := []) rfl rfl rfl rfl rfl rfl (args_v [.int (-1), .ref 60] [] rfl rfl (Nat.le_of_ble_eq_true rfl) rfl h03 (Nat.le_of_ble_eq_true rfl)) (rc_reqRoom h03 hA3 hVW3 hvs3 hb3A hb3k hb3L (hs.far2 (fun a a1 a2 => fk3 a (by omega))) (fun t ht => Nat.lt_trans (hsm t ht) (by decide)) (fun i hi => by obtain ⟨e, he⟩ := lt_get hi; rw [(hb3L i e he).2.1]; exact (hkl e (List.mem_of_getElem? he))) h1W hpr (by omega) hB hle) ?_
      refine RQ.blk 2 (pc' := 146) (lv' := [(5, .int (nI (tt / 512 + k))), (4, .int (nI (max (t.2.2.1 f) (tt + l)))), (3, .int (nI l)), (0, .ref 1), (1, .int (nI f)), (2, .int (nI tt))]) (st' := [.ref 1, .ref 1]) (H' := _) (kc' := 0) (ks' := 0) rfl ?_
      refine RQ.get (ci := 11) rfl h03 rfl rfl ?_
      refine RQ.get (ci := 0) rfl hb3A.1 rfl rfl ?_
      refine RQ.blk 2 (pc' := 154) (lv' := [(5, .int (nI (tt / 512 + k))), (4, .int (nI (max (t.2.2.1 f) (tt + l)))), (3, .int (nI l)), (0, .ref 1), (1, .int (nI f)), (2, .int (nI tt))]) (st' := [.int (nI ws.length + 1), .ref 1]) (H' := _) (kc' := 0) (ks' := 0) rfl ?_
      rw [show (nI ws.length + 1 : Int32) = nI (ws.length + 1) from nI_add ws.length 1]
      refine RQ.call (v := none) (st' := []) rfl rfl rfl rfl rfl rfl (args_v [.int (nI (ws.length + 1))] [] rfl rfl (Nat.le_of_ble_eq_true rfl) rfl h03 (Nat.le_of_ble_eq_true rfl)) (rc_armCutL h03) ?_
      refine RQ.blk 2 (pc' := 159) (lv' := [(5, .int (nI (tt / 512 + k))), (4, .int (nI (max (t.2.2.1 f) (tt + l)))), (3, .int (nI l)), (0, .ref 1), (1, .int (nI f)), (2, .int (nI tt))]) (st' := [.ref 1, .ref 1]) (H' := _) (kc' := 0) (ks' := 0) rfl ?_
      refine RQ.callB (st' := [.ref 1]) rfl rfl rfl rfl rfl rfl (args_v [] [.ref 1] rfl rfl (Nat.le_of_ble_eq_true rfl) rfl h03 (Nat.le_of_ble_eq_true rfl)) (hRM H3 hch3) (fun H4 hH4 => ?_) (fun H4 hH4 => False.elim hH4)
      · have g1 := hf1 H4 hH4
        refine RQ.brF rfl rfl rfl (by decide) ?_
        refine RQ.blk 2 (pc' := 167) (lv' := [(5, .int (nI (tt / 512 + k))), (4, .int (nI (max (t.2.2.1 f) (tt + l)))), (3, .int (nI l)), (0, .ref 1), (1, .int (nI f)), (2, .int (nI tt))]) (st' := [.ref 1, .ref 1, .ref 1]) (H' := _) (kc' := 0) (ks' := 0) rfl ?_
        refine RQ.get (ci := 11) rfl g1 rfl rfl ?_
        refine RQ.callB (st' := [.ref 1]) rfl rfl rfl rfl rfl rfl (args_v [.ref 60] [.ref 1] rfl rfl (Nat.le_of_ble_eq_true rfl) rfl g1 (Nat.le_of_ble_eq_true rfl)) (hST H4 hH4) (fun H5 hH5 => ?_) (fun H5 hH5 => False.elim hH5)
        · have g2 := hf2 H5 hH5
          refine RQ.brF rfl rfl rfl (by decide) ?_
          refine RQ.blk 2 (pc' := 181) (lv' := [(5, .int (nI (tt / 512 + k))), (4, .int (nI (max (t.2.2.1 f) (tt + l)))), (3, .int (nI l)), (0, .ref 1), (1, .int (nI f)), (2, .int (nI tt))]) (st' := [.int 1, .ref 1]) (H' := _) (kc' := 0) (ks' := 0) rfl ?_
          obtain ⟨HX, hxX, hpX⟩ := hSE H5 hH5
          exact RQ.callP (st' := []) rfl rfl rfl rfl rfl rfl (args_v [.int 1] [] rfl rfl (Nat.le_of_ble_eq_true rfl) rfl g2 (Nat.le_of_ble_eq_true rfl)) hxX rfl ⟨_, 1, by decide, rfl, hpX⟩
    · refine RQ.brF rfl rfl rfl (cF_ge (tt / 512 + k) 32) ?_
      refine RQ.blk 3 (pc' := 94) (lv' := [(5, .int (nI (tt / 512 + k))), (4, .int (nI (max (t.2.2.1 f) (tt + l)))), (3, .int (nI l)), (0, .ref 1), (1, .int (nI f)), (2, .int (nI tt))]) (st' := [.int (nI (tt / 512 + k) * 512)]) (H' := _) (kc' := 0) (ks' := 0) rfl ?_
      rw [show (nI (tt / 512 + k) * 512 : Int32) = nI ((tt / 512 + k) * 512) from pk_mul (tt / 512 + k) 512]
      refine RQ.blk 3 (pc' := 97) (lv' := [(5, .int (nI (tt / 512 + k))), (4, .int (nI (max (t.2.2.1 f) (tt + l)))), (3, .int (nI l)), (0, .ref 1), (1, .int (nI f)), (2, .int (nI tt))]) (st' := [.int (nI tt + nI l), .int (nI ((tt / 512 + k) * 512))]) (H' := _) (kc' := 0) (ks' := 0) rfl ?_
      rw [show (nI tt + nI l : Int32) = nI (tt + l) from nI_add tt l]
      refine RQ.brT rfl rfl rfl (cT_ge ((tt / 512 + k) * 512) (tt + l)) ?_
      refine RQ.blk 2 (pc' := 118) (lv' := [(5, .int (nI (tt / 512 + k))), (4, .int (nI (max (t.2.2.1 f) (tt + l)))), (3, .int (nI l)), (0, .ref 1), (1, .int (nI f)), (2, .int (nI tt))]) (st' := [.ref 1, .int (nI (max (t.2.2.1 f) (tt + l)))]) (H' := _) (kc' := 0) (ks' := 0) rfl ?_
      refine RQ.get (ci := 11) rfl h04 rfl rfl ?_
      refine RQ.blk 1 (pc' := 122) (lv' := [(5, .int (nI (tt / 512 + k))), (4, .int (nI (max (t.2.2.1 f) (tt + l)))), (3, .int (nI l)), (0, .ref 1), (1, .int (nI f)), (2, .int (nI tt))]) (st' := [.int (nI f), .ref 66, .int (nI (max (t.2.2.1 f) (tt + l)))]) (H' := _) (kc' := 0) (ks' := 0) rfl ?_
      refine RQ.call (v := some (.int (nI (t.2.2.1 f)))) (st' := [.int (nI (max (t.2.2.1 f) (tt + l)))]) rfl rfl rfl rfl rfl rfl (args_v [.int (nI f)] [.int (nI (max (t.2.2.1 f) (tt + l)))] rfl rfl (Nat.le_of_ble_eq_true rfl) rfl hT4.1 (Nat.le_of_ble_eq_true rfl)) (rc_sizeOf hT4 hk hf) ?_
      refine RQ.brT rfl rfl rfl (cT_eq (max (t.2.2.1 f) (tt + l)) (t.2.2.1 f)) ?_
      rw [hws] at hb4
      show RQ _ _ _ 135 [(5, .int (nI (tt / 512 + k))), (4, .int (nI (max (t.2.2.1 f) (tt + l)))), (3, .int (nI l)), (0, .ref 1), (1, .int (nI f)), (2, .int (nI tt))] [] H4 0 0 _
      obtain ⟨H3, eH3⟩ : ∃ H3, H3 = H4 := ⟨_, rfl⟩
      rw [← eH3] at hb4 e54 e64 f4 ⊢
      have hb3 := hb4
      have e53 := e54
      have e63 := e64
      have f3 := f4
      have f13 : ∀ a, a ≠ 5 → a ≠ 6 → ¬ (59 ≤ a ∧ a < 64) → H3[a]? = H1[a]? := fun a a1 a2 a3 => (f3 a a1 a2 a3).trans (f2 a (by omega))
      have hc3 : ClsA H3 B P 1 1 1 cp cb tb 0 g rl wss t := by
        obtain ⟨qa, ea⟩ := e53
        obtain ⟨pa, eb⟩ := e63
        obtain ⟨c0, c1, c2, c3, c4, -, ⟨wq2, c10, cwq⟩, cW, -, cT⟩ := hc1
        exact ⟨(f13 0 (by decide) (by decide) (by decide)).trans c0, (f13 1 (by decide) (by decide) (by decide)).trans c1, (f13 2 (by decide) (by decide) (by decide)).trans c2, (f13 3 (by decide) (by decide) (by decide)).trans c3, (f13 4 (by decide) (by decide) (by decide)).trans c4, ⟨qa, pa, ea, eb⟩, ⟨wq2, (f13 10 (by decide) (by decide) (by decide)).trans c10, cwq⟩, fun t ht => ⟨(cW t ht).1.keep (fun a a1 a2 => f13 a (by omega) (by omega) (by omega)), (cW t ht).2.imp (fun Q hQ => (f13 _ (by omega) (by omega) (by omega)).trans hQ)⟩, ⟨⟨_, hb3⟩, Q0, (f3 64 (by decide) (by decide) (by decide)).trans hq2⟩, cT.far (fun a a1 a2 => f13 a (by omega) (by omega) (by omega))⟩
      have fk3 : FrK H H3 := fk1.trans (fun a ha => f13 a (by omega) (by omega) (by omega))
      have hch3 : ChB H H3 B P 1 1 cp cb tb 0 g rl wss t ws := ⟨hc3, hb3, fk3⟩
      obtain ⟨D3, S3, K3, E3, hb3A, hb3L, hb340, hb341⟩ := id hb3
      have hb3k := hb3L.ok hb340 hb341
      have h03 := hc3.1
      have h13 := hc3.2.1
      have h23 := hc3.2.2.1
      have hT3 : TreeAt H3 t.1 t.2.1 t.2.2.1 t.2.2.2.1 t.2.2.2.2.1 t.2.2.2.2.2 := hc3.2.2.2.2.2.2.2.2.2
      refine RQ.blk 2 (pc' := 137) (lv' := [(5, .int (nI (tt / 512 + k))), (4, .int (nI (max (t.2.2.1 f) (tt + l)))), (3, .int (nI l)), (0, .ref 1), (1, .int (nI f)), (2, .int (nI tt))]) (st' := [.ref 1, .ref 1]) (H' := _) (kc' := 0) (ks' := 0) rfl ?_
      refine RQ.get (ci := 11) rfl h03 rfl rfl ?_
      refine RQ.blk 1 (pc' := 141) (lv' := [(5, .int (nI (tt / 512 + k))), (4, .int (nI (max (t.2.2.1 f) (tt + l)))), (3, .int (nI l)), (0, .ref 1), (1, .int (nI f)), (2, .int (nI tt))]) (st' := [.int (-1), .ref 60, .ref 1]) (H' := _) (kc' := 0) (ks' := 0) rfl ?_
      obtain ⟨kf3, kl3, mo3, pl3, le3, al3, od3, sp3, sz3, ss3, ac3, hA3, hVW3, hvs3⟩ := (hV.far (fun a a1 a2 => fk3 a (by omega)) : VersIs H3 N vs)
      refine RQ.call (v := none) (st' := []) rfl rfl rfl rfl rfl rfl (args_v [.int (-1), .ref 60] [] rfl rfl (Nat.le_of_ble_eq_true rfl) rfl h03 (Nat.le_of_ble_eq_true rfl)) (rc_reqRoom h03 hA3 hVW3 hvs3 hb3A hb3k hb3L (hs.far2 (fun a a1 a2 => fk3 a (by omega))) (fun t ht => Nat.lt_trans (hsm t ht) (by decide)) (fun i hi => by obtain ⟨e, he⟩ := lt_get hi; rw [(hb3L i e he).2.1]; exact (hkl e (List.mem_of_getElem? he))) h1W hpr (by omega) hB hle) ?_
      refine RQ.blk 2 (pc' := 146) (lv' := [(5, .int (nI (tt / 512 + k))), (4, .int (nI (max (t.2.2.1 f) (tt + l)))), (3, .int (nI l)), (0, .ref 1), (1, .int (nI f)), (2, .int (nI tt))]) (st' := [.ref 1, .ref 1]) (H' := _) (kc' := 0) (ks' := 0) rfl ?_
      refine RQ.get (ci := 11) rfl h03 rfl rfl ?_
      refine RQ.get (ci := 0) rfl hb3A.1 rfl rfl ?_
      refine RQ.blk 2 (pc' := 154) (lv' := [(5, .int (nI (tt / 512 + k))), (4, .int (nI (max (t.2.2.1 f) (tt + l)))), (3, .int (nI l)), (0, .ref 1), (1, .int (nI f)), (2, .int (nI tt))]) (st' := [.int (nI ws.length + 1), .ref 1]) (H' := _) (kc' := 0) (ks' := 0) rfl ?_
      rw [show (nI ws.length + 1 : Int32) = nI (ws.length + 1) from nI_add ws.length 1]
      refine RQ.call (v := none) (st' := []) rfl rfl rfl rfl rfl rfl (args_v [.int (nI (ws.length + 1))] [] rfl rfl (Nat.le_of_ble_eq_true rfl) rfl h03 (Nat.le_of_ble_eq_true rfl)) (rc_armCutL h03) ?_
      refine RQ.blk 2 (pc' := 159) (lv' := [(5, .int (nI (tt / 512 + k))), (4, .int (nI (max (t.2.2.1 f) (tt + l)))), (3, .int (nI l)), (0, .ref 1), (1, .int (nI f)), (2, .int (nI tt))]) (st' := [.ref 1, .ref 1]) (H' := _) (kc' := 0) (ks' := 0) rfl ?_
      refine RQ.callB (st' := [.ref 1]) rfl rfl rfl rfl rfl rfl (args_v [] [.ref 1] rfl rfl (Nat.le_of_ble_eq_true rfl) rfl h03 (Nat.le_of_ble_eq_true rfl)) (hRM H3 hch3) (fun H4 hH4 => ?_) (fun H4 hH4 => False.elim hH4)
      · have g1 := hf1 H4 hH4
        refine RQ.brF rfl rfl rfl (by decide) ?_
        refine RQ.blk 2 (pc' := 167) (lv' := [(5, .int (nI (tt / 512 + k))), (4, .int (nI (max (t.2.2.1 f) (tt + l)))), (3, .int (nI l)), (0, .ref 1), (1, .int (nI f)), (2, .int (nI tt))]) (st' := [.ref 1, .ref 1, .ref 1]) (H' := _) (kc' := 0) (ks' := 0) rfl ?_
        refine RQ.get (ci := 11) rfl g1 rfl rfl ?_
        refine RQ.callB (st' := [.ref 1]) rfl rfl rfl rfl rfl rfl (args_v [.ref 60] [.ref 1] rfl rfl (Nat.le_of_ble_eq_true rfl) rfl g1 (Nat.le_of_ble_eq_true rfl)) (hST H4 hH4) (fun H5 hH5 => ?_) (fun H5 hH5 => False.elim hH5)
        · have g2 := hf2 H5 hH5
          refine RQ.brF rfl rfl rfl (by decide) ?_
          refine RQ.blk 2 (pc' := 181) (lv' := [(5, .int (nI (tt / 512 + k))), (4, .int (nI (max (t.2.2.1 f) (tt + l)))), (3, .int (nI l)), (0, .ref 1), (1, .int (nI f)), (2, .int (nI tt))]) (st' := [.int 1, .ref 1]) (H' := _) (kc' := 0) (ks' := 0) rfl ?_
          obtain ⟨HX, hxX, hpX⟩ := hSE H5 hH5
          exact RQ.callP (st' := []) rfl rfl rfl rfl rfl rfl (args_v [.int 1] [] rfl rfl (Nat.le_of_ble_eq_true rfl) rfl g2 (Nat.le_of_ble_eq_true rfl)) hxX rfl ⟨_, 1, by decide, rfl, hpX⟩
set_option maxRecDepth 20000 in
theorem rx_write0_cut {sc : Nat × (Nat → Int32)} {d : Nat} {H : aH} {B P : Nat}  {cp cb : Nat} {tb : Nat → Int8} {l : Nat} {g : Nat → Int8} {rl : Nat} {wss : Nat → List aE} {t : aTr} {f tt : Nat} {ws : List aE} {op : Nat → Bool} {sm : Nat → Nat} {N : Nat} {kf : Nat → Int8} {kl mo pl : Nat → Nat} {le : Nat → Option Nat} {al : Nat → Bool} {od sp : Nat → Nat} {sz ss ac : Nat} {vs : List aV} {cf : Nat → Int8} {tf : Nat → Nat} {pq : Option Nat} {bb ov lc fr ff : Nat} {wr : Bool} {tp rc ms mt sq tu tn nb : Nat} {us : Nat → Bool} {lg : Nat → Nat} {mp hv : Nat} {ok1 bad fin : aH → Prop} (h : ClsA H B P 1 1 0 cp cb tb l g rl wss t) (hk : TreeOk t.1 t.2.1 t.2.2.1 t.2.2.2.1) (hf : f ≤ 200) (hl1 : 1 ≤ l) (hl2 : l ≤ 2000) (htt : tt ≤ 16384 - l) (hkd : t.1 f = 1) (hgr : ¬ t.2.2.1 f < tt + l) (hws : (wrA cf vs f tt l tb ((tt + l + 511) / 512 - tt / 512)) = ws) (h1W : OneW ws) (hkl : ∀ e ∈ ws, 1 ≤ e.1.length) (hA : VersAt H N kf kl mo pl le al od sp sz ss ac) (hVW : VersWf N kf kl mo pl le al od sp sz ss ac) (hvs : vs = vsL kf kl mo pl le al od sz) (hC : ChipAt H B cf tf pq bb ov) (hY : LayAt H (layF B lc fr ff wr tp rc ms mt sq tu tn nb) B us lg) (hB : B ≤ 128) (hlc : lc ≤ B) (hlg : ∀ j, j < lc → lg j < 2 ^ 30) (hG : H[190]? = some (kO 4 (logF mp hv))) (hRec : RecsOk cf B lg lc vs) (hpl : ∀ i, (∀ v : aV, seenV vs [2, f, i] (2 ^ 30) = some v → ∀ n, v.2.2.2.1 = some n → n ≤ 512) ∧ (pcV cf vs f i).length ≤ 512) (hs : SightAt H op sm) (hsm : ∀ t, t < 8 → sm t < 2 ^ 30) (hV : VersIs H N vs) (hpr : ∀ v ∈ vs, v.2.1 ≤ P) (hP : P + 1 < 2 ^ 30) (hle : sumN op sm (-1) (P + 1) (kmV (inclV (P + 1) (fun _ => 0) 0 ws vs)) (inclV (P + 1) (fun _ => 0) 0 ws vs) ≤ B * 256) (hC0 : ∀ H', ChB H H' B P 1 0 cp cb tb 0 g rl wss t ws → ∃ cf tf pq bb, ChipAt H' B cf tf pq bb 0) (hcp : cp < 2 ^ 31) (hRM : ∀ H', ChB H H' B P 1 0 cp cb tb 0 g rl wss t ws → RB sc (d + 7) mr_96 [.ref 1] (H'.set 71 (kO 1 [.ref 73, .ref 74, .int (lI (some (cp % (ws.length + 1)))), .int (nI cb), .int (nI 0)])) ok1 bad) (hST : ∀ H', ok1 H' → RB sc (d + 7) mr_150 [.ref 1, .ref 60] H' (fun _ => False) bad) (hf1 : ∀ H', ok1 H' → H'[0]? = some (kO 11 (fvs (nI B) (nI P) 1 1 0 (nI cp) (nI cb)))) (hSB : ∀ H', bad H' → RX sc (d + 7) mr_153 [.ref 1, .int 0] H' 1 fin) (hfb : ∀ H', bad H' → H'[0]? = some (kO 11 (fvs (nI B) (nI P) 1 1 0 (nI cp) (nI cb)))) : RXc sc (d + 8) mr_238 [.ref 1, .int (nI f), .int (nI tt)] H 1 (fun H' => fin H') := by
  obtain ⟨h0, h1, h2, h3, h4, ⟨q5, p6, h5, h6⟩, ⟨wq, h10, hwq⟩, hW, hCh, hT⟩ := id h
  refine RXc.of ?_
  refine RQ.blk 2 (pc' := 2) (lv' := [(0, .ref 1), (1, .int (nI f)), (2, .int (nI tt))]) (st' := [.int (nI f), .ref 1]) (H' := _) (kc' := 0) (ks' := 0) rfl ?_
  refine RQ.call (v := none) (st' := []) rfl rfl rfl rfl rfl rfl (args_v [.int (nI f)] [] rfl rfl (Nat.le_of_ble_eq_true rfl) rfl h0 (Nat.le_of_ble_eq_true rfl)) (rc_reqNum h0 hf) ?_
  refine RQ.blk 2 (pc' := 7) (lv' := [(0, .ref 1), (1, .int (nI f)), (2, .int (nI tt))]) (st' := [.ref 1, .ref 1]) (H' := _) (kc' := 0) (ks' := 0) rfl ?_
  refine RQ.get (ci := 11) rfl h0 rfl rfl ?_
  refine RQ.get (ci := 5) rfl h1 rfl rfl ?_
  refine RQ.blk 2 (pc' := 17) (lv' := [(0, .ref 1), (1, .int (nI f)), (2, .int (nI tt))]) (st' := [.int 2000, .int 1, .int (nI l), .ref 1]) (H' := _) (kc' := 0) (ks' := 0) rfl ?_
  refine RQ.call (v := none) (st' := []) rfl rfl rfl rfl rfl rfl (args_v [.int 2000, .int 1, .int (nI l)] [] rfl rfl (Nat.le_of_ble_eq_true rfl) rfl h0 (Nat.le_of_ble_eq_true rfl)) (rc_range (fun e => absurd e (nI_nlt hl1 (by omega))) (rg_hi (n := 2000) hl2 (by decide))) ?_
  refine RQ.blk 5 (pc' := 27) (lv' := [(0, .ref 1), (1, .int (nI f)), (2, .int (nI tt))]) (st' := [.ref 1, .int 16384, .int 0, .int (nI tt), .ref 1]) (H' := _) (kc' := 0) (ks' := 0) rfl ?_
  refine RQ.get (ci := 11) rfl h0 rfl rfl ?_
  refine RQ.get (ci := 5) rfl h1 rfl rfl ?_
  refine RQ.blk 1 (pc' := 34) (lv' := [(0, .ref 1), (1, .int (nI f)), (2, .int (nI tt))]) (st' := [.int (16384 - nI l), .int 0, .int (nI tt), .ref 1]) (H' := _) (kc' := 0) (ks' := 0) rfl ?_
  rw [show (16384 - nI l : Int32) = nI (16384 - l) from pk_sub (a := 16384) (b := l) (by omega)]
  refine RQ.call (v := none) (st' := []) rfl rfl rfl rfl rfl rfl (args_v [.int (nI (16384 - l)), .int 0, .int (nI tt)] [] rfl rfl (Nat.le_of_ble_eq_true rfl) rfl h0 (Nat.le_of_ble_eq_true rfl)) (rc_range (nI_nlt (Nat.zero_le tt) (by omega)) (rg_hi (n := 16384 - l) htt (by omega))) ?_
  refine RQ.blk 1 (pc' := 38) (lv' := [(0, .ref 1), (1, .int (nI f)), (2, .int (nI tt))]) (st' := [.ref 1]) (H' := _) (kc' := 0) (ks' := 0) rfl ?_
  refine RQ.call (v := none) (st' := []) rfl rfl rfl rfl rfl rfl (args_v [] [] rfl rfl (Nat.le_of_ble_eq_true rfl) rfl h0 (Nat.le_of_ble_eq_true rfl)) (rc_up h0 rfl) ?_
  refine RQ.blk 1 (pc' := 42) (lv' := [(0, .ref 1), (1, .int (nI f)), (2, .int (nI tt))]) (st' := [.ref 1]) (H' := _) (kc' := 0) (ks' := 0) rfl ?_
  refine RQ.call (v := some (.int (nI l))) (st' := []) rfl rfl rfl rfl rfl rfl (args_v [] [] rfl rfl (Nat.le_of_ble_eq_true rfl) rfl h0 (Nat.le_of_ble_eq_true rfl)) (rc_takeTape h0 h1) ?_
  have far1 : ∀ a, a ≠ 1 → (H.set 1 (kO 5 [.ref 3, .int (nI 0)]))[a]? = H[a]? := fun a ha => set_far ha
  have h11 : (H.set 1 (kO 5 [.ref 3, .int (nI 0)]))[1]? = some (kO 5 [.ref 3, .int (nI 0)]) := get_set h1
  refine RQ.blk 1 (pc' := 46) (lv' := [(3, .int (nI l)), (0, .ref 1), (1, .int (nI f)), (2, .int (nI tt))]) (st' := []) (H' := _) (kc' := 0) (ks' := 0) rfl ?_
  show RQ _ _ _ 46 [(3, .int (nI l)), (0, .ref 1), (1, .int (nI f)), (2, .int (nI tt))] [] (H.set 1 (kO 5 [.ref 3, .int (nI 0)])) 0 0 _
  generalize (H.set 1 (kO 5 [.ref 3, .int (nI 0)])) = H1 at far1 h11 ⊢
  have h01 := (far1 0 (by decide)).trans h0
  have h21 := (far1 2 (by decide)).trans h2
  have hT1 : TreeAt H1 t.1 t.2.1 t.2.2.1 t.2.2.2.1 t.2.2.2.2.1 t.2.2.2.2.2 := hT.far (fun a a1 a2 => far1 a (by omega))
  have hc1 : ClsA H1 B P 1 1 0 cp cb tb 0 g rl wss t := h.small h01 h11 h21 ((far1 3 (by decide)).trans h3) ((far1 4 (by decide)).trans h4) ⟨q5, p6, (far1 5 (by decide)).trans h5, (far1 6 (by decide)).trans h6⟩ (fun a a1 a2 => far1 a (by omega))
  have fk1 : FrK H H1 := fun a ha => far1 a (by omega)
  refine RQ.blk 2 (pc' := 48) (lv' := [(3, .int (nI l)), (0, .ref 1), (1, .int (nI f)), (2, .int (nI tt))]) (st' := [.int (nI f), .ref 1]) (H' := _) (kc' := 0) (ks' := 0) rfl ?_
  refine RQ.call (v := none) (st' := []) rfl rfl rfl rfl rfl rfl (args_v [.int (nI f)] [] rfl rfl (Nat.le_of_ble_eq_true rfl) rfl h01 (Nat.le_of_ble_eq_true rfl)) (rc_requireFile1 h01 hT1 hk hf hkd) ?_
  refine RQ.blk 1 (pc' := 52) (lv' := [(3, .int (nI l)), (0, .ref 1), (1, .int (nI f)), (2, .int (nI tt))]) (st' := [.ref 1]) (H' := _) (kc' := 0) (ks' := 0) rfl ?_
  refine RQ.get (ci := 11) rfl h01 rfl rfl ?_
  refine RQ.blk 1 (pc' := 56) (lv' := [(3, .int (nI l)), (0, .ref 1), (1, .int (nI f)), (2, .int (nI tt))]) (st' := [.int (nI f), .ref 66]) (H' := _) (kc' := 0) (ks' := 0) rfl ?_
  refine RQ.call (v := some (.int (nI (t.2.2.1 f)))) (st' := []) rfl rfl rfl rfl rfl rfl (args_v [.int (nI f)] [] rfl rfl (Nat.le_of_ble_eq_true rfl) rfl hT1.1 (Nat.le_of_ble_eq_true rfl)) (rc_sizeOf hT1 hk hf) ?_
  have hkf := hk f hf
  refine RQ.blk 3 (pc' := 62) (lv' := [(3, .int (nI l)), (0, .ref 1), (1, .int (nI f)), (2, .int (nI tt))]) (st' := [.int (nI tt + nI l), .int (nI (t.2.2.1 f))]) (H' := _) (kc' := 0) (ks' := 0) rfl ?_
  rw [show (nI tt + nI l : Int32) = nI (tt + l) from nI_add tt l]
  refine RQ.blk 1 (pc' := 65) (lv' := [(3, .int (nI l)), (0, .ref 1), (1, .int (nI f)), (2, .int (nI tt))]) (st' := [.int (if nI (t.2.2.1 f) < nI (tt + l) then nI (tt + l) else nI (t.2.2.1 f))]) (H' := _) (kc' := 0) (ks' := 0) rfl ?_
  rw [show (if nI (t.2.2.1 f) < nI (tt + l) then nI (tt + l) else nI (t.2.2.1 f) : Int32) = nI (max (t.2.2.1 f) (tt + l)) from maxI (a := (t.2.2.1 f)) (b := (tt + l)) (by omega) (by omega)]
  refine RQ.blk 1 (pc' := 67) (lv' := [(4, .int (nI (max (t.2.2.1 f) (tt + l)))), (3, .int (nI l)), (0, .ref 1), (1, .int (nI f)), (2, .int (nI tt))]) (st' := []) (H' := _) (kc' := 0) (ks' := 0) rfl ?_
  obtain ⟨⟨ws0, hb0⟩, Q0, hq0⟩ := hc1.2.2.2.2.2.2.2.2.1
  obtain ⟨D0, S0, K0, E0, hb0A, -⟩ := id hb0
  refine RQ.blk 1 (pc' := 68) (lv' := [(4, .int (nI (max (t.2.2.1 f) (tt + l)))), (3, .int (nI l)), (0, .ref 1), (1, .int (nI f)), (2, .int (nI tt))]) (st' := [.ref 1]) (H' := _) (kc' := 0) (ks' := 0) rfl ?_
  refine RQ.get (ci := 11) rfl h01 rfl rfl ?_
  refine RQ.callN (st' := []) rfl rfl rfl rfl rfl rfl (args_v [] [] rfl rfl (Nat.le_of_ble_eq_true rfl) rfl hb0A.1 (Nat.le_of_ble_eq_true rfl)) (rn_bclearI hb0) (fun H2 hx2 => ?_)
  obtain ⟨hb2, f2⟩ := hx2
  have h02 := (f2 0 (by decide)).trans h01
  have h12 := (f2 1 (by decide)).trans h11
  have h22 := (f2 2 (by decide)).trans h21
  have hT2 : TreeAt H2 t.1 t.2.1 t.2.2.1 t.2.2.2.1 t.2.2.2.2.1 t.2.2.2.2.2 := hT1.far (fun a a1 a2 => f2 a (by omega))
  have hq2 := (f2 64 (by decide)).trans hq0
  have e52 : ∃ q : Nat, H2[5]? = some (kO 5 [.ref 7, .int (nI q)]) := ⟨q5, (f2 5 (by decide)).trans ((far1 5 (by decide)).trans h5)⟩
  have e62 : ∃ g, H2[6]? = some (kB 41 g) := ⟨p6, (f2 6 (by decide)).trans ((far1 6 (by decide)).trans h6)⟩
  refine RQ.blk 3 (pc' := 79) (lv' := [(4, .int (nI (max (t.2.2.1 f) (tt + l)))), (3, .int (nI l)), (0, .ref 1), (1, .int (nI f)), (2, .int (nI tt))]) (st' := [.int (nI tt / 512)]) (H' := _) (kc' := 0) (ks' := 0) rfl ?_
  rw [show (nI tt / 512 : Int32) = nI (tt / 512) from pk_div (a := tt) (d := 512) (by omega) (by omega) (by omega)]
  refine RQ.blk 1 (pc' := 81) (lv' := [(5, .int (nI (tt / 512))), (4, .int (nI (max (t.2.2.1 f) (tt + l)))), (3, .int (nI l)), (0, .ref 1), (1, .int (nI f)), (2, .int (nI tt))]) (st' := []) (H' := _) (kc' := 0) (ks' := 0) rfl ?_
  refine RQ.pick (a := [(5, .int (nI (tt / 512))), (4, .int (nI (max (t.2.2.1 f) (tt + l)))), (3, .int (nI l)), (0, .ref 1), (1, .int (nI f)), (2, .int (nI tt))]) [0, 1, 2, 3, 4, 5] [5, 4, 3, 0, 1, 2] rfl rfl (by decide) ?_
  refine RQ.while (S := Nat) (pc := 81) (fun k H' => k ≤ ((tt + l + 511) / 512 - tt / 512) ∧ BatchIs H' 59 (wrA cf vs f tt l tb k) ∧ (∃ q : Nat, H'[5]? = some (kO 5 [.ref 7, .int (nI q)])) ∧ (∃ g, H'[6]? = some (kB 41 g)) ∧ ∀ a, a ≠ 5 → a ≠ 6 → ¬ (59 ≤ a ∧ a < 64) → H'[a]? = H2[a]?) (fun k => [(5, .int (nI (tt / 512 + k))), (4, .int (nI (max (t.2.2.1 f) (tt + l)))), (3, .int (nI l)), (0, .ref 1), (1, .int (nI f)), (2, .int (nI tt))]) (fun k => ((tt + l + 511) / 512 - tt / 512) - k) ?_ 0 H2 ⟨Nat.zero_le _, hb2, e52, e62, fun _ _ _ _ => rfl⟩
  rintro k H4 ⟨hk1, hb4, e54, e64, f4⟩ ih
  have hal := wrA_len (c := cf) (vs := vs) (f := f) (tt := tt) (n := l) (tb := tb) (fun i => (hpl i).2) k
  have hcn : ((tt + l + 511) / 512 - tt / 512) ≤ 5 := by omega
  by_cases hki : k < ((tt + l + 511) / 512 - tt / 512)
  ·
    have h04 := (f4 0 (by decide) (by decide) (by decide)).trans h02
    refine RQ.blk 2 (pc' := 85) (lv' := [(5, .int (nI (tt / 512 + k))), (4, .int (nI (max (t.2.2.1 f) (tt + l)))), (3, .int (nI l)), (0, .ref 1), (1, .int (nI f)), (2, .int (nI tt))]) (st' := [.int 32, .int (nI (tt / 512 + k))]) (H' := _) (kc' := 0) (ks' := 0) rfl ?_
    refine RQ.brF rfl rfl rfl (cF_ge (tt / 512 + k) 32) ?_
    refine RQ.blk 3 (pc' := 94) (lv' := [(5, .int (nI (tt / 512 + k))), (4, .int (nI (max (t.2.2.1 f) (tt + l)))), (3, .int (nI l)), (0, .ref 1), (1, .int (nI f)), (2, .int (nI tt))]) (st' := [.int (nI (tt / 512 + k) * 512)]) (H' := _) (kc' := 0) (ks' := 0) rfl ?_
    rw [show (nI (tt / 512 + k) * 512 : Int32) = nI ((tt / 512 + k) * 512) from pk_mul (tt / 512 + k) 512]
    refine RQ.blk 3 (pc' := 97) (lv' := [(5, .int (nI (tt / 512 + k))), (4, .int (nI (max (t.2.2.1 f) (tt + l)))), (3, .int (nI l)), (0, .ref 1), (1, .int (nI f)), (2, .int (nI tt))]) (st' := [.int (nI tt + nI l), .int (nI ((tt / 512 + k) * 512))]) (H' := _) (kc' := 0) (ks' := 0) rfl ?_
    rw [show (nI tt + nI l : Int32) = nI (tt + l) from nI_add tt l]
    refine RQ.brF rfl rfl rfl (cF_ge ((tt / 512 + k) * 512) (tt + l)) ?_
    refine RQ.blk 5 (pc' := 106) (lv' := [(5, .int (nI (tt / 512 + k))), (4, .int (nI (max (t.2.2.1 f) (tt + l)))), (3, .int (nI l)), (0, .ref 1), (1, .int (nI f)), (2, .int (nI tt))]) (st' := [.int (nI l), .int (nI tt), .int (nI (tt / 512 + k)), .int (nI f), .ref 1]) (H' := _) (kc' := 0) (ks' := 0) rfl ?_
    refine RQ.callN (st' := []) rfl rfl rfl rfl rfl rfl (args_v [.int (nI l), .int (nI tt), .int (nI (tt / 512 + k)), .int (nI f)] [] rfl rfl (Nat.le_of_ble_eq_true rfl) rfl h04 (Nat.le_of_ble_eq_true rfl)) (rn_chPiece (f := f) (i := tt / 512 + k) (tt := tt) (n := l) h04 e54 e64 hb4 ((f4 1 (by decide) (by decide) (by decide)).trans h12) ((f4 2 (by decide) (by decide) (by decide)).trans h22) (hA.far (fun a a1 a2 => (f4 a (by omega) (by omega) (by omega)).trans ((f2 a (by omega)).trans (far1 a (by omega))))) hVW hvs (hC.far (fun a a1 a2 => (f4 a (by omega) (by omega) (by omega)).trans ((f2 a (by omega)).trans (far1 a (by omega))))) ⟨((f4 83 (by decide) (by decide) (by decide)).trans ((f2 83 (by decide)).trans (far1 83 (by decide)))).trans hY.1, ((f4 86 (by decide) (by decide) (by decide)).trans ((f2 86 (by decide)).trans (far1 86 (by decide)))).trans hY.2.1, ((f4 87 (by decide) (by decide) (by decide)).trans ((f2 87 (by decide)).trans (far1 87 (by decide)))).trans hY.2.2⟩ hB hlc hlg (((f4 190 (by decide) (by decide) (by decide)).trans ((f2 190 (by decide)).trans (far1 190 (by decide)))).trans hG) hRec (hpl _).1 (by omega) (by omega) (by omega) hl2 (by omega) (by omega) hl1 (by omega) (by omega)) (fun H5 hx5 => ?_)
    obtain ⟨z1, z2, z3, z4⟩ := hx5
    refine RQ.blk 1 (pc' := 112) (lv' := [(5, .int (nI (tt / 512 + k) + 1)), (4, .int (nI (max (t.2.2.1 f) (tt + l)))), (3, .int (nI l)), (0, .ref 1), (1, .int (nI f)), (2, .int (nI tt))]) (st' := []) (H' := _) (kc' := 0) (ks' := 0) rfl ?_
    rw [show (nI (tt / 512 + k) + 1 : Int32) = nI (tt / 512 + k + 1) from nI_add (tt / 512 + k) 1]
    refine RQ.blk 1 (pc' := 81) (lv' := [(5, .int (nI (tt / 512 + k + 1))), (4, .int (nI (max (t.2.2.1 f) (tt + l)))), (3, .int (nI l)), (0, .ref 1), (1, .int (nI f)), (2, .int (nI tt))]) (st' := []) (H' := _) (kc' := 0) (ks' := 0) rfl ?_
    refine RQ.pick (a := [(5, .int (nI (tt / 512 + k + 1))), (4, .int (nI (max (t.2.2.1 f) (tt + l)))), (3, .int (nI l)), (0, .ref 1), (1, .int (nI f)), (2, .int (nI tt))]) [0, 1, 2, 3, 4, 5] [5, 4, 3, 0, 1, 2] rfl rfl (by decide) ?_
    rw [show tt / 512 + k + 1 = tt / 512 + (k + 1) by omega]
    exact ih (k + 1) _ ⟨by omega, z1, z2, z3, fun a a1 a2 a3 => (z4 a a1 a2 a3).trans (f4 a a1 a2 a3)⟩ (by omega)
  ·
    have h04 := (f4 0 (by decide) (by decide) (by decide)).trans h02
    have hke : k = ((tt + l + 511) / 512 - tt / 512) := by omega
    rw [hke] at hb4 hal
    have hT4 : TreeAt H4 t.1 t.2.1 t.2.2.1 t.2.2.2.1 t.2.2.2.2.1 t.2.2.2.2.2 := hT2.far (fun a a1 a2 => f4 a (by omega) (by omega) (by omega))
    have hout : 32 ≤ tt / 512 + k ∨ tt + l ≤ (tt / 512 + k) * 512 := by omega
    refine RQ.blk 2 (pc' := 85) (lv' := [(5, .int (nI (tt / 512 + k))), (4, .int (nI (max (t.2.2.1 f) (tt + l)))), (3, .int (nI l)), (0, .ref 1), (1, .int (nI f)), (2, .int (nI tt))]) (st' := [.int 32, .int (nI (tt / 512 + k))]) (H' := _) (kc' := 0) (ks' := 0) rfl ?_
    by_cases k32 : 32 ≤ tt / 512 + k
    · refine RQ.brT rfl rfl rfl (cT_ge (tt / 512 + k) 32) ?_
      refine RQ.blk 2 (pc' := 118) (lv' := [(5, .int (nI (tt / 512 + k))), (4, .int (nI (max (t.2.2.1 f) (tt + l)))), (3, .int (nI l)), (0, .ref 1), (1, .int (nI f)), (2, .int (nI tt))]) (st' := [.ref 1, .int (nI (max (t.2.2.1 f) (tt + l)))]) (H' := _) (kc' := 0) (ks' := 0) rfl ?_
      refine RQ.get (ci := 11) rfl h04 rfl rfl ?_
      refine RQ.blk 1 (pc' := 122) (lv' := [(5, .int (nI (tt / 512 + k))), (4, .int (nI (max (t.2.2.1 f) (tt + l)))), (3, .int (nI l)), (0, .ref 1), (1, .int (nI f)), (2, .int (nI tt))]) (st' := [.int (nI f), .ref 66, .int (nI (max (t.2.2.1 f) (tt + l)))]) (H' := _) (kc' := 0) (ks' := 0) rfl ?_
      refine RQ.call (v := some (.int (nI (t.2.2.1 f)))) (st' := [.int (nI (max (t.2.2.1 f) (tt + l)))]) rfl rfl rfl rfl rfl rfl (args_v [.int (nI f)] [.int (nI (max (t.2.2.1 f) (tt + l)))] rfl rfl (Nat.le_of_ble_eq_true rfl) rfl hT4.1 (Nat.le_of_ble_eq_true rfl)) (rc_sizeOf hT4 hk hf) ?_
      refine RQ.brT rfl rfl rfl (cT_eq (max (t.2.2.1 f) (tt + l)) (t.2.2.1 f)) ?_
      rw [hws] at hb4
      show RQ _ _ _ 135 [(5, .int (nI (tt / 512 + k))), (4, .int (nI (max (t.2.2.1 f) (tt + l)))), (3, .int (nI l)), (0, .ref 1), (1, .int (nI f)), (2, .int (nI tt))] [] H4 0 0 _
      obtain ⟨H3, eH3⟩ : ∃ H3, H3 = H4 := ⟨_, rfl⟩
      rw [← eH3] at hb4 e54 e64 f4 ⊢
      have hb3 := hb4
      have e53 := e54
      have e63 := e64
      have f3 := f4
      have f13 : ∀ a, a ≠ 5 → a ≠ 6 → ¬ (59 ≤ a ∧ a < 64) → H3[a]? = H1[a]? := fun a a1 a2 a3 => (f3 a a1 a2 a3).trans (f2 a (by omega))
      have hc3 : ClsA H3 B P 1 1 0 cp cb tb 0 g rl wss t := by
        obtain ⟨qa, ea⟩ := e53
        obtain ⟨pa, eb⟩ := e63
        obtain ⟨c0, c1, c2, c3, c4, -, ⟨wq2, c10, cwq⟩, cW, -, cT⟩ := hc1
        exact ⟨(f13 0 (by decide) (by decide) (by decide)).trans c0, (f13 1 (by decide) (by decide) (by decide)).trans c1, (f13 2 (by decide) (by decide) (by decide)).trans c2, (f13 3 (by decide) (by decide) (by decide)).trans c3, (f13 4 (by decide) (by decide) (by decide)).trans c4, ⟨qa, pa, ea, eb⟩, ⟨wq2, (f13 10 (by decide) (by decide) (by decide)).trans c10, cwq⟩, fun t ht => ⟨(cW t ht).1.keep (fun a a1 a2 => f13 a (by omega) (by omega) (by omega)), (cW t ht).2.imp (fun Q hQ => (f13 _ (by omega) (by omega) (by omega)).trans hQ)⟩, ⟨⟨_, hb3⟩, Q0, (f3 64 (by decide) (by decide) (by decide)).trans hq2⟩, cT.far (fun a a1 a2 => f13 a (by omega) (by omega) (by omega))⟩
      have fk3 : FrK H H3 := fk1.trans (fun a ha => f13 a (by omega) (by omega) (by omega))
      have hch3 : ChB H H3 B P 1 0 cp cb tb 0 g rl wss t ws := ⟨hc3, hb3, fk3⟩
      obtain ⟨D3, S3, K3, E3, hb3A, hb3L, hb340, hb341⟩ := id hb3
      have hb3k := hb3L.ok hb340 hb341
      have h03 := hc3.1
      have h13 := hc3.2.1
      have h23 := hc3.2.2.1
      have hT3 : TreeAt H3 t.1 t.2.1 t.2.2.1 t.2.2.2.1 t.2.2.2.2.1 t.2.2.2.2.2 := hc3.2.2.2.2.2.2.2.2.2
      refine RQ.blk 2 (pc' := 137) (lv' := [(5, .int (nI (tt / 512 + k))), (4, .int (nI (max (t.2.2.1 f) (tt + l)))), (3, .int (nI l)), (0, .ref 1), (1, .int (nI f)), (2, .int (nI tt))]) (st' := [.ref 1, .ref 1]) (H' := _) (kc' := 0) (ks' := 0) rfl ?_
      refine RQ.get (ci := 11) rfl h03 rfl rfl ?_
      refine RQ.blk 1 (pc' := 141) (lv' := [(5, .int (nI (tt / 512 + k))), (4, .int (nI (max (t.2.2.1 f) (tt + l)))), (3, .int (nI l)), (0, .ref 1), (1, .int (nI f)), (2, .int (nI tt))]) (st' := [.int (-1), .ref 60, .ref 1]) (H' := _) (kc' := 0) (ks' := 0) rfl ?_
      obtain ⟨kf3, kl3, mo3, pl3, le3, al3, od3, sp3, sz3, ss3, ac3, hA3, hVW3, hvs3⟩ := (hV.far (fun a a1 a2 => fk3 a (by omega)) : VersIs H3 N vs)
      refine RQ.call (v := none) (st' := []) rfl rfl rfl rfl rfl rfl (args_v [.int (-1), .ref 60] [] rfl rfl (Nat.le_of_ble_eq_true rfl) rfl h03 (Nat.le_of_ble_eq_true rfl)) (rc_reqRoom h03 hA3 hVW3 hvs3 hb3A hb3k hb3L (hs.far2 (fun a a1 a2 => fk3 a (by omega))) (fun t ht => Nat.lt_trans (hsm t ht) (by decide)) (fun i hi => by obtain ⟨e, he⟩ := lt_get hi; rw [(hb3L i e he).2.1]; exact (hkl e (List.mem_of_getElem? he))) h1W hpr (by omega) hB hle) ?_
      refine RQ.blk 2 (pc' := 146) (lv' := [(5, .int (nI (tt / 512 + k))), (4, .int (nI (max (t.2.2.1 f) (tt + l)))), (3, .int (nI l)), (0, .ref 1), (1, .int (nI f)), (2, .int (nI tt))]) (st' := [.ref 1, .ref 1]) (H' := _) (kc' := 0) (ks' := 0) rfl ?_
      refine RQ.get (ci := 11) rfl h03 rfl rfl ?_
      refine RQ.get (ci := 0) rfl hb3A.1 rfl rfl ?_
      refine RQ.blk 2 (pc' := 154) (lv' := [(5, .int (nI (tt / 512 + k))), (4, .int (nI (max (t.2.2.1 f) (tt + l)))), (3, .int (nI l)), (0, .ref 1), (1, .int (nI f)), (2, .int (nI tt))]) (st' := [.int (nI ws.length + 1), .ref 1]) (H' := _) (kc' := 0) (ks' := 0) rfl ?_
      rw [show (nI ws.length + 1 : Int32) = nI (ws.length + 1) from nI_add ws.length 1]
      obtain ⟨cf, tf, pq, bb, hC3⟩ := hC0 H3 hch3
      refine RQ.call (v := none) (st' := []) rfl rfl rfl rfl rfl rfl (args_v [.int (nI (ws.length + 1))] [] rfl rfl (Nat.le_of_ble_eq_true rfl) rfl h03 (Nat.le_of_ble_eq_true rfl)) (rc_armCutM (n := ws.length + 1) h03 hC3 (by omega) (by omega) hcp) ?_
      refine RQ.blk 2 (pc' := 159) (lv' := [(5, .int (nI (tt / 512 + k))), (4, .int (nI (max (t.2.2.1 f) (tt + l)))), (3, .int (nI l)), (0, .ref 1), (1, .int (nI f)), (2, .int (nI tt))]) (st' := [.ref 1, .ref 1]) (H' := _) (kc' := 0) (ks' := 0) rfl ?_
      have hRM3 := hRM H3 hch3
      generalize hHA : (H3.set 71 (kO 1 [.ref 73, .ref 74, .int (lI (some (cp % (ws.length + 1)))), .int (nI cb), .int (nI 0)])) = HA at hRM3 ⊢
      have g0 : HA[0]? = some (kO 11 (fvs (nI B) (nI P) 1 1 0 (nI cp) (nI cb))) := by rw [← hHA]; exact (set_far (by decide)).trans h03
      refine RQ.callB (st' := [.ref 1]) rfl rfl rfl rfl rfl rfl (args_v [] [.ref 1] rfl rfl (Nat.le_of_ble_eq_true rfl) rfl g0 (Nat.le_of_ble_eq_true rfl)) hRM3 (fun H4 hH4 => ?_) (fun H4 hH4 => ?_)
      · have g1 := hf1 H4 hH4
        refine RQ.brF rfl rfl rfl (by decide) ?_
        refine RQ.blk 2 (pc' := 167) (lv' := [(5, .int (nI (tt / 512 + k))), (4, .int (nI (max (t.2.2.1 f) (tt + l)))), (3, .int (nI l)), (0, .ref 1), (1, .int (nI f)), (2, .int (nI tt))]) (st' := [.ref 1, .ref 1, .ref 1]) (H' := _) (kc' := 0) (ks' := 0) rfl ?_
        refine RQ.get (ci := 11) rfl g1 rfl rfl ?_
        refine RQ.callB (st' := [.ref 1]) rfl rfl rfl rfl rfl rfl (args_v [.ref 60] [.ref 1] rfl rfl (Nat.le_of_ble_eq_true rfl) rfl g1 (Nat.le_of_ble_eq_true rfl)) (hST H4 hH4) (fun H5 hH5 => ?_) (fun H5 hH5 => ?_)
        · exact hH5.elim
        · have g2 := hfb H5 hH5
          refine RQ.brT rfl rfl rfl (by decide) ?_
          refine RQ.blk 1 (pc' := 181) (lv' := [(5, .int (nI (tt / 512 + k))), (4, .int (nI (max (t.2.2.1 f) (tt + l)))), (3, .int (nI l)), (0, .ref 1), (1, .int (nI f)), (2, .int (nI tt))]) (st' := [.int 0, .ref 1]) (H' := _) (kc' := 0 + 1) (ks' := 0 + 6) rfl ?_
          obtain ⟨HX, hxX, hpX⟩ := hSB H5 hH5
          exact RQ.callP (st' := []) rfl rfl rfl rfl rfl rfl (args_v [.int 0] [] rfl rfl (Nat.le_of_ble_eq_true rfl) rfl g2 (Nat.le_of_ble_eq_true rfl)) hxX rfl ⟨_, 2, by decide, rfl, hpX⟩
      · have g2 := hfb H4 hH4
        refine RQ.brT rfl rfl rfl (by decide) ?_
        refine RQ.blk 1 (pc' := 181) (lv' := [(5, .int (nI (tt / 512 + k))), (4, .int (nI (max (t.2.2.1 f) (tt + l)))), (3, .int (nI l)), (0, .ref 1), (1, .int (nI f)), (2, .int (nI tt))]) (st' := [.int 0, .ref 1]) (H' := _) (kc' := 0 + 1) (ks' := 0 + 6) rfl ?_
        obtain ⟨HX, hxX, hpX⟩ := hSB H4 hH4
        exact RQ.callP (st' := []) rfl rfl rfl rfl rfl rfl (args_v [.int 0] [] rfl rfl (Nat.le_of_ble_eq_true rfl) rfl g2 (Nat.le_of_ble_eq_true rfl)) hxX rfl ⟨_, 2, by decide, rfl, hpX⟩
    · refine RQ.brF rfl rfl rfl (cF_ge (tt / 512 + k) 32) ?_
      refine RQ.blk 3 (pc' := 94) (lv' := [(5, .int (nI (tt / 512 + k))), (4, .int (nI (max (t.2.2.1 f) (tt + l)))), (3, .int (nI l)), (0, .ref 1), (1, .int (nI f)), (2, .int (nI tt))]) (st' := [.int (nI (tt / 512 + k) * 512)]) (H' := _) (kc' := 0) (ks' := 0) rfl ?_
      rw [show (nI (tt / 512 + k) * 512 : Int32) = nI ((tt / 512 + k) * 512) from pk_mul (tt / 512 + k) 512]
      refine RQ.blk 3 (pc' := 97) (lv' := [(5, .int (nI (tt / 512 + k))), (4, .int (nI (max (t.2.2.1 f) (tt + l)))), (3, .int (nI l)), (0, .ref 1), (1, .int (nI f)), (2, .int (nI tt))]) (st' := [.int (nI tt + nI l), .int (nI ((tt / 512 + k) * 512))]) (H' := _) (kc' := 0) (ks' := 0) rfl ?_
      rw [show (nI tt + nI l : Int32) = nI (tt + l) from nI_add tt l]
      refine RQ.brT rfl rfl rfl (cT_ge ((tt / 512 + k) * 512) (tt + l)) ?_
      refine RQ.blk 2 (pc' := 118) (lv' := [(5, .int (nI (tt / 512 + k))), (4, .int (nI (max (t.2.2.1 f) (tt + l)))), (3, .int (nI l)), (0, .ref 1), (1, .int (nI f)), (2, .int (nI tt))]) (st' := [.ref 1, .int (nI (max (t.2.2.1 f) (tt + l)))]) (H' := _) (kc' := 0) (ks' := 0) rfl ?_
      refine RQ.get (ci := 11) rfl h04 rfl rfl ?_
      refine RQ.blk 1 (pc' := 122) (lv' := [(5, .int (nI (tt / 512 + k))), (4, .int (nI (max (t.2.2.1 f) (tt + l)))), (3, .int (nI l)), (0, .ref 1), (1, .int (nI f)), (2, .int (nI tt))]) (st' := [.int (nI f), .ref 66, .int (nI (max (t.2.2.1 f) (tt + l)))]) (H' := _) (kc' := 0) (ks' := 0) rfl ?_
      refine RQ.call (v := some (.int (nI (t.2.2.1 f)))) (st' := [.int (nI (max (t.2.2.1 f) (tt + l)))]) rfl rfl rfl rfl rfl rfl (args_v [.int (nI f)] [.int (nI (max (t.2.2.1 f) (tt + l)))] rfl rfl (Nat.le_of_ble_eq_true rfl) rfl hT4.1 (Nat.le_of_ble_eq_true rfl)) (rc_sizeOf hT4 hk hf) ?_
      refine RQ.brT rfl rfl rfl (cT_eq (max (t.2.2.1 f) (tt + l)) (t.2.2.1 f)) ?_
      rw [hws] at hb4
      show RQ _ _ _ 135 [(5, .int (nI (tt / 512 + k))), (4, .int (nI (max (t.2.2.1 f) (tt + l)))), (3, .int (nI l)), (0, .ref 1), (1, .int (nI f)), (2, .int (nI tt))] [] H4 0 0 _
      obtain ⟨H3, eH3⟩ : ∃ H3, H3 = H4 := ⟨_, rfl⟩
      rw [← eH3] at hb4 e54 e64 f4 ⊢
      have hb3 := hb4
      have e53 := e54
      have e63 := e64
      have f3 := f4
      have f13 : ∀ a, a ≠ 5 → a ≠ 6 → ¬ (59 ≤ a ∧ a < 64) → H3[a]? = H1[a]? := fun a a1 a2 a3 => (f3 a a1 a2 a3).trans (f2 a (by omega))
      have hc3 : ClsA H3 B P 1 1 0 cp cb tb 0 g rl wss t := by
        obtain ⟨qa, ea⟩ := e53
        obtain ⟨pa, eb⟩ := e63
        obtain ⟨c0, c1, c2, c3, c4, -, ⟨wq2, c10, cwq⟩, cW, -, cT⟩ := hc1
        exact ⟨(f13 0 (by decide) (by decide) (by decide)).trans c0, (f13 1 (by decide) (by decide) (by decide)).trans c1, (f13 2 (by decide) (by decide) (by decide)).trans c2, (f13 3 (by decide) (by decide) (by decide)).trans c3, (f13 4 (by decide) (by decide) (by decide)).trans c4, ⟨qa, pa, ea, eb⟩, ⟨wq2, (f13 10 (by decide) (by decide) (by decide)).trans c10, cwq⟩, fun t ht => ⟨(cW t ht).1.keep (fun a a1 a2 => f13 a (by omega) (by omega) (by omega)), (cW t ht).2.imp (fun Q hQ => (f13 _ (by omega) (by omega) (by omega)).trans hQ)⟩, ⟨⟨_, hb3⟩, Q0, (f3 64 (by decide) (by decide) (by decide)).trans hq2⟩, cT.far (fun a a1 a2 => f13 a (by omega) (by omega) (by omega))⟩
      have fk3 : FrK H H3 := fk1.trans (fun a ha => f13 a (by omega) (by omega) (by omega))
      have hch3 : ChB H H3 B P 1 0 cp cb tb 0 g rl wss t ws := ⟨hc3, hb3, fk3⟩
      obtain ⟨D3, S3, K3, E3, hb3A, hb3L, hb340, hb341⟩ := id hb3
      have hb3k := hb3L.ok hb340 hb341
      have h03 := hc3.1
      have h13 := hc3.2.1
      have h23 := hc3.2.2.1
      have hT3 : TreeAt H3 t.1 t.2.1 t.2.2.1 t.2.2.2.1 t.2.2.2.2.1 t.2.2.2.2.2 := hc3.2.2.2.2.2.2.2.2.2
      refine RQ.blk 2 (pc' := 137) (lv' := [(5, .int (nI (tt / 512 + k))), (4, .int (nI (max (t.2.2.1 f) (tt + l)))), (3, .int (nI l)), (0, .ref 1), (1, .int (nI f)), (2, .int (nI tt))]) (st' := [.ref 1, .ref 1]) (H' := _) (kc' := 0) (ks' := 0) rfl ?_
      refine RQ.get (ci := 11) rfl h03 rfl rfl ?_
      refine RQ.blk 1 (pc' := 141) (lv' := [(5, .int (nI (tt / 512 + k))), (4, .int (nI (max (t.2.2.1 f) (tt + l)))), (3, .int (nI l)), (0, .ref 1), (1, .int (nI f)), (2, .int (nI tt))]) (st' := [.int (-1), .ref 60, .ref 1]) (H' := _) (kc' := 0) (ks' := 0) rfl ?_
      obtain ⟨kf3, kl3, mo3, pl3, le3, al3, od3, sp3, sz3, ss3, ac3, hA3, hVW3, hvs3⟩ := (hV.far (fun a a1 a2 => fk3 a (by omega)) : VersIs H3 N vs)
      refine RQ.call (v := none) (st' := []) rfl rfl rfl rfl rfl rfl (args_v [.int (-1), .ref 60] [] rfl rfl (Nat.le_of_ble_eq_true rfl) rfl h03 (Nat.le_of_ble_eq_true rfl)) (rc_reqRoom h03 hA3 hVW3 hvs3 hb3A hb3k hb3L (hs.far2 (fun a a1 a2 => fk3 a (by omega))) (fun t ht => Nat.lt_trans (hsm t ht) (by decide)) (fun i hi => by obtain ⟨e, he⟩ := lt_get hi; rw [(hb3L i e he).2.1]; exact (hkl e (List.mem_of_getElem? he))) h1W hpr (by omega) hB hle) ?_
      refine RQ.blk 2 (pc' := 146) (lv' := [(5, .int (nI (tt / 512 + k))), (4, .int (nI (max (t.2.2.1 f) (tt + l)))), (3, .int (nI l)), (0, .ref 1), (1, .int (nI f)), (2, .int (nI tt))]) (st' := [.ref 1, .ref 1]) (H' := _) (kc' := 0) (ks' := 0) rfl ?_
      refine RQ.get (ci := 11) rfl h03 rfl rfl ?_
      refine RQ.get (ci := 0) rfl hb3A.1 rfl rfl ?_
      refine RQ.blk 2 (pc' := 154) (lv' := [(5, .int (nI (tt / 512 + k))), (4, .int (nI (max (t.2.2.1 f) (tt + l)))), (3, .int (nI l)), (0, .ref 1), (1, .int (nI f)), (2, .int (nI tt))]) (st' := [.int (nI ws.length + 1), .ref 1]) (H' := _) (kc' := 0) (ks' := 0) rfl ?_
      rw [show (nI ws.length + 1 : Int32) = nI (ws.length + 1) from nI_add ws.length 1]
      obtain ⟨cf, tf, pq, bb, hC3⟩ := hC0 H3 hch3
      refine RQ.call (v := none) (st' := []) rfl rfl rfl rfl rfl rfl (args_v [.int (nI (ws.length + 1))] [] rfl rfl (Nat.le_of_ble_eq_true rfl) rfl h03 (Nat.le_of_ble_eq_true rfl)) (rc_armCutM (n := ws.length + 1) h03 hC3 (by omega) (by omega) hcp) ?_
      refine RQ.blk 2 (pc' := 159) (lv' := [(5, .int (nI (tt / 512 + k))), (4, .int (nI (max (t.2.2.1 f) (tt + l)))), (3, .int (nI l)), (0, .ref 1), (1, .int (nI f)), (2, .int (nI tt))]) (st' := [.ref 1, .ref 1]) (H' := _) (kc' := 0) (ks' := 0) rfl ?_
      have hRM3 := hRM H3 hch3
      generalize hHA : (H3.set 71 (kO 1 [.ref 73, .ref 74, .int (lI (some (cp % (ws.length + 1)))), .int (nI cb), .int (nI 0)])) = HA at hRM3 ⊢
      have g0 : HA[0]? = some (kO 11 (fvs (nI B) (nI P) 1 1 0 (nI cp) (nI cb))) := by rw [← hHA]; exact (set_far (by decide)).trans h03
      refine RQ.callB (st' := [.ref 1]) rfl rfl rfl rfl rfl rfl (args_v [] [.ref 1] rfl rfl (Nat.le_of_ble_eq_true rfl) rfl g0 (Nat.le_of_ble_eq_true rfl)) hRM3 (fun H4 hH4 => ?_) (fun H4 hH4 => ?_)
      · have g1 := hf1 H4 hH4
        refine RQ.brF rfl rfl rfl (by decide) ?_
        refine RQ.blk 2 (pc' := 167) (lv' := [(5, .int (nI (tt / 512 + k))), (4, .int (nI (max (t.2.2.1 f) (tt + l)))), (3, .int (nI l)), (0, .ref 1), (1, .int (nI f)), (2, .int (nI tt))]) (st' := [.ref 1, .ref 1, .ref 1]) (H' := _) (kc' := 0) (ks' := 0) rfl ?_
        refine RQ.get (ci := 11) rfl g1 rfl rfl ?_
        refine RQ.callB (st' := [.ref 1]) rfl rfl rfl rfl rfl rfl (args_v [.ref 60] [.ref 1] rfl rfl (Nat.le_of_ble_eq_true rfl) rfl g1 (Nat.le_of_ble_eq_true rfl)) (hST H4 hH4) (fun H5 hH5 => ?_) (fun H5 hH5 => ?_)
        · exact hH5.elim
        · have g2 := hfb H5 hH5
          refine RQ.brT rfl rfl rfl (by decide) ?_
          refine RQ.blk 1 (pc' := 181) (lv' := [(5, .int (nI (tt / 512 + k))), (4, .int (nI (max (t.2.2.1 f) (tt + l)))), (3, .int (nI l)), (0, .ref 1), (1, .int (nI f)), (2, .int (nI tt))]) (st' := [.int 0, .ref 1]) (H' := _) (kc' := 0 + 1) (ks' := 0 + 6) rfl ?_
          obtain ⟨HX, hxX, hpX⟩ := hSB H5 hH5
          exact RQ.callP (st' := []) rfl rfl rfl rfl rfl rfl (args_v [.int 0] [] rfl rfl (Nat.le_of_ble_eq_true rfl) rfl g2 (Nat.le_of_ble_eq_true rfl)) hxX rfl ⟨_, 2, by decide, rfl, hpX⟩
      · have g2 := hfb H4 hH4
        refine RQ.brT rfl rfl rfl (by decide) ?_
        refine RQ.blk 1 (pc' := 181) (lv' := [(5, .int (nI (tt / 512 + k))), (4, .int (nI (max (t.2.2.1 f) (tt + l)))), (3, .int (nI l)), (0, .ref 1), (1, .int (nI f)), (2, .int (nI tt))]) (st' := [.int 0, .ref 1]) (H' := _) (kc' := 0 + 1) (ks' := 0 + 6) rfl ?_
        obtain ⟨HX, hxX, hpX⟩ := hSB H4 hH4
        exact RQ.callP (st' := []) rfl rfl rfl rfl rfl rfl (args_v [.int 0] [] rfl rfl (Nat.le_of_ble_eq_true rfl) rfl g2 (Nat.le_of_ble_eq_true rfl)) hxX rfl ⟨_, 2, by decide, rfl, hpX⟩
set_option maxRecDepth 20000 in
theorem rx_write1_full {sc : Nat × (Nat → Int32)} {d : Nat} {H : aH} {B P : Nat} {cw cl : Int32} {cp cb : Nat} {tb : Nat → Int8} {l : Nat} {g : Nat → Int8} {rl : Nat} {wss : Nat → List aE} {t : aTr} {f tt : Nat} {ws : List aE} {op : Nat → Bool} {sm : Nat → Nat} {N : Nat} {kf : Nat → Int8} {kl mo pl : Nat → Nat} {le : Nat → Option Nat} {al : Nat → Bool} {od sp : Nat → Nat} {sz ss ac : Nat} {vs : List aV} {cf : Nat → Int8} {tf : Nat → Nat} {pq : Option Nat} {bb ov lc fr ff : Nat} {wr : Bool} {tp rc ms mt sq tu tn nb : Nat} {us : Nat → Bool} {lg : Nat → Nat} {mp hv : Nat} (h : ClsA H B P 1 cw cl cp cb tb l g rl wss t) (hk : TreeOk t.1 t.2.1 t.2.2.1 t.2.2.2.1) (hf : f ≤ 200) (hl1 : 1 ≤ l) (hl2 : l ≤ 2000) (htt : tt ≤ 16384 - l) (hkd : t.1 f = 1) (hgr : t.2.2.1 f < tt + l) (hws : (wrA cf vs f tt l tb ((tt + l + 511) / 512 - tt / 512)) ++ [([1, f], some ([1, t.2.1 f] ++ (beB 2 (max (t.2.2.1 f) (tt + l)) ++ sl t.2.2.2.2.1 (f * 30) (t.2.2.2.1 f))))] = ws) (h1W : OneW ws) (hkl : ∀ e ∈ ws, 1 ≤ e.1.length) (hA : VersAt H N kf kl mo pl le al od sp sz ss ac) (hVW : VersWf N kf kl mo pl le al od sp sz ss ac) (hvs : vs = vsL kf kl mo pl le al od sz) (hC : ChipAt H B cf tf pq bb ov) (hY : LayAt H (layF B lc fr ff wr tp rc ms mt sq tu tn nb) B us lg) (hB : B ≤ 128) (hlc : lc ≤ B) (hlg : ∀ j, j < lc → lg j < 2 ^ 30) (hG : H[190]? = some (kO 4 (logF mp hv))) (hRec : RecsOk cf B lg lc vs) (hpl : ∀ i, (∀ v : aV, seenV vs [2, f, i] (2 ^ 30) = some v → ∀ n, v.2.2.2.1 = some n → n ≤ 512) ∧ (pcV cf vs f i).length ≤ 512) (hs : SightAt H op sm) (hsm : ∀ t, t < 8 → sm t < 2 ^ 30) (hV : VersIs H N vs) (hpr : ∀ v ∈ vs, v.2.1 ≤ P) (hP : P + 1 < 2 ^ 30) (hle : B * 256 < sumN op sm (-1) (P + 1) (kmV (inclV (P + 1) (fun _ => 0) 0 ws vs)) (inclV (P + 1) (fun _ => 0) 0 ws vs)) (hl31 : sumN op sm (-1) (P + 1) (kmV (inclV (P + 1) (fun _ => 0) 0 ws vs)) (inclV (P + 1) (fun _ => 0) 0 ws vs) < 2 ^ 31) : RX sc (d + 8) mr_238 [.ref 1, .int (nI f), .int (nI tt)] H 2 (fun H' => ClsA H' B P 1 cw cl cp cb tb 0 g rl wss t ∧ FrK H H') := by
  obtain ⟨h0, h1, h2, h3, h4, ⟨q5, p6, h5, h6⟩, ⟨wq, h10, hwq⟩, hW, hCh, hT⟩ := id h
  refine RX.of ?_
  refine RQ.blk 2 (pc' := 2) (lv' := [(0, .ref 1), (1, .int (nI f)), (2, .int (nI tt))]) (st' := [.int (nI f), .ref 1]) (H' := _) (kc' := 0) (ks' := 0) rfl ?_
  refine RQ.call (v := none) (st' := []) rfl rfl rfl rfl rfl rfl (args_v [.int (nI f)] [] rfl rfl (Nat.le_of_ble_eq_true rfl) rfl h0 (Nat.le_of_ble_eq_true rfl)) (rc_reqNum h0 hf) ?_
  refine RQ.blk 2 (pc' := 7) (lv' := [(0, .ref 1), (1, .int (nI f)), (2, .int (nI tt))]) (st' := [.ref 1, .ref 1]) (H' := _) (kc' := 0) (ks' := 0) rfl ?_
  refine RQ.get (ci := 11) rfl h0 rfl rfl ?_
  refine RQ.get (ci := 5) rfl h1 rfl rfl ?_
  refine RQ.blk 2 (pc' := 17) (lv' := [(0, .ref 1), (1, .int (nI f)), (2, .int (nI tt))]) (st' := [.int 2000, .int 1, .int (nI l), .ref 1]) (H' := _) (kc' := 0) (ks' := 0) rfl ?_
  refine RQ.call (v := none) (st' := []) rfl rfl rfl rfl rfl rfl (args_v [.int 2000, .int 1, .int (nI l)] [] rfl rfl (Nat.le_of_ble_eq_true rfl) rfl h0 (Nat.le_of_ble_eq_true rfl)) (rc_range (fun e => absurd e (nI_nlt hl1 (by omega))) (rg_hi (n := 2000) hl2 (by decide))) ?_
  refine RQ.blk 5 (pc' := 27) (lv' := [(0, .ref 1), (1, .int (nI f)), (2, .int (nI tt))]) (st' := [.ref 1, .int 16384, .int 0, .int (nI tt), .ref 1]) (H' := _) (kc' := 0) (ks' := 0) rfl ?_
  refine RQ.get (ci := 11) rfl h0 rfl rfl ?_
  refine RQ.get (ci := 5) rfl h1 rfl rfl ?_
  refine RQ.blk 1 (pc' := 34) (lv' := [(0, .ref 1), (1, .int (nI f)), (2, .int (nI tt))]) (st' := [.int (16384 - nI l), .int 0, .int (nI tt), .ref 1]) (H' := _) (kc' := 0) (ks' := 0) rfl ?_
  rw [show (16384 - nI l : Int32) = nI (16384 - l) from pk_sub (a := 16384) (b := l) (by omega)]
  refine RQ.call (v := none) (st' := []) rfl rfl rfl rfl rfl rfl (args_v [.int (nI (16384 - l)), .int 0, .int (nI tt)] [] rfl rfl (Nat.le_of_ble_eq_true rfl) rfl h0 (Nat.le_of_ble_eq_true rfl)) (rc_range (nI_nlt (Nat.zero_le tt) (by omega)) (rg_hi (n := 16384 - l) htt (by omega))) ?_
  refine RQ.blk 1 (pc' := 38) (lv' := [(0, .ref 1), (1, .int (nI f)), (2, .int (nI tt))]) (st' := [.ref 1]) (H' := _) (kc' := 0) (ks' := 0) rfl ?_
  refine RQ.call (v := none) (st' := []) rfl rfl rfl rfl rfl rfl (args_v [] [] rfl rfl (Nat.le_of_ble_eq_true rfl) rfl h0 (Nat.le_of_ble_eq_true rfl)) (rc_up h0 rfl) ?_
  refine RQ.blk 1 (pc' := 42) (lv' := [(0, .ref 1), (1, .int (nI f)), (2, .int (nI tt))]) (st' := [.ref 1]) (H' := _) (kc' := 0) (ks' := 0) rfl ?_
  refine RQ.call (v := some (.int (nI l))) (st' := []) rfl rfl rfl rfl rfl rfl (args_v [] [] rfl rfl (Nat.le_of_ble_eq_true rfl) rfl h0 (Nat.le_of_ble_eq_true rfl)) (rc_takeTape h0 h1) ?_
  have far1 : ∀ a, a ≠ 1 → (H.set 1 (kO 5 [.ref 3, .int (nI 0)]))[a]? = H[a]? := fun a ha => set_far ha
  have h11 : (H.set 1 (kO 5 [.ref 3, .int (nI 0)]))[1]? = some (kO 5 [.ref 3, .int (nI 0)]) := get_set h1
  refine RQ.blk 1 (pc' := 46) (lv' := [(3, .int (nI l)), (0, .ref 1), (1, .int (nI f)), (2, .int (nI tt))]) (st' := []) (H' := _) (kc' := 0) (ks' := 0) rfl ?_
  show RQ _ _ _ 46 [(3, .int (nI l)), (0, .ref 1), (1, .int (nI f)), (2, .int (nI tt))] [] (H.set 1 (kO 5 [.ref 3, .int (nI 0)])) 0 0 _
  generalize (H.set 1 (kO 5 [.ref 3, .int (nI 0)])) = H1 at far1 h11 ⊢
  have h01 := (far1 0 (by decide)).trans h0
  have h21 := (far1 2 (by decide)).trans h2
  have hT1 : TreeAt H1 t.1 t.2.1 t.2.2.1 t.2.2.2.1 t.2.2.2.2.1 t.2.2.2.2.2 := hT.far (fun a a1 a2 => far1 a (by omega))
  have hc1 : ClsA H1 B P 1 cw cl cp cb tb 0 g rl wss t := h.small h01 h11 h21 ((far1 3 (by decide)).trans h3) ((far1 4 (by decide)).trans h4) ⟨q5, p6, (far1 5 (by decide)).trans h5, (far1 6 (by decide)).trans h6⟩ (fun a a1 a2 => far1 a (by omega))
  have fk1 : FrK H H1 := fun a ha => far1 a (by omega)
  refine RQ.blk 2 (pc' := 48) (lv' := [(3, .int (nI l)), (0, .ref 1), (1, .int (nI f)), (2, .int (nI tt))]) (st' := [.int (nI f), .ref 1]) (H' := _) (kc' := 0) (ks' := 0) rfl ?_
  refine RQ.call (v := none) (st' := []) rfl rfl rfl rfl rfl rfl (args_v [.int (nI f)] [] rfl rfl (Nat.le_of_ble_eq_true rfl) rfl h01 (Nat.le_of_ble_eq_true rfl)) (rc_requireFile1 h01 hT1 hk hf hkd) ?_
  refine RQ.blk 1 (pc' := 52) (lv' := [(3, .int (nI l)), (0, .ref 1), (1, .int (nI f)), (2, .int (nI tt))]) (st' := [.ref 1]) (H' := _) (kc' := 0) (ks' := 0) rfl ?_
  refine RQ.get (ci := 11) rfl h01 rfl rfl ?_
  refine RQ.blk 1 (pc' := 56) (lv' := [(3, .int (nI l)), (0, .ref 1), (1, .int (nI f)), (2, .int (nI tt))]) (st' := [.int (nI f), .ref 66]) (H' := _) (kc' := 0) (ks' := 0) rfl ?_
  refine RQ.call (v := some (.int (nI (t.2.2.1 f)))) (st' := []) rfl rfl rfl rfl rfl rfl (args_v [.int (nI f)] [] rfl rfl (Nat.le_of_ble_eq_true rfl) rfl hT1.1 (Nat.le_of_ble_eq_true rfl)) (rc_sizeOf hT1 hk hf) ?_
  have hkf := hk f hf
  refine RQ.blk 3 (pc' := 62) (lv' := [(3, .int (nI l)), (0, .ref 1), (1, .int (nI f)), (2, .int (nI tt))]) (st' := [.int (nI tt + nI l), .int (nI (t.2.2.1 f))]) (H' := _) (kc' := 0) (ks' := 0) rfl ?_
  rw [show (nI tt + nI l : Int32) = nI (tt + l) from nI_add tt l]
  refine RQ.blk 1 (pc' := 65) (lv' := [(3, .int (nI l)), (0, .ref 1), (1, .int (nI f)), (2, .int (nI tt))]) (st' := [.int (if nI (t.2.2.1 f) < nI (tt + l) then nI (tt + l) else nI (t.2.2.1 f))]) (H' := _) (kc' := 0) (ks' := 0) rfl ?_
  rw [show (if nI (t.2.2.1 f) < nI (tt + l) then nI (tt + l) else nI (t.2.2.1 f) : Int32) = nI (max (t.2.2.1 f) (tt + l)) from maxI (a := (t.2.2.1 f)) (b := (tt + l)) (by omega) (by omega)]
  refine RQ.blk 1 (pc' := 67) (lv' := [(4, .int (nI (max (t.2.2.1 f) (tt + l)))), (3, .int (nI l)), (0, .ref 1), (1, .int (nI f)), (2, .int (nI tt))]) (st' := []) (H' := _) (kc' := 0) (ks' := 0) rfl ?_
  obtain ⟨⟨ws0, hb0⟩, Q0, hq0⟩ := hc1.2.2.2.2.2.2.2.2.1
  obtain ⟨D0, S0, K0, E0, hb0A, -⟩ := id hb0
  refine RQ.blk 1 (pc' := 68) (lv' := [(4, .int (nI (max (t.2.2.1 f) (tt + l)))), (3, .int (nI l)), (0, .ref 1), (1, .int (nI f)), (2, .int (nI tt))]) (st' := [.ref 1]) (H' := _) (kc' := 0) (ks' := 0) rfl ?_
  refine RQ.get (ci := 11) rfl h01 rfl rfl ?_
  refine RQ.callN (st' := []) rfl rfl rfl rfl rfl rfl (args_v [] [] rfl rfl (Nat.le_of_ble_eq_true rfl) rfl hb0A.1 (Nat.le_of_ble_eq_true rfl)) (rn_bclearI hb0) (fun H2 hx2 => ?_)
  obtain ⟨hb2, f2⟩ := hx2
  have h02 := (f2 0 (by decide)).trans h01
  have h12 := (f2 1 (by decide)).trans h11
  have h22 := (f2 2 (by decide)).trans h21
  have hT2 : TreeAt H2 t.1 t.2.1 t.2.2.1 t.2.2.2.1 t.2.2.2.2.1 t.2.2.2.2.2 := hT1.far (fun a a1 a2 => f2 a (by omega))
  have hq2 := (f2 64 (by decide)).trans hq0
  have e52 : ∃ q : Nat, H2[5]? = some (kO 5 [.ref 7, .int (nI q)]) := ⟨q5, (f2 5 (by decide)).trans ((far1 5 (by decide)).trans h5)⟩
  have e62 : ∃ g, H2[6]? = some (kB 41 g) := ⟨p6, (f2 6 (by decide)).trans ((far1 6 (by decide)).trans h6)⟩
  refine RQ.blk 3 (pc' := 79) (lv' := [(4, .int (nI (max (t.2.2.1 f) (tt + l)))), (3, .int (nI l)), (0, .ref 1), (1, .int (nI f)), (2, .int (nI tt))]) (st' := [.int (nI tt / 512)]) (H' := _) (kc' := 0) (ks' := 0) rfl ?_
  rw [show (nI tt / 512 : Int32) = nI (tt / 512) from pk_div (a := tt) (d := 512) (by omega) (by omega) (by omega)]
  refine RQ.blk 1 (pc' := 81) (lv' := [(5, .int (nI (tt / 512))), (4, .int (nI (max (t.2.2.1 f) (tt + l)))), (3, .int (nI l)), (0, .ref 1), (1, .int (nI f)), (2, .int (nI tt))]) (st' := []) (H' := _) (kc' := 0) (ks' := 0) rfl ?_
  refine RQ.pick (a := [(5, .int (nI (tt / 512))), (4, .int (nI (max (t.2.2.1 f) (tt + l)))), (3, .int (nI l)), (0, .ref 1), (1, .int (nI f)), (2, .int (nI tt))]) [0, 1, 2, 3, 4, 5] [5, 4, 3, 0, 1, 2] rfl rfl (by decide) ?_
  refine RQ.while (S := Nat) (pc := 81) (fun k H' => k ≤ ((tt + l + 511) / 512 - tt / 512) ∧ BatchIs H' 59 (wrA cf vs f tt l tb k) ∧ (∃ q : Nat, H'[5]? = some (kO 5 [.ref 7, .int (nI q)])) ∧ (∃ g, H'[6]? = some (kB 41 g)) ∧ ∀ a, a ≠ 5 → a ≠ 6 → ¬ (59 ≤ a ∧ a < 64) → H'[a]? = H2[a]?) (fun k => [(5, .int (nI (tt / 512 + k))), (4, .int (nI (max (t.2.2.1 f) (tt + l)))), (3, .int (nI l)), (0, .ref 1), (1, .int (nI f)), (2, .int (nI tt))]) (fun k => ((tt + l + 511) / 512 - tt / 512) - k) ?_ 0 H2 ⟨Nat.zero_le _, hb2, e52, e62, fun _ _ _ _ => rfl⟩
  rintro k H4 ⟨hk1, hb4, e54, e64, f4⟩ ih
  have hal := wrA_len (c := cf) (vs := vs) (f := f) (tt := tt) (n := l) (tb := tb) (fun i => (hpl i).2) k
  have hcn : ((tt + l + 511) / 512 - tt / 512) ≤ 5 := by omega
  by_cases hki : k < ((tt + l + 511) / 512 - tt / 512)
  ·
    have h04 := (f4 0 (by decide) (by decide) (by decide)).trans h02
    refine RQ.blk 2 (pc' := 85) (lv' := [(5, .int (nI (tt / 512 + k))), (4, .int (nI (max (t.2.2.1 f) (tt + l)))), (3, .int (nI l)), (0, .ref 1), (1, .int (nI f)), (2, .int (nI tt))]) (st' := [.int 32, .int (nI (tt / 512 + k))]) (H' := _) (kc' := 0) (ks' := 0) rfl ?_
    refine RQ.brF rfl rfl rfl (cF_ge (tt / 512 + k) 32) ?_
    refine RQ.blk 3 (pc' := 94) (lv' := [(5, .int (nI (tt / 512 + k))), (4, .int (nI (max (t.2.2.1 f) (tt + l)))), (3, .int (nI l)), (0, .ref 1), (1, .int (nI f)), (2, .int (nI tt))]) (st' := [.int (nI (tt / 512 + k) * 512)]) (H' := _) (kc' := 0) (ks' := 0) rfl ?_
    rw [show (nI (tt / 512 + k) * 512 : Int32) = nI ((tt / 512 + k) * 512) from pk_mul (tt / 512 + k) 512]
    refine RQ.blk 3 (pc' := 97) (lv' := [(5, .int (nI (tt / 512 + k))), (4, .int (nI (max (t.2.2.1 f) (tt + l)))), (3, .int (nI l)), (0, .ref 1), (1, .int (nI f)), (2, .int (nI tt))]) (st' := [.int (nI tt + nI l), .int (nI ((tt / 512 + k) * 512))]) (H' := _) (kc' := 0) (ks' := 0) rfl ?_
    rw [show (nI tt + nI l : Int32) = nI (tt + l) from nI_add tt l]
    refine RQ.brF rfl rfl rfl (cF_ge ((tt / 512 + k) * 512) (tt + l)) ?_
    refine RQ.blk 5 (pc' := 106) (lv' := [(5, .int (nI (tt / 512 + k))), (4, .int (nI (max (t.2.2.1 f) (tt + l)))), (3, .int (nI l)), (0, .ref 1), (1, .int (nI f)), (2, .int (nI tt))]) (st' := [.int (nI l), .int (nI tt), .int (nI (tt / 512 + k)), .int (nI f), .ref 1]) (H' := _) (kc' := 0) (ks' := 0) rfl ?_
    refine RQ.callN (st' := []) rfl rfl rfl rfl rfl rfl (args_v [.int (nI l), .int (nI tt), .int (nI (tt / 512 + k)), .int (nI f)] [] rfl rfl (Nat.le_of_ble_eq_true rfl) rfl h04 (Nat.le_of_ble_eq_true rfl)) (rn_chPiece (f := f) (i := tt / 512 + k) (tt := tt) (n := l) h04 e54 e64 hb4 ((f4 1 (by decide) (by decide) (by decide)).trans h12) ((f4 2 (by decide) (by decide) (by decide)).trans h22) (hA.far (fun a a1 a2 => (f4 a (by omega) (by omega) (by omega)).trans ((f2 a (by omega)).trans (far1 a (by omega))))) hVW hvs (hC.far (fun a a1 a2 => (f4 a (by omega) (by omega) (by omega)).trans ((f2 a (by omega)).trans (far1 a (by omega))))) ⟨((f4 83 (by decide) (by decide) (by decide)).trans ((f2 83 (by decide)).trans (far1 83 (by decide)))).trans hY.1, ((f4 86 (by decide) (by decide) (by decide)).trans ((f2 86 (by decide)).trans (far1 86 (by decide)))).trans hY.2.1, ((f4 87 (by decide) (by decide) (by decide)).trans ((f2 87 (by decide)).trans (far1 87 (by decide)))).trans hY.2.2⟩ hB hlc hlg (((f4 190 (by decide) (by decide) (by decide)).trans ((f2 190 (by decide)).trans (far1 190 (by decide)))).trans hG) hRec (hpl _).1 (by omega) (by omega) (by omega) hl2 (by omega) (by omega) hl1 (by omega) (by omega)) (fun H5 hx5 => ?_)
    obtain ⟨z1, z2, z3, z4⟩ := hx5
    refine RQ.blk 1 (pc' := 112) (lv' := [(5, .int (nI (tt / 512 + k) + 1)), (4, .int (nI (max (t.2.2.1 f) (tt + l)))), (3, .int (nI l)), (0, .ref 1), (1, .int (nI f)), (2, .int (nI tt))]) (st' := []) (H' := _) (kc' := 0) (ks' := 0) rfl ?_
    rw [show (nI (tt / 512 + k) + 1 : Int32) = nI (tt / 512 + k + 1) from nI_add (tt / 512 + k) 1]
    refine RQ.blk 1 (pc' := 81) (lv' := [(5, .int (nI (tt / 512 + k + 1))), (4, .int (nI (max (t.2.2.1 f) (tt + l)))), (3, .int (nI l)), (0, .ref 1), (1, .int (nI f)), (2, .int (nI tt))]) (st' := []) (H' := _) (kc' := 0) (ks' := 0) rfl ?_
    refine RQ.pick (a := [(5, .int (nI (tt / 512 + k + 1))), (4, .int (nI (max (t.2.2.1 f) (tt + l)))), (3, .int (nI l)), (0, .ref 1), (1, .int (nI f)), (2, .int (nI tt))]) [0, 1, 2, 3, 4, 5] [5, 4, 3, 0, 1, 2] rfl rfl (by decide) ?_
    rw [show tt / 512 + k + 1 = tt / 512 + (k + 1) by omega]
    exact ih (k + 1) _ ⟨by omega, z1, z2, z3, fun a a1 a2 a3 => (z4 a a1 a2 a3).trans (f4 a a1 a2 a3)⟩ (by omega)
  ·
    have h04 := (f4 0 (by decide) (by decide) (by decide)).trans h02
    have hke : k = ((tt + l + 511) / 512 - tt / 512) := by omega
    rw [hke] at hb4 hal
    have hT4 : TreeAt H4 t.1 t.2.1 t.2.2.1 t.2.2.2.1 t.2.2.2.2.1 t.2.2.2.2.2 := hT2.far (fun a a1 a2 => f4 a (by omega) (by omega) (by omega))
    have hout : 32 ≤ tt / 512 + k ∨ tt + l ≤ (tt / 512 + k) * 512 := by omega
    refine RQ.blk 2 (pc' := 85) (lv' := [(5, .int (nI (tt / 512 + k))), (4, .int (nI (max (t.2.2.1 f) (tt + l)))), (3, .int (nI l)), (0, .ref 1), (1, .int (nI f)), (2, .int (nI tt))]) (st' := [.int 32, .int (nI (tt / 512 + k))]) (H' := _) (kc' := 0) (ks' := 0) rfl ?_
    by_cases k32 : 32 ≤ tt / 512 + k
    · refine RQ.brT rfl rfl rfl (cT_ge (tt / 512 + k) 32) ?_
      refine RQ.blk 2 (pc' := 118) (lv' := [(5, .int (nI (tt / 512 + k))), (4, .int (nI (max (t.2.2.1 f) (tt + l)))), (3, .int (nI l)), (0, .ref 1), (1, .int (nI f)), (2, .int (nI tt))]) (st' := [.ref 1, .int (nI (max (t.2.2.1 f) (tt + l)))]) (H' := _) (kc' := 0) (ks' := 0) rfl ?_
      refine RQ.get (ci := 11) rfl h04 rfl rfl ?_
      refine RQ.blk 1 (pc' := 122) (lv' := [(5, .int (nI (tt / 512 + k))), (4, .int (nI (max (t.2.2.1 f) (tt + l)))), (3, .int (nI l)), (0, .ref 1), (1, .int (nI f)), (2, .int (nI tt))]) (st' := [.int (nI f), .ref 66, .int (nI (max (t.2.2.1 f) (tt + l)))]) (H' := _) (kc' := 0) (ks' := 0) rfl ?_
      refine RQ.call (v := some (.int (nI (t.2.2.1 f)))) (st' := [.int (nI (max (t.2.2.1 f) (tt + l)))]) rfl rfl rfl rfl rfl rfl (args_v [.int (nI f)] [.int (nI (max (t.2.2.1 f) (tt + l)))] rfl rfl (Nat.le_of_ble_eq_true rfl) rfl hT4.1 (Nat.le_of_ble_eq_true rfl)) (rc_sizeOf hT4 hk hf) ?_
      refine RQ.brF rfl rfl rfl (cF_eq (max (t.2.2.1 f) (tt + l)) (t.2.2.1 f)) ?_
      refine RQ.blk 3 (pc' := 132) (lv' := [(5, .int (nI (tt / 512 + k))), (4, .int (nI (max (t.2.2.1 f) (tt + l)))), (3, .int (nI l)), (0, .ref 1), (1, .int (nI f)), (2, .int (nI tt))]) (st' := [.int (nI (max (t.2.2.1 f) (tt + l))), .int (nI f), .ref 1]) (H' := _) (kc' := 0) (ks' := 0) rfl ?_
      refine RQ.callN (st' := []) rfl rfl rfl rfl rfl rfl (args_v [.int (nI (max (t.2.2.1 f) (tt + l))), .int (nI f)] [] rfl rfl (Nat.le_of_ble_eq_true rfl) rfl h04 (Nat.le_of_ble_eq_true rfl)) (rn_chSize (v := f) (s := (max (t.2.2.1 f) (tt + l))) h04 e54 e64 hb4 hT4 hk hf (by omega) (by omega) (by omega)) (fun H3 hx3 => ?_)
      obtain ⟨hb3, e53, e63, f3x⟩ := hx3
      rw [hws] at hb3
      have f3 : ∀ a, a ≠ 5 → a ≠ 6 → ¬ (59 ≤ a ∧ a < 64) → H3[a]? = H2[a]? := fun a a1 a2 a3 => (f3x a a1 a2 a3).trans (f4 a a1 a2 a3)
      have f13 : ∀ a, a ≠ 5 → a ≠ 6 → ¬ (59 ≤ a ∧ a < 64) → H3[a]? = H1[a]? := fun a a1 a2 a3 => (f3 a a1 a2 a3).trans (f2 a (by omega))
      have hc3 : ClsA H3 B P 1 cw cl cp cb tb 0 g rl wss t := by
        obtain ⟨qa, ea⟩ := e53
        obtain ⟨pa, eb⟩ := e63
        obtain ⟨c0, c1, c2, c3, c4, -, ⟨wq2, c10, cwq⟩, cW, -, cT⟩ := hc1
        exact ⟨(f13 0 (by decide) (by decide) (by decide)).trans c0, (f13 1 (by decide) (by decide) (by decide)).trans c1, (f13 2 (by decide) (by decide) (by decide)).trans c2, (f13 3 (by decide) (by decide) (by decide)).trans c3, (f13 4 (by decide) (by decide) (by decide)).trans c4, ⟨qa, pa, ea, eb⟩, ⟨wq2, (f13 10 (by decide) (by decide) (by decide)).trans c10, cwq⟩, fun t ht => ⟨(cW t ht).1.keep (fun a a1 a2 => f13 a (by omega) (by omega) (by omega)), (cW t ht).2.imp (fun Q hQ => (f13 _ (by omega) (by omega) (by omega)).trans hQ)⟩, ⟨⟨_, hb3⟩, Q0, (f3 64 (by decide) (by decide) (by decide)).trans hq2⟩, cT.far (fun a a1 a2 => f13 a (by omega) (by omega) (by omega))⟩
      have fk3 : FrK H H3 := fk1.trans (fun a ha => f13 a (by omega) (by omega) (by omega))
      have hch3 : ChB H H3 B P cw cl cp cb tb 0 g rl wss t ws := ⟨hc3, hb3, fk3⟩
      obtain ⟨D3, S3, K3, E3, hb3A, hb3L, hb340, hb341⟩ := id hb3
      have hb3k := hb3L.ok hb340 hb341
      have h03 := hc3.1
      have h13 := hc3.2.1
      have h23 := hc3.2.2.1
      have hT3 : TreeAt H3 t.1 t.2.1 t.2.2.1 t.2.2.2.1 t.2.2.2.2.1 t.2.2.2.2.2 := hc3.2.2.2.2.2.2.2.2.2
      refine RQ.blk 2 (pc' := 137) (lv' := [(5, .int (nI (tt / 512 + k))), (4, .int (nI (max (t.2.2.1 f) (tt + l)))), (3, .int (nI l)), (0, .ref 1), (1, .int (nI f)), (2, .int (nI tt))]) (st' := [.ref 1, .ref 1]) (H' := _) (kc' := 0) (ks' := 0) rfl ?_
      refine RQ.get (ci := 11) rfl h03 rfl rfl ?_
      refine RQ.blk 1 (pc' := 141) (lv' := [(5, .int (nI (tt / 512 + k))), (4, .int (nI (max (t.2.2.1 f) (tt + l)))), (3, .int (nI l)), (0, .ref 1), (1, .int (nI f)), (2, .int (nI tt))]) (st' := [.int (-1), .ref 60, .ref 1]) (H' := _) (kc' := 0) (ks' := 0) rfl ?_
      obtain ⟨kf3, kl3, mo3, pl3, le3, al3, od3, sp3, sz3, ss3, ac3, hA3, hVW3, hvs3⟩ := (hV.far (fun a a1 a2 => fk3 a (by omega)) : VersIs H3 N vs)
      exact RQ.callP (st' := []) rfl rfl rfl rfl rfl rfl (args_v [.int (-1), .ref 60] [] rfl rfl (Nat.le_of_ble_eq_true rfl) rfl h03 (Nat.le_of_ble_eq_true rfl)) (rc_reqRoomX h03 hA3 hVW3 hvs3 hb3A hb3k hb3L (hs.far2 (fun a a1 a2 => fk3 a (by omega))) (fun t ht => Nat.lt_trans (hsm t ht) (by decide)) (fun i hi => by obtain ⟨e, he⟩ := lt_get hi; rw [(hb3L i e he).2.1]; exact (hkl e (List.mem_of_getElem? he))) h1W hpr (by omega) hB hle hl31) rfl ⟨_, rfl, hc3, fk3⟩
    · refine RQ.brF rfl rfl rfl (cF_ge (tt / 512 + k) 32) ?_
      refine RQ.blk 3 (pc' := 94) (lv' := [(5, .int (nI (tt / 512 + k))), (4, .int (nI (max (t.2.2.1 f) (tt + l)))), (3, .int (nI l)), (0, .ref 1), (1, .int (nI f)), (2, .int (nI tt))]) (st' := [.int (nI (tt / 512 + k) * 512)]) (H' := _) (kc' := 0) (ks' := 0) rfl ?_
      rw [show (nI (tt / 512 + k) * 512 : Int32) = nI ((tt / 512 + k) * 512) from pk_mul (tt / 512 + k) 512]
      refine RQ.blk 3 (pc' := 97) (lv' := [(5, .int (nI (tt / 512 + k))), (4, .int (nI (max (t.2.2.1 f) (tt + l)))), (3, .int (nI l)), (0, .ref 1), (1, .int (nI f)), (2, .int (nI tt))]) (st' := [.int (nI tt + nI l), .int (nI ((tt / 512 + k) * 512))]) (H' := _) (kc' := 0) (ks' := 0) rfl ?_
      rw [show (nI tt + nI l : Int32) = nI (tt + l) from nI_add tt l]
      refine RQ.brT rfl rfl rfl (cT_ge ((tt / 512 + k) * 512) (tt + l)) ?_
      refine RQ.blk 2 (pc' := 118) (lv' := [(5, .int (nI (tt / 512 + k))), (4, .int (nI (max (t.2.2.1 f) (tt + l)))), (3, .int (nI l)), (0, .ref 1), (1, .int (nI f)), (2, .int (nI tt))]) (st' := [.ref 1, .int (nI (max (t.2.2.1 f) (tt + l)))]) (H' := _) (kc' := 0) (ks' := 0) rfl ?_
      refine RQ.get (ci := 11) rfl h04 rfl rfl ?_
      refine RQ.blk 1 (pc' := 122) (lv' := [(5, .int (nI (tt / 512 + k))), (4, .int (nI (max (t.2.2.1 f) (tt + l)))), (3, .int (nI l)), (0, .ref 1), (1, .int (nI f)), (2, .int (nI tt))]) (st' := [.int (nI f), .ref 66, .int (nI (max (t.2.2.1 f) (tt + l)))]) (H' := _) (kc' := 0) (ks' := 0) rfl ?_
      refine RQ.call (v := some (.int (nI (t.2.2.1 f)))) (st' := [.int (nI (max (t.2.2.1 f) (tt + l)))]) rfl rfl rfl rfl rfl rfl (args_v [.int (nI f)] [.int (nI (max (t.2.2.1 f) (tt + l)))] rfl rfl (Nat.le_of_ble_eq_true rfl) rfl hT4.1 (Nat.le_of_ble_eq_true rfl)) (rc_sizeOf hT4 hk hf) ?_
      refine RQ.brF rfl rfl rfl (cF_eq (max (t.2.2.1 f) (tt + l)) (t.2.2.1 f)) ?_
      refine RQ.blk 3 (pc' := 132) (lv' := [(5, .int (nI (tt / 512 + k))), (4, .int (nI (max (t.2.2.1 f) (tt + l)))), (3, .int (nI l)), (0, .ref 1), (1, .int (nI f)), (2, .int (nI tt))]) (st' := [.int (nI (max (t.2.2.1 f) (tt + l))), .int (nI f), .ref 1]) (H' := _) (kc' := 0) (ks' := 0) rfl ?_
      refine RQ.callN (st' := []) rfl rfl rfl rfl rfl rfl (args_v [.int (nI (max (t.2.2.1 f) (tt + l))), .int (nI f)] [] rfl rfl (Nat.le_of_ble_eq_true rfl) rfl h04 (Nat.le_of_ble_eq_true rfl)) (rn_chSize (v := f) (s := (max (t.2.2.1 f) (tt + l))) h04 e54 e64 hb4 hT4 hk hf (by omega) (by omega) (by omega)) (fun H3 hx3 => ?_)
      obtain ⟨hb3, e53, e63, f3x⟩ := hx3
      rw [hws] at hb3
      have f3 : ∀ a, a ≠ 5 → a ≠ 6 → ¬ (59 ≤ a ∧ a < 64) → H3[a]? = H2[a]? := fun a a1 a2 a3 => (f3x a a1 a2 a3).trans (f4 a a1 a2 a3)
      have f13 : ∀ a, a ≠ 5 → a ≠ 6 → ¬ (59 ≤ a ∧ a < 64) → H3[a]? = H1[a]? := fun a a1 a2 a3 => (f3 a a1 a2 a3).trans (f2 a (by omega))
      have hc3 : ClsA H3 B P 1 cw cl cp cb tb 0 g rl wss t := by
        obtain ⟨qa, ea⟩ := e53
        obtain ⟨pa, eb⟩ := e63
        obtain ⟨c0, c1, c2, c3, c4, -, ⟨wq2, c10, cwq⟩, cW, -, cT⟩ := hc1
        exact ⟨(f13 0 (by decide) (by decide) (by decide)).trans c0, (f13 1 (by decide) (by decide) (by decide)).trans c1, (f13 2 (by decide) (by decide) (by decide)).trans c2, (f13 3 (by decide) (by decide) (by decide)).trans c3, (f13 4 (by decide) (by decide) (by decide)).trans c4, ⟨qa, pa, ea, eb⟩, ⟨wq2, (f13 10 (by decide) (by decide) (by decide)).trans c10, cwq⟩, fun t ht => ⟨(cW t ht).1.keep (fun a a1 a2 => f13 a (by omega) (by omega) (by omega)), (cW t ht).2.imp (fun Q hQ => (f13 _ (by omega) (by omega) (by omega)).trans hQ)⟩, ⟨⟨_, hb3⟩, Q0, (f3 64 (by decide) (by decide) (by decide)).trans hq2⟩, cT.far (fun a a1 a2 => f13 a (by omega) (by omega) (by omega))⟩
      have fk3 : FrK H H3 := fk1.trans (fun a ha => f13 a (by omega) (by omega) (by omega))
      have hch3 : ChB H H3 B P cw cl cp cb tb 0 g rl wss t ws := ⟨hc3, hb3, fk3⟩
      obtain ⟨D3, S3, K3, E3, hb3A, hb3L, hb340, hb341⟩ := id hb3
      have hb3k := hb3L.ok hb340 hb341
      have h03 := hc3.1
      have h13 := hc3.2.1
      have h23 := hc3.2.2.1
      have hT3 : TreeAt H3 t.1 t.2.1 t.2.2.1 t.2.2.2.1 t.2.2.2.2.1 t.2.2.2.2.2 := hc3.2.2.2.2.2.2.2.2.2
      refine RQ.blk 2 (pc' := 137) (lv' := [(5, .int (nI (tt / 512 + k))), (4, .int (nI (max (t.2.2.1 f) (tt + l)))), (3, .int (nI l)), (0, .ref 1), (1, .int (nI f)), (2, .int (nI tt))]) (st' := [.ref 1, .ref 1]) (H' := _) (kc' := 0) (ks' := 0) rfl ?_
      refine RQ.get (ci := 11) rfl h03 rfl rfl ?_
      refine RQ.blk 1 (pc' := 141) (lv' := [(5, .int (nI (tt / 512 + k))), (4, .int (nI (max (t.2.2.1 f) (tt + l)))), (3, .int (nI l)), (0, .ref 1), (1, .int (nI f)), (2, .int (nI tt))]) (st' := [.int (-1), .ref 60, .ref 1]) (H' := _) (kc' := 0) (ks' := 0) rfl ?_
      obtain ⟨kf3, kl3, mo3, pl3, le3, al3, od3, sp3, sz3, ss3, ac3, hA3, hVW3, hvs3⟩ := (hV.far (fun a a1 a2 => fk3 a (by omega)) : VersIs H3 N vs)
      exact RQ.callP (st' := []) rfl rfl rfl rfl rfl rfl (args_v [.int (-1), .ref 60] [] rfl rfl (Nat.le_of_ble_eq_true rfl) rfl h03 (Nat.le_of_ble_eq_true rfl)) (rc_reqRoomX h03 hA3 hVW3 hvs3 hb3A hb3k hb3L (hs.far2 (fun a a1 a2 => fk3 a (by omega))) (fun t ht => Nat.lt_trans (hsm t ht) (by decide)) (fun i hi => by obtain ⟨e, he⟩ := lt_get hi; rw [(hb3L i e he).2.1]; exact (hkl e (List.mem_of_getElem? he))) h1W hpr (by omega) hB hle hl31) rfl ⟨_, rfl, hc3, fk3⟩
set_option maxRecDepth 20000 in
theorem ri_write1_ok {sc : Nat × (Nat → Int32)} {d : Nat} {H : aH} {B P : Nat} {cl : Int32} {cp cb : Nat} {tb : Nat → Int8} {l : Nat} {g : Nat → Int8} {rl : Nat} {wss : Nat → List aE} {t : aTr} {f tt : Nat} {ws : List aE} {op : Nat → Bool} {sm : Nat → Nat} {N : Nat} {kf : Nat → Int8} {kl mo pl : Nat → Nat} {le : Nat → Option Nat} {al : Nat → Bool} {od sp : Nat → Nat} {sz ss ac : Nat} {vs : List aV} {cf : Nat → Int8} {tf : Nat → Nat} {pq : Option Nat} {bb ov lc fr ff : Nat} {wr : Bool} {tp rc ms mt sq tu tn nb : Nat} {us : Nat → Bool} {lg : Nat → Nat} {mp hv : Nat} {ok1 ok2 ok3 ok5 ok6 : aH → Prop} (h : ClsA H B P 1 0 cl cp cb tb l g rl wss t) (hk : TreeOk t.1 t.2.1 t.2.2.1 t.2.2.2.1) (hf : f ≤ 200) (hl1 : 1 ≤ l) (hl2 : l ≤ 2000) (htt : tt ≤ 16384 - l) (hkd : t.1 f = 1) (hgr : t.2.2.1 f < tt + l) (hws : (wrA cf vs f tt l tb ((tt + l + 511) / 512 - tt / 512)) ++ [([1, f], some ([1, t.2.1 f] ++ (beB 2 (max (t.2.2.1 f) (tt + l)) ++ sl t.2.2.2.2.1 (f * 30) (t.2.2.2.1 f))))] = ws) (h1W : OneW ws) (hkl : ∀ e ∈ ws, 1 ≤ e.1.length) (hA : VersAt H N kf kl mo pl le al od sp sz ss ac) (hVW : VersWf N kf kl mo pl le al od sp sz ss ac) (hvs : vs = vsL kf kl mo pl le al od sz) (hC : ChipAt H B cf tf pq bb ov) (hY : LayAt H (layF B lc fr ff wr tp rc ms mt sq tu tn nb) B us lg) (hB : B ≤ 128) (hlc : lc ≤ B) (hlg : ∀ j, j < lc → lg j < 2 ^ 30) (hG : H[190]? = some (kO 4 (logF mp hv))) (hRec : RecsOk cf B lg lc vs) (hpl : ∀ i, (∀ v : aV, seenV vs [2, f, i] (2 ^ 30) = some v → ∀ n, v.2.2.2.1 = some n → n ≤ 512) ∧ (pcV cf vs f i).length ≤ 512) (hs : SightAt H op sm) (hsm : ∀ t, t < 8 → sm t < 2 ^ 30) (hV : VersIs H N vs) (hpr : ∀ v ∈ vs, v.2.1 ≤ P) (hP : P + 1 < 2 ^ 30) (hle : sumN op sm (-1) (P + 1) (kmV (inclV (P + 1) (fun _ => 0) 0 ws vs)) (inclV (P + 1) (fun _ => 0) 0 ws vs) ≤ B * 256) (hRM : ∀ H', ChB H H' B P 0 cl cp cb tb 0 g rl wss t ws → RB sc (d + 7) mr_96 [.ref 1] H' ok1 (fun _ => False)) (hST : ∀ H', ok1 H' → RB sc (d + 7) mr_150 [.ref 1, .ref 60] H' ok2 (fun _ => False)) (hf1 : ∀ H', ok1 H' → H'[0]? = some (kO 11 (fvs (nI B) (nI P) 1 0 cl (nI cp) (nI cb)))) (hSE : ∀ H', ok2 H' → RN sc (d + 7) mr_153 [.ref 1, .int 1] H' ok3) (hIN : ∀ H', ok3 H' → RN sc (d + 7) mr_160 [.ref 1, .ref 60] H' ok5) (hTS : ∀ H', ok5 H' → RN sc (d + 7) mr_245 [.ref 66, .int (nI f), .int (nI (max (t.2.2.1 f) (tt + l)))] H' ok6) (hf2 : ∀ H', ok2 H' → H'[0]? = some (kO 11 (fvs (nI B) (nI P) 1 0 cl (nI cp) (nI cb)))) (hf3 : ∀ H', ok3 H' → H'[0]? = some (kO 11 (fvs (nI B) (nI P) 1 0 cl (nI cp) (nI cb)))) (hf5 : ∀ H', ok5 H' → H'[0]? = some (kO 11 (fvs (nI B) (nI (P + 1)) 1 0 cl (nI cp) (nI cb))) ∧ (∃ fs, H'[65]? = some (kO 9 fs)) ∧ ∃ lx : Nat, H'[1]? = some (kO 5 [.ref 3, .int (nI lx)])) : RI sc (d + 8) mr_238 [.ref 1, .int (nI f), .int (nI tt)] H (fun x H' => x = nI (max (t.2.2.1 f) (tt + l)) ∧ ok6 H') := by
  obtain ⟨h0, h1, h2, h3, h4, ⟨q5, p6, h5, h6⟩, ⟨wq, h10, hwq⟩, hW, hCh, hT⟩ := id h
  refine RI.of ?_
  refine RQ.blk 2 (pc' := 2) (lv' := [(0, .ref 1), (1, .int (nI f)), (2, .int (nI tt))]) (st' := [.int (nI f), .ref 1]) (H' := _) (kc' := 0) (ks' := 0) rfl ?_
  refine RQ.call (v := none) (st' := []) rfl rfl rfl rfl rfl rfl (args_v [.int (nI f)] [] rfl rfl (Nat.le_of_ble_eq_true rfl) rfl h0 (Nat.le_of_ble_eq_true rfl)) (rc_reqNum h0 hf) ?_
  refine RQ.blk 2 (pc' := 7) (lv' := [(0, .ref 1), (1, .int (nI f)), (2, .int (nI tt))]) (st' := [.ref 1, .ref 1]) (H' := _) (kc' := 0) (ks' := 0) rfl ?_
  refine RQ.get (ci := 11) rfl h0 rfl rfl ?_
  refine RQ.get (ci := 5) rfl h1 rfl rfl ?_
  refine RQ.blk 2 (pc' := 17) (lv' := [(0, .ref 1), (1, .int (nI f)), (2, .int (nI tt))]) (st' := [.int 2000, .int 1, .int (nI l), .ref 1]) (H' := _) (kc' := 0) (ks' := 0) rfl ?_
  refine RQ.call (v := none) (st' := []) rfl rfl rfl rfl rfl rfl (args_v [.int 2000, .int 1, .int (nI l)] [] rfl rfl (Nat.le_of_ble_eq_true rfl) rfl h0 (Nat.le_of_ble_eq_true rfl)) (rc_range (fun e => absurd e (nI_nlt hl1 (by omega))) (rg_hi (n := 2000) hl2 (by decide))) ?_
  refine RQ.blk 5 (pc' := 27) (lv' := [(0, .ref 1), (1, .int (nI f)), (2, .int (nI tt))]) (st' := [.ref 1, .int 16384, .int 0, .int (nI tt), .ref 1]) (H' := _) (kc' := 0) (ks' := 0) rfl ?_
  refine RQ.get (ci := 11) rfl h0 rfl rfl ?_
  refine RQ.get (ci := 5) rfl h1 rfl rfl ?_
  refine RQ.blk 1 (pc' := 34) (lv' := [(0, .ref 1), (1, .int (nI f)), (2, .int (nI tt))]) (st' := [.int (16384 - nI l), .int 0, .int (nI tt), .ref 1]) (H' := _) (kc' := 0) (ks' := 0) rfl ?_
  rw [show (16384 - nI l : Int32) = nI (16384 - l) from pk_sub (a := 16384) (b := l) (by omega)]
  refine RQ.call (v := none) (st' := []) rfl rfl rfl rfl rfl rfl (args_v [.int (nI (16384 - l)), .int 0, .int (nI tt)] [] rfl rfl (Nat.le_of_ble_eq_true rfl) rfl h0 (Nat.le_of_ble_eq_true rfl)) (rc_range (nI_nlt (Nat.zero_le tt) (by omega)) (rg_hi (n := 16384 - l) htt (by omega))) ?_
  refine RQ.blk 1 (pc' := 38) (lv' := [(0, .ref 1), (1, .int (nI f)), (2, .int (nI tt))]) (st' := [.ref 1]) (H' := _) (kc' := 0) (ks' := 0) rfl ?_
  refine RQ.call (v := none) (st' := []) rfl rfl rfl rfl rfl rfl (args_v [] [] rfl rfl (Nat.le_of_ble_eq_true rfl) rfl h0 (Nat.le_of_ble_eq_true rfl)) (rc_up h0 rfl) ?_
  refine RQ.blk 1 (pc' := 42) (lv' := [(0, .ref 1), (1, .int (nI f)), (2, .int (nI tt))]) (st' := [.ref 1]) (H' := _) (kc' := 0) (ks' := 0) rfl ?_
  refine RQ.call (v := some (.int (nI l))) (st' := []) rfl rfl rfl rfl rfl rfl (args_v [] [] rfl rfl (Nat.le_of_ble_eq_true rfl) rfl h0 (Nat.le_of_ble_eq_true rfl)) (rc_takeTape h0 h1) ?_
  have far1 : ∀ a, a ≠ 1 → (H.set 1 (kO 5 [.ref 3, .int (nI 0)]))[a]? = H[a]? := fun a ha => set_far ha
  have h11 : (H.set 1 (kO 5 [.ref 3, .int (nI 0)]))[1]? = some (kO 5 [.ref 3, .int (nI 0)]) := get_set h1
  refine RQ.blk 1 (pc' := 46) (lv' := [(3, .int (nI l)), (0, .ref 1), (1, .int (nI f)), (2, .int (nI tt))]) (st' := []) (H' := _) (kc' := 0) (ks' := 0) rfl ?_
  show RQ _ _ _ 46 [(3, .int (nI l)), (0, .ref 1), (1, .int (nI f)), (2, .int (nI tt))] [] (H.set 1 (kO 5 [.ref 3, .int (nI 0)])) 0 0 _
  generalize (H.set 1 (kO 5 [.ref 3, .int (nI 0)])) = H1 at far1 h11 ⊢
  have h01 := (far1 0 (by decide)).trans h0
  have h21 := (far1 2 (by decide)).trans h2
  have hT1 : TreeAt H1 t.1 t.2.1 t.2.2.1 t.2.2.2.1 t.2.2.2.2.1 t.2.2.2.2.2 := hT.far (fun a a1 a2 => far1 a (by omega))
  have hc1 : ClsA H1 B P 1 0 cl cp cb tb 0 g rl wss t := h.small h01 h11 h21 ((far1 3 (by decide)).trans h3) ((far1 4 (by decide)).trans h4) ⟨q5, p6, (far1 5 (by decide)).trans h5, (far1 6 (by decide)).trans h6⟩ (fun a a1 a2 => far1 a (by omega))
  have fk1 : FrK H H1 := fun a ha => far1 a (by omega)
  refine RQ.blk 2 (pc' := 48) (lv' := [(3, .int (nI l)), (0, .ref 1), (1, .int (nI f)), (2, .int (nI tt))]) (st' := [.int (nI f), .ref 1]) (H' := _) (kc' := 0) (ks' := 0) rfl ?_
  refine RQ.call (v := none) (st' := []) rfl rfl rfl rfl rfl rfl (args_v [.int (nI f)] [] rfl rfl (Nat.le_of_ble_eq_true rfl) rfl h01 (Nat.le_of_ble_eq_true rfl)) (rc_requireFile1 h01 hT1 hk hf hkd) ?_
  refine RQ.blk 1 (pc' := 52) (lv' := [(3, .int (nI l)), (0, .ref 1), (1, .int (nI f)), (2, .int (nI tt))]) (st' := [.ref 1]) (H' := _) (kc' := 0) (ks' := 0) rfl ?_
  refine RQ.get (ci := 11) rfl h01 rfl rfl ?_
  refine RQ.blk 1 (pc' := 56) (lv' := [(3, .int (nI l)), (0, .ref 1), (1, .int (nI f)), (2, .int (nI tt))]) (st' := [.int (nI f), .ref 66]) (H' := _) (kc' := 0) (ks' := 0) rfl ?_
  refine RQ.call (v := some (.int (nI (t.2.2.1 f)))) (st' := []) rfl rfl rfl rfl rfl rfl (args_v [.int (nI f)] [] rfl rfl (Nat.le_of_ble_eq_true rfl) rfl hT1.1 (Nat.le_of_ble_eq_true rfl)) (rc_sizeOf hT1 hk hf) ?_
  have hkf := hk f hf
  refine RQ.blk 3 (pc' := 62) (lv' := [(3, .int (nI l)), (0, .ref 1), (1, .int (nI f)), (2, .int (nI tt))]) (st' := [.int (nI tt + nI l), .int (nI (t.2.2.1 f))]) (H' := _) (kc' := 0) (ks' := 0) rfl ?_
  rw [show (nI tt + nI l : Int32) = nI (tt + l) from nI_add tt l]
  refine RQ.blk 1 (pc' := 65) (lv' := [(3, .int (nI l)), (0, .ref 1), (1, .int (nI f)), (2, .int (nI tt))]) (st' := [.int (if nI (t.2.2.1 f) < nI (tt + l) then nI (tt + l) else nI (t.2.2.1 f))]) (H' := _) (kc' := 0) (ks' := 0) rfl ?_
  rw [show (if nI (t.2.2.1 f) < nI (tt + l) then nI (tt + l) else nI (t.2.2.1 f) : Int32) = nI (max (t.2.2.1 f) (tt + l)) from maxI (a := (t.2.2.1 f)) (b := (tt + l)) (by omega) (by omega)]
  refine RQ.blk 1 (pc' := 67) (lv' := [(4, .int (nI (max (t.2.2.1 f) (tt + l)))), (3, .int (nI l)), (0, .ref 1), (1, .int (nI f)), (2, .int (nI tt))]) (st' := []) (H' := _) (kc' := 0) (ks' := 0) rfl ?_
  obtain ⟨⟨ws0, hb0⟩, Q0, hq0⟩ := hc1.2.2.2.2.2.2.2.2.1
  obtain ⟨D0, S0, K0, E0, hb0A, -⟩ := id hb0
  refine RQ.blk 1 (pc' := 68) (lv' := [(4, .int (nI (max (t.2.2.1 f) (tt + l)))), (3, .int (nI l)), (0, .ref 1), (1, .int (nI f)), (2, .int (nI tt))]) (st' := [.ref 1]) (H' := _) (kc' := 0) (ks' := 0) rfl ?_
  refine RQ.get (ci := 11) rfl h01 rfl rfl ?_
  refine RQ.callN (st' := []) rfl rfl rfl rfl rfl rfl (args_v [] [] rfl rfl (Nat.le_of_ble_eq_true rfl) rfl hb0A.1 (Nat.le_of_ble_eq_true rfl)) (rn_bclearI hb0) (fun H2 hx2 => ?_)
  obtain ⟨hb2, f2⟩ := hx2
  have h02 := (f2 0 (by decide)).trans h01
  have h12 := (f2 1 (by decide)).trans h11
  have h22 := (f2 2 (by decide)).trans h21
  have hT2 : TreeAt H2 t.1 t.2.1 t.2.2.1 t.2.2.2.1 t.2.2.2.2.1 t.2.2.2.2.2 := hT1.far (fun a a1 a2 => f2 a (by omega))
  have hq2 := (f2 64 (by decide)).trans hq0
  have e52 : ∃ q : Nat, H2[5]? = some (kO 5 [.ref 7, .int (nI q)]) := ⟨q5, (f2 5 (by decide)).trans ((far1 5 (by decide)).trans h5)⟩
  have e62 : ∃ g, H2[6]? = some (kB 41 g) := ⟨p6, (f2 6 (by decide)).trans ((far1 6 (by decide)).trans h6)⟩
  refine RQ.blk 3 (pc' := 79) (lv' := [(4, .int (nI (max (t.2.2.1 f) (tt + l)))), (3, .int (nI l)), (0, .ref 1), (1, .int (nI f)), (2, .int (nI tt))]) (st' := [.int (nI tt / 512)]) (H' := _) (kc' := 0) (ks' := 0) rfl ?_
  rw [show (nI tt / 512 : Int32) = nI (tt / 512) from pk_div (a := tt) (d := 512) (by omega) (by omega) (by omega)]
  refine RQ.blk 1 (pc' := 81) (lv' := [(5, .int (nI (tt / 512))), (4, .int (nI (max (t.2.2.1 f) (tt + l)))), (3, .int (nI l)), (0, .ref 1), (1, .int (nI f)), (2, .int (nI tt))]) (st' := []) (H' := _) (kc' := 0) (ks' := 0) rfl ?_
  refine RQ.pick (a := [(5, .int (nI (tt / 512))), (4, .int (nI (max (t.2.2.1 f) (tt + l)))), (3, .int (nI l)), (0, .ref 1), (1, .int (nI f)), (2, .int (nI tt))]) [0, 1, 2, 3, 4, 5] [5, 4, 3, 0, 1, 2] rfl rfl (by decide) ?_
  refine RQ.while (S := Nat) (pc := 81) (fun k H' => k ≤ ((tt + l + 511) / 512 - tt / 512) ∧ BatchIs H' 59 (wrA cf vs f tt l tb k) ∧ (∃ q : Nat, H'[5]? = some (kO 5 [.ref 7, .int (nI q)])) ∧ (∃ g, H'[6]? = some (kB 41 g)) ∧ ∀ a, a ≠ 5 → a ≠ 6 → ¬ (59 ≤ a ∧ a < 64) → H'[a]? = H2[a]?) (fun k => [(5, .int (nI (tt / 512 + k))), (4, .int (nI (max (t.2.2.1 f) (tt + l)))), (3, .int (nI l)), (0, .ref 1), (1, .int (nI f)), (2, .int (nI tt))]) (fun k => ((tt + l + 511) / 512 - tt / 512) - k) ?_ 0 H2 ⟨Nat.zero_le _, hb2, e52, e62, fun _ _ _ _ => rfl⟩
  rintro k H4 ⟨hk1, hb4, e54, e64, f4⟩ ih
  have hal := wrA_len (c := cf) (vs := vs) (f := f) (tt := tt) (n := l) (tb := tb) (fun i => (hpl i).2) k
  have hcn : ((tt + l + 511) / 512 - tt / 512) ≤ 5 := by omega
  by_cases hki : k < ((tt + l + 511) / 512 - tt / 512)
  ·
    have h04 := (f4 0 (by decide) (by decide) (by decide)).trans h02
    refine RQ.blk 2 (pc' := 85) (lv' := [(5, .int (nI (tt / 512 + k))), (4, .int (nI (max (t.2.2.1 f) (tt + l)))), (3, .int (nI l)), (0, .ref 1), (1, .int (nI f)), (2, .int (nI tt))]) (st' := [.int 32, .int (nI (tt / 512 + k))]) (H' := _) (kc' := 0) (ks' := 0) rfl ?_
    refine RQ.brF rfl rfl rfl (cF_ge (tt / 512 + k) 32) ?_
    refine RQ.blk 3 (pc' := 94) (lv' := [(5, .int (nI (tt / 512 + k))), (4, .int (nI (max (t.2.2.1 f) (tt + l)))), (3, .int (nI l)), (0, .ref 1), (1, .int (nI f)), (2, .int (nI tt))]) (st' := [.int (nI (tt / 512 + k) * 512)]) (H' := _) (kc' := 0) (ks' := 0) rfl ?_
    rw [show (nI (tt / 512 + k) * 512 : Int32) = nI ((tt / 512 + k) * 512) from pk_mul (tt / 512 + k) 512]
    refine RQ.blk 3 (pc' := 97) (lv' := [(5, .int (nI (tt / 512 + k))), (4, .int (nI (max (t.2.2.1 f) (tt + l)))), (3, .int (nI l)), (0, .ref 1), (1, .int (nI f)), (2, .int (nI tt))]) (st' := [.int (nI tt + nI l), .int (nI ((tt / 512 + k) * 512))]) (H' := _) (kc' := 0) (ks' := 0) rfl ?_
    rw [show (nI tt + nI l : Int32) = nI (tt + l) from nI_add tt l]
    refine RQ.brF rfl rfl rfl (cF_ge ((tt / 512 + k) * 512) (tt + l)) ?_
    refine RQ.blk 5 (pc' := 106) (lv' := [(5, .int (nI (tt / 512 + k))), (4, .int (nI (max (t.2.2.1 f) (tt + l)))), (3, .int (nI l)), (0, .ref 1), (1, .int (nI f)), (2, .int (nI tt))]) (st' := [.int (nI l), .int (nI tt), .int (nI (tt / 512 + k)), .int (nI f), .ref 1]) (H' := _) (kc' := 0) (ks' := 0) rfl ?_
    refine RQ.callN (st' := []) rfl rfl rfl rfl rfl rfl (args_v [.int (nI l), .int (nI tt), .int (nI (tt / 512 + k)), .int (nI f)] [] rfl rfl (Nat.le_of_ble_eq_true rfl) rfl h04 (Nat.le_of_ble_eq_true rfl)) (rn_chPiece (f := f) (i := tt / 512 + k) (tt := tt) (n := l) h04 e54 e64 hb4 ((f4 1 (by decide) (by decide) (by decide)).trans h12) ((f4 2 (by decide) (by decide) (by decide)).trans h22) (hA.far (fun a a1 a2 => (f4 a (by omega) (by omega) (by omega)).trans ((f2 a (by omega)).trans (far1 a (by omega))))) hVW hvs (hC.far (fun a a1 a2 => (f4 a (by omega) (by omega) (by omega)).trans ((f2 a (by omega)).trans (far1 a (by omega))))) ⟨((f4 83 (by decide) (by decide) (by decide)).trans ((f2 83 (by decide)).trans (far1 83 (by decide)))).trans hY.1, ((f4 86 (by decide) (by decide) (by decide)).trans ((f2 86 (by decide)).trans (far1 86 (by decide)))).trans hY.2.1, ((f4 87 (by decide) (by decide) (by decide)).trans ((f2 87 (by decide)).trans (far1 87 (by decide)))).trans hY.2.2⟩ hB hlc hlg (((f4 190 (by decide) (by decide) (by decide)).trans ((f2 190 (by decide)).trans (far1 190 (by decide)))).trans hG) hRec (hpl _).1 (by omega) (by omega) (by omega) hl2 (by omega) (by omega) hl1 (by omega) (by omega)) (fun H5 hx5 => ?_)
    obtain ⟨z1, z2, z3, z4⟩ := hx5
    refine RQ.blk 1 (pc' := 112) (lv' := [(5, .int (nI (tt / 512 + k) + 1)), (4, .int (nI (max (t.2.2.1 f) (tt + l)))), (3, .int (nI l)), (0, .ref 1), (1, .int (nI f)), (2, .int (nI tt))]) (st' := []) (H' := _) (kc' := 0) (ks' := 0) rfl ?_
    rw [show (nI (tt / 512 + k) + 1 : Int32) = nI (tt / 512 + k + 1) from nI_add (tt / 512 + k) 1]
    refine RQ.blk 1 (pc' := 81) (lv' := [(5, .int (nI (tt / 512 + k + 1))), (4, .int (nI (max (t.2.2.1 f) (tt + l)))), (3, .int (nI l)), (0, .ref 1), (1, .int (nI f)), (2, .int (nI tt))]) (st' := []) (H' := _) (kc' := 0) (ks' := 0) rfl ?_
    refine RQ.pick (a := [(5, .int (nI (tt / 512 + k + 1))), (4, .int (nI (max (t.2.2.1 f) (tt + l)))), (3, .int (nI l)), (0, .ref 1), (1, .int (nI f)), (2, .int (nI tt))]) [0, 1, 2, 3, 4, 5] [5, 4, 3, 0, 1, 2] rfl rfl (by decide) ?_
    rw [show tt / 512 + k + 1 = tt / 512 + (k + 1) by omega]
    exact ih (k + 1) _ ⟨by omega, z1, z2, z3, fun a a1 a2 a3 => (z4 a a1 a2 a3).trans (f4 a a1 a2 a3)⟩ (by omega)
  ·
    have h04 := (f4 0 (by decide) (by decide) (by decide)).trans h02
    have hke : k = ((tt + l + 511) / 512 - tt / 512) := by omega
    rw [hke] at hb4 hal
    have hT4 : TreeAt H4 t.1 t.2.1 t.2.2.1 t.2.2.2.1 t.2.2.2.2.1 t.2.2.2.2.2 := hT2.far (fun a a1 a2 => f4 a (by omega) (by omega) (by omega))
    have hout : 32 ≤ tt / 512 + k ∨ tt + l ≤ (tt / 512 + k) * 512 := by omega
    refine RQ.blk 2 (pc' := 85) (lv' := [(5, .int (nI (tt / 512 + k))), (4, .int (nI (max (t.2.2.1 f) (tt + l)))), (3, .int (nI l)), (0, .ref 1), (1, .int (nI f)), (2, .int (nI tt))]) (st' := [.int 32, .int (nI (tt / 512 + k))]) (H' := _) (kc' := 0) (ks' := 0) rfl ?_
    by_cases k32 : 32 ≤ tt / 512 + k
    · refine RQ.brT rfl rfl rfl (cT_ge (tt / 512 + k) 32) ?_
      refine RQ.blk 2 (pc' := 118) (lv' := [(5, .int (nI (tt / 512 + k))), (4, .int (nI (max (t.2.2.1 f) (tt + l)))), (3, .int (nI l)), (0, .ref 1), (1, .int (nI f)), (2, .int (nI tt))]) (st' := [.ref 1, .int (nI (max (t.2.2.1 f) (tt + l)))]) (H' := _) (kc' := 0) (ks' := 0) rfl ?_
      refine RQ.get (ci := 11) rfl h04 rfl rfl ?_
      refine RQ.blk 1 (pc' := 122) (lv' := [(5, .int (nI (tt / 512 + k))), (4, .int (nI (max (t.2.2.1 f) (tt + l)))), (3, .int (nI l)), (0, .ref 1), (1, .int (nI f)), (2, .int (nI tt))]) (st' := [.int (nI f), .ref 66, .int (nI (max (t.2.2.1 f) (tt + l)))]) (H' := _) (kc' := 0) (ks' := 0) rfl ?_
      refine RQ.call (v := some (.int (nI (t.2.2.1 f)))) (st' := [.int (nI (max (t.2.2.1 f) (tt + l)))]) rfl rfl rfl rfl rfl rfl (args_v [.int (nI f)] [.int (nI (max (t.2.2.1 f) (tt + l)))] rfl rfl (Nat.le_of_ble_eq_true rfl) rfl hT4.1 (Nat.le_of_ble_eq_true rfl)) (rc_sizeOf hT4 hk hf) ?_
      refine RQ.brF rfl rfl rfl (cF_eq (max (t.2.2.1 f) (tt + l)) (t.2.2.1 f)) ?_
      refine RQ.blk 3 (pc' := 132) (lv' := [(5, .int (nI (tt / 512 + k))), (4, .int (nI (max (t.2.2.1 f) (tt + l)))), (3, .int (nI l)), (0, .ref 1), (1, .int (nI f)), (2, .int (nI tt))]) (st' := [.int (nI (max (t.2.2.1 f) (tt + l))), .int (nI f), .ref 1]) (H' := _) (kc' := 0) (ks' := 0) rfl ?_
      refine RQ.callN (st' := []) rfl rfl rfl rfl rfl rfl (args_v [.int (nI (max (t.2.2.1 f) (tt + l))), .int (nI f)] [] rfl rfl (Nat.le_of_ble_eq_true rfl) rfl h04 (Nat.le_of_ble_eq_true rfl)) (rn_chSize (v := f) (s := (max (t.2.2.1 f) (tt + l))) h04 e54 e64 hb4 hT4 hk hf (by omega) (by omega) (by omega)) (fun H3 hx3 => ?_)
      obtain ⟨hb3, e53, e63, f3x⟩ := hx3
      rw [hws] at hb3
      have f3 : ∀ a, a ≠ 5 → a ≠ 6 → ¬ (59 ≤ a ∧ a < 64) → H3[a]? = H2[a]? := fun a a1 a2 a3 => (f3x a a1 a2 a3).trans (f4 a a1 a2 a3)
      have f13 : ∀ a, a ≠ 5 → a ≠ 6 → ¬ (59 ≤ a ∧ a < 64) → H3[a]? = H1[a]? := fun a a1 a2 a3 => (f3 a a1 a2 a3).trans (f2 a (by omega))
      have hc3 : ClsA H3 B P 1 0 cl cp cb tb 0 g rl wss t := by
        obtain ⟨qa, ea⟩ := e53
        obtain ⟨pa, eb⟩ := e63
        obtain ⟨c0, c1, c2, c3, c4, -, ⟨wq2, c10, cwq⟩, cW, -, cT⟩ := hc1
        exact ⟨(f13 0 (by decide) (by decide) (by decide)).trans c0, (f13 1 (by decide) (by decide) (by decide)).trans c1, (f13 2 (by decide) (by decide) (by decide)).trans c2, (f13 3 (by decide) (by decide) (by decide)).trans c3, (f13 4 (by decide) (by decide) (by decide)).trans c4, ⟨qa, pa, ea, eb⟩, ⟨wq2, (f13 10 (by decide) (by decide) (by decide)).trans c10, cwq⟩, fun t ht => ⟨(cW t ht).1.keep (fun a a1 a2 => f13 a (by omega) (by omega) (by omega)), (cW t ht).2.imp (fun Q hQ => (f13 _ (by omega) (by omega) (by omega)).trans hQ)⟩, ⟨⟨_, hb3⟩, Q0, (f3 64 (by decide) (by decide) (by decide)).trans hq2⟩, cT.far (fun a a1 a2 => f13 a (by omega) (by omega) (by omega))⟩
      have fk3 : FrK H H3 := fk1.trans (fun a ha => f13 a (by omega) (by omega) (by omega))
      have hch3 : ChB H H3 B P 0 cl cp cb tb 0 g rl wss t ws := ⟨hc3, hb3, fk3⟩
      obtain ⟨D3, S3, K3, E3, hb3A, hb3L, hb340, hb341⟩ := id hb3
      have hb3k := hb3L.ok hb340 hb341
      have h03 := hc3.1
      have h13 := hc3.2.1
      have h23 := hc3.2.2.1
      have hT3 : TreeAt H3 t.1 t.2.1 t.2.2.1 t.2.2.2.1 t.2.2.2.2.1 t.2.2.2.2.2 := hc3.2.2.2.2.2.2.2.2.2
      refine RQ.blk 2 (pc' := 137) (lv' := [(5, .int (nI (tt / 512 + k))), (4, .int (nI (max (t.2.2.1 f) (tt + l)))), (3, .int (nI l)), (0, .ref 1), (1, .int (nI f)), (2, .int (nI tt))]) (st' := [.ref 1, .ref 1]) (H' := _) (kc' := 0) (ks' := 0) rfl ?_
      refine RQ.get (ci := 11) rfl h03 rfl rfl ?_
      refine RQ.blk 1 (pc' := 141) (lv' := [(5, .int (nI (tt / 512 + k))), (4, .int (nI (max (t.2.2.1 f) (tt + l)))), (3, .int (nI l)), (0, .ref 1), (1, .int (nI f)), (2, .int (nI tt))]) (st' := [.int (-1), .ref 60, .ref 1]) (H' := _) (kc' := 0) (ks' := 0) rfl ?_
      obtain ⟨kf3, kl3, mo3, pl3, le3, al3, od3, sp3, sz3, ss3, ac3, hA3, hVW3, hvs3⟩ := (hV.far (fun a a1 a2 => fk3 a (by omega)) : VersIs H3 N vs)
      refine RQ.call (v := none) (st' := []) rfl rfl rfl rfl rfl rfl (args_v [.int (-1), .ref 60] [] rfl rfl (Nat.le_of_ble_eq_true rfl) rfl h03 (Nat.le_of_ble_eq_true rfl)) (rc_reqRoom h03 hA3 hVW3 hvs3 hb3A hb3k hb3L (hs.far2 (fun a a1 a2 => fk3 a (by omega))) (fun t ht => Nat.lt_trans (hsm t ht) (by decide)) (fun i hi => by obtain ⟨e, he⟩ := lt_get hi; rw [(hb3L i e he).2.1]; exact (hkl e (List.mem_of_getElem? he))) h1W hpr (by omega) hB hle) ?_
      refine RQ.blk 2 (pc' := 146) (lv' := [(5, .int (nI (tt / 512 + k))), (4, .int (nI (max (t.2.2.1 f) (tt + l)))), (3, .int (nI l)), (0, .ref 1), (1, .int (nI f)), (2, .int (nI tt))]) (st' := [.ref 1, .ref 1]) (H' := _) (kc' := 0) (ks' := 0) rfl ?_
      refine RQ.get (ci := 11) rfl h03 rfl rfl ?_
      refine RQ.get (ci := 0) rfl hb3A.1 rfl rfl ?_
      refine RQ.blk 2 (pc' := 154) (lv' := [(5, .int (nI (tt / 512 + k))), (4, .int (nI (max (t.2.2.1 f) (tt + l)))), (3, .int (nI l)), (0, .ref 1), (1, .int (nI f)), (2, .int (nI tt))]) (st' := [.int (nI ws.length + 1), .ref 1]) (H' := _) (kc' := 0) (ks' := 0) rfl ?_
      rw [show (nI ws.length + 1 : Int32) = nI (ws.length + 1) from nI_add ws.length 1]
      refine RQ.call (v := none) (st' := []) rfl rfl rfl rfl rfl rfl (args_v [.int (nI (ws.length + 1))] [] rfl rfl (Nat.le_of_ble_eq_true rfl) rfl h03 (Nat.le_of_ble_eq_true rfl)) (rc_armCut0 h03) ?_
      refine RQ.blk 2 (pc' := 159) (lv' := [(5, .int (nI (tt / 512 + k))), (4, .int (nI (max (t.2.2.1 f) (tt + l)))), (3, .int (nI l)), (0, .ref 1), (1, .int (nI f)), (2, .int (nI tt))]) (st' := [.ref 1, .ref 1]) (H' := _) (kc' := 0) (ks' := 0) rfl ?_
      refine RQ.callB (st' := [.ref 1]) rfl rfl rfl rfl rfl rfl (args_v [] [.ref 1] rfl rfl (Nat.le_of_ble_eq_true rfl) rfl h03 (Nat.le_of_ble_eq_true rfl)) (hRM H3 hch3) (fun H4 hH4 => ?_) (fun H4 hH4 => False.elim hH4)
      · have g1 := hf1 H4 hH4
        refine RQ.brF rfl rfl rfl (by decide) ?_
        refine RQ.blk 2 (pc' := 167) (lv' := [(5, .int (nI (tt / 512 + k))), (4, .int (nI (max (t.2.2.1 f) (tt + l)))), (3, .int (nI l)), (0, .ref 1), (1, .int (nI f)), (2, .int (nI tt))]) (st' := [.ref 1, .ref 1, .ref 1]) (H' := _) (kc' := 0) (ks' := 0) rfl ?_
        refine RQ.get (ci := 11) rfl g1 rfl rfl ?_
        refine RQ.callB (st' := [.ref 1]) rfl rfl rfl rfl rfl rfl (args_v [.ref 60] [.ref 1] rfl rfl (Nat.le_of_ble_eq_true rfl) rfl g1 (Nat.le_of_ble_eq_true rfl)) (hST H4 hH4) (fun H5 hH5 => ?_) (fun H5 hH5 => False.elim hH5)
        · have g2 := hf2 H5 hH5
          refine RQ.brF rfl rfl rfl (by decide) ?_
          refine RQ.blk 2 (pc' := 181) (lv' := [(5, .int (nI (tt / 512 + k))), (4, .int (nI (max (t.2.2.1 f) (tt + l)))), (3, .int (nI l)), (0, .ref 1), (1, .int (nI f)), (2, .int (nI tt))]) (st' := [.int 1, .ref 1]) (H' := _) (kc' := 0) (ks' := 0) rfl ?_
          refine RQ.callN (st' := []) rfl rfl rfl rfl rfl rfl (args_v [.int 1] [] rfl rfl (Nat.le_of_ble_eq_true rfl) rfl g2 (Nat.le_of_ble_eq_true rfl)) (hSE H5 hH5) (fun H6 hH6 => ?_)
          have g3 := hf3 H6 hH6
          refine RQ.blk 2 (pc' := 186) (lv' := [(5, .int (nI (tt / 512 + k))), (4, .int (nI (max (t.2.2.1 f) (tt + l)))), (3, .int (nI l)), (0, .ref 1), (1, .int (nI f)), (2, .int (nI tt))]) (st' := [.ref 1, .ref 1]) (H' := _) (kc' := 0) (ks' := 0) rfl ?_
          refine RQ.get (ci := 11) rfl g3 rfl rfl ?_
          refine RQ.callN (st' := []) rfl rfl rfl rfl rfl rfl (args_v [.ref 60] [] rfl rfl (Nat.le_of_ble_eq_true rfl) rfl g3 (Nat.le_of_ble_eq_true rfl)) (hIN H6 hH6) (fun H7 hH7 => ?_)
          obtain ⟨g5, ⟨tfs, g65⟩, lx, g11⟩ := hf5 H7 hH7
          refine RQ.blk 1 (pc' := 193) (lv' := [(5, .int (nI (tt / 512 + k))), (4, .int (nI (max (t.2.2.1 f) (tt + l)))), (3, .int (nI l)), (0, .ref 1), (1, .int (nI f)), (2, .int (nI tt))]) (st' := [.ref 1]) (H' := _) (kc' := 0) (ks' := 0) rfl ?_
          refine RQ.get (ci := 11) rfl g5 rfl rfl ?_
          refine RQ.blk 2 (pc' := 199) (lv' := [(5, .int (nI (tt / 512 + k))), (4, .int (nI (max (t.2.2.1 f) (tt + l)))), (3, .int (nI l)), (0, .ref 1), (1, .int (nI f)), (2, .int (nI tt))]) (st' := [.int (nI (max (t.2.2.1 f) (tt + l))), .int (nI f), .ref 66]) (H' := _) (kc' := 0) (ks' := 0) rfl ?_
          refine RQ.callN (st' := []) rfl rfl rfl rfl rfl rfl (args_v [.int (nI (max (t.2.2.1 f) (tt + l))), .int (nI f)] [] rfl rfl (Nat.le_of_ble_eq_true rfl) rfl g65 (Nat.le_of_ble_eq_true rfl)) (hTS H7 hH7) (fun H8 hH8 => ?_)
          refine RQ.blk 1 (pc' := 204) (lv' := [(5, .int (nI (tt / 512 + k))), (4, .int (nI (max (t.2.2.1 f) (tt + l)))), (3, .int (nI l)), (0, .ref 1), (1, .int (nI f)), (2, .int (nI tt))]) (st' := [.int (nI (max (t.2.2.1 f) (tt + l)))]) (H' := _) (kc' := 0) (ks' := 0) rfl ?_
          exact RQ.done (c := 0) (s := 0) rfl rfl rfl rfl ⟨_, _, rfl, rfl, hH8⟩
    · refine RQ.brF rfl rfl rfl (cF_ge (tt / 512 + k) 32) ?_
      refine RQ.blk 3 (pc' := 94) (lv' := [(5, .int (nI (tt / 512 + k))), (4, .int (nI (max (t.2.2.1 f) (tt + l)))), (3, .int (nI l)), (0, .ref 1), (1, .int (nI f)), (2, .int (nI tt))]) (st' := [.int (nI (tt / 512 + k) * 512)]) (H' := _) (kc' := 0) (ks' := 0) rfl ?_
      rw [show (nI (tt / 512 + k) * 512 : Int32) = nI ((tt / 512 + k) * 512) from pk_mul (tt / 512 + k) 512]
      refine RQ.blk 3 (pc' := 97) (lv' := [(5, .int (nI (tt / 512 + k))), (4, .int (nI (max (t.2.2.1 f) (tt + l)))), (3, .int (nI l)), (0, .ref 1), (1, .int (nI f)), (2, .int (nI tt))]) (st' := [.int (nI tt + nI l), .int (nI ((tt / 512 + k) * 512))]) (H' := _) (kc' := 0) (ks' := 0) rfl ?_
      rw [show (nI tt + nI l : Int32) = nI (tt + l) from nI_add tt l]
      refine RQ.brT rfl rfl rfl (cT_ge ((tt / 512 + k) * 512) (tt + l)) ?_
      refine RQ.blk 2 (pc' := 118) (lv' := [(5, .int (nI (tt / 512 + k))), (4, .int (nI (max (t.2.2.1 f) (tt + l)))), (3, .int (nI l)), (0, .ref 1), (1, .int (nI f)), (2, .int (nI tt))]) (st' := [.ref 1, .int (nI (max (t.2.2.1 f) (tt + l)))]) (H' := _) (kc' := 0) (ks' := 0) rfl ?_
      refine RQ.get (ci := 11) rfl h04 rfl rfl ?_
      refine RQ.blk 1 (pc' := 122) (lv' := [(5, .int (nI (tt / 512 + k))), (4, .int (nI (max (t.2.2.1 f) (tt + l)))), (3, .int (nI l)), (0, .ref 1), (1, .int (nI f)), (2, .int (nI tt))]) (st' := [.int (nI f), .ref 66, .int (nI (max (t.2.2.1 f) (tt + l)))]) (H' := _) (kc' := 0) (ks' := 0) rfl ?_
      refine RQ.call (v := some (.int (nI (t.2.2.1 f)))) (st' := [.int (nI (max (t.2.2.1 f) (tt + l)))]) rfl rfl rfl rfl rfl rfl (args_v [.int (nI f)] [.int (nI (max (t.2.2.1 f) (tt + l)))] rfl rfl (Nat.le_of_ble_eq_true rfl) rfl hT4.1 (Nat.le_of_ble_eq_true rfl)) (rc_sizeOf hT4 hk hf) ?_
      refine RQ.brF rfl rfl rfl (cF_eq (max (t.2.2.1 f) (tt + l)) (t.2.2.1 f)) ?_
      refine RQ.blk 3 (pc' := 132) (lv' := [(5, .int (nI (tt / 512 + k))), (4, .int (nI (max (t.2.2.1 f) (tt + l)))), (3, .int (nI l)), (0, .ref 1), (1, .int (nI f)), (2, .int (nI tt))]) (st' := [.int (nI (max (t.2.2.1 f) (tt + l))), .int (nI f), .ref 1]) (H' := _) (kc' := 0) (ks' := 0) rfl ?_
      refine RQ.callN (st' := []) rfl rfl rfl rfl rfl rfl (args_v [.int (nI (max (t.2.2.1 f) (tt + l))), .int (nI f)] [] rfl rfl (Nat.le_of_ble_eq_true rfl) rfl h04 (Nat.le_of_ble_eq_true rfl)) (rn_chSize (v := f) (s := (max (t.2.2.1 f) (tt + l))) h04 e54 e64 hb4 hT4 hk hf (by omega) (by omega) (by omega)) (fun H3 hx3 => ?_)
      obtain ⟨hb3, e53, e63, f3x⟩ := hx3
      rw [hws] at hb3
      have f3 : ∀ a, a ≠ 5 → a ≠ 6 → ¬ (59 ≤ a ∧ a < 64) → H3[a]? = H2[a]? := fun a a1 a2 a3 => (f3x a a1 a2 a3).trans (f4 a a1 a2 a3)
      have f13 : ∀ a, a ≠ 5 → a ≠ 6 → ¬ (59 ≤ a ∧ a < 64) → H3[a]? = H1[a]? := fun a a1 a2 a3 => (f3 a a1 a2 a3).trans (f2 a (by omega))
      have hc3 : ClsA H3 B P 1 0 cl cp cb tb 0 g rl wss t := by
        obtain ⟨qa, ea⟩ := e53
        obtain ⟨pa, eb⟩ := e63
        obtain ⟨c0, c1, c2, c3, c4, -, ⟨wq2, c10, cwq⟩, cW, -, cT⟩ := hc1
        exact ⟨(f13 0 (by decide) (by decide) (by decide)).trans c0, (f13 1 (by decide) (by decide) (by decide)).trans c1, (f13 2 (by decide) (by decide) (by decide)).trans c2, (f13 3 (by decide) (by decide) (by decide)).trans c3, (f13 4 (by decide) (by decide) (by decide)).trans c4, ⟨qa, pa, ea, eb⟩, ⟨wq2, (f13 10 (by decide) (by decide) (by decide)).trans c10, cwq⟩, fun t ht => ⟨(cW t ht).1.keep (fun a a1 a2 => f13 a (by omega) (by omega) (by omega)), (cW t ht).2.imp (fun Q hQ => (f13 _ (by omega) (by omega) (by omega)).trans hQ)⟩, ⟨⟨_, hb3⟩, Q0, (f3 64 (by decide) (by decide) (by decide)).trans hq2⟩, cT.far (fun a a1 a2 => f13 a (by omega) (by omega) (by omega))⟩
      have fk3 : FrK H H3 := fk1.trans (fun a ha => f13 a (by omega) (by omega) (by omega))
      have hch3 : ChB H H3 B P 0 cl cp cb tb 0 g rl wss t ws := ⟨hc3, hb3, fk3⟩
      obtain ⟨D3, S3, K3, E3, hb3A, hb3L, hb340, hb341⟩ := id hb3
      have hb3k := hb3L.ok hb340 hb341
      have h03 := hc3.1
      have h13 := hc3.2.1
      have h23 := hc3.2.2.1
      have hT3 : TreeAt H3 t.1 t.2.1 t.2.2.1 t.2.2.2.1 t.2.2.2.2.1 t.2.2.2.2.2 := hc3.2.2.2.2.2.2.2.2.2
      refine RQ.blk 2 (pc' := 137) (lv' := [(5, .int (nI (tt / 512 + k))), (4, .int (nI (max (t.2.2.1 f) (tt + l)))), (3, .int (nI l)), (0, .ref 1), (1, .int (nI f)), (2, .int (nI tt))]) (st' := [.ref 1, .ref 1]) (H' := _) (kc' := 0) (ks' := 0) rfl ?_
      refine RQ.get (ci := 11) rfl h03 rfl rfl ?_
      refine RQ.blk 1 (pc' := 141) (lv' := [(5, .int (nI (tt / 512 + k))), (4, .int (nI (max (t.2.2.1 f) (tt + l)))), (3, .int (nI l)), (0, .ref 1), (1, .int (nI f)), (2, .int (nI tt))]) (st' := [.int (-1), .ref 60, .ref 1]) (H' := _) (kc' := 0) (ks' := 0) rfl ?_
      obtain ⟨kf3, kl3, mo3, pl3, le3, al3, od3, sp3, sz3, ss3, ac3, hA3, hVW3, hvs3⟩ := (hV.far (fun a a1 a2 => fk3 a (by omega)) : VersIs H3 N vs)
      refine RQ.call (v := none) (st' := []) rfl rfl rfl rfl rfl rfl (args_v [.int (-1), .ref 60] [] rfl rfl (Nat.le_of_ble_eq_true rfl) rfl h03 (Nat.le_of_ble_eq_true rfl)) (rc_reqRoom h03 hA3 hVW3 hvs3 hb3A hb3k hb3L (hs.far2 (fun a a1 a2 => fk3 a (by omega))) (fun t ht => Nat.lt_trans (hsm t ht) (by decide)) (fun i hi => by obtain ⟨e, he⟩ := lt_get hi; rw [(hb3L i e he).2.1]; exact (hkl e (List.mem_of_getElem? he))) h1W hpr (by omega) hB hle) ?_
      refine RQ.blk 2 (pc' := 146) (lv' := [(5, .int (nI (tt / 512 + k))), (4, .int (nI (max (t.2.2.1 f) (tt + l)))), (3, .int (nI l)), (0, .ref 1), (1, .int (nI f)), (2, .int (nI tt))]) (st' := [.ref 1, .ref 1]) (H' := _) (kc' := 0) (ks' := 0) rfl ?_
      refine RQ.get (ci := 11) rfl h03 rfl rfl ?_
      refine RQ.get (ci := 0) rfl hb3A.1 rfl rfl ?_
      refine RQ.blk 2 (pc' := 154) (lv' := [(5, .int (nI (tt / 512 + k))), (4, .int (nI (max (t.2.2.1 f) (tt + l)))), (3, .int (nI l)), (0, .ref 1), (1, .int (nI f)), (2, .int (nI tt))]) (st' := [.int (nI ws.length + 1), .ref 1]) (H' := _) (kc' := 0) (ks' := 0) rfl ?_
      rw [show (nI ws.length + 1 : Int32) = nI (ws.length + 1) from nI_add ws.length 1]
      refine RQ.call (v := none) (st' := []) rfl rfl rfl rfl rfl rfl (args_v [.int (nI (ws.length + 1))] [] rfl rfl (Nat.le_of_ble_eq_true rfl) rfl h03 (Nat.le_of_ble_eq_true rfl)) (rc_armCut0 h03) ?_
      refine RQ.blk 2 (pc' := 159) (lv' := [(5, .int (nI (tt / 512 + k))), (4, .int (nI (max (t.2.2.1 f) (tt + l)))), (3, .int (nI l)), (0, .ref 1), (1, .int (nI f)), (2, .int (nI tt))]) (st' := [.ref 1, .ref 1]) (H' := _) (kc' := 0) (ks' := 0) rfl ?_
      refine RQ.callB (st' := [.ref 1]) rfl rfl rfl rfl rfl rfl (args_v [] [.ref 1] rfl rfl (Nat.le_of_ble_eq_true rfl) rfl h03 (Nat.le_of_ble_eq_true rfl)) (hRM H3 hch3) (fun H4 hH4 => ?_) (fun H4 hH4 => False.elim hH4)
      · have g1 := hf1 H4 hH4
        refine RQ.brF rfl rfl rfl (by decide) ?_
        refine RQ.blk 2 (pc' := 167) (lv' := [(5, .int (nI (tt / 512 + k))), (4, .int (nI (max (t.2.2.1 f) (tt + l)))), (3, .int (nI l)), (0, .ref 1), (1, .int (nI f)), (2, .int (nI tt))]) (st' := [.ref 1, .ref 1, .ref 1]) (H' := _) (kc' := 0) (ks' := 0) rfl ?_
        refine RQ.get (ci := 11) rfl g1 rfl rfl ?_
        refine RQ.callB (st' := [.ref 1]) rfl rfl rfl rfl rfl rfl (args_v [.ref 60] [.ref 1] rfl rfl (Nat.le_of_ble_eq_true rfl) rfl g1 (Nat.le_of_ble_eq_true rfl)) (hST H4 hH4) (fun H5 hH5 => ?_) (fun H5 hH5 => False.elim hH5)
        · have g2 := hf2 H5 hH5
          refine RQ.brF rfl rfl rfl (by decide) ?_
          refine RQ.blk 2 (pc' := 181) (lv' := [(5, .int (nI (tt / 512 + k))), (4, .int (nI (max (t.2.2.1 f) (tt + l)))), (3, .int (nI l)), (0, .ref 1), (1, .int (nI f)), (2, .int (nI tt))]) (st' := [.int 1, .ref 1]) (H' := _) (kc' := 0) (ks' := 0) rfl ?_
          refine RQ.callN (st' := []) rfl rfl rfl rfl rfl rfl (args_v [.int 1] [] rfl rfl (Nat.le_of_ble_eq_true rfl) rfl g2 (Nat.le_of_ble_eq_true rfl)) (hSE H5 hH5) (fun H6 hH6 => ?_)
          have g3 := hf3 H6 hH6
          refine RQ.blk 2 (pc' := 186) (lv' := [(5, .int (nI (tt / 512 + k))), (4, .int (nI (max (t.2.2.1 f) (tt + l)))), (3, .int (nI l)), (0, .ref 1), (1, .int (nI f)), (2, .int (nI tt))]) (st' := [.ref 1, .ref 1]) (H' := _) (kc' := 0) (ks' := 0) rfl ?_
          refine RQ.get (ci := 11) rfl g3 rfl rfl ?_
          refine RQ.callN (st' := []) rfl rfl rfl rfl rfl rfl (args_v [.ref 60] [] rfl rfl (Nat.le_of_ble_eq_true rfl) rfl g3 (Nat.le_of_ble_eq_true rfl)) (hIN H6 hH6) (fun H7 hH7 => ?_)
          obtain ⟨g5, ⟨tfs, g65⟩, lx, g11⟩ := hf5 H7 hH7
          refine RQ.blk 1 (pc' := 193) (lv' := [(5, .int (nI (tt / 512 + k))), (4, .int (nI (max (t.2.2.1 f) (tt + l)))), (3, .int (nI l)), (0, .ref 1), (1, .int (nI f)), (2, .int (nI tt))]) (st' := [.ref 1]) (H' := _) (kc' := 0) (ks' := 0) rfl ?_
          refine RQ.get (ci := 11) rfl g5 rfl rfl ?_
          refine RQ.blk 2 (pc' := 199) (lv' := [(5, .int (nI (tt / 512 + k))), (4, .int (nI (max (t.2.2.1 f) (tt + l)))), (3, .int (nI l)), (0, .ref 1), (1, .int (nI f)), (2, .int (nI tt))]) (st' := [.int (nI (max (t.2.2.1 f) (tt + l))), .int (nI f), .ref 66]) (H' := _) (kc' := 0) (ks' := 0) rfl ?_
          refine RQ.callN (st' := []) rfl rfl rfl rfl rfl rfl (args_v [.int (nI (max (t.2.2.1 f) (tt + l))), .int (nI f)] [] rfl rfl (Nat.le_of_ble_eq_true rfl) rfl g65 (Nat.le_of_ble_eq_true rfl)) (hTS H7 hH7) (fun H8 hH8 => ?_)
          refine RQ.blk 1 (pc' := 204) (lv' := [(5, .int (nI (tt / 512 + k))), (4, .int (nI (max (t.2.2.1 f) (tt + l)))), (3, .int (nI l)), (0, .ref 1), (1, .int (nI f)), (2, .int (nI tt))]) (st' := [.int (nI (max (t.2.2.1 f) (tt + l)))]) (H' := _) (kc' := 0) (ks' := 0) rfl ?_
          exact RQ.done (c := 0) (s := 0) rfl rfl rfl rfl ⟨_, _, rfl, rfl, hH8⟩
set_option maxRecDepth 20000 in
theorem rx_write1_late {sc : Nat × (Nat → Int32)} {d : Nat} {H : aH} {B P : Nat}  {cp cb : Nat} {tb : Nat → Int8} {l : Nat} {g : Nat → Int8} {rl : Nat} {wss : Nat → List aE} {t : aTr} {f tt : Nat} {ws : List aE} {op : Nat → Bool} {sm : Nat → Nat} {N : Nat} {kf : Nat → Int8} {kl mo pl : Nat → Nat} {le : Nat → Option Nat} {al : Nat → Bool} {od sp : Nat → Nat} {sz ss ac : Nat} {vs : List aV} {cf : Nat → Int8} {tf : Nat → Nat} {pq : Option Nat} {bb ov lc fr ff : Nat} {wr : Bool} {tp rc ms mt sq tu tn nb : Nat} {us : Nat → Bool} {lg : Nat → Nat} {mp hv : Nat} {ok1 ok2 fin : aH → Prop} (h : ClsA H B P 1 1 1 cp cb tb l g rl wss t) (hk : TreeOk t.1 t.2.1 t.2.2.1 t.2.2.2.1) (hf : f ≤ 200) (hl1 : 1 ≤ l) (hl2 : l ≤ 2000) (htt : tt ≤ 16384 - l) (hkd : t.1 f = 1) (hgr : t.2.2.1 f < tt + l) (hws : (wrA cf vs f tt l tb ((tt + l + 511) / 512 - tt / 512)) ++ [([1, f], some ([1, t.2.1 f] ++ (beB 2 (max (t.2.2.1 f) (tt + l)) ++ sl t.2.2.2.2.1 (f * 30) (t.2.2.2.1 f))))] = ws) (h1W : OneW ws) (hkl : ∀ e ∈ ws, 1 ≤ e.1.length) (hA : VersAt H N kf kl mo pl le al od sp sz ss ac) (hVW : VersWf N kf kl mo pl le al od sp sz ss ac) (hvs : vs = vsL kf kl mo pl le al od sz) (hC : ChipAt H B cf tf pq bb ov) (hY : LayAt H (layF B lc fr ff wr tp rc ms mt sq tu tn nb) B us lg) (hB : B ≤ 128) (hlc : lc ≤ B) (hlg : ∀ j, j < lc → lg j < 2 ^ 30) (hG : H[190]? = some (kO 4 (logF mp hv))) (hRec : RecsOk cf B lg lc vs) (hpl : ∀ i, (∀ v : aV, seenV vs [2, f, i] (2 ^ 30) = some v → ∀ n, v.2.2.2.1 = some n → n ≤ 512) ∧ (pcV cf vs f i).length ≤ 512) (hs : SightAt H op sm) (hsm : ∀ t, t < 8 → sm t < 2 ^ 30) (hV : VersIs H N vs) (hpr : ∀ v ∈ vs, v.2.1 ≤ P) (hP : P + 1 < 2 ^ 30) (hle : sumN op sm (-1) (P + 1) (kmV (inclV (P + 1) (fun _ => 0) 0 ws vs)) (inclV (P + 1) (fun _ => 0) 0 ws vs) ≤ B * 256) (hRM : ∀ H', ChB H H' B P 1 1 cp cb tb 0 g rl wss t ws → RB sc (d + 7) mr_96 [.ref 1] H' ok1 (fun _ => False)) (hST : ∀ H', ok1 H' → RB sc (d + 7) mr_150 [.ref 1, .ref 60] H' ok2 (fun _ => False)) (hf1 : ∀ H', ok1 H' → H'[0]? = some (kO 11 (fvs (nI B) (nI P) 1 1 1 (nI cp) (nI cb)))) (hSE : ∀ H', ok2 H' → RX sc (d + 7) mr_153 [.ref 1, .int 1] H' 1 fin) (hf2 : ∀ H', ok2 H' → H'[0]? = some (kO 11 (fvs (nI B) (nI P) 1 1 1 (nI cp) (nI cb)))) : RXc sc (d + 8) mr_238 [.ref 1, .int (nI f), .int (nI tt)] H 1 (fun H' => fin H') := by
  obtain ⟨h0, h1, h2, h3, h4, ⟨q5, p6, h5, h6⟩, ⟨wq, h10, hwq⟩, hW, hCh, hT⟩ := id h
  refine RXc.of ?_
  refine RQ.blk 2 (pc' := 2) (lv' := [(0, .ref 1), (1, .int (nI f)), (2, .int (nI tt))]) (st' := [.int (nI f), .ref 1]) (H' := _) (kc' := 0) (ks' := 0) rfl ?_
  refine RQ.call (v := none) (st' := []) rfl rfl rfl rfl rfl rfl (args_v [.int (nI f)] [] rfl rfl (Nat.le_of_ble_eq_true rfl) rfl h0 (Nat.le_of_ble_eq_true rfl)) (rc_reqNum h0 hf) ?_
  refine RQ.blk 2 (pc' := 7) (lv' := [(0, .ref 1), (1, .int (nI f)), (2, .int (nI tt))]) (st' := [.ref 1, .ref 1]) (H' := _) (kc' := 0) (ks' := 0) rfl ?_
  refine RQ.get (ci := 11) rfl h0 rfl rfl ?_
  refine RQ.get (ci := 5) rfl h1 rfl rfl ?_
  refine RQ.blk 2 (pc' := 17) (lv' := [(0, .ref 1), (1, .int (nI f)), (2, .int (nI tt))]) (st' := [.int 2000, .int 1, .int (nI l), .ref 1]) (H' := _) (kc' := 0) (ks' := 0) rfl ?_
  refine RQ.call (v := none) (st' := []) rfl rfl rfl rfl rfl rfl (args_v [.int 2000, .int 1, .int (nI l)] [] rfl rfl (Nat.le_of_ble_eq_true rfl) rfl h0 (Nat.le_of_ble_eq_true rfl)) (rc_range (fun e => absurd e (nI_nlt hl1 (by omega))) (rg_hi (n := 2000) hl2 (by decide))) ?_
  refine RQ.blk 5 (pc' := 27) (lv' := [(0, .ref 1), (1, .int (nI f)), (2, .int (nI tt))]) (st' := [.ref 1, .int 16384, .int 0, .int (nI tt), .ref 1]) (H' := _) (kc' := 0) (ks' := 0) rfl ?_
  refine RQ.get (ci := 11) rfl h0 rfl rfl ?_
  refine RQ.get (ci := 5) rfl h1 rfl rfl ?_
  refine RQ.blk 1 (pc' := 34) (lv' := [(0, .ref 1), (1, .int (nI f)), (2, .int (nI tt))]) (st' := [.int (16384 - nI l), .int 0, .int (nI tt), .ref 1]) (H' := _) (kc' := 0) (ks' := 0) rfl ?_
  rw [show (16384 - nI l : Int32) = nI (16384 - l) from pk_sub (a := 16384) (b := l) (by omega)]
  refine RQ.call (v := none) (st' := []) rfl rfl rfl rfl rfl rfl (args_v [.int (nI (16384 - l)), .int 0, .int (nI tt)] [] rfl rfl (Nat.le_of_ble_eq_true rfl) rfl h0 (Nat.le_of_ble_eq_true rfl)) (rc_range (nI_nlt (Nat.zero_le tt) (by omega)) (rg_hi (n := 16384 - l) htt (by omega))) ?_
  refine RQ.blk 1 (pc' := 38) (lv' := [(0, .ref 1), (1, .int (nI f)), (2, .int (nI tt))]) (st' := [.ref 1]) (H' := _) (kc' := 0) (ks' := 0) rfl ?_
  refine RQ.call (v := none) (st' := []) rfl rfl rfl rfl rfl rfl (args_v [] [] rfl rfl (Nat.le_of_ble_eq_true rfl) rfl h0 (Nat.le_of_ble_eq_true rfl)) (rc_up h0 rfl) ?_
  refine RQ.blk 1 (pc' := 42) (lv' := [(0, .ref 1), (1, .int (nI f)), (2, .int (nI tt))]) (st' := [.ref 1]) (H' := _) (kc' := 0) (ks' := 0) rfl ?_
  refine RQ.call (v := some (.int (nI l))) (st' := []) rfl rfl rfl rfl rfl rfl (args_v [] [] rfl rfl (Nat.le_of_ble_eq_true rfl) rfl h0 (Nat.le_of_ble_eq_true rfl)) (rc_takeTape h0 h1) ?_
  have far1 : ∀ a, a ≠ 1 → (H.set 1 (kO 5 [.ref 3, .int (nI 0)]))[a]? = H[a]? := fun a ha => set_far ha
  have h11 : (H.set 1 (kO 5 [.ref 3, .int (nI 0)]))[1]? = some (kO 5 [.ref 3, .int (nI 0)]) := get_set h1
  refine RQ.blk 1 (pc' := 46) (lv' := [(3, .int (nI l)), (0, .ref 1), (1, .int (nI f)), (2, .int (nI tt))]) (st' := []) (H' := _) (kc' := 0) (ks' := 0) rfl ?_
  show RQ _ _ _ 46 [(3, .int (nI l)), (0, .ref 1), (1, .int (nI f)), (2, .int (nI tt))] [] (H.set 1 (kO 5 [.ref 3, .int (nI 0)])) 0 0 _
  generalize (H.set 1 (kO 5 [.ref 3, .int (nI 0)])) = H1 at far1 h11 ⊢
  have h01 := (far1 0 (by decide)).trans h0
  have h21 := (far1 2 (by decide)).trans h2
  have hT1 : TreeAt H1 t.1 t.2.1 t.2.2.1 t.2.2.2.1 t.2.2.2.2.1 t.2.2.2.2.2 := hT.far (fun a a1 a2 => far1 a (by omega))
  have hc1 : ClsA H1 B P 1 1 1 cp cb tb 0 g rl wss t := h.small h01 h11 h21 ((far1 3 (by decide)).trans h3) ((far1 4 (by decide)).trans h4) ⟨q5, p6, (far1 5 (by decide)).trans h5, (far1 6 (by decide)).trans h6⟩ (fun a a1 a2 => far1 a (by omega))
  have fk1 : FrK H H1 := fun a ha => far1 a (by omega)
  refine RQ.blk 2 (pc' := 48) (lv' := [(3, .int (nI l)), (0, .ref 1), (1, .int (nI f)), (2, .int (nI tt))]) (st' := [.int (nI f), .ref 1]) (H' := _) (kc' := 0) (ks' := 0) rfl ?_
  refine RQ.call (v := none) (st' := []) rfl rfl rfl rfl rfl rfl (args_v [.int (nI f)] [] rfl rfl (Nat.le_of_ble_eq_true rfl) rfl h01 (Nat.le_of_ble_eq_true rfl)) (rc_requireFile1 h01 hT1 hk hf hkd) ?_
  refine RQ.blk 1 (pc' := 52) (lv' := [(3, .int (nI l)), (0, .ref 1), (1, .int (nI f)), (2, .int (nI tt))]) (st' := [.ref 1]) (H' := _) (kc' := 0) (ks' := 0) rfl ?_
  refine RQ.get (ci := 11) rfl h01 rfl rfl ?_
  refine RQ.blk 1 (pc' := 56) (lv' := [(3, .int (nI l)), (0, .ref 1), (1, .int (nI f)), (2, .int (nI tt))]) (st' := [.int (nI f), .ref 66]) (H' := _) (kc' := 0) (ks' := 0) rfl ?_
  refine RQ.call (v := some (.int (nI (t.2.2.1 f)))) (st' := []) rfl rfl rfl rfl rfl rfl (args_v [.int (nI f)] [] rfl rfl (Nat.le_of_ble_eq_true rfl) rfl hT1.1 (Nat.le_of_ble_eq_true rfl)) (rc_sizeOf hT1 hk hf) ?_
  have hkf := hk f hf
  refine RQ.blk 3 (pc' := 62) (lv' := [(3, .int (nI l)), (0, .ref 1), (1, .int (nI f)), (2, .int (nI tt))]) (st' := [.int (nI tt + nI l), .int (nI (t.2.2.1 f))]) (H' := _) (kc' := 0) (ks' := 0) rfl ?_
  rw [show (nI tt + nI l : Int32) = nI (tt + l) from nI_add tt l]
  refine RQ.blk 1 (pc' := 65) (lv' := [(3, .int (nI l)), (0, .ref 1), (1, .int (nI f)), (2, .int (nI tt))]) (st' := [.int (if nI (t.2.2.1 f) < nI (tt + l) then nI (tt + l) else nI (t.2.2.1 f))]) (H' := _) (kc' := 0) (ks' := 0) rfl ?_
  rw [show (if nI (t.2.2.1 f) < nI (tt + l) then nI (tt + l) else nI (t.2.2.1 f) : Int32) = nI (max (t.2.2.1 f) (tt + l)) from maxI (a := (t.2.2.1 f)) (b := (tt + l)) (by omega) (by omega)]
  refine RQ.blk 1 (pc' := 67) (lv' := [(4, .int (nI (max (t.2.2.1 f) (tt + l)))), (3, .int (nI l)), (0, .ref 1), (1, .int (nI f)), (2, .int (nI tt))]) (st' := []) (H' := _) (kc' := 0) (ks' := 0) rfl ?_
  obtain ⟨⟨ws0, hb0⟩, Q0, hq0⟩ := hc1.2.2.2.2.2.2.2.2.1
  obtain ⟨D0, S0, K0, E0, hb0A, -⟩ := id hb0
  refine RQ.blk 1 (pc' := 68) (lv' := [(4, .int (nI (max (t.2.2.1 f) (tt + l)))), (3, .int (nI l)), (0, .ref 1), (1, .int (nI f)), (2, .int (nI tt))]) (st' := [.ref 1]) (H' := _) (kc' := 0) (ks' := 0) rfl ?_
  refine RQ.get (ci := 11) rfl h01 rfl rfl ?_
  refine RQ.callN (st' := []) rfl rfl rfl rfl rfl rfl (args_v [] [] rfl rfl (Nat.le_of_ble_eq_true rfl) rfl hb0A.1 (Nat.le_of_ble_eq_true rfl)) (rn_bclearI hb0) (fun H2 hx2 => ?_)
  obtain ⟨hb2, f2⟩ := hx2
  have h02 := (f2 0 (by decide)).trans h01
  have h12 := (f2 1 (by decide)).trans h11
  have h22 := (f2 2 (by decide)).trans h21
  have hT2 : TreeAt H2 t.1 t.2.1 t.2.2.1 t.2.2.2.1 t.2.2.2.2.1 t.2.2.2.2.2 := hT1.far (fun a a1 a2 => f2 a (by omega))
  have hq2 := (f2 64 (by decide)).trans hq0
  have e52 : ∃ q : Nat, H2[5]? = some (kO 5 [.ref 7, .int (nI q)]) := ⟨q5, (f2 5 (by decide)).trans ((far1 5 (by decide)).trans h5)⟩
  have e62 : ∃ g, H2[6]? = some (kB 41 g) := ⟨p6, (f2 6 (by decide)).trans ((far1 6 (by decide)).trans h6)⟩
  refine RQ.blk 3 (pc' := 79) (lv' := [(4, .int (nI (max (t.2.2.1 f) (tt + l)))), (3, .int (nI l)), (0, .ref 1), (1, .int (nI f)), (2, .int (nI tt))]) (st' := [.int (nI tt / 512)]) (H' := _) (kc' := 0) (ks' := 0) rfl ?_
  rw [show (nI tt / 512 : Int32) = nI (tt / 512) from pk_div (a := tt) (d := 512) (by omega) (by omega) (by omega)]
  refine RQ.blk 1 (pc' := 81) (lv' := [(5, .int (nI (tt / 512))), (4, .int (nI (max (t.2.2.1 f) (tt + l)))), (3, .int (nI l)), (0, .ref 1), (1, .int (nI f)), (2, .int (nI tt))]) (st' := []) (H' := _) (kc' := 0) (ks' := 0) rfl ?_
  refine RQ.pick (a := [(5, .int (nI (tt / 512))), (4, .int (nI (max (t.2.2.1 f) (tt + l)))), (3, .int (nI l)), (0, .ref 1), (1, .int (nI f)), (2, .int (nI tt))]) [0, 1, 2, 3, 4, 5] [5, 4, 3, 0, 1, 2] rfl rfl (by decide) ?_
  refine RQ.while (S := Nat) (pc := 81) (fun k H' => k ≤ ((tt + l + 511) / 512 - tt / 512) ∧ BatchIs H' 59 (wrA cf vs f tt l tb k) ∧ (∃ q : Nat, H'[5]? = some (kO 5 [.ref 7, .int (nI q)])) ∧ (∃ g, H'[6]? = some (kB 41 g)) ∧ ∀ a, a ≠ 5 → a ≠ 6 → ¬ (59 ≤ a ∧ a < 64) → H'[a]? = H2[a]?) (fun k => [(5, .int (nI (tt / 512 + k))), (4, .int (nI (max (t.2.2.1 f) (tt + l)))), (3, .int (nI l)), (0, .ref 1), (1, .int (nI f)), (2, .int (nI tt))]) (fun k => ((tt + l + 511) / 512 - tt / 512) - k) ?_ 0 H2 ⟨Nat.zero_le _, hb2, e52, e62, fun _ _ _ _ => rfl⟩
  rintro k H4 ⟨hk1, hb4, e54, e64, f4⟩ ih
  have hal := wrA_len (c := cf) (vs := vs) (f := f) (tt := tt) (n := l) (tb := tb) (fun i => (hpl i).2) k
  have hcn : ((tt + l + 511) / 512 - tt / 512) ≤ 5 := by omega
  by_cases hki : k < ((tt + l + 511) / 512 - tt / 512)
  ·
    have h04 := (f4 0 (by decide) (by decide) (by decide)).trans h02
    refine RQ.blk 2 (pc' := 85) (lv' := [(5, .int (nI (tt / 512 + k))), (4, .int (nI (max (t.2.2.1 f) (tt + l)))), (3, .int (nI l)), (0, .ref 1), (1, .int (nI f)), (2, .int (nI tt))]) (st' := [.int 32, .int (nI (tt / 512 + k))]) (H' := _) (kc' := 0) (ks' := 0) rfl ?_
    refine RQ.brF rfl rfl rfl (cF_ge (tt / 512 + k) 32) ?_
    refine RQ.blk 3 (pc' := 94) (lv' := [(5, .int (nI (tt / 512 + k))), (4, .int (nI (max (t.2.2.1 f) (tt + l)))), (3, .int (nI l)), (0, .ref 1), (1, .int (nI f)), (2, .int (nI tt))]) (st' := [.int (nI (tt / 512 + k) * 512)]) (H' := _) (kc' := 0) (ks' := 0) rfl ?_
    rw [show (nI (tt / 512 + k) * 512 : Int32) = nI ((tt / 512 + k) * 512) from pk_mul (tt / 512 + k) 512]
    refine RQ.blk 3 (pc' := 97) (lv' := [(5, .int (nI (tt / 512 + k))), (4, .int (nI (max (t.2.2.1 f) (tt + l)))), (3, .int (nI l)), (0, .ref 1), (1, .int (nI f)), (2, .int (nI tt))]) (st' := [.int (nI tt + nI l), .int (nI ((tt / 512 + k) * 512))]) (H' := _) (kc' := 0) (ks' := 0) rfl ?_
    rw [show (nI tt + nI l : Int32) = nI (tt + l) from nI_add tt l]
    refine RQ.brF rfl rfl rfl (cF_ge ((tt / 512 + k) * 512) (tt + l)) ?_
    refine RQ.blk 5 (pc' := 106) (lv' := [(5, .int (nI (tt / 512 + k))), (4, .int (nI (max (t.2.2.1 f) (tt + l)))), (3, .int (nI l)), (0, .ref 1), (1, .int (nI f)), (2, .int (nI tt))]) (st' := [.int (nI l), .int (nI tt), .int (nI (tt / 512 + k)), .int (nI f), .ref 1]) (H' := _) (kc' := 0) (ks' := 0) rfl ?_
    refine RQ.callN (st' := []) rfl rfl rfl rfl rfl rfl (args_v [.int (nI l), .int (nI tt), .int (nI (tt / 512 + k)), .int (nI f)] [] rfl rfl (Nat.le_of_ble_eq_true rfl) rfl h04 (Nat.le_of_ble_eq_true rfl)) (rn_chPiece (f := f) (i := tt / 512 + k) (tt := tt) (n := l) h04 e54 e64 hb4 ((f4 1 (by decide) (by decide) (by decide)).trans h12) ((f4 2 (by decide) (by decide) (by decide)).trans h22) (hA.far (fun a a1 a2 => (f4 a (by omega) (by omega) (by omega)).trans ((f2 a (by omega)).trans (far1 a (by omega))))) hVW hvs (hC.far (fun a a1 a2 => (f4 a (by omega) (by omega) (by omega)).trans ((f2 a (by omega)).trans (far1 a (by omega))))) ⟨((f4 83 (by decide) (by decide) (by decide)).trans ((f2 83 (by decide)).trans (far1 83 (by decide)))).trans hY.1, ((f4 86 (by decide) (by decide) (by decide)).trans ((f2 86 (by decide)).trans (far1 86 (by decide)))).trans hY.2.1, ((f4 87 (by decide) (by decide) (by decide)).trans ((f2 87 (by decide)).trans (far1 87 (by decide)))).trans hY.2.2⟩ hB hlc hlg (((f4 190 (by decide) (by decide) (by decide)).trans ((f2 190 (by decide)).trans (far1 190 (by decide)))).trans hG) hRec (hpl _).1 (by omega) (by omega) (by omega) hl2 (by omega) (by omega) hl1 (by omega) (by omega)) (fun H5 hx5 => ?_)
    obtain ⟨z1, z2, z3, z4⟩ := hx5
    refine RQ.blk 1 (pc' := 112) (lv' := [(5, .int (nI (tt / 512 + k) + 1)), (4, .int (nI (max (t.2.2.1 f) (tt + l)))), (3, .int (nI l)), (0, .ref 1), (1, .int (nI f)), (2, .int (nI tt))]) (st' := []) (H' := _) (kc' := 0) (ks' := 0) rfl ?_
    rw [show (nI (tt / 512 + k) + 1 : Int32) = nI (tt / 512 + k + 1) from nI_add (tt / 512 + k) 1]
    refine RQ.blk 1 (pc' := 81) (lv' := [(5, .int (nI (tt / 512 + k + 1))), (4, .int (nI (max (t.2.2.1 f) (tt + l)))), (3, .int (nI l)), (0, .ref 1), (1, .int (nI f)), (2, .int (nI tt))]) (st' := []) (H' := _) (kc' := 0) (ks' := 0) rfl ?_
    refine RQ.pick (a := [(5, .int (nI (tt / 512 + k + 1))), (4, .int (nI (max (t.2.2.1 f) (tt + l)))), (3, .int (nI l)), (0, .ref 1), (1, .int (nI f)), (2, .int (nI tt))]) [0, 1, 2, 3, 4, 5] [5, 4, 3, 0, 1, 2] rfl rfl (by decide) ?_
    rw [show tt / 512 + k + 1 = tt / 512 + (k + 1) by omega]
    exact ih (k + 1) _ ⟨by omega, z1, z2, z3, fun a a1 a2 a3 => (z4 a a1 a2 a3).trans (f4 a a1 a2 a3)⟩ (by omega)
  ·
    have h04 := (f4 0 (by decide) (by decide) (by decide)).trans h02
    have hke : k = ((tt + l + 511) / 512 - tt / 512) := by omega
    rw [hke] at hb4 hal
    have hT4 : TreeAt H4 t.1 t.2.1 t.2.2.1 t.2.2.2.1 t.2.2.2.2.1 t.2.2.2.2.2 := hT2.far (fun a a1 a2 => f4 a (by omega) (by omega) (by omega))
    have hout : 32 ≤ tt / 512 + k ∨ tt + l ≤ (tt / 512 + k) * 512 := by omega
    refine RQ.blk 2 (pc' := 85) (lv' := [(5, .int (nI (tt / 512 + k))), (4, .int (nI (max (t.2.2.1 f) (tt + l)))), (3, .int (nI l)), (0, .ref 1), (1, .int (nI f)), (2, .int (nI tt))]) (st' := [.int 32, .int (nI (tt / 512 + k))]) (H' := _) (kc' := 0) (ks' := 0) rfl ?_
    by_cases k32 : 32 ≤ tt / 512 + k
    · refine RQ.brT rfl rfl rfl (cT_ge (tt / 512 + k) 32) ?_
      refine RQ.blk 2 (pc' := 118) (lv' := [(5, .int (nI (tt / 512 + k))), (4, .int (nI (max (t.2.2.1 f) (tt + l)))), (3, .int (nI l)), (0, .ref 1), (1, .int (nI f)), (2, .int (nI tt))]) (st' := [.ref 1, .int (nI (max (t.2.2.1 f) (tt + l)))]) (H' := _) (kc' := 0) (ks' := 0) rfl ?_
      refine RQ.get (ci := 11) rfl h04 rfl rfl ?_
      refine RQ.blk 1 (pc' := 122) (lv' := [(5, .int (nI (tt / 512 + k))), (4, .int (nI (max (t.2.2.1 f) (tt + l)))), (3, .int (nI l)), (0, .ref 1), (1, .int (nI f)), (2, .int (nI tt))]) (st' := [.int (nI f), .ref 66, .int (nI (max (t.2.2.1 f) (tt + l)))]) (H' := _) (kc' := 0) (ks' := 0) rfl ?_
      refine RQ.call (v := some (.int (nI (t.2.2.1 f)))) (st' := [.int (nI (max (t.2.2.1 f) (tt + l)))]) rfl rfl rfl rfl rfl rfl (args_v [.int (nI f)] [.int (nI (max (t.2.2.1 f) (tt + l)))] rfl rfl (Nat.le_of_ble_eq_true rfl) rfl hT4.1 (Nat.le_of_ble_eq_true rfl)) (rc_sizeOf hT4 hk hf) ?_
      refine RQ.brF rfl rfl rfl (cF_eq (max (t.2.2.1 f) (tt + l)) (t.2.2.1 f)) ?_
      refine RQ.blk 3 (pc' := 132) (lv' := [(5, .int (nI (tt / 512 + k))), (4, .int (nI (max (t.2.2.1 f) (tt + l)))), (3, .int (nI l)), (0, .ref 1), (1, .int (nI f)), (2, .int (nI tt))]) (st' := [.int (nI (max (t.2.2.1 f) (tt + l))), .int (nI f), .ref 1]) (H' := _) (kc' := 0) (ks' := 0) rfl ?_
      refine RQ.callN (st' := []) rfl rfl rfl rfl rfl rfl (args_v [.int (nI (max (t.2.2.1 f) (tt + l))), .int (nI f)] [] rfl rfl (Nat.le_of_ble_eq_true rfl) rfl h04 (Nat.le_of_ble_eq_true rfl)) (rn_chSize (v := f) (s := (max (t.2.2.1 f) (tt + l))) h04 e54 e64 hb4 hT4 hk hf (by omega) (by omega) (by omega)) (fun H3 hx3 => ?_)
      obtain ⟨hb3, e53, e63, f3x⟩ := hx3
      rw [hws] at hb3
      have f3 : ∀ a, a ≠ 5 → a ≠ 6 → ¬ (59 ≤ a ∧ a < 64) → H3[a]? = H2[a]? := fun a a1 a2 a3 => (f3x a a1 a2 a3).trans (f4 a a1 a2 a3)
      have f13 : ∀ a, a ≠ 5 → a ≠ 6 → ¬ (59 ≤ a ∧ a < 64) → H3[a]? = H1[a]? := fun a a1 a2 a3 => (f3 a a1 a2 a3).trans (f2 a (by omega))
      have hc3 : ClsA H3 B P 1 1 1 cp cb tb 0 g rl wss t := by
        obtain ⟨qa, ea⟩ := e53
        obtain ⟨pa, eb⟩ := e63
        obtain ⟨c0, c1, c2, c3, c4, -, ⟨wq2, c10, cwq⟩, cW, -, cT⟩ := hc1
        exact ⟨(f13 0 (by decide) (by decide) (by decide)).trans c0, (f13 1 (by decide) (by decide) (by decide)).trans c1, (f13 2 (by decide) (by decide) (by decide)).trans c2, (f13 3 (by decide) (by decide) (by decide)).trans c3, (f13 4 (by decide) (by decide) (by decide)).trans c4, ⟨qa, pa, ea, eb⟩, ⟨wq2, (f13 10 (by decide) (by decide) (by decide)).trans c10, cwq⟩, fun t ht => ⟨(cW t ht).1.keep (fun a a1 a2 => f13 a (by omega) (by omega) (by omega)), (cW t ht).2.imp (fun Q hQ => (f13 _ (by omega) (by omega) (by omega)).trans hQ)⟩, ⟨⟨_, hb3⟩, Q0, (f3 64 (by decide) (by decide) (by decide)).trans hq2⟩, cT.far (fun a a1 a2 => f13 a (by omega) (by omega) (by omega))⟩
      have fk3 : FrK H H3 := fk1.trans (fun a ha => f13 a (by omega) (by omega) (by omega))
      have hch3 : ChB H H3 B P 1 1 cp cb tb 0 g rl wss t ws := ⟨hc3, hb3, fk3⟩
      obtain ⟨D3, S3, K3, E3, hb3A, hb3L, hb340, hb341⟩ := id hb3
      have hb3k := hb3L.ok hb340 hb341
      have h03 := hc3.1
      have h13 := hc3.2.1
      have h23 := hc3.2.2.1
      have hT3 : TreeAt H3 t.1 t.2.1 t.2.2.1 t.2.2.2.1 t.2.2.2.2.1 t.2.2.2.2.2 := hc3.2.2.2.2.2.2.2.2.2
      refine RQ.blk 2 (pc' := 137) (lv' := [(5, .int (nI (tt / 512 + k))), (4, .int (nI (max (t.2.2.1 f) (tt + l)))), (3, .int (nI l)), (0, .ref 1), (1, .int (nI f)), (2, .int (nI tt))]) (st' := [.ref 1, .ref 1]) (H' := _) (kc' := 0) (ks' := 0) rfl ?_
      refine RQ.get (ci := 11) rfl h03 rfl rfl ?_
      refine RQ.blk 1 (pc' := 141) (lv' := [(5, .int (nI (tt / 512 + k))), (4, .int (nI (max (t.2.2.1 f) (tt + l)))), (3, .int (nI l)), (0, .ref 1), (1, .int (nI f)), (2, .int (nI tt))]) (st' := [.int (-1), .ref 60, .ref 1]) (H' := _) (kc' := 0) (ks' := 0) rfl ?_
      obtain ⟨kf3, kl3, mo3, pl3, le3, al3, od3, sp3, sz3, ss3, ac3, hA3, hVW3, hvs3⟩ := (hV.far (fun a a1 a2 => fk3 a (by omega)) : VersIs H3 N vs)
      refine RQ.call (v := none) (st' := []) rfl rfl rfl rfl rfl rfl (args_v [.int (-1), .ref 60] [] rfl rfl (Nat.le_of_ble_eq_true rfl) rfl h03 (Nat.le_of_ble_eq_true rfl)) (rc_reqRoom h03 hA3 hVW3 hvs3 hb3A hb3k hb3L (hs.far2 (fun a a1 a2 => fk3 a (by omega))) (fun t ht => Nat.lt_trans (hsm t ht) (by decide)) (fun i hi => by obtain ⟨e, he⟩ := lt_get hi; rw [(hb3L i e he).2.1]; exact (hkl e (List.mem_of_getElem? he))) h1W hpr (by omega) hB hle) ?_
      refine RQ.blk 2 (pc' := 146) (lv' := [(5, .int (nI (tt / 512 + k))), (4, .int (nI (max (t.2.2.1 f) (tt + l)))), (3, .int (nI l)), (0, .ref 1), (1, .int (nI f)), (2, .int (nI tt))]) (st' := [.ref 1, .ref 1]) (H' := _) (kc' := 0) (ks' := 0) rfl ?_
      refine RQ.get (ci := 11) rfl h03 rfl rfl ?_
      refine RQ.get (ci := 0) rfl hb3A.1 rfl rfl ?_
      refine RQ.blk 2 (pc' := 154) (lv' := [(5, .int (nI (tt / 512 + k))), (4, .int (nI (max (t.2.2.1 f) (tt + l)))), (3, .int (nI l)), (0, .ref 1), (1, .int (nI f)), (2, .int (nI tt))]) (st' := [.int (nI ws.length + 1), .ref 1]) (H' := _) (kc' := 0) (ks' := 0) rfl ?_
      rw [show (nI ws.length + 1 : Int32) = nI (ws.length + 1) from nI_add ws.length 1]
      refine RQ.call (v := none) (st' := []) rfl rfl rfl rfl rfl rfl (args_v [.int (nI (ws.length + 1))] [] rfl rfl (Nat.le_of_ble_eq_true rfl) rfl h03 (Nat.le_of_ble_eq_true rfl)) (rc_armCutL h03) ?_
      refine RQ.blk 2 (pc' := 159) (lv' := [(5, .int (nI (tt / 512 + k))), (4, .int (nI (max (t.2.2.1 f) (tt + l)))), (3, .int (nI l)), (0, .ref 1), (1, .int (nI f)), (2, .int (nI tt))]) (st' := [.ref 1, .ref 1]) (H' := _) (kc' := 0) (ks' := 0) rfl ?_
      refine RQ.callB (st' := [.ref 1]) rfl rfl rfl rfl rfl rfl (args_v [] [.ref 1] rfl rfl (Nat.le_of_ble_eq_true rfl) rfl h03 (Nat.le_of_ble_eq_true rfl)) (hRM H3 hch3) (fun H4 hH4 => ?_) (fun H4 hH4 => False.elim hH4)
      · have g1 := hf1 H4 hH4
        refine RQ.brF rfl rfl rfl (by decide) ?_
        refine RQ.blk 2 (pc' := 167) (lv' := [(5, .int (nI (tt / 512 + k))), (4, .int (nI (max (t.2.2.1 f) (tt + l)))), (3, .int (nI l)), (0, .ref 1), (1, .int (nI f)), (2, .int (nI tt))]) (st' := [.ref 1, .ref 1, .ref 1]) (H' := _) (kc' := 0) (ks' := 0) rfl ?_
        refine RQ.get (ci := 11) rfl g1 rfl rfl ?_
        refine RQ.callB (st' := [.ref 1]) rfl rfl rfl rfl rfl rfl (args_v [.ref 60] [.ref 1] rfl rfl (Nat.le_of_ble_eq_true rfl) rfl g1 (Nat.le_of_ble_eq_true rfl)) (hST H4 hH4) (fun H5 hH5 => ?_) (fun H5 hH5 => False.elim hH5)
        · have g2 := hf2 H5 hH5
          refine RQ.brF rfl rfl rfl (by decide) ?_
          refine RQ.blk 2 (pc' := 181) (lv' := [(5, .int (nI (tt / 512 + k))), (4, .int (nI (max (t.2.2.1 f) (tt + l)))), (3, .int (nI l)), (0, .ref 1), (1, .int (nI f)), (2, .int (nI tt))]) (st' := [.int 1, .ref 1]) (H' := _) (kc' := 0) (ks' := 0) rfl ?_
          obtain ⟨HX, hxX, hpX⟩ := hSE H5 hH5
          exact RQ.callP (st' := []) rfl rfl rfl rfl rfl rfl (args_v [.int 1] [] rfl rfl (Nat.le_of_ble_eq_true rfl) rfl g2 (Nat.le_of_ble_eq_true rfl)) hxX rfl ⟨_, 1, by decide, rfl, hpX⟩
    · refine RQ.brF rfl rfl rfl (cF_ge (tt / 512 + k) 32) ?_
      refine RQ.blk 3 (pc' := 94) (lv' := [(5, .int (nI (tt / 512 + k))), (4, .int (nI (max (t.2.2.1 f) (tt + l)))), (3, .int (nI l)), (0, .ref 1), (1, .int (nI f)), (2, .int (nI tt))]) (st' := [.int (nI (tt / 512 + k) * 512)]) (H' := _) (kc' := 0) (ks' := 0) rfl ?_
      rw [show (nI (tt / 512 + k) * 512 : Int32) = nI ((tt / 512 + k) * 512) from pk_mul (tt / 512 + k) 512]
      refine RQ.blk 3 (pc' := 97) (lv' := [(5, .int (nI (tt / 512 + k))), (4, .int (nI (max (t.2.2.1 f) (tt + l)))), (3, .int (nI l)), (0, .ref 1), (1, .int (nI f)), (2, .int (nI tt))]) (st' := [.int (nI tt + nI l), .int (nI ((tt / 512 + k) * 512))]) (H' := _) (kc' := 0) (ks' := 0) rfl ?_
      rw [show (nI tt + nI l : Int32) = nI (tt + l) from nI_add tt l]
      refine RQ.brT rfl rfl rfl (cT_ge ((tt / 512 + k) * 512) (tt + l)) ?_
      refine RQ.blk 2 (pc' := 118) (lv' := [(5, .int (nI (tt / 512 + k))), (4, .int (nI (max (t.2.2.1 f) (tt + l)))), (3, .int (nI l)), (0, .ref 1), (1, .int (nI f)), (2, .int (nI tt))]) (st' := [.ref 1, .int (nI (max (t.2.2.1 f) (tt + l)))]) (H' := _) (kc' := 0) (ks' := 0) rfl ?_
      refine RQ.get (ci := 11) rfl h04 rfl rfl ?_
      refine RQ.blk 1 (pc' := 122) (lv' := [(5, .int (nI (tt / 512 + k))), (4, .int (nI (max (t.2.2.1 f) (tt + l)))), (3, .int (nI l)), (0, .ref 1), (1, .int (nI f)), (2, .int (nI tt))]) (st' := [.int (nI f), .ref 66, .int (nI (max (t.2.2.1 f) (tt + l)))]) (H' := _) (kc' := 0) (ks' := 0) rfl ?_
      refine RQ.call (v := some (.int (nI (t.2.2.1 f)))) (st' := [.int (nI (max (t.2.2.1 f) (tt + l)))]) rfl rfl rfl rfl rfl rfl (args_v [.int (nI f)] [.int (nI (max (t.2.2.1 f) (tt + l)))] rfl rfl (Nat.le_of_ble_eq_true rfl) rfl hT4.1 (Nat.le_of_ble_eq_true rfl)) (rc_sizeOf hT4 hk hf) ?_
      refine RQ.brF rfl rfl rfl (cF_eq (max (t.2.2.1 f) (tt + l)) (t.2.2.1 f)) ?_
      refine RQ.blk 3 (pc' := 132) (lv' := [(5, .int (nI (tt / 512 + k))), (4, .int (nI (max (t.2.2.1 f) (tt + l)))), (3, .int (nI l)), (0, .ref 1), (1, .int (nI f)), (2, .int (nI tt))]) (st' := [.int (nI (max (t.2.2.1 f) (tt + l))), .int (nI f), .ref 1]) (H' := _) (kc' := 0) (ks' := 0) rfl ?_
      refine RQ.callN (st' := []) rfl rfl rfl rfl rfl rfl (args_v [.int (nI (max (t.2.2.1 f) (tt + l))), .int (nI f)] [] rfl rfl (Nat.le_of_ble_eq_true rfl) rfl h04 (Nat.le_of_ble_eq_true rfl)) (rn_chSize (v := f) (s := (max (t.2.2.1 f) (tt + l))) h04 e54 e64 hb4 hT4 hk hf (by omega) (by omega) (by omega)) (fun H3 hx3 => ?_)
      obtain ⟨hb3, e53, e63, f3x⟩ := hx3
      rw [hws] at hb3
      have f3 : ∀ a, a ≠ 5 → a ≠ 6 → ¬ (59 ≤ a ∧ a < 64) → H3[a]? = H2[a]? := fun a a1 a2 a3 => (f3x a a1 a2 a3).trans (f4 a a1 a2 a3)
      have f13 : ∀ a, a ≠ 5 → a ≠ 6 → ¬ (59 ≤ a ∧ a < 64) → H3[a]? = H1[a]? := fun a a1 a2 a3 => (f3 a a1 a2 a3).trans (f2 a (by omega))
      have hc3 : ClsA H3 B P 1 1 1 cp cb tb 0 g rl wss t := by
        obtain ⟨qa, ea⟩ := e53
        obtain ⟨pa, eb⟩ := e63
        obtain ⟨c0, c1, c2, c3, c4, -, ⟨wq2, c10, cwq⟩, cW, -, cT⟩ := hc1
        exact ⟨(f13 0 (by decide) (by decide) (by decide)).trans c0, (f13 1 (by decide) (by decide) (by decide)).trans c1, (f13 2 (by decide) (by decide) (by decide)).trans c2, (f13 3 (by decide) (by decide) (by decide)).trans c3, (f13 4 (by decide) (by decide) (by decide)).trans c4, ⟨qa, pa, ea, eb⟩, ⟨wq2, (f13 10 (by decide) (by decide) (by decide)).trans c10, cwq⟩, fun t ht => ⟨(cW t ht).1.keep (fun a a1 a2 => f13 a (by omega) (by omega) (by omega)), (cW t ht).2.imp (fun Q hQ => (f13 _ (by omega) (by omega) (by omega)).trans hQ)⟩, ⟨⟨_, hb3⟩, Q0, (f3 64 (by decide) (by decide) (by decide)).trans hq2⟩, cT.far (fun a a1 a2 => f13 a (by omega) (by omega) (by omega))⟩
      have fk3 : FrK H H3 := fk1.trans (fun a ha => f13 a (by omega) (by omega) (by omega))
      have hch3 : ChB H H3 B P 1 1 cp cb tb 0 g rl wss t ws := ⟨hc3, hb3, fk3⟩
      obtain ⟨D3, S3, K3, E3, hb3A, hb3L, hb340, hb341⟩ := id hb3
      have hb3k := hb3L.ok hb340 hb341
      have h03 := hc3.1
      have h13 := hc3.2.1
      have h23 := hc3.2.2.1
      have hT3 : TreeAt H3 t.1 t.2.1 t.2.2.1 t.2.2.2.1 t.2.2.2.2.1 t.2.2.2.2.2 := hc3.2.2.2.2.2.2.2.2.2
      refine RQ.blk 2 (pc' := 137) (lv' := [(5, .int (nI (tt / 512 + k))), (4, .int (nI (max (t.2.2.1 f) (tt + l)))), (3, .int (nI l)), (0, .ref 1), (1, .int (nI f)), (2, .int (nI tt))]) (st' := [.ref 1, .ref 1]) (H' := _) (kc' := 0) (ks' := 0) rfl ?_
      refine RQ.get (ci := 11) rfl h03 rfl rfl ?_
      refine RQ.blk 1 (pc' := 141) (lv' := [(5, .int (nI (tt / 512 + k))), (4, .int (nI (max (t.2.2.1 f) (tt + l)))), (3, .int (nI l)), (0, .ref 1), (1, .int (nI f)), (2, .int (nI tt))]) (st' := [.int (-1), .ref 60, .ref 1]) (H' := _) (kc' := 0) (ks' := 0) rfl ?_
      obtain ⟨kf3, kl3, mo3, pl3, le3, al3, od3, sp3, sz3, ss3, ac3, hA3, hVW3, hvs3⟩ := (hV.far (fun a a1 a2 => fk3 a (by omega)) : VersIs H3 N vs)
      refine RQ.call (v := none) (st' := []) rfl rfl rfl rfl rfl rfl (args_v [.int (-1), .ref 60] [] rfl rfl (Nat.le_of_ble_eq_true rfl) rfl h03 (Nat.le_of_ble_eq_true rfl)) (rc_reqRoom h03 hA3 hVW3 hvs3 hb3A hb3k hb3L (hs.far2 (fun a a1 a2 => fk3 a (by omega))) (fun t ht => Nat.lt_trans (hsm t ht) (by decide)) (fun i hi => by obtain ⟨e, he⟩ := lt_get hi; rw [(hb3L i e he).2.1]; exact (hkl e (List.mem_of_getElem? he))) h1W hpr (by omega) hB hle) ?_
      refine RQ.blk 2 (pc' := 146) (lv' := [(5, .int (nI (tt / 512 + k))), (4, .int (nI (max (t.2.2.1 f) (tt + l)))), (3, .int (nI l)), (0, .ref 1), (1, .int (nI f)), (2, .int (nI tt))]) (st' := [.ref 1, .ref 1]) (H' := _) (kc' := 0) (ks' := 0) rfl ?_
      refine RQ.get (ci := 11) rfl h03 rfl rfl ?_
      refine RQ.get (ci := 0) rfl hb3A.1 rfl rfl ?_
      refine RQ.blk 2 (pc' := 154) (lv' := [(5, .int (nI (tt / 512 + k))), (4, .int (nI (max (t.2.2.1 f) (tt + l)))), (3, .int (nI l)), (0, .ref 1), (1, .int (nI f)), (2, .int (nI tt))]) (st' := [.int (nI ws.length + 1), .ref 1]) (H' := _) (kc' := 0) (ks' := 0) rfl ?_
      rw [show (nI ws.length + 1 : Int32) = nI (ws.length + 1) from nI_add ws.length 1]
      refine RQ.call (v := none) (st' := []) rfl rfl rfl rfl rfl rfl (args_v [.int (nI (ws.length + 1))] [] rfl rfl (Nat.le_of_ble_eq_true rfl) rfl h03 (Nat.le_of_ble_eq_true rfl)) (rc_armCutL h03) ?_
      refine RQ.blk 2 (pc' := 159) (lv' := [(5, .int (nI (tt / 512 + k))), (4, .int (nI (max (t.2.2.1 f) (tt + l)))), (3, .int (nI l)), (0, .ref 1), (1, .int (nI f)), (2, .int (nI tt))]) (st' := [.ref 1, .ref 1]) (H' := _) (kc' := 0) (ks' := 0) rfl ?_
      refine RQ.callB (st' := [.ref 1]) rfl rfl rfl rfl rfl rfl (args_v [] [.ref 1] rfl rfl (Nat.le_of_ble_eq_true rfl) rfl h03 (Nat.le_of_ble_eq_true rfl)) (hRM H3 hch3) (fun H4 hH4 => ?_) (fun H4 hH4 => False.elim hH4)
      · have g1 := hf1 H4 hH4
        refine RQ.brF rfl rfl rfl (by decide) ?_
        refine RQ.blk 2 (pc' := 167) (lv' := [(5, .int (nI (tt / 512 + k))), (4, .int (nI (max (t.2.2.1 f) (tt + l)))), (3, .int (nI l)), (0, .ref 1), (1, .int (nI f)), (2, .int (nI tt))]) (st' := [.ref 1, .ref 1, .ref 1]) (H' := _) (kc' := 0) (ks' := 0) rfl ?_
        refine RQ.get (ci := 11) rfl g1 rfl rfl ?_
        refine RQ.callB (st' := [.ref 1]) rfl rfl rfl rfl rfl rfl (args_v [.ref 60] [.ref 1] rfl rfl (Nat.le_of_ble_eq_true rfl) rfl g1 (Nat.le_of_ble_eq_true rfl)) (hST H4 hH4) (fun H5 hH5 => ?_) (fun H5 hH5 => False.elim hH5)
        · have g2 := hf2 H5 hH5
          refine RQ.brF rfl rfl rfl (by decide) ?_
          refine RQ.blk 2 (pc' := 181) (lv' := [(5, .int (nI (tt / 512 + k))), (4, .int (nI (max (t.2.2.1 f) (tt + l)))), (3, .int (nI l)), (0, .ref 1), (1, .int (nI f)), (2, .int (nI tt))]) (st' := [.int 1, .ref 1]) (H' := _) (kc' := 0) (ks' := 0) rfl ?_
          obtain ⟨HX, hxX, hpX⟩ := hSE H5 hH5
          exact RQ.callP (st' := []) rfl rfl rfl rfl rfl rfl (args_v [.int 1] [] rfl rfl (Nat.le_of_ble_eq_true rfl) rfl g2 (Nat.le_of_ble_eq_true rfl)) hxX rfl ⟨_, 1, by decide, rfl, hpX⟩
set_option maxRecDepth 20000 in
theorem rx_write1_cut {sc : Nat × (Nat → Int32)} {d : Nat} {H : aH} {B P : Nat}  {cp cb : Nat} {tb : Nat → Int8} {l : Nat} {g : Nat → Int8} {rl : Nat} {wss : Nat → List aE} {t : aTr} {f tt : Nat} {ws : List aE} {op : Nat → Bool} {sm : Nat → Nat} {N : Nat} {kf : Nat → Int8} {kl mo pl : Nat → Nat} {le : Nat → Option Nat} {al : Nat → Bool} {od sp : Nat → Nat} {sz ss ac : Nat} {vs : List aV} {cf : Nat → Int8} {tf : Nat → Nat} {pq : Option Nat} {bb ov lc fr ff : Nat} {wr : Bool} {tp rc ms mt sq tu tn nb : Nat} {us : Nat → Bool} {lg : Nat → Nat} {mp hv : Nat} {ok1 bad fin : aH → Prop} (h : ClsA H B P 1 1 0 cp cb tb l g rl wss t) (hk : TreeOk t.1 t.2.1 t.2.2.1 t.2.2.2.1) (hf : f ≤ 200) (hl1 : 1 ≤ l) (hl2 : l ≤ 2000) (htt : tt ≤ 16384 - l) (hkd : t.1 f = 1) (hgr : t.2.2.1 f < tt + l) (hws : (wrA cf vs f tt l tb ((tt + l + 511) / 512 - tt / 512)) ++ [([1, f], some ([1, t.2.1 f] ++ (beB 2 (max (t.2.2.1 f) (tt + l)) ++ sl t.2.2.2.2.1 (f * 30) (t.2.2.2.1 f))))] = ws) (h1W : OneW ws) (hkl : ∀ e ∈ ws, 1 ≤ e.1.length) (hA : VersAt H N kf kl mo pl le al od sp sz ss ac) (hVW : VersWf N kf kl mo pl le al od sp sz ss ac) (hvs : vs = vsL kf kl mo pl le al od sz) (hC : ChipAt H B cf tf pq bb ov) (hY : LayAt H (layF B lc fr ff wr tp rc ms mt sq tu tn nb) B us lg) (hB : B ≤ 128) (hlc : lc ≤ B) (hlg : ∀ j, j < lc → lg j < 2 ^ 30) (hG : H[190]? = some (kO 4 (logF mp hv))) (hRec : RecsOk cf B lg lc vs) (hpl : ∀ i, (∀ v : aV, seenV vs [2, f, i] (2 ^ 30) = some v → ∀ n, v.2.2.2.1 = some n → n ≤ 512) ∧ (pcV cf vs f i).length ≤ 512) (hs : SightAt H op sm) (hsm : ∀ t, t < 8 → sm t < 2 ^ 30) (hV : VersIs H N vs) (hpr : ∀ v ∈ vs, v.2.1 ≤ P) (hP : P + 1 < 2 ^ 30) (hle : sumN op sm (-1) (P + 1) (kmV (inclV (P + 1) (fun _ => 0) 0 ws vs)) (inclV (P + 1) (fun _ => 0) 0 ws vs) ≤ B * 256) (hC0 : ∀ H', ChB H H' B P 1 0 cp cb tb 0 g rl wss t ws → ∃ cf tf pq bb, ChipAt H' B cf tf pq bb 0) (hcp : cp < 2 ^ 31) (hRM : ∀ H', ChB H H' B P 1 0 cp cb tb 0 g rl wss t ws → RB sc (d + 7) mr_96 [.ref 1] (H'.set 71 (kO 1 [.ref 73, .ref 74, .int (lI (some (cp % (ws.length + 1)))), .int (nI cb), .int (nI 0)])) ok1 bad) (hST : ∀ H', ok1 H' → RB sc (d + 7) mr_150 [.ref 1, .ref 60] H' (fun _ => False) bad) (hf1 : ∀ H', ok1 H' → H'[0]? = some (kO 11 (fvs (nI B) (nI P) 1 1 0 (nI cp) (nI cb)))) (hSB : ∀ H', bad H' → RX sc (d + 7) mr_153 [.ref 1, .int 0] H' 1 fin) (hfb : ∀ H', bad H' → H'[0]? = some (kO 11 (fvs (nI B) (nI P) 1 1 0 (nI cp) (nI cb)))) : RXc sc (d + 8) mr_238 [.ref 1, .int (nI f), .int (nI tt)] H 1 (fun H' => fin H') := by
  obtain ⟨h0, h1, h2, h3, h4, ⟨q5, p6, h5, h6⟩, ⟨wq, h10, hwq⟩, hW, hCh, hT⟩ := id h
  refine RXc.of ?_
  refine RQ.blk 2 (pc' := 2) (lv' := [(0, .ref 1), (1, .int (nI f)), (2, .int (nI tt))]) (st' := [.int (nI f), .ref 1]) (H' := _) (kc' := 0) (ks' := 0) rfl ?_
  refine RQ.call (v := none) (st' := []) rfl rfl rfl rfl rfl rfl (args_v [.int (nI f)] [] rfl rfl (Nat.le_of_ble_eq_true rfl) rfl h0 (Nat.le_of_ble_eq_true rfl)) (rc_reqNum h0 hf) ?_
  refine RQ.blk 2 (pc' := 7) (lv' := [(0, .ref 1), (1, .int (nI f)), (2, .int (nI tt))]) (st' := [.ref 1, .ref 1]) (H' := _) (kc' := 0) (ks' := 0) rfl ?_
  refine RQ.get (ci := 11) rfl h0 rfl rfl ?_
  refine RQ.get (ci := 5) rfl h1 rfl rfl ?_
  refine RQ.blk 2 (pc' := 17) (lv' := [(0, .ref 1), (1, .int (nI f)), (2, .int (nI tt))]) (st' := [.int 2000, .int 1, .int (nI l), .ref 1]) (H' := _) (kc' := 0) (ks' := 0) rfl ?_
  refine RQ.call (v := none) (st' := []) rfl rfl rfl rfl rfl rfl (args_v [.int 2000, .int 1, .int (nI l)] [] rfl rfl (Nat.le_of_ble_eq_true rfl) rfl h0 (Nat.le_of_ble_eq_true rfl)) (rc_range (fun e => absurd e (nI_nlt hl1 (by omega))) (rg_hi (n := 2000) hl2 (by decide))) ?_
  refine RQ.blk 5 (pc' := 27) (lv' := [(0, .ref 1), (1, .int (nI f)), (2, .int (nI tt))]) (st' := [.ref 1, .int 16384, .int 0, .int (nI tt), .ref 1]) (H' := _) (kc' := 0) (ks' := 0) rfl ?_
  refine RQ.get (ci := 11) rfl h0 rfl rfl ?_
  refine RQ.get (ci := 5) rfl h1 rfl rfl ?_
  refine RQ.blk 1 (pc' := 34) (lv' := [(0, .ref 1), (1, .int (nI f)), (2, .int (nI tt))]) (st' := [.int (16384 - nI l), .int 0, .int (nI tt), .ref 1]) (H' := _) (kc' := 0) (ks' := 0) rfl ?_
  rw [show (16384 - nI l : Int32) = nI (16384 - l) from pk_sub (a := 16384) (b := l) (by omega)]
  refine RQ.call (v := none) (st' := []) rfl rfl rfl rfl rfl rfl (args_v [.int (nI (16384 - l)), .int 0, .int (nI tt)] [] rfl rfl (Nat.le_of_ble_eq_true rfl) rfl h0 (Nat.le_of_ble_eq_true rfl)) (rc_range (nI_nlt (Nat.zero_le tt) (by omega)) (rg_hi (n := 16384 - l) htt (by omega))) ?_
  refine RQ.blk 1 (pc' := 38) (lv' := [(0, .ref 1), (1, .int (nI f)), (2, .int (nI tt))]) (st' := [.ref 1]) (H' := _) (kc' := 0) (ks' := 0) rfl ?_
  refine RQ.call (v := none) (st' := []) rfl rfl rfl rfl rfl rfl (args_v [] [] rfl rfl (Nat.le_of_ble_eq_true rfl) rfl h0 (Nat.le_of_ble_eq_true rfl)) (rc_up h0 rfl) ?_
  refine RQ.blk 1 (pc' := 42) (lv' := [(0, .ref 1), (1, .int (nI f)), (2, .int (nI tt))]) (st' := [.ref 1]) (H' := _) (kc' := 0) (ks' := 0) rfl ?_
  refine RQ.call (v := some (.int (nI l))) (st' := []) rfl rfl rfl rfl rfl rfl (args_v [] [] rfl rfl (Nat.le_of_ble_eq_true rfl) rfl h0 (Nat.le_of_ble_eq_true rfl)) (rc_takeTape h0 h1) ?_
  have far1 : ∀ a, a ≠ 1 → (H.set 1 (kO 5 [.ref 3, .int (nI 0)]))[a]? = H[a]? := fun a ha => set_far ha
  have h11 : (H.set 1 (kO 5 [.ref 3, .int (nI 0)]))[1]? = some (kO 5 [.ref 3, .int (nI 0)]) := get_set h1
  refine RQ.blk 1 (pc' := 46) (lv' := [(3, .int (nI l)), (0, .ref 1), (1, .int (nI f)), (2, .int (nI tt))]) (st' := []) (H' := _) (kc' := 0) (ks' := 0) rfl ?_
  show RQ _ _ _ 46 [(3, .int (nI l)), (0, .ref 1), (1, .int (nI f)), (2, .int (nI tt))] [] (H.set 1 (kO 5 [.ref 3, .int (nI 0)])) 0 0 _
  generalize (H.set 1 (kO 5 [.ref 3, .int (nI 0)])) = H1 at far1 h11 ⊢
  have h01 := (far1 0 (by decide)).trans h0
  have h21 := (far1 2 (by decide)).trans h2
  have hT1 : TreeAt H1 t.1 t.2.1 t.2.2.1 t.2.2.2.1 t.2.2.2.2.1 t.2.2.2.2.2 := hT.far (fun a a1 a2 => far1 a (by omega))
  have hc1 : ClsA H1 B P 1 1 0 cp cb tb 0 g rl wss t := h.small h01 h11 h21 ((far1 3 (by decide)).trans h3) ((far1 4 (by decide)).trans h4) ⟨q5, p6, (far1 5 (by decide)).trans h5, (far1 6 (by decide)).trans h6⟩ (fun a a1 a2 => far1 a (by omega))
  have fk1 : FrK H H1 := fun a ha => far1 a (by omega)
  refine RQ.blk 2 (pc' := 48) (lv' := [(3, .int (nI l)), (0, .ref 1), (1, .int (nI f)), (2, .int (nI tt))]) (st' := [.int (nI f), .ref 1]) (H' := _) (kc' := 0) (ks' := 0) rfl ?_
  refine RQ.call (v := none) (st' := []) rfl rfl rfl rfl rfl rfl (args_v [.int (nI f)] [] rfl rfl (Nat.le_of_ble_eq_true rfl) rfl h01 (Nat.le_of_ble_eq_true rfl)) (rc_requireFile1 h01 hT1 hk hf hkd) ?_
  refine RQ.blk 1 (pc' := 52) (lv' := [(3, .int (nI l)), (0, .ref 1), (1, .int (nI f)), (2, .int (nI tt))]) (st' := [.ref 1]) (H' := _) (kc' := 0) (ks' := 0) rfl ?_
  refine RQ.get (ci := 11) rfl h01 rfl rfl ?_
  refine RQ.blk 1 (pc' := 56) (lv' := [(3, .int (nI l)), (0, .ref 1), (1, .int (nI f)), (2, .int (nI tt))]) (st' := [.int (nI f), .ref 66]) (H' := _) (kc' := 0) (ks' := 0) rfl ?_
  refine RQ.call (v := some (.int (nI (t.2.2.1 f)))) (st' := []) rfl rfl rfl rfl rfl rfl (args_v [.int (nI f)] [] rfl rfl (Nat.le_of_ble_eq_true rfl) rfl hT1.1 (Nat.le_of_ble_eq_true rfl)) (rc_sizeOf hT1 hk hf) ?_
  have hkf := hk f hf
  refine RQ.blk 3 (pc' := 62) (lv' := [(3, .int (nI l)), (0, .ref 1), (1, .int (nI f)), (2, .int (nI tt))]) (st' := [.int (nI tt + nI l), .int (nI (t.2.2.1 f))]) (H' := _) (kc' := 0) (ks' := 0) rfl ?_
  rw [show (nI tt + nI l : Int32) = nI (tt + l) from nI_add tt l]
  refine RQ.blk 1 (pc' := 65) (lv' := [(3, .int (nI l)), (0, .ref 1), (1, .int (nI f)), (2, .int (nI tt))]) (st' := [.int (if nI (t.2.2.1 f) < nI (tt + l) then nI (tt + l) else nI (t.2.2.1 f))]) (H' := _) (kc' := 0) (ks' := 0) rfl ?_
  rw [show (if nI (t.2.2.1 f) < nI (tt + l) then nI (tt + l) else nI (t.2.2.1 f) : Int32) = nI (max (t.2.2.1 f) (tt + l)) from maxI (a := (t.2.2.1 f)) (b := (tt + l)) (by omega) (by omega)]
  refine RQ.blk 1 (pc' := 67) (lv' := [(4, .int (nI (max (t.2.2.1 f) (tt + l)))), (3, .int (nI l)), (0, .ref 1), (1, .int (nI f)), (2, .int (nI tt))]) (st' := []) (H' := _) (kc' := 0) (ks' := 0) rfl ?_
  obtain ⟨⟨ws0, hb0⟩, Q0, hq0⟩ := hc1.2.2.2.2.2.2.2.2.1
  obtain ⟨D0, S0, K0, E0, hb0A, -⟩ := id hb0
  refine RQ.blk 1 (pc' := 68) (lv' := [(4, .int (nI (max (t.2.2.1 f) (tt + l)))), (3, .int (nI l)), (0, .ref 1), (1, .int (nI f)), (2, .int (nI tt))]) (st' := [.ref 1]) (H' := _) (kc' := 0) (ks' := 0) rfl ?_
  refine RQ.get (ci := 11) rfl h01 rfl rfl ?_
  refine RQ.callN (st' := []) rfl rfl rfl rfl rfl rfl (args_v [] [] rfl rfl (Nat.le_of_ble_eq_true rfl) rfl hb0A.1 (Nat.le_of_ble_eq_true rfl)) (rn_bclearI hb0) (fun H2 hx2 => ?_)
  obtain ⟨hb2, f2⟩ := hx2
  have h02 := (f2 0 (by decide)).trans h01
  have h12 := (f2 1 (by decide)).trans h11
  have h22 := (f2 2 (by decide)).trans h21
  have hT2 : TreeAt H2 t.1 t.2.1 t.2.2.1 t.2.2.2.1 t.2.2.2.2.1 t.2.2.2.2.2 := hT1.far (fun a a1 a2 => f2 a (by omega))
  have hq2 := (f2 64 (by decide)).trans hq0
  have e52 : ∃ q : Nat, H2[5]? = some (kO 5 [.ref 7, .int (nI q)]) := ⟨q5, (f2 5 (by decide)).trans ((far1 5 (by decide)).trans h5)⟩
  have e62 : ∃ g, H2[6]? = some (kB 41 g) := ⟨p6, (f2 6 (by decide)).trans ((far1 6 (by decide)).trans h6)⟩
  refine RQ.blk 3 (pc' := 79) (lv' := [(4, .int (nI (max (t.2.2.1 f) (tt + l)))), (3, .int (nI l)), (0, .ref 1), (1, .int (nI f)), (2, .int (nI tt))]) (st' := [.int (nI tt / 512)]) (H' := _) (kc' := 0) (ks' := 0) rfl ?_
  rw [show (nI tt / 512 : Int32) = nI (tt / 512) from pk_div (a := tt) (d := 512) (by omega) (by omega) (by omega)]
  refine RQ.blk 1 (pc' := 81) (lv' := [(5, .int (nI (tt / 512))), (4, .int (nI (max (t.2.2.1 f) (tt + l)))), (3, .int (nI l)), (0, .ref 1), (1, .int (nI f)), (2, .int (nI tt))]) (st' := []) (H' := _) (kc' := 0) (ks' := 0) rfl ?_
  refine RQ.pick (a := [(5, .int (nI (tt / 512))), (4, .int (nI (max (t.2.2.1 f) (tt + l)))), (3, .int (nI l)), (0, .ref 1), (1, .int (nI f)), (2, .int (nI tt))]) [0, 1, 2, 3, 4, 5] [5, 4, 3, 0, 1, 2] rfl rfl (by decide) ?_
  refine RQ.while (S := Nat) (pc := 81) (fun k H' => k ≤ ((tt + l + 511) / 512 - tt / 512) ∧ BatchIs H' 59 (wrA cf vs f tt l tb k) ∧ (∃ q : Nat, H'[5]? = some (kO 5 [.ref 7, .int (nI q)])) ∧ (∃ g, H'[6]? = some (kB 41 g)) ∧ ∀ a, a ≠ 5 → a ≠ 6 → ¬ (59 ≤ a ∧ a < 64) → H'[a]? = H2[a]?) (fun k => [(5, .int (nI (tt / 512 + k))), (4, .int (nI (max (t.2.2.1 f) (tt + l)))), (3, .int (nI l)), (0, .ref 1), (1, .int (nI f)), (2, .int (nI tt))]) (fun k => ((tt + l + 511) / 512 - tt / 512) - k) ?_ 0 H2 ⟨Nat.zero_le _, hb2, e52, e62, fun _ _ _ _ => rfl⟩
  rintro k H4 ⟨hk1, hb4, e54, e64, f4⟩ ih
  have hal := wrA_len (c := cf) (vs := vs) (f := f) (tt := tt) (n := l) (tb := tb) (fun i => (hpl i).2) k
  have hcn : ((tt + l + 511) / 512 - tt / 512) ≤ 5 := by omega
  by_cases hki : k < ((tt + l + 511) / 512 - tt / 512)
  ·
    have h04 := (f4 0 (by decide) (by decide) (by decide)).trans h02
    refine RQ.blk 2 (pc' := 85) (lv' := [(5, .int (nI (tt / 512 + k))), (4, .int (nI (max (t.2.2.1 f) (tt + l)))), (3, .int (nI l)), (0, .ref 1), (1, .int (nI f)), (2, .int (nI tt))]) (st' := [.int 32, .int (nI (tt / 512 + k))]) (H' := _) (kc' := 0) (ks' := 0) rfl ?_
    refine RQ.brF rfl rfl rfl (cF_ge (tt / 512 + k) 32) ?_
    refine RQ.blk 3 (pc' := 94) (lv' := [(5, .int (nI (tt / 512 + k))), (4, .int (nI (max (t.2.2.1 f) (tt + l)))), (3, .int (nI l)), (0, .ref 1), (1, .int (nI f)), (2, .int (nI tt))]) (st' := [.int (nI (tt / 512 + k) * 512)]) (H' := _) (kc' := 0) (ks' := 0) rfl ?_
    rw [show (nI (tt / 512 + k) * 512 : Int32) = nI ((tt / 512 + k) * 512) from pk_mul (tt / 512 + k) 512]
    refine RQ.blk 3 (pc' := 97) (lv' := [(5, .int (nI (tt / 512 + k))), (4, .int (nI (max (t.2.2.1 f) (tt + l)))), (3, .int (nI l)), (0, .ref 1), (1, .int (nI f)), (2, .int (nI tt))]) (st' := [.int (nI tt + nI l), .int (nI ((tt / 512 + k) * 512))]) (H' := _) (kc' := 0) (ks' := 0) rfl ?_
    rw [show (nI tt + nI l : Int32) = nI (tt + l) from nI_add tt l]
    refine RQ.brF rfl rfl rfl (cF_ge ((tt / 512 + k) * 512) (tt + l)) ?_
    refine RQ.blk 5 (pc' := 106) (lv' := [(5, .int (nI (tt / 512 + k))), (4, .int (nI (max (t.2.2.1 f) (tt + l)))), (3, .int (nI l)), (0, .ref 1), (1, .int (nI f)), (2, .int (nI tt))]) (st' := [.int (nI l), .int (nI tt), .int (nI (tt / 512 + k)), .int (nI f), .ref 1]) (H' := _) (kc' := 0) (ks' := 0) rfl ?_
    refine RQ.callN (st' := []) rfl rfl rfl rfl rfl rfl (args_v [.int (nI l), .int (nI tt), .int (nI (tt / 512 + k)), .int (nI f)] [] rfl rfl (Nat.le_of_ble_eq_true rfl) rfl h04 (Nat.le_of_ble_eq_true rfl)) (rn_chPiece (f := f) (i := tt / 512 + k) (tt := tt) (n := l) h04 e54 e64 hb4 ((f4 1 (by decide) (by decide) (by decide)).trans h12) ((f4 2 (by decide) (by decide) (by decide)).trans h22) (hA.far (fun a a1 a2 => (f4 a (by omega) (by omega) (by omega)).trans ((f2 a (by omega)).trans (far1 a (by omega))))) hVW hvs (hC.far (fun a a1 a2 => (f4 a (by omega) (by omega) (by omega)).trans ((f2 a (by omega)).trans (far1 a (by omega))))) ⟨((f4 83 (by decide) (by decide) (by decide)).trans ((f2 83 (by decide)).trans (far1 83 (by decide)))).trans hY.1, ((f4 86 (by decide) (by decide) (by decide)).trans ((f2 86 (by decide)).trans (far1 86 (by decide)))).trans hY.2.1, ((f4 87 (by decide) (by decide) (by decide)).trans ((f2 87 (by decide)).trans (far1 87 (by decide)))).trans hY.2.2⟩ hB hlc hlg (((f4 190 (by decide) (by decide) (by decide)).trans ((f2 190 (by decide)).trans (far1 190 (by decide)))).trans hG) hRec (hpl _).1 (by omega) (by omega) (by omega) hl2 (by omega) (by omega) hl1 (by omega) (by omega)) (fun H5 hx5 => ?_)
    obtain ⟨z1, z2, z3, z4⟩ := hx5
    refine RQ.blk 1 (pc' := 112) (lv' := [(5, .int (nI (tt / 512 + k) + 1)), (4, .int (nI (max (t.2.2.1 f) (tt + l)))), (3, .int (nI l)), (0, .ref 1), (1, .int (nI f)), (2, .int (nI tt))]) (st' := []) (H' := _) (kc' := 0) (ks' := 0) rfl ?_
    rw [show (nI (tt / 512 + k) + 1 : Int32) = nI (tt / 512 + k + 1) from nI_add (tt / 512 + k) 1]
    refine RQ.blk 1 (pc' := 81) (lv' := [(5, .int (nI (tt / 512 + k + 1))), (4, .int (nI (max (t.2.2.1 f) (tt + l)))), (3, .int (nI l)), (0, .ref 1), (1, .int (nI f)), (2, .int (nI tt))]) (st' := []) (H' := _) (kc' := 0) (ks' := 0) rfl ?_
    refine RQ.pick (a := [(5, .int (nI (tt / 512 + k + 1))), (4, .int (nI (max (t.2.2.1 f) (tt + l)))), (3, .int (nI l)), (0, .ref 1), (1, .int (nI f)), (2, .int (nI tt))]) [0, 1, 2, 3, 4, 5] [5, 4, 3, 0, 1, 2] rfl rfl (by decide) ?_
    rw [show tt / 512 + k + 1 = tt / 512 + (k + 1) by omega]
    exact ih (k + 1) _ ⟨by omega, z1, z2, z3, fun a a1 a2 a3 => (z4 a a1 a2 a3).trans (f4 a a1 a2 a3)⟩ (by omega)
  ·
    have h04 := (f4 0 (by decide) (by decide) (by decide)).trans h02
    have hke : k = ((tt + l + 511) / 512 - tt / 512) := by omega
    rw [hke] at hb4 hal
    have hT4 : TreeAt H4 t.1 t.2.1 t.2.2.1 t.2.2.2.1 t.2.2.2.2.1 t.2.2.2.2.2 := hT2.far (fun a a1 a2 => f4 a (by omega) (by omega) (by omega))
    have hout : 32 ≤ tt / 512 + k ∨ tt + l ≤ (tt / 512 + k) * 512 := by omega
    refine RQ.blk 2 (pc' := 85) (lv' := [(5, .int (nI (tt / 512 + k))), (4, .int (nI (max (t.2.2.1 f) (tt + l)))), (3, .int (nI l)), (0, .ref 1), (1, .int (nI f)), (2, .int (nI tt))]) (st' := [.int 32, .int (nI (tt / 512 + k))]) (H' := _) (kc' := 0) (ks' := 0) rfl ?_
    by_cases k32 : 32 ≤ tt / 512 + k
    · refine RQ.brT rfl rfl rfl (cT_ge (tt / 512 + k) 32) ?_
      refine RQ.blk 2 (pc' := 118) (lv' := [(5, .int (nI (tt / 512 + k))), (4, .int (nI (max (t.2.2.1 f) (tt + l)))), (3, .int (nI l)), (0, .ref 1), (1, .int (nI f)), (2, .int (nI tt))]) (st' := [.ref 1, .int (nI (max (t.2.2.1 f) (tt + l)))]) (H' := _) (kc' := 0) (ks' := 0) rfl ?_
      refine RQ.get (ci := 11) rfl h04 rfl rfl ?_
      refine RQ.blk 1 (pc' := 122) (lv' := [(5, .int (nI (tt / 512 + k))), (4, .int (nI (max (t.2.2.1 f) (tt + l)))), (3, .int (nI l)), (0, .ref 1), (1, .int (nI f)), (2, .int (nI tt))]) (st' := [.int (nI f), .ref 66, .int (nI (max (t.2.2.1 f) (tt + l)))]) (H' := _) (kc' := 0) (ks' := 0) rfl ?_
      refine RQ.call (v := some (.int (nI (t.2.2.1 f)))) (st' := [.int (nI (max (t.2.2.1 f) (tt + l)))]) rfl rfl rfl rfl rfl rfl (args_v [.int (nI f)] [.int (nI (max (t.2.2.1 f) (tt + l)))] rfl rfl (Nat.le_of_ble_eq_true rfl) rfl hT4.1 (Nat.le_of_ble_eq_true rfl)) (rc_sizeOf hT4 hk hf) ?_
      refine RQ.brF rfl rfl rfl (cF_eq (max (t.2.2.1 f) (tt + l)) (t.2.2.1 f)) ?_
      refine RQ.blk 3 (pc' := 132) (lv' := [(5, .int (nI (tt / 512 + k))), (4, .int (nI (max (t.2.2.1 f) (tt + l)))), (3, .int (nI l)), (0, .ref 1), (1, .int (nI f)), (2, .int (nI tt))]) (st' := [.int (nI (max (t.2.2.1 f) (tt + l))), .int (nI f), .ref 1]) (H' := _) (kc' := 0) (ks' := 0) rfl ?_
      refine RQ.callN (st' := []) rfl rfl rfl rfl rfl rfl (args_v [.int (nI (max (t.2.2.1 f) (tt + l))), .int (nI f)] [] rfl rfl (Nat.le_of_ble_eq_true rfl) rfl h04 (Nat.le_of_ble_eq_true rfl)) (rn_chSize (v := f) (s := (max (t.2.2.1 f) (tt + l))) h04 e54 e64 hb4 hT4 hk hf (by omega) (by omega) (by omega)) (fun H3 hx3 => ?_)
      obtain ⟨hb3, e53, e63, f3x⟩ := hx3
      rw [hws] at hb3
      have f3 : ∀ a, a ≠ 5 → a ≠ 6 → ¬ (59 ≤ a ∧ a < 64) → H3[a]? = H2[a]? := fun a a1 a2 a3 => (f3x a a1 a2 a3).trans (f4 a a1 a2 a3)
      have f13 : ∀ a, a ≠ 5 → a ≠ 6 → ¬ (59 ≤ a ∧ a < 64) → H3[a]? = H1[a]? := fun a a1 a2 a3 => (f3 a a1 a2 a3).trans (f2 a (by omega))
      have hc3 : ClsA H3 B P 1 1 0 cp cb tb 0 g rl wss t := by
        obtain ⟨qa, ea⟩ := e53
        obtain ⟨pa, eb⟩ := e63
        obtain ⟨c0, c1, c2, c3, c4, -, ⟨wq2, c10, cwq⟩, cW, -, cT⟩ := hc1
        exact ⟨(f13 0 (by decide) (by decide) (by decide)).trans c0, (f13 1 (by decide) (by decide) (by decide)).trans c1, (f13 2 (by decide) (by decide) (by decide)).trans c2, (f13 3 (by decide) (by decide) (by decide)).trans c3, (f13 4 (by decide) (by decide) (by decide)).trans c4, ⟨qa, pa, ea, eb⟩, ⟨wq2, (f13 10 (by decide) (by decide) (by decide)).trans c10, cwq⟩, fun t ht => ⟨(cW t ht).1.keep (fun a a1 a2 => f13 a (by omega) (by omega) (by omega)), (cW t ht).2.imp (fun Q hQ => (f13 _ (by omega) (by omega) (by omega)).trans hQ)⟩, ⟨⟨_, hb3⟩, Q0, (f3 64 (by decide) (by decide) (by decide)).trans hq2⟩, cT.far (fun a a1 a2 => f13 a (by omega) (by omega) (by omega))⟩
      have fk3 : FrK H H3 := fk1.trans (fun a ha => f13 a (by omega) (by omega) (by omega))
      have hch3 : ChB H H3 B P 1 0 cp cb tb 0 g rl wss t ws := ⟨hc3, hb3, fk3⟩
      obtain ⟨D3, S3, K3, E3, hb3A, hb3L, hb340, hb341⟩ := id hb3
      have hb3k := hb3L.ok hb340 hb341
      have h03 := hc3.1
      have h13 := hc3.2.1
      have h23 := hc3.2.2.1
      have hT3 : TreeAt H3 t.1 t.2.1 t.2.2.1 t.2.2.2.1 t.2.2.2.2.1 t.2.2.2.2.2 := hc3.2.2.2.2.2.2.2.2.2
      refine RQ.blk 2 (pc' := 137) (lv' := [(5, .int (nI (tt / 512 + k))), (4, .int (nI (max (t.2.2.1 f) (tt + l)))), (3, .int (nI l)), (0, .ref 1), (1, .int (nI f)), (2, .int (nI tt))]) (st' := [.ref 1, .ref 1]) (H' := _) (kc' := 0) (ks' := 0) rfl ?_
      refine RQ.get (ci := 11) rfl h03 rfl rfl ?_
      refine RQ.blk 1 (pc' := 141) (lv' := [(5, .int (nI (tt / 512 + k))), (4, .int (nI (max (t.2.2.1 f) (tt + l)))), (3, .int (nI l)), (0, .ref 1), (1, .int (nI f)), (2, .int (nI tt))]) (st' := [.int (-1), .ref 60, .ref 1]) (H' := _) (kc' := 0) (ks' := 0) rfl ?_
      obtain ⟨kf3, kl3, mo3, pl3, le3, al3, od3, sp3, sz3, ss3, ac3, hA3, hVW3, hvs3⟩ := (hV.far (fun a a1 a2 => fk3 a (by omega)) : VersIs H3 N vs)
      refine RQ.call (v := none) (st' := []) rfl rfl rfl rfl rfl rfl (args_v [.int (-1), .ref 60] [] rfl rfl (Nat.le_of_ble_eq_true rfl) rfl h03 (Nat.le_of_ble_eq_true rfl)) (rc_reqRoom h03 hA3 hVW3 hvs3 hb3A hb3k hb3L (hs.far2 (fun a a1 a2 => fk3 a (by omega))) (fun t ht => Nat.lt_trans (hsm t ht) (by decide)) (fun i hi => by obtain ⟨e, he⟩ := lt_get hi; rw [(hb3L i e he).2.1]; exact (hkl e (List.mem_of_getElem? he))) h1W hpr (by omega) hB hle) ?_
      refine RQ.blk 2 (pc' := 146) (lv' := [(5, .int (nI (tt / 512 + k))), (4, .int (nI (max (t.2.2.1 f) (tt + l)))), (3, .int (nI l)), (0, .ref 1), (1, .int (nI f)), (2, .int (nI tt))]) (st' := [.ref 1, .ref 1]) (H' := _) (kc' := 0) (ks' := 0) rfl ?_
      refine RQ.get (ci := 11) rfl h03 rfl rfl ?_
      refine RQ.get (ci := 0) rfl hb3A.1 rfl rfl ?_
      refine RQ.blk 2 (pc' := 154) (lv' := [(5, .int (nI (tt / 512 + k))), (4, .int (nI (max (t.2.2.1 f) (tt + l)))), (3, .int (nI l)), (0, .ref 1), (1, .int (nI f)), (2, .int (nI tt))]) (st' := [.int (nI ws.length + 1), .ref 1]) (H' := _) (kc' := 0) (ks' := 0) rfl ?_
      rw [show (nI ws.length + 1 : Int32) = nI (ws.length + 1) from nI_add ws.length 1]
      obtain ⟨cf, tf, pq, bb, hC3⟩ := hC0 H3 hch3
      refine RQ.call (v := none) (st' := []) rfl rfl rfl rfl rfl rfl (args_v [.int (nI (ws.length + 1))] [] rfl rfl (Nat.le_of_ble_eq_true rfl) rfl h03 (Nat.le_of_ble_eq_true rfl)) (rc_armCutM (n := ws.length + 1) h03 hC3 (by omega) (by omega) hcp) ?_
      refine RQ.blk 2 (pc' := 159) (lv' := [(5, .int (nI (tt / 512 + k))), (4, .int (nI (max (t.2.2.1 f) (tt + l)))), (3, .int (nI l)), (0, .ref 1), (1, .int (nI f)), (2, .int (nI tt))]) (st' := [.ref 1, .ref 1]) (H' := _) (kc' := 0) (ks' := 0) rfl ?_
      have hRM3 := hRM H3 hch3
      generalize hHA : (H3.set 71 (kO 1 [.ref 73, .ref 74, .int (lI (some (cp % (ws.length + 1)))), .int (nI cb), .int (nI 0)])) = HA at hRM3 ⊢
      have g0 : HA[0]? = some (kO 11 (fvs (nI B) (nI P) 1 1 0 (nI cp) (nI cb))) := by rw [← hHA]; exact (set_far (by decide)).trans h03
      refine RQ.callB (st' := [.ref 1]) rfl rfl rfl rfl rfl rfl (args_v [] [.ref 1] rfl rfl (Nat.le_of_ble_eq_true rfl) rfl g0 (Nat.le_of_ble_eq_true rfl)) hRM3 (fun H4 hH4 => ?_) (fun H4 hH4 => ?_)
      · have g1 := hf1 H4 hH4
        refine RQ.brF rfl rfl rfl (by decide) ?_
        refine RQ.blk 2 (pc' := 167) (lv' := [(5, .int (nI (tt / 512 + k))), (4, .int (nI (max (t.2.2.1 f) (tt + l)))), (3, .int (nI l)), (0, .ref 1), (1, .int (nI f)), (2, .int (nI tt))]) (st' := [.ref 1, .ref 1, .ref 1]) (H' := _) (kc' := 0) (ks' := 0) rfl ?_
        refine RQ.get (ci := 11) rfl g1 rfl rfl ?_
        refine RQ.callB (st' := [.ref 1]) rfl rfl rfl rfl rfl rfl (args_v [.ref 60] [.ref 1] rfl rfl (Nat.le_of_ble_eq_true rfl) rfl g1 (Nat.le_of_ble_eq_true rfl)) (hST H4 hH4) (fun H5 hH5 => ?_) (fun H5 hH5 => ?_)
        · exact hH5.elim
        · have g2 := hfb H5 hH5
          refine RQ.brT rfl rfl rfl (by decide) ?_
          refine RQ.blk 1 (pc' := 181) (lv' := [(5, .int (nI (tt / 512 + k))), (4, .int (nI (max (t.2.2.1 f) (tt + l)))), (3, .int (nI l)), (0, .ref 1), (1, .int (nI f)), (2, .int (nI tt))]) (st' := [.int 0, .ref 1]) (H' := _) (kc' := 0 + 1) (ks' := 0 + 6) rfl ?_
          obtain ⟨HX, hxX, hpX⟩ := hSB H5 hH5
          exact RQ.callP (st' := []) rfl rfl rfl rfl rfl rfl (args_v [.int 0] [] rfl rfl (Nat.le_of_ble_eq_true rfl) rfl g2 (Nat.le_of_ble_eq_true rfl)) hxX rfl ⟨_, 2, by decide, rfl, hpX⟩
      · have g2 := hfb H4 hH4
        refine RQ.brT rfl rfl rfl (by decide) ?_
        refine RQ.blk 1 (pc' := 181) (lv' := [(5, .int (nI (tt / 512 + k))), (4, .int (nI (max (t.2.2.1 f) (tt + l)))), (3, .int (nI l)), (0, .ref 1), (1, .int (nI f)), (2, .int (nI tt))]) (st' := [.int 0, .ref 1]) (H' := _) (kc' := 0 + 1) (ks' := 0 + 6) rfl ?_
        obtain ⟨HX, hxX, hpX⟩ := hSB H4 hH4
        exact RQ.callP (st' := []) rfl rfl rfl rfl rfl rfl (args_v [.int 0] [] rfl rfl (Nat.le_of_ble_eq_true rfl) rfl g2 (Nat.le_of_ble_eq_true rfl)) hxX rfl ⟨_, 2, by decide, rfl, hpX⟩
    · refine RQ.brF rfl rfl rfl (cF_ge (tt / 512 + k) 32) ?_
      refine RQ.blk 3 (pc' := 94) (lv' := [(5, .int (nI (tt / 512 + k))), (4, .int (nI (max (t.2.2.1 f) (tt + l)))), (3, .int (nI l)), (0, .ref 1), (1, .int (nI f)), (2, .int (nI tt))]) (st' := [.int (nI (tt / 512 + k) * 512)]) (H' := _) (kc' := 0) (ks' := 0) rfl ?_
      rw [show (nI (tt / 512 + k) * 512 : Int32) = nI ((tt / 512 + k) * 512) from pk_mul (tt / 512 + k) 512]
      refine RQ.blk 3 (pc' := 97) (lv' := [(5, .int (nI (tt / 512 + k))), (4, .int (nI (max (t.2.2.1 f) (tt + l)))), (3, .int (nI l)), (0, .ref 1), (1, .int (nI f)), (2, .int (nI tt))]) (st' := [.int (nI tt + nI l), .int (nI ((tt / 512 + k) * 512))]) (H' := _) (kc' := 0) (ks' := 0) rfl ?_
      rw [show (nI tt + nI l : Int32) = nI (tt + l) from nI_add tt l]
      refine RQ.brT rfl rfl rfl (cT_ge ((tt / 512 + k) * 512) (tt + l)) ?_
      refine RQ.blk 2 (pc' := 118) (lv' := [(5, .int (nI (tt / 512 + k))), (4, .int (nI (max (t.2.2.1 f) (tt + l)))), (3, .int (nI l)), (0, .ref 1), (1, .int (nI f)), (2, .int (nI tt))]) (st' := [.ref 1, .int (nI (max (t.2.2.1 f) (tt + l)))]) (H' := _) (kc' := 0) (ks' := 0) rfl ?_
      refine RQ.get (ci := 11) rfl h04 rfl rfl ?_
      refine RQ.blk 1 (pc' := 122) (lv' := [(5, .int (nI (tt / 512 + k))), (4, .int (nI (max (t.2.2.1 f) (tt + l)))), (3, .int (nI l)), (0, .ref 1), (1, .int (nI f)), (2, .int (nI tt))]) (st' := [.int (nI f), .ref 66, .int (nI (max (t.2.2.1 f) (tt + l)))]) (H' := _) (kc' := 0) (ks' := 0) rfl ?_
      refine RQ.call (v := some (.int (nI (t.2.2.1 f)))) (st' := [.int (nI (max (t.2.2.1 f) (tt + l)))]) rfl rfl rfl rfl rfl rfl (args_v [.int (nI f)] [.int (nI (max (t.2.2.1 f) (tt + l)))] rfl rfl (Nat.le_of_ble_eq_true rfl) rfl hT4.1 (Nat.le_of_ble_eq_true rfl)) (rc_sizeOf hT4 hk hf) ?_
      refine RQ.brF rfl rfl rfl (cF_eq (max (t.2.2.1 f) (tt + l)) (t.2.2.1 f)) ?_
      refine RQ.blk 3 (pc' := 132) (lv' := [(5, .int (nI (tt / 512 + k))), (4, .int (nI (max (t.2.2.1 f) (tt + l)))), (3, .int (nI l)), (0, .ref 1), (1, .int (nI f)), (2, .int (nI tt))]) (st' := [.int (nI (max (t.2.2.1 f) (tt + l))), .int (nI f), .ref 1]) (H' := _) (kc' := 0) (ks' := 0) rfl ?_
      refine RQ.callN (st' := []) rfl rfl rfl rfl rfl rfl (args_v [.int (nI (max (t.2.2.1 f) (tt + l))), .int (nI f)] [] rfl rfl (Nat.le_of_ble_eq_true rfl) rfl h04 (Nat.le_of_ble_eq_true rfl)) (rn_chSize (v := f) (s := (max (t.2.2.1 f) (tt + l))) h04 e54 e64 hb4 hT4 hk hf (by omega) (by omega) (by omega)) (fun H3 hx3 => ?_)
      obtain ⟨hb3, e53, e63, f3x⟩ := hx3
      rw [hws] at hb3
      have f3 : ∀ a, a ≠ 5 → a ≠ 6 → ¬ (59 ≤ a ∧ a < 64) → H3[a]? = H2[a]? := fun a a1 a2 a3 => (f3x a a1 a2 a3).trans (f4 a a1 a2 a3)
      have f13 : ∀ a, a ≠ 5 → a ≠ 6 → ¬ (59 ≤ a ∧ a < 64) → H3[a]? = H1[a]? := fun a a1 a2 a3 => (f3 a a1 a2 a3).trans (f2 a (by omega))
      have hc3 : ClsA H3 B P 1 1 0 cp cb tb 0 g rl wss t := by
        obtain ⟨qa, ea⟩ := e53
        obtain ⟨pa, eb⟩ := e63
        obtain ⟨c0, c1, c2, c3, c4, -, ⟨wq2, c10, cwq⟩, cW, -, cT⟩ := hc1
        exact ⟨(f13 0 (by decide) (by decide) (by decide)).trans c0, (f13 1 (by decide) (by decide) (by decide)).trans c1, (f13 2 (by decide) (by decide) (by decide)).trans c2, (f13 3 (by decide) (by decide) (by decide)).trans c3, (f13 4 (by decide) (by decide) (by decide)).trans c4, ⟨qa, pa, ea, eb⟩, ⟨wq2, (f13 10 (by decide) (by decide) (by decide)).trans c10, cwq⟩, fun t ht => ⟨(cW t ht).1.keep (fun a a1 a2 => f13 a (by omega) (by omega) (by omega)), (cW t ht).2.imp (fun Q hQ => (f13 _ (by omega) (by omega) (by omega)).trans hQ)⟩, ⟨⟨_, hb3⟩, Q0, (f3 64 (by decide) (by decide) (by decide)).trans hq2⟩, cT.far (fun a a1 a2 => f13 a (by omega) (by omega) (by omega))⟩
      have fk3 : FrK H H3 := fk1.trans (fun a ha => f13 a (by omega) (by omega) (by omega))
      have hch3 : ChB H H3 B P 1 0 cp cb tb 0 g rl wss t ws := ⟨hc3, hb3, fk3⟩
      obtain ⟨D3, S3, K3, E3, hb3A, hb3L, hb340, hb341⟩ := id hb3
      have hb3k := hb3L.ok hb340 hb341
      have h03 := hc3.1
      have h13 := hc3.2.1
      have h23 := hc3.2.2.1
      have hT3 : TreeAt H3 t.1 t.2.1 t.2.2.1 t.2.2.2.1 t.2.2.2.2.1 t.2.2.2.2.2 := hc3.2.2.2.2.2.2.2.2.2
      refine RQ.blk 2 (pc' := 137) (lv' := [(5, .int (nI (tt / 512 + k))), (4, .int (nI (max (t.2.2.1 f) (tt + l)))), (3, .int (nI l)), (0, .ref 1), (1, .int (nI f)), (2, .int (nI tt))]) (st' := [.ref 1, .ref 1]) (H' := _) (kc' := 0) (ks' := 0) rfl ?_
      refine RQ.get (ci := 11) rfl h03 rfl rfl ?_
      refine RQ.blk 1 (pc' := 141) (lv' := [(5, .int (nI (tt / 512 + k))), (4, .int (nI (max (t.2.2.1 f) (tt + l)))), (3, .int (nI l)), (0, .ref 1), (1, .int (nI f)), (2, .int (nI tt))]) (st' := [.int (-1), .ref 60, .ref 1]) (H' := _) (kc' := 0) (ks' := 0) rfl ?_
      obtain ⟨kf3, kl3, mo3, pl3, le3, al3, od3, sp3, sz3, ss3, ac3, hA3, hVW3, hvs3⟩ := (hV.far (fun a a1 a2 => fk3 a (by omega)) : VersIs H3 N vs)
      refine RQ.call (v := none) (st' := []) rfl rfl rfl rfl rfl rfl (args_v [.int (-1), .ref 60] [] rfl rfl (Nat.le_of_ble_eq_true rfl) rfl h03 (Nat.le_of_ble_eq_true rfl)) (rc_reqRoom h03 hA3 hVW3 hvs3 hb3A hb3k hb3L (hs.far2 (fun a a1 a2 => fk3 a (by omega))) (fun t ht => Nat.lt_trans (hsm t ht) (by decide)) (fun i hi => by obtain ⟨e, he⟩ := lt_get hi; rw [(hb3L i e he).2.1]; exact (hkl e (List.mem_of_getElem? he))) h1W hpr (by omega) hB hle) ?_
      refine RQ.blk 2 (pc' := 146) (lv' := [(5, .int (nI (tt / 512 + k))), (4, .int (nI (max (t.2.2.1 f) (tt + l)))), (3, .int (nI l)), (0, .ref 1), (1, .int (nI f)), (2, .int (nI tt))]) (st' := [.ref 1, .ref 1]) (H' := _) (kc' := 0) (ks' := 0) rfl ?_
      refine RQ.get (ci := 11) rfl h03 rfl rfl ?_
      refine RQ.get (ci := 0) rfl hb3A.1 rfl rfl ?_
      refine RQ.blk 2 (pc' := 154) (lv' := [(5, .int (nI (tt / 512 + k))), (4, .int (nI (max (t.2.2.1 f) (tt + l)))), (3, .int (nI l)), (0, .ref 1), (1, .int (nI f)), (2, .int (nI tt))]) (st' := [.int (nI ws.length + 1), .ref 1]) (H' := _) (kc' := 0) (ks' := 0) rfl ?_
      rw [show (nI ws.length + 1 : Int32) = nI (ws.length + 1) from nI_add ws.length 1]
      obtain ⟨cf, tf, pq, bb, hC3⟩ := hC0 H3 hch3
      refine RQ.call (v := none) (st' := []) rfl rfl rfl rfl rfl rfl (args_v [.int (nI (ws.length + 1))] [] rfl rfl (Nat.le_of_ble_eq_true rfl) rfl h03 (Nat.le_of_ble_eq_true rfl)) (rc_armCutM (n := ws.length + 1) h03 hC3 (by omega) (by omega) hcp) ?_
      refine RQ.blk 2 (pc' := 159) (lv' := [(5, .int (nI (tt / 512 + k))), (4, .int (nI (max (t.2.2.1 f) (tt + l)))), (3, .int (nI l)), (0, .ref 1), (1, .int (nI f)), (2, .int (nI tt))]) (st' := [.ref 1, .ref 1]) (H' := _) (kc' := 0) (ks' := 0) rfl ?_
      have hRM3 := hRM H3 hch3
      generalize hHA : (H3.set 71 (kO 1 [.ref 73, .ref 74, .int (lI (some (cp % (ws.length + 1)))), .int (nI cb), .int (nI 0)])) = HA at hRM3 ⊢
      have g0 : HA[0]? = some (kO 11 (fvs (nI B) (nI P) 1 1 0 (nI cp) (nI cb))) := by rw [← hHA]; exact (set_far (by decide)).trans h03
      refine RQ.callB (st' := [.ref 1]) rfl rfl rfl rfl rfl rfl (args_v [] [.ref 1] rfl rfl (Nat.le_of_ble_eq_true rfl) rfl g0 (Nat.le_of_ble_eq_true rfl)) hRM3 (fun H4 hH4 => ?_) (fun H4 hH4 => ?_)
      · have g1 := hf1 H4 hH4
        refine RQ.brF rfl rfl rfl (by decide) ?_
        refine RQ.blk 2 (pc' := 167) (lv' := [(5, .int (nI (tt / 512 + k))), (4, .int (nI (max (t.2.2.1 f) (tt + l)))), (3, .int (nI l)), (0, .ref 1), (1, .int (nI f)), (2, .int (nI tt))]) (st' := [.ref 1, .ref 1, .ref 1]) (H' := _) (kc' := 0) (ks' := 0) rfl ?_
        refine RQ.get (ci := 11) rfl g1 rfl rfl ?_
        refine RQ.callB (st' := [.ref 1]) rfl rfl rfl rfl rfl rfl (args_v [.ref 60] [.ref 1] rfl rfl (Nat.le_of_ble_eq_true rfl) rfl g1 (Nat.le_of_ble_eq_true rfl)) (hST H4 hH4) (fun H5 hH5 => ?_) (fun H5 hH5 => ?_)
        · exact hH5.elim
        · have g2 := hfb H5 hH5
          refine RQ.brT rfl rfl rfl (by decide) ?_
          refine RQ.blk 1 (pc' := 181) (lv' := [(5, .int (nI (tt / 512 + k))), (4, .int (nI (max (t.2.2.1 f) (tt + l)))), (3, .int (nI l)), (0, .ref 1), (1, .int (nI f)), (2, .int (nI tt))]) (st' := [.int 0, .ref 1]) (H' := _) (kc' := 0 + 1) (ks' := 0 + 6) rfl ?_
          obtain ⟨HX, hxX, hpX⟩ := hSB H5 hH5
          exact RQ.callP (st' := []) rfl rfl rfl rfl rfl rfl (args_v [.int 0] [] rfl rfl (Nat.le_of_ble_eq_true rfl) rfl g2 (Nat.le_of_ble_eq_true rfl)) hxX rfl ⟨_, 2, by decide, rfl, hpX⟩
      · have g2 := hfb H4 hH4
        refine RQ.brT rfl rfl rfl (by decide) ?_
        refine RQ.blk 1 (pc' := 181) (lv' := [(5, .int (nI (tt / 512 + k))), (4, .int (nI (max (t.2.2.1 f) (tt + l)))), (3, .int (nI l)), (0, .ref 1), (1, .int (nI f)), (2, .int (nI tt))]) (st' := [.int 0, .ref 1]) (H' := _) (kc' := 0 + 1) (ks' := 0 + 6) rfl ?_
        obtain ⟨HX, hxX, hpX⟩ := hSB H4 hH4
        exact RQ.callP (st' := []) rfl rfl rfl rfl rfl rfl (args_v [.int 0] [] rfl rfl (Nat.le_of_ble_eq_true rfl) rfl g2 (Nat.le_of_ble_eq_true rfl)) hxX rfl ⟨_, 2, by decide, rfl, hpX⟩
