/-! ===== read; class; written by wip/gen/cls3.py ===== -/
theorem len_rd {s off n : Nat} (hs : s < 2 ^ 30) (ho : off < 2 ^ 30) (hn : n < 2 ^ 30) : (if (0 : Int32) < (if nI s - nI off < nI n then nI s - nI off else nI n) then (if nI s - nI off < nI n then nI s - nI off else nI n) else 0) = nI (min n (s - off)) := by
  by_cases h : off ≤ s
  · rw [pk_sub (a := s) (b := off) h, minI (a := n) (b := s - off) (by omega) (by omega)]
    show (if nI 0 < nI (min n (s - off)) then nI (min n (s - off)) else nI 0) = _
    rw [maxI (a := 0) (b := min n (s - off)) (by omega) (by omega), Nat.zero_max]
  · have e : (nI s - nI off).toInt = (s : Int) - off := pk_sub_toInt (by omega) (by omega)
    have h2 : nI s - nI off < nI n := by
      rw [Int32.lt_iff_toInt_lt, e, nI_toInt (by omega)]
      omega
    have h1 : ¬ (0 : Int32) < nI s - nI off := by
      rw [Int32.lt_iff_toInt_lt, e]
      show ¬ (0 : Int) < _
      omega
    rw [if_pos h2, if_neg h1, show s - off = 0 by omega, Nat.min_zero]
    rfl
/-- the byte p of a file, as the store holds it -/
def cB (c : Nat → Int8) (vs : List aV) (f p : Nat) : Int8 := if pcIn vs f (p / 512) = true ∧ p % 512 < (pcV c vs f (p / 512)).length then pcA c vs f (p / 512) (p % 512) else 0
theorem rd_step {c : Nat → Int8} {vs : List aV} {f off len i : Nat} {rb : Nat → Int8} (h : ∀ q, q < len → rb q = if (off + q) / 512 < i then cB c vs f (off + q) else 0) (hl : (pcV c vs f i).length ≤ 512) : ∀ q, q < len → (if pcIn vs f i = true ∧ (max off (i * 512)) < (min (off + len) (i * 512 + (pcV c vs f i).length)) then cpy (pcA c vs f i) ((max off (i * 512)) - i * 512) rb ((max off (i * 512)) - off) ((min (off + len) (i * 512 + (pcV c vs f i).length)) - (max off (i * 512))) else rb) q = if (off + q) / 512 < i + 1 then cB c vs f (off + q) else 0 := fun q hq => by
  have hb := h q hq
  by_cases e : (off + q) / 512 = i
  · rw [show (if (off + q) / 512 < i + 1 then cB c vs f (off + q) else (0 : Int8)) = cB c vs f (off + q) from if_pos (by omega)]
    rw [show (if (off + q) / 512 < i then cB c vs f (off + q) else (0 : Int8)) = 0 from if_neg (by omega)] at hb
    unfold cB
    rw [e]
    by_cases hx : pcIn vs f i = true ∧ (max off (i * 512)) < (min (off + len) (i * 512 + (pcV c vs f i).length))
    · rw [if_pos hx]
      by_cases hp : pcIn vs f i = true ∧ (off + q) % 512 < (pcV c vs f i).length
      · rw [if_pos hp]
        unfold cpy
        rw [if_pos (by omega)]
        congr 1
        omega
      · rw [if_neg hp]
        unfold cpy
        rw [if_neg (fun z => hp ⟨hx.1, by omega⟩)]
        exact hb
    · rw [if_neg hx, if_neg (fun hp => hx ⟨hp.1, by omega⟩)]
      exact hb
  · have e2 : (if (off + q) / 512 < i + 1 then cB c vs f (off + q) else (0 : Int8)) = (if (off + q) / 512 < i then cB c vs f (off + q) else 0) := by
      by_cases z : (off + q) / 512 < i
      · rw [if_pos z, if_pos (by omega)]
      · rw [if_neg z, if_neg (by omega)]
    rw [e2]
    by_cases hx : pcIn vs f i = true ∧ (max off (i * 512)) < (min (off + len) (i * 512 + (pcV c vs f i).length))
    · rw [if_pos hx]
      unfold cpy
      rw [if_neg (by omega)]
      exact hb
    · rw [if_neg hx]
      exact hb
set_option maxRecDepth 20000 in
theorem rx_read_down {sc : Nat × (Nat → Int32)} {d : Nat} {H : aH} {B P : Nat} {cw cl : Int32} {cp cb : Nat} {tb : Nat → Int8} {l : Nat} {g : Nat → Int8} {rl : Nat} {wss : Nat → List aE} {t : aTr} {f off n : Nat} (h : ClsA H B P 0 cw cl cp cb tb l g rl wss t) (hf : f ≤ 200) (ho : off ≤ 16384) (hn : n ≤ 1000) : RX sc (d + 8) mr_247 [.ref 1, .int (nI f), .int (nI off), .int (nI n)] H 1 (fun H' => ClsA H' B P 0 cw cl cp cb tb l g rl wss t ∧ FrK H H') := by
  obtain ⟨h0, h1, h2, h3, h4, ⟨q5, p6, h5, h6⟩, ⟨wq, h10, hwq⟩, hW, hCh, hT⟩ := id h
  refine RX.of ?_
  refine RQ.blk 2 (pc' := 2) (lv' := [(0, .ref 1), (1, .int (nI f)), (2, .int (nI off)), (3, .int (nI n))]) (st' := [.int (nI f), .ref 1]) (H' := _) (kc' := 0) (ks' := 0) rfl ?_
  refine RQ.call (v := none) (st' := []) rfl rfl rfl rfl rfl rfl (args_v [.int (nI f)] [] rfl rfl (Nat.le_of_ble_eq_true rfl) rfl h0 (Nat.le_of_ble_eq_true rfl)) (rc_reqNum h0 hf) ?_
  refine RQ.blk 4 (pc' := 11) (lv' := [(0, .ref 1), (1, .int (nI f)), (2, .int (nI off)), (3, .int (nI n))]) (st' := [.int 16384, .int 0, .int (nI off), .ref 1]) (H' := _) (kc' := 0) (ks' := 0) rfl ?_
  refine RQ.call (v := none) (st' := []) rfl rfl rfl rfl rfl rfl (args_v [.int 16384, .int 0, .int (nI off)] [] rfl rfl (Nat.le_of_ble_eq_true rfl) rfl h0 (Nat.le_of_ble_eq_true rfl)) (rc_range (nI_nlt (Nat.zero_le off) (by omega)) (rg_hi (n := 16384) ho (by decide))) ?_
  refine RQ.blk 4 (pc' := 20) (lv' := [(0, .ref 1), (1, .int (nI f)), (2, .int (nI off)), (3, .int (nI n))]) (st' := [.int 1000, .int 0, .int (nI n), .ref 1]) (H' := _) (kc' := 0) (ks' := 0) rfl ?_
  refine RQ.call (v := none) (st' := []) rfl rfl rfl rfl rfl rfl (args_v [.int 1000, .int 0, .int (nI n)] [] rfl rfl (Nat.le_of_ble_eq_true rfl) rfl h0 (Nat.le_of_ble_eq_true rfl)) (rc_range (nI_nlt (Nat.zero_le n) (by omega)) (rg_hi (n := 1000) hn (by decide))) ?_
  refine RQ.blk 1 (pc' := 24) (lv' := [(0, .ref 1), (1, .int (nI f)), (2, .int (nI off)), (3, .int (nI n))]) (st' := [.ref 1]) (H' := _) (kc' := 0) (ks' := 0) rfl ?_
  exact RQ.callP (st' := []) rfl rfl rfl rfl rfl rfl (args_v [] [] rfl rfl (Nat.le_of_ble_eq_true rfl) rfl h0 (Nat.le_of_ble_eq_true rfl)) (rc_down h0 rfl) rfl ⟨_, rfl, h, FrK.rfl'⟩
set_option maxRecDepth 20000 in
theorem rx_read_no {sc : Nat × (Nat → Int32)} {d : Nat} {H : aH} {B P : Nat} {cw cl : Int32} {cp cb : Nat} {tb : Nat → Int8} {l : Nat} {g : Nat → Int8} {rl : Nat} {wss : Nat → List aE} {t : aTr} {f off n : Nat} (h : ClsA H B P 1 cw cl cp cb tb l g rl wss t) (hk : TreeOk t.1 t.2.1 t.2.2.1 t.2.2.2.1) (hf : f ≤ 200) (ho : off ≤ 16384) (hn : n ≤ 1000) (hkd : ¬ t.1 f = 1) : RX sc (d + 8) mr_247 [.ref 1, .int (nI f), .int (nI off), .int (nI n)] H 3 (fun H' => ClsA H' B P 1 cw cl cp cb tb l g rl wss t ∧ FrK H H') := by
  obtain ⟨h0, h1, h2, h3, h4, ⟨q5, p6, h5, h6⟩, ⟨wq, h10, hwq⟩, hW, hCh, hT⟩ := id h
  refine RX.of ?_
  have hkf := hk f hf
  refine RQ.blk 2 (pc' := 2) (lv' := [(0, .ref 1), (1, .int (nI f)), (2, .int (nI off)), (3, .int (nI n))]) (st' := [.int (nI f), .ref 1]) (H' := _) (kc' := 0) (ks' := 0) rfl ?_
  refine RQ.call (v := none) (st' := []) rfl rfl rfl rfl rfl rfl (args_v [.int (nI f)] [] rfl rfl (Nat.le_of_ble_eq_true rfl) rfl h0 (Nat.le_of_ble_eq_true rfl)) (rc_reqNum h0 hf) ?_
  refine RQ.blk 4 (pc' := 11) (lv' := [(0, .ref 1), (1, .int (nI f)), (2, .int (nI off)), (3, .int (nI n))]) (st' := [.int 16384, .int 0, .int (nI off), .ref 1]) (H' := _) (kc' := 0) (ks' := 0) rfl ?_
  refine RQ.call (v := none) (st' := []) rfl rfl rfl rfl rfl rfl (args_v [.int 16384, .int 0, .int (nI off)] [] rfl rfl (Nat.le_of_ble_eq_true rfl) rfl h0 (Nat.le_of_ble_eq_true rfl)) (rc_range (nI_nlt (Nat.zero_le off) (by omega)) (rg_hi (n := 16384) ho (by decide))) ?_
  refine RQ.blk 4 (pc' := 20) (lv' := [(0, .ref 1), (1, .int (nI f)), (2, .int (nI off)), (3, .int (nI n))]) (st' := [.int 1000, .int 0, .int (nI n), .ref 1]) (H' := _) (kc' := 0) (ks' := 0) rfl ?_
  refine RQ.call (v := none) (st' := []) rfl rfl rfl rfl rfl rfl (args_v [.int 1000, .int 0, .int (nI n)] [] rfl rfl (Nat.le_of_ble_eq_true rfl) rfl h0 (Nat.le_of_ble_eq_true rfl)) (rc_range (nI_nlt (Nat.zero_le n) (by omega)) (rg_hi (n := 1000) hn (by decide))) ?_
  refine RQ.blk 1 (pc' := 24) (lv' := [(0, .ref 1), (1, .int (nI f)), (2, .int (nI off)), (3, .int (nI n))]) (st' := [.ref 1]) (H' := _) (kc' := 0) (ks' := 0) rfl ?_
  refine RQ.call (v := none) (st' := []) rfl rfl rfl rfl rfl rfl (args_v [] [] rfl rfl (Nat.le_of_ble_eq_true rfl) rfl h0 (Nat.le_of_ble_eq_true rfl)) (rc_up h0 rfl) ?_
  refine RQ.blk 2 (pc' := 29) (lv' := [(0, .ref 1), (1, .int (nI f)), (2, .int (nI off)), (3, .int (nI n))]) (st' := [.int (nI f), .ref 1]) (H' := _) (kc' := 0) (ks' := 0) rfl ?_
  exact RQ.callP (st' := []) rfl rfl rfl rfl rfl rfl (args_v [.int (nI f)] [] rfl rfl (Nat.le_of_ble_eq_true rfl) rfl h0 (Nat.le_of_ble_eq_true rfl)) (rc_requireFile0 h0 hT hk hf hkd) rfl ⟨_, rfl, h, FrK.rfl'⟩
set_option maxRecDepth 20000 in
theorem ri_read {sc : Nat × (Nat → Int32)} {d : Nat} {H : aH} {B P : Nat} {cw cl : Int32} {cp cb : Nat} {tb : Nat → Int8} {l : Nat} {g : Nat → Int8} {rl : Nat} {wss : Nat → List aE} {t : aTr} {f off n : Nat} {N : Nat} {kf : Nat → Int8} {kl mo pl : Nat → Nat} {le : Nat → Option Nat} {al : Nat → Bool} {od sp : Nat → Nat} {sz ss ac : Nat} {vs : List aV} {cf : Nat → Int8} {tf : Nat → Nat} {pq : Option Nat} {bb ov lc fr ff : Nat} {wr : Bool} {tp rc ms mt sq tu tn nb : Nat} {us : Nat → Bool} {lg : Nat → Nat} {mp hv : Nat} (h : ClsA H B P 1 cw cl cp cb tb l g rl wss t) (hk : TreeOk t.1 t.2.1 t.2.2.1 t.2.2.2.1) (hf : f ≤ 200) (ho : off ≤ 16384) (hn : n ≤ 1000) (hkd : t.1 f = 1) (hA : VersAt H N kf kl mo pl le al od sp sz ss ac) (hVW : VersWf N kf kl mo pl le al od sp sz ss ac) (hvs : vs = vsL kf kl mo pl le al od sz) (hC : ChipAt H B cf tf pq bb ov) (hY : LayAt H (layF B lc fr ff wr tp rc ms mt sq tu tn nb) B us lg) (hB : B ≤ 128) (hlc : lc ≤ B) (hlg : ∀ j, j < lc → lg j < 2 ^ 30) (hG : H[190]? = some (kO 4 (logF mp hv))) (hRec : RecsOk cf B lg lc vs) (hpl : ∀ i, (∀ v : aV, seenV vs [2, f, i] (2 ^ 30) = some v → ∀ n, v.2.2.2.1 = some n → n ≤ 512) ∧ (pcV cf vs f i).length ≤ 512) : RI sc (d + 8) mr_247 [.ref 1, .int (nI f), .int (nI off), .int (nI n)] H (fun x H' => x = nI (min n (t.2.2.1 f - off)) ∧ ∃ rb, (∀ q, q < (min n (t.2.2.1 f - off)) → rb q = cB cf vs f (off + q)) ∧ ClsA H' B P 1 cw cl cp cb tb l rb (min n (t.2.2.1 f - off)) wss t ∧ FrK H H') := by
  obtain ⟨h0, h1, h2, h3, h4, ⟨q5, p6, h5, h6⟩, ⟨wq, h10, hwq⟩, hW, hCh, hT⟩ := id h
  refine RI.of ?_
  have hkf := hk f hf
  refine RQ.blk 2 (pc' := 2) (lv' := [(0, .ref 1), (1, .int (nI f)), (2, .int (nI off)), (3, .int (nI n))]) (st' := [.int (nI f), .ref 1]) (H' := _) (kc' := 0) (ks' := 0) rfl ?_
  refine RQ.call (v := none) (st' := []) rfl rfl rfl rfl rfl rfl (args_v [.int (nI f)] [] rfl rfl (Nat.le_of_ble_eq_true rfl) rfl h0 (Nat.le_of_ble_eq_true rfl)) (rc_reqNum h0 hf) ?_
  refine RQ.blk 4 (pc' := 11) (lv' := [(0, .ref 1), (1, .int (nI f)), (2, .int (nI off)), (3, .int (nI n))]) (st' := [.int 16384, .int 0, .int (nI off), .ref 1]) (H' := _) (kc' := 0) (ks' := 0) rfl ?_
  refine RQ.call (v := none) (st' := []) rfl rfl rfl rfl rfl rfl (args_v [.int 16384, .int 0, .int (nI off)] [] rfl rfl (Nat.le_of_ble_eq_true rfl) rfl h0 (Nat.le_of_ble_eq_true rfl)) (rc_range (nI_nlt (Nat.zero_le off) (by omega)) (rg_hi (n := 16384) ho (by decide))) ?_
  refine RQ.blk 4 (pc' := 20) (lv' := [(0, .ref 1), (1, .int (nI f)), (2, .int (nI off)), (3, .int (nI n))]) (st' := [.int 1000, .int 0, .int (nI n), .ref 1]) (H' := _) (kc' := 0) (ks' := 0) rfl ?_
  refine RQ.call (v := none) (st' := []) rfl rfl rfl rfl rfl rfl (args_v [.int 1000, .int 0, .int (nI n)] [] rfl rfl (Nat.le_of_ble_eq_true rfl) rfl h0 (Nat.le_of_ble_eq_true rfl)) (rc_range (nI_nlt (Nat.zero_le n) (by omega)) (rg_hi (n := 1000) hn (by decide))) ?_
  refine RQ.blk 1 (pc' := 24) (lv' := [(0, .ref 1), (1, .int (nI f)), (2, .int (nI off)), (3, .int (nI n))]) (st' := [.ref 1]) (H' := _) (kc' := 0) (ks' := 0) rfl ?_
  refine RQ.call (v := none) (st' := []) rfl rfl rfl rfl rfl rfl (args_v [] [] rfl rfl (Nat.le_of_ble_eq_true rfl) rfl h0 (Nat.le_of_ble_eq_true rfl)) (rc_up h0 rfl) ?_
  refine RQ.blk 2 (pc' := 29) (lv' := [(0, .ref 1), (1, .int (nI f)), (2, .int (nI off)), (3, .int (nI n))]) (st' := [.int (nI f), .ref 1]) (H' := _) (kc' := 0) (ks' := 0) rfl ?_
  refine RQ.call (v := none) (st' := []) rfl rfl rfl rfl rfl rfl (args_v [.int (nI f)] [] rfl rfl (Nat.le_of_ble_eq_true rfl) rfl h0 (Nat.le_of_ble_eq_true rfl)) (rc_requireFile1 h0 hT hk hf hkd) ?_
  refine RQ.blk 3 (pc' := 35) (lv' := [(0, .ref 1), (1, .int (nI f)), (2, .int (nI off)), (3, .int (nI n))]) (st' := [.ref 1, .int (nI n), .int 0]) (H' := _) (kc' := 0) (ks' := 0) rfl ?_
  refine RQ.get (ci := 11) rfl h0 rfl rfl ?_
  refine RQ.blk 1 (pc' := 39) (lv' := [(0, .ref 1), (1, .int (nI f)), (2, .int (nI off)), (3, .int (nI n))]) (st' := [.int (nI f), .ref 66, .int (nI n), .int 0]) (H' := _) (kc' := 0) (ks' := 0) rfl ?_
  refine RQ.call (v := some (.int (nI (t.2.2.1 f)))) (st' := [.int (nI n), .int 0]) rfl rfl rfl rfl rfl rfl (args_v [.int (nI f)] [.int (nI n), .int 0] rfl rfl (Nat.le_of_ble_eq_true rfl) rfl hT.1 (Nat.le_of_ble_eq_true rfl)) (rc_sizeOf hT hk hf) ?_
  refine RQ.blk 4 (pc' := 50) (lv' := [(0, .ref 1), (1, .int (nI f)), (2, .int (nI off)), (3, .int (nI n))]) (st' := [.int (if 0 < if nI (t.2.2.1 f) - nI off < nI n then nI (t.2.2.1 f) - nI off else nI n then if nI (t.2.2.1 f) - nI off < nI n then nI (t.2.2.1 f) - nI off else nI n else 0)]) (H' := _) (kc' := 0) (ks' := 0) rfl ?_
  rw [show (if 0 < if nI (t.2.2.1 f) - nI off < nI n then nI (t.2.2.1 f) - nI off else nI n then if nI (t.2.2.1 f) - nI off < nI n then nI (t.2.2.1 f) - nI off else nI n else 0 : Int32) = nI (min n (t.2.2.1 f - off)) from len_rd (by omega) (by omega) (by omega)]
  refine RQ.blk 2 (pc' := 53) (lv' := [(4, .int (nI (min n (t.2.2.1 f - off)))), (0, .ref 1), (1, .int (nI f)), (2, .int (nI off)), (3, .int (nI n))]) (st' := [.ref 1]) (H' := _) (kc' := 0) (ks' := 0) rfl ?_
  refine RQ.get (ci := 11) rfl h0 rfl rfl ?_
  refine RQ.blk 1 (pc' := 58) (lv' := [(4, .int (nI (min n (t.2.2.1 f - off)))), (0, .ref 1), (1, .int (nI f)), (2, .int (nI off)), (3, .int (nI n))]) (st' := [.int (nI (min n (t.2.2.1 f - off))), .ref 4]) (H' := _) (kc' := 0) (ks' := 0) rfl ?_
  refine RQ.put (ci := 5) rfl h3 rfl rfl (Nat.le_of_ble_eq_true rfl) ?_
  have f1 : ∀ a, a ≠ 3 → (H.set 3 (kO 5 [.ref 5, .int (nI (min n (t.2.2.1 f - off)))]))[a]? = H[a]? := fun a ha => set_far ha
  have h31 : (H.set 3 (kO 5 [.ref 5, .int (nI (min n (t.2.2.1 f - off)))]))[3]? = some (kO 5 [.ref 5, .int (nI (min n (t.2.2.1 f - off)))]) := get_set h3
  show RQ _ _ _ 61 [(4, .int (nI (min n (t.2.2.1 f - off)))), (0, .ref 1), (1, .int (nI f)), (2, .int (nI off)), (3, .int (nI n))] [] (H.set 3 (kO 5 [.ref 5, .int (nI (min n (t.2.2.1 f - off)))])) 0 0 _
  generalize (H.set 3 (kO 5 [.ref 5, .int (nI (min n (t.2.2.1 f - off)))])) = H1 at f1 h31 ⊢
  refine RQ.blk 1 (pc' := 62) (lv' := [(4, .int (nI (min n (t.2.2.1 f - off)))), (0, .ref 1), (1, .int (nI f)), (2, .int (nI off)), (3, .int (nI n))]) (st' := [.ref 1]) (H' := _) (kc' := 0) (ks' := 0) rfl ?_
  refine RQ.get (ci := 11) rfl ((f1 0 (by decide)).trans h0) rfl rfl ?_
  refine RQ.get (ci := 5) rfl h31 rfl rfl ?_
  refine RQ.blk 2 (pc' := 71) (lv' := [(4, .int (nI (min n (t.2.2.1 f - off)))), (0, .ref 1), (1, .int (nI f)), (2, .int (nI off)), (3, .int (nI n))]) (st' := [.int (nI (min n (t.2.2.1 f - off))), .int 0, .ref 5]) (H' := _) (kc' := 0) (ks' := 0) rfl ?_
  refine RQ.call (v := none) (st' := []) rfl rfl rfl rfl rfl rfl rfl (rc_blank (i := 0) (k := (min n (t.2.2.1 f - off))) ((f1 4 (by decide)).trans h4) (by decide) (by omega)) ?_
  refine RQ.blk 3 (pc' := 79) (lv' := [(4, .int (nI (min n (t.2.2.1 f - off)))), (0, .ref 1), (1, .int (nI f)), (2, .int (nI off)), (3, .int (nI n))]) (st' := [.int (nI off / 512)]) (H' := _) (kc' := 0) (ks' := 0) rfl ?_
  rw [show (nI off / 512 : Int32) = nI (off / 512) from pk_div (a := off) (d := 512) (by omega) (by omega) (by omega)]
  refine RQ.blk 1 (pc' := 81) (lv' := [(5, .int (nI (off / 512))), (4, .int (nI (min n (t.2.2.1 f - off)))), (0, .ref 1), (1, .int (nI f)), (2, .int (nI off)), (3, .int (nI n))]) (st' := []) (H' := _) (kc' := 0) (ks' := 0) rfl ?_
  refine RQ.pick (a := [(5, .int (nI (off / 512))), (4, .int (nI (min n (t.2.2.1 f - off)))), (0, .ref 1), (1, .int (nI f)), (2, .int (nI off)), (3, .int (nI n))]) [0, 1, 2, 3, 4, 5] [5, 4, 0, 1, 2, 3] rfl rfl (by decide) ?_
  refine RQ.while (S := Nat) (pc := 81) (fun i H' => i ≤ 32 ∧ off / 512 ≤ i ∧ (∃ rb, H'[4]? = some (kB 1000 rb) ∧ ∀ q, q < (min n (t.2.2.1 f - off)) → rb q = if (off + q) / 512 < i then cB cf vs f (off + q) else 0) ∧ (∃ q : Nat, H'[5]? = some (kO 5 [.ref 7, .int (nI q)])) ∧ (∃ g, H'[6]? = some (kB 41 g)) ∧ ∀ a, a ≠ 4 → a ≠ 5 → a ≠ 6 → H'[a]? = H1[a]?) (fun i => [(5, .int (nI i)), (4, .int (nI (min n (t.2.2.1 f - off)))), (0, .ref 1), (1, .int (nI f)), (2, .int (nI off)), (3, .int (nI n))]) (fun i => 32 - i) ?_ (off / 512) _ ⟨by omega, Nat.le_refl _, ⟨_, get_set ((f1 4 (by decide)).trans h4), fun q hq => by rw [show (if (off + q) / 512 < off / 512 then cB cf vs f (off + q) else (0 : Int8)) = 0 from if_neg (by omega)]; exact if_pos (by omega)⟩, ⟨q5, (set_far (by decide)).trans ((f1 5 (by decide)).trans h5)⟩, ⟨p6, (set_far (by decide)).trans ((f1 6 (by decide)).trans h6)⟩, fun a a1 a2 a3 => set_far (by omega)⟩
  rintro i H3 ⟨hi, hoi, ⟨rb, g4, hrb⟩, g5, g6, f3⟩ ih
  have g0 := (f3 0 (by decide) (by decide) (by decide)).trans ((f1 0 (by decide)).trans h0)
  have hend : (i = 32 ∨ off + (min n (t.2.2.1 f - off)) ≤ i * 512) → ∀ q, q < (min n (t.2.2.1 f - off)) → rb q = cB cf vs f (off + q) := fun e q hq => by rw [hrb q hq, if_pos (by omega)]
  have fin : ∀ a, a ≠ 3 → a ≠ 4 → a ≠ 5 → a ≠ 6 → H3[a]? = H[a]? := fun a a1 a2 a3 a4 => (f3 a a2 a3 a4).trans (f1 a a1)
  have hCf : (∀ q, q < (min n (t.2.2.1 f - off)) → rb q = cB cf vs f (off + q)) → ClsA H3 B P 1 cw cl cp cb tb l rb (min n (t.2.2.1 f - off)) wss t ∧ FrK H H3 := fun e => ⟨h.small g0 ((fin 1 (by decide) (by decide) (by decide) (by decide)).trans h1) ((fin 2 (by decide) (by decide) (by decide) (by decide)).trans h2) ((f3 3 (by decide) (by decide) (by decide)).trans h31) g4 (by obtain ⟨q, e1⟩ := g5; obtain ⟨p, e2⟩ := g6; exact ⟨q, p, e1, e2⟩) (fun a a1 a2 => fin a (by omega) (by omega) (by omega) (by omega)), fun a ha => fin a (by omega) (by omega) (by omega) (by omega)⟩
  by_cases hi32 : i < 32
  ·
    refine RQ.blk 2 (pc' := 85) (lv' := [(5, .int (nI i)), (4, .int (nI (min n (t.2.2.1 f - off)))), (0, .ref 1), (1, .int (nI f)), (2, .int (nI off)), (3, .int (nI n))]) (st' := [.int 32, .int (nI i)]) (H' := _) (kc' := 0) (ks' := 0) rfl ?_
    refine RQ.brF rfl rfl rfl (cF_ge i 32) ?_
    refine RQ.blk 3 (pc' := 94) (lv' := [(5, .int (nI i)), (4, .int (nI (min n (t.2.2.1 f - off)))), (0, .ref 1), (1, .int (nI f)), (2, .int (nI off)), (3, .int (nI n))]) (st' := [.int (nI i * 512)]) (H' := _) (kc' := 0) (ks' := 0) rfl ?_
    rw [show (nI i * 512 : Int32) = nI (i * 512) from pk_mul i 512]
    refine RQ.blk 3 (pc' := 98) (lv' := [(5, .int (nI i)), (4, .int (nI (min n (t.2.2.1 f - off)))), (0, .ref 1), (1, .int (nI f)), (2, .int (nI off)), (3, .int (nI n))]) (st' := [.int (nI off + nI (min n (t.2.2.1 f - off))), .int (nI (i * 512))]) (H' := _) (kc' := 0) (ks' := 0) rfl ?_
    rw [show (nI off + nI (min n (t.2.2.1 f - off)) : Int32) = nI (off + (min n (t.2.2.1 f - off))) from nI_add off (min n (t.2.2.1 f - off))]
    by_cases kb : i * 512 < off + (min n (t.2.2.1 f - off))
    · refine RQ.brF rfl rfl rfl (cF_ge (i * 512) (off + (min n (t.2.2.1 f - off)))) ?_
      refine RQ.blk 5 (pc' := 108) (lv' := [(5, .int (nI i)), (4, .int (nI (min n (t.2.2.1 f - off)))), (0, .ref 1), (1, .int (nI f)), (2, .int (nI off)), (3, .int (nI n))]) (st' := [.int (nI (min n (t.2.2.1 f - off))), .int (nI off), .int (nI i), .int (nI f), .ref 1]) (H' := _) (kc' := 0) (ks' := 0) rfl ?_
      refine RQ.callN (st' := []) rfl rfl rfl rfl rfl rfl (args_v [.int (nI (min n (t.2.2.1 f - off))), .int (nI off), .int (nI i), .int (nI f)] [] rfl rfl (Nat.le_of_ble_eq_true rfl) rfl g0 (Nat.le_of_ble_eq_true rfl)) (rn_rdPiece g0 g5 g6 ((fin 1 (by decide) (by decide) (by decide) (by decide)).trans h1) ((fin 2 (by decide) (by decide) (by decide) (by decide)).trans h2) ((f3 3 (by decide) (by decide) (by decide)).trans h31) g4 (hA.far (fun a a1 a2 => fin a (by omega) (by omega) (by omega) (by omega))) hVW hvs (hC.far (fun a a1 a2 => fin a (by omega) (by omega) (by omega) (by omega))) ⟨(fin 83 (by decide) (by decide) (by decide) (by decide)).trans hY.1, (fin 86 (by decide) (by decide) (by decide) (by decide)).trans hY.2.1, (fin 87 (by decide) (by decide) (by decide) (by decide)).trans hY.2.2⟩ hB hlc hlg ((fin 190 (by decide) (by decide) (by decide) (by decide)).trans hG) hRec (hpl i).1 (by omega) hi32 ho (by omega)) (fun H4 hx4 => ?_)
      obtain ⟨z1, z2, z3, z4⟩ := hx4
      refine RQ.blk 1 (pc' := 114) (lv' := [(5, .int (nI i + 1)), (4, .int (nI (min n (t.2.2.1 f - off)))), (0, .ref 1), (1, .int (nI f)), (2, .int (nI off)), (3, .int (nI n))]) (st' := []) (H' := _) (kc' := 0) (ks' := 0) rfl ?_
      rw [show (nI i + 1 : Int32) = nI (i + 1) from nI_add i 1]
      refine RQ.blk 1 (pc' := 81) (lv' := [(5, .int (nI (i + 1))), (4, .int (nI (min n (t.2.2.1 f - off)))), (0, .ref 1), (1, .int (nI f)), (2, .int (nI off)), (3, .int (nI n))]) (st' := []) (H' := _) (kc' := 0) (ks' := 0) rfl ?_
      refine RQ.pick (a := [(5, .int (nI (i + 1))), (4, .int (nI (min n (t.2.2.1 f - off)))), (0, .ref 1), (1, .int (nI f)), (2, .int (nI off)), (3, .int (nI n))]) [0, 1, 2, 3, 4, 5] [5, 4, 0, 1, 2, 3] rfl rfl (by decide) ?_
      exact ih (i + 1) _ ⟨by omega, by omega, ⟨_, z1, rd_step hrb (hpl i).2⟩, z2, z3, fun a a1 a2 a3 => (z4 a a1 a2 a3).trans (f3 a a1 a2 a3)⟩ (by omega)
    · refine RQ.brT rfl rfl rfl (cT_ge (i * 512) (off + (min n (t.2.2.1 f - off)))) ?_
      refine RQ.blk 1 (pc' := 119) (lv' := [(5, .int (nI i)), (4, .int (nI (min n (t.2.2.1 f - off)))), (0, .ref 1), (1, .int (nI f)), (2, .int (nI off)), (3, .int (nI n))]) (st' := [.int (nI (min n (t.2.2.1 f - off)))]) (H' := _) (kc' := 0) (ks' := 0) rfl ?_
      exact RQ.done (c := 0) (s := 0) rfl rfl rfl rfl ⟨_, _, rfl, rfl, rb, hend (Or.inr (by omega)), hCf (hend (Or.inr (by omega)))⟩
  ·
    refine RQ.blk 2 (pc' := 85) (lv' := [(5, .int (nI i)), (4, .int (nI (min n (t.2.2.1 f - off)))), (0, .ref 1), (1, .int (nI f)), (2, .int (nI off)), (3, .int (nI n))]) (st' := [.int 32, .int (nI i)]) (H' := _) (kc' := 0) (ks' := 0) rfl ?_
    refine RQ.brT rfl rfl rfl (cT_ge i 32) ?_
    refine RQ.blk 1 (pc' := 119) (lv' := [(5, .int (nI i)), (4, .int (nI (min n (t.2.2.1 f - off)))), (0, .ref 1), (1, .int (nI f)), (2, .int (nI off)), (3, .int (nI n))]) (st' := [.int (nI (min n (t.2.2.1 f - off)))]) (H' := _) (kc' := 0) (ks' := 0) rfl ?_
    exact RQ.done (c := 0) (s := 0) rfl rfl rfl rfl ⟨_, _, rfl, rfl, rb, hend (Or.inl (by omega)), hCf (hend (Or.inl (by omega)))⟩
