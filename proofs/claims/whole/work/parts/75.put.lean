/-! ===== put and delete: the class, case by case; written by wip/gen/put.py ===== -/
theorem rc_intendXL {sc : Nat × (Nat → Int32)} {d k b l q : Nat} {H : aH} {bl pr up cw cl cp cb : Int32} {f g : Nat → Int8} {ws : List aE} {v : Option Nat} (h0 : H[0]? = some (kO 11 (fvs bl pr up cw cl cp cb))) (h1 : H[1]? = some (kO 5 [.ref 3, .int (nI l)])) (h2 : H[2]? = some (kB 2000 f)) (h5 : H[5]? = some (kO 5 [.ref 7, .int (nI q)])) (h6 : H[6]? = some (kB 41 g)) (hB : BatchIs H b (ws.map pfx)) (hb : 10 < b) (hkk : k ≤ 40) (hv : k + v.getD 0 ≤ 2000) (hl : ws.length ≤ 32) (hu : eOff ws ws.length ≤ 4000) (hks : ∀ e ∈ ws, 1 ≤ e.1.length) (hfit : ¬ ((dropK ws (sl f 0 k)).length + 1 ≤ 32 ∧ eOff (dropK ws (sl f 0 k)) (dropK ws (sl f 0 k)).length + k + v.getD 0 ≤ 4000)) : RC sc (d + 4) mr_39 [.ref 1, .ref (b + 1), .int (nI k), .int (lI v)] H (.inr 4) ((H.set 6 (kB 41 (prb f g k))).set 5 (kO 5 [.ref 7, .int (nI (k + 1))])) 1 6 := by
  obtain ⟨D, S, K, E, hA, hL, hn40, hu41⟩ := hB
  have hn : (ws.map pfx).length = ws.length := List.length_map _
  have hk := hL.ok hn40 hu41
  have huo : eOff (ws.map pfx) (ws.map pfx).length = eOff ws ws.length + ws.length := by rw [hn]; exact eOff_pfx ws _ (Nat.le_refl _)
  have hkey : ∀ j, j < (ws.map pfx).length → ∃ e, ws[j]? = some e ∧ sl D (S j) (K j) = (pfx e).1 := by
    intro j hj
    obtain ⟨e, h7, h8⟩ := get_pfx (List.getElem?_eq_getElem hj)
    refine ⟨e, h7, ?_⟩
    have h9 := hL.key (List.getElem?_eq_getElem hj)
    rw [h8] at h9
    exact h9
  cases hix : ixK ws (sl f 0 k) with
  | none =>
    have hd : dropK ws (sl f 0 k) = ws := by unfold dropK; rw [hix]
    rw [hd] at hfit
    refine rc_intendX_new h0 h1 h2 h5 h6 hA hk hb hkk hv (by omega) (fun j hj e => by
      obtain ⟨e1, h7, h8⟩ := hkey j hj
      exact ixK_none hix j e1 h7 (keyEq.mp (h8.symm.trans e))) ?_
    rcases Nat.lt_or_ge 32 (ws.length + 1) with h8 | h8
    · exact Or.inl (by omega)
    · exact Or.inr (by omega)
  | some i =>
    have hd : dropK ws (sl f 0 k) = ws.eraseIdx i := by unfold dropK; rw [hix]
    obtain ⟨⟨e0, hi0, he0⟩, hbef⟩ := ixK_some hix
    have hil : i < ws.length := (List.getElem?_eq_some_iff.mp hi0).1
    have hi1 : (ws.map pfx)[i]? = some (pfx e0) := by rw [List.getElem?_map, hi0]; rfl
    obtain ⟨g1, g2, g3, -⟩ := hL i _ hi1
    have hM : K i + (E i).getD 0 = eLen (pfx e0) := by rw [g2, eGet g3]; rfl
    have h10 := eOff_erase_ge (j := ws.length - 1) hi0 (by omega)
    rw [show ws.length - 1 + 1 = ws.length by omega] at h10
    have h11 : 1 ≤ K i := by rw [g2]; show 1 ≤ (0 :: e0.1).length; rw [List.length_cons]; omega
    have h13 := pfx_len e0
    have hle := len_erase (ws := ws) hil
    rw [hd, hle] at hfit
    have h14 := eOff_len (ws.eraseIdx i) (fun a ha => hks a (List.mem_of_mem_eraseIdx ha))
    rw [hle] at h14
    exact rc_intendX_old (i := i) h0 h1 h2 h5 h6 hA hk hb hkk hv (by omega) (by omega) ((hL.key hi1).trans (keyEq.mpr he0)) (fun j hj e => by
      obtain ⟨e1, h7, h8⟩ := hkey j (by omega)
      exact hbef j e1 hj h7 (keyEq.mp (h8.symm.trans e))) h11 (by omega) (by omega)
theorem rc_put_down {sc : Nat × (Nat → Int32)} {d : Nat} {H : aH} {bl pr cw cl cp cb : Int32} {l t k : Nat} (h0 : H[0]? = some (kO 11 (fvs bl pr 0 cw cl cp cb))) (h1 : H[1]? = some (kO 5 [.ref 3, .int (nI l)])) (ht : t < 8) (hk1 : 1 ≤ k) (hk2 : k ≤ 40) (hk3 : k ≤ l) (hk4 : l - k ≤ 1000) (hl : l ≤ 2000) : RC sc (d + 2) mr_33 [.ref 1, .int (nI t), .int (nI k)] H (.inr 1) H 1 6 := by
  refine RP.blk 2 (pc' := 2) (lv' := [(0, .ref 1), (1, .int (nI t)), (2, .int (nI k))]) (st' := [.int (nI t), .ref 1]) (H' := _) (kc' := 0) (ks' := 0) rfl ?_
  refine RP.call (v := none) (st' := []) rfl rfl rfl rfl rfl rfl (args_v [.int (nI t)] [] rfl rfl (Nat.le_of_ble_eq_true rfl) rfl h0 (Nat.le_of_ble_eq_true rfl)) (rc_reqTx h0 ht) ?_
  refine RP.blk 5 (pc' := 11) (lv' := [(0, .ref 1), (1, .int (nI t)), (2, .int (nI k))]) (st' := [.ref 1, .int 40, .int 1, .int (nI k), .ref 1]) (H' := _) (kc' := 0) (ks' := 0) rfl ?_
  refine RP.get (ci := 11) rfl h0 rfl rfl ?_
  refine RP.get (ci := 5) rfl h1 rfl rfl ?_
  refine RP.blk 1 (pc' := 20) (lv' := [(0, .ref 1), (1, .int (nI t)), (2, .int (nI k))]) (st' := [.int (if nI l < 40 then nI l else 40), .int 1, .int (nI k), .ref 1]) (H' := _) (kc' := 0) (ks' := 0) rfl ?_
  rw [show (if nI l < 40 then nI l else 40 : Int32) = nI (min 40 l) from minI (a := 40) (b := l) (by omega) (by omega)]
  refine RP.call (v := none) (st' := []) rfl rfl rfl rfl rfl rfl (args_v [.int (nI (min 40 l)), .int 1, .int (nI k)] [] rfl rfl (Nat.le_of_ble_eq_true rfl) rfl h0 (Nat.le_of_ble_eq_true rfl)) (rc_range (lo := 1) (nI_nlt (b := 1) (by omega) (by omega)) (nI_le (b := min 40 l) (by omega) (by omega))) ?_
  refine RP.blk 2 (pc' := 25) (lv' := [(0, .ref 1), (1, .int (nI t)), (2, .int (nI k))]) (st' := [.ref 1, .ref 1]) (H' := _) (kc' := 0) (ks' := 0) rfl ?_
  refine RP.get (ci := 11) rfl h0 rfl rfl ?_
  refine RP.get (ci := 5) rfl h1 rfl rfl ?_
  refine RP.blk 2 (pc' := 33) (lv' := [(0, .ref 1), (1, .int (nI t)), (2, .int (nI k))]) (st' := [.int (nI l - nI k), .ref 1]) (H' := _) (kc' := 0) (ks' := 0) rfl ?_
  rw [show (nI l - nI k : Int32) = nI (l - k) from pk_sub (a := l) (b := k) (by omega)]
  refine RP.blk 2 (pc' := 37) (lv' := [(0, .ref 1), (1, .int (nI t)), (2, .int (nI k))]) (st' := [.int 1000, .int 0, .int (nI (l - k)), .ref 1]) (H' := _) (kc' := 0) (ks' := 0) rfl ?_
  refine RP.call (v := none) (st' := []) rfl rfl rfl rfl rfl rfl (args_v [.int 1000, .int 0, .int (nI (l - k))] [] rfl rfl (Nat.le_of_ble_eq_true rfl) rfl h0 (Nat.le_of_ble_eq_true rfl)) (rc_range (lo := 0) (hi := 1000) (nI_pos (by omega)) (nI_le (b := 1000) (by omega) (by decide))) ?_
  refine RP.blk 1 (pc' := 41) (lv' := [(0, .ref 1), (1, .int (nI t)), (2, .int (nI k))]) (st' := [.ref 1]) (H' := _) (kc' := 0) (ks' := 0) rfl ?_
  exact RP.callP (st' := []) rfl rfl rfl rfl rfl rfl (args_v [] [] rfl rfl (Nat.le_of_ble_eq_true rfl) rfl h0 (Nat.le_of_ble_eq_true rfl)) (rc_down h0 rfl) rfl
theorem rc_put_closed {sc : Nat × (Nat → Int32)} {d : Nat} {H : aH} {bl pr cw cl cp cb : Int32} {l t k : Nat} {op : Nat → Bool} {mo : Nat → Nat} (h0 : H[0]? = some (kO 11 (fvs bl pr 1 cw cl cp cb))) (h1 : H[1]? = some (kO 5 [.ref 3, .int (nI l)])) (ht : t < 8) (hk1 : 1 ≤ k) (hk2 : k ≤ 40) (hk3 : k ≤ l) (hk4 : l - k ≤ 1000) (hl : l ≤ 2000) (hs : SightAt H op mo) (hop : op t = false) : RC sc (d + 2) mr_33 [.ref 1, .int (nI t), .int (nI k)] H (.inr 3) (H.set 1 (kO 5 [.ref 3, .int (nI 0)])) 1 6 := by
  refine RP.blk 2 (pc' := 2) (lv' := [(0, .ref 1), (1, .int (nI t)), (2, .int (nI k))]) (st' := [.int (nI t), .ref 1]) (H' := _) (kc' := 0) (ks' := 0) rfl ?_
  refine RP.call (v := none) (st' := []) rfl rfl rfl rfl rfl rfl (args_v [.int (nI t)] [] rfl rfl (Nat.le_of_ble_eq_true rfl) rfl h0 (Nat.le_of_ble_eq_true rfl)) (rc_reqTx h0 ht) ?_
  refine RP.blk 5 (pc' := 11) (lv' := [(0, .ref 1), (1, .int (nI t)), (2, .int (nI k))]) (st' := [.ref 1, .int 40, .int 1, .int (nI k), .ref 1]) (H' := _) (kc' := 0) (ks' := 0) rfl ?_
  refine RP.get (ci := 11) rfl h0 rfl rfl ?_
  refine RP.get (ci := 5) rfl h1 rfl rfl ?_
  refine RP.blk 1 (pc' := 20) (lv' := [(0, .ref 1), (1, .int (nI t)), (2, .int (nI k))]) (st' := [.int (if nI l < 40 then nI l else 40), .int 1, .int (nI k), .ref 1]) (H' := _) (kc' := 0) (ks' := 0) rfl ?_
  rw [show (if nI l < 40 then nI l else 40 : Int32) = nI (min 40 l) from minI (a := 40) (b := l) (by omega) (by omega)]
  refine RP.call (v := none) (st' := []) rfl rfl rfl rfl rfl rfl (args_v [.int (nI (min 40 l)), .int 1, .int (nI k)] [] rfl rfl (Nat.le_of_ble_eq_true rfl) rfl h0 (Nat.le_of_ble_eq_true rfl)) (rc_range (lo := 1) (nI_nlt (b := 1) (by omega) (by omega)) (nI_le (b := min 40 l) (by omega) (by omega))) ?_
  refine RP.blk 2 (pc' := 25) (lv' := [(0, .ref 1), (1, .int (nI t)), (2, .int (nI k))]) (st' := [.ref 1, .ref 1]) (H' := _) (kc' := 0) (ks' := 0) rfl ?_
  refine RP.get (ci := 11) rfl h0 rfl rfl ?_
  refine RP.get (ci := 5) rfl h1 rfl rfl ?_
  refine RP.blk 2 (pc' := 33) (lv' := [(0, .ref 1), (1, .int (nI t)), (2, .int (nI k))]) (st' := [.int (nI l - nI k), .ref 1]) (H' := _) (kc' := 0) (ks' := 0) rfl ?_
  rw [show (nI l - nI k : Int32) = nI (l - k) from pk_sub (a := l) (b := k) (by omega)]
  refine RP.blk 2 (pc' := 37) (lv' := [(0, .ref 1), (1, .int (nI t)), (2, .int (nI k))]) (st' := [.int 1000, .int 0, .int (nI (l - k)), .ref 1]) (H' := _) (kc' := 0) (ks' := 0) rfl ?_
  refine RP.call (v := none) (st' := []) rfl rfl rfl rfl rfl rfl (args_v [.int 1000, .int 0, .int (nI (l - k))] [] rfl rfl (Nat.le_of_ble_eq_true rfl) rfl h0 (Nat.le_of_ble_eq_true rfl)) (rc_range (lo := 0) (hi := 1000) (nI_pos (by omega)) (nI_le (b := 1000) (by omega) (by decide))) ?_
  refine RP.blk 1 (pc' := 41) (lv' := [(0, .ref 1), (1, .int (nI t)), (2, .int (nI k))]) (st' := [.ref 1]) (H' := _) (kc' := 0) (ks' := 0) rfl ?_
  refine RP.call (v := none) (st' := []) rfl rfl rfl rfl rfl rfl (args_v [] [] rfl rfl (Nat.le_of_ble_eq_true rfl) rfl h0 (Nat.le_of_ble_eq_true rfl)) (rc_up h0 rfl) ?_
  refine RP.blk 1 (pc' := 45) (lv' := [(0, .ref 1), (1, .int (nI t)), (2, .int (nI k))]) (st' := [.ref 1]) (H' := _) (kc' := 0) (ks' := 0) rfl ?_
  refine RP.call (v := some (.int (nI l))) (st' := []) rfl rfl rfl rfl rfl rfl (args_v [] [] rfl rfl (Nat.le_of_ble_eq_true rfl) rfl h0 (Nat.le_of_ble_eq_true rfl)) (rc_takeTape h0 h1) ?_
  have hs2 : SightAt (H.set 1 (kO 5 [.ref 3, .int (nI 0)])) op mo := ⟨(set_far (by decide)).trans hs.1, (set_far (by decide)).trans hs.2.1, (set_far (by decide)).trans hs.2.2⟩
  have h0b : (H.set 1 (kO 5 [.ref 3, .int (nI 0)]))[0]? = _ := (set_far (by decide)).trans h0
  refine RP.blk 3 (pc' := 51) (lv' := [(3, .int (nI l)), (0, .ref 1), (1, .int (nI t)), (2, .int (nI k))]) (st' := [.int (nI t), .ref 1]) (H' := _) (kc' := 0) (ks' := 0) rfl ?_
  exact RP.callP (st' := []) rfl rfl rfl rfl rfl rfl (args_v [.int (nI t)] [] rfl rfl (Nat.le_of_ble_eq_true rfl) rfl h0b (Nat.le_of_ble_eq_true rfl)) (rc_reqOpenX h0b hs2 ht hop) rfl
theorem rc_put_full {sc : Nat × (Nat → Int32)} {d : Nat} {H : aH} {bl pr cw cl cp cb : Int32} {l t k : Nat} {op : Nat → Bool} {mo : Nat → Nat} {b : Nat} {wq : Nat → Option Nat} {f g : Nat → Int8} {ws : List aE} {q : Nat} (h0 : H[0]? = some (kO 11 (fvs bl pr 1 cw cl cp cb))) (h1 : H[1]? = some (kO 5 [.ref 3, .int (nI l)])) (ht : t < 8) (hk1 : 1 ≤ k) (hk2 : k ≤ 40) (hk3 : k ≤ l) (hk4 : l - k ≤ 1000) (hl : l ≤ 2000) (hs : SightAt H op mo) (hop : op t = true) (hw : H[10]? = some (kQ 4 8 wq)) (hq : wq t = some b) (h2 : H[2]? = some (kB 2000 f)) (h5 : H[5]? = some (kO 5 [.ref 7, .int (nI q)])) (h6 : H[6]? = some (kB 41 g)) (hB : BatchIs H b (ws.map pfx)) (hb : 10 < b) (hwl : ws.length ≤ 32) (hu : eOff ws ws.length ≤ 4000) (hks : ∀ e ∈ ws, 1 ≤ e.1.length) (hfit : ¬ ((dropK ws (sl f 0 k)).length + 1 ≤ 32 ∧ eOff (dropK ws (sl f 0 k)) (dropK ws (sl f 0 k)).length + k + (some (l - k)).getD 0 ≤ 4000)) : RC sc (d + 5) mr_33 [.ref 1, .int (nI t), .int (nI k)] H (.inr 4) (((H.set 1 (kO 5 [.ref 3, .int (nI 0)])).set 6 (kB 41 (prb f g k))).set 5 (kO 5 [.ref 7, .int (nI (k + 1))])) 1 6 := by
  refine RP.blk 2 (pc' := 2) (lv' := [(0, .ref 1), (1, .int (nI t)), (2, .int (nI k))]) (st' := [.int (nI t), .ref 1]) (H' := _) (kc' := 0) (ks' := 0) rfl ?_
  refine RP.call (v := none) (st' := []) rfl rfl rfl rfl rfl rfl (args_v [.int (nI t)] [] rfl rfl (Nat.le_of_ble_eq_true rfl) rfl h0 (Nat.le_of_ble_eq_true rfl)) (rc_reqTx h0 ht) ?_
  refine RP.blk 5 (pc' := 11) (lv' := [(0, .ref 1), (1, .int (nI t)), (2, .int (nI k))]) (st' := [.ref 1, .int 40, .int 1, .int (nI k), .ref 1]) (H' := _) (kc' := 0) (ks' := 0) rfl ?_
  refine RP.get (ci := 11) rfl h0 rfl rfl ?_
  refine RP.get (ci := 5) rfl h1 rfl rfl ?_
  refine RP.blk 1 (pc' := 20) (lv' := [(0, .ref 1), (1, .int (nI t)), (2, .int (nI k))]) (st' := [.int (if nI l < 40 then nI l else 40), .int 1, .int (nI k), .ref 1]) (H' := _) (kc' := 0) (ks' := 0) rfl ?_
  rw [show (if nI l < 40 then nI l else 40 : Int32) = nI (min 40 l) from minI (a := 40) (b := l) (by omega) (by omega)]
  refine RP.call (v := none) (st' := []) rfl rfl rfl rfl rfl rfl (args_v [.int (nI (min 40 l)), .int 1, .int (nI k)] [] rfl rfl (Nat.le_of_ble_eq_true rfl) rfl h0 (Nat.le_of_ble_eq_true rfl)) (rc_range (lo := 1) (nI_nlt (b := 1) (by omega) (by omega)) (nI_le (b := min 40 l) (by omega) (by omega))) ?_
  refine RP.blk 2 (pc' := 25) (lv' := [(0, .ref 1), (1, .int (nI t)), (2, .int (nI k))]) (st' := [.ref 1, .ref 1]) (H' := _) (kc' := 0) (ks' := 0) rfl ?_
  refine RP.get (ci := 11) rfl h0 rfl rfl ?_
  refine RP.get (ci := 5) rfl h1 rfl rfl ?_
  refine RP.blk 2 (pc' := 33) (lv' := [(0, .ref 1), (1, .int (nI t)), (2, .int (nI k))]) (st' := [.int (nI l - nI k), .ref 1]) (H' := _) (kc' := 0) (ks' := 0) rfl ?_
  rw [show (nI l - nI k : Int32) = nI (l - k) from pk_sub (a := l) (b := k) (by omega)]
  refine RP.blk 2 (pc' := 37) (lv' := [(0, .ref 1), (1, .int (nI t)), (2, .int (nI k))]) (st' := [.int 1000, .int 0, .int (nI (l - k)), .ref 1]) (H' := _) (kc' := 0) (ks' := 0) rfl ?_
  refine RP.call (v := none) (st' := []) rfl rfl rfl rfl rfl rfl (args_v [.int 1000, .int 0, .int (nI (l - k))] [] rfl rfl (Nat.le_of_ble_eq_true rfl) rfl h0 (Nat.le_of_ble_eq_true rfl)) (rc_range (lo := 0) (hi := 1000) (nI_pos (by omega)) (nI_le (b := 1000) (by omega) (by decide))) ?_
  refine RP.blk 1 (pc' := 41) (lv' := [(0, .ref 1), (1, .int (nI t)), (2, .int (nI k))]) (st' := [.ref 1]) (H' := _) (kc' := 0) (ks' := 0) rfl ?_
  refine RP.call (v := none) (st' := []) rfl rfl rfl rfl rfl rfl (args_v [] [] rfl rfl (Nat.le_of_ble_eq_true rfl) rfl h0 (Nat.le_of_ble_eq_true rfl)) (rc_up h0 rfl) ?_
  refine RP.blk 1 (pc' := 45) (lv' := [(0, .ref 1), (1, .int (nI t)), (2, .int (nI k))]) (st' := [.ref 1]) (H' := _) (kc' := 0) (ks' := 0) rfl ?_
  refine RP.call (v := some (.int (nI l))) (st' := []) rfl rfl rfl rfl rfl rfl (args_v [] [] rfl rfl (Nat.le_of_ble_eq_true rfl) rfl h0 (Nat.le_of_ble_eq_true rfl)) (rc_takeTape h0 h1) ?_
  have hs2 : SightAt (H.set 1 (kO 5 [.ref 3, .int (nI 0)])) op mo := ⟨(set_far (by decide)).trans hs.1, (set_far (by decide)).trans hs.2.1, (set_far (by decide)).trans hs.2.2⟩
  have h0b : (H.set 1 (kO 5 [.ref 3, .int (nI 0)]))[0]? = _ := (set_far (by decide)).trans h0
  refine RP.blk 3 (pc' := 51) (lv' := [(3, .int (nI l)), (0, .ref 1), (1, .int (nI t)), (2, .int (nI k))]) (st' := [.int (nI t), .ref 1]) (H' := _) (kc' := 0) (ks' := 0) rfl ?_
  refine RP.call (v := none) (st' := []) rfl rfl rfl rfl rfl rfl (args_v [.int (nI t)] [] rfl rfl (Nat.le_of_ble_eq_true rfl) rfl h0b (Nat.le_of_ble_eq_true rfl)) (rc_reqOpen h0b hs2 ht hop) ?_
  refine RP.blk 2 (pc' := 56) (lv' := [(3, .int (nI l)), (0, .ref 1), (1, .int (nI t)), (2, .int (nI k))]) (st' := [.ref 1, .ref 1]) (H' := _) (kc' := 0) (ks' := 0) rfl ?_
  refine RP.get (ci := 11) rfl h0b rfl rfl ?_
  refine RP.blk 1 (pc' := 60) (lv' := [(3, .int (nI l)), (0, .ref 1), (1, .int (nI t)), (2, .int (nI k))]) (st' := [.int (nI t), .ref 8, .ref 1]) (H' := _) (kc' := 0) (ks' := 0) rfl ?_
  refine RP.call (v := some (.ref (b + 1))) (st' := [.ref 1]) rfl rfl rfl rfl rfl rfl (args_v [.int (nI t)] [.ref 1] rfl rfl (Nat.le_of_ble_eq_true rfl) rfl hs2.1 (Nat.le_of_ble_eq_true rfl)) (rc_writesOf hs2 ((set_far (by decide)).trans hw) hq ht) ?_
  refine RP.blk 4 (pc' := 67) (lv' := [(3, .int (nI l)), (0, .ref 1), (1, .int (nI t)), (2, .int (nI k))]) (st' := [.int (nI l - nI k), .int (nI k), .ref (b + 1), .ref 1]) (H' := _) (kc' := 0) (ks' := 0) rfl ?_
  rw [show (nI l - nI k : Int32) = nI (l - k) from pk_sub (a := l) (b := k) (by omega)]
  have h2b : (H.set 1 (kO 5 [.ref 3, .int (nI 0)]))[2]? = some (kB 2000 f) := (set_far (by decide)).trans h2
  have h5b : (H.set 1 (kO 5 [.ref 3, .int (nI 0)]))[5]? = some (kO 5 [.ref 7, .int (nI q)]) := (set_far (by decide)).trans h5
  have h6b : (H.set 1 (kO 5 [.ref 3, .int (nI 0)]))[6]? = some (kB 41 g) := (set_far (by decide)).trans h6
  have hBb := hB.far (H' := (H.set 1 (kO 5 [.ref 3, .int (nI 0)]))) (fun a ha _ => set_far (by omega))
  exact RP.callP (st' := []) rfl rfl rfl rfl rfl rfl (args_v [.int (nI (l - k)), .int (nI k), .ref (b + 1)] [] rfl rfl (Nat.le_of_ble_eq_true rfl) rfl h0b (Nat.le_of_ble_eq_true rfl)) (rc_intendXL (k := k) (v := (some (l - k))) h0b (get_set h1) h2b h5b h6b hBb hb hk2 (by show k + (l - k) ≤ 2000; omega) hwl hu hks hfit) rfl
theorem ri_put {sc : Nat × (Nat → Int32)} {d : Nat} {H : aH} {bl pr cw cl cp cb : Int32} {l t k : Nat} {op : Nat → Bool} {mo : Nat → Nat} {b : Nat} {wq : Nat → Option Nat} {f g : Nat → Int8} {ws : List aE} {q : Nat} (h0 : H[0]? = some (kO 11 (fvs bl pr 1 cw cl cp cb))) (h1 : H[1]? = some (kO 5 [.ref 3, .int (nI l)])) (ht : t < 8) (hk1 : 1 ≤ k) (hk2 : k ≤ 40) (hk3 : k ≤ l) (hk4 : l - k ≤ 1000) (hl : l ≤ 2000) (hs : SightAt H op mo) (hop : op t = true) (hw : H[10]? = some (kQ 4 8 wq)) (hq : wq t = some b) (h2 : H[2]? = some (kB 2000 f)) (h5 : H[5]? = some (kO 5 [.ref 7, .int (nI q)])) (h6 : H[6]? = some (kB 41 g)) (hB : BatchIs H b (ws.map pfx)) (hb : 10 < b) (hwl : ws.length ≤ 32) (hu : eOff ws ws.length ≤ 4000) (hks : ∀ e ∈ ws, 1 ≤ e.1.length) (hfit : (dropK ws (sl f 0 k)).length + 1 ≤ 32 ∧ eOff (dropK ws (sl f 0 k)) (dropK ws (sl f 0 k)).length + k + (some (l - k)).getD 0 ≤ 4000) : RI sc (d + 5) mr_33 [.ref 1, .int (nI t), .int (nI k)] H (fun x H' => x = nI ((dropK ws (sl f 0 k)).length + 1) ∧ BatchIs H' b ((dropK ws (sl f 0 k) ++ [(sl f 0 k, some (sl f k (l - k)))]).map pfx) ∧ H'[5]? = some (kO 5 [.ref 7, .int (nI (k + 1))]) ∧ H'[6]? = some (kB 41 (prb f g k)) ∧ H'[1]? = some (kO 5 [.ref 3, .int (nI 0)]) ∧ ∀ a, ¬ (b ≤ a ∧ a < b + 5) → a ≠ 5 → a ≠ 6 → a ≠ 1 → H'[a]? = H[a]?) := by
  refine RI.of ?_
  refine RQ.blk 2 (pc' := 2) (lv' := [(0, .ref 1), (1, .int (nI t)), (2, .int (nI k))]) (st' := [.int (nI t), .ref 1]) (H' := _) (kc' := 0) (ks' := 0) rfl ?_
  refine RQ.call (v := none) (st' := []) rfl rfl rfl rfl rfl rfl (args_v [.int (nI t)] [] rfl rfl (Nat.le_of_ble_eq_true rfl) rfl h0 (Nat.le_of_ble_eq_true rfl)) (rc_reqTx h0 ht) ?_
  refine RQ.blk 5 (pc' := 11) (lv' := [(0, .ref 1), (1, .int (nI t)), (2, .int (nI k))]) (st' := [.ref 1, .int 40, .int 1, .int (nI k), .ref 1]) (H' := _) (kc' := 0) (ks' := 0) rfl ?_
  refine RQ.get (ci := 11) rfl h0 rfl rfl ?_
  refine RQ.get (ci := 5) rfl h1 rfl rfl ?_
  refine RQ.blk 1 (pc' := 20) (lv' := [(0, .ref 1), (1, .int (nI t)), (2, .int (nI k))]) (st' := [.int (if nI l < 40 then nI l else 40), .int 1, .int (nI k), .ref 1]) (H' := _) (kc' := 0) (ks' := 0) rfl ?_
  rw [show (if nI l < 40 then nI l else 40 : Int32) = nI (min 40 l) from minI (a := 40) (b := l) (by omega) (by omega)]
  refine RQ.call (v := none) (st' := []) rfl rfl rfl rfl rfl rfl (args_v [.int (nI (min 40 l)), .int 1, .int (nI k)] [] rfl rfl (Nat.le_of_ble_eq_true rfl) rfl h0 (Nat.le_of_ble_eq_true rfl)) (rc_range (lo := 1) (nI_nlt (b := 1) (by omega) (by omega)) (nI_le (b := min 40 l) (by omega) (by omega))) ?_
  refine RQ.blk 2 (pc' := 25) (lv' := [(0, .ref 1), (1, .int (nI t)), (2, .int (nI k))]) (st' := [.ref 1, .ref 1]) (H' := _) (kc' := 0) (ks' := 0) rfl ?_
  refine RQ.get (ci := 11) rfl h0 rfl rfl ?_
  refine RQ.get (ci := 5) rfl h1 rfl rfl ?_
  refine RQ.blk 2 (pc' := 33) (lv' := [(0, .ref 1), (1, .int (nI t)), (2, .int (nI k))]) (st' := [.int (nI l - nI k), .ref 1]) (H' := _) (kc' := 0) (ks' := 0) rfl ?_
  rw [show (nI l - nI k : Int32) = nI (l - k) from pk_sub (a := l) (b := k) (by omega)]
  refine RQ.blk 2 (pc' := 37) (lv' := [(0, .ref 1), (1, .int (nI t)), (2, .int (nI k))]) (st' := [.int 1000, .int 0, .int (nI (l - k)), .ref 1]) (H' := _) (kc' := 0) (ks' := 0) rfl ?_
  refine RQ.call (v := none) (st' := []) rfl rfl rfl rfl rfl rfl (args_v [.int 1000, .int 0, .int (nI (l - k))] [] rfl rfl (Nat.le_of_ble_eq_true rfl) rfl h0 (Nat.le_of_ble_eq_true rfl)) (rc_range (lo := 0) (hi := 1000) (nI_pos (by omega)) (nI_le (b := 1000) (by omega) (by decide))) ?_
  refine RQ.blk 1 (pc' := 41) (lv' := [(0, .ref 1), (1, .int (nI t)), (2, .int (nI k))]) (st' := [.ref 1]) (H' := _) (kc' := 0) (ks' := 0) rfl ?_
  refine RQ.call (v := none) (st' := []) rfl rfl rfl rfl rfl rfl (args_v [] [] rfl rfl (Nat.le_of_ble_eq_true rfl) rfl h0 (Nat.le_of_ble_eq_true rfl)) (rc_up h0 rfl) ?_
  refine RQ.blk 1 (pc' := 45) (lv' := [(0, .ref 1), (1, .int (nI t)), (2, .int (nI k))]) (st' := [.ref 1]) (H' := _) (kc' := 0) (ks' := 0) rfl ?_
  refine RQ.call (v := some (.int (nI l))) (st' := []) rfl rfl rfl rfl rfl rfl (args_v [] [] rfl rfl (Nat.le_of_ble_eq_true rfl) rfl h0 (Nat.le_of_ble_eq_true rfl)) (rc_takeTape h0 h1) ?_
  have hs2 : SightAt (H.set 1 (kO 5 [.ref 3, .int (nI 0)])) op mo := ⟨(set_far (by decide)).trans hs.1, (set_far (by decide)).trans hs.2.1, (set_far (by decide)).trans hs.2.2⟩
  have h0b : (H.set 1 (kO 5 [.ref 3, .int (nI 0)]))[0]? = _ := (set_far (by decide)).trans h0
  refine RQ.blk 3 (pc' := 51) (lv' := [(3, .int (nI l)), (0, .ref 1), (1, .int (nI t)), (2, .int (nI k))]) (st' := [.int (nI t), .ref 1]) (H' := _) (kc' := 0) (ks' := 0) rfl ?_
  refine RQ.call (v := none) (st' := []) rfl rfl rfl rfl rfl rfl (args_v [.int (nI t)] [] rfl rfl (Nat.le_of_ble_eq_true rfl) rfl h0b (Nat.le_of_ble_eq_true rfl)) (rc_reqOpen h0b hs2 ht hop) ?_
  refine RQ.blk 2 (pc' := 56) (lv' := [(3, .int (nI l)), (0, .ref 1), (1, .int (nI t)), (2, .int (nI k))]) (st' := [.ref 1, .ref 1]) (H' := _) (kc' := 0) (ks' := 0) rfl ?_
  refine RQ.get (ci := 11) rfl h0b rfl rfl ?_
  refine RQ.blk 1 (pc' := 60) (lv' := [(3, .int (nI l)), (0, .ref 1), (1, .int (nI t)), (2, .int (nI k))]) (st' := [.int (nI t), .ref 8, .ref 1]) (H' := _) (kc' := 0) (ks' := 0) rfl ?_
  refine RQ.call (v := some (.ref (b + 1))) (st' := [.ref 1]) rfl rfl rfl rfl rfl rfl (args_v [.int (nI t)] [.ref 1] rfl rfl (Nat.le_of_ble_eq_true rfl) rfl hs2.1 (Nat.le_of_ble_eq_true rfl)) (rc_writesOf hs2 ((set_far (by decide)).trans hw) hq ht) ?_
  refine RQ.blk 4 (pc' := 67) (lv' := [(3, .int (nI l)), (0, .ref 1), (1, .int (nI t)), (2, .int (nI k))]) (st' := [.int (nI l - nI k), .int (nI k), .ref (b + 1), .ref 1]) (H' := _) (kc' := 0) (ks' := 0) rfl ?_
  rw [show (nI l - nI k : Int32) = nI (l - k) from pk_sub (a := l) (b := k) (by omega)]
  have h2b : (H.set 1 (kO 5 [.ref 3, .int (nI 0)]))[2]? = some (kB 2000 f) := (set_far (by decide)).trans h2
  have h5b : (H.set 1 (kO 5 [.ref 3, .int (nI 0)]))[5]? = some (kO 5 [.ref 7, .int (nI q)]) := (set_far (by decide)).trans h5
  have h6b : (H.set 1 (kO 5 [.ref 3, .int (nI 0)]))[6]? = some (kB 41 g) := (set_far (by decide)).trans h6
  have hBb := hB.far (H' := (H.set 1 (kO 5 [.ref 3, .int (nI 0)]))) (fun a ha _ => set_far (by omega))
  refine RQ.callI (st' := []) rfl rfl rfl rfl rfl rfl (args_v [.int (nI (l - k)), .int (nI k), .ref (b + 1)] [] rfl rfl (Nat.le_of_ble_eq_true rfl) rfl h0b (Nat.le_of_ble_eq_true rfl)) (ri_intendL (k := k) (v := (some (l - k))) h0b (get_set h1) h2b h5b h6b hBb hb hk2 (by show k + (l - k) ≤ 2000; omega) hwl hu hks hfit) (fun x H2 hx => ?_)
  obtain ⟨rfl, j1, j2, j3, j4⟩ := hx
  exact RQ.done (c := 0) (s := 0) rfl rfl rfl rfl ⟨_, _, rfl, rfl, j1, j2, j3, (j4 1 (by omega) (by decide) (by decide)).trans (get_set h1), fun a ha h5 h6 h9 => (j4 a ha h5 h6).trans (set_far h9)⟩
theorem rc_delete_down {sc : Nat × (Nat → Int32)} {d : Nat} {H : aH} {bl pr cw cl cp cb : Int32} {l t : Nat} (h0 : H[0]? = some (kO 11 (fvs bl pr 0 cw cl cp cb))) (h1 : H[1]? = some (kO 5 [.ref 3, .int (nI l)])) (ht : t < 8) (hl1 : 1 ≤ l) (hl2 : l ≤ 40) : RC sc (d + 2) mr_51 [.ref 1, .int (nI t)] H (.inr 1) H 1 6 := by
  refine RP.blk 2 (pc' := 2) (lv' := [(0, .ref 1), (1, .int (nI t))]) (st' := [.int (nI t), .ref 1]) (H' := _) (kc' := 0) (ks' := 0) rfl ?_
  refine RP.call (v := none) (st' := []) rfl rfl rfl rfl rfl rfl (args_v [.int (nI t)] [] rfl rfl (Nat.le_of_ble_eq_true rfl) rfl h0 (Nat.le_of_ble_eq_true rfl)) (rc_reqTx h0 ht) ?_
  refine RP.blk 2 (pc' := 7) (lv' := [(0, .ref 1), (1, .int (nI t))]) (st' := [.ref 1, .ref 1]) (H' := _) (kc' := 0) (ks' := 0) rfl ?_
  refine RP.get (ci := 11) rfl h0 rfl rfl ?_
  refine RP.get (ci := 5) rfl h1 rfl rfl ?_
  refine RP.blk 2 (pc' := 16) (lv' := [(0, .ref 1), (1, .int (nI t))]) (st' := [.int 40, .int 1, .int (nI l), .ref 1]) (H' := _) (kc' := 0) (ks' := 0) rfl ?_
  refine RP.call (v := none) (st' := []) rfl rfl rfl rfl rfl rfl (args_v [.int 40, .int 1, .int (nI l)] [] rfl rfl (Nat.le_of_ble_eq_true rfl) rfl h0 (Nat.le_of_ble_eq_true rfl)) (rc_range (lo := 1) (hi := 40) (nI_nlt (b := 1) (by omega) (by omega)) (nI_le (b := 40) (by omega) (by decide))) ?_
  refine RP.blk 1 (pc' := 20) (lv' := [(0, .ref 1), (1, .int (nI t))]) (st' := [.ref 1]) (H' := _) (kc' := 0) (ks' := 0) rfl ?_
  exact RP.callP (st' := []) rfl rfl rfl rfl rfl rfl (args_v [] [] rfl rfl (Nat.le_of_ble_eq_true rfl) rfl h0 (Nat.le_of_ble_eq_true rfl)) (rc_down h0 rfl) rfl
theorem rc_delete_closed {sc : Nat × (Nat → Int32)} {d : Nat} {H : aH} {bl pr cw cl cp cb : Int32} {l t : Nat} {op : Nat → Bool} {mo : Nat → Nat} (h0 : H[0]? = some (kO 11 (fvs bl pr 1 cw cl cp cb))) (h1 : H[1]? = some (kO 5 [.ref 3, .int (nI l)])) (ht : t < 8) (hl1 : 1 ≤ l) (hl2 : l ≤ 40) (hs : SightAt H op mo) (hop : op t = false) : RC sc (d + 2) mr_51 [.ref 1, .int (nI t)] H (.inr 3) (H.set 1 (kO 5 [.ref 3, .int (nI 0)])) 1 6 := by
  refine RP.blk 2 (pc' := 2) (lv' := [(0, .ref 1), (1, .int (nI t))]) (st' := [.int (nI t), .ref 1]) (H' := _) (kc' := 0) (ks' := 0) rfl ?_
  refine RP.call (v := none) (st' := []) rfl rfl rfl rfl rfl rfl (args_v [.int (nI t)] [] rfl rfl (Nat.le_of_ble_eq_true rfl) rfl h0 (Nat.le_of_ble_eq_true rfl)) (rc_reqTx h0 ht) ?_
  refine RP.blk 2 (pc' := 7) (lv' := [(0, .ref 1), (1, .int (nI t))]) (st' := [.ref 1, .ref 1]) (H' := _) (kc' := 0) (ks' := 0) rfl ?_
  refine RP.get (ci := 11) rfl h0 rfl rfl ?_
  refine RP.get (ci := 5) rfl h1 rfl rfl ?_
  refine RP.blk 2 (pc' := 16) (lv' := [(0, .ref 1), (1, .int (nI t))]) (st' := [.int 40, .int 1, .int (nI l), .ref 1]) (H' := _) (kc' := 0) (ks' := 0) rfl ?_
  refine RP.call (v := none) (st' := []) rfl rfl rfl rfl rfl rfl (args_v [.int 40, .int 1, .int (nI l)] [] rfl rfl (Nat.le_of_ble_eq_true rfl) rfl h0 (Nat.le_of_ble_eq_true rfl)) (rc_range (lo := 1) (hi := 40) (nI_nlt (b := 1) (by omega) (by omega)) (nI_le (b := 40) (by omega) (by decide))) ?_
  refine RP.blk 1 (pc' := 20) (lv' := [(0, .ref 1), (1, .int (nI t))]) (st' := [.ref 1]) (H' := _) (kc' := 0) (ks' := 0) rfl ?_
  refine RP.call (v := none) (st' := []) rfl rfl rfl rfl rfl rfl (args_v [] [] rfl rfl (Nat.le_of_ble_eq_true rfl) rfl h0 (Nat.le_of_ble_eq_true rfl)) (rc_up h0 rfl) ?_
  refine RP.blk 1 (pc' := 24) (lv' := [(0, .ref 1), (1, .int (nI t))]) (st' := [.ref 1]) (H' := _) (kc' := 0) (ks' := 0) rfl ?_
  refine RP.call (v := some (.int (nI l))) (st' := []) rfl rfl rfl rfl rfl rfl (args_v [] [] rfl rfl (Nat.le_of_ble_eq_true rfl) rfl h0 (Nat.le_of_ble_eq_true rfl)) (rc_takeTape h0 h1) ?_
  have hs2 : SightAt (H.set 1 (kO 5 [.ref 3, .int (nI 0)])) op mo := ⟨(set_far (by decide)).trans hs.1, (set_far (by decide)).trans hs.2.1, (set_far (by decide)).trans hs.2.2⟩
  have h0b : (H.set 1 (kO 5 [.ref 3, .int (nI 0)]))[0]? = _ := (set_far (by decide)).trans h0
  refine RP.blk 3 (pc' := 30) (lv' := [(2, .int (nI l)), (0, .ref 1), (1, .int (nI t))]) (st' := [.int (nI t), .ref 1]) (H' := _) (kc' := 0) (ks' := 0) rfl ?_
  exact RP.callP (st' := []) rfl rfl rfl rfl rfl rfl (args_v [.int (nI t)] [] rfl rfl (Nat.le_of_ble_eq_true rfl) rfl h0b (Nat.le_of_ble_eq_true rfl)) (rc_reqOpenX h0b hs2 ht hop) rfl
theorem rc_delete_full {sc : Nat × (Nat → Int32)} {d : Nat} {H : aH} {bl pr cw cl cp cb : Int32} {l t : Nat} {op : Nat → Bool} {mo : Nat → Nat} {b : Nat} {wq : Nat → Option Nat} {f g : Nat → Int8} {ws : List aE} {q : Nat} (h0 : H[0]? = some (kO 11 (fvs bl pr 1 cw cl cp cb))) (h1 : H[1]? = some (kO 5 [.ref 3, .int (nI l)])) (ht : t < 8) (hl1 : 1 ≤ l) (hl2 : l ≤ 40) (hs : SightAt H op mo) (hop : op t = true) (hw : H[10]? = some (kQ 4 8 wq)) (hq : wq t = some b) (h2 : H[2]? = some (kB 2000 f)) (h5 : H[5]? = some (kO 5 [.ref 7, .int (nI q)])) (h6 : H[6]? = some (kB 41 g)) (hB : BatchIs H b (ws.map pfx)) (hb : 10 < b) (hwl : ws.length ≤ 32) (hu : eOff ws ws.length ≤ 4000) (hks : ∀ e ∈ ws, 1 ≤ e.1.length) (hfit : ¬ ((dropK ws (sl f 0 l)).length + 1 ≤ 32 ∧ eOff (dropK ws (sl f 0 l)) (dropK ws (sl f 0 l)).length + l + (none : Option Nat).getD 0 ≤ 4000)) : RC sc (d + 5) mr_51 [.ref 1, .int (nI t)] H (.inr 4) (((H.set 1 (kO 5 [.ref 3, .int (nI 0)])).set 6 (kB 41 (prb f g l))).set 5 (kO 5 [.ref 7, .int (nI (l + 1))])) 1 6 := by
  refine RP.blk 2 (pc' := 2) (lv' := [(0, .ref 1), (1, .int (nI t))]) (st' := [.int (nI t), .ref 1]) (H' := _) (kc' := 0) (ks' := 0) rfl ?_
  refine RP.call (v := none) (st' := []) rfl rfl rfl rfl rfl rfl (args_v [.int (nI t)] [] rfl rfl (Nat.le_of_ble_eq_true rfl) rfl h0 (Nat.le_of_ble_eq_true rfl)) (rc_reqTx h0 ht) ?_
  refine RP.blk 2 (pc' := 7) (lv' := [(0, .ref 1), (1, .int (nI t))]) (st' := [.ref 1, .ref 1]) (H' := _) (kc' := 0) (ks' := 0) rfl ?_
  refine RP.get (ci := 11) rfl h0 rfl rfl ?_
  refine RP.get (ci := 5) rfl h1 rfl rfl ?_
  refine RP.blk 2 (pc' := 16) (lv' := [(0, .ref 1), (1, .int (nI t))]) (st' := [.int 40, .int 1, .int (nI l), .ref 1]) (H' := _) (kc' := 0) (ks' := 0) rfl ?_
  refine RP.call (v := none) (st' := []) rfl rfl rfl rfl rfl rfl (args_v [.int 40, .int 1, .int (nI l)] [] rfl rfl (Nat.le_of_ble_eq_true rfl) rfl h0 (Nat.le_of_ble_eq_true rfl)) (rc_range (lo := 1) (hi := 40) (nI_nlt (b := 1) (by omega) (by omega)) (nI_le (b := 40) (by omega) (by decide))) ?_
  refine RP.blk 1 (pc' := 20) (lv' := [(0, .ref 1), (1, .int (nI t))]) (st' := [.ref 1]) (H' := _) (kc' := 0) (ks' := 0) rfl ?_
  refine RP.call (v := none) (st' := []) rfl rfl rfl rfl rfl rfl (args_v [] [] rfl rfl (Nat.le_of_ble_eq_true rfl) rfl h0 (Nat.le_of_ble_eq_true rfl)) (rc_up h0 rfl) ?_
  refine RP.blk 1 (pc' := 24) (lv' := [(0, .ref 1), (1, .int (nI t))]) (st' := [.ref 1]) (H' := _) (kc' := 0) (ks' := 0) rfl ?_
  refine RP.call (v := some (.int (nI l))) (st' := []) rfl rfl rfl rfl rfl rfl (args_v [] [] rfl rfl (Nat.le_of_ble_eq_true rfl) rfl h0 (Nat.le_of_ble_eq_true rfl)) (rc_takeTape h0 h1) ?_
  have hs2 : SightAt (H.set 1 (kO 5 [.ref 3, .int (nI 0)])) op mo := ⟨(set_far (by decide)).trans hs.1, (set_far (by decide)).trans hs.2.1, (set_far (by decide)).trans hs.2.2⟩
  have h0b : (H.set 1 (kO 5 [.ref 3, .int (nI 0)]))[0]? = _ := (set_far (by decide)).trans h0
  refine RP.blk 3 (pc' := 30) (lv' := [(2, .int (nI l)), (0, .ref 1), (1, .int (nI t))]) (st' := [.int (nI t), .ref 1]) (H' := _) (kc' := 0) (ks' := 0) rfl ?_
  refine RP.call (v := none) (st' := []) rfl rfl rfl rfl rfl rfl (args_v [.int (nI t)] [] rfl rfl (Nat.le_of_ble_eq_true rfl) rfl h0b (Nat.le_of_ble_eq_true rfl)) (rc_reqOpen h0b hs2 ht hop) ?_
  refine RP.blk 2 (pc' := 35) (lv' := [(2, .int (nI l)), (0, .ref 1), (1, .int (nI t))]) (st' := [.ref 1, .ref 1]) (H' := _) (kc' := 0) (ks' := 0) rfl ?_
  refine RP.get (ci := 11) rfl h0b rfl rfl ?_
  refine RP.blk 1 (pc' := 39) (lv' := [(2, .int (nI l)), (0, .ref 1), (1, .int (nI t))]) (st' := [.int (nI t), .ref 8, .ref 1]) (H' := _) (kc' := 0) (ks' := 0) rfl ?_
  refine RP.call (v := some (.ref (b + 1))) (st' := [.ref 1]) rfl rfl rfl rfl rfl rfl (args_v [.int (nI t)] [.ref 1] rfl rfl (Nat.le_of_ble_eq_true rfl) rfl hs2.1 (Nat.le_of_ble_eq_true rfl)) (rc_writesOf hs2 ((set_far (by decide)).trans hw) hq ht) ?_
  refine RP.blk 2 (pc' := 44) (lv' := [(2, .int (nI l)), (0, .ref 1), (1, .int (nI t))]) (st' := [.int (-1), .int (nI l), .ref (b + 1), .ref 1]) (H' := _) (kc' := 0) (ks' := 0) rfl ?_
  have h2b : (H.set 1 (kO 5 [.ref 3, .int (nI 0)]))[2]? = some (kB 2000 f) := (set_far (by decide)).trans h2
  have h5b : (H.set 1 (kO 5 [.ref 3, .int (nI 0)]))[5]? = some (kO 5 [.ref 7, .int (nI q)]) := (set_far (by decide)).trans h5
  have h6b : (H.set 1 (kO 5 [.ref 3, .int (nI 0)]))[6]? = some (kB 41 g) := (set_far (by decide)).trans h6
  have hBb := hB.far (H' := (H.set 1 (kO 5 [.ref 3, .int (nI 0)]))) (fun a ha _ => set_far (by omega))
  exact RP.callP (st' := []) rfl rfl rfl rfl rfl rfl (args_v [.int (-1), .int (nI l), .ref (b + 1)] [] rfl rfl (Nat.le_of_ble_eq_true rfl) rfl h0b (Nat.le_of_ble_eq_true rfl)) (rc_intendXL (k := l) (v := none) h0b (get_set h1) h2b h5b h6b hBb hb hl2 (by show l + 0 ≤ 2000; omega) hwl hu hks hfit) rfl
theorem ri_delete {sc : Nat × (Nat → Int32)} {d : Nat} {H : aH} {bl pr cw cl cp cb : Int32} {l t : Nat} {op : Nat → Bool} {mo : Nat → Nat} {b : Nat} {wq : Nat → Option Nat} {f g : Nat → Int8} {ws : List aE} {q : Nat} (h0 : H[0]? = some (kO 11 (fvs bl pr 1 cw cl cp cb))) (h1 : H[1]? = some (kO 5 [.ref 3, .int (nI l)])) (ht : t < 8) (hl1 : 1 ≤ l) (hl2 : l ≤ 40) (hs : SightAt H op mo) (hop : op t = true) (hw : H[10]? = some (kQ 4 8 wq)) (hq : wq t = some b) (h2 : H[2]? = some (kB 2000 f)) (h5 : H[5]? = some (kO 5 [.ref 7, .int (nI q)])) (h6 : H[6]? = some (kB 41 g)) (hB : BatchIs H b (ws.map pfx)) (hb : 10 < b) (hwl : ws.length ≤ 32) (hu : eOff ws ws.length ≤ 4000) (hks : ∀ e ∈ ws, 1 ≤ e.1.length) (hfit : (dropK ws (sl f 0 l)).length + 1 ≤ 32 ∧ eOff (dropK ws (sl f 0 l)) (dropK ws (sl f 0 l)).length + l + (none : Option Nat).getD 0 ≤ 4000) : RI sc (d + 5) mr_51 [.ref 1, .int (nI t)] H (fun x H' => x = nI ((dropK ws (sl f 0 l)).length + 1) ∧ BatchIs H' b ((dropK ws (sl f 0 l) ++ [(sl f 0 l, none)]).map pfx) ∧ H'[5]? = some (kO 5 [.ref 7, .int (nI (l + 1))]) ∧ H'[6]? = some (kB 41 (prb f g l)) ∧ H'[1]? = some (kO 5 [.ref 3, .int (nI 0)]) ∧ ∀ a, ¬ (b ≤ a ∧ a < b + 5) → a ≠ 5 → a ≠ 6 → a ≠ 1 → H'[a]? = H[a]?) := by
  refine RI.of ?_
  refine RQ.blk 2 (pc' := 2) (lv' := [(0, .ref 1), (1, .int (nI t))]) (st' := [.int (nI t), .ref 1]) (H' := _) (kc' := 0) (ks' := 0) rfl ?_
  refine RQ.call (v := none) (st' := []) rfl rfl rfl rfl rfl rfl (args_v [.int (nI t)] [] rfl rfl (Nat.le_of_ble_eq_true rfl) rfl h0 (Nat.le_of_ble_eq_true rfl)) (rc_reqTx h0 ht) ?_
  refine RQ.blk 2 (pc' := 7) (lv' := [(0, .ref 1), (1, .int (nI t))]) (st' := [.ref 1, .ref 1]) (H' := _) (kc' := 0) (ks' := 0) rfl ?_
  refine RQ.get (ci := 11) rfl h0 rfl rfl ?_
  refine RQ.get (ci := 5) rfl h1 rfl rfl ?_
  refine RQ.blk 2 (pc' := 16) (lv' := [(0, .ref 1), (1, .int (nI t))]) (st' := [.int 40, .int 1, .int (nI l), .ref 1]) (H' := _) (kc' := 0) (ks' := 0) rfl ?_
  refine RQ.call (v := none) (st' := []) rfl rfl rfl rfl rfl rfl (args_v [.int 40, .int 1, .int (nI l)] [] rfl rfl (Nat.le_of_ble_eq_true rfl) rfl h0 (Nat.le_of_ble_eq_true rfl)) (rc_range (lo := 1) (hi := 40) (nI_nlt (b := 1) (by omega) (by omega)) (nI_le (b := 40) (by omega) (by decide))) ?_
  refine RQ.blk 1 (pc' := 20) (lv' := [(0, .ref 1), (1, .int (nI t))]) (st' := [.ref 1]) (H' := _) (kc' := 0) (ks' := 0) rfl ?_
  refine RQ.call (v := none) (st' := []) rfl rfl rfl rfl rfl rfl (args_v [] [] rfl rfl (Nat.le_of_ble_eq_true rfl) rfl h0 (Nat.le_of_ble_eq_true rfl)) (rc_up h0 rfl) ?_
  refine RQ.blk 1 (pc' := 24) (lv' := [(0, .ref 1), (1, .int (nI t))]) (st' := [.ref 1]) (H' := _) (kc' := 0) (ks' := 0) rfl ?_
  refine RQ.call (v := some (.int (nI l))) (st' := []) rfl rfl rfl rfl rfl rfl (args_v [] [] rfl rfl (Nat.le_of_ble_eq_true rfl) rfl h0 (Nat.le_of_ble_eq_true rfl)) (rc_takeTape h0 h1) ?_
  have hs2 : SightAt (H.set 1 (kO 5 [.ref 3, .int (nI 0)])) op mo := ⟨(set_far (by decide)).trans hs.1, (set_far (by decide)).trans hs.2.1, (set_far (by decide)).trans hs.2.2⟩
  have h0b : (H.set 1 (kO 5 [.ref 3, .int (nI 0)]))[0]? = _ := (set_far (by decide)).trans h0
  refine RQ.blk 3 (pc' := 30) (lv' := [(2, .int (nI l)), (0, .ref 1), (1, .int (nI t))]) (st' := [.int (nI t), .ref 1]) (H' := _) (kc' := 0) (ks' := 0) rfl ?_
  refine RQ.call (v := none) (st' := []) rfl rfl rfl rfl rfl rfl (args_v [.int (nI t)] [] rfl rfl (Nat.le_of_ble_eq_true rfl) rfl h0b (Nat.le_of_ble_eq_true rfl)) (rc_reqOpen h0b hs2 ht hop) ?_
  refine RQ.blk 2 (pc' := 35) (lv' := [(2, .int (nI l)), (0, .ref 1), (1, .int (nI t))]) (st' := [.ref 1, .ref 1]) (H' := _) (kc' := 0) (ks' := 0) rfl ?_
  refine RQ.get (ci := 11) rfl h0b rfl rfl ?_
  refine RQ.blk 1 (pc' := 39) (lv' := [(2, .int (nI l)), (0, .ref 1), (1, .int (nI t))]) (st' := [.int (nI t), .ref 8, .ref 1]) (H' := _) (kc' := 0) (ks' := 0) rfl ?_
  refine RQ.call (v := some (.ref (b + 1))) (st' := [.ref 1]) rfl rfl rfl rfl rfl rfl (args_v [.int (nI t)] [.ref 1] rfl rfl (Nat.le_of_ble_eq_true rfl) rfl hs2.1 (Nat.le_of_ble_eq_true rfl)) (rc_writesOf hs2 ((set_far (by decide)).trans hw) hq ht) ?_
  refine RQ.blk 2 (pc' := 44) (lv' := [(2, .int (nI l)), (0, .ref 1), (1, .int (nI t))]) (st' := [.int (-1), .int (nI l), .ref (b + 1), .ref 1]) (H' := _) (kc' := 0) (ks' := 0) rfl ?_
  have h2b : (H.set 1 (kO 5 [.ref 3, .int (nI 0)]))[2]? = some (kB 2000 f) := (set_far (by decide)).trans h2
  have h5b : (H.set 1 (kO 5 [.ref 3, .int (nI 0)]))[5]? = some (kO 5 [.ref 7, .int (nI q)]) := (set_far (by decide)).trans h5
  have h6b : (H.set 1 (kO 5 [.ref 3, .int (nI 0)]))[6]? = some (kB 41 g) := (set_far (by decide)).trans h6
  have hBb := hB.far (H' := (H.set 1 (kO 5 [.ref 3, .int (nI 0)]))) (fun a ha _ => set_far (by omega))
  refine RQ.callI (st' := []) rfl rfl rfl rfl rfl rfl (args_v [.int (-1), .int (nI l), .ref (b + 1)] [] rfl rfl (Nat.le_of_ble_eq_true rfl) rfl h0b (Nat.le_of_ble_eq_true rfl)) (ri_intendL (k := l) (v := none) h0b (get_set h1) h2b h5b h6b hBb hb hl2 (by show l + 0 ≤ 2000; omega) hwl hu hks hfit) (fun x H2 hx => ?_)
  obtain ⟨rfl, j1, j2, j3, j4⟩ := hx
  exact RQ.done (c := 0) (s := 0) rfl rfl rfl rfl ⟨_, _, rfl, rfl, j1, j2, j3, (j4 1 (by omega) (by decide) (by decide)).trans (get_set h1), fun a ha h5 h6 h9 => (j4 a ha h5 h6).trans (set_far h9)⟩
