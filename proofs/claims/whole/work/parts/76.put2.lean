/-! ===== put and delete: wrong arguments; the reference; written by wip/gen/put2.py ===== -/
/-- what put must be given -/
def putOk (x y : Int32) (l : Nat) : Prop := ∃ t k, x = nI t ∧ t < 8 ∧ y = nI k ∧ 1 ≤ k ∧ k ≤ 40 ∧ k ≤ l ∧ l - k ≤ 1000
theorem not7 {x : Int32} (h : nI 8 ≤ x) : ¬ x ≤ 7 := fun e => Int32.not_lt.mpr h ((le_pred (n := 7) (by decide)).mp e)
theorem k_of {y : Int32} {m : Nat} (hm : m < 2 ^ 31) (h : ¬ (y < 1 ∨ ¬ y ≤ nI m)) : ∃ k, y = nI k ∧ 1 ≤ k ∧ k ≤ m := by
  obtain ⟨k, h1, h2⟩ := nI_of2 (x := y) (M := nI m) (n := m) (nI_toInt hm) (fun e => h (Or.inl (Int32.lt_trans e (by decide)))) (Classical.not_not.mp (fun e => h (Or.inr e)))
  refine ⟨k, h2, ?_, h1⟩
  rcases Nat.eq_zero_or_pos k with e | e
  · exact absurd (Or.inl (by rw [h2, e]; decide)) h
  · exact e
theorem MRIs.far {H H' : aH} {wss : Nat → List aE} (h : MRIs H wss) (hs : ∀ a, 207 ≤ a ∧ a < 213 → H'[a]? = H[a]?) : MRIs H' wss := by
  obtain ⟨ro, fi, wk, wn, wz, wb, hA, hT⟩ := h
  exact ⟨ro, fi, wk, wn, wz, wb, ⟨(hs _ (by omega)).trans hA.1, (hs _ (by omega)).trans hA.2.1, (hs _ (by omega)).trans hA.2.2.1, (hs _ (by omega)).trans hA.2.2.2.1, (hs _ (by omega)).trans hA.2.2.2.2.1, (hs _ (by omega)).trans hA.2.2.2.2.2⟩, hT⟩
theorem rc_put_bad {sc : Nat × (Nat → Int32)} {d l : Nat} {H : aH} {bl pr up cw cl cp cb x y : Int32} (h0 : H[0]? = some (kO 11 (fvs bl pr up cw cl cp cb))) (h1 : H[1]? = some (kO 5 [.ref 3, .int (nI l)])) (hl : l ≤ 2000) (hbad : ¬ putOk x y l) : RC sc (d + 2) mr_33 [.ref 1, .int x, .int y] H (.inr 0) H 1 6 := by
  refine RP.blk 2 (pc' := 2) (lv' := [(0, .ref 1), (1, .int x), (2, .int y)]) (st' := [.int x, .ref 1]) (H' := _) (kc' := 0) (ks' := 0) rfl ?_
  rcases pk_ix x (n := 8) (by decide) with hx | hx | ⟨t, ht, rfl⟩
  ·
    exact RP.callP (st' := []) rfl rfl rfl rfl rfl rfl (args_v [.int x] [] rfl rfl (Nat.le_of_ble_eq_true rfl) rfl h0 (Nat.le_of_ble_eq_true rfl)) (rc_reqTxX h0 (Or.inl hx)) rfl
  ·
    exact RP.callP (st' := []) rfl rfl rfl rfl rfl rfl (args_v [.int x] [] rfl rfl (Nat.le_of_ble_eq_true rfl) rfl h0 (Nat.le_of_ble_eq_true rfl)) (rc_reqTxX h0 (Or.inr (not7 hx))) rfl
  ·
    refine RP.call (v := none) (st' := []) rfl rfl rfl rfl rfl rfl (args_v [.int (nI t)] [] rfl rfl (Nat.le_of_ble_eq_true rfl) rfl h0 (Nat.le_of_ble_eq_true rfl)) (rc_reqTx h0 ht) ?_
    refine RP.blk 5 (pc' := 11) (lv' := [(0, .ref 1), (1, .int (nI t)), (2, .int y)]) (st' := [.ref 1, .int 40, .int 1, .int y, .ref 1]) (H' := _) (kc' := 0) (ks' := 0) rfl ?_
    refine RP.get (ci := 11) rfl h0 rfl rfl ?_
    refine RP.get (ci := 5) rfl h1 rfl rfl ?_
    refine RP.blk 1 (pc' := 20) (lv' := [(0, .ref 1), (1, .int (nI t)), (2, .int y)]) (st' := [.int (if nI l < 40 then nI l else 40), .int 1, .int y, .ref 1]) (H' := _) (kc' := 0) (ks' := 0) rfl ?_
    rw [show (if nI l < 40 then nI l else 40 : Int32) = nI (min 40 l) from minI (a := 40) (b := l) (by omega) (by omega)]
    by_cases hy : y < 1 ∨ ¬ y ≤ nI (min 40 l)
    ·
      exact RP.callP (st' := []) rfl rfl rfl rfl rfl rfl (args_v [.int (nI (min 40 l)), .int 1, .int y] [] rfl rfl (Nat.le_of_ble_eq_true rfl) rfl h0 (Nat.le_of_ble_eq_true rfl)) (rc_rangeX hy) rfl
    · obtain ⟨k, rfl, hk1, hk2⟩ := k_of (by omega) hy
      refine RP.call (v := none) (st' := []) rfl rfl rfl rfl rfl rfl (args_v [.int (nI (min 40 l)), .int 1, .int (nI k)] [] rfl rfl (Nat.le_of_ble_eq_true rfl) rfl h0 (Nat.le_of_ble_eq_true rfl)) (rc_range (lo := 1) (nI_nlt (b := 1) (by omega) (by omega)) (nI_le (b := min 40 l) (by omega) (by omega))) ?_
      refine RP.blk 2 (pc' := 25) (lv' := [(0, .ref 1), (1, .int (nI t)), (2, .int (nI k))]) (st' := [.ref 1, .ref 1]) (H' := _) (kc' := 0) (ks' := 0) rfl ?_
      refine RP.get (ci := 11) rfl h0 rfl rfl ?_
      refine RP.get (ci := 5) rfl h1 rfl rfl ?_
      refine RP.blk 2 (pc' := 33) (lv' := [(0, .ref 1), (1, .int (nI t)), (2, .int (nI k))]) (st' := [.int (nI l - nI k), .ref 1]) (H' := _) (kc' := 0) (ks' := 0) rfl ?_
      rw [show (nI l - nI k : Int32) = nI (l - k) from pk_sub (a := l) (b := k) (by omega)]
      refine RP.blk 2 (pc' := 37) (lv' := [(0, .ref 1), (1, .int (nI t)), (2, .int (nI k))]) (st' := [.int 1000, .int 0, .int (nI (l - k)), .ref 1]) (H' := _) (kc' := 0) (ks' := 0) rfl ?_
      exact RP.callP (st' := []) rfl rfl rfl rfl rfl rfl (args_v [.int 1000, .int 0, .int (nI (l - k))] [] rfl rfl (Nat.le_of_ble_eq_true rfl) rfl h0 (Nat.le_of_ble_eq_true rfl)) (rc_rangeX (Or.inr (fun e => hbad ⟨t, k, rfl, ht, rfl, hk1, by omega, by omega, (nI_leI (b := 1000) (by omega) (by decide)).mp e⟩))) rfl
theorem rc_delete_bad {sc : Nat × (Nat → Int32)} {d l : Nat} {H : aH} {bl pr up cw cl cp cb x : Int32} (h0 : H[0]? = some (kO 11 (fvs bl pr up cw cl cp cb))) (h1 : H[1]? = some (kO 5 [.ref 3, .int (nI l)])) (hl : l ≤ 2000) (hbad : ¬ ((∃ t, x = nI t ∧ t < 8) ∧ 1 ≤ l ∧ l ≤ 40)) : RC sc (d + 2) mr_51 [.ref 1, .int x] H (.inr 0) H 1 6 := by
  refine RP.blk 2 (pc' := 2) (lv' := [(0, .ref 1), (1, .int x)]) (st' := [.int x, .ref 1]) (H' := _) (kc' := 0) (ks' := 0) rfl ?_
  rcases pk_ix x (n := 8) (by decide) with hx | hx | ⟨t, ht, rfl⟩
  ·
    exact RP.callP (st' := []) rfl rfl rfl rfl rfl rfl (args_v [.int x] [] rfl rfl (Nat.le_of_ble_eq_true rfl) rfl h0 (Nat.le_of_ble_eq_true rfl)) (rc_reqTxX h0 (Or.inl hx)) rfl
  ·
    exact RP.callP (st' := []) rfl rfl rfl rfl rfl rfl (args_v [.int x] [] rfl rfl (Nat.le_of_ble_eq_true rfl) rfl h0 (Nat.le_of_ble_eq_true rfl)) (rc_reqTxX h0 (Or.inr (not7 hx))) rfl
  ·
    refine RP.call (v := none) (st' := []) rfl rfl rfl rfl rfl rfl (args_v [.int (nI t)] [] rfl rfl (Nat.le_of_ble_eq_true rfl) rfl h0 (Nat.le_of_ble_eq_true rfl)) (rc_reqTx h0 ht) ?_
    refine RP.blk 2 (pc' := 7) (lv' := [(0, .ref 1), (1, .int (nI t))]) (st' := [.ref 1, .ref 1]) (H' := _) (kc' := 0) (ks' := 0) rfl ?_
    refine RP.get (ci := 11) rfl h0 rfl rfl ?_
    refine RP.get (ci := 5) rfl h1 rfl rfl ?_
    refine RP.blk 2 (pc' := 16) (lv' := [(0, .ref 1), (1, .int (nI t))]) (st' := [.int 40, .int 1, .int (nI l), .ref 1]) (H' := _) (kc' := 0) (ks' := 0) rfl ?_
    exact RP.callP (st' := []) rfl rfl rfl rfl rfl rfl (args_v [.int 40, .int 1, .int (nI l)] [] rfl rfl (Nat.le_of_ble_eq_true rfl) rfl h0 (Nat.le_of_ble_eq_true rfl)) (rc_rangeX (by rcases Nat.eq_zero_or_pos l with e | e; exact Or.inl (nI_lt (b := 1) (by omega) (by decide)); exact Or.inr (nI_ge (a := 40) (by have : ¬ (1 ≤ l ∧ l ≤ 40) := fun e2 => hbad ⟨⟨t, rfl, ht⟩, e2⟩; omega) (by omega)))) rfl
theorem rc_menterXL {sc : Nat × (Nat → Int32)} {d t n k : Nat} {op : Nat → Bool} {H : aH} {g : Nat → Int8} {v : Option Nat} {wss : Nat → List aE} {fa li dn cw cl rs pr ve us pi hu : Int32} {ba bo : Nat} (hm : H[195]? = some (kO 12 (mfs fa li dn cw cl (nI n) rs pr ve us pi hu ba bo))) (h : MRIs H wss) (h205 : H[205]? = some (kZ 8 op)) (h196 : H[196]? = some (kB 2000 g)) (ht : t < 8) (hop : op t = true) (hn : n = k + v.getD 0) (hn2 : n ≤ 2000) (hfit : ¬ ((dropK (wss t) (sl g 0 k)).length + 1 ≤ 32 ∧ eOff (dropK (wss t) (sl g 0 k)) (dropK (wss t) (sl g 0 k)).length + k + v.getD 0 ≤ 4000)) :
    RC sc (d + 2) mr_284 [.ref 196, .int (nI t), .int (nI k), .int (lI v)] H (.inl (some (.int 0))) (H.set 195 (kO 12 (mfs 4 li dn cw cl 0 rs pr ve us pi hu ba bo))) 0 0 := by
  obtain ⟨ro, fi, wk, wn, wz, wb, hA, hT⟩ := h
  have hTt := hT t ht
  have hk := hTt.ok ht
  obtain ⟨g1, g2, g3, g4, g5⟩ := hTt
  cases hix : ixK (wss t) (sl g 0 k) with
  | none =>
    have hd : dropK (wss t) (sl g 0 k) = wss t := by unfold dropK; rw [hix]
    rw [hd] at hfit
    refine rc_menterX_new (k := k) hm hA hk h205 h196 (by omega) hn2 hop (fun q hq e => by
      rw [g1] at hq
      have hg : (wss t)[q]? = some (wss t)[q] := List.getElem?_eq_getElem hq
      exact ixK_none hix q _ hg ((g5.key hg).symm.trans e)) ?_ (v := v)
    rcases Nat.lt_or_ge (wss t).length 32 with h8 | h8
    · exact Or.inr (by omega)
    · exact Or.inl (by omega)
  | some i =>
    have hd : dropK (wss t) (sl g 0 k) = (wss t).eraseIdx i := by unfold dropK; rw [hix]
    obtain ⟨⟨e0, hi0, he0⟩, hbef⟩ := ixK_some hix
    have hil : i < (wss t).length := (List.getElem?_eq_some_iff.mp hi0).1
    obtain ⟨q1, q2, q3, -⟩ := g5 i _ hi0
    dsimp only at q1 q2
    have hM : wn (32 * t + i) + (wz (32 * t + i)).getD 0 = eLen e0 := by
      rw [q2, eGet (E := fun i => wz (32 * t + i)) q3]
      rfl
    have h10 := eOff_erase_ge (j := (wss t).length - 1) hi0 (by omega)
    rw [show (wss t).length - 1 + 1 = (wss t).length by omega] at h10
    have hle := len_erase (ws := wss t) hil
    rw [hd, hle] at hfit
    exact rc_menterX_old (k := k) (i := i) hm hA hk h205 h196 (by omega) hn2 hop (by omega) ((g5.key hi0).trans he0) (fun q hq e => by
      have hg : (wss t)[q]? = some (wss t)[q] := List.getElem?_eq_getElem (by omega)
      exact hbef q _ hq hg ((g5.key hg).symm.trans e)) (by omega) (v := v)
theorem rc_mput_down {sc : Nat × (Nat → Int32)} {d t l k : Nat} {H : aH} {fa li cw cl rs pr ve us pi hu : Int32} {ba bo : Nat} (hm : H[195]? = some (kO 12 (mfs fa li 1 cw cl (nI l) rs pr ve us pi hu ba bo))) (ht : t < 8) (hk1 : 1 ≤ k) (hk2 : k ≤ 40) (hk3 : k ≤ l) (hk4 : l - k ≤ 1000) (hl : l ≤ 2000) : RC sc (d + 1) mr_283 [.ref 196, .int (nI t), .int (nI k)] H (.inl (some (.int 0))) (H.set 195 (kO 12 (mfs 2 li 1 cw cl (nI l) rs pr ve us pi hu ba bo))) 0 0 := by
  refine RP.blk 2 (pc' := 2) (lv' := [(0, .ref 196), (1, .int (nI t)), (2, .int (nI k))]) (st' := [.int 0, .ref 196]) (H' := _) (kc' := 0) (ks' := 0) rfl ?_
  refine RP.put (ci := 12) rfl hm rfl rfl (Nat.le_of_ble_eq_true rfl) ?_
  refine RP.blk 3 (pc' := 9) (lv' := [(0, .ref 196), (1, .int (nI t)), (2, .int (nI k))]) (st' := [.int 8, .int (nI t), .ref 196]) (H' := _) (kc' := 0) (ks' := 0) rfl ?_
  refine RP.call (v := some (.int 0)) (st' := []) rfl rfl rfl rfl rfl rfl (args_v [.int 8, .int (nI t)] [] rfl rfl (Nat.le_of_ble_eq_true rfl) rfl (get_set hm) (Nat.le_of_ble_eq_true rfl)) (rc_out (v := t) (m := 8) ht (by decide)) ?_
  refine RP.brF rfl rfl rfl (by decide) ?_
  refine RP.blk 2 (pc' := 17) (lv' := [(0, .ref 196), (1, .int (nI t)), (2, .int (nI k))]) (st' := [.int 1, .int (nI k)]) (H' := _) (kc' := 0) (ks' := 0) rfl ?_
  refine RP.brF rfl rfl rfl (cF_lt k 1) ?_
  refine RP.blk 2 (pc' := 23) (lv' := [(0, .ref 196), (1, .int (nI t)), (2, .int (nI k))]) (st' := [.int 40, .int (nI k)]) (H' := _) (kc' := 0) (ks' := 0) rfl ?_
  refine RP.brF rfl rfl rfl (cF_gt k 40) ?_
  refine RP.blk 1 (pc' := 27) (lv' := [(0, .ref 196), (1, .int (nI t)), (2, .int (nI k))]) (st' := [.ref 196]) (H' := _) (kc' := 0) (ks' := 0) rfl ?_
  refine RP.get (ci := 12) rfl (get_set hm) rfl rfl ?_
  refine RP.blk 1 (pc' := 31) (lv' := [(0, .ref 196), (1, .int (nI t)), (2, .int (nI k))]) (st' := [.int (nI k), .int (nI l)]) (H' := _) (kc' := 0) (ks' := 0) rfl ?_
  refine RP.brF rfl rfl rfl (cF_lt l k) ?_
  refine RP.blk 1 (pc' := 35) (lv' := [(0, .ref 196), (1, .int (nI t)), (2, .int (nI k))]) (st' := [.ref 196]) (H' := _) (kc' := 0) (ks' := 0) rfl ?_
  refine RP.get (ci := 12) rfl (get_set hm) rfl rfl ?_
  refine RP.blk 2 (pc' := 40) (lv' := [(0, .ref 196), (1, .int (nI t)), (2, .int (nI k))]) (st' := [.int (nI l - nI k)]) (H' := _) (kc' := 0) (ks' := 0) rfl ?_
  rw [show (nI l - nI k : Int32) = nI (l - k) from pk_sub (a := l) (b := k) (by omega)]
  refine RP.blk 1 (pc' := 43) (lv' := [(0, .ref 196), (1, .int (nI t)), (2, .int (nI k))]) (st' := [.int 1000, .int (nI (l - k))]) (H' := _) (kc' := 0) (ks' := 0) rfl ?_
  refine RP.brT rfl rfl rfl (cT_le (l - k) 1000) ?_
  refine RP.blk 1 (pc' := 53) (lv' := [(0, .ref 196), (1, .int (nI t)), (2, .int (nI k))]) (st' := [.ref 196]) (H' := _) (kc' := 0) (ks' := 0) rfl ?_
  refine RP.get (ci := 12) rfl (get_set hm) rfl rfl ?_
  refine RP.brF rfl rfl rfl (by decide) ?_
  refine RP.blk 2 (pc' := 61) (lv' := [(0, .ref 196), (1, .int (nI t)), (2, .int (nI k))]) (st' := [.int 2, .ref 196]) (H' := _) (kc' := 0) (ks' := 0) rfl ?_
  refine RP.call (v := some (.int 0)) (st' := []) rfl rfl rfl rfl rfl rfl (args_v [.int 2] [] rfl rfl (Nat.le_of_ble_eq_true rfl) rfl (get_set hm) (Nat.le_of_ble_eq_true rfl)) (rc_mfail (get_set hm) rfl) ?_
  rw [set_set]
  exact RP.done (c := 0) (s := 0) rfl rfl rfl rfl
theorem rc_mput_closed {sc : Nat × (Nat → Int32)} {d t l k : Nat} {op : Nat → Bool} {H : aH} {fa li cw cl rs pr ve us pi hu : Int32} {ba bo : Nat} (hm : H[195]? = some (kO 12 (mfs fa li 0 cw cl (nI l) rs pr ve us pi hu ba bo))) (ht : t < 8) (hk1 : 1 ≤ k) (hk2 : k ≤ 40) (hk3 : k ≤ l) (hk4 : l - k ≤ 1000) (hl : l ≤ 2000) (h205 : H[205]? = some (kZ 8 op)) (hop : op t = false) : RC sc (d + 2) mr_283 [.ref 196, .int (nI t), .int (nI k)] H (.inl (some (.int 0))) (H.set 195 (kO 12 (mfs 3 li 0 cw cl 0 rs pr ve us pi hu ba bo))) 0 0 := by
  refine RP.blk 2 (pc' := 2) (lv' := [(0, .ref 196), (1, .int (nI t)), (2, .int (nI k))]) (st' := [.int 0, .ref 196]) (H' := _) (kc' := 0) (ks' := 0) rfl ?_
  refine RP.put (ci := 12) rfl hm rfl rfl (Nat.le_of_ble_eq_true rfl) ?_
  refine RP.blk 3 (pc' := 9) (lv' := [(0, .ref 196), (1, .int (nI t)), (2, .int (nI k))]) (st' := [.int 8, .int (nI t), .ref 196]) (H' := _) (kc' := 0) (ks' := 0) rfl ?_
  refine RP.call (v := some (.int 0)) (st' := []) rfl rfl rfl rfl rfl rfl (args_v [.int 8, .int (nI t)] [] rfl rfl (Nat.le_of_ble_eq_true rfl) rfl (get_set hm) (Nat.le_of_ble_eq_true rfl)) (rc_out (v := t) (m := 8) ht (by decide)) ?_
  refine RP.brF rfl rfl rfl (by decide) ?_
  refine RP.blk 2 (pc' := 17) (lv' := [(0, .ref 196), (1, .int (nI t)), (2, .int (nI k))]) (st' := [.int 1, .int (nI k)]) (H' := _) (kc' := 0) (ks' := 0) rfl ?_
  refine RP.brF rfl rfl rfl (cF_lt k 1) ?_
  refine RP.blk 2 (pc' := 23) (lv' := [(0, .ref 196), (1, .int (nI t)), (2, .int (nI k))]) (st' := [.int 40, .int (nI k)]) (H' := _) (kc' := 0) (ks' := 0) rfl ?_
  refine RP.brF rfl rfl rfl (cF_gt k 40) ?_
  refine RP.blk 1 (pc' := 27) (lv' := [(0, .ref 196), (1, .int (nI t)), (2, .int (nI k))]) (st' := [.ref 196]) (H' := _) (kc' := 0) (ks' := 0) rfl ?_
  refine RP.get (ci := 12) rfl (get_set hm) rfl rfl ?_
  refine RP.blk 1 (pc' := 31) (lv' := [(0, .ref 196), (1, .int (nI t)), (2, .int (nI k))]) (st' := [.int (nI k), .int (nI l)]) (H' := _) (kc' := 0) (ks' := 0) rfl ?_
  refine RP.brF rfl rfl rfl (cF_lt l k) ?_
  refine RP.blk 1 (pc' := 35) (lv' := [(0, .ref 196), (1, .int (nI t)), (2, .int (nI k))]) (st' := [.ref 196]) (H' := _) (kc' := 0) (ks' := 0) rfl ?_
  refine RP.get (ci := 12) rfl (get_set hm) rfl rfl ?_
  refine RP.blk 2 (pc' := 40) (lv' := [(0, .ref 196), (1, .int (nI t)), (2, .int (nI k))]) (st' := [.int (nI l - nI k)]) (H' := _) (kc' := 0) (ks' := 0) rfl ?_
  rw [show (nI l - nI k : Int32) = nI (l - k) from pk_sub (a := l) (b := k) (by omega)]
  refine RP.blk 1 (pc' := 43) (lv' := [(0, .ref 196), (1, .int (nI t)), (2, .int (nI k))]) (st' := [.int 1000, .int (nI (l - k))]) (H' := _) (kc' := 0) (ks' := 0) rfl ?_
  refine RP.brT rfl rfl rfl (cT_le (l - k) 1000) ?_
  refine RP.blk 1 (pc' := 53) (lv' := [(0, .ref 196), (1, .int (nI t)), (2, .int (nI k))]) (st' := [.ref 196]) (H' := _) (kc' := 0) (ks' := 0) rfl ?_
  refine RP.get (ci := 12) rfl (get_set hm) rfl rfl ?_
  refine RP.brT rfl rfl rfl (by decide) ?_
  refine RP.blk 4 (pc' := 69) (lv' := [(0, .ref 196), (1, .int (nI t)), (2, .int (nI k))]) (st' := [.ref 196, .int (nI k), .int (nI t), .ref 196]) (H' := _) (kc' := 0) (ks' := 0) rfl ?_
  refine RP.get (ci := 12) rfl (get_set hm) rfl rfl ?_
  refine RP.blk 2 (pc' := 74) (lv' := [(0, .ref 196), (1, .int (nI t)), (2, .int (nI k))]) (st' := [.int (nI l - nI k), .int (nI k), .int (nI t), .ref 196]) (H' := _) (kc' := 0) (ks' := 0) rfl ?_
  rw [show (nI l - nI k : Int32) = nI (l - k) from pk_sub (a := l) (b := k) (by omega)]
  have hm1 : (H.set 195 (kO 12 (mfs 0 li 0 cw cl (nI l) rs pr ve us pi hu ba bo)))[195]? = _ := get_set hm
  refine RP.call (v := some (.int 0)) (st' := []) rfl rfl rfl rfl rfl rfl (args_v [.int (nI (l - k)), .int (nI k), .int (nI t)] [] rfl rfl (Nat.le_of_ble_eq_true rfl) rfl (get_set hm) (Nat.le_of_ble_eq_true rfl)) (rc_menter_closed (n := l) (k := k) (v := (some (l - k))) hm1 ht ((set_far (by decide)).trans h205) hop) ?_
  rw [set_set]
  exact RP.done (c := 0) (s := 0) rfl rfl rfl rfl
theorem rc_mput_full {sc : Nat × (Nat → Int32)} {d t l k : Nat} {op : Nat → Bool} {H : aH} {g : Nat → Int8} {wss : Nat → List aE} {fa li cw cl rs pr ve us pi hu : Int32} {ba bo : Nat} (hm : H[195]? = some (kO 12 (mfs fa li 0 cw cl (nI l) rs pr ve us pi hu ba bo))) (ht : t < 8) (hk1 : 1 ≤ k) (hk2 : k ≤ 40) (hk3 : k ≤ l) (hk4 : l - k ≤ 1000) (hl : l ≤ 2000) (h : MRIs H wss) (h205 : H[205]? = some (kZ 8 op)) (h196 : H[196]? = some (kB 2000 g)) (hop : op t = true) (hfit : ¬ ((dropK (wss t) (sl g 0 k)).length + 1 ≤ 32 ∧ eOff (dropK (wss t) (sl g 0 k)) (dropK (wss t) (sl g 0 k)).length + k + (some (l - k)).getD 0 ≤ 4000)) : RC sc (d + 3) mr_283 [.ref 196, .int (nI t), .int (nI k)] H (.inl (some (.int 0))) (H.set 195 (kO 12 (mfs 4 li 0 cw cl 0 rs pr ve us pi hu ba bo))) 0 0 := by
  refine RP.blk 2 (pc' := 2) (lv' := [(0, .ref 196), (1, .int (nI t)), (2, .int (nI k))]) (st' := [.int 0, .ref 196]) (H' := _) (kc' := 0) (ks' := 0) rfl ?_
  refine RP.put (ci := 12) rfl hm rfl rfl (Nat.le_of_ble_eq_true rfl) ?_
  refine RP.blk 3 (pc' := 9) (lv' := [(0, .ref 196), (1, .int (nI t)), (2, .int (nI k))]) (st' := [.int 8, .int (nI t), .ref 196]) (H' := _) (kc' := 0) (ks' := 0) rfl ?_
  refine RP.call (v := some (.int 0)) (st' := []) rfl rfl rfl rfl rfl rfl (args_v [.int 8, .int (nI t)] [] rfl rfl (Nat.le_of_ble_eq_true rfl) rfl (get_set hm) (Nat.le_of_ble_eq_true rfl)) (rc_out (v := t) (m := 8) ht (by decide)) ?_
  refine RP.brF rfl rfl rfl (by decide) ?_
  refine RP.blk 2 (pc' := 17) (lv' := [(0, .ref 196), (1, .int (nI t)), (2, .int (nI k))]) (st' := [.int 1, .int (nI k)]) (H' := _) (kc' := 0) (ks' := 0) rfl ?_
  refine RP.brF rfl rfl rfl (cF_lt k 1) ?_
  refine RP.blk 2 (pc' := 23) (lv' := [(0, .ref 196), (1, .int (nI t)), (2, .int (nI k))]) (st' := [.int 40, .int (nI k)]) (H' := _) (kc' := 0) (ks' := 0) rfl ?_
  refine RP.brF rfl rfl rfl (cF_gt k 40) ?_
  refine RP.blk 1 (pc' := 27) (lv' := [(0, .ref 196), (1, .int (nI t)), (2, .int (nI k))]) (st' := [.ref 196]) (H' := _) (kc' := 0) (ks' := 0) rfl ?_
  refine RP.get (ci := 12) rfl (get_set hm) rfl rfl ?_
  refine RP.blk 1 (pc' := 31) (lv' := [(0, .ref 196), (1, .int (nI t)), (2, .int (nI k))]) (st' := [.int (nI k), .int (nI l)]) (H' := _) (kc' := 0) (ks' := 0) rfl ?_
  refine RP.brF rfl rfl rfl (cF_lt l k) ?_
  refine RP.blk 1 (pc' := 35) (lv' := [(0, .ref 196), (1, .int (nI t)), (2, .int (nI k))]) (st' := [.ref 196]) (H' := _) (kc' := 0) (ks' := 0) rfl ?_
  refine RP.get (ci := 12) rfl (get_set hm) rfl rfl ?_
  refine RP.blk 2 (pc' := 40) (lv' := [(0, .ref 196), (1, .int (nI t)), (2, .int (nI k))]) (st' := [.int (nI l - nI k)]) (H' := _) (kc' := 0) (ks' := 0) rfl ?_
  rw [show (nI l - nI k : Int32) = nI (l - k) from pk_sub (a := l) (b := k) (by omega)]
  refine RP.blk 1 (pc' := 43) (lv' := [(0, .ref 196), (1, .int (nI t)), (2, .int (nI k))]) (st' := [.int 1000, .int (nI (l - k))]) (H' := _) (kc' := 0) (ks' := 0) rfl ?_
  refine RP.brT rfl rfl rfl (cT_le (l - k) 1000) ?_
  refine RP.blk 1 (pc' := 53) (lv' := [(0, .ref 196), (1, .int (nI t)), (2, .int (nI k))]) (st' := [.ref 196]) (H' := _) (kc' := 0) (ks' := 0) rfl ?_
  refine RP.get (ci := 12) rfl (get_set hm) rfl rfl ?_
  refine RP.brT rfl rfl rfl (by decide) ?_
  refine RP.blk 4 (pc' := 69) (lv' := [(0, .ref 196), (1, .int (nI t)), (2, .int (nI k))]) (st' := [.ref 196, .int (nI k), .int (nI t), .ref 196]) (H' := _) (kc' := 0) (ks' := 0) rfl ?_
  refine RP.get (ci := 12) rfl (get_set hm) rfl rfl ?_
  refine RP.blk 2 (pc' := 74) (lv' := [(0, .ref 196), (1, .int (nI t)), (2, .int (nI k))]) (st' := [.int (nI l - nI k), .int (nI k), .int (nI t), .ref 196]) (H' := _) (kc' := 0) (ks' := 0) rfl ?_
  rw [show (nI l - nI k : Int32) = nI (l - k) from pk_sub (a := l) (b := k) (by omega)]
  have hm1 : (H.set 195 (kO 12 (mfs 0 li 0 cw cl (nI l) rs pr ve us pi hu ba bo)))[195]? = _ := get_set hm
  have hR : MRIs (H.set 195 (kO 12 (mfs 0 li 0 cw cl (nI l) rs pr ve us pi hu ba bo))) wss := h.far (fun a ha => set_far (by omega))
  refine RP.call (v := some (.int 0)) (st' := []) rfl rfl rfl rfl rfl rfl (args_v [.int (nI (l - k)), .int (nI k), .int (nI t)] [] rfl rfl (Nat.le_of_ble_eq_true rfl) rfl (get_set hm) (Nat.le_of_ble_eq_true rfl)) (rc_menterXL (n := l) (k := k) (v := (some (l - k))) hm1 hR ((set_far (by decide)).trans h205) ((set_far (by decide)).trans h196) ht hop (show l = k + (l - k) by omega) (by omega) hfit) ?_
  rw [set_set]
  exact RP.done (c := 0) (s := 0) rfl rfl rfl rfl
theorem ri_mput {sc : Nat × (Nat → Int32)} {d t l k : Nat} {op : Nat → Bool} {H : aH} {g : Nat → Int8} {wss : Nat → List aE} {fa li cw cl rs pr ve us pi hu : Int32} {ba bo : Nat} (hm : H[195]? = some (kO 12 (mfs fa li 0 cw cl (nI l) rs pr ve us pi hu ba bo))) (ht : t < 8) (hk1 : 1 ≤ k) (hk2 : k ≤ 40) (hk3 : k ≤ l) (hk4 : l - k ≤ 1000) (hl : l ≤ 2000) (h : MRIs H wss) (h205 : H[205]? = some (kZ 8 op)) (h196 : H[196]? = some (kB 2000 g)) (hop : op t = true) (hfit : (dropK (wss t) (sl g 0 k)).length + 1 ≤ 32 ∧ eOff (dropK (wss t) (sl g 0 k)) (dropK (wss t) (sl g 0 k)).length + k + (some (l - k)).getD 0 ≤ 4000) : RI sc (d + 3) mr_283 [.ref 196, .int (nI t), .int (nI k)] H (fun x H' => x = nI ((dropK (wss t) (sl g 0 k)).length + 1) ∧ MRIs H' (va_up wss t (dropK (wss t) (sl g 0 k) ++ [(sl g 0 k, some (sl g k (l - k)))])) ∧ H'[195]? = some (kO 12 (mfs 0 li 0 cw cl 0 rs pr ve us pi hu ba bo)) ∧ ∀ a, ¬ (207 ≤ a ∧ a < 213) → a ≠ 195 → H'[a]? = H[a]?) := by
  refine RI.of ?_
  refine RQ.blk 2 (pc' := 2) (lv' := [(0, .ref 196), (1, .int (nI t)), (2, .int (nI k))]) (st' := [.int 0, .ref 196]) (H' := _) (kc' := 0) (ks' := 0) rfl ?_
  refine RQ.put (ci := 12) rfl hm rfl rfl (Nat.le_of_ble_eq_true rfl) ?_
  refine RQ.blk 3 (pc' := 9) (lv' := [(0, .ref 196), (1, .int (nI t)), (2, .int (nI k))]) (st' := [.int 8, .int (nI t), .ref 196]) (H' := _) (kc' := 0) (ks' := 0) rfl ?_
  refine RQ.call (v := some (.int 0)) (st' := []) rfl rfl rfl rfl rfl rfl (args_v [.int 8, .int (nI t)] [] rfl rfl (Nat.le_of_ble_eq_true rfl) rfl (get_set hm) (Nat.le_of_ble_eq_true rfl)) (rc_out (v := t) (m := 8) ht (by decide)) ?_
  refine RQ.brF rfl rfl rfl (by decide) ?_
  refine RQ.blk 2 (pc' := 17) (lv' := [(0, .ref 196), (1, .int (nI t)), (2, .int (nI k))]) (st' := [.int 1, .int (nI k)]) (H' := _) (kc' := 0) (ks' := 0) rfl ?_
  refine RQ.brF rfl rfl rfl (cF_lt k 1) ?_
  refine RQ.blk 2 (pc' := 23) (lv' := [(0, .ref 196), (1, .int (nI t)), (2, .int (nI k))]) (st' := [.int 40, .int (nI k)]) (H' := _) (kc' := 0) (ks' := 0) rfl ?_
  refine RQ.brF rfl rfl rfl (cF_gt k 40) ?_
  refine RQ.blk 1 (pc' := 27) (lv' := [(0, .ref 196), (1, .int (nI t)), (2, .int (nI k))]) (st' := [.ref 196]) (H' := _) (kc' := 0) (ks' := 0) rfl ?_
  refine RQ.get (ci := 12) rfl (get_set hm) rfl rfl ?_
  refine RQ.blk 1 (pc' := 31) (lv' := [(0, .ref 196), (1, .int (nI t)), (2, .int (nI k))]) (st' := [.int (nI k), .int (nI l)]) (H' := _) (kc' := 0) (ks' := 0) rfl ?_
  refine RQ.brF rfl rfl rfl (cF_lt l k) ?_
  refine RQ.blk 1 (pc' := 35) (lv' := [(0, .ref 196), (1, .int (nI t)), (2, .int (nI k))]) (st' := [.ref 196]) (H' := _) (kc' := 0) (ks' := 0) rfl ?_
  refine RQ.get (ci := 12) rfl (get_set hm) rfl rfl ?_
  refine RQ.blk 2 (pc' := 40) (lv' := [(0, .ref 196), (1, .int (nI t)), (2, .int (nI k))]) (st' := [.int (nI l - nI k)]) (H' := _) (kc' := 0) (ks' := 0) rfl ?_
  rw [show (nI l - nI k : Int32) = nI (l - k) from pk_sub (a := l) (b := k) (by omega)]
  refine RQ.blk 1 (pc' := 43) (lv' := [(0, .ref 196), (1, .int (nI t)), (2, .int (nI k))]) (st' := [.int 1000, .int (nI (l - k))]) (H' := _) (kc' := 0) (ks' := 0) rfl ?_
  refine RQ.brT rfl rfl rfl (cT_le (l - k) 1000) ?_
  refine RQ.blk 1 (pc' := 53) (lv' := [(0, .ref 196), (1, .int (nI t)), (2, .int (nI k))]) (st' := [.ref 196]) (H' := _) (kc' := 0) (ks' := 0) rfl ?_
  refine RQ.get (ci := 12) rfl (get_set hm) rfl rfl ?_
  refine RQ.brT rfl rfl rfl (by decide) ?_
  refine RQ.blk 4 (pc' := 69) (lv' := [(0, .ref 196), (1, .int (nI t)), (2, .int (nI k))]) (st' := [.ref 196, .int (nI k), .int (nI t), .ref 196]) (H' := _) (kc' := 0) (ks' := 0) rfl ?_
  refine RQ.get (ci := 12) rfl (get_set hm) rfl rfl ?_
  refine RQ.blk 2 (pc' := 74) (lv' := [(0, .ref 196), (1, .int (nI t)), (2, .int (nI k))]) (st' := [.int (nI l - nI k), .int (nI k), .int (nI t), .ref 196]) (H' := _) (kc' := 0) (ks' := 0) rfl ?_
  rw [show (nI l - nI k : Int32) = nI (l - k) from pk_sub (a := l) (b := k) (by omega)]
  have hm1 : (H.set 195 (kO 12 (mfs 0 li 0 cw cl (nI l) rs pr ve us pi hu ba bo)))[195]? = _ := get_set hm
  have hR : MRIs (H.set 195 (kO 12 (mfs 0 li 0 cw cl (nI l) rs pr ve us pi hu ba bo))) wss := h.far (fun a ha => set_far (by omega))
  refine RQ.callI (st' := []) rfl rfl rfl rfl rfl rfl (args_v [.int (nI (l - k)), .int (nI k), .int (nI t)] [] rfl rfl (Nat.le_of_ble_eq_true rfl) rfl (get_set hm) (Nat.le_of_ble_eq_true rfl)) (ri_menterL (n := l) (k := k) (v := (some (l - k))) hm1 hR ((set_far (by decide)).trans h205) ((set_far (by decide)).trans h196) ht hop (show l = k + (l - k) by omega) (by omega) hfit) (fun x H2 hx => ?_)
  obtain ⟨rfl, j1, j2, j3⟩ := hx
  exact RQ.done (c := 0) (s := 0) rfl rfl rfl rfl ⟨_, _, rfl, rfl, j1, j2, fun a ha h9 => (j3 a ha h9).trans (set_far h9)⟩
theorem rc_mdelete_down {sc : Nat × (Nat → Int32)} {d t l : Nat} {H : aH} {fa li cw cl rs pr ve us pi hu : Int32} {ba bo : Nat} (hm : H[195]? = some (kO 12 (mfs fa li 1 cw cl (nI l) rs pr ve us pi hu ba bo))) (ht : t < 8) (hl1 : 1 ≤ l) (hl2 : l ≤ 40) : RC sc (d + 1) mr_288 [.ref 196, .int (nI t)] H (.inl (some (.int 0))) (H.set 195 (kO 12 (mfs 2 li 1 cw cl (nI l) rs pr ve us pi hu ba bo))) 0 0 := by
  refine RP.blk 2 (pc' := 2) (lv' := [(0, .ref 196), (1, .int (nI t))]) (st' := [.int 0, .ref 196]) (H' := _) (kc' := 0) (ks' := 0) rfl ?_
  refine RP.put (ci := 12) rfl hm rfl rfl (Nat.le_of_ble_eq_true rfl) ?_
  refine RP.blk 3 (pc' := 9) (lv' := [(0, .ref 196), (1, .int (nI t))]) (st' := [.int 8, .int (nI t), .ref 196]) (H' := _) (kc' := 0) (ks' := 0) rfl ?_
  refine RP.call (v := some (.int 0)) (st' := []) rfl rfl rfl rfl rfl rfl (args_v [.int 8, .int (nI t)] [] rfl rfl (Nat.le_of_ble_eq_true rfl) rfl (get_set hm) (Nat.le_of_ble_eq_true rfl)) (rc_out (v := t) (m := 8) ht (by decide)) ?_
  refine RP.brF rfl rfl rfl (by decide) ?_
  refine RP.blk 1 (pc' := 16) (lv' := [(0, .ref 196), (1, .int (nI t))]) (st' := [.ref 196]) (H' := _) (kc' := 0) (ks' := 0) rfl ?_
  refine RP.get (ci := 12) rfl (get_set hm) rfl rfl ?_
  refine RP.blk 1 (pc' := 20) (lv' := [(0, .ref 196), (1, .int (nI t))]) (st' := [.int 1, .int (nI l)]) (H' := _) (kc' := 0) (ks' := 0) rfl ?_
  refine RP.brF rfl rfl rfl (cF_lt l 1) ?_
  refine RP.blk 1 (pc' := 24) (lv' := [(0, .ref 196), (1, .int (nI t))]) (st' := [.ref 196]) (H' := _) (kc' := 0) (ks' := 0) rfl ?_
  refine RP.get (ci := 12) rfl (get_set hm) rfl rfl ?_
  refine RP.blk 1 (pc' := 29) (lv' := [(0, .ref 196), (1, .int (nI t))]) (st' := [.int 40, .int (nI l)]) (H' := _) (kc' := 0) (ks' := 0) rfl ?_
  refine RP.brT rfl rfl rfl (cT_le l 40) ?_
  refine RP.blk 1 (pc' := 39) (lv' := [(0, .ref 196), (1, .int (nI t))]) (st' := [.ref 196]) (H' := _) (kc' := 0) (ks' := 0) rfl ?_
  refine RP.get (ci := 12) rfl (get_set hm) rfl rfl ?_
  refine RP.brF rfl rfl rfl (by decide) ?_
  refine RP.blk 2 (pc' := 47) (lv' := [(0, .ref 196), (1, .int (nI t))]) (st' := [.int 2, .ref 196]) (H' := _) (kc' := 0) (ks' := 0) rfl ?_
  refine RP.call (v := some (.int 0)) (st' := []) rfl rfl rfl rfl rfl rfl (args_v [.int 2] [] rfl rfl (Nat.le_of_ble_eq_true rfl) rfl (get_set hm) (Nat.le_of_ble_eq_true rfl)) (rc_mfail (get_set hm) rfl) ?_
  rw [set_set]
  exact RP.done (c := 0) (s := 0) rfl rfl rfl rfl
theorem rc_mdelete_closed {sc : Nat × (Nat → Int32)} {d t l : Nat} {op : Nat → Bool} {H : aH} {fa li cw cl rs pr ve us pi hu : Int32} {ba bo : Nat} (hm : H[195]? = some (kO 12 (mfs fa li 0 cw cl (nI l) rs pr ve us pi hu ba bo))) (ht : t < 8) (hl1 : 1 ≤ l) (hl2 : l ≤ 40) (h205 : H[205]? = some (kZ 8 op)) (hop : op t = false) : RC sc (d + 2) mr_288 [.ref 196, .int (nI t)] H (.inl (some (.int 0))) (H.set 195 (kO 12 (mfs 3 li 0 cw cl 0 rs pr ve us pi hu ba bo))) 0 0 := by
  refine RP.blk 2 (pc' := 2) (lv' := [(0, .ref 196), (1, .int (nI t))]) (st' := [.int 0, .ref 196]) (H' := _) (kc' := 0) (ks' := 0) rfl ?_
  refine RP.put (ci := 12) rfl hm rfl rfl (Nat.le_of_ble_eq_true rfl) ?_
  refine RP.blk 3 (pc' := 9) (lv' := [(0, .ref 196), (1, .int (nI t))]) (st' := [.int 8, .int (nI t), .ref 196]) (H' := _) (kc' := 0) (ks' := 0) rfl ?_
  refine RP.call (v := some (.int 0)) (st' := []) rfl rfl rfl rfl rfl rfl (args_v [.int 8, .int (nI t)] [] rfl rfl (Nat.le_of_ble_eq_true rfl) rfl (get_set hm) (Nat.le_of_ble_eq_true rfl)) (rc_out (v := t) (m := 8) ht (by decide)) ?_
  refine RP.brF rfl rfl rfl (by decide) ?_
  refine RP.blk 1 (pc' := 16) (lv' := [(0, .ref 196), (1, .int (nI t))]) (st' := [.ref 196]) (H' := _) (kc' := 0) (ks' := 0) rfl ?_
  refine RP.get (ci := 12) rfl (get_set hm) rfl rfl ?_
  refine RP.blk 1 (pc' := 20) (lv' := [(0, .ref 196), (1, .int (nI t))]) (st' := [.int 1, .int (nI l)]) (H' := _) (kc' := 0) (ks' := 0) rfl ?_
  refine RP.brF rfl rfl rfl (cF_lt l 1) ?_
  refine RP.blk 1 (pc' := 24) (lv' := [(0, .ref 196), (1, .int (nI t))]) (st' := [.ref 196]) (H' := _) (kc' := 0) (ks' := 0) rfl ?_
  refine RP.get (ci := 12) rfl (get_set hm) rfl rfl ?_
  refine RP.blk 1 (pc' := 29) (lv' := [(0, .ref 196), (1, .int (nI t))]) (st' := [.int 40, .int (nI l)]) (H' := _) (kc' := 0) (ks' := 0) rfl ?_
  refine RP.brT rfl rfl rfl (cT_le l 40) ?_
  refine RP.blk 1 (pc' := 39) (lv' := [(0, .ref 196), (1, .int (nI t))]) (st' := [.ref 196]) (H' := _) (kc' := 0) (ks' := 0) rfl ?_
  refine RP.get (ci := 12) rfl (get_set hm) rfl rfl ?_
  refine RP.brT rfl rfl rfl (by decide) ?_
  refine RP.blk 3 (pc' := 54) (lv' := [(0, .ref 196), (1, .int (nI t))]) (st' := [.ref 196, .int (nI t), .ref 196]) (H' := _) (kc' := 0) (ks' := 0) rfl ?_
  refine RP.get (ci := 12) rfl (get_set hm) rfl rfl ?_
  refine RP.blk 1 (pc' := 58) (lv' := [(0, .ref 196), (1, .int (nI t))]) (st' := [.int (-1), .int (nI l), .int (nI t), .ref 196]) (H' := _) (kc' := 0) (ks' := 0) rfl ?_
  have hm1 : (H.set 195 (kO 12 (mfs 0 li 0 cw cl (nI l) rs pr ve us pi hu ba bo)))[195]? = _ := get_set hm
  refine RP.call (v := some (.int 0)) (st' := []) rfl rfl rfl rfl rfl rfl (args_v [.int (-1), .int (nI l), .int (nI t)] [] rfl rfl (Nat.le_of_ble_eq_true rfl) rfl (get_set hm) (Nat.le_of_ble_eq_true rfl)) (rc_menter_closed (n := l) (k := l) (v := none) hm1 ht ((set_far (by decide)).trans h205) hop) ?_
  rw [set_set]
  exact RP.done (c := 0) (s := 0) rfl rfl rfl rfl
theorem rc_mdelete_full {sc : Nat × (Nat → Int32)} {d t l : Nat} {op : Nat → Bool} {H : aH} {g : Nat → Int8} {wss : Nat → List aE} {fa li cw cl rs pr ve us pi hu : Int32} {ba bo : Nat} (hm : H[195]? = some (kO 12 (mfs fa li 0 cw cl (nI l) rs pr ve us pi hu ba bo))) (ht : t < 8) (hl1 : 1 ≤ l) (hl2 : l ≤ 40) (h : MRIs H wss) (h205 : H[205]? = some (kZ 8 op)) (h196 : H[196]? = some (kB 2000 g)) (hop : op t = true) (hfit : ¬ ((dropK (wss t) (sl g 0 l)).length + 1 ≤ 32 ∧ eOff (dropK (wss t) (sl g 0 l)) (dropK (wss t) (sl g 0 l)).length + l + (none : Option Nat).getD 0 ≤ 4000)) : RC sc (d + 3) mr_288 [.ref 196, .int (nI t)] H (.inl (some (.int 0))) (H.set 195 (kO 12 (mfs 4 li 0 cw cl 0 rs pr ve us pi hu ba bo))) 0 0 := by
  refine RP.blk 2 (pc' := 2) (lv' := [(0, .ref 196), (1, .int (nI t))]) (st' := [.int 0, .ref 196]) (H' := _) (kc' := 0) (ks' := 0) rfl ?_
  refine RP.put (ci := 12) rfl hm rfl rfl (Nat.le_of_ble_eq_true rfl) ?_
  refine RP.blk 3 (pc' := 9) (lv' := [(0, .ref 196), (1, .int (nI t))]) (st' := [.int 8, .int (nI t), .ref 196]) (H' := _) (kc' := 0) (ks' := 0) rfl ?_
  refine RP.call (v := some (.int 0)) (st' := []) rfl rfl rfl rfl rfl rfl (args_v [.int 8, .int (nI t)] [] rfl rfl (Nat.le_of_ble_eq_true rfl) rfl (get_set hm) (Nat.le_of_ble_eq_true rfl)) (rc_out (v := t) (m := 8) ht (by decide)) ?_
  refine RP.brF rfl rfl rfl (by decide) ?_
  refine RP.blk 1 (pc' := 16) (lv' := [(0, .ref 196), (1, .int (nI t))]) (st' := [.ref 196]) (H' := _) (kc' := 0) (ks' := 0) rfl ?_
  refine RP.get (ci := 12) rfl (get_set hm) rfl rfl ?_
  refine RP.blk 1 (pc' := 20) (lv' := [(0, .ref 196), (1, .int (nI t))]) (st' := [.int 1, .int (nI l)]) (H' := _) (kc' := 0) (ks' := 0) rfl ?_
  refine RP.brF rfl rfl rfl (cF_lt l 1) ?_
  refine RP.blk 1 (pc' := 24) (lv' := [(0, .ref 196), (1, .int (nI t))]) (st' := [.ref 196]) (H' := _) (kc' := 0) (ks' := 0) rfl ?_
  refine RP.get (ci := 12) rfl (get_set hm) rfl rfl ?_
  refine RP.blk 1 (pc' := 29) (lv' := [(0, .ref 196), (1, .int (nI t))]) (st' := [.int 40, .int (nI l)]) (H' := _) (kc' := 0) (ks' := 0) rfl ?_
  refine RP.brT rfl rfl rfl (cT_le l 40) ?_
  refine RP.blk 1 (pc' := 39) (lv' := [(0, .ref 196), (1, .int (nI t))]) (st' := [.ref 196]) (H' := _) (kc' := 0) (ks' := 0) rfl ?_
  refine RP.get (ci := 12) rfl (get_set hm) rfl rfl ?_
  refine RP.brT rfl rfl rfl (by decide) ?_
  refine RP.blk 3 (pc' := 54) (lv' := [(0, .ref 196), (1, .int (nI t))]) (st' := [.ref 196, .int (nI t), .ref 196]) (H' := _) (kc' := 0) (ks' := 0) rfl ?_
  refine RP.get (ci := 12) rfl (get_set hm) rfl rfl ?_
  refine RP.blk 1 (pc' := 58) (lv' := [(0, .ref 196), (1, .int (nI t))]) (st' := [.int (-1), .int (nI l), .int (nI t), .ref 196]) (H' := _) (kc' := 0) (ks' := 0) rfl ?_
  have hm1 : (H.set 195 (kO 12 (mfs 0 li 0 cw cl (nI l) rs pr ve us pi hu ba bo)))[195]? = _ := get_set hm
  have hR : MRIs (H.set 195 (kO 12 (mfs 0 li 0 cw cl (nI l) rs pr ve us pi hu ba bo))) wss := h.far (fun a ha => set_far (by omega))
  refine RP.call (v := some (.int 0)) (st' := []) rfl rfl rfl rfl rfl rfl (args_v [.int (-1), .int (nI l), .int (nI t)] [] rfl rfl (Nat.le_of_ble_eq_true rfl) rfl (get_set hm) (Nat.le_of_ble_eq_true rfl)) (rc_menterXL (n := l) (k := l) (v := none) hm1 hR ((set_far (by decide)).trans h205) ((set_far (by decide)).trans h196) ht hop (show l = l + 0 from rfl) (by omega) hfit) ?_
  rw [set_set]
  exact RP.done (c := 0) (s := 0) rfl rfl rfl rfl
theorem ri_mdelete {sc : Nat × (Nat → Int32)} {d t l : Nat} {op : Nat → Bool} {H : aH} {g : Nat → Int8} {wss : Nat → List aE} {fa li cw cl rs pr ve us pi hu : Int32} {ba bo : Nat} (hm : H[195]? = some (kO 12 (mfs fa li 0 cw cl (nI l) rs pr ve us pi hu ba bo))) (ht : t < 8) (hl1 : 1 ≤ l) (hl2 : l ≤ 40) (h : MRIs H wss) (h205 : H[205]? = some (kZ 8 op)) (h196 : H[196]? = some (kB 2000 g)) (hop : op t = true) (hfit : (dropK (wss t) (sl g 0 l)).length + 1 ≤ 32 ∧ eOff (dropK (wss t) (sl g 0 l)) (dropK (wss t) (sl g 0 l)).length + l + (none : Option Nat).getD 0 ≤ 4000) : RI sc (d + 3) mr_288 [.ref 196, .int (nI t)] H (fun x H' => x = nI ((dropK (wss t) (sl g 0 l)).length + 1) ∧ MRIs H' (va_up wss t (dropK (wss t) (sl g 0 l) ++ [(sl g 0 l, none)])) ∧ H'[195]? = some (kO 12 (mfs 0 li 0 cw cl 0 rs pr ve us pi hu ba bo)) ∧ ∀ a, ¬ (207 ≤ a ∧ a < 213) → a ≠ 195 → H'[a]? = H[a]?) := by
  refine RI.of ?_
  refine RQ.blk 2 (pc' := 2) (lv' := [(0, .ref 196), (1, .int (nI t))]) (st' := [.int 0, .ref 196]) (H' := _) (kc' := 0) (ks' := 0) rfl ?_
  refine RQ.put (ci := 12) rfl hm rfl rfl (Nat.le_of_ble_eq_true rfl) ?_
  refine RQ.blk 3 (pc' := 9) (lv' := [(0, .ref 196), (1, .int (nI t))]) (st' := [.int 8, .int (nI t), .ref 196]) (H' := _) (kc' := 0) (ks' := 0) rfl ?_
  refine RQ.call (v := some (.int 0)) (st' := []) rfl rfl rfl rfl rfl rfl (args_v [.int 8, .int (nI t)] [] rfl rfl (Nat.le_of_ble_eq_true rfl) rfl (get_set hm) (Nat.le_of_ble_eq_true rfl)) (rc_out (v := t) (m := 8) ht (by decide)) ?_
  refine RQ.brF rfl rfl rfl (by decide) ?_
  refine RQ.blk 1 (pc' := 16) (lv' := [(0, .ref 196), (1, .int (nI t))]) (st' := [.ref 196]) (H' := _) (kc' := 0) (ks' := 0) rfl ?_
  refine RQ.get (ci := 12) rfl (get_set hm) rfl rfl ?_
  refine RQ.blk 1 (pc' := 20) (lv' := [(0, .ref 196), (1, .int (nI t))]) (st' := [.int 1, .int (nI l)]) (H' := _) (kc' := 0) (ks' := 0) rfl ?_
  refine RQ.brF rfl rfl rfl (cF_lt l 1) ?_
  refine RQ.blk 1 (pc' := 24) (lv' := [(0, .ref 196), (1, .int (nI t))]) (st' := [.ref 196]) (H' := _) (kc' := 0) (ks' := 0) rfl ?_
  refine RQ.get (ci := 12) rfl (get_set hm) rfl rfl ?_
  refine RQ.blk 1 (pc' := 29) (lv' := [(0, .ref 196), (1, .int (nI t))]) (st' := [.int 40, .int (nI l)]) (H' := _) (kc' := 0) (ks' := 0) rfl ?_
  refine RQ.brT rfl rfl rfl (cT_le l 40) ?_
  refine RQ.blk 1 (pc' := 39) (lv' := [(0, .ref 196), (1, .int (nI t))]) (st' := [.ref 196]) (H' := _) (kc' := 0) (ks' := 0) rfl ?_
  refine RQ.get (ci := 12) rfl (get_set hm) rfl rfl ?_
  refine RQ.brT rfl rfl rfl (by decide) ?_
  refine RQ.blk 3 (pc' := 54) (lv' := [(0, .ref 196), (1, .int (nI t))]) (st' := [.ref 196, .int (nI t), .ref 196]) (H' := _) (kc' := 0) (ks' := 0) rfl ?_
  refine RQ.get (ci := 12) rfl (get_set hm) rfl rfl ?_
  refine RQ.blk 1 (pc' := 58) (lv' := [(0, .ref 196), (1, .int (nI t))]) (st' := [.int (-1), .int (nI l), .int (nI t), .ref 196]) (H' := _) (kc' := 0) (ks' := 0) rfl ?_
  have hm1 : (H.set 195 (kO 12 (mfs 0 li 0 cw cl (nI l) rs pr ve us pi hu ba bo)))[195]? = _ := get_set hm
  have hR : MRIs (H.set 195 (kO 12 (mfs 0 li 0 cw cl (nI l) rs pr ve us pi hu ba bo))) wss := h.far (fun a ha => set_far (by omega))
  refine RQ.callI (st' := []) rfl rfl rfl rfl rfl rfl (args_v [.int (-1), .int (nI l), .int (nI t)] [] rfl rfl (Nat.le_of_ble_eq_true rfl) rfl (get_set hm) (Nat.le_of_ble_eq_true rfl)) (ri_menterL (n := l) (k := l) (v := none) hm1 hR ((set_far (by decide)).trans h205) ((set_far (by decide)).trans h196) ht hop (show l = l + 0 from rfl) (by omega) hfit) (fun x H2 hx => ?_)
  obtain ⟨rfl, j1, j2, j3⟩ := hx
  exact RQ.done (c := 0) (s := 0) rfl rfl rfl rfl ⟨_, _, rfl, rfl, j1, j2, fun a ha h9 => (j3 a ha h9).trans (set_far h9)⟩
theorem rc_mput_bad {sc : Nat × (Nat → Int32)} {d l : Nat} {H : aH} {fa li dn cw cl rs pr ve us pi hu x y : Int32} {ba bo : Nat} (hm : H[195]? = some (kO 12 (mfs fa li dn cw cl (nI l) rs pr ve us pi hu ba bo))) (hl : l ≤ 2000) (hbad : ¬ putOk x y l) : RC sc (d + 1) mr_283 [.ref 196, .int x, .int y] H (.inl (some (.int 0))) (H.set 195 (kO 12 (mfs 1 li dn cw cl (nI l) rs pr ve us pi hu ba bo))) 0 0 := by
  have fin : ∀ x : Int32, RP sc (d + 1) mr_283 46 [(0, .ref 196), (1, .int x), (2, .int y)] [] (H.set 195 (kO 12 (mfs 0 li dn cw cl (nI l) rs pr ve us pi hu ba bo))) 0 0 (.inl (some (.int 0)), H.set 195 (kO 12 (mfs 1 li dn cw cl (nI l) rs pr ve us pi hu ba bo)), 0, 0) := by
    intro x
    refine RP.blk 2 (pc' := 48) (lv' := [(0, .ref 196), (1, .int x), (2, .int y)]) (st' := [.int 1, .ref 196]) (H' := _) (kc' := 0) (ks' := 0) rfl ?_
    refine RP.call (v := some (.int 0)) (st' := []) rfl rfl rfl rfl rfl rfl (args_v [.int 1] [] rfl rfl (Nat.le_of_ble_eq_true rfl) rfl (get_set hm) (Nat.le_of_ble_eq_true rfl)) (rc_mfail (get_set hm) rfl) ?_
    rw [set_set]
    exact RP.done (c := 0) (s := 0) rfl rfl rfl rfl
  refine RP.blk 2 (pc' := 2) (lv' := [(0, .ref 196), (1, .int x), (2, .int y)]) (st' := [.int 0, .ref 196]) (H' := _) (kc' := 0) (ks' := 0) rfl ?_
  refine RP.put (ci := 12) rfl hm rfl rfl (Nat.le_of_ble_eq_true rfl) ?_
  refine RP.blk 3 (pc' := 9) (lv' := [(0, .ref 196), (1, .int x), (2, .int y)]) (st' := [.int 8, .int x, .ref 196]) (H' := _) (kc' := 0) (ks' := 0) rfl ?_
  rcases pk_ix x (n := 8) (by decide) with hx | hx | ⟨t, ht, rfl⟩
  ·
    refine RP.call (v := some (.int 1)) (st' := []) rfl rfl rfl rfl rfl rfl (args_v [.int 8, .int x] [] rfl rfl (Nat.le_of_ble_eq_true rfl) rfl (get_set hm) (Nat.le_of_ble_eq_true rfl)) (rc_outX (m := 8) (Or.inl hx)) ?_
    refine RP.brT rfl rfl rfl (by decide) ?_
    exact fin _
  ·
    refine RP.call (v := some (.int 1)) (st' := []) rfl rfl rfl rfl rfl rfl (args_v [.int 8, .int x] [] rfl rfl (Nat.le_of_ble_eq_true rfl) rfl (get_set hm) (Nat.le_of_ble_eq_true rfl)) (rc_outX (m := 8) (Or.inr (Int32.not_lt.mpr hx))) ?_
    refine RP.brT rfl rfl rfl (by decide) ?_
    exact fin _
  ·
    refine RP.call (v := some (.int 0)) (st' := []) rfl rfl rfl rfl rfl rfl (args_v [.int 8, .int (nI t)] [] rfl rfl (Nat.le_of_ble_eq_true rfl) rfl (get_set hm) (Nat.le_of_ble_eq_true rfl)) (rc_out (v := t) (m := 8) ht (by decide)) ?_
    refine RP.brF rfl rfl rfl (by decide) ?_
    refine RP.blk 2 (pc' := 17) (lv' := [(0, .ref 196), (1, .int (nI t)), (2, .int y)]) (st' := [.int 1, .int y]) (H' := _) (kc' := 0) (ks' := 0) rfl ?_
    by_cases hy1 : y < 1
    ·
      refine RP.brT rfl rfl rfl (decide_eq_true hy1) ?_
      exact fin _
    ·
      refine RP.brF rfl rfl rfl (decide_eq_false hy1) ?_
      refine RP.blk 2 (pc' := 23) (lv' := [(0, .ref 196), (1, .int (nI t)), (2, .int y)]) (st' := [.int 40, .int y]) (H' := _) (kc' := 0) (ks' := 0) rfl ?_
      by_cases hy2 : (40 : Int32) < y
      ·
        refine RP.brT rfl rfl rfl (decide_eq_true hy2) ?_
        exact fin _
      · obtain ⟨k, rfl, hk1, hk2⟩ := k_of (m := 40) (by decide) (fun e => e.elim hy1 (fun e => hy2 (Int32.not_le.mp e)))
        refine RP.brF rfl rfl rfl (decide_eq_false hy2) ?_
        refine RP.blk 1 (pc' := 27) (lv' := [(0, .ref 196), (1, .int (nI t)), (2, .int (nI k))]) (st' := [.ref 196]) (H' := _) (kc' := 0) (ks' := 0) rfl ?_
        refine RP.get (ci := 12) rfl (get_set hm) rfl rfl ?_
        refine RP.blk 1 (pc' := 31) (lv' := [(0, .ref 196), (1, .int (nI t)), (2, .int (nI k))]) (st' := [.int (nI k), .int (nI l)]) (H' := _) (kc' := 0) (ks' := 0) rfl ?_
        by_cases hkl : k ≤ l
        ·
          refine RP.brF rfl rfl rfl (cF_lt l k) ?_
          refine RP.blk 1 (pc' := 35) (lv' := [(0, .ref 196), (1, .int (nI t)), (2, .int (nI k))]) (st' := [.ref 196]) (H' := _) (kc' := 0) (ks' := 0) rfl ?_
          refine RP.get (ci := 12) rfl (get_set hm) rfl rfl ?_
          refine RP.blk 2 (pc' := 40) (lv' := [(0, .ref 196), (1, .int (nI t)), (2, .int (nI k))]) (st' := [.int (nI l - nI k)]) (H' := _) (kc' := 0) (ks' := 0) rfl ?_
          rw [show (nI l - nI k : Int32) = nI (l - k) from pk_sub (a := l) (b := k) (by omega)]
          refine RP.blk 1 (pc' := 43) (lv' := [(0, .ref 196), (1, .int (nI t)), (2, .int (nI k))]) (st' := [.int 1000, .int (nI (l - k))]) (H' := _) (kc' := 0) (ks' := 0) rfl ?_
          refine RP.brF rfl rfl rfl (cF_le (l - k) 1000 (h := by have : ¬ l - k ≤ 1000 := fun e => hbad ⟨t, k, rfl, ht, rfl, hk1, hk2, hkl, e⟩; omega)) ?_
          exact fin _
        ·
          refine RP.brT rfl rfl rfl (cT_lt l k) ?_
          exact fin _
theorem rc_mdelete_bad {sc : Nat × (Nat → Int32)} {d l : Nat} {H : aH} {fa li dn cw cl rs pr ve us pi hu x : Int32} {ba bo : Nat} (hm : H[195]? = some (kO 12 (mfs fa li dn cw cl (nI l) rs pr ve us pi hu ba bo))) (hl : l ≤ 2000) (hbad : ¬ ((∃ t, x = nI t ∧ t < 8) ∧ 1 ≤ l ∧ l ≤ 40)) : RC sc (d + 1) mr_288 [.ref 196, .int x] H (.inl (some (.int 0))) (H.set 195 (kO 12 (mfs 1 li dn cw cl (nI l) rs pr ve us pi hu ba bo))) 0 0 := by
  have fin : ∀ x : Int32, RP sc (d + 1) mr_288 32 [(0, .ref 196), (1, .int x)] [] (H.set 195 (kO 12 (mfs 0 li dn cw cl (nI l) rs pr ve us pi hu ba bo))) 0 0 (.inl (some (.int 0)), H.set 195 (kO 12 (mfs 1 li dn cw cl (nI l) rs pr ve us pi hu ba bo)), 0, 0) := by
    intro x
    refine RP.blk 2 (pc' := 34) (lv' := [(0, .ref 196), (1, .int x)]) (st' := [.int 1, .ref 196]) (H' := _) (kc' := 0) (ks' := 0) rfl ?_
    refine RP.call (v := some (.int 0)) (st' := []) rfl rfl rfl rfl rfl rfl (args_v [.int 1] [] rfl rfl (Nat.le_of_ble_eq_true rfl) rfl (get_set hm) (Nat.le_of_ble_eq_true rfl)) (rc_mfail (get_set hm) rfl) ?_
    rw [set_set]
    exact RP.done (c := 0) (s := 0) rfl rfl rfl rfl
  refine RP.blk 2 (pc' := 2) (lv' := [(0, .ref 196), (1, .int x)]) (st' := [.int 0, .ref 196]) (H' := _) (kc' := 0) (ks' := 0) rfl ?_
  refine RP.put (ci := 12) rfl hm rfl rfl (Nat.le_of_ble_eq_true rfl) ?_
  refine RP.blk 3 (pc' := 9) (lv' := [(0, .ref 196), (1, .int x)]) (st' := [.int 8, .int x, .ref 196]) (H' := _) (kc' := 0) (ks' := 0) rfl ?_
  rcases pk_ix x (n := 8) (by decide) with hx | hx | ⟨t, ht, rfl⟩
  ·
    refine RP.call (v := some (.int 1)) (st' := []) rfl rfl rfl rfl rfl rfl (args_v [.int 8, .int x] [] rfl rfl (Nat.le_of_ble_eq_true rfl) rfl (get_set hm) (Nat.le_of_ble_eq_true rfl)) (rc_outX (m := 8) (Or.inl hx)) ?_
    refine RP.brT rfl rfl rfl (by decide) ?_
    exact fin _
  ·
    refine RP.call (v := some (.int 1)) (st' := []) rfl rfl rfl rfl rfl rfl (args_v [.int 8, .int x] [] rfl rfl (Nat.le_of_ble_eq_true rfl) rfl (get_set hm) (Nat.le_of_ble_eq_true rfl)) (rc_outX (m := 8) (Or.inr (Int32.not_lt.mpr hx))) ?_
    refine RP.brT rfl rfl rfl (by decide) ?_
    exact fin _
  · have hb2 : ¬ (1 ≤ l ∧ l ≤ 40) := fun e2 => hbad ⟨⟨t, rfl, ht⟩, e2⟩
    refine RP.call (v := some (.int 0)) (st' := []) rfl rfl rfl rfl rfl rfl (args_v [.int 8, .int (nI t)] [] rfl rfl (Nat.le_of_ble_eq_true rfl) rfl (get_set hm) (Nat.le_of_ble_eq_true rfl)) (rc_out (v := t) (m := 8) ht (by decide)) ?_
    refine RP.brF rfl rfl rfl (by decide) ?_
    refine RP.blk 1 (pc' := 16) (lv' := [(0, .ref 196), (1, .int (nI t))]) (st' := [.ref 196]) (H' := _) (kc' := 0) (ks' := 0) rfl ?_
    refine RP.get (ci := 12) rfl (get_set hm) rfl rfl ?_
    refine RP.blk 1 (pc' := 20) (lv' := [(0, .ref 196), (1, .int (nI t))]) (st' := [.int 1, .int (nI l)]) (H' := _) (kc' := 0) (ks' := 0) rfl ?_
    by_cases hl1 : l < 1
    ·
      refine RP.brT rfl rfl rfl (cT_lt l 1) ?_
      exact fin _
    ·
      refine RP.brF rfl rfl rfl (cF_lt l 1) ?_
      refine RP.blk 1 (pc' := 24) (lv' := [(0, .ref 196), (1, .int (nI t))]) (st' := [.ref 196]) (H' := _) (kc' := 0) (ks' := 0) rfl ?_
      refine RP.get (ci := 12) rfl (get_set hm) rfl rfl ?_
      refine RP.blk 1 (pc' := 29) (lv' := [(0, .ref 196), (1, .int (nI t))]) (st' := [.int 40, .int (nI l)]) (H' := _) (kc' := 0) (ks' := 0) rfl ?_
      refine RP.brF rfl rfl rfl (cF_le l 40) ?_
      exact fin _
