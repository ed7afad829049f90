/-! ===== the class: a change is intended; written by wip/gen/intend.py ===== -/
theorem rc_indexOf_none {sc : Nat × (Nat → Int32)} {a na m d b n u : Nat} {H : aH} {D : Nat → Int8} {S K : Nat → Nat} {E : Nat → Option Nat} {g : Nat → Int8} (h : BatchAt H b D S K E n u) (hk : BatchOk S K E n u) (h1 : H[a]? = some (kB na g)) (hna : na < 2 ^ 30) (hj : m ≤ na) (hx : ∀ q, q < n → ¬ sl D (S q) (K q) = sl g 0 m) : RC sc (d + 3) mr_42 [.ref (b + 1), .ref (a + 1), .int (nI m)] H (.inl (some (.int (-1)))) H 0 0 := by
  obtain ⟨x, H', k1, k2, k3⟩ := ri_indexOf (sc := sc) (d := d) h hk h1 hna hj
  rw [k2] at k1
  rcases k3 with ⟨i, hi, -, h5, -⟩ | ⟨h4, -⟩
  · exact absurd h5 (hx i hi)
  · rw [h4] at k1
    exact k1
theorem rc_indexOf_some {sc : Nat × (Nat → Int32)} {a na m d b n u i : Nat} {H : aH} {D : Nat → Int8} {S K : Nat → Nat} {E : Nat → Option Nat} {g : Nat → Int8} (h : BatchAt H b D S K E n u) (hk : BatchOk S K E n u) (h1 : H[a]? = some (kB na g)) (hna : na < 2 ^ 30) (hj : m ≤ na) (hi : i < n) (he : sl D (S i) (K i) = sl g 0 m) (hx : ∀ q, q < i → ¬ sl D (S q) (K q) = sl g 0 m) : RC sc (d + 3) mr_42 [.ref (b + 1), .ref (a + 1), .int (nI m)] H (.inl (some (.int (nI i)))) H 0 0 := by
  obtain ⟨x, H', k1, k2, k3⟩ := ri_indexOf (sc := sc) (d := d) h hk h1 hna hj
  rw [k2] at k1
  rcases k3 with ⟨j, hj2, h4, h5, h6⟩ | ⟨-, h4⟩
  · have e : j = i := by
      rcases Nat.lt_trichotomy j i with e | e | e
      · exact absurd h5 (hx j e)
      · exact e
      · exact absurd he (h6 i e)
    rw [h4, e] at k1
    exact k1
  · exact absurd he (h4 i hi)
/-- a batch that holds these changes -/
def BatchIs (H : aH) (b : Nat) (ws : List aE) : Prop := ∃ D S K E, BatchAt H b D S K E ws.length (eOff ws ws.length) ∧ LayE D 0 S K E ws ∧ ws.length ≤ 40 ∧ eOff ws ws.length ≤ 4100
theorem LayE.ok {D : Nat → Int8} {S K : Nat → Nat} {E : Nat → Option Nat} {ws : List aE} (h : LayE D 0 S K E ws) (h1 : ws.length ≤ 40) (h2 : eOff ws ws.length ≤ 4100) : BatchOk S K E ws.length (eOff ws ws.length) := by
  refine ⟨h1, h2, fun i hi => ?_⟩
  have hg : ws[i]? = some ws[i] := List.getElem?_eq_getElem hi
  obtain ⟨g1, g2, g3, -⟩ := h i _ hg
  have h5 := eOff_succ hg
  have h6 := eOff_mono ws (show i + 1 ≤ ws.length by omega)
  rw [g1, g2, eGet g3]
  unfold eLen at h5
  omega
theorem BatchIs.far {H H' : aH} {b : Nat} {ws : List aE} (h : BatchIs H b ws) (hs : ∀ a, b ≤ a → a < b + 6 → H'[a]? = H[a]?) : BatchIs H' b ws := by
  obtain ⟨D, S, K, E, h1, h2⟩ := h
  exact ⟨D, S, K, E, h1.far hs, h2⟩
theorem eOff_len : ∀ (ws : List aE), (∀ e ∈ ws, 1 ≤ e.1.length) → ws.length ≤ eOff ws ws.length
  | [], _ => Nat.le_refl _
  | e :: ws, h => by
    rw [List.length_cons, eOff]
    have h1 := eOff_len ws (fun a ha => h a (List.mem_cons_of_mem _ ha))
    have h2 := h e List.mem_cons_self
    unfold eLen
    omega
theorem rc_dropN {sc : Nat × (Nat → Int32)} {d b : Nat} {H : aH} {x : Int32} (hx : x < 0) : RC sc d mr_48 [.ref (b + 1), .int x] H (.inl none) H 0 0 := by
  refine RP.blk 1 (pc' := 1) (lv' := [(0, .ref (b + 1)), (1, .int x)]) (st' := [.int x]) (H' := _) (kc' := 0) (ks' := 0) rfl ?_
  refine RP.brT rfl rfl rfl (decide_eq_true hx) ?_
  exact RP.done (c := 0) (s := 0) rfl rfl rfl rfl
theorem rc_intendX_new {sc : Nat × (Nat → Int32)} {d k b n u l q : Nat} {H : aH} {bl pr up cw cl cp cb : Int32} {f g : Nat → Int8} {D : Nat → Int8} {S K : Nat → Nat} {E : Nat → Option Nat} {v : Option Nat} (h0 : H[0]? = some (kO 11 (fvs bl pr up cw cl cp cb))) (h1 : H[1]? = some (kO 5 [.ref 3, .int (nI l)])) (h2 : H[2]? = some (kB 2000 f)) (h5 : H[5]? = some (kO 5 [.ref 7, .int (nI q)])) (h6 : H[6]? = some (kB 41 g)) (h : BatchAt H b D S K E n u) (hk : BatchOk S K E n u) (hb : 10 < b) (hkk : k ≤ 40) (hv : k + v.getD 0 ≤ 2000) (hun : n ≤ u) (hx : ∀ j, j < n → ¬ sl D (S j) (K j) = sl (prb f g k) 0 (k + 1)) (hc : 32 < n + 1 ∨ 4000 < u - n - 0 + k + v.getD 0) : RC sc (d + 4) mr_39 [.ref 1, .ref (b + 1), .int (nI k), .int (lI v)] H (.inr 4) ((H.set 6 (kB 41 (prb f g k))).set 5 (kO 5 [.ref 7, .int (nI (k + 1))])) 1 6 := by
  refine RP.blk 2 (pc' := 2) (lv' := [(0, .ref 1), (1, .ref (b + 1)), (2, .int (nI k)), (3, .int (lI v))]) (st' := [.int (nI k), .ref 1]) (H' := _) (kc' := 0) (ks' := 0) rfl ?_
  refine RP.call (v := none) (st' := []) rfl rfl rfl rfl rfl rfl (args_v [.int (nI k)] [] rfl rfl (Nat.le_of_ble_eq_true rfl) rfl h0 (Nat.le_of_ble_eq_true rfl)) (rc_probeUser h0 h1 h2 h5 h6 hkk) ?_
  have hB := h.far (H' := ((H.set 6 (kB 41 (prb f g k))).set 5 (kO 5 [.ref 7, .int (nI (k + 1))]))) (fun a ha hb2 => (set_far (by omega)).trans (set_far (by omega)))
  have hk1 := hk.1
  have hk2 := hk.2.1
  refine RP.blk 2 (pc' := 7) (lv' := [(0, .ref 1), (1, .ref (b + 1)), (2, .int (nI k)), (3, .int (lI v))]) (st' := [.ref 1, .ref (b + 1)]) (H' := _) (kc' := 0) (ks' := 0) rfl ?_
  refine RP.get (ci := 11) rfl ((set_far (by decide)).trans ((set_far (by decide)).trans h0)) rfl rfl ?_
  refine RP.get (ci := 5) rfl (get_set ((set_far (by decide)).trans h5)) rfl rfl ?_
  refine RP.blk 1 (pc' := 14) (lv' := [(0, .ref 1), (1, .ref (b + 1)), (2, .int (nI k)), (3, .int (lI v))]) (st' := [.ref 1, .ref 7, .ref (b + 1)]) (H' := _) (kc' := 0) (ks' := 0) rfl ?_
  refine RP.get (ci := 11) rfl ((set_far (by decide)).trans ((set_far (by decide)).trans h0)) rfl rfl ?_
  refine RP.get (ci := 5) rfl (get_set ((set_far (by decide)).trans h5)) rfl rfl ?_
  refine RP.call (v := some (.int (-1))) (st' := []) rfl rfl rfl rfl rfl rfl (args_v [.int (nI (k + 1)), .ref 7] [] rfl rfl (Nat.le_of_ble_eq_true rfl) rfl hB.1 (Nat.le_of_ble_eq_true rfl)) (rc_indexOf_none hB hk ((set_far (by decide)).trans (get_set h6)) (by decide) (by omega) hx) ?_
  refine RP.blk 2 (pc' := 26) (lv' := [(4, .int (-1)), (0, .ref 1), (1, .ref (b + 1)), (2, .int (nI k)), (3, .int (lI v))]) (st' := [.ref (b + 1)]) (H' := _) (kc' := 0) (ks' := 0) rfl ?_
  refine RP.get (ci := 0) rfl hB.1 rfl rfl ?_
  refine RP.blk 1 (pc' := 31) (lv' := [(4, .int (-1)), (0, .ref 1), (1, .ref (b + 1)), (2, .int (nI k)), (3, .int (lI v))]) (st' := [.int (-1), .int (nI n)]) (H' := _) (kc' := 0) (ks' := 0) rfl ?_
  refine RP.brF rfl rfl rfl (by decide) ?_
  refine RP.blk 3 (pc' := 40) (lv' := [(4, .int (-1)), (0, .ref 1), (1, .ref (b + 1)), (2, .int (nI k)), (3, .int (lI v))]) (st' := [.int (nI n + 1)]) (H' := _) (kc' := 0) (ks' := 0) rfl ?_
  rw [show (nI n + 1 : Int32) = nI (n + 1) from nI_add n 1]
  refine RP.blk 2 (pc' := 43) (lv' := [(5, .int (nI (n + 1))), (4, .int (-1)), (0, .ref 1), (1, .ref (b + 1)), (2, .int (nI k)), (3, .int (lI v))]) (st' := [.ref (b + 1)]) (H' := _) (kc' := 0) (ks' := 0) rfl ?_
  refine RP.call (v := some (.int (nI (u - n)))) (st' := []) rfl rfl rfl rfl rfl rfl (args_v [] [] rfl rfl (Nat.le_of_ble_eq_true rfl) rfl hB.1 (Nat.le_of_ble_eq_true rfl)) (rc_userBytes hB hk hun) ?_
  refine RP.blk 2 (pc' := 49) (lv' := [(5, .int (nI (n + 1))), (4, .int (-1)), (0, .ref 1), (1, .ref (b + 1)), (2, .int (nI k)), (3, .int (lI v))]) (st' := [.int (-1), .ref (b + 1), .int (nI (u - n))]) (H' := _) (kc' := 0) (ks' := 0) rfl ?_
  refine RP.call (v := some (.int 0)) (st' := [.int (nI (u - n))]) rfl rfl rfl rfl rfl rfl (args_v [.int (-1)] [.int (nI (u - n))] rfl rfl (Nat.le_of_ble_eq_true rfl) rfl hB.1 (Nat.le_of_ble_eq_true rfl)) (rc_userBytesOfN (by decide)) ?_
  refine RP.blk 1 (pc' := 53) (lv' := [(5, .int (nI (n + 1))), (4, .int (-1)), (0, .ref 1), (1, .ref (b + 1)), (2, .int (nI k)), (3, .int (lI v))]) (st' := [.int (nI (u - n) - 0)]) (H' := _) (kc' := 0) (ks' := 0) rfl ?_
  rw [show (nI (u - n) - 0 : Int32) = nI ((u - n) - 0) from pk_sub (a := (u - n)) (b := 0) (by omega)]
  refine RP.blk 2 (pc' := 55) (lv' := [(5, .int (nI (n + 1))), (4, .int (-1)), (0, .ref 1), (1, .ref (b + 1)), (2, .int (nI k)), (3, .int (lI v))]) (st' := [.int (nI ((u - n) - 0) + nI k)]) (H' := _) (kc' := 0) (ks' := 0) rfl ?_
  rw [show (nI ((u - n) - 0) + nI k : Int32) = nI ((u - n) - 0 + k) from nI_add ((u - n) - 0) k]
  refine RP.blk 3 (pc' := 60) (lv' := [(5, .int (nI (n + 1))), (4, .int (-1)), (0, .ref 1), (1, .ref (b + 1)), (2, .int (nI k)), (3, .int (lI v))]) (st' := [.int (if lI v < 0 then 0 else lI v), .int (nI ((u - n) - 0 + k))]) (H' := _) (kc' := 0) (ks' := 0) rfl ?_
  rw [maxL (by omega)]
  refine RP.blk 1 (pc' := 61) (lv' := [(5, .int (nI (n + 1))), (4, .int (-1)), (0, .ref 1), (1, .ref (b + 1)), (2, .int (nI k)), (3, .int (lI v))]) (st' := [.int (nI ((u - n) - 0 + k) + nI (v.getD 0))]) (H' := _) (kc' := 0) (ks' := 0) rfl ?_
  rw [show (nI ((u - n) - 0 + k) + nI (v.getD 0) : Int32) = nI ((u - n) - 0 + k + (v.getD 0)) from nI_add ((u - n) - 0 + k) (v.getD 0)]
  refine RP.blk 3 (pc' := 67) (lv' := [(6, .int (nI ((u - n) - 0 + k + (v.getD 0)))), (5, .int (nI (n + 1))), (4, .int (-1)), (0, .ref 1), (1, .ref (b + 1)), (2, .int (nI k)), (3, .int (lI v))]) (st' := [.int 32, .int (nI (n + 1))]) (H' := _) (kc' := 0) (ks' := 0) rfl ?_
  by_cases hc1 : 32 < n + 1
  ·
    refine RP.brT rfl rfl rfl (cT_gt (n + 1) 32) ?_
    exact RP.done (c := 1) (s := 6) rfl rfl rfl rfl
  ·
    refine RP.brF rfl rfl rfl (cF_gt (n + 1) 32) ?_
    refine RP.blk 2 (pc' := 75) (lv' := [(6, .int (nI ((u - n) - 0 + k + (v.getD 0)))), (5, .int (nI (n + 1))), (4, .int (-1)), (0, .ref 1), (1, .ref (b + 1)), (2, .int (nI k)), (3, .int (lI v))]) (st' := [.int 4000, .int (nI ((u - n) - 0 + k + (v.getD 0)))]) (H' := _) (kc' := 0) (ks' := 0) rfl ?_
    refine RP.brF rfl rfl rfl (cF_le (u - n - 0 + k + v.getD 0) 4000) ?_
    exact RP.done (c := 1) (s := 6) rfl rfl rfl rfl
theorem rc_intendX_old {sc : Nat × (Nat → Int32)} {i : Nat} {d k b n u l q : Nat} {H : aH} {bl pr up cw cl cp cb : Int32} {f g : Nat → Int8} {D : Nat → Int8} {S K : Nat → Nat} {E : Nat → Option Nat} {v : Option Nat} (h0 : H[0]? = some (kO 11 (fvs bl pr up cw cl cp cb))) (h1 : H[1]? = some (kO 5 [.ref 3, .int (nI l)])) (h2 : H[2]? = some (kB 2000 f)) (h5 : H[5]? = some (kO 5 [.ref 7, .int (nI q)])) (h6 : H[6]? = some (kB 41 g)) (h : BatchAt H b D S K E n u) (hk : BatchOk S K E n u) (hb : 10 < b) (hkk : k ≤ 40) (hv : k + v.getD 0 ≤ 2000) (hun : n ≤ u) (hi : i < n) (he : sl D (S i) (K i) = sl (prb f g k) 0 (k + 1)) (hx : ∀ j, j < i → ¬ sl D (S j) (K j) = sl (prb f g k) 0 (k + 1)) (hK : 1 ≤ K i) (hu2 : n + (K i - 1 + (E i).getD 0) ≤ u) (hc : 4000 < u - n - (K i - 1 + (E i).getD 0) + k + v.getD 0) : RC sc (d + 4) mr_39 [.ref 1, .ref (b + 1), .int (nI k), .int (lI v)] H (.inr 4) ((H.set 6 (kB 41 (prb f g k))).set 5 (kO 5 [.ref 7, .int (nI (k + 1))])) 1 6 := by
  refine RP.blk 2 (pc' := 2) (lv' := [(0, .ref 1), (1, .ref (b + 1)), (2, .int (nI k)), (3, .int (lI v))]) (st' := [.int (nI k), .ref 1]) (H' := _) (kc' := 0) (ks' := 0) rfl ?_
  refine RP.call (v := none) (st' := []) rfl rfl rfl rfl rfl rfl (args_v [.int (nI k)] [] rfl rfl (Nat.le_of_ble_eq_true rfl) rfl h0 (Nat.le_of_ble_eq_true rfl)) (rc_probeUser h0 h1 h2 h5 h6 hkk) ?_
  have hB := h.far (H' := ((H.set 6 (kB 41 (prb f g k))).set 5 (kO 5 [.ref 7, .int (nI (k + 1))]))) (fun a ha hb2 => (set_far (by omega)).trans (set_far (by omega)))
  have hk1 := hk.1
  have hk2 := hk.2.1
  refine RP.blk 2 (pc' := 7) (lv' := [(0, .ref 1), (1, .ref (b + 1)), (2, .int (nI k)), (3, .int (lI v))]) (st' := [.ref 1, .ref (b + 1)]) (H' := _) (kc' := 0) (ks' := 0) rfl ?_
  refine RP.get (ci := 11) rfl ((set_far (by decide)).trans ((set_far (by decide)).trans h0)) rfl rfl ?_
  refine RP.get (ci := 5) rfl (get_set ((set_far (by decide)).trans h5)) rfl rfl ?_
  refine RP.blk 1 (pc' := 14) (lv' := [(0, .ref 1), (1, .ref (b + 1)), (2, .int (nI k)), (3, .int (lI v))]) (st' := [.ref 1, .ref 7, .ref (b + 1)]) (H' := _) (kc' := 0) (ks' := 0) rfl ?_
  refine RP.get (ci := 11) rfl ((set_far (by decide)).trans ((set_far (by decide)).trans h0)) rfl rfl ?_
  refine RP.get (ci := 5) rfl (get_set ((set_far (by decide)).trans h5)) rfl rfl ?_
  refine RP.call (v := some (.int (nI i))) (st' := []) rfl rfl rfl rfl rfl rfl (args_v [.int (nI (k + 1)), .ref 7] [] rfl rfl (Nat.le_of_ble_eq_true rfl) rfl hB.1 (Nat.le_of_ble_eq_true rfl)) (rc_indexOf_some hB hk ((set_far (by decide)).trans (get_set h6)) (by decide) (by omega) hi he hx) ?_
  refine RP.blk 2 (pc' := 26) (lv' := [(4, .int (nI i)), (0, .ref 1), (1, .ref (b + 1)), (2, .int (nI k)), (3, .int (lI v))]) (st' := [.ref (b + 1)]) (H' := _) (kc' := 0) (ks' := 0) rfl ?_
  refine RP.get (ci := 0) rfl hB.1 rfl rfl ?_
  refine RP.blk 1 (pc' := 31) (lv' := [(4, .int (nI i)), (0, .ref 1), (1, .ref (b + 1)), (2, .int (nI k)), (3, .int (lI v))]) (st' := [.int (nI i), .int (nI n)]) (H' := _) (kc' := 0) (ks' := 0) rfl ?_
  have hk3 := hk.2.2 i hi
  refine RP.brT rfl rfl rfl (cT_ge i 0) ?_
  refine RP.blk 2 (pc' := 40) (lv' := [(4, .int (nI i)), (0, .ref 1), (1, .ref (b + 1)), (2, .int (nI k)), (3, .int (lI v))]) (st' := [.int (nI n + 0)]) (H' := _) (kc' := 0) (ks' := 0) rfl ?_
  rw [show (nI n + 0 : Int32) = nI (n + 0) from nI_add n 0]
  refine RP.blk 2 (pc' := 43) (lv' := [(5, .int (nI (n + 0))), (4, .int (nI i)), (0, .ref 1), (1, .ref (b + 1)), (2, .int (nI k)), (3, .int (lI v))]) (st' := [.ref (b + 1)]) (H' := _) (kc' := 0) (ks' := 0) rfl ?_
  refine RP.call (v := some (.int (nI (u - n)))) (st' := []) rfl rfl rfl rfl rfl rfl (args_v [] [] rfl rfl (Nat.le_of_ble_eq_true rfl) rfl hB.1 (Nat.le_of_ble_eq_true rfl)) (rc_userBytes hB hk hun) ?_
  refine RP.blk 2 (pc' := 49) (lv' := [(5, .int (nI (n + 0))), (4, .int (nI i)), (0, .ref 1), (1, .ref (b + 1)), (2, .int (nI k)), (3, .int (lI v))]) (st' := [.int (nI i), .ref (b + 1), .int (nI (u - n))]) (H' := _) (kc' := 0) (ks' := 0) rfl ?_
  refine RP.call (v := some (.int (nI (K i - 1 + (E i).getD 0)))) (st' := [.int (nI (u - n))]) rfl rfl rfl rfl rfl rfl (args_v [.int (nI i)] [.int (nI (u - n))] rfl rfl (Nat.le_of_ble_eq_true rfl) rfl hB.1 (Nat.le_of_ble_eq_true rfl)) (rc_userBytesOf hB hk hi hK) ?_
  refine RP.blk 1 (pc' := 53) (lv' := [(5, .int (nI (n + 0))), (4, .int (nI i)), (0, .ref 1), (1, .ref (b + 1)), (2, .int (nI k)), (3, .int (lI v))]) (st' := [.int (nI (u - n) - nI (K i - 1 + (E i).getD 0))]) (H' := _) (kc' := 0) (ks' := 0) rfl ?_
  rw [show (nI (u - n) - nI (K i - 1 + (E i).getD 0) : Int32) = nI ((u - n) - (K i - 1 + (E i).getD 0)) from pk_sub (a := (u - n)) (b := (K i - 1 + (E i).getD 0)) (by omega)]
  refine RP.blk 2 (pc' := 55) (lv' := [(5, .int (nI (n + 0))), (4, .int (nI i)), (0, .ref 1), (1, .ref (b + 1)), (2, .int (nI k)), (3, .int (lI v))]) (st' := [.int (nI ((u - n) - (K i - 1 + (E i).getD 0)) + nI k)]) (H' := _) (kc' := 0) (ks' := 0) rfl ?_
  rw [show (nI ((u - n) - (K i - 1 + (E i).getD 0)) + nI k : Int32) = nI ((u - n) - (K i - 1 + (E i).getD 0) + k) from nI_add ((u - n) - (K i - 1 + (E i).getD 0)) k]
  refine RP.blk 3 (pc' := 60) (lv' := [(5, .int (nI (n + 0))), (4, .int (nI i)), (0, .ref 1), (1, .ref (b + 1)), (2, .int (nI k)), (3, .int (lI v))]) (st' := [.int (if lI v < 0 then 0 else lI v), .int (nI ((u - n) - (K i - 1 + (E i).getD 0) + k))]) (H' := _) (kc' := 0) (ks' := 0) rfl ?_
  rw [maxL (by omega)]
  refine RP.blk 1 (pc' := 61) (lv' := [(5, .int (nI (n + 0))), (4, .int (nI i)), (0, .ref 1), (1, .ref (b + 1)), (2, .int (nI k)), (3, .int (lI v))]) (st' := [.int (nI ((u - n) - (K i - 1 + (E i).getD 0) + k) + nI (v.getD 0))]) (H' := _) (kc' := 0) (ks' := 0) rfl ?_
  rw [show (nI ((u - n) - (K i - 1 + (E i).getD 0) + k) + nI (v.getD 0) : Int32) = nI ((u - n) - (K i - 1 + (E i).getD 0) + k + (v.getD 0)) from nI_add ((u - n) - (K i - 1 + (E i).getD 0) + k) (v.getD 0)]
  refine RP.blk 3 (pc' := 67) (lv' := [(6, .int (nI ((u - n) - (K i - 1 + (E i).getD 0) + k + (v.getD 0)))), (5, .int (nI (n + 0))), (4, .int (nI i)), (0, .ref 1), (1, .ref (b + 1)), (2, .int (nI k)), (3, .int (lI v))]) (st' := [.int 32, .int (nI (n + 0))]) (H' := _) (kc' := 0) (ks' := 0) rfl ?_
  by_cases hc1 : 32 < n + 0
  ·
    refine RP.brT rfl rfl rfl (cT_gt (n + 0) 32) ?_
    exact RP.done (c := 1) (s := 6) rfl rfl rfl rfl
  ·
    refine RP.brF rfl rfl rfl (cF_gt (n + 0) 32) ?_
    refine RP.blk 2 (pc' := 75) (lv' := [(6, .int (nI ((u - n) - (K i - 1 + (E i).getD 0) + k + (v.getD 0)))), (5, .int (nI (n + 0))), (4, .int (nI i)), (0, .ref 1), (1, .ref (b + 1)), (2, .int (nI k)), (3, .int (lI v))]) (st' := [.int 4000, .int (nI ((u - n) - (K i - 1 + (E i).getD 0) + k + (v.getD 0)))]) (H' := _) (kc' := 0) (ks' := 0) rfl ?_
    refine RP.brF rfl rfl rfl (cF_le (u - n - (K i - 1 + (E i).getD 0) + k + v.getD 0) 4000) ?_
    exact RP.done (c := 1) (s := 6) rfl rfl rfl rfl
theorem ri_intend_new {sc : Nat × (Nat → Int32)} {d k b n u l q : Nat} {H : aH} {bl pr up cw cl cp cb : Int32} {f g : Nat → Int8} {D : Nat → Int8} {S K : Nat → Nat} {E : Nat → Option Nat} {v : Option Nat} (h0 : H[0]? = some (kO 11 (fvs bl pr up cw cl cp cb))) (h1 : H[1]? = some (kO 5 [.ref 3, .int (nI l)])) (h2 : H[2]? = some (kB 2000 f)) (h5 : H[5]? = some (kO 5 [.ref 7, .int (nI q)])) (h6 : H[6]? = some (kB 41 g)) (h : BatchAt H b D S K E n u) (hk : BatchOk S K E n u) (hb : 10 < b) (hkk : k ≤ 40) (hv : k + v.getD 0 ≤ 2000) (hun : n ≤ u) (hx : ∀ j, j < n → ¬ sl D (S j) (K j) = sl (prb f g k) 0 (k + 1)) (hn : n + 1 ≤ 32) (hc : u - n - 0 + k + v.getD 0 ≤ 4000) : RI sc (d + 4) mr_39 [.ref 1, .ref (b + 1), .int (nI k), .int (lI v)] H (fun x H' => x = nI (n + 1) ∧ BatchAt H' b (cpy f k (cpy (prb f g k) 0 D u (k + 1)) (u + (k + 1)) (v.getD 0)) (va_up S n u) (va_up K n (k + 1)) (va_up E n v) (n + 1) (u + (k + 1 + v.getD 0)) ∧ H'[5]? = some (kO 5 [.ref 7, .int (nI (k + 1))]) ∧ H'[6]? = some (kB 41 (prb f g k)) ∧ ∀ a, ¬ (b ≤ a ∧ a < b + 5) → a ≠ 5 → a ≠ 6 → H'[a]? = H[a]?) := by
  refine RI.of ?_
  refine RQ.blk 2 (pc' := 2) (lv' := [(0, .ref 1), (1, .ref (b + 1)), (2, .int (nI k)), (3, .int (lI v))]) (st' := [.int (nI k), .ref 1]) (H' := _) (kc' := 0) (ks' := 0) rfl ?_
  refine RQ.call (v := none) (st' := []) rfl rfl rfl rfl rfl rfl (args_v [.int (nI k)] [] rfl rfl (Nat.le_of_ble_eq_true rfl) rfl h0 (Nat.le_of_ble_eq_true rfl)) (rc_probeUser h0 h1 h2 h5 h6 hkk) ?_
  have hB := h.far (H' := ((H.set 6 (kB 41 (prb f g k))).set 5 (kO 5 [.ref 7, .int (nI (k + 1))]))) (fun a ha hb2 => (set_far (by omega)).trans (set_far (by omega)))
  have hk1 := hk.1
  have hk2 := hk.2.1
  refine RQ.blk 2 (pc' := 7) (lv' := [(0, .ref 1), (1, .ref (b + 1)), (2, .int (nI k)), (3, .int (lI v))]) (st' := [.ref 1, .ref (b + 1)]) (H' := _) (kc' := 0) (ks' := 0) rfl ?_
  refine RQ.get (ci := 11) rfl ((set_far (by decide)).trans ((set_far (by decide)).trans h0)) rfl rfl ?_
  refine RQ.get (ci := 5) rfl (get_set ((set_far (by decide)).trans h5)) rfl rfl ?_
  refine RQ.blk 1 (pc' := 14) (lv' := [(0, .ref 1), (1, .ref (b + 1)), (2, .int (nI k)), (3, .int (lI v))]) (st' := [.ref 1, .ref 7, .ref (b + 1)]) (H' := _) (kc' := 0) (ks' := 0) rfl ?_
  refine RQ.get (ci := 11) rfl ((set_far (by decide)).trans ((set_far (by decide)).trans h0)) rfl rfl ?_
  refine RQ.get (ci := 5) rfl (get_set ((set_far (by decide)).trans h5)) rfl rfl ?_
  refine RQ.call (v := some (.int (-1))) (st' := []) rfl rfl rfl rfl rfl rfl (args_v [.int (nI (k + 1)), .ref 7] [] rfl rfl (Nat.le_of_ble_eq_true rfl) rfl hB.1 (Nat.le_of_ble_eq_true rfl)) (rc_indexOf_none hB hk ((set_far (by decide)).trans (get_set h6)) (by decide) (by omega) hx) ?_
  refine RQ.blk 2 (pc' := 26) (lv' := [(4, .int (-1)), (0, .ref 1), (1, .ref (b + 1)), (2, .int (nI k)), (3, .int (lI v))]) (st' := [.ref (b + 1)]) (H' := _) (kc' := 0) (ks' := 0) rfl ?_
  refine RQ.get (ci := 0) rfl hB.1 rfl rfl ?_
  refine RQ.blk 1 (pc' := 31) (lv' := [(4, .int (-1)), (0, .ref 1), (1, .ref (b + 1)), (2, .int (nI k)), (3, .int (lI v))]) (st' := [.int (-1), .int (nI n)]) (H' := _) (kc' := 0) (ks' := 0) rfl ?_
  refine RQ.brF rfl rfl rfl (by decide) ?_
  refine RQ.blk 3 (pc' := 40) (lv' := [(4, .int (-1)), (0, .ref 1), (1, .ref (b + 1)), (2, .int (nI k)), (3, .int (lI v))]) (st' := [.int (nI n + 1)]) (H' := _) (kc' := 0) (ks' := 0) rfl ?_
  rw [show (nI n + 1 : Int32) = nI (n + 1) from nI_add n 1]
  refine RQ.blk 2 (pc' := 43) (lv' := [(5, .int (nI (n + 1))), (4, .int (-1)), (0, .ref 1), (1, .ref (b + 1)), (2, .int (nI k)), (3, .int (lI v))]) (st' := [.ref (b + 1)]) (H' := _) (kc' := 0) (ks' := 0) rfl ?_
  refine RQ.call (v := some (.int (nI (u - n)))) (st' := []) rfl rfl rfl rfl rfl rfl (args_v [] [] rfl rfl (Nat.le_of_ble_eq_true rfl) rfl hB.1 (Nat.le_of_ble_eq_true rfl)) (rc_userBytes hB hk hun) ?_
  refine RQ.blk 2 (pc' := 49) (lv' := [(5, .int (nI (n + 1))), (4, .int (-1)), (0, .ref 1), (1, .ref (b + 1)), (2, .int (nI k)), (3, .int (lI v))]) (st' := [.int (-1), .ref (b + 1), .int (nI (u - n))]) (H' := _) (kc' := 0) (ks' := 0) rfl ?_
  refine RQ.call (v := some (.int 0)) (st' := [.int (nI (u - n))]) rfl rfl rfl rfl rfl rfl (args_v [.int (-1)] [.int (nI (u - n))] rfl rfl (Nat.le_of_ble_eq_true rfl) rfl hB.1 (Nat.le_of_ble_eq_true rfl)) (rc_userBytesOfN (by decide)) ?_
  refine RQ.blk 1 (pc' := 53) (lv' := [(5, .int (nI (n + 1))), (4, .int (-1)), (0, .ref 1), (1, .ref (b + 1)), (2, .int (nI k)), (3, .int (lI v))]) (st' := [.int (nI (u - n) - 0)]) (H' := _) (kc' := 0) (ks' := 0) rfl ?_
  rw [show (nI (u - n) - 0 : Int32) = nI ((u - n) - 0) from pk_sub (a := (u - n)) (b := 0) (by omega)]
  refine RQ.blk 2 (pc' := 55) (lv' := [(5, .int (nI (n + 1))), (4, .int (-1)), (0, .ref 1), (1, .ref (b + 1)), (2, .int (nI k)), (3, .int (lI v))]) (st' := [.int (nI ((u - n) - 0) + nI k)]) (H' := _) (kc' := 0) (ks' := 0) rfl ?_
  rw [show (nI ((u - n) - 0) + nI k : Int32) = nI ((u - n) - 0 + k) from nI_add ((u - n) - 0) k]
  refine RQ.blk 3 (pc' := 60) (lv' := [(5, .int (nI (n + 1))), (4, .int (-1)), (0, .ref 1), (1, .ref (b + 1)), (2, .int (nI k)), (3, .int (lI v))]) (st' := [.int (if lI v < 0 then 0 else lI v), .int (nI ((u - n) - 0 + k))]) (H' := _) (kc' := 0) (ks' := 0) rfl ?_
  rw [maxL (by omega)]
  refine RQ.blk 1 (pc' := 61) (lv' := [(5, .int (nI (n + 1))), (4, .int (-1)), (0, .ref 1), (1, .ref (b + 1)), (2, .int (nI k)), (3, .int (lI v))]) (st' := [.int (nI ((u - n) - 0 + k) + nI (v.getD 0))]) (H' := _) (kc' := 0) (ks' := 0) rfl ?_
  rw [show (nI ((u - n) - 0 + k) + nI (v.getD 0) : Int32) = nI ((u - n) - 0 + k + (v.getD 0)) from nI_add ((u - n) - 0 + k) (v.getD 0)]
  refine RQ.blk 3 (pc' := 67) (lv' := [(6, .int (nI ((u - n) - 0 + k + (v.getD 0)))), (5, .int (nI (n + 1))), (4, .int (-1)), (0, .ref 1), (1, .ref (b + 1)), (2, .int (nI k)), (3, .int (lI v))]) (st' := [.int 32, .int (nI (n + 1))]) (H' := _) (kc' := 0) (ks' := 0) rfl ?_
  refine RQ.brF rfl rfl rfl (cF_gt (n + 1) 32) ?_
  refine RQ.blk 2 (pc' := 75) (lv' := [(6, .int (nI ((u - n) - 0 + k + (v.getD 0)))), (5, .int (nI (n + 1))), (4, .int (-1)), (0, .ref 1), (1, .ref (b + 1)), (2, .int (nI k)), (3, .int (lI v))]) (st' := [.int 4000, .int (nI ((u - n) - 0 + k + (v.getD 0)))]) (H' := _) (kc' := 0) (ks' := 0) rfl ?_
  refine RQ.brT rfl rfl rfl (cT_le (u - n - 0 + k + v.getD 0) 4000) ?_
  refine RQ.blk 2 (pc' := 92) (lv' := [(6, .int (nI ((u - n) - 0 + k + (v.getD 0)))), (5, .int (nI (n + 1))), (4, .int (-1)), (0, .ref 1), (1, .ref (b + 1)), (2, .int (nI k)), (3, .int (lI v))]) (st' := [.int (-1), .ref (b + 1)]) (H' := _) (kc' := 0) (ks' := 0) rfl ?_
  refine RQ.call (v := none) (st' := []) rfl rfl rfl rfl rfl rfl (args_v [.int (-1)] [] rfl rfl (Nat.le_of_ble_eq_true rfl) rfl hB.1 (Nat.le_of_ble_eq_true rfl)) (rc_dropN (by decide)) ?_
  refine RQ.blk 2 (pc' := 97) (lv' := [(6, .int (nI ((u - n) - 0 + k + (v.getD 0)))), (5, .int (nI (n + 1))), (4, .int (-1)), (0, .ref 1), (1, .ref (b + 1)), (2, .int (nI k)), (3, .int (lI v))]) (st' := [.ref 1, .ref (b + 1)]) (H' := _) (kc' := 0) (ks' := 0) rfl ?_
  refine RQ.get (ci := 11) rfl ((set_far (by decide)).trans ((set_far (by decide)).trans h0)) rfl rfl ?_
  refine RQ.get (ci := 5) rfl (get_set ((set_far (by decide)).trans h5)) rfl rfl ?_
  refine RQ.blk 1 (pc' := 104) (lv' := [(6, .int (nI ((u - n) - 0 + k + (v.getD 0)))), (5, .int (nI (n + 1))), (4, .int (-1)), (0, .ref 1), (1, .ref (b + 1)), (2, .int (nI k)), (3, .int (lI v))]) (st' := [.ref 1, .ref 7, .ref (b + 1)]) (H' := _) (kc' := 0) (ks' := 0) rfl ?_
  refine RQ.get (ci := 11) rfl ((set_far (by decide)).trans ((set_far (by decide)).trans h0)) rfl rfl ?_
  refine RQ.get (ci := 5) rfl (get_set ((set_far (by decide)).trans h5)) rfl rfl ?_
  refine RQ.blk 1 (pc' := 111) (lv' := [(6, .int (nI ((u - n) - 0 + k + (v.getD 0)))), (5, .int (nI (n + 1))), (4, .int (-1)), (0, .ref 1), (1, .ref (b + 1)), (2, .int (nI k)), (3, .int (lI v))]) (st' := [.int (lI v), .int (nI (k + 1)), .ref 7, .ref (b + 1)]) (H' := _) (kc' := 0) (ks' := 0) rfl ?_
  refine RQ.callI (st' := []) rfl rfl rfl rfl rfl rfl (args_v [.int (lI v), .int (nI (k + 1)), .ref 7] [] rfl rfl (Nat.le_of_ble_eq_true rfl) rfl hB.1 (Nat.le_of_ble_eq_true rfl)) (ri_badd (l := v) hB hk ((set_far (by decide)).trans (get_set h6)) (by decide) (by omega) (by omega) (by omega) (by omega)) (fun x H3 ha => ?_)
  obtain ⟨rfl, hB3, hs3⟩ := ha
  refine RQ.blk 2 (pc' := 117) (lv' := [(7, .int (nI (u + (k + 1)))), (6, .int (nI ((u - n) - 0 + k + (v.getD 0)))), (5, .int (nI (n + 1))), (4, .int (-1)), (0, .ref 1), (1, .ref (b + 1)), (2, .int (nI k)), (3, .int (lI v))]) (st' := [.ref 1]) (H' := _) (kc' := 0) (ks' := 0) rfl ?_
  refine RQ.get (ci := 11) rfl ((hs3 0 (by omega)).trans ((set_far (by decide)).trans ((set_far (by decide)).trans h0))) rfl rfl ?_
  refine RQ.get (ci := 5) rfl ((hs3 1 (by omega)).trans ((set_far (by decide)).trans ((set_far (by decide)).trans h1))) rfl rfl ?_
  refine RQ.blk 2 (pc' := 125) (lv' := [(7, .int (nI (u + (k + 1)))), (6, .int (nI ((u - n) - 0 + k + (v.getD 0)))), (5, .int (nI (n + 1))), (4, .int (-1)), (0, .ref 1), (1, .ref (b + 1)), (2, .int (nI k)), (3, .int (lI v))]) (st' := [.ref (b + 1), .int (nI k), .ref 3]) (H' := _) (kc' := 0) (ks' := 0) rfl ?_
  refine RQ.get (ci := 0) rfl hB3.1 rfl rfl ?_
  refine RQ.blk 2 (pc' := 131) (lv' := [(7, .int (nI (u + (k + 1)))), (6, .int (nI ((u - n) - 0 + k + (v.getD 0)))), (5, .int (nI (n + 1))), (4, .int (-1)), (0, .ref 1), (1, .ref (b + 1)), (2, .int (nI k)), (3, .int (lI v))]) (st' := [.int (lI v), .int (nI (u + (k + 1))), .ref (b + 1 + 1), .int (nI k), .ref 3]) (H' := _) (kc' := 0) (ks' := 0) rfl ?_
  cases v with
  | none =>
    refine RQ.call (v := none) (st' := []) rfl rfl rfl rfl rfl rfl rfl (rc_copyN (by decide)) ?_
    refine RQ.blk 1 (pc' := 135) (lv' := [(7, .int (nI (u + (k + 1)))), (6, .int (nI ((u - n) - 0 + k + ((none : Option Nat).getD 0)))), (5, .int (nI (n + 1))), (4, .int (-1)), (0, .ref 1), (1, .ref (b + 1)), (2, .int (nI k)), (3, .int (lI none))]) (st' := [.ref (b + 1)]) (H' := _) (kc' := 0) (ks' := 0) rfl ?_
    refine RQ.get (ci := 0) rfl hB3.1 rfl rfl ?_
    exact RQ.done (c := 0) (s := 0) rfl rfl rfl rfl ⟨_, _, rfl, rfl, by rw [show (none : Option Nat).getD 0 = 0 from rfl, cpy_0]; exact hB3, (hs3 5 (by omega)).trans (get_set ((set_far (by decide)).trans h5)), (hs3 6 (by omega)).trans ((set_far (by decide)).trans (get_set h6)), fun a ha h5 h6 => (hs3 a ha).trans ((set_far h5).trans (set_far h6))⟩
  | some m =>
    have hm0 : (some m : Option Nat).getD 0 = m := rfl
    refine RQ.call (v := none) (st' := []) rfl rfl rfl rfl rfl rfl rfl (rc_copy (k := m) ((hs3 2 (by omega)).trans ((set_far (by decide)).trans ((set_far (by decide)).trans h2))) hB3.2.1 (by decide) (by decide) hv (by have : (some m : Option Nat).getD 0 = m := rfl; omega)) ?_
    refine RQ.blk 1 (pc' := 135) (lv' := [(7, .int (nI (u + (k + 1)))), (6, .int (nI ((u - n) - 0 + k + ((some m : Option Nat).getD 0)))), (5, .int (nI (n + 1))), (4, .int (-1)), (0, .ref 1), (1, .ref (b + 1)), (2, .int (nI k)), (3, .int (nI m))]) (st' := [.ref (b + 1)]) (H' := _) (kc' := 0) (ks' := 0) rfl ?_
    refine RQ.get (ci := 0) rfl ((set_far (by omega)).trans hB3.1) rfl rfl ?_
    exact RQ.done (c := 0) (s := 0) rfl rfl rfl rfl ⟨_, _, rfl, rfl, ⟨(set_far (by omega)).trans hB3.1, get_set hB3.2.1, (set_far (by omega)).trans hB3.2.2.1, (set_far (by omega)).trans hB3.2.2.2.1, (set_far (by omega)).trans hB3.2.2.2.2⟩, (set_far (by omega)).trans ((hs3 5 (by omega)).trans (get_set ((set_far (by decide)).trans h5))), (set_far (by omega)).trans ((hs3 6 (by omega)).trans ((set_far (by decide)).trans (get_set h6))), fun a ha h5 h6 => (set_far (by omega)).trans ((hs3 a ha).trans ((set_far h5).trans (set_far h6)))⟩
theorem ri_intend_old {sc : Nat × (Nat → Int32)} {i : Nat} {d k b n u l q : Nat} {H : aH} {bl pr up cw cl cp cb : Int32} {f g : Nat → Int8} {D : Nat → Int8} {S K : Nat → Nat} {E : Nat → Option Nat} {v : Option Nat} (h0 : H[0]? = some (kO 11 (fvs bl pr up cw cl cp cb))) (h1 : H[1]? = some (kO 5 [.ref 3, .int (nI l)])) (h2 : H[2]? = some (kB 2000 f)) (h5 : H[5]? = some (kO 5 [.ref 7, .int (nI q)])) (h6 : H[6]? = some (kB 41 g)) (h : BatchAt H b D S K E n u) (hk : BatchOk S K E n u) (hb : 10 < b) (hkk : k ≤ 40) (hv : k + v.getD 0 ≤ 2000) (hun : n ≤ u) (hi : i < n) (he : sl D (S i) (K i) = sl (prb f g k) 0 (k + 1)) (hx : ∀ j, j < i → ¬ sl D (S j) (K j) = sl (prb f g k) 0 (k + 1)) (hK : 1 ≤ K i) (hu2 : n + (K i - 1 + (E i).getD 0) ≤ u) (hS : ∀ j, i < j → j < n → K i + (E i).getD 0 ≤ S j) (hkd : BatchOk (shF S (fun z => z - (K i + (E i).getD 0)) i (n - 1)) (shF K (fun z => z) i (n - 1)) (shF E (fun z => z) i (n - 1)) (n - 1) (u - (K i + (E i).getD 0))) (hn : n ≤ 32) (hc : u - n - (K i - 1 + (E i).getD 0) + k + v.getD 0 ≤ 4000) : RI sc (d + 4) mr_39 [.ref 1, .ref (b + 1), .int (nI k), .int (lI v)] H (fun x H' => x = nI ((n - 1) + 1) ∧ BatchAt H' b (cpy f k (cpy (prb f g k) 0 (cpy D (S i + (K i + (E i).getD 0)) D (S i) (u - S i - (K i + (E i).getD 0))) (u - (K i + (E i).getD 0)) (k + 1)) ((u - (K i + (E i).getD 0)) + (k + 1)) (v.getD 0)) (va_up (shF S (fun z => z - (K i + (E i).getD 0)) i (n - 1)) (n - 1) (u - (K i + (E i).getD 0))) (va_up (shF K (fun z => z) i (n - 1)) (n - 1) (k + 1)) (va_up (shF E (fun z => z) i (n - 1)) (n - 1) v) ((n - 1) + 1) ((u - (K i + (E i).getD 0)) + (k + 1 + v.getD 0)) ∧ H'[5]? = some (kO 5 [.ref 7, .int (nI (k + 1))]) ∧ H'[6]? = some (kB 41 (prb f g k)) ∧ ∀ a, ¬ (b ≤ a ∧ a < b + 5) → a ≠ 5 → a ≠ 6 → H'[a]? = H[a]?) := by
  refine RI.of ?_
  refine RQ.blk 2 (pc' := 2) (lv' := [(0, .ref 1), (1, .ref (b + 1)), (2, .int (nI k)), (3, .int (lI v))]) (st' := [.int (nI k), .ref 1]) (H' := _) (kc' := 0) (ks' := 0) rfl ?_
  refine RQ.call (v := none) (st' := []) rfl rfl rfl rfl rfl rfl (args_v [.int (nI k)] [] rfl rfl (Nat.le_of_ble_eq_true rfl) rfl h0 (Nat.le_of_ble_eq_true rfl)) (rc_probeUser h0 h1 h2 h5 h6 hkk) ?_
  have hB := h.far (H' := ((H.set 6 (kB 41 (prb f g k))).set 5 (kO 5 [.ref 7, .int (nI (k + 1))]))) (fun a ha hb2 => (set_far (by omega)).trans (set_far (by omega)))
  have hk1 := hk.1
  have hk2 := hk.2.1
  refine RQ.blk 2 (pc' := 7) (lv' := [(0, .ref 1), (1, .ref (b + 1)), (2, .int (nI k)), (3, .int (lI v))]) (st' := [.ref 1, .ref (b + 1)]) (H' := _) (kc' := 0) (ks' := 0) rfl ?_
  refine RQ.get (ci := 11) rfl ((set_far (by decide)).trans ((set_far (by decide)).trans h0)) rfl rfl ?_
  refine RQ.get (ci := 5) rfl (get_set ((set_far (by decide)).trans h5)) rfl rfl ?_
  refine RQ.blk 1 (pc' := 14) (lv' := [(0, .ref 1), (1, .ref (b + 1)), (2, .int (nI k)), (3, .int (lI v))]) (st' := [.ref 1, .ref 7, .ref (b + 1)]) (H' := _) (kc' := 0) (ks' := 0) rfl ?_
  refine RQ.get (ci := 11) rfl ((set_far (by decide)).trans ((set_far (by decide)).trans h0)) rfl rfl ?_
  refine RQ.get (ci := 5) rfl (get_set ((set_far (by decide)).trans h5)) rfl rfl ?_
  refine RQ.call (v := some (.int (nI i))) (st' := []) rfl rfl rfl rfl rfl rfl (args_v [.int (nI (k + 1)), .ref 7] [] rfl rfl (Nat.le_of_ble_eq_true rfl) rfl hB.1 (Nat.le_of_ble_eq_true rfl)) (rc_indexOf_some hB hk ((set_far (by decide)).trans (get_set h6)) (by decide) (by omega) hi he hx) ?_
  refine RQ.blk 2 (pc' := 26) (lv' := [(4, .int (nI i)), (0, .ref 1), (1, .ref (b + 1)), (2, .int (nI k)), (3, .int (lI v))]) (st' := [.ref (b + 1)]) (H' := _) (kc' := 0) (ks' := 0) rfl ?_
  refine RQ.get (ci := 0) rfl hB.1 rfl rfl ?_
  refine RQ.blk 1 (pc' := 31) (lv' := [(4, .int (nI i)), (0, .ref 1), (1, .ref (b + 1)), (2, .int (nI k)), (3, .int (lI v))]) (st' := [.int (nI i), .int (nI n)]) (H' := _) (kc' := 0) (ks' := 0) rfl ?_
  have hk3 := hk.2.2 i hi
  refine RQ.brT rfl rfl rfl (cT_ge i 0) ?_
  refine RQ.blk 2 (pc' := 40) (lv' := [(4, .int (nI i)), (0, .ref 1), (1, .ref (b + 1)), (2, .int (nI k)), (3, .int (lI v))]) (st' := [.int (nI n + 0)]) (H' := _) (kc' := 0) (ks' := 0) rfl ?_
  rw [show (nI n + 0 : Int32) = nI (n + 0) from nI_add n 0]
  refine RQ.blk 2 (pc' := 43) (lv' := [(5, .int (nI (n + 0))), (4, .int (nI i)), (0, .ref 1), (1, .ref (b + 1)), (2, .int (nI k)), (3, .int (lI v))]) (st' := [.ref (b + 1)]) (H' := _) (kc' := 0) (ks' := 0) rfl ?_
  refine RQ.call (v := some (.int (nI (u - n)))) (st' := []) rfl rfl rfl rfl rfl rfl (args_v [] [] rfl rfl (Nat.le_of_ble_eq_true rfl) rfl hB.1 (Nat.le_of_ble_eq_true rfl)) (rc_userBytes hB hk hun) ?_
  refine RQ.blk 2 (pc' := 49) (lv' := [(5, .int (nI (n + 0))), (4, .int (nI i)), (0, .ref 1), (1, .ref (b + 1)), (2, .int (nI k)), (3, .int (lI v))]) (st' := [.int (nI i), .ref (b + 1), .int (nI (u - n))]) (H' := _) (kc' := 0) (ks' := 0) rfl ?_
  refine RQ.call (v := some (.int (nI (K i - 1 + (E i).getD 0)))) (st' := [.int (nI (u - n))]) rfl rfl rfl rfl rfl rfl (args_v [.int (nI i)] [.int (nI (u - n))] rfl rfl (Nat.le_of_ble_eq_true rfl) rfl hB.1 (Nat.le_of_ble_eq_true rfl)) (rc_userBytesOf hB hk hi hK) ?_
  refine RQ.blk 1 (pc' := 53) (lv' := [(5, .int (nI (n + 0))), (4, .int (nI i)), (0, .ref 1), (1, .ref (b + 1)), (2, .int (nI k)), (3, .int (lI v))]) (st' := [.int (nI (u - n) - nI (K i - 1 + (E i).getD 0))]) (H' := _) (kc' := 0) (ks' := 0) rfl ?_
  rw [show (nI (u - n) - nI (K i - 1 + (E i).getD 0) : Int32) = nI ((u - n) - (K i - 1 + (E i).getD 0)) from pk_sub (a := (u - n)) (b := (K i - 1 + (E i).getD 0)) (by omega)]
  refine RQ.blk 2 (pc' := 55) (lv' := [(5, .int (nI (n + 0))), (4, .int (nI i)), (0, .ref 1), (1, .ref (b + 1)), (2, .int (nI k)), (3, .int (lI v))]) (st' := [.int (nI ((u - n) - (K i - 1 + (E i).getD 0)) + nI k)]) (H' := _) (kc' := 0) (ks' := 0) rfl ?_
  rw [show (nI ((u - n) - (K i - 1 + (E i).getD 0)) + nI k : Int32) = nI ((u - n) - (K i - 1 + (E i).getD 0) + k) from nI_add ((u - n) - (K i - 1 + (E i).getD 0)) k]
  refine RQ.blk 3 (pc' := 60) (lv' := [(5, .int (nI (n + 0))), (4, .int (nI i)), (0, .ref 1), (1, .ref (b + 1)), (2, .int (nI k)), (3, .int (lI v))]) (st' := [.int (if lI v < 0 then 0 else lI v), .int (nI ((u - n) - (K i - 1 + (E i).getD 0) + k))]) (H' := _) (kc' := 0) (ks' := 0) rfl ?_
  rw [maxL (by omega)]
  refine RQ.blk 1 (pc' := 61) (lv' := [(5, .int (nI (n + 0))), (4, .int (nI i)), (0, .ref 1), (1, .ref (b + 1)), (2, .int (nI k)), (3, .int (lI v))]) (st' := [.int (nI ((u - n) - (K i - 1 + (E i).getD 0) + k) + nI (v.getD 0))]) (H' := _) (kc' := 0) (ks' := 0) rfl ?_
  rw [show (nI ((u - n) - (K i - 1 + (E i).getD 0) + k) + nI (v.getD 0) : Int32) = nI ((u - n) - (K i - 1 + (E i).getD 0) + k + (v.getD 0)) from nI_add ((u - n) - (K i - 1 + (E i).getD 0) + k) (v.getD 0)]
  refine RQ.blk 3 (pc' := 67) (lv' := [(6, .int (nI ((u - n) - (K i - 1 + (E i).getD 0) + k + (v.getD 0)))), (5, .int (nI (n + 0))), (4, .int (nI i)), (0, .ref 1), (1, .ref (b + 1)), (2, .int (nI k)), (3, .int (lI v))]) (st' := [.int 32, .int (nI (n + 0))]) (H' := _) (kc' := 0) (ks' := 0) rfl ?_
  refine RQ.brF rfl rfl rfl (cF_gt (n + 0) 32) ?_
  refine RQ.blk 2 (pc' := 75) (lv' := [(6, .int (nI ((u - n) - (K i - 1 + (E i).getD 0) + k + (v.getD 0)))), (5, .int (nI (n + 0))), (4, .int (nI i)), (0, .ref 1), (1, .ref (b + 1)), (2, .int (nI k)), (3, .int (lI v))]) (st' := [.int 4000, .int (nI ((u - n) - (K i - 1 + (E i).getD 0) + k + (v.getD 0)))]) (H' := _) (kc' := 0) (ks' := 0) rfl ?_
  refine RQ.brT rfl rfl rfl (cT_le (u - n - (K i - 1 + (E i).getD 0) + k + v.getD 0) 4000) ?_
  refine RQ.blk 2 (pc' := 92) (lv' := [(6, .int (nI ((u - n) - (K i - 1 + (E i).getD 0) + k + (v.getD 0)))), (5, .int (nI (n + 0))), (4, .int (nI i)), (0, .ref 1), (1, .ref (b + 1)), (2, .int (nI k)), (3, .int (lI v))]) (st' := [.int (nI i), .ref (b + 1)]) (H' := _) (kc' := 0) (ks' := 0) rfl ?_
  refine RQ.callN (st' := []) rfl rfl rfl rfl rfl rfl (args_v [.int (nI i)] [] rfl rfl (Nat.le_of_ble_eq_true rfl) rfl hB.1 (Nat.le_of_ble_eq_true rfl)) (rn_drop hB hk hi hS) (fun H2 hd => ?_)
  obtain ⟨hB2, hs2⟩ := hd
  have hk5 : BatchOk (shF S (fun z => z - (K i + (E i).getD 0)) i (n - 1)) (shF K (fun z => z) i (n - 1)) (shF E (fun z => z) i (n - 1)) (n - 1) (u - (K i + (E i).getD 0)) := hkd
  refine RQ.blk 2 (pc' := 97) (lv' := [(6, .int (nI ((u - n) - (K i - 1 + (E i).getD 0) + k + (v.getD 0)))), (5, .int (nI (n + 0))), (4, .int (nI i)), (0, .ref 1), (1, .ref (b + 1)), (2, .int (nI k)), (3, .int (lI v))]) (st' := [.ref 1, .ref (b + 1)]) (H' := _) (kc' := 0) (ks' := 0) rfl ?_
  refine RQ.get (ci := 11) rfl ((hs2 0 (by omega)).trans ((set_far (by decide)).trans ((set_far (by decide)).trans h0))) rfl rfl ?_
  refine RQ.get (ci := 5) rfl ((hs2 5 (by omega)).trans (get_set ((set_far (by decide)).trans h5))) rfl rfl ?_
  refine RQ.blk 1 (pc' := 104) (lv' := [(6, .int (nI ((u - n) - (K i - 1 + (E i).getD 0) + k + (v.getD 0)))), (5, .int (nI (n + 0))), (4, .int (nI i)), (0, .ref 1), (1, .ref (b + 1)), (2, .int (nI k)), (3, .int (lI v))]) (st' := [.ref 1, .ref 7, .ref (b + 1)]) (H' := _) (kc' := 0) (ks' := 0) rfl ?_
  refine RQ.get (ci := 11) rfl ((hs2 0 (by omega)).trans ((set_far (by decide)).trans ((set_far (by decide)).trans h0))) rfl rfl ?_
  refine RQ.get (ci := 5) rfl ((hs2 5 (by omega)).trans (get_set ((set_far (by decide)).trans h5))) rfl rfl ?_
  refine RQ.blk 1 (pc' := 111) (lv' := [(6, .int (nI ((u - n) - (K i - 1 + (E i).getD 0) + k + (v.getD 0)))), (5, .int (nI (n + 0))), (4, .int (nI i)), (0, .ref 1), (1, .ref (b + 1)), (2, .int (nI k)), (3, .int (lI v))]) (st' := [.int (lI v), .int (nI (k + 1)), .ref 7, .ref (b + 1)]) (H' := _) (kc' := 0) (ks' := 0) rfl ?_
  refine RQ.callI (st' := []) rfl rfl rfl rfl rfl rfl (args_v [.int (lI v), .int (nI (k + 1)), .ref 7] [] rfl rfl (Nat.le_of_ble_eq_true rfl) rfl hB2.1 (Nat.le_of_ble_eq_true rfl)) (ri_badd (l := v) hB2 hk5 ((hs2 6 (by omega)).trans ((set_far (by decide)).trans (get_set h6))) (by decide) (by omega) (by omega) (by omega) (by omega)) (fun x H3 ha => ?_)
  obtain ⟨rfl, hB3, hs3⟩ := ha
  refine RQ.blk 2 (pc' := 117) (lv' := [(7, .int (nI ((u - (K i + (E i).getD 0)) + (k + 1)))), (6, .int (nI ((u - n) - (K i - 1 + (E i).getD 0) + k + (v.getD 0)))), (5, .int (nI (n + 0))), (4, .int (nI i)), (0, .ref 1), (1, .ref (b + 1)), (2, .int (nI k)), (3, .int (lI v))]) (st' := [.ref 1]) (H' := _) (kc' := 0) (ks' := 0) rfl ?_
  refine RQ.get (ci := 11) rfl ((hs3 0 (by omega)).trans ((hs2 0 (by omega)).trans ((set_far (by decide)).trans ((set_far (by decide)).trans h0)))) rfl rfl ?_
  refine RQ.get (ci := 5) rfl ((hs3 1 (by omega)).trans ((hs2 1 (by omega)).trans ((set_far (by decide)).trans ((set_far (by decide)).trans h1)))) rfl rfl ?_
  refine RQ.blk 2 (pc' := 125) (lv' := [(7, .int (nI ((u - (K i + (E i).getD 0)) + (k + 1)))), (6, .int (nI ((u - n) - (K i - 1 + (E i).getD 0) + k + (v.getD 0)))), (5, .int (nI (n + 0))), (4, .int (nI i)), (0, .ref 1), (1, .ref (b + 1)), (2, .int (nI k)), (3, .int (lI v))]) (st' := [.ref (b + 1), .int (nI k), .ref 3]) (H' := _) (kc' := 0) (ks' := 0) rfl ?_
  refine RQ.get (ci := 0) rfl hB3.1 rfl rfl ?_
  refine RQ.blk 2 (pc' := 131) (lv' := [(7, .int (nI ((u - (K i + (E i).getD 0)) + (k + 1)))), (6, .int (nI ((u - n) - (K i - 1 + (E i).getD 0) + k + (v.getD 0)))), (5, .int (nI (n + 0))), (4, .int (nI i)), (0, .ref 1), (1, .ref (b + 1)), (2, .int (nI k)), (3, .int (lI v))]) (st' := [.int (lI v), .int (nI ((u - (K i + (E i).getD 0)) + (k + 1))), .ref (b + 1 + 1), .int (nI k), .ref 3]) (H' := _) (kc' := 0) (ks' := 0) rfl ?_
  cases v with
  | none =>
    refine RQ.call (v := none) (st' := []) rfl rfl rfl rfl rfl rfl rfl (rc_copyN (by decide)) ?_
    refine RQ.blk 1 (pc' := 135) (lv' := [(7, .int (nI ((u - (K i + (E i).getD 0)) + (k + 1)))), (6, .int (nI ((u - n) - (K i - 1 + (E i).getD 0) + k + ((none : Option Nat).getD 0)))), (5, .int (nI (n + 0))), (4, .int (nI i)), (0, .ref 1), (1, .ref (b + 1)), (2, .int (nI k)), (3, .int (lI none))]) (st' := [.ref (b + 1)]) (H' := _) (kc' := 0) (ks' := 0) rfl ?_
    refine RQ.get (ci := 0) rfl hB3.1 rfl rfl ?_
    exact RQ.done (c := 0) (s := 0) rfl rfl rfl rfl ⟨_, _, rfl, rfl, by rw [show (none : Option Nat).getD 0 = 0 from rfl, cpy_0]; exact hB3, (hs3 5 (by omega)).trans ((hs2 5 (by omega)).trans (get_set ((set_far (by decide)).trans h5))), (hs3 6 (by omega)).trans ((hs2 6 (by omega)).trans ((set_far (by decide)).trans (get_set h6))), fun a ha h5 h6 => (hs3 a ha).trans ((hs2 a ha).trans ((set_far h5).trans (set_far h6)))⟩
  | some m =>
    have hm0 : (some m : Option Nat).getD 0 = m := rfl
    refine RQ.call (v := none) (st' := []) rfl rfl rfl rfl rfl rfl rfl (rc_copy (k := m) ((hs3 2 (by omega)).trans ((hs2 2 (by omega)).trans ((set_far (by decide)).trans ((set_far (by decide)).trans h2)))) hB3.2.1 (by decide) (by decide) hv (by have : (some m : Option Nat).getD 0 = m := rfl; omega)) ?_
    refine RQ.blk 1 (pc' := 135) (lv' := [(7, .int (nI ((u - (K i + (E i).getD 0)) + (k + 1)))), (6, .int (nI ((u - n) - (K i - 1 + (E i).getD 0) + k + ((some m : Option Nat).getD 0)))), (5, .int (nI (n + 0))), (4, .int (nI i)), (0, .ref 1), (1, .ref (b + 1)), (2, .int (nI k)), (3, .int (nI m))]) (st' := [.ref (b + 1)]) (H' := _) (kc' := 0) (ks' := 0) rfl ?_
    refine RQ.get (ci := 0) rfl ((set_far (by omega)).trans hB3.1) rfl rfl ?_
    exact RQ.done (c := 0) (s := 0) rfl rfl rfl rfl ⟨_, _, rfl, rfl, ⟨(set_far (by omega)).trans hB3.1, get_set hB3.2.1, (set_far (by omega)).trans hB3.2.2.1, (set_far (by omega)).trans hB3.2.2.2.1, (set_far (by omega)).trans hB3.2.2.2.2⟩, (set_far (by omega)).trans ((hs3 5 (by omega)).trans ((hs2 5 (by omega)).trans (get_set ((set_far (by decide)).trans h5)))), (set_far (by omega)).trans ((hs3 6 (by omega)).trans ((hs2 6 (by omega)).trans ((set_far (by decide)).trans (get_set h6)))), fun a ha h5 h6 => (set_far (by omega)).trans ((hs3 a ha).trans ((hs2 a ha).trans ((set_far h5).trans (set_far h6))))⟩
