/-! ===== the reference: commit, case by case; written by wip/gen/mcommit.py ===== -/
theorem rc_mtakeBack {sc : Nat × (Nat → Int32)} {d p : Nat} {H : aH} {x y : Int32} {fa li dn cw cl tp rs ve us pi hu : Int32} {ba bo : Nat} (hm : H[195]? = some (kO 12 (mfs fa li dn cw cl tp rs (nI (p + 1)) ve us pi hu ba bo))) : RC sc d mr_298 [.ref 196, .int x, .int y] H (.inl none) (H.set 195 (kO 12 (mfs fa li dn cw cl tp rs (nI p) x y pi hu ba bo))) 0 0 := by
  refine RP.blk 2 (pc' := 2) (lv' := [(0, .ref 196), (1, .int x), (2, .int y)]) (st' := [.int x, .ref 196]) (H' := _) (kc' := 0) (ks' := 0) rfl ?_
  refine RP.put (ci := 12) rfl hm rfl rfl (Nat.le_of_ble_eq_true rfl) ?_
  refine RP.blk 2 (pc' := 7) (lv' := [(0, .ref 196), (1, .int x), (2, .int y)]) (st' := [.int y, .ref 196]) (H' := _) (kc' := 0) (ks' := 0) rfl ?_
  refine RP.put (ci := 12) rfl (get_set hm) rfl rfl (Nat.le_of_ble_eq_true rfl) ?_
  refine RP.blk 2 (pc' := 12) (lv' := [(0, .ref 196), (1, .int x), (2, .int y)]) (st' := [.ref 196, .ref 196]) (H' := _) (kc' := 0) (ks' := 0) rfl ?_
  refine RP.get (ci := 12) rfl (get_set (get_set hm)) rfl rfl ?_
  refine RP.blk 2 (pc' := 17) (lv' := [(0, .ref 196), (1, .int x), (2, .int y)]) (st' := [.int (nI (p + 1) - 1), .ref 196]) (H' := _) (kc' := 0) (ks' := 0) rfl ?_
  rw [show (nI (p + 1) - 1 : Int32) = nI ((p + 1) - 1) from pk_sub (a := (p + 1)) (b := 1) (by omega)]
  refine RP.put (ci := 12) rfl (get_set (get_set hm)) rfl rfl (Nat.le_of_ble_eq_true rfl) ?_
  rw [set_set, set_set]
  rw [show p + 1 - 1 = p from rfl]
  exact RP.done (c := 0) (s := 0) rfl rfl rfl rfl
theorem ri_mcommit0 {sc : Nat × (Nat → Int32)} {d t p us pc : Nat} {H : aH} {fa li cw cl tp rs hu : Int32} {ba bo : Nat} {ms : List aMV} {ro fi wk wn : Nat → Nat} {wz : Nat → Option Nat} {wb : Nat → Int8} {ws : List aE} {op : Nat → Bool} {se : Nat → Nat} (hm : H[195]? = some (kO 12 (mfs fa li 0 cw cl tp rs (nI p) (nI ms.length) (nI us) (nI pc) hu ba bo))) (hI : MVIs H ba bo us ms) (hk : MSOk ms) (hR : MRAt H ro fi wk wn wz wb) (hT : TxL ro fi wk wn wz wb t ws) (ht : t < 8) (hop : op t = true) (h5 : H[205]? = some (kZ 8 op)) (h6 : H[206]? = some (kI 8 (fun j => nI (se j)))) (hse : ∀ t, t < 8 → se t < 2 ^ 31) (hp : p + 1 < 2 ^ 31) (hws : ws = []) : RI sc (d + 4) mr_295 [.ref 196, .int (nI t)] H (fun z H' => z = nI p ∧ ∃ us', H'[195]? = some (kO 12 (mfs 0 li 0 cw cl tp rs (nI p) (nI (ms.filter (keepM (va_up op t false) se p (kmM ms))).length) (nI us') (nI pc) hu bo ba)) ∧ MVIs H' bo ba us' (ms.filter (keepM (va_up op t false) se p (kmM ms))) ∧ H'[205]? = some (kZ 8 (va_up op t false)) ∧ ∀ a, ¬ (a = 195 ∨ 198 ≤ a ∧ a ≤ 204 ∨ a = 223) → a ≠ 205 → H'[a]? = H[a]?) := by
  have hbab := hI.2.2.2.2
  have hro : ro t = 0 := by rw [hT.1, hws]; rfl
  refine RI.of ?_
  refine RQ.blk 2 (pc' := 2) (lv' := [(0, .ref 196), (1, .int (nI t))]) (st' := [.int 0, .ref 196]) (H' := _) (kc' := 0) (ks' := 0) rfl ?_
  refine RQ.put (ci := 12) rfl hm rfl rfl (Nat.le_of_ble_eq_true rfl) ?_
  refine RQ.blk 3 (pc' := 9) (lv' := [(0, .ref 196), (1, .int (nI t))]) (st' := [.int 8, .int (nI t), .ref 196]) (H' := _) (kc' := 0) (ks' := 0) rfl ?_
  refine RQ.call (v := some (.int 0)) (st' := []) rfl rfl rfl rfl rfl rfl (args_v [.int 8, .int (nI t)] [] rfl rfl (Nat.le_of_ble_eq_true rfl) rfl (get_set hm) (Nat.le_of_ble_eq_true rfl)) (rc_out ht (by decide)) ?_
  refine RQ.brT rfl rfl rfl (by decide) ?_
  refine RQ.blk 1 (pc' := 22) (lv' := [(0, .ref 196), (1, .int (nI t))]) (st' := [.ref 196]) (H' := _) (kc' := 0) (ks' := 0) rfl ?_
  refine RQ.get (ci := 12) rfl (get_set hm) rfl rfl ?_
  refine RQ.brT rfl rfl rfl (by decide) ?_
  refine RQ.blk 1 (pc' := 35) (lv' := [(0, .ref 196), (1, .int (nI t))]) (st' := [.ref 196]) (H' := _) (kc' := 0) (ks' := 0) rfl ?_
  refine RQ.get (ci := 12) rfl (get_set hm) rfl rfl ?_
  refine RQ.blk 1 (pc' := 39) (lv' := [(0, .ref 196), (1, .int (nI t))]) (st' := [.int (nI t), .ref 206]) (H' := _) (kc' := 0) (ks' := 0) rfl ?_
  refine RQ.zaldN (j := t) rfl ((set_far (by decide)).trans h5) (by omega) (by decide) ?_
  refine RQ.brT rfl rfl rfl (by rw [hop]; decide) ?_
  refine RQ.blk 1 (pc' := 50) (lv' := [(0, .ref 196), (1, .int (nI t))]) (st' := [.ref 196]) (H' := _) (kc' := 0) (ks' := 0) rfl ?_
  refine RQ.get (ci := 12) rfl (get_set hm) rfl rfl ?_
  refine RQ.blk 1 (pc' := 54) (lv' := [(0, .ref 196), (1, .int (nI t))]) (st' := [.int (nI t), .ref 208]) (H' := _) (kc' := 0) (ks' := 0) rfl ?_
  refine RQ.ialdN (j := t) rfl ((set_far (by decide)).trans hR.1) (by omega) (by decide) ?_
  refine RQ.brT rfl rfl rfl (by rw [hro]; decide) ?_
  refine RQ.blk 1 (pc' := 67) (lv' := [(0, .ref 196), (1, .int (nI t))]) (st' := [.ref 196]) (H' := _) (kc' := 0) (ks' := 0) rfl ?_
  refine RQ.get (ci := 12) rfl (get_set hm) rfl rfl ?_
  refine RQ.blk 1 (pc' := 71) (lv' := [(0, .ref 196), (1, .int (nI t))]) (st' := [.int (nI t), .ref 208]) (H' := _) (kc' := 0) (ks' := 0) rfl ?_
  refine RQ.ialdN (j := t) rfl ((set_far (by decide)).trans hR.1) (by omega) (by decide) ?_
  refine RQ.brF rfl rfl rfl (by rw [hro]; decide) ?_
  refine RQ.blk 4 (pc' := 82) (lv' := [(2, .int 1), (0, .ref 196), (1, .int (nI t))]) (st' := [.ref 196]) (H' := _) (kc' := 0) (ks' := 0) rfl ?_
  refine RQ.get (ci := 12) rfl (get_set hm) rfl rfl ?_
  refine RQ.blk 2 (pc' := 87) (lv' := [(2, .int 1), (0, .ref 196), (1, .int (nI t))]) (st' := [.int 0, .int (nI t), .ref 206]) (H' := _) (kc' := 0) (ks' := 0) rfl ?_
  refine RQ.zastN (j := t) rfl ((set_far (by decide)).trans h5) (by omega) (by decide) ?_
  refine RQ.blk 1 (pc' := 89) (lv' := [(2, .int 1), (0, .ref 196), (1, .int (nI t))]) (st' := [.ref 196]) (H' := _) (kc' := 0) (ks' := 0) rfl ?_
  have far1 : ∀ a, a ≠ 195 → a ≠ 205 → ((H.set 195 (kO 12 (mfs 0 li 0 cw cl tp rs (nI p) (nI ms.length) (nI us) (nI pc) hu ba bo))).set 205 (kZ 8 (va_up op t false)))[a]? = H[a]? := fun a h1 h2 => (set_far h2).trans (set_far h1)
  have hm2 : ((H.set 195 (kO 12 (mfs 0 li 0 cw cl tp rs (nI p) (nI ms.length) (nI us) (nI pc) hu ba bo))).set 205 (kZ 8 (va_up op t false)))[195]? = some (kO 12 (mfs 0 li 0 cw cl tp rs (nI p) (nI ms.length) (nI us) (nI pc) hu ba bo)) := (set_far (by decide)).trans (get_set hm)
  have h52 : ((H.set 195 (kO 12 (mfs 0 li 0 cw cl tp rs (nI p) (nI ms.length) (nI us) (nI pc) hu ba bo))).set 205 (kZ 8 (va_up op t false)))[205]? = some (kZ 8 (va_up op t false)) := get_set ((set_far (by decide)).trans h5)
  refine RQ.callN (st' := []) rfl rfl rfl rfl rfl rfl (args_v [] [] rfl rfl (Nat.le_of_ble_eq_true rfl) rfl hm2 (Nat.le_of_ble_eq_true rfl)) (rn_pruneL (op := (va_up op t false)) hm2 (hI.far (fun a h1 h2 => far1 a (by omega) (by omega)) (far1 223 (by decide) (by decide))) hk h52 ((far1 206 (by decide) (by decide)).trans h6) hse (by omega)) (fun H3 hx => ?_)
  obtain ⟨us', x1, x2, x3⟩ := hx
  refine RQ.blk 1 (pc' := 93) (lv' := [(2, .int 1), (0, .ref 196), (1, .int (nI t))]) (st' := [.int 1]) (H' := _) (kc' := 0) (ks' := 0) rfl ?_
  refine RQ.brF rfl rfl rfl (by decide) ?_
  refine RQ.blk 1 (pc' := 97) (lv' := [(2, .int 1), (0, .ref 196), (1, .int (nI t))]) (st' := [.ref 196]) (H' := _) (kc' := 0) (ks' := 0) rfl ?_
  refine RQ.get (ci := 12) rfl x1 rfl rfl ?_
  refine RQ.blk 1 (pc' := 108) (lv' := [(2, .int 1), (0, .ref 196), (1, .int (nI t))]) (st' := [.int (nI p)]) (H' := _) (kc' := 0) (ks' := 0) rfl ?_
  exact RQ.done (c := 0) (s := 0) rfl rfl rfl rfl ⟨_, _, rfl, rfl, us', x1, x2, (x3 205 (by omega)).trans h52, fun a h1 h2 => (x3 a (by omega)).trans (far1 a (by omega) h2)⟩
theorem ri_mcommit1 {sc : Nat × (Nat → Int32)} {d t p us pc : Nat} {H : aH} {fa li cw cl tp rs hu : Int32} {ba bo : Nat} {ms : List aMV} {ro fi wk wn : Nat → Nat} {wz : Nat → Option Nat} {wb : Nat → Int8} {ws : List aE} {op : Nat → Bool} {se : Nat → Nat} (hm : H[195]? = some (kO 12 (mfs fa li 0 cw cl tp rs (nI p) (nI ms.length) (nI us) (nI pc) hu ba bo))) (hI : MVIs H ba bo us ms) (hk : MSOk ms) (hR : MRAt H ro fi wk wn wz wb) (hT : TxL ro fi wk wn wz wb t ws) (ht : t < 8) (hop : op t = true) (h5 : H[205]? = some (kZ 8 op)) (h6 : H[206]? = some (kI 8 (fun j => nI (se j)))) (hse : ∀ t, t < 8 → se t < 2 ^ 31) (hp : p + 1 < 2 ^ 31) (hws : ws ≠ []) (hcol : ws.any (fun e => colM ms p (se t) e.1) = true) (h1M : OneM ms) : RI sc (d + 4) mr_295 [.ref 196, .int (nI t)] H (fun z H' => z = 0 ∧ ∃ us', H'[195]? = some (kO 12 (mfs 4 li 0 cw cl tp rs (nI p) (nI (ms.filter (keepM (va_up op t false) se p (kmM ms))).length) (nI us') (nI pc) hu bo ba)) ∧ MVIs H' bo ba us' (ms.filter (keepM (va_up op t false) se p (kmM ms))) ∧ H'[205]? = some (kZ 8 (va_up op t false)) ∧ ∀ a, ¬ (a = 195 ∨ 198 ≤ a ∧ a ≤ 204 ∨ a = 223) → a ≠ 205 → H'[a]? = H[a]?) := by
  have hbab := hI.2.2.2.2
  have hro := hT.1
  have hlen := hT.2.2.1
  have hro1 : ¬ ro t = 0 := fun e => hws (List.length_eq_zero_iff.mp (by omega))
  refine RI.of ?_
  refine RQ.blk 2 (pc' := 2) (lv' := [(0, .ref 196), (1, .int (nI t))]) (st' := [.int 0, .ref 196]) (H' := _) (kc' := 0) (ks' := 0) rfl ?_
  refine RQ.put (ci := 12) rfl hm rfl rfl (Nat.le_of_ble_eq_true rfl) ?_
  refine RQ.blk 3 (pc' := 9) (lv' := [(0, .ref 196), (1, .int (nI t))]) (st' := [.int 8, .int (nI t), .ref 196]) (H' := _) (kc' := 0) (ks' := 0) rfl ?_
  refine RQ.call (v := some (.int 0)) (st' := []) rfl rfl rfl rfl rfl rfl (args_v [.int 8, .int (nI t)] [] rfl rfl (Nat.le_of_ble_eq_true rfl) rfl (get_set hm) (Nat.le_of_ble_eq_true rfl)) (rc_out ht (by decide)) ?_
  refine RQ.brT rfl rfl rfl (by decide) ?_
  refine RQ.blk 1 (pc' := 22) (lv' := [(0, .ref 196), (1, .int (nI t))]) (st' := [.ref 196]) (H' := _) (kc' := 0) (ks' := 0) rfl ?_
  refine RQ.get (ci := 12) rfl (get_set hm) rfl rfl ?_
  refine RQ.brT rfl rfl rfl (by decide) ?_
  refine RQ.blk 1 (pc' := 35) (lv' := [(0, .ref 196), (1, .int (nI t))]) (st' := [.ref 196]) (H' := _) (kc' := 0) (ks' := 0) rfl ?_
  refine RQ.get (ci := 12) rfl (get_set hm) rfl rfl ?_
  refine RQ.blk 1 (pc' := 39) (lv' := [(0, .ref 196), (1, .int (nI t))]) (st' := [.int (nI t), .ref 206]) (H' := _) (kc' := 0) (ks' := 0) rfl ?_
  refine RQ.zaldN (j := t) rfl ((set_far (by decide)).trans h5) (by omega) (by decide) ?_
  refine RQ.brT rfl rfl rfl (by rw [hop]; decide) ?_
  refine RQ.blk 1 (pc' := 50) (lv' := [(0, .ref 196), (1, .int (nI t))]) (st' := [.ref 196]) (H' := _) (kc' := 0) (ks' := 0) rfl ?_
  refine RQ.get (ci := 12) rfl (get_set hm) rfl rfl ?_
  refine RQ.blk 1 (pc' := 54) (lv' := [(0, .ref 196), (1, .int (nI t))]) (st' := [.int (nI t), .ref 208]) (H' := _) (kc' := 0) (ks' := 0) rfl ?_
  refine RQ.ialdN (j := t) rfl ((set_far (by decide)).trans hR.1) (by omega) (by decide) ?_
  refine RQ.brF rfl rfl rfl (cF_eq (ro t) 0) ?_
  refine RQ.blk 2 (pc' := 60) (lv' := [(0, .ref 196), (1, .int (nI t))]) (st' := [.int (nI t), .ref 196]) (H' := _) (kc' := 0) (ks' := 0) rfl ?_
  obtain ⟨⟨bf, ko, kn, vo, vz, vm, hA, hL⟩, -⟩ := id hI
  have hcl := rc_mcollides (sc := sc) (d := d + 1) (get_set hm : (H.set 195 (kO 12 (mfs 0 li 0 cw cl tp rs (nI p) (nI ms.length) (nI us) (nI pc) hu ba bo)))[195]? = _) (hA.far (fun a h1 h2 => set_far (by omega)) (set_far (by omega))) hL hk (hR.far (fun a h1 h2 => set_far (by omega))) hT ht ((set_far (by decide)).trans h6) (hse t ht) (by omega) h1M
  rw [if_pos hcol] at hcl
  refine RQ.call (v := some (.int 1)) (st' := []) rfl rfl rfl rfl rfl rfl (args_v [.int (nI t)] [] rfl rfl (Nat.le_of_ble_eq_true rfl) rfl (get_set hm) (Nat.le_of_ble_eq_true rfl)) hcl ?_
  refine RQ.brF rfl rfl rfl (by decide) ?_
  refine RQ.blk 1 (pc' := 67) (lv' := [(0, .ref 196), (1, .int (nI t))]) (st' := [.ref 196]) (H' := _) (kc' := 0) (ks' := 0) rfl ?_
  refine RQ.get (ci := 12) rfl (get_set hm) rfl rfl ?_
  refine RQ.blk 1 (pc' := 71) (lv' := [(0, .ref 196), (1, .int (nI t))]) (st' := [.int (nI t), .ref 208]) (H' := _) (kc' := 0) (ks' := 0) rfl ?_
  refine RQ.ialdN (j := t) rfl ((set_far (by decide)).trans hR.1) (by omega) (by decide) ?_
  refine RQ.brT rfl rfl rfl (cT_ne (ro t) 0) ?_
  refine RQ.blk 3 (pc' := 82) (lv' := [(2, .int 0), (0, .ref 196), (1, .int (nI t))]) (st' := [.ref 196]) (H' := _) (kc' := 0) (ks' := 0) rfl ?_
  refine RQ.get (ci := 12) rfl (get_set hm) rfl rfl ?_
  refine RQ.blk 2 (pc' := 87) (lv' := [(2, .int 0), (0, .ref 196), (1, .int (nI t))]) (st' := [.int 0, .int (nI t), .ref 206]) (H' := _) (kc' := 0) (ks' := 0) rfl ?_
  refine RQ.zastN (j := t) rfl ((set_far (by decide)).trans h5) (by omega) (by decide) ?_
  refine RQ.blk 1 (pc' := 89) (lv' := [(2, .int 0), (0, .ref 196), (1, .int (nI t))]) (st' := [.ref 196]) (H' := _) (kc' := 0) (ks' := 0) rfl ?_
  have far1 : ∀ a, a ≠ 195 → a ≠ 205 → ((H.set 195 (kO 12 (mfs 0 li 0 cw cl tp rs (nI p) (nI ms.length) (nI us) (nI pc) hu ba bo))).set 205 (kZ 8 (va_up op t false)))[a]? = H[a]? := fun a h1 h2 => (set_far h2).trans (set_far h1)
  have hm2 : ((H.set 195 (kO 12 (mfs 0 li 0 cw cl tp rs (nI p) (nI ms.length) (nI us) (nI pc) hu ba bo))).set 205 (kZ 8 (va_up op t false)))[195]? = some (kO 12 (mfs 0 li 0 cw cl tp rs (nI p) (nI ms.length) (nI us) (nI pc) hu ba bo)) := (set_far (by decide)).trans (get_set hm)
  have h52 : ((H.set 195 (kO 12 (mfs 0 li 0 cw cl tp rs (nI p) (nI ms.length) (nI us) (nI pc) hu ba bo))).set 205 (kZ 8 (va_up op t false)))[205]? = some (kZ 8 (va_up op t false)) := get_set ((set_far (by decide)).trans h5)
  refine RQ.callN (st' := []) rfl rfl rfl rfl rfl rfl (args_v [] [] rfl rfl (Nat.le_of_ble_eq_true rfl) rfl hm2 (Nat.le_of_ble_eq_true rfl)) (rn_pruneL (op := (va_up op t false)) hm2 (hI.far (fun a h1 h2 => far1 a (by omega) (by omega)) (far1 223 (by decide) (by decide))) hk h52 ((far1 206 (by decide) (by decide)).trans h6) hse (by omega)) (fun H3 hx => ?_)
  obtain ⟨us', x1, x2, x3⟩ := hx
  refine RQ.blk 1 (pc' := 93) (lv' := [(2, .int 0), (0, .ref 196), (1, .int (nI t))]) (st' := [.int 0]) (H' := _) (kc' := 0) (ks' := 0) rfl ?_
  refine RQ.brT rfl rfl rfl (by decide) ?_
  refine RQ.blk 2 (pc' := 105) (lv' := [(2, .int 0), (0, .ref 196), (1, .int (nI t))]) (st' := [.int 4, .ref 196]) (H' := _) (kc' := 0) (ks' := 0) rfl ?_
  refine RQ.call (v := some (.int 0)) (st' := []) rfl rfl rfl rfl rfl rfl (args_v [.int 4] [] rfl rfl (Nat.le_of_ble_eq_true rfl) rfl x1 (Nat.le_of_ble_eq_true rfl)) (rc_mfail x1 rfl) ?_
  exact RQ.done (c := 0) (s := 0) rfl rfl rfl rfl ⟨_, _, rfl, rfl, us', get_set x1, x2.far (fun a h1 h2 => set_far (by omega)) (set_far (by decide)), (set_far (by decide)).trans ((x3 205 (by omega)).trans h52), fun a h1 h2 => (set_far (by omega)).trans ((x3 a (by omega)).trans (far1 a (by omega) h2))⟩
theorem ri_mcommit2 {sc : Nat × (Nat → Int32)} {d t p us pc : Nat} {H : aH} {fa cw cl tp rs hu : Int32} {ba bo : Nat} {ms : List aMV} {ro fi wk wn : Nat → Nat} {wz : Nat → Option Nat} {wb : Nat → Int8} {ws : List aE} {op : Nat → Bool} {se : Nat → Nat} {lim : Nat} {kd pa sz nl ps : Nat → Nat} {nm : Nat → Int8} (hm : H[195]? = some (kO 12 (mfs fa (nI lim) 0 cw cl tp rs (nI p) (nI ms.length) (nI us) (nI pc) hu ba bo))) (hI : MVIs H ba bo us ms) (hk : MSOk ms) (hR : MRAt H ro fi wk wn wz wb) (hT : TxL ro fi wk wn wz wb t ws) (ht : t < 8) (hop : op t = true) (h5 : H[205]? = some (kZ 8 op)) (h6 : H[206]? = some (kI 8 (fun j => nI (se j)))) (hse : ∀ t, t < 8 → se t < 2 ^ 31) (hp : p + 1 < 2 ^ 31) (hws : ws ≠ []) (hcol : ws.any (fun e => colM ms p (se t) e.1) = false) (h1M : OneM ms) (hcap : ms.length + ws.length ≤ 1500) (hby : eOff (ms.map eMV) ms.length + eOff ws ws.length ≤ 48000) (hk2 : MSOk (ms ++ addM (p + 1) ws)) (hT2 : MTreeAt H kd pa sz nl nm) (hkT : TreeOk kd pa sz nl) (hps : H[220]? = some (kI 1300 (fun j => nI (ps j)))) (hpc : pc ≤ 1300) (hle : lim < ((sumF (fun f => if kd f = 0 then 0 else 62 + nl f) 200 + sum0 (fun p => 27 + ps p) pc) + ((ms ++ addM (p + 1) ws).map (wM op se (nI t) (p + 1) (kmM (ms ++ addM (p + 1) ws)))).sum)) (hs2 : ((sumF (fun f => if kd f = 0 then 0 else 62 + nl f) 200 + sum0 (fun p => 27 + ps p) pc) + ((ms ++ addM (p + 1) ws).map (wM op se (nI t) (p + 1) (kmM (ms ++ addM (p + 1) ws)))).sum) < 2 ^ 31) : RI sc (d + 4) mr_295 [.ref 196, .int (nI t)] H (fun z H' => z = 0 ∧ H'[195]? = some (kO 12 (mfs 5 (nI lim) 0 cw cl tp rs (nI p) (nI ms.length) (nI us) (nI pc) hu ba bo)) ∧ MVIs H' ba bo us ms ∧ ∀ a, a ≠ 195 → ¬ (198 ≤ a ∧ a ≤ 204) → H'[a]? = H[a]?) := by
  have hbab := hI.2.2.2.2
  have hro := hT.1
  have hlen := hT.2.2.1
  have hro1 : ¬ ro t = 0 := fun e => hws (List.length_eq_zero_iff.mp (by omega))
  refine RI.of ?_
  refine RQ.blk 2 (pc' := 2) (lv' := [(0, .ref 196), (1, .int (nI t))]) (st' := [.int 0, .ref 196]) (H' := _) (kc' := 0) (ks' := 0) rfl ?_
  refine RQ.put (ci := 12) rfl hm rfl rfl (Nat.le_of_ble_eq_true rfl) ?_
  refine RQ.blk 3 (pc' := 9) (lv' := [(0, .ref 196), (1, .int (nI t))]) (st' := [.int 8, .int (nI t), .ref 196]) (H' := _) (kc' := 0) (ks' := 0) rfl ?_
  refine RQ.call (v := some (.int 0)) (st' := []) rfl rfl rfl rfl rfl rfl (args_v [.int 8, .int (nI t)] [] rfl rfl (Nat.le_of_ble_eq_true rfl) rfl (get_set hm) (Nat.le_of_ble_eq_true rfl)) (rc_out ht (by decide)) ?_
  refine RQ.brT rfl rfl rfl (by decide) ?_
  refine RQ.blk 1 (pc' := 22) (lv' := [(0, .ref 196), (1, .int (nI t))]) (st' := [.ref 196]) (H' := _) (kc' := 0) (ks' := 0) rfl ?_
  refine RQ.get (ci := 12) rfl (get_set hm) rfl rfl ?_
  refine RQ.brT rfl rfl rfl (by decide) ?_
  refine RQ.blk 1 (pc' := 35) (lv' := [(0, .ref 196), (1, .int (nI t))]) (st' := [.ref 196]) (H' := _) (kc' := 0) (ks' := 0) rfl ?_
  refine RQ.get (ci := 12) rfl (get_set hm) rfl rfl ?_
  refine RQ.blk 1 (pc' := 39) (lv' := [(0, .ref 196), (1, .int (nI t))]) (st' := [.int (nI t), .ref 206]) (H' := _) (kc' := 0) (ks' := 0) rfl ?_
  refine RQ.zaldN (j := t) rfl ((set_far (by decide)).trans h5) (by omega) (by decide) ?_
  refine RQ.brT rfl rfl rfl (by rw [hop]; decide) ?_
  refine RQ.blk 1 (pc' := 50) (lv' := [(0, .ref 196), (1, .int (nI t))]) (st' := [.ref 196]) (H' := _) (kc' := 0) (ks' := 0) rfl ?_
  refine RQ.get (ci := 12) rfl (get_set hm) rfl rfl ?_
  refine RQ.blk 1 (pc' := 54) (lv' := [(0, .ref 196), (1, .int (nI t))]) (st' := [.int (nI t), .ref 208]) (H' := _) (kc' := 0) (ks' := 0) rfl ?_
  refine RQ.ialdN (j := t) rfl ((set_far (by decide)).trans hR.1) (by omega) (by decide) ?_
  refine RQ.brF rfl rfl rfl (cF_eq (ro t) 0) ?_
  refine RQ.blk 2 (pc' := 60) (lv' := [(0, .ref 196), (1, .int (nI t))]) (st' := [.int (nI t), .ref 196]) (H' := _) (kc' := 0) (ks' := 0) rfl ?_
  obtain ⟨⟨bf, ko, kn, vo, vz, vm, hA, hL⟩, -⟩ := id hI
  have far1 : ∀ a, a ≠ 195 → (H.set 195 (kO 12 (mfs 0 (nI lim) 0 cw cl tp rs (nI p) (nI ms.length) (nI us) (nI pc) hu ba bo)))[a]? = H[a]? := fun a ha => set_far ha
  have hcl := rc_mcollides (sc := sc) (d := d + 1) (get_set hm : (H.set 195 (kO 12 (mfs 0 (nI lim) 0 cw cl tp rs (nI p) (nI ms.length) (nI us) (nI pc) hu ba bo)))[195]? = _) (hA.far (fun a h1 h2 => far1 a (by omega)) (far1 ba (by omega))) hL hk (hR.far (fun a h1 h2 => far1 a (by omega))) hT ht ((far1 206 (by decide)).trans h6) (hse t ht) (by omega) h1M
  rw [hcol] at hcl
  refine RQ.call (v := some (.int 0)) (st' := []) rfl rfl rfl rfl rfl rfl (args_v [.int (nI t)] [] rfl rfl (Nat.le_of_ble_eq_true rfl) rfl (get_set hm) (Nat.le_of_ble_eq_true rfl)) hcl ?_
  refine RQ.brT rfl rfl rfl (by decide) ?_
  refine RQ.blk 1 (pc' := 110) (lv' := [(0, .ref 196), (1, .int (nI t))]) (st' := [.ref 196]) (H' := _) (kc' := 0) (ks' := 0) rfl ?_
  refine RQ.get (ci := 12) rfl (get_set hm) rfl rfl ?_
  refine RQ.blk 2 (pc' := 115) (lv' := [(2, .int (nI ms.length)), (0, .ref 196), (1, .int (nI t))]) (st' := [.ref 196]) (H' := _) (kc' := 0) (ks' := 0) rfl ?_
  refine RQ.get (ci := 12) rfl (get_set hm) rfl rfl ?_
  refine RQ.blk 3 (pc' := 121) (lv' := [(3, .int (nI us)), (2, .int (nI ms.length)), (0, .ref 196), (1, .int (nI t))]) (st' := [.int (nI t), .ref 196]) (H' := _) (kc' := 0) (ks' := 0) rfl ?_
  refine RQ.callN (st' := []) rfl rfl rfl rfl rfl rfl (args_v [.int (nI t)] [] rfl rfl (Nat.le_of_ble_eq_true rfl) rfl (get_set hm) (Nat.le_of_ble_eq_true rfl)) (rn_apply (get_set hm : (H.set 195 (kO 12 (mfs 0 (nI lim) 0 cw cl tp rs (nI p) (nI ms.length) (nI us) (nI pc) hu ba bo)))[195]? = _) (hI.far (fun a h1 h2 => far1 a (by omega)) (far1 223 (by decide))) (hR.far (fun a h1 h2 => far1 a (by omega))) hT ht hcap hby) (fun H2 hx => ?_)
  obtain ⟨⟨us2, x1, x2⟩, x3⟩ := hx
  have far2 : ∀ a, a ≠ 195 → ¬ (198 ≤ a ∧ a ≤ 204) → H2[a]? = H[a]? := fun a h1 h2 => (x3 a h1 h2).trans (far1 a h1)
  refine RQ.blk 2 (pc' := 126) (lv' := [(3, .int (nI us)), (2, .int (nI ms.length)), (0, .ref 196), (1, .int (nI t))]) (st' := [.int (nI t), .ref 196]) (H' := _) (kc' := 0) (ks' := 0) rfl ?_
  obtain ⟨⟨bf2, ko2, kn2, vo2, vz2, vm2, hA2, hL2⟩, -⟩ := id x2
  have hnd := rc_mneededL (sc := sc) (d := d) (x := nI t) x1 hA2 hL2 hk2 ((far2 205 (by decide) (by decide)).trans h5) ((far2 206 (by decide) (by decide)).trans h6) hse (hT2.far (fun a h1 h2 => far2 a (by omega) (by omega))) hkT ((far2 220 (by decide) (by decide)).trans hps) hpc hp
  generalize ((sumF (fun f => if kd f = 0 then 0 else 62 + nl f) 200 + sum0 (fun p => 27 + ps p) pc) + ((ms ++ addM (p + 1) ws).map (wM op se (nI t) (p + 1) (kmM (ms ++ addM (p + 1) ws)))).sum) = nd at hnd hle hs2
  refine RQ.call (v := some (.int (nI nd))) (st' := []) rfl rfl rfl rfl rfl rfl (args_v [.int (nI t)] [] rfl rfl (Nat.le_of_ble_eq_true rfl) rfl x1 (Nat.le_of_ble_eq_true rfl)) hnd ?_
  refine RQ.blk 1 (pc' := 130) (lv' := [(3, .int (nI us)), (2, .int (nI ms.length)), (0, .ref 196), (1, .int (nI t))]) (st' := [.ref 196, .int (nI nd)]) (H' := _) (kc' := 0) (ks' := 0) rfl ?_
  refine RQ.get (ci := 12) rfl x1 rfl rfl ?_
  refine RQ.brF rfl rfl rfl (cF_le nd lim) ?_
  refine RQ.blk 3 (pc' := 139) (lv' := [(3, .int (nI us)), (2, .int (nI ms.length)), (0, .ref 196), (1, .int (nI t))]) (st' := [.int (nI us), .int (nI ms.length), .ref 196]) (H' := _) (kc' := 0) (ks' := 0) rfl ?_
  refine RQ.call (v := none) (st' := []) rfl rfl rfl rfl rfl rfl (args_v [.int (nI us), .int (nI ms.length)] [] rfl rfl (Nat.le_of_ble_eq_true rfl) rfl x1 (Nat.le_of_ble_eq_true rfl)) (rc_mtakeBack x1) ?_
  have hm3 : (H2.set 195 (kO 12 (mfs 0 (nI lim) 0 cw cl tp rs (nI p) (nI ms.length) (nI us) (nI pc) hu ba bo)))[195]? = some (kO 12 (mfs 0 (nI lim) 0 cw cl tp rs (nI p) (nI ms.length) (nI us) (nI pc) hu ba bo)) := get_set x1
  have hI3 : MVIs (H2.set 195 (kO 12 (mfs 0 (nI lim) 0 cw cl tp rs (nI p) (nI ms.length) (nI us) (nI pc) hu ba bo))) ba bo us ms := by
    obtain ⟨⟨bf2, ko2, kn2, vo2, vz2, vm2, hA2, hL2⟩, -, ob, w0, hbr⟩ := x2
    obtain ⟨-, hus, -⟩ := hI
    exact MVIs.far ⟨⟨bf2, ko2, kn2, vo2, vz2, vm2, hA2, hL2.front⟩, hus, ob, w0, hbr⟩ (fun a h1 h2 => set_far (by omega)) (set_far (by decide))
  refine RQ.blk 2 (pc' := 144) (lv' := [(3, .int (nI us)), (2, .int (nI ms.length)), (0, .ref 196), (1, .int (nI t))]) (st' := [.int 5, .ref 196]) (H' := _) (kc' := 0) (ks' := 0) rfl ?_
  refine RQ.call (v := some (.int 0)) (st' := []) rfl rfl rfl rfl rfl rfl (args_v [.int 5] [] rfl rfl (Nat.le_of_ble_eq_true rfl) rfl hm3 (Nat.le_of_ble_eq_true rfl)) (rc_mfail hm3 rfl) ?_
  exact RQ.done (c := 0) (s := 0) rfl rfl rfl rfl ⟨_, _, rfl, rfl, get_set hm3, hI3.far (fun a h1 h2 => set_far (by omega)) (set_far (by decide)), fun a h1 h2 => (set_far h1).trans ((set_far h1).trans (far2 a h1 h2))⟩
theorem ri_mcommit3 {sc : Nat × (Nat → Int32)} {d t p us pc : Nat} {H : aH} {fa cl tp rs hu : Int32} {ba bo : Nat} {ms : List aMV} {ro fi wk wn : Nat → Nat} {wz : Nat → Option Nat} {wb : Nat → Int8} {ws : List aE} {op : Nat → Bool} {se : Nat → Nat} {lim : Nat} {kd pa sz nl ps : Nat → Nat} {nm : Nat → Int8} (hm : H[195]? = some (kO 12 (mfs fa (nI lim) 0 0 cl tp rs (nI p) (nI ms.length) (nI us) (nI pc) hu ba bo))) (hI : MVIs H ba bo us ms) (hk : MSOk ms) (hR : MRAt H ro fi wk wn wz wb) (hT : TxL ro fi wk wn wz wb t ws) (ht : t < 8) (hop : op t = true) (h5 : H[205]? = some (kZ 8 op)) (h6 : H[206]? = some (kI 8 (fun j => nI (se j)))) (hse : ∀ t, t < 8 → se t < 2 ^ 31) (hp : p + 1 < 2 ^ 31) (hws : ws ≠ []) (hcol : ws.any (fun e => colM ms p (se t) e.1) = false) (h1M : OneM ms) (hcap : ms.length + ws.length ≤ 1500) (hby : eOff (ms.map eMV) ms.length + eOff ws ws.length ≤ 48000) (hk2 : MSOk (ms ++ addM (p + 1) ws)) (hT2 : MTreeAt H kd pa sz nl nm) (hkT : TreeOk kd pa sz nl) (hps : H[220]? = some (kI 1300 (fun j => nI (ps j)))) (hpc : pc ≤ 1300) (hle : ((sumF (fun f => if kd f = 0 then 0 else 62 + nl f) 200 + sum0 (fun p => 27 + ps p) pc) + ((ms ++ addM (p + 1) ws).map (wM op se (nI t) (p + 1) (kmM (ms ++ addM (p + 1) ws)))).sum) ≤ lim) (hlim : lim < 2 ^ 31) : RI sc (d + 4) mr_295 [.ref 196, .int (nI t)] H (fun z H' => z = nI (p + 1) ∧ ∃ us', H'[195]? = some (kO 12 (mfs 0 (nI lim) 0 0 cl tp rs (nI (p + 1)) (nI ((ms ++ addM (p + 1) ws).filter (keepM (va_up op t false) se (p + 1) (kmM (ms ++ addM (p + 1) ws)))).length) (nI us') (nI pc) hu bo ba)) ∧ MVIs H' bo ba us' ((ms ++ addM (p + 1) ws).filter (keepM (va_up op t false) se (p + 1) (kmM (ms ++ addM (p + 1) ws)))) ∧ H'[205]? = some (kZ 8 (va_up op t false)) ∧ ∀ a, ¬ (a = 195 ∨ 198 ≤ a ∧ a ≤ 204 ∨ a = 223) → a ≠ 205 → H'[a]? = H[a]?) := by
  have hbab := hI.2.2.2.2
  have hro := hT.1
  have hlen := hT.2.2.1
  have hro1 : ¬ ro t = 0 := fun e => hws (List.length_eq_zero_iff.mp (by omega))
  refine RI.of ?_
  refine RQ.blk 2 (pc' := 2) (lv' := [(0, .ref 196), (1, .int (nI t))]) (st' := [.int 0, .ref 196]) (H' := _) (kc' := 0) (ks' := 0) rfl ?_
  refine RQ.put (ci := 12) rfl hm rfl rfl (Nat.le_of_ble_eq_true rfl) ?_
  refine RQ.blk 3 (pc' := 9) (lv' := [(0, .ref 196), (1, .int (nI t))]) (st' := [.int 8, .int (nI t), .ref 196]) (H' := _) (kc' := 0) (ks' := 0) rfl ?_
  refine RQ.call (v := some (.int 0)) (st' := []) rfl rfl rfl rfl rfl rfl (args_v [.int 8, .int (nI t)] [] rfl rfl (Nat.le_of_ble_eq_true rfl) rfl (get_set hm) (Nat.le_of_ble_eq_true rfl)) (rc_out ht (by decide)) ?_
  refine RQ.brT rfl rfl rfl (by decide) ?_
  refine RQ.blk 1 (pc' := 22) (lv' := [(0, .ref 196), (1, .int (nI t))]) (st' := [.ref 196]) (H' := _) (kc' := 0) (ks' := 0) rfl ?_
  refine RQ.get (ci := 12) rfl (get_set hm) rfl rfl ?_
  refine RQ.brT rfl rfl rfl (by decide) ?_
  refine RQ.blk 1 (pc' := 35) (lv' := [(0, .ref 196), (1, .int (nI t))]) (st' := [.ref 196]) (H' := _) (kc' := 0) (ks' := 0) rfl ?_
  refine RQ.get (ci := 12) rfl (get_set hm) rfl rfl ?_
  refine RQ.blk 1 (pc' := 39) (lv' := [(0, .ref 196), (1, .int (nI t))]) (st' := [.int (nI t), .ref 206]) (H' := _) (kc' := 0) (ks' := 0) rfl ?_
  refine RQ.zaldN (j := t) rfl ((set_far (by decide)).trans h5) (by omega) (by decide) ?_
  refine RQ.brT rfl rfl rfl (by rw [hop]; decide) ?_
  refine RQ.blk 1 (pc' := 50) (lv' := [(0, .ref 196), (1, .int (nI t))]) (st' := [.ref 196]) (H' := _) (kc' := 0) (ks' := 0) rfl ?_
  refine RQ.get (ci := 12) rfl (get_set hm) rfl rfl ?_
  refine RQ.blk 1 (pc' := 54) (lv' := [(0, .ref 196), (1, .int (nI t))]) (st' := [.int (nI t), .ref 208]) (H' := _) (kc' := 0) (ks' := 0) rfl ?_
  refine RQ.ialdN (j := t) rfl ((set_far (by decide)).trans hR.1) (by omega) (by decide) ?_
  refine RQ.brF rfl rfl rfl (cF_eq (ro t) 0) ?_
  refine RQ.blk 2 (pc' := 60) (lv' := [(0, .ref 196), (1, .int (nI t))]) (st' := [.int (nI t), .ref 196]) (H' := _) (kc' := 0) (ks' := 0) rfl ?_
  obtain ⟨⟨bf, ko, kn, vo, vz, vm, hA, hL⟩, -⟩ := id hI
  have far1 : ∀ a, a ≠ 195 → (H.set 195 (kO 12 (mfs 0 (nI lim) 0 0 cl tp rs (nI p) (nI ms.length) (nI us) (nI pc) hu ba bo)))[a]? = H[a]? := fun a ha => set_far ha
  have hcl := rc_mcollides (sc := sc) (d := d + 1) (get_set hm : (H.set 195 (kO 12 (mfs 0 (nI lim) 0 0 cl tp rs (nI p) (nI ms.length) (nI us) (nI pc) hu ba bo)))[195]? = _) (hA.far (fun a h1 h2 => far1 a (by omega)) (far1 ba (by omega))) hL hk (hR.far (fun a h1 h2 => far1 a (by omega))) hT ht ((far1 206 (by decide)).trans h6) (hse t ht) (by omega) h1M
  rw [hcol] at hcl
  refine RQ.call (v := some (.int 0)) (st' := []) rfl rfl rfl rfl rfl rfl (args_v [.int (nI t)] [] rfl rfl (Nat.le_of_ble_eq_true rfl) rfl (get_set hm) (Nat.le_of_ble_eq_true rfl)) hcl ?_
  refine RQ.brT rfl rfl rfl (by decide) ?_
  refine RQ.blk 1 (pc' := 110) (lv' := [(0, .ref 196), (1, .int (nI t))]) (st' := [.ref 196]) (H' := _) (kc' := 0) (ks' := 0) rfl ?_
  refine RQ.get (ci := 12) rfl (get_set hm) rfl rfl ?_
  refine RQ.blk 2 (pc' := 115) (lv' := [(2, .int (nI ms.length)), (0, .ref 196), (1, .int (nI t))]) (st' := [.ref 196]) (H' := _) (kc' := 0) (ks' := 0) rfl ?_
  refine RQ.get (ci := 12) rfl (get_set hm) rfl rfl ?_
  refine RQ.blk 3 (pc' := 121) (lv' := [(3, .int (nI us)), (2, .int (nI ms.length)), (0, .ref 196), (1, .int (nI t))]) (st' := [.int (nI t), .ref 196]) (H' := _) (kc' := 0) (ks' := 0) rfl ?_
  refine RQ.callN (st' := []) rfl rfl rfl rfl rfl rfl (args_v [.int (nI t)] [] rfl rfl (Nat.le_of_ble_eq_true rfl) rfl (get_set hm) (Nat.le_of_ble_eq_true rfl)) (rn_apply (get_set hm : (H.set 195 (kO 12 (mfs 0 (nI lim) 0 0 cl tp rs (nI p) (nI ms.length) (nI us) (nI pc) hu ba bo)))[195]? = _) (hI.far (fun a h1 h2 => far1 a (by omega)) (far1 223 (by decide))) (hR.far (fun a h1 h2 => far1 a (by omega))) hT ht hcap hby) (fun H2 hx => ?_)
  obtain ⟨⟨us2, x1, x2⟩, x3⟩ := hx
  have far2 : ∀ a, a ≠ 195 → ¬ (198 ≤ a ∧ a ≤ 204) → H2[a]? = H[a]? := fun a h1 h2 => (x3 a h1 h2).trans (far1 a h1)
  refine RQ.blk 2 (pc' := 126) (lv' := [(3, .int (nI us)), (2, .int (nI ms.length)), (0, .ref 196), (1, .int (nI t))]) (st' := [.int (nI t), .ref 196]) (H' := _) (kc' := 0) (ks' := 0) rfl ?_
  obtain ⟨⟨bf2, ko2, kn2, vo2, vz2, vm2, hA2, hL2⟩, -⟩ := id x2
  have hnd := rc_mneededL (sc := sc) (d := d) (x := nI t) x1 hA2 hL2 hk2 ((far2 205 (by decide) (by decide)).trans h5) ((far2 206 (by decide) (by decide)).trans h6) hse (hT2.far (fun a h1 h2 => far2 a (by omega) (by omega))) hkT ((far2 220 (by decide) (by decide)).trans hps) hpc hp
  generalize ((sumF (fun f => if kd f = 0 then 0 else 62 + nl f) 200 + sum0 (fun p => 27 + ps p) pc) + ((ms ++ addM (p + 1) ws).map (wM op se (nI t) (p + 1) (kmM (ms ++ addM (p + 1) ws)))).sum) = nd at hnd hle
  refine RQ.call (v := some (.int (nI nd))) (st' := []) rfl rfl rfl rfl rfl rfl (args_v [.int (nI t)] [] rfl rfl (Nat.le_of_ble_eq_true rfl) rfl x1 (Nat.le_of_ble_eq_true rfl)) hnd ?_
  refine RQ.blk 1 (pc' := 130) (lv' := [(3, .int (nI us)), (2, .int (nI ms.length)), (0, .ref 196), (1, .int (nI t))]) (st' := [.ref 196, .int (nI nd)]) (H' := _) (kc' := 0) (ks' := 0) rfl ?_
  refine RQ.get (ci := 12) rfl x1 rfl rfl ?_
  refine RQ.brT rfl rfl rfl (cT_le nd lim) ?_
  refine RQ.blk 1 (pc' := 149) (lv' := [(3, .int (nI us)), (2, .int (nI ms.length)), (0, .ref 196), (1, .int (nI t))]) (st' := [.ref 196]) (H' := _) (kc' := 0) (ks' := 0) rfl ?_
  refine RQ.get (ci := 12) rfl x1 rfl rfl ?_
  refine RQ.brT rfl rfl rfl (by decide) ?_
  refine RQ.blk 1 (pc' := 169) (lv' := [(3, .int (nI us)), (2, .int (nI ms.length)), (0, .ref 196), (1, .int (nI t))]) (st' := [.ref 196]) (H' := _) (kc' := 0) (ks' := 0) rfl ?_
  refine RQ.get (ci := 12) rfl x1 rfl rfl ?_
  refine RQ.blk 2 (pc' := 174) (lv' := [(3, .int (nI us)), (2, .int (nI ms.length)), (0, .ref 196), (1, .int (nI t))]) (st' := [.int 0, .int (nI t), .ref 206]) (H' := _) (kc' := 0) (ks' := 0) rfl ?_
  refine RQ.zastN (j := t) rfl ((far2 205 (by decide) (by decide)).trans h5) (by omega) (by decide) ?_
  refine RQ.blk 2 (pc' := 177) (lv' := [(3, .int (nI us)), (2, .int (nI ms.length)), (0, .ref 196), (1, .int (nI t))]) (st' := [.int 2, .ref 196]) (H' := _) (kc' := 0) (ks' := 0) rfl ?_
  have hm4 := ((set_far (by decide)).trans x1 : (H2.set 205 (kZ 8 (va_up op t false)))[195]? = _)
  have h54 : (H2.set 205 (kZ 8 (va_up op t false)))[205]? = some (kZ 8 (va_up op t false)) := get_set ((far2 205 (by decide) (by decide)).trans h5)
  have far4 : ∀ a, a ≠ 195 → ¬ (198 ≤ a ∧ a ≤ 204) → a ≠ 205 → (H2.set 205 (kZ 8 (va_up op t false)))[a]? = H[a]? := fun a h1 h2 h3 => (set_far h3).trans (far2 a h1 h2)
  have hI4 : MVIs (H2.set 205 (kZ 8 (va_up op t false))) ba bo us2 (ms ++ addM (p + 1) ws) := x2.far (fun a h1 h2 => set_far (by omega)) (set_far (by decide))
  refine RQ.call (v := some (.int 0)) (st' := []) rfl rfl rfl rfl rfl rfl (args_v [.int 2] [] rfl rfl (Nat.le_of_ble_eq_true rfl) rfl hm4 (Nat.le_of_ble_eq_true rfl)) (rc_mcutNow0 hm4) ?_
  have h55 := h54
  have hm5 := hm4
  have hI5 := hI4
  have far5 := far4
  refine RQ.blk 2 (pc' := 183) (lv' := [(4, .int 0), (3, .int (nI us)), (2, .int (nI ms.length)), (0, .ref 196), (1, .int (nI t))]) (st' := [.ref 196]) (H' := _) (kc' := 0) (ks' := 0) rfl ?_
  refine RQ.callN (st' := []) rfl rfl rfl rfl rfl rfl (args_v [] [] rfl rfl (Nat.le_of_ble_eq_true rfl) rfl hm5 (Nat.le_of_ble_eq_true rfl)) (rn_pruneL (op := (va_up op t false)) hm5 hI5 hk2 h55 ((far5 206 (by decide) (by decide) (by decide)).trans h6) hse (by omega)) (fun H6 hy => ?_)
  obtain ⟨us', y1, y2, y3⟩ := hy
  refine RQ.blk 1 (pc' := 188) (lv' := [(4, .int 0), (3, .int (nI us)), (2, .int (nI ms.length)), (0, .ref 196), (1, .int (nI t))]) (st' := [.int 0]) (H' := _) (kc' := 0) (ks' := 0) rfl ?_
  refine RQ.brT rfl rfl rfl (by decide) ?_
  refine RQ.blk 1 (pc' := 196) (lv' := [(4, .int 0), (3, .int (nI us)), (2, .int (nI ms.length)), (0, .ref 196), (1, .int (nI t))]) (st' := [.ref 196]) (H' := _) (kc' := 0) (ks' := 0) rfl ?_
  refine RQ.get (ci := 12) rfl y1 rfl rfl ?_
  exact RQ.done (c := 0) (s := 0) rfl rfl rfl rfl ⟨_, _, rfl, rfl, us', y1, y2, (y3 205 (by omega)).trans h55, fun a h1 h2 => (y3 a (by omega)).trans (far5 a (by omega) (by omega) h2)⟩
theorem ri_mcommit4 {sc : Nat × (Nat → Int32)} {d t p us pc : Nat} {H : aH} {fa tp rs hu : Int32} {ba bo : Nat} {ms : List aMV} {ro fi wk wn : Nat → Nat} {wz : Nat → Option Nat} {wb : Nat → Int8} {ws : List aE} {op : Nat → Bool} {se : Nat → Nat} {lim : Nat} {kd pa sz nl ps : Nat → Nat} {nm : Nat → Int8} (hm : H[195]? = some (kO 12 (mfs fa (nI lim) 0 1 1 tp rs (nI p) (nI ms.length) (nI us) (nI pc) hu ba bo))) (hI : MVIs H ba bo us ms) (hk : MSOk ms) (hR : MRAt H ro fi wk wn wz wb) (hT : TxL ro fi wk wn wz wb t ws) (ht : t < 8) (hop : op t = true) (h5 : H[205]? = some (kZ 8 op)) (h6 : H[206]? = some (kI 8 (fun j => nI (se j)))) (hse : ∀ t, t < 8 → se t < 2 ^ 31) (hp : p + 1 < 2 ^ 31) (hws : ws ≠ []) (hcol : ws.any (fun e => colM ms p (se t) e.1) = false) (h1M : OneM ms) (hcap : ms.length + ws.length ≤ 1500) (hby : eOff (ms.map eMV) ms.length + eOff ws ws.length ≤ 48000) (hk2 : MSOk (ms ++ addM (p + 1) ws)) (hT2 : MTreeAt H kd pa sz nl nm) (hkT : TreeOk kd pa sz nl) (hps : H[220]? = some (kI 1300 (fun j => nI (ps j)))) (hpc : pc ≤ 1300) (hle : ((sumF (fun f => if kd f = 0 then 0 else 62 + nl f) 200 + sum0 (fun p => 27 + ps p) pc) + ((ms ++ addM (p + 1) ws).map (wM op se (nI t) (p + 1) (kmM (ms ++ addM (p + 1) ws)))).sum) ≤ lim) (hlim : lim < 2 ^ 31) : RI sc (d + 4) mr_295 [.ref 196, .int (nI t)] H (fun z H' => z = 0 ∧ ∃ us', H'[195]? = some (kO 12 (mfs 2 (nI lim) 1 0 1 0 0 (nI (p + 1)) (nI ((ms ++ addM (p + 1) ws).filter (keepM (fun j => if j < 8 then false else op j) se (p + 1) (kmM (ms ++ addM (p + 1) ws)))).length) (nI us') (nI pc) hu bo ba)) ∧ MVIs H' bo ba us' ((ms ++ addM (p + 1) ws).filter (keepM (fun j => if j < 8 then false else op j) se (p + 1) (kmM (ms ++ addM (p + 1) ws)))) ∧ H'[205]? = some (kZ 8 (fun j => if j < 8 then false else op j)) ∧ ∀ a, ¬ (a = 195 ∨ 198 ≤ a ∧ a ≤ 204 ∨ a = 223) → a ≠ 205 → H'[a]? = H[a]?) := by
  have hbab := hI.2.2.2.2
  have hro := hT.1
  have hlen := hT.2.2.1
  have hro1 : ¬ ro t = 0 := fun e => hws (List.length_eq_zero_iff.mp (by omega))
  refine RI.of ?_
  refine RQ.blk 2 (pc' := 2) (lv' := [(0, .ref 196), (1, .int (nI t))]) (st' := [.int 0, .ref 196]) (H' := _) (kc' := 0) (ks' := 0) rfl ?_
  refine RQ.put (ci := 12) rfl hm rfl rfl (Nat.le_of_ble_eq_true rfl) ?_
  refine RQ.blk 3 (pc' := 9) (lv' := [(0, .ref 196), (1, .int (nI t))]) (st' := [.int 8, .int (nI t), .ref 196]) (H' := _) (kc' := 0) (ks' := 0) rfl ?_
  refine RQ.call (v := some (.int 0)) (st' := []) rfl rfl rfl rfl rfl rfl (args_v [.int 8, .int (nI t)] [] rfl rfl (Nat.le_of_ble_eq_true rfl) rfl (get_set hm) (Nat.le_of_ble_eq_true rfl)) (rc_out ht (by decide)) ?_
  refine RQ.brT rfl rfl rfl (by decide) ?_
  refine RQ.blk 1 (pc' := 22) (lv' := [(0, .ref 196), (1, .int (nI t))]) (st' := [.ref 196]) (H' := _) (kc' := 0) (ks' := 0) rfl ?_
  refine RQ.get (ci := 12) rfl (get_set hm) rfl rfl ?_
  refine RQ.brT rfl rfl rfl (by decide) ?_
  refine RQ.blk 1 (pc' := 35) (lv' := [(0, .ref 196), (1, .int (nI t))]) (st' := [.ref 196]) (H' := _) (kc' := 0) (ks' := 0) rfl ?_
  refine RQ.get (ci := 12) rfl (get_set hm) rfl rfl ?_
  refine RQ.blk 1 (pc' := 39) (lv' := [(0, .ref 196), (1, .int (nI t))]) (st' := [.int (nI t), .ref 206]) (H' := _) (kc' := 0) (ks' := 0) rfl ?_
  refine RQ.zaldN (j := t) rfl ((set_far (by decide)).trans h5) (by omega) (by decide) ?_
  refine RQ.brT rfl rfl rfl (by rw [hop]; decide) ?_
  refine RQ.blk 1 (pc' := 50) (lv' := [(0, .ref 196), (1, .int (nI t))]) (st' := [.ref 196]) (H' := _) (kc' := 0) (ks' := 0) rfl ?_
  refine RQ.get (ci := 12) rfl (get_set hm) rfl rfl ?_
  refine RQ.blk 1 (pc' := 54) (lv' := [(0, .ref 196), (1, .int (nI t))]) (st' := [.int (nI t), .ref 208]) (H' := _) (kc' := 0) (ks' := 0) rfl ?_
  refine RQ.ialdN (j := t) rfl ((set_far (by decide)).trans hR.1) (by omega) (by decide) ?_
  refine RQ.brF rfl rfl rfl (cF_eq (ro t) 0) ?_
  refine RQ.blk 2 (pc' := 60) (lv' := [(0, .ref 196), (1, .int (nI t))]) (st' := [.int (nI t), .ref 196]) (H' := _) (kc' := 0) (ks' := 0) rfl ?_
  obtain ⟨⟨bf, ko, kn, vo, vz, vm, hA, hL⟩, -⟩ := id hI
  have far1 : ∀ a, a ≠ 195 → (H.set 195 (kO 12 (mfs 0 (nI lim) 0 1 1 tp rs (nI p) (nI ms.length) (nI us) (nI pc) hu ba bo)))[a]? = H[a]? := fun a ha => set_far ha
  have hcl := rc_mcollides (sc := sc) (d := d + 1) (get_set hm : (H.set 195 (kO 12 (mfs 0 (nI lim) 0 1 1 tp rs (nI p) (nI ms.length) (nI us) (nI pc) hu ba bo)))[195]? = _) (hA.far (fun a h1 h2 => far1 a (by omega)) (far1 ba (by omega))) hL hk (hR.far (fun a h1 h2 => far1 a (by omega))) hT ht ((far1 206 (by decide)).trans h6) (hse t ht) (by omega) h1M
  rw [hcol] at hcl
  refine RQ.call (v := some (.int 0)) (st' := []) rfl rfl rfl rfl rfl rfl (args_v [.int (nI t)] [] rfl rfl (Nat.le_of_ble_eq_true rfl) rfl (get_set hm) (Nat.le_of_ble_eq_true rfl)) hcl ?_
  refine RQ.brT rfl rfl rfl (by decide) ?_
  refine RQ.blk 1 (pc' := 110) (lv' := [(0, .ref 196), (1, .int (nI t))]) (st' := [.ref 196]) (H' := _) (kc' := 0) (ks' := 0) rfl ?_
  refine RQ.get (ci := 12) rfl (get_set hm) rfl rfl ?_
  refine RQ.blk 2 (pc' := 115) (lv' := [(2, .int (nI ms.length)), (0, .ref 196), (1, .int (nI t))]) (st' := [.ref 196]) (H' := _) (kc' := 0) (ks' := 0) rfl ?_
  refine RQ.get (ci := 12) rfl (get_set hm) rfl rfl ?_
  refine RQ.blk 3 (pc' := 121) (lv' := [(3, .int (nI us)), (2, .int (nI ms.length)), (0, .ref 196), (1, .int (nI t))]) (st' := [.int (nI t), .ref 196]) (H' := _) (kc' := 0) (ks' := 0) rfl ?_
  refine RQ.callN (st' := []) rfl rfl rfl rfl rfl rfl (args_v [.int (nI t)] [] rfl rfl (Nat.le_of_ble_eq_true rfl) rfl (get_set hm) (Nat.le_of_ble_eq_true rfl)) (rn_apply (get_set hm : (H.set 195 (kO 12 (mfs 0 (nI lim) 0 1 1 tp rs (nI p) (nI ms.length) (nI us) (nI pc) hu ba bo)))[195]? = _) (hI.far (fun a h1 h2 => far1 a (by omega)) (far1 223 (by decide))) (hR.far (fun a h1 h2 => far1 a (by omega))) hT ht hcap hby) (fun H2 hx => ?_)
  obtain ⟨⟨us2, x1, x2⟩, x3⟩ := hx
  have far2 : ∀ a, a ≠ 195 → ¬ (198 ≤ a ∧ a ≤ 204) → H2[a]? = H[a]? := fun a h1 h2 => (x3 a h1 h2).trans (far1 a h1)
  refine RQ.blk 2 (pc' := 126) (lv' := [(3, .int (nI us)), (2, .int (nI ms.length)), (0, .ref 196), (1, .int (nI t))]) (st' := [.int (nI t), .ref 196]) (H' := _) (kc' := 0) (ks' := 0) rfl ?_
  obtain ⟨⟨bf2, ko2, kn2, vo2, vz2, vm2, hA2, hL2⟩, -⟩ := id x2
  have hnd := rc_mneededL (sc := sc) (d := d) (x := nI t) x1 hA2 hL2 hk2 ((far2 205 (by decide) (by decide)).trans h5) ((far2 206 (by decide) (by decide)).trans h6) hse (hT2.far (fun a h1 h2 => far2 a (by omega) (by omega))) hkT ((far2 220 (by decide) (by decide)).trans hps) hpc hp
  generalize ((sumF (fun f => if kd f = 0 then 0 else 62 + nl f) 200 + sum0 (fun p => 27 + ps p) pc) + ((ms ++ addM (p + 1) ws).map (wM op se (nI t) (p + 1) (kmM (ms ++ addM (p + 1) ws)))).sum) = nd at hnd hle
  refine RQ.call (v := some (.int (nI nd))) (st' := []) rfl rfl rfl rfl rfl rfl (args_v [.int (nI t)] [] rfl rfl (Nat.le_of_ble_eq_true rfl) rfl x1 (Nat.le_of_ble_eq_true rfl)) hnd ?_
  refine RQ.blk 1 (pc' := 130) (lv' := [(3, .int (nI us)), (2, .int (nI ms.length)), (0, .ref 196), (1, .int (nI t))]) (st' := [.ref 196, .int (nI nd)]) (H' := _) (kc' := 0) (ks' := 0) rfl ?_
  refine RQ.get (ci := 12) rfl x1 rfl rfl ?_
  refine RQ.brT rfl rfl rfl (cT_le nd lim) ?_
  refine RQ.blk 1 (pc' := 149) (lv' := [(3, .int (nI us)), (2, .int (nI ms.length)), (0, .ref 196), (1, .int (nI t))]) (st' := [.ref 196]) (H' := _) (kc' := 0) (ks' := 0) rfl ?_
  refine RQ.get (ci := 12) rfl x1 rfl rfl ?_
  refine RQ.brF rfl rfl rfl (by decide) ?_
  refine RQ.blk 1 (pc' := 156) (lv' := [(3, .int (nI us)), (2, .int (nI ms.length)), (0, .ref 196), (1, .int (nI t))]) (st' := [.ref 196]) (H' := _) (kc' := 0) (ks' := 0) rfl ?_
  refine RQ.get (ci := 12) rfl x1 rfl rfl ?_
  refine RQ.brT rfl rfl rfl (by decide) ?_
  refine RQ.blk 1 (pc' := 169) (lv' := [(3, .int (nI us)), (2, .int (nI ms.length)), (0, .ref 196), (1, .int (nI t))]) (st' := [.ref 196]) (H' := _) (kc' := 0) (ks' := 0) rfl ?_
  refine RQ.get (ci := 12) rfl x1 rfl rfl ?_
  refine RQ.blk 2 (pc' := 174) (lv' := [(3, .int (nI us)), (2, .int (nI ms.length)), (0, .ref 196), (1, .int (nI t))]) (st' := [.int 0, .int (nI t), .ref 206]) (H' := _) (kc' := 0) (ks' := 0) rfl ?_
  refine RQ.zastN (j := t) rfl ((far2 205 (by decide) (by decide)).trans h5) (by omega) (by decide) ?_
  refine RQ.blk 2 (pc' := 177) (lv' := [(3, .int (nI us)), (2, .int (nI ms.length)), (0, .ref 196), (1, .int (nI t))]) (st' := [.int 2, .ref 196]) (H' := _) (kc' := 0) (ks' := 0) rfl ?_
  have hm4 := ((set_far (by decide)).trans x1 : (H2.set 205 (kZ 8 (va_up op t false)))[195]? = _)
  have h54 : (H2.set 205 (kZ 8 (va_up op t false)))[205]? = some (kZ 8 (va_up op t false)) := get_set ((far2 205 (by decide) (by decide)).trans h5)
  have far4 : ∀ a, a ≠ 195 → ¬ (198 ≤ a ∧ a ≤ 204) → a ≠ 205 → (H2.set 205 (kZ 8 (va_up op t false)))[a]? = H[a]? := fun a h1 h2 h3 => (set_far h3).trans (far2 a h1 h2)
  have hI4 : MVIs (H2.set 205 (kZ 8 (va_up op t false))) ba bo us2 (ms ++ addM (p + 1) ws) := x2.far (fun a h1 h2 => set_far (by omega)) (set_far (by decide))
  refine RQ.callI (st' := []) rfl rfl rfl rfl rfl rfl (args_v [.int 2] [] rfl rfl (Nat.le_of_ble_eq_true rfl) rfl hm4 (Nat.le_of_ble_eq_true rfl)) (ri_mcutNow1 hm4 h54) (fun z H5 hz => ?_)
  obtain ⟨ez, hm5, h55, z3⟩ := hz
  rw [ez]
  have hI5 := hI4.far (fun a h1 h2 => z3 a (by omega) (by omega)) (z3 223 (by decide) (by decide))
  have far5 : ∀ a, a ≠ 195 → ¬ (198 ≤ a ∧ a ≤ 204) → a ≠ 205 → H5[a]? = H[a]? := fun a h1 h2 h3 => (z3 a h1 h3).trans (far4 a h1 h2 h3)
  have e8 : (fun j => if j < 8 then false else (va_up op t false) j) = (fun j => if j < 8 then false else op j) := by
    funext j
    by_cases h : j < 8
    · rw [if_pos h, if_pos h]
    · rw [if_neg h, if_neg h, up_ne (by omega)]
  rw [e8] at h55
  refine RQ.blk 2 (pc' := 183) (lv' := [(4, .int 1), (3, .int (nI us)), (2, .int (nI ms.length)), (0, .ref 196), (1, .int (nI t))]) (st' := [.ref 196]) (H' := _) (kc' := 0) (ks' := 0) rfl ?_
  refine RQ.callN (st' := []) rfl rfl rfl rfl rfl rfl (args_v [] [] rfl rfl (Nat.le_of_ble_eq_true rfl) rfl hm5 (Nat.le_of_ble_eq_true rfl)) (rn_pruneL (op := (fun j => if j < 8 then false else op j)) hm5 hI5 hk2 h55 ((far5 206 (by decide) (by decide) (by decide)).trans h6) hse (by omega)) (fun H6 hy => ?_)
  obtain ⟨us', y1, y2, y3⟩ := hy
  refine RQ.blk 1 (pc' := 188) (lv' := [(4, .int 1), (3, .int (nI us)), (2, .int (nI ms.length)), (0, .ref 196), (1, .int (nI t))]) (st' := [.int 1]) (H' := _) (kc' := 0) (ks' := 0) rfl ?_
  refine RQ.brF rfl rfl rfl (by decide) ?_
  refine RQ.blk 2 (pc' := 199) (lv' := [(4, .int 1), (3, .int (nI us)), (2, .int (nI ms.length)), (0, .ref 196), (1, .int (nI t))]) (st' := [.int 0]) (H' := _) (kc' := 0) (ks' := 0) rfl ?_
  exact RQ.done (c := 0) (s := 0) rfl rfl rfl rfl ⟨_, _, rfl, rfl, us', y1, y2, (y3 205 (by omega)).trans h55, fun a h1 h2 => (y3 a (by omega)).trans (far5 a (by omega) (by omega) h2)⟩
theorem ri_mcommit5 {sc : Nat × (Nat → Int32)} {d t p us pc : Nat} {H : aH} {fa tp rs hu : Int32} {ba bo : Nat} {ms : List aMV} {ro fi wk wn : Nat → Nat} {wz : Nat → Option Nat} {wb : Nat → Int8} {ws : List aE} {op : Nat → Bool} {se : Nat → Nat} {lim : Nat} {kd pa sz nl ps : Nat → Nat} {nm : Nat → Int8} (hm : H[195]? = some (kO 12 (mfs fa (nI lim) 0 1 0 tp rs (nI p) (nI ms.length) (nI us) (nI pc) hu ba bo))) (hI : MVIs H ba bo us ms) (hk : MSOk ms) (hR : MRAt H ro fi wk wn wz wb) (hT : TxL ro fi wk wn wz wb t ws) (ht : t < 8) (hop : op t = true) (h5 : H[205]? = some (kZ 8 op)) (h6 : H[206]? = some (kI 8 (fun j => nI (se j)))) (hse : ∀ t, t < 8 → se t < 2 ^ 31) (hp : p + 1 < 2 ^ 31) (hws : ws ≠ []) (hcol : ws.any (fun e => colM ms p (se t) e.1) = false) (h1M : OneM ms) (hcap : ms.length + ws.length ≤ 1500) (hby : eOff (ms.map eMV) ms.length + eOff ws ws.length ≤ 48000) (hk2 : MSOk (ms ++ addM (p + 1) ws)) (hT2 : MTreeAt H kd pa sz nl nm) (hkT : TreeOk kd pa sz nl) (hps : H[220]? = some (kI 1300 (fun j => nI (ps j)))) (hpc : pc ≤ 1300) (hle : ((sumF (fun f => if kd f = 0 then 0 else 62 + nl f) 200 + sum0 (fun p => 27 + ps p) pc) + ((ms ++ addM (p + 1) ws).map (wM op se (nI t) (p + 1) (kmM (ms ++ addM (p + 1) ws)))).sum) ≤ lim) (hlim : lim < 2 ^ 31) : RI sc (d + 4) mr_295 [.ref 196, .int (nI t)] H (fun z H' => z = 0 ∧ ∃ us', H'[195]? = some (kO 12 (mfs 2 (nI lim) 1 0 0 0 0 (nI p) (nI (ms.filter (keepM (fun j => if j < 8 then false else op j) se p (kmM ms))).length) (nI us') (nI pc) hu bo ba)) ∧ MVIs H' bo ba us' (ms.filter (keepM (fun j => if j < 8 then false else op j) se p (kmM ms))) ∧ H'[205]? = some (kZ 8 (fun j => if j < 8 then false else op j)) ∧ ∀ a, ¬ (a = 195 ∨ 198 ≤ a ∧ a ≤ 204 ∨ a = 223) → a ≠ 205 → H'[a]? = H[a]?) := by
  have hbab := hI.2.2.2.2
  have hro := hT.1
  have hlen := hT.2.2.1
  have hro1 : ¬ ro t = 0 := fun e => hws (List.length_eq_zero_iff.mp (by omega))
  refine RI.of ?_
  refine RQ.blk 2 (pc' := 2) (lv' := [(0, .ref 196), (1, .int (nI t))]) (st' := [.int 0, .ref 196]) (H' := _) (kc' := 0) (ks' := 0) rfl ?_
  refine RQ.put (ci := 12) rfl hm rfl rfl (Nat.le_of_ble_eq_true rfl) ?_
  refine RQ.blk 3 (pc' := 9) (lv' := [(0, .ref 196), (1, .int (nI t))]) (st' := [.int 8, .int (nI t), .ref 196]) (H' := _) (kc' := 0) (ks' := 0) rfl ?_
  refine RQ.call (v := some (.int 0)) (st' := []) rfl rfl rfl rfl rfl rfl (args_v [.int 8, .int (nI t)] [] rfl rfl (Nat.le_of_ble_eq_true rfl) rfl (get_set hm) (Nat.le_of_ble_eq_true rfl)) (rc_out ht (by decide)) ?_
  refine RQ.brT rfl rfl rfl (by decide) ?_
  refine RQ.blk 1 (pc' := 22) (lv' := [(0, .ref 196), (1, .int (nI t))]) (st' := [.ref 196]) (H' := _) (kc' := 0) (ks' := 0) rfl ?_
  refine RQ.get (ci := 12) rfl (get_set hm) rfl rfl ?_
  refine RQ.brT rfl rfl rfl (by decide) ?_
  refine RQ.blk 1 (pc' := 35) (lv' := [(0, .ref 196), (1, .int (nI t))]) (st' := [.ref 196]) (H' := _) (kc' := 0) (ks' := 0) rfl ?_
  refine RQ.get (ci := 12) rfl (get_set hm) rfl rfl ?_
  refine RQ.blk 1 (pc' := 39) (lv' := [(0, .ref 196), (1, .int (nI t))]) (st' := [.int (nI t), .ref 206]) (H' := _) (kc' := 0) (ks' := 0) rfl ?_
  refine RQ.zaldN (j := t) rfl ((set_far (by decide)).trans h5) (by omega) (by decide) ?_
  refine RQ.brT rfl rfl rfl (by rw [hop]; decide) ?_
  refine RQ.blk 1 (pc' := 50) (lv' := [(0, .ref 196), (1, .int (nI t))]) (st' := [.ref 196]) (H' := _) (kc' := 0) (ks' := 0) rfl ?_
  refine RQ.get (ci := 12) rfl (get_set hm) rfl rfl ?_
  refine RQ.blk 1 (pc' := 54) (lv' := [(0, .ref 196), (1, .int (nI t))]) (st' := [.int (nI t), .ref 208]) (H' := _) (kc' := 0) (ks' := 0) rfl ?_
  refine RQ.ialdN (j := t) rfl ((set_far (by decide)).trans hR.1) (by omega) (by decide) ?_
  refine RQ.brF rfl rfl rfl (cF_eq (ro t) 0) ?_
  refine RQ.blk 2 (pc' := 60) (lv' := [(0, .ref 196), (1, .int (nI t))]) (st' := [.int (nI t), .ref 196]) (H' := _) (kc' := 0) (ks' := 0) rfl ?_
  obtain ⟨⟨bf, ko, kn, vo, vz, vm, hA, hL⟩, -⟩ := id hI
  have far1 : ∀ a, a ≠ 195 → (H.set 195 (kO 12 (mfs 0 (nI lim) 0 1 0 tp rs (nI p) (nI ms.length) (nI us) (nI pc) hu ba bo)))[a]? = H[a]? := fun a ha => set_far ha
  have hcl := rc_mcollides (sc := sc) (d := d + 1) (get_set hm : (H.set 195 (kO 12 (mfs 0 (nI lim) 0 1 0 tp rs (nI p) (nI ms.length) (nI us) (nI pc) hu ba bo)))[195]? = _) (hA.far (fun a h1 h2 => far1 a (by omega)) (far1 ba (by omega))) hL hk (hR.far (fun a h1 h2 => far1 a (by omega))) hT ht ((far1 206 (by decide)).trans h6) (hse t ht) (by omega) h1M
  rw [hcol] at hcl
  refine RQ.call (v := some (.int 0)) (st' := []) rfl rfl rfl rfl rfl rfl (args_v [.int (nI t)] [] rfl rfl (Nat.le_of_ble_eq_true rfl) rfl (get_set hm) (Nat.le_of_ble_eq_true rfl)) hcl ?_
  refine RQ.brT rfl rfl rfl (by decide) ?_
  refine RQ.blk 1 (pc' := 110) (lv' := [(0, .ref 196), (1, .int (nI t))]) (st' := [.ref 196]) (H' := _) (kc' := 0) (ks' := 0) rfl ?_
  refine RQ.get (ci := 12) rfl (get_set hm) rfl rfl ?_
  refine RQ.blk 2 (pc' := 115) (lv' := [(2, .int (nI ms.length)), (0, .ref 196), (1, .int (nI t))]) (st' := [.ref 196]) (H' := _) (kc' := 0) (ks' := 0) rfl ?_
  refine RQ.get (ci := 12) rfl (get_set hm) rfl rfl ?_
  refine RQ.blk 3 (pc' := 121) (lv' := [(3, .int (nI us)), (2, .int (nI ms.length)), (0, .ref 196), (1, .int (nI t))]) (st' := [.int (nI t), .ref 196]) (H' := _) (kc' := 0) (ks' := 0) rfl ?_
  refine RQ.callN (st' := []) rfl rfl rfl rfl rfl rfl (args_v [.int (nI t)] [] rfl rfl (Nat.le_of_ble_eq_true rfl) rfl (get_set hm) (Nat.le_of_ble_eq_true rfl)) (rn_apply (get_set hm : (H.set 195 (kO 12 (mfs 0 (nI lim) 0 1 0 tp rs (nI p) (nI ms.length) (nI us) (nI pc) hu ba bo)))[195]? = _) (hI.far (fun a h1 h2 => far1 a (by omega)) (far1 223 (by decide))) (hR.far (fun a h1 h2 => far1 a (by omega))) hT ht hcap hby) (fun H2 hx => ?_)
  obtain ⟨⟨us2, x1, x2⟩, x3⟩ := hx
  have far2 : ∀ a, a ≠ 195 → ¬ (198 ≤ a ∧ a ≤ 204) → H2[a]? = H[a]? := fun a h1 h2 => (x3 a h1 h2).trans (far1 a h1)
  refine RQ.blk 2 (pc' := 126) (lv' := [(3, .int (nI us)), (2, .int (nI ms.length)), (0, .ref 196), (1, .int (nI t))]) (st' := [.int (nI t), .ref 196]) (H' := _) (kc' := 0) (ks' := 0) rfl ?_
  obtain ⟨⟨bf2, ko2, kn2, vo2, vz2, vm2, hA2, hL2⟩, -⟩ := id x2
  have hnd := rc_mneededL (sc := sc) (d := d) (x := nI t) x1 hA2 hL2 hk2 ((far2 205 (by decide) (by decide)).trans h5) ((far2 206 (by decide) (by decide)).trans h6) hse (hT2.far (fun a h1 h2 => far2 a (by omega) (by omega))) hkT ((far2 220 (by decide) (by decide)).trans hps) hpc hp
  generalize ((sumF (fun f => if kd f = 0 then 0 else 62 + nl f) 200 + sum0 (fun p => 27 + ps p) pc) + ((ms ++ addM (p + 1) ws).map (wM op se (nI t) (p + 1) (kmM (ms ++ addM (p + 1) ws)))).sum) = nd at hnd hle
  refine RQ.call (v := some (.int (nI nd))) (st' := []) rfl rfl rfl rfl rfl rfl (args_v [.int (nI t)] [] rfl rfl (Nat.le_of_ble_eq_true rfl) rfl x1 (Nat.le_of_ble_eq_true rfl)) hnd ?_
  refine RQ.blk 1 (pc' := 130) (lv' := [(3, .int (nI us)), (2, .int (nI ms.length)), (0, .ref 196), (1, .int (nI t))]) (st' := [.ref 196, .int (nI nd)]) (H' := _) (kc' := 0) (ks' := 0) rfl ?_
  refine RQ.get (ci := 12) rfl x1 rfl rfl ?_
  refine RQ.brT rfl rfl rfl (cT_le nd lim) ?_
  refine RQ.blk 1 (pc' := 149) (lv' := [(3, .int (nI us)), (2, .int (nI ms.length)), (0, .ref 196), (1, .int (nI t))]) (st' := [.ref 196]) (H' := _) (kc' := 0) (ks' := 0) rfl ?_
  refine RQ.get (ci := 12) rfl x1 rfl rfl ?_
  refine RQ.brF rfl rfl rfl (by decide) ?_
  refine RQ.blk 1 (pc' := 156) (lv' := [(3, .int (nI us)), (2, .int (nI ms.length)), (0, .ref 196), (1, .int (nI t))]) (st' := [.ref 196]) (H' := _) (kc' := 0) (ks' := 0) rfl ?_
  refine RQ.get (ci := 12) rfl x1 rfl rfl ?_
  refine RQ.brF rfl rfl rfl (by decide) ?_
  refine RQ.blk 3 (pc' := 165) (lv' := [(3, .int (nI us)), (2, .int (nI ms.length)), (0, .ref 196), (1, .int (nI t))]) (st' := [.int (nI us), .int (nI ms.length), .ref 196]) (H' := _) (kc' := 0) (ks' := 0) rfl ?_
  refine RQ.call (v := none) (st' := []) rfl rfl rfl rfl rfl rfl (args_v [.int (nI us), .int (nI ms.length)] [] rfl rfl (Nat.le_of_ble_eq_true rfl) rfl x1 (Nat.le_of_ble_eq_true rfl)) (rc_mtakeBack x1) ?_
  have hm3 : (H2.set 195 (kO 12 (mfs 0 (nI lim) 0 1 0 tp rs (nI p) (nI ms.length) (nI us) (nI pc) hu ba bo)))[195]? = some (kO 12 (mfs 0 (nI lim) 0 1 0 tp rs (nI p) (nI ms.length) (nI us) (nI pc) hu ba bo)) := get_set x1
  have hI3 : MVIs (H2.set 195 (kO 12 (mfs 0 (nI lim) 0 1 0 tp rs (nI p) (nI ms.length) (nI us) (nI pc) hu ba bo))) ba bo us ms := by
    obtain ⟨⟨bf2, ko2, kn2, vo2, vz2, vm2, hA2, hL2⟩, -, ob, w0, hbr⟩ := x2
    obtain ⟨-, hus, -⟩ := hI
    exact MVIs.far ⟨⟨bf2, ko2, kn2, vo2, vz2, vm2, hA2, hL2.front⟩, hus, ob, w0, hbr⟩ (fun a h1 h2 => set_far (by omega)) (set_far (by decide))
  refine RQ.blk 1 (pc' := 169) (lv' := [(3, .int (nI us)), (2, .int (nI ms.length)), (0, .ref 196), (1, .int (nI t))]) (st' := [.ref 196]) (H' := _) (kc' := 0) (ks' := 0) rfl ?_
  refine RQ.get (ci := 12) rfl hm3 rfl rfl ?_
  refine RQ.blk 2 (pc' := 174) (lv' := [(3, .int (nI us)), (2, .int (nI ms.length)), (0, .ref 196), (1, .int (nI t))]) (st' := [.int 0, .int (nI t), .ref 206]) (H' := _) (kc' := 0) (ks' := 0) rfl ?_
  refine RQ.zastN (j := t) rfl ((set_far (by decide)).trans ((far2 205 (by decide) (by decide)).trans h5)) (by omega) (by decide) ?_
  refine RQ.blk 2 (pc' := 177) (lv' := [(3, .int (nI us)), (2, .int (nI ms.length)), (0, .ref 196), (1, .int (nI t))]) (st' := [.int 2, .ref 196]) (H' := _) (kc' := 0) (ks' := 0) rfl ?_
  have hm4 := ((set_far (by decide)).trans hm3 : ((H2.set 195 (kO 12 (mfs 0 (nI lim) 0 1 0 tp rs (nI p) (nI ms.length) (nI us) (nI pc) hu ba bo))).set 205 (kZ 8 (va_up op t false)))[195]? = _)
  have h54 : ((H2.set 195 (kO 12 (mfs 0 (nI lim) 0 1 0 tp rs (nI p) (nI ms.length) (nI us) (nI pc) hu ba bo))).set 205 (kZ 8 (va_up op t false)))[205]? = some (kZ 8 (va_up op t false)) := get_set ((set_far (by decide)).trans ((far2 205 (by decide) (by decide)).trans h5))
  have far4 : ∀ a, a ≠ 195 → ¬ (198 ≤ a ∧ a ≤ 204) → a ≠ 205 → ((H2.set 195 (kO 12 (mfs 0 (nI lim) 0 1 0 tp rs (nI p) (nI ms.length) (nI us) (nI pc) hu ba bo))).set 205 (kZ 8 (va_up op t false)))[a]? = H[a]? := fun a h1 h2 h3 => (set_far h3).trans ((set_far h1).trans (far2 a h1 h2))
  have hI4 : MVIs ((H2.set 195 (kO 12 (mfs 0 (nI lim) 0 1 0 tp rs (nI p) (nI ms.length) (nI us) (nI pc) hu ba bo))).set 205 (kZ 8 (va_up op t false))) ba bo us ms := hI3.far (fun a h1 h2 => set_far (by omega)) (set_far (by decide))
  refine RQ.callI (st' := []) rfl rfl rfl rfl rfl rfl (args_v [.int 2] [] rfl rfl (Nat.le_of_ble_eq_true rfl) rfl hm4 (Nat.le_of_ble_eq_true rfl)) (ri_mcutNow1 hm4 h54) (fun z H5 hz => ?_)
  obtain ⟨ez, hm5, h55, z3⟩ := hz
  rw [ez]
  have hI5 := hI4.far (fun a h1 h2 => z3 a (by omega) (by omega)) (z3 223 (by decide) (by decide))
  have far5 : ∀ a, a ≠ 195 → ¬ (198 ≤ a ∧ a ≤ 204) → a ≠ 205 → H5[a]? = H[a]? := fun a h1 h2 h3 => (z3 a h1 h3).trans (far4 a h1 h2 h3)
  have e8 : (fun j => if j < 8 then false else (va_up op t false) j) = (fun j => if j < 8 then false else op j) := by
    funext j
    by_cases h : j < 8
    · rw [if_pos h, if_pos h]
    · rw [if_neg h, if_neg h, up_ne (by omega)]
  rw [e8] at h55
  refine RQ.blk 2 (pc' := 183) (lv' := [(4, .int 1), (3, .int (nI us)), (2, .int (nI ms.length)), (0, .ref 196), (1, .int (nI t))]) (st' := [.ref 196]) (H' := _) (kc' := 0) (ks' := 0) rfl ?_
  refine RQ.callN (st' := []) rfl rfl rfl rfl rfl rfl (args_v [] [] rfl rfl (Nat.le_of_ble_eq_true rfl) rfl hm5 (Nat.le_of_ble_eq_true rfl)) (rn_pruneL (op := (fun j => if j < 8 then false else op j)) hm5 hI5 hk h55 ((far5 206 (by decide) (by decide) (by decide)).trans h6) hse (by omega)) (fun H6 hy => ?_)
  obtain ⟨us', y1, y2, y3⟩ := hy
  refine RQ.blk 1 (pc' := 188) (lv' := [(4, .int 1), (3, .int (nI us)), (2, .int (nI ms.length)), (0, .ref 196), (1, .int (nI t))]) (st' := [.int 1]) (H' := _) (kc' := 0) (ks' := 0) rfl ?_
  refine RQ.brF rfl rfl rfl (by decide) ?_
  refine RQ.blk 2 (pc' := 199) (lv' := [(4, .int 1), (3, .int (nI us)), (2, .int (nI ms.length)), (0, .ref 196), (1, .int (nI t))]) (st' := [.int 0]) (H' := _) (kc' := 0) (ks' := 0) rfl ?_
  exact RQ.done (c := 0) (s := 0) rfl rfl rfl rfl ⟨_, _, rfl, rfl, us', y1, y2, (y3 205 (by omega)).trans h55, fun a h1 h2 => (y3 a (by omega)).trans (far5 a (by omega) (by omega) h2)⟩
