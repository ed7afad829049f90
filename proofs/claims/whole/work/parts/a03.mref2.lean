/-! ===== the reference: flush, compact, collect, mount; a commit; written by wip/gen/mref2.py ===== -/
theorem ri_mmaint1 {sc : Nat × (Nat → Int32)} {d p us : Nat} {H : aH} {fa li cl tp rs pi hu : Int32} {ba bo : Nat} {ms : List aMV} {op : Nat → Bool} {se : Nat → Nat} (hm : H[195]? = some (kO 12 (mfs fa li 0 1 cl tp rs (nI p) (nI ms.length) (nI us) pi hu ba bo))) (hI : MVIs H ba bo us ms) (hk : MSOk ms) (h5 : H[205]? = some (kZ 8 op)) (h6 : H[206]? = some (kI 8 (fun j => nI (se j)))) (hse : ∀ t, t < 8 → se t < 2 ^ 31) (hp : p < 2 ^ 31) : RI sc (d + 4) mr_276 [.ref 196] H (fun z H' => z = 0 ∧ ∃ us', H'[195]? = some (kO 12 (mfs 1 li 1 0 cl 0 0 (nI p) (nI (ms.filter (keepM (fun j => if j < 8 then false else op j) se p (kmM ms))).length) (nI us') pi hu bo ba)) ∧ MVIs H' bo ba us' (ms.filter (keepM (fun j => if j < 8 then false else op j) se p (kmM ms))) ∧ H'[205]? = some (kZ 8 (fun j => if j < 8 then false else op j)) ∧ ∀ a, ¬ (a = 195 ∨ 198 ≤ a ∧ a ≤ 204 ∨ a = 223) → a ≠ 205 → H'[a]? = H[a]?) := by
  have hbab := hI.2.2.2.2
  refine RI.of ?_
  refine RQ.blk 2 (pc' := 2) (lv' := [(0, .ref 196)]) (st' := [.int 0, .ref 196]) (H' := _) (kc' := 0) (ks' := 0) rfl ?_
  refine RQ.put (ci := 12) rfl hm rfl rfl (Nat.le_of_ble_eq_true rfl) ?_
  refine RQ.blk 1 (pc' := 6) (lv' := [(0, .ref 196)]) (st' := [.ref 196]) (H' := _) (kc' := 0) (ks' := 0) rfl ?_
  refine RQ.get (ci := 12) rfl (get_set hm) rfl rfl ?_
  refine RQ.brT rfl rfl rfl (by decide) ?_
  refine RQ.blk 2 (pc' := 20) (lv' := [(0, .ref 196)]) (st' := [.int 1, .ref 196]) (H' := _) (kc' := 0) (ks' := 0) rfl ?_
  have far1 : ∀ a, a ≠ 195 → (H.set 195 (kO 12 (mfs 0 li 0 1 cl tp rs (nI p) (nI ms.length) (nI us) pi hu ba bo)))[a]? = H[a]? := fun a ha => set_far ha
  refine RQ.callI (st' := []) rfl rfl rfl rfl rfl rfl (args_v [.int 1] [] rfl rfl (Nat.le_of_ble_eq_true rfl) rfl (get_set hm) (Nat.le_of_ble_eq_true rfl)) (ri_mcutNow1 (get_set hm : (H.set 195 (kO 12 (mfs 0 li 0 1 cl tp rs (nI p) (nI ms.length) (nI us) pi hu ba bo)))[195]? = _) ((far1 205 (by decide)).trans h5)) (fun z H2 hx => ?_)
  obtain ⟨ez, x1, x2, x3⟩ := hx
  rw [ez]
  refine RQ.brF rfl rfl rfl (by decide) ?_
  refine RQ.blk 1 (pc' := 27) (lv' := [(0, .ref 196)]) (st' := [.ref 196]) (H' := _) (kc' := 0) (ks' := 0) rfl ?_
  refine RQ.callN (st' := []) rfl rfl rfl rfl rfl rfl (args_v [] [] rfl rfl (Nat.le_of_ble_eq_true rfl) rfl x1 (Nat.le_of_ble_eq_true rfl)) (rn_pruneL (op := (fun j => if j < 8 then false else op j)) x1 (hI.far (fun a h1 h2 => (x3 a (by omega) (by omega)).trans (far1 a (by omega))) ((x3 223 (by decide) (by decide)).trans (far1 223 (by decide)))) hk x2 ((x3 206 (by decide) (by decide)).trans ((far1 206 (by decide)).trans h6)) hse hp) (fun H3 hy => ?_)
  obtain ⟨us', y1, y2, y3⟩ := hy
  refine RQ.blk 1 (pc' := 31) (lv' := [(0, .ref 196)]) (st' := [.int 0]) (H' := _) (kc' := 0) (ks' := 0) rfl ?_
  exact RQ.done (c := 0) (s := 0) rfl rfl rfl rfl ⟨_, _, rfl, rfl, us', y1, y2, (y3 205 (by omega)).trans x2, fun a h1 h2 => (y3 a (by omega)).trans ((x3 a (by omega) h2).trans (far1 a (by omega)))⟩
theorem MTreeAt.far {H H' : aH} {kd pa sz nl : Nat → Nat} {nm : Nat → Int8} (h : MTreeAt H kd pa sz nl nm) (hs : ∀ a, 213 ≤ a → a < 218 → H'[a]? = H[a]?) : MTreeAt H' kd pa sz nl nm := ⟨(hs _ (by omega) (by omega)).trans h.1, (hs _ (by omega) (by omega)).trans h.2.1, (hs _ (by omega) (by omega)).trans h.2.2.1, (hs _ (by omega) (by omega)).trans h.2.2.2.1, (hs _ (by omega) (by omega)).trans h.2.2.2.2⟩
theorem rc_mmaint0 {sc : Nat × (Nat → Int32)} {d p us : Nat} {H : aH} {fa li cl tp rs hu : Int32} {ba bo : Nat} {ms : List aMV} {op : Nat → Bool} {se : Nat → Nat} {kd pa sz nl ps : Nat → Nat} {nm : Nat → Int8} {pc : Nat} (hm : H[195]? = some (kO 12 (mfs fa li 0 0 cl tp rs (nI p) (nI ms.length) (nI us) (nI pc) hu ba bo))) (hI : MVIs H ba bo us ms) (hk : MSOk ms) (h5 : H[205]? = some (kZ 8 op)) (h6 : H[206]? = some (kI 8 (fun j => nI (se j)))) (hse : ∀ t, t < 8 → se t < 2 ^ 31) (hp : p < 2 ^ 31) (hT : MTreeAt H kd pa sz nl nm) (hkT : TreeOk kd pa sz nl) (hps : H[220]? = some (kI 1300 (fun j => nI (ps j)))) (hpc : pc ≤ 1300) : RC sc (d + 4) mr_276 [.ref 196] H (.inl (some (.int (nI ((sumF (fun f => if kd f = 0 then 0 else 62 + nl f) 200 + sum0 (fun p => 27 + ps p) pc) + (ms.map (wM op se (-1) p (kmM ms))).sum))))) (H.set 195 (kO 12 (mfs 0 li 0 0 cl tp rs (nI p) (nI ms.length) (nI us) (nI pc) hu ba bo))) 0 0 := by
  have hbab := hI.2.2.2.2
  refine RC.of ?_
  refine RQ.blk 2 (pc' := 2) (lv' := [(0, .ref 196)]) (st' := [.int 0, .ref 196]) (H' := _) (kc' := 0) (ks' := 0) rfl ?_
  refine RQ.put (ci := 12) rfl hm rfl rfl (Nat.le_of_ble_eq_true rfl) ?_
  refine RQ.blk 1 (pc' := 6) (lv' := [(0, .ref 196)]) (st' := [.ref 196]) (H' := _) (kc' := 0) (ks' := 0) rfl ?_
  refine RQ.get (ci := 12) rfl (get_set hm) rfl rfl ?_
  refine RQ.brT rfl rfl rfl (by decide) ?_
  refine RQ.blk 2 (pc' := 20) (lv' := [(0, .ref 196)]) (st' := [.int 1, .ref 196]) (H' := _) (kc' := 0) (ks' := 0) rfl ?_
  have far1 : ∀ a, a ≠ 195 → (H.set 195 (kO 12 (mfs 0 li 0 0 cl tp rs (nI p) (nI ms.length) (nI us) (nI pc) hu ba bo)))[a]? = H[a]? := fun a ha => set_far ha
  refine RQ.call (v := some (.int 0)) (st' := []) rfl rfl rfl rfl rfl rfl (args_v [.int 1] [] rfl rfl (Nat.le_of_ble_eq_true rfl) rfl (get_set hm) (Nat.le_of_ble_eq_true rfl)) (rc_mcutNow0 (get_set hm)) ?_
  refine RQ.brT rfl rfl rfl (by decide) ?_
  refine RQ.blk 2 (pc' := 34) (lv' := [(0, .ref 196)]) (st' := [.int (-1), .ref 196]) (H' := _) (kc' := 0) (ks' := 0) rfl ?_
  obtain ⟨⟨bf, ko, kn, vo, vz, vm, hA, hL⟩, -⟩ := hI
  refine RQ.call (v := some (.int (nI ((sumF (fun f => if kd f = 0 then 0 else 62 + nl f) 200 + sum0 (fun p => 27 + ps p) pc) + (ms.map (wM op se (-1) p (kmM ms))).sum)))) (st' := []) rfl rfl rfl rfl rfl rfl (args_v [.int (-1)] [] rfl rfl (Nat.le_of_ble_eq_true rfl) rfl (get_set hm) (Nat.le_of_ble_eq_true rfl)) (rc_mneededL (x := -1) (get_set hm : (H.set 195 (kO 12 (mfs 0 li 0 0 cl tp rs (nI p) (nI ms.length) (nI us) (nI pc) hu ba bo)))[195]? = _) (hA.far (fun a h1 h2 => far1 a (by omega)) (far1 ba (by omega))) hL hk ((far1 205 (by decide)).trans h5) ((far1 206 (by decide)).trans h6) hse (hT.far (fun a h1 h2 => far1 a (by omega))) hkT ((far1 220 (by decide)).trans hps) hpc hp) ?_
  exact RQ.done (c := 0) (s := 0) rfl rfl rfl rfl rfl
theorem rc_mflush {sc : Nat × (Nat → Int32)} {d : Nat} {H H' : aH} {y : Int32} {fa li dn cw cl tp rs pr ve us pi hu : Int32} {ba bo : Nat} (hm : H[195]? = some (kO 12 (mfs fa li dn cw cl tp rs pr ve us pi hu ba bo))) (hr : RC sc d mr_276 [.ref 196] H (.inl (some (.int y))) H' 0 0) : RC sc (d + 1) mr_275 [.ref 196] H (.inl (some (.int y))) H' 0 0 := by
  refine RP.blk 1 (pc' := 1) (lv' := [(0, .ref 196)]) (st' := [.ref 196]) (H' := _) (kc' := 0) (ks' := 0) rfl ?_
  refine RP.call (v := some (.int y)) (st' := []) rfl rfl rfl rfl rfl rfl (args_v [] [] rfl rfl (Nat.le_of_ble_eq_true rfl) rfl hm (Nat.le_of_ble_eq_true rfl)) hr ?_
  exact RP.done (c := 0) (s := 0) rfl rfl rfl rfl
theorem rc_mcompact {sc : Nat × (Nat → Int32)} {d : Nat} {H H' : aH} {y : Int32} {x : Int32} {fa li dn cw cl tp rs pr ve us pi hu : Int32} {ba bo : Nat} (hm : H[195]? = some (kO 12 (mfs fa li dn cw cl tp rs pr ve us pi hu ba bo))) (hr : RC sc d mr_276 [.ref 196] H (.inl (some (.int y))) H' 0 0) : RC sc (d + 1) mr_279 [.ref 196, .int x] H (.inl (some (.int y))) H' 0 0 := by
  refine RP.blk 1 (pc' := 1) (lv' := [(0, .ref 196), (1, .int x)]) (st' := [.ref 196]) (H' := _) (kc' := 0) (ks' := 0) rfl ?_
  refine RP.call (v := some (.int y)) (st' := []) rfl rfl rfl rfl rfl rfl (args_v [] [] rfl rfl (Nat.le_of_ble_eq_true rfl) rfl hm (Nat.le_of_ble_eq_true rfl)) hr ?_
  exact RP.done (c := 0) (s := 0) rfl rfl rfl rfl
theorem rc_mcollect {sc : Nat × (Nat → Int32)} {d : Nat} {H H' : aH} {y : Int32} {fa li dn cw cl tp rs pr ve us pi hu : Int32} {ba bo : Nat} (hm : H[195]? = some (kO 12 (mfs fa li dn cw cl tp rs pr ve us pi hu ba bo))) (hr : RC sc d mr_276 [.ref 196] H (.inl (some (.int y))) H' 0 0) : RC sc (d + 1) mr_280 [.ref 196] H (.inl (some (.int y))) H' 0 0 := by
  refine RP.blk 1 (pc' := 1) (lv' := [(0, .ref 196)]) (st' := [.ref 196]) (H' := _) (kc' := 0) (ks' := 0) rfl ?_
  refine RP.call (v := some (.int y)) (st' := []) rfl rfl rfl rfl rfl rfl (args_v [] [] rfl rfl (Nat.le_of_ble_eq_true rfl) rfl hm (Nat.le_of_ble_eq_true rfl)) hr ?_
  exact RP.done (c := 0) (s := 0) rfl rfl rfl rfl
theorem ri_mmount0 {sc : Nat × (Nat → Int32)} {d p us : Nat} {H : aH} {fa li dn cl tp rs pi hu : Int32} {ba bo : Nat} {ms : List aMV} {op : Nat → Bool} {se : Nat → Nat} (hm : H[195]? = some (kO 12 (mfs fa li dn 0 cl tp rs (nI p) (nI ms.length) (nI us) pi hu ba bo))) (hI : MVIs H ba bo us ms) (hk : MSOk ms) (h5 : H[205]? = some (kZ 8 op)) (h6 : H[206]? = some (kI 8 (fun j => nI (se j)))) (hse : ∀ t, t < 8 → se t < 2 ^ 31) (hp : p < 2 ^ 31) : RI sc (d + 4) mr_268 [.ref 196] H (fun z H' => z = nI p ∧ ∃ us', H'[195]? = some (kO 12 (mfs 0 li 0 0 cl 0 0 (nI p) (nI (ms.filter (keepM (fun j => if j < 8 then false else op j) se p (kmM ms))).length) (nI us') pi hu bo ba)) ∧ MVIs H' bo ba us' (ms.filter (keepM (fun j => if j < 8 then false else op j) se p (kmM ms))) ∧ H'[205]? = some (kZ 8 (fun j => if j < 8 then false else op j)) ∧ ∀ a, ¬ (a = 195 ∨ 198 ≤ a ∧ a ≤ 204 ∨ a = 223) → a ≠ 205 → H'[a]? = H[a]?) := by
  have hbab := hI.2.2.2.2
  refine RI.of ?_
  refine RQ.blk 2 (pc' := 2) (lv' := [(0, .ref 196)]) (st' := [.int 0, .ref 196]) (H' := _) (kc' := 0) (ks' := 0) rfl ?_
  refine RQ.put (ci := 12) rfl hm rfl rfl (Nat.le_of_ble_eq_true rfl) ?_
  refine RQ.blk 1 (pc' := 6) (lv' := [(0, .ref 196)]) (st' := [.ref 196]) (H' := _) (kc' := 0) (ks' := 0) rfl ?_
  have far1 : ∀ a, a ≠ 195 → (H.set 195 (kO 12 (mfs 0 li dn 0 cl tp rs (nI p) (nI ms.length) (nI us) pi hu ba bo)))[a]? = H[a]? := fun a ha => set_far ha
  refine RQ.callN (st' := []) rfl rfl rfl rfl rfl rfl (args_v [] [] rfl rfl (Nat.le_of_ble_eq_true rfl) rfl (get_set hm) (Nat.le_of_ble_eq_true rfl)) (rn_mfall (get_set hm : (H.set 195 (kO 12 (mfs 0 li dn 0 cl tp rs (nI p) (nI ms.length) (nI us) pi hu ba bo)))[195]? = _) ((far1 205 (by decide)).trans h5)) (fun H2 hx => ?_)
  obtain ⟨x1, x2, x3⟩ := hx
  refine RQ.blk 1 (pc' := 10) (lv' := [(0, .ref 196)]) (st' := [.ref 196]) (H' := _) (kc' := 0) (ks' := 0) rfl ?_
  refine RQ.callN (st' := []) rfl rfl rfl rfl rfl rfl (args_v [] [] rfl rfl (Nat.le_of_ble_eq_true rfl) rfl x1 (Nat.le_of_ble_eq_true rfl)) (rn_pruneL (op := (fun j => if j < 8 then false else op j)) x1 (hI.far (fun a h1 h2 => (x3 a (by omega) (by omega)).trans (far1 a (by omega))) ((x3 223 (by decide) (by decide)).trans (far1 223 (by decide)))) hk x2 ((x3 206 (by decide) (by decide)).trans ((far1 206 (by decide)).trans h6)) hse hp) (fun H3 hy => ?_)
  obtain ⟨us', y1, y2, y3⟩ := hy
  refine RQ.blk 2 (pc' := 15) (lv' := [(0, .ref 196)]) (st' := [.int 1, .ref 196]) (H' := _) (kc' := 0) (ks' := 0) rfl ?_
  refine RQ.call (v := some (.int 0)) (st' := []) rfl rfl rfl rfl rfl rfl (args_v [.int 1] [] rfl rfl (Nat.le_of_ble_eq_true rfl) rfl y1 (Nat.le_of_ble_eq_true rfl)) (rc_mcutNow0 y1) ?_
  refine RQ.brT rfl rfl rfl (by decide) ?_
  refine RQ.blk 2 (pc' := 25) (lv' := [(0, .ref 196)]) (st' := [.int 0, .ref 196]) (H' := _) (kc' := 0) (ks' := 0) rfl ?_
  refine RQ.put (ci := 12) rfl y1 rfl rfl (Nat.le_of_ble_eq_true rfl) ?_
  refine RQ.blk 1 (pc' := 29) (lv' := [(0, .ref 196)]) (st' := [.ref 196]) (H' := _) (kc' := 0) (ks' := 0) rfl ?_
  refine RQ.get (ci := 12) rfl (get_set y1) rfl rfl ?_
  exact RQ.done (c := 0) (s := 0) rfl rfl rfl rfl ⟨_, _, rfl, rfl, us', get_set y1, y2.far (fun a h1 h2 => set_far (by omega)) (set_far (by decide)), (set_far (by decide)).trans ((y3 205 (by omega)).trans x2), fun a h1 h2 => (set_far (by omega)).trans ((y3 a (by omega)).trans ((x3 a (by omega) h2).trans (far1 a (by omega))))⟩
theorem ri_mmount1 {sc : Nat × (Nat → Int32)} {d p us : Nat} {H : aH} {fa li dn cl tp rs pi hu : Int32} {ba bo : Nat} {ms : List aMV} {op : Nat → Bool} {se : Nat → Nat} (hm : H[195]? = some (kO 12 (mfs fa li dn 1 cl tp rs (nI p) (nI ms.length) (nI us) pi hu ba bo))) (hI : MVIs H ba bo us ms) (hk : MSOk ms) (h5 : H[205]? = some (kZ 8 op)) (h6 : H[206]? = some (kI 8 (fun j => nI (se j)))) (hse : ∀ t, t < 8 → se t < 2 ^ 31) (hp : p < 2 ^ 31) : RI sc (d + 4) mr_268 [.ref 196] H (fun z H' => z = 0 ∧ ∃ us', H'[195]? = some (kO 12 (mfs 1 li 1 0 cl 0 0 (nI p) (nI (ms.filter (keepM (fun j => if j < 8 then false else op j) se p (kmM ms))).length) (nI us') pi hu bo ba)) ∧ MVIs H' bo ba us' (ms.filter (keepM (fun j => if j < 8 then false else op j) se p (kmM ms))) ∧ H'[205]? = some (kZ 8 (fun j => if j < 8 then false else op j)) ∧ ∀ a, ¬ (a = 195 ∨ 198 ≤ a ∧ a ≤ 204 ∨ a = 223) → a ≠ 205 → H'[a]? = H[a]?) := by
  have hbab := hI.2.2.2.2
  refine RI.of ?_
  refine RQ.blk 2 (pc' := 2) (lv' := [(0, .ref 196)]) (st' := [.int 0, .ref 196]) (H' := _) (kc' := 0) (ks' := 0) rfl ?_
  refine RQ.put (ci := 12) rfl hm rfl rfl (Nat.le_of_ble_eq_true rfl) ?_
  refine RQ.blk 1 (pc' := 6) (lv' := [(0, .ref 196)]) (st' := [.ref 196]) (H' := _) (kc' := 0) (ks' := 0) rfl ?_
  have far1 : ∀ a, a ≠ 195 → (H.set 195 (kO 12 (mfs 0 li dn 1 cl tp rs (nI p) (nI ms.length) (nI us) pi hu ba bo)))[a]? = H[a]? := fun a ha => set_far ha
  refine RQ.callN (st' := []) rfl rfl rfl rfl rfl rfl (args_v [] [] rfl rfl (Nat.le_of_ble_eq_true rfl) rfl (get_set hm) (Nat.le_of_ble_eq_true rfl)) (rn_mfall (get_set hm : (H.set 195 (kO 12 (mfs 0 li dn 1 cl tp rs (nI p) (nI ms.length) (nI us) pi hu ba bo)))[195]? = _) ((far1 205 (by decide)).trans h5)) (fun H2 hx => ?_)
  obtain ⟨x1, x2, x3⟩ := hx
  refine RQ.blk 1 (pc' := 10) (lv' := [(0, .ref 196)]) (st' := [.ref 196]) (H' := _) (kc' := 0) (ks' := 0) rfl ?_
  refine RQ.callN (st' := []) rfl rfl rfl rfl rfl rfl (args_v [] [] rfl rfl (Nat.le_of_ble_eq_true rfl) rfl x1 (Nat.le_of_ble_eq_true rfl)) (rn_pruneL (op := (fun j => if j < 8 then false else op j)) x1 (hI.far (fun a h1 h2 => (x3 a (by omega) (by omega)).trans (far1 a (by omega))) ((x3 223 (by decide) (by decide)).trans (far1 223 (by decide)))) hk x2 ((x3 206 (by decide) (by decide)).trans ((far1 206 (by decide)).trans h6)) hse hp) (fun H3 hy => ?_)
  obtain ⟨us', y1, y2, y3⟩ := hy
  refine RQ.blk 2 (pc' := 15) (lv' := [(0, .ref 196)]) (st' := [.int 1, .ref 196]) (H' := _) (kc' := 0) (ks' := 0) rfl ?_
  have g5 := (y3 205 (by omega)).trans x2
  refine RQ.callI (st' := []) rfl rfl rfl rfl rfl rfl (args_v [.int 1] [] rfl rfl (Nat.le_of_ble_eq_true rfl) rfl y1 (Nat.le_of_ble_eq_true rfl)) (ri_mcutNow1 y1 g5) (fun z H4 hz => ?_)
  obtain ⟨ez, z1, z2, z3⟩ := hz
  rw [ez]
  refine RQ.brF rfl rfl rfl (by decide) ?_
  refine RQ.blk 1 (pc' := 22) (lv' := [(0, .ref 196)]) (st' := [.int 0]) (H' := _) (kc' := 0) (ks' := 0) rfl ?_
  exact RQ.done (c := 0) (s := 0) rfl rfl rfl rfl ⟨_, _, rfl, rfl, us', z1, y2.far (fun a h1 h2 => z3 a (by omega) (by omega)) (z3 223 (by decide) (by decide)), (z2.trans (congrArg (fun f => some (kZ 8 f)) (funext (fun j => by by_cases h : j < 8 <;> simp [h])))), fun a h1 h2 => (z3 a (by omega) h2).trans ((y3 a (by omega)).trans ((x3 a (by omega) h2).trans (far1 a (by omega))))⟩
