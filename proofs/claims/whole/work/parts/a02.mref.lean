/-! ===== the reference: the power fails; a change is done; written by wip/gen/mref.py ===== -/
theorem rn_mfall {sc : Nat × (Nat → Int32)} {d : Nat} {H : aH} {fa li dn cw cl tp rs pr ve us pi hu : Int32} {ba bo : Nat} {op : Nat → Bool} (hm : H[195]? = some (kO 12 (mfs fa li dn cw cl tp rs pr ve us pi hu ba bo))) (h5 : H[205]? = some (kZ 8 op)) : RN sc d mr_269 [.ref 196] H (fun H' => H'[195]? = some (kO 12 (mfs fa li 1 cw cl 0 0 pr ve us pi hu ba bo)) ∧ H'[205]? = some (kZ 8 (fun j => if j < 8 then false else op j)) ∧ ∀ a, a ≠ 195 → a ≠ 205 → H'[a]? = H[a]?) := by
  refine RN.of ?_
  refine RQ.blk 2 (pc' := 2) (lv' := [(0, .ref 196)]) (st' := [.int 1, .ref 196]) (H' := _) (kc' := 0) (ks' := 0) rfl ?_
  refine RQ.put (ci := 12) rfl hm rfl rfl (Nat.le_of_ble_eq_true rfl) ?_
  refine RQ.blk 2 (pc' := 7) (lv' := [(1, .int 0), (0, .ref 196)]) (st' := []) (H' := _) (kc' := 0) (ks' := 0) rfl ?_
  refine RQ.while (S := Nat) (pc := 7) (fun i H' => i ≤ 8 ∧ H' = ((H.set 195 (kO 12 (mfs fa li 1 cw cl tp rs pr ve us pi hu ba bo))).set 205 (kZ 8 (fun j => if j < i then false else op j)))) (fun i => [(1, .int (nI i)), (0, .ref 196)]) (fun i => 8 - i) ?_ 0 _ ⟨by omega, ?_⟩
  · rintro i H1 ⟨hi, e⟩ ih
    rw [e]
    by_cases hlt : i < 8
    ·
      refine RQ.blk 2 (pc' := 10) (lv' := [(1, .int (nI i)), (0, .ref 196)]) (st' := [.int 8, .int (nI i)]) (H' := _) (kc' := 0) (ks' := 0) rfl ?_
      refine RQ.brF rfl rfl rfl (cF_ge i 8) ?_
      refine RQ.blk 1 (pc' := 14) (lv' := [(1, .int (nI i)), (0, .ref 196)]) (st' := [.ref 196]) (H' := _) (kc' := 0) (ks' := 0) rfl ?_
      refine RQ.get (ci := 12) rfl ((set_far (by decide)).trans (get_set hm)) rfl rfl ?_
      refine RQ.blk 2 (pc' := 19) (lv' := [(1, .int (nI i)), (0, .ref 196)]) (st' := [.int 0, .int (nI i), .ref 206]) (H' := _) (kc' := 0) (ks' := 0) rfl ?_
      refine RQ.zastN (j := i) rfl (get_set ((set_far (by decide)).trans h5)) (by omega) (by decide) ?_
      have e2 : va_up (fun j => if j < i then false else op j) i (decide ((0 : Int32) &&& 1 = 1)) = (fun j => if j < (i + 1) then false else op j) := by
        funext j
        unfold va_up
        by_cases h1 : j = i
        · rw [if_pos h1, if_pos (by omega)]; rfl
        · rw [if_neg h1]
          show (if j < i then false else op j) = _
          by_cases h2 : j < i
          · rw [if_pos h2, if_pos (by omega)]
          · rw [if_neg h2, if_neg (by omega)]
      rw [set_set, e2]
      refine RQ.blk 1 (pc' := 23) (lv' := [(1, .int (nI i + 1)), (0, .ref 196)]) (st' := []) (H' := _) (kc' := 0) (ks' := 0) rfl ?_
      rw [show (nI i + 1 : Int32) = nI (i + 1) from nI_add i 1]
      refine RQ.blk 1 (pc' := 7) (lv' := [(1, .int (nI (i + 1))), (0, .ref 196)]) (st' := []) (H' := _) (kc' := 0) (ks' := 0) rfl ?_
      exact ih (i + 1) _ ⟨by omega, rfl⟩ (by omega)
    · have e2 : i = 8 := by omega
      rw [e2]
      refine RQ.blk 2 (pc' := 10) (lv' := [(1, .int (nI 8)), (0, .ref 196)]) (st' := [.int 8, .int (nI 8)]) (H' := _) (kc' := 0) (ks' := 0) rfl ?_
      refine RQ.brT rfl rfl rfl (cT_ge 8 8) ?_
      refine RQ.blk 2 (pc' := 28) (lv' := [(1, .int (nI 8)), (0, .ref 196)]) (st' := [.int 0, .ref 196]) (H' := _) (kc' := 0) (ks' := 0) rfl ?_
      refine RQ.put (ci := 12) rfl ((set_far (by decide)).trans (get_set hm)) rfl rfl (Nat.le_of_ble_eq_true rfl) ?_
      refine RQ.blk 2 (pc' := 33) (lv' := [(1, .int (nI 8)), (0, .ref 196)]) (st' := [.int 0, .ref 196]) (H' := _) (kc' := 0) (ks' := 0) rfl ?_
      refine RQ.put (ci := 12) rfl (get_set ((set_far (by decide)).trans (get_set hm))) rfl rfl (Nat.le_of_ble_eq_true rfl) ?_
      exact RQ.done (c := 0) (s := 0) rfl rfl rfl rfl ⟨_, rfl, get_set (get_set ((set_far (by decide)).trans (get_set hm))), (set_far (by decide)).trans ((set_far (by decide)).trans (get_set ((set_far (by decide)).trans h5))), fun a h1 h2 => (set_far h1).trans ((set_far h1).trans ((set_far h2).trans (set_far h1)))⟩
  · rw [show (fun j => if j < 0 then false else op j) = op from funext (fun j => if_neg (Nat.not_lt_zero j)), set_self ((set_far (by decide)).trans h5)]; rfl
theorem rc_mcutNow0 {sc : Nat × (Nat → Int32)} {d : Nat} {H : aH} {x : Int32} {fa li dn cl tp rs pr ve us pi hu : Int32} {ba bo : Nat} (hm : H[195]? = some (kO 12 (mfs fa li dn 0 cl tp rs pr ve us pi hu ba bo))) : RC sc d mr_274 [.ref 196, .int x] H (.inl (some (.int 0))) H 0 0 := by
  refine RP.blk 1 (pc' := 1) (lv' := [(0, .ref 196), (1, .int x)]) (st' := [.ref 196]) (H' := _) (kc' := 0) (ks' := 0) rfl ?_
  refine RP.get (ci := 12) rfl hm rfl rfl ?_
  refine RP.brF rfl rfl rfl (by decide) ?_
  refine RP.blk 1 (pc' := 8) (lv' := [(0, .ref 196), (1, .int x)]) (st' := [.int 0]) (H' := _) (kc' := 0) (ks' := 0) rfl ?_
  exact RP.done (c := 0) (s := 0) rfl rfl rfl rfl
theorem ri_mcutNow1 {sc : Nat × (Nat → Int32)} {d : Nat} {H : aH} {x : Int32} {fa li dn cl tp rs pr ve us pi hu : Int32} {ba bo : Nat} {op : Nat → Bool} (hm : H[195]? = some (kO 12 (mfs fa li dn 1 cl tp rs pr ve us pi hu ba bo))) (h5 : H[205]? = some (kZ 8 op)) : RI sc (d + 1) mr_274 [.ref 196, .int x] H (fun y H' => y = 1 ∧ H'[195]? = some (kO 12 (mfs x li 1 0 cl 0 0 pr ve us pi hu ba bo)) ∧ H'[205]? = some (kZ 8 (fun j => if j < 8 then false else op j)) ∧ ∀ a, a ≠ 195 → a ≠ 205 → H'[a]? = H[a]?) := by
  refine RI.of ?_
  refine RQ.blk 1 (pc' := 1) (lv' := [(0, .ref 196), (1, .int x)]) (st' := [.ref 196]) (H' := _) (kc' := 0) (ks' := 0) rfl ?_
  refine RQ.get (ci := 12) rfl hm rfl rfl ?_
  refine RQ.brT rfl rfl rfl (by decide) ?_
  refine RQ.blk 2 (pc' := 11) (lv' := [(0, .ref 196), (1, .int x)]) (st' := [.int 0, .ref 196]) (H' := _) (kc' := 0) (ks' := 0) rfl ?_
  refine RQ.put (ci := 12) rfl hm rfl rfl (Nat.le_of_ble_eq_true rfl) ?_
  refine RQ.blk 1 (pc' := 15) (lv' := [(0, .ref 196), (1, .int x)]) (st' := [.ref 196]) (H' := _) (kc' := 0) (ks' := 0) rfl ?_
  have far1 : ∀ a, a ≠ 195 → (H.set 195 (kO 12 (mfs fa li dn 0 cl tp rs pr ve us pi hu ba bo)))[a]? = H[a]? := fun a ha => set_far ha
  refine RQ.callN (st' := []) rfl rfl rfl rfl rfl rfl (args_v [] [] rfl rfl (Nat.le_of_ble_eq_true rfl) rfl (get_set hm) (Nat.le_of_ble_eq_true rfl)) (rn_mfall (get_set hm) ((far1 205 (by decide)).trans h5)) (fun H2 hx => ?_)
  obtain ⟨x1, x2, x3⟩ := hx
  refine RQ.blk 2 (pc' := 20) (lv' := [(0, .ref 196), (1, .int x)]) (st' := [.int x, .ref 196]) (H' := _) (kc' := 0) (ks' := 0) rfl ?_
  refine RQ.put (ci := 12) rfl x1 rfl rfl (Nat.le_of_ble_eq_true rfl) ?_
  refine RQ.blk 1 (pc' := 24) (lv' := [(0, .ref 196), (1, .int x)]) (st' := [.int 1]) (H' := _) (kc' := 0) (ks' := 0) rfl ?_
  exact RQ.done (c := 0) (s := 0) rfl rfl rfl rfl ⟨_, _, rfl, rfl, get_set x1, (set_far (by decide)).trans x2, fun a h1 h2 => (set_far h1).trans ((x3 a h1 h2).trans (far1 a h1))⟩
theorem rc_mlost0 {sc : Nat × (Nat → Int32)} {d : Nat} {H : aH} {x : Int32} {fa li dn cl tp rs pr ve us pi hu : Int32} {ba bo : Nat} (hm : H[195]? = some (kO 12 (mfs fa li dn 0 cl tp rs pr ve us pi hu ba bo))) : RC sc d mr_308 [.ref 196, .int x] H (.inl (some (.int 0))) H 0 0 := by
  refine RP.blk 1 (pc' := 1) (lv' := [(0, .ref 196), (1, .int x)]) (st' := [.ref 196]) (H' := _) (kc' := 0) (ks' := 0) rfl ?_
  refine RP.get (ci := 12) rfl hm rfl rfl ?_
  refine RP.brT rfl rfl rfl (by decide) ?_
  refine RP.blk 1 (pc' := 27) (lv' := [(0, .ref 196), (1, .int x)]) (st' := [.int 0]) (H' := _) (kc' := 0) (ks' := 0) rfl ?_
  exact RP.done (c := 0) (s := 0) rfl rfl rfl rfl
theorem rc_mlostL {sc : Nat × (Nat → Int32)} {d : Nat} {H : aH} {x : Int32} {fa li dn tp rs pr ve us pi hu : Int32} {ba bo : Nat} (hm : H[195]? = some (kO 12 (mfs fa li dn 1 1 tp rs pr ve us pi hu ba bo))) : RC sc d mr_308 [.ref 196, .int x] H (.inl (some (.int 0))) H 0 0 := by
  refine RP.blk 1 (pc' := 1) (lv' := [(0, .ref 196), (1, .int x)]) (st' := [.ref 196]) (H' := _) (kc' := 0) (ks' := 0) rfl ?_
  refine RP.get (ci := 12) rfl hm rfl rfl ?_
  refine RP.brF rfl rfl rfl (by decide) ?_
  refine RP.blk 1 (pc' := 8) (lv' := [(0, .ref 196), (1, .int x)]) (st' := [.ref 196]) (H' := _) (kc' := 0) (ks' := 0) rfl ?_
  refine RP.get (ci := 12) rfl hm rfl rfl ?_
  refine RP.brT rfl rfl rfl (by decide) ?_
  refine RP.blk 1 (pc' := 27) (lv' := [(0, .ref 196), (1, .int x)]) (st' := [.int 0]) (H' := _) (kc' := 0) (ks' := 0) rfl ?_
  exact RP.done (c := 0) (s := 0) rfl rfl rfl rfl
theorem ri_mlost1 {sc : Nat × (Nat → Int32)} {d : Nat} {H : aH} {x : Int32} {fa li dn tp rs pr ve us pi hu : Int32} {ba bo : Nat} {op : Nat → Bool} (hm : H[195]? = some (kO 12 (mfs fa li dn 1 0 tp rs pr ve us pi hu ba bo))) (h5 : H[205]? = some (kZ 8 op)) : RI sc (d + 2) mr_308 [.ref 196, .int x] H (fun y H' => y = 1 ∧ H'[195]? = some (kO 12 (mfs x li 1 0 0 0 0 pr ve us pi hu ba bo)) ∧ H'[205]? = some (kZ 8 (fun j => if j < 8 then false else op j)) ∧ ∀ a, a ≠ 195 → a ≠ 205 → H'[a]? = H[a]?) := by
  refine RI.of ?_
  refine RQ.blk 1 (pc' := 1) (lv' := [(0, .ref 196), (1, .int x)]) (st' := [.ref 196]) (H' := _) (kc' := 0) (ks' := 0) rfl ?_
  refine RQ.get (ci := 12) rfl hm rfl rfl ?_
  refine RQ.brF rfl rfl rfl (by decide) ?_
  refine RQ.blk 1 (pc' := 8) (lv' := [(0, .ref 196), (1, .int x)]) (st' := [.ref 196]) (H' := _) (kc' := 0) (ks' := 0) rfl ?_
  refine RQ.get (ci := 12) rfl hm rfl rfl ?_
  refine RQ.brF rfl rfl rfl (by decide) ?_
  refine RQ.blk 2 (pc' := 16) (lv' := [(0, .ref 196), (1, .int x)]) (st' := [.int x, .ref 196]) (H' := _) (kc' := 0) (ks' := 0) rfl ?_
  refine RQ.callI (st' := []) rfl rfl rfl rfl rfl rfl (args_v [.int x] [] rfl rfl (Nat.le_of_ble_eq_true rfl) rfl hm (Nat.le_of_ble_eq_true rfl)) (ri_mcutNow1 hm h5) (fun y H2 hx => ?_)
  obtain ⟨ey, x1, x2, x3⟩ := hx
  rw [ey]
  refine RQ.brF rfl rfl rfl (by decide) ?_
  refine RQ.blk 2 (pc' := 27) (lv' := [(0, .ref 196), (1, .int x)]) (st' := [.int 1]) (H' := _) (kc' := 0) (ks' := 0) rfl ?_
  exact RQ.done (c := 0) (s := 0) rfl rfl rfl rfl ⟨_, _, rfl, rfl, x1, x2, x3⟩
theorem rc_mchanged0 {sc : Nat × (Nat → Int32)} {d p : Nat} {H : aH} {x y : Int32} {fa li dn cl tp rs ve us pi hu : Int32} {ba bo : Nat} (hm : H[195]? = some (kO 12 (mfs fa li dn 0 cl tp rs (nI p) ve us pi hu ba bo))) : RC sc (d + 1) mr_310 [.ref 196, .int x, .int y] H (.inl (some (.int y))) (H.set 195 (kO 12 (mfs fa li dn 0 cl tp rs (nI (p + 1)) ve us pi hu ba bo))) 0 0 := by
  refine RP.blk 2 (pc' := 2) (lv' := [(0, .ref 196), (1, .int x), (2, .int y)]) (st' := [.ref 196, .ref 196]) (H' := _) (kc' := 0) (ks' := 0) rfl ?_
  refine RP.get (ci := 12) rfl hm rfl rfl ?_
  refine RP.blk 2 (pc' := 7) (lv' := [(0, .ref 196), (1, .int x), (2, .int y)]) (st' := [.int (nI p + 1), .ref 196]) (H' := _) (kc' := 0) (ks' := 0) rfl ?_
  rw [show (nI p + 1 : Int32) = nI (p + 1) from nI_add p 1]
  refine RP.put (ci := 12) rfl hm rfl rfl (Nat.le_of_ble_eq_true rfl) ?_
  refine RP.blk 2 (pc' := 12) (lv' := [(0, .ref 196), (1, .int x), (2, .int y)]) (st' := [.int x, .ref 196]) (H' := _) (kc' := 0) (ks' := 0) rfl ?_
  refine RP.call (v := some (.int 0)) (st' := []) rfl rfl rfl rfl rfl rfl (args_v [.int x] [] rfl rfl (Nat.le_of_ble_eq_true rfl) rfl (get_set hm) (Nat.le_of_ble_eq_true rfl)) (rc_mcutNow0 (get_set hm)) ?_
  refine RP.brT rfl rfl rfl (by decide) ?_
  refine RP.blk 1 (pc' := 25) (lv' := [(0, .ref 196), (1, .int x), (2, .int y)]) (st' := [.int y]) (H' := _) (kc' := 0) (ks' := 0) rfl ?_
  exact RP.done (c := 0) (s := 0) rfl rfl rfl rfl
theorem ri_mchanged1 {sc : Nat × (Nat → Int32)} {d p us : Nat} {H : aH} {x y : Int32} {fa li dn cl tp rs pi hu : Int32} {ba bo : Nat} {ms : List aMV} {op : Nat → Bool} {se : Nat → Nat} (hm : H[195]? = some (kO 12 (mfs fa li dn 1 cl tp rs (nI p) (nI ms.length) (nI us) pi hu ba bo))) (hI : MVIs H ba bo us ms) (hk : MSOk ms) (h5 : H[205]? = some (kZ 8 op)) (h6 : H[206]? = some (kI 8 (fun j => nI (se j)))) (hse : ∀ t, t < 8 → se t < 2 ^ 31) (hp : p + 1 < 2 ^ 31) : RI sc (d + 4) mr_310 [.ref 196, .int x, .int y] H (fun z H' => z = 0 ∧ ∃ us', H'[195]? = some (kO 12 (mfs x li 1 0 cl 0 0 (nI (p + 1)) (nI (ms.filter (keepM (fun j => if j < 8 then false else op j) se (p + 1) (kmM ms))).length) (nI us') pi hu bo ba)) ∧ MVIs H' bo ba us' (ms.filter (keepM (fun j => if j < 8 then false else op j) se (p + 1) (kmM ms))) ∧ H'[205]? = some (kZ 8 (fun j => if j < 8 then false else op j)) ∧ ∀ a, ¬ (a = 195 ∨ 198 ≤ a ∧ a ≤ 204 ∨ a = 223) → a ≠ 205 → H'[a]? = H[a]?) := by
  have hbab := hI.2.2.2.2
  refine RI.of ?_
  refine RQ.blk 2 (pc' := 2) (lv' := [(0, .ref 196), (1, .int x), (2, .int y)]) (st' := [.ref 196, .ref 196]) (H' := _) (kc' := 0) (ks' := 0) rfl ?_
  refine RQ.get (ci := 12) rfl hm rfl rfl ?_
  refine RQ.blk 2 (pc' := 7) (lv' := [(0, .ref 196), (1, .int x), (2, .int y)]) (st' := [.int (nI p + 1), .ref 196]) (H' := _) (kc' := 0) (ks' := 0) rfl ?_
  rw [show (nI p + 1 : Int32) = nI (p + 1) from nI_add p 1]
  refine RQ.put (ci := 12) rfl hm rfl rfl (Nat.le_of_ble_eq_true rfl) ?_
  refine RQ.blk 2 (pc' := 12) (lv' := [(0, .ref 196), (1, .int x), (2, .int y)]) (st' := [.int x, .ref 196]) (H' := _) (kc' := 0) (ks' := 0) rfl ?_
  have far1 : ∀ a, a ≠ 195 → (H.set 195 (kO 12 (mfs fa li dn 1 cl tp rs (nI (p + 1)) (nI ms.length) (nI us) pi hu ba bo)))[a]? = H[a]? := fun a ha => set_far ha
  refine RQ.callI (st' := []) rfl rfl rfl rfl rfl rfl (args_v [.int x] [] rfl rfl (Nat.le_of_ble_eq_true rfl) rfl (get_set hm) (Nat.le_of_ble_eq_true rfl)) (ri_mcutNow1 (get_set hm : (H.set 195 (kO 12 (mfs fa li dn 1 cl tp rs (nI (p + 1)) (nI ms.length) (nI us) pi hu ba bo)))[195]? = _) ((far1 205 (by decide)).trans h5)) (fun z H2 hx => ?_)
  obtain ⟨ez, x1, x2, x3⟩ := hx
  rw [ez]
  refine RQ.brF rfl rfl rfl (by decide) ?_
  refine RQ.blk 1 (pc' := 19) (lv' := [(0, .ref 196), (1, .int x), (2, .int y)]) (st' := [.ref 196]) (H' := _) (kc' := 0) (ks' := 0) rfl ?_
  refine RQ.callN (st' := []) rfl rfl rfl rfl rfl rfl (args_v [] [] rfl rfl (Nat.le_of_ble_eq_true rfl) rfl x1 (Nat.le_of_ble_eq_true rfl)) (rn_pruneL (op := (fun j => if j < 8 then false else op j)) x1 (hI.far (fun a h1 h2 => (x3 a (by omega) (by omega)).trans (far1 a (by omega))) ((x3 223 (by decide) (by decide)).trans (far1 223 (by decide)))) hk x2 ((x3 206 (by decide) (by decide)).trans ((far1 206 (by decide)).trans h6)) hse hp) (fun H3 hy => ?_)
  obtain ⟨us', y1, y2, y3⟩ := hy
  refine RQ.blk 1 (pc' := 23) (lv' := [(0, .ref 196), (1, .int x), (2, .int y)]) (st' := [.int 0]) (H' := _) (kc' := 0) (ks' := 0) rfl ?_
  exact RQ.done (c := 0) (s := 0) rfl rfl rfl rfl ⟨_, _, rfl, rfl, us', y1, y2, (y3 205 (by omega)).trans x2, fun a h1 h2 => (y3 a (by omega)).trans ((x3 a (by omega) h2).trans (far1 a (by omega)))⟩
theorem rc_mmaint_down {sc : Nat × (Nat → Int32)} {d : Nat} {H : aH} {fa li cw cl tp rs pr ve us pi hu : Int32} {ba bo : Nat} (hm : H[195]? = some (kO 12 (mfs fa li 1 cw cl tp rs pr ve us pi hu ba bo))) : RC sc (d + 1) mr_276 [.ref 196] H (.inl (some (.int 0))) (H.set 195 (kO 12 (mfs 1 li 1 cw cl tp rs pr ve us pi hu ba bo))) 0 0 := by
  refine RP.blk 2 (pc' := 2) (lv' := [(0, .ref 196)]) (st' := [.int 0, .ref 196]) (H' := _) (kc' := 0) (ks' := 0) rfl ?_
  refine RP.put (ci := 12) rfl hm rfl rfl (Nat.le_of_ble_eq_true rfl) ?_
  refine RP.blk 1 (pc' := 6) (lv' := [(0, .ref 196)]) (st' := [.ref 196]) (H' := _) (kc' := 0) (ks' := 0) rfl ?_
  refine RP.get (ci := 12) rfl (get_set hm) rfl rfl ?_
  refine RP.brF rfl rfl rfl (by decide) ?_
  refine RP.blk 2 (pc' := 14) (lv' := [(0, .ref 196)]) (st' := [.int 1, .ref 196]) (H' := _) (kc' := 0) (ks' := 0) rfl ?_
  refine RP.call (v := some (.int 0)) (st' := []) rfl rfl rfl rfl rfl rfl (args_v [.int 1] [] rfl rfl (Nat.le_of_ble_eq_true rfl) rfl (get_set hm) (Nat.le_of_ble_eq_true rfl)) (rc_mfail (get_set hm) rfl) ?_
  rw [set_set]
  exact RP.done (c := 0) (s := 0) rfl rfl rfl rfl
