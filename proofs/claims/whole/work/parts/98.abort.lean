/-! ===== a transaction ends; collisions; class, reference; written by wip/gen/abort.py ===== -/
theorem rn_closeTx {sc : Nat × (Nat → Int32)} {d t N p : Nat} {H : aH} {bl pr up cw cl cp cb : Int32} {op : Nat → Bool} {sm : Nat → Nat} {vs : List aV} (h0 : H[0]? = some (kO 11 (fvs bl pr up cw cl cp cb))) (hs : SightAt H op sm) (hsm : ∀ t, t < 8 → sm t < 2 ^ 31) (hV : VersIs H N vs) (hpr : ∀ v ∈ vs, v.2.1 ≤ p) (ht : t < 8) : RN sc (d + 3) mr_78 [.ref 1, .int (nI t)] H (fun H' => SightAt H' (va_up op t false) sm ∧ VersIs H' N (vs.filter (keepS (va_up op t false) sm p (kmV vs))) ∧ ∀ a, a ≠ 8 → ¬ (74 ≤ a ∧ a < 83) → H'[a]? = H[a]?) := by
  obtain ⟨fv, hv0⟩ : ∃ fv, H[74]? = some (kO 10 fv) := by
    obtain ⟨_, _, _, _, _, _, _, _, _, _, _, h1, _, _⟩ := hV
    exact ⟨_, h1.1⟩
  refine RN.of ?_
  refine RQ.blk 1 (pc' := 1) (lv' := [(0, .ref 1), (1, .int (nI t))]) (st' := [.ref 1]) (H' := _) (kc' := 0) (ks' := 0) rfl ?_
  refine RQ.get (ci := 11) rfl h0 rfl rfl ?_
  refine RQ.blk 1 (pc' := 5) (lv' := [(0, .ref 1), (1, .int (nI t))]) (st' := [.int (nI t), .ref 8]) (H' := _) (kc' := 0) (ks' := 0) rfl ?_
  refine RQ.call (v := none) (st' := []) rfl rfl rfl rfl rfl rfl (args_v [.int (nI t)] [] rfl rfl (Nat.le_of_ble_eq_true rfl) rfl hs.1 (Nat.le_of_ble_eq_true rfl)) (rc_close hs ht) ?_
  have far1 : ∀ a, a ≠ 8 → (H.set 8 (kZ 8 (va_up op t false)))[a]? = H[a]? := fun a ha => set_far ha
  have hs2 : SightAt (H.set 8 (kZ 8 (va_up op t false))) (va_up op t false) sm := ⟨(far1 7 (by decide)).trans hs.1, get_set hs.2.1, (far1 9 (by decide)).trans hs.2.2⟩
  refine RQ.blk 1 (pc' := 9) (lv' := [(0, .ref 1), (1, .int (nI t))]) (st' := [.ref 1]) (H' := _) (kc' := 0) (ks' := 0) rfl ?_
  refine RQ.get (ci := 11) rfl ((far1 0 (by decide)).trans h0) rfl rfl ?_
  refine RQ.callN (st' := []) rfl rfl rfl rfl rfl rfl (args_v [] [] rfl rfl (Nat.le_of_ble_eq_true rfl) rfl ((far1 74 (by decide)).trans hv0) (Nat.le_of_ble_eq_true rfl)) (rn_purgeL hs2 hsm (hV.far (fun a ha _ => far1 a (by omega))) hpr) (fun H' hx => ?_)
  exact RQ.done (c := 0) (s := 0) rfl rfl rfl rfl ⟨_, rfl, hs2.far (fun a ha => hx.2 a ha), hx.1, fun a h1 h2 => (hx.2 a h2).trans (far1 a h1)⟩
theorem ri_abort {sc : Nat × (Nat → Int32)} {d t N p b n u : Nat} {H : aH} {bl pr cw cl cp cb : Int32} {op : Nat → Bool} {sm : Nat → Nat} {vs : List aV} {wq : Nat → Option Nat} (h0 : H[0]? = some (kO 11 (fvs bl pr 1 cw cl cp cb))) (hs : SightAt H op sm) (hsm : ∀ t, t < 8 → sm t < 2 ^ 31) (hV : VersIs H N vs) (hpr : ∀ v ∈ vs, v.2.1 ≤ p) (ht : t < 8) (hop : op t = true) (hw : H[10]? = some (kQ 4 8 wq)) (hq : wq t = some b) (hb0 : H[b]? = some (kO 0 [.ref (b + 1 + 1), .ref (b + 2 + 1), .ref (b + 3 + 1), .ref (b + 4 + 1), .ref (b + 5 + 1), .int (nI n), .int (nI u)])) : RI sc (d + 4) mr_164 [.ref 1, .int (nI t)] H (fun x H' => x = nI n ∧ SightAt H' (va_up op t false) sm ∧ VersIs H' N (vs.filter (keepS (va_up op t false) sm p (kmV vs))) ∧ ∀ a, a ≠ 8 → ¬ (74 ≤ a ∧ a < 83) → H'[a]? = H[a]?) := by
  refine RI.of ?_
  refine RQ.blk 2 (pc' := 2) (lv' := [(0, .ref 1), (1, .int (nI t))]) (st' := [.int (nI t), .ref 1]) (H' := _) (kc' := 0) (ks' := 0) rfl ?_
  refine RQ.call (v := none) (st' := []) rfl rfl rfl rfl rfl rfl (args_v [.int (nI t)] [] rfl rfl (Nat.le_of_ble_eq_true rfl) rfl h0 (Nat.le_of_ble_eq_true rfl)) (rc_reqTx h0 ht) ?_
  refine RQ.blk 1 (pc' := 6) (lv' := [(0, .ref 1), (1, .int (nI t))]) (st' := [.ref 1]) (H' := _) (kc' := 0) (ks' := 0) rfl ?_
  refine RQ.call (v := none) (st' := []) rfl rfl rfl rfl rfl rfl (args_v [] [] rfl rfl (Nat.le_of_ble_eq_true rfl) rfl h0 (Nat.le_of_ble_eq_true rfl)) (rc_up h0 rfl) ?_
  refine RQ.blk 2 (pc' := 11) (lv' := [(0, .ref 1), (1, .int (nI t))]) (st' := [.int (nI t), .ref 1]) (H' := _) (kc' := 0) (ks' := 0) rfl ?_
  refine RQ.call (v := none) (st' := []) rfl rfl rfl rfl rfl rfl (args_v [.int (nI t)] [] rfl rfl (Nat.le_of_ble_eq_true rfl) rfl h0 (Nat.le_of_ble_eq_true rfl)) (rc_reqOpen h0 hs ht hop) ?_
  refine RQ.blk 1 (pc' := 15) (lv' := [(0, .ref 1), (1, .int (nI t))]) (st' := [.ref 1]) (H' := _) (kc' := 0) (ks' := 0) rfl ?_
  refine RQ.get (ci := 11) rfl h0 rfl rfl ?_
  refine RQ.blk 1 (pc' := 19) (lv' := [(0, .ref 1), (1, .int (nI t))]) (st' := [.int (nI t), .ref 8]) (H' := _) (kc' := 0) (ks' := 0) rfl ?_
  refine RQ.call (v := some (.ref (b + 1))) (st' := []) rfl rfl rfl rfl rfl rfl (args_v [.int (nI t)] [] rfl rfl (Nat.le_of_ble_eq_true rfl) rfl hs.1 (Nat.le_of_ble_eq_true rfl)) (rc_writesOf hs hw hq ht) ?_
  refine RQ.get (ci := 0) rfl hb0 rfl rfl ?_
  refine RQ.blk 3 (pc' := 28) (lv' := [(2, .int (nI n)), (0, .ref 1), (1, .int (nI t))]) (st' := [.int (nI t), .ref 1]) (H' := _) (kc' := 0) (ks' := 0) rfl ?_
  refine RQ.callN (st' := []) rfl rfl rfl rfl rfl rfl (args_v [.int (nI t)] [] rfl rfl (Nat.le_of_ble_eq_true rfl) rfl h0 (Nat.le_of_ble_eq_true rfl)) (rn_closeTx h0 hs hsm hV hpr ht) (fun H' hx => ?_)
  refine RQ.blk 1 (pc' := 32) (lv' := [(2, .int (nI n)), (0, .ref 1), (1, .int (nI t))]) (st' := [.int (nI n)]) (H' := _) (kc' := 0) (ks' := 0) rfl ?_
  exact RQ.done (c := 0) (s := 0) rfl rfl rfl rfl ⟨_, _, rfl, rfl, hx⟩
theorem MVIs.far {H H' : aH} {ba bo us : Nat} {ms : List aMV} (h : MVIs H ba bo us ms) (hs : ∀ a, 198 ≤ a → a < 205 → H'[a]? = H[a]?) (h2 : H'[223]? = H[223]?) : MVIs H' ba bo us ms := by
  obtain ⟨⟨bf, ko, kn, vo, vz, vm, h3, h4⟩, h5, ⟨ob, h6⟩, ⟨w0, h7⟩, h8, h9, h10⟩ := h
  exact ⟨⟨bf, ko, kn, vo, vz, vm, h3.far (fun a h1 h2 => hs a h1 (by omega)) (hs ba (by omega) (by omega)), h4⟩, h5, ⟨ob, (hs bo (by omega) (by omega)).trans h6⟩, ⟨w0, h2.trans h7⟩, h8, h9, h10⟩
theorem ri_mabort {sc : Nat × (Nat → Int32)} {d t p us : Nat} {H : aH} {fa li cw cl tp rs pi hu : Int32} {ba bo : Nat} {ms : List aMV} {op : Nat → Bool} {se ro : Nat → Nat} (hm : H[195]? = some (kO 12 (mfs fa li 0 cw cl tp rs (nI p) (nI ms.length) (nI us) pi hu ba bo))) (hI : MVIs H ba bo us ms) (hk : MSOk ms) (h5 : H[205]? = some (kZ 8 op)) (h6 : H[206]? = some (kI 8 (fun j => nI (se j)))) (hse : ∀ t, t < 8 → se t < 2 ^ 31) (hp : p < 2 ^ 31) (h7 : H[207]? = some (kI 8 (fun j => nI (ro j)))) (ht : t < 8) (hop : op t = true) : RI sc (d + 4) mr_299 [.ref 196, .int (nI t)] H (fun x H' => x = nI (ro t) ∧ ∃ us', H'[195]? = some (kO 12 (mfs 0 li 0 cw cl tp rs (nI p) (nI (ms.filter (keepM (va_up op t false) se p (kmM ms))).length) (nI us') pi hu bo ba)) ∧ MVIs H' bo ba us' (ms.filter (keepM (va_up op t false) se p (kmM ms))) ∧ H'[205]? = some (kZ 8 (va_up op t false)) ∧ ∀ a, ¬ (a = 195 ∨ 198 ≤ a ∧ a ≤ 204 ∨ a = 223) → a ≠ 205 → a ≠ 195 → H'[a]? = H[a]?) := by
  have hbab := hI.2.2.2.2
  refine RI.of ?_
  refine RQ.blk 2 (pc' := 2) (lv' := [(0, .ref 196), (1, .int (nI t))]) (st' := [.int 0, .ref 196]) (H' := _) (kc' := 0) (ks' := 0) rfl ?_
  refine RQ.put (ci := 12) rfl hm rfl rfl (Nat.le_of_ble_eq_true rfl) ?_
  refine RQ.blk 3 (pc' := 9) (lv' := [(0, .ref 196), (1, .int (nI t))]) (st' := [.int 8, .int (nI t), .ref 196]) (H' := _) (kc' := 0) (ks' := 0) rfl ?_
  refine RQ.call (v := some (.int 0)) (st' := []) rfl rfl rfl rfl rfl rfl (args_v [.int 8, .int (nI t)] [] rfl rfl (Nat.le_of_ble_eq_true rfl) rfl (get_set hm) (Nat.le_of_ble_eq_true rfl)) (rc_out ht (by decide)) ?_
  refine RQ.brT rfl rfl rfl (by decide) ?_
  refine RQ.blk 1 (pc' := 22) (lv' := [(0, .ref 196), (1, .int (nI t))]) (st' := [.ref 196]) (H' := _) (kc' := 0) (ks' := 0) rfl ?_
  refine RQ.get (ci := 12) rfl (get_set hm) rfl rfl ?_
  refine RQ.brT rfl rfl rfl (by decide) ?_
  refine RQ.blk 1 (pc' := 35) (lv' := [(0, .ref 196), (1, .int (nI t))]) (st' := [.ref 196]) (H' := _) (kc' := 0) (ks' := 0) rfl ?_
  refine RQ.get (ci := 12) rfl (get_set hm) rfl rfl ?_
  refine RQ.blk 1 (pc' := 39) (lv' := [(0, .ref 196), (1, .int (nI t))]) (st' := [.int (nI t), .ref 206]) (H' := _) (kc' := 0) (ks' := 0) rfl ?_
  refine RQ.zaldN (j := t) rfl ((set_far (by decide)).trans h5) (by omega) (by decide) ?_
  refine RQ.brT rfl rfl rfl (by rw [hop]; decide) ?_
  refine RQ.blk 1 (pc' := 50) (lv' := [(0, .ref 196), (1, .int (nI t))]) (st' := [.ref 196]) (H' := _) (kc' := 0) (ks' := 0) rfl ?_
  refine RQ.get (ci := 12) rfl (get_set hm) rfl rfl ?_
  refine RQ.blk 2 (pc' := 55) (lv' := [(0, .ref 196), (1, .int (nI t))]) (st' := [.int 0, .int (nI t), .ref 206]) (H' := _) (kc' := 0) (ks' := 0) rfl ?_
  refine RQ.zastN (j := t) rfl ((set_far (by decide)).trans h5) (by omega) (by decide) ?_
  refine RQ.blk 1 (pc' := 57) (lv' := [(0, .ref 196), (1, .int (nI t))]) (st' := [.ref 196]) (H' := _) (kc' := 0) (ks' := 0) rfl ?_
  have far1 : ∀ a, a ≠ 195 → a ≠ 205 → ((H.set 195 (kO 12 (mfs 0 li 0 cw cl tp rs (nI p) (nI ms.length) (nI us) pi hu ba bo))).set 205 (kZ 8 (va_up op t false)))[a]? = H[a]? := fun a h1 h2 => (set_far h2).trans (set_far h1)
  have hI2 : MVIs ((H.set 195 (kO 12 (mfs 0 li 0 cw cl tp rs (nI p) (nI ms.length) (nI us) pi hu ba bo))).set 205 (kZ 8 (va_up op t false))) ba bo us ms := hI.far (fun a h1 h2 => far1 a (by omega) (by omega)) (far1 223 (by decide) (by decide))
  have hm2 : ((H.set 195 (kO 12 (mfs 0 li 0 cw cl tp rs (nI p) (nI ms.length) (nI us) pi hu ba bo))).set 205 (kZ 8 (va_up op t false)))[195]? = some (kO 12 (mfs 0 li 0 cw cl tp rs (nI p) (nI ms.length) (nI us) pi hu ba bo)) := (set_far (by decide)).trans (get_set hm)
  have h52 : ((H.set 195 (kO 12 (mfs 0 li 0 cw cl tp rs (nI p) (nI ms.length) (nI us) pi hu ba bo))).set 205 (kZ 8 (va_up op t false)))[205]? = some (kZ 8 (va_up op t false)) := get_set ((set_far (by decide)).trans h5)
  refine RQ.callN (st' := []) rfl rfl rfl rfl rfl rfl (args_v [] [] rfl rfl (Nat.le_of_ble_eq_true rfl) rfl hm2 (Nat.le_of_ble_eq_true rfl)) (rn_pruneL (op := (va_up op t false)) hm2 hI2 hk h52 ((far1 206 (by decide) (by decide)).trans h6) hse hp) (fun H' hx => ?_)
  obtain ⟨us', x1, x2, x3⟩ := hx
  refine RQ.blk 1 (pc' := 61) (lv' := [(0, .ref 196), (1, .int (nI t))]) (st' := [.ref 196]) (H' := _) (kc' := 0) (ks' := 0) rfl ?_
  refine RQ.get (ci := 12) rfl x1 rfl rfl ?_
  refine RQ.blk 1 (pc' := 65) (lv' := [(0, .ref 196), (1, .int (nI t))]) (st' := [.int (nI t), .ref 208]) (H' := _) (kc' := 0) (ks' := 0) rfl ?_
  refine RQ.ialdN (j := t) rfl ((x3 207 (by omega)).trans ((far1 207 (by decide) (by decide)).trans h7)) (by omega) (by decide) ?_
  exact RQ.done (c := 0) (s := 0) rfl rfl rfl rfl ⟨_, _, rfl, rfl, us', x1, x2, (x3 205 (by omega)).trans h52, fun a h1 h2 h3 => (x3 a (by omega)).trans (far1 a (by omega) h2)⟩
/-- a key was changed behind the moment m -/
def colV (vs : List aV) (p m : Nat) (k : List Nat) : Bool := match seenV vs (0 :: k) p with
  | some v => decide (m < v.2.1)
  | none => false
def colM (ms : List aMV) (p m : Nat) (k : List Nat) : Bool := match seenM ms k p with
  | some v => decide (m < v.2.1)
  | none => false
theorem rel_col {op : Nat → Bool} {sm : Nat → Nat} {c : Nat → Int8} {vs : List aV} {ms : List aMV} {p t : Nat} (h : RelU op sm c vs ms) (h1 : OneV vs) (ht : t < 8) (hop : op t = true) (hpr : ∀ v ∈ vs, v.2.1 ≤ p) (k : List Nat) : colV vs p (sm t) k = colM ms p (sm t) k := by
  have h2 := rel_oneM h h1
  obtain ⟨zb, hP, hz⟩ := h
  unfold colV colM
  cases hV : seenV vs (0 :: k) p with
  | none =>
    have hn := seenV_none.mp hV
    have : seenM ms k p = none := by
      refine seenM_none.mpr (fun w hw hk hm => ?_)
      obtain ⟨x, hx, ex⟩ := List.mem_map.mp (hP.mem_iff.mpr hw)
      have hx2 := List.mem_filter.mp hx
      rw [Bool.and_eq_true] at hx2
      refine hn x hx2.1 ?_ ?_
      · rw [usV_cons hx2.2.1, ← hk, ← ex]; rfl
      · rw [← ex] at hm; exact hm
    rw [this]
  | some v =>
    obtain ⟨v1, v2, v3⟩ := (seenV_some h1).mp hV
    have hu : usV v = true := by
      unfold usV
      rw [v2]
      rfl
    by_cases hb : zb v = true
    · have hzz := hz v v1 hu hb
      have hno : ¬ sm t < v.2.1 := fun e => by
        have h3 := hzz.2.1
        rw [opA_ex.mpr ⟨t, ht, hop, nI_neg (by omega), decide_eq_true e⟩] at h3
        cases h3
      have : seenM ms k p = none := by
        refine seenM_none.mpr (fun w hw hk hm => ?_)
        obtain ⟨x, hx, ex⟩ := List.mem_map.mp (hP.mem_iff.mpr hw)
        have hx2 := List.mem_filter.mp hx
        rw [Bool.and_eq_true, Bool.not_eq_true'] at hx2
        have hxk : x.1 = v.1 := by
          rw [usV_cons hx2.2.1, v2, ← hk, ← ex]; rfl
        have h4 := hzz.2.2 x hx2.1 hxk
        by_cases e : x.2.1 = v.2.1
        · have := h1 x hx2.1 v v1 hxk e
          rw [this, hb] at hx2
          cases hx2.2.2
        · have := (stK_iff.mp v3).2 x.2.1 (mem_km.mpr ⟨x, hx2.1, hxk, rfl⟩) (by omega)
          have := hpr x hx2.1
          omega
      rw [this]
      exact decide_eq_false hno
    · have hb : zb v = false := by
        cases hc : zb v with
        | false => rfl
        | true => exact absurd hc hb
      have hm : toM c v ∈ ms := hP.mem_iff.mp (List.mem_map.mpr ⟨v, List.mem_filter.mpr ⟨v1, by rw [hu, hb]; rfl⟩, rfl⟩)
      have hst := rel_st hP hz v1 hu hb p
      have : seenM ms k p = some (toM c v) := by
        refine (seenM_some h2).mpr ⟨hm, ?_, ?_⟩
        · show v.1.tail = k
          rw [v2]; rfl
        · show stK (kmM ms) v.1.tail v.2.1 p = true
          rw [← hst]; exact v3
      rw [this]
      rfl
theorem anyL_T {α : Type} {ws : List α} {P : α → Bool} {i : Nat} {e : α} (h : ws[i]? = some e) (hp : P e = true) : ws.any P = true := List.any_eq_true.mpr ⟨e, List.mem_of_getElem? h, hp⟩
theorem anyL_F {α : Type} {ws : List α} {P : α → Bool} (h : ∀ i e, i < ws.length → ws[i]? = some e → P e = false) : ws.any P = false := by
  rw [List.any_eq_false]
  intro e he
  obtain ⟨i, hi⟩ := List.mem_iff_getElem?.mp he
  rw [h i e (get_lt hi) hi]
  exact fun e => by cases e
theorem rc_collides {sc : Nat × (Nat → Int32)} {N : Nat} {kf : Nat → Int8} {kl mo pl : Nat → Nat} {le : Nat → Option Nat} {al : Nat → Bool} {od sp : Nat → Nat} {sz ss ac : Nat} {d p m b u : Nat} {H : aH} {bl pr up cw cl cp cb : Int32} {D : Nat → Int8} {S K : Nat → Nat} {E : Nat → Option Nat} {ws : List aE} {vs : List aV} (h0 : H[0]? = some (kO 11 (fvs bl pr up cw cl cp cb))) (hA : VersAt H N kf kl mo pl le al od sp sz ss ac) (hV : VersWf N kf kl mo pl le al od sp sz ss ac) (hvs : vs = vsL kf kl mo pl le al od sz) (hpr : ∀ v ∈ vs, v.2.1 ≤ p) (hb : BatchAt H b D S K E (ws.map pfx).length u) (hbk : BatchOk S K E (ws.map pfx).length u) (hL : LayE D 0 S K E (ws.map pfx)) (hm : m < 2 ^ 31) : RC sc (d + 3) mr_86 [.ref 1, .ref (b + 1), .int (nI m)] H (.inl (some (.int (if ws.any (fun e => colV vs p m e.1) = true then 1 else 0)))) H 0 0 := by
  have hN := hV.1.1
  have hn40 := hbk.1
  have hwl : (ws.map pfx).length = ws.length := List.length_map _
  refine RC.of ?_
  refine RQ.blk 2 (pc' := 2) (lv' := [(3, .int 0), (0, .ref 1), (1, .ref (b + 1)), (2, .int (nI m))]) (st' := []) (H' := _) (kc' := 0) (ks' := 0) rfl ?_
  refine RQ.loopQ (pc := 2) (fun i => ∀ q e, q < i → ws[q]? = some e → colV vs p m e.1 = false) (fun i => [(3, .int (nI i)), (0, .ref 1), (1, .ref (b + 1)), (2, .int (nI m))]) ws.length (fun i hi h2 ih => ?_) (fun h2 => ?_) (fun q e hq => absurd hq (Nat.not_lt_zero _))
  ·
    refine RQ.blk 2 (pc' := 4) (lv' := [(3, .int (nI i)), (0, .ref 1), (1, .ref (b + 1)), (2, .int (nI m))]) (st' := [.ref (b + 1), .int (nI i)]) (H' := _) (kc' := 0) (ks' := 0) rfl ?_
    refine RQ.get (ci := 0) rfl hb.1 rfl rfl ?_
    refine RQ.brF rfl rfl rfl (cF_ge i (ws.map pfx).length) ?_
    refine RQ.blk 1 (pc' := 11) (lv' := [(3, .int (nI i)), (0, .ref 1), (1, .ref (b + 1)), (2, .int (nI m))]) (st' := [.ref 1]) (H' := _) (kc' := 0) (ks' := 0) rfl ?_
    refine RQ.get (ci := 11) rfl h0 rfl rfl ?_
    refine RQ.blk 1 (pc' := 15) (lv' := [(3, .int (nI i)), (0, .ref 1), (1, .ref (b + 1)), (2, .int (nI m))]) (st' := [.ref (b + 1), .ref 75]) (H' := _) (kc' := 0) (ks' := 0) rfl ?_
    refine RQ.get (ci := 0) rfl hb.1 rfl rfl ?_
    refine RQ.blk 1 (pc' := 19) (lv' := [(3, .int (nI i)), (0, .ref 1), (1, .ref (b + 1)), (2, .int (nI m))]) (st' := [.ref (b + 1), .ref ((b + 1) + 1), .ref 75]) (H' := _) (kc' := 0) (ks' := 0) rfl ?_
    refine RQ.get (ci := 0) rfl hb.1 rfl rfl ?_
    refine RQ.blk 1 (pc' := 23) (lv' := [(3, .int (nI i)), (0, .ref 1), (1, .ref (b + 1)), (2, .int (nI m))]) (st' := [.int (nI i), .ref ((b + 2) + 1), .ref ((b + 1) + 1), .ref 75]) (H' := _) (kc' := 0) (ks' := 0) rfl ?_
    refine RQ.ialdN (j := i) rfl hb.2.2.1 (by omega) (by decide) ?_
    refine RQ.blk 1 (pc' := 25) (lv' := [(3, .int (nI i)), (0, .ref 1), (1, .ref (b + 1)), (2, .int (nI m))]) (st' := [.ref (b + 1), .int (nI (S i)), .ref ((b + 1) + 1), .ref 75]) (H' := _) (kc' := 0) (ks' := 0) rfl ?_
    refine RQ.get (ci := 0) rfl hb.1 rfl rfl ?_
    refine RQ.blk 1 (pc' := 29) (lv' := [(3, .int (nI i)), (0, .ref 1), (1, .ref (b + 1)), (2, .int (nI m))]) (st' := [.int (nI i), .ref ((b + 3) + 1), .int (nI (S i)), .ref ((b + 1) + 1), .ref 75]) (H' := _) (kc' := 0) (ks' := 0) rfl ?_
    refine RQ.ialdN (j := i) rfl hb.2.2.2.1 (by omega) (by decide) ?_
    obtain ⟨e, he⟩ := lt_get hi
    have he1 : (ws.map pfx)[i]? = some (pfx e) := by rw [List.getElem?_map, he]; rfl
    have hkey : sl D (S i) (K i) = 0 :: e.1 := hL.key he1
    have hSK := hbk.2.2 i (by omega)
    have hu41 := hbk.2.1
    obtain ⟨k, hc⟩ := cut_ex (sl D (S i) (K i)) 2147483647 hV.2.2.2.2.2.2.2.2 (fun p hp => by have := (hV.1.2.2.2.2.2 _ (hV.1.2.2.2.1 p hp)).2.1; omega)
    have hseen : seenV vs (0 :: e.1) p = if k < sz ∧ keyO kf kl od k = 0 :: e.1 then some (verO kf kl mo pl le al (od k)) else none := by
      rw [hvs, ← hkey]
      exact cut_seen hV.2.2.2.2.2.2.2.2 (fun q hq => ⟨fun e => absurd e (nI_nlt (a := 2147483647) (by have := (hV.1.2.2.2.2.2 _ (hV.1.2.2.2.1 q hq)).2.1; omega) (by decide)), fun e => by have := hpr (verO kf kl mo pl le al (od q)) (by rw [hvs]; exact List.mem_map.mpr ⟨q, List.mem_range.mpr hq, rfl⟩); have h9 : mo (od q) ≤ p := this; omega⟩) hc
    refine RQ.call (v := some (.int (if k < sz ∧ sl kf (od k * 41) (kl (od k)) = sl D (S i) (K i) then nI (od k) else -1))) (st' := []) rfl rfl rfl rfl rfl rfl (args_v [.int (nI (K i)), .int (nI (S i)), .ref ((b + 1) + 1)] [] rfl rfl (Nat.le_of_ble_eq_true rfl) rfl hA.1 (Nat.le_of_ble_eq_true rfl)) (rc_newestOf (k := k) hA hV.1 hb.2.1 (by decide) (by omega) hc) ?_
    refine RQ.blk 2 (pc' := 37) (lv' := [(4, .int (if k < sz ∧ sl kf (od k * 41) (kl (od k)) = sl D (S i) (K i) then nI (od k) else -1)), (3, .int (nI i)), (0, .ref 1), (1, .ref (b + 1)), (2, .int (nI m))]) (st' := [.int (if k < sz ∧ sl kf (od k * 41) (kl (od k)) = sl D (S i) (K i) then nI (od k) else -1)]) (H' := _) (kc' := 0) (ks' := 0) rfl ?_
    by_cases c3 : k < sz ∧ sl kf (od k * 41) (kl (od k)) = sl D (S i) (K i)
    · rw [if_pos c3]
      have hod := hV.1.2.2.2.1 k c3.1
      have hmo := (hV.1.2.2.2.2.2 _ hod).2.1
      have hcol : colV vs p m e.1 = decide (m < mo (od k)) := by unfold colV; rw [hseen, if_pos ⟨c3.1, c3.2.trans hkey⟩]; rfl
      refine RQ.brF rfl rfl rfl (cF_lt (od k) 0) ?_
      refine RQ.blk 1 (pc' := 41) (lv' := [(4, .int (nI (od k))), (3, .int (nI i)), (0, .ref 1), (1, .ref (b + 1)), (2, .int (nI m))]) (st' := [.ref 1]) (H' := _) (kc' := 0) (ks' := 0) rfl ?_
      refine RQ.get (ci := 11) rfl h0 rfl rfl ?_
      refine RQ.get (ci := 10) rfl hA.1 rfl rfl ?_
      refine RQ.blk 1 (pc' := 49) (lv' := [(4, .int (nI (od k))), (3, .int (nI i)), (0, .ref 1), (1, .ref (b + 1)), (2, .int (nI m))]) (st' := [.int (nI (od k)), .ref 78]) (H' := _) (kc' := 0) (ks' := 0) rfl ?_
      refine RQ.ialdN (j := od k) rfl hA.2.2.2.1 (by omega) (by omega) ?_
      refine RQ.blk 1 (pc' := 51) (lv' := [(4, .int (nI (od k))), (3, .int (nI i)), (0, .ref 1), (1, .ref (b + 1)), (2, .int (nI m))]) (st' := [.int (nI m), .int (nI (mo (od k)))]) (H' := _) (kc' := 0) (ks' := 0) rfl ?_
      by_cases c4 : m < mo (od k)
      · rw [decide_eq_true c4] at hcol
        rw [anyL_T he hcol]
        refine RQ.brF rfl rfl rfl (cF_le (mo (od k)) m) ?_
        refine RQ.blk 1 (pc' := 55) (lv' := [(4, .int (nI (od k))), (3, .int (nI i)), (0, .ref 1), (1, .ref (b + 1)), (2, .int (nI m))]) (st' := [.int 1]) (H' := _) (kc' := 0) (ks' := 0) rfl ?_
        exact RQ.done (c := 0) (s := 0) rfl rfl rfl rfl rfl
      · rw [decide_eq_false c4] at hcol
        refine RQ.brT rfl rfl rfl (cT_le (mo (od k)) m) ?_
        refine RQ.blk 1 (pc' := 59) (lv' := [(3, .int (nI i + 1)), (4, .int (nI (od k))), (0, .ref 1), (1, .ref (b + 1)), (2, .int (nI m))]) (st' := []) (H' := _) (kc' := 0) (ks' := 0) rfl ?_
        rw [show (nI i + 1 : Int32) = nI (i + 1) from nI_add i 1]
        refine RQ.blk 1 (pc' := 2) (lv' := [(3, .int (nI (i + 1))), (4, .int (nI (od k))), (0, .ref 1), (1, .ref (b + 1)), (2, .int (nI m))]) (st' := []) (H' := _) (kc' := 0) (ks' := 0) rfl ?_
        exact RQ.pick [0, 2, 3, 4] [3, 4, 0, 1, 2] rfl rfl (by decide) (ih (fun q e2 hq he2 => (Nat.lt_succ_iff_lt_or_eq.mp hq).elim (fun h3 => h2 q e2 h3 he2) (fun h3 => by subst h3; have h4 := Option.some.inj (he.symm.trans he2); rw [← h4]; exact hcol)))
    · rw [if_neg c3]
      have hcol : colV vs p m e.1 = false := by unfold colV; rw [hseen, if_neg (fun e2 => c3 ⟨e2.1, e2.2.trans hkey.symm⟩)]
      refine RQ.brT rfl rfl rfl (by decide) ?_
      refine RQ.blk 1 (pc' := 59) (lv' := [(3, .int (nI i + 1)), (4, .int (-1)), (0, .ref 1), (1, .ref (b + 1)), (2, .int (nI m))]) (st' := []) (H' := _) (kc' := 0) (ks' := 0) rfl ?_
      rw [show (nI i + 1 : Int32) = nI (i + 1) from nI_add i 1]
      refine RQ.blk 1 (pc' := 2) (lv' := [(3, .int (nI (i + 1))), (4, .int (-1)), (0, .ref 1), (1, .ref (b + 1)), (2, .int (nI m))]) (st' := []) (H' := _) (kc' := 0) (ks' := 0) rfl ?_
      exact RQ.pick [0, 2, 3, 4] [3, 4, 0, 1, 2] rfl rfl (by decide) (ih (fun q e2 hq he2 => (Nat.lt_succ_iff_lt_or_eq.mp hq).elim (fun h3 => h2 q e2 h3 he2) (fun h3 => by subst h3; have h4 := Option.some.inj (he.symm.trans he2); rw [← h4]; exact hcol)))
  · rw [anyL_F (fun i e hi he => h2 i e hi he)]
    refine RQ.blk 2 (pc' := 4) (lv' := [(3, .int (nI ws.length)), (0, .ref 1), (1, .ref (b + 1)), (2, .int (nI m))]) (st' := [.ref (b + 1), .int (nI ws.length)]) (H' := _) (kc' := 0) (ks' := 0) rfl ?_
    refine RQ.get (ci := 0) rfl hb.1 rfl rfl ?_
    refine RQ.brT rfl rfl rfl (cT_ge ws.length (ws.map pfx).length) ?_
    refine RQ.blk 1 (pc' := 63) (lv' := [(3, .int (nI ws.length)), (0, .ref 1), (1, .ref (b + 1)), (2, .int (nI m))]) (st' := [.int 0]) (H' := _) (kc' := 0) (ks' := 0) rfl ?_
    exact RQ.done (c := 0) (s := 0) rfl rfl rfl rfl rfl
theorem rc_mcollides {sc : Nat × (Nat → Int32)} {d t p : Nat} {H : aH} {fa li dn cw cl tp rs us pi hu : Int32} {ba bo : Nat} {bf : Nat → Int8} {ko kn vo : Nat → Nat} {vz : Nat → Option Nat} {vm : Nat → Nat} {ms : List aMV} {ro fi wk wn : Nat → Nat} {wz : Nat → Option Nat} {wb : Nat → Int8} {se : Nat → Nat} {ws : List aE} (hm : H[195]? = some (kO 12 (mfs fa li dn cw cl tp rs (nI p) (nI ms.length) us pi hu ba bo))) (h : MVAt H ba bf ko kn vo vz vm) (hl : MVLay bf ko kn vo vz vm ms) (hk : MSOk ms) (hR : MRAt H ro fi wk wn wz wb) (hT : TxL ro fi wk wn wz wb t ws) (ht : t < 8) (h6 : H[206]? = some (kI 8 (fun j => nI (se j)))) (hse : se t < 2 ^ 31) (hp : p < 2 ^ 31) (h1M : OneM ms) : RC sc (d + 2) mr_296 [.ref 196, .int (nI t)] H (.inl (some (.int (if ws.any (fun e => colM ms p (se t) e.1) = true then 1 else 0)))) H 0 0 := by
  have hlen := hT.2.2.1
  have hro := hT.1
  refine RC.of ?_
  refine RQ.blk 3 (pc' := 4) (lv' := [(0, .ref 196), (1, .int (nI t))]) (st' := [.int (32 * nI t)]) (H' := _) (kc' := 0) (ks' := 0) rfl ?_
  rw [show (32 * nI t : Int32) = nI (32 * t) from pk_mul 32 t]
  refine RQ.blk 1 (pc' := 5) (lv' := [(2, .int (nI (32 * t))), (0, .ref 196), (1, .int (nI t))]) (st' := []) (H' := _) (kc' := 0) (ks' := 0) rfl ?_
  refine RQ.loopQ (pc := 5) (fun i => ∀ q e, q < i → ws[q]? = some e → colM ms p (se t) e.1 = false) (fun i => [(2, .int (nI (32 * t + i))), (0, .ref 196), (1, .int (nI t))]) ws.length (fun i hi h2 ih => ?_) (fun h2 => ?_) (fun q e hq => absurd hq (Nat.not_lt_zero _))
  ·
    refine RQ.blk 4 (pc' := 10) (lv' := [(2, .int (nI (32 * t + i))), (0, .ref 196), (1, .int (nI t))]) (st' := [.int (32 * nI t), .int (nI (32 * t + i))]) (H' := _) (kc' := 0) (ks' := 0) rfl ?_
    rw [show (32 * nI t : Int32) = nI (32 * t) from pk_mul 32 t]
    refine RQ.blk 1 (pc' := 11) (lv' := [(2, .int (nI (32 * t + i))), (0, .ref 196), (1, .int (nI t))]) (st' := [.ref 196, .int (nI (32 * t)), .int (nI (32 * t + i))]) (H' := _) (kc' := 0) (ks' := 0) rfl ?_
    refine RQ.get (ci := 12) rfl hm rfl rfl ?_
    refine RQ.blk 1 (pc' := 15) (lv' := [(2, .int (nI (32 * t + i))), (0, .ref 196), (1, .int (nI t))]) (st' := [.int (nI t), .ref 208, .int (nI (32 * t)), .int (nI (32 * t + i))]) (H' := _) (kc' := 0) (ks' := 0) rfl ?_
    refine RQ.ialdN (j := t) rfl hR.1 (by omega) (by decide) ?_
    refine RQ.blk 1 (pc' := 17) (lv' := [(2, .int (nI (32 * t + i))), (0, .ref 196), (1, .int (nI t))]) (st' := [.int (nI (32 * t) + nI (ro t)), .int (nI (32 * t + i))]) (H' := _) (kc' := 0) (ks' := 0) rfl ?_
    rw [show (nI (32 * t) + nI (ro t) : Int32) = nI (32 * t + (ro t)) from nI_add (32 * t) (ro t)]
    refine RQ.brF rfl rfl rfl (cF_ge (32 * t + i) (32 * t + ro t)) ?_
    refine RQ.blk 2 (pc' := 22) (lv' := [(2, .int (nI (32 * t + i))), (0, .ref 196), (1, .int (nI t))]) (st' := [.ref 196, .ref 196]) (H' := _) (kc' := 0) (ks' := 0) rfl ?_
    refine RQ.get (ci := 12) rfl hm rfl rfl ?_
    refine RQ.blk 1 (pc' := 26) (lv' := [(2, .int (nI (32 * t + i))), (0, .ref 196), (1, .int (nI t))]) (st' := [.ref 196, .ref 213, .ref 196]) (H' := _) (kc' := 0) (ks' := 0) rfl ?_
    refine RQ.get (ci := 12) rfl hm rfl rfl ?_
    refine RQ.blk 1 (pc' := 30) (lv' := [(2, .int (nI (32 * t + i))), (0, .ref 196), (1, .int (nI t))]) (st' := [.int (nI (32 * t + i)), .ref 210, .ref 213, .ref 196]) (H' := _) (kc' := 0) (ks' := 0) rfl ?_
    refine RQ.ialdN (j := 32 * t + i) rfl hR.2.2.1 (by omega) (by decide) ?_
    refine RQ.blk 1 (pc' := 32) (lv' := [(2, .int (nI (32 * t + i))), (0, .ref 196), (1, .int (nI t))]) (st' := [.ref 196, .int (nI (wk (32 * t + i))), .ref 213, .ref 196]) (H' := _) (kc' := 0) (ks' := 0) rfl ?_
    refine RQ.get (ci := 12) rfl hm rfl rfl ?_
    refine RQ.blk 1 (pc' := 36) (lv' := [(2, .int (nI (32 * t + i))), (0, .ref 196), (1, .int (nI t))]) (st' := [.int (nI (32 * t + i)), .ref 211, .int (nI (wk (32 * t + i))), .ref 213, .ref 196]) (H' := _) (kc' := 0) (ks' := 0) rfl ?_
    refine RQ.ialdN (j := 32 * t + i) rfl hR.2.2.2.1 (by omega) (by decide) ?_
    refine RQ.blk 1 (pc' := 38) (lv' := [(2, .int (nI (32 * t + i))), (0, .ref 196), (1, .int (nI t))]) (st' := [.ref 196, .int (nI (wn (32 * t + i))), .int (nI (wk (32 * t + i))), .ref 213, .ref 196]) (H' := _) (kc' := 0) (ks' := 0) rfl ?_
    refine RQ.get (ci := 12) rfl hm rfl rfl ?_
    obtain ⟨e, he⟩ := lt_get hi
    have hkey : sl wb (wk (32 * t + i)) (wn (32 * t + i)) = e.1 := hT.key he
    have f5 := (hT.ok ht).2.2.2 i (by omega)
    have f6 := (hT.ok ht).2.2.1
    refine RQ.call (v := some (.int (lI (bestV bf ko kn vm (sl wb (wk (32 * t + i)) (wn (32 * t + i))) p ms.length)))) (st' := []) rfl rfl rfl rfl rfl rfl (args_v [.int (nI p), .int (nI (wn (32 * t + i))), .int (nI (wk (32 * t + i))), .ref 213] [] rfl rfl (Nat.le_of_ble_eq_true rfl) rfl hm (Nat.le_of_ble_eq_true rfl)) (rc_mversionAt (a := 212) hm h (hl.ok hk) hR.2.2.2.2.2 (by decide) (by omega) hp) ?_
    rw [hkey]
    have hsn := best_seen (key := e.1) (m := p) hl h1M
    cases hbest : bestV bf ko kn vm e.1 p ms.length with
    | none =>
      have hcol : colM ms p (se t) e.1 = false := by unfold colM; rw [hsn, hbest]; rfl
      refine RQ.blk 2 (pc' := 46) (lv' := [(3, .int (-1)), (2, .int (nI (32 * t + i))), (0, .ref 196), (1, .int (nI t))]) (st' := [.int (-1)]) (H' := _) (kc' := 0) (ks' := 0) rfl ?_
      refine RQ.brT rfl rfl rfl (by decide) ?_
      refine RQ.blk 1 (pc' := 69) (lv' := [(2, .int (nI (32 * t + i) + 1)), (3, .int (-1)), (0, .ref 196), (1, .int (nI t))]) (st' := []) (H' := _) (kc' := 0) (ks' := 0) rfl ?_
      rw [show (nI (32 * t + i) + 1 : Int32) = nI (32 * t + i + 1) from nI_add (32 * t + i) 1]
      refine RQ.blk 1 (pc' := 5) (lv' := [(2, .int (nI (32 * t + i + 1))), (3, .int (-1)), (0, .ref 196), (1, .int (nI t))]) (st' := []) (H' := _) (kc' := 0) (ks' := 0) rfl ?_
      rw [show 32 * t + i + 1 = 32 * t + (i + 1) by omega]
      exact RQ.pick [0, 2, 3] [2, 3, 0, 1] rfl rfl (by decide) (ih (fun q e2 hq he2 => (Nat.lt_succ_iff_lt_or_eq.mp hq).elim (fun h3 => h2 q e2 h3 he2) (fun h3 => by subst h3; have h4 := Option.some.inj (he.symm.trans he2); rw [← h4]; exact hcol)))
    | some v =>
      rw [show lI (some v) = nI v from rfl]
      have hvl := bestV_lt _ _ hbest
      obtain ⟨w, hw⟩ := lt_get hvl
      obtain ⟨k1, k2, k3, k4⟩ := hl.key hw
      have hk_v := (hl.ok hk).2 v hvl
      have hn15 := hk.1
      have hcol : colM ms p (se t) e.1 = decide (se t < vm v) := by unfold colM; rw [hsn, hbest]; show (match (ms[v]?) with | some v => decide (se t < v.2.1) | none => false) = _; rw [hw, k4]
      refine RQ.blk 2 (pc' := 46) (lv' := [(3, .int (nI v)), (2, .int (nI (32 * t + i))), (0, .ref 196), (1, .int (nI t))]) (st' := [.int (nI v)]) (H' := _) (kc' := 0) (ks' := 0) rfl ?_
      refine RQ.brF rfl rfl rfl (cF_lt v 0) ?_
      refine RQ.blk 1 (pc' := 50) (lv' := [(3, .int (nI v)), (2, .int (nI (32 * t + i))), (0, .ref 196), (1, .int (nI t))]) (st' := [.ref 196]) (H' := _) (kc' := 0) (ks' := 0) rfl ?_
      refine RQ.get (ci := 12) rfl hm rfl rfl ?_
      refine RQ.blk 1 (pc' := 54) (lv' := [(3, .int (nI v)), (2, .int (nI (32 * t + i))), (0, .ref 196), (1, .int (nI t))]) (st' := [.int (nI v), .ref 203]) (H' := _) (kc' := 0) (ks' := 0) rfl ?_
      refine RQ.ialdN (j := v) rfl h.2.2.2.2.1 (by omega) (by decide) ?_
      refine RQ.blk 1 (pc' := 56) (lv' := [(3, .int (nI v)), (2, .int (nI (32 * t + i))), (0, .ref 196), (1, .int (nI t))]) (st' := [.ref 196, .int (nI (vm v))]) (H' := _) (kc' := 0) (ks' := 0) rfl ?_
      refine RQ.get (ci := 12) rfl hm rfl rfl ?_
      refine RQ.blk 1 (pc' := 60) (lv' := [(3, .int (nI v)), (2, .int (nI (32 * t + i))), (0, .ref 196), (1, .int (nI t))]) (st' := [.int (nI t), .ref 207, .int (nI (vm v))]) (H' := _) (kc' := 0) (ks' := 0) rfl ?_
      refine RQ.ialdN (j := t) rfl h6 (by omega) (by decide) ?_
      by_cases c5 : se t < vm v
      · rw [decide_eq_true c5] at hcol
        rw [anyL_T he hcol]
        refine RQ.brF rfl rfl rfl (cF_le (vm v) (se t)) ?_
        refine RQ.blk 1 (pc' := 65) (lv' := [(3, .int (nI v)), (2, .int (nI (32 * t + i))), (0, .ref 196), (1, .int (nI t))]) (st' := [.int 1]) (H' := _) (kc' := 0) (ks' := 0) rfl ?_
        exact RQ.done (c := 0) (s := 0) rfl rfl rfl rfl rfl
      · rw [decide_eq_false c5] at hcol
        refine RQ.brT rfl rfl rfl (cT_le (vm v) (se t)) ?_
        refine RQ.blk 1 (pc' := 69) (lv' := [(2, .int (nI (32 * t + i) + 1)), (3, .int (nI v)), (0, .ref 196), (1, .int (nI t))]) (st' := []) (H' := _) (kc' := 0) (ks' := 0) rfl ?_
        rw [show (nI (32 * t + i) + 1 : Int32) = nI (32 * t + i + 1) from nI_add (32 * t + i) 1]
        refine RQ.blk 1 (pc' := 5) (lv' := [(2, .int (nI (32 * t + i + 1))), (3, .int (nI v)), (0, .ref 196), (1, .int (nI t))]) (st' := []) (H' := _) (kc' := 0) (ks' := 0) rfl ?_
        rw [show 32 * t + i + 1 = 32 * t + (i + 1) by omega]
        exact RQ.pick [0, 2, 3] [2, 3, 0, 1] rfl rfl (by decide) (ih (fun q e2 hq he2 => (Nat.lt_succ_iff_lt_or_eq.mp hq).elim (fun h3 => h2 q e2 h3 he2) (fun h3 => by subst h3; have h4 := Option.some.inj (he.symm.trans he2); rw [← h4]; exact hcol)))
  · rw [anyL_F (fun i e hi he => h2 i e hi he)]
    refine RQ.blk 4 (pc' := 10) (lv' := [(2, .int (nI (32 * t + ws.length))), (0, .ref 196), (1, .int (nI t))]) (st' := [.int (32 * nI t), .int (nI (32 * t + ws.length))]) (H' := _) (kc' := 0) (ks' := 0) rfl ?_
    rw [show (32 * nI t : Int32) = nI (32 * t) from pk_mul 32 t]
    refine RQ.blk 1 (pc' := 11) (lv' := [(2, .int (nI (32 * t + ws.length))), (0, .ref 196), (1, .int (nI t))]) (st' := [.ref 196, .int (nI (32 * t)), .int (nI (32 * t + ws.length))]) (H' := _) (kc' := 0) (ks' := 0) rfl ?_
    refine RQ.get (ci := 12) rfl hm rfl rfl ?_
    refine RQ.blk 1 (pc' := 15) (lv' := [(2, .int (nI (32 * t + ws.length))), (0, .ref 196), (1, .int (nI t))]) (st' := [.int (nI t), .ref 208, .int (nI (32 * t)), .int (nI (32 * t + ws.length))]) (H' := _) (kc' := 0) (ks' := 0) rfl ?_
    refine RQ.ialdN (j := t) rfl hR.1 (by omega) (by decide) ?_
    refine RQ.blk 1 (pc' := 17) (lv' := [(2, .int (nI (32 * t + ws.length))), (0, .ref 196), (1, .int (nI t))]) (st' := [.int (nI (32 * t) + nI (ro t)), .int (nI (32 * t + ws.length))]) (H' := _) (kc' := 0) (ks' := 0) rfl ?_
    rw [show (nI (32 * t) + nI (ro t) : Int32) = nI (32 * t + (ro t)) from nI_add (32 * t) (ro t)]
    refine RQ.brT rfl rfl rfl (cT_ge (32 * t + ws.length) (32 * t + ro t)) ?_
    refine RQ.blk 1 (pc' := 73) (lv' := [(2, .int (nI (32 * t + ws.length))), (0, .ref 196), (1, .int (nI t))]) (st' := [.int 0]) (H' := _) (kc' := 0) (ks' := 0) rfl ?_
    exact RQ.done (c := 0) (s := 0) rfl rfl rfl rfl rfl
