/-! ===== get: its core and the whole; class; written by wip/gen/get2.py ===== -/
/-- the class's row of what a call answers -/
def ResIs (H : aH) (r : List Nat) : Prop := ∃ g, H[3]? = some (kO 5 [.ref 5, .int (nI r.length)]) ∧ H[4]? = some (kB 1000 g) ∧ sl g 0 r.length = r ∧ r.length ≤ 1000
theorem ResIs.far {H H' : aH} {r : List Nat} (h : ResIs H r) (h3 : H'[3]? = H[3]?) (h4 : H'[4]? = H[4]?) : ResIs H' r := by
  obtain ⟨g, a, b, c⟩ := h
  exact ⟨g, h3.trans a, h4.trans b, c⟩
/-- what a key has to a transaction: its writes say, or what is seen -/
def getW (ws : List aE) (look : Option (List Nat)) (k : List Nat) : Option (List Nat) := match ixK ws k with
  | some i => (ws[i]?).bind (fun e => e.2)
  | none => look
theorem rc_indexOfP {sc : Nat × (Nat → Int32)} {d b u k a na : Nat} {H : aH} {D gg : Nat → Int8} {S K : Nat → Nat} {E : Nat → Option Nat} {ws : List aE} {key : List Nat} (hA : BatchAt H b D S K E (ws.map pfx).length u) (hk : BatchOk S K E (ws.map pfx).length u) (hL : LayE D 0 S K E (ws.map pfx)) (h6 : H[a]? = some (kB na gg)) (hna : na < 2 ^ 30) (hg : sl gg 0 (k + 1) = 0 :: key) (hkk : k + 1 ≤ na) : RC sc (d + 3) mr_42 [.ref (b + 1), .ref (a + 1), .int (nI (k + 1))] H (.inl (some (.int (lI (ixK ws key))))) H 0 0 := by
  have hno : ∀ q (hq : q < (ws.map pfx).length), sl D (S q) (K q) = sl gg 0 (k + 1) → ∃ e1, ws[q]? = some e1 ∧ e1.1 = key := by
    intro q hq e
    obtain ⟨e1, h7, h8⟩ := get_pfx (List.getElem?_eq_getElem hq)
    have h9 := hL.key (List.getElem?_eq_getElem hq)
    rw [h8, e, hg] at h9
    exact ⟨e1, h7, (List.cons.inj h9).2.symm⟩
  cases hix : ixK ws key with
  | none =>
    exact rc_indexOf_none hA hk h6 hna hkk (fun q hq e => by
      obtain ⟨e1, h7, h8⟩ := hno q hq e
      exact ixK_none hix q e1 h7 h8)
  | some i =>
    obtain ⟨⟨e0, hi0, he0⟩, hbef⟩ := ixK_some hix
    have hi1 : (ws.map pfx)[i]? = some (pfx e0) := by rw [List.getElem?_map, hi0]; rfl
    refine rc_indexOf_some hA hk h6 hna hkk (get_lt hi1) ((hL.key hi1).trans ?_) (fun q hq e => ?_)
    · rw [hg, ← he0]; rfl
    · obtain ⟨e1, h7, h8⟩ := hno q (Nat.lt_trans hq (get_lt hi1)) e
      exact hbef q e1 hq h7 h8
theorem rq_getC {sc : Nat × (Nat → Int32)} {N : Nat} {kf : Nat → Int8} {kl mo pl : Nat → Nat} {le : Nat → Option Nat} {al : Nat → Bool} {od sp : Nat → Nat} {sz ss ac : Nat} {lc fr ff : Nat} {wr : Bool} {tp rc ms mt sq tu tn nb : Nat} {us : Nat → Bool} {lg : Nat → Nat} {B : Nat} {cf : Nat → Int8} {tf : Nat → Nat} {pq : Option Nat} {bb ov : Nat} {op : Nat → Bool} {sm : Nat → Nat} {wq : Nat → Option Nat} {mp hv d q l t b u : Nat} {H : aH} {bl pr cw cl cp cb : Int32} {g gg : Nat → Int8} {D : Nat → Int8} {S K : Nat → Nat} {E : Nat → Option Nat} {ws : List aE} {key : List Nat} {vs : List aV} (h0 : H[0]? = some (kO 11 (fvs bl pr 1 cw cl cp cb))) (h3 : H[3]? = some (kO 5 [.ref 5, .int (nI q)])) (h4 : H[4]? = some (kB 1000 g)) (h5 : H[5]? = some (kO 5 [.ref 7, .int (nI (l + 1))])) (h6 : H[6]? = some (kB 41 gg)) (hg : sl gg 0 (l + 1) = 0 :: key) (hl : l ≤ 40) (hs : SightAt H op sm) (hsm : sm t < 2 ^ 30) (ht : t < 8) (hop : op t = true) (hw : H[10]? = some (kQ 4 8 wq)) (hq : wq t = some b) (hb10 : 10 < b) (hb60 : b < 60) (hA : VersAt H N kf kl mo pl le al od sp sz ss ac) (hV : VersWf N kf kl mo pl le al od sp sz ss ac) (hvs : vs = vsL kf kl mo pl le al od sz) (hb : BatchAt H b D S K E (ws.map pfx).length u) (hbk : BatchOk S K E (ws.map pfx).length u) (hL : LayE D 0 S K E (ws.map pfx)) (hws : ∀ e ∈ ws, (e.2.getD []).length ≤ 1000) (hC : ChipAt H B cf tf pq bb ov) (hY : LayAt H (layF B lc fr ff wr tp rc ms mt sq tu tn nb) B us lg) (hB : B ≤ 128) (hlc : lc ≤ B) (hlg : ∀ j, j < lc → lg j < 2 ^ 30) (hG : H[190]? = some (kO 4 (logF mp hv))) (hRec : RecsOk cf B lg lc vs) : RQ sc (d + 4) mr_53 38 [(2, .int (nI l)), (0, .ref 1), (1, .int (nI t))] [] H 0 0 (fun r => ∃ x H', r = (.inl (some (.int x)), H', 0, 0) ∧ ∃ rv, rv = getW ws (lookV cf vs key (sm t)) key ∧ x = lI (rv.map List.length) ∧ ResIs H' (rv.getD []) ∧ ∀ a, a ≠ 3 → a ≠ 4 → H'[a]? = H[a]?) := by
  have hN := hV.1.1
  obtain ⟨k, hc⟩ := cut_ex (sl gg 0 (l + 1)) (nI (sm t)) hV.2.2.2.2.2.2.2.2 (fun p hp => by have := (hV.1.2.2.2.2.2 _ (hV.1.2.2.2.1 p hp)).2.1; omega)
  have hseen : seenV vs (0 :: key) (sm t) = if k < sz ∧ keyO kf kl od k = 0 :: key then some (verO kf kl mo pl le al (od k)) else none := by
    rw [hvs, ← hg]
    exact cut_seen hV.2.2.2.2.2.2.2.2 (fun q hq => ⟨fun e => Nat.lt_of_not_le (fun e2 => absurd e (nI_nlt e2 (by omega))), fun e => nI_lt e (by have := (hV.1.2.2.2.2.2 _ (hV.1.2.2.2.1 q hq)).2.1; omega)⟩) hc
  refine RQ.blk 1 (pc' := 39) (lv' := [(2, .int (nI l)), (0, .ref 1), (1, .int (nI t))]) (st' := [.ref 1]) (H' := _) (kc' := 0) (ks' := 0) rfl ?_
  refine RQ.get (ci := 11) rfl h0 rfl rfl ?_
  refine RQ.blk 1 (pc' := 43) (lv' := [(2, .int (nI l)), (0, .ref 1), (1, .int (nI t))]) (st' := [.int 0, .ref 4]) (H' := _) (kc' := 0) (ks' := 0) rfl ?_
  refine RQ.put (ci := 5) rfl h3 rfl rfl (Nat.le_of_ble_eq_true rfl) ?_
  have far : ∀ a, a ≠ 3 → (H.set 3 (kO 5 [.ref 5, .int 0]))[a]? = H[a]? := fun a ha => set_far ha
  have g0 := (far 0 (by decide)).trans h0
  have g3 : (H.set 3 (kO 5 [.ref 5, .int 0]))[3]? = some (kO 5 [.ref 5, .int (nI 0)]) := get_set h3
  have g4 := (far 4 (by decide)).trans h4
  have g6 := (far 6 (by decide)).trans h6
  have gs : SightAt (H.set 3 (kO 5 [.ref 5, .int 0])) op sm := ⟨(far 7 (by decide)).trans hs.1, (far 8 (by decide)).trans hs.2.1, (far 9 (by decide)).trans hs.2.2⟩
  have gw := (far 10 (by decide)).trans hw
  have gA := hA.far (H' := (H.set 3 (kO 5 [.ref 5, .int 0]))) (fun a ha _ => far a (by omega))
  have gC := hC.far (H' := (H.set 3 (kO 5 [.ref 5, .int 0]))) (fun a ha _ => far a (by omega))
  have gY := hY.far (H' := (H.set 3 (kO 5 [.ref 5, .int 0]))) (fun a ha _ => far a (by omega))
  have gG := (far 190 (by decide)).trans hG
  have gb := hb.far (H' := (H.set 3 (kO 5 [.ref 5, .int 0]))) (fun a ha _ => far a (by omega))
  have gres : ResIs (H.set 3 (kO 5 [.ref 5, .int 0])) [] := ⟨g, g3, g4, rfl, Nat.zero_le _⟩
  refine RQ.blk 1 (pc' := 47) (lv' := [(2, .int (nI l)), (0, .ref 1), (1, .int (nI t))]) (st' := [.ref 1]) (H' := _) (kc' := 0) (ks' := 0) rfl ?_
  refine RQ.get (ci := 11) rfl ((set_far (by decide)).trans h0) rfl rfl ?_
  refine RQ.blk 1 (pc' := 51) (lv' := [(2, .int (nI l)), (0, .ref 1), (1, .int (nI t))]) (st' := [.int (nI t), .ref 8]) (H' := _) (kc' := 0) (ks' := 0) rfl ?_
  refine RQ.call (v := some (.ref (b + 1))) (st' := []) rfl rfl rfl rfl rfl rfl (args_v [.int (nI t)] [] rfl rfl (Nat.le_of_ble_eq_true rfl) rfl ((set_far (by decide)).trans hs.1) (Nat.le_of_ble_eq_true rfl)) (rc_writesOf gs gw hq ht) ?_
  refine RQ.blk 3 (pc' := 57) (lv' := [(3, .ref (b + 1)), (2, .int (nI l)), (0, .ref 1), (1, .int (nI t))]) (st' := [.ref 1, .ref (b + 1)]) (H' := _) (kc' := 0) (ks' := 0) rfl ?_
  refine RQ.get (ci := 11) rfl ((set_far (by decide)).trans h0) rfl rfl ?_
  refine RQ.get (ci := 5) rfl ((set_far (by decide)).trans h5) rfl rfl ?_
  refine RQ.blk 1 (pc' := 64) (lv' := [(3, .ref (b + 1)), (2, .int (nI l)), (0, .ref 1), (1, .int (nI t))]) (st' := [.ref 1, .ref 7, .ref (b + 1)]) (H' := _) (kc' := 0) (ks' := 0) rfl ?_
  refine RQ.get (ci := 11) rfl ((set_far (by decide)).trans h0) rfl rfl ?_
  refine RQ.get (ci := 5) rfl ((set_far (by decide)).trans h5) rfl rfl ?_
  refine RQ.call (v := some (.int (lI (ixK ws key)))) (st' := []) rfl rfl rfl rfl rfl rfl (args_v [.int (nI (l + 1)), .ref 7] [] rfl rfl (Nat.le_of_ble_eq_true rfl) rfl gb.1 (Nat.le_of_ble_eq_true rfl)) (rc_indexOfP gb hbk hL g6 (by decide) hg (by omega)) ?_
  refine RQ.blk 2 (pc' := 77) (lv' := [(4, .int (lI (ixK ws key))), (3, .ref (b + 1)), (2, .int (nI l)), (0, .ref 1), (1, .int (nI t))]) (st' := [.int (lI (ixK ws key))]) (H' := _) (kc' := 0) (ks' := 0) rfl ?_
  cases c1 : ixK ws key with
  | none =>
    refine RQ.brT rfl rfl rfl (by decide) ?_
    refine RQ.blk 1 (pc' := 89) (lv' := [(4, .int (-1)), (3, .ref (b + 1)), (2, .int (nI l)), (0, .ref 1), (1, .int (nI t))]) (st' := [.ref 1]) (H' := _) (kc' := 0) (ks' := 0) rfl ?_
    refine RQ.get (ci := 11) rfl ((set_far (by decide)).trans h0) rfl rfl ?_
    refine RQ.blk 1 (pc' := 93) (lv' := [(4, .int (-1)), (3, .ref (b + 1)), (2, .int (nI l)), (0, .ref 1), (1, .int (nI t))]) (st' := [.ref 1, .ref 75]) (H' := _) (kc' := 0) (ks' := 0) rfl ?_
    refine RQ.get (ci := 11) rfl ((set_far (by decide)).trans h0) rfl rfl ?_
    refine RQ.get (ci := 5) rfl ((set_far (by decide)).trans h5) rfl rfl ?_
    refine RQ.blk 1 (pc' := 100) (lv' := [(4, .int (-1)), (3, .ref (b + 1)), (2, .int (nI l)), (0, .ref 1), (1, .int (nI t))]) (st' := [.ref 1, .ref 7, .ref 75]) (H' := _) (kc' := 0) (ks' := 0) rfl ?_
    refine RQ.get (ci := 11) rfl ((set_far (by decide)).trans h0) rfl rfl ?_
    refine RQ.get (ci := 5) rfl ((set_far (by decide)).trans h5) rfl rfl ?_
    refine RQ.blk 1 (pc' := 107) (lv' := [(4, .int (-1)), (3, .ref (b + 1)), (2, .int (nI l)), (0, .ref 1), (1, .int (nI t))]) (st' := [.ref 1, .int (nI (l + 1)), .ref 7, .ref 75]) (H' := _) (kc' := 0) (ks' := 0) rfl ?_
    refine RQ.get (ci := 11) rfl ((set_far (by decide)).trans h0) rfl rfl ?_
    refine RQ.blk 1 (pc' := 111) (lv' := [(4, .int (-1)), (3, .ref (b + 1)), (2, .int (nI l)), (0, .ref 1), (1, .int (nI t))]) (st' := [.int (nI t), .ref 8, .int (nI (l + 1)), .ref 7, .ref 75]) (H' := _) (kc' := 0) (ks' := 0) rfl ?_
    refine RQ.call (v := some (.int (nI (sm t)))) (st' := [.int (nI (l + 1)), .ref 7, .ref 75]) rfl rfl rfl rfl rfl rfl (args_v [.int (nI t)] [.int (nI (l + 1)), .ref 7, .ref 75] rfl rfl (Nat.le_of_ble_eq_true rfl) rfl ((set_far (by decide)).trans hs.1) (Nat.le_of_ble_eq_true rfl)) (rc_momentOf gs ht hop) ?_
    refine RQ.call (v := some (.int (if k < sz ∧ sl kf (od k * 41) (kl (od k)) = sl gg 0 (l + 1) ∧ ¬ le (od k) = none then nI (od k) else -1))) (st' := []) rfl rfl rfl rfl rfl rfl (args_v [.int (nI (sm t)), .int (nI (l + 1)), .ref 7] [] rfl rfl (Nat.le_of_ble_eq_true rfl) rfl ((set_far (by decide)).trans hA.1) (Nat.le_of_ble_eq_true rfl)) (rc_seenAt (k := k) gA hV.1 g6 (by decide) (by omega) hc) ?_
    refine RQ.blk 2 (pc' := 121) (lv' := [(5, .int (if k < sz ∧ sl kf (od k * 41) (kl (od k)) = sl gg 0 (l + 1) ∧ ¬ le (od k) = none then nI (od k) else -1)), (4, .int (-1)), (3, .ref (b + 1)), (2, .int (nI l)), (0, .ref 1), (1, .int (nI t))]) (st' := [.int (if k < sz ∧ sl kf (od k * 41) (kl (od k)) = sl gg 0 (l + 1) ∧ ¬ le (od k) = none then nI (od k) else -1)]) (H' := _) (kc' := 0) (ks' := 0) rfl ?_
    by_cases c2 : k < sz ∧ sl kf (od k * 41) (kl (od k)) = sl gg 0 (l + 1) ∧ ¬ le (od k) = none
    · rw [if_pos c2]
      obtain ⟨d1, d2, d3⟩ := c2
      have hod := hV.1.2.2.2.1 k d1
      obtain ⟨n, hle⟩ : ∃ n, le (od k) = some n := Option.ne_none_iff_exists'.mp d3
      have hv : verO kf kl mo pl le al (od k) ∈ vs := by rw [hvs]; exact List.mem_map.mpr ⟨k, List.mem_range.mpr d1, rfl⟩
      obtain ⟨r1, r2, r3, r4⟩ := hRec _ hv n hle
      rw [show (verO kf kl mo pl le al (od k)).1.length = kl (od k) from sl_length _ _ _] at r3
      have hlk : lookV cf vs key (sm t) = some (sl cf (pl (od k) + 8 + kl (od k)) n) := by
        unfold lookV
        rw [hseen, if_pos ⟨d1, d2.trans hg⟩]
        show valV cf _ = _
        unfold valV
        rw [show (verO kf kl mo pl le al (od k)).2.2.2.1 = some n from hle, show (verO kf kl mo pl le al (od k)).1.length = kl (od k) from sl_length _ _ _]
        rfl
      refine RQ.brT rfl rfl rfl (cT_ge (od k) 0) ?_
      refine RQ.blk 2 (pc' := 131) (lv' := [(5, .int (nI (od k))), (4, .int (-1)), (3, .ref (b + 1)), (2, .int (nI l)), (0, .ref 1), (1, .int (nI t))]) (st' := [.int (nI (od k)), .ref 1]) (H' := _) (kc' := 0) (ks' := 0) rfl ?_
      refine RQ.call (v := some (.int (nI n))) (st' := []) rfl rfl rfl rfl rfl rfl (args_v [.int (nI (od k))] [] rfl rfl (Nat.le_of_ble_eq_true rfl) rfl ((set_far (by decide)).trans h0) (Nat.le_of_ble_eq_true rfl)) (rc_answerStored (q := 0) g0 g3 g4 gA hV.1 gC gY hB hlc hlg gG hod hle r1 r2 r3 r4) ?_
      exact RQ.done (c := 0) (s := 0) rfl rfl rfl rfl ⟨_, _, rfl, some (sl cf (pl (od k) + 8 + kl (od k)) n), (by unfold getW; rw [c1]; exact hlk.symm), congrArg (fun z => nI z) (sl_length _ _ _).symm, ⟨_, (get_set ((set_far (by decide)).trans g3)).trans (by rw [show (Option.getD (some (sl cf (pl (od k) + 8 + kl (od k)) n)) []).length = n from sl_length _ _ _]), (set_far (by decide)).trans (get_set g4), by rw [show (Option.getD (some (sl cf (pl (od k) + 8 + kl (od k)) n)) []).length = n from sl_length _ _ _, sl_cpy]; rfl, by rw [show (Option.getD (some (sl cf (pl (od k) + 8 + kl (od k)) n)) []).length = n from sl_length _ _ _]; exact r4⟩, fun a ha hb => (set_far ha).trans ((set_far hb).trans (far a ha))⟩
    · rw [if_neg c2]
      have hlk : lookV cf vs key (sm t) = none := by
        unfold lookV
        rw [hseen]
        split
        · next e =>
          show valV cf _ = _
          unfold valV
          rw [show (verO kf kl mo pl le al (od k)).2.2.2.1 = le (od k) from rfl]
          cases hl2 : le (od k) with
          | none => rfl
          | some n => exact absurd ⟨e.1, e.2.trans hg.symm, by rw [hl2]; exact fun e => by cases e⟩ c2
        · rfl
      refine RQ.brF rfl rfl rfl (by decide) ?_
      refine RQ.blk 2 (pc' := 134) (lv' := [(5, .int (-1)), (4, .int (-1)), (3, .ref (b + 1)), (2, .int (nI l)), (0, .ref 1), (1, .int (nI t))]) (st' := [.int (-1)]) (H' := _) (kc' := 0) (ks' := 0) rfl ?_
      exact RQ.done (c := 0) (s := 0) rfl rfl rfl rfl ⟨_, _, rfl, none, (by unfold getW; rw [c1]; exact hlk.symm), rfl, gres, fun a ha _ => far a ha⟩
  | some kc1 =>
    rw [show lI (some kc1) = nI kc1 from rfl]
    obtain ⟨⟨_, hi9, _⟩, -⟩ := ixK_some c1
    have hil := get_lt hi9
    have hw40 := hbk.1
    rw [List.length_map] at hw40
    refine RQ.brF rfl rfl rfl (cF_lt kc1 0) ?_
    refine RQ.blk 3 (pc' := 84) (lv' := [(4, .int (nI kc1)), (3, .ref (b + 1)), (2, .int (nI l)), (0, .ref 1), (1, .int (nI t))]) (st' := [.int (nI kc1), .ref (b + 1), .ref 1]) (H' := _) (kc' := 0) (ks' := 0) rfl ?_
    obtain ⟨⟨e0, hi0, he0⟩, -⟩ := ixK_some c1
    have hi1 : (ws.map pfx)[kc1]? = some (pfx e0) := by rw [List.getElem?_map, hi0]; rfl
    have hE := (hL kc1 _ hi1).2.2.1
    have hgW : getW ws (lookV cf vs key (sm t)) key = e0.2 := by unfold getW; rw [c1]; show (ws[kc1]?).bind _ = _; rw [hi0]; rfl
    obtain ⟨ek, ev⟩ := e0
    cases ev with
    | none =>
      refine RQ.call (v := some (.int (-1))) (st' := []) rfl rfl rfl rfl rfl rfl (args_v [.int (nI kc1), .ref (b + 1)] [] rfl rfl (Nat.le_of_ble_eq_true rfl) rfl ((set_far (by decide)).trans h0) (Nat.le_of_ble_eq_true rfl)) (rc_answerW0 g0 gb hbk (get_lt hi1) hE) ?_
      exact RQ.done (c := 0) (s := 0) rfl rfl rfl rfl ⟨_, _, rfl, none, hgW.symm, rfl, gres, fun a ha _ => far a ha⟩
    | some x =>
      have hx : x.length ≤ 1000 := hws _ (List.mem_of_getElem? hi0)
      have hval := hL.val hi1
      refine RQ.call (v := some (.int (nI x.length))) (st' := []) rfl rfl rfl rfl rfl rfl (args_v [.int (nI kc1), .ref (b + 1)] [] rfl rfl (Nat.le_of_ble_eq_true rfl) rfl ((set_far (by decide)).trans h0) (Nat.le_of_ble_eq_true rfl)) (rc_answerW1 (m := x.length) g0 g3 g4 gb hbk (get_lt hi1) hE hx hb10) ?_
      exact RQ.done (c := 0) (s := 0) rfl rfl rfl rfl ⟨_, _, rfl, some x, hgW.symm, rfl, ⟨_, get_set ((set_far (by decide)).trans g3), (set_far (by decide)).trans (get_set g4), by show sl (cpy D _ g 0 x.length) 0 x.length = x; rw [sl_cpy]; exact hval, hx⟩, fun a ha hb => (set_far ha).trans ((set_far hb).trans (far a ha))⟩
