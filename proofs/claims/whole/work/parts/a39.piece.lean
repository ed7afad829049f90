/-! ===== the keys of nodes and pieces; where a piece lies; class; written by wip/gen/piece.py ===== -/
theorem cons_eq {a b : Nat} {s t : List Nat} (h : a = b) (h2 : s = t) : a :: s = b :: t := by rw [h, h2]
theorem i8_back {m : Nat} (hm : m < 256) : ub ((nI m).toInt8.toInt32).toInt8 = m := by
  rw [show ((nI m).toInt8.toInt32).toInt8 = (nI m).toInt8 by simp, ub_i8 (by omega)]
  omega
theorem rn_probeNode {sc : Nat × (Nat → Int32)} {d f : Nat} {H : aH} {bl pr up cw cl cp cb : Int32} {g : Nat → Int8} {q : Nat} (h0 : H[0]? = some (kO 11 (fvs bl pr up cw cl cp cb))) (h5 : H[5]? = some (kO 5 [.ref 7, .int (nI q)])) (h6 : H[6]? = some (kB 41 g)) (hf : f < 256) : RN sc d mr_223 [.ref 1, .int (nI f)] H (fun H' => (∃ g', H'[6]? = some (kB 41 g') ∧ sl g' 0 2 = [1, f]) ∧ H'[5]? = some (kO 5 [.ref 7, .int (nI 2)]) ∧ ∀ a, a ≠ 5 → a ≠ 6 → H'[a]? = H[a]?) := by
  refine RN.of ?_
  refine RQ.blk 1 (pc' := 1) (lv' := [(0, .ref 1), (1, .int (nI f))]) (st' := [.ref 1]) (H' := _) (kc' := 0) (ks' := 0) rfl ?_
  refine RQ.get (ci := 11) rfl h0 rfl rfl ?_
  refine RQ.get (ci := 5) rfl h5 rfl rfl ?_
  refine RQ.blk 2 (pc' := 9) (lv' := [(0, .ref 1), (1, .int (nI f))]) (st' := [.int 1, .int 0, .ref 7]) (H' := _) (kc' := 0) (ks' := 0) rfl ?_
  refine RQ.bastN (j := 0) rfl h6 (by omega) (by decide) ?_
  refine RQ.blk 1 (pc' := 11) (lv' := [(0, .ref 1), (1, .int (nI f))]) (st' := [.ref 1]) (H' := _) (kc' := 0) (ks' := 0) rfl ?_
  refine RQ.get (ci := 11) rfl ((set_far (by decide)).trans h0) rfl rfl ?_
  refine RQ.get (ci := 5) rfl ((set_far (by decide)).trans h5) rfl rfl ?_
  refine RQ.blk 3 (pc' := 20) (lv' := [(0, .ref 1), (1, .int (nI f))]) (st' := [.int ((nI f).toInt8.toInt32), .int 1, .ref 7]) (H' := _) (kc' := 0) (ks' := 0) rfl ?_
  refine RQ.bastN (j := 1) rfl (get_set h6) (by omega) (by decide) ?_
  refine RQ.blk 1 (pc' := 22) (lv' := [(0, .ref 1), (1, .int (nI f))]) (st' := [.ref 1]) (H' := _) (kc' := 0) (ks' := 0) rfl ?_
  refine RQ.get (ci := 11) rfl ((set_far (by decide)).trans ((set_far (by decide)).trans h0)) rfl rfl ?_
  refine RQ.blk 1 (pc' := 26) (lv' := [(0, .ref 1), (1, .int (nI f))]) (st' := [.int 2, .ref 6]) (H' := _) (kc' := 0) (ks' := 0) rfl ?_
  refine RQ.put (ci := 5) rfl ((set_far (by decide)).trans ((set_far (by decide)).trans h5)) rfl rfl (Nat.le_of_ble_eq_true rfl) ?_
  exact RQ.done (c := 0) (s := 0) rfl rfl rfl rfl ⟨_, rfl, ⟨_, (set_far (by decide)).trans (get_set (get_set h6)), cons_eq (show ub _ = 1 from rfl) (cons_eq (i8_back hf) rfl)⟩, get_set ((set_far (by decide)).trans ((set_far (by decide)).trans h5)), fun a a1 a2 => (set_far a1).trans ((set_far a2).trans (set_far a2))⟩
theorem rn_probePiece {sc : Nat × (Nat → Int32)} {d f i : Nat} {H : aH} {bl pr up cw cl cp cb : Int32} {g : Nat → Int8} {q : Nat} (h0 : H[0]? = some (kO 11 (fvs bl pr up cw cl cp cb))) (h5 : H[5]? = some (kO 5 [.ref 7, .int (nI q)])) (h6 : H[6]? = some (kB 41 g)) (hf : f < 256) (hi : i < 256) : RN sc d mr_230 [.ref 1, .int (nI f), .int (nI i)] H (fun H' => (∃ g', H'[6]? = some (kB 41 g') ∧ sl g' 0 3 = [2, f, i]) ∧ H'[5]? = some (kO 5 [.ref 7, .int (nI 3)]) ∧ ∀ a, a ≠ 5 → a ≠ 6 → H'[a]? = H[a]?) := by
  refine RN.of ?_
  refine RQ.blk 1 (pc' := 1) (lv' := [(0, .ref 1), (1, .int (nI f)), (2, .int (nI i))]) (st' := [.ref 1]) (H' := _) (kc' := 0) (ks' := 0) rfl ?_
  refine RQ.get (ci := 11) rfl h0 rfl rfl ?_
  refine RQ.get (ci := 5) rfl h5 rfl rfl ?_
  refine RQ.blk 2 (pc' := 9) (lv' := [(0, .ref 1), (1, .int (nI f)), (2, .int (nI i))]) (st' := [.int 2, .int 0, .ref 7]) (H' := _) (kc' := 0) (ks' := 0) rfl ?_
  refine RQ.bastN (j := 0) rfl h6 (by omega) (by decide) ?_
  refine RQ.blk 1 (pc' := 11) (lv' := [(0, .ref 1), (1, .int (nI f)), (2, .int (nI i))]) (st' := [.ref 1]) (H' := _) (kc' := 0) (ks' := 0) rfl ?_
  refine RQ.get (ci := 11) rfl ((set_far (by decide)).trans h0) rfl rfl ?_
  refine RQ.get (ci := 5) rfl ((set_far (by decide)).trans h5) rfl rfl ?_
  refine RQ.blk 3 (pc' := 20) (lv' := [(0, .ref 1), (1, .int (nI f)), (2, .int (nI i))]) (st' := [.int ((nI f).toInt8.toInt32), .int 1, .ref 7]) (H' := _) (kc' := 0) (ks' := 0) rfl ?_
  refine RQ.bastN (j := 1) rfl (get_set h6) (by omega) (by decide) ?_
  refine RQ.blk 1 (pc' := 22) (lv' := [(0, .ref 1), (1, .int (nI f)), (2, .int (nI i))]) (st' := [.ref 1]) (H' := _) (kc' := 0) (ks' := 0) rfl ?_
  refine RQ.get (ci := 11) rfl ((set_far (by decide)).trans ((set_far (by decide)).trans h0)) rfl rfl ?_
  refine RQ.get (ci := 5) rfl ((set_far (by decide)).trans ((set_far (by decide)).trans h5)) rfl rfl ?_
  refine RQ.blk 3 (pc' := 31) (lv' := [(0, .ref 1), (1, .int (nI f)), (2, .int (nI i))]) (st' := [.int ((nI i).toInt8.toInt32), .int 2, .ref 7]) (H' := _) (kc' := 0) (ks' := 0) rfl ?_
  refine RQ.bastN (j := 2) rfl (get_set (get_set h6)) (by omega) (by decide) ?_
  refine RQ.blk 1 (pc' := 33) (lv' := [(0, .ref 1), (1, .int (nI f)), (2, .int (nI i))]) (st' := [.ref 1]) (H' := _) (kc' := 0) (ks' := 0) rfl ?_
  refine RQ.get (ci := 11) rfl ((set_far (by decide)).trans ((set_far (by decide)).trans ((set_far (by decide)).trans h0))) rfl rfl ?_
  refine RQ.blk 1 (pc' := 37) (lv' := [(0, .ref 1), (1, .int (nI f)), (2, .int (nI i))]) (st' := [.int 3, .ref 6]) (H' := _) (kc' := 0) (ks' := 0) rfl ?_
  refine RQ.put (ci := 5) rfl ((set_far (by decide)).trans ((set_far (by decide)).trans ((set_far (by decide)).trans h5))) rfl rfl (Nat.le_of_ble_eq_true rfl) ?_
  exact RQ.done (c := 0) (s := 0) rfl rfl rfl rfl ⟨_, rfl, ⟨_, (set_far (by decide)).trans (get_set (get_set (get_set h6))), cons_eq (show ub _ = 2 from rfl) (cons_eq (i8_back hf) (cons_eq (i8_back hi) rfl))⟩, get_set ((set_far (by decide)).trans ((set_far (by decide)).trans ((set_far (by decide)).trans h5))), fun a a1 a2 => (set_far a1).trans ((set_far a2).trans ((set_far a2).trans (set_far a2)))⟩
theorem pc_case {kf : Nat → Int8} {kl mo pl : Nat → Nat} {le : Nat → Option Nat} {al : Nat → Bool} {od : Nat → Nat} {sz : Nat} {k : Nat} {key ks : List Nat} {vs : List aV} {m : Nat} (hseen : seenV vs key m = if k < sz ∧ keyO kf kl od k = key then some (verO kf kl mo pl le al (od k)) else none) (hks : ks = key) : (∃ j, j < sz ∧ (if k < sz ∧ sl kf (od k * 41) (kl (od k)) = ks ∧ ¬ le (od k) = none then nI (od k) else -1) = nI (od j) ∧ ¬ le (od j) = none ∧ seenV vs key m = some (verO kf kl mo pl le al (od j))) ∨ ((if k < sz ∧ sl kf (od k * 41) (kl (od k)) = ks ∧ ¬ le (od k) = none then nI (od k) else -1) = -1 ∧ ∀ v, seenV vs key m = some v → v.2.2.2.1 = none) := by
  subst hks
  by_cases h : k < sz ∧ sl kf (od k * 41) (kl (od k)) = ks ∧ ¬ le (od k) = none
  · refine Or.inl ⟨k, h.1, if_pos h, h.2.2, ?_⟩
    rw [hseen, if_pos ⟨h.1, h.2.1⟩]
  · refine Or.inr ⟨if_neg h, fun v hv => ?_⟩
    rw [hseen] at hv
    by_cases h2 : k < sz ∧ keyO kf kl od k = ks
    · rw [if_pos h2] at hv
      rw [← Option.some.inj hv]
      show le (od k) = none
      exact Classical.byContradiction (fun e => h ⟨h2.1, h2.2, e⟩)
    · rw [if_neg h2] at hv
      cases hv
theorem ri_pieceSlot {sc : Nat × (Nat → Int32)} {d f i : Nat} {H : aH} {bl pr up cw cl cp cb : Int32} {g : Nat → Int8} {q : Nat} {N : Nat} {kf : Nat → Int8} {kl mo pl : Nat → Nat} {le : Nat → Option Nat} {al : Nat → Bool} {od sp : Nat → Nat} {sz ss ac : Nat} {vs : List aV} (h0 : H[0]? = some (kO 11 (fvs bl pr up cw cl cp cb))) (h5 : H[5]? = some (kO 5 [.ref 7, .int (nI q)])) (h6 : H[6]? = some (kB 41 g)) (hA : VersAt H N kf kl mo pl le al od sp sz ss ac) (hW : VersWf N kf kl mo pl le al od sp sz ss ac) (hvs : vs = vsL kf kl mo pl le al od sz) (hf : f < 256) (hi : i < 256) : RI sc (d + 3) mr_229 [.ref 1, .int (nI f), .int (nI i)] H (fun x H' => (∃ g', H'[6]? = some (kB 41 g') ∧ sl g' 0 3 = [2, f, i]) ∧ H'[5]? = some (kO 5 [.ref 7, .int (nI 3)]) ∧ (∀ a, a ≠ 5 → a ≠ 6 → H'[a]? = H[a]?) ∧ ((∃ j, j < sz ∧ x = nI (od j) ∧ ¬ le (od j) = none ∧ seenV vs [2, f, i] (2 ^ 30) = some (verO kf kl mo pl le al (od j))) ∨ (x = -1 ∧ ∀ v, seenV vs [2, f, i] (2 ^ 30) = some v → v.2.2.2.1 = none))) := by
  have hsrt := hW.2.2.2.2.2.2.2.2
  obtain ⟨k, hc⟩ := cut_ex [2, f, i] 2147483647 hsrt (fun p hp => by have := (hW.1.2.2.2.2.2 _ (hW.1.2.2.2.1 p hp)).2.1; omega)
  have hseen : seenV vs [2, f, i] (2 ^ 30) = if k < sz ∧ keyO kf kl od k = [2, f, i] then some (verO kf kl mo pl le al (od k)) else none := by
    rw [hvs]
    exact cut_seen hsrt (fun q hq => by have := (hW.1.2.2.2.2.2 _ (hW.1.2.2.2.1 q hq)).2.1; exact ⟨fun e => absurd e (nI_nlt (a := 2147483647) (by omega) (by decide)), fun e => by omega⟩) hc
  refine RI.of ?_
  refine RQ.blk 3 (pc' := 3) (lv' := [(0, .ref 1), (1, .int (nI f)), (2, .int (nI i))]) (st' := [.int (nI i), .int (nI f), .ref 1]) (H' := _) (kc' := 0) (ks' := 0) rfl ?_
  refine RQ.callN (st' := []) rfl rfl rfl rfl rfl rfl (args_v [.int (nI i), .int (nI f)] [] rfl rfl (Nat.le_of_ble_eq_true rfl) rfl h0 (Nat.le_of_ble_eq_true rfl)) (rn_probePiece h0 h5 h6 hf hi) (fun H2 hx2 => ?_)
  obtain ⟨⟨g2, e1, e2⟩, e3, f2⟩ := hx2
  have hA2 := hA.far (H' := H2) (fun a a1 a2 => f2 a (by omega) (by omega))
  rw [← e2] at hc
  refine RQ.blk 1 (pc' := 7) (lv' := [(0, .ref 1), (1, .int (nI f)), (2, .int (nI i))]) (st' := [.ref 1]) (H' := _) (kc' := 0) (ks' := 0) rfl ?_
  refine RQ.get (ci := 11) rfl ((f2 0 (by decide) (by decide)).trans h0) rfl rfl ?_
  refine RQ.blk 1 (pc' := 11) (lv' := [(0, .ref 1), (1, .int (nI f)), (2, .int (nI i))]) (st' := [.ref 1, .ref 75]) (H' := _) (kc' := 0) (ks' := 0) rfl ?_
  refine RQ.get (ci := 11) rfl ((f2 0 (by decide) (by decide)).trans h0) rfl rfl ?_
  refine RQ.get (ci := 5) rfl e3 rfl rfl ?_
  refine RQ.blk 1 (pc' := 18) (lv' := [(0, .ref 1), (1, .int (nI f)), (2, .int (nI i))]) (st' := [.ref 1, .ref 7, .ref 75]) (H' := _) (kc' := 0) (ks' := 0) rfl ?_
  refine RQ.get (ci := 11) rfl ((f2 0 (by decide) (by decide)).trans h0) rfl rfl ?_
  refine RQ.get (ci := 5) rfl e3 rfl rfl ?_
  refine RQ.blk 1 (pc' := 27) (lv' := [(0, .ref 1), (1, .int (nI f)), (2, .int (nI i))]) (st' := [.int 2147483647, .int (nI 3), .ref 7, .ref 75]) (H' := _) (kc' := 0) (ks' := 0) rfl ?_
  refine RQ.call (v := some (.int (if k < sz ∧ sl kf (od k * 41) (kl (od k)) = sl g2 0 3 ∧ ¬ le (od k) = none then nI (od k) else -1))) (st' := []) rfl rfl rfl rfl rfl rfl (args_v [.int 2147483647, .int (nI 3), .ref 7] [] rfl rfl (Nat.le_of_ble_eq_true rfl) rfl hA2.1 (Nat.le_of_ble_eq_true rfl)) (rc_seenAt (m := 3) (k := k) hA2 hW.1 e1 (by decide) (by decide) hc) ?_
  exact RQ.done (c := 0) (s := 0) rfl rfl rfl rfl ⟨_, _, rfl, ⟨g2, e1, e2⟩, e3, f2, pc_case hseen (by rw [e2])⟩
