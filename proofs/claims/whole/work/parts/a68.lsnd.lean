/-! ===== each value lies where it is said to; nodes have records and come down from the root; class; written by wip/gen/lsnd.py ===== -/
theorem rc_lgSound {sc : Nat × (Nat → Int32)} {d mp hv : Nat} {H : aH} {N : Nat} {kf : Nat → Int8} {kl mo pl : Nat → Nat} {le : Nat → Option Nat} {al : Nat → Bool} {od sp : Nat → Nat} {sz ss ac : Nat} {lc fr ff : Nat} {wr : Bool} {tp rc ms mt sq tu tn nb : Nat} {us : Nat → Bool} {lg : Nat → Nat} {B : Nat} {cf : Nat → Int8} {tf : Nat → Nat} {pq : Option Nat} {bb ov : Nat} {vs : List aV} (hA : VersAt H N kf kl mo pl le al od sp sz ss ac) (hW : VersWf N kf kl mo pl le al od sp sz ss ac) (hvs : vs = vsL kf kl mo pl le al od sz) (hC : ChipAt H B cf tf pq bb ov) (hY : LayAt H (layF B lc fr ff wr tp rc ms mt sq tu tn nb) B us lg) (hB : B ≤ 128) (hlc : lc ≤ B) (hlg : ∀ j, j < lc → lg j < 2 ^ 30) (hG : H[190]? = some (kO 4 (logF mp hv))) (hRec : RecsOk cf B lg lc vs) (hfl : fr ≤ lc) (hff : ff < 2 ^ 31) (hfr : ∀ v ∈ vs, v.2.2.2.1 ≠ none → v.2.2.2.2 = true → freshF lg lc fr ff v.2.2.1 = true) : RC sc (d + 2) mr_206 [.ref 191] H (.inl (some (.int 1))) H 0 0 := by
  have hN := hW.1.1
  have hszN := hW.1.2.1
  refine RC.of ?_
  refine RQ.blk 2 (pc' := 2) (lv' := [(1, .int 0), (0, .ref 191)]) (st' := []) (H' := _) (kc' := 0) (ks' := 0) rfl ?_
  refine RQ.while (S := Nat) (pc := 2) (fun p H' => p ≤ sz ∧ H' = H) (fun p => [(1, .int (nI p)), (0, .ref 191)]) (fun p => sz - p) ?_ 0 H ⟨Nat.zero_le _, rfl⟩
  rintro p H1 ⟨hp, eH⟩ ih
  rw [show H1 = H from eH]
  by_cases hps : p < sz
  ·
    have hod := hW.1.2.2.2.1 p hps
    have hso := hW.1.2.2.2.2.2 _ hod
    have hve : vs[p]? = some (verO kf kl mo pl le al (od p)) := by rw [hvs]; exact vsL_get hps
    have hvm := List.mem_of_getElem? hve
    refine RQ.blk 2 (pc' := 4) (lv' := [(1, .int (nI p)), (0, .ref 191)]) (st' := [.ref 191, .int (nI p)]) (H' := _) (kc' := 0) (ks' := 0) rfl ?_
    refine RQ.get (ci := 4) rfl hG rfl rfl ?_
    refine RQ.get (ci := 10) rfl hA.1 rfl rfl ?_
    refine RQ.brF rfl rfl rfl (cF_ge p sz) ?_
    refine RQ.blk 1 (pc' := 14) (lv' := [(1, .int (nI p)), (0, .ref 191)]) (st' := [.ref 191]) (H' := _) (kc' := 0) (ks' := 0) rfl ?_
    refine RQ.get (ci := 4) rfl hG rfl rfl ?_
    refine RQ.get (ci := 10) rfl hA.1 rfl rfl ?_
    refine RQ.blk 1 (pc' := 21) (lv' := [(1, .int (nI p)), (0, .ref 191)]) (st' := [.int (nI p), .ref 82]) (H' := _) (kc' := 0) (ks' := 0) rfl ?_
    refine RQ.ialdN (j := p) rfl hA.2.2.2.2.2.2.2.1 (by omega) (by omega) ?_
    refine RQ.blk 2 (pc' := 24) (lv' := [(2, .int (nI (od p))), (1, .int (nI p)), (0, .ref 191)]) (st' := [.ref 191]) (H' := _) (kc' := 0) (ks' := 0) rfl ?_
    refine RQ.get (ci := 4) rfl hG rfl rfl ?_
    refine RQ.get (ci := 10) rfl hA.1 rfl rfl ?_
    refine RQ.blk 1 (pc' := 31) (lv' := [(2, .int (nI (od p))), (1, .int (nI p)), (0, .ref 191)]) (st' := [.int (nI (od p)), .ref 80]) (H' := _) (kc' := 0) (ks' := 0) rfl ?_
    refine RQ.ialdN (j := od p) rfl hA.2.2.2.2.2.1 (by omega) (by omega) ?_
    cases c1 : le (od p) with
    | none =>
      refine RQ.brT rfl rfl rfl (by decide) ?_
      refine RQ.blk 1 (pc' := 79) (lv' := [(1, .int (nI p + 1)), (2, .int (nI (od p))), (0, .ref 191)]) (st' := []) (H' := _) (kc' := 0) (ks' := 0) rfl ?_
      rw [show (nI p + 1 : Int32) = nI (p + 1) from nI_add p 1]
      refine RQ.blk 1 (pc' := 2) (lv' := [(1, .int (nI (p + 1))), (2, .int (nI (od p))), (0, .ref 191)]) (st' := []) (H' := _) (kc' := 0) (ks' := 0) rfl ?_
      refine RQ.pick (a := [(1, .int (nI (p + 1))), (0, .ref 191)]) [0, 2] [1, 2, 0] rfl rfl (by decide) ?_
      exact ih (p + 1) _ ⟨by omega, rfl⟩ (by omega)
    | some kc1 =>
      rw [show lI (some kc1) = nI kc1 from rfl]
      have hkb : kc1 < 2 ^ 30 := by have h9 := hso.2.2.2; rw [c1] at h9; exact h9
      obtain ⟨hR1, hR2, hR3, hR4⟩ := hRec _ hvm kc1 c1
      have hR3 : pl (od p) + 9 + (sl kf (od p * 41) (kl (od p))).length + kc1 ≤ B * 2048 := hR3
      rw [sl_length] at hR3
      refine RQ.brF rfl rfl rfl (cF_lt kc1 0) ?_
      refine RQ.blk 2 (pc' := 37) (lv' := [(2, .int (nI (od p))), (1, .int (nI p)), (0, .ref 191)]) (st' := [.int (nI (od p)), .ref 191]) (H' := _) (kc' := 0) (ks' := 0) rfl ?_
      refine RQ.call (v := some (.int 1)) (st' := []) rfl rfl rfl rfl rfl rfl (args_v [.int (nI (od p))] [] rfl rfl (Nat.le_of_ble_eq_true rfl) rfl hG (Nat.le_of_ble_eq_true rfl)) (rc_isAt hA hW.1 hC hY hB hlc hlg hG hod c1 hR1 hR2 hR3) ?_
      refine RQ.brF rfl rfl rfl (by decide) ?_
      refine RQ.blk 1 (pc' := 44) (lv' := [(2, .int (nI (od p))), (1, .int (nI p)), (0, .ref 191)]) (st' := [.ref 191]) (H' := _) (kc' := 0) (ks' := 0) rfl ?_
      refine RQ.get (ci := 4) rfl hG rfl rfl ?_
      refine RQ.get (ci := 10) rfl hA.1 rfl rfl ?_
      refine RQ.blk 1 (pc' := 51) (lv' := [(2, .int (nI (od p))), (1, .int (nI p)), (0, .ref 191)]) (st' := [.int (nI (od p)), .ref 81]) (H' := _) (kc' := 0) (ks' := 0) rfl ?_
      refine RQ.zaldN (j := od p) rfl hA.2.2.2.2.2.2.1 (by omega) (by omega) ?_
      by_cases hal : al (od p) = true
      · rw [if_pos hal]
        refine RQ.brF rfl rfl rfl (by decide) ?_
        refine RQ.blk 1 (pc' := 56) (lv' := [(2, .int (nI (od p))), (1, .int (nI p)), (0, .ref 191)]) (st' := [.ref 191]) (H' := _) (kc' := 0) (ks' := 0) rfl ?_
        refine RQ.get (ci := 4) rfl hG rfl rfl ?_
        refine RQ.blk 1 (pc' := 60) (lv' := [(2, .int (nI (od p))), (1, .int (nI p)), (0, .ref 191)]) (st' := [.ref 191, .ref 84]) (H' := _) (kc' := 0) (ks' := 0) rfl ?_
        refine RQ.get (ci := 4) rfl hG rfl rfl ?_
        refine RQ.get (ci := 10) rfl hA.1 rfl rfl ?_
        refine RQ.blk 1 (pc' := 67) (lv' := [(2, .int (nI (od p))), (1, .int (nI p)), (0, .ref 191)]) (st' := [.int (nI (od p)), .ref 79, .ref 84]) (H' := _) (kc' := 0) (ks' := 0) rfl ?_
        refine RQ.ialdN (j := od p) rfl hA.2.2.2.2.1 (by omega) (by omega) ?_
        refine RQ.call (v := some (.int (if freshF lg lc fr ff (pl (od p)) = true then 1 else 0))) (st' := []) rfl rfl rfl rfl rfl rfl (args_v [.int (nI (pl (od p)))] [] rfl rfl (Nat.le_of_ble_eq_true rfl) rfl hY.1 (Nat.le_of_ble_eq_true rfl)) (rc_isFresh hY hB hlc (by omega) hlg hfl hff) ?_
        rw [if_pos (show freshF lg lc fr ff (pl (od p)) = true from hfr _ hvm (by show le (od p) ≠ none; rw [c1]; exact Option.some_ne_none _) hal)]
        refine RQ.brT rfl rfl rfl (by decide) ?_
        refine RQ.blk 1 (pc' := 79) (lv' := [(1, .int (nI p + 1)), (2, .int (nI (od p))), (0, .ref 191)]) (st' := []) (H' := _) (kc' := 0) (ks' := 0) rfl ?_
        rw [show (nI p + 1 : Int32) = nI (p + 1) from nI_add p 1]
        refine RQ.blk 1 (pc' := 2) (lv' := [(1, .int (nI (p + 1))), (2, .int (nI (od p))), (0, .ref 191)]) (st' := []) (H' := _) (kc' := 0) (ks' := 0) rfl ?_
        refine RQ.pick (a := [(1, .int (nI (p + 1))), (0, .ref 191)]) [0, 2] [1, 2, 0] rfl rfl (by decide) ?_
        exact ih (p + 1) _ ⟨by omega, rfl⟩ (by omega)
      · rw [if_neg hal]
        refine RQ.brT rfl rfl rfl (by decide) ?_
        refine RQ.blk 1 (pc' := 79) (lv' := [(1, .int (nI p + 1)), (2, .int (nI (od p))), (0, .ref 191)]) (st' := []) (H' := _) (kc' := 0) (ks' := 0) rfl ?_
        rw [show (nI p + 1 : Int32) = nI (p + 1) from nI_add p 1]
        refine RQ.blk 1 (pc' := 2) (lv' := [(1, .int (nI (p + 1))), (2, .int (nI (od p))), (0, .ref 191)]) (st' := []) (H' := _) (kc' := 0) (ks' := 0) rfl ?_
        refine RQ.pick (a := [(1, .int (nI (p + 1))), (0, .ref 191)]) [0, 2] [1, 2, 0] rfl rfl (by decide) ?_
        exact ih (p + 1) _ ⟨by omega, rfl⟩ (by omega)
  ·
    refine RQ.blk 2 (pc' := 4) (lv' := [(1, .int (nI p)), (0, .ref 191)]) (st' := [.ref 191, .int (nI p)]) (H' := _) (kc' := 0) (ks' := 0) rfl ?_
    refine RQ.get (ci := 4) rfl hG rfl rfl ?_
    refine RQ.get (ci := 10) rfl hA.1 rfl rfl ?_
    refine RQ.brT rfl rfl rfl (cT_ge p sz) ?_
    refine RQ.blk 1 (pc' := 83) (lv' := [(1, .int (nI p)), (0, .ref 191)]) (st' := [.int 1]) (H' := _) (kc' := 0) (ks' := 0) rfl ?_
    exact RQ.done (c := 0) (s := 0) rfl rfl rfl rfl rfl
/-- how many records of nodes there are -/
def ndN (vs : List aV) : Nat := (vs.filter (fun v => decide (v.1.headD 0 = 1 ∧ v.2.2.2.1 ≠ none))).length
theorem ndN_take {vs : List aV} {p : Nat} {v : aV} (h : vs[p]? = some v) : ndN (vs.take (p + 1)) = ndN (vs.take p) + (if v.1.headD 0 = 1 ∧ v.2.2.2.1 ≠ none then 1 else 0) := by
  unfold ndN
  rw [List.take_add_one, h]
  show (List.filter _ (vs.take p ++ [v])).length = _
  rw [List.filter_append, List.length_append, List.filter_cons, List.filter_nil]
  by_cases e : v.1.headD 0 = 1 ∧ v.2.2.2.1 ≠ none
  · rw [if_pos e, if_pos (decide_eq_true e)]; rfl
  · rw [if_neg e, if_neg (by rw [decide_eq_false e]; decide)]; rfl
theorem rc_trSound {sc : Nat × (Nat → Int32)} {d : Nat} {H : aH} {N : Nat} {kf : Nat → Int8} {kl mo pl : Nat → Nat} {le : Nat → Option Nat} {al : Nat → Bool} {od sp : Nat → Nat} {sz ss ac : Nat} {kd pa zz nl : Nat → Nat} {nm : Nat → Int8} {no : Nat} {vs : List aV} (hA : VersAt H N kf kl mo pl le al od sp sz ss ac) (hW : VersWf N kf kl mo pl le al od sp sz ss ac) (hvs : vs = vsL kf kl mo pl le al od sz) (hT : TreeAt H kd pa zz nl nm no) (hk : TreeOk kd pa zz nl) (hup : ∀ v, 1 ≤ v → v ≤ 200 → ¬ kd v = 0 → kd (pa v) = 2 ∧ upF pa 0 201 v = 0) (hno : ndN vs = no) (hno31 : no < 2 ^ 31) : RC sc (d + 3) mr_208 [.ref 66, .ref 75] H (.inl (some (.int 1))) H 0 0 := by
  have hN := hW.1.1
  have hszN := hW.1.2.1
  have hsz : vs.length = sz := by rw [hvs]; unfold vsL; rw [List.length_map, List.length_range]
  refine RC.of ?_
  refine RQ.blk 4 (pc' := 4) (lv' := [(3, .int 0), (2, .int 0), (0, .ref 66), (1, .ref 75)]) (st' := []) (H' := _) (kc' := 0) (ks' := 0) rfl ?_
  refine RQ.while (S := Nat) (pc := 4) (fun p H' => p ≤ sz ∧ H' = H) (fun p => [(3, .int (nI p)), (2, .int (nI (ndN (vs.take p)))), (0, .ref 66), (1, .ref 75)]) (fun p => sz - p) ?_ 0 H ⟨Nat.zero_le _, rfl⟩
  rintro p H1 ⟨hp, eH⟩ ih
  rw [show H1 = H from eH]
  by_cases hps : p < sz
  ·
    have hod := hW.1.2.2.2.1 p hps
    have hso := hW.1.2.2.2.2.2 _ hod
    have hkl := hW.2.2.2.2.2.2.2.1 p hps
    have hve : vs[p]? = some (verO kf kl mo pl le al (od p)) := by rw [hvs]; exact vsL_get hps
    have hnt := ndN_take hve
    have hhd : (verO kf kl mo pl le al (od p)).1.headD 0 = ub (kf (od p * 41)) := by
      show (sl kf (od p * 41) (kl (od p))).headD 0 = _
      obtain ⟨m, hm⟩ : ∃ m, kl (od p) = m + 1 := ⟨kl (od p) - 1, by omega⟩
      rw [hm]
      rfl
    refine RQ.blk 2 (pc' := 6) (lv' := [(3, .int (nI p)), (2, .int (nI (ndN (vs.take p)))), (0, .ref 66), (1, .ref 75)]) (st' := [.ref 75, .int (nI p)]) (H' := _) (kc' := 0) (ks' := 0) rfl ?_
    refine RQ.get (ci := 10) rfl hA.1 rfl rfl ?_
    refine RQ.brF rfl rfl rfl (cF_ge p sz) ?_
    refine RQ.blk 1 (pc' := 13) (lv' := [(3, .int (nI p)), (2, .int (nI (ndN (vs.take p)))), (0, .ref 66), (1, .ref 75)]) (st' := [.ref 75]) (H' := _) (kc' := 0) (ks' := 0) rfl ?_
    refine RQ.get (ci := 10) rfl hA.1 rfl rfl ?_
    refine RQ.blk 1 (pc' := 17) (lv' := [(3, .int (nI p)), (2, .int (nI (ndN (vs.take p)))), (0, .ref 66), (1, .ref 75)]) (st' := [.int (nI p), .ref 82]) (H' := _) (kc' := 0) (ks' := 0) rfl ?_
    refine RQ.ialdN (j := p) rfl hA.2.2.2.2.2.2.2.1 (by omega) (by omega) ?_
    refine RQ.blk 2 (pc' := 21) (lv' := [(4, .int (nI (od p))), (3, .int (nI p)), (2, .int (nI (ndN (vs.take p)))), (0, .ref 66), (1, .ref 75)]) (st' := [.ref 75]) (H' := _) (kc' := 0) (ks' := 0) rfl ?_
    refine RQ.get (ci := 10) rfl hA.1 rfl rfl ?_
    refine RQ.blk 3 (pc' := 29) (lv' := [(4, .int (nI (od p))), (3, .int (nI p)), (2, .int (nI (ndN (vs.take p)))), (0, .ref 66), (1, .ref 75)]) (st' := [.int (nI (od p) * 41), .ref 76]) (H' := _) (kc' := 0) (ks' := 0) rfl ?_
    rw [show (nI (od p) * 41 : Int32) = nI ((od p) * 41) from pk_mul (od p) 41]
    refine RQ.baldN (j := (od p) * 41) rfl hA.2.1 (by omega) (by omega) ?_
    refine RQ.blk 1 (pc' := 31) (lv' := [(4, .int (nI (od p))), (3, .int (nI p)), (2, .int (nI (ndN (vs.take p)))), (0, .ref 66), (1, .ref 75)]) (st' := [.int 1, .int ((kf ((od p) * 41)).toInt32)]) (H' := _) (kc' := 0) (ks' := 0) rfl ?_
    by_cases hk1 : ub (kf (od p * 41)) = 1
    · refine RQ.brF rfl rfl rfl (by rw [i8_one.mpr hk1]; decide) ?_
      refine RQ.blk 1 (pc' := 35) (lv' := [(4, .int (nI (od p))), (3, .int (nI p)), (2, .int (nI (ndN (vs.take p)))), (0, .ref 66), (1, .ref 75)]) (st' := [.ref 75]) (H' := _) (kc' := 0) (ks' := 0) rfl ?_
      refine RQ.get (ci := 10) rfl hA.1 rfl rfl ?_
      refine RQ.blk 1 (pc' := 40) (lv' := [(4, .int (nI (od p))), (3, .int (nI p)), (2, .int (nI (ndN (vs.take p)))), (0, .ref 66), (1, .ref 75)]) (st' := [.int (nI (od p)), .ref 80]) (H' := _) (kc' := 0) (ks' := 0) rfl ?_
      refine RQ.ialdN (j := od p) rfl hA.2.2.2.2.2.1 (by omega) (by omega) ?_
      cases c2 : le (od p) with
      | none =>
        refine RQ.brT rfl rfl rfl (by decide) ?_
        refine RQ.blk 1 (pc' := 50) (lv' := [(3, .int (nI p + 1)), (4, .int (nI (od p))), (2, .int (nI (ndN (vs.take p)))), (0, .ref 66), (1, .ref 75)]) (st' := []) (H' := _) (kc' := 0) (ks' := 0) rfl ?_
        rw [show (nI p + 1 : Int32) = nI (p + 1) from nI_add p 1]
        refine RQ.blk 1 (pc' := 4) (lv' := [(3, .int (nI (p + 1))), (4, .int (nI (od p))), (2, .int (nI (ndN (vs.take p)))), (0, .ref 66), (1, .ref 75)]) (st' := []) (H' := _) (kc' := 0) (ks' := 0) rfl ?_
        refine RQ.pick (a := [(3, .int (nI (p + 1))), (2, .int (nI (ndN (vs.take p)))), (0, .ref 66), (1, .ref 75)]) [0, 2, 3, 4] [3, 4, 2, 0, 1] rfl rfl (by decide) ?_
        rw [if_neg (fun e => e.2 (show le (od p) = none from c2)), Nat.add_zero] at hnt
        have ih := ih (p + 1) _ ⟨by omega, rfl⟩ (by omega)
        rw [hnt] at ih
        exact ih
      | some kc2 =>
        rw [show lI (some kc2) = nI kc2 from rfl]
        have hkb : kc2 < 2 ^ 30 := by have h9 := hso.2.2.2; rw [c2] at h9; exact h9
        refine RQ.brF rfl rfl rfl (cF_lt kc2 0) ?_
        refine RQ.blk 1 (pc' := 47) (lv' := [(2, .int (nI (ndN (vs.take p)) + 1)), (4, .int (nI (od p))), (3, .int (nI p)), (0, .ref 66), (1, .ref 75)]) (st' := []) (H' := _) (kc' := 0) (ks' := 0) rfl ?_
        rw [show (nI (ndN (vs.take p)) + 1 : Int32) = nI (ndN (vs.take p) + 1) from nI_add (ndN (vs.take p)) 1]
        refine RQ.blk 1 (pc' := 50) (lv' := [(3, .int (nI p + 1)), (2, .int (nI (ndN (vs.take p) + 1))), (4, .int (nI (od p))), (0, .ref 66), (1, .ref 75)]) (st' := []) (H' := _) (kc' := 0) (ks' := 0) rfl ?_
        rw [show (nI p + 1 : Int32) = nI (p + 1) from nI_add p 1]
        refine RQ.blk 1 (pc' := 4) (lv' := [(3, .int (nI (p + 1))), (2, .int (nI (ndN (vs.take p) + 1))), (4, .int (nI (od p))), (0, .ref 66), (1, .ref 75)]) (st' := []) (H' := _) (kc' := 0) (ks' := 0) rfl ?_
        refine RQ.pick (a := [(3, .int (nI (p + 1))), (2, .int (nI (ndN (vs.take p) + 1))), (0, .ref 66), (1, .ref 75)]) [0, 1, 3, 4] [3, 2, 4, 0, 1] rfl rfl (by decide) ?_
        rw [if_pos ⟨hhd.trans hk1, by show le (od p) ≠ none; rw [c2]; exact Option.some_ne_none _⟩] at hnt
        have ih := ih (p + 1) _ ⟨by omega, rfl⟩ (by omega)
        rw [hnt] at ih
        exact ih
    · refine RQ.brT rfl rfl rfl (bnt (fun e => hk1 (i8_one.mp e))) ?_
      refine RQ.blk 1 (pc' := 50) (lv' := [(3, .int (nI p + 1)), (4, .int (nI (od p))), (2, .int (nI (ndN (vs.take p)))), (0, .ref 66), (1, .ref 75)]) (st' := []) (H' := _) (kc' := 0) (ks' := 0) rfl ?_
      rw [show (nI p + 1 : Int32) = nI (p + 1) from nI_add p 1]
      refine RQ.blk 1 (pc' := 4) (lv' := [(3, .int (nI (p + 1))), (4, .int (nI (od p))), (2, .int (nI (ndN (vs.take p)))), (0, .ref 66), (1, .ref 75)]) (st' := []) (H' := _) (kc' := 0) (ks' := 0) rfl ?_
      refine RQ.pick (a := [(3, .int (nI (p + 1))), (2, .int (nI (ndN (vs.take p)))), (0, .ref 66), (1, .ref 75)]) [0, 2, 3, 4] [3, 4, 2, 0, 1] rfl rfl (by decide) ?_
      rw [if_neg (fun e => hk1 (hhd.symm.trans e.1)), Nat.add_zero] at hnt
      have ih := ih (p + 1) _ ⟨by omega, rfl⟩ (by omega)
      rw [hnt] at ih
      exact ih
  ·
    have hpe : p = sz := by omega
    rw [hpe, ← hsz, List.take_of_length_le (Nat.le_refl _), hno]
    rw [hsz]
    refine RQ.blk 2 (pc' := 6) (lv' := [(3, .int (nI sz)), (2, .int (nI no)), (0, .ref 66), (1, .ref 75)]) (st' := [.ref 75, .int (nI sz)]) (H' := _) (kc' := 0) (ks' := 0) rfl ?_
    refine RQ.get (ci := 10) rfl hA.1 rfl rfl ?_
    refine RQ.brT rfl rfl rfl (cT_ge sz sz) ?_
    refine RQ.blk 2 (pc' := 55) (lv' := [(3, .int 1), (2, .int (nI no)), (0, .ref 66), (1, .ref 75)]) (st' := []) (H' := _) (kc' := 0) (ks' := 0) rfl ?_
    refine RQ.pick (a := [(3, .int 1), (2, .int (nI no)), (0, .ref 66), (1, .ref 75)]) [0, 1, 2, 3] [3, 2, 0, 1] rfl rfl (by decide) ?_
    refine RQ.while (S := Nat) (pc := 55) (fun i H' => i ≤ 200 ∧ H' = H) (fun i => [(3, .int (nI (i + 1))), (2, .int (nI no)), (0, .ref 66), (1, .ref 75)]) (fun i => 200 - i) ?_ 0 H ⟨Nat.zero_le _, rfl⟩
    rintro i H1 ⟨hi, eH⟩ ih
    rw [show H1 = H from eH]
    by_cases hi2 : i < 200
    ·
      have hki := hk (i + 1) (by omega)
      refine RQ.blk 2 (pc' := 59) (lv' := [(3, .int (nI (i + 1))), (2, .int (nI no)), (0, .ref 66), (1, .ref 75)]) (st' := [.int 200, .int (nI (i + 1))]) (H' := _) (kc' := 0) (ks' := 0) rfl ?_
      refine RQ.brF rfl rfl rfl (cF_gt (i + 1) 200) ?_
      refine RQ.blk 1 (pc' := 63) (lv' := [(3, .int (nI (i + 1))), (2, .int (nI no)), (0, .ref 66), (1, .ref 75)]) (st' := [.ref 66]) (H' := _) (kc' := 0) (ks' := 0) rfl ?_
      refine RQ.get (ci := 9) rfl hT.1 rfl rfl ?_
      refine RQ.blk 1 (pc' := 67) (lv' := [(3, .int (nI (i + 1))), (2, .int (nI no)), (0, .ref 66), (1, .ref 75)]) (st' := [.int (nI (i + 1)), .ref 67]) (H' := _) (kc' := 0) (ks' := 0) rfl ?_
      refine RQ.ialdN (j := i + 1) rfl hT.2.1 (by omega) (by decide) ?_
      by_cases hk0 : kd (i + 1) = 0
      · refine RQ.brT rfl rfl rfl (cT_eq (kd (i + 1)) 0) ?_
        refine RQ.blk 1 (pc' := 98) (lv' := [(3, .int (nI (i + 1) + 1)), (2, .int (nI no)), (0, .ref 66), (1, .ref 75)]) (st' := []) (H' := _) (kc' := 0) (ks' := 0) rfl ?_
        rw [show (nI (i + 1) + 1 : Int32) = nI (i + 1 + 1) from nI_add (i + 1) 1]
        refine RQ.blk 1 (pc' := 55) (lv' := [(3, .int (nI (i + 1 + 1))), (2, .int (nI no)), (0, .ref 66), (1, .ref 75)]) (st' := []) (H' := _) (kc' := 0) (ks' := 0) rfl ?_
        refine RQ.pick (a := [(3, .int (nI (i + 1 + 1))), (2, .int (nI no)), (0, .ref 66), (1, .ref 75)]) [0, 1, 2, 3] [3, 2, 0, 1] rfl rfl (by decide) ?_
        exact ih (i + 1) _ ⟨by omega, rfl⟩ (by omega)
      · refine RQ.brF rfl rfl rfl (cF_eq (kd (i + 1)) 0) ?_
        refine RQ.blk 2 (pc' := 73) (lv' := [(3, .int (nI (i + 1))), (2, .int (nI no)), (0, .ref 66), (1, .ref 75)]) (st' := [.ref 66, .ref 66]) (H' := _) (kc' := 0) (ks' := 0) rfl ?_
        refine RQ.get (ci := 9) rfl hT.1 rfl rfl ?_
        refine RQ.blk 1 (pc' := 77) (lv' := [(3, .int (nI (i + 1))), (2, .int (nI no)), (0, .ref 66), (1, .ref 75)]) (st' := [.int (nI (i + 1)), .ref 68, .ref 66]) (H' := _) (kc' := 0) (ks' := 0) rfl ?_
        refine RQ.ialdN (j := i + 1) rfl hT.2.2.1 (by omega) (by decide) ?_
        obtain ⟨u1, u2⟩ := hup (i + 1) (by omega) (by omega) hk0
        refine RQ.call (v := some (.int 1)) (st' := []) rfl rfl rfl rfl rfl rfl (args_v [.int (nI (pa (i + 1)))] [] rfl rfl (Nat.le_of_ble_eq_true rfl) rfl hT.1 (Nat.le_of_ble_eq_true rfl)) (rc_isDirT (a := 65) (k := 66) hT.1 rfl hT.2.1 hki.2.1 (by show nI (kd (pa (i + 1))) = 2; rw [u1]; rfl)) ?_
        refine RQ.brF rfl rfl rfl (by decide) ?_
        refine RQ.blk 3 (pc' := 87) (lv' := [(3, .int (nI (i + 1))), (2, .int (nI no)), (0, .ref 66), (1, .ref 75)]) (st' := [.int 0, .int (nI (i + 1)), .ref 66]) (H' := _) (kc' := 0) (ks' := 0) rfl ?_
        refine RQ.call (v := some (.int (if upF pa 0 201 (i + 1) = 0 then 1 else 0))) (st' := []) rfl rfl rfl rfl rfl rfl (args_v [.int 0, .int (nI (i + 1))] [] rfl rfl (Nat.le_of_ble_eq_true rfl) rfl hT.1 (Nat.le_of_ble_eq_true rfl)) (rc_isWithin (v := i + 1) (t := 0) hT hk (by omega) (by omega)) ?_
        rw [if_pos u2]
        refine RQ.brT rfl rfl rfl (by decide) ?_
        refine RQ.blk 1 (pc' := 98) (lv' := [(3, .int (nI (i + 1) + 1)), (2, .int (nI no)), (0, .ref 66), (1, .ref 75)]) (st' := []) (H' := _) (kc' := 0) (ks' := 0) rfl ?_
        rw [show (nI (i + 1) + 1 : Int32) = nI (i + 1 + 1) from nI_add (i + 1) 1]
        refine RQ.blk 1 (pc' := 55) (lv' := [(3, .int (nI (i + 1 + 1))), (2, .int (nI no)), (0, .ref 66), (1, .ref 75)]) (st' := []) (H' := _) (kc' := 0) (ks' := 0) rfl ?_
        refine RQ.pick (a := [(3, .int (nI (i + 1 + 1))), (2, .int (nI no)), (0, .ref 66), (1, .ref 75)]) [0, 1, 2, 3] [3, 2, 0, 1] rfl rfl (by decide) ?_
        exact ih (i + 1) _ ⟨by omega, rfl⟩ (by omega)
    ·
      refine RQ.blk 2 (pc' := 59) (lv' := [(3, .int (nI (i + 1))), (2, .int (nI no)), (0, .ref 66), (1, .ref 75)]) (st' := [.int 200, .int (nI (i + 1))]) (H' := _) (kc' := 0) (ks' := 0) rfl ?_
      refine RQ.brT rfl rfl rfl (cT_gt (i + 1) 200) ?_
      refine RQ.blk 2 (pc' := 103) (lv' := [(3, .int (nI (i + 1))), (2, .int (nI no)), (0, .ref 66), (1, .ref 75)]) (st' := [.ref 66, .int (nI no)]) (H' := _) (kc' := 0) (ks' := 0) rfl ?_
      refine RQ.get (ci := 9) rfl hT.1 rfl rfl ?_
      refine RQ.brF rfl rfl rfl (cF_ne no no) ?_
      refine RQ.blk 2 (pc' := 114) (lv' := [(3, .int (nI (i + 1))), (2, .int (nI no)), (0, .ref 66), (1, .ref 75)]) (st' := [.int 1]) (H' := _) (kc' := 0) (ks' := 0) rfl ?_
      exact RQ.done (c := 0) (s := 0) rfl rfl rfl rfl rfl
