/-! ===== the versions: one is put in; how many keys; which is seen; class; written by wip/gen/vers7.py ===== -/
/-- k of them moved to the right by one, from p on -/
def shR (f : Nat → Nat) (p k : Nat) : Nat → Nat := fun q => if p + 1 ≤ q ∧ q < p + 1 + k then f (p + (q - (p + 1))) else f q
theorem cpyI_shR {f : Nat → Nat} {p k : Nat} : cpyI (fun j => nI (f j)) p (fun j => nI (f j)) (p + 1) k = fun j => nI (shR f p k j) := by
  funext q
  unfold cpyI shR
  split <;> rfl
theorem ri_insert {sc : Nat × (Nat → Int32)} {a na p j m : Nat} {d N : Nat} {H : aH} {kf : Nat → Int8} {kl mo pl : Nat → Nat} {le : Nat → Option Nat} {al : Nat → Bool} {od sp : Nat → Nat} {sz ss ac : Nat} {g : Nat → Int8} (h : VersAt H N kf kl mo pl le al od sp sz ss ac) (hk : VersOk N kl mo pl le od sp sz ss) (h1 : H[a]? = some (kB na g)) (hna : na < 2 ^ 30) (hj : j + m ≤ na) (ha : ¬ (74 ≤ a ∧ a < 83)) (hss1 : 1 ≤ ss) (hp : p ≤ sz) (hszN : sz < N) (hm : m ≤ 41) : RI sc (d + 1) mr_162 [.ref 75, .int (nI p), .ref (a + 1), .int (nI j), .int (nI m)] H (fun x H' => x = nI (sp (ss - 1)) ∧ VersAt H' N (cpy g j kf ((sp (ss - 1)) * 41) m) (va_up kl (sp (ss - 1)) m) mo pl le al (va_up (shR od p (sz - p)) p (sp (ss - 1))) sp (sz + 1) (ss - 1) ac ∧ ∀ a, ¬ (74 ≤ a ∧ a < 83) → H'[a]? = H[a]?) := by
  have hN := hk.1
  have hsz := hk.2.1
  have hss := hk.2.2.1
  have hslot := hk.2.2.2.2.1 (ss - 1) (by omega)
  refine RI.of ?_
  refine RQ.blk 1 (pc' := 1) (lv' := [(0, .ref 75), (1, .int (nI p)), (2, .ref (a + 1)), (3, .int (nI j)), (4, .int (nI m))]) (st' := [.ref 75]) (H' := _) (kc' := 0) (ks' := 0) rfl ?_
  refine RQ.get (ci := 10) rfl h.1 rfl rfl ?_
  refine RQ.brF rfl rfl rfl (cF_le ss 0) ?_
  refine RQ.blk 1 (pc' := 8) (lv' := [(0, .ref 75), (1, .int (nI p)), (2, .ref (a + 1)), (3, .int (nI j)), (4, .int (nI m))]) (st' := [.int (nI p)]) (H' := _) (kc' := 0) (ks' := 0) rfl ?_
  refine RQ.brF rfl rfl rfl (cF_lt p 0) ?_
  refine RQ.blk 2 (pc' := 13) (lv' := [(0, .ref 75), (1, .int (nI p)), (2, .ref (a + 1)), (3, .int (nI j)), (4, .int (nI m))]) (st' := [.ref 75, .int (nI p)]) (H' := _) (kc' := 0) (ks' := 0) rfl ?_
  refine RQ.get (ci := 10) rfl h.1 rfl rfl ?_
  refine RQ.brF rfl rfl rfl (cF_gt p sz) ?_
  refine RQ.blk 1 (pc' := 20) (lv' := [(0, .ref 75), (1, .int (nI p)), (2, .ref (a + 1)), (3, .int (nI j)), (4, .int (nI m))]) (st' := [.ref 75]) (H' := _) (kc' := 0) (ks' := 0) rfl ?_
  refine RQ.get (ci := 10) rfl h.1 rfl rfl ?_
  refine RQ.blk 1 (pc' := 24) (lv' := [(0, .ref 75), (1, .int (nI p)), (2, .ref (a + 1)), (3, .int (nI j)), (4, .int (nI m))]) (st' := [.ref 75, .int (nI sz)]) (H' := _) (kc' := 0) (ks' := 0) rfl ?_
  refine RQ.get (ci := 10) rfl h.1 rfl rfl ?_
  refine RQ.len rfl h.2.2.2.2.2.2.2.1 rfl ?_
  refine RQ.brF rfl rfl rfl (cF_ge sz N) ?_
  refine RQ.blk 2 (pc' := 35) (lv' := [(0, .ref 75), (1, .int (nI p)), (2, .ref (a + 1)), (3, .int (nI j)), (4, .int (nI m))]) (st' := [.int 41, .int (nI m)]) (H' := _) (kc' := 0) (ks' := 0) rfl ?_
  refine RQ.brT rfl rfl rfl (cT_le m 41) ?_
  refine RQ.blk 2 (pc' := 42) (lv' := [(0, .ref 75), (1, .int (nI p)), (2, .ref (a + 1)), (3, .int (nI j)), (4, .int (nI m))]) (st' := [.ref 75, .ref 75]) (H' := _) (kc' := 0) (ks' := 0) rfl ?_
  refine RQ.get (ci := 10) rfl h.1 rfl rfl ?_
  refine RQ.blk 2 (pc' := 47) (lv' := [(0, .ref 75), (1, .int (nI p)), (2, .ref (a + 1)), (3, .int (nI j)), (4, .int (nI m))]) (st' := [.int (nI ss - 1), .ref 75]) (H' := _) (kc' := 0) (ks' := 0) rfl ?_
  rw [show (nI ss - 1 : Int32) = nI (ss - 1) from pk_sub (a := ss) (b := 1) (by omega)]
  refine RQ.put (ci := 10) rfl h.1 rfl rfl (Nat.le_of_ble_eq_true rfl) ?_
  refine RQ.blk 1 (pc' := 51) (lv' := [(0, .ref 75), (1, .int (nI p)), (2, .ref (a + 1)), (3, .int (nI j)), (4, .int (nI m))]) (st' := [.ref 75]) (H' := _) (kc' := 0) (ks' := 0) rfl ?_
  refine RQ.get (ci := 10) rfl (get_set h.1) rfl rfl ?_
  refine RQ.blk 1 (pc' := 55) (lv' := [(0, .ref 75), (1, .int (nI p)), (2, .ref (a + 1)), (3, .int (nI j)), (4, .int (nI m))]) (st' := [.ref 75, .ref 83]) (H' := _) (kc' := 0) (ks' := 0) rfl ?_
  refine RQ.get (ci := 10) rfl (get_set h.1) rfl rfl ?_
  refine RQ.ialdN (j := ss - 1) rfl ((set_far (by decide)).trans h.2.2.2.2.2.2.2.2) (by omega) (by omega) ?_
  refine RQ.blk 2 (pc' := 62) (lv' := [(5, .int (nI (sp (ss - 1)))), (0, .ref 75), (1, .int (nI p)), (2, .ref (a + 1)), (3, .int (nI j)), (4, .int (nI m))]) (st' := [.ref 75]) (H' := _) (kc' := 0) (ks' := 0) rfl ?_
  refine RQ.get (ci := 10) rfl (get_set h.1) rfl rfl ?_
  refine RQ.blk 2 (pc' := 67) (lv' := [(5, .int (nI (sp (ss - 1)))), (0, .ref 75), (1, .int (nI p)), (2, .ref (a + 1)), (3, .int (nI j)), (4, .int (nI m))]) (st' := [.ref 75, .int (nI p), .ref 82]) (H' := _) (kc' := 0) (ks' := 0) rfl ?_
  refine RQ.get (ci := 10) rfl (get_set h.1) rfl rfl ?_
  refine RQ.blk 3 (pc' := 73) (lv' := [(5, .int (nI (sp (ss - 1)))), (0, .ref 75), (1, .int (nI p)), (2, .ref (a + 1)), (3, .int (nI j)), (4, .int (nI m))]) (st' := [.int (nI p + 1), .ref 82, .int (nI p), .ref 82]) (H' := _) (kc' := 0) (ks' := 0) rfl ?_
  rw [show (nI p + 1 : Int32) = nI (p + 1) from nI_add p 1]
  refine RQ.blk 1 (pc' := 74) (lv' := [(5, .int (nI (sp (ss - 1)))), (0, .ref 75), (1, .int (nI p)), (2, .ref (a + 1)), (3, .int (nI j)), (4, .int (nI m))]) (st' := [.ref 75, .int (nI (p + 1)), .ref 82, .int (nI p), .ref 82]) (H' := _) (kc' := 0) (ks' := 0) rfl ?_
  refine RQ.get (ci := 10) rfl (get_set h.1) rfl rfl ?_
  refine RQ.blk 2 (pc' := 79) (lv' := [(5, .int (nI (sp (ss - 1)))), (0, .ref 75), (1, .int (nI p)), (2, .ref (a + 1)), (3, .int (nI j)), (4, .int (nI m))]) (st' := [.int (nI sz - nI p), .int (nI (p + 1)), .ref 82, .int (nI p), .ref 82]) (H' := _) (kc' := 0) (ks' := 0) rfl ?_
  rw [show (nI sz - nI p : Int32) = nI (sz - p) from pk_sub (a := sz) (b := p) (by omega)]
  refine RQ.of (fun _ => RP.cpyI (n := sz - p) (sp := p) (dp := p + 1) rfl ((set_far (by decide)).trans h.2.2.2.2.2.2.2.1) ((set_far (by decide)).trans h.2.2.2.2.2.2.2.1) (by omega) (by omega) (by omega) (by omega) (Nat.le_of_ble_eq_true rfl)) ?_
  rw [cpyI_shR]
  refine RQ.blk 1 (pc' := 83) (lv' := [(5, .int (nI (sp (ss - 1)))), (0, .ref 75), (1, .int (nI p)), (2, .ref (a + 1)), (3, .int (nI j)), (4, .int (nI m))]) (st' := [.ref 75]) (H' := _) (kc' := 0) (ks' := 0) rfl ?_
  refine RQ.get (ci := 10) rfl ((set_far (by decide)).trans (get_set h.1)) rfl rfl ?_
  refine RQ.blk 2 (pc' := 89) (lv' := [(5, .int (nI (sp (ss - 1)))), (0, .ref 75), (1, .int (nI p)), (2, .ref (a + 1)), (3, .int (nI j)), (4, .int (nI m))]) (st' := [.int (nI (sp (ss - 1))), .int (nI p), .ref 82]) (H' := _) (kc' := 0) (ks' := 0) rfl ?_
  refine RQ.iastN (j := p) rfl (get_set ((set_far (by decide)).trans h.2.2.2.2.2.2.2.1)) (by omega) (by omega) ?_
  refine RQ.blk 2 (pc' := 92) (lv' := [(5, .int (nI (sp (ss - 1)))), (0, .ref 75), (1, .int (nI p)), (2, .ref (a + 1)), (3, .int (nI j)), (4, .int (nI m))]) (st' := [.ref 75, .ref 75]) (H' := _) (kc' := 0) (ks' := 0) rfl ?_
  refine RQ.get (ci := 10) rfl ((set_far (by decide)).trans ((set_far (by decide)).trans (get_set h.1))) rfl rfl ?_
  refine RQ.blk 2 (pc' := 97) (lv' := [(5, .int (nI (sp (ss - 1)))), (0, .ref 75), (1, .int (nI p)), (2, .ref (a + 1)), (3, .int (nI j)), (4, .int (nI m))]) (st' := [.int (nI sz + 1), .ref 75]) (H' := _) (kc' := 0) (ks' := 0) rfl ?_
  rw [show (nI sz + 1 : Int32) = nI (sz + 1) from nI_add sz 1]
  refine RQ.put (ci := 10) rfl ((set_far (by decide)).trans ((set_far (by decide)).trans (get_set h.1))) rfl rfl (Nat.le_of_ble_eq_true rfl) ?_
  refine RQ.blk 3 (pc' := 103) (lv' := [(5, .int (nI (sp (ss - 1)))), (0, .ref 75), (1, .int (nI p)), (2, .ref (a + 1)), (3, .int (nI j)), (4, .int (nI m))]) (st' := [.ref 75, .int (nI j), .ref (a + 1)]) (H' := _) (kc' := 0) (ks' := 0) rfl ?_
  refine RQ.get (ci := 10) rfl (get_set ((set_far (by decide)).trans ((set_far (by decide)).trans (get_set h.1)))) rfl rfl ?_
  refine RQ.blk 3 (pc' := 111) (lv' := [(5, .int (nI (sp (ss - 1)))), (0, .ref 75), (1, .int (nI p)), (2, .ref (a + 1)), (3, .int (nI j)), (4, .int (nI m))]) (st' := [.int (nI (sp (ss - 1)) * 41), .ref 76, .int (nI j), .ref (a + 1)]) (H' := _) (kc' := 0) (ks' := 0) rfl ?_
  rw [show (nI (sp (ss - 1)) * 41 : Int32) = nI ((sp (ss - 1)) * 41) from pk_mul (sp (ss - 1)) 41]
  refine RQ.blk 1 (pc' := 113) (lv' := [(5, .int (nI (sp (ss - 1)))), (0, .ref 75), (1, .int (nI p)), (2, .ref (a + 1)), (3, .int (nI j)), (4, .int (nI m))]) (st' := [.int (nI m), .int (nI ((sp (ss - 1)) * 41)), .ref 76, .int (nI j), .ref (a + 1)]) (H' := _) (kc' := 0) (ks' := 0) rfl ?_
  refine RQ.call (v := none) (st' := []) rfl rfl rfl rfl rfl rfl rfl (rc_copy (i := j) (j := sp (ss - 1) * 41) (k := m) ((set_far (by omega)).trans ((set_far (by omega)).trans ((set_far (by omega)).trans ((set_far (by omega)).trans h1)))) ((set_far (by decide)).trans ((set_far (by decide)).trans ((set_far (by decide)).trans ((set_far (by decide)).trans h.2.1)))) (by omega) (by omega) hj (by omega)) ?_
  refine RQ.blk 1 (pc' := 117) (lv' := [(5, .int (nI (sp (ss - 1)))), (0, .ref 75), (1, .int (nI p)), (2, .ref (a + 1)), (3, .int (nI j)), (4, .int (nI m))]) (st' := [.ref 75]) (H' := _) (kc' := 0) (ks' := 0) rfl ?_
  refine RQ.get (ci := 10) rfl ((set_far (by decide)).trans (get_set ((set_far (by decide)).trans ((set_far (by decide)).trans (get_set h.1))))) rfl rfl ?_
  refine RQ.blk 2 (pc' := 124) (lv' := [(5, .int (nI (sp (ss - 1)))), (0, .ref 75), (1, .int (nI p)), (2, .ref (a + 1)), (3, .int (nI j)), (4, .int (nI m))]) (st' := [.int (nI m), .int (nI (sp (ss - 1))), .ref 77]) (H' := _) (kc' := 0) (ks' := 0) rfl ?_
  refine RQ.iastN (j := sp (ss - 1)) rfl ((set_far (by decide)).trans ((set_far (by decide)).trans ((set_far (by decide)).trans ((set_far (by decide)).trans ((set_far (by decide)).trans h.2.2.1))))) (by omega) (by omega) ?_
  refine RQ.blk 1 (pc' := 127) (lv' := [(5, .int (nI (sp (ss - 1)))), (0, .ref 75), (1, .int (nI p)), (2, .ref (a + 1)), (3, .int (nI j)), (4, .int (nI m))]) (st' := [.int (nI (sp (ss - 1)))]) (H' := _) (kc' := 0) (ks' := 0) rfl ?_
  exact RQ.done (c := 0) (s := 0) rfl rfl rfl rfl ⟨_, _, rfl, rfl, ⟨(set_far (by decide)).trans ((set_far (by decide)).trans (get_set ((set_far (by decide)).trans ((set_far (by decide)).trans (get_set h.1))))), (set_far (by decide)).trans (get_set ((set_far (by decide)).trans ((set_far (by decide)).trans ((set_far (by decide)).trans ((set_far (by decide)).trans h.2.1))))), (get_set ((set_far (by decide)).trans ((set_far (by decide)).trans ((set_far (by decide)).trans ((set_far (by decide)).trans ((set_far (by decide)).trans h.2.2.1)))))).trans (congrArg (fun f => some (kI N f)) up_nI), (set_far (by decide)).trans ((set_far (by decide)).trans ((set_far (by decide)).trans ((set_far (by decide)).trans ((set_far (by decide)).trans ((set_far (by decide)).trans h.2.2.2.1))))), (set_far (by decide)).trans ((set_far (by decide)).trans ((set_far (by decide)).trans ((set_far (by decide)).trans ((set_far (by decide)).trans ((set_far (by decide)).trans h.2.2.2.2.1))))), (set_far (by decide)).trans ((set_far (by decide)).trans ((set_far (by decide)).trans ((set_far (by decide)).trans ((set_far (by decide)).trans ((set_far (by decide)).trans h.2.2.2.2.2.1))))), (set_far (by decide)).trans ((set_far (by decide)).trans ((set_far (by decide)).trans ((set_far (by decide)).trans ((set_far (by decide)).trans ((set_far (by decide)).trans h.2.2.2.2.2.2.1))))), ((set_far (by decide)).trans ((set_far (by decide)).trans ((set_far (by decide)).trans (get_set (get_set ((set_far (by decide)).trans h.2.2.2.2.2.2.2.1)))))).trans (congrArg (fun f => some (kI N f)) up_nI), (set_far (by decide)).trans ((set_far (by decide)).trans ((set_far (by decide)).trans ((set_far (by decide)).trans ((set_far (by decide)).trans ((set_far (by decide)).trans h.2.2.2.2.2.2.2.2)))))⟩, fun a ha => (set_far (by omega)).trans ((set_far (by omega)).trans ((set_far (by omega)).trans ((set_far (by omega)).trans ((set_far (by omega)).trans (set_far (by omega))))))⟩
theorem nwB_iff {kf : Nat → Int8} {kl od : Nat → Nat} : ∀ (p : Nat), (p = 0 ∨ ¬ sl kf (od (p - 1) * 41) (kl (od (p - 1))) = sl kf (od p * 41) (kl (od p))) ↔ nwB kf kl od p = true
  | 0 => ⟨fun _ => rfl, fun _ => Or.inl rfl⟩
  | p + 1 => by
    rw [nwB]
    show (p + 1 = 0 ∨ ¬ sl kf (od p * 41) (kl (od p)) = sl kf (od (p + 1) * 41) (kl (od (p + 1)))) ↔ _
    constructor
    · intro h
      rw [decide_eq_false (h.resolve_left (by omega))]
      rfl
    · intro h
      refine Or.inr (fun e => ?_)
      rw [decide_eq_true e] at h
      cases h
/-- the newest version of a user's key, and a value -/
def ukB (kf : Nat → Int8) (kl : Nat → Nat) (le : Nat → Option Nat) (od : Nat → Nat) (p : Nat) : Bool := decide (ub (kf (od p * 41)) = 0) && !(decide (le (od p) = none)) && nwB kf kl od p
theorem rc_userKeys {sc : Nat × (Nat → Int32)} {d N : Nat} {H : aH} {kf : Nat → Int8} {kl mo pl : Nat → Nat} {le : Nat → Option Nat} {al : Nat → Bool} {od sp : Nat → Nat} {sz ss ac : Nat} (h : VersAt H N kf kl mo pl le al od sp sz ss ac) (hk : VersOk N kl mo pl le od sp sz ss) : RC sc (d + 3) mr_198 [.ref 75] H (.inl (some (.int (nI (cntB (ukB kf kl le od) sz))))) H 0 0 := by
  have hN := hk.1
  have hsz := hk.2.1
  have hss := hk.2.2.1
  refine RP.blk 4 (pc' := 4) (lv' := [(2, .int 0), (1, .int 0), (0, .ref 75)]) (st' := []) (H' := _) (kc' := 0) (ks' := 0) rfl ?_
  have start : RP sc (d + 3) mr_198 4 [(2, .int (nI 0)), (1, .int (nI (cntB (ukB kf kl le od) 0))), (0, .ref 75)] [] H 0 0 (.inl (some (.int (nI (cntB (ukB kf kl le od) sz)))), H, 0, 0) := by
    refine RP.loop 4 (fun p => [(2, .int (nI p)), (1, .int (nI (cntB (ukB kf kl le od) p))), (0, .ref 75)]) [] (fun _ => H) 0 0 sz (fun p hp kk => ?_) ?_
    · have hod := hk.2.2.2.1 p hp
      have hk_o := hk.2.2.2.2.2 _ hod
      have e1 : ukB kf kl le od p = true → cntB (ukB kf kl le od) (p + 1) = cntB (ukB kf kl le od) p + 1 := fun h => by rw [cntB, if_pos h]
      have e0 : ukB kf kl le od p = false → cntB (ukB kf kl le od) (p + 1) = cntB (ukB kf kl le od) p := fun h => by rw [cntB, h]; rfl
      refine RP.blk 2 (pc' := 6) (lv' := [(2, .int (nI p)), (1, .int (nI (cntB (ukB kf kl le od) p))), (0, .ref 75)]) (st' := [.ref 75, .int (nI p)]) (H' := _) (kc' := 0) (ks' := 0) rfl ?_
      refine RP.get (ci := 10) rfl h.1 rfl rfl ?_
      refine RP.brF rfl rfl rfl (cF_ge p sz) ?_
      refine RP.blk 2 (pc' := 14) (lv' := [(2, .int (nI p)), (1, .int (nI (cntB (ukB kf kl le od) p))), (0, .ref 75)]) (st' := [.ref 75, .ref 75]) (H' := _) (kc' := 0) (ks' := 0) rfl ?_
      refine RP.get (ci := 10) rfl h.1 rfl rfl ?_
      refine RP.blk 1 (pc' := 18) (lv' := [(2, .int (nI p)), (1, .int (nI (cntB (ukB kf kl le od) p))), (0, .ref 75)]) (st' := [.int (nI p), .ref 82, .ref 75]) (H' := _) (kc' := 0) (ks' := 0) rfl ?_
      refine RP.ialdN (j := p) rfl h.2.2.2.2.2.2.2.1 (by omega) (by omega) ?_
      by_cases hu : ub (kf (od p * 41)) = 0
      ·
        refine RP.call (v := some (.int 1)) (st' := []) rfl rfl rfl rfl rfl rfl (args_v [.int (nI (od p))] [] rfl rfl (Nat.le_of_ble_eq_true rfl) rfl h.1 (Nat.le_of_ble_eq_true rfl)) (rc_isUserT h hk hod hu) ?_
        refine RP.brF rfl rfl rfl (by decide) ?_
        refine RP.blk 1 (pc' := 26) (lv' := [(2, .int (nI p)), (1, .int (nI (cntB (ukB kf kl le od) p))), (0, .ref 75)]) (st' := [.ref 75]) (H' := _) (kc' := 0) (ks' := 0) rfl ?_
        refine RP.get (ci := 10) rfl h.1 rfl rfl ?_
        refine RP.blk 1 (pc' := 30) (lv' := [(2, .int (nI p)), (1, .int (nI (cntB (ukB kf kl le od) p))), (0, .ref 75)]) (st' := [.ref 75, .ref 80]) (H' := _) (kc' := 0) (ks' := 0) rfl ?_
        refine RP.get (ci := 10) rfl h.1 rfl rfl ?_
        refine RP.blk 1 (pc' := 34) (lv' := [(2, .int (nI p)), (1, .int (nI (cntB (ukB kf kl le od) p))), (0, .ref 75)]) (st' := [.int (nI p), .ref 82, .ref 80]) (H' := _) (kc' := 0) (ks' := 0) rfl ?_
        refine RP.ialdN (j := p) rfl h.2.2.2.2.2.2.2.1 (by omega) (by omega) ?_
        refine RP.ialdN (j := od p) rfl h.2.2.2.2.2.1 (by omega) (by omega) ?_
        by_cases hl : le (od p) = none
        · rw [e0 (by unfold ukB; rw [decide_eq_true hl, decide_eq_true hu]; rfl)] at kk
          refine RP.brT rfl rfl rfl (decide_eq_true ((lI_neg (by omega)).mpr hl)) ?_
          refine RP.blk 1 (pc' := 53) (lv' := [(2, .int (nI p + 1)), (1, .int (nI (cntB (ukB kf kl le od) p))), (0, .ref 75)]) (st' := []) (H' := _) (kc' := 0) (ks' := 0) rfl ?_
          rw [show (nI p + 1 : Int32) = nI (p + 1) from nI_add p 1]
          refine RP.blk 1 (pc' := 4) (lv' := [(2, .int (nI (p + 1))), (1, .int (nI (cntB (ukB kf kl le od) p))), (0, .ref 75)]) (st' := []) (H' := _) (kc' := 0) (ks' := 0) rfl ?_
          exact kk
        ·
          refine RP.brF rfl rfl rfl (decide_eq_false (fun e => hl ((lI_neg (by omega)).mp e))) ?_
          refine RP.blk 2 (pc' := 41) (lv' := [(2, .int (nI p)), (1, .int (nI (cntB (ukB kf kl le od) p))), (0, .ref 75)]) (st' := [.int (nI p), .ref 75]) (H' := _) (kc' := 0) (ks' := 0) rfl ?_
          refine RP.call (v := some (.int (if p = 0 ∨ ¬ sl kf (od (p - 1) * 41) (kl (od (p - 1))) = sl kf (od p * 41) (kl (od p)) then 1 else 0))) (st' := []) rfl rfl rfl rfl rfl rfl (args_v [.int (nI p)] [] rfl rfl (Nat.le_of_ble_eq_true rfl) rfl h.1 (Nat.le_of_ble_eq_true rfl)) (rc_isNewest h hk hp) ?_
          cases hw : nwB kf kl od p with
          | true =>
            rw [e1 (by unfold ukB; rw [decide_eq_false hl, decide_eq_true hu, hw]; rfl)] at kk
            rw [if_pos ((nwB_iff p).mpr hw)]
            refine RP.brF rfl rfl rfl (by decide) ?_
            refine RP.blk 1 (pc' := 50) (lv' := [(1, .int (nI (cntB (ukB kf kl le od) p) + 1)), (2, .int (nI p)), (0, .ref 75)]) (st' := []) (H' := _) (kc' := 0) (ks' := 0) rfl ?_
            rw [show (nI (cntB (ukB kf kl le od) p) + 1 : Int32) = nI (cntB (ukB kf kl le od) p + 1) from nI_add (cntB (ukB kf kl le od) p) 1]
            refine RP.blk 1 (pc' := 53) (lv' := [(2, .int (nI p + 1)), (1, .int (nI (cntB (ukB kf kl le od) p + 1))), (0, .ref 75)]) (st' := []) (H' := _) (kc' := 0) (ks' := 0) rfl ?_
            rw [show (nI p + 1 : Int32) = nI (p + 1) from nI_add p 1]
            refine RP.blk 1 (pc' := 4) (lv' := [(2, .int (nI (p + 1))), (1, .int (nI (cntB (ukB kf kl le od) p + 1))), (0, .ref 75)]) (st' := []) (H' := _) (kc' := 0) (ks' := 0) rfl ?_
            exact kk
          | false =>
            rw [e0 (by unfold ukB; rw [decide_eq_false hl, decide_eq_true hu, hw]; rfl)] at kk
            rw [if_neg (fun e2 => by rw [(nwB_iff p).mp e2] at hw; cases hw)]
            refine RP.brT rfl rfl rfl (by decide) ?_
            refine RP.blk 1 (pc' := 53) (lv' := [(2, .int (nI p + 1)), (1, .int (nI (cntB (ukB kf kl le od) p))), (0, .ref 75)]) (st' := []) (H' := _) (kc' := 0) (ks' := 0) rfl ?_
            rw [show (nI p + 1 : Int32) = nI (p + 1) from nI_add p 1]
            refine RP.blk 1 (pc' := 4) (lv' := [(2, .int (nI (p + 1))), (1, .int (nI (cntB (ukB kf kl le od) p))), (0, .ref 75)]) (st' := []) (H' := _) (kc' := 0) (ks' := 0) rfl ?_
            exact kk
      · rw [e0 (by unfold ukB; rw [decide_eq_false hu]; rfl)] at kk
        refine RP.call (v := some (.int 0)) (st' := []) rfl rfl rfl rfl rfl rfl (args_v [.int (nI (od p))] [] rfl rfl (Nat.le_of_ble_eq_true rfl) rfl h.1 (Nat.le_of_ble_eq_true rfl)) (rc_isUserF h hk hod hu) ?_
        refine RP.brT rfl rfl rfl (by decide) ?_
        refine RP.blk 1 (pc' := 53) (lv' := [(2, .int (nI p + 1)), (1, .int (nI (cntB (ukB kf kl le od) p))), (0, .ref 75)]) (st' := []) (H' := _) (kc' := 0) (ks' := 0) rfl ?_
        rw [show (nI p + 1 : Int32) = nI (p + 1) from nI_add p 1]
        refine RP.blk 1 (pc' := 4) (lv' := [(2, .int (nI (p + 1))), (1, .int (nI (cntB (ukB kf kl le od) p))), (0, .ref 75)]) (st' := []) (H' := _) (kc' := 0) (ks' := 0) rfl ?_
        exact kk
    ·
      refine RP.blk 2 (pc' := 6) (lv' := [(2, .int (nI sz)), (1, .int (nI (cntB (ukB kf kl le od) sz))), (0, .ref 75)]) (st' := [.ref 75, .int (nI sz)]) (H' := _) (kc' := 0) (ks' := 0) rfl ?_
      refine RP.get (ci := 10) rfl h.1 rfl rfl ?_
      refine RP.brT rfl rfl rfl (cT_ge sz sz) ?_
      refine RP.blk 1 (pc' := 57) (lv' := [(2, .int (nI sz)), (1, .int (nI (cntB (ukB kf kl le od) sz))), (0, .ref 75)]) (st' := [.int (nI (cntB (ukB kf kl le od) sz))]) (H' := _) (kc' := 0) (ks' := 0) rfl ?_
      exact RP.done (c := 0) (s := 0) rfl rfl rfl rfl
  exact start
