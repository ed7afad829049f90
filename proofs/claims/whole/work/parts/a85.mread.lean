/-! ===== read, check; reference; written by wip/gen/mread.py ===== -/
theorem neg_lt {a b : Nat} (h : a < b) (hb : b < 2 ^ 30) : nI a - nI b < 0 := by
  rw [Int32.lt_iff_toInt_lt, pk_sub_toInt (by omega) (by omega)]
  show (a : Int) - b < 0
  omega
theorem rc_mread {sc : Nat × (Nat → Int32)} {d : Nat} {H : aH} {fa : Int32} {li cw cl tp rs pr ve us : Int32} {ba bo : Nat} {ps : List aPc} {f off n : Nat} {kd sz : Nat → Nat} {g0 : Nat → Int8} (hm : H[195]? = some (kO 12 (mfs fa li 0 cw cl tp rs pr ve us (nI ps.length) (nI (plen ps)) ba bo))) (h : PcsIs H ps) (hpi : ps.length ≤ 1300) (hhu : plen ps ≤ 40000) (hok : ∀ x ∈ ps, PcOk x) (hK : H[213]? = some (kI 201 (fun j => nI (kd j)))) (hZ : H[217]? = some (kI 201 (fun j => nI (sz j)))) (hO : H[197]? = some (kB 1000 g0)) (hf : f ≤ 200) (ho : off ≤ 16384) (hn : n ≤ 1000) (hkd : kd f = 1) (hsz : sz f ≤ 16384) : RC sc (d + 2) mr_326 [.ref 196, .int (nI f), .int (nI off), .int (nI n)] H (.inl (some (.int (nI (min n (sz f - off)))))) ((H.set 197 (kB 1000 (fun q => if q < (min n (sz f - off)) then byG ps f (off + q) else g0 q))).set 195 (kO 12 (mfs 0 li 0 cw cl tp (nI (min n (sz f - off))) pr ve us (nI ps.length) (nI (plen ps)) ba bo))) 0 0 := by
  refine RC.of ?_
  generalize hr : (min n (sz f - off)) = r
  have hr9 : r ≤ 1000 ∧ (0 < r → off + r ≤ 16384) := by omega
  have main : ∀ z : Int32, RQ sc (d + 2) mr_326 104 [(6, .int (nI 0)), (0, .ref 196), (1, .int (nI f)), (2, .int (nI off)), (3, .int (nI n)), (4, .int z), (5, .int (nI r))] [] (H.set 195 (kO 12 (mfs 0 li 0 cw cl tp rs pr ve us (nI ps.length) (nI (plen ps)) ba bo))) 0 0 (fun x => x = (.inl (some (.int (nI r))), ((H.set 197 (kB 1000 (fun q => if q < r then byG ps f (off + q) else g0 q))).set 195 (kO 12 (mfs 0 li 0 cw cl tp (nI r) pr ve us (nI ps.length) (nI (plen ps)) ba bo))), 0, 0)) := by
    intro z
    refine RQ.while (S := Nat) (pc := 104) (fun k H' => k ≤ r ∧ H' = ((H.set 195 (kO 12 (mfs 0 li 0 cw cl tp rs pr ve us (nI ps.length) (nI (plen ps)) ba bo))).set 197 (kB 1000 (fun q => if q < k then byG ps f (off + q) else g0 q)))) (fun k => [(6, .int (nI k)), (0, .ref 196), (1, .int (nI f)), (2, .int (nI off)), (3, .int (nI n)), (4, .int z), (5, .int (nI r))]) (fun k => r - k) ?_ 0 _ ⟨Nat.zero_le _, ?_⟩
    rotate_left
    · have e : (fun q => if q < 0 then byG ps f (off + q) else g0 q) = g0 := by funext q; exact if_neg (by omega)
      rw [e, set_self ((set_far (by decide)).trans hO)]
    rintro k H1 ⟨hk, e⟩ ih
    rw [e]
    have hm1 : ((H.set 195 (kO 12 (mfs 0 li 0 cw cl tp rs pr ve us (nI ps.length) (nI (plen ps)) ba bo))).set 197 (kB 1000 (fun q => if q < k then byG ps f (off + q) else g0 q)))[195]? = _ := (set_far (by decide)).trans (get_set hm)
    have hP1 : PcsIs ((H.set 195 (kO 12 (mfs 0 li 0 cw cl tp rs pr ve us (nI ps.length) (nI (plen ps)) ba bo))).set 197 (kB 1000 (fun q => if q < k then byG ps f (off + q) else g0 q))) ps := h.far (fun a a1 a2 => (set_far (by omega)).trans (set_far (by omega)))
    have hO1 : ((H.set 195 (kO 12 (mfs 0 li 0 cw cl tp rs pr ve us (nI ps.length) (nI (plen ps)) ba bo))).set 197 (kB 1000 (fun q => if q < k then byG ps f (off + q) else g0 q)))[197]? = _ := get_set ((set_far (by decide)).trans hO)
    by_cases hlt : k < r
    ·
      refine RQ.blk 2 (pc' := 108) (lv' := [(6, .int (nI k)), (0, .ref 196), (1, .int (nI f)), (2, .int (nI off)), (3, .int (nI n)), (4, .int z), (5, .int (nI r))]) (st' := [.int (nI r), .int (nI k)]) (H' := _) (kc' := 0) (ks' := 0) rfl ?_
      refine RQ.brF rfl rfl rfl (cF_ge k r) ?_
      refine RQ.blk 1 (pc' := 112) (lv' := [(6, .int (nI k)), (0, .ref 196), (1, .int (nI f)), (2, .int (nI off)), (3, .int (nI n)), (4, .int z), (5, .int (nI r))]) (st' := [.ref 196]) (H' := _) (kc' := 0) (ks' := 0) rfl ?_
      refine RQ.get (ci := 12) rfl hm1 rfl rfl ?_
      refine RQ.blk 6 (pc' := 123) (lv' := [(6, .int (nI k)), (0, .ref 196), (1, .int (nI f)), (2, .int (nI off)), (3, .int (nI n)), (4, .int z), (5, .int (nI r))]) (st' := [.int (nI off + nI k), .int (nI f), .ref 196, .int (nI k), .ref 198]) (H' := _) (kc' := 0) (ks' := 0) rfl ?_
      rw [show (nI off + nI k : Int32) = nI (off + k) from nI_add off k]
      refine RQ.call (v := some (.int ((byG ps f (off + k)).toInt32))) (st' := [.int (nI k), .ref 198]) rfl rfl rfl rfl rfl rfl (args_v [.int (nI (off + k)), .int (nI f)] [.int (nI k), .ref 198] rfl rfl (Nat.le_of_ble_eq_true rfl) rfl hm1 (Nat.le_of_ble_eq_true rfl)) (rc_byteOf (d := d) hm1 hP1 hpi hhu hok hf (show off + k ≤ 16384 by omega)) ?_
      refine RQ.blk 1 (pc' := 127) (lv' := [(6, .int (nI k)), (0, .ref 196), (1, .int (nI f)), (2, .int (nI off)), (3, .int (nI n)), (4, .int z), (5, .int (nI r))]) (st' := [.int (((byG ps f (off + k)).toInt32).toInt8.toInt32), .int (nI k), .ref 198]) (H' := _) (kc' := 0) (ks' := 0) rfl ?_
      refine RQ.bastN (j := k) rfl hO1 (by omega) (by decide) ?_
      rw [set_set]
      have hfn : va_up (fun q => if q < k then byG ps f (off + q) else g0 q) k (((byG ps f (off + k)).toInt32).toInt8.toInt32.toInt8) = (fun q => if q < (k + 1) then byG ps f (off + q) else g0 q) := by
        funext q
        by_cases e : q = k
        · rw [e, up_at, if_pos (by omega), Int8.toInt8_toInt32, Int8.toInt8_toInt32]
        · rw [up_ne e]
          by_cases e2 : q < k
          · rw [if_pos e2, if_pos (by omega)]
          · rw [if_neg e2, if_neg (by omega)]
      rw [hfn]
      refine RQ.blk 1 (pc' := 131) (lv' := [(6, .int (nI k + 1)), (0, .ref 196), (1, .int (nI f)), (2, .int (nI off)), (3, .int (nI n)), (4, .int z), (5, .int (nI r))]) (st' := []) (H' := _) (kc' := 0) (ks' := 0) rfl ?_
      rw [show (nI k + 1 : Int32) = nI (k + 1) from nI_add k 1]
      refine RQ.blk 1 (pc' := 104) (lv' := [(6, .int (nI (k + 1))), (0, .ref 196), (1, .int (nI f)), (2, .int (nI off)), (3, .int (nI n)), (4, .int z), (5, .int (nI r))]) (st' := []) (H' := _) (kc' := 0) (ks' := 0) rfl ?_
      exact ih (k + 1) _ ⟨by omega, rfl⟩ (by omega)
    ·
      refine RQ.blk 2 (pc' := 108) (lv' := [(6, .int (nI k)), (0, .ref 196), (1, .int (nI f)), (2, .int (nI off)), (3, .int (nI n)), (4, .int z), (5, .int (nI r))]) (st' := [.int (nI r), .int (nI k)]) (H' := _) (kc' := 0) (ks' := 0) rfl ?_
      refine RQ.brT rfl rfl rfl (cT_ge k r) ?_
      have hke : k = r := by omega
      rw [hke]
      refine RQ.blk 2 (pc' := 137) (lv' := [(6, .int (nI r)), (0, .ref 196), (1, .int (nI f)), (2, .int (nI off)), (3, .int (nI n)), (4, .int z), (5, .int (nI r))]) (st' := [.int (nI r), .ref 196]) (H' := _) (kc' := 0) (ks' := 0) rfl ?_
      refine RQ.put (ci := 12) rfl ((set_far (by decide)).trans (get_set hm)) rfl rfl (Nat.le_of_ble_eq_true rfl) ?_
      refine RQ.blk 1 (pc' := 142) (lv' := [(6, .int (nI r)), (0, .ref 196), (1, .int (nI f)), (2, .int (nI off)), (3, .int (nI n)), (4, .int z), (5, .int (nI r))]) (st' := [.int (nI r)]) (H' := _) (kc' := 0) (ks' := 0) rfl ?_
      exact RQ.done (c := 0) (s := 0) rfl rfl rfl rfl (by rw [List.set_comm _ _ (show 195 ≠ 197 by decide), set_set]; rfl)
  refine RQ.blk 2 (pc' := 2) (lv' := [(0, .ref 196), (1, .int (nI f)), (2, .int (nI off)), (3, .int (nI n))]) (st' := [.int 0, .ref 196]) (H' := _) (kc' := 0) (ks' := 0) rfl ?_
  refine RQ.put (ci := 12) rfl hm rfl rfl (Nat.le_of_ble_eq_true rfl) ?_
  refine RQ.blk 3 (pc' := 10) (lv' := [(0, .ref 196), (1, .int (nI f)), (2, .int (nI off)), (3, .int (nI n))]) (st' := [.int 201, .int (nI f), .ref 196]) (H' := _) (kc' := 0) (ks' := 0) rfl ?_
  refine RQ.call (v := some (.int 0)) (st' := []) rfl rfl rfl rfl rfl rfl (args_v [.int 201, .int (nI f)] [] rfl rfl (Nat.le_of_ble_eq_true rfl) rfl (get_set hm) (Nat.le_of_ble_eq_true rfl)) (rc_out (v := f) (m := 201) (by omega) (by decide)) ?_
  refine RQ.brF rfl rfl rfl (by decide) ?_
  refine RQ.blk 3 (pc' := 21) (lv' := [(0, .ref 196), (1, .int (nI f)), (2, .int (nI off)), (3, .int (nI n))]) (st' := [.int 16385, .int (nI off), .ref 196]) (H' := _) (kc' := 0) (ks' := 0) rfl ?_
  refine RQ.call (v := some (.int 0)) (st' := []) rfl rfl rfl rfl rfl rfl (args_v [.int 16385, .int (nI off)] [] rfl rfl (Nat.le_of_ble_eq_true rfl) rfl (get_set hm) (Nat.le_of_ble_eq_true rfl)) (rc_out (v := off) (m := 16385) (by omega) (by decide)) ?_
  refine RQ.brF rfl rfl rfl (by decide) ?_
  refine RQ.blk 3 (pc' := 32) (lv' := [(0, .ref 196), (1, .int (nI f)), (2, .int (nI off)), (3, .int (nI n))]) (st' := [.int 1001, .int (nI n), .ref 196]) (H' := _) (kc' := 0) (ks' := 0) rfl ?_
  refine RQ.call (v := some (.int 0)) (st' := []) rfl rfl rfl rfl rfl rfl (args_v [.int 1001, .int (nI n)] [] rfl rfl (Nat.le_of_ble_eq_true rfl) rfl (get_set hm) (Nat.le_of_ble_eq_true rfl)) (rc_out (v := n) (m := 1001) (by omega) (by decide)) ?_
  refine RQ.brT rfl rfl rfl (by decide) ?_
  refine RQ.blk 1 (pc' := 45) (lv' := [(0, .ref 196), (1, .int (nI f)), (2, .int (nI off)), (3, .int (nI n))]) (st' := [.ref 196]) (H' := _) (kc' := 0) (ks' := 0) rfl ?_
  refine RQ.get (ci := 12) rfl (get_set hm) rfl rfl ?_
  refine RQ.brT rfl rfl rfl (by decide) ?_
  refine RQ.blk 1 (pc' := 58) (lv' := [(0, .ref 196), (1, .int (nI f)), (2, .int (nI off)), (3, .int (nI n))]) (st' := [.ref 196]) (H' := _) (kc' := 0) (ks' := 0) rfl ?_
  refine RQ.get (ci := 12) rfl (get_set hm) rfl rfl ?_
  refine RQ.blk 1 (pc' := 62) (lv' := [(0, .ref 196), (1, .int (nI f)), (2, .int (nI off)), (3, .int (nI n))]) (st' := [.int (nI f), .ref 214]) (H' := _) (kc' := 0) (ks' := 0) rfl ?_
  refine RQ.ialdN (j := f) rfl ((set_far (by decide)).trans hK) (by omega) (by decide) ?_
  rw [hkd, show nI 1 = 1 from rfl]
  refine RQ.blk 1 (pc' := 64) (lv' := [(0, .ref 196), (1, .int (nI f)), (2, .int (nI off)), (3, .int (nI n))]) (st' := [.int 1, .int 1]) (H' := _) (kc' := 0) (ks' := 0) rfl ?_
  refine RQ.brT rfl rfl rfl (by decide) ?_
  refine RQ.blk 1 (pc' := 74) (lv' := [(0, .ref 196), (1, .int (nI f)), (2, .int (nI off)), (3, .int (nI n))]) (st' := [.ref 196]) (H' := _) (kc' := 0) (ks' := 0) rfl ?_
  refine RQ.get (ci := 12) rfl (get_set hm) rfl rfl ?_
  refine RQ.blk 1 (pc' := 78) (lv' := [(0, .ref 196), (1, .int (nI f)), (2, .int (nI off)), (3, .int (nI n))]) (st' := [.int (nI f), .ref 218]) (H' := _) (kc' := 0) (ks' := 0) rfl ?_
  refine RQ.ialdN (j := f) rfl ((set_far (by decide)).trans hZ) (by omega) (by decide) ?_
  refine RQ.blk 1 (pc' := 80) (lv' := [(0, .ref 196), (1, .int (nI f)), (2, .int (nI off)), (3, .int (nI n))]) (st' := [.int (nI off), .int (nI (sz f))]) (H' := _) (kc' := 0) (ks' := 0) rfl ?_
  by_cases ks : sz f < off
  · refine RQ.blk 3 (pc' := 85) (lv' := [(4, .int (nI (sz f) - nI off)), (0, .ref 196), (1, .int (nI f)), (2, .int (nI off)), (3, .int (nI n))]) (st' := [.int (nI (sz f) - nI off)]) (H' := _) (kc' := 0) (ks' := 0) rfl ?_
    refine RQ.brF rfl rfl rfl (by exact decide_eq_false (Int32.not_le.mpr (neg_lt ks (by omega)))) ?_
    refine RQ.blk 5 (pc' := 104) (lv' := [(6, .int 0), (5, .int 0), (4, .int (nI (sz f) - nI off)), (0, .ref 196), (1, .int (nI f)), (2, .int (nI off)), (3, .int (nI n))]) (st' := []) (H' := _) (kc' := 0) (ks' := 0) rfl ?_
    rw [show r = 0 by omega] at main
    refine RQ.pick (a := [(6, .int 0), (0, .ref 196), (1, .int (nI f)), (2, .int (nI off)), (3, .int (nI n)), (4, .int (nI (sz f) - nI off)), (5, .int 0)]) [0, 3, 4, 5, 6, 2, 1] [6, 5, 4, 0, 1, 2, 3] rfl rfl (by decide) ?_
    rw [show r = 0 by omega]
    exact main _
  · refine RQ.blk 1 (pc' := 81) (lv' := [(0, .ref 196), (1, .int (nI f)), (2, .int (nI off)), (3, .int (nI n))]) (st' := [.int (nI (sz f) - nI off)]) (H' := _) (kc' := 0) (ks' := 0) rfl ?_
    rw [show (nI (sz f) - nI off : Int32) = nI ((sz f) - off) from pk_sub (a := (sz f)) (b := off) (by omega)]
    refine RQ.blk 2 (pc' := 85) (lv' := [(4, .int (nI ((sz f) - off))), (0, .ref 196), (1, .int (nI f)), (2, .int (nI off)), (3, .int (nI n))]) (st' := [.int (nI ((sz f) - off))]) (H' := _) (kc' := 0) (ks' := 0) rfl ?_
    refine RQ.brT rfl rfl rfl (cT_ge (sz f - off) 0) ?_
    refine RQ.blk 3 (pc' := 96) (lv' := [(4, .int (nI ((sz f) - off))), (0, .ref 196), (1, .int (nI f)), (2, .int (nI off)), (3, .int (nI n))]) (st' := [.int (nI ((sz f) - off)), .int (nI n), .ref 196]) (H' := _) (kc' := 0) (ks' := 0) rfl ?_
    refine RQ.call (v := some (.int (nI (min n (sz f - off))))) (st' := []) rfl rfl rfl rfl rfl rfl (args_v [.int (nI ((sz f) - off)), .int (nI n)] [] rfl rfl (Nat.le_of_ble_eq_true rfl) rfl (get_set hm) (Nat.le_of_ble_eq_true rfl)) (rc_mleast (a := n) (b := sz f - off) (by omega) (by omega)) ?_
    rw [hr]
    refine RQ.blk 3 (pc' := 104) (lv' := [(6, .int 0), (5, .int (nI r)), (4, .int (nI ((sz f) - off))), (0, .ref 196), (1, .int (nI f)), (2, .int (nI off)), (3, .int (nI n))]) (st' := []) (H' := _) (kc' := 0) (ks' := 0) rfl ?_
    refine RQ.pick (a := [(6, .int 0), (0, .ref 196), (1, .int (nI f)), (2, .int (nI off)), (3, .int (nI n)), (4, .int (nI ((sz f) - off))), (5, .int (nI r))]) [0, 3, 4, 5, 6, 2, 1] [6, 5, 4, 0, 1, 2, 3] rfl rfl (by decide) ?_
    exact main _
