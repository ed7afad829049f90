/-! ===== a byte of a file; how much a write adds; reference; written by wip/gen/mgrow.py ===== -/
/-- a byte of a file -/
def byG (ps : List aPc) (f off : Nat) : Int8 := match (pcI ps f (off / 512)).bind (fun j => ps[j]?) with
  | some y => (y.2.2[off % 512]?).getD 0
  | none => 0
def grE (ps : List aPc) (f e i : Nat) : Nat := match (pcI ps f i).bind (fun j => ps[j]?) with
  | some y => min 512 (e - 512 * i) - y.2.2.length
  | none => 27 + min 512 (e - 512 * i)
def grS (ps : List aPc) (f e a : Nat) : Nat → Nat
  | 0 => 0
  | m + 1 => grS ps f e a m + grE ps f e (a + m)
theorem rc_byteOf {sc : Nat × (Nat → Int32)} {d : Nat} {H : aH} {fa li dn cw cl tp rs pr ve us : Int32} {ba bo : Nat} {ps : List aPc} {f off : Nat} (hm : H[195]? = some (kO 12 (mfs fa li dn cw cl tp rs pr ve us (nI ps.length) (nI (plen ps)) ba bo))) (h : PcsIs H ps) (hpi : ps.length ≤ 1300) (hhu : plen ps ≤ 40000) (hok : ∀ x ∈ ps, PcOk x) (hf : f ≤ 200) (ho : off ≤ 16384) : RC sc (d + 1) mr_327 [.ref 196, .int (nI f), .int (nI off)] H (.inl (some (.int (byG ps f off).toInt32))) H 0 0 := by
  refine RC.of ?_
  obtain ⟨pf, px, pz, pa, hd, hA, hE, hD⟩ := id h
  have hpc := rc_mpieceL (sc := sc) (d := d) (x := off / 512) hm h hpi hok hf (by omega)
  cases hj : pcI ps f (off / 512) with
  | none =>
    rw [hj] at hpc
    have hb : byG ps f off = 0 := by unfold byG; rw [hj]; rfl
    refine RQ.blk 5 (pc' := 7) (lv' := [(0, .ref 196), (1, .int (nI f)), (2, .int (nI off))]) (st' := [.int (nI off / 512), .int (nI f), .ref 196]) (H' := _) (kc' := 0) (ks' := 0) rfl ?_
    rw [show (nI off / 512 : Int32) = nI (off / 512) from pk_div (a := off) (d := 512) (by omega) (by omega) (by omega)]
    refine RQ.call (v := some (.int (-1))) (st' := []) rfl rfl rfl rfl rfl rfl (args_v [.int (nI (off / 512)), .int (nI f)] [] rfl rfl (Nat.le_of_ble_eq_true rfl) rfl hm (Nat.le_of_ble_eq_true rfl)) hpc ?_
    refine RQ.blk 2 (pc' := 12) (lv' := [(3, .int (-1)), (0, .ref 196), (1, .int (nI f)), (2, .int (nI off))]) (st' := [.int (-1)]) (H' := _) (kc' := 0) (ks' := 0) rfl ?_
    refine RQ.brT rfl rfl rfl (by decide) ?_
    refine RQ.blk 2 (pc' := 50) (lv' := [(3, .int (-1)), (0, .ref 196), (1, .int (nI f)), (2, .int (nI off))]) (st' := [.int 0]) (H' := _) (kc' := 0) (ks' := 0) rfl ?_
    rw [hb]
    exact RQ.done (c := 0) (s := 0) rfl rfl rfl rfl rfl
  | some j =>
    rw [hj] at hpc
    obtain ⟨b, hb⟩ := pcI_some hj
    obtain ⟨e1, e2, e3, e4, e5⟩ := hE _ _ hb
    have hjl := get_lt hb
    dsimp only at e3 e5
    obtain ⟨o1, o2, o3⟩ := hok _ (List.mem_of_getElem? hb)
    dsimp only at o3
    have hbg : byG ps f off = (b[off % 512]?).getD 0 := by unfold byG; rw [hj]; show (match ps[j]? with | some y => (y.2.2[off % 512]?).getD 0 | none => 0) = _; rw [hb]
    refine RQ.blk 5 (pc' := 7) (lv' := [(0, .ref 196), (1, .int (nI f)), (2, .int (nI off))]) (st' := [.int (nI off / 512), .int (nI f), .ref 196]) (H' := _) (kc' := 0) (ks' := 0) rfl ?_
    rw [show (nI off / 512 : Int32) = nI (off / 512) from pk_div (a := off) (d := 512) (by omega) (by omega) (by omega)]
    refine RQ.call (v := some (.int (nI j))) (st' := []) rfl rfl rfl rfl rfl rfl (args_v [.int (nI (off / 512)), .int (nI f)] [] rfl rfl (Nat.le_of_ble_eq_true rfl) rfl hm (Nat.le_of_ble_eq_true rfl)) hpc ?_
    refine RQ.blk 2 (pc' := 12) (lv' := [(3, .int (nI j)), (0, .ref 196), (1, .int (nI f)), (2, .int (nI off))]) (st' := [.int (nI j)]) (H' := _) (kc' := 0) (ks' := 0) rfl ?_
    refine RQ.brF rfl rfl rfl (cF_lt j 0) ?_
    refine RQ.blk 3 (pc' := 20) (lv' := [(3, .int (nI j)), (0, .ref 196), (1, .int (nI f)), (2, .int (nI off))]) (st' := [.int (nI off - nI off / 512 * 512)]) (H' := _) (kc' := 0) (ks' := 0) rfl ?_
    rw [show (nI off - nI off / 512 * 512 : Int32) = nI (off % 512) from pk_rem (a := off) (d := 512) (by omega) (by omega) (by omega)]
    refine RQ.blk 1 (pc' := 21) (lv' := [(3, .int (nI j)), (0, .ref 196), (1, .int (nI f)), (2, .int (nI off))]) (st' := [.ref 196, .int (nI (off % 512))]) (H' := _) (kc' := 0) (ks' := 0) rfl ?_
    refine RQ.get (ci := 12) rfl hm rfl rfl ?_
    refine RQ.blk 1 (pc' := 25) (lv' := [(3, .int (nI j)), (0, .ref 196), (1, .int (nI f)), (2, .int (nI off))]) (st' := [.int (nI j), .ref 221, .int (nI (off % 512))]) (H' := _) (kc' := 0) (ks' := 0) rfl ?_
    refine RQ.ialdN (j := j) rfl hA.2.2.1 (by omega) (by decide) ?_
    rw [e3]
    by_cases kb : off % 512 < b.length
    · refine RQ.brT rfl rfl rfl (cT_lt (off % 512) b.length) ?_
      refine RQ.blk 1 (pc' := 34) (lv' := [(3, .int (nI j)), (0, .ref 196), (1, .int (nI f)), (2, .int (nI off))]) (st' := [.ref 196]) (H' := _) (kc' := 0) (ks' := 0) rfl ?_
      refine RQ.get (ci := 12) rfl hm rfl rfl ?_
      refine RQ.blk 1 (pc' := 38) (lv' := [(3, .int (nI j)), (0, .ref 196), (1, .int (nI f)), (2, .int (nI off))]) (st' := [.ref 196, .ref 223]) (H' := _) (kc' := 0) (ks' := 0) rfl ?_
      refine RQ.get (ci := 12) rfl hm rfl rfl ?_
      refine RQ.blk 1 (pc' := 42) (lv' := [(3, .int (nI j)), (0, .ref 196), (1, .int (nI f)), (2, .int (nI off))]) (st' := [.int (nI j), .ref 222, .ref 223]) (H' := _) (kc' := 0) (ks' := 0) rfl ?_
      refine RQ.ialdN (j := j) rfl hA.2.2.2.1 (by omega) (by decide) ?_
      refine RQ.blk 3 (pc' := 48) (lv' := [(3, .int (nI j)), (0, .ref 196), (1, .int (nI f)), (2, .int (nI off))]) (st' := [.int (nI off - nI off / 512 * 512), .int (nI (pa j)), .ref 223]) (H' := _) (kc' := 0) (ks' := 0) rfl ?_
      rw [show (nI off - nI off / 512 * 512 : Int32) = nI (off % 512) from pk_rem (a := off) (d := 512) (by omega) (by omega) (by omega)]
      refine RQ.blk 1 (pc' := 49) (lv' := [(3, .int (nI j)), (0, .ref 196), (1, .int (nI f)), (2, .int (nI off))]) (st' := [.int (nI (pa j) + nI (off % 512)), .ref 223]) (H' := _) (kc' := 0) (ks' := 0) rfl ?_
      rw [show (nI (pa j) + nI (off % 512) : Int32) = nI (pa j + (off % 512)) from nI_add (pa j) (off % 512)]
      have hlt : pa j + off % 512 < 40000 := by omega
      refine RQ.baldN (j := (pa j + off % 512)) rfl hA.2.2.2.2 (by omega) (by decide) ?_
      obtain ⟨y, hy⟩ := lt_get kb
      rw [hbg, hy, e5 _ _ hy]
      exact RQ.done (c := 0) (s := 0) rfl rfl rfl rfl rfl
    · refine RQ.brF rfl rfl rfl (cF_lt (off % 512) b.length) ?_
      refine RQ.blk 2 (pc' := 50) (lv' := [(3, .int (nI j)), (0, .ref 196), (1, .int (nI f)), (2, .int (nI off))]) (st' := [.int 0]) (H' := _) (kc' := 0) (ks' := 0) rfl ?_
      rw [hbg, List.getElem?_eq_none (by omega)]
      exact RQ.done (c := 0) (s := 0) rfl rfl rfl rfl rfl
theorem rc_growth {sc : Nat × (Nat → Int32)} {d : Nat} {H : aH} {fa li dn cw cl tp rs pr ve us : Int32} {ba bo : Nat} {ps : List aPc} {f off n : Nat} (hm : H[195]? = some (kO 12 (mfs fa li dn cw cl tp rs pr ve us (nI ps.length) (nI (plen ps)) ba bo))) (h : PcsIs H ps) (hpi : ps.length ≤ 1300) (hhu : plen ps ≤ 40000) (hok : ∀ x ∈ ps, PcOk x) (hf : f ≤ 200) (ho : off + n ≤ 16384) (hn : 1 ≤ n) : RC sc (d + 1) mr_323 [.ref 196, .int (nI f), .int (nI off), .int (nI n)] H (.inl (some (.int (nI (grS ps f (off + n) (off / 512) ((off + n - 1) / 512 + 1 - off / 512)))))) H 0 0 := by
  refine RC.of ?_
  obtain ⟨pf, px, pz, pa, hd, hA, hE, hD⟩ := id h
  refine RQ.blk 5 (pc' := 8) (lv' := [(4, .int 0), (0, .ref 196), (1, .int (nI f)), (2, .int (nI off)), (3, .int (nI n))]) (st' := [.int (nI off / 512)]) (H' := _) (kc' := 0) (ks' := 0) rfl ?_
  rw [show (nI off / 512 : Int32) = nI (off / 512) from pk_div (a := off) (d := 512) (by omega) (by omega) (by omega)]
  refine RQ.blk 1 (pc' := 10) (lv' := [(5, .int (nI (off / 512))), (4, .int 0), (0, .ref 196), (1, .int (nI f)), (2, .int (nI off)), (3, .int (nI n))]) (st' := []) (H' := _) (kc' := 0) (ks' := 0) rfl ?_
  refine RQ.pick (a := [(5, .int (nI (off / 512))), (4, .int 0), (0, .ref 196), (1, .int (nI f)), (2, .int (nI off)), (3, .int (nI n))]) [0, 1, 2, 3, 4, 5] [5, 4, 0, 1, 2, 3] rfl rfl (by decide) ?_
  refine RQ.while (S := Nat) (pc := 10) (fun m H' => m ≤ ((off + n - 1) / 512 + 1 - off / 512) ∧ H' = H) (fun m => [(5, .int (nI (off / 512 + m))), (4, .int (nI (grS ps f (off + n) (off / 512) m))), (0, .ref 196), (1, .int (nI f)), (2, .int (nI off)), (3, .int (nI n))]) (fun m => ((off + n - 1) / 512 + 1 - off / 512) - m) ?_ 0 H ⟨Nat.zero_le _, rfl⟩
  rintro m H1 ⟨hmm, e⟩ ih
  rw [e]
  by_cases hlt : off / 512 + m ≤ (off + n - 1) / 512
  ·
    have hpc := rc_mpieceL (sc := sc) (d := d) (x := off / 512 + m) hm h hpi hok hf (by omega)
    have h512 : 512 * (off / 512 + m) ≤ off + n := by omega
    refine RQ.blk 4 (pc' := 15) (lv' := [(5, .int (nI (off / 512 + m))), (4, .int (nI (grS ps f (off + n) (off / 512) m))), (0, .ref 196), (1, .int (nI f)), (2, .int (nI off)), (3, .int (nI n))]) (st' := [.int (nI off + nI n), .int (nI (off / 512 + m))]) (H' := _) (kc' := 0) (ks' := 0) rfl ?_
    rw [show (nI off + nI n : Int32) = nI (off + n) from nI_add off n]
    refine RQ.blk 2 (pc' := 17) (lv' := [(5, .int (nI (off / 512 + m))), (4, .int (nI (grS ps f (off + n) (off / 512) m))), (0, .ref 196), (1, .int (nI f)), (2, .int (nI off)), (3, .int (nI n))]) (st' := [.int (nI (off + n) - 1), .int (nI (off / 512 + m))]) (H' := _) (kc' := 0) (ks' := 0) rfl ?_
    rw [show (nI (off + n) - 1 : Int32) = nI ((off + n) - 1) from pk_sub (a := (off + n)) (b := 1) (by omega)]
    refine RQ.blk 2 (pc' := 21) (lv' := [(5, .int (nI (off / 512 + m))), (4, .int (nI (grS ps f (off + n) (off / 512) m))), (0, .ref 196), (1, .int (nI f)), (2, .int (nI off)), (3, .int (nI n))]) (st' := [.int (nI ((off + n) - 1) / 512), .int (nI (off / 512 + m))]) (H' := _) (kc' := 0) (ks' := 0) rfl ?_
    rw [show (nI ((off + n) - 1) / 512 : Int32) = nI (((off + n) - 1) / 512) from pk_div (a := ((off + n) - 1)) (d := 512) (by omega) (by omega) (by omega)]
    refine RQ.brF rfl rfl rfl (cF_gt (off / 512 + m) ((off + n - 1) / 512)) ?_
    refine RQ.blk 3 (pc' := 28) (lv' := [(5, .int (nI (off / 512 + m))), (4, .int (nI (grS ps f (off + n) (off / 512) m))), (0, .ref 196), (1, .int (nI f)), (2, .int (nI off)), (3, .int (nI n))]) (st' := [.int (nI (off / 512 + m)), .int (nI f), .ref 196]) (H' := _) (kc' := 0) (ks' := 0) rfl ?_
    cases hj : pcI ps f (off / 512 + m) with
    | none =>
      rw [hj] at hpc
      have hg : grE ps f (off + n) (off / 512 + m) = 27 + min 512 (off + n - 512 * (off / 512 + m)) := by unfold grE; rw [hj]; rfl
      refine RQ.call (v := some (.int (-1))) (st' := []) rfl rfl rfl rfl rfl rfl (args_v [.int (nI (off / 512 + m)), .int (nI f)] [] rfl rfl (Nat.le_of_ble_eq_true rfl) rfl hm (Nat.le_of_ble_eq_true rfl)) hpc ?_
      refine RQ.blk 6 (pc' := 40) (lv' := [(6, .int (-1)), (5, .int (nI (off / 512 + m))), (4, .int (nI (grS ps f (off + n) (off / 512) m))), (0, .ref 196), (1, .int (nI f)), (2, .int (nI off)), (3, .int (nI n))]) (st' := [.int (nI off + nI n), .int 512, .ref 196]) (H' := _) (kc' := 0) (ks' := 0) rfl ?_
      rw [show (nI off + nI n : Int32) = nI (off + n) from nI_add off n]
      refine RQ.blk 3 (pc' := 46) (lv' := [(6, .int (-1)), (5, .int (nI (off / 512 + m))), (4, .int (nI (grS ps f (off + n) (off / 512) m))), (0, .ref 196), (1, .int (nI f)), (2, .int (nI off)), (3, .int (nI n))]) (st' := [.int (512 * nI (off / 512 + m)), .int (nI (off + n)), .int 512, .ref 196]) (H' := _) (kc' := 0) (ks' := 0) rfl ?_
      rw [show (512 * nI (off / 512 + m) : Int32) = nI (512 * (off / 512 + m)) from pk_mul 512 (off / 512 + m)]
      refine RQ.blk 1 (pc' := 47) (lv' := [(6, .int (-1)), (5, .int (nI (off / 512 + m))), (4, .int (nI (grS ps f (off + n) (off / 512) m))), (0, .ref 196), (1, .int (nI f)), (2, .int (nI off)), (3, .int (nI n))]) (st' := [.int (nI (off + n) - nI (512 * (off / 512 + m))), .int 512, .ref 196]) (H' := _) (kc' := 0) (ks' := 0) rfl ?_
      rw [show (nI (off + n) - nI (512 * (off / 512 + m)) : Int32) = nI ((off + n) - (512 * (off / 512 + m))) from pk_sub (a := (off + n)) (b := (512 * (off / 512 + m))) (by omega)]
      refine RQ.call (v := some (.int (nI (min 512 (off + n - 512 * (off / 512 + m)))))) (st' := []) rfl rfl rfl rfl rfl rfl (args_v [.int (nI ((off + n) - (512 * (off / 512 + m)))), .int 512] [] rfl rfl (Nat.le_of_ble_eq_true rfl) rfl hm (Nat.le_of_ble_eq_true rfl)) (rc_mleast (a := 512) (b := off + n - 512 * (off / 512 + m)) (by omega) (by omega)) ?_
      refine RQ.blk 2 (pc' := 54) (lv' := [(7, .int (nI (min 512 (off + n - 512 * (off / 512 + m))))), (6, .int (-1)), (5, .int (nI (off / 512 + m))), (4, .int (nI (grS ps f (off + n) (off / 512) m))), (0, .ref 196), (1, .int (nI f)), (2, .int (nI off)), (3, .int (nI n))]) (st' := [.int (-1)]) (H' := _) (kc' := 0) (ks' := 0) rfl ?_
      refine RQ.brF rfl rfl rfl (by decide) ?_
      refine RQ.blk 4 (pc' := 64) (lv' := [(7, .int (nI (min 512 (off + n - 512 * (off / 512 + m))))), (6, .int (-1)), (5, .int (nI (off / 512 + m))), (4, .int (nI (grS ps f (off + n) (off / 512) m))), (0, .ref 196), (1, .int (nI f)), (2, .int (nI off)), (3, .int (nI n))]) (st' := [.int (27 + nI (min 512 (off + n - 512 * (off / 512 + m)))), .int (nI (grS ps f (off + n) (off / 512) m))]) (H' := _) (kc' := 0) (ks' := 0) rfl ?_
      rw [show (27 + nI (min 512 (off + n - 512 * (off / 512 + m))) : Int32) = nI (27 + (min 512 (off + n - 512 * (off / 512 + m)))) from nI_add 27 (min 512 (off + n - 512 * (off / 512 + m)))]
      refine RQ.blk 1 (pc' := 65) (lv' := [(7, .int (nI (min 512 (off + n - 512 * (off / 512 + m))))), (6, .int (-1)), (5, .int (nI (off / 512 + m))), (4, .int (nI (grS ps f (off + n) (off / 512) m))), (0, .ref 196), (1, .int (nI f)), (2, .int (nI off)), (3, .int (nI n))]) (st' := [.int (nI (grS ps f (off + n) (off / 512) m) + nI (27 + (min 512 (off + n - 512 * (off / 512 + m)))))]) (H' := _) (kc' := 0) (ks' := 0) rfl ?_
      rw [show (nI (grS ps f (off + n) (off / 512) m) + nI (27 + (min 512 (off + n - 512 * (off / 512 + m)))) : Int32) = nI ((grS ps f (off + n) (off / 512) m) + (27 + (min 512 (off + n - 512 * (off / 512 + m))))) from nI_add (grS ps f (off + n) (off / 512) m) (27 + (min 512 (off + n - 512 * (off / 512 + m))))]
      refine RQ.blk 3 (pc' := 100) (lv' := [(5, .int (nI (off / 512 + m) + 1)), (4, .int (nI ((grS ps f (off + n) (off / 512) m) + (27 + (min 512 (off + n - 512 * (off / 512 + m))))))), (7, .int (nI (min 512 (off + n - 512 * (off / 512 + m))))), (6, .int (-1)), (0, .ref 196), (1, .int (nI f)), (2, .int (nI off)), (3, .int (nI n))]) (st' := []) (H' := _) (kc' := 0) (ks' := 0) rfl ?_
      rw [show (nI (off / 512 + m) + 1 : Int32) = nI ((off / 512 + m) + 1) from nI_add (off / 512 + m) 1]
      refine RQ.blk 1 (pc' := 10) (lv' := [(5, .int (nI ((off / 512 + m) + 1))), (4, .int (nI ((grS ps f (off + n) (off / 512) m) + (27 + (min 512 (off + n - 512 * (off / 512 + m))))))), (7, .int (nI (min 512 (off + n - 512 * (off / 512 + m))))), (6, .int (-1)), (0, .ref 196), (1, .int (nI f)), (2, .int (nI off)), (3, .int (nI n))]) (st' := []) (H' := _) (kc' := 0) (ks' := 0) rfl ?_
      refine RQ.pick (a := [(5, .int (nI ((off / 512 + m) + 1))), (4, .int (nI ((grS ps f (off + n) (off / 512) m) + (27 + (min 512 (off + n - 512 * (off / 512 + m))))))), (0, .ref 196), (1, .int (nI f)), (2, .int (nI off)), (3, .int (nI n))]) [0, 1, 4, 5, 6, 7] [5, 4, 7, 6, 0, 1, 2, 3] rfl rfl (by decide) ?_
      have hs : grS ps f (off + n) (off / 512) m + (27 + min 512 (off + n - 512 * (off / 512 + m))) = grS ps f (off + n) (off / 512) (m + 1) := by rw [grS, hg]
      rw [hs]
      exact ih (m + 1) _ ⟨by omega, rfl⟩ (by omega)
    | some j =>
      rw [hj] at hpc
      obtain ⟨b, hb⟩ := pcI_some hj
      obtain ⟨e1, e2, e3, e4, e5⟩ := hE _ _ hb
      have hjl := get_lt hb
      dsimp only at e3
      obtain ⟨o1, o2, o3⟩ := hok _ (List.mem_of_getElem? hb)
      dsimp only at o3
      have hg : grE ps f (off + n) (off / 512 + m) = min 512 (off + n - 512 * (off / 512 + m)) - b.length := by unfold grE; rw [hj]; show (match ps[j]? with | some y => min 512 (off + n - 512 * (off / 512 + m)) - y.2.2.length | none => _) = _; rw [hb]
      refine RQ.call (v := some (.int (nI j))) (st' := []) rfl rfl rfl rfl rfl rfl (args_v [.int (nI (off / 512 + m)), .int (nI f)] [] rfl rfl (Nat.le_of_ble_eq_true rfl) rfl hm (Nat.le_of_ble_eq_true rfl)) hpc ?_
      refine RQ.blk 6 (pc' := 40) (lv' := [(6, .int (nI j)), (5, .int (nI (off / 512 + m))), (4, .int (nI (grS ps f (off + n) (off / 512) m))), (0, .ref 196), (1, .int (nI f)), (2, .int (nI off)), (3, .int (nI n))]) (st' := [.int (nI off + nI n), .int 512, .ref 196]) (H' := _) (kc' := 0) (ks' := 0) rfl ?_
      rw [show (nI off + nI n : Int32) = nI (off + n) from nI_add off n]
      refine RQ.blk 3 (pc' := 46) (lv' := [(6, .int (nI j)), (5, .int (nI (off / 512 + m))), (4, .int (nI (grS ps f (off + n) (off / 512) m))), (0, .ref 196), (1, .int (nI f)), (2, .int (nI off)), (3, .int (nI n))]) (st' := [.int (512 * nI (off / 512 + m)), .int (nI (off + n)), .int 512, .ref 196]) (H' := _) (kc' := 0) (ks' := 0) rfl ?_
      rw [show (512 * nI (off / 512 + m) : Int32) = nI (512 * (off / 512 + m)) from pk_mul 512 (off / 512 + m)]
      refine RQ.blk 1 (pc' := 47) (lv' := [(6, .int (nI j)), (5, .int (nI (off / 512 + m))), (4, .int (nI (grS ps f (off + n) (off / 512) m))), (0, .ref 196), (1, .int (nI f)), (2, .int (nI off)), (3, .int (nI n))]) (st' := [.int (nI (off + n) - nI (512 * (off / 512 + m))), .int 512, .ref 196]) (H' := _) (kc' := 0) (ks' := 0) rfl ?_
      rw [show (nI (off + n) - nI (512 * (off / 512 + m)) : Int32) = nI ((off + n) - (512 * (off / 512 + m))) from pk_sub (a := (off + n)) (b := (512 * (off / 512 + m))) (by omega)]
      refine RQ.call (v := some (.int (nI (min 512 (off + n - 512 * (off / 512 + m)))))) (st' := []) rfl rfl rfl rfl rfl rfl (args_v [.int (nI ((off + n) - (512 * (off / 512 + m)))), .int 512] [] rfl rfl (Nat.le_of_ble_eq_true rfl) rfl hm (Nat.le_of_ble_eq_true rfl)) (rc_mleast (a := 512) (b := off + n - 512 * (off / 512 + m)) (by omega) (by omega)) ?_
      refine RQ.blk 2 (pc' := 54) (lv' := [(7, .int (nI (min 512 (off + n - 512 * (off / 512 + m))))), (6, .int (nI j)), (5, .int (nI (off / 512 + m))), (4, .int (nI (grS ps f (off + n) (off / 512) m))), (0, .ref 196), (1, .int (nI f)), (2, .int (nI off)), (3, .int (nI n))]) (st' := [.int (nI j)]) (H' := _) (kc' := 0) (ks' := 0) rfl ?_
      refine RQ.brT rfl rfl rfl (cT_ge j 0) ?_
      refine RQ.blk 2 (pc' := 73) (lv' := [(7, .int (nI (min 512 (off + n - 512 * (off / 512 + m))))), (6, .int (nI j)), (5, .int (nI (off / 512 + m))), (4, .int (nI (grS ps f (off + n) (off / 512) m))), (0, .ref 196), (1, .int (nI f)), (2, .int (nI off)), (3, .int (nI n))]) (st' := [.ref 196, .int (nI (min 512 (off + n - 512 * (off / 512 + m))))]) (H' := _) (kc' := 0) (ks' := 0) rfl ?_
      refine RQ.get (ci := 12) rfl hm rfl rfl ?_
      refine RQ.blk 1 (pc' := 78) (lv' := [(7, .int (nI (min 512 (off + n - 512 * (off / 512 + m))))), (6, .int (nI j)), (5, .int (nI (off / 512 + m))), (4, .int (nI (grS ps f (off + n) (off / 512) m))), (0, .ref 196), (1, .int (nI f)), (2, .int (nI off)), (3, .int (nI n))]) (st' := [.int (nI j), .ref 221, .int (nI (min 512 (off + n - 512 * (off / 512 + m))))]) (H' := _) (kc' := 0) (ks' := 0) rfl ?_
      refine RQ.ialdN (j := j) rfl hA.2.2.1 (by omega) (by decide) ?_
      rw [e3]
      by_cases kb : b.length < min 512 (off + n - 512 * (off / 512 + m))
      · refine RQ.brF rfl rfl rfl (cF_le (min 512 (off + n - 512 * (off / 512 + m))) b.length) ?_
        refine RQ.blk 3 (pc' := 87) (lv' := [(7, .int (nI (min 512 (off + n - 512 * (off / 512 + m))))), (6, .int (nI j)), (5, .int (nI (off / 512 + m))), (4, .int (nI (grS ps f (off + n) (off / 512) m))), (0, .ref 196), (1, .int (nI f)), (2, .int (nI off)), (3, .int (nI n))]) (st' := [.ref 196, .int (nI (min 512 (off + n - 512 * (off / 512 + m)))), .int (nI (grS ps f (off + n) (off / 512) m))]) (H' := _) (kc' := 0) (ks' := 0) rfl ?_
        refine RQ.get (ci := 12) rfl hm rfl rfl ?_
        refine RQ.blk 1 (pc' := 92) (lv' := [(7, .int (nI (min 512 (off + n - 512 * (off / 512 + m))))), (6, .int (nI j)), (5, .int (nI (off / 512 + m))), (4, .int (nI (grS ps f (off + n) (off / 512) m))), (0, .ref 196), (1, .int (nI f)), (2, .int (nI off)), (3, .int (nI n))]) (st' := [.int (nI j), .ref 221, .int (nI (min 512 (off + n - 512 * (off / 512 + m)))), .int (nI (grS ps f (off + n) (off / 512) m))]) (H' := _) (kc' := 0) (ks' := 0) rfl ?_
        refine RQ.ialdN (j := j) rfl hA.2.2.1 (by omega) (by decide) ?_
        rw [e3]
        refine RQ.blk 1 (pc' := 94) (lv' := [(7, .int (nI (min 512 (off + n - 512 * (off / 512 + m))))), (6, .int (nI j)), (5, .int (nI (off / 512 + m))), (4, .int (nI (grS ps f (off + n) (off / 512) m))), (0, .ref 196), (1, .int (nI f)), (2, .int (nI off)), (3, .int (nI n))]) (st' := [.int (nI (min 512 (off + n - 512 * (off / 512 + m))) - nI b.length), .int (nI (grS ps f (off + n) (off / 512) m))]) (H' := _) (kc' := 0) (ks' := 0) rfl ?_
        rw [show (nI (min 512 (off + n - 512 * (off / 512 + m))) - nI b.length : Int32) = nI ((min 512 (off + n - 512 * (off / 512 + m))) - b.length) from pk_sub (a := (min 512 (off + n - 512 * (off / 512 + m)))) (b := b.length) (by omega)]
        refine RQ.blk 1 (pc' := 95) (lv' := [(7, .int (nI (min 512 (off + n - 512 * (off / 512 + m))))), (6, .int (nI j)), (5, .int (nI (off / 512 + m))), (4, .int (nI (grS ps f (off + n) (off / 512) m))), (0, .ref 196), (1, .int (nI f)), (2, .int (nI off)), (3, .int (nI n))]) (st' := [.int (nI (grS ps f (off + n) (off / 512) m) + nI ((min 512 (off + n - 512 * (off / 512 + m))) - b.length))]) (H' := _) (kc' := 0) (ks' := 0) rfl ?_
        rw [show (nI (grS ps f (off + n) (off / 512) m) + nI ((min 512 (off + n - 512 * (off / 512 + m))) - b.length) : Int32) = nI ((grS ps f (off + n) (off / 512) m) + ((min 512 (off + n - 512 * (off / 512 + m))) - b.length)) from nI_add (grS ps f (off + n) (off / 512) m) ((min 512 (off + n - 512 * (off / 512 + m))) - b.length)]
        refine RQ.blk 2 (pc' := 100) (lv' := [(5, .int (nI (off / 512 + m) + 1)), (4, .int (nI ((grS ps f (off + n) (off / 512) m) + ((min 512 (off + n - 512 * (off / 512 + m))) - b.length)))), (7, .int (nI (min 512 (off + n - 512 * (off / 512 + m))))), (6, .int (nI j)), (0, .ref 196), (1, .int (nI f)), (2, .int (nI off)), (3, .int (nI n))]) (st' := []) (H' := _) (kc' := 0) (ks' := 0) rfl ?_
        rw [show (nI (off / 512 + m) + 1 : Int32) = nI ((off / 512 + m) + 1) from nI_add (off / 512 + m) 1]
        refine RQ.blk 1 (pc' := 10) (lv' := [(5, .int (nI ((off / 512 + m) + 1))), (4, .int (nI ((grS ps f (off + n) (off / 512) m) + ((min 512 (off + n - 512 * (off / 512 + m))) - b.length)))), (7, .int (nI (min 512 (off + n - 512 * (off / 512 + m))))), (6, .int (nI j)), (0, .ref 196), (1, .int (nI f)), (2, .int (nI off)), (3, .int (nI n))]) (st' := []) (H' := _) (kc' := 0) (ks' := 0) rfl ?_
        refine RQ.pick (a := [(5, .int (nI ((off / 512 + m) + 1))), (4, .int (nI ((grS ps f (off + n) (off / 512) m) + ((min 512 (off + n - 512 * (off / 512 + m))) - b.length)))), (0, .ref 196), (1, .int (nI f)), (2, .int (nI off)), (3, .int (nI n))]) [0, 1, 4, 5, 6, 7] [5, 4, 7, 6, 0, 1, 2, 3] rfl rfl (by decide) ?_
        have hs : grS ps f (off + n) (off / 512) m + (min 512 (off + n - 512 * (off / 512 + m)) - b.length) = grS ps f (off + n) (off / 512) (m + 1) := by rw [grS, hg]
        rw [hs]
        exact ih (m + 1) _ ⟨by omega, rfl⟩ (by omega)
      · refine RQ.brT rfl rfl rfl (cT_le (min 512 (off + n - 512 * (off / 512 + m))) b.length) ?_
        refine RQ.blk 1 (pc' := 100) (lv' := [(5, .int (nI (off / 512 + m) + 1)), (7, .int (nI (min 512 (off + n - 512 * (off / 512 + m))))), (6, .int (nI j)), (4, .int (nI (grS ps f (off + n) (off / 512) m))), (0, .ref 196), (1, .int (nI f)), (2, .int (nI off)), (3, .int (nI n))]) (st' := []) (H' := _) (kc' := 0) (ks' := 0) rfl ?_
        rw [show (nI (off / 512 + m) + 1 : Int32) = nI ((off / 512 + m) + 1) from nI_add (off / 512 + m) 1]
        refine RQ.blk 1 (pc' := 10) (lv' := [(5, .int (nI ((off / 512 + m) + 1))), (7, .int (nI (min 512 (off + n - 512 * (off / 512 + m))))), (6, .int (nI j)), (4, .int (nI (grS ps f (off + n) (off / 512) m))), (0, .ref 196), (1, .int (nI f)), (2, .int (nI off)), (3, .int (nI n))]) (st' := []) (H' := _) (kc' := 0) (ks' := 0) rfl ?_
        refine RQ.pick (a := [(5, .int (nI ((off / 512 + m) + 1))), (4, .int (nI (grS ps f (off + n) (off / 512) m))), (0, .ref 196), (1, .int (nI f)), (2, .int (nI off)), (3, .int (nI n))]) [0, 3, 4, 5, 6, 7] [5, 7, 6, 4, 0, 1, 2, 3] rfl rfl (by decide) ?_
        have hs : grS ps f (off + n) (off / 512) m = grS ps f (off + n) (off / 512) (m + 1) := by rw [grS, hg]; omega
        rw [hs]
        exact ih (m + 1) _ ⟨by omega, rfl⟩ (by omega)
  ·
    refine RQ.blk 4 (pc' := 15) (lv' := [(5, .int (nI (off / 512 + m))), (4, .int (nI (grS ps f (off + n) (off / 512) m))), (0, .ref 196), (1, .int (nI f)), (2, .int (nI off)), (3, .int (nI n))]) (st' := [.int (nI off + nI n), .int (nI (off / 512 + m))]) (H' := _) (kc' := 0) (ks' := 0) rfl ?_
    rw [show (nI off + nI n : Int32) = nI (off + n) from nI_add off n]
    refine RQ.blk 2 (pc' := 17) (lv' := [(5, .int (nI (off / 512 + m))), (4, .int (nI (grS ps f (off + n) (off / 512) m))), (0, .ref 196), (1, .int (nI f)), (2, .int (nI off)), (3, .int (nI n))]) (st' := [.int (nI (off + n) - 1), .int (nI (off / 512 + m))]) (H' := _) (kc' := 0) (ks' := 0) rfl ?_
    rw [show (nI (off + n) - 1 : Int32) = nI ((off + n) - 1) from pk_sub (a := (off + n)) (b := 1) (by omega)]
    refine RQ.blk 2 (pc' := 21) (lv' := [(5, .int (nI (off / 512 + m))), (4, .int (nI (grS ps f (off + n) (off / 512) m))), (0, .ref 196), (1, .int (nI f)), (2, .int (nI off)), (3, .int (nI n))]) (st' := [.int (nI ((off + n) - 1) / 512), .int (nI (off / 512 + m))]) (H' := _) (kc' := 0) (ks' := 0) rfl ?_
    rw [show (nI ((off + n) - 1) / 512 : Int32) = nI (((off + n) - 1) / 512) from pk_div (a := ((off + n) - 1)) (d := 512) (by omega) (by omega) (by omega)]
    refine RQ.brT rfl rfl rfl (cT_gt (off / 512 + m) ((off + n - 1) / 512)) ?_
    refine RQ.blk 1 (pc' := 105) (lv' := [(5, .int (nI (off / 512 + m))), (4, .int (nI (grS ps f (off + n) (off / 512) m))), (0, .ref 196), (1, .int (nI f)), (2, .int (nI off)), (3, .int (nI n))]) (st' := [.int (nI (grS ps f (off + n) (off / 512) m))]) (H' := _) (kc' := 0) (ks' := 0) rfl ?_
    rw [show m = ((off + n - 1) / 512 + 1 - off / 512) by omega]
    exact RQ.done (c := 0) (s := 0) rfl rfl rfl rfl rfl
