/-! ===== a node is set; the tree is made out of the versions; class; written by wip/gen/trees.py ===== -/
/-- the tree's arrays -/
abbrev aTr : Type := (Nat → Nat) × (Nat → Nat) × (Nat → Nat) × (Nat → Nat) × (Nat → Int8) × Nat
def TreeIs (H : aH) (t : aTr) : Prop := TreeAt H t.1 t.2.1 t.2.2.1 t.2.2.2.1 t.2.2.2.2.1 t.2.2.2.2.2
def setT (v k dir s n : Nat) (f : Nat → Int8) (i : Nat) (t : aTr) : aTr := (va_up t.1 v k, va_up t.2.1 v dir, va_up t.2.2.1 v s, va_up t.2.2.2.1 v n, cpy f i t.2.2.2.2.1 (v * 30) n, t.2.2.2.2.2 + (if t.1 v = 0 then 1 else 0))
theorem rn_tset {sc : Nat × (Nat → Int32)} {d v k dir s i n a na : Nat} {f : Nat → Int8} {H : aH} {kd pa sz nl : Nat → Nat} {nm : Nat → Int8} {no : Nat} (h : TreeAt H kd pa sz nl nm no) (hkv : kd v < 2 ^ 31) (h1 : H[a]? = some (kB na f)) (hna : na < 2 ^ 31) (ha : ¬ (65 ≤ a ∧ a < 71)) (hin : i + n ≤ na) (hv1 : 1 ≤ v) (hv : v ≤ 200) (hn : n ≤ 30) : RN sc (d + 1) mr_191 [.ref 66, .int (nI v), .int (nI k), .int (nI dir), .int (nI s), .ref (a + 1), .int (nI i), .int (nI n)] H (fun H' => TreeIs H' (setT v k dir s n f i (kd, pa, sz, nl, nm, no)) ∧ ∀ b, ¬ (65 ≤ b ∧ b < 71) → H'[b]? = H[b]?) := by
  refine RN.of ?_
  refine RQ.blk 2 (pc' := 2) (lv' := [(0, .ref 66), (1, .int (nI v)), (2, .int (nI k)), (3, .int (nI dir)), (4, .int (nI s)), (5, .ref (a + 1)), (6, .int (nI i)), (7, .int (nI n))]) (st' := [.int 1, .int (nI v)]) (H' := _) (kc' := 0) (ks' := 0) rfl ?_
  refine RQ.brF rfl rfl rfl (cF_lt v 1) ?_
  refine RQ.blk 2 (pc' := 9) (lv' := [(0, .ref 66), (1, .int (nI v)), (2, .int (nI k)), (3, .int (nI dir)), (4, .int (nI s)), (5, .ref (a + 1)), (6, .int (nI i)), (7, .int (nI n))]) (st' := [.int 200, .int (nI v)]) (H' := _) (kc' := 0) (ks' := 0) rfl ?_
  refine RQ.brT rfl rfl rfl (cT_le v 200) ?_
  refine RQ.blk 2 (pc' := 15) (lv' := [(0, .ref 66), (1, .int (nI v)), (2, .int (nI k)), (3, .int (nI dir)), (4, .int (nI s)), (5, .ref (a + 1)), (6, .int (nI i)), (7, .int (nI n))]) (st' := [.ref 66, .ref 66]) (H' := _) (kc' := 0) (ks' := 0) rfl ?_
  refine RQ.get (ci := 9) rfl h.1 rfl rfl ?_
  refine RQ.blk 1 (pc' := 19) (lv' := [(0, .ref 66), (1, .int (nI v)), (2, .int (nI k)), (3, .int (nI dir)), (4, .int (nI s)), (5, .ref (a + 1)), (6, .int (nI i)), (7, .int (nI n))]) (st' := [.ref 66, .int (nI no), .ref 66]) (H' := _) (kc' := 0) (ks' := 0) rfl ?_
  refine RQ.get (ci := 9) rfl h.1 rfl rfl ?_
  refine RQ.blk 1 (pc' := 23) (lv' := [(0, .ref 66), (1, .int (nI v)), (2, .int (nI k)), (3, .int (nI dir)), (4, .int (nI s)), (5, .ref (a + 1)), (6, .int (nI i)), (7, .int (nI n))]) (st' := [.int (nI v), .ref 67, .int (nI no), .ref 66]) (H' := _) (kc' := 0) (ks' := 0) rfl ?_
  refine RQ.ialdN (j := v) rfl h.2.1 (by omega) (by decide) ?_
  by_cases c1 : (kd v) = 0
  · refine RQ.brF rfl rfl rfl (cF_ne (kd v) 0) ?_
    refine RQ.blk 3 (pc' := 33) (lv' := [(0, .ref 66), (1, .int (nI v)), (2, .int (nI k)), (3, .int (nI dir)), (4, .int (nI s)), (5, .ref (a + 1)), (6, .int (nI i)), (7, .int (nI n))]) (st' := [.int (nI no + 1), .ref 66]) (H' := _) (kc' := 0) (ks' := 0) rfl ?_
    rw [show (nI no + 1 : Int32) = nI (no + 1) from nI_add no 1]
    refine RQ.put (ci := 9) rfl h.1 rfl rfl (Nat.le_of_ble_eq_true rfl) ?_
    refine RQ.blk 1 (pc' := 37) (lv' := [(0, .ref 66), (1, .int (nI v)), (2, .int (nI k)), (3, .int (nI dir)), (4, .int (nI s)), (5, .ref (a + 1)), (6, .int (nI i)), (7, .int (nI n))]) (st' := [.ref 66]) (H' := _) (kc' := 0) (ks' := 0) rfl ?_
    refine RQ.get (ci := 9) rfl (get_set h.1) rfl rfl ?_
    refine RQ.blk 2 (pc' := 42) (lv' := [(0, .ref 66), (1, .int (nI v)), (2, .int (nI k)), (3, .int (nI dir)), (4, .int (nI s)), (5, .ref (a + 1)), (6, .int (nI i)), (7, .int (nI n))]) (st' := [.int (nI k), .int (nI v), .ref 67]) (H' := _) (kc' := 0) (ks' := 0) rfl ?_
    refine RQ.iastN (j := v) rfl ((set_far (by decide)).trans h.2.1) (by omega) (by decide) ?_
    rw [up_nI]
    refine RQ.blk 1 (pc' := 44) (lv' := [(0, .ref 66), (1, .int (nI v)), (2, .int (nI k)), (3, .int (nI dir)), (4, .int (nI s)), (5, .ref (a + 1)), (6, .int (nI i)), (7, .int (nI n))]) (st' := [.ref 66]) (H' := _) (kc' := 0) (ks' := 0) rfl ?_
    refine RQ.get (ci := 9) rfl ((set_far (by decide)).trans (get_set h.1)) rfl rfl ?_
    refine RQ.blk 2 (pc' := 49) (lv' := [(0, .ref 66), (1, .int (nI v)), (2, .int (nI k)), (3, .int (nI dir)), (4, .int (nI s)), (5, .ref (a + 1)), (6, .int (nI i)), (7, .int (nI n))]) (st' := [.int (nI dir), .int (nI v), .ref 68]) (H' := _) (kc' := 0) (ks' := 0) rfl ?_
    refine RQ.iastN (j := v) rfl ((set_far (by decide)).trans ((set_far (by decide)).trans h.2.2.1)) (by omega) (by decide) ?_
    rw [up_nI]
    refine RQ.blk 1 (pc' := 51) (lv' := [(0, .ref 66), (1, .int (nI v)), (2, .int (nI k)), (3, .int (nI dir)), (4, .int (nI s)), (5, .ref (a + 1)), (6, .int (nI i)), (7, .int (nI n))]) (st' := [.ref 66]) (H' := _) (kc' := 0) (ks' := 0) rfl ?_
    refine RQ.get (ci := 9) rfl ((set_far (by decide)).trans ((set_far (by decide)).trans (get_set h.1))) rfl rfl ?_
    refine RQ.blk 2 (pc' := 57) (lv' := [(0, .ref 66), (1, .int (nI v)), (2, .int (nI k)), (3, .int (nI dir)), (4, .int (nI s)), (5, .ref (a + 1)), (6, .int (nI i)), (7, .int (nI n))]) (st' := [.int (nI s), .int (nI v), .ref 69]) (H' := _) (kc' := 0) (ks' := 0) rfl ?_
    refine RQ.iastN (j := v) rfl ((set_far (by decide)).trans ((set_far (by decide)).trans ((set_far (by decide)).trans h.2.2.2.1))) (by omega) (by decide) ?_
    rw [up_nI]
    refine RQ.blk 1 (pc' := 59) (lv' := [(0, .ref 66), (1, .int (nI v)), (2, .int (nI k)), (3, .int (nI dir)), (4, .int (nI s)), (5, .ref (a + 1)), (6, .int (nI i)), (7, .int (nI n))]) (st' := [.ref 66]) (H' := _) (kc' := 0) (ks' := 0) rfl ?_
    refine RQ.get (ci := 9) rfl ((set_far (by decide)).trans ((set_far (by decide)).trans ((set_far (by decide)).trans (get_set h.1)))) rfl rfl ?_
    refine RQ.blk 4 (pc' := 70) (lv' := [(0, .ref 66), (1, .int (nI v)), (2, .int (nI k)), (3, .int (nI dir)), (4, .int (nI s)), (5, .ref (a + 1)), (6, .int (nI i)), (7, .int (nI n))]) (st' := [.int (if 30 < nI n then 30 else nI n), .int (nI v), .ref 70]) (H' := _) (kc' := 0) (ks' := 0) rfl ?_
    rw [show (if 30 < nI n then 30 else nI n : Int32) = nI (min n 30) from minI (a := n) (b := 30) (by omega) (by omega)]
    rw [show min n 30 = n by omega]
    refine RQ.iastN (j := v) rfl ((set_far (by decide)).trans ((set_far (by decide)).trans ((set_far (by decide)).trans ((set_far (by decide)).trans h.2.2.2.2.1)))) (by omega) (by decide) ?_
    rw [up_nI]
    refine RQ.blk 3 (pc' := 76) (lv' := [(0, .ref 66), (1, .int (nI v)), (2, .int (nI k)), (3, .int (nI dir)), (4, .int (nI s)), (5, .ref (a + 1)), (6, .int (nI i)), (7, .int (nI n))]) (st' := [.ref 66, .int (nI i), .ref (a + 1)]) (H' := _) (kc' := 0) (ks' := 0) rfl ?_
    refine RQ.get (ci := 9) rfl ((set_far (by decide)).trans ((set_far (by decide)).trans ((set_far (by decide)).trans ((set_far (by decide)).trans (get_set h.1))))) rfl rfl ?_
    refine RQ.blk 3 (pc' := 83) (lv' := [(0, .ref 66), (1, .int (nI v)), (2, .int (nI k)), (3, .int (nI dir)), (4, .int (nI s)), (5, .ref (a + 1)), (6, .int (nI i)), (7, .int (nI n))]) (st' := [.int (nI v * 30), .ref 71, .int (nI i), .ref (a + 1)]) (H' := _) (kc' := 0) (ks' := 0) rfl ?_
    rw [show (nI v * 30 : Int32) = nI (v * 30) from pk_mul v 30]
    refine RQ.blk 1 (pc' := 84) (lv' := [(0, .ref 66), (1, .int (nI v)), (2, .int (nI k)), (3, .int (nI dir)), (4, .int (nI s)), (5, .ref (a + 1)), (6, .int (nI i)), (7, .int (nI n))]) (st' := [.ref 66, .int (nI (v * 30)), .ref 71, .int (nI i), .ref (a + 1)]) (H' := _) (kc' := 0) (ks' := 0) rfl ?_
    refine RQ.get (ci := 9) rfl ((set_far (by decide)).trans ((set_far (by decide)).trans ((set_far (by decide)).trans ((set_far (by decide)).trans (get_set h.1))))) rfl rfl ?_
    refine RQ.blk 1 (pc' := 88) (lv' := [(0, .ref 66), (1, .int (nI v)), (2, .int (nI k)), (3, .int (nI dir)), (4, .int (nI s)), (5, .ref (a + 1)), (6, .int (nI i)), (7, .int (nI n))]) (st' := [.int (nI v), .ref 70, .int (nI (v * 30)), .ref 71, .int (nI i), .ref (a + 1)]) (H' := _) (kc' := 0) (ks' := 0) rfl ?_
    refine RQ.ialdN (j := v) rfl (get_set ((set_far (by decide)).trans ((set_far (by decide)).trans ((set_far (by decide)).trans ((set_far (by decide)).trans h.2.2.2.2.1))))) (by omega) (by decide) ?_
    rw [up_at]
    refine RQ.call (v := none) (st' := []) rfl rfl rfl rfl rfl rfl rfl (rc_copy (a := a) (b := 70) (na := na) (nb := 6030) (i := i) (j := v * 30) (k := n) ((set_far (by omega)).trans ((set_far (by omega)).trans ((set_far (by omega)).trans ((set_far (by omega)).trans ((set_far (by omega)).trans h1))))) ((set_far (by decide)).trans ((set_far (by decide)).trans ((set_far (by decide)).trans ((set_far (by decide)).trans ((set_far (by decide)).trans h.2.2.2.2.2))))) hna (by decide) hin (by omega)) ?_
    have hno : no + (if kd v = 0 then 1 else 0) = no + 1 := by rw [if_pos c1]
    exact RQ.done (c := 0) (s := 0) rfl rfl rfl rfl ⟨_, rfl, ⟨by show _ = some (kO 9 [_, _, _, _, _, .int (nI (no + (if kd v = 0 then 1 else 0)))]); rw [hno]; exact ((set_far (by decide)).trans ((set_far (by decide)).trans ((set_far (by decide)).trans ((set_far (by decide)).trans ((set_far (by decide)).trans (get_set h.1)))))), ((set_far (by decide)).trans ((set_far (by decide)).trans ((set_far (by decide)).trans ((set_far (by decide)).trans (get_set ((set_far (by decide)).trans h.2.1)))))), ((set_far (by decide)).trans ((set_far (by decide)).trans ((set_far (by decide)).trans (get_set ((set_far (by decide)).trans ((set_far (by decide)).trans h.2.2.1)))))), ((set_far (by decide)).trans ((set_far (by decide)).trans (get_set ((set_far (by decide)).trans ((set_far (by decide)).trans ((set_far (by decide)).trans h.2.2.2.1)))))), ((set_far (by decide)).trans (get_set ((set_far (by decide)).trans ((set_far (by decide)).trans ((set_far (by decide)).trans ((set_far (by decide)).trans h.2.2.2.2.1)))))), (get_set ((set_far (by decide)).trans ((set_far (by decide)).trans ((set_far (by decide)).trans ((set_far (by decide)).trans ((set_far (by decide)).trans h.2.2.2.2.2))))))⟩, fun b hb => (set_far (by omega)).trans ((set_far (by omega)).trans ((set_far (by omega)).trans ((set_far (by omega)).trans ((set_far (by omega)).trans (set_far (by omega))))))⟩
  · refine RQ.brT rfl rfl rfl (cT_ne (kd v) 0) ?_
    refine RQ.blk 2 (pc' := 33) (lv' := [(0, .ref 66), (1, .int (nI v)), (2, .int (nI k)), (3, .int (nI dir)), (4, .int (nI s)), (5, .ref (a + 1)), (6, .int (nI i)), (7, .int (nI n))]) (st' := [.int (nI no + 0), .ref 66]) (H' := _) (kc' := 0) (ks' := 0) rfl ?_
    rw [show (nI no + 0 : Int32) = nI (no + 0) from nI_add no 0]
    refine RQ.put (ci := 9) rfl h.1 rfl rfl (Nat.le_of_ble_eq_true rfl) ?_
    refine RQ.blk 1 (pc' := 37) (lv' := [(0, .ref 66), (1, .int (nI v)), (2, .int (nI k)), (3, .int (nI dir)), (4, .int (nI s)), (5, .ref (a + 1)), (6, .int (nI i)), (7, .int (nI n))]) (st' := [.ref 66]) (H' := _) (kc' := 0) (ks' := 0) rfl ?_
    refine RQ.get (ci := 9) rfl (get_set h.1) rfl rfl ?_
    refine RQ.blk 2 (pc' := 42) (lv' := [(0, .ref 66), (1, .int (nI v)), (2, .int (nI k)), (3, .int (nI dir)), (4, .int (nI s)), (5, .ref (a + 1)), (6, .int (nI i)), (7, .int (nI n))]) (st' := [.int (nI k), .int (nI v), .ref 67]) (H' := _) (kc' := 0) (ks' := 0) rfl ?_
    refine RQ.iastN (j := v) rfl ((set_far (by decide)).trans h.2.1) (by omega) (by decide) ?_
    rw [up_nI]
    refine RQ.blk 1 (pc' := 44) (lv' := [(0, .ref 66), (1, .int (nI v)), (2, .int (nI k)), (3, .int (nI dir)), (4, .int (nI s)), (5, .ref (a + 1)), (6, .int (nI i)), (7, .int (nI n))]) (st' := [.ref 66]) (H' := _) (kc' := 0) (ks' := 0) rfl ?_
    refine RQ.get (ci := 9) rfl ((set_far (by decide)).trans (get_set h.1)) rfl rfl ?_
    refine RQ.blk 2 (pc' := 49) (lv' := [(0, .ref 66), (1, .int (nI v)), (2, .int (nI k)), (3, .int (nI dir)), (4, .int (nI s)), (5, .ref (a + 1)), (6, .int (nI i)), (7, .int (nI n))]) (st' := [.int (nI dir), .int (nI v), .ref 68]) (H' := _) (kc' := 0) (ks' := 0) rfl ?_
    refine RQ.iastN (j := v) rfl ((set_far (by decide)).trans ((set_far (by decide)).trans h.2.2.1)) (by omega) (by decide) ?_
    rw [up_nI]
    refine RQ.blk 1 (pc' := 51) (lv' := [(0, .ref 66), (1, .int (nI v)), (2, .int (nI k)), (3, .int (nI dir)), (4, .int (nI s)), (5, .ref (a + 1)), (6, .int (nI i)), (7, .int (nI n))]) (st' := [.ref 66]) (H' := _) (kc' := 0) (ks' := 0) rfl ?_
    refine RQ.get (ci := 9) rfl ((set_far (by decide)).trans ((set_far (by decide)).trans (get_set h.1))) rfl rfl ?_
    refine RQ.blk 2 (pc' := 57) (lv' := [(0, .ref 66), (1, .int (nI v)), (2, .int (nI k)), (3, .int (nI dir)), (4, .int (nI s)), (5, .ref (a + 1)), (6, .int (nI i)), (7, .int (nI n))]) (st' := [.int (nI s), .int (nI v), .ref 69]) (H' := _) (kc' := 0) (ks' := 0) rfl ?_
    refine RQ.iastN (j := v) rfl ((set_far (by decide)).trans ((set_far (by decide)).trans ((set_far (by decide)).trans h.2.2.2.1))) (by omega) (by decide) ?_
    rw [up_nI]
    refine RQ.blk 1 (pc' := 59) (lv' := [(0, .ref 66), (1, .int (nI v)), (2, .int (nI k)), (3, .int (nI dir)), (4, .int (nI s)), (5, .ref (a + 1)), (6, .int (nI i)), (7, .int (nI n))]) (st' := [.ref 66]) (H' := _) (kc' := 0) (ks' := 0) rfl ?_
    refine RQ.get (ci := 9) rfl ((set_far (by decide)).trans ((set_far (by decide)).trans ((set_far (by decide)).trans (get_set h.1)))) rfl rfl ?_
    refine RQ.blk 4 (pc' := 70) (lv' := [(0, .ref 66), (1, .int (nI v)), (2, .int (nI k)), (3, .int (nI dir)), (4, .int (nI s)), (5, .ref (a + 1)), (6, .int (nI i)), (7, .int (nI n))]) (st' := [.int (if 30 < nI n then 30 else nI n), .int (nI v), .ref 70]) (H' := _) (kc' := 0) (ks' := 0) rfl ?_
    rw [show (if 30 < nI n then 30 else nI n : Int32) = nI (min n 30) from minI (a := n) (b := 30) (by omega) (by omega)]
    rw [show min n 30 = n by omega]
    refine RQ.iastN (j := v) rfl ((set_far (by decide)).trans ((set_far (by decide)).trans ((set_far (by decide)).trans ((set_far (by decide)).trans h.2.2.2.2.1)))) (by omega) (by decide) ?_
    rw [up_nI]
    refine RQ.blk 3 (pc' := 76) (lv' := [(0, .ref 66), (1, .int (nI v)), (2, .int (nI k)), (3, .int (nI dir)), (4, .int (nI s)), (5, .ref (a + 1)), (6, .int (nI i)), (7, .int (nI n))]) (st' := [.ref 66, .int (nI i), .ref (a + 1)]) (H' := _) (kc' := 0) (ks' := 0) rfl ?_
    refine RQ.get (ci := 9) rfl ((set_far (by decide)).trans ((set_far (by decide)).trans ((set_far (by decide)).trans ((set_far (by decide)).trans (get_set h.1))))) rfl rfl ?_
    refine RQ.blk 3 (pc' := 83) (lv' := [(0, .ref 66), (1, .int (nI v)), (2, .int (nI k)), (3, .int (nI dir)), (4, .int (nI s)), (5, .ref (a + 1)), (6, .int (nI i)), (7, .int (nI n))]) (st' := [.int (nI v * 30), .ref 71, .int (nI i), .ref (a + 1)]) (H' := _) (kc' := 0) (ks' := 0) rfl ?_
    rw [show (nI v * 30 : Int32) = nI (v * 30) from pk_mul v 30]
    refine RQ.blk 1 (pc' := 84) (lv' := [(0, .ref 66), (1, .int (nI v)), (2, .int (nI k)), (3, .int (nI dir)), (4, .int (nI s)), (5, .ref (a + 1)), (6, .int (nI i)), (7, .int (nI n))]) (st' := [.ref 66, .int (nI (v * 30)), .ref 71, .int (nI i), .ref (a + 1)]) (H' := _) (kc' := 0) (ks' := 0) rfl ?_
    refine RQ.get (ci := 9) rfl ((set_far (by decide)).trans ((set_far (by decide)).trans ((set_far (by decide)).trans ((set_far (by decide)).trans (get_set h.1))))) rfl rfl ?_
    refine RQ.blk 1 (pc' := 88) (lv' := [(0, .ref 66), (1, .int (nI v)), (2, .int (nI k)), (3, .int (nI dir)), (4, .int (nI s)), (5, .ref (a + 1)), (6, .int (nI i)), (7, .int (nI n))]) (st' := [.int (nI v), .ref 70, .int (nI (v * 30)), .ref 71, .int (nI i), .ref (a + 1)]) (H' := _) (kc' := 0) (ks' := 0) rfl ?_
    refine RQ.ialdN (j := v) rfl (get_set ((set_far (by decide)).trans ((set_far (by decide)).trans ((set_far (by decide)).trans ((set_far (by decide)).trans h.2.2.2.2.1))))) (by omega) (by decide) ?_
    rw [up_at]
    refine RQ.call (v := none) (st' := []) rfl rfl rfl rfl rfl rfl rfl (rc_copy (a := a) (b := 70) (na := na) (nb := 6030) (i := i) (j := v * 30) (k := n) ((set_far (by omega)).trans ((set_far (by omega)).trans ((set_far (by omega)).trans ((set_far (by omega)).trans ((set_far (by omega)).trans h1))))) ((set_far (by decide)).trans ((set_far (by decide)).trans ((set_far (by decide)).trans ((set_far (by decide)).trans ((set_far (by decide)).trans h.2.2.2.2.2))))) hna (by decide) hin (by omega)) ?_
    have hno : no + (if kd v = 0 then 1 else 0) = no + 0 := by rw [if_neg c1]
    exact RQ.done (c := 0) (s := 0) rfl rfl rfl rfl ⟨_, rfl, ⟨by show _ = some (kO 9 [_, _, _, _, _, .int (nI (no + (if kd v = 0 then 1 else 0)))]); rw [hno]; exact ((set_far (by decide)).trans ((set_far (by decide)).trans ((set_far (by decide)).trans ((set_far (by decide)).trans ((set_far (by decide)).trans (get_set h.1)))))), ((set_far (by decide)).trans ((set_far (by decide)).trans ((set_far (by decide)).trans ((set_far (by decide)).trans (get_set ((set_far (by decide)).trans h.2.1)))))), ((set_far (by decide)).trans ((set_far (by decide)).trans ((set_far (by decide)).trans (get_set ((set_far (by decide)).trans ((set_far (by decide)).trans h.2.2.1)))))), ((set_far (by decide)).trans ((set_far (by decide)).trans (get_set ((set_far (by decide)).trans ((set_far (by decide)).trans ((set_far (by decide)).trans h.2.2.2.1)))))), ((set_far (by decide)).trans (get_set ((set_far (by decide)).trans ((set_far (by decide)).trans ((set_far (by decide)).trans ((set_far (by decide)).trans h.2.2.2.2.1)))))), (get_set ((set_far (by decide)).trans ((set_far (by decide)).trans ((set_far (by decide)).trans ((set_far (by decide)).trans ((set_far (by decide)).trans h.2.2.2.2.2))))))⟩, fun b hb => (set_far (by omega)).trans ((set_far (by omega)).trans ((set_far (by omega)).trans ((set_far (by omega)).trans ((set_far (by omega)).trans (set_far (by omega))))))⟩
/-- a node's record is taken in -/
def ldT (c : Nat → Int8) (t : aTr) (v : aV) : aTr := if v.1.headD 0 = 1 ∧ v.2.2.2.1 ≠ none then setT (v.1.getD 1 0) (ub (c (v.2.2.1 + 8 + v.1.length))) (ub (c (v.2.2.1 + 8 + v.1.length + 1))) (beN 0 (sl c (v.2.2.1 + 8 + v.1.length + 2) 2)) (v.2.2.2.1.getD 0 - 4) c (v.2.2.1 + 8 + v.1.length + 4) t else t
/-- records of nodes -/
def NodW (B : Nat) (v : aV) : Prop := v.1.headD 0 = 1 → v.1.length = 2 ∧ 1 ≤ v.1.getD 1 0 ∧ v.1.getD 1 0 ≤ 200 ∧ ∀ n, v.2.2.2.1 = some n → 4 ≤ n ∧ n ≤ 34 ∧ v.2.2.1 + 10 + n ≤ B * 2048
/-- an empty tree -/
def T0 (t : aTr) : aTr := (va_up (fun j => if j < 201 then 0 else t.1 j) 0 2, t.2.1, t.2.2.1, t.2.2.2.1, t.2.2.2.2.1, 0)
def TrB (t : aTr) : Prop := ∀ j, j ≤ 200 → t.1 j < 2 ^ 31
theorem TrB.ld {c : Nat → Int8} {t : aTr} {v : aV} (h : TrB t) : TrB (ldT c t v) := by
  unfold ldT
  split
  · intro j hj
    show va_up t.1 (v.1.getD 1 0) _ j < 2 ^ 31
    by_cases e : j = v.1.getD 1 0
    · rw [e, up_at]
      have := ub_lt (c (v.2.2.1 + 8 + v.1.length))
      omega
    · rw [up_ne e]
      exact h j hj
  · exact h
theorem i8_one {x : Int8} : x.toInt32 = 1 ↔ ub x = 1 := by
  constructor
  · intro h
    have h2 := ub_and x
    rw [h] at h2
    have h3 : nI (ub x) = nI 1 := h2.symm.trans rfl
    by_cases e : ub x = 1
    · exact e
    · exfalso
      have h4 := cF_eq (x := nI (ub x)) (y := nI 1) (ub x) 1 e (by have := ub_lt x; omega) (by omega) rfl rfl
      rw [h3] at h4
      exact absurd h4 (by decide)
  · intro h
    rw [show x = 1 from ub_inj (h.trans rfl)]
    rfl
set_option maxRecDepth 20000 in
theorem rn_tload {sc : Nat × (Nat → Int32)} {d N : Nat} {H : aH} {B : Nat} {cf : Nat → Int8} {tf : Nat → Nat} {pq : Option Nat} {bb ov : Nat} {vs : List aV} {t : aTr} (hT : TreeIs H t) (hV : VersIs H N vs) (hC : ChipAt H B cf tf pq bb ov) (hB : B ≤ 128) (hN : ∀ v ∈ vs, NodW B v) : RN sc (d + 2) mr_190 [.ref 66, .ref 75, .ref 72] H (fun H' => TreeIs H' (vs.foldl (ldT cf) (T0 t)) ∧ ∀ a, ¬ (65 ≤ a ∧ a < 71) → H'[a]? = H[a]?) := by
  obtain ⟨kf, kl, mo, pl, le, al, od, sp, sz, ss, ac, hA, hW, hvs⟩ := hV
  have hN2 := hW.1.1
  have hszN := hW.1.2.1
  have hsz : vs.length = sz := by rw [hvs]; unfold vsL; rw [List.length_map, List.length_range]
  refine RN.of ?_
  refine RQ.blk 1 (pc' := 1) (lv' := [(0, .ref 66), (1, .ref 75), (2, .ref 72)]) (st' := [.ref 66]) (H' := _) (kc' := 0) (ks' := 0) rfl ?_
  refine RQ.callN (st' := []) rfl rfl rfl rfl rfl rfl (args_v [] [] rfl rfl (Nat.le_of_ble_eq_true rfl) rfl hT.1 (Nat.le_of_ble_eq_true rfl)) (rn_tclear hT) (fun H1 hx => ?_)
  obtain ⟨hT1, f1⟩ := hx
  refine RQ.blk 1 (pc' := 5) (lv' := [(0, .ref 66), (1, .ref 75), (2, .ref 72)]) (st' := [.ref 72]) (H' := _) (kc' := 0) (ks' := 0) rfl ?_
  refine RQ.get (ci := 1) rfl ((f1 71 (by decide) (by decide)).trans hC.1) rfl rfl ?_
  refine RQ.blk 3 (pc' := 12) (lv' := [(4, .int 0), (3, .ref 73), (0, .ref 66), (1, .ref 75), (2, .ref 72)]) (st' := []) (H' := _) (kc' := 0) (ks' := 0) rfl ?_
  refine RQ.while (S := Nat) (pc := 12) (fun p H' => p ≤ vs.length ∧ TreeIs H' ((vs.take p).foldl (ldT cf) (T0 t)) ∧ TrB ((vs.take p).foldl (ldT cf) (T0 t)) ∧ ∀ a, ¬ (65 ≤ a ∧ a < 71) → H'[a]? = H[a]?) (fun p => [(4, .int (nI p)), (3, .ref 73), (0, .ref 66), (1, .ref 75), (2, .ref 72)]) (fun p => vs.length - p) ?_ 0 H1 ⟨Nat.zero_le _, hT1, ?_, fun a ha => f1 a (by omega) (by omega)⟩
  rotate_left
  · intro j hj
    show (T0 t).1 j < 2 ^ 31
    unfold T0
    show va_up (fun j => if j < 201 then 0 else t.1 j) 0 2 j < 2 ^ 31
    by_cases e : j = 0
    · rw [e, up_at]; omega
    · rw [up_ne e, if_pos (by omega)]; omega
  rintro p H2 ⟨hpv, hT2, hTb, f2⟩ ih
  have hA2 := hA.far (H' := H2) (fun a a1 a2 => f2 a (by omega))
  have hC2 := hC.far (H' := H2) (fun a a1 a2 => f2 a (by omega))
  by_cases hps : p < vs.length
  ·
    have hps2 : p < sz := by omega
    have hod := hW.1.2.2.2.1 p hps2
    have hso := hW.1.2.2.2.2.2 _ hod
    have hkl := hW.2.2.2.2.2.2.2.1 p hps2
    have hve : vs[p]? = some (verO kf kl mo pl le al (od p)) := by rw [hvs]; exact vsL_get hps2
    have hnw := hN _ (List.mem_of_getElem? hve)
    have hfd : ((vs.take (p + 1)).foldl (ldT cf) (T0 t)) = ldT cf ((vs.take p).foldl (ldT cf) (T0 t)) (verO kf kl mo pl le al (od p)) := fold_take hve
    have hhd : (verO kf kl mo pl le al (od p)).1.headD 0 = ub (kf (od p * 41)) := by
      show (sl kf (od p * 41) (kl (od p))).headD 0 = _
      obtain ⟨m, hm⟩ : ∃ m, kl (od p) = m + 1 := ⟨kl (od p) - 1, by omega⟩
      rw [hm]
      rfl
    refine RQ.blk 2 (pc' := 15) (lv' := [(4, .int (nI p)), (3, .ref 73), (0, .ref 66), (1, .ref 75), (2, .ref 72)]) (st' := [.ref 75, .int (nI p)]) (H' := _) (kc' := 0) (ks' := 0) rfl ?_
    refine RQ.get (ci := 10) rfl hA2.1 rfl rfl ?_
    refine RQ.brF rfl rfl rfl (cF_ge p sz) ?_
    refine RQ.blk 1 (pc' := 22) (lv' := [(4, .int (nI p)), (3, .ref 73), (0, .ref 66), (1, .ref 75), (2, .ref 72)]) (st' := [.ref 75]) (H' := _) (kc' := 0) (ks' := 0) rfl ?_
    refine RQ.get (ci := 10) rfl hA2.1 rfl rfl ?_
    refine RQ.blk 1 (pc' := 27) (lv' := [(4, .int (nI p)), (3, .ref 73), (0, .ref 66), (1, .ref 75), (2, .ref 72)]) (st' := [.int (nI p), .ref 82]) (H' := _) (kc' := 0) (ks' := 0) rfl ?_
    refine RQ.ialdN (j := p) rfl hA2.2.2.2.2.2.2.2.1 (by omega) (by omega) ?_
    refine RQ.blk 4 (pc' := 35) (lv' := [(5, .int (nI (od p))), (4, .int (nI p)), (3, .ref 73), (0, .ref 66), (1, .ref 75), (2, .ref 72)]) (st' := [.int (nI (od p) * 41)]) (H' := _) (kc' := 0) (ks' := 0) rfl ?_
    rw [show (nI (od p) * 41 : Int32) = nI ((od p) * 41) from pk_mul (od p) 41]
    refine RQ.blk 2 (pc' := 38) (lv' := [(6, .int (nI ((od p) * 41))), (5, .int (nI (od p))), (4, .int (nI p)), (3, .ref 73), (0, .ref 66), (1, .ref 75), (2, .ref 72)]) (st' := [.ref 75]) (H' := _) (kc' := 0) (ks' := 0) rfl ?_
    refine RQ.get (ci := 10) rfl hA2.1 rfl rfl ?_
    refine RQ.blk 1 (pc' := 43) (lv' := [(6, .int (nI ((od p) * 41))), (5, .int (nI (od p))), (4, .int (nI p)), (3, .ref 73), (0, .ref 66), (1, .ref 75), (2, .ref 72)]) (st' := [.int (nI ((od p) * 41)), .ref 76]) (H' := _) (kc' := 0) (ks' := 0) rfl ?_
    refine RQ.baldN (j := (od p) * 41) rfl hA2.2.1 (by omega) (by omega) ?_
    refine RQ.blk 1 (pc' := 45) (lv' := [(6, .int (nI ((od p) * 41))), (5, .int (nI (od p))), (4, .int (nI p)), (3, .ref 73), (0, .ref 66), (1, .ref 75), (2, .ref 72)]) (st' := [.int 1, .int ((kf ((od p) * 41)).toInt32)]) (H' := _) (kc' := 0) (ks' := 0) rfl ?_
    by_cases hk1 : ub (kf (od p * 41)) = 1
    · refine RQ.brF rfl rfl rfl (by rw [i8_one.mpr hk1]; decide) ?_
      refine RQ.blk 1 (pc' := 49) (lv' := [(6, .int (nI ((od p) * 41))), (5, .int (nI (od p))), (4, .int (nI p)), (3, .ref 73), (0, .ref 66), (1, .ref 75), (2, .ref 72)]) (st' := [.ref 75]) (H' := _) (kc' := 0) (ks' := 0) rfl ?_
      refine RQ.get (ci := 10) rfl hA2.1 rfl rfl ?_
      refine RQ.blk 1 (pc' := 54) (lv' := [(6, .int (nI ((od p) * 41))), (5, .int (nI (od p))), (4, .int (nI p)), (3, .ref 73), (0, .ref 66), (1, .ref 75), (2, .ref 72)]) (st' := [.int (nI (od p)), .ref 80]) (H' := _) (kc' := 0) (ks' := 0) rfl ?_
      refine RQ.ialdN (j := od p) rfl hA2.2.2.2.2.2.1 (by omega) (by omega) ?_
      refine RQ.blk 1 (pc' := 56) (lv' := [(6, .int (nI ((od p) * 41))), (5, .int (nI (od p))), (4, .int (nI p)), (3, .ref 73), (0, .ref 66), (1, .ref 75), (2, .ref 72)]) (st' := [.int 4, .int (lI (le (od p)))]) (H' := _) (kc' := 0) (ks' := 0) rfl ?_
      cases c2 : le (od p) with
      | none =>
        show RQ _ _ _ _ _ (.int 4 :: .int (-1) :: []) _ _ _ _
        refine RQ.brT rfl rfl rfl (by decide) ?_
        refine RQ.blk 1 (pc' := 124) (lv' := [(4, .int (nI p + 1)), (6, .int (nI ((od p) * 41))), (5, .int (nI (od p))), (3, .ref 73), (0, .ref 66), (1, .ref 75), (2, .ref 72)]) (st' := []) (H' := _) (kc' := 0) (ks' := 0) rfl ?_
        rw [show (nI p + 1 : Int32) = nI (p + 1) from nI_add p 1]
        refine RQ.blk 1 (pc' := 12) (lv' := [(4, .int (nI (p + 1))), (6, .int (nI ((od p) * 41))), (5, .int (nI (od p))), (3, .ref 73), (0, .ref 66), (1, .ref 75), (2, .ref 72)]) (st' := []) (H' := _) (kc' := 0) (ks' := 0) rfl ?_
        refine RQ.pick (a := [(4, .int (nI (p + 1))), (3, .ref 73), (0, .ref 66), (1, .ref 75), (2, .ref 72)]) [0, 3, 4, 5, 6] [4, 6, 5, 3, 0, 1, 2] rfl rfl (by decide) ?_
        have hld : ldT cf ((vs.take p).foldl (ldT cf) (T0 t)) (verO kf kl mo pl le al (od p)) = ((vs.take p).foldl (ldT cf) (T0 t)) := by unfold ldT; exact if_neg (fun e => e.2 (show le (od p) = none from c2))
        rw [hld] at hfd
        exact ih (p + 1) H2 ⟨by omega, by rw [hfd]; exact hT2, by rw [hfd]; exact hTb, f2⟩ (by omega)
      | some kc2 =>
        have hnw2 := hnw (hhd.trans hk1)
        obtain ⟨hw1, hw2, hw3, hw4⟩ := hnw2
        obtain ⟨hw4, hw5, hw6⟩ := hw4 kc2 c2
        have hw1 : (sl kf (od p * 41) (kl (od p))).length = 2 := hw1
        rw [sl_length] at hw1
        have hw6 : pl (od p) + 10 + kc2 ≤ B * 2048 := hw6
        show RQ _ _ _ _ _ (.int 4 :: .int (nI kc2) :: []) _ _ _ _
        refine RQ.brF rfl rfl rfl (cF_lt kc2 4) ?_
        refine RQ.blk 2 (pc' := 62) (lv' := [(6, .int (nI ((od p) * 41))), (5, .int (nI (od p))), (4, .int (nI p)), (3, .ref 73), (0, .ref 66), (1, .ref 75), (2, .ref 72)]) (st' := [.int (nI (od p)), .ref 75]) (H' := _) (kc' := 0) (ks' := 0) rfl ?_
        refine RQ.call (v := some (.int (nI (pl (od p) + 8 + kl (od p))))) (st' := []) rfl rfl rfl rfl rfl rfl (args_v [.int (nI (od p))] [] rfl rfl (Nat.le_of_ble_eq_true rfl) rfl hA2.1 (Nat.le_of_ble_eq_true rfl)) (rc_valueAddress hA2 hW.1 hod) ?_
        refine RQ.blk 3 (pc' := 69) (lv' := [(7, .int (nI (pl (od p) + 8 + kl (od p)))), (6, .int (nI ((od p) * 41))), (5, .int (nI (od p))), (4, .int (nI p)), (3, .ref 73), (0, .ref 66), (1, .ref 75), (2, .ref 72)]) (st' := [.ref 75, .ref 66]) (H' := _) (kc' := 0) (ks' := 0) rfl ?_
        refine RQ.get (ci := 10) rfl hA2.1 rfl rfl ?_
        refine RQ.blk 3 (pc' := 76) (lv' := [(7, .int (nI (pl (od p) + 8 + kl (od p)))), (6, .int (nI ((od p) * 41))), (5, .int (nI (od p))), (4, .int (nI p)), (3, .ref 73), (0, .ref 66), (1, .ref 75), (2, .ref 72)]) (st' := [.int (nI ((od p) * 41) + 1), .ref 76, .ref 66]) (H' := _) (kc' := 0) (ks' := 0) rfl ?_
        rw [show (nI ((od p) * 41) + 1 : Int32) = nI ((od p) * 41 + 1) from nI_add ((od p) * 41) 1]
        refine RQ.baldN (j := (od p) * 41 + 1) rfl hA2.2.1 (by omega) (by omega) ?_
        refine RQ.blk 2 (pc' := 81) (lv' := [(7, .int (nI (pl (od p) + 8 + kl (od p)))), (6, .int (nI ((od p) * 41))), (5, .int (nI (od p))), (4, .int (nI p)), (3, .ref 73), (0, .ref 66), (1, .ref 75), (2, .ref 72)]) (st' := [.int (((kf ((od p) * 41 + 1)).toInt32) &&& 255), .ref 66]) (H' := _) (kc' := 0) (ks' := 0) rfl ?_
        rw [ub_and]
        refine RQ.blk 2 (pc' := 84) (lv' := [(7, .int (nI (pl (od p) + 8 + kl (od p)))), (6, .int (nI ((od p) * 41))), (5, .int (nI (od p))), (4, .int (nI p)), (3, .ref 73), (0, .ref 66), (1, .ref 75), (2, .ref 72)]) (st' := [.int (nI (pl (od p) + 8 + kl (od p))), .ref 72, .int (nI (ub (kf (od p * 41 + 1)))), .ref 66]) (H' := _) (kc' := 0) (ks' := 0) rfl ?_
        refine RQ.call (v := some (.int (nI (ub (cf (pl (od p) + 8 + kl (od p))))))) (st' := [.int (nI (ub (kf (od p * 41 + 1)))), .ref 66]) rfl rfl rfl rfl rfl rfl (args_v [.int (nI (pl (od p) + 8 + kl (od p)))] [.int (nI (ub (kf (od p * 41 + 1)))), .ref 66] rfl rfl (Nat.le_of_ble_eq_true rfl) rfl hC2.1 (Nat.le_of_ble_eq_true rfl)) (rc_cat (i := pl (od p) + 8 + kl (od p)) hC2.1 rfl hC2.2.1 (by omega) (by omega)) ?_
        refine RQ.blk 4 (pc' := 92) (lv' := [(7, .int (nI (pl (od p) + 8 + kl (od p)))), (6, .int (nI ((od p) * 41))), (5, .int (nI (od p))), (4, .int (nI p)), (3, .ref 73), (0, .ref 66), (1, .ref 75), (2, .ref 72)]) (st' := [.int (nI (pl (od p) + 8 + kl (od p)) + 1), .ref 72, .int (nI (ub (cf (pl (od p) + 8 + kl (od p))))), .int (nI (ub (kf (od p * 41 + 1)))), .ref 66]) (H' := _) (kc' := 0) (ks' := 0) rfl ?_
        rw [show (nI (pl (od p) + 8 + kl (od p)) + 1 : Int32) = nI (pl (od p) + 8 + kl (od p) + 1) from nI_add (pl (od p) + 8 + kl (od p)) 1]
        refine RQ.call (v := some (.int (nI (ub (cf (pl (od p) + 8 + kl (od p) + 1)))))) (st' := [.int (nI (ub (cf (pl (od p) + 8 + kl (od p))))), .int (nI (ub (kf (od p * 41 + 1)))), .ref 66]) rfl rfl rfl rfl rfl rfl (args_v [.int (nI (pl (od p) + 8 + kl (od p) + 1))] [.int (nI (ub (cf (pl (od p) + 8 + kl (od p))))), .int (nI (ub (kf (od p * 41 + 1)))), .ref 66] rfl rfl (Nat.le_of_ble_eq_true rfl) rfl hC2.1 (Nat.le_of_ble_eq_true rfl)) (rc_cat (i := pl (od p) + 8 + kl (od p) + 1) hC2.1 rfl hC2.2.1 (by omega) (by omega)) ?_
        refine RQ.blk 4 (pc' := 100) (lv' := [(7, .int (nI (pl (od p) + 8 + kl (od p)))), (6, .int (nI ((od p) * 41))), (5, .int (nI (od p))), (4, .int (nI p)), (3, .ref 73), (0, .ref 66), (1, .ref 75), (2, .ref 72)]) (st' := [.int (nI (pl (od p) + 8 + kl (od p)) + 2), .ref 72, .int (nI (ub (cf (pl (od p) + 8 + kl (od p) + 1)))), .int (nI (ub (cf (pl (od p) + 8 + kl (od p))))), .int (nI (ub (kf (od p * 41 + 1)))), .ref 66]) (H' := _) (kc' := 0) (ks' := 0) rfl ?_
        rw [show (nI (pl (od p) + 8 + kl (od p)) + 2 : Int32) = nI (pl (od p) + 8 + kl (od p) + 2) from nI_add (pl (od p) + 8 + kl (od p)) 2]
        refine RQ.blk 1 (pc' := 101) (lv' := [(7, .int (nI (pl (od p) + 8 + kl (od p)))), (6, .int (nI ((od p) * 41))), (5, .int (nI (od p))), (4, .int (nI p)), (3, .ref 73), (0, .ref 66), (1, .ref 75), (2, .ref 72)]) (st' := [.int 2, .int (nI (pl (od p) + 8 + kl (od p) + 2)), .ref 72, .int (nI (ub (cf (pl (od p) + 8 + kl (od p) + 1)))), .int (nI (ub (cf (pl (od p) + 8 + kl (od p))))), .int (nI (ub (kf (od p * 41 + 1)))), .ref 66]) (H' := _) (kc' := 0) (ks' := 0) rfl ?_
        refine RQ.call (v := some (.int (numI cf (pl (od p) + 8 + kl (od p) + 2) 2 0))) (st' := [.int (nI (ub (cf (pl (od p) + 8 + kl (od p) + 1)))), .int (nI (ub (cf (pl (od p) + 8 + kl (od p))))), .int (nI (ub (kf (od p * 41 + 1)))), .ref 66]) rfl rfl rfl rfl rfl rfl (args_v [.int 2, .int (nI (pl (od p) + 8 + kl (od p) + 2))] [.int (nI (ub (cf (pl (od p) + 8 + kl (od p) + 1)))), .int (nI (ub (cf (pl (od p) + 8 + kl (od p))))), .int (nI (ub (kf (od p * 41 + 1)))), .ref 66] rfl rfl (Nat.le_of_ble_eq_true rfl) rfl hC2.1 (Nat.le_of_ble_eq_true rfl)) (rc_cnum (i := pl (od p) + 8 + kl (od p) + 2) (k := 2) hC2.1 rfl hC2.2.1 (by omega) (by omega)) ?_
        rw [show numI cf (pl (od p) + 8 + kl (od p) + 2) 2 0 = nI (beN 0 (sl cf (pl (od p) + 8 + kl (od p) + 2) 2)) by rw [show (0 : Int32) = nI 0 from rfl, numI_be _ _ _ (by have := beN2_lt (f := cf) (i := pl (od p) + 8 + kl (od p) + 2); omega)]]
        refine RQ.blk 4 (pc' := 109) (lv' := [(7, .int (nI (pl (od p) + 8 + kl (od p)))), (6, .int (nI ((od p) * 41))), (5, .int (nI (od p))), (4, .int (nI p)), (3, .ref 73), (0, .ref 66), (1, .ref 75), (2, .ref 72)]) (st' := [.int (nI (pl (od p) + 8 + kl (od p)) + 4), .ref 73, .int (nI (beN 0 (sl cf (pl (od p) + 8 + kl (od p) + 2) 2))), .int (nI (ub (cf (pl (od p) + 8 + kl (od p) + 1)))), .int (nI (ub (cf (pl (od p) + 8 + kl (od p))))), .int (nI (ub (kf (od p * 41 + 1)))), .ref 66]) (H' := _) (kc' := 0) (ks' := 0) rfl ?_
        rw [show (nI (pl (od p) + 8 + kl (od p)) + 4 : Int32) = nI (pl (od p) + 8 + kl (od p) + 4) from nI_add (pl (od p) + 8 + kl (od p)) 4]
        refine RQ.blk 1 (pc' := 110) (lv' := [(7, .int (nI (pl (od p) + 8 + kl (od p)))), (6, .int (nI ((od p) * 41))), (5, .int (nI (od p))), (4, .int (nI p)), (3, .ref 73), (0, .ref 66), (1, .ref 75), (2, .ref 72)]) (st' := [.ref 75, .int (nI (pl (od p) + 8 + kl (od p) + 4)), .ref 73, .int (nI (beN 0 (sl cf (pl (od p) + 8 + kl (od p) + 2) 2))), .int (nI (ub (cf (pl (od p) + 8 + kl (od p) + 1)))), .int (nI (ub (cf (pl (od p) + 8 + kl (od p))))), .int (nI (ub (kf (od p * 41 + 1)))), .ref 66]) (H' := _) (kc' := 0) (ks' := 0) rfl ?_
        refine RQ.get (ci := 10) rfl hA2.1 rfl rfl ?_
        refine RQ.blk 1 (pc' := 115) (lv' := [(7, .int (nI (pl (od p) + 8 + kl (od p)))), (6, .int (nI ((od p) * 41))), (5, .int (nI (od p))), (4, .int (nI p)), (3, .ref 73), (0, .ref 66), (1, .ref 75), (2, .ref 72)]) (st' := [.int (nI (od p)), .ref 80, .int (nI (pl (od p) + 8 + kl (od p) + 4)), .ref 73, .int (nI (beN 0 (sl cf (pl (od p) + 8 + kl (od p) + 2) 2))), .int (nI (ub (cf (pl (od p) + 8 + kl (od p) + 1)))), .int (nI (ub (cf (pl (od p) + 8 + kl (od p))))), .int (nI (ub (kf (od p * 41 + 1)))), .ref 66]) (H' := _) (kc' := 0) (ks' := 0) rfl ?_
        refine RQ.ialdN (j := od p) rfl hA2.2.2.2.2.2.1 (by omega) (by omega) ?_
        rw [show lI (le (od p)) = nI kc2 by rw [c2]; rfl]
        refine RQ.blk 2 (pc' := 118) (lv' := [(7, .int (nI (pl (od p) + 8 + kl (od p)))), (6, .int (nI ((od p) * 41))), (5, .int (nI (od p))), (4, .int (nI p)), (3, .ref 73), (0, .ref 66), (1, .ref 75), (2, .ref 72)]) (st' := [.int (nI kc2 - 4), .int (nI (pl (od p) + 8 + kl (od p) + 4)), .ref 73, .int (nI (beN 0 (sl cf (pl (od p) + 8 + kl (od p) + 2) 2))), .int (nI (ub (cf (pl (od p) + 8 + kl (od p) + 1)))), .int (nI (ub (cf (pl (od p) + 8 + kl (od p))))), .int (nI (ub (kf (od p * 41 + 1)))), .ref 66]) (H' := _) (kc' := 0) (ks' := 0) rfl ?_
        rw [show (nI kc2 - 4 : Int32) = nI (kc2 - 4) from pk_sub (a := kc2) (b := 4) (by omega)]
        have hgd : (sl kf (od p * 41) (kl (od p))).getD 1 0 = ub (kf (od p * 41 + 1)) := by rw [hw1]; rfl
        have hw2 : 1 ≤ (sl kf (od p * 41) (kl (od p))).getD 1 0 := hw2
        have hw3 : (sl kf (od p * 41) (kl (od p))).getD 1 0 ≤ 200 := hw3
        rw [hgd] at hw2 hw3
        refine RQ.callN (st' := []) rfl rfl rfl rfl rfl rfl (args_v [.int (nI (kc2 - 4)), .int (nI (pl (od p) + 8 + kl (od p) + 4)), .ref 73, .int (nI (beN 0 (sl cf (pl (od p) + 8 + kl (od p) + 2) 2))), .int (nI (ub (cf (pl (od p) + 8 + kl (od p) + 1)))), .int (nI (ub (cf (pl (od p) + 8 + kl (od p))))), .int (nI (ub (kf (od p * 41 + 1))))] [] rfl rfl (Nat.le_of_ble_eq_true rfl) rfl hT2.1 (Nat.le_of_ble_eq_true rfl)) (rn_tset (v := ub (kf (od p * 41 + 1))) (k := ub (cf (pl (od p) + 8 + kl (od p)))) (dir := ub (cf (pl (od p) + 8 + kl (od p) + 1))) (s := beN 0 (sl cf (pl (od p) + 8 + kl (od p) + 2) 2)) (a := 72) (na := B * 2048) (i := pl (od p) + 8 + kl (od p) + 4) (n := kc2 - 4) hT2 (hTb _ hw3) hC2.2.1 (by omega) (by decide) (by omega) hw2 hw3 (by omega)) (fun H3 hx3 => ?_)
        obtain ⟨hT3, f3⟩ := hx3
        refine RQ.blk 1 (pc' := 124) (lv' := [(4, .int (nI p + 1)), (7, .int (nI (pl (od p) + 8 + kl (od p)))), (6, .int (nI ((od p) * 41))), (5, .int (nI (od p))), (3, .ref 73), (0, .ref 66), (1, .ref 75), (2, .ref 72)]) (st' := []) (H' := _) (kc' := 0) (ks' := 0) rfl ?_
        rw [show (nI p + 1 : Int32) = nI (p + 1) from nI_add p 1]
        refine RQ.blk 1 (pc' := 12) (lv' := [(4, .int (nI (p + 1))), (7, .int (nI (pl (od p) + 8 + kl (od p)))), (6, .int (nI ((od p) * 41))), (5, .int (nI (od p))), (3, .ref 73), (0, .ref 66), (1, .ref 75), (2, .ref 72)]) (st' := []) (H' := _) (kc' := 0) (ks' := 0) rfl ?_
        refine RQ.pick (a := [(4, .int (nI (p + 1))), (3, .ref 73), (0, .ref 66), (1, .ref 75), (2, .ref 72)]) [0, 4, 5, 6, 7] [4, 7, 6, 5, 3, 0, 1, 2] rfl rfl (by decide) ?_
        have hld : ldT cf ((vs.take p).foldl (ldT cf) (T0 t)) (verO kf kl mo pl le al (od p)) = setT (ub (kf (od p * 41 + 1))) (ub (cf (pl (od p) + 8 + kl (od p)))) (ub (cf (pl (od p) + 8 + kl (od p) + 1))) (beN 0 (sl cf (pl (od p) + 8 + kl (od p) + 2) 2)) (kc2 - 4) cf (pl (od p) + 8 + kl (od p) + 4) ((vs.take p).foldl (ldT cf) (T0 t)) := by
          unfold ldT
          rw [if_pos ⟨hhd.trans hk1, by show le (od p) ≠ none; rw [c2]; exact Option.some_ne_none _⟩]
          show setT ((sl kf (od p * 41) (kl (od p))).getD 1 0) (ub (cf (pl (od p) + 8 + (sl kf (od p * 41) (kl (od p))).length))) (ub (cf (pl (od p) + 8 + (sl kf (od p * 41) (kl (od p))).length + 1))) (beN 0 (sl cf (pl (od p) + 8 + (sl kf (od p * 41) (kl (od p))).length + 2) 2)) ((le (od p)).getD 0 - 4) cf (pl (od p) + 8 + (sl kf (od p * 41) (kl (od p))).length + 4) _ = _
          rw [hgd, sl_length, c2]
          rfl
        have hTb2 := hTb.ld (c := cf) (v := verO kf kl mo pl le al (od p))
        rw [← hfd] at hTb2
        rw [hld] at hfd
        exact ih (p + 1) H3 ⟨by omega, by rw [hfd]; exact hT3, hTb2, fun a ha => (f3 a ha).trans (f2 a ha)⟩ (by omega)
    · refine RQ.brT rfl rfl rfl (bnt (fun e => hk1 (i8_one.mp e))) ?_
      refine RQ.blk 1 (pc' := 124) (lv' := [(4, .int (nI p + 1)), (6, .int (nI ((od p) * 41))), (5, .int (nI (od p))), (3, .ref 73), (0, .ref 66), (1, .ref 75), (2, .ref 72)]) (st' := []) (H' := _) (kc' := 0) (ks' := 0) rfl ?_
      rw [show (nI p + 1 : Int32) = nI (p + 1) from nI_add p 1]
      refine RQ.blk 1 (pc' := 12) (lv' := [(4, .int (nI (p + 1))), (6, .int (nI ((od p) * 41))), (5, .int (nI (od p))), (3, .ref 73), (0, .ref 66), (1, .ref 75), (2, .ref 72)]) (st' := []) (H' := _) (kc' := 0) (ks' := 0) rfl ?_
      refine RQ.pick (a := [(4, .int (nI (p + 1))), (3, .ref 73), (0, .ref 66), (1, .ref 75), (2, .ref 72)]) [0, 3, 4, 5, 6] [4, 6, 5, 3, 0, 1, 2] rfl rfl (by decide) ?_
      have hld : ldT cf ((vs.take p).foldl (ldT cf) (T0 t)) (verO kf kl mo pl le al (od p)) = ((vs.take p).foldl (ldT cf) (T0 t)) := by unfold ldT; exact if_neg (fun e => hk1 (hhd.symm.trans e.1))
      rw [hld] at hfd
      exact ih (p + 1) H2 ⟨by omega, by rw [hfd]; exact hT2, by rw [hfd]; exact hTb, f2⟩ (by omega)
  ·
    have hpe : p = vs.length := by omega
    rw [hpe, List.take_of_length_le (Nat.le_refl _)] at hT2
    refine RQ.blk 2 (pc' := 15) (lv' := [(4, .int (nI p)), (3, .ref 73), (0, .ref 66), (1, .ref 75), (2, .ref 72)]) (st' := [.ref 75, .int (nI p)]) (H' := _) (kc' := 0) (ks' := 0) rfl ?_
    refine RQ.get (ci := 10) rfl hA2.1 rfl rfl ?_
    refine RQ.brT rfl rfl rfl (cT_ge p sz) ?_
    exact RQ.done (c := 0) (s := 0) rfl rfl rfl rfl ⟨_, rfl, hT2, f2⟩
