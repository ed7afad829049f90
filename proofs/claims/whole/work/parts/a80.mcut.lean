/-! ===== what lies behind a size is cut off, a node is forgotten; reference; written by wip/gen/mcut.py ===== -/
def PcOk (x : aPc) : Prop := x.1 ≤ 200 ∧ x.2.1 ≤ 32 ∧ x.2.2.length ≤ 512
/-- what is left of a piece -/
def cutE (f n : Nat) (x : aPc) : Option aPc := if x.1 = f then (if n ≤ 512 * x.2.1 then none else some (x.1, x.2.1, x.2.2.take (n - 512 * x.2.1))) else some x
theorem perm_set {α : Type} {l : List α} {k : Nat} {y : α} (h : k < l.length) : (l.set k y).Perm (y :: l.eraseIdx k) := by
  rw [List.set_eq_take_append_cons_drop, if_pos h, List.eraseIdx_eq_take_drop_succ]
  exact List.perm_middle
theorem perm_at {α : Type} {l : List α} {k : Nat} {x : α} (h : l[k]? = some x) : l.Perm (x :: l.eraseIdx k) := by
  have hk := get_lt h
  have e := perm_set (y := x) hk
  rw [List.getElem?_eq_getElem hk] at h
  rw [← Option.some.inj h, List.set_getElem_self] at e
  rw [← Option.some.inj h]
  exact e
theorem take_at {α : Type} {l : List α} {i : Nat} {x : α} (h : l[i - 1]? = some x) (hi : ¬ i = 0) : l.take i = l.take (i - 1) ++ [x] := by
  rw [show i = i - 1 + 1 by omega, List.take_add_one, show i - 1 + 1 - 1 = i - 1 by omega, h]
  rfl
theorem drop_at {α : Type} {l : List α} {i : Nat} {x : α} (h : l[i - 1]? = some x) (hi : ¬ i = 0) : l.drop (i - 1) = x :: l.drop i := by
  have hk := get_lt h
  rw [List.drop_eq_getElem_cons hk, show i - 1 + 1 = i by omega]
  rw [List.getElem?_eq_getElem hk] at h
  rw [Option.some.inj h]
theorem cutP_step {F : aPc → Option aPc} {ps cur cur' : List aPc} {i : Nat} {x : aPc} (hi : ¬ i = 0) (hx : ps[i - 1]? = some x) (hc : cur[i - 1]? = some x) (hp : cur.Perm (ps.take i ++ (ps.drop i).filterMap F)) (hn : match F x with | some y => cur'.Perm (y :: cur.eraseIdx (i - 1)) | none => cur'.Perm (cur.eraseIdx (i - 1))) : cur'.Perm (ps.take (i - 1) ++ (ps.drop (i - 1)).filterMap F) := by
  have e1 : (cur.eraseIdx (i - 1)).Perm (ps.take (i - 1) ++ (ps.drop i).filterMap F) := by
    refine List.Perm.cons_inv (a := x) ?_
    refine (perm_at hc).symm.trans (hp.trans ?_)
    rw [take_at hx hi, List.append_assoc]
    exact List.perm_middle
  rw [drop_at hx hi, List.filterMap_cons]
  cases hf : F x with
  | none =>
    rw [hf] at hn
    exact hn.trans e1
  | some y =>
    rw [hf] at hn
    exact hn.trans ((e1.cons y).trans List.perm_middle.symm)
theorem dropP_take {ps : List aPc} {p : Nat} (hp : p < ps.length) : (dropP ps p).take p = ps.take p := by
  obtain ⟨z, hz⟩ := lt_get (show ps.length - 1 < ps.length by omega)
  unfold dropP
  rw [hz]
  dsimp only
  rw [List.take_take, Nat.min_eq_left (by omega), List.take_set_of_le (Nat.le_refl _)]
theorem dropP_len {ps : List aPc} {p : Nat} (hp : p < ps.length) : (dropP ps p).length = ps.length - 1 := by
  obtain ⟨z, hz⟩ := lt_get (show ps.length - 1 < ps.length by omega)
  unfold dropP
  rw [hz]
  dsimp only
  rw [List.length_take, List.length_set]
  omega
theorem rn_cutOff {sc : Nat × (Nat → Int32)} {d : Nat} {H : aH} {fa li dn cw cl tp rs pr ve us : Int32} {ba bo : Nat} {ps : List aPc} {f n : Nat} (hm : H[195]? = some (kO 12 (mfs fa li dn cw cl tp rs pr ve us (nI ps.length) (nI (plen ps)) ba bo))) (h : PcsIs H ps) (hpi : ps.length ≤ 1300) (hhu : plen ps ≤ 40000) (hok : ∀ x ∈ ps, PcOk x) (hf : f ≤ 200) (hn : n ≤ 16384) : RN sc (d + 2) mr_314 [.ref 196, .int (nI f), .int (nI n)] H (fun H' => ∃ cur, H'[195]? = some (kO 12 (mfs fa li dn cw cl tp rs pr ve us (nI cur.length) (nI (plen cur)) ba bo)) ∧ PcsIs H' cur ∧ cur.Perm (ps.filterMap (cutE f n)) ∧ cur.length ≤ ps.length ∧ plen cur ≤ plen ps ∧ ∀ a, ¬ (a = 195 ∨ (218 ≤ a ∧ a < 223)) → H'[a]? = H[a]?) := by
  refine RN.of ?_
  refine RQ.blk 1 (pc' := 1) (lv' := [(0, .ref 196), (1, .int (nI f)), (2, .int (nI n))]) (st' := [.ref 196]) (H' := _) (kc' := 0) (ks' := 0) rfl ?_
  refine RQ.get (ci := 12) rfl hm rfl rfl ?_
  refine RQ.blk 2 (pc' := 6) (lv' := [(0, .ref 196), (1, .int (nI f)), (2, .int (nI n))]) (st' := [.int (nI ps.length - 1)]) (H' := _) (kc' := 0) (ks' := 0) rfl ?_
  rw [show (nI ps.length - 1 : Int32) = nI ps.length + (-1) from Int32.sub_eq_add_neg ..]
  refine RQ.blk 1 (pc' := 7) (lv' := [(3, .int (nI ps.length + (-1))), (0, .ref 196), (1, .int (nI f)), (2, .int (nI n))]) (st' := []) (H' := _) (kc' := 0) (ks' := 0) rfl ?_
  refine RQ.pick (a := [(3, .int (nI ps.length + (-1))), (0, .ref 196), (1, .int (nI f)), (2, .int (nI n))]) [0, 1, 2, 3] [3, 0, 1, 2] rfl rfl (by decide) ?_
  refine RQ.while (S := Nat) (pc := 7) (fun i H' => ∃ cur, i ≤ ps.length ∧ i ≤ cur.length ∧ H'[195]? = some (kO 12 (mfs fa li dn cw cl tp rs pr ve us (nI cur.length) (nI (plen cur)) ba bo)) ∧ PcsIs H' cur ∧ cur.take i = ps.take i ∧ cur.Perm (ps.take i ++ (ps.drop i).filterMap (cutE f n)) ∧ cur.length ≤ ps.length ∧ plen cur ≤ plen ps ∧ ∀ a, ¬ (a = 195 ∨ (218 ≤ a ∧ a < 223)) → H'[a]? = H[a]?) (fun i => [(3, .int (nI i + (-1))), (0, .ref 196), (1, .int (nI f)), (2, .int (nI n))]) (fun i => i) ?_ ps.length H ⟨ps, Nat.le_refl _, Nat.le_refl _, hm, h, rfl, by rw [List.take_of_length_le (Nat.le_refl _), List.drop_of_length_le (Nat.le_refl _), List.filterMap_nil, List.append_nil], Nat.le_refl _, Nat.le_refl _, fun a _ => rfl⟩
  rintro i H2 ⟨cur, hi1, hi2, hm2, hP2, htk, hpm, hcl, hcp, f2⟩ ih
  by_cases hi0 : i = 0
  ·
    subst hi0
    show RQ _ _ _ _ [(3, .int (-1)), (0, .ref 196), (1, .int (nI f)), (2, .int (nI n))] _ _ _ _ _
    refine RQ.blk 1 (pc' := 8) (lv' := [(3, .int (-1)), (0, .ref 196), (1, .int (nI f)), (2, .int (nI n))]) (st' := [.int (-1)]) (H' := _) (kc' := 0) (ks' := 0) rfl ?_
    refine RQ.brT rfl rfl rfl (by decide) ?_
    rw [List.take_zero, List.drop_zero, List.nil_append] at hpm
    exact RQ.done (c := 0) (s := 0) rfl rfl rfl rfl ⟨_, rfl, cur, hm2, hP2, hpm, hcl, hcp, f2⟩
  ·
    rw [nI_dec (by omega)]
    obtain ⟨x, hx⟩ := lt_get (show i - 1 < ps.length by omega)
    have hcx : cur[i - 1]? = some x := by rw [← List.getElem?_take_of_lt (show i - 1 < i by omega), htk, List.getElem?_take_of_lt (show i - 1 < i by omega)]; exact hx
    have hxo := hok x (List.mem_of_getElem? hx)
    obtain ⟨o1, o2, o3⟩ := hxo
    obtain ⟨pf, px, pz, pa, hd, hA, hE, hD⟩ := id hP2
    obtain ⟨e1, e2, e3, e4, e5⟩ := hE _ x hcx
    have htk1 : cur.take (i - 1) = ps.take (i - 1) := by have e9 := congrArg (List.take (i - 1)) htk; rw [List.take_take, List.take_take, Nat.min_eq_left (by omega)] at e9; exact e9
    refine RQ.blk 1 (pc' := 8) (lv' := [(3, .int (nI (i - 1))), (0, .ref 196), (1, .int (nI f)), (2, .int (nI n))]) (st' := [.int (nI (i - 1))]) (H' := _) (kc' := 0) (ks' := 0) rfl ?_
    refine RQ.brF rfl rfl rfl (cF_lt (i - 1) 0) ?_
    refine RQ.blk 1 (pc' := 12) (lv' := [(3, .int (nI (i - 1))), (0, .ref 196), (1, .int (nI f)), (2, .int (nI n))]) (st' := [.ref 196]) (H' := _) (kc' := 0) (ks' := 0) rfl ?_
    refine RQ.get (ci := 12) rfl hm2 rfl rfl ?_
    refine RQ.blk 1 (pc' := 16) (lv' := [(3, .int (nI (i - 1))), (0, .ref 196), (1, .int (nI f)), (2, .int (nI n))]) (st' := [.int (nI (i - 1)), .ref 219]) (H' := _) (kc' := 0) (ks' := 0) rfl ?_
    refine RQ.ialdN (j := (i - 1)) rfl hA.1 (by omega) (by decide) ?_
    rw [e1]
    refine RQ.blk 1 (pc' := 18) (lv' := [(3, .int (nI (i - 1))), (0, .ref 196), (1, .int (nI f)), (2, .int (nI n))]) (st' := [.int (nI f), .int (nI x.1)]) (H' := _) (kc' := 0) (ks' := 0) rfl ?_
    by_cases kf : x.1 = f
    · refine RQ.brT rfl rfl rfl (cT_eq x.1 f) ?_
      refine RQ.blk 3 (pc' := 29) (lv' := [(3, .int (nI (i - 1))), (0, .ref 196), (1, .int (nI f)), (2, .int (nI n))]) (st' := [.ref 196, .int 512, .int (nI n)]) (H' := _) (kc' := 0) (ks' := 0) rfl ?_
      refine RQ.get (ci := 12) rfl hm2 rfl rfl ?_
      refine RQ.blk 1 (pc' := 33) (lv' := [(3, .int (nI (i - 1))), (0, .ref 196), (1, .int (nI f)), (2, .int (nI n))]) (st' := [.int (nI (i - 1)), .ref 220, .int 512, .int (nI n)]) (H' := _) (kc' := 0) (ks' := 0) rfl ?_
      refine RQ.ialdN (j := (i - 1)) rfl hA.2.1 (by omega) (by decide) ?_
      rw [e2]
      refine RQ.blk 1 (pc' := 35) (lv' := [(3, .int (nI (i - 1))), (0, .ref 196), (1, .int (nI f)), (2, .int (nI n))]) (st' := [.int (512 * nI x.2.1), .int (nI n)]) (H' := _) (kc' := 0) (ks' := 0) rfl ?_
      rw [show (512 * nI x.2.1 : Int32) = nI (512 * x.2.1) from pk_mul 512 x.2.1]
      by_cases kn : n ≤ 512 * x.2.1
      · refine RQ.blk 1 (pc' := 36) (lv' := [(3, .int (nI (i - 1))), (0, .ref 196), (1, .int (nI f)), (2, .int (nI n))]) (st' := [.int (nI n - nI (512 * x.2.1))]) (H' := _) (kc' := 0) (ks' := 0) rfl ?_
        refine RQ.blk 2 (pc' := 40) (lv' := [(4, .int (nI n - nI (512 * x.2.1))), (3, .int (nI (i - 1))), (0, .ref 196), (1, .int (nI f)), (2, .int (nI n))]) (st' := [.int (nI n - nI (512 * x.2.1))]) (H' := _) (kc' := 0) (ks' := 0) rfl ?_
        refine RQ.brF rfl rfl rfl (by have h9 := neg_le (a := n) (b := 512 * x.2.1) (by omega) (by omega) kn; exact decide_eq_false (Int32.not_lt.mpr h9)) ?_
        refine RQ.blk 2 (pc' := 45) (lv' := [(4, .int (nI n - nI (512 * x.2.1))), (3, .int (nI (i - 1))), (0, .ref 196), (1, .int (nI f)), (2, .int (nI n))]) (st' := [.int (nI (i - 1)), .ref 196]) (H' := _) (kc' := 0) (ks' := 0) rfl ?_
        refine RQ.callN (st' := []) rfl rfl rfl rfl rfl rfl (args_v [.int (nI (i - 1))] [] rfl rfl (Nat.le_of_ble_eq_true rfl) rfl hm2 (Nat.le_of_ble_eq_true rfl)) (rn_dropP (d := d) hm2 hP2 (get_lt hcx) (by omega) (by omega)) (fun H3 hx3 => ?_)
        obtain ⟨hm3, hP3, f3⟩ := hx3
        refine RQ.blk 1 (pc' := 69) (lv' := [(4, .int (nI n - nI (512 * x.2.1))), (3, .int (nI (i - 1))), (0, .ref 196), (1, .int (nI f)), (2, .int (nI n))]) (st' := []) (H' := _) (kc' := 0) (ks' := 0) rfl ?_
        refine RQ.blk 2 (pc' := 7) (lv' := [(3, .int ((nI (i - 1)) + (-1))), (4, .int (nI n - nI (512 * x.2.1))), (0, .ref 196), (1, .int (nI f)), (2, .int (nI n))]) (st' := []) (H' := _) (kc' := 0) (ks' := 0) rfl ?_
        have hF : cutE f n x = none := by unfold cutE; rw [if_pos kf, if_pos kn]
        have hpp := dropP_perm (get_lt hcx)
        have hpe := plen_erase hcx
        have hpl := plen_perm hpp
        have hdl := dropP_len (get_lt hcx)
        refine RQ.pick (a := [(3, .int ((nI (i - 1)) + (-1))), (0, .ref 196), (1, .int (nI f)), (2, .int (nI n))]) [0, 2, 3, 4] [3, 4, 0, 1, 2] rfl rfl (by decide) ?_
        exact ih (i - 1) _ ⟨dropP cur (i - 1), by omega, by omega, hm3, hP3, (dropP_take (get_lt hcx)).trans htk1, cutP_step hi0 hx hcx hpm (by rw [hF]; exact hpp), by omega, by omega, fun a ha => (f3 a ha).trans (f2 a ha)⟩ (by omega)
      · refine RQ.blk 1 (pc' := 36) (lv' := [(3, .int (nI (i - 1))), (0, .ref 196), (1, .int (nI f)), (2, .int (nI n))]) (st' := [.int (nI n - nI (512 * x.2.1))]) (H' := _) (kc' := 0) (ks' := 0) rfl ?_
        rw [show (nI n - nI (512 * x.2.1) : Int32) = nI (n - (512 * x.2.1)) from pk_sub (a := n) (b := (512 * x.2.1)) (by omega)]
        refine RQ.blk 2 (pc' := 40) (lv' := [(4, .int (nI (n - (512 * x.2.1)))), (3, .int (nI (i - 1))), (0, .ref 196), (1, .int (nI f)), (2, .int (nI n))]) (st' := [.int (nI (n - (512 * x.2.1)))]) (H' := _) (kc' := 0) (ks' := 0) rfl ?_
        refine RQ.brT rfl rfl rfl (cT_gt (n - 512 * x.2.1) 0) ?_
        refine RQ.blk 1 (pc' := 52) (lv' := [(4, .int (nI (n - (512 * x.2.1)))), (3, .int (nI (i - 1))), (0, .ref 196), (1, .int (nI f)), (2, .int (nI n))]) (st' := [.ref 196]) (H' := _) (kc' := 0) (ks' := 0) rfl ?_
        refine RQ.get (ci := 12) rfl hm2 rfl rfl ?_
        refine RQ.blk 1 (pc' := 56) (lv' := [(4, .int (nI (n - (512 * x.2.1)))), (3, .int (nI (i - 1))), (0, .ref 196), (1, .int (nI f)), (2, .int (nI n))]) (st' := [.int (nI (i - 1)), .ref 221]) (H' := _) (kc' := 0) (ks' := 0) rfl ?_
        refine RQ.ialdN (j := (i - 1)) rfl hA.2.2.1 (by omega) (by decide) ?_
        rw [e3]
        refine RQ.blk 1 (pc' := 59) (lv' := [(4, .int (nI (n - (512 * x.2.1)))), (3, .int (nI (i - 1))), (0, .ref 196), (1, .int (nI f)), (2, .int (nI n))]) (st' := [.int (nI (n - (512 * x.2.1))), .int (nI x.2.2.length)]) (H' := _) (kc' := 0) (ks' := 0) rfl ?_
        by_cases kz : n - 512 * x.2.1 < x.2.2.length
        · refine RQ.brF rfl rfl rfl (cF_le x.2.2.length (n - 512 * x.2.1)) ?_
          refine RQ.blk 3 (pc' := 66) (lv' := [(4, .int (nI (n - (512 * x.2.1)))), (3, .int (nI (i - 1))), (0, .ref 196), (1, .int (nI f)), (2, .int (nI n))]) (st' := [.int (nI (n - (512 * x.2.1))), .int (nI (i - 1)), .ref 196]) (H' := _) (kc' := 0) (ks' := 0) rfl ?_
          have hps := plen_set (y := (x.1, x.2.1, fitB x.2.2 (n - 512 * x.2.1))) hcx
          rw [show ((x.1, x.2.1, fitB x.2.2 (n - 512 * x.2.1)) : aPc).2.2.length = n - 512 * x.2.1 from fitB_len _ _] at hps
          change plen (keepP cur (i - 1) (n - 512 * x.2.1) x) + _ = _ at hps
          have hkl : (keepP cur (i - 1) (n - 512 * x.2.1) x).length = cur.length := List.length_set
          refine RQ.callN (st' := []) rfl rfl rfl rfl rfl rfl (args_v [.int (nI (n - (512 * x.2.1))), .int (nI (i - 1))] [] rfl rfl (Nat.le_of_ble_eq_true rfl) rfl hm2 (Nat.le_of_ble_eq_true rfl)) (rn_keepL (d := d + 1) (n := n - 512 * x.2.1) hm2 hP2 hcx (by omega) (by omega) (by omega) (by omega)) (fun H3 hx3 => ?_)
          obtain ⟨hm3, hP3, f3⟩ := hx3
          refine RQ.blk 2 (pc' := 7) (lv' := [(3, .int ((nI (i - 1)) + (-1))), (4, .int (nI (n - (512 * x.2.1)))), (0, .ref 196), (1, .int (nI f)), (2, .int (nI n))]) (st' := []) (H' := _) (kc' := 0) (ks' := 0) rfl ?_
          have hF : cutE f n x = some (x.1, x.2.1, x.2.2.take (n - 512 * x.2.1)) := by unfold cutE; rw [if_pos kf, if_neg kn]
          have hfit : fitB x.2.2 (n - 512 * x.2.1) = x.2.2.take (n - 512 * x.2.1) := by unfold fitB; rw [show n - 512 * x.2.1 - x.2.2.length = 0 by omega, List.replicate_zero, List.append_nil]
          refine RQ.pick (a := [(3, .int ((nI (i - 1)) + (-1))), (0, .ref 196), (1, .int (nI f)), (2, .int (nI n))]) [0, 2, 3, 4] [3, 4, 0, 1, 2] rfl rfl (by decide) ?_
          exact ih (i - 1) _ ⟨keepP cur (i - 1) (n - 512 * x.2.1) x, by omega, by omega, hm3, hP3, by unfold keepP; rw [List.take_set_of_le (Nat.le_refl _)]; exact htk1, cutP_step hi0 hx hcx hpm (by rw [hF, ← hfit]; exact perm_set (get_lt hcx)), by omega, by omega, fun a ha => (f3 a (by omega)).trans (f2 a ha)⟩ (by omega)
        · refine RQ.brT rfl rfl rfl (cT_le x.2.2.length (n - 512 * x.2.1)) ?_
          refine RQ.blk 2 (pc' := 7) (lv' := [(3, .int ((nI (i - 1)) + (-1))), (4, .int (nI (n - (512 * x.2.1)))), (0, .ref 196), (1, .int (nI f)), (2, .int (nI n))]) (st' := []) (H' := _) (kc' := 0) (ks' := 0) rfl ?_
          have hF : cutE f n x = some x := by unfold cutE; rw [if_pos kf, if_neg kn, List.take_of_length_le (by omega)]
          refine RQ.pick (a := [(3, .int ((nI (i - 1)) + (-1))), (0, .ref 196), (1, .int (nI f)), (2, .int (nI n))]) [0, 2, 3, 4] [3, 4, 0, 1, 2] rfl rfl (by decide) ?_
          exact ih (i - 1) _ ⟨cur, by omega, by omega, hm2, hP2, htk1, cutP_step hi0 hx hcx hpm (by rw [hF]; exact perm_at hcx), hcl, hcp, f2⟩ (by omega)
    · refine RQ.brF rfl rfl rfl (cF_eq x.1 f) ?_
      refine RQ.blk 1 (pc' := 69) (lv' := [(3, .int (nI (i - 1))), (0, .ref 196), (1, .int (nI f)), (2, .int (nI n))]) (st' := []) (H' := _) (kc' := 0) (ks' := 0) rfl ?_
      refine RQ.blk 2 (pc' := 7) (lv' := [(3, .int ((nI (i - 1)) + (-1))), (0, .ref 196), (1, .int (nI f)), (2, .int (nI n))]) (st' := []) (H' := _) (kc' := 0) (ks' := 0) rfl ?_
      have hF : cutE f n x = some x := by unfold cutE; rw [if_neg kf]
      refine RQ.pick (a := [(3, .int ((nI (i - 1)) + (-1))), (0, .ref 196), (1, .int (nI f)), (2, .int (nI n))]) [0, 1, 2, 3] [3, 0, 1, 2] rfl rfl (by decide) ?_
      exact ih (i - 1) _ ⟨cur, by omega, by omega, hm2, hP2, htk1, cutP_step hi0 hx hcx hpm (by rw [hF]; exact perm_at hcx), hcl, hcp, f2⟩ (by omega)
