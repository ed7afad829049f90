/-! ===== count: needed and the keys; the case of the law, from every state of the invariant; written by wip/gen/count6.py ===== -/
theorem rc_count3 {sc : Nat × (Nat → Int32)} {d N P : Nat} {H : aH} {bl pr cw cl cp cb : Int32} {op : Nat → Bool} {sm : Nat → Nat} {vs : List aV} {vf : List Value} (h0 : H[0]? = some (kO 11 (fvs bl pr 1 cw cl cp cb))) (h74 : H[74]? = some (kO 10 vf)) (hs : SightAt H op sm) (hsm : ∀ t, t < 8 → sm t < 2 ^ 31) (hV : VersIs H N vs) (hpr : ∀ v ∈ vs, v.2.1 ≤ P) : RC sc (d + 3) mr_196 [.ref 1, .int (nI 3)] H (.inl (some (.int (nI (sumN op sm (-1) P (kmV vs) vs))))) H 0 0 := by
  refine RP.blk 4 (pc' := 5) (lv' := [(0, .ref 1), (1, .int (nI 3))]) (st' := [.int 9, .int 0, .int (nI 3), .ref 1]) (H' := _) (kc' := 0) (ks' := 0) rfl ?_
  refine RP.call (v := none) (st' := []) rfl rfl rfl rfl rfl rfl (args_v [.int 9, .int 0, .int (nI 3)] [] rfl rfl (Nat.le_of_ble_eq_true rfl) rfl h0 (Nat.le_of_ble_eq_true rfl)) (rc_range (lo := 0) (hi := 9) (nI_pos (by decide)) (nI_le (b := 9) (by decide) (by decide))) ?_
  refine RP.blk 1 (pc' := 9) (lv' := [(0, .ref 1), (1, .int (nI 3))]) (st' := [.int (nI 3)]) (H' := _) (kc' := 0) (ks' := 0) rfl ?_
  refine RP.brF rfl rfl rfl (cF_eq 3 0) ?_
  refine RP.blk 2 (pc' := 14) (lv' := [(0, .ref 1), (1, .int (nI 3))]) (st' := [.int 3, .int (nI 3)]) (H' := _) (kc' := 0) (ks' := 0) rfl ?_
  refine RP.brT rfl rfl rfl (cT_eq 3 3) ?_
  refine RP.blk 1 (pc' := 29) (lv' := [(0, .ref 1), (1, .int (nI 3))]) (st' := [.ref 1]) (H' := _) (kc' := 0) (ks' := 0) rfl ?_
  refine RP.call (v := none) (st' := []) rfl rfl rfl rfl rfl rfl (args_v [] [] rfl rfl (Nat.le_of_ble_eq_true rfl) rfl h0 (Nat.le_of_ble_eq_true rfl)) (rc_up h0 rfl) ?_
  refine RP.blk 1 (pc' := 33) (lv' := [(0, .ref 1), (1, .int (nI 3))]) (st' := [.int (nI 3)]) (H' := _) (kc' := 0) (ks' := 0) rfl ?_
  refine RP.blk 1 (pc' := 110) (lv' := [(0, .ref 1), (1, .int (nI 3))]) (st' := []) (H' := _) (kc' := 0) (ks' := 0) rfl ?_
  refine RP.blk 1 (pc' := 111) (lv' := [(0, .ref 1), (1, .int (nI 3))]) (st' := [.ref 1]) (H' := _) (kc' := 0) (ks' := 0) rfl ?_
  refine RP.get (ci := 11) rfl h0 rfl rfl ?_
  refine RP.blk 1 (pc' := 115) (lv' := [(0, .ref 1), (1, .int (nI 3))]) (st' := [.int (-1), .ref 75]) (H' := _) (kc' := 0) (ks' := 0) rfl ?_
  refine RP.call (v := some (.int (nI (sumN op sm (-1) P (kmV vs) vs)))) (st' := []) rfl rfl rfl rfl rfl rfl (args_v [.int (-1)] [] rfl rfl (Nat.le_of_ble_eq_true rfl) rfl h74 (Nat.le_of_ble_eq_true rfl)) (rc_neededL (d := d) hs hsm hV hpr) ?_
  exact RP.done (c := 0) (s := 0) rfl rfl rfl rfl
theorem rc_count5 {sc : Nat × (Nat → Int32)} {d N P : Nat} {H : aH} {bl pr cw cl cp cb : Int32} {vs : List aV} {vf : List Value} (h0 : H[0]? = some (kO 11 (fvs bl pr 1 cw cl cp cb))) (h74 : H[74]? = some (kO 10 vf)) (hV : VersIs H N vs) (hpr : ∀ v ∈ vs, v.2.1 ≤ P) : RC sc (d + 4) mr_196 [.ref 1, .int (nI 5)] H (.inl (some (.int (nI (keysV P (kmV vs) vs))))) H 0 0 := by
  refine RP.blk 4 (pc' := 5) (lv' := [(0, .ref 1), (1, .int (nI 5))]) (st' := [.int 9, .int 0, .int (nI 5), .ref 1]) (H' := _) (kc' := 0) (ks' := 0) rfl ?_
  refine RP.call (v := none) (st' := []) rfl rfl rfl rfl rfl rfl (args_v [.int 9, .int 0, .int (nI 5)] [] rfl rfl (Nat.le_of_ble_eq_true rfl) rfl h0 (Nat.le_of_ble_eq_true rfl)) (rc_range (lo := 0) (hi := 9) (nI_pos (by decide)) (nI_le (b := 9) (by decide) (by decide))) ?_
  refine RP.blk 1 (pc' := 9) (lv' := [(0, .ref 1), (1, .int (nI 5))]) (st' := [.int (nI 5)]) (H' := _) (kc' := 0) (ks' := 0) rfl ?_
  refine RP.brF rfl rfl rfl (cF_eq 5 0) ?_
  refine RP.blk 2 (pc' := 14) (lv' := [(0, .ref 1), (1, .int (nI 5))]) (st' := [.int 3, .int (nI 5)]) (H' := _) (kc' := 0) (ks' := 0) rfl ?_
  refine RP.brF rfl rfl rfl (cF_eq 5 3) ?_
  refine RP.blk 2 (pc' := 19) (lv' := [(0, .ref 1), (1, .int (nI 5))]) (st' := [.int 5, .int (nI 5)]) (H' := _) (kc' := 0) (ks' := 0) rfl ?_
  refine RP.brT rfl rfl rfl (cT_eq 5 5) ?_
  refine RP.blk 1 (pc' := 29) (lv' := [(0, .ref 1), (1, .int (nI 5))]) (st' := [.ref 1]) (H' := _) (kc' := 0) (ks' := 0) rfl ?_
  refine RP.call (v := none) (st' := []) rfl rfl rfl rfl rfl rfl (args_v [] [] rfl rfl (Nat.le_of_ble_eq_true rfl) rfl h0 (Nat.le_of_ble_eq_true rfl)) (rc_up h0 rfl) ?_
  refine RP.blk 1 (pc' := 33) (lv' := [(0, .ref 1), (1, .int (nI 5))]) (st' := [.int (nI 5)]) (H' := _) (kc' := 0) (ks' := 0) rfl ?_
  refine RP.blk 1 (pc' := 124) (lv' := [(0, .ref 1), (1, .int (nI 5))]) (st' := []) (H' := _) (kc' := 0) (ks' := 0) rfl ?_
  refine RP.blk 1 (pc' := 125) (lv' := [(0, .ref 1), (1, .int (nI 5))]) (st' := [.ref 1]) (H' := _) (kc' := 0) (ks' := 0) rfl ?_
  refine RP.get (ci := 11) rfl h0 rfl rfl ?_
  refine RP.call (v := some (.int (nI (keysV P (kmV vs) vs)))) (st' := []) rfl rfl rfl rfl rfl rfl (args_v [] [] rfl rfl (Nat.le_of_ble_eq_true rfl) rfl h74 (Nat.le_of_ble_eq_true rfl)) (rc_userKeysL (d := d) hV hpr) ?_
  exact RP.done (c := 0) (s := 0) rfl rfl rfl rfl
theorem rc_mcount3 {sc : Nat × (Nat → Int32)} {d : Nat} {H : aH} {op : Nat → Bool} {fa li cw cl tp rs : Int32} {ba bo p us : Nat} {ms : List aMV} {se : Nat → Nat} {kd pa sz nl : Nat → Nat} {nm : Nat → Int8} {ps : List aPc} (hm : H[195]? = some (kO 12 (mfs fa li 0 cw cl tp rs (nI p) (nI ms.length) (nI us) (nI ps.length) (nI (plen ps)) ba bo))) (h5 : H[205]? = some (kZ 8 op)) (hV : MVIs H ba bo us ms) (hk : MSOk ms) (h6 : H[206]? = some (kI 8 (fun j => nI (se j)))) (hse : ∀ t, t < 8 → se t < 2 ^ 31) (hT : MTreeAt H kd pa sz nl nm) (hkT : TreeOk kd pa sz nl) (hP : PcsIs H ps) (hps : ps.length ≤ 1300) (hp : p < 2 ^ 31) : RC sc (d + 4) mr_300 [.ref 196, .int (nI 3)] H (.inl (some (.int (nI (ndR op se (-1) p ms kd nl ps))))) (H.set 195 (kO 12 (mfs 0 li 0 cw cl tp rs (nI p) (nI ms.length) (nI us) (nI ps.length) (nI (plen ps)) ba bo))) 0 0 := by
  have hV2 : MVIs (H.set 195 (kO 12 (mfs 0 li 0 cw cl tp rs (nI p) (nI ms.length) (nI us) (nI ps.length) (nI (plen ps)) ba bo))) ba bo us ms := hV.far (fun a a1 a2 => set_far (by omega)) (set_far (by decide))
  have h52 : (H.set 195 (kO 12 (mfs 0 li 0 cw cl tp rs (nI p) (nI ms.length) (nI us) (nI ps.length) (nI (plen ps)) ba bo)))[205]? = some (kZ 8 op) := (set_far (by decide)).trans h5
  have h62 : (H.set 195 (kO 12 (mfs 0 li 0 cw cl tp rs (nI p) (nI ms.length) (nI us) (nI ps.length) (nI (plen ps)) ba bo)))[206]? = some (kI 8 (fun j => nI (se j))) := (set_far (by decide)).trans h6
  have hT2 : MTreeAt (H.set 195 (kO 12 (mfs 0 li 0 cw cl tp rs (nI p) (nI ms.length) (nI us) (nI ps.length) (nI (plen ps)) ba bo))) kd pa sz nl nm := hT.far (fun a a1 a2 => set_far (by omega))
  have hP2 : PcsIs (H.set 195 (kO 12 (mfs 0 li 0 cw cl tp rs (nI p) (nI ms.length) (nI us) (nI ps.length) (nI (plen ps)) ba bo))) ps := hP.far (fun a a1 a2 => set_far (by omega))
  refine RP.blk 2 (pc' := 2) (lv' := [(0, .ref 196), (1, .int (nI 3))]) (st' := [.int 0, .ref 196]) (H' := _) (kc' := 0) (ks' := 0) rfl ?_
  refine RP.put (ci := 12) rfl hm rfl rfl (Nat.le_of_ble_eq_true rfl) ?_
  refine RP.blk 3 (pc' := 9) (lv' := [(0, .ref 196), (1, .int (nI 3))]) (st' := [.int 10, .int (nI 3), .ref 196]) (H' := _) (kc' := 0) (ks' := 0) rfl ?_
  refine RP.call (v := some (.int 0)) (st' := []) rfl rfl rfl rfl rfl rfl (args_v [.int 10, .int (nI 3)] [] rfl rfl (Nat.le_of_ble_eq_true rfl) rfl (get_set hm) (Nat.le_of_ble_eq_true rfl)) (rc_out (v := 3) (m := 10) (by decide) (by decide)) ?_
  refine RP.brT rfl rfl rfl (by decide) ?_
  refine RP.blk 1 (pc' := 22) (lv' := [(0, .ref 196), (1, .int (nI 3))]) (st' := [.ref 196]) (H' := _) (kc' := 0) (ks' := 0) rfl ?_
  refine RP.get (ci := 12) rfl (get_set hm) rfl rfl ?_
  refine RP.brT rfl rfl rfl (by decide) ?_
  refine RP.blk 4 (pc' := 58) (lv' := [(3, .int 0), (2, .int 0), (0, .ref 196), (1, .int (nI 3))]) (st' := []) (H' := _) (kc' := 0) (ks' := 0) rfl ?_
  refine rp_mopened (get_set hm) ((set_far (by decide)).trans h5) ?_
  refine RP.blk 1 (pc' := 88) (lv' := [(3, .int (nI 8)), (2, .int (nI (cntB op 8))), (0, .ref 196), (1, .int (nI 3))]) (st' := [.int (nI 3)]) (H' := _) (kc' := 0) (ks' := 0) rfl ?_
  refine RP.blk 1 (pc' := 160) (lv' := [(3, .int (nI 8)), (2, .int (nI (cntB op 8))), (0, .ref 196), (1, .int (nI 3))]) (st' := []) (H' := _) (kc' := 0) (ks' := 0) rfl ?_
  refine RP.blk 2 (pc' := 162) (lv' := [(3, .int (nI 8)), (2, .int (nI (cntB op 8))), (0, .ref 196), (1, .int (nI 3))]) (st' := [.int (-1), .ref 196]) (H' := _) (kc' := 0) (ks' := 0) rfl ?_
  refine RP.call (v := some (.int (nI (ndR op se (-1) p ms kd nl ps)))) (st' := []) rfl rfl rfl rfl rfl rfl (args_v [.int (-1)] [] rfl rfl (Nat.le_of_ble_eq_true rfl) rfl (get_set hm) (Nat.le_of_ble_eq_true rfl)) (rc_mneedR (d := d) (get_set hm) hV2 hk h52 h62 hse hT2 hkT hP2 hps hp) ?_
  exact RP.done (c := 0) (s := 0) rfl rfl rfl rfl
theorem rc_mcount5 {sc : Nat × (Nat → Int32)} {d : Nat} {H : aH} {op : Nat → Bool} {fa li cw cl tp rs : Int32} {ba bo p us : Nat} {ms : List aMV} {ps : List aPc} (hm : H[195]? = some (kO 12 (mfs fa li 0 cw cl tp rs (nI p) (nI ms.length) (nI us) (nI ps.length) (nI (plen ps)) ba bo))) (h5 : H[205]? = some (kZ 8 op)) (hV : MVIs H ba bo us ms) (hk : MSOk ms) (hp : p < 2 ^ 31) : RC sc (d + 3) mr_300 [.ref 196, .int (nI 5)] H (.inl (some (.int (nI (keysM p (kmM ms) ms))))) (H.set 195 (kO 12 (mfs 0 li 0 cw cl tp rs (nI p) (nI ms.length) (nI us) (nI ps.length) (nI (plen ps)) ba bo))) 0 0 := by
  have hV2 : MVIs (H.set 195 (kO 12 (mfs 0 li 0 cw cl tp rs (nI p) (nI ms.length) (nI us) (nI ps.length) (nI (plen ps)) ba bo))) ba bo us ms := hV.far (fun a a1 a2 => set_far (by omega)) (set_far (by decide))
  obtain ⟨⟨bf, ko, kn, vo, vz, vm, hA, hL⟩, -⟩ := hV2
  refine RP.blk 2 (pc' := 2) (lv' := [(0, .ref 196), (1, .int (nI 5))]) (st' := [.int 0, .ref 196]) (H' := _) (kc' := 0) (ks' := 0) rfl ?_
  refine RP.put (ci := 12) rfl hm rfl rfl (Nat.le_of_ble_eq_true rfl) ?_
  refine RP.blk 3 (pc' := 9) (lv' := [(0, .ref 196), (1, .int (nI 5))]) (st' := [.int 10, .int (nI 5), .ref 196]) (H' := _) (kc' := 0) (ks' := 0) rfl ?_
  refine RP.call (v := some (.int 0)) (st' := []) rfl rfl rfl rfl rfl rfl (args_v [.int 10, .int (nI 5)] [] rfl rfl (Nat.le_of_ble_eq_true rfl) rfl (get_set hm) (Nat.le_of_ble_eq_true rfl)) (rc_out (v := 5) (m := 10) (by decide) (by decide)) ?_
  refine RP.brT rfl rfl rfl (by decide) ?_
  refine RP.blk 1 (pc' := 22) (lv' := [(0, .ref 196), (1, .int (nI 5))]) (st' := [.ref 196]) (H' := _) (kc' := 0) (ks' := 0) rfl ?_
  refine RP.get (ci := 12) rfl (get_set hm) rfl rfl ?_
  refine RP.brT rfl rfl rfl (by decide) ?_
  refine RP.blk 4 (pc' := 58) (lv' := [(3, .int 0), (2, .int 0), (0, .ref 196), (1, .int (nI 5))]) (st' := []) (H' := _) (kc' := 0) (ks' := 0) rfl ?_
  refine rp_mopened (get_set hm) ((set_far (by decide)).trans h5) ?_
  refine RP.blk 1 (pc' := 88) (lv' := [(3, .int (nI 8)), (2, .int (nI (cntB op 8))), (0, .ref 196), (1, .int (nI 5))]) (st' := [.int (nI 5)]) (H' := _) (kc' := 0) (ks' := 0) rfl ?_
  refine RP.blk 1 (pc' := 171) (lv' := [(3, .int (nI 8)), (2, .int (nI (cntB op 8))), (0, .ref 196), (1, .int (nI 5))]) (st' := []) (H' := _) (kc' := 0) (ks' := 0) rfl ?_
  refine RP.blk 1 (pc' := 172) (lv' := [(3, .int (nI 8)), (2, .int (nI (cntB op 8))), (0, .ref 196), (1, .int (nI 5))]) (st' := [.ref 196]) (H' := _) (kc' := 0) (ks' := 0) rfl ?_
  refine RP.call (v := some (.int (nI (keysM p (kmM ms) ms)))) (st' := []) rfl rfl rfl rfl rfl rfl (args_v [] [] rfl rfl (Nat.le_of_ble_eq_true rfl) rfl (get_set hm) (Nat.le_of_ble_eq_true rfl)) (rc_mkeysL (d := d) (get_set hm) hA hL hk hp) ?_
  exact RP.done (c := 0) (s := 0) rfl rfl rfl rfl
theorem rel_keys {op : Nat → Bool} {sm : Nat → Nat} {c : Nat → Int8} {vs : List aV} {ms : List aMV} (h : RelU op sm c vs ms) (pr : Nat) : keysV pr (kmV vs) vs = keysM pr (kmM ms) ms := by
  obtain ⟨zb, hP, hz⟩ := h
  unfold keysV keysM
  have e1 : vs.filter (fun v => usV v && !(ouV v) && stK (kmV vs) v.1 v.2.1 pr) = (vs.filter (fun v => usV v && !(zb v))).filter (fun v => !(decide ((toM c v).2.2 = none)) && stK (kmM ms) (toM c v).1 (toM c v).2.1 pr) := by
    rw [List.filter_filter]
    refine List.filter_congr (fun v hv => ?_)
    have ho : decide ((toM c v).2.2 = none) = ouV v := by
      unfold ouV
      show decide (v.2.2.2.1.map (fun n => sl c (v.2.2.1 + 8 + v.1.length) n) = none) = _
      cases v.2.2.2.1 <;> rfl
    rw [ho]
    cases hu : usV v with
    | false => rw [Bool.false_and, Bool.false_and, Bool.false_and, Bool.and_false]
    | true =>
      cases hzv : zb v with
      | true =>
        rw [(hz v hv hu hzv).1]
        show (true && !true && _) = ((!true && _) && (true && !true))
        rw [Bool.not_true, Bool.and_false, Bool.false_and, Bool.and_false]
      | false =>
        have hs := rel_st hP hz hv hu hzv pr
        rw [hs]
        show (true && !(ouV v) && stK (kmM ms) v.1.tail v.2.1 pr) = ((!(ouV v) && stK (kmM ms) v.1.tail v.2.1 pr) && (true && !false))
        rw [Bool.true_and, Bool.not_false, Bool.and_true, Bool.and_true]
  rw [e1]
  have h9 := (hP.filter (fun w => !(decide (w.2.2 = none)) && stK (kmM ms) w.1 w.2.1 pr)).length_eq
  rw [List.filter_map, List.length_map] at h9
  exact h9
section S72
variable {L i k kc ks : Nat} {xs : Nat → Int32} {Q : tO × aH × Nat × Nat → Prop} {H : aH}
theorem iv_count (hL : L < 2 ^ 30) (h : i + 6 ≤ L) (hI : InvI k H) (hk : k < 512) (kq : Hd L xs i kc ks Q (k + 1)) : RQ (L, xs) 2000 mr_law 1179 [(4, .int (nI i)), (3, .ref 225), (2, .ref 196), (1, .ref 1), (0, .ref 0)] [] H kc ks Q := by
  rcases hI with ⟨ky, B, N, P, bb, cw, cl, cp, cb, tb, l, g, rl, wss, t0, op, sm, ms, kd, pa, sz, nl, nm, ps, fa, rs, g0, hJ⟩ | ⟨ky, B, N, P, cw, cl, cp, cb, tb, l, g, rl, wss, t0, op, sm, ms, kd, pa, sz, nl, nm, ps, fa, rs, g0, hJ⟩
  · obtain ⟨j1, j2, j3, j4, j5, j6, j7, j8, j9, j10, j11, j12, j13, j14, j15, j16, j17, j18, j19, jE, e, j20⟩ := id hJ
    obtain ⟨us, ba, bo, m1, hF, hG, qV, hR⟩ := hJ.fld hk
    obtain ⟨-, -, -, -, -, q5, q6, qR, qT, q8, q9, -⟩ := j10.cells
    obtain ⟨us0, ba0, bo0, -, -, -, -, -, -, qP, -⟩ := id j10
    obtain ⟨S, lgs, fr, ff, wr, tp, rs9, us9, c, P1, gs, vs, tss, Lc, u1, u2, ⟨⟨r1, r2, r3, r4⟩, -⟩, -⟩ := id j9
    obtain ⟨-, -, -, -, -, -, hV, -, hs, -⟩ := id u1
    obtain ⟨vf, h74⟩ := vers_obj hV
    have hvP : ∀ v ∈ vs, v.2.1 ≤ P := fun v hv => (u2.2.2.2.2.2.2.1 v hv).1
    have h11 := j11.2.2.2
    have hsm : ∀ t, t < 8 → sm t < 2 ^ 31 := fun t ht => by have := j15 t ht; omega
    by_cases hb : xs (i + 1) < 0 ∨ ¬ xs (i + 1) ≤ 9
    · exact step_count_bad hL h j8.1 m1 hb (kq.go1 (Or.inl (hF 1)))
    · obtain ⟨v, hv, e1⟩ := nI_of2 (x := xs (i + 1)) (M := 9) (n := 9) rfl (fun q => hb (Or.inl q)) (Classical.not_not.mp (fun q => hb (Or.inr q)))
      have h9 : ∀ a, a ≠ 224 → ∀ c1 : aC, (H.set 224 c1)[a]? = H[a]? := fun a ha c1 => set_far ha
      rcases (show v = 0 ∨ v = 1 ∨ v = 2 ∨ v = 3 ∨ v = 4 ∨ v = 5 ∨ v = 6 ∨ v = 7 ∨ v = 8 ∨ v = 9 by omega) with r | r | r | r | r | r | r | r | r | r <;> subst r
      · exact step_count0 hL h j8.1 m1 q5 j20 e1 (kq.go0 (Or.inl (hG 0 _)))
      · exact step_count1_0 hL h j8.1 m1 q5 j20 e1 (kq.go0 (Or.inl (hG 0 _)))
      · exact step_count2_0 hL h j8.1 m1 q5 hs j20 e1 (kq.go0 (Or.inl (hG 0 _)))
      · have hnd : sumN op sm (-1) P (kmV vs) vs = ndR op sm (-1) P ms kd nl ps := need_same r1 u2.2.2.2.2.2.2.1 hvP r2 r3 r4 j13
        have hc := rc_count3 (sc := (L, xs)) (d := 1995) j8.1 h74 hs hsm hV hvP
        rw [hnd] at hc
        have hr := fun c1 : aC => rc_mcount3 (sc := (L, xs)) (d := 1995) ((h9 195 (by decide) c1).trans m1) ((h9 205 (by decide) c1).trans q5) (qV.far (fun a a1 a2 => h9 a (by omega) c1) (h9 223 (by decide) c1)) j11.2.2.1 ((h9 206 (by decide) c1).trans q6) h11.1 (qT.far (fun a a1 a2 => h9 a (by omega) c1)) h11.2.1 (qP.far (fun a a1 a2 => h9 a (by omega) c1)) h11.2.2.1 (by omega)
        exact gs_ok16 (c1 := 0) (s1 := 0) (c2 := 0) (s2 := 0) hL h j8.1 (by rw [e1]; exact hc) j20 m1 (by rw [e1]; exact hr _) (get_set ((h9 195 (by decide) _).trans m1)) rfl ((set_far (by decide)).trans (get_set j20)) (kq.go0 (Or.inl (hG 0 _)))
      · exact step_count4_0 hL h j8.1 m1 q5 j20 e1 (kq.go0 (Or.inl (hG 0 _)))
      · have hc := rc_count5 (sc := (L, xs)) (d := 1994) j8.1 h74 hV hvP
        rw [rel_keys r2] at hc
        have hr := fun c1 : aC => rc_mcount5 (sc := (L, xs)) (d := 1996) ((h9 195 (by decide) c1).trans m1) ((h9 205 (by decide) c1).trans q5) (qV.far (fun a a1 a2 => h9 a (by omega) c1) (h9 223 (by decide) c1)) j11.2.2.1 (by omega)
        exact gs_ok16 (c1 := 0) (s1 := 0) (c2 := 0) (s2 := 0) hL h j8.1 (by rw [e1]; exact hc) j20 m1 (by rw [e1]; exact hr _) (get_set ((h9 195 (by decide) _).trans m1)) rfl ((set_far (by decide)).trans (get_set j20)) (kq.go0 (Or.inl (hG 0 _)))
      · have hc := rc_count6 (sc := (L, xs)) (d := 1997) j8.1 j8.2.2.2.2.2.2.2.2.2
        rw [j17.2.2] at hc
        have hr := fun c1 : aC => rc_mcount6 (sc := (L, xs)) (d := 1998) ((h9 195 (by decide) c1).trans m1) ((h9 205 (by decide) c1).trans q5) (qT.far (fun a a1 a2 => h9 a (by omega) c1)) h11.2.1
        exact gs_ok16 (c1 := 0) (s1 := 0) (c2 := 0) (s2 := 0) hL h j8.1 (by rw [e1]; exact hc) j20 m1 (by rw [e1]; exact hr _) (get_set ((h9 195 (by decide) _).trans m1)) rfl ((set_far (by decide)).trans (get_set j20)) (kq.go0 (Or.inl (hG 0 _)))
      · exact step_count7_0 hL h j8.1 m1 q5 j8.2.1 j20 e1 (kq.go0 (Or.inl (hG 0 _)))
      · rw [j18] at m1 hF hG
        exact step_count8_0 hL h j8.1 m1 q5 j8.2.2.2.1 j20 e1 (kq.go0 (Or.inl (hG 0 _)))
      · rcases jE.1 with rfl | rfl
        · exact step_count9_0_0 hL h j8.1 m1 q5 j20 e1 (kq.go0 (Or.inl (hG 0 _)))
        · exact step_count9_0_1 hL h j8.1 m1 q5 j20 e1 (kq.go0 (Or.inl (hG 0 _)))
  · obtain ⟨d1, d2, d3, d4, d5, d6, d7, d8, d9, d10, d11, d12, d13, d14, d15, d16, d17, jE, e, d19⟩ := id hJ
    obtain ⟨us, ba, bo, m1, hF, hG, qV, hR⟩ := hJ.fld hk
    obtain ⟨-, -, -, -, -, q5, q6, qR, qT, q8, q9, -⟩ := d9.cells
    have hs : SightAt H op sm := by
      obtain ⟨bb, S, lgs, rs9, c, vs, tss, Lc, ms0, -, -, ⟨P0, fr0, ff0, gs0, jk, ⟨-, -, -, -, -, hs, -⟩, -⟩, -⟩ := id d8
      exact hs
    by_cases hb : xs (i + 1) < 0 ∨ ¬ xs (i + 1) ≤ 9
    · exact step_count_bad hL h d7.1 m1 hb (kq.go1 (Or.inr (hF 1)))
    · obtain ⟨v, hv, e1⟩ := nI_of2 (x := xs (i + 1)) (M := 9) (n := 9) rfl (fun q => hb (Or.inl q)) (Classical.not_not.mp (fun q => hb (Or.inr q)))
      rcases (show v = 0 ∨ v = 1 ∨ v = 2 ∨ v = 3 ∨ v = 4 ∨ v = 5 ∨ v = 6 ∨ v = 7 ∨ v = 8 ∨ v = 9 by omega) with r | r | r | r | r | r | r | r | r | r <;> subst r
      · exact step_count0_down hL h d7.1 m1 e1 (kq.go1 (Or.inr (hF 2)))
      · exact step_count1_1 hL h d7.1 m1 q5 d19 e1 (kq.go0 (Or.inr (hG 0 _)))
      · exact step_count2_1 hL h d7.1 m1 q5 hs d19 e1 (kq.go0 (Or.inr (hG 0 _)))
      · exact step_count3_down hL h d7.1 m1 e1 (kq.go1 (Or.inr (hF 2)))
      · exact step_count4_1 hL h d7.1 m1 q5 d19 e1 (kq.go0 (Or.inr (hG 0 _)))
      · exact step_count5_down hL h d7.1 m1 e1 (kq.go1 (Or.inr (hF 2)))
      · exact step_count6_down hL h d7.1 m1 e1 (kq.go1 (Or.inr (hF 2)))
      · exact step_count7_1 hL h d7.1 m1 q5 d7.2.1 d19 e1 (kq.go0 (Or.inr (hG 0 _)))
      · rw [d16] at m1 hF hG
        exact step_count8_1 hL h d7.1 m1 q5 d7.2.2.2.1 d19 e1 (kq.go0 (Or.inr (hG 0 _)))
      · rcases jE.1 with rfl | rfl
        · exact step_count9_1_0 hL h d7.1 m1 q5 d19 e1 (kq.go0 (Or.inr (hG 0 _)))
        · exact step_count9_1_1 hL h d7.1 m1 q5 d19 e1 (kq.go0 (Or.inr (hG 0 _)))
end S72
