/-! ===== the versions: the newest, the seen, the needed; class; written by wip/gen/vers4.py ===== -/
theorem rn_release {sc : Nat × (Nat → Int32)} {d N : Nat} {H : aH} {kf : Nat → Int8} {kl mo pl : Nat → Nat} {le : Nat → Option Nat} {al : Nat → Bool} {od sp : Nat → Nat} {sz ss ac : Nat} {s : Nat} (h : VersAt H N kf kl mo pl le al od sp sz ss ac) (hk : VersOk N kl mo pl le od sp sz ss) (hs : s < N) (hac : al s = true → 1 ≤ ac) (hlt : ss < N) : RN sc (d + 1) mr_84 [.ref 75, .int (nI s)] H (fun H' => VersAt H' N kf kl mo pl le (va_up al s false) od (va_up sp ss s) sz (ss + 1) (acUp (al s) false ac) ∧ ∀ a, ¬ (74 ≤ a ∧ a < 83) → H'[a]? = H[a]?) := by
  have hN := hk.1
  have hsz := hk.2.1
  have hss := hk.2.2.1
  refine RN.of ?_
  refine RQ.blk 3 (pc' := 3) (lv' := [(0, .ref 75), (1, .int (nI s))]) (st' := [.int 0, .int (nI s), .ref 75]) (H' := _) (kc' := 0) (ks' := 0) rfl ?_
  refine RQ.callN (st' := []) rfl rfl rfl rfl rfl rfl (args_v [.int (if false then 1 else 0), .int (nI s)] [] rfl rfl (Nat.le_of_ble_eq_true rfl) rfl h.1 (Nat.le_of_ble_eq_true rfl)) (rn_setAlone (b := false) h hk hs hac) (fun H1 h2 => ?_)
  obtain ⟨h2, h3⟩ := h2
  refine RQ.blk 1 (pc' := 7) (lv' := [(0, .ref 75), (1, .int (nI s))]) (st' := [.ref 75]) (H' := _) (kc' := 0) (ks' := 0) rfl ?_
  refine RQ.get (ci := 10) rfl h2.1 rfl rfl ?_
  refine RQ.blk 1 (pc' := 11) (lv' := [(0, .ref 75), (1, .int (nI s))]) (st' := [.ref 75, .int (nI ss)]) (H' := _) (kc' := 0) (ks' := 0) rfl ?_
  refine RQ.get (ci := 10) rfl h2.1 rfl rfl ?_
  refine RQ.len rfl h2.2.2.2.2.2.2.2.2 rfl ?_
  refine RQ.brF rfl rfl rfl (cF_ge ss N) ?_
  refine RQ.blk 1 (pc' := 19) (lv' := [(0, .ref 75), (1, .int (nI s))]) (st' := [.ref 75]) (H' := _) (kc' := 0) (ks' := 0) rfl ?_
  refine RQ.get (ci := 10) rfl h2.1 rfl rfl ?_
  refine RQ.blk 1 (pc' := 23) (lv' := [(0, .ref 75), (1, .int (nI s))]) (st' := [.ref 75, .ref 83]) (H' := _) (kc' := 0) (ks' := 0) rfl ?_
  refine RQ.get (ci := 10) rfl h2.1 rfl rfl ?_
  refine RQ.blk 1 (pc' := 27) (lv' := [(0, .ref 75), (1, .int (nI s))]) (st' := [.int (nI s), .int (nI ss), .ref 83]) (H' := _) (kc' := 0) (ks' := 0) rfl ?_
  refine RQ.iastN (j := ss) rfl h2.2.2.2.2.2.2.2.2 (by omega) (by omega) ?_
  refine RQ.blk 2 (pc' := 30) (lv' := [(0, .ref 75), (1, .int (nI s))]) (st' := [.ref 75, .ref 75]) (H' := _) (kc' := 0) (ks' := 0) rfl ?_
  refine RQ.get (ci := 10) rfl ((set_far (by decide)).trans h2.1) rfl rfl ?_
  refine RQ.blk 2 (pc' := 35) (lv' := [(0, .ref 75), (1, .int (nI s))]) (st' := [.int (nI ss + 1), .ref 75]) (H' := _) (kc' := 0) (ks' := 0) rfl ?_
  rw [show (nI ss + 1 : Int32) = nI (ss + 1) from nI_add ss 1]
  refine RQ.put (ci := 10) rfl ((set_far (by decide)).trans h2.1) rfl rfl (Nat.le_of_ble_eq_true rfl) ?_
  exact RQ.done (c := 0) (s := 0) rfl rfl rfl rfl ⟨_, rfl, ⟨get_set ((set_far (by decide)).trans h2.1), (set_far (by decide)).trans ((set_far (by decide)).trans h2.2.1), (set_far (by decide)).trans ((set_far (by decide)).trans h2.2.2.1), (set_far (by decide)).trans ((set_far (by decide)).trans h2.2.2.2.1), (set_far (by decide)).trans ((set_far (by decide)).trans h2.2.2.2.2.1), (set_far (by decide)).trans ((set_far (by decide)).trans h2.2.2.2.2.2.1), (set_far (by decide)).trans ((set_far (by decide)).trans h2.2.2.2.2.2.2.1), (set_far (by decide)).trans ((set_far (by decide)).trans h2.2.2.2.2.2.2.2.1), ((set_far (by decide)).trans (get_set h2.2.2.2.2.2.2.2.2)).trans (congrArg (fun f => some (kI N f)) up_nI)⟩, fun a ha => ((set_far (by omega)).trans (set_far (by omega))).trans (h3 a ha)⟩
theorem rc_newestOf {sc : Nat × (Nat → Int32)} {a na j m k : Nat} {d N : Nat} {H : aH} {kf : Nat → Int8} {kl mo pl : Nat → Nat} {le : Nat → Option Nat} {al : Nat → Bool} {od sp : Nat → Nat} {sz ss ac : Nat} {g : Nat → Int8} (h : VersAt H N kf kl mo pl le al od sp sz ss ac) (hk : VersOk N kl mo pl le od sp sz ss) (h1 : H[a]? = some (kB na g)) (hna : na < 2 ^ 30) (hj : j + m ≤ na) (hc : cutAt kf kl mo od sz (sl g j m) 2147483647 k) : RC sc (d + 2) mr_87 [.ref 75, .ref (a + 1), .int (nI j), .int (nI m)] H (.inl (some (.int (if k < sz ∧ sl kf (od k * 41) (kl (od k)) = sl g j m then nI (od k) else -1)))) H 0 0 := by
  have hN := hk.1
  have hsz := hk.2.1
  have hss := hk.2.2.1
  refine RC.of ?_
  have hkz := hc.1
  refine RQ.blk 5 (pc' := 6) (lv' := [(0, .ref 75), (1, .ref (a + 1)), (2, .int (nI j)), (3, .int (nI m))]) (st' := [.int 2147483647, .int (nI m), .int (nI j), .ref (a + 1), .ref 75]) (H' := _) (kc' := 0) (ks' := 0) rfl ?_
  refine RQ.call (v := some (.int (nI k))) (st' := []) rfl rfl rfl rfl rfl rfl (args_v [.int 2147483647, .int (nI m), .int (nI j), .ref (a + 1)] [] rfl rfl (Nat.le_of_ble_eq_true rfl) rfl h.1 (Nat.le_of_ble_eq_true rfl)) (rc_from h hk h1 hna hj hc) ?_
  refine RQ.blk 3 (pc' := 14) (lv' := [(4, .int (nI k)), (0, .ref 75), (1, .ref (a + 1)), (2, .int (nI j)), (3, .int (nI m))]) (st' := [.ref 75, .int (nI k)]) (H' := _) (kc' := 0) (ks' := 0) rfl ?_
  refine RQ.get (ci := 10) rfl h.1 rfl rfl ?_
  by_cases hks : k < sz
  · have hod := hk.2.2.2.1 k hks
    refine RQ.brF rfl rfl rfl (cF_ge k sz) ?_
    refine RQ.blk 2 (pc' := 22) (lv' := [(4, .int (nI k)), (0, .ref 75), (1, .ref (a + 1)), (2, .int (nI j)), (3, .int (nI m))]) (st' := [.ref 75, .ref 75]) (H' := _) (kc' := 0) (ks' := 0) rfl ?_
    refine RQ.get (ci := 10) rfl h.1 rfl rfl ?_
    refine RQ.blk 1 (pc' := 27) (lv' := [(4, .int (nI k)), (0, .ref 75), (1, .ref (a + 1)), (2, .int (nI j)), (3, .int (nI m))]) (st' := [.int (nI k), .ref 82, .ref 75]) (H' := _) (kc' := 0) (ks' := 0) rfl ?_
    refine RQ.ialdN (j := k) rfl h.2.2.2.2.2.2.2.1 (by omega) (by omega) ?_
    refine RQ.blk 3 (pc' := 31) (lv' := [(4, .int (nI k)), (0, .ref 75), (1, .ref (a + 1)), (2, .int (nI j)), (3, .int (nI m))]) (st' := [.int (nI m), .int (nI j), .ref (a + 1), .int (nI (od k)), .ref 75]) (H' := _) (kc' := 0) (ks' := 0) rfl ?_
    by_cases he : sl kf (od k * 41) (kl (od k)) = sl g j m
    ·
      refine RQ.call (v := some (.int (if sl kf (od k * 41) (kl (od k)) = sl g j m then 1 else 0))) (st' := []) rfl rfl rfl rfl rfl rfl (args_v [.int (nI m), .int (nI j), .ref (a + 1), .int (nI (od k))] [] rfl rfl (Nat.le_of_ble_eq_true rfl) rfl h.1 (Nat.le_of_ble_eq_true rfl)) (rc_hasKey h hk h1 hna hj hod) ?_
      rw [if_pos he, if_pos ⟨hks, he⟩]
      refine RQ.brF rfl rfl rfl (by decide) ?_
      refine RQ.blk 1 (pc' := 38) (lv' := [(4, .int (nI k)), (0, .ref 75), (1, .ref (a + 1)), (2, .int (nI j)), (3, .int (nI m))]) (st' := [.ref 75]) (H' := _) (kc' := 0) (ks' := 0) rfl ?_
      refine RQ.get (ci := 10) rfl h.1 rfl rfl ?_
      refine RQ.blk 1 (pc' := 43) (lv' := [(4, .int (nI k)), (0, .ref 75), (1, .ref (a + 1)), (2, .int (nI j)), (3, .int (nI m))]) (st' := [.int (nI k), .ref 82]) (H' := _) (kc' := 0) (ks' := 0) rfl ?_
      refine RQ.ialdN (j := k) rfl h.2.2.2.2.2.2.2.1 (by omega) (by omega) ?_
      refine RQ.blk 1 (pc' := 48) (lv' := [(4, .int (nI k)), (0, .ref 75), (1, .ref (a + 1)), (2, .int (nI j)), (3, .int (nI m))]) (st' := [.int (nI (od k))]) (H' := _) (kc' := 0) (ks' := 0) rfl ?_
      exact RQ.done (c := 0) (s := 0) rfl rfl rfl rfl rfl
    ·
      refine RQ.call (v := some (.int (if sl kf (od k * 41) (kl (od k)) = sl g j m then 1 else 0))) (st' := []) rfl rfl rfl rfl rfl rfl (args_v [.int (nI m), .int (nI j), .ref (a + 1), .int (nI (od k))] [] rfl rfl (Nat.le_of_ble_eq_true rfl) rfl h.1 (Nat.le_of_ble_eq_true rfl)) (rc_hasKey h hk h1 hna hj hod) ?_
      rw [if_neg he, if_neg (fun e => he e.2)]
      refine RQ.brT rfl rfl rfl (by decide) ?_
      refine RQ.blk 1 (pc' := 48) (lv' := [(4, .int (nI k)), (0, .ref 75), (1, .ref (a + 1)), (2, .int (nI j)), (3, .int (nI m))]) (st' := [.int (-1)]) (H' := _) (kc' := 0) (ks' := 0) rfl ?_
      exact RQ.done (c := 0) (s := 0) rfl rfl rfl rfl rfl
  ·
    refine RQ.brT rfl rfl rfl (cT_ge k sz) ?_
    refine RQ.blk 1 (pc' := 48) (lv' := [(4, .int (nI k)), (0, .ref 75), (1, .ref (a + 1)), (2, .int (nI j)), (3, .int (nI m))]) (st' := [.int (-1)]) (H' := _) (kc' := 0) (ks' := 0) rfl ?_
    rw [if_neg (fun e => hks e.1)]
    exact RQ.done (c := 0) (s := 0) rfl rfl rfl rfl rfl
theorem rc_seenAt {sc : Nat × (Nat → Int32)} {a na m k : Nat} {d N : Nat} {H : aH} {kf : Nat → Int8} {kl mo pl : Nat → Nat} {le : Nat → Option Nat} {al : Nat → Bool} {od sp : Nat → Nat} {sz ss ac : Nat} {g : Nat → Int8} {x : Int32} (h : VersAt H N kf kl mo pl le al od sp sz ss ac) (hk : VersOk N kl mo pl le od sp sz ss) (h1 : H[a]? = some (kB na g)) (hna : na < 2 ^ 30) (hj : 0 + m ≤ na) (hc : cutAt kf kl mo od sz (sl g 0 m) x k) : RC sc (d + 2) mr_57 [.ref 75, .ref (a + 1), .int (nI m), .int x] H (.inl (some (.int (if k < sz ∧ sl kf (od k * 41) (kl (od k)) = sl g 0 m ∧ ¬ le (od k) = none then nI (od k) else -1)))) H 0 0 := by
  have hN := hk.1
  have hsz := hk.2.1
  have hss := hk.2.2.1
  refine RC.of ?_
  have hkz := hc.1
  refine RQ.blk 5 (pc' := 5) (lv' := [(0, .ref 75), (1, .ref (a + 1)), (2, .int (nI m)), (3, .int x)]) (st' := [.int x, .int (nI m), .int 0, .ref (a + 1), .ref 75]) (H' := _) (kc' := 0) (ks' := 0) rfl ?_
  refine RQ.call (v := some (.int (nI k))) (st' := []) rfl rfl rfl rfl rfl rfl (args_v [.int x, .int (nI m), .int 0, .ref (a + 1)] [] rfl rfl (Nat.le_of_ble_eq_true rfl) rfl h.1 (Nat.le_of_ble_eq_true rfl)) (rc_from (j := 0) h hk h1 hna hj hc) ?_
  refine RQ.blk 3 (pc' := 13) (lv' := [(4, .int (nI k)), (0, .ref 75), (1, .ref (a + 1)), (2, .int (nI m)), (3, .int x)]) (st' := [.ref 75, .int (nI k)]) (H' := _) (kc' := 0) (ks' := 0) rfl ?_
  refine RQ.get (ci := 10) rfl h.1 rfl rfl ?_
  by_cases hks : k < sz
  · have hod := hk.2.2.2.1 k hks
    have hk_o := hk.2.2.2.2.2 _ hod
    refine RQ.brT rfl rfl rfl (cT_lt k sz) ?_
    refine RQ.blk 1 (pc' := 22) (lv' := [(4, .int (nI k)), (0, .ref 75), (1, .ref (a + 1)), (2, .int (nI m)), (3, .int x)]) (st' := [.ref 75]) (H' := _) (kc' := 0) (ks' := 0) rfl ?_
    refine RQ.get (ci := 10) rfl h.1 rfl rfl ?_
    refine RQ.blk 1 (pc' := 27) (lv' := [(4, .int (nI k)), (0, .ref 75), (1, .ref (a + 1)), (2, .int (nI m)), (3, .int x)]) (st' := [.int (nI k), .ref 82]) (H' := _) (kc' := 0) (ks' := 0) rfl ?_
    refine RQ.ialdN (j := k) rfl h.2.2.2.2.2.2.2.1 (by omega) (by omega) ?_
    refine RQ.blk 6 (pc' := 36) (lv' := [(5, .int (nI (od k))), (4, .int (nI k)), (0, .ref 75), (1, .ref (a + 1)), (2, .int (nI m)), (3, .int x)]) (st' := [.int (nI m), .int 0, .ref (a + 1), .int (nI (od k)), .ref 75]) (H' := _) (kc' := 0) (ks' := 0) rfl ?_
    by_cases he : sl kf (od k * 41) (kl (od k)) = sl g 0 m
    ·
      refine RQ.call (v := some (.int (if sl kf (od k * 41) (kl (od k)) = sl g 0 m then 1 else 0))) (st' := []) rfl rfl rfl rfl rfl rfl (args_v [.int (nI m), .int 0, .ref (a + 1), .int (nI (od k))] [] rfl rfl (Nat.le_of_ble_eq_true rfl) rfl h.1 (Nat.le_of_ble_eq_true rfl)) (rc_hasKey (j := 0) h hk h1 hna hj hod) ?_
      rw [if_pos he]
      refine RQ.brF rfl rfl rfl (by decide) ?_
      refine RQ.blk 1 (pc' := 43) (lv' := [(5, .int (nI (od k))), (4, .int (nI k)), (0, .ref 75), (1, .ref (a + 1)), (2, .int (nI m)), (3, .int x)]) (st' := [.ref 75]) (H' := _) (kc' := 0) (ks' := 0) rfl ?_
      refine RQ.get (ci := 10) rfl h.1 rfl rfl ?_
      refine RQ.blk 1 (pc' := 48) (lv' := [(5, .int (nI (od k))), (4, .int (nI k)), (0, .ref 75), (1, .ref (a + 1)), (2, .int (nI m)), (3, .int x)]) (st' := [.int (nI (od k)), .ref 80]) (H' := _) (kc' := 0) (ks' := 0) rfl ?_
      refine RQ.ialdN (j := od k) rfl h.2.2.2.2.2.1 (by omega) (by omega) ?_
      by_cases hl : le (od k) = none
      ·
        refine RQ.brT rfl rfl rfl (decide_eq_true ((lI_neg (by omega)).mpr hl)) ?_
        refine RQ.blk 1 (pc' := 58) (lv' := [(5, .int (nI (od k))), (4, .int (nI k)), (0, .ref 75), (1, .ref (a + 1)), (2, .int (nI m)), (3, .int x)]) (st' := [.int (-1)]) (H' := _) (kc' := 0) (ks' := 0) rfl ?_
        rw [if_neg (fun e => e.2.2 hl)]
        exact RQ.done (c := 0) (s := 0) rfl rfl rfl rfl rfl
      ·
        refine RQ.brF rfl rfl rfl (decide_eq_false (fun e => hl ((lI_neg (by omega)).mp e))) ?_
        refine RQ.blk 2 (pc' := 58) (lv' := [(5, .int (nI (od k))), (4, .int (nI k)), (0, .ref 75), (1, .ref (a + 1)), (2, .int (nI m)), (3, .int x)]) (st' := [.int (nI (od k))]) (H' := _) (kc' := 0) (ks' := 0) rfl ?_
        rw [if_pos ⟨hks, he, hl⟩]
        exact RQ.done (c := 0) (s := 0) rfl rfl rfl rfl rfl
    ·
      refine RQ.call (v := some (.int (if sl kf (od k * 41) (kl (od k)) = sl g 0 m then 1 else 0))) (st' := []) rfl rfl rfl rfl rfl rfl (args_v [.int (nI m), .int 0, .ref (a + 1), .int (nI (od k))] [] rfl rfl (Nat.le_of_ble_eq_true rfl) rfl h.1 (Nat.le_of_ble_eq_true rfl)) (rc_hasKey (j := 0) h hk h1 hna hj hod) ?_
      rw [if_neg he]
      refine RQ.brT rfl rfl rfl (by decide) ?_
      refine RQ.blk 1 (pc' := 58) (lv' := [(5, .int (nI (od k))), (4, .int (nI k)), (0, .ref 75), (1, .ref (a + 1)), (2, .int (nI m)), (3, .int x)]) (st' := [.int (-1)]) (H' := _) (kc' := 0) (ks' := 0) rfl ?_
      rw [if_neg (fun e => he e.2.1)]
      exact RQ.done (c := 0) (s := 0) rfl rfl rfl rfl rfl
  ·
    refine RQ.brF rfl rfl rfl (cF_lt k sz) ?_
    refine RQ.blk 1 (pc' := 20) (lv' := [(4, .int (nI k)), (0, .ref 75), (1, .ref (a + 1)), (2, .int (nI m)), (3, .int x)]) (st' := [.int (-1)]) (H' := _) (kc' := 0) (ks' := 0) rfl ?_
    rw [if_neg (fun e => hks e.1)]
    exact RQ.done (c := 0) (s := 0) rfl rfl rfl rfl rfl
/-- the first of its key in order -/
def nwP (kf : Nat → Int8) (kl od : Nat → Nat) (p : Nat) : Prop := p = 0 ∨ ¬ sl kf (od (p - 1) * 41) (kl (od (p - 1))) = sl kf (od p * 41) (kl (od p))
theorem rc_isNewest {sc : Nat × (Nat → Int32)} {p : Nat} {d N : Nat} {H : aH} {kf : Nat → Int8} {kl mo pl : Nat → Nat} {le : Nat → Option Nat} {al : Nat → Bool} {od sp : Nat → Nat} {sz ss ac : Nat} (h : VersAt H N kf kl mo pl le al od sp sz ss ac) (hk : VersOk N kl mo pl le od sp sz ss) (hp : p < sz) : RC sc (d + 2) mr_73 [.ref 75, .int (nI p)] H (.inl (some (.int (if p = 0 ∨ ¬ sl kf (od (p - 1) * 41) (kl (od (p - 1))) = sl kf (od p * 41) (kl (od p)) then 1 else 0)))) H 0 0 := by
  have hN := hk.1
  have hsz := hk.2.1
  have hss := hk.2.2.1
  refine RC.of ?_
  refine RQ.blk 1 (pc' := 1) (lv' := [(0, .ref 75), (1, .int (nI p))]) (st' := [.int (nI p)]) (H' := _) (kc' := 0) (ks' := 0) rfl ?_
  by_cases hp0 : p = 0
  ·
    refine RQ.brT rfl rfl rfl (cT_le p 0) ?_
    refine RQ.blk 2 (pc' := 38) (lv' := [(0, .ref 75), (1, .int (nI p))]) (st' := [.int 1]) (H' := _) (kc' := 0) (ks' := 0) rfl ?_
    rw [if_pos (Or.inl hp0)]
    exact RQ.done (c := 0) (s := 0) rfl rfl rfl rfl rfl
  ·
    refine RQ.brF rfl rfl rfl (cF_le p 0) ?_
    refine RQ.blk 2 (pc' := 6) (lv' := [(0, .ref 75), (1, .int (nI p))]) (st' := [.ref 75, .int (nI p)]) (H' := _) (kc' := 0) (ks' := 0) rfl ?_
    refine RQ.get (ci := 10) rfl h.1 rfl rfl ?_
    refine RQ.brF rfl rfl rfl (cF_ge p sz) ?_
    refine RQ.blk 2 (pc' := 14) (lv' := [(0, .ref 75), (1, .int (nI p))]) (st' := [.ref 75, .ref 75]) (H' := _) (kc' := 0) (ks' := 0) rfl ?_
    refine RQ.get (ci := 10) rfl h.1 rfl rfl ?_
    refine RQ.blk 3 (pc' := 20) (lv' := [(0, .ref 75), (1, .int (nI p))]) (st' := [.int (nI p - 1), .ref 82, .ref 75]) (H' := _) (kc' := 0) (ks' := 0) rfl ?_
    rw [show (nI p - 1 : Int32) = nI (p - 1) from pk_sub (a := p) (b := 1) (by omega)]
    refine RQ.ialdN (j := p - 1) rfl h.2.2.2.2.2.2.2.1 (by omega) (by omega) ?_
    refine RQ.blk 1 (pc' := 22) (lv' := [(0, .ref 75), (1, .int (nI p))]) (st' := [.ref 75, .int (nI (od (p - 1))), .ref 75]) (H' := _) (kc' := 0) (ks' := 0) rfl ?_
    refine RQ.get (ci := 10) rfl h.1 rfl rfl ?_
    refine RQ.blk 1 (pc' := 26) (lv' := [(0, .ref 75), (1, .int (nI p))]) (st' := [.int (nI p), .ref 82, .int (nI (od (p - 1))), .ref 75]) (H' := _) (kc' := 0) (ks' := 0) rfl ?_
    refine RQ.ialdN (j := p) rfl h.2.2.2.2.2.2.2.1 (by omega) (by omega) ?_
    refine RQ.call (v := some (.int (if sl kf (od (p - 1) * 41) (kl (od (p - 1))) = sl kf (od p * 41) (kl (od p)) then 1 else 0))) (st' := []) rfl rfl rfl rfl rfl rfl (args_v [.int (nI (od p)), .int (nI (od (p - 1)))] [] rfl rfl (Nat.le_of_ble_eq_true rfl) rfl h.1 (Nat.le_of_ble_eq_true rfl)) (rc_sameKey h hk (hk.2.2.2.1 (p - 1) (by omega)) (hk.2.2.2.1 p hp)) ?_
    by_cases he : sl kf (od (p - 1) * 41) (kl (od (p - 1))) = sl kf (od p * 41) (kl (od p))
    ·
      rw [if_pos he, if_neg (fun e => e.elim hp0 (fun e => e he))]
      refine RQ.brT rfl rfl rfl (by decide) ?_
      refine RQ.blk 1 (pc' := 38) (lv' := [(0, .ref 75), (1, .int (nI p))]) (st' := [.int 0]) (H' := _) (kc' := 0) (ks' := 0) rfl ?_
      exact RQ.done (c := 0) (s := 0) rfl rfl rfl rfl rfl
    ·
      rw [if_neg he, if_pos (Or.inr he)]
      refine RQ.brF rfl rfl rfl (by decide) ?_
      refine RQ.blk 2 (pc' := 38) (lv' := [(0, .ref 75), (1, .int (nI p))]) (st' := [.int 1]) (H' := _) (kc' := 0) (ks' := 0) rfl ?_
      exact RQ.done (c := 0) (s := 0) rfl rfl rfl rfl rfl
/-- whether a version is needed: of a user's key or not, taken out or not, its moment, whether it is the newest, the moment of the next -/
def isN (op : Nat → Bool) (sm : Nat → Nat) (us ou : Bool) (m : Nat) (nw : Bool) (nr : Nat) (x : Int32) : Bool := if us = false then nw && !ou else if ou = true ∧ aB op sm m x = false then false else nw || aW op sm m nr x
theorem rc_isNeeded {sc : Nat × (Nat → Int32)} {d N : Nat} {H : aH} {kf : Nat → Int8} {kl mo pl : Nat → Nat} {le : Nat → Option Nat} {al : Nat → Bool} {od sp : Nat → Nat} {sz ss ac : Nat} {op : Nat → Bool} {sm : Nat → Nat} {s nr : Nat} {nw : Bool} {x : Int32} (g : SightAt H op sm) (hsm : ∀ t, t < 8 → sm t < 2 ^ 31) (h : VersAt H N kf kl mo pl le al od sp sz ss ac) (hk : VersOk N kl mo pl le od sp sz ss) (hs : s < N) (hnr : nr < 2 ^ 31) : RC sc (d + 1) mr_81 [.ref 75, .int (nI s), .int (if nw then 1 else 0), .int (nI nr), .int x] H (.inl (some (.int (if isN op sm (decide (ub (kf (s * 41)) = 0)) (decide (le s = none)) (mo s) nw nr x then 1 else 0)))) H 0 0 := by
  have hN := hk.1
  have hsz := hk.2.1
  have hss := hk.2.2.1
  have hk_s := hk.2.2.2.2.2 s hs
  refine RC.of ?_
  refine RQ.blk 1 (pc' := 1) (lv' := [(0, .ref 75), (1, .int (nI s)), (2, .int (if nw then 1 else 0)), (3, .int (nI nr)), (4, .int x)]) (st' := [.ref 75]) (H' := _) (kc' := 0) (ks' := 0) rfl ?_
  refine RQ.get (ci := 10) rfl h.1 rfl rfl ?_
  refine RQ.blk 1 (pc' := 5) (lv' := [(0, .ref 75), (1, .int (nI s)), (2, .int (if nw then 1 else 0)), (3, .int (nI nr)), (4, .int x)]) (st' := [.int (nI s), .ref 80]) (H' := _) (kc' := 0) (ks' := 0) rfl ?_
  refine RQ.ialdN (j := s) rfl h.2.2.2.2.2.1 (by omega) (by omega) ?_
  unfold isN
  have tail : ∀ ou : Bool, RQ sc (d + 1) mr_81 64 [(5, .int (if ou then 1 else 0)), (0, .ref 75), (1, .int (nI s)), (2, .int (if nw then 1 else 0)), (3, .int (nI nr)), (4, .int x)] [] H 0 0 (fun r => r = (.inl (some (.int (if (nw || aW op sm (mo s) nr x) = true then 1 else 0))), H, 0, 0)) := by
    intro ou
    cases nw with
    | true =>
      refine RQ.blk 1 (pc' := 65) (lv' := [(5, .int (if ou then 1 else 0)), (0, .ref 75), (1, .int (nI s)), (2, .int (if true then 1 else 0)), (3, .int (nI nr)), (4, .int x)]) (st' := [.int (if true then 1 else 0)]) (H' := _) (kc' := 0) (ks' := 0) rfl ?_
      refine RQ.brT rfl rfl rfl (by decide) ?_
      refine RQ.blk 2 (pc' := 92) (lv' := [(5, .int (if ou then 1 else 0)), (0, .ref 75), (1, .int (nI s)), (2, .int (if true then 1 else 0)), (3, .int (nI nr)), (4, .int x)]) (st' := [.int 1]) (H' := _) (kc' := 0) (ks' := 0) rfl ?_
      exact RQ.done (c := 0) (s := 0) rfl rfl rfl rfl rfl
    | false =>
      refine RQ.blk 1 (pc' := 65) (lv' := [(5, .int (if ou then 1 else 0)), (0, .ref 75), (1, .int (nI s)), (2, .int (if false then 1 else 0)), (3, .int (nI nr)), (4, .int x)]) (st' := [.int (if false then 1 else 0)]) (H' := _) (kc' := 0) (ks' := 0) rfl ?_
      refine RQ.brF rfl rfl rfl (by decide) ?_
      refine RQ.blk 1 (pc' := 69) (lv' := [(5, .int (if ou then 1 else 0)), (0, .ref 75), (1, .int (nI s)), (2, .int (if false then 1 else 0)), (3, .int (nI nr)), (4, .int x)]) (st' := [.ref 75]) (H' := _) (kc' := 0) (ks' := 0) rfl ?_
      refine RQ.get (ci := 10) rfl h.1 rfl rfl ?_
      refine RQ.blk 1 (pc' := 73) (lv' := [(5, .int (if ou then 1 else 0)), (0, .ref 75), (1, .int (nI s)), (2, .int (if false then 1 else 0)), (3, .int (nI nr)), (4, .int x)]) (st' := [.ref 75, .ref 8]) (H' := _) (kc' := 0) (ks' := 0) rfl ?_
      refine RQ.get (ci := 10) rfl h.1 rfl rfl ?_
      refine RQ.blk 1 (pc' := 77) (lv' := [(5, .int (if ou then 1 else 0)), (0, .ref 75), (1, .int (nI s)), (2, .int (if false then 1 else 0)), (3, .int (nI nr)), (4, .int x)]) (st' := [.int (nI s), .ref 78, .ref 8]) (H' := _) (kc' := 0) (ks' := 0) rfl ?_
      refine RQ.ialdN (j := s) rfl h.2.2.2.1 (by omega) (by omega) ?_
      refine RQ.blk 2 (pc' := 81) (lv' := [(5, .int (if ou then 1 else 0)), (0, .ref 75), (1, .int (nI s)), (2, .int (if false then 1 else 0)), (3, .int (nI nr)), (4, .int x)]) (st' := [.int x, .int (nI nr), .int (nI (mo s)), .ref 8]) (H' := _) (kc' := 0) (ks' := 0) rfl ?_
      refine RQ.call (v := some (.int (if aW op sm (mo s) nr x then 1 else 0))) (st' := []) rfl rfl rfl rfl rfl rfl (args_v [.int x, .int (nI nr), .int (nI (mo s))] [] rfl rfl (Nat.le_of_ble_eq_true rfl) rfl g.1 (Nat.le_of_ble_eq_true rfl)) (rc_anyWithin g hsm (by omega) hnr) ?_
      rw [Bool.false_or]
      cases hw : aW op sm (mo s) nr x with
      | true =>
        refine RQ.brF rfl rfl rfl (by decide) ?_
        refine RQ.blk 2 (pc' := 92) (lv' := [(5, .int (if ou then 1 else 0)), (0, .ref 75), (1, .int (nI s)), (2, .int (if false then 1 else 0)), (3, .int (nI nr)), (4, .int x)]) (st' := [.int 1]) (H' := _) (kc' := 0) (ks' := 0) rfl ?_
        exact RQ.done (c := 0) (s := 0) rfl rfl rfl rfl rfl
      | false =>
        refine RQ.brT rfl rfl rfl (by decide) ?_
        refine RQ.blk 1 (pc' := 92) (lv' := [(5, .int (if ou then 1 else 0)), (0, .ref 75), (1, .int (nI s)), (2, .int (if false then 1 else 0)), (3, .int (nI nr)), (4, .int x)]) (st' := [.int 0]) (H' := _) (kc' := 0) (ks' := 0) rfl ?_
        exact RQ.done (c := 0) (s := 0) rfl rfl rfl rfl rfl
  by_cases ho : le s = none
  · rw [decide_eq_true ho]
    refine RQ.brF rfl rfl rfl (decide_eq_false (Int32.not_le.mpr ((lI_neg (by omega)).mpr ho))) ?_
    refine RQ.blk 5 (pc' := 18) (lv' := [(5, .int 1), (0, .ref 75), (1, .int (nI s)), (2, .int (if nw then 1 else 0)), (3, .int (nI nr)), (4, .int x)]) (st' := [.int (nI s), .ref 75]) (H' := _) (kc' := 0) (ks' := 0) rfl ?_
    by_cases hu : ub (kf (s * 41)) = 0
    · rw [decide_eq_true hu, if_neg (show ¬ (true = false) by decide)]
      refine RQ.call (v := some (.int 1)) (st' := []) rfl rfl rfl rfl rfl rfl (args_v [.int (nI s)] [] rfl rfl (Nat.le_of_ble_eq_true rfl) rfl h.1 (Nat.le_of_ble_eq_true rfl)) (rc_isUserT h hk hs hu) ?_
      refine RQ.brT rfl rfl rfl (by decide) ?_
      refine RQ.blk 1 (pc' := 41) (lv' := [(5, .int 1), (0, .ref 75), (1, .int (nI s)), (2, .int (if nw then 1 else 0)), (3, .int (nI nr)), (4, .int x)]) (st' := [.int 1]) (H' := _) (kc' := 0) (ks' := 0) rfl ?_
      refine RQ.brF rfl rfl rfl (by decide) ?_
      refine RQ.blk 1 (pc' := 45) (lv' := [(5, .int 1), (0, .ref 75), (1, .int (nI s)), (2, .int (if nw then 1 else 0)), (3, .int (nI nr)), (4, .int x)]) (st' := [.ref 75]) (H' := _) (kc' := 0) (ks' := 0) rfl ?_
      refine RQ.get (ci := 10) rfl h.1 rfl rfl ?_
      refine RQ.blk 1 (pc' := 49) (lv' := [(5, .int 1), (0, .ref 75), (1, .int (nI s)), (2, .int (if nw then 1 else 0)), (3, .int (nI nr)), (4, .int x)]) (st' := [.ref 75, .ref 8]) (H' := _) (kc' := 0) (ks' := 0) rfl ?_
      refine RQ.get (ci := 10) rfl h.1 rfl rfl ?_
      refine RQ.blk 1 (pc' := 53) (lv' := [(5, .int 1), (0, .ref 75), (1, .int (nI s)), (2, .int (if nw then 1 else 0)), (3, .int (nI nr)), (4, .int x)]) (st' := [.int (nI s), .ref 78, .ref 8]) (H' := _) (kc' := 0) (ks' := 0) rfl ?_
      refine RQ.ialdN (j := s) rfl h.2.2.2.1 (by omega) (by omega) ?_
      refine RQ.blk 1 (pc' := 56) (lv' := [(5, .int 1), (0, .ref 75), (1, .int (nI s)), (2, .int (if nw then 1 else 0)), (3, .int (nI nr)), (4, .int x)]) (st' := [.int x, .int (nI (mo s)), .ref 8]) (H' := _) (kc' := 0) (ks' := 0) rfl ?_
      refine RQ.call (v := some (.int (if aB op sm (mo s) x then 1 else 0))) (st' := []) rfl rfl rfl rfl rfl rfl (args_v [.int x, .int (nI (mo s))] [] rfl rfl (Nat.le_of_ble_eq_true rfl) rfl g.1 (Nat.le_of_ble_eq_true rfl)) (rc_anyBefore g hsm (by omega)) ?_
      cases hb : aB op sm (mo s) x with
      | true =>
        rw [if_neg (show ¬ (true = true ∧ true = false) from fun e => Bool.noConfusion e.2)]
        refine RQ.brT rfl rfl rfl (by decide) ?_
        exact tail true
      | false =>
        rw [if_pos (show true = true ∧ false = false from ⟨rfl, rfl⟩)]
        refine RQ.brF rfl rfl rfl (by decide) ?_
        refine RQ.blk 1 (pc' := 63) (lv' := [(5, .int 1), (0, .ref 75), (1, .int (nI s)), (2, .int (if nw then 1 else 0)), (3, .int (nI nr)), (4, .int x)]) (st' := [.int 0]) (H' := _) (kc' := 0) (ks' := 0) rfl ?_
        exact RQ.done (c := 0) (s := 0) rfl rfl rfl rfl rfl
    · rw [decide_eq_false hu, if_pos rfl]
      refine RQ.call (v := some (.int 0)) (st' := []) rfl rfl rfl rfl rfl rfl (args_v [.int (nI s)] [] rfl rfl (Nat.le_of_ble_eq_true rfl) rfl h.1 (Nat.le_of_ble_eq_true rfl)) (rc_isUserF h hk hs hu) ?_
      refine RQ.brF rfl rfl rfl (by decide) ?_
      refine RQ.blk 1 (pc' := 25) (lv' := [(5, .int 1), (0, .ref 75), (1, .int (nI s)), (2, .int (if nw then 1 else 0)), (3, .int (nI nr)), (4, .int x)]) (st' := [.int (if nw then 1 else 0)]) (H' := _) (kc' := 0) (ks' := 0) rfl ?_
      cases nw with
      | true =>
        refine RQ.brF rfl rfl rfl (by decide) ?_
        refine RQ.blk 1 (pc' := 30) (lv' := [(5, .int 1), (0, .ref 75), (1, .int (nI s)), (2, .int (if true then 1 else 0)), (3, .int (nI nr)), (4, .int x)]) (st' := [.int 1]) (H' := _) (kc' := 0) (ks' := 0) rfl ?_
        refine RQ.brT rfl rfl rfl (by decide) ?_
        refine RQ.blk 1 (pc' := 38) (lv' := [(5, .int 1), (0, .ref 75), (1, .int (nI s)), (2, .int (if true then 1 else 0)), (3, .int (nI nr)), (4, .int x)]) (st' := [.int 0]) (H' := _) (kc' := 0) (ks' := 0) rfl ?_
        exact RQ.done (c := 0) (s := 0) rfl rfl rfl rfl rfl
      | false =>
        refine RQ.brT rfl rfl rfl (by decide) ?_
        refine RQ.blk 1 (pc' := 38) (lv' := [(5, .int 1), (0, .ref 75), (1, .int (nI s)), (2, .int (if false then 1 else 0)), (3, .int (nI nr)), (4, .int x)]) (st' := [.int 0]) (H' := _) (kc' := 0) (ks' := 0) rfl ?_
        exact RQ.done (c := 0) (s := 0) rfl rfl rfl rfl rfl
  · rw [decide_eq_false ho]
    refine RQ.brT rfl rfl rfl (decide_eq_true (Int32.not_lt.mp (fun e => ho ((lI_neg (by omega)).mp e)))) ?_
    refine RQ.blk 4 (pc' := 18) (lv' := [(5, .int 0), (0, .ref 75), (1, .int (nI s)), (2, .int (if nw then 1 else 0)), (3, .int (nI nr)), (4, .int x)]) (st' := [.int (nI s), .ref 75]) (H' := _) (kc' := 0) (ks' := 0) rfl ?_
    by_cases hu : ub (kf (s * 41)) = 0
    · rw [decide_eq_true hu, if_neg (show ¬ (true = false) by decide)]
      refine RQ.call (v := some (.int 1)) (st' := []) rfl rfl rfl rfl rfl rfl (args_v [.int (nI s)] [] rfl rfl (Nat.le_of_ble_eq_true rfl) rfl h.1 (Nat.le_of_ble_eq_true rfl)) (rc_isUserT h hk hs hu) ?_
      refine RQ.brT rfl rfl rfl (by decide) ?_
      refine RQ.blk 1 (pc' := 41) (lv' := [(5, .int 0), (0, .ref 75), (1, .int (nI s)), (2, .int (if nw then 1 else 0)), (3, .int (nI nr)), (4, .int x)]) (st' := [.int 0]) (H' := _) (kc' := 0) (ks' := 0) rfl ?_
      rw [if_neg (show ¬ (false = true ∧ aB op sm (mo s) x = false) from fun e => Bool.noConfusion e.1)]
      refine RQ.brT rfl rfl rfl (by decide) ?_
      exact tail false
    · rw [decide_eq_false hu, if_pos rfl]
      refine RQ.call (v := some (.int 0)) (st' := []) rfl rfl rfl rfl rfl rfl (args_v [.int (nI s)] [] rfl rfl (Nat.le_of_ble_eq_true rfl) rfl h.1 (Nat.le_of_ble_eq_true rfl)) (rc_isUserF h hk hs hu) ?_
      refine RQ.brF rfl rfl rfl (by decide) ?_
      refine RQ.blk 1 (pc' := 25) (lv' := [(5, .int 0), (0, .ref 75), (1, .int (nI s)), (2, .int (if nw then 1 else 0)), (3, .int (nI nr)), (4, .int x)]) (st' := [.int (if nw then 1 else 0)]) (H' := _) (kc' := 0) (ks' := 0) rfl ?_
      cases nw with
      | true =>
        refine RQ.brF rfl rfl rfl (by decide) ?_
        refine RQ.blk 1 (pc' := 30) (lv' := [(5, .int 0), (0, .ref 75), (1, .int (nI s)), (2, .int (if true then 1 else 0)), (3, .int (nI nr)), (4, .int x)]) (st' := [.int 0]) (H' := _) (kc' := 0) (ks' := 0) rfl ?_
        refine RQ.brF rfl rfl rfl (by decide) ?_
        refine RQ.blk 2 (pc' := 38) (lv' := [(5, .int 0), (0, .ref 75), (1, .int (nI s)), (2, .int (if true then 1 else 0)), (3, .int (nI nr)), (4, .int x)]) (st' := [.int 1]) (H' := _) (kc' := 0) (ks' := 0) rfl ?_
        exact RQ.done (c := 0) (s := 0) rfl rfl rfl rfl rfl
      | false =>
        refine RQ.brT rfl rfl rfl (by decide) ?_
        refine RQ.blk 1 (pc' := 38) (lv' := [(5, .int 0), (0, .ref 75), (1, .int (nI s)), (2, .int (if false then 1 else 0)), (3, .int (nI nr)), (4, .int x)]) (st' := [.int 0]) (H' := _) (kc' := 0) (ks' := 0) rfl ?_
        exact RQ.done (c := 0) (s := 0) rfl rfl rfl rfl rfl
