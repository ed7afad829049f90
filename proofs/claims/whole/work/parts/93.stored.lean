/-! ===== a record is where it is said to be; get; class; written by wip/gen/stored.py ===== -/
/-- the log's object -/
def logF (mp hv : Nat) : List Value := [.ref 72, .ref 84, .ref 75, .ref 137, .ref 192, .ref 193, .ref 194, .ref 195, .int (nI mp), .int (nI hv)]
theorem fstF_ex {P : Nat → Bool} : ∀ (n v : Nat), (∃ j, v ≤ j ∧ j < v + n ∧ P j = true) → ∃ j, fstF P v n = some j ∧ P j = true ∧ v ≤ j ∧ j < v + n
  | 0, v, ⟨j, h1, h2, _⟩ => absurd h1 (by omega)
  | n + 1, v, ⟨j, h1, h2, h3⟩ => by
    rw [fstF]
    by_cases h : P v = true
    · exact ⟨v, if_pos h, h, Nat.le_refl v, by omega⟩
    · rw [if_neg h]
      have hj : ¬ j = v := fun e => h (by rw [← e]; exact h3)
      obtain ⟨i, a1, a2, a3, a4⟩ := fstF_ex n (v + 1) ⟨j, by omega, by omega, h3⟩
      exact ⟨i, a1, a2, by omega, by omega⟩
theorem VersAt.far {H H' : aH} {N : Nat} {kf : Nat → Int8} {kl mo pl : Nat → Nat} {le : Nat → Option Nat} {al : Nat → Bool} {od sp : Nat → Nat} {sz ss ac : Nat} (h : VersAt H N kf kl mo pl le al od sp sz ss ac) (hs : ∀ a, 74 ≤ a → a < 83 → H'[a]? = H[a]?) : VersAt H' N kf kl mo pl le al od sp sz ss ac := ⟨(hs _ (by omega) (by omega)).trans h.1, (hs _ (by omega) (by omega)).trans h.2.1, (hs _ (by omega) (by omega)).trans h.2.2.1, (hs _ (by omega) (by omega)).trans h.2.2.2.1, (hs _ (by omega) (by omega)).trans h.2.2.2.2.1, (hs _ (by omega) (by omega)).trans h.2.2.2.2.2.1, (hs _ (by omega) (by omega)).trans h.2.2.2.2.2.2.1, (hs _ (by omega) (by omega)).trans h.2.2.2.2.2.2.2.1, (hs _ (by omega) (by omega)).trans h.2.2.2.2.2.2.2.2⟩
theorem ChipAt.far {H H' : aH} {B : Nat} {cf : Nat → Int8} {tf : Nat → Nat} {pl : Option Nat} {bl ov : Nat} (h : ChipAt H B cf tf pl bl ov) (hs : ∀ a, 71 ≤ a → a < 74 → H'[a]? = H[a]?) : ChipAt H' B cf tf pl bl ov := ⟨(hs _ (by omega) (by omega)).trans h.1, (hs _ (by omega) (by omega)).trans h.2.1, (hs _ (by omega) (by omega)).trans h.2.2⟩
theorem LayAt.far {H H' : aH} {F : List Value} {B : Nat} {us : Nat → Bool} {lg : Nat → Nat} (h : LayAt H F B us lg) (hs : ∀ a, 83 ≤ a → a < 88 → H'[a]? = H[a]?) : LayAt H' F B us lg := ⟨(hs _ (by omega) (by omega)).trans h.1, (hs _ (by omega) (by omega)).trans h.2.1, (hs _ (by omega) (by omega)).trans h.2.2⟩
theorem rc_isAt {sc : Nat × (Nat → Int32)} {N : Nat} {kf : Nat → Int8} {kl mo pl : Nat → Nat} {le : Nat → Option Nat} {al : Nat → Bool} {od sp : Nat → Nat} {sz ss ac : Nat} {lc fr ff : Nat} {wr : Bool} {tp rc ms mt sq tu tn nb : Nat} {us : Nat → Bool} {lg : Nat → Nat} {B : Nat} {cf : Nat → Int8} {tf : Nat → Nat} {pq : Option Nat} {bb ov : Nat} {s n : Nat} {mp hv d : Nat} {H : aH} (h : VersAt H N kf kl mo pl le al od sp sz ss ac) (hk : VersOk N kl mo pl le od sp sz ss) (hC : ChipAt H B cf tf pq bb ov) (hY : LayAt H (layF B lc fr ff wr tp rc ms mt sq tu tn nb) B us lg) (hB : B ≤ 128) (hlc : lc ≤ B) (hlg : ∀ j, j < lc → lg j < 2 ^ 30) (hG : H[190]? = some (kO 4 (logF mp hv))) (hs : s < N) (hle : le s = some n) (hR : RecAt cf (pl s) (sl kf (s * 41) (kl s)) (mo s) n) (hin : ∃ j, j < lc ∧ lg j = pl s / 2048) (hb : pl s + 9 + kl s + n ≤ B * 2048) : RC sc (d + 1) mr_62 [.ref 191, .int (nI s)] H (.inl (some (.int 1))) H 0 0 := by
  have hN := hk.1
  have hk_s := hk.2.2.2.2.2 s hs
  obtain ⟨r1, r2, r3, r4, r5, r6⟩ := hR
  rw [sl_length] at r2 r5 r6
  have ub0 := ub_lt (cf (pl s))
  have e2 : numI cf (pl s + 2) 2 0 = nI n := by rw [show (0 : Int32) = nI 0 from rfl, numI_be _ _ _ (by rw [r3]; omega), r3]
  have e4 : numI cf (pl s + 4) 4 0 = nI (mo s) := by rw [show (0 : Int32) = nI 0 from rfl, numI_be _ _ _ (by rw [r4]; omega), r4]
  obtain ⟨j, j1, -, -, j2⟩ := fstF_ex (P := fun j => decide (lg j = pl s / 2048)) lc 0 (by obtain ⟨j, a1, a2⟩ := hin; exact ⟨j, by omega, by omega, decide_eq_true a2⟩)
  have hlog := rc_logOf (sc := sc) (d := d) (a := pl s) hY hB hlc (by omega) hlg
  rw [j1] at hlog
  obtain ⟨x, H1, hcmp, eH, ex⟩ := ri_cmp (sc := sc) (d := d) (a := 72) (b := 75) (i := pl s + 8) (n := kl s) (j := s * 41) (m := kl s) hC.2.1 h.2.1 (by omega) (by omega) (by omega) (by omega)
  rw [r5, cmpL_self] at ex
  have ex0 : x = 0 := (i_eq0 ex).mpr rfl
  rw [eH, ex0] at hcmp
  refine RP.blk 1 (pc' := 1) (lv' := [(0, .ref 191), (1, .int (nI s))]) (st' := [.ref 191]) (H' := _) (kc' := 0) (ks' := 0) rfl ?_
  refine RP.get (ci := 4) rfl hG rfl rfl ?_
  refine RP.get (ci := 10) rfl h.1 rfl rfl ?_
  refine RP.blk 1 (pc' := 8) (lv' := [(0, .ref 191), (1, .int (nI s))]) (st' := [.int (nI s), .ref 79]) (H' := _) (kc' := 0) (ks' := 0) rfl ?_
  refine RP.ialdN (j := s) rfl h.2.2.2.2.1 (by omega) (by omega) ?_
  refine RP.blk 2 (pc' := 11) (lv' := [(2, .int (nI (pl s))), (0, .ref 191), (1, .int (nI s))]) (st' := [.ref 191]) (H' := _) (kc' := 0) (ks' := 0) rfl ?_
  refine RP.get (ci := 4) rfl hG rfl rfl ?_
  refine RP.get (ci := 10) rfl h.1 rfl rfl ?_
  refine RP.blk 1 (pc' := 18) (lv' := [(2, .int (nI (pl s))), (0, .ref 191), (1, .int (nI s))]) (st' := [.int (nI s), .ref 77]) (H' := _) (kc' := 0) (ks' := 0) rfl ?_
  refine RP.ialdN (j := s) rfl h.2.2.1 (by omega) (by omega) ?_
  refine RP.blk 2 (pc' := 21) (lv' := [(3, .int (nI (kl s))), (2, .int (nI (pl s))), (0, .ref 191), (1, .int (nI s))]) (st' := [.ref 191]) (H' := _) (kc' := 0) (ks' := 0) rfl ?_
  refine RP.get (ci := 4) rfl hG rfl rfl ?_
  refine RP.get (ci := 10) rfl h.1 rfl rfl ?_
  refine RP.blk 1 (pc' := 28) (lv' := [(3, .int (nI (kl s))), (2, .int (nI (pl s))), (0, .ref 191), (1, .int (nI s))]) (st' := [.int (nI s), .ref 80]) (H' := _) (kc' := 0) (ks' := 0) rfl ?_
  refine RP.ialdN (j := s) rfl h.2.2.2.2.2.1 (by omega) (by omega) ?_
  refine RP.blk 1 (pc' := 31) (lv' := [(4, .int (lI (le s))), (3, .int (nI (kl s))), (2, .int (nI (pl s))), (0, .ref 191), (1, .int (nI s))]) (st' := []) (H' := _) (kc' := 0) (ks' := 0) rfl ?_
  rw [hle]
  refine RP.blk 1 (pc' := 32) (lv' := [(4, .int (nI n)), (3, .int (nI (kl s))), (2, .int (nI (pl s))), (0, .ref 191), (1, .int (nI s))]) (st' := [.ref 191]) (H' := _) (kc' := 0) (ks' := 0) rfl ?_
  refine RP.get (ci := 4) rfl hG rfl rfl ?_
  refine RP.blk 1 (pc' := 36) (lv' := [(4, .int (nI n)), (3, .int (nI (kl s))), (2, .int (nI (pl s))), (0, .ref 191), (1, .int (nI s))]) (st' := [.int (nI (pl s)), .ref 72]) (H' := _) (kc' := 0) (ks' := 0) rfl ?_
  refine RP.call (v := some (.int (nI (ub (cf (pl s)))))) (st' := []) rfl rfl rfl rfl rfl rfl (args_v [.int (nI (pl s))] [] rfl rfl (Nat.le_of_ble_eq_true rfl) rfl hC.1 (Nat.le_of_ble_eq_true rfl)) (rc_cat (i := pl s) hC.1 rfl hC.2.1 (by omega) (by omega)) ?_
  refine RP.blk 2 (pc' := 42) (lv' := [(5, .int (nI (ub (cf (pl s))))), (4, .int (nI n)), (3, .int (nI (kl s))), (2, .int (nI (pl s))), (0, .ref 191), (1, .int (nI s))]) (st' := [.ref 191]) (H' := _) (kc' := 0) (ks' := 0) rfl ?_
  refine RP.get (ci := 4) rfl hG rfl rfl ?_
  refine RP.blk 1 (pc' := 46) (lv' := [(5, .int (nI (ub (cf (pl s))))), (4, .int (nI n)), (3, .int (nI (kl s))), (2, .int (nI (pl s))), (0, .ref 191), (1, .int (nI s))]) (st' := [.int (nI (pl s)), .ref 84]) (H' := _) (kc' := 0) (ks' := 0) rfl ?_
  refine RP.call (v := some (.int (nI j))) (st' := []) rfl rfl rfl rfl rfl rfl (args_v [.int (nI (pl s))] [] rfl rfl (Nat.le_of_ble_eq_true rfl) rfl hY.1 (Nat.le_of_ble_eq_true rfl)) hlog ?_
  refine RP.brF rfl rfl rfl (cF_lt j 0) ?_
  refine RP.blk 2 (pc' := 55) (lv' := [(5, .int (nI (ub (cf (pl s))))), (4, .int (nI n)), (3, .int (nI (kl s))), (2, .int (nI (pl s))), (0, .ref 191), (1, .int (nI s))]) (st' := [.int 1, .int (nI (ub (cf (pl s))))]) (H' := _) (kc' := 0) (ks' := 0) rfl ?_
  by_cases c0 : ub (cf (pl s)) = 1
  · refine RP.brT rfl rfl rfl (cT_eq (ub (cf (pl s))) 1) ?_
    refine RP.blk 1 (pc' := 65) (lv' := [(5, .int (nI (ub (cf (pl s))))), (4, .int (nI n)), (3, .int (nI (kl s))), (2, .int (nI (pl s))), (0, .ref 191), (1, .int (nI s))]) (st' := [.ref 191]) (H' := _) (kc' := 0) (ks' := 0) rfl ?_
    refine RP.get (ci := 4) rfl hG rfl rfl ?_
    refine RP.blk 3 (pc' := 71) (lv' := [(5, .int (nI (ub (cf (pl s))))), (4, .int (nI n)), (3, .int (nI (kl s))), (2, .int (nI (pl s))), (0, .ref 191), (1, .int (nI s))]) (st' := [.int (nI (pl s) + 1), .ref 72]) (H' := _) (kc' := 0) (ks' := 0) rfl ?_
    rw [show (nI (pl s) + 1 : Int32) = nI (pl s + 1) from nI_add (pl s) 1]
    refine RP.call (v := some (.int (nI (ub (cf (pl s + 1)))))) (st' := []) rfl rfl rfl rfl rfl rfl (args_v [.int (nI (pl s + 1))] [] rfl rfl (Nat.le_of_ble_eq_true rfl) rfl hC.1 (Nat.le_of_ble_eq_true rfl)) (rc_cat (i := pl s + 1) hC.1 rfl hC.2.1 (by omega) (by omega)) ?_
    refine RP.blk 1 (pc' := 75) (lv' := [(5, .int (nI (ub (cf (pl s))))), (4, .int (nI n)), (3, .int (nI (kl s))), (2, .int (nI (pl s))), (0, .ref 191), (1, .int (nI s))]) (st' := [.int (nI (kl s)), .int (nI (ub (cf (pl s + 1))))]) (H' := _) (kc' := 0) (ks' := 0) rfl ?_
    refine RP.brF rfl rfl rfl (cF_ne (ub (cf (pl s + 1))) (kl s)) ?_
    refine RP.blk 1 (pc' := 79) (lv' := [(5, .int (nI (ub (cf (pl s))))), (4, .int (nI n)), (3, .int (nI (kl s))), (2, .int (nI (pl s))), (0, .ref 191), (1, .int (nI s))]) (st' := [.ref 191]) (H' := _) (kc' := 0) (ks' := 0) rfl ?_
    refine RP.get (ci := 4) rfl hG rfl rfl ?_
    refine RP.blk 3 (pc' := 85) (lv' := [(5, .int (nI (ub (cf (pl s))))), (4, .int (nI n)), (3, .int (nI (kl s))), (2, .int (nI (pl s))), (0, .ref 191), (1, .int (nI s))]) (st' := [.int (nI (pl s) + 2), .ref 72]) (H' := _) (kc' := 0) (ks' := 0) rfl ?_
    rw [show (nI (pl s) + 2 : Int32) = nI (pl s + 2) from nI_add (pl s) 2]
    refine RP.blk 1 (pc' := 86) (lv' := [(5, .int (nI (ub (cf (pl s))))), (4, .int (nI n)), (3, .int (nI (kl s))), (2, .int (nI (pl s))), (0, .ref 191), (1, .int (nI s))]) (st' := [.int 2, .int (nI (pl s + 2)), .ref 72]) (H' := _) (kc' := 0) (ks' := 0) rfl ?_
    refine RP.call (v := some (.int (numI cf (pl s + 2) 2 0))) (st' := []) rfl rfl rfl rfl rfl rfl (args_v [.int 2, .int (nI (pl s + 2))] [] rfl rfl (Nat.le_of_ble_eq_true rfl) rfl hC.1 (Nat.le_of_ble_eq_true rfl)) (rc_cnum (i := pl s + 2) (k := 2) hC.1 rfl hC.2.1 (by omega) (by omega)) ?_
    rw [e2]
    refine RP.blk 1 (pc' := 91) (lv' := [(5, .int (nI (ub (cf (pl s))))), (4, .int (nI n)), (3, .int (nI (kl s))), (2, .int (nI (pl s))), (0, .ref 191), (1, .int (nI s))]) (st' := [.int (nI n), .int (nI n)]) (H' := _) (kc' := 0) (ks' := 0) rfl ?_
    refine RP.brF rfl rfl rfl (cF_ne n n) ?_
    refine RP.blk 1 (pc' := 95) (lv' := [(5, .int (nI (ub (cf (pl s))))), (4, .int (nI n)), (3, .int (nI (kl s))), (2, .int (nI (pl s))), (0, .ref 191), (1, .int (nI s))]) (st' := [.ref 191]) (H' := _) (kc' := 0) (ks' := 0) rfl ?_
    refine RP.get (ci := 4) rfl hG rfl rfl ?_
    refine RP.blk 3 (pc' := 101) (lv' := [(5, .int (nI (ub (cf (pl s))))), (4, .int (nI n)), (3, .int (nI (kl s))), (2, .int (nI (pl s))), (0, .ref 191), (1, .int (nI s))]) (st' := [.int (nI (pl s) + 4), .ref 72]) (H' := _) (kc' := 0) (ks' := 0) rfl ?_
    rw [show (nI (pl s) + 4 : Int32) = nI (pl s + 4) from nI_add (pl s) 4]
    refine RP.blk 1 (pc' := 102) (lv' := [(5, .int (nI (ub (cf (pl s))))), (4, .int (nI n)), (3, .int (nI (kl s))), (2, .int (nI (pl s))), (0, .ref 191), (1, .int (nI s))]) (st' := [.int 4, .int (nI (pl s + 4)), .ref 72]) (H' := _) (kc' := 0) (ks' := 0) rfl ?_
    refine RP.call (v := some (.int (numI cf (pl s + 4) 4 0))) (st' := []) rfl rfl rfl rfl rfl rfl (args_v [.int 4, .int (nI (pl s + 4))] [] rfl rfl (Nat.le_of_ble_eq_true rfl) rfl hC.1 (Nat.le_of_ble_eq_true rfl)) (rc_cnum (i := pl s + 4) (k := 4) hC.1 rfl hC.2.1 (by omega) (by omega)) ?_
    rw [e4]
    refine RP.blk 1 (pc' := 106) (lv' := [(5, .int (nI (ub (cf (pl s))))), (4, .int (nI n)), (3, .int (nI (kl s))), (2, .int (nI (pl s))), (0, .ref 191), (1, .int (nI s))]) (st' := [.ref 191, .int (nI (mo s))]) (H' := _) (kc' := 0) (ks' := 0) rfl ?_
    refine RP.get (ci := 4) rfl hG rfl rfl ?_
    refine RP.get (ci := 10) rfl h.1 rfl rfl ?_
    refine RP.blk 1 (pc' := 113) (lv' := [(5, .int (nI (ub (cf (pl s))))), (4, .int (nI n)), (3, .int (nI (kl s))), (2, .int (nI (pl s))), (0, .ref 191), (1, .int (nI s))]) (st' := [.int (nI s), .ref 78, .int (nI (mo s))]) (H' := _) (kc' := 0) (ks' := 0) rfl ?_
    refine RP.ialdN (j := s) rfl h.2.2.2.1 (by omega) (by omega) ?_
    refine RP.brF rfl rfl rfl (cF_ne (mo s) (mo s)) ?_
    refine RP.blk 1 (pc' := 118) (lv' := [(5, .int (nI (ub (cf (pl s))))), (4, .int (nI n)), (3, .int (nI (kl s))), (2, .int (nI (pl s))), (0, .ref 191), (1, .int (nI s))]) (st' := [.ref 191]) (H' := _) (kc' := 0) (ks' := 0) rfl ?_
    refine RP.get (ci := 4) rfl hG rfl rfl ?_
    refine RP.get (ci := 1) rfl hC.1 rfl rfl ?_
    refine RP.blk 3 (pc' := 128) (lv' := [(5, .int (nI (ub (cf (pl s))))), (4, .int (nI n)), (3, .int (nI (kl s))), (2, .int (nI (pl s))), (0, .ref 191), (1, .int (nI s))]) (st' := [.int (nI (pl s) + 8), .ref 73]) (H' := _) (kc' := 0) (ks' := 0) rfl ?_
    rw [show (nI (pl s) + 8 : Int32) = nI (pl s + 8) from nI_add (pl s) 8]
    refine RP.blk 2 (pc' := 130) (lv' := [(5, .int (nI (ub (cf (pl s))))), (4, .int (nI n)), (3, .int (nI (kl s))), (2, .int (nI (pl s))), (0, .ref 191), (1, .int (nI s))]) (st' := [.ref 191, .int (nI (kl s)), .int (nI (pl s + 8)), .ref 73]) (H' := _) (kc' := 0) (ks' := 0) rfl ?_
    refine RP.get (ci := 4) rfl hG rfl rfl ?_
    refine RP.get (ci := 10) rfl h.1 rfl rfl ?_
    refine RP.blk 3 (pc' := 140) (lv' := [(5, .int (nI (ub (cf (pl s))))), (4, .int (nI n)), (3, .int (nI (kl s))), (2, .int (nI (pl s))), (0, .ref 191), (1, .int (nI s))]) (st' := [.int (nI s * 41), .ref 76, .int (nI (kl s)), .int (nI (pl s + 8)), .ref 73]) (H' := _) (kc' := 0) (ks' := 0) rfl ?_
    rw [show (nI s * 41 : Int32) = nI (s * 41) from pk_mul s 41]
    refine RP.blk 1 (pc' := 141) (lv' := [(5, .int (nI (ub (cf (pl s))))), (4, .int (nI n)), (3, .int (nI (kl s))), (2, .int (nI (pl s))), (0, .ref 191), (1, .int (nI s))]) (st' := [.int (nI (kl s)), .int (nI (s * 41)), .ref 76, .int (nI (kl s)), .int (nI (pl s + 8)), .ref 73]) (H' := _) (kc' := 0) (ks' := 0) rfl ?_
    refine RP.call (v := some (.int 0)) (st' := []) rfl rfl rfl rfl rfl rfl rfl hcmp ?_
    refine RP.brF rfl rfl rfl (by decide) ?_
    refine RP.blk 1 (pc' := 148) (lv' := [(5, .int (nI (ub (cf (pl s))))), (4, .int (nI n)), (3, .int (nI (kl s))), (2, .int (nI (pl s))), (0, .ref 191), (1, .int (nI s))]) (st' := [.ref 191]) (H' := _) (kc' := 0) (ks' := 0) rfl ?_
    refine RP.get (ci := 4) rfl hG rfl rfl ?_
    refine RP.blk 3 (pc' := 155) (lv' := [(5, .int (nI (ub (cf (pl s))))), (4, .int (nI n)), (3, .int (nI (kl s))), (2, .int (nI (pl s))), (0, .ref 191), (1, .int (nI s))]) (st' := [.int (nI (pl s) + 8), .ref 72]) (H' := _) (kc' := 0) (ks' := 0) rfl ?_
    rw [show (nI (pl s) + 8 : Int32) = nI (pl s + 8) from nI_add (pl s) 8]
    refine RP.blk 2 (pc' := 157) (lv' := [(5, .int (nI (ub (cf (pl s))))), (4, .int (nI n)), (3, .int (nI (kl s))), (2, .int (nI (pl s))), (0, .ref 191), (1, .int (nI s))]) (st' := [.int (nI (pl s + 8) + nI (kl s)), .ref 72]) (H' := _) (kc' := 0) (ks' := 0) rfl ?_
    rw [show (nI (pl s + 8) + nI (kl s) : Int32) = nI (pl s + 8 + (kl s)) from nI_add (pl s + 8) (kl s)]
    refine RP.blk 2 (pc' := 160) (lv' := [(5, .int (nI (ub (cf (pl s))))), (4, .int (nI n)), (3, .int (nI (kl s))), (2, .int (nI (pl s))), (0, .ref 191), (1, .int (nI s))]) (st' := [.int (nI (pl s + 8 + (kl s)) + nI n), .ref 72]) (H' := _) (kc' := 0) (ks' := 0) rfl ?_
    rw [show (nI (pl s + 8 + (kl s)) + nI n : Int32) = nI (pl s + 8 + (kl s) + n) from nI_add (pl s + 8 + (kl s)) n]
    refine RP.call (v := some (.int (nI (ub (cf (pl s + 8 + kl s + n)))))) (st' := []) rfl rfl rfl rfl rfl rfl (args_v [.int (nI (pl s + 8 + (kl s) + n))] [] rfl rfl (Nat.le_of_ble_eq_true rfl) rfl hC.1 (Nat.le_of_ble_eq_true rfl)) (rc_cat (i := pl s + 8 + kl s + n) hC.1 rfl hC.2.1 (by omega) (by omega)) ?_
    refine RP.blk 1 (pc' := 165) (lv' := [(5, .int (nI (ub (cf (pl s))))), (4, .int (nI n)), (3, .int (nI (kl s))), (2, .int (nI (pl s))), (0, .ref 191), (1, .int (nI s))]) (st' := [.int 90, .int (nI (ub (cf (pl s + 8 + kl s + n))))]) (H' := _) (kc' := 0) (ks' := 0) rfl ?_
    refine RP.brF rfl rfl rfl (cF_ne (ub (cf (pl s + 8 + kl s + n))) 90) ?_
    refine RP.blk 2 (pc' := 173) (lv' := [(5, .int (nI (ub (cf (pl s))))), (4, .int (nI n)), (3, .int (nI (kl s))), (2, .int (nI (pl s))), (0, .ref 191), (1, .int (nI s))]) (st' := [.int 1]) (H' := _) (kc' := 0) (ks' := 0) rfl ?_
    exact RP.done (c := 0) (s := 0) rfl rfl rfl rfl
  · refine RP.brF rfl rfl rfl (cF_eq (ub (cf (pl s))) 1) ?_
    refine RP.blk 2 (pc' := 61) (lv' := [(5, .int (nI (ub (cf (pl s))))), (4, .int (nI n)), (3, .int (nI (kl s))), (2, .int (nI (pl s))), (0, .ref 191), (1, .int (nI s))]) (st' := [.int 4, .int (nI (ub (cf (pl s))))]) (H' := _) (kc' := 0) (ks' := 0) rfl ?_
    refine RP.brF rfl rfl rfl (cF_ne (ub (cf (pl s))) 4) ?_
    refine RP.blk 1 (pc' := 65) (lv' := [(5, .int (nI (ub (cf (pl s))))), (4, .int (nI n)), (3, .int (nI (kl s))), (2, .int (nI (pl s))), (0, .ref 191), (1, .int (nI s))]) (st' := [.ref 191]) (H' := _) (kc' := 0) (ks' := 0) rfl ?_
    refine RP.get (ci := 4) rfl hG rfl rfl ?_
    refine RP.blk 3 (pc' := 71) (lv' := [(5, .int (nI (ub (cf (pl s))))), (4, .int (nI n)), (3, .int (nI (kl s))), (2, .int (nI (pl s))), (0, .ref 191), (1, .int (nI s))]) (st' := [.int (nI (pl s) + 1), .ref 72]) (H' := _) (kc' := 0) (ks' := 0) rfl ?_
    rw [show (nI (pl s) + 1 : Int32) = nI (pl s + 1) from nI_add (pl s) 1]
    refine RP.call (v := some (.int (nI (ub (cf (pl s + 1)))))) (st' := []) rfl rfl rfl rfl rfl rfl (args_v [.int (nI (pl s + 1))] [] rfl rfl (Nat.le_of_ble_eq_true rfl) rfl hC.1 (Nat.le_of_ble_eq_true rfl)) (rc_cat (i := pl s + 1) hC.1 rfl hC.2.1 (by omega) (by omega)) ?_
    refine RP.blk 1 (pc' := 75) (lv' := [(5, .int (nI (ub (cf (pl s))))), (4, .int (nI n)), (3, .int (nI (kl s))), (2, .int (nI (pl s))), (0, .ref 191), (1, .int (nI s))]) (st' := [.int (nI (kl s)), .int (nI (ub (cf (pl s + 1))))]) (H' := _) (kc' := 0) (ks' := 0) rfl ?_
    refine RP.brF rfl rfl rfl (cF_ne (ub (cf (pl s + 1))) (kl s)) ?_
    refine RP.blk 1 (pc' := 79) (lv' := [(5, .int (nI (ub (cf (pl s))))), (4, .int (nI n)), (3, .int (nI (kl s))), (2, .int (nI (pl s))), (0, .ref 191), (1, .int (nI s))]) (st' := [.ref 191]) (H' := _) (kc' := 0) (ks' := 0) rfl ?_
    refine RP.get (ci := 4) rfl hG rfl rfl ?_
    refine RP.blk 3 (pc' := 85) (lv' := [(5, .int (nI (ub (cf (pl s))))), (4, .int (nI n)), (3, .int (nI (kl s))), (2, .int (nI (pl s))), (0, .ref 191), (1, .int (nI s))]) (st' := [.int (nI (pl s) + 2), .ref 72]) (H' := _) (kc' := 0) (ks' := 0) rfl ?_
    rw [show (nI (pl s) + 2 : Int32) = nI (pl s + 2) from nI_add (pl s) 2]
    refine RP.blk 1 (pc' := 86) (lv' := [(5, .int (nI (ub (cf (pl s))))), (4, .int (nI n)), (3, .int (nI (kl s))), (2, .int (nI (pl s))), (0, .ref 191), (1, .int (nI s))]) (st' := [.int 2, .int (nI (pl s + 2)), .ref 72]) (H' := _) (kc' := 0) (ks' := 0) rfl ?_
    refine RP.call (v := some (.int (numI cf (pl s + 2) 2 0))) (st' := []) rfl rfl rfl rfl rfl rfl (args_v [.int 2, .int (nI (pl s + 2))] [] rfl rfl (Nat.le_of_ble_eq_true rfl) rfl hC.1 (Nat.le_of_ble_eq_true rfl)) (rc_cnum (i := pl s + 2) (k := 2) hC.1 rfl hC.2.1 (by omega) (by omega)) ?_
    rw [e2]
    refine RP.blk 1 (pc' := 91) (lv' := [(5, .int (nI (ub (cf (pl s))))), (4, .int (nI n)), (3, .int (nI (kl s))), (2, .int (nI (pl s))), (0, .ref 191), (1, .int (nI s))]) (st' := [.int (nI n), .int (nI n)]) (H' := _) (kc' := 0) (ks' := 0) rfl ?_
    refine RP.brF rfl rfl rfl (cF_ne n n) ?_
    refine RP.blk 1 (pc' := 95) (lv' := [(5, .int (nI (ub (cf (pl s))))), (4, .int (nI n)), (3, .int (nI (kl s))), (2, .int (nI (pl s))), (0, .ref 191), (1, .int (nI s))]) (st' := [.ref 191]) (H' := _) (kc' := 0) (ks' := 0) rfl ?_
    refine RP.get (ci := 4) rfl hG rfl rfl ?_
    refine RP.blk 3 (pc' := 101) (lv' := [(5, .int (nI (ub (cf (pl s))))), (4, .int (nI n)), (3, .int (nI (kl s))), (2, .int (nI (pl s))), (0, .ref 191), (1, .int (nI s))]) (st' := [.int (nI (pl s) + 4), .ref 72]) (H' := _) (kc' := 0) (ks' := 0) rfl ?_
    rw [show (nI (pl s) + 4 : Int32) = nI (pl s + 4) from nI_add (pl s) 4]
    refine RP.blk 1 (pc' := 102) (lv' := [(5, .int (nI (ub (cf (pl s))))), (4, .int (nI n)), (3, .int (nI (kl s))), (2, .int (nI (pl s))), (0, .ref 191), (1, .int (nI s))]) (st' := [.int 4, .int (nI (pl s + 4)), .ref 72]) (H' := _) (kc' := 0) (ks' := 0) rfl ?_
    refine RP.call (v := some (.int (numI cf (pl s + 4) 4 0))) (st' := []) rfl rfl rfl rfl rfl rfl (args_v [.int 4, .int (nI (pl s + 4))] [] rfl rfl (Nat.le_of_ble_eq_true rfl) rfl hC.1 (Nat.le_of_ble_eq_true rfl)) (rc_cnum (i := pl s + 4) (k := 4) hC.1 rfl hC.2.1 (by omega) (by omega)) ?_
    rw [e4]
    refine RP.blk 1 (pc' := 106) (lv' := [(5, .int (nI (ub (cf (pl s))))), (4, .int (nI n)), (3, .int (nI (kl s))), (2, .int (nI (pl s))), (0, .ref 191), (1, .int (nI s))]) (st' := [.ref 191, .int (nI (mo s))]) (H' := _) (kc' := 0) (ks' := 0) rfl ?_
    refine RP.get (ci := 4) rfl hG rfl rfl ?_
    refine RP.get (ci := 10) rfl h.1 rfl rfl ?_
    refine RP.blk 1 (pc' := 113) (lv' := [(5, .int (nI (ub (cf (pl s))))), (4, .int (nI n)), (3, .int (nI (kl s))), (2, .int (nI (pl s))), (0, .ref 191), (1, .int (nI s))]) (st' := [.int (nI s), .ref 78, .int (nI (mo s))]) (H' := _) (kc' := 0) (ks' := 0) rfl ?_
    refine RP.ialdN (j := s) rfl h.2.2.2.1 (by omega) (by omega) ?_
    refine RP.brF rfl rfl rfl (cF_ne (mo s) (mo s)) ?_
    refine RP.blk 1 (pc' := 118) (lv' := [(5, .int (nI (ub (cf (pl s))))), (4, .int (nI n)), (3, .int (nI (kl s))), (2, .int (nI (pl s))), (0, .ref 191), (1, .int (nI s))]) (st' := [.ref 191]) (H' := _) (kc' := 0) (ks' := 0) rfl ?_
    refine RP.get (ci := 4) rfl hG rfl rfl ?_
    refine RP.get (ci := 1) rfl hC.1 rfl rfl ?_
    refine RP.blk 3 (pc' := 128) (lv' := [(5, .int (nI (ub (cf (pl s))))), (4, .int (nI n)), (3, .int (nI (kl s))), (2, .int (nI (pl s))), (0, .ref 191), (1, .int (nI s))]) (st' := [.int (nI (pl s) + 8), .ref 73]) (H' := _) (kc' := 0) (ks' := 0) rfl ?_
    rw [show (nI (pl s) + 8 : Int32) = nI (pl s + 8) from nI_add (pl s) 8]
    refine RP.blk 2 (pc' := 130) (lv' := [(5, .int (nI (ub (cf (pl s))))), (4, .int (nI n)), (3, .int (nI (kl s))), (2, .int (nI (pl s))), (0, .ref 191), (1, .int (nI s))]) (st' := [.ref 191, .int (nI (kl s)), .int (nI (pl s + 8)), .ref 73]) (H' := _) (kc' := 0) (ks' := 0) rfl ?_
    refine RP.get (ci := 4) rfl hG rfl rfl ?_
    refine RP.get (ci := 10) rfl h.1 rfl rfl ?_
    refine RP.blk 3 (pc' := 140) (lv' := [(5, .int (nI (ub (cf (pl s))))), (4, .int (nI n)), (3, .int (nI (kl s))), (2, .int (nI (pl s))), (0, .ref 191), (1, .int (nI s))]) (st' := [.int (nI s * 41), .ref 76, .int (nI (kl s)), .int (nI (pl s + 8)), .ref 73]) (H' := _) (kc' := 0) (ks' := 0) rfl ?_
    rw [show (nI s * 41 : Int32) = nI (s * 41) from pk_mul s 41]
    refine RP.blk 1 (pc' := 141) (lv' := [(5, .int (nI (ub (cf (pl s))))), (4, .int (nI n)), (3, .int (nI (kl s))), (2, .int (nI (pl s))), (0, .ref 191), (1, .int (nI s))]) (st' := [.int (nI (kl s)), .int (nI (s * 41)), .ref 76, .int (nI (kl s)), .int (nI (pl s + 8)), .ref 73]) (H' := _) (kc' := 0) (ks' := 0) rfl ?_
    refine RP.call (v := some (.int 0)) (st' := []) rfl rfl rfl rfl rfl rfl rfl hcmp ?_
    refine RP.brF rfl rfl rfl (by decide) ?_
    refine RP.blk 1 (pc' := 148) (lv' := [(5, .int (nI (ub (cf (pl s))))), (4, .int (nI n)), (3, .int (nI (kl s))), (2, .int (nI (pl s))), (0, .ref 191), (1, .int (nI s))]) (st' := [.ref 191]) (H' := _) (kc' := 0) (ks' := 0) rfl ?_
    refine RP.get (ci := 4) rfl hG rfl rfl ?_
    refine RP.blk 3 (pc' := 155) (lv' := [(5, .int (nI (ub (cf (pl s))))), (4, .int (nI n)), (3, .int (nI (kl s))), (2, .int (nI (pl s))), (0, .ref 191), (1, .int (nI s))]) (st' := [.int (nI (pl s) + 8), .ref 72]) (H' := _) (kc' := 0) (ks' := 0) rfl ?_
    rw [show (nI (pl s) + 8 : Int32) = nI (pl s + 8) from nI_add (pl s) 8]
    refine RP.blk 2 (pc' := 157) (lv' := [(5, .int (nI (ub (cf (pl s))))), (4, .int (nI n)), (3, .int (nI (kl s))), (2, .int (nI (pl s))), (0, .ref 191), (1, .int (nI s))]) (st' := [.int (nI (pl s + 8) + nI (kl s)), .ref 72]) (H' := _) (kc' := 0) (ks' := 0) rfl ?_
    rw [show (nI (pl s + 8) + nI (kl s) : Int32) = nI (pl s + 8 + (kl s)) from nI_add (pl s + 8) (kl s)]
    refine RP.blk 2 (pc' := 160) (lv' := [(5, .int (nI (ub (cf (pl s))))), (4, .int (nI n)), (3, .int (nI (kl s))), (2, .int (nI (pl s))), (0, .ref 191), (1, .int (nI s))]) (st' := [.int (nI (pl s + 8 + (kl s)) + nI n), .ref 72]) (H' := _) (kc' := 0) (ks' := 0) rfl ?_
    rw [show (nI (pl s + 8 + (kl s)) + nI n : Int32) = nI (pl s + 8 + (kl s) + n) from nI_add (pl s + 8 + (kl s)) n]
    refine RP.call (v := some (.int (nI (ub (cf (pl s + 8 + kl s + n)))))) (st' := []) rfl rfl rfl rfl rfl rfl (args_v [.int (nI (pl s + 8 + (kl s) + n))] [] rfl rfl (Nat.le_of_ble_eq_true rfl) rfl hC.1 (Nat.le_of_ble_eq_true rfl)) (rc_cat (i := pl s + 8 + kl s + n) hC.1 rfl hC.2.1 (by omega) (by omega)) ?_
    refine RP.blk 1 (pc' := 165) (lv' := [(5, .int (nI (ub (cf (pl s))))), (4, .int (nI n)), (3, .int (nI (kl s))), (2, .int (nI (pl s))), (0, .ref 191), (1, .int (nI s))]) (st' := [.int 90, .int (nI (ub (cf (pl s + 8 + kl s + n))))]) (H' := _) (kc' := 0) (ks' := 0) rfl ?_
    refine RP.brF rfl rfl rfl (cF_ne (ub (cf (pl s + 8 + kl s + n))) 90) ?_
    refine RP.blk 2 (pc' := 173) (lv' := [(5, .int (nI (ub (cf (pl s))))), (4, .int (nI n)), (3, .int (nI (kl s))), (2, .int (nI (pl s))), (0, .ref 191), (1, .int (nI s))]) (st' := [.int 1]) (H' := _) (kc' := 0) (ks' := 0) rfl ?_
    exact RP.done (c := 0) (s := 0) rfl rfl rfl rfl
theorem rc_watch {sc : Nat × (Nat → Int32)} {N : Nat} {kf : Nat → Int8} {kl mo pl : Nat → Nat} {le : Nat → Option Nat} {al : Nat → Bool} {od sp : Nat → Nat} {sz ss ac : Nat} {lc fr ff : Nat} {wr : Bool} {tp rc ms mt sq tu tn nb : Nat} {us : Nat → Bool} {lg : Nat → Nat} {B : Nat} {cf : Nat → Int8} {tf : Nat → Nat} {pq : Option Nat} {bb ov : Nat} {s n : Nat} {mp hv d : Nat} {H : aH} (h : VersAt H N kf kl mo pl le al od sp sz ss ac) (hk : VersOk N kl mo pl le od sp sz ss) (hC : ChipAt H B cf tf pq bb ov) (hY : LayAt H (layF B lc fr ff wr tp rc ms mt sq tu tn nb) B us lg) (hB : B ≤ 128) (hlc : lc ≤ B) (hlg : ∀ j, j < lc → lg j < 2 ^ 30) (hG : H[190]? = some (kO 4 (logF mp hv))) (hs : s < N) (hle : le s = some n) (hR : RecAt cf (pl s) (sl kf (s * 41) (kl s)) (mo s) n) (hin : ∃ j, j < lc ∧ lg j = pl s / 2048) (hb : pl s + 9 + kl s + n ≤ B * 2048) : RC sc (d + 2) mr_61 [.ref 191, .int (nI s)] H (.inl none) H 0 0 := by
  refine RC.of ?_
  refine RQ.blk 2 (pc' := 2) (lv' := [(0, .ref 191), (1, .int (nI s))]) (st' := [.ref 191, .ref 191]) (H' := _) (kc' := 0) (ks' := 0) rfl ?_
  refine RQ.get (ci := 4) rfl hG rfl rfl ?_
  refine RQ.blk 2 (pc' := 7) (lv' := [(0, .ref 191), (1, .int (nI s))]) (st' := [.int (nI s), .ref 191, .int (nI mp), .ref 191]) (H' := _) (kc' := 0) (ks' := 0) rfl ?_
  refine RQ.call (v := some (.int 1)) (st' := [.int (nI mp), .ref 191]) rfl rfl rfl rfl rfl rfl (args_v [.int (nI s)] [.int (nI mp), .ref 191] rfl rfl (Nat.le_of_ble_eq_true rfl) rfl hG (Nat.le_of_ble_eq_true rfl)) (rc_isAt h hk hC hY hB hlc hlg hG hs hle hR hin hb) ?_
  refine RQ.brF rfl rfl rfl (by decide) ?_
  refine RQ.blk 3 (pc' := 19) (lv' := [(0, .ref 191), (1, .int (nI s))]) (st' := [.int (nI mp + 0), .ref 191]) (H' := _) (kc' := 0) (ks' := 0) rfl ?_
  rw [show (nI mp + 0 : Int32) = nI (mp + 0) from nI_add mp 0]
  refine RQ.put (ci := 4) rfl hG rfl rfl (Nat.le_of_ble_eq_true rfl) ?_
  exact RQ.done (c := 0) (s := 0) rfl rfl rfl rfl (congrArg (fun X => ((.inl none : tO), X, 0, 0)) (set_self hG))
theorem rc_answerStored {sc : Nat × (Nat → Int32)} {N : Nat} {kf : Nat → Int8} {kl mo pl : Nat → Nat} {le : Nat → Option Nat} {al : Nat → Bool} {od sp : Nat → Nat} {sz ss ac : Nat} {lc fr ff : Nat} {wr : Bool} {tp rc ms mt sq tu tn nb : Nat} {us : Nat → Bool} {lg : Nat → Nat} {B : Nat} {cf : Nat → Int8} {tf : Nat → Nat} {pq : Option Nat} {bb ov : Nat} {s n : Nat} {mp hv d q : Nat} {H : aH} {bl pr up cw cl cp cb : Int32} {g : Nat → Int8} (h0 : H[0]? = some (kO 11 (fvs bl pr up cw cl cp cb))) (h3 : H[3]? = some (kO 5 [.ref 5, .int (nI q)])) (h4 : H[4]? = some (kB 1000 g)) (h : VersAt H N kf kl mo pl le al od sp sz ss ac) (hk : VersOk N kl mo pl le od sp sz ss) (hC : ChipAt H B cf tf pq bb ov) (hY : LayAt H (layF B lc fr ff wr tp rc ms mt sq tu tn nb) B us lg) (hB : B ≤ 128) (hlc : lc ≤ B) (hlg : ∀ j, j < lc → lg j < 2 ^ 30) (hG : H[190]? = some (kO 4 (logF mp hv))) (hs : s < N) (hle : le s = some n) (hR : RecAt cf (pl s) (sl kf (s * 41) (kl s)) (mo s) n) (hin : ∃ j, j < lc ∧ lg j = pl s / 2048) (hb : pl s + 9 + kl s + n ≤ B * 2048) (hn : n ≤ 1000) : RC sc (d + 3) mr_60 [.ref 1, .int (nI s)] H (.inl (some (.int (nI n)))) ((H.set 4 (kB 1000 (cpy cf (pl s + 8 + kl s) g 0 n))).set 3 (kO 5 [.ref 5, .int (nI n)])) 0 0 := by
  have hN := hk.1
  have hk_s := hk.2.2.2.2.2 s hs
  refine RP.blk 1 (pc' := 1) (lv' := [(0, .ref 1), (1, .int (nI s))]) (st' := [.ref 1]) (H' := _) (kc' := 0) (ks' := 0) rfl ?_
  refine RP.get (ci := 11) rfl h0 rfl rfl ?_
  refine RP.blk 1 (pc' := 5) (lv' := [(0, .ref 1), (1, .int (nI s))]) (st' := [.int (nI s), .ref 191]) (H' := _) (kc' := 0) (ks' := 0) rfl ?_
  refine RP.call (v := none) (st' := []) rfl rfl rfl rfl rfl rfl (args_v [.int (nI s)] [] rfl rfl (Nat.le_of_ble_eq_true rfl) rfl hG (Nat.le_of_ble_eq_true rfl)) (rc_watch h hk hC hY hB hlc hlg hG hs hle hR hin hb) ?_
  refine RP.blk 1 (pc' := 9) (lv' := [(0, .ref 1), (1, .int (nI s))]) (st' := [.ref 1]) (H' := _) (kc' := 0) (ks' := 0) rfl ?_
  refine RP.get (ci := 11) rfl h0 rfl rfl ?_
  refine RP.get (ci := 10) rfl h.1 rfl rfl ?_
  refine RP.blk 1 (pc' := 16) (lv' := [(0, .ref 1), (1, .int (nI s))]) (st' := [.int (nI s), .ref 80]) (H' := _) (kc' := 0) (ks' := 0) rfl ?_
  refine RP.ialdN (j := s) rfl h.2.2.2.2.2.1 (by omega) (by omega) ?_
  rw [hle]
  rw [show lI (some n) = nI n from rfl]
  refine RP.blk 2 (pc' := 23) (lv' := [(0, .ref 1), (1, .int (nI s))]) (st' := [.int (if 1000 < nI n then 1000 else nI n)]) (H' := _) (kc' := 0) (ks' := 0) rfl ?_
  rw [show (if 1000 < nI n then 1000 else nI n : Int32) = nI (min n 1000) from minI (a := n) (b := 1000) (by omega) (by omega)]
  rw [show min n 1000 = n by omega]
  refine RP.blk 2 (pc' := 25) (lv' := [(2, .int (nI n)), (0, .ref 1), (1, .int (nI s))]) (st' := [.ref 1]) (H' := _) (kc' := 0) (ks' := 0) rfl ?_
  refine RP.get (ci := 11) rfl h0 rfl rfl ?_
  refine RP.blk 1 (pc' := 29) (lv' := [(2, .int (nI n)), (0, .ref 1), (1, .int (nI s))]) (st' := [.ref 1, .ref 72]) (H' := _) (kc' := 0) (ks' := 0) rfl ?_
  refine RP.get (ci := 11) rfl h0 rfl rfl ?_
  refine RP.blk 1 (pc' := 33) (lv' := [(2, .int (nI n)), (0, .ref 1), (1, .int (nI s))]) (st' := [.int (nI s), .ref 75, .ref 72]) (H' := _) (kc' := 0) (ks' := 0) rfl ?_
  refine RP.call (v := some (.int (nI (pl s + 8 + kl s)))) (st' := [.ref 72]) rfl rfl rfl rfl rfl rfl (args_v [.int (nI s)] [.ref 72] rfl rfl (Nat.le_of_ble_eq_true rfl) rfl h.1 (Nat.le_of_ble_eq_true rfl)) (rc_valueAddress h hk hs) ?_
  refine RP.blk 1 (pc' := 37) (lv' := [(2, .int (nI n)), (0, .ref 1), (1, .int (nI s))]) (st' := [.ref 1, .int (nI (pl s + 8 + kl s)), .ref 72]) (H' := _) (kc' := 0) (ks' := 0) rfl ?_
  refine RP.get (ci := 11) rfl h0 rfl rfl ?_
  refine RP.get (ci := 5) rfl h3 rfl rfl ?_
  refine RP.blk 2 (pc' := 45) (lv' := [(2, .int (nI n)), (0, .ref 1), (1, .int (nI s))]) (st' := [.int (nI n), .int 0, .ref 5, .int (nI (pl s + 8 + kl s)), .ref 72]) (H' := _) (kc' := 0) (ks' := 0) rfl ?_
  refine RP.call (v := none) (st' := []) rfl rfl rfl rfl rfl rfl (args_v [.int (nI n), .int 0, .ref 5, .int (nI (pl s + 8 + kl s))] [] rfl rfl (Nat.le_of_ble_eq_true rfl) rfl hC.1 (Nat.le_of_ble_eq_true rfl)) (rc_copyOut (i := pl s + 8 + kl s) (j := 0) (k := n) hC.1 rfl hC.2.1 (by omega) h4 (by decide) (by omega) (by omega)) ?_
  refine RP.blk 1 (pc' := 49) (lv' := [(2, .int (nI n)), (0, .ref 1), (1, .int (nI s))]) (st' := [.ref 1]) (H' := _) (kc' := 0) (ks' := 0) rfl ?_
  refine RP.get (ci := 11) rfl ((set_far (by decide)).trans h0) rfl rfl ?_
  refine RP.blk 1 (pc' := 53) (lv' := [(2, .int (nI n)), (0, .ref 1), (1, .int (nI s))]) (st' := [.int (nI n), .ref 4]) (H' := _) (kc' := 0) (ks' := 0) rfl ?_
  refine RP.put (ci := 5) rfl ((set_far (by decide)).trans h3) rfl rfl (Nat.le_of_ble_eq_true rfl) ?_
  refine RP.blk 1 (pc' := 57) (lv' := [(2, .int (nI n)), (0, .ref 1), (1, .int (nI s))]) (st' := [.int (nI n)]) (H' := _) (kc' := 0) (ks' := 0) rfl ?_
  exact RP.done (c := 0) (s := 0) rfl rfl rfl rfl
theorem rc_answerW0 {sc : Nat × (Nat → Int32)} {d i : Nat} {H : aH} {bl pr up cw cl cp cb : Int32} {b n u : Nat} {D : Nat → Int8} {S K : Nat → Nat} {E : Nat → Option Nat} (h0 : H[0]? = some (kO 11 (fvs bl pr up cw cl cp cb))) (hb : BatchAt H b D S K E n u) (hk : BatchOk S K E n u) (hi : i < n) (hE : E i = none) : RC sc d mr_54 [.ref 1, .ref (b + 1), .int (nI i)] H (.inl (some (.int (-1)))) H 0 0 := by
  have hn40 := hk.1
  refine RP.blk 1 (pc' := 1) (lv' := [(0, .ref 1), (1, .ref (b + 1)), (2, .int (nI i))]) (st' := [.ref (b + 1)]) (H' := _) (kc' := 0) (ks' := 0) rfl ?_
  refine RP.get (ci := 0) rfl hb.1 rfl rfl ?_
  refine RP.blk 1 (pc' := 5) (lv' := [(0, .ref 1), (1, .ref (b + 1)), (2, .int (nI i))]) (st' := [.int (nI i), .ref ((b + 4) + 1)]) (H' := _) (kc' := 0) (ks' := 0) rfl ?_
  refine RP.ialdN (j := i) rfl hb.2.2.2.2 (by omega) (by decide) ?_
  refine RP.brF rfl rfl rfl (by rw [hE]; decide) ?_
  refine RP.blk 1 (pc' := 10) (lv' := [(0, .ref 1), (1, .ref (b + 1)), (2, .int (nI i))]) (st' := [.int (-1)]) (H' := _) (kc' := 0) (ks' := 0) rfl ?_
  exact RP.done (c := 0) (s := 0) rfl rfl rfl rfl
theorem rc_answerW1 {sc : Nat × (Nat → Int32)} {d i q m : Nat} {H : aH} {bl pr up cw cl cp cb : Int32} {b n u : Nat} {D : Nat → Int8} {S K : Nat → Nat} {E : Nat → Option Nat} {g : Nat → Int8} (h0 : H[0]? = some (kO 11 (fvs bl pr up cw cl cp cb))) (h3 : H[3]? = some (kO 5 [.ref 5, .int (nI q)])) (h4 : H[4]? = some (kB 1000 g)) (hb : BatchAt H b D S K E n u) (hk : BatchOk S K E n u) (hi : i < n) (hE : E i = some m) (hm : m ≤ 1000) (hb10 : 10 < b) : RC sc (d + 2) mr_54 [.ref 1, .ref (b + 1), .int (nI i)] H (.inl (some (.int (nI m)))) ((H.set 4 (kB 1000 (cpy D (S i + K i) g 0 m))).set 3 (kO 5 [.ref 5, .int (nI m)])) 0 0 := by
  have hn40 := hk.1
  have hu41 := hk.2.1
  have hSK := hk.2.2 i hi
  rw [hE] at hSK
  have hSK : S i + K i + m ≤ u := hSK
  refine RP.blk 1 (pc' := 1) (lv' := [(0, .ref 1), (1, .ref (b + 1)), (2, .int (nI i))]) (st' := [.ref (b + 1)]) (H' := _) (kc' := 0) (ks' := 0) rfl ?_
  refine RP.get (ci := 0) rfl hb.1 rfl rfl ?_
  refine RP.blk 1 (pc' := 5) (lv' := [(0, .ref 1), (1, .ref (b + 1)), (2, .int (nI i))]) (st' := [.int (nI i), .ref ((b + 4) + 1)]) (H' := _) (kc' := 0) (ks' := 0) rfl ?_
  refine RP.ialdN (j := i) rfl hb.2.2.2.2 (by omega) (by decide) ?_
  refine RP.brT rfl rfl rfl (by rw [hE]; exact cT_ge m 0) ?_
  refine RP.blk 2 (pc' := 13) (lv' := [(0, .ref 1), (1, .ref (b + 1)), (2, .int (nI i))]) (st' := [.ref (b + 1), .ref 1]) (H' := _) (kc' := 0) (ks' := 0) rfl ?_
  refine RP.get (ci := 0) rfl hb.1 rfl rfl ?_
  refine RP.blk 1 (pc' := 17) (lv' := [(0, .ref 1), (1, .ref (b + 1)), (2, .int (nI i))]) (st' := [.ref (b + 1), .ref ((b + 1) + 1), .ref 1]) (H' := _) (kc' := 0) (ks' := 0) rfl ?_
  refine RP.get (ci := 0) rfl hb.1 rfl rfl ?_
  refine RP.blk 1 (pc' := 21) (lv' := [(0, .ref 1), (1, .ref (b + 1)), (2, .int (nI i))]) (st' := [.int (nI i), .ref ((b + 2) + 1), .ref ((b + 1) + 1), .ref 1]) (H' := _) (kc' := 0) (ks' := 0) rfl ?_
  refine RP.ialdN (j := i) rfl hb.2.2.1 (by omega) (by decide) ?_
  refine RP.blk 1 (pc' := 23) (lv' := [(0, .ref 1), (1, .ref (b + 1)), (2, .int (nI i))]) (st' := [.ref (b + 1), .int (nI (S i)), .ref ((b + 1) + 1), .ref 1]) (H' := _) (kc' := 0) (ks' := 0) rfl ?_
  refine RP.get (ci := 0) rfl hb.1 rfl rfl ?_
  refine RP.blk 1 (pc' := 27) (lv' := [(0, .ref 1), (1, .ref (b + 1)), (2, .int (nI i))]) (st' := [.int (nI i), .ref ((b + 3) + 1), .int (nI (S i)), .ref ((b + 1) + 1), .ref 1]) (H' := _) (kc' := 0) (ks' := 0) rfl ?_
  refine RP.ialdN (j := i) rfl hb.2.2.2.1 (by omega) (by decide) ?_
  refine RP.blk 1 (pc' := 29) (lv' := [(0, .ref 1), (1, .ref (b + 1)), (2, .int (nI i))]) (st' := [.int (nI (S i) + nI (K i)), .ref ((b + 1) + 1), .ref 1]) (H' := _) (kc' := 0) (ks' := 0) rfl ?_
  rw [show (nI (S i) + nI (K i) : Int32) = nI (S i + (K i)) from nI_add (S i) (K i)]
  refine RP.blk 1 (pc' := 30) (lv' := [(0, .ref 1), (1, .ref (b + 1)), (2, .int (nI i))]) (st' := [.ref (b + 1), .int (nI (S i + (K i))), .ref ((b + 1) + 1), .ref 1]) (H' := _) (kc' := 0) (ks' := 0) rfl ?_
  refine RP.get (ci := 0) rfl hb.1 rfl rfl ?_
  refine RP.blk 1 (pc' := 34) (lv' := [(0, .ref 1), (1, .ref (b + 1)), (2, .int (nI i))]) (st' := [.int (nI i), .ref ((b + 4) + 1), .int (nI (S i + (K i))), .ref ((b + 1) + 1), .ref 1]) (H' := _) (kc' := 0) (ks' := 0) rfl ?_
  refine RP.ialdN (j := i) rfl hb.2.2.2.2 (by omega) (by decide) ?_
  rw [hE]
  rw [show lI (some m) = nI m from rfl]
  refine RP.call (v := some (.int (nI m))) (st' := []) rfl rfl rfl rfl rfl rfl (args_v [.int (nI m), .int (nI (S i + (K i))), .ref ((b + 1) + 1)] [] rfl rfl (Nat.le_of_ble_eq_true rfl) rfl h0 (Nat.le_of_ble_eq_true rfl)) (rc_answer (a := b + 1) (i := S i + K i) (n := m) h0 h3 h4 hb.2.1 (by omega) (by omega) (by decide) (by omega) (by omega)) ?_
  exact RP.done (c := 0) (s := 0) rfl rfl rfl rfl
