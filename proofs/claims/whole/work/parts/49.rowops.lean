/-! ===== rows of bytes: copy, compare, number, blank; the chip's bytes; written by wip/gen/rowops.py ===== -/
section CP
variable {sc : Nat × (Nat → Int32)} {d : Nat} {M : aM} {pc nx : Nat} {lv : aL} {st : List Value} {H : aH} {kc ks : Nat} {r : tO × aH × Nat × Nat}
theorem RP.cpyB {a0 a n0 n1 sp dp n : Nat} {f g : Nat → Int8} (hI : lkI pc (mT M) = some (nx, .ddiv)) (h0 : H[a0]? = some (kB n0 f)) (h1 : H[a]? = some (kB n1 g)) (hs : sp + n ≤ n0) (hd : dp + n ≤ n1) (hn0 : n0 < 2 ^ 31) (hn1 : n1 < 2 ^ 31) (hst : cats st ≤ 8) (k : RP sc d M nx lv st (H.set a (kB n1 (cpy f sp g dp n))) kc ks r) : RP sc d M pc lv (.int (nI n) :: .int (nI dp) :: .ref (a + 1) :: .int (nI sp) :: .ref (a0 + 1) :: st) H kc ks r := by
  refine RP.go hI (pc' := nx) (lv' := lv) (st' := st) (H' := H.set a (kB n1 (cpy f sp g dp n))) (c := 0) (s := 0) ?_ k
  show goCpy nx lv H (.int (nI n) :: .int (nI dp) :: .ref (a + 1) :: .int (nI sp) :: .ref (a0 + 1) :: st) = _
  unfold goCpy
  dsimp only
  rw [decide_eq_false (nI_pos (n := sp) (by omega)), decide_eq_false (nI_pos (n := dp) (by omega)), decide_eq_false (nI_pos (n := n) (by omega)), show Nat.ble (cats st) 8 = true from Nat.ble_eq_true_of_le hst, h0, h1, nI_clamp (n := sp) (by omega), nI_clamp (n := dp) (by omega), nI_clamp (n := n) (by omega)]
  dsimp only
  rw [show Nat.ble (sp + n) n0 = true from Nat.ble_eq_true_of_le hs, show Nat.ble (dp + n) n1 = true from Nat.ble_eq_true_of_le hd]
  rfl
/-- ints copied -/
def cpyI (f : Nat → Int32) (i : Nat) (g : Nat → Int32) (j k : Nat) : Nat → Int32 := fun q => if j ≤ q ∧ q < j + k then f (i + (q - j)) else g q
theorem RP.cpyI {a0 a n0 n1 sp dp n : Nat} {f g : Nat → Int32} (hI : lkI pc (mT M) = some (nx, .ddiv)) (h0 : H[a0]? = some (kI n0 f)) (h1 : H[a]? = some (kI n1 g)) (hs : sp + n ≤ n0) (hd : dp + n ≤ n1) (hn0 : n0 < 2 ^ 31) (hn1 : n1 < 2 ^ 31) (hst : cats st ≤ 8) (k : RP sc d M nx lv st (H.set a (kI n1 (Jvm.Pilot.CFlashVaultLaw_law_r2828_d98ee8.cpyI f sp g dp n))) kc ks r) : RP sc d M pc lv (.int (nI n) :: .int (nI dp) :: .ref (a + 1) :: .int (nI sp) :: .ref (a0 + 1) :: st) H kc ks r := by
  refine RP.go hI (pc' := nx) (lv' := lv) (st' := st) (H' := H.set a (kI n1 (Jvm.Pilot.CFlashVaultLaw_law_r2828_d98ee8.cpyI f sp g dp n))) (c := 0) (s := 0) ?_ k
  show goCpy nx lv H (.int (nI n) :: .int (nI dp) :: .ref (a + 1) :: .int (nI sp) :: .ref (a0 + 1) :: st) = _
  unfold goCpy
  dsimp only
  rw [decide_eq_false (nI_pos (n := sp) (by omega)), decide_eq_false (nI_pos (n := dp) (by omega)), decide_eq_false (nI_pos (n := n) (by omega)), show Nat.ble (cats st) 8 = true from Nat.ble_eq_true_of_le hst, h0, h1, nI_clamp (n := sp) (by omega), nI_clamp (n := dp) (by omega), nI_clamp (n := n) (by omega)]
  dsimp only
  rw [show Nat.ble (sp + n) n0 = true from Nat.ble_eq_true_of_le hs, show Nat.ble (dp + n) n1 = true from Nat.ble_eq_true_of_le hd]
  rfl
end CP
theorem rc_copy {sc : Nat × (Nat → Int32)} {d a b na nb i j k : Nat} {H : aH} {f g : Nat → Int8} (h0 : H[a]? = some (kB na f)) (h1 : H[b]? = some (kB nb g)) (hna : na < 2 ^ 31) (hnb : nb < 2 ^ 31) (hi : i + k ≤ na) (hj : j + k ≤ nb) : RC sc d mr_41 [.ref (a + 1), .int (nI i), .ref (b + 1), .int (nI j), .int (nI k)] H (.inl none) (H.set b (kB nb (cpy f i g j k))) 0 0 := by
  refine RP.blk 1 (pc' := 2) (lv' := [(0, .ref (a + 1)), (1, .int (nI i)), (2, .ref (b + 1)), (3, .int (nI j)), (4, .int (nI k))]) (st' := [.int (nI k)]) (H' := _) (kc' := 0) (ks' := 0) rfl ?_
  by_cases hk : k = 0
  · subst hk
    refine RP.brT rfl rfl rfl (cT_le 0 0) ?_
    rw [cpy_0, set_self h1]
    exact RP.done (c := 0) (s := 0) rfl rfl rfl rfl
  ·
    refine RP.brF rfl rfl rfl (cF_le k 0) ?_
    refine RP.blk 1 (pc' := 6) (lv' := [(0, .ref (a + 1)), (1, .int (nI i)), (2, .ref (b + 1)), (3, .int (nI j)), (4, .int (nI k))]) (st' := [.int (nI i)]) (H' := _) (kc' := 0) (ks' := 0) rfl ?_
    refine RP.brF rfl rfl rfl (cF_lt i 0) ?_
    refine RP.blk 1 (pc' := 10) (lv' := [(0, .ref (a + 1)), (1, .int (nI i)), (2, .ref (b + 1)), (3, .int (nI j)), (4, .int (nI k))]) (st' := [.int (nI j)]) (H' := _) (kc' := 0) (ks' := 0) rfl ?_
    refine RP.brF rfl rfl rfl (cF_lt j 0) ?_
    refine RP.blk 2 (pc' := 15) (lv' := [(0, .ref (a + 1)), (1, .int (nI i)), (2, .ref (b + 1)), (3, .int (nI j)), (4, .int (nI k))]) (st' := [.ref (a + 1), .int (nI i)]) (H' := _) (kc' := 0) (ks' := 0) rfl ?_
    refine RP.len rfl h0 rfl ?_
    refine RP.blk 2 (pc' := 19) (lv' := [(0, .ref (a + 1)), (1, .int (nI i)), (2, .ref (b + 1)), (3, .int (nI j)), (4, .int (nI k))]) (st' := [.int (nI na - nI k), .int (nI i)]) (H' := _) (kc' := 0) (ks' := 0) rfl ?_
    rw [show (nI na - nI k : Int32) = nI (na - k) from pk_sub (a := na) (b := k) (by omega)]
    refine RP.brF rfl rfl rfl (cF_gt i (na - k)) ?_
    refine RP.blk 2 (pc' := 24) (lv' := [(0, .ref (a + 1)), (1, .int (nI i)), (2, .ref (b + 1)), (3, .int (nI j)), (4, .int (nI k))]) (st' := [.ref (b + 1), .int (nI j)]) (H' := _) (kc' := 0) (ks' := 0) rfl ?_
    refine RP.len rfl h1 rfl ?_
    refine RP.blk 2 (pc' := 28) (lv' := [(0, .ref (a + 1)), (1, .int (nI i)), (2, .ref (b + 1)), (3, .int (nI j)), (4, .int (nI k))]) (st' := [.int (nI nb - nI k), .int (nI j)]) (H' := _) (kc' := 0) (ks' := 0) rfl ?_
    rw [show (nI nb - nI k : Int32) = nI (nb - k) from pk_sub (a := nb) (b := k) (by omega)]
    refine RP.brF rfl rfl rfl (cF_gt j (nb - k)) ?_
    refine RP.blk 5 (pc' := 37) (lv' := [(0, .ref (a + 1)), (1, .int (nI i)), (2, .ref (b + 1)), (3, .int (nI j)), (4, .int (nI k))]) (st' := [.int (nI k), .int (nI j), .ref (b + 1), .int (nI i), .ref (a + 1)]) (H' := _) (kc' := 0) (ks' := 0) rfl ?_
    refine RP.cpyB rfl h0 h1 hi hj hna hnb (by decide) ?_
    exact RP.done (c := 0) (s := 0) rfl rfl rfl rfl
theorem rc_copyN {sc : Nat × (Nat → Int32)} {d a b : Nat} {H : aH} {i j k : Int32} (hk : k ≤ 0) : RC sc d mr_41 [.ref (a + 1), .int i, .ref (b + 1), .int j, .int k] H (.inl none) H 0 0 := by
  refine RP.blk 1 (pc' := 2) (lv' := [(0, .ref (a + 1)), (1, .int i), (2, .ref (b + 1)), (3, .int j), (4, .int k)]) (st' := [.int k]) (H' := _) (kc' := 0) (ks' := 0) rfl ?_
  refine RP.brT rfl rfl rfl (decide_eq_true hk) ?_
  exact RP.done (c := 0) (s := 0) rfl rfl rfl rfl
theorem ub_sub {x y : Int8} : (nI (ub x) - nI (ub y)).toInt = (ub x : Int) - ub y := pk_sub_toInt (by have := ub_lt x; omega) (by have := ub_lt y; omega)
theorem toInt_0 {x : Int32} (h : x = 0) : x.toInt = 0 := by subst h; rfl
theorem cmp_step {f g : Nat → Int8} {i j n m k : Nat} (hn : k < n) (hm : k < m) : cmpL (sl f (i + k) (n - k)) (sl g (j + k) (m - k)) = if ub (f (i + k)) = ub (g (j + k)) then cmpL (sl f (i + (k + 1)) (n - (k + 1))) (sl g (j + (k + 1)) (m - (k + 1))) else (ub (f (i + k)) : Int) - ub (g (j + k)) := by
  rw [show n - k = (n - (k + 1)) + 1 by omega, show m - k = (m - (k + 1)) + 1 by omega, sl, sl, cmpL, show i + k + 1 = i + (k + 1) by omega, show j + k + 1 = j + (k + 1) by omega]
theorem cmp_end {f g : Nat → Int8} {i j n m k : Nat} (hk : k = min n m) : cmpL (sl f (i + k) (n - k)) (sl g (j + k) (m - k)) = (n : Int) - m := by
  by_cases h : n ≤ m
  · rw [show n - k = 0 by omega, sl, cmpL_nil, sl_length]; omega
  · rw [show m - k = 0 by omega, sl, cmpL_nil2, sl_length]; omega
theorem ri_cmp {sc : Nat × (Nat → Int32)} {d a b na nb i j n m : Nat} {H : aH} {f g : Nat → Int8} (h0 : H[a]? = some (kB na f)) (h1 : H[b]? = some (kB nb g)) (hna : na < 2 ^ 30) (hnb : nb < 2 ^ 30) (hi : i + n ≤ na) (hj : j + m ≤ nb) : RI sc d mr_45 [.ref (a + 1), .int (nI i), .int (nI n), .ref (b + 1), .int (nI j), .int (nI m)] H (fun x H' => H' = H ∧ x.toInt = cmpL (sl f i n) (sl g j m)) := by
  refine RI.of ?_
  refine RQ.blk 3 (pc' := 6) (lv' := [(0, .ref (a + 1)), (1, .int (nI i)), (2, .int (nI n)), (3, .ref (b + 1)), (4, .int (nI j)), (5, .int (nI m))]) (st' := [.int (if nI m < nI n then nI m else nI n)]) (H' := _) (kc' := 0) (ks' := 0) rfl ?_
  rw [show (if nI m < nI n then nI m else nI n : Int32) = nI (min n m) from minI (a := n) (b := m) (by omega) (by omega)]
  refine RQ.blk 2 (pc' := 9) (lv' := [(6, .int (nI (min n m))), (0, .ref (a + 1)), (1, .int (nI i)), (2, .int (nI n)), (3, .ref (b + 1)), (4, .int (nI j)), (5, .int (nI m))]) (st' := [.int (nI i)]) (H' := _) (kc' := 0) (ks' := 0) rfl ?_
  refine RQ.brF rfl rfl rfl (cF_lt i 0) ?_
  refine RQ.blk 1 (pc' := 14) (lv' := [(6, .int (nI (min n m))), (0, .ref (a + 1)), (1, .int (nI i)), (2, .int (nI n)), (3, .ref (b + 1)), (4, .int (nI j)), (5, .int (nI m))]) (st' := [.int (nI j)]) (H' := _) (kc' := 0) (ks' := 0) rfl ?_
  refine RQ.brF rfl rfl rfl (cF_lt j 0) ?_
  refine RQ.blk 2 (pc' := 20) (lv' := [(6, .int (nI (min n m))), (0, .ref (a + 1)), (1, .int (nI i)), (2, .int (nI n)), (3, .ref (b + 1)), (4, .int (nI j)), (5, .int (nI m))]) (st' := [.ref (a + 1), .int (nI (min n m))]) (H' := _) (kc' := 0) (ks' := 0) rfl ?_
  refine RQ.len rfl h0 rfl ?_
  refine RQ.blk 2 (pc' := 23) (lv' := [(6, .int (nI (min n m))), (0, .ref (a + 1)), (1, .int (nI i)), (2, .int (nI n)), (3, .ref (b + 1)), (4, .int (nI j)), (5, .int (nI m))]) (st' := [.int (nI na - nI i), .int (nI (min n m))]) (H' := _) (kc' := 0) (ks' := 0) rfl ?_
  rw [show (nI na - nI i : Int32) = nI (na - i) from pk_sub (a := na) (b := i) (by omega)]
  refine RQ.brF rfl rfl rfl (cF_gt (min n m) (na - i)) ?_
  refine RQ.blk 2 (pc' := 29) (lv' := [(6, .int (nI (min n m))), (0, .ref (a + 1)), (1, .int (nI i)), (2, .int (nI n)), (3, .ref (b + 1)), (4, .int (nI j)), (5, .int (nI m))]) (st' := [.ref (b + 1), .int (nI (min n m))]) (H' := _) (kc' := 0) (ks' := 0) rfl ?_
  refine RQ.len rfl h1 rfl ?_
  refine RQ.blk 2 (pc' := 33) (lv' := [(6, .int (nI (min n m))), (0, .ref (a + 1)), (1, .int (nI i)), (2, .int (nI n)), (3, .ref (b + 1)), (4, .int (nI j)), (5, .int (nI m))]) (st' := [.int (nI nb - nI j), .int (nI (min n m))]) (H' := _) (kc' := 0) (ks' := 0) rfl ?_
  rw [show (nI nb - nI j : Int32) = nI (nb - j) from pk_sub (a := nb) (b := j) (by omega)]
  refine RQ.brF rfl rfl rfl (cF_gt (min n m) (nb - j)) ?_
  refine RQ.blk 2 (pc' := 39) (lv' := [(7, .int 0), (6, .int (nI (min n m))), (0, .ref (a + 1)), (1, .int (nI i)), (2, .int (nI n)), (3, .ref (b + 1)), (4, .int (nI j)), (5, .int (nI m))]) (st' := []) (H' := _) (kc' := 0) (ks' := 0) rfl ?_
  refine RQ.loopQ (pc := 39) (fun k => cmpL (sl f (i + k) (n - k)) (sl g (j + k) (m - k)) = cmpL (sl f i n) (sl g j m)) (fun k => [(7, .int (nI k)), (6, .int (nI (min n m))), (0, .ref (a + 1)), (1, .int (nI i)), (2, .int (nI n)), (3, .ref (b + 1)), (4, .int (nI j)), (5, .int (nI m))]) (min n m) (fun k hk h2 ih => ?_) (fun h2 => ?_) (by show cmpL (sl f (i + 0) (n - 0)) (sl g (j + 0) (m - 0)) = _; rfl)
  · have e2 := cmp_step (f := f) (g := g) (i := i) (j := j) (n := n) (m := m) (k := k) (by omega) (by omega)
    rw [h2] at e2
    refine RQ.blk 2 (pc' := 43) (lv' := [(7, .int (nI k)), (6, .int (nI (min n m))), (0, .ref (a + 1)), (1, .int (nI i)), (2, .int (nI n)), (3, .ref (b + 1)), (4, .int (nI j)), (5, .int (nI m))]) (st' := [.int (nI (min n m)), .int (nI k)]) (H' := _) (kc' := 0) (ks' := 0) rfl ?_
    refine RQ.brF rfl rfl rfl (cF_ge k (min n m)) ?_
    refine RQ.blk 4 (pc' := 51) (lv' := [(7, .int (nI k)), (6, .int (nI (min n m))), (0, .ref (a + 1)), (1, .int (nI i)), (2, .int (nI n)), (3, .ref (b + 1)), (4, .int (nI j)), (5, .int (nI m))]) (st' := [.int (nI i + nI k), .ref (a + 1)]) (H' := _) (kc' := 0) (ks' := 0) rfl ?_
    rw [show (nI i + nI k : Int32) = nI (i + k) from nI_add i k]
    refine RQ.baldN (j := i + k) rfl h0 (by omega) (by omega) ?_
    refine RQ.blk 6 (pc' := 62) (lv' := [(7, .int (nI k)), (6, .int (nI (min n m))), (0, .ref (a + 1)), (1, .int (nI i)), (2, .int (nI n)), (3, .ref (b + 1)), (4, .int (nI j)), (5, .int (nI m))]) (st' := [.int (nI j + nI k), .ref (b + 1), .int (((f (i + k)).toInt32) &&& 255)]) (H' := _) (kc' := 0) (ks' := 0) rfl ?_
    rw [show (nI j + nI k : Int32) = nI (j + k) from nI_add j k]
    refine RQ.baldN (j := j + k) rfl h1 (by omega) (by omega) ?_
    refine RQ.blk 5 (pc' := 72) (lv' := [(8, .int ((((f (i + k)).toInt32) &&& 255) - (((g (j + k)).toInt32) &&& 255))), (7, .int (nI k)), (6, .int (nI (min n m))), (0, .ref (a + 1)), (1, .int (nI i)), (2, .int (nI n)), (3, .ref (b + 1)), (4, .int (nI j)), (5, .int (nI m))]) (st' := [.int ((((f (i + k)).toInt32) &&& 255) - (((g (j + k)).toInt32) &&& 255))]) (H' := _) (kc' := 0) (ks' := 0) rfl ?_
    rw [ub_and, ub_and]
    by_cases hb : ub (f (i + k)) = ub (g (j + k))
    · rw [if_pos hb] at e2
      refine RQ.brT rfl rfl rfl (decide_eq_true (by rw [hb]; exact Int32.sub_self _)) ?_
      refine RQ.blk 1 (pc' := 81) (lv' := [(7, .int (nI k + 1)), (8, .int (nI (ub (f (i + k))) - nI (ub (g (j + k))))), (6, .int (nI (min n m))), (0, .ref (a + 1)), (1, .int (nI i)), (2, .int (nI n)), (3, .ref (b + 1)), (4, .int (nI j)), (5, .int (nI m))]) (st' := []) (H' := _) (kc' := 0) (ks' := 0) rfl ?_
      rw [show (nI k + 1 : Int32) = nI (k + 1) from nI_add k 1]
      refine RQ.blk 1 (pc' := 39) (lv' := [(7, .int (nI (k + 1))), (8, .int (nI (ub (f (i + k))) - nI (ub (g (j + k))))), (6, .int (nI (min n m))), (0, .ref (a + 1)), (1, .int (nI i)), (2, .int (nI n)), (3, .ref (b + 1)), (4, .int (nI j)), (5, .int (nI m))]) (st' := []) (H' := _) (kc' := 0) (ks' := 0) rfl ?_
      exact RQ.drop 8 [7, 8, 6, 0, 1, 2, 3, 4, 5] rfl rfl (by decide) (ih e2.symm)
    ·
      refine RQ.brF rfl rfl rfl (decide_eq_false (fun e => hb (by have := toInt_0 e; rw [ub_sub] at this; omega))) ?_
      refine RQ.blk 1 (pc' := 77) (lv' := [(8, .int (nI (ub (f (i + k))) - nI (ub (g (j + k))))), (7, .int (nI k)), (6, .int (nI (min n m))), (0, .ref (a + 1)), (1, .int (nI i)), (2, .int (nI n)), (3, .ref (b + 1)), (4, .int (nI j)), (5, .int (nI m))]) (st' := [.int (nI (ub (f (i + k))) - nI (ub (g (j + k))))]) (H' := _) (kc' := 0) (ks' := 0) rfl ?_
      exact RQ.done (c := 0) (s := 0) rfl rfl rfl rfl ⟨_, _, rfl, rfl, by rw [if_neg hb] at e2; rw [ub_sub]; exact e2.symm⟩
  ·
    refine RQ.blk 2 (pc' := 43) (lv' := [(7, .int (nI (min n m))), (6, .int (nI (min n m))), (0, .ref (a + 1)), (1, .int (nI i)), (2, .int (nI n)), (3, .ref (b + 1)), (4, .int (nI j)), (5, .int (nI m))]) (st' := [.int (nI (min n m)), .int (nI (min n m))]) (H' := _) (kc' := 0) (ks' := 0) rfl ?_
    refine RQ.brT rfl rfl rfl (cT_ge (min n m) (min n m)) ?_
    refine RQ.blk 3 (pc' := 88) (lv' := [(7, .int (nI (min n m))), (6, .int (nI (min n m))), (0, .ref (a + 1)), (1, .int (nI i)), (2, .int (nI n)), (3, .ref (b + 1)), (4, .int (nI j)), (5, .int (nI m))]) (st' := [.int (nI n - nI m)]) (H' := _) (kc' := 0) (ks' := 0) rfl ?_
    exact RQ.done (c := 0) (s := 0) rfl rfl rfl rfl ⟨_, _, rfl, rfl, by rw [pk_sub_toInt (by omega) (by omega), ← h2, cmp_end rfl]⟩
theorem ri_mcmp {sc : Nat × (Nat → Int32)} {d a b c na nb i j n m : Nat} {H : aH} {f g : Nat → Int8} (h0 : H[a]? = some (kB na f)) (h1 : H[b]? = some (kB nb g)) (hna : na < 2 ^ 30) (hnb : nb < 2 ^ 30) (hi : i + n ≤ na) (hj : j + m ≤ nb) : RI sc d mr_273 [.ref (c + 1), .ref (a + 1), .int (nI i), .int (nI n), .ref (b + 1), .int (nI j), .int (nI m)] H (fun x H' => H' = H ∧ x.toInt = cmpL (sl f i n) (sl g j m)) := by
  refine RI.of ?_
  refine RQ.blk 2 (pc' := 3) (lv' := [(7, .int 0), (0, .ref (c + 1)), (1, .ref (a + 1)), (2, .int (nI i)), (3, .int (nI n)), (4, .ref (b + 1)), (5, .int (nI j)), (6, .int (nI m))]) (st' := []) (H' := _) (kc' := 0) (ks' := 0) rfl ?_
  refine RQ.loopQ (pc := 3) (fun k => cmpL (sl f (i + k) (n - k)) (sl g (j + k) (m - k)) = cmpL (sl f i n) (sl g j m)) (fun k => [(7, .int (nI k)), (0, .ref (c + 1)), (1, .ref (a + 1)), (2, .int (nI i)), (3, .int (nI n)), (4, .ref (b + 1)), (5, .int (nI j)), (6, .int (nI m))]) (min n m) (fun k hk h2 ih => ?_) (fun h2 => ?_) (by show cmpL (sl f (i + 0) (n - 0)) (sl g (j + 0) (m - 0)) = _; rfl)
  · have e2 := cmp_step (f := f) (g := g) (i := i) (j := j) (n := n) (m := m) (k := k) (by omega) (by omega)
    rw [h2] at e2
    refine RQ.blk 2 (pc' := 6) (lv' := [(7, .int (nI k)), (0, .ref (c + 1)), (1, .ref (a + 1)), (2, .int (nI i)), (3, .int (nI n)), (4, .ref (b + 1)), (5, .int (nI j)), (6, .int (nI m))]) (st' := [.int (nI n), .int (nI k)]) (H' := _) (kc' := 0) (ks' := 0) rfl ?_
    refine RQ.brF rfl rfl rfl (cF_ge k n) ?_
    refine RQ.blk 2 (pc' := 13) (lv' := [(7, .int (nI k)), (0, .ref (c + 1)), (1, .ref (a + 1)), (2, .int (nI i)), (3, .int (nI n)), (4, .ref (b + 1)), (5, .int (nI j)), (6, .int (nI m))]) (st' := [.int (nI m), .int (nI k)]) (H' := _) (kc' := 0) (ks' := 0) rfl ?_
    refine RQ.brF rfl rfl rfl (cF_ge k m) ?_
    refine RQ.blk 4 (pc' := 21) (lv' := [(7, .int (nI k)), (0, .ref (c + 1)), (1, .ref (a + 1)), (2, .int (nI i)), (3, .int (nI n)), (4, .ref (b + 1)), (5, .int (nI j)), (6, .int (nI m))]) (st' := [.int (nI i + nI k), .ref (a + 1)]) (H' := _) (kc' := 0) (ks' := 0) rfl ?_
    rw [show (nI i + nI k : Int32) = nI (i + k) from nI_add i k]
    refine RQ.baldN (j := i + k) rfl h0 (by omega) (by omega) ?_
    refine RQ.blk 6 (pc' := 33) (lv' := [(7, .int (nI k)), (0, .ref (c + 1)), (1, .ref (a + 1)), (2, .int (nI i)), (3, .int (nI n)), (4, .ref (b + 1)), (5, .int (nI j)), (6, .int (nI m))]) (st' := [.int (nI j + nI k), .ref (b + 1), .int (((f (i + k)).toInt32) &&& 255)]) (H' := _) (kc' := 0) (ks' := 0) rfl ?_
    rw [show (nI j + nI k : Int32) = nI (j + k) from nI_add j k]
    refine RQ.baldN (j := j + k) rfl h1 (by omega) (by omega) ?_
    refine RQ.blk 5 (pc' := 43) (lv' := [(8, .int ((((f (i + k)).toInt32) &&& 255) - (((g (j + k)).toInt32) &&& 255))), (7, .int (nI k)), (0, .ref (c + 1)), (1, .ref (a + 1)), (2, .int (nI i)), (3, .int (nI n)), (4, .ref (b + 1)), (5, .int (nI j)), (6, .int (nI m))]) (st' := [.int ((((f (i + k)).toInt32) &&& 255) - (((g (j + k)).toInt32) &&& 255))]) (H' := _) (kc' := 0) (ks' := 0) rfl ?_
    rw [ub_and, ub_and]
    by_cases hb : ub (f (i + k)) = ub (g (j + k))
    · rw [if_pos hb] at e2
      refine RQ.brT rfl rfl rfl (decide_eq_true (by rw [hb]; exact Int32.sub_self _)) ?_
      refine RQ.blk 1 (pc' := 52) (lv' := [(7, .int (nI k + 1)), (8, .int (nI (ub (f (i + k))) - nI (ub (g (j + k))))), (0, .ref (c + 1)), (1, .ref (a + 1)), (2, .int (nI i)), (3, .int (nI n)), (4, .ref (b + 1)), (5, .int (nI j)), (6, .int (nI m))]) (st' := []) (H' := _) (kc' := 0) (ks' := 0) rfl ?_
      rw [show (nI k + 1 : Int32) = nI (k + 1) from nI_add k 1]
      refine RQ.blk 1 (pc' := 3) (lv' := [(7, .int (nI (k + 1))), (8, .int (nI (ub (f (i + k))) - nI (ub (g (j + k))))), (0, .ref (c + 1)), (1, .ref (a + 1)), (2, .int (nI i)), (3, .int (nI n)), (4, .ref (b + 1)), (5, .int (nI j)), (6, .int (nI m))]) (st' := []) (H' := _) (kc' := 0) (ks' := 0) rfl ?_
      exact RQ.drop 8 [7, 8, 0, 1, 2, 3, 4, 5, 6] rfl rfl (by decide) (ih e2.symm)
    ·
      refine RQ.brF rfl rfl rfl (decide_eq_false (fun e => hb (by have := toInt_0 e; rw [ub_sub] at this; omega))) ?_
      refine RQ.blk 1 (pc' := 48) (lv' := [(8, .int (nI (ub (f (i + k))) - nI (ub (g (j + k))))), (7, .int (nI k)), (0, .ref (c + 1)), (1, .ref (a + 1)), (2, .int (nI i)), (3, .int (nI n)), (4, .ref (b + 1)), (5, .int (nI j)), (6, .int (nI m))]) (st' := [.int (nI (ub (f (i + k))) - nI (ub (g (j + k))))]) (H' := _) (kc' := 0) (ks' := 0) rfl ?_
      exact RQ.done (c := 0) (s := 0) rfl rfl rfl rfl ⟨_, _, rfl, rfl, by rw [if_neg hb] at e2; rw [ub_sub]; exact e2.symm⟩
  · have e3 : (nI n - nI m).toInt = cmpL (sl f i n) (sl g j m) := by rw [pk_sub_toInt (by omega) (by omega), ← h2, cmp_end rfl]
    refine RQ.blk 2 (pc' := 6) (lv' := [(7, .int (nI (min n m))), (0, .ref (c + 1)), (1, .ref (a + 1)), (2, .int (nI i)), (3, .int (nI n)), (4, .ref (b + 1)), (5, .int (nI j)), (6, .int (nI m))]) (st' := [.int (nI n), .int (nI (min n m))]) (H' := _) (kc' := 0) (ks' := 0) rfl ?_
    by_cases hnm : n ≤ m
    ·
      refine RQ.brT rfl rfl rfl (cT_ge (min n m) n) ?_
      refine RQ.blk 3 (pc' := 59) (lv' := [(7, .int (nI (min n m))), (0, .ref (c + 1)), (1, .ref (a + 1)), (2, .int (nI i)), (3, .int (nI n)), (4, .ref (b + 1)), (5, .int (nI j)), (6, .int (nI m))]) (st' := [.int (nI n - nI m)]) (H' := _) (kc' := 0) (ks' := 0) rfl ?_
      exact RQ.done (c := 0) (s := 0) rfl rfl rfl rfl ⟨_, _, rfl, rfl, e3⟩
    ·
      refine RQ.brF rfl rfl rfl (cF_ge (min n m) n) ?_
      refine RQ.blk 2 (pc' := 13) (lv' := [(7, .int (nI (min n m))), (0, .ref (c + 1)), (1, .ref (a + 1)), (2, .int (nI i)), (3, .int (nI n)), (4, .ref (b + 1)), (5, .int (nI j)), (6, .int (nI m))]) (st' := [.int (nI m), .int (nI (min n m))]) (H' := _) (kc' := 0) (ks' := 0) rfl ?_
      refine RQ.brT rfl rfl rfl (cT_ge (min n m) m) ?_
      refine RQ.blk 3 (pc' := 59) (lv' := [(7, .int (nI (min n m))), (0, .ref (c + 1)), (1, .ref (a + 1)), (2, .int (nI i)), (3, .int (nI n)), (4, .ref (b + 1)), (5, .int (nI j)), (6, .int (nI m))]) (st' := [.int (nI n - nI m)]) (H' := _) (kc' := 0) (ks' := 0) rfl ?_
      exact RQ.done (c := 0) (s := 0) rfl rfl rfl rfl ⟨_, _, rfl, rfl, e3⟩
theorem rc_at {sc : Nat × (Nat → Int32)} {d a b n l i : Nat} {H : aH} {f : Nat → Int8} (h : RowAt H a b n f l) (hi : i < l) (hl : l ≤ n) (hn : n < 2 ^ 31) : RC sc d mr_194 [.ref (a + 1), .int (nI i)] H (.inl (some (.int (nI (ub (f i)))))) H 0 0 := by
  refine RP.blk 1 (pc' := 1) (lv' := [(0, .ref (a + 1)), (1, .int (nI i))]) (st' := [.int (nI i)]) (H' := _) (kc' := 0) (ks' := 0) rfl ?_
  refine RP.brF rfl rfl rfl (cF_lt i 0) ?_
  refine RP.blk 2 (pc' := 6) (lv' := [(0, .ref (a + 1)), (1, .int (nI i))]) (st' := [.ref (a + 1), .int (nI i)]) (H' := _) (kc' := 0) (ks' := 0) rfl ?_
  refine RP.get (ci := 5) rfl h.1 rfl rfl ?_
  refine RP.brF rfl rfl rfl (cF_ge i l (h := hi) (hb := by omega)) ?_
  refine RP.blk 2 (pc' := 14) (lv' := [(0, .ref (a + 1)), (1, .int (nI i))]) (st' := [.ref (a + 1), .int (nI i)]) (H' := _) (kc' := 0) (ks' := 0) rfl ?_
  refine RP.get (ci := 5) rfl h.1 rfl rfl ?_
  refine RP.len rfl h.2.1 rfl ?_
  refine RP.brF rfl rfl rfl (cF_ge i n (h := by omega) (hb := h.2.2.2)) ?_
  refine RP.blk 1 (pc' := 22) (lv' := [(0, .ref (a + 1)), (1, .int (nI i))]) (st' := [.ref (a + 1)]) (H' := _) (kc' := 0) (ks' := 0) rfl ?_
  refine RP.get (ci := 5) rfl h.1 rfl rfl ?_
  refine RP.blk 1 (pc' := 26) (lv' := [(0, .ref (a + 1)), (1, .int (nI i))]) (st' := [.int (nI i), .ref (b + 1)]) (H' := _) (kc' := 0) (ks' := 0) rfl ?_
  refine RP.baldN (j := i) rfl h.2.1 (by omega) h.2.2.2 ?_
  refine RP.blk 3 (pc' := 35) (lv' := [(0, .ref (a + 1)), (1, .int (nI i))]) (st' := [.int (((f i).toInt32) &&& 255)]) (H' := _) (kc' := 0) (ks' := 0) rfl ?_
  rw [ub_and]
  exact RP.done (c := 0) (s := 0) rfl rfl rfl rfl
theorem rc_at0 {sc : Nat × (Nat → Int32)} {d a b n l i : Nat} {H : aH} {f : Nat → Int8} (h : RowAt H a b n f l) (hi : l ≤ i) (hb : i < 2 ^ 31) : RC sc d mr_194 [.ref (a + 1), .int (nI i)] H (.inl (some (.int 0))) H 0 0 := by
  refine RP.blk 1 (pc' := 1) (lv' := [(0, .ref (a + 1)), (1, .int (nI i))]) (st' := [.int (nI i)]) (H' := _) (kc' := 0) (ks' := 0) rfl ?_
  refine RP.brF rfl rfl rfl (cF_lt i 0) ?_
  refine RP.blk 2 (pc' := 6) (lv' := [(0, .ref (a + 1)), (1, .int (nI i))]) (st' := [.ref (a + 1), .int (nI i)]) (H' := _) (kc' := 0) (ks' := 0) rfl ?_
  refine RP.get (ci := 5) rfl h.1 rfl rfl ?_
  refine RP.brT rfl rfl rfl (cT_ge i l (h := hi) (hb := by omega)) ?_
  refine RP.blk 1 (pc' := 35) (lv' := [(0, .ref (a + 1)), (1, .int (nI i))]) (st' := [.int 0]) (H' := _) (kc' := 0) (ks' := 0) rfl ?_
  exact RP.done (c := 0) (s := 0) rfl rfl rfl rfl
/-- the byte i from the right of a number -/
def numB (v : Int32) (i : Nat) : Int8 := (v >>> (nI (8 * i) &&& 31)).toInt8
/-- n bytes of a number at p, those of the right k of them written -/
def numF (f : Nat → Int8) (p n : Nat) (v : Int32) (k : Nat) : Nat → Int8 := fun q => if p + n - k ≤ q ∧ q < p + n then numB v (p + n - 1 - q) else f q
theorem numF_0 {f : Nat → Int8} {p n : Nat} {v : Int32} : numF f p n v 0 = f := by
  funext q
  exact if_neg (by omega)
theorem numF_up {f : Nat → Int8} {p n i : Nat} {v : Int32} (h : i < n) : va_up (numF f p n v i) (p + n - 1 - i) (numB v i) = numF f p n v (i + 1) := by
  funext q
  unfold va_up numF
  by_cases h1 : q = p + n - 1 - i
  · rw [if_pos h1, if_pos (by omega), show p + n - 1 - q = i by omega]
  · rw [if_neg h1]
    by_cases h2 : p + n - i ≤ q ∧ q < p + n
    · rw [if_pos h2, if_pos (by omega)]
    · rw [if_neg h2, if_neg (by omega)]
theorem rc_number {sc : Nat × (Nat → Int32)} {d a m p n : Nat} {H : aH} {f : Nat → Int8} {v : Int32} (h : H[a]? = some (kB m f)) (hm : m < 2 ^ 30) (hp : p + n ≤ m) (hn : n ≤ 4) : RC sc d mr_101 [.ref (a + 1), .int (nI p), .int (nI n), .int v] H (.inl none) (H.set a (kB m (numF f p n v n))) 0 0 := by
  refine RP.blk 2 (pc' := 3) (lv' := [(4, .int 0), (0, .ref (a + 1)), (1, .int (nI p)), (2, .int (nI n)), (3, .int v)]) (st' := []) (H' := _) (kc' := 0) (ks' := 0) rfl ?_
  have start : RP sc d mr_101 3 [(4, .int (nI 0)), (0, .ref (a + 1)), (1, .int (nI p)), (2, .int (nI n)), (3, .int v)] [] (H.set a (kB m (numF f p n v 0))) 0 0 (.inl none, H.set a (kB m (numF f p n v n)), 0, 0) := by
    refine RP.loop 3 (fun i => [(4, .int (nI i)), (0, .ref (a + 1)), (1, .int (nI p)), (2, .int (nI n)), (3, .int v)]) [] (fun i => H.set a (kB m (numF f p n v i))) 0 0 n (fun i hi kk => ?_) ?_
    ·
      refine RP.blk 2 (pc' := 6) (lv' := [(4, .int (nI i)), (0, .ref (a + 1)), (1, .int (nI p)), (2, .int (nI n)), (3, .int v)]) (st' := [.int (nI n), .int (nI i)]) (H' := _) (kc' := 0) (ks' := 0) rfl ?_
      refine RP.brF rfl rfl rfl (cF_ge i n) ?_
      refine RP.blk 3 (pc' := 12) (lv' := [(4, .int (nI i)), (0, .ref (a + 1)), (1, .int (nI p)), (2, .int (nI n)), (3, .int v)]) (st' := [.int (nI p + nI n)]) (H' := _) (kc' := 0) (ks' := 0) rfl ?_
      rw [show (nI p + nI n : Int32) = nI (p + n) from nI_add p n]
      refine RP.blk 2 (pc' := 14) (lv' := [(4, .int (nI i)), (0, .ref (a + 1)), (1, .int (nI p)), (2, .int (nI n)), (3, .int v)]) (st' := [.int (nI (p + n) - 1)]) (H' := _) (kc' := 0) (ks' := 0) rfl ?_
      rw [show (nI (p + n) - 1 : Int32) = nI ((p + n) - 1) from pk_sub (a := (p + n)) (b := 1) (by omega)]
      refine RP.blk 2 (pc' := 17) (lv' := [(4, .int (nI i)), (0, .ref (a + 1)), (1, .int (nI p)), (2, .int (nI n)), (3, .int v)]) (st' := [.int (nI ((p + n) - 1) - nI i)]) (H' := _) (kc' := 0) (ks' := 0) rfl ?_
      rw [show (nI ((p + n) - 1) - nI i : Int32) = nI (((p + n) - 1) - i) from pk_sub (a := ((p + n) - 1)) (b := i) (by omega)]
      refine RP.blk 2 (pc' := 21) (lv' := [(5, .int (nI (((p + n) - 1) - i))), (4, .int (nI i)), (0, .ref (a + 1)), (1, .int (nI p)), (2, .int (nI n)), (3, .int v)]) (st' := [.int (nI (((p + n) - 1) - i))]) (H' := _) (kc' := 0) (ks' := 0) rfl ?_
      refine RP.brF rfl rfl rfl (cF_lt (((p + n) - 1) - i) 0) ?_
      refine RP.blk 2 (pc' := 27) (lv' := [(5, .int (nI (((p + n) - 1) - i))), (4, .int (nI i)), (0, .ref (a + 1)), (1, .int (nI p)), (2, .int (nI n)), (3, .int v)]) (st' := [.ref (a + 1), .int (nI (((p + n) - 1) - i))]) (H' := _) (kc' := 0) (ks' := 0) rfl ?_
      refine RP.len rfl (get_set h) rfl ?_
      refine RP.brF rfl rfl rfl (cF_ge (((p + n) - 1) - i) m) ?_
      refine RP.blk 6 (pc' := 40) (lv' := [(5, .int (nI (((p + n) - 1) - i))), (4, .int (nI i)), (0, .ref (a + 1)), (1, .int (nI p)), (2, .int (nI n)), (3, .int v)]) (st' := [.int (8 * nI i), .int v, .int (nI (((p + n) - 1) - i)), .ref (a + 1)]) (H' := _) (kc' := 0) (ks' := 0) rfl ?_
      rw [show (8 * nI i : Int32) = nI (8 * i) from pk_mul 8 i]
      refine RP.blk 2 (pc' := 42) (lv' := [(5, .int (nI (((p + n) - 1) - i))), (4, .int (nI i)), (0, .ref (a + 1)), (1, .int (nI p)), (2, .int (nI n)), (3, .int v)]) (st' := [.int ((v >>> (nI (8 * i) &&& 31)).toInt8.toInt32), .int (nI (((p + n) - 1) - i)), .ref (a + 1)]) (H' := _) (kc' := 0) (ks' := 0) rfl ?_
      refine RP.bastN (j := p + n - 1 - i) rfl (get_set h) (by omega) (by omega) ?_
      rw [set_set, Int8.toInt8_toInt32, show (v >>> (nI (8 * i) &&& 31)).toInt8 = numB v i from rfl, numF_up hi]
      refine RP.blk 1 (pc' := 46) (lv' := [(4, .int (nI i + 1)), (5, .int (nI (((p + n) - 1) - i))), (0, .ref (a + 1)), (1, .int (nI p)), (2, .int (nI n)), (3, .int v)]) (st' := []) (H' := _) (kc' := 0) (ks' := 0) rfl ?_
      rw [show (nI i + 1 : Int32) = nI (i + 1) from nI_add i 1]
      refine RP.blk 1 (pc' := 3) (lv' := [(4, .int (nI (i + 1))), (5, .int (nI (((p + n) - 1) - i))), (0, .ref (a + 1)), (1, .int (nI p)), (2, .int (nI n)), (3, .int v)]) (st' := []) (H' := _) (kc' := 0) (ks' := 0) rfl ?_
      exact RP.drop 5 [4, 5, 0, 1, 2, 3] rfl rfl (by decide) kk
    ·
      refine RP.blk 2 (pc' := 6) (lv' := [(4, .int (nI n)), (0, .ref (a + 1)), (1, .int (nI p)), (2, .int (nI n)), (3, .int v)]) (st' := [.int (nI n), .int (nI n)]) (H' := _) (kc' := 0) (ks' := 0) rfl ?_
      refine RP.brT rfl rfl rfl (cT_ge n n) ?_
      exact RP.done (c := 0) (s := 0) rfl rfl rfl rfl
  rw [numF_0, set_self h] at start
  exact start
theorem rc_rangeCheck {sc : Nat × (Nat → Int32)} {d n i j : Nat} {H : aH} (hi : i ≤ j) (hj : j ≤ n) (hn : n < 2 ^ 31) : RC sc d mr_109 [.int (nI n), .int (nI i), .int (nI j)] H (.inl none) H 0 0 := by
  refine RP.blk 2 (pc' := 2) (lv' := [(0, .int (nI n)), (1, .int (nI i)), (2, .int (nI j))]) (st' := [.int (nI j), .int (nI i)]) (H' := _) (kc' := 0) (ks' := 0) rfl ?_
  refine RP.brT rfl rfl rfl (cT_le i j) ?_
  refine RP.blk 1 (pc' := 47) (lv' := [(0, .int (nI n)), (1, .int (nI i)), (2, .int (nI j))]) (st' := [.int (nI i)]) (H' := _) (kc' := 0) (ks' := 0) rfl ?_
  refine RP.brT rfl rfl rfl (cT_ge i 0) ?_
  refine RP.blk 2 (pc' := 61) (lv' := [(0, .int (nI n)), (1, .int (nI i)), (2, .int (nI j))]) (st' := [.int (nI n), .int (nI j)]) (H' := _) (kc' := 0) (ks' := 0) rfl ?_
  refine RP.brT rfl rfl rfl (cT_le j n) ?_
  exact RP.done (c := 0) (s := 0) rfl rfl rfl rfl
theorem rc_fillR {sc : Nat × (Nat → Int32)} {d a n i k : Nat} {H : aH} {f : Nat → Int8} {v : Int32} (h : H[a]? = some (kB n f)) (hn : n < 2 ^ 30) (hi : i + k ≤ n) : RC sc (d + 1) mr_108 [.ref (a + 1), .int (nI i), .int (nI (i + k)), .int v] H (.inl none) (H.set a (kB n (fun q => if i ≤ q ∧ q < i + k then v.toInt8 else f q))) 0 0 := by
  refine RP.blk 1 (pc' := 1) (lv' := [(0, .ref (a + 1)), (1, .int (nI i)), (2, .int (nI (i + k))), (3, .int v)]) (st' := [.ref (a + 1)]) (H' := _) (kc' := 0) (ks' := 0) rfl ?_
  refine RP.len rfl h rfl ?_
  refine RP.blk 2 (pc' := 4) (lv' := [(0, .ref (a + 1)), (1, .int (nI i)), (2, .int (nI (i + k))), (3, .int v)]) (st' := [.int (nI (i + k)), .int (nI i), .int (nI n)]) (H' := _) (kc' := 0) (ks' := 0) rfl ?_
  refine RP.call (v := none) (st' := []) rfl rfl rfl rfl rfl rfl rfl (rc_rangeCheck (by omega) hi (by omega)) ?_
  refine RP.blk 2 (pc' := 10) (lv' := [(4, .int (nI i)), (0, .ref (a + 1)), (1, .int (nI i)), (2, .int (nI (i + k))), (3, .int v)]) (st' := []) (H' := _) (kc' := 0) (ks' := 0) rfl ?_
  have start : RP sc (d + 1) mr_108 10 [(4, .int (nI (i + 0))), (0, .ref (a + 1)), (1, .int (nI i)), (2, .int (nI (i + k))), (3, .int v)] [] (H.set a (kB n (fun q => if i ≤ q ∧ q < i + 0 then v.toInt8 else f q))) 0 0 (.inl none, H.set a (kB n (fun q => if i ≤ q ∧ q < i + k then v.toInt8 else f q)), 0, 0) := by
    refine RP.loop 10 (fun q => [(4, .int (nI (i + q))), (0, .ref (a + 1)), (1, .int (nI i)), (2, .int (nI (i + k))), (3, .int v)]) [] (fun z => H.set a (kB n (fun q => if i ≤ q ∧ q < i + z then v.toInt8 else f q))) 0 0 k (fun z hz kk => ?_) ?_
    ·
      refine RP.blk 2 (pc' := 13) (lv' := [(4, .int (nI (i + z))), (0, .ref (a + 1)), (1, .int (nI i)), (2, .int (nI (i + k))), (3, .int v)]) (st' := [.int (nI (i + k)), .int (nI (i + z))]) (H' := _) (kc' := 0) (ks' := 0) rfl ?_
      refine RP.brF rfl rfl rfl (cF_ge (i + z) (i + k)) ?_
      refine RP.blk 3 (pc' := 20) (lv' := [(4, .int (nI (i + z))), (0, .ref (a + 1)), (1, .int (nI i)), (2, .int (nI (i + k))), (3, .int v)]) (st' := [.int v, .int (nI (i + z)), .ref (a + 1)]) (H' := _) (kc' := 0) (ks' := 0) rfl ?_
      refine RP.bastN (j := i + z) rfl (get_set h) (by omega) (by omega) ?_
      rw [set_set, up_fill]
      refine RP.blk 1 (pc' := 24) (lv' := [(4, .int (nI (i + z) + 1)), (0, .ref (a + 1)), (1, .int (nI i)), (2, .int (nI (i + k))), (3, .int v)]) (st' := []) (H' := _) (kc' := 0) (ks' := 0) rfl ?_
      rw [show (nI (i + z) + 1 : Int32) = nI (i + z + 1) from nI_add (i + z) 1]
      refine RP.blk 1 (pc' := 10) (lv' := [(4, .int (nI (i + z + 1))), (0, .ref (a + 1)), (1, .int (nI i)), (2, .int (nI (i + k))), (3, .int v)]) (st' := []) (H' := _) (kc' := 0) (ks' := 0) rfl ?_
      exact kk
    ·
      refine RP.blk 2 (pc' := 13) (lv' := [(4, .int (nI (i + k))), (0, .ref (a + 1)), (1, .int (nI i)), (2, .int (nI (i + k))), (3, .int v)]) (st' := [.int (nI (i + k)), .int (nI (i + k))]) (H' := _) (kc' := 0) (ks' := 0) rfl ?_
      refine RP.brT rfl rfl rfl (cT_ge (i + k) (i + k)) ?_
      exact RP.done (c := 0) (s := 0) rfl rfl rfl rfl
  rw [fill_0, set_self h] at start
  exact start
theorem rc_blank {sc : Nat × (Nat → Int32)} {d a n i k : Nat} {H : aH} {f : Nat → Int8} (h : H[a]? = some (kB n f)) (hn : n < 2 ^ 30) (hi : i + k ≤ n) : RC sc (d + 2) mr_242 [.ref (a + 1), .int (nI i), .int (nI k)] H (.inl none) (H.set a (kB n (fun q => if i ≤ q ∧ q < i + k then 0 else f q))) 0 0 := by
  refine RP.blk 1 (pc' := 1) (lv' := [(0, .ref (a + 1)), (1, .int (nI i)), (2, .int (nI k))]) (st' := [.int (nI k)]) (H' := _) (kc' := 0) (ks' := 0) rfl ?_
  by_cases hk : k = 0
  · subst hk
    refine RP.brT rfl rfl rfl (cT_le 0 0) ?_
    rw [show (fun q => if i ≤ q ∧ q < i + 0 then (0 : Int8) else f q) = f from fill_0, set_self h]
    exact RP.done (c := 0) (s := 0) rfl rfl rfl rfl
  ·
    refine RP.brF rfl rfl rfl (cF_le k 0) ?_
    refine RP.blk 1 (pc' := 5) (lv' := [(0, .ref (a + 1)), (1, .int (nI i)), (2, .int (nI k))]) (st' := [.int (nI i)]) (H' := _) (kc' := 0) (ks' := 0) rfl ?_
    refine RP.brF rfl rfl rfl (cF_lt i 0) ?_
    refine RP.blk 2 (pc' := 10) (lv' := [(0, .ref (a + 1)), (1, .int (nI i)), (2, .int (nI k))]) (st' := [.ref (a + 1), .int (nI i)]) (H' := _) (kc' := 0) (ks' := 0) rfl ?_
    refine RP.len rfl h rfl ?_
    refine RP.blk 2 (pc' := 13) (lv' := [(0, .ref (a + 1)), (1, .int (nI i)), (2, .int (nI k))]) (st' := [.int (nI n - nI k), .int (nI i)]) (H' := _) (kc' := 0) (ks' := 0) rfl ?_
    rw [show (nI n - nI k : Int32) = nI (n - k) from pk_sub (a := n) (b := k) (by omega)]
    refine RP.brF rfl rfl rfl (cF_gt i (n - k)) ?_
    refine RP.blk 5 (pc' := 21) (lv' := [(0, .ref (a + 1)), (1, .int (nI i)), (2, .int (nI k))]) (st' := [.int (nI i + nI k), .int (nI i), .ref (a + 1)]) (H' := _) (kc' := 0) (ks' := 0) rfl ?_
    rw [show (nI i + nI k : Int32) = nI (i + k) from nI_add i k]
    refine RP.blk 1 (pc' := 22) (lv' := [(0, .ref (a + 1)), (1, .int (nI i)), (2, .int (nI k))]) (st' := [.int 0, .int (nI (i + k)), .int (nI i), .ref (a + 1)]) (H' := _) (kc' := 0) (ks' := 0) rfl ?_
    refine RP.call (v := none) (st' := []) rfl rfl rfl rfl rfl rfl rfl (rc_fillR (v := 0) h hn hi) ?_
    exact RP.done (c := 0) (s := 0) rfl rfl rfl rfl
theorem rc_cat {sc : Nat × (Nat → Int32)} {d a b n i : Nat} {H : aH} {fs : List Value} {f : Nat → Int8} (ho : H[a]? = some (kO 1 fs)) (hc : fs[0]? = some (.ref (b + 1))) (h : H[b]? = some (kB n f)) (hn : n < 2 ^ 31) (hi : i < n) : RC sc d mr_63 [.ref (a + 1), .int (nI i)] H (.inl (some (.int (nI (ub (f i)))))) H 0 0 := by
  refine RP.blk 1 (pc' := 1) (lv' := [(0, .ref (a + 1)), (1, .int (nI i))]) (st' := [.int (nI i)]) (H' := _) (kc' := 0) (ks' := 0) rfl ?_
  refine RP.brF rfl rfl rfl (cF_lt i 0) ?_
  refine RP.blk 2 (pc' := 6) (lv' := [(0, .ref (a + 1)), (1, .int (nI i))]) (st' := [.ref (a + 1), .int (nI i)]) (H' := _) (kc' := 0) (ks' := 0) rfl ?_
  refine RP.get (ci := 1) rfl ho rfl hc ?_
  refine RP.len rfl h rfl ?_
  refine RP.brF rfl rfl rfl (cF_ge i n) ?_
  refine RP.blk 1 (pc' := 14) (lv' := [(0, .ref (a + 1)), (1, .int (nI i))]) (st' := [.ref (a + 1)]) (H' := _) (kc' := 0) (ks' := 0) rfl ?_
  refine RP.get (ci := 1) rfl ho rfl hc ?_
  refine RP.blk 1 (pc' := 18) (lv' := [(0, .ref (a + 1)), (1, .int (nI i))]) (st' := [.int (nI i), .ref (b + 1)]) (H' := _) (kc' := 0) (ks' := 0) rfl ?_
  refine RP.baldN (j := i) rfl h (by omega) hn ?_
  refine RP.blk 3 (pc' := 29) (lv' := [(0, .ref (a + 1)), (1, .int (nI i))]) (st' := [.int (((f i).toInt32) &&& 255)]) (H' := _) (kc' := 0) (ks' := 0) rfl ?_
  rw [ub_and]
  exact RP.done (c := 0) (s := 0) rfl rfl rfl rfl
theorem rc_catN {sc : Nat × (Nat → Int32)} {d a : Nat} {H : aH} {x : Int32} (hx : x < 0) : RC sc d mr_63 [.ref (a + 1), .int x] H (.inl (some (.int 255))) H 0 0 := by
  refine RP.blk 1 (pc' := 1) (lv' := [(0, .ref (a + 1)), (1, .int x)]) (st' := [.int x]) (H' := _) (kc' := 0) (ks' := 0) rfl ?_
  refine RP.brT rfl rfl rfl (decide_eq_true hx) ?_
  refine RP.blk 1 (pc' := 29) (lv' := [(0, .ref (a + 1)), (1, .int x)]) (st' := [.int 255]) (H' := _) (kc' := 0) (ks' := 0) rfl ?_
  exact RP.done (c := 0) (s := 0) rfl rfl rfl rfl
theorem rc_copyOut {sc : Nat × (Nat → Int32)} {d a b c n nc i j k : Nat} {H : aH} {fs : List Value} {f g : Nat → Int8} (ho : H[a]? = some (kO 1 fs)) (hc : fs[0]? = some (.ref (b + 1))) (h : H[b]? = some (kB n f)) (hn : n < 2 ^ 31) (h1 : H[c]? = some (kB nc g)) (hnc : nc < 2 ^ 31) (hi : i + k ≤ n) (hj : j + k ≤ nc) : RC sc (d + 1) mr_67 [.ref (a + 1), .int (nI i), .ref (c + 1), .int (nI j), .int (nI k)] H (.inl none) (H.set c (kB nc (cpy f i g j k))) 0 0 := by
  refine RP.blk 1 (pc' := 1) (lv' := [(0, .ref (a + 1)), (1, .int (nI i)), (2, .ref (c + 1)), (3, .int (nI j)), (4, .int (nI k))]) (st' := [.ref (a + 1)]) (H' := _) (kc' := 0) (ks' := 0) rfl ?_
  refine RP.get (ci := 1) rfl ho rfl hc ?_
  refine RP.blk 4 (pc' := 9) (lv' := [(0, .ref (a + 1)), (1, .int (nI i)), (2, .ref (c + 1)), (3, .int (nI j)), (4, .int (nI k))]) (st' := [.int (nI k), .int (nI j), .ref (c + 1), .int (nI i), .ref (b + 1)]) (H' := _) (kc' := 0) (ks' := 0) rfl ?_
  refine RP.call (v := none) (st' := []) rfl rfl rfl rfl rfl rfl rfl (rc_copy h h1 hn hnc hi hj) ?_
  exact RP.done (c := 0) (s := 0) rfl rfl rfl rfl
/-- a number of n bytes, the highest first -/
def numI (f : Nat → Int8) : Nat → Nat → Int32 → Int32
  | _, 0, s => s
  | i, n + 1, s => numI f (i + 1) n ((s <<< (8 &&& 31)) ||| nI (ub (f i)))
theorem numI_snoc (f : Nat → Int8) : ∀ (n i : Nat) (s : Int32), numI f i (n + 1) s = (numI f i n s <<< (8 &&& 31)) ||| nI (ub (f (i + n)))
  | 0, _, _ => rfl
  | n + 1, i, s => by rw [numI, numI_snoc f n (i + 1), numI, show i + 1 + n = i + (n + 1) by omega]
theorem rc_cnum {sc : Nat × (Nat → Int32)} {d a b n i k : Nat} {H : aH} {fs : List Value} {f : Nat → Int8} (ho : H[a]? = some (kO 1 fs)) (hc : fs[0]? = some (.ref (b + 1))) (h : H[b]? = some (kB n f)) (hn : n < 2 ^ 31) (hi : i + k ≤ n) : RC sc d mr_65 [.ref (a + 1), .int (nI i), .int (nI k)] H (.inl (some (.int (numI f i k 0)))) H 0 0 := by
  refine RP.blk 4 (pc' := 5) (lv' := [(4, .int (nI i)), (3, .int 0), (0, .ref (a + 1)), (1, .int (nI i)), (2, .int (nI k))]) (st' := []) (H' := _) (kc' := 0) (ks' := 0) rfl ?_
  have start : RP sc d mr_65 5 [(4, .int (nI (i + 0))), (3, .int (numI f i 0 0)), (0, .ref (a + 1)), (1, .int (nI i)), (2, .int (nI k))] [] H 0 0 (.inl (some (.int (numI f i k 0))), H, 0, 0) := by
    refine RP.loop 5 (fun z => [(4, .int (nI (i + z))), (3, .int (numI f i z 0)), (0, .ref (a + 1)), (1, .int (nI i)), (2, .int (nI k))]) [] (fun _ => H) 0 0 k (fun z hz kk => ?_) ?_
    ·
      refine RP.blk 4 (pc' := 10) (lv' := [(4, .int (nI (i + z))), (3, .int (numI f i z 0)), (0, .ref (a + 1)), (1, .int (nI i)), (2, .int (nI k))]) (st' := [.int (nI i + nI k), .int (nI (i + z))]) (H' := _) (kc' := 0) (ks' := 0) rfl ?_
      rw [show (nI i + nI k : Int32) = nI (i + k) from nI_add i k]
      refine RP.brF rfl rfl rfl (cF_ge (i + z) (i + k)) ?_
      refine RP.blk 4 (pc' := 19) (lv' := [(4, .int (nI (i + z))), (3, .int (numI f i z 0)), (0, .ref (a + 1)), (1, .int (nI i)), (2, .int (nI k))]) (st' := [.int (nI (i + z)), .int ((numI f i z 0) <<< (8 &&& 31))]) (H' := _) (kc' := 0) (ks' := 0) rfl ?_
      refine RP.brF rfl rfl rfl (cF_lt (i + z) 0) ?_
      refine RP.blk 2 (pc' := 25) (lv' := [(4, .int (nI (i + z))), (3, .int (numI f i z 0)), (0, .ref (a + 1)), (1, .int (nI i)), (2, .int (nI k))]) (st' := [.ref (a + 1), .int (nI (i + z)), .int ((numI f i z 0) <<< (8 &&& 31))]) (H' := _) (kc' := 0) (ks' := 0) rfl ?_
      refine RP.get (ci := 1) rfl ho rfl hc ?_
      refine RP.len rfl h rfl ?_
      refine RP.brF rfl rfl rfl (cF_ge (i + z) n) ?_
      refine RP.blk 1 (pc' := 33) (lv' := [(4, .int (nI (i + z))), (3, .int (numI f i z 0)), (0, .ref (a + 1)), (1, .int (nI i)), (2, .int (nI k))]) (st' := [.ref (a + 1), .int ((numI f i z 0) <<< (8 &&& 31))]) (H' := _) (kc' := 0) (ks' := 0) rfl ?_
      refine RP.get (ci := 1) rfl ho rfl hc ?_
      refine RP.blk 1 (pc' := 38) (lv' := [(4, .int (nI (i + z))), (3, .int (numI f i z 0)), (0, .ref (a + 1)), (1, .int (nI i)), (2, .int (nI k))]) (st' := [.int (nI (i + z)), .ref (b + 1), .int ((numI f i z 0) <<< (8 &&& 31))]) (H' := _) (kc' := 0) (ks' := 0) rfl ?_
      refine RP.baldN (j := i + z) rfl h (by omega) hn ?_
      refine RP.blk 3 (pc' := 49) (lv' := [(4, .int (nI (i + z))), (3, .int (numI f i z 0)), (0, .ref (a + 1)), (1, .int (nI i)), (2, .int (nI k))]) (st' := [.int (((f (i + z)).toInt32) &&& 255), .int ((numI f i z 0) <<< (8 &&& 31))]) (H' := _) (kc' := 0) (ks' := 0) rfl ?_
      rw [ub_and]
      refine RP.blk 2 (pc' := 51) (lv' := [(3, .int (((numI f i z 0) <<< (8 &&& 31)) ||| nI (ub (f (i + z))))), (4, .int (nI (i + z))), (0, .ref (a + 1)), (1, .int (nI i)), (2, .int (nI k))]) (st' := []) (H' := _) (kc' := 0) (ks' := 0) rfl ?_
      rw [← numI_snoc]
      refine RP.blk 1 (pc' := 54) (lv' := [(4, .int (nI (i + z) + 1)), (3, .int (numI f i (z + 1) 0)), (0, .ref (a + 1)), (1, .int (nI i)), (2, .int (nI k))]) (st' := []) (H' := _) (kc' := 0) (ks' := 0) rfl ?_
      rw [show (nI (i + z) + 1 : Int32) = nI (i + z + 1) from nI_add (i + z) 1]
      refine RP.blk 1 (pc' := 5) (lv' := [(4, .int (nI (i + z + 1))), (3, .int (numI f i (z + 1) 0)), (0, .ref (a + 1)), (1, .int (nI i)), (2, .int (nI k))]) (st' := []) (H' := _) (kc' := 0) (ks' := 0) rfl ?_
      exact kk
    ·
      refine RP.blk 4 (pc' := 10) (lv' := [(4, .int (nI (i + k))), (3, .int (numI f i k 0)), (0, .ref (a + 1)), (1, .int (nI i)), (2, .int (nI k))]) (st' := [.int (nI i + nI k), .int (nI (i + k))]) (H' := _) (kc' := 0) (ks' := 0) rfl ?_
      rw [show (nI i + nI k : Int32) = nI (i + k) from nI_add i k]
      refine RP.brT rfl rfl rfl (cT_ge (i + k) (i + k)) ?_
      refine RP.blk 1 (pc' := 58) (lv' := [(4, .int (nI (i + k))), (3, .int (numI f i k 0)), (0, .ref (a + 1)), (1, .int (nI i)), (2, .int (nI k))]) (st' := [.int (numI f i k 0)]) (H' := _) (kc' := 0) (ks' := 0) rfl ?_
      exact RP.done (c := 0) (s := 0) rfl rfl rfl rfl
  exact start
