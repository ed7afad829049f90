/-! ===== an entry comes to the page; a record's head; whether a record is whole; class; written by wip/gen/emit.py ===== -/
/-- the fields of the tables' object -/
def tabF (lm bf gm : Nat) : List Value := [.ref 72, .ref 84, .ref 75, .ref 138, .ref 139, .int (nI lm), .ref 142, .ref 141, .int (nI bf), .int (nI gm)]
theorem sl_join {f : Nat → Int8} {i n m : Nat} {a b : List Nat} (h1 : sl f i n = a) (h2 : sl f (i + n) m = b) : sl f i (n + m) = a ++ b := by rw [sl_append, h1, h2]
theorem sl_one {f : Nat → Int8} {i x : Nat} (h : ub (f i) = x) : sl f i 1 = [x] := by rw [sl, h]; rfl
theorem beB1 {x : Nat} (h : x < 256) : beB 1 x = [x] := by
  show [x / 256 ^ 0 % 256] = [x]
  rw [show x / 256 ^ 0 = x from Nat.div_one x, Nat.mod_eq_of_lt h]
theorem rn_emit {sc : Nat × (Nat → Int32)} {d a na j n m pl lm bf gm : Nat} {H : aH} {g pg : Nat → Int8} {l : Option Nat} (h1 : H[136]? = some (kO 8 (tabF lm bf gm))) (h2 : H[140]? = some (kB 2099 pg)) (h3 : H[a]? = some (kB na g)) (hna : na < 2 ^ 30) (ha : a ≠ 140) (ha2 : a ≠ 136) (hj : j + n ≤ na) (hb : bf + n + 10 ≤ 2099) (hn : n ≤ 41) (hm : m < 2 ^ 30) (hpl : pl < 2 ^ 24) (hl : l.getD 0 ≤ 2048) : RN sc (d + 1) mr_100 [.ref 137, .ref (a + 1), .int (nI j), .int (nI n), .int (nI m), .int (nI pl), .int (lI l)] H (fun H' => (∃ pg', H'[140]? = some (kB 2099 pg') ∧ sl pg' 0 (bf + (n + 10)) = sl pg 0 bf ++ encE (sl g j n, m, (if l = none then 0 else pl), l)) ∧ H'[136]? = some (kO 8 (tabF lm (bf + (n + 10)) gm)) ∧ ∀ a, a ≠ 140 → a ≠ 136 → H'[a]? = H[a]?) := by
  refine RN.of ?_
  refine RQ.blk 1 (pc' := 1) (lv' := [(0, .ref 137), (1, .ref (a + 1)), (2, .int (nI j)), (3, .int (nI n)), (4, .int (nI m)), (5, .int (nI pl)), (6, .int (lI l))]) (st' := [.ref 137]) (H' := _) (kc' := 0) (ks' := 0) rfl ?_
  refine RQ.get (ci := 8) rfl h1 rfl rfl ?_
  refine RQ.blk 1 (pc' := 5) (lv' := [(0, .ref 137), (1, .ref (a + 1)), (2, .int (nI j)), (3, .int (nI n)), (4, .int (nI m)), (5, .int (nI pl)), (6, .int (lI l))]) (st' := [.ref 137, .ref 141]) (H' := _) (kc' := 0) (ks' := 0) rfl ?_
  refine RQ.get (ci := 8) rfl h1 rfl rfl ?_
  refine RQ.blk 2 (pc' := 10) (lv' := [(0, .ref 137), (1, .ref (a + 1)), (2, .int (nI j)), (3, .int (nI n)), (4, .int (nI m)), (5, .int (nI pl)), (6, .int (lI l))]) (st' := [.int (nI n), .int 1, .int (nI bf), .ref 141]) (H' := _) (kc' := 0) (ks' := 0) rfl ?_
  refine RQ.call (v := none) (st' := []) rfl rfl rfl rfl rfl rfl rfl (rc_number (a := 140) (p := bf) (n := 1) (v := nI n) h2 (by decide) (by omega) (by decide)) ?_
  refine RQ.blk 3 (pc' := 16) (lv' := [(0, .ref 137), (1, .ref (a + 1)), (2, .int (nI j)), (3, .int (nI n)), (4, .int (nI m)), (5, .int (nI pl)), (6, .int (lI l))]) (st' := [.ref 137, .int (nI j), .ref (a + 1)]) (H' := _) (kc' := 0) (ks' := 0) rfl ?_
  refine RQ.get (ci := 8) rfl ((set_far (by omega)).trans h1) rfl rfl ?_
  refine RQ.blk 1 (pc' := 20) (lv' := [(0, .ref 137), (1, .ref (a + 1)), (2, .int (nI j)), (3, .int (nI n)), (4, .int (nI m)), (5, .int (nI pl)), (6, .int (lI l))]) (st' := [.ref 137, .ref 141, .int (nI j), .ref (a + 1)]) (H' := _) (kc' := 0) (ks' := 0) rfl ?_
  refine RQ.get (ci := 8) rfl ((set_far (by omega)).trans h1) rfl rfl ?_
  refine RQ.blk 2 (pc' := 25) (lv' := [(0, .ref 137), (1, .ref (a + 1)), (2, .int (nI j)), (3, .int (nI n)), (4, .int (nI m)), (5, .int (nI pl)), (6, .int (lI l))]) (st' := [.int (nI bf + 1), .ref 141, .int (nI j), .ref (a + 1)]) (H' := _) (kc' := 0) (ks' := 0) rfl ?_
  rw [show (nI bf + 1 : Int32) = nI (bf + 1) from nI_add bf 1]
  refine RQ.blk 1 (pc' := 26) (lv' := [(0, .ref 137), (1, .ref (a + 1)), (2, .int (nI j)), (3, .int (nI n)), (4, .int (nI m)), (5, .int (nI pl)), (6, .int (lI l))]) (st' := [.int (nI n), .int (nI (bf + 1)), .ref 141, .int (nI j), .ref (a + 1)]) (H' := _) (kc' := 0) (ks' := 0) rfl ?_
  refine RQ.call (v := none) (st' := []) rfl rfl rfl rfl rfl rfl rfl (rc_copy (i := j) (j := bf + 1) (k := n) ((set_far (by omega)).trans h3) (get_set h2) (by omega) (by decide) (by omega) (by omega)) ?_
  rw [set_set]
  refine RQ.blk 1 (pc' := 30) (lv' := [(0, .ref 137), (1, .ref (a + 1)), (2, .int (nI j)), (3, .int (nI n)), (4, .int (nI m)), (5, .int (nI pl)), (6, .int (lI l))]) (st' := [.ref 137]) (H' := _) (kc' := 0) (ks' := 0) rfl ?_
  refine RQ.get (ci := 8) rfl ((set_far (by omega)).trans h1) rfl rfl ?_
  refine RQ.blk 2 (pc' := 35) (lv' := [(0, .ref 137), (1, .ref (a + 1)), (2, .int (nI j)), (3, .int (nI n)), (4, .int (nI m)), (5, .int (nI pl)), (6, .int (lI l))]) (st' := [.int (nI bf + 1)]) (H' := _) (kc' := 0) (ks' := 0) rfl ?_
  rw [show (nI bf + 1 : Int32) = nI (bf + 1) from nI_add bf 1]
  refine RQ.blk 2 (pc' := 37) (lv' := [(0, .ref 137), (1, .ref (a + 1)), (2, .int (nI j)), (3, .int (nI n)), (4, .int (nI m)), (5, .int (nI pl)), (6, .int (lI l))]) (st' := [.int (nI (bf + 1) + nI n)]) (H' := _) (kc' := 0) (ks' := 0) rfl ?_
  rw [show (nI (bf + 1) + nI n : Int32) = nI (bf + 1 + n) from nI_add (bf + 1) n]
  refine RQ.blk 2 (pc' := 40) (lv' := [(7, .int (nI (bf + 1 + n))), (0, .ref 137), (1, .ref (a + 1)), (2, .int (nI j)), (3, .int (nI n)), (4, .int (nI m)), (5, .int (nI pl)), (6, .int (lI l))]) (st' := [.ref 137]) (H' := _) (kc' := 0) (ks' := 0) rfl ?_
  refine RQ.get (ci := 8) rfl ((set_far (by omega)).trans h1) rfl rfl ?_
  refine RQ.blk 3 (pc' := 48) (lv' := [(7, .int (nI (bf + 1 + n))), (0, .ref 137), (1, .ref (a + 1)), (2, .int (nI j)), (3, .int (nI n)), (4, .int (nI m)), (5, .int (nI pl)), (6, .int (lI l))]) (st' := [.int (nI m), .int 4, .int (nI (bf + 1 + n)), .ref 141]) (H' := _) (kc' := 0) (ks' := 0) rfl ?_
  refine RQ.call (v := none) (st' := []) rfl rfl rfl rfl rfl rfl rfl (rc_number (a := 140) (p := bf + 1 + n) (n := 4) (v := nI m) (get_set h2) (by decide) (by omega) (by decide)) ?_
  rw [set_set]
  refine RQ.blk 1 (pc' := 52) (lv' := [(7, .int (nI (bf + 1 + n))), (0, .ref 137), (1, .ref (a + 1)), (2, .int (nI j)), (3, .int (nI n)), (4, .int (nI m)), (5, .int (nI pl)), (6, .int (lI l))]) (st' := [.ref 137]) (H' := _) (kc' := 0) (ks' := 0) rfl ?_
  refine RQ.get (ci := 8) rfl ((set_far (by omega)).trans h1) rfl rfl ?_
  refine RQ.blk 3 (pc' := 59) (lv' := [(7, .int (nI (bf + 1 + n))), (0, .ref 137), (1, .ref (a + 1)), (2, .int (nI j)), (3, .int (nI n)), (4, .int (nI m)), (5, .int (nI pl)), (6, .int (lI l))]) (st' := [.int (nI (bf + 1 + n) + 4), .ref 141]) (H' := _) (kc' := 0) (ks' := 0) rfl ?_
  rw [show (nI (bf + 1 + n) + 4 : Int32) = nI (bf + 1 + n + 4) from nI_add (bf + 1 + n) 4]
  refine RQ.blk 2 (pc' := 62) (lv' := [(7, .int (nI (bf + 1 + n))), (0, .ref 137), (1, .ref (a + 1)), (2, .int (nI j)), (3, .int (nI n)), (4, .int (nI m)), (5, .int (nI pl)), (6, .int (lI l))]) (st' := [.int (lI l), .int 3, .int (nI (bf + 1 + n + 4)), .ref 141]) (H' := _) (kc' := 0) (ks' := 0) rfl ?_
  cases l with
  | none =>
    refine RQ.brF rfl rfl rfl (by decide) ?_
    refine RQ.blk 2 (pc' := 71) (lv' := [(7, .int (nI (bf + 1 + n))), (0, .ref 137), (1, .ref (a + 1)), (2, .int (nI j)), (3, .int (nI n)), (4, .int (nI m)), (5, .int (nI pl)), (6, .int (-1))]) (st' := [.int 0, .int 3, .int (nI (bf + 1 + n + 4)), .ref 141]) (H' := _) (kc' := 0) (ks' := 0) rfl ?_
    refine RQ.call (v := none) (st' := []) rfl rfl rfl rfl rfl rfl rfl (rc_number (a := 140) (p := bf + 1 + n + 4) (n := 3) (v := nI 0) (get_set h2) (by decide) (by omega) (by decide)) ?_
    rw [set_set]
    refine RQ.blk 1 (pc' := 75) (lv' := [(7, .int (nI (bf + 1 + n))), (0, .ref 137), (1, .ref (a + 1)), (2, .int (nI j)), (3, .int (nI n)), (4, .int (nI m)), (5, .int (nI pl)), (6, .int (-1))]) (st' := [.ref 137]) (H' := _) (kc' := 0) (ks' := 0) rfl ?_
    refine RQ.get (ci := 8) rfl ((set_far (by omega)).trans h1) rfl rfl ?_
    refine RQ.blk 3 (pc' := 83) (lv' := [(7, .int (nI (bf + 1 + n))), (0, .ref 137), (1, .ref (a + 1)), (2, .int (nI j)), (3, .int (nI n)), (4, .int (nI m)), (5, .int (nI pl)), (6, .int (-1))]) (st' := [.int (nI (bf + 1 + n) + 7), .ref 141]) (H' := _) (kc' := 0) (ks' := 0) rfl ?_
    rw [show (nI (bf + 1 + n) + 7 : Int32) = nI (bf + 1 + n + 7) from nI_add (bf + 1 + n) 7]
    refine RQ.blk 2 (pc' := 86) (lv' := [(7, .int (nI (bf + 1 + n))), (0, .ref 137), (1, .ref (a + 1)), (2, .int (nI j)), (3, .int (nI n)), (4, .int (nI m)), (5, .int (nI pl)), (6, .int (-1))]) (st' := [.int (-1), .int 2, .int (nI (bf + 1 + n + 7)), .ref 141]) (H' := _) (kc' := 0) (ks' := 0) rfl ?_
    refine RQ.brF rfl rfl rfl (by decide) ?_
    refine RQ.blk 2 (pc' := 96) (lv' := [(7, .int (nI (bf + 1 + n))), (0, .ref 137), (1, .ref (a + 1)), (2, .int (nI j)), (3, .int (nI n)), (4, .int (nI m)), (5, .int (nI pl)), (6, .int (-1))]) (st' := [.int 65535, .int 2, .int (nI (bf + 1 + n + 7)), .ref 141]) (H' := _) (kc' := 0) (ks' := 0) rfl ?_
    refine RQ.call (v := none) (st' := []) rfl rfl rfl rfl rfl rfl rfl (rc_number (a := 140) (p := bf + 1 + n + 7) (n := 2) (v := nI 65535) (get_set h2) (by decide) (by omega) (by decide)) ?_
    rw [set_set]
    refine RQ.blk 2 (pc' := 101) (lv' := [(7, .int (nI (bf + 1 + n))), (0, .ref 137), (1, .ref (a + 1)), (2, .int (nI j)), (3, .int (nI n)), (4, .int (nI m)), (5, .int (nI pl)), (6, .int (-1))]) (st' := [.ref 137, .ref 137]) (H' := _) (kc' := 0) (ks' := 0) rfl ?_
    refine RQ.get (ci := 8) rfl ((set_far (by omega)).trans h1) rfl rfl ?_
    refine RQ.blk 3 (pc' := 108) (lv' := [(7, .int (nI (bf + 1 + n))), (0, .ref 137), (1, .ref (a + 1)), (2, .int (nI j)), (3, .int (nI n)), (4, .int (nI m)), (5, .int (nI pl)), (6, .int (-1))]) (st' := [.int (nI n + 10), .int (nI bf), .ref 137]) (H' := _) (kc' := 0) (ks' := 0) rfl ?_
    rw [show (nI n + 10 : Int32) = nI (n + 10) from nI_add n 10]
    refine RQ.blk 1 (pc' := 109) (lv' := [(7, .int (nI (bf + 1 + n))), (0, .ref 137), (1, .ref (a + 1)), (2, .int (nI j)), (3, .int (nI n)), (4, .int (nI m)), (5, .int (nI pl)), (6, .int (-1))]) (st' := [.int (nI bf + nI (n + 10)), .ref 137]) (H' := _) (kc' := 0) (ks' := 0) rfl ?_
    rw [show (nI bf + nI (n + 10) : Int32) = nI (bf + (n + 10)) from nI_add bf (n + 10)]
    refine RQ.put (ci := 8) rfl ((set_far (by omega)).trans h1) rfl rfl (Nat.le_of_ble_eq_true rfl) ?_
    refine RQ.done (c := 0) (s := 0) rfl rfl rfl rfl ⟨_, rfl, ⟨_, (set_far (by decide)).trans (get_set h2), ?_⟩, ?_, fun a h8 h9 => (set_far h9).trans (set_far h8)⟩
    · refine sl_join ?_ ?_
      · rw [sl_numF_out (by omega), sl_numF_out (by omega), sl_numF_out (by omega), sl_cpy_out (by omega), sl_numF_out (by omega)]
      · rw [Nat.zero_add, show n + 10 = 1 + (n + (4 + (3 + 2))) by omega]
        show _ = [(sl g j n).length] ++ (sl g j n ++ (beB 4 m ++ (beB 3 0 ++ beB 2 65535)))
        rw [sl_length]
        refine sl_join ?_ (sl_join ?_ (sl_join ?_ (sl_join ?_ ?_)))
        · rw [sl_numF_out (by omega), sl_numF_out (by omega), sl_numF_out (by omega), sl_cpy_out (by omega), sl_numF (by omega) (by omega), beB1 (by omega)]
        · rw [sl_numF_out (by omega), sl_numF_out (by omega), sl_numF_out (by omega), sl_cpy]
        · rw [sl_numF_out (by omega), sl_numF_out (by omega), sl_numF (by omega) (by omega)]
        · rw [sl_numF_out (by omega), sl_numF (by omega) (by omega)]
        · rw [show bf + 1 + n + 4 + 3 = bf + 1 + n + 7 by omega, sl_numF (by omega) (by omega)]
    · exact get_set ((set_far (by decide)).trans h1)
  | some z =>
    have hz : z ≤ 2048 := hl
    rw [show lI (some z) = nI z from rfl]
    refine RQ.brT rfl rfl rfl (cT_ge z 0) ?_
    refine RQ.blk 1 (pc' := 71) (lv' := [(7, .int (nI (bf + 1 + n))), (0, .ref 137), (1, .ref (a + 1)), (2, .int (nI j)), (3, .int (nI n)), (4, .int (nI m)), (5, .int (nI pl)), (6, .int (nI z))]) (st' := [.int (nI pl), .int 3, .int (nI (bf + 1 + n + 4)), .ref 141]) (H' := _) (kc' := 0) (ks' := 0) rfl ?_
    refine RQ.call (v := none) (st' := []) rfl rfl rfl rfl rfl rfl rfl (rc_number (a := 140) (p := bf + 1 + n + 4) (n := 3) (v := nI pl) (get_set h2) (by decide) (by omega) (by decide)) ?_
    rw [set_set]
    refine RQ.blk 1 (pc' := 75) (lv' := [(7, .int (nI (bf + 1 + n))), (0, .ref 137), (1, .ref (a + 1)), (2, .int (nI j)), (3, .int (nI n)), (4, .int (nI m)), (5, .int (nI pl)), (6, .int (nI z))]) (st' := [.ref 137]) (H' := _) (kc' := 0) (ks' := 0) rfl ?_
    refine RQ.get (ci := 8) rfl ((set_far (by omega)).trans h1) rfl rfl ?_
    refine RQ.blk 3 (pc' := 83) (lv' := [(7, .int (nI (bf + 1 + n))), (0, .ref 137), (1, .ref (a + 1)), (2, .int (nI j)), (3, .int (nI n)), (4, .int (nI m)), (5, .int (nI pl)), (6, .int (nI z))]) (st' := [.int (nI (bf + 1 + n) + 7), .ref 141]) (H' := _) (kc' := 0) (ks' := 0) rfl ?_
    rw [show (nI (bf + 1 + n) + 7 : Int32) = nI (bf + 1 + n + 7) from nI_add (bf + 1 + n) 7]
    refine RQ.blk 2 (pc' := 86) (lv' := [(7, .int (nI (bf + 1 + n))), (0, .ref 137), (1, .ref (a + 1)), (2, .int (nI j)), (3, .int (nI n)), (4, .int (nI m)), (5, .int (nI pl)), (6, .int (nI z))]) (st' := [.int (nI z), .int 2, .int (nI (bf + 1 + n + 7)), .ref 141]) (H' := _) (kc' := 0) (ks' := 0) rfl ?_
    refine RQ.brT rfl rfl rfl (cT_ge z 0) ?_
    refine RQ.blk 1 (pc' := 96) (lv' := [(7, .int (nI (bf + 1 + n))), (0, .ref 137), (1, .ref (a + 1)), (2, .int (nI j)), (3, .int (nI n)), (4, .int (nI m)), (5, .int (nI pl)), (6, .int (nI z))]) (st' := [.int (nI z), .int 2, .int (nI (bf + 1 + n + 7)), .ref 141]) (H' := _) (kc' := 0) (ks' := 0) rfl ?_
    refine RQ.call (v := none) (st' := []) rfl rfl rfl rfl rfl rfl rfl (rc_number (a := 140) (p := bf + 1 + n + 7) (n := 2) (v := nI z) (get_set h2) (by decide) (by omega) (by decide)) ?_
    rw [set_set]
    refine RQ.blk 2 (pc' := 101) (lv' := [(7, .int (nI (bf + 1 + n))), (0, .ref 137), (1, .ref (a + 1)), (2, .int (nI j)), (3, .int (nI n)), (4, .int (nI m)), (5, .int (nI pl)), (6, .int (nI z))]) (st' := [.ref 137, .ref 137]) (H' := _) (kc' := 0) (ks' := 0) rfl ?_
    refine RQ.get (ci := 8) rfl ((set_far (by omega)).trans h1) rfl rfl ?_
    refine RQ.blk 3 (pc' := 108) (lv' := [(7, .int (nI (bf + 1 + n))), (0, .ref 137), (1, .ref (a + 1)), (2, .int (nI j)), (3, .int (nI n)), (4, .int (nI m)), (5, .int (nI pl)), (6, .int (nI z))]) (st' := [.int (nI n + 10), .int (nI bf), .ref 137]) (H' := _) (kc' := 0) (ks' := 0) rfl ?_
    rw [show (nI n + 10 : Int32) = nI (n + 10) from nI_add n 10]
    refine RQ.blk 1 (pc' := 109) (lv' := [(7, .int (nI (bf + 1 + n))), (0, .ref 137), (1, .ref (a + 1)), (2, .int (nI j)), (3, .int (nI n)), (4, .int (nI m)), (5, .int (nI pl)), (6, .int (nI z))]) (st' := [.int (nI bf + nI (n + 10)), .ref 137]) (H' := _) (kc' := 0) (ks' := 0) rfl ?_
    rw [show (nI bf + nI (n + 10) : Int32) = nI (bf + (n + 10)) from nI_add bf (n + 10)]
    refine RQ.put (ci := 8) rfl ((set_far (by omega)).trans h1) rfl rfl (Nat.le_of_ble_eq_true rfl) ?_
    refine RQ.done (c := 0) (s := 0) rfl rfl rfl rfl ⟨_, rfl, ⟨_, (set_far (by decide)).trans (get_set h2), ?_⟩, ?_, fun a h8 h9 => (set_far h9).trans (set_far h8)⟩
    · refine sl_join ?_ ?_
      · rw [sl_numF_out (by omega), sl_numF_out (by omega), sl_numF_out (by omega), sl_cpy_out (by omega), sl_numF_out (by omega)]
      · rw [Nat.zero_add, show n + 10 = 1 + (n + (4 + (3 + 2))) by omega]
        show _ = [(sl g j n).length] ++ (sl g j n ++ (beB 4 m ++ (beB 3 pl ++ beB 2 z)))
        rw [sl_length]
        refine sl_join ?_ (sl_join ?_ (sl_join ?_ (sl_join ?_ ?_)))
        · rw [sl_numF_out (by omega), sl_numF_out (by omega), sl_numF_out (by omega), sl_cpy_out (by omega), sl_numF (by omega) (by omega), beB1 (by omega)]
        · rw [sl_numF_out (by omega), sl_numF_out (by omega), sl_numF_out (by omega), sl_cpy]
        · rw [sl_numF_out (by omega), sl_numF_out (by omega), sl_numF (by omega) (by omega)]
        · rw [sl_numF_out (by omega), sl_numF (by omega) (by omega)]
        · rw [show bf + 1 + n + 4 + 3 = bf + 1 + n + 7 by omega, sl_numF (by omega) (by omega)]
    · exact get_set ((set_far (by decide)).trans h1)
/-- a record's head -/
def hdF (pg : Nat → Int8) (k n l m : Nat) : Nat → Int8 := numF (numF (numF (numF pg 0 1 (nI k) 1) 1 1 (nI n) 1) 2 2 (nI l) 2) 4 4 (nI m) 4
theorem rc_head {sc : Nat × (Nat → Int32)} {d k n l m mp hv : Nat} {H : aH} {pg : Nat → Int8} (hG : H[190]? = some (kO 4 (logF mp hv))) (h2 : H[191]? = some (kB 2048 pg)) : RC sc (d + 1) mr_152 [.ref 191, .int (nI k), .int (nI n), .int (nI l), .int (nI m)] H (.inl none) (H.set 191 (kB 2048 (hdF pg k n l m))) 0 0 := by
  refine RP.blk 1 (pc' := 1) (lv' := [(0, .ref 191), (1, .int (nI k)), (2, .int (nI n)), (3, .int (nI l)), (4, .int (nI m))]) (st' := [.ref 191]) (H' := _) (kc' := 0) (ks' := 0) rfl ?_
  refine RP.get (ci := 4) rfl hG rfl rfl ?_
  refine RP.blk 3 (pc' := 7) (lv' := [(0, .ref 191), (1, .int (nI k)), (2, .int (nI n)), (3, .int (nI l)), (4, .int (nI m))]) (st' := [.int (nI k), .int 1, .int 0, .ref 192]) (H' := _) (kc' := 0) (ks' := 0) rfl ?_
  refine RP.call (v := none) (st' := []) rfl rfl rfl rfl rfl rfl rfl (rc_number (a := 191) (p := 0) (n := 1) (v := nI k) h2 (by decide) (by decide) (by decide)) ?_
  refine RP.blk 1 (pc' := 11) (lv' := [(0, .ref 191), (1, .int (nI k)), (2, .int (nI n)), (3, .int (nI l)), (4, .int (nI m))]) (st' := [.ref 191]) (H' := _) (kc' := 0) (ks' := 0) rfl ?_
  refine RP.get (ci := 4) rfl ((set_far (by decide)).trans hG) rfl rfl ?_
  refine RP.blk 3 (pc' := 17) (lv' := [(0, .ref 191), (1, .int (nI k)), (2, .int (nI n)), (3, .int (nI l)), (4, .int (nI m))]) (st' := [.int (nI n), .int 1, .int 1, .ref 192]) (H' := _) (kc' := 0) (ks' := 0) rfl ?_
  refine RP.call (v := none) (st' := []) rfl rfl rfl rfl rfl rfl rfl (rc_number (a := 191) (p := 1) (n := 1) (v := nI n) (get_set h2) (by decide) (by decide) (by decide)) ?_
  rw [set_set]
  refine RP.blk 1 (pc' := 21) (lv' := [(0, .ref 191), (1, .int (nI k)), (2, .int (nI n)), (3, .int (nI l)), (4, .int (nI m))]) (st' := [.ref 191]) (H' := _) (kc' := 0) (ks' := 0) rfl ?_
  refine RP.get (ci := 4) rfl ((set_far (by decide)).trans hG) rfl rfl ?_
  refine RP.blk 3 (pc' := 27) (lv' := [(0, .ref 191), (1, .int (nI k)), (2, .int (nI n)), (3, .int (nI l)), (4, .int (nI m))]) (st' := [.int (nI l), .int 2, .int 2, .ref 192]) (H' := _) (kc' := 0) (ks' := 0) rfl ?_
  refine RP.call (v := none) (st' := []) rfl rfl rfl rfl rfl rfl rfl (rc_number (a := 191) (p := 2) (n := 2) (v := nI l) (get_set h2) (by decide) (by decide) (by decide)) ?_
  rw [set_set]
  refine RP.blk 1 (pc' := 31) (lv' := [(0, .ref 191), (1, .int (nI k)), (2, .int (nI n)), (3, .int (nI l)), (4, .int (nI m))]) (st' := [.ref 191]) (H' := _) (kc' := 0) (ks' := 0) rfl ?_
  refine RP.get (ci := 4) rfl ((set_far (by decide)).trans hG) rfl rfl ?_
  refine RP.blk 3 (pc' := 38) (lv' := [(0, .ref 191), (1, .int (nI k)), (2, .int (nI n)), (3, .int (nI l)), (4, .int (nI m))]) (st' := [.int (nI m), .int 4, .int 4, .ref 192]) (H' := _) (kc' := 0) (ks' := 0) rfl ?_
  refine RP.call (v := none) (st' := []) rfl rfl rfl rfl rfl rfl rfl (rc_number (a := 191) (p := 4) (n := 4) (v := nI m) (get_set h2) (by decide) (by decide) (by decide)) ?_
  rw [set_set]
  exact RP.done (c := 0) (s := 0) rfl rfl rfl rfl
theorem hdF_sl {pg : Nat → Int8} {k n l m : Nat} (hk : k < 256) (hn : n < 256) (hl : l < 65536) (hm : m < 2 ^ 31) : sl (hdF pg k n l m) 0 8 = [k, n] ++ (beB 2 l ++ beB 4 m) := by
  unfold hdF
  show _ = [k] ++ ([n] ++ (beB 2 l ++ beB 4 m))
  rw [show (8 : Nat) = 1 + (1 + (2 + 4)) from rfl]
  refine sl_join ?_ (sl_join ?_ (sl_join ?_ ?_))
  · rw [sl_numF_out (by omega), sl_numF_out (by omega), sl_numF_out (by omega), sl_numF (by omega) (by omega), beB1 hk]
  · rw [sl_numF_out (by omega), sl_numF_out (by omega), sl_numF (by omega) (by omega), beB1 hn]
  · rw [sl_numF_out (by omega), sl_numF (by omega) (by omega)]
  · rw [sl_numF (by omega) (by omega)]
theorem hdF_out {pg : Nat → Int8} {k n l m i c : Nat} (h : 8 ≤ i) : sl (hdF pg k n l m) i c = sl pg i c := by
  unfold hdF
  rw [sl_numF_out (by omega), sl_numF_out (by omega), sl_numF_out (by omega), sl_numF_out (by omega)]
/-- how long the record at a is -/
def szR (c : Nat → Int8) (a : Nat) : Nat := 9 + ub (c (a + 1)) + (if ub (c a) = 3 then 0 else beN 0 (sl c (a + 2) 2))
/-- whether it is whole -/
def wholeR (c : Nat → Int8) (a : Nat) : Bool := decide (9 ≤ 2048 - a % 2048) && (decide (1 ≤ ub (c a)) && decide (ub (c a) ≤ 4)) && decide (ub (c (a + 1)) ≤ 41) && (decide (szR c a ≤ 2048 - a % 2048) && decide (ub (c (a + szR c a - 1)) = 90))
theorem beN2_lt {f : Nat → Int8} {i : Nat} : beN 0 (sl f i 2) < 65536 := by
  show (0 * 256 + ub (f i)) * 256 + ub (f (i + 1)) < 65536
  have := ub_lt (f i)
  have := ub_lt (f (i + 1))
  omega
theorem rc_sizeAt {sc : Nat × (Nat → Int32)} {d a mp hv : Nat} {H : aH} {B : Nat} {cf : Nat → Int8} {tf : Nat → Nat} {pq : Option Nat} {bb ov : Nat} (hG : H[190]? = some (kO 4 (logF mp hv))) (hC : ChipAt H B cf tf pq bb ov) (hB : B ≤ 128) (ha : a + 4 ≤ B * 2048) : RC sc (d + 1) mr_187 [.ref 191, .int (nI a)] H (.inl (some (.int (nI (szR cf a))))) H 0 0 := by
  have hub := ub_lt (cf a)
  refine RP.blk 1 (pc' := 1) (lv' := [(0, .ref 191), (1, .int (nI a))]) (st' := [.ref 191]) (H' := _) (kc' := 0) (ks' := 0) rfl ?_
  refine RP.get (ci := 4) rfl hG rfl rfl ?_
  refine RP.blk 1 (pc' := 5) (lv' := [(0, .ref 191), (1, .int (nI a))]) (st' := [.int (nI a), .ref 72]) (H' := _) (kc' := 0) (ks' := 0) rfl ?_
  refine RP.call (v := some (.int (nI (ub (cf a))))) (st' := []) rfl rfl rfl rfl rfl rfl (args_v [.int (nI a)] [] rfl rfl (Nat.le_of_ble_eq_true rfl) rfl hC.1 (Nat.le_of_ble_eq_true rfl)) (rc_cat (i := a) hC.1 rfl hC.2.1 (by omega) (by omega)) ?_
  refine RP.blk 1 (pc' := 9) (lv' := [(0, .ref 191), (1, .int (nI a))]) (st' := [.int 3, .int (nI (ub (cf a)))]) (H' := _) (kc' := 0) (ks' := 0) rfl ?_
  by_cases c1 : ub (cf a) = 3
  · refine RP.brF rfl rfl rfl (cF_ne (ub (cf a)) 3) ?_
    refine RP.blk 5 (pc' := 31) (lv' := [(2, .int 0), (0, .ref 191), (1, .int (nI a))]) (st' := [.ref 191, .int 9]) (H' := _) (kc' := 0) (ks' := 0) rfl ?_
    refine RP.get (ci := 4) rfl hG rfl rfl ?_
    refine RP.blk 3 (pc' := 37) (lv' := [(2, .int 0), (0, .ref 191), (1, .int (nI a))]) (st' := [.int (nI a + 1), .ref 72, .int 9]) (H' := _) (kc' := 0) (ks' := 0) rfl ?_
    rw [show (nI a + 1 : Int32) = nI (a + 1) from nI_add a 1]
    refine RP.call (v := some (.int (nI (ub (cf (a + 1)))))) (st' := [.int 9]) rfl rfl rfl rfl rfl rfl (args_v [.int (nI (a + 1))] [.int 9] rfl rfl (Nat.le_of_ble_eq_true rfl) rfl hC.1 (Nat.le_of_ble_eq_true rfl)) (rc_cat (i := a + 1) hC.1 rfl hC.2.1 (by omega) (by omega)) ?_
    refine RP.blk 1 (pc' := 41) (lv' := [(2, .int 0), (0, .ref 191), (1, .int (nI a))]) (st' := [.int (9 + nI (ub (cf (a + 1))))]) (H' := _) (kc' := 0) (ks' := 0) rfl ?_
    rw [show (9 + nI (ub (cf (a + 1))) : Int32) = nI (9 + (ub (cf (a + 1)))) from nI_add 9 (ub (cf (a + 1)))]
    refine RP.blk 2 (pc' := 43) (lv' := [(2, .int 0), (0, .ref 191), (1, .int (nI a))]) (st' := [.int (nI (9 + (ub (cf (a + 1)))) + 0)]) (H' := _) (kc' := 0) (ks' := 0) rfl ?_
    rw [show (nI (9 + (ub (cf (a + 1)))) + 0 : Int32) = nI (9 + (ub (cf (a + 1))) + 0) from nI_add (9 + (ub (cf (a + 1)))) 0]
    rw [show szR cf a = 9 + ub (cf (a + 1)) + 0 by unfold szR; rw [if_pos c1]]
    exact RP.done (c := 0) (s := 0) rfl rfl rfl rfl
  · refine RP.brT rfl rfl rfl (cT_ne (ub (cf a)) 3) ?_
    refine RP.blk 1 (pc' := 17) (lv' := [(0, .ref 191), (1, .int (nI a))]) (st' := [.ref 191]) (H' := _) (kc' := 0) (ks' := 0) rfl ?_
    refine RP.get (ci := 4) rfl hG rfl rfl ?_
    refine RP.blk 3 (pc' := 23) (lv' := [(0, .ref 191), (1, .int (nI a))]) (st' := [.int (nI a + 2), .ref 72]) (H' := _) (kc' := 0) (ks' := 0) rfl ?_
    rw [show (nI a + 2 : Int32) = nI (a + 2) from nI_add a 2]
    refine RP.blk 1 (pc' := 24) (lv' := [(0, .ref 191), (1, .int (nI a))]) (st' := [.int 2, .int (nI (a + 2)), .ref 72]) (H' := _) (kc' := 0) (ks' := 0) rfl ?_
    refine RP.call (v := some (.int (numI cf (a + 2) 2 0))) (st' := []) rfl rfl rfl rfl rfl rfl (args_v [.int 2, .int (nI (a + 2))] [] rfl rfl (Nat.le_of_ble_eq_true rfl) rfl hC.1 (Nat.le_of_ble_eq_true rfl)) (rc_cnum (i := a + 2) (k := 2) hC.1 rfl hC.2.1 (by omega) (by omega)) ?_
    rw [show numI cf (a + 2) 2 0 = nI (beN 0 (sl cf (a + 2) 2)) by rw [show (0 : Int32) = nI 0 from rfl, numI_be _ _ _ (by have := beN2_lt (f := cf) (i := a + 2); omega)]]
    refine RP.blk 3 (pc' := 31) (lv' := [(2, .int (nI (beN 0 (sl cf (a + 2) 2)))), (0, .ref 191), (1, .int (nI a))]) (st' := [.ref 191, .int 9]) (H' := _) (kc' := 0) (ks' := 0) rfl ?_
    refine RP.get (ci := 4) rfl hG rfl rfl ?_
    refine RP.blk 3 (pc' := 37) (lv' := [(2, .int (nI (beN 0 (sl cf (a + 2) 2)))), (0, .ref 191), (1, .int (nI a))]) (st' := [.int (nI a + 1), .ref 72, .int 9]) (H' := _) (kc' := 0) (ks' := 0) rfl ?_
    rw [show (nI a + 1 : Int32) = nI (a + 1) from nI_add a 1]
    refine RP.call (v := some (.int (nI (ub (cf (a + 1)))))) (st' := [.int 9]) rfl rfl rfl rfl rfl rfl (args_v [.int (nI (a + 1))] [.int 9] rfl rfl (Nat.le_of_ble_eq_true rfl) rfl hC.1 (Nat.le_of_ble_eq_true rfl)) (rc_cat (i := a + 1) hC.1 rfl hC.2.1 (by omega) (by omega)) ?_
    refine RP.blk 1 (pc' := 41) (lv' := [(2, .int (nI (beN 0 (sl cf (a + 2) 2)))), (0, .ref 191), (1, .int (nI a))]) (st' := [.int (9 + nI (ub (cf (a + 1))))]) (H' := _) (kc' := 0) (ks' := 0) rfl ?_
    rw [show (9 + nI (ub (cf (a + 1))) : Int32) = nI (9 + (ub (cf (a + 1)))) from nI_add 9 (ub (cf (a + 1)))]
    refine RP.blk 2 (pc' := 43) (lv' := [(2, .int (nI (beN 0 (sl cf (a + 2) 2)))), (0, .ref 191), (1, .int (nI a))]) (st' := [.int (nI (9 + (ub (cf (a + 1)))) + nI (beN 0 (sl cf (a + 2) 2)))]) (H' := _) (kc' := 0) (ks' := 0) rfl ?_
    rw [show (nI (9 + (ub (cf (a + 1)))) + nI (beN 0 (sl cf (a + 2) 2)) : Int32) = nI (9 + (ub (cf (a + 1))) + (beN 0 (sl cf (a + 2) 2))) from nI_add (9 + (ub (cf (a + 1)))) (beN 0 (sl cf (a + 2) 2))]
    rw [show szR cf a = 9 + ub (cf (a + 1)) + beN 0 (sl cf (a + 2) 2) by unfold szR; rw [if_neg c1]]
    exact RP.done (c := 0) (s := 0) rfl rfl rfl rfl
theorem rc_isWhole {sc : Nat × (Nat → Int32)} {d a mp hv : Nat} {H : aH} {B : Nat} {cf : Nat → Int8} {tf : Nat → Nat} {pq : Option Nat} {bb ov : Nat} (hG : H[190]? = some (kO 4 (logF mp hv))) (hC : ChipAt H B cf tf pq bb ov) (hB : B ≤ 128) (ha : a < B * 2048) : RC sc (d + 2) mr_186 [.ref 191, .int (nI a)] H (.inl (some (.int (if wholeR cf a = true then 1 else 0)))) H 0 0 := by
  have hub := ub_lt (cf a)
  have hub1 := ub_lt (cf (a + 1))
  unfold wholeR
  refine RP.blk 1 (pc' := 1) (lv' := [(0, .ref 191), (1, .int (nI a))]) (st' := [.ref 191]) (H' := _) (kc' := 0) (ks' := 0) rfl ?_
  refine RP.get (ci := 4) rfl hG rfl rfl ?_
  refine RP.blk 1 (pc' := 5) (lv' := [(0, .ref 191), (1, .int (nI a))]) (st' := [.int (nI a), .ref 72]) (H' := _) (kc' := 0) (ks' := 0) rfl ?_
  refine RP.call (v := some (.int (nI (ub (cf a))))) (st' := []) rfl rfl rfl rfl rfl rfl (args_v [.int (nI a)] [] rfl rfl (Nat.le_of_ble_eq_true rfl) rfl hC.1 (Nat.le_of_ble_eq_true rfl)) (rc_cat (i := a) hC.1 rfl hC.2.1 (by omega) (by omega)) ?_
  refine RP.blk 5 (pc' := 17) (lv' := [(2, .int (nI (ub (cf a)))), (0, .ref 191), (1, .int (nI a))]) (st' := [.int (nI a - nI a / 2048 * 2048), .int 2048]) (H' := _) (kc' := 0) (ks' := 0) rfl ?_
  rw [show (nI a - nI a / 2048 * 2048 : Int32) = nI (a % 2048) from pk_rem (a := a) (d := 2048) (by omega) (by omega) (by omega)]
  refine RP.blk 1 (pc' := 18) (lv' := [(2, .int (nI (ub (cf a)))), (0, .ref 191), (1, .int (nI a))]) (st' := [.int (2048 - nI (a % 2048))]) (H' := _) (kc' := 0) (ks' := 0) rfl ?_
  rw [show (2048 - nI (a % 2048) : Int32) = nI (2048 - (a % 2048)) from pk_sub (a := 2048) (b := (a % 2048)) (by omega)]
  refine RP.blk 2 (pc' := 20) (lv' := [(3, .int (nI (2048 - (a % 2048)))), (2, .int (nI (ub (cf a)))), (0, .ref 191), (1, .int (nI a))]) (st' := [.int (nI a)]) (H' := _) (kc' := 0) (ks' := 0) rfl ?_
  refine RP.brF rfl rfl rfl (cF_lt a 0) ?_
  refine RP.blk 2 (pc' := 26) (lv' := [(3, .int (nI (2048 - (a % 2048)))), (2, .int (nI (ub (cf a)))), (0, .ref 191), (1, .int (nI a))]) (st' := [.int 9, .int (nI (2048 - (a % 2048)))]) (H' := _) (kc' := 0) (ks' := 0) rfl ?_
  by_cases c2 : 9 ≤ 2048 - a % 2048
  · rw [decide_eq_true c2]
    refine RP.brF rfl rfl rfl (cF_lt (2048 - a % 2048) 9) ?_
    refine RP.blk 2 (pc' := 31) (lv' := [(3, .int (nI (2048 - (a % 2048)))), (2, .int (nI (ub (cf a)))), (0, .ref 191), (1, .int (nI a))]) (st' := [.int 1, .int (nI (ub (cf a)))]) (H' := _) (kc' := 0) (ks' := 0) rfl ?_
    by_cases c3 : 1 ≤ ub (cf a)
    · rw [decide_eq_true c3]
      refine RP.brF rfl rfl rfl (cF_lt (ub (cf a)) 1) ?_
      refine RP.blk 2 (pc' := 36) (lv' := [(3, .int (nI (2048 - (a % 2048)))), (2, .int (nI (ub (cf a)))), (0, .ref 191), (1, .int (nI a))]) (st' := [.int 4, .int (nI (ub (cf a)))]) (H' := _) (kc' := 0) (ks' := 0) rfl ?_
      by_cases c4 : ub (cf a) ≤ 4
      · rw [decide_eq_true c4]
        refine RP.brF rfl rfl rfl (cF_gt (ub (cf a)) 4) ?_
        refine RP.blk 1 (pc' := 40) (lv' := [(3, .int (nI (2048 - (a % 2048)))), (2, .int (nI (ub (cf a)))), (0, .ref 191), (1, .int (nI a))]) (st' := [.ref 191]) (H' := _) (kc' := 0) (ks' := 0) rfl ?_
        refine RP.get (ci := 4) rfl hG rfl rfl ?_
        refine RP.blk 3 (pc' := 46) (lv' := [(3, .int (nI (2048 - (a % 2048)))), (2, .int (nI (ub (cf a)))), (0, .ref 191), (1, .int (nI a))]) (st' := [.int (nI a + 1), .ref 72]) (H' := _) (kc' := 0) (ks' := 0) rfl ?_
        rw [show (nI a + 1 : Int32) = nI (a + 1) from nI_add a 1]
        refine RP.call (v := some (.int (nI (ub (cf (a + 1)))))) (st' := []) rfl rfl rfl rfl rfl rfl (args_v [.int (nI (a + 1))] [] rfl rfl (Nat.le_of_ble_eq_true rfl) rfl hC.1 (Nat.le_of_ble_eq_true rfl)) (rc_cat (i := a + 1) hC.1 rfl hC.2.1 (by omega) (by omega)) ?_
        refine RP.blk 1 (pc' := 51) (lv' := [(3, .int (nI (2048 - (a % 2048)))), (2, .int (nI (ub (cf a)))), (0, .ref 191), (1, .int (nI a))]) (st' := [.int 41, .int (nI (ub (cf (a + 1))))]) (H' := _) (kc' := 0) (ks' := 0) rfl ?_
        by_cases c5 : ub (cf (a + 1)) ≤ 41
        · rw [decide_eq_true c5]
          refine RP.brT rfl rfl rfl (cT_le (ub (cf (a + 1))) 41) ?_
          refine RP.blk 2 (pc' := 58) (lv' := [(3, .int (nI (2048 - (a % 2048)))), (2, .int (nI (ub (cf a)))), (0, .ref 191), (1, .int (nI a))]) (st' := [.int (nI a), .ref 191]) (H' := _) (kc' := 0) (ks' := 0) rfl ?_
          have hsz : szR cf a < 2 ^ 20 := by unfold szR; have := ub_lt (cf (a + 1)); have := beN2_lt (f := cf) (i := a + 2); split <;> omega
          have hsz1 : 1 ≤ szR cf a := by unfold szR; omega
          have hub9 := ub_lt (cf (a + szR cf a - 1))
          refine RP.call (v := some (.int (nI (szR cf a)))) (st' := []) rfl rfl rfl rfl rfl rfl (args_v [.int (nI a)] [] rfl rfl (Nat.le_of_ble_eq_true rfl) rfl hG (Nat.le_of_ble_eq_true rfl)) (rc_sizeAt hG hC hB (by omega)) ?_
          refine RP.blk 3 (pc' := 66) (lv' := [(4, .int (nI (szR cf a))), (3, .int (nI (2048 - (a % 2048)))), (2, .int (nI (ub (cf a)))), (0, .ref 191), (1, .int (nI a))]) (st' := [.int (nI (2048 - (a % 2048))), .int (nI (szR cf a))]) (H' := _) (kc' := 0) (ks' := 0) rfl ?_
          by_cases c6 : szR cf a ≤ 2048 - a % 2048
          · rw [decide_eq_true c6]
            refine RP.brF rfl rfl rfl (cF_gt (szR cf a) (2048 - a % 2048)) ?_
            refine RP.blk 1 (pc' := 70) (lv' := [(4, .int (nI (szR cf a))), (3, .int (nI (2048 - (a % 2048)))), (2, .int (nI (ub (cf a)))), (0, .ref 191), (1, .int (nI a))]) (st' := [.ref 191]) (H' := _) (kc' := 0) (ks' := 0) rfl ?_
            refine RP.get (ci := 4) rfl hG rfl rfl ?_
            refine RP.blk 3 (pc' := 77) (lv' := [(4, .int (nI (szR cf a))), (3, .int (nI (2048 - (a % 2048)))), (2, .int (nI (ub (cf a)))), (0, .ref 191), (1, .int (nI a))]) (st' := [.int (nI a + nI (szR cf a)), .ref 72]) (H' := _) (kc' := 0) (ks' := 0) rfl ?_
            rw [show (nI a + nI (szR cf a) : Int32) = nI (a + (szR cf a)) from nI_add a (szR cf a)]
            refine RP.blk 2 (pc' := 79) (lv' := [(4, .int (nI (szR cf a))), (3, .int (nI (2048 - (a % 2048)))), (2, .int (nI (ub (cf a)))), (0, .ref 191), (1, .int (nI a))]) (st' := [.int (nI (a + (szR cf a)) - 1), .ref 72]) (H' := _) (kc' := 0) (ks' := 0) rfl ?_
            rw [show (nI (a + (szR cf a)) - 1 : Int32) = nI ((a + (szR cf a)) - 1) from pk_sub (a := (a + (szR cf a))) (b := 1) (by omega)]
            refine RP.call (v := some (.int (nI (ub (cf (a + szR cf a - 1)))))) (st' := []) rfl rfl rfl rfl rfl rfl (args_v [.int (nI ((a + (szR cf a)) - 1))] [] rfl rfl (Nat.le_of_ble_eq_true rfl) rfl hC.1 (Nat.le_of_ble_eq_true rfl)) (rc_cat (i := a + szR cf a - 1) hC.1 rfl hC.2.1 (by omega) (by omega)) ?_
            refine RP.blk 1 (pc' := 84) (lv' := [(4, .int (nI (szR cf a))), (3, .int (nI (2048 - (a % 2048)))), (2, .int (nI (ub (cf a)))), (0, .ref 191), (1, .int (nI a))]) (st' := [.int 90, .int (nI (ub (cf (a + szR cf a - 1))))]) (H' := _) (kc' := 0) (ks' := 0) rfl ?_
            by_cases c7 : ub (cf (a + szR cf a - 1)) = 90
            · rw [decide_eq_true c7]
              refine RP.brF rfl rfl rfl (cF_ne (ub (cf (a + szR cf a - 1))) 90) ?_
              refine RP.blk 2 (pc' := 92) (lv' := [(4, .int (nI (szR cf a))), (3, .int (nI (2048 - (a % 2048)))), (2, .int (nI (ub (cf a)))), (0, .ref 191), (1, .int (nI a))]) (st' := [.int 1]) (H' := _) (kc' := 0) (ks' := 0) rfl ?_
              exact RP.done (c := 0) (s := 0) rfl rfl rfl rfl
            · rw [decide_eq_false c7]
              simp only [Bool.false_and, Bool.and_false, Bool.true_and]
              refine RP.brT rfl rfl rfl (cT_ne (ub (cf (a + szR cf a - 1))) 90) ?_
              refine RP.blk 1 (pc' := 92) (lv' := [(4, .int (nI (szR cf a))), (3, .int (nI (2048 - (a % 2048)))), (2, .int (nI (ub (cf a)))), (0, .ref 191), (1, .int (nI a))]) (st' := [.int 0]) (H' := _) (kc' := 0) (ks' := 0) rfl ?_
              exact RP.done (c := 0) (s := 0) rfl rfl rfl rfl
          · rw [decide_eq_false c6]
            simp only [Bool.false_and, Bool.and_false, Bool.true_and]
            refine RP.brT rfl rfl rfl (cT_gt (szR cf a) (2048 - a % 2048)) ?_
            refine RP.blk 1 (pc' := 92) (lv' := [(4, .int (nI (szR cf a))), (3, .int (nI (2048 - (a % 2048)))), (2, .int (nI (ub (cf a)))), (0, .ref 191), (1, .int (nI a))]) (st' := [.int 0]) (H' := _) (kc' := 0) (ks' := 0) rfl ?_
            exact RP.done (c := 0) (s := 0) rfl rfl rfl rfl
        · rw [decide_eq_false c5]
          simp only [Bool.false_and, Bool.and_false, Bool.true_and]
          refine RP.brF rfl rfl rfl (cF_le (ub (cf (a + 1))) 41) ?_
          refine RP.blk 1 (pc' := 55) (lv' := [(3, .int (nI (2048 - (a % 2048)))), (2, .int (nI (ub (cf a)))), (0, .ref 191), (1, .int (nI a))]) (st' := [.int 0]) (H' := _) (kc' := 0) (ks' := 0) rfl ?_
          exact RP.done (c := 0) (s := 0) rfl rfl rfl rfl
      · rw [decide_eq_false c4]
        simp only [Bool.false_and, Bool.and_false, Bool.true_and]
        refine RP.brT rfl rfl rfl (cT_gt (ub (cf a)) 4) ?_
        refine RP.blk 1 (pc' := 55) (lv' := [(3, .int (nI (2048 - (a % 2048)))), (2, .int (nI (ub (cf a)))), (0, .ref 191), (1, .int (nI a))]) (st' := [.int 0]) (H' := _) (kc' := 0) (ks' := 0) rfl ?_
        exact RP.done (c := 0) (s := 0) rfl rfl rfl rfl
    · rw [decide_eq_false c3]
      simp only [Bool.false_and, Bool.and_false, Bool.true_and]
      refine RP.brT rfl rfl rfl (cT_lt (ub (cf a)) 1) ?_
      refine RP.blk 1 (pc' := 55) (lv' := [(3, .int (nI (2048 - (a % 2048)))), (2, .int (nI (ub (cf a)))), (0, .ref 191), (1, .int (nI a))]) (st' := [.int 0]) (H' := _) (kc' := 0) (ks' := 0) rfl ?_
      exact RP.done (c := 0) (s := 0) rfl rfl rfl rfl
  · rw [decide_eq_false c2]
    simp only [Bool.false_and, Bool.and_false, Bool.true_and]
    refine RP.brT rfl rfl rfl (cT_lt (2048 - a % 2048) 9) ?_
    refine RP.blk 1 (pc' := 55) (lv' := [(3, .int (nI (2048 - (a % 2048)))), (2, .int (nI (ub (cf a)))), (0, .ref 191), (1, .int (nI a))]) (st' := [.int 0]) (H' := _) (kc' := 0) (ks' := 0) rfl ?_
    exact RP.done (c := 0) (s := 0) rfl rfl rfl rfl
