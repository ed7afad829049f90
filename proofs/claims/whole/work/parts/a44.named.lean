/-! ===== which names are allowed; reference; written by wip/gen/named.py ===== -/
/-- no byte among n from i on is a slash -/
def noSl (g : Nat → Int8) (i n : Nat) : Prop := ∀ k, k < n → ¬ (g (i + k)).toInt32 = 47
theorem rc_named1 {sc : Nat × (Nat → Int32)} {d i n M : Nat} {H : aH} {fa li dn cw cl tp rs pr ve us pi hu : Int32} {ba bo : Nat} {g : Nat → Int8} (hm : H[195]? = some (kO 12 (mfs fa li dn cw cl tp rs pr ve us pi hu ba bo))) (hg : H[196]? = some (kB M g)) (hM : M < 2 ^ 30) (hin : i + n ≤ M) (hn1 : 1 ≤ n) (hn : n ≤ 30) (hs : noSl g i n) : RC sc d mr_305 [.ref 196, .int (nI i), .int (nI n)] H (.inl (some (.int 1))) H 0 0 := by
  refine RC.of ?_
  refine RQ.blk 2 (pc' := 2) (lv' := [(0, .ref 196), (1, .int (nI i)), (2, .int (nI n))]) (st' := [.int 1, .int (nI n)]) (H' := _) (kc' := 0) (ks' := 0) rfl ?_
  refine RQ.brF rfl rfl rfl (cF_lt n 1) ?_
  refine RQ.blk 2 (pc' := 8) (lv' := [(0, .ref 196), (1, .int (nI i)), (2, .int (nI n))]) (st' := [.int 30, .int (nI n)]) (H' := _) (kc' := 0) (ks' := 0) rfl ?_
  refine RQ.brT rfl rfl rfl (cT_le n 30) ?_
  refine RQ.blk 2 (pc' := 15) (lv' := [(3, .int (nI i)), (0, .ref 196), (1, .int (nI i)), (2, .int (nI n))]) (st' := []) (H' := _) (kc' := 0) (ks' := 0) rfl ?_
  refine RQ.while (S := Nat) (pc := 15) (fun k H' => k ≤ n ∧ (∀ j, j < k → ¬ (g (i + j)).toInt32 = 47) ∧ H' = H) (fun k => [(3, .int (nI (i + k))), (0, .ref 196), (1, .int (nI i)), (2, .int (nI n))]) (fun k => n - k) ?_ 0 H ⟨Nat.zero_le _, fun j hj => absurd hj (Nat.not_lt_zero j), rfl⟩
  rintro k H2 ⟨hk, hb, eH⟩ ih
  rw [eH]
  by_cases hkn : k < n
  ·
    refine RQ.blk 4 (pc' := 19) (lv' := [(3, .int (nI (i + k))), (0, .ref 196), (1, .int (nI i)), (2, .int (nI n))]) (st' := [.int (nI i + nI n), .int (nI (i + k))]) (H' := _) (kc' := 0) (ks' := 0) rfl ?_
    rw [show (nI i + nI n : Int32) = nI (i + n) from nI_add i n]
    refine RQ.brF rfl rfl rfl (cF_ge (i + k) (i + n)) ?_
    refine RQ.blk 1 (pc' := 23) (lv' := [(3, .int (nI (i + k))), (0, .ref 196), (1, .int (nI i)), (2, .int (nI n))]) (st' := [.ref 196]) (H' := _) (kc' := 0) (ks' := 0) rfl ?_
    refine RQ.get (ci := 12) rfl hm rfl rfl ?_
    refine RQ.blk 1 (pc' := 27) (lv' := [(3, .int (nI (i + k))), (0, .ref 196), (1, .int (nI i)), (2, .int (nI n))]) (st' := [.int (nI (i + k)), .ref 197]) (H' := _) (kc' := 0) (ks' := 0) rfl ?_
    refine RQ.baldN (j := i + k) rfl hg (by omega) (by omega) ?_
    refine RQ.blk 1 (pc' := 30) (lv' := [(3, .int (nI (i + k))), (0, .ref 196), (1, .int (nI i)), (2, .int (nI n))]) (st' := [.int 47, .int ((g (i + k)).toInt32)]) (H' := _) (kc' := 0) (ks' := 0) rfl ?_
    by_cases c47 : (g (i + k)).toInt32 = 47
    · exact absurd c47 (hs k hkn)
    · refine RQ.brT rfl rfl rfl (bnt c47) ?_
      refine RQ.blk 1 (pc' := 38) (lv' := [(3, .int (nI (i + k) + 1)), (0, .ref 196), (1, .int (nI i)), (2, .int (nI n))]) (st' := []) (H' := _) (kc' := 0) (ks' := 0) rfl ?_
      rw [show (nI (i + k) + 1 : Int32) = nI (i + k + 1) from nI_add (i + k) 1]
      refine RQ.blk 1 (pc' := 15) (lv' := [(3, .int (nI (i + k + 1))), (0, .ref 196), (1, .int (nI i)), (2, .int (nI n))]) (st' := []) (H' := _) (kc' := 0) (ks' := 0) rfl ?_
      refine RQ.pick (a := [(3, .int (nI (i + k + 1))), (0, .ref 196), (1, .int (nI i)), (2, .int (nI n))]) [0, 1, 2, 3] [3, 0, 1, 2] rfl rfl (by decide) ?_
      exact ih (k + 1) _ ⟨by omega, fun j hj => (Nat.lt_succ_iff_lt_or_eq.mp hj).elim (hb j) (fun e => by rw [e]; exact c47), rfl⟩ (by omega)
  ·
    refine RQ.blk 4 (pc' := 19) (lv' := [(3, .int (nI (i + k))), (0, .ref 196), (1, .int (nI i)), (2, .int (nI n))]) (st' := [.int (nI i + nI n), .int (nI (i + k))]) (H' := _) (kc' := 0) (ks' := 0) rfl ?_
    rw [show (nI i + nI n : Int32) = nI (i + n) from nI_add i n]
    refine RQ.brT rfl rfl rfl (cT_ge (i + k) (i + n)) ?_
    refine RQ.blk 1 (pc' := 42) (lv' := [(3, .int (nI (i + k))), (0, .ref 196), (1, .int (nI i)), (2, .int (nI n))]) (st' := [.int 1]) (H' := _) (kc' := 0) (ks' := 0) rfl ?_
    exact RQ.done (c := 0) (s := 0) rfl rfl rfl rfl rfl
theorem rc_named0 {sc : Nat × (Nat → Int32)} {d i n M : Nat} {H : aH} {fa li dn cw cl tp rs pr ve us pi hu : Int32} {ba bo : Nat} {g : Nat → Int8} (hm : H[195]? = some (kO 12 (mfs fa li dn cw cl tp rs pr ve us pi hu ba bo))) (hg : H[196]? = some (kB M g)) (hM : M < 2 ^ 30) (hin : i + n ≤ M) (hn1 : 1 ≤ n) (hn : n ≤ 30) (hs : ¬ noSl g i n) : RC sc d mr_305 [.ref 196, .int (nI i), .int (nI n)] H (.inl (some (.int 0))) H 0 0 := by
  refine RC.of ?_
  refine RQ.blk 2 (pc' := 2) (lv' := [(0, .ref 196), (1, .int (nI i)), (2, .int (nI n))]) (st' := [.int 1, .int (nI n)]) (H' := _) (kc' := 0) (ks' := 0) rfl ?_
  refine RQ.brF rfl rfl rfl (cF_lt n 1) ?_
  refine RQ.blk 2 (pc' := 8) (lv' := [(0, .ref 196), (1, .int (nI i)), (2, .int (nI n))]) (st' := [.int 30, .int (nI n)]) (H' := _) (kc' := 0) (ks' := 0) rfl ?_
  refine RQ.brT rfl rfl rfl (cT_le n 30) ?_
  refine RQ.blk 2 (pc' := 15) (lv' := [(3, .int (nI i)), (0, .ref 196), (1, .int (nI i)), (2, .int (nI n))]) (st' := []) (H' := _) (kc' := 0) (ks' := 0) rfl ?_
  refine RQ.while (S := Nat) (pc := 15) (fun k H' => k ≤ n ∧ (∀ j, j < k → ¬ (g (i + j)).toInt32 = 47) ∧ H' = H) (fun k => [(3, .int (nI (i + k))), (0, .ref 196), (1, .int (nI i)), (2, .int (nI n))]) (fun k => n - k) ?_ 0 H ⟨Nat.zero_le _, fun j hj => absurd hj (Nat.not_lt_zero j), rfl⟩
  rintro k H2 ⟨hk, hb, eH⟩ ih
  rw [eH]
  by_cases hkn : k < n
  ·
    refine RQ.blk 4 (pc' := 19) (lv' := [(3, .int (nI (i + k))), (0, .ref 196), (1, .int (nI i)), (2, .int (nI n))]) (st' := [.int (nI i + nI n), .int (nI (i + k))]) (H' := _) (kc' := 0) (ks' := 0) rfl ?_
    rw [show (nI i + nI n : Int32) = nI (i + n) from nI_add i n]
    refine RQ.brF rfl rfl rfl (cF_ge (i + k) (i + n)) ?_
    refine RQ.blk 1 (pc' := 23) (lv' := [(3, .int (nI (i + k))), (0, .ref 196), (1, .int (nI i)), (2, .int (nI n))]) (st' := [.ref 196]) (H' := _) (kc' := 0) (ks' := 0) rfl ?_
    refine RQ.get (ci := 12) rfl hm rfl rfl ?_
    refine RQ.blk 1 (pc' := 27) (lv' := [(3, .int (nI (i + k))), (0, .ref 196), (1, .int (nI i)), (2, .int (nI n))]) (st' := [.int (nI (i + k)), .ref 197]) (H' := _) (kc' := 0) (ks' := 0) rfl ?_
    refine RQ.baldN (j := i + k) rfl hg (by omega) (by omega) ?_
    refine RQ.blk 1 (pc' := 30) (lv' := [(3, .int (nI (i + k))), (0, .ref 196), (1, .int (nI i)), (2, .int (nI n))]) (st' := [.int 47, .int ((g (i + k)).toInt32)]) (H' := _) (kc' := 0) (ks' := 0) rfl ?_
    by_cases c47 : (g (i + k)).toInt32 = 47
    · refine RQ.brF rfl rfl rfl (bnf c47) ?_
      refine RQ.blk 1 (pc' := 34) (lv' := [(3, .int (nI (i + k))), (0, .ref 196), (1, .int (nI i)), (2, .int (nI n))]) (st' := [.int 0]) (H' := _) (kc' := 0) (ks' := 0) rfl ?_
      exact RQ.done (c := 0) (s := 0) rfl rfl rfl rfl rfl
    · refine RQ.brT rfl rfl rfl (bnt c47) ?_
      refine RQ.blk 1 (pc' := 38) (lv' := [(3, .int (nI (i + k) + 1)), (0, .ref 196), (1, .int (nI i)), (2, .int (nI n))]) (st' := []) (H' := _) (kc' := 0) (ks' := 0) rfl ?_
      rw [show (nI (i + k) + 1 : Int32) = nI (i + k + 1) from nI_add (i + k) 1]
      refine RQ.blk 1 (pc' := 15) (lv' := [(3, .int (nI (i + k + 1))), (0, .ref 196), (1, .int (nI i)), (2, .int (nI n))]) (st' := []) (H' := _) (kc' := 0) (ks' := 0) rfl ?_
      refine RQ.pick (a := [(3, .int (nI (i + k + 1))), (0, .ref 196), (1, .int (nI i)), (2, .int (nI n))]) [0, 1, 2, 3] [3, 0, 1, 2] rfl rfl (by decide) ?_
      exact ih (k + 1) _ ⟨by omega, fun j hj => (Nat.lt_succ_iff_lt_or_eq.mp hj).elim (hb j) (fun e => by rw [e]; exact c47), rfl⟩ (by omega)
  · exact absurd (fun j hj => hb j (by omega)) hs
theorem rc_namedL {sc : Nat × (Nat → Int32)} {d : Nat} {H : aH} {i x : Int32} (hx : ¬ (1 ≤ x ∧ x ≤ 30)) : RC sc d mr_305 [.ref 196, .int i, .int x] H (.inl (some (.int 0))) H 0 0 := by
  refine RC.of ?_
  refine RQ.blk 2 (pc' := 2) (lv' := [(0, .ref 196), (1, .int i), (2, .int x)]) (st' := [.int 1, .int x]) (H' := _) (kc' := 0) (ks' := 0) rfl ?_
  by_cases ca : x < 1
  · refine RQ.brT rfl rfl rfl (decide_eq_true ca) ?_
    refine RQ.blk 1 (pc' := 12) (lv' := [(0, .ref 196), (1, .int i), (2, .int x)]) (st' := [.int 0]) (H' := _) (kc' := 0) (ks' := 0) rfl ?_
    exact RQ.done (c := 0) (s := 0) rfl rfl rfl rfl rfl
  · refine RQ.brF rfl rfl rfl (decide_eq_false ca) ?_
    refine RQ.blk 2 (pc' := 8) (lv' := [(0, .ref 196), (1, .int i), (2, .int x)]) (st' := [.int 30, .int x]) (H' := _) (kc' := 0) (ks' := 0) rfl ?_
    have hlt : ¬ x ≤ 30 := fun e => hx ⟨Int32.not_lt.mp ca, e⟩
    refine RQ.brF rfl rfl rfl (decide_eq_false hlt) ?_
    refine RQ.blk 1 (pc' := 12) (lv' := [(0, .ref 196), (1, .int i), (2, .int x)]) (st' := [.int 0]) (H' := _) (kc' := 0) (ks' := 0) rfl ?_
    exact RQ.done (c := 0) (s := 0) rfl rfl rfl rfl rfl
