/-! ===== the reference: what a transaction writes; written by wip/gen/mrows.py ===== -/
/-- rows and bytes of each transaction; where each row's key lies, how long it and its value are; the bytes -/
def MRAt (H : aH) (ro fi wk wn : Nat → Nat) (wz : Nat → Option Nat) (wb : Nat → Int8) : Prop := H[207]? = some (kI 8 (fun j => nI (ro j))) ∧ H[208]? = some (kI 8 (fun j => nI (fi j))) ∧ H[209]? = some (kI 256 (fun j => nI (wk j))) ∧ H[210]? = some (kI 256 (fun j => nI (wn j))) ∧ H[211]? = some (kI 256 (fun j => lI (wz j))) ∧ H[212]? = some (kB 32000 wb)
/-- in bounds -/
def MROk (ro fi wk wn : Nat → Nat) (wz : Nat → Option Nat) (t : Nat) : Prop := t < 8 ∧ ro t ≤ 32 ∧ fi t ≤ 4000 ∧ ∀ i, i < ro t → 4000 * t ≤ wk (32 * t + i) ∧ wk (32 * t + i) + wn (32 * t + i) + (wz (32 * t + i)).getD 0 ≤ 4000 * t + fi t
/-- bytes moved to the left by n, from i on, before k -/
def shB (f : Nat → Int8) (n i k j : Nat) : Int8 := if i ≤ j ∧ j < k then f (j + n) else f j
theorem shB_0 {f : Nat → Int8} {n i : Nat} : shB f n i i = f := by
  funext j
  exact if_neg (by omega)
theorem shB_up {f : Nat → Int8} {n i k : Nat} (h : i ≤ k) : va_up (shB f n i k) k (f (k + n)) = shB f n i (k + 1) := by
  funext j
  unfold va_up shB
  by_cases h1 : j = k
  · rw [if_pos h1, if_pos (by omega), h1]
  · rw [if_neg h1]
    by_cases h2 : i ≤ j ∧ j < k
    · rw [if_pos h2, if_pos (by omega)]
    · rw [if_neg h2, if_neg (by omega)]
theorem shB_nx {f : Nat → Int8} {n i k : Nat} : shB f n i k (k + n) = f (k + n) := if_neg (by omega)
theorem rc_mrowBytes {sc : Nat × (Nat → Int32)} {r : Nat} {d : Nat} {H : aH} {ro fi wk wn : Nat → Nat} {wz : Nat → Option Nat} {wb : Nat → Int8} {fa li dn cw cl tp rs pr ve us pi hu : Int32} {ba bo : Nat} (hm : H[195]? = some (kO 12 (mfs fa li dn cw cl tp rs pr ve us pi hu ba bo))) (h : MRAt H ro fi wk wn wz wb) (hr : r < 256) (hw : (wz r).getD 0 < 2 ^ 30) : RC sc d mr_286 [.ref 196, .int (nI r)] H (.inl (some (.int (nI (wn r + (wz r).getD 0))))) H 0 0 := by
  refine RP.blk 1 (pc' := 1) (lv' := [(0, .ref 196), (1, .int (nI r))]) (st' := [.ref 196]) (H' := _) (kc' := 0) (ks' := 0) rfl ?_
  refine RP.get (ci := 12) rfl hm rfl rfl ?_
  refine RP.blk 1 (pc' := 5) (lv' := [(0, .ref 196), (1, .int (nI r))]) (st' := [.int (nI r), .ref 211]) (H' := _) (kc' := 0) (ks' := 0) rfl ?_
  refine RP.ialdN (j := r) rfl h.2.2.2.1 (by omega) (by decide) ?_
  refine RP.blk 1 (pc' := 7) (lv' := [(0, .ref 196), (1, .int (nI r))]) (st' := [.ref 196, .int (nI (wn r))]) (H' := _) (kc' := 0) (ks' := 0) rfl ?_
  refine RP.get (ci := 12) rfl hm rfl rfl ?_
  refine RP.blk 1 (pc' := 11) (lv' := [(0, .ref 196), (1, .int (nI r))]) (st' := [.int (nI r), .ref 212, .int (nI (wn r))]) (H' := _) (kc' := 0) (ks' := 0) rfl ?_
  refine RP.ialdN (j := r) rfl h.2.2.2.2.1 (by omega) (by decide) ?_
  cases hz : wz r with
  | none =>
    refine RP.brF rfl rfl rfl (by decide) ?_
    refine RP.blk 3 (pc' := 26) (lv' := [(0, .ref 196), (1, .int (nI r))]) (st' := [.int (nI (wn r) + 0)]) (H' := _) (kc' := 0) (ks' := 0) rfl ?_
    rw [show (nI (wn r) + 0 : Int32) = nI (wn r + 0) from nI_add (wn r) 0]
    exact RP.done (c := 0) (s := 0) rfl rfl rfl rfl
  | some z =>
    rw [hz] at hw
    have hw2 : z < 2 ^ 31 := by have : z < 2 ^ 30 := hw; omega
    refine RP.brT rfl rfl rfl (cT_ge z 0 (by omega) hw2) ?_
    refine RP.blk 1 (pc' := 20) (lv' := [(0, .ref 196), (1, .int (nI r))]) (st' := [.ref 196, .int (nI (wn r))]) (H' := _) (kc' := 0) (ks' := 0) rfl ?_
    refine RP.get (ci := 12) rfl hm rfl rfl ?_
    refine RP.blk 1 (pc' := 24) (lv' := [(0, .ref 196), (1, .int (nI r))]) (st' := [.int (nI r), .ref 212, .int (nI (wn r))]) (H' := _) (kc' := 0) (ks' := 0) rfl ?_
    refine RP.ialdN (j := r) rfl h.2.2.2.2.1 (by omega) (by decide) ?_
    rw [hz]
    refine RP.blk 1 (pc' := 26) (lv' := [(0, .ref 196), (1, .int (nI r))]) (st' := [.int (nI (wn r) + nI z)]) (H' := _) (kc' := 0) (ks' := 0) rfl ?_
    rw [show (nI (wn r) + nI z : Int32) = nI (wn r + z) from nI_add (wn r) z]
    exact RP.done (c := 0) (s := 0) rfl rfl rfl rfl
theorem ri_mrowOf {sc : Nat × (Nat → Int32)} {a na j m : Nat} {d t : Nat} {H : aH} {ro fi wk wn : Nat → Nat} {wz : Nat → Option Nat} {wb : Nat → Int8} {fa li dn cw cl tp rs pr ve us pi hu : Int32} {ba bo : Nat} {g : Nat → Int8} (hm : H[195]? = some (kO 12 (mfs fa li dn cw cl tp rs pr ve us pi hu ba bo))) (h : MRAt H ro fi wk wn wz wb) (hk : MROk ro fi wk wn wz t) (h1 : H[a]? = some (kB na g)) (hna : na < 2 ^ 30) (hj : j + m ≤ na) : RI sc (d + 1) mr_285 [.ref 196, .int (nI t), .ref (a + 1), .int (nI j), .int (nI m)] H (fun x H' => H' = H ∧ ((∃ i, i < ro t ∧ x = nI (32 * t + i) ∧ sl wb (wk (32 * t + i)) (wn (32 * t + i)) = sl g j m ∧ ∀ q, q < i → ¬ sl wb (wk (32 * t + q)) (wn (32 * t + q)) = sl g j m) ∨ (x = -1 ∧ ∀ q, q < ro t → ¬ sl wb (wk (32 * t + q)) (wn (32 * t + q)) = sl g j m))) := by
  obtain ⟨ht, hro, hfi, hrow⟩ := hk
  refine RI.of ?_
  refine RQ.blk 3 (pc' := 4) (lv' := [(0, .ref 196), (1, .int (nI t)), (2, .ref (a + 1)), (3, .int (nI j)), (4, .int (nI m))]) (st' := [.int (32 * nI t)]) (H' := _) (kc' := 0) (ks' := 0) rfl ?_
  rw [show (32 * nI t : Int32) = nI (32 * t) from pk_mul 32 t]
  refine RQ.blk 1 (pc' := 6) (lv' := [(5, .int (nI (32 * t))), (0, .ref 196), (1, .int (nI t)), (2, .ref (a + 1)), (3, .int (nI j)), (4, .int (nI m))]) (st' := []) (H' := _) (kc' := 0) (ks' := 0) rfl ?_
  refine RQ.loopQ (pc := 6) (fun i => ∀ q, q < i → ¬ sl wb (wk (32 * t + q)) (wn (32 * t + q)) = sl g j m) (fun i => [(5, .int (nI (32 * t + i))), (0, .ref 196), (1, .int (nI t)), (2, .ref (a + 1)), (3, .int (nI j)), (4, .int (nI m))]) (ro t) (fun i hi h2 ih => ?_) (fun h2 => ?_) (fun s hs => absurd hs (Nat.not_lt_zero _))
  · have hri := hrow i hi
    have nx : ¬ sl wb (wk (32 * t + i)) (wn (32 * t + i)) = sl g j m → _ := fun e => ih (fun s hs => (Nat.lt_succ_iff_lt_or_eq.mp hs).elim (h2 s) (fun e2 => by rw [e2]; exact e))
    refine RQ.blk 4 (pc' := 12) (lv' := [(5, .int (nI (32 * t + i))), (0, .ref 196), (1, .int (nI t)), (2, .ref (a + 1)), (3, .int (nI j)), (4, .int (nI m))]) (st' := [.int (32 * nI t), .int (nI (32 * t + i))]) (H' := _) (kc' := 0) (ks' := 0) rfl ?_
    rw [show (32 * nI t : Int32) = nI (32 * t) from pk_mul 32 t]
    refine RQ.blk 1 (pc' := 13) (lv' := [(5, .int (nI (32 * t + i))), (0, .ref 196), (1, .int (nI t)), (2, .ref (a + 1)), (3, .int (nI j)), (4, .int (nI m))]) (st' := [.ref 196, .int (nI (32 * t)), .int (nI (32 * t + i))]) (H' := _) (kc' := 0) (ks' := 0) rfl ?_
    refine RQ.get (ci := 12) rfl hm rfl rfl ?_
    refine RQ.blk 1 (pc' := 17) (lv' := [(5, .int (nI (32 * t + i))), (0, .ref 196), (1, .int (nI t)), (2, .ref (a + 1)), (3, .int (nI j)), (4, .int (nI m))]) (st' := [.int (nI t), .ref 208, .int (nI (32 * t)), .int (nI (32 * t + i))]) (H' := _) (kc' := 0) (ks' := 0) rfl ?_
    refine RQ.ialdN (j := t) rfl h.1 (by omega) (by decide) ?_
    refine RQ.blk 1 (pc' := 19) (lv' := [(5, .int (nI (32 * t + i))), (0, .ref 196), (1, .int (nI t)), (2, .ref (a + 1)), (3, .int (nI j)), (4, .int (nI m))]) (st' := [.int (nI (32 * t) + nI (ro t)), .int (nI (32 * t + i))]) (H' := _) (kc' := 0) (ks' := 0) rfl ?_
    rw [show (nI (32 * t) + nI (ro t) : Int32) = nI (32 * t + (ro t)) from nI_add (32 * t) (ro t)]
    refine RQ.brF rfl rfl rfl (cF_ge (32 * t + i) (32 * t + ro t)) ?_
    refine RQ.blk 2 (pc' := 24) (lv' := [(5, .int (nI (32 * t + i))), (0, .ref 196), (1, .int (nI t)), (2, .ref (a + 1)), (3, .int (nI j)), (4, .int (nI m))]) (st' := [.ref 196, .ref 196]) (H' := _) (kc' := 0) (ks' := 0) rfl ?_
    refine RQ.get (ci := 12) rfl hm rfl rfl ?_
    refine RQ.blk 1 (pc' := 28) (lv' := [(5, .int (nI (32 * t + i))), (0, .ref 196), (1, .int (nI t)), (2, .ref (a + 1)), (3, .int (nI j)), (4, .int (nI m))]) (st' := [.ref 196, .ref 213, .ref 196]) (H' := _) (kc' := 0) (ks' := 0) rfl ?_
    refine RQ.get (ci := 12) rfl hm rfl rfl ?_
    refine RQ.blk 1 (pc' := 33) (lv' := [(5, .int (nI (32 * t + i))), (0, .ref 196), (1, .int (nI t)), (2, .ref (a + 1)), (3, .int (nI j)), (4, .int (nI m))]) (st' := [.int (nI (32 * t + i)), .ref 210, .ref 213, .ref 196]) (H' := _) (kc' := 0) (ks' := 0) rfl ?_
    refine RQ.ialdN (j := 32 * t + i) rfl h.2.2.1 (by omega) (by decide) ?_
    refine RQ.blk 1 (pc' := 35) (lv' := [(5, .int (nI (32 * t + i))), (0, .ref 196), (1, .int (nI t)), (2, .ref (a + 1)), (3, .int (nI j)), (4, .int (nI m))]) (st' := [.ref 196, .int (nI (wk (32 * t + i))), .ref 213, .ref 196]) (H' := _) (kc' := 0) (ks' := 0) rfl ?_
    refine RQ.get (ci := 12) rfl hm rfl rfl ?_
    refine RQ.blk 1 (pc' := 40) (lv' := [(5, .int (nI (32 * t + i))), (0, .ref 196), (1, .int (nI t)), (2, .ref (a + 1)), (3, .int (nI j)), (4, .int (nI m))]) (st' := [.int (nI (32 * t + i)), .ref 211, .int (nI (wk (32 * t + i))), .ref 213, .ref 196]) (H' := _) (kc' := 0) (ks' := 0) rfl ?_
    refine RQ.ialdN (j := 32 * t + i) rfl h.2.2.2.1 (by omega) (by decide) ?_
    refine RQ.blk 3 (pc' := 45) (lv' := [(5, .int (nI (32 * t + i))), (0, .ref 196), (1, .int (nI t)), (2, .ref (a + 1)), (3, .int (nI j)), (4, .int (nI m))]) (st' := [.int (nI m), .int (nI j), .ref (a + 1), .int (nI (wn (32 * t + i))), .int (nI (wk (32 * t + i))), .ref 213, .ref 196]) (H' := _) (kc' := 0) (ks' := 0) rfl ?_
    refine RQ.callI (st' := []) rfl rfl rfl rfl rfl rfl (args_v [.int (nI m), .int (nI j), .ref (a + 1), .int (nI (wn (32 * t + i))), .int (nI (wk (32 * t + i))), .ref 213] [] rfl rfl (Nat.le_of_ble_eq_true rfl) rfl hm (Nat.le_of_ble_eq_true rfl)) (ri_mcmp h.2.2.2.2.2 h1 (by decide) hna (by omega) hj) (fun x H2 hx => ?_)
    rw [hx.1]
    replace hx := hx.2
    by_cases he : sl wb (wk (32 * t + i)) (wn (32 * t + i)) = sl g j m
    ·
      refine RQ.brF rfl rfl rfl (bnf ((i_eq0 hx).mpr (by rw [he]; exact cmpL_self _))) ?_
      refine RQ.blk 1 (pc' := 53) (lv' := [(5, .int (nI (32 * t + i))), (0, .ref 196), (1, .int (nI t)), (2, .ref (a + 1)), (3, .int (nI j)), (4, .int (nI m))]) (st' := [.int (nI (32 * t + i))]) (H' := _) (kc' := 0) (ks' := 0) rfl ?_
      exact RQ.done (c := 0) (s := 0) rfl rfl rfl rfl ⟨_, _, rfl, rfl, Or.inl ⟨i, hi, rfl, he, h2⟩⟩
    ·
      refine RQ.brT rfl rfl rfl (bnt (fun e => he (cmpL_eq.mp ((i_eq0 hx).mp e)))) ?_
      refine RQ.blk 1 (pc' := 57) (lv' := [(5, .int (nI (32 * t + i) + 1)), (0, .ref 196), (1, .int (nI t)), (2, .ref (a + 1)), (3, .int (nI j)), (4, .int (nI m))]) (st' := []) (H' := _) (kc' := 0) (ks' := 0) rfl ?_
      rw [show (nI (32 * t + i) + 1 : Int32) = nI (32 * t + i + 1) from nI_add (32 * t + i) 1]
      refine RQ.blk 1 (pc' := 6) (lv' := [(5, .int (nI (32 * t + i + 1))), (0, .ref 196), (1, .int (nI t)), (2, .ref (a + 1)), (3, .int (nI j)), (4, .int (nI m))]) (st' := []) (H' := _) (kc' := 0) (ks' := 0) rfl ?_
      exact nx he
  ·
    refine RQ.blk 4 (pc' := 12) (lv' := [(5, .int (nI (32 * t + ro t))), (0, .ref 196), (1, .int (nI t)), (2, .ref (a + 1)), (3, .int (nI j)), (4, .int (nI m))]) (st' := [.int (32 * nI t), .int (nI (32 * t + ro t))]) (H' := _) (kc' := 0) (ks' := 0) rfl ?_
    rw [show (32 * nI t : Int32) = nI (32 * t) from pk_mul 32 t]
    refine RQ.blk 1 (pc' := 13) (lv' := [(5, .int (nI (32 * t + ro t))), (0, .ref 196), (1, .int (nI t)), (2, .ref (a + 1)), (3, .int (nI j)), (4, .int (nI m))]) (st' := [.ref 196, .int (nI (32 * t)), .int (nI (32 * t + ro t))]) (H' := _) (kc' := 0) (ks' := 0) rfl ?_
    refine RQ.get (ci := 12) rfl hm rfl rfl ?_
    refine RQ.blk 1 (pc' := 17) (lv' := [(5, .int (nI (32 * t + ro t))), (0, .ref 196), (1, .int (nI t)), (2, .ref (a + 1)), (3, .int (nI j)), (4, .int (nI m))]) (st' := [.int (nI t), .ref 208, .int (nI (32 * t)), .int (nI (32 * t + ro t))]) (H' := _) (kc' := 0) (ks' := 0) rfl ?_
    refine RQ.ialdN (j := t) rfl h.1 (by omega) (by decide) ?_
    refine RQ.blk 1 (pc' := 19) (lv' := [(5, .int (nI (32 * t + ro t))), (0, .ref 196), (1, .int (nI t)), (2, .ref (a + 1)), (3, .int (nI j)), (4, .int (nI m))]) (st' := [.int (nI (32 * t) + nI (ro t)), .int (nI (32 * t + ro t))]) (H' := _) (kc' := 0) (ks' := 0) rfl ?_
    rw [show (nI (32 * t) + nI (ro t) : Int32) = nI (32 * t + (ro t)) from nI_add (32 * t) (ro t)]
    refine RQ.brT rfl rfl rfl (cT_ge (32 * t + ro t) (32 * t + ro t)) ?_
    refine RQ.blk 1 (pc' := 61) (lv' := [(5, .int (nI (32 * t + ro t))), (0, .ref 196), (1, .int (nI t)), (2, .ref (a + 1)), (3, .int (nI j)), (4, .int (nI m))]) (st' := [.int (-1)]) (H' := _) (kc' := 0) (ks' := 0) rfl ?_
    exact RQ.done (c := 0) (s := 0) rfl rfl rfl rfl ⟨_, _, rfl, rfl, Or.inr ⟨rfl, h2⟩⟩
