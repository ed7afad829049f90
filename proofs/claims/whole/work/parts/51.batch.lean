/-! ===== a batch of changes: class; written by wip/gen/batch3.py ===== -/
/-- a length, or -1 for none -/
def lI : Option Nat → Int32
  | none => -1
  | some n => nI n
theorem maxL {l : Option Nat} (h : l.getD 0 < 2 ^ 31) : (if lI l < 0 then 0 else lI l) = nI (l.getD 0) := by
  cases l with
  | none => rfl
  | some n => exact if_neg (nI_pos h)
theorem lI_neg {l : Option Nat} (h : l.getD 0 < 2 ^ 31) : lI l < 0 ↔ l = none := by
  cases l with
  | none => exact ⟨fun _ => rfl, fun _ => by decide⟩
  | some n => exact ⟨fun e => absurd e (nI_pos h), fun e => by cases e⟩
theorem up_lI {f : Nat → Option Nat} {t : Nat} {m : Option Nat} : va_up (fun j => lI (f j)) t (lI m) = fun j => lI (va_up f t m j) := by
  funext j
  unfold va_up
  split <;> rfl
/-- the arrays of a batch that lies from cell b on: bytes, starts, lengths of keys and values, how many, how much -/
def BatchAt (H : aH) (b : Nat) (D : Nat → Int8) (S K : Nat → Nat) (E : Nat → Option Nat) (n u : Nat) : Prop := H[b]? = some (kO 0 [.ref (b + 1 + 1), .ref (b + 2 + 1), .ref (b + 3 + 1), .ref (b + 4 + 1), .ref (b + 5 + 1), .int (nI n), .int (nI u)]) ∧ H[b + 1]? = some (kB 4100 D) ∧ H[b + 2]? = some (kI 40 (fun j => nI (S j))) ∧ H[b + 3]? = some (kI 40 (fun j => nI (K j))) ∧ H[b + 4]? = some (kI 40 (fun j => lI (E j)))
/-- it is in bounds -/
def BatchOk (S K : Nat → Nat) (E : Nat → Option Nat) (n u : Nat) : Prop := n ≤ 40 ∧ u ≤ 4100 ∧ ∀ i, i < n → S i + K i + (E i).getD 0 ≤ u
theorem BatchAt.far {H H' : aH} {b : Nat} {D : Nat → Int8} {S K : Nat → Nat} {E : Nat → Option Nat} {n u : Nat} (h : BatchAt H b D S K E n u) (hs : ∀ a, b ≤ a → a < b + 6 → H'[a]? = H[a]?) : BatchAt H' b D S K E n u := ⟨(hs _ (by omega) (by omega)).trans h.1, (hs _ (by omega) (by omega)).trans h.2.1, (hs _ (by omega) (by omega)).trans h.2.2.1, (hs _ (by omega) (by omega)).trans h.2.2.2.1, (hs _ (by omega) (by omega)).trans h.2.2.2.2⟩
theorem ri_compareWith {sc : Nat × (Nat → Int32)} {a na i j m : Nat} {d b n u : Nat} {H : aH} {D : Nat → Int8} {S K : Nat → Nat} {E : Nat → Option Nat} {g : Nat → Int8} (h : BatchAt H b D S K E n u) (hk : BatchOk S K E n u) (h1 : H[a]? = some (kB na g)) (hna : na < 2 ^ 30) (hj : j + m ≤ na) (hi : i < n) : RI sc (d + 1) mr_44 [.ref (b + 1), .int (nI i), .ref (a + 1), .int (nI j), .int (nI m)] H (fun x H' => H' = H ∧ x.toInt = cmpL (sl D (S i) (K i)) (sl g j m)) := by
  have hk1 := hk.1
  have hk2 := hk.2.1
  have hk3 := hk.2.2 i hi
  refine RI.of ?_
  refine RQ.blk 1 (pc' := 1) (lv' := [(0, .ref (b + 1)), (1, .int (nI i)), (2, .ref (a + 1)), (3, .int (nI j)), (4, .int (nI m))]) (st' := [.int (nI i)]) (H' := _) (kc' := 0) (ks' := 0) rfl ?_
  refine RQ.brF rfl rfl rfl (cF_lt i 0) ?_
  refine RQ.blk 2 (pc' := 6) (lv' := [(0, .ref (b + 1)), (1, .int (nI i)), (2, .ref (a + 1)), (3, .int (nI j)), (4, .int (nI m))]) (st' := [.ref (b + 1), .int (nI i)]) (H' := _) (kc' := 0) (ks' := 0) rfl ?_
  refine RQ.get (ci := 0) rfl h.1 rfl rfl ?_
  refine RQ.brT rfl rfl rfl (cT_lt i n) ?_
  refine RQ.blk 1 (pc' := 17) (lv' := [(0, .ref (b + 1)), (1, .int (nI i)), (2, .ref (a + 1)), (3, .int (nI j)), (4, .int (nI m))]) (st' := [.ref (b + 1)]) (H' := _) (kc' := 0) (ks' := 0) rfl ?_
  refine RQ.get (ci := 0) rfl h.1 rfl rfl ?_
  refine RQ.blk 1 (pc' := 21) (lv' := [(0, .ref (b + 1)), (1, .int (nI i)), (2, .ref (a + 1)), (3, .int (nI j)), (4, .int (nI m))]) (st' := [.ref (b + 1), .ref (b + 1 + 1)]) (H' := _) (kc' := 0) (ks' := 0) rfl ?_
  refine RQ.get (ci := 0) rfl h.1 rfl rfl ?_
  refine RQ.blk 1 (pc' := 25) (lv' := [(0, .ref (b + 1)), (1, .int (nI i)), (2, .ref (a + 1)), (3, .int (nI j)), (4, .int (nI m))]) (st' := [.int (nI i), .ref (b + 2 + 1), .ref (b + 1 + 1)]) (H' := _) (kc' := 0) (ks' := 0) rfl ?_
  refine RQ.ialdN (j := i) rfl h.2.2.1 (by omega) (by decide) ?_
  refine RQ.blk 1 (pc' := 27) (lv' := [(0, .ref (b + 1)), (1, .int (nI i)), (2, .ref (a + 1)), (3, .int (nI j)), (4, .int (nI m))]) (st' := [.ref (b + 1), .int (nI (S i)), .ref (b + 1 + 1)]) (H' := _) (kc' := 0) (ks' := 0) rfl ?_
  refine RQ.get (ci := 0) rfl h.1 rfl rfl ?_
  refine RQ.blk 1 (pc' := 31) (lv' := [(0, .ref (b + 1)), (1, .int (nI i)), (2, .ref (a + 1)), (3, .int (nI j)), (4, .int (nI m))]) (st' := [.int (nI i), .ref (b + 3 + 1), .int (nI (S i)), .ref (b + 1 + 1)]) (H' := _) (kc' := 0) (ks' := 0) rfl ?_
  refine RQ.ialdN (j := i) rfl h.2.2.2.1 (by omega) (by decide) ?_
  refine RQ.blk 3 (pc' := 36) (lv' := [(0, .ref (b + 1)), (1, .int (nI i)), (2, .ref (a + 1)), (3, .int (nI j)), (4, .int (nI m))]) (st' := [.int (nI m), .int (nI j), .ref (a + 1), .int (nI (K i)), .int (nI (S i)), .ref (b + 1 + 1)]) (H' := _) (kc' := 0) (ks' := 0) rfl ?_
  refine RQ.callI (st' := []) rfl rfl rfl rfl rfl rfl rfl (ri_cmp h.2.1 h1 (by decide) hna (by omega) hj) (fun x H' hx => ?_)
  rw [hx.1]
  replace hx := hx.2
  exact RQ.done (c := 0) (s := 0) rfl rfl rfl rfl ⟨_, _, rfl, rfl, hx⟩
theorem ri_indexOfKey {sc : Nat × (Nat → Int32)} {a na j m : Nat} {d b n u : Nat} {H : aH} {D : Nat → Int8} {S K : Nat → Nat} {E : Nat → Option Nat} {g : Nat → Int8} (h : BatchAt H b D S K E n u) (hk : BatchOk S K E n u) (h1 : H[a]? = some (kB na g)) (hna : na < 2 ^ 30) (hj : j + m ≤ na) : RI sc (d + 2) mr_43 [.ref (b + 1), .ref (a + 1), .int (nI j), .int (nI m)] H (fun x H' => H' = H ∧ ((∃ i, i < n ∧ x = nI i ∧ sl D (S i) (K i) = sl g j m ∧ ∀ q, q < i → ¬ sl D (S q) (K q) = sl g j m) ∨ (x = -1 ∧ ∀ q, q < n → ¬ sl D (S q) (K q) = sl g j m))) := by
  have hk1 := hk.1
  have hk2 := hk.2.1
  refine RI.of ?_
  refine RQ.blk 2 (pc' := 3) (lv' := [(4, .int 0), (0, .ref (b + 1)), (1, .ref (a + 1)), (2, .int (nI j)), (3, .int (nI m))]) (st' := []) (H' := _) (kc' := 0) (ks' := 0) rfl ?_
  refine RQ.loopQ (pc := 3) (fun i => ∀ q, q < i → ¬ sl D (S q) (K q) = sl g j m) (fun i => [(4, .int (nI i)), (0, .ref (b + 1)), (1, .ref (a + 1)), (2, .int (nI j)), (3, .int (nI m))]) n (fun i hi h2 ih => ?_) (fun h2 => ?_) (fun s hs => absurd hs (Nat.not_lt_zero _))
  · have hk3 := hk.2.2 i hi
    have nx : ¬ sl D (S i) (K i) = sl g j m → _ := fun e => ih (fun s hs => (Nat.lt_succ_iff_lt_or_eq.mp hs).elim (h2 s) (fun e2 => by rw [e2]; exact e))
    refine RQ.blk 2 (pc' := 6) (lv' := [(4, .int (nI i)), (0, .ref (b + 1)), (1, .ref (a + 1)), (2, .int (nI j)), (3, .int (nI m))]) (st' := [.ref (b + 1), .int (nI i)]) (H' := _) (kc' := 0) (ks' := 0) rfl ?_
    refine RQ.get (ci := 0) rfl h.1 rfl rfl ?_
    refine RQ.brF rfl rfl rfl (cF_ge i n) ?_
    refine RQ.blk 1 (pc' := 13) (lv' := [(4, .int (nI i)), (0, .ref (b + 1)), (1, .ref (a + 1)), (2, .int (nI j)), (3, .int (nI m))]) (st' := [.ref (b + 1)]) (H' := _) (kc' := 0) (ks' := 0) rfl ?_
    refine RQ.get (ci := 0) rfl h.1 rfl rfl ?_
    refine RQ.blk 1 (pc' := 18) (lv' := [(4, .int (nI i)), (0, .ref (b + 1)), (1, .ref (a + 1)), (2, .int (nI j)), (3, .int (nI m))]) (st' := [.int (nI i), .ref (b + 3 + 1)]) (H' := _) (kc' := 0) (ks' := 0) rfl ?_
    refine RQ.ialdN (j := i) rfl h.2.2.2.1 (by omega) (by decide) ?_
    refine RQ.blk 1 (pc' := 20) (lv' := [(4, .int (nI i)), (0, .ref (b + 1)), (1, .ref (a + 1)), (2, .int (nI j)), (3, .int (nI m))]) (st' := [.int (nI m), .int (nI (K i))]) (H' := _) (kc' := 0) (ks' := 0) rfl ?_
    by_cases hl : K i = m
    ·
      refine RQ.brF rfl rfl rfl (cF_ne (K i) m) ?_
      refine RQ.blk 5 (pc' := 29) (lv' := [(4, .int (nI i)), (0, .ref (b + 1)), (1, .ref (a + 1)), (2, .int (nI j)), (3, .int (nI m))]) (st' := [.int (nI m), .int (nI j), .ref (a + 1), .int (nI i), .ref (b + 1)]) (H' := _) (kc' := 0) (ks' := 0) rfl ?_
      refine RQ.callI (st' := []) rfl rfl rfl rfl rfl rfl (args_v [.int (nI m), .int (nI j), .ref (a + 1), .int (nI i)] [] rfl rfl (Nat.le_of_ble_eq_true rfl) rfl h.1 (Nat.le_of_ble_eq_true rfl)) (ri_compareWith h hk h1 hna hj hi) (fun x H' hx => ?_)
      rw [hx.1]
      replace hx := hx.2
      by_cases he : sl D (S i) (K i) = sl g j m
      ·
        refine RQ.brF rfl rfl rfl (bnf (Int32.toInt_inj.mp (by rw [hx, he, cmpL_self]; rfl))) ?_
        refine RQ.blk 1 (pc' := 37) (lv' := [(4, .int (nI i)), (0, .ref (b + 1)), (1, .ref (a + 1)), (2, .int (nI j)), (3, .int (nI m))]) (st' := [.int (nI i)]) (H' := _) (kc' := 0) (ks' := 0) rfl ?_
        exact RQ.done (c := 0) (s := 0) rfl rfl rfl rfl ⟨_, _, rfl, rfl, Or.inl ⟨i, hi, rfl, he, h2⟩⟩
      ·
        refine RQ.brT rfl rfl rfl (bnt (fun e => he (cmpL_eq.mp (hx.symm.trans (toInt_0 e))))) ?_
        refine RQ.blk 1 (pc' := 41) (lv' := [(4, .int (nI i + 1)), (0, .ref (b + 1)), (1, .ref (a + 1)), (2, .int (nI j)), (3, .int (nI m))]) (st' := []) (H' := _) (kc' := 0) (ks' := 0) rfl ?_
        rw [show (nI i + 1 : Int32) = nI (i + 1) from nI_add i 1]
        refine RQ.blk 1 (pc' := 3) (lv' := [(4, .int (nI (i + 1))), (0, .ref (b + 1)), (1, .ref (a + 1)), (2, .int (nI j)), (3, .int (nI m))]) (st' := []) (H' := _) (kc' := 0) (ks' := 0) rfl ?_
        exact nx he
    ·
      refine RQ.brT rfl rfl rfl (cT_ne (K i) m) ?_
      refine RQ.blk 1 (pc' := 41) (lv' := [(4, .int (nI i + 1)), (0, .ref (b + 1)), (1, .ref (a + 1)), (2, .int (nI j)), (3, .int (nI m))]) (st' := []) (H' := _) (kc' := 0) (ks' := 0) rfl ?_
      rw [show (nI i + 1 : Int32) = nI (i + 1) from nI_add i 1]
      refine RQ.blk 1 (pc' := 3) (lv' := [(4, .int (nI (i + 1))), (0, .ref (b + 1)), (1, .ref (a + 1)), (2, .int (nI j)), (3, .int (nI m))]) (st' := []) (H' := _) (kc' := 0) (ks' := 0) rfl ?_
      exact nx (fun e => hl (by have := congrArg List.length e; rw [sl_length, sl_length] at this; exact this))
  ·
    refine RQ.blk 2 (pc' := 6) (lv' := [(4, .int (nI n)), (0, .ref (b + 1)), (1, .ref (a + 1)), (2, .int (nI j)), (3, .int (nI m))]) (st' := [.ref (b + 1), .int (nI n)]) (H' := _) (kc' := 0) (ks' := 0) rfl ?_
    refine RQ.get (ci := 0) rfl h.1 rfl rfl ?_
    refine RQ.brT rfl rfl rfl (cT_ge n n) ?_
    refine RQ.blk 1 (pc' := 45) (lv' := [(4, .int (nI n)), (0, .ref (b + 1)), (1, .ref (a + 1)), (2, .int (nI j)), (3, .int (nI m))]) (st' := [.int (-1)]) (H' := _) (kc' := 0) (ks' := 0) rfl ?_
    exact RQ.done (c := 0) (s := 0) rfl rfl rfl rfl ⟨_, _, rfl, rfl, Or.inr ⟨rfl, h2⟩⟩
theorem ri_indexOf {sc : Nat × (Nat → Int32)} {a na m : Nat} {d b n u : Nat} {H : aH} {D : Nat → Int8} {S K : Nat → Nat} {E : Nat → Option Nat} {g : Nat → Int8} (h : BatchAt H b D S K E n u) (hk : BatchOk S K E n u) (h1 : H[a]? = some (kB na g)) (hna : na < 2 ^ 30) (hj : m ≤ na) : RI sc (d + 3) mr_42 [.ref (b + 1), .ref (a + 1), .int (nI m)] H (fun x H' => H' = H ∧ ((∃ i, i < n ∧ x = nI i ∧ sl D (S i) (K i) = sl g 0 m ∧ ∀ q, q < i → ¬ sl D (S q) (K q) = sl g 0 m) ∨ (x = -1 ∧ ∀ q, q < n → ¬ sl D (S q) (K q) = sl g 0 m))) := by
  refine RI.of ?_
  refine RQ.blk 4 (pc' := 4) (lv' := [(0, .ref (b + 1)), (1, .ref (a + 1)), (2, .int (nI m))]) (st' := [.int (nI m), .int 0, .ref (a + 1), .ref (b + 1)]) (H' := _) (kc' := 0) (ks' := 0) rfl ?_
  refine RQ.callI (st' := []) rfl rfl rfl rfl rfl rfl (args_v [.int (nI m), .int 0, .ref (a + 1)] [] rfl rfl (Nat.le_of_ble_eq_true rfl) rfl h.1 (Nat.le_of_ble_eq_true rfl)) (ri_indexOfKey (j := 0) h hk h1 hna (by omega)) (fun x H' hx => ?_)
  rw [hx.1]
  replace hx := hx.2
  exact RQ.done (c := 0) (s := 0) rfl rfl rfl rfl ⟨_, _, rfl, rfl, hx⟩
theorem rc_userBytes {sc : Nat × (Nat → Int32)} {d b n u : Nat} {H : aH} {D : Nat → Int8} {S K : Nat → Nat} {E : Nat → Option Nat} (h : BatchAt H b D S K E n u) (hk : BatchOk S K E n u) (hu : n ≤ u) : RC sc d mr_46 [.ref (b + 1)] H (.inl (some (.int (nI (u - n))))) H 0 0 := by
  have hk1 := hk.1
  have hk2 := hk.2.1
  refine RP.blk 1 (pc' := 1) (lv' := [(0, .ref (b + 1))]) (st' := [.ref (b + 1)]) (H' := _) (kc' := 0) (ks' := 0) rfl ?_
  refine RP.get (ci := 0) rfl h.1 rfl rfl ?_
  refine RP.blk 1 (pc' := 5) (lv' := [(0, .ref (b + 1))]) (st' := [.ref (b + 1), .int (nI u)]) (H' := _) (kc' := 0) (ks' := 0) rfl ?_
  refine RP.get (ci := 0) rfl h.1 rfl rfl ?_
  refine RP.blk 1 (pc' := 9) (lv' := [(0, .ref (b + 1))]) (st' := [.int (nI u - nI n)]) (H' := _) (kc' := 0) (ks' := 0) rfl ?_
  rw [show (nI u - nI n : Int32) = nI (u - n) from pk_sub (a := u) (b := n) (by omega)]
  exact RP.done (c := 0) (s := 0) rfl rfl rfl rfl
theorem rc_userBytesOf {sc : Nat × (Nat → Int32)} {i : Nat} {d b n u : Nat} {H : aH} {D : Nat → Int8} {S K : Nat → Nat} {E : Nat → Option Nat} (h : BatchAt H b D S K E n u) (hk : BatchOk S K E n u) (hi : i < n) (hK : 1 ≤ K i) : RC sc d mr_47 [.ref (b + 1), .int (nI i)] H (.inl (some (.int (nI (K i - 1 + (E i).getD 0))))) H 0 0 := by
  have hk1 := hk.1
  have hk2 := hk.2.1
  have hk3 := hk.2.2 i hi
  refine RP.blk 1 (pc' := 1) (lv' := [(0, .ref (b + 1)), (1, .int (nI i))]) (st' := [.int (nI i)]) (H' := _) (kc' := 0) (ks' := 0) rfl ?_
  refine RP.brF rfl rfl rfl (cF_lt i 0) ?_
  refine RP.blk 2 (pc' := 6) (lv' := [(0, .ref (b + 1)), (1, .int (nI i))]) (st' := [.ref (b + 1), .int (nI i)]) (H' := _) (kc' := 0) (ks' := 0) rfl ?_
  refine RP.get (ci := 0) rfl h.1 rfl rfl ?_
  refine RP.brT rfl rfl rfl (cT_lt i n) ?_
  refine RP.blk 1 (pc' := 17) (lv' := [(0, .ref (b + 1)), (1, .int (nI i))]) (st' := [.ref (b + 1)]) (H' := _) (kc' := 0) (ks' := 0) rfl ?_
  refine RP.get (ci := 0) rfl h.1 rfl rfl ?_
  refine RP.blk 1 (pc' := 21) (lv' := [(0, .ref (b + 1)), (1, .int (nI i))]) (st' := [.int (nI i), .ref (b + 3 + 1)]) (H' := _) (kc' := 0) (ks' := 0) rfl ?_
  refine RP.ialdN (j := i) rfl h.2.2.2.1 (by omega) (by decide) ?_
  refine RP.blk 2 (pc' := 24) (lv' := [(0, .ref (b + 1)), (1, .int (nI i))]) (st' := [.int (nI (K i) - 1)]) (H' := _) (kc' := 0) (ks' := 0) rfl ?_
  rw [show (nI (K i) - 1 : Int32) = nI ((K i) - 1) from pk_sub (a := (K i)) (b := 1) (by omega)]
  refine RP.blk 1 (pc' := 25) (lv' := [(0, .ref (b + 1)), (1, .int (nI i))]) (st' := [.ref (b + 1), .int (nI ((K i) - 1))]) (H' := _) (kc' := 0) (ks' := 0) rfl ?_
  refine RP.get (ci := 0) rfl h.1 rfl rfl ?_
  refine RP.blk 1 (pc' := 29) (lv' := [(0, .ref (b + 1)), (1, .int (nI i))]) (st' := [.int (nI i), .ref (b + 4 + 1), .int (nI ((K i) - 1))]) (H' := _) (kc' := 0) (ks' := 0) rfl ?_
  refine RP.ialdN (j := i) rfl h.2.2.2.2 (by omega) (by decide) ?_
  refine RP.blk 2 (pc' := 34) (lv' := [(0, .ref (b + 1)), (1, .int (nI i))]) (st' := [.int (if lI (E i) < 0 then 0 else lI (E i)), .int (nI ((K i) - 1))]) (H' := _) (kc' := 0) (ks' := 0) rfl ?_
  rw [maxL (by omega)]
  refine RP.blk 1 (pc' := 35) (lv' := [(0, .ref (b + 1)), (1, .int (nI i))]) (st' := [.int (nI ((K i) - 1) + nI ((E i).getD 0))]) (H' := _) (kc' := 0) (ks' := 0) rfl ?_
  rw [show (nI ((K i) - 1) + nI ((E i).getD 0) : Int32) = nI ((K i) - 1 + ((E i).getD 0)) from nI_add ((K i) - 1) ((E i).getD 0)]
  exact RP.done (c := 0) (s := 0) rfl rfl rfl rfl
theorem rc_userBytesOfN {sc : Nat × (Nat → Int32)} {d b : Nat} {H : aH} {x : Int32} (hx : x < 0) : RC sc d mr_47 [.ref (b + 1), .int x] H (.inl (some (.int 0))) H 0 0 := by
  refine RP.blk 1 (pc' := 1) (lv' := [(0, .ref (b + 1)), (1, .int x)]) (st' := [.int x]) (H' := _) (kc' := 0) (ks' := 0) rfl ?_
  refine RP.brT rfl rfl rfl (decide_eq_true hx) ?_
  refine RP.blk 2 (pc' := 35) (lv' := [(0, .ref (b + 1)), (1, .int x)]) (st' := [.int 0]) (H' := _) (kc' := 0) (ks' := 0) rfl ?_
  exact RP.done (c := 0) (s := 0) rfl rfl rfl rfl
theorem ri_badd {sc : Nat × (Nat → Int32)} {a na m : Nat} {d b n u : Nat} {H : aH} {D : Nat → Int8} {S K : Nat → Nat} {E : Nat → Option Nat} {g : Nat → Int8} {l : Option Nat} (h : BatchAt H b D S K E n u) (hk : BatchOk S K E n u) (h1 : H[a]? = some (kB na g)) (hna : na < 2 ^ 30) (hj : m ≤ na) (hab : a < b ∨ b + 6 ≤ a) (hn : n < 40) (hu : u + m + l.getD 0 ≤ 4100) : RI sc (d + 1) mr_49 [.ref (b + 1), .ref (a + 1), .int (nI m), .int (lI l)] H (fun x H' => x = nI (u + m) ∧ BatchAt H' b (cpy g 0 D u m) (va_up S n u) (va_up K n m) (va_up E n l) (n + 1) (u + (m + l.getD 0)) ∧ ∀ a, ¬ (b ≤ a ∧ a < b + 5) → H'[a]? = H[a]?) := by
  have hk1 := hk.1
  have hk2 := hk.2.1
  refine RI.of ?_
  refine RQ.blk 1 (pc' := 1) (lv' := [(0, .ref (b + 1)), (1, .ref (a + 1)), (2, .int (nI m)), (3, .int (lI l))]) (st' := [.ref (b + 1)]) (H' := _) (kc' := 0) (ks' := 0) rfl ?_
  refine RQ.get (ci := 0) rfl h.1 rfl rfl ?_
  refine RQ.blk 1 (pc' := 6) (lv' := [(0, .ref (b + 1)), (1, .ref (a + 1)), (2, .int (nI m)), (3, .int (lI l))]) (st' := [.int 40, .int (nI n)]) (H' := _) (kc' := 0) (ks' := 0) rfl ?_
  refine RQ.brF rfl rfl rfl (cF_ge n 40) ?_
  refine RQ.blk 4 (pc' := 15) (lv' := [(0, .ref (b + 1)), (1, .ref (a + 1)), (2, .int (nI m)), (3, .int (lI l))]) (st' := [.int (if lI l < 0 then 0 else lI l), .int (nI m)]) (H' := _) (kc' := 0) (ks' := 0) rfl ?_
  rw [maxL (by omega)]
  refine RQ.blk 1 (pc' := 16) (lv' := [(0, .ref (b + 1)), (1, .ref (a + 1)), (2, .int (nI m)), (3, .int (lI l))]) (st' := [.int (nI m + nI (l.getD 0))]) (H' := _) (kc' := 0) (ks' := 0) rfl ?_
  rw [show (nI m + nI (l.getD 0) : Int32) = nI (m + (l.getD 0)) from nI_add m (l.getD 0)]
  refine RQ.blk 1 (pc' := 17) (lv' := [(0, .ref (b + 1)), (1, .ref (a + 1)), (2, .int (nI m)), (3, .int (lI l))]) (st' := [.ref (b + 1), .int (nI (m + (l.getD 0)))]) (H' := _) (kc' := 0) (ks' := 0) rfl ?_
  refine RQ.get (ci := 0) rfl h.1 rfl rfl ?_
  refine RQ.len rfl h.2.1 rfl ?_
  refine RQ.blk 1 (pc' := 22) (lv' := [(0, .ref (b + 1)), (1, .ref (a + 1)), (2, .int (nI m)), (3, .int (lI l))]) (st' := [.ref (b + 1), .int (nI 4100), .int (nI (m + (l.getD 0)))]) (H' := _) (kc' := 0) (ks' := 0) rfl ?_
  refine RQ.get (ci := 0) rfl h.1 rfl rfl ?_
  refine RQ.blk 1 (pc' := 26) (lv' := [(0, .ref (b + 1)), (1, .ref (a + 1)), (2, .int (nI m)), (3, .int (lI l))]) (st' := [.int (nI 4100 - nI u), .int (nI (m + (l.getD 0)))]) (H' := _) (kc' := 0) (ks' := 0) rfl ?_
  rw [show (nI 4100 - nI u : Int32) = nI (4100 - u) from pk_sub (a := 4100) (b := u) (by omega)]
  refine RQ.brT rfl rfl rfl (cT_le (m + (l.getD 0)) (4100 - u)) ?_
  refine RQ.blk 3 (pc' := 34) (lv' := [(0, .ref (b + 1)), (1, .ref (a + 1)), (2, .int (nI m)), (3, .int (lI l))]) (st' := [.ref (b + 1), .int 0, .ref (a + 1)]) (H' := _) (kc' := 0) (ks' := 0) rfl ?_
  refine RQ.get (ci := 0) rfl h.1 rfl rfl ?_
  refine RQ.blk 1 (pc' := 38) (lv' := [(0, .ref (b + 1)), (1, .ref (a + 1)), (2, .int (nI m)), (3, .int (lI l))]) (st' := [.ref (b + 1), .ref (b + 1 + 1), .int 0, .ref (a + 1)]) (H' := _) (kc' := 0) (ks' := 0) rfl ?_
  refine RQ.get (ci := 0) rfl h.1 rfl rfl ?_
  refine RQ.blk 1 (pc' := 42) (lv' := [(0, .ref (b + 1)), (1, .ref (a + 1)), (2, .int (nI m)), (3, .int (lI l))]) (st' := [.int (nI m), .int (nI u), .ref (b + 1 + 1), .int 0, .ref (a + 1)]) (H' := _) (kc' := 0) (ks' := 0) rfl ?_
  refine RQ.call (v := none) (st' := []) rfl rfl rfl rfl rfl rfl rfl (rc_copy (i := 0) h1 h.2.1 (by omega) (by decide) (by omega) (by omega)) ?_
  refine RQ.blk 1 (pc' := 46) (lv' := [(0, .ref (b + 1)), (1, .ref (a + 1)), (2, .int (nI m)), (3, .int (lI l))]) (st' := [.ref (b + 1)]) (H' := _) (kc' := 0) (ks' := 0) rfl ?_
  refine RQ.get (ci := 0) rfl ((set_far (by omega)).trans h.1) rfl rfl ?_
  refine RQ.blk 1 (pc' := 50) (lv' := [(0, .ref (b + 1)), (1, .ref (a + 1)), (2, .int (nI m)), (3, .int (lI l))]) (st' := [.ref (b + 1), .ref (b + 2 + 1)]) (H' := _) (kc' := 0) (ks' := 0) rfl ?_
  refine RQ.get (ci := 0) rfl ((set_far (by omega)).trans h.1) rfl rfl ?_
  refine RQ.blk 1 (pc' := 54) (lv' := [(0, .ref (b + 1)), (1, .ref (a + 1)), (2, .int (nI m)), (3, .int (lI l))]) (st' := [.ref (b + 1), .int (nI n), .ref (b + 2 + 1)]) (H' := _) (kc' := 0) (ks' := 0) rfl ?_
  refine RQ.get (ci := 0) rfl ((set_far (by omega)).trans h.1) rfl rfl ?_
  refine RQ.iastN (j := n) rfl ((set_far (by omega)).trans h.2.2.1) (by omega) (by decide) ?_
  refine RQ.blk 1 (pc' := 59) (lv' := [(0, .ref (b + 1)), (1, .ref (a + 1)), (2, .int (nI m)), (3, .int (lI l))]) (st' := [.ref (b + 1)]) (H' := _) (kc' := 0) (ks' := 0) rfl ?_
  refine RQ.get (ci := 0) rfl ((set_far (by omega)).trans ((set_far (by omega)).trans h.1)) rfl rfl ?_
  refine RQ.blk 1 (pc' := 63) (lv' := [(0, .ref (b + 1)), (1, .ref (a + 1)), (2, .int (nI m)), (3, .int (lI l))]) (st' := [.ref (b + 1), .ref (b + 3 + 1)]) (H' := _) (kc' := 0) (ks' := 0) rfl ?_
  refine RQ.get (ci := 0) rfl ((set_far (by omega)).trans ((set_far (by omega)).trans h.1)) rfl rfl ?_
  refine RQ.blk 1 (pc' := 67) (lv' := [(0, .ref (b + 1)), (1, .ref (a + 1)), (2, .int (nI m)), (3, .int (lI l))]) (st' := [.int (nI m), .int (nI n), .ref (b + 3 + 1)]) (H' := _) (kc' := 0) (ks' := 0) rfl ?_
  refine RQ.iastN (j := n) rfl ((set_far (by omega)).trans ((set_far (by omega)).trans h.2.2.2.1)) (by omega) (by decide) ?_
  refine RQ.blk 1 (pc' := 69) (lv' := [(0, .ref (b + 1)), (1, .ref (a + 1)), (2, .int (nI m)), (3, .int (lI l))]) (st' := [.ref (b + 1)]) (H' := _) (kc' := 0) (ks' := 0) rfl ?_
  refine RQ.get (ci := 0) rfl ((set_far (by omega)).trans ((set_far (by omega)).trans ((set_far (by omega)).trans h.1))) rfl rfl ?_
  refine RQ.blk 1 (pc' := 73) (lv' := [(0, .ref (b + 1)), (1, .ref (a + 1)), (2, .int (nI m)), (3, .int (lI l))]) (st' := [.ref (b + 1), .ref (b + 4 + 1)]) (H' := _) (kc' := 0) (ks' := 0) rfl ?_
  refine RQ.get (ci := 0) rfl ((set_far (by omega)).trans ((set_far (by omega)).trans ((set_far (by omega)).trans h.1))) rfl rfl ?_
  refine RQ.blk 1 (pc' := 77) (lv' := [(0, .ref (b + 1)), (1, .ref (a + 1)), (2, .int (nI m)), (3, .int (lI l))]) (st' := [.int (lI l), .int (nI n), .ref (b + 4 + 1)]) (H' := _) (kc' := 0) (ks' := 0) rfl ?_
  refine RQ.iastN (j := n) rfl ((set_far (by omega)).trans ((set_far (by omega)).trans ((set_far (by omega)).trans h.2.2.2.2))) (by omega) (by decide) ?_
  refine RQ.blk 2 (pc' := 80) (lv' := [(0, .ref (b + 1)), (1, .ref (a + 1)), (2, .int (nI m)), (3, .int (lI l))]) (st' := [.ref (b + 1), .ref (b + 1)]) (H' := _) (kc' := 0) (ks' := 0) rfl ?_
  refine RQ.get (ci := 0) rfl ((set_far (by omega)).trans ((set_far (by omega)).trans ((set_far (by omega)).trans ((set_far (by omega)).trans h.1)))) rfl rfl ?_
  refine RQ.blk 2 (pc' := 85) (lv' := [(0, .ref (b + 1)), (1, .ref (a + 1)), (2, .int (nI m)), (3, .int (lI l))]) (st' := [.int (nI n + 1), .ref (b + 1)]) (H' := _) (kc' := 0) (ks' := 0) rfl ?_
  rw [show (nI n + 1 : Int32) = nI (n + 1) from nI_add n 1]
  refine RQ.put (ci := 0) rfl ((set_far (by omega)).trans ((set_far (by omega)).trans ((set_far (by omega)).trans ((set_far (by omega)).trans h.1)))) rfl rfl (Nat.le_of_ble_eq_true rfl) ?_
  refine RQ.blk 2 (pc' := 90) (lv' := [(0, .ref (b + 1)), (1, .ref (a + 1)), (2, .int (nI m)), (3, .int (lI l))]) (st' := [.ref (b + 1), .ref (b + 1)]) (H' := _) (kc' := 0) (ks' := 0) rfl ?_
  refine RQ.get (ci := 0) rfl (get_set ((set_far (by omega)).trans ((set_far (by omega)).trans ((set_far (by omega)).trans ((set_far (by omega)).trans h.1))))) rfl rfl ?_
  refine RQ.blk 4 (pc' := 99) (lv' := [(0, .ref (b + 1)), (1, .ref (a + 1)), (2, .int (nI m)), (3, .int (lI l))]) (st' := [.int (if lI l < 0 then 0 else lI l), .int (nI m), .int (nI u), .ref (b + 1)]) (H' := _) (kc' := 0) (ks' := 0) rfl ?_
  rw [maxL (by omega)]
  refine RQ.blk 1 (pc' := 100) (lv' := [(0, .ref (b + 1)), (1, .ref (a + 1)), (2, .int (nI m)), (3, .int (lI l))]) (st' := [.int (nI m + nI (l.getD 0)), .int (nI u), .ref (b + 1)]) (H' := _) (kc' := 0) (ks' := 0) rfl ?_
  rw [show (nI m + nI (l.getD 0) : Int32) = nI (m + (l.getD 0)) from nI_add m (l.getD 0)]
  refine RQ.blk 1 (pc' := 101) (lv' := [(0, .ref (b + 1)), (1, .ref (a + 1)), (2, .int (nI m)), (3, .int (lI l))]) (st' := [.int (nI u + nI (m + (l.getD 0))), .ref (b + 1)]) (H' := _) (kc' := 0) (ks' := 0) rfl ?_
  rw [show (nI u + nI (m + (l.getD 0)) : Int32) = nI (u + (m + (l.getD 0))) from nI_add u (m + (l.getD 0))]
  refine RQ.put (ci := 0) rfl (get_set ((set_far (by omega)).trans ((set_far (by omega)).trans ((set_far (by omega)).trans ((set_far (by omega)).trans h.1))))) rfl rfl (Nat.le_of_ble_eq_true rfl) ?_
  refine RQ.blk 1 (pc' := 105) (lv' := [(0, .ref (b + 1)), (1, .ref (a + 1)), (2, .int (nI m)), (3, .int (lI l))]) (st' := [.ref (b + 1)]) (H' := _) (kc' := 0) (ks' := 0) rfl ?_
  refine RQ.get (ci := 0) rfl (get_set (get_set ((set_far (by omega)).trans ((set_far (by omega)).trans ((set_far (by omega)).trans ((set_far (by omega)).trans h.1)))))) rfl rfl ?_
  refine RQ.blk 3 (pc' := 113) (lv' := [(0, .ref (b + 1)), (1, .ref (a + 1)), (2, .int (nI m)), (3, .int (lI l))]) (st' := [.int (if lI l < 0 then 0 else lI l), .int (nI (u + (m + (l.getD 0))))]) (H' := _) (kc' := 0) (ks' := 0) rfl ?_
  rw [maxL (by omega)]
  refine RQ.blk 1 (pc' := 114) (lv' := [(0, .ref (b + 1)), (1, .ref (a + 1)), (2, .int (nI m)), (3, .int (lI l))]) (st' := [.int (nI (u + (m + (l.getD 0))) - nI (l.getD 0))]) (H' := _) (kc' := 0) (ks' := 0) rfl ?_
  rw [show (nI (u + (m + (l.getD 0))) - nI (l.getD 0) : Int32) = nI ((u + (m + (l.getD 0))) - (l.getD 0)) from pk_sub (a := (u + (m + (l.getD 0)))) (b := (l.getD 0)) (by omega)]
  rw [show u + (m + l.getD 0) - l.getD 0 = u + m by omega]
  exact RQ.done (c := 0) (s := 0) rfl rfl rfl rfl ⟨_, _, rfl, rfl, ⟨get_set (get_set ((set_far (by omega)).trans ((set_far (by omega)).trans ((set_far (by omega)).trans ((set_far (by omega)).trans h.1))))), (set_far (by omega)).trans ((set_far (by omega)).trans ((set_far (by omega)).trans ((set_far (by omega)).trans ((set_far (by omega)).trans (get_set h.2.1))))), ((set_far (by omega)).trans ((set_far (by omega)).trans ((set_far (by omega)).trans ((set_far (by omega)).trans (get_set ((set_far (by omega)).trans h.2.2.1)))))).trans (congrArg (fun f => some (kI 40 f)) up_nI), ((set_far (by omega)).trans ((set_far (by omega)).trans ((set_far (by omega)).trans (get_set ((set_far (by omega)).trans ((set_far (by omega)).trans h.2.2.2.1)))))).trans (congrArg (fun f => some (kI 40 f)) up_nI), ((set_far (by omega)).trans ((set_far (by omega)).trans (get_set ((set_far (by omega)).trans ((set_far (by omega)).trans ((set_far (by omega)).trans h.2.2.2.2)))))).trans (congrArg (fun f => some (kI 40 f)) up_lI)⟩, fun a ha => (set_far (by omega)).trans ((set_far (by omega)).trans ((set_far (by omega)).trans ((set_far (by omega)).trans ((set_far (by omega)).trans (set_far (by omega))))))⟩
