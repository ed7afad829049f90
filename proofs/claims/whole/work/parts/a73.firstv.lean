/-! ===== the first key with a value, of writes and of what is stored; class; written by wip/gen/firstv.py ===== -/
/-- whether a key may be the answer -/
def fvK (k : List Nat) (bey : Bool) (e : aE) : Bool := decide (e.2 ≠ none) && (decide (0 < cmpL e.1 k) || (decide (cmpL e.1 k = 0) && !bey))
def keyAt (ws : List aE) (i : Nat) : List Nat := (ws.getD i ([], none)).1
def fvN (ws : List aE) (m : Option Nat) (i : Nat) (ok : Bool) : Option Nat :=
  match m with
  | none => if ok = true then some i else none
  | some j => if ok = true ∧ 0 < cmpL (keyAt ws j) (keyAt ws i) then some i else some j
/-- the first of the least -/
def fvS (ws : List aE) (k : List Nat) (bey : Bool) : Nat → Option Nat
  | 0 => none
  | i + 1 => fvN ws (fvS ws k bey i) i (fvK k bey (ws.getD i ([], none)))
theorem fvN_no {ws : List aE} {m : Option Nat} {i : Nat} : fvN ws m i false = m := by
  cases m with
  | none => show (if false = true then some i else none) = none; exact if_neg (by decide)
  | some j => show (if false = true ∧ 0 < cmpL (keyAt ws j) (keyAt ws i) then some i else some j) = some j; exact if_neg (fun e => absurd e.1 (by decide))
theorem fvS_lt {ws : List aE} {k : List Nat} {bey : Bool} : ∀ {n i : Nat}, fvS ws k bey n = some i → i < n
  | 0, i, h => absurd h (Option.some_ne_none i).symm
  | n + 1, i, h => by
    have h : fvN ws (fvS ws k bey n) n (fvK k bey (ws.getD n ([], none))) = some i := h
    cases hm : fvS ws k bey n with
    | none =>
      rw [hm] at h
      have h : (if fvK k bey (ws.getD n ([], none)) = true then some n else none) = some i := h
      split at h
      · have := Option.some.inj h; omega
      · cases h
    | some j =>
      rw [hm] at h
      have hj := fvS_lt hm
      have h : (if fvK k bey (ws.getD n ([], none)) = true ∧ 0 < cmpL (keyAt ws j) (keyAt ws n) then some n else some j) = some i := h
      split at h
      · have := Option.some.inj h; omega
      · have := Option.some.inj h; omega
theorem rc_firstV0 {sc : Nat × (Nat → Int32)} {d a na m b u : Nat} {H : aH} {D : Nat → Int8} {S K : Nat → Nat} {E : Nat → Option Nat} {ws : List aE} {g : Nat → Int8} (hb : BatchAt H b D S K E ws.length u) (hbk : BatchOk S K E ws.length u) (hL : LayE D 0 S K E ws) (h1 : H[a]? = some (kB na g)) (hna : na < 2 ^ 30) (hm : m ≤ na) : RC sc (d + 2) mr_75 [.ref (b + 1), .ref (a + 1), .int (nI m), .int 0] H (.inl (some (.int (lI (fvS ws (sl g 0 m) false ws.length))))) H 0 0 := by
  have hn40 := hbk.1
  have hu41 := hbk.2.1
  refine RC.of ?_
  refine RQ.blk 4 (pc' := 6) (lv' := [(5, .int 0), (4, .int (-1)), (0, .ref (b + 1)), (1, .ref (a + 1)), (2, .int (nI m)), (3, .int 0)]) (st' := []) (H' := _) (kc' := 0) (ks' := 0) rfl ?_
  refine RQ.while (S := Nat) (pc := 6) (fun i H' => i ≤ ws.length ∧ H' = H) (fun i => [(5, .int (nI i)), (4, .int (lI (fvS ws (sl g 0 m) false i))), (0, .ref (b + 1)), (1, .ref (a + 1)), (2, .int (nI m)), (3, .int 0)]) (fun i => ws.length - i) ?_ 0 H ⟨Nat.zero_le _, rfl⟩
  rintro i H1 ⟨hi, eH⟩ ih
  rw [show H1 = H from eH]
  by_cases hil : i < ws.length
  ·
    obtain ⟨e, he⟩ := lt_get hil
    obtain ⟨e1, e2, e3, -⟩ := hL i e he
    have hke : sl D (S i) (K i) = e.1 := hL.key he
    have hSK := hbk.2.2 i hil
    have hgd : ws.getD i ([], none) = e := by rw [List.getD_eq_getElem?_getD, he]; rfl
    have hka : keyAt ws i = e.1 := by unfold keyAt; rw [hgd]
    have hst : (fvS ws (sl g 0 m) false (i + 1)) = fvN ws (fvS ws (sl g 0 m) false i) i (fvK (sl g 0 m) false e) := by rw [← hgd]; rfl
    have hlt := fun j => fvS_lt (ws := ws) (k := sl g 0 m) (bey := false) (n := i) (i := j)
    generalize hw : (fvS ws (sl g 0 m) false i) = w at hst hlt ⊢
    refine RQ.blk 2 (pc' := 9) (lv' := [(5, .int (nI i)), (4, .int (lI w)), (0, .ref (b + 1)), (1, .ref (a + 1)), (2, .int (nI m)), (3, .int 0)]) (st' := [.ref (b + 1), .int (nI i)]) (H' := _) (kc' := 0) (ks' := 0) rfl ?_
    refine RQ.get (ci := 0) rfl hb.1 rfl rfl ?_
    refine RQ.brF rfl rfl rfl (cF_ge i ws.length) ?_
    refine RQ.blk 5 (pc' := 21) (lv' := [(5, .int (nI i)), (4, .int (lI w)), (0, .ref (b + 1)), (1, .ref (a + 1)), (2, .int (nI m)), (3, .int 0)]) (st' := [.int (nI m), .int 0, .ref (a + 1), .int (nI i), .ref (b + 1)]) (H' := _) (kc' := 0) (ks' := 0) rfl ?_
    refine RQ.callI (st' := []) rfl rfl rfl rfl rfl rfl (args_v [.int (nI m), .int 0, .ref (a + 1), .int (nI i)] [] rfl rfl (Nat.le_of_ble_eq_true rfl) rfl hb.1 (Nat.le_of_ble_eq_true rfl)) (ri_compareWith (i := i) (j := 0) (m := m) hb hbk h1 hna (by omega) hil) (fun y H2 hy => ?_)
    obtain ⟨eH2, hy⟩ := hy
    subst eH2
    rw [hke] at hy
    refine RQ.blk 2 (pc' := 27) (lv' := [(6, .int y), (5, .int (nI i)), (4, .int (lI w)), (0, .ref (b + 1)), (1, .ref (a + 1)), (2, .int (nI m)), (3, .int 0)]) (st' := [.ref (b + 1)]) (H' := _) (kc' := 0) (ks' := 0) rfl ?_
    refine RQ.get (ci := 0) rfl hb.1 rfl rfl ?_
    refine RQ.blk 1 (pc' := 32) (lv' := [(6, .int y), (5, .int (nI i)), (4, .int (lI w)), (0, .ref (b + 1)), (1, .ref (a + 1)), (2, .int (nI m)), (3, .int 0)]) (st' := [.int (nI i), .ref ((b + 4) + 1)]) (H' := _) (kc' := 0) (ks' := 0) rfl ?_
    refine RQ.ialdN (j := i) rfl hb.2.2.2.2 (by omega) (by decide) ?_
    by_cases hE : E i = none
    · refine RQ.brT rfl rfl rfl (decide_eq_true ((lI_neg (by omega)).mpr hE)) ?_
      refine RQ.blk 1 (pc' := 89) (lv' := [(5, .int (nI i + 1)), (6, .int y), (4, .int (lI w)), (0, .ref (b + 1)), (1, .ref (a + 1)), (2, .int (nI m)), (3, .int 0)]) (st' := []) (H' := _) (kc' := 0) (ks' := 0) rfl ?_
      rw [show (nI i + 1 : Int32) = nI (i + 1) from nI_add i 1]
      refine RQ.blk 1 (pc' := 6) (lv' := [(5, .int (nI (i + 1))), (6, .int y), (4, .int (lI w)), (0, .ref (b + 1)), (1, .ref (a + 1)), (2, .int (nI m)), (3, .int 0)]) (st' := []) (H' := _) (kc' := 0) (ks' := 0) rfl ?_
      refine RQ.pick (a := [(5, .int (nI (i + 1))), (4, .int (lI w)), (0, .ref (b + 1)), (1, .ref (a + 1)), (2, .int (nI m)), (3, .int 0)]) [0, 2, 3, 4, 5, 6] [5, 6, 4, 0, 1, 2, 3] rfl rfl (by decide) ?_
      have hE2 : e.2 = none := by rw [e3] at hE; cases h9 : e.2 with | none => rfl | some l => rw [h9] at hE; cases hE
      have hok : fvK (sl g 0 m) false e = false := by unfold fvK; rw [decide_eq_false (fun h => h hE2)]; rfl
      have hst2 : (fvS ws (sl g 0 m) false (i + 1)) = w := by
        rw [hst, hok]
        exact fvN_no
      have ih := ih (i + 1) _ ⟨by omega, rfl⟩ (by omega)
      rw [hst2] at ih
      exact ih
    · refine RQ.brF rfl rfl rfl (decide_eq_false (fun e => hE ((lI_neg (by omega)).mp e))) ?_
      refine RQ.blk 1 (pc' := 38) (lv' := [(6, .int y), (5, .int (nI i)), (4, .int (lI w)), (0, .ref (b + 1)), (1, .ref (a + 1)), (2, .int (nI m)), (3, .int 0)]) (st' := [.int y]) (H' := _) (kc' := 0) (ks' := 0) rfl ?_
      by_cases hc : 0 < cmpL e.1 (sl g 0 m)
      · refine RQ.brT rfl rfl rfl (decide_eq_true ((cmp_gt0 hy).mpr hc)) ?_
        refine RQ.blk 1 (pc' := 52) (lv' := [(6, .int y), (5, .int (nI i)), (4, .int (lI w)), (0, .ref (b + 1)), (1, .ref (a + 1)), (2, .int (nI m)), (3, .int 0)]) (st' := [.int (lI w)]) (H' := _) (kc' := 0) (ks' := 0) rfl ?_
        cases w with
        | none =>
          show RQ _ _ _ _ [(6, .int y), (5, .int (nI i)), (4, .int (-1)), (0, .ref (b + 1)), (1, .ref (a + 1)), (2, .int (nI m)), (3, .int 0)] [.int (-1)] _ _ _ _
          refine RQ.brT rfl rfl rfl (by decide) ?_
          refine RQ.blk 3 (pc' := 89) (lv' := [(5, .int (nI i + 1)), (4, .int (nI i)), (6, .int y), (0, .ref (b + 1)), (1, .ref (a + 1)), (2, .int (nI m)), (3, .int 0)]) (st' := []) (H' := _) (kc' := 0) (ks' := 0) rfl ?_
          rw [show (nI i + 1 : Int32) = nI (i + 1) from nI_add i 1]
          refine RQ.blk 1 (pc' := 6) (lv' := [(5, .int (nI (i + 1))), (4, .int (nI i)), (6, .int y), (0, .ref (b + 1)), (1, .ref (a + 1)), (2, .int (nI m)), (3, .int 0)]) (st' := []) (H' := _) (kc' := 0) (ks' := 0) rfl ?_
          refine RQ.pick (a := [(5, .int (nI (i + 1))), (4, .int (nI i)), (0, .ref (b + 1)), (1, .ref (a + 1)), (2, .int (nI m)), (3, .int 0)]) [0, 1, 3, 4, 5, 6] [5, 4, 6, 0, 1, 2, 3] rfl rfl (by decide) ?_
          have hE2 : ¬ e.2 = none := by rw [e3] at hE; cases h9 : e.2 with | none => rw [h9] at hE; exact absurd rfl hE | some l => exact Option.some_ne_none _
          have hok : fvK (sl g 0 m) false e = true := by unfold fvK; rw [decide_eq_true (show e.2 ≠ none from hE2), decide_eq_true hc, Bool.true_or]; rfl
          have hst2 : (fvS ws (sl g 0 m) false (i + 1)) = some i := by
            rw [hst, hok]
            show (if true = true then some i else none) = some i
            exact if_pos rfl
          have ih := ih (i + 1) _ ⟨by omega, rfl⟩ (by omega)
          rw [hst2] at ih
          exact ih
        | some j =>
          show RQ _ _ _ _ [(6, .int y), (5, .int (nI i)), (4, .int (nI j)), (0, .ref (b + 1)), (1, .ref (a + 1)), (2, .int (nI m)), (3, .int 0)] [.int (nI j)] _ _ _ _
          have hj1 := hlt j rfl
          refine RQ.brF rfl rfl rfl (cF_lt j 0) ?_
          refine RQ.blk 3 (pc' := 59) (lv' := [(6, .int y), (5, .int (nI i)), (4, .int (nI j)), (0, .ref (b + 1)), (1, .ref (a + 1)), (2, .int (nI m)), (3, .int 0)]) (st' := [.ref (b + 1), .int (nI j), .ref (b + 1)]) (H' := _) (kc' := 0) (ks' := 0) rfl ?_
          refine RQ.get (ci := 0) rfl hb.1 rfl rfl ?_
          refine RQ.blk 1 (pc' := 63) (lv' := [(6, .int y), (5, .int (nI i)), (4, .int (nI j)), (0, .ref (b + 1)), (1, .ref (a + 1)), (2, .int (nI m)), (3, .int 0)]) (st' := [.ref (b + 1), .ref ((b + 1) + 1), .int (nI j), .ref (b + 1)]) (H' := _) (kc' := 0) (ks' := 0) rfl ?_
          refine RQ.get (ci := 0) rfl hb.1 rfl rfl ?_
          refine RQ.blk 1 (pc' := 68) (lv' := [(6, .int y), (5, .int (nI i)), (4, .int (nI j)), (0, .ref (b + 1)), (1, .ref (a + 1)), (2, .int (nI m)), (3, .int 0)]) (st' := [.int (nI i), .ref ((b + 2) + 1), .ref ((b + 1) + 1), .int (nI j), .ref (b + 1)]) (H' := _) (kc' := 0) (ks' := 0) rfl ?_
          refine RQ.ialdN (j := i) rfl hb.2.2.1 (by omega) (by decide) ?_
          refine RQ.blk 1 (pc' := 70) (lv' := [(6, .int y), (5, .int (nI i)), (4, .int (nI j)), (0, .ref (b + 1)), (1, .ref (a + 1)), (2, .int (nI m)), (3, .int 0)]) (st' := [.ref (b + 1), .int (nI (S i)), .ref ((b + 1) + 1), .int (nI j), .ref (b + 1)]) (H' := _) (kc' := 0) (ks' := 0) rfl ?_
          refine RQ.get (ci := 0) rfl hb.1 rfl rfl ?_
          refine RQ.blk 1 (pc' := 75) (lv' := [(6, .int y), (5, .int (nI i)), (4, .int (nI j)), (0, .ref (b + 1)), (1, .ref (a + 1)), (2, .int (nI m)), (3, .int 0)]) (st' := [.int (nI i), .ref ((b + 3) + 1), .int (nI (S i)), .ref ((b + 1) + 1), .int (nI j), .ref (b + 1)]) (H' := _) (kc' := 0) (ks' := 0) rfl ?_
          refine RQ.ialdN (j := i) rfl hb.2.2.2.1 (by omega) (by decide) ?_
          refine RQ.callI (st' := []) rfl rfl rfl rfl rfl rfl (args_v [.int (nI (K i)), .int (nI (S i)), .ref ((b + 1) + 1), .int (nI j)] [] rfl rfl (Nat.le_of_ble_eq_true rfl) rfl hb.1 (Nat.le_of_ble_eq_true rfl)) (ri_compareWith (i := j) (j := S i) (m := K i) hb hbk hb.2.1 (by decide) (by omega) (by omega)) (fun z H3 hz => ?_)
          obtain ⟨eH3, hz⟩ := hz
          subst eH3
          obtain ⟨e2j, hej⟩ := lt_get (l := ws) (i := j) (by omega)
          rw [hL.key hej, hke] at hz
          have hkj : keyAt ws j = e2j.1 := by unfold keyAt; rw [List.getD_eq_getElem?_getD, hej]; rfl
          by_cases hgt : 0 < cmpL e2j.1 e.1
          · refine RQ.brF rfl rfl rfl (decide_eq_false (Int32.not_le.mpr ((cmp_gt0 hz).mpr hgt))) ?_
            refine RQ.blk 3 (pc' := 89) (lv' := [(5, .int (nI i + 1)), (4, .int (nI i)), (6, .int y), (0, .ref (b + 1)), (1, .ref (a + 1)), (2, .int (nI m)), (3, .int 0)]) (st' := []) (H' := _) (kc' := 0) (ks' := 0) rfl ?_
            rw [show (nI i + 1 : Int32) = nI (i + 1) from nI_add i 1]
            refine RQ.blk 1 (pc' := 6) (lv' := [(5, .int (nI (i + 1))), (4, .int (nI i)), (6, .int y), (0, .ref (b + 1)), (1, .ref (a + 1)), (2, .int (nI m)), (3, .int 0)]) (st' := []) (H' := _) (kc' := 0) (ks' := 0) rfl ?_
            refine RQ.pick (a := [(5, .int (nI (i + 1))), (4, .int (nI i)), (0, .ref (b + 1)), (1, .ref (a + 1)), (2, .int (nI m)), (3, .int 0)]) [0, 1, 3, 4, 5, 6] [5, 4, 6, 0, 1, 2, 3] rfl rfl (by decide) ?_
            have hE2 : ¬ e.2 = none := by rw [e3] at hE; cases h9 : e.2 with | none => rw [h9] at hE; exact absurd rfl hE | some l => exact Option.some_ne_none _
            have hok : fvK (sl g 0 m) false e = true := by unfold fvK; rw [decide_eq_true (show e.2 ≠ none from hE2), decide_eq_true hc, Bool.true_or]; rfl
            have hst2 : (fvS ws (sl g 0 m) false (i + 1)) = some i := by
              rw [hst, hok]
              show (if true = true ∧ 0 < cmpL (keyAt ws j) (keyAt ws i) then some i else some j) = _
              rw [hka, hkj]
              exact if_pos ⟨rfl, hgt⟩
            have ih := ih (i + 1) _ ⟨by omega, rfl⟩ (by omega)
            rw [hst2] at ih
            exact ih
          · refine RQ.brT rfl rfl rfl (decide_eq_true (Int32.not_lt.mp (fun e => hgt ((cmp_gt0 hz).mp e)))) ?_
            refine RQ.blk 1 (pc' := 89) (lv' := [(5, .int (nI i + 1)), (6, .int y), (4, .int (nI j)), (0, .ref (b + 1)), (1, .ref (a + 1)), (2, .int (nI m)), (3, .int 0)]) (st' := []) (H' := _) (kc' := 0) (ks' := 0) rfl ?_
            rw [show (nI i + 1 : Int32) = nI (i + 1) from nI_add i 1]
            refine RQ.blk 1 (pc' := 6) (lv' := [(5, .int (nI (i + 1))), (6, .int y), (4, .int (nI j)), (0, .ref (b + 1)), (1, .ref (a + 1)), (2, .int (nI m)), (3, .int 0)]) (st' := []) (H' := _) (kc' := 0) (ks' := 0) rfl ?_
            refine RQ.pick (a := [(5, .int (nI (i + 1))), (4, .int (nI j)), (0, .ref (b + 1)), (1, .ref (a + 1)), (2, .int (nI m)), (3, .int 0)]) [0, 2, 3, 4, 5, 6] [5, 6, 4, 0, 1, 2, 3] rfl rfl (by decide) ?_
            have hE2 : ¬ e.2 = none := by rw [e3] at hE; cases h9 : e.2 with | none => rw [h9] at hE; exact absurd rfl hE | some l => exact Option.some_ne_none _
            have hok : fvK (sl g 0 m) false e = true := by unfold fvK; rw [decide_eq_true (show e.2 ≠ none from hE2), decide_eq_true hc, Bool.true_or]; rfl
            have hst2 : (fvS ws (sl g 0 m) false (i + 1)) = some j := by
              rw [hst, hok]
              show (if true = true ∧ 0 < cmpL (keyAt ws j) (keyAt ws i) then some i else some j) = _
              rw [hka, hkj]
              exact if_neg (fun e9 => hgt e9.2)
            have ih := ih (i + 1) _ ⟨by omega, rfl⟩ (by omega)
            rw [hst2] at ih
            exact ih
      · refine RQ.brF rfl rfl rfl (decide_eq_false (fun e => hc ((cmp_gt0 hy).mp e))) ?_
        refine RQ.blk 1 (pc' := 43) (lv' := [(6, .int y), (5, .int (nI i)), (4, .int (lI w)), (0, .ref (b + 1)), (1, .ref (a + 1)), (2, .int (nI m)), (3, .int 0)]) (st' := [.int y]) (H' := _) (kc' := 0) (ks' := 0) rfl ?_
        by_cases hc2 : cmpL e.1 (sl g 0 m) = 0
        · refine RQ.brF rfl rfl rfl (bnf ((cmp_eq0 hy).mpr hc2)) ?_
          refine RQ.blk 1 (pc' := 47) (lv' := [(6, .int y), (5, .int (nI i)), (4, .int (lI w)), (0, .ref (b + 1)), (1, .ref (a + 1)), (2, .int (nI m)), (3, .int 0)]) (st' := [.int 0]) (H' := _) (kc' := 0) (ks' := 0) rfl ?_
          refine RQ.brF rfl rfl rfl (by decide) ?_
          refine RQ.blk 1 (pc' := 52) (lv' := [(6, .int y), (5, .int (nI i)), (4, .int (lI w)), (0, .ref (b + 1)), (1, .ref (a + 1)), (2, .int (nI m)), (3, .int 0)]) (st' := [.int (lI w)]) (H' := _) (kc' := 0) (ks' := 0) rfl ?_
          cases w with
          | none =>
            show RQ _ _ _ _ [(6, .int y), (5, .int (nI i)), (4, .int (-1)), (0, .ref (b + 1)), (1, .ref (a + 1)), (2, .int (nI m)), (3, .int 0)] [.int (-1)] _ _ _ _
            refine RQ.brT rfl rfl rfl (by decide) ?_
            refine RQ.blk 3 (pc' := 89) (lv' := [(5, .int (nI i + 1)), (4, .int (nI i)), (6, .int y), (0, .ref (b + 1)), (1, .ref (a + 1)), (2, .int (nI m)), (3, .int 0)]) (st' := []) (H' := _) (kc' := 0) (ks' := 0) rfl ?_
            rw [show (nI i + 1 : Int32) = nI (i + 1) from nI_add i 1]
            refine RQ.blk 1 (pc' := 6) (lv' := [(5, .int (nI (i + 1))), (4, .int (nI i)), (6, .int y), (0, .ref (b + 1)), (1, .ref (a + 1)), (2, .int (nI m)), (3, .int 0)]) (st' := []) (H' := _) (kc' := 0) (ks' := 0) rfl ?_
            refine RQ.pick (a := [(5, .int (nI (i + 1))), (4, .int (nI i)), (0, .ref (b + 1)), (1, .ref (a + 1)), (2, .int (nI m)), (3, .int 0)]) [0, 1, 3, 4, 5, 6] [5, 4, 6, 0, 1, 2, 3] rfl rfl (by decide) ?_
            have hE2 : ¬ e.2 = none := by rw [e3] at hE; cases h9 : e.2 with | none => rw [h9] at hE; exact absurd rfl hE | some l => exact Option.some_ne_none _
            have hok : fvK (sl g 0 m) false e = true := by unfold fvK; rw [decide_eq_true (show e.2 ≠ none from hE2), decide_eq_true hc2, Bool.not_false, Bool.and_true, Bool.or_true]; rfl
            have hst2 : (fvS ws (sl g 0 m) false (i + 1)) = some i := by
              rw [hst, hok]
              show (if true = true then some i else none) = some i
              exact if_pos rfl
            have ih := ih (i + 1) _ ⟨by omega, rfl⟩ (by omega)
            rw [hst2] at ih
            exact ih
          | some j =>
            show RQ _ _ _ _ [(6, .int y), (5, .int (nI i)), (4, .int (nI j)), (0, .ref (b + 1)), (1, .ref (a + 1)), (2, .int (nI m)), (3, .int 0)] [.int (nI j)] _ _ _ _
            have hj1 := hlt j rfl
            refine RQ.brF rfl rfl rfl (cF_lt j 0) ?_
            refine RQ.blk 3 (pc' := 59) (lv' := [(6, .int y), (5, .int (nI i)), (4, .int (nI j)), (0, .ref (b + 1)), (1, .ref (a + 1)), (2, .int (nI m)), (3, .int 0)]) (st' := [.ref (b + 1), .int (nI j), .ref (b + 1)]) (H' := _) (kc' := 0) (ks' := 0) rfl ?_
            refine RQ.get (ci := 0) rfl hb.1 rfl rfl ?_
            refine RQ.blk 1 (pc' := 63) (lv' := [(6, .int y), (5, .int (nI i)), (4, .int (nI j)), (0, .ref (b + 1)), (1, .ref (a + 1)), (2, .int (nI m)), (3, .int 0)]) (st' := [.ref (b + 1), .ref ((b + 1) + 1), .int (nI j), .ref (b + 1)]) (H' := _) (kc' := 0) (ks' := 0) rfl ?_
            refine RQ.get (ci := 0) rfl hb.1 rfl rfl ?_
            refine RQ.blk 1 (pc' := 68) (lv' := [(6, .int y), (5, .int (nI i)), (4, .int (nI j)), (0, .ref (b + 1)), (1, .ref (a + 1)), (2, .int (nI m)), (3, .int 0)]) (st' := [.int (nI i), .ref ((b + 2) + 1), .ref ((b + 1) + 1), .int (nI j), .ref (b + 1)]) (H' := _) (kc' := 0) (ks' := 0) rfl ?_
            refine RQ.ialdN (j := i) rfl hb.2.2.1 (by omega) (by decide) ?_
            refine RQ.blk 1 (pc' := 70) (lv' := [(6, .int y), (5, .int (nI i)), (4, .int (nI j)), (0, .ref (b + 1)), (1, .ref (a + 1)), (2, .int (nI m)), (3, .int 0)]) (st' := [.ref (b + 1), .int (nI (S i)), .ref ((b + 1) + 1), .int (nI j), .ref (b + 1)]) (H' := _) (kc' := 0) (ks' := 0) rfl ?_
            refine RQ.get (ci := 0) rfl hb.1 rfl rfl ?_
            refine RQ.blk 1 (pc' := 75) (lv' := [(6, .int y), (5, .int (nI i)), (4, .int (nI j)), (0, .ref (b + 1)), (1, .ref (a + 1)), (2, .int (nI m)), (3, .int 0)]) (st' := [.int (nI i), .ref ((b + 3) + 1), .int (nI (S i)), .ref ((b + 1) + 1), .int (nI j), .ref (b + 1)]) (H' := _) (kc' := 0) (ks' := 0) rfl ?_
            refine RQ.ialdN (j := i) rfl hb.2.2.2.1 (by omega) (by decide) ?_
            refine RQ.callI (st' := []) rfl rfl rfl rfl rfl rfl (args_v [.int (nI (K i)), .int (nI (S i)), .ref ((b + 1) + 1), .int (nI j)] [] rfl rfl (Nat.le_of_ble_eq_true rfl) rfl hb.1 (Nat.le_of_ble_eq_true rfl)) (ri_compareWith (i := j) (j := S i) (m := K i) hb hbk hb.2.1 (by decide) (by omega) (by omega)) (fun z H3 hz => ?_)
            obtain ⟨eH3, hz⟩ := hz
            subst eH3
            obtain ⟨e2j, hej⟩ := lt_get (l := ws) (i := j) (by omega)
            rw [hL.key hej, hke] at hz
            have hkj : keyAt ws j = e2j.1 := by unfold keyAt; rw [List.getD_eq_getElem?_getD, hej]; rfl
            by_cases hgt : 0 < cmpL e2j.1 e.1
            · refine RQ.brF rfl rfl rfl (decide_eq_false (Int32.not_le.mpr ((cmp_gt0 hz).mpr hgt))) ?_
              refine RQ.blk 3 (pc' := 89) (lv' := [(5, .int (nI i + 1)), (4, .int (nI i)), (6, .int y), (0, .ref (b + 1)), (1, .ref (a + 1)), (2, .int (nI m)), (3, .int 0)]) (st' := []) (H' := _) (kc' := 0) (ks' := 0) rfl ?_
              rw [show (nI i + 1 : Int32) = nI (i + 1) from nI_add i 1]
              refine RQ.blk 1 (pc' := 6) (lv' := [(5, .int (nI (i + 1))), (4, .int (nI i)), (6, .int y), (0, .ref (b + 1)), (1, .ref (a + 1)), (2, .int (nI m)), (3, .int 0)]) (st' := []) (H' := _) (kc' := 0) (ks' := 0) rfl ?_
              refine RQ.pick (a := [(5, .int (nI (i + 1))), (4, .int (nI i)), (0, .ref (b + 1)), (1, .ref (a + 1)), (2, .int (nI m)), (3, .int 0)]) [0, 1, 3, 4, 5, 6] [5, 4, 6, 0, 1, 2, 3] rfl rfl (by decide) ?_
              have hE2 : ¬ e.2 = none := by rw [e3] at hE; cases h9 : e.2 with | none => rw [h9] at hE; exact absurd rfl hE | some l => exact Option.some_ne_none _
              have hok : fvK (sl g 0 m) false e = true := by unfold fvK; rw [decide_eq_true (show e.2 ≠ none from hE2), decide_eq_true hc2, Bool.not_false, Bool.and_true, Bool.or_true]; rfl
              have hst2 : (fvS ws (sl g 0 m) false (i + 1)) = some i := by
                rw [hst, hok]
                show (if true = true ∧ 0 < cmpL (keyAt ws j) (keyAt ws i) then some i else some j) = _
                rw [hka, hkj]
                exact if_pos ⟨rfl, hgt⟩
              have ih := ih (i + 1) _ ⟨by omega, rfl⟩ (by omega)
              rw [hst2] at ih
              exact ih
            · refine RQ.brT rfl rfl rfl (decide_eq_true (Int32.not_lt.mp (fun e => hgt ((cmp_gt0 hz).mp e)))) ?_
              refine RQ.blk 1 (pc' := 89) (lv' := [(5, .int (nI i + 1)), (6, .int y), (4, .int (nI j)), (0, .ref (b + 1)), (1, .ref (a + 1)), (2, .int (nI m)), (3, .int 0)]) (st' := []) (H' := _) (kc' := 0) (ks' := 0) rfl ?_
              rw [show (nI i + 1 : Int32) = nI (i + 1) from nI_add i 1]
              refine RQ.blk 1 (pc' := 6) (lv' := [(5, .int (nI (i + 1))), (6, .int y), (4, .int (nI j)), (0, .ref (b + 1)), (1, .ref (a + 1)), (2, .int (nI m)), (3, .int 0)]) (st' := []) (H' := _) (kc' := 0) (ks' := 0) rfl ?_
              refine RQ.pick (a := [(5, .int (nI (i + 1))), (4, .int (nI j)), (0, .ref (b + 1)), (1, .ref (a + 1)), (2, .int (nI m)), (3, .int 0)]) [0, 2, 3, 4, 5, 6] [5, 6, 4, 0, 1, 2, 3] rfl rfl (by decide) ?_
              have hE2 : ¬ e.2 = none := by rw [e3] at hE; cases h9 : e.2 with | none => rw [h9] at hE; exact absurd rfl hE | some l => exact Option.some_ne_none _
              have hok : fvK (sl g 0 m) false e = true := by unfold fvK; rw [decide_eq_true (show e.2 ≠ none from hE2), decide_eq_true hc2, Bool.not_false, Bool.and_true, Bool.or_true]; rfl
              have hst2 : (fvS ws (sl g 0 m) false (i + 1)) = some j := by
                rw [hst, hok]
                show (if true = true ∧ 0 < cmpL (keyAt ws j) (keyAt ws i) then some i else some j) = _
                rw [hka, hkj]
                exact if_neg (fun e9 => hgt e9.2)
              have ih := ih (i + 1) _ ⟨by omega, rfl⟩ (by omega)
              rw [hst2] at ih
              exact ih
        · refine RQ.brT rfl rfl rfl (bnt (fun e => hc2 ((cmp_eq0 hy).mp e))) ?_
          refine RQ.blk 1 (pc' := 89) (lv' := [(5, .int (nI i + 1)), (6, .int y), (4, .int (lI w)), (0, .ref (b + 1)), (1, .ref (a + 1)), (2, .int (nI m)), (3, .int 0)]) (st' := []) (H' := _) (kc' := 0) (ks' := 0) rfl ?_
          rw [show (nI i + 1 : Int32) = nI (i + 1) from nI_add i 1]
          refine RQ.blk 1 (pc' := 6) (lv' := [(5, .int (nI (i + 1))), (6, .int y), (4, .int (lI w)), (0, .ref (b + 1)), (1, .ref (a + 1)), (2, .int (nI m)), (3, .int 0)]) (st' := []) (H' := _) (kc' := 0) (ks' := 0) rfl ?_
          refine RQ.pick (a := [(5, .int (nI (i + 1))), (4, .int (lI w)), (0, .ref (b + 1)), (1, .ref (a + 1)), (2, .int (nI m)), (3, .int 0)]) [0, 2, 3, 4, 5, 6] [5, 6, 4, 0, 1, 2, 3] rfl rfl (by decide) ?_
          have hE2 : ¬ e.2 = none := by rw [e3] at hE; cases h9 : e.2 with | none => rw [h9] at hE; exact absurd rfl hE | some l => exact Option.some_ne_none _
          have hok : fvK (sl g 0 m) false e = false := by unfold fvK; rw [decide_eq_false hc, decide_eq_false hc2]; simp
          have hst2 : (fvS ws (sl g 0 m) false (i + 1)) = w := by
            rw [hst, hok]
            exact fvN_no
          have ih := ih (i + 1) _ ⟨by omega, rfl⟩ (by omega)
          rw [hst2] at ih
          exact ih
  ·
    have hie : i = ws.length := by omega
    refine RQ.blk 2 (pc' := 9) (lv' := [(5, .int (nI i)), (4, .int (lI (fvS ws (sl g 0 m) false i))), (0, .ref (b + 1)), (1, .ref (a + 1)), (2, .int (nI m)), (3, .int 0)]) (st' := [.ref (b + 1), .int (nI i)]) (H' := _) (kc' := 0) (ks' := 0) rfl ?_
    refine RQ.get (ci := 0) rfl hb.1 rfl rfl ?_
    refine RQ.brT rfl rfl rfl (cT_ge i ws.length) ?_
    refine RQ.blk 1 (pc' := 94) (lv' := [(5, .int (nI i)), (4, .int (lI (fvS ws (sl g 0 m) false i))), (0, .ref (b + 1)), (1, .ref (a + 1)), (2, .int (nI m)), (3, .int 0)]) (st' := [.int (lI (fvS ws (sl g 0 m) false i))]) (H' := _) (kc' := 0) (ks' := 0) rfl ?_
    exact RQ.done (c := 0) (s := 0) rfl rfl rfl rfl (by rw [hie])
theorem rc_firstV1 {sc : Nat × (Nat → Int32)} {d a na m b u : Nat} {H : aH} {D : Nat → Int8} {S K : Nat → Nat} {E : Nat → Option Nat} {ws : List aE} {g : Nat → Int8} (hb : BatchAt H b D S K E ws.length u) (hbk : BatchOk S K E ws.length u) (hL : LayE D 0 S K E ws) (h1 : H[a]? = some (kB na g)) (hna : na < 2 ^ 30) (hm : m ≤ na) : RC sc (d + 2) mr_75 [.ref (b + 1), .ref (a + 1), .int (nI m), .int 1] H (.inl (some (.int (lI (fvS ws (sl g 0 m) true ws.length))))) H 0 0 := by
  have hn40 := hbk.1
  have hu41 := hbk.2.1
  refine RC.of ?_
  refine RQ.blk 4 (pc' := 6) (lv' := [(5, .int 0), (4, .int (-1)), (0, .ref (b + 1)), (1, .ref (a + 1)), (2, .int (nI m)), (3, .int 1)]) (st' := []) (H' := _) (kc' := 0) (ks' := 0) rfl ?_
  refine RQ.while (S := Nat) (pc := 6) (fun i H' => i ≤ ws.length ∧ H' = H) (fun i => [(5, .int (nI i)), (4, .int (lI (fvS ws (sl g 0 m) true i))), (0, .ref (b + 1)), (1, .ref (a + 1)), (2, .int (nI m)), (3, .int 1)]) (fun i => ws.length - i) ?_ 0 H ⟨Nat.zero_le _, rfl⟩
  rintro i H1 ⟨hi, eH⟩ ih
  rw [show H1 = H from eH]
  by_cases hil : i < ws.length
  ·
    obtain ⟨e, he⟩ := lt_get hil
    obtain ⟨e1, e2, e3, -⟩ := hL i e he
    have hke : sl D (S i) (K i) = e.1 := hL.key he
    have hSK := hbk.2.2 i hil
    have hgd : ws.getD i ([], none) = e := by rw [List.getD_eq_getElem?_getD, he]; rfl
    have hka : keyAt ws i = e.1 := by unfold keyAt; rw [hgd]
    have hst : (fvS ws (sl g 0 m) true (i + 1)) = fvN ws (fvS ws (sl g 0 m) true i) i (fvK (sl g 0 m) true e) := by rw [← hgd]; rfl
    have hlt := fun j => fvS_lt (ws := ws) (k := sl g 0 m) (bey := true) (n := i) (i := j)
    generalize hw : (fvS ws (sl g 0 m) true i) = w at hst hlt ⊢
    refine RQ.blk 2 (pc' := 9) (lv' := [(5, .int (nI i)), (4, .int (lI w)), (0, .ref (b + 1)), (1, .ref (a + 1)), (2, .int (nI m)), (3, .int 1)]) (st' := [.ref (b + 1), .int (nI i)]) (H' := _) (kc' := 0) (ks' := 0) rfl ?_
    refine RQ.get (ci := 0) rfl hb.1 rfl rfl ?_
    refine RQ.brF rfl rfl rfl (cF_ge i ws.length) ?_
    refine RQ.blk 5 (pc' := 21) (lv' := [(5, .int (nI i)), (4, .int (lI w)), (0, .ref (b + 1)), (1, .ref (a + 1)), (2, .int (nI m)), (3, .int 1)]) (st' := [.int (nI m), .int 0, .ref (a + 1), .int (nI i), .ref (b + 1)]) (H' := _) (kc' := 0) (ks' := 0) rfl ?_
    refine RQ.callI (st' := []) rfl rfl rfl rfl rfl rfl (args_v [.int (nI m), .int 0, .ref (a + 1), .int (nI i)] [] rfl rfl (Nat.le_of_ble_eq_true rfl) rfl hb.1 (Nat.le_of_ble_eq_true rfl)) (ri_compareWith (i := i) (j := 0) (m := m) hb hbk h1 hna (by omega) hil) (fun y H2 hy => ?_)
    obtain ⟨eH2, hy⟩ := hy
    subst eH2
    rw [hke] at hy
    refine RQ.blk 2 (pc' := 27) (lv' := [(6, .int y), (5, .int (nI i)), (4, .int (lI w)), (0, .ref (b + 1)), (1, .ref (a + 1)), (2, .int (nI m)), (3, .int 1)]) (st' := [.ref (b + 1)]) (H' := _) (kc' := 0) (ks' := 0) rfl ?_
    refine RQ.get (ci := 0) rfl hb.1 rfl rfl ?_
    refine RQ.blk 1 (pc' := 32) (lv' := [(6, .int y), (5, .int (nI i)), (4, .int (lI w)), (0, .ref (b + 1)), (1, .ref (a + 1)), (2, .int (nI m)), (3, .int 1)]) (st' := [.int (nI i), .ref ((b + 4) + 1)]) (H' := _) (kc' := 0) (ks' := 0) rfl ?_
    refine RQ.ialdN (j := i) rfl hb.2.2.2.2 (by omega) (by decide) ?_
    by_cases hE : E i = none
    · refine RQ.brT rfl rfl rfl (decide_eq_true ((lI_neg (by omega)).mpr hE)) ?_
      refine RQ.blk 1 (pc' := 89) (lv' := [(5, .int (nI i + 1)), (6, .int y), (4, .int (lI w)), (0, .ref (b + 1)), (1, .ref (a + 1)), (2, .int (nI m)), (3, .int 1)]) (st' := []) (H' := _) (kc' := 0) (ks' := 0) rfl ?_
      rw [show (nI i + 1 : Int32) = nI (i + 1) from nI_add i 1]
      refine RQ.blk 1 (pc' := 6) (lv' := [(5, .int (nI (i + 1))), (6, .int y), (4, .int (lI w)), (0, .ref (b + 1)), (1, .ref (a + 1)), (2, .int (nI m)), (3, .int 1)]) (st' := []) (H' := _) (kc' := 0) (ks' := 0) rfl ?_
      refine RQ.pick (a := [(5, .int (nI (i + 1))), (4, .int (lI w)), (0, .ref (b + 1)), (1, .ref (a + 1)), (2, .int (nI m)), (3, .int 1)]) [0, 2, 3, 4, 5, 6] [5, 6, 4, 0, 1, 2, 3] rfl rfl (by decide) ?_
      have hE2 : e.2 = none := by rw [e3] at hE; cases h9 : e.2 with | none => rfl | some l => rw [h9] at hE; cases hE
      have hok : fvK (sl g 0 m) true e = false := by unfold fvK; rw [decide_eq_false (fun h => h hE2)]; rfl
      have hst2 : (fvS ws (sl g 0 m) true (i + 1)) = w := by
        rw [hst, hok]
        exact fvN_no
      have ih := ih (i + 1) _ ⟨by omega, rfl⟩ (by omega)
      rw [hst2] at ih
      exact ih
    · refine RQ.brF rfl rfl rfl (decide_eq_false (fun e => hE ((lI_neg (by omega)).mp e))) ?_
      refine RQ.blk 1 (pc' := 38) (lv' := [(6, .int y), (5, .int (nI i)), (4, .int (lI w)), (0, .ref (b + 1)), (1, .ref (a + 1)), (2, .int (nI m)), (3, .int 1)]) (st' := [.int y]) (H' := _) (kc' := 0) (ks' := 0) rfl ?_
      by_cases hc : 0 < cmpL e.1 (sl g 0 m)
      · refine RQ.brT rfl rfl rfl (decide_eq_true ((cmp_gt0 hy).mpr hc)) ?_
        refine RQ.blk 1 (pc' := 52) (lv' := [(6, .int y), (5, .int (nI i)), (4, .int (lI w)), (0, .ref (b + 1)), (1, .ref (a + 1)), (2, .int (nI m)), (3, .int 1)]) (st' := [.int (lI w)]) (H' := _) (kc' := 0) (ks' := 0) rfl ?_
        cases w with
        | none =>
          show RQ _ _ _ _ [(6, .int y), (5, .int (nI i)), (4, .int (-1)), (0, .ref (b + 1)), (1, .ref (a + 1)), (2, .int (nI m)), (3, .int 1)] [.int (-1)] _ _ _ _
          refine RQ.brT rfl rfl rfl (by decide) ?_
          refine RQ.blk 3 (pc' := 89) (lv' := [(5, .int (nI i + 1)), (4, .int (nI i)), (6, .int y), (0, .ref (b + 1)), (1, .ref (a + 1)), (2, .int (nI m)), (3, .int 1)]) (st' := []) (H' := _) (kc' := 0) (ks' := 0) rfl ?_
          rw [show (nI i + 1 : Int32) = nI (i + 1) from nI_add i 1]
          refine RQ.blk 1 (pc' := 6) (lv' := [(5, .int (nI (i + 1))), (4, .int (nI i)), (6, .int y), (0, .ref (b + 1)), (1, .ref (a + 1)), (2, .int (nI m)), (3, .int 1)]) (st' := []) (H' := _) (kc' := 0) (ks' := 0) rfl ?_
          refine RQ.pick (a := [(5, .int (nI (i + 1))), (4, .int (nI i)), (0, .ref (b + 1)), (1, .ref (a + 1)), (2, .int (nI m)), (3, .int 1)]) [0, 1, 3, 4, 5, 6] [5, 4, 6, 0, 1, 2, 3] rfl rfl (by decide) ?_
          have hE2 : ¬ e.2 = none := by rw [e3] at hE; cases h9 : e.2 with | none => rw [h9] at hE; exact absurd rfl hE | some l => exact Option.some_ne_none _
          have hok : fvK (sl g 0 m) true e = true := by unfold fvK; rw [decide_eq_true (show e.2 ≠ none from hE2), decide_eq_true hc, Bool.true_or]; rfl
          have hst2 : (fvS ws (sl g 0 m) true (i + 1)) = some i := by
            rw [hst, hok]
            show (if true = true then some i else none) = some i
            exact if_pos rfl
          have ih := ih (i + 1) _ ⟨by omega, rfl⟩ (by omega)
          rw [hst2] at ih
          exact ih
        | some j =>
          show RQ _ _ _ _ [(6, .int y), (5, .int (nI i)), (4, .int (nI j)), (0, .ref (b + 1)), (1, .ref (a + 1)), (2, .int (nI m)), (3, .int 1)] [.int (nI j)] _ _ _ _
          have hj1 := hlt j rfl
          refine RQ.brF rfl rfl rfl (cF_lt j 0) ?_
          refine RQ.blk 3 (pc' := 59) (lv' := [(6, .int y), (5, .int (nI i)), (4, .int (nI j)), (0, .ref (b + 1)), (1, .ref (a + 1)), (2, .int (nI m)), (3, .int 1)]) (st' := [.ref (b + 1), .int (nI j), .ref (b + 1)]) (H' := _) (kc' := 0) (ks' := 0) rfl ?_
          refine RQ.get (ci := 0) rfl hb.1 rfl rfl ?_
          refine RQ.blk 1 (pc' := 63) (lv' := [(6, .int y), (5, .int (nI i)), (4, .int (nI j)), (0, .ref (b + 1)), (1, .ref (a + 1)), (2, .int (nI m)), (3, .int 1)]) (st' := [.ref (b + 1), .ref ((b + 1) + 1), .int (nI j), .ref (b + 1)]) (H' := _) (kc' := 0) (ks' := 0) rfl ?_
          refine RQ.get (ci := 0) rfl hb.1 rfl rfl ?_
          refine RQ.blk 1 (pc' := 68) (lv' := [(6, .int y), (5, .int (nI i)), (4, .int (nI j)), (0, .ref (b + 1)), (1, .ref (a + 1)), (2, .int (nI m)), (3, .int 1)]) (st' := [.int (nI i), .ref ((b + 2) + 1), .ref ((b + 1) + 1), .int (nI j), .ref (b + 1)]) (H' := _) (kc' := 0) (ks' := 0) rfl ?_
          refine RQ.ialdN (j := i) rfl hb.2.2.1 (by omega) (by decide) ?_
          refine RQ.blk 1 (pc' := 70) (lv' := [(6, .int y), (5, .int (nI i)), (4, .int (nI j)), (0, .ref (b + 1)), (1, .ref (a + 1)), (2, .int (nI m)), (3, .int 1)]) (st' := [.ref (b + 1), .int (nI (S i)), .ref ((b + 1) + 1), .int (nI j), .ref (b + 1)]) (H' := _) (kc' := 0) (ks' := 0) rfl ?_
          refine RQ.get (ci := 0) rfl hb.1 rfl rfl ?_
          refine RQ.blk 1 (pc' := 75) (lv' := [(6, .int y), (5, .int (nI i)), (4, .int (nI j)), (0, .ref (b + 1)), (1, .ref (a + 1)), (2, .int (nI m)), (3, .int 1)]) (st' := [.int (nI i), .ref ((b + 3) + 1), .int (nI (S i)), .ref ((b + 1) + 1), .int (nI j), .ref (b + 1)]) (H' := _) (kc' := 0) (ks' := 0) rfl ?_
          refine RQ.ialdN (j := i) rfl hb.2.2.2.1 (by omega) (by decide) ?_
          refine RQ.callI (st' := []) rfl rfl rfl rfl rfl rfl (args_v [.int (nI (K i)), .int (nI (S i)), .ref ((b + 1) + 1), .int (nI j)] [] rfl rfl (Nat.le_of_ble_eq_true rfl) rfl hb.1 (Nat.le_of_ble_eq_true rfl)) (ri_compareWith (i := j) (j := S i) (m := K i) hb hbk hb.2.1 (by decide) (by omega) (by omega)) (fun z H3 hz => ?_)
          obtain ⟨eH3, hz⟩ := hz
          subst eH3
          obtain ⟨e2j, hej⟩ := lt_get (l := ws) (i := j) (by omega)
          rw [hL.key hej, hke] at hz
          have hkj : keyAt ws j = e2j.1 := by unfold keyAt; rw [List.getD_eq_getElem?_getD, hej]; rfl
          by_cases hgt : 0 < cmpL e2j.1 e.1
          · refine RQ.brF rfl rfl rfl (decide_eq_false (Int32.not_le.mpr ((cmp_gt0 hz).mpr hgt))) ?_
            refine RQ.blk 3 (pc' := 89) (lv' := [(5, .int (nI i + 1)), (4, .int (nI i)), (6, .int y), (0, .ref (b + 1)), (1, .ref (a + 1)), (2, .int (nI m)), (3, .int 1)]) (st' := []) (H' := _) (kc' := 0) (ks' := 0) rfl ?_
            rw [show (nI i + 1 : Int32) = nI (i + 1) from nI_add i 1]
            refine RQ.blk 1 (pc' := 6) (lv' := [(5, .int (nI (i + 1))), (4, .int (nI i)), (6, .int y), (0, .ref (b + 1)), (1, .ref (a + 1)), (2, .int (nI m)), (3, .int 1)]) (st' := []) (H' := _) (kc' := 0) (ks' := 0) rfl ?_
            refine RQ.pick (a := [(5, .int (nI (i + 1))), (4, .int (nI i)), (0, .ref (b + 1)), (1, .ref (a + 1)), (2, .int (nI m)), (3, .int 1)]) [0, 1, 3, 4, 5, 6] [5, 4, 6, 0, 1, 2, 3] rfl rfl (by decide) ?_
            have hE2 : ¬ e.2 = none := by rw [e3] at hE; cases h9 : e.2 with | none => rw [h9] at hE; exact absurd rfl hE | some l => exact Option.some_ne_none _
            have hok : fvK (sl g 0 m) true e = true := by unfold fvK; rw [decide_eq_true (show e.2 ≠ none from hE2), decide_eq_true hc, Bool.true_or]; rfl
            have hst2 : (fvS ws (sl g 0 m) true (i + 1)) = some i := by
              rw [hst, hok]
              show (if true = true ∧ 0 < cmpL (keyAt ws j) (keyAt ws i) then some i else some j) = _
              rw [hka, hkj]
              exact if_pos ⟨rfl, hgt⟩
            have ih := ih (i + 1) _ ⟨by omega, rfl⟩ (by omega)
            rw [hst2] at ih
            exact ih
          · refine RQ.brT rfl rfl rfl (decide_eq_true (Int32.not_lt.mp (fun e => hgt ((cmp_gt0 hz).mp e)))) ?_
            refine RQ.blk 1 (pc' := 89) (lv' := [(5, .int (nI i + 1)), (6, .int y), (4, .int (nI j)), (0, .ref (b + 1)), (1, .ref (a + 1)), (2, .int (nI m)), (3, .int 1)]) (st' := []) (H' := _) (kc' := 0) (ks' := 0) rfl ?_
            rw [show (nI i + 1 : Int32) = nI (i + 1) from nI_add i 1]
            refine RQ.blk 1 (pc' := 6) (lv' := [(5, .int (nI (i + 1))), (6, .int y), (4, .int (nI j)), (0, .ref (b + 1)), (1, .ref (a + 1)), (2, .int (nI m)), (3, .int 1)]) (st' := []) (H' := _) (kc' := 0) (ks' := 0) rfl ?_
            refine RQ.pick (a := [(5, .int (nI (i + 1))), (4, .int (nI j)), (0, .ref (b + 1)), (1, .ref (a + 1)), (2, .int (nI m)), (3, .int 1)]) [0, 2, 3, 4, 5, 6] [5, 6, 4, 0, 1, 2, 3] rfl rfl (by decide) ?_
            have hE2 : ¬ e.2 = none := by rw [e3] at hE; cases h9 : e.2 with | none => rw [h9] at hE; exact absurd rfl hE | some l => exact Option.some_ne_none _
            have hok : fvK (sl g 0 m) true e = true := by unfold fvK; rw [decide_eq_true (show e.2 ≠ none from hE2), decide_eq_true hc, Bool.true_or]; rfl
            have hst2 : (fvS ws (sl g 0 m) true (i + 1)) = some j := by
              rw [hst, hok]
              show (if true = true ∧ 0 < cmpL (keyAt ws j) (keyAt ws i) then some i else some j) = _
              rw [hka, hkj]
              exact if_neg (fun e9 => hgt e9.2)
            have ih := ih (i + 1) _ ⟨by omega, rfl⟩ (by omega)
            rw [hst2] at ih
            exact ih
      · refine RQ.brF rfl rfl rfl (decide_eq_false (fun e => hc ((cmp_gt0 hy).mp e))) ?_
        refine RQ.blk 1 (pc' := 43) (lv' := [(6, .int y), (5, .int (nI i)), (4, .int (lI w)), (0, .ref (b + 1)), (1, .ref (a + 1)), (2, .int (nI m)), (3, .int 1)]) (st' := [.int y]) (H' := _) (kc' := 0) (ks' := 0) rfl ?_
        by_cases hc2 : cmpL e.1 (sl g 0 m) = 0
        · refine RQ.brF rfl rfl rfl (bnf ((cmp_eq0 hy).mpr hc2)) ?_
          refine RQ.blk 1 (pc' := 47) (lv' := [(6, .int y), (5, .int (nI i)), (4, .int (lI w)), (0, .ref (b + 1)), (1, .ref (a + 1)), (2, .int (nI m)), (3, .int 1)]) (st' := [.int 1]) (H' := _) (kc' := 0) (ks' := 0) rfl ?_
          refine RQ.brT rfl rfl rfl (by decide) ?_
          refine RQ.blk 1 (pc' := 89) (lv' := [(5, .int (nI i + 1)), (6, .int y), (4, .int (lI w)), (0, .ref (b + 1)), (1, .ref (a + 1)), (2, .int (nI m)), (3, .int 1)]) (st' := []) (H' := _) (kc' := 0) (ks' := 0) rfl ?_
          rw [show (nI i + 1 : Int32) = nI (i + 1) from nI_add i 1]
          refine RQ.blk 1 (pc' := 6) (lv' := [(5, .int (nI (i + 1))), (6, .int y), (4, .int (lI w)), (0, .ref (b + 1)), (1, .ref (a + 1)), (2, .int (nI m)), (3, .int 1)]) (st' := []) (H' := _) (kc' := 0) (ks' := 0) rfl ?_
          refine RQ.pick (a := [(5, .int (nI (i + 1))), (4, .int (lI w)), (0, .ref (b + 1)), (1, .ref (a + 1)), (2, .int (nI m)), (3, .int 1)]) [0, 2, 3, 4, 5, 6] [5, 6, 4, 0, 1, 2, 3] rfl rfl (by decide) ?_
          have hE2 : ¬ e.2 = none := by rw [e3] at hE; cases h9 : e.2 with | none => rw [h9] at hE; exact absurd rfl hE | some l => exact Option.some_ne_none _
          have hok : fvK (sl g 0 m) true e = false := by unfold fvK; rw [decide_eq_false hc]; simp
          have hst2 : (fvS ws (sl g 0 m) true (i + 1)) = w := by
            rw [hst, hok]
            exact fvN_no
          have ih := ih (i + 1) _ ⟨by omega, rfl⟩ (by omega)
          rw [hst2] at ih
          exact ih
        · refine RQ.brT rfl rfl rfl (bnt (fun e => hc2 ((cmp_eq0 hy).mp e))) ?_
          refine RQ.blk 1 (pc' := 89) (lv' := [(5, .int (nI i + 1)), (6, .int y), (4, .int (lI w)), (0, .ref (b + 1)), (1, .ref (a + 1)), (2, .int (nI m)), (3, .int 1)]) (st' := []) (H' := _) (kc' := 0) (ks' := 0) rfl ?_
          rw [show (nI i + 1 : Int32) = nI (i + 1) from nI_add i 1]
          refine RQ.blk 1 (pc' := 6) (lv' := [(5, .int (nI (i + 1))), (6, .int y), (4, .int (lI w)), (0, .ref (b + 1)), (1, .ref (a + 1)), (2, .int (nI m)), (3, .int 1)]) (st' := []) (H' := _) (kc' := 0) (ks' := 0) rfl ?_
          refine RQ.pick (a := [(5, .int (nI (i + 1))), (4, .int (lI w)), (0, .ref (b + 1)), (1, .ref (a + 1)), (2, .int (nI m)), (3, .int 1)]) [0, 2, 3, 4, 5, 6] [5, 6, 4, 0, 1, 2, 3] rfl rfl (by decide) ?_
          have hE2 : ¬ e.2 = none := by rw [e3] at hE; cases h9 : e.2 with | none => rw [h9] at hE; exact absurd rfl hE | some l => exact Option.some_ne_none _
          have hok : fvK (sl g 0 m) true e = false := by unfold fvK; rw [decide_eq_false hc, decide_eq_false hc2]; simp
          have hst2 : (fvS ws (sl g 0 m) true (i + 1)) = w := by
            rw [hst, hok]
            exact fvN_no
          have ih := ih (i + 1) _ ⟨by omega, rfl⟩ (by omega)
          rw [hst2] at ih
          exact ih
  ·
    have hie : i = ws.length := by omega
    refine RQ.blk 2 (pc' := 9) (lv' := [(5, .int (nI i)), (4, .int (lI (fvS ws (sl g 0 m) true i))), (0, .ref (b + 1)), (1, .ref (a + 1)), (2, .int (nI m)), (3, .int 1)]) (st' := [.ref (b + 1), .int (nI i)]) (H' := _) (kc' := 0) (ks' := 0) rfl ?_
    refine RQ.get (ci := 0) rfl hb.1 rfl rfl ?_
    refine RQ.brT rfl rfl rfl (cT_ge i ws.length) ?_
    refine RQ.blk 1 (pc' := 94) (lv' := [(5, .int (nI i)), (4, .int (lI (fvS ws (sl g 0 m) true i))), (0, .ref (b + 1)), (1, .ref (a + 1)), (2, .int (nI m)), (3, .int 1)]) (st' := [.int (lI (fvS ws (sl g 0 m) true i))]) (H' := _) (kc' := 0) (ks' := 0) rfl ?_
    exact RQ.done (c := 0) (s := 0) rfl rfl rfl rfl (by rw [hie])
