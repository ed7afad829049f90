/-! ===== the tree: children by name, how many, numbers; class and reference; written by wip/gen/tree4.py ===== -/
/-- the first from v on, among n, of which P holds -/
def fstF (P : Nat → Bool) : Nat → Nat → Option Nat
  | _, 0 => none
  | v, n + 1 => if P v then some v else fstF P (v + 1) n
theorem fstF_hit {P : Nat → Bool} {v n : Nat} (hn : 0 < n) (h : P v = true) : fstF P v n = some v := by
  obtain ⟨m, rfl⟩ : ∃ m, n = m + 1 := ⟨n - 1, by omega⟩
  rw [fstF, if_pos h]
theorem fstF_miss {P : Nat → Bool} {v n : Nat} (hn : 0 < n) (h : P v = false) : fstF P v n = fstF P (v + 1) (n - 1) := by
  obtain ⟨m, rfl⟩ : ∃ m, n = m + 1 := ⟨n - 1, by omega⟩
  rw [fstF, if_neg (by rw [h]; decide)]
  rfl
/-- the sum from v on, over n -/
def sumF (f : Nat → Nat) : Nat → Nat
  | 0 => 0
  | n + 1 => sumF f n + f (n + 1)
/-- the class's tree: kinds, parents, sizes, lengths of names, names, how many -/
def TreeAt (H : aH) (kd pa sz nl : Nat → Nat) (nm : Nat → Int8) (no : Nat) : Prop := H[65]? = some (kO 9 [.ref 67, .ref 68, .ref 69, .ref 70, .ref 71, .int (nI no)]) ∧ H[66]? = some (kI 201 (fun j => nI (kd j))) ∧ H[67]? = some (kI 201 (fun j => nI (pa j))) ∧ H[68]? = some (kI 201 (fun j => nI (sz j))) ∧ H[69]? = some (kI 201 (fun j => nI (nl j))) ∧ H[70]? = some (kB 6030 nm)
/-- the reference's -/
def MTreeAt (H : aH) (kd pa sz nl : Nat → Nat) (nm : Nat → Int8) : Prop := H[213]? = some (kI 201 (fun j => nI (kd j))) ∧ H[214]? = some (kI 201 (fun j => nI (pa j))) ∧ H[215]? = some (kI 201 (fun j => nI (nl j))) ∧ H[216]? = some (kB 6030 nm) ∧ H[217]? = some (kI 201 (fun j => nI (sz j)))
/-- in bounds -/
def TreeOk (kd pa sz nl : Nat → Nat) : Prop := ∀ v, v ≤ 200 → kd v ≤ 2 ∧ pa v ≤ 200 ∧ sz v ≤ 16384 ∧ nl v ≤ 30
/-- v is a number used in the directory d -/
def inD (kd pa : Nat → Nat) (d v : Nat) : Bool := !(decide (kd v = 0)) && decide (pa v = d)
/-- and has that name -/
def inN (kd pa nl : Nat → Nat) (nm : Nat → Int8) (d : Nat) (key : List Nat) (v : Nat) : Bool := inD kd pa d v && decide (sl nm (v * 30) (nl v) = key)
theorem rc_isIn {sc : Nat × (Nat → Int32)} {dd v : Nat} {d : Nat} {H : aH} {kd pa sz nl : Nat → Nat} {nm : Nat → Int8} {no : Nat} (h : TreeAt H kd pa sz nl nm no) (hk : TreeOk kd pa sz nl) (h1 : 1 ≤ v) (hv : v ≤ 200) (hd : dd ≤ 200) : RC sc d mr_220 [.ref 66, .int (nI v), .int (nI dd)] H (.inl (some (.int (if inD kd pa dd v then 1 else 0)))) H 0 0 := by
  have hk_v := hk v hv
  refine RP.blk 1 (pc' := 1) (lv' := [(0, .ref 66), (1, .int (nI v)), (2, .int (nI dd))]) (st' := [.int (nI v)]) (H' := _) (kc' := 0) (ks' := 0) rfl ?_
  refine RP.brF rfl rfl rfl (cF_le v 0) ?_
  refine RP.blk 1 (pc' := 5) (lv' := [(0, .ref 66), (1, .int (nI v)), (2, .int (nI dd))]) (st' := [.ref 66]) (H' := _) (kc' := 0) (ks' := 0) rfl ?_
  refine RP.get (ci := 9) rfl h.1 rfl rfl ?_
  refine RP.blk 1 (pc' := 9) (lv' := [(0, .ref 66), (1, .int (nI v)), (2, .int (nI dd))]) (st' := [.int (nI v), .ref 67]) (H' := _) (kc' := 0) (ks' := 0) rfl ?_
  refine RP.ialdN (j := v) rfl h.2.1 (by omega) (by decide) ?_
  unfold inD
  by_cases hf : kd v = 0
  · rw [decide_eq_true hf]
    refine RP.brT rfl rfl rfl (cT_eq (kd v) 0) ?_
    refine RP.blk 1 (pc' := 28) (lv' := [(0, .ref 66), (1, .int (nI v)), (2, .int (nI dd))]) (st' := [.int 0]) (H' := _) (kc' := 0) (ks' := 0) rfl ?_
    exact RP.done (c := 0) (s := 0) rfl rfl rfl rfl
  · rw [decide_eq_false hf]
    refine RP.brF rfl rfl rfl (cF_eq (kd v) 0) ?_
    refine RP.blk 1 (pc' := 14) (lv' := [(0, .ref 66), (1, .int (nI v)), (2, .int (nI dd))]) (st' := [.ref 66]) (H' := _) (kc' := 0) (ks' := 0) rfl ?_
    refine RP.get (ci := 9) rfl h.1 rfl rfl ?_
    refine RP.blk 1 (pc' := 18) (lv' := [(0, .ref 66), (1, .int (nI v)), (2, .int (nI dd))]) (st' := [.int (nI v), .ref 68]) (H' := _) (kc' := 0) (ks' := 0) rfl ?_
    refine RP.ialdN (j := v) rfl h.2.2.1 (by omega) (by decide) ?_
    refine RP.blk 1 (pc' := 20) (lv' := [(0, .ref 66), (1, .int (nI v)), (2, .int (nI dd))]) (st' := [.int (nI dd), .int (nI (pa v))]) (H' := _) (kc' := 0) (ks' := 0) rfl ?_
    by_cases hg : pa v = dd
    · rw [decide_eq_true hg]
      refine RP.brF rfl rfl rfl (cF_ne (pa v) dd) ?_
      refine RP.blk 2 (pc' := 28) (lv' := [(0, .ref 66), (1, .int (nI v)), (2, .int (nI dd))]) (st' := [.int 1]) (H' := _) (kc' := 0) (ks' := 0) rfl ?_
      exact RP.done (c := 0) (s := 0) rfl rfl rfl rfl
    · rw [decide_eq_false hg]
      refine RP.brT rfl rfl rfl (cT_ne (pa v) dd) ?_
      refine RP.blk 1 (pc' := 28) (lv' := [(0, .ref 66), (1, .int (nI v)), (2, .int (nI dd))]) (st' := [.int 0]) (H' := _) (kc' := 0) (ks' := 0) rfl ?_
      exact RP.done (c := 0) (s := 0) rfl rfl rfl rfl
theorem rc_childNamed {sc : Nat × (Nat → Int32)} {a na j m dd : Nat} {d : Nat} {H : aH} {kd pa sz nl : Nat → Nat} {nm : Nat → Int8} {no : Nat} {g : Nat → Int8} (h : TreeAt H kd pa sz nl nm no) (hk : TreeOk kd pa sz nl) (h1 : H[a]? = some (kB na g)) (hna : na < 2 ^ 30) (hj : j + m ≤ na) (hd : dd ≤ 200) : RC sc (d + 1) mr_219 [.ref 66, .int (nI dd), .ref (a + 1), .int (nI j), .int (nI m)] H (.inl (some (.int (lI (fstF (inN kd pa nl nm dd (sl g j m)) 1 200))))) H 0 0 := by
  refine RC.of ?_
  refine RQ.blk 2 (pc' := 3) (lv' := [(5, .int 1), (0, .ref 66), (1, .int (nI dd)), (2, .ref (a + 1)), (3, .int (nI j)), (4, .int (nI m))]) (st' := []) (H' := _) (kc' := 0) (ks' := 0) rfl ?_
  refine RQ.loopQ (pc := 3) (fun i => fstF (inN kd pa nl nm dd (sl g j m)) (i + 1) (200 - i) = fstF (inN kd pa nl nm dd (sl g j m)) 1 200) (fun i => [(5, .int (nI (i + 1))), (0, .ref 66), (1, .int (nI dd)), (2, .ref (a + 1)), (3, .int (nI j)), (4, .int (nI m))]) 200 (fun i hi h2 ih => ?_) (fun h2 => ?_) rfl
  · have hk_v := hk (i + 1) (by omega)
    have nx : (inN kd pa nl nm dd (sl g j m)) (i + 1) = false → _ := fun e => ih (by rw [← h2, fstF_miss (by omega) e, show 200 - i - 1 = 200 - (i + 1) by omega])
    refine RQ.blk 2 (pc' := 8) (lv' := [(5, .int (nI (i + 1))), (0, .ref 66), (1, .int (nI dd)), (2, .ref (a + 1)), (3, .int (nI j)), (4, .int (nI m))]) (st' := [.int 200, .int (nI (i + 1))]) (H' := _) (kc' := 0) (ks' := 0) rfl ?_
    refine RQ.brF rfl rfl rfl (cF_gt (i + 1) 200) ?_
    refine RQ.blk 3 (pc' := 15) (lv' := [(5, .int (nI (i + 1))), (0, .ref 66), (1, .int (nI dd)), (2, .ref (a + 1)), (3, .int (nI j)), (4, .int (nI m))]) (st' := [.int (nI dd), .int (nI (i + 1)), .ref 66]) (H' := _) (kc' := 0) (ks' := 0) rfl ?_
    refine RQ.call (v := some (.int (if inD kd pa dd (i + 1) then 1 else 0))) (st' := []) rfl rfl rfl rfl rfl rfl (args_v [.int (nI dd), .int (nI (i + 1))] [] rfl rfl (Nat.le_of_ble_eq_true rfl) rfl h.1 (Nat.le_of_ble_eq_true rfl)) (rc_isIn h hk (by omega) (by omega) hd) ?_
    cases hb : inD kd pa dd (i + 1) with
    | false =>
      refine RQ.brT rfl rfl rfl (by decide) ?_
      refine RQ.blk 1 (pc' := 60) (lv' := [(5, .int (nI (i + 1) + 1)), (0, .ref 66), (1, .int (nI dd)), (2, .ref (a + 1)), (3, .int (nI j)), (4, .int (nI m))]) (st' := []) (H' := _) (kc' := 0) (ks' := 0) rfl ?_
      rw [show (nI (i + 1) + 1 : Int32) = nI (i + 1 + 1) from nI_add (i + 1) 1]
      refine RQ.blk 1 (pc' := 3) (lv' := [(5, .int (nI (i + 1 + 1))), (0, .ref 66), (1, .int (nI dd)), (2, .ref (a + 1)), (3, .int (nI j)), (4, .int (nI m))]) (st' := []) (H' := _) (kc' := 0) (ks' := 0) rfl ?_
      exact nx (by unfold inN; rw [hb]; rfl)
    | true =>
      refine RQ.brF rfl rfl rfl (by decide) ?_
      refine RQ.blk 1 (pc' := 22) (lv' := [(5, .int (nI (i + 1))), (0, .ref 66), (1, .int (nI dd)), (2, .ref (a + 1)), (3, .int (nI j)), (4, .int (nI m))]) (st' := [.ref 66]) (H' := _) (kc' := 0) (ks' := 0) rfl ?_
      refine RQ.get (ci := 9) rfl h.1 rfl rfl ?_
      refine RQ.blk 1 (pc' := 27) (lv' := [(5, .int (nI (i + 1))), (0, .ref 66), (1, .int (nI dd)), (2, .ref (a + 1)), (3, .int (nI j)), (4, .int (nI m))]) (st' := [.int (nI (i + 1)), .ref 70]) (H' := _) (kc' := 0) (ks' := 0) rfl ?_
      refine RQ.ialdN (j := i + 1) rfl h.2.2.2.2.1 (by omega) (by decide) ?_
      refine RQ.blk 1 (pc' := 30) (lv' := [(5, .int (nI (i + 1))), (0, .ref 66), (1, .int (nI dd)), (2, .ref (a + 1)), (3, .int (nI j)), (4, .int (nI m))]) (st' := [.int (nI m), .int (nI (nl (i + 1)))]) (H' := _) (kc' := 0) (ks' := 0) rfl ?_
      by_cases hl : nl (i + 1) = m
      ·
        refine RQ.brF rfl rfl rfl (cF_ne (nl (i + 1)) m) ?_
        refine RQ.blk 1 (pc' := 34) (lv' := [(5, .int (nI (i + 1))), (0, .ref 66), (1, .int (nI dd)), (2, .ref (a + 1)), (3, .int (nI j)), (4, .int (nI m))]) (st' := [.ref 66]) (H' := _) (kc' := 0) (ks' := 0) rfl ?_
        refine RQ.get (ci := 9) rfl h.1 rfl rfl ?_
        refine RQ.blk 3 (pc' := 42) (lv' := [(5, .int (nI (i + 1))), (0, .ref 66), (1, .int (nI dd)), (2, .ref (a + 1)), (3, .int (nI j)), (4, .int (nI m))]) (st' := [.int (nI (i + 1) * 30), .ref 71]) (H' := _) (kc' := 0) (ks' := 0) rfl ?_
        rw [show (nI (i + 1) * 30 : Int32) = nI ((i + 1) * 30) from pk_mul (i + 1) 30]
        refine RQ.blk 4 (pc' := 48) (lv' := [(5, .int (nI (i + 1))), (0, .ref 66), (1, .int (nI dd)), (2, .ref (a + 1)), (3, .int (nI j)), (4, .int (nI m))]) (st' := [.int (nI m), .int (nI j), .ref (a + 1), .int (nI m), .int (nI ((i + 1) * 30)), .ref 71]) (H' := _) (kc' := 0) (ks' := 0) rfl ?_
        refine RQ.callI (st' := []) rfl rfl rfl rfl rfl rfl rfl (ri_cmp h.2.2.2.2.2 h1 (by decide) hna (by omega) hj) (fun x H2 hx => ?_)
        rw [hx.1]
        replace hx := hx.2
        by_cases he : sl nm ((i + 1) * 30) (nl (i + 1)) = sl g j m
        · rw [← h2, fstF_hit (by omega) (show (inN kd pa nl nm dd (sl g j m)) (i + 1) = true by unfold inN; rw [hb, decide_eq_true he]; rfl)]
          refine RQ.brF rfl rfl rfl (bnf ((i_eq0 hx).mpr (by rw [← hl, he, hl]; exact cmpL_self _))) ?_
          refine RQ.blk 1 (pc' := 56) (lv' := [(5, .int (nI (i + 1))), (0, .ref 66), (1, .int (nI dd)), (2, .ref (a + 1)), (3, .int (nI j)), (4, .int (nI m))]) (st' := [.int (nI (i + 1))]) (H' := _) (kc' := 0) (ks' := 0) rfl ?_
          exact RQ.done (c := 0) (s := 0) rfl rfl rfl rfl rfl
        ·
          refine RQ.brT rfl rfl rfl (bnt (fun e => he (by rw [hl]; exact cmpL_eq.mp ((i_eq0 hx).mp e)))) ?_
          refine RQ.blk 1 (pc' := 60) (lv' := [(5, .int (nI (i + 1) + 1)), (0, .ref 66), (1, .int (nI dd)), (2, .ref (a + 1)), (3, .int (nI j)), (4, .int (nI m))]) (st' := []) (H' := _) (kc' := 0) (ks' := 0) rfl ?_
          rw [show (nI (i + 1) + 1 : Int32) = nI (i + 1 + 1) from nI_add (i + 1) 1]
          refine RQ.blk 1 (pc' := 3) (lv' := [(5, .int (nI (i + 1 + 1))), (0, .ref 66), (1, .int (nI dd)), (2, .ref (a + 1)), (3, .int (nI j)), (4, .int (nI m))]) (st' := []) (H' := _) (kc' := 0) (ks' := 0) rfl ?_
          exact nx (by unfold inN; rw [hb, decide_eq_false he]; rfl)
      ·
        refine RQ.brT rfl rfl rfl (cT_ne (nl (i + 1)) m) ?_
        refine RQ.blk 1 (pc' := 60) (lv' := [(5, .int (nI (i + 1) + 1)), (0, .ref 66), (1, .int (nI dd)), (2, .ref (a + 1)), (3, .int (nI j)), (4, .int (nI m))]) (st' := []) (H' := _) (kc' := 0) (ks' := 0) rfl ?_
        rw [show (nI (i + 1) + 1 : Int32) = nI (i + 1 + 1) from nI_add (i + 1) 1]
        refine RQ.blk 1 (pc' := 3) (lv' := [(5, .int (nI (i + 1 + 1))), (0, .ref 66), (1, .int (nI dd)), (2, .ref (a + 1)), (3, .int (nI j)), (4, .int (nI m))]) (st' := []) (H' := _) (kc' := 0) (ks' := 0) rfl ?_
        exact nx (by unfold inN; rw [hb, decide_eq_false (fun e => hl (by have := congrArg List.length e; rw [sl_length, sl_length] at this; exact this))]; rfl)
  · rw [← h2]
    refine RQ.blk 2 (pc' := 8) (lv' := [(5, .int (nI (200 + 1))), (0, .ref 66), (1, .int (nI dd)), (2, .ref (a + 1)), (3, .int (nI j)), (4, .int (nI m))]) (st' := [.int 200, .int (nI (200 + 1))]) (H' := _) (kc' := 0) (ks' := 0) rfl ?_
    refine RQ.brT rfl rfl rfl (cT_gt (200 + 1) 200) ?_
    refine RQ.blk 1 (pc' := 64) (lv' := [(5, .int (nI (200 + 1))), (0, .ref 66), (1, .int (nI dd)), (2, .ref (a + 1)), (3, .int (nI j)), (4, .int (nI m))]) (st' := [.int (-1)]) (H' := _) (kc' := 0) (ks' := 0) rfl ?_
    exact RQ.done (c := 0) (s := 0) rfl rfl rfl rfl rfl
theorem rc_childCount {sc : Nat × (Nat → Int32)} {dd : Nat} {d : Nat} {H : aH} {kd pa sz nl : Nat → Nat} {nm : Nat → Int8} {no : Nat} (h : TreeAt H kd pa sz nl nm no) (hk : TreeOk kd pa sz nl) (hd : dd ≤ 200) : RC sc (d + 1) mr_227 [.ref 66, .int (nI dd)] H (.inl (some (.int (nI (sumF (fun v => if inD kd pa dd v then 1 else 0) 200))))) H 0 0 := by
  refine RP.blk 4 (pc' := 4) (lv' := [(3, .int 1), (2, .int 0), (0, .ref 66), (1, .int (nI dd))]) (st' := []) (H' := _) (kc' := 0) (ks' := 0) rfl ?_
  have start : RP sc (d + 1) mr_227 4 [(3, .int (nI (0 + 1))), (2, .int (nI (sumF (fun v => if inD kd pa dd v then 1 else 0) 0))), (0, .ref 66), (1, .int (nI dd))] [] H 0 0 (.inl (some (.int (nI (sumF (fun v => if inD kd pa dd v then 1 else 0) 200)))), H, 0, 0) := by
    refine RP.loop 4 (fun i => [(3, .int (nI (i + 1))), (2, .int (nI (sumF (fun v => if inD kd pa dd v then 1 else 0) i))), (0, .ref 66), (1, .int (nI dd))]) [] (fun _ => H) 0 0 200 (fun i hi kk => ?_) ?_
    ·
      refine RP.blk 2 (pc' := 8) (lv' := [(3, .int (nI (i + 1))), (2, .int (nI (sumF (fun v => if inD kd pa dd v then 1 else 0) i))), (0, .ref 66), (1, .int (nI dd))]) (st' := [.int 200, .int (nI (i + 1))]) (H' := _) (kc' := 0) (ks' := 0) rfl ?_
      refine RP.brF rfl rfl rfl (cF_gt (i + 1) 200) ?_
      refine RP.blk 4 (pc' := 15) (lv' := [(3, .int (nI (i + 1))), (2, .int (nI (sumF (fun v => if inD kd pa dd v then 1 else 0) i))), (0, .ref 66), (1, .int (nI dd))]) (st' := [.int (nI dd), .int (nI (i + 1)), .ref 66, .int (nI (sumF (fun v => if inD kd pa dd v then 1 else 0) i))]) (H' := _) (kc' := 0) (ks' := 0) rfl ?_
      refine RP.call (v := some (.int (if inD kd pa dd (i + 1) then 1 else 0))) (st' := [.int (nI (sumF (fun v => if inD kd pa dd v then 1 else 0) i))]) rfl rfl rfl rfl rfl rfl (args_v [.int (nI dd), .int (nI (i + 1))] [.int (nI (sumF (fun v => if inD kd pa dd v then 1 else 0) i))] rfl rfl (Nat.le_of_ble_eq_true rfl) rfl h.1 (Nat.le_of_ble_eq_true rfl)) (rc_isIn h hk (by omega) (by omega) hd) ?_
      cases hb : inD kd pa dd (i + 1) with
      | true =>
        have e : sumF (fun v => if inD kd pa dd v then 1 else 0) (i + 1) = sumF (fun v => if inD kd pa dd v then 1 else 0) i + 1 := by show sumF (fun v => if inD kd pa dd v then 1 else 0) i + (if inD kd pa dd (i + 1) then 1 else 0) = _; rw [hb]; rfl
        rw [e] at kk
        refine RP.brF rfl rfl rfl (by decide) ?_
        refine RP.blk 3 (pc' := 27) (lv' := [(3, .int (nI (i + 1))), (2, .int (nI (sumF (fun v => if inD kd pa dd v then 1 else 0) i))), (0, .ref 66), (1, .int (nI dd))]) (st' := [.int (nI (sumF (fun v => if inD kd pa dd v then 1 else 0) i) + 1)]) (H' := _) (kc' := 0) (ks' := 0) rfl ?_
        rw [show (nI (sumF (fun v => if inD kd pa dd v then 1 else 0) i) + 1 : Int32) = nI (sumF (fun v => if inD kd pa dd v then 1 else 0) i + 1) from nI_add (sumF (fun v => if inD kd pa dd v then 1 else 0) i) 1]
        refine RP.blk 2 (pc' := 31) (lv' := [(3, .int (nI (i + 1) + 1)), (2, .int (nI (sumF (fun v => if inD kd pa dd v then 1 else 0) i + 1))), (0, .ref 66), (1, .int (nI dd))]) (st' := []) (H' := _) (kc' := 0) (ks' := 0) rfl ?_
        rw [show (nI (i + 1) + 1 : Int32) = nI (i + 1 + 1) from nI_add (i + 1) 1]
        refine RP.blk 1 (pc' := 4) (lv' := [(3, .int (nI (i + 1 + 1))), (2, .int (nI (sumF (fun v => if inD kd pa dd v then 1 else 0) i + 1))), (0, .ref 66), (1, .int (nI dd))]) (st' := []) (H' := _) (kc' := 0) (ks' := 0) rfl ?_
        exact kk
      | false =>
        have e : sumF (fun v => if inD kd pa dd v then 1 else 0) (i + 1) = sumF (fun v => if inD kd pa dd v then 1 else 0) i + 0 := by show sumF (fun v => if inD kd pa dd v then 1 else 0) i + (if inD kd pa dd (i + 1) then 1 else 0) = _; rw [hb]; rfl
        rw [e] at kk
        refine RP.brT rfl rfl rfl (by decide) ?_
        refine RP.blk 2 (pc' := 27) (lv' := [(3, .int (nI (i + 1))), (2, .int (nI (sumF (fun v => if inD kd pa dd v then 1 else 0) i))), (0, .ref 66), (1, .int (nI dd))]) (st' := [.int (nI (sumF (fun v => if inD kd pa dd v then 1 else 0) i) + 0)]) (H' := _) (kc' := 0) (ks' := 0) rfl ?_
        rw [show (nI (sumF (fun v => if inD kd pa dd v then 1 else 0) i) + 0 : Int32) = nI (sumF (fun v => if inD kd pa dd v then 1 else 0) i + 0) from nI_add (sumF (fun v => if inD kd pa dd v then 1 else 0) i) 0]
        refine RP.blk 2 (pc' := 31) (lv' := [(3, .int (nI (i + 1) + 1)), (2, .int (nI (sumF (fun v => if inD kd pa dd v then 1 else 0) i + 0))), (0, .ref 66), (1, .int (nI dd))]) (st' := []) (H' := _) (kc' := 0) (ks' := 0) rfl ?_
        rw [show (nI (i + 1) + 1 : Int32) = nI (i + 1 + 1) from nI_add (i + 1) 1]
        refine RP.blk 1 (pc' := 4) (lv' := [(3, .int (nI (i + 1 + 1))), (2, .int (nI (sumF (fun v => if inD kd pa dd v then 1 else 0) i + 0))), (0, .ref 66), (1, .int (nI dd))]) (st' := []) (H' := _) (kc' := 0) (ks' := 0) rfl ?_
        exact kk
    ·
      refine RP.blk 2 (pc' := 8) (lv' := [(3, .int (nI (200 + 1))), (2, .int (nI (sumF (fun v => if inD kd pa dd v then 1 else 0) 200))), (0, .ref 66), (1, .int (nI dd))]) (st' := [.int 200, .int (nI (200 + 1))]) (H' := _) (kc' := 0) (ks' := 0) rfl ?_
      refine RP.brT rfl rfl rfl (cT_gt (200 + 1) 200) ?_
      refine RP.blk 1 (pc' := 35) (lv' := [(3, .int (nI (200 + 1))), (2, .int (nI (sumF (fun v => if inD kd pa dd v then 1 else 0) 200))), (0, .ref 66), (1, .int (nI dd))]) (st' := [.int (nI (sumF (fun v => if inD kd pa dd v then 1 else 0) 200))]) (H' := _) (kc' := 0) (ks' := 0) rfl ?_
      exact RP.done (c := 0) (s := 0) rfl rfl rfl rfl
  exact start
theorem rc_leastUnused {sc : Nat × (Nat → Int32)} {d : Nat} {H : aH} {kd pa sz nl : Nat → Nat} {nm : Nat → Int8} {no : Nat} (h : TreeAt H kd pa sz nl nm no) (hk : TreeOk kd pa sz nl) : RC sc d mr_221 [.ref 66] H (.inl (some (.int (lI (fstF (fun v => decide (kd v = 0)) 1 200))))) H 0 0 := by
  refine RC.of ?_
  refine RQ.blk 2 (pc' := 2) (lv' := [(1, .int 1), (0, .ref 66)]) (st' := []) (H' := _) (kc' := 0) (ks' := 0) rfl ?_
  refine RQ.loopQ (pc := 2) (fun i => fstF (fun v => decide (kd v = 0)) (i + 1) (200 - i) = fstF (fun v => decide (kd v = 0)) 1 200) (fun i => [(1, .int (nI (i + 1))), (0, .ref 66)]) 200 (fun i hi h2 ih => ?_) (fun h2 => ?_) rfl
  · have hk_v := hk (i + 1) (by omega)
    refine RQ.blk 2 (pc' := 6) (lv' := [(1, .int (nI (i + 1))), (0, .ref 66)]) (st' := [.int 200, .int (nI (i + 1))]) (H' := _) (kc' := 0) (ks' := 0) rfl ?_
    refine RQ.brF rfl rfl rfl (cF_gt (i + 1) 200) ?_
    refine RQ.blk 1 (pc' := 10) (lv' := [(1, .int (nI (i + 1))), (0, .ref 66)]) (st' := [.ref 66]) (H' := _) (kc' := 0) (ks' := 0) rfl ?_
    refine RQ.get (ci := 9) rfl h.1 rfl rfl ?_
    refine RQ.blk 1 (pc' := 14) (lv' := [(1, .int (nI (i + 1))), (0, .ref 66)]) (st' := [.int (nI (i + 1)), .ref 67]) (H' := _) (kc' := 0) (ks' := 0) rfl ?_
    refine RQ.ialdN (j := i + 1) rfl h.2.1 (by omega) (by decide) ?_
    by_cases hf : kd (i + 1) = 0
    · rw [← h2, fstF_hit (by omega) (decide_eq_true hf)]
      refine RQ.brF rfl rfl rfl (cF_ne (kd (i + 1)) 0) ?_
      refine RQ.blk 1 (pc' := 19) (lv' := [(1, .int (nI (i + 1))), (0, .ref 66)]) (st' := [.int (nI (i + 1))]) (H' := _) (kc' := 0) (ks' := 0) rfl ?_
      exact RQ.done (c := 0) (s := 0) rfl rfl rfl rfl rfl
    ·
      refine RQ.brT rfl rfl rfl (cT_ne (kd (i + 1)) 0) ?_
      refine RQ.blk 1 (pc' := 23) (lv' := [(1, .int (nI (i + 1) + 1)), (0, .ref 66)]) (st' := []) (H' := _) (kc' := 0) (ks' := 0) rfl ?_
      rw [show (nI (i + 1) + 1 : Int32) = nI (i + 1 + 1) from nI_add (i + 1) 1]
      refine RQ.blk 1 (pc' := 2) (lv' := [(1, .int (nI (i + 1 + 1))), (0, .ref 66)]) (st' := []) (H' := _) (kc' := 0) (ks' := 0) rfl ?_
      exact ih (by rw [← h2, fstF_miss (P := fun v => decide (kd v = 0)) (v := i + 1) (n := 200 - i) (by omega) (decide_eq_false hf), show 200 - i - 1 = 200 - (i + 1) by omega])
  · rw [← h2]
    refine RQ.blk 2 (pc' := 6) (lv' := [(1, .int (nI (200 + 1))), (0, .ref 66)]) (st' := [.int 200, .int (nI (200 + 1))]) (H' := _) (kc' := 0) (ks' := 0) rfl ?_
    refine RQ.brT rfl rfl rfl (cT_gt (200 + 1) 200) ?_
    refine RQ.blk 1 (pc' := 27) (lv' := [(1, .int (nI (200 + 1))), (0, .ref 66)]) (st' := [.int (-1)]) (H' := _) (kc' := 0) (ks' := 0) rfl ?_
    exact RQ.done (c := 0) (s := 0) rfl rfl rfl rfl rfl
theorem rc_mchild {sc : Nat × (Nat → Int32)} {j m dd : Nat} {d : Nat} {H : aH} {kd pa sz nl : Nat → Nat} {nm : Nat → Int8} {fa li dn cw cl tp rs pr ve us pi hu : Int32} {ba bo : Nat} {g : Nat → Int8} (hm : H[195]? = some (kO 12 (mfs fa li dn cw cl tp rs pr ve us pi hu ba bo))) (h : MTreeAt H kd pa sz nl nm) (hk : TreeOk kd pa sz nl) (h1 : H[196]? = some (kB 2000 g)) (hj : j + m ≤ 2000) (hd : dd ≤ 200) : RC sc (d + 1) mr_307 [.ref 196, .int (nI dd), .int (nI j), .int (nI m)] H (.inl (some (.int (lI (fstF (inN kd pa nl nm dd (sl g j m)) 1 200))))) H 0 0 := by
  refine RC.of ?_
  refine RQ.blk 2 (pc' := 3) (lv' := [(4, .int 1), (0, .ref 196), (1, .int (nI dd)), (2, .int (nI j)), (3, .int (nI m))]) (st' := []) (H' := _) (kc' := 0) (ks' := 0) rfl ?_
  refine RQ.loopQ (pc := 3) (fun i => fstF (inN kd pa nl nm dd (sl g j m)) (i + 1) (200 - i) = fstF (inN kd pa nl nm dd (sl g j m)) 1 200) (fun i => [(4, .int (nI (i + 1))), (0, .ref 196), (1, .int (nI dd)), (2, .int (nI j)), (3, .int (nI m))]) 200 (fun i hi h2 ih => ?_) (fun h2 => ?_) rfl
  · have hk_v := hk (i + 1) (by omega)
    have nx : (inN kd pa nl nm dd (sl g j m)) (i + 1) = false → _ := fun e => ih (by rw [← h2, fstF_miss (by omega) e, show 200 - i - 1 = 200 - (i + 1) by omega])
    refine RQ.blk 2 (pc' := 8) (lv' := [(4, .int (nI (i + 1))), (0, .ref 196), (1, .int (nI dd)), (2, .int (nI j)), (3, .int (nI m))]) (st' := [.int 200, .int (nI (i + 1))]) (H' := _) (kc' := 0) (ks' := 0) rfl ?_
    refine RQ.brF rfl rfl rfl (cF_gt (i + 1) 200) ?_
    refine RQ.blk 1 (pc' := 12) (lv' := [(4, .int (nI (i + 1))), (0, .ref 196), (1, .int (nI dd)), (2, .int (nI j)), (3, .int (nI m))]) (st' := [.ref 196]) (H' := _) (kc' := 0) (ks' := 0) rfl ?_
    refine RQ.get (ci := 12) rfl hm rfl rfl ?_
    refine RQ.blk 1 (pc' := 17) (lv' := [(4, .int (nI (i + 1))), (0, .ref 196), (1, .int (nI dd)), (2, .int (nI j)), (3, .int (nI m))]) (st' := [.int (nI (i + 1)), .ref 214]) (H' := _) (kc' := 0) (ks' := 0) rfl ?_
    refine RQ.ialdN (j := i + 1) rfl h.1 (by omega) (by decide) ?_
    by_cases hf : kd (i + 1) = 0
    ·
      refine RQ.brT rfl rfl rfl (cT_eq (kd (i + 1)) 0) ?_
      refine RQ.blk 1 (pc' := 67) (lv' := [(4, .int (nI (i + 1) + 1)), (0, .ref 196), (1, .int (nI dd)), (2, .int (nI j)), (3, .int (nI m))]) (st' := []) (H' := _) (kc' := 0) (ks' := 0) rfl ?_
      rw [show (nI (i + 1) + 1 : Int32) = nI (i + 1 + 1) from nI_add (i + 1) 1]
      refine RQ.blk 1 (pc' := 3) (lv' := [(4, .int (nI (i + 1 + 1))), (0, .ref 196), (1, .int (nI dd)), (2, .int (nI j)), (3, .int (nI m))]) (st' := []) (H' := _) (kc' := 0) (ks' := 0) rfl ?_
      exact nx (by unfold inN inD; rw [decide_eq_true hf]; rfl)
    ·
      refine RQ.brF rfl rfl rfl (cF_eq (kd (i + 1)) 0) ?_
      refine RQ.blk 1 (pc' := 22) (lv' := [(4, .int (nI (i + 1))), (0, .ref 196), (1, .int (nI dd)), (2, .int (nI j)), (3, .int (nI m))]) (st' := [.ref 196]) (H' := _) (kc' := 0) (ks' := 0) rfl ?_
      refine RQ.get (ci := 12) rfl hm rfl rfl ?_
      refine RQ.blk 1 (pc' := 27) (lv' := [(4, .int (nI (i + 1))), (0, .ref 196), (1, .int (nI dd)), (2, .int (nI j)), (3, .int (nI m))]) (st' := [.int (nI (i + 1)), .ref 215]) (H' := _) (kc' := 0) (ks' := 0) rfl ?_
      refine RQ.ialdN (j := i + 1) rfl h.2.1 (by omega) (by decide) ?_
      refine RQ.blk 1 (pc' := 29) (lv' := [(4, .int (nI (i + 1))), (0, .ref 196), (1, .int (nI dd)), (2, .int (nI j)), (3, .int (nI m))]) (st' := [.int (nI dd), .int (nI (pa (i + 1)))]) (H' := _) (kc' := 0) (ks' := 0) rfl ?_
      by_cases hg : pa (i + 1) = dd
      ·
        refine RQ.brF rfl rfl rfl (cF_ne (pa (i + 1)) dd) ?_
        refine RQ.blk 2 (pc' := 34) (lv' := [(4, .int (nI (i + 1))), (0, .ref 196), (1, .int (nI dd)), (2, .int (nI j)), (3, .int (nI m))]) (st' := [.ref 196, .ref 196]) (H' := _) (kc' := 0) (ks' := 0) rfl ?_
        refine RQ.get (ci := 12) rfl hm rfl rfl ?_
        refine RQ.blk 3 (pc' := 42) (lv' := [(4, .int (nI (i + 1))), (0, .ref 196), (1, .int (nI dd)), (2, .int (nI j)), (3, .int (nI m))]) (st' := [.int (30 * nI (i + 1)), .ref 217, .ref 196]) (H' := _) (kc' := 0) (ks' := 0) rfl ?_
        rw [show (30 * nI (i + 1) : Int32) = nI (30 * (i + 1)) from pk_mul 30 (i + 1)]
        refine RQ.blk 1 (pc' := 43) (lv' := [(4, .int (nI (i + 1))), (0, .ref 196), (1, .int (nI dd)), (2, .int (nI j)), (3, .int (nI m))]) (st' := [.ref 196, .int (nI (30 * (i + 1))), .ref 217, .ref 196]) (H' := _) (kc' := 0) (ks' := 0) rfl ?_
        refine RQ.get (ci := 12) rfl hm rfl rfl ?_
        refine RQ.blk 1 (pc' := 48) (lv' := [(4, .int (nI (i + 1))), (0, .ref 196), (1, .int (nI dd)), (2, .int (nI j)), (3, .int (nI m))]) (st' := [.int (nI (i + 1)), .ref 216, .int (nI (30 * (i + 1))), .ref 217, .ref 196]) (H' := _) (kc' := 0) (ks' := 0) rfl ?_
        refine RQ.ialdN (j := i + 1) rfl h.2.2.1 (by omega) (by decide) ?_
        refine RQ.blk 1 (pc' := 50) (lv' := [(4, .int (nI (i + 1))), (0, .ref 196), (1, .int (nI dd)), (2, .int (nI j)), (3, .int (nI m))]) (st' := [.ref 196, .int (nI (nl (i + 1))), .int (nI (30 * (i + 1))), .ref 217, .ref 196]) (H' := _) (kc' := 0) (ks' := 0) rfl ?_
        refine RQ.get (ci := 12) rfl hm rfl rfl ?_
        refine RQ.blk 2 (pc' := 55) (lv' := [(4, .int (nI (i + 1))), (0, .ref 196), (1, .int (nI dd)), (2, .int (nI j)), (3, .int (nI m))]) (st' := [.int (nI m), .int (nI j), .ref 197, .int (nI (nl (i + 1))), .int (nI (30 * (i + 1))), .ref 217, .ref 196]) (H' := _) (kc' := 0) (ks' := 0) rfl ?_
        rw [Nat.mul_comm 30 (i + 1)]
        refine RQ.callI (st' := []) rfl rfl rfl rfl rfl rfl (args_v [.int (nI m), .int (nI j), .ref 197, .int (nI (nl (i + 1))), .int (nI ((i + 1) * 30)), .ref 217] [] rfl rfl (Nat.le_of_ble_eq_true rfl) rfl hm (Nat.le_of_ble_eq_true rfl)) (ri_mcmp h.2.2.2.1 h1 (by decide) (by decide) (by omega) hj) (fun x H2 hx => ?_)
        rw [hx.1]
        replace hx := hx.2
        by_cases he : sl nm ((i + 1) * 30) (nl (i + 1)) = sl g j m
        · rw [← h2, fstF_hit (by omega) (show (inN kd pa nl nm dd (sl g j m)) (i + 1) = true by unfold inN inD; rw [decide_eq_false hf, decide_eq_true hg, decide_eq_true he]; rfl)]
          refine RQ.brF rfl rfl rfl (bnf ((i_eq0 hx).mpr (by rw [he]; exact cmpL_self _))) ?_
          refine RQ.blk 1 (pc' := 63) (lv' := [(4, .int (nI (i + 1))), (0, .ref 196), (1, .int (nI dd)), (2, .int (nI j)), (3, .int (nI m))]) (st' := [.int (nI (i + 1))]) (H' := _) (kc' := 0) (ks' := 0) rfl ?_
          exact RQ.done (c := 0) (s := 0) rfl rfl rfl rfl rfl
        ·
          refine RQ.brT rfl rfl rfl (bnt (fun e => he (cmpL_eq.mp ((i_eq0 hx).mp e)))) ?_
          refine RQ.blk 1 (pc' := 67) (lv' := [(4, .int (nI (i + 1) + 1)), (0, .ref 196), (1, .int (nI dd)), (2, .int (nI j)), (3, .int (nI m))]) (st' := []) (H' := _) (kc' := 0) (ks' := 0) rfl ?_
          rw [show (nI (i + 1) + 1 : Int32) = nI (i + 1 + 1) from nI_add (i + 1) 1]
          refine RQ.blk 1 (pc' := 3) (lv' := [(4, .int (nI (i + 1 + 1))), (0, .ref 196), (1, .int (nI dd)), (2, .int (nI j)), (3, .int (nI m))]) (st' := []) (H' := _) (kc' := 0) (ks' := 0) rfl ?_
          exact nx (by unfold inN inD; rw [decide_eq_false hf, decide_eq_true hg, decide_eq_false he]; rfl)
      ·
        refine RQ.brT rfl rfl rfl (cT_ne (pa (i + 1)) dd) ?_
        refine RQ.blk 1 (pc' := 67) (lv' := [(4, .int (nI (i + 1) + 1)), (0, .ref 196), (1, .int (nI dd)), (2, .int (nI j)), (3, .int (nI m))]) (st' := []) (H' := _) (kc' := 0) (ks' := 0) rfl ?_
        rw [show (nI (i + 1) + 1 : Int32) = nI (i + 1 + 1) from nI_add (i + 1) 1]
        refine RQ.blk 1 (pc' := 3) (lv' := [(4, .int (nI (i + 1 + 1))), (0, .ref 196), (1, .int (nI dd)), (2, .int (nI j)), (3, .int (nI m))]) (st' := []) (H' := _) (kc' := 0) (ks' := 0) rfl ?_
        exact nx (by unfold inN inD; rw [decide_eq_false hf, decide_eq_false hg]; rfl)
  · rw [← h2]
    refine RQ.blk 2 (pc' := 8) (lv' := [(4, .int (nI (200 + 1))), (0, .ref 196), (1, .int (nI dd)), (2, .int (nI j)), (3, .int (nI m))]) (st' := [.int 200, .int (nI (200 + 1))]) (H' := _) (kc' := 0) (ks' := 0) rfl ?_
    refine RQ.brT rfl rfl rfl (cT_gt (200 + 1) 200) ?_
    refine RQ.blk 1 (pc' := 71) (lv' := [(4, .int (nI (200 + 1))), (0, .ref 196), (1, .int (nI dd)), (2, .int (nI j)), (3, .int (nI m))]) (st' := [.int (-1)]) (H' := _) (kc' := 0) (ks' := 0) rfl ?_
    exact RQ.done (c := 0) (s := 0) rfl rfl rfl rfl rfl
theorem rc_mchildCount {sc : Nat × (Nat → Int32)} {dd : Nat} {d : Nat} {H : aH} {kd pa sz nl : Nat → Nat} {nm : Nat → Int8} {fa li dn cw cl tp rs pr ve us pi hu : Int32} {ba bo : Nat} (hm : H[195]? = some (kO 12 (mfs fa li dn cw cl tp rs pr ve us pi hu ba bo))) (h : MTreeAt H kd pa sz nl nm) (hk : TreeOk kd pa sz nl) (hd : dd ≤ 200) : RC sc d mr_312 [.ref 196, .int (nI dd)] H (.inl (some (.int (nI (sumF (fun v => if inD kd pa dd v then 1 else 0) 200))))) H 0 0 := by
  refine RP.blk 4 (pc' := 4) (lv' := [(3, .int 1), (2, .int 0), (0, .ref 196), (1, .int (nI dd))]) (st' := []) (H' := _) (kc' := 0) (ks' := 0) rfl ?_
  have start : RP sc d mr_312 4 [(3, .int (nI (0 + 1))), (2, .int (nI (sumF (fun v => if inD kd pa dd v then 1 else 0) 0))), (0, .ref 196), (1, .int (nI dd))] [] H 0 0 (.inl (some (.int (nI (sumF (fun v => if inD kd pa dd v then 1 else 0) 200)))), H, 0, 0) := by
    refine RP.loop 4 (fun i => [(3, .int (nI (i + 1))), (2, .int (nI (sumF (fun v => if inD kd pa dd v then 1 else 0) i))), (0, .ref 196), (1, .int (nI dd))]) [] (fun _ => H) 0 0 200 (fun i hi kk => ?_) ?_
    · have hk_v := hk (i + 1) (by omega)
      have e : sumF (fun v => if inD kd pa dd v then 1 else 0) (i + 1) = sumF (fun v => if inD kd pa dd v then 1 else 0) i + (if inD kd pa dd (i + 1) then 1 else 0) := rfl
      refine RP.blk 2 (pc' := 8) (lv' := [(3, .int (nI (i + 1))), (2, .int (nI (sumF (fun v => if inD kd pa dd v then 1 else 0) i))), (0, .ref 196), (1, .int (nI dd))]) (st' := [.int 200, .int (nI (i + 1))]) (H' := _) (kc' := 0) (ks' := 0) rfl ?_
      refine RP.brF rfl rfl rfl (cF_gt (i + 1) 200) ?_
      refine RP.blk 1 (pc' := 12) (lv' := [(3, .int (nI (i + 1))), (2, .int (nI (sumF (fun v => if inD kd pa dd v then 1 else 0) i))), (0, .ref 196), (1, .int (nI dd))]) (st' := [.ref 196]) (H' := _) (kc' := 0) (ks' := 0) rfl ?_
      refine RP.get (ci := 12) rfl hm rfl rfl ?_
      refine RP.blk 1 (pc' := 16) (lv' := [(3, .int (nI (i + 1))), (2, .int (nI (sumF (fun v => if inD kd pa dd v then 1 else 0) i))), (0, .ref 196), (1, .int (nI dd))]) (st' := [.int (nI (i + 1)), .ref 214]) (H' := _) (kc' := 0) (ks' := 0) rfl ?_
      refine RP.ialdN (j := i + 1) rfl h.1 (by omega) (by decide) ?_
      by_cases hf : kd (i + 1) = 0
      · have hq : inD kd pa dd (i + 1) = false := by unfold inD; rw [decide_eq_true hf]; rfl
        rw [hq] at e
        rw [e] at kk
        refine RP.brT rfl rfl rfl (cT_eq (kd (i + 1)) 0) ?_
        refine RP.blk 1 (pc' := 36) (lv' := [(3, .int (nI (i + 1) + 1)), (2, .int (nI (sumF (fun v => if inD kd pa dd v then 1 else 0) i))), (0, .ref 196), (1, .int (nI dd))]) (st' := []) (H' := _) (kc' := 0) (ks' := 0) rfl ?_
        rw [show (nI (i + 1) + 1 : Int32) = nI (i + 1 + 1) from nI_add (i + 1) 1]
        refine RP.blk 1 (pc' := 4) (lv' := [(3, .int (nI (i + 1 + 1))), (2, .int (nI (sumF (fun v => if inD kd pa dd v then 1 else 0) i))), (0, .ref 196), (1, .int (nI dd))]) (st' := []) (H' := _) (kc' := 0) (ks' := 0) rfl ?_
        exact kk
      ·
        refine RP.brF rfl rfl rfl (cF_eq (kd (i + 1)) 0) ?_
        refine RP.blk 1 (pc' := 21) (lv' := [(3, .int (nI (i + 1))), (2, .int (nI (sumF (fun v => if inD kd pa dd v then 1 else 0) i))), (0, .ref 196), (1, .int (nI dd))]) (st' := [.ref 196]) (H' := _) (kc' := 0) (ks' := 0) rfl ?_
        refine RP.get (ci := 12) rfl hm rfl rfl ?_
        refine RP.blk 1 (pc' := 25) (lv' := [(3, .int (nI (i + 1))), (2, .int (nI (sumF (fun v => if inD kd pa dd v then 1 else 0) i))), (0, .ref 196), (1, .int (nI dd))]) (st' := [.int (nI (i + 1)), .ref 215]) (H' := _) (kc' := 0) (ks' := 0) rfl ?_
        refine RP.ialdN (j := i + 1) rfl h.2.1 (by omega) (by decide) ?_
        refine RP.blk 1 (pc' := 27) (lv' := [(3, .int (nI (i + 1))), (2, .int (nI (sumF (fun v => if inD kd pa dd v then 1 else 0) i))), (0, .ref 196), (1, .int (nI dd))]) (st' := [.int (nI dd), .int (nI (pa (i + 1)))]) (H' := _) (kc' := 0) (ks' := 0) rfl ?_
        by_cases hg : pa (i + 1) = dd
        · have hq : inD kd pa dd (i + 1) = true := by unfold inD; rw [decide_eq_false hf, decide_eq_true hg]; rfl
          rw [hq] at e
          rw [e] at kk
          refine RP.brF rfl rfl rfl (cF_ne (pa (i + 1)) dd) ?_
          refine RP.blk 1 (pc' := 33) (lv' := [(2, .int (nI (sumF (fun v => if inD kd pa dd v then 1 else 0) i) + 1)), (3, .int (nI (i + 1))), (0, .ref 196), (1, .int (nI dd))]) (st' := []) (H' := _) (kc' := 0) (ks' := 0) rfl ?_
          rw [show (nI (sumF (fun v => if inD kd pa dd v then 1 else 0) i) + 1 : Int32) = nI (sumF (fun v => if inD kd pa dd v then 1 else 0) i + 1) from nI_add (sumF (fun v => if inD kd pa dd v then 1 else 0) i) 1]
          refine RP.blk 1 (pc' := 36) (lv' := [(3, .int (nI (i + 1) + 1)), (2, .int (nI (sumF (fun v => if inD kd pa dd v then 1 else 0) i + 1))), (0, .ref 196), (1, .int (nI dd))]) (st' := []) (H' := _) (kc' := 0) (ks' := 0) rfl ?_
          rw [show (nI (i + 1) + 1 : Int32) = nI (i + 1 + 1) from nI_add (i + 1) 1]
          refine RP.blk 1 (pc' := 4) (lv' := [(3, .int (nI (i + 1 + 1))), (2, .int (nI (sumF (fun v => if inD kd pa dd v then 1 else 0) i + 1))), (0, .ref 196), (1, .int (nI dd))]) (st' := []) (H' := _) (kc' := 0) (ks' := 0) rfl ?_
          exact kk
        · have hq : inD kd pa dd (i + 1) = false := by unfold inD; rw [decide_eq_false hf, decide_eq_false hg]; rfl
          rw [hq] at e
          rw [e] at kk
          refine RP.brT rfl rfl rfl (cT_ne (pa (i + 1)) dd) ?_
          refine RP.blk 1 (pc' := 36) (lv' := [(3, .int (nI (i + 1) + 1)), (2, .int (nI (sumF (fun v => if inD kd pa dd v then 1 else 0) i))), (0, .ref 196), (1, .int (nI dd))]) (st' := []) (H' := _) (kc' := 0) (ks' := 0) rfl ?_
          rw [show (nI (i + 1) + 1 : Int32) = nI (i + 1 + 1) from nI_add (i + 1) 1]
          refine RP.blk 1 (pc' := 4) (lv' := [(3, .int (nI (i + 1 + 1))), (2, .int (nI (sumF (fun v => if inD kd pa dd v then 1 else 0) i))), (0, .ref 196), (1, .int (nI dd))]) (st' := []) (H' := _) (kc' := 0) (ks' := 0) rfl ?_
          exact kk
    ·
      refine RP.blk 2 (pc' := 8) (lv' := [(3, .int (nI (200 + 1))), (2, .int (nI (sumF (fun v => if inD kd pa dd v then 1 else 0) 200))), (0, .ref 196), (1, .int (nI dd))]) (st' := [.int 200, .int (nI (200 + 1))]) (H' := _) (kc' := 0) (ks' := 0) rfl ?_
      refine RP.brT rfl rfl rfl (cT_gt (200 + 1) 200) ?_
      refine RP.blk 1 (pc' := 40) (lv' := [(3, .int (nI (200 + 1))), (2, .int (nI (sumF (fun v => if inD kd pa dd v then 1 else 0) 200))), (0, .ref 196), (1, .int (nI dd))]) (st' := [.int (nI (sumF (fun v => if inD kd pa dd v then 1 else 0) 200))]) (H' := _) (kc' := 0) (ks' := 0) rfl ?_
      exact RP.done (c := 0) (s := 0) rfl rfl rfl rfl
  exact start
theorem rc_mnumbers {sc : Nat × (Nat → Int32)} {d : Nat} {H : aH} {kd pa sz nl : Nat → Nat} {nm : Nat → Int8} {fa li dn cw cl tp rs pr ve us pi hu : Int32} {ba bo : Nat} (hm : H[195]? = some (kO 12 (mfs fa li dn cw cl tp rs pr ve us pi hu ba bo))) (h : MTreeAt H kd pa sz nl nm) (hk : TreeOk kd pa sz nl) : RC sc d mr_302 [.ref 196] H (.inl (some (.int (nI (sumF (fun v => if kd v = 0 then 0 else 1) 200))))) H 0 0 := by
  refine RP.blk 4 (pc' := 4) (lv' := [(2, .int 1), (1, .int 0), (0, .ref 196)]) (st' := []) (H' := _) (kc' := 0) (ks' := 0) rfl ?_
  have start : RP sc d mr_302 4 [(2, .int (nI (0 + 1))), (1, .int (nI (sumF (fun v => if kd v = 0 then 0 else 1) 0))), (0, .ref 196)] [] H 0 0 (.inl (some (.int (nI (sumF (fun v => if kd v = 0 then 0 else 1) 200)))), H, 0, 0) := by
    refine RP.loop 4 (fun i => [(2, .int (nI (i + 1))), (1, .int (nI (sumF (fun v => if kd v = 0 then 0 else 1) i))), (0, .ref 196)]) [] (fun _ => H) 0 0 200 (fun i hi kk => ?_) ?_
    · have hk_v := hk (i + 1) (by omega)
      have e : sumF (fun v => if kd v = 0 then 0 else 1) (i + 1) = sumF (fun v => if kd v = 0 then 0 else 1) i + (if kd (i + 1) = 0 then 0 else 1) := rfl
      refine RP.blk 2 (pc' := 8) (lv' := [(2, .int (nI (i + 1))), (1, .int (nI (sumF (fun v => if kd v = 0 then 0 else 1) i))), (0, .ref 196)]) (st' := [.int 200, .int (nI (i + 1))]) (H' := _) (kc' := 0) (ks' := 0) rfl ?_
      refine RP.brF rfl rfl rfl (cF_gt (i + 1) 200) ?_
      refine RP.blk 2 (pc' := 13) (lv' := [(2, .int (nI (i + 1))), (1, .int (nI (sumF (fun v => if kd v = 0 then 0 else 1) i))), (0, .ref 196)]) (st' := [.ref 196, .int (nI (sumF (fun v => if kd v = 0 then 0 else 1) i))]) (H' := _) (kc' := 0) (ks' := 0) rfl ?_
      refine RP.get (ci := 12) rfl hm rfl rfl ?_
      refine RP.blk 1 (pc' := 17) (lv' := [(2, .int (nI (i + 1))), (1, .int (nI (sumF (fun v => if kd v = 0 then 0 else 1) i))), (0, .ref 196)]) (st' := [.int (nI (i + 1)), .ref 214, .int (nI (sumF (fun v => if kd v = 0 then 0 else 1) i))]) (H' := _) (kc' := 0) (ks' := 0) rfl ?_
      refine RP.ialdN (j := i + 1) rfl h.1 (by omega) (by decide) ?_
      by_cases hf : kd (i + 1) = 0
      · rw [if_pos hf] at e
        rw [e] at kk
        refine RP.brF rfl rfl rfl (cF_ne (kd (i + 1)) 0) ?_
        refine RP.blk 3 (pc' := 27) (lv' := [(2, .int (nI (i + 1))), (1, .int (nI (sumF (fun v => if kd v = 0 then 0 else 1) i))), (0, .ref 196)]) (st' := [.int (nI (sumF (fun v => if kd v = 0 then 0 else 1) i) + 0)]) (H' := _) (kc' := 0) (ks' := 0) rfl ?_
        rw [show (nI (sumF (fun v => if kd v = 0 then 0 else 1) i) + 0 : Int32) = nI (sumF (fun v => if kd v = 0 then 0 else 1) i + 0) from nI_add (sumF (fun v => if kd v = 0 then 0 else 1) i) 0]
        refine RP.blk 2 (pc' := 31) (lv' := [(2, .int (nI (i + 1) + 1)), (1, .int (nI (sumF (fun v => if kd v = 0 then 0 else 1) i + 0))), (0, .ref 196)]) (st' := []) (H' := _) (kc' := 0) (ks' := 0) rfl ?_
        rw [show (nI (i + 1) + 1 : Int32) = nI (i + 1 + 1) from nI_add (i + 1) 1]
        refine RP.blk 1 (pc' := 4) (lv' := [(2, .int (nI (i + 1 + 1))), (1, .int (nI (sumF (fun v => if kd v = 0 then 0 else 1) i + 0))), (0, .ref 196)]) (st' := []) (H' := _) (kc' := 0) (ks' := 0) rfl ?_
        exact kk
      · rw [if_neg hf] at e
        rw [e] at kk
        refine RP.brT rfl rfl rfl (cT_ne (kd (i + 1)) 0) ?_
        refine RP.blk 2 (pc' := 27) (lv' := [(2, .int (nI (i + 1))), (1, .int (nI (sumF (fun v => if kd v = 0 then 0 else 1) i))), (0, .ref 196)]) (st' := [.int (nI (sumF (fun v => if kd v = 0 then 0 else 1) i) + 1)]) (H' := _) (kc' := 0) (ks' := 0) rfl ?_
        rw [show (nI (sumF (fun v => if kd v = 0 then 0 else 1) i) + 1 : Int32) = nI (sumF (fun v => if kd v = 0 then 0 else 1) i + 1) from nI_add (sumF (fun v => if kd v = 0 then 0 else 1) i) 1]
        refine RP.blk 2 (pc' := 31) (lv' := [(2, .int (nI (i + 1) + 1)), (1, .int (nI (sumF (fun v => if kd v = 0 then 0 else 1) i + 1))), (0, .ref 196)]) (st' := []) (H' := _) (kc' := 0) (ks' := 0) rfl ?_
        rw [show (nI (i + 1) + 1 : Int32) = nI (i + 1 + 1) from nI_add (i + 1) 1]
        refine RP.blk 1 (pc' := 4) (lv' := [(2, .int (nI (i + 1 + 1))), (1, .int (nI (sumF (fun v => if kd v = 0 then 0 else 1) i + 1))), (0, .ref 196)]) (st' := []) (H' := _) (kc' := 0) (ks' := 0) rfl ?_
        exact kk
    ·
      refine RP.blk 2 (pc' := 8) (lv' := [(2, .int (nI (200 + 1))), (1, .int (nI (sumF (fun v => if kd v = 0 then 0 else 1) 200))), (0, .ref 196)]) (st' := [.int 200, .int (nI (200 + 1))]) (H' := _) (kc' := 0) (ks' := 0) rfl ?_
      refine RP.brT rfl rfl rfl (cT_gt (200 + 1) 200) ?_
      refine RP.blk 1 (pc' := 35) (lv' := [(2, .int (nI (200 + 1))), (1, .int (nI (sumF (fun v => if kd v = 0 then 0 else 1) 200))), (0, .ref 196)]) (st' := [.int (nI (sumF (fun v => if kd v = 0 then 0 else 1) 200))]) (H' := _) (kc' := 0) (ks' := 0) rfl ?_
      exact RP.done (c := 0) (s := 0) rfl rfl rfl rfl
  exact start
