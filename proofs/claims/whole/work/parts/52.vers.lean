/-! ===== the versions in memory: what looks at one; class; written by wip/gen/vers2.py ===== -/
theorem i8_0 {x : Int8} : x.toInt32 = 0 ↔ ub x = 0 := by
  constructor
  · intro h
    have h1 := ub_and x
    rw [h] at h1
    have h2 : nI 0 = nI (ub x) := h1
    exact ((nI_eq (by decide) (by have := ub_lt x; omega)).mp h2).symm
  · intro h
    have e : x = 0 := ub_inj (h.trans (by decide))
    subst e
    rfl
/-- the versions' arrays: keys, their lengths, moments, places, lengths of values, alone, order, spare; how many in order, spare, alone -/
def VersAt (H : aH) (N : Nat) (kf : Nat → Int8) (kl mo pl : Nat → Nat) (le : Nat → Option Nat) (al : Nat → Bool) (od sp : Nat → Nat) (sz ss ac : Nat) : Prop := H[74]? = some (kO 10 [.ref 8, .ref 76, .ref 77, .ref 78, .ref 79, .ref 80, .ref 81, .ref 82, .ref 83, .int (nI sz), .int (nI ss), .int (nI ac)]) ∧ H[75]? = some (kB (N * 41) kf) ∧ H[76]? = some (kI N (fun j => nI (kl j))) ∧ H[77]? = some (kI N (fun j => nI (mo j))) ∧ H[78]? = some (kI N (fun j => nI (pl j))) ∧ H[79]? = some (kI N (fun j => lI (le j))) ∧ H[80]? = some (kZ N al) ∧ H[81]? = some (kI N (fun j => nI (od j))) ∧ H[82]? = some (kI N (fun j => nI (sp j)))
/-- they are in bounds -/
def VersOk (N : Nat) (kl mo pl : Nat → Nat) (le : Nat → Option Nat) (od sp : Nat → Nat) (sz ss : Nat) : Prop := N ≤ 2560 ∧ sz ≤ N ∧ ss ≤ N ∧ (∀ p, p < sz → od p < N) ∧ (∀ i, i < ss → sp i < N) ∧ ∀ s, s < N → kl s ≤ 41 ∧ mo s < 2 ^ 30 ∧ pl s < 2 ^ 30 ∧ (le s).getD 0 < 2 ^ 30
theorem rc_valueAddress {sc : Nat × (Nat → Int32)} {d N : Nat} {H : aH} {kf : Nat → Int8} {kl mo pl : Nat → Nat} {le : Nat → Option Nat} {al : Nat → Bool} {od sp : Nat → Nat} {sz ss ac : Nat} {s : Nat} (h : VersAt H N kf kl mo pl le al od sp sz ss ac) (hk : VersOk N kl mo pl le od sp sz ss) (hs : s < N) : RC sc d mr_66 [.ref 75, .int (nI s)] H (.inl (some (.int (nI (pl s + 8 + kl s))))) H 0 0 := by
  have hN := hk.1
  have hsz := hk.2.1
  have hss := hk.2.2.1
  have hk_s := hk.2.2.2.2.2 s hs
  refine RP.blk 1 (pc' := 1) (lv' := [(0, .ref 75), (1, .int (nI s))]) (st' := [.ref 75]) (H' := _) (kc' := 0) (ks' := 0) rfl ?_
  refine RP.get (ci := 10) rfl h.1 rfl rfl ?_
  refine RP.blk 1 (pc' := 5) (lv' := [(0, .ref 75), (1, .int (nI s))]) (st' := [.int (nI s), .ref 79]) (H' := _) (kc' := 0) (ks' := 0) rfl ?_
  refine RP.ialdN (j := s) rfl h.2.2.2.2.1 (by omega) (by omega) ?_
  refine RP.blk 2 (pc' := 9) (lv' := [(0, .ref 75), (1, .int (nI s))]) (st' := [.int (nI (pl s) + 8)]) (H' := _) (kc' := 0) (ks' := 0) rfl ?_
  rw [show (nI (pl s) + 8 : Int32) = nI (pl s + 8) from nI_add (pl s) 8]
  refine RP.blk 1 (pc' := 10) (lv' := [(0, .ref 75), (1, .int (nI s))]) (st' := [.ref 75, .int (nI (pl s + 8))]) (H' := _) (kc' := 0) (ks' := 0) rfl ?_
  refine RP.get (ci := 10) rfl h.1 rfl rfl ?_
  refine RP.blk 1 (pc' := 14) (lv' := [(0, .ref 75), (1, .int (nI s))]) (st' := [.int (nI s), .ref 77, .int (nI (pl s + 8))]) (H' := _) (kc' := 0) (ks' := 0) rfl ?_
  refine RP.ialdN (j := s) rfl h.2.2.1 (by omega) (by omega) ?_
  refine RP.blk 1 (pc' := 16) (lv' := [(0, .ref 75), (1, .int (nI s))]) (st' := [.int (nI (pl s + 8) + nI (kl s))]) (H' := _) (kc' := 0) (ks' := 0) rfl ?_
  rw [show (nI (pl s + 8) + nI (kl s) : Int32) = nI (pl s + 8 + (kl s)) from nI_add (pl s + 8) (kl s)]
  exact RP.done (c := 0) (s := 0) rfl rfl rfl rfl
theorem rc_isUserT {sc : Nat × (Nat → Int32)} {d N : Nat} {H : aH} {kf : Nat → Int8} {kl mo pl : Nat → Nat} {le : Nat → Option Nat} {al : Nat → Bool} {od sp : Nat → Nat} {sz ss ac : Nat} {s : Nat} (h : VersAt H N kf kl mo pl le al od sp sz ss ac) (hk : VersOk N kl mo pl le od sp sz ss) (hs : s < N) (hu : ub (kf (s * 41)) = 0) : RC sc d mr_71 [.ref 75, .int (nI s)] H (.inl (some (.int 1))) H 0 0 := by
  have hN := hk.1
  have hsz := hk.2.1
  have hss := hk.2.2.1
  have hk_s := hk.2.2.2.2.2 s hs
  refine RP.blk 1 (pc' := 1) (lv' := [(0, .ref 75), (1, .int (nI s))]) (st' := [.ref 75]) (H' := _) (kc' := 0) (ks' := 0) rfl ?_
  refine RP.get (ci := 10) rfl h.1 rfl rfl ?_
  refine RP.blk 3 (pc' := 8) (lv' := [(0, .ref 75), (1, .int (nI s))]) (st' := [.int (nI s * 41), .ref 76]) (H' := _) (kc' := 0) (ks' := 0) rfl ?_
  rw [show (nI s * 41 : Int32) = nI (s * 41) from pk_mul s 41]
  refine RP.baldN (j := s * 41) rfl h.2.1 (by omega) (by omega) ?_
  refine RP.brF rfl rfl rfl (bnf (i8_0.mpr hu)) ?_
  refine RP.blk 2 (pc' := 17) (lv' := [(0, .ref 75), (1, .int (nI s))]) (st' := [.int 1]) (H' := _) (kc' := 0) (ks' := 0) rfl ?_
  exact RP.done (c := 0) (s := 0) rfl rfl rfl rfl
theorem rc_isUserF {sc : Nat × (Nat → Int32)} {d N : Nat} {H : aH} {kf : Nat → Int8} {kl mo pl : Nat → Nat} {le : Nat → Option Nat} {al : Nat → Bool} {od sp : Nat → Nat} {sz ss ac : Nat} {s : Nat} (h : VersAt H N kf kl mo pl le al od sp sz ss ac) (hk : VersOk N kl mo pl le od sp sz ss) (hs : s < N) (hu : ¬ ub (kf (s * 41)) = 0) : RC sc d mr_71 [.ref 75, .int (nI s)] H (.inl (some (.int 0))) H 0 0 := by
  have hN := hk.1
  have hsz := hk.2.1
  have hss := hk.2.2.1
  have hk_s := hk.2.2.2.2.2 s hs
  refine RP.blk 1 (pc' := 1) (lv' := [(0, .ref 75), (1, .int (nI s))]) (st' := [.ref 75]) (H' := _) (kc' := 0) (ks' := 0) rfl ?_
  refine RP.get (ci := 10) rfl h.1 rfl rfl ?_
  refine RP.blk 3 (pc' := 8) (lv' := [(0, .ref 75), (1, .int (nI s))]) (st' := [.int (nI s * 41), .ref 76]) (H' := _) (kc' := 0) (ks' := 0) rfl ?_
  rw [show (nI s * 41 : Int32) = nI (s * 41) from pk_mul s 41]
  refine RP.baldN (j := s * 41) rfl h.2.1 (by omega) (by omega) ?_
  refine RP.brT rfl rfl rfl (bnt (fun e => hu (i8_0.mp e))) ?_
  refine RP.blk 1 (pc' := 17) (lv' := [(0, .ref 75), (1, .int (nI s))]) (st' := [.int 0]) (H' := _) (kc' := 0) (ks' := 0) rfl ?_
  exact RP.done (c := 0) (s := 0) rfl rfl rfl rfl
theorem rc_sameKey {sc : Nat × (Nat → Int32)} {d N : Nat} {H : aH} {kf : Nat → Int8} {kl mo pl : Nat → Nat} {le : Nat → Option Nat} {al : Nat → Bool} {od sp : Nat → Nat} {sz ss ac : Nat} {s t : Nat} (h : VersAt H N kf kl mo pl le al od sp sz ss ac) (hk : VersOk N kl mo pl le od sp sz ss) (hs : s < N) (ht : t < N) : RC sc (d + 1) mr_74 [.ref 75, .int (nI s), .int (nI t)] H (.inl (some (.int (if sl kf (s * 41) (kl s) = sl kf (t * 41) (kl t) then 1 else 0)))) H 0 0 := by
  have hN := hk.1
  have hsz := hk.2.1
  have hss := hk.2.2.1
  have hk_s := hk.2.2.2.2.2 s hs
  have hk_t := hk.2.2.2.2.2 t ht
  refine RC.of ?_
  refine RQ.blk 1 (pc' := 1) (lv' := [(0, .ref 75), (1, .int (nI s)), (2, .int (nI t))]) (st' := [.ref 75]) (H' := _) (kc' := 0) (ks' := 0) rfl ?_
  refine RQ.get (ci := 10) rfl h.1 rfl rfl ?_
  refine RQ.blk 1 (pc' := 5) (lv' := [(0, .ref 75), (1, .int (nI s)), (2, .int (nI t))]) (st' := [.int (nI s), .ref 77]) (H' := _) (kc' := 0) (ks' := 0) rfl ?_
  refine RQ.ialdN (j := s) rfl h.2.2.1 (by omega) (by omega) ?_
  refine RQ.blk 1 (pc' := 7) (lv' := [(0, .ref 75), (1, .int (nI s)), (2, .int (nI t))]) (st' := [.ref 75, .int (nI (kl s))]) (H' := _) (kc' := 0) (ks' := 0) rfl ?_
  refine RQ.get (ci := 10) rfl h.1 rfl rfl ?_
  refine RQ.blk 1 (pc' := 11) (lv' := [(0, .ref 75), (1, .int (nI s)), (2, .int (nI t))]) (st' := [.int (nI t), .ref 77, .int (nI (kl s))]) (H' := _) (kc' := 0) (ks' := 0) rfl ?_
  refine RQ.ialdN (j := t) rfl h.2.2.1 (by omega) (by omega) ?_
  by_cases hl : kl s = kl t
  ·
    refine RQ.brF rfl rfl rfl (cF_ne (kl s) (kl t)) ?_
    refine RQ.blk 1 (pc' := 16) (lv' := [(0, .ref 75), (1, .int (nI s)), (2, .int (nI t))]) (st' := [.ref 75]) (H' := _) (kc' := 0) (ks' := 0) rfl ?_
    refine RQ.get (ci := 10) rfl h.1 rfl rfl ?_
    refine RQ.blk 3 (pc' := 23) (lv' := [(0, .ref 75), (1, .int (nI s)), (2, .int (nI t))]) (st' := [.int (nI s * 41), .ref 76]) (H' := _) (kc' := 0) (ks' := 0) rfl ?_
    rw [show (nI s * 41 : Int32) = nI (s * 41) from pk_mul s 41]
    refine RQ.blk 1 (pc' := 24) (lv' := [(0, .ref 75), (1, .int (nI s)), (2, .int (nI t))]) (st' := [.ref 75, .int (nI (s * 41)), .ref 76]) (H' := _) (kc' := 0) (ks' := 0) rfl ?_
    refine RQ.get (ci := 10) rfl h.1 rfl rfl ?_
    refine RQ.blk 1 (pc' := 28) (lv' := [(0, .ref 75), (1, .int (nI s)), (2, .int (nI t))]) (st' := [.int (nI s), .ref 77, .int (nI (s * 41)), .ref 76]) (H' := _) (kc' := 0) (ks' := 0) rfl ?_
    refine RQ.ialdN (j := s) rfl h.2.2.1 (by omega) (by omega) ?_
    refine RQ.blk 1 (pc' := 30) (lv' := [(0, .ref 75), (1, .int (nI s)), (2, .int (nI t))]) (st' := [.ref 75, .int (nI (kl s)), .int (nI (s * 41)), .ref 76]) (H' := _) (kc' := 0) (ks' := 0) rfl ?_
    refine RQ.get (ci := 10) rfl h.1 rfl rfl ?_
    refine RQ.blk 3 (pc' := 37) (lv' := [(0, .ref 75), (1, .int (nI s)), (2, .int (nI t))]) (st' := [.int (nI t * 41), .ref 76, .int (nI (kl s)), .int (nI (s * 41)), .ref 76]) (H' := _) (kc' := 0) (ks' := 0) rfl ?_
    rw [show (nI t * 41 : Int32) = nI (t * 41) from pk_mul t 41]
    refine RQ.blk 1 (pc' := 38) (lv' := [(0, .ref 75), (1, .int (nI s)), (2, .int (nI t))]) (st' := [.ref 75, .int (nI (t * 41)), .ref 76, .int (nI (kl s)), .int (nI (s * 41)), .ref 76]) (H' := _) (kc' := 0) (ks' := 0) rfl ?_
    refine RQ.get (ci := 10) rfl h.1 rfl rfl ?_
    refine RQ.blk 1 (pc' := 42) (lv' := [(0, .ref 75), (1, .int (nI s)), (2, .int (nI t))]) (st' := [.int (nI t), .ref 77, .int (nI (t * 41)), .ref 76, .int (nI (kl s)), .int (nI (s * 41)), .ref 76]) (H' := _) (kc' := 0) (ks' := 0) rfl ?_
    refine RQ.ialdN (j := t) rfl h.2.2.1 (by omega) (by omega) ?_
    refine RQ.callI (st' := []) rfl rfl rfl rfl rfl rfl rfl (ri_cmp h.2.1 h.2.1 (by omega) (by omega) (by omega) (by omega)) (fun x H' hx => ?_)
    rw [hx.1]
    replace hx := hx.2
    by_cases he : sl kf (s * 41) (kl s) = sl kf (t * 41) (kl t)
    ·
      refine RQ.brF rfl rfl rfl (bnf (Int32.toInt_inj.mp (by rw [hx, he, cmpL_self]; rfl))) ?_
      refine RQ.blk 2 (pc' := 54) (lv' := [(0, .ref 75), (1, .int (nI s)), (2, .int (nI t))]) (st' := [.int 1]) (H' := _) (kc' := 0) (ks' := 0) rfl ?_
      rw [if_pos he]
      exact RQ.done (c := 0) (s := 0) rfl rfl rfl rfl rfl
    ·
      refine RQ.brT rfl rfl rfl (bnt (fun e => he (cmpL_eq.mp (hx.symm.trans (toInt_0 e))))) ?_
      refine RQ.blk 1 (pc' := 54) (lv' := [(0, .ref 75), (1, .int (nI s)), (2, .int (nI t))]) (st' := [.int 0]) (H' := _) (kc' := 0) (ks' := 0) rfl ?_
      rw [if_neg he]
      exact RQ.done (c := 0) (s := 0) rfl rfl rfl rfl rfl
  ·
    refine RQ.brT rfl rfl rfl (cT_ne (kl s) (kl t)) ?_
    refine RQ.blk 1 (pc' := 54) (lv' := [(0, .ref 75), (1, .int (nI s)), (2, .int (nI t))]) (st' := [.int 0]) (H' := _) (kc' := 0) (ks' := 0) rfl ?_
    rw [if_neg (fun e => hl (by have := congrArg List.length e; rw [sl_length, sl_length] at this; exact this))]
    exact RQ.done (c := 0) (s := 0) rfl rfl rfl rfl rfl
theorem rc_hasKey {sc : Nat × (Nat → Int32)} {a na j m : Nat} {d N : Nat} {H : aH} {kf : Nat → Int8} {kl mo pl : Nat → Nat} {le : Nat → Option Nat} {al : Nat → Bool} {od sp : Nat → Nat} {sz ss ac : Nat} {s : Nat} {g : Nat → Int8} (h : VersAt H N kf kl mo pl le al od sp sz ss ac) (hk : VersOk N kl mo pl le od sp sz ss) (h1 : H[a]? = some (kB na g)) (hna : na < 2 ^ 30) (hj : j + m ≤ na) (hs : s < N) : RC sc (d + 1) mr_59 [.ref 75, .int (nI s), .ref (a + 1), .int (nI j), .int (nI m)] H (.inl (some (.int (if sl kf (s * 41) (kl s) = sl g j m then 1 else 0)))) H 0 0 := by
  have hN := hk.1
  have hsz := hk.2.1
  have hss := hk.2.2.1
  have hk_s := hk.2.2.2.2.2 s hs
  refine RC.of ?_
  refine RQ.blk 1 (pc' := 1) (lv' := [(0, .ref 75), (1, .int (nI s)), (2, .ref (a + 1)), (3, .int (nI j)), (4, .int (nI m))]) (st' := [.ref 75]) (H' := _) (kc' := 0) (ks' := 0) rfl ?_
  refine RQ.get (ci := 10) rfl h.1 rfl rfl ?_
  refine RQ.blk 1 (pc' := 5) (lv' := [(0, .ref 75), (1, .int (nI s)), (2, .ref (a + 1)), (3, .int (nI j)), (4, .int (nI m))]) (st' := [.int (nI s), .ref 77]) (H' := _) (kc' := 0) (ks' := 0) rfl ?_
  refine RQ.ialdN (j := s) rfl h.2.2.1 (by omega) (by omega) ?_
  refine RQ.blk 1 (pc' := 8) (lv' := [(0, .ref 75), (1, .int (nI s)), (2, .ref (a + 1)), (3, .int (nI j)), (4, .int (nI m))]) (st' := [.int (nI m), .int (nI (kl s))]) (H' := _) (kc' := 0) (ks' := 0) rfl ?_
  by_cases hl : kl s = m
  ·
    refine RQ.brF rfl rfl rfl (cF_ne (kl s) m) ?_
    refine RQ.blk 1 (pc' := 12) (lv' := [(0, .ref 75), (1, .int (nI s)), (2, .ref (a + 1)), (3, .int (nI j)), (4, .int (nI m))]) (st' := [.ref 75]) (H' := _) (kc' := 0) (ks' := 0) rfl ?_
    refine RQ.get (ci := 10) rfl h.1 rfl rfl ?_
    refine RQ.blk 3 (pc' := 19) (lv' := [(0, .ref 75), (1, .int (nI s)), (2, .ref (a + 1)), (3, .int (nI j)), (4, .int (nI m))]) (st' := [.int (nI s * 41), .ref 76]) (H' := _) (kc' := 0) (ks' := 0) rfl ?_
    rw [show (nI s * 41 : Int32) = nI (s * 41) from pk_mul s 41]
    refine RQ.blk 4 (pc' := 25) (lv' := [(0, .ref 75), (1, .int (nI s)), (2, .ref (a + 1)), (3, .int (nI j)), (4, .int (nI m))]) (st' := [.int (nI m), .int (nI j), .ref (a + 1), .int (nI m), .int (nI (s * 41)), .ref 76]) (H' := _) (kc' := 0) (ks' := 0) rfl ?_
    refine RQ.callI (st' := []) rfl rfl rfl rfl rfl rfl rfl (ri_cmp h.2.1 h1 (by omega) hna (by omega) hj) (fun x H' hx => ?_)
    rw [hx.1]
    replace hx := hx.2
    rw [← hl] at hx ⊢
    by_cases he : sl kf (s * 41) (kl s) = sl g j (kl s)
    ·
      refine RQ.brF rfl rfl rfl (bnf (Int32.toInt_inj.mp (by rw [hx, he, cmpL_self]; rfl))) ?_
      refine RQ.blk 2 (pc' := 36) (lv' := [(0, .ref 75), (1, .int (nI s)), (2, .ref (a + 1)), (3, .int (nI j)), (4, .int (nI (kl s)))]) (st' := [.int 1]) (H' := _) (kc' := 0) (ks' := 0) rfl ?_
      rw [if_pos he]
      exact RQ.done (c := 0) (s := 0) rfl rfl rfl rfl rfl
    ·
      refine RQ.brT rfl rfl rfl (bnt (fun e => he (cmpL_eq.mp (hx.symm.trans (toInt_0 e))))) ?_
      refine RQ.blk 1 (pc' := 36) (lv' := [(0, .ref 75), (1, .int (nI s)), (2, .ref (a + 1)), (3, .int (nI j)), (4, .int (nI (kl s)))]) (st' := [.int 0]) (H' := _) (kc' := 0) (ks' := 0) rfl ?_
      rw [if_neg he]
      exact RQ.done (c := 0) (s := 0) rfl rfl rfl rfl rfl
  ·
    refine RQ.brT rfl rfl rfl (cT_ne (kl s) m) ?_
    refine RQ.blk 1 (pc' := 36) (lv' := [(0, .ref 75), (1, .int (nI s)), (2, .ref (a + 1)), (3, .int (nI j)), (4, .int (nI m))]) (st' := [.int 0]) (H' := _) (kc' := 0) (ks' := 0) rfl ?_
    rw [if_neg (fun e => hl (by have := congrArg List.length e; rw [sl_length, sl_length] at this; exact this))]
    exact RQ.done (c := 0) (s := 0) rfl rfl rfl rfl rfl
/-- what a version weighs: the kind of its key, the key's length, the value's -/
def wgt (k n : Nat) (l : Option Nat) : Nat := if k = 0 then 24 + n - 1 + l.getD 0 else if k = 1 then 62 + l.getD 0 - 4 else 27 + l.getD 0
theorem rc_weight {sc : Nat × (Nat → Int32)} {d n : Nat} {H : aH} {x : Int8} {l : Option Nat} (hn : n < 2 ^ 30) (hl : l.getD 0 < 2 ^ 30) : RC sc d mr_92 [.int x.toInt32, .int (nI n), .int (lI l)] H (.inl (some (.int (nI (wgt (ub x) n l))))) H 0 0 := by
  refine RP.blk 3 (pc' := 5) (lv' := [(0, .int x.toInt32), (1, .int (nI n)), (2, .int (lI l))]) (st' := [.int (if lI l < 0 then 0 else lI l)]) (H' := _) (kc' := 0) (ks' := 0) rfl ?_
  rw [maxL (by omega)]
  refine RP.blk 2 (pc' := 7) (lv' := [(3, .int (nI (l.getD 0))), (0, .int x.toInt32), (1, .int (nI n)), (2, .int (lI l))]) (st' := [.int x.toInt32]) (H' := _) (kc' := 0) (ks' := 0) rfl ?_
  unfold wgt
  by_cases h0 : ub x = 0
  · rw [if_pos h0]
    refine RP.brF rfl rfl rfl (bnf (i8_0.mpr h0)) ?_
    refine RP.blk 3 (pc' := 14) (lv' := [(3, .int (nI (l.getD 0))), (0, .int x.toInt32), (1, .int (nI n)), (2, .int (lI l))]) (st' := [.int (24 + nI n)]) (H' := _) (kc' := 0) (ks' := 0) rfl ?_
    rw [show (24 + nI n : Int32) = nI (24 + n) from nI_add 24 n]
    refine RP.blk 2 (pc' := 16) (lv' := [(3, .int (nI (l.getD 0))), (0, .int x.toInt32), (1, .int (nI n)), (2, .int (lI l))]) (st' := [.int (nI (24 + n) - 1)]) (H' := _) (kc' := 0) (ks' := 0) rfl ?_
    rw [show (nI (24 + n) - 1 : Int32) = nI ((24 + n) - 1) from pk_sub (a := (24 + n)) (b := 1) (by omega)]
    refine RP.blk 2 (pc' := 18) (lv' := [(3, .int (nI (l.getD 0))), (0, .int x.toInt32), (1, .int (nI n)), (2, .int (lI l))]) (st' := [.int (nI ((24 + n) - 1) + nI (l.getD 0))]) (H' := _) (kc' := 0) (ks' := 0) rfl ?_
    rw [show (nI ((24 + n) - 1) + nI (l.getD 0) : Int32) = nI ((24 + n) - 1 + (l.getD 0)) from nI_add ((24 + n) - 1) (l.getD 0)]
    exact RP.done (c := 0) (s := 0) rfl rfl rfl rfl
  · rw [if_neg h0]
    refine RP.brT rfl rfl rfl (bnt (fun e => h0 (i8_0.mp e))) ?_
    refine RP.blk 2 (pc' := 21) (lv' := [(3, .int (nI (l.getD 0))), (0, .int x.toInt32), (1, .int (nI n)), (2, .int (lI l))]) (st' := [.int 1, .int x.toInt32]) (H' := _) (kc' := 0) (ks' := 0) rfl ?_
    by_cases h1 : ub x = 1
    · rw [if_pos h1]
      refine RP.brF rfl rfl rfl (bnf (show x.toInt32 = 1 by rw [show x = 1 from ub_inj (h1.trans (by decide))]; rfl)) ?_
      refine RP.blk 3 (pc' := 28) (lv' := [(3, .int (nI (l.getD 0))), (0, .int x.toInt32), (1, .int (nI n)), (2, .int (lI l))]) (st' := [.int (62 + nI (l.getD 0))]) (H' := _) (kc' := 0) (ks' := 0) rfl ?_
      rw [show (62 + nI (l.getD 0) : Int32) = nI (62 + (l.getD 0)) from nI_add 62 (l.getD 0)]
      refine RP.blk 2 (pc' := 30) (lv' := [(3, .int (nI (l.getD 0))), (0, .int x.toInt32), (1, .int (nI n)), (2, .int (lI l))]) (st' := [.int (nI (62 + (l.getD 0)) - 4)]) (H' := _) (kc' := 0) (ks' := 0) rfl ?_
      rw [show (nI (62 + (l.getD 0)) - 4 : Int32) = nI ((62 + (l.getD 0)) - 4) from pk_sub (a := (62 + (l.getD 0))) (b := 4) (by omega)]
      refine RP.blk 1 (pc' := 37) (lv' := [(3, .int (nI (l.getD 0))), (0, .int x.toInt32), (1, .int (nI n)), (2, .int (lI l))]) (st' := [.int (nI ((62 + (l.getD 0)) - 4))]) (H' := _) (kc' := 0) (ks' := 0) rfl ?_
      exact RP.done (c := 0) (s := 0) rfl rfl rfl rfl
    · rw [if_neg h1]
      refine RP.brT rfl rfl rfl (bnt (fun e => h1 (by have h2 := ub_and x; rw [e] at h2; exact ((nI_eq (a := 1) (by decide) (by have := ub_lt x; omega)).mp h2).symm))) ?_
      refine RP.blk 3 (pc' := 37) (lv' := [(3, .int (nI (l.getD 0))), (0, .int x.toInt32), (1, .int (nI n)), (2, .int (lI l))]) (st' := [.int (27 + nI (l.getD 0))]) (H' := _) (kc' := 0) (ks' := 0) rfl ?_
      rw [show (27 + nI (l.getD 0) : Int32) = nI (27 + (l.getD 0)) from nI_add 27 (l.getD 0)]
      exact RP.done (c := 0) (s := 0) rfl rfl rfl rfl
theorem rc_weightOf {sc : Nat × (Nat → Int32)} {d N : Nat} {H : aH} {kf : Nat → Int8} {kl mo pl : Nat → Nat} {le : Nat → Option Nat} {al : Nat → Bool} {od sp : Nat → Nat} {sz ss ac : Nat} {s : Nat} (h : VersAt H N kf kl mo pl le al od sp sz ss ac) (hk : VersOk N kl mo pl le od sp sz ss) (hs : s < N) : RC sc (d + 1) mr_91 [.ref 75, .int (nI s)] H (.inl (some (.int (nI (wgt (ub (kf (s * 41))) (kl s) (le s)))))) H 0 0 := by
  have hN := hk.1
  have hsz := hk.2.1
  have hss := hk.2.2.1
  have hk_s := hk.2.2.2.2.2 s hs
  refine RP.blk 1 (pc' := 1) (lv' := [(0, .ref 75), (1, .int (nI s))]) (st' := [.ref 75]) (H' := _) (kc' := 0) (ks' := 0) rfl ?_
  refine RP.get (ci := 10) rfl h.1 rfl rfl ?_
  refine RP.blk 3 (pc' := 8) (lv' := [(0, .ref 75), (1, .int (nI s))]) (st' := [.int (nI s * 41), .ref 76]) (H' := _) (kc' := 0) (ks' := 0) rfl ?_
  rw [show (nI s * 41 : Int32) = nI (s * 41) from pk_mul s 41]
  refine RP.baldN (j := s * 41) rfl h.2.1 (by omega) (by omega) ?_
  refine RP.blk 1 (pc' := 10) (lv' := [(0, .ref 75), (1, .int (nI s))]) (st' := [.ref 75, .int ((kf (s * 41)).toInt32)]) (H' := _) (kc' := 0) (ks' := 0) rfl ?_
  refine RP.get (ci := 10) rfl h.1 rfl rfl ?_
  refine RP.blk 1 (pc' := 14) (lv' := [(0, .ref 75), (1, .int (nI s))]) (st' := [.int (nI s), .ref 77, .int ((kf (s * 41)).toInt32)]) (H' := _) (kc' := 0) (ks' := 0) rfl ?_
  refine RP.ialdN (j := s) rfl h.2.2.1 (by omega) (by omega) ?_
  refine RP.blk 1 (pc' := 16) (lv' := [(0, .ref 75), (1, .int (nI s))]) (st' := [.ref 75, .int (nI (kl s)), .int ((kf (s * 41)).toInt32)]) (H' := _) (kc' := 0) (ks' := 0) rfl ?_
  refine RP.get (ci := 10) rfl h.1 rfl rfl ?_
  refine RP.blk 1 (pc' := 20) (lv' := [(0, .ref 75), (1, .int (nI s))]) (st' := [.int (nI s), .ref 80, .int (nI (kl s)), .int ((kf (s * 41)).toInt32)]) (H' := _) (kc' := 0) (ks' := 0) rfl ?_
  refine RP.ialdN (j := s) rfl h.2.2.2.2.2.1 (by omega) (by omega) ?_
  refine RP.call (v := some (.int (nI (wgt (ub (kf (s * 41))) (kl s) (le s))))) (st' := []) rfl rfl rfl rfl rfl rfl rfl (rc_weight (x := kf (s * 41)) (l := le s) (by omega) (by omega)) ?_
  exact RP.done (c := 0) (s := 0) rfl rfl rfl rfl
theorem b_and {b : Bool} : decide ((if b then (1 : Int32) else 0) &&& 1 = 1) = b := by cases b <;> decide
/-- how many are alone behind setAlone -/
def acUp (a b : Bool) (ac : Nat) : Nat := if a = b then ac else if b then ac + 1 else ac - 1
theorem b_inj {a b : Bool} : (if a then (1 : Int32) else 0) = (if b then 1 else 0) ↔ a = b := by cases a <;> cases b <;> decide
theorem up_self {α : Type} {f : Nat → α} {i : Nat} : va_up f i (f i) = f := by
  funext j
  unfold va_up
  split
  · next h => rw [h]
  · rfl
theorem rn_setAlone {sc : Nat × (Nat → Int32)} {d N : Nat} {H : aH} {kf : Nat → Int8} {kl mo pl : Nat → Nat} {le : Nat → Option Nat} {al : Nat → Bool} {od sp : Nat → Nat} {sz ss ac : Nat} {s : Nat} {b : Bool} (h : VersAt H N kf kl mo pl le al od sp sz ss ac) (hk : VersOk N kl mo pl le od sp sz ss) (hs : s < N) (hac : al s = true → 1 ≤ ac) : RN sc d mr_85 [.ref 75, .int (nI s), .int (if b then 1 else 0)] H (fun H' => VersAt H' N kf kl mo pl le (va_up al s b) od sp sz ss (acUp (al s) b ac) ∧ ∀ a, ¬ (74 ≤ a ∧ a < 83) → H'[a]? = H[a]?) := by
  have hN := hk.1
  have hsz := hk.2.1
  have hss := hk.2.2.1
  have hk_s := hk.2.2.2.2.2 s hs
  refine RN.of ?_
  refine RQ.blk 1 (pc' := 1) (lv' := [(0, .ref 75), (1, .int (nI s)), (2, .int (if b then 1 else 0))]) (st' := [.ref 75]) (H' := _) (kc' := 0) (ks' := 0) rfl ?_
  refine RQ.get (ci := 10) rfl h.1 rfl rfl ?_
  refine RQ.blk 1 (pc' := 5) (lv' := [(0, .ref 75), (1, .int (nI s)), (2, .int (if b then 1 else 0))]) (st' := [.int (nI s), .ref 81]) (H' := _) (kc' := 0) (ks' := 0) rfl ?_
  refine RQ.zaldN (j := s) rfl h.2.2.2.2.2.2.1 (by omega) (by omega) ?_
  refine RQ.blk 1 (pc' := 7) (lv' := [(0, .ref 75), (1, .int (nI s)), (2, .int (if b then 1 else 0))]) (st' := [.int (if b then 1 else 0), .int (if al s then 1 else 0)]) (H' := _) (kc' := 0) (ks' := 0) rfl ?_
  by_cases hb : al s = b
  ·
    refine RQ.brT rfl rfl rfl (decide_eq_true (b_inj.mpr hb)) ?_
    exact RQ.done (c := 0) (s := 0) rfl rfl rfl rfl ⟨_, rfl, by rw [show va_up al s b = al from by rw [← hb]; exact up_self, show acUp (al s) b ac = ac from if_pos hb]; exact h, fun a ha => rfl⟩
  ·
    refine RQ.brF rfl rfl rfl (decide_eq_false (fun e => hb (b_inj.mp e))) ?_
    refine RQ.blk 1 (pc' := 11) (lv' := [(0, .ref 75), (1, .int (nI s)), (2, .int (if b then 1 else 0))]) (st' := [.ref 75]) (H' := _) (kc' := 0) (ks' := 0) rfl ?_
    refine RQ.get (ci := 10) rfl h.1 rfl rfl ?_
    refine RQ.blk 2 (pc' := 16) (lv' := [(0, .ref 75), (1, .int (nI s)), (2, .int (if b then 1 else 0))]) (st' := [.int (if b then 1 else 0), .int (nI s), .ref 81]) (H' := _) (kc' := 0) (ks' := 0) rfl ?_
    refine RQ.zastN (j := s) rfl h.2.2.2.2.2.2.1 (by omega) (by omega) ?_
    rw [b_and]
    refine RQ.blk 2 (pc' := 19) (lv' := [(0, .ref 75), (1, .int (nI s)), (2, .int (if b then 1 else 0))]) (st' := [.ref 75, .ref 75]) (H' := _) (kc' := 0) (ks' := 0) rfl ?_
    refine RQ.get (ci := 10) rfl ((set_far (by decide)).trans h.1) rfl rfl ?_
    refine RQ.blk 1 (pc' := 23) (lv' := [(0, .ref 75), (1, .int (nI s)), (2, .int (if b then 1 else 0))]) (st' := [.int (if b then 1 else 0), .int (nI ac), .ref 75]) (H' := _) (kc' := 0) (ks' := 0) rfl ?_
    cases b with
    | true =>
      refine RQ.brF rfl rfl rfl (by decide) ?_
      refine RQ.blk 3 (pc' := 32) (lv' := [(0, .ref 75), (1, .int (nI s)), (2, .int (if true then 1 else 0))]) (st' := [.int (nI ac + 1), .ref 75]) (H' := _) (kc' := 0) (ks' := 0) rfl ?_
      rw [show (nI ac + 1 : Int32) = nI (ac + 1) from nI_add ac 1]
      refine RQ.put (ci := 10) rfl ((set_far (by decide)).trans h.1) rfl rfl (Nat.le_of_ble_eq_true rfl) ?_
      have e : acUp (al s) true ac = ac + 1 := by unfold acUp; rw [if_neg hb]; rfl
      rw [e]
      exact RQ.done (c := 0) (s := 0) rfl rfl rfl rfl ⟨_, rfl, ⟨get_set ((set_far (by decide)).trans h.1), (set_far (by decide)).trans ((set_far (by decide)).trans h.2.1), (set_far (by decide)).trans ((set_far (by decide)).trans h.2.2.1), (set_far (by decide)).trans ((set_far (by decide)).trans h.2.2.2.1), (set_far (by decide)).trans ((set_far (by decide)).trans h.2.2.2.2.1), (set_far (by decide)).trans ((set_far (by decide)).trans h.2.2.2.2.2.1), (set_far (by decide)).trans (get_set h.2.2.2.2.2.2.1), (set_far (by decide)).trans ((set_far (by decide)).trans h.2.2.2.2.2.2.2.1), (set_far (by decide)).trans ((set_far (by decide)).trans h.2.2.2.2.2.2.2.2)⟩, fun a ha => (set_far (by omega)).trans (set_far (by omega))⟩
    | false =>
      have ha : al s = true := by cases e : al s with | true => rfl | false => exact absurd e hb
      obtain ⟨c, rfl⟩ : ∃ c, ac = c + 1 := ⟨ac - 1, by have := hac ha; omega⟩
      refine RQ.brT rfl rfl rfl (by decide) ?_
      refine RQ.blk 1 (pc' := 31) (lv' := [(0, .ref 75), (1, .int (nI s)), (2, .int (if false then 1 else 0))]) (st' := [.int (-1), .int (nI (c + 1)), .ref 75]) (H' := _) (kc' := 0) (ks' := 0) rfl ?_
      refine RQ.blk 1 (pc' := 32) (lv' := [(0, .ref 75), (1, .int (nI s)), (2, .int (if false then 1 else 0))]) (st' := [.int (nI (c + 1) + (-1)), .ref 75]) (H' := _) (kc' := 0) (ks' := 0) rfl ?_
      rw [pk_m1]
      refine RQ.put (ci := 10) rfl ((set_far (by decide)).trans h.1) rfl rfl (Nat.le_of_ble_eq_true rfl) ?_
      have e : acUp (al s) false (c + 1) = c := by unfold acUp; rw [if_neg hb]; rfl
      rw [e]
      exact RQ.done (c := 0) (s := 0) rfl rfl rfl rfl ⟨_, rfl, ⟨get_set ((set_far (by decide)).trans h.1), (set_far (by decide)).trans ((set_far (by decide)).trans h.2.1), (set_far (by decide)).trans ((set_far (by decide)).trans h.2.2.1), (set_far (by decide)).trans ((set_far (by decide)).trans h.2.2.2.1), (set_far (by decide)).trans ((set_far (by decide)).trans h.2.2.2.2.1), (set_far (by decide)).trans ((set_far (by decide)).trans h.2.2.2.2.2.1), (set_far (by decide)).trans (get_set h.2.2.2.2.2.2.1), (set_far (by decide)).trans ((set_far (by decide)).trans h.2.2.2.2.2.2.2.1), (set_far (by decide)).trans ((set_far (by decide)).trans h.2.2.2.2.2.2.2.2)⟩, fun a ha => (set_far (by omega)).trans (set_far (by omega))⟩
