/-! ===== the transactions: which are open, what they see; class; written by wip/gen/sight2.py ===== -/
theorem z_eqT {b : Bool} (h : b = true) : cond32 .eq (if b then (1 : Int32) else 0) 0 = false := by subst h; decide
theorem z_eqF {b : Bool} (h : b = false) : cond32 .eq (if b then (1 : Int32) else 0) 0 = true := by subst h; decide
theorem z_neT {b : Bool} (h : b = true) : cond32 .ne (if b then (1 : Int32) else 0) 0 = true := by subst h; decide
theorem z_neF {b : Bool} (h : b = false) : cond32 .ne (if b then (1 : Int32) else 0) 0 = false := by subst h; decide
theorem i_eqT {b : Bool} (h : b = true) : (if b then (1 : Int32) else 0) = 1 := by subst h; rfl
theorem i_eqF {b : Bool} (h : b = false) : (if b then (1 : Int32) else 0) = 0 := by subst h; rfl
theorem any_T {P : Nat → Bool} {i n : Nat} (h : i < n) (hP : P i = true) : (List.range n).any P = true := List.any_eq_true.mpr ⟨i, List.mem_range.mpr h, hP⟩
theorem any_F {P : Nat → Bool} {n : Nat} (h : ∀ i, i < n → P i = false) : (List.range n).any P = false := by
  rw [Bool.eq_false_iff]
  intro e
  obtain ⟨i, h1, h2⟩ := List.any_eq_true.mp e
  rw [h i (List.mem_range.mp h1)] at h2
  cases h2
/-- the transactions: open or not, and the moments that they see -/
def SightAt (H : aH) (op : Nat → Bool) (mo : Nat → Nat) : Prop := H[7]? = some (kO 7 [.ref 9, .ref 10, .ref 11]) ∧ H[8]? = some (kZ 8 op) ∧ H[9]? = some (kI 8 (fun j => nI (mo j)))
/-- how many of the first n -/
def cntB (op : Nat → Bool) : Nat → Nat
  | 0 => 0
  | n + 1 => cntB op n + (if op n then 1 else 0)
theorem cntB_le (op : Nat → Bool) : ∀ n, cntB op n ≤ n
  | 0 => Nat.le_refl _
  | n + 1 => by
    have := cntB_le op n
    rw [cntB]
    split <;> omega
theorem ri_leastClosed {sc : Nat × (Nat → Int32)} {d : Nat} {H : aH} {op : Nat → Bool} {mo : Nat → Nat} (h : SightAt H op mo) : RI sc d mr_29 [.ref 8] H (fun x H' => H' = H ∧ ((∃ t, t < 8 ∧ x = nI t ∧ op t = false ∧ ∀ s, s < t → op s = true) ∨ (x = -1 ∧ ∀ s, s < 8 → op s = true))) := by
  refine RI.of ?_
  refine RQ.blk 2 (pc' := 2) (lv' := [(1, .int 0), (0, .ref 8)]) (st' := []) (H' := _) (kc' := 0) (ks' := 0) rfl ?_
  refine RQ.loopQ (pc := 2) (fun i => ∀ s, s < i → op s = true) (fun i => [(1, .int (nI i)), (0, .ref 8)]) 8 (fun i hi h2 ih => ?_) (fun h2 => ?_) (fun s hs => absurd hs (Nat.not_lt_zero _))
  ·
    refine RQ.blk 2 (pc' := 5) (lv' := [(1, .int (nI i)), (0, .ref 8)]) (st' := [.int 8, .int (nI i)]) (H' := _) (kc' := 0) (ks' := 0) rfl ?_
    refine RQ.brF rfl rfl rfl (cF_ge i 8) ?_
    refine RQ.blk 1 (pc' := 9) (lv' := [(1, .int (nI i)), (0, .ref 8)]) (st' := [.ref 8]) (H' := _) (kc' := 0) (ks' := 0) rfl ?_
    refine RQ.get (ci := 7) rfl h.1 rfl rfl ?_
    refine RQ.blk 1 (pc' := 13) (lv' := [(1, .int (nI i)), (0, .ref 8)]) (st' := [.int (nI i), .ref 9]) (H' := _) (kc' := 0) (ks' := 0) rfl ?_
    refine RQ.zaldN (j := i) rfl h.2.1 (by omega) (by decide) ?_
    cases hb : op i with
    | false =>
      refine RQ.brF rfl rfl rfl (by decide) ?_
      refine RQ.blk 1 (pc' := 18) (lv' := [(1, .int (nI i)), (0, .ref 8)]) (st' := [.int (nI i)]) (H' := _) (kc' := 0) (ks' := 0) rfl ?_
      exact RQ.done (c := 0) (s := 0) rfl rfl rfl rfl ⟨_, _, rfl, rfl, Or.inl ⟨i, hi, rfl, hb, h2⟩⟩
    | true =>
      refine RQ.brT rfl rfl rfl (by decide) ?_
      refine RQ.blk 1 (pc' := 22) (lv' := [(1, .int (nI i + 1)), (0, .ref 8)]) (st' := []) (H' := _) (kc' := 0) (ks' := 0) rfl ?_
      rw [show (nI i + 1 : Int32) = nI (i + 1) from nI_add i 1]
      refine RQ.blk 1 (pc' := 2) (lv' := [(1, .int (nI (i + 1))), (0, .ref 8)]) (st' := []) (H' := _) (kc' := 0) (ks' := 0) rfl ?_
      exact ih (fun s hs => (Nat.lt_succ_iff_lt_or_eq.mp hs).elim (h2 s) (fun e => e ▸ hb))
  ·
    refine RQ.blk 2 (pc' := 5) (lv' := [(1, .int (nI 8)), (0, .ref 8)]) (st' := [.int 8, .int (nI 8)]) (H' := _) (kc' := 0) (ks' := 0) rfl ?_
    refine RQ.brT rfl rfl rfl (cT_ge 8 8) ?_
    refine RQ.blk 1 (pc' := 26) (lv' := [(1, .int (nI 8)), (0, .ref 8)]) (st' := [.int (-1)]) (H' := _) (kc' := 0) (ks' := 0) rfl ?_
    exact RQ.done (c := 0) (s := 0) rfl rfl rfl rfl ⟨_, _, rfl, rfl, Or.inr ⟨rfl, h2⟩⟩
theorem rc_openCount {sc : Nat × (Nat → Int32)} {d : Nat} {H : aH} {op : Nat → Bool} {mo : Nat → Nat} (h : SightAt H op mo) : RC sc d mr_197 [.ref 8] H (.inl (some (.int (nI (cntB op 8))))) H 0 0 := by
  refine RP.blk 4 (pc' := 4) (lv' := [(2, .int 0), (1, .int 0), (0, .ref 8)]) (st' := []) (H' := _) (kc' := 0) (ks' := 0) rfl ?_
  have start : RP sc d mr_197 4 [(2, .int (nI 0)), (1, .int (nI (cntB op 0))), (0, .ref 8)] [] H 0 0 (.inl (some (.int (nI (cntB op 8)))), H, 0, 0) := by
    refine RP.loop 4 (fun i => [(2, .int (nI i)), (1, .int (nI (cntB op i))), (0, .ref 8)]) [] (fun _ => H) 0 0 8 (fun i hi kk => ?_) ?_
    ·
      refine RP.blk 2 (pc' := 7) (lv' := [(2, .int (nI i)), (1, .int (nI (cntB op i))), (0, .ref 8)]) (st' := [.int 8, .int (nI i)]) (H' := _) (kc' := 0) (ks' := 0) rfl ?_
      refine RP.brF rfl rfl rfl (cF_ge i 8) ?_
      refine RP.blk 1 (pc' := 11) (lv' := [(2, .int (nI i)), (1, .int (nI (cntB op i))), (0, .ref 8)]) (st' := [.ref 8]) (H' := _) (kc' := 0) (ks' := 0) rfl ?_
      refine RP.get (ci := 7) rfl h.1 rfl rfl ?_
      refine RP.blk 1 (pc' := 15) (lv' := [(2, .int (nI i)), (1, .int (nI (cntB op i))), (0, .ref 8)]) (st' := [.int (nI i), .ref 9]) (H' := _) (kc' := 0) (ks' := 0) rfl ?_
      refine RP.zaldN (j := i) rfl h.2.1 (by omega) (by decide) ?_
      cases hb : op i with
      | true =>
        refine RP.brF rfl rfl rfl (by decide) ?_
        refine RP.blk 1 (pc' := 22) (lv' := [(1, .int (nI (cntB op i) + 1)), (2, .int (nI i)), (0, .ref 8)]) (st' := []) (H' := _) (kc' := 0) (ks' := 0) rfl ?_
        rw [show (nI (cntB op i) + 1 : Int32) = nI (cntB op i + 1) from nI_add (cntB op i) 1]
        refine RP.blk 1 (pc' := 25) (lv' := [(2, .int (nI i + 1)), (1, .int (nI (cntB op i + 1))), (0, .ref 8)]) (st' := []) (H' := _) (kc' := 0) (ks' := 0) rfl ?_
        rw [show (nI i + 1 : Int32) = nI (i + 1) from nI_add i 1]
        refine RP.blk 1 (pc' := 4) (lv' := [(2, .int (nI (i + 1))), (1, .int (nI (cntB op i + 1))), (0, .ref 8)]) (st' := []) (H' := _) (kc' := 0) (ks' := 0) rfl ?_
        have e : cntB op (i + 1) = cntB op i + 1 := by rw [cntB, if_pos hb]
        rw [e] at kk
        exact kk
      | false =>
        refine RP.brT rfl rfl rfl (by decide) ?_
        refine RP.blk 1 (pc' := 25) (lv' := [(2, .int (nI i + 1)), (1, .int (nI (cntB op i))), (0, .ref 8)]) (st' := []) (H' := _) (kc' := 0) (ks' := 0) rfl ?_
        rw [show (nI i + 1 : Int32) = nI (i + 1) from nI_add i 1]
        refine RP.blk 1 (pc' := 4) (lv' := [(2, .int (nI (i + 1))), (1, .int (nI (cntB op i))), (0, .ref 8)]) (st' := []) (H' := _) (kc' := 0) (ks' := 0) rfl ?_
        have e : cntB op (i + 1) = cntB op i := by rw [cntB, hb]; rfl
        rw [e] at kk
        exact kk
    ·
      refine RP.blk 2 (pc' := 7) (lv' := [(2, .int (nI 8)), (1, .int (nI (cntB op 8))), (0, .ref 8)]) (st' := [.int 8, .int (nI 8)]) (H' := _) (kc' := 0) (ks' := 0) rfl ?_
      refine RP.brT rfl rfl rfl (cT_ge 8 8) ?_
      refine RP.blk 1 (pc' := 29) (lv' := [(2, .int (nI 8)), (1, .int (nI (cntB op 8))), (0, .ref 8)]) (st' := [.int (nI (cntB op 8))]) (H' := _) (kc' := 0) (ks' := 0) rfl ?_
      exact RP.done (c := 0) (s := 0) rfl rfl rfl rfl
  exact start
theorem rc_isOpenT {sc : Nat × (Nat → Int32)} {d : Nat} {H : aH} {op : Nat → Bool} {mo : Nat → Nat} {t : Nat} (h : SightAt H op mo) (ht : t < 8) (hb : op t = true) : RC sc d mr_37 [.ref 8, .int (nI t)] H (.inl (some (.int 1))) H 0 0 := by
  refine RP.blk 1 (pc' := 1) (lv' := [(0, .ref 8), (1, .int (nI t))]) (st' := [.int (nI t)]) (H' := _) (kc' := 0) (ks' := 0) rfl ?_
  refine RP.brF rfl rfl rfl (cF_lt t 0) ?_
  refine RP.blk 2 (pc' := 7) (lv' := [(0, .ref 8), (1, .int (nI t))]) (st' := [.int 8, .int (nI t)]) (H' := _) (kc' := 0) (ks' := 0) rfl ?_
  refine RP.brF rfl rfl rfl (cF_ge t 8) ?_
  refine RP.blk 1 (pc' := 11) (lv' := [(0, .ref 8), (1, .int (nI t))]) (st' := [.ref 8]) (H' := _) (kc' := 0) (ks' := 0) rfl ?_
  refine RP.get (ci := 7) rfl h.1 rfl rfl ?_
  refine RP.blk 1 (pc' := 15) (lv' := [(0, .ref 8), (1, .int (nI t))]) (st' := [.int (nI t), .ref 9]) (H' := _) (kc' := 0) (ks' := 0) rfl ?_
  refine RP.zaldN (j := t) rfl h.2.1 (by omega) (by decide) ?_
  refine RP.brF rfl rfl rfl (z_eqT hb) ?_
  refine RP.blk 2 (pc' := 24) (lv' := [(0, .ref 8), (1, .int (nI t))]) (st' := [.int 1]) (H' := _) (kc' := 0) (ks' := 0) rfl ?_
  exact RP.done (c := 0) (s := 0) rfl rfl rfl rfl
theorem rc_isOpenF {sc : Nat × (Nat → Int32)} {d : Nat} {H : aH} {op : Nat → Bool} {mo : Nat → Nat} {t : Nat} (h : SightAt H op mo) (ht : t < 8) (hb : op t = false) : RC sc d mr_37 [.ref 8, .int (nI t)] H (.inl (some (.int 0))) H 0 0 := by
  refine RP.blk 1 (pc' := 1) (lv' := [(0, .ref 8), (1, .int (nI t))]) (st' := [.int (nI t)]) (H' := _) (kc' := 0) (ks' := 0) rfl ?_
  refine RP.brF rfl rfl rfl (cF_lt t 0) ?_
  refine RP.blk 2 (pc' := 7) (lv' := [(0, .ref 8), (1, .int (nI t))]) (st' := [.int 8, .int (nI t)]) (H' := _) (kc' := 0) (ks' := 0) rfl ?_
  refine RP.brF rfl rfl rfl (cF_ge t 8) ?_
  refine RP.blk 1 (pc' := 11) (lv' := [(0, .ref 8), (1, .int (nI t))]) (st' := [.ref 8]) (H' := _) (kc' := 0) (ks' := 0) rfl ?_
  refine RP.get (ci := 7) rfl h.1 rfl rfl ?_
  refine RP.blk 1 (pc' := 15) (lv' := [(0, .ref 8), (1, .int (nI t))]) (st' := [.int (nI t), .ref 9]) (H' := _) (kc' := 0) (ks' := 0) rfl ?_
  refine RP.zaldN (j := t) rfl h.2.1 (by omega) (by decide) ?_
  refine RP.brT rfl rfl rfl (z_eqF hb) ?_
  refine RP.blk 1 (pc' := 24) (lv' := [(0, .ref 8), (1, .int (nI t))]) (st' := [.int 0]) (H' := _) (kc' := 0) (ks' := 0) rfl ?_
  exact RP.done (c := 0) (s := 0) rfl rfl rfl rfl
theorem rc_momentOf {sc : Nat × (Nat → Int32)} {d : Nat} {H : aH} {op : Nat → Bool} {mo : Nat → Nat} {t : Nat} (h : SightAt H op mo) (ht : t < 8) (hb : op t = true) : RC sc (d + 1) mr_56 [.ref 8, .int (nI t)] H (.inl (some (.int (nI (mo t))))) H 0 0 := by
  refine RP.blk 2 (pc' := 2) (lv' := [(0, .ref 8), (1, .int (nI t))]) (st' := [.int (nI t), .ref 8]) (H' := _) (kc' := 0) (ks' := 0) rfl ?_
  refine RP.call (v := some (.int 1)) (st' := []) rfl rfl rfl rfl rfl rfl (args_v [.int (nI t)] [] rfl rfl (Nat.le_of_ble_eq_true rfl) rfl h.1 (Nat.le_of_ble_eq_true rfl)) (rc_isOpenT h ht hb) ?_
  refine RP.brF rfl rfl rfl (by decide) ?_
  refine RP.blk 1 (pc' := 9) (lv' := [(0, .ref 8), (1, .int (nI t))]) (st' := [.ref 8]) (H' := _) (kc' := 0) (ks' := 0) rfl ?_
  refine RP.get (ci := 7) rfl h.1 rfl rfl ?_
  refine RP.blk 1 (pc' := 13) (lv' := [(0, .ref 8), (1, .int (nI t))]) (st' := [.int (nI t), .ref 10]) (H' := _) (kc' := 0) (ks' := 0) rfl ?_
  refine RP.ialdN (j := t) rfl h.2.2 (by omega) (by decide) ?_
  refine RP.blk 1 (pc' := 18) (lv' := [(0, .ref 8), (1, .int (nI t))]) (st' := [.int (nI (mo t))]) (H' := _) (kc' := 0) (ks' := 0) rfl ?_
  exact RP.done (c := 0) (s := 0) rfl rfl rfl rfl
theorem RP.aaldN {sc : Nat × (Nat → Int32)} {d : Nat} {M : aM} {pc nx : Nat} {lv : aL} {st : List Value} {H : aH} {kc ks : Nat} {r : tO × aH × Nat × Nat} {a t n b j : Nat} {f : Nat → Option Nat} (hI : lkI pc (mT M) = some (nx, .aaload)) (hc : H[a]? = some (kQ t n f)) (hj : j < n) (hn : n < 2 ^ 31) (ht : t < 7 ∧ 4 ≤ t) (hb : f j = some b) (k : RP sc d M nx lv (.ref (b + 1) :: st) H kc ks r) : RP sc d M pc lv (.int (nI j) :: .ref (a + 1) :: st) H kc ks r := RP.aald hI hc (inR_n hj hn) ht (by rw [nI_clamp (by omega)]; exact hb) k
theorem rc_writesOf {sc : Nat × (Nat → Int32)} {d : Nat} {H : aH} {op : Nat → Bool} {mo : Nat → Nat} {t b : Nat} {wq : Nat → Option Nat} (h : SightAt H op mo) (hw : H[10]? = some (kQ 4 8 wq)) (hq : wq t = some b) (ht : t < 8) : RC sc d mr_38 [.ref 8, .int (nI t)] H (.inl (some (.ref (b + 1)))) H 0 0 := by
  refine RP.blk 1 (pc' := 1) (lv' := [(0, .ref 8), (1, .int (nI t))]) (st' := [.ref 8]) (H' := _) (kc' := 0) (ks' := 0) rfl ?_
  refine RP.get (ci := 7) rfl h.1 rfl rfl ?_
  refine RP.blk 1 (pc' := 5) (lv' := [(0, .ref 8), (1, .int (nI t))]) (st' := [.int (nI t), .ref 11]) (H' := _) (kc' := 0) (ks' := 0) rfl ?_
  refine RP.brF rfl rfl rfl (cF_lt t 0) ?_
  refine RP.blk 2 (pc' := 11) (lv' := [(0, .ref 8), (1, .int (nI t))]) (st' := [.int 8, .int (nI t), .ref 11]) (H' := _) (kc' := 0) (ks' := 0) rfl ?_
  refine RP.brF rfl rfl rfl (cF_ge t 8) ?_
  refine RP.blk 2 (pc' := 19) (lv' := [(0, .ref 8), (1, .int (nI t))]) (st' := [.int (nI t), .ref 11]) (H' := _) (kc' := 0) (ks' := 0) rfl ?_
  refine RP.aaldN (a := 10) (j := t) rfl hw ht (by decide) (by decide) hq ?_
  exact RP.done (c := 0) (s := 0) rfl rfl rfl rfl
theorem rc_close {sc : Nat × (Nat → Int32)} {d : Nat} {H : aH} {op : Nat → Bool} {mo : Nat → Nat} {t : Nat} (h : SightAt H op mo) (ht : t < 8) : RC sc d mr_79 [.ref 8, .int (nI t)] H (.inl none) (H.set 8 (kZ 8 (va_up op t false))) 0 0 := by
  refine RP.blk 1 (pc' := 1) (lv' := [(0, .ref 8), (1, .int (nI t))]) (st' := [.int (nI t)]) (H' := _) (kc' := 0) (ks' := 0) rfl ?_
  refine RP.brF rfl rfl rfl (cF_lt t 0) ?_
  refine RP.blk 2 (pc' := 7) (lv' := [(0, .ref 8), (1, .int (nI t))]) (st' := [.int 8, .int (nI t)]) (H' := _) (kc' := 0) (ks' := 0) rfl ?_
  refine RP.brF rfl rfl rfl (cF_ge t 8) ?_
  refine RP.blk 1 (pc' := 11) (lv' := [(0, .ref 8), (1, .int (nI t))]) (st' := [.ref 8]) (H' := _) (kc' := 0) (ks' := 0) rfl ?_
  refine RP.get (ci := 7) rfl h.1 rfl rfl ?_
  refine RP.blk 2 (pc' := 16) (lv' := [(0, .ref 8), (1, .int (nI t))]) (st' := [.int 0, .int (nI t), .ref 9]) (H' := _) (kc' := 0) (ks' := 0) rfl ?_
  refine RP.zastN (j := t) rfl h.2.1 (by omega) (by decide) ?_
  exact RP.done (c := 0) (s := 0) rfl rfl rfl rfl
theorem rc_closeAll {sc : Nat × (Nat → Int32)} {d : Nat} {H : aH} {op : Nat → Bool} {mo : Nat → Nat} (h : SightAt H op mo) : RC sc d mr_156 [.ref 8] H (.inl none) (H.set 8 (kZ 8 (fun j => if j < 8 then false else op j))) 0 0 := by
  refine RP.blk 2 (pc' := 2) (lv' := [(1, .int 0), (0, .ref 8)]) (st' := []) (H' := _) (kc' := 0) (ks' := 0) rfl ?_
  have start : RP sc d mr_156 2 [(1, .int (nI 0)), (0, .ref 8)] [] (H.set 8 (kZ 8 (fun j => if j < 0 then false else op j))) 0 0 (.inl none, H.set 8 (kZ 8 (fun j => if j < 8 then false else op j)), 0, 0) := by
    refine RP.loop 2 (fun i => [(1, .int (nI i)), (0, .ref 8)]) [] (fun i => H.set 8 (kZ 8 (fun j => if j < i then false else op j))) 0 0 8 (fun i hi kk => ?_) ?_
    ·
      refine RP.blk 2 (pc' := 5) (lv' := [(1, .int (nI i)), (0, .ref 8)]) (st' := [.int 8, .int (nI i)]) (H' := _) (kc' := 0) (ks' := 0) rfl ?_
      refine RP.brF rfl rfl rfl (cF_ge i 8) ?_
      refine RP.blk 1 (pc' := 9) (lv' := [(1, .int (nI i)), (0, .ref 8)]) (st' := [.ref 8]) (H' := _) (kc' := 0) (ks' := 0) rfl ?_
      refine RP.get (ci := 7) rfl ((set_far (by decide)).trans h.1) rfl rfl ?_
      refine RP.blk 2 (pc' := 14) (lv' := [(1, .int (nI i)), (0, .ref 8)]) (st' := [.int 0, .int (nI i), .ref 9]) (H' := _) (kc' := 0) (ks' := 0) rfl ?_
      refine RP.zastN (j := i) rfl (get_set h.2.1) (by omega) (by decide) ?_
      rw [set_set, show decide ((0 : Int32) &&& 1 = 1) = false from by decide, up_lt (fun _ => false)]
      refine RP.blk 1 (pc' := 18) (lv' := [(1, .int (nI i + 1)), (0, .ref 8)]) (st' := []) (H' := _) (kc' := 0) (ks' := 0) rfl ?_
      rw [show (nI i + 1 : Int32) = nI (i + 1) from nI_add i 1]
      refine RP.blk 1 (pc' := 2) (lv' := [(1, .int (nI (i + 1))), (0, .ref 8)]) (st' := []) (H' := _) (kc' := 0) (ks' := 0) rfl ?_
      exact kk
    ·
      refine RP.blk 2 (pc' := 5) (lv' := [(1, .int (nI 8)), (0, .ref 8)]) (st' := [.int 8, .int (nI 8)]) (H' := _) (kc' := 0) (ks' := 0) rfl ?_
      refine RP.brT rfl rfl rfl (cT_ge 8 8) ?_
      exact RP.done (c := 0) (s := 0) rfl rfl rfl rfl
  rw [lt_zero (fun _ => false), set_self h.2.1] at start
  exact start
theorem rc_bclear {sc : Nat × (Nat → Int32)} {d b : Nat} {H : aH} {fb : List Value} (hb : H[b]? = some (kO 0 fb)) (hl : fb.length = 7) : RC sc d mr_31 [.ref (b + 1)] H (.inl none) (H.set b (kO 0 ((fb.set 5 (.int 0)).set 6 (.int 0)))) 0 0 := by
  refine RP.blk 2 (pc' := 2) (lv' := [(0, .ref (b + 1))]) (st' := [.int 0, .ref (b + 1)]) (H' := _) (kc' := 0) (ks' := 0) rfl ?_
  refine RP.put (ci := 0) rfl hb rfl rfl (lt_len hl (by decide)) ?_
  refine RP.blk 2 (pc' := 7) (lv' := [(0, .ref (b + 1))]) (st' := [.int 0, .ref (b + 1)]) (H' := _) (kc' := 0) (ks' := 0) rfl ?_
  refine RP.put (ci := 0) rfl (get_set hb) rfl rfl (lt_len (len_set hl) (by decide)) ?_
  rw [set_set]
  exact RP.done (c := 0) (s := 0) rfl rfl rfl rfl
theorem up_nI {mo : Nat → Nat} {t m : Nat} : va_up (fun j => nI (mo j)) t (nI m) = fun j => nI (va_up mo t m j) := by
  funext j
  unfold va_up
  split <;> rfl
theorem rc_start {sc : Nat × (Nat → Int32)} {d : Nat} {H : aH} {op : Nat → Bool} {mo : Nat → Nat} {t m b : Nat} {wq : Nat → Option Nat} {fb : List Value} (h : SightAt H op mo) (hw : H[10]? = some (kQ 4 8 wq)) (hq : wq t = some b) (hb : H[b]? = some (kO 0 fb)) (hl : fb.length = 7) (h7 : 7 ≠ b) (h8 : 8 ≠ b) (h9 : 9 ≠ b) (h10 : 10 ≠ b) (ht : t < 8) : RC sc (d + 1) mr_30 [.ref 8, .int (nI t), .int (nI m)] H (.inl none) (((H.set 8 (kZ 8 (va_up op t true))).set 9 (kI 8 (va_up (fun j => nI (mo j)) t (nI m)))).set b (kO 0 ((fb.set 5 (.int 0)).set 6 (.int 0)))) 0 0 := by
  refine RP.blk 1 (pc' := 1) (lv' := [(0, .ref 8), (1, .int (nI t)), (2, .int (nI m))]) (st' := [.int (nI t)]) (H' := _) (kc' := 0) (ks' := 0) rfl ?_
  refine RP.brF rfl rfl rfl (cF_lt t 0) ?_
  refine RP.blk 2 (pc' := 7) (lv' := [(0, .ref 8), (1, .int (nI t)), (2, .int (nI m))]) (st' := [.int 8, .int (nI t)]) (H' := _) (kc' := 0) (ks' := 0) rfl ?_
  refine RP.brF rfl rfl rfl (cF_ge t 8) ?_
  refine RP.blk 1 (pc' := 11) (lv' := [(0, .ref 8), (1, .int (nI t)), (2, .int (nI m))]) (st' := [.ref 8]) (H' := _) (kc' := 0) (ks' := 0) rfl ?_
  refine RP.get (ci := 7) rfl h.1 rfl rfl ?_
  refine RP.blk 2 (pc' := 16) (lv' := [(0, .ref 8), (1, .int (nI t)), (2, .int (nI m))]) (st' := [.int 1, .int (nI t), .ref 9]) (H' := _) (kc' := 0) (ks' := 0) rfl ?_
  refine RP.zastN (j := t) rfl h.2.1 (by omega) (by decide) ?_
  refine RP.blk 1 (pc' := 18) (lv' := [(0, .ref 8), (1, .int (nI t)), (2, .int (nI m))]) (st' := [.ref 8]) (H' := _) (kc' := 0) (ks' := 0) rfl ?_
  refine RP.get (ci := 7) rfl ((set_far (by decide)).trans h.1) rfl rfl ?_
  refine RP.blk 2 (pc' := 23) (lv' := [(0, .ref 8), (1, .int (nI t)), (2, .int (nI m))]) (st' := [.int (nI m), .int (nI t), .ref 10]) (H' := _) (kc' := 0) (ks' := 0) rfl ?_
  refine RP.iastN (j := t) rfl ((set_far (by decide)).trans h.2.2) (by omega) (by decide) ?_
  refine RP.blk 1 (pc' := 25) (lv' := [(0, .ref 8), (1, .int (nI t)), (2, .int (nI m))]) (st' := [.ref 8]) (H' := _) (kc' := 0) (ks' := 0) rfl ?_
  refine RP.get (ci := 7) rfl ((set_far (by decide)).trans ((set_far (by decide)).trans h.1)) rfl rfl ?_
  refine RP.blk 1 (pc' := 29) (lv' := [(0, .ref 8), (1, .int (nI t)), (2, .int (nI m))]) (st' := [.int (nI t), .ref 11]) (H' := _) (kc' := 0) (ks' := 0) rfl ?_
  refine RP.aaldN (a := 10) (j := t) rfl ((set_far (by decide)).trans ((set_far (by decide)).trans hw)) ht (by decide) (by decide) hq ?_
  refine RP.call (v := none) (st' := []) rfl rfl rfl rfl rfl rfl (args_v [] [] rfl rfl (Nat.le_of_ble_eq_true rfl) rfl ((set_far (Ne.symm h9)).trans ((set_far (Ne.symm h8)).trans hb)) (Nat.le_of_ble_eq_true rfl)) (rc_bclear ((set_far (Ne.symm h9)).trans ((set_far (Ne.symm h8)).trans hb)) hl) ?_
  exact RP.done (c := 0) (s := 0) rfl rfl rfl rfl
/-- whether one that is open, but the one, sees a moment before m -/
def aB (op : Nat → Bool) (mo : Nat → Nat) (m : Nat) (x : Int32) : Bool := (List.range 8).any (fun t => op t && !(decide (nI t = x)) && decide (mo t < m))
/-- whether one that is open, but the one, sees a moment from m on and before n -/
def aW (op : Nat → Bool) (mo : Nat → Nat) (m n : Nat) (x : Int32) : Bool := (List.range 8).any (fun t => op t && !(decide (nI t = x)) && (decide (m ≤ mo t) && decide (mo t < n)))
theorem rc_anyBefore {sc : Nat × (Nat → Int32)} {d : Nat} {H : aH} {op : Nat → Bool} {mo : Nat → Nat} {m : Nat} {x : Int32} (h : SightAt H op mo) (hmo : ∀ t, t < 8 → mo t < 2 ^ 31) (hm0 : m < 2 ^ 31) : RC sc d mr_82 [.ref 8, .int (nI m), .int x] H (.inl (some (.int (if aB op mo m x then 1 else 0)))) H 0 0 := by
  refine RC.of ?_
  refine RQ.blk 2 (pc' := 2) (lv' := [(3, .int 0), (0, .ref 8), (1, .int (nI m)), (2, .int x)]) (st' := []) (H' := _) (kc' := 0) (ks' := 0) rfl ?_
  refine RQ.loopQ (pc := 2) (fun i => ∀ t, t < i → (op t && !(decide (nI t = x)) && decide (mo t < m)) = false) (fun i => [(3, .int (nI i)), (0, .ref 8), (1, .int (nI m)), (2, .int x)]) 8 (fun i hi h2 ih => ?_) (fun h2 => ?_) (fun s hs => absurd hs (Nat.not_lt_zero _))
  · have nx : (op i && !(decide (nI i = x)) && decide (mo i < m)) = false → RQ sc d mr_82 2 [(3, .int (nI (i + 1))), (0, .ref 8), (1, .int (nI m)), (2, .int x)] [] H 0 0 (fun r => r = (.inl (some (.int (if aB op mo m x then 1 else 0))), H, 0, 0)) := fun e => ih (fun s hs => (Nat.lt_succ_iff_lt_or_eq.mp hs).elim (h2 s) (fun e2 => by rw [e2]; exact e))
    have hit : (op i && !(decide (nI i = x)) && decide (mo i < m)) = true → RQ sc d mr_82 32 [(3, .int (nI i)), (0, .ref 8), (1, .int (nI m)), (2, .int x)] [] H 0 0 (fun r => r = (.inl (some (.int (if aB op mo m x then 1 else 0))), H, 0, 0)) := by
      intro e
      rw [show aB op mo m x = true from any_T hi e]
      refine RQ.blk 1 (pc' := 33) (lv' := [(3, .int (nI i)), (0, .ref 8), (1, .int (nI m)), (2, .int x)]) (st' := [.int 1]) (H' := _) (kc' := 0) (ks' := 0) rfl ?_
      exact RQ.done (c := 0) (s := 0) rfl rfl rfl rfl rfl
    have miss : (op i && !(decide (nI i = x)) && decide (mo i < m)) = false → RQ sc d mr_82 34 [(3, .int (nI i)), (0, .ref 8), (1, .int (nI m)), (2, .int x)] [] H 0 0 (fun r => r = (.inl (some (.int (if aB op mo m x then 1 else 0))), H, 0, 0)) := by
      intro e
      refine RQ.blk 1 (pc' := 37) (lv' := [(3, .int (nI i + 1)), (0, .ref 8), (1, .int (nI m)), (2, .int x)]) (st' := []) (H' := _) (kc' := 0) (ks' := 0) rfl ?_
      rw [show (nI i + 1 : Int32) = nI (i + 1) from nI_add i 1]
      refine RQ.blk 1 (pc' := 2) (lv' := [(3, .int (nI (i + 1))), (0, .ref 8), (1, .int (nI m)), (2, .int x)]) (st' := []) (H' := _) (kc' := 0) (ks' := 0) rfl ?_
      exact nx e
    refine RQ.blk 2 (pc' := 5) (lv' := [(3, .int (nI i)), (0, .ref 8), (1, .int (nI m)), (2, .int x)]) (st' := [.int 8, .int (nI i)]) (H' := _) (kc' := 0) (ks' := 0) rfl ?_
    refine RQ.brF rfl rfl rfl (cF_ge i 8) ?_
    refine RQ.blk 1 (pc' := 9) (lv' := [(3, .int (nI i)), (0, .ref 8), (1, .int (nI m)), (2, .int x)]) (st' := [.ref 8]) (H' := _) (kc' := 0) (ks' := 0) rfl ?_
    refine RQ.get (ci := 7) rfl h.1 rfl rfl ?_
    refine RQ.blk 1 (pc' := 13) (lv' := [(3, .int (nI i)), (0, .ref 8), (1, .int (nI m)), (2, .int x)]) (st' := [.int (nI i), .ref 9]) (H' := _) (kc' := 0) (ks' := 0) rfl ?_
    refine RQ.zaldN (j := i) rfl h.2.1 (by omega) (by decide) ?_
    cases hb : op i with
    | false =>
      refine RQ.brT rfl rfl rfl (by decide) ?_
      exact miss (by rw [hb]; rfl)
    | true =>
      refine RQ.brF rfl rfl rfl (by decide) ?_
      refine RQ.blk 2 (pc' := 19) (lv' := [(3, .int (nI i)), (0, .ref 8), (1, .int (nI m)), (2, .int x)]) (st' := [.int x, .int (nI i)]) (H' := _) (kc' := 0) (ks' := 0) rfl ?_
      by_cases hx : nI i = x
      ·
        refine RQ.brT rfl rfl rfl (decide_eq_true hx) ?_
        exact miss (by rw [hb, decide_eq_true hx]; rfl)
      ·
        refine RQ.brF rfl rfl rfl (decide_eq_false hx) ?_
        refine RQ.blk 1 (pc' := 23) (lv' := [(3, .int (nI i)), (0, .ref 8), (1, .int (nI m)), (2, .int x)]) (st' := [.ref 8]) (H' := _) (kc' := 0) (ks' := 0) rfl ?_
        refine RQ.get (ci := 7) rfl h.1 rfl rfl ?_
        refine RQ.blk 1 (pc' := 27) (lv' := [(3, .int (nI i)), (0, .ref 8), (1, .int (nI m)), (2, .int x)]) (st' := [.int (nI i), .ref 10]) (H' := _) (kc' := 0) (ks' := 0) rfl ?_
        refine RQ.ialdN (j := i) rfl h.2.2 (by omega) (by decide) ?_
        refine RQ.blk 1 (pc' := 29) (lv' := [(3, .int (nI i)), (0, .ref 8), (1, .int (nI m)), (2, .int x)]) (st' := [.int (nI m), .int (nI (mo i))]) (H' := _) (kc' := 0) (ks' := 0) rfl ?_
        by_cases hm : mo i < m
        ·
          refine RQ.brF rfl rfl rfl (cF_ge (mo i) m (h := hm) (hb := by omega)) ?_
          exact hit (by rw [hb, decide_eq_false hx, decide_eq_true hm]; rfl)
        ·
          refine RQ.brT rfl rfl rfl (cT_ge (mo i) m (h := by omega) (hb := hmo i hi)) ?_
          exact miss (by rw [hb, decide_eq_false hx, decide_eq_false hm]; rfl)
  · rw [show aB op mo m x = false from any_F h2]
    refine RQ.blk 2 (pc' := 5) (lv' := [(3, .int (nI 8)), (0, .ref 8), (1, .int (nI m)), (2, .int x)]) (st' := [.int 8, .int (nI 8)]) (H' := _) (kc' := 0) (ks' := 0) rfl ?_
    refine RQ.brT rfl rfl rfl (cT_ge 8 8) ?_
    refine RQ.blk 1 (pc' := 41) (lv' := [(3, .int (nI 8)), (0, .ref 8), (1, .int (nI m)), (2, .int x)]) (st' := [.int 0]) (H' := _) (kc' := 0) (ks' := 0) rfl ?_
    exact RQ.done (c := 0) (s := 0) rfl rfl rfl rfl rfl
theorem rc_anyWithin {sc : Nat × (Nat → Int32)} {d : Nat} {H : aH} {op : Nat → Bool} {mo : Nat → Nat} {m n : Nat} {x : Int32} (h : SightAt H op mo) (hmo : ∀ t, t < 8 → mo t < 2 ^ 31) (hm0 : m < 2 ^ 31) (hn0 : n < 2 ^ 31) : RC sc d mr_83 [.ref 8, .int (nI m), .int (nI n), .int x] H (.inl (some (.int (if aW op mo m n x then 1 else 0)))) H 0 0 := by
  refine RC.of ?_
  refine RQ.blk 2 (pc' := 3) (lv' := [(4, .int 0), (0, .ref 8), (1, .int (nI m)), (2, .int (nI n)), (3, .int x)]) (st' := []) (H' := _) (kc' := 0) (ks' := 0) rfl ?_
  refine RQ.loopQ (pc := 3) (fun i => ∀ t, t < i → (op t && !(decide (nI t = x)) && (decide (m ≤ mo t) && decide (mo t < n))) = false) (fun i => [(4, .int (nI i)), (0, .ref 8), (1, .int (nI m)), (2, .int (nI n)), (3, .int x)]) 8 (fun i hi h2 ih => ?_) (fun h2 => ?_) (fun s hs => absurd hs (Nat.not_lt_zero _))
  · have nx : (op i && !(decide (nI i = x)) && (decide (m ≤ mo i) && decide (mo i < n))) = false → RQ sc d mr_83 3 [(4, .int (nI (i + 1))), (0, .ref 8), (1, .int (nI m)), (2, .int (nI n)), (3, .int x)] [] H 0 0 (fun r => r = (.inl (some (.int (if aW op mo m n x then 1 else 0))), H, 0, 0)) := fun e => ih (fun s hs => (Nat.lt_succ_iff_lt_or_eq.mp hs).elim (h2 s) (fun e2 => by rw [e2]; exact e))
    have hit : (op i && !(decide (nI i = x)) && (decide (m ≤ mo i) && decide (mo i < n))) = true → RQ sc d mr_83 48 [(4, .int (nI i)), (0, .ref 8), (1, .int (nI m)), (2, .int (nI n)), (3, .int x)] [] H 0 0 (fun r => r = (.inl (some (.int (if aW op mo m n x then 1 else 0))), H, 0, 0)) := by
      intro e
      rw [show aW op mo m n x = true from any_T hi e]
      refine RQ.blk 1 (pc' := 49) (lv' := [(4, .int (nI i)), (0, .ref 8), (1, .int (nI m)), (2, .int (nI n)), (3, .int x)]) (st' := [.int 1]) (H' := _) (kc' := 0) (ks' := 0) rfl ?_
      exact RQ.done (c := 0) (s := 0) rfl rfl rfl rfl rfl
    have miss : (op i && !(decide (nI i = x)) && (decide (m ≤ mo i) && decide (mo i < n))) = false → RQ sc d mr_83 50 [(4, .int (nI i)), (0, .ref 8), (1, .int (nI m)), (2, .int (nI n)), (3, .int x)] [] H 0 0 (fun r => r = (.inl (some (.int (if aW op mo m n x then 1 else 0))), H, 0, 0)) := by
      intro e
      refine RQ.blk 1 (pc' := 53) (lv' := [(4, .int (nI i + 1)), (0, .ref 8), (1, .int (nI m)), (2, .int (nI n)), (3, .int x)]) (st' := []) (H' := _) (kc' := 0) (ks' := 0) rfl ?_
      rw [show (nI i + 1 : Int32) = nI (i + 1) from nI_add i 1]
      refine RQ.blk 1 (pc' := 3) (lv' := [(4, .int (nI (i + 1))), (0, .ref 8), (1, .int (nI m)), (2, .int (nI n)), (3, .int x)]) (st' := []) (H' := _) (kc' := 0) (ks' := 0) rfl ?_
      exact nx e
    refine RQ.blk 2 (pc' := 7) (lv' := [(4, .int (nI i)), (0, .ref 8), (1, .int (nI m)), (2, .int (nI n)), (3, .int x)]) (st' := [.int 8, .int (nI i)]) (H' := _) (kc' := 0) (ks' := 0) rfl ?_
    refine RQ.brF rfl rfl rfl (cF_ge i 8) ?_
    refine RQ.blk 1 (pc' := 11) (lv' := [(4, .int (nI i)), (0, .ref 8), (1, .int (nI m)), (2, .int (nI n)), (3, .int x)]) (st' := [.ref 8]) (H' := _) (kc' := 0) (ks' := 0) rfl ?_
    refine RQ.get (ci := 7) rfl h.1 rfl rfl ?_
    refine RQ.blk 1 (pc' := 16) (lv' := [(4, .int (nI i)), (0, .ref 8), (1, .int (nI m)), (2, .int (nI n)), (3, .int x)]) (st' := [.int (nI i), .ref 9]) (H' := _) (kc' := 0) (ks' := 0) rfl ?_
    refine RQ.zaldN (j := i) rfl h.2.1 (by omega) (by decide) ?_
    cases hb : op i with
    | false =>
      refine RQ.brT rfl rfl rfl (by decide) ?_
      exact miss (by rw [hb]; rfl)
    | true =>
      refine RQ.brF rfl rfl rfl (by decide) ?_
      refine RQ.blk 2 (pc' := 23) (lv' := [(4, .int (nI i)), (0, .ref 8), (1, .int (nI m)), (2, .int (nI n)), (3, .int x)]) (st' := [.int x, .int (nI i)]) (H' := _) (kc' := 0) (ks' := 0) rfl ?_
      by_cases hx : nI i = x
      ·
        refine RQ.brT rfl rfl rfl (decide_eq_true hx) ?_
        exact miss (by rw [hb, decide_eq_true hx]; rfl)
      ·
        refine RQ.brF rfl rfl rfl (decide_eq_false hx) ?_
        refine RQ.blk 1 (pc' := 27) (lv' := [(4, .int (nI i)), (0, .ref 8), (1, .int (nI m)), (2, .int (nI n)), (3, .int x)]) (st' := [.ref 8]) (H' := _) (kc' := 0) (ks' := 0) rfl ?_
        refine RQ.get (ci := 7) rfl h.1 rfl rfl ?_
        refine RQ.blk 1 (pc' := 32) (lv' := [(4, .int (nI i)), (0, .ref 8), (1, .int (nI m)), (2, .int (nI n)), (3, .int x)]) (st' := [.int (nI i), .ref 10]) (H' := _) (kc' := 0) (ks' := 0) rfl ?_
        refine RQ.ialdN (j := i) rfl h.2.2 (by omega) (by decide) ?_
        refine RQ.blk 1 (pc' := 34) (lv' := [(4, .int (nI i)), (0, .ref 8), (1, .int (nI m)), (2, .int (nI n)), (3, .int x)]) (st' := [.int (nI m), .int (nI (mo i))]) (H' := _) (kc' := 0) (ks' := 0) rfl ?_
        by_cases hm : m ≤ mo i
        ·
          refine RQ.brF rfl rfl rfl (cF_lt (mo i) m (h := hm) (hb := hmo i hi)) ?_
          refine RQ.blk 1 (pc' := 38) (lv' := [(4, .int (nI i)), (0, .ref 8), (1, .int (nI m)), (2, .int (nI n)), (3, .int x)]) (st' := [.ref 8]) (H' := _) (kc' := 0) (ks' := 0) rfl ?_
          refine RQ.get (ci := 7) rfl h.1 rfl rfl ?_
          refine RQ.blk 1 (pc' := 43) (lv' := [(4, .int (nI i)), (0, .ref 8), (1, .int (nI m)), (2, .int (nI n)), (3, .int x)]) (st' := [.int (nI i), .ref 10]) (H' := _) (kc' := 0) (ks' := 0) rfl ?_
          refine RQ.ialdN (j := i) rfl h.2.2 (by omega) (by decide) ?_
          refine RQ.blk 1 (pc' := 45) (lv' := [(4, .int (nI i)), (0, .ref 8), (1, .int (nI m)), (2, .int (nI n)), (3, .int x)]) (st' := [.int (nI n), .int (nI (mo i))]) (H' := _) (kc' := 0) (ks' := 0) rfl ?_
          by_cases hn : mo i < n
          ·
            refine RQ.brF rfl rfl rfl (cF_ge (mo i) n (h := hn) (hb := hn0)) ?_
            exact hit (by rw [hb, decide_eq_false hx, decide_eq_true hm, decide_eq_true hn]; rfl)
          ·
            refine RQ.brT rfl rfl rfl (cT_ge (mo i) n (h := by omega) (hb := hmo i hi)) ?_
            exact miss (by rw [hb, decide_eq_false hx, decide_eq_true hm, decide_eq_false hn]; rfl)
        ·
          refine RQ.brT rfl rfl rfl (cT_lt (mo i) m (h := by omega) (hb := hm0)) ?_
          exact miss (by rw [hb, decide_eq_false hx, decide_eq_false hm]; rfl)
  · rw [show aW op mo m n x = false from any_F h2]
    refine RQ.blk 2 (pc' := 7) (lv' := [(4, .int (nI 8)), (0, .ref 8), (1, .int (nI m)), (2, .int (nI n)), (3, .int x)]) (st' := [.int 8, .int (nI 8)]) (H' := _) (kc' := 0) (ks' := 0) rfl ?_
    refine RQ.brT rfl rfl rfl (cT_ge 8 8) ?_
    refine RQ.blk 1 (pc' := 57) (lv' := [(4, .int (nI 8)), (0, .ref 8), (1, .int (nI m)), (2, .int (nI n)), (3, .int x)]) (st' := [.int 0]) (H' := _) (kc' := 0) (ks' := 0) rfl ?_
    exact RQ.done (c := 0) (s := 0) rfl rfl rfl rfl rfl
