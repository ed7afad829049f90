/-! ===== seek; reference; written by wip/gen/mseek.py ===== -/
def upB (k0 : List Nat) (bey : Bool) (cur : Option (List Nat)) (k : List Nat) : Bool := (decide (0 < cmpL k k0) || (!bey && decide (cmpL k k0 = 0))) && (match cur with | none => true | some c => decide (cmpL k c < 0))
def upC (k0 : List Nat) (bey : Bool) (cur : Option (List Nat)) (k : List Nat) : Option (List Nat) := if upB k0 bey cur k = true then some k else cur
theorem SkS.congr {p q : List Nat → Prop} {k0 : List Nat} {bey : Bool} {r : Option (List Nat)} (h : SkS p k0 bey r) (hpq : ∀ k, p k ↔ q k) : SkS q k0 bey r := by
  cases r with
  | none => exact fun k hk => h k ((hpq k).mpr hk)
  | some c => exact ⟨(hpq c).mp h.1, h.2.1, fun k hk => h.2.2 k ((hpq k).mpr hk)⟩
theorem upB_iff {k0 : List Nat} {bey : Bool} {cur : Option (List Nat)} {k : List Nat} : upB k0 bey cur k = true ↔ GeK k0 bey k ∧ ∀ c, cur = some c → cmpL k c < 0 := by
  unfold upB GeK
  rw [Bool.and_eq_true, Bool.or_eq_true, Bool.and_eq_true, decide_eq_true_iff, decide_eq_true_iff, cmpL_eq, Bool.not_eq_true']
  cases cur with
  | none => exact ⟨fun h => ⟨h.1, fun c hc => by cases hc⟩, fun h => ⟨h.1, rfl⟩⟩
  | some c => exact ⟨fun h => ⟨h.1, fun c2 hc => by rw [← Option.some.inj hc]; exact of_decide_eq_true h.2⟩, fun h => ⟨h.1, decide_eq_true (h.2 c rfl)⟩⟩
/-- a key more -/
theorem SkS.add {p : List Nat → Prop} {k0 : List Nat} {bey : Bool} {cur : Option (List Nat)} {key : List Nat} (h : SkS p k0 bey cur) : SkS (fun k => p k ∨ k = key) k0 bey (upC k0 bey cur key) := by
  unfold upC
  by_cases hu : upB k0 bey cur key = true
  · rw [if_pos hu]
    obtain ⟨u1, u2⟩ := upB_iff.mp hu
    refine ⟨Or.inr rfl, u1, fun k hk hg => ?_⟩
    rcases hk with hk | hk
    · cases cur with
      | none => exact absurd hg (h k hk)
      | some c =>
        intro e
        exact h.2.2 k hk hg (cmpL_trans e (u2 c rfl))
    · rw [hk]; exact cmpL_irr
  · rw [if_neg hu]
    cases cur with
    | none =>
      intro k hk hg
      rcases hk with hk | hk
      · exact h k hk hg
      · rw [hk] at hg
        exact hu (upB_iff.mpr ⟨hg, fun c hc => by cases hc⟩)
    | some c =>
      refine ⟨Or.inl h.1, h.2.1, fun k hk hg => ?_⟩
      rcases hk with hk | hk
      · exact h.2.2 k hk hg
      · rw [hk] at hg ⊢
        intro e
        exact hu (upB_iff.mpr ⟨hg, fun c2 hc => by rw [← Option.some.inj hc]; exact e⟩)
theorem rc_better0 {sc : Nat × (Nat → Int32)} {d a na j n l : Nat} {H : aH} {fa li dn cw cl tp pr ve us pi hu : Int32} {ba bo : Nat} {g g0 tb : Nat → Int8} {cur : Option (List Nat)} (hm : H[195]? = some (kO 12 (mfs fa li dn cw cl tp (lI (cur.map List.length)) pr ve us pi hu ba bo))) (h197 : H[197]? = some (kB 1000 g0)) (hc1 : sl g0 0 (cur.getD []).length = cur.getD []) (hc2 : (cur.getD []).length ≤ 1000) (h196 : H[196]? = some (kB 2000 tb)) (hl : l ≤ 40) (h1 : H[a]? = some (kB na g)) (hna : na < 2 ^ 30) (hj : j + n ≤ na) : RC sc (d + 1) mr_293 [.ref 196, .ref (a + 1), .int (nI j), .int (nI n), .int (nI l), .int 0] H (.inl (some (.int (if upB (sl tb 0 l) false cur (sl g j n) = true then 1 else 0)))) H 0 0 := by
  refine RC.of ?_
  refine RQ.blk 5 (pc' := 5) (lv' := [(0, .ref 196), (1, .ref (a + 1)), (2, .int (nI j)), (3, .int (nI n)), (4, .int (nI l)), (5, .int 0)]) (st' := [.ref 196, .int (nI n), .int (nI j), .ref (a + 1), .ref 196]) (H' := _) (kc' := 0) (ks' := 0) rfl ?_
  refine RQ.get (ci := 12) rfl hm rfl rfl ?_
  refine RQ.blk 2 (pc' := 11) (lv' := [(0, .ref 196), (1, .ref (a + 1)), (2, .int (nI j)), (3, .int (nI n)), (4, .int (nI l)), (5, .int 0)]) (st' := [.int (nI l), .int 0, .ref 197, .int (nI n), .int (nI j), .ref (a + 1), .ref 196]) (H' := _) (kc' := 0) (ks' := 0) rfl ?_
  refine RQ.callI (st' := []) rfl rfl rfl rfl rfl rfl (args_v [.int (nI l), .int 0, .ref 197, .int (nI n), .int (nI j), .ref (a + 1)] [] rfl rfl (Nat.le_of_ble_eq_true rfl) rfl hm (Nat.le_of_ble_eq_true rfl)) (ri_mcmp (c := 195) (i := j) (n := n) (j := 0) (m := l) h1 h196 hna (by decide) hj (by omega)) (fun y H2 hy => ?_)
  obtain ⟨eH2, hy⟩ := hy
  subst eH2
  refine RQ.blk 2 (pc' := 18) (lv' := [(6, .int y), (0, .ref 196), (1, .ref (a + 1)), (2, .int (nI j)), (3, .int (nI n)), (4, .int (nI l)), (5, .int 0)]) (st' := [.int y]) (H' := _) (kc' := 0) (ks' := 0) rfl ?_
  by_cases hl1 : cmpL (sl g j n) (sl tb 0 l) < 0
  · refine RQ.brT rfl rfl rfl (decide_eq_true ((cmp_lt0 hy).mpr hl1)) ?_
    refine RQ.blk 1 (pc' := 32) (lv' := [(6, .int y), (0, .ref 196), (1, .ref (a + 1)), (2, .int (nI j)), (3, .int (nI n)), (4, .int (nI l)), (5, .int 0)]) (st' := [.int 0]) (H' := _) (kc' := 0) (ks' := 0) rfl ?_
    exact RQ.done (c := 0) (s := 0) rfl rfl rfl rfl (by rw [if_neg (fun h => by rcases (upB_iff.mp h).1 with e | ⟨-, e⟩; omega; rw [e, cmpL_self] at hl1; omega)])
  · refine RQ.brF rfl rfl rfl (decide_eq_false (fun e => hl1 ((cmp_lt0 hy).mp e))) ?_
    refine RQ.blk 1 (pc' := 23) (lv' := [(6, .int y), (0, .ref 196), (1, .ref (a + 1)), (2, .int (nI j)), (3, .int (nI n)), (4, .int (nI l)), (5, .int 0)]) (st' := [.int 0]) (H' := _) (kc' := 0) (ks' := 0) rfl ?_
    refine RQ.brT rfl rfl rfl (by decide) ?_
    refine RQ.blk 1 (pc' := 34) (lv' := [(6, .int y), (0, .ref 196), (1, .ref (a + 1)), (2, .int (nI j)), (3, .int (nI n)), (4, .int (nI l)), (5, .int 0)]) (st' := [.ref 196]) (H' := _) (kc' := 0) (ks' := 0) rfl ?_
    refine RQ.get (ci := 12) rfl hm rfl rfl ?_
    cases cur with
    | none =>
      show RQ _ _ _ _ _ [.int (-1)] _ _ _ _
      refine RQ.brT rfl rfl rfl (by decide) ?_
      refine RQ.blk 2 (pc' := 64) (lv' := [(6, .int y), (0, .ref 196), (1, .ref (a + 1)), (2, .int (nI j)), (3, .int (nI n)), (4, .int (nI l)), (5, .int 0)]) (st' := [.int 1]) (H' := _) (kc' := 0) (ks' := 0) rfl ?_
      exact RQ.done (c := 0) (s := 0) rfl rfl rfl rfl (by rw [if_pos (upB_iff.mpr ⟨(by by_cases e : cmpL (sl g j n) (sl tb 0 l) = 0; exact Or.inr ⟨rfl, cmpL_eq.mp e⟩; exact Or.inl (by omega)), fun c hc => by cases hc⟩)])
    | some c =>
      show RQ _ _ _ _ _ [.int (nI c.length)] _ _ _ _
      have hcl : c.length ≤ 1000 := hc2
      refine RQ.brF rfl rfl rfl (cF_lt c.length 0) ?_
      refine RQ.blk 5 (pc' := 45) (lv' := [(6, .int y), (0, .ref 196), (1, .ref (a + 1)), (2, .int (nI j)), (3, .int (nI n)), (4, .int (nI l)), (5, .int 0)]) (st' := [.ref 196, .int (nI n), .int (nI j), .ref (a + 1), .ref 196]) (H' := _) (kc' := 0) (ks' := 0) rfl ?_
      refine RQ.get (ci := 12) rfl hm rfl rfl ?_
      refine RQ.blk 2 (pc' := 50) (lv' := [(6, .int y), (0, .ref 196), (1, .ref (a + 1)), (2, .int (nI j)), (3, .int (nI n)), (4, .int (nI l)), (5, .int 0)]) (st' := [.ref 196, .int 0, .ref 198, .int (nI n), .int (nI j), .ref (a + 1), .ref 196]) (H' := _) (kc' := 0) (ks' := 0) rfl ?_
      refine RQ.get (ci := 12) rfl hm rfl rfl ?_
      refine RQ.callI (st' := []) rfl rfl rfl rfl rfl rfl (args_v [.int (nI c.length), .int 0, .ref 198, .int (nI n), .int (nI j), .ref (a + 1)] [] rfl rfl (Nat.le_of_ble_eq_true rfl) rfl hm (Nat.le_of_ble_eq_true rfl)) (ri_mcmp (c := 195) (i := j) (n := n) (j := 0) (m := c.length) h1 h197 hna (by decide) hj (by have : c.length ≤ 1000 := hc2; omega)) (fun z H3 hz => ?_)
      obtain ⟨eH3, hz⟩ := hz
      subst eH3
      have hc1 : sl g0 0 c.length = c := hc1
      rw [hc1] at hz
      by_cases hl3 : cmpL (sl g j n) c < 0
      · refine RQ.brF rfl rfl rfl (decide_eq_false (Int32.not_le.mpr ((cmp_lt0 hz).mpr hl3))) ?_
        refine RQ.blk 2 (pc' := 64) (lv' := [(6, .int y), (0, .ref 196), (1, .ref (a + 1)), (2, .int (nI j)), (3, .int (nI n)), (4, .int (nI l)), (5, .int 0)]) (st' := [.int 1]) (H' := _) (kc' := 0) (ks' := 0) rfl ?_
        exact RQ.done (c := 0) (s := 0) rfl rfl rfl rfl (by rw [if_pos (upB_iff.mpr ⟨(by by_cases e : cmpL (sl g j n) (sl tb 0 l) = 0; exact Or.inr ⟨rfl, cmpL_eq.mp e⟩; exact Or.inl (by omega)), fun c2 hc => by rw [← Option.some.inj hc]; exact hl3⟩)])
      · refine RQ.brT rfl rfl rfl (decide_eq_true (Int32.not_lt.mp (fun e => hl3 ((cmp_lt0 hz).mp e)))) ?_
        refine RQ.blk 1 (pc' := 64) (lv' := [(6, .int y), (0, .ref 196), (1, .ref (a + 1)), (2, .int (nI j)), (3, .int (nI n)), (4, .int (nI l)), (5, .int 0)]) (st' := [.int 0]) (H' := _) (kc' := 0) (ks' := 0) rfl ?_
        exact RQ.done (c := 0) (s := 0) rfl rfl rfl rfl (by rw [if_neg (fun h => hl3 ((upB_iff.mp h).2 c rfl))])
theorem rc_better1 {sc : Nat × (Nat → Int32)} {d a na j n l : Nat} {H : aH} {fa li dn cw cl tp pr ve us pi hu : Int32} {ba bo : Nat} {g g0 tb : Nat → Int8} {cur : Option (List Nat)} (hm : H[195]? = some (kO 12 (mfs fa li dn cw cl tp (lI (cur.map List.length)) pr ve us pi hu ba bo))) (h197 : H[197]? = some (kB 1000 g0)) (hc1 : sl g0 0 (cur.getD []).length = cur.getD []) (hc2 : (cur.getD []).length ≤ 1000) (h196 : H[196]? = some (kB 2000 tb)) (hl : l ≤ 40) (h1 : H[a]? = some (kB na g)) (hna : na < 2 ^ 30) (hj : j + n ≤ na) : RC sc (d + 1) mr_293 [.ref 196, .ref (a + 1), .int (nI j), .int (nI n), .int (nI l), .int 1] H (.inl (some (.int (if upB (sl tb 0 l) true cur (sl g j n) = true then 1 else 0)))) H 0 0 := by
  refine RC.of ?_
  refine RQ.blk 5 (pc' := 5) (lv' := [(0, .ref 196), (1, .ref (a + 1)), (2, .int (nI j)), (3, .int (nI n)), (4, .int (nI l)), (5, .int 1)]) (st' := [.ref 196, .int (nI n), .int (nI j), .ref (a + 1), .ref 196]) (H' := _) (kc' := 0) (ks' := 0) rfl ?_
  refine RQ.get (ci := 12) rfl hm rfl rfl ?_
  refine RQ.blk 2 (pc' := 11) (lv' := [(0, .ref 196), (1, .ref (a + 1)), (2, .int (nI j)), (3, .int (nI n)), (4, .int (nI l)), (5, .int 1)]) (st' := [.int (nI l), .int 0, .ref 197, .int (nI n), .int (nI j), .ref (a + 1), .ref 196]) (H' := _) (kc' := 0) (ks' := 0) rfl ?_
  refine RQ.callI (st' := []) rfl rfl rfl rfl rfl rfl (args_v [.int (nI l), .int 0, .ref 197, .int (nI n), .int (nI j), .ref (a + 1)] [] rfl rfl (Nat.le_of_ble_eq_true rfl) rfl hm (Nat.le_of_ble_eq_true rfl)) (ri_mcmp (c := 195) (i := j) (n := n) (j := 0) (m := l) h1 h196 hna (by decide) hj (by omega)) (fun y H2 hy => ?_)
  obtain ⟨eH2, hy⟩ := hy
  subst eH2
  refine RQ.blk 2 (pc' := 18) (lv' := [(6, .int y), (0, .ref 196), (1, .ref (a + 1)), (2, .int (nI j)), (3, .int (nI n)), (4, .int (nI l)), (5, .int 1)]) (st' := [.int y]) (H' := _) (kc' := 0) (ks' := 0) rfl ?_
  by_cases hl1 : cmpL (sl g j n) (sl tb 0 l) < 0
  · refine RQ.brT rfl rfl rfl (decide_eq_true ((cmp_lt0 hy).mpr hl1)) ?_
    refine RQ.blk 1 (pc' := 32) (lv' := [(6, .int y), (0, .ref 196), (1, .ref (a + 1)), (2, .int (nI j)), (3, .int (nI n)), (4, .int (nI l)), (5, .int 1)]) (st' := [.int 0]) (H' := _) (kc' := 0) (ks' := 0) rfl ?_
    exact RQ.done (c := 0) (s := 0) rfl rfl rfl rfl (by rw [if_neg (fun h => by rcases (upB_iff.mp h).1 with e | ⟨-, e⟩; omega; rw [e, cmpL_self] at hl1; omega)])
  · refine RQ.brF rfl rfl rfl (decide_eq_false (fun e => hl1 ((cmp_lt0 hy).mp e))) ?_
    refine RQ.blk 1 (pc' := 23) (lv' := [(6, .int y), (0, .ref 196), (1, .ref (a + 1)), (2, .int (nI j)), (3, .int (nI n)), (4, .int (nI l)), (5, .int 1)]) (st' := [.int 1]) (H' := _) (kc' := 0) (ks' := 0) rfl ?_
    refine RQ.brF rfl rfl rfl (by decide) ?_
    refine RQ.blk 1 (pc' := 28) (lv' := [(6, .int y), (0, .ref 196), (1, .ref (a + 1)), (2, .int (nI j)), (3, .int (nI n)), (4, .int (nI l)), (5, .int 1)]) (st' := [.int y]) (H' := _) (kc' := 0) (ks' := 0) rfl ?_
    by_cases hl2 : cmpL (sl g j n) (sl tb 0 l) = 0
    · refine RQ.brF rfl rfl rfl (bnf ((cmp_eq0 hy).mpr hl2)) ?_
      refine RQ.blk 1 (pc' := 32) (lv' := [(6, .int y), (0, .ref 196), (1, .ref (a + 1)), (2, .int (nI j)), (3, .int (nI n)), (4, .int (nI l)), (5, .int 1)]) (st' := [.int 0]) (H' := _) (kc' := 0) (ks' := 0) rfl ?_
      exact RQ.done (c := 0) (s := 0) rfl rfl rfl rfl (by rw [if_neg (fun h => by rcases (upB_iff.mp h).1 with e | ⟨e, -⟩; omega; exact Bool.noConfusion e)])
    · refine RQ.brT rfl rfl rfl (bnt (fun e => hl2 ((cmp_eq0 hy).mp e))) ?_
      refine RQ.blk 1 (pc' := 34) (lv' := [(6, .int y), (0, .ref 196), (1, .ref (a + 1)), (2, .int (nI j)), (3, .int (nI n)), (4, .int (nI l)), (5, .int 1)]) (st' := [.ref 196]) (H' := _) (kc' := 0) (ks' := 0) rfl ?_
      refine RQ.get (ci := 12) rfl hm rfl rfl ?_
      cases cur with
      | none =>
        show RQ _ _ _ _ _ [.int (-1)] _ _ _ _
        refine RQ.brT rfl rfl rfl (by decide) ?_
        refine RQ.blk 2 (pc' := 64) (lv' := [(6, .int y), (0, .ref 196), (1, .ref (a + 1)), (2, .int (nI j)), (3, .int (nI n)), (4, .int (nI l)), (5, .int 1)]) (st' := [.int 1]) (H' := _) (kc' := 0) (ks' := 0) rfl ?_
        exact RQ.done (c := 0) (s := 0) rfl rfl rfl rfl (by rw [if_pos (upB_iff.mpr ⟨(Or.inl (by omega)), fun c hc => by cases hc⟩)])
      | some c =>
        show RQ _ _ _ _ _ [.int (nI c.length)] _ _ _ _
        have hcl : c.length ≤ 1000 := hc2
        refine RQ.brF rfl rfl rfl (cF_lt c.length 0) ?_
        refine RQ.blk 5 (pc' := 45) (lv' := [(6, .int y), (0, .ref 196), (1, .ref (a + 1)), (2, .int (nI j)), (3, .int (nI n)), (4, .int (nI l)), (5, .int 1)]) (st' := [.ref 196, .int (nI n), .int (nI j), .ref (a + 1), .ref 196]) (H' := _) (kc' := 0) (ks' := 0) rfl ?_
        refine RQ.get (ci := 12) rfl hm rfl rfl ?_
        refine RQ.blk 2 (pc' := 50) (lv' := [(6, .int y), (0, .ref 196), (1, .ref (a + 1)), (2, .int (nI j)), (3, .int (nI n)), (4, .int (nI l)), (5, .int 1)]) (st' := [.ref 196, .int 0, .ref 198, .int (nI n), .int (nI j), .ref (a + 1), .ref 196]) (H' := _) (kc' := 0) (ks' := 0) rfl ?_
        refine RQ.get (ci := 12) rfl hm rfl rfl ?_
        refine RQ.callI (st' := []) rfl rfl rfl rfl rfl rfl (args_v [.int (nI c.length), .int 0, .ref 198, .int (nI n), .int (nI j), .ref (a + 1)] [] rfl rfl (Nat.le_of_ble_eq_true rfl) rfl hm (Nat.le_of_ble_eq_true rfl)) (ri_mcmp (c := 195) (i := j) (n := n) (j := 0) (m := c.length) h1 h197 hna (by decide) hj (by have : c.length ≤ 1000 := hc2; omega)) (fun z H3 hz => ?_)
        obtain ⟨eH3, hz⟩ := hz
        subst eH3
        have hc1 : sl g0 0 c.length = c := hc1
        rw [hc1] at hz
        by_cases hl3 : cmpL (sl g j n) c < 0
        · refine RQ.brF rfl rfl rfl (decide_eq_false (Int32.not_le.mpr ((cmp_lt0 hz).mpr hl3))) ?_
          refine RQ.blk 2 (pc' := 64) (lv' := [(6, .int y), (0, .ref 196), (1, .ref (a + 1)), (2, .int (nI j)), (3, .int (nI n)), (4, .int (nI l)), (5, .int 1)]) (st' := [.int 1]) (H' := _) (kc' := 0) (ks' := 0) rfl ?_
          exact RQ.done (c := 0) (s := 0) rfl rfl rfl rfl (by rw [if_pos (upB_iff.mpr ⟨(Or.inl (by omega)), fun c2 hc => by rw [← Option.some.inj hc]; exact hl3⟩)])
        · refine RQ.brT rfl rfl rfl (decide_eq_true (Int32.not_lt.mp (fun e => hl3 ((cmp_lt0 hz).mp e)))) ?_
          refine RQ.blk 1 (pc' := 64) (lv' := [(6, .int y), (0, .ref 196), (1, .ref (a + 1)), (2, .int (nI j)), (3, .int (nI n)), (4, .int (nI l)), (5, .int 1)]) (st' := [.int 0]) (H' := _) (kc' := 0) (ks' := 0) rfl ?_
          exact RQ.done (c := 0) (s := 0) rfl rfl rfl rfl (by rw [if_neg (fun h => hl3 ((upB_iff.mp h).2 c rfl))])
theorem rc_mtake {sc : Nat × (Nat → Int32)} {d a na j n : Nat} {H : aH} {fa li dn cw cl tp rs pr ve us pi hu : Int32} {ba bo : Nat} {g g0 : Nat → Int8} (hm : H[195]? = some (kO 12 (mfs fa li dn cw cl tp rs pr ve us pi hu ba bo))) (h197 : H[197]? = some (kB 1000 g0)) (h1 : H[a]? = some (kB na g)) (ha1 : a ≠ 195) (ha2 : a ≠ 197) (hna : na < 2 ^ 30) (hj : j + n ≤ na) (hn : n ≤ 1000) : RC sc d mr_294 [.ref 196, .ref (a + 1), .int (nI j), .int (nI n)] H (.inl none) ((H.set 197 (kB 1000 (cpy g j g0 0 n))).set 195 (kO 12 (mfs fa li dn cw cl tp (nI n) pr ve us pi hu ba bo))) 0 0 := by
  refine RC.of ?_
  refine RQ.blk 2 (pc' := 3) (lv' := [(4, .int 0), (0, .ref 196), (1, .ref (a + 1)), (2, .int (nI j)), (3, .int (nI n))]) (st' := []) (H' := _) (kc' := 0) (ks' := 0) rfl ?_
  refine RQ.while (S := Nat) (pc := 3) (fun k H' => k ≤ n ∧ H' = (H.set 197 (kB 1000 (cpy g j g0 0 k)))) (fun k => [(4, .int (nI k)), (0, .ref 196), (1, .ref (a + 1)), (2, .int (nI j)), (3, .int (nI n))]) (fun k => n - k) ?_ 0 H ⟨Nat.zero_le _, by rw [cpy_0, set_self h197]⟩
  rintro k H1 ⟨hk, e⟩ ih
  rw [e]
  by_cases hlt : k < n
  ·
    refine RQ.blk 2 (pc' := 6) (lv' := [(4, .int (nI k)), (0, .ref 196), (1, .ref (a + 1)), (2, .int (nI j)), (3, .int (nI n))]) (st' := [.int (nI n), .int (nI k)]) (H' := _) (kc' := 0) (ks' := 0) rfl ?_
    refine RQ.brF rfl rfl rfl (cF_ge k n) ?_
    refine RQ.blk 1 (pc' := 10) (lv' := [(4, .int (nI k)), (0, .ref 196), (1, .ref (a + 1)), (2, .int (nI j)), (3, .int (nI n))]) (st' := [.ref 196]) (H' := _) (kc' := 0) (ks' := 0) rfl ?_
    refine RQ.get (ci := 12) rfl ((set_far (by decide)).trans hm) rfl rfl ?_
    refine RQ.blk 5 (pc' := 20) (lv' := [(4, .int (nI k)), (0, .ref 196), (1, .ref (a + 1)), (2, .int (nI j)), (3, .int (nI n))]) (st' := [.int (nI j + nI k), .ref (a + 1), .int (nI k), .ref 198]) (H' := _) (kc' := 0) (ks' := 0) rfl ?_
    rw [show (nI j + nI k : Int32) = nI (j + k) from nI_add j k]
    refine RQ.baldN (j := j + k) rfl ((set_far (by omega)).trans h1) (by omega) (by omega) ?_
    refine RQ.bastN (j := k) rfl (get_set h197) (by omega) (by decide) ?_
    rw [set_set, Int8.toInt8_toInt32]
    rw [show va_up (cpy g j g0 0 k) k (g (j + k)) = cpy g j g0 0 (k + 1) by rw [← cpy_up', Nat.zero_add]]
    refine RQ.blk 1 (pc' := 25) (lv' := [(4, .int (nI k + 1)), (0, .ref 196), (1, .ref (a + 1)), (2, .int (nI j)), (3, .int (nI n))]) (st' := []) (H' := _) (kc' := 0) (ks' := 0) rfl ?_
    rw [show (nI k + 1 : Int32) = nI (k + 1) from nI_add k 1]
    refine RQ.blk 1 (pc' := 3) (lv' := [(4, .int (nI (k + 1))), (0, .ref 196), (1, .ref (a + 1)), (2, .int (nI j)), (3, .int (nI n))]) (st' := []) (H' := _) (kc' := 0) (ks' := 0) rfl ?_
    exact ih (k + 1) _ ⟨by omega, rfl⟩ (by omega)
  ·
    refine RQ.blk 2 (pc' := 6) (lv' := [(4, .int (nI k)), (0, .ref 196), (1, .ref (a + 1)), (2, .int (nI j)), (3, .int (nI n))]) (st' := [.int (nI n), .int (nI k)]) (H' := _) (kc' := 0) (ks' := 0) rfl ?_
    refine RQ.brT rfl rfl rfl (cT_ge k n) ?_
    refine RQ.blk 2 (pc' := 30) (lv' := [(4, .int (nI k)), (0, .ref 196), (1, .ref (a + 1)), (2, .int (nI j)), (3, .int (nI n))]) (st' := [.int (nI n), .ref 196]) (H' := _) (kc' := 0) (ks' := 0) rfl ?_
    refine RQ.put (ci := 12) rfl ((set_far (by decide)).trans hm) rfl rfl (Nat.le_of_ble_eq_true rfl) ?_
    exact RQ.done (c := 0) (s := 0) rfl rfl rfl rfl (by rw [show k = n by omega]; rfl)
theorem getW_len {ws : List aE} {ms : List aMV} {m : Nat} {k x : List Nat} (hws : ∀ e ∈ ws, (e.2.getD []).length ≤ 1000) (hms : ∀ w ∈ ms, (w.2.2.getD []).length ≤ 1000) (h : getW ws (lookM ms k m) k = some x) : x.length < 2 ^ 31 := by
  unfold getW at h
  cases hi : ixK ws k with
  | some i =>
    rw [hi] at h
    have h : (ws[i]?).bind (fun e => e.2) = some x := h
    cases he : ws[i]? with
    | none => rw [he] at h; cases h
    | some e =>
      rw [he] at h
      have h : e.2 = some x := h
      have := hws e (List.mem_of_getElem? he)
      rw [h] at this
      have : x.length ≤ 1000 := this
      omega
  | none =>
    rw [hi] at h
    have h : lookM ms k m = some x := h
    unfold lookM at h
    cases hs : seenM ms k m with
    | none => rw [hs] at h; cases h
    | some w =>
      rw [hs] at h
      have h : w.2.2 = some x := h
      have := hms w (List.mem_of_find?_eq_some hs)
      rw [h] at this
      have : x.length ≤ 1000 := this
      omega
theorem seenM_key {ms : List aMV} {k : List Nat} {m : Nat} {w : aMV} (h : seenM ms k m = some w) : w.1 = k := by
  have h2 := List.find?_some h
  simp only [Bool.and_eq_true, decide_eq_true_iff] at h2
  exact h2.1
theorem vis_iff {ws : List aE} {ms : List aMV} {m : Nat} (h1W : OneW ws) (k : List Nat) : ((∃ (j : Nat) (e : aE), j < ws.length ∧ ws[j]? = some e ∧ e.1 = k ∧ e.2 ≠ none) ∨ ∃ (j : Nat) (w : aMV), j < ms.length ∧ ms[j]? = some w ∧ w.1 = k ∧ getW ws (lookM ms k m) k ≠ none) ↔ getW ws (lookM ms k m) k ≠ none := by
  constructor
  · rintro (⟨j, e, j1, j2, j3, j4⟩ | ⟨j, w, j1, j2, j3, j4⟩)
    · unfold getW
      cases hi : ixK ws k with
      | none => exact absurd j3 (ixK_none hi j e j2)
      | some i =>
        obtain ⟨⟨e0, hi0, he0⟩, -⟩ := ixK_some hi
        have : i = j := h1W i j e0 e hi0 j2 (he0.trans j3.symm)
        show (ws[i]?).bind (fun e => e.2) ≠ none
        rw [this, j2]
        exact j4
    · exact j4
  · intro h
    unfold getW at h
    cases hi : ixK ws k with
    | some i =>
      rw [hi] at h
      have h : (ws[i]?).bind (fun e => e.2) ≠ none := h
      obtain ⟨⟨e0, hi0, he0⟩, -⟩ := ixK_some hi
      rw [hi0] at h
      exact Or.inl ⟨i, e0, get_lt hi0, hi0, he0, h⟩
    | none =>
      have h2 := h
      rw [hi] at h2
      have h2 : lookM ms k m ≠ none := h2
      unfold lookM at h2
      cases hs : seenM ms k m with
      | none => rw [hs] at h2; exact absurd rfl h2
      | some w =>
        obtain ⟨j, hj⟩ := List.getElem?_of_mem (List.mem_of_find?_eq_some hs)
        refine Or.inr ⟨j, w, get_lt hj, hj, seenM_key hs, ?_⟩
        unfold getW
        exact h
set_option maxRecDepth 20000 in
theorem ri_mseek0 {sc : Nat × (Nat → Int32)} {d t l : Nat} {H : aH} {op : Nat → Bool} {rs : Int32} {fa li cw cl pr us pi hu : Int32} {ba bo : Nat} {bf : Nat → Int8} {ko kn vo : Nat → Nat} {vz : Nat → Option Nat} {vm : Nat → Nat} {ms : List aMV} {ro fi wk wn : Nat → Nat} {wz : Nat → Option Nat} {wb : Nat → Int8} {se : Nat → Nat} {ws : List aE} {g0 tb : Nat → Int8} (hm : H[195]? = some (kO 12 (mfs fa li 0 cw cl (nI l) rs pr (nI ms.length) us pi hu ba bo))) (h : MVAt H ba bf ko kn vo vz vm) (hl : MVLay bf ko kn vo vz vm ms) (hk : MSOk ms) (hba : ba = 203 ∨ ba = 204) (hR : MRAt H ro fi wk wn wz wb) (hT : TxL ro fi wk wn wz wb t ws) (ht : t < 8) (h6 : H[206]? = some (kI 8 (fun j => nI (se j)))) (hse : se t < 2 ^ 31) (h196 : H[196]? = some (kB 2000 tb)) (h205 : H[205]? = some (kZ 8 op)) (hop : op t = true) (hl2 : l ≤ 40) (h197 : H[197]? = some (kB 1000 g0)) (h1M : OneM ms) (h1W : OneW ws) (hws : ∀ e ∈ ws, (e.2.getD []).length ≤ 1000) (hms : ∀ w ∈ ms, (w.2.2.getD []).length ≤ 1000) (hwk : ∀ e ∈ ws, e.1.length ≤ 40) (hmk : ∀ w ∈ ms, w.1.length ≤ 40) : RI sc (d + 3) mr_292 [.ref 196, .int (nI t), .int 0] H (fun x H' => ∃ rv : Option (List Nat), SkS (fun k => getW ws (lookM ms k (se t)) k ≠ none) (sl tb 0 l) false rv ∧ x = lI (rv.map List.length) ∧ H'[195]? = some (kO 12 (mfs 0 li 0 cw cl 0 (nI (rv.getD []).length) pr (nI ms.length) us pi hu ba bo)) ∧ (∃ g', H'[197]? = some (kB 1000 g') ∧ sl g' 0 (rv.getD []).length = rv.getD [] ∧ (rv.getD []).length ≤ 1000) ∧ ∀ a, a ≠ 195 → a ≠ 197 → H'[a]? = H[a]?) := by
  have hlen := hT.2.2.1
  have hro := hT.1
  have hn15 := hk.1
  refine RI.of ?_
  refine RQ.blk 2 (pc' := 2) (lv' := [(0, .ref 196), (1, .int (nI t)), (2, .int 0)]) (st' := [.int 0, .ref 196]) (H' := _) (kc' := 0) (ks' := 0) rfl ?_
  refine RQ.put (ci := 12) rfl hm rfl rfl (Nat.le_of_ble_eq_true rfl) ?_
  refine RQ.blk 3 (pc' := 9) (lv' := [(0, .ref 196), (1, .int (nI t)), (2, .int 0)]) (st' := [.int 8, .int (nI t), .ref 196]) (H' := _) (kc' := 0) (ks' := 0) rfl ?_
  refine RQ.call (v := some (.int 0)) (st' := []) rfl rfl rfl rfl rfl rfl (args_v [.int 8, .int (nI t)] [] rfl rfl (Nat.le_of_ble_eq_true rfl) rfl (get_set hm) (Nat.le_of_ble_eq_true rfl)) (rc_out ht (by decide)) ?_
  refine RQ.brF rfl rfl rfl (by decide) ?_
  refine RQ.blk 1 (pc' := 16) (lv' := [(0, .ref 196), (1, .int (nI t)), (2, .int 0)]) (st' := [.ref 196]) (H' := _) (kc' := 0) (ks' := 0) rfl ?_
  refine RQ.get (ci := 12) rfl (get_set hm) rfl rfl ?_
  refine RQ.blk 1 (pc' := 21) (lv' := [(0, .ref 196), (1, .int (nI t)), (2, .int 0)]) (st' := [.int 40, .int (nI l)]) (H' := _) (kc' := 0) (ks' := 0) rfl ?_
  refine RQ.brT rfl rfl rfl (cT_le l 40) ?_
  refine RQ.blk 1 (pc' := 31) (lv' := [(0, .ref 196), (1, .int (nI t)), (2, .int 0)]) (st' := [.ref 196]) (H' := _) (kc' := 0) (ks' := 0) rfl ?_
  refine RQ.get (ci := 12) rfl (get_set hm) rfl rfl ?_
  refine RQ.brT rfl rfl rfl (by decide) ?_
  refine RQ.blk 1 (pc' := 44) (lv' := [(0, .ref 196), (1, .int (nI t)), (2, .int 0)]) (st' := [.ref 196]) (H' := _) (kc' := 0) (ks' := 0) rfl ?_
  refine RQ.get (ci := 12) rfl (get_set hm) rfl rfl ?_
  refine RQ.blk 3 (pc' := 50) (lv' := [(3, .int (nI l)), (0, .ref 196), (1, .int (nI t)), (2, .int 0)]) (st' := [.int 0, .ref 196]) (H' := _) (kc' := 0) (ks' := 0) rfl ?_
  refine RQ.put (ci := 12) rfl (get_set hm) rfl rfl (Nat.le_of_ble_eq_true rfl) ?_
  refine RQ.blk 1 (pc' := 54) (lv' := [(3, .int (nI l)), (0, .ref 196), (1, .int (nI t)), (2, .int 0)]) (st' := [.ref 196]) (H' := _) (kc' := 0) (ks' := 0) rfl ?_
  refine RQ.get (ci := 12) rfl (get_set (get_set hm)) rfl rfl ?_
  refine RQ.blk 1 (pc' := 58) (lv' := [(3, .int (nI l)), (0, .ref 196), (1, .int (nI t)), (2, .int 0)]) (st' := [.int (nI t), .ref 206]) (H' := _) (kc' := 0) (ks' := 0) rfl ?_
  refine RQ.zaldN (j := t) rfl ((set_far (by decide)).trans ((set_far (by decide)).trans h205)) (by omega) (by decide) ?_
  rw [hop]
  refine RQ.brT rfl rfl rfl (by decide) ?_
  refine RQ.blk 2 (pc' := 70) (lv' := [(3, .int (nI l)), (0, .ref 196), (1, .int (nI t)), (2, .int 0)]) (st' := [.int (-1), .ref 196]) (H' := _) (kc' := 0) (ks' := 0) rfl ?_
  refine RQ.put (ci := 12) rfl (get_set (get_set hm)) rfl rfl (Nat.le_of_ble_eq_true rfl) ?_
  rw [set_set, set_set]
  show RQ _ _ _ _ _ _ (H.set 195 (kO 12 (mfs 0 li 0 cw cl 0 (-1) pr (nI ms.length) us pi hu ba bo))) _ _ _
  have far0 : ∀ a, a ≠ 195 → (H.set 195 (kO 12 (mfs 0 li 0 cw cl 0 (-1) pr (nI ms.length) us pi hu ba bo)))[a]? = H[a]? := fun a ha => set_far ha
  have hm0 : (H.set 195 (kO 12 (mfs 0 li 0 cw cl 0 (-1) pr (nI ms.length) us pi hu ba bo)))[195]? = some (kO 12 (mfs 0 li 0 cw cl 0 (-1) pr (nI ms.length) us pi hu ba bo)) := get_set hm
  generalize (H.set 195 (kO 12 (mfs 0 li 0 cw cl 0 (-1) pr (nI ms.length) us pi hu ba bo))) = H0 at far0 hm0 ⊢
  refine RQ.blk 3 (pc' := 77) (lv' := [(3, .int (nI l)), (0, .ref 196), (1, .int (nI t)), (2, .int 0)]) (st' := [.int (32 * nI t)]) (H' := _) (kc' := 0) (ks' := 0) rfl ?_
  rw [show (32 * nI t : Int32) = nI (32 * t) from pk_mul 32 t]
  refine RQ.blk 1 (pc' := 79) (lv' := [(4, .int (nI (32 * t))), (3, .int (nI l)), (0, .ref 196), (1, .int (nI t)), (2, .int 0)]) (st' := []) (H' := _) (kc' := 0) (ks' := 0) rfl ?_
  skip
  refine RQ.pick (a := [(4, .int (nI (32 * t))), (3, .int (nI l)), (0, .ref 196), (1, .int (nI t)), (2, .int 0)]) [0, 1, 2, 3, 4] [4, 3, 0, 1, 2] rfl rfl (by decide) ?_
  refine RQ.while (S := Nat) (pc := 79) (fun i H' => ∃ (cur : Option (List Nat)) (g0 : Nat → Int8), i ≤ ws.length ∧ SkS (fun k => ∃ (j : Nat) (e : aE), j < i ∧ ws[j]? = some e ∧ e.1 = k ∧ e.2 ≠ none) (sl tb 0 l) false cur ∧ H'[195]? = some (kO 12 (mfs 0 li 0 cw cl 0 (lI (cur.map List.length)) pr (nI ms.length) us pi hu ba bo)) ∧ H'[197]? = some (kB 1000 g0) ∧ sl g0 0 (cur.getD []).length = cur.getD [] ∧ (cur.getD []).length ≤ 40 ∧ ∀ a, a ≠ 195 → a ≠ 197 → H'[a]? = H[a]?) (fun i => [(4, .int (nI (32 * t + i))), (3, .int (nI l)), (0, .ref 196), (1, .int (nI t)), (2, .int 0)]) (fun i => ws.length - i) ?_ 0 H0 ⟨none, g0, Nat.zero_le _, fun k ⟨j, e, hj, _⟩ => absurd hj (Nat.not_lt_zero _), hm0, (far0 197 (by decide)).trans h197, rfl, Nat.zero_le _, fun a a1 a2 => far0 a a1⟩
  rintro i H1 ⟨cur, g1, hi, hsk, hm1, h71, hc1, hc2, f1⟩ ih
  have hMV1 := h.far (H' := H1) (fun a a1 a2 => f1 a (by omega) (by omega)) (f1 ba (by omega) (by omega))
  have hR1 := hR.far (H' := H1) (fun a a1 a2 => f1 a (by omega) (by omega))
  have h61 := (f1 196 (by decide) (by decide)).trans h196
  by_cases hil : i < ws.length
  ·
    obtain ⟨e, he⟩ := lt_get hil
    obtain ⟨e1, e2, e3, e4⟩ := hT.2.2.2.2 i e he
    have f5 := ((hT.ok ht).2.2.2 i (by rw [hT.1]; exact hil)).2
    have f6 := hT.2.2.2.1
    have f7 := hT.2.1
    have e3 : wz (32 * t + i) = e.2.map List.length := e3
    have e2 : wn (32 * t + i) = e.1.length := e2
    have hkey : sl wb (wk (32 * t + i)) (wn (32 * t + i)) = e.1 := LayE.key hT.2.2.2.2 he
    have hk40 := hwk e (List.mem_of_getElem? he)
    refine RQ.blk 4 (pc' := 85) (lv' := [(4, .int (nI (32 * t + i))), (3, .int (nI l)), (0, .ref 196), (1, .int (nI t)), (2, .int 0)]) (st' := [.int (32 * nI t), .int (nI (32 * t + i))]) (H' := _) (kc' := 0) (ks' := 0) rfl ?_
    rw [show (32 * nI t : Int32) = nI (32 * t) from pk_mul 32 t]
    refine RQ.blk 1 (pc' := 86) (lv' := [(4, .int (nI (32 * t + i))), (3, .int (nI l)), (0, .ref 196), (1, .int (nI t)), (2, .int 0)]) (st' := [.ref 196, .int (nI (32 * t)), .int (nI (32 * t + i))]) (H' := _) (kc' := 0) (ks' := 0) rfl ?_
    refine RQ.get (ci := 12) rfl hm1 rfl rfl ?_
    refine RQ.blk 1 (pc' := 90) (lv' := [(4, .int (nI (32 * t + i))), (3, .int (nI l)), (0, .ref 196), (1, .int (nI t)), (2, .int 0)]) (st' := [.int (nI t), .ref 208, .int (nI (32 * t)), .int (nI (32 * t + i))]) (H' := _) (kc' := 0) (ks' := 0) rfl ?_
    refine RQ.ialdN (j := t) rfl hR1.1 (by omega) (by decide) ?_
    rw [hro]
    refine RQ.blk 1 (pc' := 92) (lv' := [(4, .int (nI (32 * t + i))), (3, .int (nI l)), (0, .ref 196), (1, .int (nI t)), (2, .int 0)]) (st' := [.int (nI (32 * t) + nI ws.length), .int (nI (32 * t + i))]) (H' := _) (kc' := 0) (ks' := 0) rfl ?_
    rw [show (nI (32 * t) + nI ws.length : Int32) = nI (32 * t + ws.length) from nI_add (32 * t) ws.length]
    refine RQ.brF rfl rfl rfl (cF_ge (32 * t + i) (32 * t + ws.length)) ?_
    refine RQ.blk 1 (pc' := 96) (lv' := [(4, .int (nI (32 * t + i))), (3, .int (nI l)), (0, .ref 196), (1, .int (nI t)), (2, .int 0)]) (st' := [.ref 196]) (H' := _) (kc' := 0) (ks' := 0) rfl ?_
    refine RQ.get (ci := 12) rfl hm1 rfl rfl ?_
    refine RQ.blk 1 (pc' := 101) (lv' := [(4, .int (nI (32 * t + i))), (3, .int (nI l)), (0, .ref 196), (1, .int (nI t)), (2, .int 0)]) (st' := [.int (nI (32 * t + i)), .ref 212]) (H' := _) (kc' := 0) (ks' := 0) rfl ?_
    refine RQ.ialdN (j := 32 * t + i) rfl hR1.2.2.2.2.1 (by omega) (by decide) ?_
    rw [e3]
    cases hev : e.2 with
    | none =>
      show RQ _ _ _ _ _ [.int (-1)] _ _ _ _
      refine RQ.brT rfl rfl rfl (by decide) ?_
      refine RQ.blk 1 (pc' := 157) (lv' := [(4, .int (nI (32 * t + i) + 1)), (3, .int (nI l)), (0, .ref 196), (1, .int (nI t)), (2, .int 0)]) (st' := []) (H' := _) (kc' := 0) (ks' := 0) rfl ?_
      rw [show (nI (32 * t + i) + 1 : Int32) = nI (32 * t + i + 1) from nI_add (32 * t + i) 1]
      refine RQ.blk 1 (pc' := 79) (lv' := [(4, .int (nI (32 * t + i + 1))), (3, .int (nI l)), (0, .ref 196), (1, .int (nI t)), (2, .int 0)]) (st' := []) (H' := _) (kc' := 0) (ks' := 0) rfl ?_
      refine RQ.pick (a := [(4, .int (nI (32 * t + i + 1))), (3, .int (nI l)), (0, .ref 196), (1, .int (nI t)), (2, .int 0)]) [0, 1, 2, 3, 4] [4, 3, 0, 1, 2] rfl rfl (by decide) ?_
      have hsk2 : SkS (fun k => ∃ (j : Nat) (e : aE), j < (i + 1) ∧ ws[j]? = some e ∧ e.1 = k ∧ e.2 ≠ none) (sl tb 0 l) false cur := hsk.congr (fun k => ⟨fun ⟨j, e9, j1, j2, j3, j4⟩ => ⟨j, e9, by omega, j2, j3, j4⟩, fun ⟨j, e9, j1, j2, j3, j4⟩ => by by_cases hji : j = i; rw [hji, he] at j2; rw [← Option.some.inj j2] at j4; exact absurd hev j4; exact ⟨j, e9, by omega, j2, j3, j4⟩⟩)
      exact ih (i + 1) H1 ⟨cur, g1, by omega, hsk2, hm1, h71, hc1, hc2, f1⟩ (by omega)
    | some x =>
      show RQ _ _ _ _ _ [.int (nI x.length)] _ _ _ _
      have hx : x.length ≤ 1000 := by have := hws e (List.mem_of_getElem? he); rw [hev] at this; exact this
      refine RQ.brF rfl rfl rfl (cF_lt x.length 0) ?_
      refine RQ.blk 2 (pc' := 107) (lv' := [(4, .int (nI (32 * t + i))), (3, .int (nI l)), (0, .ref 196), (1, .int (nI t)), (2, .int 0)]) (st' := [.ref 196, .ref 196]) (H' := _) (kc' := 0) (ks' := 0) rfl ?_
      refine RQ.get (ci := 12) rfl hm1 rfl rfl ?_
      refine RQ.blk 1 (pc' := 111) (lv' := [(4, .int (nI (32 * t + i))), (3, .int (nI l)), (0, .ref 196), (1, .int (nI t)), (2, .int 0)]) (st' := [.ref 196, .ref 213, .ref 196]) (H' := _) (kc' := 0) (ks' := 0) rfl ?_
      refine RQ.get (ci := 12) rfl hm1 rfl rfl ?_
      refine RQ.blk 1 (pc' := 116) (lv' := [(4, .int (nI (32 * t + i))), (3, .int (nI l)), (0, .ref 196), (1, .int (nI t)), (2, .int 0)]) (st' := [.int (nI (32 * t + i)), .ref 210, .ref 213, .ref 196]) (H' := _) (kc' := 0) (ks' := 0) rfl ?_
      refine RQ.ialdN (j := 32 * t + i) rfl hR1.2.2.1 (by omega) (by decide) ?_
      refine RQ.blk 1 (pc' := 118) (lv' := [(4, .int (nI (32 * t + i))), (3, .int (nI l)), (0, .ref 196), (1, .int (nI t)), (2, .int 0)]) (st' := [.ref 196, .int (nI (wk (32 * t + i))), .ref 213, .ref 196]) (H' := _) (kc' := 0) (ks' := 0) rfl ?_
      refine RQ.get (ci := 12) rfl hm1 rfl rfl ?_
      refine RQ.blk 1 (pc' := 123) (lv' := [(4, .int (nI (32 * t + i))), (3, .int (nI l)), (0, .ref 196), (1, .int (nI t)), (2, .int 0)]) (st' := [.int (nI (32 * t + i)), .ref 211, .int (nI (wk (32 * t + i))), .ref 213, .ref 196]) (H' := _) (kc' := 0) (ks' := 0) rfl ?_
      refine RQ.ialdN (j := 32 * t + i) rfl hR1.2.2.2.1 (by omega) (by decide) ?_
      refine RQ.blk 2 (pc' := 126) (lv' := [(4, .int (nI (32 * t + i))), (3, .int (nI l)), (0, .ref 196), (1, .int (nI t)), (2, .int 0)]) (st' := [.int 0, .int (nI l), .int (nI (wn (32 * t + i))), .int (nI (wk (32 * t + i))), .ref 213, .ref 196]) (H' := _) (kc' := 0) (ks' := 0) rfl ?_
      refine RQ.call (v := some (.int (if upB (sl tb 0 l) false cur (sl wb (wk (32 * t + i)) (wn (32 * t + i))) = true then 1 else 0))) (st' := []) rfl rfl rfl rfl rfl rfl (args_v [.int 0, .int (nI l), .int (nI (wn (32 * t + i))), .int (nI (wk (32 * t + i))), .ref 213] [] rfl rfl (Nat.le_of_ble_eq_true rfl) rfl hm1 (Nat.le_of_ble_eq_true rfl)) (rc_better0 (a := 212) (na := 32000) (j := wk (32 * t + i)) (n := wn (32 * t + i)) (l := l) hm1 h71 hc1 (by omega) h61 hl2 hR1.2.2.2.2.2 (by decide) (by omega)) ?_
      rw [hkey]
      by_cases hup : upB (sl tb 0 l) false cur e.1 = true
      · rw [if_pos hup]
        refine RQ.brF rfl rfl rfl (by decide) ?_
        refine RQ.blk 2 (pc' := 134) (lv' := [(4, .int (nI (32 * t + i))), (3, .int (nI l)), (0, .ref 196), (1, .int (nI t)), (2, .int 0)]) (st' := [.ref 196, .ref 196]) (H' := _) (kc' := 0) (ks' := 0) rfl ?_
        refine RQ.get (ci := 12) rfl hm1 rfl rfl ?_
        refine RQ.blk 1 (pc' := 138) (lv' := [(4, .int (nI (32 * t + i))), (3, .int (nI l)), (0, .ref 196), (1, .int (nI t)), (2, .int 0)]) (st' := [.ref 196, .ref 213, .ref 196]) (H' := _) (kc' := 0) (ks' := 0) rfl ?_
        refine RQ.get (ci := 12) rfl hm1 rfl rfl ?_
        refine RQ.blk 1 (pc' := 143) (lv' := [(4, .int (nI (32 * t + i))), (3, .int (nI l)), (0, .ref 196), (1, .int (nI t)), (2, .int 0)]) (st' := [.int (nI (32 * t + i)), .ref 210, .ref 213, .ref 196]) (H' := _) (kc' := 0) (ks' := 0) rfl ?_
        refine RQ.ialdN (j := 32 * t + i) rfl hR1.2.2.1 (by omega) (by decide) ?_
        refine RQ.blk 1 (pc' := 145) (lv' := [(4, .int (nI (32 * t + i))), (3, .int (nI l)), (0, .ref 196), (1, .int (nI t)), (2, .int 0)]) (st' := [.ref 196, .int (nI (wk (32 * t + i))), .ref 213, .ref 196]) (H' := _) (kc' := 0) (ks' := 0) rfl ?_
        refine RQ.get (ci := 12) rfl hm1 rfl rfl ?_
        refine RQ.blk 1 (pc' := 150) (lv' := [(4, .int (nI (32 * t + i))), (3, .int (nI l)), (0, .ref 196), (1, .int (nI t)), (2, .int 0)]) (st' := [.int (nI (32 * t + i)), .ref 211, .int (nI (wk (32 * t + i))), .ref 213, .ref 196]) (H' := _) (kc' := 0) (ks' := 0) rfl ?_
        refine RQ.ialdN (j := 32 * t + i) rfl hR1.2.2.2.1 (by omega) (by decide) ?_
        refine RQ.call (v := none) (st' := []) rfl rfl rfl rfl rfl rfl (args_v [.int (nI (wn (32 * t + i))), .int (nI (wk (32 * t + i))), .ref 213] [] rfl rfl (Nat.le_of_ble_eq_true rfl) rfl hm1 (Nat.le_of_ble_eq_true rfl)) (rc_mtake (a := 212) (na := 32000) (j := wk (32 * t + i)) (n := wn (32 * t + i)) hm1 h71 hR1.2.2.2.2.2 (by omega) (by omega) (by decide) (by omega) (by omega)) ?_
        have hm2 : ((H1.set 197 (kB 1000 (cpy wb (wk (32 * t + i)) g1 0 (wn (32 * t + i))))).set 195 (kO 12 (mfs 0 li 0 cw cl 0 (nI (wn (32 * t + i))) pr (nI ms.length) us pi hu ba bo)))[195]? = some (kO 12 (mfs 0 li 0 cw cl 0 (nI (wn (32 * t + i))) pr (nI ms.length) us pi hu ba bo)) := get_set ((set_far (by decide)).trans hm1)
        have h72 : ((H1.set 197 (kB 1000 (cpy wb (wk (32 * t + i)) g1 0 (wn (32 * t + i))))).set 195 (kO 12 (mfs 0 li 0 cw cl 0 (nI (wn (32 * t + i))) pr (nI ms.length) us pi hu ba bo)))[197]? = some (kB 1000 (cpy wb (wk (32 * t + i)) g1 0 (wn (32 * t + i)))) := (set_far (by decide)).trans (get_set h71)
        have f2 : ∀ a, a ≠ 195 → a ≠ 197 → ((H1.set 197 (kB 1000 (cpy wb (wk (32 * t + i)) g1 0 (wn (32 * t + i))))).set 195 (kO 12 (mfs 0 li 0 cw cl 0 (nI (wn (32 * t + i))) pr (nI ms.length) us pi hu ba bo)))[a]? = H[a]? := fun a a1 a2 => (set_far a1).trans ((set_far a2).trans (f1 a a1 a2))
        generalize ((H1.set 197 (kB 1000 (cpy wb (wk (32 * t + i)) g1 0 (wn (32 * t + i))))).set 195 (kO 12 (mfs 0 li 0 cw cl 0 (nI (wn (32 * t + i))) pr (nI ms.length) us pi hu ba bo))) = H2 at hm2 h72 f2 ⊢
        refine RQ.blk 1 (pc' := 157) (lv' := [(4, .int (nI (32 * t + i) + 1)), (3, .int (nI l)), (0, .ref 196), (1, .int (nI t)), (2, .int 0)]) (st' := []) (H' := _) (kc' := 0) (ks' := 0) rfl ?_
        rw [show (nI (32 * t + i) + 1 : Int32) = nI (32 * t + i + 1) from nI_add (32 * t + i) 1]
        refine RQ.blk 1 (pc' := 79) (lv' := [(4, .int (nI (32 * t + i + 1))), (3, .int (nI l)), (0, .ref 196), (1, .int (nI t)), (2, .int 0)]) (st' := []) (H' := _) (kc' := 0) (ks' := 0) rfl ?_
        refine RQ.pick (a := [(4, .int (nI (32 * t + i + 1))), (3, .int (nI l)), (0, .ref 196), (1, .int (nI t)), (2, .int 0)]) [0, 1, 2, 3, 4] [4, 3, 0, 1, 2] rfl rfl (by decide) ?_
        have hsk2 : SkS (fun k => ∃ (j : Nat) (e : aE), j < (i + 1) ∧ ws[j]? = some e ∧ e.1 = k ∧ e.2 ≠ none) (sl tb 0 l) false (upC (sl tb 0 l) false cur e.1) := (hsk.add (key := e.1)).congr (fun k => ⟨fun h9 => by rcases h9 with ⟨j, e9, j1, j2, j3, j4⟩ | h9; exact ⟨j, e9, by omega, j2, j3, j4⟩; exact ⟨i, e, by omega, he, h9.symm, by rw [hev]; exact Option.some_ne_none _⟩, fun ⟨j, e9, j1, j2, j3, j4⟩ => by by_cases hji : j = i; rw [hji, he] at j2; rw [Option.some.inj j2]; exact Or.inr j3.symm; exact Or.inl ⟨j, e9, by omega, j2, j3, j4⟩⟩)
        rw [show upC (sl tb 0 l) false cur e.1 = some e.1 from if_pos hup] at hsk2
        exact ih (i + 1) H2 ⟨some e.1, _, by omega, hsk2, by show H2[195]? = some (kO 12 (mfs 0 li 0 cw cl 0 (nI e.1.length) pr (nI ms.length) us pi hu ba bo)); rw [← e2]; exact hm2, h72, by show sl _ 0 e.1.length = e.1; rw [← e2, sl_cpy, hkey], hk40, f2⟩ (by omega)
      · rw [if_neg hup]
        refine RQ.brT rfl rfl rfl (by decide) ?_
        refine RQ.blk 1 (pc' := 157) (lv' := [(4, .int (nI (32 * t + i) + 1)), (3, .int (nI l)), (0, .ref 196), (1, .int (nI t)), (2, .int 0)]) (st' := []) (H' := _) (kc' := 0) (ks' := 0) rfl ?_
        rw [show (nI (32 * t + i) + 1 : Int32) = nI (32 * t + i + 1) from nI_add (32 * t + i) 1]
        refine RQ.blk 1 (pc' := 79) (lv' := [(4, .int (nI (32 * t + i + 1))), (3, .int (nI l)), (0, .ref 196), (1, .int (nI t)), (2, .int 0)]) (st' := []) (H' := _) (kc' := 0) (ks' := 0) rfl ?_
        refine RQ.pick (a := [(4, .int (nI (32 * t + i + 1))), (3, .int (nI l)), (0, .ref 196), (1, .int (nI t)), (2, .int 0)]) [0, 1, 2, 3, 4] [4, 3, 0, 1, 2] rfl rfl (by decide) ?_
        have hsk2 : SkS (fun k => ∃ (j : Nat) (e : aE), j < (i + 1) ∧ ws[j]? = some e ∧ e.1 = k ∧ e.2 ≠ none) (sl tb 0 l) false (upC (sl tb 0 l) false cur e.1) := (hsk.add (key := e.1)).congr (fun k => ⟨fun h9 => by rcases h9 with ⟨j, e9, j1, j2, j3, j4⟩ | h9; exact ⟨j, e9, by omega, j2, j3, j4⟩; exact ⟨i, e, by omega, he, h9.symm, by rw [hev]; exact Option.some_ne_none _⟩, fun ⟨j, e9, j1, j2, j3, j4⟩ => by by_cases hji : j = i; rw [hji, he] at j2; rw [Option.some.inj j2]; exact Or.inr j3.symm; exact Or.inl ⟨j, e9, by omega, j2, j3, j4⟩⟩)
        rw [show upC (sl tb 0 l) false cur e.1 = cur from if_neg hup] at hsk2
        exact ih (i + 1) H1 ⟨cur, g1, by omega, hsk2, hm1, h71, hc1, hc2, f1⟩ (by omega)
  ·
    refine RQ.blk 4 (pc' := 85) (lv' := [(4, .int (nI (32 * t + i))), (3, .int (nI l)), (0, .ref 196), (1, .int (nI t)), (2, .int 0)]) (st' := [.int (32 * nI t), .int (nI (32 * t + i))]) (H' := _) (kc' := 0) (ks' := 0) rfl ?_
    rw [show (32 * nI t : Int32) = nI (32 * t) from pk_mul 32 t]
    refine RQ.blk 1 (pc' := 86) (lv' := [(4, .int (nI (32 * t + i))), (3, .int (nI l)), (0, .ref 196), (1, .int (nI t)), (2, .int 0)]) (st' := [.ref 196, .int (nI (32 * t)), .int (nI (32 * t + i))]) (H' := _) (kc' := 0) (ks' := 0) rfl ?_
    refine RQ.get (ci := 12) rfl hm1 rfl rfl ?_
    refine RQ.blk 1 (pc' := 90) (lv' := [(4, .int (nI (32 * t + i))), (3, .int (nI l)), (0, .ref 196), (1, .int (nI t)), (2, .int 0)]) (st' := [.int (nI t), .ref 208, .int (nI (32 * t)), .int (nI (32 * t + i))]) (H' := _) (kc' := 0) (ks' := 0) rfl ?_
    refine RQ.ialdN (j := t) rfl hR1.1 (by omega) (by decide) ?_
    rw [hro]
    refine RQ.blk 1 (pc' := 92) (lv' := [(4, .int (nI (32 * t + i))), (3, .int (nI l)), (0, .ref 196), (1, .int (nI t)), (2, .int 0)]) (st' := [.int (nI (32 * t) + nI ws.length), .int (nI (32 * t + i))]) (H' := _) (kc' := 0) (ks' := 0) rfl ?_
    rw [show (nI (32 * t) + nI ws.length : Int32) = nI (32 * t + ws.length) from nI_add (32 * t) ws.length]
    refine RQ.brT rfl rfl rfl (cT_ge (32 * t + i) (32 * t + ws.length)) ?_
    refine RQ.blk 2 (pc' := 163) (lv' := [(4, .int 0), (3, .int (nI l)), (0, .ref 196), (1, .int (nI t)), (2, .int 0)]) (st' := []) (H' := _) (kc' := 0) (ks' := 0) rfl ?_
    refine RQ.pick (a := [(4, .int 0), (3, .int (nI l)), (0, .ref 196), (1, .int (nI t)), (2, .int 0)]) [0, 1, 2, 3, 4] [4, 3, 0, 1, 2] rfl rfl (by decide) ?_
    have hie : i = ws.length := by omega
    rw [hie] at hsk
    clear ih
    refine RQ.while (S := Nat) (pc := 163) (fun v H' => ∃ (cur : Option (List Nat)) (g0 : Nat → Int8), v ≤ ms.length ∧ SkS (fun k => (∃ (j : Nat) (e : aE), j < ws.length ∧ ws[j]? = some e ∧ e.1 = k ∧ e.2 ≠ none) ∨ ∃ (j : Nat) (w : aMV), j < v ∧ ms[j]? = some w ∧ w.1 = k ∧ getW ws (lookM ms k (se t)) k ≠ none) (sl tb 0 l) false cur ∧ H'[195]? = some (kO 12 (mfs 0 li 0 cw cl 0 (lI (cur.map List.length)) pr (nI ms.length) us pi hu ba bo)) ∧ H'[197]? = some (kB 1000 g0) ∧ sl g0 0 (cur.getD []).length = cur.getD [] ∧ (cur.getD []).length ≤ 40 ∧ ∀ a, a ≠ 195 → a ≠ 197 → H'[a]? = H[a]?) (fun v => [(4, .int (nI v)), (3, .int (nI l)), (0, .ref 196), (1, .int (nI t)), (2, .int 0)]) (fun v => ms.length - v) ?_ 0 H1 ⟨cur, g1, Nat.zero_le _, hsk.congr (fun k => ⟨Or.inl, fun h9 => by rcases h9 with h9 | ⟨j, w, j1, _⟩; exact h9; exact absurd j1 (Nat.not_lt_zero _)⟩), hm1, h71, hc1, hc2, f1⟩
    clear hsk hm1 h71 hc1 hc2 f1 hMV1 hR1 h61 hil hi hie
    rintro v H1 ⟨cur, g1, hv, hsk, hm1, h71, hc1, hc2, f1⟩ ih
    have hMV1 := h.far (H' := H1) (fun a a1 a2 => f1 a (by omega) (by omega)) (f1 ba (by omega) (by omega))
    have hR1 := hR.far (H' := H1) (fun a a1 a2 => f1 a (by omega) (by omega))
    have h61 := (f1 196 (by decide) (by decide)).trans h196
    by_cases hvl : v < ms.length
    ·
      obtain ⟨w, hw⟩ := lt_get hvl
      obtain ⟨k1, k2, k3, k4⟩ := hl.key hw
      have hk_v := (hl.ok hk).2 v hvl
      have hk40 := hmk w (List.mem_of_getElem? hw)
      refine RQ.blk 2 (pc' := 166) (lv' := [(4, .int (nI v)), (3, .int (nI l)), (0, .ref 196), (1, .int (nI t)), (2, .int 0)]) (st' := [.ref 196, .int (nI v)]) (H' := _) (kc' := 0) (ks' := 0) rfl ?_
      refine RQ.get (ci := 12) rfl hm1 rfl rfl ?_
      refine RQ.brF rfl rfl rfl (cF_ge v ms.length) ?_
      refine RQ.blk 2 (pc' := 174) (lv' := [(4, .int (nI v)), (3, .int (nI l)), (0, .ref 196), (1, .int (nI t)), (2, .int 0)]) (st' := [.ref 196, .ref 196]) (H' := _) (kc' := 0) (ks' := 0) rfl ?_
      refine RQ.get (ci := 12) rfl hm1 rfl rfl ?_
      refine RQ.blk 1 (pc' := 178) (lv' := [(4, .int (nI v)), (3, .int (nI l)), (0, .ref 196), (1, .int (nI t)), (2, .int 0)]) (st' := [.ref 196, .ref (ba + 1), .ref 196]) (H' := _) (kc' := 0) (ks' := 0) rfl ?_
      refine RQ.get (ci := 12) rfl hm1 rfl rfl ?_
      refine RQ.blk 1 (pc' := 183) (lv' := [(4, .int (nI v)), (3, .int (nI l)), (0, .ref 196), (1, .int (nI t)), (2, .int 0)]) (st' := [.int (nI v), .ref 199, .ref (ba + 1), .ref 196]) (H' := _) (kc' := 0) (ks' := 0) rfl ?_
      refine RQ.ialdN (j := v) rfl hMV1.1 (by omega) (by decide) ?_
      refine RQ.blk 1 (pc' := 185) (lv' := [(4, .int (nI v)), (3, .int (nI l)), (0, .ref 196), (1, .int (nI t)), (2, .int 0)]) (st' := [.ref 196, .int (nI (ko v)), .ref (ba + 1), .ref 196]) (H' := _) (kc' := 0) (ks' := 0) rfl ?_
      refine RQ.get (ci := 12) rfl hm1 rfl rfl ?_
      refine RQ.blk 1 (pc' := 190) (lv' := [(4, .int (nI v)), (3, .int (nI l)), (0, .ref 196), (1, .int (nI t)), (2, .int 0)]) (st' := [.int (nI v), .ref 200, .int (nI (ko v)), .ref (ba + 1), .ref 196]) (H' := _) (kc' := 0) (ks' := 0) rfl ?_
      refine RQ.ialdN (j := v) rfl hMV1.2.1 (by omega) (by decide) ?_
      refine RQ.blk 2 (pc' := 193) (lv' := [(4, .int (nI v)), (3, .int (nI l)), (0, .ref 196), (1, .int (nI t)), (2, .int 0)]) (st' := [.int 0, .int (nI l), .int (nI (kn v)), .int (nI (ko v)), .ref (ba + 1), .ref 196]) (H' := _) (kc' := 0) (ks' := 0) rfl ?_
      refine RQ.call (v := some (.int (if upB (sl tb 0 l) false cur (sl bf (ko v) (kn v)) = true then 1 else 0))) (st' := []) rfl rfl rfl rfl rfl rfl (args_v [.int 0, .int (nI l), .int (nI (kn v)), .int (nI (ko v)), .ref (ba + 1)] [] rfl rfl (Nat.le_of_ble_eq_true rfl) rfl hm1 (Nat.le_of_ble_eq_true rfl)) (rc_better0 (a := ba) (na := 48000) (j := ko v) (n := kn v) (l := l) hm1 h71 hc1 (by omega) h61 hl2 hMV1.2.2.2.2.2 (by decide) (by omega)) ?_
      rw [k1]
      by_cases hup : upB (sl tb 0 l) false cur w.1 = true
      · rw [if_pos hup]
        refine RQ.brT rfl rfl rfl (by decide) ?_
        refine RQ.blk 3 (pc' := 205) (lv' := [(4, .int (nI v)), (3, .int (nI l)), (0, .ref 196), (1, .int (nI t)), (2, .int 0)]) (st' := [.ref 196, .int (nI t), .ref 196]) (H' := _) (kc' := 0) (ks' := 0) rfl ?_
        refine RQ.get (ci := 12) rfl hm1 rfl rfl ?_
        refine RQ.blk 1 (pc' := 209) (lv' := [(4, .int (nI v)), (3, .int (nI l)), (0, .ref 196), (1, .int (nI t)), (2, .int 0)]) (st' := [.ref 196, .ref (ba + 1), .int (nI t), .ref 196]) (H' := _) (kc' := 0) (ks' := 0) rfl ?_
        refine RQ.get (ci := 12) rfl hm1 rfl rfl ?_
        refine RQ.blk 1 (pc' := 214) (lv' := [(4, .int (nI v)), (3, .int (nI l)), (0, .ref 196), (1, .int (nI t)), (2, .int 0)]) (st' := [.int (nI v), .ref 199, .ref (ba + 1), .int (nI t), .ref 196]) (H' := _) (kc' := 0) (ks' := 0) rfl ?_
        refine RQ.ialdN (j := v) rfl hMV1.1 (by omega) (by decide) ?_
        refine RQ.blk 1 (pc' := 216) (lv' := [(4, .int (nI v)), (3, .int (nI l)), (0, .ref 196), (1, .int (nI t)), (2, .int 0)]) (st' := [.ref 196, .int (nI (ko v)), .ref (ba + 1), .int (nI t), .ref 196]) (H' := _) (kc' := 0) (ks' := 0) rfl ?_
        refine RQ.get (ci := 12) rfl hm1 rfl rfl ?_
        refine RQ.blk 1 (pc' := 221) (lv' := [(4, .int (nI v)), (3, .int (nI l)), (0, .ref 196), (1, .int (nI t)), (2, .int 0)]) (st' := [.int (nI v), .ref 200, .int (nI (ko v)), .ref (ba + 1), .int (nI t), .ref 196]) (H' := _) (kc' := 0) (ks' := 0) rfl ?_
        refine RQ.ialdN (j := v) rfl hMV1.2.1 (by omega) (by decide) ?_
        refine RQ.blk 1 (pc' := 223) (lv' := [(4, .int (nI v)), (3, .int (nI l)), (0, .ref 196), (1, .int (nI t)), (2, .int 0)]) (st' := [.int 0, .int (nI (kn v)), .int (nI (ko v)), .ref (ba + 1), .int (nI t), .ref 196]) (H' := _) (kc' := 0) (ks' := 0) rfl ?_
        refine RQ.callI (st' := []) rfl rfl rfl rfl rfl rfl (args_v [.int 0, .int (nI (kn v)), .int (nI (ko v)), .ref (ba + 1), .int (nI t)] [] rfl rfl (Nat.le_of_ble_eq_true rfl) rfl hm1 (Nat.le_of_ble_eq_true rfl)) (ri_tell0 (a := ba) (na := 48000) (j := ko v) (m := kn v) hm1 hMV1 hl hk hba hR1 hT ht ((f1 206 (by decide) (by decide)).trans h6) hse hMV1.2.2.2.2.2 (by decide) (by omega) h71 h1M hws hms) (fun y H3 hy => ?_)
        obtain ⟨rv, er, ey, eH3⟩ := hy
        rw [eH3]
        rw [k1] at er
        rw [ey]
        cases rv with
        | none =>
          show RQ _ _ _ _ _ [.int (-1)] _ _ _ _
          refine RQ.brT rfl rfl rfl (by decide) ?_
          refine RQ.blk 1 (pc' := 254) (lv' := [(4, .int (nI v + 1)), (3, .int (nI l)), (0, .ref 196), (1, .int (nI t)), (2, .int 0)]) (st' := []) (H' := _) (kc' := 0) (ks' := 0) rfl ?_
          rw [show (nI v + 1 : Int32) = nI (v + 1) from nI_add v 1]
          refine RQ.blk 1 (pc' := 163) (lv' := [(4, .int (nI (v + 1))), (3, .int (nI l)), (0, .ref 196), (1, .int (nI t)), (2, .int 0)]) (st' := []) (H' := _) (kc' := 0) (ks' := 0) rfl ?_
          refine RQ.pick (a := [(4, .int (nI (v + 1))), (3, .int (nI l)), (0, .ref 196), (1, .int (nI t)), (2, .int 0)]) [0, 1, 2, 3, 4] [4, 3, 0, 1, 2] rfl rfl (by decide) ?_
          have hvis : SkS (fun k => (∃ (j : Nat) (e : aE), j < ws.length ∧ ws[j]? = some e ∧ e.1 = k ∧ e.2 ≠ none) ∨ ∃ (j : Nat) (w : aMV), j < (v + 1) ∧ ms[j]? = some w ∧ w.1 = k ∧ getW ws (lookM ms k (se t)) k ≠ none) (sl tb 0 l) false cur := hsk.congr (fun k => ⟨fun h9 => by
            rcases h9 with h9 | ⟨j, w9, j1, j2, j3, j4⟩
            · exact Or.inl h9
            · exact Or.inr ⟨j, w9, by omega, j2, j3, j4⟩, fun h9 => by
            rcases h9 with h9 | ⟨j, w9, j1, j2, j3, j4⟩
            · exact Or.inl h9
            · by_cases hjv : j = v
              · rw [hjv, hw] at j2
                rw [← Option.some.inj j2] at j3
                rw [← j3] at j4
                exact absurd er.symm j4
              · exact Or.inr ⟨j, w9, by omega, j2, j3, j4⟩⟩)
          exact ih (v + 1) H1 ⟨cur, g1, by omega, hvis, hm1, h71, hc1, hc2, f1⟩ (by omega)
        | some x =>
          show RQ _ _ _ _ _ [.int (nI x.length)] _ _ _ _
          have hx31 : x.length < 2 ^ 31 := getW_len hws hms er.symm
          refine RQ.brF rfl rfl rfl (cF_lt x.length 0) ?_
          refine RQ.blk 2 (pc' := 231) (lv' := [(4, .int (nI v)), (3, .int (nI l)), (0, .ref 196), (1, .int (nI t)), (2, .int 0)]) (st' := [.ref 196, .ref 196]) (H' := _) (kc' := 0) (ks' := 0) rfl ?_
          refine RQ.get (ci := 12) rfl hm1 rfl rfl ?_
          refine RQ.blk 1 (pc' := 235) (lv' := [(4, .int (nI v)), (3, .int (nI l)), (0, .ref 196), (1, .int (nI t)), (2, .int 0)]) (st' := [.ref 196, .ref (ba + 1), .ref 196]) (H' := _) (kc' := 0) (ks' := 0) rfl ?_
          refine RQ.get (ci := 12) rfl hm1 rfl rfl ?_
          refine RQ.blk 1 (pc' := 240) (lv' := [(4, .int (nI v)), (3, .int (nI l)), (0, .ref 196), (1, .int (nI t)), (2, .int 0)]) (st' := [.int (nI v), .ref 199, .ref (ba + 1), .ref 196]) (H' := _) (kc' := 0) (ks' := 0) rfl ?_
          refine RQ.ialdN (j := v) rfl hMV1.1 (by omega) (by decide) ?_
          refine RQ.blk 1 (pc' := 242) (lv' := [(4, .int (nI v)), (3, .int (nI l)), (0, .ref 196), (1, .int (nI t)), (2, .int 0)]) (st' := [.ref 196, .int (nI (ko v)), .ref (ba + 1), .ref 196]) (H' := _) (kc' := 0) (ks' := 0) rfl ?_
          refine RQ.get (ci := 12) rfl hm1 rfl rfl ?_
          refine RQ.blk 1 (pc' := 247) (lv' := [(4, .int (nI v)), (3, .int (nI l)), (0, .ref 196), (1, .int (nI t)), (2, .int 0)]) (st' := [.int (nI v), .ref 200, .int (nI (ko v)), .ref (ba + 1), .ref 196]) (H' := _) (kc' := 0) (ks' := 0) rfl ?_
          refine RQ.ialdN (j := v) rfl hMV1.2.1 (by omega) (by decide) ?_
          refine RQ.call (v := none) (st' := []) rfl rfl rfl rfl rfl rfl (args_v [.int (nI (kn v)), .int (nI (ko v)), .ref (ba + 1)] [] rfl rfl (Nat.le_of_ble_eq_true rfl) rfl hm1 (Nat.le_of_ble_eq_true rfl)) (rc_mtake (a := ba) (na := 48000) (j := ko v) (n := kn v) hm1 h71 hMV1.2.2.2.2.2 (by omega) (by omega) (by decide) (by omega) (by omega)) ?_
          have hm2 : ((H1.set 197 (kB 1000 (cpy bf (ko v) g1 0 (kn v)))).set 195 (kO 12 (mfs 0 li 0 cw cl 0 (nI (kn v)) pr (nI ms.length) us pi hu ba bo)))[195]? = some (kO 12 (mfs 0 li 0 cw cl 0 (nI (kn v)) pr (nI ms.length) us pi hu ba bo)) := get_set ((set_far (by decide)).trans hm1)
          have h72 : ((H1.set 197 (kB 1000 (cpy bf (ko v) g1 0 (kn v)))).set 195 (kO 12 (mfs 0 li 0 cw cl 0 (nI (kn v)) pr (nI ms.length) us pi hu ba bo)))[197]? = some (kB 1000 (cpy bf (ko v) g1 0 (kn v))) := (set_far (by decide)).trans (get_set h71)
          have f2 : ∀ a, a ≠ 195 → a ≠ 197 → ((H1.set 197 (kB 1000 (cpy bf (ko v) g1 0 (kn v)))).set 195 (kO 12 (mfs 0 li 0 cw cl 0 (nI (kn v)) pr (nI ms.length) us pi hu ba bo)))[a]? = H[a]? := fun a a1 a2 => (set_far a1).trans ((set_far a2).trans (f1 a a1 a2))
          generalize ((H1.set 197 (kB 1000 (cpy bf (ko v) g1 0 (kn v)))).set 195 (kO 12 (mfs 0 li 0 cw cl 0 (nI (kn v)) pr (nI ms.length) us pi hu ba bo))) = H2 at hm2 h72 f2 ⊢
          refine RQ.blk 1 (pc' := 254) (lv' := [(4, .int (nI v + 1)), (3, .int (nI l)), (0, .ref 196), (1, .int (nI t)), (2, .int 0)]) (st' := []) (H' := _) (kc' := 0) (ks' := 0) rfl ?_
          rw [show (nI v + 1 : Int32) = nI (v + 1) from nI_add v 1]
          refine RQ.blk 1 (pc' := 163) (lv' := [(4, .int (nI (v + 1))), (3, .int (nI l)), (0, .ref 196), (1, .int (nI t)), (2, .int 0)]) (st' := []) (H' := _) (kc' := 0) (ks' := 0) rfl ?_
          refine RQ.pick (a := [(4, .int (nI (v + 1))), (3, .int (nI l)), (0, .ref 196), (1, .int (nI t)), (2, .int 0)]) [0, 1, 2, 3, 4] [4, 3, 0, 1, 2] rfl rfl (by decide) ?_
          have hvis : SkS (fun k => (∃ (j : Nat) (e : aE), j < ws.length ∧ ws[j]? = some e ∧ e.1 = k ∧ e.2 ≠ none) ∨ ∃ (j : Nat) (w : aMV), j < (v + 1) ∧ ms[j]? = some w ∧ w.1 = k ∧ getW ws (lookM ms k (se t)) k ≠ none) (sl tb 0 l) false (if getW ws (lookM ms w.1 (se t)) w.1 ≠ none then upC (sl tb 0 l) false cur w.1 else cur) := by
            split
            · rename_i hgw
              exact (hsk.add (key := w.1)).congr (fun k => ⟨fun h9 => by
                rcases h9 with (h9 | ⟨j, w9, j1, j2, j3, j4⟩) | h9
                · exact Or.inl h9
                · exact Or.inr ⟨j, w9, by omega, j2, j3, j4⟩
                · exact Or.inr ⟨v, w, by omega, hw, h9.symm, by rw [h9]; exact hgw⟩, fun h9 => by
                rcases h9 with h9 | ⟨j, w9, j1, j2, j3, j4⟩
                · exact Or.inl (Or.inl h9)
                · by_cases hjv : j = v
                  · rw [hjv, hw] at j2
                    rw [← Option.some.inj j2] at j3
                    exact Or.inr j3.symm
                  · exact Or.inl (Or.inr ⟨j, w9, by omega, j2, j3, j4⟩)⟩)
            · rename_i hgw
              exact hsk.congr (fun k => ⟨fun h9 => by
                rcases h9 with h9 | ⟨j, w9, j1, j2, j3, j4⟩
                · exact Or.inl h9
                · exact Or.inr ⟨j, w9, by omega, j2, j3, j4⟩, fun h9 => by
                rcases h9 with h9 | ⟨j, w9, j1, j2, j3, j4⟩
                · exact Or.inl h9
                · by_cases hjv : j = v
                  · rw [hjv, hw] at j2
                    rw [← Option.some.inj j2] at j3
                    rw [← j3] at j4
                    exact absurd j4 hgw
                  · exact Or.inr ⟨j, w9, by omega, j2, j3, j4⟩⟩)
          rw [if_pos (by rw [← er]; exact Option.some_ne_none _), show upC (sl tb 0 l) false cur w.1 = some w.1 from if_pos hup] at hvis
          exact ih (v + 1) H2 ⟨some w.1, _, by omega, hvis, by show H2[195]? = some (kO 12 (mfs 0 li 0 cw cl 0 (nI w.1.length) pr (nI ms.length) us pi hu ba bo)); rw [← k2]; exact hm2, h72, by show sl _ 0 w.1.length = w.1; rw [← k2, sl_cpy, k1], hk40, f2⟩ (by omega)
      · rw [if_neg hup]
        refine RQ.brF rfl rfl rfl (by decide) ?_
        refine RQ.blk 2 (pc' := 254) (lv' := [(4, .int (nI v + 1)), (3, .int (nI l)), (0, .ref 196), (1, .int (nI t)), (2, .int 0)]) (st' := []) (H' := _) (kc' := 0) (ks' := 0) rfl ?_
        rw [show (nI v + 1 : Int32) = nI (v + 1) from nI_add v 1]
        refine RQ.blk 1 (pc' := 163) (lv' := [(4, .int (nI (v + 1))), (3, .int (nI l)), (0, .ref 196), (1, .int (nI t)), (2, .int 0)]) (st' := []) (H' := _) (kc' := 0) (ks' := 0) rfl ?_
        refine RQ.pick (a := [(4, .int (nI (v + 1))), (3, .int (nI l)), (0, .ref 196), (1, .int (nI t)), (2, .int 0)]) [0, 1, 2, 3, 4] [4, 3, 0, 1, 2] rfl rfl (by decide) ?_
        have hvis : SkS (fun k => (∃ (j : Nat) (e : aE), j < ws.length ∧ ws[j]? = some e ∧ e.1 = k ∧ e.2 ≠ none) ∨ ∃ (j : Nat) (w : aMV), j < (v + 1) ∧ ms[j]? = some w ∧ w.1 = k ∧ getW ws (lookM ms k (se t)) k ≠ none) (sl tb 0 l) false (if getW ws (lookM ms w.1 (se t)) w.1 ≠ none then upC (sl tb 0 l) false cur w.1 else cur) := by
          split
          · rename_i hgw
            exact (hsk.add (key := w.1)).congr (fun k => ⟨fun h9 => by
              rcases h9 with (h9 | ⟨j, w9, j1, j2, j3, j4⟩) | h9
              · exact Or.inl h9
              · exact Or.inr ⟨j, w9, by omega, j2, j3, j4⟩
              · exact Or.inr ⟨v, w, by omega, hw, h9.symm, by rw [h9]; exact hgw⟩, fun h9 => by
              rcases h9 with h9 | ⟨j, w9, j1, j2, j3, j4⟩
              · exact Or.inl (Or.inl h9)
              · by_cases hjv : j = v
                · rw [hjv, hw] at j2
                  rw [← Option.some.inj j2] at j3
                  exact Or.inr j3.symm
                · exact Or.inl (Or.inr ⟨j, w9, by omega, j2, j3, j4⟩)⟩)
          · rename_i hgw
            exact hsk.congr (fun k => ⟨fun h9 => by
              rcases h9 with h9 | ⟨j, w9, j1, j2, j3, j4⟩
              · exact Or.inl h9
              · exact Or.inr ⟨j, w9, by omega, j2, j3, j4⟩, fun h9 => by
              rcases h9 with h9 | ⟨j, w9, j1, j2, j3, j4⟩
              · exact Or.inl h9
              · by_cases hjv : j = v
                · rw [hjv, hw] at j2
                  rw [← Option.some.inj j2] at j3
                  rw [← j3] at j4
                  exact absurd j4 hgw
                · exact Or.inr ⟨j, w9, by omega, j2, j3, j4⟩⟩)
        have hcu : (if getW ws (lookM ms w.1 (se t)) w.1 ≠ none then upC (sl tb 0 l) false cur w.1 else cur) = cur := by split; exact if_neg hup; rfl
        rw [hcu] at hvis
        exact ih (v + 1) H1 ⟨cur, g1, by omega, hvis, hm1, h71, hc1, hc2, f1⟩ (by omega)
    ·
      have hve : v = ms.length := by omega
      rw [hve] at hsk
      have hfin : SkS (fun k => getW ws (lookM ms k (se t)) k ≠ none) (sl tb 0 l) false cur := hsk.congr (fun k => vis_iff h1W k)
      refine RQ.blk 2 (pc' := 166) (lv' := [(4, .int (nI v)), (3, .int (nI l)), (0, .ref 196), (1, .int (nI t)), (2, .int 0)]) (st' := [.ref 196, .int (nI v)]) (H' := _) (kc' := 0) (ks' := 0) rfl ?_
      refine RQ.get (ci := 12) rfl hm1 rfl rfl ?_
      refine RQ.brT rfl rfl rfl (cT_ge v ms.length) ?_
      refine RQ.blk 1 (pc' := 258) (lv' := [(4, .int (nI v)), (3, .int (nI l)), (0, .ref 196), (1, .int (nI t)), (2, .int 0)]) (st' := [.ref 196]) (H' := _) (kc' := 0) (ks' := 0) rfl ?_
      refine RQ.get (ci := 12) rfl hm1 rfl rfl ?_
      cases cur with
      | none =>
        show RQ _ _ _ _ _ [.int (-1)] _ _ _ _
        refine RQ.brT rfl rfl rfl (by decide) ?_
        refine RQ.blk 2 (pc' := 271) (lv' := [(4, .int (nI v)), (3, .int (nI l)), (0, .ref 196), (1, .int (nI t)), (2, .int 0)]) (st' := [.int 0, .ref 196]) (H' := _) (kc' := 0) (ks' := 0) rfl ?_
        refine RQ.put (ci := 12) rfl hm1 rfl rfl (Nat.le_of_ble_eq_true rfl) ?_
        refine RQ.blk 1 (pc' := 275) (lv' := [(4, .int (nI v)), (3, .int (nI l)), (0, .ref 196), (1, .int (nI t)), (2, .int 0)]) (st' := [.int (-1)]) (H' := _) (kc' := 0) (ks' := 0) rfl ?_
        exact RQ.done (c := 0) (s := 0) rfl rfl rfl rfl ⟨_, _, rfl, none, hfin, rfl, get_set hm1, ⟨g1, (set_far (by decide)).trans h71, rfl, Nat.zero_le _⟩, fun a a1 a2 => (set_far a1).trans (f1 a a1 a2)⟩
      | some c =>
        show RQ _ _ _ _ _ [.int (nI c.length)] _ _ _ _
        have hc40 : c.length ≤ 40 := hc2
        refine RQ.brF rfl rfl rfl (cF_lt c.length 0) ?_
        refine RQ.blk 1 (pc' := 265) (lv' := [(4, .int (nI v)), (3, .int (nI l)), (0, .ref 196), (1, .int (nI t)), (2, .int 0)]) (st' := [.ref 196]) (H' := _) (kc' := 0) (ks' := 0) rfl ?_
        refine RQ.get (ci := 12) rfl hm1 rfl rfl ?_
        exact RQ.done (c := 0) (s := 0) rfl rfl rfl rfl ⟨_, _, rfl, some c, hfin, rfl, hm1, ⟨g1, h71, hc1, by show c.length ≤ 1000; omega⟩, f1⟩
set_option maxRecDepth 20000 in
theorem ri_mseek1 {sc : Nat × (Nat → Int32)} {d t l : Nat} {H : aH} {op : Nat → Bool} {rs : Int32} {fa li cw cl pr us pi hu : Int32} {ba bo : Nat} {bf : Nat → Int8} {ko kn vo : Nat → Nat} {vz : Nat → Option Nat} {vm : Nat → Nat} {ms : List aMV} {ro fi wk wn : Nat → Nat} {wz : Nat → Option Nat} {wb : Nat → Int8} {se : Nat → Nat} {ws : List aE} {g0 tb : Nat → Int8} (hm : H[195]? = some (kO 12 (mfs fa li 0 cw cl (nI l) rs pr (nI ms.length) us pi hu ba bo))) (h : MVAt H ba bf ko kn vo vz vm) (hl : MVLay bf ko kn vo vz vm ms) (hk : MSOk ms) (hba : ba = 203 ∨ ba = 204) (hR : MRAt H ro fi wk wn wz wb) (hT : TxL ro fi wk wn wz wb t ws) (ht : t < 8) (h6 : H[206]? = some (kI 8 (fun j => nI (se j)))) (hse : se t < 2 ^ 31) (h196 : H[196]? = some (kB 2000 tb)) (h205 : H[205]? = some (kZ 8 op)) (hop : op t = true) (hl2 : l ≤ 40) (h197 : H[197]? = some (kB 1000 g0)) (h1M : OneM ms) (h1W : OneW ws) (hws : ∀ e ∈ ws, (e.2.getD []).length ≤ 1000) (hms : ∀ w ∈ ms, (w.2.2.getD []).length ≤ 1000) (hwk : ∀ e ∈ ws, e.1.length ≤ 40) (hmk : ∀ w ∈ ms, w.1.length ≤ 40) : RI sc (d + 3) mr_292 [.ref 196, .int (nI t), .int 1] H (fun x H' => ∃ rv : Option (List Nat), SkS (fun k => getW ws (lookM ms k (se t)) k ≠ none) (sl tb 0 l) true rv ∧ x = lI (rv.map List.length) ∧ H'[195]? = some (kO 12 (mfs 0 li 0 cw cl 0 (nI (rv.getD []).length) pr (nI ms.length) us pi hu ba bo)) ∧ (∃ g', H'[197]? = some (kB 1000 g') ∧ sl g' 0 (rv.getD []).length = rv.getD [] ∧ (rv.getD []).length ≤ 1000) ∧ ∀ a, a ≠ 195 → a ≠ 197 → H'[a]? = H[a]?) := by
  have hlen := hT.2.2.1
  have hro := hT.1
  have hn15 := hk.1
  refine RI.of ?_
  refine RQ.blk 2 (pc' := 2) (lv' := [(0, .ref 196), (1, .int (nI t)), (2, .int 1)]) (st' := [.int 0, .ref 196]) (H' := _) (kc' := 0) (ks' := 0) rfl ?_
  refine RQ.put (ci := 12) rfl hm rfl rfl (Nat.le_of_ble_eq_true rfl) ?_
  refine RQ.blk 3 (pc' := 9) (lv' := [(0, .ref 196), (1, .int (nI t)), (2, .int 1)]) (st' := [.int 8, .int (nI t), .ref 196]) (H' := _) (kc' := 0) (ks' := 0) rfl ?_
  refine RQ.call (v := some (.int 0)) (st' := []) rfl rfl rfl rfl rfl rfl (args_v [.int 8, .int (nI t)] [] rfl rfl (Nat.le_of_ble_eq_true rfl) rfl (get_set hm) (Nat.le_of_ble_eq_true rfl)) (rc_out ht (by decide)) ?_
  refine RQ.brF rfl rfl rfl (by decide) ?_
  refine RQ.blk 1 (pc' := 16) (lv' := [(0, .ref 196), (1, .int (nI t)), (2, .int 1)]) (st' := [.ref 196]) (H' := _) (kc' := 0) (ks' := 0) rfl ?_
  refine RQ.get (ci := 12) rfl (get_set hm) rfl rfl ?_
  refine RQ.blk 1 (pc' := 21) (lv' := [(0, .ref 196), (1, .int (nI t)), (2, .int 1)]) (st' := [.int 40, .int (nI l)]) (H' := _) (kc' := 0) (ks' := 0) rfl ?_
  refine RQ.brT rfl rfl rfl (cT_le l 40) ?_
  refine RQ.blk 1 (pc' := 31) (lv' := [(0, .ref 196), (1, .int (nI t)), (2, .int 1)]) (st' := [.ref 196]) (H' := _) (kc' := 0) (ks' := 0) rfl ?_
  refine RQ.get (ci := 12) rfl (get_set hm) rfl rfl ?_
  refine RQ.brT rfl rfl rfl (by decide) ?_
  refine RQ.blk 1 (pc' := 44) (lv' := [(0, .ref 196), (1, .int (nI t)), (2, .int 1)]) (st' := [.ref 196]) (H' := _) (kc' := 0) (ks' := 0) rfl ?_
  refine RQ.get (ci := 12) rfl (get_set hm) rfl rfl ?_
  refine RQ.blk 3 (pc' := 50) (lv' := [(3, .int (nI l)), (0, .ref 196), (1, .int (nI t)), (2, .int 1)]) (st' := [.int 0, .ref 196]) (H' := _) (kc' := 0) (ks' := 0) rfl ?_
  refine RQ.put (ci := 12) rfl (get_set hm) rfl rfl (Nat.le_of_ble_eq_true rfl) ?_
  refine RQ.blk 1 (pc' := 54) (lv' := [(3, .int (nI l)), (0, .ref 196), (1, .int (nI t)), (2, .int 1)]) (st' := [.ref 196]) (H' := _) (kc' := 0) (ks' := 0) rfl ?_
  refine RQ.get (ci := 12) rfl (get_set (get_set hm)) rfl rfl ?_
  refine RQ.blk 1 (pc' := 58) (lv' := [(3, .int (nI l)), (0, .ref 196), (1, .int (nI t)), (2, .int 1)]) (st' := [.int (nI t), .ref 206]) (H' := _) (kc' := 0) (ks' := 0) rfl ?_
  refine RQ.zaldN (j := t) rfl ((set_far (by decide)).trans ((set_far (by decide)).trans h205)) (by omega) (by decide) ?_
  rw [hop]
  refine RQ.brT rfl rfl rfl (by decide) ?_
  refine RQ.blk 2 (pc' := 70) (lv' := [(3, .int (nI l)), (0, .ref 196), (1, .int (nI t)), (2, .int 1)]) (st' := [.int (-1), .ref 196]) (H' := _) (kc' := 0) (ks' := 0) rfl ?_
  refine RQ.put (ci := 12) rfl (get_set (get_set hm)) rfl rfl (Nat.le_of_ble_eq_true rfl) ?_
  rw [set_set, set_set]
  show RQ _ _ _ _ _ _ (H.set 195 (kO 12 (mfs 0 li 0 cw cl 0 (-1) pr (nI ms.length) us pi hu ba bo))) _ _ _
  have far0 : ∀ a, a ≠ 195 → (H.set 195 (kO 12 (mfs 0 li 0 cw cl 0 (-1) pr (nI ms.length) us pi hu ba bo)))[a]? = H[a]? := fun a ha => set_far ha
  have hm0 : (H.set 195 (kO 12 (mfs 0 li 0 cw cl 0 (-1) pr (nI ms.length) us pi hu ba bo)))[195]? = some (kO 12 (mfs 0 li 0 cw cl 0 (-1) pr (nI ms.length) us pi hu ba bo)) := get_set hm
  generalize (H.set 195 (kO 12 (mfs 0 li 0 cw cl 0 (-1) pr (nI ms.length) us pi hu ba bo))) = H0 at far0 hm0 ⊢
  refine RQ.blk 3 (pc' := 77) (lv' := [(3, .int (nI l)), (0, .ref 196), (1, .int (nI t)), (2, .int 1)]) (st' := [.int (32 * nI t)]) (H' := _) (kc' := 0) (ks' := 0) rfl ?_
  rw [show (32 * nI t : Int32) = nI (32 * t) from pk_mul 32 t]
  refine RQ.blk 1 (pc' := 79) (lv' := [(4, .int (nI (32 * t))), (3, .int (nI l)), (0, .ref 196), (1, .int (nI t)), (2, .int 1)]) (st' := []) (H' := _) (kc' := 0) (ks' := 0) rfl ?_
  skip
  refine RQ.pick (a := [(4, .int (nI (32 * t))), (3, .int (nI l)), (0, .ref 196), (1, .int (nI t)), (2, .int 1)]) [0, 1, 2, 3, 4] [4, 3, 0, 1, 2] rfl rfl (by decide) ?_
  refine RQ.while (S := Nat) (pc := 79) (fun i H' => ∃ (cur : Option (List Nat)) (g0 : Nat → Int8), i ≤ ws.length ∧ SkS (fun k => ∃ (j : Nat) (e : aE), j < i ∧ ws[j]? = some e ∧ e.1 = k ∧ e.2 ≠ none) (sl tb 0 l) true cur ∧ H'[195]? = some (kO 12 (mfs 0 li 0 cw cl 0 (lI (cur.map List.length)) pr (nI ms.length) us pi hu ba bo)) ∧ H'[197]? = some (kB 1000 g0) ∧ sl g0 0 (cur.getD []).length = cur.getD [] ∧ (cur.getD []).length ≤ 40 ∧ ∀ a, a ≠ 195 → a ≠ 197 → H'[a]? = H[a]?) (fun i => [(4, .int (nI (32 * t + i))), (3, .int (nI l)), (0, .ref 196), (1, .int (nI t)), (2, .int 1)]) (fun i => ws.length - i) ?_ 0 H0 ⟨none, g0, Nat.zero_le _, fun k ⟨j, e, hj, _⟩ => absurd hj (Nat.not_lt_zero _), hm0, (far0 197 (by decide)).trans h197, rfl, Nat.zero_le _, fun a a1 a2 => far0 a a1⟩
  rintro i H1 ⟨cur, g1, hi, hsk, hm1, h71, hc1, hc2, f1⟩ ih
  have hMV1 := h.far (H' := H1) (fun a a1 a2 => f1 a (by omega) (by omega)) (f1 ba (by omega) (by omega))
  have hR1 := hR.far (H' := H1) (fun a a1 a2 => f1 a (by omega) (by omega))
  have h61 := (f1 196 (by decide) (by decide)).trans h196
  by_cases hil : i < ws.length
  ·
    obtain ⟨e, he⟩ := lt_get hil
    obtain ⟨e1, e2, e3, e4⟩ := hT.2.2.2.2 i e he
    have f5 := ((hT.ok ht).2.2.2 i (by rw [hT.1]; exact hil)).2
    have f6 := hT.2.2.2.1
    have f7 := hT.2.1
    have e3 : wz (32 * t + i) = e.2.map List.length := e3
    have e2 : wn (32 * t + i) = e.1.length := e2
    have hkey : sl wb (wk (32 * t + i)) (wn (32 * t + i)) = e.1 := LayE.key hT.2.2.2.2 he
    have hk40 := hwk e (List.mem_of_getElem? he)
    refine RQ.blk 4 (pc' := 85) (lv' := [(4, .int (nI (32 * t + i))), (3, .int (nI l)), (0, .ref 196), (1, .int (nI t)), (2, .int 1)]) (st' := [.int (32 * nI t), .int (nI (32 * t + i))]) (H' := _) (kc' := 0) (ks' := 0) rfl ?_
    rw [show (32 * nI t : Int32) = nI (32 * t) from pk_mul 32 t]
    refine RQ.blk 1 (pc' := 86) (lv' := [(4, .int (nI (32 * t + i))), (3, .int (nI l)), (0, .ref 196), (1, .int (nI t)), (2, .int 1)]) (st' := [.ref 196, .int (nI (32 * t)), .int (nI (32 * t + i))]) (H' := _) (kc' := 0) (ks' := 0) rfl ?_
    refine RQ.get (ci := 12) rfl hm1 rfl rfl ?_
    refine RQ.blk 1 (pc' := 90) (lv' := [(4, .int (nI (32 * t + i))), (3, .int (nI l)), (0, .ref 196), (1, .int (nI t)), (2, .int 1)]) (st' := [.int (nI t), .ref 208, .int (nI (32 * t)), .int (nI (32 * t + i))]) (H' := _) (kc' := 0) (ks' := 0) rfl ?_
    refine RQ.ialdN (j := t) rfl hR1.1 (by omega) (by decide) ?_
    rw [hro]
    refine RQ.blk 1 (pc' := 92) (lv' := [(4, .int (nI (32 * t + i))), (3, .int (nI l)), (0, .ref 196), (1, .int (nI t)), (2, .int 1)]) (st' := [.int (nI (32 * t) + nI ws.length), .int (nI (32 * t + i))]) (H' := _) (kc' := 0) (ks' := 0) rfl ?_
    rw [show (nI (32 * t) + nI ws.length : Int32) = nI (32 * t + ws.length) from nI_add (32 * t) ws.length]
    refine RQ.brF rfl rfl rfl (cF_ge (32 * t + i) (32 * t + ws.length)) ?_
    refine RQ.blk 1 (pc' := 96) (lv' := [(4, .int (nI (32 * t + i))), (3, .int (nI l)), (0, .ref 196), (1, .int (nI t)), (2, .int 1)]) (st' := [.ref 196]) (H' := _) (kc' := 0) (ks' := 0) rfl ?_
    refine RQ.get (ci := 12) rfl hm1 rfl rfl ?_
    refine RQ.blk 1 (pc' := 101) (lv' := [(4, .int (nI (32 * t + i))), (3, .int (nI l)), (0, .ref 196), (1, .int (nI t)), (2, .int 1)]) (st' := [.int (nI (32 * t + i)), .ref 212]) (H' := _) (kc' := 0) (ks' := 0) rfl ?_
    refine RQ.ialdN (j := 32 * t + i) rfl hR1.2.2.2.2.1 (by omega) (by decide) ?_
    rw [e3]
    cases hev : e.2 with
    | none =>
      show RQ _ _ _ _ _ [.int (-1)] _ _ _ _
      refine RQ.brT rfl rfl rfl (by decide) ?_
      refine RQ.blk 1 (pc' := 157) (lv' := [(4, .int (nI (32 * t + i) + 1)), (3, .int (nI l)), (0, .ref 196), (1, .int (nI t)), (2, .int 1)]) (st' := []) (H' := _) (kc' := 0) (ks' := 0) rfl ?_
      rw [show (nI (32 * t + i) + 1 : Int32) = nI (32 * t + i + 1) from nI_add (32 * t + i) 1]
      refine RQ.blk 1 (pc' := 79) (lv' := [(4, .int (nI (32 * t + i + 1))), (3, .int (nI l)), (0, .ref 196), (1, .int (nI t)), (2, .int 1)]) (st' := []) (H' := _) (kc' := 0) (ks' := 0) rfl ?_
      refine RQ.pick (a := [(4, .int (nI (32 * t + i + 1))), (3, .int (nI l)), (0, .ref 196), (1, .int (nI t)), (2, .int 1)]) [0, 1, 2, 3, 4] [4, 3, 0, 1, 2] rfl rfl (by decide) ?_
      have hsk2 : SkS (fun k => ∃ (j : Nat) (e : aE), j < (i + 1) ∧ ws[j]? = some e ∧ e.1 = k ∧ e.2 ≠ none) (sl tb 0 l) true cur := hsk.congr (fun k => ⟨fun ⟨j, e9, j1, j2, j3, j4⟩ => ⟨j, e9, by omega, j2, j3, j4⟩, fun ⟨j, e9, j1, j2, j3, j4⟩ => by by_cases hji : j = i; rw [hji, he] at j2; rw [← Option.some.inj j2] at j4; exact absurd hev j4; exact ⟨j, e9, by omega, j2, j3, j4⟩⟩)
      exact ih (i + 1) H1 ⟨cur, g1, by omega, hsk2, hm1, h71, hc1, hc2, f1⟩ (by omega)
    | some x =>
      show RQ _ _ _ _ _ [.int (nI x.length)] _ _ _ _
      have hx : x.length ≤ 1000 := by have := hws e (List.mem_of_getElem? he); rw [hev] at this; exact this
      refine RQ.brF rfl rfl rfl (cF_lt x.length 0) ?_
      refine RQ.blk 2 (pc' := 107) (lv' := [(4, .int (nI (32 * t + i))), (3, .int (nI l)), (0, .ref 196), (1, .int (nI t)), (2, .int 1)]) (st' := [.ref 196, .ref 196]) (H' := _) (kc' := 0) (ks' := 0) rfl ?_
      refine RQ.get (ci := 12) rfl hm1 rfl rfl ?_
      refine RQ.blk 1 (pc' := 111) (lv' := [(4, .int (nI (32 * t + i))), (3, .int (nI l)), (0, .ref 196), (1, .int (nI t)), (2, .int 1)]) (st' := [.ref 196, .ref 213, .ref 196]) (H' := _) (kc' := 0) (ks' := 0) rfl ?_
      refine RQ.get (ci := 12) rfl hm1 rfl rfl ?_
      refine RQ.blk 1 (pc' := 116) (lv' := [(4, .int (nI (32 * t + i))), (3, .int (nI l)), (0, .ref 196), (1, .int (nI t)), (2, .int 1)]) (st' := [.int (nI (32 * t + i)), .ref 210, .ref 213, .ref 196]) (H' := _) (kc' := 0) (ks' := 0) rfl ?_
      refine RQ.ialdN (j := 32 * t + i) rfl hR1.2.2.1 (by omega) (by decide) ?_
      refine RQ.blk 1 (pc' := 118) (lv' := [(4, .int (nI (32 * t + i))), (3, .int (nI l)), (0, .ref 196), (1, .int (nI t)), (2, .int 1)]) (st' := [.ref 196, .int (nI (wk (32 * t + i))), .ref 213, .ref 196]) (H' := _) (kc' := 0) (ks' := 0) rfl ?_
      refine RQ.get (ci := 12) rfl hm1 rfl rfl ?_
      refine RQ.blk 1 (pc' := 123) (lv' := [(4, .int (nI (32 * t + i))), (3, .int (nI l)), (0, .ref 196), (1, .int (nI t)), (2, .int 1)]) (st' := [.int (nI (32 * t + i)), .ref 211, .int (nI (wk (32 * t + i))), .ref 213, .ref 196]) (H' := _) (kc' := 0) (ks' := 0) rfl ?_
      refine RQ.ialdN (j := 32 * t + i) rfl hR1.2.2.2.1 (by omega) (by decide) ?_
      refine RQ.blk 2 (pc' := 126) (lv' := [(4, .int (nI (32 * t + i))), (3, .int (nI l)), (0, .ref 196), (1, .int (nI t)), (2, .int 1)]) (st' := [.int 1, .int (nI l), .int (nI (wn (32 * t + i))), .int (nI (wk (32 * t + i))), .ref 213, .ref 196]) (H' := _) (kc' := 0) (ks' := 0) rfl ?_
      refine RQ.call (v := some (.int (if upB (sl tb 0 l) true cur (sl wb (wk (32 * t + i)) (wn (32 * t + i))) = true then 1 else 0))) (st' := []) rfl rfl rfl rfl rfl rfl (args_v [.int 1, .int (nI l), .int (nI (wn (32 * t + i))), .int (nI (wk (32 * t + i))), .ref 213] [] rfl rfl (Nat.le_of_ble_eq_true rfl) rfl hm1 (Nat.le_of_ble_eq_true rfl)) (rc_better1 (a := 212) (na := 32000) (j := wk (32 * t + i)) (n := wn (32 * t + i)) (l := l) hm1 h71 hc1 (by omega) h61 hl2 hR1.2.2.2.2.2 (by decide) (by omega)) ?_
      rw [hkey]
      by_cases hup : upB (sl tb 0 l) true cur e.1 = true
      · rw [if_pos hup]
        refine RQ.brF rfl rfl rfl (by decide) ?_
        refine RQ.blk 2 (pc' := 134) (lv' := [(4, .int (nI (32 * t + i))), (3, .int (nI l)), (0, .ref 196), (1, .int (nI t)), (2, .int 1)]) (st' := [.ref 196, .ref 196]) (H' := _) (kc' := 0) (ks' := 0) rfl ?_
        refine RQ.get (ci := 12) rfl hm1 rfl rfl ?_
        refine RQ.blk 1 (pc' := 138) (lv' := [(4, .int (nI (32 * t + i))), (3, .int (nI l)), (0, .ref 196), (1, .int (nI t)), (2, .int 1)]) (st' := [.ref 196, .ref 213, .ref 196]) (H' := _) (kc' := 0) (ks' := 0) rfl ?_
        refine RQ.get (ci := 12) rfl hm1 rfl rfl ?_
        refine RQ.blk 1 (pc' := 143) (lv' := [(4, .int (nI (32 * t + i))), (3, .int (nI l)), (0, .ref 196), (1, .int (nI t)), (2, .int 1)]) (st' := [.int (nI (32 * t + i)), .ref 210, .ref 213, .ref 196]) (H' := _) (kc' := 0) (ks' := 0) rfl ?_
        refine RQ.ialdN (j := 32 * t + i) rfl hR1.2.2.1 (by omega) (by decide) ?_
        refine RQ.blk 1 (pc' := 145) (lv' := [(4, .int (nI (32 * t + i))), (3, .int (nI l)), (0, .ref 196), (1, .int (nI t)), (2, .int 1)]) (st' := [.ref 196, .int (nI (wk (32 * t + i))), .ref 213, .ref 196]) (H' := _) (kc' := 0) (ks' := 0) rfl ?_
        refine RQ.get (ci := 12) rfl hm1 rfl rfl ?_
        refine RQ.blk 1 (pc' := 150) (lv' := [(4, .int (nI (32 * t + i))), (3, .int (nI l)), (0, .ref 196), (1, .int (nI t)), (2, .int 1)]) (st' := [.int (nI (32 * t + i)), .ref 211, .int (nI (wk (32 * t + i))), .ref 213, .ref 196]) (H' := _) (kc' := 0) (ks' := 0) rfl ?_
        refine RQ.ialdN (j := 32 * t + i) rfl hR1.2.2.2.1 (by omega) (by decide) ?_
        refine RQ.call (v := none) (st' := []) rfl rfl rfl rfl rfl rfl (args_v [.int (nI (wn (32 * t + i))), .int (nI (wk (32 * t + i))), .ref 213] [] rfl rfl (Nat.le_of_ble_eq_true rfl) rfl hm1 (Nat.le_of_ble_eq_true rfl)) (rc_mtake (a := 212) (na := 32000) (j := wk (32 * t + i)) (n := wn (32 * t + i)) hm1 h71 hR1.2.2.2.2.2 (by omega) (by omega) (by decide) (by omega) (by omega)) ?_
        have hm2 : ((H1.set 197 (kB 1000 (cpy wb (wk (32 * t + i)) g1 0 (wn (32 * t + i))))).set 195 (kO 12 (mfs 0 li 0 cw cl 0 (nI (wn (32 * t + i))) pr (nI ms.length) us pi hu ba bo)))[195]? = some (kO 12 (mfs 0 li 0 cw cl 0 (nI (wn (32 * t + i))) pr (nI ms.length) us pi hu ba bo)) := get_set ((set_far (by decide)).trans hm1)
        have h72 : ((H1.set 197 (kB 1000 (cpy wb (wk (32 * t + i)) g1 0 (wn (32 * t + i))))).set 195 (kO 12 (mfs 0 li 0 cw cl 0 (nI (wn (32 * t + i))) pr (nI ms.length) us pi hu ba bo)))[197]? = some (kB 1000 (cpy wb (wk (32 * t + i)) g1 0 (wn (32 * t + i)))) := (set_far (by decide)).trans (get_set h71)
        have f2 : ∀ a, a ≠ 195 → a ≠ 197 → ((H1.set 197 (kB 1000 (cpy wb (wk (32 * t + i)) g1 0 (wn (32 * t + i))))).set 195 (kO 12 (mfs 0 li 0 cw cl 0 (nI (wn (32 * t + i))) pr (nI ms.length) us pi hu ba bo)))[a]? = H[a]? := fun a a1 a2 => (set_far a1).trans ((set_far a2).trans (f1 a a1 a2))
        generalize ((H1.set 197 (kB 1000 (cpy wb (wk (32 * t + i)) g1 0 (wn (32 * t + i))))).set 195 (kO 12 (mfs 0 li 0 cw cl 0 (nI (wn (32 * t + i))) pr (nI ms.length) us pi hu ba bo))) = H2 at hm2 h72 f2 ⊢
        refine RQ.blk 1 (pc' := 157) (lv' := [(4, .int (nI (32 * t + i) + 1)), (3, .int (nI l)), (0, .ref 196), (1, .int (nI t)), (2, .int 1)]) (st' := []) (H' := _) (kc' := 0) (ks' := 0) rfl ?_
        rw [show (nI (32 * t + i) + 1 : Int32) = nI (32 * t + i + 1) from nI_add (32 * t + i) 1]
        refine RQ.blk 1 (pc' := 79) (lv' := [(4, .int (nI (32 * t + i + 1))), (3, .int (nI l)), (0, .ref 196), (1, .int (nI t)), (2, .int 1)]) (st' := []) (H' := _) (kc' := 0) (ks' := 0) rfl ?_
        refine RQ.pick (a := [(4, .int (nI (32 * t + i + 1))), (3, .int (nI l)), (0, .ref 196), (1, .int (nI t)), (2, .int 1)]) [0, 1, 2, 3, 4] [4, 3, 0, 1, 2] rfl rfl (by decide) ?_
        have hsk2 : SkS (fun k => ∃ (j : Nat) (e : aE), j < (i + 1) ∧ ws[j]? = some e ∧ e.1 = k ∧ e.2 ≠ none) (sl tb 0 l) true (upC (sl tb 0 l) true cur e.1) := (hsk.add (key := e.1)).congr (fun k => ⟨fun h9 => by rcases h9 with ⟨j, e9, j1, j2, j3, j4⟩ | h9; exact ⟨j, e9, by omega, j2, j3, j4⟩; exact ⟨i, e, by omega, he, h9.symm, by rw [hev]; exact Option.some_ne_none _⟩, fun ⟨j, e9, j1, j2, j3, j4⟩ => by by_cases hji : j = i; rw [hji, he] at j2; rw [Option.some.inj j2]; exact Or.inr j3.symm; exact Or.inl ⟨j, e9, by omega, j2, j3, j4⟩⟩)
        rw [show upC (sl tb 0 l) true cur e.1 = some e.1 from if_pos hup] at hsk2
        exact ih (i + 1) H2 ⟨some e.1, _, by omega, hsk2, by show H2[195]? = some (kO 12 (mfs 0 li 0 cw cl 0 (nI e.1.length) pr (nI ms.length) us pi hu ba bo)); rw [← e2]; exact hm2, h72, by show sl _ 0 e.1.length = e.1; rw [← e2, sl_cpy, hkey], hk40, f2⟩ (by omega)
      · rw [if_neg hup]
        refine RQ.brT rfl rfl rfl (by decide) ?_
        refine RQ.blk 1 (pc' := 157) (lv' := [(4, .int (nI (32 * t + i) + 1)), (3, .int (nI l)), (0, .ref 196), (1, .int (nI t)), (2, .int 1)]) (st' := []) (H' := _) (kc' := 0) (ks' := 0) rfl ?_
        rw [show (nI (32 * t + i) + 1 : Int32) = nI (32 * t + i + 1) from nI_add (32 * t + i) 1]
        refine RQ.blk 1 (pc' := 79) (lv' := [(4, .int (nI (32 * t + i + 1))), (3, .int (nI l)), (0, .ref 196), (1, .int (nI t)), (2, .int 1)]) (st' := []) (H' := _) (kc' := 0) (ks' := 0) rfl ?_
        refine RQ.pick (a := [(4, .int (nI (32 * t + i + 1))), (3, .int (nI l)), (0, .ref 196), (1, .int (nI t)), (2, .int 1)]) [0, 1, 2, 3, 4] [4, 3, 0, 1, 2] rfl rfl (by decide) ?_
        have hsk2 : SkS (fun k => ∃ (j : Nat) (e : aE), j < (i + 1) ∧ ws[j]? = some e ∧ e.1 = k ∧ e.2 ≠ none) (sl tb 0 l) true (upC (sl tb 0 l) true cur e.1) := (hsk.add (key := e.1)).congr (fun k => ⟨fun h9 => by rcases h9 with ⟨j, e9, j1, j2, j3, j4⟩ | h9; exact ⟨j, e9, by omega, j2, j3, j4⟩; exact ⟨i, e, by omega, he, h9.symm, by rw [hev]; exact Option.some_ne_none _⟩, fun ⟨j, e9, j1, j2, j3, j4⟩ => by by_cases hji : j = i; rw [hji, he] at j2; rw [Option.some.inj j2]; exact Or.inr j3.symm; exact Or.inl ⟨j, e9, by omega, j2, j3, j4⟩⟩)
        rw [show upC (sl tb 0 l) true cur e.1 = cur from if_neg hup] at hsk2
        exact ih (i + 1) H1 ⟨cur, g1, by omega, hsk2, hm1, h71, hc1, hc2, f1⟩ (by omega)
  ·
    refine RQ.blk 4 (pc' := 85) (lv' := [(4, .int (nI (32 * t + i))), (3, .int (nI l)), (0, .ref 196), (1, .int (nI t)), (2, .int 1)]) (st' := [.int (32 * nI t), .int (nI (32 * t + i))]) (H' := _) (kc' := 0) (ks' := 0) rfl ?_
    rw [show (32 * nI t : Int32) = nI (32 * t) from pk_mul 32 t]
    refine RQ.blk 1 (pc' := 86) (lv' := [(4, .int (nI (32 * t + i))), (3, .int (nI l)), (0, .ref 196), (1, .int (nI t)), (2, .int 1)]) (st' := [.ref 196, .int (nI (32 * t)), .int (nI (32 * t + i))]) (H' := _) (kc' := 0) (ks' := 0) rfl ?_
    refine RQ.get (ci := 12) rfl hm1 rfl rfl ?_
    refine RQ.blk 1 (pc' := 90) (lv' := [(4, .int (nI (32 * t + i))), (3, .int (nI l)), (0, .ref 196), (1, .int (nI t)), (2, .int 1)]) (st' := [.int (nI t), .ref 208, .int (nI (32 * t)), .int (nI (32 * t + i))]) (H' := _) (kc' := 0) (ks' := 0) rfl ?_
    refine RQ.ialdN (j := t) rfl hR1.1 (by omega) (by decide) ?_
    rw [hro]
    refine RQ.blk 1 (pc' := 92) (lv' := [(4, .int (nI (32 * t + i))), (3, .int (nI l)), (0, .ref 196), (1, .int (nI t)), (2, .int 1)]) (st' := [.int (nI (32 * t) + nI ws.length), .int (nI (32 * t + i))]) (H' := _) (kc' := 0) (ks' := 0) rfl ?_
    rw [show (nI (32 * t) + nI ws.length : Int32) = nI (32 * t + ws.length) from nI_add (32 * t) ws.length]
    refine RQ.brT rfl rfl rfl (cT_ge (32 * t + i) (32 * t + ws.length)) ?_
    refine RQ.blk 2 (pc' := 163) (lv' := [(4, .int 0), (3, .int (nI l)), (0, .ref 196), (1, .int (nI t)), (2, .int 1)]) (st' := []) (H' := _) (kc' := 0) (ks' := 0) rfl ?_
    refine RQ.pick (a := [(4, .int 0), (3, .int (nI l)), (0, .ref 196), (1, .int (nI t)), (2, .int 1)]) [0, 1, 2, 3, 4] [4, 3, 0, 1, 2] rfl rfl (by decide) ?_
    have hie : i = ws.length := by omega
    rw [hie] at hsk
    clear ih
    refine RQ.while (S := Nat) (pc := 163) (fun v H' => ∃ (cur : Option (List Nat)) (g0 : Nat → Int8), v ≤ ms.length ∧ SkS (fun k => (∃ (j : Nat) (e : aE), j < ws.length ∧ ws[j]? = some e ∧ e.1 = k ∧ e.2 ≠ none) ∨ ∃ (j : Nat) (w : aMV), j < v ∧ ms[j]? = some w ∧ w.1 = k ∧ getW ws (lookM ms k (se t)) k ≠ none) (sl tb 0 l) true cur ∧ H'[195]? = some (kO 12 (mfs 0 li 0 cw cl 0 (lI (cur.map List.length)) pr (nI ms.length) us pi hu ba bo)) ∧ H'[197]? = some (kB 1000 g0) ∧ sl g0 0 (cur.getD []).length = cur.getD [] ∧ (cur.getD []).length ≤ 40 ∧ ∀ a, a ≠ 195 → a ≠ 197 → H'[a]? = H[a]?) (fun v => [(4, .int (nI v)), (3, .int (nI l)), (0, .ref 196), (1, .int (nI t)), (2, .int 1)]) (fun v => ms.length - v) ?_ 0 H1 ⟨cur, g1, Nat.zero_le _, hsk.congr (fun k => ⟨Or.inl, fun h9 => by rcases h9 with h9 | ⟨j, w, j1, _⟩; exact h9; exact absurd j1 (Nat.not_lt_zero _)⟩), hm1, h71, hc1, hc2, f1⟩
    clear hsk hm1 h71 hc1 hc2 f1 hMV1 hR1 h61 hil hi hie
    rintro v H1 ⟨cur, g1, hv, hsk, hm1, h71, hc1, hc2, f1⟩ ih
    have hMV1 := h.far (H' := H1) (fun a a1 a2 => f1 a (by omega) (by omega)) (f1 ba (by omega) (by omega))
    have hR1 := hR.far (H' := H1) (fun a a1 a2 => f1 a (by omega) (by omega))
    have h61 := (f1 196 (by decide) (by decide)).trans h196
    by_cases hvl : v < ms.length
    ·
      obtain ⟨w, hw⟩ := lt_get hvl
      obtain ⟨k1, k2, k3, k4⟩ := hl.key hw
      have hk_v := (hl.ok hk).2 v hvl
      have hk40 := hmk w (List.mem_of_getElem? hw)
      refine RQ.blk 2 (pc' := 166) (lv' := [(4, .int (nI v)), (3, .int (nI l)), (0, .ref 196), (1, .int (nI t)), (2, .int 1)]) (st' := [.ref 196, .int (nI v)]) (H' := _) (kc' := 0) (ks' := 0) rfl ?_
      refine RQ.get (ci := 12) rfl hm1 rfl rfl ?_
      refine RQ.brF rfl rfl rfl (cF_ge v ms.length) ?_
      refine RQ.blk 2 (pc' := 174) (lv' := [(4, .int (nI v)), (3, .int (nI l)), (0, .ref 196), (1, .int (nI t)), (2, .int 1)]) (st' := [.ref 196, .ref 196]) (H' := _) (kc' := 0) (ks' := 0) rfl ?_
      refine RQ.get (ci := 12) rfl hm1 rfl rfl ?_
      refine RQ.blk 1 (pc' := 178) (lv' := [(4, .int (nI v)), (3, .int (nI l)), (0, .ref 196), (1, .int (nI t)), (2, .int 1)]) (st' := [.ref 196, .ref (ba + 1), .ref 196]) (H' := _) (kc' := 0) (ks' := 0) rfl ?_
      refine RQ.get (ci := 12) rfl hm1 rfl rfl ?_
      refine RQ.blk 1 (pc' := 183) (lv' := [(4, .int (nI v)), (3, .int (nI l)), (0, .ref 196), (1, .int (nI t)), (2, .int 1)]) (st' := [.int (nI v), .ref 199, .ref (ba + 1), .ref 196]) (H' := _) (kc' := 0) (ks' := 0) rfl ?_
      refine RQ.ialdN (j := v) rfl hMV1.1 (by omega) (by decide) ?_
      refine RQ.blk 1 (pc' := 185) (lv' := [(4, .int (nI v)), (3, .int (nI l)), (0, .ref 196), (1, .int (nI t)), (2, .int 1)]) (st' := [.ref 196, .int (nI (ko v)), .ref (ba + 1), .ref 196]) (H' := _) (kc' := 0) (ks' := 0) rfl ?_
      refine RQ.get (ci := 12) rfl hm1 rfl rfl ?_
      refine RQ.blk 1 (pc' := 190) (lv' := [(4, .int (nI v)), (3, .int (nI l)), (0, .ref 196), (1, .int (nI t)), (2, .int 1)]) (st' := [.int (nI v), .ref 200, .int (nI (ko v)), .ref (ba + 1), .ref 196]) (H' := _) (kc' := 0) (ks' := 0) rfl ?_
      refine RQ.ialdN (j := v) rfl hMV1.2.1 (by omega) (by decide) ?_
      refine RQ.blk 2 (pc' := 193) (lv' := [(4, .int (nI v)), (3, .int (nI l)), (0, .ref 196), (1, .int (nI t)), (2, .int 1)]) (st' := [.int 1, .int (nI l), .int (nI (kn v)), .int (nI (ko v)), .ref (ba + 1), .ref 196]) (H' := _) (kc' := 0) (ks' := 0) rfl ?_
      refine RQ.call (v := some (.int (if upB (sl tb 0 l) true cur (sl bf (ko v) (kn v)) = true then 1 else 0))) (st' := []) rfl rfl rfl rfl rfl rfl (args_v [.int 1, .int (nI l), .int (nI (kn v)), .int (nI (ko v)), .ref (ba + 1)] [] rfl rfl (Nat.le_of_ble_eq_true rfl) rfl hm1 (Nat.le_of_ble_eq_true rfl)) (rc_better1 (a := ba) (na := 48000) (j := ko v) (n := kn v) (l := l) hm1 h71 hc1 (by omega) h61 hl2 hMV1.2.2.2.2.2 (by decide) (by omega)) ?_
      rw [k1]
      by_cases hup : upB (sl tb 0 l) true cur w.1 = true
      · rw [if_pos hup]
        refine RQ.brT rfl rfl rfl (by decide) ?_
        refine RQ.blk 3 (pc' := 205) (lv' := [(4, .int (nI v)), (3, .int (nI l)), (0, .ref 196), (1, .int (nI t)), (2, .int 1)]) (st' := [.ref 196, .int (nI t), .ref 196]) (H' := _) (kc' := 0) (ks' := 0) rfl ?_
        refine RQ.get (ci := 12) rfl hm1 rfl rfl ?_
        refine RQ.blk 1 (pc' := 209) (lv' := [(4, .int (nI v)), (3, .int (nI l)), (0, .ref 196), (1, .int (nI t)), (2, .int 1)]) (st' := [.ref 196, .ref (ba + 1), .int (nI t), .ref 196]) (H' := _) (kc' := 0) (ks' := 0) rfl ?_
        refine RQ.get (ci := 12) rfl hm1 rfl rfl ?_
        refine RQ.blk 1 (pc' := 214) (lv' := [(4, .int (nI v)), (3, .int (nI l)), (0, .ref 196), (1, .int (nI t)), (2, .int 1)]) (st' := [.int (nI v), .ref 199, .ref (ba + 1), .int (nI t), .ref 196]) (H' := _) (kc' := 0) (ks' := 0) rfl ?_
        refine RQ.ialdN (j := v) rfl hMV1.1 (by omega) (by decide) ?_
        refine RQ.blk 1 (pc' := 216) (lv' := [(4, .int (nI v)), (3, .int (nI l)), (0, .ref 196), (1, .int (nI t)), (2, .int 1)]) (st' := [.ref 196, .int (nI (ko v)), .ref (ba + 1), .int (nI t), .ref 196]) (H' := _) (kc' := 0) (ks' := 0) rfl ?_
        refine RQ.get (ci := 12) rfl hm1 rfl rfl ?_
        refine RQ.blk 1 (pc' := 221) (lv' := [(4, .int (nI v)), (3, .int (nI l)), (0, .ref 196), (1, .int (nI t)), (2, .int 1)]) (st' := [.int (nI v), .ref 200, .int (nI (ko v)), .ref (ba + 1), .int (nI t), .ref 196]) (H' := _) (kc' := 0) (ks' := 0) rfl ?_
        refine RQ.ialdN (j := v) rfl hMV1.2.1 (by omega) (by decide) ?_
        refine RQ.blk 1 (pc' := 223) (lv' := [(4, .int (nI v)), (3, .int (nI l)), (0, .ref 196), (1, .int (nI t)), (2, .int 1)]) (st' := [.int 0, .int (nI (kn v)), .int (nI (ko v)), .ref (ba + 1), .int (nI t), .ref 196]) (H' := _) (kc' := 0) (ks' := 0) rfl ?_
        refine RQ.callI (st' := []) rfl rfl rfl rfl rfl rfl (args_v [.int 0, .int (nI (kn v)), .int (nI (ko v)), .ref (ba + 1), .int (nI t)] [] rfl rfl (Nat.le_of_ble_eq_true rfl) rfl hm1 (Nat.le_of_ble_eq_true rfl)) (ri_tell0 (a := ba) (na := 48000) (j := ko v) (m := kn v) hm1 hMV1 hl hk hba hR1 hT ht ((f1 206 (by decide) (by decide)).trans h6) hse hMV1.2.2.2.2.2 (by decide) (by omega) h71 h1M hws hms) (fun y H3 hy => ?_)
        obtain ⟨rv, er, ey, eH3⟩ := hy
        rw [eH3]
        rw [k1] at er
        rw [ey]
        cases rv with
        | none =>
          show RQ _ _ _ _ _ [.int (-1)] _ _ _ _
          refine RQ.brT rfl rfl rfl (by decide) ?_
          refine RQ.blk 1 (pc' := 254) (lv' := [(4, .int (nI v + 1)), (3, .int (nI l)), (0, .ref 196), (1, .int (nI t)), (2, .int 1)]) (st' := []) (H' := _) (kc' := 0) (ks' := 0) rfl ?_
          rw [show (nI v + 1 : Int32) = nI (v + 1) from nI_add v 1]
          refine RQ.blk 1 (pc' := 163) (lv' := [(4, .int (nI (v + 1))), (3, .int (nI l)), (0, .ref 196), (1, .int (nI t)), (2, .int 1)]) (st' := []) (H' := _) (kc' := 0) (ks' := 0) rfl ?_
          refine RQ.pick (a := [(4, .int (nI (v + 1))), (3, .int (nI l)), (0, .ref 196), (1, .int (nI t)), (2, .int 1)]) [0, 1, 2, 3, 4] [4, 3, 0, 1, 2] rfl rfl (by decide) ?_
          have hvis : SkS (fun k => (∃ (j : Nat) (e : aE), j < ws.length ∧ ws[j]? = some e ∧ e.1 = k ∧ e.2 ≠ none) ∨ ∃ (j : Nat) (w : aMV), j < (v + 1) ∧ ms[j]? = some w ∧ w.1 = k ∧ getW ws (lookM ms k (se t)) k ≠ none) (sl tb 0 l) true cur := hsk.congr (fun k => ⟨fun h9 => by
            rcases h9 with h9 | ⟨j, w9, j1, j2, j3, j4⟩
            · exact Or.inl h9
            · exact Or.inr ⟨j, w9, by omega, j2, j3, j4⟩, fun h9 => by
            rcases h9 with h9 | ⟨j, w9, j1, j2, j3, j4⟩
            · exact Or.inl h9
            · by_cases hjv : j = v
              · rw [hjv, hw] at j2
                rw [← Option.some.inj j2] at j3
                rw [← j3] at j4
                exact absurd er.symm j4
              · exact Or.inr ⟨j, w9, by omega, j2, j3, j4⟩⟩)
          exact ih (v + 1) H1 ⟨cur, g1, by omega, hvis, hm1, h71, hc1, hc2, f1⟩ (by omega)
        | some x =>
          show RQ _ _ _ _ _ [.int (nI x.length)] _ _ _ _
          have hx31 : x.length < 2 ^ 31 := getW_len hws hms er.symm
          refine RQ.brF rfl rfl rfl (cF_lt x.length 0) ?_
          refine RQ.blk 2 (pc' := 231) (lv' := [(4, .int (nI v)), (3, .int (nI l)), (0, .ref 196), (1, .int (nI t)), (2, .int 1)]) (st' := [.ref 196, .ref 196]) (H' := _) (kc' := 0) (ks' := 0) rfl ?_
          refine RQ.get (ci := 12) rfl hm1 rfl rfl ?_
          refine RQ.blk 1 (pc' := 235) (lv' := [(4, .int (nI v)), (3, .int (nI l)), (0, .ref 196), (1, .int (nI t)), (2, .int 1)]) (st' := [.ref 196, .ref (ba + 1), .ref 196]) (H' := _) (kc' := 0) (ks' := 0) rfl ?_
          refine RQ.get (ci := 12) rfl hm1 rfl rfl ?_
          refine RQ.blk 1 (pc' := 240) (lv' := [(4, .int (nI v)), (3, .int (nI l)), (0, .ref 196), (1, .int (nI t)), (2, .int 1)]) (st' := [.int (nI v), .ref 199, .ref (ba + 1), .ref 196]) (H' := _) (kc' := 0) (ks' := 0) rfl ?_
          refine RQ.ialdN (j := v) rfl hMV1.1 (by omega) (by decide) ?_
          refine RQ.blk 1 (pc' := 242) (lv' := [(4, .int (nI v)), (3, .int (nI l)), (0, .ref 196), (1, .int (nI t)), (2, .int 1)]) (st' := [.ref 196, .int (nI (ko v)), .ref (ba + 1), .ref 196]) (H' := _) (kc' := 0) (ks' := 0) rfl ?_
          refine RQ.get (ci := 12) rfl hm1 rfl rfl ?_
          refine RQ.blk 1 (pc' := 247) (lv' := [(4, .int (nI v)), (3, .int (nI l)), (0, .ref 196), (1, .int (nI t)), (2, .int 1)]) (st' := [.int (nI v), .ref 200, .int (nI (ko v)), .ref (ba + 1), .ref 196]) (H' := _) (kc' := 0) (ks' := 0) rfl ?_
          refine RQ.ialdN (j := v) rfl hMV1.2.1 (by omega) (by decide) ?_
          refine RQ.call (v := none) (st' := []) rfl rfl rfl rfl rfl rfl (args_v [.int (nI (kn v)), .int (nI (ko v)), .ref (ba + 1)] [] rfl rfl (Nat.le_of_ble_eq_true rfl) rfl hm1 (Nat.le_of_ble_eq_true rfl)) (rc_mtake (a := ba) (na := 48000) (j := ko v) (n := kn v) hm1 h71 hMV1.2.2.2.2.2 (by omega) (by omega) (by decide) (by omega) (by omega)) ?_
          have hm2 : ((H1.set 197 (kB 1000 (cpy bf (ko v) g1 0 (kn v)))).set 195 (kO 12 (mfs 0 li 0 cw cl 0 (nI (kn v)) pr (nI ms.length) us pi hu ba bo)))[195]? = some (kO 12 (mfs 0 li 0 cw cl 0 (nI (kn v)) pr (nI ms.length) us pi hu ba bo)) := get_set ((set_far (by decide)).trans hm1)
          have h72 : ((H1.set 197 (kB 1000 (cpy bf (ko v) g1 0 (kn v)))).set 195 (kO 12 (mfs 0 li 0 cw cl 0 (nI (kn v)) pr (nI ms.length) us pi hu ba bo)))[197]? = some (kB 1000 (cpy bf (ko v) g1 0 (kn v))) := (set_far (by decide)).trans (get_set h71)
          have f2 : ∀ a, a ≠ 195 → a ≠ 197 → ((H1.set 197 (kB 1000 (cpy bf (ko v) g1 0 (kn v)))).set 195 (kO 12 (mfs 0 li 0 cw cl 0 (nI (kn v)) pr (nI ms.length) us pi hu ba bo)))[a]? = H[a]? := fun a a1 a2 => (set_far a1).trans ((set_far a2).trans (f1 a a1 a2))
          generalize ((H1.set 197 (kB 1000 (cpy bf (ko v) g1 0 (kn v)))).set 195 (kO 12 (mfs 0 li 0 cw cl 0 (nI (kn v)) pr (nI ms.length) us pi hu ba bo))) = H2 at hm2 h72 f2 ⊢
          refine RQ.blk 1 (pc' := 254) (lv' := [(4, .int (nI v + 1)), (3, .int (nI l)), (0, .ref 196), (1, .int (nI t)), (2, .int 1)]) (st' := []) (H' := _) (kc' := 0) (ks' := 0) rfl ?_
          rw [show (nI v + 1 : Int32) = nI (v + 1) from nI_add v 1]
          refine RQ.blk 1 (pc' := 163) (lv' := [(4, .int (nI (v + 1))), (3, .int (nI l)), (0, .ref 196), (1, .int (nI t)), (2, .int 1)]) (st' := []) (H' := _) (kc' := 0) (ks' := 0) rfl ?_
          refine RQ.pick (a := [(4, .int (nI (v + 1))), (3, .int (nI l)), (0, .ref 196), (1, .int (nI t)), (2, .int 1)]) [0, 1, 2, 3, 4] [4, 3, 0, 1, 2] rfl rfl (by decide) ?_
          have hvis : SkS (fun k => (∃ (j : Nat) (e : aE), j < ws.length ∧ ws[j]? = some e ∧ e.1 = k ∧ e.2 ≠ none) ∨ ∃ (j : Nat) (w : aMV), j < (v + 1) ∧ ms[j]? = some w ∧ w.1 = k ∧ getW ws (lookM ms k (se t)) k ≠ none) (sl tb 0 l) true (if getW ws (lookM ms w.1 (se t)) w.1 ≠ none then upC (sl tb 0 l) true cur w.1 else cur) := by
            split
            · rename_i hgw
              exact (hsk.add (key := w.1)).congr (fun k => ⟨fun h9 => by
                rcases h9 with (h9 | ⟨j, w9, j1, j2, j3, j4⟩) | h9
                · exact Or.inl h9
                · exact Or.inr ⟨j, w9, by omega, j2, j3, j4⟩
                · exact Or.inr ⟨v, w, by omega, hw, h9.symm, by rw [h9]; exact hgw⟩, fun h9 => by
                rcases h9 with h9 | ⟨j, w9, j1, j2, j3, j4⟩
                · exact Or.inl (Or.inl h9)
                · by_cases hjv : j = v
                  · rw [hjv, hw] at j2
                    rw [← Option.some.inj j2] at j3
                    exact Or.inr j3.symm
                  · exact Or.inl (Or.inr ⟨j, w9, by omega, j2, j3, j4⟩)⟩)
            · rename_i hgw
              exact hsk.congr (fun k => ⟨fun h9 => by
                rcases h9 with h9 | ⟨j, w9, j1, j2, j3, j4⟩
                · exact Or.inl h9
                · exact Or.inr ⟨j, w9, by omega, j2, j3, j4⟩, fun h9 => by
                rcases h9 with h9 | ⟨j, w9, j1, j2, j3, j4⟩
                · exact Or.inl h9
                · by_cases hjv : j = v
                  · rw [hjv, hw] at j2
                    rw [← Option.some.inj j2] at j3
                    rw [← j3] at j4
                    exact absurd j4 hgw
                  · exact Or.inr ⟨j, w9, by omega, j2, j3, j4⟩⟩)
          rw [if_pos (by rw [← er]; exact Option.some_ne_none _), show upC (sl tb 0 l) true cur w.1 = some w.1 from if_pos hup] at hvis
          exact ih (v + 1) H2 ⟨some w.1, _, by omega, hvis, by show H2[195]? = some (kO 12 (mfs 0 li 0 cw cl 0 (nI w.1.length) pr (nI ms.length) us pi hu ba bo)); rw [← k2]; exact hm2, h72, by show sl _ 0 w.1.length = w.1; rw [← k2, sl_cpy, k1], hk40, f2⟩ (by omega)
      · rw [if_neg hup]
        refine RQ.brF rfl rfl rfl (by decide) ?_
        refine RQ.blk 2 (pc' := 254) (lv' := [(4, .int (nI v + 1)), (3, .int (nI l)), (0, .ref 196), (1, .int (nI t)), (2, .int 1)]) (st' := []) (H' := _) (kc' := 0) (ks' := 0) rfl ?_
        rw [show (nI v + 1 : Int32) = nI (v + 1) from nI_add v 1]
        refine RQ.blk 1 (pc' := 163) (lv' := [(4, .int (nI (v + 1))), (3, .int (nI l)), (0, .ref 196), (1, .int (nI t)), (2, .int 1)]) (st' := []) (H' := _) (kc' := 0) (ks' := 0) rfl ?_
        refine RQ.pick (a := [(4, .int (nI (v + 1))), (3, .int (nI l)), (0, .ref 196), (1, .int (nI t)), (2, .int 1)]) [0, 1, 2, 3, 4] [4, 3, 0, 1, 2] rfl rfl (by decide) ?_
        have hvis : SkS (fun k => (∃ (j : Nat) (e : aE), j < ws.length ∧ ws[j]? = some e ∧ e.1 = k ∧ e.2 ≠ none) ∨ ∃ (j : Nat) (w : aMV), j < (v + 1) ∧ ms[j]? = some w ∧ w.1 = k ∧ getW ws (lookM ms k (se t)) k ≠ none) (sl tb 0 l) true (if getW ws (lookM ms w.1 (se t)) w.1 ≠ none then upC (sl tb 0 l) true cur w.1 else cur) := by
          split
          · rename_i hgw
            exact (hsk.add (key := w.1)).congr (fun k => ⟨fun h9 => by
              rcases h9 with (h9 | ⟨j, w9, j1, j2, j3, j4⟩) | h9
              · exact Or.inl h9
              · exact Or.inr ⟨j, w9, by omega, j2, j3, j4⟩
              · exact Or.inr ⟨v, w, by omega, hw, h9.symm, by rw [h9]; exact hgw⟩, fun h9 => by
              rcases h9 with h9 | ⟨j, w9, j1, j2, j3, j4⟩
              · exact Or.inl (Or.inl h9)
              · by_cases hjv : j = v
                · rw [hjv, hw] at j2
                  rw [← Option.some.inj j2] at j3
                  exact Or.inr j3.symm
                · exact Or.inl (Or.inr ⟨j, w9, by omega, j2, j3, j4⟩)⟩)
          · rename_i hgw
            exact hsk.congr (fun k => ⟨fun h9 => by
              rcases h9 with h9 | ⟨j, w9, j1, j2, j3, j4⟩
              · exact Or.inl h9
              · exact Or.inr ⟨j, w9, by omega, j2, j3, j4⟩, fun h9 => by
              rcases h9 with h9 | ⟨j, w9, j1, j2, j3, j4⟩
              · exact Or.inl h9
              · by_cases hjv : j = v
                · rw [hjv, hw] at j2
                  rw [← Option.some.inj j2] at j3
                  rw [← j3] at j4
                  exact absurd j4 hgw
                · exact Or.inr ⟨j, w9, by omega, j2, j3, j4⟩⟩)
        have hcu : (if getW ws (lookM ms w.1 (se t)) w.1 ≠ none then upC (sl tb 0 l) true cur w.1 else cur) = cur := by split; exact if_neg hup; rfl
        rw [hcu] at hvis
        exact ih (v + 1) H1 ⟨cur, g1, by omega, hvis, hm1, h71, hc1, hc2, f1⟩ (by omega)
    ·
      have hve : v = ms.length := by omega
      rw [hve] at hsk
      have hfin : SkS (fun k => getW ws (lookM ms k (se t)) k ≠ none) (sl tb 0 l) true cur := hsk.congr (fun k => vis_iff h1W k)
      refine RQ.blk 2 (pc' := 166) (lv' := [(4, .int (nI v)), (3, .int (nI l)), (0, .ref 196), (1, .int (nI t)), (2, .int 1)]) (st' := [.ref 196, .int (nI v)]) (H' := _) (kc' := 0) (ks' := 0) rfl ?_
      refine RQ.get (ci := 12) rfl hm1 rfl rfl ?_
      refine RQ.brT rfl rfl rfl (cT_ge v ms.length) ?_
      refine RQ.blk 1 (pc' := 258) (lv' := [(4, .int (nI v)), (3, .int (nI l)), (0, .ref 196), (1, .int (nI t)), (2, .int 1)]) (st' := [.ref 196]) (H' := _) (kc' := 0) (ks' := 0) rfl ?_
      refine RQ.get (ci := 12) rfl hm1 rfl rfl ?_
      cases cur with
      | none =>
        show RQ _ _ _ _ _ [.int (-1)] _ _ _ _
        refine RQ.brT rfl rfl rfl (by decide) ?_
        refine RQ.blk 2 (pc' := 271) (lv' := [(4, .int (nI v)), (3, .int (nI l)), (0, .ref 196), (1, .int (nI t)), (2, .int 1)]) (st' := [.int 0, .ref 196]) (H' := _) (kc' := 0) (ks' := 0) rfl ?_
        refine RQ.put (ci := 12) rfl hm1 rfl rfl (Nat.le_of_ble_eq_true rfl) ?_
        refine RQ.blk 1 (pc' := 275) (lv' := [(4, .int (nI v)), (3, .int (nI l)), (0, .ref 196), (1, .int (nI t)), (2, .int 1)]) (st' := [.int (-1)]) (H' := _) (kc' := 0) (ks' := 0) rfl ?_
        exact RQ.done (c := 0) (s := 0) rfl rfl rfl rfl ⟨_, _, rfl, none, hfin, rfl, get_set hm1, ⟨g1, (set_far (by decide)).trans h71, rfl, Nat.zero_le _⟩, fun a a1 a2 => (set_far a1).trans (f1 a a1 a2)⟩
      | some c =>
        show RQ _ _ _ _ _ [.int (nI c.length)] _ _ _ _
        have hc40 : c.length ≤ 40 := hc2
        refine RQ.brF rfl rfl rfl (cF_lt c.length 0) ?_
        refine RQ.blk 1 (pc' := 265) (lv' := [(4, .int (nI v)), (3, .int (nI l)), (0, .ref 196), (1, .int (nI t)), (2, .int 1)]) (st' := [.ref 196]) (H' := _) (kc' := 0) (ks' := 0) rfl ?_
        refine RQ.get (ci := 12) rfl hm1 rfl rfl ?_
        exact RQ.done (c := 0) (s := 0) rfl rfl rfl rfl ⟨_, _, rfl, some c, hfin, rfl, hm1, ⟨g1, h71, hc1, by show c.length ≤ 1000; omega⟩, f1⟩
