/-! ===== the layout over lists: uses, sums, the first table of a level; class; written by wip/gen/lays.py ===== -/
/-- the tables: which run lies where in the list -/
def RunsAt (H : aH) (pi : Nat → Nat) (rs : List aR) : Prop := (∃ Q, H[84]? = some (kQ 5 24 Q) ∧ ∀ j, j < 24 → Q j = some (pi j)) ∧ (∀ j, j < 24 → ∃ s, s < 24 ∧ pi j = 88 + 2 * s) ∧ (∀ i j, i < 24 → j < 24 → pi i = pi j → i = j) ∧ (∀ j x, rs[j]? = some x → RunIs H (pi j) x) ∧ (∀ j, j < 24 → ∃ x, RunIs H (pi j) x) ∧ rs.length ≤ 24
/-- the layout in memory: logs, so many fresh, from where, whether the last takes more, its top; tables; the state's block, its top, number; the turn; what is used -/
def LayIs (H : aH) (B : Nat) (lgs : List Nat) (fr ff : Nat) (wr : Bool) (tp : Nat) (rs : List aR) (ms mt sq tu : Nat) (us : Nat → Bool) : Prop := ∃ lg pi, LayAt H (layF B lgs.length fr ff wr tp rs.length ms mt sq tu 0 0) B us lg ∧ (∀ i b, lgs[i]? = some b → lg i = b) ∧ lgs.length ≤ B ∧ RunsAt H pi rs
theorem RunsAt.far {H H' : aH} {pi : Nat → Nat} {rs : List aR} (h : RunsAt H pi rs) (hs : ∀ a, 84 ≤ a → a < 136 → a ≠ 85 → H'[a]? = H[a]?) : RunsAt H' pi rs := by
  obtain ⟨⟨Q, h1, h2⟩, h3, h4, h5, h6, h7⟩ := h
  have hf : ∀ j, j < 24 → ∀ x, RunIs H (pi j) x → RunIs H' (pi j) x := fun j hj x hx => by
    obtain ⟨s, s1, s2⟩ := h3 j hj
    exact hx.far (hs _ (by omega) (by omega) (by omega)) (hs _ (by omega) (by omega) (by omega))
  refine ⟨⟨Q, (hs 84 (by omega) (by omega) (by omega)).trans h1, h2⟩, h3, h4, fun j x hx => hf j (by have := get_lt hx; omega) x (h5 j x hx), fun j hj => ?_, h7⟩
  obtain ⟨x, hx⟩ := h6 j hj
  exact ⟨x, hf j hj x hx⟩
theorem LayIs.far {H H' : aH} {B : Nat} {lgs : List Nat} {fr ff : Nat} {wr : Bool} {tp : Nat} {rs : List aR} {ms mt sq tu : Nat} {us : Nat → Bool} (h : LayIs H B lgs fr ff wr tp rs ms mt sq tu us) (hs : ∀ a, 83 ≤ a → a < 136 → a ≠ 85 → H'[a]? = H[a]?) : LayIs H' B lgs fr ff wr tp rs ms mt sq tu us := by
  obtain ⟨lg, pi, h1, h2, h3, h4⟩ := h
  exact ⟨lg, pi, ⟨(hs _ (by omega) (by omega) (by omega)).trans h1.1, (hs _ (by omega) (by omega) (by omega)).trans h1.2.1, (hs _ (by omega) (by omega) (by omega)).trans h1.2.2⟩, h2, h3, h4.far (fun a a1 a2 a3 => hs a (by omega) a2 a3)⟩
def usesL (lgs : List Nat) (rs : List aR) (b : Nat) : Nat := (if b < 2 then 1 else 0) + lgs.count b + (rs.map (fun x => x.2.2.2.count b)).sum
theorem count_take {l : List Nat} {i x b : Nat} (h : l[i]? = some x) : (l.take (i + 1)).count b = (l.take i).count b + (if x = b then 1 else 0) := by
  rw [take_get h, List.count_append, List.count_singleton]
  by_cases e : x = b
  · rw [if_pos e, if_pos (by rw [e]; exact beq_self_eq_true b)]
  · rw [if_neg e, if_neg (by simpa using e)]
theorem sum_take {α : Type} {l : List α} {f : α → Nat} {i : Nat} {x : α} (h : l[i]? = some x) : ((l.take (i + 1)).map f).sum = ((l.take i).map f).sum + f x := by
  rw [take_get h, List.map_append, List.sum_append]
  show _ + (f x + 0) = _
  rw [Nat.add_zero]
theorem rc_tableBlocks {sc : Nat × (Nat → Int32)} {d : Nat} {H : aH} {B : Nat} {lgs : List Nat} {fr ff : Nat} {wr : Bool} {tp : Nat} {rs : List aR} {ms mt sq tu : Nat} {us : Nat → Bool} (h : LayIs H B lgs fr ff wr tp rs ms mt sq tu us) (hB : B ≤ 128) : RC sc d mr_131 [.ref 84] H (.inl (some (.int (nI (rs.map (fun x => x.2.2.2.length)).sum)))) H 0 0 := by
  obtain ⟨lg, pi, hY, hlg, hlc, hRs⟩ := h
  obtain ⟨⟨Q, hQ, hQ2⟩, hpi, hinj, hrun, hall, hrl⟩ := hRs
  refine RP.blk 4 (pc' := 4) (lv' := [(2, .int 0), (1, .int 0), (0, .ref 84)]) (st' := []) (H' := _) (kc' := 0) (ks' := 0) rfl ?_
  have start : RP sc d mr_131 4 [(2, .int (nI 0)), (1, .int (nI (((rs.take 0).map (fun x => x.2.2.2.length)).sum))), (0, .ref 84)] [] H 0 0 (.inl (some (.int (nI (rs.map (fun x => x.2.2.2.length)).sum))), H, 0, 0) := by
    refine RP.loop 4 (fun i => [(2, .int (nI i)), (1, .int (nI (((rs.take i).map (fun x => x.2.2.2.length)).sum))), (0, .ref 84)]) [] (fun _ => H) 0 0 rs.length (fun i hi kk => ?_) ?_
    · obtain ⟨x, hx⟩ := lt_get hi
      obtain ⟨f, h1, h2, -⟩ := hrun i x hx
      rw [sum_take hx] at kk
      refine RP.blk 2 (pc' := 6) (lv' := [(2, .int (nI i)), (1, .int (nI (((rs.take i).map (fun x => x.2.2.2.length)).sum))), (0, .ref 84)]) (st' := [.ref 84, .int (nI i)]) (H' := _) (kc' := 0) (ks' := 0) rfl ?_
      refine RP.get (ci := 3) rfl hY.1 rfl rfl ?_
      refine RP.brF rfl rfl rfl (cF_ge i rs.length) ?_
      refine RP.blk 2 (pc' := 14) (lv' := [(2, .int (nI i)), (1, .int (nI (((rs.take i).map (fun x => x.2.2.2.length)).sum))), (0, .ref 84)]) (st' := [.ref 84, .int (nI (((rs.take i).map (fun x => x.2.2.2.length)).sum))]) (H' := _) (kc' := 0) (ks' := 0) rfl ?_
      refine RP.get (ci := 3) rfl hY.1 rfl rfl ?_
      refine RP.blk 1 (pc' := 18) (lv' := [(2, .int (nI i)), (1, .int (nI (((rs.take i).map (fun x => x.2.2.2.length)).sum))), (0, .ref 84)]) (st' := [.int (nI i), .ref 85, .int (nI (((rs.take i).map (fun x => x.2.2.2.length)).sum))]) (H' := _) (kc' := 0) (ks' := 0) rfl ?_
      refine RP.aaldN (j := i) rfl hQ (by omega) (by decide) (by decide) (hQ2 i (by omega)) ?_
      refine RP.get (ci := 6) rfl h1 rfl rfl ?_
      refine RP.blk 1 (pc' := 23) (lv' := [(2, .int (nI i)), (1, .int (nI (((rs.take i).map (fun x => x.2.2.2.length)).sum))), (0, .ref 84)]) (st' := [.int (nI (((rs.take i).map (fun x => x.2.2.2.length)).sum) + nI x.2.2.2.length)]) (H' := _) (kc' := 0) (ks' := 0) rfl ?_
      rw [show (nI (((rs.take i).map (fun x => x.2.2.2.length)).sum) + nI x.2.2.2.length : Int32) = nI (((rs.take i).map (fun x => x.2.2.2.length)).sum + x.2.2.2.length) from nI_add (((rs.take i).map (fun x => x.2.2.2.length)).sum) x.2.2.2.length]
      refine RP.blk 2 (pc' := 27) (lv' := [(2, .int (nI i + 1)), (1, .int (nI (((rs.take i).map (fun x => x.2.2.2.length)).sum + x.2.2.2.length))), (0, .ref 84)]) (st' := []) (H' := _) (kc' := 0) (ks' := 0) rfl ?_
      rw [show (nI i + 1 : Int32) = nI (i + 1) from nI_add i 1]
      refine RP.blk 1 (pc' := 4) (lv' := [(2, .int (nI (i + 1))), (1, .int (nI (((rs.take i).map (fun x => x.2.2.2.length)).sum + x.2.2.2.length))), (0, .ref 84)]) (st' := []) (H' := _) (kc' := 0) (ks' := 0) rfl ?_
      exact kk
    · rw [List.take_of_length_le (Nat.le_refl _)]
      refine RP.blk 2 (pc' := 6) (lv' := [(2, .int (nI rs.length)), (1, .int (nI (((rs).map (fun x => x.2.2.2.length)).sum))), (0, .ref 84)]) (st' := [.ref 84, .int (nI rs.length)]) (H' := _) (kc' := 0) (ks' := 0) rfl ?_
      refine RP.get (ci := 3) rfl hY.1 rfl rfl ?_
      refine RP.brT rfl rfl rfl (cT_ge rs.length rs.length) ?_
      refine RP.blk 1 (pc' := 31) (lv' := [(2, .int (nI rs.length)), (1, .int (nI (((rs).map (fun x => x.2.2.2.length)).sum))), (0, .ref 84)]) (st' := [.int (nI (((rs).map (fun x => x.2.2.2.length)).sum))]) (H' := _) (kc' := 0) (ks' := 0) rfl ?_
      exact RP.done (c := 0) (s := 0) rfl rfl rfl rfl
  exact start
theorem rc_tableEntries {sc : Nat × (Nat → Int32)} {d : Nat} {H : aH} {B : Nat} {lgs : List Nat} {fr ff : Nat} {wr : Bool} {tp : Nat} {rs : List aR} {ms mt sq tu : Nat} {us : Nat → Bool} (h : LayIs H B lgs fr ff wr tp rs ms mt sq tu us) (hB : B ≤ 128) : RC sc d mr_132 [.ref 84] H (.inl (some (.int (nI (rs.map (fun x => x.2.2.1)).sum)))) H 0 0 := by
  obtain ⟨lg, pi, hY, hlg, hlc, hRs⟩ := h
  obtain ⟨⟨Q, hQ, hQ2⟩, hpi, hinj, hrun, hall, hrl⟩ := hRs
  refine RP.blk 4 (pc' := 4) (lv' := [(2, .int 0), (1, .int 0), (0, .ref 84)]) (st' := []) (H' := _) (kc' := 0) (ks' := 0) rfl ?_
  have start : RP sc d mr_132 4 [(2, .int (nI 0)), (1, .int (nI (((rs.take 0).map (fun x => x.2.2.1)).sum))), (0, .ref 84)] [] H 0 0 (.inl (some (.int (nI (rs.map (fun x => x.2.2.1)).sum))), H, 0, 0) := by
    refine RP.loop 4 (fun i => [(2, .int (nI i)), (1, .int (nI (((rs.take i).map (fun x => x.2.2.1)).sum))), (0, .ref 84)]) [] (fun _ => H) 0 0 rs.length (fun i hi kk => ?_) ?_
    · obtain ⟨x, hx⟩ := lt_get hi
      obtain ⟨f, h1, h2, -⟩ := hrun i x hx
      rw [sum_take hx] at kk
      refine RP.blk 2 (pc' := 6) (lv' := [(2, .int (nI i)), (1, .int (nI (((rs.take i).map (fun x => x.2.2.1)).sum))), (0, .ref 84)]) (st' := [.ref 84, .int (nI i)]) (H' := _) (kc' := 0) (ks' := 0) rfl ?_
      refine RP.get (ci := 3) rfl hY.1 rfl rfl ?_
      refine RP.brF rfl rfl rfl (cF_ge i rs.length) ?_
      refine RP.blk 2 (pc' := 14) (lv' := [(2, .int (nI i)), (1, .int (nI (((rs.take i).map (fun x => x.2.2.1)).sum))), (0, .ref 84)]) (st' := [.ref 84, .int (nI (((rs.take i).map (fun x => x.2.2.1)).sum))]) (H' := _) (kc' := 0) (ks' := 0) rfl ?_
      refine RP.get (ci := 3) rfl hY.1 rfl rfl ?_
      refine RP.blk 1 (pc' := 18) (lv' := [(2, .int (nI i)), (1, .int (nI (((rs.take i).map (fun x => x.2.2.1)).sum))), (0, .ref 84)]) (st' := [.int (nI i), .ref 85, .int (nI (((rs.take i).map (fun x => x.2.2.1)).sum))]) (H' := _) (kc' := 0) (ks' := 0) rfl ?_
      refine RP.aaldN (j := i) rfl hQ (by omega) (by decide) (by decide) (hQ2 i (by omega)) ?_
      refine RP.get (ci := 6) rfl h1 rfl rfl ?_
      refine RP.blk 1 (pc' := 23) (lv' := [(2, .int (nI i)), (1, .int (nI (((rs.take i).map (fun x => x.2.2.1)).sum))), (0, .ref 84)]) (st' := [.int (nI (((rs.take i).map (fun x => x.2.2.1)).sum) + nI x.2.2.1)]) (H' := _) (kc' := 0) (ks' := 0) rfl ?_
      rw [show (nI (((rs.take i).map (fun x => x.2.2.1)).sum) + nI x.2.2.1 : Int32) = nI (((rs.take i).map (fun x => x.2.2.1)).sum + x.2.2.1) from nI_add (((rs.take i).map (fun x => x.2.2.1)).sum) x.2.2.1]
      refine RP.blk 2 (pc' := 27) (lv' := [(2, .int (nI i + 1)), (1, .int (nI (((rs.take i).map (fun x => x.2.2.1)).sum + x.2.2.1))), (0, .ref 84)]) (st' := []) (H' := _) (kc' := 0) (ks' := 0) rfl ?_
      rw [show (nI i + 1 : Int32) = nI (i + 1) from nI_add i 1]
      refine RP.blk 1 (pc' := 4) (lv' := [(2, .int (nI (i + 1))), (1, .int (nI (((rs.take i).map (fun x => x.2.2.1)).sum + x.2.2.1))), (0, .ref 84)]) (st' := []) (H' := _) (kc' := 0) (ks' := 0) rfl ?_
      exact kk
    · rw [List.take_of_length_le (Nat.le_refl _)]
      refine RP.blk 2 (pc' := 6) (lv' := [(2, .int (nI rs.length)), (1, .int (nI (((rs).map (fun x => x.2.2.1)).sum))), (0, .ref 84)]) (st' := [.ref 84, .int (nI rs.length)]) (H' := _) (kc' := 0) (ks' := 0) rfl ?_
      refine RP.get (ci := 3) rfl hY.1 rfl rfl ?_
      refine RP.brT rfl rfl rfl (cT_ge rs.length rs.length) ?_
      refine RP.blk 1 (pc' := 31) (lv' := [(2, .int (nI rs.length)), (1, .int (nI (((rs).map (fun x => x.2.2.1)).sum))), (0, .ref 84)]) (st' := [.int (nI (((rs).map (fun x => x.2.2.1)).sum))]) (H' := _) (kc' := 0) (ks' := 0) rfl ?_
      exact RP.done (c := 0) (s := 0) rfl rfl rfl rfl
  exact start
theorem tw_all {α : Type} {p : α → Bool} : ∀ {l : List α} {n : Nat}, n ≤ l.length → (∀ i x, i < n → l[i]? = some x → p x = true) → (n = l.length ∨ ∃ x, l[n]? = some x ∧ p x = false) → (l.takeWhile p).length = n
  | [], n, hn, _, _ => by have : n = 0 := Nat.le_zero.mp hn; rw [this]; rfl
  | a :: l, 0, _, _, h => by
    rcases h with h | ⟨x, h1, h2⟩
    · cases h
    · have e : a = x := Option.some.inj h1
      rw [List.takeWhile_cons, e, h2]
      rfl
  | a :: l, n + 1, hn, h1, h => by
    rw [List.takeWhile_cons, h1 0 a (by omega) rfl, if_pos rfl, List.length_cons, tw_all (n := n) (by simpa using hn) (fun i x hi hx => h1 (i + 1) x (by omega) hx) (by
      rcases h with h | h
      · exact Or.inl (by simpa using h)
      · exact Or.inr h)]
theorem rc_firstRun {sc : Nat × (Nat → Int32)} {d l : Nat} {H : aH} {B : Nat} {lgs : List Nat} {fr ff : Nat} {wr : Bool} {tp : Nat} {rs : List aR} {ms mt sq tu : Nat} {us : Nat → Bool} (h : LayIs H B lgs fr ff wr tp rs ms mt sq tu us) (hB : B ≤ 128) (hl : l < 2 ^ 31) (hlv : ∀ x ∈ rs, x.1 < 2 ^ 31) : RC sc d mr_119 [.ref 84, .int (nI l)] H (.inl (some (.int (nI (rs.takeWhile (fun x => decide (x.1 < l))).length)))) H 0 0 := by
  obtain ⟨lg, pi, hY, hlg, hlc, hRs⟩ := h
  obtain ⟨⟨Q, hQ, hQ2⟩, hpi, hinj, hrun, hall, hrl⟩ := hRs
  refine RC.of ?_
  refine RQ.blk 2 (pc' := 2) (lv' := [(2, .int 0), (0, .ref 84), (1, .int (nI l))]) (st' := []) (H' := _) (kc' := 0) (ks' := 0) rfl ?_
  refine RQ.loopQ (pc := 2) (fun i => ∀ j x, j < i → rs[j]? = some x → decide (x.1 < l) = true) (fun i => [(2, .int (nI i)), (0, .ref 84), (1, .int (nI l))]) rs.length (fun i hi h0 ih => ?_) (fun h0 => ?_) (fun j x hj => absurd hj (Nat.not_lt_zero _))
  · obtain ⟨x, hx⟩ := lt_get hi
    have hx1 := hlv x (List.mem_of_getElem? hx)
    obtain ⟨f, h1, h2, -⟩ := hrun i x hx
    refine RQ.blk 2 (pc' := 4) (lv' := [(2, .int (nI i)), (0, .ref 84), (1, .int (nI l))]) (st' := [.ref 84, .int (nI i)]) (H' := _) (kc' := 0) (ks' := 0) rfl ?_
    refine RQ.get (ci := 3) rfl hY.1 rfl rfl ?_
    refine RQ.brF rfl rfl rfl (cF_ge i rs.length) ?_
    refine RQ.blk 1 (pc' := 11) (lv' := [(2, .int (nI i)), (0, .ref 84), (1, .int (nI l))]) (st' := [.ref 84]) (H' := _) (kc' := 0) (ks' := 0) rfl ?_
    refine RQ.get (ci := 3) rfl hY.1 rfl rfl ?_
    refine RQ.blk 1 (pc' := 15) (lv' := [(2, .int (nI i)), (0, .ref 84), (1, .int (nI l))]) (st' := [.int (nI i), .ref 85]) (H' := _) (kc' := 0) (ks' := 0) rfl ?_
    refine RQ.aaldN (j := i) rfl hQ (by omega) (by decide) (by decide) (hQ2 i (by omega)) ?_
    refine RQ.get (ci := 6) rfl h1 rfl rfl ?_
    refine RQ.blk 1 (pc' := 20) (lv' := [(2, .int (nI i)), (0, .ref 84), (1, .int (nI l))]) (st' := [.int (nI l), .int (nI x.1)]) (H' := _) (kc' := 0) (ks' := 0) rfl ?_
    by_cases hlt : x.1 < l
    ·
      refine RQ.brF rfl rfl rfl (cF_ge x.1 l) ?_
      refine RQ.blk 1 (pc' := 26) (lv' := [(2, .int (nI i + 1)), (0, .ref 84), (1, .int (nI l))]) (st' := []) (H' := _) (kc' := 0) (ks' := 0) rfl ?_
      rw [show (nI i + 1 : Int32) = nI (i + 1) from nI_add i 1]
      refine RQ.blk 1 (pc' := 2) (lv' := [(2, .int (nI (i + 1))), (0, .ref 84), (1, .int (nI l))]) (st' := []) (H' := _) (kc' := 0) (ks' := 0) rfl ?_
      exact ih (fun j y hj hy => (Nat.lt_succ_iff_lt_or_eq.mp hj).elim (fun h3 => h0 j y h3 hy) (fun h3 => by subst h3; have h4 := Option.some.inj (hx.symm.trans hy); rw [← h4]; exact decide_eq_true hlt))
    · rw [tw_all (Nat.le_of_lt hi) h0 (Or.inr ⟨x, hx, decide_eq_false hlt⟩)]
      refine RQ.brT rfl rfl rfl (cT_ge x.1 l) ?_
      refine RQ.blk 1 (pc' := 30) (lv' := [(2, .int (nI i)), (0, .ref 84), (1, .int (nI l))]) (st' := [.int (nI i)]) (H' := _) (kc' := 0) (ks' := 0) rfl ?_
      exact RQ.done (c := 0) (s := 0) rfl rfl rfl rfl rfl
  · rw [tw_all (Nat.le_refl _) h0 (Or.inl rfl)]
    refine RQ.blk 2 (pc' := 4) (lv' := [(2, .int (nI rs.length)), (0, .ref 84), (1, .int (nI l))]) (st' := [.ref 84, .int (nI rs.length)]) (H' := _) (kc' := 0) (ks' := 0) rfl ?_
    refine RQ.get (ci := 3) rfl hY.1 rfl rfl ?_
    refine RQ.brT rfl rfl rfl (cT_ge rs.length rs.length) ?_
    refine RQ.blk 1 (pc' := 30) (lv' := [(2, .int (nI rs.length)), (0, .ref 84), (1, .int (nI l))]) (st' := [.int (nI rs.length)]) (H' := _) (kc' := 0) (ks' := 0) rfl ?_
    exact RQ.done (c := 0) (s := 0) rfl rfl rfl rfl rfl
theorem rc_usesL {sc : Nat × (Nat → Int32)} {d b : Nat} {H : aH} {B : Nat} {lgs : List Nat} {fr ff : Nat} {wr : Bool} {tp : Nat} {rs : List aR} {ms mt sq tu : Nat} {us : Nat → Bool} (h : LayIs H B lgs fr ff wr tp rs ms mt sq tu us) (hB : B ≤ 128) (hb : b < 2 ^ 30) (hl30 : ∀ x ∈ lgs, x < 2 ^ 30) (hi30 : ∀ x ∈ rs, ∀ y ∈ x.2.2.2, y < 2 ^ 30) : RC sc d mr_105 [.ref 84, .int (nI b)] H (.inl (some (.int (nI (usesL lgs rs b))))) H 0 0 := by
  obtain ⟨lg, pi, hY, hlg, hlc, hRs⟩ := h
  obtain ⟨⟨Q, hQ, hQ2⟩, hpi, hinj, hrun, hall, hrl⟩ := hRs
  refine RC.of ?_
  have fin : RQ sc d mr_105 47 [(3, .int (nI 0)), (2, .int (nI ((if b < 2 then 1 else 0) + lgs.count b + ((rs.take 0).map (fun x => x.2.2.2.count b)).sum))), (0, .ref 84), (1, .int (nI b))] [] H 0 0 (fun r => r = (.inl (some (.int (nI (usesL lgs rs b)))), H, 0, 0)) := by
    refine RQ.loopQ (pc := 47) (fun _ => True) (fun i => [(3, .int (nI i)), (2, .int (nI ((if b < 2 then 1 else 0) + lgs.count b + ((rs.take i).map (fun x => x.2.2.2.count b)).sum))), (0, .ref 84), (1, .int (nI b))]) rs.length (fun i hi _ ih => ?_) (fun _ => ?_) trivial
    · have ih := ih trivial
      obtain ⟨x, hx⟩ := lt_get hi
      obtain ⟨f, h1, h2, h3, h4⟩ := hrun i x hx
      rw [sum_take hx, ← Nat.add_assoc] at ih
      refine RQ.blk 2 (pc' := 49) (lv' := [(3, .int (nI i)), (2, .int (nI ((if b < 2 then 1 else 0) + lgs.count b + ((rs.take i).map (fun x => x.2.2.2.count b)).sum))), (0, .ref 84), (1, .int (nI b))]) (st' := [.ref 84, .int (nI i)]) (H' := _) (kc' := 0) (ks' := 0) rfl ?_
      refine RQ.get (ci := 3) rfl hY.1 rfl rfl ?_
      refine RQ.brF rfl rfl rfl (cF_ge i rs.length) ?_
      refine RQ.blk 2 (pc' := 58) (lv' := [(4, .int 0), (3, .int (nI i)), (2, .int (nI ((if b < 2 then 1 else 0) + lgs.count b + ((rs.take i).map (fun x => x.2.2.2.count b)).sum))), (0, .ref 84), (1, .int (nI b))]) (st' := []) (H' := _) (kc' := 0) (ks' := 0) rfl ?_
      refine RQ.loopQ (pc := 58) (fun _ => True) (fun k => [(4, .int (nI k)), (3, .int (nI i)), (2, .int (nI ((if b < 2 then 1 else 0) + lgs.count b + ((rs.take i).map (fun x => x.2.2.2.count b)).sum + (x.2.2.2.take k).count b))), (0, .ref 84), (1, .int (nI b))]) x.2.2.2.length (fun k hk _ ih2 => ?_) (fun _ => ?_) trivial
      · have ih2 := ih2 trivial
        obtain ⟨y, hy⟩ := lt_get hk
        have hy30 := hi30 x (List.mem_of_getElem? hx) y (List.mem_of_getElem? hy)
        rw [count_take hy, ← Nat.add_assoc] at ih2
        refine RQ.blk 2 (pc' := 61) (lv' := [(4, .int (nI k)), (3, .int (nI i)), (2, .int (nI ((if b < 2 then 1 else 0) + lgs.count b + ((rs.take i).map (fun x => x.2.2.2.count b)).sum + (x.2.2.2.take k).count b))), (0, .ref 84), (1, .int (nI b))]) (st' := [.ref 84, .int (nI k)]) (H' := _) (kc' := 0) (ks' := 0) rfl ?_
        refine RQ.get (ci := 3) rfl hY.1 rfl rfl ?_
        refine RQ.blk 1 (pc' := 65) (lv' := [(4, .int (nI k)), (3, .int (nI i)), (2, .int (nI ((if b < 2 then 1 else 0) + lgs.count b + ((rs.take i).map (fun x => x.2.2.2.count b)).sum + (x.2.2.2.take k).count b))), (0, .ref 84), (1, .int (nI b))]) (st' := [.int (nI i), .ref 85, .int (nI k)]) (H' := _) (kc' := 0) (ks' := 0) rfl ?_
        refine RQ.aaldN (j := i) rfl hQ (by omega) (by decide) (by decide) (hQ2 i (by omega)) ?_
        refine RQ.get (ci := 6) rfl h1 rfl rfl ?_
        refine RQ.brF rfl rfl rfl (cF_ge k x.2.2.2.length) ?_
        refine RQ.blk 2 (pc' := 74) (lv' := [(4, .int (nI k)), (3, .int (nI i)), (2, .int (nI ((if b < 2 then 1 else 0) + lgs.count b + ((rs.take i).map (fun x => x.2.2.2.count b)).sum + (x.2.2.2.take k).count b))), (0, .ref 84), (1, .int (nI b))]) (st' := [.ref 84, .int (nI ((if b < 2 then 1 else 0) + lgs.count b + ((rs.take i).map (fun x => x.2.2.2.count b)).sum + (x.2.2.2.take k).count b))]) (H' := _) (kc' := 0) (ks' := 0) rfl ?_
        refine RQ.get (ci := 3) rfl hY.1 rfl rfl ?_
        refine RQ.blk 1 (pc' := 78) (lv' := [(4, .int (nI k)), (3, .int (nI i)), (2, .int (nI ((if b < 2 then 1 else 0) + lgs.count b + ((rs.take i).map (fun x => x.2.2.2.count b)).sum + (x.2.2.2.take k).count b))), (0, .ref 84), (1, .int (nI b))]) (st' := [.int (nI i), .ref 85, .int (nI ((if b < 2 then 1 else 0) + lgs.count b + ((rs.take i).map (fun x => x.2.2.2.count b)).sum + (x.2.2.2.take k).count b))]) (H' := _) (kc' := 0) (ks' := 0) rfl ?_
        refine RQ.aaldN (j := i) rfl hQ (by omega) (by decide) (by decide) (hQ2 i (by omega)) ?_
        refine RQ.get (ci := 6) rfl h1 rfl rfl ?_
        refine RQ.blk 1 (pc' := 84) (lv' := [(4, .int (nI k)), (3, .int (nI i)), (2, .int (nI ((if b < 2 then 1 else 0) + lgs.count b + ((rs.take i).map (fun x => x.2.2.2.count b)).sum + (x.2.2.2.take k).count b))), (0, .ref 84), (1, .int (nI b))]) (st' := [.int (nI k), .ref (((pi i) + 1) + 1), .int (nI ((if b < 2 then 1 else 0) + lgs.count b + ((rs.take i).map (fun x => x.2.2.2.count b)).sum + (x.2.2.2.take k).count b))]) (H' := _) (kc' := 0) (ks' := 0) rfl ?_
        refine RQ.ialdN (j := k) rfl h2 (by omega) (by decide) ?_
        rw [h3 k y hy]
        refine RQ.blk 1 (pc' := 86) (lv' := [(4, .int (nI k)), (3, .int (nI i)), (2, .int (nI ((if b < 2 then 1 else 0) + lgs.count b + ((rs.take i).map (fun x => x.2.2.2.count b)).sum + (x.2.2.2.take k).count b))), (0, .ref 84), (1, .int (nI b))]) (st' := [.int (nI b), .int (nI y), .int (nI ((if b < 2 then 1 else 0) + lgs.count b + ((rs.take i).map (fun x => x.2.2.2.count b)).sum + (x.2.2.2.take k).count b))]) (H' := _) (kc' := 0) (ks' := 0) rfl ?_
        by_cases hyb : y = b
        · rw [if_pos hyb] at ih2
          refine RQ.brF rfl rfl rfl (cF_ne y b) ?_
          refine RQ.blk 3 (pc' := 95) (lv' := [(4, .int (nI k)), (3, .int (nI i)), (2, .int (nI ((if b < 2 then 1 else 0) + lgs.count b + ((rs.take i).map (fun x => x.2.2.2.count b)).sum + (x.2.2.2.take k).count b))), (0, .ref 84), (1, .int (nI b))]) (st' := [.int (nI ((if b < 2 then 1 else 0) + lgs.count b + ((rs.take i).map (fun x => x.2.2.2.count b)).sum + (x.2.2.2.take k).count b) + 1)]) (H' := _) (kc' := 0) (ks' := 0) rfl ?_
          rw [show (nI ((if b < 2 then 1 else 0) + lgs.count b + ((rs.take i).map (fun x => x.2.2.2.count b)).sum + (x.2.2.2.take k).count b) + 1 : Int32) = nI ((if b < 2 then 1 else 0) + lgs.count b + ((rs.take i).map (fun x => x.2.2.2.count b)).sum + (x.2.2.2.take k).count b + 1) from nI_add ((if b < 2 then 1 else 0) + lgs.count b + ((rs.take i).map (fun x => x.2.2.2.count b)).sum + (x.2.2.2.take k).count b) 1]
          refine RQ.blk 2 (pc' := 99) (lv' := [(4, .int (nI k + 1)), (2, .int (nI ((if b < 2 then 1 else 0) + lgs.count b + ((rs.take i).map (fun x => x.2.2.2.count b)).sum + (x.2.2.2.take k).count b + 1))), (3, .int (nI i)), (0, .ref 84), (1, .int (nI b))]) (st' := []) (H' := _) (kc' := 0) (ks' := 0) rfl ?_
          rw [show (nI k + 1 : Int32) = nI (k + 1) from nI_add k 1]
          refine RQ.blk 1 (pc' := 58) (lv' := [(4, .int (nI (k + 1))), (2, .int (nI ((if b < 2 then 1 else 0) + lgs.count b + ((rs.take i).map (fun x => x.2.2.2.count b)).sum + (x.2.2.2.take k).count b + 1))), (3, .int (nI i)), (0, .ref 84), (1, .int (nI b))]) (st' := []) (H' := _) (kc' := 0) (ks' := 0) rfl ?_
          refine RQ.pick (a := [(4, .int (nI (k + 1))), (3, .int (nI i)), (2, .int (nI ((if b < 2 then 1 else 0) + lgs.count b + ((rs.take i).map (fun x => x.2.2.2.count b)).sum + (x.2.2.2.take k).count b + 1))), (0, .ref 84), (1, .int (nI b))]) [0, 2, 1, 3, 4] [4, 2, 3, 0, 1] rfl rfl (by decide) ?_
          exact ih2
        · rw [if_neg hyb] at ih2
          refine RQ.brT rfl rfl rfl (cT_ne y b) ?_
          refine RQ.blk 2 (pc' := 95) (lv' := [(4, .int (nI k)), (3, .int (nI i)), (2, .int (nI ((if b < 2 then 1 else 0) + lgs.count b + ((rs.take i).map (fun x => x.2.2.2.count b)).sum + (x.2.2.2.take k).count b))), (0, .ref 84), (1, .int (nI b))]) (st' := [.int (nI ((if b < 2 then 1 else 0) + lgs.count b + ((rs.take i).map (fun x => x.2.2.2.count b)).sum + (x.2.2.2.take k).count b) + 0)]) (H' := _) (kc' := 0) (ks' := 0) rfl ?_
          rw [show (nI ((if b < 2 then 1 else 0) + lgs.count b + ((rs.take i).map (fun x => x.2.2.2.count b)).sum + (x.2.2.2.take k).count b) + 0 : Int32) = nI ((if b < 2 then 1 else 0) + lgs.count b + ((rs.take i).map (fun x => x.2.2.2.count b)).sum + (x.2.2.2.take k).count b + 0) from nI_add ((if b < 2 then 1 else 0) + lgs.count b + ((rs.take i).map (fun x => x.2.2.2.count b)).sum + (x.2.2.2.take k).count b) 0]
          refine RQ.blk 2 (pc' := 99) (lv' := [(4, .int (nI k + 1)), (2, .int (nI ((if b < 2 then 1 else 0) + lgs.count b + ((rs.take i).map (fun x => x.2.2.2.count b)).sum + (x.2.2.2.take k).count b + 0))), (3, .int (nI i)), (0, .ref 84), (1, .int (nI b))]) (st' := []) (H' := _) (kc' := 0) (ks' := 0) rfl ?_
          rw [show (nI k + 1 : Int32) = nI (k + 1) from nI_add k 1]
          refine RQ.blk 1 (pc' := 58) (lv' := [(4, .int (nI (k + 1))), (2, .int (nI ((if b < 2 then 1 else 0) + lgs.count b + ((rs.take i).map (fun x => x.2.2.2.count b)).sum + (x.2.2.2.take k).count b + 0))), (3, .int (nI i)), (0, .ref 84), (1, .int (nI b))]) (st' := []) (H' := _) (kc' := 0) (ks' := 0) rfl ?_
          refine RQ.pick (a := [(4, .int (nI (k + 1))), (3, .int (nI i)), (2, .int (nI ((if b < 2 then 1 else 0) + lgs.count b + ((rs.take i).map (fun x => x.2.2.2.count b)).sum + (x.2.2.2.take k).count b + 0))), (0, .ref 84), (1, .int (nI b))]) [0, 2, 1, 3, 4] [4, 2, 3, 0, 1] rfl rfl (by decide) ?_
          exact ih2
      · rw [List.take_of_length_le (Nat.le_refl x.2.2.2.length)]
        refine RQ.blk 2 (pc' := 61) (lv' := [(4, .int (nI x.2.2.2.length)), (3, .int (nI i)), (2, .int (nI ((if b < 2 then 1 else 0) + lgs.count b + ((rs.take i).map (fun x => x.2.2.2.count b)).sum + (x.2.2.2).count b))), (0, .ref 84), (1, .int (nI b))]) (st' := [.ref 84, .int (nI x.2.2.2.length)]) (H' := _) (kc' := 0) (ks' := 0) rfl ?_
        refine RQ.get (ci := 3) rfl hY.1 rfl rfl ?_
        refine RQ.blk 1 (pc' := 65) (lv' := [(4, .int (nI x.2.2.2.length)), (3, .int (nI i)), (2, .int (nI ((if b < 2 then 1 else 0) + lgs.count b + ((rs.take i).map (fun x => x.2.2.2.count b)).sum + (x.2.2.2).count b))), (0, .ref 84), (1, .int (nI b))]) (st' := [.int (nI i), .ref 85, .int (nI x.2.2.2.length)]) (H' := _) (kc' := 0) (ks' := 0) rfl ?_
        refine RQ.aaldN (j := i) rfl hQ (by omega) (by decide) (by decide) (hQ2 i (by omega)) ?_
        refine RQ.get (ci := 6) rfl h1 rfl rfl ?_
        refine RQ.brT rfl rfl rfl (cT_ge x.2.2.2.length x.2.2.2.length) ?_
        refine RQ.blk 1 (pc' := 105) (lv' := [(3, .int (nI i + 1)), (4, .int (nI x.2.2.2.length)), (2, .int (nI ((if b < 2 then 1 else 0) + lgs.count b + ((rs.take i).map (fun x => x.2.2.2.count b)).sum + (x.2.2.2).count b))), (0, .ref 84), (1, .int (nI b))]) (st' := []) (H' := _) (kc' := 0) (ks' := 0) rfl ?_
        rw [show (nI i + 1 : Int32) = nI (i + 1) from nI_add i 1]
        refine RQ.blk 1 (pc' := 47) (lv' := [(3, .int (nI (i + 1))), (4, .int (nI x.2.2.2.length)), (2, .int (nI ((if b < 2 then 1 else 0) + lgs.count b + ((rs.take i).map (fun x => x.2.2.2.count b)).sum + (x.2.2.2).count b))), (0, .ref 84), (1, .int (nI b))]) (st' := []) (H' := _) (kc' := 0) (ks' := 0) rfl ?_
        refine RQ.pick (a := [(3, .int (nI (i + 1))), (2, .int (nI ((if b < 2 then 1 else 0) + lgs.count b + ((rs.take i).map (fun x => x.2.2.2.count b)).sum + (x.2.2.2).count b))), (0, .ref 84), (1, .int (nI b))]) [0, 2, 3, 4] [3, 4, 2, 0, 1] rfl rfl (by decide) ?_
        exact ih
    · rw [List.take_of_length_le (Nat.le_refl rs.length)]
      refine RQ.blk 2 (pc' := 49) (lv' := [(3, .int (nI rs.length)), (2, .int (nI ((if b < 2 then 1 else 0) + lgs.count b + ((rs).map (fun x => x.2.2.2.count b)).sum))), (0, .ref 84), (1, .int (nI b))]) (st' := [.ref 84, .int (nI rs.length)]) (H' := _) (kc' := 0) (ks' := 0) rfl ?_
      refine RQ.get (ci := 3) rfl hY.1 rfl rfl ?_
      refine RQ.brT rfl rfl rfl (cT_ge rs.length rs.length) ?_
      refine RQ.blk 1 (pc' := 109) (lv' := [(3, .int (nI rs.length)), (2, .int (nI ((if b < 2 then 1 else 0) + lgs.count b + ((rs).map (fun x => x.2.2.2.count b)).sum))), (0, .ref 84), (1, .int (nI b))]) (st' := [.int (nI ((if b < 2 then 1 else 0) + lgs.count b + ((rs).map (fun x => x.2.2.2.count b)).sum))]) (H' := _) (kc' := 0) (ks' := 0) rfl ?_
      exact RQ.done (c := 0) (s := 0) rfl rfl rfl rfl rfl
  have mid : RQ sc d mr_105 13 [(3, .int (nI 0)), (2, .int (nI ((if b < 2 then 1 else 0) + (lgs.take 0).count b))), (0, .ref 84), (1, .int (nI b))] [] H 0 0 (fun r => r = (.inl (some (.int (nI (usesL lgs rs b)))), H, 0, 0)) := by
    refine RQ.loopQ (pc := 13) (fun _ => True) (fun i => [(3, .int (nI i)), (2, .int (nI ((if b < 2 then 1 else 0) + (lgs.take i).count b))), (0, .ref 84), (1, .int (nI b))]) lgs.length (fun i hi _ ih => ?_) (fun _ => ?_) trivial
    · have ih := ih trivial
      obtain ⟨y, hy⟩ := lt_get hi
      have hy30 := hl30 y (List.mem_of_getElem? hy)
      rw [count_take hy, ← Nat.add_assoc] at ih
      refine RQ.blk 2 (pc' := 15) (lv' := [(3, .int (nI i)), (2, .int (nI ((if b < 2 then 1 else 0) + (lgs.take i).count b))), (0, .ref 84), (1, .int (nI b))]) (st' := [.ref 84, .int (nI i)]) (H' := _) (kc' := 0) (ks' := 0) rfl ?_
      refine RQ.get (ci := 3) rfl hY.1 rfl rfl ?_
      refine RQ.brF rfl rfl rfl (cF_ge i lgs.length) ?_
      refine RQ.blk 2 (pc' := 23) (lv' := [(3, .int (nI i)), (2, .int (nI ((if b < 2 then 1 else 0) + (lgs.take i).count b))), (0, .ref 84), (1, .int (nI b))]) (st' := [.ref 84, .int (nI ((if b < 2 then 1 else 0) + (lgs.take i).count b))]) (H' := _) (kc' := 0) (ks' := 0) rfl ?_
      refine RQ.get (ci := 3) rfl hY.1 rfl rfl ?_
      refine RQ.blk 1 (pc' := 27) (lv' := [(3, .int (nI i)), (2, .int (nI ((if b < 2 then 1 else 0) + (lgs.take i).count b))), (0, .ref 84), (1, .int (nI b))]) (st' := [.int (nI i), .ref 88, .int (nI ((if b < 2 then 1 else 0) + (lgs.take i).count b))]) (H' := _) (kc' := 0) (ks' := 0) rfl ?_
      refine RQ.ialdN (j := i) rfl hY.2.2 (by omega) (by omega) ?_
      rw [hlg i y hy]
      refine RQ.blk 1 (pc' := 29) (lv' := [(3, .int (nI i)), (2, .int (nI ((if b < 2 then 1 else 0) + (lgs.take i).count b))), (0, .ref 84), (1, .int (nI b))]) (st' := [.int (nI b), .int (nI y), .int (nI ((if b < 2 then 1 else 0) + (lgs.take i).count b))]) (H' := _) (kc' := 0) (ks' := 0) rfl ?_
      by_cases hyb : y = b
      · rw [if_pos hyb] at ih
        refine RQ.brF rfl rfl rfl (cF_ne y b) ?_
        refine RQ.blk 3 (pc' := 38) (lv' := [(3, .int (nI i)), (2, .int (nI ((if b < 2 then 1 else 0) + (lgs.take i).count b))), (0, .ref 84), (1, .int (nI b))]) (st' := [.int (nI ((if b < 2 then 1 else 0) + (lgs.take i).count b) + 1)]) (H' := _) (kc' := 0) (ks' := 0) rfl ?_
        rw [show (nI ((if b < 2 then 1 else 0) + (lgs.take i).count b) + 1 : Int32) = nI ((if b < 2 then 1 else 0) + (lgs.take i).count b + 1) from nI_add ((if b < 2 then 1 else 0) + (lgs.take i).count b) 1]
        refine RQ.blk 2 (pc' := 42) (lv' := [(3, .int (nI i + 1)), (2, .int (nI ((if b < 2 then 1 else 0) + (lgs.take i).count b + 1))), (0, .ref 84), (1, .int (nI b))]) (st' := []) (H' := _) (kc' := 0) (ks' := 0) rfl ?_
        rw [show (nI i + 1 : Int32) = nI (i + 1) from nI_add i 1]
        refine RQ.blk 1 (pc' := 13) (lv' := [(3, .int (nI (i + 1))), (2, .int (nI ((if b < 2 then 1 else 0) + (lgs.take i).count b + 1))), (0, .ref 84), (1, .int (nI b))]) (st' := []) (H' := _) (kc' := 0) (ks' := 0) rfl ?_
        exact ih
      · rw [if_neg hyb] at ih
        refine RQ.brT rfl rfl rfl (cT_ne y b) ?_
        refine RQ.blk 2 (pc' := 38) (lv' := [(3, .int (nI i)), (2, .int (nI ((if b < 2 then 1 else 0) + (lgs.take i).count b))), (0, .ref 84), (1, .int (nI b))]) (st' := [.int (nI ((if b < 2 then 1 else 0) + (lgs.take i).count b) + 0)]) (H' := _) (kc' := 0) (ks' := 0) rfl ?_
        rw [show (nI ((if b < 2 then 1 else 0) + (lgs.take i).count b) + 0 : Int32) = nI ((if b < 2 then 1 else 0) + (lgs.take i).count b + 0) from nI_add ((if b < 2 then 1 else 0) + (lgs.take i).count b) 0]
        refine RQ.blk 2 (pc' := 42) (lv' := [(3, .int (nI i + 1)), (2, .int (nI ((if b < 2 then 1 else 0) + (lgs.take i).count b + 0))), (0, .ref 84), (1, .int (nI b))]) (st' := []) (H' := _) (kc' := 0) (ks' := 0) rfl ?_
        rw [show (nI i + 1 : Int32) = nI (i + 1) from nI_add i 1]
        refine RQ.blk 1 (pc' := 13) (lv' := [(3, .int (nI (i + 1))), (2, .int (nI ((if b < 2 then 1 else 0) + (lgs.take i).count b + 0))), (0, .ref 84), (1, .int (nI b))]) (st' := []) (H' := _) (kc' := 0) (ks' := 0) rfl ?_
        exact ih
    · rw [List.take_of_length_le (Nat.le_refl lgs.length)]
      refine RQ.blk 2 (pc' := 15) (lv' := [(3, .int (nI lgs.length)), (2, .int (nI ((if b < 2 then 1 else 0) + (lgs).count b))), (0, .ref 84), (1, .int (nI b))]) (st' := [.ref 84, .int (nI lgs.length)]) (H' := _) (kc' := 0) (ks' := 0) rfl ?_
      refine RQ.get (ci := 3) rfl hY.1 rfl rfl ?_
      refine RQ.brT rfl rfl rfl (cT_ge lgs.length lgs.length) ?_
      refine RQ.blk 2 (pc' := 47) (lv' := [(3, .int 0), (2, .int (nI ((if b < 2 then 1 else 0) + (lgs).count b))), (0, .ref 84), (1, .int (nI b))]) (st' := []) (H' := _) (kc' := 0) (ks' := 0) rfl ?_
      exact RQ.pick [0, 1, 2, 3] [3, 2, 0, 1] rfl rfl (by decide) fin
  refine RQ.blk 2 (pc' := 2) (lv' := [(0, .ref 84), (1, .int (nI b))]) (st' := [.int 2, .int (nI b)]) (H' := _) (kc' := 0) (ks' := 0) rfl ?_
  by_cases hb2 : b < 2
  · have m2 := mid
    rw [if_pos hb2] at m2
    refine RQ.brF rfl rfl rfl (cF_ge b 2) ?_
    refine RQ.blk 5 (pc' := 13) (lv' := [(3, .int 0), (2, .int 1), (0, .ref 84), (1, .int (nI b))]) (st' := []) (H' := _) (kc' := 0) (ks' := 0) rfl ?_
    exact m2
  · have m2 := mid
    rw [if_neg hb2] at m2
    refine RQ.brT rfl rfl rfl (cT_ge b 2) ?_
    refine RQ.blk 4 (pc' := 13) (lv' := [(3, .int 0), (2, .int 0), (0, .ref 84), (1, .int (nI b))]) (st' := []) (H' := _) (kc' := 0) (ks' := 0) rfl ?_
    exact m2
