/-! ===== tables are in order and tell of all that is not alone; class; written by wip/gen/tsnd.py ===== -/
/-- entries in their order -/
def SortE (es : List aT) : Prop := es.Pairwise (fun a b => befE a b = true)
theorem SortE.at {es : List aT} (h : SortE es) {i : Nat} {a b : aT} (ha : es[i]? = some a) (hb : es[i + 1]? = some b) : befE a b = true := by
  have hi := get_lt hb
  rw [List.getElem?_eq_getElem (by omega)] at ha
  rw [List.getElem?_eq_getElem hi] at hb
  rw [← Option.some.inj ha, ← Option.some.inj hb]
  exact List.pairwise_iff_getElem.mp h i (i + 1) (by omega) hi (by omega)
theorem befE_iff {a b : aT} : befE a b = true ↔ cmpL a.1 b.1 < 0 ∨ (a.1 = b.1 ∧ b.2.1 < a.2.1) := by
  unfold befE
  rw [Bool.or_eq_true, Bool.and_eq_true, decide_eq_true_iff, decide_eq_true_iff, decide_eq_true_iff]
/-- what is told so far -/
def TlO (tl : Nat → Bool) (od : Nat → Nat) (vs : List aV) (es : List aT) : Prop := ∀ e ∈ es, tellsV vs e = true → ∀ (j : Nat) (v : aV), vs[j]? = some v → v.1 = e.1 → v.2.1 = e.2.1 → tl (od j) = true
theorem cmp_gt0 {x : Int32} {z : Int} (h : x.toInt = z) : 0 < x ↔ 0 < z := by
  rw [Int32.lt_iff_toInt_lt, h]
  rfl
theorem srt_inj {kf : Nat → Int8} {kl mo od : Nat → Nat} {sz i j : Nat} (hs : srt kf kl mo od sz) (hi : i < sz) (hj : j < sz) (h1 : keyO kf kl od i = keyO kf kl od j) (h2 : mo (od i) = mo (od j)) : i = j := by
  rcases Nat.lt_trichotomy i j with h | h | h
  · rcases hs i j h hj with e | ⟨-, e⟩
    · have e : cmpL (keyO kf kl od i) (keyO kf kl od j) < 0 := e
      rw [h1] at e
      exact absurd e cmpL_irr
    · omega
  · exact h
  · rcases hs j i h hi with e | ⟨-, e⟩
    · have e : cmpL (keyO kf kl od j) (keyO kf kl od i) < 0 := e
      rw [h1] at e
      exact absurd e cmpL_irr
    · omega
theorem nI_lt_iff {a b : Nat} (ha : a < 2 ^ 31) (hb : b < 2 ^ 31) : nI a < nI b ↔ a < b := by
  constructor
  · intro h
    by_cases e : a < b
    · exact e
    · have h9 := cF_lt (x := nI a) (y := nI b) a b (by omega) ha rfl rfl
      exact absurd h (of_decide_eq_false h9)
  · intro h
    exact of_decide_eq_true (cT_lt (x := nI a) (y := nI b) a b h hb rfl rfl)
set_option maxRecDepth 20000 in
theorem ri_inOrder {sc : Nat × (Nat → Int32)} {d lm bf gm r : Nat} {H : aH} {N : Nat} {kf : Nat → Int8} {kl mo pl : Nat → Nat} {le : Nat → Option Nat} {al : Nat → Bool} {od sp : Nat → Nat} {sz ss ac : Nat} {B : Nat} {cf : Nat → Int8} {tf : Nat → Nat} {pq : Option Nat} {bb : Nat} {cu : Nat → Option Nat} {vs : List aV} {x : aR} {es : List aT} {tl0 : Nat → Bool} (hA : VersAt H N kf kl mo pl le al od sp sz ss ac) (hW : VersWf N kf kl mo pl le al od sp sz ss ac) (hvs : vs = vsL kf kl mo pl le al od sz) (hTb : H[136]? = some (kO 8 (tabF lm bf gm))) (hlm : lm < 2 ^ 30) (hLA : LastA H) (hCu : H[137]? = some (kQ 6 24 cu)) (hcu0 : cu 0 = some 142) (hCA : CurA H 142) (hC : ChipAt H B cf tf pq bb 0) (hB : B ≤ 128) (hR : RunIs H r x) (hr1 : 88 ≤ r) (hr2 : r < 135) (hO : RunOk cf B x es) (hS : SortE es) (htl : H[141]? = some (kZ N tl0)) : RI sc (d + 3) mr_205 [.ref 137, .ref (r + 1)] H (fun y H' => y = 1 ∧ CurA H' 142 ∧ LastA H' ∧ (∃ lm, lm < 2 ^ 30 ∧ H'[136]? = some (kO 8 (tabF lm bf gm))) ∧ (∃ tl, H'[141]? = some (kZ N tl) ∧ (∀ j, tl0 j = true → tl j = true) ∧ TlO tl od vs es) ∧ ∀ a, ¬ (a = 136 ∨ a = 138 ∨ a = 139 ∨ a = 141 ∨ a = 142 ∨ a = 143) → H'[a]? = H[a]?) := by
  have hN2 := hW.1.1
  have hszN := hW.1.2.1
  have hsz : vs.length = sz := by rw [hvs]; unfold vsL; rw [List.length_map, List.length_range]
  obtain ⟨ln, lb0, hln, hL8, hL9⟩ := hLA
  obtain ⟨g, rn, o1, kl1, mo1, pl1, le1, en1, hg1, hq1⟩ := hCA
  have hes31 : es.length < 2 ^ 31 := by have := hO.2.2.2.1; have := hO.2.2.2.2.2.2; have h7 : es.length ≤ (es.flatMap encE).length := len_fm es; have := hO.2.1; omega
  refine RI.of ?_
  refine RQ.blk 1 (pc' := 1) (lv' := [(0, .ref 137), (1, .ref (r + 1))]) (st' := [.ref 137]) (H' := _) (kc' := 0) (ks' := 0) rfl ?_
  refine RQ.get (ci := 8) rfl hTb rfl rfl ?_
  refine RQ.blk 1 (pc' := 5) (lv' := [(0, .ref 137), (1, .ref (r + 1))]) (st' := [.int 0, .ref 138]) (H' := _) (kc' := 0) (ks' := 0) rfl ?_
  refine RQ.aaldN (j := 0) rfl hCu (by omega) (by decide) (by decide) (hcu0) ?_
  refine RQ.blk 2 (pc' := 8) (lv' := [(2, .ref 143), (0, .ref 137), (1, .ref (r + 1))]) (st' := [.ref 137]) (H' := _) (kc' := 0) (ks' := 0) rfl ?_
  refine RQ.get (ci := 8) rfl hTb rfl rfl ?_
  refine RQ.blk 1 (pc' := 12) (lv' := [(2, .ref 143), (0, .ref 137), (1, .ref (r + 1))]) (st' := [.int 0, .ref 139]) (H' := _) (kc' := 0) (ks' := 0) rfl ?_
  refine RQ.put (ci := 5) rfl hL8 rfl rfl (Nat.le_of_ble_eq_true rfl) ?_
  refine RQ.blk 2 (pc' := 17) (lv' := [(2, .ref 143), (0, .ref 137), (1, .ref (r + 1))]) (st' := [.ref (r + 1), .ref 143]) (H' := _) (kc' := 0) (ks' := 0) rfl ?_
  refine RQ.call (v := none) (st' := []) rfl rfl rfl rfl rfl rfl (args_v [.ref (r + 1)] [] rfl rfl (Nat.le_of_ble_eq_true rfl) rfl ((set_far (by decide)).trans hq1) (Nat.le_of_ble_eq_true rfl)) (rc_copen (q := 142) (r := r) ((set_far (by decide)).trans hq1)) ?_
  show RQ _ _ _ _ _ _ ((H.set 138 (kO 5 [.ref 140, .int (nI 0)])).set 142 (kO 2 (curF 142 (.ref (r + 1)) 0 kl1 mo1 pl1 le1 en1))) _ _ _
  have hq2 : ((H.set 138 (kO 5 [.ref 140, .int (nI 0)])).set 142 (kO 2 (curF 142 (.ref (r + 1)) 0 kl1 mo1 pl1 le1 en1)))[142]? = some (kO 2 (curF 142 (.ref (r + 1)) (nI (offE es 0)) kl1 mo1 pl1 le1 en1)) := get_set ((set_far (by decide)).trans hq1)
  have f2 : ∀ a, a ≠ 138 → a ≠ 142 → ((H.set 138 (kO 5 [.ref 140, .int (nI 0)])).set 142 (kO 2 (curF 142 (.ref (r + 1)) 0 kl1 mo1 pl1 le1 en1)))[a]? = H[a]? := fun a a1 a2 => (set_far a2).trans (set_far a1)
  have h82 : ((H.set 138 (kO 5 [.ref 140, .int (nI 0)])).set 142 (kO 2 (curF 142 (.ref (r + 1)) 0 kl1 mo1 pl1 le1 en1)))[138]? = some (kO 5 [.ref 140, .int (nI 0)]) := (set_far (by decide)).trans (get_set hL8)
  generalize ((H.set 138 (kO 5 [.ref 140, .int (nI 0)])).set 142 (kO 2 (curF 142 (.ref (r + 1)) 0 kl1 mo1 pl1 le1 en1))) = H2 at hq2 f2 h82 ⊢
  have hC2 := hC.far (H' := H2) (fun a a1 a2 => f2 a (by omega) (by omega))
  have hR2 : RunIs H2 r x := hR.far (f2 _ (by omega) (by omega)) (f2 _ (by omega) (by omega))
  have hg2 := (f2 143 (by decide) (by decide)).trans hg1
  refine RQ.blk 1 (pc' := 21) (lv' := [(2, .ref 143), (0, .ref 137), (1, .ref (r + 1))]) (st' := [.ref 143]) (H' := _) (kc' := 0) (ks' := 0) rfl ?_
  refine RQ.callN (st' := []) rfl rfl rfl rfl rfl rfl (args_v [] [] rfl rfl (Nat.le_of_ble_eq_true rfl) rfl hq2 (Nat.le_of_ble_eq_true rfl)) (rn_cadvO (q := 142) (i := 0) hq2 hg2 hR2 hO hC2 hB (by decide) (by omega) (Nat.zero_le _)) (fun H3 hx3 => ?_)
  obtain ⟨hI3, f3⟩ := hx3
  refine RQ.blk 2 (pc' := 26) (lv' := [(3, .int 0), (2, .ref 143), (0, .ref 137), (1, .ref (r + 1))]) (st' := []) (H' := _) (kc' := 0) (ks' := 0) rfl ?_
  refine RQ.pick (a := [(3, .int 0), (2, .ref 143), (0, .ref 137), (1, .ref (r + 1))]) [0, 1, 2, 3] [3, 2, 0, 1] rfl rfl (by decide) ?_
  refine RQ.while (S := Nat) (pc := 26) (fun i H' => ∃ lm lk tl lb, i ≤ es.length ∧ CurI H' 142 r x es i ∧ H'[136]? = some (kO 8 (tabF lm bf gm)) ∧ lm < 2 ^ 30 ∧ H'[138]? = some (kO 5 [.ref 140, .int (nI lk.length)]) ∧ H'[139]? = some (kB 41 lb) ∧ sl lb 0 lk.length = lk ∧ lk.length ≤ 41 ∧ (i = 0 → lk = []) ∧ (∀ k e, i = k + 1 → es[k]? = some e → lk = e.1 ∧ lm = e.2.1) ∧ H'[141]? = some (kZ N tl) ∧ (∀ j, tl0 j = true → tl j = true) ∧ TlO tl od vs (es.take i) ∧ ∀ a, ¬ (a = 136 ∨ a = 138 ∨ a = 139 ∨ a = 141 ∨ a = 142 ∨ a = 143) → H'[a]? = H[a]?) (fun i => [(3, .int (nI i)), (2, .ref 143), (0, .ref 137), (1, .ref (r + 1))]) (fun i => es.length - i) ?_ 0 H3 ⟨lm, [], tl0, lb0, Nat.zero_le _, hI3, (f3 136 (by decide) (by decide)).trans ((f2 136 (by decide) (by decide)).trans hTb), hlm, (f3 138 (by decide) (by decide)).trans h82, (f3 139 (by decide) (by decide)).trans ((f2 139 (by decide) (by decide)).trans hL9), rfl, Nat.zero_le _, fun _ => rfl, fun k e h => absurd h (by omega), (f3 141 (by decide) (by decide)).trans ((f2 141 (by decide) (by decide)).trans htl), fun j h => h, fun e he => absurd he List.not_mem_nil, fun a ha => (f3 a (by omega) (by omega)).trans (f2 a (by omega) (by omega))⟩
  rintro i H4 ⟨lm4, lk, tl, lb, hi, hI4, hT4, hlm4, h84, h94, hlb, hlk, hi0, hik, htl4, hmono, htlo, f4⟩ ih
  have hR4 : RunIs H4 r x := hR.far (f4 _ (by omega)) (f4 _ (by omega))
  have hC4 := hC.far (H' := H4) (fun a a1 a2 => f4 a (by omega))
  have hA4 := hA.far (H' := H4) (fun a a1 a2 => f4 a (by omega))
  have hV4 : VersIs H4 N vs := ⟨_, _, _, _, _, _, _, _, _, _, _, hA4, hW, hvs⟩
  obtain ⟨rf, rk1, rk2, -⟩ := id hR4
  obtain ⟨o1', o2', -⟩ := id hO
  by_cases hil : i < es.length
  ·
    obtain ⟨g4, hg4, hE4⟩ := id hI4
    obtain ⟨e, he, hq4, hk4⟩ := hE4.resolve_right (fun e9 => by omega)
    obtain ⟨E1, E2, E3, E4, E5, E6⟩ := (hO.at he).2.2
    have hbef : (lk = [] ∨ cmpL lk e.1 < 0 ∨ (lk = e.1 ∧ e.2.1 < lm4)) := by
      cases i with
      | zero => exact Or.inl (hi0 rfl)
      | succ k =>
        obtain ⟨e', he'⟩ := lt_get (l := es) (i := k) (by omega)
        obtain ⟨b1, b2⟩ := hik k e' rfl he'
        have h9 := befE_iff.mp (hS.at he' he)
        rw [b1, b2]
        exact Or.inr h9
    have hnil : lk = [] → cmpL lk e.1 < 0 := fun h => by
      rw [h]
      cases hke : e.1 with
      | nil => rw [hke] at E1; exact absurd E1 (by decide)
      | cons a b => rw [cmpL_nil, List.length_cons]; omega
    refine RQ.blk 2 (pc' := 28) (lv' := [(3, .int (nI i)), (2, .ref 143), (0, .ref 137), (1, .ref (r + 1))]) (st' := [.ref (r + 1), .int (nI i)]) (H' := _) (kc' := 0) (ks' := 0) rfl ?_
    refine RQ.get (ci := 6) rfl rk1 rfl rfl ?_
    rw [o1']
    refine RQ.brF rfl rfl rfl (cF_ge i es.length) ?_
    refine RQ.blk 1 (pc' := 35) (lv' := [(3, .int (nI i)), (2, .ref 143), (0, .ref 137), (1, .ref (r + 1))]) (st' := [.ref 137]) (H' := _) (kc' := 0) (ks' := 0) rfl ?_
    refine RQ.get (ci := 8) rfl hT4 rfl rfl ?_
    refine RQ.get (ci := 5) rfl h84 rfl rfl ?_
    refine RQ.blk 2 (pc' := 43) (lv' := [(3, .int (nI i)), (2, .ref 143), (0, .ref 137), (1, .ref (r + 1))]) (st' := [.ref 137, .int 0, .ref 140]) (H' := _) (kc' := 0) (ks' := 0) rfl ?_
    refine RQ.get (ci := 8) rfl hT4 rfl rfl ?_
    refine RQ.get (ci := 5) rfl h84 rfl rfl ?_
    refine RQ.blk 1 (pc' := 50) (lv' := [(3, .int (nI i)), (2, .ref 143), (0, .ref 137), (1, .ref (r + 1))]) (st' := [.ref 143, .int (nI lk.length), .int 0, .ref 140]) (H' := _) (kc' := 0) (ks' := 0) rfl ?_
    refine RQ.get (ci := 2) rfl hq4 rfl rfl ?_
    refine RQ.blk 2 (pc' := 55) (lv' := [(3, .int (nI i)), (2, .ref 143), (0, .ref 137), (1, .ref (r + 1))]) (st' := [.ref 143, .int 0, .ref 144, .int (nI lk.length), .int 0, .ref 140]) (H' := _) (kc' := 0) (ks' := 0) rfl ?_
    refine RQ.get (ci := 2) rfl hq4 rfl rfl ?_
    refine RQ.callI (st' := []) rfl rfl rfl rfl rfl rfl rfl (ri_cmp (i := 0) (n := lk.length) (j := 0) (m := e.1.length) h94 hg4 (by decide) (by decide) (by omega) (by omega)) (fun y H5 hx => ?_)
    obtain ⟨eH5, hy⟩ := hx
    subst eH5
    rw [hlb, hk4] at hy
    refine RQ.blk 2 (pc' := 64) (lv' := [(4, .int y), (3, .int (nI i)), (2, .ref 143), (0, .ref 137), (1, .ref (r + 1))]) (st' := [.ref 143]) (H' := _) (kc' := 0) (ks' := 0) rfl ?_
    refine RQ.get (ci := 2) rfl hq4 rfl rfl ?_
    refine RQ.brF rfl rfl rfl (by decide) ?_
    refine RQ.blk 1 (pc' := 72) (lv' := [(4, .int y), (3, .int (nI i)), (2, .ref 143), (0, .ref 137), (1, .ref (r + 1))]) (st' := [.int y]) (H' := _) (kc' := 0) (ks' := 0) rfl ?_
    have hyle : ¬ (0 : Int32) < y := fun e9 => by have h8 := (cmp_gt0 hy).mp e9; rcases hbef with h7 | h7 | h7; have := hnil h7; omega; omega; rw [h7.1, cmpL_self] at h8; omega
    refine RQ.brF rfl rfl rfl (decide_eq_false hyle) ?_
    refine RQ.blk 1 (pc' := 77) (lv' := [(4, .int y), (3, .int (nI i)), (2, .ref 143), (0, .ref 137), (1, .ref (r + 1))]) (st' := [.int y]) (H' := _) (kc' := 0) (ks' := 0) rfl ?_
    by_cases hy0 : y = 0
    · have hlt : e.2.1 < lm4 := by rcases hbef with h7 | h7 | h7; have := hnil h7; have h6 := (cmp_eq0 hy).mp hy0; omega; have h6 := (cmp_eq0 hy).mp hy0; omega; exact h7.2
      refine RQ.brF rfl rfl rfl (bnf hy0) ?_
      refine RQ.blk 1 (pc' := 81) (lv' := [(4, .int y), (3, .int (nI i)), (2, .ref 143), (0, .ref 137), (1, .ref (r + 1))]) (st' := [.ref 137]) (H' := _) (kc' := 0) (ks' := 0) rfl ?_
      refine RQ.get (ci := 8) rfl hT4 rfl rfl ?_
      refine RQ.blk 1 (pc' := 85) (lv' := [(4, .int y), (3, .int (nI i)), (2, .ref 143), (0, .ref 137), (1, .ref (r + 1))]) (st' := [.ref 143, .int (nI lm4)]) (H' := _) (kc' := 0) (ks' := 0) rfl ?_
      refine RQ.get (ci := 2) rfl hq4 rfl rfl ?_
      refine RQ.brT rfl rfl rfl (cT_gt lm4 e.2.1) ?_
      refine RQ.blk 2 (pc' := 95) (lv' := [(4, .int y), (3, .int (nI i)), (2, .ref 143), (0, .ref 137), (1, .ref (r + 1))]) (st' := [.ref 143, .ref 137]) (H' := _) (kc' := 0) (ks' := 0) rfl ?_
      refine RQ.call (v := some (.int (if tellsV vs (sl g4 0 e.1.length, e.2.1, e.2.2.1, e.2.2.2) = true then 1 else 0))) (st' := []) rfl rfl rfl rfl rfl rfl (args_v [.ref 143] [] rfl rfl (Nat.le_of_ble_eq_true rfl) rfl hT4 (Nat.le_of_ble_eq_true rfl)) (rc_tells (n := e.1.length) (m := e.2.1) (pp := e.2.2.1) (l := e.2.2.2) (g := g4) hV4 hT4 hq4 hg4 (by omega) E3 (by omega) (by omega)) ?_
      rw [hk4, show (e.1, e.2.1, e.2.2.1, e.2.2.2) = e from rfl]
      by_cases hte : tellsV vs e = true
      · rw [if_pos hte]
        refine RQ.brF rfl rfl rfl (by decide) ?_
        refine RQ.blk 1 (pc' := 102) (lv' := [(4, .int y), (3, .int (nI i)), (2, .ref 143), (0, .ref 137), (1, .ref (r + 1))]) (st' := [.ref 137]) (H' := _) (kc' := 0) (ks' := 0) rfl ?_
        refine RQ.get (ci := 8) rfl hT4 rfl rfl ?_
        refine RQ.blk 1 (pc' := 106) (lv' := [(4, .int y), (3, .int (nI i)), (2, .ref 143), (0, .ref 137), (1, .ref (r + 1))]) (st' := [.ref 137, .ref 142]) (H' := _) (kc' := 0) (ks' := 0) rfl ?_
        refine RQ.get (ci := 8) rfl hT4 rfl rfl ?_
        refine RQ.get (ci := 10) rfl hA4.1 rfl rfl ?_
        refine RQ.blk 1 (pc' := 113) (lv' := [(4, .int y), (3, .int (nI i)), (2, .ref 143), (0, .ref 137), (1, .ref (r + 1))]) (st' := [.ref 137, .ref 82, .ref 142]) (H' := _) (kc' := 0) (ks' := 0) rfl ?_
        refine RQ.get (ci := 8) rfl hT4 rfl rfl ?_
        refine RQ.blk 1 (pc' := 117) (lv' := [(4, .int y), (3, .int (nI i)), (2, .ref 143), (0, .ref 137), (1, .ref (r + 1))]) (st' := [.ref 143, .ref 75, .ref 82, .ref 142]) (H' := _) (kc' := 0) (ks' := 0) rfl ?_
        refine RQ.get (ci := 2) rfl hq4 rfl rfl ?_
        refine RQ.blk 2 (pc' := 122) (lv' := [(4, .int y), (3, .int (nI i)), (2, .ref 143), (0, .ref 137), (1, .ref (r + 1))]) (st' := [.ref 143, .int 0, .ref 144, .ref 75, .ref 82, .ref 142]) (H' := _) (kc' := 0) (ks' := 0) rfl ?_
        refine RQ.get (ci := 2) rfl hq4 rfl rfl ?_
        refine RQ.blk 1 (pc' := 126) (lv' := [(4, .int y), (3, .int (nI i)), (2, .ref 143), (0, .ref 137), (1, .ref (r + 1))]) (st' := [.ref 143, .int (nI e.1.length), .int 0, .ref 144, .ref 75, .ref 82, .ref 142]) (H' := _) (kc' := 0) (ks' := 0) rfl ?_
        refine RQ.get (ci := 2) rfl hq4 rfl rfl ?_
        obtain ⟨k, hc⟩ := cut_ex (sl g4 0 e.1.length) (nI e.2.1) hW.2.2.2.2.2.2.2.2 (fun p hp => by have := (hW.1.2.2.2.2.2 _ (hW.1.2.2.2.1 p hp)).2.1; omega)
        have hseen := cut_seen (pl := pl) (le := le) (al := al) (m := e.2.1) hW.2.2.2.2.2.2.2.2 (fun q hq => by have h9 := (hW.1.2.2.2.2.2 _ (hW.1.2.2.2.1 q hq)).2.1; exact nI_lt_iff (by omega) (by omega)) hc
        rw [← hvs, hk4] at hseen
        have hkt : k < sz ∧ keyO kf kl od k = e.1 := by
          by_cases e9 : k < sz ∧ keyO kf kl od k = e.1
          · exact e9
          · rw [if_neg e9] at hseen
            unfold tellsV at hte
            rw [hseen] at hte
            exact absurd hte Bool.false_ne_true
        have hod := hW.1.2.2.2.1 k hkt.1
        refine RQ.call (v := some (.int (nI k))) (st' := [.ref 82, .ref 142]) rfl rfl rfl rfl rfl rfl (args_v [.int (nI e.2.1), .int (nI e.1.length), .int 0, .ref 144] [.ref 82, .ref 142] rfl rfl (Nat.le_of_ble_eq_true rfl) rfl hA4.1 (Nat.le_of_ble_eq_true rfl)) (rc_from (j := 0) (m := e.1.length) (k := k) hA4 hW.1 hg4 (by decide) (by omega) hc) ?_
        refine RQ.ialdN (j := k) rfl hA4.2.2.2.2.2.2.2.1 (by omega) (by omega) ?_
        refine RQ.blk 1 (pc' := 134) (lv' := [(4, .int y), (3, .int (nI i)), (2, .ref 143), (0, .ref 137), (1, .ref (r + 1))]) (st' := [.int 1, .int (nI (od k)), .ref 142]) (H' := _) (kc' := 0) (ks' := 0) rfl ?_
        refine RQ.zastN (j := od k) rfl htl4 (by omega) (by omega) ?_
        refine RQ.blk 2 (pc' := 137) (lv' := [(4, .int y), (3, .int (nI i)), (2, .ref 143), (0, .ref 137), (1, .ref (r + 1))]) (st' := [.ref 143, .ref 137]) (H' := _) (kc' := 0) (ks' := 0) rfl ?_
        show RQ _ _ _ _ _ _ (H5.set 141 (kZ N (va_up tl (od k) (decide ((1 : Int32) &&& 1 = 1))))) _ _ _
        have f6 : ∀ a, a ≠ 141 → (H5.set 141 (kZ N (va_up tl (od k) (decide ((1 : Int32) &&& 1 = 1)))))[a]? = H5[a]? := fun a a1 => set_far a1
        have htl6 : (H5.set 141 (kZ N (va_up tl (od k) (decide ((1 : Int32) &&& 1 = 1)))))[141]? = some (kZ N (va_up tl (od k) true)) := get_set htl4
        generalize (H5.set 141 (kZ N (va_up tl (od k) (decide ((1 : Int32) &&& 1 = 1))))) = H6 at f6 htl6 ⊢
        have hmono6 : ∀ j, tl0 j = true → (va_up tl (od k) true) j = true := fun j hj => by
          by_cases ej : j = od k
          · rw [ej, up_at]
          · rw [up_ne ej]; exact hmono j hj
        have htlo6 : TlO (va_up tl (od k) true) od vs (es.take (i + 1)) := fun e2 he2 ht2 j v hv h1 h2 => by
          rw [List.take_add_one, he] at he2
          rcases List.mem_append.mp he2 with e3 | e3
          · by_cases ej : od j = od k
            · rw [ej, up_at]
            · rw [up_ne ej]; exact htlo e2 e3 ht2 j v hv h1 h2
          · have e4 : e2 = e := List.mem_singleton.mp e3
            rw [e4] at h1 h2
            have hjl := get_lt hv
            have hv9 : v = verO kf kl mo pl le al (od j) := by rw [hvs, vsL_get (by omega)] at hv; exact (Option.some.inj hv).symm
            have hkv : verO kf kl mo pl le al (od k) ∈ vs := by rw [hvs]; exact List.mem_of_getElem? (vsL_get hkt.1)
            have hkm : mo (od k) = e.2.1 := by
              rw [if_pos hkt] at hseen
              unfold tellsV at hte
              rw [hseen] at hte
              have h9 := (Bool.and_eq_true _ _ ▸ hte : _ ∧ _).1
              exact of_decide_eq_true h9
            have hjk : j = k := srt_inj hW.2.2.2.2.2.2.2.2 (by omega) hkt.1 (by rw [hv9] at h1; exact h1.trans hkt.2.symm) (by rw [hv9] at h2; exact h2.trans hkm.symm)
            rw [hjk, up_at]
        have hT6 := (f6 136 (by decide)).trans hT4
        have h86 := (f6 138 (by decide)).trans h84
        have h96 := (f6 139 (by decide)).trans h94
        have hq6 := (f6 142 (by decide)).trans hq4
        have hg6 := (f6 143 (by decide)).trans hg4
        have hI6 := hI4.far (f6 142 (by decide)) (f6 143 (by decide))
        refine RQ.callN (st' := []) rfl rfl rfl rfl rfl rfl (args_v [.ref 143] [] rfl rfl (Nat.le_of_ble_eq_true rfl) rfl hT6 (Nat.le_of_ble_eq_true rfl)) (rn_remember (n := e.1.length) (m := e.2.1) (pp := e.2.2.1) (l := e.2.2.2) hT6 h86 h96 hlk hq6 hg6 (by omega) E3 (by omega) (by omega) (by decide)) (fun H7 hx7 => ?_)
        obtain ⟨⟨lb7, h97, hs7⟩, h87, hT7, f7⟩ := hx7
        rw [hk4] at hs7
        have hI7 := hI6.far (f7 142 (by decide) (by decide) (by decide)) (f7 143 (by decide) (by decide) (by decide))
        have hq7 := (f7 142 (by decide) (by decide) (by decide)).trans hq6
        have f8 : ∀ a, ¬ (a = 136 ∨ a = 138 ∨ a = 139 ∨ a = 141) → H7[a]? = H5[a]? := fun a ha => (f7 a (by omega) (by omega) (by omega)).trans (f6 a (by omega))
        have hR7 : RunIs H7 r x := hR4.far (f8 _ (by omega)) (f8 _ (by omega))
        have hC7 := hC4.far (H' := H7) (fun a a1 a2 => f8 a (by omega))
        refine RQ.blk 1 (pc' := 141) (lv' := [(4, .int y), (3, .int (nI i)), (2, .ref 143), (0, .ref 137), (1, .ref (r + 1))]) (st' := [.ref 143]) (H' := _) (kc' := 0) (ks' := 0) rfl ?_
        refine RQ.callN (st' := []) rfl rfl rfl rfl rfl rfl (args_v [] [] rfl rfl (Nat.le_of_ble_eq_true rfl) rfl hq7 (Nat.le_of_ble_eq_true rfl)) (rn_cadvI (q := 142) hI7 hR7 hO hC7 hB (by decide) (by omega) hil) (fun H8 hx8 => ?_)
        obtain ⟨hI8, f9⟩ := hx8
        refine RQ.blk 1 (pc' := 147) (lv' := [(3, .int (nI i + 1)), (4, .int y), (2, .ref 143), (0, .ref 137), (1, .ref (r + 1))]) (st' := []) (H' := _) (kc' := 0) (ks' := 0) rfl ?_
        rw [show (nI i + 1 : Int32) = nI (i + 1) from nI_add i 1]
        refine RQ.blk 1 (pc' := 26) (lv' := [(3, .int (nI (i + 1))), (4, .int y), (2, .ref 143), (0, .ref 137), (1, .ref (r + 1))]) (st' := []) (H' := _) (kc' := 0) (ks' := 0) rfl ?_
        refine RQ.pick (a := [(3, .int (nI (i + 1))), (2, .ref 143), (0, .ref 137), (1, .ref (r + 1))]) [0, 2, 3, 4] [3, 4, 2, 0, 1] rfl rfl (by decide) ?_
        exact ih (i + 1) H8 ⟨e.2.1, e.1, (va_up tl (od k) true), lb7, by omega, hI8, (f9 136 (by decide) (by decide)).trans hT7, E3, (f9 138 (by decide) (by decide)).trans h87, (f9 139 (by decide) (by decide)).trans h97, hs7, E2, fun h => absurd h (by omega), fun k2 e2 h1 h2 => by rw [show k2 = i by omega, he] at h2; rw [← Option.some.inj h2]; exact ⟨rfl, rfl⟩, (f9 141 (by decide) (by decide)).trans ((f7 141 (by decide) (by decide) (by decide)).trans htl6), hmono6, htlo6, fun a ha => (f9 a (by omega) (by omega)).trans ((f8 a (by omega)).trans (f4 a ha))⟩ (by omega)
      · rw [if_neg hte]
        refine RQ.brT rfl rfl rfl (by decide) ?_
        refine RQ.blk 2 (pc' := 137) (lv' := [(4, .int y), (3, .int (nI i)), (2, .ref 143), (0, .ref 137), (1, .ref (r + 1))]) (st' := [.ref 143, .ref 137]) (H' := _) (kc' := 0) (ks' := 0) rfl ?_
        have f6 : ∀ a, a ≠ 141 → H5[a]? = H5[a]? := fun a a1 => rfl
        have htl6 := htl4
        have hmono6 : ∀ j, tl0 j = true → tl j = true := fun j hj => by
          exact hmono j hj
        have htlo6 : TlO tl od vs (es.take (i + 1)) := fun e2 he2 ht2 j v hv h1 h2 => by
          rw [List.take_add_one, he] at he2
          rcases List.mem_append.mp he2 with e3 | e3
          · exact htlo e2 e3 ht2 j v hv h1 h2
          · have e4 : e2 = e := List.mem_singleton.mp e3
            rw [e4] at ht2
            exact absurd ht2 hte
        have hT6 := (f6 136 (by decide)).trans hT4
        have h86 := (f6 138 (by decide)).trans h84
        have h96 := (f6 139 (by decide)).trans h94
        have hq6 := (f6 142 (by decide)).trans hq4
        have hg6 := (f6 143 (by decide)).trans hg4
        have hI6 := hI4.far (f6 142 (by decide)) (f6 143 (by decide))
        refine RQ.callN (st' := []) rfl rfl rfl rfl rfl rfl (args_v [.ref 143] [] rfl rfl (Nat.le_of_ble_eq_true rfl) rfl hT6 (Nat.le_of_ble_eq_true rfl)) (rn_remember (n := e.1.length) (m := e.2.1) (pp := e.2.2.1) (l := e.2.2.2) hT6 h86 h96 hlk hq6 hg6 (by omega) E3 (by omega) (by omega) (by decide)) (fun H7 hx7 => ?_)
        obtain ⟨⟨lb7, h97, hs7⟩, h87, hT7, f7⟩ := hx7
        rw [hk4] at hs7
        have hI7 := hI6.far (f7 142 (by decide) (by decide) (by decide)) (f7 143 (by decide) (by decide) (by decide))
        have hq7 := (f7 142 (by decide) (by decide) (by decide)).trans hq6
        have f8 : ∀ a, ¬ (a = 136 ∨ a = 138 ∨ a = 139 ∨ a = 141) → H7[a]? = H5[a]? := fun a ha => (f7 a (by omega) (by omega) (by omega)).trans (f6 a (by omega))
        have hR7 : RunIs H7 r x := hR4.far (f8 _ (by omega)) (f8 _ (by omega))
        have hC7 := hC4.far (H' := H7) (fun a a1 a2 => f8 a (by omega))
        refine RQ.blk 1 (pc' := 141) (lv' := [(4, .int y), (3, .int (nI i)), (2, .ref 143), (0, .ref 137), (1, .ref (r + 1))]) (st' := [.ref 143]) (H' := _) (kc' := 0) (ks' := 0) rfl ?_
        refine RQ.callN (st' := []) rfl rfl rfl rfl rfl rfl (args_v [] [] rfl rfl (Nat.le_of_ble_eq_true rfl) rfl hq7 (Nat.le_of_ble_eq_true rfl)) (rn_cadvI (q := 142) hI7 hR7 hO hC7 hB (by decide) (by omega) hil) (fun H8 hx8 => ?_)
        obtain ⟨hI8, f9⟩ := hx8
        refine RQ.blk 1 (pc' := 147) (lv' := [(3, .int (nI i + 1)), (4, .int y), (2, .ref 143), (0, .ref 137), (1, .ref (r + 1))]) (st' := []) (H' := _) (kc' := 0) (ks' := 0) rfl ?_
        rw [show (nI i + 1 : Int32) = nI (i + 1) from nI_add i 1]
        refine RQ.blk 1 (pc' := 26) (lv' := [(3, .int (nI (i + 1))), (4, .int y), (2, .ref 143), (0, .ref 137), (1, .ref (r + 1))]) (st' := []) (H' := _) (kc' := 0) (ks' := 0) rfl ?_
        refine RQ.pick (a := [(3, .int (nI (i + 1))), (2, .ref 143), (0, .ref 137), (1, .ref (r + 1))]) [0, 2, 3, 4] [3, 4, 2, 0, 1] rfl rfl (by decide) ?_
        exact ih (i + 1) H8 ⟨e.2.1, e.1, tl, lb7, by omega, hI8, (f9 136 (by decide) (by decide)).trans hT7, E3, (f9 138 (by decide) (by decide)).trans h87, (f9 139 (by decide) (by decide)).trans h97, hs7, E2, fun h => absurd h (by omega), fun k2 e2 h1 h2 => by rw [show k2 = i by omega, he] at h2; rw [← Option.some.inj h2]; exact ⟨rfl, rfl⟩, (f9 141 (by decide) (by decide)).trans ((f7 141 (by decide) (by decide) (by decide)).trans htl6), hmono6, htlo6, fun a ha => (f9 a (by omega) (by omega)).trans ((f8 a (by omega)).trans (f4 a ha))⟩ (by omega)
    · refine RQ.brT rfl rfl rfl (bnt hy0) ?_
      refine RQ.blk 2 (pc' := 95) (lv' := [(4, .int y), (3, .int (nI i)), (2, .ref 143), (0, .ref 137), (1, .ref (r + 1))]) (st' := [.ref 143, .ref 137]) (H' := _) (kc' := 0) (ks' := 0) rfl ?_
      refine RQ.call (v := some (.int (if tellsV vs (sl g4 0 e.1.length, e.2.1, e.2.2.1, e.2.2.2) = true then 1 else 0))) (st' := []) rfl rfl rfl rfl rfl rfl (args_v [.ref 143] [] rfl rfl (Nat.le_of_ble_eq_true rfl) rfl hT4 (Nat.le_of_ble_eq_true rfl)) (rc_tells (n := e.1.length) (m := e.2.1) (pp := e.2.2.1) (l := e.2.2.2) (g := g4) hV4 hT4 hq4 hg4 (by omega) E3 (by omega) (by omega)) ?_
      rw [hk4, show (e.1, e.2.1, e.2.2.1, e.2.2.2) = e from rfl]
      by_cases hte : tellsV vs e = true
      · rw [if_pos hte]
        refine RQ.brF rfl rfl rfl (by decide) ?_
        refine RQ.blk 1 (pc' := 102) (lv' := [(4, .int y), (3, .int (nI i)), (2, .ref 143), (0, .ref 137), (1, .ref (r + 1))]) (st' := [.ref 137]) (H' := _) (kc' := 0) (ks' := 0) rfl ?_
        refine RQ.get (ci := 8) rfl hT4 rfl rfl ?_
        refine RQ.blk 1 (pc' := 106) (lv' := [(4, .int y), (3, .int (nI i)), (2, .ref 143), (0, .ref 137), (1, .ref (r + 1))]) (st' := [.ref 137, .ref 142]) (H' := _) (kc' := 0) (ks' := 0) rfl ?_
        refine RQ.get (ci := 8) rfl hT4 rfl rfl ?_
        refine RQ.get (ci := 10) rfl hA4.1 rfl rfl ?_
        refine RQ.blk 1 (pc' := 113) (lv' := [(4, .int y), (3, .int (nI i)), (2, .ref 143), (0, .ref 137), (1, .ref (r + 1))]) (st' := [.ref 137, .ref 82, .ref 142]) (H' := _) (kc' := 0) (ks' := 0) rfl ?_
        refine RQ.get (ci := 8) rfl hT4 rfl rfl ?_
        refine RQ.blk 1 (pc' := 117) (lv' := [(4, .int y), (3, .int (nI i)), (2, .ref 143), (0, .ref 137), (1, .ref (r + 1))]) (st' := [.ref 143, .ref 75, .ref 82, .ref 142]) (H' := _) (kc' := 0) (ks' := 0) rfl ?_
        refine RQ.get (ci := 2) rfl hq4 rfl rfl ?_
        refine RQ.blk 2 (pc' := 122) (lv' := [(4, .int y), (3, .int (nI i)), (2, .ref 143), (0, .ref 137), (1, .ref (r + 1))]) (st' := [.ref 143, .int 0, .ref 144, .ref 75, .ref 82, .ref 142]) (H' := _) (kc' := 0) (ks' := 0) rfl ?_
        refine RQ.get (ci := 2) rfl hq4 rfl rfl ?_
        refine RQ.blk 1 (pc' := 126) (lv' := [(4, .int y), (3, .int (nI i)), (2, .ref 143), (0, .ref 137), (1, .ref (r + 1))]) (st' := [.ref 143, .int (nI e.1.length), .int 0, .ref 144, .ref 75, .ref 82, .ref 142]) (H' := _) (kc' := 0) (ks' := 0) rfl ?_
        refine RQ.get (ci := 2) rfl hq4 rfl rfl ?_
        obtain ⟨k, hc⟩ := cut_ex (sl g4 0 e.1.length) (nI e.2.1) hW.2.2.2.2.2.2.2.2 (fun p hp => by have := (hW.1.2.2.2.2.2 _ (hW.1.2.2.2.1 p hp)).2.1; omega)
        have hseen := cut_seen (pl := pl) (le := le) (al := al) (m := e.2.1) hW.2.2.2.2.2.2.2.2 (fun q hq => by have h9 := (hW.1.2.2.2.2.2 _ (hW.1.2.2.2.1 q hq)).2.1; exact nI_lt_iff (by omega) (by omega)) hc
        rw [← hvs, hk4] at hseen
        have hkt : k < sz ∧ keyO kf kl od k = e.1 := by
          by_cases e9 : k < sz ∧ keyO kf kl od k = e.1
          · exact e9
          · rw [if_neg e9] at hseen
            unfold tellsV at hte
            rw [hseen] at hte
            exact absurd hte Bool.false_ne_true
        have hod := hW.1.2.2.2.1 k hkt.1
        refine RQ.call (v := some (.int (nI k))) (st' := [.ref 82, .ref 142]) rfl rfl rfl rfl rfl rfl (args_v [.int (nI e.2.1), .int (nI e.1.length), .int 0, .ref 144] [.ref 82, .ref 142] rfl rfl (Nat.le_of_ble_eq_true rfl) rfl hA4.1 (Nat.le_of_ble_eq_true rfl)) (rc_from (j := 0) (m := e.1.length) (k := k) hA4 hW.1 hg4 (by decide) (by omega) hc) ?_
        refine RQ.ialdN (j := k) rfl hA4.2.2.2.2.2.2.2.1 (by omega) (by omega) ?_
        refine RQ.blk 1 (pc' := 134) (lv' := [(4, .int y), (3, .int (nI i)), (2, .ref 143), (0, .ref 137), (1, .ref (r + 1))]) (st' := [.int 1, .int (nI (od k)), .ref 142]) (H' := _) (kc' := 0) (ks' := 0) rfl ?_
        refine RQ.zastN (j := od k) rfl htl4 (by omega) (by omega) ?_
        refine RQ.blk 2 (pc' := 137) (lv' := [(4, .int y), (3, .int (nI i)), (2, .ref 143), (0, .ref 137), (1, .ref (r + 1))]) (st' := [.ref 143, .ref 137]) (H' := _) (kc' := 0) (ks' := 0) rfl ?_
        show RQ _ _ _ _ _ _ (H5.set 141 (kZ N (va_up tl (od k) (decide ((1 : Int32) &&& 1 = 1))))) _ _ _
        have f6 : ∀ a, a ≠ 141 → (H5.set 141 (kZ N (va_up tl (od k) (decide ((1 : Int32) &&& 1 = 1)))))[a]? = H5[a]? := fun a a1 => set_far a1
        have htl6 : (H5.set 141 (kZ N (va_up tl (od k) (decide ((1 : Int32) &&& 1 = 1)))))[141]? = some (kZ N (va_up tl (od k) true)) := get_set htl4
        generalize (H5.set 141 (kZ N (va_up tl (od k) (decide ((1 : Int32) &&& 1 = 1))))) = H6 at f6 htl6 ⊢
        have hmono6 : ∀ j, tl0 j = true → (va_up tl (od k) true) j = true := fun j hj => by
          by_cases ej : j = od k
          · rw [ej, up_at]
          · rw [up_ne ej]; exact hmono j hj
        have htlo6 : TlO (va_up tl (od k) true) od vs (es.take (i + 1)) := fun e2 he2 ht2 j v hv h1 h2 => by
          rw [List.take_add_one, he] at he2
          rcases List.mem_append.mp he2 with e3 | e3
          · by_cases ej : od j = od k
            · rw [ej, up_at]
            · rw [up_ne ej]; exact htlo e2 e3 ht2 j v hv h1 h2
          · have e4 : e2 = e := List.mem_singleton.mp e3
            rw [e4] at h1 h2
            have hjl := get_lt hv
            have hv9 : v = verO kf kl mo pl le al (od j) := by rw [hvs, vsL_get (by omega)] at hv; exact (Option.some.inj hv).symm
            have hkv : verO kf kl mo pl le al (od k) ∈ vs := by rw [hvs]; exact List.mem_of_getElem? (vsL_get hkt.1)
            have hkm : mo (od k) = e.2.1 := by
              rw [if_pos hkt] at hseen
              unfold tellsV at hte
              rw [hseen] at hte
              have h9 := (Bool.and_eq_true _ _ ▸ hte : _ ∧ _).1
              exact of_decide_eq_true h9
            have hjk : j = k := srt_inj hW.2.2.2.2.2.2.2.2 (by omega) hkt.1 (by rw [hv9] at h1; exact h1.trans hkt.2.symm) (by rw [hv9] at h2; exact h2.trans hkm.symm)
            rw [hjk, up_at]
        have hT6 := (f6 136 (by decide)).trans hT4
        have h86 := (f6 138 (by decide)).trans h84
        have h96 := (f6 139 (by decide)).trans h94
        have hq6 := (f6 142 (by decide)).trans hq4
        have hg6 := (f6 143 (by decide)).trans hg4
        have hI6 := hI4.far (f6 142 (by decide)) (f6 143 (by decide))
        refine RQ.callN (st' := []) rfl rfl rfl rfl rfl rfl (args_v [.ref 143] [] rfl rfl (Nat.le_of_ble_eq_true rfl) rfl hT6 (Nat.le_of_ble_eq_true rfl)) (rn_remember (n := e.1.length) (m := e.2.1) (pp := e.2.2.1) (l := e.2.2.2) hT6 h86 h96 hlk hq6 hg6 (by omega) E3 (by omega) (by omega) (by decide)) (fun H7 hx7 => ?_)
        obtain ⟨⟨lb7, h97, hs7⟩, h87, hT7, f7⟩ := hx7
        rw [hk4] at hs7
        have hI7 := hI6.far (f7 142 (by decide) (by decide) (by decide)) (f7 143 (by decide) (by decide) (by decide))
        have hq7 := (f7 142 (by decide) (by decide) (by decide)).trans hq6
        have f8 : ∀ a, ¬ (a = 136 ∨ a = 138 ∨ a = 139 ∨ a = 141) → H7[a]? = H5[a]? := fun a ha => (f7 a (by omega) (by omega) (by omega)).trans (f6 a (by omega))
        have hR7 : RunIs H7 r x := hR4.far (f8 _ (by omega)) (f8 _ (by omega))
        have hC7 := hC4.far (H' := H7) (fun a a1 a2 => f8 a (by omega))
        refine RQ.blk 1 (pc' := 141) (lv' := [(4, .int y), (3, .int (nI i)), (2, .ref 143), (0, .ref 137), (1, .ref (r + 1))]) (st' := [.ref 143]) (H' := _) (kc' := 0) (ks' := 0) rfl ?_
        refine RQ.callN (st' := []) rfl rfl rfl rfl rfl rfl (args_v [] [] rfl rfl (Nat.le_of_ble_eq_true rfl) rfl hq7 (Nat.le_of_ble_eq_true rfl)) (rn_cadvI (q := 142) hI7 hR7 hO hC7 hB (by decide) (by omega) hil) (fun H8 hx8 => ?_)
        obtain ⟨hI8, f9⟩ := hx8
        refine RQ.blk 1 (pc' := 147) (lv' := [(3, .int (nI i + 1)), (4, .int y), (2, .ref 143), (0, .ref 137), (1, .ref (r + 1))]) (st' := []) (H' := _) (kc' := 0) (ks' := 0) rfl ?_
        rw [show (nI i + 1 : Int32) = nI (i + 1) from nI_add i 1]
        refine RQ.blk 1 (pc' := 26) (lv' := [(3, .int (nI (i + 1))), (4, .int y), (2, .ref 143), (0, .ref 137), (1, .ref (r + 1))]) (st' := []) (H' := _) (kc' := 0) (ks' := 0) rfl ?_
        refine RQ.pick (a := [(3, .int (nI (i + 1))), (2, .ref 143), (0, .ref 137), (1, .ref (r + 1))]) [0, 2, 3, 4] [3, 4, 2, 0, 1] rfl rfl (by decide) ?_
        exact ih (i + 1) H8 ⟨e.2.1, e.1, (va_up tl (od k) true), lb7, by omega, hI8, (f9 136 (by decide) (by decide)).trans hT7, E3, (f9 138 (by decide) (by decide)).trans h87, (f9 139 (by decide) (by decide)).trans h97, hs7, E2, fun h => absurd h (by omega), fun k2 e2 h1 h2 => by rw [show k2 = i by omega, he] at h2; rw [← Option.some.inj h2]; exact ⟨rfl, rfl⟩, (f9 141 (by decide) (by decide)).trans ((f7 141 (by decide) (by decide) (by decide)).trans htl6), hmono6, htlo6, fun a ha => (f9 a (by omega) (by omega)).trans ((f8 a (by omega)).trans (f4 a ha))⟩ (by omega)
      · rw [if_neg hte]
        refine RQ.brT rfl rfl rfl (by decide) ?_
        refine RQ.blk 2 (pc' := 137) (lv' := [(4, .int y), (3, .int (nI i)), (2, .ref 143), (0, .ref 137), (1, .ref (r + 1))]) (st' := [.ref 143, .ref 137]) (H' := _) (kc' := 0) (ks' := 0) rfl ?_
        have f6 : ∀ a, a ≠ 141 → H5[a]? = H5[a]? := fun a a1 => rfl
        have htl6 := htl4
        have hmono6 : ∀ j, tl0 j = true → tl j = true := fun j hj => by
          exact hmono j hj
        have htlo6 : TlO tl od vs (es.take (i + 1)) := fun e2 he2 ht2 j v hv h1 h2 => by
          rw [List.take_add_one, he] at he2
          rcases List.mem_append.mp he2 with e3 | e3
          · exact htlo e2 e3 ht2 j v hv h1 h2
          · have e4 : e2 = e := List.mem_singleton.mp e3
            rw [e4] at ht2
            exact absurd ht2 hte
        have hT6 := (f6 136 (by decide)).trans hT4
        have h86 := (f6 138 (by decide)).trans h84
        have h96 := (f6 139 (by decide)).trans h94
        have hq6 := (f6 142 (by decide)).trans hq4
        have hg6 := (f6 143 (by decide)).trans hg4
        have hI6 := hI4.far (f6 142 (by decide)) (f6 143 (by decide))
        refine RQ.callN (st' := []) rfl rfl rfl rfl rfl rfl (args_v [.ref 143] [] rfl rfl (Nat.le_of_ble_eq_true rfl) rfl hT6 (Nat.le_of_ble_eq_true rfl)) (rn_remember (n := e.1.length) (m := e.2.1) (pp := e.2.2.1) (l := e.2.2.2) hT6 h86 h96 hlk hq6 hg6 (by omega) E3 (by omega) (by omega) (by decide)) (fun H7 hx7 => ?_)
        obtain ⟨⟨lb7, h97, hs7⟩, h87, hT7, f7⟩ := hx7
        rw [hk4] at hs7
        have hI7 := hI6.far (f7 142 (by decide) (by decide) (by decide)) (f7 143 (by decide) (by decide) (by decide))
        have hq7 := (f7 142 (by decide) (by decide) (by decide)).trans hq6
        have f8 : ∀ a, ¬ (a = 136 ∨ a = 138 ∨ a = 139 ∨ a = 141) → H7[a]? = H5[a]? := fun a ha => (f7 a (by omega) (by omega) (by omega)).trans (f6 a (by omega))
        have hR7 : RunIs H7 r x := hR4.far (f8 _ (by omega)) (f8 _ (by omega))
        have hC7 := hC4.far (H' := H7) (fun a a1 a2 => f8 a (by omega))
        refine RQ.blk 1 (pc' := 141) (lv' := [(4, .int y), (3, .int (nI i)), (2, .ref 143), (0, .ref 137), (1, .ref (r + 1))]) (st' := [.ref 143]) (H' := _) (kc' := 0) (ks' := 0) rfl ?_
        refine RQ.callN (st' := []) rfl rfl rfl rfl rfl rfl (args_v [] [] rfl rfl (Nat.le_of_ble_eq_true rfl) rfl hq7 (Nat.le_of_ble_eq_true rfl)) (rn_cadvI (q := 142) hI7 hR7 hO hC7 hB (by decide) (by omega) hil) (fun H8 hx8 => ?_)
        obtain ⟨hI8, f9⟩ := hx8
        refine RQ.blk 1 (pc' := 147) (lv' := [(3, .int (nI i + 1)), (4, .int y), (2, .ref 143), (0, .ref 137), (1, .ref (r + 1))]) (st' := []) (H' := _) (kc' := 0) (ks' := 0) rfl ?_
        rw [show (nI i + 1 : Int32) = nI (i + 1) from nI_add i 1]
        refine RQ.blk 1 (pc' := 26) (lv' := [(3, .int (nI (i + 1))), (4, .int y), (2, .ref 143), (0, .ref 137), (1, .ref (r + 1))]) (st' := []) (H' := _) (kc' := 0) (ks' := 0) rfl ?_
        refine RQ.pick (a := [(3, .int (nI (i + 1))), (2, .ref 143), (0, .ref 137), (1, .ref (r + 1))]) [0, 2, 3, 4] [3, 4, 2, 0, 1] rfl rfl (by decide) ?_
        exact ih (i + 1) H8 ⟨e.2.1, e.1, tl, lb7, by omega, hI8, (f9 136 (by decide) (by decide)).trans hT7, E3, (f9 138 (by decide) (by decide)).trans h87, (f9 139 (by decide) (by decide)).trans h97, hs7, E2, fun h => absurd h (by omega), fun k2 e2 h1 h2 => by rw [show k2 = i by omega, he] at h2; rw [← Option.some.inj h2]; exact ⟨rfl, rfl⟩, (f9 141 (by decide) (by decide)).trans ((f7 141 (by decide) (by decide) (by decide)).trans htl6), hmono6, htlo6, fun a ha => (f9 a (by omega) (by omega)).trans ((f8 a (by omega)).trans (f4 a ha))⟩ (by omega)
  ·
    have hie : i = es.length := by omega
    obtain ⟨g4, hg4, hE4⟩ := id hI4
    obtain ⟨-, kl4, mo4, pl4, le4, hq4⟩ := hE4.resolve_left (fun ⟨e, he, _⟩ => by have := get_lt he; omega)
    rw [hie, List.take_of_length_le (Nat.le_refl _)] at htlo
    refine RQ.blk 2 (pc' := 28) (lv' := [(3, .int (nI i)), (2, .ref 143), (0, .ref 137), (1, .ref (r + 1))]) (st' := [.ref (r + 1), .int (nI i)]) (H' := _) (kc' := 0) (ks' := 0) rfl ?_
    refine RQ.get (ci := 6) rfl rk1 rfl rfl ?_
    rw [o1']
    refine RQ.brT rfl rfl rfl (cT_ge i es.length) ?_
    refine RQ.blk 1 (pc' := 151) (lv' := [(3, .int (nI i)), (2, .ref 143), (0, .ref 137), (1, .ref (r + 1))]) (st' := [.ref 143]) (H' := _) (kc' := 0) (ks' := 0) rfl ?_
    refine RQ.get (ci := 2) rfl hq4 rfl rfl ?_
    refine RQ.brF rfl rfl rfl (by decide) ?_
    refine RQ.blk 1 (pc' := 158) (lv' := [(3, .int (nI i)), (2, .ref 143), (0, .ref 137), (1, .ref (r + 1))]) (st' := [.ref 143]) (H' := _) (kc' := 0) (ks' := 0) rfl ?_
    refine RQ.get (ci := 2) rfl hq4 rfl rfl ?_
    refine RQ.blk 1 (pc' := 162) (lv' := [(3, .int (nI i)), (2, .ref 143), (0, .ref 137), (1, .ref (r + 1))]) (st' := [.ref (r + 1), .int (nI x.2.1)]) (H' := _) (kc' := 0) (ks' := 0) rfl ?_
    refine RQ.get (ci := 6) rfl rk1 rfl rfl ?_
    refine RQ.brF rfl rfl rfl (cF_ne x.2.1 x.2.1) ?_
    refine RQ.blk 2 (pc' := 173) (lv' := [(3, .int (nI i)), (2, .ref 143), (0, .ref 137), (1, .ref (r + 1))]) (st' := [.int 1]) (H' := _) (kc' := 0) (ks' := 0) rfl ?_
    exact RQ.done (c := 0) (s := 0) rfl rfl rfl rfl ⟨_, _, rfl, rfl, ⟨g4, _, _, _, _, _, _, _, hg4, hq4⟩, ⟨lk.length, lb, hlk, h84, h94⟩, ⟨lm4, hlm4, hT4⟩, ⟨tl, htl4, hmono, htlo⟩, f4⟩
