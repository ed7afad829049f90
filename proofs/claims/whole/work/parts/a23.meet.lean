/-! ===== a version is met, moved, told by a table; class; written by wip/gen/meet.py ===== -/
theorem cntB_upd {f g : Nat → Bool} {k : Nat} : ∀ (n : Nat), k < n → (∀ j, j < n → j ≠ k → g j = f j) → cntB g n + (if f k then 1 else 0) = cntB f n + (if g k then 1 else 0)
  | 0, hk, _ => absurd hk (Nat.not_lt_zero k)
  | n + 1, hk, h => by
    rw [cntB, cntB]
    by_cases e : k = n
    · rw [e, cntB_congr n (fun i hi => h i (by omega) (by omega))]
      omega
    · have := cntB_upd n (by omega) (fun j hj hne => h j (by omega) hne)
      rw [h n (by omega) (by omega)]
      omega
/-- of one version moment, place, length and whether it is alone change -/
theorem upd_wf {kf : Nat → Int8} {kl mo pl : Nat → Nat} {le : Nat → Option Nat} {al : Nat → Bool} {od sp : Nat → Nat} {N sz ss ac k mm pp : Nat} {l : Option Nat} {b : Bool} (hw : VersWf N kf kl mo pl le al od sp sz ss ac) (hk : k < sz) (hone : (∀ q, q < sz → q ≠ k → ¬ keyO kf kl od q = keyO kf kl od k) ∨ mm = mo (od k)) (hmm : mm < 2 ^ 30) (hpp : pp < 2 ^ 30) (hl : l.getD 0 < 2 ^ 30) : VersWf N kf kl (va_up mo (od k) mm) (va_up pl (od k) pp) (va_up le (od k) l) (va_up al (od k) b) od sp sz ss (acUp (al (od k)) b ac) := by
  obtain ⟨⟨k1, k2, k3, k4, k5, k6⟩, hinj, hN, h4, h5, h6, h7, h8, hs⟩ := hw
  have hne : ∀ q, q < sz → q ≠ k → ¬ od q = od k := fun q hq hqk e => hqk (hinj q k hq hk e)
  refine ⟨⟨k1, k2, k3, k4, k5, fun s hs2 => ?_⟩, hinj, hN, h4, h5, fun i hi => ?_, ?_, h8, fun p q hpq hq => ?_⟩
  · obtain ⟨a1, a2, a3, a4⟩ := k6 s hs2
    unfold va_up
    by_cases e : s = od k
    · rw [if_pos e, if_pos e, if_pos e]; exact ⟨a1, hmm, hpp, hl⟩
    · rw [if_neg e, if_neg e, if_neg e]; exact ⟨a1, a2, a3, a4⟩
  · rw [up_ne (fun e => h4 i k hi hk e)]; exact h6 i hi
  · have h9 := cntB_upd (f := fun j => al (od j)) (g := fun j => va_up al (od k) b (od j)) (k := k) sz hk (fun j hj hjk => up_ne (hne j hj hjk))
    rw [show va_up al (od k) b (od k) = b from up_at] at h9
    have h10 : (if al (od k) = true then 1 else 0) ≤ cntB (fun j => al (od j)) sz := by
      have := cntB_mono (fun j => al (od j)) (k + 1) sz (by omega)
      rw [cntB] at this
      exact Nat.le_trans (Nat.le_add_left _ _) this
    have h9 : cntB (fun j => va_up al (od k) b (od j)) sz + (if al (od k) = true then 1 else 0) = cntB (fun j => al (od j)) sz + (if b = true then 1 else 0) := h9
    unfold acUp
    rw [h7]
    revert h9 h10
    cases al (od k) <;> cases b <;> intro h9 h10 <;> simp at h9 h10 ⊢ <;> omega
  · rcases hs p q hpq hq with e | ⟨e1, e2⟩
    · exact Or.inl e
    · refine Or.inr ⟨e1, ?_⟩
      rcases hone with ho | ho
      · by_cases ep : p = k
        · rw [ep] at e1
          exact absurd e1.symm (ho q hq (by omega))
        · by_cases eq : q = k
          · rw [eq] at e1
            exact absurd e1 (ho p (by omega) ep)
          · rw [up_ne (hne q hq eq), up_ne (hne p (by omega) ep)]; exact e2
      · rw [ho, up_self]; exact e2
theorem upd_vs {kf : Nat → Int8} {kl mo pl : Nat → Nat} {le : Nat → Option Nat} {al : Nat → Bool} {od sp : Nat → Nat} {N sz ss ac k mm pp : Nat} {l : Option Nat} {b : Bool} (hw : VersWf N kf kl mo pl le al od sp sz ss ac) (hk : k < sz) : vsL kf kl (va_up mo (od k) mm) (va_up pl (od k) pp) (va_up le (od k) l) (va_up al (od k) b) od sz = (vsL kf kl mo pl le al od sz).set k (keyO kf kl od k, mm, pp, l, b) := by
  refine List.ext_getElem? (fun i => ?_)
  rw [List.getElem?_set]
  unfold vsL
  rw [List.getElem?_map, List.getElem?_map, List.length_map, List.length_range]
  by_cases hi : i < sz
  · rw [List.getElem?_range hi]
    by_cases e : k = i
    · rw [if_pos e, if_pos hk, ← e]
      show some (verO _ _ _ _ _ _ (od k)) = _
      unfold verO
      rw [up_at, up_at, up_at, up_at]
      rfl
    · rw [if_neg e]
      show some (verO _ _ _ _ _ _ (od i)) = some (verO _ _ _ _ _ _ (od i))
      have hne : ¬ od i = od k := fun e2 => e (hw.2.1 i k hi hk e2).symm
      unfold verO
      rw [up_ne hne, up_ne hne, up_ne hne, up_ne hne]
  · rw [List.getElem?_eq_none (by rw [List.length_range]; omega)]
    by_cases e : k = i
    · omega
    · rw [if_neg e]
      rfl
/-- a version is met: the newest of its key stays -/
def meetV (v : aV) : List aV → List aV
  | [] => [v]
  | w :: t => if cmpL w.1 v.1 < 0 then w :: meetV v t else if w.1 = v.1 then (if v.2.1 ≤ w.2.1 then w :: t else v :: t) else v :: w :: t
theorem meetV_new (v : aV) : ∀ (vs : List aV), (∀ w ∈ vs, ¬ w.1 = v.1) → meetV v vs = insV v vs
  | [], _ => rfl
  | w :: t, h => by
    rw [meetV, insV, meetV_new v t (fun u hu => h u (List.mem_cons_of_mem _ hu)), if_neg (h w List.mem_cons_self)]
theorem meetV_at (v : aV) : ∀ (vs : List aV) (k : Nat) (w : aV), vs[k]? = some w → w.1 = v.1 → (∀ p u, p < k → vs[p]? = some u → cmpL u.1 v.1 < 0) → meetV v vs = if v.2.1 ≤ w.2.1 then vs else vs.set k v
  | [], k, w, h, _, _ => by simp at h
  | u :: t, 0, w, h, he, _ => by
    have e : u = w := Option.some.inj h
    rw [meetV, e, if_neg (by rw [he]; exact cmpL_irr), if_pos he]
    split <;> rfl
  | u :: t, k + 1, w, h, he, hb => by
    rw [meetV, if_pos (hb 0 u (by omega) rfl), meetV_at v t k w h he (fun p x hp hx => hb (p + 1) x (by omega) hx)]
    split <;> rfl
theorem rn_meet {sc : Nat × (Nat → Int32)} {d N a na n m pp : Nat} {H : aH} {g : Nat → Int8} {l : Option Nat} {b : Bool} {vs : List aV} (hV : VersIs H N vs) (h1V : ∀ u ∈ vs, ∀ v ∈ vs, u.1 = v.1 → u = v) (hg : H[a]? = some (kB na g)) (hna : na < 2 ^ 30) (ha : ¬ (74 ≤ a ∧ a < 83)) (hnn : n ≤ na) (hn1 : 1 ≤ n) (hn : n ≤ 41) (hm : m < 2 ^ 30) (hpp : pp < 2 ^ 30) (hl : l.getD 0 < 2 ^ 30) (hN : (∀ w ∈ vs, ¬ w.1 = sl g 0 n) → vs.length < N) : RN sc (d + 2) mr_184 [.ref 75, .ref (a + 1), .int (nI n), .int (nI m), .int (nI pp), .int (lI l), .int (if b then 1 else 0)] H (fun H' => VersIs H' N (meetV (sl g 0 n, m, pp, l, b) vs) ∧ ∀ a, ¬ (74 ≤ a ∧ a < 83) → H'[a]? = H[a]?) := by
  obtain ⟨kf, kl, mo, pl, le, al, od, sp, sz, ss, ac, hA, hW, hvs⟩ := hV
  have hN2 := hW.1.1
  have hszN := hW.1.2.1
  have hsrt := hW.2.2.2.2.2.2.2.2
  have h1 : ∀ p q, p < sz → q < sz → keyO kf kl od p = keyO kf kl od q → p = q := fun p q hp hq e => by
    have h9 := h1V (verO kf kl mo pl le al (od p)) (by rw [hvs]; exact List.mem_map.mpr ⟨p, List.mem_range.mpr hp, rfl⟩) (verO kf kl mo pl le al (od q)) (by rw [hvs]; exact List.mem_map.mpr ⟨q, List.mem_range.mpr hq, rfl⟩) e
    have e2 : mo (od p) = mo (od q) := congrArg (fun v : aV => v.2.1) h9
    rcases Nat.lt_trichotomy p q with h | h | h
    · rcases hsrt p q h hq with x | ⟨_, x⟩
      · rw [e] at x; exact absurd x cmpL_irr
      · omega
    · exact h
    · rcases hsrt q p h hp with x | ⟨_, x⟩
      · rw [e] at x; exact absurd x cmpL_irr
      · omega
  have hmax : ∀ q, q < sz → ¬ (2147483647 : Int32) < nI (mo (od q)) := fun q hq => nI_nlt (a := 2147483647) (by have := (hW.1.2.2.2.2.2 _ (hW.1.2.2.2.1 q hq)).2.1; omega) (by decide)
  obtain ⟨k, hc⟩ := cut_ex (sl g 0 n) 2147483647 hsrt (fun p hp => by have := (hW.1.2.2.2.2.2 _ (hW.1.2.2.2.1 p hp)).2.1; omega)
  have hkz := hc.1
  refine RN.of ?_
  refine RQ.blk 5 (pc' := 6) (lv' := [(0, .ref 75), (1, .ref (a + 1)), (2, .int (nI n)), (3, .int (nI m)), (4, .int (nI pp)), (5, .int (lI l)), (6, .int (if b then 1 else 0))]) (st' := [.int 2147483647, .int (nI n), .int 0, .ref (a + 1), .ref 75]) (H' := _) (kc' := 0) (ks' := 0) rfl ?_
  refine RQ.call (v := some (.int (nI k))) (st' := []) rfl rfl rfl rfl rfl rfl (args_v [.int 2147483647, .int (nI n), .int 0, .ref (a + 1)] [] rfl rfl (Nat.le_of_ble_eq_true rfl) rfl hA.1 (Nat.le_of_ble_eq_true rfl)) (rc_from (j := 0) (m := n) (k := k) hA hW.1 hg (by omega) (by omega) hc) ?_
  refine RQ.blk 3 (pc' := 14) (lv' := [(7, .int (nI k)), (0, .ref 75), (1, .ref (a + 1)), (2, .int (nI n)), (3, .int (nI m)), (4, .int (nI pp)), (5, .int (lI l)), (6, .int (if b then 1 else 0))]) (st' := [.ref 75, .int (nI k)]) (H' := _) (kc' := 0) (ks' := 0) rfl ?_
  refine RQ.get (ci := 10) rfl hA.1 rfl rfl ?_
  by_cases hks : k < sz
  · refine RQ.brF rfl rfl rfl (cF_ge k sz) ?_
    refine RQ.blk 2 (pc' := 22) (lv' := [(7, .int (nI k)), (0, .ref 75), (1, .ref (a + 1)), (2, .int (nI n)), (3, .int (nI m)), (4, .int (nI pp)), (5, .int (lI l)), (6, .int (if b then 1 else 0))]) (st' := [.ref 75, .ref 75]) (H' := _) (kc' := 0) (ks' := 0) rfl ?_
    refine RQ.get (ci := 10) rfl hA.1 rfl rfl ?_
    refine RQ.blk 1 (pc' := 27) (lv' := [(7, .int (nI k)), (0, .ref 75), (1, .ref (a + 1)), (2, .int (nI n)), (3, .int (nI m)), (4, .int (nI pp)), (5, .int (lI l)), (6, .int (if b then 1 else 0))]) (st' := [.int (nI k), .ref 82, .ref 75]) (H' := _) (kc' := 0) (ks' := 0) rfl ?_
    refine RQ.ialdN (j := k) rfl hA.2.2.2.2.2.2.2.1 (by omega) (by omega) ?_
    refine RQ.blk 3 (pc' := 31) (lv' := [(7, .int (nI k)), (0, .ref 75), (1, .ref (a + 1)), (2, .int (nI n)), (3, .int (nI m)), (4, .int (nI pp)), (5, .int (lI l)), (6, .int (if b then 1 else 0))]) (st' := [.int (nI n), .int 0, .ref (a + 1), .int (nI (od k)), .ref 75]) (H' := _) (kc' := 0) (ks' := 0) rfl ?_
    have hod := hW.1.2.2.2.1 k hks
    refine RQ.call (v := some (.int (if sl kf (od k * 41) (kl (od k)) = sl g 0 n then 1 else 0))) (st' := []) rfl rfl rfl rfl rfl rfl (args_v [.int (nI n), .int 0, .ref (a + 1), .int (nI (od k))] [] rfl rfl (Nat.le_of_ble_eq_true rfl) rfl hA.1 (Nat.le_of_ble_eq_true rfl)) (rc_hasKey (j := 0) (m := n) hA hW.1 hg (by omega) (by omega) hod) ?_
    by_cases hke : sl kf (od k * 41) (kl (od k)) = sl g 0 n
    · rw [if_pos hke]
      refine RQ.brF rfl rfl rfl (by decide) ?_
      refine RQ.blk 1 (pc' := 38) (lv' := [(7, .int (nI k)), (0, .ref 75), (1, .ref (a + 1)), (2, .int (nI n)), (3, .int (nI m)), (4, .int (nI pp)), (5, .int (lI l)), (6, .int (if b then 1 else 0))]) (st' := [.ref 75]) (H' := _) (kc' := 0) (ks' := 0) rfl ?_
      refine RQ.get (ci := 10) rfl hA.1 rfl rfl ?_
      refine RQ.blk 1 (pc' := 43) (lv' := [(7, .int (nI k)), (0, .ref 75), (1, .ref (a + 1)), (2, .int (nI n)), (3, .int (nI m)), (4, .int (nI pp)), (5, .int (lI l)), (6, .int (if b then 1 else 0))]) (st' := [.int (nI k), .ref 82]) (H' := _) (kc' := 0) (ks' := 0) rfl ?_
      refine RQ.ialdN (j := k) rfl hA.2.2.2.2.2.2.2.1 (by omega) (by omega) ?_
      refine RQ.blk 3 (pc' := 52) (lv' := [(8, .int (nI (od k))), (7, .int (nI k)), (0, .ref 75), (1, .ref (a + 1)), (2, .int (nI n)), (3, .int (nI m)), (4, .int (nI pp)), (5, .int (lI l)), (6, .int (if b then 1 else 0))]) (st' := [.int (nI (od k))]) (H' := _) (kc' := 0) (ks' := 0) rfl ?_
      refine RQ.brF rfl rfl rfl (cF_lt (od k) 0) ?_
      refine RQ.blk 1 (pc' := 56) (lv' := [(8, .int (nI (od k))), (7, .int (nI k)), (0, .ref 75), (1, .ref (a + 1)), (2, .int (nI n)), (3, .int (nI m)), (4, .int (nI pp)), (5, .int (lI l)), (6, .int (if b then 1 else 0))]) (st' := [.ref 75]) (H' := _) (kc' := 0) (ks' := 0) rfl ?_
      refine RQ.get (ci := 10) rfl hA.1 rfl rfl ?_
      refine RQ.blk 1 (pc' := 61) (lv' := [(8, .int (nI (od k))), (7, .int (nI k)), (0, .ref 75), (1, .ref (a + 1)), (2, .int (nI n)), (3, .int (nI m)), (4, .int (nI pp)), (5, .int (lI l)), (6, .int (if b then 1 else 0))]) (st' := [.int (nI (od k)), .ref 78]) (H' := _) (kc' := 0) (ks' := 0) rfl ?_
      refine RQ.ialdN (j := od k) rfl hA.2.2.2.1 (by omega) (by omega) ?_
      refine RQ.blk 1 (pc' := 63) (lv' := [(8, .int (nI (od k))), (7, .int (nI k)), (0, .ref 75), (1, .ref (a + 1)), (2, .int (nI n)), (3, .int (nI m)), (4, .int (nI pp)), (5, .int (lI l)), (6, .int (if b then 1 else 0))]) (st' := [.int (nI m), .int (nI (mo (od k)))]) (H' := _) (kc' := 0) (ks' := 0) rfl ?_
      have hmo := (hW.1.2.2.2.2.2 _ hod).2.1
      by_cases hlt : mo (od k) < m
      · have hmv := meetV_at (sl g 0 n, m, pp, l, b) vs k (verO kf kl mo pl le al (od k)) (by rw [hvs]; unfold vsL; rw [List.getElem?_map, List.getElem?_range hks]; rfl) hke (fun p u hp hu => by
          rw [hvs] at hu
          unfold vsL at hu
          rw [List.getElem?_map, List.getElem?_range (by omega)] at hu
          rw [← Option.some.inj hu]
          exact (hc.2.1 p hp).elim (fun e => e) (fun e => absurd e.2 (hmax p (by omega))))
        rw [if_neg (by show ¬ m ≤ mo (od k); omega)] at hmv
        refine RQ.brT rfl rfl rfl (cT_lt (mo (od k)) m) ?_
        refine RQ.blk 1 (pc' := 69) (lv' := [(8, .int (nI (od k))), (7, .int (nI k)), (0, .ref 75), (1, .ref (a + 1)), (2, .int (nI n)), (3, .int (nI m)), (4, .int (nI pp)), (5, .int (lI l)), (6, .int (if b then 1 else 0))]) (st' := [.int (nI (od k))]) (H' := _) (kc' := 0) (ks' := 0) rfl ?_
        refine RQ.brT rfl rfl rfl (cT_ge (od k) 0) ?_
        refine RQ.blk 1 (pc' := 85) (lv' := [(8, .int (nI (od k))), (7, .int (nI k)), (0, .ref 75), (1, .ref (a + 1)), (2, .int (nI n)), (3, .int (nI m)), (4, .int (nI pp)), (5, .int (lI l)), (6, .int (if b then 1 else 0))]) (st' := [.int (nI (od k))]) (H' := _) (kc' := 0) (ks' := 0) rfl ?_
        refine RQ.brF rfl rfl rfl (cF_lt (od k) 0) ?_
        refine RQ.blk 1 (pc' := 89) (lv' := [(8, .int (nI (od k))), (7, .int (nI k)), (0, .ref 75), (1, .ref (a + 1)), (2, .int (nI n)), (3, .int (nI m)), (4, .int (nI pp)), (5, .int (lI l)), (6, .int (if b then 1 else 0))]) (st' := [.ref 75]) (H' := _) (kc' := 0) (ks' := 0) rfl ?_
        refine RQ.get (ci := 10) rfl hA.1 rfl rfl ?_
        refine RQ.blk 2 (pc' := 95) (lv' := [(8, .int (nI (od k))), (7, .int (nI k)), (0, .ref 75), (1, .ref (a + 1)), (2, .int (nI n)), (3, .int (nI m)), (4, .int (nI pp)), (5, .int (lI l)), (6, .int (if b then 1 else 0))]) (st' := [.int (nI m), .int (nI (od k)), .ref 78]) (H' := _) (kc' := 0) (ks' := 0) rfl ?_
        refine RQ.iastN (j := od k) rfl hA.2.2.2.1 (by omega) (by omega) ?_
        rw [up_nI]
        refine RQ.blk 1 (pc' := 97) (lv' := [(8, .int (nI (od k))), (7, .int (nI k)), (0, .ref 75), (1, .ref (a + 1)), (2, .int (nI n)), (3, .int (nI m)), (4, .int (nI pp)), (5, .int (lI l)), (6, .int (if b then 1 else 0))]) (st' := [.ref 75]) (H' := _) (kc' := 0) (ks' := 0) rfl ?_
        refine RQ.get (ci := 10) rfl ((set_far (by decide)).trans hA.1) rfl rfl ?_
        refine RQ.blk 2 (pc' := 104) (lv' := [(8, .int (nI (od k))), (7, .int (nI k)), (0, .ref 75), (1, .ref (a + 1)), (2, .int (nI n)), (3, .int (nI m)), (4, .int (nI pp)), (5, .int (lI l)), (6, .int (if b then 1 else 0))]) (st' := [.int (nI pp), .int (nI (od k)), .ref 79]) (H' := _) (kc' := 0) (ks' := 0) rfl ?_
        refine RQ.iastN (j := od k) rfl ((set_far (by decide)).trans hA.2.2.2.2.1) (by omega) (by omega) ?_
        rw [up_nI]
        refine RQ.blk 1 (pc' := 106) (lv' := [(8, .int (nI (od k))), (7, .int (nI k)), (0, .ref 75), (1, .ref (a + 1)), (2, .int (nI n)), (3, .int (nI m)), (4, .int (nI pp)), (5, .int (lI l)), (6, .int (if b then 1 else 0))]) (st' := [.ref 75]) (H' := _) (kc' := 0) (ks' := 0) rfl ?_
        refine RQ.get (ci := 10) rfl ((set_far (by decide)).trans ((set_far (by decide)).trans hA.1)) rfl rfl ?_
        refine RQ.blk 2 (pc' := 113) (lv' := [(8, .int (nI (od k))), (7, .int (nI k)), (0, .ref 75), (1, .ref (a + 1)), (2, .int (nI n)), (3, .int (nI m)), (4, .int (nI pp)), (5, .int (lI l)), (6, .int (if b then 1 else 0))]) (st' := [.int (lI l), .int (nI (od k)), .ref 80]) (H' := _) (kc' := 0) (ks' := 0) rfl ?_
        refine RQ.iastN (j := od k) rfl ((set_far (by decide)).trans ((set_far (by decide)).trans hA.2.2.2.2.2.1)) (by omega) (by omega) ?_
        rw [up_lI]
        refine RQ.blk 3 (pc' := 119) (lv' := [(8, .int (nI (od k))), (7, .int (nI k)), (0, .ref 75), (1, .ref (a + 1)), (2, .int (nI n)), (3, .int (nI m)), (4, .int (nI pp)), (5, .int (lI l)), (6, .int (if b then 1 else 0))]) (st' := [.int (if b then 1 else 0), .int (nI (od k)), .ref 75]) (H' := _) (kc' := 0) (ks' := 0) rfl ?_
        have hA3 : VersAt (((H.set 77 (kI N (fun j => nI (va_up mo (od k) m j)))).set 78 (kI N (fun j => nI (va_up pl (od k) pp j)))).set 79 (kI N (fun j => lI (va_up le (od k) l j)))) N kf kl (va_up mo (od k) m) (va_up pl (od k) pp) (va_up le (od k) l) al od sp sz ss ac := ⟨((set_far (by decide)).trans ((set_far (by decide)).trans ((set_far (by decide)).trans hA.1))), ((set_far (by decide)).trans ((set_far (by decide)).trans ((set_far (by decide)).trans hA.2.1))), ((set_far (by decide)).trans ((set_far (by decide)).trans ((set_far (by decide)).trans hA.2.2.1))), ((set_far (by decide)).trans ((set_far (by decide)).trans (get_set hA.2.2.2.1))), ((set_far (by decide)).trans (get_set ((set_far (by decide)).trans hA.2.2.2.2.1))), (get_set ((set_far (by decide)).trans ((set_far (by decide)).trans hA.2.2.2.2.2.1))), ((set_far (by decide)).trans ((set_far (by decide)).trans ((set_far (by decide)).trans hA.2.2.2.2.2.2.1))), ((set_far (by decide)).trans ((set_far (by decide)).trans ((set_far (by decide)).trans hA.2.2.2.2.2.2.2.1))), ((set_far (by decide)).trans ((set_far (by decide)).trans ((set_far (by decide)).trans hA.2.2.2.2.2.2.2.2)))⟩
        have hW3 := upd_wf (k := k) (mm := m) (pp := pp) (l := l) (b := b) hW hks (Or.inl (fun q hq hqk e => hqk (h1 q k hq hks e))) hm hpp hl
        have hac : al (od k) = true → 1 ≤ ac := fun e => by
          rw [hW.2.2.2.2.2.2.1]
          have h9 := cntB_mono (fun j => al (od j)) (k + 1) sz (by omega)
          rw [cntB, e] at h9
          have h9 : cntB (fun j => al (od j)) k + 1 ≤ _ := h9
          omega
        refine RQ.callN (st' := []) rfl rfl rfl rfl rfl rfl (args_v [.int (if b then 1 else 0), .int (nI (od k))] [] rfl rfl (Nat.le_of_ble_eq_true rfl) rfl ((set_far (by decide)).trans ((set_far (by decide)).trans ((set_far (by decide)).trans hA.1))) (Nat.le_of_ble_eq_true rfl)) (rn_setAlone (b := b) hA3 hW3.1 hod hac) (fun H4 hx4 => ?_)
        obtain ⟨hA4, hfr4⟩ := hx4
        exact RQ.done (c := 0) (s := 0) rfl rfl rfl rfl ⟨_, rfl, ⟨_, _, _, _, _, _, _, _, _, _, _, hA4, hW3, by rw [hmv, hvs, upd_vs hW hks]; unfold keyO; rw [hke]⟩, fun a ha => (hfr4 a ha).trans ((set_far (by omega)).trans ((set_far (by omega)).trans (set_far (by omega))))⟩
      · have hmv := meetV_at (sl g 0 n, m, pp, l, b) vs k (verO kf kl mo pl le al (od k)) (by rw [hvs]; unfold vsL; rw [List.getElem?_map, List.getElem?_range hks]; rfl) hke (fun p u hp hu => by
          rw [hvs] at hu
          unfold vsL at hu
          rw [List.getElem?_map, List.getElem?_range (by omega)] at hu
          rw [← Option.some.inj hu]
          exact (hc.2.1 p hp).elim (fun e => e) (fun e => absurd e.2 (hmax p (by omega))))
        rw [if_pos (by show m ≤ mo (od k); omega)] at hmv
        refine RQ.brF rfl rfl rfl (cF_lt (mo (od k)) m) ?_
        exact RQ.done (c := 0) (s := 0) rfl rfl rfl rfl ⟨_, rfl, by rw [hmv]; exact ⟨_, _, _, _, _, _, _, _, _, _, _, hA, hW, hvs⟩, fun a _ => rfl⟩
    · rw [if_neg hke]
      have hno : ¬ (k < sz ∧ keyO kf kl od k = sl g 0 n) := fun e => hke e.2
      refine RQ.brT rfl rfl rfl (by decide) ?_
      refine RQ.blk 3 (pc' := 52) (lv' := [(8, .int (-1)), (7, .int (nI k)), (0, .ref 75), (1, .ref (a + 1)), (2, .int (nI n)), (3, .int (nI m)), (4, .int (nI pp)), (5, .int (lI l)), (6, .int (if b then 1 else 0))]) (st' := [.int (-1)]) (H' := _) (kc' := 0) (ks' := 0) rfl ?_
      refine RQ.brT rfl rfl rfl (by decide) ?_
      refine RQ.blk 1 (pc' := 69) (lv' := [(8, .int (-1)), (7, .int (nI k)), (0, .ref 75), (1, .ref (a + 1)), (2, .int (nI n)), (3, .int (nI m)), (4, .int (nI pp)), (5, .int (lI l)), (6, .int (if b then 1 else 0))]) (st' := [.int (-1)]) (H' := _) (kc' := 0) (ks' := 0) rfl ?_
      refine RQ.brF rfl rfl rfl (by decide) ?_
      refine RQ.blk 5 (pc' := 78) (lv' := [(8, .int (-1)), (7, .int (nI k)), (0, .ref 75), (1, .ref (a + 1)), (2, .int (nI n)), (3, .int (nI m)), (4, .int (nI pp)), (5, .int (lI l)), (6, .int (if b then 1 else 0))]) (st' := [.int (nI n), .int 0, .ref (a + 1), .int (nI k), .ref 75]) (H' := _) (kc' := 0) (ks' := 0) rfl ?_
      have hno2 : ∀ w ∈ vs, ¬ w.1 = sl g 0 n := fun w hw e => by
        have hs2 := cut_seen (pl := pl) (le := le) (al := al) (m := 2 ^ 30) hsrt (fun q hq => ⟨fun e => absurd e (hmax q hq), fun e => by have := (hW.1.2.2.2.2.2 _ (hW.1.2.2.2.1 q hq)).2.1; omega⟩) hc
        rw [if_neg hno, ← hvs] at hs2
        have h3 := seenV_none.mp hs2 w hw e
        rw [hvs] at hw
        obtain ⟨q, hq, eq⟩ := List.mem_map.mp hw
        have hq := List.mem_range.mp hq
        have := (hW.1.2.2.2.2.2 _ (hW.1.2.2.2.1 q hq)).2.1
        rw [← eq] at h3
        have h3 : ¬ mo (od q) ≤ 2 ^ 30 := h3
        omega
      have hmv := meetV_new (sl g 0 n, m, pp, l, b) vs hno2
      have hroom := hN hno2
      have hsz : sz = vs.length := by rw [hvs]; unfold vsL; rw [List.length_map, List.length_range]
      have hss : ss + sz = N := hW.2.2.1
      refine RQ.callI (st' := []) rfl rfl rfl rfl rfl rfl (args_v [.int (nI n), .int 0, .ref (a + 1), .int (nI k)] [] rfl rfl (Nat.le_of_ble_eq_true rfl) rfl hA.1 (Nat.le_of_ble_eq_true rfl)) (ri_insert (j := 0) (m := n) hA hW.1 hg (by omega) (by omega) ha (by omega) hc.1 (by omega) hn) (fun y H2 hx => ?_)
      obtain ⟨ey, hA2, hfr2⟩ := hx
      rw [ey]
      have hslot := hW.1.2.2.2.2.1 (ss - 1) (by omega)
      refine RQ.blk 2 (pc' := 85) (lv' := [(8, .int (nI (sp (ss - 1)))), (7, .int (nI k)), (0, .ref 75), (1, .ref (a + 1)), (2, .int (nI n)), (3, .int (nI m)), (4, .int (nI pp)), (5, .int (lI l)), (6, .int (if b then 1 else 0))]) (st' := [.int (nI (sp (ss - 1)))]) (H' := _) (kc' := 0) (ks' := 0) rfl ?_
      refine RQ.brF rfl rfl rfl (cF_lt (sp (ss - 1)) 0) ?_
      refine RQ.blk 1 (pc' := 89) (lv' := [(8, .int (nI (sp (ss - 1)))), (7, .int (nI k)), (0, .ref 75), (1, .ref (a + 1)), (2, .int (nI n)), (3, .int (nI m)), (4, .int (nI pp)), (5, .int (lI l)), (6, .int (if b then 1 else 0))]) (st' := [.ref 75]) (H' := _) (kc' := 0) (ks' := 0) rfl ?_
      refine RQ.get (ci := 10) rfl hA2.1 rfl rfl ?_
      refine RQ.blk 2 (pc' := 95) (lv' := [(8, .int (nI (sp (ss - 1)))), (7, .int (nI k)), (0, .ref 75), (1, .ref (a + 1)), (2, .int (nI n)), (3, .int (nI m)), (4, .int (nI pp)), (5, .int (lI l)), (6, .int (if b then 1 else 0))]) (st' := [.int (nI m), .int (nI (sp (ss - 1))), .ref 78]) (H' := _) (kc' := 0) (ks' := 0) rfl ?_
      refine RQ.iastN (j := sp (ss - 1)) rfl hA2.2.2.2.1 (by omega) (by omega) ?_
      rw [up_nI]
      refine RQ.blk 1 (pc' := 97) (lv' := [(8, .int (nI (sp (ss - 1)))), (7, .int (nI k)), (0, .ref 75), (1, .ref (a + 1)), (2, .int (nI n)), (3, .int (nI m)), (4, .int (nI pp)), (5, .int (lI l)), (6, .int (if b then 1 else 0))]) (st' := [.ref 75]) (H' := _) (kc' := 0) (ks' := 0) rfl ?_
      refine RQ.get (ci := 10) rfl ((set_far (by decide)).trans hA2.1) rfl rfl ?_
      refine RQ.blk 2 (pc' := 104) (lv' := [(8, .int (nI (sp (ss - 1)))), (7, .int (nI k)), (0, .ref 75), (1, .ref (a + 1)), (2, .int (nI n)), (3, .int (nI m)), (4, .int (nI pp)), (5, .int (lI l)), (6, .int (if b then 1 else 0))]) (st' := [.int (nI pp), .int (nI (sp (ss - 1))), .ref 79]) (H' := _) (kc' := 0) (ks' := 0) rfl ?_
      refine RQ.iastN (j := sp (ss - 1)) rfl ((set_far (by decide)).trans hA2.2.2.2.2.1) (by omega) (by omega) ?_
      rw [up_nI]
      refine RQ.blk 1 (pc' := 106) (lv' := [(8, .int (nI (sp (ss - 1)))), (7, .int (nI k)), (0, .ref 75), (1, .ref (a + 1)), (2, .int (nI n)), (3, .int (nI m)), (4, .int (nI pp)), (5, .int (lI l)), (6, .int (if b then 1 else 0))]) (st' := [.ref 75]) (H' := _) (kc' := 0) (ks' := 0) rfl ?_
      refine RQ.get (ci := 10) rfl ((set_far (by decide)).trans ((set_far (by decide)).trans hA2.1)) rfl rfl ?_
      refine RQ.blk 2 (pc' := 113) (lv' := [(8, .int (nI (sp (ss - 1)))), (7, .int (nI k)), (0, .ref 75), (1, .ref (a + 1)), (2, .int (nI n)), (3, .int (nI m)), (4, .int (nI pp)), (5, .int (lI l)), (6, .int (if b then 1 else 0))]) (st' := [.int (lI l), .int (nI (sp (ss - 1))), .ref 80]) (H' := _) (kc' := 0) (ks' := 0) rfl ?_
      refine RQ.iastN (j := sp (ss - 1)) rfl ((set_far (by decide)).trans ((set_far (by decide)).trans hA2.2.2.2.2.2.1)) (by omega) (by omega) ?_
      rw [up_lI]
      refine RQ.blk 3 (pc' := 119) (lv' := [(8, .int (nI (sp (ss - 1)))), (7, .int (nI k)), (0, .ref 75), (1, .ref (a + 1)), (2, .int (nI n)), (3, .int (nI m)), (4, .int (nI pp)), (5, .int (lI l)), (6, .int (if b then 1 else 0))]) (st' := [.int (if b then 1 else 0), .int (nI (sp (ss - 1))), .ref 75]) (H' := _) (kc' := 0) (ks' := 0) rfl ?_
      have hA3 : VersAt (((H2.set 77 (kI N (fun j => nI (va_up mo (sp (ss - 1)) m j)))).set 78 (kI N (fun j => nI (va_up pl (sp (ss - 1)) pp j)))).set 79 (kI N (fun j => lI (va_up le (sp (ss - 1)) l j)))) N (cpy g 0 kf ((sp (ss - 1)) * 41) n) (va_up kl (sp (ss - 1)) n) (va_up mo (sp (ss - 1)) m) (va_up pl (sp (ss - 1)) pp) (va_up le (sp (ss - 1)) l) al (va_up (shR od k (sz - k)) k (sp (ss - 1))) sp (sz + 1) (ss - 1) ac := ⟨((set_far (by decide)).trans ((set_far (by decide)).trans ((set_far (by decide)).trans hA2.1))), ((set_far (by decide)).trans ((set_far (by decide)).trans ((set_far (by decide)).trans hA2.2.1))), ((set_far (by decide)).trans ((set_far (by decide)).trans ((set_far (by decide)).trans hA2.2.2.1))), ((set_far (by decide)).trans ((set_far (by decide)).trans (get_set hA2.2.2.2.1))), ((set_far (by decide)).trans (get_set ((set_far (by decide)).trans hA2.2.2.2.2.1))), (get_set ((set_far (by decide)).trans ((set_far (by decide)).trans hA2.2.2.2.2.2.1))), ((set_far (by decide)).trans ((set_far (by decide)).trans ((set_far (by decide)).trans hA2.2.2.2.2.2.2.1))), ((set_far (by decide)).trans ((set_far (by decide)).trans ((set_far (by decide)).trans hA2.2.2.2.2.2.2.2.1))), ((set_far (by decide)).trans ((set_far (by decide)).trans ((set_far (by decide)).trans hA2.2.2.2.2.2.2.2.2)))⟩
      have hW3 := ins_wf (b := b) (g := g) (j := 0) (m := n) (mm := m) (pp := pp) (l := l) hW (by omega) hn1 hn hc hm hpp hl (fun q hq e => absurd e (hno2 (verO kf kl mo pl le al (od q)) (by rw [hvs]; exact List.mem_map.mpr ⟨q, List.mem_range.mpr hq, rfl⟩)))
      have hal : al (sp (ss - 1)) = false := hW.2.2.2.2.2.1 (ss - 1) (by omega)
      refine RQ.callN (st' := []) rfl rfl rfl rfl rfl rfl (args_v [.int (if b then 1 else 0), .int (nI (sp (ss - 1)))] [] rfl rfl (Nat.le_of_ble_eq_true rfl) rfl ((set_far (by decide)).trans ((set_far (by decide)).trans ((set_far (by decide)).trans hA2.1))) (Nat.le_of_ble_eq_true rfl)) (rn_setAlone (b := b) hA3 hW3.1 hslot (fun e => by rw [hal] at e; cases e)) (fun H4 hx4 => ?_)
      obtain ⟨hA4, hfr4⟩ := hx4
      rw [hal, show acUp false b ac = ac + (if b = true then 1 else 0) by cases b <;> rfl] at hA4
      exact RQ.done (c := 0) (s := 0) rfl rfl rfl rfl ⟨_, rfl, ⟨_, _, _, _, _, _, _, _, _, _, _, hA4, hW3, by rw [hmv, hvs]; exact (ins_vs hW (by omega) hn hc).symm⟩, fun a ha => (hfr4 a ha).trans ((set_far (by omega)).trans ((set_far (by omega)).trans ((set_far (by omega)).trans (hfr2 a ha))))⟩
  · have hno : ¬ (k < sz ∧ keyO kf kl od k = sl g 0 n) := fun e => hks e.1
    refine RQ.brT rfl rfl rfl (cT_ge k sz) ?_
    refine RQ.blk 3 (pc' := 52) (lv' := [(8, .int (-1)), (7, .int (nI k)), (0, .ref 75), (1, .ref (a + 1)), (2, .int (nI n)), (3, .int (nI m)), (4, .int (nI pp)), (5, .int (lI l)), (6, .int (if b then 1 else 0))]) (st' := [.int (-1)]) (H' := _) (kc' := 0) (ks' := 0) rfl ?_
    refine RQ.brT rfl rfl rfl (by decide) ?_
    refine RQ.blk 1 (pc' := 69) (lv' := [(8, .int (-1)), (7, .int (nI k)), (0, .ref 75), (1, .ref (a + 1)), (2, .int (nI n)), (3, .int (nI m)), (4, .int (nI pp)), (5, .int (lI l)), (6, .int (if b then 1 else 0))]) (st' := [.int (-1)]) (H' := _) (kc' := 0) (ks' := 0) rfl ?_
    refine RQ.brF rfl rfl rfl (by decide) ?_
    refine RQ.blk 5 (pc' := 78) (lv' := [(8, .int (-1)), (7, .int (nI k)), (0, .ref 75), (1, .ref (a + 1)), (2, .int (nI n)), (3, .int (nI m)), (4, .int (nI pp)), (5, .int (lI l)), (6, .int (if b then 1 else 0))]) (st' := [.int (nI n), .int 0, .ref (a + 1), .int (nI k), .ref 75]) (H' := _) (kc' := 0) (ks' := 0) rfl ?_
    have hno2 : ∀ w ∈ vs, ¬ w.1 = sl g 0 n := fun w hw e => by
      have hs2 := cut_seen (pl := pl) (le := le) (al := al) (m := 2 ^ 30) hsrt (fun q hq => ⟨fun e => absurd e (hmax q hq), fun e => by have := (hW.1.2.2.2.2.2 _ (hW.1.2.2.2.1 q hq)).2.1; omega⟩) hc
      rw [if_neg hno, ← hvs] at hs2
      have h3 := seenV_none.mp hs2 w hw e
      rw [hvs] at hw
      obtain ⟨q, hq, eq⟩ := List.mem_map.mp hw
      have hq := List.mem_range.mp hq
      have := (hW.1.2.2.2.2.2 _ (hW.1.2.2.2.1 q hq)).2.1
      rw [← eq] at h3
      have h3 : ¬ mo (od q) ≤ 2 ^ 30 := h3
      omega
    have hmv := meetV_new (sl g 0 n, m, pp, l, b) vs hno2
    have hroom := hN hno2
    have hsz : sz = vs.length := by rw [hvs]; unfold vsL; rw [List.length_map, List.length_range]
    have hss : ss + sz = N := hW.2.2.1
    refine RQ.callI (st' := []) rfl rfl rfl rfl rfl rfl (args_v [.int (nI n), .int 0, .ref (a + 1), .int (nI k)] [] rfl rfl (Nat.le_of_ble_eq_true rfl) rfl hA.1 (Nat.le_of_ble_eq_true rfl)) (ri_insert (j := 0) (m := n) hA hW.1 hg (by omega) (by omega) ha (by omega) hc.1 (by omega) hn) (fun y H2 hx => ?_)
    obtain ⟨ey, hA2, hfr2⟩ := hx
    rw [ey]
    have hslot := hW.1.2.2.2.2.1 (ss - 1) (by omega)
    refine RQ.blk 2 (pc' := 85) (lv' := [(8, .int (nI (sp (ss - 1)))), (7, .int (nI k)), (0, .ref 75), (1, .ref (a + 1)), (2, .int (nI n)), (3, .int (nI m)), (4, .int (nI pp)), (5, .int (lI l)), (6, .int (if b then 1 else 0))]) (st' := [.int (nI (sp (ss - 1)))]) (H' := _) (kc' := 0) (ks' := 0) rfl ?_
    refine RQ.brF rfl rfl rfl (cF_lt (sp (ss - 1)) 0) ?_
    refine RQ.blk 1 (pc' := 89) (lv' := [(8, .int (nI (sp (ss - 1)))), (7, .int (nI k)), (0, .ref 75), (1, .ref (a + 1)), (2, .int (nI n)), (3, .int (nI m)), (4, .int (nI pp)), (5, .int (lI l)), (6, .int (if b then 1 else 0))]) (st' := [.ref 75]) (H' := _) (kc' := 0) (ks' := 0) rfl ?_
    refine RQ.get (ci := 10) rfl hA2.1 rfl rfl ?_
    refine RQ.blk 2 (pc' := 95) (lv' := [(8, .int (nI (sp (ss - 1)))), (7, .int (nI k)), (0, .ref 75), (1, .ref (a + 1)), (2, .int (nI n)), (3, .int (nI m)), (4, .int (nI pp)), (5, .int (lI l)), (6, .int (if b then 1 else 0))]) (st' := [.int (nI m), .int (nI (sp (ss - 1))), .ref 78]) (H' := _) (kc' := 0) (ks' := 0) rfl ?_
    refine RQ.iastN (j := sp (ss - 1)) rfl hA2.2.2.2.1 (by omega) (by omega) ?_
    rw [up_nI]
    refine RQ.blk 1 (pc' := 97) (lv' := [(8, .int (nI (sp (ss - 1)))), (7, .int (nI k)), (0, .ref 75), (1, .ref (a + 1)), (2, .int (nI n)), (3, .int (nI m)), (4, .int (nI pp)), (5, .int (lI l)), (6, .int (if b then 1 else 0))]) (st' := [.ref 75]) (H' := _) (kc' := 0) (ks' := 0) rfl ?_
    refine RQ.get (ci := 10) rfl ((set_far (by decide)).trans hA2.1) rfl rfl ?_
    refine RQ.blk 2 (pc' := 104) (lv' := [(8, .int (nI (sp (ss - 1)))), (7, .int (nI k)), (0, .ref 75), (1, .ref (a + 1)), (2, .int (nI n)), (3, .int (nI m)), (4, .int (nI pp)), (5, .int (lI l)), (6, .int (if b then 1 else 0))]) (st' := [.int (nI pp), .int (nI (sp (ss - 1))), .ref 79]) (H' := _) (kc' := 0) (ks' := 0) rfl ?_
    refine RQ.iastN (j := sp (ss - 1)) rfl ((set_far (by decide)).trans hA2.2.2.2.2.1) (by omega) (by omega) ?_
    rw [up_nI]
    refine RQ.blk 1 (pc' := 106) (lv' := [(8, .int (nI (sp (ss - 1)))), (7, .int (nI k)), (0, .ref 75), (1, .ref (a + 1)), (2, .int (nI n)), (3, .int (nI m)), (4, .int (nI pp)), (5, .int (lI l)), (6, .int (if b then 1 else 0))]) (st' := [.ref 75]) (H' := _) (kc' := 0) (ks' := 0) rfl ?_
    refine RQ.get (ci := 10) rfl ((set_far (by decide)).trans ((set_far (by decide)).trans hA2.1)) rfl rfl ?_
    refine RQ.blk 2 (pc' := 113) (lv' := [(8, .int (nI (sp (ss - 1)))), (7, .int (nI k)), (0, .ref 75), (1, .ref (a + 1)), (2, .int (nI n)), (3, .int (nI m)), (4, .int (nI pp)), (5, .int (lI l)), (6, .int (if b then 1 else 0))]) (st' := [.int (lI l), .int (nI (sp (ss - 1))), .ref 80]) (H' := _) (kc' := 0) (ks' := 0) rfl ?_
    refine RQ.iastN (j := sp (ss - 1)) rfl ((set_far (by decide)).trans ((set_far (by decide)).trans hA2.2.2.2.2.2.1)) (by omega) (by omega) ?_
    rw [up_lI]
    refine RQ.blk 3 (pc' := 119) (lv' := [(8, .int (nI (sp (ss - 1)))), (7, .int (nI k)), (0, .ref 75), (1, .ref (a + 1)), (2, .int (nI n)), (3, .int (nI m)), (4, .int (nI pp)), (5, .int (lI l)), (6, .int (if b then 1 else 0))]) (st' := [.int (if b then 1 else 0), .int (nI (sp (ss - 1))), .ref 75]) (H' := _) (kc' := 0) (ks' := 0) rfl ?_
    have hA3 : VersAt (((H2.set 77 (kI N (fun j => nI (va_up mo (sp (ss - 1)) m j)))).set 78 (kI N (fun j => nI (va_up pl (sp (ss - 1)) pp j)))).set 79 (kI N (fun j => lI (va_up le (sp (ss - 1)) l j)))) N (cpy g 0 kf ((sp (ss - 1)) * 41) n) (va_up kl (sp (ss - 1)) n) (va_up mo (sp (ss - 1)) m) (va_up pl (sp (ss - 1)) pp) (va_up le (sp (ss - 1)) l) al (va_up (shR od k (sz - k)) k (sp (ss - 1))) sp (sz + 1) (ss - 1) ac := ⟨((set_far (by decide)).trans ((set_far (by decide)).trans ((set_far (by decide)).trans hA2.1))), ((set_far (by decide)).trans ((set_far (by decide)).trans ((set_far (by decide)).trans hA2.2.1))), ((set_far (by decide)).trans ((set_far (by decide)).trans ((set_far (by decide)).trans hA2.2.2.1))), ((set_far (by decide)).trans ((set_far (by decide)).trans (get_set hA2.2.2.2.1))), ((set_far (by decide)).trans (get_set ((set_far (by decide)).trans hA2.2.2.2.2.1))), (get_set ((set_far (by decide)).trans ((set_far (by decide)).trans hA2.2.2.2.2.2.1))), ((set_far (by decide)).trans ((set_far (by decide)).trans ((set_far (by decide)).trans hA2.2.2.2.2.2.2.1))), ((set_far (by decide)).trans ((set_far (by decide)).trans ((set_far (by decide)).trans hA2.2.2.2.2.2.2.2.1))), ((set_far (by decide)).trans ((set_far (by decide)).trans ((set_far (by decide)).trans hA2.2.2.2.2.2.2.2.2)))⟩
    have hW3 := ins_wf (b := b) (g := g) (j := 0) (m := n) (mm := m) (pp := pp) (l := l) hW (by omega) hn1 hn hc hm hpp hl (fun q hq e => absurd e (hno2 (verO kf kl mo pl le al (od q)) (by rw [hvs]; exact List.mem_map.mpr ⟨q, List.mem_range.mpr hq, rfl⟩)))
    have hal : al (sp (ss - 1)) = false := hW.2.2.2.2.2.1 (ss - 1) (by omega)
    refine RQ.callN (st' := []) rfl rfl rfl rfl rfl rfl (args_v [.int (if b then 1 else 0), .int (nI (sp (ss - 1)))] [] rfl rfl (Nat.le_of_ble_eq_true rfl) rfl ((set_far (by decide)).trans ((set_far (by decide)).trans ((set_far (by decide)).trans hA2.1))) (Nat.le_of_ble_eq_true rfl)) (rn_setAlone (b := b) hA3 hW3.1 hslot (fun e => by rw [hal] at e; cases e)) (fun H4 hx4 => ?_)
    obtain ⟨hA4, hfr4⟩ := hx4
    rw [hal, show acUp false b ac = ac + (if b = true then 1 else 0) by cases b <;> rfl] at hA4
    exact RQ.done (c := 0) (s := 0) rfl rfl rfl rfl ⟨_, rfl, ⟨_, _, _, _, _, _, _, _, _, _, _, hA4, hW3, by rw [hmv, hvs]; exact (ins_vs hW (by omega) hn hc).symm⟩, fun a ha => (hfr4 a ha).trans ((set_far (by omega)).trans ((set_far (by omega)).trans ((set_far (by omega)).trans (hfr2 a ha))))⟩
