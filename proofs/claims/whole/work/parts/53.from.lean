/-! ===== the search among the versions; class; written by wip/gen/vers3.py ===== -/
theorem i_lt0 {x : Int32} {z : Int} (h : x.toInt = z) : x < 0 ↔ z < 0 := by
  rw [Int32.lt_iff_toInt_lt, h]
  exact Iff.rfl
theorem i_eq0 {x : Int32} {z : Int} (h : x.toInt = z) : x = 0 ↔ z = 0 := by
  rw [← Int32.toInt_inj, h]
  exact Iff.rfl
/-- the version at position p comes before the key, or is newer than the moment -/
def bef (kf : Nat → Int8) (kl mo od : Nat → Nat) (key : List Nat) (x : Int32) (p : Nat) : Prop := cmpL (sl kf (od p * 41) (kl (od p))) key < 0 ∨ cmpL (sl kf (od p * 41) (kl (od p))) key = 0 ∧ x < nI (mo (od p))
/-- the first k positions and no other come before -/
def cutAt (kf : Nat → Int8) (kl mo od : Nat → Nat) (sz : Nat) (key : List Nat) (x : Int32) (k : Nat) : Prop := k ≤ sz ∧ (∀ p, p < k → bef kf kl mo od key x p) ∧ ∀ p, k ≤ p → p < sz → ¬ bef kf kl mo od key x p
theorem rc_from {sc : Nat × (Nat → Int32)} {a na j m k : Nat} {d N : Nat} {H : aH} {kf : Nat → Int8} {kl mo pl : Nat → Nat} {le : Nat → Option Nat} {al : Nat → Bool} {od sp : Nat → Nat} {sz ss ac : Nat} {g : Nat → Int8} {x : Int32} (h : VersAt H N kf kl mo pl le al od sp sz ss ac) (hk : VersOk N kl mo pl le od sp sz ss) (h1 : H[a]? = some (kB na g)) (hna : na < 2 ^ 30) (hj : j + m ≤ na) (hc : cutAt kf kl mo od sz (sl g j m) x k) : RC sc (d + 1) mr_58 [.ref 75, .ref (a + 1), .int (nI j), .int (nI m), .int x] H (.inl (some (.int (nI k)))) H 0 0 := by
  have hN := hk.1
  have hsz := hk.2.1
  have hss := hk.2.2.1
  refine RC.of ?_
  refine RQ.blk 3 (pc' := 4) (lv' := [(5, .int 0), (0, .ref 75), (1, .ref (a + 1)), (2, .int (nI j)), (3, .int (nI m)), (4, .int x)]) (st' := [.ref 75]) (H' := _) (kc' := 0) (ks' := 0) rfl ?_
  refine RQ.get (ci := 10) rfl h.1 rfl rfl ?_
  refine RQ.blk 3 (pc' := 12) (lv' := [(7, .int 0), (6, .int (nI sz)), (5, .int 0), (0, .ref 75), (1, .ref (a + 1)), (2, .int (nI j)), (3, .int (nI m)), (4, .int x)]) (st' := []) (H' := _) (kc' := 0) (ks' := 0) rfl ?_
  refine RQ.while (S := Nat × Nat × Nat) (pc := 12) (fun s H' => H' = H ∧ s.1 ≤ 32 ∧ s.2.2 ≤ k ∧ k ≤ s.2.1 ∧ s.2.1 ≤ sz ∧ s.2.1 - s.2.2 < 2 ^ (32 - s.1)) (fun s => [(7, .int (nI s.1)), (6, .int (nI s.2.1)), (5, .int (nI s.2.2)), (0, .ref 75), (1, .ref (a + 1)), (2, .int (nI j)), (3, .int (nI m)), (4, .int x)]) (fun s => 32 - s.1) ?_ (0, sz, 0) H ⟨rfl, Nat.zero_le 32, Nat.zero_le _, hc.1, Nat.le_refl _, by show sz - 0 < 2 ^ 32; omega⟩
  rintro ⟨st, hi, lo⟩ H' ⟨e0, q1, q2, q3, q4, q5⟩ ih
  dsimp only at q1 q2 q3 q4 q5 ih ⊢
  rw [e0]
  have fin : lo = k → RQ sc (d + 1) mr_58 109 [(7, .int (nI st)), (6, .int (nI hi)), (5, .int (nI lo)), (0, .ref 75), (1, .ref (a + 1)), (2, .int (nI j)), (3, .int (nI m)), (4, .int x)] [] H 0 0 (fun r => r = (.inl (some (.int (nI k))), H, 0, 0)) := by
    rintro rfl
    refine RQ.blk 1 (pc' := 111) (lv' := [(7, .int (nI st)), (6, .int (nI hi)), (5, .int (nI lo)), (0, .ref 75), (1, .ref (a + 1)), (2, .int (nI j)), (3, .int (nI m)), (4, .int x)]) (st' := [.int (nI lo)]) (H' := _) (kc' := 0) (ks' := 0) rfl ?_
    exact RQ.done (c := 0) (s := 0) rfl rfl rfl rfl rfl
  refine RQ.blk 2 (pc' := 16) (lv' := [(7, .int (nI st)), (6, .int (nI hi)), (5, .int (nI lo)), (0, .ref 75), (1, .ref (a + 1)), (2, .int (nI j)), (3, .int (nI m)), (4, .int x)]) (st' := [.int 32, .int (nI st)]) (H' := _) (kc' := 0) (ks' := 0) rfl ?_
  by_cases h32 : st = 32
  ·
    refine RQ.brT rfl rfl rfl (cT_ge st 32) ?_
    exact fin (by subst h32; have : hi - lo < 1 := q5; omega)
  ·
    refine RQ.brF rfl rfl rfl (cF_ge st 32) ?_
    refine RQ.blk 2 (pc' := 23) (lv' := [(7, .int (nI st)), (6, .int (nI hi)), (5, .int (nI lo)), (0, .ref 75), (1, .ref (a + 1)), (2, .int (nI j)), (3, .int (nI m)), (4, .int x)]) (st' := [.int (nI hi), .int (nI lo)]) (H' := _) (kc' := 0) (ks' := 0) rfl ?_
    by_cases hlh : lo < hi
    · have hmid : (lo + hi) / 2 < hi := by omega
      have hodm := hk.2.2.2.1 ((lo + hi) / 2) (by omega)
      have hk_m := hk.2.2.2.2.2 _ hodm
      have hpow : 2 ^ (32 - st) = 2 * 2 ^ (32 - (st + 1)) := by rw [show 32 - st = (32 - (st + 1)) + 1 by omega, Nat.pow_succ]; omega
      refine RQ.brF rfl rfl rfl (cF_ge lo hi) ?_
      refine RQ.blk 3 (pc' := 31) (lv' := [(7, .int (nI st)), (6, .int (nI hi)), (5, .int (nI lo)), (0, .ref 75), (1, .ref (a + 1)), (2, .int (nI j)), (3, .int (nI m)), (4, .int x)]) (st' := [.int (nI lo + nI hi)]) (H' := _) (kc' := 0) (ks' := 0) rfl ?_
      rw [show (nI lo + nI hi : Int32) = nI (lo + hi) from nI_add lo hi]
      refine RQ.blk 2 (pc' := 33) (lv' := [(7, .int (nI st)), (6, .int (nI hi)), (5, .int (nI lo)), (0, .ref 75), (1, .ref (a + 1)), (2, .int (nI j)), (3, .int (nI m)), (4, .int x)]) (st' := [.int (nI (lo + hi) / 2)]) (H' := _) (kc' := 0) (ks' := 0) rfl ?_
      rw [show (nI (lo + hi) / 2 : Int32) = nI ((lo + hi) / 2) from pk_div (a := (lo + hi)) (d := 2) (by omega) (by omega) (by omega)]
      refine RQ.blk 2 (pc' := 36) (lv' := [(8, .int (nI ((lo + hi) / 2))), (7, .int (nI st)), (6, .int (nI hi)), (5, .int (nI lo)), (0, .ref 75), (1, .ref (a + 1)), (2, .int (nI j)), (3, .int (nI m)), (4, .int x)]) (st' := [.ref 75]) (H' := _) (kc' := 0) (ks' := 0) rfl ?_
      refine RQ.get (ci := 10) rfl h.1 rfl rfl ?_
      refine RQ.blk 1 (pc' := 41) (lv' := [(8, .int (nI ((lo + hi) / 2))), (7, .int (nI st)), (6, .int (nI hi)), (5, .int (nI lo)), (0, .ref 75), (1, .ref (a + 1)), (2, .int (nI j)), (3, .int (nI m)), (4, .int x)]) (st' := [.int (nI ((lo + hi) / 2)), .ref 82]) (H' := _) (kc' := 0) (ks' := 0) rfl ?_
      refine RQ.ialdN (j := (lo + hi) / 2) rfl h.2.2.2.2.2.2.2.1 (by omega) (by omega) ?_
      refine RQ.blk 2 (pc' := 45) (lv' := [(9, .int (nI (od ((lo + hi) / 2)))), (8, .int (nI ((lo + hi) / 2))), (7, .int (nI st)), (6, .int (nI hi)), (5, .int (nI lo)), (0, .ref 75), (1, .ref (a + 1)), (2, .int (nI j)), (3, .int (nI m)), (4, .int x)]) (st' := [.ref 75]) (H' := _) (kc' := 0) (ks' := 0) rfl ?_
      refine RQ.get (ci := 10) rfl h.1 rfl rfl ?_
      refine RQ.blk 3 (pc' := 53) (lv' := [(9, .int (nI (od ((lo + hi) / 2)))), (8, .int (nI ((lo + hi) / 2))), (7, .int (nI st)), (6, .int (nI hi)), (5, .int (nI lo)), (0, .ref 75), (1, .ref (a + 1)), (2, .int (nI j)), (3, .int (nI m)), (4, .int x)]) (st' := [.int (nI (od ((lo + hi) / 2)) * 41), .ref 76]) (H' := _) (kc' := 0) (ks' := 0) rfl ?_
      rw [show (nI (od ((lo + hi) / 2)) * 41 : Int32) = nI ((od ((lo + hi) / 2)) * 41) from pk_mul (od ((lo + hi) / 2)) 41]
      refine RQ.blk 1 (pc' := 54) (lv' := [(9, .int (nI (od ((lo + hi) / 2)))), (8, .int (nI ((lo + hi) / 2))), (7, .int (nI st)), (6, .int (nI hi)), (5, .int (nI lo)), (0, .ref 75), (1, .ref (a + 1)), (2, .int (nI j)), (3, .int (nI m)), (4, .int x)]) (st' := [.ref 75, .int (nI ((od ((lo + hi) / 2)) * 41)), .ref 76]) (H' := _) (kc' := 0) (ks' := 0) rfl ?_
      refine RQ.get (ci := 10) rfl h.1 rfl rfl ?_
      refine RQ.blk 1 (pc' := 59) (lv' := [(9, .int (nI (od ((lo + hi) / 2)))), (8, .int (nI ((lo + hi) / 2))), (7, .int (nI st)), (6, .int (nI hi)), (5, .int (nI lo)), (0, .ref 75), (1, .ref (a + 1)), (2, .int (nI j)), (3, .int (nI m)), (4, .int x)]) (st' := [.int (nI (od ((lo + hi) / 2))), .ref 77, .int (nI ((od ((lo + hi) / 2)) * 41)), .ref 76]) (H' := _) (kc' := 0) (ks' := 0) rfl ?_
      refine RQ.ialdN (j := od ((lo + hi) / 2)) rfl h.2.2.1 (by omega) (by omega) ?_
      refine RQ.blk 3 (pc' := 63) (lv' := [(9, .int (nI (od ((lo + hi) / 2)))), (8, .int (nI ((lo + hi) / 2))), (7, .int (nI st)), (6, .int (nI hi)), (5, .int (nI lo)), (0, .ref 75), (1, .ref (a + 1)), (2, .int (nI j)), (3, .int (nI m)), (4, .int x)]) (st' := [.int (nI m), .int (nI j), .ref (a + 1), .int (nI (kl (od ((lo + hi) / 2)))), .int (nI ((od ((lo + hi) / 2)) * 41)), .ref 76]) (H' := _) (kc' := 0) (ks' := 0) rfl ?_
      refine RQ.callI (st' := []) rfl rfl rfl rfl rfl rfl rfl (ri_cmp h.2.1 h1 (by omega) hna (by omega) hj) (fun y H2 hy => ?_)
      rw [hy.1]
      replace hy := hy.2
      refine RQ.blk 2 (pc' := 70) (lv' := [(10, .int y), (9, .int (nI (od ((lo + hi) / 2)))), (8, .int (nI ((lo + hi) / 2))), (7, .int (nI st)), (6, .int (nI hi)), (5, .int (nI lo)), (0, .ref 75), (1, .ref (a + 1)), (2, .int (nI j)), (3, .int (nI m)), (4, .int x)]) (st' := [.int y]) (H' := _) (kc' := 0) (ks' := 0) rfl ?_
      have low : bef kf kl mo od (sl g j m) x ((lo + hi) / 2) → (lo + hi) / 2 < k := fun e => Nat.lt_of_not_le (fun e2 => hc.2.2 _ e2 (by omega) e)
      have high : ¬ bef kf kl mo od (sl g j m) x ((lo + hi) / 2) → k ≤ (lo + hi) / 2 := fun e => Nat.le_of_not_lt (fun e2 => e (hc.2.1 _ e2))
      by_cases hy0 : y < 0
      ·
        have hkm := low (Or.inl ((i_lt0 hy).mp hy0))
        refine RQ.brT rfl rfl rfl (decide_eq_true hy0) ?_
        refine RQ.blk 3 (pc' := 94) (lv' := [(10, .int y), (9, .int (nI (od ((lo + hi) / 2)))), (8, .int (nI ((lo + hi) / 2))), (7, .int (nI st)), (6, .int (nI hi)), (5, .int (nI lo)), (0, .ref 75), (1, .ref (a + 1)), (2, .int (nI j)), (3, .int (nI m)), (4, .int x)]) (st' := [.int (nI ((lo + hi) / 2) + 1)]) (H' := _) (kc' := 0) (ks' := 0) rfl ?_
        rw [show (nI ((lo + hi) / 2) + 1 : Int32) = nI ((lo + hi) / 2 + 1) from nI_add ((lo + hi) / 2) 1]
        refine RQ.blk 3 (pc' := 106) (lv' := [(7, .int (nI st + 1)), (5, .int (nI ((lo + hi) / 2 + 1))), (10, .int y), (9, .int (nI (od ((lo + hi) / 2)))), (8, .int (nI ((lo + hi) / 2))), (6, .int (nI hi)), (0, .ref 75), (1, .ref (a + 1)), (2, .int (nI j)), (3, .int (nI m)), (4, .int x)]) (st' := []) (H' := _) (kc' := 0) (ks' := 0) rfl ?_
        rw [show (nI st + 1 : Int32) = nI (st + 1) from nI_add st 1]
        refine RQ.blk 1 (pc' := 12) (lv' := [(7, .int (nI (st + 1))), (5, .int (nI ((lo + hi) / 2 + 1))), (10, .int y), (9, .int (nI (od ((lo + hi) / 2)))), (8, .int (nI ((lo + hi) / 2))), (6, .int (nI hi)), (0, .ref 75), (1, .ref (a + 1)), (2, .int (nI j)), (3, .int (nI m)), (4, .int x)]) (st' := []) (H' := _) (kc' := 0) (ks' := 0) rfl ?_
        exact RQ.pick [0, 5, 1, 6, 7, 8, 9, 10] [7, 5, 10, 9, 8, 6, 0, 1, 2, 3, 4] rfl rfl (by decide) (ih (st + 1, hi, (lo + hi) / 2 + 1) H ⟨rfl, by show st + 1 ≤ 32; omega, by show (lo + hi) / 2 + 1 ≤ k; omega, q3, q4, by show hi - ((lo + hi) / 2 + 1) < 2 ^ (32 - (st + 1)); omega⟩ (by show 32 - (st + 1) < 32 - st; omega))
      ·
        refine RQ.brF rfl rfl rfl (decide_eq_false hy0) ?_
        refine RQ.blk 1 (pc' := 75) (lv' := [(10, .int y), (9, .int (nI (od ((lo + hi) / 2)))), (8, .int (nI ((lo + hi) / 2))), (7, .int (nI st)), (6, .int (nI hi)), (5, .int (nI lo)), (0, .ref 75), (1, .ref (a + 1)), (2, .int (nI j)), (3, .int (nI m)), (4, .int x)]) (st' := [.int y]) (H' := _) (kc' := 0) (ks' := 0) rfl ?_
        by_cases hy1 : y = 0
        ·
          refine RQ.brF rfl rfl rfl (bnf hy1) ?_
          refine RQ.blk 1 (pc' := 79) (lv' := [(10, .int y), (9, .int (nI (od ((lo + hi) / 2)))), (8, .int (nI ((lo + hi) / 2))), (7, .int (nI st)), (6, .int (nI hi)), (5, .int (nI lo)), (0, .ref 75), (1, .ref (a + 1)), (2, .int (nI j)), (3, .int (nI m)), (4, .int x)]) (st' := [.ref 75]) (H' := _) (kc' := 0) (ks' := 0) rfl ?_
          refine RQ.get (ci := 10) rfl h.1 rfl rfl ?_
          refine RQ.blk 1 (pc' := 84) (lv' := [(10, .int y), (9, .int (nI (od ((lo + hi) / 2)))), (8, .int (nI ((lo + hi) / 2))), (7, .int (nI st)), (6, .int (nI hi)), (5, .int (nI lo)), (0, .ref 75), (1, .ref (a + 1)), (2, .int (nI j)), (3, .int (nI m)), (4, .int x)]) (st' := [.int (nI (od ((lo + hi) / 2))), .ref 78]) (H' := _) (kc' := 0) (ks' := 0) rfl ?_
          refine RQ.ialdN (j := od ((lo + hi) / 2)) rfl h.2.2.2.1 (by omega) (by omega) ?_
          refine RQ.blk 1 (pc' := 87) (lv' := [(10, .int y), (9, .int (nI (od ((lo + hi) / 2)))), (8, .int (nI ((lo + hi) / 2))), (7, .int (nI st)), (6, .int (nI hi)), (5, .int (nI lo)), (0, .ref 75), (1, .ref (a + 1)), (2, .int (nI j)), (3, .int (nI m)), (4, .int x)]) (st' := [.int x, .int (nI (mo (od ((lo + hi) / 2))))]) (H' := _) (kc' := 0) (ks' := 0) rfl ?_
          by_cases hx : x < nI (mo (od ((lo + hi) / 2)))
          ·
            have hkm := low (Or.inr ⟨(i_eq0 hy).mp hy1, hx⟩)
            refine RQ.brF rfl rfl rfl (decide_eq_false (Int32.not_le.mpr hx)) ?_
            refine RQ.blk 3 (pc' := 94) (lv' := [(10, .int y), (9, .int (nI (od ((lo + hi) / 2)))), (8, .int (nI ((lo + hi) / 2))), (7, .int (nI st)), (6, .int (nI hi)), (5, .int (nI lo)), (0, .ref 75), (1, .ref (a + 1)), (2, .int (nI j)), (3, .int (nI m)), (4, .int x)]) (st' := [.int (nI ((lo + hi) / 2) + 1)]) (H' := _) (kc' := 0) (ks' := 0) rfl ?_
            rw [show (nI ((lo + hi) / 2) + 1 : Int32) = nI ((lo + hi) / 2 + 1) from nI_add ((lo + hi) / 2) 1]
            refine RQ.blk 3 (pc' := 106) (lv' := [(7, .int (nI st + 1)), (5, .int (nI ((lo + hi) / 2 + 1))), (10, .int y), (9, .int (nI (od ((lo + hi) / 2)))), (8, .int (nI ((lo + hi) / 2))), (6, .int (nI hi)), (0, .ref 75), (1, .ref (a + 1)), (2, .int (nI j)), (3, .int (nI m)), (4, .int x)]) (st' := []) (H' := _) (kc' := 0) (ks' := 0) rfl ?_
            rw [show (nI st + 1 : Int32) = nI (st + 1) from nI_add st 1]
            refine RQ.blk 1 (pc' := 12) (lv' := [(7, .int (nI (st + 1))), (5, .int (nI ((lo + hi) / 2 + 1))), (10, .int y), (9, .int (nI (od ((lo + hi) / 2)))), (8, .int (nI ((lo + hi) / 2))), (6, .int (nI hi)), (0, .ref 75), (1, .ref (a + 1)), (2, .int (nI j)), (3, .int (nI m)), (4, .int x)]) (st' := []) (H' := _) (kc' := 0) (ks' := 0) rfl ?_
            exact RQ.pick [0, 5, 1, 6, 7, 8, 9, 10] [7, 5, 10, 9, 8, 6, 0, 1, 2, 3, 4] rfl rfl (by decide) (ih (st + 1, hi, (lo + hi) / 2 + 1) H ⟨rfl, by show st + 1 ≤ 32; omega, by show (lo + hi) / 2 + 1 ≤ k; omega, q3, q4, by show hi - ((lo + hi) / 2 + 1) < 2 ^ (32 - (st + 1)); omega⟩ (by show 32 - (st + 1) < 32 - st; omega))
          ·
            have hkm := high (fun e => e.elim (fun e => hy0 ((i_lt0 hy).mpr e)) (fun e => hx e.2))
            refine RQ.brT rfl rfl rfl (decide_eq_true (Int32.not_lt.mp hx)) ?_
            refine RQ.blk 3 (pc' := 106) (lv' := [(7, .int (nI st + 1)), (6, .int (nI ((lo + hi) / 2))), (10, .int y), (9, .int (nI (od ((lo + hi) / 2)))), (8, .int (nI ((lo + hi) / 2))), (5, .int (nI lo)), (0, .ref 75), (1, .ref (a + 1)), (2, .int (nI j)), (3, .int (nI m)), (4, .int x)]) (st' := []) (H' := _) (kc' := 0) (ks' := 0) rfl ?_
            rw [show (nI st + 1 : Int32) = nI (st + 1) from nI_add st 1]
            refine RQ.blk 1 (pc' := 12) (lv' := [(7, .int (nI (st + 1))), (6, .int (nI ((lo + hi) / 2))), (10, .int y), (9, .int (nI (od ((lo + hi) / 2)))), (8, .int (nI ((lo + hi) / 2))), (5, .int (nI lo)), (0, .ref 75), (1, .ref (a + 1)), (2, .int (nI j)), (3, .int (nI m)), (4, .int x)]) (st' := []) (H' := _) (kc' := 0) (ks' := 0) rfl ?_
            exact RQ.pick [0, 1, 5, 6, 7, 8, 9, 10] [7, 6, 10, 9, 8, 5, 0, 1, 2, 3, 4] rfl rfl (by decide) (ih (st + 1, (lo + hi) / 2, lo) H ⟨rfl, by show st + 1 ≤ 32; omega, q2, by show k ≤ (lo + hi) / 2; omega, by show (lo + hi) / 2 ≤ sz; omega, by show (lo + hi) / 2 - lo < 2 ^ (32 - (st + 1)); omega⟩ (by show 32 - (st + 1) < 32 - st; omega))
        ·
          have hkm := high (fun e => e.elim (fun e => hy0 ((i_lt0 hy).mpr e)) (fun e => hy1 ((i_eq0 hy).mpr e.1)))
          refine RQ.brT rfl rfl rfl (bnt hy1) ?_
          refine RQ.blk 3 (pc' := 106) (lv' := [(7, .int (nI st + 1)), (6, .int (nI ((lo + hi) / 2))), (10, .int y), (9, .int (nI (od ((lo + hi) / 2)))), (8, .int (nI ((lo + hi) / 2))), (5, .int (nI lo)), (0, .ref 75), (1, .ref (a + 1)), (2, .int (nI j)), (3, .int (nI m)), (4, .int x)]) (st' := []) (H' := _) (kc' := 0) (ks' := 0) rfl ?_
          rw [show (nI st + 1 : Int32) = nI (st + 1) from nI_add st 1]
          refine RQ.blk 1 (pc' := 12) (lv' := [(7, .int (nI (st + 1))), (6, .int (nI ((lo + hi) / 2))), (10, .int y), (9, .int (nI (od ((lo + hi) / 2)))), (8, .int (nI ((lo + hi) / 2))), (5, .int (nI lo)), (0, .ref 75), (1, .ref (a + 1)), (2, .int (nI j)), (3, .int (nI m)), (4, .int x)]) (st' := []) (H' := _) (kc' := 0) (ks' := 0) rfl ?_
          exact RQ.pick [0, 1, 5, 6, 7, 8, 9, 10] [7, 6, 10, 9, 8, 5, 0, 1, 2, 3, 4] rfl rfl (by decide) (ih (st + 1, (lo + hi) / 2, lo) H ⟨rfl, by show st + 1 ≤ 32; omega, q2, by show k ≤ (lo + hi) / 2; omega, by show (lo + hi) / 2 ≤ sz; omega, by show (lo + hi) / 2 - lo < 2 ^ (32 - (st + 1)); omega⟩ (by show 32 - (st + 1) < 32 - st; omega))
    ·
      refine RQ.brT rfl rfl rfl (cT_ge lo hi) ?_
      exact fin (by omega)
