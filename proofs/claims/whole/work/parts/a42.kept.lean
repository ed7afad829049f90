/-! ===== how many pieces of a file are kept; class; written by wip/gen/kept.py ===== -/
/-- whether the file f has a piece i -/
def pcIn (vs : List aV) (f i : Nat) : Bool :=
  match seenV vs [2, f, i] (2 ^ 30) with
  | some v => decide (¬ v.2.2.2.1 = none)
  | none => false
theorem ri_keptPieces {sc : Nat × (Nat → Int32)} {d f : Nat} {H : aH} {bl pr up cw cl cp cb : Int32} {g : Nat → Int8} {q : Nat} {N : Nat} {kf : Nat → Int8} {kl mo pl : Nat → Nat} {le : Nat → Option Nat} {al : Nat → Bool} {od sp : Nat → Nat} {sz ss ac : Nat} {vs : List aV} (h0 : H[0]? = some (kO 11 (fvs bl pr up cw cl cp cb))) (h5 : H[5]? = some (kO 5 [.ref 7, .int (nI q)])) (h6 : H[6]? = some (kB 41 g)) (hA : VersAt H N kf kl mo pl le al od sp sz ss ac) (hW : VersWf N kf kl mo pl le al od sp sz ss ac) (hvs : vs = vsL kf kl mo pl le al od sz) (hf : f < 256) : RI sc (d + 4) mr_258 [.ref 1, .int (nI f)] H (fun x H' => x = nI (cntB (pcIn vs f) 32) ∧ (∃ q g, H'[5]? = some (kO 5 [.ref 7, .int (nI q)]) ∧ H'[6]? = some (kB 41 g)) ∧ ∀ a, a ≠ 5 → a ≠ 6 → H'[a]? = H[a]?) := by
  refine RI.of ?_
  refine RQ.blk 4 (pc' := 4) (lv' := [(3, .int 0), (2, .int 0), (0, .ref 1), (1, .int (nI f))]) (st' := []) (H' := _) (kc' := 0) (ks' := 0) rfl ?_
  refine RQ.while (S := Nat) (pc := 4) (fun i H' => i ≤ 32 ∧ (∃ q g, H'[5]? = some (kO 5 [.ref 7, .int (nI q)]) ∧ H'[6]? = some (kB 41 g)) ∧ ∀ a, a ≠ 5 → a ≠ 6 → H'[a]? = H[a]?) (fun i => [(3, .int (nI i)), (2, .int (nI (cntB (pcIn vs f) i))), (0, .ref 1), (1, .int (nI f))]) (fun i => 32 - i) ?_ 0 H ⟨Nat.zero_le _, ⟨_, _, h5, h6⟩, fun _ _ _ => rfl⟩
  rintro i H2 ⟨hi, ⟨q2, g2, e5, e6⟩, f2⟩ ih
  have h02 := (f2 0 (by decide) (by decide)).trans h0
  have hA2 := hA.far (H' := H2) (fun a a1 a2 => f2 a (by omega) (by omega))
  by_cases hi2 : i < 32
  ·
    refine RQ.blk 2 (pc' := 7) (lv' := [(3, .int (nI i)), (2, .int (nI (cntB (pcIn vs f) i))), (0, .ref 1), (1, .int (nI f))]) (st' := [.int 32, .int (nI i)]) (H' := _) (kc' := 0) (ks' := 0) rfl ?_
    refine RQ.brF rfl rfl rfl (cF_ge i 32) ?_
    refine RQ.blk 3 (pc' := 13) (lv' := [(3, .int (nI i)), (2, .int (nI (cntB (pcIn vs f) i))), (0, .ref 1), (1, .int (nI f))]) (st' := [.int (nI i), .int (nI f), .ref 1]) (H' := _) (kc' := 0) (ks' := 0) rfl ?_
    refine RQ.callI (st' := []) rfl rfl rfl rfl rfl rfl (args_v [.int (nI i), .int (nI f)] [] rfl rfl (Nat.le_of_ble_eq_true rfl) rfl h02 (Nat.le_of_ble_eq_true rfl)) (ri_pieceSlot h02 e5 e6 hA2 hW hvs hf (by omega)) (fun y H3 hx3 => ?_)
    obtain ⟨⟨g3, r1, -⟩, r2, r3, r4⟩ := hx3
    have f3 : ∀ a, a ≠ 5 → a ≠ 6 → H3[a]? = H[a]? := fun a a1 a2 => (r3 a a1 a2).trans (f2 a a1 a2)
    rcases r4 with ⟨j, k1, k2, k3, k4⟩ | ⟨k1, k2⟩
    ·
      have hp : pcIn vs f i = true := by unfold pcIn; rw [k4]; exact decide_eq_true k3
      have hods := hW.1.2.2.2.1 j k1
      have hN := hW.1.1
      rw [k2]
      refine RQ.brF rfl rfl rfl (cF_lt (od j) 0) ?_
      refine RQ.blk 1 (pc' := 22) (lv' := [(2, .int (nI (cntB (pcIn vs f) i) + 1)), (3, .int (nI i)), (0, .ref 1), (1, .int (nI f))]) (st' := []) (H' := _) (kc' := 0) (ks' := 0) rfl ?_
      rw [show (nI (cntB (pcIn vs f) i) + 1 : Int32) = nI (cntB (pcIn vs f) i + 1) from nI_add (cntB (pcIn vs f) i) 1]
      refine RQ.blk 1 (pc' := 25) (lv' := [(3, .int (nI i + 1)), (2, .int (nI (cntB (pcIn vs f) i + 1))), (0, .ref 1), (1, .int (nI f))]) (st' := []) (H' := _) (kc' := 0) (ks' := 0) rfl ?_
      rw [show (nI i + 1 : Int32) = nI (i + 1) from nI_add i 1]
      refine RQ.blk 1 (pc' := 4) (lv' := [(3, .int (nI (i + 1))), (2, .int (nI (cntB (pcIn vs f) i + 1))), (0, .ref 1), (1, .int (nI f))]) (st' := []) (H' := _) (kc' := 0) (ks' := 0) rfl ?_
      refine RQ.pick (a := [(3, .int (nI (i + 1))), (2, .int (nI (cntB (pcIn vs f) i + 1))), (0, .ref 1), (1, .int (nI f))]) [0, 1, 2, 3] [3, 2, 0, 1] rfl rfl (by decide) ?_
      have h9 := ih (i + 1) H3 ⟨by omega, ⟨_, _, r2, r1⟩, f3⟩ (by omega)
      rw [show cntB (pcIn vs f) (i + 1) = cntB (pcIn vs f) i + 1 by rw [cntB, hp]; rfl] at h9
      exact h9
    ·
      have hp : pcIn vs f i = false := by
        unfold pcIn
        cases e : seenV vs [2, f, i] (2 ^ 30) with
        | none => rfl
        | some v => exact decide_eq_false (fun h9 => h9 (k2 v e))
      rw [k1]
      refine RQ.brT rfl rfl rfl (by decide) ?_
      refine RQ.blk 1 (pc' := 25) (lv' := [(3, .int (nI i + 1)), (2, .int (nI (cntB (pcIn vs f) i))), (0, .ref 1), (1, .int (nI f))]) (st' := []) (H' := _) (kc' := 0) (ks' := 0) rfl ?_
      rw [show (nI i + 1 : Int32) = nI (i + 1) from nI_add i 1]
      refine RQ.blk 1 (pc' := 4) (lv' := [(3, .int (nI (i + 1))), (2, .int (nI (cntB (pcIn vs f) i))), (0, .ref 1), (1, .int (nI f))]) (st' := []) (H' := _) (kc' := 0) (ks' := 0) rfl ?_
      refine RQ.pick (a := [(3, .int (nI (i + 1))), (2, .int (nI (cntB (pcIn vs f) i))), (0, .ref 1), (1, .int (nI f))]) [0, 1, 2, 3] [3, 2, 0, 1] rfl rfl (by decide) ?_
      have h9 := ih (i + 1) H3 ⟨by omega, ⟨_, _, r2, r1⟩, f3⟩ (by omega)
      rw [show cntB (pcIn vs f) (i + 1) = cntB (pcIn vs f) i by rw [cntB, hp]; rfl] at h9
      exact h9
  ·
    refine RQ.blk 2 (pc' := 7) (lv' := [(3, .int (nI i)), (2, .int (nI (cntB (pcIn vs f) i))), (0, .ref 1), (1, .int (nI f))]) (st' := [.int 32, .int (nI i)]) (H' := _) (kc' := 0) (ks' := 0) rfl ?_
    refine RQ.brT rfl rfl rfl (cT_ge i 32) ?_
    refine RQ.blk 1 (pc' := 29) (lv' := [(3, .int (nI i)), (2, .int (nI (cntB (pcIn vs f) i))), (0, .ref 1), (1, .int (nI f))]) (st' := [.int (nI (cntB (pcIn vs f) i))]) (H' := _) (kc' := 0) (ks' := 0) rfl ?_
    exact RQ.done (c := 0) (s := 0) rfl rfl rfl rfl ⟨_, _, rfl, by rw [show i = 32 by omega], ⟨_, _, e5, e6⟩, f2⟩
