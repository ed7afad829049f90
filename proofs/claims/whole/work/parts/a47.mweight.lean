/-! ===== what a file weighs; reference; written by wip/gen/mweight.py ===== -/
/-- what the first n pieces add to the file f -/
def wtF (pf pz : Nat → Nat) (f : Nat) : Nat → Nat
  | 0 => 62
  | n + 1 => wtF pf pz f n + (if pf n = f then 27 + pz n else 0)
theorem rc_mweightOf {sc : Nat × (Nat → Int32)} {d f M : Nat} {H : aH} {fa li dn cw cl tp rs pr ve us hu : Int32} {pi ba bo : Nat} {pf pz : Nat → Nat} (hm : H[195]? = some (kO 12 (mfs fa li dn cw cl tp rs pr ve us (nI pi) hu ba bo))) (hF : H[218]? = some (kI M (fun j => nI (pf j)))) (hZ : H[220]? = some (kI M (fun j => nI (pz j)))) (hM : M < 2 ^ 30) (hpi : pi ≤ M) (hf : f < 2 ^ 31) (hb : ∀ j, j < pi → pf j < 2 ^ 31) : RC sc d mr_320 [.ref 196, .int (nI f)] H (.inl (some (.int (nI (wtF pf pz f pi))))) H 0 0 := by
  refine RC.of ?_
  refine RQ.blk 4 (pc' := 5) (lv' := [(3, .int 0), (2, .int 62), (0, .ref 196), (1, .int (nI f))]) (st' := []) (H' := _) (kc' := 0) (ks' := 0) rfl ?_
  refine RQ.while (S := Nat) (pc := 5) (fun i H' => i ≤ pi ∧ H' = H) (fun i => [(3, .int (nI i)), (2, .int (nI (wtF pf pz f i))), (0, .ref 196), (1, .int (nI f))]) (fun i => pi - i) ?_ 0 H ⟨Nat.zero_le _, rfl⟩
  rintro i H2 ⟨hi, eH⟩ ih
  rw [eH]
  by_cases hip : i < pi
  ·
    have hbi := hb i hip
    refine RQ.blk 2 (pc' := 7) (lv' := [(3, .int (nI i)), (2, .int (nI (wtF pf pz f i))), (0, .ref 196), (1, .int (nI f))]) (st' := [.ref 196, .int (nI i)]) (H' := _) (kc' := 0) (ks' := 0) rfl ?_
    refine RQ.get (ci := 12) rfl hm rfl rfl ?_
    refine RQ.brF rfl rfl rfl (cF_ge i pi) ?_
    refine RQ.blk 1 (pc' := 14) (lv' := [(3, .int (nI i)), (2, .int (nI (wtF pf pz f i))), (0, .ref 196), (1, .int (nI f))]) (st' := [.ref 196]) (H' := _) (kc' := 0) (ks' := 0) rfl ?_
    refine RQ.get (ci := 12) rfl hm rfl rfl ?_
    refine RQ.blk 1 (pc' := 18) (lv' := [(3, .int (nI i)), (2, .int (nI (wtF pf pz f i))), (0, .ref 196), (1, .int (nI f))]) (st' := [.int (nI i), .ref 219]) (H' := _) (kc' := 0) (ks' := 0) rfl ?_
    refine RQ.ialdN (j := i) rfl hF (by omega) (by omega) ?_
    refine RQ.blk 1 (pc' := 20) (lv' := [(3, .int (nI i)), (2, .int (nI (wtF pf pz f i))), (0, .ref 196), (1, .int (nI f))]) (st' := [.int (nI f), .int (nI (pf i))]) (H' := _) (kc' := 0) (ks' := 0) rfl ?_
    by_cases k1 : pf i = f
    · refine RQ.brF rfl rfl rfl (cF_ne (pf i) f) ?_
      refine RQ.blk 3 (pc' := 27) (lv' := [(3, .int (nI i)), (2, .int (nI (wtF pf pz f i))), (0, .ref 196), (1, .int (nI f))]) (st' := [.ref 196, .int 27, .int (nI (wtF pf pz f i))]) (H' := _) (kc' := 0) (ks' := 0) rfl ?_
      refine RQ.get (ci := 12) rfl hm rfl rfl ?_
      refine RQ.blk 1 (pc' := 31) (lv' := [(3, .int (nI i)), (2, .int (nI (wtF pf pz f i))), (0, .ref 196), (1, .int (nI f))]) (st' := [.int (nI i), .ref 221, .int 27, .int (nI (wtF pf pz f i))]) (H' := _) (kc' := 0) (ks' := 0) rfl ?_
      refine RQ.ialdN (j := i) rfl hZ (by omega) (by omega) ?_
      refine RQ.blk 1 (pc' := 33) (lv' := [(3, .int (nI i)), (2, .int (nI (wtF pf pz f i))), (0, .ref 196), (1, .int (nI f))]) (st' := [.int (27 + nI (pz i)), .int (nI (wtF pf pz f i))]) (H' := _) (kc' := 0) (ks' := 0) rfl ?_
      rw [show (27 + nI (pz i) : Int32) = nI (27 + (pz i)) from nI_add 27 (pz i)]
      refine RQ.blk 1 (pc' := 34) (lv' := [(3, .int (nI i)), (2, .int (nI (wtF pf pz f i))), (0, .ref 196), (1, .int (nI f))]) (st' := [.int (nI (wtF pf pz f i) + nI (27 + (pz i)))]) (H' := _) (kc' := 0) (ks' := 0) rfl ?_
      rw [show (nI (wtF pf pz f i) + nI (27 + (pz i)) : Int32) = nI (wtF pf pz f i + (27 + (pz i))) from nI_add (wtF pf pz f i) (27 + (pz i))]
      refine RQ.blk 2 (pc' := 38) (lv' := [(3, .int (nI i + 1)), (2, .int (nI (wtF pf pz f i + (27 + (pz i))))), (0, .ref 196), (1, .int (nI f))]) (st' := []) (H' := _) (kc' := 0) (ks' := 0) rfl ?_
      rw [show (nI i + 1 : Int32) = nI (i + 1) from nI_add i 1]
      refine RQ.blk 1 (pc' := 5) (lv' := [(3, .int (nI (i + 1))), (2, .int (nI (wtF pf pz f i + (27 + (pz i))))), (0, .ref 196), (1, .int (nI f))]) (st' := []) (H' := _) (kc' := 0) (ks' := 0) rfl ?_
      refine RQ.pick (a := [(3, .int (nI (i + 1))), (2, .int (nI (wtF pf pz f i + (27 + (pz i))))), (0, .ref 196), (1, .int (nI f))]) [0, 1, 2, 3] [3, 2, 0, 1] rfl rfl (by decide) ?_
      have h9 := ih (i + 1) H ⟨by omega, rfl⟩ (by omega)
      rw [show wtF pf pz f (i + 1) = wtF pf pz f i + (27 + pz i) by rw [wtF, if_pos k1]] at h9
      exact h9
    · refine RQ.brT rfl rfl rfl (cT_ne (pf i) f) ?_
      refine RQ.blk 1 (pc' := 38) (lv' := [(3, .int (nI i + 1)), (2, .int (nI (wtF pf pz f i))), (0, .ref 196), (1, .int (nI f))]) (st' := []) (H' := _) (kc' := 0) (ks' := 0) rfl ?_
      rw [show (nI i + 1 : Int32) = nI (i + 1) from nI_add i 1]
      refine RQ.blk 1 (pc' := 5) (lv' := [(3, .int (nI (i + 1))), (2, .int (nI (wtF pf pz f i))), (0, .ref 196), (1, .int (nI f))]) (st' := []) (H' := _) (kc' := 0) (ks' := 0) rfl ?_
      refine RQ.pick (a := [(3, .int (nI (i + 1))), (2, .int (nI (wtF pf pz f i))), (0, .ref 196), (1, .int (nI f))]) [0, 1, 2, 3] [3, 2, 0, 1] rfl rfl (by decide) ?_
      have h9 := ih (i + 1) H ⟨by omega, rfl⟩ (by omega)
      rw [show wtF pf pz f (i + 1) = wtF pf pz f i by rw [wtF, if_neg k1]; rfl] at h9
      exact h9
  ·
    refine RQ.blk 2 (pc' := 7) (lv' := [(3, .int (nI i)), (2, .int (nI (wtF pf pz f i))), (0, .ref 196), (1, .int (nI f))]) (st' := [.ref 196, .int (nI i)]) (H' := _) (kc' := 0) (ks' := 0) rfl ?_
    refine RQ.get (ci := 12) rfl hm rfl rfl ?_
    refine RQ.brT rfl rfl rfl (cT_ge i pi) ?_
    refine RQ.blk 1 (pc' := 42) (lv' := [(3, .int (nI i)), (2, .int (nI (wtF pf pz f i))), (0, .ref 196), (1, .int (nI f))]) (st' := [.int (nI (wtF pf pz f i))]) (H' := _) (kc' := 0) (ks' := 0) rfl ?_
    exact RQ.done (c := 0) (s := 0) rfl rfl rfl rfl (by rw [show i = pi by omega])
