/-! ===== the layout is sound; what is fresh; class; written by wip/gen/lsound.py ===== -/
theorem rc_laySound {sc : Nat × (Nat → Int32)} {d : Nat} {H : aH} {B : Nat} {lgs : List Nat} {fr ff : Nat} {wr : Bool} {tp : Nat} {rs : List aR} {ms mt sq tu : Nat} {us : Nat → Bool} (h : LayIs H B lgs fr ff wr tp rs ms mt sq tu us) (hB : B ≤ 128) (hl30 : ∀ x ∈ lgs, x < 2 ^ 30) (hi30 : ∀ x ∈ rs, ∀ y ∈ x.2.2.2, y < 2 ^ 30) (hu : ∀ b, b < B → usesL lgs rs b ≤ 1 ∧ us b = decide (0 < usesL lgs rs b)) : RC sc (d + 1) mr_203 [.ref 84] H (.inl (some (.int 1))) H 0 0 := by
  obtain ⟨lg, pi, hY, hlg, hlc, hRs⟩ := id h
  refine RC.of ?_
  refine RQ.blk 2 (pc' := 2) (lv' := [(1, .int 0), (0, .ref 84)]) (st' := []) (H' := _) (kc' := 0) (ks' := 0) rfl ?_
  refine RQ.while (S := Nat) (pc := 2) (fun i H' => i ≤ B ∧ H' = H) (fun i => [(1, .int (nI i)), (0, .ref 84)]) (fun i => B - i) ?_ 0 H ⟨Nat.zero_le _, rfl⟩
  rintro i H2 ⟨hi, eH⟩ ih
  rw [eH]
  by_cases hiB : i < B
  ·
    have hui := hu i hiB
    refine RQ.blk 2 (pc' := 4) (lv' := [(1, .int (nI i)), (0, .ref 84)]) (st' := [.ref 84, .int (nI i)]) (H' := _) (kc' := 0) (ks' := 0) rfl ?_
    refine RQ.get (ci := 3) rfl hY.1 rfl rfl ?_
    refine RQ.brF rfl rfl rfl (cF_ge i B) ?_
    refine RQ.blk 2 (pc' := 12) (lv' := [(1, .int (nI i)), (0, .ref 84)]) (st' := [.int (nI i), .ref 84]) (H' := _) (kc' := 0) (ks' := 0) rfl ?_
    refine RQ.call (v := some (.int (nI (usesL lgs rs i)))) (st' := []) rfl rfl rfl rfl rfl rfl (args_v [.int (nI i)] [] rfl rfl (Nat.le_of_ble_eq_true rfl) rfl hY.1 (Nat.le_of_ble_eq_true rfl)) (rc_usesL (b := i) h hB (by omega) hl30 hi30) ?_
    refine RQ.blk 1 (pc' := 16) (lv' := [(1, .int (nI i)), (0, .ref 84)]) (st' := [.int 1, .int (nI (usesL lgs rs i))]) (H' := _) (kc' := 0) (ks' := 0) rfl ?_
    refine RQ.brF rfl rfl rfl (cF_gt (usesL lgs rs i) 1) ?_
    refine RQ.blk 1 (pc' := 20) (lv' := [(1, .int (nI i)), (0, .ref 84)]) (st' := [.ref 84]) (H' := _) (kc' := 0) (ks' := 0) rfl ?_
    refine RQ.get (ci := 3) rfl hY.1 rfl rfl ?_
    refine RQ.blk 1 (pc' := 24) (lv' := [(1, .int (nI i)), (0, .ref 84)]) (st' := [.int (nI i), .ref 87]) (H' := _) (kc' := 0) (ks' := 0) rfl ?_
    refine RQ.zaldN (j := i) rfl hY.2.1 (by omega) (by omega) ?_
    refine RQ.blk 2 (pc' := 27) (lv' := [(1, .int (nI i)), (0, .ref 84)]) (st' := [.int (nI i), .ref 84, .int (if us i then 1 else 0)]) (H' := _) (kc' := 0) (ks' := 0) rfl ?_
    refine RQ.call (v := some (.int (nI (usesL lgs rs i)))) (st' := [.int (if us i then 1 else 0)]) rfl rfl rfl rfl rfl rfl (args_v [.int (nI i)] [.int (if us i then 1 else 0)] rfl rfl (Nat.le_of_ble_eq_true rfl) rfl hY.1 (Nat.le_of_ble_eq_true rfl)) (rc_usesL (b := i) h hB (by omega) hl30 hi30) ?_
    by_cases hu0 : 0 < usesL lgs rs i
    · have hus : us i = true := by rw [hui.2]; exact decide_eq_true hu0
      rw [hus, if_pos rfl]
      refine RQ.brF rfl rfl rfl (cF_le (usesL lgs rs i) 0) ?_
      refine RQ.blk 2 (pc' := 38) (lv' := [(1, .int (nI i)), (0, .ref 84)]) (st' := [.int 1, .int 1]) (H' := _) (kc' := 0) (ks' := 0) rfl ?_
      refine RQ.brT rfl rfl rfl (by decide) ?_
      refine RQ.blk 1 (pc' := 46) (lv' := [(1, .int (nI i + 1)), (0, .ref 84)]) (st' := []) (H' := _) (kc' := 0) (ks' := 0) rfl ?_
      rw [show (nI i + 1 : Int32) = nI (i + 1) from nI_add i 1]
      refine RQ.blk 1 (pc' := 2) (lv' := [(1, .int (nI (i + 1))), (0, .ref 84)]) (st' := []) (H' := _) (kc' := 0) (ks' := 0) rfl ?_
      refine RQ.pick (a := [(1, .int (nI (i + 1))), (0, .ref 84)]) [0, 1] [1, 0] rfl rfl (by decide) ?_
      exact ih (i + 1) _ ⟨by omega, rfl⟩ (by omega)
    · have hus : us i = false := by rw [hui.2]; exact decide_eq_false hu0
      rw [hus, if_neg (by decide)]
      refine RQ.brT rfl rfl rfl (cT_le (usesL lgs rs i) 0) ?_
      refine RQ.blk 1 (pc' := 38) (lv' := [(1, .int (nI i)), (0, .ref 84)]) (st' := [.int 0, .int 0]) (H' := _) (kc' := 0) (ks' := 0) rfl ?_
      refine RQ.brT rfl rfl rfl (by decide) ?_
      refine RQ.blk 1 (pc' := 46) (lv' := [(1, .int (nI i + 1)), (0, .ref 84)]) (st' := []) (H' := _) (kc' := 0) (ks' := 0) rfl ?_
      rw [show (nI i + 1 : Int32) = nI (i + 1) from nI_add i 1]
      refine RQ.blk 1 (pc' := 2) (lv' := [(1, .int (nI (i + 1))), (0, .ref 84)]) (st' := []) (H' := _) (kc' := 0) (ks' := 0) rfl ?_
      refine RQ.pick (a := [(1, .int (nI (i + 1))), (0, .ref 84)]) [0, 1] [1, 0] rfl rfl (by decide) ?_
      exact ih (i + 1) _ ⟨by omega, rfl⟩ (by omega)
  ·
    refine RQ.blk 2 (pc' := 4) (lv' := [(1, .int (nI i)), (0, .ref 84)]) (st' := [.ref 84, .int (nI i)]) (H' := _) (kc' := 0) (ks' := 0) rfl ?_
    refine RQ.get (ci := 3) rfl hY.1 rfl rfl ?_
    refine RQ.brT rfl rfl rfl (cT_ge i B) ?_
    refine RQ.blk 1 (pc' := 50) (lv' := [(1, .int (nI i)), (0, .ref 84)]) (st' := [.int 1]) (H' := _) (kc' := 0) (ks' := 0) rfl ?_
    exact RQ.done (c := 0) (s := 0) rfl rfl rfl rfl rfl
