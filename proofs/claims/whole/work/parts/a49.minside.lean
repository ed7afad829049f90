/-! ===== what lies within; reference; written by wip/gen/minside.py ===== -/
theorem rc_minside {sc : Nat × (Nat → Int32)} {d v t : Nat} {H : aH} {fa li dn cw cl tp rs pr ve us pi hu : Int32} {ba bo : Nat} {pa : Nat → Nat} (hm : H[195]? = some (kO 12 (mfs fa li dn cw cl tp rs pr ve us pi hu ba bo))) (hP : H[214]? = some (kI 201 (fun j => nI (pa j)))) (hpa : ∀ v, v ≤ 200 → pa v ≤ 200) (hv : v ≤ 200) (ht : t ≤ 200) (hup : upF pa t 201 v = 0 ∨ upF pa t 201 v = t) : RC sc d mr_319 [.ref 196, .int (nI v), .int (nI t)] H (.inl (some (.int (if upF pa t 201 v = t then 1 else 0)))) H 0 0 := by
  refine RC.of ?_
  refine RQ.blk 2 (pc' := 2) (lv' := [(3, .int (nI v)), (0, .ref 196), (1, .int (nI v)), (2, .int (nI t))]) (st' := []) (H' := _) (kc' := 0) (ks' := 0) rfl ?_
  refine RQ.while (S := Nat × Nat) (pc := 2) (fun s H' => s.2 ≤ 200 ∧ upF pa t s.1 s.2 = upF pa t 201 v ∧ H' = H) (fun s => [(3, .int (nI s.2)), (0, .ref 196), (1, .int (nI v)), (2, .int (nI t))]) (fun s => s.1) ?_ (201, v) H ⟨hv, rfl, rfl⟩
  rintro ⟨n, x⟩ H2 ⟨hx, hu, eH⟩ ih
  have hx : x ≤ 200 := hx
  have hu : upF pa t n x = upF pa t 201 v := hu
  rw [show H2 = H from eH]
  show RQ _ _ _ 2 [(3, .int (nI x)), (0, .ref 196), (1, .int (nI v)), (2, .int (nI t))] _ _ _ _ _
  have hend : x = 0 ∨ x = t → upF pa t 201 v = x := fun e => by
    rw [← hu]
    cases n with
    | zero => rfl
    | succ n => rw [upF, if_pos e]
  refine RQ.blk 1 (pc' := 3) (lv' := [(3, .int (nI x)), (0, .ref 196), (1, .int (nI v)), (2, .int (nI t))]) (st' := [.int (nI x)]) (H' := _) (kc' := 0) (ks' := 0) rfl ?_
  by_cases c0 : x = 0
  · rw [hend (Or.inl c0)]
    refine RQ.brT rfl rfl rfl (cT_eq x 0) ?_
    refine RQ.blk 2 (pc' := 23) (lv' := [(3, .int (nI x)), (0, .ref 196), (1, .int (nI v)), (2, .int (nI t))]) (st' := [.int (nI t), .int (nI x)]) (H' := _) (kc' := 0) (ks' := 0) rfl ?_
    by_cases ce : x = t
    · rw [if_pos ce]
      refine RQ.brF rfl rfl rfl (cF_ne x t) ?_
      refine RQ.blk 2 (pc' := 31) (lv' := [(3, .int (nI x)), (0, .ref 196), (1, .int (nI v)), (2, .int (nI t))]) (st' := [.int 1]) (H' := _) (kc' := 0) (ks' := 0) rfl ?_
      exact RQ.done (c := 0) (s := 0) rfl rfl rfl rfl rfl
    · rw [if_neg ce]
      refine RQ.brT rfl rfl rfl (cT_ne x t) ?_
      refine RQ.blk 1 (pc' := 31) (lv' := [(3, .int (nI x)), (0, .ref 196), (1, .int (nI v)), (2, .int (nI t))]) (st' := [.int 0]) (H' := _) (kc' := 0) (ks' := 0) rfl ?_
      exact RQ.done (c := 0) (s := 0) rfl rfl rfl rfl rfl
  · refine RQ.brF rfl rfl rfl (cF_eq x 0) ?_
    refine RQ.blk 2 (pc' := 8) (lv' := [(3, .int (nI x)), (0, .ref 196), (1, .int (nI v)), (2, .int (nI t))]) (st' := [.int (nI t), .int (nI x)]) (H' := _) (kc' := 0) (ks' := 0) rfl ?_
    by_cases ct : x = t
    · rw [hend (Or.inr ct)]
      refine RQ.brT rfl rfl rfl (cT_eq x t) ?_
      refine RQ.blk 2 (pc' := 23) (lv' := [(3, .int (nI x)), (0, .ref 196), (1, .int (nI v)), (2, .int (nI t))]) (st' := [.int (nI t), .int (nI x)]) (H' := _) (kc' := 0) (ks' := 0) rfl ?_
      by_cases ce : x = t
      · rw [if_pos ce]
        refine RQ.brF rfl rfl rfl (cF_ne x t) ?_
        refine RQ.blk 2 (pc' := 31) (lv' := [(3, .int (nI x)), (0, .ref 196), (1, .int (nI v)), (2, .int (nI t))]) (st' := [.int 1]) (H' := _) (kc' := 0) (ks' := 0) rfl ?_
        exact RQ.done (c := 0) (s := 0) rfl rfl rfl rfl rfl
      · rw [if_neg ce]
        refine RQ.brT rfl rfl rfl (cT_ne x t) ?_
        refine RQ.blk 1 (pc' := 31) (lv' := [(3, .int (nI x)), (0, .ref 196), (1, .int (nI v)), (2, .int (nI t))]) (st' := [.int 0]) (H' := _) (kc' := 0) (ks' := 0) rfl ?_
        exact RQ.done (c := 0) (s := 0) rfl rfl rfl rfl rfl
    · refine RQ.brF rfl rfl rfl (cF_eq x t) ?_
      refine RQ.blk 1 (pc' := 12) (lv' := [(3, .int (nI x)), (0, .ref 196), (1, .int (nI v)), (2, .int (nI t))]) (st' := [.ref 196]) (H' := _) (kc' := 0) (ks' := 0) rfl ?_
      refine RQ.get (ci := 12) rfl hm rfl rfl ?_
      refine RQ.blk 1 (pc' := 16) (lv' := [(3, .int (nI x)), (0, .ref 196), (1, .int (nI v)), (2, .int (nI t))]) (st' := [.int (nI x), .ref 215]) (H' := _) (kc' := 0) (ks' := 0) rfl ?_
      refine RQ.ialdN (j := x) rfl hP (by omega) (by decide) ?_
      refine RQ.blk 2 (pc' := 2) (lv' := [(3, .int (nI (pa x))), (0, .ref 196), (1, .int (nI v)), (2, .int (nI t))]) (st' := []) (H' := _) (kc' := 0) (ks' := 0) rfl ?_
      refine RQ.pick (a := [(3, .int (nI (pa x))), (0, .ref 196), (1, .int (nI v)), (2, .int (nI t))]) [0, 1, 2, 3] [3, 0, 1, 2] rfl rfl (by decide) ?_
      cases n with
      | zero =>
        have hu : x = upF pa t 201 v := hu
        rw [← hu] at hup
        exact absurd hup (by omega)
      | succ n =>
        rw [upF, if_neg (by omega)] at hu
        exact ih (n, pa x) _ ⟨hpa x hx, hu, rfl⟩ (Nat.lt_succ_self n)
