/-! ===== the tree: fields of a number, sizes, what goes, what lies within; class; written by wip/gen/treeg.py ===== -/
theorem rc_parentOf {sc : Nat × (Nat → Int32)} {d v : Nat} {H : aH} {kd pa sz nl : Nat → Nat} {nm : Nat → Int8} {no : Nat} (h : TreeAt H kd pa sz nl nm no) (hk : TreeOk kd pa sz nl) (hv : v ≤ 200) : RC sc (d + 1) mr_213 [.ref 66, .int (nI v)] H (.inl (some (.int (nI (pa v))))) H 0 0 := by
  refine RC.of ?_
  refine RQ.blk 2 (pc' := 2) (lv' := [(0, .ref 66), (1, .int (nI v))]) (st' := [.int (nI v), .ref 66]) (H' := _) (kc' := 0) (ks' := 0) rfl ?_
  refine RQ.call (v := some (.int 1)) (st' := []) rfl rfl rfl rfl rfl rfl (args_v [.int (nI v)] [] rfl rfl (Nat.le_of_ble_eq_true rfl) rfl h.1 (Nat.le_of_ble_eq_true rfl)) (rc_isNum (a := 65) hv) ?_
  refine RQ.brF rfl rfl rfl (by decide) ?_
  refine RQ.blk 1 (pc' := 9) (lv' := [(0, .ref 66), (1, .int (nI v))]) (st' := [.ref 66]) (H' := _) (kc' := 0) (ks' := 0) rfl ?_
  refine RQ.get (ci := 9) rfl h.1 rfl rfl ?_
  refine RQ.blk 1 (pc' := 13) (lv' := [(0, .ref 66), (1, .int (nI v))]) (st' := [.int (nI v), .ref 68]) (H' := _) (kc' := 0) (ks' := 0) rfl ?_
  refine RQ.ialdN (j := v) rfl h.2.2.1 (by omega) (by decide) ?_
  refine RQ.blk 1 (pc' := 18) (lv' := [(0, .ref 66), (1, .int (nI v))]) (st' := [.int (nI (pa v))]) (H' := _) (kc' := 0) (ks' := 0) rfl ?_
  exact RQ.done (c := 0) (s := 0) rfl rfl rfl rfl rfl
theorem rc_sizeOf {sc : Nat × (Nat → Int32)} {d v : Nat} {H : aH} {kd pa sz nl : Nat → Nat} {nm : Nat → Int8} {no : Nat} (h : TreeAt H kd pa sz nl nm no) (hk : TreeOk kd pa sz nl) (hv : v ≤ 200) : RC sc (d + 1) mr_234 [.ref 66, .int (nI v)] H (.inl (some (.int (nI (sz v))))) H 0 0 := by
  refine RC.of ?_
  refine RQ.blk 2 (pc' := 2) (lv' := [(0, .ref 66), (1, .int (nI v))]) (st' := [.int (nI v), .ref 66]) (H' := _) (kc' := 0) (ks' := 0) rfl ?_
  refine RQ.call (v := some (.int 1)) (st' := []) rfl rfl rfl rfl rfl rfl (args_v [.int (nI v)] [] rfl rfl (Nat.le_of_ble_eq_true rfl) rfl h.1 (Nat.le_of_ble_eq_true rfl)) (rc_isNum (a := 65) hv) ?_
  refine RQ.brF rfl rfl rfl (by decide) ?_
  refine RQ.blk 1 (pc' := 9) (lv' := [(0, .ref 66), (1, .int (nI v))]) (st' := [.ref 66]) (H' := _) (kc' := 0) (ks' := 0) rfl ?_
  refine RQ.get (ci := 9) rfl h.1 rfl rfl ?_
  refine RQ.blk 1 (pc' := 13) (lv' := [(0, .ref 66), (1, .int (nI v))]) (st' := [.int (nI v), .ref 69]) (H' := _) (kc' := 0) (ks' := 0) rfl ?_
  refine RQ.ialdN (j := v) rfl h.2.2.2.1 (by omega) (by decide) ?_
  refine RQ.blk 1 (pc' := 18) (lv' := [(0, .ref 66), (1, .int (nI v))]) (st' := [.int (nI (sz v))]) (H' := _) (kc' := 0) (ks' := 0) rfl ?_
  exact RQ.done (c := 0) (s := 0) rfl rfl rfl rfl rfl
theorem rc_nameLengthOf {sc : Nat × (Nat → Int32)} {d v : Nat} {H : aH} {kd pa sz nl : Nat → Nat} {nm : Nat → Int8} {no : Nat} (h : TreeAt H kd pa sz nl nm no) (hk : TreeOk kd pa sz nl) (hv : v ≤ 200) : RC sc (d + 1) mr_244 [.ref 66, .int (nI v)] H (.inl (some (.int (nI (nl v))))) H 0 0 := by
  refine RC.of ?_
  refine RQ.blk 2 (pc' := 2) (lv' := [(0, .ref 66), (1, .int (nI v))]) (st' := [.int (nI v), .ref 66]) (H' := _) (kc' := 0) (ks' := 0) rfl ?_
  refine RQ.call (v := some (.int 1)) (st' := []) rfl rfl rfl rfl rfl rfl (args_v [.int (nI v)] [] rfl rfl (Nat.le_of_ble_eq_true rfl) rfl h.1 (Nat.le_of_ble_eq_true rfl)) (rc_isNum (a := 65) hv) ?_
  refine RQ.brF rfl rfl rfl (by decide) ?_
  refine RQ.blk 1 (pc' := 9) (lv' := [(0, .ref 66), (1, .int (nI v))]) (st' := [.ref 66]) (H' := _) (kc' := 0) (ks' := 0) rfl ?_
  refine RQ.get (ci := 9) rfl h.1 rfl rfl ?_
  refine RQ.blk 1 (pc' := 13) (lv' := [(0, .ref 66), (1, .int (nI v))]) (st' := [.int (nI v), .ref 70]) (H' := _) (kc' := 0) (ks' := 0) rfl ?_
  refine RQ.ialdN (j := v) rfl h.2.2.2.2.1 (by omega) (by decide) ?_
  refine RQ.blk 1 (pc' := 18) (lv' := [(0, .ref 66), (1, .int (nI v))]) (st' := [.int (nI (nl v))]) (H' := _) (kc' := 0) (ks' := 0) rfl ?_
  exact RQ.done (c := 0) (s := 0) rfl rfl rfl rfl rfl
theorem rc_isFile {sc : Nat × (Nat → Int32)} {d v : Nat} {H : aH} {kd pa sz nl : Nat → Nat} {nm : Nat → Int8} {no : Nat} (h : TreeAt H kd pa sz nl nm no) (hk : TreeOk kd pa sz nl) (hv : v ≤ 200) : RC sc (d + 2) mr_240 [.ref 66, .int (nI v)] H (.inl (some (.int (if kd v = 1 then 1 else 0)))) H 0 0 := by
  refine RC.of ?_
  have hkv := (hk v hv).1
  refine RQ.blk 2 (pc' := 2) (lv' := [(0, .ref 66), (1, .int (nI v))]) (st' := [.int (nI v), .ref 66]) (H' := _) (kc' := 0) (ks' := 0) rfl ?_
  refine RQ.call (v := some (.int (nI (kd v)))) (st' := []) rfl rfl rfl rfl rfl rfl (args_v [.int (nI v)] [] rfl rfl (Nat.le_of_ble_eq_true rfl) rfl h.1 (Nat.le_of_ble_eq_true rfl)) (rc_kindOf (a := 65) (k := 66) h.1 rfl h.2.1 hv) ?_
  refine RQ.blk 1 (pc' := 6) (lv' := [(0, .ref 66), (1, .int (nI v))]) (st' := [.int 1, .int (nI (kd v))]) (H' := _) (kc' := 0) (ks' := 0) rfl ?_
  by_cases c0 : (kd v) = 1
  · refine RQ.brF rfl rfl rfl (cF_ne (kd v) 1) ?_
    refine RQ.blk 2 (pc' := 14) (lv' := [(0, .ref 66), (1, .int (nI v))]) (st' := [.int 1]) (H' := _) (kc' := 0) (ks' := 0) rfl ?_
    rw [if_pos c0]
    exact RQ.done (c := 0) (s := 0) rfl rfl rfl rfl rfl
  · refine RQ.brT rfl rfl rfl (cT_ne (kd v) 1) ?_
    refine RQ.blk 1 (pc' := 14) (lv' := [(0, .ref 66), (1, .int (nI v))]) (st' := [.int 0]) (H' := _) (kc' := 0) (ks' := 0) rfl ?_
    rw [if_neg c0]
    exact RQ.done (c := 0) (s := 0) rfl rfl rfl rfl rfl
theorem rn_setSize {sc : Nat × (Nat → Int32)} {d v s : Nat} {H : aH} {kd pa sz nl : Nat → Nat} {nm : Nat → Int8} {no : Nat} (h : TreeAt H kd pa sz nl nm no) (hv : v ≤ 200) : RN sc (d + 1) mr_245 [.ref 66, .int (nI v), .int (nI s)] H (fun H' => TreeAt H' kd pa (va_up sz v s) nl nm no ∧ ∀ a, ¬ (65 ≤ a ∧ a < 71) → H'[a]? = H[a]?) := by
  refine RN.of ?_
  refine RQ.blk 2 (pc' := 2) (lv' := [(0, .ref 66), (1, .int (nI v)), (2, .int (nI s))]) (st' := [.int (nI v), .ref 66]) (H' := _) (kc' := 0) (ks' := 0) rfl ?_
  refine RQ.call (v := some (.int 1)) (st' := []) rfl rfl rfl rfl rfl rfl (args_v [.int (nI v)] [] rfl rfl (Nat.le_of_ble_eq_true rfl) rfl h.1 (Nat.le_of_ble_eq_true rfl)) (rc_isNum (a := 65) hv) ?_
  refine RQ.brF rfl rfl rfl (by decide) ?_
  refine RQ.blk 1 (pc' := 9) (lv' := [(0, .ref 66), (1, .int (nI v)), (2, .int (nI s))]) (st' := [.ref 66]) (H' := _) (kc' := 0) (ks' := 0) rfl ?_
  refine RQ.get (ci := 9) rfl h.1 rfl rfl ?_
  refine RQ.blk 2 (pc' := 14) (lv' := [(0, .ref 66), (1, .int (nI v)), (2, .int (nI s))]) (st' := [.int (nI s), .int (nI v), .ref 69]) (H' := _) (kc' := 0) (ks' := 0) rfl ?_
  refine RQ.iastN (j := v) rfl h.2.2.2.1 (by omega) (by decide) ?_
  rw [up_nI]
  exact RQ.done (c := 0) (s := 0) rfl rfl rfl rfl ⟨_, rfl, ⟨((set_far (by decide)).trans h.1), ((set_far (by decide)).trans h.2.1), ((set_far (by decide)).trans h.2.2.1), (get_set h.2.2.2.1), ((set_far (by decide)).trans h.2.2.2.2.1), ((set_far (by decide)).trans h.2.2.2.2.2)⟩, fun a ha => set_far (by omega)⟩
theorem rn_unset {sc : Nat × (Nat → Int32)} {d v : Nat} {H : aH} {kd pa sz nl : Nat → Nat} {nm : Nat → Int8} {no : Nat} (h : TreeAt H kd pa sz nl nm no) (hk : TreeOk kd pa sz nl) (hv1 : 1 ≤ v) (hv : v ≤ 200) (hkv : ¬ kd v = 0) (hno : 1 ≤ no) : RN sc d mr_231 [.ref 66, .int (nI v)] H (fun H' => TreeAt H' (va_up kd v 0) pa sz nl nm (no - 1) ∧ ∀ a, ¬ (65 ≤ a ∧ a < 71) → H'[a]? = H[a]?) := by
  have hkv2 := (hk v hv).1
  refine RN.of ?_
  refine RQ.blk 2 (pc' := 2) (lv' := [(0, .ref 66), (1, .int (nI v))]) (st' := [.int 1, .int (nI v)]) (H' := _) (kc' := 0) (ks' := 0) rfl ?_
  refine RQ.brF rfl rfl rfl (cF_lt v 1) ?_
  refine RQ.blk 2 (pc' := 9) (lv' := [(0, .ref 66), (1, .int (nI v))]) (st' := [.int 200, .int (nI v)]) (H' := _) (kc' := 0) (ks' := 0) rfl ?_
  refine RQ.brF rfl rfl rfl (cF_gt v 200) ?_
  refine RQ.blk 1 (pc' := 13) (lv' := [(0, .ref 66), (1, .int (nI v))]) (st' := [.ref 66]) (H' := _) (kc' := 0) (ks' := 0) rfl ?_
  refine RQ.get (ci := 9) rfl h.1 rfl rfl ?_
  refine RQ.blk 1 (pc' := 17) (lv' := [(0, .ref 66), (1, .int (nI v))]) (st' := [.int (nI v), .ref 67]) (H' := _) (kc' := 0) (ks' := 0) rfl ?_
  refine RQ.ialdN (j := v) rfl h.2.1 (by omega) (by decide) ?_
  refine RQ.brF rfl rfl rfl (cF_eq (kd v) 0) ?_
  refine RQ.blk 1 (pc' := 22) (lv' := [(0, .ref 66), (1, .int (nI v))]) (st' := [.ref 66]) (H' := _) (kc' := 0) (ks' := 0) rfl ?_
  refine RQ.get (ci := 9) rfl h.1 rfl rfl ?_
  refine RQ.blk 2 (pc' := 27) (lv' := [(0, .ref 66), (1, .int (nI v))]) (st' := [.int 0, .int (nI v), .ref 67]) (H' := _) (kc' := 0) (ks' := 0) rfl ?_
  refine RQ.iastN (j := v) rfl h.2.1 (by omega) (by decide) ?_
  rw [show va_up (fun j => nI (kd j)) v (0 : Int32) = (fun j => nI (va_up kd v 0 j)) from up_nI (m := 0)]
  refine RQ.blk 2 (pc' := 30) (lv' := [(0, .ref 66), (1, .int (nI v))]) (st' := [.ref 66, .ref 66]) (H' := _) (kc' := 0) (ks' := 0) rfl ?_
  refine RQ.get (ci := 9) rfl ((set_far (by decide)).trans h.1) rfl rfl ?_
  refine RQ.blk 2 (pc' := 35) (lv' := [(0, .ref 66), (1, .int (nI v))]) (st' := [.int (nI no - 1), .ref 66]) (H' := _) (kc' := 0) (ks' := 0) rfl ?_
  rw [show (nI no - 1 : Int32) = nI (no - 1) from pk_sub (a := no) (b := 1) (by omega)]
  refine RQ.put (ci := 9) rfl ((set_far (by decide)).trans h.1) rfl rfl (Nat.le_of_ble_eq_true rfl) ?_
  exact RQ.done (c := 0) (s := 0) rfl rfl rfl rfl ⟨_, rfl, ⟨(get_set ((set_far (by decide)).trans h.1)), ((set_far (by decide)).trans (get_set h.2.1)), ((set_far (by decide)).trans ((set_far (by decide)).trans h.2.2.1)), ((set_far (by decide)).trans ((set_far (by decide)).trans h.2.2.2.1)), ((set_far (by decide)).trans ((set_far (by decide)).trans h.2.2.2.2.1)), ((set_far (by decide)).trans ((set_far (by decide)).trans h.2.2.2.2.2))⟩, fun a ha => (set_far (by omega)).trans (set_far (by omega))⟩
/-- up from x, at most n times, until the root or t -/
def upF (pa : Nat → Nat) (t : Nat) : Nat → Nat → Nat
  | 0, x => x
  | n + 1, x => if x = 0 ∨ x = t then x else upF pa t n (pa x)
theorem upF_le {pa : Nat → Nat} {t : Nat} (hp : ∀ v, v ≤ 200 → pa v ≤ 200) : ∀ (n x : Nat), x ≤ 200 → upF pa t n x ≤ 200
  | 0, x, h => h
  | n + 1, x, h => by
    rw [upF]
    split
    · exact h
    · exact upF_le hp n (pa x) (hp x h)
theorem rc_isWithin {sc : Nat × (Nat → Int32)} {d v t : Nat} {H : aH} {kd pa sz nl : Nat → Nat} {nm : Nat → Int8} {no : Nat} (h : TreeAt H kd pa sz nl nm no) (hk : TreeOk kd pa sz nl) (hv : v ≤ 200) (ht : t ≤ 200) : RC sc (d + 2) mr_212 [.ref 66, .int (nI v), .int (nI t)] H (.inl (some (.int (if upF pa t 201 v = t then 1 else 0)))) H 0 0 := by
  have hpa : ∀ v, v ≤ 200 → pa v ≤ 200 := fun v hv => (hk v hv).2.1
  refine RC.of ?_
  refine RQ.blk 4 (pc' := 5) (lv' := [(4, .int 0), (3, .int (nI v)), (0, .ref 66), (1, .int (nI v)), (2, .int (nI t))]) (st' := []) (H' := _) (kc' := 0) (ks' := 0) rfl ?_
  refine RQ.while (S := Nat × Nat) (pc := 5) (fun s H' => s.1 ≤ 201 ∧ s.2 ≤ 200 ∧ upF pa t (201 - s.1) s.2 = upF pa t 201 v ∧ H' = H) (fun s => [(4, .int (nI s.1)), (3, .int (nI s.2)), (0, .ref 66), (1, .int (nI v)), (2, .int (nI t))]) (fun s => 201 - s.1) ?_ (0, v) H ⟨Nat.zero_le _, hv, rfl, rfl⟩
  rintro ⟨i, x⟩ H2 ⟨hi, hx, hu, eH⟩ ih
  have hi : i ≤ 201 := hi
  have hx : x ≤ 200 := hx
  have hu : upF pa t (201 - i) x = upF pa t 201 v := hu
  rw [show H2 = H from eH]
  show RQ _ _ _ 5 [(4, .int (nI i)), (3, .int (nI x)), (0, .ref 66), (1, .int (nI v)), (2, .int (nI t))] _ _ _ _ _
  by_cases hi2 : i ≤ 200
  ·
    have e1 : 201 - i = (201 - (i + 1)) + 1 := by omega
    refine RQ.blk 2 (pc' := 10) (lv' := [(4, .int (nI i)), (3, .int (nI x)), (0, .ref 66), (1, .int (nI v)), (2, .int (nI t))]) (st' := [.int 200, .int (nI i)]) (H' := _) (kc' := 0) (ks' := 0) rfl ?_
    refine RQ.brF rfl rfl rfl (cF_gt i 200) ?_
    refine RQ.blk 1 (pc' := 14) (lv' := [(4, .int (nI i)), (3, .int (nI x)), (0, .ref 66), (1, .int (nI v)), (2, .int (nI t))]) (st' := [.int (nI x)]) (H' := _) (kc' := 0) (ks' := 0) rfl ?_
    by_cases cx : x ≤ 0
    · have hend : upF pa t (201 - i) x = x := by rw [e1, upF, if_pos (Or.inl (by omega))]
      refine RQ.brT rfl rfl rfl (cT_le x 0) ?_
      refine RQ.blk 2 (pc' := 36) (lv' := [(4, .int (nI i)), (3, .int (nI x)), (0, .ref 66), (1, .int (nI v)), (2, .int (nI t))]) (st' := [.int (nI t), .int (nI x)]) (H' := _) (kc' := 0) (ks' := 0) rfl ?_
      by_cases ce : x = t
      · rw [hend] at hu
        rw [← hu, if_pos ce]
        refine RQ.brF rfl rfl rfl (cF_ne x t) ?_
        refine RQ.blk 2 (pc' := 44) (lv' := [(4, .int (nI i)), (3, .int (nI x)), (0, .ref 66), (1, .int (nI v)), (2, .int (nI t))]) (st' := [.int 1]) (H' := _) (kc' := 0) (ks' := 0) rfl ?_
        exact RQ.done (c := 0) (s := 0) rfl rfl rfl rfl rfl
      · rw [hend] at hu
        rw [← hu, if_neg ce]
        refine RQ.brT rfl rfl rfl (cT_ne x t) ?_
        refine RQ.blk 1 (pc' := 44) (lv' := [(4, .int (nI i)), (3, .int (nI x)), (0, .ref 66), (1, .int (nI v)), (2, .int (nI t))]) (st' := [.int 0]) (H' := _) (kc' := 0) (ks' := 0) rfl ?_
        exact RQ.done (c := 0) (s := 0) rfl rfl rfl rfl rfl
    · refine RQ.brF rfl rfl rfl (cF_le x 0) ?_
      refine RQ.blk 2 (pc' := 19) (lv' := [(4, .int (nI i)), (3, .int (nI x)), (0, .ref 66), (1, .int (nI v)), (2, .int (nI t))]) (st' := [.int (nI t), .int (nI x)]) (H' := _) (kc' := 0) (ks' := 0) rfl ?_
      by_cases ct : x = t
      · have hend : upF pa t (201 - i) x = x := by rw [e1, upF, if_pos (Or.inr ct)]
        refine RQ.brT rfl rfl rfl (cT_eq x t) ?_
        refine RQ.blk 2 (pc' := 36) (lv' := [(4, .int (nI i)), (3, .int (nI x)), (0, .ref 66), (1, .int (nI v)), (2, .int (nI t))]) (st' := [.int (nI t), .int (nI x)]) (H' := _) (kc' := 0) (ks' := 0) rfl ?_
        by_cases ce : x = t
        · rw [hend] at hu
          rw [← hu, if_pos ce]
          refine RQ.brF rfl rfl rfl (cF_ne x t) ?_
          refine RQ.blk 2 (pc' := 44) (lv' := [(4, .int (nI i)), (3, .int (nI x)), (0, .ref 66), (1, .int (nI v)), (2, .int (nI t))]) (st' := [.int 1]) (H' := _) (kc' := 0) (ks' := 0) rfl ?_
          exact RQ.done (c := 0) (s := 0) rfl rfl rfl rfl rfl
        · rw [hend] at hu
          rw [← hu, if_neg ce]
          refine RQ.brT rfl rfl rfl (cT_ne x t) ?_
          refine RQ.blk 1 (pc' := 44) (lv' := [(4, .int (nI i)), (3, .int (nI x)), (0, .ref 66), (1, .int (nI v)), (2, .int (nI t))]) (st' := [.int 0]) (H' := _) (kc' := 0) (ks' := 0) rfl ?_
          exact RQ.done (c := 0) (s := 0) rfl rfl rfl rfl rfl
      · have hstep : upF pa t (201 - i) x = upF pa t (201 - (i + 1)) (pa x) := by conv => lhs; rw [e1, upF, if_neg (by omega)]
        refine RQ.brF rfl rfl rfl (cF_eq x t) ?_
        refine RQ.blk 2 (pc' := 24) (lv' := [(4, .int (nI i)), (3, .int (nI x)), (0, .ref 66), (1, .int (nI v)), (2, .int (nI t))]) (st' := [.int (nI x), .ref 66]) (H' := _) (kc' := 0) (ks' := 0) rfl ?_
        refine RQ.call (v := some (.int (nI (pa x)))) (st' := []) rfl rfl rfl rfl rfl rfl (args_v [.int (nI x)] [] rfl rfl (Nat.le_of_ble_eq_true rfl) rfl h.1 (Nat.le_of_ble_eq_true rfl)) (rc_parentOf h hk hx) ?_
        refine RQ.blk 2 (pc' := 31) (lv' := [(4, .int (nI i + 1)), (3, .int (nI (pa x))), (0, .ref 66), (1, .int (nI v)), (2, .int (nI t))]) (st' := []) (H' := _) (kc' := 0) (ks' := 0) rfl ?_
        rw [show (nI i + 1 : Int32) = nI (i + 1) from nI_add i 1]
        refine RQ.blk 1 (pc' := 5) (lv' := [(4, .int (nI (i + 1))), (3, .int (nI (pa x))), (0, .ref 66), (1, .int (nI v)), (2, .int (nI t))]) (st' := []) (H' := _) (kc' := 0) (ks' := 0) rfl ?_
        refine RQ.pick (a := [(4, .int (nI (i + 1))), (3, .int (nI (pa x))), (0, .ref 66), (1, .int (nI v)), (2, .int (nI t))]) [0, 1, 2, 3, 4] [4, 3, 0, 1, 2] rfl rfl (by decide) ?_
        exact ih (i + 1, pa x) _ ⟨by omega, hpa x hx, by rw [hstep] at hu; exact hu, rfl⟩ (by show 201 - (i + 1) < 201 - i; omega)
  ·
    have hend : upF pa t (201 - i) x = x := by rw [show 201 - i = 0 by omega]; rfl
    refine RQ.blk 2 (pc' := 10) (lv' := [(4, .int (nI i)), (3, .int (nI x)), (0, .ref 66), (1, .int (nI v)), (2, .int (nI t))]) (st' := [.int 200, .int (nI i)]) (H' := _) (kc' := 0) (ks' := 0) rfl ?_
    refine RQ.brT rfl rfl rfl (cT_gt i 200) ?_
    refine RQ.blk 2 (pc' := 36) (lv' := [(4, .int (nI i)), (3, .int (nI x)), (0, .ref 66), (1, .int (nI v)), (2, .int (nI t))]) (st' := [.int (nI t), .int (nI x)]) (H' := _) (kc' := 0) (ks' := 0) rfl ?_
    by_cases ce : x = t
    · rw [hend] at hu
      rw [← hu, if_pos ce]
      refine RQ.brF rfl rfl rfl (cF_ne x t) ?_
      refine RQ.blk 2 (pc' := 44) (lv' := [(4, .int (nI i)), (3, .int (nI x)), (0, .ref 66), (1, .int (nI v)), (2, .int (nI t))]) (st' := [.int 1]) (H' := _) (kc' := 0) (ks' := 0) rfl ?_
      exact RQ.done (c := 0) (s := 0) rfl rfl rfl rfl rfl
    · rw [hend] at hu
      rw [← hu, if_neg ce]
      refine RQ.brT rfl rfl rfl (cT_ne x t) ?_
      refine RQ.blk 1 (pc' := 44) (lv' := [(4, .int (nI i)), (3, .int (nI x)), (0, .ref 66), (1, .int (nI v)), (2, .int (nI t))]) (st' := [.int 0]) (H' := _) (kc' := 0) (ks' := 0) rfl ?_
      exact RQ.done (c := 0) (s := 0) rfl rfl rfl rfl rfl
