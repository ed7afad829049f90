/-! ===== a batch: one change taken out; class; written by wip/gen/batch4.py ===== -/
/-- from i on and before k each is the next one, turned by g -/
def shF {α : Type} (f : Nat → α) (g : α → α) (i k j : Nat) : α := if i ≤ j ∧ j < k then g (f (j + 1)) else f j
theorem shF_0 {α : Type} {f : Nat → α} {g : α → α} {i : Nat} : shF f g i i = f := by
  funext j
  exact if_neg (by omega)
theorem shF_up {α : Type} {f : Nat → α} {g : α → α} {i k : Nat} (h : i ≤ k) : va_up (shF f g i k) k (g (f (k + 1))) = shF f g i (k + 1) := by
  funext j
  unfold va_up shF
  by_cases h1 : j = k
  · rw [if_pos h1, if_pos (by omega), h1]
  · rw [if_neg h1]
    by_cases h2 : i ≤ j ∧ j < k
    · rw [if_pos h2, if_pos (by omega)]
    · rw [if_neg h2, if_neg (by omega)]
theorem shF_nx {α : Type} {f : Nat → α} {g : α → α} {i k : Nat} : shF f g i k (k + 1) = f (k + 1) := if_neg (by omega)
theorem rn_drop {sc : Nat × (Nat → Int32)} {i : Nat} {d b n u : Nat} {H : aH} {D : Nat → Int8} {S K : Nat → Nat} {E : Nat → Option Nat} (h : BatchAt H b D S K E n u) (hk : BatchOk S K E n u) (hi : i < n) (hS : ∀ j, i < j → j < n → (K i + (E i).getD 0) ≤ S j) : RN sc (d + 1) mr_48 [.ref (b + 1), .int (nI i)] H (fun H' => BatchAt H' b (cpy D (S i + (K i + (E i).getD 0)) D (S i) (u - S i - (K i + (E i).getD 0))) (shF S (fun z => z - (K i + (E i).getD 0)) i (n - 1)) (shF K (fun z => z) i (n - 1)) (shF E (fun z => z) i (n - 1)) (n - 1) (u - (K i + (E i).getD 0)) ∧ ∀ a, ¬ (b ≤ a ∧ a < b + 5) → H'[a]? = H[a]?) := by
  have hk1 := hk.1
  have hk2 := hk.2.1
  have hk3 := hk.2.2 i hi
  refine RN.of ?_
  refine RQ.blk 1 (pc' := 1) (lv' := [(0, .ref (b + 1)), (1, .int (nI i))]) (st' := [.int (nI i)]) (H' := _) (kc' := 0) (ks' := 0) rfl ?_
  refine RQ.brF rfl rfl rfl (cF_lt i 0) ?_
  refine RQ.blk 2 (pc' := 6) (lv' := [(0, .ref (b + 1)), (1, .int (nI i))]) (st' := [.ref (b + 1), .int (nI i)]) (H' := _) (kc' := 0) (ks' := 0) rfl ?_
  refine RQ.get (ci := 0) rfl h.1 rfl rfl ?_
  refine RQ.brT rfl rfl rfl (cT_lt i n) ?_
  refine RQ.blk 1 (pc' := 14) (lv' := [(0, .ref (b + 1)), (1, .int (nI i))]) (st' := [.ref (b + 1)]) (H' := _) (kc' := 0) (ks' := 0) rfl ?_
  refine RQ.get (ci := 0) rfl h.1 rfl rfl ?_
  refine RQ.blk 1 (pc' := 18) (lv' := [(0, .ref (b + 1)), (1, .int (nI i))]) (st' := [.int (nI i), .ref (b + 3 + 1)]) (H' := _) (kc' := 0) (ks' := 0) rfl ?_
  refine RQ.ialdN (j := i) rfl h.2.2.2.1 (by omega) (by decide) ?_
  refine RQ.blk 1 (pc' := 20) (lv' := [(0, .ref (b + 1)), (1, .int (nI i))]) (st' := [.ref (b + 1), .int (nI (K i))]) (H' := _) (kc' := 0) (ks' := 0) rfl ?_
  refine RQ.get (ci := 0) rfl h.1 rfl rfl ?_
  refine RQ.blk 1 (pc' := 24) (lv' := [(0, .ref (b + 1)), (1, .int (nI i))]) (st' := [.int (nI i), .ref (b + 4 + 1), .int (nI (K i))]) (H' := _) (kc' := 0) (ks' := 0) rfl ?_
  refine RQ.ialdN (j := i) rfl h.2.2.2.2 (by omega) (by decide) ?_
  refine RQ.blk 2 (pc' := 29) (lv' := [(0, .ref (b + 1)), (1, .int (nI i))]) (st' := [.int (if lI (E i) < 0 then 0 else lI (E i)), .int (nI (K i))]) (H' := _) (kc' := 0) (ks' := 0) rfl ?_
  rw [maxL (by omega)]
  refine RQ.blk 1 (pc' := 30) (lv' := [(0, .ref (b + 1)), (1, .int (nI i))]) (st' := [.int (nI (K i) + nI ((E i).getD 0))]) (H' := _) (kc' := 0) (ks' := 0) rfl ?_
  rw [show (nI (K i) + nI ((E i).getD 0) : Int32) = nI (K i + ((E i).getD 0)) from nI_add (K i) ((E i).getD 0)]
  refine RQ.blk 2 (pc' := 32) (lv' := [(2, .int (nI (K i + ((E i).getD 0)))), (0, .ref (b + 1)), (1, .int (nI i))]) (st' := [.ref (b + 1)]) (H' := _) (kc' := 0) (ks' := 0) rfl ?_
  refine RQ.get (ci := 0) rfl h.1 rfl rfl ?_
  refine RQ.blk 1 (pc' := 36) (lv' := [(2, .int (nI (K i + ((E i).getD 0)))), (0, .ref (b + 1)), (1, .int (nI i))]) (st' := [.ref (b + 1), .ref (b + 1 + 1)]) (H' := _) (kc' := 0) (ks' := 0) rfl ?_
  refine RQ.get (ci := 0) rfl h.1 rfl rfl ?_
  refine RQ.blk 1 (pc' := 40) (lv' := [(2, .int (nI (K i + ((E i).getD 0)))), (0, .ref (b + 1)), (1, .int (nI i))]) (st' := [.int (nI i), .ref (b + 2 + 1), .ref (b + 1 + 1)]) (H' := _) (kc' := 0) (ks' := 0) rfl ?_
  refine RQ.ialdN (j := i) rfl h.2.2.1 (by omega) (by decide) ?_
  refine RQ.blk 2 (pc' := 43) (lv' := [(2, .int (nI (K i + ((E i).getD 0)))), (0, .ref (b + 1)), (1, .int (nI i))]) (st' := [.int (nI (S i) + nI (K i + ((E i).getD 0))), .ref (b + 1 + 1)]) (H' := _) (kc' := 0) (ks' := 0) rfl ?_
  rw [show (nI (S i) + nI (K i + ((E i).getD 0)) : Int32) = nI (S i + (K i + ((E i).getD 0))) from nI_add (S i) (K i + ((E i).getD 0))]
  refine RQ.blk 1 (pc' := 44) (lv' := [(2, .int (nI (K i + ((E i).getD 0)))), (0, .ref (b + 1)), (1, .int (nI i))]) (st' := [.ref (b + 1), .int (nI (S i + (K i + ((E i).getD 0)))), .ref (b + 1 + 1)]) (H' := _) (kc' := 0) (ks' := 0) rfl ?_
  refine RQ.get (ci := 0) rfl h.1 rfl rfl ?_
  refine RQ.blk 1 (pc' := 48) (lv' := [(2, .int (nI (K i + ((E i).getD 0)))), (0, .ref (b + 1)), (1, .int (nI i))]) (st' := [.ref (b + 1), .ref (b + 1 + 1), .int (nI (S i + (K i + ((E i).getD 0)))), .ref (b + 1 + 1)]) (H' := _) (kc' := 0) (ks' := 0) rfl ?_
  refine RQ.get (ci := 0) rfl h.1 rfl rfl ?_
  refine RQ.blk 1 (pc' := 52) (lv' := [(2, .int (nI (K i + ((E i).getD 0)))), (0, .ref (b + 1)), (1, .int (nI i))]) (st' := [.int (nI i), .ref (b + 2 + 1), .ref (b + 1 + 1), .int (nI (S i + (K i + ((E i).getD 0)))), .ref (b + 1 + 1)]) (H' := _) (kc' := 0) (ks' := 0) rfl ?_
  refine RQ.ialdN (j := i) rfl h.2.2.1 (by omega) (by decide) ?_
  refine RQ.blk 1 (pc' := 54) (lv' := [(2, .int (nI (K i + ((E i).getD 0)))), (0, .ref (b + 1)), (1, .int (nI i))]) (st' := [.ref (b + 1), .int (nI (S i)), .ref (b + 1 + 1), .int (nI (S i + (K i + ((E i).getD 0)))), .ref (b + 1 + 1)]) (H' := _) (kc' := 0) (ks' := 0) rfl ?_
  refine RQ.get (ci := 0) rfl h.1 rfl rfl ?_
  refine RQ.blk 1 (pc' := 58) (lv' := [(2, .int (nI (K i + ((E i).getD 0)))), (0, .ref (b + 1)), (1, .int (nI i))]) (st' := [.ref (b + 1), .int (nI u), .int (nI (S i)), .ref (b + 1 + 1), .int (nI (S i + (K i + ((E i).getD 0)))), .ref (b + 1 + 1)]) (H' := _) (kc' := 0) (ks' := 0) rfl ?_
  refine RQ.get (ci := 0) rfl h.1 rfl rfl ?_
  refine RQ.blk 1 (pc' := 62) (lv' := [(2, .int (nI (K i + ((E i).getD 0)))), (0, .ref (b + 1)), (1, .int (nI i))]) (st' := [.int (nI i), .ref (b + 2 + 1), .int (nI u), .int (nI (S i)), .ref (b + 1 + 1), .int (nI (S i + (K i + ((E i).getD 0)))), .ref (b + 1 + 1)]) (H' := _) (kc' := 0) (ks' := 0) rfl ?_
  refine RQ.ialdN (j := i) rfl h.2.2.1 (by omega) (by decide) ?_
  refine RQ.blk 1 (pc' := 64) (lv' := [(2, .int (nI (K i + ((E i).getD 0)))), (0, .ref (b + 1)), (1, .int (nI i))]) (st' := [.int (nI u - nI (S i)), .int (nI (S i)), .ref (b + 1 + 1), .int (nI (S i + (K i + ((E i).getD 0)))), .ref (b + 1 + 1)]) (H' := _) (kc' := 0) (ks' := 0) rfl ?_
  rw [show (nI u - nI (S i) : Int32) = nI (u - (S i)) from pk_sub (a := u) (b := (S i)) (by omega)]
  refine RQ.blk 2 (pc' := 66) (lv' := [(2, .int (nI (K i + ((E i).getD 0)))), (0, .ref (b + 1)), (1, .int (nI i))]) (st' := [.int (nI (u - (S i)) - nI (K i + ((E i).getD 0))), .int (nI (S i)), .ref (b + 1 + 1), .int (nI (S i + (K i + ((E i).getD 0)))), .ref (b + 1 + 1)]) (H' := _) (kc' := 0) (ks' := 0) rfl ?_
  rw [show (nI (u - (S i)) - nI (K i + ((E i).getD 0)) : Int32) = nI ((u - (S i)) - (K i + ((E i).getD 0))) from pk_sub (a := (u - (S i))) (b := (K i + ((E i).getD 0))) (by omega)]
  refine RQ.call (v := none) (st' := []) rfl rfl rfl rfl rfl rfl rfl (rc_copy h.2.1 h.2.1 (by decide) (by decide) (by omega) (by omega)) ?_
  refine RQ.blk 2 (pc' := 71) (lv' := [(3, .int (nI i)), (2, .int (nI (K i + ((E i).getD 0)))), (0, .ref (b + 1)), (1, .int (nI i))]) (st' := []) (H' := _) (kc' := 0) (ks' := 0) rfl ?_
  have h0 : BatchAt (H.set (b + 1) (kB 4100 (cpy D (S i + (K i + (E i).getD 0)) D (S i) (u - S i - (K i + (E i).getD 0))))) b (cpy D (S i + (K i + (E i).getD 0)) D (S i) (u - S i - (K i + (E i).getD 0))) (shF S (fun z => z - (K i + (E i).getD 0)) i i) (shF K (fun z => z) i i) (shF E (fun z => z) i i) n u := ⟨(set_far (by omega)).trans h.1, get_set h.2.1, by rw [shF_0]; exact (set_far (by omega)).trans h.2.2.1, by rw [shF_0]; exact (set_far (by omega)).trans h.2.2.2.1, by rw [shF_0]; exact (set_far (by omega)).trans h.2.2.2.2⟩
  refine RQ.while (S := Nat) (pc := 71) (fun k H' => i ≤ k ∧ k < n ∧ BatchAt H' b (cpy D (S i + (K i + (E i).getD 0)) D (S i) (u - S i - (K i + (E i).getD 0))) (shF S (fun z => z - (K i + (E i).getD 0)) i k) (shF K (fun z => z) i k) (shF E (fun z => z) i k) n u ∧ ∀ a, ¬ (b ≤ a ∧ a < b + 5) → H'[a]? = H[a]?) (fun k => [(3, .int (nI k)), (2, .int (nI (K i + (E i).getD 0))), (0, .ref (b + 1)), (1, .int (nI i))]) (fun k => n - k) ?_ i (H.set (b + 1) (kB 4100 (cpy D (S i + (K i + (E i).getD 0)) D (S i) (u - S i - (K i + (E i).getD 0))))) ⟨Nat.le_refl i, hi, h0, fun a ha => set_far (by omega)⟩
  rintro k H1 ⟨hik, hkn, h2, h3⟩ ih
  refine RQ.blk 3 (pc' := 74) (lv' := [(3, .int (nI k)), (2, .int (nI (K i + (E i).getD 0))), (0, .ref (b + 1)), (1, .int (nI i))]) (st' := [.int (nI k + 1)]) (H' := _) (kc' := 0) (ks' := 0) rfl ?_
  rw [show (nI k + 1 : Int32) = nI (k + 1) from nI_add k 1]
  refine RQ.blk 1 (pc' := 75) (lv' := [(3, .int (nI k)), (2, .int (nI (K i + (E i).getD 0))), (0, .ref (b + 1)), (1, .int (nI i))]) (st' := [.ref (b + 1), .int (nI (k + 1))]) (H' := _) (kc' := 0) (ks' := 0) rfl ?_
  refine RQ.get (ci := 0) rfl h2.1 rfl rfl ?_
  by_cases hlt : k + 1 < n
  · have hk4 := hk.2.2 (k + 1) hlt
    have hS1 := hS (k + 1) (by omega) hlt
    refine RQ.brF rfl rfl rfl (cF_ge (k + 1) n) ?_
    refine RQ.blk 1 (pc' := 82) (lv' := [(3, .int (nI k)), (2, .int (nI (K i + (E i).getD 0))), (0, .ref (b + 1)), (1, .int (nI i))]) (st' := [.ref (b + 1)]) (H' := _) (kc' := 0) (ks' := 0) rfl ?_
    refine RQ.get (ci := 0) rfl h2.1 rfl rfl ?_
    refine RQ.blk 2 (pc' := 87) (lv' := [(3, .int (nI k)), (2, .int (nI (K i + (E i).getD 0))), (0, .ref (b + 1)), (1, .int (nI i))]) (st' := [.ref (b + 1), .int (nI k), .ref (b + 2 + 1)]) (H' := _) (kc' := 0) (ks' := 0) rfl ?_
    refine RQ.get (ci := 0) rfl h2.1 rfl rfl ?_
    refine RQ.blk 3 (pc' := 93) (lv' := [(3, .int (nI k)), (2, .int (nI (K i + (E i).getD 0))), (0, .ref (b + 1)), (1, .int (nI i))]) (st' := [.int (nI k + 1), .ref (b + 2 + 1), .int (nI k), .ref (b + 2 + 1)]) (H' := _) (kc' := 0) (ks' := 0) rfl ?_
    rw [show (nI k + 1 : Int32) = nI (k + 1) from nI_add k 1]
    refine RQ.ialdN (j := k + 1) rfl h2.2.2.1 (by omega) (by decide) ?_
    first | rw [shF_nx] | simp only [shF_nx]
    refine RQ.blk 2 (pc' := 96) (lv' := [(3, .int (nI k)), (2, .int (nI (K i + (E i).getD 0))), (0, .ref (b + 1)), (1, .int (nI i))]) (st' := [.int (nI (S (k + 1)) - nI (K i + (E i).getD 0)), .int (nI k), .ref (b + 2 + 1)]) (H' := _) (kc' := 0) (ks' := 0) rfl ?_
    rw [show (nI (S (k + 1)) - nI (K i + (E i).getD 0) : Int32) = nI ((S (k + 1)) - (K i + (E i).getD 0)) from pk_sub (a := (S (k + 1))) (b := (K i + (E i).getD 0)) (by omega)]
    refine RQ.iastN (j := k) rfl h2.2.2.1 (by omega) (by decide) ?_
    refine RQ.blk 1 (pc' := 98) (lv' := [(3, .int (nI k)), (2, .int (nI (K i + (E i).getD 0))), (0, .ref (b + 1)), (1, .int (nI i))]) (st' := [.ref (b + 1)]) (H' := _) (kc' := 0) (ks' := 0) rfl ?_
    refine RQ.get (ci := 0) rfl ((set_far (by omega)).trans h2.1) rfl rfl ?_
    refine RQ.blk 2 (pc' := 103) (lv' := [(3, .int (nI k)), (2, .int (nI (K i + (E i).getD 0))), (0, .ref (b + 1)), (1, .int (nI i))]) (st' := [.ref (b + 1), .int (nI k), .ref (b + 3 + 1)]) (H' := _) (kc' := 0) (ks' := 0) rfl ?_
    refine RQ.get (ci := 0) rfl ((set_far (by omega)).trans h2.1) rfl rfl ?_
    refine RQ.blk 3 (pc' := 109) (lv' := [(3, .int (nI k)), (2, .int (nI (K i + (E i).getD 0))), (0, .ref (b + 1)), (1, .int (nI i))]) (st' := [.int (nI k + 1), .ref (b + 3 + 1), .int (nI k), .ref (b + 3 + 1)]) (H' := _) (kc' := 0) (ks' := 0) rfl ?_
    rw [show (nI k + 1 : Int32) = nI (k + 1) from nI_add k 1]
    refine RQ.ialdN (j := k + 1) rfl ((set_far (by omega)).trans h2.2.2.2.1) (by omega) (by decide) ?_
    first | rw [shF_nx] | simp only [shF_nx]
    refine RQ.iastN (j := k) rfl ((set_far (by omega)).trans h2.2.2.2.1) (by omega) (by decide) ?_
    refine RQ.blk 1 (pc' := 112) (lv' := [(3, .int (nI k)), (2, .int (nI (K i + (E i).getD 0))), (0, .ref (b + 1)), (1, .int (nI i))]) (st' := [.ref (b + 1)]) (H' := _) (kc' := 0) (ks' := 0) rfl ?_
    refine RQ.get (ci := 0) rfl ((set_far (by omega)).trans ((set_far (by omega)).trans h2.1)) rfl rfl ?_
    refine RQ.blk 2 (pc' := 117) (lv' := [(3, .int (nI k)), (2, .int (nI (K i + (E i).getD 0))), (0, .ref (b + 1)), (1, .int (nI i))]) (st' := [.ref (b + 1), .int (nI k), .ref (b + 4 + 1)]) (H' := _) (kc' := 0) (ks' := 0) rfl ?_
    refine RQ.get (ci := 0) rfl ((set_far (by omega)).trans ((set_far (by omega)).trans h2.1)) rfl rfl ?_
    refine RQ.blk 3 (pc' := 123) (lv' := [(3, .int (nI k)), (2, .int (nI (K i + (E i).getD 0))), (0, .ref (b + 1)), (1, .int (nI i))]) (st' := [.int (nI k + 1), .ref (b + 4 + 1), .int (nI k), .ref (b + 4 + 1)]) (H' := _) (kc' := 0) (ks' := 0) rfl ?_
    rw [show (nI k + 1 : Int32) = nI (k + 1) from nI_add k 1]
    refine RQ.ialdN (j := k + 1) rfl ((set_far (by omega)).trans ((set_far (by omega)).trans h2.2.2.2.2)) (by omega) (by decide) ?_
    first | rw [shF_nx] | simp only [shF_nx]
    refine RQ.iastN (j := k) rfl ((set_far (by omega)).trans ((set_far (by omega)).trans h2.2.2.2.2)) (by omega) (by decide) ?_
    refine RQ.blk 1 (pc' := 128) (lv' := [(3, .int (nI k + 1)), (2, .int (nI (K i + (E i).getD 0))), (0, .ref (b + 1)), (1, .int (nI i))]) (st' := []) (H' := _) (kc' := 0) (ks' := 0) rfl ?_
    rw [show (nI k + 1 : Int32) = nI (k + 1) from nI_add k 1]
    refine RQ.blk 1 (pc' := 71) (lv' := [(3, .int (nI (k + 1))), (2, .int (nI (K i + (E i).getD 0))), (0, .ref (b + 1)), (1, .int (nI i))]) (st' := []) (H' := _) (kc' := 0) (ks' := 0) rfl ?_
    exact ih (k + 1) _ ⟨by omega, hlt, ⟨(set_far (by omega)).trans ((set_far (by omega)).trans ((set_far (by omega)).trans h2.1)), (set_far (by omega)).trans ((set_far (by omega)).trans ((set_far (by omega)).trans h2.2.1)), ((set_far (by omega)).trans ((set_far (by omega)).trans (get_set h2.2.2.1))).trans (congrArg (fun f => some (kI 40 f)) (by rw [up_nI]; exact congrArg (fun f => fun j => nI (f j)) (shF_up (g := fun z => z - (K i + (E i).getD 0)) hik))), ((set_far (by omega)).trans (get_set ((set_far (by omega)).trans h2.2.2.2.1))).trans (congrArg (fun f => some (kI 40 f)) (by rw [up_nI]; exact congrArg (fun f => fun j => nI (f j)) (shF_up (g := fun z => z) hik))), (get_set ((set_far (by omega)).trans ((set_far (by omega)).trans h2.2.2.2.2))).trans (congrArg (fun f => some (kI 40 f)) (by rw [up_lI]; exact congrArg (fun f => fun j => lI (f j)) (shF_up (g := fun z => z) hik)))⟩, fun a ha => ((set_far (by omega)).trans ((set_far (by omega)).trans (set_far (by omega)))).trans (h3 a ha)⟩ (by omega)
  · have hke : k = n - 1 := by omega
    refine RQ.brT rfl rfl rfl (cT_ge (k + 1) n) ?_
    refine RQ.blk 2 (pc' := 133) (lv' := [(3, .int (nI k)), (2, .int (nI (K i + (E i).getD 0))), (0, .ref (b + 1)), (1, .int (nI i))]) (st' := [.ref (b + 1), .ref (b + 1)]) (H' := _) (kc' := 0) (ks' := 0) rfl ?_
    refine RQ.get (ci := 0) rfl h2.1 rfl rfl ?_
    refine RQ.blk 2 (pc' := 138) (lv' := [(3, .int (nI k)), (2, .int (nI (K i + (E i).getD 0))), (0, .ref (b + 1)), (1, .int (nI i))]) (st' := [.int (nI u - nI (K i + (E i).getD 0)), .ref (b + 1)]) (H' := _) (kc' := 0) (ks' := 0) rfl ?_
    rw [show (nI u - nI (K i + (E i).getD 0) : Int32) = nI (u - (K i + (E i).getD 0)) from pk_sub (a := u) (b := (K i + (E i).getD 0)) (by omega)]
    refine RQ.put (ci := 0) rfl h2.1 rfl rfl (Nat.le_of_ble_eq_true rfl) ?_
    refine RQ.blk 2 (pc' := 143) (lv' := [(3, .int (nI k)), (2, .int (nI (K i + (E i).getD 0))), (0, .ref (b + 1)), (1, .int (nI i))]) (st' := [.ref (b + 1), .ref (b + 1)]) (H' := _) (kc' := 0) (ks' := 0) rfl ?_
    refine RQ.get (ci := 0) rfl (get_set h2.1) rfl rfl ?_
    refine RQ.blk 2 (pc' := 148) (lv' := [(3, .int (nI k)), (2, .int (nI (K i + (E i).getD 0))), (0, .ref (b + 1)), (1, .int (nI i))]) (st' := [.int (nI n - 1), .ref (b + 1)]) (H' := _) (kc' := 0) (ks' := 0) rfl ?_
    rw [show (nI n - 1 : Int32) = nI (n - 1) from pk_sub (a := n) (b := 1) (by omega)]
    refine RQ.put (ci := 0) rfl (get_set h2.1) rfl rfl (Nat.le_of_ble_eq_true rfl) ?_
    subst hke
    exact RQ.done (c := 0) (s := 0) rfl rfl rfl rfl ⟨_, rfl, ⟨get_set (get_set h2.1), (set_far (by omega)).trans ((set_far (by omega)).trans h2.2.1), (set_far (by omega)).trans ((set_far (by omega)).trans h2.2.2.1), (set_far (by omega)).trans ((set_far (by omega)).trans h2.2.2.2.1), (set_far (by omega)).trans ((set_far (by omega)).trans h2.2.2.2.2)⟩, fun a ha => ((set_far (by omega)).trans (set_far (by omega))).trans (h3 a ha)⟩
