/-! ===== the reference: a row taken out; written by wip/gen/mrows2.py ===== -/
theorem rn_mtakeOut {sc : Nat × (Nat → Int32)} {i : Nat} {d t : Nat} {H : aH} {ro fi wk wn : Nat → Nat} {wz : Nat → Option Nat} {wb : Nat → Int8} {fa li dn cw cl tp rs pr ve us pi hu : Int32} {ba bo : Nat} (hm : H[195]? = some (kO 12 (mfs fa li dn cw cl tp rs pr ve us pi hu ba bo))) (h : MRAt H ro fi wk wn wz wb) (hk : MROk ro fi wk wn wz t) (hi : i < ro t) (hS : ∀ j, i < j → j < ro t → (wn (32 * t + i) + (wz (32 * t + i)).getD 0) ≤ wk (32 * t + j)) : RN sc (d + 1) mr_287 [.ref 196, .int (nI t), .int (nI (32 * t + i))] H (fun H' => MRAt H' (va_up ro t (ro t - 1)) (va_up fi t (fi t - (wn (32 * t + i) + (wz (32 * t + i)).getD 0))) (shF wk (fun z => z - (wn (32 * t + i) + (wz (32 * t + i)).getD 0)) (32 * t + i) (32 * t + (ro t - 1))) (shF wn (fun z => z) (32 * t + i) (32 * t + (ro t - 1))) (shF wz (fun z => z) (32 * t + i) (32 * t + (ro t - 1))) (shB wb (wn (32 * t + i) + (wz (32 * t + i)).getD 0) (wk (32 * t + i)) (4000 * t + fi t - (wn (32 * t + i) + (wz (32 * t + i)).getD 0))) ∧ ∀ a, ¬ (207 ≤ a ∧ a < 213) → H'[a]? = H[a]?) := by
  obtain ⟨ht, hro, hfi, hrow⟩ := hk
  have hri := hrow i hi
  refine RN.of ?_
  refine RQ.blk 1 (pc' := 1) (lv' := [(0, .ref 196), (1, .int (nI t)), (2, .int (nI (32 * t + i)))]) (st' := [.ref 196]) (H' := _) (kc' := 0) (ks' := 0) rfl ?_
  refine RQ.get (ci := 12) rfl hm rfl rfl ?_
  refine RQ.blk 1 (pc' := 5) (lv' := [(0, .ref 196), (1, .int (nI t)), (2, .int (nI (32 * t + i)))]) (st' := [.int (nI (32 * t + i)), .ref 210]) (H' := _) (kc' := 0) (ks' := 0) rfl ?_
  refine RQ.ialdN (j := 32 * t + i) rfl h.2.2.1 (by omega) (by decide) ?_
  refine RQ.blk 3 (pc' := 9) (lv' := [(3, .int (nI (wk (32 * t + i)))), (0, .ref 196), (1, .int (nI t)), (2, .int (nI (32 * t + i)))]) (st' := [.int (nI (32 * t + i)), .ref 196]) (H' := _) (kc' := 0) (ks' := 0) rfl ?_
  refine RQ.call (v := some (.int (nI (wn (32 * t + i) + (wz (32 * t + i)).getD 0)))) (st' := []) rfl rfl rfl rfl rfl rfl (args_v [.int (nI (32 * t + i))] [] rfl rfl (Nat.le_of_ble_eq_true rfl) rfl hm (Nat.le_of_ble_eq_true rfl)) (rc_mrowBytes hm h (by omega) (by omega)) ?_
  refine RQ.blk 3 (pc' := 17) (lv' := [(5, .int (nI (wk (32 * t + i)))), (4, .int (nI (wn (32 * t + i) + (wz (32 * t + i)).getD 0))), (3, .int (nI (wk (32 * t + i)))), (0, .ref 196), (1, .int (nI t)), (2, .int (nI (32 * t + i)))]) (st' := []) (H' := _) (kc' := 0) (ks' := 0) rfl ?_
  have h0 : MRAt H ro fi wk wn wz (shB wb (wn (32 * t + i) + (wz (32 * t + i)).getD 0) (wk (32 * t + i)) (wk (32 * t + i))) := by rw [shB_0]; exact h
  refine RQ.while (S := Nat) (pc := 17) (fun k H' => (wk (32 * t + i)) ≤ k ∧ k ≤ (4000 * t + fi t - (wn (32 * t + i) + (wz (32 * t + i)).getD 0)) ∧ MRAt H' ro fi wk wn wz (shB wb (wn (32 * t + i) + (wz (32 * t + i)).getD 0) (wk (32 * t + i)) k) ∧ ∀ a, ¬ (207 ≤ a ∧ a < 213) → H'[a]? = H[a]?) (fun k => [(5, .int (nI k)), (4, .int (nI (wn (32 * t + i) + (wz (32 * t + i)).getD 0))), (3, .int (nI (wk (32 * t + i)))), (0, .ref 196), (1, .int (nI t)), (2, .int (nI (32 * t + i)))]) (fun k => 32000 - k) ?_ (wk (32 * t + i)) H ⟨Nat.le_refl _, by omega, h0, fun a _ => rfl⟩
  rintro k H1 ⟨q1, q2, h2, h3⟩ ih
  have hm2 := (h3 195 (by omega)).trans hm
  refine RQ.blk 4 (pc' := 24) (lv' := [(5, .int (nI k)), (4, .int (nI (wn (32 * t + i) + (wz (32 * t + i)).getD 0))), (3, .int (nI (wk (32 * t + i)))), (0, .ref 196), (1, .int (nI t)), (2, .int (nI (32 * t + i)))]) (st' := [.int (4000 * nI t), .int (nI k)]) (H' := _) (kc' := 0) (ks' := 0) rfl ?_
  rw [show (4000 * nI t : Int32) = nI (4000 * t) from pk_mul 4000 t]
  refine RQ.blk 1 (pc' := 25) (lv' := [(5, .int (nI k)), (4, .int (nI (wn (32 * t + i) + (wz (32 * t + i)).getD 0))), (3, .int (nI (wk (32 * t + i)))), (0, .ref 196), (1, .int (nI t)), (2, .int (nI (32 * t + i)))]) (st' := [.ref 196, .int (nI (4000 * t)), .int (nI k)]) (H' := _) (kc' := 0) (ks' := 0) rfl ?_
  refine RQ.get (ci := 12) rfl hm2 rfl rfl ?_
  refine RQ.blk 1 (pc' := 29) (lv' := [(5, .int (nI k)), (4, .int (nI (wn (32 * t + i) + (wz (32 * t + i)).getD 0))), (3, .int (nI (wk (32 * t + i)))), (0, .ref 196), (1, .int (nI t)), (2, .int (nI (32 * t + i)))]) (st' := [.int (nI t), .ref 209, .int (nI (4000 * t)), .int (nI k)]) (H' := _) (kc' := 0) (ks' := 0) rfl ?_
  refine RQ.ialdN (j := t) rfl h2.2.1 (by omega) (by decide) ?_
  refine RQ.blk 1 (pc' := 31) (lv' := [(5, .int (nI k)), (4, .int (nI (wn (32 * t + i) + (wz (32 * t + i)).getD 0))), (3, .int (nI (wk (32 * t + i)))), (0, .ref 196), (1, .int (nI t)), (2, .int (nI (32 * t + i)))]) (st' := [.int (nI (4000 * t) + nI (fi t)), .int (nI k)]) (H' := _) (kc' := 0) (ks' := 0) rfl ?_
  rw [show (nI (4000 * t) + nI (fi t) : Int32) = nI (4000 * t + (fi t)) from nI_add (4000 * t) (fi t)]
  refine RQ.blk 2 (pc' := 34) (lv' := [(5, .int (nI k)), (4, .int (nI (wn (32 * t + i) + (wz (32 * t + i)).getD 0))), (3, .int (nI (wk (32 * t + i)))), (0, .ref 196), (1, .int (nI t)), (2, .int (nI (32 * t + i)))]) (st' := [.int (nI (4000 * t + (fi t)) - nI (wn (32 * t + i) + (wz (32 * t + i)).getD 0)), .int (nI k)]) (H' := _) (kc' := 0) (ks' := 0) rfl ?_
  rw [show (nI (4000 * t + (fi t)) - nI (wn (32 * t + i) + (wz (32 * t + i)).getD 0) : Int32) = nI ((4000 * t + (fi t)) - (wn (32 * t + i) + (wz (32 * t + i)).getD 0)) from pk_sub (a := (4000 * t + (fi t))) (b := (wn (32 * t + i) + (wz (32 * t + i)).getD 0)) (by omega)]
  by_cases hlt : k < (4000 * t + fi t - (wn (32 * t + i) + (wz (32 * t + i)).getD 0))
  ·
    refine RQ.brF rfl rfl rfl (cF_ge k (4000 * t + fi t - (wn (32 * t + i) + (wz (32 * t + i)).getD 0))) ?_
    refine RQ.blk 1 (pc' := 38) (lv' := [(5, .int (nI k)), (4, .int (nI (wn (32 * t + i) + (wz (32 * t + i)).getD 0))), (3, .int (nI (wk (32 * t + i)))), (0, .ref 196), (1, .int (nI t)), (2, .int (nI (32 * t + i)))]) (st' := [.ref 196]) (H' := _) (kc' := 0) (ks' := 0) rfl ?_
    refine RQ.get (ci := 12) rfl hm2 rfl rfl ?_
    refine RQ.blk 2 (pc' := 44) (lv' := [(5, .int (nI k)), (4, .int (nI (wn (32 * t + i) + (wz (32 * t + i)).getD 0))), (3, .int (nI (wk (32 * t + i)))), (0, .ref 196), (1, .int (nI t)), (2, .int (nI (32 * t + i)))]) (st' := [.ref 196, .int (nI k), .ref 213]) (H' := _) (kc' := 0) (ks' := 0) rfl ?_
    refine RQ.get (ci := 12) rfl hm2 rfl rfl ?_
    refine RQ.blk 3 (pc' := 52) (lv' := [(5, .int (nI k)), (4, .int (nI (wn (32 * t + i) + (wz (32 * t + i)).getD 0))), (3, .int (nI (wk (32 * t + i)))), (0, .ref 196), (1, .int (nI t)), (2, .int (nI (32 * t + i)))]) (st' := [.int (nI k + nI (wn (32 * t + i) + (wz (32 * t + i)).getD 0)), .ref 213, .int (nI k), .ref 213]) (H' := _) (kc' := 0) (ks' := 0) rfl ?_
    rw [show (nI k + nI (wn (32 * t + i) + (wz (32 * t + i)).getD 0) : Int32) = nI (k + (wn (32 * t + i) + (wz (32 * t + i)).getD 0)) from nI_add k (wn (32 * t + i) + (wz (32 * t + i)).getD 0)]
    refine RQ.baldN (j := k + (wn (32 * t + i) + (wz (32 * t + i)).getD 0)) rfl h2.2.2.2.2.2 (by omega) (by decide) ?_
    first | rw [shB_nx] | simp only [shB_nx]
    refine RQ.bastN (j := k) rfl h2.2.2.2.2.2 (by omega) (by decide) ?_
    rw [Int8.toInt8_toInt32, shB_up q1]
    refine RQ.blk 1 (pc' := 57) (lv' := [(5, .int (nI k + 1)), (4, .int (nI (wn (32 * t + i) + (wz (32 * t + i)).getD 0))), (3, .int (nI (wk (32 * t + i)))), (0, .ref 196), (1, .int (nI t)), (2, .int (nI (32 * t + i)))]) (st' := []) (H' := _) (kc' := 0) (ks' := 0) rfl ?_
    rw [show (nI k + 1 : Int32) = nI (k + 1) from nI_add k 1]
    refine RQ.blk 1 (pc' := 17) (lv' := [(5, .int (nI (k + 1))), (4, .int (nI (wn (32 * t + i) + (wz (32 * t + i)).getD 0))), (3, .int (nI (wk (32 * t + i)))), (0, .ref 196), (1, .int (nI t)), (2, .int (nI (32 * t + i)))]) (st' := []) (H' := _) (kc' := 0) (ks' := 0) rfl ?_
    exact ih (k + 1) _ ⟨by omega, by omega, ⟨(set_far (by decide)).trans h2.1, (set_far (by decide)).trans h2.2.1, (set_far (by decide)).trans h2.2.2.1, (set_far (by decide)).trans h2.2.2.2.1, (set_far (by decide)).trans h2.2.2.2.2.1, get_set h2.2.2.2.2.2⟩, fun a ha => (set_far (by omega)).trans (h3 a ha)⟩ (by omega)
  · have hke : k = (4000 * t + fi t - (wn (32 * t + i) + (wz (32 * t + i)).getD 0)) := by omega
    refine RQ.brT rfl rfl rfl (cT_ge k (4000 * t + fi t - (wn (32 * t + i) + (wz (32 * t + i)).getD 0))) ?_
    refine RQ.blk 1 (pc' := 61) (lv' := [(5, .int (nI k)), (4, .int (nI (wn (32 * t + i) + (wz (32 * t + i)).getD 0))), (3, .int (nI (wk (32 * t + i)))), (0, .ref 196), (1, .int (nI t)), (2, .int (nI (32 * t + i)))]) (st' := [.ref 196]) (H' := _) (kc' := 0) (ks' := 0) rfl ?_
    refine RQ.get (ci := 12) rfl hm2 rfl rfl ?_
    refine RQ.blk 2 (pc' := 66) (lv' := [(5, .int (nI k)), (4, .int (nI (wn (32 * t + i) + (wz (32 * t + i)).getD 0))), (3, .int (nI (wk (32 * t + i)))), (0, .ref 196), (1, .int (nI t)), (2, .int (nI (32 * t + i)))]) (st' := [.int (nI t), .ref 209, .int (nI t), .ref 209]) (H' := _) (kc' := 0) (ks' := 0) rfl ?_
    refine RQ.ialdN (j := t) rfl h2.2.1 (by omega) (by decide) ?_
    refine RQ.blk 2 (pc' := 70) (lv' := [(5, .int (nI k)), (4, .int (nI (wn (32 * t + i) + (wz (32 * t + i)).getD 0))), (3, .int (nI (wk (32 * t + i)))), (0, .ref 196), (1, .int (nI t)), (2, .int (nI (32 * t + i)))]) (st' := [.int (nI (fi t) - nI (wn (32 * t + i) + (wz (32 * t + i)).getD 0)), .int (nI t), .ref 209]) (H' := _) (kc' := 0) (ks' := 0) rfl ?_
    rw [show (nI (fi t) - nI (wn (32 * t + i) + (wz (32 * t + i)).getD 0) : Int32) = nI ((fi t) - (wn (32 * t + i) + (wz (32 * t + i)).getD 0)) from pk_sub (a := (fi t)) (b := (wn (32 * t + i) + (wz (32 * t + i)).getD 0)) (by omega)]
    refine RQ.iastN (j := t) rfl h2.2.1 (by omega) (by decide) ?_
    refine RQ.blk 1 (pc' := 72) (lv' := [(5, .int (nI k)), (4, .int (nI (wn (32 * t + i) + (wz (32 * t + i)).getD 0))), (3, .int (nI (wk (32 * t + i)))), (0, .ref 196), (1, .int (nI t)), (2, .int (nI (32 * t + i)))]) (st' := [.ref 196]) (H' := _) (kc' := 0) (ks' := 0) rfl ?_
    refine RQ.get (ci := 12) rfl ((set_far (by decide)).trans hm2) rfl rfl ?_
    refine RQ.blk 2 (pc' := 77) (lv' := [(5, .int (nI k)), (4, .int (nI (wn (32 * t + i) + (wz (32 * t + i)).getD 0))), (3, .int (nI (wk (32 * t + i)))), (0, .ref 196), (1, .int (nI t)), (2, .int (nI (32 * t + i)))]) (st' := [.int (nI t), .ref 208, .int (nI t), .ref 208]) (H' := _) (kc' := 0) (ks' := 0) rfl ?_
    refine RQ.ialdN (j := t) rfl ((set_far (by decide)).trans h2.1) (by omega) (by decide) ?_
    refine RQ.blk 2 (pc' := 80) (lv' := [(5, .int (nI k)), (4, .int (nI (wn (32 * t + i) + (wz (32 * t + i)).getD 0))), (3, .int (nI (wk (32 * t + i)))), (0, .ref 196), (1, .int (nI t)), (2, .int (nI (32 * t + i)))]) (st' := [.int (nI (ro t) - 1), .int (nI t), .ref 208]) (H' := _) (kc' := 0) (ks' := 0) rfl ?_
    rw [show (nI (ro t) - 1 : Int32) = nI ((ro t) - 1) from pk_sub (a := (ro t)) (b := 1) (by omega)]
    refine RQ.iastN (j := t) rfl ((set_far (by decide)).trans h2.1) (by omega) (by decide) ?_
    refine RQ.blk 2 (pc' := 84) (lv' := [(5, .int (nI (32 * t + i))), (4, .int (nI (wn (32 * t + i) + (wz (32 * t + i)).getD 0))), (3, .int (nI (wk (32 * t + i)))), (0, .ref 196), (1, .int (nI t)), (2, .int (nI (32 * t + i)))]) (st' := []) (H' := _) (kc' := 0) (ks' := 0) rfl ?_
    rw [hke] at h2
    have h4 : MRAt _ (va_up ro t (ro t - 1)) (va_up fi t (fi t - (wn (32 * t + i) + (wz (32 * t + i)).getD 0))) (shF wk (fun z => z - (wn (32 * t + i) + (wz (32 * t + i)).getD 0)) (32 * t + i) (32 * t + i)) (shF wn (fun z => z) (32 * t + i) (32 * t + i)) (shF wz (fun z => z) (32 * t + i) (32 * t + i)) (shB wb (wn (32 * t + i) + (wz (32 * t + i)).getD 0) (wk (32 * t + i)) (4000 * t + fi t - (wn (32 * t + i) + (wz (32 * t + i)).getD 0))) := ⟨(get_set ((set_far (by decide)).trans h2.1)).trans (congrArg (fun f => some (kI 8 f)) up_nI), ((set_far (by decide)).trans (get_set h2.2.1)).trans (congrArg (fun f => some (kI 8 f)) up_nI), by rw [shF_0]; exact (set_far (by decide)).trans ((set_far (by decide)).trans h2.2.2.1), by rw [shF_0]; exact (set_far (by decide)).trans ((set_far (by decide)).trans h2.2.2.2.1), by rw [shF_0]; exact (set_far (by decide)).trans ((set_far (by decide)).trans h2.2.2.2.2.1), (set_far (by decide)).trans ((set_far (by decide)).trans h2.2.2.2.2.2)⟩
    refine RQ.while (S := Nat) (pc := 84) (fun k H' => (32 * t + i) ≤ k ∧ k ≤ (32 * t + (ro t - 1)) ∧ MRAt H' (va_up ro t (ro t - 1)) (va_up fi t (fi t - (wn (32 * t + i) + (wz (32 * t + i)).getD 0))) (shF wk (fun z => z - (wn (32 * t + i) + (wz (32 * t + i)).getD 0)) (32 * t + i) k) (shF wn (fun z => z) (32 * t + i) k) (shF wz (fun z => z) (32 * t + i) k) (shB wb (wn (32 * t + i) + (wz (32 * t + i)).getD 0) (wk (32 * t + i)) (4000 * t + fi t - (wn (32 * t + i) + (wz (32 * t + i)).getD 0))) ∧ ∀ a, ¬ (207 ≤ a ∧ a < 213) → H'[a]? = H[a]?) (fun k => [(5, .int (nI k)), (4, .int (nI (wn (32 * t + i) + (wz (32 * t + i)).getD 0))), (3, .int (nI (wk (32 * t + i)))), (0, .ref 196), (1, .int (nI t)), (2, .int (nI (32 * t + i)))]) (fun k => 256 - k) ?_ (32 * t + i) _ ⟨Nat.le_refl _, by omega, h4, fun a ha => ((set_far (by omega)).trans (set_far (by omega))).trans (h3 a ha)⟩
    rintro k H2 ⟨r1, r2, h5, h6⟩ ih
    have hm3 := (h6 195 (by omega)).trans hm
    have ero : (va_up ro t (ro t - 1)) t = ro t - 1 := if_pos rfl
    refine RQ.blk 4 (pc' := 90) (lv' := [(5, .int (nI k)), (4, .int (nI (wn (32 * t + i) + (wz (32 * t + i)).getD 0))), (3, .int (nI (wk (32 * t + i)))), (0, .ref 196), (1, .int (nI t)), (2, .int (nI (32 * t + i)))]) (st' := [.int (32 * nI t), .int (nI k)]) (H' := _) (kc' := 0) (ks' := 0) rfl ?_
    rw [show (32 * nI t : Int32) = nI (32 * t) from pk_mul 32 t]
    refine RQ.blk 1 (pc' := 91) (lv' := [(5, .int (nI k)), (4, .int (nI (wn (32 * t + i) + (wz (32 * t + i)).getD 0))), (3, .int (nI (wk (32 * t + i)))), (0, .ref 196), (1, .int (nI t)), (2, .int (nI (32 * t + i)))]) (st' := [.ref 196, .int (nI (32 * t)), .int (nI k)]) (H' := _) (kc' := 0) (ks' := 0) rfl ?_
    refine RQ.get (ci := 12) rfl hm3 rfl rfl ?_
    refine RQ.blk 1 (pc' := 95) (lv' := [(5, .int (nI k)), (4, .int (nI (wn (32 * t + i) + (wz (32 * t + i)).getD 0))), (3, .int (nI (wk (32 * t + i)))), (0, .ref 196), (1, .int (nI t)), (2, .int (nI (32 * t + i)))]) (st' := [.int (nI t), .ref 208, .int (nI (32 * t)), .int (nI k)]) (H' := _) (kc' := 0) (ks' := 0) rfl ?_
    refine RQ.ialdN (j := t) rfl h5.1 (by omega) (by decide) ?_
    first | rw [ero] | simp only [ero]
    refine RQ.blk 1 (pc' := 97) (lv' := [(5, .int (nI k)), (4, .int (nI (wn (32 * t + i) + (wz (32 * t + i)).getD 0))), (3, .int (nI (wk (32 * t + i)))), (0, .ref 196), (1, .int (nI t)), (2, .int (nI (32 * t + i)))]) (st' := [.int (nI (32 * t) + nI (ro t - 1)), .int (nI k)]) (H' := _) (kc' := 0) (ks' := 0) rfl ?_
    rw [show (nI (32 * t) + nI (ro t - 1) : Int32) = nI (32 * t + (ro t - 1)) from nI_add (32 * t) (ro t - 1)]
    by_cases hlt : k < (32 * t + (ro t - 1))
    · have hS1 := hS (k + 1 - 32 * t) (by omega) (by omega)
      rw [show 32 * t + (k + 1 - 32 * t) = k + 1 by omega] at hS1
      have hr1 := hrow (k + 1 - 32 * t) (by omega)
      rw [show 32 * t + (k + 1 - 32 * t) = k + 1 by omega] at hr1
      refine RQ.brF rfl rfl rfl (cF_ge k (32 * t + (ro t - 1))) ?_
      refine RQ.blk 1 (pc' := 101) (lv' := [(5, .int (nI k)), (4, .int (nI (wn (32 * t + i) + (wz (32 * t + i)).getD 0))), (3, .int (nI (wk (32 * t + i)))), (0, .ref 196), (1, .int (nI t)), (2, .int (nI (32 * t + i)))]) (st' := [.ref 196]) (H' := _) (kc' := 0) (ks' := 0) rfl ?_
      refine RQ.get (ci := 12) rfl hm3 rfl rfl ?_
      refine RQ.blk 2 (pc' := 107) (lv' := [(5, .int (nI k)), (4, .int (nI (wn (32 * t + i) + (wz (32 * t + i)).getD 0))), (3, .int (nI (wk (32 * t + i)))), (0, .ref 196), (1, .int (nI t)), (2, .int (nI (32 * t + i)))]) (st' := [.ref 196, .int (nI k), .ref 210]) (H' := _) (kc' := 0) (ks' := 0) rfl ?_
      refine RQ.get (ci := 12) rfl hm3 rfl rfl ?_
      refine RQ.blk 3 (pc' := 114) (lv' := [(5, .int (nI k)), (4, .int (nI (wn (32 * t + i) + (wz (32 * t + i)).getD 0))), (3, .int (nI (wk (32 * t + i)))), (0, .ref 196), (1, .int (nI t)), (2, .int (nI (32 * t + i)))]) (st' := [.int (nI k + 1), .ref 210, .int (nI k), .ref 210]) (H' := _) (kc' := 0) (ks' := 0) rfl ?_
      rw [show (nI k + 1 : Int32) = nI (k + 1) from nI_add k 1]
      refine RQ.ialdN (j := k + 1) rfl h5.2.2.1 (by omega) (by decide) ?_
      first | rw [shF_nx] | simp only [shF_nx]
      refine RQ.blk 2 (pc' := 118) (lv' := [(5, .int (nI k)), (4, .int (nI (wn (32 * t + i) + (wz (32 * t + i)).getD 0))), (3, .int (nI (wk (32 * t + i)))), (0, .ref 196), (1, .int (nI t)), (2, .int (nI (32 * t + i)))]) (st' := [.int (nI (wk (k + 1)) - nI (wn (32 * t + i) + (wz (32 * t + i)).getD 0)), .int (nI k), .ref 210]) (H' := _) (kc' := 0) (ks' := 0) rfl ?_
      rw [show (nI (wk (k + 1)) - nI (wn (32 * t + i) + (wz (32 * t + i)).getD 0) : Int32) = nI ((wk (k + 1)) - (wn (32 * t + i) + (wz (32 * t + i)).getD 0)) from pk_sub (a := (wk (k + 1))) (b := (wn (32 * t + i) + (wz (32 * t + i)).getD 0)) (by omega)]
      refine RQ.iastN (j := k) rfl h5.2.2.1 (by omega) (by decide) ?_
      refine RQ.blk 1 (pc' := 120) (lv' := [(5, .int (nI k)), (4, .int (nI (wn (32 * t + i) + (wz (32 * t + i)).getD 0))), (3, .int (nI (wk (32 * t + i)))), (0, .ref 196), (1, .int (nI t)), (2, .int (nI (32 * t + i)))]) (st' := [.ref 196]) (H' := _) (kc' := 0) (ks' := 0) rfl ?_
      refine RQ.get (ci := 12) rfl ((set_far (by decide)).trans hm3) rfl rfl ?_
      refine RQ.blk 2 (pc' := 126) (lv' := [(5, .int (nI k)), (4, .int (nI (wn (32 * t + i) + (wz (32 * t + i)).getD 0))), (3, .int (nI (wk (32 * t + i)))), (0, .ref 196), (1, .int (nI t)), (2, .int (nI (32 * t + i)))]) (st' := [.ref 196, .int (nI k), .ref 211]) (H' := _) (kc' := 0) (ks' := 0) rfl ?_
      refine RQ.get (ci := 12) rfl ((set_far (by decide)).trans hm3) rfl rfl ?_
      refine RQ.blk 3 (pc' := 133) (lv' := [(5, .int (nI k)), (4, .int (nI (wn (32 * t + i) + (wz (32 * t + i)).getD 0))), (3, .int (nI (wk (32 * t + i)))), (0, .ref 196), (1, .int (nI t)), (2, .int (nI (32 * t + i)))]) (st' := [.int (nI k + 1), .ref 211, .int (nI k), .ref 211]) (H' := _) (kc' := 0) (ks' := 0) rfl ?_
      rw [show (nI k + 1 : Int32) = nI (k + 1) from nI_add k 1]
      refine RQ.ialdN (j := k + 1) rfl ((set_far (by decide)).trans h5.2.2.2.1) (by omega) (by decide) ?_
      first | rw [shF_nx] | simp only [shF_nx]
      refine RQ.iastN (j := k) rfl ((set_far (by decide)).trans h5.2.2.2.1) (by omega) (by decide) ?_
      refine RQ.blk 1 (pc' := 136) (lv' := [(5, .int (nI k)), (4, .int (nI (wn (32 * t + i) + (wz (32 * t + i)).getD 0))), (3, .int (nI (wk (32 * t + i)))), (0, .ref 196), (1, .int (nI t)), (2, .int (nI (32 * t + i)))]) (st' := [.ref 196]) (H' := _) (kc' := 0) (ks' := 0) rfl ?_
      refine RQ.get (ci := 12) rfl ((set_far (by decide)).trans ((set_far (by decide)).trans hm3)) rfl rfl ?_
      refine RQ.blk 2 (pc' := 142) (lv' := [(5, .int (nI k)), (4, .int (nI (wn (32 * t + i) + (wz (32 * t + i)).getD 0))), (3, .int (nI (wk (32 * t + i)))), (0, .ref 196), (1, .int (nI t)), (2, .int (nI (32 * t + i)))]) (st' := [.ref 196, .int (nI k), .ref 212]) (H' := _) (kc' := 0) (ks' := 0) rfl ?_
      refine RQ.get (ci := 12) rfl ((set_far (by decide)).trans ((set_far (by decide)).trans hm3)) rfl rfl ?_
      refine RQ.blk 3 (pc' := 149) (lv' := [(5, .int (nI k)), (4, .int (nI (wn (32 * t + i) + (wz (32 * t + i)).getD 0))), (3, .int (nI (wk (32 * t + i)))), (0, .ref 196), (1, .int (nI t)), (2, .int (nI (32 * t + i)))]) (st' := [.int (nI k + 1), .ref 212, .int (nI k), .ref 212]) (H' := _) (kc' := 0) (ks' := 0) rfl ?_
      rw [show (nI k + 1 : Int32) = nI (k + 1) from nI_add k 1]
      refine RQ.ialdN (j := k + 1) rfl ((set_far (by decide)).trans ((set_far (by decide)).trans h5.2.2.2.2.1)) (by omega) (by decide) ?_
      first | rw [shF_nx] | simp only [shF_nx]
      refine RQ.iastN (j := k) rfl ((set_far (by decide)).trans ((set_far (by decide)).trans h5.2.2.2.2.1)) (by omega) (by decide) ?_
      refine RQ.blk 1 (pc' := 154) (lv' := [(5, .int (nI k + 1)), (4, .int (nI (wn (32 * t + i) + (wz (32 * t + i)).getD 0))), (3, .int (nI (wk (32 * t + i)))), (0, .ref 196), (1, .int (nI t)), (2, .int (nI (32 * t + i)))]) (st' := []) (H' := _) (kc' := 0) (ks' := 0) rfl ?_
      rw [show (nI k + 1 : Int32) = nI (k + 1) from nI_add k 1]
      refine RQ.blk 1 (pc' := 84) (lv' := [(5, .int (nI (k + 1))), (4, .int (nI (wn (32 * t + i) + (wz (32 * t + i)).getD 0))), (3, .int (nI (wk (32 * t + i)))), (0, .ref 196), (1, .int (nI t)), (2, .int (nI (32 * t + i)))]) (st' := []) (H' := _) (kc' := 0) (ks' := 0) rfl ?_
      exact ih (k + 1) _ ⟨by omega, by omega, ⟨(set_far (by decide)).trans ((set_far (by decide)).trans ((set_far (by decide)).trans h5.1)), (set_far (by decide)).trans ((set_far (by decide)).trans ((set_far (by decide)).trans h5.2.1)), ((set_far (by decide)).trans ((set_far (by decide)).trans (get_set h5.2.2.1))).trans (congrArg (fun f => some (kI 256 f)) (by rw [up_nI]; exact congrArg (fun f => fun j => nI (f j)) (shF_up (g := fun z => z - (wn (32 * t + i) + (wz (32 * t + i)).getD 0)) r1))), ((set_far (by decide)).trans (get_set ((set_far (by decide)).trans h5.2.2.2.1))).trans (congrArg (fun f => some (kI 256 f)) (by rw [up_nI]; exact congrArg (fun f => fun j => nI (f j)) (shF_up (g := fun z => z) r1))), (get_set ((set_far (by decide)).trans ((set_far (by decide)).trans h5.2.2.2.2.1))).trans (congrArg (fun f => some (kI 256 f)) (by rw [up_lI]; exact congrArg (fun f => fun j => lI (f j)) (shF_up (g := fun z => z) r1))), (set_far (by decide)).trans ((set_far (by decide)).trans ((set_far (by decide)).trans h5.2.2.2.2.2))⟩, fun a ha => ((set_far (by omega)).trans ((set_far (by omega)).trans (set_far (by omega)))).trans (h6 a ha)⟩ (by omega)
    · have hke2 : k = (32 * t + (ro t - 1)) := by omega
      rw [hke2] at h5
      refine RQ.brT rfl rfl rfl (cT_ge k (32 * t + (ro t - 1))) ?_
      exact RQ.done (c := 0) (s := 0) rfl rfl rfl rfl ⟨_, rfl, h5, h6⟩
