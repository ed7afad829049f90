/-! ===== a cursor goes on by an entry; class; written by wip/gen/adv.py ===== -/
theorem num1 {f : Nat → Int8} {i : Nat} : numI f i 1 0 = nI (ub (f i)) := by
  have h := numI_be (f := f) 1 i 0 (by show 0 * 256 + ub (f i) < 2 ^ 31; have := ub_lt (f i); omega)
  rw [show (nI 0 : Int32) = 0 from rfl] at h
  rw [h]
  show nI (0 * 256 + ub (f i)) = _
  rw [Nat.zero_mul, Nat.zero_add]
theorem nI_ub {x : Int8} : (nI (ub x)).toInt8 = x := ub_inj (by rw [ub_i8 (by have := ub_lt x; omega), Nat.mod_eq_of_lt (ub_lt x)])
theorem num_be {f : Nat → Int8} {i n v : Nat} (h : sl f i n = beB n v) (hv : v < 256 ^ n) (h2 : v < 2 ^ 31) : numI f i n 0 = nI v := by
  have h1 := numI_be (f := f) n i 0 (by rw [h, beN_beB0 hv]; exact h2)
  rw [show (nI 0 : Int32) = 0 from rfl] at h1
  rw [h1, h, beN_beB0 hv]
/-- the parts of an entry -/
theorem enc_parts {f : Nat → Int8} {o : Nat} {e : aT} (h : sl f o (e.1.length + 10) = encE e) : ub (f o) = e.1.length ∧ sl f (o + 1) e.1.length = e.1 ∧ sl f (o + 1 + e.1.length) 4 = beB 4 e.2.1 ∧ sl f (o + 1 + e.1.length + 4) 3 = beB 3 e.2.2.1 ∧ sl f (o + 1 + e.1.length + 4 + 3) 2 = beB 2 (e.2.2.2.getD 65535) := by
  rw [show e.1.length + 10 = 1 + (e.1.length + (4 + (3 + 2))) by omega] at h
  unfold encE at h
  rw [show (e.1.length :: e.1 ++ (beB 4 e.2.1 ++ (beB 3 e.2.2.1 ++ beB 2 (e.2.2.2.getD 65535)))) = [e.1.length] ++ (e.1 ++ (beB 4 e.2.1 ++ (beB 3 e.2.2.1 ++ beB 2 (e.2.2.2.getD 65535)))) from rfl] at h
  obtain ⟨h1, h⟩ := sl_split h rfl
  obtain ⟨h2, h⟩ := sl_split h rfl
  obtain ⟨h3, h⟩ := sl_split h (beB_len _ _)
  obtain ⟨h4, h⟩ := sl_split h (beB_len _ _)
  exact ⟨(List.cons.inj h1).1, h2, h3, h4, h⟩
theorem rc_cadvE {sc : Nat × (Nat → Int32)} {d : Nat} {H : aH} {q r o : Nat} {kl mo pl le en : Int32} {x : aR} (hq : H[q]? = some (kO 2 (curF q (.ref (r + 1)) (nI o) kl mo pl le en))) (hR : RunIs H r x) (hqr : q ≠ r) (ho : x.2.1 ≤ o) (ho2 : o < 2 ^ 31) : RC sc d mr_122 [.ref (q + 1)] H (.inl none) (H.set q (kO 2 (curF q (.ref (r + 1)) (nI o) kl mo pl le 1))) 0 0 := by
  obtain ⟨f, h1, -⟩ := hR
  refine RP.blk 2 (pc' := 2) (lv' := [(0, .ref (q + 1))]) (st' := [.ref (q + 1), .ref (q + 1)]) (H' := _) (kc' := 0) (ks' := 0) rfl ?_
  refine RP.get (ci := 2) rfl hq rfl rfl ?_
  refine RP.brF rfl rfl rfl rfl ?_
  refine RP.blk 1 (pc' := 9) (lv' := [(0, .ref (q + 1))]) (st' := [.ref (q + 1), .ref (q + 1)]) (H' := _) (kc' := 0) (ks' := 0) rfl ?_
  refine RP.get (ci := 2) rfl hq rfl rfl ?_
  refine RP.blk 1 (pc' := 13) (lv' := [(0, .ref (q + 1))]) (st' := [.ref (q + 1), .int (nI o), .ref (q + 1)]) (H' := _) (kc' := 0) (ks' := 0) rfl ?_
  refine RP.get (ci := 2) rfl hq rfl rfl ?_
  refine RP.get (ci := 6) rfl h1 rfl rfl ?_
  refine RP.brF rfl rfl rfl (cF_lt o x.2.1) ?_
  refine RP.blk 2 (pc' := 27) (lv' := [(0, .ref (q + 1))]) (st' := [.int 1, .ref (q + 1)]) (H' := _) (kc' := 0) (ks' := 0) rfl ?_
  refine RP.put (ci := 2) rfl hq rfl rfl (Nat.le_of_ble_eq_true rfl) ?_
  refine RP.blk 1 (pc' := 31) (lv' := [(0, .ref (q + 1))]) (st' := [.ref (q + 1)]) (H' := _) (kc' := 0) (ks' := 0) rfl ?_
  refine RP.get (ci := 2) rfl (get_set hq) rfl rfl ?_
  refine RP.brF rfl rfl rfl (by decide) ?_
  exact RP.done (c := 0) (s := 0) rfl rfl rfl rfl
theorem adv_heap {H : aH} {q i o : Nat} {A A' : aC} {f g : Nat → Int8} (h : q ≠ q + 1) : ((((H.set q A).set (q + 1) (kB 41 (cpy f (o + 1) g 0 i))).set q A').set (q + 1) (kB 41 (va_up (cpy f (o + 1) g 0 i) i (f (o + 1 + i))))) = (H.set q A').set (q + 1) (kB 41 (cpy f (o + 1) g 0 (i + 1))) := by
  rw [List.set_comm _ _ (show q + 1 ≠ q by omega), set_set, set_set, show va_up (cpy f (o + 1) g 0 i) i (f (o + 1 + i)) = cpy f (o + 1) g 0 (i + 1) by rw [← cpy_up', Nat.zero_add]]
theorem rn_cadv {sc : Nat × (Nat → Int32)} {d : Nat} {H : aH} {q r o : Nat} {kl mo pl le en : Int32} {x : aR} {B : Nat} {cf : Nat → Int8} {tf : Nat → Nat} {pq : Option Nat} {bb ov : Nat} {g : Nat → Int8} {e : aT} (hq : H[q]? = some (kO 2 (curF q (.ref (r + 1)) (nI o) kl mo pl le en))) (hR : RunIs H r x) (hC : ChipAt H B cf tf pq bb ov) (hB : B ≤ 128) (hq1 : 142 ≤ q) (hr1 : r < 136) (hids : ∀ b ∈ x.2.2.2, b < B) (hg : H[q + 1]? = some (kB 41 g)) (ho : o < x.2.1) (hln : x.2.1 ≤ x.2.2.2.length * 2048) (hlen : o + (e.1.length + 10) ≤ x.2.2.2.length * 2048) (hE : EOk e) (he : sl (strm cf x.2.2.2) o (e.1.length + 10) = encE e) : RN sc (d + 2) mr_122 [.ref (q + 1)] H (fun H' => (∃ g', H'[q]? = some (kO 2 (curF q (.ref (r + 1)) (nI (o + 1 + e.1.length + 4 + 3 + 2)) (nI e.1.length) (nI e.2.1) (nI e.2.2.1) (lI e.2.2.2) 0)) ∧ H'[q + 1]? = some (kB 41 g') ∧ sl g' 0 e.1.length = e.1) ∧ ∀ a, a ≠ q → a ≠ q + 1 → H'[a]? = H[a]?) := by
  have hl64 : x.2.2.2.length ≤ 64 := by obtain ⟨_, _, _, _, h⟩ := hR; exact h
  obtain ⟨E1, E2, E3, E4, E5, E6⟩ := id hE
  obtain ⟨e1, e2, e3, e4, e5⟩ := enc_parts he
  have e1 : numI (strm cf x.2.2.2) o 1 0 = nI e.1.length := by rw [num1, e1]
  have e3 : numI (strm cf x.2.2.2) (o + 1 + e.1.length) 4 0 = nI e.2.1 := num_be e3 (by omega) (by omega)
  have e4 : numI (strm cf x.2.2.2) (o + 1 + e.1.length + 4) 3 0 = nI e.2.2.1 := num_be e4 (by omega) (by omega)
  have h5 : e.2.2.2.getD 65535 < 65536 := by cases h : e.2.2.2 with | none => decide | some n => rw [h] at E5; have E5 : n ≤ 2048 := E5; show n < 65536; omega
  have e5 : numI (strm cf x.2.2.2) (o + 1 + e.1.length + 4 + 3) 2 0 = nI (e.2.2.2.getD 65535) := num_be e5 (by omega) (by omega)
  obtain ⟨f, h1, -⟩ := id hR
  refine RN.of ?_
  refine RQ.blk 2 (pc' := 2) (lv' := [(0, .ref (q + 1))]) (st' := [.ref (q + 1), .ref (q + 1)]) (H' := _) (kc' := 0) (ks' := 0) rfl ?_
  refine RQ.get (ci := 2) rfl hq rfl rfl ?_
  refine RQ.brF rfl rfl rfl rfl ?_
  refine RQ.blk 1 (pc' := 9) (lv' := [(0, .ref (q + 1))]) (st' := [.ref (q + 1), .ref (q + 1)]) (H' := _) (kc' := 0) (ks' := 0) rfl ?_
  refine RQ.get (ci := 2) rfl hq rfl rfl ?_
  refine RQ.blk 1 (pc' := 13) (lv' := [(0, .ref (q + 1))]) (st' := [.ref (q + 1), .int (nI o), .ref (q + 1)]) (H' := _) (kc' := 0) (ks' := 0) rfl ?_
  refine RQ.get (ci := 2) rfl hq rfl rfl ?_
  refine RQ.get (ci := 6) rfl h1 rfl rfl ?_
  refine RQ.brT rfl rfl rfl (cT_lt o x.2.1) ?_
  refine RQ.blk 1 (pc' := 27) (lv' := [(0, .ref (q + 1))]) (st' := [.int 0, .ref (q + 1)]) (H' := _) (kc' := 0) (ks' := 0) rfl ?_
  refine RQ.put (ci := 2) rfl hq rfl rfl (Nat.le_of_ble_eq_true rfl) ?_
  refine RQ.blk 1 (pc' := 31) (lv' := [(0, .ref (q + 1))]) (st' := [.ref (q + 1)]) (H' := _) (kc' := 0) (ks' := 0) rfl ?_
  refine RQ.get (ci := 2) rfl (get_set hq) rfl rfl ?_
  refine RQ.brT rfl rfl rfl (by decide) ?_
  have far0 : ∀ a, a ≠ q → (H.set q (kO 2 (curF q (.ref (r + 1)) (nI o) kl mo pl le 0)))[a]? = H[a]? := fun a ha => set_far ha
  refine RQ.blk 3 (pc' := 41) (lv' := [(0, .ref (q + 1))]) (st' := [.int 1, .ref (q + 1), .ref (q + 1)]) (H' := _) (kc' := 0) (ks' := 0) rfl ?_
  refine RQ.call (v := some (.int (numI (strm cf x.2.2.2) o 1 0))) (st' := [.ref (q + 1)]) rfl rfl rfl rfl rfl rfl (args_v [.int 1] [.ref (q + 1)] rfl rfl (Nat.le_of_ble_eq_true rfl) rfl (get_set hq) (Nat.le_of_ble_eq_true rfl)) (rc_cnext (q := q) (r := r) (o := o) (x := x) (n := 1) (get_set hq : (H.set q (kO 2 (curF q (.ref (r + 1)) (nI o) kl mo pl le 0)))[q]? = _) (hR.far (far0 r (by omega)) (far0 (r + 1) (by omega))) (hC.far (fun a _ _ => far0 a (by omega))) hB (by omega) hids (by omega)) ?_
  rw [set_set]
  rw [e1]
  refine RQ.blk 2 (pc' := 49) (lv' := [(0, .ref (q + 1))]) (st' := [.int (if 41 < nI e.1.length then 41 else nI e.1.length), .ref (q + 1)]) (H' := _) (kc' := 0) (ks' := 0) rfl ?_
  rw [show (if 41 < nI e.1.length then 41 else nI e.1.length : Int32) = nI (min e.1.length 41) from minI (a := e.1.length) (b := 41) (by omega) (by omega)]
  rw [show min e.1.length 41 = e.1.length by omega]
  refine RQ.put (ci := 2) rfl (get_set hq) rfl rfl (Nat.le_of_ble_eq_true rfl) ?_
  refine RQ.blk 2 (pc' := 54) (lv' := [(1, .int 0), (0, .ref (q + 1))]) (st' := []) (H' := _) (kc' := 0) (ks' := 0) rfl ?_
  rw [set_set]
  refine RQ.while (S := Nat) (pc := 54) (fun i H' => i ≤ e.1.length ∧ H' = ((H.set q (kO 2 (curF q (.ref (r + 1)) (nI (o + 1 + i)) (nI e.1.length) mo pl le 0))).set (q + 1) (kB 41 (cpy (strm cf x.2.2.2) (o + 1) g 0 i)))) (fun i => [(1, .int (nI i)), (0, .ref (q + 1))]) (fun i => e.1.length - i) ?_ 0 _ ⟨Nat.zero_le _, ?_⟩
  rotate_left
  · rw [cpy_0, set_self ((set_far (by omega)).trans hg)]; rfl
  rintro i H1 ⟨hi, e0⟩ ih
  rw [e0]
  have far1 : ∀ a, a ≠ q → a ≠ q + 1 → ((H.set q (kO 2 (curF q (.ref (r + 1)) (nI (o + 1 + i)) (nI e.1.length) mo pl le 0))).set (q + 1) (kB 41 (cpy (strm cf x.2.2.2) (o + 1) g 0 i)))[a]? = H[a]? := fun a h1 h2 => (set_far h2).trans (set_far h1)
  have hq1b : ((H.set q (kO 2 (curF q (.ref (r + 1)) (nI (o + 1 + i)) (nI e.1.length) mo pl le 0))).set (q + 1) (kB 41 (cpy (strm cf x.2.2.2) (o + 1) g 0 i)))[q]? = some (kO 2 (curF q (.ref (r + 1)) (nI (o + 1 + i)) (nI e.1.length) mo pl le 0)) := (set_far (by omega)).trans (get_set hq)
  refine RQ.blk 2 (pc' := 56) (lv' := [(1, .int (nI i)), (0, .ref (q + 1))]) (st' := [.ref (q + 1), .int (nI i)]) (H' := _) (kc' := 0) (ks' := 0) rfl ?_
  refine RQ.get (ci := 2) rfl hq1b rfl rfl ?_
  by_cases hlt : i < e.1.length
  · refine RQ.brF rfl rfl rfl (cF_ge i e.1.length) ?_
    refine RQ.blk 1 (pc' := 63) (lv' := [(1, .int (nI i)), (0, .ref (q + 1))]) (st' := [.ref (q + 1)]) (H' := _) (kc' := 0) (ks' := 0) rfl ?_
    refine RQ.get (ci := 2) rfl hq1b rfl rfl ?_
    refine RQ.blk 3 (pc' := 69) (lv' := [(1, .int (nI i)), (0, .ref (q + 1))]) (st' := [.int 1, .ref (q + 1), .int (nI i), .ref ((q + 1) + 1)]) (H' := _) (kc' := 0) (ks' := 0) rfl ?_
    refine RQ.call (v := some (.int (numI (strm cf x.2.2.2) (o + 1 + i) 1 0))) (st' := [.int (nI i), .ref ((q + 1) + 1)]) rfl rfl rfl rfl rfl rfl (args_v [.int 1] [.int (nI i), .ref ((q + 1) + 1)] rfl rfl (Nat.le_of_ble_eq_true rfl) rfl hq1b (Nat.le_of_ble_eq_true rfl)) (rc_cnext (q := q) (r := r) (o := o + 1 + i) (x := x) (n := 1) hq1b (hR.far (far1 r (by omega) (by omega)) (far1 (r + 1) (by omega) (by omega))) (hC.far (fun a _ _ => far1 a (by omega) (by omega))) hB (by omega) hids (by omega)) ?_
    rw [num1]
    refine RQ.blk 1 (pc' := 73) (lv' := [(1, .int (nI i)), (0, .ref (q + 1))]) (st' := [.int ((nI (ub ((strm cf x.2.2.2) (o + 1 + i)))).toInt8.toInt32), .int (nI i), .ref ((q + 1) + 1)]) (H' := _) (kc' := 0) (ks' := 0) rfl ?_
    refine RQ.bastN (j := i) rfl ((set_far (by omega)).trans (get_set ((set_far (by omega)).trans hg))) (by omega) (by decide) ?_
    rw [nI_ub, Int8.toInt8_toInt32]
    refine RQ.blk 1 (pc' := 77) (lv' := [(1, .int (nI i + 1)), (0, .ref (q + 1))]) (st' := []) (H' := _) (kc' := 0) (ks' := 0) rfl ?_
    rw [show (nI i + 1 : Int32) = nI (i + 1) from nI_add i 1]
    refine RQ.blk 1 (pc' := 54) (lv' := [(1, .int (nI (i + 1))), (0, .ref (q + 1))]) (st' := []) (H' := _) (kc' := 0) (ks' := 0) rfl ?_
    refine ih (i + 1) _ ⟨by omega, ?_⟩ (by omega)
    exact adv_heap (by omega)
  · obtain rfl : i = e.1.length := by omega
    refine RQ.brT rfl rfl rfl (cT_ge e.1.length e.1.length) ?_
    refine RQ.blk 3 (pc' := 83) (lv' := [(1, .int (nI e.1.length)), (0, .ref (q + 1))]) (st' := [.int 4, .ref (q + 1), .ref (q + 1)]) (H' := _) (kc' := 0) (ks' := 0) rfl ?_
    have hgX : ((H.set q (kO 2 (curF q (.ref (r + 1)) (nI (o + 1 + e.1.length)) (nI e.1.length) mo pl le 0))).set (q + 1) (kB 41 (cpy (strm cf x.2.2.2) (o + 1) g 0 e.1.length)))[q + 1]? = some (kB 41 (cpy (strm cf x.2.2.2) (o + 1) g 0 e.1.length)) := get_set ((set_far (by omega)).trans hg)
    generalize ((H.set q (kO 2 (curF q (.ref (r + 1)) (nI (o + 1 + e.1.length)) (nI e.1.length) mo pl le 0))).set (q + 1) (kB 41 (cpy (strm cf x.2.2.2) (o + 1) g 0 e.1.length))) = HX at *
    have farZ := far1
    refine RQ.call (v := some (.int (numI (strm cf x.2.2.2) (o + 1 + e.1.length) 4 0))) (st' := [.ref (q + 1)]) rfl rfl rfl rfl rfl rfl (args_v [.int 4] [.ref (q + 1)] rfl rfl (Nat.le_of_ble_eq_true rfl) rfl hq1b (Nat.le_of_ble_eq_true rfl)) (rc_cnext (q := q) (r := r) (o := o + 1 + e.1.length) (x := x) (n := 4) (kl := nI e.1.length) (en := 0) hq1b (hR.far (farZ r (by omega) (by omega)) (farZ (r + 1) (by omega) (by omega))) (hC.far (fun a _ _ => farZ a (by omega) (by omega))) hB (by omega) hids (by omega)) ?_
    rw [e3]
    refine RQ.put (ci := 2) rfl (get_set hq1b) rfl rfl (Nat.le_of_ble_eq_true rfl) ?_
    rw [set_set]
    have hq2 := (get_set hq1b : (HX.set q (kO 2 (curF q (.ref (r + 1)) (nI (o + 1 + e.1.length + 4)) (nI e.1.length) (nI e.2.1) pl le 0)))[q]? = _)
    have far2 : ∀ a, a ≠ q → a ≠ q + 1 → (HX.set q (kO 2 (curF q (.ref (r + 1)) (nI (o + 1 + e.1.length + 4)) (nI e.1.length) (nI e.2.1) pl le 0)))[a]? = H[a]? := fun a h1 h2 => (set_far h1).trans (far1 a h1 h2)
    have hgY := ((set_far (by omega)).trans hgX : (HX.set q (kO 2 (curF q (.ref (r + 1)) (nI (o + 1 + e.1.length + 4)) (nI e.1.length) (nI e.2.1) pl le 0)))[q + 1]? = _)
    generalize hHY : HX.set q (kO 2 (curF q (.ref (r + 1)) (nI (o + 1 + e.1.length + 4)) (nI e.1.length) (nI e.2.1) pl le 0)) = HY at hq2 far2 hgY
    show RQ sc (d + 2) mr_122 89 [(1, .int (nI e.1.length)), (0, .ref (q + 1))] [] (HX.set q (kO 2 (curF q (.ref (r + 1)) (nI (o + 1 + e.1.length + 4)) (nI e.1.length) (nI e.2.1) pl le 0))) 0 0 _
    rw [hHY]
    refine RQ.blk 3 (pc' := 92) (lv' := [(1, .int (nI e.1.length)), (0, .ref (q + 1))]) (st' := [.int 3, .ref (q + 1), .ref (q + 1)]) (H' := _) (kc' := 0) (ks' := 0) rfl ?_
    have farZ := far2
    refine RQ.call (v := some (.int (numI (strm cf x.2.2.2) (o + 1 + e.1.length + 4) 3 0))) (st' := [.ref (q + 1)]) rfl rfl rfl rfl rfl rfl (args_v [.int 3] [.ref (q + 1)] rfl rfl (Nat.le_of_ble_eq_true rfl) rfl hq2 (Nat.le_of_ble_eq_true rfl)) (rc_cnext (q := q) (r := r) (o := o + 1 + e.1.length + 4) (x := x) (n := 3) (kl := nI e.1.length) (en := 0) hq2 (hR.far (farZ r (by omega) (by omega)) (farZ (r + 1) (by omega) (by omega))) (hC.far (fun a _ _ => farZ a (by omega) (by omega))) hB (by omega) hids (by omega)) ?_
    rw [e4]
    refine RQ.put (ci := 2) rfl (get_set hq2) rfl rfl (Nat.le_of_ble_eq_true rfl) ?_
    rw [set_set]
    have hq3 := (get_set hq2 : (HY.set q (kO 2 (curF q (.ref (r + 1)) (nI (o + 1 + e.1.length + 4 + 3)) (nI e.1.length) (nI e.2.1) (nI e.2.2.1) le 0)))[q]? = _)
    have far3 : ∀ a, a ≠ q → a ≠ q + 1 → (HY.set q (kO 2 (curF q (.ref (r + 1)) (nI (o + 1 + e.1.length + 4 + 3)) (nI e.1.length) (nI e.2.1) (nI e.2.2.1) le 0)))[a]? = H[a]? := fun a h1 h2 => (set_far h1).trans (far2 a h1 h2)
    have hgZ := ((set_far (by omega)).trans hgY : (HY.set q (kO 2 (curF q (.ref (r + 1)) (nI (o + 1 + e.1.length + 4 + 3)) (nI e.1.length) (nI e.2.1) (nI e.2.2.1) le 0)))[q + 1]? = _)
    generalize hHZ : HY.set q (kO 2 (curF q (.ref (r + 1)) (nI (o + 1 + e.1.length + 4 + 3)) (nI e.1.length) (nI e.2.1) (nI e.2.2.1) le 0)) = HZ at hq3 far3 hgZ
    show RQ sc (d + 2) mr_122 98 [(1, .int (nI e.1.length)), (0, .ref (q + 1))] [] (HY.set q (kO 2 (curF q (.ref (r + 1)) (nI (o + 1 + e.1.length + 4 + 3)) (nI e.1.length) (nI e.2.1) (nI e.2.2.1) le 0))) 0 0 _
    rw [hHZ]
    refine RQ.blk 3 (pc' := 101) (lv' := [(1, .int (nI e.1.length)), (0, .ref (q + 1))]) (st' := [.int 2, .ref (q + 1), .ref (q + 1)]) (H' := _) (kc' := 0) (ks' := 0) rfl ?_
    have farZ := far3
    refine RQ.call (v := some (.int (numI (strm cf x.2.2.2) (o + 1 + e.1.length + 4 + 3) 2 0))) (st' := [.ref (q + 1)]) rfl rfl rfl rfl rfl rfl (args_v [.int 2] [.ref (q + 1)] rfl rfl (Nat.le_of_ble_eq_true rfl) rfl hq3 (Nat.le_of_ble_eq_true rfl)) (rc_cnext (q := q) (r := r) (o := o + 1 + e.1.length + 4 + 3) (x := x) (n := 2) (kl := nI e.1.length) (en := 0) hq3 (hR.far (farZ r (by omega) (by omega)) (farZ (r + 1) (by omega) (by omega))) (hC.far (fun a _ _ => farZ a (by omega) (by omega))) hB (by omega) hids (by omega)) ?_
    rw [e5]
    refine RQ.put (ci := 2) rfl (get_set hq3) rfl rfl (Nat.le_of_ble_eq_true rfl) ?_
    rw [set_set]
    refine RQ.blk 1 (pc' := 108) (lv' := [(1, .int (nI e.1.length)), (0, .ref (q + 1))]) (st' := [.ref (q + 1)]) (H' := _) (kc' := 0) (ks' := 0) rfl ?_
    refine RQ.get (ci := 2) rfl (get_set hq3) rfl rfl ?_
    refine RQ.blk 1 (pc' := 113) (lv' := [(1, .int (nI e.1.length)), (0, .ref (q + 1))]) (st' := [.int 65535, .int (nI (e.2.2.2.getD 65535))]) (H' := _) (kc' := 0) (ks' := 0) rfl ?_
    cases he4 : e.2.2.2 with
    | none =>
      refine RQ.brF rfl rfl rfl (cF_ne 65535 65535) ?_
      refine RQ.blk 2 (pc' := 118) (lv' := [(1, .int (nI e.1.length)), (0, .ref (q + 1))]) (st' := [.int (-1), .ref (q + 1)]) (H' := _) (kc' := 0) (ks' := 0) rfl ?_
      refine RQ.put (ci := 2) rfl (get_set hq3) rfl rfl (Nat.le_of_ble_eq_true rfl) ?_
      rw [set_set]
      exact RQ.done (c := 0) (s := 0) rfl rfl rfl rfl ⟨_, rfl, ⟨_, get_set hq3, (set_far (by omega)).trans hgZ, by rw [sl_cpy]; exact e2⟩, fun a h1 h2 => (set_far h1).trans (far3 a h1 h2)⟩
    | some n =>
      have hn9 : n ≤ 2048 := by have := hE.2.2.2.2.1; rw [he4] at this; exact this
      refine RQ.brT rfl rfl rfl (cT_ne n 65535) ?_
      exact RQ.done (c := 0) (s := 0) rfl rfl rfl rfl ⟨_, rfl, ⟨_, get_set hq3, (set_far (by omega)).trans hgZ, by rw [sl_cpy]; exact e2⟩, fun a h1 h2 => (set_far h1).trans (far3 a h1 h2)⟩
