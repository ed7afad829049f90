/-! ===== tables: the blocks of a run, a walk over its entries; class; written by wip/gen/cursor.py ===== -/
/-- a run: its level, length, entries, blocks -/
abbrev aR : Type := Nat × Nat × Nat × List Nat
def RunIs (H : aH) (r : Nat) (x : aR) : Prop := ∃ f : Nat → Nat, H[r]? = some (kO 6 [.ref (r + 1 + 1), .int (nI x.2.2.2.length), .int (nI x.1), .int (nI x.2.1), .int (nI x.2.2.1)]) ∧ H[r + 1]? = some (kI 64 (fun j => nI (f j))) ∧ (∀ i b, x.2.2.2[i]? = some b → f i = b) ∧ x.2.2.2.length ≤ 64
theorem RunIs.far {H H' : aH} {r : Nat} {x : aR} (h : RunIs H r x) (h1 : H'[r]? = H[r]?) (h2 : H'[r + 1]? = H[r + 1]?) : RunIs H' r x := by
  obtain ⟨f, a, b, c⟩ := h
  exact ⟨f, h1.trans a, h2.trans b, c⟩
/-- the bytes of a table, one behind another -/
def strm (c : Nat → Int8) (ids : List Nat) : Nat → Int8 := fun o => c (ids.getD (o / 2048) 0 * 2048 + o % 2048)
/-- an entry of a table: key, moment, place, length -/
abbrev aT : Type := List Nat × Nat × Nat × Option Nat
def encE (e : aT) : List Nat := e.1.length :: e.1 ++ (beB 4 e.2.1 ++ (beB 3 e.2.2.1 ++ beB 2 (e.2.2.2.getD 65535)))
def EOk (e : aT) : Prop := 1 ≤ e.1.length ∧ e.1.length ≤ 41 ∧ e.2.1 < 2 ^ 30 ∧ e.2.2.1 < 2 ^ 24 ∧ e.2.2.2.getD 0 ≤ 2048 ∧ (e.2.2.2 = none → e.2.2.1 = 0)
theorem beB_len : ∀ (n x : Nat), (beB n x).length = n
  | 0, _ => rfl
  | n + 1, x => by rw [beB, List.length_cons, beB_len n x]
theorem encE_len (e : aT) : (encE e).length = e.1.length + 10 := by
  unfold encE
  rw [List.length_append, List.length_append, List.length_append, beB_len, beB_len, beB_len, List.length_cons]
/-- what stands behind a part of a row -/
theorem sl_split {f : Nat → Int8} {i n m : Nat} {a b : List Nat} (h : sl f i (n + m) = a ++ b) (ha : a.length = n) : sl f i n = a ∧ sl f (i + n) m = b := by
  rw [sl_append] at h
  exact List.append_inj h (by rw [sl_length, ha])
theorem rn_runClear {sc : Nat × (Nat → Int32)} {d r l : Nat} {H : aH} {x : aR} (h : RunIs H r x) : RN sc d mr_99 [.ref (r + 1), .int (nI l)] H (fun H' => RunIs H' r (l, 0, 0, []) ∧ ∀ a, a ≠ r → H'[a]? = H[a]?) := by
  obtain ⟨f, h1, h2, h3, h4⟩ := h
  refine RN.of ?_
  refine RQ.blk 2 (pc' := 2) (lv' := [(0, .ref (r + 1)), (1, .int (nI l))]) (st' := [.int 0, .ref (r + 1)]) (H' := _) (kc' := 0) (ks' := 0) rfl ?_
  refine RQ.put (ci := 6) rfl h1 rfl rfl (Nat.le_of_ble_eq_true rfl) ?_
  refine RQ.blk 2 (pc' := 7) (lv' := [(0, .ref (r + 1)), (1, .int (nI l))]) (st' := [.int (nI l), .ref (r + 1)]) (H' := _) (kc' := 0) (ks' := 0) rfl ?_
  refine RQ.put (ci := 6) rfl (get_set h1) rfl rfl (Nat.le_of_ble_eq_true rfl) ?_
  refine RQ.blk 2 (pc' := 12) (lv' := [(0, .ref (r + 1)), (1, .int (nI l))]) (st' := [.int 0, .ref (r + 1)]) (H' := _) (kc' := 0) (ks' := 0) rfl ?_
  refine RQ.put (ci := 6) rfl (get_set (get_set h1)) rfl rfl (Nat.le_of_ble_eq_true rfl) ?_
  refine RQ.blk 2 (pc' := 17) (lv' := [(0, .ref (r + 1)), (1, .int (nI l))]) (st' := [.int 0, .ref (r + 1)]) (H' := _) (kc' := 0) (ks' := 0) rfl ?_
  refine RQ.put (ci := 6) rfl (get_set (get_set (get_set h1))) rfl rfl (Nat.le_of_ble_eq_true rfl) ?_
  rw [set_set, set_set, set_set]
  exact RQ.done (c := 0) (s := 0) rfl rfl rfl rfl ⟨_, rfl, ⟨f, get_set h1, (set_far (by omega)).trans h2, fun i b h => by simp at h, Nat.zero_le _⟩, fun a ha => set_far ha⟩
theorem rn_runAdd {sc : Nat × (Nat → Int32)} {d r b n : Nat} {H : aH} {x : aR} (h : RunIs H r x) (hl : x.2.2.2.length < 64) : RN sc d mr_111 [.ref (r + 1), .int (nI b), .int (nI n)] H (fun H' => RunIs H' r (x.1, x.2.1 + n, x.2.2.1, x.2.2.2 ++ [b]) ∧ ∀ a, a ≠ r → a ≠ r + 1 → H'[a]? = H[a]?) := by
  obtain ⟨f, h1, h2, h3, h4⟩ := h
  refine RN.of ?_
  refine RQ.blk 1 (pc' := 1) (lv' := [(0, .ref (r + 1)), (1, .int (nI b)), (2, .int (nI n))]) (st' := [.ref (r + 1)]) (H' := _) (kc' := 0) (ks' := 0) rfl ?_
  refine RQ.get (ci := 6) rfl h1 rfl rfl ?_
  refine RQ.blk 1 (pc' := 6) (lv' := [(0, .ref (r + 1)), (1, .int (nI b)), (2, .int (nI n))]) (st' := [.int 64, .int (nI x.2.2.2.length)]) (H' := _) (kc' := 0) (ks' := 0) rfl ?_
  refine RQ.brF rfl rfl rfl (cF_ge x.2.2.2.length 64) ?_
  refine RQ.blk 1 (pc' := 10) (lv' := [(0, .ref (r + 1)), (1, .int (nI b)), (2, .int (nI n))]) (st' := [.ref (r + 1)]) (H' := _) (kc' := 0) (ks' := 0) rfl ?_
  refine RQ.get (ci := 6) rfl h1 rfl rfl ?_
  refine RQ.blk 1 (pc' := 14) (lv' := [(0, .ref (r + 1)), (1, .int (nI b)), (2, .int (nI n))]) (st' := [.ref (r + 1), .ref ((r + 1) + 1)]) (H' := _) (kc' := 0) (ks' := 0) rfl ?_
  refine RQ.get (ci := 6) rfl h1 rfl rfl ?_
  refine RQ.blk 1 (pc' := 18) (lv' := [(0, .ref (r + 1)), (1, .int (nI b)), (2, .int (nI n))]) (st' := [.int (nI b), .int (nI x.2.2.2.length), .ref ((r + 1) + 1)]) (H' := _) (kc' := 0) (ks' := 0) rfl ?_
  refine RQ.iastN (j := x.2.2.2.length) rfl h2 (by omega) (by decide) ?_
  refine RQ.blk 2 (pc' := 21) (lv' := [(0, .ref (r + 1)), (1, .int (nI b)), (2, .int (nI n))]) (st' := [.ref (r + 1), .ref (r + 1)]) (H' := _) (kc' := 0) (ks' := 0) rfl ?_
  refine RQ.get (ci := 6) rfl ((set_far (by omega)).trans h1) rfl rfl ?_
  refine RQ.blk 2 (pc' := 26) (lv' := [(0, .ref (r + 1)), (1, .int (nI b)), (2, .int (nI n))]) (st' := [.int (nI x.2.2.2.length + 1), .ref (r + 1)]) (H' := _) (kc' := 0) (ks' := 0) rfl ?_
  rw [show (nI x.2.2.2.length + 1 : Int32) = nI (x.2.2.2.length + 1) from nI_add x.2.2.2.length 1]
  refine RQ.put (ci := 6) rfl ((set_far (by omega)).trans h1) rfl rfl (Nat.le_of_ble_eq_true rfl) ?_
  refine RQ.blk 2 (pc' := 31) (lv' := [(0, .ref (r + 1)), (1, .int (nI b)), (2, .int (nI n))]) (st' := [.ref (r + 1), .ref (r + 1)]) (H' := _) (kc' := 0) (ks' := 0) rfl ?_
  refine RQ.get (ci := 6) rfl (get_set ((set_far (by omega)).trans h1)) rfl rfl ?_
  refine RQ.blk 2 (pc' := 36) (lv' := [(0, .ref (r + 1)), (1, .int (nI b)), (2, .int (nI n))]) (st' := [.int (nI x.2.1 + nI n), .ref (r + 1)]) (H' := _) (kc' := 0) (ks' := 0) rfl ?_
  rw [show (nI x.2.1 + nI n : Int32) = nI (x.2.1 + n) from nI_add x.2.1 n]
  refine RQ.put (ci := 6) rfl (get_set ((set_far (by omega)).trans h1)) rfl rfl (Nat.le_of_ble_eq_true rfl) ?_
  exact RQ.done (c := 0) (s := 0) rfl rfl rfl rfl ⟨_, rfl, ⟨va_up f x.2.2.2.length b, (get_set (get_set ((set_far (by omega)).trans h1))).trans (by rw [List.length_append]; rfl), ((set_far (by omega)).trans ((set_far (by omega)).trans (get_set h2))).trans (congrArg (fun g => some (kI 64 g)) up_nI), fun i y hy => (by
    by_cases hi : i < x.2.2.2.length
    · rw [List.getElem?_append_left hi] at hy; rw [up_ne (by omega)]; exact h3 i y hy
    · have hl := get_lt hy; rw [List.length_append] at hl; have hl : i < x.2.2.2.length + 1 := hl; have e : i = x.2.2.2.length := by omega
      rw [e, List.getElem?_append_right (Nat.le_refl _), Nat.sub_self] at hy; rw [e, up_at]; exact Option.some.inj hy), by rw [List.length_append]; show x.2.2.2.length + 1 ≤ 64; omega⟩, fun a h8 h9 => (set_far (by omega)).trans ((set_far (by omega)).trans (set_far (by omega)))⟩
theorem rc_addressOf {sc : Nat × (Nat → Int32)} {d r o : Nat} {H : aH} {x : aR} (h : RunIs H r x) (ho : o < x.2.2.2.length * 2048) : RC sc d mr_124 [.ref (r + 1), .int (nI o)] H (.inl (some (.int (nI (x.2.2.2.getD (o / 2048) 0 * 2048 + o % 2048))))) H 0 0 := by
  obtain ⟨f, h1, h2, h3, h4⟩ := h
  have hf : f (o / 2048) = x.2.2.2.getD (o / 2048) 0 := by
    obtain ⟨b, hb⟩ := lt_get (l := x.2.2.2) (i := o / 2048) (by omega)
    rw [h3 _ b hb, List.getD_eq_getElem?_getD, hb]
    rfl
  refine RP.blk 3 (pc' := 5) (lv' := [(0, .ref (r + 1)), (1, .int (nI o))]) (st' := [.int (nI o / 2048)]) (H' := _) (kc' := 0) (ks' := 0) rfl ?_
  rw [show (nI o / 2048 : Int32) = nI (o / 2048) from pk_div (a := o) (d := 2048) (by omega) (by omega) (by omega)]
  refine RP.blk 2 (pc' := 7) (lv' := [(2, .int (nI (o / 2048))), (0, .ref (r + 1)), (1, .int (nI o))]) (st' := [.int (nI o)]) (H' := _) (kc' := 0) (ks' := 0) rfl ?_
  refine RP.brF rfl rfl rfl (cF_lt o 0) ?_
  refine RP.blk 2 (pc' := 12) (lv' := [(2, .int (nI (o / 2048))), (0, .ref (r + 1)), (1, .int (nI o))]) (st' := [.ref (r + 1), .int (nI (o / 2048))]) (H' := _) (kc' := 0) (ks' := 0) rfl ?_
  refine RP.get (ci := 6) rfl h1 rfl rfl ?_
  refine RP.brT rfl rfl rfl (cT_lt (o / 2048) x.2.2.2.length) ?_
  refine RP.blk 1 (pc' := 23) (lv' := [(2, .int (nI (o / 2048))), (0, .ref (r + 1)), (1, .int (nI o))]) (st' := [.ref (r + 1)]) (H' := _) (kc' := 0) (ks' := 0) rfl ?_
  refine RP.get (ci := 6) rfl h1 rfl rfl ?_
  refine RP.blk 1 (pc' := 27) (lv' := [(2, .int (nI (o / 2048))), (0, .ref (r + 1)), (1, .int (nI o))]) (st' := [.int (nI (o / 2048)), .ref ((r + 1) + 1)]) (H' := _) (kc' := 0) (ks' := 0) rfl ?_
  refine RP.ialdN (j := o / 2048) rfl h2 (by omega) (by decide) ?_
  refine RP.blk 2 (pc' := 32) (lv' := [(2, .int (nI (o / 2048))), (0, .ref (r + 1)), (1, .int (nI o))]) (st' := [.int (nI (f (o / 2048)) * 2048)]) (H' := _) (kc' := 0) (ks' := 0) rfl ?_
  rw [show (nI (f (o / 2048)) * 2048 : Int32) = nI ((f (o / 2048)) * 2048) from pk_mul (f (o / 2048)) 2048]
  refine RP.blk 3 (pc' := 37) (lv' := [(2, .int (nI (o / 2048))), (0, .ref (r + 1)), (1, .int (nI o))]) (st' := [.int (nI o - nI o / 2048 * 2048), .int (nI ((f (o / 2048)) * 2048))]) (H' := _) (kc' := 0) (ks' := 0) rfl ?_
  rw [show (nI o - nI o / 2048 * 2048 : Int32) = nI (o % 2048) from pk_rem (a := o) (d := 2048) (by omega) (by omega) (by omega)]
  refine RP.blk 1 (pc' := 38) (lv' := [(2, .int (nI (o / 2048))), (0, .ref (r + 1)), (1, .int (nI o))]) (st' := [.int (nI ((f (o / 2048)) * 2048) + nI (o % 2048))]) (H' := _) (kc' := 0) (ks' := 0) rfl ?_
  rw [show (nI ((f (o / 2048)) * 2048) + nI (o % 2048) : Int32) = nI ((f (o / 2048)) * 2048 + (o % 2048)) from nI_add ((f (o / 2048)) * 2048) (o % 2048)]
  rw [hf]
  exact RP.done (c := 0) (s := 0) rfl rfl rfl rfl
/-- a cursor's fields -/
def curF (q : Nat) (rn : Value) (o kl mo pl le en : Int32) : List Value := [.ref 72, .ref (q + 1 + 1), rn, .int o, .int kl, .int mo, .int pl, .int le, .int en]
theorem rc_copen {sc : Nat × (Nat → Int32)} {d q r : Nat} {H : aH} {rn : Value} {o kl mo pl le en : Int32} (hq : H[q]? = some (kO 2 (curF q rn o kl mo pl le en))) : RC sc d mr_121 [.ref (q + 1), .ref (r + 1)] H (.inl none) (H.set q (kO 2 (curF q (.ref (r + 1)) 0 kl mo pl le en))) 0 0 := by
  refine RP.blk 2 (pc' := 2) (lv' := [(0, .ref (q + 1)), (1, .ref (r + 1))]) (st' := [.ref (r + 1), .ref (q + 1)]) (H' := _) (kc' := 0) (ks' := 0) rfl ?_
  refine RP.put (ci := 2) rfl hq rfl rfl (Nat.le_of_ble_eq_true rfl) ?_
  refine RP.blk 2 (pc' := 7) (lv' := [(0, .ref (q + 1)), (1, .ref (r + 1))]) (st' := [.int 0, .ref (q + 1)]) (H' := _) (kc' := 0) (ks' := 0) rfl ?_
  refine RP.put (ci := 2) rfl (get_set hq) rfl rfl (Nat.le_of_ble_eq_true rfl) ?_
  rw [set_set]
  exact RP.done (c := 0) (s := 0) rfl rfl rfl rfl
theorem rc_cnext {sc : Nat × (Nat → Int32)} {d n : Nat} {H : aH} {q r o : Nat} {kl mo pl le en : Int32} {x : aR} {B : Nat} {cf : Nat → Int8} {tf : Nat → Nat} {pq : Option Nat} {bb ov : Nat} (hq : H[q]? = some (kO 2 (curF q (.ref (r + 1)) (nI o) kl mo pl le en))) (hR : RunIs H r x) (hC : ChipAt H B cf tf pq bb ov) (hB : B ≤ 128) (hqr : q ≠ r ∧ q ≠ r + 1 ∧ q ≠ 71 ∧ q ≠ 72) (hids : ∀ b ∈ x.2.2.2, b < B) (hn : o + n ≤ x.2.2.2.length * 2048) : RC sc (d + 1) mr_123 [.ref (q + 1), .int (nI n)] H (.inl (some (.int (numI (strm cf x.2.2.2) o n 0)))) (H.set q (kO 2 (curF q (.ref (r + 1)) (nI (o + n)) kl mo pl le en))) 0 0 := by
  have hl64 : x.2.2.2.length ≤ 64 := by obtain ⟨_, _, _, _, h⟩ := hR; exact h
  refine RP.blk 4 (pc' := 4) (lv' := [(3, .int 0), (2, .int 0), (0, .ref (q + 1)), (1, .int (nI n))]) (st' := []) (H' := _) (kc' := 0) (ks' := 0) rfl ?_
  have start : RP sc (d + 1) mr_123 4 [(3, .int (nI 0)), (2, .int (numI (strm cf x.2.2.2) o 0 0)), (0, .ref (q + 1)), (1, .int (nI n))] [] (H.set q (kO 2 (curF q (.ref (r + 1)) (nI (o + 0)) kl mo pl le en))) 0 0 (.inl (some (.int (numI (strm cf x.2.2.2) o n 0))), (H.set q (kO 2 (curF q (.ref (r + 1)) (nI (o + n)) kl mo pl le en))), 0, 0) := by
    refine RP.loop 4 (fun i => [(3, .int (nI i)), (2, .int (numI (strm cf x.2.2.2) o i 0)), (0, .ref (q + 1)), (1, .int (nI n))]) [] (fun i => (H.set q (kO 2 (curF q (.ref (r + 1)) (nI (o + i)) kl mo pl le en)))) 0 0 n (fun i hi kk => ?_) ?_
    · have hid : x.2.2.2.getD ((o + i) / 2048) 0 < B := by
        obtain ⟨b, hb⟩ := lt_get (l := x.2.2.2) (i := (o + i) / 2048) (by omega)
        rw [List.getD_eq_getElem?_getD, hb]
        exact hids b (List.mem_of_getElem? hb)
      obtain ⟨rf, hr0⟩ : ∃ rf, ((H.set q (kO 2 (curF q (.ref (r + 1)) (nI (o + i)) kl mo pl le en))))[r]? = some (kO 6 rf) := by obtain ⟨f, h1, _⟩ := hR; exact ⟨_, (set_far (by omega)).trans h1⟩
      rw [numI_snoc] at kk
      refine RP.blk 2 (pc' := 6) (lv' := [(3, .int (nI i)), (2, .int (numI (strm cf x.2.2.2) o i 0)), (0, .ref (q + 1)), (1, .int (nI n))]) (st' := [.int (nI n), .int (nI i)]) (H' := _) (kc' := 0) (ks' := 0) rfl ?_
      refine RP.brF rfl rfl rfl (cF_ge i n) ?_
      refine RP.blk 4 (pc' := 14) (lv' := [(3, .int (nI i)), (2, .int (numI (strm cf x.2.2.2) o i 0)), (0, .ref (q + 1)), (1, .int (nI n))]) (st' := [.ref (q + 1), .int ((numI (strm cf x.2.2.2) o i 0) <<< (8 &&& 31))]) (H' := _) (kc' := 0) (ks' := 0) rfl ?_
      refine RP.get (ci := 2) rfl (get_set hq) rfl rfl ?_
      refine RP.brT rfl rfl rfl rfl ?_
      refine RP.blk 1 (pc' := 25) (lv' := [(3, .int (nI i)), (2, .int (numI (strm cf x.2.2.2) o i 0)), (0, .ref (q + 1)), (1, .int (nI n))]) (st' := [.ref (q + 1), .int ((numI (strm cf x.2.2.2) o i 0) <<< (8 &&& 31))]) (H' := _) (kc' := 0) (ks' := 0) rfl ?_
      refine RP.get (ci := 2) rfl (get_set hq) rfl rfl ?_
      refine RP.blk 1 (pc' := 29) (lv' := [(3, .int (nI i)), (2, .int (numI (strm cf x.2.2.2) o i 0)), (0, .ref (q + 1)), (1, .int (nI n))]) (st' := [.ref (q + 1), .ref 72, .int ((numI (strm cf x.2.2.2) o i 0) <<< (8 &&& 31))]) (H' := _) (kc' := 0) (ks' := 0) rfl ?_
      refine RP.get (ci := 2) rfl (get_set hq) rfl rfl ?_
      refine RP.blk 1 (pc' := 33) (lv' := [(3, .int (nI i)), (2, .int (numI (strm cf x.2.2.2) o i 0)), (0, .ref (q + 1)), (1, .int (nI n))]) (st' := [.ref (q + 1), .ref (r + 1), .ref 72, .int ((numI (strm cf x.2.2.2) o i 0) <<< (8 &&& 31))]) (H' := _) (kc' := 0) (ks' := 0) rfl ?_
      refine RP.get (ci := 2) rfl (get_set hq) rfl rfl ?_
      refine RP.call (v := some (.int (nI (x.2.2.2.getD ((o + i) / 2048) 0 * 2048 + (o + i) % 2048)))) (st' := [.ref 72, .int ((numI (strm cf x.2.2.2) o i 0) <<< (8 &&& 31))]) rfl rfl rfl rfl rfl rfl (args_v [.int (nI (o + i))] [.ref 72, .int ((numI (strm cf x.2.2.2) o i 0) <<< (8 &&& 31))] rfl rfl (Nat.le_of_ble_eq_true rfl) rfl hr0 (Nat.le_of_ble_eq_true rfl)) (rc_addressOf (o := o + i) (hR.far (set_far (by omega)) (set_far (by omega))) (by omega)) ?_
      refine RP.call (v := some (.int (nI (ub (cf (x.2.2.2.getD ((o + i) / 2048) 0 * 2048 + (o + i) % 2048)))))) (st' := [.int ((numI (strm cf x.2.2.2) o i 0) <<< (8 &&& 31))]) rfl rfl rfl rfl rfl rfl (args_v [.int (nI (x.2.2.2.getD ((o + i) / 2048) 0 * 2048 + (o + i) % 2048))] [.int ((numI (strm cf x.2.2.2) o i 0) <<< (8 &&& 31))] rfl rfl (Nat.le_of_ble_eq_true rfl) rfl ((set_far (by omega)).trans hC.1) (Nat.le_of_ble_eq_true rfl)) (rc_cat (i := x.2.2.2.getD ((o + i) / 2048) 0 * 2048 + (o + i) % 2048) ((set_far (by omega)).trans hC.1) rfl ((set_far (by omega)).trans hC.2.1) (by omega) (by omega)) ?_
      refine RP.blk 2 (pc' := 44) (lv' := [(2, .int (((numI (strm cf x.2.2.2) o i 0) <<< (8 &&& 31)) ||| nI (ub (cf (x.2.2.2.getD ((o + i) / 2048) 0 * 2048 + (o + i) % 2048))))), (3, .int (nI i)), (0, .ref (q + 1)), (1, .int (nI n))]) (st' := []) (H' := _) (kc' := 0) (ks' := 0) rfl ?_
      refine RP.blk 2 (pc' := 46) (lv' := [(2, .int (((numI (strm cf x.2.2.2) o i 0) <<< (8 &&& 31)) ||| nI (ub (cf (x.2.2.2.getD ((o + i) / 2048) 0 * 2048 + (o + i) % 2048))))), (3, .int (nI i)), (0, .ref (q + 1)), (1, .int (nI n))]) (st' := [.ref (q + 1), .ref (q + 1)]) (H' := _) (kc' := 0) (ks' := 0) rfl ?_
      refine RP.get (ci := 2) rfl (get_set hq) rfl rfl ?_
      refine RP.blk 2 (pc' := 51) (lv' := [(2, .int (((numI (strm cf x.2.2.2) o i 0) <<< (8 &&& 31)) ||| nI (ub (cf (x.2.2.2.getD ((o + i) / 2048) 0 * 2048 + (o + i) % 2048))))), (3, .int (nI i)), (0, .ref (q + 1)), (1, .int (nI n))]) (st' := [.int (nI (o + i) + 1), .ref (q + 1)]) (H' := _) (kc' := 0) (ks' := 0) rfl ?_
      rw [show (nI (o + i) + 1 : Int32) = nI ((o + i) + 1) from nI_add (o + i) 1]
      refine RP.put (ci := 2) rfl (get_set hq) rfl rfl (Nat.le_of_ble_eq_true rfl) ?_
      rw [set_set]
      refine RP.blk 1 (pc' := 57) (lv' := [(3, .int (nI i + 1)), (2, .int (((numI (strm cf x.2.2.2) o i 0) <<< (8 &&& 31)) ||| nI (ub (cf (x.2.2.2.getD ((o + i) / 2048) 0 * 2048 + (o + i) % 2048))))), (0, .ref (q + 1)), (1, .int (nI n))]) (st' := []) (H' := _) (kc' := 0) (ks' := 0) rfl ?_
      rw [show (nI i + 1 : Int32) = nI (i + 1) from nI_add i 1]
      refine RP.blk 1 (pc' := 4) (lv' := [(3, .int (nI (i + 1))), (2, .int (((numI (strm cf x.2.2.2) o i 0) <<< (8 &&& 31)) ||| nI (ub (cf (x.2.2.2.getD ((o + i) / 2048) 0 * 2048 + (o + i) % 2048))))), (0, .ref (q + 1)), (1, .int (nI n))]) (st' := []) (H' := _) (kc' := 0) (ks' := 0) rfl ?_
      exact kk
    ·
      refine RP.blk 2 (pc' := 6) (lv' := [(3, .int (nI n)), (2, .int (numI (strm cf x.2.2.2) o n 0)), (0, .ref (q + 1)), (1, .int (nI n))]) (st' := [.int (nI n), .int (nI n)]) (H' := _) (kc' := 0) (ks' := 0) rfl ?_
      refine RP.brT rfl rfl rfl (cT_ge n n) ?_
      refine RP.blk 1 (pc' := 61) (lv' := [(3, .int (nI n)), (2, .int (numI (strm cf x.2.2.2) o n 0)), (0, .ref (q + 1)), (1, .int (nI n))]) (st' := [.int (numI (strm cf x.2.2.2) o n 0)]) (H' := _) (kc' := 0) (ks' := 0) rfl ?_
      exact RP.done (c := 0) (s := 0) rfl rfl rfl rfl
  rw [show (H.set q (kO 2 (curF q (.ref (r + 1)) (nI (o + 0)) kl mo pl le en))) = H from set_self hq] at start
  exact start
