/-! ===== the chip: parts, program, erase, the power; class; written by wip/gen/chip4.py ===== -/
/-- the chip: so many blocks, bytes, tops; the parts that are left (none: no cut is armed), the bytes of the last, what was written twice -/
def ChipAt (H : aH) (B : Nat) (cf : Nat → Int8) (tf : Nat → Nat) (pl : Option Nat) (bl ov : Nat) : Prop := H[71]? = some (kO 1 [.ref 73, .ref 74, .int (lI pl), .int (nI bl), .int (nI ov)]) ∧ H[72]? = some (kB (B * 2048) cf) ∧ H[73]? = some (kI B (fun j => nI (tf j)))
theorem nI_m32 {a b : Nat} (h : a % 2 ^ 32 = b % 2 ^ 32) : nI a = nI b := by
  apply Int32.toBitVec_inj.mp
  apply BitVec.eq_of_toNat_eq
  show (BitVec.ofNat 32 a).toNat = (BitVec.ofNat 32 b).toNat
  rw [BitVec.toNat_ofNat, BitVec.toNat_ofNat]
  exact h
theorem ovl {t off n : Nat} (h : t ≤ off) (ht : off < 2 ^ 30) (hn : n < 2 ^ 31) : (if (0 : Int32) < (if nI n < nI t - nI off then nI n else nI t - nI off) then (if nI n < nI t - nI off then nI n else nI t - nI off) else 0) = 0 := by
  have e : (nI t - nI off).toInt = (t : Int) - off := pk_sub_toInt (by omega) ht
  have h1 : ¬ (0 : Int32) < nI t - nI off := by
    rw [Int32.lt_iff_toInt_lt, e]
    show ¬ (0 : Int) < _
    omega
  have h2 : ¬ nI n < nI t - nI off := by
    rw [Int32.lt_iff_toInt_lt, e, nI_toInt hn]
    omega
  rw [if_neg h2, if_neg h1]
/-- the parts left behind one more -/
def plUp : Option Nat → Option Nat
  | none => none
  | some 0 => none
  | some (k + 1) => some k
theorem rc_granted0 {sc : Nat × (Nat → Int32)} {n : Nat} {d B bl ov : Nat} {H : aH} {cf : Nat → Int8} {tf : Nat → Nat} (h : ChipAt H B cf tf none bl ov) : RC sc d mr_107 [.ref 72, .int (nI n)] H (.inl (some (.int (nI n)))) H 0 0 := by
  refine RP.blk 1 (pc' := 1) (lv' := [(0, .ref 72), (1, .int (nI n))]) (st' := [.ref 72]) (H' := _) (kc' := 0) (ks' := 0) rfl ?_
  refine RP.get (ci := 1) rfl h.1 rfl rfl ?_
  refine RP.brF rfl rfl rfl (by decide) ?_
  refine RP.blk 1 (pc' := 8) (lv' := [(0, .ref 72), (1, .int (nI n))]) (st' := [.int (nI n)]) (H' := _) (kc' := 0) (ks' := 0) rfl ?_
  exact RP.done (c := 0) (s := 0) rfl rfl rfl rfl
theorem rc_granted1 {sc : Nat × (Nat → Int32)} {n k : Nat} {d B bl ov : Nat} {H : aH} {cf : Nat → Int8} {tf : Nat → Nat} (h : ChipAt H B cf tf (some (k + 1)) bl ov) (hk : k + 1 < 2 ^ 31) : RC sc d mr_107 [.ref 72, .int (nI n)] H (.inl (some (.int (nI n)))) (H.set 71 (kO 1 [.ref 73, .ref 74, .int (lI (some k)), .int (nI bl), .int (nI ov)])) 0 0 := by
  refine RP.blk 1 (pc' := 1) (lv' := [(0, .ref 72), (1, .int (nI n))]) (st' := [.ref 72]) (H' := _) (kc' := 0) (ks' := 0) rfl ?_
  refine RP.get (ci := 1) rfl h.1 rfl rfl ?_
  refine RP.brT rfl rfl rfl (cT_ge (k + 1) 0) ?_
  refine RP.blk 2 (pc' := 11) (lv' := [(0, .ref 72), (1, .int (nI n))]) (st' := [.ref 72, .ref 72]) (H' := _) (kc' := 0) (ks' := 0) rfl ?_
  refine RP.get (ci := 1) rfl h.1 rfl rfl ?_
  refine RP.blk 2 (pc' := 16) (lv' := [(0, .ref 72), (1, .int (nI n))]) (st' := [.int (nI (k + 1) - 1), .ref 72]) (H' := _) (kc' := 0) (ks' := 0) rfl ?_
  rw [show (nI (k + 1) - 1 : Int32) = nI ((k + 1) - 1) from pk_sub (a := (k + 1)) (b := 1) (by omega)]
  rw [show k + 1 - 1 = k from rfl]
  refine RP.put (ci := 1) rfl h.1 rfl rfl (Nat.le_of_ble_eq_true rfl) ?_
  refine RP.blk 1 (pc' := 20) (lv' := [(0, .ref 72), (1, .int (nI n))]) (st' := [.ref 72]) (H' := _) (kc' := 0) (ks' := 0) rfl ?_
  refine RP.get (ci := 1) rfl (get_set h.1) rfl rfl ?_
  refine RP.brF rfl rfl rfl (cF_lt k 0) ?_
  refine RP.blk 2 (pc' := 40) (lv' := [(0, .ref 72), (1, .int (nI n))]) (st' := [.int (nI n)]) (H' := _) (kc' := 0) (ks' := 0) rfl ?_
  exact RP.done (c := 0) (s := 0) rfl rfl rfl rfl
theorem rc_granted2 {sc : Nat × (Nat → Int32)} {n : Nat} {d B bl ov : Nat} {H : aH} {cf : Nat → Int8} {tf : Nat → Nat} (h : ChipAt H B cf tf (some 0) bl ov) (hn1 : 1 ≤ n) (hn : n < 2 ^ 31) (hb : bl % 2 ^ 32 < 2 ^ 31) : RC sc d mr_107 [.ref 72, .int (nI n)] H (.inl (some (.int (nI (min (bl % 2 ^ 32) (n - 1)))))) (H.set 71 (kO 1 [.ref 73, .ref 74, .int (lI none), .int (nI bl), .int (nI ov)])) 0 0 := by
  refine RP.blk 1 (pc' := 1) (lv' := [(0, .ref 72), (1, .int (nI n))]) (st' := [.ref 72]) (H' := _) (kc' := 0) (ks' := 0) rfl ?_
  refine RP.get (ci := 1) rfl h.1 rfl rfl ?_
  refine RP.brT rfl rfl rfl (by decide) ?_
  refine RP.blk 2 (pc' := 11) (lv' := [(0, .ref 72), (1, .int (nI n))]) (st' := [.ref 72, .ref 72]) (H' := _) (kc' := 0) (ks' := 0) rfl ?_
  refine RP.get (ci := 1) rfl h.1 rfl rfl ?_
  refine RP.blk 2 (pc' := 16) (lv' := [(0, .ref 72), (1, .int (nI n))]) (st' := [.int (0 - 1), .ref 72]) (H' := _) (kc' := 0) (ks' := 0) rfl ?_
  rw [show (0 : Int32) - 1 = -1 from by decide]
  refine RP.put (ci := 1) rfl h.1 rfl rfl (Nat.le_of_ble_eq_true rfl) ?_
  refine RP.blk 1 (pc' := 20) (lv' := [(0, .ref 72), (1, .int (nI n))]) (st' := [.ref 72]) (H' := _) (kc' := 0) (ks' := 0) rfl ?_
  refine RP.get (ci := 1) rfl (get_set h.1) rfl rfl ?_
  refine RP.brT rfl rfl rfl (by decide) ?_
  refine RP.blk 1 (pc' := 31) (lv' := [(0, .ref 72), (1, .int (nI n))]) (st' := [.ref 72]) (H' := _) (kc' := 0) (ks' := 0) rfl ?_
  refine RP.get (ci := 1) rfl (get_set h.1) rfl rfl ?_
  refine RP.blk 3 (pc' := 37) (lv' := [(0, .ref 72), (1, .int (nI n))]) (st' := [.int (nI n - 1), .int (nI bl)]) (H' := _) (kc' := 0) (ks' := 0) rfl ?_
  rw [show (nI n - 1 : Int32) = nI (n - 1) from pk_sub (a := n) (b := 1) (by omega)]
  refine RP.blk 1 (pc' := 40) (lv' := [(0, .ref 72), (1, .int (nI n))]) (st' := [.int (if nI (n - 1) < nI bl then nI (n - 1) else nI bl)]) (H' := _) (kc' := 0) (ks' := 0) rfl ?_
  rw [show (if nI (n - 1) < nI bl then nI (n - 1) else nI bl : Int32) = nI (min (bl % 2 ^ 32) (n - 1)) from by rw [nI_m32 (a := bl) (b := bl % 2 ^ 32) (by omega)]; exact minI (a := bl % 2 ^ 32) (b := (n - 1)) (by omega) (by omega)]
  exact RP.done (c := 0) (s := 0) rfl rfl rfl rfl
/-- whether a part is written whole, and how much of it -/
def grN (pl : Option Nat) (bl n : Nat) : Nat := if pl = some 0 then min (bl % 2 ^ 32) (n - 1) else n
theorem ri_granted {sc : Nat × (Nat → Int32)} {n : Nat} {d B bl ov : Nat} {H : aH} {cf : Nat → Int8} {tf : Nat → Nat} {pl : Option Nat} (h : ChipAt H B cf tf pl bl ov) (hn1 : 1 ≤ n) (hn : n < 2 ^ 31) (hb : bl % 2 ^ 32 < 2 ^ 31) (hp : ∀ k, pl = some k → k < 2 ^ 31) : RI sc d mr_107 [.ref 72, .int (nI n)] H (fun x H' => x = nI (grN pl bl n) ∧ ChipAt H' B cf tf (plUp pl) bl ov ∧ ∀ a, ¬ (71 ≤ a ∧ a < 74) → H'[a]? = H[a]?) := by
  cases pl with
  | none => exact ⟨_, _, rc_granted0 h, rfl, h, fun _ _ => rfl⟩
  | some k =>
    cases k with
    | zero => exact ⟨_, _, rc_granted2 h hn1 hn hb, rfl, ⟨get_set h.1, (set_far (by decide)).trans h.2.1, (set_far (by decide)).trans h.2.2⟩, fun a ha => set_far (by omega)⟩
    | succ k => exact ⟨_, _, rc_granted1 h (hp _ rfl), rfl, ⟨get_set h.1, (set_far (by decide)).trans h.2.1, (set_far (by decide)).trans h.2.2⟩, fun a ha => set_far (by omega)⟩
theorem grN_le {pl : Option Nat} {bl n : Nat} (h : 1 ≤ n) : grN pl bl n ≤ n := by
  unfold grN
  split <;> omega
theorem rq_program {sc : Nat × (Nat → Int32)} {a na A i n : Nat} {d B bl ov : Nat} {H : aH} {cf : Nat → Int8} {tf : Nat → Nat} {pl : Option Nat} {g : Nat → Int8} (h : ChipAt H B cf tf pl bl ov) (h1 : H[a]? = some (kB na g)) (hna : na < 2 ^ 30) (ha : ¬ (71 ≤ a ∧ a < 74)) (hB : B ≤ 128) (hA : A / 2048 < B) (hn1 : 1 ≤ n) (hn : n ≤ 2048 - A % 2048) (hi : i + n ≤ na) (ht : tf (A / 2048) ≤ A % 2048) (hbl : bl % 2 ^ 32 < 2 ^ 31) (hp : ∀ k, pl = some k → k < 2 ^ 31) : (grN pl bl n = n ∧ RN sc (d + 1) mr_110 [.ref 72, .int (nI A), .ref (a + 1), .int (nI i), .int (nI n)] H (fun H' => ChipAt H' B (cpy g i cf A (grN pl bl n)) (va_up tf (A / 2048) (max (tf (A / 2048)) (A % 2048 + grN pl bl n))) (plUp pl) bl ov ∧ ∀ a, ¬ (71 ≤ a ∧ a < 74) → H'[a]? = H[a]?)) ∨ (grN pl bl n < n ∧ ∃ H', RC sc (d + 1) mr_110 [.ref 72, .int (nI A), .ref (a + 1), .int (nI i), .int (nI n)] H (.inr 1) H' 1 6 ∧ ChipAt H' B (cpy g i cf A (grN pl bl n)) (va_up tf (A / 2048) (max (tf (A / 2048)) (A % 2048 + grN pl bl n))) (plUp pl) bl ov ∧ ∀ a, ¬ (71 ≤ a ∧ a < 74) → H'[a]? = H[a]?) := by
  have key : RQ sc (d + 1) mr_110 0 (lv_args 0 [.ref 72, .int (nI A), .ref (a + 1), .int (nI i), .int (nI n)]) [] H 0 0 (fun r => ∃ H', r = (if grN pl bl n = n then ((.inl none : tO), H', 0, 0) else (.inr 1, H', 1, 6)) ∧ ChipAt H' B (cpy g i cf A (grN pl bl n)) (va_up tf (A / 2048) (max (tf (A / 2048)) (A % 2048 + grN pl bl n))) (plUp pl) bl ov ∧ ∀ a, ¬ (71 ≤ a ∧ a < 74) → H'[a]? = H[a]?) := by
    refine RQ.blk 3 (pc' := 5) (lv' := [(0, .ref 72), (1, .int (nI A)), (2, .ref (a + 1)), (3, .int (nI i)), (4, .int (nI n))]) (st' := [.int (nI A / 2048)]) (H' := _) (kc' := 0) (ks' := 0) rfl ?_
    rw [show (nI A / 2048 : Int32) = nI (A / 2048) from pk_div (a := A) (d := 2048) (by omega) (by omega) (by omega)]
    refine RQ.blk 4 (pc' := 12) (lv' := [(5, .int (nI (A / 2048))), (0, .ref 72), (1, .int (nI A)), (2, .ref (a + 1)), (3, .int (nI i)), (4, .int (nI n))]) (st' := [.int (nI A - nI A / 2048 * 2048)]) (H' := _) (kc' := 0) (ks' := 0) rfl ?_
    rw [show (nI A - nI A / 2048 * 2048 : Int32) = nI (A % 2048) from pk_rem (a := A) (d := 2048) (by omega) (by omega) (by omega)]
    refine RQ.blk 2 (pc' := 15) (lv' := [(6, .int (nI (A % 2048))), (5, .int (nI (A / 2048))), (0, .ref 72), (1, .int (nI A)), (2, .ref (a + 1)), (3, .int (nI i)), (4, .int (nI n))]) (st' := [.int (nI A)]) (H' := _) (kc' := 0) (ks' := 0) rfl ?_
    refine RQ.brF rfl rfl rfl (cF_lt A 0) ?_
    refine RQ.blk 2 (pc' := 21) (lv' := [(6, .int (nI (A % 2048))), (5, .int (nI (A / 2048))), (0, .ref 72), (1, .int (nI A)), (2, .ref (a + 1)), (3, .int (nI i)), (4, .int (nI n))]) (st' := [.ref 72, .int (nI (A / 2048))]) (H' := _) (kc' := 0) (ks' := 0) rfl ?_
    refine RQ.get (ci := 1) rfl h.1 rfl rfl ?_
    refine RQ.len rfl h.2.2 rfl ?_
    refine RQ.brF rfl rfl rfl (cF_ge (A / 2048) B) ?_
    refine RQ.blk 2 (pc' := 31) (lv' := [(6, .int (nI (A % 2048))), (5, .int (nI (A / 2048))), (0, .ref 72), (1, .int (nI A)), (2, .ref (a + 1)), (3, .int (nI i)), (4, .int (nI n))]) (st' := [.int 1, .int (nI n)]) (H' := _) (kc' := 0) (ks' := 0) rfl ?_
    refine RQ.brF rfl rfl rfl (cF_lt n 1) ?_
    refine RQ.blk 4 (pc' := 42) (lv' := [(6, .int (nI (A % 2048))), (5, .int (nI (A / 2048))), (0, .ref 72), (1, .int (nI A)), (2, .ref (a + 1)), (3, .int (nI i)), (4, .int (nI n))]) (st' := [.int (2048 - nI (A % 2048)), .int (nI n)]) (H' := _) (kc' := 0) (ks' := 0) rfl ?_
    rw [show (2048 - nI (A % 2048) : Int32) = nI (2048 - (A % 2048)) from pk_sub (a := 2048) (b := (A % 2048)) (by omega)]
    refine RQ.brT rfl rfl rfl (cT_le n (2048 - (A % 2048))) ?_
    refine RQ.blk 2 (pc' := 49) (lv' := [(6, .int (nI (A % 2048))), (5, .int (nI (A / 2048))), (0, .ref 72), (1, .int (nI A)), (2, .ref (a + 1)), (3, .int (nI i)), (4, .int (nI n))]) (st' := [.int (nI n), .ref 72]) (H' := _) (kc' := 0) (ks' := 0) rfl ?_
    refine RQ.callI (st' := []) rfl rfl rfl rfl rfl rfl (args_v [.int (nI n)] [] rfl rfl (Nat.le_of_ble_eq_true rfl) rfl h.1 (Nat.le_of_ble_eq_true rfl)) (ri_granted h hn1 (by omega) hbl hp) (fun x H1 hx => ?_)
    obtain ⟨rfl, h2, h3⟩ := hx
    have hg := grN_le (pl := pl) (bl := bl) hn1
    refine RQ.blk 3 (pc' := 56) (lv' := [(7, .int (nI (grN pl bl n))), (6, .int (nI (A % 2048))), (5, .int (nI (A / 2048))), (0, .ref 72), (1, .int (nI A)), (2, .ref (a + 1)), (3, .int (nI i)), (4, .int (nI n))]) (st' := [.ref 72, .ref 72]) (H' := _) (kc' := 0) (ks' := 0) rfl ?_
    refine RQ.get (ci := 1) rfl h2.1 rfl rfl ?_
    refine RQ.blk 2 (pc' := 61) (lv' := [(7, .int (nI (grN pl bl n))), (6, .int (nI (A % 2048))), (5, .int (nI (A / 2048))), (0, .ref 72), (1, .int (nI A)), (2, .ref (a + 1)), (3, .int (nI i)), (4, .int (nI n))]) (st' := [.ref 72, .int 0, .int (nI ov), .ref 72]) (H' := _) (kc' := 0) (ks' := 0) rfl ?_
    refine RQ.get (ci := 1) rfl h2.1 rfl rfl ?_
    refine RQ.blk 1 (pc' := 66) (lv' := [(7, .int (nI (grN pl bl n))), (6, .int (nI (A % 2048))), (5, .int (nI (A / 2048))), (0, .ref 72), (1, .int (nI A)), (2, .ref (a + 1)), (3, .int (nI i)), (4, .int (nI n))]) (st' := [.int (nI (A / 2048)), .ref 74, .int 0, .int (nI ov), .ref 72]) (H' := _) (kc' := 0) (ks' := 0) rfl ?_
    refine RQ.ialdN (j := A / 2048) rfl h2.2.2 (by omega) (by omega) ?_
    refine RQ.blk 5 (pc' := 78) (lv' := [(7, .int (nI (grN pl bl n))), (6, .int (nI (A % 2048))), (5, .int (nI (A / 2048))), (0, .ref 72), (1, .int (nI A)), (2, .ref (a + 1)), (3, .int (nI i)), (4, .int (nI n))]) (st' := [.int (if 0 < if nI (grN pl bl n) < nI (tf (A / 2048)) - nI (A % 2048) then nI (grN pl bl n) else nI (tf (A / 2048)) - nI (A % 2048) then if nI (grN pl bl n) < nI (tf (A / 2048)) - nI (A % 2048) then nI (grN pl bl n) else nI (tf (A / 2048)) - nI (A % 2048) else 0), .int (nI ov), .ref 72]) (H' := _) (kc' := 0) (ks' := 0) rfl ?_
    rw [ovl ht (by omega) (by omega)]
    refine RQ.blk 1 (pc' := 79) (lv' := [(7, .int (nI (grN pl bl n))), (6, .int (nI (A % 2048))), (5, .int (nI (A / 2048))), (0, .ref 72), (1, .int (nI A)), (2, .ref (a + 1)), (3, .int (nI i)), (4, .int (nI n))]) (st' := [.int (nI ov + 0), .ref 72]) (H' := _) (kc' := 0) (ks' := 0) rfl ?_
    rw [show (nI ov + 0 : Int32) = nI (ov + 0) from nI_add ov 0]
    refine RQ.put (ci := 1) rfl h2.1 rfl rfl (Nat.le_of_ble_eq_true rfl) ?_
    refine RQ.blk 3 (pc' := 85) (lv' := [(7, .int (nI (grN pl bl n))), (6, .int (nI (A % 2048))), (5, .int (nI (A / 2048))), (0, .ref 72), (1, .int (nI A)), (2, .ref (a + 1)), (3, .int (nI i)), (4, .int (nI n))]) (st' := [.ref 72, .int (nI i), .ref (a + 1)]) (H' := _) (kc' := 0) (ks' := 0) rfl ?_
    refine RQ.get (ci := 1) rfl (get_set h2.1) rfl rfl ?_
    refine RQ.blk 2 (pc' := 91) (lv' := [(7, .int (nI (grN pl bl n))), (6, .int (nI (A % 2048))), (5, .int (nI (A / 2048))), (0, .ref 72), (1, .int (nI A)), (2, .ref (a + 1)), (3, .int (nI i)), (4, .int (nI n))]) (st' := [.int (nI (grN pl bl n)), .int (nI A), .ref 73, .int (nI i), .ref (a + 1)]) (H' := _) (kc' := 0) (ks' := 0) rfl ?_
    refine RQ.call (v := none) (st' := []) rfl rfl rfl rfl rfl rfl rfl (rc_copy (k := grN pl bl n) ((set_far (by omega)).trans ((h3 a ha).trans h1)) ((set_far (by decide)).trans h2.2.1) (by omega) (by omega) (by omega) (by omega)) ?_
    refine RQ.blk 1 (pc' := 95) (lv' := [(7, .int (nI (grN pl bl n))), (6, .int (nI (A % 2048))), (5, .int (nI (A / 2048))), (0, .ref 72), (1, .int (nI A)), (2, .ref (a + 1)), (3, .int (nI i)), (4, .int (nI n))]) (st' := [.ref 72]) (H' := _) (kc' := 0) (ks' := 0) rfl ?_
    refine RQ.get (ci := 1) rfl ((set_far (by decide)).trans (get_set h2.1)) rfl rfl ?_
    refine RQ.blk 2 (pc' := 101) (lv' := [(7, .int (nI (grN pl bl n))), (6, .int (nI (A % 2048))), (5, .int (nI (A / 2048))), (0, .ref 72), (1, .int (nI A)), (2, .ref (a + 1)), (3, .int (nI i)), (4, .int (nI n))]) (st' := [.ref 72, .int (nI (A / 2048)), .ref 74]) (H' := _) (kc' := 0) (ks' := 0) rfl ?_
    refine RQ.get (ci := 1) rfl ((set_far (by decide)).trans (get_set h2.1)) rfl rfl ?_
    refine RQ.blk 1 (pc' := 106) (lv' := [(7, .int (nI (grN pl bl n))), (6, .int (nI (A % 2048))), (5, .int (nI (A / 2048))), (0, .ref 72), (1, .int (nI A)), (2, .ref (a + 1)), (3, .int (nI i)), (4, .int (nI n))]) (st' := [.int (nI (A / 2048)), .ref 74, .int (nI (A / 2048)), .ref 74]) (H' := _) (kc' := 0) (ks' := 0) rfl ?_
    refine RQ.ialdN (j := A / 2048) rfl ((set_far (by decide)).trans ((set_far (by decide)).trans h2.2.2)) (by omega) (by omega) ?_
    refine RQ.blk 3 (pc' := 112) (lv' := [(7, .int (nI (grN pl bl n))), (6, .int (nI (A % 2048))), (5, .int (nI (A / 2048))), (0, .ref 72), (1, .int (nI A)), (2, .ref (a + 1)), (3, .int (nI i)), (4, .int (nI n))]) (st' := [.int (nI (A % 2048) + nI (grN pl bl n)), .int (nI (tf (A / 2048))), .int (nI (A / 2048)), .ref 74]) (H' := _) (kc' := 0) (ks' := 0) rfl ?_
    rw [show (nI (A % 2048) + nI (grN pl bl n) : Int32) = nI (A % 2048 + (grN pl bl n)) from nI_add (A % 2048) (grN pl bl n)]
    refine RQ.blk 1 (pc' := 115) (lv' := [(7, .int (nI (grN pl bl n))), (6, .int (nI (A % 2048))), (5, .int (nI (A / 2048))), (0, .ref 72), (1, .int (nI A)), (2, .ref (a + 1)), (3, .int (nI i)), (4, .int (nI n))]) (st' := [.int (if nI (tf (A / 2048)) < nI (A % 2048 + (grN pl bl n)) then nI (A % 2048 + (grN pl bl n)) else nI (tf (A / 2048))), .int (nI (A / 2048)), .ref 74]) (H' := _) (kc' := 0) (ks' := 0) rfl ?_
    rw [show (if nI (tf (A / 2048)) < nI (A % 2048 + (grN pl bl n)) then nI (A % 2048 + (grN pl bl n)) else nI (tf (A / 2048)) : Int32) = nI (max (tf (A / 2048)) (A % 2048 + (grN pl bl n))) from maxI (a := (tf (A / 2048))) (b := (A % 2048 + (grN pl bl n))) (by omega) (by omega)]
    refine RQ.iastN (j := A / 2048) rfl ((set_far (by decide)).trans ((set_far (by decide)).trans h2.2.2)) (by omega) (by omega) ?_
    refine RQ.blk 2 (pc' := 120) (lv' := [(7, .int (nI (grN pl bl n))), (6, .int (nI (A % 2048))), (5, .int (nI (A / 2048))), (0, .ref 72), (1, .int (nI A)), (2, .ref (a + 1)), (3, .int (nI i)), (4, .int (nI n))]) (st' := [.int (nI n), .int (nI (grN pl bl n))]) (H' := _) (kc' := 0) (ks' := 0) rfl ?_
    by_cases he : grN pl bl n = n
    ·
      refine RQ.brT rfl rfl rfl (cT_ge (grN pl bl n) n) ?_
      exact RQ.done (c := 0) (s := 0) rfl rfl rfl rfl ⟨_, (if_pos he).symm, ⟨(set_far (by decide)).trans ((set_far (by decide)).trans (get_set h2.1)), (set_far (by decide)).trans (get_set ((set_far (by decide)).trans h2.2.1)), (get_set ((set_far (by decide)).trans ((set_far (by decide)).trans h2.2.2))).trans (congrArg (fun f => some (kI B f)) up_nI)⟩, fun a ha => ((set_far (by omega)).trans ((set_far (by omega)).trans (set_far (by omega)))).trans (h3 a ha)⟩
    ·
      refine RQ.brF rfl rfl rfl (cF_ge (grN pl bl n) n) ?_
      exact RQ.done (c := 1) (s := 6) rfl rfl rfl rfl ⟨_, (if_neg he).symm, ⟨(set_far (by decide)).trans ((set_far (by decide)).trans (get_set h2.1)), (set_far (by decide)).trans (get_set ((set_far (by decide)).trans h2.2.1)), (get_set ((set_far (by decide)).trans ((set_far (by decide)).trans h2.2.2))).trans (congrArg (fun f => some (kI B f)) up_nI)⟩, fun a ha => ((set_far (by omega)).trans ((set_far (by omega)).trans (set_far (by omega)))).trans (h3 a ha)⟩
  obtain ⟨r, k1, H', k2, k3, k4⟩ := key
  by_cases he : grN pl bl n = n
  · rw [if_pos he] at k2
    subst k2
    exact Or.inl ⟨he, H', k1, k3, k4⟩
  · rw [if_neg he] at k2
    subst k2
    exact Or.inr ⟨by have := grN_le (pl := pl) (bl := bl) hn1; omega, H', k1, k3, k4⟩
theorem rq_erase {sc : Nat × (Nat → Int32)} {b : Nat} {d B bl ov : Nat} {H : aH} {cf : Nat → Int8} {tf : Nat → Nat} {pl : Option Nat} (h : ChipAt H B cf tf pl bl ov) (hB : B ≤ 128) (hb : b < B) (hbl : bl % 2 ^ 32 < 2 ^ 31) (hp : ∀ k, pl = some k → k < 2 ^ 31) : (grN pl bl 2048 = 2048 ∧ RN sc (d + 2) mr_106 [.ref 72, .int (nI b)] H (fun H' => ChipAt H' B (fun q => if b * 2048 ≤ q ∧ q < b * 2048 + grN pl bl 2048 then -1 else cf q) (va_up tf b 0) (plUp pl) bl ov ∧ ∀ a, ¬ (71 ≤ a ∧ a < 74) → H'[a]? = H[a]?)) ∨ (grN pl bl 2048 < 2048 ∧ ∃ H', RC sc (d + 2) mr_106 [.ref 72, .int (nI b)] H (.inr 1) H' 1 6 ∧ ChipAt H' B (fun q => if b * 2048 ≤ q ∧ q < b * 2048 + grN pl bl 2048 then -1 else cf q) tf (plUp pl) bl ov ∧ ∀ a, ¬ (71 ≤ a ∧ a < 74) → H'[a]? = H[a]?) := by
  have key : RQ sc (d + 2) mr_106 0 (lv_args 0 [.ref 72, .int (nI b)]) [] H 0 0 (fun r => ∃ H', r = (if grN pl bl 2048 = 2048 then ((.inl none : tO), H', 0, 0) else (.inr 1, H', 1, 6)) ∧ ChipAt H' B (fun q => if b * 2048 ≤ q ∧ q < b * 2048 + grN pl bl 2048 then -1 else cf q) (if grN pl bl 2048 = 2048 then va_up tf b 0 else tf) (plUp pl) bl ov ∧ ∀ a, ¬ (71 ≤ a ∧ a < 74) → H'[a]? = H[a]?) := by
    refine RQ.blk 1 (pc' := 1) (lv' := [(0, .ref 72), (1, .int (nI b))]) (st' := [.int (nI b)]) (H' := _) (kc' := 0) (ks' := 0) rfl ?_
    refine RQ.brF rfl rfl rfl (cF_lt b 0) ?_
    refine RQ.blk 2 (pc' := 6) (lv' := [(0, .ref 72), (1, .int (nI b))]) (st' := [.ref 72, .int (nI b)]) (H' := _) (kc' := 0) (ks' := 0) rfl ?_
    refine RQ.get (ci := 1) rfl h.1 rfl rfl ?_
    refine RQ.len rfl h.2.2 rfl ?_
    refine RQ.brT rfl rfl rfl (cT_lt b B) ?_
    refine RQ.blk 2 (pc' := 18) (lv' := [(0, .ref 72), (1, .int (nI b))]) (st' := [.int 2048, .ref 72]) (H' := _) (kc' := 0) (ks' := 0) rfl ?_
    refine RQ.callI (st' := []) rfl rfl rfl rfl rfl rfl (args_v [.int 2048] [] rfl rfl (Nat.le_of_ble_eq_true rfl) rfl h.1 (Nat.le_of_ble_eq_true rfl)) (ri_granted h (n := 2048) (by decide) (by decide) hbl hp) (fun x H1 hx => ?_)
    obtain ⟨rfl, h2, h3⟩ := hx
    have hg := grN_le (pl := pl) (bl := bl) (n := 2048) (by decide)
    refine RQ.blk 2 (pc' := 23) (lv' := [(2, .int (nI (grN pl bl 2048))), (0, .ref 72), (1, .int (nI b))]) (st' := [.ref 72]) (H' := _) (kc' := 0) (ks' := 0) rfl ?_
    refine RQ.get (ci := 1) rfl h2.1 rfl rfl ?_
    refine RQ.blk 3 (pc' := 31) (lv' := [(2, .int (nI (grN pl bl 2048))), (0, .ref 72), (1, .int (nI b))]) (st' := [.int (nI b * 2048), .ref 73]) (H' := _) (kc' := 0) (ks' := 0) rfl ?_
    rw [show (nI b * 2048 : Int32) = nI (b * 2048) from pk_mul b 2048]
    refine RQ.blk 3 (pc' := 36) (lv' := [(2, .int (nI (grN pl bl 2048))), (0, .ref 72), (1, .int (nI b))]) (st' := [.int (nI b * 2048), .int (nI (b * 2048)), .ref 73]) (H' := _) (kc' := 0) (ks' := 0) rfl ?_
    rw [show (nI b * 2048 : Int32) = nI (b * 2048) from pk_mul b 2048]
    refine RQ.blk 2 (pc' := 38) (lv' := [(2, .int (nI (grN pl bl 2048))), (0, .ref 72), (1, .int (nI b))]) (st' := [.int (nI (b * 2048) + nI (grN pl bl 2048)), .int (nI (b * 2048)), .ref 73]) (H' := _) (kc' := 0) (ks' := 0) rfl ?_
    rw [show (nI (b * 2048) + nI (grN pl bl 2048) : Int32) = nI (b * 2048 + (grN pl bl 2048)) from nI_add (b * 2048) (grN pl bl 2048)]
    refine RQ.blk 1 (pc' := 39) (lv' := [(2, .int (nI (grN pl bl 2048))), (0, .ref 72), (1, .int (nI b))]) (st' := [.int (-1), .int (nI (b * 2048 + (grN pl bl 2048))), .int (nI (b * 2048)), .ref 73]) (H' := _) (kc' := 0) (ks' := 0) rfl ?_
    refine RQ.call (v := none) (st' := []) rfl rfl rfl rfl rfl rfl rfl (rc_fillR (v := -1) (k := grN pl bl 2048) h2.2.1 (by omega) (by omega)) ?_
    refine RQ.blk 2 (pc' := 46) (lv' := [(2, .int (nI (grN pl bl 2048))), (0, .ref 72), (1, .int (nI b))]) (st' := [.int 2048, .int (nI (grN pl bl 2048))]) (H' := _) (kc' := 0) (ks' := 0) rfl ?_
    by_cases he : grN pl bl 2048 = 2048
    ·
      refine RQ.brT rfl rfl rfl (cT_ge (grN pl bl 2048) 2048) ?_
      refine RQ.blk 1 (pc' := 60) (lv' := [(2, .int (nI (grN pl bl 2048))), (0, .ref 72), (1, .int (nI b))]) (st' := [.ref 72]) (H' := _) (kc' := 0) (ks' := 0) rfl ?_
      refine RQ.get (ci := 1) rfl ((set_far (by decide)).trans h2.1) rfl rfl ?_
      refine RQ.blk 2 (pc' := 65) (lv' := [(2, .int (nI (grN pl bl 2048))), (0, .ref 72), (1, .int (nI b))]) (st' := [.int 0, .int (nI b), .ref 74]) (H' := _) (kc' := 0) (ks' := 0) rfl ?_
      refine RQ.iastN (j := b) rfl ((set_far (by decide)).trans h2.2.2) (by omega) (by omega) ?_
      rw [if_pos he]
      exact RQ.done (c := 0) (s := 0) rfl rfl rfl rfl ⟨_, (if_pos he).symm, ⟨(set_far (by decide)).trans ((set_far (by decide)).trans h2.1), (set_far (by decide)).trans (get_set h2.2.1), (get_set ((set_far (by decide)).trans h2.2.2)).trans (congrArg (fun f => some (kI B f)) (up_nI (m := 0)))⟩, fun a ha => ((set_far (by omega)).trans (set_far (by omega))).trans (h3 a ha)⟩
    ·
      refine RQ.brF rfl rfl rfl (cF_ge (grN pl bl 2048) 2048) ?_
      rw [if_neg he]
      exact RQ.done (c := 1) (s := 6) rfl rfl rfl rfl ⟨_, (if_neg he).symm, ⟨(set_far (by decide)).trans h2.1, get_set h2.2.1, (set_far (by decide)).trans h2.2.2⟩, fun a ha => (set_far (by omega)).trans (h3 a ha)⟩
  obtain ⟨r, k1, H', k2, k3, k4⟩ := key
  by_cases he : grN pl bl 2048 = 2048
  · rw [if_pos he] at k2 k3
    subst k2
    exact Or.inl ⟨he, H', k1, k3, k4⟩
  · rw [if_neg he] at k2 k3
    subst k2
    exact Or.inr ⟨by have := grN_le (pl := pl) (bl := bl) (n := 2048) (by decide); omega, H', k1, k3, k4⟩
theorem rc_disarm {sc : Nat × (Nat → Int32)} {d B bl ov : Nat} {H : aH} {cf : Nat → Int8} {tf : Nat → Nat} {pl : Option Nat} (h : ChipAt H B cf tf pl bl ov) : RC sc d mr_154 [.ref 72] H (.inl none) (H.set 71 (kO 1 [.ref 73, .ref 74, .int (lI none), .int (nI bl), .int (nI ov)])) 0 0 := by
  refine RP.blk 2 (pc' := 2) (lv' := [(0, .ref 72)]) (st' := [.int (-1), .ref 72]) (H' := _) (kc' := 0) (ks' := 0) rfl ?_
  refine RP.put (ci := 1) rfl h.1 rfl rfl (Nat.le_of_ble_eq_true rfl) ?_
  exact RP.done (c := 0) (s := 0) rfl rfl rfl rfl
theorem rc_arm {sc : Nat × (Nat → Int32)} {k m : Nat} {d B bl ov : Nat} {H : aH} {cf : Nat → Int8} {tf : Nat → Nat} {pl : Option Nat} (h : ChipAt H B cf tf pl bl ov) : RC sc d mr_95 [.ref 72, .int (nI k), .int (nI m)] H (.inl none) (H.set 71 (kO 1 [.ref 73, .ref 74, .int (nI k), .int (nI m), .int (nI ov)])) 0 0 := by
  refine RP.blk 2 (pc' := 2) (lv' := [(0, .ref 72), (1, .int (nI k)), (2, .int (nI m))]) (st' := [.int (nI k), .ref 72]) (H' := _) (kc' := 0) (ks' := 0) rfl ?_
  refine RP.put (ci := 1) rfl h.1 rfl rfl (Nat.le_of_ble_eq_true rfl) ?_
  refine RP.blk 2 (pc' := 7) (lv' := [(0, .ref 72), (1, .int (nI k)), (2, .int (nI m))]) (st' := [.int (nI m), .ref 72]) (H' := _) (kc' := 0) (ks' := 0) rfl ?_
  refine RP.put (ci := 1) rfl (get_set h.1) rfl rfl (Nat.le_of_ble_eq_true rfl) ?_
  rw [set_set]
  exact RP.done (c := 0) (s := 0) rfl rfl rfl rfl
/-- the upper half of bl tells whether a cut is armed; then its number is smaller than that by two at least -/
def PQ (bl : Nat) (pq : Option Nat) : Prop := (∀ k, pq = some k → k < 2 ^ 31) ∧ (bl / 2 ^ 32 ≠ 0 → ∃ k, pq = some k ∧ k + 1 < bl / 2 ^ 32) ∧ (bl / 2 ^ 32 = 0 → pq = none)
/-- the power failed: a cut was armed -/
def ChipDn (H : aH) (B : Nat) (cf : Nat → Int8) (tf : Nat → Nat) (bl : Nat) : Prop := ChipAt H B cf tf none bl 0 ∧ bl / 2 ^ 32 ≠ 0
theorem ChipDn.far {H H' : aH} {B : Nat} {cf : Nat → Int8} {tf : Nat → Nat} {bl : Nat} (h : ChipDn H B cf tf bl) (hs : ∀ a, 71 ≤ a → a < 74 → H'[a]? = H[a]?) : ChipDn H' B cf tf bl := ⟨⟨(hs _ (by omega) (by omega)).trans h.1.1, (hs _ (by omega) (by omega)).trans h.1.2.1, (hs _ (by omega) (by omega)).trans h.1.2.2⟩, h.2⟩
theorem pl_dn {H : aH} {B bl n : Nat} {cf : Nat → Int8} {tf : Nat → Nat} {pl : Option Nat} (hp : PQ bl pl) (g : grN pl bl n < n) (h : ChipAt H B cf tf (plUp pl) bl 0) : ChipDn H B cf tf bl := by
  cases pl with
  | none => exact absurd (show n < n from g) (Nat.lt_irrefl n)
  | some k =>
    cases k with
    | zero => exact ⟨h, fun e => Option.some_ne_none _ (hp.2.2 e)⟩
    | succ k => exact absurd (show n < n from g) (Nat.lt_irrefl n)
def dk (b : Nat) : Nat := if 2 ^ 33 ≤ b then b - 2 ^ 32 else b
def dkN : Nat → Nat → Nat
  | 0, b => b
  | n + 1, b => dk (dkN n b)
theorem dk_mod (b : Nat) : dk b % 2 ^ 32 = b % 2 ^ 32 := by
  unfold dk
  split <;> omega
theorem dk_div (b : Nat) : dk b / 2 ^ 32 ≤ b / 2 ^ 32 ∧ (b / 2 ^ 32 ≠ 0 → dk b / 2 ^ 32 ≠ 0) := by
  unfold dk
  split <;> omega
theorem dkN_mod : ∀ (n b : Nat), dkN n b % 2 ^ 32 = b % 2 ^ 32
  | 0, _ => rfl
  | n + 1, b => (dk_mod _).trans (dkN_mod n b)
theorem dkN_div : ∀ (n b : Nat), dkN n b / 2 ^ 32 ≤ b / 2 ^ 32 ∧ (b / 2 ^ 32 ≠ 0 → dkN n b / 2 ^ 32 ≠ 0)
  | 0, _ => ⟨Nat.le_refl _, id⟩
  | n + 1, b => ⟨Nat.le_trans (dk_div _).1 (dkN_div n b).1, fun h => (dk_div _).2 ((dkN_div n b).2 h)⟩
theorem dkN_sub : ∀ (n b : Nat), n + 1 ≤ b / 2 ^ 32 → dkN n b = b - 2 ^ 32 * n
  | 0, _, _ => rfl
  | n + 1, b, h => by
    show dk (dkN n b) = _
    rw [dkN_sub n b (by omega)]
    unfold dk
    rw [if_pos (by omega)]
    omega
theorem PQ.le {b b' : Nat} {pq : Option Nat} (h : PQ b pq) (h1 : b / 2 ^ 32 ≤ b' / 2 ^ 32) (h2 : b' / 2 ^ 32 ≠ 0 → b / 2 ^ 32 ≠ 0) : PQ b' pq := ⟨h.1, fun e => by
  obtain ⟨k, k1, k2⟩ := h.2.1 (h2 e)
  exact ⟨k, k1, by omega⟩, fun e => h.2.2 (by omega)⟩
theorem PQ.un {n b : Nat} {pq : Option Nat} (h : PQ (dkN n b) pq) : PQ b pq := h.le (dkN_div n b).1 (dkN_div n b).2
theorem ChipAt.bb {H : aH} {B : Nat} {cf : Nat → Int8} {tf : Nat → Nat} {pl : Option Nat} {bl bl' ov : Nat} (h : ChipAt H B cf tf pl bl ov) (e : bl % 2 ^ 32 = bl' % 2 ^ 32) : ChipAt H B cf tf pl bl' ov := by
  unfold ChipAt at h ⊢
  rw [nI_m32 e.symm]
  exact h
theorem plUp_dk {pl : Option Nat} {bl n : Nat} (g : grN pl bl n = n) (hn : 1 ≤ n) (h : PQ bl pl) : PQ (dk bl) (plUp pl) := by
  have hd : dk bl / 2 ^ 32 ≠ 0 → bl / 2 ^ 32 ≠ 0 := fun e => by have := (dk_div bl).1; omega
  cases pl with
  | none => exact ⟨fun k hk => (Option.some_ne_none k hk.symm).elim, fun e => by
      obtain ⟨k, k1, k2⟩ := h.2.1 (hd e)
      exact (Option.some_ne_none k k1.symm).elim, fun _ => rfl⟩
  | some k =>
    cases k with
    | zero =>
      have : min (bl % 2 ^ 32) (n - 1) = n := g
      omega
    | succ k =>
      refine ⟨fun k' hk => ?_, fun e => ?_, fun e => ?_⟩
      · have e1 : k = k' := Option.some.inj hk
        have := h.1 (k + 1) rfl
        omega
      · obtain ⟨k', k1, k2⟩ := h.2.1 (hd e)
        have e1 : k + 1 = k' := Option.some.inj k1
        refine ⟨k, rfl, ?_⟩
        unfold dk
        rw [if_pos (by omega)]
        omega
      · have h0 : bl / 2 ^ 32 = 0 := by
          by_cases q : bl / 2 ^ 32 = 0
          · exact q
          · exact absurd e ((dk_div bl).2 q)
        exact absurd (h.2.2 h0) (Option.some_ne_none _)
theorem plUp_lt {pl : Option Nat} {bl n : Nat} (g : grN pl bl n = n) (hn : 1 ≤ n) (h : PQ bl pl) : PQ bl (plUp pl) := (plUp_dk g hn h).le (dk_div bl).1 (dk_div bl).2
