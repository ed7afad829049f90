/-! ===== the last whole state of a block; class; written by wip/gen/lasts.py ===== -/
/-- the length that a state tells -/
def stN (c : Nat → Int8) (a : Nat) : Nat := beN 0 (sl c (a + 1) 2)
/-- a whole state lies at this offset of the block m -/
def wholeS (c : Nat → Int8) (m o : Nat) : Bool := decide (o + 13 ≤ 2048) && decide (ub (c (m * 2048 + o)) = 83) && decide (13 ≤ stN c (m * 2048 + o)) && decide (stN c (m * 2048 + o) ≤ 2048 - o) && decide (ub (c (m * 2048 + o + stN c (m * 2048 + o) - 1)) = 90)
def lastF (c : Nat → Int8) (m : Nat) : Nat → Nat → Option Nat → Option Nat
  | 0, _, l => l
  | k + 1, o, l => if ub (c (m * 2048)) = 77 ∧ wholeS c m o = true then lastF c m k (o + stN c (m * 2048 + o)) (some (m * 2048 + o)) else l
set_option maxRecDepth 20000 in
theorem rc_lastState {sc : Nat × (Nat → Int32)} {d m : Nat} {H : aH} {yf : List Value} {B : Nat} {cf : Nat → Int8} {tf : Nat → Nat} {pq : Option Nat} {bb : Nat} (hY : H[83]? = some (kO 3 yf)) (hyc : yf[0]? = some (.ref 72)) (hC : ChipAt H B cf tf pq bb 0) (hB : B ≤ 128) (hB3 : 3 ≤ B) (hm : m < 2) : RC sc (d + 1) mr_181 [.ref 84, .int (nI m)] H (.inl (some (.int (lI (lastF cf m 2048 5 none))))) H 0 0 := by
  refine RC.of ?_
  refine RQ.blk 6 (pc' := 7) (lv' := [(4, .int 0), (3, .int 5), (2, .int (-1)), (0, .ref 84), (1, .int (nI m))]) (st' := []) (H' := _) (kc' := 0) (ks' := 0) rfl ?_
  refine RQ.while (S := Nat × Nat × Option Nat) (pc := 7) (fun s H' => H' = H ∧ s.1 ≤ 2048 ∧ s.2.1 ≤ 2048 ∧ (∀ x, s.2.2 = some x → x < 2 ^ 30) ∧ lastF cf m (2048 - s.1) s.2.1 s.2.2 = lastF cf m 2048 5 none) (fun s => [(4, .int (nI s.1)), (3, .int (nI s.2.1)), (2, .int (lI s.2.2)), (0, .ref 84), (1, .int (nI m))]) (fun s => 2048 - s.1) ?_ (0, 5, none) H ⟨rfl, by decide, by decide, fun x hx => (by cases hx), rfl⟩
  rintro ⟨i, o, l⟩ H1 ⟨rfl, h1, h2, hl, h3⟩ ih
  have h1 : i ≤ 2048 := h1
  have h2 : o ≤ 2048 := h2
  have h3 : lastF cf m (2048 - i) o l = lastF cf m 2048 5 none := h3
  have ub1 := ub_lt (cf (m * 2048))
  have ub2 := ub_lt (cf (m * 2048 + o))
  have ub3 := ub_lt (cf (m * 2048 + o + stN cf (m * 2048 + o) - 1))
  refine RQ.blk 2 (pc' := 12) (lv' := [(4, .int (nI i)), (3, .int (nI o)), (2, .int (lI l)), (0, .ref 84), (1, .int (nI m))]) (st' := [.int 2048, .int (nI i)]) (H' := _) (kc' := 0) (ks' := 0) rfl ?_
  by_cases hi : i < 2048
  · refine RQ.brF rfl rfl rfl (cF_ge i 2048) ?_
    refine RQ.blk 1 (pc' := 16) (lv' := [(4, .int (nI i)), (3, .int (nI o)), (2, .int (lI l)), (0, .ref 84), (1, .int (nI m))]) (st' := [.ref 84]) (H' := _) (kc' := 0) (ks' := 0) rfl ?_
    refine RQ.get (ci := 3) rfl hY rfl hyc ?_
    refine RQ.blk 3 (pc' := 24) (lv' := [(4, .int (nI i)), (3, .int (nI o)), (2, .int (lI l)), (0, .ref 84), (1, .int (nI m))]) (st' := [.int (nI m * 2048), .ref 72]) (H' := _) (kc' := 0) (ks' := 0) rfl ?_
    rw [show (nI m * 2048 : Int32) = nI (m * 2048) from pk_mul m 2048]
    refine RQ.call (v := some (.int (nI (ub (cf (m * 2048)))))) (st' := []) rfl rfl rfl rfl rfl rfl (args_v [.int (nI (m * 2048))] [] rfl rfl (Nat.le_of_ble_eq_true rfl) rfl hC.1 (Nat.le_of_ble_eq_true rfl)) (rc_cat (i := m * 2048) hC.1 rfl hC.2.1 (by omega) (by omega)) ?_
    refine RQ.blk 1 (pc' := 29) (lv' := [(4, .int (nI i)), (3, .int (nI o)), (2, .int (lI l)), (0, .ref 84), (1, .int (nI m))]) (st' := [.int 77, .int (nI (ub (cf (m * 2048))))]) (H' := _) (kc' := 0) (ks' := 0) rfl ?_
    by_cases w0 : ub (cf (m * 2048)) = 77
    · refine RQ.brF rfl rfl rfl (cF_ne (ub (cf (m * 2048))) 77) ?_
      refine RQ.blk 3 (pc' := 37) (lv' := [(4, .int (nI i)), (3, .int (nI o)), (2, .int (lI l)), (0, .ref 84), (1, .int (nI m))]) (st' := [.int (nI m * 2048)]) (H' := _) (kc' := 0) (ks' := 0) rfl ?_
      rw [show (nI m * 2048 : Int32) = nI (m * 2048) from pk_mul m 2048]
      refine RQ.blk 2 (pc' := 39) (lv' := [(4, .int (nI i)), (3, .int (nI o)), (2, .int (lI l)), (0, .ref 84), (1, .int (nI m))]) (st' := [.int (nI (m * 2048) + nI o)]) (H' := _) (kc' := 0) (ks' := 0) rfl ?_
      rw [show (nI (m * 2048) + nI o : Int32) = nI (m * 2048 + o) from nI_add (m * 2048) o]
      refine RQ.blk 2 (pc' := 42) (lv' := [(5, .int (nI (m * 2048 + o))), (4, .int (nI i)), (3, .int (nI o)), (2, .int (lI l)), (0, .ref 84), (1, .int (nI m))]) (st' := [.ref 84]) (H' := _) (kc' := 0) (ks' := 0) rfl ?_
      refine RQ.get (ci := 3) rfl hY rfl hyc ?_
      refine RQ.blk 3 (pc' := 49) (lv' := [(5, .int (nI (m * 2048 + o))), (4, .int (nI i)), (3, .int (nI o)), (2, .int (lI l)), (0, .ref 84), (1, .int (nI m))]) (st' := [.int (nI (m * 2048 + o) + 1), .ref 72]) (H' := _) (kc' := 0) (ks' := 0) rfl ?_
      rw [show (nI (m * 2048 + o) + 1 : Int32) = nI (m * 2048 + o + 1) from nI_add (m * 2048 + o) 1]
      refine RQ.blk 1 (pc' := 50) (lv' := [(5, .int (nI (m * 2048 + o))), (4, .int (nI i)), (3, .int (nI o)), (2, .int (lI l)), (0, .ref 84), (1, .int (nI m))]) (st' := [.int 2, .int (nI (m * 2048 + o + 1)), .ref 72]) (H' := _) (kc' := 0) (ks' := 0) rfl ?_
      refine RQ.call (v := some (.int (numI cf (m * 2048 + o + 1) 2 0))) (st' := []) rfl rfl rfl rfl rfl rfl (args_v [.int 2, .int (nI (m * 2048 + o + 1))] [] rfl rfl (Nat.le_of_ble_eq_true rfl) rfl hC.1 (Nat.le_of_ble_eq_true rfl)) (rc_cnum (i := m * 2048 + o + 1) (k := 2) hC.1 rfl hC.2.1 (by omega) (by omega)) ?_
      rw [show numI cf (m * 2048 + o + 1) 2 0 = nI (stN cf (m * 2048 + o)) by rw [show (0 : Int32) = nI 0 from rfl, numI_be _ _ _ (by have := beN2_lt (f := cf) (i := m * 2048 + o + 1); omega)]; rfl]
      have hsn : stN cf (m * 2048 + o) < 65536 := beN2_lt
      refine RQ.blk 4 (pc' := 59) (lv' := [(6, .int (nI (stN cf (m * 2048 + o)))), (5, .int (nI (m * 2048 + o))), (4, .int (nI i)), (3, .int (nI o)), (2, .int (lI l)), (0, .ref 84), (1, .int (nI m))]) (st' := [.int (nI o + 13)]) (H' := _) (kc' := 0) (ks' := 0) rfl ?_
      rw [show (nI o + 13 : Int32) = nI (o + 13) from nI_add o 13]
      refine RQ.blk 1 (pc' := 62) (lv' := [(6, .int (nI (stN cf (m * 2048 + o)))), (5, .int (nI (m * 2048 + o))), (4, .int (nI i)), (3, .int (nI o)), (2, .int (lI l)), (0, .ref 84), (1, .int (nI m))]) (st' := [.int 2048, .int (nI (o + 13))]) (H' := _) (kc' := 0) (ks' := 0) rfl ?_
      by_cases w1 : o + 13 ≤ 2048
      · refine RQ.brF rfl rfl rfl (cF_gt (o + 13) 2048) ?_
        refine RQ.blk 1 (pc' := 66) (lv' := [(6, .int (nI (stN cf (m * 2048 + o)))), (5, .int (nI (m * 2048 + o))), (4, .int (nI i)), (3, .int (nI o)), (2, .int (lI l)), (0, .ref 84), (1, .int (nI m))]) (st' := [.ref 84]) (H' := _) (kc' := 0) (ks' := 0) rfl ?_
        refine RQ.get (ci := 3) rfl hY rfl hyc ?_
        refine RQ.blk 1 (pc' := 71) (lv' := [(6, .int (nI (stN cf (m * 2048 + o)))), (5, .int (nI (m * 2048 + o))), (4, .int (nI i)), (3, .int (nI o)), (2, .int (lI l)), (0, .ref 84), (1, .int (nI m))]) (st' := [.int (nI (m * 2048 + o)), .ref 72]) (H' := _) (kc' := 0) (ks' := 0) rfl ?_
        refine RQ.call (v := some (.int (nI (ub (cf (m * 2048 + o)))))) (st' := []) rfl rfl rfl rfl rfl rfl (args_v [.int (nI (m * 2048 + o))] [] rfl rfl (Nat.le_of_ble_eq_true rfl) rfl hC.1 (Nat.le_of_ble_eq_true rfl)) (rc_cat (i := m * 2048 + o) hC.1 rfl hC.2.1 (by omega) (by omega)) ?_
        refine RQ.blk 1 (pc' := 76) (lv' := [(6, .int (nI (stN cf (m * 2048 + o)))), (5, .int (nI (m * 2048 + o))), (4, .int (nI i)), (3, .int (nI o)), (2, .int (lI l)), (0, .ref 84), (1, .int (nI m))]) (st' := [.int 83, .int (nI (ub (cf (m * 2048 + o))))]) (H' := _) (kc' := 0) (ks' := 0) rfl ?_
        by_cases w2 : ub (cf (m * 2048 + o)) = 83
        · refine RQ.brF rfl rfl rfl (cF_ne (ub (cf (m * 2048 + o))) 83) ?_
          refine RQ.blk 2 (pc' := 83) (lv' := [(6, .int (nI (stN cf (m * 2048 + o)))), (5, .int (nI (m * 2048 + o))), (4, .int (nI i)), (3, .int (nI o)), (2, .int (lI l)), (0, .ref 84), (1, .int (nI m))]) (st' := [.int 13, .int (nI (stN cf (m * 2048 + o)))]) (H' := _) (kc' := 0) (ks' := 0) rfl ?_
          by_cases w3 : 13 ≤ stN cf (m * 2048 + o)
          · refine RQ.brF rfl rfl rfl (cF_lt (stN cf (m * 2048 + o)) 13) ?_
            refine RQ.blk 4 (pc' := 93) (lv' := [(6, .int (nI (stN cf (m * 2048 + o)))), (5, .int (nI (m * 2048 + o))), (4, .int (nI i)), (3, .int (nI o)), (2, .int (lI l)), (0, .ref 84), (1, .int (nI m))]) (st' := [.int (2048 - nI o), .int (nI (stN cf (m * 2048 + o)))]) (H' := _) (kc' := 0) (ks' := 0) rfl ?_
            rw [show (2048 - nI o : Int32) = nI (2048 - o) from pk_sub (a := 2048) (b := o) (by omega)]
            by_cases w4 : stN cf (m * 2048 + o) ≤ 2048 - o
            · refine RQ.brF rfl rfl rfl (cF_gt (stN cf (m * 2048 + o)) (2048 - o)) ?_
              refine RQ.blk 1 (pc' := 97) (lv' := [(6, .int (nI (stN cf (m * 2048 + o)))), (5, .int (nI (m * 2048 + o))), (4, .int (nI i)), (3, .int (nI o)), (2, .int (lI l)), (0, .ref 84), (1, .int (nI m))]) (st' := [.ref 84]) (H' := _) (kc' := 0) (ks' := 0) rfl ?_
              refine RQ.get (ci := 3) rfl hY rfl hyc ?_
              refine RQ.blk 3 (pc' := 105) (lv' := [(6, .int (nI (stN cf (m * 2048 + o)))), (5, .int (nI (m * 2048 + o))), (4, .int (nI i)), (3, .int (nI o)), (2, .int (lI l)), (0, .ref 84), (1, .int (nI m))]) (st' := [.int (nI (m * 2048 + o) + nI (stN cf (m * 2048 + o))), .ref 72]) (H' := _) (kc' := 0) (ks' := 0) rfl ?_
              rw [show (nI (m * 2048 + o) + nI (stN cf (m * 2048 + o)) : Int32) = nI (m * 2048 + o + (stN cf (m * 2048 + o))) from nI_add (m * 2048 + o) (stN cf (m * 2048 + o))]
              refine RQ.blk 2 (pc' := 107) (lv' := [(6, .int (nI (stN cf (m * 2048 + o)))), (5, .int (nI (m * 2048 + o))), (4, .int (nI i)), (3, .int (nI o)), (2, .int (lI l)), (0, .ref 84), (1, .int (nI m))]) (st' := [.int (nI (m * 2048 + o + (stN cf (m * 2048 + o))) - 1), .ref 72]) (H' := _) (kc' := 0) (ks' := 0) rfl ?_
              rw [show (nI (m * 2048 + o + (stN cf (m * 2048 + o))) - 1 : Int32) = nI ((m * 2048 + o + (stN cf (m * 2048 + o))) - 1) from pk_sub (a := (m * 2048 + o + (stN cf (m * 2048 + o)))) (b := 1) (by omega)]
              refine RQ.call (v := some (.int (nI (ub (cf (m * 2048 + o + stN cf (m * 2048 + o) - 1)))))) (st' := []) rfl rfl rfl rfl rfl rfl (args_v [.int (nI ((m * 2048 + o + (stN cf (m * 2048 + o))) - 1))] [] rfl rfl (Nat.le_of_ble_eq_true rfl) rfl hC.1 (Nat.le_of_ble_eq_true rfl)) (rc_cat (i := m * 2048 + o + stN cf (m * 2048 + o) - 1) hC.1 rfl hC.2.1 (by omega) (by omega)) ?_
              refine RQ.blk 1 (pc' := 112) (lv' := [(6, .int (nI (stN cf (m * 2048 + o)))), (5, .int (nI (m * 2048 + o))), (4, .int (nI i)), (3, .int (nI o)), (2, .int (lI l)), (0, .ref 84), (1, .int (nI m))]) (st' := [.int 90, .int (nI (ub (cf (m * 2048 + o + stN cf (m * 2048 + o) - 1))))]) (H' := _) (kc' := 0) (ks' := 0) rfl ?_
              by_cases w5 : ub (cf (m * 2048 + o + stN cf (m * 2048 + o) - 1)) = 90
              · refine RQ.brT rfl rfl rfl (cT_eq (ub (cf (m * 2048 + o + stN cf (m * 2048 + o) - 1))) 90) ?_
                refine RQ.blk 5 (pc' := 125) (lv' := [(2, .int (nI (m * 2048 + o))), (6, .int (nI (stN cf (m * 2048 + o)))), (5, .int (nI (m * 2048 + o))), (4, .int (nI i)), (3, .int (nI o)), (0, .ref 84), (1, .int (nI m))]) (st' := [.int (nI o + nI (stN cf (m * 2048 + o)))]) (H' := _) (kc' := 0) (ks' := 0) rfl ?_
                rw [show (nI o + nI (stN cf (m * 2048 + o)) : Int32) = nI (o + (stN cf (m * 2048 + o))) from nI_add o (stN cf (m * 2048 + o))]
                refine RQ.blk 2 (pc' := 129) (lv' := [(4, .int (nI i + 1)), (3, .int (nI (o + (stN cf (m * 2048 + o))))), (2, .int (nI (m * 2048 + o))), (6, .int (nI (stN cf (m * 2048 + o)))), (5, .int (nI (m * 2048 + o))), (0, .ref 84), (1, .int (nI m))]) (st' := []) (H' := _) (kc' := 0) (ks' := 0) rfl ?_
                rw [show (nI i + 1 : Int32) = nI (i + 1) from nI_add i 1]
                refine RQ.blk 1 (pc' := 7) (lv' := [(4, .int (nI (i + 1))), (3, .int (nI (o + (stN cf (m * 2048 + o))))), (2, .int (nI (m * 2048 + o))), (6, .int (nI (stN cf (m * 2048 + o)))), (5, .int (nI (m * 2048 + o))), (0, .ref 84), (1, .int (nI m))]) (st' := []) (H' := _) (kc' := 0) (ks' := 0) rfl ?_
                refine RQ.pick (a := [(4, .int (nI (i + 1))), (3, .int (nI (o + (stN cf (m * 2048 + o))))), (2, .int (nI (m * 2048 + o))), (0, .ref 84), (1, .int (nI m))]) [0, 1, 2, 5, 6] [4, 3, 2, 6, 5, 0, 1] rfl rfl (by decide) ?_
                refine ih (i + 1, o + stN cf (m * 2048 + o), some (m * 2048 + o)) H1 ⟨rfl, by show i + 1 ≤ 2048; omega, by show o + stN cf (m * 2048 + o) ≤ 2048; omega, fun x hx => by have := Option.some.inj hx; omega, ?_⟩ (by show 2048 - (i + 1) < 2048 - i; omega)
                rw [show 2048 - i = (2048 - (i + 1)) + 1 by omega, lastF, if_pos ⟨w0, by unfold wholeS; rw [decide_eq_true w1, decide_eq_true w2, decide_eq_true w3, decide_eq_true w4, decide_eq_true w5]; rfl⟩] at h3
                exact h3
              · rw [show 2048 - i = (2048 - i - 1) + 1 by omega, lastF, if_neg (fun e => absurd e.2 (by unfold wholeS; rw [decide_eq_false w5]; simp))] at h3
                rw [← h3]
                refine RQ.brF rfl rfl rfl (cF_eq (ub (cf (m * 2048 + o + stN cf (m * 2048 + o) - 1))) 90) ?_
                refine RQ.blk 2 (pc' := 133) (lv' := [(6, .int (nI (stN cf (m * 2048 + o)))), (5, .int (nI (m * 2048 + o))), (4, .int (nI i)), (3, .int (nI o)), (2, .int (lI l)), (0, .ref 84), (1, .int (nI m))]) (st' := [.int (lI l)]) (H' := _) (kc' := 0) (ks' := 0) rfl ?_
                exact RQ.done (c := 0) (s := 0) rfl rfl rfl rfl rfl
            · rw [show 2048 - i = (2048 - i - 1) + 1 by omega, lastF, if_neg (fun e => absurd e.2 (by unfold wholeS; rw [decide_eq_false w4]; simp))] at h3
              rw [← h3]
              refine RQ.brT rfl rfl rfl (cT_gt (stN cf (m * 2048 + o)) (2048 - o)) ?_
              refine RQ.blk 1 (pc' := 133) (lv' := [(6, .int (nI (stN cf (m * 2048 + o)))), (5, .int (nI (m * 2048 + o))), (4, .int (nI i)), (3, .int (nI o)), (2, .int (lI l)), (0, .ref 84), (1, .int (nI m))]) (st' := [.int (lI l)]) (H' := _) (kc' := 0) (ks' := 0) rfl ?_
              exact RQ.done (c := 0) (s := 0) rfl rfl rfl rfl rfl
          · rw [show 2048 - i = (2048 - i - 1) + 1 by omega, lastF, if_neg (fun e => absurd e.2 (by unfold wholeS; rw [decide_eq_false w3]; simp))] at h3
            rw [← h3]
            refine RQ.brT rfl rfl rfl (cT_lt (stN cf (m * 2048 + o)) 13) ?_
            refine RQ.blk 1 (pc' := 133) (lv' := [(6, .int (nI (stN cf (m * 2048 + o)))), (5, .int (nI (m * 2048 + o))), (4, .int (nI i)), (3, .int (nI o)), (2, .int (lI l)), (0, .ref 84), (1, .int (nI m))]) (st' := [.int (lI l)]) (H' := _) (kc' := 0) (ks' := 0) rfl ?_
            exact RQ.done (c := 0) (s := 0) rfl rfl rfl rfl rfl
        · rw [show 2048 - i = (2048 - i - 1) + 1 by omega, lastF, if_neg (fun e => absurd e.2 (by unfold wholeS; rw [decide_eq_false w2]; simp))] at h3
          rw [← h3]
          refine RQ.brT rfl rfl rfl (cT_ne (ub (cf (m * 2048 + o))) 83) ?_
          refine RQ.blk 1 (pc' := 133) (lv' := [(6, .int (nI (stN cf (m * 2048 + o)))), (5, .int (nI (m * 2048 + o))), (4, .int (nI i)), (3, .int (nI o)), (2, .int (lI l)), (0, .ref 84), (1, .int (nI m))]) (st' := [.int (lI l)]) (H' := _) (kc' := 0) (ks' := 0) rfl ?_
          exact RQ.done (c := 0) (s := 0) rfl rfl rfl rfl rfl
      · rw [show 2048 - i = (2048 - i - 1) + 1 by omega, lastF, if_neg (fun e => absurd e.2 (by unfold wholeS; rw [decide_eq_false w1]; simp))] at h3
        rw [← h3]
        refine RQ.brT rfl rfl rfl (cT_gt (o + 13) 2048) ?_
        refine RQ.blk 1 (pc' := 133) (lv' := [(6, .int (nI (stN cf (m * 2048 + o)))), (5, .int (nI (m * 2048 + o))), (4, .int (nI i)), (3, .int (nI o)), (2, .int (lI l)), (0, .ref 84), (1, .int (nI m))]) (st' := [.int (lI l)]) (H' := _) (kc' := 0) (ks' := 0) rfl ?_
        exact RQ.done (c := 0) (s := 0) rfl rfl rfl rfl rfl
    · rw [show 2048 - i = (2048 - i - 1) + 1 by omega, lastF, if_neg (fun e => w0 e.1)] at h3
      rw [← h3]
      refine RQ.brT rfl rfl rfl (cT_ne (ub (cf (m * 2048))) 77) ?_
      refine RQ.blk 1 (pc' := 133) (lv' := [(4, .int (nI i)), (3, .int (nI o)), (2, .int (lI l)), (0, .ref 84), (1, .int (nI m))]) (st' := [.int (lI l)]) (H' := _) (kc' := 0) (ks' := 0) rfl ?_
      exact RQ.done (c := 0) (s := 0) rfl rfl rfl rfl rfl
  · rw [show 2048 - i = 0 by omega] at h3
    rw [← h3]
    refine RQ.brT rfl rfl rfl (cT_ge i 2048) ?_
    refine RQ.blk 1 (pc' := 133) (lv' := [(4, .int (nI i)), (3, .int (nI o)), (2, .int (lI l)), (0, .ref 84), (1, .int (nI m))]) (st' := [.int (lI l)]) (H' := _) (kc' := 0) (ks' := 0) rfl ?_
    exact RQ.done (c := 0) (s := 0) rfl rfl rfl rfl rfl
