/-! ===== the layout: which blocks are used, the logs; class; written by wip/gen/lay4.py ===== -/
/-- the fields of the layout's object -/
def layF (B lc fr ff : Nat) (wr : Bool) (tp rc ms mt sq tu tn nb : Nat) : List Value := [.ref 72, .int (nI B), .ref 87, .ref 88, .ref 85, .ref 86, .int (nI lc), .int (nI fr), .int (nI ff), .int (if wr then 1 else 0), .int (nI tp), .int (nI rc), .int (nI ms), .int (nI mt), .int (nI sq), .int (nI tu), .int (nI tn), .int (nI nb)]
/-- the layout: its fields, which blocks are used, the logs -/
def LayAt (H : aH) (F : List Value) (B : Nat) (us : Nat → Bool) (lg : Nat → Nat) : Prop := H[83]? = some (kO 3 F) ∧ H[86]? = some (kZ B us) ∧ H[87]? = some (kI B (fun j => nI (lg j)))
theorem xor_nn {a b : Nat} (ha : a < 2 ^ 31) (hb : b < 2 ^ 31) : ¬ nI a ^^^ nI b < 0 := by
  have e : nI a ^^^ nI b = nI (a ^^^ b) := by
    apply Int32.toBitVec_inj.mp
    apply BitVec.eq_of_toNat_eq
    show (BitVec.ofNat 32 a ^^^ BitVec.ofNat 32 b).toNat = (BitVec.ofNat 32 (a ^^^ b)).toNat
    have h1 : a ^^^ b < 2 ^ 31 := Nat.xor_lt_two_pow ha hb
    rw [BitVec.toNat_xor, BitVec.toNat_ofNat, BitVec.toNat_ofNat, BitVec.toNat_ofNat, Nat.mod_eq_of_lt (by omega), Nat.mod_eq_of_lt (by omega), Nat.mod_eq_of_lt (by omega)]
  rw [e]
  exact nI_pos (Nat.xor_lt_two_pow ha hb)
theorem rc_setUsed {sc : Nat × (Nat → Int32)} {d B lc fr ff : Nat} {wr : Bool} {tp rc ms mt sq tu tn nb : Nat} {H : aH} {us : Nat → Bool} {lg : Nat → Nat} {b : Nat} (h : LayAt H (layF B lc fr ff wr tp rc ms mt sq tu tn nb) B us lg) (hB : B ≤ 128) (hb : b < B) : RC sc d mr_11 [.ref 84, .int (nI b)] H (.inl none) (H.set 86 (kZ B (va_up us b true))) 0 0 := by
  refine RP.blk 1 (pc' := 1) (lv' := [(0, .ref 84), (1, .int (nI b))]) (st' := [.int (nI b)]) (H' := _) (kc' := 0) (ks' := 0) rfl ?_
  refine RP.brF rfl rfl rfl (cF_lt b 0) ?_
  refine RP.blk 2 (pc' := 6) (lv' := [(0, .ref 84), (1, .int (nI b))]) (st' := [.ref 84, .int (nI b)]) (H' := _) (kc' := 0) (ks' := 0) rfl ?_
  refine RP.get (ci := 3) rfl h.1 rfl rfl ?_
  refine RP.brF rfl rfl rfl (cF_ge b B) ?_
  refine RP.blk 1 (pc' := 13) (lv' := [(0, .ref 84), (1, .int (nI b))]) (st' := [.ref 84]) (H' := _) (kc' := 0) (ks' := 0) rfl ?_
  refine RP.get (ci := 3) rfl h.1 rfl rfl ?_
  refine RP.blk 2 (pc' := 18) (lv' := [(0, .ref 84), (1, .int (nI b))]) (st' := [.int 1, .int (nI b), .ref 87]) (H' := _) (kc' := 0) (ks' := 0) rfl ?_
  refine RP.zastN (j := b) rfl h.2.1 (by omega) (by omega) ?_
  exact RP.done (c := 0) (s := 0) rfl rfl rfl rfl
theorem rc_freeBlocks {sc : Nat × (Nat → Int32)} {d B lc fr ff : Nat} {wr : Bool} {tp rc ms mt sq tu tn nb : Nat} {H : aH} {us : Nat → Bool} {lg : Nat → Nat} (h : LayAt H (layF B lc fr ff wr tp rc ms mt sq tu tn nb) B us lg) (hB : B ≤ 128) : RC sc d mr_133 [.ref 84] H (.inl (some (.int (nI (cntB (fun j => !us j) B))))) H 0 0 := by
  refine RP.blk 4 (pc' := 4) (lv' := [(2, .int 0), (1, .int 0), (0, .ref 84)]) (st' := []) (H' := _) (kc' := 0) (ks' := 0) rfl ?_
  have start : RP sc d mr_133 4 [(2, .int (nI 0)), (1, .int (nI (cntB (fun j => !us j) 0))), (0, .ref 84)] [] H 0 0 (.inl (some (.int (nI (cntB (fun j => !us j) B)))), H, 0, 0) := by
    refine RP.loop 4 (fun i => [(2, .int (nI i)), (1, .int (nI (cntB (fun j => !us j) i))), (0, .ref 84)]) [] (fun _ => H) 0 0 B (fun i hi kk => ?_) ?_
    ·
      have e : cntB (fun j => !us j) (i + 1) = cntB (fun j => !us j) i + (if (!us i) = true then 1 else 0) := rfl
      refine RP.blk 2 (pc' := 6) (lv' := [(2, .int (nI i)), (1, .int (nI (cntB (fun j => !us j) i))), (0, .ref 84)]) (st' := [.ref 84, .int (nI i)]) (H' := _) (kc' := 0) (ks' := 0) rfl ?_
      refine RP.get (ci := 3) rfl h.1 rfl rfl ?_
      refine RP.brF rfl rfl rfl (cF_ge i B) ?_
      refine RP.blk 2 (pc' := 14) (lv' := [(2, .int (nI i)), (1, .int (nI (cntB (fun j => !us j) i))), (0, .ref 84)]) (st' := [.ref 84, .int (nI (cntB (fun j => !us j) i))]) (H' := _) (kc' := 0) (ks' := 0) rfl ?_
      refine RP.get (ci := 3) rfl h.1 rfl rfl ?_
      refine RP.blk 1 (pc' := 18) (lv' := [(2, .int (nI i)), (1, .int (nI (cntB (fun j => !us j) i))), (0, .ref 84)]) (st' := [.int (nI i), .ref 87, .int (nI (cntB (fun j => !us j) i))]) (H' := _) (kc' := 0) (ks' := 0) rfl ?_
      refine RP.zaldN (j := i) rfl h.2.1 (by omega) (by omega) ?_
      cases hb : us i with
      | false =>
        rw [hb] at e
        rw [e] at kk
        refine RP.brT rfl rfl rfl (by decide) ?_
        refine RP.blk 2 (pc' := 28) (lv' := [(2, .int (nI i)), (1, .int (nI (cntB (fun j => !us j) i))), (0, .ref 84)]) (st' := [.int (nI (cntB (fun j => !us j) i) + 1)]) (H' := _) (kc' := 0) (ks' := 0) rfl ?_
        rw [show (nI (cntB (fun j => !us j) i) + 1 : Int32) = nI (cntB (fun j => !us j) i + 1) from nI_add (cntB (fun j => !us j) i) 1]
        refine RP.blk 2 (pc' := 32) (lv' := [(2, .int (nI i + 1)), (1, .int (nI (cntB (fun j => !us j) i + 1))), (0, .ref 84)]) (st' := []) (H' := _) (kc' := 0) (ks' := 0) rfl ?_
        rw [show (nI i + 1 : Int32) = nI (i + 1) from nI_add i 1]
        refine RP.blk 1 (pc' := 4) (lv' := [(2, .int (nI (i + 1))), (1, .int (nI (cntB (fun j => !us j) i + 1))), (0, .ref 84)]) (st' := []) (H' := _) (kc' := 0) (ks' := 0) rfl ?_
        exact kk
      | true =>
        rw [hb] at e
        rw [e] at kk
        refine RP.brF rfl rfl rfl (by decide) ?_
        refine RP.blk 3 (pc' := 28) (lv' := [(2, .int (nI i)), (1, .int (nI (cntB (fun j => !us j) i))), (0, .ref 84)]) (st' := [.int (nI (cntB (fun j => !us j) i) + 0)]) (H' := _) (kc' := 0) (ks' := 0) rfl ?_
        rw [show (nI (cntB (fun j => !us j) i) + 0 : Int32) = nI (cntB (fun j => !us j) i + 0) from nI_add (cntB (fun j => !us j) i) 0]
        refine RP.blk 2 (pc' := 32) (lv' := [(2, .int (nI i + 1)), (1, .int (nI (cntB (fun j => !us j) i + 0))), (0, .ref 84)]) (st' := []) (H' := _) (kc' := 0) (ks' := 0) rfl ?_
        rw [show (nI i + 1 : Int32) = nI (i + 1) from nI_add i 1]
        refine RP.blk 1 (pc' := 4) (lv' := [(2, .int (nI (i + 1))), (1, .int (nI (cntB (fun j => !us j) i + 0))), (0, .ref 84)]) (st' := []) (H' := _) (kc' := 0) (ks' := 0) rfl ?_
        exact kk
    ·
      refine RP.blk 2 (pc' := 6) (lv' := [(2, .int (nI B)), (1, .int (nI (cntB (fun j => !us j) B))), (0, .ref 84)]) (st' := [.ref 84, .int (nI B)]) (H' := _) (kc' := 0) (ks' := 0) rfl ?_
      refine RP.get (ci := 3) rfl h.1 rfl rfl ?_
      refine RP.brT rfl rfl rfl (cT_ge B B) ?_
      refine RP.blk 1 (pc' := 36) (lv' := [(2, .int (nI B)), (1, .int (nI (cntB (fun j => !us j) B))), (0, .ref 84)]) (st' := [.int (nI (cntB (fun j => !us j) B))]) (H' := _) (kc' := 0) (ks' := 0) rfl ?_
      exact RP.done (c := 0) (s := 0) rfl rfl rfl rfl
  exact start
theorem rc_fits {sc : Nat × (Nat → Int32)} {d B lc fr ff : Nat} {wr : Bool} {tp rc ms mt sq tu tn nb : Nat} {H : aH} {us : Nat → Bool} {lg : Nat → Nat} {n : Nat} (h : LayAt H (layF B lc fr ff wr tp rc ms mt sq tu tn nb) B us lg) (hB : B ≤ 128) (ht : tp ≤ 2048) (hn : n < 2 ^ 30) : RC sc d mr_143 [.ref 84, .int (nI n)] H (.inl (some (.int (if wr = true ∧ n ≤ 2048 - tp then 1 else 0)))) H 0 0 := by
  cases wr with
  | false =>
    refine RP.blk 1 (pc' := 1) (lv' := [(0, .ref 84), (1, .int (nI n))]) (st' := [.ref 84]) (H' := _) (kc' := 0) (ks' := 0) rfl ?_
    refine RP.get (ci := 3) rfl h.1 rfl rfl ?_
    refine RP.brT rfl rfl rfl (by decide) ?_
    refine RP.blk 1 (pc' := 24) (lv' := [(0, .ref 84), (1, .int (nI n))]) (st' := [.int 0]) (H' := _) (kc' := 0) (ks' := 0) rfl ?_
    rw [if_neg (fun e => Bool.noConfusion e.1)]
    exact RP.done (c := 0) (s := 0) rfl rfl rfl rfl
  | true =>
    refine RP.blk 1 (pc' := 1) (lv' := [(0, .ref 84), (1, .int (nI n))]) (st' := [.ref 84]) (H' := _) (kc' := 0) (ks' := 0) rfl ?_
    refine RP.get (ci := 3) rfl h.1 rfl rfl ?_
    refine RP.brF rfl rfl rfl (by decide) ?_
    refine RP.blk 3 (pc' := 12) (lv' := [(0, .ref 84), (1, .int (nI n))]) (st' := [.ref 84, .int 2048, .int (nI n)]) (H' := _) (kc' := 0) (ks' := 0) rfl ?_
    refine RP.get (ci := 3) rfl h.1 rfl rfl ?_
    refine RP.blk 1 (pc' := 16) (lv' := [(0, .ref 84), (1, .int (nI n))]) (st' := [.int (2048 - nI tp), .int (nI n)]) (H' := _) (kc' := 0) (ks' := 0) rfl ?_
    rw [show (2048 - nI tp : Int32) = nI (2048 - tp) from pk_sub (a := 2048) (b := tp) (by omega)]
    by_cases hf : n ≤ 2048 - tp
    · rw [if_pos ⟨rfl, hf⟩]
      refine RP.brF rfl rfl rfl (cF_gt n (2048 - tp)) ?_
      refine RP.blk 2 (pc' := 24) (lv' := [(0, .ref 84), (1, .int (nI n))]) (st' := [.int 1]) (H' := _) (kc' := 0) (ks' := 0) rfl ?_
      exact RP.done (c := 0) (s := 0) rfl rfl rfl rfl
    · rw [if_neg (fun e => hf e.2)]
      refine RP.brT rfl rfl rfl (cT_gt n (2048 - tp)) ?_
      refine RP.blk 1 (pc' := 24) (lv' := [(0, .ref 84), (1, .int (nI n))]) (st' := [.int 0]) (H' := _) (kc' := 0) (ks' := 0) rfl ?_
      exact RP.done (c := 0) (s := 0) rfl rfl rfl rfl
theorem rc_point {sc : Nat × (Nat → Int32)} {d B lc fr ff : Nat} {wr : Bool} {tp rc ms mt sq tu tn nb : Nat} {H : aH} {us : Nat → Bool} {lg : Nat → Nat} (h : LayAt H (layF B lc fr ff wr tp rc ms mt sq tu tn nb) B us lg) (hB : B ≤ 128) (hl : 1 ≤ lc) (hl2 : lc ≤ B) : RC sc d mr_147 [.ref 84] H (.inl (some (.int (nI (lg (lc - 1) * 2048 + tp))))) H 0 0 := by
  refine RP.blk 1 (pc' := 1) (lv' := [(0, .ref 84)]) (st' := [.ref 84]) (H' := _) (kc' := 0) (ks' := 0) rfl ?_
  refine RP.get (ci := 3) rfl h.1 rfl rfl ?_
  refine RP.brF rfl rfl rfl (cF_le lc 0) ?_
  refine RP.blk 1 (pc' := 8) (lv' := [(0, .ref 84)]) (st' := [.ref 84]) (H' := _) (kc' := 0) (ks' := 0) rfl ?_
  refine RP.get (ci := 3) rfl h.1 rfl rfl ?_
  refine RP.blk 1 (pc' := 12) (lv' := [(0, .ref 84)]) (st' := [.ref 84, .ref 88]) (H' := _) (kc' := 0) (ks' := 0) rfl ?_
  refine RP.get (ci := 3) rfl h.1 rfl rfl ?_
  refine RP.blk 2 (pc' := 17) (lv' := [(0, .ref 84)]) (st' := [.int (nI lc - 1), .ref 88]) (H' := _) (kc' := 0) (ks' := 0) rfl ?_
  rw [show (nI lc - 1 : Int32) = nI (lc - 1) from pk_sub (a := lc) (b := 1) (by omega)]
  refine RP.ialdN (j := lc - 1) rfl h.2.2 (by omega) (by omega) ?_
  refine RP.blk 2 (pc' := 22) (lv' := [(0, .ref 84)]) (st' := [.int (nI (lg (lc - 1)) * 2048)]) (H' := _) (kc' := 0) (ks' := 0) rfl ?_
  rw [show (nI (lg (lc - 1)) * 2048 : Int32) = nI ((lg (lc - 1)) * 2048) from pk_mul (lg (lc - 1)) 2048]
  refine RP.blk 1 (pc' := 23) (lv' := [(0, .ref 84)]) (st' := [.ref 84, .int (nI ((lg (lc - 1)) * 2048))]) (H' := _) (kc' := 0) (ks' := 0) rfl ?_
  refine RP.get (ci := 3) rfl h.1 rfl rfl ?_
  refine RP.blk 1 (pc' := 27) (lv' := [(0, .ref 84)]) (st' := [.int (nI ((lg (lc - 1)) * 2048) + nI tp)]) (H' := _) (kc' := 0) (ks' := 0) rfl ?_
  rw [show (nI ((lg (lc - 1)) * 2048) + nI tp : Int32) = nI ((lg (lc - 1)) * 2048 + tp) from nI_add ((lg (lc - 1)) * 2048) tp]
  refine RP.blk 1 (pc' := 31) (lv' := [(0, .ref 84)]) (st' := [.int (nI ((lg (lc - 1)) * 2048 + tp))]) (H' := _) (kc' := 0) (ks' := 0) rfl ?_
  exact RP.done (c := 0) (s := 0) rfl rfl rfl rfl
theorem rc_isWriting {sc : Nat × (Nat → Int32)} {d B lc fr ff : Nat} {wr : Bool} {tp rc ms mt sq tu tn nb : Nat} {H : aH} {us : Nat → Bool} {lg : Nat → Nat} {i : Nat} (h : LayAt H (layF B lc fr ff wr tp rc ms mt sq tu tn nb) B us lg) (hB : B ≤ 128) (hl : 1 ≤ lc) (hl2 : lc ≤ B) (hi : i < 2 ^ 30) : RC sc d mr_137 [.ref 84, .int (nI i)] H (.inl (some (.int (if wr = true ∧ i = lc - 1 then 1 else 0)))) H 0 0 := by
  cases wr with
  | false =>
    refine RP.blk 1 (pc' := 1) (lv' := [(0, .ref 84), (1, .int (nI i))]) (st' := [.ref 84]) (H' := _) (kc' := 0) (ks' := 0) rfl ?_
    refine RP.get (ci := 3) rfl h.1 rfl rfl ?_
    refine RP.brT rfl rfl rfl (by decide) ?_
    refine RP.blk 1 (pc' := 22) (lv' := [(0, .ref 84), (1, .int (nI i))]) (st' := [.int 0]) (H' := _) (kc' := 0) (ks' := 0) rfl ?_
    rw [if_neg (fun e => Bool.noConfusion e.1)]
    exact RP.done (c := 0) (s := 0) rfl rfl rfl rfl
  | true =>
    refine RP.blk 1 (pc' := 1) (lv' := [(0, .ref 84), (1, .int (nI i))]) (st' := [.ref 84]) (H' := _) (kc' := 0) (ks' := 0) rfl ?_
    refine RP.get (ci := 3) rfl h.1 rfl rfl ?_
    refine RP.brF rfl rfl rfl (by decide) ?_
    refine RP.blk 2 (pc' := 9) (lv' := [(0, .ref 84), (1, .int (nI i))]) (st' := [.ref 84, .int (nI i)]) (H' := _) (kc' := 0) (ks' := 0) rfl ?_
    refine RP.get (ci := 3) rfl h.1 rfl rfl ?_
    refine RP.blk 2 (pc' := 14) (lv' := [(0, .ref 84), (1, .int (nI i))]) (st' := [.int (nI lc - 1), .int (nI i)]) (H' := _) (kc' := 0) (ks' := 0) rfl ?_
    rw [show (nI lc - 1 : Int32) = nI (lc - 1) from pk_sub (a := lc) (b := 1) (by omega)]
    by_cases hf : i = lc - 1
    · rw [if_pos ⟨rfl, hf⟩]
      refine RP.brF rfl rfl rfl (cF_ne i (lc - 1)) ?_
      refine RP.blk 2 (pc' := 22) (lv' := [(0, .ref 84), (1, .int (nI i))]) (st' := [.int 1]) (H' := _) (kc' := 0) (ks' := 0) rfl ?_
      exact RP.done (c := 0) (s := 0) rfl rfl rfl rfl
    · rw [if_neg (fun e => hf e.2)]
      refine RP.brT rfl rfl rfl (cT_ne i (lc - 1)) ?_
      refine RP.blk 1 (pc' := 22) (lv' := [(0, .ref 84), (1, .int (nI i))]) (st' := [.int 0]) (H' := _) (kc' := 0) (ks' := 0) rfl ?_
      exact RP.done (c := 0) (s := 0) rfl rfl rfl rfl
theorem rc_seal {sc : Nat × (Nat → Int32)} {d B lc fr ff : Nat} {wr : Bool} {tp rc ms mt sq tu tn nb : Nat} {H : aH} {us : Nat → Bool} {lg : Nat → Nat} (h : LayAt H (layF B lc fr ff wr tp rc ms mt sq tu tn nb) B us lg) (hB : B ≤ 128) : RC sc d mr_142 [.ref 84] H (.inl none) (H.set 83 (kO 3 (layF B lc 0 ff false tp rc ms mt sq tu tn nb))) 0 0 := by
  refine RP.blk 2 (pc' := 2) (lv' := [(0, .ref 84)]) (st' := [.int 0, .ref 84]) (H' := _) (kc' := 0) (ks' := 0) rfl ?_
  refine RP.put (ci := 3) rfl h.1 rfl rfl (Nat.le_of_ble_eq_true rfl) ?_
  refine RP.blk 2 (pc' := 7) (lv' := [(0, .ref 84)]) (st' := [.int 0, .ref 84]) (H' := _) (kc' := 0) (ks' := 0) rfl ?_
  refine RP.put (ci := 3) rfl (get_set h.1) rfl rfl (Nat.le_of_ble_eq_true rfl) ?_
  rw [set_set]
  exact RP.done (c := 0) (s := 0) rfl rfl rfl rfl
theorem rc_passLog {sc : Nat × (Nat → Int32)} {d B lc fr ff : Nat} {wr : Bool} {tp rc ms mt sq tu tn nb : Nat} {H : aH} {us : Nat → Bool} {lg : Nat → Nat} (h : LayAt H (layF B lc fr ff wr tp rc ms mt sq tu tn nb) B us lg) (hB : B ≤ 128) : RC sc d mr_114 [.ref 84] H (.inl none) (H.set 83 (kO 3 (layF B lc (if wr then 1 else 0) (if wr then tp else 0) wr tp rc ms mt sq tu tn nb))) 0 0 := by
  cases wr with
  | false =>
    refine RP.blk 2 (pc' := 2) (lv' := [(0, .ref 84)]) (st' := [.ref 84, .ref 84]) (H' := _) (kc' := 0) (ks' := 0) rfl ?_
    refine RP.get (ci := 3) rfl h.1 rfl rfl ?_
    refine RP.brT rfl rfl rfl (by decide) ?_
    refine RP.blk 1 (pc' := 13) (lv' := [(0, .ref 84)]) (st' := [.int 0, .ref 84]) (H' := _) (kc' := 0) (ks' := 0) rfl ?_
    refine RP.put (ci := 3) rfl h.1 rfl rfl (Nat.le_of_ble_eq_true rfl) ?_
    refine RP.blk 2 (pc' := 18) (lv' := [(0, .ref 84)]) (st' := [.ref 84, .ref 84]) (H' := _) (kc' := 0) (ks' := 0) rfl ?_
    refine RP.get (ci := 3) rfl (get_set h.1) rfl rfl ?_
    refine RP.brT rfl rfl rfl (by decide) ?_
    refine RP.blk 1 (pc' := 32) (lv' := [(0, .ref 84)]) (st' := [.int 0, .ref 84]) (H' := _) (kc' := 0) (ks' := 0) rfl ?_
    refine RP.put (ci := 3) rfl (get_set h.1) rfl rfl (Nat.le_of_ble_eq_true rfl) ?_
    rw [set_set]
    exact RP.done (c := 0) (s := 0) rfl rfl rfl rfl
  | true =>
    refine RP.blk 2 (pc' := 2) (lv' := [(0, .ref 84)]) (st' := [.ref 84, .ref 84]) (H' := _) (kc' := 0) (ks' := 0) rfl ?_
    refine RP.get (ci := 3) rfl h.1 rfl rfl ?_
    refine RP.brF rfl rfl rfl (by decide) ?_
    refine RP.blk 2 (pc' := 13) (lv' := [(0, .ref 84)]) (st' := [.int 1, .ref 84]) (H' := _) (kc' := 0) (ks' := 0) rfl ?_
    refine RP.put (ci := 3) rfl h.1 rfl rfl (Nat.le_of_ble_eq_true rfl) ?_
    refine RP.blk 2 (pc' := 18) (lv' := [(0, .ref 84)]) (st' := [.ref 84, .ref 84]) (H' := _) (kc' := 0) (ks' := 0) rfl ?_
    refine RP.get (ci := 3) rfl (get_set h.1) rfl rfl ?_
    refine RP.brF rfl rfl rfl (by decide) ?_
    refine RP.blk 1 (pc' := 25) (lv' := [(0, .ref 84)]) (st' := [.ref 84, .ref 84]) (H' := _) (kc' := 0) (ks' := 0) rfl ?_
    refine RP.get (ci := 3) rfl (get_set h.1) rfl rfl ?_
    refine RP.blk 1 (pc' := 32) (lv' := [(0, .ref 84)]) (st' := [.int (nI tp), .ref 84]) (H' := _) (kc' := 0) (ks' := 0) rfl ?_
    refine RP.put (ci := 3) rfl (get_set h.1) rfl rfl (Nat.le_of_ble_eq_true rfl) ?_
    rw [set_set]
    exact RP.done (c := 0) (s := 0) rfl rfl rfl rfl
theorem rc_addLog {sc : Nat × (Nat → Int32)} {d B lc fr ff : Nat} {wr : Bool} {tp rc ms mt sq tu tn nb : Nat} {H : aH} {us : Nat → Bool} {lg : Nat → Nat} {b : Nat} (h : LayAt H (layF B lc fr ff wr tp rc ms mt sq tu tn nb) B us lg) (hB : B ≤ 128) (hl : lc < B) (hfr : fr < 2 ^ 31) : RC sc d mr_145 [.ref 84, .int (nI b)] H (.inl none) ((H.set 87 (kI B (va_up (fun j => nI (lg j)) lc (nI b)))).set 83 (kO 3 (layF B (lc + 1) (fr + 1) (if fr = 0 then 0 else ff) true 0 rc ms mt sq tu tn nb))) 0 0 := by
  by_cases hf : fr = 0
  ·
    refine RP.blk 1 (pc' := 1) (lv' := [(0, .ref 84), (1, .int (nI b))]) (st' := [.ref 84]) (H' := _) (kc' := 0) (ks' := 0) rfl ?_
    refine RP.get (ci := 3) rfl h.1 rfl rfl ?_
    refine RP.blk 1 (pc' := 5) (lv' := [(0, .ref 84), (1, .int (nI b))]) (st' := [.ref 84, .int (nI lc)]) (H' := _) (kc' := 0) (ks' := 0) rfl ?_
    refine RP.get (ci := 3) rfl h.1 rfl rfl ?_
    refine RP.len rfl h.2.2 rfl ?_
    refine RP.brF rfl rfl rfl (cF_ge lc B) ?_
    refine RP.blk 1 (pc' := 13) (lv' := [(0, .ref 84), (1, .int (nI b))]) (st' := [.ref 84]) (H' := _) (kc' := 0) (ks' := 0) rfl ?_
    refine RP.get (ci := 3) rfl h.1 rfl rfl ?_
    refine RP.blk 1 (pc' := 17) (lv' := [(0, .ref 84), (1, .int (nI b))]) (st' := [.ref 84, .ref 88]) (H' := _) (kc' := 0) (ks' := 0) rfl ?_
    refine RP.get (ci := 3) rfl h.1 rfl rfl ?_
    refine RP.blk 1 (pc' := 21) (lv' := [(0, .ref 84), (1, .int (nI b))]) (st' := [.int (nI b), .int (nI lc), .ref 88]) (H' := _) (kc' := 0) (ks' := 0) rfl ?_
    refine RP.iastN (j := lc) rfl h.2.2 (by omega) (by omega) ?_
    refine RP.blk 2 (pc' := 24) (lv' := [(0, .ref 84), (1, .int (nI b))]) (st' := [.ref 84, .ref 84]) (H' := _) (kc' := 0) (ks' := 0) rfl ?_
    refine RP.get (ci := 3) rfl ((set_far (by decide)).trans h.1) rfl rfl ?_
    refine RP.blk 2 (pc' := 29) (lv' := [(0, .ref 84), (1, .int (nI b))]) (st' := [.int (nI lc + 1), .ref 84]) (H' := _) (kc' := 0) (ks' := 0) rfl ?_
    rw [show (nI lc + 1 : Int32) = nI (lc + 1) from nI_add lc 1]
    refine RP.put (ci := 3) rfl ((set_far (by decide)).trans h.1) rfl rfl (Nat.le_of_ble_eq_true rfl) ?_
    refine RP.blk 2 (pc' := 34) (lv' := [(0, .ref 84), (1, .int (nI b))]) (st' := [.ref 84, .ref 84]) (H' := _) (kc' := 0) (ks' := 0) rfl ?_
    refine RP.get (ci := 3) rfl (get_set ((set_far (by decide)).trans h.1)) rfl rfl ?_
    refine RP.brF rfl rfl rfl (cF_ne fr 0) ?_
    refine RP.blk 2 (pc' := 48) (lv' := [(0, .ref 84), (1, .int (nI b))]) (st' := [.int 0, .ref 84]) (H' := _) (kc' := 0) (ks' := 0) rfl ?_
    refine RP.put (ci := 3) rfl (get_set ((set_far (by decide)).trans h.1)) rfl rfl (Nat.le_of_ble_eq_true rfl) ?_
    refine RP.blk 2 (pc' := 53) (lv' := [(0, .ref 84), (1, .int (nI b))]) (st' := [.ref 84, .ref 84]) (H' := _) (kc' := 0) (ks' := 0) rfl ?_
    refine RP.get (ci := 3) rfl (get_set (get_set ((set_far (by decide)).trans h.1))) rfl rfl ?_
    refine RP.blk 2 (pc' := 58) (lv' := [(0, .ref 84), (1, .int (nI b))]) (st' := [.int (nI fr + 1), .ref 84]) (H' := _) (kc' := 0) (ks' := 0) rfl ?_
    rw [show (nI fr + 1 : Int32) = nI (fr + 1) from nI_add fr 1]
    refine RP.put (ci := 3) rfl (get_set (get_set ((set_far (by decide)).trans h.1))) rfl rfl (Nat.le_of_ble_eq_true rfl) ?_
    refine RP.blk 2 (pc' := 63) (lv' := [(0, .ref 84), (1, .int (nI b))]) (st' := [.int 1, .ref 84]) (H' := _) (kc' := 0) (ks' := 0) rfl ?_
    refine RP.put (ci := 3) rfl (get_set (get_set (get_set ((set_far (by decide)).trans h.1)))) rfl rfl (Nat.le_of_ble_eq_true rfl) ?_
    refine RP.blk 2 (pc' := 68) (lv' := [(0, .ref 84), (1, .int (nI b))]) (st' := [.int 0, .ref 84]) (H' := _) (kc' := 0) (ks' := 0) rfl ?_
    refine RP.put (ci := 3) rfl (get_set (get_set (get_set (get_set ((set_far (by decide)).trans h.1))))) rfl rfl (Nat.le_of_ble_eq_true rfl) ?_
    rw [set_set, set_set, set_set, set_set, if_pos hf]
    exact RP.done (c := 0) (s := 0) rfl rfl rfl rfl
  ·
    refine RP.blk 1 (pc' := 1) (lv' := [(0, .ref 84), (1, .int (nI b))]) (st' := [.ref 84]) (H' := _) (kc' := 0) (ks' := 0) rfl ?_
    refine RP.get (ci := 3) rfl h.1 rfl rfl ?_
    refine RP.blk 1 (pc' := 5) (lv' := [(0, .ref 84), (1, .int (nI b))]) (st' := [.ref 84, .int (nI lc)]) (H' := _) (kc' := 0) (ks' := 0) rfl ?_
    refine RP.get (ci := 3) rfl h.1 rfl rfl ?_
    refine RP.len rfl h.2.2 rfl ?_
    refine RP.brF rfl rfl rfl (cF_ge lc B) ?_
    refine RP.blk 1 (pc' := 13) (lv' := [(0, .ref 84), (1, .int (nI b))]) (st' := [.ref 84]) (H' := _) (kc' := 0) (ks' := 0) rfl ?_
    refine RP.get (ci := 3) rfl h.1 rfl rfl ?_
    refine RP.blk 1 (pc' := 17) (lv' := [(0, .ref 84), (1, .int (nI b))]) (st' := [.ref 84, .ref 88]) (H' := _) (kc' := 0) (ks' := 0) rfl ?_
    refine RP.get (ci := 3) rfl h.1 rfl rfl ?_
    refine RP.blk 1 (pc' := 21) (lv' := [(0, .ref 84), (1, .int (nI b))]) (st' := [.int (nI b), .int (nI lc), .ref 88]) (H' := _) (kc' := 0) (ks' := 0) rfl ?_
    refine RP.iastN (j := lc) rfl h.2.2 (by omega) (by omega) ?_
    refine RP.blk 2 (pc' := 24) (lv' := [(0, .ref 84), (1, .int (nI b))]) (st' := [.ref 84, .ref 84]) (H' := _) (kc' := 0) (ks' := 0) rfl ?_
    refine RP.get (ci := 3) rfl ((set_far (by decide)).trans h.1) rfl rfl ?_
    refine RP.blk 2 (pc' := 29) (lv' := [(0, .ref 84), (1, .int (nI b))]) (st' := [.int (nI lc + 1), .ref 84]) (H' := _) (kc' := 0) (ks' := 0) rfl ?_
    rw [show (nI lc + 1 : Int32) = nI (lc + 1) from nI_add lc 1]
    refine RP.put (ci := 3) rfl ((set_far (by decide)).trans h.1) rfl rfl (Nat.le_of_ble_eq_true rfl) ?_
    refine RP.blk 2 (pc' := 34) (lv' := [(0, .ref 84), (1, .int (nI b))]) (st' := [.ref 84, .ref 84]) (H' := _) (kc' := 0) (ks' := 0) rfl ?_
    refine RP.get (ci := 3) rfl (get_set ((set_far (by decide)).trans h.1)) rfl rfl ?_
    refine RP.brT rfl rfl rfl (bnt (fun e => hf ((nI_eq (b := 0) hfr (by decide)).mp e))) ?_
    refine RP.blk 1 (pc' := 45) (lv' := [(0, .ref 84), (1, .int (nI b))]) (st' := [.ref 84, .ref 84]) (H' := _) (kc' := 0) (ks' := 0) rfl ?_
    refine RP.get (ci := 3) rfl (get_set ((set_far (by decide)).trans h.1)) rfl rfl ?_
    refine RP.put (ci := 3) rfl (get_set ((set_far (by decide)).trans h.1)) rfl rfl (Nat.le_of_ble_eq_true rfl) ?_
    refine RP.blk 2 (pc' := 53) (lv' := [(0, .ref 84), (1, .int (nI b))]) (st' := [.ref 84, .ref 84]) (H' := _) (kc' := 0) (ks' := 0) rfl ?_
    refine RP.get (ci := 3) rfl (get_set (get_set ((set_far (by decide)).trans h.1))) rfl rfl ?_
    refine RP.blk 2 (pc' := 58) (lv' := [(0, .ref 84), (1, .int (nI b))]) (st' := [.int (nI fr + 1), .ref 84]) (H' := _) (kc' := 0) (ks' := 0) rfl ?_
    rw [show (nI fr + 1 : Int32) = nI (fr + 1) from nI_add fr 1]
    refine RP.put (ci := 3) rfl (get_set (get_set ((set_far (by decide)).trans h.1))) rfl rfl (Nat.le_of_ble_eq_true rfl) ?_
    refine RP.blk 2 (pc' := 63) (lv' := [(0, .ref 84), (1, .int (nI b))]) (st' := [.int 1, .ref 84]) (H' := _) (kc' := 0) (ks' := 0) rfl ?_
    refine RP.put (ci := 3) rfl (get_set (get_set (get_set ((set_far (by decide)).trans h.1)))) rfl rfl (Nat.le_of_ble_eq_true rfl) ?_
    refine RP.blk 2 (pc' := 68) (lv' := [(0, .ref 84), (1, .int (nI b))]) (st' := [.int 0, .ref 84]) (H' := _) (kc' := 0) (ks' := 0) rfl ?_
    refine RP.put (ci := 3) rfl (get_set (get_set (get_set (get_set ((set_far (by decide)).trans h.1))))) rfl rfl (Nat.le_of_ble_eq_true rfl) ?_
    rw [set_set, set_set, set_set, set_set, if_neg hf]
    exact RP.done (c := 0) (s := 0) rfl rfl rfl rfl
theorem rc_dropLog {sc : Nat × (Nat → Int32)} {d B lc fr ff : Nat} {wr : Bool} {tp rc ms mt sq tu tn nb : Nat} {H : aH} {us : Nat → Bool} {lg : Nat → Nat} {i : Nat} (h : LayAt H (layF B lc fr ff wr tp rc ms mt sq tu tn nb) B us lg) (hB : B ≤ 128) (hi : i < lc) (hl : lc ≤ B) : RC sc d mr_139 [.ref 84, .int (nI i)] H (.inl none) ((H.set 87 (kI B (cpyI (fun j => nI (lg j)) (i + 1) (fun j => nI (lg j)) i (lc - 1 - i)))).set 83 (kO 3 (layF B (lc - 1) fr ff wr tp rc ms mt sq tu tn nb))) 0 0 := by
  refine RP.blk 1 (pc' := 1) (lv' := [(0, .ref 84), (1, .int (nI i))]) (st' := [.int (nI i)]) (H' := _) (kc' := 0) (ks' := 0) rfl ?_
  refine RP.brF rfl rfl rfl (cF_lt i 0) ?_
  refine RP.blk 2 (pc' := 6) (lv' := [(0, .ref 84), (1, .int (nI i))]) (st' := [.ref 84, .int (nI i)]) (H' := _) (kc' := 0) (ks' := 0) rfl ?_
  refine RP.get (ci := 3) rfl h.1 rfl rfl ?_
  refine RP.brF rfl rfl rfl (cF_ge i lc) ?_
  refine RP.blk 1 (pc' := 13) (lv' := [(0, .ref 84), (1, .int (nI i))]) (st' := [.ref 84]) (H' := _) (kc' := 0) (ks' := 0) rfl ?_
  refine RP.get (ci := 3) rfl h.1 rfl rfl ?_
  refine RP.blk 3 (pc' := 19) (lv' := [(0, .ref 84), (1, .int (nI i))]) (st' := [.int (nI i + 1), .ref 88]) (H' := _) (kc' := 0) (ks' := 0) rfl ?_
  rw [show (nI i + 1 : Int32) = nI (i + 1) from nI_add i 1]
  refine RP.blk 1 (pc' := 20) (lv' := [(0, .ref 84), (1, .int (nI i))]) (st' := [.ref 84, .int (nI (i + 1)), .ref 88]) (H' := _) (kc' := 0) (ks' := 0) rfl ?_
  refine RP.get (ci := 3) rfl h.1 rfl rfl ?_
  refine RP.blk 2 (pc' := 25) (lv' := [(0, .ref 84), (1, .int (nI i))]) (st' := [.ref 84, .int (nI i), .ref 88, .int (nI (i + 1)), .ref 88]) (H' := _) (kc' := 0) (ks' := 0) rfl ?_
  refine RP.get (ci := 3) rfl h.1 rfl rfl ?_
  refine RP.blk 2 (pc' := 30) (lv' := [(0, .ref 84), (1, .int (nI i))]) (st' := [.int (nI lc - 1), .int (nI i), .ref 88, .int (nI (i + 1)), .ref 88]) (H' := _) (kc' := 0) (ks' := 0) rfl ?_
  rw [show (nI lc - 1 : Int32) = nI (lc - 1) from pk_sub (a := lc) (b := 1) (by omega)]
  refine RP.blk 2 (pc' := 32) (lv' := [(0, .ref 84), (1, .int (nI i))]) (st' := [.int (nI (lc - 1) - nI i), .int (nI i), .ref 88, .int (nI (i + 1)), .ref 88]) (H' := _) (kc' := 0) (ks' := 0) rfl ?_
  rw [show (nI (lc - 1) - nI i : Int32) = nI ((lc - 1) - i) from pk_sub (a := (lc - 1)) (b := i) (by omega)]
  refine RP.cpyI (n := lc - 1 - i) (sp := i + 1) (dp := i) rfl h.2.2 h.2.2 (by omega) (by omega) (by omega) (by omega) (Nat.le_of_ble_eq_true rfl) ?_
  refine RP.blk 2 (pc' := 37) (lv' := [(0, .ref 84), (1, .int (nI i))]) (st' := [.ref 84, .ref 84]) (H' := _) (kc' := 0) (ks' := 0) rfl ?_
  refine RP.get (ci := 3) rfl ((set_far (by decide)).trans h.1) rfl rfl ?_
  refine RP.blk 2 (pc' := 42) (lv' := [(0, .ref 84), (1, .int (nI i))]) (st' := [.int (nI lc - 1), .ref 84]) (H' := _) (kc' := 0) (ks' := 0) rfl ?_
  rw [show (nI lc - 1 : Int32) = nI (lc - 1) from pk_sub (a := lc) (b := 1) (by omega)]
  refine RP.put (ci := 3) rfl ((set_far (by decide)).trans h.1) rfl rfl (Nat.le_of_ble_eq_true rfl) ?_
  exact RP.done (c := 0) (s := 0) rfl rfl rfl rfl
theorem rc_logOf {sc : Nat × (Nat → Int32)} {d B lc fr ff : Nat} {wr : Bool} {tp rc ms mt sq tu tn nb : Nat} {H : aH} {us : Nat → Bool} {lg : Nat → Nat} {a : Nat} (h : LayAt H (layF B lc fr ff wr tp rc ms mt sq tu tn nb) B us lg) (hB : B ≤ 128) (hl : lc ≤ B) (ha : a < 2 ^ 30) (hlg : ∀ j, j < lc → lg j < 2 ^ 30) : RC sc d mr_64 [.ref 84, .int (nI a)] H (.inl (some (.int (lI (fstF (fun j => decide (lg j = a / 2048)) 0 lc))))) H 0 0 := by
  refine RC.of ?_
  refine RQ.blk 2 (pc' := 2) (lv' := [(2, .int 0), (0, .ref 84), (1, .int (nI a))]) (st' := []) (H' := _) (kc' := 0) (ks' := 0) rfl ?_
  refine RQ.loopQ (pc := 2) (fun i => fstF (fun j => decide (lg j = a / 2048)) i (lc - i) = fstF (fun j => decide (lg j = a / 2048)) 0 lc) (fun i => [(2, .int (nI i)), (0, .ref 84), (1, .int (nI a))]) lc (fun i hi h2 ih => ?_) (fun h2 => ?_) rfl
  · have hlgi := hlg i hi
    refine RQ.blk 2 (pc' := 4) (lv' := [(2, .int (nI i)), (0, .ref 84), (1, .int (nI a))]) (st' := [.ref 84, .int (nI i)]) (H' := _) (kc' := 0) (ks' := 0) rfl ?_
    refine RQ.get (ci := 3) rfl h.1 rfl rfl ?_
    refine RQ.brF rfl rfl rfl (cF_ge i lc) ?_
    refine RQ.blk 1 (pc' := 11) (lv' := [(2, .int (nI i)), (0, .ref 84), (1, .int (nI a))]) (st' := [.int (nI a)]) (H' := _) (kc' := 0) (ks' := 0) rfl ?_
    refine RQ.brF rfl rfl rfl (cF_lt a 0) ?_
    refine RQ.blk 1 (pc' := 15) (lv' := [(2, .int (nI i)), (0, .ref 84), (1, .int (nI a))]) (st' := [.ref 84]) (H' := _) (kc' := 0) (ks' := 0) rfl ?_
    refine RQ.get (ci := 3) rfl h.1 rfl rfl ?_
    refine RQ.blk 1 (pc' := 19) (lv' := [(2, .int (nI i)), (0, .ref 84), (1, .int (nI a))]) (st' := [.int (nI i), .ref 88]) (H' := _) (kc' := 0) (ks' := 0) rfl ?_
    refine RQ.ialdN (j := i) rfl h.2.2 (by omega) (by omega) ?_
    refine RQ.blk 3 (pc' := 25) (lv' := [(2, .int (nI i)), (0, .ref 84), (1, .int (nI a))]) (st' := [.int (nI a / 2048), .int (nI (lg i))]) (H' := _) (kc' := 0) (ks' := 0) rfl ?_
    rw [show (nI a / 2048 : Int32) = nI (a / 2048) from pk_div (a := a) (d := 2048) (by omega) (by omega) (by omega)]
    by_cases hf : lg i = a / 2048
    · rw [← h2, fstF_hit (by omega) (decide_eq_true hf)]
      refine RQ.brF rfl rfl rfl (cF_ne (lg i) (a / 2048)) ?_
      refine RQ.blk 1 (pc' := 29) (lv' := [(2, .int (nI i)), (0, .ref 84), (1, .int (nI a))]) (st' := [.int (nI i)]) (H' := _) (kc' := 0) (ks' := 0) rfl ?_
      exact RQ.done (c := 0) (s := 0) rfl rfl rfl rfl rfl
    ·
      refine RQ.brT rfl rfl rfl (cT_ne (lg i) (a / 2048)) ?_
      refine RQ.blk 1 (pc' := 33) (lv' := [(2, .int (nI i + 1)), (0, .ref 84), (1, .int (nI a))]) (st' := []) (H' := _) (kc' := 0) (ks' := 0) rfl ?_
      rw [show (nI i + 1 : Int32) = nI (i + 1) from nI_add i 1]
      refine RQ.blk 1 (pc' := 2) (lv' := [(2, .int (nI (i + 1))), (0, .ref 84), (1, .int (nI a))]) (st' := []) (H' := _) (kc' := 0) (ks' := 0) rfl ?_
      exact ih (by rw [← h2, fstF_miss (P := (fun j => decide (lg j = a / 2048))) (v := i) (n := lc - i) (by omega) (decide_eq_false hf), show lc - i - 1 = lc - (i + 1) by omega])
  · rw [← h2, Nat.sub_self]
    refine RQ.blk 2 (pc' := 4) (lv' := [(2, .int (nI lc)), (0, .ref 84), (1, .int (nI a))]) (st' := [.ref 84, .int (nI lc)]) (H' := _) (kc' := 0) (ks' := 0) rfl ?_
    refine RQ.get (ci := 3) rfl h.1 rfl rfl ?_
    refine RQ.brT rfl rfl rfl (cT_ge lc lc) ?_
    refine RQ.blk 1 (pc' := 37) (lv' := [(2, .int (nI lc)), (0, .ref 84), (1, .int (nI a))]) (st' := [.int (-1)]) (H' := _) (kc' := 0) (ks' := 0) rfl ?_
    exact RQ.done (c := 0) (s := 0) rfl rfl rfl rfl rfl
theorem bin_rem {a b : Nat} (ha : a < 2 ^ 31) (hb : b < 2 ^ 31) (hb0 : 1 ≤ b) : bin .irem (nI a) (nI b) = some (nI (a % b)) := by
  show (bif decide (nI b = 0) then none else some (nI a - nI a / nI b * nI b)) = _
  rw [decide_eq_false (nI_ne0 (by omega) hb), pk_rem ha (by omega) hb]
  rfl
theorem rc_floorMod {sc : Nat × (Nat → Int32)} {d a b : Nat} {H : aH} (ha : a < 2 ^ 31) (hb : b < 2 ^ 31) (hb0 : 1 ≤ b) : RC sc d mr_104 [.int (nI a), .int (nI b)] H (.inl (some (.int (nI (a % b))))) H 0 0 := by
  refine RP.blk 2 (pc' := 2) (lv' := [(0, .int (nI a)), (1, .int (nI b))]) (st' := [.int (nI b), .int (nI a)]) (H' := _) (kc' := 0) (ks' := 0) rfl ?_
  refine RP.goB (I := .irem) (J := .irem) rfl rfl (bin_rem ha hb hb0) ?_
  refine RP.blk 4 (pc' := 7) (lv' := [(2, .int (nI (a % b))), (0, .int (nI a)), (1, .int (nI b))]) (st' := [.int (nI a ^^^ nI b)]) (H' := _) (kc' := 0) (ks' := 0) rfl ?_
  refine RP.brT rfl rfl rfl (decide_eq_true (Int32.not_lt.mp (xor_nn ha hb))) ?_
  refine RP.blk 1 (pc' := 19) (lv' := [(2, .int (nI (a % b))), (0, .int (nI a)), (1, .int (nI b))]) (st' := [.int (nI (a % b))]) (H' := _) (kc' := 0) (ks' := 0) rfl ?_
  exact RP.done (c := 0) (s := 0) rfl rfl rfl rfl
theorem rc_take {sc : Nat × (Nat → Int32)} {d B lc fr ff : Nat} {wr : Bool} {tp rc ms mt sq tu tn nb : Nat} {H : aH} {us : Nat → Bool} {lg : Nat → Nat} {k : Nat} (h : LayAt H (layF B lc fr ff wr tp rc ms mt sq tu tn nb) B us lg) (hB : B ≤ 128) (hB1 : 1 ≤ B) (htu : tu ≤ 128) (hk : k < B) (hf : us ((tu + k) % B) = false) (hb : ∀ j, j < k → us ((tu + j) % B) = true) (hu : RC sc d mr_105 [.ref 84, .int (nI ((tu + k) % B))] H (.inl (some (.int 0))) H 0 0) : RC sc (d + 1) mr_103 [.ref 84] H (.inl (some (.int (nI ((tu + k) % B))))) ((H.set 86 (kZ B (va_up us ((tu + k) % B) true))).set 83 (kO 3 (layF B lc fr ff wr tp rc ms mt sq ((tu + k) % B + 1) (tn + 0) nb))) 0 0 := by
  refine RP.blk 2 (pc' := 2) (lv' := [(1, .int 0), (0, .ref 84)]) (st' := []) (H' := _) (kc' := 0) (ks' := 0) rfl ?_
  have start : RP sc (d + 1) mr_103 2 [(1, .int (nI 0)), (0, .ref 84)] [] H 0 0 (.inl (some (.int (nI ((tu + k) % B)))), (H.set 86 (kZ B (va_up us ((tu + k) % B) true))).set 83 (kO 3 (layF B lc fr ff wr tp rc ms mt sq ((tu + k) % B + 1) (tn + 0) nb)), 0, 0) := by
    refine RP.loop 2 (fun i => [(1, .int (nI i)), (0, .ref 84)]) [] (fun _ => H) 0 0 k (fun i hi kk => ?_) ?_
    ·
      refine RP.blk 2 (pc' := 4) (lv' := [(1, .int (nI i)), (0, .ref 84)]) (st' := [.ref 84, .int (nI i)]) (H' := _) (kc' := 0) (ks' := 0) rfl ?_
      refine RP.get (ci := 3) rfl h.1 rfl rfl ?_
      refine RP.brF rfl rfl rfl (cF_ge i B) ?_
      refine RP.blk 1 (pc' := 11) (lv' := [(1, .int (nI i)), (0, .ref 84)]) (st' := [.ref 84]) (H' := _) (kc' := 0) (ks' := 0) rfl ?_
      refine RP.get (ci := 3) rfl h.1 rfl rfl ?_
      refine RP.blk 2 (pc' := 16) (lv' := [(1, .int (nI i)), (0, .ref 84)]) (st' := [.int (nI tu + nI i)]) (H' := _) (kc' := 0) (ks' := 0) rfl ?_
      rw [show (nI tu + nI i : Int32) = nI (tu + i) from nI_add tu i]
      refine RP.blk 1 (pc' := 17) (lv' := [(1, .int (nI i)), (0, .ref 84)]) (st' := [.ref 84, .int (nI (tu + i))]) (H' := _) (kc' := 0) (ks' := 0) rfl ?_
      refine RP.get (ci := 3) rfl h.1 rfl rfl ?_
      refine RP.blk 2 (pc' := 24) (lv' := [(1, .int (nI i)), (0, .ref 84)]) (st' := [.int (if nI B < 1 then 1 else nI B), .int (nI (tu + i))]) (H' := _) (kc' := 0) (ks' := 0) rfl ?_
      rw [show (if nI B < 1 then 1 else nI B : Int32) = nI (max B 1) from maxI (a := B) (b := 1) (by omega) (by omega)]
      rw [Nat.max_eq_left hB1]
      refine RP.call (v := some (.int (nI ((tu + i) % B)))) (st' := []) rfl rfl rfl rfl rfl rfl rfl (rc_floorMod (by omega) (by omega) hB1) ?_
      have hm := Nat.mod_lt (tu + i) (show B > 0 by omega)
      refine RP.blk 2 (pc' := 29) (lv' := [(2, .int (nI ((tu + i) % B))), (1, .int (nI i)), (0, .ref 84)]) (st' := [.ref 84]) (H' := _) (kc' := 0) (ks' := 0) rfl ?_
      refine RP.get (ci := 3) rfl h.1 rfl rfl ?_
      refine RP.blk 1 (pc' := 33) (lv' := [(2, .int (nI ((tu + i) % B))), (1, .int (nI i)), (0, .ref 84)]) (st' := [.int (nI ((tu + i) % B)), .ref 87]) (H' := _) (kc' := 0) (ks' := 0) rfl ?_
      refine RP.zaldN (j := (tu + i) % B) rfl h.2.1 (by omega) (by omega) ?_
      refine RP.brT rfl rfl rfl (z_neT (hb i hi)) ?_
      refine RP.blk 1 (pc' := 78) (lv' := [(1, .int (nI i + 1)), (2, .int (nI ((tu + i) % B))), (0, .ref 84)]) (st' := []) (H' := _) (kc' := 0) (ks' := 0) rfl ?_
      rw [show (nI i + 1 : Int32) = nI (i + 1) from nI_add i 1]
      refine RP.blk 1 (pc' := 2) (lv' := [(1, .int (nI (i + 1))), (2, .int (nI ((tu + i) % B))), (0, .ref 84)]) (st' := []) (H' := _) (kc' := 0) (ks' := 0) rfl ?_
      exact RP.pick [0, 2] [1, 2, 0] rfl rfl (by decide) kk
    ·
      refine RP.blk 2 (pc' := 4) (lv' := [(1, .int (nI k)), (0, .ref 84)]) (st' := [.ref 84, .int (nI k)]) (H' := _) (kc' := 0) (ks' := 0) rfl ?_
      refine RP.get (ci := 3) rfl h.1 rfl rfl ?_
      refine RP.brF rfl rfl rfl (cF_ge k B) ?_
      refine RP.blk 1 (pc' := 11) (lv' := [(1, .int (nI k)), (0, .ref 84)]) (st' := [.ref 84]) (H' := _) (kc' := 0) (ks' := 0) rfl ?_
      refine RP.get (ci := 3) rfl h.1 rfl rfl ?_
      refine RP.blk 2 (pc' := 16) (lv' := [(1, .int (nI k)), (0, .ref 84)]) (st' := [.int (nI tu + nI k)]) (H' := _) (kc' := 0) (ks' := 0) rfl ?_
      rw [show (nI tu + nI k : Int32) = nI (tu + k) from nI_add tu k]
      refine RP.blk 1 (pc' := 17) (lv' := [(1, .int (nI k)), (0, .ref 84)]) (st' := [.ref 84, .int (nI (tu + k))]) (H' := _) (kc' := 0) (ks' := 0) rfl ?_
      refine RP.get (ci := 3) rfl h.1 rfl rfl ?_
      refine RP.blk 2 (pc' := 24) (lv' := [(1, .int (nI k)), (0, .ref 84)]) (st' := [.int (if nI B < 1 then 1 else nI B), .int (nI (tu + k))]) (H' := _) (kc' := 0) (ks' := 0) rfl ?_
      rw [show (if nI B < 1 then 1 else nI B : Int32) = nI (max B 1) from maxI (a := B) (b := 1) (by omega) (by omega)]
      rw [Nat.max_eq_left hB1]
      refine RP.call (v := some (.int (nI ((tu + k) % B)))) (st' := []) rfl rfl rfl rfl rfl rfl rfl (rc_floorMod (by omega) (by omega) hB1) ?_
      have hm := Nat.mod_lt (tu + k) (show B > 0 by omega)
      refine RP.blk 2 (pc' := 29) (lv' := [(2, .int (nI ((tu + k) % B))), (1, .int (nI k)), (0, .ref 84)]) (st' := [.ref 84]) (H' := _) (kc' := 0) (ks' := 0) rfl ?_
      refine RP.get (ci := 3) rfl h.1 rfl rfl ?_
      refine RP.blk 1 (pc' := 33) (lv' := [(2, .int (nI ((tu + k) % B))), (1, .int (nI k)), (0, .ref 84)]) (st' := [.int (nI ((tu + k) % B)), .ref 87]) (H' := _) (kc' := 0) (ks' := 0) rfl ?_
      refine RP.zaldN (j := (tu + k) % B) rfl h.2.1 (by omega) (by omega) ?_
      refine RP.brF rfl rfl rfl (z_neF hf) ?_
      refine RP.blk 2 (pc' := 39) (lv' := [(2, .int (nI ((tu + k) % B))), (1, .int (nI k)), (0, .ref 84)]) (st' := [.ref 84, .ref 84]) (H' := _) (kc' := 0) (ks' := 0) rfl ?_
      refine RP.get (ci := 3) rfl h.1 rfl rfl ?_
      refine RP.blk 2 (pc' := 44) (lv' := [(2, .int (nI ((tu + k) % B))), (1, .int (nI k)), (0, .ref 84)]) (st' := [.int (nI ((tu + k) % B)), .ref 84, .int (nI tn), .ref 84]) (H' := _) (kc' := 0) (ks' := 0) rfl ?_
      refine RP.call (v := some (.int 0)) (st' := [.int (nI tn), .ref 84]) rfl rfl rfl rfl rfl rfl (args_v [.int (nI ((tu + k) % B))] [.int (nI tn), .ref 84] rfl rfl (Nat.le_of_ble_eq_true rfl) rfl h.1 (Nat.le_of_ble_eq_true rfl)) hu ?_
      refine RP.brT rfl rfl rfl (by decide) ?_
      refine RP.blk 2 (pc' := 56) (lv' := [(2, .int (nI ((tu + k) % B))), (1, .int (nI k)), (0, .ref 84)]) (st' := [.int (nI tn + 0), .ref 84]) (H' := _) (kc' := 0) (ks' := 0) rfl ?_
      rw [show (nI tn + 0 : Int32) = nI (tn + 0) from nI_add tn 0]
      refine RP.put (ci := 3) rfl h.1 rfl rfl (Nat.le_of_ble_eq_true rfl) ?_
      refine RP.blk 1 (pc' := 60) (lv' := [(2, .int (nI ((tu + k) % B))), (1, .int (nI k)), (0, .ref 84)]) (st' := [.ref 84]) (H' := _) (kc' := 0) (ks' := 0) rfl ?_
      refine RP.get (ci := 3) rfl (get_set h.1) rfl rfl ?_
      refine RP.blk 2 (pc' := 65) (lv' := [(2, .int (nI ((tu + k) % B))), (1, .int (nI k)), (0, .ref 84)]) (st' := [.int 1, .int (nI ((tu + k) % B)), .ref 87]) (H' := _) (kc' := 0) (ks' := 0) rfl ?_
      refine RP.zastN (j := (tu + k) % B) rfl ((set_far (by decide)).trans h.2.1) (by omega) (by omega) ?_
      refine RP.blk 4 (pc' := 70) (lv' := [(2, .int (nI ((tu + k) % B))), (1, .int (nI k)), (0, .ref 84)]) (st' := [.int (nI ((tu + k) % B) + 1), .ref 84]) (H' := _) (kc' := 0) (ks' := 0) rfl ?_
      rw [show (nI ((tu + k) % B) + 1 : Int32) = nI ((tu + k) % B + 1) from nI_add ((tu + k) % B) 1]
      refine RP.put (ci := 3) rfl ((set_far (by decide)).trans (get_set h.1)) rfl rfl (Nat.le_of_ble_eq_true rfl) ?_
      refine RP.blk 1 (pc' := 74) (lv' := [(2, .int (nI ((tu + k) % B))), (1, .int (nI k)), (0, .ref 84)]) (st' := [.int (nI ((tu + k) % B))]) (H' := _) (kc' := 0) (ks' := 0) rfl ?_
      rw [List.set_comm _ _ (show (83 : Nat) ≠ 86 by decide), set_set]
      exact RP.done (c := 0) (s := 0) rfl rfl rfl rfl
  exact start
