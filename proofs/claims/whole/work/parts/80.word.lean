/-! ===== word; written by wip/gen/word.py ===== -/
set_option maxRecDepth 100000 in
set_option maxHeartbeats 1000000 in
theorem law_op15 {L i : Nat} {xs : Nat → Int32} {kc ks c1 s1 c2 s2 : Nat} {H H1 H2 : aH} {fs1 : List Value} {kk : Int32} {v : Int64} {r : tO × aH × Nat × Nat} (hL : L < 2 ^ 30) (h : i + 6 ≤ L) (hw : RC (L, xs) 1999 mr_192 [.ref 1, .int (xs (i + 1)), .ref 225] H (.inl (some (.int kk))) H1 c1 s1) (hmo : H1[195]? = some (kO 12 fs1)) (hm : RC (L, xs) 1999 mr_266 [.ref 196, .int (xs (i + 1))] H1 (.inl (some (.long v))) H2 c2 s2)
    (k : RP (L, xs) 2000 mr_law 1149 [(6, .long v), (5, .int kk), (4, .int (nI i)), (3, .ref 225), (2, .ref 196), (1, .ref 1), (0, .ref 0)] [] H2 (kc + c1 + c2) (ks + s1 + s2) r) : RP (L, xs) 2000 mr_law 1124 [(4, .int (nI i)), (3, .ref 225), (2, .ref 196), (1, .ref 1), (0, .ref 0)] [] H kc ks r := by
  refine RP.blk 5 (pc' := 1130) (lv' := [(4, .int (nI i)), (3, .ref 225), (2, .ref 196), (1, .ref 1), (0, .ref 0)]) (st' := [.int (nI i + 1), .ref 0, .ref 1]) (H' := H) (kc' := kc) (ks' := ks) rfl ?_
  rw [show nI i + 1 = nI (i + 1) from nI_add i 1]
  refine RP.sld rfl (by omega) (by omega) ?_
  refine RP.blk 1 (pc' := 1132) (lv' := [(4, .int (nI i)), (3, .ref 225), (2, .ref 196), (1, .ref 1), (0, .ref 0)]) (st' := [.ref 225, .int (xs (i + 1)), .ref 1]) (H' := H) (kc' := kc) (ks' := ks) rfl ?_
  refine RP.call (v := some (.int kk)) (st' := []) rfl rfl rfl rfl rfl rfl rfl hw ?_
  refine RP.blk 1 (pc' := 1137) (lv' := [(5, .int kk), (4, .int (nI i)), (3, .ref 225), (2, .ref 196), (1, .ref 1), (0, .ref 0)]) (st' := []) (H' := H1) (kc' := kc + c1) (ks' := ks + s1) rfl ?_
  refine RP.blk 5 (pc' := 1143) (lv' := [(5, .int kk), (4, .int (nI i)), (3, .ref 225), (2, .ref 196), (1, .ref 1), (0, .ref 0)]) (st' := [.int (nI i + 1), .ref 0, .ref 196]) (H' := H1) (kc' := kc + c1) (ks' := ks + s1) rfl ?_
  rw [show nI i + 1 = nI (i + 1) from nI_add i 1]
  refine RP.sld rfl (by omega) (by omega) ?_
  refine RP.call (v := some (.long v)) (st' := []) rfl rfl rfl rfl rfl rfl (args_v1 (a := 195) rfl rfl (by decide) rfl hmo (by decide)) hm ?_
  refine RP.blk 1 (pc' := 1149) (lv' := [(6, .long v), (5, .int kk), (4, .int (nI i)), (3, .ref 225), (2, .ref 196), (1, .ref 1), (0, .ref 0)]) (st' := []) (H' := H2) (kc' := kc + c1 + c2) (ks' := ks + s1 + s2) rfl ?_
  exact k
set_option maxRecDepth 100000 in
set_option maxHeartbeats 1000000 in
theorem tail_15 {L i : Nat} {xs : Nat → Int32} {kc ks : Nat} {H : aH} {fs : List Value} {f : Nat → Int64} {v : Int64} {r : tO × aH × Nat × Nat} (h1 : H[195]? = some (kO 12 fs)) (h2 : fs[0]? = some (.int 0)) (h3 : H[224]? = some (kJ 1 f)) (h4 : f 0 = v) (k : RP (L, xs) 2000 mr_law 33 [(4, .int (nI (i + 6))), (3, .ref 225), (2, .ref 196), (1, .ref 1), (0, .ref 0)] [] H kc ks r) : RP (L, xs) 2000 mr_law 1149 [(6, .long v), (5, .int 0), (4, .int (nI i)), (3, .ref 225), (2, .ref 196), (1, .ref 1), (0, .ref 0)] [] H kc ks r := by
  refine RP.blk 1 (pc' := 1150) (lv' := [(6, .long v), (5, .int 0), (4, .int (nI i)), (3, .ref 225), (2, .ref 196), (1, .ref 1), (0, .ref 0)]) (st' := [.ref 196]) (H' := H) (kc' := kc) (ks' := ks) rfl ?_
  refine RP.call (v := some (.int 0)) (st' := []) rfl rfl rfl rfl rfl rfl (args_v0 (a := 195) rfl rfl (by decide) rfl h1 (by decide)) (rc_thrown h1 h2) ?_
  refine seg_RP (f := 0) (d := 1999) 6 (pc' := 1167) (lv' := [(6, .long v), (5, .int 0), (4, .int (nI i)), (3, .ref 225), (2, .ref 196), (1, .ref 1), (0, .ref 0)]) (st' := [.int 0, .ref 225]) (H' := H) (kc' := kc) (ks' := ks) rfl ?_
  refine RP.lald (a := 224) rfl h3 rfl ?_
  rw [show f (Int32.toNatClampNeg 0) = v from h4]
  refine RP.blk 2 (pc' := 1171) (lv' := [(6, .long v), (5, .int 0), (4, .int (nI i)), (3, .ref 225), (2, .ref 196), (1, .ref 1), (0, .ref 0)]) (st' := [.int (lg_cmp v v)]) (H' := H) (kc' := kc) (ks' := ks) rfl ?_
  rw [lg_self]
  refine seg_RP (f := 0) (d := 1999) 4 (pc' := 33) (lv' := [(4, .int (nI i + 6)), (6, .long v), (5, .int 0), (3, .ref 225), (2, .ref 196), (1, .ref 1), (0, .ref 0)]) (st' := []) (H' := H) (kc' := kc) (ks' := ks) rfl ?_
  rw [nI_6]
  exact RP.more (by intro q hq; simp only [List.mem_cons, List.not_mem_nil, or_false] at hq ⊢; rcases hq with e | e | e | e | e <;> simp [e]) (show [4, 6, 5, 3, 2, 1, 0].Nodup by decide) k
set_option maxRecDepth 100000 in
set_option maxHeartbeats 1000000 in
theorem tailX_15 {L i : Nat} {xs : Nat → Int32} {kc ks : Nat} {H : aH} {fs : List Value} {v : Int64} {c : Int32} {r : tO × aH × Nat × Nat} (h1 : H[195]? = some (kO 12 fs)) (h2 : fs[0]? = some (.int c)) (h3 : ¬ c = 0) (k : RP (L, xs) 2000 mr_law 33 [(4, .int (nI (i + 6))), (3, .ref 225), (2, .ref 196), (1, .ref 1), (0, .ref 0)] [] H kc ks r) : RP (L, xs) 2000 mr_law 1149 [(6, .long v), (5, .int c), (4, .int (nI i)), (3, .ref 225), (2, .ref 196), (1, .ref 1), (0, .ref 0)] [] H kc ks r := by
  refine RP.blk 1 (pc' := 1150) (lv' := [(6, .long v), (5, .int c), (4, .int (nI i)), (3, .ref 225), (2, .ref 196), (1, .ref 1), (0, .ref 0)]) (st' := [.ref 196]) (H' := H) (kc' := kc) (ks' := ks) rfl ?_
  refine RP.call (v := some (.int c)) (st' := []) rfl rfl rfl rfl rfl rfl (args_v0 (a := 195) rfl rfl (by decide) rfl h1 (by decide)) (rc_thrown h1 h2) ?_
  refine RP.blk 1 (pc' := 1155) (lv' := [(6, .long v), (5, .int c), (4, .int (nI i)), (3, .ref 225), (2, .ref 196), (1, .ref 1), (0, .ref 0)]) (st' := [.int c, .int c]) (H' := H) (kc' := kc) (ks' := ks) rfl ?_
  refine RP.brT rfl rfl rfl (decide_eq_true rfl) ?_
  refine RP.blk 1 (pc' := 1162) (lv' := [(6, .long v), (5, .int c), (4, .int (nI i)), (3, .ref 225), (2, .ref 196), (1, .ref 1), (0, .ref 0)]) (st' := [.int c]) (H' := H) (kc' := kc) (ks' := ks) rfl ?_
  refine RP.brT rfl rfl rfl (bnt h3) ?_
  refine seg_RP (f := 0) (d := 1999) 3 (pc' := 33) (lv' := [(4, .int (nI i + 6)), (6, .long v), (5, .int c), (3, .ref 225), (2, .ref 196), (1, .ref 1), (0, .ref 0)]) (st' := []) (H' := H) (kc' := kc) (ks' := ks) rfl ?_
  rw [nI_6]
  exact RP.more (by intro q hq; simp only [List.mem_cons, List.not_mem_nil, or_false] at hq ⊢; rcases hq with e | e | e | e | e <;> simp [e]) (show [4, 6, 5, 3, 2, 1, 0].Nodup by decide) k
set_option maxRecDepth 100000 in
set_option maxHeartbeats 1000000 in
theorem rc_w15 {sc : Nat × (Nat → Int32)} {d c s : Nat} {H H' : aH} {f0 : List Value} {f : Nat → Int64} {v : Int64} {x1 : Int32} (h0 : H[0]? = some (kO 11 f0)) (hr : RC sc d mr_193 [.ref 1, .int x1] H (.inl (some (.long v))) H' c s) (h224 : H'[224]? = some (kJ 1 f)) : RC sc (d + 1) mr_192 [.ref 1, .int x1, .ref 225] H (.inl (some (.int 0))) (H'.set 224 (kJ 1 (va_up f 0 v))) c s := by
  refine RP.blk 4 (pc' := 4) (lv' := [(0, .ref 1), (1, .int x1), (2, .ref 225)]) (st' := [.int x1, .ref 1, .int 0, .ref 225]) (H' := H) (kc' := 0) (ks' := 0) rfl ?_
  refine RP.call (v := some (.long v)) (st' := [.int 0, .ref 225]) rfl rfl rfl rfl rfl rfl (args_v1 (a := 0) rfl rfl (by decide) rfl h0 (by decide)) hr ?_
  rw [Nat.zero_add, Nat.zero_add]
  refine RP.last (a := 224) rfl h224 rfl ?_
  refine RP.blk 2 (pc' := 18) (lv' := [(0, .ref 1), (1, .int x1), (2, .ref 225)]) (st' := [.int 0]) (H' := _) (kc' := c) (ks' := s) rfl ?_
  exact RP.done (c := 0) (s := 0) rfl rfl rfl rfl
set_option maxRecDepth 100000 in
set_option maxHeartbeats 1000000 in
theorem rc_w15X1 {sc : Nat × (Nat → Int32)} {d c s : Nat} {H H' : aH} {f0 : List Value} {x1 : Int32} (h0 : H[0]? = some (kO 11 f0)) (hr : RC sc d mr_193 [.ref 1, .int x1] H (.inr 1) H' c s) : RC sc (d + 1) mr_192 [.ref 1, .int x1, .ref 225] H (.inl (some (.int 1))) H' c s := by
  refine RP.blk 4 (pc' := 4) (lv' := [(0, .ref 1), (1, .int x1), (2, .ref 225)]) (st' := [.int x1, .ref 1, .int 0, .ref 225]) (H' := H) (kc' := 0) (ks' := 0) rfl ?_
  refine RP.callX (st' := [.int 0, .ref 225]) rfl rfl rfl rfl rfl rfl (args_v1 (a := 0) rfl rfl (by decide) rfl h0 (by decide)) hr rfl ?_
  rw [Nat.zero_add, Nat.zero_add]
  refine RP.blk 1 (pc' := 13) (lv' := [(0, .ref 1), (1, .int x1), (2, .ref 225)]) (st' := [.int 1]) (H' := H') (kc' := c) (ks' := s) rfl ?_
  exact RP.done (c := 0) (s := 0) rfl rfl rfl rfl
set_option maxRecDepth 100000 in
set_option maxHeartbeats 1000000 in
theorem rc_w15X2 {sc : Nat × (Nat → Int32)} {d c s : Nat} {H H' : aH} {f0 : List Value} {x1 : Int32} (h0 : H[0]? = some (kO 11 f0)) (hr : RC sc d mr_193 [.ref 1, .int x1] H (.inr 2) H' c s) : RC sc (d + 1) mr_192 [.ref 1, .int x1, .ref 225] H (.inl (some (.int 2))) H' c s := by
  refine RP.blk 4 (pc' := 4) (lv' := [(0, .ref 1), (1, .int x1), (2, .ref 225)]) (st' := [.int x1, .ref 1, .int 0, .ref 225]) (H' := H) (kc' := 0) (ks' := 0) rfl ?_
  refine RP.callX (st' := [.int 0, .ref 225]) rfl rfl rfl rfl rfl rfl (args_v1 (a := 0) rfl rfl (by decide) rfl h0 (by decide)) hr rfl ?_
  rw [Nat.zero_add, Nat.zero_add]
  refine RP.blk 1 (pc' := 16) (lv' := [(0, .ref 1), (1, .int x1), (2, .ref 225)]) (st' := [.int 2]) (H' := H') (kc' := c) (ks' := s) rfl ?_
  exact RP.done (c := 0) (s := 0) rfl rfl rfl rfl
theorem w_step (s : Int64) {b : Nat} (hb : b < 256) : (s <<< ((8 : Int32).toInt64 &&& 63)) ||| (nI b).toInt64 = s * 256 + (nI b).toInt64 := by
  rw [nI_l (show b < 2 ^ 31 from Nat.lt_trans hb (by decide))]
  apply Int64.toBitVec_inj.mp
  apply BitVec.eq_of_toNat_eq
  have e8 : (((8 : Int32).toInt64 &&& 63).toBitVec.smod 64) = 8#64 := by decide +kernel
  show ((s.toBitVec <<< (((8 : Int32).toInt64 &&& 63).toBitVec.smod 64)) ||| BitVec.ofNat 64 b).toNat = (s.toBitVec * BitVec.ofNat 64 256 + BitVec.ofNat 64 b).toNat
  have hx := s.toBitVec.isLt
  have hb2 : b % 2 ^ 64 = b := Nat.mod_eq_of_lt (Nat.lt_trans hb (by decide))
  have h256 : (256 : Nat) % 2 ^ 64 = 256 := by decide
  have hm : s.toBitVec.toNat * 256 % 2 ^ 64 = (s.toBitVec.toNat % 2 ^ 56) * 256 := by
    rw [show (2 : Nat) ^ 64 = 2 ^ 56 * 256 by decide, Nat.mul_mod_mul_right]
  have hy : s.toBitVec.toNat % 2 ^ 56 < 2 ^ 56 := Nat.mod_lt _ (by decide)
  have ho : (s.toBitVec.toNat % 2 ^ 56) * 256 ||| b = (s.toBitVec.toNat % 2 ^ 56) * 256 + b := by
    have h3 := Nat.shiftLeft_add_eq_or_of_lt (show b < 2 ^ 8 from hb) (s.toBitVec.toNat % 2 ^ 56)
    rw [Nat.shiftLeft_eq, show (2 : Nat) ^ 8 = 256 by decide] at h3
    exact h3.symm
  have hl : (s.toBitVec.toNat % 2 ^ 56) * 256 + b < 2 ^ 64 := by
    have : (s.toBitVec.toNat % 2 ^ 56) * 256 + 256 ≤ 2 ^ 56 * 256 := by
      have := Nat.mul_le_mul_right 256 hy
      rw [Nat.succ_mul] at this
      exact this
    exact Nat.lt_of_lt_of_le (Nat.add_lt_add_left hb _) this
  have hbn : (BitVec.ofNat 64 b).toNat = b := by rw [BitVec.toNat_ofNat]; exact hb2
  have h8n : (8#64).toNat = 8 := by decide
  have h256n : (BitVec.ofNat 64 256).toNat = 256 := by decide
  rw [e8, BitVec.toNat_or, BitVec.toNat_add, BitVec.toNat_mul, BitVec.shiftLeft_eq', BitVec.toNat_shiftLeft, h8n, hbn, h256n, Nat.shiftLeft_eq, show (2 : Nat) ^ 8 = 256 by decide, hm, ho, Nat.mod_eq_of_lt hl]
/-- the byte j of a row of length l, 0 beyond -/
def btB (f : Nat → Int8) (l j : Nat) : Nat := if j < l then ub (f j) else 0
theorem btB_lt {f : Nat → Int8} {l j : Nat} : btB f l j < 256 := by
  unfold btB
  split
  · exact ub_lt _
  · decide
/-- k bytes from i on, as the class and as the reference put them together -/
def wdS (f : Nat → Int8) (l i : Nat) : Nat → Int64
  | 0 => 0
  | k + 1 => (wdS f l i k <<< ((8 : Int32).toInt64 &&& 63)) ||| (nI (btB f l (i + k))).toInt64
def wdM (f : Nat → Int8) (l i : Nat) : Nat → Int64
  | 0 => 0
  | k + 1 => wdM f l i k * 256 + (nI (btB f l (i + k))).toInt64
theorem wd_eq {f g : Nat → Int8} {l i : Nat} (h : ∀ j, j < l → f j = g j) : ∀ k, wdS f l i k = wdM g l i k
  | 0 => rfl
  | k + 1 => by
    have e : btB f l (i + k) = btB g l (i + k) := by
      unfold btB
      split
      · next hj => rw [h _ hj]
      · rfl
    rw [wdS, wdM, w_step _ btB_lt, wd_eq h k, e]
theorem rc_atB {sc : Nat × (Nat → Int32)} {d a b n l i : Nat} {H : aH} {f : Nat → Int8} (h : RowAt H a b n f l) (hl : l ≤ n) (hn : n < 2 ^ 31) (hi : i < 2 ^ 31) : RC sc d mr_194 [.ref (a + 1), .int (nI i)] H (.inl (some (.int (nI (btB f l i))))) H 0 0 := by
  unfold btB
  by_cases hj : i < l
  · rw [if_pos hj]
    exact rc_at h hj hl hn
  · rw [if_neg hj]
    exact rc_at0 h (by omega) hi
theorem rc_word {sc : Nat × (Nat → Int32)} {d l i : Nat} {H : aH} {bl pr cw cl cp cb : Int32} {f : Nat → Int8} (h0 : H[0]? = some (kO 11 (fvs bl pr 1 cw cl cp cb))) (hr : RowAt H 3 4 1000 f l) (hl : l ≤ 1000) (hi : i < l) : RC sc (d + 1) mr_193 [.ref 1, .int (nI i)] H (.inl (some (.long (wdS f l i 8)))) H 0 0 := by
  refine RP.blk 1 (pc' := 1) (lv' := [(0, .ref 1), (1, .int (nI i))]) (st' := [.ref 1]) (H' := _) (kc' := 0) (ks' := 0) rfl ?_
  refine RP.call (v := none) (st' := []) rfl rfl rfl rfl rfl rfl (args_v [] [] rfl rfl (Nat.le_of_ble_eq_true rfl) rfl h0 (Nat.le_of_ble_eq_true rfl)) (rc_up h0 rfl) ?_
  refine RP.blk 1 (pc' := 5) (lv' := [(0, .ref 1), (1, .int (nI i))]) (st' := [.int (nI i)]) (H' := _) (kc' := 0) (ks' := 0) rfl ?_
  refine RP.brF rfl rfl rfl (cF_lt i 0) ?_
  refine RP.blk 2 (pc' := 10) (lv' := [(0, .ref 1), (1, .int (nI i))]) (st' := [.ref 1, .int (nI i)]) (H' := _) (kc' := 0) (ks' := 0) rfl ?_
  refine RP.get (ci := 11) rfl h0 rfl rfl ?_
  refine RP.get (ci := 5) rfl hr.1 rfl rfl ?_
  refine RP.brT rfl rfl rfl (cT_lt i l) ?_
  refine RP.blk 4 (pc' := 35) (lv' := [(4, .int 0), (2, .long 0), (0, .ref 1), (1, .int (nI i))]) (st' := []) (H' := _) (kc' := 0) (ks' := 0) rfl ?_
  have start : RP sc (d + 1) mr_193 35 [(4, .int (nI 0)), (2, .long (wdS f l i 0)), (0, .ref 1), (1, .int (nI i))] [] H 0 0 (.inl (some (.long (wdS f l i 8))), H, 0, 0) := by
    refine RP.loop 35 (fun k => [(4, .int (nI k)), (2, .long (wdS f l i k)), (0, .ref 1), (1, .int (nI i))]) [] (fun _ => H) 0 0 8 (fun k hk kk => ?_) ?_
    ·
      refine RP.blk 2 (pc' := 39) (lv' := [(4, .int (nI k)), (2, .long (wdS f l i k)), (0, .ref 1), (1, .int (nI i))]) (st' := [.int 8, .int (nI k)]) (H' := _) (kc' := 0) (ks' := 0) rfl ?_
      refine RP.brF rfl rfl rfl (cF_ge k 8) ?_
      refine RP.blk 4 (pc' := 47) (lv' := [(4, .int (nI k)), (2, .long (wdS f l i k)), (0, .ref 1), (1, .int (nI i))]) (st' := [.ref 1, .long ((wdS f l i k) <<< ((8 : Int32).toInt64 &&& 63))]) (H' := _) (kc' := 0) (ks' := 0) rfl ?_
      refine RP.get (ci := 11) rfl h0 rfl rfl ?_
      refine RP.blk 3 (pc' := 54) (lv' := [(4, .int (nI k)), (2, .long (wdS f l i k)), (0, .ref 1), (1, .int (nI i))]) (st' := [.int (nI i + nI k), .ref 4, .long ((wdS f l i k) <<< ((8 : Int32).toInt64 &&& 63))]) (H' := _) (kc' := 0) (ks' := 0) rfl ?_
      rw [show (nI i + nI k : Int32) = nI (i + k) from nI_add i k]
      refine RP.call (v := some (.int (nI (btB f l (i + k))))) (st' := [.long ((wdS f l i k) <<< ((8 : Int32).toInt64 &&& 63))]) rfl rfl rfl rfl rfl rfl (args_v [.int (nI (i + k))] [.long ((wdS f l i k) <<< ((8 : Int32).toInt64 &&& 63))] rfl rfl (Nat.le_of_ble_eq_true rfl) rfl hr.1 (Nat.le_of_ble_eq_true rfl)) (rc_atB hr hl (by decide) (by omega)) ?_
      refine RP.blk 4 (pc' := 63) (lv' := [(4, .int (nI k + 1)), (2, .long (((wdS f l i k) <<< ((8 : Int32).toInt64 &&& 63)) ||| ((nI (btB f l (i + k))).toInt64))), (0, .ref 1), (1, .int (nI i))]) (st' := []) (H' := _) (kc' := 0) (ks' := 0) rfl ?_
      rw [show (nI k + 1 : Int32) = nI (k + 1) from nI_add k 1]
      refine RP.blk 1 (pc' := 35) (lv' := [(4, .int (nI (k + 1))), (2, .long (((wdS f l i k) <<< ((8 : Int32).toInt64 &&& 63)) ||| ((nI (btB f l (i + k))).toInt64))), (0, .ref 1), (1, .int (nI i))]) (st' := []) (H' := _) (kc' := 0) (ks' := 0) rfl ?_
      exact kk
    ·
      refine RP.blk 2 (pc' := 39) (lv' := [(4, .int (nI 8)), (2, .long (wdS f l i 8)), (0, .ref 1), (1, .int (nI i))]) (st' := [.int 8, .int (nI 8)]) (H' := _) (kc' := 0) (ks' := 0) rfl ?_
      refine RP.brT rfl rfl rfl (cT_ge 8 8) ?_
      refine RP.blk 1 (pc' := 67) (lv' := [(4, .int (nI 8)), (2, .long (wdS f l i 8)), (0, .ref 1), (1, .int (nI i))]) (st' := [.long (wdS f l i 8)]) (H' := _) (kc' := 0) (ks' := 0) rfl ?_
      exact RP.done (c := 0) (s := 0) rfl rfl rfl rfl
  exact start
theorem rc_word_down {sc : Nat × (Nat → Int32)} {x : Int32} {d : Nat} {H : aH} {bl pr cw cl cp cb : Int32} (h0 : H[0]? = some (kO 11 (fvs bl pr 0 cw cl cp cb))) : RC sc (d + 1) mr_193 [.ref 1, .int x] H (.inr 1) H 1 6 := by
  refine RP.blk 1 (pc' := 1) (lv' := [(0, .ref 1), (1, .int x)]) (st' := [.ref 1]) (H' := _) (kc' := 0) (ks' := 0) rfl ?_
  exact RP.callP (st' := []) rfl rfl rfl rfl rfl rfl (args_v [] [] rfl rfl (Nat.le_of_ble_eq_true rfl) rfl h0 (Nat.le_of_ble_eq_true rfl)) (rc_down h0 rfl) rfl
theorem rc_word_bad {sc : Nat × (Nat → Int32)} {x : Int32} {d l : Nat} {H : aH} {bl pr cw cl cp cb : Int32} (h0 : H[0]? = some (kO 11 (fvs bl pr 1 cw cl cp cb))) (h3 : H[3]? = some (kO 5 [.ref 5, .int (nI l)])) (hx : x < 0 ∨ ¬ x < nI l) : RC sc (d + 1) mr_193 [.ref 1, .int x] H (.inr 2) H 1 6 := by
  refine RP.blk 1 (pc' := 1) (lv' := [(0, .ref 1), (1, .int x)]) (st' := [.ref 1]) (H' := _) (kc' := 0) (ks' := 0) rfl ?_
  refine RP.call (v := none) (st' := []) rfl rfl rfl rfl rfl rfl (args_v [] [] rfl rfl (Nat.le_of_ble_eq_true rfl) rfl h0 (Nat.le_of_ble_eq_true rfl)) (rc_up h0 rfl) ?_
  refine RP.blk 1 (pc' := 5) (lv' := [(0, .ref 1), (1, .int x)]) (st' := [.int x]) (H' := _) (kc' := 0) (ks' := 0) rfl ?_
  by_cases h1 : x < 0
  ·
    refine RP.brT rfl rfl rfl (decide_eq_true h1) ?_
    exact RP.done (c := 1) (s := 6) rfl rfl rfl rfl
  ·
    refine RP.brF rfl rfl rfl (decide_eq_false h1) ?_
    refine RP.blk 2 (pc' := 10) (lv' := [(0, .ref 1), (1, .int x)]) (st' := [.ref 1, .int x]) (H' := _) (kc' := 0) (ks' := 0) rfl ?_
    refine RP.get (ci := 11) rfl h0 rfl rfl ?_
    refine RP.get (ci := 5) rfl h3 rfl rfl ?_
    refine RP.brF rfl rfl rfl (decide_eq_false (hx.resolve_left h1)) ?_
    exact RP.done (c := 1) (s := 6) rfl rfl rfl rfl
theorem rc_mword_down {sc : Nat × (Nat → Int32)} {x rs : Int32} {d : Nat} {H : aH} {fa li cw cl tp pr ve us pi hu : Int32} {ba bo : Nat} (hm : H[195]? = some (kO 12 (mfs fa li 1 cw cl tp rs pr ve us pi hu ba bo))) : RC sc (d + 1) mr_266 [.ref 196, .int x] H (.inl (some (.long (0 : Int32).toInt64))) (H.set 195 (kO 12 (mfs 1 li 1 cw cl tp rs pr ve us pi hu ba bo))) 0 0 := by
  refine RP.blk 2 (pc' := 2) (lv' := [(0, .ref 196), (1, .int x)]) (st' := [.int 0, .ref 196]) (H' := _) (kc' := 0) (ks' := 0) rfl ?_
  refine RP.put (ci := 12) rfl hm rfl rfl (Nat.le_of_ble_eq_true rfl) ?_
  refine RP.blk 1 (pc' := 6) (lv' := [(0, .ref 196), (1, .int x)]) (st' := [.ref 196]) (H' := _) (kc' := 0) (ks' := 0) rfl ?_
  refine RP.get (ci := 12) rfl (get_set hm) rfl rfl ?_
  refine RP.brF rfl rfl rfl (by decide) ?_
  refine RP.blk 2 (pc' := 14) (lv' := [(0, .ref 196), (1, .int x)]) (st' := [.int 1, .ref 196]) (H' := _) (kc' := 0) (ks' := 0) rfl ?_
  refine RP.call (v := some (.int 0)) (st' := []) rfl rfl rfl rfl rfl rfl (args_v [.int 1] [] rfl rfl (Nat.le_of_ble_eq_true rfl) rfl (get_set hm) (Nat.le_of_ble_eq_true rfl)) (rc_mfail (get_set hm) rfl) ?_
  rw [set_set]
  refine RP.blk 1 (pc' := 18) (lv' := [(0, .ref 196), (1, .int x)]) (st' := [.long ((0 : Int32).toInt64)]) (H' := _) (kc' := 0) (ks' := 0) rfl ?_
  exact RP.done (c := 0) (s := 0) rfl rfl rfl rfl
theorem rc_mword_bad {sc : Nat × (Nat → Int32)} {x : Int32} {d l : Nat} {H : aH} {fa li cw cl tp pr ve us pi hu : Int32} {ba bo : Nat} (hm : H[195]? = some (kO 12 (mfs fa li 0 cw cl tp (nI l) pr ve us pi hu ba bo))) (hx : x < 0 ∨ ¬ x < nI l) : RC sc (d + 1) mr_266 [.ref 196, .int x] H (.inl (some (.long (0 : Int32).toInt64))) (H.set 195 (kO 12 (mfs 2 li 0 cw cl tp (nI l) pr ve us pi hu ba bo))) 0 0 := by
  refine RP.blk 2 (pc' := 2) (lv' := [(0, .ref 196), (1, .int x)]) (st' := [.int 0, .ref 196]) (H' := _) (kc' := 0) (ks' := 0) rfl ?_
  refine RP.put (ci := 12) rfl hm rfl rfl (Nat.le_of_ble_eq_true rfl) ?_
  refine RP.blk 1 (pc' := 6) (lv' := [(0, .ref 196), (1, .int x)]) (st' := [.ref 196]) (H' := _) (kc' := 0) (ks' := 0) rfl ?_
  refine RP.get (ci := 12) rfl (get_set hm) rfl rfl ?_
  refine RP.brT rfl rfl rfl (by decide) ?_
  refine RP.blk 3 (pc' := 22) (lv' := [(0, .ref 196), (1, .int x)]) (st' := [.ref 196, .int x, .ref 196]) (H' := _) (kc' := 0) (ks' := 0) rfl ?_
  refine RP.get (ci := 12) rfl (get_set hm) rfl rfl ?_
  refine RP.call (v := some (.int 1)) (st' := []) rfl rfl rfl rfl rfl rfl (args_v [.int (nI l), .int x] [] rfl rfl (Nat.le_of_ble_eq_true rfl) rfl (get_set hm) (Nat.le_of_ble_eq_true rfl)) (rc_outX hx) ?_
  refine RP.brF rfl rfl rfl (by decide) ?_
  refine RP.blk 2 (pc' := 33) (lv' := [(0, .ref 196), (1, .int x)]) (st' := [.int 2, .ref 196]) (H' := _) (kc' := 0) (ks' := 0) rfl ?_
  refine RP.call (v := some (.int 0)) (st' := []) rfl rfl rfl rfl rfl rfl (args_v [.int 2] [] rfl rfl (Nat.le_of_ble_eq_true rfl) rfl (get_set hm) (Nat.le_of_ble_eq_true rfl)) (rc_mfail (get_set hm) rfl) ?_
  rw [set_set]
  refine RP.blk 1 (pc' := 37) (lv' := [(0, .ref 196), (1, .int x)]) (st' := [.long ((0 : Int32).toInt64)]) (H' := _) (kc' := 0) (ks' := 0) rfl ?_
  exact RP.done (c := 0) (s := 0) rfl rfl rfl rfl
theorem rc_mword {sc : Nat × (Nat → Int32)} {d l i : Nat} {H : aH} {g : Nat → Int8} {fa li cw cl tp pr ve us pi hu : Int32} {ba bo : Nat} (hm : H[195]? = some (kO 12 (mfs fa li 0 cw cl tp (nI l) pr ve us pi hu ba bo))) (h197 : H[197]? = some (kB 1000 g)) (hl : l ≤ 1000) (hi : i < l) : RC sc (d + 1) mr_266 [.ref 196, .int (nI i)] H (.inl (some (.long (wdM g l i 8)))) (H.set 195 (kO 12 (mfs 0 li 0 cw cl tp (nI l) pr ve us pi hu ba bo))) 0 0 := by
  refine RP.blk 2 (pc' := 2) (lv' := [(0, .ref 196), (1, .int (nI i))]) (st' := [.int 0, .ref 196]) (H' := _) (kc' := 0) (ks' := 0) rfl ?_
  refine RP.put (ci := 12) rfl hm rfl rfl (Nat.le_of_ble_eq_true rfl) ?_
  refine RP.blk 1 (pc' := 6) (lv' := [(0, .ref 196), (1, .int (nI i))]) (st' := [.ref 196]) (H' := _) (kc' := 0) (ks' := 0) rfl ?_
  refine RP.get (ci := 12) rfl (get_set hm) rfl rfl ?_
  refine RP.brT rfl rfl rfl (by decide) ?_
  refine RP.blk 3 (pc' := 22) (lv' := [(0, .ref 196), (1, .int (nI i))]) (st' := [.ref 196, .int (nI i), .ref 196]) (H' := _) (kc' := 0) (ks' := 0) rfl ?_
  refine RP.get (ci := 12) rfl (get_set hm) rfl rfl ?_
  refine RP.call (v := some (.int 0)) (st' := []) rfl rfl rfl rfl rfl rfl (args_v [.int (nI l), .int (nI i)] [] rfl rfl (Nat.le_of_ble_eq_true rfl) rfl (get_set hm) (Nat.le_of_ble_eq_true rfl)) (rc_out hi (by omega)) ?_
  refine RP.brT rfl rfl rfl (by decide) ?_
  refine RP.blk 4 (pc' := 43) (lv' := [(4, .int 0), (2, .long 0), (0, .ref 196), (1, .int (nI i))]) (st' := []) (H' := _) (kc' := 0) (ks' := 0) rfl ?_
  have hm1 : (H.set 195 (kO 12 (mfs 0 li 0 cw cl tp (nI l) pr ve us pi hu ba bo)))[195]? = _ := get_set hm
  have h7 : (H.set 195 (kO 12 (mfs 0 li 0 cw cl tp (nI l) pr ve us pi hu ba bo)))[197]? = some (kB 1000 g) := (set_far (by decide)).trans h197
  have start : RP sc (d + 1) mr_266 43 [(4, .int (nI 0)), (2, .long (wdM g l i 0)), (0, .ref 196), (1, .int (nI i))] [] (H.set 195 (kO 12 (mfs 0 li 0 cw cl tp (nI l) pr ve us pi hu ba bo))) 0 0 (.inl (some (.long (wdM g l i 8))), (H.set 195 (kO 12 (mfs 0 li 0 cw cl tp (nI l) pr ve us pi hu ba bo))), 0, 0) := by
    refine RP.loop 43 (fun k => [(4, .int (nI k)), (2, .long (wdM g l i k)), (0, .ref 196), (1, .int (nI i))]) [] (fun _ => (H.set 195 (kO 12 (mfs 0 li 0 cw cl tp (nI l) pr ve us pi hu ba bo)))) 0 0 8 (fun k hk kk => ?_) ?_
    · have e : wdM g l i (k + 1) = wdM g l i k * 256 + (nI (btB g l (i + k))).toInt64 := rfl
      unfold btB at e
      refine RP.blk 2 (pc' := 47) (lv' := [(4, .int (nI k)), (2, .long (wdM g l i k)), (0, .ref 196), (1, .int (nI i))]) (st' := [.int 8, .int (nI k)]) (H' := _) (kc' := 0) (ks' := 0) rfl ?_
      refine RP.brF rfl rfl rfl (cF_ge k 8) ?_
      refine RP.blk 6 (pc' := 59) (lv' := [(4, .int (nI k)), (2, .long (wdM g l i k)), (0, .ref 196), (1, .int (nI i))]) (st' := [.int (nI i + nI k), .long ((wdM g l i k) * 256)]) (H' := _) (kc' := 0) (ks' := 0) rfl ?_
      rw [show (nI i + nI k : Int32) = nI (i + k) from nI_add i k]
      refine RP.blk 1 (pc' := 60) (lv' := [(4, .int (nI k)), (2, .long (wdM g l i k)), (0, .ref 196), (1, .int (nI i))]) (st' := [.ref 196, .int (nI (i + k)), .long ((wdM g l i k) * 256)]) (H' := _) (kc' := 0) (ks' := 0) rfl ?_
      refine RP.get (ci := 12) rfl hm1 rfl rfl ?_
      by_cases hj : i + k < l
      · rw [if_pos hj] at e
        rw [e] at kk
        refine RP.brF rfl rfl rfl (cF_ge (i + k) l) ?_
        refine RP.blk 1 (pc' := 67) (lv' := [(4, .int (nI k)), (2, .long (wdM g l i k)), (0, .ref 196), (1, .int (nI i))]) (st' := [.ref 196, .long ((wdM g l i k) * 256)]) (H' := _) (kc' := 0) (ks' := 0) rfl ?_
        refine RP.get (ci := 12) rfl hm1 rfl rfl ?_
        refine RP.blk 3 (pc' := 74) (lv' := [(4, .int (nI k)), (2, .long (wdM g l i k)), (0, .ref 196), (1, .int (nI i))]) (st' := [.int (nI i + nI k), .ref 198, .long ((wdM g l i k) * 256)]) (H' := _) (kc' := 0) (ks' := 0) rfl ?_
        rw [show (nI i + nI k : Int32) = nI (i + k) from nI_add i k]
        refine RP.baldN (j := i + k) rfl h7 (by omega) (by decide) ?_
        refine RP.blk 3 (pc' := 83) (lv' := [(4, .int (nI k)), (2, .long (wdM g l i k)), (0, .ref 196), (1, .int (nI i))]) (st' := [.int (((g (i + k)).toInt32) &&& 255), .long ((wdM g l i k) * 256)]) (H' := _) (kc' := 0) (ks' := 0) rfl ?_
        rw [ub_and]
        refine RP.blk 4 (pc' := 89) (lv' := [(4, .int (nI k + 1)), (2, .long (((wdM g l i k) * 256) + ((nI (ub (g (i + k)))).toInt64))), (0, .ref 196), (1, .int (nI i))]) (st' := []) (H' := _) (kc' := 0) (ks' := 0) rfl ?_
        rw [show (nI k + 1 : Int32) = nI (k + 1) from nI_add k 1]
        refine RP.blk 1 (pc' := 43) (lv' := [(4, .int (nI (k + 1))), (2, .long (((wdM g l i k) * 256) + ((nI (ub (g (i + k)))).toInt64))), (0, .ref 196), (1, .int (nI i))]) (st' := []) (H' := _) (kc' := 0) (ks' := 0) rfl ?_
        exact kk
      · rw [if_neg hj] at e
        rw [e] at kk
        refine RP.brT rfl rfl rfl (cT_ge (i + k) l) ?_
        refine RP.blk 5 (pc' := 89) (lv' := [(4, .int (nI k + 1)), (2, .long (((wdM g l i k) * 256) + ((0 : Int32).toInt64))), (0, .ref 196), (1, .int (nI i))]) (st' := []) (H' := _) (kc' := 0) (ks' := 0) rfl ?_
        rw [show (nI k + 1 : Int32) = nI (k + 1) from nI_add k 1]
        refine RP.blk 1 (pc' := 43) (lv' := [(4, .int (nI (k + 1))), (2, .long (((wdM g l i k) * 256) + ((0 : Int32).toInt64))), (0, .ref 196), (1, .int (nI i))]) (st' := []) (H' := _) (kc' := 0) (ks' := 0) rfl ?_
        exact kk
    ·
      refine RP.blk 2 (pc' := 47) (lv' := [(4, .int (nI 8)), (2, .long (wdM g l i 8)), (0, .ref 196), (1, .int (nI i))]) (st' := [.int 8, .int (nI 8)]) (H' := _) (kc' := 0) (ks' := 0) rfl ?_
      refine RP.brT rfl rfl rfl (cT_ge 8 8) ?_
      refine RP.blk 1 (pc' := 93) (lv' := [(4, .int (nI 8)), (2, .long (wdM g l i 8)), (0, .ref 196), (1, .int (nI i))]) (st' := [.long (wdM g l i 8)]) (H' := _) (kc' := 0) (ks' := 0) rfl ?_
      exact RP.done (c := 0) (s := 0) rfl rfl rfl rfl
  exact start
section SW
variable {L i : Nat} {xs : Nat → Int32} {kc ks : Nat} {H : aH} {Q : tO × aH × Nat × Nat → Prop} {bl pr cw cl cp cb fa li mcw mcl tp mpr ve us pi hu : Int32} {ba bo l : Nat}
theorem step_word_down {rs : Int32} (hL : L < 2 ^ 30) (h : i + 6 ≤ L) (h0 : H[0]? = some (kO 11 (fvs bl pr 0 cw cl cp cb))) (hm : H[195]? = some (kO 12 (mfs fa li 1 mcw mcl tp rs mpr ve us pi hu ba bo)))
    (k : RQ (L, xs) 2000 mr_law 33 [(4, .int (nI (i + 6))), (3, .ref 225), (2, .ref 196), (1, .ref 1), (0, .ref 0)] [] (H.set 195 (kO 12 (mfs 1 li 1 mcw mcl tp rs mpr ve us pi hu ba bo))) (kc + 1) (ks + 6) Q) :
    RQ (L, xs) 2000 mr_law 1124 [(4, .int (nI i)), (3, .ref 225), (2, .ref 196), (1, .ref 1), (0, .ref 0)] [] H kc ks Q := by
  refine RQ.of (fun r kk => law_op15 (c1 := 1) (s1 := 6) (c2 := 0) (s2 := 0) (kk := 1) (H1 := H) (H2 := (H.set 195 (kO 12 (mfs 1 li 1 mcw mcl tp rs mpr ve us pi hu ba bo)))) hL h (rc_w15X1 h0 (rc_word_down h0)) hm (rc_mword_down hm) kk) ?_
  exact RQ.of (fun r kk => tailX_15 (get_set hm) rfl (by decide) kk) k
theorem step_word_bad (hL : L < 2 ^ 30) (h : i + 6 ≤ L) (h0 : H[0]? = some (kO 11 (fvs bl pr 1 cw cl cp cb))) (h3 : H[3]? = some (kO 5 [.ref 5, .int (nI l)])) (hm : H[195]? = some (kO 12 (mfs fa li 0 mcw mcl tp (nI l) mpr ve us pi hu ba bo))) (hx : xs (i + 1) < 0 ∨ ¬ xs (i + 1) < nI l)
    (k : RQ (L, xs) 2000 mr_law 33 [(4, .int (nI (i + 6))), (3, .ref 225), (2, .ref 196), (1, .ref 1), (0, .ref 0)] [] (H.set 195 (kO 12 (mfs 2 li 0 mcw mcl tp (nI l) mpr ve us pi hu ba bo))) (kc + 1) (ks + 6) Q) :
    RQ (L, xs) 2000 mr_law 1124 [(4, .int (nI i)), (3, .ref 225), (2, .ref 196), (1, .ref 1), (0, .ref 0)] [] H kc ks Q := by
  refine RQ.of (fun r kk => law_op15 (c1 := 1) (s1 := 6) (c2 := 0) (s2 := 0) (kk := 2) (H1 := H) (H2 := (H.set 195 (kO 12 (mfs 2 li 0 mcw mcl tp (nI l) mpr ve us pi hu ba bo)))) hL h (rc_w15X2 h0 (rc_word_bad h0 h3 hx)) hm (rc_mword_bad hm hx) kk) ?_
  exact RQ.of (fun r kk => tailX_15 (get_set hm) rfl (by decide) kk) k
theorem step_word_ok {j : Nat} {f g : Nat → Int8} {e : Nat → Int64} (hL : L < 2 ^ 30) (h : i + 6 ≤ L) (h0 : H[0]? = some (kO 11 (fvs bl pr 1 cw cl cp cb))) (hr : RowAt H 3 4 1000 f l) (hm : H[195]? = some (kO 12 (mfs fa li 0 mcw mcl tp (nI l) mpr ve us pi hu ba bo))) (h197 : H[197]? = some (kB 1000 g)) (h224 : H[224]? = some (kJ 1 e)) (hfg : ∀ j, j < l → f j = g j) (e1 : xs (i + 1) = nI j) (hl : l ≤ 1000) (hj : j < l)
    (k : RQ (L, xs) 2000 mr_law 33 [(4, .int (nI (i + 6))), (3, .ref 225), (2, .ref 196), (1, .ref 1), (0, .ref 0)] [] ((H.set 224 (kJ 1 (va_up e 0 (wdS f l j 8)))).set 195 (kO 12 (mfs 0 li 0 mcw mcl tp (nI l) mpr ve us pi hu ba bo))) (kc) (ks) Q) :
    RQ (L, xs) 2000 mr_law 1124 [(4, .int (nI i)), (3, .ref 225), (2, .ref 196), (1, .ref 1), (0, .ref 0)] [] H kc ks Q := by
  have hm1 : (H.set 224 (kJ 1 (va_up e 0 (wdS f l j 8))))[195]? = _ := (set_far (by decide)).trans hm
  refine RQ.of (fun r kk => law_op15 (c1 := 0) (s1 := 0) (c2 := 0) (s2 := 0) (kk := 0) (v := wdM g l j 8) (H1 := (H.set 224 (kJ 1 (va_up e 0 (wdS f l j 8))))) (H2 := ((H.set 224 (kJ 1 (va_up e 0 (wdS f l j 8)))).set 195 (kO 12 (mfs 0 li 0 mcw mcl tp (nI l) mpr ve us pi hu ba bo)))) hL h (by rw [e1]; exact rc_w15 h0 (rc_word h0 hr hl hj) h224) hm1 (by rw [e1]; exact rc_mword hm1 ((set_far (by decide)).trans h197) hl hj) kk) ?_
  exact RQ.of (fun r kk => tail_15 (get_set hm1) rfl ((set_far (by decide)).trans (get_set h224)) (wd_eq hfg 8) kk) k
end SW
