/-! ===== the law's loop head and its switch, for every script; written by wip/gen/head.py ===== -/
theorem RP.sld {L j : Nat} {xs : Nat → Int32} {d : Nat} {M : aM} {pc nx : Nat} {lv : aL} {st : List Value} {H : aH} {kc ks : Nat} {r : tO × aH × Nat × Nat} (hI : lkI pc (mT M) = some (nx, .iaload)) (hj : j < L) (hL : L < 2 ^ 31) (k : RP (L, xs) d M nx lv (.int (xs j) :: st) H kc ks r) : RP (L, xs) d M pc lv (.int (nI j) :: .ref 0 :: st) H kc ks r := by
  refine RP.go hI (pc' := nx) (lv' := lv) (st' := .int (xs j) :: st) (H' := H) (c := 0) (s := 0) ?_ k
  show goIald (L, xs) nx lv H (.int (nI j) :: .ref 0 :: st) = _
  unfold goIald
  dsimp only
  rw [inR_n hj hL, nI_clamp (by omega)]
  rfl
theorem sub6 {L i : Nat} (hL : L < 2 ^ 30) (hi : i < 2 ^ 30) : nI L - 6 < nI i ↔ L < i + 6 := by
  rw [Int32.lt_iff_toInt_lt, Int32.toInt_sub, nI_toInt (by omega), nI_toInt (by omega)]
  have e : (6 : Int32).toInt = 6 := rfl
  rw [e, Int.bmod_eq_of_le (by omega) (by omega)]
  omega
theorem and31 (x : Int32) : ∃ k, k < 32 ∧ x &&& 31 = nI k := by
  refine ⟨(x.toBitVec &&& 31#32).toNat, ?_, ?_⟩
  · rw [BitVec.toNat_and]
    exact Nat.lt_succ_of_le Nat.and_le_right
  · apply Int32.toBitVec_inj.mp
    show x.toBitVec &&& 31#32 = BitVec.ofNat 32 (x.toBitVec &&& 31#32).toNat
    rw [BitVec.ofNat_toNat, BitVec.setWidth_eq]
set_option maxRecDepth 100000 in
set_option maxHeartbeats 1000000 in
theorem head_exit {L i : Nat} {xs : Nat → Int32} {kc ks : Nat} {H : aH} (hL : L < 2 ^ 30) (hi : i < 2 ^ 30) (h : L < i + 6) : RP (L, xs) 2000 mr_law 33 [(4, .int (nI i)), (3, .ref 225), (2, .ref 196), (1, .ref 1), (0, .ref 0)] [] H kc ks (.inl (some (.int 1)), H, kc, ks) := by
  refine RP.blk 5 (pc' := 40) (lv' := [(4, .int (nI i)), (3, .ref 225), (2, .ref 196), (1, .ref 1), (0, .ref 0)]) (st' := [.int (nI L - 6), .int (nI i)]) (H' := H) (kc' := kc) (ks' := ks) rfl ?_
  refine RP.brT rfl rfl rfl (decide_eq_true ((sub6 hL hi).mpr h)) ?_
  refine RP.blk 1 (pc' := 1958) (lv' := [(4, .int (nI i)), (3, .ref 225), (2, .ref 196), (1, .ref 1), (0, .ref 0)]) (st' := [.int 1]) (H' := H) (kc' := kc) (ks' := ks) rfl ?_
  exact RP.done (c := 0) (s := 0) rfl rfl rfl rfl
set_option maxRecDepth 100000 in
set_option maxHeartbeats 1000000 in
theorem head_go {L i : Nat} {xs : Nat → Int32} {kc ks : Nat} {H : aH} {r : tO × aH × Nat × Nat} (hL : L < 2 ^ 30) (h : i + 6 ≤ L) (k : RP (L, xs) 2000 mr_law 50 [(4, .int (nI i)), (3, .ref 225), (2, .ref 196), (1, .ref 1), (0, .ref 0)] [.int (xs i &&& 31)] H kc ks r) : RP (L, xs) 2000 mr_law 33 [(4, .int (nI i)), (3, .ref 225), (2, .ref 196), (1, .ref 1), (0, .ref 0)] [] H kc ks r := by
  refine RP.blk 5 (pc' := 40) (lv' := [(4, .int (nI i)), (3, .ref 225), (2, .ref 196), (1, .ref 1), (0, .ref 0)]) (st' := [.int (nI L - 6), .int (nI i)]) (H' := H) (kc' := kc) (ks' := ks) rfl ?_
  refine RP.brF rfl rfl rfl (decide_eq_false (fun g => by have := (sub6 hL (by omega)).mp g; omega)) ?_
  refine RP.blk 2 (pc' := 46) (lv' := [(4, .int (nI i)), (3, .ref 225), (2, .ref 196), (1, .ref 1), (0, .ref 0)]) (st' := [.int (nI i), .ref 0]) (H' := H) (kc' := kc) (ks' := ks) rfl ?_
  refine RP.sld rfl (by omega) (by omega) ?_
  refine RP.blk 2 (pc' := 50) (lv' := [(4, .int (nI i)), (3, .ref 225), (2, .ref 196), (1, .ref 1), (0, .ref 0)]) (st' := [.int (xs i &&& 31)]) (H' := H) (kc' := kc) (ks' := ks) rfl ?_
  exact k
set_option maxRecDepth 100000 in
set_option maxHeartbeats 1000000 in
theorem go_op0 {L i : Nat} {xs : Nat → Int32} {kc ks : Nat} {H : aH} {r : tO × aH × Nat × Nat} (e : xs i &&& 31 = nI 0) (h : RP (L, xs) 2000 mr_law 176 [(4, .int (nI i)), (3, .ref 225), (2, .ref 196), (1, .ref 1), (0, .ref 0)] [] H kc ks r) : RP (L, xs) 2000 mr_law 50 [(4, .int (nI i)), (3, .ref 225), (2, .ref 196), (1, .ref 1), (0, .ref 0)] [.int (xs i &&& 31)] H kc ks r := by
  rw [e]
  exact RP.blk 1 (pc' := 176) (lv' := [(4, .int (nI i)), (3, .ref 225), (2, .ref 196), (1, .ref 1), (0, .ref 0)]) (st' := []) (H' := H) (kc' := kc) (ks' := ks) rfl h
set_option maxRecDepth 100000 in
set_option maxHeartbeats 1000000 in
theorem go_op1 {L i : Nat} {xs : Nat → Int32} {kc ks : Nat} {H : aH} {r : tO × aH × Nat × Nat} (e : xs i &&& 31 = nI 1) (h : RP (L, xs) 2000 mr_law 280 [(4, .int (nI i)), (3, .ref 225), (2, .ref 196), (1, .ref 1), (0, .ref 0)] [] H kc ks r) : RP (L, xs) 2000 mr_law 50 [(4, .int (nI i)), (3, .ref 225), (2, .ref 196), (1, .ref 1), (0, .ref 0)] [.int (xs i &&& 31)] H kc ks r := by
  rw [e]
  exact RP.blk 1 (pc' := 280) (lv' := [(4, .int (nI i)), (3, .ref 225), (2, .ref 196), (1, .ref 1), (0, .ref 0)]) (st' := []) (H' := H) (kc' := kc) (ks' := ks) rfl h
set_option maxRecDepth 100000 in
set_option maxHeartbeats 1000000 in
theorem go_op2 {L i : Nat} {xs : Nat → Int32} {kc ks : Nat} {H : aH} {r : tO × aH × Nat × Nat} (e : xs i &&& 31 = nI 2) (h : RP (L, xs) 2000 mr_law 348 [(4, .int (nI i)), (3, .ref 225), (2, .ref 196), (1, .ref 1), (0, .ref 0)] [] H kc ks r) : RP (L, xs) 2000 mr_law 50 [(4, .int (nI i)), (3, .ref 225), (2, .ref 196), (1, .ref 1), (0, .ref 0)] [.int (xs i &&& 31)] H kc ks r := by
  rw [e]
  exact RP.blk 1 (pc' := 348) (lv' := [(4, .int (nI i)), (3, .ref 225), (2, .ref 196), (1, .ref 1), (0, .ref 0)]) (st' := []) (H' := H) (kc' := kc) (ks' := ks) rfl h
set_option maxRecDepth 100000 in
set_option maxHeartbeats 1000000 in
theorem go_op3 {L i : Nat} {xs : Nat → Int32} {kc ks : Nat} {H : aH} {r : tO × aH × Nat × Nat} (e : xs i &&& 31 = nI 3) (h : RP (L, xs) 2000 mr_law 404 [(4, .int (nI i)), (3, .ref 225), (2, .ref 196), (1, .ref 1), (0, .ref 0)] [] H kc ks r) : RP (L, xs) 2000 mr_law 50 [(4, .int (nI i)), (3, .ref 225), (2, .ref 196), (1, .ref 1), (0, .ref 0)] [.int (xs i &&& 31)] H kc ks r := by
  rw [e]
  exact RP.blk 1 (pc' := 404) (lv' := [(4, .int (nI i)), (3, .ref 225), (2, .ref 196), (1, .ref 1), (0, .ref 0)]) (st' := []) (H' := H) (kc' := kc) (ks' := ks) rfl h
set_option maxRecDepth 100000 in
set_option maxHeartbeats 1000000 in
theorem go_op4 {L i : Nat} {xs : Nat → Int32} {kc ks : Nat} {H : aH} {r : tO × aH × Nat × Nat} (e : xs i &&& 31 = nI 4) (h : RP (L, xs) 2000 mr_law 448 [(4, .int (nI i)), (3, .ref 225), (2, .ref 196), (1, .ref 1), (0, .ref 0)] [] H kc ks r) : RP (L, xs) 2000 mr_law 50 [(4, .int (nI i)), (3, .ref 225), (2, .ref 196), (1, .ref 1), (0, .ref 0)] [.int (xs i &&& 31)] H kc ks r := by
  rw [e]
  exact RP.blk 1 (pc' := 448) (lv' := [(4, .int (nI i)), (3, .ref 225), (2, .ref 196), (1, .ref 1), (0, .ref 0)]) (st' := []) (H' := H) (kc' := kc) (ks' := ks) rfl h
set_option maxRecDepth 100000 in
set_option maxHeartbeats 1000000 in
theorem go_op5 {L i : Nat} {xs : Nat → Int32} {kc ks : Nat} {H : aH} {r : tO × aH × Nat × Nat} (e : xs i &&& 31 = nI 5) (h : RP (L, xs) 2000 mr_law 516 [(4, .int (nI i)), (3, .ref 225), (2, .ref 196), (1, .ref 1), (0, .ref 0)] [] H kc ks r) : RP (L, xs) 2000 mr_law 50 [(4, .int (nI i)), (3, .ref 225), (2, .ref 196), (1, .ref 1), (0, .ref 0)] [.int (xs i &&& 31)] H kc ks r := by
  rw [e]
  exact RP.blk 1 (pc' := 516) (lv' := [(4, .int (nI i)), (3, .ref 225), (2, .ref 196), (1, .ref 1), (0, .ref 0)]) (st' := []) (H' := H) (kc' := kc) (ks' := ks) rfl h
set_option maxRecDepth 100000 in
set_option maxHeartbeats 1000000 in
theorem go_op6 {L i : Nat} {xs : Nat → Int32} {kc ks : Nat} {H : aH} {r : tO × aH × Nat × Nat} (e : xs i &&& 31 = nI 6) (h : RP (L, xs) 2000 mr_law 572 [(4, .int (nI i)), (3, .ref 225), (2, .ref 196), (1, .ref 1), (0, .ref 0)] [] H kc ks r) : RP (L, xs) 2000 mr_law 50 [(4, .int (nI i)), (3, .ref 225), (2, .ref 196), (1, .ref 1), (0, .ref 0)] [.int (xs i &&& 31)] H kc ks r := by
  rw [e]
  exact RP.blk 1 (pc' := 572) (lv' := [(4, .int (nI i)), (3, .ref 225), (2, .ref 196), (1, .ref 1), (0, .ref 0)]) (st' := []) (H' := H) (kc' := kc) (ks' := ks) rfl h
set_option maxRecDepth 100000 in
set_option maxHeartbeats 1000000 in
theorem go_op7 {L i : Nat} {xs : Nat → Int32} {kc ks : Nat} {H : aH} {r : tO × aH × Nat × Nat} (e : xs i &&& 31 = nI 7) (h : RP (L, xs) 2000 mr_law 628 [(4, .int (nI i)), (3, .ref 225), (2, .ref 196), (1, .ref 1), (0, .ref 0)] [] H kc ks r) : RP (L, xs) 2000 mr_law 50 [(4, .int (nI i)), (3, .ref 225), (2, .ref 196), (1, .ref 1), (0, .ref 0)] [.int (xs i &&& 31)] H kc ks r := by
  rw [e]
  exact RP.blk 1 (pc' := 628) (lv' := [(4, .int (nI i)), (3, .ref 225), (2, .ref 196), (1, .ref 1), (0, .ref 0)]) (st' := []) (H' := H) (kc' := kc) (ks' := ks) rfl h
set_option maxRecDepth 100000 in
set_option maxHeartbeats 1000000 in
theorem go_op8 {L i : Nat} {xs : Nat → Int32} {kc ks : Nat} {H : aH} {r : tO × aH × Nat × Nat} (e : xs i &&& 31 = nI 8) (h : RP (L, xs) 2000 mr_law 712 [(4, .int (nI i)), (3, .ref 225), (2, .ref 196), (1, .ref 1), (0, .ref 0)] [] H kc ks r) : RP (L, xs) 2000 mr_law 50 [(4, .int (nI i)), (3, .ref 225), (2, .ref 196), (1, .ref 1), (0, .ref 0)] [.int (xs i &&& 31)] H kc ks r := by
  rw [e]
  exact RP.blk 1 (pc' := 712) (lv' := [(4, .int (nI i)), (3, .ref 225), (2, .ref 196), (1, .ref 1), (0, .ref 0)]) (st' := []) (H' := H) (kc' := kc) (ks' := ks) rfl h
set_option maxRecDepth 100000 in
set_option maxHeartbeats 1000000 in
theorem go_op9 {L i : Nat} {xs : Nat → Int32} {kc ks : Nat} {H : aH} {r : tO × aH × Nat × Nat} (e : xs i &&& 31 = nI 9) (h : RP (L, xs) 2000 mr_law 768 [(4, .int (nI i)), (3, .ref 225), (2, .ref 196), (1, .ref 1), (0, .ref 0)] [] H kc ks r) : RP (L, xs) 2000 mr_law 50 [(4, .int (nI i)), (3, .ref 225), (2, .ref 196), (1, .ref 1), (0, .ref 0)] [.int (xs i &&& 31)] H kc ks r := by
  rw [e]
  exact RP.blk 1 (pc' := 768) (lv' := [(4, .int (nI i)), (3, .ref 225), (2, .ref 196), (1, .ref 1), (0, .ref 0)]) (st' := []) (H' := H) (kc' := kc) (ks' := ks) rfl h
set_option maxRecDepth 100000 in
set_option maxHeartbeats 1000000 in
theorem go_op10 {L i : Nat} {xs : Nat → Int32} {kc ks : Nat} {H : aH} {r : tO × aH × Nat × Nat} (e : xs i &&& 31 = nI 10) (h : RP (L, xs) 2000 mr_law 824 [(4, .int (nI i)), (3, .ref 225), (2, .ref 196), (1, .ref 1), (0, .ref 0)] [] H kc ks r) : RP (L, xs) 2000 mr_law 50 [(4, .int (nI i)), (3, .ref 225), (2, .ref 196), (1, .ref 1), (0, .ref 0)] [.int (xs i &&& 31)] H kc ks r := by
  rw [e]
  exact RP.blk 1 (pc' := 824) (lv' := [(4, .int (nI i)), (3, .ref 225), (2, .ref 196), (1, .ref 1), (0, .ref 0)]) (st' := []) (H' := H) (kc' := kc) (ks' := ks) rfl h
set_option maxRecDepth 100000 in
set_option maxHeartbeats 1000000 in
theorem go_op11 {L i : Nat} {xs : Nat → Int32} {kc ks : Nat} {H : aH} {r : tO × aH × Nat × Nat} (e : xs i &&& 31 = nI 11) (h : RP (L, xs) 2000 mr_law 868 [(4, .int (nI i)), (3, .ref 225), (2, .ref 196), (1, .ref 1), (0, .ref 0)] [] H kc ks r) : RP (L, xs) 2000 mr_law 50 [(4, .int (nI i)), (3, .ref 225), (2, .ref 196), (1, .ref 1), (0, .ref 0)] [.int (xs i &&& 31)] H kc ks r := by
  rw [e]
  exact RP.blk 1 (pc' := 868) (lv' := [(4, .int (nI i)), (3, .ref 225), (2, .ref 196), (1, .ref 1), (0, .ref 0)]) (st' := []) (H' := H) (kc' := kc) (ks' := ks) rfl h
set_option maxRecDepth 100000 in
set_option maxHeartbeats 1000000 in
theorem go_op12 {L i : Nat} {xs : Nat → Int32} {kc ks : Nat} {H : aH} {r : tO × aH × Nat × Nat} (e : xs i &&& 31 = nI 12) (h : RP (L, xs) 2000 mr_law 940 [(4, .int (nI i)), (3, .ref 225), (2, .ref 196), (1, .ref 1), (0, .ref 0)] [] H kc ks r) : RP (L, xs) 2000 mr_law 50 [(4, .int (nI i)), (3, .ref 225), (2, .ref 196), (1, .ref 1), (0, .ref 0)] [.int (xs i &&& 31)] H kc ks r := by
  rw [e]
  exact RP.blk 1 (pc' := 940) (lv' := [(4, .int (nI i)), (3, .ref 225), (2, .ref 196), (1, .ref 1), (0, .ref 0)]) (st' := []) (H' := H) (kc' := kc) (ks' := ks) rfl h
set_option maxRecDepth 100000 in
set_option maxHeartbeats 1000000 in
theorem go_op13 {L i : Nat} {xs : Nat → Int32} {kc ks : Nat} {H : aH} {r : tO × aH × Nat × Nat} (e : xs i &&& 31 = nI 13) (h : RP (L, xs) 2000 mr_law 984 [(4, .int (nI i)), (3, .ref 225), (2, .ref 196), (1, .ref 1), (0, .ref 0)] [] H kc ks r) : RP (L, xs) 2000 mr_law 50 [(4, .int (nI i)), (3, .ref 225), (2, .ref 196), (1, .ref 1), (0, .ref 0)] [.int (xs i &&& 31)] H kc ks r := by
  rw [e]
  exact RP.blk 1 (pc' := 984) (lv' := [(4, .int (nI i)), (3, .ref 225), (2, .ref 196), (1, .ref 1), (0, .ref 0)]) (st' := []) (H' := H) (kc' := kc) (ks' := ks) rfl h
set_option maxRecDepth 100000 in
set_option maxHeartbeats 1000000 in
theorem go_op14 {L i : Nat} {xs : Nat → Int32} {kc ks : Nat} {H : aH} {r : tO × aH × Nat × Nat} (e : xs i &&& 31 = nI 14) (h : RP (L, xs) 2000 mr_law 1080 [(4, .int (nI i)), (3, .ref 225), (2, .ref 196), (1, .ref 1), (0, .ref 0)] [] H kc ks r) : RP (L, xs) 2000 mr_law 50 [(4, .int (nI i)), (3, .ref 225), (2, .ref 196), (1, .ref 1), (0, .ref 0)] [.int (xs i &&& 31)] H kc ks r := by
  rw [e]
  exact RP.blk 1 (pc' := 1080) (lv' := [(4, .int (nI i)), (3, .ref 225), (2, .ref 196), (1, .ref 1), (0, .ref 0)]) (st' := []) (H' := H) (kc' := kc) (ks' := ks) rfl h
set_option maxRecDepth 100000 in
set_option maxHeartbeats 1000000 in
theorem go_op15 {L i : Nat} {xs : Nat → Int32} {kc ks : Nat} {H : aH} {r : tO × aH × Nat × Nat} (e : xs i &&& 31 = nI 15) (h : RP (L, xs) 2000 mr_law 1124 [(4, .int (nI i)), (3, .ref 225), (2, .ref 196), (1, .ref 1), (0, .ref 0)] [] H kc ks r) : RP (L, xs) 2000 mr_law 50 [(4, .int (nI i)), (3, .ref 225), (2, .ref 196), (1, .ref 1), (0, .ref 0)] [.int (xs i &&& 31)] H kc ks r := by
  rw [e]
  exact RP.blk 1 (pc' := 1124) (lv' := [(4, .int (nI i)), (3, .ref 225), (2, .ref 196), (1, .ref 1), (0, .ref 0)]) (st' := []) (H' := H) (kc' := kc) (ks' := ks) rfl h
set_option maxRecDepth 100000 in
set_option maxHeartbeats 1000000 in
theorem go_op16 {L i : Nat} {xs : Nat → Int32} {kc ks : Nat} {H : aH} {r : tO × aH × Nat × Nat} (e : xs i &&& 31 = nI 16) (h : RP (L, xs) 2000 mr_law 1179 [(4, .int (nI i)), (3, .ref 225), (2, .ref 196), (1, .ref 1), (0, .ref 0)] [] H kc ks r) : RP (L, xs) 2000 mr_law 50 [(4, .int (nI i)), (3, .ref 225), (2, .ref 196), (1, .ref 1), (0, .ref 0)] [.int (xs i &&& 31)] H kc ks r := by
  rw [e]
  exact RP.blk 1 (pc' := 1179) (lv' := [(4, .int (nI i)), (3, .ref 225), (2, .ref 196), (1, .ref 1), (0, .ref 0)]) (st' := []) (H' := H) (kc' := kc) (ks' := ks) rfl h
set_option maxRecDepth 100000 in
set_option maxHeartbeats 1000000 in
theorem go_op17 {L i : Nat} {xs : Nat → Int32} {kc ks : Nat} {H : aH} {r : tO × aH × Nat × Nat} (e : xs i &&& 31 = nI 17) (h : RP (L, xs) 2000 mr_law 1235 [(4, .int (nI i)), (3, .ref 225), (2, .ref 196), (1, .ref 1), (0, .ref 0)] [] H kc ks r) : RP (L, xs) 2000 mr_law 50 [(4, .int (nI i)), (3, .ref 225), (2, .ref 196), (1, .ref 1), (0, .ref 0)] [.int (xs i &&& 31)] H kc ks r := by
  rw [e]
  exact RP.blk 1 (pc' := 1235) (lv' := [(4, .int (nI i)), (3, .ref 225), (2, .ref 196), (1, .ref 1), (0, .ref 0)]) (st' := []) (H' := H) (kc' := kc) (ks' := ks) rfl h
set_option maxRecDepth 100000 in
set_option maxHeartbeats 1000000 in
theorem go_op18 {L i : Nat} {xs : Nat → Int32} {kc ks : Nat} {H : aH} {r : tO × aH × Nat × Nat} (e : xs i &&& 31 = nI 18) (h : RP (L, xs) 2000 mr_law 1291 [(4, .int (nI i)), (3, .ref 225), (2, .ref 196), (1, .ref 1), (0, .ref 0)] [] H kc ks r) : RP (L, xs) 2000 mr_law 50 [(4, .int (nI i)), (3, .ref 225), (2, .ref 196), (1, .ref 1), (0, .ref 0)] [.int (xs i &&& 31)] H kc ks r := by
  rw [e]
  exact RP.blk 1 (pc' := 1291) (lv' := [(4, .int (nI i)), (3, .ref 225), (2, .ref 196), (1, .ref 1), (0, .ref 0)]) (st' := []) (H' := H) (kc' := kc) (ks' := ks) rfl h
set_option maxRecDepth 100000 in
set_option maxHeartbeats 1000000 in
theorem go_op19 {L i : Nat} {xs : Nat → Int32} {kc ks : Nat} {H : aH} {r : tO × aH × Nat × Nat} (e : xs i &&& 31 = nI 19) (h : RP (L, xs) 2000 mr_law 1335 [(4, .int (nI i)), (3, .ref 225), (2, .ref 196), (1, .ref 1), (0, .ref 0)] [] H kc ks r) : RP (L, xs) 2000 mr_law 50 [(4, .int (nI i)), (3, .ref 225), (2, .ref 196), (1, .ref 1), (0, .ref 0)] [.int (xs i &&& 31)] H kc ks r := by
  rw [e]
  exact RP.blk 1 (pc' := 1335) (lv' := [(4, .int (nI i)), (3, .ref 225), (2, .ref 196), (1, .ref 1), (0, .ref 0)]) (st' := []) (H' := H) (kc' := kc) (ks' := ks) rfl h
set_option maxRecDepth 100000 in
set_option maxHeartbeats 1000000 in
theorem go_op20 {L i : Nat} {xs : Nat → Int32} {kc ks : Nat} {H : aH} {r : tO × aH × Nat × Nat} (e : xs i &&& 31 = nI 20) (h : RP (L, xs) 2000 mr_law 1419 [(4, .int (nI i)), (3, .ref 225), (2, .ref 196), (1, .ref 1), (0, .ref 0)] [] H kc ks r) : RP (L, xs) 2000 mr_law 50 [(4, .int (nI i)), (3, .ref 225), (2, .ref 196), (1, .ref 1), (0, .ref 0)] [.int (xs i &&& 31)] H kc ks r := by
  rw [e]
  exact RP.blk 1 (pc' := 1419) (lv' := [(4, .int (nI i)), (3, .ref 225), (2, .ref 196), (1, .ref 1), (0, .ref 0)]) (st' := []) (H' := H) (kc' := kc) (ks' := ks) rfl h
set_option maxRecDepth 100000 in
set_option maxHeartbeats 1000000 in
theorem go_op21 {L i : Nat} {xs : Nat → Int32} {kc ks : Nat} {H : aH} {r : tO × aH × Nat × Nat} (e : xs i &&& 31 = nI 21) (h : RP (L, xs) 2000 mr_law 1475 [(4, .int (nI i)), (3, .ref 225), (2, .ref 196), (1, .ref 1), (0, .ref 0)] [] H kc ks r) : RP (L, xs) 2000 mr_law 50 [(4, .int (nI i)), (3, .ref 225), (2, .ref 196), (1, .ref 1), (0, .ref 0)] [.int (xs i &&& 31)] H kc ks r := by
  rw [e]
  exact RP.blk 1 (pc' := 1475) (lv' := [(4, .int (nI i)), (3, .ref 225), (2, .ref 196), (1, .ref 1), (0, .ref 0)]) (st' := []) (H' := H) (kc' := kc) (ks' := ks) rfl h
set_option maxRecDepth 100000 in
set_option maxHeartbeats 1000000 in
theorem go_op22 {L i : Nat} {xs : Nat → Int32} {kc ks : Nat} {H : aH} {r : tO × aH × Nat × Nat} (e : xs i &&& 31 = nI 22) (h : RP (L, xs) 2000 mr_law 1555 [(4, .int (nI i)), (3, .ref 225), (2, .ref 196), (1, .ref 1), (0, .ref 0)] [] H kc ks r) : RP (L, xs) 2000 mr_law 50 [(4, .int (nI i)), (3, .ref 225), (2, .ref 196), (1, .ref 1), (0, .ref 0)] [.int (xs i &&& 31)] H kc ks r := by
  rw [e]
  exact RP.blk 1 (pc' := 1555) (lv' := [(4, .int (nI i)), (3, .ref 225), (2, .ref 196), (1, .ref 1), (0, .ref 0)]) (st' := []) (H' := H) (kc' := kc) (ks' := ks) rfl h
set_option maxRecDepth 100000 in
set_option maxHeartbeats 1000000 in
theorem go_op23 {L i : Nat} {xs : Nat → Int32} {kc ks : Nat} {H : aH} {r : tO × aH × Nat × Nat} (e : xs i &&& 31 = nI 23) (h : RP (L, xs) 2000 mr_law 1599 [(4, .int (nI i)), (3, .ref 225), (2, .ref 196), (1, .ref 1), (0, .ref 0)] [] H kc ks r) : RP (L, xs) 2000 mr_law 50 [(4, .int (nI i)), (3, .ref 225), (2, .ref 196), (1, .ref 1), (0, .ref 0)] [.int (xs i &&& 31)] H kc ks r := by
  rw [e]
  exact RP.blk 1 (pc' := 1599) (lv' := [(4, .int (nI i)), (3, .ref 225), (2, .ref 196), (1, .ref 1), (0, .ref 0)]) (st' := []) (H' := H) (kc' := kc) (ks' := ks) rfl h
set_option maxRecDepth 100000 in
set_option maxHeartbeats 1000000 in
theorem go_op24 {L i : Nat} {xs : Nat → Int32} {kc ks : Nat} {H : aH} {r : tO × aH × Nat × Nat} (e : xs i &&& 31 = nI 24) (h : RP (L, xs) 2000 mr_law 1667 [(4, .int (nI i)), (3, .ref 225), (2, .ref 196), (1, .ref 1), (0, .ref 0)] [] H kc ks r) : RP (L, xs) 2000 mr_law 50 [(4, .int (nI i)), (3, .ref 225), (2, .ref 196), (1, .ref 1), (0, .ref 0)] [.int (xs i &&& 31)] H kc ks r := by
  rw [e]
  exact RP.blk 1 (pc' := 1667) (lv' := [(4, .int (nI i)), (3, .ref 225), (2, .ref 196), (1, .ref 1), (0, .ref 0)]) (st' := []) (H' := H) (kc' := kc) (ks' := ks) rfl h
set_option maxRecDepth 100000 in
set_option maxHeartbeats 1000000 in
theorem go_op25 {L i : Nat} {xs : Nat → Int32} {kc ks : Nat} {H : aH} {r : tO × aH × Nat × Nat} (e : xs i &&& 31 = nI 25) (h : RP (L, xs) 2000 mr_law 1747 [(4, .int (nI i)), (3, .ref 225), (2, .ref 196), (1, .ref 1), (0, .ref 0)] [] H kc ks r) : RP (L, xs) 2000 mr_law 50 [(4, .int (nI i)), (3, .ref 225), (2, .ref 196), (1, .ref 1), (0, .ref 0)] [.int (xs i &&& 31)] H kc ks r := by
  rw [e]
  exact RP.blk 1 (pc' := 1747) (lv' := [(4, .int (nI i)), (3, .ref 225), (2, .ref 196), (1, .ref 1), (0, .ref 0)]) (st' := []) (H' := H) (kc' := kc) (ks' := ks) rfl h
set_option maxRecDepth 100000 in
set_option maxHeartbeats 1000000 in
theorem go_op26 {L i : Nat} {xs : Nat → Int32} {kc ks : Nat} {H : aH} {r : tO × aH × Nat × Nat} (e : xs i &&& 31 = nI 26) (h : RP (L, xs) 2000 mr_law 1815 [(4, .int (nI i)), (3, .ref 225), (2, .ref 196), (1, .ref 1), (0, .ref 0)] [] H kc ks r) : RP (L, xs) 2000 mr_law 50 [(4, .int (nI i)), (3, .ref 225), (2, .ref 196), (1, .ref 1), (0, .ref 0)] [.int (xs i &&& 31)] H kc ks r := by
  rw [e]
  exact RP.blk 1 (pc' := 1815) (lv' := [(4, .int (nI i)), (3, .ref 225), (2, .ref 196), (1, .ref 1), (0, .ref 0)]) (st' := []) (H' := H) (kc' := kc) (ks' := ks) rfl h
set_option maxRecDepth 100000 in
set_option maxHeartbeats 1000000 in
theorem go_op27 {L i : Nat} {xs : Nat → Int32} {kc ks : Nat} {H : aH} {r : tO × aH × Nat × Nat} (e : xs i &&& 31 = nI 27) (h : RP (L, xs) 2000 mr_law 1883 [(4, .int (nI i)), (3, .ref 225), (2, .ref 196), (1, .ref 1), (0, .ref 0)] [] H kc ks r) : RP (L, xs) 2000 mr_law 50 [(4, .int (nI i)), (3, .ref 225), (2, .ref 196), (1, .ref 1), (0, .ref 0)] [.int (xs i &&& 31)] H kc ks r := by
  rw [e]
  exact RP.blk 1 (pc' := 1883) (lv' := [(4, .int (nI i)), (3, .ref 225), (2, .ref 196), (1, .ref 1), (0, .ref 0)]) (st' := []) (H' := H) (kc' := kc) (ks' := ks) rfl h
set_option maxRecDepth 100000 in
set_option maxHeartbeats 1000000 in
theorem go_op28 {L i : Nat} {xs : Nat → Int32} {kc ks : Nat} {H : aH} {r : tO × aH × Nat × Nat} (e : xs i &&& 31 = nI 28) (h : RP (L, xs) 2000 mr_law 1951 [(4, .int (nI i)), (3, .ref 225), (2, .ref 196), (1, .ref 1), (0, .ref 0)] [] H kc ks r) : RP (L, xs) 2000 mr_law 50 [(4, .int (nI i)), (3, .ref 225), (2, .ref 196), (1, .ref 1), (0, .ref 0)] [.int (xs i &&& 31)] H kc ks r := by
  rw [e]
  exact RP.blk 1 (pc' := 1951) (lv' := [(4, .int (nI i)), (3, .ref 225), (2, .ref 196), (1, .ref 1), (0, .ref 0)]) (st' := []) (H' := H) (kc' := kc) (ks' := ks) rfl h
set_option maxRecDepth 100000 in
set_option maxHeartbeats 1000000 in
theorem go_op29 {L i : Nat} {xs : Nat → Int32} {kc ks : Nat} {H : aH} {r : tO × aH × Nat × Nat} (e : xs i &&& 31 = nI 29) (h : RP (L, xs) 2000 mr_law 1951 [(4, .int (nI i)), (3, .ref 225), (2, .ref 196), (1, .ref 1), (0, .ref 0)] [] H kc ks r) : RP (L, xs) 2000 mr_law 50 [(4, .int (nI i)), (3, .ref 225), (2, .ref 196), (1, .ref 1), (0, .ref 0)] [.int (xs i &&& 31)] H kc ks r := by
  rw [e]
  exact RP.blk 1 (pc' := 1951) (lv' := [(4, .int (nI i)), (3, .ref 225), (2, .ref 196), (1, .ref 1), (0, .ref 0)]) (st' := []) (H' := H) (kc' := kc) (ks' := ks) rfl h
set_option maxRecDepth 100000 in
set_option maxHeartbeats 1000000 in
theorem go_op30 {L i : Nat} {xs : Nat → Int32} {kc ks : Nat} {H : aH} {r : tO × aH × Nat × Nat} (e : xs i &&& 31 = nI 30) (h : RP (L, xs) 2000 mr_law 1951 [(4, .int (nI i)), (3, .ref 225), (2, .ref 196), (1, .ref 1), (0, .ref 0)] [] H kc ks r) : RP (L, xs) 2000 mr_law 50 [(4, .int (nI i)), (3, .ref 225), (2, .ref 196), (1, .ref 1), (0, .ref 0)] [.int (xs i &&& 31)] H kc ks r := by
  rw [e]
  exact RP.blk 1 (pc' := 1951) (lv' := [(4, .int (nI i)), (3, .ref 225), (2, .ref 196), (1, .ref 1), (0, .ref 0)]) (st' := []) (H' := H) (kc' := kc) (ks' := ks) rfl h
set_option maxRecDepth 100000 in
set_option maxHeartbeats 1000000 in
theorem go_op31 {L i : Nat} {xs : Nat → Int32} {kc ks : Nat} {H : aH} {r : tO × aH × Nat × Nat} (e : xs i &&& 31 = nI 31) (h : RP (L, xs) 2000 mr_law 1951 [(4, .int (nI i)), (3, .ref 225), (2, .ref 196), (1, .ref 1), (0, .ref 0)] [] H kc ks r) : RP (L, xs) 2000 mr_law 50 [(4, .int (nI i)), (3, .ref 225), (2, .ref 196), (1, .ref 1), (0, .ref 0)] [.int (xs i &&& 31)] H kc ks r := by
  rw [e]
  exact RP.blk 1 (pc' := 1951) (lv' := [(4, .int (nI i)), (3, .ref 225), (2, .ref 196), (1, .ref 1), (0, .ref 0)]) (st' := []) (H' := H) (kc' := kc) (ks' := ks) rfl h
