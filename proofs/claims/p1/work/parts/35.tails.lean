/-! ===== the law behind the answers of class and reference; written by wip/gen/tails.py ===== -/
theorem lg_self (x : Int64) : lg_cmp x x = 0 := by
  unfold lg_cmp
  simp
theorem nI_6 {i : Nat} : nI i + 6 = nI (i + 6) := nI_add i 6
theorem RP.lald {sc : Nat × (Nat → Int32)} {d : Nat} {M : aM} {pc nx : Nat} {lv : aL} {st : List Value} {H : aH} {kc ks : Nat} {r : tO × aH × Nat × Nat} {a n : Nat} {f : Nat → Int64} {i : Int32} (hI : lkI pc (mT M) = some (nx, .laload)) (hc : H[a]? = some (kJ n f)) (hi : inR i n = true) (k : RP sc d M nx lv (.long (f i.toNatClampNeg) :: st) H kc ks r) : RP sc d M pc lv (.int i :: .ref (a + 1) :: st) H kc ks r := by
  refine RP.go hI (pc' := nx) (lv' := lv) (st' := .long (f i.toNatClampNeg) :: st) (H' := H) (c := 0) (s := 0) ?_ k
  show goLald nx lv H (.int i :: .ref (a + 1) :: st) = _
  unfold goLald
  dsimp only
  rw [hc]
  dsimp only
  rw [hi]
  rfl
theorem RP.last {sc : Nat × (Nat → Int32)} {d : Nat} {M : aM} {pc nx : Nat} {lv : aL} {st : List Value} {H : aH} {kc ks : Nat} {r : tO × aH × Nat × Nat} {a n : Nat} {f : Nat → Int64} {i : Int32} {x : Int64} (hI : lkI pc (mT M) = some (nx, .lastore)) (hc : H[a]? = some (kJ n f)) (hi : inR i n = true) (k : RP sc d M nx lv st (H.set a (kJ n (va_up f i.toNatClampNeg x))) kc ks r) : RP sc d M pc lv (.long x :: .int i :: .ref (a + 1) :: st) H kc ks r := by
  refine RP.go hI (pc' := nx) (lv' := lv) (st' := st) (H' := H.set a (kJ n (va_up f i.toNatClampNeg x))) (c := 0) (s := 0) ?_ k
  show goLast nx lv H (.long x :: .int i :: .ref (a + 1) :: st) = _
  unfold goLast
  dsimp only
  rw [hc]
  dsimp only
  rw [hi]
  rfl
theorem rc_thrown {sc : Nat × (Nat → Int32)} {d a : Nat} {H : aH} {fs : List Value} {c : Int32} (h : H[a]? = some (kO 12 fs)) (hf : fs[0]? = some (.int c)) : RC sc d mr_260 [.ref (a + 1)] H (.inl (some (.int c))) H 0 0 := by
  refine RP.blk 1 (pc' := 1) (lv' := [(0, .ref (a + 1))]) (st' := [.ref (a + 1)]) (H' := H) (kc' := 0) (ks' := 0) rfl ?_
  refine RP.get (ci := 12) rfl h rfl hf ?_
  exact RP.done (c := 0) (s := 0) rfl rfl rfl rfl
set_option maxRecDepth 100000 in
set_option maxHeartbeats 1000000 in
theorem tail_0 {L i : Nat} {xs : Nat → Int32} {kc ks : Nat} {H : aH} {fs : List Value} {f : Nat → Int64} {v : Int32} {r : tO × aH × Nat × Nat} (h1 : H[195]? = some (kO 12 fs)) (h2 : fs[0]? = some (.int 0)) (h3 : H[224]? = some (kJ 1 f)) (h4 : f 0 = v.toInt64) (k : RP (L, xs) 2000 mr_law 33 [(4, .int (nI (i + 6))), (3, .ref 225), (2, .ref 196), (1, .ref 1), (0, .ref 0)] [] H kc ks r) : RP (L, xs) 2000 mr_law 249 [(6, .int v), (5, .int 0), (4, .int (nI i)), (3, .ref 225), (2, .ref 196), (1, .ref 1), (0, .ref 0)] [] H kc ks r := by
  refine RP.blk 1 (pc' := 250) (lv' := [(6, .int v), (5, .int 0), (4, .int (nI i)), (3, .ref 225), (2, .ref 196), (1, .ref 1), (0, .ref 0)]) (st' := [.ref 196]) (H' := H) (kc' := kc) (ks' := ks) rfl ?_
  refine RP.call (v := some (.int 0)) (st' := []) rfl rfl rfl rfl rfl rfl (args_v0 (a := 195) rfl rfl (by decide) rfl h1 (by decide)) (rc_thrown h1 h2) ?_
  refine seg_RP (f := 0) (d := 1999) 6 (pc' := 267) (lv' := [(6, .int v), (5, .int 0), (4, .int (nI i)), (3, .ref 225), (2, .ref 196), (1, .ref 1), (0, .ref 0)]) (st' := [.int 0, .ref 225]) (H' := H) (kc' := kc) (ks' := ks) rfl ?_
  refine RP.lald (a := 224) rfl h3 rfl ?_
  rw [show f (Int32.toNatClampNeg 0) = v.toInt64 from h4]
  refine RP.blk 3 (pc' := 272) (lv' := [(6, .int v), (5, .int 0), (4, .int (nI i)), (3, .ref 225), (2, .ref 196), (1, .ref 1), (0, .ref 0)]) (st' := [.int (lg_cmp v.toInt64 v.toInt64)]) (H' := H) (kc' := kc) (ks' := ks) rfl ?_
  rw [lg_self]
  refine seg_RP (f := 0) (d := 1999) 4 (pc' := 33) (lv' := [(4, .int (nI i + 6)), (6, .int v), (5, .int 0), (3, .ref 225), (2, .ref 196), (1, .ref 1), (0, .ref 0)]) (st' := []) (H' := H) (kc' := kc) (ks' := ks) rfl ?_
  rw [nI_6]
  exact RP.more (by intro q hq; simp only [List.mem_cons, List.not_mem_nil, or_false] at hq ⊢; rcases hq with e | e | e | e | e <;> simp [e]) (show [4, 6, 5, 3, 2, 1, 0].Nodup by decide) k
set_option maxRecDepth 100000 in
set_option maxHeartbeats 1000000 in
theorem tailX_0 {L i : Nat} {xs : Nat → Int32} {kc ks : Nat} {H : aH} {fs : List Value} {v c : Int32} {r : tO × aH × Nat × Nat} (h1 : H[195]? = some (kO 12 fs)) (h2 : fs[0]? = some (.int c)) (h3 : ¬ c = 0) (k : RP (L, xs) 2000 mr_law 33 [(4, .int (nI (i + 6))), (3, .ref 225), (2, .ref 196), (1, .ref 1), (0, .ref 0)] [] H kc ks r) : RP (L, xs) 2000 mr_law 249 [(6, .int v), (5, .int c), (4, .int (nI i)), (3, .ref 225), (2, .ref 196), (1, .ref 1), (0, .ref 0)] [] H kc ks r := by
  refine RP.blk 1 (pc' := 250) (lv' := [(6, .int v), (5, .int c), (4, .int (nI i)), (3, .ref 225), (2, .ref 196), (1, .ref 1), (0, .ref 0)]) (st' := [.ref 196]) (H' := H) (kc' := kc) (ks' := ks) rfl ?_
  refine RP.call (v := some (.int c)) (st' := []) rfl rfl rfl rfl rfl rfl (args_v0 (a := 195) rfl rfl (by decide) rfl h1 (by decide)) (rc_thrown h1 h2) ?_
  refine RP.blk 1 (pc' := 255) (lv' := [(6, .int v), (5, .int c), (4, .int (nI i)), (3, .ref 225), (2, .ref 196), (1, .ref 1), (0, .ref 0)]) (st' := [.int c, .int c]) (H' := H) (kc' := kc) (ks' := ks) rfl ?_
  refine RP.brT rfl rfl rfl (decide_eq_true rfl) ?_
  refine RP.blk 1 (pc' := 262) (lv' := [(6, .int v), (5, .int c), (4, .int (nI i)), (3, .ref 225), (2, .ref 196), (1, .ref 1), (0, .ref 0)]) (st' := [.int c]) (H' := H) (kc' := kc) (ks' := ks) rfl ?_
  refine RP.brT rfl rfl rfl (bnt h3) ?_
  refine seg_RP (f := 0) (d := 1999) 3 (pc' := 33) (lv' := [(4, .int (nI i + 6)), (6, .int v), (5, .int c), (3, .ref 225), (2, .ref 196), (1, .ref 1), (0, .ref 0)]) (st' := []) (H' := H) (kc' := kc) (ks' := ks) rfl ?_
  rw [nI_6]
  exact RP.more (by intro q hq; simp only [List.mem_cons, List.not_mem_nil, or_false] at hq ⊢; rcases hq with e | e | e | e | e <;> simp [e]) (show [4, 6, 5, 3, 2, 1, 0].Nodup by decide) k
set_option maxRecDepth 100000 in
set_option maxHeartbeats 1000000 in
theorem tail_1 {L i : Nat} {xs : Nat → Int32} {kc ks : Nat} {H : aH} {fs : List Value} {f : Nat → Int64} {v : Int32} {r : tO × aH × Nat × Nat} (h1 : H[195]? = some (kO 12 fs)) (h2 : fs[0]? = some (.int 0)) (h3 : H[224]? = some (kJ 1 f)) (h4 : f 0 = v.toInt64) (k : RP (L, xs) 2000 mr_law 33 [(4, .int (nI (i + 6))), (3, .ref 225), (2, .ref 196), (1, .ref 1), (0, .ref 0)] [] H kc ks r) : RP (L, xs) 2000 mr_law 317 [(6, .int v), (5, .int 0), (4, .int (nI i)), (3, .ref 225), (2, .ref 196), (1, .ref 1), (0, .ref 0)] [] H kc ks r := by
  refine RP.blk 1 (pc' := 318) (lv' := [(6, .int v), (5, .int 0), (4, .int (nI i)), (3, .ref 225), (2, .ref 196), (1, .ref 1), (0, .ref 0)]) (st' := [.ref 196]) (H' := H) (kc' := kc) (ks' := ks) rfl ?_
  refine RP.call (v := some (.int 0)) (st' := []) rfl rfl rfl rfl rfl rfl (args_v0 (a := 195) rfl rfl (by decide) rfl h1 (by decide)) (rc_thrown h1 h2) ?_
  refine seg_RP (f := 0) (d := 1999) 6 (pc' := 335) (lv' := [(6, .int v), (5, .int 0), (4, .int (nI i)), (3, .ref 225), (2, .ref 196), (1, .ref 1), (0, .ref 0)]) (st' := [.int 0, .ref 225]) (H' := H) (kc' := kc) (ks' := ks) rfl ?_
  refine RP.lald (a := 224) rfl h3 rfl ?_
  rw [show f (Int32.toNatClampNeg 0) = v.toInt64 from h4]
  refine RP.blk 3 (pc' := 340) (lv' := [(6, .int v), (5, .int 0), (4, .int (nI i)), (3, .ref 225), (2, .ref 196), (1, .ref 1), (0, .ref 0)]) (st' := [.int (lg_cmp v.toInt64 v.toInt64)]) (H' := H) (kc' := kc) (ks' := ks) rfl ?_
  rw [lg_self]
  refine seg_RP (f := 0) (d := 1999) 4 (pc' := 33) (lv' := [(4, .int (nI i + 6)), (6, .int v), (5, .int 0), (3, .ref 225), (2, .ref 196), (1, .ref 1), (0, .ref 0)]) (st' := []) (H' := H) (kc' := kc) (ks' := ks) rfl ?_
  rw [nI_6]
  exact RP.more (by intro q hq; simp only [List.mem_cons, List.not_mem_nil, or_false] at hq ⊢; rcases hq with e | e | e | e | e <;> simp [e]) (show [4, 6, 5, 3, 2, 1, 0].Nodup by decide) k
set_option maxRecDepth 100000 in
set_option maxHeartbeats 1000000 in
theorem tailX_1 {L i : Nat} {xs : Nat → Int32} {kc ks : Nat} {H : aH} {fs : List Value} {v c : Int32} {r : tO × aH × Nat × Nat} (h1 : H[195]? = some (kO 12 fs)) (h2 : fs[0]? = some (.int c)) (h3 : ¬ c = 0) (k : RP (L, xs) 2000 mr_law 33 [(4, .int (nI (i + 6))), (3, .ref 225), (2, .ref 196), (1, .ref 1), (0, .ref 0)] [] H kc ks r) : RP (L, xs) 2000 mr_law 317 [(6, .int v), (5, .int c), (4, .int (nI i)), (3, .ref 225), (2, .ref 196), (1, .ref 1), (0, .ref 0)] [] H kc ks r := by
  refine RP.blk 1 (pc' := 318) (lv' := [(6, .int v), (5, .int c), (4, .int (nI i)), (3, .ref 225), (2, .ref 196), (1, .ref 1), (0, .ref 0)]) (st' := [.ref 196]) (H' := H) (kc' := kc) (ks' := ks) rfl ?_
  refine RP.call (v := some (.int c)) (st' := []) rfl rfl rfl rfl rfl rfl (args_v0 (a := 195) rfl rfl (by decide) rfl h1 (by decide)) (rc_thrown h1 h2) ?_
  refine RP.blk 1 (pc' := 323) (lv' := [(6, .int v), (5, .int c), (4, .int (nI i)), (3, .ref 225), (2, .ref 196), (1, .ref 1), (0, .ref 0)]) (st' := [.int c, .int c]) (H' := H) (kc' := kc) (ks' := ks) rfl ?_
  refine RP.brT rfl rfl rfl (decide_eq_true rfl) ?_
  refine RP.blk 1 (pc' := 330) (lv' := [(6, .int v), (5, .int c), (4, .int (nI i)), (3, .ref 225), (2, .ref 196), (1, .ref 1), (0, .ref 0)]) (st' := [.int c]) (H' := H) (kc' := kc) (ks' := ks) rfl ?_
  refine RP.brT rfl rfl rfl (bnt h3) ?_
  refine seg_RP (f := 0) (d := 1999) 3 (pc' := 33) (lv' := [(4, .int (nI i + 6)), (6, .int v), (5, .int c), (3, .ref 225), (2, .ref 196), (1, .ref 1), (0, .ref 0)]) (st' := []) (H' := H) (kc' := kc) (ks' := ks) rfl ?_
  rw [nI_6]
  exact RP.more (by intro q hq; simp only [List.mem_cons, List.not_mem_nil, or_false] at hq ⊢; rcases hq with e | e | e | e | e <;> simp [e]) (show [4, 6, 5, 3, 2, 1, 0].Nodup by decide) k
set_option maxRecDepth 100000 in
set_option maxHeartbeats 1000000 in
theorem tail_2 {L i : Nat} {xs : Nat → Int32} {kc ks : Nat} {H : aH} {fs : List Value} {f : Nat → Int64} {v : Int32} {r : tO × aH × Nat × Nat} (h1 : H[195]? = some (kO 12 fs)) (h2 : fs[0]? = some (.int 0)) (h3 : H[224]? = some (kJ 1 f)) (h4 : f 0 = v.toInt64) (k : RP (L, xs) 2000 mr_law 33 [(4, .int (nI (i + 6))), (3, .ref 225), (2, .ref 196), (1, .ref 1), (0, .ref 0)] [] H kc ks r) : RP (L, xs) 2000 mr_law 373 [(6, .int v), (5, .int 0), (4, .int (nI i)), (3, .ref 225), (2, .ref 196), (1, .ref 1), (0, .ref 0)] [] H kc ks r := by
  refine RP.blk 1 (pc' := 374) (lv' := [(6, .int v), (5, .int 0), (4, .int (nI i)), (3, .ref 225), (2, .ref 196), (1, .ref 1), (0, .ref 0)]) (st' := [.ref 196]) (H' := H) (kc' := kc) (ks' := ks) rfl ?_
  refine RP.call (v := some (.int 0)) (st' := []) rfl rfl rfl rfl rfl rfl (args_v0 (a := 195) rfl rfl (by decide) rfl h1 (by decide)) (rc_thrown h1 h2) ?_
  refine seg_RP (f := 0) (d := 1999) 6 (pc' := 391) (lv' := [(6, .int v), (5, .int 0), (4, .int (nI i)), (3, .ref 225), (2, .ref 196), (1, .ref 1), (0, .ref 0)]) (st' := [.int 0, .ref 225]) (H' := H) (kc' := kc) (ks' := ks) rfl ?_
  refine RP.lald (a := 224) rfl h3 rfl ?_
  rw [show f (Int32.toNatClampNeg 0) = v.toInt64 from h4]
  refine RP.blk 3 (pc' := 396) (lv' := [(6, .int v), (5, .int 0), (4, .int (nI i)), (3, .ref 225), (2, .ref 196), (1, .ref 1), (0, .ref 0)]) (st' := [.int (lg_cmp v.toInt64 v.toInt64)]) (H' := H) (kc' := kc) (ks' := ks) rfl ?_
  rw [lg_self]
  refine seg_RP (f := 0) (d := 1999) 4 (pc' := 33) (lv' := [(4, .int (nI i + 6)), (6, .int v), (5, .int 0), (3, .ref 225), (2, .ref 196), (1, .ref 1), (0, .ref 0)]) (st' := []) (H' := H) (kc' := kc) (ks' := ks) rfl ?_
  rw [nI_6]
  exact RP.more (by intro q hq; simp only [List.mem_cons, List.not_mem_nil, or_false] at hq ⊢; rcases hq with e | e | e | e | e <;> simp [e]) (show [4, 6, 5, 3, 2, 1, 0].Nodup by decide) k
set_option maxRecDepth 100000 in
set_option maxHeartbeats 1000000 in
theorem tailX_2 {L i : Nat} {xs : Nat → Int32} {kc ks : Nat} {H : aH} {fs : List Value} {v c : Int32} {r : tO × aH × Nat × Nat} (h1 : H[195]? = some (kO 12 fs)) (h2 : fs[0]? = some (.int c)) (h3 : ¬ c = 0) (k : RP (L, xs) 2000 mr_law 33 [(4, .int (nI (i + 6))), (3, .ref 225), (2, .ref 196), (1, .ref 1), (0, .ref 0)] [] H kc ks r) : RP (L, xs) 2000 mr_law 373 [(6, .int v), (5, .int c), (4, .int (nI i)), (3, .ref 225), (2, .ref 196), (1, .ref 1), (0, .ref 0)] [] H kc ks r := by
  refine RP.blk 1 (pc' := 374) (lv' := [(6, .int v), (5, .int c), (4, .int (nI i)), (3, .ref 225), (2, .ref 196), (1, .ref 1), (0, .ref 0)]) (st' := [.ref 196]) (H' := H) (kc' := kc) (ks' := ks) rfl ?_
  refine RP.call (v := some (.int c)) (st' := []) rfl rfl rfl rfl rfl rfl (args_v0 (a := 195) rfl rfl (by decide) rfl h1 (by decide)) (rc_thrown h1 h2) ?_
  refine RP.blk 1 (pc' := 379) (lv' := [(6, .int v), (5, .int c), (4, .int (nI i)), (3, .ref 225), (2, .ref 196), (1, .ref 1), (0, .ref 0)]) (st' := [.int c, .int c]) (H' := H) (kc' := kc) (ks' := ks) rfl ?_
  refine RP.brT rfl rfl rfl (decide_eq_true rfl) ?_
  refine RP.blk 1 (pc' := 386) (lv' := [(6, .int v), (5, .int c), (4, .int (nI i)), (3, .ref 225), (2, .ref 196), (1, .ref 1), (0, .ref 0)]) (st' := [.int c]) (H' := H) (kc' := kc) (ks' := ks) rfl ?_
  refine RP.brT rfl rfl rfl (bnt h3) ?_
  refine seg_RP (f := 0) (d := 1999) 3 (pc' := 33) (lv' := [(4, .int (nI i + 6)), (6, .int v), (5, .int c), (3, .ref 225), (2, .ref 196), (1, .ref 1), (0, .ref 0)]) (st' := []) (H' := H) (kc' := kc) (ks' := ks) rfl ?_
  rw [nI_6]
  exact RP.more (by intro q hq; simp only [List.mem_cons, List.not_mem_nil, or_false] at hq ⊢; rcases hq with e | e | e | e | e <;> simp [e]) (show [4, 6, 5, 3, 2, 1, 0].Nodup by decide) k
set_option maxRecDepth 100000 in
set_option maxHeartbeats 1000000 in
theorem tail_3 {L i : Nat} {xs : Nat → Int32} {kc ks : Nat} {H : aH} {fs : List Value} {f : Nat → Int64} {v : Int32} {r : tO × aH × Nat × Nat} (h1 : H[195]? = some (kO 12 fs)) (h2 : fs[0]? = some (.int 0)) (h3 : H[224]? = some (kJ 1 f)) (h4 : f 0 = v.toInt64) (k : RP (L, xs) 2000 mr_law 33 [(4, .int (nI (i + 6))), (3, .ref 225), (2, .ref 196), (1, .ref 1), (0, .ref 0)] [] H kc ks r) : RP (L, xs) 2000 mr_law 417 [(6, .int v), (5, .int 0), (4, .int (nI i)), (3, .ref 225), (2, .ref 196), (1, .ref 1), (0, .ref 0)] [] H kc ks r := by
  refine RP.blk 1 (pc' := 418) (lv' := [(6, .int v), (5, .int 0), (4, .int (nI i)), (3, .ref 225), (2, .ref 196), (1, .ref 1), (0, .ref 0)]) (st' := [.ref 196]) (H' := H) (kc' := kc) (ks' := ks) rfl ?_
  refine RP.call (v := some (.int 0)) (st' := []) rfl rfl rfl rfl rfl rfl (args_v0 (a := 195) rfl rfl (by decide) rfl h1 (by decide)) (rc_thrown h1 h2) ?_
  refine seg_RP (f := 0) (d := 1999) 6 (pc' := 435) (lv' := [(6, .int v), (5, .int 0), (4, .int (nI i)), (3, .ref 225), (2, .ref 196), (1, .ref 1), (0, .ref 0)]) (st' := [.int 0, .ref 225]) (H' := H) (kc' := kc) (ks' := ks) rfl ?_
  refine RP.lald (a := 224) rfl h3 rfl ?_
  rw [show f (Int32.toNatClampNeg 0) = v.toInt64 from h4]
  refine RP.blk 3 (pc' := 440) (lv' := [(6, .int v), (5, .int 0), (4, .int (nI i)), (3, .ref 225), (2, .ref 196), (1, .ref 1), (0, .ref 0)]) (st' := [.int (lg_cmp v.toInt64 v.toInt64)]) (H' := H) (kc' := kc) (ks' := ks) rfl ?_
  rw [lg_self]
  refine seg_RP (f := 0) (d := 1999) 4 (pc' := 33) (lv' := [(4, .int (nI i + 6)), (6, .int v), (5, .int 0), (3, .ref 225), (2, .ref 196), (1, .ref 1), (0, .ref 0)]) (st' := []) (H' := H) (kc' := kc) (ks' := ks) rfl ?_
  rw [nI_6]
  exact RP.more (by intro q hq; simp only [List.mem_cons, List.not_mem_nil, or_false] at hq ⊢; rcases hq with e | e | e | e | e <;> simp [e]) (show [4, 6, 5, 3, 2, 1, 0].Nodup by decide) k
set_option maxRecDepth 100000 in
set_option maxHeartbeats 1000000 in
theorem tailX_3 {L i : Nat} {xs : Nat → Int32} {kc ks : Nat} {H : aH} {fs : List Value} {v c : Int32} {r : tO × aH × Nat × Nat} (h1 : H[195]? = some (kO 12 fs)) (h2 : fs[0]? = some (.int c)) (h3 : ¬ c = 0) (k : RP (L, xs) 2000 mr_law 33 [(4, .int (nI (i + 6))), (3, .ref 225), (2, .ref 196), (1, .ref 1), (0, .ref 0)] [] H kc ks r) : RP (L, xs) 2000 mr_law 417 [(6, .int v), (5, .int c), (4, .int (nI i)), (3, .ref 225), (2, .ref 196), (1, .ref 1), (0, .ref 0)] [] H kc ks r := by
  refine RP.blk 1 (pc' := 418) (lv' := [(6, .int v), (5, .int c), (4, .int (nI i)), (3, .ref 225), (2, .ref 196), (1, .ref 1), (0, .ref 0)]) (st' := [.ref 196]) (H' := H) (kc' := kc) (ks' := ks) rfl ?_
  refine RP.call (v := some (.int c)) (st' := []) rfl rfl rfl rfl rfl rfl (args_v0 (a := 195) rfl rfl (by decide) rfl h1 (by decide)) (rc_thrown h1 h2) ?_
  refine RP.blk 1 (pc' := 423) (lv' := [(6, .int v), (5, .int c), (4, .int (nI i)), (3, .ref 225), (2, .ref 196), (1, .ref 1), (0, .ref 0)]) (st' := [.int c, .int c]) (H' := H) (kc' := kc) (ks' := ks) rfl ?_
  refine RP.brT rfl rfl rfl (decide_eq_true rfl) ?_
  refine RP.blk 1 (pc' := 430) (lv' := [(6, .int v), (5, .int c), (4, .int (nI i)), (3, .ref 225), (2, .ref 196), (1, .ref 1), (0, .ref 0)]) (st' := [.int c]) (H' := H) (kc' := kc) (ks' := ks) rfl ?_
  refine RP.brT rfl rfl rfl (bnt h3) ?_
  refine seg_RP (f := 0) (d := 1999) 3 (pc' := 33) (lv' := [(4, .int (nI i + 6)), (6, .int v), (5, .int c), (3, .ref 225), (2, .ref 196), (1, .ref 1), (0, .ref 0)]) (st' := []) (H' := H) (kc' := kc) (ks' := ks) rfl ?_
  rw [nI_6]
  exact RP.more (by intro q hq; simp only [List.mem_cons, List.not_mem_nil, or_false] at hq ⊢; rcases hq with e | e | e | e | e <;> simp [e]) (show [4, 6, 5, 3, 2, 1, 0].Nodup by decide) k
set_option maxRecDepth 100000 in
set_option maxHeartbeats 1000000 in
theorem tail_4 {L i : Nat} {xs : Nat → Int32} {kc ks : Nat} {H : aH} {fs : List Value} {f : Nat → Int64} {v : Int32} {r : tO × aH × Nat × Nat} (h1 : H[195]? = some (kO 12 fs)) (h2 : fs[0]? = some (.int 0)) (h3 : H[224]? = some (kJ 1 f)) (h4 : f 0 = v.toInt64) (k : RP (L, xs) 2000 mr_law 33 [(4, .int (nI (i + 6))), (3, .ref 225), (2, .ref 196), (1, .ref 1), (0, .ref 0)] [] H kc ks r) : RP (L, xs) 2000 mr_law 485 [(6, .int v), (5, .int 0), (4, .int (nI i)), (3, .ref 225), (2, .ref 196), (1, .ref 1), (0, .ref 0)] [] H kc ks r := by
  refine RP.blk 1 (pc' := 486) (lv' := [(6, .int v), (5, .int 0), (4, .int (nI i)), (3, .ref 225), (2, .ref 196), (1, .ref 1), (0, .ref 0)]) (st' := [.ref 196]) (H' := H) (kc' := kc) (ks' := ks) rfl ?_
  refine RP.call (v := some (.int 0)) (st' := []) rfl rfl rfl rfl rfl rfl (args_v0 (a := 195) rfl rfl (by decide) rfl h1 (by decide)) (rc_thrown h1 h2) ?_
  refine seg_RP (f := 0) (d := 1999) 6 (pc' := 503) (lv' := [(6, .int v), (5, .int 0), (4, .int (nI i)), (3, .ref 225), (2, .ref 196), (1, .ref 1), (0, .ref 0)]) (st' := [.int 0, .ref 225]) (H' := H) (kc' := kc) (ks' := ks) rfl ?_
  refine RP.lald (a := 224) rfl h3 rfl ?_
  rw [show f (Int32.toNatClampNeg 0) = v.toInt64 from h4]
  refine RP.blk 3 (pc' := 508) (lv' := [(6, .int v), (5, .int 0), (4, .int (nI i)), (3, .ref 225), (2, .ref 196), (1, .ref 1), (0, .ref 0)]) (st' := [.int (lg_cmp v.toInt64 v.toInt64)]) (H' := H) (kc' := kc) (ks' := ks) rfl ?_
  rw [lg_self]
  refine seg_RP (f := 0) (d := 1999) 4 (pc' := 33) (lv' := [(4, .int (nI i + 6)), (6, .int v), (5, .int 0), (3, .ref 225), (2, .ref 196), (1, .ref 1), (0, .ref 0)]) (st' := []) (H' := H) (kc' := kc) (ks' := ks) rfl ?_
  rw [nI_6]
  exact RP.more (by intro q hq; simp only [List.mem_cons, List.not_mem_nil, or_false] at hq ⊢; rcases hq with e | e | e | e | e <;> simp [e]) (show [4, 6, 5, 3, 2, 1, 0].Nodup by decide) k
set_option maxRecDepth 100000 in
set_option maxHeartbeats 1000000 in
theorem tailX_4 {L i : Nat} {xs : Nat → Int32} {kc ks : Nat} {H : aH} {fs : List Value} {v c : Int32} {r : tO × aH × Nat × Nat} (h1 : H[195]? = some (kO 12 fs)) (h2 : fs[0]? = some (.int c)) (h3 : ¬ c = 0) (k : RP (L, xs) 2000 mr_law 33 [(4, .int (nI (i + 6))), (3, .ref 225), (2, .ref 196), (1, .ref 1), (0, .ref 0)] [] H kc ks r) : RP (L, xs) 2000 mr_law 485 [(6, .int v), (5, .int c), (4, .int (nI i)), (3, .ref 225), (2, .ref 196), (1, .ref 1), (0, .ref 0)] [] H kc ks r := by
  refine RP.blk 1 (pc' := 486) (lv' := [(6, .int v), (5, .int c), (4, .int (nI i)), (3, .ref 225), (2, .ref 196), (1, .ref 1), (0, .ref 0)]) (st' := [.ref 196]) (H' := H) (kc' := kc) (ks' := ks) rfl ?_
  refine RP.call (v := some (.int c)) (st' := []) rfl rfl rfl rfl rfl rfl (args_v0 (a := 195) rfl rfl (by decide) rfl h1 (by decide)) (rc_thrown h1 h2) ?_
  refine RP.blk 1 (pc' := 491) (lv' := [(6, .int v), (5, .int c), (4, .int (nI i)), (3, .ref 225), (2, .ref 196), (1, .ref 1), (0, .ref 0)]) (st' := [.int c, .int c]) (H' := H) (kc' := kc) (ks' := ks) rfl ?_
  refine RP.brT rfl rfl rfl (decide_eq_true rfl) ?_
  refine RP.blk 1 (pc' := 498) (lv' := [(6, .int v), (5, .int c), (4, .int (nI i)), (3, .ref 225), (2, .ref 196), (1, .ref 1), (0, .ref 0)]) (st' := [.int c]) (H' := H) (kc' := kc) (ks' := ks) rfl ?_
  refine RP.brT rfl rfl rfl (bnt h3) ?_
  refine seg_RP (f := 0) (d := 1999) 3 (pc' := 33) (lv' := [(4, .int (nI i + 6)), (6, .int v), (5, .int c), (3, .ref 225), (2, .ref 196), (1, .ref 1), (0, .ref 0)]) (st' := []) (H' := H) (kc' := kc) (ks' := ks) rfl ?_
  rw [nI_6]
  exact RP.more (by intro q hq; simp only [List.mem_cons, List.not_mem_nil, or_false] at hq ⊢; rcases hq with e | e | e | e | e <;> simp [e]) (show [4, 6, 5, 3, 2, 1, 0].Nodup by decide) k
set_option maxRecDepth 100000 in
set_option maxHeartbeats 1000000 in
theorem tail_5 {L i : Nat} {xs : Nat → Int32} {kc ks : Nat} {H : aH} {fs : List Value} {f : Nat → Int64} {v : Int32} {r : tO × aH × Nat × Nat} (h1 : H[195]? = some (kO 12 fs)) (h2 : fs[0]? = some (.int 0)) (h3 : H[224]? = some (kJ 1 f)) (h4 : f 0 = v.toInt64) (k : RP (L, xs) 2000 mr_law 33 [(4, .int (nI (i + 6))), (3, .ref 225), (2, .ref 196), (1, .ref 1), (0, .ref 0)] [] H kc ks r) : RP (L, xs) 2000 mr_law 541 [(6, .int v), (5, .int 0), (4, .int (nI i)), (3, .ref 225), (2, .ref 196), (1, .ref 1), (0, .ref 0)] [] H kc ks r := by
  refine RP.blk 1 (pc' := 542) (lv' := [(6, .int v), (5, .int 0), (4, .int (nI i)), (3, .ref 225), (2, .ref 196), (1, .ref 1), (0, .ref 0)]) (st' := [.ref 196]) (H' := H) (kc' := kc) (ks' := ks) rfl ?_
  refine RP.call (v := some (.int 0)) (st' := []) rfl rfl rfl rfl rfl rfl (args_v0 (a := 195) rfl rfl (by decide) rfl h1 (by decide)) (rc_thrown h1 h2) ?_
  refine seg_RP (f := 0) (d := 1999) 6 (pc' := 559) (lv' := [(6, .int v), (5, .int 0), (4, .int (nI i)), (3, .ref 225), (2, .ref 196), (1, .ref 1), (0, .ref 0)]) (st' := [.int 0, .ref 225]) (H' := H) (kc' := kc) (ks' := ks) rfl ?_
  refine RP.lald (a := 224) rfl h3 rfl ?_
  rw [show f (Int32.toNatClampNeg 0) = v.toInt64 from h4]
  refine RP.blk 3 (pc' := 564) (lv' := [(6, .int v), (5, .int 0), (4, .int (nI i)), (3, .ref 225), (2, .ref 196), (1, .ref 1), (0, .ref 0)]) (st' := [.int (lg_cmp v.toInt64 v.toInt64)]) (H' := H) (kc' := kc) (ks' := ks) rfl ?_
  rw [lg_self]
  refine seg_RP (f := 0) (d := 1999) 4 (pc' := 33) (lv' := [(4, .int (nI i + 6)), (6, .int v), (5, .int 0), (3, .ref 225), (2, .ref 196), (1, .ref 1), (0, .ref 0)]) (st' := []) (H' := H) (kc' := kc) (ks' := ks) rfl ?_
  rw [nI_6]
  exact RP.more (by intro q hq; simp only [List.mem_cons, List.not_mem_nil, or_false] at hq ⊢; rcases hq with e | e | e | e | e <;> simp [e]) (show [4, 6, 5, 3, 2, 1, 0].Nodup by decide) k
set_option maxRecDepth 100000 in
set_option maxHeartbeats 1000000 in
theorem tailX_5 {L i : Nat} {xs : Nat → Int32} {kc ks : Nat} {H : aH} {fs : List Value} {v c : Int32} {r : tO × aH × Nat × Nat} (h1 : H[195]? = some (kO 12 fs)) (h2 : fs[0]? = some (.int c)) (h3 : ¬ c = 0) (k : RP (L, xs) 2000 mr_law 33 [(4, .int (nI (i + 6))), (3, .ref 225), (2, .ref 196), (1, .ref 1), (0, .ref 0)] [] H kc ks r) : RP (L, xs) 2000 mr_law 541 [(6, .int v), (5, .int c), (4, .int (nI i)), (3, .ref 225), (2, .ref 196), (1, .ref 1), (0, .ref 0)] [] H kc ks r := by
  refine RP.blk 1 (pc' := 542) (lv' := [(6, .int v), (5, .int c), (4, .int (nI i)), (3, .ref 225), (2, .ref 196), (1, .ref 1), (0, .ref 0)]) (st' := [.ref 196]) (H' := H) (kc' := kc) (ks' := ks) rfl ?_
  refine RP.call (v := some (.int c)) (st' := []) rfl rfl rfl rfl rfl rfl (args_v0 (a := 195) rfl rfl (by decide) rfl h1 (by decide)) (rc_thrown h1 h2) ?_
  refine RP.blk 1 (pc' := 547) (lv' := [(6, .int v), (5, .int c), (4, .int (nI i)), (3, .ref 225), (2, .ref 196), (1, .ref 1), (0, .ref 0)]) (st' := [.int c, .int c]) (H' := H) (kc' := kc) (ks' := ks) rfl ?_
  refine RP.brT rfl rfl rfl (decide_eq_true rfl) ?_
  refine RP.blk 1 (pc' := 554) (lv' := [(6, .int v), (5, .int c), (4, .int (nI i)), (3, .ref 225), (2, .ref 196), (1, .ref 1), (0, .ref 0)]) (st' := [.int c]) (H' := H) (kc' := kc) (ks' := ks) rfl ?_
  refine RP.brT rfl rfl rfl (bnt h3) ?_
  refine seg_RP (f := 0) (d := 1999) 3 (pc' := 33) (lv' := [(4, .int (nI i + 6)), (6, .int v), (5, .int c), (3, .ref 225), (2, .ref 196), (1, .ref 1), (0, .ref 0)]) (st' := []) (H' := H) (kc' := kc) (ks' := ks) rfl ?_
  rw [nI_6]
  exact RP.more (by intro q hq; simp only [List.mem_cons, List.not_mem_nil, or_false] at hq ⊢; rcases hq with e | e | e | e | e <;> simp [e]) (show [4, 6, 5, 3, 2, 1, 0].Nodup by decide) k
set_option maxRecDepth 100000 in
set_option maxHeartbeats 1000000 in
theorem tail_6 {L i : Nat} {xs : Nat → Int32} {kc ks : Nat} {H : aH} {fs : List Value} {f : Nat → Int64} {v : Int32} {r : tO × aH × Nat × Nat} (h1 : H[195]? = some (kO 12 fs)) (h2 : fs[0]? = some (.int 0)) (h3 : H[224]? = some (kJ 1 f)) (h4 : f 0 = v.toInt64) (k : RP (L, xs) 2000 mr_law 33 [(4, .int (nI (i + 6))), (3, .ref 225), (2, .ref 196), (1, .ref 1), (0, .ref 0)] [] H kc ks r) : RP (L, xs) 2000 mr_law 597 [(6, .int v), (5, .int 0), (4, .int (nI i)), (3, .ref 225), (2, .ref 196), (1, .ref 1), (0, .ref 0)] [] H kc ks r := by
  refine RP.blk 1 (pc' := 598) (lv' := [(6, .int v), (5, .int 0), (4, .int (nI i)), (3, .ref 225), (2, .ref 196), (1, .ref 1), (0, .ref 0)]) (st' := [.ref 196]) (H' := H) (kc' := kc) (ks' := ks) rfl ?_
  refine RP.call (v := some (.int 0)) (st' := []) rfl rfl rfl rfl rfl rfl (args_v0 (a := 195) rfl rfl (by decide) rfl h1 (by decide)) (rc_thrown h1 h2) ?_
  refine seg_RP (f := 0) (d := 1999) 6 (pc' := 615) (lv' := [(6, .int v), (5, .int 0), (4, .int (nI i)), (3, .ref 225), (2, .ref 196), (1, .ref 1), (0, .ref 0)]) (st' := [.int 0, .ref 225]) (H' := H) (kc' := kc) (ks' := ks) rfl ?_
  refine RP.lald (a := 224) rfl h3 rfl ?_
  rw [show f (Int32.toNatClampNeg 0) = v.toInt64 from h4]
  refine RP.blk 3 (pc' := 620) (lv' := [(6, .int v), (5, .int 0), (4, .int (nI i)), (3, .ref 225), (2, .ref 196), (1, .ref 1), (0, .ref 0)]) (st' := [.int (lg_cmp v.toInt64 v.toInt64)]) (H' := H) (kc' := kc) (ks' := ks) rfl ?_
  rw [lg_self]
  refine seg_RP (f := 0) (d := 1999) 4 (pc' := 33) (lv' := [(4, .int (nI i + 6)), (6, .int v), (5, .int 0), (3, .ref 225), (2, .ref 196), (1, .ref 1), (0, .ref 0)]) (st' := []) (H' := H) (kc' := kc) (ks' := ks) rfl ?_
  rw [nI_6]
  exact RP.more (by intro q hq; simp only [List.mem_cons, List.not_mem_nil, or_false] at hq ⊢; rcases hq with e | e | e | e | e <;> simp [e]) (show [4, 6, 5, 3, 2, 1, 0].Nodup by decide) k
set_option maxRecDepth 100000 in
set_option maxHeartbeats 1000000 in
theorem tailX_6 {L i : Nat} {xs : Nat → Int32} {kc ks : Nat} {H : aH} {fs : List Value} {v c : Int32} {r : tO × aH × Nat × Nat} (h1 : H[195]? = some (kO 12 fs)) (h2 : fs[0]? = some (.int c)) (h3 : ¬ c = 0) (k : RP (L, xs) 2000 mr_law 33 [(4, .int (nI (i + 6))), (3, .ref 225), (2, .ref 196), (1, .ref 1), (0, .ref 0)] [] H kc ks r) : RP (L, xs) 2000 mr_law 597 [(6, .int v), (5, .int c), (4, .int (nI i)), (3, .ref 225), (2, .ref 196), (1, .ref 1), (0, .ref 0)] [] H kc ks r := by
  refine RP.blk 1 (pc' := 598) (lv' := [(6, .int v), (5, .int c), (4, .int (nI i)), (3, .ref 225), (2, .ref 196), (1, .ref 1), (0, .ref 0)]) (st' := [.ref 196]) (H' := H) (kc' := kc) (ks' := ks) rfl ?_
  refine RP.call (v := some (.int c)) (st' := []) rfl rfl rfl rfl rfl rfl (args_v0 (a := 195) rfl rfl (by decide) rfl h1 (by decide)) (rc_thrown h1 h2) ?_
  refine RP.blk 1 (pc' := 603) (lv' := [(6, .int v), (5, .int c), (4, .int (nI i)), (3, .ref 225), (2, .ref 196), (1, .ref 1), (0, .ref 0)]) (st' := [.int c, .int c]) (H' := H) (kc' := kc) (ks' := ks) rfl ?_
  refine RP.brT rfl rfl rfl (decide_eq_true rfl) ?_
  refine RP.blk 1 (pc' := 610) (lv' := [(6, .int v), (5, .int c), (4, .int (nI i)), (3, .ref 225), (2, .ref 196), (1, .ref 1), (0, .ref 0)]) (st' := [.int c]) (H' := H) (kc' := kc) (ks' := ks) rfl ?_
  refine RP.brT rfl rfl rfl (bnt h3) ?_
  refine seg_RP (f := 0) (d := 1999) 3 (pc' := 33) (lv' := [(4, .int (nI i + 6)), (6, .int v), (5, .int c), (3, .ref 225), (2, .ref 196), (1, .ref 1), (0, .ref 0)]) (st' := []) (H' := H) (kc' := kc) (ks' := ks) rfl ?_
  rw [nI_6]
  exact RP.more (by intro q hq; simp only [List.mem_cons, List.not_mem_nil, or_false] at hq ⊢; rcases hq with e | e | e | e | e <;> simp [e]) (show [4, 6, 5, 3, 2, 1, 0].Nodup by decide) k
set_option maxRecDepth 100000 in
set_option maxHeartbeats 1000000 in
theorem tail_7 {L i : Nat} {xs : Nat → Int32} {kc ks : Nat} {H : aH} {fs : List Value} {f : Nat → Int64} {v : Int32} {r : tO × aH × Nat × Nat} (h1 : H[195]? = some (kO 12 fs)) (h2 : fs[0]? = some (.int 0)) (h3 : H[224]? = some (kJ 1 f)) (h4 : f 0 = v.toInt64) (k : RP (L, xs) 2000 mr_law 33 [(4, .int (nI (i + 6))), (3, .ref 225), (2, .ref 196), (1, .ref 1), (0, .ref 0)] [] H kc ks r) : RP (L, xs) 2000 mr_law 681 [(6, .int v), (5, .int 0), (4, .int (nI i)), (3, .ref 225), (2, .ref 196), (1, .ref 1), (0, .ref 0)] [] H kc ks r := by
  refine RP.blk 1 (pc' := 682) (lv' := [(6, .int v), (5, .int 0), (4, .int (nI i)), (3, .ref 225), (2, .ref 196), (1, .ref 1), (0, .ref 0)]) (st' := [.ref 196]) (H' := H) (kc' := kc) (ks' := ks) rfl ?_
  refine RP.call (v := some (.int 0)) (st' := []) rfl rfl rfl rfl rfl rfl (args_v0 (a := 195) rfl rfl (by decide) rfl h1 (by decide)) (rc_thrown h1 h2) ?_
  refine seg_RP (f := 0) (d := 1999) 6 (pc' := 699) (lv' := [(6, .int v), (5, .int 0), (4, .int (nI i)), (3, .ref 225), (2, .ref 196), (1, .ref 1), (0, .ref 0)]) (st' := [.int 0, .ref 225]) (H' := H) (kc' := kc) (ks' := ks) rfl ?_
  refine RP.lald (a := 224) rfl h3 rfl ?_
  rw [show f (Int32.toNatClampNeg 0) = v.toInt64 from h4]
  refine RP.blk 3 (pc' := 704) (lv' := [(6, .int v), (5, .int 0), (4, .int (nI i)), (3, .ref 225), (2, .ref 196), (1, .ref 1), (0, .ref 0)]) (st' := [.int (lg_cmp v.toInt64 v.toInt64)]) (H' := H) (kc' := kc) (ks' := ks) rfl ?_
  rw [lg_self]
  refine seg_RP (f := 0) (d := 1999) 4 (pc' := 33) (lv' := [(4, .int (nI i + 6)), (6, .int v), (5, .int 0), (3, .ref 225), (2, .ref 196), (1, .ref 1), (0, .ref 0)]) (st' := []) (H' := H) (kc' := kc) (ks' := ks) rfl ?_
  rw [nI_6]
  exact RP.more (by intro q hq; simp only [List.mem_cons, List.not_mem_nil, or_false] at hq ⊢; rcases hq with e | e | e | e | e <;> simp [e]) (show [4, 6, 5, 3, 2, 1, 0].Nodup by decide) k
set_option maxRecDepth 100000 in
set_option maxHeartbeats 1000000 in
theorem tailX_7 {L i : Nat} {xs : Nat → Int32} {kc ks : Nat} {H : aH} {fs : List Value} {v c : Int32} {r : tO × aH × Nat × Nat} (h1 : H[195]? = some (kO 12 fs)) (h2 : fs[0]? = some (.int c)) (h3 : ¬ c = 0) (k : RP (L, xs) 2000 mr_law 33 [(4, .int (nI (i + 6))), (3, .ref 225), (2, .ref 196), (1, .ref 1), (0, .ref 0)] [] H kc ks r) : RP (L, xs) 2000 mr_law 681 [(6, .int v), (5, .int c), (4, .int (nI i)), (3, .ref 225), (2, .ref 196), (1, .ref 1), (0, .ref 0)] [] H kc ks r := by
  refine RP.blk 1 (pc' := 682) (lv' := [(6, .int v), (5, .int c), (4, .int (nI i)), (3, .ref 225), (2, .ref 196), (1, .ref 1), (0, .ref 0)]) (st' := [.ref 196]) (H' := H) (kc' := kc) (ks' := ks) rfl ?_
  refine RP.call (v := some (.int c)) (st' := []) rfl rfl rfl rfl rfl rfl (args_v0 (a := 195) rfl rfl (by decide) rfl h1 (by decide)) (rc_thrown h1 h2) ?_
  refine RP.blk 1 (pc' := 687) (lv' := [(6, .int v), (5, .int c), (4, .int (nI i)), (3, .ref 225), (2, .ref 196), (1, .ref 1), (0, .ref 0)]) (st' := [.int c, .int c]) (H' := H) (kc' := kc) (ks' := ks) rfl ?_
  refine RP.brT rfl rfl rfl (decide_eq_true rfl) ?_
  refine RP.blk 1 (pc' := 694) (lv' := [(6, .int v), (5, .int c), (4, .int (nI i)), (3, .ref 225), (2, .ref 196), (1, .ref 1), (0, .ref 0)]) (st' := [.int c]) (H' := H) (kc' := kc) (ks' := ks) rfl ?_
  refine RP.brT rfl rfl rfl (bnt h3) ?_
  refine seg_RP (f := 0) (d := 1999) 3 (pc' := 33) (lv' := [(4, .int (nI i + 6)), (6, .int v), (5, .int c), (3, .ref 225), (2, .ref 196), (1, .ref 1), (0, .ref 0)]) (st' := []) (H' := H) (kc' := kc) (ks' := ks) rfl ?_
  rw [nI_6]
  exact RP.more (by intro q hq; simp only [List.mem_cons, List.not_mem_nil, or_false] at hq ⊢; rcases hq with e | e | e | e | e <;> simp [e]) (show [4, 6, 5, 3, 2, 1, 0].Nodup by decide) k
set_option maxRecDepth 100000 in
set_option maxHeartbeats 1000000 in
theorem tail_8 {L i : Nat} {xs : Nat → Int32} {kc ks : Nat} {H : aH} {fs : List Value} {f : Nat → Int64} {v : Int32} {r : tO × aH × Nat × Nat} (h1 : H[195]? = some (kO 12 fs)) (h2 : fs[0]? = some (.int 0)) (h3 : H[224]? = some (kJ 1 f)) (h4 : f 0 = v.toInt64) (k : RP (L, xs) 2000 mr_law 33 [(4, .int (nI (i + 6))), (3, .ref 225), (2, .ref 196), (1, .ref 1), (0, .ref 0)] [] H kc ks r) : RP (L, xs) 2000 mr_law 737 [(6, .int v), (5, .int 0), (4, .int (nI i)), (3, .ref 225), (2, .ref 196), (1, .ref 1), (0, .ref 0)] [] H kc ks r := by
  refine RP.blk 1 (pc' := 738) (lv' := [(6, .int v), (5, .int 0), (4, .int (nI i)), (3, .ref 225), (2, .ref 196), (1, .ref 1), (0, .ref 0)]) (st' := [.ref 196]) (H' := H) (kc' := kc) (ks' := ks) rfl ?_
  refine RP.call (v := some (.int 0)) (st' := []) rfl rfl rfl rfl rfl rfl (args_v0 (a := 195) rfl rfl (by decide) rfl h1 (by decide)) (rc_thrown h1 h2) ?_
  refine seg_RP (f := 0) (d := 1999) 6 (pc' := 755) (lv' := [(6, .int v), (5, .int 0), (4, .int (nI i)), (3, .ref 225), (2, .ref 196), (1, .ref 1), (0, .ref 0)]) (st' := [.int 0, .ref 225]) (H' := H) (kc' := kc) (ks' := ks) rfl ?_
  refine RP.lald (a := 224) rfl h3 rfl ?_
  rw [show f (Int32.toNatClampNeg 0) = v.toInt64 from h4]
  refine RP.blk 3 (pc' := 760) (lv' := [(6, .int v), (5, .int 0), (4, .int (nI i)), (3, .ref 225), (2, .ref 196), (1, .ref 1), (0, .ref 0)]) (st' := [.int (lg_cmp v.toInt64 v.toInt64)]) (H' := H) (kc' := kc) (ks' := ks) rfl ?_
  rw [lg_self]
  refine seg_RP (f := 0) (d := 1999) 4 (pc' := 33) (lv' := [(4, .int (nI i + 6)), (6, .int v), (5, .int 0), (3, .ref 225), (2, .ref 196), (1, .ref 1), (0, .ref 0)]) (st' := []) (H' := H) (kc' := kc) (ks' := ks) rfl ?_
  rw [nI_6]
  exact RP.more (by intro q hq; simp only [List.mem_cons, List.not_mem_nil, or_false] at hq ⊢; rcases hq with e | e | e | e | e <;> simp [e]) (show [4, 6, 5, 3, 2, 1, 0].Nodup by decide) k
set_option maxRecDepth 100000 in
set_option maxHeartbeats 1000000 in
theorem tailX_8 {L i : Nat} {xs : Nat → Int32} {kc ks : Nat} {H : aH} {fs : List Value} {v c : Int32} {r : tO × aH × Nat × Nat} (h1 : H[195]? = some (kO 12 fs)) (h2 : fs[0]? = some (.int c)) (h3 : ¬ c = 0) (k : RP (L, xs) 2000 mr_law 33 [(4, .int (nI (i + 6))), (3, .ref 225), (2, .ref 196), (1, .ref 1), (0, .ref 0)] [] H kc ks r) : RP (L, xs) 2000 mr_law 737 [(6, .int v), (5, .int c), (4, .int (nI i)), (3, .ref 225), (2, .ref 196), (1, .ref 1), (0, .ref 0)] [] H kc ks r := by
  refine RP.blk 1 (pc' := 738) (lv' := [(6, .int v), (5, .int c), (4, .int (nI i)), (3, .ref 225), (2, .ref 196), (1, .ref 1), (0, .ref 0)]) (st' := [.ref 196]) (H' := H) (kc' := kc) (ks' := ks) rfl ?_
  refine RP.call (v := some (.int c)) (st' := []) rfl rfl rfl rfl rfl rfl (args_v0 (a := 195) rfl rfl (by decide) rfl h1 (by decide)) (rc_thrown h1 h2) ?_
  refine RP.blk 1 (pc' := 743) (lv' := [(6, .int v), (5, .int c), (4, .int (nI i)), (3, .ref 225), (2, .ref 196), (1, .ref 1), (0, .ref 0)]) (st' := [.int c, .int c]) (H' := H) (kc' := kc) (ks' := ks) rfl ?_
  refine RP.brT rfl rfl rfl (decide_eq_true rfl) ?_
  refine RP.blk 1 (pc' := 750) (lv' := [(6, .int v), (5, .int c), (4, .int (nI i)), (3, .ref 225), (2, .ref 196), (1, .ref 1), (0, .ref 0)]) (st' := [.int c]) (H' := H) (kc' := kc) (ks' := ks) rfl ?_
  refine RP.brT rfl rfl rfl (bnt h3) ?_
  refine seg_RP (f := 0) (d := 1999) 3 (pc' := 33) (lv' := [(4, .int (nI i + 6)), (6, .int v), (5, .int c), (3, .ref 225), (2, .ref 196), (1, .ref 1), (0, .ref 0)]) (st' := []) (H' := H) (kc' := kc) (ks' := ks) rfl ?_
  rw [nI_6]
  exact RP.more (by intro q hq; simp only [List.mem_cons, List.not_mem_nil, or_false] at hq ⊢; rcases hq with e | e | e | e | e <;> simp [e]) (show [4, 6, 5, 3, 2, 1, 0].Nodup by decide) k
set_option maxRecDepth 100000 in
set_option maxHeartbeats 1000000 in
theorem tail_9 {L i : Nat} {xs : Nat → Int32} {kc ks : Nat} {H : aH} {fs : List Value} {f : Nat → Int64} {v : Int32} {r : tO × aH × Nat × Nat} (h1 : H[195]? = some (kO 12 fs)) (h2 : fs[0]? = some (.int 0)) (h3 : H[224]? = some (kJ 1 f)) (h4 : f 0 = v.toInt64) (k : RP (L, xs) 2000 mr_law 33 [(4, .int (nI (i + 6))), (3, .ref 225), (2, .ref 196), (1, .ref 1), (0, .ref 0)] [] H kc ks r) : RP (L, xs) 2000 mr_law 793 [(6, .int v), (5, .int 0), (4, .int (nI i)), (3, .ref 225), (2, .ref 196), (1, .ref 1), (0, .ref 0)] [] H kc ks r := by
  refine RP.blk 1 (pc' := 794) (lv' := [(6, .int v), (5, .int 0), (4, .int (nI i)), (3, .ref 225), (2, .ref 196), (1, .ref 1), (0, .ref 0)]) (st' := [.ref 196]) (H' := H) (kc' := kc) (ks' := ks) rfl ?_
  refine RP.call (v := some (.int 0)) (st' := []) rfl rfl rfl rfl rfl rfl (args_v0 (a := 195) rfl rfl (by decide) rfl h1 (by decide)) (rc_thrown h1 h2) ?_
  refine seg_RP (f := 0) (d := 1999) 6 (pc' := 811) (lv' := [(6, .int v), (5, .int 0), (4, .int (nI i)), (3, .ref 225), (2, .ref 196), (1, .ref 1), (0, .ref 0)]) (st' := [.int 0, .ref 225]) (H' := H) (kc' := kc) (ks' := ks) rfl ?_
  refine RP.lald (a := 224) rfl h3 rfl ?_
  rw [show f (Int32.toNatClampNeg 0) = v.toInt64 from h4]
  refine RP.blk 3 (pc' := 816) (lv' := [(6, .int v), (5, .int 0), (4, .int (nI i)), (3, .ref 225), (2, .ref 196), (1, .ref 1), (0, .ref 0)]) (st' := [.int (lg_cmp v.toInt64 v.toInt64)]) (H' := H) (kc' := kc) (ks' := ks) rfl ?_
  rw [lg_self]
  refine seg_RP (f := 0) (d := 1999) 4 (pc' := 33) (lv' := [(4, .int (nI i + 6)), (6, .int v), (5, .int 0), (3, .ref 225), (2, .ref 196), (1, .ref 1), (0, .ref 0)]) (st' := []) (H' := H) (kc' := kc) (ks' := ks) rfl ?_
  rw [nI_6]
  exact RP.more (by intro q hq; simp only [List.mem_cons, List.not_mem_nil, or_false] at hq ⊢; rcases hq with e | e | e | e | e <;> simp [e]) (show [4, 6, 5, 3, 2, 1, 0].Nodup by decide) k
set_option maxRecDepth 100000 in
set_option maxHeartbeats 1000000 in
theorem tailX_9 {L i : Nat} {xs : Nat → Int32} {kc ks : Nat} {H : aH} {fs : List Value} {v c : Int32} {r : tO × aH × Nat × Nat} (h1 : H[195]? = some (kO 12 fs)) (h2 : fs[0]? = some (.int c)) (h3 : ¬ c = 0) (k : RP (L, xs) 2000 mr_law 33 [(4, .int (nI (i + 6))), (3, .ref 225), (2, .ref 196), (1, .ref 1), (0, .ref 0)] [] H kc ks r) : RP (L, xs) 2000 mr_law 793 [(6, .int v), (5, .int c), (4, .int (nI i)), (3, .ref 225), (2, .ref 196), (1, .ref 1), (0, .ref 0)] [] H kc ks r := by
  refine RP.blk 1 (pc' := 794) (lv' := [(6, .int v), (5, .int c), (4, .int (nI i)), (3, .ref 225), (2, .ref 196), (1, .ref 1), (0, .ref 0)]) (st' := [.ref 196]) (H' := H) (kc' := kc) (ks' := ks) rfl ?_
  refine RP.call (v := some (.int c)) (st' := []) rfl rfl rfl rfl rfl rfl (args_v0 (a := 195) rfl rfl (by decide) rfl h1 (by decide)) (rc_thrown h1 h2) ?_
  refine RP.blk 1 (pc' := 799) (lv' := [(6, .int v), (5, .int c), (4, .int (nI i)), (3, .ref 225), (2, .ref 196), (1, .ref 1), (0, .ref 0)]) (st' := [.int c, .int c]) (H' := H) (kc' := kc) (ks' := ks) rfl ?_
  refine RP.brT rfl rfl rfl (decide_eq_true rfl) ?_
  refine RP.blk 1 (pc' := 806) (lv' := [(6, .int v), (5, .int c), (4, .int (nI i)), (3, .ref 225), (2, .ref 196), (1, .ref 1), (0, .ref 0)]) (st' := [.int c]) (H' := H) (kc' := kc) (ks' := ks) rfl ?_
  refine RP.brT rfl rfl rfl (bnt h3) ?_
  refine seg_RP (f := 0) (d := 1999) 3 (pc' := 33) (lv' := [(4, .int (nI i + 6)), (6, .int v), (5, .int c), (3, .ref 225), (2, .ref 196), (1, .ref 1), (0, .ref 0)]) (st' := []) (H' := H) (kc' := kc) (ks' := ks) rfl ?_
  rw [nI_6]
  exact RP.more (by intro q hq; simp only [List.mem_cons, List.not_mem_nil, or_false] at hq ⊢; rcases hq with e | e | e | e | e <;> simp [e]) (show [4, 6, 5, 3, 2, 1, 0].Nodup by decide) k
set_option maxRecDepth 100000 in
set_option maxHeartbeats 1000000 in
theorem tail_10 {L i : Nat} {xs : Nat → Int32} {kc ks : Nat} {H : aH} {fs : List Value} {f : Nat → Int64} {v : Int32} {r : tO × aH × Nat × Nat} (h1 : H[195]? = some (kO 12 fs)) (h2 : fs[0]? = some (.int 0)) (h3 : H[224]? = some (kJ 1 f)) (h4 : f 0 = v.toInt64) (k : RP (L, xs) 2000 mr_law 33 [(4, .int (nI (i + 6))), (3, .ref 225), (2, .ref 196), (1, .ref 1), (0, .ref 0)] [] H kc ks r) : RP (L, xs) 2000 mr_law 837 [(6, .int v), (5, .int 0), (4, .int (nI i)), (3, .ref 225), (2, .ref 196), (1, .ref 1), (0, .ref 0)] [] H kc ks r := by
  refine RP.blk 1 (pc' := 838) (lv' := [(6, .int v), (5, .int 0), (4, .int (nI i)), (3, .ref 225), (2, .ref 196), (1, .ref 1), (0, .ref 0)]) (st' := [.ref 196]) (H' := H) (kc' := kc) (ks' := ks) rfl ?_
  refine RP.call (v := some (.int 0)) (st' := []) rfl rfl rfl rfl rfl rfl (args_v0 (a := 195) rfl rfl (by decide) rfl h1 (by decide)) (rc_thrown h1 h2) ?_
  refine seg_RP (f := 0) (d := 1999) 6 (pc' := 855) (lv' := [(6, .int v), (5, .int 0), (4, .int (nI i)), (3, .ref 225), (2, .ref 196), (1, .ref 1), (0, .ref 0)]) (st' := [.int 0, .ref 225]) (H' := H) (kc' := kc) (ks' := ks) rfl ?_
  refine RP.lald (a := 224) rfl h3 rfl ?_
  rw [show f (Int32.toNatClampNeg 0) = v.toInt64 from h4]
  refine RP.blk 3 (pc' := 860) (lv' := [(6, .int v), (5, .int 0), (4, .int (nI i)), (3, .ref 225), (2, .ref 196), (1, .ref 1), (0, .ref 0)]) (st' := [.int (lg_cmp v.toInt64 v.toInt64)]) (H' := H) (kc' := kc) (ks' := ks) rfl ?_
  rw [lg_self]
  refine seg_RP (f := 0) (d := 1999) 4 (pc' := 33) (lv' := [(4, .int (nI i + 6)), (6, .int v), (5, .int 0), (3, .ref 225), (2, .ref 196), (1, .ref 1), (0, .ref 0)]) (st' := []) (H' := H) (kc' := kc) (ks' := ks) rfl ?_
  rw [nI_6]
  exact RP.more (by intro q hq; simp only [List.mem_cons, List.not_mem_nil, or_false] at hq ⊢; rcases hq with e | e | e | e | e <;> simp [e]) (show [4, 6, 5, 3, 2, 1, 0].Nodup by decide) k
set_option maxRecDepth 100000 in
set_option maxHeartbeats 1000000 in
theorem tailX_10 {L i : Nat} {xs : Nat → Int32} {kc ks : Nat} {H : aH} {fs : List Value} {v c : Int32} {r : tO × aH × Nat × Nat} (h1 : H[195]? = some (kO 12 fs)) (h2 : fs[0]? = some (.int c)) (h3 : ¬ c = 0) (k : RP (L, xs) 2000 mr_law 33 [(4, .int (nI (i + 6))), (3, .ref 225), (2, .ref 196), (1, .ref 1), (0, .ref 0)] [] H kc ks r) : RP (L, xs) 2000 mr_law 837 [(6, .int v), (5, .int c), (4, .int (nI i)), (3, .ref 225), (2, .ref 196), (1, .ref 1), (0, .ref 0)] [] H kc ks r := by
  refine RP.blk 1 (pc' := 838) (lv' := [(6, .int v), (5, .int c), (4, .int (nI i)), (3, .ref 225), (2, .ref 196), (1, .ref 1), (0, .ref 0)]) (st' := [.ref 196]) (H' := H) (kc' := kc) (ks' := ks) rfl ?_
  refine RP.call (v := some (.int c)) (st' := []) rfl rfl rfl rfl rfl rfl (args_v0 (a := 195) rfl rfl (by decide) rfl h1 (by decide)) (rc_thrown h1 h2) ?_
  refine RP.blk 1 (pc' := 843) (lv' := [(6, .int v), (5, .int c), (4, .int (nI i)), (3, .ref 225), (2, .ref 196), (1, .ref 1), (0, .ref 0)]) (st' := [.int c, .int c]) (H' := H) (kc' := kc) (ks' := ks) rfl ?_
  refine RP.brT rfl rfl rfl (decide_eq_true rfl) ?_
  refine RP.blk 1 (pc' := 850) (lv' := [(6, .int v), (5, .int c), (4, .int (nI i)), (3, .ref 225), (2, .ref 196), (1, .ref 1), (0, .ref 0)]) (st' := [.int c]) (H' := H) (kc' := kc) (ks' := ks) rfl ?_
  refine RP.brT rfl rfl rfl (bnt h3) ?_
  refine seg_RP (f := 0) (d := 1999) 3 (pc' := 33) (lv' := [(4, .int (nI i + 6)), (6, .int v), (5, .int c), (3, .ref 225), (2, .ref 196), (1, .ref 1), (0, .ref 0)]) (st' := []) (H' := H) (kc' := kc) (ks' := ks) rfl ?_
  rw [nI_6]
  exact RP.more (by intro q hq; simp only [List.mem_cons, List.not_mem_nil, or_false] at hq ⊢; rcases hq with e | e | e | e | e <;> simp [e]) (show [4, 6, 5, 3, 2, 1, 0].Nodup by decide) k
set_option maxRecDepth 100000 in
set_option maxHeartbeats 1000000 in
theorem tail_11 {L i : Nat} {xs : Nat → Int32} {kc ks : Nat} {H : aH} {fs : List Value} {f : Nat → Int64} {v : Int32} {r : tO × aH × Nat × Nat} (h1 : H[195]? = some (kO 12 fs)) (h2 : fs[0]? = some (.int 0)) (h3 : H[224]? = some (kJ 1 f)) (h4 : f 0 = v.toInt64) (k : RP (L, xs) 2000 mr_law 33 [(4, .int (nI (i + 6))), (3, .ref 225), (2, .ref 196), (1, .ref 1), (0, .ref 0)] [] H kc ks r) : RP (L, xs) 2000 mr_law 909 [(6, .int v), (5, .int 0), (4, .int (nI i)), (3, .ref 225), (2, .ref 196), (1, .ref 1), (0, .ref 0)] [] H kc ks r := by
  refine RP.blk 1 (pc' := 910) (lv' := [(6, .int v), (5, .int 0), (4, .int (nI i)), (3, .ref 225), (2, .ref 196), (1, .ref 1), (0, .ref 0)]) (st' := [.ref 196]) (H' := H) (kc' := kc) (ks' := ks) rfl ?_
  refine RP.call (v := some (.int 0)) (st' := []) rfl rfl rfl rfl rfl rfl (args_v0 (a := 195) rfl rfl (by decide) rfl h1 (by decide)) (rc_thrown h1 h2) ?_
  refine seg_RP (f := 0) (d := 1999) 6 (pc' := 927) (lv' := [(6, .int v), (5, .int 0), (4, .int (nI i)), (3, .ref 225), (2, .ref 196), (1, .ref 1), (0, .ref 0)]) (st' := [.int 0, .ref 225]) (H' := H) (kc' := kc) (ks' := ks) rfl ?_
  refine RP.lald (a := 224) rfl h3 rfl ?_
  rw [show f (Int32.toNatClampNeg 0) = v.toInt64 from h4]
  refine RP.blk 3 (pc' := 932) (lv' := [(6, .int v), (5, .int 0), (4, .int (nI i)), (3, .ref 225), (2, .ref 196), (1, .ref 1), (0, .ref 0)]) (st' := [.int (lg_cmp v.toInt64 v.toInt64)]) (H' := H) (kc' := kc) (ks' := ks) rfl ?_
  rw [lg_self]
  refine seg_RP (f := 0) (d := 1999) 4 (pc' := 33) (lv' := [(4, .int (nI i + 6)), (6, .int v), (5, .int 0), (3, .ref 225), (2, .ref 196), (1, .ref 1), (0, .ref 0)]) (st' := []) (H' := H) (kc' := kc) (ks' := ks) rfl ?_
  rw [nI_6]
  exact RP.more (by intro q hq; simp only [List.mem_cons, List.not_mem_nil, or_false] at hq ⊢; rcases hq with e | e | e | e | e <;> simp [e]) (show [4, 6, 5, 3, 2, 1, 0].Nodup by decide) k
set_option maxRecDepth 100000 in
set_option maxHeartbeats 1000000 in
theorem tailX_11 {L i : Nat} {xs : Nat → Int32} {kc ks : Nat} {H : aH} {fs : List Value} {v c : Int32} {r : tO × aH × Nat × Nat} (h1 : H[195]? = some (kO 12 fs)) (h2 : fs[0]? = some (.int c)) (h3 : ¬ c = 0) (k : RP (L, xs) 2000 mr_law 33 [(4, .int (nI (i + 6))), (3, .ref 225), (2, .ref 196), (1, .ref 1), (0, .ref 0)] [] H kc ks r) : RP (L, xs) 2000 mr_law 909 [(6, .int v), (5, .int c), (4, .int (nI i)), (3, .ref 225), (2, .ref 196), (1, .ref 1), (0, .ref 0)] [] H kc ks r := by
  refine RP.blk 1 (pc' := 910) (lv' := [(6, .int v), (5, .int c), (4, .int (nI i)), (3, .ref 225), (2, .ref 196), (1, .ref 1), (0, .ref 0)]) (st' := [.ref 196]) (H' := H) (kc' := kc) (ks' := ks) rfl ?_
  refine RP.call (v := some (.int c)) (st' := []) rfl rfl rfl rfl rfl rfl (args_v0 (a := 195) rfl rfl (by decide) rfl h1 (by decide)) (rc_thrown h1 h2) ?_
  refine RP.blk 1 (pc' := 915) (lv' := [(6, .int v), (5, .int c), (4, .int (nI i)), (3, .ref 225), (2, .ref 196), (1, .ref 1), (0, .ref 0)]) (st' := [.int c, .int c]) (H' := H) (kc' := kc) (ks' := ks) rfl ?_
  refine RP.brT rfl rfl rfl (decide_eq_true rfl) ?_
  refine RP.blk 1 (pc' := 922) (lv' := [(6, .int v), (5, .int c), (4, .int (nI i)), (3, .ref 225), (2, .ref 196), (1, .ref 1), (0, .ref 0)]) (st' := [.int c]) (H' := H) (kc' := kc) (ks' := ks) rfl ?_
  refine RP.brT rfl rfl rfl (bnt h3) ?_
  refine seg_RP (f := 0) (d := 1999) 3 (pc' := 33) (lv' := [(4, .int (nI i + 6)), (6, .int v), (5, .int c), (3, .ref 225), (2, .ref 196), (1, .ref 1), (0, .ref 0)]) (st' := []) (H' := H) (kc' := kc) (ks' := ks) rfl ?_
  rw [nI_6]
  exact RP.more (by intro q hq; simp only [List.mem_cons, List.not_mem_nil, or_false] at hq ⊢; rcases hq with e | e | e | e | e <;> simp [e]) (show [4, 6, 5, 3, 2, 1, 0].Nodup by decide) k
set_option maxRecDepth 100000 in
set_option maxHeartbeats 1000000 in
theorem tail_12 {L i : Nat} {xs : Nat → Int32} {kc ks : Nat} {H : aH} {fs : List Value} {f : Nat → Int64} {v : Int32} {r : tO × aH × Nat × Nat} (h1 : H[195]? = some (kO 12 fs)) (h2 : fs[0]? = some (.int 0)) (h3 : H[224]? = some (kJ 1 f)) (h4 : f 0 = v.toInt64) (k : RP (L, xs) 2000 mr_law 33 [(4, .int (nI (i + 6))), (3, .ref 225), (2, .ref 196), (1, .ref 1), (0, .ref 0)] [] H kc ks r) : RP (L, xs) 2000 mr_law 953 [(6, .int v), (5, .int 0), (4, .int (nI i)), (3, .ref 225), (2, .ref 196), (1, .ref 1), (0, .ref 0)] [] H kc ks r := by
  refine RP.blk 1 (pc' := 954) (lv' := [(6, .int v), (5, .int 0), (4, .int (nI i)), (3, .ref 225), (2, .ref 196), (1, .ref 1), (0, .ref 0)]) (st' := [.ref 196]) (H' := H) (kc' := kc) (ks' := ks) rfl ?_
  refine RP.call (v := some (.int 0)) (st' := []) rfl rfl rfl rfl rfl rfl (args_v0 (a := 195) rfl rfl (by decide) rfl h1 (by decide)) (rc_thrown h1 h2) ?_
  refine seg_RP (f := 0) (d := 1999) 6 (pc' := 971) (lv' := [(6, .int v), (5, .int 0), (4, .int (nI i)), (3, .ref 225), (2, .ref 196), (1, .ref 1), (0, .ref 0)]) (st' := [.int 0, .ref 225]) (H' := H) (kc' := kc) (ks' := ks) rfl ?_
  refine RP.lald (a := 224) rfl h3 rfl ?_
  rw [show f (Int32.toNatClampNeg 0) = v.toInt64 from h4]
  refine RP.blk 3 (pc' := 976) (lv' := [(6, .int v), (5, .int 0), (4, .int (nI i)), (3, .ref 225), (2, .ref 196), (1, .ref 1), (0, .ref 0)]) (st' := [.int (lg_cmp v.toInt64 v.toInt64)]) (H' := H) (kc' := kc) (ks' := ks) rfl ?_
  rw [lg_self]
  refine seg_RP (f := 0) (d := 1999) 4 (pc' := 33) (lv' := [(4, .int (nI i + 6)), (6, .int v), (5, .int 0), (3, .ref 225), (2, .ref 196), (1, .ref 1), (0, .ref 0)]) (st' := []) (H' := H) (kc' := kc) (ks' := ks) rfl ?_
  rw [nI_6]
  exact RP.more (by intro q hq; simp only [List.mem_cons, List.not_mem_nil, or_false] at hq ⊢; rcases hq with e | e | e | e | e <;> simp [e]) (show [4, 6, 5, 3, 2, 1, 0].Nodup by decide) k
set_option maxRecDepth 100000 in
set_option maxHeartbeats 1000000 in
theorem tailX_12 {L i : Nat} {xs : Nat → Int32} {kc ks : Nat} {H : aH} {fs : List Value} {v c : Int32} {r : tO × aH × Nat × Nat} (h1 : H[195]? = some (kO 12 fs)) (h2 : fs[0]? = some (.int c)) (h3 : ¬ c = 0) (k : RP (L, xs) 2000 mr_law 33 [(4, .int (nI (i + 6))), (3, .ref 225), (2, .ref 196), (1, .ref 1), (0, .ref 0)] [] H kc ks r) : RP (L, xs) 2000 mr_law 953 [(6, .int v), (5, .int c), (4, .int (nI i)), (3, .ref 225), (2, .ref 196), (1, .ref 1), (0, .ref 0)] [] H kc ks r := by
  refine RP.blk 1 (pc' := 954) (lv' := [(6, .int v), (5, .int c), (4, .int (nI i)), (3, .ref 225), (2, .ref 196), (1, .ref 1), (0, .ref 0)]) (st' := [.ref 196]) (H' := H) (kc' := kc) (ks' := ks) rfl ?_
  refine RP.call (v := some (.int c)) (st' := []) rfl rfl rfl rfl rfl rfl (args_v0 (a := 195) rfl rfl (by decide) rfl h1 (by decide)) (rc_thrown h1 h2) ?_
  refine RP.blk 1 (pc' := 959) (lv' := [(6, .int v), (5, .int c), (4, .int (nI i)), (3, .ref 225), (2, .ref 196), (1, .ref 1), (0, .ref 0)]) (st' := [.int c, .int c]) (H' := H) (kc' := kc) (ks' := ks) rfl ?_
  refine RP.brT rfl rfl rfl (decide_eq_true rfl) ?_
  refine RP.blk 1 (pc' := 966) (lv' := [(6, .int v), (5, .int c), (4, .int (nI i)), (3, .ref 225), (2, .ref 196), (1, .ref 1), (0, .ref 0)]) (st' := [.int c]) (H' := H) (kc' := kc) (ks' := ks) rfl ?_
  refine RP.brT rfl rfl rfl (bnt h3) ?_
  refine seg_RP (f := 0) (d := 1999) 3 (pc' := 33) (lv' := [(4, .int (nI i + 6)), (6, .int v), (5, .int c), (3, .ref 225), (2, .ref 196), (1, .ref 1), (0, .ref 0)]) (st' := []) (H' := H) (kc' := kc) (ks' := ks) rfl ?_
  rw [nI_6]
  exact RP.more (by intro q hq; simp only [List.mem_cons, List.not_mem_nil, or_false] at hq ⊢; rcases hq with e | e | e | e | e <;> simp [e]) (show [4, 6, 5, 3, 2, 1, 0].Nodup by decide) k
set_option maxRecDepth 100000 in
set_option maxHeartbeats 1000000 in
theorem tail_13 {L i : Nat} {xs : Nat → Int32} {kc ks : Nat} {H : aH} {fs : List Value} {f : Nat → Int64} {v : Int32} {r : tO × aH × Nat × Nat} (h1 : H[195]? = some (kO 12 fs)) (h2 : fs[0]? = some (.int 0)) (h3 : H[224]? = some (kJ 1 f)) (h4 : f 0 = v.toInt64) (k : RP (L, xs) 2000 mr_law 33 [(4, .int (nI (i + 6))), (3, .ref 225), (2, .ref 196), (1, .ref 1), (0, .ref 0)] [] H kc ks r) : RP (L, xs) 2000 mr_law 1049 [(6, .int v), (5, .int 0), (4, .int (nI i)), (3, .ref 225), (2, .ref 196), (1, .ref 1), (0, .ref 0)] [] H kc ks r := by
  refine RP.blk 1 (pc' := 1050) (lv' := [(6, .int v), (5, .int 0), (4, .int (nI i)), (3, .ref 225), (2, .ref 196), (1, .ref 1), (0, .ref 0)]) (st' := [.ref 196]) (H' := H) (kc' := kc) (ks' := ks) rfl ?_
  refine RP.call (v := some (.int 0)) (st' := []) rfl rfl rfl rfl rfl rfl (args_v0 (a := 195) rfl rfl (by decide) rfl h1 (by decide)) (rc_thrown h1 h2) ?_
  refine seg_RP (f := 0) (d := 1999) 6 (pc' := 1067) (lv' := [(6, .int v), (5, .int 0), (4, .int (nI i)), (3, .ref 225), (2, .ref 196), (1, .ref 1), (0, .ref 0)]) (st' := [.int 0, .ref 225]) (H' := H) (kc' := kc) (ks' := ks) rfl ?_
  refine RP.lald (a := 224) rfl h3 rfl ?_
  rw [show f (Int32.toNatClampNeg 0) = v.toInt64 from h4]
  refine RP.blk 3 (pc' := 1072) (lv' := [(6, .int v), (5, .int 0), (4, .int (nI i)), (3, .ref 225), (2, .ref 196), (1, .ref 1), (0, .ref 0)]) (st' := [.int (lg_cmp v.toInt64 v.toInt64)]) (H' := H) (kc' := kc) (ks' := ks) rfl ?_
  rw [lg_self]
  refine seg_RP (f := 0) (d := 1999) 4 (pc' := 33) (lv' := [(4, .int (nI i + 6)), (6, .int v), (5, .int 0), (3, .ref 225), (2, .ref 196), (1, .ref 1), (0, .ref 0)]) (st' := []) (H' := H) (kc' := kc) (ks' := ks) rfl ?_
  rw [nI_6]
  exact RP.more (by intro q hq; simp only [List.mem_cons, List.not_mem_nil, or_false] at hq ⊢; rcases hq with e | e | e | e | e <;> simp [e]) (show [4, 6, 5, 3, 2, 1, 0].Nodup by decide) k
set_option maxRecDepth 100000 in
set_option maxHeartbeats 1000000 in
theorem tailX_13 {L i : Nat} {xs : Nat → Int32} {kc ks : Nat} {H : aH} {fs : List Value} {v c : Int32} {r : tO × aH × Nat × Nat} (h1 : H[195]? = some (kO 12 fs)) (h2 : fs[0]? = some (.int c)) (h3 : ¬ c = 0) (k : RP (L, xs) 2000 mr_law 33 [(4, .int (nI (i + 6))), (3, .ref 225), (2, .ref 196), (1, .ref 1), (0, .ref 0)] [] H kc ks r) : RP (L, xs) 2000 mr_law 1049 [(6, .int v), (5, .int c), (4, .int (nI i)), (3, .ref 225), (2, .ref 196), (1, .ref 1), (0, .ref 0)] [] H kc ks r := by
  refine RP.blk 1 (pc' := 1050) (lv' := [(6, .int v), (5, .int c), (4, .int (nI i)), (3, .ref 225), (2, .ref 196), (1, .ref 1), (0, .ref 0)]) (st' := [.ref 196]) (H' := H) (kc' := kc) (ks' := ks) rfl ?_
  refine RP.call (v := some (.int c)) (st' := []) rfl rfl rfl rfl rfl rfl (args_v0 (a := 195) rfl rfl (by decide) rfl h1 (by decide)) (rc_thrown h1 h2) ?_
  refine RP.blk 1 (pc' := 1055) (lv' := [(6, .int v), (5, .int c), (4, .int (nI i)), (3, .ref 225), (2, .ref 196), (1, .ref 1), (0, .ref 0)]) (st' := [.int c, .int c]) (H' := H) (kc' := kc) (ks' := ks) rfl ?_
  refine RP.brT rfl rfl rfl (decide_eq_true rfl) ?_
  refine RP.blk 1 (pc' := 1062) (lv' := [(6, .int v), (5, .int c), (4, .int (nI i)), (3, .ref 225), (2, .ref 196), (1, .ref 1), (0, .ref 0)]) (st' := [.int c]) (H' := H) (kc' := kc) (ks' := ks) rfl ?_
  refine RP.brT rfl rfl rfl (bnt h3) ?_
  refine seg_RP (f := 0) (d := 1999) 3 (pc' := 33) (lv' := [(4, .int (nI i + 6)), (6, .int v), (5, .int c), (3, .ref 225), (2, .ref 196), (1, .ref 1), (0, .ref 0)]) (st' := []) (H' := H) (kc' := kc) (ks' := ks) rfl ?_
  rw [nI_6]
  exact RP.more (by intro q hq; simp only [List.mem_cons, List.not_mem_nil, or_false] at hq ⊢; rcases hq with e | e | e | e | e <;> simp [e]) (show [4, 6, 5, 3, 2, 1, 0].Nodup by decide) k
set_option maxRecDepth 100000 in
set_option maxHeartbeats 1000000 in
theorem tail_14 {L i : Nat} {xs : Nat → Int32} {kc ks : Nat} {H : aH} {fs : List Value} {f : Nat → Int64} {v : Int32} {r : tO × aH × Nat × Nat} (h1 : H[195]? = some (kO 12 fs)) (h2 : fs[0]? = some (.int 0)) (h3 : H[224]? = some (kJ 1 f)) (h4 : f 0 = v.toInt64) (k : RP (L, xs) 2000 mr_law 33 [(4, .int (nI (i + 6))), (3, .ref 225), (2, .ref 196), (1, .ref 1), (0, .ref 0)] [] H kc ks r) : RP (L, xs) 2000 mr_law 1093 [(6, .int v), (5, .int 0), (4, .int (nI i)), (3, .ref 225), (2, .ref 196), (1, .ref 1), (0, .ref 0)] [] H kc ks r := by
  refine RP.blk 1 (pc' := 1094) (lv' := [(6, .int v), (5, .int 0), (4, .int (nI i)), (3, .ref 225), (2, .ref 196), (1, .ref 1), (0, .ref 0)]) (st' := [.ref 196]) (H' := H) (kc' := kc) (ks' := ks) rfl ?_
  refine RP.call (v := some (.int 0)) (st' := []) rfl rfl rfl rfl rfl rfl (args_v0 (a := 195) rfl rfl (by decide) rfl h1 (by decide)) (rc_thrown h1 h2) ?_
  refine seg_RP (f := 0) (d := 1999) 6 (pc' := 1111) (lv' := [(6, .int v), (5, .int 0), (4, .int (nI i)), (3, .ref 225), (2, .ref 196), (1, .ref 1), (0, .ref 0)]) (st' := [.int 0, .ref 225]) (H' := H) (kc' := kc) (ks' := ks) rfl ?_
  refine RP.lald (a := 224) rfl h3 rfl ?_
  rw [show f (Int32.toNatClampNeg 0) = v.toInt64 from h4]
  refine RP.blk 3 (pc' := 1116) (lv' := [(6, .int v), (5, .int 0), (4, .int (nI i)), (3, .ref 225), (2, .ref 196), (1, .ref 1), (0, .ref 0)]) (st' := [.int (lg_cmp v.toInt64 v.toInt64)]) (H' := H) (kc' := kc) (ks' := ks) rfl ?_
  rw [lg_self]
  refine seg_RP (f := 0) (d := 1999) 4 (pc' := 33) (lv' := [(4, .int (nI i + 6)), (6, .int v), (5, .int 0), (3, .ref 225), (2, .ref 196), (1, .ref 1), (0, .ref 0)]) (st' := []) (H' := H) (kc' := kc) (ks' := ks) rfl ?_
  rw [nI_6]
  exact RP.more (by intro q hq; simp only [List.mem_cons, List.not_mem_nil, or_false] at hq ⊢; rcases hq with e | e | e | e | e <;> simp [e]) (show [4, 6, 5, 3, 2, 1, 0].Nodup by decide) k
set_option maxRecDepth 100000 in
set_option maxHeartbeats 1000000 in
theorem tailX_14 {L i : Nat} {xs : Nat → Int32} {kc ks : Nat} {H : aH} {fs : List Value} {v c : Int32} {r : tO × aH × Nat × Nat} (h1 : H[195]? = some (kO 12 fs)) (h2 : fs[0]? = some (.int c)) (h3 : ¬ c = 0) (k : RP (L, xs) 2000 mr_law 33 [(4, .int (nI (i + 6))), (3, .ref 225), (2, .ref 196), (1, .ref 1), (0, .ref 0)] [] H kc ks r) : RP (L, xs) 2000 mr_law 1093 [(6, .int v), (5, .int c), (4, .int (nI i)), (3, .ref 225), (2, .ref 196), (1, .ref 1), (0, .ref 0)] [] H kc ks r := by
  refine RP.blk 1 (pc' := 1094) (lv' := [(6, .int v), (5, .int c), (4, .int (nI i)), (3, .ref 225), (2, .ref 196), (1, .ref 1), (0, .ref 0)]) (st' := [.ref 196]) (H' := H) (kc' := kc) (ks' := ks) rfl ?_
  refine RP.call (v := some (.int c)) (st' := []) rfl rfl rfl rfl rfl rfl (args_v0 (a := 195) rfl rfl (by decide) rfl h1 (by decide)) (rc_thrown h1 h2) ?_
  refine RP.blk 1 (pc' := 1099) (lv' := [(6, .int v), (5, .int c), (4, .int (nI i)), (3, .ref 225), (2, .ref 196), (1, .ref 1), (0, .ref 0)]) (st' := [.int c, .int c]) (H' := H) (kc' := kc) (ks' := ks) rfl ?_
  refine RP.brT rfl rfl rfl (decide_eq_true rfl) ?_
  refine RP.blk 1 (pc' := 1106) (lv' := [(6, .int v), (5, .int c), (4, .int (nI i)), (3, .ref 225), (2, .ref 196), (1, .ref 1), (0, .ref 0)]) (st' := [.int c]) (H' := H) (kc' := kc) (ks' := ks) rfl ?_
  refine RP.brT rfl rfl rfl (bnt h3) ?_
  refine seg_RP (f := 0) (d := 1999) 3 (pc' := 33) (lv' := [(4, .int (nI i + 6)), (6, .int v), (5, .int c), (3, .ref 225), (2, .ref 196), (1, .ref 1), (0, .ref 0)]) (st' := []) (H' := H) (kc' := kc) (ks' := ks) rfl ?_
  rw [nI_6]
  exact RP.more (by intro q hq; simp only [List.mem_cons, List.not_mem_nil, or_false] at hq ⊢; rcases hq with e | e | e | e | e <;> simp [e]) (show [4, 6, 5, 3, 2, 1, 0].Nodup by decide) k
set_option maxRecDepth 100000 in
set_option maxHeartbeats 1000000 in
theorem tail_16 {L i : Nat} {xs : Nat → Int32} {kc ks : Nat} {H : aH} {fs : List Value} {f : Nat → Int64} {v : Int32} {r : tO × aH × Nat × Nat} (h1 : H[195]? = some (kO 12 fs)) (h2 : fs[0]? = some (.int 0)) (h3 : H[224]? = some (kJ 1 f)) (h4 : f 0 = v.toInt64) (k : RP (L, xs) 2000 mr_law 33 [(4, .int (nI (i + 6))), (3, .ref 225), (2, .ref 196), (1, .ref 1), (0, .ref 0)] [] H kc ks r) : RP (L, xs) 2000 mr_law 1204 [(6, .int v), (5, .int 0), (4, .int (nI i)), (3, .ref 225), (2, .ref 196), (1, .ref 1), (0, .ref 0)] [] H kc ks r := by
  refine RP.blk 1 (pc' := 1205) (lv' := [(6, .int v), (5, .int 0), (4, .int (nI i)), (3, .ref 225), (2, .ref 196), (1, .ref 1), (0, .ref 0)]) (st' := [.ref 196]) (H' := H) (kc' := kc) (ks' := ks) rfl ?_
  refine RP.call (v := some (.int 0)) (st' := []) rfl rfl rfl rfl rfl rfl (args_v0 (a := 195) rfl rfl (by decide) rfl h1 (by decide)) (rc_thrown h1 h2) ?_
  refine seg_RP (f := 0) (d := 1999) 6 (pc' := 1222) (lv' := [(6, .int v), (5, .int 0), (4, .int (nI i)), (3, .ref 225), (2, .ref 196), (1, .ref 1), (0, .ref 0)]) (st' := [.int 0, .ref 225]) (H' := H) (kc' := kc) (ks' := ks) rfl ?_
  refine RP.lald (a := 224) rfl h3 rfl ?_
  rw [show f (Int32.toNatClampNeg 0) = v.toInt64 from h4]
  refine RP.blk 3 (pc' := 1227) (lv' := [(6, .int v), (5, .int 0), (4, .int (nI i)), (3, .ref 225), (2, .ref 196), (1, .ref 1), (0, .ref 0)]) (st' := [.int (lg_cmp v.toInt64 v.toInt64)]) (H' := H) (kc' := kc) (ks' := ks) rfl ?_
  rw [lg_self]
  refine seg_RP (f := 0) (d := 1999) 4 (pc' := 33) (lv' := [(4, .int (nI i + 6)), (6, .int v), (5, .int 0), (3, .ref 225), (2, .ref 196), (1, .ref 1), (0, .ref 0)]) (st' := []) (H' := H) (kc' := kc) (ks' := ks) rfl ?_
  rw [nI_6]
  exact RP.more (by intro q hq; simp only [List.mem_cons, List.not_mem_nil, or_false] at hq ⊢; rcases hq with e | e | e | e | e <;> simp [e]) (show [4, 6, 5, 3, 2, 1, 0].Nodup by decide) k
set_option maxRecDepth 100000 in
set_option maxHeartbeats 1000000 in
theorem tailX_16 {L i : Nat} {xs : Nat → Int32} {kc ks : Nat} {H : aH} {fs : List Value} {v c : Int32} {r : tO × aH × Nat × Nat} (h1 : H[195]? = some (kO 12 fs)) (h2 : fs[0]? = some (.int c)) (h3 : ¬ c = 0) (k : RP (L, xs) 2000 mr_law 33 [(4, .int (nI (i + 6))), (3, .ref 225), (2, .ref 196), (1, .ref 1), (0, .ref 0)] [] H kc ks r) : RP (L, xs) 2000 mr_law 1204 [(6, .int v), (5, .int c), (4, .int (nI i)), (3, .ref 225), (2, .ref 196), (1, .ref 1), (0, .ref 0)] [] H kc ks r := by
  refine RP.blk 1 (pc' := 1205) (lv' := [(6, .int v), (5, .int c), (4, .int (nI i)), (3, .ref 225), (2, .ref 196), (1, .ref 1), (0, .ref 0)]) (st' := [.ref 196]) (H' := H) (kc' := kc) (ks' := ks) rfl ?_
  refine RP.call (v := some (.int c)) (st' := []) rfl rfl rfl rfl rfl rfl (args_v0 (a := 195) rfl rfl (by decide) rfl h1 (by decide)) (rc_thrown h1 h2) ?_
  refine RP.blk 1 (pc' := 1210) (lv' := [(6, .int v), (5, .int c), (4, .int (nI i)), (3, .ref 225), (2, .ref 196), (1, .ref 1), (0, .ref 0)]) (st' := [.int c, .int c]) (H' := H) (kc' := kc) (ks' := ks) rfl ?_
  refine RP.brT rfl rfl rfl (decide_eq_true rfl) ?_
  refine RP.blk 1 (pc' := 1217) (lv' := [(6, .int v), (5, .int c), (4, .int (nI i)), (3, .ref 225), (2, .ref 196), (1, .ref 1), (0, .ref 0)]) (st' := [.int c]) (H' := H) (kc' := kc) (ks' := ks) rfl ?_
  refine RP.brT rfl rfl rfl (bnt h3) ?_
  refine seg_RP (f := 0) (d := 1999) 3 (pc' := 33) (lv' := [(4, .int (nI i + 6)), (6, .int v), (5, .int c), (3, .ref 225), (2, .ref 196), (1, .ref 1), (0, .ref 0)]) (st' := []) (H' := H) (kc' := kc) (ks' := ks) rfl ?_
  rw [nI_6]
  exact RP.more (by intro q hq; simp only [List.mem_cons, List.not_mem_nil, or_false] at hq ⊢; rcases hq with e | e | e | e | e <;> simp [e]) (show [4, 6, 5, 3, 2, 1, 0].Nodup by decide) k
set_option maxRecDepth 100000 in
set_option maxHeartbeats 1000000 in
theorem tail_17 {L i : Nat} {xs : Nat → Int32} {kc ks : Nat} {H : aH} {fs : List Value} {f : Nat → Int64} {v : Int32} {r : tO × aH × Nat × Nat} (h1 : H[195]? = some (kO 12 fs)) (h2 : fs[0]? = some (.int 0)) (h3 : H[224]? = some (kJ 1 f)) (h4 : f 0 = v.toInt64) (k : RP (L, xs) 2000 mr_law 33 [(4, .int (nI (i + 6))), (3, .ref 225), (2, .ref 196), (1, .ref 1), (0, .ref 0)] [] H kc ks r) : RP (L, xs) 2000 mr_law 1260 [(6, .int v), (5, .int 0), (4, .int (nI i)), (3, .ref 225), (2, .ref 196), (1, .ref 1), (0, .ref 0)] [] H kc ks r := by
  refine RP.blk 1 (pc' := 1261) (lv' := [(6, .int v), (5, .int 0), (4, .int (nI i)), (3, .ref 225), (2, .ref 196), (1, .ref 1), (0, .ref 0)]) (st' := [.ref 196]) (H' := H) (kc' := kc) (ks' := ks) rfl ?_
  refine RP.call (v := some (.int 0)) (st' := []) rfl rfl rfl rfl rfl rfl (args_v0 (a := 195) rfl rfl (by decide) rfl h1 (by decide)) (rc_thrown h1 h2) ?_
  refine seg_RP (f := 0) (d := 1999) 6 (pc' := 1278) (lv' := [(6, .int v), (5, .int 0), (4, .int (nI i)), (3, .ref 225), (2, .ref 196), (1, .ref 1), (0, .ref 0)]) (st' := [.int 0, .ref 225]) (H' := H) (kc' := kc) (ks' := ks) rfl ?_
  refine RP.lald (a := 224) rfl h3 rfl ?_
  rw [show f (Int32.toNatClampNeg 0) = v.toInt64 from h4]
  refine RP.blk 3 (pc' := 1283) (lv' := [(6, .int v), (5, .int 0), (4, .int (nI i)), (3, .ref 225), (2, .ref 196), (1, .ref 1), (0, .ref 0)]) (st' := [.int (lg_cmp v.toInt64 v.toInt64)]) (H' := H) (kc' := kc) (ks' := ks) rfl ?_
  rw [lg_self]
  refine seg_RP (f := 0) (d := 1999) 4 (pc' := 33) (lv' := [(4, .int (nI i + 6)), (6, .int v), (5, .int 0), (3, .ref 225), (2, .ref 196), (1, .ref 1), (0, .ref 0)]) (st' := []) (H' := H) (kc' := kc) (ks' := ks) rfl ?_
  rw [nI_6]
  exact RP.more (by intro q hq; simp only [List.mem_cons, List.not_mem_nil, or_false] at hq ⊢; rcases hq with e | e | e | e | e <;> simp [e]) (show [4, 6, 5, 3, 2, 1, 0].Nodup by decide) k
set_option maxRecDepth 100000 in
set_option maxHeartbeats 1000000 in
theorem tailX_17 {L i : Nat} {xs : Nat → Int32} {kc ks : Nat} {H : aH} {fs : List Value} {v c : Int32} {r : tO × aH × Nat × Nat} (h1 : H[195]? = some (kO 12 fs)) (h2 : fs[0]? = some (.int c)) (h3 : ¬ c = 0) (k : RP (L, xs) 2000 mr_law 33 [(4, .int (nI (i + 6))), (3, .ref 225), (2, .ref 196), (1, .ref 1), (0, .ref 0)] [] H kc ks r) : RP (L, xs) 2000 mr_law 1260 [(6, .int v), (5, .int c), (4, .int (nI i)), (3, .ref 225), (2, .ref 196), (1, .ref 1), (0, .ref 0)] [] H kc ks r := by
  refine RP.blk 1 (pc' := 1261) (lv' := [(6, .int v), (5, .int c), (4, .int (nI i)), (3, .ref 225), (2, .ref 196), (1, .ref 1), (0, .ref 0)]) (st' := [.ref 196]) (H' := H) (kc' := kc) (ks' := ks) rfl ?_
  refine RP.call (v := some (.int c)) (st' := []) rfl rfl rfl rfl rfl rfl (args_v0 (a := 195) rfl rfl (by decide) rfl h1 (by decide)) (rc_thrown h1 h2) ?_
  refine RP.blk 1 (pc' := 1266) (lv' := [(6, .int v), (5, .int c), (4, .int (nI i)), (3, .ref 225), (2, .ref 196), (1, .ref 1), (0, .ref 0)]) (st' := [.int c, .int c]) (H' := H) (kc' := kc) (ks' := ks) rfl ?_
  refine RP.brT rfl rfl rfl (decide_eq_true rfl) ?_
  refine RP.blk 1 (pc' := 1273) (lv' := [(6, .int v), (5, .int c), (4, .int (nI i)), (3, .ref 225), (2, .ref 196), (1, .ref 1), (0, .ref 0)]) (st' := [.int c]) (H' := H) (kc' := kc) (ks' := ks) rfl ?_
  refine RP.brT rfl rfl rfl (bnt h3) ?_
  refine seg_RP (f := 0) (d := 1999) 3 (pc' := 33) (lv' := [(4, .int (nI i + 6)), (6, .int v), (5, .int c), (3, .ref 225), (2, .ref 196), (1, .ref 1), (0, .ref 0)]) (st' := []) (H' := H) (kc' := kc) (ks' := ks) rfl ?_
  rw [nI_6]
  exact RP.more (by intro q hq; simp only [List.mem_cons, List.not_mem_nil, or_false] at hq ⊢; rcases hq with e | e | e | e | e <;> simp [e]) (show [4, 6, 5, 3, 2, 1, 0].Nodup by decide) k
set_option maxRecDepth 100000 in
set_option maxHeartbeats 1000000 in
theorem tail_18 {L i : Nat} {xs : Nat → Int32} {kc ks : Nat} {H : aH} {fs : List Value} {f : Nat → Int64} {v : Int32} {r : tO × aH × Nat × Nat} (h1 : H[195]? = some (kO 12 fs)) (h2 : fs[0]? = some (.int 0)) (h3 : H[224]? = some (kJ 1 f)) (h4 : f 0 = v.toInt64) (k : RP (L, xs) 2000 mr_law 33 [(4, .int (nI (i + 6))), (3, .ref 225), (2, .ref 196), (1, .ref 1), (0, .ref 0)] [] H kc ks r) : RP (L, xs) 2000 mr_law 1304 [(6, .int v), (5, .int 0), (4, .int (nI i)), (3, .ref 225), (2, .ref 196), (1, .ref 1), (0, .ref 0)] [] H kc ks r := by
  refine RP.blk 1 (pc' := 1305) (lv' := [(6, .int v), (5, .int 0), (4, .int (nI i)), (3, .ref 225), (2, .ref 196), (1, .ref 1), (0, .ref 0)]) (st' := [.ref 196]) (H' := H) (kc' := kc) (ks' := ks) rfl ?_
  refine RP.call (v := some (.int 0)) (st' := []) rfl rfl rfl rfl rfl rfl (args_v0 (a := 195) rfl rfl (by decide) rfl h1 (by decide)) (rc_thrown h1 h2) ?_
  refine seg_RP (f := 0) (d := 1999) 6 (pc' := 1322) (lv' := [(6, .int v), (5, .int 0), (4, .int (nI i)), (3, .ref 225), (2, .ref 196), (1, .ref 1), (0, .ref 0)]) (st' := [.int 0, .ref 225]) (H' := H) (kc' := kc) (ks' := ks) rfl ?_
  refine RP.lald (a := 224) rfl h3 rfl ?_
  rw [show f (Int32.toNatClampNeg 0) = v.toInt64 from h4]
  refine RP.blk 3 (pc' := 1327) (lv' := [(6, .int v), (5, .int 0), (4, .int (nI i)), (3, .ref 225), (2, .ref 196), (1, .ref 1), (0, .ref 0)]) (st' := [.int (lg_cmp v.toInt64 v.toInt64)]) (H' := H) (kc' := kc) (ks' := ks) rfl ?_
  rw [lg_self]
  refine seg_RP (f := 0) (d := 1999) 4 (pc' := 33) (lv' := [(4, .int (nI i + 6)), (6, .int v), (5, .int 0), (3, .ref 225), (2, .ref 196), (1, .ref 1), (0, .ref 0)]) (st' := []) (H' := H) (kc' := kc) (ks' := ks) rfl ?_
  rw [nI_6]
  exact RP.more (by intro q hq; simp only [List.mem_cons, List.not_mem_nil, or_false] at hq ⊢; rcases hq with e | e | e | e | e <;> simp [e]) (show [4, 6, 5, 3, 2, 1, 0].Nodup by decide) k
set_option maxRecDepth 100000 in
set_option maxHeartbeats 1000000 in
theorem tailX_18 {L i : Nat} {xs : Nat → Int32} {kc ks : Nat} {H : aH} {fs : List Value} {v c : Int32} {r : tO × aH × Nat × Nat} (h1 : H[195]? = some (kO 12 fs)) (h2 : fs[0]? = some (.int c)) (h3 : ¬ c = 0) (k : RP (L, xs) 2000 mr_law 33 [(4, .int (nI (i + 6))), (3, .ref 225), (2, .ref 196), (1, .ref 1), (0, .ref 0)] [] H kc ks r) : RP (L, xs) 2000 mr_law 1304 [(6, .int v), (5, .int c), (4, .int (nI i)), (3, .ref 225), (2, .ref 196), (1, .ref 1), (0, .ref 0)] [] H kc ks r := by
  refine RP.blk 1 (pc' := 1305) (lv' := [(6, .int v), (5, .int c), (4, .int (nI i)), (3, .ref 225), (2, .ref 196), (1, .ref 1), (0, .ref 0)]) (st' := [.ref 196]) (H' := H) (kc' := kc) (ks' := ks) rfl ?_
  refine RP.call (v := some (.int c)) (st' := []) rfl rfl rfl rfl rfl rfl (args_v0 (a := 195) rfl rfl (by decide) rfl h1 (by decide)) (rc_thrown h1 h2) ?_
  refine RP.blk 1 (pc' := 1310) (lv' := [(6, .int v), (5, .int c), (4, .int (nI i)), (3, .ref 225), (2, .ref 196), (1, .ref 1), (0, .ref 0)]) (st' := [.int c, .int c]) (H' := H) (kc' := kc) (ks' := ks) rfl ?_
  refine RP.brT rfl rfl rfl (decide_eq_true rfl) ?_
  refine RP.blk 1 (pc' := 1317) (lv' := [(6, .int v), (5, .int c), (4, .int (nI i)), (3, .ref 225), (2, .ref 196), (1, .ref 1), (0, .ref 0)]) (st' := [.int c]) (H' := H) (kc' := kc) (ks' := ks) rfl ?_
  refine RP.brT rfl rfl rfl (bnt h3) ?_
  refine seg_RP (f := 0) (d := 1999) 3 (pc' := 33) (lv' := [(4, .int (nI i + 6)), (6, .int v), (5, .int c), (3, .ref 225), (2, .ref 196), (1, .ref 1), (0, .ref 0)]) (st' := []) (H' := H) (kc' := kc) (ks' := ks) rfl ?_
  rw [nI_6]
  exact RP.more (by intro q hq; simp only [List.mem_cons, List.not_mem_nil, or_false] at hq ⊢; rcases hq with e | e | e | e | e <;> simp [e]) (show [4, 6, 5, 3, 2, 1, 0].Nodup by decide) k
set_option maxRecDepth 100000 in
set_option maxHeartbeats 1000000 in
theorem tail_19 {L i : Nat} {xs : Nat → Int32} {kc ks : Nat} {H : aH} {fs : List Value} {f : Nat → Int64} {v : Int32} {r : tO × aH × Nat × Nat} (h1 : H[195]? = some (kO 12 fs)) (h2 : fs[0]? = some (.int 0)) (h3 : H[224]? = some (kJ 1 f)) (h4 : f 0 = v.toInt64) (k : RP (L, xs) 2000 mr_law 33 [(4, .int (nI (i + 6))), (3, .ref 225), (2, .ref 196), (1, .ref 1), (0, .ref 0)] [] H kc ks r) : RP (L, xs) 2000 mr_law 1388 [(6, .int v), (5, .int 0), (4, .int (nI i)), (3, .ref 225), (2, .ref 196), (1, .ref 1), (0, .ref 0)] [] H kc ks r := by
  refine RP.blk 1 (pc' := 1389) (lv' := [(6, .int v), (5, .int 0), (4, .int (nI i)), (3, .ref 225), (2, .ref 196), (1, .ref 1), (0, .ref 0)]) (st' := [.ref 196]) (H' := H) (kc' := kc) (ks' := ks) rfl ?_
  refine RP.call (v := some (.int 0)) (st' := []) rfl rfl rfl rfl rfl rfl (args_v0 (a := 195) rfl rfl (by decide) rfl h1 (by decide)) (rc_thrown h1 h2) ?_
  refine seg_RP (f := 0) (d := 1999) 6 (pc' := 1406) (lv' := [(6, .int v), (5, .int 0), (4, .int (nI i)), (3, .ref 225), (2, .ref 196), (1, .ref 1), (0, .ref 0)]) (st' := [.int 0, .ref 225]) (H' := H) (kc' := kc) (ks' := ks) rfl ?_
  refine RP.lald (a := 224) rfl h3 rfl ?_
  rw [show f (Int32.toNatClampNeg 0) = v.toInt64 from h4]
  refine RP.blk 3 (pc' := 1411) (lv' := [(6, .int v), (5, .int 0), (4, .int (nI i)), (3, .ref 225), (2, .ref 196), (1, .ref 1), (0, .ref 0)]) (st' := [.int (lg_cmp v.toInt64 v.toInt64)]) (H' := H) (kc' := kc) (ks' := ks) rfl ?_
  rw [lg_self]
  refine seg_RP (f := 0) (d := 1999) 4 (pc' := 33) (lv' := [(4, .int (nI i + 6)), (6, .int v), (5, .int 0), (3, .ref 225), (2, .ref 196), (1, .ref 1), (0, .ref 0)]) (st' := []) (H' := H) (kc' := kc) (ks' := ks) rfl ?_
  rw [nI_6]
  exact RP.more (by intro q hq; simp only [List.mem_cons, List.not_mem_nil, or_false] at hq ⊢; rcases hq with e | e | e | e | e <;> simp [e]) (show [4, 6, 5, 3, 2, 1, 0].Nodup by decide) k
set_option maxRecDepth 100000 in
set_option maxHeartbeats 1000000 in
theorem tailX_19 {L i : Nat} {xs : Nat → Int32} {kc ks : Nat} {H : aH} {fs : List Value} {v c : Int32} {r : tO × aH × Nat × Nat} (h1 : H[195]? = some (kO 12 fs)) (h2 : fs[0]? = some (.int c)) (h3 : ¬ c = 0) (k : RP (L, xs) 2000 mr_law 33 [(4, .int (nI (i + 6))), (3, .ref 225), (2, .ref 196), (1, .ref 1), (0, .ref 0)] [] H kc ks r) : RP (L, xs) 2000 mr_law 1388 [(6, .int v), (5, .int c), (4, .int (nI i)), (3, .ref 225), (2, .ref 196), (1, .ref 1), (0, .ref 0)] [] H kc ks r := by
  refine RP.blk 1 (pc' := 1389) (lv' := [(6, .int v), (5, .int c), (4, .int (nI i)), (3, .ref 225), (2, .ref 196), (1, .ref 1), (0, .ref 0)]) (st' := [.ref 196]) (H' := H) (kc' := kc) (ks' := ks) rfl ?_
  refine RP.call (v := some (.int c)) (st' := []) rfl rfl rfl rfl rfl rfl (args_v0 (a := 195) rfl rfl (by decide) rfl h1 (by decide)) (rc_thrown h1 h2) ?_
  refine RP.blk 1 (pc' := 1394) (lv' := [(6, .int v), (5, .int c), (4, .int (nI i)), (3, .ref 225), (2, .ref 196), (1, .ref 1), (0, .ref 0)]) (st' := [.int c, .int c]) (H' := H) (kc' := kc) (ks' := ks) rfl ?_
  refine RP.brT rfl rfl rfl (decide_eq_true rfl) ?_
  refine RP.blk 1 (pc' := 1401) (lv' := [(6, .int v), (5, .int c), (4, .int (nI i)), (3, .ref 225), (2, .ref 196), (1, .ref 1), (0, .ref 0)]) (st' := [.int c]) (H' := H) (kc' := kc) (ks' := ks) rfl ?_
  refine RP.brT rfl rfl rfl (bnt h3) ?_
  refine seg_RP (f := 0) (d := 1999) 3 (pc' := 33) (lv' := [(4, .int (nI i + 6)), (6, .int v), (5, .int c), (3, .ref 225), (2, .ref 196), (1, .ref 1), (0, .ref 0)]) (st' := []) (H' := H) (kc' := kc) (ks' := ks) rfl ?_
  rw [nI_6]
  exact RP.more (by intro q hq; simp only [List.mem_cons, List.not_mem_nil, or_false] at hq ⊢; rcases hq with e | e | e | e | e <;> simp [e]) (show [4, 6, 5, 3, 2, 1, 0].Nodup by decide) k
set_option maxRecDepth 100000 in
set_option maxHeartbeats 1000000 in
theorem tail_20 {L i : Nat} {xs : Nat → Int32} {kc ks : Nat} {H : aH} {fs : List Value} {f : Nat → Int64} {v : Int32} {r : tO × aH × Nat × Nat} (h1 : H[195]? = some (kO 12 fs)) (h2 : fs[0]? = some (.int 0)) (h3 : H[224]? = some (kJ 1 f)) (h4 : f 0 = v.toInt64) (k : RP (L, xs) 2000 mr_law 33 [(4, .int (nI (i + 6))), (3, .ref 225), (2, .ref 196), (1, .ref 1), (0, .ref 0)] [] H kc ks r) : RP (L, xs) 2000 mr_law 1444 [(6, .int v), (5, .int 0), (4, .int (nI i)), (3, .ref 225), (2, .ref 196), (1, .ref 1), (0, .ref 0)] [] H kc ks r := by
  refine RP.blk 1 (pc' := 1445) (lv' := [(6, .int v), (5, .int 0), (4, .int (nI i)), (3, .ref 225), (2, .ref 196), (1, .ref 1), (0, .ref 0)]) (st' := [.ref 196]) (H' := H) (kc' := kc) (ks' := ks) rfl ?_
  refine RP.call (v := some (.int 0)) (st' := []) rfl rfl rfl rfl rfl rfl (args_v0 (a := 195) rfl rfl (by decide) rfl h1 (by decide)) (rc_thrown h1 h2) ?_
  refine seg_RP (f := 0) (d := 1999) 6 (pc' := 1462) (lv' := [(6, .int v), (5, .int 0), (4, .int (nI i)), (3, .ref 225), (2, .ref 196), (1, .ref 1), (0, .ref 0)]) (st' := [.int 0, .ref 225]) (H' := H) (kc' := kc) (ks' := ks) rfl ?_
  refine RP.lald (a := 224) rfl h3 rfl ?_
  rw [show f (Int32.toNatClampNeg 0) = v.toInt64 from h4]
  refine RP.blk 3 (pc' := 1467) (lv' := [(6, .int v), (5, .int 0), (4, .int (nI i)), (3, .ref 225), (2, .ref 196), (1, .ref 1), (0, .ref 0)]) (st' := [.int (lg_cmp v.toInt64 v.toInt64)]) (H' := H) (kc' := kc) (ks' := ks) rfl ?_
  rw [lg_self]
  refine seg_RP (f := 0) (d := 1999) 4 (pc' := 33) (lv' := [(4, .int (nI i + 6)), (6, .int v), (5, .int 0), (3, .ref 225), (2, .ref 196), (1, .ref 1), (0, .ref 0)]) (st' := []) (H' := H) (kc' := kc) (ks' := ks) rfl ?_
  rw [nI_6]
  exact RP.more (by intro q hq; simp only [List.mem_cons, List.not_mem_nil, or_false] at hq ⊢; rcases hq with e | e | e | e | e <;> simp [e]) (show [4, 6, 5, 3, 2, 1, 0].Nodup by decide) k
set_option maxRecDepth 100000 in
set_option maxHeartbeats 1000000 in
theorem tailX_20 {L i : Nat} {xs : Nat → Int32} {kc ks : Nat} {H : aH} {fs : List Value} {v c : Int32} {r : tO × aH × Nat × Nat} (h1 : H[195]? = some (kO 12 fs)) (h2 : fs[0]? = some (.int c)) (h3 : ¬ c = 0) (k : RP (L, xs) 2000 mr_law 33 [(4, .int (nI (i + 6))), (3, .ref 225), (2, .ref 196), (1, .ref 1), (0, .ref 0)] [] H kc ks r) : RP (L, xs) 2000 mr_law 1444 [(6, .int v), (5, .int c), (4, .int (nI i)), (3, .ref 225), (2, .ref 196), (1, .ref 1), (0, .ref 0)] [] H kc ks r := by
  refine RP.blk 1 (pc' := 1445) (lv' := [(6, .int v), (5, .int c), (4, .int (nI i)), (3, .ref 225), (2, .ref 196), (1, .ref 1), (0, .ref 0)]) (st' := [.ref 196]) (H' := H) (kc' := kc) (ks' := ks) rfl ?_
  refine RP.call (v := some (.int c)) (st' := []) rfl rfl rfl rfl rfl rfl (args_v0 (a := 195) rfl rfl (by decide) rfl h1 (by decide)) (rc_thrown h1 h2) ?_
  refine RP.blk 1 (pc' := 1450) (lv' := [(6, .int v), (5, .int c), (4, .int (nI i)), (3, .ref 225), (2, .ref 196), (1, .ref 1), (0, .ref 0)]) (st' := [.int c, .int c]) (H' := H) (kc' := kc) (ks' := ks) rfl ?_
  refine RP.brT rfl rfl rfl (decide_eq_true rfl) ?_
  refine RP.blk 1 (pc' := 1457) (lv' := [(6, .int v), (5, .int c), (4, .int (nI i)), (3, .ref 225), (2, .ref 196), (1, .ref 1), (0, .ref 0)]) (st' := [.int c]) (H' := H) (kc' := kc) (ks' := ks) rfl ?_
  refine RP.brT rfl rfl rfl (bnt h3) ?_
  refine seg_RP (f := 0) (d := 1999) 3 (pc' := 33) (lv' := [(4, .int (nI i + 6)), (6, .int v), (5, .int c), (3, .ref 225), (2, .ref 196), (1, .ref 1), (0, .ref 0)]) (st' := []) (H' := H) (kc' := kc) (ks' := ks) rfl ?_
  rw [nI_6]
  exact RP.more (by intro q hq; simp only [List.mem_cons, List.not_mem_nil, or_false] at hq ⊢; rcases hq with e | e | e | e | e <;> simp [e]) (show [4, 6, 5, 3, 2, 1, 0].Nodup by decide) k
set_option maxRecDepth 100000 in
set_option maxHeartbeats 1000000 in
theorem tail_21 {L i : Nat} {xs : Nat → Int32} {kc ks : Nat} {H : aH} {fs : List Value} {f : Nat → Int64} {v : Int32} {r : tO × aH × Nat × Nat} (h1 : H[195]? = some (kO 12 fs)) (h2 : fs[0]? = some (.int 0)) (h3 : H[224]? = some (kJ 1 f)) (h4 : f 0 = v.toInt64) (k : RP (L, xs) 2000 mr_law 33 [(4, .int (nI (i + 6))), (3, .ref 225), (2, .ref 196), (1, .ref 1), (0, .ref 0)] [] H kc ks r) : RP (L, xs) 2000 mr_law 1524 [(6, .int v), (5, .int 0), (4, .int (nI i)), (3, .ref 225), (2, .ref 196), (1, .ref 1), (0, .ref 0)] [] H kc ks r := by
  refine RP.blk 1 (pc' := 1525) (lv' := [(6, .int v), (5, .int 0), (4, .int (nI i)), (3, .ref 225), (2, .ref 196), (1, .ref 1), (0, .ref 0)]) (st' := [.ref 196]) (H' := H) (kc' := kc) (ks' := ks) rfl ?_
  refine RP.call (v := some (.int 0)) (st' := []) rfl rfl rfl rfl rfl rfl (args_v0 (a := 195) rfl rfl (by decide) rfl h1 (by decide)) (rc_thrown h1 h2) ?_
  refine seg_RP (f := 0) (d := 1999) 6 (pc' := 1542) (lv' := [(6, .int v), (5, .int 0), (4, .int (nI i)), (3, .ref 225), (2, .ref 196), (1, .ref 1), (0, .ref 0)]) (st' := [.int 0, .ref 225]) (H' := H) (kc' := kc) (ks' := ks) rfl ?_
  refine RP.lald (a := 224) rfl h3 rfl ?_
  rw [show f (Int32.toNatClampNeg 0) = v.toInt64 from h4]
  refine RP.blk 3 (pc' := 1547) (lv' := [(6, .int v), (5, .int 0), (4, .int (nI i)), (3, .ref 225), (2, .ref 196), (1, .ref 1), (0, .ref 0)]) (st' := [.int (lg_cmp v.toInt64 v.toInt64)]) (H' := H) (kc' := kc) (ks' := ks) rfl ?_
  rw [lg_self]
  refine seg_RP (f := 0) (d := 1999) 4 (pc' := 33) (lv' := [(4, .int (nI i + 6)), (6, .int v), (5, .int 0), (3, .ref 225), (2, .ref 196), (1, .ref 1), (0, .ref 0)]) (st' := []) (H' := H) (kc' := kc) (ks' := ks) rfl ?_
  rw [nI_6]
  exact RP.more (by intro q hq; simp only [List.mem_cons, List.not_mem_nil, or_false] at hq ⊢; rcases hq with e | e | e | e | e <;> simp [e]) (show [4, 6, 5, 3, 2, 1, 0].Nodup by decide) k
set_option maxRecDepth 100000 in
set_option maxHeartbeats 1000000 in
theorem tailX_21 {L i : Nat} {xs : Nat → Int32} {kc ks : Nat} {H : aH} {fs : List Value} {v c : Int32} {r : tO × aH × Nat × Nat} (h1 : H[195]? = some (kO 12 fs)) (h2 : fs[0]? = some (.int c)) (h3 : ¬ c = 0) (k : RP (L, xs) 2000 mr_law 33 [(4, .int (nI (i + 6))), (3, .ref 225), (2, .ref 196), (1, .ref 1), (0, .ref 0)] [] H kc ks r) : RP (L, xs) 2000 mr_law 1524 [(6, .int v), (5, .int c), (4, .int (nI i)), (3, .ref 225), (2, .ref 196), (1, .ref 1), (0, .ref 0)] [] H kc ks r := by
  refine RP.blk 1 (pc' := 1525) (lv' := [(6, .int v), (5, .int c), (4, .int (nI i)), (3, .ref 225), (2, .ref 196), (1, .ref 1), (0, .ref 0)]) (st' := [.ref 196]) (H' := H) (kc' := kc) (ks' := ks) rfl ?_
  refine RP.call (v := some (.int c)) (st' := []) rfl rfl rfl rfl rfl rfl (args_v0 (a := 195) rfl rfl (by decide) rfl h1 (by decide)) (rc_thrown h1 h2) ?_
  refine RP.blk 1 (pc' := 1530) (lv' := [(6, .int v), (5, .int c), (4, .int (nI i)), (3, .ref 225), (2, .ref 196), (1, .ref 1), (0, .ref 0)]) (st' := [.int c, .int c]) (H' := H) (kc' := kc) (ks' := ks) rfl ?_
  refine RP.brT rfl rfl rfl (decide_eq_true rfl) ?_
  refine RP.blk 1 (pc' := 1537) (lv' := [(6, .int v), (5, .int c), (4, .int (nI i)), (3, .ref 225), (2, .ref 196), (1, .ref 1), (0, .ref 0)]) (st' := [.int c]) (H' := H) (kc' := kc) (ks' := ks) rfl ?_
  refine RP.brT rfl rfl rfl (bnt h3) ?_
  refine seg_RP (f := 0) (d := 1999) 3 (pc' := 33) (lv' := [(4, .int (nI i + 6)), (6, .int v), (5, .int c), (3, .ref 225), (2, .ref 196), (1, .ref 1), (0, .ref 0)]) (st' := []) (H' := H) (kc' := kc) (ks' := ks) rfl ?_
  rw [nI_6]
  exact RP.more (by intro q hq; simp only [List.mem_cons, List.not_mem_nil, or_false] at hq ⊢; rcases hq with e | e | e | e | e <;> simp [e]) (show [4, 6, 5, 3, 2, 1, 0].Nodup by decide) k
set_option maxRecDepth 100000 in
set_option maxHeartbeats 1000000 in
theorem tail_22 {L i : Nat} {xs : Nat → Int32} {kc ks : Nat} {H : aH} {fs : List Value} {f : Nat → Int64} {v : Int32} {r : tO × aH × Nat × Nat} (h1 : H[195]? = some (kO 12 fs)) (h2 : fs[0]? = some (.int 0)) (h3 : H[224]? = some (kJ 1 f)) (h4 : f 0 = v.toInt64) (k : RP (L, xs) 2000 mr_law 33 [(4, .int (nI (i + 6))), (3, .ref 225), (2, .ref 196), (1, .ref 1), (0, .ref 0)] [] H kc ks r) : RP (L, xs) 2000 mr_law 1568 [(6, .int v), (5, .int 0), (4, .int (nI i)), (3, .ref 225), (2, .ref 196), (1, .ref 1), (0, .ref 0)] [] H kc ks r := by
  refine RP.blk 1 (pc' := 1569) (lv' := [(6, .int v), (5, .int 0), (4, .int (nI i)), (3, .ref 225), (2, .ref 196), (1, .ref 1), (0, .ref 0)]) (st' := [.ref 196]) (H' := H) (kc' := kc) (ks' := ks) rfl ?_
  refine RP.call (v := some (.int 0)) (st' := []) rfl rfl rfl rfl rfl rfl (args_v0 (a := 195) rfl rfl (by decide) rfl h1 (by decide)) (rc_thrown h1 h2) ?_
  refine seg_RP (f := 0) (d := 1999) 6 (pc' := 1586) (lv' := [(6, .int v), (5, .int 0), (4, .int (nI i)), (3, .ref 225), (2, .ref 196), (1, .ref 1), (0, .ref 0)]) (st' := [.int 0, .ref 225]) (H' := H) (kc' := kc) (ks' := ks) rfl ?_
  refine RP.lald (a := 224) rfl h3 rfl ?_
  rw [show f (Int32.toNatClampNeg 0) = v.toInt64 from h4]
  refine RP.blk 3 (pc' := 1591) (lv' := [(6, .int v), (5, .int 0), (4, .int (nI i)), (3, .ref 225), (2, .ref 196), (1, .ref 1), (0, .ref 0)]) (st' := [.int (lg_cmp v.toInt64 v.toInt64)]) (H' := H) (kc' := kc) (ks' := ks) rfl ?_
  rw [lg_self]
  refine seg_RP (f := 0) (d := 1999) 4 (pc' := 33) (lv' := [(4, .int (nI i + 6)), (6, .int v), (5, .int 0), (3, .ref 225), (2, .ref 196), (1, .ref 1), (0, .ref 0)]) (st' := []) (H' := H) (kc' := kc) (ks' := ks) rfl ?_
  rw [nI_6]
  exact RP.more (by intro q hq; simp only [List.mem_cons, List.not_mem_nil, or_false] at hq ⊢; rcases hq with e | e | e | e | e <;> simp [e]) (show [4, 6, 5, 3, 2, 1, 0].Nodup by decide) k
set_option maxRecDepth 100000 in
set_option maxHeartbeats 1000000 in
theorem tailX_22 {L i : Nat} {xs : Nat → Int32} {kc ks : Nat} {H : aH} {fs : List Value} {v c : Int32} {r : tO × aH × Nat × Nat} (h1 : H[195]? = some (kO 12 fs)) (h2 : fs[0]? = some (.int c)) (h3 : ¬ c = 0) (k : RP (L, xs) 2000 mr_law 33 [(4, .int (nI (i + 6))), (3, .ref 225), (2, .ref 196), (1, .ref 1), (0, .ref 0)] [] H kc ks r) : RP (L, xs) 2000 mr_law 1568 [(6, .int v), (5, .int c), (4, .int (nI i)), (3, .ref 225), (2, .ref 196), (1, .ref 1), (0, .ref 0)] [] H kc ks r := by
  refine RP.blk 1 (pc' := 1569) (lv' := [(6, .int v), (5, .int c), (4, .int (nI i)), (3, .ref 225), (2, .ref 196), (1, .ref 1), (0, .ref 0)]) (st' := [.ref 196]) (H' := H) (kc' := kc) (ks' := ks) rfl ?_
  refine RP.call (v := some (.int c)) (st' := []) rfl rfl rfl rfl rfl rfl (args_v0 (a := 195) rfl rfl (by decide) rfl h1 (by decide)) (rc_thrown h1 h2) ?_
  refine RP.blk 1 (pc' := 1574) (lv' := [(6, .int v), (5, .int c), (4, .int (nI i)), (3, .ref 225), (2, .ref 196), (1, .ref 1), (0, .ref 0)]) (st' := [.int c, .int c]) (H' := H) (kc' := kc) (ks' := ks) rfl ?_
  refine RP.brT rfl rfl rfl (decide_eq_true rfl) ?_
  refine RP.blk 1 (pc' := 1581) (lv' := [(6, .int v), (5, .int c), (4, .int (nI i)), (3, .ref 225), (2, .ref 196), (1, .ref 1), (0, .ref 0)]) (st' := [.int c]) (H' := H) (kc' := kc) (ks' := ks) rfl ?_
  refine RP.brT rfl rfl rfl (bnt h3) ?_
  refine seg_RP (f := 0) (d := 1999) 3 (pc' := 33) (lv' := [(4, .int (nI i + 6)), (6, .int v), (5, .int c), (3, .ref 225), (2, .ref 196), (1, .ref 1), (0, .ref 0)]) (st' := []) (H' := H) (kc' := kc) (ks' := ks) rfl ?_
  rw [nI_6]
  exact RP.more (by intro q hq; simp only [List.mem_cons, List.not_mem_nil, or_false] at hq ⊢; rcases hq with e | e | e | e | e <;> simp [e]) (show [4, 6, 5, 3, 2, 1, 0].Nodup by decide) k
set_option maxRecDepth 100000 in
set_option maxHeartbeats 1000000 in
theorem tail_23 {L i : Nat} {xs : Nat → Int32} {kc ks : Nat} {H : aH} {fs : List Value} {f : Nat → Int64} {v : Int32} {r : tO × aH × Nat × Nat} (h1 : H[195]? = some (kO 12 fs)) (h2 : fs[0]? = some (.int 0)) (h3 : H[224]? = some (kJ 1 f)) (h4 : f 0 = v.toInt64) (k : RP (L, xs) 2000 mr_law 33 [(4, .int (nI (i + 6))), (3, .ref 225), (2, .ref 196), (1, .ref 1), (0, .ref 0)] [] H kc ks r) : RP (L, xs) 2000 mr_law 1636 [(6, .int v), (5, .int 0), (4, .int (nI i)), (3, .ref 225), (2, .ref 196), (1, .ref 1), (0, .ref 0)] [] H kc ks r := by
  refine RP.blk 1 (pc' := 1637) (lv' := [(6, .int v), (5, .int 0), (4, .int (nI i)), (3, .ref 225), (2, .ref 196), (1, .ref 1), (0, .ref 0)]) (st' := [.ref 196]) (H' := H) (kc' := kc) (ks' := ks) rfl ?_
  refine RP.call (v := some (.int 0)) (st' := []) rfl rfl rfl rfl rfl rfl (args_v0 (a := 195) rfl rfl (by decide) rfl h1 (by decide)) (rc_thrown h1 h2) ?_
  refine seg_RP (f := 0) (d := 1999) 6 (pc' := 1654) (lv' := [(6, .int v), (5, .int 0), (4, .int (nI i)), (3, .ref 225), (2, .ref 196), (1, .ref 1), (0, .ref 0)]) (st' := [.int 0, .ref 225]) (H' := H) (kc' := kc) (ks' := ks) rfl ?_
  refine RP.lald (a := 224) rfl h3 rfl ?_
  rw [show f (Int32.toNatClampNeg 0) = v.toInt64 from h4]
  refine RP.blk 3 (pc' := 1659) (lv' := [(6, .int v), (5, .int 0), (4, .int (nI i)), (3, .ref 225), (2, .ref 196), (1, .ref 1), (0, .ref 0)]) (st' := [.int (lg_cmp v.toInt64 v.toInt64)]) (H' := H) (kc' := kc) (ks' := ks) rfl ?_
  rw [lg_self]
  refine seg_RP (f := 0) (d := 1999) 4 (pc' := 33) (lv' := [(4, .int (nI i + 6)), (6, .int v), (5, .int 0), (3, .ref 225), (2, .ref 196), (1, .ref 1), (0, .ref 0)]) (st' := []) (H' := H) (kc' := kc) (ks' := ks) rfl ?_
  rw [nI_6]
  exact RP.more (by intro q hq; simp only [List.mem_cons, List.not_mem_nil, or_false] at hq ⊢; rcases hq with e | e | e | e | e <;> simp [e]) (show [4, 6, 5, 3, 2, 1, 0].Nodup by decide) k
set_option maxRecDepth 100000 in
set_option maxHeartbeats 1000000 in
theorem tailX_23 {L i : Nat} {xs : Nat → Int32} {kc ks : Nat} {H : aH} {fs : List Value} {v c : Int32} {r : tO × aH × Nat × Nat} (h1 : H[195]? = some (kO 12 fs)) (h2 : fs[0]? = some (.int c)) (h3 : ¬ c = 0) (k : RP (L, xs) 2000 mr_law 33 [(4, .int (nI (i + 6))), (3, .ref 225), (2, .ref 196), (1, .ref 1), (0, .ref 0)] [] H kc ks r) : RP (L, xs) 2000 mr_law 1636 [(6, .int v), (5, .int c), (4, .int (nI i)), (3, .ref 225), (2, .ref 196), (1, .ref 1), (0, .ref 0)] [] H kc ks r := by
  refine RP.blk 1 (pc' := 1637) (lv' := [(6, .int v), (5, .int c), (4, .int (nI i)), (3, .ref 225), (2, .ref 196), (1, .ref 1), (0, .ref 0)]) (st' := [.ref 196]) (H' := H) (kc' := kc) (ks' := ks) rfl ?_
  refine RP.call (v := some (.int c)) (st' := []) rfl rfl rfl rfl rfl rfl (args_v0 (a := 195) rfl rfl (by decide) rfl h1 (by decide)) (rc_thrown h1 h2) ?_
  refine RP.blk 1 (pc' := 1642) (lv' := [(6, .int v), (5, .int c), (4, .int (nI i)), (3, .ref 225), (2, .ref 196), (1, .ref 1), (0, .ref 0)]) (st' := [.int c, .int c]) (H' := H) (kc' := kc) (ks' := ks) rfl ?_
  refine RP.brT rfl rfl rfl (decide_eq_true rfl) ?_
  refine RP.blk 1 (pc' := 1649) (lv' := [(6, .int v), (5, .int c), (4, .int (nI i)), (3, .ref 225), (2, .ref 196), (1, .ref 1), (0, .ref 0)]) (st' := [.int c]) (H' := H) (kc' := kc) (ks' := ks) rfl ?_
  refine RP.brT rfl rfl rfl (bnt h3) ?_
  refine seg_RP (f := 0) (d := 1999) 3 (pc' := 33) (lv' := [(4, .int (nI i + 6)), (6, .int v), (5, .int c), (3, .ref 225), (2, .ref 196), (1, .ref 1), (0, .ref 0)]) (st' := []) (H' := H) (kc' := kc) (ks' := ks) rfl ?_
  rw [nI_6]
  exact RP.more (by intro q hq; simp only [List.mem_cons, List.not_mem_nil, or_false] at hq ⊢; rcases hq with e | e | e | e | e <;> simp [e]) (show [4, 6, 5, 3, 2, 1, 0].Nodup by decide) k
set_option maxRecDepth 100000 in
set_option maxHeartbeats 1000000 in
theorem tail_24 {L i : Nat} {xs : Nat → Int32} {kc ks : Nat} {H : aH} {fs : List Value} {f : Nat → Int64} {v : Int32} {r : tO × aH × Nat × Nat} (h1 : H[195]? = some (kO 12 fs)) (h2 : fs[0]? = some (.int 0)) (h3 : H[224]? = some (kJ 1 f)) (h4 : f 0 = v.toInt64) (k : RP (L, xs) 2000 mr_law 33 [(4, .int (nI (i + 6))), (3, .ref 225), (2, .ref 196), (1, .ref 1), (0, .ref 0)] [] H kc ks r) : RP (L, xs) 2000 mr_law 1716 [(6, .int v), (5, .int 0), (4, .int (nI i)), (3, .ref 225), (2, .ref 196), (1, .ref 1), (0, .ref 0)] [] H kc ks r := by
  refine RP.blk 1 (pc' := 1717) (lv' := [(6, .int v), (5, .int 0), (4, .int (nI i)), (3, .ref 225), (2, .ref 196), (1, .ref 1), (0, .ref 0)]) (st' := [.ref 196]) (H' := H) (kc' := kc) (ks' := ks) rfl ?_
  refine RP.call (v := some (.int 0)) (st' := []) rfl rfl rfl rfl rfl rfl (args_v0 (a := 195) rfl rfl (by decide) rfl h1 (by decide)) (rc_thrown h1 h2) ?_
  refine seg_RP (f := 0) (d := 1999) 6 (pc' := 1734) (lv' := [(6, .int v), (5, .int 0), (4, .int (nI i)), (3, .ref 225), (2, .ref 196), (1, .ref 1), (0, .ref 0)]) (st' := [.int 0, .ref 225]) (H' := H) (kc' := kc) (ks' := ks) rfl ?_
  refine RP.lald (a := 224) rfl h3 rfl ?_
  rw [show f (Int32.toNatClampNeg 0) = v.toInt64 from h4]
  refine RP.blk 3 (pc' := 1739) (lv' := [(6, .int v), (5, .int 0), (4, .int (nI i)), (3, .ref 225), (2, .ref 196), (1, .ref 1), (0, .ref 0)]) (st' := [.int (lg_cmp v.toInt64 v.toInt64)]) (H' := H) (kc' := kc) (ks' := ks) rfl ?_
  rw [lg_self]
  refine seg_RP (f := 0) (d := 1999) 4 (pc' := 33) (lv' := [(4, .int (nI i + 6)), (6, .int v), (5, .int 0), (3, .ref 225), (2, .ref 196), (1, .ref 1), (0, .ref 0)]) (st' := []) (H' := H) (kc' := kc) (ks' := ks) rfl ?_
  rw [nI_6]
  exact RP.more (by intro q hq; simp only [List.mem_cons, List.not_mem_nil, or_false] at hq ⊢; rcases hq with e | e | e | e | e <;> simp [e]) (show [4, 6, 5, 3, 2, 1, 0].Nodup by decide) k
set_option maxRecDepth 100000 in
set_option maxHeartbeats 1000000 in
theorem tailX_24 {L i : Nat} {xs : Nat → Int32} {kc ks : Nat} {H : aH} {fs : List Value} {v c : Int32} {r : tO × aH × Nat × Nat} (h1 : H[195]? = some (kO 12 fs)) (h2 : fs[0]? = some (.int c)) (h3 : ¬ c = 0) (k : RP (L, xs) 2000 mr_law 33 [(4, .int (nI (i + 6))), (3, .ref 225), (2, .ref 196), (1, .ref 1), (0, .ref 0)] [] H kc ks r) : RP (L, xs) 2000 mr_law 1716 [(6, .int v), (5, .int c), (4, .int (nI i)), (3, .ref 225), (2, .ref 196), (1, .ref 1), (0, .ref 0)] [] H kc ks r := by
  refine RP.blk 1 (pc' := 1717) (lv' := [(6, .int v), (5, .int c), (4, .int (nI i)), (3, .ref 225), (2, .ref 196), (1, .ref 1), (0, .ref 0)]) (st' := [.ref 196]) (H' := H) (kc' := kc) (ks' := ks) rfl ?_
  refine RP.call (v := some (.int c)) (st' := []) rfl rfl rfl rfl rfl rfl (args_v0 (a := 195) rfl rfl (by decide) rfl h1 (by decide)) (rc_thrown h1 h2) ?_
  refine RP.blk 1 (pc' := 1722) (lv' := [(6, .int v), (5, .int c), (4, .int (nI i)), (3, .ref 225), (2, .ref 196), (1, .ref 1), (0, .ref 0)]) (st' := [.int c, .int c]) (H' := H) (kc' := kc) (ks' := ks) rfl ?_
  refine RP.brT rfl rfl rfl (decide_eq_true rfl) ?_
  refine RP.blk 1 (pc' := 1729) (lv' := [(6, .int v), (5, .int c), (4, .int (nI i)), (3, .ref 225), (2, .ref 196), (1, .ref 1), (0, .ref 0)]) (st' := [.int c]) (H' := H) (kc' := kc) (ks' := ks) rfl ?_
  refine RP.brT rfl rfl rfl (bnt h3) ?_
  refine seg_RP (f := 0) (d := 1999) 3 (pc' := 33) (lv' := [(4, .int (nI i + 6)), (6, .int v), (5, .int c), (3, .ref 225), (2, .ref 196), (1, .ref 1), (0, .ref 0)]) (st' := []) (H' := H) (kc' := kc) (ks' := ks) rfl ?_
  rw [nI_6]
  exact RP.more (by intro q hq; simp only [List.mem_cons, List.not_mem_nil, or_false] at hq ⊢; rcases hq with e | e | e | e | e <;> simp [e]) (show [4, 6, 5, 3, 2, 1, 0].Nodup by decide) k
set_option maxRecDepth 100000 in
set_option maxHeartbeats 1000000 in
theorem tail_25 {L i : Nat} {xs : Nat → Int32} {kc ks : Nat} {H : aH} {fs : List Value} {f : Nat → Int64} {v : Int32} {r : tO × aH × Nat × Nat} (h1 : H[195]? = some (kO 12 fs)) (h2 : fs[0]? = some (.int 0)) (h3 : H[224]? = some (kJ 1 f)) (h4 : f 0 = v.toInt64) (k : RP (L, xs) 2000 mr_law 33 [(4, .int (nI (i + 6))), (3, .ref 225), (2, .ref 196), (1, .ref 1), (0, .ref 0)] [] H kc ks r) : RP (L, xs) 2000 mr_law 1784 [(6, .int v), (5, .int 0), (4, .int (nI i)), (3, .ref 225), (2, .ref 196), (1, .ref 1), (0, .ref 0)] [] H kc ks r := by
  refine RP.blk 1 (pc' := 1785) (lv' := [(6, .int v), (5, .int 0), (4, .int (nI i)), (3, .ref 225), (2, .ref 196), (1, .ref 1), (0, .ref 0)]) (st' := [.ref 196]) (H' := H) (kc' := kc) (ks' := ks) rfl ?_
  refine RP.call (v := some (.int 0)) (st' := []) rfl rfl rfl rfl rfl rfl (args_v0 (a := 195) rfl rfl (by decide) rfl h1 (by decide)) (rc_thrown h1 h2) ?_
  refine seg_RP (f := 0) (d := 1999) 6 (pc' := 1802) (lv' := [(6, .int v), (5, .int 0), (4, .int (nI i)), (3, .ref 225), (2, .ref 196), (1, .ref 1), (0, .ref 0)]) (st' := [.int 0, .ref 225]) (H' := H) (kc' := kc) (ks' := ks) rfl ?_
  refine RP.lald (a := 224) rfl h3 rfl ?_
  rw [show f (Int32.toNatClampNeg 0) = v.toInt64 from h4]
  refine RP.blk 3 (pc' := 1807) (lv' := [(6, .int v), (5, .int 0), (4, .int (nI i)), (3, .ref 225), (2, .ref 196), (1, .ref 1), (0, .ref 0)]) (st' := [.int (lg_cmp v.toInt64 v.toInt64)]) (H' := H) (kc' := kc) (ks' := ks) rfl ?_
  rw [lg_self]
  refine seg_RP (f := 0) (d := 1999) 4 (pc' := 33) (lv' := [(4, .int (nI i + 6)), (6, .int v), (5, .int 0), (3, .ref 225), (2, .ref 196), (1, .ref 1), (0, .ref 0)]) (st' := []) (H' := H) (kc' := kc) (ks' := ks) rfl ?_
  rw [nI_6]
  exact RP.more (by intro q hq; simp only [List.mem_cons, List.not_mem_nil, or_false] at hq ⊢; rcases hq with e | e | e | e | e <;> simp [e]) (show [4, 6, 5, 3, 2, 1, 0].Nodup by decide) k
set_option maxRecDepth 100000 in
set_option maxHeartbeats 1000000 in
theorem tailX_25 {L i : Nat} {xs : Nat → Int32} {kc ks : Nat} {H : aH} {fs : List Value} {v c : Int32} {r : tO × aH × Nat × Nat} (h1 : H[195]? = some (kO 12 fs)) (h2 : fs[0]? = some (.int c)) (h3 : ¬ c = 0) (k : RP (L, xs) 2000 mr_law 33 [(4, .int (nI (i + 6))), (3, .ref 225), (2, .ref 196), (1, .ref 1), (0, .ref 0)] [] H kc ks r) : RP (L, xs) 2000 mr_law 1784 [(6, .int v), (5, .int c), (4, .int (nI i)), (3, .ref 225), (2, .ref 196), (1, .ref 1), (0, .ref 0)] [] H kc ks r := by
  refine RP.blk 1 (pc' := 1785) (lv' := [(6, .int v), (5, .int c), (4, .int (nI i)), (3, .ref 225), (2, .ref 196), (1, .ref 1), (0, .ref 0)]) (st' := [.ref 196]) (H' := H) (kc' := kc) (ks' := ks) rfl ?_
  refine RP.call (v := some (.int c)) (st' := []) rfl rfl rfl rfl rfl rfl (args_v0 (a := 195) rfl rfl (by decide) rfl h1 (by decide)) (rc_thrown h1 h2) ?_
  refine RP.blk 1 (pc' := 1790) (lv' := [(6, .int v), (5, .int c), (4, .int (nI i)), (3, .ref 225), (2, .ref 196), (1, .ref 1), (0, .ref 0)]) (st' := [.int c, .int c]) (H' := H) (kc' := kc) (ks' := ks) rfl ?_
  refine RP.brT rfl rfl rfl (decide_eq_true rfl) ?_
  refine RP.blk 1 (pc' := 1797) (lv' := [(6, .int v), (5, .int c), (4, .int (nI i)), (3, .ref 225), (2, .ref 196), (1, .ref 1), (0, .ref 0)]) (st' := [.int c]) (H' := H) (kc' := kc) (ks' := ks) rfl ?_
  refine RP.brT rfl rfl rfl (bnt h3) ?_
  refine seg_RP (f := 0) (d := 1999) 3 (pc' := 33) (lv' := [(4, .int (nI i + 6)), (6, .int v), (5, .int c), (3, .ref 225), (2, .ref 196), (1, .ref 1), (0, .ref 0)]) (st' := []) (H' := H) (kc' := kc) (ks' := ks) rfl ?_
  rw [nI_6]
  exact RP.more (by intro q hq; simp only [List.mem_cons, List.not_mem_nil, or_false] at hq ⊢; rcases hq with e | e | e | e | e <;> simp [e]) (show [4, 6, 5, 3, 2, 1, 0].Nodup by decide) k
set_option maxRecDepth 100000 in
set_option maxHeartbeats 1000000 in
theorem tail_26 {L i : Nat} {xs : Nat → Int32} {kc ks : Nat} {H : aH} {fs : List Value} {f : Nat → Int64} {v : Int32} {r : tO × aH × Nat × Nat} (h1 : H[195]? = some (kO 12 fs)) (h2 : fs[0]? = some (.int 0)) (h3 : H[224]? = some (kJ 1 f)) (h4 : f 0 = v.toInt64) (k : RP (L, xs) 2000 mr_law 33 [(4, .int (nI (i + 6))), (3, .ref 225), (2, .ref 196), (1, .ref 1), (0, .ref 0)] [] H kc ks r) : RP (L, xs) 2000 mr_law 1852 [(6, .int v), (5, .int 0), (4, .int (nI i)), (3, .ref 225), (2, .ref 196), (1, .ref 1), (0, .ref 0)] [] H kc ks r := by
  refine RP.blk 1 (pc' := 1853) (lv' := [(6, .int v), (5, .int 0), (4, .int (nI i)), (3, .ref 225), (2, .ref 196), (1, .ref 1), (0, .ref 0)]) (st' := [.ref 196]) (H' := H) (kc' := kc) (ks' := ks) rfl ?_
  refine RP.call (v := some (.int 0)) (st' := []) rfl rfl rfl rfl rfl rfl (args_v0 (a := 195) rfl rfl (by decide) rfl h1 (by decide)) (rc_thrown h1 h2) ?_
  refine seg_RP (f := 0) (d := 1999) 6 (pc' := 1870) (lv' := [(6, .int v), (5, .int 0), (4, .int (nI i)), (3, .ref 225), (2, .ref 196), (1, .ref 1), (0, .ref 0)]) (st' := [.int 0, .ref 225]) (H' := H) (kc' := kc) (ks' := ks) rfl ?_
  refine RP.lald (a := 224) rfl h3 rfl ?_
  rw [show f (Int32.toNatClampNeg 0) = v.toInt64 from h4]
  refine RP.blk 3 (pc' := 1875) (lv' := [(6, .int v), (5, .int 0), (4, .int (nI i)), (3, .ref 225), (2, .ref 196), (1, .ref 1), (0, .ref 0)]) (st' := [.int (lg_cmp v.toInt64 v.toInt64)]) (H' := H) (kc' := kc) (ks' := ks) rfl ?_
  rw [lg_self]
  refine seg_RP (f := 0) (d := 1999) 4 (pc' := 33) (lv' := [(4, .int (nI i + 6)), (6, .int v), (5, .int 0), (3, .ref 225), (2, .ref 196), (1, .ref 1), (0, .ref 0)]) (st' := []) (H' := H) (kc' := kc) (ks' := ks) rfl ?_
  rw [nI_6]
  exact RP.more (by intro q hq; simp only [List.mem_cons, List.not_mem_nil, or_false] at hq ⊢; rcases hq with e | e | e | e | e <;> simp [e]) (show [4, 6, 5, 3, 2, 1, 0].Nodup by decide) k
set_option maxRecDepth 100000 in
set_option maxHeartbeats 1000000 in
theorem tailX_26 {L i : Nat} {xs : Nat → Int32} {kc ks : Nat} {H : aH} {fs : List Value} {v c : Int32} {r : tO × aH × Nat × Nat} (h1 : H[195]? = some (kO 12 fs)) (h2 : fs[0]? = some (.int c)) (h3 : ¬ c = 0) (k : RP (L, xs) 2000 mr_law 33 [(4, .int (nI (i + 6))), (3, .ref 225), (2, .ref 196), (1, .ref 1), (0, .ref 0)] [] H kc ks r) : RP (L, xs) 2000 mr_law 1852 [(6, .int v), (5, .int c), (4, .int (nI i)), (3, .ref 225), (2, .ref 196), (1, .ref 1), (0, .ref 0)] [] H kc ks r := by
  refine RP.blk 1 (pc' := 1853) (lv' := [(6, .int v), (5, .int c), (4, .int (nI i)), (3, .ref 225), (2, .ref 196), (1, .ref 1), (0, .ref 0)]) (st' := [.ref 196]) (H' := H) (kc' := kc) (ks' := ks) rfl ?_
  refine RP.call (v := some (.int c)) (st' := []) rfl rfl rfl rfl rfl rfl (args_v0 (a := 195) rfl rfl (by decide) rfl h1 (by decide)) (rc_thrown h1 h2) ?_
  refine RP.blk 1 (pc' := 1858) (lv' := [(6, .int v), (5, .int c), (4, .int (nI i)), (3, .ref 225), (2, .ref 196), (1, .ref 1), (0, .ref 0)]) (st' := [.int c, .int c]) (H' := H) (kc' := kc) (ks' := ks) rfl ?_
  refine RP.brT rfl rfl rfl (decide_eq_true rfl) ?_
  refine RP.blk 1 (pc' := 1865) (lv' := [(6, .int v), (5, .int c), (4, .int (nI i)), (3, .ref 225), (2, .ref 196), (1, .ref 1), (0, .ref 0)]) (st' := [.int c]) (H' := H) (kc' := kc) (ks' := ks) rfl ?_
  refine RP.brT rfl rfl rfl (bnt h3) ?_
  refine seg_RP (f := 0) (d := 1999) 3 (pc' := 33) (lv' := [(4, .int (nI i + 6)), (6, .int v), (5, .int c), (3, .ref 225), (2, .ref 196), (1, .ref 1), (0, .ref 0)]) (st' := []) (H' := H) (kc' := kc) (ks' := ks) rfl ?_
  rw [nI_6]
  exact RP.more (by intro q hq; simp only [List.mem_cons, List.not_mem_nil, or_false] at hq ⊢; rcases hq with e | e | e | e | e <;> simp [e]) (show [4, 6, 5, 3, 2, 1, 0].Nodup by decide) k
set_option maxRecDepth 100000 in
set_option maxHeartbeats 1000000 in
theorem tail_27 {L i : Nat} {xs : Nat → Int32} {kc ks : Nat} {H : aH} {fs : List Value} {f : Nat → Int64} {v : Int32} {r : tO × aH × Nat × Nat} (h1 : H[195]? = some (kO 12 fs)) (h2 : fs[0]? = some (.int 0)) (h3 : H[224]? = some (kJ 1 f)) (h4 : f 0 = v.toInt64) (k : RP (L, xs) 2000 mr_law 33 [(4, .int (nI (i + 6))), (3, .ref 225), (2, .ref 196), (1, .ref 1), (0, .ref 0)] [] H kc ks r) : RP (L, xs) 2000 mr_law 1920 [(6, .int v), (5, .int 0), (4, .int (nI i)), (3, .ref 225), (2, .ref 196), (1, .ref 1), (0, .ref 0)] [] H kc ks r := by
  refine RP.blk 1 (pc' := 1921) (lv' := [(6, .int v), (5, .int 0), (4, .int (nI i)), (3, .ref 225), (2, .ref 196), (1, .ref 1), (0, .ref 0)]) (st' := [.ref 196]) (H' := H) (kc' := kc) (ks' := ks) rfl ?_
  refine RP.call (v := some (.int 0)) (st' := []) rfl rfl rfl rfl rfl rfl (args_v0 (a := 195) rfl rfl (by decide) rfl h1 (by decide)) (rc_thrown h1 h2) ?_
  refine seg_RP (f := 0) (d := 1999) 6 (pc' := 1938) (lv' := [(6, .int v), (5, .int 0), (4, .int (nI i)), (3, .ref 225), (2, .ref 196), (1, .ref 1), (0, .ref 0)]) (st' := [.int 0, .ref 225]) (H' := H) (kc' := kc) (ks' := ks) rfl ?_
  refine RP.lald (a := 224) rfl h3 rfl ?_
  rw [show f (Int32.toNatClampNeg 0) = v.toInt64 from h4]
  refine RP.blk 3 (pc' := 1943) (lv' := [(6, .int v), (5, .int 0), (4, .int (nI i)), (3, .ref 225), (2, .ref 196), (1, .ref 1), (0, .ref 0)]) (st' := [.int (lg_cmp v.toInt64 v.toInt64)]) (H' := H) (kc' := kc) (ks' := ks) rfl ?_
  rw [lg_self]
  refine seg_RP (f := 0) (d := 1999) 4 (pc' := 33) (lv' := [(4, .int (nI i + 6)), (6, .int v), (5, .int 0), (3, .ref 225), (2, .ref 196), (1, .ref 1), (0, .ref 0)]) (st' := []) (H' := H) (kc' := kc) (ks' := ks) rfl ?_
  rw [nI_6]
  exact RP.more (by intro q hq; simp only [List.mem_cons, List.not_mem_nil, or_false] at hq ⊢; rcases hq with e | e | e | e | e <;> simp [e]) (show [4, 6, 5, 3, 2, 1, 0].Nodup by decide) k
set_option maxRecDepth 100000 in
set_option maxHeartbeats 1000000 in
theorem tailX_27 {L i : Nat} {xs : Nat → Int32} {kc ks : Nat} {H : aH} {fs : List Value} {v c : Int32} {r : tO × aH × Nat × Nat} (h1 : H[195]? = some (kO 12 fs)) (h2 : fs[0]? = some (.int c)) (h3 : ¬ c = 0) (k : RP (L, xs) 2000 mr_law 33 [(4, .int (nI (i + 6))), (3, .ref 225), (2, .ref 196), (1, .ref 1), (0, .ref 0)] [] H kc ks r) : RP (L, xs) 2000 mr_law 1920 [(6, .int v), (5, .int c), (4, .int (nI i)), (3, .ref 225), (2, .ref 196), (1, .ref 1), (0, .ref 0)] [] H kc ks r := by
  refine RP.blk 1 (pc' := 1921) (lv' := [(6, .int v), (5, .int c), (4, .int (nI i)), (3, .ref 225), (2, .ref 196), (1, .ref 1), (0, .ref 0)]) (st' := [.ref 196]) (H' := H) (kc' := kc) (ks' := ks) rfl ?_
  refine RP.call (v := some (.int c)) (st' := []) rfl rfl rfl rfl rfl rfl (args_v0 (a := 195) rfl rfl (by decide) rfl h1 (by decide)) (rc_thrown h1 h2) ?_
  refine RP.blk 1 (pc' := 1926) (lv' := [(6, .int v), (5, .int c), (4, .int (nI i)), (3, .ref 225), (2, .ref 196), (1, .ref 1), (0, .ref 0)]) (st' := [.int c, .int c]) (H' := H) (kc' := kc) (ks' := ks) rfl ?_
  refine RP.brT rfl rfl rfl (decide_eq_true rfl) ?_
  refine RP.blk 1 (pc' := 1933) (lv' := [(6, .int v), (5, .int c), (4, .int (nI i)), (3, .ref 225), (2, .ref 196), (1, .ref 1), (0, .ref 0)]) (st' := [.int c]) (H' := H) (kc' := kc) (ks' := ks) rfl ?_
  refine RP.brT rfl rfl rfl (bnt h3) ?_
  refine seg_RP (f := 0) (d := 1999) 3 (pc' := 33) (lv' := [(4, .int (nI i + 6)), (6, .int v), (5, .int c), (3, .ref 225), (2, .ref 196), (1, .ref 1), (0, .ref 0)]) (st' := []) (H' := H) (kc' := kc) (ks' := ks) rfl ?_
  rw [nI_6]
  exact RP.more (by intro q hq; simp only [List.mem_cons, List.not_mem_nil, or_false] at hq ⊢; rcases hq with e | e | e | e | e <;> simp [e]) (show [4, 6, 5, 3, 2, 1, 0].Nodup by decide) k
